/-! PURE PART: room: who is chosen -/
theorem q_mm (v : Nat) : nI (v + 1) - (1 : Int32) = nI v := q_m1 v
theorem q_neg1 (x : Int32) : x + (-1 : Int32) = x - (1 : Int32) := by
  rw [Int32.sub_eq_add_neg]
theorem s_choiceM {E : EN} {S : ST} {kh : ST → Int32 → Int32 → Int32 → Int32 → Option (Int32 × ST)} {A C n : Nat} {f : Nat → Nat} {v2 v5 : Int32} (hN : 300 ≤ E.1) (h8 : n ≤ 8) (hA : A < 256) (hC : C < 256) (h76 : ∀ i, i < n → gL S 76 0 i = lN (f i)) (hf : ∀ i, f i ≤ 10000) :
    f_X7_room_b229 E kh E.1 S (nI A) v2 (nI C) v5 (-1 : Int32) (nI n - (1 : Int32)) = f_X7_room_b287 E kh S (nI A) v2 (nI C) v5 (bsE (bsU (fun i => A.testBit i && !C.testBit i) f n)) := by
  rw [← bsD_U]
  have h := lpN (σ := Nat) (φ := fun m q => f_X7_room_b229 E kh m S (nI A) v2 (nI C) v5 (bsE (bsD (fun i => A.testBit i && !C.testBit i) f n q)) (nI (n - q) - (1 : Int32))) (T := fun q => q) (N := n) (n := E.1) (r := f_X7_room_b287 E kh S (nI A) v2 (nI C) v5 (bsE (bsD (fun i => A.testBit i && !C.testBit i) f n n))) (fun m q hq => by
    show g_X7_room_b229 E kh (f_X7_room_b229 E kh m) S _ _ _ _ _ _ = _
    unfold g_X7_room_b229
    obtain ⟨v, hv⟩ : ∃ v, v = n - 1 - q := ⟨_, rfl⟩
    have ev : n - q = v + 1 := by omega
    have ev2 : n - (q + 1) = v := by omega
    have sp := bsD_spec (fun i => A.testBit i && !C.testBit i) f n q (by omega)
    rw [ev, q_mm, if_neg (q_n0 (by omega)), q_tb hA (show v < 8 by omega), q_tb hC (show v < 8 by omega), ev2, show bsD (fun i => A.testBit i && !C.testBit i) f n (q + 1) = if (fun i => A.testBit i && !C.testBit i) (n - 1 - q) = true then (match bsD (fun i => A.testBit i && !C.testBit i) f n q with
      | none => some (n - 1 - q)
      | some j => if f (n - 1 - q) < f j then some j else some (n - 1 - q)) else bsD (fun i => A.testBit i && !C.testBit i) f n q from rfl, ← hv]
    have same : ∀ x : Int32, f_X7_room_b281 E kh (f_X7_room_b229 E kh m) S (nI A) v2 (nI C) v5 x (nI v) = f_X7_room_b229 E kh m S (nI A) v2 (nI C) v5 x (nI v - (1 : Int32)) := fun x => by
      unfold f_X7_room_b281
      rw [lt_e, q_neg1]
    by_cases z : A.testBit v = true
    · rw [if_pos z, if_pos rfl]
      by_cases y : C.testBit v = true
      · rw [if_pos y, if_neg (show ¬ (1 : Int32) = 0 by decide), same, if_neg (show ¬ ((fun i => A.testBit i && !C.testBit i) v = true) by show ¬ ((A.testBit v && !C.testBit v) = true); rw [z, y]; decide)]
      · rw [if_neg y, if_pos rfl, if_pos (show (fun i => A.testBit i && !C.testBit i) v = true by show (A.testBit v && !C.testBit v) = true; rw [z, Bool.eq_false_iff.mpr y]; rfl)]
        have hfv := hf v
        rcases hb : bsD (fun i => A.testBit i && !C.testBit i) f n q with _ | j
        · rw [if_pos (show bsE none < 0 by decide)]
          unfold f_X7_room_b277
          rw [same]
          rfl
        · rw [hb] at sp
          have hj : j < n := sp.1.2
          have hfj := hf j
          rw [if_neg (show ¬ bsE (some j) < 0 from q_n0 (by omega)), ck_in (ib_nI (by omega) (by decide)), ck_in (show ib_ (bsE (some j)) 8 = true from ib_nI (by omega) (by decide)), q_cl (show v < 2147483648 by omega), show (bsE (some j)).toNatClampNeg = j from q_cl (by omega), h76 v (by omega), h76 j hj]
          show _ = f_X7_room_b229 E kh m S (nI A) v2 (nI C) v5 (bsE (if f v < f j then some j else some v)) (nI v - (1 : Int32))
          by_cases x : f v < f j
          · rw [if_pos (by rw [w_lt (by omega) (by omega)]; exact x), if_pos x, same]
          · rw [if_neg (by rw [w_lt (by omega) (by omega)]; exact x), if_neg x]
            unfold f_X7_room_b277
            rw [same]
            rfl
    · rw [if_neg z, if_neg (show ¬ (0 : Int32) = 1 by decide), same, if_neg (show ¬ ((fun i => A.testBit i && !C.testBit i) v = true) by show ¬ ((A.testBit v && !C.testBit v) = true); rw [Bool.eq_false_iff.mpr z, Bool.false_and]; decide)]) (fun m => by
    show f_X7_room_b229 E kh (m + 1) S (nI A) v2 (nI C) v5 (bsE (bsD (fun i => A.testBit i && !C.testBit i) f n n)) (nI (n - n) - (1 : Int32)) = _
    rw [show f_X7_room_b229 E kh (m + 1) = g_X7_room_b229 E kh (f_X7_room_b229 E kh m) from rfl]
    unfold g_X7_room_b229
    rw [Nat.sub_self, if_pos (show nI 0 - (1 : Int32) < 0 by decide)]) (by omega)
  have h' : f_X7_room_b229 E kh E.1 S (nI A) v2 (nI C) v5 (-1 : Int32) (nI (n - 0) - (1 : Int32)) = _ := h
  rw [Nat.sub_zero] at h'
  exact h'
/-- who is chosen, behind so many -/
def chs (A n : Nat) (f : Nat → Nat) : Nat → Nat
  | 0 => 0
  | v + 1 => match bsU (fun i => A.testBit i && !(chs A n f v).testBit i) f n with
    | none => chs A n f v
    | some j => chs A n f v ||| 2 ^ j
theorem chs_s (A n : Nat) (f : Nat → Nat) (v : Nat) : chs A n f (v + 1) = match bsU (fun i => A.testBit i && !(chs A n f v).testBit i) f n with
    | none => chs A n f v
    | some j => chs A n f v ||| 2 ^ j := rfl
theorem chs_ok {A n : Nat} {f : Nat → Nat} (h8 : n ≤ 8) : ∀ v, chs A n f v < 256 ∧ ∀ i, (chs A n f v).testBit i = true → A.testBit i = true
  | 0 => ⟨show 0 < 256 by decide, fun i h => by rw [show chs A n f 0 = 0 from rfl, Nat.zero_testBit] at h; cases h⟩
  | v + 1 => by
    obtain ⟨i1, i2⟩ := chs_ok (A := A) (f := f) h8 v
    have sp := bsU_spec (fun i => A.testBit i && !(chs A n f v).testBit i) f n
    rw [chs_s]
    rcases hb : bsU (fun i => A.testBit i && !(chs A n f v).testBit i) f n with _ | j
    · exact ⟨i1, i2⟩
    · rw [hb] at sp
      obtain ⟨s1, s2, -⟩ := sp
      have s1 : j < n := s1
      have s2 : (A.testBit j && !(chs A n f v).testBit j) = true := s2
      refine ⟨or_lt i1 (by omega), fun i h => ?_⟩
      have h : (chs A n f v ||| 2 ^ j).testBit i = true := h
      rw [tb_or, Bool.or_eq_true, decide_eq_true_eq] at h
      rcases h with h | rfl
      · exact i2 i h
      · exact ((Bool.and_eq_true _ _).mp s2).1
/-- when all are chosen, it stays so -/
theorem chs_all {A n : Nat} {f : Nat → Nat} {v : Nat} (h : chs A n f v = A) : ∀ q, chs A n f (v + q) = A
  | 0 => h
  | q + 1 => by
    have ih := chs_all (f := f) h q
    rw [show v + (q + 1) = (v + q) + 1 from rfl, chs_s, ih]
    have sp := bsU_spec (fun i => A.testBit i && !A.testBit i) f n
    rcases hb : bsU (fun i => A.testBit i && !A.testBit i) f n with _ | j
    · rfl
    · rw [hb] at sp
      have s2 : (A.testBit j && !A.testBit j) = true := sp.2.1
      rw [Bool.and_not_self] at s2
      cases s2
/-- who is not yet all, has another -/
theorem chs_more {A n : Nat} {f : Nat → Nat} {v : Nat} (h8 : n ≤ 8) (hA : A < 2 ^ n) (h : chs A n f v ≠ A) : ∃ j, j < n ∧ bsU (fun i => A.testBit i && !(chs A n f v).testBit i) f n = some j := by
  have sp := bsU_spec (fun i => A.testBit i && !(chs A n f v).testBit i) f n
  rcases hb : bsU (fun i => A.testBit i && !(chs A n f v).testBit i) f n with _ | j
  · rw [hb] at sp
    exfalso
    refine h (Nat.eq_of_testBit_eq fun i => ?_)
    have ok := (chs_ok (A := A) (f := f) h8 v).2 i
    by_cases hi : i < n
    · have := sp i hi
      have e : (A.testBit i && !(chs A n f v).testBit i) = false := this
      rcases ha : A.testBit i with _ | _
      · rcases hc : (chs A n f v).testBit i with _ | _
        · rfl
        · rw [ok hc] at ha; cases ha
      · rw [ha, Bool.true_and] at e
        rcases hc : (chs A n f v).testBit i with _ | _
        · rw [hc] at e; cases e
        · rfl
    · have hA2 : A.testBit i = false := Nat.testBit_lt_two_pow (Nat.lt_of_lt_of_le hA (Nat.pow_le_pow_right (by decide) (by omega)))
      rcases hc : (chs A n f v).testBit i with _ | _
      · exact hA2.symm
      · rw [ok hc] at hA2; cases hA2
  · rw [hb] at sp
    exact ⟨j, sp.1, rfl⟩
theorem s_chosenC {E : EN} {S : ST} {A b : Nat} {f : Nat → Nat} (hN : 300 ≤ E.1) (h8 : E.2.1 ≤ 8) (hA : A < 2 ^ E.2.1) (hb : b ≤ 8) (hn : gI S 2 0 1 = nI E.2.1) (h7 : ∀ i, i < E.2.1 → gL S 7 0 i = lN (f i)) (hf : ∀ i, f i ≤ 10000) :
    f_X6_room_b163 E S (nI A) (nI b) = some (nI (chs A E.2.1 f b), S) := by
  have hA8 : A < 256 := Nat.lt_of_lt_of_le hA (Nat.pow_le_pow_right (by decide) h8 : 2 ^ E.2.1 ≤ 2 ^ 8)
  have main : ∀ (q v m : Nat), v + q = b → q < m → f_X6_room_b169 E m S (nI A) (nI b) (nI (chs A E.2.1 f v)) (nI v) = some (nI (chs A E.2.1 f b), S) := by
    intro q
    induction q with
    | zero =>
      intro v m hv hm
      obtain ⟨m, rfl⟩ : ∃ k, m = k + 1 := ⟨m - 1, by omega⟩
      rw [show f_X6_room_b169 E (m + 1) = g_X6_room_b169 E (f_X6_room_b169 E m) from rfl]
      unfold g_X6_room_b169
      rw [if_pos (by rw [q_le (by omega) (by omega)]; omega), show v = b by omega]
    | succ q ih =>
      intro v m hv hm
      obtain ⟨m, rfl⟩ : ∃ k, m = k + 1 := ⟨m - 1, by omega⟩
      obtain ⟨c1, c2⟩ := chs_ok (A := A) (f := f) h8 v
      rw [show f_X6_room_b169 E (m + 1) = g_X6_room_b169 E (f_X6_room_b169 E m) from rfl]
      unfold g_X6_room_b169
      rw [if_neg (by rw [q_le (by omega) (by omega)]; omega)]
      by_cases z : chs A E.2.1 f v = A
      · rw [if_pos (by rw [z])]
        have := chs_all (f := f) z (q + 1)
        rw [hv] at this
        rw [z, this]
      · obtain ⟨j, hj, hb2⟩ := chs_more (f := f) h8 hA z
        have hL := s_likeliest (E := E) (S := S) (A := A &&& (255 ^^^ chs A E.2.1 f v)) (f := f) hN h8 (Nat.lt_of_le_of_lt Nat.and_le_left hA8) hn h7 hf
        rw [bsU_cong (sel' := fun i => A.testBit i && !(chs A E.2.1 f v).testBit i) (fun i hi => tb_cmp (by omega)), hb2] at hL
        have hL : f_X6_likeliest E S (nI (A &&& (255 ^^^ chs A E.2.1 f v))) = some (nI j) := hL
        rw [if_neg (by rw [nI_eq (by omega) (by omega)]; exact z), q_cmp hA8 c1, bd_some hL, lt_e, lt_e, q_sh8 (by omega), q_orb, nI_1]
        have e : chs A E.2.1 f (v + 1) = chs A E.2.1 f v ||| 2 ^ j := by rw [chs_s, hb2]
        rw [← e]
        exact ih (v + 1) m (by omega) (by omega)
  unfold f_X6_room_b163
  exact main b 0 E.1 (by omega) (by omega)
theorem s_chosenM {E : EN} {S : ST} {A b : Nat} {f : Nat → Nat} (hN : 300 ≤ E.1) (h8 : E.2.1 ≤ 8) (hA : A < 2 ^ E.2.1) (hb : b ≤ 8) (hn : gI S 1 0 0 = nI E.2.1) (h76 : ∀ i, i < E.2.1 → gL S 76 0 i = lN (f i)) (hf : ∀ i, f i ≤ 10000) :
    f_X7_room_b206 E S (nI A) (nI b) = some (nI (chs A E.2.1 f b), S) := by
  have hA8 : A < 256 := Nat.lt_of_lt_of_le hA (Nat.pow_le_pow_right (by decide) h8 : 2 ^ E.2.1 ≤ 2 ^ 8)
  unfold f_X7_room_b206
  have h := lpN (σ := Nat) (φ := fun m v => f_X7_room_b212 E m S (nI A) (nI b) (nI (chs A E.2.1 f v)) (nI v)) (T := fun v => v) (N := b) (n := E.1) (r := some (nI (chs A E.2.1 f b), S)) (fun m v hv => by
    show g_X7_room_b212 E (f_X7_room_b212 E m) S _ _ _ _ = _
    unfold g_X7_room_b212
    obtain ⟨c1, c2⟩ := chs_ok (A := A) (f := f) h8 v
    have sp := bsU_spec (fun i => A.testBit i && !(chs A E.2.1 f v).testBit i) f E.2.1
    rw [if_neg (by rw [q_le (by omega) (by omega)]; omega), lt_e, hn, s_choiceM hN h8 hA8 c1 h76 hf, chs_s]
    unfold f_X7_room_b287 f_X7_room_b302
    rcases hb2 : bsU (fun i => A.testBit i && !(chs A E.2.1 f v).testBit i) f E.2.1 with _ | j
    · rw [if_neg (show ¬ (0 : Int32) ≤ bsE none by decide), lt_e, lt_e, nI_1, show (0 : Int32) = nI 0 from rfl, q_orb, Nat.or_zero]
    · rw [hb2] at sp
      have hj : j < E.2.1 := sp.1
      rw [if_pos (show (0 : Int32) ≤ bsE (some j) from nI_pos' (by omega)), lt_e, lt_e, nI_1, show bsE (some j) = nI j from rfl, q_sh8 (by omega), q_orb]) (fun m => by
    show f_X7_room_b212 E (m + 1) S (nI A) (nI b) (nI (chs A E.2.1 f b)) (nI b) = _
    rw [show f_X7_room_b212 E (m + 1) = g_X7_room_b212 E (f_X7_room_b212 E m) from rfl]
    unfold g_X7_room_b212
    rw [if_pos (by rw [q_le (by omega) (by omega)]; omega)]) (by omega)
  exact h
