/-! PURE PART: cut -/
theorem q_tb10 {c i : Nat} (hc : c < 1024) (hi : i < 10) : ((nI c >>> (nI i &&& 31)) &&& (1 : Int32)) = if c.testBit i = true then 1 else 0 := by
  have all : ∀ i, i < 10 → ∀ c, c < 1024 → ((nI c >>> (nI i &&& 31)) &&& (1 : Int32)) = if c.testBit i = true then 1 else 0 := by decide +kernel
  exact all i hi c hc
theorem bcP_1024 {M : Nat} (h : M < 1024) : bcP (nI M) = nI (pcN 10 M) := by
  have all : ∀ M, M < 1024 → bcP (nI M) = nI (pcN 10 M) := by decide +kernel
  exact all M h
theorem pcN_up {e s : Nat} (h : e < 2 ^ s) : ∀ d, pcN (s + d) e = pcN s e
  | 0 => rfl
  | d + 1 => by
    show pcN (s + d) e + e / 2 ^ (s + d) % 2 = pcN s e
    rw [pcN_up h d, Nat.div_eq_of_lt (Nat.lt_of_lt_of_le h (Nat.pow_le_pow_right (by decide) (by omega)))]
    rfl
theorem pcN_le (e : Nat) : ∀ q, pcN q e ≤ q
  | 0 => Nat.le_refl _
  | q + 1 => by
    have := pcN_le e q
    have h2 : e / 2 ^ q % 2 < 2 := Nat.mod_lt _ (by decide)
    show pcN q e + e / 2 ^ q % 2 ≤ q + 1
    omega
/-- squares so far, and the sum of the class that is open -/
def sqI (it : Nat → Int32) (e : Nat) : Nat → Int32 × Int32
  | 0 => (0, 0)
  | i + 1 => if e.testBit i = true then ((sqI it e i).1 + ((sqI it e i).2 + it i) * ((sqI it e i).2 + it i), 0) else ((sqI it e i).1, (sqI it e i).2 + it i)
theorem s_squares {E : EN} {S : ST} {tt s e : Nat} {it : Nat → Int32} (hN : 300 ≤ E.1) (hs : s ≤ 10) (he : e < 1024) (h24 : gI S 24 tt 1 = nI s) (h25 : ∀ i, i < s → gI S 25 tt i = it i) : f_X4_squares E tt S (nI e) = some (sqI it e s).1 := by
  unfold f_X4_squares
  have h := lpN (σ := Nat) (φ := fun m v => f_X4_squares_b7 E tt m S (nI e) (sqI it e v).1 (sqI it e v).2 (nI v)) (T := fun v => v) (N := s) (n := E.1) (r := some (sqI it e s).1) (fun m v hv => by
    show g_X4_squares_b7 E tt (f_X4_squares_b7 E tt m) S _ _ _ _ = _
    unfold g_X4_squares_b7 f_X4_squares_b44
    rw [h24, if_neg (by rw [q_le (by omega) (by omega)]; omega), ck_in (ib_nI (by omega) (by decide)), q_cl (by omega), h25 v hv, lt_e, q_tb10 he (show v < 10 by omega), show sqI it e (v + 1) = if e.testBit v = true then ((sqI it e v).1 + ((sqI it e v).2 + it v) * ((sqI it e v).2 + it v), 0) else ((sqI it e v).1, (sqI it e v).2 + it v) from rfl]
    by_cases z : e.testBit v = true
    · rw [if_pos z, if_pos rfl, if_pos z, lt_e, lt_e, nI_1]
    · rw [if_neg z, if_neg (show ¬ (0 : Int32) = 1 by decide), if_neg z, lt_e, nI_1]) (fun m => by
    show f_X4_squares_b7 E tt (m + 1) S (nI e) (sqI it e s).1 (sqI it e s).2 (nI s) = _
    rw [show f_X4_squares_b7 E tt (m + 1) = g_X4_squares_b7 E tt (f_X4_squares_b7 E tt m) from rfl]
    unfold g_X4_squares_b7
    rw [h24, if_pos (by rw [q_le (by omega) (by omega)]; omega)]) (by omega)
  exact h
/-- the least so far -/
def lsE (P : Nat → Bool) (f : Nat → Int32) (b : Nat) : Nat → Nat × Int32
  | 0 => (0, -1)
  | q + 1 => if P (b + q) = true then (if (lsE P f b q).2 < 0 then (b + q, f (b + q)) else if (lsE P f b q).2 ≤ f (b + q) then lsE P f b q else (b + q, f (b + q))) else lsE P f b q
theorem lsE_ok (P : Nat → Bool) (f : Nat → Int32) (b : Nat) : ∀ q, ((lsE P f b q).2 = f (lsE P f b q).1 ∧ b ≤ (lsE P f b q).1 ∧ (lsE P f b q).1 < b + q) ∨ (lsE P f b q = (0, -1) ∧ ∀ i, i < q → P (b + i) = false)
  | 0 => Or.inr ⟨rfl, fun i hi => absurd hi (by omega)⟩
  | q + 1 => by
    have ih := lsE_ok P f b q
    rw [show lsE P f b (q + 1) = if P (b + q) = true then (if (lsE P f b q).2 < 0 then (b + q, f (b + q)) else if (lsE P f b q).2 ≤ f (b + q) then lsE P f b q else (b + q, f (b + q))) else lsE P f b q from rfl]
    by_cases p : P (b + q) = true
    · rw [if_pos p]
      have new : ((b + q, f (b + q)) : Nat × Int32).2 = f ((b + q, f (b + q)) : Nat × Int32).1 ∧ b ≤ ((b + q, f (b + q)) : Nat × Int32).1 ∧ ((b + q, f (b + q)) : Nat × Int32).1 < b + (q + 1) := ⟨rfl, by show b ≤ b + q; omega, by show b + q < b + (q + 1); omega⟩
      by_cases z : (lsE P f b q).2 < 0
      · rw [if_pos z]; exact Or.inl new
      · rw [if_neg z]
        by_cases y : (lsE P f b q).2 ≤ f (b + q)
        · rw [if_pos y]
          rcases ih with ⟨h1, h2, h3⟩ | ⟨h1, h2⟩
          · exact Or.inl ⟨h1, h2, by omega⟩
          · rw [h1] at z
            exact absurd (show ((0, -1) : Nat × Int32).2 < 0 by decide) z
        · rw [if_neg y]; exact Or.inl new
    · rw [if_neg p]
      rcases ih with ⟨h1, h2, h3⟩ | ⟨h1, h2⟩
      · exact Or.inl ⟨h1, h2, by omega⟩
      · refine Or.inr ⟨h1, fun i hi => ?_⟩
        by_cases z : i = q
        · rw [z]; exact Bool.eq_false_iff.mpr p
        · exact h2 i (by omega)
theorem q_pw10 {s : Nat} (h1 : 1 ≤ s) (h : s ≤ 10) : ((1 : Int32) <<< (nI s &&& 31)) = nI (2 ^ s) ∧ ((1 : Int32) <<< ((nI s - (1 : Int32)) &&& 31)) = nI (2 ^ (s - 1)) ∧ 2 ^ s ≤ 1024 ∧ 2 ^ (s - 1) + 2 ^ (s - 1) = 2 ^ s := by
  have all : ∀ s, s < 11 → 1 ≤ s → ((1 : Int32) <<< (nI s &&& 31)) = nI (2 ^ s) ∧ ((1 : Int32) <<< ((nI s - (1 : Int32)) &&& 31)) = nI (2 ^ (s - 1)) ∧ 2 ^ s ≤ 1024 ∧ 2 ^ (s - 1) + 2 ^ (s - 1) = 2 ^ s := by decide +kernel
  exact all s (by omega) h1
theorem pc_some {s n : Nat} (h1 : 1 ≤ n) (h : n ≤ s) (hs : s ≤ 10) : ∃ i, i < 2 ^ (s - 1) ∧ pcN 10 (2 ^ (s - 1) + i) = n := by
  have all : ∀ s, s < 11 → ∀ n, n < 11 → 1 ≤ n → n ≤ s → 2 ^ (n - 1) - 1 < 2 ^ (s - 1) ∧ pcN 10 (2 ^ (s - 1) + (2 ^ (n - 1) - 1)) = n := by decide +kernel
  exact ⟨2 ^ (n - 1) - 1, all s (by omega) n (by omega) h1 h⟩
abbrev cP (n e : Nat) : Bool := decide (pcN 10 e = n)
theorem s_leastEnds {E : EN} {S : ST} {tt s n : Nat} {it : Nat → Int32} (hN : 3000 ≤ E.1) (hs1 : 1 ≤ s) (hs : s ≤ 10) (hn : n ≤ 10) (h24 : gI S 24 tt 1 = nI s) (h25 : ∀ i, i < s → gI S 25 tt i = it i) :
    f_X6_leastEnds E S tt (nI n) = some (nI (lsE (cP n) (fun e => (sqI it e s).1) (2 ^ (s - 1)) (2 ^ (s - 1))).1) := by
  obtain ⟨p1, p2, p3, p4⟩ := q_pw10 hs1 hs
  unfold f_X6_leastEnds
  rw [h24, p2, lt_e]
  have h := lpN (σ := Nat) (φ := fun m q => f_X6_leastEnds_b14 E m S tt (nI n) (nI (lsE (cP n) (fun e => (sqI it e s).1) (2 ^ (s - 1)) q).1) (lsE (cP n) (fun e => (sqI it e s).1) (2 ^ (s - 1)) q).2 (nI (2 ^ (s - 1) + q))) (T := fun q => q) (N := 2 ^ (s - 1)) (n := E.1) (r := some (nI (lsE (cP n) (fun e => (sqI it e s).1) (2 ^ (s - 1)) (2 ^ (s - 1))).1)) (fun m q hq => by
    show g_X6_leastEnds_b14 E (f_X6_leastEnds_b14 E m) S _ _ _ _ _ = _
    unfold g_X6_leastEnds_b14 f_X6_leastEnds_b55 f_X6_leastEnds_b61
    have hp := pcN_le (2 ^ (s - 1) + q) 10
    rw [h24, p1, if_neg (by rw [q_le (by omega) (by omega)]; omega), bd_some (bc_P _), bcP_1024 (by omega), show lsE (cP n) (fun e => (sqI it e s).1) (2 ^ (s - 1)) (q + 1) = if cP n (2 ^ (s - 1) + q) = true then (if (lsE (cP n) (fun e => (sqI it e s).1) (2 ^ (s - 1)) q).2 < 0 then (2 ^ (s - 1) + q, (sqI it (2 ^ (s - 1) + q) s).1) else if (lsE (cP n) (fun e => (sqI it e s).1) (2 ^ (s - 1)) q).2 ≤ (sqI it (2 ^ (s - 1) + q) s).1 then lsE (cP n) (fun e => (sqI it e s).1) (2 ^ (s - 1)) q else (2 ^ (s - 1) + q, (sqI it (2 ^ (s - 1) + q) s).1)) else lsE (cP n) (fun e => (sqI it e s).1) (2 ^ (s - 1)) q from rfl]
    by_cases z : pcN 10 (2 ^ (s - 1) + q) = n
    · rw [if_pos (show nI (pcN 10 (2 ^ (s - 1) + q)) = nI n by rw [z]), if_pos (show cP n (2 ^ (s - 1) + q) = true from decide_eq_true z), bd_some (s_squares (by omega) hs (by omega) h24 h25), lt_e, lt_e, nI_1]
      by_cases y : (lsE (cP n) (fun e => (sqI it e s).1) (2 ^ (s - 1)) q).2 < 0
      · rw [if_pos y, if_pos y]
        rfl
      · rw [if_neg y, if_neg y]
        by_cases x : (lsE (cP n) (fun e => (sqI it e s).1) (2 ^ (s - 1)) q).2 ≤ (sqI it (2 ^ (s - 1) + q) s).1
        · rw [if_pos x, if_pos x]
          rfl
        · rw [if_neg x, if_neg x]
          rfl
    · rw [if_neg (show ¬ nI (pcN 10 (2 ^ (s - 1) + q)) = nI n by rw [nI_eq (by omega) (by omega)]; exact z), if_neg (show ¬ cP n (2 ^ (s - 1) + q) = true from fun y => z (of_decide_eq_true y)), lt_e, nI_1]
      rfl) (fun m => by
    show f_X6_leastEnds_b14 E (m + 1) S tt (nI n) (nI (lsE (cP n) (fun e => (sqI it e s).1) (2 ^ (s - 1)) (2 ^ (s - 1))).1) (lsE (cP n) (fun e => (sqI it e s).1) (2 ^ (s - 1)) (2 ^ (s - 1))).2 (nI (2 ^ (s - 1) + 2 ^ (s - 1))) = _
    rw [show f_X6_leastEnds_b14 E (m + 1) = g_X6_leastEnds_b14 E (f_X6_leastEnds_b14 E m) from rfl]
    unfold g_X6_leastEnds_b14
    rw [h24, p1, if_pos (by rw [q_le (by omega) (by omega)]; omega)]) (by omega)
  exact h
theorem s_cutM {E : EN} {S : ST} {tt s n : Nat} {x : Int32} {it : Nat → Int32} (hN : 3000 ≤ E.1) (htt : tt < 4) (hs1 : 1 ≤ s) (hs : s ≤ 10) (hn1 : 1 ≤ n) (hns : n ≤ s) (h85 : ∀ i, i < s → gI S 85 0 (40 * tt + i) = it i) :
    f_X7_cut_b108 E S (nI n) (nI tt) x (nI s) = some (if x = 0 then (lsE (cP n) (fun e => (sqI it e s).1) (2 ^ (s - 1)) (2 ^ (s - 1))).2 else nI (lsE (cP n) (fun e => (sqI it e s).1) (2 ^ (s - 1)) (2 ^ (s - 1))).1) := by
  obtain ⟨p1, p2, p3, p4⟩ := q_pw10 hs1 hs
  unfold f_X7_cut_b108
  rw [if_pos (by rw [q_le (by omega) (by omega)]; exact hns), p2, lt_e]
  have inner : ∀ (kh : ST → Int32 → Int32 → Int32 → Int32 → Int32 → Int32 → Int32 → Option Int32) (e : Nat) (v5 v6 : Int32), e < 2 ^ s → f_X7_cut_b151 E kh E.1 S (nI n) (nI tt) x (nI s) v5 v6 (nI e) (0 : Int32) (0 : Int32) (0 : Int32) (0 : Int32) = f_X7_cut_b210 E kh S (nI n) (nI tt) x (nI s) v5 v6 (nI e) (nI (pcN s e)) (sqI it e s).1 := fun kh e v5 v6 he => by
    have h := lpN (σ := Nat) (φ := fun m i => f_X7_cut_b151 E kh m S (nI n) (nI tt) x (nI s) v5 v6 (nI e) (nI (pcN i e)) (sqI it e i).2 (sqI it e i).1 (nI i)) (T := fun i => i) (N := s) (n := E.1) (r := f_X7_cut_b210 E kh S (nI n) (nI tt) x (nI s) v5 v6 (nI e) (nI (pcN s e)) (sqI it e s).1) (fun m i hi => by
      show g_X7_cut_b151 E kh (f_X7_cut_b151 E kh m) S _ _ _ _ _ _ _ _ _ _ _ = _
      unfold g_X7_cut_b151 f_X7_cut_b204
      have hb : e / 2 ^ i % 2 = if e.testBit i = true then 1 else 0 := by
        rw [Nat.testBit_eq_decide_div_mod_eq]
        have : e / 2 ^ i % 2 < 2 := Nat.mod_lt _ (by decide)
        by_cases z : e / 2 ^ i % 2 = 1
        · rw [if_pos (decide_eq_true z), z]
        · rw [if_neg (fun y => z (of_decide_eq_true y))]; omega
      rw [if_neg (by rw [q_le (by omega) (by omega)]; omega), q_40, ck_in (ib_nI (by omega) (by decide)), q_cl (by omega), h85 i hi, lt_e, q_tb10 (by omega) (show i < 10 by omega), show pcN (i + 1) e = pcN i e + e / 2 ^ i % 2 from rfl, hb, show sqI it e (i + 1) = if e.testBit i = true then ((sqI it e i).1 + ((sqI it e i).2 + it i) * ((sqI it e i).2 + it i), 0) else ((sqI it e i).1, (sqI it e i).2 + it i) from rfl]
      by_cases z : e.testBit i = true
      · rw [if_pos z, if_pos z, if_pos z, if_neg (show ¬ (1 : Int32) = 0 by decide), lt_e, lt_e, lt_e, nI_1, nI_1]
      · rw [if_neg z, if_neg z, if_neg z, if_pos rfl, lt_e, nI_1]
        rfl) (fun m => by
      show f_X7_cut_b151 E kh (m + 1) S (nI n) (nI tt) x (nI s) v5 v6 (nI e) (nI (pcN s e)) (sqI it e s).2 (sqI it e s).1 (nI s) = _
      rw [show f_X7_cut_b151 E kh (m + 1) = g_X7_cut_b151 E kh (f_X7_cut_b151 E kh m) from rfl]
      unfold g_X7_cut_b151
      rw [if_pos (by rw [q_le (by omega) (by omega)]; omega)]) (by omega)
    exact h
  have h := lpN (σ := Nat) (φ := fun m q => f_X7_cut_b130 E m S (nI n) (nI tt) x (nI s) (nI (lsE (cP n) (fun e => (sqI it e s).1) (2 ^ (s - 1)) q).1) (lsE (cP n) (fun e => (sqI it e s).1) (2 ^ (s - 1)) q).2 (nI (2 ^ (s - 1) + q))) (T := fun q => q) (N := 2 ^ (s - 1)) (n := E.1) (r := some (if x = 0 then (lsE (cP n) (fun e => (sqI it e s).1) (2 ^ (s - 1)) (2 ^ (s - 1))).2 else nI (lsE (cP n) (fun e => (sqI it e s).1) (2 ^ (s - 1)) (2 ^ (s - 1))).1)) (fun m q hq => by
    show g_X7_cut_b130 E (f_X7_cut_b130 E m) S _ _ _ _ _ _ _ = _
    unfold g_X7_cut_b130
    have hp := pcN_le (2 ^ (s - 1) + q) s
    have he : 2 ^ (s - 1) + q < 2 ^ s := by omega
    have e10 : pcN 10 (2 ^ (s - 1) + q) = pcN s (2 ^ (s - 1) + q) := by
      have := pcN_up he (10 - s)
      rw [show s + (10 - s) = 10 by omega] at this
      exact this
    rw [p1, if_neg (by rw [q_le (by omega) (by omega)]; omega), inner _ _ _ _ he, show lsE (cP n) (fun e => (sqI it e s).1) (2 ^ (s - 1)) (q + 1) = if cP n (2 ^ (s - 1) + q) = true then (if (lsE (cP n) (fun e => (sqI it e s).1) (2 ^ (s - 1)) q).2 < 0 then (2 ^ (s - 1) + q, (sqI it (2 ^ (s - 1) + q) s).1) else if (lsE (cP n) (fun e => (sqI it e s).1) (2 ^ (s - 1)) q).2 ≤ (sqI it (2 ^ (s - 1) + q) s).1 then lsE (cP n) (fun e => (sqI it e s).1) (2 ^ (s - 1)) q else (2 ^ (s - 1) + q, (sqI it (2 ^ (s - 1) + q) s).1)) else lsE (cP n) (fun e => (sqI it e s).1) (2 ^ (s - 1)) q from rfl]
    unfold f_X7_cut_b210 f_X7_cut_b231 f_X7_cut_b239
    rw [lt_e, lt_e, nI_1]
    by_cases z : pcN s (2 ^ (s - 1) + q) = n
    · rw [if_pos (show nI (pcN s (2 ^ (s - 1) + q)) = nI n by rw [z]), if_pos (show cP n (2 ^ (s - 1) + q) = true from decide_eq_true (e10.trans z))]
      by_cases y : (lsE (cP n) (fun e => (sqI it e s).1) (2 ^ (s - 1)) q).2 < 0
      · rw [if_pos y, if_pos y]
        rfl
      · rw [if_neg y, if_neg y]
        by_cases w : (lsE (cP n) (fun e => (sqI it e s).1) (2 ^ (s - 1)) q).2 ≤ (sqI it (2 ^ (s - 1) + q) s).1
        · rw [if_neg (Int32.not_lt.mpr w), if_pos w]
          rfl
        · rw [if_pos (Int32.not_le.mp w), if_neg w]
          rfl
    · rw [if_neg (show ¬ nI (pcN s (2 ^ (s - 1) + q)) = nI n by rw [nI_eq (by omega) (by omega)]; exact z), if_neg (show ¬ cP n (2 ^ (s - 1) + q) = true from fun y => z (e10.symm.trans (of_decide_eq_true y)))]
      rfl) (fun m => by
    show f_X7_cut_b130 E (m + 1) S (nI n) (nI tt) x (nI s) (nI (lsE (cP n) (fun e => (sqI it e s).1) (2 ^ (s - 1)) (2 ^ (s - 1))).1) (lsE (cP n) (fun e => (sqI it e s).1) (2 ^ (s - 1)) (2 ^ (s - 1))).2 (nI (2 ^ (s - 1) + 2 ^ (s - 1))) = _
    rw [show f_X7_cut_b130 E (m + 1) = g_X7_cut_b130 E (f_X7_cut_b130 E m) from rfl]
    unfold g_X7_cut_b130 f_X7_cut_b245
    rw [p1, if_pos (by rw [q_le (by omega) (by omega)]; omega)]
    by_cases z : x = 0
    · rw [if_pos z, if_pos z]
    · rw [if_neg z, if_neg z]) (by omega)
  exact h
def okH (x : Int32) : Prop := ¬ x < 0 ∧ x ≤ 99
theorem s_withinC {E : EN} {S : ST} {tt s : Nat} (hN : 300 ≤ E.1) (hs : s ≤ 40) (h24 : gI S 24 tt 1 = nI s) :
    ((∀ i, i < s → okH (gI S 25 tt i)) → f_X4_within E tt S (99 : Int32) = some 1) ∧ ((¬ ∀ i, i < s → okH (gI S 25 tt i)) → f_X4_within E tt S (99 : Int32) = some 0) := by
  have main : ∀ (q v m : Nat), v + q = s → q < m → ((∀ i, v ≤ i → i < s → okH (gI S 25 tt i)) → f_X4_within_b2 E tt m S (99 : Int32) (nI v) = some 1) ∧ ((¬ ∀ i, v ≤ i → i < s → okH (gI S 25 tt i)) → f_X4_within_b2 E tt m S (99 : Int32) (nI v) = some 0) := by
    intro q
    induction q with
    | zero =>
      intro v m hv hm
      obtain ⟨m, rfl⟩ : ∃ k, m = k + 1 := ⟨m - 1, by omega⟩
      refine ⟨fun _ => ?_, fun h => absurd (fun i hi hi2 => absurd hi2 (by omega)) h⟩
      rw [show f_X4_within_b2 E tt (m + 1) = g_X4_within_b2 E tt (f_X4_within_b2 E tt m) from rfl]
      unfold g_X4_within_b2
      rw [h24, if_pos (by rw [q_le (by omega) (by omega)]; omega)]
    | succ q ih =>
      intro v m hv hm
      obtain ⟨m, rfl⟩ : ∃ k, m = k + 1 := ⟨m - 1, by omega⟩
      obtain ⟨i1, i2⟩ := ih (v + 1) m (by omega) (by omega)
      rw [show f_X4_within_b2 E tt (m + 1) = g_X4_within_b2 E tt (f_X4_within_b2 E tt m) from rfl]
      unfold g_X4_within_b2
      rw [h24, if_neg (by rw [q_le (by omega) (by omega)]; omega), ck_in (ib_nI (by omega) (by decide)), q_cl (by omega)]
      by_cases z : okH (gI S 25 tt v)
      · rw [if_neg z.1, if_pos z.2, lt_e, nI_1]
        refine ⟨fun h => i1 fun i hi hi2 => h i (by omega) hi2, fun h => i2 fun h2 => h fun i hi hi2 => ?_⟩
        by_cases y : i = v
        · rw [y]; exact z
        · exact h2 i (by omega) hi2
      · refine ⟨fun h => absurd (h v (Nat.le_refl _) (by omega)) z, fun _ => ?_⟩
        by_cases y : gI S 25 tt v < 0
        · rw [if_pos y]
        · rw [if_neg y, if_neg (fun x => z ⟨y, x⟩)]
  obtain ⟨m1, m2⟩ := main s 0 E.1 (by omega) (by omega)
  unfold f_X4_within
  exact ⟨fun h => m1 fun i _ hi => h i hi, fun h => m2 fun h2 => h fun i hi => h2 i (Nat.zero_le _) hi⟩
theorem s_withinM {E : EN} {S : ST} {tt s : Nat} {a x : Int32} (hN : 300 ≤ E.1) (hs : s ≤ 40) (htt : tt < 4) :
    ((∀ i, i < s → okH (gI S 85 0 (40 * tt + i))) → f_X7_cut_b70 E E.1 S a (nI tt) x (nI s) (0 : Int32) = f_X7_cut_b108 E S a (nI tt) x (nI s)) ∧ ((¬ ∀ i, i < s → okH (gI S 85 0 (40 * tt + i))) → f_X7_cut_b70 E E.1 S a (nI tt) x (nI s) (0 : Int32) = some (-2)) := by
  have main : ∀ (q v m : Nat), v + q = s → q < m → ((∀ i, v ≤ i → i < s → okH (gI S 85 0 (40 * tt + i))) → f_X7_cut_b70 E m S a (nI tt) x (nI s) (nI v) = f_X7_cut_b108 E S a (nI tt) x (nI s)) ∧ ((¬ ∀ i, v ≤ i → i < s → okH (gI S 85 0 (40 * tt + i))) → f_X7_cut_b70 E m S a (nI tt) x (nI s) (nI v) = some (-2)) := by
    intro q
    induction q with
    | zero =>
      intro v m hv hm
      obtain ⟨m, rfl⟩ : ∃ k, m = k + 1 := ⟨m - 1, by omega⟩
      refine ⟨fun _ => ?_, fun h => absurd (fun i hi hi2 => absurd hi2 (by omega)) h⟩
      rw [show f_X7_cut_b70 E (m + 1) = g_X7_cut_b70 E (f_X7_cut_b70 E m) from rfl]
      unfold g_X7_cut_b70
      rw [if_pos (by rw [q_le (by omega) (by omega)]; omega)]
    | succ q ih =>
      intro v m hv hm
      obtain ⟨m, rfl⟩ : ∃ k, m = k + 1 := ⟨m - 1, by omega⟩
      obtain ⟨i1, i2⟩ := ih (v + 1) m (by omega) (by omega)
      rw [show f_X7_cut_b70 E (m + 1) = g_X7_cut_b70 E (f_X7_cut_b70 E m) from rfl]
      unfold g_X7_cut_b70
      rw [if_neg (by rw [q_le (by omega) (by omega)]; omega), q_40, ck_in (ib_nI (by omega) (by decide)), q_cl (by omega)]
      by_cases z : okH (gI S 85 0 (40 * tt + v))
      · rw [bd_some (s_in1 (show ¬ (gI S 85 0 (40 * tt + v) < 0 ∨ (99 : Int32) < gI S 85 0 (40 * tt + v)) from fun y => y.elim z.1 (Int32.not_lt.mpr z.2))), if_neg (show ¬ (1 : Int32) = 0 by decide), lt_e, nI_1]
        refine ⟨fun h => i1 fun i hi hi2 => h i (by omega) hi2, fun h => i2 fun h2 => h fun i hi hi2 => ?_⟩
        by_cases y : i = v
        · rw [y]; exact z
        · exact h2 i (by omega) hi2
      · refine ⟨fun h => absurd (h v (Nat.le_refl _) (by omega)) z, fun _ => ?_⟩
        rw [bd_some (s_in0 (show gI S 85 0 (40 * tt + v) < 0 ∨ (99 : Int32) < gI S 85 0 (40 * tt + v) by
          by_cases y : gI S 85 0 (40 * tt + v) < 0
          · exact Or.inl y
          · exact Or.inr (Int32.not_le.mp fun u => z ⟨y, u⟩))), if_pos rfl]
  obtain ⟨m1, m2⟩ := main s 0 E.1 (by omega) (by omega)
  exact ⟨fun h => m1 fun i _ hi => h i hi, fun h => m2 fun h2 => h fun i hi => h2 i (Nat.zero_le _) hi⟩
theorem s_cut {E : EN} {S : ST} (hN : 3000 ≤ E.1) (hS : RS S) (a b c : Int32) : ∃ r : Int32, f_X6_cut E S a b c = some r ∧ f_X7_cut E S a b c = some r := by
  have n1 : ¬ (1 : Int32) = 0 := by decide
  unfold f_X6_cut f_X7_cut
  rw [s_in]
  show ∃ r, _ ∧ (if (if a < 1 ∨ 10 < a then (0 : Int32) else 1) = 0 then some (-2 : Int32) else _) = some r
  by_cases h1 : a < 1
  · rw [if_pos (Or.inl h1), if_pos rfl]
    refine ⟨-2, ?_, rfl⟩
    rcases q_sheet b with ⟨tt, htt, rfl⟩ | hno
    · rw [bd_some (s_laid1 htt), nl_so, ck_in (decide_eq_true htt), if_pos h1]
    · rw [bd_some (s_laid0 hno), nl_no, if_pos h1]
  by_cases h10 : (10 : Int32) < a
  · rw [if_pos (Or.inr h10), if_pos rfl]
    refine ⟨-2, ?_, rfl⟩
    rcases q_sheet b with ⟨tt, htt, rfl⟩ | hno
    · rw [bd_some (s_laid1 htt), nl_so, ck_in (decide_eq_true htt), if_neg h1, if_pos h10]
    · rw [bd_some (s_laid0 hno), nl_no, if_neg h1, if_pos h10]
  rw [if_neg (show ¬ (a < 1 ∨ 10 < a) from fun y => y.elim h1 h10), if_neg n1]
  rcases q_sheet b with ⟨tt, htt, rfl⟩ | hno
  · obtain ⟨so, sz, n40, hso, s1, s2, s3, s4, s5⟩ := hS tt htt
    rw [bd_some (s_laid1 htt), nl_so, ck_in (decide_eq_true htt), if_neg h1, if_neg h10, bd_some (s_isSheet1 htt), if_neg n1, bd_some (s_in01 c)]
    by_cases hc01 : c = 0 ∨ c = 1
    · rw [if_neg (show ¬ c < 0 by rcases hc01 with rfl | rfl <;> decide), if_pos (show c ≤ 1 by rcases hc01 with rfl | rfl <;> decide), if_pos hc01, if_neg n1, ck_in (ib_nI htt (by decide)), q_cl (by omega), s1, s2, s3, s4]
      by_cases hmis : so = -1
      · exact ⟨-11, by rw [if_pos hmis], by rw [if_neg (show ¬ (0 : Int32) ≤ so by rw [hmis]; decide)]⟩
      have h0 : (0 : Int32) ≤ so := by
        rcases hso with ⟨z, -⟩ | z | z | z
        · exact absurd z hmis
        · rw [z]; decide
        · rw [z]; decide
        · rw [z]; decide
      rw [if_neg hmis, if_pos h0, lt_e, s_in]
      show ∃ r, _ ∧ (if (if nI sz < 1 ∨ 10 < nI sz then (0 : Int32) else 1) = 0 then some (-2 : Int32) else _) = some r
      by_cases z1 : nI sz < 1
      · exact ⟨-2, by rw [if_pos z1], by rw [if_pos (Or.inl z1), if_pos rfl]⟩
      by_cases z10 : (10 : Int32) < nI sz
      · exact ⟨-2, by rw [if_neg z1, if_pos z10], by rw [if_pos (Or.inr z10), if_pos rfl]⟩
      rw [if_neg z1, if_neg z10, if_neg (show ¬ (nI sz < 1 ∨ 10 < nI sz) from fun y => y.elim z1 z10), if_neg n1]
      rw [q_ltR 1 (by decide) (by omega)] at z1
      rw [q_ltL 10 (by decide) (by omega)] at z10
      obtain ⟨cw1, cw0⟩ := s_withinC (E := E) (S := S) (tt := tt) (s := sz) (by omega) n40 s3
      obtain ⟨mw1, mw0⟩ := s_withinM (E := E) (S := S) (tt := tt) (s := sz) (a := a) (x := c) (by omega) n40 htt
      by_cases hall : ∀ i, i < sz → okH (gI S 25 tt i)
      · have hallM : ∀ i, i < sz → okH (gI S 85 0 (40 * tt + i)) := fun i hi => by
          rw [← s5 i (by omega)]
          exact hall i hi
        rw [bd_some (cw1 hall), if_neg n1, mw1 hallM]
        obtain ⟨n, hn, rfl⟩ : ∃ n : Nat, n < 2 ^ 31 ∧ a = nI n := by
          rcases q_or a with h | h
          · exact absurd (Int32.lt_trans h (by decide)) h1
          · exact h
        rw [q_ltR 1 (by decide) hn] at h1
        rw [q_ltL 10 (by decide) hn] at h10
        by_cases hns : n ≤ sz
        · have eM := s_cutM (E := E) (S := S) (tt := tt) (s := sz) (n := n) (x := c) (it := fun i => gI S 25 tt i) hN htt (by omega) (by omega) (by omega) hns (fun i hi => (s5 i (by omega)).symm)
          have eC := s_leastEnds (E := E) (S := S) (tt := tt) (s := sz) (n := n) (it := fun i => gI S 25 tt i) hN (by omega) (by omega) (by omega) s3 (fun i hi => rfl)
          rw [if_pos (by rw [q_le hn (by omega)]; exact hns), bd_some eC, eM]
          obtain ⟨p1, p2, p3, p4⟩ := q_pw10 (show 1 ≤ sz by omega) (show sz ≤ 10 by omega)
          rcases lsE_ok (cP n) (fun e => (sqI (fun i => gI S 25 tt i) e sz).1) (2 ^ (sz - 1)) (2 ^ (sz - 1)) with ⟨k1, k2, k3⟩ | ⟨-, k2⟩
          · by_cases c0 : c = 0
            · rw [if_pos c0, if_pos c0]
              refine ⟨_, ?_, rfl⟩
              rw [bd_some (s_squares (it := fun i => gI S 25 tt i) (by omega) (by omega) (by omega) s3 (fun i hi => rfl)), k1]
            · rw [if_neg c0, if_neg c0]
              exact ⟨_, rfl, rfl⟩
          · obtain ⟨i, hi, hpi⟩ := pc_some (show 1 ≤ n by omega) hns (by omega)
            have := k2 i hi
            exact absurd hpi (of_decide_eq_false this)
        · refine ⟨-1, by rw [if_neg (by rw [q_le hn (by omega)]; exact hns)], ?_⟩
          unfold f_X7_cut_b108
          rw [if_neg (by rw [q_le hn (by omega)]; exact hns)]
      · refine ⟨-2, by rw [bd_some (cw0 hall), if_pos rfl], mw0 fun h => hall fun i hi => ?_⟩
        rw [s5 i (by omega)]
        exact h i hi
    · refine ⟨-2, ?_, by rw [if_neg hc01, if_pos rfl]⟩
      rcases q_or c with hs | ⟨y, hy, rfl⟩
      · rw [if_pos hs]
      · rw [if_neg (q_n0 hy), if_neg (show ¬ nI y ≤ (1 : Int32) by
          rw [q_leR 1 (by decide) hy]
          rw [q_eqR 0 (by decide) hy, q_eqR 1 (by decide) hy] at hc01
          omega)]
  · refine ⟨-2, by rw [bd_some (s_laid0 hno), nl_no, if_neg h1, if_neg h10], by rw [bd_some (s_isSheet0 hno), if_pos rfl]⟩
