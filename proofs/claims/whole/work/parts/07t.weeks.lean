/-! PURE PART: weeks: how a kind moves, the class' side -/
def twi (w b bp ch : Nat) : Int32 := if 0 < w ∧ b = 1 ∧ bp = 1 ∧ ch = 0 then 1 else 0
def wis (k n w b bp ch g : Nat) (r : Nat → Nat) : Int32 :=
  if k = 0 then (if b = 1 then 1 else 0) else if k = 1 then twi w b bp ch
  else if k = 2 then (if 0 < n ∧ (w + 1) % n = 0 then 1 else 0)
  else if k = 4 then (if 0 < w ∧ b = 1 ∧ bp = 1 ∧ ch = 0 then 1 else if 0 < w ∧ b = 0 ∧ bp = 0 then -1 else 0)
  else if smf r 0 = 0 then 0 else if n * smf r 0 ≤ 10 * smf r g then 1 else if k = 5 ∧ 20 * smf r g < n * smf r 0 then -1 else 0
theorem q_bit {M w : Nat} (hM : M < 32) (hw : w < 5) : ((nI M >>> (nI w &&& 31)) &&& (1 : Int32)) = nI (M / 2 ^ w % 2) := by
  have all : ∀ w, w < 5 → ∀ M, M < 32 → ((nI M >>> (nI w &&& 31)) &&& (1 : Int32)) = nI (M / 2 ^ w % 2) := by decide +kernel
  exact all w hw M hM
theorem q_two {M w : Nat} (hM : M < 32) (hw : w < 4) : (((nI M >>> (nI w &&& 31)) &&& (3 : Int32)) = 3 ↔ M / 2 ^ (w + 1) % 2 = 1 ∧ M / 2 ^ w % 2 = 1) ∧ (((nI M >>> (nI w &&& 31)) &&& (3 : Int32)) = 0 ↔ M / 2 ^ (w + 1) % 2 = 0 ∧ M / 2 ^ w % 2 = 0) := by
  have all : ∀ w, w < 4 → ∀ M, M < 32 → (((nI M >>> (nI w &&& 31)) &&& (3 : Int32)) = 3 ↔ M / 2 ^ (w + 1) % 2 = 1 ∧ M / 2 ^ w % 2 = 1) ∧ (((nI M >>> (nI w &&& 31)) &&& (3 : Int32)) = 0 ↔ M / 2 ^ (w + 1) % 2 = 0 ∧ M / 2 ^ w % 2 = 0) := by decide +kernel
  exact all w hw M hM
section WISH
variable {E : EN} {S : ST} {w M b bp ch g n : Nat} {r : Nat → Nat}
theorem s_twice (hw : w < 5) (hM : M < 32) (h16 : gI S 16 0 6 = nI M) (hb : M / 2 ^ w % 2 = b) (hbp : 0 < w → M / 2 ^ (w - 1) % 2 = bp) (hch : 0 < w → (gI S 18 0 w = gI S 18 0 (w - 1) ↔ ch = 0)) : f_X1_twice E S (nI w) = some (twi w b bp ch) := by
  unfold f_X1_twice twi
  rcases w with _ | v
  · rw [if_pos (by decide), if_neg (fun q => absurd q.1 (by omega))]
  · have e1 : nI (v + 1) - (1 : Int32) = nI v := q_m1 v
    obtain ⟨t1, t2⟩ := q_two hM (show v < 4 by omega)
    have hbp' := hbp (by omega)
    have hch' := hch (by omega)
    rw [Nat.add_sub_cancel] at hbp' hch'
    rw [if_neg (by rw [q_ltR 1 (by decide) (by omega)]; omega), if_neg (by rw [q_leL 5 (by decide) (by omega)]; omega), e1, h16, q_cl (show v + 1 < 2147483648 by omega), q_cl (show v < 2147483648 by omega)]
    by_cases z : b = 1 ∧ bp = 1
    · rw [if_pos (t1.mpr ⟨hb.trans z.1, hbp'.trans z.2⟩), ck_in (ib_nI (by omega) (by decide)), ck_in (ib_nI (by omega) (by decide))]
      by_cases y : ch = 0
      · rw [if_pos (hch'.mpr y), if_pos ⟨by omega, z.1, z.2, y⟩]
      · rw [if_neg (fun q => y (hch'.mp q)), if_neg (fun q => y q.2.2.2)]
    · rw [if_neg (fun q => z ⟨hb.symm.trans (t1.mp q).1, hbp'.symm.trans (t1.mp q).2⟩), if_neg (fun q => z ⟨q.2.1, q.2.2.1⟩)]
theorem s_wrongTwice (hw : w < 5) (hM : M < 32) (h16 : gI S 16 0 6 = nI M) (hb : M / 2 ^ w % 2 = b) (hbp : 0 < w → M / 2 ^ (w - 1) % 2 = bp) : f_X1_wrongTwice E S (nI w) = some (if 0 < w ∧ b = 0 ∧ bp = 0 then 1 else 0) := by
  unfold f_X1_wrongTwice
  rcases w with _ | v
  · rw [if_pos (by decide), if_neg (fun q => absurd q.1 (by omega))]
  · have e1 : nI (v + 1) - (1 : Int32) = nI v := q_m1 v
    obtain ⟨t1, t2⟩ := q_two hM (show v < 4 by omega)
    have hbp' := hbp (by omega)
    rw [Nat.add_sub_cancel] at hbp'
    rw [if_neg (by rw [q_ltR 1 (by decide) (by omega)]; omega), e1, h16]
    by_cases z : b = 0 ∧ bp = 0
    · rw [if_pos (t2.mpr ⟨hb.trans z.1, hbp'.trans z.2⟩), if_pos ⟨by omega, z.1, z.2⟩]
    · rw [if_neg (fun q => z ⟨hb.symm.trans (t2.mp q).1, hbp'.symm.trans (t2.mp q).2⟩), if_neg (fun q => z ⟨q.2.1, q.2.2⟩)]
theorem s_sure (hN : 10 ≤ E.1) (hw : w < 5) (hn : n < 10) (hg : g < 5) (h5 : gI S 16 0 5 = nI n) (h18 : gI S 18 0 w = nI g) (hr : ∀ s, s < 5 → gL S 28 (w + 1) s = lN (r s)) (hB : smf r 0 ≤ 10000000000000000) :
    f_X1_sure E S (nI w) = some (if smf r 0 = 0 then 0 else if n * smf r 0 ≤ 10 * smf r g then 1 else 0) ∧ f_X1_unsure E S (nI w) = some (if smf r 0 = 0 then 0 else if 20 * smf r g < n * smf r 0 then 1 else 0) := by
  have hle := smf_le r g
  have hn9 : n * smf r 0 ≤ 9 * smf r 0 := Nat.mul_le_mul_right _ (by omega)
  have eA := s_from (E := E) (S := S) hN (w := w + 1) (a := 0) (by omega) (by omega) hr
  have eG := s_from (E := E) (S := S) hN (w := w + 1) (a := g) (by omega) (by omega) hr
  refine ⟨?_, ?_⟩
  · unfold f_X1_sure
    rw [nI_1, show (0 : Int32) = nI 0 from rfl, bd_some eA]
    by_cases z : smf r 0 = 0
    · rw [if_pos z, z, if_pos (by decide)]
    · rw [if_neg z, if_neg (by rw [show (0 : Int64) = lN 0 from rfl, w_le (by omega) (by omega)]; omega), bd_some (s_bnd (by omega)), ck_in (ib_nI (by omega) (by decide)), q_cl (by omega), h18, bd_some eG, h5, nI_l (by omega), show (10 : Int64) = lN 10 from rfl, lN_mul, lN_mul]
      by_cases y : n * smf r 0 ≤ 10 * smf r g
      · rw [if_neg (by rw [w_lt (by omega) (by omega)]; omega), if_pos y]
      · rw [if_pos (by rw [w_lt (by omega) (by omega)]; omega), if_neg y]
  · unfold f_X1_unsure
    rw [nI_1, show (0 : Int32) = nI 0 from rfl, bd_some eA]
    by_cases z : smf r 0 = 0
    · rw [if_pos z, z, if_pos (by decide)]
    · rw [if_neg z, if_neg (by rw [show (0 : Int64) = lN 0 from rfl, w_le (by omega) (by omega)]; omega), bd_some (s_bnd (by omega)), ck_in (ib_nI (by omega) (by decide)), q_cl (by omega), h18, bd_some eG, h5, nI_l (by omega), show (20 : Int64) = lN 20 from rfl, lN_mul, lN_mul]
      by_cases y : 20 * smf r g < n * smf r 0
      · rw [if_neg (by rw [w_le (by omega) (by omega)]; omega), if_pos y]
      · rw [if_pos (by rw [w_le (by omega) (by omega)]; omega), if_neg y]
theorem s_wish {k : Nat} (hN : 10 ≤ E.1) (hw : w < 5) (hk : k < 6) (hn : n < 10) (hg : g < 5) (hM : M < 32) (h4 : gI S 16 0 4 = nI k) (h5 : gI S 16 0 5 = nI n) (h16 : gI S 16 0 6 = nI M) (hb : M / 2 ^ w % 2 = b) (hbp : 0 < w → M / 2 ^ (w - 1) % 2 = bp) (hch : 0 < w → (gI S 18 0 w = gI S 18 0 (w - 1) ↔ ch = 0))
    (h18 : gI S 18 0 w = nI g) (hr : ∀ s, s < 5 → gL S 28 (w + 1) s = lN (r s)) (hB : smf r 0 ≤ 10000000000000000) : f_X1_wish E S (nI w) = some (wis k n w b bp ch g r) := by
  have tw := s_twice (E := E) hw hM h16 hb hbp hch
  have wt := s_wrongTwice (E := E) hw hM h16 hb hbp
  obtain ⟨su, us⟩ := s_sure (E := E) hN hw hn hg h5 h18 hr hB
  have hb2 : b < 2 := by rw [← hb]; exact Nat.mod_lt _ (by decide)
  unfold f_X1_wish
  rw [if_neg (q_n0 (by omega)), if_pos (by rw [q_ltR 5 (by decide) (by omega)]; exact hw), lt_e, h4]
  have zk : ∀ a : Nat, a < 2147483648 → (nI k = nI a ↔ k = a) := fun a ha => nI_eq (by omega) ha
  have hkk : k = 0 ∨ k = 1 ∨ k = 2 ∨ k = 3 ∨ k = 4 ∨ k = 5 := by omega
  rcases hkk with rfl | rfl | rfl | rfl | rfl | rfl
  · rw [if_neg (by decide), if_neg (by decide), if_neg (by decide), if_neg (by decide), if_neg (by decide), h16, q_bit hM hw, hb]
    have : b = 0 ∨ b = 1 := by omega
    rcases this with rfl | rfl <;> rfl
  · rw [if_pos (by decide), bd_some tw]
    rfl
  · rw [if_neg (by decide), if_pos (by decide), h5]
    by_cases z : n ≤ 0
    · rw [if_pos (by rw [q_leR 0 (by decide) (by omega)]; exact z)]
      unfold wis
      rw [if_neg (by decide), if_neg (by decide), if_pos rfl, if_neg (fun q => absurd q.1 (by omega))]
    · rw [if_neg (by rw [q_leR 0 (by decide) (by omega)]; exact z), ck_in (by rw [decide_eq_false (by rw [q_eqR 0 (by decide) (by omega)]; omega)]; rfl), nI_1, q_rm (by omega) (by omega) (by omega)]
      unfold wis
      rw [if_neg (show ¬ (2 : Nat) = 0 by decide), if_neg (show ¬ (2 : Nat) = 1 by decide), if_pos (show (2 : Nat) = 2 from rfl)]
      have hlt : (w + 1) % n < 10 := Nat.lt_of_lt_of_le (Nat.mod_lt _ (by omega)) (by omega)
      by_cases y : (w + 1) % n = 0
      · rw [if_pos (by rw [q_eqR 0 (by decide) (by omega)]; exact y), if_pos ⟨by omega, y⟩]
      · rw [if_neg (by rw [q_eqR 0 (by decide) (by omega)]; exact y), if_neg (fun q => y q.2)]
  · rw [if_neg (by decide), if_neg (by decide), if_pos (by decide), bd_some su]
    unfold wis
    rw [if_neg (show ¬ (3 : Nat) = 0 by decide), if_neg (show ¬ (3 : Nat) = 1 by decide), if_neg (show ¬ (3 : Nat) = 2 by decide), if_neg (show ¬ (3 : Nat) = 4 by decide), if_neg (show ¬ ((3 : Nat) = 5 ∧ 20 * smf r g < n * smf r 0) from fun q => absurd q.1 (by decide))]
  · rw [if_neg (by decide), if_neg (by decide), if_neg (by decide), if_pos (by decide), bd_some tw]
    unfold wis
    rw [if_neg (show ¬ (4 : Nat) = 0 by decide), if_neg (show ¬ (4 : Nat) = 1 by decide), if_neg (show ¬ (4 : Nat) = 2 by decide), if_pos (show (4 : Nat) = 4 from rfl)]
    by_cases z : 0 < w ∧ b = 1 ∧ bp = 1 ∧ ch = 0
    · have e : twi w b bp ch = 1 := by unfold twi; rw [if_pos z]
      rw [e, if_neg (by decide), if_pos z]
      unfold f_X1_wish_b104
      rw [bd_some tw, e]
    · have e : twi w b bp ch = 0 := by unfold twi; rw [if_neg z]
      rw [e, if_pos rfl, bd_some wt, if_neg z]
      by_cases y : 0 < w ∧ b = 0 ∧ bp = 0
      · rw [if_pos y, if_neg (by decide), if_pos y]
      · rw [if_neg y, if_pos rfl, if_neg y]
        unfold f_X1_wish_b104
        rw [bd_some tw, e]
  · rw [if_neg (by decide), if_neg (by decide), if_neg (by decide), if_neg (by decide), if_pos (by decide), bd_some su]
    unfold wis
    rw [if_neg (show ¬ (5 : Nat) = 0 by decide), if_neg (show ¬ (5 : Nat) = 1 by decide), if_neg (show ¬ (5 : Nat) = 2 by decide), if_neg (show ¬ (5 : Nat) = 4 by decide)]
    by_cases z : smf r 0 = 0
    · rw [if_pos z] at su us ⊢
      rw [if_pos rfl, bd_some us, if_pos rfl, if_pos z]
      unfold f_X1_wish_b130
      rw [bd_some su]
    · rw [if_neg z] at su us ⊢
      rw [if_neg z]
      by_cases y : n * smf r 0 ≤ 10 * smf r g
      · rw [if_pos y] at su ⊢
        rw [if_neg (by decide), if_pos y]
        unfold f_X1_wish_b130
        rw [bd_some su]
      · rw [if_neg y] at su ⊢
        rw [if_pos rfl, bd_some us, if_neg y]
        by_cases x : 20 * smf r g < n * smf r 0
        · rw [if_pos x, if_neg (by decide), if_pos ⟨rfl, x⟩]
        · rw [if_neg x, if_pos rfl, if_neg (fun q => x q.2)]
          unfold f_X1_wish_b130
          rw [bd_some su]
end WISH
