/-! PURE PART: becomes -/
theorem s_div {E : EN} {S : ST} {a b : Nat} (hN : 300 ≤ E.1) (ha : a < 9223372036854775808) (hb : b ≤ 10000000000000000) : f_X7_divisor E S (lN a) (lN b) = some (lN (gcd' a b)) := by
  unfold f_X7_divisor f_X7_divisor_b12
  rw [if_pos (by rw [show (0 : Int64) = lN 0 from rfl, w_le (by omega) ha]; omega)]
  exact s_divisor hN ha hb
theorem s_becomesM {E : EN} {S : ST} {p : Nat} (hp : p < 8) {r : Nat → Nat} {B : Nat} (hN : 300 ≤ E.1) (hB : B ≤ 1000000000000000) (hr : ∀ s, s < 5 → gL S 77 0 s = lN (r s)) (h : ∀ s, s < 5 → r s ≤ B) :
    (tkI r → f_X7_becomes E S (nI p) = some (1, flr S 45 0 (5 * p) (fun s => nI (tkW r s)) 5)) ∧ (¬ tkI r → f_X7_becomes E S (nI p) = some (0, S)) := by
  have hs5 : smf r 0 ≤ 5000000000000000 := by
    rw [smf_0]
    have h0 := h 0 (by decide)
    have h1 := h 1 (by decide)
    have h2 := h 2 (by decide)
    have h3 := h 3 (by decide)
    have h4 := h 4 (by decide)
    omega
  have hd := dch_le h
  have e1 : f_X7_becomes E S (nI p) = f_X7_becomes_b45 E S (nI p) (lN (dch r 5)) (lN (smf r 0)) := by
    unfold f_X7_becomes
    have q := lpN (σ := Nat) (φ := fun m v => f_X7_becomes_b8 E m S (nI p) (lN (dch r v)) (lN (smf r 0 - smf r v)) (nI v)) (T := fun v => v) (N := 5) (n := E.1) (r := f_X7_becomes_b45 E S (nI p) (lN (dch r 5)) (lN (smf r 0))) (fun m v hv => by
      show g_X7_becomes_b8 E (f_X7_becomes_b8 E m) S _ _ _ _ = _
      unfold g_X7_becomes_b8
      have hv5 := h v hv
      have hdv := hd v (by omega)
      rw [if_neg (by rw [q_leL 5 (by decide) (by omega)]; omega), ck_in (ib_nI (by omega) (by decide)), q_cl (by omega), hr v hv, bd_some (s_div hN (by omega) (by omega)), lt_e, lt_e, nI_1, lN_add, smf_sum hv]
      rfl) (fun m => by
      show f_X7_becomes_b8 E (m + 1) S (nI p) (lN (dch r 5)) (lN (smf r 0 - smf r 5)) (nI 5) = _
      rw [show f_X7_becomes_b8 E (m + 1) = g_X7_becomes_b8 E (f_X7_becomes_b8 E m) from rfl]
      unfold g_X7_becomes_b8
      rw [if_pos (show (5 : Int32) ≤ nI 5 by decide), smf_5, Nat.sub_zero]) (by omega)
    have z1 : lN (smf r 0 - smf r 0) = (0 : Int64) := by
      rw [Nat.sub_self]
      rfl
    have q2 : f_X7_becomes_b8 E E.1 S (nI p) (lN (dch r 0)) (lN (smf r 0 - smf r 0)) (nI 0) = f_X7_becomes_b45 E S (nI p) (lN (dch r 5)) (lN (smf r 0)) := q
    rw [z1] at q2
    exact q2
  rw [e1]
  unfold f_X7_becomes_b45
  have hd5 := hd 5 (Nat.le_refl _)
  refine ⟨fun t => ?_, fun t => ?_⟩
  · obtain ⟨-, -, t3⟩ := tk_sum (by omega) h t
    have hz : ¬ lN (dch r 5) = (0 : Int64) := by
      rw [w_e0 (by omega)]
      omega
    have hq : smf r 0 / dch r 5 ≤ smf r 0 := Nat.div_le_self _ _
    have hck : (!decide (lN (dch r 5) = 0)) = true := by rw [decide_eq_false hz]; rfl
    rw [if_neg (show ¬ lN (smf r 0) = (0 : Int64) by rw [w_e0 (by omega)]; exact t.1), ck_in hck, w_div (by omega) (by omega), if_pos (by rw [show (9999 : Int64) = lN 9999 from rfl, w_le (Nat.lt_of_le_of_lt hq (by omega)) (by omega)]; exact t.2)]
    refine lpN (σ := ST × Nat) (φ := fun m y => f_X7_becomes_b68 E m y.1 (nI p) (lN (dch r 5)) (nI y.2)) (T := fun v => (flr S 45 0 (5 * p) (fun s => nI (tkW r s)) v, v)) (N := 5) (fun m v hv => ?_) (fun m => ?_) (by omega)
    · show g_X7_becomes_b68 E (f_X7_becomes_b68 E m) _ _ _ _ = _
      unfold g_X7_becomes_b68
      have Fv : Fm [(45, 0)] S (flr S 45 0 (5 * p) (fun s => nI (tkW r s)) v) := flr_F _ _ _ _ _ (fun _ => rfl) _
      have hv5 := h v hv
      rw [if_neg (by rw [q_leL 5 (by decide) (by omega)]; omega), ck_in (ib_nI (by omega) (by decide)), ck_in hck, q_5w, ck_in (ib_nI (by omega) (by decide)), q_cl (show v < 2147483648 by omega), q_cl (show 5 * p + v < 2147483648 by omega), Fv.L rfl, hr v hv, w_div (by omega) (by omega), lN_i, lt_e, lt_e, nI_1, flr_s]
      rfl
    · rw [show f_X7_becomes_b68 E (m + 1) = g_X7_becomes_b68 E (f_X7_becomes_b68 E m) from rfl]
      unfold g_X7_becomes_b68
      rw [if_pos (show (5 : Int32) ≤ nI 5 by decide)]
  · by_cases z : dch r 5 = 0
    · rcases dch_pos (by omega) h 5 (Nat.le_refl _) with ⟨-, q2⟩ | ⟨q1, -⟩
      · rw [if_pos (show lN (smf r 0) = (0 : Int64) by rw [w_e0 (by omega), smf_0, q2 0 (by decide), q2 1 (by decide), q2 2 (by decide), q2 3 (by decide), q2 4 (by decide)])]
      · omega
    · have hz : ¬ lN (dch r 5) = (0 : Int64) := by
        rw [w_e0 (by omega)]
        exact z
      have hck : (!decide (lN (dch r 5) = 0)) = true := by rw [decide_eq_false hz]; rfl
      have hq : smf r 0 / dch r 5 ≤ smf r 0 := Nat.div_le_self _ _
      have hz2 : ¬ smf r 0 = 0 := fun x => by
        rcases dch_pos (by omega) h 5 (Nat.le_refl _) with ⟨q1, -⟩ | ⟨-, i, q2, q3, -⟩
        · exact z q1
        · rw [smf_0] at x
          have hi : i = 0 ∨ i = 1 ∨ i = 2 ∨ i = 3 ∨ i = 4 := by omega
          rcases hi with rfl | rfl | rfl | rfl | rfl <;> omega
      have hn : ¬ smf r 0 / dch r 5 ≤ 9999 := fun y => t ⟨hz2, y⟩
      rw [if_neg (show ¬ lN (smf r 0) = (0 : Int64) by rw [w_e0 (by omega)]; exact hz2), ck_in hck, w_div (by omega) (by omega), if_neg (by rw [show (9999 : Int64) = lN 9999 from rfl, w_le (Nat.lt_of_le_of_lt hq (by omega)) (by omega)]; exact hn)]
