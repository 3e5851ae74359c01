/-! PURE PART: takes and becomes -/
theorem smf_sum {r : Nat → Nat} {v : Nat} (h : v < 5) : smf r 0 - smf r v + r v = smf r 0 - smf r (v + 1) := by
  have := smf_s r h
  have := smf_le r v
  omega
theorem s_takes {E : EN} {S : ST} {p w : Nat} {r : Nat → Nat} {B : Nat} (hN : 300 ≤ E.1) (hB : B ≤ 1000000000000000) (hr : ∀ s, s < 5 → gL S 28 w s = lN (r s)) (h : ∀ s, s < 5 → r s ≤ B) :
    (tkI r → f_X2_takes E p S w = some (1, flr S 21 p 0 (fun s => nI (tkW r s)) 5)) ∧ (¬ tkI r → f_X2_takes E p S w = some (0, S)) := by
  have hs5 : smf r 0 ≤ 5000000000000000 := by
    rw [smf_0]
    have h0 := h 0 (by decide)
    have h1 := h 1 (by decide)
    have h2 := h 2 (by decide)
    have h3 := h 3 (by decide)
    have h4 := h 4 (by decide)
    omega
  have hd := dch_le h
  have e1 : f_X2_takes E p S w = f_X2_takes_b38 E p S w (lN (dch r 5)) (lN (smf r 0)) := by
    unfold f_X2_takes
    have q := lpN (σ := Nat) (φ := fun m v => f_X2_takes_b8 E p m S w (lN (dch r v)) (lN (smf r 0 - smf r v)) (nI v)) (T := fun v => v) (N := 5) (n := E.1) (r := f_X2_takes_b38 E p S w (lN (dch r 5)) (lN (smf r 0))) (fun m v hv => by
      show g_X2_takes_b8 E p (f_X2_takes_b8 E p m) S _ _ _ _ = _
      unfold g_X2_takes_b8
      have hv5 := h v hv
      have hdv := hd v (by omega)
      rw [if_neg (by rw [q_leL 5 (by decide) (by omega)]; omega), ck_in (ib_nI (by omega) (by decide)), q_cl (by omega), hr v hv, bd_some (s_common hN (by omega) (by omega)), lt_e, lt_e, nI_1, lN_add, smf_sum hv]
      rfl) (fun m => by
      show f_X2_takes_b8 E p (m + 1) S w (lN (dch r 5)) (lN (smf r 0 - smf r 5)) (nI 5) = _
      rw [show f_X2_takes_b8 E p (m + 1) = g_X2_takes_b8 E p (f_X2_takes_b8 E p m) from rfl]
      unfold g_X2_takes_b8
      rw [if_pos (show (5 : Int32) ≤ nI 5 by decide), smf_5, Nat.sub_zero]) (by omega)
    have z1 : lN (smf r 0 - smf r 0) = (0 : Int64) := by
      rw [Nat.sub_self]
      rfl
    have q2 : f_X2_takes_b8 E p E.1 S w (lN (dch r 0)) (lN (smf r 0 - smf r 0)) (nI 0) = f_X2_takes_b38 E p S w (lN (dch r 5)) (lN (smf r 0)) := q
    rw [z1] at q2
    exact q2
  rw [e1]
  unfold f_X2_takes_b38
  have hd5 := hd 5 (Nat.le_refl _)
  refine ⟨fun t => ?_, fun t => ?_⟩
  · obtain ⟨-, -, t3⟩ := tk_sum (by omega) h t
    have hz : ¬ lN (dch r 5) = (0 : Int64) := by
      rw [w_e0 (by omega)]
      omega
    have hq : smf r 0 / dch r 5 ≤ smf r 0 := Nat.div_le_self _ _
    have hck : (!decide (lN (dch r 5) = 0)) = true := by rw [decide_eq_false hz]; rfl
    rw [if_neg hz, ck_in hck, w_div (by omega) (by omega), if_pos (by rw [show (9999 : Int64) = lN 9999 from rfl, w_le (Nat.lt_of_le_of_lt hq (by omega)) (by omega)]; exact t.2)]
    refine lpN (σ := ST × Nat) (φ := fun m y => f_X2_takes_b60 E p m y.1 w (lN (dch r 5)) (nI y.2)) (T := fun v => (flr S 21 p 0 (fun s => nI (tkW r s)) v, v)) (N := 5) (fun m v hv => ?_) (fun m => ?_) (by omega)
    · show g_X2_takes_b60 E p (f_X2_takes_b60 E p m) _ _ _ _ = _
      unfold g_X2_takes_b60
      have Fv : Fm [(21, 0)] S (flr S 21 p 0 (fun s => nI (tkW r s)) v) := flr_F _ _ _ _ _ (fun _ => rfl) _
      have hv5 := h v hv
      rw [if_neg (by rw [q_leL 5 (by decide) (by omega)]; omega), ck_in (ib_nI (by omega) (by decide)), ck_in hck, q_cl (by omega), Fv.L rfl, hr v hv, w_div (by omega) (by omega), lN_i, lt_e, lt_e, nI_1, flr_s, Nat.zero_add]
      rfl
    · rw [show f_X2_takes_b60 E p (m + 1) = g_X2_takes_b60 E p (f_X2_takes_b60 E p m) from rfl]
      unfold g_X2_takes_b60
      rw [if_pos (show (5 : Int32) ≤ nI 5 by decide)]
  · by_cases z : dch r 5 = 0
    · rw [z, if_pos (show lN 0 = (0 : Int64) from rfl)]
    · have hz : ¬ lN (dch r 5) = (0 : Int64) := by
        rw [w_e0 (by omega)]
        exact z
      have hck : (!decide (lN (dch r 5) = 0)) = true := by rw [decide_eq_false hz]; rfl
      have hq : smf r 0 / dch r 5 ≤ smf r 0 := Nat.div_le_self _ _
      have hn : ¬ smf r 0 / dch r 5 ≤ 9999 := fun y => t ⟨fun x => by
        rcases dch_pos (by omega) h 5 (Nat.le_refl _) with ⟨q1, -⟩ | ⟨-, i, q2, q3, -⟩
        · exact z q1
        · rw [smf_0] at x
          have hi : i = 0 ∨ i = 1 ∨ i = 2 ∨ i = 3 ∨ i = 4 := by omega
          rcases hi with rfl | rfl | rfl | rfl | rfl <;> omega, y⟩
      rw [if_neg hz, ck_in hck, w_div (by omega) (by omega), if_neg (by rw [show (9999 : Int64) = lN 9999 from rfl, w_le (Nat.lt_of_le_of_lt hq (by omega)) (by omega)]; exact hn)]
