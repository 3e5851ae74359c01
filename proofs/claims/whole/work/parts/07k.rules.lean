/-! PURE PART: rules: the class' evaluation -/
def wdis (E : EN) (kh : ST → Int32 → Int32 → Int32 → Option (Int32 × ST)) (S : ST) (v1 v2 v3 x : Int32) : Option (Int32 × ST) := if x < (262 : Int32) then f_X0_worth_b128 E kh S v1 v2 v3 x else if x < (1000 : Int32) then ck_ (ib_ (rmI (x - (262 : Int32)) (6 : Int32)) 6) (f_X0_worth_b121 E kh S v1 v2 v3 (gI S 12 0 (rmI (x - (262 : Int32)) (6 : Int32)).toNatClampNeg) v2) else f_X0_worth_b121 E kh S v1 v2 v3 (x - (1000 : Int32)) v2
theorem lt_e {α β : Type} (a : α) (k : α → β) : lt_ a k = k a := rfl
section EVC
variable {E : EN} {S : ST} {kh : ST → Int32 → Int32 → Int32 → Option (Int32 × ST)}
theorem s_w121 {v1 v3 t0 : Int32} {h : Nat} (hh : h < 160) : f_X0_worth_b121 E kh S v1 (nI h) v3 t0 (nI h) = f_X0_worth_b224 E kh (sI S 13 0 h t0) v1 (nI (h + 1)) v3 := by
  unfold f_X0_worth_b121
  simp only [lt_]
  rw [ck_in (ib_nI (by omega) (by decide)), q_cl (by omega), nI_1]
theorem s_w185 {v1 v3 t0 : Int32} {h : Nat} {v2 : Int32} (hh : h < 160) : f_X0_worth_b185 E kh S v1 v2 v3 t0 (nI h) = f_X0_worth_b224 E kh (sI S 13 0 h t0) v1 v2 v3 := by
  unfold f_X0_worth_b185
  simp only [lt_]
  rw [ck_in (ib_nI (by omega) (by decide)), q_cl (by omega)]
theorem s_ws0 {x : Nat × Nat} {h : Nat} (hh : h < 160) (ok : okS x h) {fc : Nat → Int32} (hf : ∀ j, j < 6 → gI S 12 0 j = fc j) {g : Nat → Int32} (hst : stk S 13 (g, h)) {v1 v3 : Int32} (c0 : x.1 = 0) : ∃ S2, wdis E kh S v1 (nI h) v3 (nI (enc x)) = f_X0_worth_b224 E kh S2 v1 (nI (hS x h)) v3 ∧ Fm [(13, 0)] S S2 ∧ stk S2 13 (evS fc x (g, h)) := by
  obtain ⟨k1, k2, k3, k4, k5⟩ := ok
  have hst' : ∀ j, j < h → gI S 13 0 j = g j := hst
  unfold wdis
  have he : enc x = 1000 + x.2 := by unfold enc; rw [if_pos c0]
  have := k2
  have eh : hS x h = h + 1 := by unfold hS; rw [if_pos (Or.inl c0)]
  have e2 : nI (1000 + x.2) - (1000 : Int32) = nI x.2 := by
    rw [show (1000 : Int32) = nI 1000 from rfl, pk_sub (by omega), Nat.add_sub_cancel_left]
  refine ⟨sI S 13 0 h (nI x.2), ?_, Fm.rf.sI rfl rfl, ?_⟩
  · rw [he, if_neg (by rw [q_ltR 262 (by decide) (by omega)]; omega), if_neg (by rw [q_ltR 1000 (by decide) (by omega)]; omega), s_w121 hh, e2, eh]
  · unfold evS
    rw [if_pos c0]
    exact stk.up (fun j hj hne => hst' j (by omega)) _
theorem s_ws1 {x : Nat × Nat} {h : Nat} (hh : h < 160) (ok : okS x h) {fc : Nat → Int32} (hf : ∀ j, j < 6 → gI S 12 0 j = fc j) {g : Nat → Int32} (hst : stk S 13 (g, h)) {v1 v3 : Int32} (c0 : ¬ x.1 = 0) (c1 : x.1 = 1) : ∃ S2, wdis E kh S v1 (nI h) v3 (nI (enc x)) = f_X0_worth_b224 E kh S2 v1 (nI (hS x h)) v3 ∧ Fm [(13, 0)] S S2 ∧ stk S2 13 (evS fc x (g, h)) := by
  obtain ⟨k1, k2, k3, k4, k5⟩ := ok
  have hst' : ∀ j, j < h → gI S 13 0 j = g j := hst
  unfold wdis
  have he : enc x = 262 + x.2 := by unfold enc; rw [if_neg c0, if_pos c1]
  have := k3 c1
  have eh : hS x h = h + 1 := by unfold hS; rw [if_pos (Or.inr c1)]
  have e1 : nI (262 + x.2) - (262 : Int32) = nI x.2 := by
    rw [show (262 : Int32) = nI 262 from rfl, pk_sub (by omega), Nat.add_sub_cancel_left]
  have e2 : rmI (nI (262 + x.2) - (262 : Int32)) (6 : Int32) = nI x.2 := by
    rw [e1, show (6 : Int32) = nI 6 from rfl, q_rm (by omega) (by decide) (by decide), Nat.mod_eq_of_lt this]
  refine ⟨sI S 13 0 h (fc x.2), ?_, Fm.rf.sI rfl rfl, ?_⟩
  · rw [he, if_neg (by rw [q_ltR 262 (by decide) (by omega)]; omega), if_pos (by rw [q_ltR 1000 (by decide) (by omega)]; omega), e2, ck_in (ib_nI (by omega) (by decide)), q_cl (by omega), hf _ this, s_w121 hh, eh]
  · unfold evS
    rw [if_neg c0, if_pos c1]
    exact stk.up (fun j hj hne => hst' j (by omega)) _
theorem s_ws4 {x : Nat × Nat} {h : Nat} (hh : h < 160) (ok : okS x h) {fc : Nat → Int32} (hf : ∀ j, j < 6 → gI S 12 0 j = fc j) {g : Nat → Int32} (hst : stk S 13 (g, h)) {v1 v3 : Int32} (c0 : ¬ x.1 = 0) (c1 : ¬ x.1 = 1) (c4 : x.1 = 4) : ∃ S2, wdis E kh S v1 (nI h) v3 (nI (enc x)) = f_X0_worth_b224 E kh S2 v1 (nI (hS x h)) v3 ∧ Fm [(13, 0)] S S2 ∧ stk S2 13 (evS fc x (g, h)) := by
  obtain ⟨k1, k2, k3, k4, k5⟩ := ok
  have hst' : ∀ j, j < h → gI S 13 0 j = g j := hst
  unfold wdis
  obtain ⟨l1, l2, l3, l4⟩ := enc_lo (x := x) (by omega)
  have hh1 := k4 (Or.inl c4)
  obtain ⟨h', rfl⟩ : ∃ h', h = h' + 1 := ⟨h - 1, by omega⟩
  have eh : hS x (h' + 1) = h' + 1 := by unfold hS; rw [if_neg (by omega), if_pos (Or.inl c4)]
  refine ⟨sI S 13 0 h' (if gI S 13 0 h' = 0 then 1 else 0), ?_, Fm.rf.sI rfl rfl, ?_⟩
  · rw [if_pos (by rw [q_ltR 262 (by decide) (by omega)]; exact l1)]
    unfold f_X0_worth_b128
    rw [if_neg (by rw [q_leR 0 (by decide) (by omega)]; omega), l2 c4, if_pos (show nI 261 = (261 : Int32) from rfl), eh]
    unfold f_X0_worth_b146
    simp only [lt_]
    rw [q_m1, ck_in (ib_nI (by omega) (by decide)), q_cl (by omega), if_neg (show ¬ nI 261 = (1 : Int32) by decide)]
    by_cases z : gI S 13 0 h' = 0
    · rw [if_pos z, if_pos z, s_w185 (by omega)]
    · rw [if_neg z, if_neg z, s_w185 (by omega)]
  · unfold evS
    rw [if_neg c0, if_neg c1, if_pos c4]
    dsimp only
    rw [hst' h' (by omega)]
    exact stk.up (fun j hj hne => hst' j (by omega)) _
theorem s_ws10 {x : Nat × Nat} {h : Nat} (hh : h < 160) (ok : okS x h) {fc : Nat → Int32} (hf : ∀ j, j < 6 → gI S 12 0 j = fc j) {g : Nat → Int32} (hst : stk S 13 (g, h)) {v1 v3 : Int32} (c0 : ¬ x.1 = 0) (c1 : ¬ x.1 = 1) (c4 : ¬ x.1 = 4) (c10 : x.1 = 10) : ∃ S2, wdis E kh S v1 (nI h) v3 (nI (enc x)) = f_X0_worth_b224 E kh S2 v1 (nI (hS x h)) v3 ∧ Fm [(13, 0)] S S2 ∧ stk S2 13 (evS fc x (g, h)) := by
  obtain ⟨k1, k2, k3, k4, k5⟩ := ok
  have hst' : ∀ j, j < h → gI S 13 0 j = g j := hst
  unfold wdis
  obtain ⟨l1, l2, l3, l4⟩ := enc_lo (x := x) (by omega)
  have hh1 := k4 (Or.inr c10)
  obtain ⟨h', rfl⟩ : ∃ h', h = h' + 1 := ⟨h - 1, by omega⟩
  have eh : hS x (h' + 1) = h' + 1 := by unfold hS; rw [if_neg (by omega), if_pos (Or.inr c10)]
  refine ⟨sI S 13 0 h' (- gI S 13 0 h'), ?_, Fm.rf.sI rfl rfl, ?_⟩
  · rw [if_pos (by rw [q_ltR 262 (by decide) (by omega)]; exact l1)]
    unfold f_X0_worth_b128
    rw [if_neg (by rw [q_leR 0 (by decide) (by omega)]; omega), l3 c10, if_neg (show ¬ nI 1 = (261 : Int32) by decide), if_pos (show nI 1 = (1 : Int32) from rfl), eh]
    unfold f_X0_worth_b146
    simp only [lt_]
    rw [q_m1, ck_in (ib_nI (by omega) (by decide)), q_cl (by omega), if_pos (show nI 1 = (1 : Int32) from rfl), s_w185 (by omega)]
  · unfold evS
    rw [if_neg c0, if_neg c1, if_neg c4, if_pos c10]
    dsimp only
    rw [hst' h' (by omega)]
    exact stk.up (fun j hj hne => hst' j (by omega)) _
theorem s_ws2 {x : Nat × Nat} {h : Nat} (hh : h < 160) (ok : okS x h) {fc : Nat → Int32} (hf : ∀ j, j < 6 → gI S 12 0 j = fc j) {g : Nat → Int32} (hst : stk S 13 (g, h)) {v1 v3 : Int32} (c0 : ¬ x.1 = 0) (c1 : ¬ x.1 = 1) (c4 : ¬ x.1 = 4) (c10 : ¬ x.1 = 10) : ∃ S2, wdis E kh S v1 (nI h) v3 (nI (enc x)) = f_X0_worth_b224 E kh S2 v1 (nI (hS x h)) v3 ∧ Fm [(13, 0)] S S2 ∧ stk S2 13 (evS fc x (g, h)) := by
  obtain ⟨k1, k2, k3, k4, k5⟩ := ok
  have hst' : ∀ j, j < h → gI S 13 0 j = g j := hst
  unfold wdis
  obtain ⟨l1, l2, l3, l4⟩ := enc_lo (x := x) (by omega)
  obtain ⟨n1, n2⟩ := l4 k1 c4 c10
  obtain ⟨h', rfl⟩ : ∃ h', h = h' + 1 + 1 := ⟨h - 2, by omega⟩
  have eh : hS x (h' + 1 + 1) = h' + 1 := by unfold hS; rw [if_neg (by omega), if_neg (by omega), Nat.add_sub_cancel]
  refine ⟨sI S 13 0 h' (dnI x.1 (gI S 13 0 h') (gI S 13 0 (h' + 1))), ?_, Fm.rf.sI rfl rfl, ?_⟩
  · have z1 : nI (enc x) < (262 : Int32) := (q_ltR 262 (by decide) (by omega)).mpr l1
    have z2 : ¬ nI (h' + 1 + 1) ≤ (0 : Int32) := fun q => absurd ((q_leR 0 (by decide) (by omega)).mp q) (by omega)
    have z3 : ¬ nI (enc x) = (261 : Int32) := fun q => n1 ((q_eqR 261 (by decide) (by omega)).mp q)
    have z4 : ¬ nI (enc x) = (1 : Int32) := fun q => n2 ((q_eqR 1 (by decide) (by omega)).mp q)
    have z5 : ¬ nI (h' + 1 + 1) ≤ (1 : Int32) := fun q => absurd ((q_leR 1 (by decide) (by omega)).mp q) (by omega)
    have z6 : ib_ (nI h') 160 = true := ib_nI (by omega) (by decide)
    have z7 : ib_ (nI (h' + 1)) 160 = true := ib_nI (by omega) (by decide)
    rw [if_pos z1]
    unfold f_X0_worth_b128
    rw [if_neg z2, if_neg z3, if_neg z4, eh]
    unfold f_X0_worth_b189
    rw [if_neg z5, lt_e, q_ad1, q_m1, ck_in z6, ck_in z7, q_cl (show h' < 2147483648 by omega), q_cl (show h' + 1 < 2147483648 by omega), bd_some (s_joined k1 c0 c1 c4 c10 _ _), lt_e]
  · unfold evS
    rw [if_neg c0, if_neg c1, if_neg c4, if_neg c10]
    dsimp only
    rw [show h' + 1 + 1 - 2 = h' by omega, show h' + 1 + 1 - 1 = h' + 1 by omega, hst' h' (by omega), hst' (h' + 1) (by omega)]
    exact stk.up (fun j hj hne => hst' j (by omega)) _
end EVC
theorem s_wsign {E : EN} {S : ST} {kh : ST → Int32 → Int32 → Int32 → Option (Int32 × ST)} {x : Nat × Nat} {h : Nat} (hh : h < 160) (ok : okS x h) {fc : Nat → Int32} (hf : ∀ j, j < 6 → gI S 12 0 j = fc j) {g : Nat → Int32} (hst : stk S 13 (g, h)) {v1 v3 : Int32} :
    ∃ S2, wdis E kh S v1 (nI h) v3 (nI (enc x)) = f_X0_worth_b224 E kh S2 v1 (nI (hS x h)) v3 ∧ Fm [(13, 0)] S S2 ∧ stk S2 13 (evS fc x (g, h)) := by
  by_cases c0 : x.1 = 0
  · exact s_ws0 hh ok hf hst c0
  by_cases c1 : x.1 = 1
  · exact s_ws1 hh ok hf hst c0 c1
  by_cases c4 : x.1 = 4
  · exact s_ws4 hh ok hf hst c0 c1 c4
  by_cases c10 : x.1 = 10
  · exact s_ws10 hh ok hf hst c0 c1 c4 c10
  · exact s_ws2 hh ok hf hst c0 c1 c4 c10
