/-! PURE PART: weeks: the class' settling; the reference's week -/
/-- a class moved and held -/
def hel (g : Nat) (by' : Int32) : Nat := if by' = 1 then (if g < 4 then g + 1 else 4) else if by' = -1 then g - 1 else g
def isBy (x : Int32) : Prop := x = -1 ∨ x = 0 ∨ x = 1
theorem hel_le {g : Nat} (h : g ≤ 4) (x : Int32) : hel g x ≤ 4 := by
  unfold hel
  (repeat' split) <;> omega
theorem wis_by (k n w b bp ch g : Nat) (r : Nat → Nat) : isBy (wis k n w b bp ch g r) := by
  unfold wis twi isBy
  (repeat' split) <;> simp
theorem s_heldC {E : EN} {S : ST} {g : Nat} {x : Int32} (hg : g < 5) (hx : isBy x) : f_X6_held E S (nI g + x) = some (nI (hel g x)) := by
  unfold f_X6_held
  have hgg : g = 0 ∨ g = 1 ∨ g = 2 ∨ g = 3 ∨ g = 4 := by omega
  rcases hgg with rfl | rfl | rfl | rfl | rfl <;> rcases hx with rfl | rfl | rfl <;> rfl
theorem s_heldM {E : EN} {S : ST} {g : Nat} {x : Int32} (hg : g < 5) (hx : isBy x) : f_X7_held E S (nI g + x) = some (nI (hel g x)) := by
  unfold f_X7_held
  have hgg : g = 0 ∨ g = 1 ∨ g = 2 ∨ g = 3 ∨ g = 4 := by omega
  rcases hgg with rfl | rfl | rfl | rfl | rfl <;> rcases hx with rfl | rfl | rfl <;> rfl
theorem gI_same (S : ST) (K i j : Nat) (v : Int32) : gI (sI S K i j v) K i j = v := by rw [gI_sI, if_pos ⟨rfl, rfl, rfl⟩]
theorem gI_ne {S : ST} {K i j : Nat} {v : Int32} {K' i' j' : Nat} (h : ¬ (K' = K ∧ i' = i ∧ j' = j)) : gI (sI S K i j v) K' i' j' = gI S K' i' j' := by rw [gI_sI, if_neg h]
/-- 1 where the class changed -/
def chg (g : Nat) (x : Int32) : Nat := if hel g x = g then 0 else 1
theorem s_settle {E : EN} {S : ST} {w g m : Nat} {x : Int32} (hw : w < 5) (hg : g < 5) (hx : isBy x) (h18 : gI S 18 0 w = nI g) (h19 : gI S 19 0 w = nI m) :
    f_X1_settle E S (nI w) x = some (sI (sI S 18 0 (w + 1) (nI (hel g x))) 19 0 (w + 1) (nI (m + chg g x))) := by
  have hl := hel_le (g := g) (by omega) x
  unfold f_X1_settle
  rw [if_neg (q_n0 (by omega)), if_pos (by rw [q_ltR 5 (by decide) (by omega)]; exact hw), ck_in (ib_nI (by omega) (by decide)), q_cl (show w < 2147483648 by omega), h18, bd_some (s_heldC hg hx), nI_1, ck_in (ib_nI (by omega) (by decide)), q_cl (show w + 1 < 2147483648 by omega), lt_e, gI_same, gI_ne (show ¬ (18 = 18 ∧ 0 = 0 ∧ w = w + 1) by omega), h18, gI_ne (show ¬ (19 = 18 ∧ 0 = 0 ∧ w = w + 1) by omega), h19]
  unfold chg f_X1_settle_b64
  by_cases z : hel g x = g
  · rw [if_pos (by rw [z]), if_pos z, ck_in (ib_nI (by omega) (by decide)), q_cl (by omega), lt_e, show (0 : Int32) = nI 0 from rfl, nI_add]
  · rw [if_neg (fun q => z (q_inj (by omega) (by omega) q)), if_neg z, ck_in (ib_nI (by omega) (by decide)), q_cl (by omega), lt_e, show (1 : Int32) = nI 1 from rfl, nI_add]
theorem s_move {E : EN} {S : ST} {w g m : Nat} {x : Int32} (hw : w < 5) (hg : g < 5) (hx : isBy x) (h67 : gI S 67 0 w = nI g) (h68 : gI S 68 0 w = nI m) :
    f_X7_move E S (nI w) x = some (sI (sI (sI S 67 0 (w + 1) (nI (hel g x))) 69 0 (w + 1) (nI (chg g x))) 68 0 (w + 1) (nI (m + chg g x))) := by
  have hl := hel_le (g := g) (by omega) x
  unfold f_X7_move
  rw [ck_in (ib_nI (by omega) (by decide)), q_cl (show w < 2147483648 by omega), h67, bd_some (s_heldM hg hx), nI_1, ck_in (ib_nI (by omega) (by decide)), q_cl (show w + 1 < 2147483648 by omega), lt_e, gI_same, gI_ne (show ¬ (67 = 67 ∧ 0 = 0 ∧ w = w + 1) by omega), h67]
  unfold chg
  by_cases z : hel g x = g
  · rw [if_pos (by rw [z]), if_pos z]
    unfold f_X7_move_b49
    rw [ck_in (ib_nI (by omega) (by decide)), q_cl (by omega), lt_e, ck_in (ib_nI (by omega) (by decide)), nI_1, ck_in (ib_nI (by omega) (by decide)), q_cl (show w + 1 < 2147483648 by omega), gI_same, if_pos (by decide), q_cl (show w < 2147483648 by omega)]
    unfold f_X7_move_b79
    rw [ck_in (ib_nI (by omega) (by decide)), q_cl (by omega), lt_e, gI_sI, if_neg (by omega), gI_sI, if_neg (by omega), h68, show (0 : Int32) = nI 0 from rfl, nI_add]
    rfl
  · rw [if_neg (fun q => z (q_inj (by omega) (by omega) q)), if_neg z]
    unfold f_X7_move_b49
    rw [ck_in (ib_nI (by omega) (by decide)), q_cl (by omega), lt_e, ck_in (ib_nI (by omega) (by decide)), nI_1, ck_in (ib_nI (by omega) (by decide)), q_cl (show w + 1 < 2147483648 by omega), gI_same, if_neg (by decide), q_cl (show w < 2147483648 by omega)]
    unfold f_X7_move_b79
    rw [ck_in (ib_nI (by omega) (by decide)), q_cl (by omega), lt_e, gI_sI, if_neg (by omega), gI_sI, if_neg (by omega), h68, show (1 : Int32) = nI 1 from rfl, nI_add]
    rfl
/-- a rule laid down, as later weeks see it -/
def LD (S : ST) (L : Nat → Nat → Nat → Nat → Nat → Nat) : Prop := ∀ g m s, g < 5 → m < 6 → s < 5 → gI S 65 0 (30 * g + 5 * m + s) = nI (L 2 5 g m s) ∧ ∀ w, w < 5 → gI S 63 0 (150 * w + (30 * g + 5 * m + s)) = nI (L 0 w g m s) ∧ gI S 64 0 (150 * w + (30 * g + 5 * m + s)) = nI (L 1 w g m s)
theorem LI.ld {S0 S1 : ST} {t so : Nat} (h : LI S0 S1 t so 150 0 0) : LD S1 (lsR S0 t so) := fun g m s hg hm hs => by
  have hj := h.2 (30 * g + 5 * m + s) (by omega)
  rw [show (30 * g + 5 * m + s) % 5 = s by omega, show (30 * g + 5 * m + s) / 30 = g by omega, show (30 * g + 5 * m + s) / 5 % 6 = m by omega] at hj
  exact ⟨hj.1 (by omega), fun w hw => hj.2 w hw (Or.inl (by omega))⟩
theorem LD.keep {S S1 : ST} {L : Nat → Nat → Nat → Nat → Nat → Nat} (h : LD S L) (a : Ag [(63, 0), (64, 0), (65, 0)] S S1) : LD S1 L := fun g m s hg hm hs =>
  ⟨(a.I rfl).trans (h g m s hg hm hs).1, fun w hw => ⟨(a.I rfl).trans ((h g m s hg hm hs).2 w hw).1, (a.I rfl).trans ((h g m s hg hm hs).2 w hw).2⟩⟩
theorem s_goWeek {E : EN} {S0 : ST} {L : Nat → Nat → Nat → Nat → Nat → Nat} (hN : 10 ≤ E.1) (hd : LD S0 L) {w g m b : Nat} (hw : w < 5) (hg : g < 5) (hm : m < 6) (hb : b < 2) (l0 : ∀ s, L 0 w g m s ≤ 10) (l1 : ∀ s, L 1 w g m s ≤ 10) {r : Nat → Nat} (h67 : gI S0 67 0 w = nI g) (h68 : gI S0 68 0 w = nI m) (h66 : ∀ s, s < 5 → gL S0 66 0 (5 * w + s) = lN (r s)) :
    ∃ S2, f_X7_goWeek E S0 (nI w) (nI b) = some S2 ∧ Fm [(66, 0)] S0 S2 ∧ (∀ j, (j < 5 * w + 5 ∨ 5 * w + 10 ≤ j) → gL S2 66 0 j = gL S0 66 0 j) ∧ ∀ s, s < 5 → gL S2 66 0 (5 * w + 5 + s) = lN (nxr L w g m b r s) := by
  have lp : ∀ (q s n : Nat) (S1 : ST), s + q = 5 → q < n → Fm [(66, 0)] S0 S1 → (∀ j, (j < 5 * w + 5 ∨ 5 * w + 10 ≤ j) → gL S1 66 0 j = gL S0 66 0 j) → (∀ s', s' < s → gL S1 66 0 (5 * w + 5 + s') = lN (nxr L w g m b r s')) →
      ∃ S2, f_X7_goWeek_b31 E n S1 (nI w) (nI b) (nI (150 * w + (30 * g + 5 * m))) (lN (rsn L w g m r s)) (nI s) = some S2 ∧ Fm [(66, 0)] S0 S2 ∧ (∀ j, (j < 5 * w + 5 ∨ 5 * w + 10 ≤ j) → gL S2 66 0 j = gL S0 66 0 j) ∧ ∀ s', s' < 5 → gL S2 66 0 (5 * w + 5 + s') = lN (nxr L w g m b r s') := by
    intro q
    induction q with
    | zero =>
      intro s n S1 hs hn F hi hv
      obtain ⟨n, rfl⟩ : ∃ n', n = n' + 1 := ⟨n - 1, by omega⟩
      have e : s = 5 := by omega
      subst e
      refine ⟨S1, ?_, F, hi, hv⟩
      rw [show f_X7_goWeek_b31 E (n + 1) = g_X7_goWeek_b31 E (f_X7_goWeek_b31 E n) from rfl]
      unfold g_X7_goWeek_b31
      rw [if_pos (show (5 : Int32) ≤ nI 5 by decide)]
    | succ q ih =>
      intro s n S1 hs hn F hi hv
      obtain ⟨n, rfl⟩ : ∃ n', n = n' + 1 := ⟨n - 1, by omega⟩
      have hrow : gL S1 66 0 (5 * w + s) = lN (r s) := by rw [hi _ (by omega), h66 s (by omega)]
      obtain ⟨-, d2⟩ := hd g m s hg hm (by omega)
      obtain ⟨d3, d4⟩ := d2 w hw
      have k0 := l0 s
      have k1 := l1 s
      have tail : ∀ t0 : Int32, t0.toInt64 = lN (if b = 1 then L 1 w g m s else 10 - L 1 w g m s) → ∃ S2, f_X7_goWeek_b129 E (f_X7_goWeek_b31 E n) S1 (nI w) (nI b) (nI (150 * w + (30 * g + 5 * m))) (lN (r s) * (nI (L 0 w g m s)).toInt64) (nI s) t0 ((lN (r s) * (((10 : Int32) - nI (L 0 w g m s)).toInt64)) + lN (rsn L w g m r s)) (nI (5 * w + 5 + s)) = some S2 ∧ Fm [(66, 0)] S0 S2 ∧ (∀ j, (j < 5 * w + 5 ∨ 5 * w + 10 ≤ j) → gL S2 66 0 j = gL S0 66 0 j) ∧ ∀ s', s' < 5 → gL S2 66 0 (5 * w + 5 + s') = lN (nxr L w g m b r s') := fun t0 ht0 => by
        have ev : (((lN (r s) * (((10 : Int32) - nI (L 0 w g m s)).toInt64)) + lN (rsn L w g m r s)) * t0.toInt64) = lN (nxr L w g m b r s) := by
          rw [show (10 : Int32) = nI 10 from rfl, pk_sub k0, nI_l (by omega), lN_mul, lN_add, ht0, lN_mul]
          rfl
        obtain ⟨S2, e2, R⟩ := ih (s + 1) n (sL S1 66 0 (5 * w + 5 + s) (lN (nxr L w g m b r s))) (by omega) (by omega) (F.sL rfl rfl)
          (fun j hj => by rw [gL_sL', if_neg (by omega), hi j hj])
          (fun s' hs' => by
            rw [gL_sL']
            by_cases z : s' = s
            · rw [if_pos (by omega), z]
            · rw [if_neg (by omega)]
              exact hv s' (by omega))
        refine ⟨S2, ?_, R⟩
        rw [← e2]
        unfold f_X7_goWeek_b129
        rw [ck_in (ib_nI (by omega) (by decide)), ev, q_cl (by omega), lt_e, lt_e, nI_1, nI_l (by omega), lN_mul, ← rsn_s]
      have e0 : f_X7_goWeek_b31 E (n + 1) S1 (nI w) (nI b) (nI (150 * w + (30 * g + 5 * m))) (lN (rsn L w g m r s)) (nI s) = if nI b = (1 : Int32) then f_X7_goWeek_b129 E (f_X7_goWeek_b31 E n) S1 (nI w) (nI b) (nI (150 * w + (30 * g + 5 * m))) (lN (r s) * (nI (L 0 w g m s)).toInt64) (nI s) (nI (L 1 w g m s)) ((lN (r s) * (((10 : Int32) - nI (L 0 w g m s)).toInt64)) + lN (rsn L w g m r s)) (nI (5 * w + 5 + s)) else f_X7_goWeek_b129 E (f_X7_goWeek_b31 E n) S1 (nI w) (nI b) (nI (150 * w + (30 * g + 5 * m))) (lN (r s) * (nI (L 0 w g m s)).toInt64) (nI s) ((10 : Int32) - nI (L 1 w g m s)) ((lN (r s) * (((10 : Int32) - nI (L 0 w g m s)).toInt64)) + lN (rsn L w g m r s)) (nI (5 * w + 5 + s)) := by
        have ei : ((((5 : Int32) * nI w) + (5 : Int32)) + nI s) = nI (5 * w + 5 + s) := by
          rw [show (5 : Int32) = nI 5 from rfl, pk_mul, nI_add, nI_add]
        rw [show f_X7_goWeek_b31 E (n + 1) = g_X7_goWeek_b31 E (f_X7_goWeek_b31 E n) from rfl]
        unfold g_X7_goWeek_b31
        rw [if_neg (by rw [q_leL 5 (by decide) (by omega)]; omega), ei, q_5w, ck_in (ib_nI (by omega) (by decide)), q_cl (show 5 * w + s < 2147483648 by omega), hrow, lt_e, nI_add, ck_in (ib_nI (by omega) (by decide)), q_cl (show 150 * w + (30 * g + 5 * m) + s < 2147483648 by omega), Nat.add_assoc, F.I rfl, d3, F.I rfl, d4, lt_e, lt_e]
      rw [e0]
      by_cases zb : b = 1
      · rw [if_pos (show nI b = (1 : Int32) by rw [zb]; rfl)]
        exact tail _ (by rw [if_pos zb, nI_l (by omega)])
      · rw [if_neg (by rw [q_eqR 1 (by decide) (by omega)]; exact zb)]
        exact tail _ (by rw [if_neg zb, show (10 : Int32) = nI 10 from rfl, pk_sub k1, nI_l (by omega)])
  unfold f_X7_goWeek
  have e3 : ((((150 : Int32) * nI w) + ((30 : Int32) * nI g)) + ((5 : Int32) * nI m)) = nI (150 * w + (30 * g + 5 * m)) := by
    rw [show (150 : Int32) = nI 150 from rfl, show (30 : Int32) = nI 30 from rfl, show (5 : Int32) = nI 5 from rfl, pk_mul, pk_mul, pk_mul, nI_add, nI_add, Nat.add_assoc]
  rw [ck_in (ib_nI (by omega) (by decide)), q_cl (show w < 2147483648 by omega), h67, h68, e3, lt_e]
  exact lp 5 0 E.1 S0 rfl (by omega) Fm.rf (fun _ _ => rfl) (fun s' hs' => absurd hs' (by omega))
