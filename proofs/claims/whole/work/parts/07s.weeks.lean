/-! PURE PART: weeks: one week on both sides -/
/-- chances by key, week, class, moved, step -/
def lsR (S : ST) (t so : Nat) : Nat → Nat → Nat → Nat → Nat → Nat := fun key w g m s => rvS S t key s g w so m
theorem lsR_keep {S S1 : ST} (a : Ag dRR S S1) (t so : Nat) : lsR S1 t so = lsR S t so := by
  funext key w g m s
  exact rvS_keep a _ _ _ _ _ _ _
theorem lsR_0 (S : ST) (t so w g m s : Nat) : lsR S t so 0 w g m s ≤ 10 := rvS_le S t 0 s g w so m
theorem lsR_1 (S : ST) (t so w g m s : Nat) : lsR S t so 1 w g m s ≤ 10 := rvS_le S t 1 s g w so m
theorem lsR_2 (S : ST) (t so w g m s : Nat) : lsR S t so 2 w g m s ≤ 99 := rvS_le S t 2 s g w so m
/-- bit w of M becomes b -/
def setb (M w b : Nat) : Nat := M - M / 2 ^ w % 2 * 2 ^ w + b * 2 ^ w
theorem q_setb {M w b : Nat} (hM : M < 32) (hw : w < 5) (hb : b < 2) : (((nI M) &&& (((1 : Int32) <<< (nI w &&& 31)) ^^^ (-1 : Int32))) ||| (nI b <<< (nI w &&& 31))) = nI (setb M w b) ∧ setb M w b < 32 ∧ setb M w b / 2 ^ w % 2 = b := by
  have all : ∀ w, w < 5 → ∀ b, b < 2 → ∀ M, M < 32 → (((nI M) &&& (((1 : Int32) <<< (nI w &&& 31)) ^^^ (-1 : Int32))) ||| (nI b <<< (nI w &&& 31))) = nI (setb M w b) ∧ setb M w b < 32 ∧ setb M w b / 2 ^ w % 2 = b := by decide +kernel
  exact all w hw b hb M hM
theorem q_setb2 {M w b v : Nat} (hM : M < 32) (hw : w < 5) (hb : b < 2) (hv : v < 5) (hne : v ≠ w) : setb M w b / 2 ^ v % 2 = M / 2 ^ v % 2 := by
  have all : ∀ w, w < 5 → ∀ b, b < 2 → ∀ v, v < 5 → v ≠ w → ∀ M, M < 32 → setb M w b / 2 ^ v % 2 = M / 2 ^ v % 2 := by decide +kernel
  exact all w hw b hb v hv hne M hM
/-- the step below's rise -/
def rsn (L : Nat → Nat → Nat → Nat → Nat → Nat) (w g m : Nat) (r : Nat → Nat) (s : Nat) : Nat := if s = 0 then 0 else r (s - 1) * L 0 w g m (s - 1)
theorem rsn_s (L : Nat → Nat → Nat → Nat → Nat → Nat) (w g m : Nat) (r : Nat → Nat) (s : Nat) : rsn L w g m r (s + 1) = r s * L 0 w g m s := by
  unfold rsn
  rw [if_neg (by omega), Nat.add_sub_cancel]
theorem gL_sL' (S : ST) (K i j : Nat) (v : Int64) (i' j' : Nat) : gL (sL S K i j v) K i' j' = if i' = i ∧ j' = j then v else gL S K i' j' := by
  rw [gL_sL]
  by_cases z : i' = i ∧ j' = j
  · rw [if_pos ⟨rfl, z.1, z.2⟩, if_pos z]
  · rw [if_neg (fun y => z y.2), if_neg z]
section WK
variable {E : EN} {S0 : ST} {t so : Nat}
theorem s_pass51 (hN : 3000 ≤ E.1) (hr : RR E S0) {w g m b : Nat} (hw : w < 5) (hg : g < 5) (hm : m < 6) (hb : b < 2) {r : Nat → Nat} (h18 : gI S0 18 0 w = nI g) (h19 : gI S0 19 0 w = nI m) (h28 : ∀ s, s < 5 → gL S0 28 w s = lN (r s)) :
    ∀ (q s n : Nat) (S1 : ST), s + q = 5 → q < n → Fm [(28, 0), (11, 0), (12, 0), (13, 0)] S0 S1 → RCt E S1 t so → (∀ i j, i ≠ w + 1 → gL S1 28 i j = gL S0 28 i j) → (∀ s', s' < s → gL S1 28 (w + 1) s' = lN (nxr (lsR S0 t so) w g m b r s')) →
      ∃ S2, f_X1_pass_b51 E n S1 (nI w) (nI b) w (w + 1) (lN (rsn (lsR S0 t so) w g m r s)) (nI s) = some S2 ∧ Fm [(28, 0), (11, 0), (12, 0), (13, 0)] S0 S2 ∧ RCt E S2 t so ∧ (∀ i j, i ≠ w + 1 → gL S2 28 i j = gL S0 28 i j) ∧ ∀ s', s' < 5 → gL S2 28 (w + 1) s' = lN (nxr (lsR S0 t so) w g m b r s') := by
  intro q
  induction q with
  | zero =>
    intro s n S1 hs hn F hc hi hv
    obtain ⟨n, rfl⟩ : ∃ n', n = n' + 1 := ⟨n - 1, by omega⟩
    have e : s = 5 := by omega
    subst e
    refine ⟨S1, ?_, F, hc, hi, hv⟩
    rw [show f_X1_pass_b51 E (n + 1) = g_X1_pass_b51 E (f_X1_pass_b51 E n) from rfl]
    unfold g_X1_pass_b51
    rw [if_pos (show (5 : Int32) ≤ nI 5 by decide)]
  | succ q ih =>
    intro s n S1 hs hn F hc hi hv
    obtain ⟨n, rfl⟩ : ∃ n', n = n' + 1 := ⟨n - 1, by omega⟩
    obtain ⟨S3, e3, F3, c3⟩ := s_asks (E := E) hN (hr.keep (F.ag rfl)) hc (key := 0) (st := s) (g := g) (w := w) (m := m) (by decide) hm (by omega) hg (by omega)
    have G3 : Fm [(28, 0), (11, 0), (12, 0), (13, 0)] S0 S3 := F.trans (F3.mono rfl)
    obtain ⟨S5, e5, F5, c5⟩ := s_asks (E := E) hN (hr.keep (G3.ag rfl)) c3 (key := 1) (st := s) (g := g) (w := w) (m := m) (by decide) hm (by omega) hg (by omega)
    have G5 : Fm [(28, 0), (11, 0), (12, 0), (13, 0)] S0 S5 := G3.trans (F5.mono rfl)
    have v3 : rvS S1 t 0 s g w so m = lsR S0 t so 0 w g m s := rvS_keep (F.ag rfl) _ _ _ _ _ _ _
    have v5 : rvS S3 t 1 s g w so m = lsR S0 t so 1 w g m s := rvS_keep (G3.ag rfl) _ _ _ _ _ _ _
    have l0 := lsR_0 S0 t so w g m s
    have l1 := lsR_1 S0 t so w g m s
    rw [v3] at e3
    rw [v5] at e5
    have hL5 : ∀ i j, gL S5 28 i j = gL S1 28 i j := fun i j => (F5.L rfl).trans (F3.L rfl)
    have hrow : gL S5 28 w s = lN (r s) := by rw [hL5, hi w s (by omega), h28 s (by omega)]
    have tail : ∀ t0 : Int64, t0 = lN (if b = 1 then lsR S0 t so 1 w g m s else 10 - lsR S0 t so 1 w g m s) → ∃ S2, f_X1_pass_b143 E (f_X1_pass_b51 E n) S5 (nI w) (nI b) w (w + 1) (nI s) (nI (lsR S0 t so 0 w g m s)).toInt64 t0 (((gL S5 28 w (nI s).toNatClampNeg) * ((10 : Int64) - (nI (lsR S0 t so 0 w g m s)).toInt64)) + lN (rsn (lsR S0 t so) w g m r s)) (nI s) (w + 1) = some S2 ∧ Fm [(28, 0), (11, 0), (12, 0), (13, 0)] S0 S2 ∧ RCt E S2 t so ∧ (∀ i j, i ≠ w + 1 → gL S2 28 i j = gL S0 28 i j) ∧ ∀ s', s' < 5 → gL S2 28 (w + 1) s' = lN (nxr (lsR S0 t so) w g m b r s') := fun t0 ht0 => by
      have ev : (((gL S5 28 w (nI s).toNatClampNeg) * ((10 : Int64) - (nI (lsR S0 t so 0 w g m s)).toInt64)) + lN (rsn (lsR S0 t so) w g m r s)) * t0 = lN (nxr (lsR S0 t so) w g m b r s) := by
        rw [q_cl (by omega), hrow, nI_l (by omega), show (10 : Int64) = lN 10 from rfl, lN_sub l0, lN_mul, lN_add, ht0, lN_mul]
        rfl
      have FN : Fm [(28, 0), (11, 0), (12, 0), (13, 0)] S0 (sL S5 28 (w + 1) s (lN (nxr (lsR S0 t so) w g m b r s))) := G5.sL rfl rfl
      obtain ⟨S2, e2, R⟩ := ih (s + 1) n (sL S5 28 (w + 1) s (lN (nxr (lsR S0 t so) w g m b r s))) (by omega) (by omega) FN (c5.keep (Fm.ag (w := [(28, 0)]) (Fm.rf.sL rfl rfl) rfl))
        (fun i j hne => by rw [gL_sL', if_neg (fun y => hne y.1), hL5, hi i j hne])
        (fun s' hs' => by
          rw [gL_sL']
          by_cases z : s' = s
          · rw [if_pos ⟨rfl, z⟩, z]
          · rw [if_neg (fun y => z y.2), hL5]
            exact hv s' (by omega))
      refine ⟨S2, ?_, R⟩
      rw [← e2]
      unfold f_X1_pass_b143
      rw [ck_in (ib_nI (by omega) (by decide)), ev, q_cl (by omega), lt_e, ck_in (ib_nI (by omega) (by decide)), gL_sL', if_neg (by omega), hrow, nI_l (by omega), lN_mul, lt_e, lt_e, nI_1, ← rsn_s]
    have e0 : f_X1_pass_b51 E (n + 1) S1 (nI w) (nI b) w (w + 1) (lN (rsn (lsR S0 t so) w g m r s)) (nI s) = if nI b = (1 : Int32) then f_X1_pass_b143 E (f_X1_pass_b51 E n) S5 (nI w) (nI b) w (w + 1) (nI s) (nI (lsR S0 t so 0 w g m s)).toInt64 (nI (lsR S0 t so 1 w g m s)).toInt64 (((gL S5 28 w (nI s).toNatClampNeg) * ((10 : Int64) - (nI (lsR S0 t so 0 w g m s)).toInt64)) + lN (rsn (lsR S0 t so) w g m r s)) (nI s) (w + 1) else f_X1_pass_b143 E (f_X1_pass_b51 E n) S5 (nI w) (nI b) w (w + 1) (nI s) (nI (lsR S0 t so 0 w g m s)).toInt64 ((10 : Int64) - (nI (lsR S0 t so 1 w g m s)).toInt64) (((gL S5 28 w (nI s).toNatClampNeg) * ((10 : Int64) - (nI (lsR S0 t so 0 w g m s)).toInt64)) + lN (rsn (lsR S0 t so) w g m r s)) (nI s) (w + 1) := by
      rw [show f_X1_pass_b51 E (n + 1) = g_X1_pass_b51 E (f_X1_pass_b51 E n) from rfl]
      unfold g_X1_pass_b51
      rw [if_neg (by rw [q_leL 5 (by decide) (by omega)]; omega), ck_in (ib_nI (by omega) (by decide)), q_cl (show w < 2147483648 by omega), (F.I rfl).trans h18, (F.I rfl).trans h19, show (0 : Int32) = nI 0 from rfl, bd2_some e3, (G3.I rfl).trans h18, (G3.I rfl).trans h19, show (1 : Int32) = nI 1 from rfl, bd2_some e5, ck_in (ib_nI (by omega) (by decide))]
    rw [e0]
    by_cases zb : b = 1
    · rw [if_pos (show nI b = (1 : Int32) by rw [zb]; rfl)]
      exact tail _ (by rw [if_pos zb, nI_l (by omega)])
    · rw [if_neg (by rw [q_eqR 1 (by decide) (by omega)]; exact zb)]
      exact tail _ (by rw [if_neg zb, nI_l (by omega), show (10 : Int64) = lN 10 from rfl, lN_sub l1])
/-- the class' week with its Friday -/
theorem s_pass (hN : 3000 ≤ E.1) (hr : RR E S0) (hc : RCt E S0 t so) {w g m b M : Nat} (hw : w < 5) (hg : g < 5) (hm : m < 6) (hb : b < 2) (hM : M < 32) {r : Nat → Nat} (h18 : gI S0 18 0 w = nI g) (h19 : gI S0 19 0 w = nI m) (h28 : ∀ s, s < 5 → gL S0 28 w s = lN (r s)) (h16 : gI S0 16 0 6 = nI M) :
    ∃ S2, f_X1_pass E S0 (nI w) (nI b) = some S2 ∧ Fm [(16, 7), (28, 0), (11, 0), (12, 0), (13, 0)] S0 S2 ∧ RCt E S2 t so ∧ gI S2 16 0 6 = nI (setb M w b) ∧ (∀ i j, i ≠ w + 1 → gL S2 28 i j = gL S0 28 i j) ∧ ∀ s', s' < 5 → gL S2 28 (w + 1) s' = lN (nxr (lsR S0 t so) w g m b r s') := by
  unfold f_X1_pass
  rw [if_neg (q_n0 (by omega)), if_pos (by rw [q_ltR 5 (by decide) (by omega)]; exact hw), h16, (q_setb hM hw hb).1, lt_e, ck_in (ib_nI (by omega) (by decide)), nI_1, ck_in (ib_nI (by omega) (by decide)), q_cl (show w < 2147483648 by omega), q_cl (show w + 1 < 2147483648 by omega)]
  have F0 : Fm [(16, 7)] S0 (sI S0 16 0 6 (nI (setb M w b))) := Fm.rf.sI rfl rfl
  have hL : lsR (sI S0 16 0 6 (nI (setb M w b))) t so = lsR S0 t so := lsR_keep (F0.ag rfl) _ _
  obtain ⟨S2, e2, F2, c2, i2, v2⟩ := s_pass51 (E := E) (t := t) (so := so) hN (hr.keep (F0.ag rfl)) hw hg hm hb (r := r) ((F0.I rfl).trans h18) ((F0.I rfl).trans h19) (fun s hs => (F0.L rfl).trans (h28 s hs)) 5 0 E.1 (sI S0 16 0 6 (nI (setb M w b))) rfl (by omega) Fm.rf (hc.keep (F0.ag rfl)) (fun i j _ => rfl) (fun s' hs' => absurd hs' (by omega))
  rw [hL] at e2 v2
  refine ⟨S2, e2, (F0.mono rfl).trans (F2.mono rfl), c2, ?_, fun i j hne => (i2 i j hne).trans (F0.L rfl), v2⟩
  rw [F2.I rfl, gI_sI, if_pos ⟨rfl, rfl, rfl⟩]
end WK
