/-! PURE PART: what is asked; says -/
theorem q_ix (key m w g st : Nat) : (((((((nI key * (6 : Int32)) + nI m) * (6 : Int32)) + nI w) * (5 : Int32)) + nI g) * (5 : Int32)) + nI st = nI (ix key m w g st) := by
  rw [show (6 : Int32) = nI 6 from rfl, show (5 : Int32) = nI 5 from rfl, pk_mul, nI_add, pk_mul, nI_add, pk_mul, nI_add, pk_mul, nI_add]
  rfl
theorem q_left {w : Nat} (h : w < 6) : mxI (0 : Int32) ((4 : Int32) - nI w) = nI (4 - w) := by
  have all : ∀ w, w < 6 → mxI (0 : Int32) ((4 : Int32) - nI w) = nI (4 - w) := by decide
  exact all w h
/-- six facts -/
def st6 (S : ST) (K : Nat) (v : Nat → Int32) : ST := sI (sI (sI (sI (sI (sI S K 0 0 (v 0)) K 0 1 (v 1)) K 0 2 (v 2)) K 0 3 (v 3)) K 0 4 (v 4)) K 0 5 (v 5)
theorem gI_st6 (S : ST) (K : Nat) (v : Nat → Int32) {j : Nat} (h : j < 6) : gI (st6 S K v) K 0 j = v j := by
  unfold st6
  have hj : j = 0 ∨ j = 1 ∨ j = 2 ∨ j = 3 ∨ j = 4 ∨ j = 5 := by omega
  rcases hj with rfl | rfl | rfl | rfl | rfl | rfl <;> simp [gI_sI]
theorem st6_F (S : ST) {K : Nat} (v : Nat → Int32) {w : List (Nat × Nat)} (h : ∀ j, wq w K j = true) : Fm w S (st6 S K v) :=
  (((((Fm.rf.sI (h _) rfl).sI (h _) rfl).sI (h _) rfl).sI (h _) rfl).sI (h _) rfl).sI (h _) rfl
theorem s_asks {E : EN} {S : ST} (hN : 3000 ≤ E.1) (hr : RR E S) {t so : Nat} (h : RCt E S t so) {key st g w m : Nat} (q1 : key < 3) (q2 : m < 6) (q3 : w < 6) (q4 : g < 5) (q5 : st < 5) :
    ∃ S2, f_X0_asks E S (nI key) (nI st) (nI g) (nI w) (nI m) = some (nI (rvS S t key st g w so m), S2) ∧ Fm [(11, 0), (12, 0), (13, 0)] S S2 ∧ RCt E S2 t so := by
  obtain ⟨h1, h2, h3, h4, h5, h6⟩ := id h
  obtain ⟨o, hk⟩ := hr.rk h1 q1
  have hix := ix_lt q1 q2 q3 q4 q5
  have hib : ib_ (nI (ix key m w g st)) 2700 = true := ib_nI hix (by decide)
  have hcl : (nI (ix key m w g st)).toNatClampNeg = ix key m w g st := q_cl (by omega)
  have hrv := rvS_le S t key st g w so m
  have hms := mst_lt key
  unfold f_X0_asks
  rw [lt_e, q_ix, if_neg (q_n0 (by omega)), if_pos (by rw [q_ltR 2700 (by decide) (by omega)]; exact hix), ck_in hib, hcl]
  by_cases e : gI S 11 0 (ix key m w g st) = (-1 : Int32)
  · rw [if_pos e, lt_e, lt_e, lt_e, lt_e, lt_e, lt_e, q_left q3]
    have hs6 : sI (sI (sI (sI (sI (sI S 12 0 0 (nI st)) 12 0 1 (nI g)) 12 0 2 (nI w)) 12 0 3 (gI (sI (sI (sI S 12 0 0 (nI st)) 12 0 1 (nI g)) 12 0 2 (nI w)) 10 0 2)) 12 0 4 (nI m)) 12 0 5 (nI (4 - w)) = st6 S 12 (fcI st g w so m) := by
      have : gI (sI (sI (sI S 12 0 0 (nI st)) 12 0 1 (nI g)) 12 0 2 (nI w)) 10 0 2 = nI so := by
        rw [gI_sI, if_neg (by omega), gI_sI, if_neg (by omega), gI_sI, if_neg (by omega), h5]
      rw [this]
      rfl
    rw [hs6]
    have F6 : Fm [(12, 0)] S (st6 S 12 (fcI st g w so m)) := st6_F S _ (fun _ => rfl)
    have fin : ∀ (S3 : ST), Fm [(12, 0), (13, 0)] S S3 → ∃ S2, f_X0_asks_b153 E S3 (nI (ix key m w g st)) (nI (rvS S t key st g w so m)) (nI (ix key m w g st)) = some (nI (rvS S t key st g w so m), S2) ∧ Fm [(11, 0), (12, 0), (13, 0)] S S2 ∧ RCt E S2 t so := fun S3 F3 => by
      have e8 : (nI (rvS S t key st g w so m)).toInt8.toInt32 = nI (rvS S t key st g w so m) := by
        have all : ∀ c, c < 128 → (nI c).toInt8.toInt32 = nI c := by decide
        exact all _ (by omega)
      have F4 : Fm [(11, 0), (12, 0), (13, 0)] S (sI S3 11 0 (ix key m w g st) (nI (rvS S t key st g w so m))) := (F3.mono rfl).sI rfl rfl
      refine ⟨sI S3 11 0 (ix key m w g st) (nI (rvS S t key st g w so m)), ?_, F4, h1, h2, (F4.R rfl).trans h3, (F4.I rfl).trans h4, (F4.I rfl).trans h5, fun key' m' w' g' st' p1 p2 p3 p4 p5 => ?_⟩
      · unfold f_X0_asks_b153
        rw [ck_in hib, hcl, lt_e, e8]
        unfold f_X0_asks_b154
        rw [ck_in hib, hcl, gI_sI, if_pos ⟨rfl, rfl, rfl⟩]
      · rw [rvS_keep (F4.ag (D := dRR) rfl), gI_sI]
        by_cases z : ix key' m' w' g' st' = ix key m w g st
        · obtain ⟨rfl, rfl, rfl, rfl, rfl⟩ := ix_inj p2 p3 p4 p5 q2 q3 q4 q5 z
          rw [if_pos ⟨rfl, rfl, rfl⟩]
          exact Or.inr rfl
        · rw [if_neg (fun y => z y.2.2), F3.I rfl]
          exact h6 key' m' w' g' st' p1 p2 p3 p4 p5
    have mid : ∃ S2, f_X0_asks_b117 E (st6 S 12 (fcI st g w so m)) (nI key) (nI st) (nI (ix key m w g st)) (nI (mst key)) = some (nI (rvS S t key st g w so m), S2) ∧ Fm [(11, 0), (12, 0), (13, 0)] S S2 ∧ RCt E S2 t so := by
      have long : ¬ (key = 0 ∧ st = 4) → ∃ S2, f_X0_asks_b138 E (st6 S 12 (fcI st g w so m)) (nI key) (nI (ix key m w g st)) (nI (mst key)) (nI (ix key m w g st)) = some (nI (rvS S t key st g w so m), S2) ∧ Fm [(11, 0), (12, 0), (13, 0)] S S2 ∧ RCt E S2 t so := fun z => by
        obtain ⟨S3, e3, F3⟩ := s_worth (E := E) (S := st6 S 12 (fcI st g w so m)) (by omega) h1 q1 ((F6.R rfl).trans h3) (hk.keep (F6.ag rfl)) (fc := fcI st g w so m) (fun j hj => gI_st6 S 12 _ hj)
        have er : clN (mst key) (evN (fcI st g w so m) (fN S t key) (nN S t key)) = rvS S t key st g w so m := by
          unfold rvS rv
          rw [if_neg z]
        unfold f_X0_asks_b138
        rw [bd2_some e3, (clN_C hms _).1, er]
        exact fin S3 ((F6.mono rfl).trans (F3.mono rfl))
      unfold f_X0_asks_b117
      by_cases z0 : key = 0
      · by_cases z1 : st = 4
        · subst z0 z1
          rw [if_pos (show nI 0 = (0 : Int32) from rfl), if_pos (show nI 4 = (4 : Int32) from rfl)]
          have er : (0 : Int32) = nI (rvS S t 0 4 g w so m) := by
            unfold rvS rv
            rw [if_pos ⟨rfl, rfl⟩]
            rfl
          rw [er]
          exact fin _ (F6.mono rfl)
        · rw [if_pos (show nI key = (0 : Int32) by rw [z0]; rfl), if_neg (by rw [q_eqR 4 (by decide) (by omega)]; exact z1)]
          exact long (fun q => z1 q.2)
      · rw [if_neg (by rw [q_eqR 0 (by decide) (by omega)]; exact z0)]
        exact long (fun q => z0 q.1)
    by_cases z : key = 2
    · subst z
      rw [if_pos (show nI 2 = (2 : Int32) from rfl)]
      exact mid
    · rw [if_neg (by rw [q_eqR 2 (by decide) (by omega)]; exact z)]
      rw [show mst key = 10 from by unfold mst; rw [if_neg z]] at mid
      exact mid
  · rw [if_neg e]
    unfold f_X0_asks_b154
    rw [ck_in hib, hcl]
    rcases h6 key m w g st q1 q2 q3 q4 q5 with y | y
    · exact absurd y e
    · exact ⟨S, by rw [y], Fm.rf, h⟩
/-- the reference's answer -/
theorem s_bounded {E : EN} {S : ST} (hN : 3000 ≤ E.1) (hr : RR E S) {t : Nat} (ht : t < E.2.2.1) (h7 : gI S 1 0 7 = nI t) {key st g w so m : Nat} (q1 : key < 3) (q3 : w < 6) (q5 : st < 5) :
    ∃ S2, f_X7_bounded E S (nI st) (nI g) (nI w) (nI so) (nI m) (nI key) = some (nI (rvS S t key st g w so m), S2) ∧ Fm [(61, 0), (62, 0)] S S2 := by
  obtain ⟨o, hk⟩ := hr.rk ht q1
  have hms := mst_lt key
  have h66 : E.2.2.1 ≤ 6 := hr.2.1
  unfold f_X7_bounded
  have long : ¬ (key = 0 ∧ st = 4) → ∃ S2, f_X7_bounded_b12 E S (nI st) (nI g) (nI w) (nI so) (nI m) (nI key) = some (nI (rvS S t key st g w so m), S2) ∧ Fm [(61, 0), (62, 0)] S S2 := fun z => by
    have F6 : Fm [(62, 0)] S (st6 S 62 (fcI st g w so m)) := st6_F S _ (fun _ => rfl)
    obtain ⟨S3, e3, F3⟩ := s_tells (E := E) (S := st6 S 62 (fcI st g w so m)) (by omega) (by omega) q1 ((F6.I rfl).trans h7) (hk.keep (F6.ag rfl)) (fc := fcI st g w so m) (fun j hj => gI_st6 S 62 _ hj)
    have er : clN (mst key) (evN (fcI st g w so m) (fN S t key) (nN S t key)) = rvS S t key st g w so m := by
      unfold rvS rv
      rw [if_neg z]
    refine ⟨S3, ?_, (F6.mono rfl).trans (F3.mono rfl)⟩
    have b66 : f_X7_bounded_b66 E (sI (sI (sI (sI (sI S 62 0 0 (nI st)) 62 0 1 (nI g)) 62 0 2 (nI w)) 62 0 3 (nI so)) 62 0 4 (nI m)) (nI key) (nI (4 - w)) (5 : Int32) = some (nI (rvS S t key st g w so m), S3) := by
      unfold f_X7_bounded_b66
      rw [show (5 : Int32) = nI 5 from rfl, ck_in (ib_nI (by decide) (by decide)), q_cl (by decide), lt_e, show sI (sI (sI (sI (sI (sI S 62 0 0 (nI st)) 62 0 1 (nI g)) 62 0 2 (nI w)) 62 0 3 (nI so)) 62 0 4 (nI m)) 62 0 5 (nI (4 - w)) = st6 S 62 (fcI st g w so m) from rfl, bd2_some e3]
      unfold f_X7_bounded_b88
      by_cases y : key = 2
      · subst y
        rw [if_pos (show nI 2 = (2 : Int32) from rfl), ← er]
        exact clN_M hms _ S3
      · rw [if_neg (by rw [q_eqR 2 (by decide) (by omega)]; exact y), ← er]
        have e10 : mst key = 10 := by unfold mst; rw [if_neg y]
        rw [e10] at hms ⊢
        exact clN_M hms _ S3
    unfold f_X7_bounded_b12
    rw [lt_e, lt_e, lt_e, lt_e, lt_e]
    by_cases y : w ≤ 4
    · rw [if_pos (by rw [q_leR 4 (by decide) (by omega)]; exact y), show (4 : Int32) = nI 4 from rfl, pk_sub y]
      exact b66
    · rw [if_neg (by rw [q_leR 4 (by decide) (by omega)]; exact y), show (0 : Int32) = nI (4 - w) from by rw [show 4 - w = 0 by omega]; rfl]
      exact b66
  by_cases z0 : key = 0
  · by_cases z1 : st = 4
    · rw [if_pos (show nI key = (0 : Int32) by rw [z0]; rfl), if_pos (show nI st = (4 : Int32) by rw [z1]; rfl)]
      refine ⟨S, ?_, Fm.rf⟩
      unfold rvS rv
      rw [if_pos ⟨z0, z1⟩]
      rfl
    · rw [if_pos (show nI key = (0 : Int32) by rw [z0]; rfl), if_neg (by rw [q_eqR 4 (by decide) (by omega)]; exact z1)]
      exact long (fun q => z1 q.2)
  · rw [if_neg (by rw [q_eqR 0 (by decide) (by omega)]; exact z0)]
    exact long (fun q => z0 q.1)
