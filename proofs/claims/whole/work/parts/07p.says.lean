/-! PURE PART: says -/
def gdS (x : Nat) (b c : Int32) : Prop := ∃ y z : Nat, y < 2147483648 ∧ z < 2147483648 ∧ b = nI y ∧ c = nI z ∧ x / 100 < 5 ∧ x / 10 % 10 < 5 ∧ x % 10 ≤ 5 ∧ y / 10 < 4 ∧ y % 10 ≤ 5 ∧ z < 3
theorem s_saysC0 {E : EN} {S : ST} {x : Nat} (hx : x < 2147483648) {b c : Int32} (p : ¬ gdS x b c) : f_X6_says E S (nI x) b c = some (-2, S) := by
  have hx2 : x / 10 < 2147483648 := by omega
  unfold f_X6_says
  rw [if_neg (q_n0 hx)]
  rcases q_or b with hb | ⟨y, hy, rfl⟩
  · rw [if_pos hb]
  rw [if_neg (q_n0 hy)]
  rcases q_or c with hc | ⟨z, hz, rfl⟩
  · rw [if_pos hc]
  rw [if_neg (q_n0 hz)]
  by_cases c2 : z < 3
  · rw [if_pos ((q_ltR 3 (by decide) hz).mpr c2), lt_e, lt_e, lt_e, q_dv100 hx, q_dv10 hx, q_rm10 hx2, q_rm10 hx, q_dv10 hy, q_rm10 hy]
    by_cases x1 : x / 100 < 5
    · rw [if_neg (by rw [q_leL 5 (by decide) (by omega)]; omega)]
      by_cases x2 : x / 10 % 10 < 5
      · rw [if_neg (by rw [q_leL 5 (by decide) (by omega)]; omega)]
        by_cases x3 : x % 10 ≤ 5
        · rw [if_neg (by rw [q_ltL 5 (by decide) (by omega)]; omega)]
          by_cases y1 : y / 10 < 4
          · rw [if_neg (by rw [q_leL 4 (by decide) (by omega)]; omega)]
            by_cases y2 : y % 10 ≤ 5
            · exact absurd ⟨y, z, hy, hz, rfl, rfl, x1, x2, x3, y1, y2, c2⟩ p
            · rw [if_neg (by rw [q_leR 5 (by decide) (by omega)]; exact y2)]
          · rw [if_pos (by rw [q_leL 4 (by decide) (by omega)]; omega)]
        · rw [if_pos (by rw [q_ltL 5 (by decide) (by omega)]; omega)]
      · rw [if_pos (by rw [q_leL 5 (by decide) (by omega)]; omega)]
    · rw [if_pos (by rw [q_leL 5 (by decide) (by omega)]; omega)]
  · rw [if_neg (fun q => c2 ((q_ltR 3 (by decide) hz).mp q))]
theorem s_inB {E : EN} {S : ST} {v n : Nat} (hv : v < 2147483648) (hn : n < 2147483648) {β : Type} {k : Int32 → Option β} : bd_ (f_X7_in E S (nI v) (0 : Int32) (nI n)) k = k (if v ≤ n then 1 else 0) := bd_some (s_inN hv hn rfl)
theorem s_saysM0 {E : EN} {S : ST} {x : Nat} (hx : x < 2147483648) {b c : Int32} (p : ¬ gdS x b c) : f_X7_says E S (nI x) b c = some (-2, S) := by
  have hx2 : x / 10 < 2147483648 := by omega
  unfold f_X7_says
  rw [show (445 : Int32) = nI 445 from rfl, s_inB hx (by decide)]
  by_cases x1 : x ≤ 445
  · rw [if_pos x1, if_neg (by decide), q_dv10 hx, q_rm10 hx2, q_rm10 hx]
    by_cases x2 : x / 10 % 10 < 5
    · rw [if_neg (by rw [q_ltL 4 (by decide) (by omega)]; omega)]
      by_cases x3 : x % 10 ≤ 5
      · rw [if_neg (by rw [q_ltL 5 (by decide) (by omega)]; omega)]
        rcases q_or b with hb | ⟨y, hy, rfl⟩
        · rw [bd_some (s_inS hb), if_pos rfl]
        rw [show (35 : Int32) = nI 35 from rfl, s_inB hy (by decide)]
        by_cases y1 : y ≤ 35
        · rw [if_pos y1, if_neg (by decide), q_rm10 hy]
          by_cases y2 : y % 10 ≤ 5
          · rw [if_neg (by rw [q_ltL 5 (by decide) (by omega)]; omega)]
            rcases q_or c with hc | ⟨z, hz, rfl⟩
            · rw [bd_some (s_inS hc), if_pos rfl]
            rw [show (2 : Int32) = nI 2 from rfl, s_inB hz (by decide)]
            by_cases z1 : z ≤ 2
            · exact absurd ⟨y, z, hy, hz, rfl, rfl, by omega, x2, x3, by omega, y2, by omega⟩ p
            · rw [if_neg z1, if_pos rfl]
          · rw [if_pos (by rw [q_ltL 5 (by decide) (by omega)]; omega)]
        · rw [if_neg y1, if_pos rfl]
      · rw [if_pos (by rw [q_ltL 5 (by decide) (by omega)]; omega)]
    · rw [if_pos (by rw [q_ltL 4 (by decide) (by omega)]; omega)]
  · rw [if_neg x1, if_pos rfl]
theorem k_says {E : EN} {S : ST} (hN : 3000 ≤ E.1) (hr : RR E S) {t : Nat} (hu : RU E S t) (hc : RC E S) (a b c : Int32) : ∃ (r : Int32) (S1 S2 : ST), f_X6_says E S a b c = some (r, S1) ∧ f_X7_says E S1 a b c = some (r, S2) ∧ Fm [(10, 0), (11, 0), (12, 0), (13, 0), (61, 0), (62, 0)] S S2 ∧ RC E S2 := by
  have h66 : E.2.2.1 ≤ 6 := hr.2.1
  obtain ⟨u1, u2, u3⟩ := id hu
  rcases q_or a with ha | ⟨x, hx, rfl⟩
  · refine ⟨-2, S, S, ?_, ?_, Fm.rf, hc⟩
    · unfold f_X6_says
      rw [if_pos ha]
    · unfold f_X7_says
      rw [bd_some (s_inS ha), if_pos (by decide)]
  by_cases p : gdS x b c
  · obtain ⟨y, z, hy, hz, rfl, rfl, x1, x2, x3, y1, y2, z1⟩ := p
    have hx2 : x / 10 < 2147483648 := by omega
    obtain ⟨S1, e1, F1, k1⟩ := s_rely (E := E) hN hc h66 u1 y1
    have hr1 : RR E S1 := hr.keep (F1.ag rfl)
    obtain ⟨S2, e2, F2, k2⟩ := s_asks (E := E) hN hr1 k1 (key := z) (st := x / 100) (g := x / 10 % 10) (w := x % 10) (m := y % 10) z1 (by omega) (by omega) x2 x1
    have hr2 : RR E S2 := hr1.keep (F2.ag rfl)
    obtain ⟨S3, e3, F3⟩ := s_bounded (E := E) (S := S2) hN hr2 u1 ((F2.I rfl).trans ((F1.I rfl).trans u3)) (key := z) (st := x / 100) (g := x / 10 % 10) (w := x % 10) (so := y / 10) (m := y % 10) z1 (by omega) x1
    refine ⟨nI (rvS S1 t z (x / 100) (x / 10 % 10) (x % 10) (y / 10) (y % 10)), S2, S3, ?_, ?_, ((F1.mono rfl).trans (F2.mono rfl)).trans (F3.mono rfl), Or.inr ⟨t, y / 10, k2.keep (F3.ag rfl)⟩⟩
    · unfold f_X6_says
      rw [if_neg (q_n0 hx), if_neg (q_n0 hy), if_neg (q_n0 hz), if_pos ((q_ltR 3 (by decide) hz).mpr z1), lt_e, lt_e, lt_e, q_dv100 hx, q_dv10 hx, q_rm10 hx2, q_rm10 hx, q_dv10 hy, q_rm10 hy, if_neg (by rw [q_leL 5 (by decide) (by omega)]; omega), if_neg (by rw [q_leL 5 (by decide) (by omega)]; omega), if_neg (by rw [q_ltL 5 (by decide) (by omega)]; omega), if_neg (by rw [q_leL 4 (by decide) (by omega)]; omega), if_pos (by rw [q_leR 5 (by decide) (by omega)]; exact y2), u2, ck_in (ib_nI (by omega) (by decide)), q_cl (by omega), lt_e, hr.2.2.2.2.1, if_pos u1, nl_so, ck_in (decide_eq_true u1), bd_some e1, bd2_some e2]
    · unfold f_X7_says
      rw [show (445 : Int32) = nI 445 from rfl, s_inB hx (by decide), if_pos (show x ≤ 445 by omega), if_neg (by decide), q_dv10 hx, q_rm10 hx2, q_rm10 hx, if_neg (by rw [q_ltL 4 (by decide) (by omega)]; omega), if_neg (by rw [q_ltL 5 (by decide) (by omega)]; omega), show (35 : Int32) = nI 35 from rfl, s_inB hy (by decide), if_pos (show y ≤ 35 by omega), if_neg (by decide), q_rm10 hy, if_neg (by rw [q_ltL 5 (by decide) (by omega)]; omega), show (2 : Int32) = nI 2 from rfl, s_inB hz (by decide), if_pos (show z ≤ 2 by omega), if_neg (by decide), q_dv100 hx, q_dv10 hy, bd2_some e3, rvS_keep (F2.ag rfl)]
  · exact ⟨-2, S, S, s_saysC0 hx p, s_saysM0 hx p, Fm.rf, hc⟩
