/-! PURE PART: the class reads a token: words, numbers, all -/
theorem nI_subE {a b : Nat} (h : b ≤ a) : nI a - nI b = nI (a - b) := by
  obtain ⟨d, rfl⟩ : ∃ d, a = d + b := ⟨a - b, by omega⟩
  rw [Nat.add_sub_cancel, ← nI_add, Int32.add_sub_cancel]
section LEXD
variable {E : EN} {B : Nat → Nat} {n : Nat}
def wAt : List (Nat × Nat) := [(8, 3)]
theorem s_wordC {S : ST} {q : Nat} (hN : 300 ≤ E.1) (hb : BY B n S) (hq : q ≤ n) (h2 : gI S 8 0 2 = nI q) :
    ∃ S2, f_X3_word E S = some (tC (kw (seg B q (run isL B n q - q))), S2) ∧ Fm wAt S S2 ∧ gI S2 8 0 2 = nI (run isL B n q) := by
  have n160 := hb.1
  have main : ∀ (u p m : Nat) (S1 : ST), p + u = n → u < m → Fm wAt S S1 → gI S1 8 0 2 = nI p → ∃ S2, f_X3_word_b5 E m S1 (nI q) = f_X3_word_b44 E S2 (nI q) ∧ Fm wAt S S2 ∧ gI S2 8 0 2 = nI (run isL B n p) := by
    intro u
    induction u with
    | zero =>
      intro p m S1 hu hm F h
      obtain ⟨m, rfl⟩ : ∃ j, m = j + 1 := ⟨m - 1, by omega⟩
      refine ⟨S1, ?_, F, by rw [run_e (fun y => absurd y.1 (by omega))]; exact h⟩
      rw [show f_X3_word_b5 E (m + 1) = g_X3_word_b5 E (f_X3_word_b5 E m) from rfl]
      unfold g_X3_word_b5
      rw [F.I (j := 1) rfl, hb.2.1, h, if_pos (by rw [q_le (by omega) (by omega)]; omega)]
    | succ u ih =>
      intro p m S1 hu hm F h
      obtain ⟨m, rfl⟩ : ∃ j, m = j + 1 := ⟨m - 1, by omega⟩
      have hpn : p < n := by omega
      obtain ⟨b1, b2⟩ := hb.2.2 p hpn
      rw [show f_X3_word_b5 E (m + 1) = g_X3_word_b5 E (f_X3_word_b5 E m) from rfl]
      unfold g_X3_word_b5
      rw [F.I (j := 1) rfl, hb.2.1, h, if_neg (by rw [q_le (by omega) (by omega)]; omega), ck_in (ib_nI (by omega) (by decide)), q_cl (by omega), show gI S1 5 0 p = sgn (B p) from (F.I rfl).trans b2, bd_some (sg_L b1)]
      by_cases z : isL (B p) = true
      · rw [if_pos z, if_neg (show ¬ (1 : Int32) = 0 by decide), lt_e, nI_1, run_s hpn z]
        exact ih (p + 1) m _ (by omega) (by omega) (F.sI rfl rfl) (gI_same _ _ _ _ _)
      · rw [if_neg z, if_pos rfl]
        exact ⟨S1, rfl, F, by rw [run_e (fun y => z y.2)]; exact h⟩
  obtain ⟨S2, e, F, h⟩ := main (n - q) q E.1 S (by omega) (by omega) Fm.rf h2
  obtain ⟨r1, r2, -, -⟩ := run_ok (P := isL) (B := B) (n := n) (n - q) q (by omega)
  refine ⟨S2, ?_, F, h⟩
  unfold f_X3_word
  rw [h2, lt_e, e]
  unfold f_X3_word_b44
  rw [bd_some (s_spelt hN (hb.keep (F.ag rfl)) r1 r2 h)]
theorem s_numberC {S : ST} {q : Nat} (hN : 300 ≤ E.1) (hb : BY B n S) (hq : q ≤ n) (h2 : gI S 8 0 2 = nI q) :
    ∃ S2, f_X3_number E S = some (tC (if run isD B n q - q ≤ 4 then 1000 + nvl 0 0 (seg B q (run isD B n q - q)) else 2), S2) ∧ Fm wAt S S2 ∧ gI S2 8 0 2 = nI (run isD B n q) := by
  have n160 := hb.1
  have main : ∀ (u p m v : Nat) (S1 : ST), p + u = n → u < m → q ≤ p → Fm wAt S S1 → gI S1 8 0 2 = nI p → ∃ S2, f_X3_number_b7 E m S1 (nI q) (nI v) = f_X3_number_b74 E S2 (nI q) (nI (nvl (p - q) v (seg B p (run isD B n p - p)))) ∧ Fm wAt S S2 ∧ gI S2 8 0 2 = nI (run isD B n p) := by
    intro u
    induction u with
    | zero =>
      intro p m v S1 hu hm hqp F h
      obtain ⟨m, rfl⟩ : ∃ j, m = j + 1 := ⟨m - 1, by omega⟩
      have er : run isD B n p = p := run_e (fun y => absurd y.1 (by omega))
      refine ⟨S1, ?_, F, by rw [er]; exact h⟩
      rw [show f_X3_number_b7 E (m + 1) = g_X3_number_b7 E (f_X3_number_b7 E m) from rfl]
      unfold g_X3_number_b7
      rw [F.I (j := 1) rfl, hb.2.1, h, if_pos (by rw [q_le (by omega) (by omega)]; omega), er, Nat.sub_self]
      rfl
    | succ u ih =>
      intro p m v S1 hu hm hqp F h
      obtain ⟨m, rfl⟩ : ∃ j, m = j + 1 := ⟨m - 1, by omega⟩
      have hpn : p < n := by omega
      obtain ⟨b1, b2⟩ := hb.2.2 p hpn
      rw [show f_X3_number_b7 E (m + 1) = g_X3_number_b7 E (f_X3_number_b7 E m) from rfl]
      unfold g_X3_number_b7 f_X3_number_b61
      rw [F.I (j := 1) rfl, hb.2.1, h, if_neg (by rw [q_le (by omega) (by omega)]; omega), ck_in (ib_nI (by omega) (by decide)), q_cl (by omega), show gI S1 5 0 p = sgn (B p) from (F.I rfl).trans b2, bd_some (sg_D b1)]
      by_cases z : isD (B p) = true
      · obtain ⟨i1, i2, -, -⟩ := run_ok (P := isD) (B := B) (n := n) (n - (p + 1)) (p + 1) (by omega)
        obtain ⟨d1, d2⟩ := isD_57 z
        rw [if_pos z, if_neg (show ¬ (1 : Int32) = 0 by decide), run_s hpn z, nI_subE hqp, lt_e, lt_e, lt_e, nI_1]
        rw [show run isD B n (p + 1) - p = (run isD B n (p + 1) - (p + 1)) + 1 by omega]
        rw [show nvl (p - q) v (seg B p (run isD B n (p + 1) - (p + 1) + 1)) = nvl (p + 1 - q) (if 4 ≤ p - q then v else v * 10 + B p - 48) (seg B (p + 1) (run isD B n (p + 1) - (p + 1))) by
          rw [show p + 1 - q = (p - q) + 1 by omega]
          rfl]
        by_cases y : 4 ≤ p - q
        · rw [if_pos (by rw [q_leL 4 (by decide) (by omega)]; exact y), if_pos y]
          exact ih (p + 1) m v _ (by omega) (by omega) (by omega) (F.sI rfl rfl) (gI_same _ _ _ _ _)
        · rw [if_neg (by rw [q_leL 4 (by decide) (by omega)]; exact y), if_neg y, sg_lo (by omega), show (10 : Int32) = nI 10 from rfl, pk_mul, nI_add, show (48 : Int32) = nI 48 from rfl, nI_subE (show 48 ≤ v * 10 + B p by omega)]
          exact ih (p + 1) m (v * 10 + B p - 48) _ (by omega) (by omega) (by omega) (F.sI rfl rfl) (gI_same _ _ _ _ _)
      · have er : run isD B n p = p := run_e (fun y => z y.2)
        rw [if_neg z, if_pos rfl]
        refine ⟨S1, ?_, F, by rw [er]; exact h⟩
        rw [er, Nat.sub_self]
        rfl
  obtain ⟨S2, e, F, h⟩ := main (n - q) q E.1 0 S (by omega) (by omega) (Nat.le_refl _) Fm.rf h2
  obtain ⟨r1, r2, -, -⟩ := run_ok (P := isD) (B := B) (n := n) (n - q) q (by omega)
  refine ⟨S2, ?_, F, h⟩
  unfold f_X3_number
  rw [h2, lt_e, show (0 : Int32) = nI 0 from rfl, e, Nat.sub_self]
  unfold f_X3_number_b74
  rw [h, nI_subE r1]
  by_cases z : run isD B n q - q ≤ 4
  · rw [if_pos (by rw [q_leR 4 (by decide) (by omega)]; exact z), if_pos z, show (1000 : Int32) = nI 1000 from rfl, nI_add]
    unfold tC
    rw [if_neg (by omega)]
  · rw [if_neg (by rw [q_leR 4 (by decide) (by omega)]; exact z), if_neg z]
    rfl
def wAv : List (Nat × Nat) := [(8, 3), (8, 4), (8, 5)]
theorem s_adv {S : ST} {p : Nat} (hN : 300 ≤ E.1) (hb : BY B n S) (hp : p ≤ n) (h2 : gI S 8 0 2 = nI p) (h5 : gI S 8 0 5 = -1) :
    ∃ S2, f_X3_advance E S = some S2 ∧ Fm wAv S S2 ∧ gI S2 8 0 2 = nI (lx B n p).2.2 ∧ gI S2 8 0 3 = tC (lx B n p).2.1 ∧ gI S2 8 0 4 = nI (lx B n p).1 := by
  have n160 := hb.1
  have skip : ∀ (u p m : Nat) (S1 : ST), p + u = n → u < m → Fm wAt S S1 → gI S1 8 0 2 = nI p → ∃ S2, f_X3_advance_b9 E m S1 = f_X3_advance_b61 E S2 ∧ Fm wAt S S2 ∧ gI S2 8 0 2 = nI (run isZ B n p) := by
    intro u
    induction u with
    | zero =>
      intro p m S1 hu hm F h
      obtain ⟨m, rfl⟩ : ∃ j, m = j + 1 := ⟨m - 1, by omega⟩
      refine ⟨S1, ?_, F, by rw [run_e (fun y => absurd y.1 (by omega))]; exact h⟩
      rw [show f_X3_advance_b9 E (m + 1) = g_X3_advance_b9 E (f_X3_advance_b9 E m) from rfl]
      unfold g_X3_advance_b9
      rw [F.I (j := 1) rfl, hb.2.1, h, if_pos (by rw [q_le (by omega) (by omega)]; omega)]
    | succ u ih =>
      intro p m S1 hu hm F h
      obtain ⟨m, rfl⟩ : ∃ j, m = j + 1 := ⟨m - 1, by omega⟩
      have hpn : p < n := by omega
      obtain ⟨b1, b2⟩ := hb.2.2 p hpn
      obtain ⟨z1, z2⟩ := sg_Z b1
      rw [show f_X3_advance_b9 E (m + 1) = g_X3_advance_b9 E (f_X3_advance_b9 E m) from rfl]
      unfold g_X3_advance_b9 f_X3_advance_b48
      rw [F.I (j := 1) rfl, hb.2.1, h, if_neg (by rw [q_le (by omega) (by omega)]; omega), ck_in (ib_nI (by omega) (by decide)), q_cl (by omega), show gI S1 5 0 p = sgn (B p) from (F.I rfl).trans b2, lt_e, nI_1]
      by_cases z : B p = 32
      · rw [if_pos (z1.mpr z), run_s hpn (decide_eq_true (Or.inl z))]
        exact ih (p + 1) m _ (by omega) (by omega) (F.sI rfl rfl) (gI_same _ _ _ _ _)
      · rw [if_neg (fun y => z (z1.mp y))]
        by_cases y : B p = 10
        · rw [if_pos (z2.mpr y), run_s hpn (decide_eq_true (Or.inr y))]
          exact ih (p + 1) m _ (by omega) (by omega) (F.sI rfl rfl) (gI_same _ _ _ _ _)
        · rw [if_neg (fun x => y (z2.mp x))]
          exact ⟨S1, rfl, F, by rw [run_e (fun x => (of_decide_eq_true x.2).elim z y)]; exact h⟩
  obtain ⟨S1, e1, F1, g1⟩ := skip (n - p) p E.1 S (by omega) (by omega) Fm.rf h2
  obtain ⟨r1, r2, -, -⟩ := run_ok (P := isZ) (B := B) (n := n) (n - p) p (by omega)
  unfold f_X3_advance
  rw [if_pos h5, e1]
  unfold f_X3_advance_b61 lx
  obtain ⟨q, hq⟩ : ∃ q, q = run isZ B n p := ⟨_, rfl⟩
  rw [← hq] at g1 r1 r2 ⊢
  have F2 : Fm wAv S (sI S1 8 0 4 (nI q)) := (F1.mono rfl).sI rfl rfl
  have a2 : gI (sI S1 8 0 4 (nI q)) 8 0 2 = nI q := by rw [gI_ne (by omega)]; exact g1
  have a4 : gI (sI S1 8 0 4 (nI q)) 8 0 4 = nI q := gI_same _ _ _ _ _
  have bS : BY B n (sI S1 8 0 4 (nI q)) := hb.keep (F2.ag rfl)
  rw [g1, lt_e]
  generalize sI S1 8 0 4 (nI q) = S2 at F2 a2 a4 bS
  rw [a2, bS.2.1]
  by_cases z : n ≤ q
  · rw [if_neg (by rw [q_lt (by omega) (by omega)]; omega), if_pos z, lt_e]
    exact ⟨_, rfl, F2.sI rfl rfl, by rw [gI_ne (by omega)]; exact a2, by rw [gI_same]; rfl, by rw [gI_ne (by omega)]; exact a4⟩
  obtain ⟨b1, b2⟩ := bS.2.2 q (by omega)
  rw [if_pos (by rw [q_lt (by omega) (by omega)]; omega), if_neg z, ck_in (ib_nI (by omega) (by decide)), q_cl (by omega), b2, bd_some (sg_L b1)]
  by_cases y : isL (B q) = true
  · obtain ⟨S3, e3, F3, g3⟩ := s_wordC (E := E) hN bS r2 a2
    rw [if_pos y, if_neg (show ¬ (1 : Int32) = 0 by decide), if_pos y, bd2_some e3, lt_e]
    exact ⟨_, rfl, (F2.trans (F3.mono rfl)).sI rfl rfl, by rw [gI_ne (by omega)]; exact g3, by rw [gI_same], by rw [gI_ne (by omega), F3.I rfl]; exact a4⟩
  rw [if_neg y, if_pos rfl, if_neg y, bd_some (sg_D b1)]
  by_cases x : isD (B q) = true
  · obtain ⟨S3, e3, F3, g3⟩ := s_numberC (E := E) hN bS r2 a2
    rw [if_pos x, if_neg (show ¬ (1 : Int32) = 0 by decide), if_pos x, bd2_some e3, lt_e]
    exact ⟨_, rfl, (F2.trans (F3.mono rfl)).sI rfl rfl, by rw [gI_ne (by omega)]; exact g3, by rw [gI_same], by rw [gI_ne (by omega), F3.I rfl]; exact a4⟩
  rw [if_neg x, if_pos rfl, if_neg x, bd_some (sg_G b1)]
  have fin : ∀ (t : Int32), ∃ S3, f_X3_advance_b169 E S2 t = some S3 ∧ Fm wAv S S3 ∧ gI S3 8 0 2 = nI (q + 1) ∧ gI S3 8 0 3 = t ∧ gI S3 8 0 4 = nI q := fun t => by
    unfold f_X3_advance_b169
    rw [lt_e, lt_e]
    exact ⟨_, rfl, (F2.sI rfl rfl).sI rfl rfl, by rw [gI_same, gI_ne (by omega), a2, nI_1], by rw [gI_ne (by omega), gI_same], by rw [gI_ne (by omega), gI_ne (by omega)]; exact a4⟩
  by_cases w : isG (B q) = true
  · rw [if_pos w, if_neg (show ¬ (1 : Int32) = 0 by decide), if_pos w]
    obtain ⟨S3, f1, f2, f3, f4, f5⟩ := fin (sgn (B q))
    refine ⟨S3, f1, f2, f3, ?_, f5⟩
    rw [f4]
    have hg : B q = 40 ∨ B q = 41 ∨ B q = 59 ∨ B q = 43 ∨ B q = 45 ∨ B q = 42 ∨ B q = 60 ∨ B q = 61 := of_decide_eq_true w
    rw [sg_lo (by omega)]
    show nI (B q) = tC (B q)
    unfold tC
    rw [if_neg (by omega)]
  · rw [if_neg w, if_pos rfl, if_neg w]
    exact fin (-1)
end LEXD
