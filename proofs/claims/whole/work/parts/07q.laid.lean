/-! PURE PART: the reference lays a rule down -/
def dLR : List (Nat × Nat) := [(61, 0), (62, 0), (63, 0), (64, 0), (65, 0)]
/-- what is laid down: ends up to L + e, the others up to L and for week below w0 of L -/
def LI (S0 S1 : ST) (t so L e w0 : Nat) : Prop := Fm dLR S0 S1 ∧ ∀ j, j < 150 → (j < L + e → gI S1 65 0 j = nI (rvS S0 t 2 (j % 5) (j / 30) 5 so (j / 5 % 6))) ∧
  ∀ w, w < 5 → (j < L ∨ j = L ∧ w < w0) → gI S1 63 0 (150 * w + j) = nI (rvS S0 t 0 (j % 5) (j / 30) w so (j / 5 % 6)) ∧ gI S1 64 0 (150 * w + j) = nI (rvS S0 t 1 (j % 5) (j / 30) w so (j / 5 % 6))
section LAY
variable {E : EN} {S0 : ST} {t so : Nat}
theorem q_i150 (w g m s : Nat) : (((((150 : Int32) * nI w) + ((30 : Int32) * nI g)) + ((5 : Int32) * nI m)) + nI s) = nI (150 * w + (30 * g + 5 * m + s)) := by
  rw [show (150 : Int32) = nI 150 from rfl, show (30 : Int32) = nI 30 from rfl, show (5 : Int32) = nI 5 from rfl, pk_mul, pk_mul, pk_mul, nI_add, nI_add, nI_add, Nat.add_assoc, Nat.add_assoc, Nat.add_assoc]
theorem q_i30 (g m s : Nat) : ((((30 : Int32) * nI g) + ((5 : Int32) * nI m)) + nI s) = nI (30 * g + 5 * m + s) := by
  rw [show (30 : Int32) = nI 30 from rfl, show (5 : Int32) = nI 5 from rfl, pk_mul, pk_mul, nI_add, nI_add]
theorem s_lay54 (hN : 3000 ≤ E.1) (hr : RR E S0) (ht : t < E.2.2.1) (h7 : gI S0 1 0 7 = nI t) {g m s : Nat} (hg : g < 5) (hm : m < 6) (hs : s < 5)
    {kh2 : ST → Int32 → Int32 → Option ST} {kh9 : ST → Int32 → Int32 → Int32 → Option ST} {kh18 : ST → Int32 → Int32 → Int32 → Int32 → Option ST} :
    ∀ (q w n : Nat) (S1 : ST), w + q = 5 → q < n → LI S0 S1 t so (30 * g + 5 * m + s) 1 w → ∃ S2, f_X7_layRule_b54 E kh2 kh9 kh18 n S1 (nI so) (nI g) (nI m) (nI s) (nI w) = f_X7_layRule_b136 E kh2 kh9 kh18 S2 (nI so) (nI g) (nI m) (nI s) ∧ LI S0 S2 t so (30 * g + 5 * m + (s + 1)) 0 0 := by
  intro q
  induction q with
  | zero =>
    intro w n S1 hw hn h
    obtain ⟨n, rfl⟩ : ∃ n', n = n' + 1 := ⟨n - 1, by omega⟩
    refine ⟨S1, ?_, h.1, fun j hj => ⟨fun hl => (h.2 j hj).1 (by omega), fun w' hw' hl => (h.2 j hj).2 w' hw' (by omega)⟩⟩
    rw [show f_X7_layRule_b54 E kh2 kh9 kh18 (n + 1) = g_X7_layRule_b54 E kh2 kh9 kh18 (f_X7_layRule_b54 E kh2 kh9 kh18 n) from rfl]
    unfold g_X7_layRule_b54
    rw [if_pos (by rw [q_leL 5 (by decide) (by omega)]; omega)]
  | succ q ih =>
    intro w n S1 hw hn h
    obtain ⟨n, rfl⟩ : ∃ n', n = n' + 1 := ⟨n - 1, by omega⟩
    obtain ⟨F1, hv⟩ := h
    have hr1 := hr.keep (F1.ag rfl)
    obtain ⟨S3, e3, F3⟩ := s_bounded (E := E) hN hr1 ht ((F1.I rfl).trans h7) (key := 0) (st := s) (g := g) (w := w) (so := so) (m := m) (by decide) (by omega) hs
    have v3 : rvS S1 t 0 s g w so m = rvS S0 t 0 s g w so m := rvS_keep (F1.ag rfl) _ _ _ _ _ _ _
    rw [v3] at e3
    have FA : Fm dLR S0 (sI S3 63 0 (150 * w + (30 * g + 5 * m + s)) (nI (rvS S0 t 0 s g w so m))) := (F1.trans (F3.mono rfl)).sI rfl rfl
    have hr2 := hr.keep (FA.ag rfl)
    obtain ⟨S5, e5, F5⟩ := s_bounded (E := E) hN hr2 ht ((FA.I rfl).trans h7) (key := 1) (st := s) (g := g) (w := w) (so := so) (m := m) (by decide) (by omega) hs
    have v5 : rvS (sI S3 63 0 (150 * w + (30 * g + 5 * m + s)) (nI (rvS S0 t 0 s g w so m))) t 1 s g w so m = rvS S0 t 1 s g w so m := rvS_keep (FA.ag rfl) _ _ _ _ _ _ _
    rw [v5] at e5
    have FB : Fm dLR S0 (sI S5 64 0 (150 * w + (30 * g + 5 * m + s)) (nI (rvS S0 t 1 s g w so m))) := (FA.trans (F5.mono rfl)).sI rfl rfl
    have hI : LI S0 (sI S5 64 0 (150 * w + (30 * g + 5 * m + s)) (nI (rvS S0 t 1 s g w so m))) t so (30 * g + 5 * m + s) 1 (w + 1) := by
      refine ⟨FB, fun j hj => ⟨fun hl => ?_, fun w' hw' hl => ?_⟩⟩
      · rw [gI_sI, if_neg (by omega), F5.I rfl, gI_sI, if_neg (by omega), F3.I rfl]
        exact (hv j hj).1 hl
      · refine ⟨?_, ?_⟩
        · rw [gI_sI, if_neg (by omega), F5.I rfl, gI_sI]
          by_cases z : 150 * w' + j = 150 * w + (30 * g + 5 * m + s)
          · have e1 : w' = w := by omega
            have e2 : j = 30 * g + 5 * m + s := by omega
            rw [if_pos ⟨rfl, rfl, z⟩, e1, show j % 5 = s by omega, show j / 30 = g by omega, show j / 5 % 6 = m by omega]
          · rw [if_neg (fun y => z y.2.2), F3.I rfl]
            exact ((hv j hj).2 w' hw' (by omega)).1
        · rw [gI_sI]
          by_cases z : 150 * w' + j = 150 * w + (30 * g + 5 * m + s)
          · have e1 : w' = w := by omega
            have e2 : j = 30 * g + 5 * m + s := by omega
            rw [if_pos ⟨rfl, rfl, z⟩, e1, show j % 5 = s by omega, show j / 30 = g by omega, show j / 5 % 6 = m by omega]
          · rw [if_neg (fun y => z y.2.2), F5.I rfl, gI_sI, if_neg (by omega), F3.I rfl]
            exact ((hv j hj).2 w' hw' (by omega)).2
    obtain ⟨S7, e7, h7'⟩ := ih (w + 1) n (sI S5 64 0 (150 * w + (30 * g + 5 * m + s)) (nI (rvS S0 t 1 s g w so m))) (by omega) (by omega) hI
    refine ⟨S7, ?_, h7'⟩
    rw [← e7, show f_X7_layRule_b54 E kh2 kh9 kh18 (n + 1) = g_X7_layRule_b54 E kh2 kh9 kh18 (f_X7_layRule_b54 E kh2 kh9 kh18 n) from rfl]
    unfold g_X7_layRule_b54
    rw [if_neg (by rw [q_leL 5 (by decide) (by omega)]; omega), show (0 : Int32) = nI 0 from rfl, bd2_some e3, q_i150, ck_in (ib_nI (by omega) (by decide)), q_cl (by omega), lt_e, show (1 : Int32) = nI 1 from rfl, bd2_some e5, lt_e, lt_e, nI_add]
theorem s_lay18 (hN : 3000 ≤ E.1) (hr : RR E S0) (ht : t < E.2.2.1) (h7 : gI S0 1 0 7 = nI t) {g m : Nat} (hg : g < 5) (hm : m < 6)
    {kh2 : ST → Int32 → Int32 → Option ST} {kh9 : ST → Int32 → Int32 → Int32 → Option ST} :
    ∀ (q s n : Nat) (S1 : ST), s + q = 5 → q < n → LI S0 S1 t so (30 * g + 5 * m + s) 0 0 → ∃ S2, f_X7_layRule_b18 E kh2 kh9 n S1 (nI so) (nI g) (nI m) (nI s) = f_X7_layRule_b142 E kh2 kh9 S2 (nI so) (nI g) (nI m) ∧ LI S0 S2 t so (30 * g + 5 * (m + 1)) 0 0 := by
  intro q
  induction q with
  | zero =>
    intro s n S1 hw hn h
    obtain ⟨n, rfl⟩ : ∃ n', n = n' + 1 := ⟨n - 1, by omega⟩
    refine ⟨S1, ?_, by rw [show 30 * g + 5 * (m + 1) = 30 * g + 5 * m + s by omega]; exact h⟩
    rw [show f_X7_layRule_b18 E kh2 kh9 (n + 1) = g_X7_layRule_b18 E kh2 kh9 (f_X7_layRule_b18 E kh2 kh9 n) from rfl]
    unfold g_X7_layRule_b18
    rw [if_pos (by rw [q_leL 5 (by decide) (by omega)]; omega)]
  | succ q ih =>
    intro s n S1 hw hn h
    obtain ⟨n, rfl⟩ : ∃ n', n = n' + 1 := ⟨n - 1, by omega⟩
    obtain ⟨F1, hv⟩ := h
    have hr1 := hr.keep (F1.ag rfl)
    obtain ⟨S3, e3, F3⟩ := s_bounded (E := E) hN hr1 ht ((F1.I rfl).trans h7) (key := 2) (st := s) (g := g) (w := 5) (so := so) (m := m) (by decide) (by omega) (by omega)
    have v3 : rvS S1 t 2 s g 5 so m = rvS S0 t 2 s g 5 so m := rvS_keep (F1.ag rfl) _ _ _ _ _ _ _
    rw [v3] at e3
    have FA : Fm dLR S0 (sI S3 65 0 (30 * g + 5 * m + s) (nI (rvS S0 t 2 s g 5 so m))) := (F1.trans (F3.mono rfl)).sI rfl rfl
    have hI : LI S0 (sI S3 65 0 (30 * g + 5 * m + s) (nI (rvS S0 t 2 s g 5 so m))) t so (30 * g + 5 * m + s) 1 0 := by
      refine ⟨FA, fun j hj => ⟨fun hl => ?_, fun w' hw' hl => ?_⟩⟩
      · rw [gI_sI]
        by_cases z : j = 30 * g + 5 * m + s
        · rw [if_pos ⟨rfl, rfl, z⟩, show j % 5 = s by omega, show j / 30 = g by omega, show j / 5 % 6 = m by omega]
        · rw [if_neg (fun y => z y.2.2), F3.I rfl]
          exact (hv j hj).1 (by omega)
      · rw [gI_sI, if_neg (by omega), F3.I rfl, gI_sI, if_neg (by omega), F3.I rfl]
        exact (hv j hj).2 w' hw' (by omega)
    obtain ⟨S5, e5, h5⟩ := s_lay54 (E := E) (so := so) hN hr ht h7 hg hm (s := s) (by omega) (kh2 := kh2) (kh9 := kh9) (kh18 := f_X7_layRule_b18 E kh2 kh9 n) 5 0 E.1 (sI S3 65 0 (30 * g + 5 * m + s) (nI (rvS S0 t 2 s g 5 so m))) rfl (by omega) hI
    obtain ⟨S7, e7, h7'⟩ := ih (s + 1) n S5 (by omega) (by omega) h5
    refine ⟨S7, ?_, h7'⟩
    rw [← e7, show f_X7_layRule_b18 E kh2 kh9 (n + 1) = g_X7_layRule_b18 E kh2 kh9 (f_X7_layRule_b18 E kh2 kh9 n) from rfl]
    unfold g_X7_layRule_b18
    rw [if_neg (by rw [q_leL 5 (by decide) (by omega)]; omega), show (5 : Int32) = nI 5 from rfl, show (2 : Int32) = nI 2 from rfl, bd2_some e3, show nI 5 = (5 : Int32) from rfl, q_i30, ck_in (ib_nI (by omega) (by decide)), q_cl (by omega), lt_e, show (0 : Int32) = nI 0 from rfl, e5]
    unfold f_X7_layRule_b136
    rw [lt_e, nI_1]
theorem s_lay9 (hN : 3000 ≤ E.1) (hr : RR E S0) (ht : t < E.2.2.1) (h7 : gI S0 1 0 7 = nI t) {g : Nat} (hg : g < 5)
    {kh2 : ST → Int32 → Int32 → Option ST} :
    ∀ (q m n : Nat) (S1 : ST), m + q = 6 → q < n → LI S0 S1 t so (30 * g + 5 * m) 0 0 → ∃ S2, f_X7_layRule_b9 E kh2 n S1 (nI so) (nI g) (nI m) = f_X7_layRule_b148 E kh2 S2 (nI so) (nI g) ∧ LI S0 S2 t so (30 * (g + 1)) 0 0 := by
  intro q
  induction q with
  | zero =>
    intro m n S1 hw hn h
    obtain ⟨n, rfl⟩ : ∃ n', n = n' + 1 := ⟨n - 1, by omega⟩
    refine ⟨S1, ?_, by rw [show 30 * (g + 1) = 30 * g + 5 * m by omega]; exact h⟩
    rw [show f_X7_layRule_b9 E kh2 (n + 1) = g_X7_layRule_b9 E kh2 (f_X7_layRule_b9 E kh2 n) from rfl]
    unfold g_X7_layRule_b9
    rw [if_pos (by rw [q_leL 6 (by decide) (by omega)]; omega)]
  | succ q ih =>
    intro m n S1 hw hn h
    obtain ⟨n, rfl⟩ : ∃ n', n = n' + 1 := ⟨n - 1, by omega⟩
    obtain ⟨S5, e5, h5⟩ := s_lay18 (E := E) (so := so) hN hr ht h7 hg (m := m) (by omega) (kh2 := kh2) (kh9 := f_X7_layRule_b9 E kh2 n) 5 0 E.1 S1 rfl (by omega) h
    obtain ⟨S7, e7, h7'⟩ := ih (m + 1) n S5 (by omega) (by omega) h5
    refine ⟨S7, ?_, h7'⟩
    rw [← e7, show f_X7_layRule_b9 E kh2 (n + 1) = g_X7_layRule_b9 E kh2 (f_X7_layRule_b9 E kh2 n) from rfl]
    unfold g_X7_layRule_b9
    rw [if_neg (by rw [q_leL 6 (by decide) (by omega)]; omega), show (0 : Int32) = nI 0 from rfl, e5]
    unfold f_X7_layRule_b142
    rw [lt_e, nI_1]
/-- the rule in force, laid down for a sort -/
theorem s_layRule (hN : 3000 ≤ E.1) (hr : RR E S0) (ht : t < E.2.2.1) (h7 : gI S0 1 0 7 = nI t) : ∃ S2, f_X7_layRule E S0 (nI so) = some S2 ∧ LI S0 S2 t so 150 0 0 := by
  have lp : ∀ (q g n : Nat) (S1 : ST), g + q = 5 → q < n → LI S0 S1 t so (30 * g) 0 0 → ∃ S2, f_X7_layRule_b2 E n S1 (nI so) (nI g) = some S2 ∧ LI S0 S2 t so 150 0 0 := by
    intro q
    induction q with
    | zero =>
      intro g n S1 hw hn h
      obtain ⟨n, rfl⟩ : ∃ n', n = n' + 1 := ⟨n - 1, by omega⟩
      refine ⟨S1, ?_, by rw [show 150 = 30 * g by omega]; exact h⟩
      rw [show f_X7_layRule_b2 E (n + 1) = g_X7_layRule_b2 E (f_X7_layRule_b2 E n) from rfl]
      unfold g_X7_layRule_b2
      rw [if_pos (by rw [q_leL 5 (by decide) (by omega)]; omega)]
    | succ q ih =>
      intro g n S1 hw hn h
      obtain ⟨n, rfl⟩ : ∃ n', n = n' + 1 := ⟨n - 1, by omega⟩
      obtain ⟨S5, e5, h5⟩ := s_lay9 (E := E) (so := so) hN hr ht h7 (g := g) (by omega) (kh2 := f_X7_layRule_b2 E n) 6 0 E.1 S1 rfl (by omega) h
      obtain ⟨S7, e7, h7'⟩ := ih (g + 1) n S5 (by omega) (by omega) h5
      refine ⟨S7, ?_, h7'⟩
      rw [← e7, show f_X7_layRule_b2 E (n + 1) = g_X7_layRule_b2 E (f_X7_layRule_b2 E n) from rfl]
      unfold g_X7_layRule_b2
      rw [if_neg (by rw [q_leL 5 (by decide) (by omega)]; omega), show (0 : Int32) = nI 0 from rfl, e5]
      unfold f_X7_layRule_b148
      rw [lt_e, nI_1]
  unfold f_X7_layRule
  exact lp 5 0 E.1 S0 rfl (by omega) ⟨Fm.rf, fun j hj => ⟨fun hl => absurd hl (by omega), fun w hw hl => absurd hl (by omega)⟩⟩
end LAY
