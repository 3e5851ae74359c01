/-! PURE PART: a text, read on both sides -/
theorem PDt.keep {S T S2 T2 : ST} {bc len t k : Nat} (h : PDt S T bc len t k) (h59 : gI T2 59 0 (3 * t + k) = gI T 59 0 (3 * t + k)) (h14 : gI S2 14 0 k = gI S 14 0 k) (h9 : ∀ j, j < bc + len → gI S2 9 0 j = gI S 9 0 j) (h57 : ∀ j, j < 480 * t + 160 * k + 160 → gI T2 57 0 j = gI T 57 0 j ∧ gI T2 58 0 j = gI T 58 0 j) : PDt S2 T2 bc len t k := by
  obtain ⟨f, h1, h2, h3, h4, h5⟩ := h
  refine ⟨f, h1, h2, h59.trans h3, h14.trans h4, fun i hi => ?_⟩
  obtain ⟨a, b, c⟩ := h5 i hi
  exact ⟨(h9 _ (by omega)).trans a, (h57 _ (by omega)).1.trans b, (h57 _ (by omega)).2.trans c⟩
def wTt : List (Nat × Nat) := [(1, 7), (1, 9), (1, 10), (1, 11), (1, 12), (1, 13), (1, 14), (1, 15), (1, 16), (57, 0), (58, 0), (59, 0), (60, 0)]
theorem tM_m1 {t : Nat} (vt : vT t) : tM t = -1 ↔ t = 0 := by
  rcases vt with rfl | rfl | h | h | h
  · exact ⟨fun _ => rfl, fun _ => rfl⟩
  · exact ⟨fun e => absurd e (by decide), fun e => by omega⟩
  · rcases isG_8 h with rfl | rfl | rfl | rfl | rfl | rfl | rfl | rfl <;> exact ⟨fun e => absurd e (by decide), fun e => by omega⟩
  · rw [tM_w h.1 (by omega)]
    exact ⟨fun e => absurd e (by decide), fun e => by omega⟩
  · rw [tM_n h.1]
    exact ⟨fun e => absurd e (by decide), fun e => by omega⟩
/-- below text t nothing changed -/
def Low (T T2 : ST) (t : Nat) : Prop := (∀ j, j < 480 * t → gI T2 57 0 j = gI T 57 0 j ∧ gI T2 58 0 j = gI T 58 0 j) ∧ ∀ j, j < 3 * t → gI T2 59 0 j = gI T 59 0 j
theorem Low.tr {T T2 T3 : ST} {t : Nat} (a : Low T T2 t) (b : Low T2 T3 t) : Low T T3 t := ⟨fun j hj => ⟨(b.1 j hj).1.trans (a.1 j hj).1, (b.1 j hj).2.trans (a.1 j hj).2⟩, fun j hj => (b.2 j hj).trans (a.2 j hj)⟩
theorem Low.of {T T2 : ST} {t : Nat} {w : List (Nat × Nat)} (F : Fm w T T2) (h : dj [(57, 0), (58, 0), (59, 0)] w = true) : Low T T2 t := ⟨fun j _ => ⟨(F.ag h).I rfl, (F.ag h).I rfl⟩, fun j _ => (F.ag h).I rfl⟩
theorem s_readText {E : EN} {B : Nat → Nat} {n t : Nat} {S T : ST} (hN : 3000 ≤ E.1) (hn : n ≤ 160) (hB : ∀ j, j < n → B j < 256 ∧ gI S 5 0 j = sgn (B j)) (hM : BM B n T) (ht : t < 6) (h6 : gI T 1 0 6 = nI t) :
    (∃ (f : Nat) (S2 T2 : ST), f ≤ 160 ∧ f_X3_read E S (nI n) = some (nI f, S2) ∧ Fm wRd S S2 ∧ f_X7_text E T = some (-100 - nI f, T2) ∧ Fm wTt T T2 ∧ gI T2 1 0 8 = 0 ∧ gI T2 1 0 6 = nI t ∧ Low T T2 t) ∨
    (∃ (l0 l1 l2 : Nat) (S2 T2 : ST), f_X3_read E S (nI n) = some (-1, S2) ∧ Fm wRd S S2 ∧ f_X7_text E T = some (nI t, T2) ∧ Fm wTt T T2 ∧ gI T2 1 0 8 = 0 ∧ gI T2 1 0 6 = nI (t + 1) ∧ Low T T2 t ∧
      l0 + l1 + l2 ≤ 160 ∧ gI S2 8 0 8 = nI (l0 + l1 + l2) ∧ gI S2 14 0 3 = nI (l0 + l1 + l2) ∧ PDt S2 T2 0 l0 t 0 ∧ PDt S2 T2 l0 l1 t 1 ∧ PDt S2 T2 (l0 + l1) l2 t 2) := by
  -- the class begins
  have mn : mnI (nI n) (160 : Int32) = nI n := by
    unfold mnI
    rw [if_neg (by rw [q_ltL 160 (by decide) (by omega)]; omega)]
  have FC : Fm wRd S (sI (sI (sI (sI (sI S 8 0 1 (nI n)) 8 0 2 (0 : Int32)) 8 0 5 (-1 : Int32)) 8 0 6 (0 : Int32)) 8 0 8 (0 : Int32)) := ((((Fm.rf.sI rfl rfl).sI rfl rfl).sI rfl rfl).sI rfl rfl).sI rfl rfl
  have eC : f_X3_read E S (nI n) = bd_ (f_X3_advance E (sI (sI (sI (sI (sI S 8 0 1 (nI n)) 8 0 2 (0 : Int32)) 8 0 5 (-1 : Int32)) 8 0 6 (0 : Int32)) 8 0 8 (0 : Int32))) fun S14 => f_X3_read_b39 E E.1 S14 (0 : Int32) := by
    unfold f_X3_read
    rw [mn]
    rfl
  have a1 : gI (sI (sI (sI (sI (sI S 8 0 1 (nI n)) 8 0 2 (0 : Int32)) 8 0 5 (-1 : Int32)) 8 0 6 (0 : Int32)) 8 0 8 (0 : Int32)) 8 0 1 = nI n := by
    rw [gI_ne (by omega), gI_ne (by omega), gI_ne (by omega), gI_ne (by omega), gI_same]
  have a2 : gI (sI (sI (sI (sI (sI S 8 0 1 (nI n)) 8 0 2 (0 : Int32)) 8 0 5 (-1 : Int32)) 8 0 6 (0 : Int32)) 8 0 8 (0 : Int32)) 8 0 2 = nI 0 := by
    rw [gI_ne (by omega), gI_ne (by omega), gI_ne (by omega), gI_same]
    rfl
  have a5 : gI (sI (sI (sI (sI (sI S 8 0 1 (nI n)) 8 0 2 (0 : Int32)) 8 0 5 (-1 : Int32)) 8 0 6 (0 : Int32)) 8 0 8 (0 : Int32)) 8 0 5 = -1 := by
    rw [gI_ne (by omega), gI_ne (by omega), gI_same]
  have a6 : gI (sI (sI (sI (sI (sI S 8 0 1 (nI n)) 8 0 2 (0 : Int32)) 8 0 5 (-1 : Int32)) 8 0 6 (0 : Int32)) 8 0 8 (0 : Int32)) 8 0 6 = nI 0 := by
    rw [gI_ne (by omega), gI_same]
    rfl
  have a8 : gI (sI (sI (sI (sI (sI S 8 0 1 (nI n)) 8 0 2 (0 : Int32)) 8 0 5 (-1 : Int32)) 8 0 6 (0 : Int32)) 8 0 8 (0 : Int32)) 8 0 8 = nI 0 := by
    rw [gI_same]
    rfl
  generalize sI (sI (sI (sI (sI S 8 0 1 (nI n)) 8 0 2 (0 : Int32)) 8 0 5 (-1 : Int32)) 8 0 6 (0 : Int32)) 8 0 8 (0 : Int32) = S0 at FC eC a1 a2 a5 a6 a8
  have bS : BY B n S0 := ⟨hn, a1, fun j hj => ⟨(hB j hj).1, (FC.I rfl).trans (hB j hj).2⟩⟩
  obtain ⟨S1, e1, F1, b2, b3, b4⟩ := s_adv (E := E) (by omega) bS (Nat.zero_le _) a2 a5
  have C1 : CL B n S1 0 S1 0 [] 0 := ⟨bS.keep (F1.ag rfl), ⟨b2, b3, b4, (F1.I rfl).trans a5⟩, (F1.I rfl).trans a6, ⟨(F1.I rfl).trans a8, by decide⟩, True.intro, Fm.rf, fun j hj => rfl⟩
  have FC1 : Fm wRd S S1 := FC.trans (F1.mono rfl)
  -- the reference begins
  obtain ⟨m, hm⟩ : ∃ m, E.1 = m + 1 + 1 + 1 := ⟨E.1 - 3, by omega⟩
  have F3 : Fm [(1, 10)] T (sI T 1 0 9 (0 : Int32)) := Fm.rf.sI rfl rfl
  obtain ⟨T1, g1, G1, k1⟩ := s_look (E := E) (T := sI T 1 0 9 (0 : Int32)) (p := 0) (by omega) (hM.keep (F3.ag rfl)) (Nat.zero_le _) (gI_same _ _ _ _ _)
  have FT1 : Fm wTx T T1 := (F3.mono rfl).trans (G1.mono rfl)
  have FT1b : Fm wLk T T1 := (F3.mono rfl).trans G1
  have Q1 : QT B n T1 0 := ⟨hM.keep (FT1b.ag rfl), k1⟩
  have eM : f_X7_text E T = bd2 (f_X7_takesPart E T1 (gI T1 1 0 6) (nI 0) (nI (wc (256 + 0)))) fun r5 S6 => (if r5 = 0 then f_X7_text_b76 E S6 else bd2 (f_X7_takesPart E S6 (gI S6 1 0 6) (nI 1) (nI (wc (256 + 1)))) fun r7 S8 => (if r7 = 0 then f_X7_text_b76 E S8 else bd2 (f_X7_takesPart E S8 (gI S8 1 0 6) (nI 2) (nI (wc (256 + 2)))) fun r9 S10 => (if r9 = 0 then f_X7_text_b76 E S10 else (if (gI S10 1 0 10) = (-1 : Int32) then f_X7_text_b77 E S10 (1 : Int32) else f_X7_text_b76 E S10)))) := by
    unfold f_X7_text
    rw [h6, if_neg (show ¬ nI t = (6 : Int32) by rw [q_eqR 6 (by decide) (by omega)]; omega), lt_e, bd_some g1]
    rfl
  rw [eC, bd_some e1, hm, eM]
  -- a fault
  have flt : ∀ (f : Nat) (S2 T2 : ST), f ≤ 160 → Fm wRd S S2 → Fm wTx T T2 → gI T2 1 0 9 = nI f → Low T T2 t → ∃ T3, f_X7_text_b76 E T2 = some (-100 - nI f, T3) ∧ Fm wTt T T3 ∧ gI T3 1 0 8 = 0 ∧ gI T3 1 0 6 = nI t ∧ Low T T3 t := fun f S2 T2 hf FS FT h9 hl => by
    have F4 : Fm [(1, 9)] T2 (sI T2 1 0 8 (0 : Int32)) := Fm.rf.sI rfl rfl
    refine ⟨sI T2 1 0 8 (0 : Int32), ?_, (FT.mono rfl).trans (F4.mono rfl), gI_same _ _ _ _ _, (F4.I rfl).trans ((FT.I rfl).trans h6), hl.tr (Low.of F4 rfl)⟩
    unfold f_X7_text_b76 f_X7_text_b77
    rw [lt_e, if_pos rfl, F4.I rfl, h9]
  have t6 : ∀ T2, Fm wTx T T2 → gI T2 1 0 6 = nI t := fun T2 F => (F.I rfl).trans h6
  rw [t6 T1 FT1]
  rcases s_part1 (E := E) (m := m + 1 + 1) (i := 0) hN ht (by decide) (Nat.le_refl _) (by decide) (by omega) C1 Q1 with ⟨k2, l0, S2, T2, p1, p2, C2, Q2, p5, p6, p7, p8, P0, p9, p10, p11, p12⟩ | ⟨f, S2, T2, hf, p1, p2, p3, p4, p5, p6, p7⟩
  rotate_left
  · obtain ⟨T3, q1, q2, q3, q4, q5⟩ := flt f S2 T2 hf (FC1.trans p2) (FT1.trans p4) p5 ((Low.of FT1b rfl).tr ⟨p6, p7⟩)
    exact Or.inl ⟨f, S2, T3, hf, p1, FC1.trans p2, by rw [bd2_some p3, if_pos rfl]; exact q1, q2, q3, q4, q5⟩
  have LW2 : Low T T2 t := (Low.of FT1b rfl).tr ⟨fun j hj => p11 j (by omega), fun j hj => p12 j (by omega)⟩
  have FT2 : Fm wTx T T2 := FT1.trans p8
  have FS2 : Fm wRd S S2 := FC1.trans p7
  rw [show (0 : Int32) = nI 0 from rfl, p1, bd2_some p2, if_neg (show ¬ (1 : Int32) = nI 0 by decide), t6 T2 FT2]
  rcases s_part1 (E := E) (m := m + 1) (i := 1) hN ht (by decide) p6 p5 (by omega) C2 Q2 with ⟨k3, l1, S3, T3, r1, r2, C3, Q3, r5, r6, r7, r8, P1, r9, r10, r11, r12⟩ | ⟨f, S3, T3, hf, r1, r2, r3, r4, r5, r6, r7⟩
  rotate_left
  · obtain ⟨T4, q1, q2, q3, q4, q5⟩ := flt f S3 T3 hf (FS2.trans r2) (FT2.trans r4) r5 (LW2.tr ⟨r6, r7⟩)
    exact Or.inl ⟨f, S3, T4, hf, r1, FS2.trans r2, by rw [bd2_some r3, if_pos (show (0 : Int32) = nI 0 from rfl)]; exact q1, q2, q3, q4, q5⟩
  have LW3 : Low T T3 t := LW2.tr ⟨fun j hj => r11 j (by omega), fun j hj => r12 j (by omega)⟩
  have FT3 : Fm wTx T T3 := FT2.trans r8
  have FS3 : Fm wRd S S3 := FS2.trans r7
  rw [r1, bd2_some r2, if_neg (show ¬ (1 : Int32) = nI 0 by decide), t6 T3 FT3]
  rcases s_part1 (E := E) (m := m) (i := 2) hN ht (by decide) r6 r5 (by omega) C3 Q3 with ⟨k4, l2, S4, T4, s1, s2, C4, Q4, s5, s6, s7, s8, P2, s9, s10, s11, s12⟩ | ⟨f, S4, T4, hf, s1, s2, s3, s4, s5, s6, s7⟩
  rotate_left
  · obtain ⟨T5, q1, q2, q3, q4, q5⟩ := flt f S4 T4 hf (FS3.trans s2) (FT3.trans s4) s5 (LW3.tr ⟨s6, s7⟩)
    exact Or.inl ⟨f, S4, T5, hf, s1, FS3.trans s2, by rw [bd2_some s3, if_pos (show (0 : Int32) = nI 0 from rfl)]; exact q1, q2, q3, q4, q5⟩
  have LW4 : Low T T4 t := LW3.tr ⟨fun j hj => s11 j (by omega), fun j hj => s12 j (by omega)⟩
  have FT4 : Fm wTx T T4 := FT3.trans s8
  have FS4 : Fm wRd S S4 := FS3.trans s7
  rw [s1, bd2_some s2, if_neg (show ¬ (1 : Int32) = nI 0 by decide), Q4.2.2.1]
  -- the end
  have vt := vT_k B n k4
  have l4 : gI S4 8 0 8 = nI (0 + l0 + l1 + l2) := C4.2.2.2.1.1
  obtain ⟨m', hm'⟩ : ∃ m', m = m' + 1 := ⟨m - 1, by omega⟩
  have e79 : f_X3_read_b39 E m S4 (nI (2 + 1)) = bd_ (f_X3_take E (sI S4 14 0 3 (nI (0 + l0 + l1 + l2))) (nI 0)) fun S2 => some (gI S2 8 0 5, S2) := by
    rw [hm', show f_X3_read_b39 E (m' + 1) = g_X3_read_b39 E (f_X3_read_b39 E m') from rfl]
    unfold g_X3_read_b39 f_X3_read_b79
    rw [if_pos (show (3 : Int32) ≤ nI (2 + 1) by decide), l4]
    rfl
  rw [e79]
  have F5 : Fm [(14, 0)] S4 (sI S4 14 0 3 (nI (0 + l0 + l1 + l2))) := Fm.rf.sI rfl rfl
  have C5 : CL B n (sI S4 14 0 3 (nI (0 + l0 + l1 + l2))) (0 + l0 + l1 + l2) (sI S4 14 0 3 (nI (0 + l0 + l1 + l2))) k4 [] 0 := by
    obtain ⟨h1, ⟨h2, h3, h4, h5⟩, h6, ⟨h7, h8⟩, h9, h10, h11⟩ := C4
    exact ⟨h1.keep (F5.ag rfl), ⟨(F5.I rfl).trans h2, (F5.I rfl).trans h3, (F5.I rfl).trans h4, (F5.I rfl).trans h5⟩, (F5.I rfl).trans h6, ⟨(F5.I rfl).trans h7, h8⟩, True.intro, Fm.rf, fun j hj => rfl⟩
  have lt160 : 0 + l0 + l1 + l2 ≤ 160 := C4.2.2.2.1.2
  obtain ⟨k1', k0'⟩ := s_takeC (E := E) (w := 0) (by omega) C5 (by decide) (by decide)
  by_cases z : tT B n k4 = 0
  · obtain ⟨S6, e6, C6⟩ := k1' z
    have F6 := fr_X3_take _ _ _ _ e6
    have F46 : Fm [(8, 3), (8, 4), (8, 5), (8, 6), (14, 0)] S4 S6 := (F5.mono rfl).trans (F6.mono rfl)
    have F7 : Fm [(1, 9), (1, 7)] T4 (sI (sI T4 1 0 8 (0 : Int32)) 1 0 6 (nI (t + 1))) := (Fm.rf.sI rfl rfl).sI rfl rfl
    have h14 : ∀ j, j ≠ 3 → gI S6 14 0 j = gI S4 14 0 j := fun j hj => by
      rw [F6.I rfl, gI_ne (by omega)]
    refine Or.inr ⟨l0, l1, l2, S6, sI (sI T4 1 0 8 (0 : Int32)) 1 0 6 (nI (t + 1)), ?_, FS4.trans (F46.mono rfl), ?_, (FT4.mono rfl).trans (F7.mono rfl), ?_, gI_same _ _ _ _ _, LW4.tr (Low.of F7 rfl), by omega, ?_, ?_, ?_, ?_, ?_⟩
    · rw [bd_some e6, show gI S6 8 0 5 = -1 from C6.2.1.2.2.2]
    · rw [if_pos ((tM_m1 vt).mpr z)]
      unfold f_X7_text_b77
      have u6 : gI (sI T4 1 0 8 (0 : Int32)) 1 0 6 = nI t := by rw [gI_ne (by omega)]; exact t6 T4 FT4
      rw [lt_e, if_neg (show ¬ (1 : Int32) = 0 by decide), u6, nI_1, lt_e, gI_same, q_m1]
    · rw [gI_ne (by omega), gI_same]; rfl
    · rw [F46.I rfl, l4, show 0 + l0 + l1 + l2 = l0 + l1 + l2 by omega]
    · rw [F6.I rfl, gI_same, show 0 + l0 + l1 + l2 = l0 + l1 + l2 by omega]
    · refine P0.keep ?_ ?_ (fun j hj => ?_) (fun j hj => ⟨?_, ?_⟩)
      · rw [F7.I rfl, s12 _ (by omega), r12 _ (by omega)]
      · rw [h14 _ (by decide), s10 _ (by decide), r10 _ (by decide)]
      · rw [F46.I rfl, s9 _ (by omega), r9 _ (by omega)]
      · rw [F7.I rfl, (s11 _ (by omega)).1, (r11 _ (by omega)).1]
      · rw [F7.I rfl, (s11 _ (by omega)).2, (r11 _ (by omega)).2]
    · have P1' : PDt S3 T3 l0 l1 t 1 := by rw [Nat.zero_add] at P1; exact P1
      refine P1'.keep ?_ ?_ (fun j hj => ?_) (fun j hj => ⟨?_, ?_⟩)
      · rw [F7.I rfl, s12 _ (by omega)]
      · rw [h14 _ (by decide), s10 _ (by decide)]
      · rw [F46.I rfl, s9 _ (by omega)]
      · rw [F7.I rfl, (s11 _ (by omega)).1]
      · rw [F7.I rfl, (s11 _ (by omega)).2]
    · have P2' : PDt S4 T4 (l0 + l1) l2 t 2 := by rw [Nat.zero_add] at P2; exact P2
      exact P2'.keep (F7.I rfl) (h14 _ (by decide)) (fun j hj => F46.I rfl) (fun j hj => ⟨F7.I rfl, F7.I rfl⟩)
  · obtain ⟨S6, e6, D6⟩ := k0' z
    have F6 := fr_X3_take _ _ _ _ e6
    have F46 : Fm [(8, 3), (8, 4), (8, 5), (8, 6), (14, 0)] S4 S6 := (F5.mono rfl).trans (F6.mono rfl)
    obtain ⟨T5, q1, q2, q3, q4, q5⟩ := flt (tP B n k4) S6 T4 (Nat.le_trans (tX_ok B n k4).1 hn) (FS4.trans (F46.mono rfl)) FT4 Q4.2.1 LW4
    exact Or.inl ⟨tP B n k4, S6, T5, Nat.le_trans (tX_ok B n k4).1 hn, by rw [bd_some e6, D6.1], FS4.trans (F46.mono rfl), by rw [if_neg (fun y => z ((tM_m1 vt).mp y))]; exact q1, q2, q3, q4, q5⟩
