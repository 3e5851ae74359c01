/-! PURE PART: a text: one of its three parts, on both sides -/
def fL (l : List (Nat × Nat)) (i : Nat) : Nat × Nat := l.getD (l.length - 1 - i) (0, 0)
theorem fL_top (x : Nat × Nat) (r : List (Nat × Nat)) : fL (x :: r) r.length = x := by
  unfold fL
  rw [show (x :: r).length - 1 - r.length = 0 by show r.length + 1 - 1 - r.length = 0; omega]
  rfl
theorem fL_low (x : Nat × Nat) (r : List (Nat × Nat)) {i : Nat} (h : i < r.length) : fL (x :: r) i = fL r i := by
  unfold fL
  rw [show (x :: r).length - 1 - i = (r.length - 1 - i) + 1 by show r.length + 1 - 1 - i = _; omega]
  rfl
theorem CO.f {S : ST} {bc : Nat} : ∀ {l : List (Nat × Nat)}, CO S bc l → ∀ i, i < l.length → gI S 9 0 (bc + i) = nI (enc (fL l i))
  | [], _, i, hi => absurd hi (by show ¬ i < 0; omega)
  | x :: r, h, i, hi => by
    have hi : i < r.length + 1 := hi
    by_cases z : i = r.length
    · rw [z, fL_top]; exact h.1
    · rw [fL_low x r (by omega)]
      exact CO.f h.2 i (by omega)
theorem OU.f {T : ST} {b : Nat} : ∀ {l : List (Nat × Nat)}, OU T b l → ∀ i, i < l.length → gI T 57 0 (b + i) = nI (fL l i).1 ∧ gI T 58 0 (b + i) = nI (fL l i).2
  | [], _, i, hi => absurd hi (by show ¬ i < 0; omega)
  | x :: r, h, i, hi => by
    have hi : i < r.length + 1 := hi
    by_cases z : i = r.length
    · rw [z, fL_top]; exact ⟨h.1, h.2.1⟩
    · rw [fL_low x r (by omega)]
      exact OU.f h.2.2 i (by omega)
theorem hF_L : ∀ (l : List (Nat × Nat)), hF (fL l) l.length = hL l
  | [] => rfl
  | x :: r => by
    show hS (fL (x :: r) r.length) (hF (fL (x :: r)) r.length) = hS x (hL r)
    rw [fL_top, hF_cong (g := fL r) (n := r.length) (fun i hi => fL_low x r hi) r.length (Nat.le_refl _), hF_L r]
theorem okF_L : ∀ {l : List (Nat × Nat)}, okO l → ∀ i, i < l.length → okS (fL l i) (hF (fL l) i)
  | [], _, i, hi => absurd hi (by show ¬ i < 0; omega)
  | x :: r, h, i, hi => by
    have hi : i < r.length + 1 := hi
    rw [hF_cong (g := fL r) (n := r.length) (fun i hi => fL_low x r hi) i (by omega)]
    by_cases z : i = r.length
    · rw [z, fL_top, hF_L]; exact h.1
    · rw [fL_low x r (by omega)]
      exact okF_L h.2 i (by omega)
def wRd : List (Nat × Nat) := [(8, 2), (8, 3), (8, 4), (8, 5), (8, 6), (8, 7), (8, 9), (9, 0), (14, 0)]
def wTx : List (Nat × Nat) := [(1, 10), (1, 11), (1, 12), (1, 13), (1, 14), (1, 15), (1, 16), (57, 0), (58, 0), (59, 0), (60, 0)]
/-- what a part told, on both sides -/
def PDt (S T : ST) (bc len t k : Nat) : Prop := ∃ f : Nat → Nat × Nat, len ≤ 160 ∧ okF f len ∧ gI T 59 0 (3 * t + k) = nI len ∧ gI S 14 0 k = nI bc ∧ ∀ i, i < len → gI S 9 0 (bc + i) = nI (enc (f i)) ∧ gI T 57 0 (480 * t + 160 * k + i) = nI (f i).1 ∧ gI T 58 0 (480 * t + 160 * k + i) = nI (f i).2
section PRT
variable {E : EN} {B : Nat → Nat} {n : Nat}
theorem DD.own {Sb S : ST} {f : Nat} (h : DD Sb S f) : DD S S f := ⟨h.1, h.2.1, h.2.2.1, h.2.2.2.1, Fm.rf⟩
theorem DD.st {S : ST} {f : Nat} (h : DD S S f) (i : Nat) (v : Int32) : DD (sI S 14 0 i v) (sI S 14 0 i v) f := by
  obtain ⟨h1, h2, h3, ⟨l, h4, h5⟩, -⟩ := h
  exact ⟨by rw [gI_ne (by omega)]; exact h1, by rw [gI_ne (by omega)]; exact h2, h3, ⟨l, h4, by rw [gI_ne (by omega)]; exact h5⟩, Fm.rf⟩
/-- behind a fault: the rest of a text -/
theorem d_rest (hN : 300 ≤ E.1) {f : Nat} : ∀ (u i m : Nat) (S : ST), i + u = 3 → u < m → DD S S f → ∃ S2, f_X3_read_b39 E m S (nI i) = some (nI f, S2) ∧ Fm wRd S S2 := by
  intro u
  induction u with
  | zero =>
    intro i m S hi hm h
    obtain ⟨m, rfl⟩ : ∃ q, m = q + 1 := ⟨m - 1, by omega⟩
    have e : i = 3 := by omega
    subst e
    have D1 := h.st 3 (gI S 8 0 8)
    obtain ⟨S2, e2, D2⟩ := d_take (E := E) (w := 0) D1 (by decide)
    refine ⟨S2, ?_, ((Fm.rf : Fm wRd S S).sI rfl rfl).trans (D2.2.2.2.2.mono rfl)⟩
    rw [show f_X3_read_b39 E (m + 1) = g_X3_read_b39 E (f_X3_read_b39 E m) from rfl]
    unfold g_X3_read_b39 f_X3_read_b79
    rw [if_pos (show (3 : Int32) ≤ nI 3 by decide), lt_e, show (0 : Int32) = nI 0 from rfl, bd_some e2, D2.1]
  | succ u ih =>
    intro i m S hi hm h
    obtain ⟨m, rfl⟩ : ∃ q, m = q + 1 := ⟨m - 1, by omega⟩
    obtain ⟨S1, e1, D1⟩ := d_take (E := E) (w := 256 + i) h (by omega)
    have D2 := D1.own.st i (gI S1 8 0 8)
    obtain ⟨S3, e3, D3⟩ := d_or (E := E) (d := 34) hN D2
    obtain ⟨S4, e4, D4⟩ := d_take (E := E) (w := 59) D3 (by decide)
    obtain ⟨S5, e5, F5⟩ := ih (i + 1) m S4 (by omega) (by omega) D4.own
    refine ⟨S5, ?_, ((D1.2.2.2.2.mono rfl).sI (S2 := sI S1 14 0 i (gI S1 8 0 8)) rfl rfl).trans ((D4.2.2.2.2.mono rfl).trans F5)⟩
    rw [show f_X3_read_b39 E (m + 1) = g_X3_read_b39 E (f_X3_read_b39 E m) from rfl]
    unfold g_X3_read_b39
    rw [if_neg (show ¬ (3 : Int32) ≤ nI i by rw [q_leL 3 (by decide) (by omega)]; omega), show (256 : Int32) = nI 256 from rfl, nI_add, bd_some e1, ck_in (ib_nI (by omega) (by decide)), q_cl (by omega), lt_e, bd_some e3, show (59 : Int32) = nI 59 from rfl, bd_some e4, nI_1, lt_e]
    exact e5
/-- the reference at token k, between two parts -/
def QT (B : Nat → Nat) (n : Nat) (T : ST) (k : Nat) : Prop := BM B n T ∧ TkM T (tP B n k) (tT B n k) (tN B n k)
theorem s_goOn0 (hN : 300 ≤ E.1) {T : ST} {k : Nat} (h : QT B n T k) (h0 : tT B n k ≠ 0) : ∃ T2, f_X7_goOn E T = some T2 ∧ QT B n T2 (k + 1) ∧ Fm wLk T T2 := by
  obtain ⟨p1, ⟨p21, p22, p23, p24, p25⟩⟩ := h
  obtain ⟨h1, h2, h3, h4, h5, h6⟩ := tX_ok B n k
  unfold f_X7_goOn
  rw [p21, p25 h0, nI_add, show tP B n k + (tN B n k - tP B n k) = tN B n k by omega, lt_e]
  have F1 : Fm [(1, 10)] T (sI T 1 0 9 (nI (tN B n k))) := Fm.rf.sI rfl rfl
  obtain ⟨T2, e2, F2, k2⟩ := s_look (E := E) (T := sI T 1 0 9 (nI (tN B n k))) hN (p1.keep (F1.ag rfl)) h2 (gI_same _ _ _ _ _)
  have F : Fm wLk T T2 := (F1.mono rfl).trans F2
  rw [bd_some e2]
  exact ⟨T2, rfl, ⟨p1.keep (F.ag rfl), k2⟩, F⟩
/-- a part -/
theorem s_part1 (hN : 3000 ≤ E.1) {Sb S T : ST} {bc k t i m : Nat} (ht : t < 6) (hi : i < 3) (hb : bc ≤ k) (hk : k ≤ 160) (hm : 4 ≤ m) (C : CL B n Sb bc S k [] 0) (Q : QT B n T k) :
    (∃ (k2 len : Nat) (S2 T2 : ST), f_X3_read_b39 E (m + 1) S (nI i) = f_X3_read_b39 E m S2 (nI (i + 1)) ∧ f_X7_takesPart E T (nI t) (nI i) (nI (wc (256 + i))) = some (1, T2) ∧ CL B n S2 (bc + len) S2 k2 [] 0 ∧ QT B n T2 k2 ∧ k2 ≤ 160 ∧ bc + len ≤ k2 ∧ Fm wRd S S2 ∧ Fm wTx T T2 ∧ PDt S2 T2 bc len t i ∧
      (∀ j, j < bc → gI S2 9 0 j = gI S 9 0 j) ∧ (∀ j, j ≠ i → gI S2 14 0 j = gI S 14 0 j) ∧ (∀ j, j < 480 * t + 160 * i → gI T2 57 0 j = gI T 57 0 j ∧ gI T2 58 0 j = gI T 58 0 j) ∧ (∀ j, j ≠ 3 * t + i → gI T2 59 0 j = gI T 59 0 j)) ∨
    (∃ (f : Nat) (S2 T2 : ST), f ≤ 160 ∧ f_X3_read_b39 E (m + 1) S (nI i) = some (nI f, S2) ∧ Fm wRd S S2 ∧ f_X7_takesPart E T (nI t) (nI i) (nI (wc (256 + i))) = some (0, T2) ∧ Fm wTx T T2 ∧ gI T2 1 0 9 = nI f ∧ (∀ j, j < 480 * t → gI T2 57 0 j = gI T 57 0 j ∧ gI T2 58 0 j = gI T 58 0 j) ∧ (∀ j, j < 3 * t → gI T2 59 0 j = gI T 59 0 j)) := by
  have vt := vT_k B n k
  have tPn : ∀ k, tP B n k ≤ 160 := fun k => Nat.le_trans (tX_ok B n k).1 C.1.1
  have eR : f_X3_read_b39 E (m + 1) S (nI i) = bd_ (f_X3_take E S (nI (256 + i))) fun S3 => lt_ (sI S3 14 0 i (gI S3 8 0 8)) fun S5 => bd_ (f_X3_readOr E 40 S5) fun S6 => bd_ (f_X3_take E S6 (nI 59)) fun S7 => f_X3_read_b39 E m S7 (nI (i + 1)) := by
    rw [show f_X3_read_b39 E (m + 1) = g_X3_read_b39 E (f_X3_read_b39 E m) from rfl]
    unfold g_X3_read_b39
    rw [if_neg (show ¬ (3 : Int32) ≤ nI i by rw [q_leL 3 (by decide) (by omega)]; omega), show (256 : Int32) = nI 256 from rfl, nI_add, show ib_ (nI i) 4 = true from ib_nI (by omega) (by decide), q_cl (by omega), nI_1]
    rfl
  obtain ⟨tk1, tk0⟩ := s_takeC (E := E) (w := 256 + i) (by omega) C (by omega) (by omega)
  have eM : f_X7_takesPart E T (nI t) (nI i) (nI (wc (256 + i))) = if tT B n k = 256 + i then (bd_ (f_X7_goOn E T) fun S2 => bd2 (f_X7_takesE E S2 (nI (480 * t + 160 * i))) fun r4 S5 => (if r4 = 0 then some ((0 : Int32), S5) else lt_ (sI S5 59 0 (3 * t + i) ((gI S5 1 0 15) - nI (480 * t + 160 * i))) fun S7 => bd_ (f_X7_goOn E S7) fun S8 => some ((1 : Int32), S8))) else some (0, T) := by
    unfold f_X7_takesPart
    rw [bd_some (s_isWord vt Q.2 (by omega) (by omega))]
    by_cases z : tT B n k = 256 + i
    · rw [if_pos z, if_pos z, if_neg (by decide), show (480 : Int32) = nI 480 from rfl, show (160 : Int32) = nI 160 from rfl, pk_mul, pk_mul, nI_add, show (3 : Int32) = nI 3 from rfl, pk_mul, nI_add, show ib_ (nI (3 * t + i)) 18 = true from ib_nI (by omega) (by decide), q_cl (by omega)]
      rfl
    · rw [if_neg z, if_neg z, if_pos rfl]
  rw [eR, eM]
  by_cases z : tT B n k = 256 + i
  · have h0 : tT B n k ≠ 0 := by omega
    have kl : k < 160 := by
      have a := tX_lt B n k h0
      have := C.1.1
      omega
    obtain ⟨S3, e3, C3⟩ := tk1 z
    obtain ⟨T3, g3, Q3, G3⟩ := s_goOn0 (E := E) (by omega) Q h0
    rw [if_pos z, bd_some e3, bd_some g3, lt_e]
    have l3 : gI S3 8 0 8 = nI bc := C3.2.2.2.1.1
    rw [l3]
    have F5 : Fm wRd S (sI S3 14 0 i (nI bc)) := by
      obtain ⟨-, -, -, -, -, hF, -⟩ := C3
      obtain ⟨-, -, -, -, -, hF0, -⟩ := C
      have hx : Fm wCL S S3 := (fr_X3_take _ _ _ _ e3).mono rfl
      exact (hx.mono rfl).sI rfl rfl
    have C5 : CL B n (sI S3 14 0 i (nI bc)) bc (sI S3 14 0 i (nI bc)) (k + 1) [] 0 := by
      have F : Fm [(14, 0)] S3 (sI S3 14 0 i (nI bc)) := Fm.rf.sI rfl rfl
      obtain ⟨h1, ⟨h2, h3, h4, h5⟩, h6, ⟨h7, h8⟩, h9, h10, h11⟩ := C3
      exact ⟨h1.keep (F.ag rfl), ⟨(F.I rfl).trans h2, (F.I rfl).trans h3, (F.I rfl).trans h4, (F.I rfl).trans h5⟩, (F.I rfl).trans h6, ⟨(F.I rfl).trans h7, h8⟩, True.intro, Fm.rf, fun j hj => rfl⟩
    have c9 : ∀ j, gI (sI S3 14 0 i (nI bc)) 9 0 j = gI S3 9 0 j := fun j => by rw [gI_ne (by omega)]
    have s39 : ∀ j, gI S3 9 0 j = gI S 9 0 j := fun j => (fr_X3_take _ _ _ _ e3).I rfl
    have s14 : ∀ j, j ≠ i → gI (sI S3 14 0 i (nI bc)) 14 0 j = gI S 14 0 j := fun j hj => by
      rw [gI_ne (by omega)]
      exact (fr_X3_take _ _ _ _ e3).I rfl
    have i14 : gI (sI S3 14 0 i (nI bc)) 14 0 i = nI bc := gI_same _ _ _ _ _
    generalize sI S3 14 0 i (nI bc) = S5 at C5 F5 c9 s14 i14
    have FT : Fm wTx T (sI (sI (sI T3 1 0 15 (nI (480 * t + 160 * i))) 1 0 14 (0 : Int32)) 1 0 13 (0 : Int32)) := (((G3.mono rfl).sI rfl rfl).sI rfl rfl).sI rfl rfl
    have FT2 : Fm [(1, 10), (1, 11), (1, 12), (1, 13), (1, 14), (1, 15), (1, 16)] T (sI (sI (sI T3 1 0 15 (nI (480 * t + 160 * i))) 1 0 14 (0 : Int32)) 1 0 13 (0 : Int32)) := (((G3.mono rfl).sI rfl rfl).sI rfl rfl).sI rfl rfl
    have M4 : MR B n (sI (sI (sI T3 1 0 15 (nI (480 * t + 160 * i))) 1 0 14 (0 : Int32)) 1 0 13 (0 : Int32)) (480 * t + 160 * i) (k + 1) (sI (sI (sI T3 1 0 15 (nI (480 * t + 160 * i))) 1 0 14 (0 : Int32)) 1 0 13 (0 : Int32)) (k + 1) [] [] := by
      have F : Fm [(1, 14), (1, 15), (1, 16)] T3 (sI (sI (sI T3 1 0 15 (nI (480 * t + 160 * i))) 1 0 14 (0 : Int32)) 1 0 13 (0 : Int32)) := ((Fm.rf.sI rfl rfl).sI rfl rfl).sI rfl rfl
      obtain ⟨q1, ⟨q2, q3, q4, q5, q6⟩⟩ := Q3
      refine ⟨q1.keep (F.ag rfl), ⟨(F.I rfl).trans q2, (F.I rfl).trans q3, fun a c => (F.I rfl).trans (q4 a c), fun a => (F.I rfl).trans (q5 a), fun a => (F.I rfl).trans (q6 a)⟩, Fm.rf, fun j hj => ⟨rfl, rfl⟩, ⟨?_, ?_, ?_⟩, ⟨True.intro, True.intro⟩, ⟨?_, by omega, by omega⟩, (fun x hx => by cases hx), by decide⟩
      · rw [gI_ne (by omega), gI_ne (by omega), gI_same]
        rfl
      · rw [gI_ne (by omega), gI_same]
        rfl
      · rw [gI_same]
        rfl
      · show 0 + 0 + (k + 1) ≤ k + 1
        omega
    have eT : f_X7_takesE E T3 (nI (480 * t + 160 * i)) = f_X7_takesE_b19 E E.1 (sI (sI (sI T3 1 0 15 (nI (480 * t + 160 * i))) 1 0 14 (0 : Int32)) 1 0 13 (0 : Int32)) 1 1 := by
      unfold f_X7_takesE
      rw [lt_e, lt_e, lt_e]
    rw [eT]
    generalize sI (sI (sI T3 1 0 15 (nI (480 * t + 160 * i))) 1 0 14 (0 : Int32)) 1 0 13 (0 : Int32) = T4 at M4 FT FT2
    obtain ⟨-, -, so⟩ := sim_all (E := E) (B := B) (n := n) (Sb := S5) (Tb := T4) (b := 480 * t + 160 * i) (k0 := k + 1) (bc := bc) (by omega) (by omega) 5 (Nat.le_refl _)
    rcases so 40 (k + 1) S5 T4 [] [] (by decide) rfl (by decide) C5 M4 with ⟨j, S6, T5, out2, oR, wt, mn2, f6, C6, r5, M5, es, ex, hh, ok⟩ | ⟨j, S6, T5, kf, f6, D6, r5, L5, hk3, hk4⟩
    · have es1 : stl 1 oR wt = (out2, []) := by rw [es]; rfl
      have mr := M5.2.2.2.2.2.2.1
      have ln := stl_ln es
      have ln : oR.length + wt.length = out2.length + 0 := ln
      obtain ⟨t1, t0⟩ := s_takeC (E := E) (w := 59) (by omega) C6 (by decide) (by decide)
      obtain ⟨m', hm'⟩ : ∃ m', E.1 = j + (m' + 1) := ⟨E.1 - j - 1, by omega⟩
      rw [bd_some f6, hm', r5]
      by_cases y : tT B n (k + 1 + j) = 59
      · obtain ⟨S7, e7, C7⟩ := t1 y
        obtain ⟨T6, r6, M6⟩ := r_end (E := E) (mn := mn2) (by omega) M5 (Or.inl y)
        rw [es1] at M6
        have h59 : tT B n (k + 1 + j) ≠ 0 := by omega
        have kl2 := M5.lt h59
        have r6' : f_X7_takesE_b19 E (m' + 1) T5 0 mn2 = some (1, T6) := by
          rw [r6, es1, if_pos ⟨rfl, y⟩]
        rw [bd_some e7, bd2_some r6', if_neg (by decide)]
        have g15 : gI T6 1 0 15 - nI (480 * t + 160 * i) = nI out2.length := by
          rw [M6.2.2.2.2.1.1, nI_subE (by omega), Nat.add_sub_cancel_left]
        rw [g15, lt_e]
        have F7 : Fm [(59, 0)] T6 (sI T6 59 0 (3 * t + i) (nI out2.length)) := Fm.rf.sI rfl rfl
        have Q7 : QT B n (sI T6 59 0 (3 * t + i) (nI out2.length)) (k + 1 + j) := by
          obtain ⟨q2, q3, q4, q5, q6⟩ := M6.2.1
          exact ⟨M6.1.keep (F7.ag rfl), (F7.I rfl).trans q2, (F7.I rfl).trans q3, fun a c => (F7.I rfl).trans (q4 a c), fun a => (F7.I rfl).trans (q5 a), fun a => (F7.I rfl).trans (q6 a)⟩
        obtain ⟨T8, g8, Q8, G8⟩ := s_goOn0 (E := E) (by omega) Q7 h59
        rw [bd_some g8]
        have FM : Fm wMR T4 T6 := M6.2.2.1
        have FX : Fm wTx T T8 := ((FT.trans (FM.mono rfl)).trans (F7.mono rfl)).trans (G8.mono rfl)
        obtain ⟨c1, ⟨c2, c3, c4, c5⟩, c6, ⟨c7, c8⟩, c90, c10, c11⟩ := id C7
        have o8 := M6.2.2.2.2.2.1.1
        refine Or.inl ⟨k + 1 + j + 1, out2.length, S7, T8, rfl, rfl, ⟨c1, ⟨c2, c3, c4, c5⟩, c6, ⟨by rw [c7]; rfl, c8⟩, True.intro, Fm.rf, fun j hj => rfl⟩, Q8, by omega, by omega, F5.trans (c10.mono rfl), FX, ⟨fL out2, by omega, ⟨okF_L (ok True.intro), by rw [hF_L, hh]; show 1 ≤ 0 + 1; omega⟩, ?_, ?_, fun a ha => ⟨CO.f c90 a ha, ?_, ?_⟩⟩, fun j hj => ?_, fun j hj => ?_, fun j hj => ⟨?_, ?_⟩, fun j hj => ?_⟩
        · rw [G8.I rfl, gI_same]
        · rw [c10.I rfl]
          exact i14
        · rw [G8.I rfl, F7.I rfl]
          exact (OU.f o8 a ha).1
        · rw [G8.I rfl, F7.I rfl]
          exact (OU.f o8 a ha).2
        · rw [c11 j hj, c9, s39]
        · rw [c10.I rfl]
          exact s14 j hj
        · rw [G8.I rfl, F7.I rfl, (M6.2.2.2.1 j hj).1]
          exact FT2.I rfl
        · rw [G8.I rfl, F7.I rfl, (M6.2.2.2.1 j hj).2]
          exact FT2.I rfl
        · rw [G8.I rfl, gI_ne (by omega), FM.I rfl]
          exact FT2.I rfl
      · obtain ⟨S7, e7, D7⟩ := t0 y
        have k3 : k + 1 + j ≤ 160 := mr.2.1
        have fl : ∃ T6, (∀ m, f_X7_takesE_b19 E (m + 1) T5 0 mn2 = some (0, T6)) ∧ FL B n T4 (480 * t + 160 * i) T6 (k + 1 + j) := by
          by_cases q0 : tT B n (k + 1 + j) = 59 ∨ tT B n (k + 1 + j) = 0 ∨ tT B n (k + 1 + j) = 2
          · obtain ⟨T6, r6, M6⟩ := r_end (E := E) (mn := mn2) (by omega) M5 q0
            refine ⟨T6, fun m => ?_, M6.fl⟩
            rw [r6, if_neg (fun w => y w.2)]
          · obtain ⟨⟨⟨⟨⟨-, x42⟩, x43⟩, x60⟩, x260⟩, x259⟩ := ex
            by_cases q41 : tT B n (k + 1 + j) = 41
            · exact (r_close (E := E) (mn := mn2) (by omega) M5 q41).2 (fun r => by rw [es1]; exact fun w => by cases w)
            · by_cases q6 : tT B n (k + 1 + j) = 60 ∨ tT B n (k + 1 + j) = 61
              · have lv : lvO (tT B n (k + 1 + j)) = 5 := by unfold lvO; rw [if_pos q6]
                exact (r_sign (E := E) (mn := mn2) (by omega) M5 (by unfold isB2; omega)).1 ⟨q6, by rw [lv]; exact x60 q6⟩
              · exact ⟨T5, r_none (E := E) M5 (by unfold isB2; omega) q41 q0, M5.fl⟩
        obtain ⟨T6, r6, L6⟩ := fl
        obtain ⟨S8, e8, F8⟩ := d_rest (E := E) (by omega) (2 - i) (i + 1) m S7 (by omega) (by omega) D7.own
        rw [bd_some e7, bd2_some (r6 m'), if_pos rfl, e8]
        refine Or.inr ⟨tP B n (k + 1 + j), S8, T6, tPn _, rfl, (F5.trans (D7.2.2.2.2.mono rfl)).trans F8, rfl, FT.trans (L6.2.1.mono rfl), L6.1, fun j hj => ⟨?_, ?_⟩, fun j hj => ?_⟩
        · rw [(L6.2.2 j (by omega)).1]
          exact FT2.I rfl
        · rw [(L6.2.2 j (by omega)).2]
          exact FT2.I rfl
        · rw [L6.2.1.I rfl]
          exact FT2.I rfl
    · obtain ⟨S7, e7, D7⟩ := d_take (E := E) (w := 59) D6 (by decide)
      obtain ⟨S8, e8, F8⟩ := d_rest (E := E) (by omega) (2 - i) (i + 1) m S7 (by omega) (by omega) D7.own
      obtain ⟨m', hm'⟩ : ∃ m', E.1 = j + m' := ⟨E.1 - j, by omega⟩
      rw [bd_some f6, bd_some e7, e8, hm', bd2_some (r5 m'), if_pos rfl]
      refine Or.inr ⟨tP B n kf, S8, T5, tPn _, rfl, (F5.trans (D7.2.2.2.2.mono rfl)).trans F8, rfl, FT.trans (L5.2.1.mono rfl), L5.1, fun j hj => ⟨?_, ?_⟩, fun j hj => ?_⟩
      · rw [(L5.2.2 j (by omega)).1]
        exact FT2.I rfl
      · rw [(L5.2.2 j (by omega)).2]
        exact FT2.I rfl
      · rw [L5.2.1.I rfl]
        exact FT2.I rfl
  · obtain ⟨S3, e3, D3⟩ := tk0 z
    have D5 := D3.own.st i (gI S3 8 0 8)
    obtain ⟨S6, e6, D6⟩ := d_or (E := E) (d := 34) (by omega) D5
    obtain ⟨S7, e7, D7⟩ := d_take (E := E) (w := 59) D6 (by decide)
    obtain ⟨S8, e8, F8⟩ := d_rest (E := E) (by omega) (2 - i) (i + 1) m S7 (by omega) (by omega) D7.own
    rw [if_neg z, bd_some e3, lt_e, bd_some e6, bd_some e7, e8]
    exact Or.inr ⟨tP B n k, S8, T, tPn _, rfl, (((fr_X3_take _ _ _ _ e3).mono rfl).sI (S2 := sI S3 14 0 i (gI S3 8 0 8)) rfl rfl).trans ((D7.2.2.2.2.mono rfl).trans F8), rfl, Fm.rf, Q.2.1, fun j hj => ⟨rfl, rfl⟩, fun j hj => rfl⟩
end PRT
