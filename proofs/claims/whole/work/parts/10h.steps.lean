/-! PURE PART: the reference's steps: a ONE, a sign -/
theorem sI_self (S : ST) (K i j : Nat) : sI S K i j (gI S K i j) = S := by
  obtain ⟨a, b, c⟩ := S
  have e : ct a K i (upd (a K i) j (a K i j)) = a := by
    funext K' i' j'
    unfold ct
    by_cases q : K' = K ∧ i' = i
    · rw [if_pos q, q.1, q.2]
      unfold upd
      by_cases z : j' = j
      · rw [if_pos z, z]
      · rw [if_neg z]
    · rw [if_neg q]
  show (ct a K i (upd (a K i) j (a K i j)), b, c) = (a, b, c)
  rw [e]
section STQ
variable {E : EN} {B : Nat → Nat} {n : Nat} {Tb : ST} {b k0 : Nat}
/-- a NUMBER or a NAME -/
theorem s_oneA (hN : 300 ≤ E.1) {T : ST} {k : Nat} {out : List (Nat × Nat)} {wt : List Nat} {mn : Int32} (h : MR B n Tb b k0 T k out wt) (hk : k < 160) (ht : 262 ≤ tT B n k) :
    ∃ T2, f_X7_takesOne E T mn = some (2, T2) ∧ MRc B n Tb b k0 T2 k (k + 1) (stl 7 (decT (tT B n k) :: out) wt).1 (stl 7 (decT (tT B n k) :: out) wt).2 := by
  have vt := vT_k B n k
  obtain ⟨p1, ⟨p21, p22, p23, p24, p25⟩, p3, p4, ⟨p5, p6, p7⟩, ⟨p8, p9⟩, ⟨p10, p11, p12⟩, p13, p14⟩ := id h
  have pt := s_put (E := E) (T := T) (m := b + out.length) (x := nI (decT (tT B n k)).1) (y := nI (decT (tT B n k)).2) p5 (by omega)
  have M1 := MRc.put (c' := k + 1) (x := decT (tT B n k)) (m := b + out.length) h Fm.rf p6 p7 p9 rfl (by omega) (by omega) p13 p14
  obtain ⟨T2, e2, M2⟩ := s_setM (E := E) hN (L := 7) (by decide) (by decide) M1
  refine ⟨T2, ?_, M2⟩
  unfold f_X7_takesOne f_X7_takesOne_b27 f_X7_takesOne_b41 f_X7_takesOne_b64
  rw [p22]
  by_cases z : 1000 ≤ tT B n k
  · have d : decT (tT B n k) = (0, tT B n k - 1000) := by unfold decT; rw [if_pos z]
    rw [d] at pt
    rw [if_pos ((tM_1 vt).mpr z), if_pos ((tM_1 vt).mpr z), if_pos ((tM_1 vt).mpr z), p24 z, bd_some (show f_X7_put E T (0 : Int32) (nI (tT B n k - 1000)) = _ from pt), show (7 : Int32) = nI 7 from rfl]
    rw [d] at e2
    rw [bd_some e2]
  · have w : 256 ≤ tT B n k ∧ tT B n k < 268 := by
      rcases vt with v | v | v | v | v
      · omega
      · omega
      · have := isG_8 v; omega
      · exact v
      · omega
    have d : decT (tT B n k) = (1, tT B n k - 262) := by unfold decT; rw [if_neg z]
    have nm : nmO (nI (wc (tT B n k))) = nI (tT B n k - 262) := by
      have all : ∀ i, i < 6 → nmO (nI (wc (262 + i))) = nI i := by decide +kernel
      have := all (tT B n k - 262) (by omega)
      rw [show 262 + (tT B n k - 262) = tT B n k by omega] at this
      exact this
    rw [d] at pt
    rw [if_neg (fun y => z ((tM_1 vt).mp y)), if_pos ((tM_2 vt).mpr w), p23 w.1 w.2, bd_some (s_nmO _), nm, if_neg (q_n0 (by omega)), if_neg (fun y => z ((tM_1 vt).mp y)), if_neg (fun y => z ((tM_1 vt).mp y)), bd_some (s_nmO _), nm, bd_some (show f_X7_put E T (1 : Int32) (nI (tT B n k - 262)) = _ from pt), show (7 : Int32) = nI 7 from rfl]
    rw [d] at e2
    rw [bd_some e2]
theorem s_opensM {T : ST} {k : Nat} {out : List (Nat × Nat)} {wt : List Nat} {x : Nat} (h : MR B n Tb b k0 T k out wt) (hk : k < 160) (hx : x = 4 ∨ x = 10 ∨ x = 20) :
    (opc wt = 5 → f_X7_opens E T (nI x) = some (0, T)) ∧ (opc wt ≠ 5 → ∃ T2, f_X7_opens E T (nI x) = some (1, T2) ∧ MRc B n Tb b k0 T2 k (k + 1) out (x :: wt)) := by
  have p7 := h.2.2.2.2.1.2.2
  have p14 := h.2.2.2.2.2.2.2.2
  unfold f_X7_opens
  rw [p7]
  refine ⟨fun z => by rw [if_pos (show nI (opc wt) = (5 : Int32) by rw [z]; rfl)], fun z => ?_⟩
  have eo : opc (x :: wt) = opc wt + 1 := by
    show opc wt + op1 x = opc wt + 1
    unfold op1
    rw [if_pos hx]
  obtain ⟨T2, e2, M2⟩ := s_pushM (E := E) (x := x) (v := nI (opc wt + 1)) h hk (by rw [eo]) (by omega) (by omega)
  refine ⟨T2, ?_, M2⟩
  rw [if_neg (show ¬ nI (opc wt) = (5 : Int32) by rw [q_eqR 5 (by decide) (by omega)]; exact z), nI_1, lt_e, bd_some e2]
/-- what opens -/
def opO (t : Nat) : Nat := if t = 45 then 10 else if t = 40 then 20 else 4
theorem s_oneB {T : ST} {k : Nat} {out : List (Nat × Nat)} {wt : List Nat} {mn : Int32} (h : MR B n Tb b k0 T k out wt) (hk : k < 160) (ht : tT B n k = 45 ∨ tT B n k = 40 ∨ tT B n k = 261 ∧ mn ≠ 0) :
    (opc wt = 5 → f_X7_takesOne E T mn = some (0, T)) ∧ (opc wt ≠ 5 → ∃ T2, f_X7_takesOne E T mn = some (1, T2) ∧ MRc B n Tb b k0 T2 k (k + 1) out (opO (tT B n k) :: wt)) := by
  have vt := vT_k B n k
  have hp2 := h.2.1
  obtain ⟨p21, p22, p23, p24, p25⟩ := id hp2
  have n1 : ¬ (1 : Int32) = 0 := by decide
  have e75 : f_X7_takesOne E T mn = f_X7_takesOne_b75 E T mn := by
    unfold f_X7_takesOne
    rw [p22, if_neg (fun y => by have := (tM_1 vt).mp y; omega)]
    by_cases w : tM (tT B n k) = 2
    · have w' := (tM_2 vt).mp w
      have t261 : tT B n k = 261 := by omega
      rw [if_pos w, p23 w'.1 w'.2, bd_some (s_nmO _), t261, if_pos (show nmO (nI (wc 261)) < 0 by decide)]
    · rw [if_neg w]
  rw [e75]
  unfold f_X7_takesOne_b75
  rw [p22]
  have i45 : tM (tT B n k) = 45 ↔ tT B n k = 45 := tM_sign vt (by decide) (by decide)
  have i40 : tM (tT B n k) = 40 ↔ tT B n k = 40 := tM_sign vt (by decide) (by decide)
  unfold opO
  rcases ht with t | t | ⟨t, hmn⟩
  · obtain ⟨o5, on⟩ := s_opensM (E := E) (x := 10) h hk (by decide)
    rw [if_pos (i45.mpr t), if_pos t, show (10 : Int32) = nI 10 from rfl]
    refine ⟨fun z => by rw [bd2_some (o5 z), if_pos rfl], fun z => ?_⟩
    obtain ⟨T2, e2, M2⟩ := on z
    exact ⟨T2, by rw [bd2_some e2, if_neg n1], M2⟩
  · obtain ⟨o5, on⟩ := s_opensM (E := E) (x := 20) h hk (by decide)
    rw [if_neg (fun y => by have := i45.mp y; omega), if_pos (i40.mpr t), if_neg (by omega), if_pos t, show (20 : Int32) = nI 20 from rfl]
    refine ⟨fun z => by rw [bd2_some (o5 z), if_pos rfl], fun z => ?_⟩
    obtain ⟨T2, e2, M2⟩ := on z
    exact ⟨T2, by rw [bd2_some e2, if_neg n1], M2⟩
  · obtain ⟨o5, on⟩ := s_opensM (E := E) (x := 4) h hk (by decide)
    rw [if_neg (fun y => by have := i45.mp y; omega), if_neg (fun y => by have := i40.mp y; omega), if_neg (show ¬ tT B n k = 45 by omega), if_neg (show ¬ tT B n k = 40 by omega), show (14836 : Int32) = nI (wc 261) from rfl, bd_some (s_isWord vt hp2 (by decide) (by decide)), if_pos t, if_neg n1, if_neg hmn, show (4 : Int32) = nI 4 from rfl]
    refine ⟨fun z => by rw [bd2_some (o5 z), if_pos rfl], fun z => ?_⟩
    obtain ⟨T2, e2, M2⟩ := on z
    exact ⟨T2, by rw [bd2_some e2, if_neg n1], M2⟩
theorem s_oneC {T : ST} {k : Nat} {out : List (Nat × Nat)} {wt : List Nat} {mn : Int32} (h : MR B n Tb b k0 T k out wt) (h1 : ¬ 262 ≤ tT B n k) (h2 : tT B n k ≠ 45) (h3 : tT B n k ≠ 40) (h4 : tT B n k = 261 → mn = 0) : f_X7_takesOne E T mn = some (0, T) := by
  have vt := vT_k B n k
  have hp2 := h.2.1
  obtain ⟨p21, p22, p23, p24, p25⟩ := id hp2
  have e75 : f_X7_takesOne E T mn = f_X7_takesOne_b75 E T mn := by
    unfold f_X7_takesOne
    rw [p22, if_neg (fun y => by have := (tM_1 vt).mp y; omega)]
    by_cases w : tM (tT B n k) = 2
    · have w' := (tM_2 vt).mp w
      have all : ∀ i, i < 6 → nmO (nI (wc (256 + i))) < 0 := by decide +kernel
      have := all (tT B n k - 256) (by omega)
      rw [show 256 + (tT B n k - 256) = tT B n k by omega] at this
      rw [if_pos w, p23 w'.1 w'.2, bd_some (s_nmO _), if_pos this]
    · rw [if_neg w]
  rw [e75]
  unfold f_X7_takesOne_b75
  rw [p22, if_neg (show ¬ tM (tT B n k) = (45 : Int32) from fun y => h2 ((tM_sign vt (by decide) (by decide)).mp y)), if_neg (show ¬ tM (tT B n k) = (40 : Int32) from fun y => h3 ((tM_sign vt (by decide) (by decide)).mp y)), show (14836 : Int32) = nI (wc 261) from rfl, bd_some (s_isWord vt hp2 (by decide) (by decide))]
  by_cases z : tT B n k = 261
  · rw [if_pos z, if_neg (show ¬ (1 : Int32) = 0 by decide), if_pos (h4 z)]
  · rw [if_neg z, if_pos rfl]
/-- which sign a token is -/
theorem s_sign98 {T : ST} {k : Nat} {out : List (Nat × Nat)} {wt : List Nat} (h : MR B n Tb b k0 T k out wt) : (isB2 (tT B n k) → f_X7_takesSign E T = f_X7_takesSign_b98 E T (nI (sgO (tT B n k)))) ∧ (¬ isB2 (tT B n k) → f_X7_takesSign E T = f_X7_takesSign_b98 E T (-1)) := by
  have vt := vT_k B n k
  have hp2 := h.2.1
  obtain ⟨p21, p22, p23, p24, p25⟩ := id hp2
  have n1 : ¬ (1 : Int32) = 0 := by decide
  have i42 : tM (tT B n k) = 42 ↔ tT B n k = 42 := tM_sign vt (by decide) (by decide)
  have i43 : tM (tT B n k) = 43 ↔ tT B n k = 43 := tM_sign vt (by decide) (by decide)
  have i45 : tM (tT B n k) = 45 ↔ tT B n k = 45 := tM_sign vt (by decide) (by decide)
  have i60 : tM (tT B n k) = 60 ↔ tT B n k = 60 := tM_sign vt (by decide) (by decide)
  have i61 : tM (tT B n k) = 61 ↔ tT B n k = 61 := tM_sign vt (by decide) (by decide)
  unfold f_X7_takesSign isB2 sgO
  rw [p22, show (1476 : Int32) = nI (wc 260) from rfl, show (498 : Int32) = nI (wc 259) from rfl, s_isWord vt hp2 (by decide) (by decide), s_isWord vt hp2 (by decide) (by decide)]
  show (_ → (if tM (tT B n k) = 42 then _ else if tM (tT B n k) = 43 then _ else if tM (tT B n k) = 45 then _ else if tM (tT B n k) = 60 then _ else if tM (tT B n k) = 61 then _ else if (if tT B n k = 260 then (1 : Int32) else 0) = 0 then (if (if tT B n k = 259 then (1 : Int32) else 0) = 0 then f_X7_takesSign_b98 E T (-1 : Int32) else f_X7_takesSign_b98 E T (2 : Int32)) else f_X7_takesSign_b98 E T (3 : Int32)) = _) ∧ (_ → (if tM (tT B n k) = 42 then _ else if tM (tT B n k) = 43 then _ else if tM (tT B n k) = 45 then _ else if tM (tT B n k) = 60 then _ else if tM (tT B n k) = 61 then _ else if (if tT B n k = 260 then (1 : Int32) else 0) = 0 then (if (if tT B n k = 259 then (1 : Int32) else 0) = 0 then f_X7_takesSign_b98 E T (-1 : Int32) else f_X7_takesSign_b98 E T (2 : Int32)) else f_X7_takesSign_b98 E T (3 : Int32)) = _)
  by_cases a : tT B n k = 42
  · rw [if_pos (i42.mpr a), if_pos a]
    exact ⟨fun _ => rfl, fun y => absurd (Or.inl a) y⟩
  rw [if_neg (fun y => a (i42.mp y)), if_neg a]
  by_cases c : tT B n k = 43
  · rw [if_pos (i43.mpr c), if_pos c]
    exact ⟨fun _ => rfl, fun y => absurd (Or.inr (Or.inl c)) y⟩
  rw [if_neg (fun y => c (i43.mp y)), if_neg c]
  by_cases d : tT B n k = 45
  · rw [if_pos (i45.mpr d), if_pos d]
    exact ⟨fun _ => rfl, fun y => absurd (Or.inr (Or.inr (Or.inl d))) y⟩
  rw [if_neg (fun y => d (i45.mp y)), if_neg d]
  by_cases e : tT B n k = 60
  · rw [if_pos (i60.mpr e), if_pos e]
    exact ⟨fun _ => rfl, fun y => absurd (Or.inr (Or.inr (Or.inr (Or.inl e)))) y⟩
  rw [if_neg (fun y => e (i60.mp y)), if_neg e]
  by_cases f : tT B n k = 61
  · rw [if_pos (i61.mpr f), if_pos f]
    exact ⟨fun _ => rfl, fun y => absurd (Or.inr (Or.inr (Or.inr (Or.inr (Or.inl f))))) y⟩
  rw [if_neg (fun y => f (i61.mp y)), if_neg f]
  by_cases g : tT B n k = 260
  · rw [if_pos g, if_neg n1, if_pos g]
    exact ⟨fun _ => rfl, fun y => absurd (Or.inr (Or.inr (Or.inr (Or.inr (Or.inr (Or.inl g)))))) y⟩
  rw [if_neg g, if_pos rfl, if_neg g]
  by_cases i : tT B n k = 259
  · rw [if_pos i, if_neg n1]
    exact ⟨fun _ => rfl, fun y => absurd (Or.inr (Or.inr (Or.inr (Or.inr (Or.inr (Or.inr i)))))) y⟩
  · rw [if_neg i, if_pos rfl]
    exact ⟨fun y => by omega, fun _ => rfl⟩
/-- a sign between two -/
theorem s_signA (hN : 300 ≤ E.1) {T : ST} {k : Nat} {out : List (Nat × Nat)} {wt : List Nat} (h : MR B n Tb b k0 T k out wt) (hk : k < 160) (ht : isB2 (tT B n k)) :
    ∃ T2, MRc B n Tb b k0 T2 k k (stl (lvO (tT B n k)) out wt).1 (stl (lvO (tT B n k)) out wt).2 ∧
      ((tT B n k = 60 ∨ tT B n k = 61) ∧ tpS (stl (lvO (tT B n k)) out wt).2 = 4 → f_X7_takesSign E T = some (0, T2)) ∧
      (¬ ((tT B n k = 60 ∨ tT B n k = 61) ∧ tpS (stl (lvO (tT B n k)) out wt).2 = 4) → ∃ T3, f_X7_takesSign E T = some (1, T3) ∧ MRc B n Tb b k0 T3 k (k + 1) (stl (lvO (tT B n k)) out wt).1 (sgO (tT B n k) :: (stl (lvO (tT B n k)) out wt).2)) := by
  have lv : 1 ≤ lvO (tT B n k) ∧ lvO (tT B n k) ≤ 7 ∧ 2 ≤ sgO (tT B n k) ∧ sgO (tT B n k) ≤ 9 ∧ sgO (tT B n k) ≠ 4 ∧ (sgO (tT B n k) = 5 ∨ sgO (tT B n k) = 6 ↔ tT B n k = 60 ∨ tT B n k = 61) := by
    have ht' := ht
    unfold isB2 at ht'
    rcases ht' with e | e | e | e | e | e | e <;> rw [e] <;> decide
  obtain ⟨T2, e2, M2⟩ := s_setM (E := E) hN lv.1 lv.2.1 h
  refine ⟨T2, M2, ?_⟩
  have e98 := (s_sign98 (E := E) h).1 ht
  have M2' := id M2
  obtain ⟨q1, q2, q3, q4, ⟨q5, q6, q7⟩, q8, q9, q10, q11⟩ := M2'
  have eo : opc (sgO (tT B n k) :: (stl (lvO (tT B n k)) out wt).2) = opc (stl (lvO (tT B n k)) out wt).2 := by
    show _ + op1 (sgO (tT B n k)) = _
    unfold op1
    rw [if_neg (by omega)]
    rfl
  have e138 : f_X7_takesSign E T = (if tT B n k = 60 ∨ tT B n k = 61 then f_X7_takesSign_b138 E T2 (nI (sgO (tT B n k))) else f_X7_takesSign_b152 E T2 (nI (sgO (tT B n k)))) := by
    rw [e98]
    unfold f_X7_takesSign_b98 f_X7_takesSign_b115 f_X7_takesSign_b124
    rw [if_neg (q_n0 (by omega))]
    by_cases c : tT B n k = 60 ∨ tT B n k = 61
    · have l5 : lvO (tT B n k) = 5 := by unfold lvO; rw [if_pos c]
      rw [l5] at e2
      rw [if_pos c]
      rcases lv.2.2.2.2.2.mpr c with s | s
      · rw [s, if_pos (show nI 5 = (5 : Int32) from rfl), show (5 : Int32) = nI 5 from rfl, bd_some e2, if_pos rfl]
      · rw [s, if_neg (show ¬ nI 6 = (5 : Int32) by decide), if_pos (show nI 6 = (6 : Int32) from rfl), show (5 : Int32) = nI 5 from rfl, bd_some e2, if_neg (show ¬ nI 6 = nI 5 by decide), if_pos (show nI 6 = (6 : Int32) from rfl)]
    · have l5 : lvO (tT B n k) = stg (sgO (tT B n k)) := by unfold lvO; rw [if_neg c]
      have ns : ¬ (sgO (tT B n k) = 5 ∨ sgO (tT B n k) = 6) := fun y => c (lv.2.2.2.2.2.mp y)
      rw [l5] at e2
      rw [if_neg c, if_neg (show ¬ nI (sgO (tT B n k)) = (5 : Int32) by rw [q_eqR 5 (by decide) (by omega)]; omega), if_neg (show ¬ nI (sgO (tT B n k)) = (6 : Int32) by rw [q_eqR 6 (by decide) (by omega)]; omega), bd_some (s_strength (by omega)), bd_some e2]
      rw [if_neg (show ¬ nI (sgO (tT B n k)) = (5 : Int32) by rw [q_eqR 5 (by decide) (by omega)]; omega), if_neg (show ¬ nI (sgO (tT B n k)) = (6 : Int32) by rw [q_eqR 6 (by decide) (by omega)]; omega)]
  have t1 := s_top (E := E) M2
  have push : ∃ T3, f_X7_takesSign_b152 E T2 (nI (sgO (tT B n k))) = some (1, T3) ∧ MRc B n Tb b k0 T3 k (k + 1) (stl (lvO (tT B n k)) out wt).1 (sgO (tT B n k) :: (stl (lvO (tT B n k)) out wt).2) := by
    obtain ⟨T3, e3, M3⟩ := s_pushM (E := E) (x := sgO (tT B n k)) (v := nI (opc (stl (lvO (tT B n k)) out wt).2)) M2 hk (by rw [eo]) (by omega) (by rw [eo]; exact q11)
    have same : sI T2 1 0 13 (nI (opc (stl (lvO (tT B n k)) out wt).2)) = T2 := by
      rw [← q7]
      exact sI_self _ _ _ _
    rw [same] at e3
    unfold f_X7_takesSign_b152
    exact ⟨T3, by rw [bd_some e3], M3⟩
  have sle : tpS (stl (lvO (tT B n k)) out wt).2 ≤ 7 := by
    cases (stl (lvO (tT B n k)) out wt).2 with
    | nil => exact Nat.zero_le _
    | cons x r => exact stg_le x
  refine ⟨fun c => ?_, fun c => ?_⟩
  · rw [e138, if_pos c.1]
    unfold f_X7_takesSign_b138
    have := t1.2
    rw [bd_some t1.1] at this
    rw [bd_some t1.1, bd_some this, c.2, if_pos (show nI 4 = (4 : Int32) from rfl)]
  · obtain ⟨T3, e3, M3⟩ := push
    refine ⟨T3, ?_, M3⟩
    rw [e138]
    by_cases d : tT B n k = 60 ∨ tT B n k = 61
    · rw [if_pos d]
      unfold f_X7_takesSign_b138
      have := t1.2
      rw [bd_some t1.1] at this
      rw [bd_some t1.1, bd_some this, if_neg (show ¬ nI (tpS (stl (lvO (tT B n k)) out wt).2) = (4 : Int32) by rw [q_eqR 4 (by decide) (by omega)]; exact fun y => c ⟨d, y⟩), e3]
    · rw [if_neg d, e3]
end STQ
