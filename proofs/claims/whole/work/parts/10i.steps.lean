/-! PURE PART: the reference's steps, put together -/
section STR
variable {E : EN} {B : Nat → Nat} {n : Nat} {Tb : ST} {b k0 : Nat}
/-- the reference gives up at token k -/
def FL (B : Nat → Nat) (n : Nat) (Tb : ST) (b : Nat) (T : ST) (k : Nat) : Prop := gI T 1 0 9 = nI (tP B n k) ∧ Fm wMR Tb T ∧ ∀ j, j < b → gI T 57 0 j = gI Tb 57 0 j ∧ gI T 58 0 j = gI Tb 58 0 j
theorem MRc.fl {T : ST} {k c : Nat} {out : List (Nat × Nat)} {wt : List Nat} (h : MRc B n Tb b k0 T k c out wt) : FL B n Tb b T k := ⟨h.2.1.1, h.2.2.1, h.2.2.2.1⟩
theorem MRc.lt {T : ST} {k c : Nat} {out : List (Nat × Nat)} {wt : List Nat} (h : MRc B n Tb b k0 T k c out wt) (h0 : tT B n k ≠ 0) : k < 160 := by
  have a := tX_lt B n k h0
  have := h.1.1
  omega
theorem s_signP (hN : 300 ≤ E.1) {T : ST} {k : Nat} {out : List (Nat × Nat)} {wt : List Nat} (h : MR B n Tb b k0 T k out wt) (ht : tT B n k = 41) :
    (∀ r, (stl 1 out wt).2 = 20 :: r → ∃ T2, f_X7_takesSign E T = some (2, T2) ∧ MR B n Tb b k0 T2 k (stl 7 (stl 1 out wt).1 r).1 (stl 7 (stl 1 out wt).1 r).2) ∧
    ((∀ r, (stl 1 out wt).2 ≠ 20 :: r) → ∃ T2, f_X7_takesSign E T = some (0, T2) ∧ FL B n Tb b T2 k) := by
  have vt := vT_k B n k
  have nb : ¬ isB2 (tT B n k) := by unfold isB2; omega
  have e98 := (s_sign98 (E := E) h).2 nb
  obtain ⟨T2, e2, M2⟩ := s_setM (E := E) hN (L := 1) (by decide) (by decide) h
  have e : f_X7_takesSign E T = (bd_ (f_X7_top E T2) fun r6 => (if r6 = (20 : Int32) then lt_ (sI T2 1 0 14 ((gI T2 1 0 14) - (1 : Int32))) fun S7 => lt_ (sI S7 1 0 13 ((gI S7 1 0 13) - (1 : Int32))) fun S8 => bd_ (f_X7_settle E S8 (7 : Int32)) fun S9 => some ((2 : Int32), S9) else some ((0 : Int32), T2))) := by
    rw [e98]
    unfold f_X7_takesSign_b98
    rw [if_pos (by decide), h.2.1.2.1, if_pos (show tM (tT B n k) = (41 : Int32) from (tM_sign vt (by decide) (by decide)).mpr ht), show (1 : Int32) = nI 1 from rfl, bd_some e2]
  obtain ⟨p1, p2, p3, p4, ⟨p5, p6, p7⟩, ⟨p8, p9⟩, ⟨p10, p11, p12⟩, p13, p14⟩ := id M2
  have t1 := (s_top (E := E) M2).1
  rw [e, bd_some t1]
  refine ⟨fun r hr => ?_, fun hr => ?_⟩
  · rw [hr] at M2 p6 p7 p9 p10 p13 p14 ⊢
    have p10 : (stl 1 out wt).1.length + (r.length + 1) + k0 ≤ k := p10
    have eo : opc (20 :: r) = opc r + 1 := rfl
    have f6 : gI T2 1 0 14 - (1 : Int32) = nI r.length := by rw [p6]; exact q_m1 _
    have f7 : gI (sI T2 1 0 14 (nI r.length)) 1 0 13 - (1 : Int32) = nI (opc r) := by rw [gI_ne (by omega), p7, eo, q_m1]
    rw [show tpI (20 :: r) = nI 20 from rfl, if_pos (show nI 20 = (20 : Int32) from rfl), f6, lt_e, f7, lt_e]
    have F : Fm [(1, 14), (1, 15)] T2 (sI (sI T2 1 0 14 (nI r.length)) 1 0 13 (nI (opc r))) := (Fm.rf.sI rfl rfl).sI rfl rfl
    have M3 : MR B n Tb b k0 (sI (sI T2 1 0 14 (nI r.length)) 1 0 13 (nI (opc r))) k (stl 1 out wt).1 r := by
      obtain ⟨q1, q2, q3, q4, q5⟩ := p2
      refine ⟨p1.keep (F.ag rfl), ⟨(F.I rfl).trans q1, (F.I rfl).trans q2, fun a c => (F.I rfl).trans (q3 a c), fun a => (F.I rfl).trans (q4 a), fun a => (F.I rfl).trans (q5 a)⟩, p3.trans (F.mono rfl), fun j hj => ⟨(F.I rfl).trans (p4 j hj).1, (F.I rfl).trans (p4 j hj).2⟩, ⟨(F.I rfl).trans p5, ?_, gI_same _ _ _ _ _⟩, ⟨p8.keep (fun j hj => ⟨F.I rfl, F.I rfl⟩), p9.2.keep (fun j hj => F.I rfl)⟩, ⟨by omega, p11, p12⟩, fun y hy => p13 y (List.mem_cons_of_mem _ hy), by omega⟩
      rw [gI_ne (by omega), gI_same]
    obtain ⟨T4, e4, M4⟩ := s_setM (E := E) hN (L := 7) (by decide) (by decide) M3
    exact ⟨T4, by rw [show (7 : Int32) = nI 7 from rfl, bd_some e4], M4⟩
  · refine ⟨T2, ?_, M2.fl⟩
    rw [if_neg]
    cases hw : (stl 1 out wt).2 with
    | nil => decide
    | cons x r =>
      have hx := p13 x (by rw [hw]; exact List.mem_cons_self)
      show ¬ nI x = (20 : Int32)
      rw [q_eqR 20 (by decide) (by omega)]
      intro y
      exact hr r (by rw [hw, y])
theorem s_signN {T : ST} {k : Nat} {out : List (Nat × Nat)} {wt : List Nat} (h : MR B n Tb b k0 T k out wt) (ht : ¬ isB2 (tT B n k)) (h41 : tT B n k ≠ 41) : f_X7_takesSign E T = some (0, T) := by
  rw [(s_sign98 (E := E) h).2 ht]
  unfold f_X7_takesSign_b98
  rw [if_pos (by decide), h.2.1.2.1, if_neg (show ¬ tM (tT B n k) = (41 : Int32) from fun y => h41 ((tM_sign (vT_k B n k) (by decide) (by decide)).mp y))]
theorem b19_s (E : EN) (m : Nat) : f_X7_takesE_b19 E (m + 1) = g_X7_takesE_b19 E (f_X7_takesE_b19 E m) := rfl
/-! ## over a whole E -/
theorem r_one (hN : 300 ≤ E.1) {T : ST} {k : Nat} {out : List (Nat × Nat)} {wt : List Nat} {mn : Int32} (h : MR B n Tb b k0 T k out wt) (ht : 262 ≤ tT B n k) :
    ∃ T2, (∀ m, f_X7_takesE_b19 E (m + 1) T 1 mn = f_X7_takesE_b19 E m T2 0 0) ∧ MR B n Tb b k0 T2 (k + 1) (stl 7 (decT (tT B n k) :: out) wt).1 (stl 7 (decT (tT B n k) :: out) wt).2 := by
  have h0 : tT B n k ≠ 0 := by omega
  obtain ⟨T1, e1, M1⟩ := s_oneA (E := E) (mn := mn) hN h (h.lt h0) ht
  obtain ⟨T2, e2, M2⟩ := s_goOn (E := E) hN M1 h0
  refine ⟨T2, fun m => ?_, M2⟩
  rw [b19_s, it1 (vT_k B n k) h.2.1, bd2_some e1, if_neg (by decide), bd_some e2, if_neg (by decide), if_neg (by omega)]
theorem r_open (hN : 300 ≤ E.1) {T : ST} {k : Nat} {out : List (Nat × Nat)} {wt : List Nat} {mn : Int32} (h : MR B n Tb b k0 T k out wt) (ht : tT B n k = 45 ∨ tT B n k = 40 ∨ tT B n k = 261 ∧ mn ≠ 0) (ho : opc wt ≠ 5) :
    ∃ T2, (∀ m, f_X7_takesE_b19 E (m + 1) T 1 mn = f_X7_takesE_b19 E m T2 1 (if tT B n k = 261 ∨ tT B n k = 40 then 1 else 0)) ∧ MR B n Tb b k0 T2 (k + 1) out (opO (tT B n k) :: wt) := by
  have h0 : tT B n k ≠ 0 := by omega
  obtain ⟨T1, e1, M1⟩ := (s_oneB (E := E) (mn := mn) h (h.lt h0) ht).2 ho
  obtain ⟨T2, e2, M2⟩ := s_goOn (E := E) hN M1 h0
  refine ⟨T2, fun m => ?_, M2⟩
  rw [b19_s, it1 (vT_k B n k) h.2.1, bd2_some e1, if_neg (by decide), bd_some e2, if_pos rfl]
theorem r_bad {T : ST} {k : Nat} {out : List (Nat × Nat)} {wt : List Nat} {mn : Int32} (h : MR B n Tb b k0 T k out wt) (ht : (tT B n k = 45 ∨ tT B n k = 40 ∨ tT B n k = 261 ∧ mn ≠ 0) ∧ opc wt = 5 ∨ ¬ 262 ≤ tT B n k ∧ tT B n k ≠ 45 ∧ tT B n k ≠ 40 ∧ (tT B n k = 261 → mn = 0)) :
    ∀ m, f_X7_takesE_b19 E (m + 1) T 1 mn = some (0, T) := fun m => by
  have e1 : f_X7_takesOne E T mn = some (0, T) := by
    rcases ht with ⟨a, c⟩ | ⟨a, c, d, e⟩
    · exact (s_oneB (E := E) (mn := mn) h (h.lt (by omega)) a).1 c
    · exact s_oneC h a c d e
  rw [b19_s, it1 (vT_k B n k) h.2.1, bd2_some e1, if_pos rfl]
theorem r_sign (hN : 300 ≤ E.1) {T : ST} {k : Nat} {out : List (Nat × Nat)} {wt : List Nat} {mn : Int32} (h : MR B n Tb b k0 T k out wt) (ht : isB2 (tT B n k)) :
    ((tT B n k = 60 ∨ tT B n k = 61) ∧ tpS (stl (lvO (tT B n k)) out wt).2 = 4 → ∃ T2, (∀ m, f_X7_takesE_b19 E (m + 1) T 0 mn = some (0, T2)) ∧ FL B n Tb b T2 k) ∧
    (¬ ((tT B n k = 60 ∨ tT B n k = 61) ∧ tpS (stl (lvO (tT B n k)) out wt).2 = 4) → ∃ T2, (∀ m, f_X7_takesE_b19 E (m + 1) T 0 mn = f_X7_takesE_b19 E m T2 1 (if 256 ≤ tT B n k ∧ tT B n k < 268 then 1 else 0)) ∧ MR B n Tb b k0 T2 (k + 1) (stl (lvO (tT B n k)) out wt).1 (sgO (tT B n k) :: (stl (lvO (tT B n k)) out wt).2)) := by
  have h0 : ¬ (tT B n k = 59 ∨ tT B n k = 0 ∨ tT B n k = 2) := by
    unfold isB2 at ht
    omega
  obtain ⟨T1, M1, a1, a2⟩ := s_signA (E := E) hN h (h.lt (by omega)) ht
  refine ⟨fun c => ⟨T1, fun m => ?_, M1.fl⟩, fun c => ?_⟩
  · rw [b19_s, it0 (vT_k B n k) h.2.1 h0, bd2_some (a1 c), if_pos rfl]
  · obtain ⟨T3, e3, M3⟩ := a2 c
    obtain ⟨T2, e2, M2⟩ := s_goOn (E := E) hN M3 (by omega)
    refine ⟨T2, fun m => ?_, M2⟩
    rw [b19_s, it0 (vT_k B n k) h.2.1 h0, bd2_some e3, if_neg (by decide), bd_some e2, if_pos rfl]
theorem r_close (hN : 300 ≤ E.1) {T : ST} {k : Nat} {out : List (Nat × Nat)} {wt : List Nat} {mn : Int32} (h : MR B n Tb b k0 T k out wt) (ht : tT B n k = 41) :
    (∀ r, (stl 1 out wt).2 = 20 :: r → ∃ T2, (∀ m, f_X7_takesE_b19 E (m + 1) T 0 mn = f_X7_takesE_b19 E m T2 0 0) ∧ MR B n Tb b k0 T2 (k + 1) (stl 7 (stl 1 out wt).1 r).1 (stl 7 (stl 1 out wt).1 r).2) ∧
    ((∀ r, (stl 1 out wt).2 ≠ 20 :: r) → ∃ T2, (∀ m, f_X7_takesE_b19 E (m + 1) T 0 mn = some (0, T2)) ∧ FL B n Tb b T2 k) := by
  have h0 : ¬ (tT B n k = 59 ∨ tT B n k = 0 ∨ tT B n k = 2) := by omega
  obtain ⟨a1, a2⟩ := s_signP (E := E) hN h ht
  refine ⟨fun r hr => ?_, fun hr => ?_⟩
  · obtain ⟨T1, e1, M1⟩ := a1 r hr
    have hl : k < 160 := h.lt (by omega)
    have M1' : MRc B n Tb b k0 T1 k (k + 1) (stl 7 (stl 1 out wt).1 r).1 (stl 7 (stl 1 out wt).1 r).2 := by
      obtain ⟨p1, p2, p3, p4, p5, p8, ⟨p10, p11, p12⟩, p13, p14⟩ := M1
      exact ⟨p1, p2, p3, p4, p5, p8, ⟨by omega, by omega, p12⟩, p13, p14⟩
    obtain ⟨T2, e2, M2⟩ := s_goOn (E := E) hN M1' (by omega)
    refine ⟨T2, fun m => ?_, M2⟩
    rw [b19_s, it0 (vT_k B n k) h.2.1 h0, bd2_some e1, if_neg (by decide), bd_some e2, if_neg (by decide), if_neg (by omega)]
  · obtain ⟨T2, e2, M2⟩ := a2 hr
    exact ⟨T2, fun m => by rw [b19_s, it0 (vT_k B n k) h.2.1 h0, bd2_some e2, if_pos rfl], M2⟩
/-- a token that can't follow -/
theorem r_none {T : ST} {k : Nat} {out : List (Nat × Nat)} {wt : List Nat} {mn : Int32} (h : MR B n Tb b k0 T k out wt) (ht : ¬ isB2 (tT B n k)) (h41 : tT B n k ≠ 41) (h0 : ¬ (tT B n k = 59 ∨ tT B n k = 0 ∨ tT B n k = 2)) : ∀ m, f_X7_takesE_b19 E (m + 1) T 0 mn = some (0, T) := fun m => by
  rw [b19_s, it0 (vT_k B n k) h.2.1 h0, bd2_some (s_signN h ht h41), if_pos rfl]
/-- the end of an E -/
theorem r_end (hN : 300 ≤ E.1) {T : ST} {k : Nat} {out : List (Nat × Nat)} {wt : List Nat} {mn : Int32} (h : MR B n Tb b k0 T k out wt) (ht : tT B n k = 59 ∨ tT B n k = 0 ∨ tT B n k = 2) :
    ∃ T2, (∀ m, f_X7_takesE_b19 E (m + 1) T 0 mn = some (if (stl 1 out wt).2 = [] ∧ tT B n k = 59 then 1 else 0, T2)) ∧ MR B n Tb b k0 T2 k (stl 1 out wt).1 (stl 1 out wt).2 := by
  have vt := vT_k B n k
  obtain ⟨T2, e2, M2⟩ := s_setM (E := E) hN (L := 1) (by decide) (by decide) h
  refine ⟨T2, fun m => ?_, M2⟩
  have e48 : f_X7_takesE_b19 E (m + 1) T 0 mn = f_X7_takesE_b48 E T := by
    rw [b19_s]
    unfold g_X7_takesE_b19
    rw [if_pos rfl, h.2.1.2.1, if_neg (show ¬ tM (tT B n k) = (41 : Int32) from fun y => by have := (tM_sign vt (by decide) (by decide)).mp (show tM (tT B n k) = nI 41 from y); omega)]
    by_cases c : tT B n k = 59
    · rw [if_pos (show tM (tT B n k) = (59 : Int32) from (tM_sign vt (by decide) (by decide)).mpr c)]
    · rw [if_neg (show ¬ tM (tT B n k) = (59 : Int32) from fun y => c ((tM_sign vt (by decide) (by decide)).mp y)), if_neg (fun y => (tM_neg vt).mp y (by omega))]
  rw [e48]
  unfold f_X7_takesE_b48
  have p6 := M2.2.2.2.2.1.2.1
  have p10 := M2.2.2.2.2.2.2.1
  rw [show (1 : Int32) = nI 1 from rfl, bd_some e2, p6, M2.2.1.2.1]
  by_cases w : (stl 1 out wt).2 = []
  · rw [if_pos (show nI (stl 1 out wt).2.length = 0 by rw [w]; rfl)]
    by_cases c : tT B n k = 59
    · rw [if_pos (show tM (tT B n k) = (59 : Int32) from (tM_sign vt (by decide) (by decide)).mpr c), if_pos ⟨w, c⟩]
    · rw [if_neg (show ¬ tM (tT B n k) = (59 : Int32) from fun y => c ((tM_sign vt (by decide) (by decide)).mp y)), if_neg (fun y => c y.2)]
  · rw [if_neg (show ¬ nI (stl 1 out wt).2.length = (0 : Int32) by
      rw [q_eqR 0 (by decide) (by omega)]
      exact fun y => w (List.length_eq_zero_iff.mp y)), if_neg (fun y => w y.1)]
end STR
