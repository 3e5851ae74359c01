/-! PURE PART: the class' reader: where it stands, what it does -/
def CO (S : ST) (bc : Nat) : List (Nat × Nat) → Prop
  | [] => True
  | x :: r => gI S 9 0 (bc + r.length) = nI (enc x) ∧ CO S bc r
theorem CO.keep {S S1 : ST} {bc : Nat} : ∀ {l : List (Nat × Nat)}, (∀ j, j < bc + l.length → gI S1 9 0 j = gI S 9 0 j) → CO S bc l → CO S1 bc l
  | [], _, _ => True.intro
  | x :: r, h, q => ⟨(h (bc + r.length) (by show bc + r.length < bc + (r.length + 1); omega)).trans q.1, CO.keep (fun j hj => h j (by show j < bc + (r.length + 1); omega)) q.2⟩
def hL : List (Nat × Nat) → Nat
  | [] => 0
  | x :: r => hS x (hL r)
def okO : List (Nat × Nat) → Prop
  | [] => True
  | x :: r => okS x (hL r) ∧ okO r
def wCL : List (Nat × Nat) := [(8, 3), (8, 4), (8, 5), (8, 6), (8, 7), (8, 9), (9, 0)]
/-- the class at token k, c of them begun, out told -/
def CL (B : Nat → Nat) (n : Nat) (Sb : ST) (bc : Nat) (S : ST) (k : Nat) (out : List (Nat × Nat)) (c : Nat) : Prop :=
  BY B n S ∧ (gI S 8 0 2 = nI (tN B n k) ∧ gI S 8 0 3 = tC (tT B n k) ∧ gI S 8 0 4 = nI (tP B n k) ∧ gI S 8 0 5 = -1) ∧ gI S 8 0 6 = nI c ∧ (gI S 8 0 8 = nI (bc + out.length) ∧ bc + out.length ≤ 160) ∧ CO S bc out ∧ Fm wCL Sb S ∧ ∀ j, j < bc → gI S 9 0 j = gI Sb 9 0 j
/-- the class behind a fault -/
def DD (Sb : ST) (S : ST) (f : Nat) : Prop := gI S 8 0 5 = nI f ∧ gI S 8 0 3 = -1 ∧ f ≤ 160 ∧ (∃ l, l ≤ 160 ∧ gI S 8 0 8 = nI l) ∧ Fm wCL Sb S
theorem rdTerm_s (E : EN) (a b c d e f : ST → Option ST) (m : Nat) : f_X3_readTerm_b6 E a b c d e f (m + 1) = g_X3_readTerm_b6 E a b c d e f (f_X3_readTerm_b6 E a b c d e f m) := rfl
theorem rdSum_s (E : EN) (a b c d e f : ST → Option ST) (m : Nat) : f_X3_readSum_b6 E a b c d e f (m + 1) = g_X3_readSum_b6 E a b c d e f (f_X3_readSum_b6 E a b c d e f m) := rfl
theorem rdAnd_s (E : EN) (a b c d e f : ST → Option ST) (m : Nat) : f_X3_readAnd_b6 E a b c d e f (m + 1) = g_X3_readAnd_b6 E a b c d e f (f_X3_readAnd_b6 E a b c d e f m) := rfl
theorem rdOr_s (E : EN) (a b c d e f : ST → Option ST) (m : Nat) : f_X3_readOr_b6 E a b c d e f (m + 1) = g_X3_readOr_b6 E a b c d e f (f_X3_readOr_b6 E a b c d e f m) := rfl
section RDR
variable {E : EN} {B : Nat → Nat} {n : Nat} {Sb : ST} {bc : Nat}
theorem tC_eq {t w : Nat} (vt : vT t) (hw : w < 1000) (h2 : w ≠ 2) : tC t = nI w ↔ t = w := by
  unfold tC
  have ht : t < 11000 := by
    rcases vt with v | v | v | v | v
    · omega
    · omega
    · have := isG_8 v; omega
    · omega
    · omega
  by_cases z : t = 2
  · rw [if_pos z]
    refine ⟨fun e => ?_, fun e => by omega⟩
    have : ¬ nI w < 0 := q_n0 (by omega)
    rw [← e] at this
    exact absurd (show (-1 : Int32) < 0 by decide) this
  · rw [if_neg z, nI_eq (by omega) (by omega)]
theorem s_advC (hN : 300 ≤ E.1) {S : ST} {k : Nat} {out : List (Nat × Nat)} {c c' : Nat} (h : CL B n Sb bc S k out c) {S1 : ST} (e : S1 = sI S 8 0 6 (nI c')) : ∃ S2, f_X3_advance E S1 = some S2 ∧ CL B n Sb bc S2 (k + 1) out c' := by
  subst e
  obtain ⟨h1, ⟨h2, h3, h4, h5⟩, h6, ⟨h7, h8⟩, h9, h10, h11⟩ := h
  have F1 : Fm [(8, 7)] S (sI S 8 0 6 (nI c')) := Fm.rf.sI rfl rfl
  obtain ⟨S2, e2, F2, a1, a2, a3⟩ := s_adv (E := E) (S := sI S 8 0 6 (nI c')) hN (h1.keep (F1.ag rfl)) (tX_ok B n k).2.1 ((F1.I rfl).trans h2) ((F1.I rfl).trans h5)
  have F : Fm [(8, 3), (8, 4), (8, 5), (8, 7)] S S2 := (F1.mono rfl).trans (F2.mono rfl)
  exact ⟨S2, e2, h1.keep (F.ag rfl), ⟨a1, a2, a3, (F.I rfl).trans h5⟩, by rw [F2.I rfl, gI_same], ⟨(F.I rfl).trans h7, h8⟩, h9.keep (fun j hj => F.I rfl), h10.trans (F.mono rfl), fun j hj => (F.I rfl).trans (h11 j hj)⟩
theorem s_advS (hN : 300 ≤ E.1) {S : ST} {k : Nat} {out : List (Nat × Nat)} {c : Nat} (h : CL B n Sb bc S k out c) : ∃ S2, f_X3_advance E S = some S2 ∧ CL B n Sb bc S2 (k + 1) out c :=
  s_advC hN h (c' := c) (by rw [← h.2.2.1, sI_self])
theorem s_emitC {S : ST} {k : Nat} {out : List (Nat × Nat)} {c : Nat} (h : CL B n Sb bc S k out c) (hl : bc + out.length < 160) (x : Nat × Nat) {v : Int32} (hv : v = nI (enc x)) : ∃ S2, f_X3_emit E S v = some S2 ∧ CL B n Sb bc S2 k (x :: out) c := by
  obtain ⟨h1, ⟨h2, h3, h4, h5⟩, h6, ⟨h7, h8⟩, h9, h10, h11⟩ := h
  unfold f_X3_emit
  rw [h7, if_neg (by rw [q_leL 160 (by decide) (by omega)]; omega), ck_in (ib_nI hl (by decide)), q_cl (by omega), lt_e, show gI (sI S 9 0 (bc + out.length) v) 8 0 8 = nI (bc + out.length) by rw [gI_ne (by omega)]; exact h7, nI_1, lt_e]
  have F : Fm [(8, 9), (9, 0)] S (sI (sI S 9 0 (bc + out.length) v) 8 0 8 (nI (bc + out.length + 1))) := (Fm.rf.sI rfl rfl).sI rfl rfl
  refine ⟨_, rfl, h1.keep (F.ag rfl), ⟨(F.I rfl).trans h2, (F.I rfl).trans h3, (F.I rfl).trans h4, (F.I rfl).trans h5⟩, (F.I rfl).trans h6, ⟨?_, ?_⟩, ⟨?_, ?_⟩, h10.trans (F.mono rfl), fun j hj => ?_⟩
  · rw [gI_same]; rfl
  · show bc + (out.length + 1) ≤ 160
    omega
  · rw [gI_ne (by omega), gI_same, hv]
  · exact h9.keep fun j hj => by rw [gI_ne (by omega), gI_ne (by omega)]
  · rw [gI_ne (by omega), gI_ne (by omega)]
    exact h11 j hj
theorem s_refuseC {S : ST} {k : Nat} {out : List (Nat × Nat)} {c : Nat} (h : CL B n Sb bc S k out c) : ∃ S2, f_X3_refuse E S = some S2 ∧ DD Sb S2 (tP B n k) := by
  obtain ⟨h1, ⟨h2, h3, h4, h5⟩, h6, ⟨h7, h8⟩, h9, h10, h11⟩ := h
  unfold f_X3_refuse f_X3_refuse_b16
  rw [if_pos h5, h4, lt_e, lt_e]
  have hp := (tX_ok B n k).1
  have n160 := h1.1
  have F : Fm wCL S (sI (sI S 8 0 5 (nI (tP B n k))) 8 0 3 (-1 : Int32)) := (Fm.rf.sI rfl rfl).sI rfl rfl
  exact ⟨_, rfl, by rw [gI_ne (by omega), gI_same], gI_same _ _ _ _ _, by omega, ⟨bc + out.length, h8, by rw [gI_ne (by omega), gI_ne (by omega)]; exact h7⟩, h10.trans F⟩
theorem s_takeC (hN : 300 ≤ E.1) {S : ST} {k : Nat} {out : List (Nat × Nat)} {c w : Nat} (h : CL B n Sb bc S k out c) (hw : w < 1000) (h2 : w ≠ 2) :
    (tT B n k = w → ∃ S2, f_X3_take E S (nI w) = some S2 ∧ CL B n Sb bc S2 (k + 1) out c) ∧ (tT B n k ≠ w → ∃ S2, f_X3_take E S (nI w) = some S2 ∧ DD Sb S2 (tP B n k)) := by
  unfold f_X3_take
  rw [h.2.1.2.1]
  have e := tC_eq (vT_k B n k) hw h2
  refine ⟨fun z => ?_, fun z => ?_⟩
  · obtain ⟨S2, e2, C2⟩ := s_advS (E := E) hN h
    exact ⟨S2, by rw [if_pos (e.mpr z), bd_some e2], C2⟩
  · obtain ⟨S2, e2, C2⟩ := s_refuseC (E := E) h
    exact ⟨S2, by rw [if_neg (fun y => z (e.mp y)), bd_some e2], C2⟩
theorem s_opensC (hN : 300 ≤ E.1) {S : ST} {k : Nat} {out : List (Nat × Nat)} {c : Nat} (h : CL B n Sb bc S k out c) (hc : c ≤ 5) :
    (c ≠ 5 → ∃ S2, f_X3_opens E S = some (1, S2) ∧ CL B n Sb bc S2 (k + 1) out (c + 1)) ∧ (c = 5 → ∃ S2, f_X3_opens E S = some (0, S2) ∧ DD Sb S2 (tP B n k)) := by
  unfold f_X3_opens
  rw [h.2.2.1]
  refine ⟨fun z => ?_, fun z => ?_⟩
  · obtain ⟨S2, e2, C2⟩ := s_advC (E := E) hN h (c' := c + 1) rfl
    exact ⟨S2, by rw [if_pos (by rw [q_ltR 5 (by decide) (by omega)]; omega), nI_1, lt_e, bd_some e2], C2⟩
  · obtain ⟨S2, e2, C2⟩ := s_refuseC (E := E) h
    exact ⟨S2, by rw [if_neg (by rw [q_ltR 5 (by decide) (by omega)]; omega), bd_some e2], C2⟩
/-! ## behind a fault -/
theorem d_refuse {S : ST} {f : Nat} (h : DD Sb S f) : ∃ S2, f_X3_refuse E S = some S2 ∧ DD Sb S2 f := by
  obtain ⟨h1, h2, h3, ⟨l, h4, h5⟩, h6⟩ := h
  unfold f_X3_refuse f_X3_refuse_b16
  rw [h1, if_neg (show ¬ nI f = (-1 : Int32) from fun e => by
    have : ¬ nI f < 0 := q_n0 (by omega)
    rw [e] at this
    exact absurd (show (-1 : Int32) < 0 by decide) this), lt_e]
  exact ⟨_, rfl, by rw [gI_ne (by omega)]; exact h1, gI_same _ _ _ _ _, h3, ⟨l, h4, by rw [gI_ne (by omega)]; exact h5⟩, h6.sI rfl rfl⟩
theorem d_emit {S : ST} {f : Nat} (h : DD Sb S f) (v : Int32) : ∃ S2, f_X3_emit E S v = some S2 ∧ DD Sb S2 f := by
  obtain ⟨h1, h2, h3, ⟨l, h4, h5⟩, h6⟩ := id h
  unfold f_X3_emit
  rw [h5]
  by_cases z : 160 ≤ l
  · rw [if_pos (by rw [q_leL 160 (by decide) (by omega)]; exact z)]
    exact ⟨S, rfl, h⟩
  · rw [if_neg (by rw [q_leL 160 (by decide) (by omega)]; exact z), ck_in (ib_nI (by omega) (by decide)), q_cl (by omega), lt_e, show gI (sI S 9 0 l v) 8 0 8 = nI l by rw [gI_ne (by omega)]; exact h5, nI_1, lt_e]
    exact ⟨_, rfl, by rw [gI_ne (by omega), gI_ne (by omega)]; exact h1, by rw [gI_ne (by omega), gI_ne (by omega)]; exact h2, h3, ⟨l + 1, by omega, gI_same _ _ _ _ _⟩, (h6.sI rfl rfl).sI rfl rfl⟩
theorem DD.opn {S : ST} {f : Nat} (h : DD Sb S f) (v : Int32) : DD Sb (sI S 8 0 6 v) f := by
  obtain ⟨h1, h2, h3, ⟨l, h4, h5⟩, h6⟩ := h
  exact ⟨by rw [gI_ne (by omega)]; exact h1, by rw [gI_ne (by omega)]; exact h2, h3, ⟨l, h4, by rw [gI_ne (by omega)]; exact h5⟩, h6.sI rfl rfl⟩
theorem d_take {S : ST} {f w : Nat} (h : DD Sb S f) (hw : w < 1000) : ∃ S2, f_X3_take E S (nI w) = some S2 ∧ DD Sb S2 f := by
  obtain ⟨S2, e2, D2⟩ := d_refuse (E := E) h
  unfold f_X3_take
  rw [h.2.1, if_neg (show ¬ (-1 : Int32) = nI w from fun e => by
    have : ¬ nI w < 0 := q_n0 (by omega)
    rw [← e] at this
    exact absurd (show (-1 : Int32) < 0 by decide) this), bd_some e2]
  exact ⟨S2, rfl, D2⟩
theorem d_one {S : ST} {f d : Nat} (h : DD Sb S f) : ∃ S2, f_X3_readOne E (d + 1) S = some S2 ∧ DD Sb S2 f := by
  obtain ⟨S2, e2, D2⟩ := d_refuse (E := E) h
  rw [show f_X3_readOne E (d + 1) = b_X3_readOne E (f_X3_readOr E d) (f_X3_readAnd E d) (f_X3_readNot E d) (f_X3_readSum E d) (f_X3_readTerm E d) (f_X3_readOne E d) from rfl]
  unfold b_X3_readOne
  rw [h.2.1, if_pos (by decide), if_neg (by decide), if_neg (by decide), bd_some e2]
  exact ⟨S2, rfl, D2⟩
theorem d_term (hN : 300 ≤ E.1) {S : ST} {f d : Nat} (h : DD Sb S f) : ∃ S2, f_X3_readTerm E (d + 2) S = some S2 ∧ DD Sb S2 f := by
  obtain ⟨S2, e2, D2⟩ := d_one (E := E) (d := d) h
  obtain ⟨m, hm⟩ : ∃ m, E.1 = m + 1 := ⟨E.1 - 1, by omega⟩
  rw [show f_X3_readTerm E (d + 2) = b_X3_readTerm E (f_X3_readOr E (d + 1)) (f_X3_readAnd E (d + 1)) (f_X3_readNot E (d + 1)) (f_X3_readSum E (d + 1)) (f_X3_readTerm E (d + 1)) (f_X3_readOne E (d + 1)) from rfl]
  unfold b_X3_readTerm
  rw [bd_some e2, hm]
  refine ⟨S2, ?_, D2⟩
  rw [rdTerm_s]
  unfold g_X3_readTerm_b6
  rw [if_neg (by decide), D2.2.1, if_neg (by decide)]
theorem d_sum (hN : 300 ≤ E.1) {S : ST} {f d : Nat} (h : DD Sb S f) : ∃ S2, f_X3_readSum E (d + 3) S = some S2 ∧ DD Sb S2 f := by
  obtain ⟨S2, e2, D2⟩ := d_term (E := E) (d := d) hN h
  obtain ⟨m, hm⟩ : ∃ m, E.1 = m + 1 := ⟨E.1 - 1, by omega⟩
  rw [show f_X3_readSum E (d + 3) = b_X3_readSum E (f_X3_readOr E (d + 2)) (f_X3_readAnd E (d + 2)) (f_X3_readNot E (d + 2)) (f_X3_readSum E (d + 2)) (f_X3_readTerm E (d + 2)) (f_X3_readOne E (d + 2)) from rfl]
  unfold b_X3_readSum
  rw [bd_some e2, hm]
  refine ⟨S2, ?_, D2⟩
  rw [rdSum_s]
  unfold g_X3_readSum_b6
  rw [if_neg (by decide), D2.2.1, if_neg (by decide), if_neg (by decide)]
theorem d_not (hN : 300 ≤ E.1) {S : ST} {f d : Nat} (h : DD Sb S f) : ∃ S2, f_X3_readNot E (d + 4) S = some S2 ∧ DD Sb S2 f := by
  obtain ⟨S2, e2, D2⟩ := d_sum (E := E) (d := d) hN h
  rw [show f_X3_readNot E (d + 4) = b_X3_readNot E (f_X3_readOr E (d + 3)) (f_X3_readAnd E (d + 3)) (f_X3_readNot E (d + 3)) (f_X3_readSum E (d + 3)) (f_X3_readTerm E (d + 3)) (f_X3_readOne E (d + 3)) from rfl]
  unfold b_X3_readNot
  rw [h.2.1, if_neg (by decide), bd_some e2, D2.2.1, if_neg (by decide), if_neg (by decide)]
  exact ⟨S2, rfl, D2⟩
theorem d_and (hN : 300 ≤ E.1) {S : ST} {f d : Nat} (h : DD Sb S f) : ∃ S2, f_X3_readAnd E (d + 5) S = some S2 ∧ DD Sb S2 f := by
  obtain ⟨S2, e2, D2⟩ := d_not (E := E) (d := d) hN h
  obtain ⟨m, hm⟩ : ∃ m, E.1 = m + 1 := ⟨E.1 - 1, by omega⟩
  rw [show f_X3_readAnd E (d + 5) = b_X3_readAnd E (f_X3_readOr E (d + 4)) (f_X3_readAnd E (d + 4)) (f_X3_readNot E (d + 4)) (f_X3_readSum E (d + 4)) (f_X3_readTerm E (d + 4)) (f_X3_readOne E (d + 4)) from rfl]
  unfold b_X3_readAnd
  rw [bd_some e2, hm]
  refine ⟨S2, ?_, D2⟩
  rw [rdAnd_s]
  unfold g_X3_readAnd_b6
  rw [if_neg (by decide), D2.2.1, if_neg (by decide)]
theorem d_or (hN : 300 ≤ E.1) {S : ST} {f d : Nat} (h : DD Sb S f) : ∃ S2, f_X3_readOr E (d + 6) S = some S2 ∧ DD Sb S2 f := by
  obtain ⟨S2, e2, D2⟩ := d_and (E := E) (d := d) hN h
  obtain ⟨m, hm⟩ : ∃ m, E.1 = m + 1 := ⟨E.1 - 1, by omega⟩
  rw [show f_X3_readOr E (d + 6) = b_X3_readOr E (f_X3_readOr E (d + 5)) (f_X3_readAnd E (d + 5)) (f_X3_readNot E (d + 5)) (f_X3_readSum E (d + 5)) (f_X3_readTerm E (d + 5)) (f_X3_readOne E (d + 5)) from rfl]
  unfold b_X3_readOr
  rw [bd_some e2, hm]
  refine ⟨S2, ?_, D2⟩
  rw [rdOr_s]
  unfold g_X3_readOr_b6
  rw [if_neg (by decide), D2.2.1, if_neg (by decide)]
end RDR
