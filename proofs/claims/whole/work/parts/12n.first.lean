/-! PURE PART: the first rule, as the class reads it -/
section FST
variable {E : EN} {B : Nat → Nat} {n : Nat} {Sb : ST} {bc : Nat}
/-- a part of a text, read without a fault -/
def PR (B : Nat → Nat) (n : Nat) (Sb : ST) (bc c : Nat) (f : ST → Option ST) (k : Nat) (out : List (Nat × Nat)) (k2 : Nat) (out2 : List (Nat × Nat)) : Prop := ∀ S, CL B n Sb bc S k out c → ∃ S2, f S = some S2 ∧ CL B n Sb bc S2 k2 out2 c
theorem p_tok (hN : 300 ≤ E.1) {c k d : Nat} {out : List (Nat × Nat)} (ht : 262 ≤ tT B n k) (hl : bc + out.length < 160) : PR B n Sb bc c (f_X3_readOne E (d + 1)) k out (k + 1) (decT (tT B n k) :: out) := fun S C => by
  obtain ⟨S1, e1, C1⟩ := s_emitC (E := E) C hl (decT (tT B n k)) (v := tC (tT B n k)) (by rw [enc_dec ht]; unfold tC; rw [if_neg (by omega)])
  obtain ⟨S2, e2, C2⟩ := s_advS (E := E) hN C1
  refine ⟨S2, ?_, C2⟩
  rw [one_s]
  unfold b_X3_readOne
  rw [C.2.1.2.1, if_neg (fun y => ((tC_262 (vT_k B n k)).mp y) ht), bd_some e1, bd_some e2]
theorem p_par (hN : 300 ≤ E.1) {c k k1 d : Nat} {out out1 : List (Nat × Nat)} (ht : tT B n k = 40) (hc : c < 5) (h : PR B n Sb bc (c + 1) (f_X3_readOr E d) (k + 1) out k1 out1) (ht1 : tT B n k1 = 41) : PR B n Sb bc c (f_X3_readOne E (d + 1)) k out (k1 + 1) out1 := fun S C => by
  obtain ⟨S1, e1, C1⟩ := (s_opensC (E := E) hN C (by omega)).1 (by omega)
  obtain ⟨S2, e2, C2⟩ := h S1 C1
  obtain ⟨S3, e3, C3⟩ := (s_takeC (E := E) hN C2 (w := 41) (by decide) (by decide)).1 ht1
  have e3 : f_X3_take E S2 (41 : Int32) = some S3 := e3
  refine ⟨sI S3 8 0 6 (gI S3 8 0 6 - 1), ?_, C3.opn (by rw [C3.2.2.1, nI_pred])⟩
  rw [one_s]
  unfold b_X3_readOne
  rw [C.2.1.2.1, ht, if_pos (show tC 40 < (262 : Int32) by decide), if_neg (show ¬ tC 40 = (45 : Int32) by decide), if_pos (show tC 40 = (40 : Int32) by decide), bd2_some e1, if_neg (show ¬ (1 : Int32) = 0 by decide), bd_some e2, bd_some e3, lt_e]
def lpT (E : EN) (d m i : Nat) : ST → Option ST := fun S => f_X3_readTerm_b6 E (f_X3_readOr E d) (f_X3_readAnd E d) (f_X3_readNot E d) (f_X3_readSum E d) (f_X3_readTerm E d) (f_X3_readOne E d) m S (nI i)
def lpS (E : EN) (d m i : Nat) : ST → Option ST := fun S => f_X3_readSum_b6 E (f_X3_readOr E d) (f_X3_readAnd E d) (f_X3_readNot E d) (f_X3_readSum E d) (f_X3_readTerm E d) (f_X3_readOne E d) m S (nI i)
theorem p_tl0 {c k d m i : Nat} {out : List (Nat × Nat)} (h : tT B n k ≠ 42) (hi : i < 160) (hm : 1 ≤ m) : PR B n Sb bc c (lpT E d m i) k out k out := fun S C => by
  obtain ⟨m, rfl⟩ : ∃ u, m = u + 1 := ⟨m - 1, by omega⟩
  refine ⟨S, ?_, C⟩
  unfold lpT
  rw [rdTerm_s]
  unfold g_X3_readTerm_b6
  rw [if_neg (q_160 hi), C.2.1.2.1, if_neg (show ¬ tC (tT B n k) = (42 : Int32) from fun y => h ((tC_eq (vT_k B n k) (w := 42) (by decide) (by decide)).mp y))]
theorem p_tl1 (hN : 300 ≤ E.1) {c k k1 k2 d m i : Nat} {out out1 out2 : List (Nat × Nat)} (ht : tT B n k = 42) (hi : i < 160) (hm : 1 ≤ m) (h1 : PR B n Sb bc c (f_X3_readOne E d) (k + 1) out k1 out1) (hl : bc + out1.length < 160) (h2 : PR B n Sb bc c (lpT E d (m - 1) (i + 1)) k1 ((9, 0) :: out1) k2 out2) : PR B n Sb bc c (lpT E d m i) k out k2 out2 := fun S C => by
  obtain ⟨m, rfl⟩ : ∃ u, m = u + 1 := ⟨m - 1, by omega⟩
  obtain ⟨S1, e1, C1⟩ := s_advS (E := E) hN C
  obtain ⟨S2, e2, C2⟩ := h1 S1 C1
  obtain ⟨S3, e3, C3⟩ := s_emitC (E := E) C2 hl (9, 0) (v := 42) (by decide)
  obtain ⟨S4, e4, C4⟩ := h2 S3 C3
  refine ⟨S4, ?_, C4⟩
  unfold lpT
  rw [rdTerm_s]
  unfold g_X3_readTerm_b6
  rw [if_neg (q_160 hi), C.2.1.2.1, ht, if_pos (show tC 42 = (42 : Int32) by decide), bd_some e1, bd_some e2, bd_some e3, lt_e, nI_1]
  exact e4
theorem p_term {c k k1 k2 d : Nat} {out out1 out2 : List (Nat × Nat)} (h1 : PR B n Sb bc c (f_X3_readOne E d) k out k1 out1) (h2 : PR B n Sb bc c (lpT E d E.1 0) k1 out1 k2 out2) : PR B n Sb bc c (f_X3_readTerm E (d + 1)) k out k2 out2 := fun S C => by
  obtain ⟨S1, e1, C1⟩ := h1 S C
  obtain ⟨S2, e2, C2⟩ := h2 S1 C1
  refine ⟨S2, ?_, C2⟩
  rw [term_s]
  unfold b_X3_readTerm
  rw [bd_some e1]
  exact e2
theorem p_sl0 {c k d m i : Nat} {out : List (Nat × Nat)} (h : tT B n k ≠ 43) (h2 : tT B n k ≠ 45) (hi : i < 160) (hm : 1 ≤ m) : PR B n Sb bc c (lpS E d m i) k out k out := fun S C => by
  obtain ⟨m, rfl⟩ : ∃ u, m = u + 1 := ⟨m - 1, by omega⟩
  refine ⟨S, ?_, C⟩
  unfold lpS
  rw [rdSum_s]
  unfold g_X3_readSum_b6
  rw [if_neg (q_160 hi), C.2.1.2.1, if_neg (show ¬ tC (tT B n k) = (43 : Int32) from fun y => h ((tC_eq (vT_k B n k) (w := 43) (by decide) (by decide)).mp y)), if_neg (show ¬ tC (tT B n k) = (45 : Int32) from fun y => h2 ((tC_eq (vT_k B n k) (w := 45) (by decide) (by decide)).mp y))]
theorem p_sl1 (hN : 300 ≤ E.1) {c k k1 k2 d m i t : Nat} {x : Nat × Nat} {out out1 out2 : List (Nat × Nat)} (ht : tT B n k = t) (hx : t = 43 ∧ x = (7, 0) ∨ t = 45 ∧ x = (8, 0)) (hi : i < 160) (hm : 1 ≤ m) (h1 : PR B n Sb bc c (f_X3_readTerm E d) (k + 1) out k1 out1) (hl : bc + out1.length < 160) (h2 : PR B n Sb bc c (lpS E d (m - 1) (i + 1)) k1 (x :: out1) k2 out2) : PR B n Sb bc c (lpS E d m i) k out k2 out2 := fun S C => by
  obtain ⟨m, rfl⟩ : ∃ u, m = u + 1 := ⟨m - 1, by omega⟩
  obtain ⟨S1, e1, C1⟩ := s_advS (E := E) hN C
  obtain ⟨S2, e2, C2⟩ := h1 S1 C1
  obtain ⟨S3, e3, C3⟩ := s_emitC (E := E) C2 hl x (v := tC t) (by rcases hx with ⟨rfl, rfl⟩ | ⟨rfl, rfl⟩ <;> decide)
  obtain ⟨S4, e4, C4⟩ := h2 S3 C3
  refine ⟨S4, ?_, C4⟩
  unfold lpS
  rw [rdSum_s]
  have e5 : f_X3_readSum_b31 E (f_X3_readOr E d) (f_X3_readAnd E d) (f_X3_readNot E d) (f_X3_readSum E d) (f_X3_readTerm E d) (f_X3_readOne E d) (f_X3_readSum_b6 E (f_X3_readOr E d) (f_X3_readAnd E d) (f_X3_readNot E d) (f_X3_readSum E d) (f_X3_readTerm E d) (f_X3_readOne E d) m) S (nI i) = some S4 := by
    unfold f_X3_readSum_b31
    rw [lt_e, C.2.1.2.1, ht, bd_some e1, bd_some e2, bd_some e3, lt_e, nI_1]
    exact e4
  unfold g_X3_readSum_b6
  rw [if_neg (q_160 hi), C.2.1.2.1, ht]
  rcases hx with ⟨rfl, rfl⟩ | ⟨rfl, rfl⟩
  · rw [if_pos (show tC 43 = (43 : Int32) by decide)]
    exact e5
  · rw [if_neg (show ¬ tC 45 = (43 : Int32) by decide), if_pos (show tC 45 = (45 : Int32) by decide)]
    exact e5
theorem p_sum {c k k1 k2 d : Nat} {out out1 out2 : List (Nat × Nat)} (h1 : PR B n Sb bc c (f_X3_readTerm E d) k out k1 out1) (h2 : PR B n Sb bc c (lpS E d E.1 0) k1 out1 k2 out2) : PR B n Sb bc c (f_X3_readSum E (d + 1)) k out k2 out2 := fun S C => by
  obtain ⟨S1, e1, C1⟩ := h1 S C
  obtain ⟨S2, e2, C2⟩ := h2 S1 C1
  refine ⟨S2, ?_, C2⟩
  rw [sum_s]
  unfold b_X3_readSum
  rw [bd_some e1]
  exact e2
/-- a sum alone is an E -/
theorem p_up (hN : 300 ≤ E.1) {c k k2 d : Nat} {out out2 : List (Nat × Nat)} (h : PR B n Sb bc c (f_X3_readSum E d) k out k2 out2) (a0 : tT B n k ≠ 261) (a1 : tT B n k2 ≠ 60) (a2 : tT B n k2 ≠ 61) (a3 : tT B n k2 ≠ 260) (a4 : tT B n k2 ≠ 259) : PR B n Sb bc c (f_X3_readOr E (d + 3)) k out k2 out2 := fun S C => by
  obtain ⟨S2, e2, C2⟩ := h S C
  obtain ⟨m, hm⟩ : ∃ m, E.1 = m + 1 := ⟨E.1 - 1, by omega⟩
  have t0 := fun w (h1 : w < 1000) (h2 : w ≠ 2) => (tC_eq (vT_k B n k) (w := w) h1 h2)
  have t2 := fun w (h1 : w < 1000) (h2 : w ≠ 2) => (tC_eq (vT_k B n k2) (w := w) h1 h2)
  have eN : f_X3_readNot E (d + 1) S = some S2 := by
    rw [not_s]
    unfold b_X3_readNot
    rw [C.2.1.2.1, if_neg (show ¬ tC (tT B n k) = (261 : Int32) from fun y => a0 ((t0 261 (by decide) (by decide)).mp y)), bd_some e2, C2.2.1.2.1, if_neg (show ¬ tC (tT B n k2) = (60 : Int32) from fun y => a1 ((t2 60 (by decide) (by decide)).mp y)), if_neg (show ¬ tC (tT B n k2) = (61 : Int32) from fun y => a2 ((t2 61 (by decide) (by decide)).mp y))]
  have eA : f_X3_readAnd E (d + 2) S = some S2 := by
    rw [and_s]
    unfold b_X3_readAnd
    rw [bd_some eN, hm, rdAnd_s]
    unfold g_X3_readAnd_b6
    rw [if_neg (by decide), C2.2.1.2.1, if_neg (show ¬ tC (tT B n k2) = (260 : Int32) from fun y => a3 ((t2 260 (by decide) (by decide)).mp y))]
  refine ⟨S2, ?_, C2⟩
  rw [or_s]
  unfold b_X3_readOr
  rw [bd_some eA, hm, rdOr_s]
  unfold g_X3_readOr_b6
  rw [if_neg (by decide), C2.2.1.2.1, if_neg (show ¬ tC (tT B n k2) = (259 : Int32) from fun y => a4 ((t2 259 (by decide) (by decide)).mp y))]
end FST
def frL : List Nat := [108, 101, 97, 114, 110, 32, 53, 32, 45, 32, 40, 32, 99, 108, 97, 115, 115, 32, 45, 32, 115, 116, 101, 112, 32, 41, 32, 42, 32, 40, 32, 99, 108, 97, 115, 115, 32, 45, 32, 115, 116, 101, 112, 32, 41, 32, 42, 32, 50, 32, 59, 32, 114, 105, 103, 104, 116, 32, 56, 32, 45, 32, 99, 108, 97, 115, 115, 32, 42, 32, 50, 32, 43, 32, 115, 116, 101, 112, 32, 42, 32, 50, 32, 59, 32, 101, 110, 100, 32, 115, 116, 101, 112, 32, 42, 32, 49, 48, 32, 59]
def frB (j : Nat) : Nat := frL.getD j 0
def frT : List Nat := [256, 1005, 45, 40, 263, 45, 262, 41, 42, 40, 263, 45, 262, 41, 42, 1002, 59, 257, 1008, 45, 263, 42, 1002, 43, 262, 42, 1002, 59, 258, 262, 42, 1010, 59, 0]
theorem fr_tok : ∀ k, k < 34 → tT frB 100 k = frT.getD k 0 := by decide +kernel
theorem fr_len : ∀ j, j < 100 → frB j < 128 := by decide +kernel
/-- the signs of the first rule, the last first -/
def fr0 : List (Nat × Nat) := [(8, 0), (9, 0), (0, 2), (9, 0), (8, 0), (1, 0), (1, 1), (8, 0), (1, 0), (1, 1), (0, 5)]
def fr1 : List (Nat × Nat) := [(7, 0), (9, 0), (0, 2), (1, 0), (8, 0), (9, 0), (0, 2), (1, 1), (0, 8)]
def fr2 : List (Nat × Nat) := [(9, 0), (0, 10), (1, 0)]
section FS2
variable {E : EN} {Sb : ST} {bc : Nat}
theorem p_t (hN : 300 ≤ E.1) {c k d t : Nat} {out : List (Nat × Nat)} (e : tT frB 100 k = t) (ht : 262 ≤ t) (hl : bc + out.length < 160) : PR frB 100 Sb bc c (f_X3_readOne E (d + 1)) k out (k + 1) (decT t :: out) := by
  subst e
  exact p_tok hN ht hl
/-- ( class - step ) -/
theorem p_cs (hN : 300 ≤ E.1) {c k d : Nat} {out : List (Nat × Nat)} (hc : c < 5) (hl : bc + out.length + 3 < 160) (e0 : tT frB 100 k = 40) (e1 : tT frB 100 (k + 1) = 263) (e2 : tT frB 100 (k + 1 + 1) = 45) (e3 : tT frB 100 (k + 1 + 1 + 1) = 262) (e4 : tT frB 100 (k + 1 + 1 + 1 + 1) = 41) : PR frB 100 Sb bc c (f_X3_readOne E (d + 7)) k out (k + 1 + 1 + 1 + 1 + 1) ((8, 0) :: (1, 0) :: (1, 1) :: out) := by
  have s1 : PR frB 100 Sb bc (c + 1) (f_X3_readTerm E (d + 2)) (k + 1) out (k + 1 + 1) ((1, 1) :: out) := p_term (p_t hN e1 (by decide) (by omega)) (p_tl0 (by rw [e2]; decide) (by decide) (by omega))
  have s2 : PR frB 100 Sb bc (c + 1) (f_X3_readTerm E (d + 2)) (k + 1 + 1 + 1) ((1, 1) :: out) (k + 1 + 1 + 1 + 1) ((1, 0) :: (1, 1) :: out) := p_term (p_t hN e3 (by decide) (by show bc + (out.length + 1) < 160; omega)) (p_tl0 (by rw [e4]; decide) (by decide) (by omega))
  have s3 : PR frB 100 Sb bc (c + 1) (f_X3_readSum E (d + 3)) (k + 1) out (k + 1 + 1 + 1 + 1) ((8, 0) :: (1, 0) :: (1, 1) :: out) := p_sum s1 (p_sl1 hN e2 (Or.inr ⟨rfl, rfl⟩) (by decide) (by omega) s2 (by show bc + (out.length + 1 + 1) < 160; omega) (p_sl0 (by rw [e4]; decide) (by rw [e4]; decide) (by decide) (by omega)))
  exact p_par hN e0 hc (p_up hN s3 (by rw [e1]; decide) (by rw [e4]; decide) (by rw [e4]; decide) (by rw [e4]; decide) (by rw [e4]; decide)) e4
set_option maxRecDepth 100000 in
theorem p_e0 (hN : 300 ≤ E.1) {d : Nat} (hb : bc + 20 < 160) : PR frB 100 Sb bc 0 (f_X3_readOr E (d + 12)) 1 [] 16 fr0 := by
  have t := fr_tok
  have a1 : PR frB 100 Sb bc 0 (f_X3_readTerm E (d + 8)) 1 [] 2 [(0, 5)] := p_term (p_t hN (t 1 (by decide)) (by decide) (by show bc + 0 < 160; omega)) (p_tl0 (by rw [t 2 (by decide)]; decide) (by decide) (by omega))
  have a2 : PR frB 100 Sb bc 0 (f_X3_readOne E (d + 7)) 3 [(0, 5)] 8 [(8, 0), (1, 0), (1, 1), (0, 5)] := p_cs hN (by decide) (by show bc + 1 + 3 < 160; omega) (t 3 (by decide)) (t 4 (by decide)) (t 5 (by decide)) (t 6 (by decide)) (t 7 (by decide))
  have a3 : PR frB 100 Sb bc 0 (f_X3_readOne E (d + 7)) 9 [(8, 0), (1, 0), (1, 1), (0, 5)] 14 [(8, 0), (1, 0), (1, 1), (8, 0), (1, 0), (1, 1), (0, 5)] := p_cs hN (by decide) (by show bc + 4 + 3 < 160; omega) (t 9 (by decide)) (t 10 (by decide)) (t 11 (by decide)) (t 12 (by decide)) (t 13 (by decide))
  have a4 : PR frB 100 Sb bc 0 (f_X3_readOne E (d + 7)) 15 [(9, 0), (8, 0), (1, 0), (1, 1), (8, 0), (1, 0), (1, 1), (0, 5)] 16 [(0, 2), (9, 0), (8, 0), (1, 0), (1, 1), (8, 0), (1, 0), (1, 1), (0, 5)] := p_t (d := d + 6) hN (t 15 (by decide)) (by decide) (by show bc + 8 < 160; omega)
  have a5 : PR frB 100 Sb bc 0 (f_X3_readTerm E (d + 8)) 3 [(0, 5)] 16 [(9, 0), (0, 2), (9, 0), (8, 0), (1, 0), (1, 1), (8, 0), (1, 0), (1, 1), (0, 5)] := p_term a2 (p_tl1 hN (t 8 (by decide)) (by decide) (by omega) a3 (by show bc + 7 < 160; omega) (p_tl1 hN (t 14 (by decide)) (by decide) (by omega) a4 (by show bc + 9 < 160; omega) (p_tl0 (by rw [t 16 (by decide)]; decide) (by decide) (by omega))))
  have a6 : PR frB 100 Sb bc 0 (f_X3_readSum E (d + 9)) 1 [] 16 fr0 := p_sum a1 (p_sl1 hN (t 2 (by decide)) (Or.inr ⟨rfl, rfl⟩) (by decide) (by omega) a5 (by show bc + 10 < 160; omega) (p_sl0 (by rw [t 16 (by decide)]; decide) (by rw [t 16 (by decide)]; decide) (by decide) (by omega)))
  exact p_up hN a6 (by rw [t 1 (by decide)]; decide) (by rw [t 16 (by decide)]; decide) (by rw [t 16 (by decide)]; decide) (by rw [t 16 (by decide)]; decide) (by rw [t 16 (by decide)]; decide)
set_option maxRecDepth 100000 in
theorem p_e1 (hN : 300 ≤ E.1) {d : Nat} (hb : bc + 20 < 160) : PR frB 100 Sb bc 0 (f_X3_readOr E (d + 6)) 18 [] 27 fr1 := by
  have t := fr_tok
  have a1 : PR frB 100 Sb bc 0 (f_X3_readTerm E (d + 2)) 18 [] 19 [(0, 8)] := p_term (p_t hN (t 18 (by decide)) (by decide) (by show bc + 0 < 160; omega)) (p_tl0 (by rw [t 19 (by decide)]; decide) (by decide) (by omega))
  have b2 : PR frB 100 Sb bc 0 (f_X3_readOne E (d + 1)) 20 [(0, 8)] 21 [(1, 1), (0, 8)] := p_t hN (t 20 (by decide)) (by decide) (by show bc + 1 < 160; omega)
  have b3 : PR frB 100 Sb bc 0 (f_X3_readOne E (d + 1)) 22 [(1, 1), (0, 8)] 23 [(0, 2), (1, 1), (0, 8)] := p_t hN (t 22 (by decide)) (by decide) (by show bc + 2 < 160; omega)
  have a2 : PR frB 100 Sb bc 0 (f_X3_readTerm E (d + 2)) 20 [(0, 8)] 23 [(9, 0), (0, 2), (1, 1), (0, 8)] := p_term b2 (p_tl1 hN (t 21 (by decide)) (by decide) (by omega) b3 (by show bc + 3 < 160; omega) (p_tl0 (by rw [t 23 (by decide)]; decide) (by decide) (by omega)))
  have b4 : PR frB 100 Sb bc 0 (f_X3_readOne E (d + 1)) 24 [(8, 0), (9, 0), (0, 2), (1, 1), (0, 8)] 25 [(1, 0), (8, 0), (9, 0), (0, 2), (1, 1), (0, 8)] := p_t hN (t 24 (by decide)) (by decide) (by show bc + 5 < 160; omega)
  have b5 : PR frB 100 Sb bc 0 (f_X3_readOne E (d + 1)) 26 [(1, 0), (8, 0), (9, 0), (0, 2), (1, 1), (0, 8)] 27 [(0, 2), (1, 0), (8, 0), (9, 0), (0, 2), (1, 1), (0, 8)] := p_t hN (t 26 (by decide)) (by decide) (by show bc + 6 < 160; omega)
  have a3 : PR frB 100 Sb bc 0 (f_X3_readTerm E (d + 2)) 24 [(8, 0), (9, 0), (0, 2), (1, 1), (0, 8)] 27 [(9, 0), (0, 2), (1, 0), (8, 0), (9, 0), (0, 2), (1, 1), (0, 8)] := p_term b4 (p_tl1 hN (t 25 (by decide)) (by decide) (by omega) b5 (by show bc + 7 < 160; omega) (p_tl0 (by rw [t 27 (by decide)]; decide) (by decide) (by omega)))
  have a6 : PR frB 100 Sb bc 0 (f_X3_readSum E (d + 3)) 18 [] 27 fr1 := p_sum a1 (p_sl1 hN (t 19 (by decide)) (Or.inr ⟨rfl, rfl⟩) (by decide) (by omega) a2 (by show bc + 4 < 160; omega) (p_sl1 hN (t 23 (by decide)) (Or.inl ⟨rfl, rfl⟩) (by decide) (by omega) a3 (by show bc + 8 < 160; omega) (p_sl0 (by rw [t 27 (by decide)]; decide) (by rw [t 27 (by decide)]; decide) (by decide) (by omega))))
  exact p_up hN a6 (by rw [t 18 (by decide)]; decide) (by rw [t 27 (by decide)]; decide) (by rw [t 27 (by decide)]; decide) (by rw [t 27 (by decide)]; decide) (by rw [t 27 (by decide)]; decide)
set_option maxRecDepth 100000 in
theorem p_e2 (hN : 300 ≤ E.1) {d : Nat} (hb : bc + 20 < 160) : PR frB 100 Sb bc 0 (f_X3_readOr E (d + 6)) 29 [] 32 fr2 := by
  have t := fr_tok
  have b1 : PR frB 100 Sb bc 0 (f_X3_readOne E (d + 1)) 29 [] 30 [(1, 0)] := p_t hN (t 29 (by decide)) (by decide) (by show bc + 0 < 160; omega)
  have b2 : PR frB 100 Sb bc 0 (f_X3_readOne E (d + 1)) 31 [(1, 0)] 32 [(0, 10), (1, 0)] := p_t hN (t 31 (by decide)) (by decide) (by show bc + 1 < 160; omega)
  have a1 : PR frB 100 Sb bc 0 (f_X3_readTerm E (d + 2)) 29 [] 32 fr2 := p_term b1 (p_tl1 hN (t 30 (by decide)) (by decide) (by omega) b2 (by show bc + 2 < 160; omega) (p_tl0 (by rw [t 32 (by decide)]; decide) (by decide) (by omega)))
  have a6 : PR frB 100 Sb bc 0 (f_X3_readSum E (d + 3)) 29 [] 32 fr2 := p_sum a1 (p_sl0 (by rw [t 32 (by decide)]; decide) (by rw [t 32 (by decide)]; decide) (by decide) (by omega))
  exact p_up hN a6 (by rw [t 29 (by decide)]; decide) (by rw [t 32 (by decide)]; decide) (by rw [t 32 (by decide)]; decide) (by rw [t 32 (by decide)]; decide) (by rw [t 32 (by decide)]; decide)
end FS2
/-- a part of the first rule -/
theorem s_fpart {E : EN} (hN : 3000 ≤ E.1) {S : ST} {bc k k2 i m : Nat} {out : List (Nat × Nat)} (hi : i < 3) (C : CL frB 100 S bc S k [] 0) (z : tT frB 100 k = 256 + i) (h : ∀ Sb, PR frB 100 Sb bc 0 (f_X3_readOr E 40) (k + 1) [] k2 out) (z2 : tT frB 100 k2 = 59) :
    ∃ S2, f_X3_read_b39 E (m + 1) S (nI i) = f_X3_read_b39 E m S2 (nI (i + 1)) ∧ CL frB 100 S2 (bc + out.length) S2 (k2 + 1) [] 0 ∧ Fm wRd S S2 ∧ CO S2 bc out ∧ gI S2 14 0 i = nI bc ∧ (∀ j, j < bc → gI S2 9 0 j = gI S 9 0 j) ∧ ∀ j, j ≠ i → gI S2 14 0 j = gI S 14 0 j := by
  have eR : f_X3_read_b39 E (m + 1) S (nI i) = bd_ (f_X3_take E S (nI (256 + i))) fun S3 => lt_ (sI S3 14 0 i (gI S3 8 0 8)) fun S5 => bd_ (f_X3_readOr E 40 S5) fun S6 => bd_ (f_X3_take E S6 (nI 59)) fun S7 => f_X3_read_b39 E m S7 (nI (i + 1)) := by
    rw [show f_X3_read_b39 E (m + 1) = g_X3_read_b39 E (f_X3_read_b39 E m) from rfl]
    unfold g_X3_read_b39
    rw [if_neg (show ¬ (3 : Int32) ≤ nI i by rw [q_leL 3 (by decide) (by omega)]; omega), show (256 : Int32) = nI 256 from rfl, nI_add, show ib_ (nI i) 4 = true from ib_nI (by omega) (by decide), q_cl (by omega), nI_1]
    rfl
  obtain ⟨S3, e3, C3⟩ := (s_takeC (E := E) (w := 256 + i) (by omega) C (by omega) (by omega)).1 z
  rw [eR, bd_some e3, lt_e]
  have l3 : gI S3 8 0 8 = nI bc := C3.2.2.2.1.1
  rw [l3]
  have F3 := fr_X3_take _ _ _ _ e3
  have F : Fm [(14, 0)] S3 (sI S3 14 0 i (nI bc)) := Fm.rf.sI rfl rfl
  have s14 : ∀ j, j ≠ i → gI (sI S3 14 0 i (nI bc)) 14 0 j = gI S 14 0 j := fun j hj => by
    rw [gI_ne (by omega), F3.I rfl]
  have s14i : gI (sI S3 14 0 i (nI bc)) 14 0 i = nI bc := gI_same _ _ _ _ _
  have FS : Fm wRd S (sI S3 14 0 i (nI bc)) := (F3.mono rfl).trans (F.mono rfl)
  have s9 : ∀ j, gI (sI S3 14 0 i (nI bc)) 9 0 j = gI S 9 0 j := fun j => (F.I rfl).trans (F3.I rfl)
  have C5 : CL frB 100 (sI S3 14 0 i (nI bc)) bc (sI S3 14 0 i (nI bc)) (k + 1) [] 0 := by
    obtain ⟨h1, ⟨h2, h3, h4, h5⟩, h6, ⟨h7, h8⟩, h9, h10, h11⟩ := C3
    exact ⟨h1.keep (F.ag rfl), ⟨(F.I rfl).trans h2, (F.I rfl).trans h3, (F.I rfl).trans h4, (F.I rfl).trans h5⟩, (F.I rfl).trans h6, ⟨(F.I rfl).trans h7, h8⟩, True.intro, Fm.rf, fun j hj => rfl⟩
  generalize sI S3 14 0 i (nI bc) = S5 at s14 s14i FS s9 C5
  obtain ⟨S6, e6, C6⟩ := h S5 S5 C5
  have F6 := fr_X3_readOr _ _ _ _ e6
  obtain ⟨S7, e7, C7⟩ := (s_takeC (E := E) (w := 59) (by omega) C6 (by omega) (by omega)).1 z2
  have F7 := fr_X3_take _ _ _ _ e7
  refine ⟨S7, by rw [bd_some e6, bd_some e7], ?_, (FS.trans (F6.mono rfl)).trans (F7.mono rfl), C7.2.2.2.2.1, ?_, fun j hj => ?_, fun j hj => ?_⟩
  · obtain ⟨h1, h2, h6, ⟨h7, h8⟩, h9, h10, h11⟩ := C7
    exact ⟨h1, h2, h6, ⟨h7, h8⟩, True.intro, Fm.rf, fun j hj => rfl⟩
  · rw [F7.I rfl, F6.I rfl]
    exact s14i
  · rw [C7.2.2.2.2.2.2 j hj]
    exact s9 j
  · rw [F7.I rfl, F6.I rfl]
    exact s14 j hj
set_option maxRecDepth 100000 in
/-- the first rule, read by the class -/
theorem s_first {E : EN} (hN : 3000 ≤ E.1) {S : ST} (hB : ∀ j, j < 100 → gI S 5 0 j = nI (frB j)) :
    ∃ S2, f_X3_read E S (nI 100) = some (-1, S2) ∧ Fm wRd S S2 ∧ gI S2 8 0 8 = nI 23 ∧ (gI S2 14 0 0 = nI 0 ∧ gI S2 14 0 1 = nI 11 ∧ gI S2 14 0 2 = nI 20 ∧ gI S2 14 0 3 = nI 23) ∧ CO S2 0 fr0 ∧ CO S2 11 fr1 ∧ CO S2 20 fr2 := by
  have mn : mnI (nI 100) (160 : Int32) = nI 100 := by decide
  have FC : Fm wRd S (sI (sI (sI (sI (sI S 8 0 1 (nI 100)) 8 0 2 (0 : Int32)) 8 0 5 (-1 : Int32)) 8 0 6 (0 : Int32)) 8 0 8 (0 : Int32)) := ((((Fm.rf.sI rfl rfl).sI rfl rfl).sI rfl rfl).sI rfl rfl).sI rfl rfl
  have eC : f_X3_read E S (nI 100) = bd_ (f_X3_advance E (sI (sI (sI (sI (sI S 8 0 1 (nI 100)) 8 0 2 (0 : Int32)) 8 0 5 (-1 : Int32)) 8 0 6 (0 : Int32)) 8 0 8 (0 : Int32))) fun S14 => f_X3_read_b39 E E.1 S14 (0 : Int32) := by
    unfold f_X3_read
    rw [mn]
    rfl
  have a1 : gI (sI (sI (sI (sI (sI S 8 0 1 (nI 100)) 8 0 2 (0 : Int32)) 8 0 5 (-1 : Int32)) 8 0 6 (0 : Int32)) 8 0 8 (0 : Int32)) 8 0 1 = nI 100 := by
    rw [gI_ne (by omega), gI_ne (by omega), gI_ne (by omega), gI_ne (by omega), gI_same]
  have a2 : gI (sI (sI (sI (sI (sI S 8 0 1 (nI 100)) 8 0 2 (0 : Int32)) 8 0 5 (-1 : Int32)) 8 0 6 (0 : Int32)) 8 0 8 (0 : Int32)) 8 0 2 = nI 0 := by
    rw [gI_ne (by omega), gI_ne (by omega), gI_ne (by omega), gI_same]
    rfl
  have a5 : gI (sI (sI (sI (sI (sI S 8 0 1 (nI 100)) 8 0 2 (0 : Int32)) 8 0 5 (-1 : Int32)) 8 0 6 (0 : Int32)) 8 0 8 (0 : Int32)) 8 0 5 = -1 := by
    rw [gI_ne (by omega), gI_ne (by omega), gI_same]
  have a6 : gI (sI (sI (sI (sI (sI S 8 0 1 (nI 100)) 8 0 2 (0 : Int32)) 8 0 5 (-1 : Int32)) 8 0 6 (0 : Int32)) 8 0 8 (0 : Int32)) 8 0 6 = nI 0 := by
    rw [gI_ne (by omega), gI_same]
    rfl
  have a8 : gI (sI (sI (sI (sI (sI S 8 0 1 (nI 100)) 8 0 2 (0 : Int32)) 8 0 5 (-1 : Int32)) 8 0 6 (0 : Int32)) 8 0 8 (0 : Int32)) 8 0 8 = nI 0 := by
    rw [gI_same]
    rfl
  generalize sI (sI (sI (sI (sI S 8 0 1 (nI 100)) 8 0 2 (0 : Int32)) 8 0 5 (-1 : Int32)) 8 0 6 (0 : Int32)) 8 0 8 (0 : Int32) = S0 at FC eC a1 a2 a5 a6 a8
  have bS : BY frB 100 S0 := ⟨by decide, a1, fun j hj => by
    have h1 := fr_len j hj
    exact ⟨by omega, (FC.I rfl).trans ((hB j hj).trans (sg_lo h1).symm)⟩⟩
  obtain ⟨S1, e1, F1, b2, b3, b4⟩ := s_adv (E := E) (by omega) bS (Nat.zero_le _) a2 a5
  have C1 : CL frB 100 S1 0 S1 0 [] 0 := ⟨bS.keep (F1.ag rfl), ⟨b2, b3, b4, (F1.I rfl).trans a5⟩, (F1.I rfl).trans a6, ⟨(F1.I rfl).trans a8, by decide⟩, True.intro, Fm.rf, fun j hj => rfl⟩
  have FC1 : Fm wRd S S1 := FC.trans (F1.mono rfl)
  have t := fr_tok
  obtain ⟨m, hm⟩ : ∃ m, E.1 = m + 1 + 1 + 1 + 1 := ⟨E.1 - 4, by omega⟩
  obtain ⟨S2, c1, C2, F2, o2, g2, -, h2⟩ := s_fpart (m := m + 1 + 1 + 1) (k2 := 16) (out := fr0) hN (i := 0) (by decide) C1 (t 0 (by decide)) (fun _ => p_e0 (d := 28) (by omega) (by decide)) (t 16 (by decide))
  obtain ⟨S3, c2, C3, F3, o3, g3, v3, h3⟩ := s_fpart (m := m + 1 + 1) (k2 := 27) (out := fr1) hN (i := 1) (by decide) C2 (t 17 (by decide)) (fun _ => p_e1 (d := 34) (by omega) (by decide)) (t 27 (by decide))
  obtain ⟨S4, c3, C4, F4, o4, g4, v4, h4⟩ := s_fpart (m := m + 1) (k2 := 32) (out := fr2) hN (i := 2) (by decide) C3 (t 28 (by decide)) (fun _ => p_e2 (d := 34) (by omega) (by decide)) (t 32 (by decide))
  have l4 : gI S4 8 0 8 = nI 23 := C4.2.2.2.1.1
  have e79 : f_X3_read_b39 E (m + 1) S4 (nI 3) = bd_ (f_X3_take E (sI S4 14 0 3 (nI 23)) (nI 0)) fun S2 => some (gI S2 8 0 5, S2) := by
    rw [show f_X3_read_b39 E (m + 1) = g_X3_read_b39 E (f_X3_read_b39 E m) from rfl]
    unfold g_X3_read_b39 f_X3_read_b79
    rw [if_pos (show (3 : Int32) ≤ nI 3 by decide), l4]
    rfl
  have F5 : Fm [(14, 0)] S4 (sI S4 14 0 3 (nI 23)) := Fm.rf.sI rfl rfl
  have C5 : CL frB 100 (sI S4 14 0 3 (nI 23)) 23 (sI S4 14 0 3 (nI 23)) 33 [] 0 := by
    obtain ⟨h1, ⟨h2, h3, h4, h5⟩, h6, ⟨h7, h8⟩, h9, h10, h11⟩ := C4
    exact ⟨h1.keep (F5.ag rfl), ⟨(F5.I rfl).trans h2, (F5.I rfl).trans h3, (F5.I rfl).trans h4, (F5.I rfl).trans h5⟩, (F5.I rfl).trans h6, ⟨(F5.I rfl).trans h7, h8⟩, True.intro, Fm.rf, fun j hj => rfl⟩
  obtain ⟨S6, e6, C6⟩ := (s_takeC (E := E) (w := 0) (by omega) C5 (by decide) (by decide)).1 (t 33 (by decide))
  have F6 := fr_X3_take _ _ _ _ e6
  have r3 : ∀ j, j < 11 → gI S3 9 0 j = gI S2 9 0 j := fun j hj => v3 j (show j < 0 + 11 by omega)
  have r4 : ∀ j, j < 20 → gI S4 9 0 j = gI S3 9 0 j := fun j hj => v4 j (show j < 0 + 11 + 9 by omega)
  have F46 : ∀ j, gI S6 9 0 j = gI S4 9 0 j := fun j => (F6.I rfl).trans (F5.I rfl)
  have g14 : ∀ j, j ≠ 3 → gI S6 14 0 j = gI S4 14 0 j := fun j hj => by
    rw [F6.I rfl, gI_ne (by omega)]
  refine ⟨S6, ?_, (((FC1.trans F2).trans F3).trans F4).trans ((F5.mono rfl).trans (F6.mono rfl)), ?_, ⟨?_, ?_, ?_, ?_⟩, ?_, ?_, ?_⟩
  · rw [eC, bd_some e1, hm]
    refine c1.trans (c2.trans (c3.trans (e79.trans ?_)))
    rw [bd_some e6, show gI S6 8 0 5 = -1 from C6.2.1.2.2.2]
  · exact C6.2.2.2.1.1
  · rw [g14 0 (by decide), h4 0 (by decide), h3 0 (by decide)]
    exact g2
  · rw [g14 1 (by decide), h4 1 (by decide)]
    exact g3
  · rw [g14 2 (by decide)]
    exact g4
  · rw [F6.I rfl, gI_same]
  · exact o2.keep (fun j hj => (F46 j).trans ((r4 j (by have : j < 0 + 11 := hj; omega)).trans (r3 j hj)))
  · exact CO.keep (l := fr1) (bc := 11) (fun j hj => (F46 j).trans (r4 j hj)) o3
  · exact CO.keep (l := fr2) (bc := 20) (fun j hj => F46 j) o4
