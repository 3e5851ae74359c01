/-! PURE PART: the best moving: its value; the class -/
def mx3 (f : Int32 → Nat) : Nat := max (max (f (-1)) (f 0)) (f 1)
def bsT (L : Nat → Nat → Nat → Nat → Nat → Nat) : Nat → CS → Nat
  | 0, c => endV L c
  | q + 1, c => mx3 (fun x => bsT L q (stpB L (4 - q) c 0 x)) + mx3 (fun x => bsT L q (stpB L (4 - q) c 1 x))
theorem mx3_le {f : Int32 → Nat} {B : Nat} (h : ∀ x, f x ≤ B) : mx3 f ≤ B := by
  have h1 := h (-1)
  have h2 := h 0
  have h3 := h 1
  unfold mx3
  omega
theorem bsT_le {L : Nat → Nat → Nat → Nat → Nat → Nat} (hL : okL L) : ∀ q c, bsT L q c ≤ 99 * 100 ^ q * smf c.1 0
  | 0, c => by
    rw [Nat.pow_zero, Nat.mul_one]
    exact endV_le hL c
  | q + 1, c => by
    have a : mx3 (fun x => bsT L q (stpB L (4 - q) c 0 x)) ≤ 99 * 100 ^ q * smf (nxr L (4 - q) c.2.1 c.2.2.1 0 c.1) 0 := mx3_le fun x => bsT_le hL q _
    have b : mx3 (fun x => bsT L q (stpB L (4 - q) c 1 x)) ≤ 99 * 100 ^ q * smf (nxr L (4 - q) c.2.1 c.2.2.1 1 c.1) 0 := mx3_le fun x => bsT_le hL q _
    have t := nxr_two (L := L) (w := 4 - q) (g := c.2.1) (m := c.2.2.1) (r := c.1) (fun s => (hL _ _ _ s).1) (fun s => (hL _ _ _ s).2.1)
    have t2 := Nat.mul_le_mul_left (99 * 100 ^ q) t
    rw [Nat.mul_add] at t2
    have e : 99 * 100 ^ (q + 1) * smf c.1 0 = 99 * 100 ^ q * (100 * smf c.1 0) := by rw [Nat.pow_succ, ← Nat.mul_assoc, ← Nat.mul_assoc]
    rw [e]
    exact Nat.le_trans (Nat.add_le_add a b) t2
theorem bsT_B {L : Nat → Nat → Nat → Nat → Nat → Nat} (hL : okL L) {q w : Nat} {c : CS} (ok : okC w c) (hw : w + q = 5) : bsT L q c ≤ 9899010000000000 := by
  refine Nat.le_trans (bsT_le hL q c) ?_
  refine Nat.le_trans (Nat.mul_le_mul_left (99 * 100 ^ q) ok.2.2.2.2) ?_
  have e : 99 * 100 ^ q * (9999 * 100 ^ w) = 99 * 9999 * 100 ^ (w + q) := by
    rw [Nat.pow_add, Nat.mul_comm (100 ^ w), Nat.mul_assoc 99, ← Nat.mul_assoc (100 ^ q), Nat.mul_comm (100 ^ q) 9999, Nat.mul_assoc 9999, ← Nat.mul_assoc 99]
  rw [e, hw]
  decide
theorem hel_0 (g : Nat) : hel g 0 = g := by
  unfold hel
  rw [if_neg (by decide), if_neg (by decide)]
/-- where the class is held, moving is staying -/
theorem stpB_held {L : Nat → Nat → Nat → Nat → Nat → Nat} {w b : Nat} {c : CS} {x : Int32} (h : hel c.2.1 x = c.2.1) : stpB L w c b x = stpB L w c b 0 := by
  unfold stpB chg
  rw [h, hel_0]
theorem q_mxL {a b : Nat} (ha : a < 9223372036854775808) (hb : b < 9223372036854775808) : mxL (lN a) (lN b) = lN (max a b) := by
  unfold mxL
  by_cases h : b < a
  · rw [if_pos (by rw [w_lt hb ha]; exact h), show max a b = a by omega]
  · rw [if_neg (by rw [w_lt hb ha]; exact h), show max a b = b by omega]
theorem setb_self {M w b : Nat} (h : M / 2 ^ w % 2 = b) : setb M w b = M := by
  unfold setb
  rw [h]
  have h1 : M / 2 ^ w * 2 ^ w ≤ M := Nat.div_mul_le_self _ _
  have h2 : b * 2 ^ w ≤ M / 2 ^ w * 2 ^ w := Nat.mul_le_mul_right _ (by rw [← h]; exact Nat.mod_le _ _)
  omega
/-- one move more, of the class' maximum -/
def bmx (g : Nat) (f : Int32 → Nat) (v : Nat) (x : Int32) : Nat := if ¬ x = 0 ∧ hel g x = g then v else max v (f x)
theorem bmx_f {g : Nat} {f : Int32 → Nat} (h1 : hel g (-1) = g → f (-1) = f 0) (h2 : hel g 1 = g → f 1 = f 0) : bmx g f (bmx g f (bmx g f 0 (-1)) 0) 1 = mx3 f := by
  unfold bmx mx3
  rw [if_neg (show ¬ (¬ (0 : Int32) = 0 ∧ hel g 0 = g) from fun h => h.1 rfl)]
  by_cases a : hel g (-1) = g
  · rw [if_pos (show ¬ (-1 : Int32) = 0 ∧ hel g (-1) = g from ⟨by decide, a⟩), h1 a]
    by_cases b : hel g 1 = g
    · rw [if_pos (show ¬ (1 : Int32) = 0 ∧ hel g 1 = g from ⟨by decide, b⟩), h2 b]
      omega
    · rw [if_neg (show ¬ (¬ (1 : Int32) = 0 ∧ hel g 1 = g) from fun h => b h.2)]
      omega
  · rw [if_neg (show ¬ (¬ (-1 : Int32) = 0 ∧ hel g (-1) = g) from fun h => a h.2)]
    by_cases b : hel g 1 = g
    · rw [if_pos (show ¬ (1 : Int32) = 0 ∧ hel g 1 = g from ⟨by decide, b⟩), h2 b]
      omega
    · rw [if_neg (show ¬ (¬ (1 : Int32) = 0 ∧ hel g 1 = g) from fun h => b h.2)]
      omega
theorem bmx_3 {L : Nat → Nat → Nat → Nat → Nat → Nat} {w b q : Nat} {c : CS} : bmx c.2.1 (fun x => bsT L q (stpB L w c b x)) (bmx c.2.1 (fun x => bsT L q (stpB L w c b x)) (bmx c.2.1 (fun x => bsT L q (stpB L w c b x)) 0 (-1)) 0) 1 = mx3 (fun x => bsT L q (stpB L w c b x)) :=
  bmx_f (fun h => congrArg (bsT L q) (stpB_held h)) (fun h => congrArg (bsT L q) (stpB_held h))
/-- a week has passed, right or wrong; not settled yet -/
def KP (E : EN) (S : ST) (L : Nat → Nat → Nat → Nat → Nat → Nat) (t so k n w b : Nat) (c : Nat → CS) : Prop :=
  KW E S L t so k n ∧ (∀ i, i ≤ w → KC S i (c i)) ∧ (∀ s, s < 5 → gL S 28 (w + 1) s = lN (nxr L w (c w).2.1 (c w).2.2.1 b (c w).1 s)) ∧ ∃ M, M < 32 ∧ gI S 16 0 6 = nI (setb M w b) ∧ ∀ i, i < w → M / 2 ^ i % 2 = (c (i + 1)).2.2.2.2
theorem KP.ka {E : EN} {S : ST} {L : Nat → Nat → Nat → Nat → Nat → Nat} {t so k n w b : Nat} {c : Nat → CS} (hw : w < 5) (hb : b < 2) (h : KP E S L t so k n w b c) : ∃ M, KA S w c M := by
  obtain ⟨h1, h2, h3, M, h4, h5, h6⟩ := h
  obtain ⟨-, s2, -⟩ := q_setb h4 hw hb
  exact ⟨setb M w b, h2, s2, h5, fun i hi => by rw [q_setb2 h4 hw hb (by omega) (by omega)]; exact h6 i hi⟩
theorem s_best {E : EN} {L : Nat → Nat → Nat → Nat → Nat → Nat} {t so k n : Nat} (hN : 3000 ≤ E.1) : ∀ (q d : Nat) (S : ST) (c : Nat → CS) (M w : Nat), w + q = 5 → 2 * q < d → KW E S L t so k n → KA S w c M → okC w (c w) →
    ∃ S2 M2, f_X1_best E d S (nI w) = some (lN (bsT L q (c w)), S2) ∧ Fm wF S S2 ∧ KW E S2 L t so k n ∧ KA S2 w c M2 := by
  intro q
  induction q with
  | zero =>
    intro d S c M w hw hd K A ok
    obtain ⟨d, rfl⟩ : ∃ j, d = j + 1 := ⟨d - 1, by omega⟩
    have e : w = 5 := by omega
    subst e
    obtain ⟨S2, e2, F2, K2⟩ := s_endsNow (E := E) hN K (A.1 5 (Nat.le_refl _)) ok
    refine ⟨S2, M, ?_, F2.mono rfl, K2, ⟨fun i hi => ?_, A.2.1, (F2.I rfl).trans A.2.2.1, A.2.2.2⟩⟩
    · rw [show f_X1_best E (d + 1) = b_X1_best E (f_X1_best E d) (f_X1_bestMove E d) from rfl]
      unfold b_X1_best
      rw [if_neg (show ¬ nI 5 < (5 : Int32) by decide), bd2_some e2]
      rfl
    · obtain ⟨q1, q2, q3, q4⟩ := A.1 i hi
      exact ⟨fun s hs => (F2.L rfl).trans (q1 s hs), (F2.I rfl).trans q2, (F2.I rfl).trans q3, fun h0 => by rw [F2.I rfl, F2.I rfl]; exact q4 h0⟩
  | succ q ih =>
    intro d S c M w hw hd K A ok
    obtain ⟨d, rfl⟩ : ∃ j, d = j + 2 := ⟨d - 2, by omega⟩
    have hw5 : w < 5 := by omega
    -- a move
    have mv : ∀ (b : Nat), b < 2 → ∀ (x : Int32) (m : Nat) (S1 : ST) (v : Nat), isBy x → v ≤ 9899010000000000 → Fm wF S S1 → KP E S1 L t so k n w b c →
        ∃ S5, f_X1_bestMove_b16 E (f_X1_best E d) (f_X1_bestMove E d) (m + 1) S1 (nI w) (lN v) x = f_X1_bestMove_b16 E (f_X1_best E d) (f_X1_bestMove E d) m S5 (nI w) (lN (bmx (c w).2.1 (fun x => bsT L q (stpB L w (c w) b x)) v x)) (x + 1) ∧ Fm wF S S5 ∧ KP E S5 L t so k n w b c ∧ bmx (c w).2.1 (fun x => bsT L q (stpB L w (c w) b x)) v x ≤ 9899010000000000 := fun b hb x m S1 v hx hv F1 P1 => by
      obtain ⟨K1, c1, v1, M1, m1, m2, m3⟩ := id P1
      have g18 : gI S1 18 0 w = nI (c w).2.1 := (c1 w (Nat.le_refl _)).2.1
      have hB : bsT L q (stpB L w (c w) b x) ≤ 9899010000000000 := bsT_B K.okL (ok.stpB K.okL hb x) (by omega)
      rw [show f_X1_bestMove_b16 E (f_X1_best E d) (f_X1_bestMove E d) (m + 1) = g_X1_bestMove_b16 E (f_X1_best E d) (f_X1_bestMove E d) (f_X1_bestMove_b16 E (f_X1_best E d) (f_X1_bestMove E d) m) from rfl]
      unfold g_X1_bestMove_b16
      rw [if_neg (show ¬ (1 : Int32) < x by rcases hx with rfl | rfl | rfl <;> decide)]
      have go : ∃ S5, f_X1_bestMove_b48 E (f_X1_best E d) (f_X1_bestMove E d) (f_X1_bestMove_b16 E (f_X1_best E d) (f_X1_bestMove E d) m) S1 (nI w) (lN v) x = f_X1_bestMove_b16 E (f_X1_best E d) (f_X1_bestMove E d) m S5 (nI w) (lN (max v (bsT L q (stpB L w (c w) b x)))) (x + 1) ∧ Fm wF S S5 ∧ KP E S5 L t so k n w b c := by
        obtain ⟨S3, e3, F3, K3, A3⟩ := c_settle (E := E) (M := M1) hw5 hb hx K1 m1 c1 m2 m3 v1 ok
        obtain ⟨S4, M4, e4, F4, K4, A4⟩ := ih d S3 (ud c (w + 1) (stpB L w (c w) b x)) (setb M1 w b) (w + 1) (by omega) (by omega) K3 A3 (by rw [ud_at]; exact ok.stpB K.okL hb _)
        rw [ud_at] at e4
        refine ⟨S4, ?_, (F1.trans (F3.mono rfl)).trans F4, K4, A4.less.1, ?_, M4, A4.2.1, ?_, A4.less.2.2.2⟩
        · unfold f_X1_bestMove_b48 f_X1_bestMove_b67
          rw [bd_some e3, nI_1, bd2_some e4, lt_e, q_mxL (by omega) (by omega), lt_e]
        · have := (A4.1 (w + 1) (Nat.le_refl _)).1
          rw [ud_at] at this
          exact this
        · have := A4.2.2.2 w (by omega)
          rw [ud_at] at this
          rw [setb_self (b := b) this]
          exact A4.2.2.1
      by_cases h0 : x = 0
      · obtain ⟨S5, g1, g2, g3⟩ := go
        refine ⟨S5, ?_, g2, g3, ?_⟩
        · rw [if_pos h0, g1]
          unfold bmx
          rw [if_neg (fun h => h.1 h0)]
        · unfold bmx
          rw [if_neg (fun h => h.1 h0)]
          show max v (bsT L q (stpB L w (c w) b x)) ≤ _
          omega
      · rw [if_neg h0, ck_in (ib_nI (by omega) (by decide)), q_cl (by omega), g18, bd_some (s_heldC ok.1 hx)]
        have hl := hel_le (g := (c w).2.1) (by have := ok.1; omega) x
        have ok1 := ok.1
        by_cases hh : hel (c w).2.1 x = (c w).2.1
        · refine ⟨S1, ?_, F1, P1, ?_⟩
          · rw [if_pos (by rw [hh])]
            unfold f_X1_bestMove_b67 bmx
            rw [if_pos ⟨h0, hh⟩, lt_e]
          · unfold bmx
            rw [if_pos ⟨h0, hh⟩]
            exact hv
        · obtain ⟨S5, g1, g2, g3⟩ := go
          refine ⟨S5, ?_, g2, g3, ?_⟩
          · rw [if_neg (by rw [nI_eq (by omega) (by omega)]; exact hh), g1]
            unfold bmx
            rw [if_neg (fun h => hh h.2)]
          · unfold bmx
            rw [if_neg (fun h => hh h.2)]
            show max v (bsT L q (stpB L w (c w) b x)) ≤ _
            omega
    -- all moves
    have mvs : ∀ (b : Nat), b < 2 → ∀ (S1 : ST), Fm wF S S1 → KP E S1 L t so k n w b c → ∃ S5, f_X1_bestMove E (d + 1) S1 (nI w) = some (lN (mx3 (fun x => bsT L q (stpB L w (c w) b x))), S5) ∧ Fm wF S S5 ∧ KP E S5 L t so k n w b c := fun b hb S1 F1 P1 => by
      obtain ⟨m, hm⟩ : ∃ m, E.1 = m + 4 := ⟨E.1 - 4, by omega⟩
      obtain ⟨S2, e2, F2, P2, v2⟩ := mv b hb (-1) (m + 3) S1 0 (Or.inl rfl) (by decide) F1 P1
      obtain ⟨S3, e3, F3, P3, v3⟩ := mv b hb 0 (m + 2) S2 _ (Or.inr (Or.inl rfl)) v2 F2 P2
      obtain ⟨S4, e4, F4, P4, -⟩ := mv b hb 1 (m + 1) S3 _ (Or.inr (Or.inr rfl)) v3 F3 P3
      refine ⟨S4, ?_, F4, P4⟩
      rw [show f_X1_bestMove E (d + 1) = b_X1_bestMove E (f_X1_best E d) (f_X1_bestMove E d) from rfl]
      unfold b_X1_bestMove
      rw [if_neg (q_n0 (by omega)), if_pos (by rw [q_ltR 5 (by decide) (by omega)]; exact hw5), hm, show (0 : Int64) = lN 0 from rfl, e2, show (-1 : Int32) + 1 = 0 by decide, e3, show (0 : Int32) + 1 = 1 by decide, e4, show f_X1_bestMove_b16 E (f_X1_best E d) (f_X1_bestMove E d) (m + 1) = g_X1_bestMove_b16 E (f_X1_best E d) (f_X1_bestMove E d) (f_X1_bestMove_b16 E (f_X1_best E d) (f_X1_bestMove E d) m) from rfl]
      unfold g_X1_bestMove_b16
      rw [if_pos (show (1 : Int32) < 1 + 1 by decide), bmx_3]
    have one : ∀ (b m : Nat) (S1 : ST) (M1 : Nat) (v : Nat), b < 2 → Fm wF S S1 → KW E S1 L t so k n → KA S1 w c M1 →
        ∃ S5 M5, f_X1_best_b15 E (f_X1_best E (d + 1)) (f_X1_bestMove E (d + 1)) (m + 1) S1 (nI w) (lN v) (nI b) = f_X1_best_b15 E (f_X1_best E (d + 1)) (f_X1_bestMove E (d + 1)) m S5 (nI w) (lN (v + mx3 (fun x => bsT L q (stpB L w (c w) b x)))) (nI (b + 1)) ∧ Fm wF S S5 ∧ KW E S5 L t so k n ∧ KA S5 w c M5 := fun b m S1 M1 v hb F1 K1 A1 => by
      obtain ⟨S2, e2, F2, K2, c2, m2, v2, -⟩ := c_pass (E := E) hN hw5 hb K1 A1 ok
      have P2 : KP E S2 L t so k n w b c := ⟨K2, c2, v2, M1, A1.2.1, m2, A1.2.2.2⟩
      have F12 : Fm wF S S2 := F1.trans (F2.mono rfl)
      have hB : smf (nxr L w (c w).2.1 (c w).2.2.1 b (c w).1) 0 ≤ 99990000000000 := (ok.stpB K.okL hb 0).bnd (by omega)
      rw [show f_X1_best_b15 E (f_X1_best E (d + 1)) (f_X1_bestMove E (d + 1)) (m + 1) = g_X1_best_b15 E (f_X1_best E (d + 1)) (f_X1_bestMove E (d + 1)) (f_X1_best_b15 E (f_X1_best E (d + 1)) (f_X1_bestMove E (d + 1)) m) from rfl]
      unfold g_X1_best_b15
      rw [if_neg (by rw [q_leL 2 (by decide) (by omega)]; omega), bd_some e2, nI_1, bd_some (s_togetherC (by omega) (by omega) v2)]
      unfold f_X1_best_b48
      by_cases z : smf (nxr L w (c w).2.1 (c w).2.2.1 b (c w).1) 0 = 0
      · obtain ⟨M5, A5⟩ := P2.ka hw5 hb
        refine ⟨S2, M5, ?_, F12, K2, A5⟩
        have e0 : mx3 (fun x => bsT L q (stpB L w (c w) b x)) = 0 := Nat.le_zero.mp (mx3_le fun x => by
          have := bsT_le K.okL q (stpB L w (c w) b x)
          rw [show smf (stpB L w (c w) b x).1 0 = 0 from z, Nat.mul_zero] at this
          exact this)
        rw [if_pos (by rw [z]; decide), lt_e, nI_1, e0]
        rfl
      · obtain ⟨S5, e5, F5, P5⟩ := mvs b hb S2 F12 P2
        obtain ⟨M5, A5⟩ := P5.ka hw5 hb
        refine ⟨S5, M5, ?_, F5, P5.1, A5⟩
        rw [if_neg (by rw [show (0 : Int64) = lN 0 from rfl, w_le (by omega) (by omega)]; omega), bd2_some e5, lt_e, lN_add, lt_e, nI_1]
    obtain ⟨m, hm⟩ : ∃ m, E.1 = m + 3 := ⟨E.1 - 3, by omega⟩
    obtain ⟨S1, M1, e1, F1, K1, A1⟩ := one 0 (m + 2) S M 0 (by decide) Fm.rf K A
    obtain ⟨S2, M2, e2, F2, K2, A2⟩ := one 1 (m + 1) S1 M1 _ (by decide) F1 K1 A1
    refine ⟨S2, M2, ?_, F2, K2, A2⟩
    rw [show f_X1_best E (d + 2) = b_X1_best E (f_X1_best E (d + 1)) (f_X1_bestMove E (d + 1)) from rfl]
    unfold b_X1_best
    rw [if_pos (by rw [q_ltR 5 (by decide) (by omega)]; exact hw5), hm, show (0 : Int64) = lN 0 from rfl, show (0 : Int32) = nI 0 from rfl, e1, e2, show f_X1_best_b15 E (f_X1_best E (d + 1)) (f_X1_bestMove E (d + 1)) (m + 1) = g_X1_best_b15 E (f_X1_best E (d + 1)) (f_X1_bestMove E (d + 1)) (f_X1_best_b15 E (f_X1_best E (d + 1)) (f_X1_bestMove E (d + 1)) m) from rfl]
    unfold g_X1_best_b15
    rw [if_pos (show (2 : Int32) ≤ nI (1 + 1) by decide), Nat.zero_add, show bsT L (q + 1) (c w) = mx3 (fun x => bsT L q (stpB L (4 - q) (c w) 0 x)) + mx3 (fun x => bsT L q (stpB L (4 - q) (c w) 1 x)) from rfl, show 4 - q = w by omega]
