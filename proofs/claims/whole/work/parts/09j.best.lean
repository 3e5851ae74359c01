/-! PURE PART: the best moving: the reference -/
def TT : Nat → Nat
  | 0 => 1
  | q + 1 => 6 * TT q + 8
def bL : Option Nat → Int64
  | none => -1
  | some v => lN v
def mxo : Option Nat → Nat → Nat
  | none, v => v
  | some u, v => max u v
def enS (S : ST) (w : Nat) : ST := sL (sL (sI (sI S 72 0 w 0) 73 0 w (-1)) 74 0 w (-1)) 75 0 w 0
theorem s_enter {E : EN} {S : ST} {w : Nat} (hw : w < 6) : f_X7_enter E S (nI w) = some (enS S w) := by
  unfold f_X7_enter
  rw [ck_in (ib_nI hw (by decide)), q_cl (by omega), lt_e, lt_e, lt_e, lt_e]
  rfl
theorem enS_F {S : ST} {w : Nat} : Fm [(72, 0), (73, 0), (74, 0), (75, 0)] S (enS S w) := ((((Fm.rf.sI rfl rfl).sI rfl rfl).sL rfl rfl).sL rfl rfl)
/-- how far a level is: mark, next move, best so far, total so far -/
def LV (S : ST) (w b : Nat) (x : Int32) (o : Option Nat) (tt : Nat) : Prop := gI S 72 0 w = nI b ∧ gI S 73 0 w = x ∧ gL S 74 0 w = bL o ∧ gL S 75 0 w = lN tt
/-- levels below w are as they were -/
def SL (S S1 : ST) (w : Nat) : Prop := ∀ i, i < w → gI S1 72 0 i = gI S 72 0 i ∧ gI S1 73 0 i = gI S 73 0 i ∧ gL S1 74 0 i = gL S 74 0 i ∧ gL S1 75 0 i = gL S 75 0 i
theorem SL.tr {S S1 S2 : ST} {w : Nat} (a : SL S S1 w) (b : SL S1 S2 w) : SL S S2 w := fun i hi => by
  obtain ⟨a1, a2, a3, a4⟩ := a i hi
  obtain ⟨b1, b2, b3, b4⟩ := b i hi
  exact ⟨b1.trans a1, b2.trans a2, b3.trans a3, b4.trans a4⟩
theorem enS_v (S : ST) (w : Nat) : LV (enS S w) w 0 (-1) none 0 ∧ SL S (enS S w) w := by
  refine ⟨⟨?_, ?_, ?_, ?_⟩, fun i hi => ⟨?_, ?_, ?_, ?_⟩⟩
  · show gI (sI (sI S 72 0 w 0) 73 0 w (-1)) 72 0 w = 0
    rw [gI_ne (by omega), gI_same]
  · show gI (sI (sI S 72 0 w 0) 73 0 w (-1)) 73 0 w = -1
    rw [gI_same]
  · show gL (enS S w) 74 0 w = -1
    unfold enS
    rw [gL_sL, if_neg (by omega), gL_sL, if_pos ⟨rfl, rfl, rfl⟩]
  · show gL (enS S w) 75 0 w = 0
    unfold enS
    rw [gL_sL, if_pos ⟨rfl, rfl, rfl⟩]
  · show gI (sI (sI S 72 0 w 0) 73 0 w (-1)) 72 0 i = _
    rw [gI_ne (by omega), gI_ne (by omega)]
  · show gI (sI (sI S 72 0 w 0) 73 0 w (-1)) 73 0 i = _
    rw [gI_ne (by omega), gI_ne (by omega)]
  · unfold enS
    rw [gL_sL, if_neg (by omega), gL_sL, if_neg (by omega)]
    rfl
  · unfold enS
    rw [gL_sL, if_neg (by omega), gL_sL, if_neg (by omega)]
    rfl
def wJ : List (Nat × Nat) := [(66, 0), (67, 0), (68, 0), (69, 0), (72, 0), (73, 0), (74, 0), (75, 0)]
theorem KM.keep {S S1 : ST} {w : Nat} {c : CS} (h : KM S w c) (a : Ag [(66, 0), (67, 0), (68, 0), (69, 0)] S S1) : KM S1 w c := by
  obtain ⟨h1, h2, h3, h4⟩ := h
  exact ⟨fun s hs => (a.L rfl).trans (h1 s hs), (a.I rfl).trans h2, (a.I rfl).trans h3, (a.I rfl).trans h4⟩
theorem b18_s (E : EN) (m : Nat) : f_X7_bestOf_b18 E (m + 1) = g_X7_bestOf_b18 E (f_X7_bestOf_b18 E m) := rfl
theorem s_bestRec {E : EN} {L : Nat → Nat → Nat → Nat → Nat → Nat} (hN : 300 ≤ E.1) (hL : okL L) : ∀ (q : Nat) (S : ST) (c : Nat → CS) (w : Nat), w + q = 5 → LD S L → (∀ i, i ≤ w → KM S i (c i)) → okC w (c w) → LV S w 0 (-1) none 0 →
    ∃ S2, (∀ m, f_X7_bestOf_b18 E (TT q + m) S (nI w) = f_X7_bestOf_b153 E (f_X7_bestOf_b18 E m) S2 (nI w) (lN (bsT L q (c w)))) ∧ Fm wJ S S2 ∧ LD S2 L ∧ (∀ i, i ≤ w → KM S2 i (c i)) ∧ SL S S2 w := by
  intro q
  induction q with
  | zero =>
    intro S c w hw hd hk ok hv
    have e : w = 5 := by omega
    subst e
    refine ⟨S, fun m => ?_, Fm.rf, hd, hk, fun i hi => ⟨rfl, rfl, rfl, rfl⟩⟩
    rw [show TT 0 + m = m + 1 by show 1 + m = m + 1; omega, b18_s]
    unfold g_X7_bestOf_b18 f_X7_bestOf_b76 f_X7_bestOf_b135
    rw [if_pos (show (5 : Int32) ≤ nI 5 by decide), if_pos (show (5 : Int32) ≤ nI 5 by decide), if_pos (show nI 5 = (5 : Int32) from rfl), bd_some (s_ending hN hL hd (hk 5 (Nat.le_refl _)) ok)]
    rfl
  | succ q ih =>
    intro S0 c w hw hd0 hk0 ok hv0
    have hw5 : w < 5 := by omega
    have okw := ok.1
    -- one descent
    have one : ∀ (b : Nat), b < 2 → ∀ (x : Int32) (S : ST) (o : Option Nat) (tt : Nat), isBy x → (∀ u, o = some u → u ≤ 9899010000000000) → Fm wJ S0 S → LD S L → (∀ i, i ≤ w → KM S i (c i)) → SL S0 S w → LV S w b x o tt →
        ∃ S2, (∀ m, f_X7_bestOf_b18 E (TT q + 1 + m) S (nI w) = f_X7_bestOf_b18 E m S2 (nI w)) ∧ Fm wJ S0 S2 ∧ LD S2 L ∧ (∀ i, i ≤ w → KM S2 i (c i)) ∧ SL S0 S2 w ∧ LV S2 w b (x + 1) (some (mxo o (bsT L q (stpB L w (c w) b x)))) tt ∧ mxo o (bsT L q (stpB L w (c w) b x)) ≤ 9899010000000000 := fun b hb x S o tt hx ho F hd hk hs hv => by
      obtain ⟨v1, v2, v3, v4⟩ := hv
      obtain ⟨S1, e1, F1, D1, K1, V1⟩ := m_week (E := E) (S := S) (b := b) (c := c) (by omega) hw5 hb hL hd hk ok
      obtain ⟨S2, e2, F2, D2, K2⟩ := m_move (E := E) (S := S1) (b := b) (c := c) (x := x) hw5 hx D1 K1 V1 ok
      have F3 : Fm [(73, 0)] S2 (sI S2 73 0 w (x + 1)) := Fm.rf.sI rfl rfl
      have F4 := enS_F (S := sI S2 73 0 w (x + 1)) (w := w + 1)
      obtain ⟨y1, y2⟩ := enS_v (sI S2 73 0 w (x + 1)) (w + 1)
      have F34 : Fm [(72, 0), (73, 0), (74, 0), (75, 0)] S2 (enS (sI S2 73 0 w (x + 1)) (w + 1)) := (F3.mono rfl).trans F4
      obtain ⟨S5, e5, F5, D5, K5, SL5⟩ := ih (enS (sI S2 73 0 w (x + 1)) (w + 1)) (ud c (w + 1) (stpB L w (c w) b x)) (w + 1) (by omega) (D2.keep (F34.ag rfl)) (fun i hi => (K2 i hi).keep (F34.ag rfl)) (by rw [ud_at]; exact ok.stpB hL hb x) y1
      rw [ud_at] at e5
      have hB : bsT L q (stpB L w (c w) b x) ≤ 9899010000000000 := bsT_B hL (ok.stpB hL hb x) (by omega)
      have hmx : mxo o (bsT L q (stpB L w (c w) b x)) ≤ 9899010000000000 := by
        cases o with
        | none => exact hB
        | some u =>
          have := ho u rfl
          show max u _ ≤ _
          omega
      have F6 : Fm [(74, 0)] S5 (sL S5 74 0 w (lN (mxo o (bsT L q (stpB L w (c w) b x))))) := Fm.rf.sL rfl rfl
      -- what the levels up to w hold in S5
      have lev : ∀ i, i < w + 1 → gI S5 72 0 i = gI S 72 0 i ∧ gI S5 73 0 i = (if i = w then x + 1 else gI S 73 0 i) ∧ gL S5 74 0 i = gL S 74 0 i ∧ gL S5 75 0 i = gL S 75 0 i := fun i hi => by
        obtain ⟨a1, a2, a3, a4⟩ := SL5 i hi
        obtain ⟨b1, b2, b3, b4⟩ := y2 i hi
        refine ⟨?_, ?_, ?_, ?_⟩
        · rw [a1, b1, gI_ne (by omega), F2.I rfl, F1.I rfl]
        · rw [a2, b2, gI_sI]
          by_cases z : i = w
          · rw [if_pos ⟨rfl, rfl, z⟩, if_pos z]
          · rw [if_neg (fun y => z y.2.2), if_neg z, F2.I rfl, F1.I rfl]
        · rw [a3, b3]
          show gL S2 74 0 i = _
          rw [F2.L rfl, F1.L rfl]
        · rw [a4, b4]
          show gL S2 75 0 i = _
          rw [F2.L rfl, F1.L rfl]
      obtain ⟨l1, l2, l3, l4⟩ := lev w (by omega)
      refine ⟨sL S5 74 0 w (lN (mxo o (bsT L q (stpB L w (c w) b x)))), fun m => ?_, ?_, D5.keep (F6.ag rfl), fun i hi => ?_, fun i hi => ?_, ⟨?_, ?_, ?_, ?_⟩, hmx⟩
      · rw [show TT q + 1 + m = (TT q + m) + 1 by omega, b18_s]
        unfold g_X7_bestOf_b18
        rw [if_neg (by rw [q_leL 5 (by decide) (by omega)]; omega), ck_in (ib_nI (by omega) (by decide)), q_cl (by omega), v2, if_neg (show ¬ (2 : Int32) ≤ x by rcases hx with rfl | rfl | rfl <;> decide), v1, bd_some e1, F1.I (K := 73) rfl, v2, bd_some e2, F2.I (K := 73) rfl, F1.I (K := 73) rfl, v2, lt_e, lt_e, nI_1, bd_some (s_enter (by omega)), e5]
        unfold f_X7_bestOf_b153 f_X7_bestOf_b189
        rw [if_neg (show ¬ nI (w + 1) = (0 : Int32) by rw [q_eqR 0 (by decide) (by omega)]; omega), lt_e, q_ad1, ck_in (ib_nI (by omega) (by decide)), q_cl (by omega), l3, v3]
        cases o with
        | none =>
          rw [if_neg (show ¬ lN (bsT L q (stpB L w (c w) b x)) ≤ bL none from w_nm1 (by omega)), ck_in (ib_nI (by omega) (by decide)), lt_e]
          rfl
        | some u =>
          have hu := ho u rfl
          rw [show bL (some u) = lN u from rfl]
          by_cases z : bsT L q (stpB L w (c w) b x) ≤ u
          · rw [if_pos (show lN (bsT L q (stpB L w (c w) b x)) ≤ lN u by rw [w_le (by omega) (by omega)]; exact z), ck_in (ib_nI (by omega) (by decide)), lt_e, show mxo (some u) (bsT L q (stpB L w (c w) b x)) = u by show max u _ = u; omega]
          · rw [if_neg (show ¬ lN (bsT L q (stpB L w (c w) b x)) ≤ lN u by rw [w_le (by omega) (by omega)]; exact z), ck_in (ib_nI (by omega) (by decide)), lt_e, show mxo (some u) (bsT L q (stpB L w (c w) b x)) = bsT L q (stpB L w (c w) b x) by show max u _ = _; omega]
      · exact ((((F.trans (F1.mono rfl)).trans (F2.mono rfl)).trans (F34.mono rfl)).trans F5).trans (F6.mono rfl)
      · have := K5 i (by omega)
        unfold ud at this
        rw [if_neg (by omega)] at this
        exact this.keep (F6.ag rfl)
      · obtain ⟨h1, h2, h3, h4⟩ := hs i hi
        obtain ⟨m1, m2, m3, m4⟩ := lev i (by omega)
        rw [if_neg (by omega)] at m2
        refine ⟨m1.trans h1, m2.trans h2, ?_, ?_⟩
        · rw [gL_sL, if_neg (by omega)]
          exact m3.trans h3
        · rw [gL_sL, if_neg (by omega)]
          exact m4.trans h4
      · exact l1.trans v1
      · show gI S5 73 0 w = _
        rw [l2, if_pos rfl]
      · rw [gL_sL, if_pos ⟨rfl, rfl, rfl⟩]
        rfl
      · rw [gL_sL, if_neg (by omega)]
        exact l4.trans v4
    -- a mark, done
    have mk : ∀ (b : Nat), b < 2 → ∀ (S : ST) (tt : Nat), Fm wJ S0 S → LD S L → (∀ i, i ≤ w → KM S i (c i)) → SL S0 S w → LV S w b (-1) none tt →
        ∃ S2, (∀ m, f_X7_bestOf_b18 E (3 * (TT q + 1) + 1 + m) S (nI w) = if b = 0 then f_X7_bestOf_b18 E m S2 (nI w) else f_X7_bestOf_b135 E (f_X7_bestOf_b18 E m) S2 (nI w)) ∧ Fm wJ S0 S2 ∧ LD S2 L ∧ (∀ i, i ≤ w → KM S2 i (c i)) ∧ SL S0 S2 w ∧ LV S2 w (b + 1) (-1) none (tt + mx3 (fun x => bsT L q (stpB L w (c w) b x))) := fun b hb S tt F hd hk hs hv => by
      obtain ⟨S1, e1, F1, D1, K1, L1, V1, m1⟩ := one b hb (-1) S none tt (Or.inl rfl) (fun u h => by cases h) F hd hk hs hv
      obtain ⟨S2, e2, F2, D2, K2, L2, V2, m2⟩ := one b hb (-1 + 1) S1 _ tt (Or.inr (Or.inl rfl)) (fun u h => by cases h; exact m1) F1 D1 K1 L1 V1
      obtain ⟨S3, e3, F3, D3, K3, L3, V3, m3⟩ := one b hb (-1 + 1 + 1) S2 _ tt (Or.inr (Or.inr rfl)) (fun u h => by cases h; exact m2) F2 D2 K2 L2 V2
      obtain ⟨y1, y2, y3, y4⟩ := V3
      have hmx : mxo (some (mxo (some (mxo none (bsT L q (stpB L w (c w) b (-1))))) (bsT L q (stpB L w (c w) b (-1 + 1))))) (bsT L q (stpB L w (c w) b (-1 + 1 + 1))) = mx3 (fun x => bsT L q (stpB L w (c w) b x)) := rfl
      rw [hmx] at y3
      have F4 : Fm [(72, 0), (73, 0), (74, 0), (75, 0)] S3 (sL (sI (sI (sL S3 75 0 w (lN (tt + mx3 (fun x => bsT L q (stpB L w (c w) b x))))) 72 0 w (nI (b + 1))) 73 0 w (-1)) 74 0 w (-1)) := (((Fm.rf.sL rfl rfl).sI rfl rfl).sI rfl rfl).sL rfl rfl
      refine ⟨sL (sI (sI (sL S3 75 0 w (lN (tt + mx3 (fun x => bsT L q (stpB L w (c w) b x))))) 72 0 w (nI (b + 1))) 73 0 w (-1)) 74 0 w (-1), fun m => ?_, F3.trans (F4.mono rfl), D3.keep (F4.ag rfl), fun i hi => (K3 i hi).keep (F4.ag rfl), fun i hi => ?_, ⟨?_, ?_, ?_, ?_⟩⟩
      · rw [show 3 * (TT q + 1) + 1 + m = TT q + 1 + (TT q + 1 + (TT q + 1 + (m + 1))) by omega, e1, e2, e3, b18_s]
        unfold g_X7_bestOf_b18 f_X7_bestOf_b76
        rw [if_neg (by rw [q_leL 5 (by decide) (by omega)]; omega), ck_in (ib_nI (by omega) (by decide)), q_cl (by omega), y2, if_pos (show (2 : Int32) ≤ -1 + 1 + 1 + 1 by decide), if_neg (by rw [q_leL 5 (by decide) (by omega)]; omega), ck_in (ib_nI (by omega) (by decide)), y3, y4, show bL (some (mx3 (fun x => bsT L q (stpB L w (c w) b x)))) = lN (mx3 (fun x => bsT L q (stpB L w (c w) b x))) from rfl, lN_add, lt_e, lt_e, lt_e, lt_e]
        rw [show gI (sL S3 75 0 w (lN (tt + mx3 (fun x => bsT L q (stpB L w (c w) b x))))) 72 0 w = nI b from y1, nI_1]
        have g72 : gI (sL (sI (sI (sL S3 75 0 w (lN (tt + mx3 (fun x => bsT L q (stpB L w (c w) b x))))) 72 0 w (nI (b + 1))) 73 0 w (-1)) 74 0 w (-1)) 72 0 w = nI (b + 1) := by
          show gI (sI (sI (sL S3 75 0 w (lN (tt + mx3 (fun x => bsT L q (stpB L w (c w) b x))))) 72 0 w (nI (b + 1))) 73 0 w (-1)) 72 0 w = _
          rw [gI_ne (by omega), gI_same]
        rw [g72]
        by_cases z : b = 0
        · rw [if_pos z, if_neg (show ¬ (2 : Int32) ≤ nI (b + 1) by rw [z]; decide)]
        · rw [if_neg z, if_pos (show (2 : Int32) ≤ nI (b + 1) by rw [show b = 1 by omega]; decide)]
      · obtain ⟨h1, h2, h3, h4⟩ := L3 i hi
        refine ⟨?_, ?_, ?_, ?_⟩
        · show gI (sI (sI (sL S3 75 0 w (lN (tt + mx3 (fun x => bsT L q (stpB L w (c w) b x))))) 72 0 w (nI (b + 1))) 73 0 w (-1)) 72 0 i = _
          rw [gI_ne (by omega), gI_ne (by omega)]
          exact h1
        · show gI (sI (sI (sL S3 75 0 w (lN (tt + mx3 (fun x => bsT L q (stpB L w (c w) b x))))) 72 0 w (nI (b + 1))) 73 0 w (-1)) 73 0 i = _
          rw [gI_ne (by omega), gI_ne (by omega)]
          exact h2
        · rw [gL_sL, if_neg (by omega)]
          show gL (sL S3 75 0 w (lN (tt + mx3 (fun x => bsT L q (stpB L w (c w) b x))))) 74 0 i = _
          rw [gL_sL, if_neg (by omega)]
          exact h3
        · rw [gL_sL, if_neg (by omega)]
          show gL (sL S3 75 0 w (lN (tt + mx3 (fun x => bsT L q (stpB L w (c w) b x))))) 75 0 i = _
          rw [gL_sL, if_neg (by omega)]
          exact h4
      · show gI (sI (sI (sL S3 75 0 w (lN (tt + mx3 (fun x => bsT L q (stpB L w (c w) b x))))) 72 0 w (nI (b + 1))) 73 0 w (-1)) 72 0 w = _
        rw [gI_ne (by omega), gI_same]
      · show gI (sI (sI (sL S3 75 0 w (lN (tt + mx3 (fun x => bsT L q (stpB L w (c w) b x))))) 72 0 w (nI (b + 1))) 73 0 w (-1)) 73 0 w = _
        rw [gI_same]
      · rw [gL_sL, if_pos ⟨rfl, rfl, rfl⟩]
        rfl
      · rw [gL_sL, if_neg (by omega)]
        show gL (sL S3 75 0 w (lN (tt + mx3 (fun x => bsT L q (stpB L w (c w) b x))))) 75 0 w = _
        rw [gL_sL, if_pos ⟨rfl, rfl, rfl⟩]
    obtain ⟨S1, e1, F1, D1, K1, L1, V1⟩ := mk 0 (by decide) S0 0 Fm.rf hd0 hk0 (fun i hi => ⟨rfl, rfl, rfl, rfl⟩) hv0
    obtain ⟨S2, e2, F2, D2, K2, L2, V2⟩ := mk 1 (by decide) S1 _ F1 D1 K1 L1 V1
    refine ⟨S2, fun m => ?_, F2, D2, K2, L2⟩
    rw [show TT (q + 1) + m = 3 * (TT q + 1) + 1 + (3 * (TT q + 1) + 1 + m) by show 6 * TT q + 8 + m = _; omega, e1, if_pos rfl, e2, if_neg (by decide)]
    unfold f_X7_bestOf_b135
    rw [if_neg (show ¬ nI w = (5 : Int32) by rw [q_eqR 5 (by decide) (by omega)]; omega), ck_in (ib_nI (by omega) (by decide)), q_cl (by omega), V2.2.2.2, Nat.zero_add, show bsT L (q + 1) (c w) = mx3 (fun x => bsT L q (stpB L (4 - q) (c w) 0 x)) + mx3 (fun x => bsT L q (stpB L (4 - q) (c w) 1 x)) from rfl, show 4 - q = w by omega]
theorem s_bestOf {E : EN} {S : ST} {L : Nat → Nat → Nat → Nat → Nat → Nat} {p g0 : Nat} {r0 : Nat → Nat} (hN : 20300 ≤ E.1) (hp : p < 8) (hg : g0 < 5) (hr0 : smf r0 0 ≤ 9999) (h42 : gI S 42 0 p = nI g0) (h45 : ∀ s, s < 5 → gI S 45 0 (5 * p + s) = nI (r0 s)) (hL : okL L) (hd : LD S L) :
    ∃ S2, f_X7_bestOf E S (nI p) = some (lN (bsT L 5 (r0, g0, 0, 0, 0)), S2) ∧ Fm ((1, 31) :: wJ) S S2 ∧ LD S2 L := by
  have r9 : ∀ s, s < 5 → r0 s < 2147483648 := fun s hs => by
    rw [smf_0] at hr0
    have hs' : s = 0 ∨ s = 1 ∨ s = 2 ∨ s = 3 ∨ s = 4 := by omega
    rcases hs' with rfl | rfl | rfl | rfl | rfl <;> omega
  obtain ⟨S1, e1, F1, b1, b2, b3, b4, b5⟩ := s_beginM (E := E) (S := S) (by omega) hp h45 r9 (nI g0)
  have F2 := enS_F (S := S1) (w := 0)
  obtain ⟨y1, y2⟩ := enS_v S1 0
  have ok0 : okC 0 (r0, g0, 0, 0, 0) := ⟨hg, Nat.le_refl _, by show 0 < 2; decide, by show 0 < 2; decide, by show smf r0 0 ≤ 9999 * 1; omega⟩
  obtain ⟨S3, e3, F3, D3, -, -⟩ := s_bestRec (E := E) (by omega) hL 5 (enS S1 0) (fun _ => (r0, g0, 0, 0, 0)) 0 rfl ((hd.keep (F1.ag rfl)).keep (F2.ag rfl)) (fun i hi => by
    have e : i = 0 := by omega
    subst e
    exact KM.keep ⟨fun s hs => by rw [Nat.mul_zero, Nat.zero_add]; exact b1 s hs, b2, b3, b4⟩ (F2.ag rfl)) ok0 y1
  refine ⟨S3, ?_, ((F1.mono rfl).trans (F2.mono rfl)).trans (F3.mono rfl), D3⟩
  have t5 : TT 5 = 20216 := by decide
  obtain ⟨m, hm⟩ : ∃ m, E.1 = TT 5 + m := ⟨E.1 - TT 5, by omega⟩
  unfold f_X7_bestOf
  rw [ck_in (ib_nI hp (by decide)), q_cl (by omega), h42, bd_some e1, show (0 : Int32) = nI 0 from rfl, bd_some (s_enter (by decide)), hm, e3]
  unfold f_X7_bestOf_b153
  rw [if_pos (show nI 0 = (0 : Int32) from rfl)]
