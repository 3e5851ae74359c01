/-! PURE PART: the path of a pupil; the class' steps along it -/
/-- row, class, moved, changed, the last mark -/
abbrev CS := (Nat → Nat) × Nat × Nat × Nat × Nat
def stpB (L : Nat → Nat → Nat → Nat → Nat → Nat) (w : Nat) (c : CS) (b : Nat) (x : Int32) : CS := (nxr L w c.2.1 c.2.2.1 b c.1, hel c.2.1 x, c.2.2.1 + chg c.2.1 x, chg c.2.1 x, b)
def wsB (L : Nat → Nat → Nat → Nat → Nat → Nat) (k n w : Nat) (c : CS) (b : Nat) : Int32 := wis k n w b c.2.2.2.2 c.2.2.2.1 c.2.1 (nxr L w c.2.1 c.2.2.1 b c.1)
def stp (L : Nat → Nat → Nat → Nat → Nat → Nat) (k n w : Nat) (c : CS) (b : Nat) : CS := stpB L w c b (wsB L k n w c b)
def pth (L : Nat → Nat → Nat → Nat → Nat → Nat) (k n g0 : Nat) (r0 : Nat → Nat) (M : Nat) : Nat → CS
  | 0 => (r0, g0, 0, 0, 0)
  | w + 1 => stp L k n w (pth L k n g0 r0 M w) (M / 2 ^ w % 2)
/-- what holds of a place on a path -/
def okC (w : Nat) (c : CS) : Prop := c.2.1 < 5 ∧ c.2.2.1 ≤ w ∧ c.2.2.2.1 < 2 ∧ c.2.2.2.2 < 2 ∧ smf c.1 0 ≤ 9999 * 100 ^ w
/-- chances of at most ten -/
def okL (L : Nat → Nat → Nat → Nat → Nat → Nat) : Prop := ∀ w g m s, L 0 w g m s ≤ 10 ∧ L 1 w g m s ≤ 10 ∧ L 2 w g m s ≤ 99
theorem okL_lsR (S : ST) (t so : Nat) : okL (lsR S t so) := fun w g m s => ⟨lsR_0 S t so w g m s, lsR_1 S t so w g m s, lsR_2 S t so w g m s⟩
theorem okC.stpB {L : Nat → Nat → Nat → Nat → Nat → Nat} (hL : okL L) {w : Nat} {c : CS} (h : okC w c) {b : Nat} (hb : b < 2) (x : Int32) : okC (w + 1) (stpB L w c b x) := by
  obtain ⟨h1, h2, h3, h4, h5⟩ := h
  have hc : chg c.2.1 x < 2 := by unfold chg; split <;> decide
  refine ⟨?_, ?_, hc, hb, ?_⟩
  · have := hel_le (g := c.2.1) (by omega) x
    show hel c.2.1 x < 5
    omega
  · show c.2.2.1 + chg c.2.1 x ≤ w + 1
    omega
  · have := nxr_le (L := L) (w := w) (g := c.2.1) (m := c.2.2.1) (b := b) (r := c.1) (fun s => (hL w _ _ s).1) (fun s => (hL w _ _ s).2.1)
    show smf (nxr L w c.2.1 c.2.2.1 b c.1) 0 ≤ 9999 * 100 ^ (w + 1)
    rw [Nat.pow_succ]
    omega
theorem okC.pth {L : Nat → Nat → Nat → Nat → Nat → Nat} (hL : okL L) {k n g0 M : Nat} {r0 : Nat → Nat} (hg : g0 < 5) (hr : smf r0 0 ≤ 9999) : ∀ w, okC w (pth L k n g0 r0 M w)
  | 0 => ⟨hg, Nat.le_refl _, by show 0 < 2; decide, by show 0 < 2; decide, by show smf r0 0 ≤ 9999 * 1; omega⟩
  | w + 1 => (okC.pth hL hg hr w).stpB hL (Nat.mod_lt _ (by decide)) _
theorem okC.bnd {w : Nat} {c : CS} (h : okC w c) (hw : w ≤ 5) : smf c.1 0 ≤ 99990000000000 := by
  have h5 := h.2.2.2.2
  have : 100 ^ w ≤ 100 ^ 5 := Nat.pow_le_pow_right (by decide) hw
  omega
/-- the class' memory of one week -/
def KC (S : ST) (w : Nat) (c : CS) : Prop := (∀ s, s < 5 → gL S 28 w s = lN (c.1 s)) ∧ gI S 18 0 w = nI c.2.1 ∧ gI S 19 0 w = nI c.2.2.1 ∧ (0 < w → (gI S 18 0 w = gI S 18 0 (w - 1) ↔ c.2.2.2.1 = 0))
/-- .. and of all up to w; M the marks -/
def KA (S : ST) (w : Nat) (c : Nat → CS) (M : Nat) : Prop := (∀ i, i ≤ w → KC S i (c i)) ∧ M < 32 ∧ gI S 16 0 6 = nI M ∧ ∀ i, i < w → M / 2 ^ i % 2 = (c (i + 1)).2.2.2.2
/-- a sort's pupil of a kind and number on his way -/
def KW (E : EN) (S : ST) (L : Nat → Nat → Nat → Nat → Nat → Nat) (t so k n : Nat) : Prop := RR E S ∧ RCt E S t so ∧ lsR S t so = L ∧ k < 6 ∧ n < 10 ∧ gI S 16 0 4 = nI k ∧ gI S 16 0 5 = nI n
theorem KW.keep {E : EN} {S S1 : ST} {L : Nat → Nat → Nat → Nat → Nat → Nat} {t so k n : Nat} (h : KW E S L t so k n) (a : Ag dRR S S1) (a2 : Ag [(16, 5), (16, 6)] S S1) (hc : RCt E S1 t so) : KW E S1 L t so k n := by
  obtain ⟨h1, h2, h3, h4, h5, h6, h7⟩ := h
  exact ⟨h1.keep a, hc, (lsR_keep a t so).trans h3, h4, h5, (a2.I rfl).trans h6, (a2.I rfl).trans h7⟩
theorem KW.okL {E : EN} {S : ST} {L : Nat → Nat → Nat → Nat → Nat → Nat} {t so k n : Nat} (h : KW E S L t so k n) : okL L := h.2.2.1 ▸ okL_lsR S t so
def ud (c : Nat → CS) (w : Nat) (x : CS) : Nat → CS := fun i => if i = w then x else c i
/-- a week passes -/
theorem c_pass {E : EN} {S : ST} {L : Nat → Nat → Nat → Nat → Nat → Nat} {t so k n w b M : Nat} {c : Nat → CS} (hN : 3000 ≤ E.1) (hw : w < 5) (hb : b < 2) (h : KW E S L t so k n) (hk : KA S w c M) (ok : okC w (c w)) :
    ∃ S2, f_X1_pass E S (nI w) (nI b) = some S2 ∧ Fm [(16, 7), (28, 0), (11, 0), (12, 0), (13, 0)] S S2 ∧ KW E S2 L t so k n ∧ (∀ i, i ≤ w → KC S2 i (c i)) ∧ gI S2 16 0 6 = nI (setb M w b) ∧ (∀ s, s < 5 → gL S2 28 (w + 1) s = lN (nxr L w (c w).2.1 (c w).2.2.1 b (c w).1 s)) ∧ f_X1_wish E S2 (nI w) = some (wsB L k n w (c w) b) := by
  obtain ⟨ka, kM, k16, kb⟩ := hk
  obtain ⟨r1, r2, r3, r4⟩ := ka w (Nat.le_refl _)
  obtain ⟨o1, o2, o3, o4, o5⟩ := id ok
  obtain ⟨w1, w2, w3, w4, w5, w6, w7⟩ := id h
  obtain ⟨S2, e2, F2, c2, m2, i2, v2⟩ := s_pass (E := E) hN w1 w2 hw o1 (show (c w).2.2.1 < 6 by omega) hb kM r2 r3 r1 k16
  rw [w3] at v2
  have hKW : KW E S2 L t so k n := h.keep (F2.ag rfl) (F2.ag rfl) c2
  have hKC : ∀ i, i ≤ w → KC S2 i (c i) := fun i hi => by
    obtain ⟨q1, q2, q3, q4⟩ := ka i hi
    exact ⟨fun s hs => (i2 i s (by omega)).trans (q1 s hs), (F2.I rfl).trans q2, (F2.I rfl).trans q3, fun h0 => by rw [F2.I rfl, F2.I rfl]; exact q4 h0⟩
  refine ⟨S2, e2, F2, hKW, hKC, m2, v2, ?_⟩
  obtain ⟨z1, z2, z3, z4⟩ := hKC w (Nat.le_refl _)
  obtain ⟨s1, s2, s3⟩ := q_setb kM hw hb
  have hB : smf (nxr L w (c w).2.1 (c w).2.2.1 b (c w).1) 0 ≤ 10000000000000000 := by
    have := (ok.stpB h.okL hb 0).bnd (by omega)
    exact Nat.le_trans this (by decide)
  exact s_wish (E := E) (by omega) hw w4 w5 o1 s2 hKW.2.2.2.2.2.1 hKW.2.2.2.2.2.2 m2 s3 (fun h0 => by
    rw [q_setb2 kM hw hb (show w - 1 < 5 by omega) (by omega)]
    have := kb (w - 1) (by omega)
    rw [show w - 1 + 1 = w by omega] at this
    exact this) z4 z2 v2 hB
/-- .. and is settled by x -/
theorem c_settle {E : EN} {S : ST} {L : Nat → Nat → Nat → Nat → Nat → Nat} {t so k n w b M : Nat} {c : Nat → CS} {x : Int32} (hw : w < 5) (hb : b < 2) (hx : isBy x) (h : KW E S L t so k n) (hM : M < 32) (hk : ∀ i, i ≤ w → KC S i (c i)) (k16 : gI S 16 0 6 = nI (setb M w b)) (kb : ∀ i, i < w → M / 2 ^ i % 2 = (c (i + 1)).2.2.2.2) (hv : ∀ s, s < 5 → gL S 28 (w + 1) s = lN (nxr L w (c w).2.1 (c w).2.2.1 b (c w).1 s)) (ok : okC w (c w)) :
    ∃ S2, f_X1_settle E S (nI w) x = some S2 ∧ Fm [(18, 0), (19, 0)] S S2 ∧ KW E S2 L t so k n ∧ KA S2 (w + 1) (ud c (w + 1) (stpB L w (c w) b x)) (setb M w b) := by
  obtain ⟨r1, r2, r3, r4⟩ := hk w (Nat.le_refl _)
  obtain ⟨o1, o2, o3, o4, o5⟩ := id ok
  obtain ⟨s1, s2, s3⟩ := q_setb hM hw hb
  have hl := hel_le (g := (c w).2.1) (by omega) x
  have F : Fm [(18, 0), (19, 0)] S (sI (sI S 18 0 (w + 1) (nI (hel (c w).2.1 x))) 19 0 (w + 1) (nI ((c w).2.2.1 + chg (c w).2.1 x))) := (Fm.rf.sI rfl rfl).sI rfl rfl
  refine ⟨_, s_settle hw o1 hx r2 r3, F, h.keep (F.ag rfl) (F.ag rfl) (h.2.1.keep (F.ag rfl)), fun i hi => ?_, s2, (F.I rfl).trans k16, fun i hi => ?_⟩
  · by_cases z : i = w + 1
    · subst z
      unfold ud
      rw [if_pos rfl]
      refine ⟨fun s hs => (F.L rfl).trans (hv s hs), ?_, ?_, fun _ => ?_⟩
      · rw [gI_ne (by omega), gI_same]
        rfl
      · rw [gI_same]
        rfl
      · rw [gI_ne (by omega), gI_same, Nat.add_sub_cancel, gI_ne (by omega), gI_ne (by omega), r2]
        show nI (hel (c w).2.1 x) = nI (c w).2.1 ↔ chg (c w).2.1 x = 0
        unfold chg
        rw [nI_eq (by omega) (by omega)]
        by_cases y : hel (c w).2.1 x = (c w).2.1
        · rw [if_pos y]
          exact ⟨fun _ => rfl, fun _ => y⟩
        · rw [if_neg y]
          exact ⟨fun q => absurd q y, fun q => absurd q (by decide)⟩
    · obtain ⟨q1, q2, q3, q4⟩ := hk i (by omega)
      unfold ud
      rw [if_neg z]
      refine ⟨fun s hs => (F.L rfl).trans (q1 s hs), ?_, ?_, fun h0 => ?_⟩
      · rw [gI_ne (by omega), gI_ne (by omega)]
        exact q2
      · rw [gI_ne (by omega), gI_ne (by omega)]
        exact q3
      · rw [gI_ne (by omega), gI_ne (by omega), gI_ne (by omega), gI_ne (by omega)]
        exact q4 h0
  · unfold ud
    by_cases z : i = w
    · subst z
      rw [if_pos rfl, s3]
      rfl
    · rw [if_neg (by omega), q_setb2 hM hw hb (by omega) z]
      exact kb i (by omega)
