/-! PURE PART: the whole way, on both sides -/
theorem ud_self (c : Nat → CS) (w : Nat) : ud c w (c w) = c := by
  funext i
  unfold ud
  by_cases z : i = w
  · rw [if_pos z, z]
  · rw [if_neg z]
/-- the last wish of W weeks -/
def lst (L : Nat → Nat → Nat → Nat → Nat → Nat) (k n g0 : Nat) (r0 : Nat → Nat) (M : Nat) : Nat → Int32
  | 0 => 0
  | v + 1 => wsB L k n v (pth L k n g0 r0 M v) (M / 2 ^ v % 2)
def wF : List (Nat × Nat) := [(16, 7), (28, 0), (11, 0), (12, 0), (13, 0), (18, 0), (19, 0)]
theorem s_followC {E : EN} {S : ST} {L : Nat → Nat → Nat → Nat → Nat → Nat} {t so k n g0 M W : Nat} {r0 : Nat → Nat} (hN : 3000 ≤ E.1) (hW : W ≤ 5) (hM : M < 32) (hg : g0 < 5) (hr0 : smf r0 0 ≤ 9999) (h : KW E S L t so k n) (h0 : KA S 0 (pth L k n g0 r0 M) 0) :
    ∃ S2 M2, f_X1_follow E S (nI W) (nI M) = some S2 ∧ Fm wF S S2 ∧ KW E S2 L t so k n ∧ KA S2 W (pth L k n g0 r0 M) M2 := by
  have lp : ∀ (q v m M1 : Nat) (S1 : ST), v + q = W → q < m → Fm wF S S1 → KW E S1 L t so k n → KA S1 v (pth L k n g0 r0 M) M1 → ∃ S2 M2, f_X1_follow_b2 E m S1 (nI W) (nI M) (nI v) = some S2 ∧ Fm wF S S2 ∧ KW E S2 L t so k n ∧ KA S2 W (pth L k n g0 r0 M) M2 := by
    intro q
    induction q with
    | zero =>
      intro v m M1 S1 hv hm F hK hA
      obtain ⟨m, rfl⟩ : ∃ m', m = m' + 1 := ⟨m - 1, by omega⟩
      have e : v = W := by omega
      subst e
      refine ⟨S1, M1, ?_, F, hK, hA⟩
      rw [show f_X1_follow_b2 E (m + 1) = g_X1_follow_b2 E (f_X1_follow_b2 E m) from rfl]
      unfold g_X1_follow_b2
      rw [if_pos (by rw [q_le (by omega) (by omega)]; omega)]
    | succ q ih =>
      intro v m M1 S1 hv hm F hK hA
      obtain ⟨m, rfl⟩ : ∃ m', m = m' + 1 := ⟨m - 1, by omega⟩
      have okc := okC.pth hK.okL (k := k) (n := n) (M := M) hg hr0 v
      have hb : M / 2 ^ v % 2 < 2 := Nat.mod_lt _ (by decide)
      obtain ⟨S2, e2, F2, K2, c2, m2, v2, ws2⟩ := c_pass (E := E) hN (show v < 5 by omega) hb hK hA okc
      obtain ⟨S3, e3, F3, K3, A3⟩ := c_settle (E := E) (M := M1) (show v < 5 by omega) hb (wis_by k n v (M / 2 ^ v % 2) (pth L k n g0 r0 M v).2.2.2.2 (pth L k n g0 r0 M v).2.2.2.1 (pth L k n g0 r0 M v).2.1 (nxr L v (pth L k n g0 r0 M v).2.1 (pth L k n g0 r0 M v).2.2.1 (M / 2 ^ v % 2) (pth L k n g0 r0 M v).1)) K2 hA.2.1 c2 m2 hA.2.2.2 v2 okc
      have eu : ud (pth L k n g0 r0 M) (v + 1) (stpB L v (pth L k n g0 r0 M v) (M / 2 ^ v % 2) (wis k n v (M / 2 ^ v % 2) (pth L k n g0 r0 M v).2.2.2.2 (pth L k n g0 r0 M v).2.2.2.1 (pth L k n g0 r0 M v).2.1 (nxr L v (pth L k n g0 r0 M v).2.1 (pth L k n g0 r0 M v).2.2.1 (M / 2 ^ v % 2) (pth L k n g0 r0 M v).1))) = pth L k n g0 r0 M := ud_self (pth L k n g0 r0 M) (v + 1)
      rw [eu] at A3
      obtain ⟨S4, M4, e4, R⟩ := ih (v + 1) m _ S3 (by omega) (by omega) ((F.trans (F2.mono rfl)).trans (F3.mono rfl)) K3 A3
      refine ⟨S4, M4, ?_, R⟩
      rw [← e4, show f_X1_follow_b2 E (m + 1) = g_X1_follow_b2 E (f_X1_follow_b2 E m) from rfl]
      unfold g_X1_follow_b2
      rw [if_neg (by rw [q_le (by omega) (by omega)]; omega), if_neg (by rw [q_leL 5 (by decide) (by omega)]; omega), q_bit hM (show v < 5 by omega), bd_some e2, bd_some ws2, bd_some (show f_X1_settle E S2 (nI v) (wsB L k n v (pth L k n g0 r0 M v) (M / 2 ^ v % 2)) = some S3 from e3), lt_e, nI_1]
  unfold f_X1_follow
  exact lp W 0 E.1 0 S (by omega) (by omega) Fm.rf h h0
/-- the last wish, asked again -/
theorem s_wishC {E : EN} {S : ST} {L : Nat → Nat → Nat → Nat → Nat → Nat} {t so k n g0 M W M2 : Nat} {r0 : Nat → Nat} (hN : 3000 ≤ E.1) (hW : W ≤ 5) (hg : g0 < 5) (hr0 : smf r0 0 ≤ 9999) (h : KW E S L t so k n) (hA : KA S W (pth L k n g0 r0 M) M2) : f_X1_wish E S (nI W - (1 : Int32)) = some (lst L k n g0 r0 M W) := by
  rcases W with _ | v
  · rw [q_z1]
    unfold f_X1_wish
    rw [if_pos (by decide)]
    rfl
  · rw [q_m1]
    obtain ⟨ka, kM, k16, kb⟩ := hA
    obtain ⟨z1, z2, z3, z4⟩ := ka v (by omega)
    obtain ⟨y1, -, -, -⟩ := ka (v + 1) (Nat.le_refl _)
    have okc := okC.pth h.okL (k := k) (n := n) (M := M) hg hr0
    have hb : M2 / 2 ^ v % 2 = M / 2 ^ v % 2 := kb v (by omega)
    obtain ⟨w1, w2, w3, w4, w5, w6, w7⟩ := id h
    exact s_wish (E := E) (by omega) (show v < 5 by omega) w4 w5 (okc v).1 kM w6 w7 k16 hb (fun h0 => by
      have := kb (v - 1) (by omega)
      rw [show v - 1 + 1 = v by omega] at this
      exact this) z4 z2 y1 (Nat.le_trans ((okc (v + 1)).bnd (by omega)) (by decide))
/-- the reference's memory of one week -/
def KM (S : ST) (w : Nat) (c : CS) : Prop := (∀ s, s < 5 → gL S 66 0 (5 * w + s) = lN (c.1 s)) ∧ gI S 67 0 w = nI c.2.1 ∧ gI S 68 0 w = nI c.2.2.1 ∧ gI S 69 0 w = nI c.2.2.2.1
def wG : List (Nat × Nat) := [(66, 0), (67, 0), (68, 0), (69, 0), (1, 31)]
/-- a week of the reference, with its move x -/
theorem m_week {E : EN} {S : ST} {L : Nat → Nat → Nat → Nat → Nat → Nat} {w b : Nat} {c : Nat → CS} (hN : 10 ≤ E.1) (hw : w < 5) (hb : b < 2) (hL : okL L) (hd : LD S L) (hk : ∀ i, i ≤ w → KM S i (c i)) (ok : okC w (c w)) :
    ∃ S2, f_X7_goWeek E S (nI w) (nI b) = some S2 ∧ Fm [(66, 0)] S S2 ∧ LD S2 L ∧ (∀ i, i ≤ w → KM S2 i (c i)) ∧ ∀ s, s < 5 → gL S2 66 0 (5 * (w + 1) + s) = lN (nxr L w (c w).2.1 (c w).2.2.1 b (c w).1 s) := by
  obtain ⟨r1, r2, r3, r4⟩ := hk w (Nat.le_refl _)
  obtain ⟨o1, o2, o3, o4, o5⟩ := id ok
  obtain ⟨S2, e2, F2, i2, v2⟩ := s_goWeek (E := E) (b := b) hN hd hw o1 (show (c w).2.2.1 < 6 by omega) hb (fun s => (hL w _ _ s).1) (fun s => (hL w _ _ s).2.1) r2 r3 r1
  refine ⟨S2, e2, F2, hd.keep (F2.ag rfl), fun i hi => ?_, fun s hs => ?_⟩
  · obtain ⟨q1, q2, q3, q4⟩ := hk i hi
    exact ⟨fun s hs => (i2 _ (by omega)).trans (q1 s hs), (F2.I rfl).trans q2, (F2.I rfl).trans q3, (F2.I rfl).trans q4⟩
  · rw [show 5 * (w + 1) + s = 5 * w + 5 + s by omega]
    exact v2 s hs
theorem m_move {E : EN} {S : ST} {L : Nat → Nat → Nat → Nat → Nat → Nat} {w b : Nat} {c : Nat → CS} {x : Int32} (hw : w < 5) (hx : isBy x) (hd : LD S L) (hk : ∀ i, i ≤ w → KM S i (c i)) (hv : ∀ s, s < 5 → gL S 66 0 (5 * (w + 1) + s) = lN (nxr L w (c w).2.1 (c w).2.2.1 b (c w).1 s)) (ok : okC w (c w)) :
    ∃ S2, f_X7_move E S (nI w) x = some S2 ∧ Fm [(67, 0), (68, 0), (69, 0)] S S2 ∧ LD S2 L ∧ ∀ i, i ≤ w + 1 → KM S2 i (ud c (w + 1) (stpB L w (c w) b x) i) := by
  obtain ⟨r1, r2, r3, r4⟩ := hk w (Nat.le_refl _)
  obtain ⟨o1, o2, o3, o4, o5⟩ := id ok
  have F : Fm [(67, 0), (68, 0), (69, 0)] S (sI (sI (sI S 67 0 (w + 1) (nI (hel (c w).2.1 x))) 69 0 (w + 1) (nI (chg (c w).2.1 x))) 68 0 (w + 1) (nI ((c w).2.2.1 + chg (c w).2.1 x))) := ((Fm.rf.sI rfl rfl).sI rfl rfl).sI rfl rfl
  refine ⟨_, s_move hw o1 hx r2 r3, F, hd.keep (F.ag rfl), fun i hi => ?_⟩
  unfold ud
  by_cases z : i = w + 1
  · subst z
    rw [if_pos rfl]
    refine ⟨fun s hs => (F.L rfl).trans (hv s hs), ?_, ?_, ?_⟩
    · rw [gI_ne (by omega), gI_ne (by omega), gI_same]
      rfl
    · rw [gI_same]
      rfl
    · rw [gI_ne (by omega), gI_same]
      rfl
  · obtain ⟨q1, q2, q3, q4⟩ := hk i (by omega)
    rw [if_neg z]
    refine ⟨fun s hs => (F.L rfl).trans (q1 s hs), ?_, ?_, ?_⟩
    · rw [gI_ne (by omega), gI_ne (by omega), gI_ne (by omega)]
      exact q2
    · rw [gI_ne (by omega), gI_ne (by omega), gI_ne (by omega)]
      exact q3
    · rw [gI_ne (by omega), gI_ne (by omega), gI_ne (by omega)]
      exact q4
theorem s_goM {E : EN} {S : ST} {L : Nat → Nat → Nat → Nat → Nat → Nat} {p k n g0 M W : Nat} {r0 : Nat → Nat} (hN : 3000 ≤ E.1) (hp : p < 8) (hW : W ≤ 5) (hM : M < 32) (hk : k < 6) (hn : n < 10) (hg : g0 < 5) (hr0 : smf r0 0 ≤ 9999) (h45 : ∀ s, s < 5 → gI S 45 0 (5 * p + s) = nI (r0 s)) (hL : okL L) (hd : LD S L) :
    ∃ S2, f_X7_go E S (nI p) (nI g0) (nI k) (nI n) (nI W) (nI M) = some S2 ∧ Fm wG S S2 ∧ LD S2 L ∧ (∀ i, i ≤ W → KM S2 i (pth L k n g0 r0 M i)) ∧ gI S2 1 0 30 = lst L k n g0 r0 M W := by
  have r9 : ∀ s, s < 5 → r0 s < 2147483648 := fun s hs => by
    rw [smf_0] at hr0
    have hs' : s = 0 ∨ s = 1 ∨ s = 2 ∨ s = 3 ∨ s = 4 := by omega
    rcases hs' with rfl | rfl | rfl | rfl | rfl <;> omega
  obtain ⟨S1, e1, F1, b1, b2, b3, b4, b5⟩ := s_beginM (E := E) (S := S) (by omega) hp h45 r9 (nI g0)
  have okc := okC.pth hL (k := k) (n := n) (M := M) hg hr0
  have lp : ∀ (q v m : Nat) (S1 : ST), v + q = W → q < m → Fm wG S S1 → LD S1 L → (∀ i, i ≤ v → KM S1 i (pth L k n g0 r0 M i)) → gI S1 1 0 30 = lst L k n g0 r0 M v → ∃ S2, f_X7_go_b9 E m S1 (nI k) (nI n) (nI W) (nI M) (nI v) = some S2 ∧ Fm wG S S2 ∧ LD S2 L ∧ (∀ i, i ≤ W → KM S2 i (pth L k n g0 r0 M i)) ∧ gI S2 1 0 30 = lst L k n g0 r0 M W := by
    intro q
    induction q with
    | zero =>
      intro v m S1 hv hm F hD hA h30
      obtain ⟨m, rfl⟩ : ∃ m', m = m' + 1 := ⟨m - 1, by omega⟩
      have e : v = W := by omega
      subst e
      refine ⟨S1, ?_, F, hD, hA, h30⟩
      rw [show f_X7_go_b9 E (m + 1) = g_X7_go_b9 E (f_X7_go_b9 E m) from rfl]
      unfold g_X7_go_b9
      rw [if_pos (by rw [q_le (by omega) (by omega)]; omega)]
    | succ q ih =>
      intro v m S1 hv hm F hD hA h30
      obtain ⟨m, rfl⟩ : ∃ m', m = m' + 1 := ⟨m - 1, by omega⟩
      have hb : M / 2 ^ v % 2 < 2 := Nat.mod_lt _ (by decide)
      obtain ⟨S2, e2, F2, D2, c2, v2⟩ := m_week (E := E) (b := M / 2 ^ v % 2) (c := pth L k n g0 r0 M) (by omega) (show v < 5 by omega) hb hL hD hA (okc v)
      obtain ⟨z1, z2, z3, z4⟩ := c2 v (Nat.le_refl _)
      have hB : smf (nxr L v (pth L k n g0 r0 M v).2.1 (pth L k n g0 r0 M v).2.2.1 (M / 2 ^ v % 2) (pth L k n g0 r0 M v).1) 0 ≤ 10000000000000000 := Nat.le_trans ((okc (v + 1)).bnd (by omega)) (by decide)
      have mo := s_moveOf (E := E) (S := S2) (by omega) (show v < 5 by omega) hk hn (okc v).1 hM rfl (bp := (pth L k n g0 r0 M v).2.2.2.2) (fun h0 => by
        obtain ⟨u, rfl⟩ : ∃ u, v = u + 1 := ⟨v - 1, by omega⟩
        rfl) (okc v).2.2.2.1 z4 (okc v).2.2.1 z2 v2 hB
      have F3 : Fm [(1, 31)] S2 (sI S2 1 0 30 (wsB L k n v (pth L k n g0 r0 M v) (M / 2 ^ v % 2))) := Fm.rf.sI rfl rfl
      obtain ⟨S4, e4, F4, D4, A4⟩ := m_move (E := E) (S := sI S2 1 0 30 (wsB L k n v (pth L k n g0 r0 M v) (M / 2 ^ v % 2))) (b := M / 2 ^ v % 2) (c := pth L k n g0 r0 M) (x := wsB L k n v (pth L k n g0 r0 M v) (M / 2 ^ v % 2)) (show v < 5 by omega) (wis_by _ _ _ _ _ _ _ _) (D2.keep (F3.ag rfl)) (fun i hi => by
        obtain ⟨q1, q2, q3, q4⟩ := c2 i hi
        exact ⟨fun s hs => (F3.L rfl).trans (q1 s hs), (F3.I rfl).trans q2, (F3.I rfl).trans q3, (F3.I rfl).trans q4⟩) (fun s hs => (F3.L rfl).trans (v2 s hs)) (okc v)
      have eu : ud (pth L k n g0 r0 M) (v + 1) (stpB L v (pth L k n g0 r0 M v) (M / 2 ^ v % 2) (wsB L k n v (pth L k n g0 r0 M v) (M / 2 ^ v % 2))) = pth L k n g0 r0 M := ud_self (pth L k n g0 r0 M) (v + 1)
      rw [eu] at A4
      obtain ⟨S5, e5, R⟩ := ih (v + 1) m S4 (by omega) (by omega) (((F.trans (F2.mono rfl)).trans (F3.mono rfl)).trans (F4.mono rfl)) D4 A4 (by rw [F4.I rfl, gI_same]; rfl)
      refine ⟨S5, ?_, R⟩
      rw [← e5, show f_X7_go_b9 E (m + 1) = g_X7_go_b9 E (f_X7_go_b9 E m) from rfl]
      unfold g_X7_go_b9
      rw [if_neg (by rw [q_le (by omega) (by omega)]; omega), q_bit hM (show v < 5 by omega), bd_some e2, bd_some (show f_X7_moveOf E S2 (nI k) (nI n) (nI v) (nI M) = some (wsB L k n v (pth L k n g0 r0 M v) (M / 2 ^ v % 2)) from mo), lt_e, gI_same, bd_some e4, lt_e, nI_1]
  unfold f_X7_go
  rw [bd_some e1]
  refine lp W 0 E.1 S1 (by omega) (by omega) F1 (hd.keep (F1.ag rfl)) (fun i hi => ?_) b5
  have e : i = 0 := by omega
  subst e
  exact ⟨fun s hs => by rw [Nat.mul_zero, Nat.zero_add]; exact b1 s hs, b2, b3, b4⟩
