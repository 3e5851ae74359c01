/-! PURE PART: all marks of five weeks: the class -/
def wE : List (Nat × Nat) := [(11, 0), (12, 0), (13, 0)]
theorem s_endsNow {E : EN} {S : ST} {L : Nat → Nat → Nat → Nat → Nat → Nat} {t so k n : Nat} {c : CS} (hN : 3000 ≤ E.1) (h : KW E S L t so k n) (hc : KC S 5 c) (ok : okC 5 c) :
    ∃ S2, f_X1_endsNow E S = some (lN (endV L c), S2) ∧ Fm wE S S2 ∧ KW E S2 L t so k n := by
  obtain ⟨c1, c2, c3, c4⟩ := hc
  obtain ⟨o1, o2, -, -, -⟩ := id ok
  have main : ∀ (q v m : Nat) (S1 : ST), v + q = 5 → q < m → Fm wE S S1 → KW E S1 L t so k n → ∃ S2, f_X1_endsNow_b4 E m S1 (lN (endP L c v)) (nI v) = some (lN (endV L c), S2) ∧ Fm wE S S2 ∧ KW E S2 L t so k n := by
    intro q
    induction q with
    | zero =>
      intro v m S1 hv hm F K
      obtain ⟨m, rfl⟩ : ∃ j, m = j + 1 := ⟨m - 1, by omega⟩
      have e : v = 5 := by omega
      subst e
      refine ⟨S1, ?_, F, K⟩
      rw [show f_X1_endsNow_b4 E (m + 1) = g_X1_endsNow_b4 E (f_X1_endsNow_b4 E m) from rfl]
      unfold g_X1_endsNow_b4
      rw [if_pos (show (5 : Int32) ≤ nI 5 by decide)]
      rfl
    | succ q ih =>
      intro v m S1 hv hm F K
      obtain ⟨m, rfl⟩ : ∃ j, m = j + 1 := ⟨m - 1, by omega⟩
      obtain ⟨w1, w2, w3, w4, w5, w6, w7⟩ := id K
      obtain ⟨S2, e2, F2, R2⟩ := s_asks (E := E) hN w1 w2 (key := 2) (st := v) (g := c.2.1) (w := 5) (m := c.2.2.1) (by decide) (by omega) (by decide) o1 (by omega)
      have ev : rvS S1 t 2 v c.2.1 5 so c.2.2.1 = L 2 5 c.2.1 c.2.2.1 v := by rw [← w3]; rfl
      have hv99 : L 2 5 c.2.1 c.2.2.1 v ≤ 99 := (K.okL 5 c.2.1 c.2.2.1 v).2.2
      rw [ev] at e2
      obtain ⟨S3, e3, R⟩ := ih (v + 1) m S2 (by omega) (by omega) (F.trans F2) (K.keep (F2.ag rfl) (F2.ag rfl) R2)
      refine ⟨S3, ?_, R⟩
      rw [← e3, show f_X1_endsNow_b4 E (m + 1) = g_X1_endsNow_b4 E (f_X1_endsNow_b4 E m) from rfl]
      unfold g_X1_endsNow_b4
      rw [if_neg (by rw [q_leL 5 (by decide) (by omega)]; omega), ck_in (ib_nI (by omega) (by decide)), F.I (K := 18) rfl, c2, F.I (K := 19) rfl, c3, show (2 : Int32) = nI 2 from rfl, show (5 : Int32) = nI 5 from rfl, bd2_some e2, q_cl (by omega), F.L (K := 28) rfl, c1 v (by omega), nI_l (by omega), lN_mul, lN_add, lt_e, lt_e, nI_1]
      rfl
  unfold f_X1_endsNow
  exact main 5 0 E.1 S (by omega) (by omega) Fm.rf h
/-- a week less -/
theorem KA.less {S : ST} {w : Nat} {c : Nat → CS} {x : CS} {M : Nat} (h : KA S (w + 1) (ud c (w + 1) x) M) : KA S w c M := by
  obtain ⟨h1, h2, h3, h4⟩ := h
  refine ⟨fun i hi => ?_, h2, h3, fun i hi => ?_⟩
  · have := h1 i (by omega)
    unfold ud at this
    rw [if_neg (by omega)] at this
    exact this
  · have := h4 i (by omega)
    unfold ud at this
    rw [if_neg (by omega)] at this
    exact this
theorem ud_at (c : Nat → CS) (w : Nat) (x : CS) : ud c w x w = x := by
  unfold ud
  rw [if_pos rfl]
/-- so many weeks were right -/
def bs (c : Nat → CS) : Nat → Nat
  | 0 => 0
  | w + 1 => bs c w + (c (w + 1)).2.2.2.2
theorem bs_ud (c : Nat → CS) (w : Nat) (x : CS) : ∀ v, v < w → bs (ud c w x) v = bs c v
  | 0, _ => rfl
  | v + 1, h => by
    show bs (ud c w x) v + (ud c w x (v + 1)).2.2.2.2 = bs c v + (c (v + 1)).2.2.2.2
    rw [bs_ud c w x v (by omega)]
    unfold ud
    rw [if_neg (by omega)]
def bcP (a1 : Int32) : Int32 :=
  lt_ (a1 - ((us_ a1 (1 : Int32)) &&& (1431655765 : Int32))) fun x1 =>
  lt_ ((x1 &&& (858993459 : Int32)) + ((us_ x1 (2 : Int32)) &&& (858993459 : Int32))) fun x2 =>
  lt_ ((x2 + (us_ x2 (4 : Int32))) &&& (252645135 : Int32)) fun x3 =>
  lt_ (x3 + (us_ x3 (8 : Int32))) fun x4 =>
  lt_ (x4 + (us_ x4 (16 : Int32))) fun x5 =>
  x5 &&& (63 : Int32)
theorem bc_P {E : EN} {S : ST} (x : Int32) : f_J6_bitCount_0f7a4 E S x = some (bcP x) := rfl
theorem bcP_32 {M : Nat} (h : M < 32) : bcP (nI M) = nI (pcN 5 M) ∧ pcN 5 M ≤ 5 := by
  have all : ∀ M, M < 32 → bcP (nI M) = nI (pcN 5 M) ∧ pcN 5 M ≤ 5 := by decide +kernel
  exact all M h
theorem bs_pc {c : Nat → CS} {M : Nat} (h : ∀ i, i < 5 → M / 2 ^ i % 2 = (c (i + 1)).2.2.2.2) : ∀ q, q ≤ 5 → pcN q M = bs c q
  | 0, _ => rfl
  | q + 1, hq => by
    show pcN q M + M / 2 ^ q % 2 = bs c q + (c (q + 1)).2.2.2.2
    rw [bs_pc h q (by omega), h q (by omega)]
theorem s_ends {E : EN} {L : Nat → Nat → Nat → Nat → Nat → Nat} {t so k n : Nat} (hN : 3000 ≤ E.1) : ∀ (q d : Nat) (S : ST) (c : Nat → CS) (M w : Nat), w + q = 5 → q < d → KW E S L t so k n → KA S w c M → okC w (c w) →
    ∃ S2 M2, f_X1_ends E d S (nI w) = some (lN (trG L k n (fun _ c => endV L c) q (bs c w) (c w)), S2) ∧ Fm wF S S2 ∧ KW E S2 L t so k n ∧ KA S2 w c M2 := by
  intro q
  induction q with
  | zero =>
    intro d S c M w hw hd K A ok
    obtain ⟨d, rfl⟩ : ∃ j, d = j + 1 := ⟨d - 1, by omega⟩
    have e : w = 5 := by omega
    subst e
    obtain ⟨S2, e2, F2, K2⟩ := s_endsNow (E := E) hN K (A.1 5 (Nat.le_refl _)) ok
    refine ⟨S2, M, ?_, F2.mono rfl, K2, ⟨fun i hi => ?_, A.2.1, (F2.I rfl).trans A.2.2.1, A.2.2.2⟩⟩
    · rw [show f_X1_ends E (d + 1) = b_X1_ends E (f_X1_ends E d) from rfl]
      unfold b_X1_ends
      rw [if_neg (show ¬ nI 5 < (5 : Int32) by decide), bd2_some e2]
      rfl
    · obtain ⟨q1, q2, q3, q4⟩ := A.1 i hi
      exact ⟨fun s hs => (F2.L rfl).trans (q1 s hs), (F2.I rfl).trans q2, (F2.I rfl).trans q3, fun h0 => by rw [F2.I rfl, F2.I rfl]; exact q4 h0⟩
  | succ q ih =>
    intro d S c M w hw hd K A ok
    obtain ⟨d, rfl⟩ : ∃ j, d = j + 1 := ⟨d - 1, by omega⟩
    have hw5 : w < 5 := by omega
    have one : ∀ (b m : Nat) (S1 : ST) (M1 : Nat) (v : Nat), b < 2 → Fm wF S S1 → KW E S1 L t so k n → KA S1 w c M1 →
        ∃ S5 M5, f_X1_ends_b15 E (f_X1_ends E d) (m + 1) S1 (nI w) (lN v) (nI b) = f_X1_ends_b15 E (f_X1_ends E d) m S5 (nI w) (lN (v + trG L k n (fun _ c => endV L c) q (bs c w + b) (stp L k n w (c w) b))) (nI (b + 1)) ∧ Fm wF S S5 ∧ KW E S5 L t so k n ∧ KA S5 w c M5 := fun b m S1 M1 v hb F1 K1 A1 => by
      obtain ⟨S2, e2, F2, K2, c2, m2, v2, ws2⟩ := c_pass (E := E) hN hw5 hb K1 A1 ok
      obtain ⟨S3, e3, F3, K3, A3⟩ := c_settle (E := E) (M := M1) hw5 hb (wis_by k n w b (c w).2.2.2.2 (c w).2.2.2.1 (c w).2.1 (nxr L w (c w).2.1 (c w).2.2.1 b (c w).1)) K2 A1.2.1 c2 m2 A1.2.2.2 v2 ok
      have A3' : KA S3 (w + 1) (ud c (w + 1) (stp L k n w (c w) b)) (setb M1 w b) := A3
      obtain ⟨S4, M4, e4, F4, K4, A4⟩ := ih d S3 (ud c (w + 1) (stp L k n w (c w) b)) (setb M1 w b) (w + 1) (by omega) (by omega) K3 A3' (by rw [ud_at]; exact ok.stpB K.okL hb _)
      have eb : bs (ud c (w + 1) (stp L k n w (c w) b)) (w + 1) = bs c w + b := by
        show bs (ud c (w + 1) (stp L k n w (c w) b)) w + (ud c (w + 1) (stp L k n w (c w) b) (w + 1)).2.2.2.2 = _
        rw [bs_ud c (w + 1) _ w (by omega), ud_at]
        rfl
      rw [ud_at, eb] at e4
      refine ⟨S4, M4, ?_, ((F1.trans (F2.mono rfl)).trans (F3.mono rfl)).trans F4, K4, A4.less⟩
      rw [show f_X1_ends_b15 E (f_X1_ends E d) (m + 1) = g_X1_ends_b15 E (f_X1_ends E d) (f_X1_ends_b15 E (f_X1_ends E d) m) from rfl]
      unfold g_X1_ends_b15
      rw [if_neg (by rw [q_leL 2 (by decide) (by omega)]; omega), bd_some e2, bd_some ws2, bd_some (show f_X1_settle E S2 (nI w) (wsB L k n w (c w) b) = some S3 from e3), nI_1, bd2_some e4, lt_e, lt_e, nI_1, lN_add]
    obtain ⟨m, hm⟩ : ∃ m, E.1 = m + 3 := ⟨E.1 - 3, by omega⟩
    obtain ⟨S1, M1, e1, F1, K1, A1⟩ := one 0 (m + 2) S M 0 (by decide) Fm.rf K A
    obtain ⟨S2, M2, e2, F2, K2, A2⟩ := one 1 (m + 1) S1 M1 (0 + trG L k n (fun _ c => endV L c) q (bs c w + 0) (stp L k n w (c w) 0)) (by decide) F1 K1 A1
    refine ⟨S2, M2, ?_, F2, K2, A2⟩
    rw [show f_X1_ends E (d + 1) = b_X1_ends E (f_X1_ends E d) from rfl]
    unfold b_X1_ends
    rw [if_pos (by rw [q_ltR 5 (by decide) (by omega)]; exact hw5), hm, show (0 : Int64) = lN 0 from rfl, show (0 : Int32) = nI 0 from rfl, e1, e2, show f_X1_ends_b15 E (f_X1_ends E d) (m + 1) = g_X1_ends_b15 E (f_X1_ends E d) (f_X1_ends_b15 E (f_X1_ends E d) m) from rfl]
    unfold g_X1_ends_b15
    rw [if_pos (show (2 : Int32) ≤ nI (1 + 1) by decide), Nat.zero_add, Nat.add_zero, show trG L k n (fun _ c => endV L c) (q + 1) (bs c w) (c w) = trG L k n (fun _ c => endV L c) q (bs c w) (stp L k n (4 - q) (c w) 0) + trG L k n (fun _ c => endV L c) q (bs c w + 1) (stp L k n (4 - q) (c w) 1) from rfl, show 4 - q = w by omega]
theorem s_rights {E : EN} {L : Nat → Nat → Nat → Nat → Nat → Nat} {t so k n : Nat} (hN : 3000 ≤ E.1) : ∀ (q d : Nat) (S : ST) (c : Nat → CS) (M w : Nat), w + q = 5 → q < d → KW E S L t so k n → KA S w c M → okC w (c w) →
    ∃ S2 M2, f_X1_rights E d S (nI w) = some (lN (trG L k n (fun o c => o * smf c.1 0) q (bs c w) (c w)), S2) ∧ Fm wF S S2 ∧ KW E S2 L t so k n ∧ KA S2 w c M2 := by
  intro q
  induction q with
  | zero =>
    intro d S c M w hw hd K A ok
    obtain ⟨d, rfl⟩ : ∃ j, d = j + 1 := ⟨d - 1, by omega⟩
    have e : w = 5 := by omega
    subst e
    refine ⟨S, M, ?_, Fm.rf, K, A⟩
    obtain ⟨A1, A2, A3, A4⟩ := id A
    obtain ⟨r1, -, -, -⟩ := A1 5 (Nat.le_refl _)
    obtain ⟨p1, p2⟩ := bcP_32 A2
    rw [show f_X1_rights E (d + 1) = b_X1_rights E (f_X1_rights E d) from rfl]
    unfold b_X1_rights
    rw [if_neg (show ¬ nI 5 < (5 : Int32) by decide), A3, bd_some (bc_P _), p1, show (5 : Int32) = nI 5 from rfl, bd_some (s_togetherC (by omega) (by decide) r1), nI_l (by omega), lN_mul, bs_pc A4 5 (Nat.le_refl _)]
    rfl
  | succ q ih =>
    intro d S c M w hw hd K A ok
    obtain ⟨d, rfl⟩ : ∃ j, d = j + 1 := ⟨d - 1, by omega⟩
    have hw5 : w < 5 := by omega
    have one : ∀ (b m : Nat) (S1 : ST) (M1 : Nat) (v : Nat), b < 2 → Fm wF S S1 → KW E S1 L t so k n → KA S1 w c M1 →
        ∃ S5 M5, f_X1_rights_b25 E (f_X1_rights E d) (m + 1) S1 (nI w) (lN v) (nI b) = f_X1_rights_b25 E (f_X1_rights E d) m S5 (nI w) (lN (v + trG L k n (fun o c => o * smf c.1 0) q (bs c w + b) (stp L k n w (c w) b))) (nI (b + 1)) ∧ Fm wF S S5 ∧ KW E S5 L t so k n ∧ KA S5 w c M5 := fun b m S1 M1 v hb F1 K1 A1 => by
      obtain ⟨S2, e2, F2, K2, c2, m2, v2, ws2⟩ := c_pass (E := E) hN hw5 hb K1 A1 ok
      obtain ⟨S3, e3, F3, K3, A3⟩ := c_settle (E := E) (M := M1) hw5 hb (wis_by k n w b (c w).2.2.2.2 (c w).2.2.2.1 (c w).2.1 (nxr L w (c w).2.1 (c w).2.2.1 b (c w).1)) K2 A1.2.1 c2 m2 A1.2.2.2 v2 ok
      have A3' : KA S3 (w + 1) (ud c (w + 1) (stp L k n w (c w) b)) (setb M1 w b) := A3
      obtain ⟨S4, M4, e4, F4, K4, A4⟩ := ih d S3 (ud c (w + 1) (stp L k n w (c w) b)) (setb M1 w b) (w + 1) (by omega) (by omega) K3 A3' (by rw [ud_at]; exact ok.stpB K.okL hb _)
      have eb : bs (ud c (w + 1) (stp L k n w (c w) b)) (w + 1) = bs c w + b := by
        show bs (ud c (w + 1) (stp L k n w (c w) b)) w + (ud c (w + 1) (stp L k n w (c w) b) (w + 1)).2.2.2.2 = _
        rw [bs_ud c (w + 1) _ w (by omega), ud_at]
        rfl
      rw [ud_at, eb] at e4
      refine ⟨S4, M4, ?_, ((F1.trans (F2.mono rfl)).trans (F3.mono rfl)).trans F4, K4, A4.less⟩
      rw [show f_X1_rights_b25 E (f_X1_rights E d) (m + 1) = g_X1_rights_b25 E (f_X1_rights E d) (f_X1_rights_b25 E (f_X1_rights E d) m) from rfl]
      unfold g_X1_rights_b25
      rw [if_neg (by rw [q_leL 2 (by decide) (by omega)]; omega), bd_some e2, bd_some ws2, bd_some (show f_X1_settle E S2 (nI w) (wsB L k n w (c w) b) = some S3 from e3), nI_1, bd2_some e4, lt_e, lt_e, nI_1, lN_add]
    obtain ⟨m, hm⟩ : ∃ m, E.1 = m + 3 := ⟨E.1 - 3, by omega⟩
    obtain ⟨S1, M1, e1, F1, K1, A1⟩ := one 0 (m + 2) S M 0 (by decide) Fm.rf K A
    obtain ⟨S2, M2, e2, F2, K2, A2⟩ := one 1 (m + 1) S1 M1 (0 + trG L k n (fun o c => o * smf c.1 0) q (bs c w + 0) (stp L k n w (c w) 0)) (by decide) F1 K1 A1
    refine ⟨S2, M2, ?_, F2, K2, A2⟩
    rw [show f_X1_rights E (d + 1) = b_X1_rights E (f_X1_rights E d) from rfl]
    unfold b_X1_rights
    rw [if_pos (by rw [q_ltR 5 (by decide) (by omega)]; exact hw5), hm, show (0 : Int64) = lN 0 from rfl, show (0 : Int32) = nI 0 from rfl, e1, e2, show f_X1_rights_b25 E (f_X1_rights E d) (m + 1) = g_X1_rights_b25 E (f_X1_rights E d) (f_X1_rights_b25 E (f_X1_rights E d) m) from rfl]
    unfold g_X1_rights_b25
    rw [if_pos (show (2 : Int32) ≤ nI (1 + 1) by decide), Nat.zero_add, Nat.add_zero, show trG L k n (fun o c => o * smf c.1 0) (q + 1) (bs c w) (c w) = trG L k n (fun o c => o * smf c.1 0) q (bs c w) (stp L k n (4 - q) (c w) 0) + trG L k n (fun o c => o * smf c.1 0) q (bs c w + 1) (stp L k n (4 - q) (c w) 1) from rfl, show 4 - q = w by omega]
