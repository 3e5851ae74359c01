/-! PURE PART: all marks of five weeks: the reference -/
theorem s_ending {E : EN} {S : ST} {L : Nat → Nat → Nat → Nat → Nat → Nat} {c : CS} (hN : 300 ≤ E.1) (hL : okL L) (hd : LD S L) (hk : KM S 5 c) (ok : okC 5 c) : f_X7_ending E S = some (lN (endV L c)) := by
  obtain ⟨c1, c2, c3, c4⟩ := hk
  obtain ⟨o1, o2, -, -, -⟩ := ok
  unfold f_X7_ending
  have h := lpN (σ := Nat) (φ := fun m v => f_X7_ending_b4 E m S (lN (endP L c v)) (nI v)) (T := fun v => v) (N := 5) (n := E.1) (r := some (lN (endV L c))) (fun m v hv => by
    show g_X7_ending_b4 E (f_X7_ending_b4 E m) S _ _ = _
    unfold g_X7_ending_b4
    obtain ⟨d1, -⟩ := hd c.2.1 c.2.2.1 v o1 (by omega) hv
    have h99 := (hL 5 c.2.1 c.2.2.1 v).2.2
    have c1v := c1 v hv
    rw [if_neg (by rw [q_leL 5 (by decide) (by omega)]; omega), show (25 : Int32) = nI 25 from rfl, nI_add, ck_in (ib_nI (by omega) (by decide)), c2, c3, q_i30, ck_in (ib_nI (by omega) (by decide)), q_cl (by omega), q_cl (by omega), show 25 + v = 5 * 5 + v from rfl, c1v, d1, nI_l (by omega), lN_mul, lN_add, lt_e, lt_e, nI_1]
    rfl) (fun m => by
    show f_X7_ending_b4 E (m + 1) S (lN (endP L c 5)) (nI 5) = _
    rw [show f_X7_ending_b4 E (m + 1) = g_X7_ending_b4 E (f_X7_ending_b4 E m) from rfl]
    unfold g_X7_ending_b4
    rw [if_pos (show (5 : Int32) ≤ nI 5 by decide)]
    rfl) (by omega)
  exact h
def wH : List (Nat × Nat) := [(66, 0), (67, 0), (68, 0), (69, 0), (1, 31), (1, 32)]
/-- the mean's two sums -/
theorem s_meanOf {E : EN} {S : ST} {L : Nat → Nat → Nat → Nat → Nat → Nat} {p k n g0 : Nat} {r0 : Nat → Nat} (hN : 3000 ≤ E.1) (hp : p < 8) (hk : k < 6) (hn : n < 10) (hg : g0 < 5) (hr0 : smf r0 0 ≤ 9999) (h45 : ∀ s, s < 5 → gI S 45 0 (5 * p + s) = nI (r0 s)) (hL : okL L) (hd : LD S L) :
    ∃ S2, f_X7_meanOf E S (nI p) (nI g0) (nI k) (nI n) = some (lN (trG L k n (fun _ c => endV L c) 5 0 (r0, g0, 0, 0, 0)), S2) ∧ Fm wH S S2 ∧ LD S2 L ∧ gL S2 1 0 31 = lN (trG L k n (fun o c => o * smf c.1 0) 5 0 (r0, g0, 0, 0, 0)) := by
  rw [← tr_sum, ← tr_sum]
  have main : ∀ (q v m : Nat) (S1 : ST), v + q = 32 → q < m → Fm wH S S1 → LD S1 L → gL S1 1 0 31 = lN (sumP (fun M => (fun o (c : CS) => o * smf c.1 0) (pcN 5 M) (pth L k n g0 r0 M 5)) v) →
      ∃ S2, f_X7_meanOf_b11 E m S1 (nI p) (nI g0) (nI k) (nI n) (lN (sumP (fun M => (fun (_ : Nat) c => endV L c) (pcN 5 M) (pth L k n g0 r0 M 5)) v)) (nI v) = some (lN (sumP (fun M => (fun (_ : Nat) c => endV L c) (pcN 5 M) (pth L k n g0 r0 M 5)) 32), S2) ∧ Fm wH S S2 ∧ LD S2 L ∧ gL S2 1 0 31 = lN (sumP (fun M => (fun o (c : CS) => o * smf c.1 0) (pcN 5 M) (pth L k n g0 r0 M 5)) 32) := by
    intro q
    induction q with
    | zero =>
      intro v m S1 hv hm F D h31
      obtain ⟨m, rfl⟩ : ∃ j, m = j + 1 := ⟨m - 1, by omega⟩
      have e : v = 32 := by omega
      subst e
      refine ⟨S1, ?_, F, D, h31⟩
      rw [show f_X7_meanOf_b11 E (m + 1) = g_X7_meanOf_b11 E (f_X7_meanOf_b11 E m) from rfl]
      unfold g_X7_meanOf_b11
      rw [if_pos (show (32 : Int32) ≤ nI 32 by decide)]
    | succ q ih =>
      intro v m S1 hv hm F D h31
      obtain ⟨m, rfl⟩ : ∃ j, m = j + 1 := ⟨m - 1, by omega⟩
      have hv32 : v < 32 := by omega
      obtain ⟨S2, e2, F2, D2, A2, -⟩ := s_goM (E := E) (S := S1) (W := 5) (M := v) hN hp (by decide) hv32 hk hn hg hr0 (fun s hs => (F.I rfl).trans (h45 s hs)) hL D
      have okc := okC.pth hL (k := k) (n := n) (M := v) hg hr0 5
      obtain ⟨z1, z2, z3, z4⟩ := A2 5 (Nat.le_refl _)
      have hpc := (bcP_32 hv32).2
      have cnt : ∀ (x : Int64) (S3 : ST), f_X7_meanOf_b36 E (f_X7_meanOf_b11 E m) E.1 S3 (nI p) (nI g0) (nI k) (nI n) x (nI v) (0 : Int32) (0 : Int32) = f_X7_meanOf_b60 E (f_X7_meanOf_b11 E m) S3 (nI p) (nI g0) (nI k) (nI n) x (nI v) (nI (pcN 5 v)) := fun x S3 => by
        have h := lpN (σ := Nat) (φ := fun j i => f_X7_meanOf_b36 E (f_X7_meanOf_b11 E m) j S3 (nI p) (nI g0) (nI k) (nI n) x (nI v) (nI (pcN i v)) (nI i)) (T := fun i => i) (N := 5) (n := E.1) (r := f_X7_meanOf_b60 E (f_X7_meanOf_b11 E m) S3 (nI p) (nI g0) (nI k) (nI n) x (nI v) (nI (pcN 5 v))) (fun j i hi => by
          show g_X7_meanOf_b36 E (f_X7_meanOf_b11 E m) (f_X7_meanOf_b36 E (f_X7_meanOf_b11 E m) j) S3 _ _ _ _ _ _ _ _ = _
          unfold g_X7_meanOf_b36
          rw [if_neg (by rw [q_leL 5 (by decide) (by omega)]; omega), q_bit hv32 hi, nI_add, lt_e, lt_e, nI_1]
          rfl) (fun j => by
          show f_X7_meanOf_b36 E (f_X7_meanOf_b11 E m) (j + 1) S3 (nI p) (nI g0) (nI k) (nI n) x (nI v) (nI (pcN 5 v)) (nI 5) = _
          rw [show f_X7_meanOf_b36 E (f_X7_meanOf_b11 E m) (j + 1) = g_X7_meanOf_b36 E (f_X7_meanOf_b11 E m) (f_X7_meanOf_b36 E (f_X7_meanOf_b11 E m) j) from rfl]
          unfold g_X7_meanOf_b36
          rw [if_pos (show (5 : Int32) ≤ nI 5 by decide)]) (by omega)
        exact h
      have F3 : Fm [(1, 32)] S2 (sL S2 1 0 31 (lN (sumP (fun M => (fun o (c : CS) => o * smf c.1 0) (pcN 5 M) (pth L k n g0 r0 M 5)) (v + 1)))) := Fm.rf.sL rfl rfl
      have D3 : LD (sL S2 1 0 31 (lN (sumP (fun M => (fun o (c : CS) => o * smf c.1 0) (pcN 5 M) (pth L k n g0 r0 M 5)) (v + 1)))) L := D2.keep (F3.ag rfl)
      have K3 : KM (sL S2 1 0 31 (lN (sumP (fun M => (fun o (c : CS) => o * smf c.1 0) (pcN 5 M) (pth L k n g0 r0 M 5)) (v + 1)))) 5 (pth L k n g0 r0 v 5) := ⟨fun s hs => (F3.L rfl).trans (z1 s hs), z2, z3, z4⟩
      obtain ⟨S4, e4, R⟩ := ih (v + 1) m (sL S2 1 0 31 (lN (sumP (fun M => (fun o (c : CS) => o * smf c.1 0) (pcN 5 M) (pth L k n g0 r0 M 5)) (v + 1)))) (by omega) (by omega) ((F.trans (F2.mono rfl)).trans (F3.mono rfl)) D3 (by rw [gL_sL, if_pos ⟨rfl, rfl, rfl⟩])
      refine ⟨S4, ?_, R⟩
      rw [← e4, show f_X7_meanOf_b11 E (m + 1) = g_X7_meanOf_b11 E (f_X7_meanOf_b11 E m) from rfl]
      unfold g_X7_meanOf_b11
      rw [if_neg (by rw [q_leL 32 (by decide) (by omega)]; omega), show (5 : Int32) = nI 5 from rfl, bd_some e2, cnt]
      unfold f_X7_meanOf_b60
      rw [show (5 : Int32) = nI 5 from rfl, bd_some (s_sumRow (by omega) (by decide) z1), nI_l (by omega), lN_mul, F2.L (K := 1) rfl, h31, lN_add, lt_e]
      rw [show sumP (fun M => (fun o (c : CS) => o * smf c.1 0) (pcN 5 M) (pth L k n g0 r0 M 5)) v + pcN 5 v * smf (pth L k n g0 r0 v 5).1 0 = sumP (fun M => (fun o (c : CS) => o * smf c.1 0) (pcN 5 M) (pth L k n g0 r0 M 5)) (v + 1) from rfl, bd_some (s_ending (by omega) hL D3 K3 okc), lt_e, lt_e, lN_add, nI_1]
      rfl
  unfold f_X7_meanOf
  rw [lt_e]
  have F0 : Fm [(1, 32)] S (sL S 1 0 31 (0 : Int64)) := Fm.rf.sL rfl rfl
  exact main 32 0 E.1 (sL S 1 0 31 (0 : Int64)) (by omega) (by omega) (F0.mono rfl) (hd.keep (F0.ag rfl)) (by rw [gL_sL, if_pos ⟨rfl, rfl, rfl⟩]; rfl)
