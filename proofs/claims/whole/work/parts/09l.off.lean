/-! PURE PART: off, rule -/
def wM2 : List (Nat × Nat) := [(61, 0), (62, 0), (63, 0), (64, 0), (65, 0), (66, 0), (67, 0), (68, 0), (69, 0), (1, 31), (1, 32)]
theorem k_offB {E : EN} {S : ST} {t p : Nat} (hN : 20300 ≤ E.1) (hP : RP E S) (hr : RR E S) (hu : RU E S t) (hc : RC E S) (hp1 : p < E.2.1) (x : Int32) (hx : isBy x) (d : Int32) : ∃ (r : Int64) (S1 S2 : ST), f_X6_off_b22 E S x d p = some (r, S1) ∧ f_X7_off_b18 E S1 (nI p) x d = some (r, S2) ∧ Fm wA S S1 ∧ Fm wN2 S S2 ∧ RC E S2 := by
  obtain ⟨h8, hcn, hm, hroll, -⟩ := id hP
  have n1 : ¬ (1 : Int32) = 0 := by decide
  unfold f_X6_off_b22 f_X7_off_b18
  by_cases hd : d = 0 ∨ d = 1
  · obtain ⟨k, c, n, q⟩ := hP.pd hp1
    obtain ⟨⟨x1, x2, x3, x4, x5, x6⟩, ⟨a1, a2, a3, a4⟩, ⟨b1, b2, b3, b4⟩, d1, d2⟩ := id q
    have okL' := okL_lsR S t c
    have hg2 := hel_le (g := cN S p) (by omega) x
    have hr0 : smf (wN S p) 0 ≤ 9999 := by rw [smf_w]; exact x6
    obtain ⟨S1, s1, F1, C1⟩ := s_endsBy (E := E) (by omega) hr hu hc x3 x1 x4 x2 b3 d2 x6
    obtain ⟨S2, s2, F2, C2⟩ := s_endsBy (E := E) (S := S1) (t := t) (p := p) (so := c) (k := k) (n := n) (g0 := hel (cN S p) x) (r0 := wN S p) (by omega) (hr.keep (F1.ag rfl)) ⟨hu.1, (F1.I rfl).trans hu.2.1, (F1.I rfl).trans hu.2.2⟩ C1 x3 x1 x4 (by omega) ((F1.I rfl).trans b3) (fun s hs => (F1.I rfl).trans (d2 s hs)) x6
    rw [lsR_keep (F1.ag rfl)] at s2
    have F12 : Fm wA S S2 := F1.trans F2
    obtain ⟨S3, S4, s3, s4, F3, F4, D3, D4, -⟩ := s_layMean (E := E) (S := S2) (t := t) (p := p) (so := c) (k := k) (n := n) (g0 := cN S p) (r0 := wN S p) (by omega) (hr.keep (F12.ag rfl)) ⟨hu.1, (F12.I rfl).trans hu.2.1, (F12.I rfl).trans hu.2.2⟩ (by omega) x1 x4 x2 x6 (fun s hs => (F12.I rfl).trans (d1 s hs))
    rw [lsR_keep (F12.ag rfl)] at s4 D3 D4
    have F24 : Fm wM2 S2 S4 := (F3.mono rfl).trans (F4.mono rfl)
    obtain ⟨S5, s5, F5, D5, -⟩ := s_meanOf (E := E) (S := S4) (p := p) (k := k) (n := n) (g0 := hel (cN S p) x) (r0 := wN S p) (by omega) (by omega) x1 x4 (by omega) hr0 (fun s hs => (F24.I rfl).trans ((F12.I rfl).trans (d1 s hs))) okL' D4
    have F25 : Fm wM2 S2 S5 := F24.trans (F5.mono rfl)
    have he1 := eV_le (L := lsR S t c) okL' (k := k) (n := n) (g := cN S p) x6
    have he2 := eV_le (L := lsR S t c) okL' (k := k) (n := n) (g := hel (cN S p) x) x6
    obtain ⟨r, hlow⟩ := s_lowD (E := E) (by omega) (show eV (lsR S t c) k n (cN S p) (wN S p) ≤ 10000000000000000 by omega) (show eV (lsR S t c) k n (hel (cN S p) x) (wN S p) ≤ 10000000000000000 by omega) (show wsum (wN S p) * 100 ^ 5 ≤ 10000000000000000 by omega) (show 0 < wsum (wN S p) * 100 ^ 5 by omega) d
    refine ⟨r, S2, S5, ?_, ?_, F12, (F12.mono rfl).trans (F25.mono rfl), C2.keep (F25.ag rfl)⟩
    · rw [bd_some (s_part d), if_pos hd, if_neg n1, b1, b4, b2, bd2_some s1, show gI S1 20 p 3 = nI (cN S p) from (F1.I rfl).trans b2, bd_some (s_heldC x2 hx), show gI S1 20 p 0 = nI k from (F1.I rfl).trans b1, show gI S1 20 p 2 = nI n from (F1.I rfl).trans b4, bd2_some s2, s_allC (by omega) (fun s hs => (F12.I rfl).trans (d2 s hs)) x6, bd_some (hlow S2).1]
    · rw [bd_some (s_in01 d), if_pos hd, if_neg n1, ck_in (ib_nI (by omega) (by decide)), q_cl (by omega), show gI S2 43 0 p = nI c from (F12.I rfl).trans a3, bd_some s3, show gI S3 42 0 p = nI (cN S p) from (F3.I rfl).trans ((F12.I rfl).trans a2), show gI S3 41 0 p = nI k from (F3.I rfl).trans ((F12.I rfl).trans a1), show gI S3 44 0 p = nI n from (F3.I rfl).trans ((F12.I rfl).trans a4), bd2_some s4, show gI S4 42 0 p = nI (cN S p) from (F24.I rfl).trans ((F12.I rfl).trans a2), bd_some (s_heldM x2 hx), show gI S4 41 0 p = nI k from (F24.I rfl).trans ((F12.I rfl).trans a1), show gI S4 44 0 p = nI n from (F24.I rfl).trans ((F12.I rfl).trans a4), bd2_some s5, bd_some (s_allOf (by omega) (by omega) (fun s hs => (F25.I rfl).trans ((F12.I rfl).trans (d1 s hs))) x6), bd_some (hlow S5).2]
  · exact ⟨-4611686018427387904, S, S, by rw [bd_some (s_part d), if_neg hd, if_pos rfl], by rw [bd_some (s_in01 d), if_neg hd, if_pos rfl], Fm.rf, Fm.rf, hc⟩
theorem k_off {E : EN} {S : ST} {t : Nat} (hN : 20300 ≤ E.1) (hP : RP E S) (hr : RR E S) (hu : RU E S t) (hc : RC E S) (a b c : Int32) : ∃ (r : Int64) (S1 S2 : ST), f_X6_off E S a b c = some (r, S1) ∧ f_X7_off E S1 a b c = some (r, S2) ∧ Fm wN2 S S2 ∧ RC E S2 := by
  obtain ⟨h8, hcn, hm, hroll, -⟩ := id hP
  have n1 : ¬ (1 : Int32) = 0 := by decide
  unfold f_X6_off f_X7_off
  rcases q_pup E h8 a with ⟨p, hp1, rfl⟩ | hno
  · have P1 : ∀ S1, gI S1 1 0 0 = nI E.2.1 → f_X7_isPupil E S1 (nI p) = some 1 := fun S1 h => s_isPupil1 h hp1 h8
    rw [bd_some (s_known1 hcn hroll hp1 h8), nl_so, ck_in (decide_eq_true hp1)]
    have both : isBy b → ∃ (r : Int64) (S1 S2 : ST), f_X6_off_b22 E S b c p = some (r, S1) ∧ (bd_ (f_X7_isPupil E S1 (nI p)) fun r11 => (if r11 = 0 then some ((-4611686018427387904 : Int64), S1) else f_X7_off_b18 E S1 (nI p) b c)) = some (r, S2) ∧ Fm wN2 S S2 ∧ RC E S2 := fun hx => by
      obtain ⟨r, S1, S2, e1, e2, FC, F, C⟩ := k_offB (E := E) hN hP hr hu hc hp1 b hx c
      exact ⟨r, S1, S2, e1, by rw [bd_some (P1 S1 ((FC.I rfl).trans hm)), if_neg n1, e2], F, C⟩
    by_cases h1 : b = 1
    · rw [if_pos h1]
      obtain ⟨r, S1, S2, e1, e2, F, C⟩ := both (Or.inr (Or.inr h1))
      refine ⟨r, S1, S2, e1, ?_, F, C⟩
      rw [← e2, if_pos h1]
    · rw [if_neg h1]
      by_cases h2 : b = -1
      · rw [if_pos h2]
        obtain ⟨r, S1, S2, e1, e2, F, C⟩ := both (Or.inl h2)
        refine ⟨r, S1, S2, e1, ?_, F, C⟩
        rw [← e2, if_neg h1, if_pos h2]
      · rw [if_neg h2]
        exact ⟨-4611686018427387904, S, S, rfl, by rw [bd_some (P1 S hm), if_neg n1, if_neg h1, if_neg h2], Fm.rf, hc⟩
  · exact ⟨-4611686018427387904, S, S, by rw [bd_some (s_known0 hcn hno h8)]; rfl, by rw [bd_some (s_isPupil0 hm hno h8), if_pos rfl], Fm.rf, hc⟩
/-- the greatest of so many -/
theorem bsM_step {f : Nat → Nat} {v : Nat} : bsU (fun _ => true) f (v + 1) = (match bsU (fun _ => true) f v with
      | none => some v
      | some j => if f v ≤ f j then some j else some v) := by
  show (if (true = true) then _ else _) = _
  rw [if_pos rfl]
  rfl
theorem s_ruleC {E : EN} {S : ST} {t p so N g : Nat} {y : Int32} {kk nn : Nat → Nat} {w : Nat → Nat} (hN : 20300 ≤ E.1) (hr : RR E S) (hu : RU E S t) (hc : RC E S) (hso : so < 4) (hg : g < 5) (hw : wsum w ≤ 9999) (h20 : gI S 20 p 1 = nI so) (h3 : gI S 20 p 3 = nI g) (h21 : ∀ s, s < 5 → gI S 21 p s = nI (w s)) (hNN : N ≤ 10)
    (hk : ∀ i, i < N → kk i < 6 ∧ nn i < 10) (ek : ∀ i, i < N → (if y = 0 then gI S 20 p 0 else nI i) = nI (kk i)) (en : ∀ i, i < N → (if y = 0 then nI i else gI S 20 p 2) = nI (nn i)) :
    ∃ S2, f_X6_rule_b33 E S y p (nI N) = some (nI ((bsU (fun _ => true) (fun i => eV (lsR S t so) (kk i) (nn i) g w) N).getD 0), S2) ∧ Fm wA S S2 ∧ RC E S2 := by
  have hf : ∀ i, eV (lsR S t so) (kk i) (nn i) g w ≤ 9899010000000000 := fun i => eV_le (okL_lsR S t so) hw
  obtain ⟨f, ef⟩ : ∃ f, f = (fun i => eV (lsR S t so) (kk i) (nn i) g w) := ⟨_, rfl⟩
  have hf : ∀ i, f i ≤ 9899010000000000 := fun i => by rw [ef]; exact hf i
  rw [← ef]
  have main : ∀ (q v m : Nat) (S1 : ST), v + q = N → q < m → Fm wA S S1 → RC E S1 → ∃ S2, f_X6_rule_b46 E m S1 y p (nI N) (nI ((bsU (fun _ => true) f v).getD 0)) (bsM f (bsU (fun _ => true) f v)) (nI v) = some (nI ((bsU (fun _ => true) f N).getD 0), S2) ∧ Fm wA S S2 ∧ RC E S2 := by
    intro q
    induction q with
    | zero =>
      intro v m S1 hv hm F C
      obtain ⟨m, rfl⟩ : ∃ j, m = j + 1 := ⟨m - 1, by omega⟩
      have e : v = N := by omega
      subst e
      refine ⟨S1, ?_, F, C⟩
      rw [show f_X6_rule_b46 E (m + 1) = g_X6_rule_b46 E (f_X6_rule_b46 E m) from rfl]
      unfold g_X6_rule_b46
      rw [if_pos (by rw [q_le (by omega) (by omega)]; omega)]
    | succ q ih =>
      intro v m S1 hv hm F C
      obtain ⟨m, rfl⟩ : ∃ j, m = j + 1 := ⟨m - 1, by omega⟩
      have hvN : v < N := by omega
      obtain ⟨k1, k2⟩ := hk v hvN
      obtain ⟨S2, s2, F2, C2⟩ := s_endsBy (E := E) (S := S1) (t := t) (p := p) (so := so) (k := kk v) (n := nn v) (g0 := g) (r0 := w) (by omega) (hr.keep (F.ag rfl)) ⟨hu.1, (F.I rfl).trans hu.2.1, (F.I rfl).trans hu.2.2⟩ C hso k1 k2 hg ((F.I rfl).trans h20) (fun s hs => (F.I rfl).trans (h21 s hs)) hw
      rw [lsR_keep (F.ag rfl), show eV (lsR S t so) (kk v) (nn v) g w = f v by rw [ef]] at s2
      obtain ⟨S3, s3, R⟩ := ih (v + 1) m S2 (by omega) (by omega) (F.trans F2) C2
      refine ⟨S3, ?_, R⟩
      rw [← s3, show f_X6_rule_b46 E (m + 1) = g_X6_rule_b46 E (f_X6_rule_b46 E m) from rfl]
      unfold g_X6_rule_b46 f_X6_rule_b66
      rw [if_neg (by rw [q_le (by omega) (by omega)]; omega)]
      have fin : f_X6_rule_b81 E (f_X6_rule_b46 E m) S1 y p (nI N) (nI ((bsU (fun _ => true) f v).getD 0)) (bsM f (bsU (fun _ => true) f v)) (nI v) (nI (kk v)) (nI (nn v)) = f_X6_rule_b46 E m S2 y p (nI N) (nI ((bsU (fun _ => true) f (v + 1)).getD 0)) (bsM f (bsU (fun _ => true) f (v + 1))) (nI (v + 1)) := by
        unfold f_X6_rule_b81 f_X6_rule_b114
        have hfv := hf v
        rw [show gI S1 20 p 3 = nI g from (F.I rfl).trans h3, bd2_some s2, bsM_step, lt_e, lt_e, nI_1]
        rcases hb : bsU (fun _ => true) f v with _ | j
        · rw [if_neg (show ¬ lN (f v) ≤ bsM f none from w_nm1 (by omega))]
          rfl
        · have hfj := hf j
          show (if lN (f v) ≤ lN (f j) then _ else _) = _
          by_cases z : f v ≤ f j
          · rw [if_pos (by rw [w_le (by omega) (by omega)]; exact z)]
            show _ = f_X6_rule_b46 E m S2 y p (nI N) (nI ((if f v ≤ f j then some j else some v).getD 0)) (bsM f (if f v ≤ f j then some j else some v)) (nI (v + 1))
            rw [if_pos z]
          · rw [if_neg (by rw [w_le (by omega) (by omega)]; exact z)]
            show _ = f_X6_rule_b46 E m S2 y p (nI N) (nI ((if f v ≤ f j then some j else some v).getD 0)) (bsM f (if f v ≤ f j then some j else some v)) (nI (v + 1))
            rw [if_neg z]
            rfl
      have ek1 := ek v hvN
      have en1 := en v hvN
      by_cases z : y = 0
      · rw [if_pos z] at ek1 en1
        rw [if_pos z, if_pos z, show gI S1 20 p 0 = nI (kk v) from (F.I rfl).trans ek1]
        rw [← en1] at fin
        exact fin
      · rw [if_neg z] at ek1 en1
        rw [if_neg z, if_neg z, show gI S1 20 p 2 = nI (nn v) from (F.I rfl).trans en1]
        rw [← ek1] at fin
        exact fin
  unfold f_X6_rule_b33
  exact main N 0 E.1 S (by omega) (by omega) Fm.rf hc
theorem s_ruleM {E : EN} {S : ST} {L : Nat → Nat → Nat → Nat → Nat → Nat} {p N g : Nat} {y : Int32} {kk nn : Nat → Nat} {w : Nat → Nat} (hN : 20300 ≤ E.1) (hp : p < 8) (hg : g < 5) (hw : wsum w ≤ 9999) (hL : okL L) (hd : LD S L) (h42 : gI S 42 0 p = nI g) (h45 : ∀ s, s < 5 → gI S 45 0 (5 * p + s) = nI (w s)) (hNN : N ≤ 10)
    (eN : (if y = 0 then (10 : Int32) else (6 : Int32)) = nI N) (hk : ∀ i, i < N → kk i < 6 ∧ nn i < 10) (ek : ∀ i, i < N → (if y = 0 then gI S 41 0 p else nI i) = nI (kk i)) (en : ∀ i, i < N → (if y = 0 then nI i else gI S 44 0 p) = nI (nn i)) :
    ∃ S2, f_X7_rule_b41 E E.1 S (nI p) y (0 : Int32) (-1 : Int64) (0 : Int32) = some (nI ((bsU (fun _ => true) (fun i => eV L (kk i) (nn i) g w) N).getD 0), S2) ∧ Fm wH S S2 := by
  have hf : ∀ i, eV L (kk i) (nn i) g w ≤ 9899010000000000 := fun i => eV_le hL hw
  obtain ⟨f, ef⟩ : ∃ f, f = (fun i => eV L (kk i) (nn i) g w) := ⟨_, rfl⟩
  have hf : ∀ i, f i ≤ 9899010000000000 := fun i => by rw [ef]; exact hf i
  rw [← ef]
  have hr0 : smf w 0 ≤ 9999 := by rw [smf_w]; exact hw
  have main : ∀ (q v m : Nat) (S1 : ST), v + q = N → q < m → Fm wH S S1 → LD S1 L → ∃ S2, f_X7_rule_b41 E m S1 (nI p) y (nI ((bsU (fun _ => true) f v).getD 0)) (bsM f (bsU (fun _ => true) f v)) (nI v) = some (nI ((bsU (fun _ => true) f N).getD 0), S2) ∧ Fm wH S S2 := by
    intro q
    induction q with
    | zero =>
      intro v m S1 hv hm F D
      obtain ⟨m, rfl⟩ : ∃ j, m = j + 1 := ⟨m - 1, by omega⟩
      have e : v = N := by omega
      subst e
      refine ⟨S1, ?_, F⟩
      rw [show f_X7_rule_b41 E (m + 1) = g_X7_rule_b41 E (f_X7_rule_b41 E m) from rfl]
      unfold g_X7_rule_b41 f_X7_rule_b54
      have e1 : ∀ x, x = nI v → x ≤ nI v := fun x hx => by rw [hx, q_le (by omega) (by omega)]; omega
      by_cases z : y = 0
      · rw [if_pos z] at eN
        rw [if_pos z, if_pos (e1 _ eN)]
      · rw [if_neg z] at eN
        rw [if_neg z, if_pos (e1 _ eN)]
    | succ q ih =>
      intro v m S1 hv hm F D
      obtain ⟨m, rfl⟩ : ∃ j, m = j + 1 := ⟨m - 1, by omega⟩
      have hvN : v < N := by omega
      obtain ⟨k1, k2⟩ := hk v hvN
      obtain ⟨S2, s2, F2, D2, -⟩ := s_meanOf (E := E) (S := S1) (p := p) (k := kk v) (n := nn v) (g0 := g) (r0 := w) (by omega) hp k1 k2 hg hr0 (fun s hs => (F.I rfl).trans (h45 s hs)) hL D
      rw [show trG L (kk v) (nn v) (fun _ c => endV L c) 5 0 (w, g, 0, 0, 0) = f v by rw [ef]] at s2
      obtain ⟨S3, s3, R⟩ := ih (v + 1) m S2 (by omega) (by omega) (F.trans F2) D2
      refine ⟨S3, ?_, R⟩
      rw [← s3, show f_X7_rule_b41 E (m + 1) = g_X7_rule_b41 E (f_X7_rule_b41 E m) from rfl]
      unfold g_X7_rule_b41 f_X7_rule_b54
      have fin : f_X7_rule_b102 E (f_X7_rule_b41 E m) S2 (nI p) y (nI ((bsU (fun _ => true) f v).getD 0)) (bsM f (bsU (fun _ => true) f v)) (nI v) (lN (f v)) = f_X7_rule_b41 E m S2 (nI p) y (nI ((bsU (fun _ => true) f (v + 1)).getD 0)) (bsM f (bsU (fun _ => true) f (v + 1))) (nI (v + 1)) := by
        unfold f_X7_rule_b102 f_X7_rule_b122
        have hfv := hf v
        rw [bsM_step, lt_e, lt_e, nI_1]
        rcases hb : bsU (fun _ => true) f v with _ | j
        · rw [if_pos (show bsM f none < lN (f v) from Int64.not_le.mp (w_nm1 (by omega)))]
          rfl
        · have hfj := hf j
          show (if lN (f j) < lN (f v) then _ else _) = _
          by_cases z : f v ≤ f j
          · rw [if_neg (by rw [w_lt (by omega) (by omega)]; omega)]
            show _ = f_X7_rule_b41 E m S2 (nI p) y (nI ((if f v ≤ f j then some j else some v).getD 0)) (bsM f (if f v ≤ f j then some j else some v)) (nI (v + 1))
            rw [if_pos z]
          · rw [if_pos (by rw [w_lt (by omega) (by omega)]; omega)]
            show _ = f_X7_rule_b41 E m S2 (nI p) y (nI ((if f v ≤ f j then some j else some v).getD 0)) (bsM f (if f v ≤ f j then some j else some v)) (nI (v + 1))
            rw [if_neg z]
            rfl
      have e1 : ∀ x, x = nI N → ¬ x ≤ nI v := fun x hx => by rw [hx, q_le (by omega) (by omega)]; omega
      have ek1 := ek v hvN
      have en1 := en v hvN
      by_cases z : y = 0
      · rw [if_pos z] at ek1 en1 eN
        rw [if_pos z, if_neg (e1 _ eN), if_pos z, ck_in (ib_nI hp (by decide)), q_cl (by omega), show gI S1 42 0 p = nI g from (F.I rfl).trans h42, show gI S1 41 0 p = nI (kk v) from (F.I rfl).trans ek1]
        rw [← en1] at s2
        rw [bd2_some s2]
        exact fin
      · rw [if_neg z] at ek1 en1 eN
        rw [if_neg z, if_neg (e1 _ eN), if_neg z, ck_in (ib_nI hp (by decide)), q_cl (by omega), show gI S1 42 0 p = nI g from (F.I rfl).trans h42, show gI S1 44 0 p = nI (nn v) from (F.I rfl).trans en1]
        rw [← ek1] at s2
        rw [bd2_some s2]
        exact fin
  exact main N 0 E.1 S (by omega) (by omega) Fm.rf hd
theorem k_rule {E : EN} {S : ST} {t : Nat} (hN : 20300 ≤ E.1) (hP : RP E S) (hr : RR E S) (hu : RU E S t) (hc : RC E S) (a b : Int32) : ∃ (r : Int32) (S1 S2 : ST), f_X6_rule E S a b = some (r, S1) ∧ f_X7_rule E S1 a b = some (r, S2) ∧ Fm wN2 S S2 ∧ RC E S2 := by
  obtain ⟨h8, hcn, hm, hroll, -⟩ := id hP
  have n1 : ¬ (1 : Int32) = 0 := by decide
  unfold f_X6_rule f_X7_rule
  rcases q_pup E h8 a with ⟨p, hp1, rfl⟩ | hno
  · have P1 : ∀ S1, gI S1 1 0 0 = nI E.2.1 → f_X7_isPupil E S1 (nI p) = some 1 := fun S1 h => s_isPupil1 h hp1 h8
    rw [bd_some (s_known1 hcn hroll hp1 h8), nl_so, ck_in (decide_eq_true hp1)]
    by_cases h01 : b = 0 ∨ b = 1
    · obtain ⟨k, c, n, q⟩ := hP.pd hp1
      obtain ⟨⟨x1, x2, x3, x4, x5, x6⟩, ⟨a1, a2, a3, a4⟩, ⟨b1, b2, b3, b4⟩, d1, d2⟩ := id q
      obtain ⟨N, eN⟩ : ∃ N : Nat, N = if b = 0 then 10 else 6 := ⟨_, rfl⟩
      have N10 : N ≤ 10 := by rw [eN]; split <;> decide
      obtain ⟨kk, ekk⟩ : ∃ kk : Nat → Nat, kk = fun i => if b = 0 then k else i := ⟨_, rfl⟩
      obtain ⟨nn, enn⟩ : ∃ nn : Nat → Nat, nn = fun i => if b = 0 then i else n := ⟨_, rfl⟩
      have hk : ∀ i, i < N → kk i < 6 ∧ nn i < 10 := fun i hi => by
        rw [ekk, enn]
        by_cases z : b = 0
        · rw [if_pos z] at eN
          refine ⟨?_, ?_⟩
          · show (if b = 0 then k else i) < 6
            rw [if_pos z]; exact x1
          · show (if b = 0 then i else n) < 10
            rw [if_pos z]; omega
        · rw [if_neg z] at eN
          refine ⟨?_, ?_⟩
          · show (if b = 0 then k else i) < 6
            rw [if_neg z]; omega
          · show (if b = 0 then i else n) < 10
            rw [if_neg z]; exact x4
      have ite_n : ∀ (u v : Nat), (if b = 0 then nI u else nI v) = nI (if b = 0 then u else v) := fun u v => by
        by_cases z : b = 0
        · rw [if_pos z, if_pos z]
        · rw [if_neg z, if_neg z]
      obtain ⟨S1, s1, F1, C1⟩ := s_ruleC (E := E) (S := S) (t := t) (p := p) (so := c) (N := N) (g := cN S p) (y := b) (kk := kk) (nn := nn) (w := wN S p) hN hr hu hc x3 x2 x6 b3 b2 d2 N10 hk (fun i hi => by rw [b1, ite_n, ekk]) (fun i hi => by rw [b4, ite_n, enn])
      obtain ⟨S2, s2, LI2⟩ := s_layRule (E := E) (S0 := S1) (so := c) (by omega) (hr.keep (F1.ag rfl)) hu.1 ((F1.I rfl).trans hu.2.2)
      have F2 := LI2.1
      have D2 : LD S2 (lsR S t c) := lsR_keep (F1.ag rfl) t c ▸ LI2.ld
      obtain ⟨S3, s3, F3⟩ := s_ruleM (E := E) (S := S2) (L := lsR S t c) (p := p) (N := N) (g := cN S p) (y := b) (kk := kk) (nn := nn) (w := wN S p) hN (by omega) x2 x6 (okL_lsR S t c) D2 ((F2.I rfl).trans ((F1.I rfl).trans a2)) (fun s hs => (F2.I rfl).trans ((F1.I rfl).trans (d1 s hs))) N10 (by rw [show (10 : Int32) = nI 10 from rfl, show (6 : Int32) = nI 6 from rfl, ite_n, eN]) hk (fun i hi => by rw [F2.I rfl, F1.I rfl, a1, ite_n, ekk]) (fun i hi => by rw [F2.I rfl, F1.I rfl, a4, ite_n, enn])
      have F23 : Fm wM2 S1 S3 := (F2.mono rfl).trans (F3.mono rfl)
      refine ⟨nI ((bsU (fun _ => true) (fun i => eV (lsR S t c) (kk i) (nn i) (cN S p) (wN S p)) N).getD 0), S1, S3, ?_, ?_, (F1.mono rfl).trans (F23.mono rfl), C1.keep (F23.ag rfl)⟩
      · rcases h01 with h | h
        · rw [if_pos h] at eN
          rw [if_neg (show ¬ b < 0 by rw [h]; decide), if_pos (show b ≤ 1 by rw [h]; decide), if_pos h, show (10 : Int32) = nI N by rw [eN]; rfl, s1]
        · have h0 : ¬ b = 0 := by rw [h]; decide
          rw [if_neg h0] at eN
          rw [if_neg (show ¬ b < 0 by rw [h]; decide), if_pos (show b ≤ 1 by rw [h]; decide), if_neg h0, show (6 : Int32) = nI N by rw [eN]; rfl, s1]
      · rw [bd_some (P1 S1 ((F1.I rfl).trans hm)), if_neg n1, bd_some (s_in01 b), if_pos h01, if_neg n1, ck_in (ib_nI (by omega) (by decide)), q_cl (by omega), show gI S1 43 0 p = nI c from (F1.I rfl).trans a3, bd_some s2, s3]
    · refine ⟨-2, S, S, ?_, by rw [bd_some (P1 S hm), if_neg n1, bd_some (s_in01 b), if_neg h01, if_pos rfl], Fm.rf, hc⟩
      rcases q_or b with hs | ⟨y, hy, rfl⟩
      · rw [if_pos hs]
      · rw [if_neg (q_n0 hy), if_neg (show ¬ nI y ≤ (1 : Int32) by
          rw [q_leR 1 (by decide) hy]
          rw [q_eqR 0 (by decide) hy, q_eqR 1 (by decide) hy] at h01
          omega)]
  · exact ⟨-2, S, S, by rw [bd_some (s_known0 hcn hno h8)]; rfl, by rw [bd_some (s_isPupil0 hm hno h8), if_pos rfl], Fm.rf, hc⟩
