/-! PURE PART: mean, off, rule -/
theorem w_neg {a : Nat} (h0 : 0 < a) (h : a ≤ 10000000000000000) : ¬ (0 : Int64) < -(lN a) ∧ ¬ (0 : Int64) ≤ -(lN a) ∧ ¬ -(lN a) = (0 : Int64) := by
  have e : (-(lN a)).toInt = -(a : Int) := by
    rw [show lN a = Int64.ofInt (a : Int) from rfl, ← Int64.ofInt_neg, Int64.toInt_ofInt_of_le (by omega) (by omega)]
  refine ⟨fun q => ?_, fun q => ?_, fun q => ?_⟩
  · rw [Int64.lt_iff_toInt_lt, e, show (0 : Int64).toInt = 0 by decide] at q
    omega
  · rw [Int64.le_iff_toInt_le, e, show (0 : Int64).toInt = 0 by decide] at q
    omega
  · rw [q, show (0 : Int64).toInt = 0 by decide] at e
    omega
/-- a difference in lowest terms: both sides alike -/
theorem s_lowD {E : EN} {A B b : Nat} (hN : 300 ≤ E.1) (hA : A ≤ 10000000000000000) (hB : B ≤ 10000000000000000) (hb : b ≤ 10000000000000000) (h0 : 0 < b) (part : Int32) :
    ∃ r : Int64, ∀ S : ST, f_X6_lowest E S (lN A - lN B) (lN b) part = some r ∧ f_X7_lowest E S (lN A - lN B) (lN b) part = some r := by
  by_cases h : B ≤ A
  · rw [lN_sub h]
    exact ⟨lowL (A - B) b part, fun S => ⟨s_lowestC hN (by omega) hb part, s_lowestM hN (by omega) hb part⟩⟩
  · have e : lN A - lN B = -(lN (B - A)) := by rw [← lN_sub (show A ≤ B by omega), Int64.neg_sub]
    rw [e]
    obtain ⟨d, hd⟩ : ∃ d, d = B - A := ⟨_, rfl⟩
    rw [← hd]
    obtain ⟨n1, n2, n3⟩ := w_neg (show 0 < d by omega) (by omega)
    have gp := eu_pos 100 d b (Or.inr h0) (zr_100 d b hb)
    have gl := eu_le 100 d b
    have hg : gcd' d b < 9223372036854775808 := by
      show eu 100 d b < _
      omega
    have hg0 : ¬ lN (gcd' d b) = (0 : Int64) := by
      rw [w_e0 hg]
      show ¬ eu 100 d b = 0
      omega
    have zb : ¬ lN b = (0 : Int64) := by
      rw [w_e0 (by omega)]
      omega
    have hck : (!decide (lN (gcd' d b) = 0)) = true := by rw [decide_eq_false hg0]; rfl
    refine ⟨if part = 0 then -(lN d) / lN (gcd' d b) else lN b / lN (gcd' d b), fun S => ⟨?_, ?_⟩⟩
    · unfold f_X6_lowest
      have ab : abL (-(lN d)) = lN d := by
        unfold abL
        rw [if_neg n1, Int64.neg_neg]
      rw [if_neg n3, if_neg zb, ab, bd_some (s_common hN (by omega) (by omega)), if_neg hg0]
      unfold f_X6_lowest_b54
      rw [ck_in hck, ck_in hck]
      by_cases p : part = 0
      · rw [if_pos p, if_pos p]
      · rw [if_neg p, if_neg p]
    · have ed : f_X7_divisor E S (-(lN d)) (lN b) = some (lN (gcd' d b)) := by
        unfold f_X7_divisor f_X7_divisor_b12
        rw [if_neg n2, Int64.neg_neg]
        exact s_divisor hN (by omega) hb
      unfold f_X7_lowest f_X7_lowest_b11 f_X7_lowest_b24
      rw [if_neg zb, if_neg zb, bd_some ed, ck_in hck, ck_in hck]
      by_cases p : part = 0
      · rw [if_pos p, if_pos p]
      · rw [if_neg p, if_neg p]
theorem lN_z (A : Nat) : lN A - lN 0 = lN A := by rw [lN_sub (Nat.zero_le _), Nat.sub_zero]
abbrev eV (L : Nat → Nat → Nat → Nat → Nat → Nat) (k n g : Nat) (w : Nat → Nat) : Nat := trG L k n (fun _ c => endV L c) 5 0 (w, g, 0, 0, 0)
abbrev rV (L : Nat → Nat → Nat → Nat → Nat → Nat) (k n g : Nat) (w : Nat → Nat) : Nat := trG L k n (fun o c => o * smf c.1 0) 5 0 (w, g, 0, 0, 0)
theorem eV_le {L : Nat → Nat → Nat → Nat → Nat → Nat} (hL : okL L) {k n g : Nat} {w : Nat → Nat} (h : wsum w ≤ 9999) : eV L k n g w ≤ 9899010000000000 := by
  have := trG_le (k := k) (n := n) (B := 99) (F := fun _ c => endV L c) hL (fun o c _ => endV_le hL c) 5 0 (w, g, 0, 0, 0) (by decide)
  rw [show ((w, g, 0, 0, 0) : CS).1 = w from rfl, smf_w] at this
  refine Nat.le_trans this ?_
  omega
theorem rV_le {L : Nat → Nat → Nat → Nat → Nat → Nat} (hL : okL L) {k n g : Nat} {w : Nat → Nat} (h : wsum w ≤ 9999) : rV L k n g w ≤ 9899010000000000 := by
  have := trG_le (k := k) (n := n) (B := 5) (F := fun o c => o * smf c.1 0) hL (fun o c ho => Nat.mul_le_mul_right _ ho) 5 0 (w, g, 0, 0, 0) (by decide)
  rw [show ((w, g, 0, 0, 0) : CS).1 = w from rfl, smf_w] at this
  refine Nat.le_trans this ?_
  omega
theorem bV_le {L : Nat → Nat → Nat → Nat → Nat → Nat} (hL : okL L) {g : Nat} {w : Nat → Nat} (hg : g < 5) (h : wsum w ≤ 9999) : bsT L 5 (w, g, 0, 0, 0) ≤ 9899010000000000 :=
  bsT_B hL (w := 0) ⟨hg, Nat.le_refl _, by show 0 < 2; decide, by show 0 < 2; decide, by show smf w 0 ≤ 9999 * 1; rw [smf_w]; omega⟩ rfl
/-- the class: ends by a kind, number, class -/
theorem s_endsBy {E : EN} {S : ST} {t p so k n g0 : Nat} {r0 : Nat → Nat} (hN : 3000 ≤ E.1) (hr : RR E S) (hu : RU E S t) (hc : RC E S) (hso : so < 4) (hk : k < 6) (hn : n < 10) (hg : g0 < 5) (h20 : gI S 20 p 1 = nI so) (h21 : ∀ s, s < 5 → gI S 21 p s = nI (r0 s)) (hw : wsum r0 ≤ 9999) :
    ∃ S1, f_X6_endsBy E S p (nI k) (nI n) (nI g0) = some (lN (eV (lsR S t so) k n g0 r0), S1) ∧ Fm wA S S1 ∧ RC E S1 := by
  obtain ⟨S1, s1, F1, K1, A1⟩ := s_start (E := E) (g0 := g0) hN hr hu hc hso hk hn h20 h21 hw 0
  have hr0 : smf r0 0 ≤ 9999 := by rw [smf_w]; exact hw
  obtain ⟨S2, M2, s2, F2, K2, A2⟩ := s_ends (E := E) hN 5 7 S1 _ 0 0 rfl (by decide) K1 A1 (okC.pth K1.okL hg hr0 0)
  refine ⟨S2, ?_, F1.trans (F2.mono rfl), Or.inr ⟨t, so, K2.2.1⟩⟩
  unfold f_X6_endsBy
  rw [bd_some s1, show (0 : Int32) = nI 0 from rfl, bd2_some s2]
  rfl
theorem s_allOf {E : EN} {S : ST} {p : Nat} {w : Nat → Nat} (hN : 300 ≤ E.1) (hp : p < 8) (hw : ∀ s, s < 5 → gI S 45 0 (5 * p + s) = nI (w s)) (h9 : wsum w ≤ 9999) : f_X7_allOf E S (nI p) = some (lN (wsum w * 100 ^ 5)) := by
  unfold f_X7_allOf
  rw [bd_some (s_sumOf (by omega) hp hw), show (5 : Int32) = nI 5 from rfl, bd_some (s_hundreds (by omega) (by decide)), nI_l (by omega), lN_mul]
theorem s_allC {E : EN} {S : ST} {p : Nat} {w : Nat → Nat} (hN : 300 ≤ E.1) (hw : ∀ s, s < 5 → gI S 21 p s = nI (w s)) (h9 : wsum w ≤ 9999) {β : Type} (k : Int64 → Option β) : (bd_ (f_X2_together E p S) fun r1 => bd_ (f_X6_grown E S r1.toInt64 (5 : Int32)) k) = k (lN (wsum w * 100 ^ 5)) := by
  rw [bd_some (s_together (by omega) hw), nI_l (by omega), show (5 : Int32) = nI 5 from rfl, bd_some (s_grown (by omega) (by decide))]
theorem q_dv2 {a : Nat} (ha : a < 2 ^ 31) : nI a / (2 : Int32) = nI (a / 2) := pk_div ha (by decide) (by decide)
def wN2 : List (Nat × Nat) := [(16, 5), (16, 6), (16, 7), (28, 0), (10, 0), (11, 0), (12, 0), (13, 0), (18, 0), (19, 0), (61, 0), (62, 0), (63, 0), (64, 0), (65, 0), (66, 0), (67, 0), (68, 0), (69, 0), (1, 31), (1, 32), (72, 0), (73, 0), (74, 0), (75, 0)]
/-- the reference's chances laid down, and the mean's sums -/
theorem s_layMean {E : EN} {S : ST} {t p so k n g0 : Nat} {r0 : Nat → Nat} (hN : 3000 ≤ E.1) (hr : RR E S) (hu : RU E S t) (hp : p < 8) (hk : k < 6) (hn : n < 10) (hg : g0 < 5) (hw : wsum r0 ≤ 9999) (h45 : ∀ s, s < 5 → gI S 45 0 (5 * p + s) = nI (r0 s)) :
    ∃ S1 S2, f_X7_layRule E S (nI so) = some S1 ∧ f_X7_meanOf E S1 (nI p) (nI g0) (nI k) (nI n) = some (lN (eV (lsR S t so) k n g0 r0), S2) ∧ Fm dLR S S1 ∧ Fm wH S1 S2 ∧ LD S1 (lsR S t so) ∧ LD S2 (lsR S t so) ∧ gL S2 1 0 31 = lN (rV (lsR S t so) k n g0 r0) := by
  obtain ⟨S1, s1, LI1⟩ := s_layRule (E := E) (S0 := S) (so := so) hN hr hu.1 hu.2.2
  have F1 := LI1.1
  have D1 : LD S1 (lsR S t so) := LI1.ld
  obtain ⟨S2, s2, F2, D2, l2⟩ := s_meanOf (E := E) (S := S1) (p := p) (k := k) (n := n) (g0 := g0) (r0 := r0) hN hp hk hn hg (by rw [smf_w]; exact hw) (fun s hs => (F1.I rfl).trans (h45 s hs)) (okL_lsR S t so) D1
  exact ⟨S1, S2, s1, s2, F1, F2, D1, D2, l2⟩
theorem k_mean {E : EN} {S : ST} {t : Nat} (hN : 20300 ≤ E.1) (hP : RP E S) (hr : RR E S) (hu : RU E S t) (hc : RC E S) (a b : Int32) : ∃ (r : Int64) (S1 S2 : ST), f_X6_mean E S a b = some (r, S1) ∧ f_X7_mean E S1 a b = some (r, S2) ∧ Fm wN2 S S2 ∧ RC E S2 := by
  obtain ⟨h8, hcn, hm, hroll, -⟩ := id hP
  have n1 : ¬ (1 : Int32) = 0 := by decide
  unfold f_X6_mean f_X7_mean
  rcases q_pup E h8 a with ⟨p, hp1, rfl⟩ | hno
  · have P1 : ∀ S1, gI S1 1 0 0 = nI E.2.1 → f_X7_isPupil E S1 (nI p) = some 1 := fun S1 h => s_isPupil1 h hp1 h8
    rw [bd_some (s_known1 hcn hroll hp1 h8), nl_so, ck_in (decide_eq_true hp1)]
    rcases q_or b with hs | ⟨y, hy, rfl⟩
    · exact ⟨-4611686018427387904, S, S, by rw [if_pos hs], by rw [bd_some (P1 S hm), if_neg n1, bd_some (s_inS hs), if_pos rfl], Fm.rf, hc⟩
    rw [if_neg (q_n0 hy)]
    by_cases h7 : y ≤ 7
    · obtain ⟨k, c, n, q⟩ := hP.pd hp1
      obtain ⟨⟨x1, x2, x3, x4, x5, x6⟩, ⟨a1, a2, a3, a4⟩, ⟨b1, b2, b3, b4⟩, d1, d2⟩ := id q
      obtain ⟨S1, s1, F1, K1, A1⟩ := s_start (E := E) (g0 := cN S p) (by omega) hr hu hc x3 x1 x4 b3 d2 x6 0
      have hr0 : smf (wN S p) 0 ≤ 9999 := by rw [smf_w]; exact x6
      have okL' := okL_lsR S t c
      have heV := eV_le (L := lsR S t c) okL' (k := k) (n := n) (g := cN S p) x6
      have hrV := rV_le (L := lsR S t c) okL' (k := k) (n := n) (g := cN S p) x6
      have hbV := bV_le (L := lsR S t c) okL' (g := cN S p) x2 x6
      have hall : wsum (wN S p) * 100 ^ 5 ≤ 10000000000000000 := by omega
      have hall0 : 0 < wsum (wN S p) * 100 ^ 5 := by omega
      have ok0 := okC.pth K1.okL (k := k) (n := n) (M := 0) x2 hr0 0
      -- the class' value
      have cls : ∃ (A B : Nat) (S2 : ST), A ≤ 10000000000000000 ∧ B ≤ 10000000000000000 ∧ (A, B) = (if y < 2 then (eV (lsR S t c) k n (cN S p) (wN S p), 0) else if y < 4 then (rV (lsR S t c) k n (cN S p) (wN S p), 0) else if y < 6 then (bsT (lsR S t c) 5 (wN S p, cN S p, 0, 0, 0), 0) else (bsT (lsR S t c) 5 (wN S p, cN S p, 0, 0, 0), eV (lsR S t c) k n (cN S p) (wN S p))) ∧
          (lt_ (nI y / (2 : Int32)) fun x8 => (if x8 = (0 : Int32) then bd2 (f_X1_ends E 7 S1 (0 : Int32)) fun r9 S10 => f_X6_mean_b130 E S10 (nI y) p r9 else (if x8 = (1 : Int32) then bd2 (f_X1_rights E 7 S1 (0 : Int32)) fun r11 S12 => f_X6_mean_b130 E S12 (nI y) p r11 else (if x8 = (2 : Int32) then bd2 (f_X1_best E 13 S1 (0 : Int32)) fun r13 S14 => f_X6_mean_b130 E S14 (nI y) p r13 else bd2 (f_X1_best E 13 S1 (0 : Int32)) fun r15 S16 => bd2 (f_X1_ends E 7 S16 (0 : Int32)) fun r17 S18 => lt_ (r15 - r17) fun x19 => f_X6_mean_b130 E S18 (nI y) p x19)))) = f_X6_mean_b130 E S2 (nI y) p (lN A - lN B) ∧ Fm wF S1 S2 ∧ RCt E S2 t c := by
        rw [lt_e, q_dv2 hy]
        by_cases y2 : y < 2
        · obtain ⟨S2, M2, s2, F2, K2, A2⟩ := s_ends (E := E) (by omega) 5 7 S1 _ 0 0 rfl (by decide) K1 A1 ok0
          refine ⟨eV (lsR S t c) k n (cN S p) (wN S p), 0, S2, by omega, by omega, by rw [if_pos y2], ?_, F2, K2.2.1⟩
          rw [if_pos (show nI (y / 2) = (0 : Int32) by rw [show y / 2 = 0 by omega]; rfl), show (0 : Int32) = nI 0 from rfl, bd2_some s2, lN_z]
          rfl
        rw [if_neg (show ¬ nI (y / 2) = (0 : Int32) by rw [q_eqR 0 (by decide) (by omega)]; omega)]
        by_cases y4 : y < 4
        · obtain ⟨S2, M2, s2, F2, K2, A2⟩ := s_rights (E := E) (by omega) 5 7 S1 _ 0 0 rfl (by decide) K1 A1 ok0
          refine ⟨rV (lsR S t c) k n (cN S p) (wN S p), 0, S2, by omega, by omega, by rw [if_neg y2, if_pos y4], ?_, F2, K2.2.1⟩
          rw [if_pos (show nI (y / 2) = (1 : Int32) by rw [show y / 2 = 1 by omega]; rfl), show (0 : Int32) = nI 0 from rfl, bd2_some s2, lN_z]
          rfl
        rw [if_neg (show ¬ nI (y / 2) = (1 : Int32) by rw [q_eqR 1 (by decide) (by omega)]; omega)]
        obtain ⟨S2, M2, s2, F2, K2, A2⟩ := s_best (E := E) (by omega) 5 13 S1 _ 0 0 rfl (by decide) K1 A1 ok0
        by_cases y6 : y < 6
        · refine ⟨bsT (lsR S t c) 5 (wN S p, cN S p, 0, 0, 0), 0, S2, by omega, by omega, by rw [if_neg y2, if_neg y4, if_pos y6], ?_, F2, K2.2.1⟩
          rw [if_pos (show nI (y / 2) = (2 : Int32) by rw [show y / 2 = 2 by omega]; rfl), show (0 : Int32) = nI 0 from rfl, bd2_some s2, lN_z]
          rfl
        · obtain ⟨S3, M3, s3, F3, K3, A3⟩ := s_ends (E := E) (by omega) 5 7 S2 _ M2 0 rfl (by decide) K2 A2 ok0
          refine ⟨bsT (lsR S t c) 5 (wN S p, cN S p, 0, 0, 0), eV (lsR S t c) k n (cN S p) (wN S p), S3, by omega, by omega, by rw [if_neg y2, if_neg y4, if_neg y6], ?_, F2.trans F3, K3.2.1⟩
          rw [if_neg (show ¬ nI (y / 2) = (2 : Int32) by rw [q_eqR 2 (by decide) (by omega)]; omega), show (0 : Int32) = nI 0 from rfl, bd2_some s2, bd2_some s3, lt_e]
          rfl
      obtain ⟨A, B, S2, hA, hB, hAB, s2, F2, R2⟩ := cls
      have F12 : Fm wA S S2 := F1.trans (F2.mono rfl)
      obtain ⟨r, hlow⟩ := s_lowD (E := E) (by omega) hA hB hall hall0 (rmI (nI y) (2 : Int32))
      obtain ⟨S3, S4, s3, s4, F3, F4, D3, D4, l4⟩ := s_layMean (E := E) (S := S2) (t := t) (p := p) (so := c) (k := k) (n := n) (g0 := cN S p) (r0 := wN S p) (by omega) (hr.keep (F12.ag rfl)) ⟨hu.1, (F12.I rfl).trans hu.2.1, (F12.I rfl).trans hu.2.2⟩ (by omega) x1 x4 x2 x6 (fun s hs => (F12.I rfl).trans (d1 s hs))
      rw [lsR_keep (F12.ag rfl)] at s4 D3 D4 l4
      have F24 : Fm wN2 S2 S4 := (F3.mono rfl).trans (F4.mono rfl)
      have F24b : Fm [(61, 0), (62, 0), (63, 0), (64, 0), (65, 0), (66, 0), (67, 0), (68, 0), (69, 0), (1, 31), (1, 32)] S2 S4 := (F3.mono rfl).trans (F4.mono rfl)
      have m109 : ∀ S5 x, Fm [(61, 0), (62, 0), (63, 0), (64, 0), (65, 0), (66, 0), (67, 0), (68, 0), (69, 0), (1, 31), (1, 32), (72, 0), (73, 0), (74, 0), (75, 0)] S2 S5 → x = lN A - lN B → f_X7_mean_b109 E S5 (nI p) (nI y) x = some (r, S5) := fun S5 x F5 hx => by
        unfold f_X7_mean_b109
        rw [bd_some (s_allOf (by omega) (by omega) (fun s hs => (F5.I rfl).trans ((F12.I rfl).trans (d1 s hs))) x6), hx, bd_some (hlow S5).2]
      have pre : ∀ (z : Option (Int64 × ST)), (if nI y ≤ (3 : Int32) then f_X7_mean_b71 E S4 (nI p) (nI y) (lN (eV (lsR S t c) k n (cN S p) (wN S p))) (0 : Int64) else bd2 (f_X7_bestOf E S4 (nI p)) fun r9 S10 => f_X7_mean_b71 E S10 (nI p) (nI y) (lN (eV (lsR S t c) k n (cN S p) (wN S p))) r9) = z → (bd_ (f_X7_isPupil E S2 (nI p)) fun r3 => (if r3 = 0 then some ((-4611686018427387904 : Int64), S2) else bd_ (f_X7_in E S2 (nI y) (0 : Int32) (7 : Int32)) fun r4 => (if r4 = 0 then some ((-4611686018427387904 : Int64), S2) else ck_ (ib_ (nI p) 8) <| bd_ (f_X7_layRule E S2 (gI S2 43 0 (nI p).toNatClampNeg)) fun S6 => bd2 (f_X7_meanOf E S6 (nI p) (gI S6 42 0 (nI p).toNatClampNeg) (gI S6 41 0 (nI p).toNatClampNeg) (gI S6 44 0 (nI p).toNatClampNeg)) fun r7 S8 => (if nI y ≤ (3 : Int32) then f_X7_mean_b71 E S8 (nI p) (nI y) r7 (0 : Int64) else bd2 (f_X7_bestOf E S8 (nI p)) fun r9 S10 => f_X7_mean_b71 E S10 (nI p) (nI y) r7 r9)))) = z := fun z hz => by
        rw [bd_some (P1 S2 ((F12.I rfl).trans hm)), if_neg n1, bd_some (s_inY hy (by decide) (show (7 : Int32) = nI 7 from rfl) h7), if_neg n1, ck_in (ib_nI (by omega) (by decide)), q_cl (by omega), show gI S2 43 0 p = nI c from (F12.I rfl).trans a3, bd_some s3, show gI S3 42 0 p = nI (cN S p) from (F3.I rfl).trans ((F12.I rfl).trans a2), show gI S3 41 0 p = nI k from (F3.I rfl).trans ((F12.I rfl).trans a1), show gI S3 44 0 p = nI n from (F3.I rfl).trans ((F12.I rfl).trans a4), bd2_some s4]
        exact hz
      have clsR : (bd_ (f_X6_start E S p (gI S 20 p 0) (gI S 20 p 2) (gI S 20 p 3)) fun S7 => lt_ (nI y / (2 : Int32)) fun x8 => (if x8 = (0 : Int32) then bd2 (f_X1_ends E 7 S7 (0 : Int32)) fun r9 S10 => f_X6_mean_b130 E S10 (nI y) p r9 else (if x8 = (1 : Int32) then bd2 (f_X1_rights E 7 S7 (0 : Int32)) fun r11 S12 => f_X6_mean_b130 E S12 (nI y) p r11 else (if x8 = (2 : Int32) then bd2 (f_X1_best E 13 S7 (0 : Int32)) fun r13 S14 => f_X6_mean_b130 E S14 (nI y) p r13 else bd2 (f_X1_best E 13 S7 (0 : Int32)) fun r15 S16 => bd2 (f_X1_ends E 7 S16 (0 : Int32)) fun r17 S18 => lt_ (r15 - r17) fun x19 => f_X6_mean_b130 E S18 (nI y) p x19)))) = some (r, S2) := by
        rw [b1, b4, b2, bd_some s1, s2]
        unfold f_X6_mean_b130
        rw [s_allC (by omega) (fun s hs => (F12.I rfl).trans (d2 s hs)) x6, bd_some (hlow S2).1]
      rw [if_pos (show nI y ≤ (7 : Int32) by rw [q_leR 7 (by decide) hy]; exact h7)]
      by_cases y2 : y < 2
      · rw [if_pos y2] at hAB
        have hA1 := (Prod.mk.inj hAB).1
        have hB1 := (Prod.mk.inj hAB).2
        refine ⟨r, S2, S4, clsR, pre _ ?_, (F12.mono rfl).trans F24, Or.inr ⟨t, c, R2.keep (F24b.ag rfl)⟩⟩
        rw [if_pos (by rw [q_leR 3 (by decide) hy]; omega)]
        unfold f_X7_mean_b71
        rw [if_neg (by rw [q_leL 2 (by decide) hy]; omega)]
        exact m109 S4 _ (F24b.mono rfl) (by rw [hA1, hB1, lN_z])
      rw [if_neg y2] at hAB
      by_cases y4 : y < 4
      · rw [if_pos y4] at hAB
        have hA1 := (Prod.mk.inj hAB).1
        have hB1 := (Prod.mk.inj hAB).2
        refine ⟨r, S2, S4, clsR, pre _ ?_, (F12.mono rfl).trans F24, Or.inr ⟨t, c, R2.keep (F24b.ag rfl)⟩⟩
        rw [if_pos (by rw [q_leR 3 (by decide) hy]; omega)]
        unfold f_X7_mean_b71
        rw [if_pos (by rw [q_leL 2 (by decide) hy]; omega), if_neg (by rw [q_leL 4 (by decide) hy]; omega)]
        exact m109 S4 _ (F24b.mono rfl) (by rw [l4, hA1, hB1, lN_z])
      rw [if_neg y4] at hAB
      have FS4 : ∀ s, s < 5 → gI S4 45 0 (5 * p + s) = nI (wN S p s) := fun s hs => (F24.I rfl).trans ((F12.I rfl).trans (d1 s hs))
      obtain ⟨S5, s5, F5, D5⟩ := s_bestOf (E := E) (S := S4) (p := p) (g0 := cN S p) (r0 := wN S p) hN (by omega) x2 hr0 ((F24.I rfl).trans ((F12.I rfl).trans a2)) FS4 okL' D4
      have F25 : Fm [(61, 0), (62, 0), (63, 0), (64, 0), (65, 0), (66, 0), (67, 0), (68, 0), (69, 0), (1, 31), (1, 32), (72, 0), (73, 0), (74, 0), (75, 0)] S2 S5 := (F24b.mono rfl).trans (F5.mono rfl)
      have pre5 : ∀ z, f_X7_mean_b71 E S5 (nI p) (nI y) (lN (eV (lsR S t c) k n (cN S p) (wN S p))) (lN (bsT (lsR S t c) 5 (wN S p, cN S p, 0, 0, 0))) = z → (if nI y ≤ (3 : Int32) then f_X7_mean_b71 E S4 (nI p) (nI y) (lN (eV (lsR S t c) k n (cN S p) (wN S p))) (0 : Int64) else bd2 (f_X7_bestOf E S4 (nI p)) fun r9 S10 => f_X7_mean_b71 E S10 (nI p) (nI y) (lN (eV (lsR S t c) k n (cN S p) (wN S p))) r9) = z := fun z hz => by
        rw [if_neg (by rw [q_leR 3 (by decide) hy]; omega), bd2_some s5]
        exact hz
      unfold f_X7_mean_b71 at pre5
      rw [if_pos (show (2 : Int32) ≤ nI y by rw [q_leL 2 (by decide) hy]; omega), if_pos (show (4 : Int32) ≤ nI y by rw [q_leL 4 (by decide) hy]; omega)] at pre5
      by_cases y6 : y < 6
      · rw [if_pos y6] at hAB
        have hA1 := (Prod.mk.inj hAB).1
        have hB1 := (Prod.mk.inj hAB).2
        refine ⟨r, S2, S5, clsR, pre _ (pre5 _ ?_), (F12.mono rfl).trans (F25.mono rfl), Or.inr ⟨t, c, R2.keep (F25.ag rfl)⟩⟩
        rw [if_neg (by rw [q_leL 6 (by decide) hy]; omega)]
        exact m109 S5 _ F25 (by rw [hA1, hB1, lN_z])
      · rw [if_neg y6] at hAB
        have hA1 := (Prod.mk.inj hAB).1
        have hB1 := (Prod.mk.inj hAB).2
        refine ⟨r, S2, S5, clsR, pre _ (pre5 _ ?_), (F12.mono rfl).trans (F25.mono rfl), Or.inr ⟨t, c, R2.keep (F25.ag rfl)⟩⟩
        rw [if_pos (by rw [q_leL 6 (by decide) hy]; omega)]
        exact m109 S5 _ F25 (by rw [hA1, hB1])
    · exact ⟨-4611686018427387904, S, S, by rw [if_neg (by rw [q_leR 7 (by decide) hy]; exact h7)], by rw [bd_some (P1 S hm), if_neg n1, bd_some (s_inZ hy (by decide) (show (7 : Int32) = nI 7 from rfl) h7), if_pos rfl], Fm.rf, hc⟩
  · exact ⟨-4611686018427387904, S, S, by rw [bd_some (s_known0 hcn hno h8)]; rfl, by rw [bd_some (s_isPupil0 hm hno h8), if_pos rfl], Fm.rf, hc⟩
