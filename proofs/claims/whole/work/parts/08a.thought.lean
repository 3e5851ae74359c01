/-! PURE PART: marks; the way on both sides -/
theorem q_sh {W : Nat} (h : W < 6) : ((1 : Int32) <<< (nI W &&& 31)) = nI (2 ^ W) := by
  have all : ∀ W, W < 6 → ((1 : Int32) <<< (nI W &&& 31)) = nI (2 ^ W) := by decide
  exact all W h
theorem q_pw {W : Nat} (h : W < 6) : 2 ^ W ≤ 32 := by
  have all : ∀ W, W < 6 → 2 ^ W ≤ 32 := by decide
  exact all W h
def isMk (x : Int32) : Prop := ∃ W M : Nat, W < 6 ∧ M < 2 ^ W ∧ x = nI (100 * W + M)
theorem s_marks1 {E : EN} {S S1 : ST} {x : Int32} (h : isMk x) : f_X6_areMarks E S x = some 1 ∧ f_X7_areMarks E S1 x = some 1 := by
  obtain ⟨W, M, hW, hM, rfl⟩ := h
  have hp := q_pw hW
  have e1 : (100 * W + M) / 100 = W := by omega
  have e2 : (100 * W + M) % 100 = M := by omega
  have hx : 100 * W + M < 2147483648 := by omega
  refine ⟨?_, ?_⟩
  · unfold f_X6_areMarks
    rw [if_neg (q_n0 hx), q_dv100 hx, e1, if_neg (by rw [q_ltL 5 (by decide) (by omega)]; omega), q_sh hW, q_rm100 hx, e2, if_neg (by rw [q_le (by omega) (by omega)]; omega)]
  · unfold f_X7_areMarks
    rw [bd_some (s_inY hx (by decide) (show (531 : Int32) = nI 531 from rfl) (by omega)), if_neg (by decide), q_dv100 hx, e1, if_neg (by rw [q_leL 6 (by decide) (by omega)]; omega), q_sh hW, q_rm100 hx, e2, if_neg (by rw [q_le (by omega) (by omega)]; omega)]
theorem s_marks0 {E : EN} {S S1 : ST} {x : Int32} (h : ¬ isMk x) : f_X6_areMarks E S x = some 0 ∧ f_X7_areMarks E S1 x = some 0 := by
  unfold f_X6_areMarks f_X7_areMarks
  rcases q_or x with hs | ⟨y, hy, rfl⟩
  · exact ⟨by rw [if_pos hs], by rw [bd_some (s_inS hs), if_pos (by decide)]⟩
  rw [if_neg (q_n0 hy), q_dv100 hy, q_rm100 hy, show (531 : Int32) = nI 531 from rfl, s_inB hy (by decide)]
  by_cases h5 : y / 100 ≤ 5
  · have hp := q_pw (show y / 100 < 6 by omega)
    have hm : 2 ^ (y / 100) ≤ y % 100 := by
      by_cases z : y % 100 < 2 ^ (y / 100)
      · exact absurd ⟨y / 100, y % 100, by omega, z, by rw [show 100 * (y / 100) + y % 100 = y by omega]⟩ h
      · omega
    refine ⟨?_, ?_⟩
    · rw [if_neg (by rw [q_ltL 5 (by decide) (by omega)]; omega), q_sh (by omega), if_pos (by rw [q_le (by omega) (by omega)]; exact hm)]
    · by_cases z : y ≤ 531
      · rw [if_pos z, if_neg (by decide), if_neg (by rw [q_leL 6 (by decide) (by omega)]; omega), q_sh (by omega), if_pos (by rw [q_le (by omega) (by omega)]; exact hm)]
      · rw [if_neg z, if_pos rfl]
  · refine ⟨?_, ?_⟩
    · rw [if_pos (by rw [q_ltL 5 (by decide) (by omega)]; omega)]
    · rw [if_neg (show ¬ y ≤ 531 by omega), if_pos rfl]
theorem smf_w (w : Nat → Nat) : smf w 0 = wsum w := by
  rw [smf_0]
  rfl
theorem wN_lt {w : Nat → Nat} (h : wsum w ≤ 9999) {s : Nat} (hs : s < 5) : w s < 2147483648 := by
  unfold wsum at h
  have : s = 0 ∨ s = 1 ∨ s = 2 ∨ s = 3 ∨ s = 4 := by omega
  rcases this with rfl | rfl | rfl | rfl | rfl <;> omega
/-- what a way touches -/
def wA : List (Nat × Nat) := [(16, 5), (16, 6), (16, 7), (28, 0), (10, 0), (11, 0), (12, 0), (13, 0), (18, 0), (19, 0)]
def wB : List (Nat × Nat) := [(61, 0), (62, 0), (63, 0), (64, 0), (65, 0), (66, 0), (67, 0), (68, 0), (69, 0), (1, 31)]
/-- the class begins a pupil's way, by a kind and number, from a class -/
theorem s_start {E : EN} {S : ST} {t p so k n g0 : Nat} {r0 : Nat → Nat} (hN : 3000 ≤ E.1) (hr : RR E S) (hu : RU E S t) (hc : RC E S) (hso : so < 4) (hk : k < 6) (hn : n < 10) (h20 : gI S 20 p 1 = nI so) (h21 : ∀ s, s < 5 → gI S 21 p s = nI (r0 s)) (hw : wsum r0 ≤ 9999) (M : Nat) :
    ∃ S1, f_X6_start E S p (nI k) (nI n) (nI g0) = some S1 ∧ Fm wA S S1 ∧ KW E S1 (lsR S t so) t so k n ∧ KA S1 0 (pth (lsR S t so) k n g0 r0 M) 0 := by
  obtain ⟨u1, u2, u3⟩ := id hu
  have h66 : E.2.2.1 ≤ 6 := hr.2.1
  obtain ⟨S1, e1, F1, c1⟩ := s_rely (E := E) hN hc h66 u1 hso
  obtain ⟨S2, e2, F2, b1, b2, b3, b4, b5, b6⟩ := s_beginC (E := E) (S := S1) (by omega) (p := p) (fun s hs => (F1.I rfl).trans (h21 s hs)) (fun s hs => wN_lt hw hs) (nI g0) (nI k) (nI n)
  have F : Fm wA S S2 := (F1.mono rfl).trans (F2.mono rfl)
  refine ⟨S2, ?_, F, ⟨hr.keep (F.ag rfl), c1.keep (F2.ag rfl), lsR_keep (F.ag rfl) t so, hk, hn, b4, b5⟩, fun i hi => ?_, by decide, b6, fun i hi => absurd hi (by omega)⟩
  · unfold f_X6_start
    rw [u2, ck_in (ib_nI (by omega) (by decide)), q_cl (by omega), lt_e, hr.2.2.2.2.1, if_pos u1, nl_so, ck_in (decide_eq_true u1), h20, bd_some e1, bd_some e2]
  · have e : i = 0 := by omega
    subst e
    exact ⟨b1, b2, b3, fun q => absurd q (by omega)⟩
/-- a pupil follows marks, on both sides -/
theorem s_both {E : EN} {S : ST} {t p W M : Nat} (hN : 3000 ≤ E.1) (hP : RP E S) (hr : RR E S) (hu : RU E S t) (hc : RC E S) (hp : p < E.2.1) (hW : W < 6) (hM : M < 2 ^ W) :
    ∃ (so k n M2 : Nat) (S1 S2 : ST), f_X6_follow E S p (nI (100 * W + M)) = some S1 ∧ f_X7_goMarks E S1 (nI p) (nI (100 * W + M)) = some S2 ∧ Fm wA S S1 ∧ Fm wB S1 S2 ∧ so < 4 ∧ KW E S1 (lsR S t so) t so k n ∧ KA S1 W (pth (lsR S t so) k n (cN S p) (wN S p) M) M2 ∧
      (∀ i, i ≤ W → KM S2 i (pth (lsR S t so) k n (cN S p) (wN S p) M i)) ∧ gI S2 1 0 30 = lst (lsR S t so) k n (cN S p) (wN S p) M W ∧ (∀ i, okC i (pth (lsR S t so) k n (cN S p) (wN S p) M i)) ∧ RC E S2 := by
  obtain ⟨k, so, n, q⟩ := hP.pd hp
  obtain ⟨⟨x1, x2, x3, x4, x5, x6⟩, ⟨a1, a2, a3, a4⟩, ⟨b1, b2, b3, b4⟩, c1, c2⟩ := q
  have hpw := q_pw hW
  have e1 : (100 * W + M) / 100 = W := by omega
  have e2 : (100 * W + M) % 100 = M := by omega
  have hx : 100 * W + M < 2147483648 := by omega
  have h8 := hP.1
  obtain ⟨S1, s1, F1, K1, A1⟩ := s_start (E := E) (g0 := cN S p) hN hr hu hc x3 x1 x4 b3 c2 x6 M
  have hr0 : smf (wN S p) 0 ≤ 9999 := by rw [smf_w]; exact x6
  obtain ⟨S2, M2, s2, F2, K2, A2⟩ := s_followC (E := E) (W := W) hN (by omega) (by omega) x2 hr0 K1 A1
  have F12 : Fm wA S S2 := F1.trans (F2.mono rfl)
  have eL : lsR S2 t so = lsR S t so := lsR_keep (F12.ag rfl) t so
  obtain ⟨S3, s3, LI3⟩ := s_layRule (E := E) (S0 := S2) (so := so) hN (hr.keep (F12.ag rfl)) hu.1 ((F12.I rfl).trans hu.2.2)
  have F3 := LI3.1
  have D3 : LD S3 (lsR S t so) := eL ▸ LI3.ld
  obtain ⟨S4, s4, F4, D4, A4, l4⟩ := s_goM (E := E) (S := S3) (p := p) (k := k) (n := n) (g0 := cN S p) (M := M) (W := W) (r0 := wN S p) hN (by omega) (by omega) (by omega) x1 x4 x2 hr0 (fun s hs => (F3.I rfl).trans ((F12.I rfl).trans (c1 s hs))) (okL_lsR S t so) D3
  have F34 : Fm wB S2 S4 := (F3.mono rfl).trans (F4.mono rfl)
  refine ⟨so, k, n, M2, S2, S4, ?_, ?_, F12, F34, x3, K2, A2, A4, l4, okC.pth (okL_lsR S t so) x2 hr0, Or.inr ⟨t, so, K2.2.1.keep (F34.ag rfl)⟩⟩
  · unfold f_X6_follow
    rw [b1, b4, b2, bd_some s1, q_dv100 hx, q_rm100 hx, e1, e2, bd_some s2]
  · unfold f_X7_goMarks
    rw [ck_in (ib_nI (by omega) (by decide)), q_cl (by omega), F12.I rfl, a3, bd_some s3, F3.I rfl, F12.I rfl, a2, F3.I rfl, F12.I rfl, a1, F3.I rfl, F12.I rfl, a4, q_dv100 hx, q_rm100 hx, e1, e2, bd_some s4]
