/-! PURE PART: marks followed, each side by itself; test -/
/-- the class follows marks -/
theorem s_folC {E : EN} {S : ST} {t p k g c n W M : Nat} {w : Nat → Nat} (hN : 3000 ≤ E.1) (hr : RR E S) (hu : RU E S t) (hc : RC E S) (q : PD S p k g c n w) (hW : W < 6) (hM : M < 2 ^ W) :
    ∃ (M2 : Nat) (S1 : ST), f_X6_follow E S p (nI (100 * W + M)) = some S1 ∧ Fm wA S S1 ∧ KW E S1 (lsR S t c) t c k n ∧ KA S1 W (pth (lsR S t c) k n g w M) M2 := by
  obtain ⟨⟨x1, x2, x3, x4, x5, x6⟩, -, ⟨b1, b2, b3, b4⟩, -, c2⟩ := q
  have hpw := q_pw hW
  have e1 : (100 * W + M) / 100 = W := by omega
  have e2 : (100 * W + M) % 100 = M := by omega
  have hx : 100 * W + M < 2147483648 := by omega
  obtain ⟨S1, s1, F1, K1, A1⟩ := s_start (E := E) (g0 := g) hN hr hu hc x3 x1 x4 b3 c2 x6 M
  have hr0 : smf w 0 ≤ 9999 := by rw [smf_w]; exact x6
  obtain ⟨S2, M2, s2, F2, K2, A2⟩ := s_followC (E := E) (W := W) hN (by omega) (by omega) x2 hr0 K1 A1
  refine ⟨M2, S2, ?_, F1.trans (F2.mono rfl), K2, A2⟩
  unfold f_X6_follow
  rw [b1, b4, b2, bd_some s1, q_dv100 hx, q_rm100 hx, e1, e2, bd_some s2]
/-- the reference does -/
theorem s_goMk {E : EN} {S : ST} {t p k g c n W M : Nat} {w : Nat → Nat} (hN : 3000 ≤ E.1) (hr : RR E S) (hu : RU E S t) (hp : p < 8) (x1 : k < 6) (x2 : g < 5) (x4 : n < 10) (x6 : wsum w ≤ 9999)
    (a1 : gI S 41 0 p = nI k) (a2 : gI S 42 0 p = nI g) (a3 : gI S 43 0 p = nI c) (a4 : gI S 44 0 p = nI n) (c1 : ∀ s, s < 5 → gI S 45 0 (5 * p + s) = nI (w s)) (hW : W < 6) (hM : M < 2 ^ W) :
    ∃ (S2 : ST), f_X7_goMarks E S (nI p) (nI (100 * W + M)) = some S2 ∧ Fm wB S S2 ∧
      (∀ i, i ≤ W → KM S2 i (pth (lsR S t c) k n g w M i)) ∧ gI S2 1 0 30 = lst (lsR S t c) k n g w M W := by
  have hpw := q_pw hW
  have e1 : (100 * W + M) / 100 = W := by omega
  have e2 : (100 * W + M) % 100 = M := by omega
  have hx : 100 * W + M < 2147483648 := by omega
  have hr0 : smf w 0 ≤ 9999 := by rw [smf_w]; exact x6
  obtain ⟨S3, s3, LI3⟩ := s_layRule (E := E) (S0 := S) (so := c) hN hr hu.1 hu.2.2
  have F3 := LI3.1
  have D3 : LD S3 (lsR S t c) := LI3.ld
  obtain ⟨S4, s4, F4, D4, A4, l4⟩ := s_goM (E := E) (S := S3) (p := p) (k := k) (n := n) (g0 := g) (M := M) (W := W) (r0 := w) hN (by omega) (by omega) (by omega) x1 x4 x2 hr0 (fun s hs => (F3.I rfl).trans (c1 s hs)) (okL_lsR S t c) D3
  refine ⟨S4, ?_, (F3.mono rfl).trans (F4.mono rfl), A4, l4⟩
  unfold f_X7_goMarks
  rw [ck_in (ib_nI (by omega) (by decide)), q_cl (by omega), a3, bd_some s3, F3.I rfl, a2, F3.I rfl, a1, F3.I rfl, a4, q_dv100 hx, q_rm100 hx, e1, e2, bd_some s4]
theorem PD.path {S : ST} {p k g c n : Nat} {w : Nat → Nat} (q : PD S p k g c n w) (t M : Nat) : ∀ i, okC i (pth (lsR S t c) k n g w M i) :=
  okC.pth (okL_lsR S t c) q.1.2.1 (by rw [smf_w]; exact q.1.2.2.2.2.2)
theorem s_testM {E : EN} {S : ST} {p W M : Nat} {r : Nat → Nat} (hN : 300 ≤ E.1) (hW : W < 6) (hM : M < 100) (h : ∀ s, s < 5 → gL S 66 0 (5 * W + s) = lN (r s)) :
    f_X7_test_b27 E E.1 S (nI p) (nI (100 * W + M)) (0 : Int32) = f_X7_test_b57 E (rowL S 77 0 0 (fun s => lN (r s)) 5) (nI p) (nI (100 * W + M)) := by
  refine lpN (σ := ST × Nat) (φ := fun m y => f_X7_test_b27 E m y.1 (nI p) (nI (100 * W + M)) (nI y.2)) (T := fun v => (rowL S 77 0 0 (fun s => lN (r s)) v, v)) (N := 5) (fun m v hv => ?_) (fun m => ?_) (by omega)
  · show g_X7_test_b27 E (f_X7_test_b27 E m) _ _ _ _ = _
    unfold g_X7_test_b27
    have Fv : Fm [(77, 0)] S (rowL S 77 0 0 (fun s => lN (r s)) v) := rowL_F _ _ _ _ _ (fun _ => rfl) _
    rw [if_neg (by rw [q_leL 5 (by decide) (by omega)]; omega), q_dv100 (by omega), show (100 * W + M) / 100 = W by omega, q_5w, ck_in (ib_nI (by omega) (by decide)), ck_in (ib_nI (by omega) (by decide)), q_cl (by omega), q_cl (by omega), Fv.L rfl, h v hv, lt_e, lt_e, nI_1, rowL_s, Nat.zero_add]
  · show f_X7_test_b27 E (m + 1) _ (nI p) (nI (100 * W + M)) (nI 5) = _
    rw [show f_X7_test_b27 E (m + 1) = g_X7_test_b27 E (f_X7_test_b27 E m) from rfl]
    unfold g_X7_test_b27
    rw [if_pos (show (5 : Int32) ≤ nI 5 by decide)]
def wT : List (Nat × Nat) := wL ++ [(77, 0), (21, 0), (45, 0), (42, 0), (20, 4)]
theorem k_test {E : EN} {S : ST} {t : Nat} (hN : 3000 ≤ E.1) (hP : RP E S) (hr : RR E S) (hu : RU E S t) (hc : RC E S) (a b : Int32) : ∃ (r : Int32) (S1 S2 : ST), f_X6_test E S a b = some (r, S1) ∧ f_X7_test E S1 a b = some (r, S2) ∧ Fm wT S S2 ∧ RP E S2 ∧ RC E S2 := by
  obtain ⟨h8, hcn, hm, hroll, -⟩ := id hP
  have n1 : ¬ (1 : Int32) = 0 := by decide
  unfold f_X6_test f_X7_test
  rcases q_pup E h8 a with ⟨p, hp1, rfl⟩ | hno
  · have P1 : ∀ S1, gI S1 1 0 0 = nI E.2.1 → f_X7_isPupil E S1 (nI p) = some 1 := fun S1 h => s_isPupil1 h hp1 h8
    rw [bd_some (s_known1 hcn hroll hp1 h8), nl_so, ck_in (decide_eq_true hp1)]
    by_cases hmk : isMk b
    · rw [bd_some (s_marks1 (S1 := S) hmk).1, if_neg n1]
      obtain ⟨W, M, hW, hM, rfl⟩ := id hmk
      obtain ⟨k, c, n, q⟩ := hP.pd hp1
      obtain ⟨⟨x1, x2, x3, x4, x5, x6⟩, ⟨a1, a2, a3, a4⟩, ⟨b1, b2, b3, b4⟩, d1, d2⟩ := id q
      obtain ⟨M2, S1, f1, F1, K1, A1⟩ := s_folC (E := E) hN hr hu hc q hW hM
      have hpw := q_pw hW
      have e1 : (100 * W + M) / 100 = W := by omega
      have hx : 100 * W + M < 2147483648 := by omega
      obtain ⟨y1, y2, -, -⟩ := A1.1 W (Nat.le_refl _)
      have okc := q.path t M W
      have hB := okc.bnd (by omega)
      have hB5 : ∀ s, s < 5 → (pth (lsR S t c) k n (cN S p) (wN S p) M W).1 s ≤ 99990000000000 := fun s hs => by
        refine Nat.le_trans ?_ hB
        rw [smf_0]
        have : s = 0 ∨ s = 1 ∨ s = 2 ∨ s = 3 ∨ s = 4 := by omega
        rcases this with rfl | rfl | rfl | rfl | rfl <;> omega
      obtain ⟨t1, t0⟩ := s_takes (E := E) (S := S1) (p := p) (w := W) (by omega) (by decide) y1 hB5
      -- the reference, from any state that the class may leave
      have ref : ∀ SB, Fm [(21, 0), (20, 4)] S1 SB → ∃ SD, (bd_ (f_X7_isPupil E SB (nI p)) fun r10 => (if r10 = 0 then some ((-2 : Int32), SB) else bd_ (f_X7_areMarks E SB (nI (100 * W + M))) fun r11 => (if r11 = 0 then some ((-2 : Int32), SB) else bd_ (f_X7_goMarks E SB (nI p) (nI (100 * W + M))) fun S12 => f_X7_test_b27 E E.1 S12 (nI p) (nI (100 * W + M)) (0 : Int32)))) = f_X7_test_b57 E SD (nI p) (nI (100 * W + M)) ∧ Fm ((77, 0) :: wB) SB SD ∧ gI SD 67 0 W = nI (pth (lsR S t c) k n (cN S p) (wN S p) M W).2.1 ∧ ∀ s, s < 5 → gL SD 77 0 s = lN ((pth (lsR S t c) k n (cN S p) (wN S p) M W).1 s) := fun SB FB => by
        have FSB : Fm ((21, 0) :: (20, 4) :: wA) S SB := (F1.mono rfl).trans (FB.mono rfl)
        have eL : lsR SB t c = lsR S t c := lsR_keep (FSB.ag rfl) t c
        obtain ⟨SC, f2, F2, A2, -⟩ := s_goMk (E := E) (S := SB) (t := t) (p := p) (k := k) (g := cN S p) (c := c) (n := n) (W := W) (M := M) (w := wN S p) hN (hr.keep (FSB.ag rfl)) ⟨hu.1, (FSB.I rfl).trans hu.2.1, (FSB.I rfl).trans hu.2.2⟩ (by omega) x1 x2 x4 x6 ((FSB.I rfl).trans a1) ((FSB.I rfl).trans a2) ((FSB.I rfl).trans a3) ((FSB.I rfl).trans a4) (fun s hs => (FSB.I rfl).trans (d1 s hs)) hW hM
        rw [eL] at A2
        obtain ⟨z1, z2, -, -⟩ := A2 W (Nat.le_refl _)
        have FD : Fm [(77, 0)] SC (rowL SC 77 0 0 (fun s => lN ((pth (lsR S t c) k n (cN S p) (wN S p) M W).1 s)) 5) := rowL_F _ _ _ _ _ (fun _ => rfl) _
        refine ⟨rowL SC 77 0 0 (fun s => lN ((pth (lsR S t c) k n (cN S p) (wN S p) M W).1 s)) 5, ?_, (F2.mono rfl).trans (FD.mono rfl), (FD.I rfl).trans z2, fun s hs => by rw [gL_rowL, if_pos ⟨rfl, rfl, by omega, by omega⟩, Nat.sub_zero]⟩
        rw [bd_some (P1 SB ((FSB.I rfl).trans hm)), if_neg n1, bd_some (s_marks1 (S := S) (S1 := SB) hmk).2, if_neg n1, bd_some f2]
        exact s_testM (by omega) hW (by omega) z1
      rw [bd_some f1, q_dv100 hx, e1, lt_e, bd_some (s_weightsAt hW), nl_so, ck_in (decide_eq_true hW)]
      generalize hcc : pth (lsR S t c) k n (cN S p) (wN S p) M W = cc at y1 y2 okc hB hB5 t1 t0 ref
      by_cases tk : tkI cc.1
      · obtain ⟨k1, k2, -⟩ := tk_sum (B := 99990000000000) (by decide) hB5 tk
        have FA : Fm [(21, 0)] S1 (flr S1 21 p 0 (fun s => nI (tkW cc.1 s)) 5) := flr_F _ _ _ _ _ (fun _ => rfl) _
        have FAB : Fm [(21, 0), (20, 4)] S1 (sI (flr S1 21 p 0 (fun s => nI (tkW cc.1 s)) 5) 20 p 3 (nI cc.2.1)) := (FA.mono rfl).sI rfl rfl
        have g21 : ∀ s, s < 5 → gI (sI (flr S1 21 p 0 (fun s => nI (tkW cc.1 s)) 5) 20 p 3 (nI cc.2.1)) 21 p s = nI (tkW cc.1 s) := fun s hs => by
          rw [gI_ne (by omega), gI_flr, if_pos ⟨rfl, rfl, by omega, by omega⟩, Nat.sub_zero]
        have g21' : ∀ z, z ≠ p → ∀ s, gI (sI (flr S1 21 p 0 (fun s => nI (tkW cc.1 s)) 5) 20 p 3 (nI cc.2.1)) 21 z s = gI S 21 z s := fun z hz s => by
          rw [gI_ne (by omega), gI_flr, if_neg (by omega)]
          exact F1.I rfl
        have g20 : gI (sI (flr S1 21 p 0 (fun s => nI (tkW cc.1 s)) 5) 20 p 3 (nI cc.2.1)) 20 p 3 = nI cc.2.1 := gI_same _ _ _ _ _
        have g20' : ∀ z, z ≠ p → gI (sI (flr S1 21 p 0 (fun s => nI (tkW cc.1 s)) 5) 20 p 3 (nI cc.2.1)) 20 z 3 = gI S 20 z 3 := fun z hz => by
          rw [gI_ne (by omega), FA.I rfl]
          exact F1.I rfl
        have eq1 : (bd2 (f_X2_takes E p S1 W) fun r10 S11 => (if r10 = 0 then some ((-3 : Int32), S11) else bd_ (f_X1_classThen E S11 (nI W)) fun r12 => lt_ (sI S11 20 p 3 r12) fun S13 => some (gI S13 20 p 3, S13))) = some (nI cc.2.1, sI (flr S1 21 p 0 (fun s => nI (tkW cc.1 s)) 5) 20 p 3 (nI cc.2.1)) := by
          rw [bd2_some (t1 tk), if_neg n1, bd_some (s_classThen hW), FA.I rfl, y2, lt_e, g20]
        generalize sI (flr S1 21 p 0 (fun s => nI (tkW cc.1 s)) 5) 20 p 3 (nI cc.2.1) = SB at FAB g21 g21' g20 g20' eq1
        obtain ⟨SD, f2, F2, z2, z1⟩ := ref SB FAB
        obtain ⟨u1, -⟩ := s_becomesM (E := E) (S := SD) (p := p) (by omega) (by omega) (by decide) z1 hB5
        have FE : Fm [(45, 0)] SD (flr SD 45 0 (5 * p) (fun s => nI (tkW cc.1 s)) 5) := flr_F _ _ _ _ _ (fun _ => rfl) _
        have FF : Fm [(45, 0), (42, 0)] SD (sI (flr SD 45 0 (5 * p) (fun s => nI (tkW cc.1 s)) 5) 42 0 p (nI cc.2.1)) := (FE.mono rfl).sI rfl rfl
        have FT : Fm wT S (sI (flr SD 45 0 (5 * p) (fun s => nI (tkW cc.1 s)) 5) 42 0 p (nI cc.2.1)) := (((F1.mono rfl).trans (FAB.mono rfl)).trans (F2.mono rfl)).trans (FF.mono rfl)
        refine ⟨nI cc.2.1, SB, sI (flr SD 45 0 (5 * p) (fun s => nI (tkW cc.1 s)) 5) 42 0 p (nI cc.2.1), eq1, ?_, FT, ?_, Or.inr ⟨t, c, ?_⟩⟩
        · rw [f2]
          unfold f_X7_test_b57
          rw [bd2_some (u1 tk), if_neg n1, q_dv100 hx, e1, ck_in (ib_nI hW (by decide)), ck_in (ib_nI (by omega) (by decide)), q_cl (by omega), q_cl (by omega), lt_e, FE.I rfl, z2, gI_same]
        · refine RP.weights hP hp1 k1 k2 cc.2.1 okc.1 (FT.ag rfl) (fun z hz hzp => ⟨?_, ?_, fun s hs => ⟨?_, ?_⟩⟩) ⟨?_, ?_, fun s hs => ⟨?_, ?_⟩⟩
          · rw [gI_ne (by omega), FE.I rfl, F2.I rfl, FAB.I rfl]; exact F1.I rfl
          · rw [FF.I rfl, F2.I rfl]; exact g20' z hzp
          · rw [gI_ne (by omega), gI_flr, if_neg (by omega), F2.I rfl, FAB.I rfl]; exact F1.I rfl
          · rw [FF.I rfl, F2.I rfl]; exact g21' z hzp s
          · rw [gI_same]
          · rw [FF.I rfl, F2.I rfl]; exact g20
          · rw [gI_ne (by omega), gI_flr, if_pos ⟨rfl, rfl, by omega, by omega⟩, Nat.add_sub_cancel_left]
          · rw [FF.I rfl, F2.I rfl]; exact g21 s hs
        · exact K1.2.1.keep ((((FAB.mono rfl).trans (F2.mono rfl)).trans (FF.mono rfl) : Fm ([(21, 0), (20, 4), (77, 0), (45, 0), (42, 0)] ++ wB) S1 _).ag rfl)
      · obtain ⟨SD, f2, F2, z2, z1⟩ := ref S1 Fm.rf
        obtain ⟨-, u0⟩ := s_becomesM (E := E) (S := SD) (p := p) (by omega) (by omega) (by decide) z1 hB5
        have FT : Fm wT S SD := (F1.mono rfl).trans (F2.mono rfl)
        have FT2 : Fm ((77, 0) :: wL) S SD := (F1.mono rfl).trans (F2.mono rfl)
        refine ⟨-3, S1, SD, ?_, ?_, FT, hP.keep (FT2.ag rfl), Or.inr ⟨t, c, K1.2.1.keep (F2.ag rfl)⟩⟩
        · rw [bd2_some (t0 tk), if_pos rfl]
        · rw [f2]
          unfold f_X7_test_b57
          rw [bd2_some (u0 tk), if_pos rfl]
    · exact ⟨-2, S, S, by rw [bd_some (s_marks0 (S1 := S) hmk).1, if_pos rfl], by rw [bd_some (P1 S hm), if_neg n1, bd_some (s_marks0 (S := S) (S1 := S) hmk).2, if_pos rfl], Fm.rf, hP, hc⟩
  · exact ⟨-2, S, S, by rw [bd_some (s_known0 hcn hno h8)]; rfl, by rw [bd_some (s_isPupil0 hm hno h8), if_pos rfl], Fm.rf, hP, hc⟩
