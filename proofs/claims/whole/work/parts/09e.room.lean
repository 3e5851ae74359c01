/-! PURE PART: room: shares, the call -/
def kN (S : ST) (p : Nat) : Nat := (gI S 41 0 p).toNatClampNeg
def oN (S : ST) (p : Nat) : Nat := (gI S 43 0 p).toNatClampNeg
def uN (S : ST) (p : Nat) : Nat := (gI S 44 0 p).toNatClampNeg
theorem PD.can2 {S : ST} {p k g c n : Nat} {w : Nat → Nat} (h : PD S p k g c n w) : PD S p (kN S p) (cN S p) (oN S p) (uN S p) (wN S p) := by
  obtain ⟨h1, rfl⟩ := h.can
  obtain ⟨⟨x1, x2, x3, x4, -⟩, ⟨a1, a2, a3, a4⟩, -⟩ := id h1
  have ek : k = kN S p := by unfold kN; rw [a1, q_cl (by omega)]
  have ec : c = oN S p := by unfold oN; rw [a3, q_cl (by omega)]
  have en : n = uN S p := by unfold uN; rw [a4, q_cl (by omega)]
  rw [← ek, ← ec, ← en]
  exact h1
theorem RP.pd2 {E : EN} {S : ST} (h : RP E S) {p : Nat} (hp : p < E.2.1) : PD S p (kN S p) (cN S p) (oN S p) (uN S p) (wN S p) := by
  obtain ⟨k, c, n, q⟩ := h.pd hp
  exact q.can2
/-- how likely it is high enough, in tenthousandths -/
def shv (c : CS) : Nat := if smf c.1 0 = 0 then 0 else smf c.1 c.2.1 * 10000 / smf c.1 0
theorem shv_le (c : CS) : shv c ≤ 10000 := by
  unfold shv
  by_cases h : smf c.1 0 = 0
  · rw [if_pos h]; omega
  · rw [if_neg h]
    have h1 := smf_le c.1 c.2.1
    exact Nat.div_le_of_le_mul (Nat.mul_le_mul_right 10000 h1)
def shP (S : ST) (t i : Nat) (x : Int32) : Nat := shv (pth (lsR S t (oN S i)) (kN S i) (uN S i) (cN S i) (wN S i) (x.toNatClampNeg % 100) (x.toNatClampNeg / 100))
def dSH : List (Nat × Nat) := dRR ++ [(41, 0), (42, 0), (43, 0), (44, 0), (45, 0)]
theorem shP_keep {S S1 : ST} (a : Ag dSH S S1) (t i : Nat) (x : Int32) : shP S1 t i x = shP S t i x := by
  have e1 : kN S1 i = kN S i := by unfold kN; rw [a.I rfl]
  have e2 : cN S1 i = cN S i := by unfold cN; rw [a.I rfl]
  have e3 : oN S1 i = oN S i := by unfold oN; rw [a.I rfl]
  have e4 : uN S1 i = uN S i := by unfold uN; rw [a.I rfl]
  have e5 : wN S1 i = wN S i := by funext s; unfold wN; rw [a.I rfl]
  unfold shP
  rw [e1, e2, e3, e4, e5, lsR_keep (a.sub rfl)]
theorem s_share {E : EN} {S : ST} {W : Nat} {c : CS} (hN : 300 ≤ E.1) (hW : W < 6) (hg : c.2.1 < 5) (hB : smf c.1 0 ≤ 99990000000000) (h28 : ∀ s, s < 5 → gL S 28 W s = lN (c.1 s)) (h18 : gI S 18 0 W = nI c.2.1) : f_X1_share E S (nI W) = some (lN (shv c)) := by
  unfold f_X1_share
  have hle := smf_le c.1 c.2.1
  rw [bd_some (s_togetherC (by omega) hW h28)]
  unfold shv
  by_cases h : smf c.1 0 = 0
  · rw [if_pos (by rw [h]; decide), if_pos h]
    rfl
  · have hz : ¬ lN (smf c.1 0) = (0 : Int64) := by
      rw [w_e0 (by omega)]
      exact h
    unfold f_X1_fit
    rw [if_neg (by rw [show (0 : Int64) = lN 0 from rfl, w_le (by omega) (by omega)]; omega), if_neg h, bd_some (show (bd_ (f_X1_classThen E S (nI W)) fun r1 => bd_ (f_X1_from E S r1 (nI W)) fun r2 => some r2) = some (lN (smf c.1 c.2.1)) from by rw [bd_some (s_classThen hW), h18, bd_some (s_from (by omega) hW (by omega) h28)]), ck_in (by rw [decide_eq_false hz]; rfl), show (10000 : Int64) = lN 10000 from rfl, lN_mul, w_div (by omega) (by omega)]
def wR : List (Nat × Nat) := [(16, 5), (16, 6), (16, 7), (28, 0), (10, 0), (11, 0), (12, 0), (13, 0), (18, 0), (19, 0), (7, 0)]
def wQ : List (Nat × Nat) := [(61, 0), (62, 0), (63, 0), (64, 0), (65, 0), (66, 0), (67, 0), (68, 0), (69, 0), (1, 31), (76, 0)]
/-- the class' shares -/
theorem s_sharesC {E : EN} {S : ST} {t tt : Nat} {a b : Int32} (hN : 3000 ≤ E.1) (hP : RP E S) (hr : RR E S) (hu : RU E S t) (hc : RC E S) (hmk : ∀ i, i < E.2.1 → isMk (gI S 25 tt i)) :
    ∃ S2, f_X6_room_b101 E S a b tt = f_X6_room_b163 E S2 a b ∧ Fm wR S S2 ∧ RC E S2 ∧ ∀ i, i < E.2.1 → gL S2 7 0 i = lN (shP S t i (gI S 25 tt i)) := by
  obtain ⟨h8, hcn, hm, hroll, -⟩ := id hP
  have main : ∀ (q v m : Nat) (S1 : ST), v + q = E.2.1 → q < m → Fm wR S S1 → RC E S1 → (∀ i, i < v → gL S1 7 0 i = lN (shP S t i (gI S 25 tt i))) →
      ∃ S2, f_X6_room_b104 E m S1 a b tt (nI v) = f_X6_room_b163 E S2 a b ∧ Fm wR S S2 ∧ RC E S2 ∧ ∀ i, i < E.2.1 → gL S2 7 0 i = lN (shP S t i (gI S 25 tt i)) := by
    intro q
    induction q with
    | zero =>
      intro v m S1 hv hm F C h
      obtain ⟨m, rfl⟩ : ∃ k, m = k + 1 := ⟨m - 1, by omega⟩
      refine ⟨S1, ?_, F, C, fun i hi => h i (by omega)⟩
      rw [show f_X6_room_b104 E (m + 1) = g_X6_room_b104 E (f_X6_room_b104 E m) from rfl]
      unfold g_X6_room_b104
      rw [F.I rfl, hcn, if_pos (by rw [q_le (by omega) (by omega)]; omega)]
    | succ q ih =>
      intro v m S1 hv hm F C h
      obtain ⟨m, rfl⟩ : ∃ k, m = k + 1 := ⟨m - 1, by omega⟩
      have hv1 : v < E.2.1 := by omega
      obtain ⟨W, M, hW, hM, hx⟩ := hmk v hv1
      have hpw := q_pw hW
      have hxx : 100 * W + M < 2147483648 := by omega
      have e1 : (100 * W + M) / 100 = W := by omega
      have e2 : (100 * W + M) % 100 = M := by omega
      have q0 := (hP.pd2 hv1)
      obtain ⟨M2, S2, f1, F1, K1, A1⟩ := s_folC (E := E) hN (hr.keep (F.ag rfl)) (⟨hu.1, (F.I rfl).trans hu.2.1, (F.I rfl).trans hu.2.2⟩ : RU E S1 t) C (q0.keep (F.ag rfl)) hW hM
      rw [lsR_keep (F.ag rfl)] at A1 K1
      obtain ⟨y1, y2, -, -⟩ := A1.1 W (Nat.le_refl _)
      have okc := q0.path t M W
      have hB := okc.bnd (by omega)
      have esh : shP S t v (gI S 25 tt v) = shv (pth (lsR S t (oN S v)) (kN S v) (uN S v) (cN S v) (wN S v) M W) := by
        unfold shP
        rw [hx, q_cl hxx, e1, e2]
      have F2 : Fm wR S (sL S2 7 0 v (lN (shP S t v (gI S 25 tt v)))) := (F.trans (F1.mono rfl)).sL rfl rfl
      obtain ⟨S3, g1, g2, g3, g4⟩ := ih (v + 1) m (sL S2 7 0 v (lN (shP S t v (gI S 25 tt v)))) (by omega) (by omega) F2 (Or.inr ⟨t, oN S v, K1.2.1.keep (((Fm.rf : Fm [(7, 0)] S2 S2).sL rfl rfl).ag rfl)⟩) (fun i hi => by
        rw [gL_sL]
        by_cases z : i = v
        · rw [if_pos ⟨rfl, rfl, z⟩, z]
        · rw [if_neg (fun y => z y.2.2), F1.L rfl]
          exact h i (by omega))
      refine ⟨S3, ?_, g2, g3, g4⟩
      rw [← g1]
      rw [show f_X6_room_b104 E (m + 1) = g_X6_room_b104 E (f_X6_room_b104 E m) from rfl]
      unfold g_X6_room_b104
      rw [F.I (K := 2) rfl, hcn, if_neg (by rw [q_le (by omega) (by omega)]; omega), ck_in (ib_nI (by omega) (by decide)), q_cl (by omega), lt_e, F.R rfl, hroll, if_pos hv1, nl_so, ck_in (decide_eq_true hv1), ck_in (ib_nI (by omega) (by decide)), show gI S1 25 tt v = nI (100 * W + M) from (F.I rfl).trans hx, bd_some f1, show gI S2 25 tt v = nI (100 * W + M) from (F1.I rfl).trans ((F.I rfl).trans hx), q_dv100 hxx, e1, bd_some (s_share (by omega) hW okc.1 hB y1 y2), lt_e, lt_e, nI_1, ← esh]
  unfold f_X6_room_b101
  exact main E.2.1 0 E.1 S (by omega) (by omega) Fm.rf hc (fun i hi => absurd hi (by omega))
theorem q_40 (t i : Nat) : ((40 : Int32) * nI t) + nI i = nI (40 * t + i) := by
  rw [show (40 : Int32) = nI 40 from rfl, pk_mul, nI_add]
theorem s_sharesM {E : EN} {S : ST} {t tt : Nat} {a b : Int32} (hN : 3000 ≤ E.1) (hP : RP E S) (hr : RR E S) (hu : RU E S t) (htt : tt < 4) (hmk : ∀ i, i < E.2.1 → isMk (gI S 85 0 (40 * tt + i))) :
    ∃ S2, f_X7_room_b107 E S a b (nI tt) = f_X7_room_b206 E S2 a b ∧ Fm wQ S S2 ∧ ∀ i, i < E.2.1 → gL S2 76 0 i = lN (shP S t i (gI S 85 0 (40 * tt + i))) := by
  obtain ⟨h8, hcn, hm, hroll, -⟩ := id hP
  have main : ∀ (q v m : Nat) (S1 : ST), v + q = E.2.1 → q < m → Fm wQ S S1 → (∀ i, i < v → gL S1 76 0 i = lN (shP S t i (gI S 85 0 (40 * tt + i)))) →
      ∃ S2, f_X7_room_b110 E m S1 a b (nI tt) (nI v) = f_X7_room_b206 E S2 a b ∧ Fm wQ S S2 ∧ ∀ i, i < E.2.1 → gL S2 76 0 i = lN (shP S t i (gI S 85 0 (40 * tt + i))) := by
    intro q
    induction q with
    | zero =>
      intro v m S1 hv hm' F h
      obtain ⟨m, rfl⟩ : ∃ k, m = k + 1 := ⟨m - 1, by omega⟩
      refine ⟨S1, ?_, F, fun i hi => h i (by omega)⟩
      rw [show f_X7_room_b110 E (m + 1) = g_X7_room_b110 E (f_X7_room_b110 E m) from rfl]
      unfold g_X7_room_b110
      rw [F.I rfl, hm, if_pos (by rw [q_le (by omega) (by omega)]; omega)]
    | succ q ih =>
      intro v m S1 hv hm' F h
      obtain ⟨m, rfl⟩ : ∃ k, m = k + 1 := ⟨m - 1, by omega⟩
      have hv1 : v < E.2.1 := by omega
      obtain ⟨W, M, hW, hM, hx⟩ := hmk v hv1
      have hpw := q_pw hW
      have hxx : 100 * W + M < 2147483648 := by omega
      have e1 : (100 * W + M) / 100 = W := by omega
      have e2 : (100 * W + M) % 100 = M := by omega
      have q0 := (hP.pd2 hv1)
      obtain ⟨⟨x1, x2, x3, x4, x5, x6⟩, ⟨a1, a2, a3, a4⟩, -, d1, -⟩ := id q0
      obtain ⟨S2, f1, F1, A1, -⟩ := s_goMk (E := E) (S := S1) (t := t) hN (hr.keep (F.ag rfl)) (⟨hu.1, (F.I rfl).trans hu.2.1, (F.I rfl).trans hu.2.2⟩ : RU E S1 t) (show v < 8 by omega) x1 x2 x4 x6 ((F.I rfl).trans a1) ((F.I rfl).trans a2) ((F.I rfl).trans a3) ((F.I rfl).trans a4) (fun s hs => (F.I rfl).trans (d1 s hs)) hW hM
      rw [lsR_keep (F.ag rfl)] at A1
      obtain ⟨y1, y2, -, -⟩ := A1 W (Nat.le_refl _)
      have okc := q0.path t M W
      have hB := okc.bnd (by omega)
      have esh : shP S t v (gI S 85 0 (40 * tt + v)) = shv (pth (lsR S t (oN S v)) (kN S v) (uN S v) (cN S v) (wN S v) M W) := by
        unfold shP
        rw [hx, q_cl hxx, e1, e2]
      have F2 : Fm wQ S (sL S2 76 0 v (lN (shP S t v (gI S 85 0 (40 * tt + v))))) := (F.trans (F1.mono rfl)).sL rfl rfl
      obtain ⟨S3, g1, g2, g3⟩ := ih (v + 1) m (sL S2 76 0 v (lN (shP S t v (gI S 85 0 (40 * tt + v))))) (by omega) (by omega) F2 (fun i hi => by
        rw [gL_sL]
        by_cases z : i = v
        · rw [if_pos ⟨rfl, rfl, z⟩, z]
        · rw [if_neg (fun y => z y.2.2), F1.L rfl]
          exact h i (by omega))
      refine ⟨S3, ?_, g2, g3⟩
      rw [← g1]
      rw [show f_X7_room_b110 E (m + 1) = g_X7_room_b110 E (f_X7_room_b110 E m) from rfl]
      unfold g_X7_room_b110
      rw [F.I (K := 1) rfl, hm, if_neg (by rw [q_le (by omega) (by omega)]; omega), q_40, ck_in (ib_nI (by omega) (by decide)), q_cl (by omega), show gI S1 85 0 (40 * tt + v) = nI (100 * W + M) from (F.I rfl).trans hx, bd_some f1, show gI S2 85 0 (40 * tt + v) = nI (100 * W + M) from (F1.I rfl).trans ((F.I rfl).trans hx), q_dv100 hxx, e1, lt_e, bd_some (s_sumRow (by omega) hW y1)]
      rw [esh]
      generalize hcc : pth (lsR S t (oN S v)) (kN S v) (uN S v) (cN S v) (wN S v) M W = cc at y1 y2 okc hB
      have hle := smf_le cc.1 cc.2.1
      have hg := okc.1
      unfold f_X7_room_b199
      by_cases z : smf cc.1 0 = 0
      · rw [if_pos (show lN (smf cc.1 0) = (0 : Int64) by rw [z]; rfl), ck_in (ib_nI (by omega) (by decide)), q_cl (by omega), lt_e, lt_e, nI_1, show shv cc = 0 by unfold shv; rw [if_pos z]]
        rfl
      · have hz : ¬ lN (smf cc.1 0) = (0 : Int64) := by
          rw [w_e0 (by omega)]
          exact z
        rw [if_neg hz, ck_in (ib_nI hW (by decide)), q_cl (show W < 2147483648 by omega), y2, bd_some (s_sumFrom (by omega) hW (by omega) y1), bd_some (s_sumRow (by omega) hW y1), ck_in (by rw [decide_eq_false hz]; rfl), show (10000 : Int64) = lN 10000 from rfl, lN_mul, w_div (by omega) (by omega), ck_in (ib_nI (by omega) (by decide)), q_cl (by omega), lt_e, lt_e, nI_1, show shv cc = 10000 * smf cc.1 cc.2.1 / smf cc.1 0 by unfold shv; rw [if_neg z, Nat.mul_comm]]
  unfold f_X7_room_b107
  exact main E.2.1 0 E.1 S (by omega) (by omega) Fm.rf (fun i hi => absurd hi (by omega))
/-- all marks looked at -/
theorem s_allMkC {E : EN} {S : ST} {tt : Nat} {a b : Int32} (hN : 300 ≤ E.1) (h8 : E.2.1 ≤ 8) (hcn : gI S 2 0 1 = nI E.2.1) :
    ((∀ i, i < E.2.1 → isMk (gI S 25 tt i)) → f_X6_room_b69 E E.1 S a b tt (0 : Int32) = f_X6_room_b101 E S a b tt) ∧ ((¬ ∀ i, i < E.2.1 → isMk (gI S 25 tt i)) → f_X6_room_b69 E E.1 S a b tt (0 : Int32) = some (-2, S)) := by
  have main : ∀ (q v m : Nat), v + q = E.2.1 → q < m → ((∀ i, v ≤ i → i < E.2.1 → isMk (gI S 25 tt i)) → f_X6_room_b69 E m S a b tt (nI v) = f_X6_room_b101 E S a b tt) ∧ ((¬ ∀ i, v ≤ i → i < E.2.1 → isMk (gI S 25 tt i)) → f_X6_room_b69 E m S a b tt (nI v) = some (-2, S)) := by
    intro q
    induction q with
    | zero =>
      intro v m hv hm
      obtain ⟨m, rfl⟩ : ∃ k, m = k + 1 := ⟨m - 1, by omega⟩
      refine ⟨fun _ => ?_, fun h => absurd (fun i hi hi2 => absurd hi2 (by omega)) h⟩
      rw [show f_X6_room_b69 E (m + 1) = g_X6_room_b69 E (f_X6_room_b69 E m) from rfl]
      unfold g_X6_room_b69
      rw [hcn, if_pos (by rw [q_le (by omega) (by omega)]; omega)]
    | succ q ih =>
      intro v m hv hm
      obtain ⟨m, rfl⟩ : ∃ k, m = k + 1 := ⟨m - 1, by omega⟩
      obtain ⟨i1, i2⟩ := ih (v + 1) m (by omega) (by omega)
      rw [show f_X6_room_b69 E (m + 1) = g_X6_room_b69 E (f_X6_room_b69 E m) from rfl]
      unfold g_X6_room_b69
      rw [hcn, if_neg (by rw [q_le (by omega) (by omega)]; omega), ck_in (ib_nI (by omega) (by decide)), q_cl (by omega)]
      by_cases z : isMk (gI S 25 tt v)
      · rw [bd_some (s_marks1 (S1 := S) z).1, if_neg (show ¬ (1 : Int32) = 0 by decide), lt_e, nI_1]
        refine ⟨fun h => i1 fun i hi hi2 => h i (by omega) hi2, fun h => i2 fun h2 => h fun i hi hi2 => ?_⟩
        by_cases y : i = v
        · rw [y]; exact z
        · exact h2 i (by omega) hi2
      · rw [bd_some (s_marks0 (S1 := S) z).1, if_pos rfl]
        exact ⟨fun h => absurd (h v (Nat.le_refl _) (by omega)) z, fun _ => rfl⟩
  obtain ⟨m1, m2⟩ := main E.2.1 0 E.1 (by omega) (by omega)
  exact ⟨fun h => m1 fun i _ hi => h i hi, fun h => m2 fun h2 => h fun i hi => h2 i (Nat.zero_le _) hi⟩
theorem s_allMkM {E : EN} {S : ST} {tt : Nat} {a b : Int32} (hN : 300 ≤ E.1) (h8 : E.2.1 ≤ 8) (htt : tt < 4) (hm : gI S 1 0 0 = nI E.2.1) :
    ((∀ i, i < E.2.1 → isMk (gI S 85 0 (40 * tt + i))) → f_X7_room_b70 E E.1 S a b (nI tt) (0 : Int32) = f_X7_room_b107 E S a b (nI tt)) ∧ ((¬ ∀ i, i < E.2.1 → isMk (gI S 85 0 (40 * tt + i))) → f_X7_room_b70 E E.1 S a b (nI tt) (0 : Int32) = some (-2, S)) := by
  have main : ∀ (q v m : Nat), v + q = E.2.1 → q < m → ((∀ i, v ≤ i → i < E.2.1 → isMk (gI S 85 0 (40 * tt + i))) → f_X7_room_b70 E m S a b (nI tt) (nI v) = f_X7_room_b107 E S a b (nI tt)) ∧ ((¬ ∀ i, v ≤ i → i < E.2.1 → isMk (gI S 85 0 (40 * tt + i))) → f_X7_room_b70 E m S a b (nI tt) (nI v) = some (-2, S)) := by
    intro q
    induction q with
    | zero =>
      intro v m hv hm'
      obtain ⟨m, rfl⟩ : ∃ k, m = k + 1 := ⟨m - 1, by omega⟩
      refine ⟨fun _ => ?_, fun h => absurd (fun i hi hi2 => absurd hi2 (by omega)) h⟩
      rw [show f_X7_room_b70 E (m + 1) = g_X7_room_b70 E (f_X7_room_b70 E m) from rfl]
      unfold g_X7_room_b70
      rw [hm, if_pos (by rw [q_le (by omega) (by omega)]; omega)]
    | succ q ih =>
      intro v m hv hm'
      obtain ⟨m, rfl⟩ : ∃ k, m = k + 1 := ⟨m - 1, by omega⟩
      obtain ⟨i1, i2⟩ := ih (v + 1) m (by omega) (by omega)
      rw [show f_X7_room_b70 E (m + 1) = g_X7_room_b70 E (f_X7_room_b70 E m) from rfl]
      unfold g_X7_room_b70
      rw [hm, if_neg (by rw [q_le (by omega) (by omega)]; omega), q_40, ck_in (ib_nI (by omega) (by decide)), q_cl (by omega)]
      by_cases z : isMk (gI S 85 0 (40 * tt + v))
      · rw [bd_some (s_marks1 (S := S) z).2, if_neg (show ¬ (1 : Int32) = 0 by decide), lt_e, nI_1]
        refine ⟨fun h => i1 fun i hi hi2 => h i (by omega) hi2, fun h => i2 fun h2 => h fun i hi hi2 => ?_⟩
        by_cases y : i = v
        · rw [y]; exact z
        · exact h2 i (by omega) hi2
      · rw [bd_some (s_marks0 (S := S) z).2, if_pos rfl]
        exact ⟨fun h => absurd (h v (Nat.le_refl _) (by omega)) z, fun _ => rfl⟩
  obtain ⟨m1, m2⟩ := main E.2.1 0 E.1 (by omega) (by omega)
  exact ⟨fun h => m1 fun i _ hi => h i hi, fun h => m2 fun h2 => h fun i hi => h2 i (Nat.zero_le _) hi⟩
theorem q_sh9 {n : Nat} (h : n ≤ 8) : ((1 : Int32) <<< (nI n &&& 31)) = nI (2 ^ n) ∧ ((1 : Int32) <<< (nI n &&& 31)) - (1 : Int32) = nI (2 ^ n - 1) ∧ 2 ^ n ≤ 256 ∧ 1 ≤ 2 ^ n := by
  have all : ∀ n, n < 9 → ((1 : Int32) <<< (nI n &&& 31)) = nI (2 ^ n) ∧ ((1 : Int32) <<< (nI n &&& 31)) - (1 : Int32) = nI (2 ^ n - 1) ∧ 2 ^ n ≤ 256 ∧ 1 ≤ 2 ^ n := by decide +kernel
  exact all n (by omega)
def wRQ : List (Nat × Nat) := [(16, 5), (16, 6), (16, 7), (28, 0), (10, 0), (11, 0), (12, 0), (13, 0), (18, 0), (19, 0), (7, 0), (61, 0), (62, 0), (63, 0), (64, 0), (65, 0), (66, 0), (67, 0), (68, 0), (69, 0), (1, 31), (76, 0)]
theorem k_room {E : EN} {S : ST} {t : Nat} (hN : 3000 ≤ E.1) (hP : RP E S) (hS : RS S) (hr : RR E S) (hu : RU E S t) (hc : RC E S) (a b c : Int32) : ∃ (r : Int32) (S1 S2 : ST), f_X6_room E S a b c = some (r, S1) ∧ f_X7_room E S1 a b c = some (r, S2) ∧ Fm wRQ S S2 ∧ RC E S2 := by
  obtain ⟨h8, hcn, hm, hroll, -⟩ := id hP
  have n1 : ¬ (1 : Int32) = 0 := by decide
  obtain ⟨p1, p2, p3, p4⟩ := q_sh9 h8
  unfold f_X6_room f_X7_room
  rw [hcn, p1]
  -- refusals of a, b
  have bad : ∀ (X Y : Option (Int32 × ST)), (a < 0 ∨ nI (2 ^ E.2.1) ≤ a ∨ b < 0 ∨ (8 : Int32) < b) → (if a < 0 then some ((-2 : Int32), S) else if nI (2 ^ E.2.1) ≤ a then some ((-2 : Int32), S) else if b < 0 then some ((-2 : Int32), S) else if (8 : Int32) < b then some ((-2 : Int32), S) else X) = some (-2, S) ∧ (bd_ (f_X7_in E S a (0 : Int32) (nI (2 ^ E.2.1) - (1 : Int32))) fun r21 => if r21 = 0 then some ((-2 : Int32), S) else bd_ (f_X7_in E S b (0 : Int32) (8 : Int32)) fun r22 => if r22 = 0 then some ((-2 : Int32), S) else Y) = some (-2, S) := fun X Y h => by
    rcases q_or a with ha | ⟨A, hA, rfl⟩
    · exact ⟨by rw [if_pos ha], by rw [bd_some (s_inS ha), if_pos rfl]⟩
    rw [if_neg (q_n0 hA), show nI (2 ^ E.2.1) - (1 : Int32) = nI (2 ^ E.2.1 - 1) by rw [← p1, p2]]
    by_cases hA2 : 2 ^ E.2.1 ≤ A
    · exact ⟨by rw [if_pos (show nI (2 ^ E.2.1) ≤ nI A by rw [q_le (by omega) hA]; exact hA2)], by rw [bd_some (s_inZ hA (show 2 ^ E.2.1 - 1 < 2147483648 by omega) rfl (by omega)), if_pos rfl]⟩
    rw [if_neg (show ¬ nI (2 ^ E.2.1) ≤ nI A by rw [q_le (by omega) hA]; exact hA2), bd_some (s_inY hA (show 2 ^ E.2.1 - 1 < 2147483648 by omega) rfl (by omega)), if_neg n1]
    rcases q_or b with hb | ⟨B, hB, rfl⟩
    · exact ⟨by rw [if_pos hb], by rw [bd_some (s_inS hb), if_pos rfl]⟩
    rw [if_neg (q_n0 hB)]
    rcases h with h | h | h | h
    · exact absurd h (q_n0 hA)
    · rw [q_le (by omega) hA] at h; exact absurd h hA2
    · exact absurd h (q_n0 hB)
    · exact ⟨by rw [if_pos h], by rw [bd_some (s_inZ hB (by decide) (show (8 : Int32) = nI 8 from rfl) (by rw [q_ltL 8 (by decide) hB] at h; omega)), if_pos rfl]⟩
  by_cases hab : a < 0 ∨ nI (2 ^ E.2.1) ≤ a ∨ b < 0 ∨ (8 : Int32) < b
  · rcases q_sheet c with ⟨tt, htt, rfl⟩ | hno
    · rw [bd_some (s_laid1 htt), nl_so, ck_in (decide_eq_true htt)]
      exact ⟨-2, S, S, (bad _ (some (0, S)) hab).1, (by rw [hm, p1]; exact (bad (some (0, S)) _ hab).2), Fm.rf, hc⟩
    · rw [bd_some (s_laid0 hno), nl_no]
      exact ⟨-2, S, S, (bad _ (some (0, S)) hab).1, (by rw [hm, p1]; exact (bad (some (0, S)) _ hab).2), Fm.rf, hc⟩
  · rcases q_or a with ha | ⟨A, hA, rfl⟩
    · exact absurd (Or.inl ha) hab
    rcases q_or b with hb | ⟨B, hB, rfl⟩
    · exact absurd (Or.inr (Or.inr (Or.inl hb))) hab
    have hA2 : A < 2 ^ E.2.1 := by
      by_cases z : A < 2 ^ E.2.1
      · exact z
      · exact absurd (Or.inr (Or.inl (by rw [q_le (by omega) hA]; omega))) hab
    have hB2 : B ≤ 8 := by
      by_cases z : B ≤ 8
      · exact z
      · exact absurd (Or.inr (Or.inr (Or.inr (by rw [q_ltL 8 (by decide) hB]; omega)))) hab
    -- both sides ahead of the sheet
    have pre : ∀ (Z S1 : ST) (Y : Int32 → Option (Int32 × ST)), (bd_ (f_X7_in E S1 (nI A) (0 : Int32) (((1 : Int32) <<< (nI E.2.1 &&& 31)) - (1 : Int32))) fun r21 => if r21 = 0 then some ((-2 : Int32), Z) else bd_ (f_X7_in E S1 (nI B) (0 : Int32) (8 : Int32)) fun r22 => if r22 = 0 then some ((-2 : Int32), Z) else bd_ (f_X7_isSheet E S1 c) Y) = bd_ (f_X7_isSheet E S1 c) Y := fun Z S1 Y => by
      rw [p2, bd_some (s_inY hA (show 2 ^ E.2.1 - 1 < 2147483648 by omega) rfl (by omega)), if_neg n1, bd_some (s_inY hB (by decide) (show (8 : Int32) = nI 8 from rfl) hB2), if_neg n1]
    have preC : ∀ (Z : ST) (X : Option (Int32 × ST)), (if nI A < 0 then some ((-2 : Int32), Z) else if nI (2 ^ E.2.1) ≤ nI A then some ((-2 : Int32), Z) else if nI B < 0 then some ((-2 : Int32), Z) else if (8 : Int32) < nI B then some ((-2 : Int32), Z) else X) = X := fun Z X => by
      rw [if_neg (q_n0 hA), if_neg (by rw [q_le (by omega) hA]; omega), if_neg (q_n0 hB), if_neg (by rw [q_ltL 8 (by decide) hB]; omega)]
    rcases q_sheet c with ⟨tt, htt, rfl⟩ | hno
    · obtain ⟨so, n, n40, hso, s1, s2, s3, s4, s5⟩ := hS tt htt
      rw [bd_some (s_laid1 htt), nl_so, ck_in (decide_eq_true htt), preC, s1, s3]
      have refM : ∀ S1, gI S1 1 0 0 = nI E.2.1 → gI S1 83 0 tt = so → gI S1 84 0 tt = nI n → (bd_ (f_X7_in E S1 (nI A) (0 : Int32) (((1 : Int32) <<< ((gI S1 1 0 0) &&& 31)) - (1 : Int32))) fun r21 => if r21 = 0 then some ((-2 : Int32), S1) else bd_ (f_X7_in E S1 (nI B) (0 : Int32) (8 : Int32)) fun r22 => if r22 = 0 then some ((-2 : Int32), S1) else bd_ (f_X7_isSheet E S1 (nI tt)) fun r23 => if r23 = 0 then some ((-2 : Int32), S1) else ck_ (ib_ (nI tt) 4) <| if 0 ≤ (gI S1 83 0 (nI tt).toNatClampNeg) then (if (gI S1 84 0 (nI tt).toNatClampNeg) = (gI S1 1 0 0) then f_X7_room_b70 E E.1 S1 (nI A) (nI B) (nI tt) (0 : Int32) else some ((-2 : Int32), S1)) else some ((-11 : Int32), S1)) = (if 0 ≤ so then (if nI n = nI E.2.1 then f_X7_room_b70 E E.1 S1 (nI A) (nI B) (nI tt) (0 : Int32) else some ((-2 : Int32), S1)) else some ((-11 : Int32), S1)) := fun S1 h1 h2 h3 => by
        rw [h1, pre, bd_some (s_isSheet1 htt), if_neg n1, ck_in (ib_nI htt (by decide)), q_cl (by omega), h2, h3]
      by_cases hmis : so = -1
      · refine ⟨-11, S, S, by rw [if_pos hmis], ?_, Fm.rf, hc⟩
        have := refM S hm s2 s4
        rw [if_neg (show ¬ (0 : Int32) ≤ so by rw [hmis]; decide)] at this
        exact this
      · have h0 : (0 : Int32) ≤ so := by
          rcases hso with ⟨z, -⟩ | z | z | z
          · exact absurd z hmis
          · rw [z]; decide
          · rw [z]; decide
          · rw [z]; decide
        rw [if_neg hmis]
        by_cases hsz : n = E.2.1
        · subst hsz
          have it : ∀ i, i < E.2.1 → gI S 25 tt i = gI S 85 0 (40 * tt + i) := fun i hi => s5 i (by omega)
          rw [if_pos rfl]
          obtain ⟨c1, c0⟩ := s_allMkC (E := E) (S := S) (tt := tt) (a := nI A) (b := nI B) (by omega) h8 hcn
          by_cases hall : ∀ i, i < E.2.1 → isMk (gI S 25 tt i)
          · obtain ⟨S1, g1, G1, C1, h7⟩ := s_sharesC (E := E) (S := S) (t := t) (tt := tt) (a := nI A) (b := nI B) hN hP hr hu hc hall
            have hallM : ∀ i, i < E.2.1 → isMk (gI S1 85 0 (40 * tt + i)) := fun i hi => by
              rw [G1.I rfl, ← it i hi]
              exact hall i hi
            have P2 : RP E S1 := hP.keep (G1.ag rfl)
            obtain ⟨m1, -⟩ := s_allMkM (E := E) (S := S1) (tt := tt) (a := nI A) (b := nI B) (by omega) h8 htt P2.2.2.1
            obtain ⟨S2, g2, G2, h76⟩ := s_sharesM (E := E) (S := S1) (t := t) (tt := tt) (a := nI A) (b := nI B) hN P2 (hr.keep (G1.ag rfl)) ⟨hu.1, (G1.I rfl).trans hu.2.1, (G1.I rfl).trans hu.2.2⟩ htt hallM
            refine ⟨nI (chs A E.2.1 (fun i => shP S t i (gI S 25 tt i)) B), S1, S2, ?_, ?_, (G1.mono rfl).trans (G2.mono rfl), C1.keep (G2.ag rfl)⟩
            · rw [c1 hall, g1]
              exact s_chosenC (by omega) h8 hA2 hB2 ((G1.I rfl).trans hcn) h7 (fun i => shv_le _)
            · refine (refM S1 ((G1.I rfl).trans hm) ((G1.I rfl).trans s2) ((G1.I rfl).trans s4)).trans ?_
              rw [if_pos h0, if_pos rfl, m1 hallM, g2]
              exact s_chosenM (by omega) h8 hA2 hB2 ((G2.I rfl).trans ((G1.I rfl).trans hm)) (fun i hi => by
                rw [h76 i hi, shP_keep (G1.ag rfl), G1.I rfl, it i hi]) (fun i => shv_le _)
          · refine ⟨-2, S, S, c0 hall, ?_, Fm.rf, hc⟩
            obtain ⟨-, m0⟩ := s_allMkM (E := E) (S := S) (tt := tt) (a := nI A) (b := nI B) (by omega) h8 htt hm
            refine (refM S hm s2 s4).trans ?_
            rw [if_pos h0, if_pos rfl, m0 (fun h => hall fun i hi => by rw [it i hi]; exact h i hi)]
        · have e : ¬ nI n = nI E.2.1 := by rw [nI_eq (by omega) (by omega)]; exact hsz
          refine ⟨-2, S, S, by rw [if_neg e], ?_, Fm.rf, hc⟩
          have := refM S hm s2 s4
          rw [if_pos h0, if_neg e] at this
          exact this
    · rw [bd_some (s_laid0 hno), nl_no, preC]
      refine ⟨-2, S, S, rfl, ?_, Fm.rf, hc⟩
      rw [hm, pre, bd_some (s_isSheet0 hno), if_pos rfl]
