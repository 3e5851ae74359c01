/-! PURE PART: summer, test -/
/-- weights behind a summer, still undivided -/
def smr (w : Nat → Nat) (t s : Nat) : Nat := w s * (if s = 0 then 10 else 10 - t) + (if s < 4 then w (s + 1) * t else 0)
theorem q_10t {t : Nat} (ht : t < 10) : ((10 : Int32) - nI t).toInt64 = lN (10 - t) := by
  have all : ∀ t, t < 10 → ((10 : Int32) - nI t).toInt64 = lN (10 - t) := by decide
  exact all t ht
theorem rowL_s (S : ST) (K i o : Nat) (v : Nat → Int64) (k : Nat) : rowL S K i o v (k + 1) = sL (rowL S K i o v k) K i (o + k) (v k) := rfl
theorem w9_le {w : Nat → Nat} (h : wsum w ≤ 9999) {s : Nat} (hs : s < 5) : w s ≤ 9999 := by
  unfold wsum at h
  have : s = 0 ∨ s = 1 ∨ s = 2 ∨ s = 3 ∨ s = 4 := by omega
  rcases this with rfl | rfl | rfl | rfl | rfl <;> omega
theorem smr_le {w : Nat → Nat} (h : wsum w ≤ 9999) {t : Nat} (ht : t < 10) {s : Nat} (hs : s < 5) : smr w t s ≤ 200000 := by
  unfold smr
  have h1 := w9_le h hs
  have e1 : w s * (if s = 0 then 10 else 10 - t) ≤ 9999 * 10 := Nat.mul_le_mul h1 (by split <;> omega)
  by_cases z : s < 4
  · have h2 := w9_le h (show s + 1 < 5 by omega)
    have e2 : w (s + 1) * t ≤ 9999 * 10 := Nat.mul_le_mul h2 (by omega)
    rw [if_pos z]
    omega
  · rw [if_neg z]
    omega
theorem s_summerC {E : EN} {S : ST} {p t : Nat} {w : Nat → Nat} (hN : 300 ≤ E.1) (ht : t < 10) (h21 : ∀ s, s < 5 → gI S 21 p s = nI (w s)) (h9 : wsum w ≤ 9999) :
    f_X6_summer_b36 E E.1 S (nI t) p 0 (0 : Int32) = f_X6_summer_b112 E (rowL S 28 0 0 (fun s => lN (smr w t s)) 5) p 0 := by
  refine lpN (σ := ST × Nat) (φ := fun m y => f_X6_summer_b36 E m y.1 (nI t) p 0 (nI y.2)) (T := fun v => (rowL S 28 0 0 (fun s => lN (smr w t s)) v, v)) (N := 5) (fun m v hv => ?_) (fun m => ?_) (by omega)
  · show g_X6_summer_b36 E (f_X6_summer_b36 E m) _ _ _ _ _ = _
    unfold g_X6_summer_b36 f_X6_summer_b58
    have Fv : Fm [(28, 0)] S (rowL S 28 0 0 (fun s => lN (smr w t s)) v) := rowL_F _ _ _ _ _ (fun _ => rfl) _
    have hI : ∀ s, s < 5 → gI (rowL S 28 0 0 (fun s => lN (smr w t s)) v) 21 p s = nI (w s) := fun s hs => (Fv.I rfl).trans (h21 s hs)
    have h92 := wN_lt h9 hv
    have fin : ∀ (c d : Nat), w v * c + d * t = smr w t v → f_X6_summer_b82 E (f_X6_summer_b36 E m) (rowL S 28 0 0 (fun s => lN (smr w t s)) v) (nI t) p 0 (nI v) (lN c) (lN d) = f_X6_summer_b36 E m (rowL S 28 0 0 (fun s => lN (smr w t s)) (v + 1)) (nI t) p 0 (nI (v + 1)) := fun c d hcd => by
      unfold f_X6_summer_b82
      rw [ck_in (ib_nI (by omega) (by decide)), q_cl (by omega), hI v hv, nI_l (by omega), nI_l (by omega), lN_mul, lN_mul, lN_add, hcd, lt_e, lt_e, nI_1, rowL_s, Nat.zero_add]
    have two : ∀ (c : Nat), c = (if v = 0 then 10 else 10 - t) → (if (5 : Int32) ≤ nI v + (1 : Int32) then f_X6_summer_b82 E (f_X6_summer_b36 E m) (rowL S 28 0 0 (fun s => lN (smr w t s)) v) (nI t) p 0 (nI v) (lN c) (0 : Int64) else ck_ (ib_ (nI v + (1 : Int32)) 5) (f_X6_summer_b82 E (f_X6_summer_b36 E m) (rowL S 28 0 0 (fun s => lN (smr w t s)) v) (nI t) p 0 (nI v) (lN c) ((gI (rowL S 28 0 0 (fun s => lN (smr w t s)) v) 21 p (nI v + (1 : Int32)).toNatClampNeg).toInt64))) = f_X6_summer_b36 E m (rowL S 28 0 0 (fun s => lN (smr w t s)) (v + 1)) (nI t) p 0 (nI (v + 1)) := fun c hc => by
      rw [nI_1]
      by_cases z : v < 4
      · have h93 := wN_lt h9 (show v + 1 < 5 by omega)
        rw [if_neg (by rw [q_leL 5 (by decide) (by omega)]; omega), ck_in (ib_nI (by omega) (by decide)), q_cl (by omega), hI (v + 1) (by omega), nI_l (by omega)]
        exact fin c (w (v + 1)) (by unfold smr; rw [if_pos z, hc])
      · rw [if_pos (by rw [q_leL 5 (by decide) (by omega)]; omega)]
        exact fin c 0 (by unfold smr; rw [if_neg z, hc, Nat.zero_mul])
    rw [if_neg (by rw [q_leL 5 (by decide) (by omega)]; omega)]
    by_cases z : v = 0
    · rw [if_pos (show nI v = (0 : Int32) by rw [z]; rfl)]
      exact two 10 (by rw [if_pos z])
    · rw [if_neg (show ¬ nI v = (0 : Int32) by rw [q_eqR 0 (by decide) (by omega)]; exact z), q_10t ht]
      exact two (10 - t) (by rw [if_neg z])
  · show f_X6_summer_b36 E (m + 1) _ (nI t) p 0 (nI 5) = _
    rw [show f_X6_summer_b36 E (m + 1) = g_X6_summer_b36 E (f_X6_summer_b36 E m) from rfl]
    unfold g_X6_summer_b36
    rw [if_pos (show (5 : Int32) ≤ nI 5 by decide)]
theorem s_summerM {E : EN} {S : ST} {p t : Nat} {w : Nat → Nat} (hN : 300 ≤ E.1) (hp : p < 8) (ht : t < 10) (h45 : ∀ s, s < 5 → gI S 45 0 (5 * p + s) = nI (w s)) (h9 : wsum w ≤ 9999) :
    f_X7_summer_b24 E E.1 S (nI p) (nI t) (0 : Int32) = f_X7_summer_b93 E (rowL S 77 0 0 (fun s => lN (smr w t s)) 5) (nI p) := by
  refine lpN (σ := ST × Nat) (φ := fun m y => f_X7_summer_b24 E m y.1 (nI p) (nI t) (nI y.2)) (T := fun v => (rowL S 77 0 0 (fun s => lN (smr w t s)) v, v)) (N := 5) (fun m v hv => ?_) (fun m => ?_) (by omega)
  · show g_X7_summer_b24 E (f_X7_summer_b24 E m) _ _ _ _ = _
    unfold g_X7_summer_b24 f_X7_summer_b58
    have Fv : Fm [(77, 0)] S (rowL S 77 0 0 (fun s => lN (smr w t s)) v) := rowL_F _ _ _ _ _ (fun _ => rfl) _
    have hI : ∀ s, s < 5 → gI (rowL S 77 0 0 (fun s => lN (smr w t s)) v) 45 0 (5 * p + s) = nI (w s) := fun s hs => (Fv.I rfl).trans (h45 s hs)
    have h92 := wN_lt h9 hv
    have fin : ∀ (c d : Nat), w v * c + d = smr w t v → f_X7_summer_b85 E (f_X7_summer_b24 E m) (rowL S 77 0 0 (fun s => lN (smr w t s)) v) (nI p) (nI t) (nI v) (lN d) (lN (w v * c)) (nI v) = f_X7_summer_b24 E m (rowL S 77 0 0 (fun s => lN (smr w t s)) (v + 1)) (nI p) (nI t) (nI (v + 1)) := fun c d hcd => by
      unfold f_X7_summer_b85
      rw [ck_in (ib_nI (by omega) (by decide)), q_cl (by omega), lN_add, hcd, lt_e, lt_e, nI_1, rowL_s, Nat.zero_add]
    have two : ∀ (c : Nat) (x : Int32), x.toInt64 = lN c → c = (if v = 0 then 10 else 10 - t) → (if (4 : Int32) ≤ nI v then f_X7_summer_b85 E (f_X7_summer_b24 E m) (rowL S 77 0 0 (fun s => lN (smr w t s)) v) (nI p) (nI t) (nI v) (0 : Int64) ((nI (w v)).toInt64 * x.toInt64) (nI v) else ck_ (ib_ ((((5 : Int32) * nI p) + nI v) + (1 : Int32)) 40) (f_X7_summer_b85 E (f_X7_summer_b24 E m) (rowL S 77 0 0 (fun s => lN (smr w t s)) v) (nI p) (nI t) (nI v) (((gI (rowL S 77 0 0 (fun s => lN (smr w t s)) v) 45 0 ((((5 : Int32) * nI p) + nI v) + (1 : Int32)).toNatClampNeg).toInt64) * (nI t).toInt64) ((nI (w v)).toInt64 * x.toInt64) (nI v))) = f_X7_summer_b24 E m (rowL S 77 0 0 (fun s => lN (smr w t s)) (v + 1)) (nI p) (nI t) (nI (v + 1)) := fun c x hx hc => by
      rw [nI_l h92, hx, lN_mul]
      by_cases z : v < 4
      · have h93 := wN_lt h9 (show v + 1 < 5 by omega)
        rw [if_neg (by rw [q_leL 4 (by decide) (by omega)]; omega), q_5w, nI_1, ck_in (ib_nI (by omega) (by decide)), q_cl (by omega), show 5 * p + v + 1 = 5 * p + (v + 1) from rfl, hI (v + 1) (by omega), nI_l (by omega), nI_l (by omega), lN_mul]
        exact fin c (w (v + 1) * t) (by unfold smr; rw [if_pos z, hc])
      · rw [if_pos (by rw [q_leL 4 (by decide) (by omega)]; omega)]
        exact fin c 0 (by unfold smr; rw [if_neg z, hc])
    rw [if_neg (by rw [q_leL 5 (by decide) (by omega)]; omega), show ib_ (((5 : Int32) * nI p) + nI v) 40 = true by rw [q_5w]; exact ib_nI (by omega) (by decide), show (gI (rowL S 77 0 0 (fun s => lN (smr w t s)) v) 45 0 (((5 : Int32) * nI p) + nI v).toNatClampNeg) = nI (w v) by rw [q_5w, q_cl (by omega), hI v hv], ck_in rfl]
    by_cases z : v = 0
    · rw [if_pos (show nI v = (0 : Int32) by rw [z]; rfl)]
      exact two 10 _ (by decide) (by rw [if_pos z])
    · rw [if_neg (show ¬ nI v = (0 : Int32) by rw [q_eqR 0 (by decide) (by omega)]; exact z)]
      exact two (10 - t) _ (q_10t ht) (by rw [if_neg z])
  · show f_X7_summer_b24 E (m + 1) _ (nI p) (nI t) (nI 5) = _
    rw [show f_X7_summer_b24 E (m + 1) = g_X7_summer_b24 E (f_X7_summer_b24 E m) from rfl]
    unfold g_X7_summer_b24
    rw [if_pos (show (5 : Int32) ≤ nI 5 by decide)]
/-- weights are taken on both sides -/
theorem RP.taken {E : EN} {S S1 S2 : ST} (h : RP E S) {p : Nat} (hp : p < E.2.1) {w : Nat → Nat} (h1 : 1 ≤ wsum w) (h2 : wsum w ≤ 9999) (a : Ag dRP S S1) (e : S2 = flr (flr S1 21 p 0 (fun s => nI (w s)) 5) 45 0 (5 * p) (fun s => nI (w s)) 5) : RP E S2 := by
  subst e
  have h8 := h.1
  obtain ⟨k, c, n, q⟩ := h.pd hp
  have Fx : Fm [(21, 0), (45, 0)] S1 (flr (flr S1 21 p 0 (fun s => nI (w s)) 5) 45 0 (5 * p) (fun s => nI (w s)) 5) := (flr_F _ _ _ _ _ (fun _ => rfl) _).trans (flr_F _ _ _ _ _ (fun _ => rfl) _)
  refine h.weights hp h1 h2 (cN S p) q.1.2.1 ((a.sub rfl).tr (Fx.ag rfl)) (fun z hz hzp => ⟨?_, ?_, fun s hs => ⟨?_, ?_⟩⟩) ⟨?_, ?_, fun s hs => ⟨?_, ?_⟩⟩
  · exact (Fx.I rfl).trans (a.I rfl)
  · exact (Fx.I rfl).trans (a.I rfl)
  · rw [gI_flr, if_neg (by omega), gI_flr, if_neg (by omega)]; exact a.I rfl
  · rw [gI_flr, if_neg (by omega), gI_flr, if_neg (by omega)]; exact a.I rfl
  · exact (Fx.I rfl).trans ((a.I rfl).trans q.2.1.2.1)
  · exact (Fx.I rfl).trans ((a.I rfl).trans q.2.2.1.2.1)
  · rw [gI_flr, if_pos ⟨rfl, rfl, by omega, by omega⟩, Nat.add_sub_cancel_left]
  · rw [gI_flr, if_neg (by omega), gI_flr, if_pos ⟨rfl, rfl, by omega, by omega⟩, Nat.sub_zero]
def wU : List (Nat × Nat) := [(28, 0), (21, 0), (77, 0), (45, 0)]
theorem k_summer {E : EN} {S : ST} (hN : 300 ≤ E.1) (hP : RP E S) (a b : Int32) : ∃ (r : Int32) (S1 S2 : ST), f_X6_summer E S a b = some (r, S1) ∧ f_X7_summer E S1 a b = some (r, S2) ∧ Fm wU S S2 ∧ RP E S2 := by
  obtain ⟨h8, hcn, hm, hroll, -⟩ := id hP
  have n1 : ¬ (1 : Int32) = 0 := by decide
  unfold f_X6_summer f_X7_summer
  rcases q_pup E h8 a with ⟨p, hp1, rfl⟩ | hno
  · have P1 : ∀ S1, gI S1 1 0 0 = nI E.2.1 → f_X7_isPupil E S1 (nI p) = some 1 := fun S1 h => s_isPupil1 h hp1 h8
    rw [bd_some (s_known1 hcn hroll hp1 h8), nl_so, ck_in (decide_eq_true hp1)]
    rcases q_or b with hs | ⟨y, hy, rfl⟩
    · exact ⟨-2, S, S, by rw [if_pos hs], by rw [bd_some (P1 S hm), if_neg n1, bd_some (s_inS hs), if_pos rfl], Fm.rf, hP⟩
    rw [if_neg (q_n0 hy)]
    by_cases h9 : y ≤ 9
    · obtain ⟨k, c, n, q⟩ := hP.pd hp1
      obtain ⟨⟨-, hg0, -, -, hw1, hw9⟩, -, -, d1, d2⟩ := id q
      have hB : ∀ s, s < 5 → smr (wN S p) y s ≤ 200000 := fun s hs => smr_le hw9 (by omega) hs
      have FC : Fm [(28, 0)] S (rowL S 28 0 0 (fun s => lN (smr (wN S p) y s)) 5) := rowL_F _ _ _ _ _ (fun _ => rfl) _
      obtain ⟨t1, t0⟩ := s_takes (E := E) (S := rowL S 28 0 0 (fun s => lN (smr (wN S p) y s)) 5) (p := p) (w := 0) (r := smr (wN S p) y) hN (by decide) (fun s hs => by rw [gL_rowL, if_pos ⟨rfl, rfl, by omega, by omega⟩, Nat.sub_zero]) hB
      have eC : f_X6_summer E S (nI p) (nI y) = f_X6_summer_b112 E (rowL S 28 0 0 (fun s => lN (smr (wN S p) y s)) 5) p 0 := by
        unfold f_X6_summer
        rw [bd_some (s_known1 hcn hroll hp1 h8), nl_so, ck_in (decide_eq_true hp1), if_neg (q_n0 hy), if_pos (by rw [q_leR 9 (by decide) hy]; exact h9), show (0 : Int32) = nI 0 from rfl, bd_some (s_weightsAt (by decide)), nl_so, ck_in (decide_eq_true (by decide))]
        exact s_summerC hN (by omega) d2 hw9
      have eC' := eC
      unfold f_X6_summer at eC'
      rw [bd_some (s_known1 hcn hroll hp1 h8), nl_so, ck_in (decide_eq_true hp1), if_neg (q_n0 hy)] at eC'
      rw [eC']
      have eM : ∀ S1, Fm [(28, 0), (21, 0)] S S1 → (bd_ (f_X7_isPupil E S1 (nI p)) fun r9 => (if r9 = 0 then some ((-2 : Int32), S1) else bd_ (f_X7_in E S1 (nI y) (0 : Int32) (9 : Int32)) fun r10 => (if r10 = 0 then some ((-2 : Int32), S1) else f_X7_summer_b24 E E.1 S1 (nI p) (nI y) (0 : Int32)))) = f_X7_summer_b93 E (rowL S1 77 0 0 (fun s => lN (smr (wN S p) y s)) 5) (nI p) := fun S1 F => by
        rw [bd_some (P1 S1 ((F.I rfl).trans hm)), if_neg n1, bd_some (s_inY hy (by decide) (show (9 : Int32) = nI 9 from rfl) h9), if_neg n1]
        exact s_summerM hN (by omega) (by omega) (fun s hs => (F.I rfl).trans (d1 s hs)) hw9
      by_cases tk : tkI (smr (wN S p) y)
      · obtain ⟨k1, k2, -⟩ := tk_sum (B := 200000) (by decide) hB tk
        generalize hC : rowL S 28 0 0 (fun s => lN (smr (wN S p) y s)) 5 = SC at FC t1 t0
        have F1 : Fm [(28, 0), (21, 0)] S (flr SC 21 p 0 (fun s => nI (tkW (smr (wN S p) y) s)) 5) := (FC.mono rfl).trans (flr_F _ _ _ _ _ (fun _ => rfl) _)
        have FM : Fm [(77, 0)] (flr SC 21 p 0 (fun s => nI (tkW (smr (wN S p) y) s)) 5) (rowL (flr SC 21 p 0 (fun s => nI (tkW (smr (wN S p) y) s)) 5) 77 0 0 (fun s => lN (smr (wN S p) y s)) 5) := rowL_F _ _ _ _ _ (fun _ => rfl) _
        obtain ⟨u1, -⟩ := s_becomesM (E := E) (S := rowL (flr SC 21 p 0 (fun s => nI (tkW (smr (wN S p) y) s)) 5) 77 0 0 (fun s => lN (smr (wN S p) y s)) 5) (p := p) (by omega) (r := smr (wN S p) y) hN (by decide) (fun s hs => by rw [gL_rowL, if_pos ⟨rfl, rfl, by omega, by omega⟩, Nat.sub_zero]) hB
        refine ⟨nI (wsum (tkW (smr (wN S p) y))), flr SC 21 p 0 (fun s => nI (tkW (smr (wN S p) y) s)) 5, flr (rowL (flr SC 21 p 0 (fun s => nI (tkW (smr (wN S p) y) s)) 5) 77 0 0 (fun s => lN (smr (wN S p) y s)) 5) 45 0 (5 * p) (fun s => nI (tkW (smr (wN S p) y) s)) 5, ?_, ?_, ?_, ?_⟩
        · unfold f_X6_summer_b112
          rw [bd2_some (t1 tk), if_neg n1, bd_some (s_together (by omega) (fun s hs => by rw [gI_flr, if_pos ⟨rfl, rfl, by omega, by omega⟩, Nat.sub_zero]))]
        · rw [eM _ F1]
          unfold f_X7_summer_b93
          rw [bd2_some (u1 tk), if_neg n1, bd_some (s_sumOf (by omega) (by omega) (fun s hs => by rw [gI_flr, if_pos ⟨rfl, rfl, by omega, by omega⟩, Nat.add_sub_cancel_left]))]
        · exact ((F1.mono rfl).trans (FM.mono rfl)).trans (flr_F _ _ _ _ _ (fun _ => rfl) _)
        · refine (RP.weights hP hp1 k1 k2 (cN S p) hg0 ?_ (fun z hz hzp => ⟨?_, ?_, fun s hs => ⟨?_, ?_⟩⟩) ⟨?_, ?_, fun s hs => ⟨?_, ?_⟩⟩)
          · exact (((F1.mono rfl).trans (FM.mono rfl)).trans (flr_F _ _ _ _ _ (fun _ => rfl) _) : Fm wU S _).ag rfl
          · exact (((F1.mono rfl).trans (FM.mono rfl)).trans (flr_F _ _ _ _ _ (fun _ => rfl) _) : Fm wU S _).I rfl
          · exact (((F1.mono rfl).trans (FM.mono rfl)).trans (flr_F _ _ _ _ _ (fun _ => rfl) _) : Fm wU S _).I rfl
          · rw [gI_flr, if_neg (by omega), FM.I rfl, gI_flr, if_neg (by omega)]; exact FC.I rfl
          · rw [gI_flr, if_neg (by omega), FM.I rfl, gI_flr, if_neg (by omega)]; exact FC.I rfl
          · exact ((((F1.mono rfl).trans (FM.mono rfl)).trans (flr_F _ _ _ _ _ (fun _ => rfl) _) : Fm wU S _).I rfl).trans q.2.1.2.1
          · exact ((((F1.mono rfl).trans (FM.mono rfl)).trans (flr_F _ _ _ _ _ (fun _ => rfl) _) : Fm wU S _).I rfl).trans q.2.2.1.2.1
          · rw [gI_flr, if_pos ⟨rfl, rfl, by omega, by omega⟩, Nat.add_sub_cancel_left]
          · rw [gI_flr, if_neg (by omega), FM.I rfl, gI_flr, if_pos ⟨rfl, rfl, by omega, by omega⟩, Nat.sub_zero]
      · have F1 : Fm [(28, 0), (21, 0)] S (rowL S 28 0 0 (fun s => lN (smr (wN S p) y s)) 5) := FC.mono rfl
        have FM : Fm [(77, 0)] (rowL S 28 0 0 (fun s => lN (smr (wN S p) y s)) 5) (rowL (rowL S 28 0 0 (fun s => lN (smr (wN S p) y s)) 5) 77 0 0 (fun s => lN (smr (wN S p) y s)) 5) := rowL_F _ _ _ _ _ (fun _ => rfl) _
        obtain ⟨-, u0⟩ := s_becomesM (E := E) (S := rowL (rowL S 28 0 0 (fun s => lN (smr (wN S p) y s)) 5) 77 0 0 (fun s => lN (smr (wN S p) y s)) 5) (p := p) (by omega) (r := smr (wN S p) y) hN (by decide) (fun s hs => by rw [gL_rowL, if_pos ⟨rfl, rfl, by omega, by omega⟩, Nat.sub_zero]) hB
        have FA : Fm wU S (rowL (rowL S 28 0 0 (fun s => lN (smr (wN S p) y s)) 5) 77 0 0 (fun s => lN (smr (wN S p) y s)) 5) := (F1.mono rfl).trans (FM.mono rfl)
        have FB : Fm [(28, 0), (77, 0)] S (rowL (rowL S 28 0 0 (fun s => lN (smr (wN S p) y s)) 5) 77 0 0 (fun s => lN (smr (wN S p) y s)) 5) := (FC.mono rfl).trans (FM.mono rfl)
        refine ⟨-3, rowL S 28 0 0 (fun s => lN (smr (wN S p) y s)) 5, rowL (rowL S 28 0 0 (fun s => lN (smr (wN S p) y s)) 5) 77 0 0 (fun s => lN (smr (wN S p) y s)) 5, ?_, ?_, FA, hP.keep (FB.ag rfl)⟩
        · unfold f_X6_summer_b112
          rw [bd2_some (t0 tk), if_pos rfl]
        · rw [eM _ F1]
          unfold f_X7_summer_b93
          rw [bd2_some (u0 tk), if_pos rfl]
    · exact ⟨-2, S, S, by rw [if_neg (by rw [q_leR 9 (by decide) hy]; exact h9)], by rw [bd_some (P1 S hm), if_neg n1, bd_some (s_inZ hy (by decide) (show (9 : Int32) = nI 9 from rfl) h9), if_pos rfl], Fm.rf, hP⟩
  · exact ⟨-2, S, S, by rw [bd_some (s_known0 hcn hno h8)]; rfl, by rw [bd_some (s_isPupil0 hm hno h8), if_pos rfl], Fm.rf, hP⟩
