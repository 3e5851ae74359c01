/-! PURE PART: rules: both evaluations -/
section EVM
variable {E : EN} {S : ST} {kh : ST → Int32 → Int32 → Int32 → Int32 → Option (Int32 × ST)}
/-- the reference's turn, of a sign -/
def tdis (E : EN) (kh : ST → Int32 → Int32 → Int32 → Int32 → Option (Int32 × ST)) (S : ST) (v1 v2 v3 v4 x : Int32) : Option (Int32 × ST) :=
  if x = 0 then f_X7_tellsRule_b60 E kh S v1 v2 v3 v4 x else if x = (1 : Int32) then f_X7_tellsRule_b60 E kh S v1 v2 v3 v4 x else if x = (4 : Int32) then f_X7_tellsRule_b112 E kh S v1 v2 v3 v4 x else if x = (10 : Int32) then f_X7_tellsRule_b112 E kh S v1 v2 v3 v4 x else
    lt_ (v3 + (-1 : Int32)) fun x15 =>
            ck_ (ib_ (x15 - (1 : Int32)) 161) <|
            ck_ (ib_ x15 161) <|
            bd_ (f_X7_done E S x (gI S 61 0 (x15 - (1 : Int32)).toNatClampNeg) (gI S 61 0 x15.toNatClampNeg)) fun r18 =>
            lt_ (sI S 61 0 (x15 - (1 : Int32)).toNatClampNeg r18) fun S19 =>
            f_X7_tellsRule_b189 E kh S19 v1 v2 x15 v4
theorem s_t92 {v1 v2 v4 t0 : Int32} {h : Nat} (hh : h < 160) : f_X7_tellsRule_b92 E kh S v1 v2 (nI h) v4 t0 (nI h) = f_X7_tellsRule_b189 E kh (sI S 61 0 h t0) v1 v2 (nI (h + 1)) v4 := by
  unfold f_X7_tellsRule_b92
  rw [ck_in (ib_nI (by omega) (by decide)), q_cl (by omega), lt_e, lt_e, nI_1]
theorem s_t154 {v1 v2 v3 v4 t0 : Int32} {h : Nat} (hh : h < 160) : f_X7_tellsRule_b154 E kh S v1 v2 v3 v4 t0 (nI h) = f_X7_tellsRule_b189 E kh (sI S 61 0 h t0) v1 v2 v3 v4 := by
  unfold f_X7_tellsRule_b154
  rw [ck_in (ib_nI (by omega) (by decide)), q_cl (by omega), lt_e]
theorem s_tsign {x : Nat × Nat} {h : Nat} (hh : h < 160) (ok : okS x h) {fc : Nat → Int32} (hf : ∀ j, j < 6 → gI S 62 0 j = fc j) {g : Nat → Int32} (hst : stk S 61 (g, h)) {v1 v2 : Int32} {i : Nat} (hi : i < 2880) (h58 : gI S 58 0 i = nI x.2) :
    ∃ S2, tdis E kh S v1 v2 (nI h) (nI i) (nI x.1) = f_X7_tellsRule_b189 E kh S2 v1 v2 (nI (hS x h)) (nI i) ∧ Fm [(61, 0)] S S2 ∧ stk S2 61 (evS fc x (g, h)) := by
  obtain ⟨k1, k2, k3, k4, k5⟩ := ok
  have hst' : ∀ j, j < h → gI S 61 0 j = g j := hst
  have zi : ib_ (nI i) 2880 = true := ib_nI hi (by decide)
  have zc : (nI i).toNatClampNeg = i := q_cl (by omega)
  have zx : ∀ a : Nat, a < 2147483648 → x.1 ≠ a → ¬ nI x.1 = nI a := fun a ha q e => q (q_inj (by omega) ha e)
  unfold tdis
  by_cases c0 : x.1 = 0
  · have := k2
    have eh : hS x h = h + 1 := by unfold hS; rw [if_pos (Or.inl c0)]
    refine ⟨sI S 61 0 h (nI x.2), ?_, Fm.rf.sI rfl rfl, ?_⟩
    · rw [if_pos (show nI x.1 = (0 : Int32) by rw [c0]; rfl), eh]
      unfold f_X7_tellsRule_b60
      rw [if_pos (show nI x.1 = (0 : Int32) by rw [c0]; rfl), ck_in zi, zc, h58, s_t92 hh]
    · unfold evS
      rw [if_pos c0]
      exact stk.up (fun j hj hne => hst' j (by omega)) _
  · have n0 : ¬ nI x.1 = (0 : Int32) := zx 0 (by decide) c0
    rw [if_neg n0]
    by_cases c1 : x.1 = 1
    · have := k3 c1
      have eh : hS x h = h + 1 := by unfold hS; rw [if_pos (Or.inr c1)]
      refine ⟨sI S 61 0 h (fc x.2), ?_, Fm.rf.sI rfl rfl, ?_⟩
      · rw [if_pos (show nI x.1 = (1 : Int32) by rw [c1]; rfl), eh]
        unfold f_X7_tellsRule_b60
        rw [if_neg n0, ck_in zi, zc, h58, ck_in (ib_nI (by omega) (by decide)), q_cl (by omega), hf _ this, s_t92 hh]
      · unfold evS
        rw [if_neg c0, if_pos c1]
        exact stk.up (fun j hj hne => hst' j (by omega)) _
    · rw [if_neg (show ¬ nI x.1 = (1 : Int32) from zx 1 (by decide) c1)]
      by_cases c4 : x.1 = 4
      · have hh1 := k4 (Or.inl c4)
        obtain ⟨h', rfl⟩ : ∃ h', h = h' + 1 := ⟨h - 1, by omega⟩
        have eh : hS x (h' + 1) = h' + 1 := by unfold hS; rw [if_neg (by omega), if_pos (Or.inl c4)]
        refine ⟨sI S 61 0 h' (if gI S 61 0 h' = 0 then 1 else 0), ?_, Fm.rf.sI rfl rfl, ?_⟩
        · rw [if_pos (show nI x.1 = (4 : Int32) by rw [c4]; rfl), eh]
          unfold f_X7_tellsRule_b112
          rw [if_neg (show ¬ nI x.1 = (10 : Int32) from zx 10 (by decide) (by omega)), q_m1, ck_in (ib_nI (by omega) (by decide)), q_cl (by omega)]
          by_cases z : gI S 61 0 h' = 0
          · rw [if_pos z, if_pos z, s_t154 (by omega)]
          · rw [if_neg z, if_neg z, s_t154 (by omega)]
        · unfold evS
          rw [if_neg c0, if_neg c1, if_pos c4]
          dsimp only
          rw [hst' h' (by omega)]
          exact stk.up (fun j hj hne => hst' j (by omega)) _
      · rw [if_neg (show ¬ nI x.1 = (4 : Int32) from zx 4 (by decide) c4)]
        by_cases c10 : x.1 = 10
        · have hh1 := k4 (Or.inr c10)
          obtain ⟨h', rfl⟩ : ∃ h', h = h' + 1 := ⟨h - 1, by omega⟩
          have eh : hS x (h' + 1) = h' + 1 := by unfold hS; rw [if_neg (by omega), if_pos (Or.inr c10)]
          refine ⟨sI S 61 0 h' (- gI S 61 0 h'), ?_, Fm.rf.sI rfl rfl, ?_⟩
          · rw [if_pos (show nI x.1 = (10 : Int32) by rw [c10]; rfl), eh]
            unfold f_X7_tellsRule_b112
            rw [if_pos (show nI x.1 = (10 : Int32) by rw [c10]; rfl), q_m1, ck_in (ib_nI (by omega) (by decide)), q_cl (by omega), s_t154 (by omega)]
          · unfold evS
            rw [if_neg c0, if_neg c1, if_neg c4, if_pos c10]
            dsimp only
            rw [hst' h' (by omega)]
            exact stk.up (fun j hj hne => hst' j (by omega)) _
        · rw [if_neg (show ¬ nI x.1 = (10 : Int32) from zx 10 (by decide) c10)]
          obtain ⟨h', rfl⟩ : ∃ h', h = h' + 1 + 1 := ⟨h - 2, by omega⟩
          have eh : hS x (h' + 1 + 1) = h' + 1 := by unfold hS; rw [if_neg (by omega), if_neg (by omega), Nat.add_sub_cancel]
          refine ⟨sI S 61 0 h' (dnI x.1 (gI S 61 0 h') (gI S 61 0 (h' + 1))), ?_, Fm.rf.sI rfl rfl, ?_⟩
          · have z6 : ib_ (nI h') 161 = true := ib_nI (by omega) (by decide)
            have z7 : ib_ (nI (h' + 1)) 161 = true := ib_nI (by omega) (by decide)
            rw [lt_e, q_ad1, q_m1, ck_in z6, ck_in z7, q_cl (show h' < 2147483648 by omega), q_cl (show h' + 1 < 2147483648 by omega), bd_some (s_done k1 c0 c1 c4 c10 _ _), lt_e, eh]
          · unfold evS
            rw [if_neg c0, if_neg c1, if_neg c4, if_neg c10]
            dsimp only
            rw [show h' + 1 + 1 - 2 = h' by omega, show h' + 1 + 1 - 1 = h' + 1 by omega, hst' h' (by omega), hst' (h' + 1) (by omega)]
            exact stk.up (fun j hj hne => hst' j (by omega)) _
end EVM
/-- a row of signs on both sides: text t, key k, n signs f, from place o of the class' code -/
def RK (S : ST) (t k n o : Nat) (f : Nat → Nat × Nat) : Prop :=
  n ≤ 160 ∧ okF f n ∧ gI S 59 0 (3 * t + k) = nI n ∧ gI S 32 t k = nI o ∧ gI S 32 t (k + 1) = nI (o + n) ∧
  (∃ L, L ≤ 160 ∧ o + n ≤ L ∧ gL S 31 t 0 = lN L) ∧ ∀ i, i < n → gI S 31 t (o + i) = nI (enc (f i)) ∧ gI S 57 0 (480 * t + 160 * k + i) = nI (f i).1 ∧ gI S 58 0 (480 * t + 160 * k + i) = nI (f i).2
theorem q_vl {S : ST} {K t L : Nat} (h : gL S K t 0 = lN L) (hL : L ≤ 160) : vl_ S K t = L := by
  show (gL S K t 0).toInt.toNat = L
  rw [h, lN_toInt (by omega)]
  rfl
/-- the class' evaluation -/
theorem s_worth {E : EN} {S : ST} {t k n o : Nat} {f : Nat → Nat × Nat} (hN : 200 ≤ E.1) (ht : t < E.2.2.1) (hk : k < 3) (hR : gR S 10 0 0 = some t) (h : RK S t k n o f) {fc : Nat → Int32} (hf : ∀ j, j < 6 → gI S 12 0 j = fc j) :
    ∃ S2, f_X0_worth E S (nI k) = some (evN fc f n, S2) ∧ Fm [(13, 0)] S S2 := by
  obtain ⟨hn, ⟨ok1, ok2⟩, m1, c1, c2, ⟨L, hL, hoL, hv⟩, hs⟩ := h
  have hvl := q_vl hv hL
  have lp : ∀ (q i : Nat) (m : Nat) (S1 : ST), i + q = n → q < m → Fm [(13, 0)] S S1 → stk S1 13 (evF fc f i) → ∃ S2, f_X0_worth_b30 E m S1 (nI k) (nI (hF f i)) (nI (o + i)) = some (evN fc f n, S2) ∧ Fm [(13, 0)] S S2 := by
    intro q
    induction q with
    | zero =>
      intro i m S1 hi hm F hst
      obtain ⟨m, rfl⟩ : ∃ m', m = m' + 1 := ⟨m - 1, by omega⟩
      refine ⟨S1, ?_, F⟩
      rw [show f_X0_worth_b30 E (m + 1) = g_X0_worth_b30 E (f_X0_worth_b30 E m) from rfl]
      unfold g_X0_worth_b30
      rw [lt_e, F.R rfl, hR, nl_so, ck_in (decide_eq_true ht), nI_1, ck_in (ib_nI (by omega) (by decide)), q_cl (by omega), F.I rfl, c2, if_pos (by rw [q_le (by omega) (by omega)]; omega)]
      unfold f_X0_worth_b230
      have hi2 : i = n := by omega
      subst hi2
      rw [show gI S1 13 0 0 = evN fc f i from hst 0 (by rw [evF_h]; exact ok2)]
    | succ q ih =>
      intro i m S1 hi hm F hst
      obtain ⟨m, rfl⟩ : ∃ m', m = m' + 1 := ⟨m - 1, by omega⟩
      have hle := hF_le f i
      have hin : i < n := by omega
      have hst2 : stk S1 13 ((evF fc f i).1, hF f i) := by rw [← evF_h fc f i]; exact hst
      obtain ⟨S2, e2, F2, st2⟩ := s_wsign (E := E) (kh := f_X0_worth_b30 E m) (x := f i) (h := hF f i) (by omega) (ok1 i hin) (fc := fc) (fun j hj => (F.I rfl).trans (hf j hj)) hst2 (v1 := nI k) (v3 := nI (o + i))
      have hev : evF fc f (i + 1) = evS fc (f i) ((evF fc f i).1, hF f i) := by
        rw [← evF_h fc f i]
        rfl
      obtain ⟨S3, e3, F3⟩ := ih (i + 1) m S2 (by omega) (by omega) (F.trans F2) (hev ▸ st2)
      refine ⟨S3, ?_, F3⟩
      rw [← e3, show f_X0_worth_b30 E (m + 1) = g_X0_worth_b30 E (f_X0_worth_b30 E m) from rfl]
      unfold g_X0_worth_b30
      rw [lt_e, F.R rfl, hR, nl_so, ck_in (decide_eq_true ht), nI_1, ck_in (ib_nI (by omega) (by decide)), q_cl (by omega), F.I rfl, c2, if_neg (by rw [q_le (by omega) (by omega)]; omega)]
      rw [lt_e, nl_so, ck_in (decide_eq_true ht), q_vl ((F.L rfl).trans hv) hL, if_neg (by rw [q_le (by omega) (by omega)]; omega)]
      rw [lt_e, nl_so, ck_in (decide_eq_true ht), q_vl ((F.L rfl).trans hv) hL, ck_in (ib_nI (by omega) (by omega)), q_cl (by omega), F.I rfl, (hs i hin).1, lt_e]
      rw [show f_X0_worth_b30 E m S2 (nI k) (nI (hF f (i + 1))) (nI (o + (i + 1))) = f_X0_worth_b224 E (f_X0_worth_b30 E m) S2 (nI k) (nI (hS (f i) (hF f i))) (nI (o + i)) from by
        unfold f_X0_worth_b224
        rw [lt_e, nI_1]
        rfl, ← e2]
      unfold wdis
      by_cases z : nI (enc (f i)) < (262 : Int32)
      · rw [if_pos z, if_pos z]
      · rw [if_neg z, if_neg z, if_neg (by rw [q_leL 160 (by decide) (by omega)]; omega)]
  unfold f_X0_worth
  rw [lt_e, hR, nl_so, ck_in (decide_eq_true ht), if_neg (q_n0 (by omega)), if_pos (by rw [q_ltR 3 (by decide) (by omega)]; exact hk), lt_e, nl_so, ck_in (decide_eq_true ht), ck_in (ib_nI (by omega) (by decide)), q_cl (by omega), c1, lt_e]
  exact lp n 0 E.1 S (by omega) (by omega) Fm.rf (fun j hj => absurd hj (Nat.not_lt_zero j))
