/-! PURE PART: rules: the relation, what is asked -/
/-- the rules' places -/
def dRR : List (Nat × Nat) := [(2, 4), (1, 7), (4, 0), (57, 0), (58, 0), (59, 0), (31, 0), (32, 0)]
def RR (E : EN) (S : ST) : Prop := 1 ≤ E.2.2.1 ∧ E.2.2.1 ≤ 6 ∧ gI S 2 0 3 = nI E.2.2.1 ∧ gI S 1 0 6 = nI E.2.2.1 ∧ (∀ j, gR S 4 0 j = if j < E.2.2.1 then some j else none) ∧
  ∀ t k, t < E.2.2.1 → k < 3 → ∃ (n o : Nat) (f : Nat → Nat × Nat), RK S t k n o f
theorem RK.keep {S S1 : ST} {t k n o : Nat} {f : Nat → Nat × Nat} (h : RK S t k n o f) (a : Ag dRR S S1) : RK S1 t k n o f := by
  obtain ⟨hn, ok, m1, c1, c2, ⟨L, l1, l2, l3⟩, hs⟩ := h
  exact ⟨hn, ok, (a.I rfl).trans m1, (a.I rfl).trans c1, (a.I rfl).trans c2, ⟨L, l1, l2, (a.L rfl).trans l3⟩, fun i hi => ⟨(a.I rfl).trans (hs i hi).1, (a.I rfl).trans (hs i hi).2.1, (a.I rfl).trans (hs i hi).2.2⟩⟩
theorem RR.keep {E : EN} {S S1 : ST} (h : RR E S) (a : Ag dRR S S1) : RR E S1 := by
  obtain ⟨h1, h2, h3, h4, h5, h6⟩ := h
  refine ⟨h1, h2, (a.I rfl).trans h3, (a.I rfl).trans h4, fun j => (a.R rfl).trans (h5 j), fun t k ht hk => ?_⟩
  obtain ⟨n, o, f, q⟩ := h6 t k ht hk
  exact ⟨n, o, f, q.keep a⟩
theorem RR.rk {E : EN} {S : ST} (h : RR E S) {t k : Nat} (ht : t < E.2.2.1) (hk : k < 3) : ∃ o, RK S t k (nN S t k) o (fN S t k) := by
  obtain ⟨n, o, f, q⟩ := h.2.2.2.2.2 t k ht hk
  exact ⟨o, q.can⟩
/-- what text t says of a key -/
def rvS (S : ST) (t key st g w so m : Nat) : Nat := rv (fN S t key) (nN S t key) key st g w so m
theorem rvS_keep {S S1 : ST} (a : Ag dRR S S1) (t key st g w so m : Nat) : rvS S1 t key st g w so m = rvS S t key st g w so m := by
  have h1 : fN S1 t key = fN S t key := by
    funext i
    unfold fN
    rw [a.I rfl, a.I rfl]
  have h2 : nN S1 t key = nN S t key := by
    unfold nN
    rw [a.I rfl]
  unfold rvS
  rw [h1, h2]
theorem rvS_le (S : ST) (t key st g w so m : Nat) : rvS S t key st g w so m ≤ mst key := rv_le _ _ _ _ _ _ _ _
/-- the rule in force -/
def RU (E : EN) (S : ST) (t : Nat) : Prop := t < E.2.2.1 ∧ gI S 2 0 4 = nI t ∧ gI S 1 0 7 = nI t
def ix (key m w g st : Nat) : Nat := (((key * 6 + m) * 6 + w) * 5 + g) * 5 + st
/-- what was kept of what text t says to sort so -/
def RCt (E : EN) (S : ST) (t so : Nat) : Prop := t < E.2.2.1 ∧ so < 4 ∧ gR S 10 0 0 = some t ∧ gI S 10 0 1 = nI t ∧ gI S 10 0 2 = nI so ∧
  ∀ key m w g st, key < 3 → m < 6 → w < 6 → g < 5 → st < 5 → gI S 11 0 (ix key m w g st) = -1 ∨ gI S 11 0 (ix key m w g st) = nI (rvS S t key st g w so m)
def RC (E : EN) (S : ST) : Prop := (gI S 10 0 1 = -1 ∧ gR S 10 0 0 = none) ∨ ∃ t so, RCt E S t so
def dRC : List (Nat × Nat) := [(2, 4), (1, 7), (4, 0), (57, 0), (58, 0), (59, 0), (31, 0), (32, 0), (10, 0), (11, 0)]
theorem RCt.keep {E : EN} {S S1 : ST} {t so : Nat} (h : RCt E S t so) (a : Ag dRC S S1) : RCt E S1 t so := by
  obtain ⟨h1, h2, h3, h4, h5, h6⟩ := h
  refine ⟨h1, h2, (a.R rfl).trans h3, (a.I rfl).trans h4, (a.I rfl).trans h5, fun key m w g st q1 q2 q3 q4 q5 => ?_⟩
  rw [rvS_keep (a.sub rfl), a.I rfl]
  exact h6 key m w g st q1 q2 q3 q4 q5
theorem RC.keep {E : EN} {S S1 : ST} (h : RC E S) (a : Ag dRC S S1) : RC E S1 := by
  rcases h with h | ⟨t, so, h⟩
  · exact Or.inl ⟨(a.I rfl).trans h.1, (a.R rfl).trans h.2⟩
  · exact Or.inr ⟨t, so, h.keep a⟩
theorem s_fill11 {E : EN} {S : ST} (hN : 3000 ≤ E.1) : f_J7_fill_031fb E S (-1 : Int32) = some (flr S 11 0 0 (fun _ => -1) 2700) := by
  unfold f_J7_fill_031fb
  refine lpN (σ := ST × Nat) (φ := fun m y => f_J7_fill_031fb_b5 E m y.1 (-1 : Int32) (nI y.2) (2700 : Int32)) (T := fun k => (flr S 11 0 0 (fun _ => -1) k, k)) (N := 2700) (fun m k hk => ?_) (fun m => ?_) (by omega)
  · show g_J7_fill_031fb_b5 E (f_J7_fill_031fb_b5 E m) _ _ _ _ = _
    unfold g_J7_fill_031fb_b5
    rw [if_neg (by rw [q_leL 2700 (by decide) (by omega)]; omega), ck_in (ib_nI (by omega) (by decide)), q_cl (by omega), lt_e, lt_e, nI_1, flr_s, Nat.zero_add]
    rfl
  · rw [show f_J7_fill_031fb_b5 E (m + 1) = g_J7_fill_031fb_b5 E (f_J7_fill_031fb_b5 E m) from rfl]
    unfold g_J7_fill_031fb_b5
    rw [if_pos (show (2700 : Int32) ≤ nI 2700 by decide)]
theorem ix_lt {key m w g st : Nat} (h1 : key < 3) (h2 : m < 6) (h3 : w < 6) (h4 : g < 5) (h5 : st < 5) : ix key m w g st < 2700 := by
  unfold ix
  omega
theorem ix_inj {key m w g st key' m' w' g' st' : Nat} (h2 : m < 6) (h3 : w < 6) (h4 : g < 5) (h5 : st < 5) (h2' : m' < 6) (h3' : w' < 6) (h4' : g' < 5) (h5' : st' < 5) (e : ix key m w g st = ix key' m' w' g' st') : key = key' ∧ m = m' ∧ w = w' ∧ g = g' ∧ st = st' := by
  unfold ix at e
  have e5 : st = st' := by omega
  have e4 : g = g' := by omega
  have e3 : w = w' := by omega
  have e2 : m = m' := by omega
  have e1 : key = key' := by omega
  exact ⟨e1, e2, e3, e4, e5⟩
/-- the class takes a rule for a sort -/
theorem s_rely {E : EN} {S : ST} (hN : 3000 ≤ E.1) (h : RC E S) {t so : Nat} (h6 : E.2.2.1 ≤ 6) (ht : t < E.2.2.1) (hso : so < 4) : ∃ S2, f_X0_rely E S t (nI t) (nI so) = some S2 ∧ Fm [(10, 0), (11, 0)] S S2 ∧ RCt E S2 t so := by
  have nw : ∃ S2, f_X0_rely_b17 E S t (nI t) (nI so) = some S2 ∧ Fm [(10, 0), (11, 0)] S S2 ∧ RCt E S2 t so := by
    unfold f_X0_rely_b17
    rw [lt_e, lt_e, lt_e, bd_some (s_fill11 hN)]
    have F : Fm [(10, 0), (11, 0)] S (flr (sI (sI (sR S 10 0 0 (some t)) 10 0 1 (nI t)) 10 0 2 (nI so)) 11 0 0 (fun _ => -1) 2700) :=
      (((Fm.rf.sR rfl rfl).sI rfl rfl).sI rfl rfl).trans (flr_F _ _ _ _ _ (fun _ => rfl) _)
    refine ⟨_, rfl, F, ht, hso, ?_, ?_, ?_, fun key m w g st q1 q2 q3 q4 q5 => Or.inl ?_⟩
    · have F2 : Fm [(11, 0)] (sI (sI (sR S 10 0 0 (some t)) 10 0 1 (nI t)) 10 0 2 (nI so)) (flr (sI (sI (sR S 10 0 0 (some t)) 10 0 1 (nI t)) 10 0 2 (nI so)) 11 0 0 (fun _ => -1) 2700) := flr_F _ _ _ _ _ (fun _ => rfl) _
      rw [F2.R rfl, gR_sI, gR_sI, gR_sR, if_pos ⟨rfl, rfl, rfl⟩]
    · rw [gI_flr, if_neg (by omega), gI_sI, if_neg (by omega), gI_sI, if_pos ⟨rfl, rfl, rfl⟩]
    · rw [gI_flr, if_neg (by omega), gI_sI, if_pos ⟨rfl, rfl, rfl⟩]
    · have := ix_lt q1 q2 q3 q4 q5
      rw [gI_flr, if_pos ⟨rfl, rfl, Nat.zero_le _, by omega⟩]
  unfold f_X0_rely
  rcases h with ⟨h, -⟩ | ⟨t', so', h⟩
  · rw [h, if_neg (fun q => absurd (show nI t < 0 from by rw [q]; decide) (q_n0 (by omega)))]
    exact nw
  · by_cases e : nI t = gI S 10 0 1
    · rw [if_pos e]
      by_cases e2 : nI so = gI S 10 0 2
      · rw [if_pos e2]
        refine ⟨S, rfl, Fm.rf, ?_⟩
        obtain ⟨h1, h2, h3, h4, h5, h6⟩ := id h
        have et : t = t' := q_inj (by omega) (by omega) (e.trans h4)
        have es : so = so' := q_inj (by omega) (by omega) (e2.trans h5)
        rw [et, es]
        exact h
      · rw [if_neg e2]
        exact nw
    · rw [if_neg e]
      exact nw
