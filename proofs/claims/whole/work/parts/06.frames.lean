theorem Fm.fin1 {w : List (Nat × Nat)} {S S1 S2 : ST} (F : Fm w S S1) (h : some S1 = some S2) : Fm w S S2 := Option.some.inj h ▸ F
theorem Fm.fin2 {α : Type} {w : List (Nat × Nat)} {S S1 S2 : ST} {a r : α} (F : Fm w S S1) (h : some (a, S1) = some (r, S2)) : Fm w S S2 := by
  have e : S1 = S2 := congrArg Prod.snd (Option.some.inj h)
  rw [← e]
  exact F
def ww_J7_fill_031fb : List (Nat × Nat) := [(11, 0)]
set_option maxRecDepth 100000 in
theorem fr_J7_fill_031fb (E : EN) (S : ST) (a2 : Int32) (SS : ST) (hf : f_J7_fill_031fb E S a2 = some SS) : Fm ww_J7_fill_031fb S SS := by
  have w5 : ∀ (n5 : Nat) (S : ST) (v1 : Int32) (v2 : Int32) (v3 : Int32), f_J7_fill_031fb_b5 E n5 S v1 v2 v3 = some SS → Fm ww_J7_fill_031fb S SS := by
    intro n5
    induction n5 with
    | zero =>
      intro S v1 v2 v3 hf
      exact absurd (show (none : Option ST) = some SS from hf) (fun h => by cases h)
    | succ n5 ih5 =>
      intro S v1 v2 v3 hf
      have hf : g_J7_fill_031fb_b5 E (f_J7_fill_031fb_b5 E n5) S v1 v2 v3 = some SS := hf
      unfold g_J7_fill_031fb_b5 at hf
      have F : Fm ww_J7_fill_031fb S S := Fm.rf
      by_cases h : v3 ≤ v2
      · have hf := if_t h hf
        exact F.fin1 hf
      · have hf := if_f h hf
        obtain ⟨-, hf⟩ := ck_out hf
        obtain ⟨S2, e_S2, hf⟩ := lt_out hf
        have F := F.sI rfl e_S2
        obtain ⟨x3, e_x3, hf⟩ := lt_out hf
        exact F.trans (ih5 S2 v1 x3 v3 hf)
  unfold f_J7_fill_031fb at hf
  have F : Fm ww_J7_fill_031fb S S := Fm.rf
  exact F.trans (w5 E.1 S a2 (0 : Int32) (2700 : Int32) hf)
def ww_X0_rely : List (Nat × Nat) := [(10, 1), (10, 2), (10, 3), (11, 0)]
set_option maxRecDepth 100000 in
theorem fr_X0_rely (E : EN) (S : ST) (a1 : Nat) (a2 : Int32) (a3 : Int32) (SS : ST) (hf : f_X0_rely E S a1 a2 a3 = some SS) : Fm ww_X0_rely S SS := by
  have w17 : ∀ (S : ST) (v1 : Nat) (v2 : Int32) (v3 : Int32), f_X0_rely_b17 E S v1 v2 v3 = some SS → Fm ww_X0_rely S SS := by
    intro S v1 v2 v3 hf
    unfold f_X0_rely_b17 at hf
    have F : Fm ww_X0_rely S S := Fm.rf
    obtain ⟨S1, e_S1, hf⟩ := lt_out hf
    have F := F.sR rfl e_S1
    obtain ⟨S2, e_S2, hf⟩ := lt_out hf
    have F := F.sI rfl e_S2
    obtain ⟨S3, e_S3, hf⟩ := lt_out hf
    have F := F.sI rfl e_S3
    obtain ⟨S4, hc, hf⟩ := bd_out hf
    have F := F.tr (fr_J7_fill_031fb E S3 (-1 : Int32) S4 hc) rfl
    exact F.fin1 hf
  unfold f_X0_rely at hf
  have F : Fm ww_X0_rely S S := Fm.rf
  by_cases h : a2 = (gI S 10 0 1)
  · have hf := if_t h hf
    by_cases h : a3 = (gI S 10 0 2)
    · have hf := if_t h hf
      exact F.fin1 hf
    · have hf := if_f h hf
      exact F.trans (w17 S a1 a2 a3 hf)
  · have hf := if_f h hf
    exact F.trans (w17 S a1 a2 a3 hf)
def ww_X0_worth : List (Nat × Nat) := [(13, 0)]
set_option maxRecDepth 100000 in
theorem fr_X0_worth (E : EN) (S : ST) (a1 : Int32) (rr : Int32) (SS : ST) (hf : f_X0_worth E S a1 = some (rr, SS)) : Fm ww_X0_worth S SS := by
  have w230 : ∀ (S : ST) , f_X0_worth_b230 E S  = some (rr, SS) → Fm ww_X0_worth S SS := by
    intro S  hf
    unfold f_X0_worth_b230 at hf
    have F : Fm ww_X0_worth S S := Fm.rf
    exact F.fin2 hf
  have w30 : ∀ (n30 : Nat) (S : ST) (v1 : Int32) (v2 : Int32) (v3 : Int32), f_X0_worth_b30 E n30 S v1 v2 v3 = some (rr, SS) → Fm ww_X0_worth S SS := by
    intro n30
    induction n30 with
    | zero =>
      intro S v1 v2 v3 hf
      exact absurd (show (none : Option (Int32 × ST)) = some (rr, SS) from hf) (fun h => by cases h)
    | succ n30 ih30 =>
      have w224 : ∀ (S : ST) (v1 : Int32) (v2 : Int32) (v3 : Int32), f_X0_worth_b224 E (f_X0_worth_b30 E n30) S v1 v2 v3 = some (rr, SS) → Fm ww_X0_worth S SS := by
        intro S v1 v2 v3 hf
        unfold f_X0_worth_b224 at hf
        have F : Fm ww_X0_worth S S := Fm.rf
        obtain ⟨x1, e_x1, hf⟩ := lt_out hf
        exact F.trans (ih30 S v1 v2 x1 hf)
      have w189 : ∀ (S : ST) (v1 : Int32) (v2 : Int32) (v3 : Int32) (v4 : Int32), f_X0_worth_b189 E (f_X0_worth_b30 E n30) S v1 v2 v3 v4 = some (rr, SS) → Fm ww_X0_worth S SS := by
        intro S v1 v2 v3 v4 hf
        unfold f_X0_worth_b189 at hf
        have F : Fm ww_X0_worth S S := Fm.rf
        by_cases h : v2 ≤ (1 : Int32)
        · have hf := if_t h hf
          exact F.trans (w224 S v1 v2 v3 hf)
        · have hf := if_f h hf
          obtain ⟨x2, e_x2, hf⟩ := lt_out hf
          obtain ⟨-, hf⟩ := ck_out hf
          obtain ⟨-, hf⟩ := ck_out hf
          obtain ⟨r5, hc, hf⟩ := bd_out hf
          obtain ⟨S6, e_S6, hf⟩ := lt_out hf
          have F := F.sI rfl e_S6
          exact F.trans (w224 S6 v1 x2 v3 hf)
      have w185 : ∀ (S : ST) (v1 : Int32) (v2 : Int32) (v3 : Int32) (t0 : Int32) (t1 : Int32), f_X0_worth_b185 E (f_X0_worth_b30 E n30) S v1 v2 v3 t0 t1 = some (rr, SS) → Fm ww_X0_worth S SS := by
        intro S v1 v2 v3 t0 t1 hf
        unfold f_X0_worth_b185 at hf
        have F : Fm ww_X0_worth S S := Fm.rf
        obtain ⟨-, hf⟩ := ck_out hf
        obtain ⟨S8, e_S8, hf⟩ := lt_out hf
        have F := F.sI rfl e_S8
        exact F.trans (w224 S8 v1 v2 v3 hf)
      have w146 : ∀ (S : ST) (v1 : Int32) (v2 : Int32) (v3 : Int32) (v4 : Int32), f_X0_worth_b146 E (f_X0_worth_b30 E n30) S v1 v2 v3 v4 = some (rr, SS) → Fm ww_X0_worth S SS := by
        intro S v1 v2 v3 v4 hf
        unfold f_X0_worth_b146 at hf
        have F : Fm ww_X0_worth S S := Fm.rf
        obtain ⟨-, hf⟩ := ck_out hf
        obtain ⟨x10, e_x10, hf⟩ := lt_out hf
        by_cases h : v4 = (1 : Int32)
        · have hf := if_t h hf
          exact F.trans (w185 S v1 v2 v3 (-x10) (v2 - (1 : Int32)) hf)
        · have hf := if_f h hf
          by_cases h : x10 = 0
          · have hf := if_t h hf
            exact F.trans (w185 S v1 v2 v3 (1 : Int32) (v2 - (1 : Int32)) hf)
          · have hf := if_f h hf
            exact F.trans (w185 S v1 v2 v3 (0 : Int32) (v2 - (1 : Int32)) hf)
      have w128 : ∀ (S : ST) (v1 : Int32) (v2 : Int32) (v3 : Int32) (v4 : Int32), f_X0_worth_b128 E (f_X0_worth_b30 E n30) S v1 v2 v3 v4 = some (rr, SS) → Fm ww_X0_worth S SS := by
        intro S v1 v2 v3 v4 hf
        unfold f_X0_worth_b128 at hf
        have F : Fm ww_X0_worth S S := Fm.rf
        by_cases h : v2 ≤ 0
        · have hf := if_t h hf
          exact F.trans (w189 S v1 v2 v3 v4 hf)
        · have hf := if_f h hf
          by_cases h : v4 = (261 : Int32)
          · have hf := if_t h hf
            exact F.trans (w146 S v1 v2 v3 v4 hf)
          · have hf := if_f h hf
            by_cases h : v4 = (1 : Int32)
            · have hf := if_t h hf
              exact F.trans (w146 S v1 v2 v3 v4 hf)
            · have hf := if_f h hf
              exact F.trans (w189 S v1 v2 v3 v4 hf)
      have w121 : ∀ (S : ST) (v1 : Int32) (v2 : Int32) (v3 : Int32) (t0 : Int32) (t1 : Int32), f_X0_worth_b121 E (f_X0_worth_b30 E n30) S v1 v2 v3 t0 t1 = some (rr, SS) → Fm ww_X0_worth S SS := by
        intro S v1 v2 v3 t0 t1 hf
        unfold f_X0_worth_b121 at hf
        have F : Fm ww_X0_worth S S := Fm.rf
        obtain ⟨-, hf⟩ := ck_out hf
        obtain ⟨S12, e_S12, hf⟩ := lt_out hf
        have F := F.sI rfl e_S12
        obtain ⟨x13, e_x13, hf⟩ := lt_out hf
        exact F.trans (w224 S12 v1 x13 v3 hf)
      intro S v1 v2 v3 hf
      have hf : g_X0_worth_b30 E (f_X0_worth_b30 E n30) S v1 v2 v3 = some (rr, SS) := hf
      unfold g_X0_worth_b30 at hf
      have F : Fm ww_X0_worth S S := Fm.rf
      obtain ⟨o14, e_o14, hf⟩ := lt_out hf
      skip
      rcases o14 with _ | k15
      · have hf := nl_n hf
        exact absurd hf (by intro h; cases h)
      · have hf := nl_s hf
        obtain ⟨-, hf⟩ := ck_out hf
        obtain ⟨-, hf⟩ := ck_out hf
        by_cases h : (gI S 32 k15 (v1 + (1 : Int32)).toNatClampNeg) ≤ v3
        · have hf := if_t h hf
          exact F.trans (w230 S hf)
        · have hf := if_f h hf
          obtain ⟨o18, e_o18, hf⟩ := lt_out hf
          skip
          rcases o18 with _ | k19
          · have hf := nl_n hf
            exact absurd hf (by intro h; cases h)
          · have hf := nl_s hf
            obtain ⟨-, hf⟩ := ck_out hf
            by_cases h : (nI (vl_ S 31 k19)) ≤ v3
            · have hf := if_t h hf
              exact F.trans (w230 S hf)
            · have hf := if_f h hf
              obtain ⟨o21, e_o21, hf⟩ := lt_out hf
              skip
              rcases o21 with _ | k22
              · have hf := nl_n hf
                exact absurd hf (by intro h; cases h)
              · have hf := nl_s hf
                obtain ⟨-, hf⟩ := ck_out hf
                obtain ⟨-, hf⟩ := ck_out hf
                obtain ⟨x25, e_x25, hf⟩ := lt_out hf
                by_cases h : x25 < (262 : Int32)
                · have hf := if_t h hf
                  exact F.trans (w128 S v1 v2 v3 x25 hf)
                · have hf := if_f h hf
                  by_cases h : (160 : Int32) ≤ v2
                  · have hf := if_t h hf
                    exact F.trans (w128 S v1 v2 v3 x25 hf)
                  · have hf := if_f h hf
                    by_cases h : x25 < (1000 : Int32)
                    · have hf := if_t h hf
                      obtain ⟨-, hf⟩ := ck_out hf
                      exact F.trans (w121 S v1 v2 v3 (gI S 12 0 (rmI (x25 - (262 : Int32)) (6 : Int32)).toNatClampNeg) v2 hf)
                    · have hf := if_f h hf
                      exact F.trans (w121 S v1 v2 v3 (x25 - (1000 : Int32)) v2 hf)
  unfold f_X0_worth at hf
  have F : Fm ww_X0_worth S S := Fm.rf
  obtain ⟨o27, e_o27, hf⟩ := lt_out hf
  skip
  rcases o27 with _ | k28
  · have hf := nl_n hf
    exact F.fin2 hf
  · have hf := nl_s hf
    obtain ⟨-, hf⟩ := ck_out hf
    by_cases h : a1 < 0
    · have hf := if_t h hf
      exact F.fin2 hf
    · have hf := if_f h hf
      by_cases h : a1 < (3 : Int32)
      · have hf := if_t h hf
        obtain ⟨o30, e_o30, hf⟩ := lt_out hf
        skip
        rcases o30 with _ | k31
        · have hf := nl_n hf
          exact absurd hf (by intro h; cases h)
        · have hf := nl_s hf
          obtain ⟨-, hf⟩ := ck_out hf
          obtain ⟨-, hf⟩ := ck_out hf
          obtain ⟨x34, e_x34, hf⟩ := lt_out hf
          exact F.trans (w30 E.1 S a1 (0 : Int32) x34 hf)
      · have hf := if_f h hf
        exact F.fin2 hf
def ww_X0_asks : List (Nat × Nat) := [(11, 0), (12, 0), (13, 0)]
set_option maxRecDepth 100000 in
theorem fr_X0_asks (E : EN) (S : ST) (a1 : Int32) (a2 : Int32) (a3 : Int32) (a4 : Int32) (a5 : Int32) (rr : Int32) (SS : ST) (hf : f_X0_asks E S a1 a2 a3 a4 a5 = some (rr, SS)) : Fm ww_X0_asks S SS := by
  have w154 : ∀ (S : ST) (v6 : Int32), f_X0_asks_b154 E S v6 = some (rr, SS) → Fm ww_X0_asks S SS := by
    intro S v6 hf
    unfold f_X0_asks_b154 at hf
    have F : Fm ww_X0_asks S S := Fm.rf
    obtain ⟨-, hf⟩ := ck_out hf
    exact F.fin2 hf
  have w153 : ∀ (S : ST) (v6 : Int32) (t0 : Int32) (t1 : Int32), f_X0_asks_b153 E S v6 t0 t1 = some (rr, SS) → Fm ww_X0_asks S SS := by
    intro S v6 t0 t1 hf
    unfold f_X0_asks_b153 at hf
    have F : Fm ww_X0_asks S S := Fm.rf
    obtain ⟨-, hf⟩ := ck_out hf
    obtain ⟨S3, e_S3, hf⟩ := lt_out hf
    have F := F.sI rfl e_S3
    exact F.trans (w154 S3 v6 hf)
  have w138 : ∀ (S : ST) (v1 : Int32) (v6 : Int32) (v7 : Int32) (t0 : Int32), f_X0_asks_b138 E S v1 v6 v7 t0 = some (rr, SS) → Fm ww_X0_asks S SS := by
    intro S v1 v6 v7 t0 hf
    unfold f_X0_asks_b138 at hf
    have F : Fm ww_X0_asks S S := Fm.rf
    obtain ⟨r4, S5, hc, hf⟩ := bd2_out hf
    have F := F.tr (fr_X0_worth E S v1 r4 S5 hc) rfl
    exact F.trans (w153 S5 v6 ((mxI (0 : Int32) (mnI v7 r4)).toInt8.toInt32) t0 hf)
  have w117 : ∀ (S : ST) (v1 : Int32) (v2 : Int32) (v6 : Int32) (t0 : Int32), f_X0_asks_b117 E S v1 v2 v6 t0 = some (rr, SS) → Fm ww_X0_asks S SS := by
    intro S v1 v2 v6 t0 hf
    unfold f_X0_asks_b117 at hf
    have F : Fm ww_X0_asks S S := Fm.rf
    by_cases h : v1 = 0
    · have hf := if_t h hf
      by_cases h : v2 = (4 : Int32)
      · have hf := if_t h hf
        exact F.trans (w153 S v6 (0 : Int32) v6 hf)
      · have hf := if_f h hf
        exact F.trans (w138 S v1 v6 t0 v6 hf)
    · have hf := if_f h hf
      exact F.trans (w138 S v1 v6 t0 v6 hf)
  unfold f_X0_asks at hf
  have F : Fm ww_X0_asks S S := Fm.rf
  obtain ⟨x6, e_x6, hf⟩ := lt_out hf
  by_cases h : x6 < 0
  · have hf := if_t h hf
    exact F.fin2 hf
  · have hf := if_f h hf
    by_cases h : x6 < (2700 : Int32)
    · have hf := if_t h hf
      obtain ⟨-, hf⟩ := ck_out hf
      by_cases h : (gI S 11 0 x6.toNatClampNeg) = (-1 : Int32)
      · have hf := if_t h hf
        obtain ⟨S8, e_S8, hf⟩ := lt_out hf
        have F := F.sI rfl e_S8
        obtain ⟨S9, e_S9, hf⟩ := lt_out hf
        have F := F.sI rfl e_S9
        obtain ⟨S10, e_S10, hf⟩ := lt_out hf
        have F := F.sI rfl e_S10
        obtain ⟨S11, e_S11, hf⟩ := lt_out hf
        have F := F.sI rfl e_S11
        obtain ⟨S12, e_S12, hf⟩ := lt_out hf
        have F := F.sI rfl e_S12
        obtain ⟨S13, e_S13, hf⟩ := lt_out hf
        have F := F.sI rfl e_S13
        by_cases h : a1 = (2 : Int32)
        · have hf := if_t h hf
          exact F.trans (w117 S13 a1 a2 x6 (99 : Int32) hf)
        · have hf := if_f h hf
          exact F.trans (w117 S13 a1 a2 x6 (10 : Int32) hf)
      · have hf := if_f h hf
        exact F.trans (w154 S x6 hf)
    · have hf := if_f h hf
      exact F.fin2 hf
def ww_X1_begin : List (Nat × Nat) := [(16, 5), (16, 6), (16, 7), (18, 0), (19, 0), (28, 0)]
set_option maxRecDepth 100000 in
theorem fr_X1_begin (E : EN) (S : ST) (a1 : Nat) (a2 : Int32) (a3 : Int32) (a4 : Int32) (SS : ST) (hf : f_X1_begin E S a1 a2 a3 a4 = some SS) : Fm ww_X1_begin S SS := by
  have w29 : ∀ (S : ST) (v2 : Int32) (v3 : Int32) (v4 : Int32), f_X1_begin_b29 E S v2 v3 v4 = some SS → Fm ww_X1_begin S SS := by
    intro S v2 v3 v4 hf
    unfold f_X1_begin_b29 at hf
    have F : Fm ww_X1_begin S S := Fm.rf
    obtain ⟨S1, e_S1, hf⟩ := lt_out hf
    have F := F.sI rfl e_S1
    obtain ⟨S2, e_S2, hf⟩ := lt_out hf
    have F := F.sI rfl e_S2
    obtain ⟨S3, e_S3, hf⟩ := lt_out hf
    have F := F.sI rfl e_S3
    obtain ⟨S4, e_S4, hf⟩ := lt_out hf
    have F := F.sI rfl e_S4
    obtain ⟨S5, e_S5, hf⟩ := lt_out hf
    have F := F.sI rfl e_S5
    exact F.fin1 hf
  have w3 : ∀ (n3 : Nat) (S : ST) (v1 : Nat) (v2 : Int32) (v3 : Int32) (v4 : Int32) (v5 : Int32), f_X1_begin_b3 E n3 S v1 v2 v3 v4 v5 = some SS → Fm ww_X1_begin S SS := by
    intro n3
    induction n3 with
    | zero =>
      intro S v1 v2 v3 v4 v5 hf
      exact absurd (show (none : Option ST) = some SS from hf) (fun h => by cases h)
    | succ n3 ih3 =>
      intro S v1 v2 v3 v4 v5 hf
      have hf : g_X1_begin_b3 E (f_X1_begin_b3 E n3) S v1 v2 v3 v4 v5 = some SS := hf
      unfold g_X1_begin_b3 at hf
      have F : Fm ww_X1_begin S S := Fm.rf
      by_cases h : (5 : Int32) ≤ v5
      · have hf := if_t h hf
        exact F.trans (w29 S v2 v3 v4 hf)
      · have hf := if_f h hf
        obtain ⟨-, hf⟩ := ck_out hf
        obtain ⟨S7, e_S7, hf⟩ := lt_out hf
        have F := F.sL rfl e_S7
        obtain ⟨x8, e_x8, hf⟩ := lt_out hf
        exact F.trans (ih3 S7 v1 v2 v3 v4 x8 hf)
  unfold f_X1_begin at hf
  have F : Fm ww_X1_begin S S := Fm.rf
  exact F.trans (w3 E.1 S a1 a2 a3 a4 (0 : Int32) hf)
def ww_X1_pass : List (Nat × Nat) := [(11, 0), (12, 0), (13, 0), (16, 7), (28, 0)]
set_option maxRecDepth 100000 in
theorem fr_X1_pass (E : EN) (S : ST) (a1 : Int32) (a2 : Int32) (SS : ST) (hf : f_X1_pass E S a1 a2 = some SS) : Fm ww_X1_pass S SS := by
  have w51 : ∀ (n51 : Nat) (S : ST) (v1 : Int32) (v2 : Int32) (v3 : Nat) (v4 : Nat) (v5 : Int64) (v7 : Int32), f_X1_pass_b51 E n51 S v1 v2 v3 v4 v5 v7 = some SS → Fm ww_X1_pass S SS := by
    intro n51
    induction n51 with
    | zero =>
      intro S v1 v2 v3 v4 v5 v7 hf
      exact absurd (show (none : Option ST) = some SS from hf) (fun h => by cases h)
    | succ n51 ih51 =>
      have w143 : ∀ (S : ST) (v1 : Int32) (v2 : Int32) (v3 : Nat) (v4 : Nat) (v7 : Int32) (v8 : Int64) (t0 : Int64) (t1 : Int64) (t2 : Int32) (t3 : Nat), f_X1_pass_b143 E (f_X1_pass_b51 E n51) S v1 v2 v3 v4 v7 v8 t0 t1 t2 t3 = some SS → Fm ww_X1_pass S SS := by
        intro S v1 v2 v3 v4 v7 v8 t0 t1 t2 t3 hf
        unfold f_X1_pass_b143 at hf
        have F : Fm ww_X1_pass S S := Fm.rf
        obtain ⟨-, hf⟩ := ck_out hf
        obtain ⟨S2, e_S2, hf⟩ := lt_out hf
        have F := F.sL rfl e_S2
        obtain ⟨-, hf⟩ := ck_out hf
        obtain ⟨x4, e_x4, hf⟩ := lt_out hf
        obtain ⟨x5, e_x5, hf⟩ := lt_out hf
        exact F.trans (ih51 S2 v1 v2 v3 v4 x4 x5 hf)
      intro S v1 v2 v3 v4 v5 v7 hf
      have hf : g_X1_pass_b51 E (f_X1_pass_b51 E n51) S v1 v2 v3 v4 v5 v7 = some SS := hf
      unfold g_X1_pass_b51 at hf
      have F : Fm ww_X1_pass S S := Fm.rf
      by_cases h : (5 : Int32) ≤ v7
      · have hf := if_t h hf
        exact F.fin1 hf
      · have hf := if_f h hf
        obtain ⟨-, hf⟩ := ck_out hf
        obtain ⟨r7, S8, hc, hf⟩ := bd2_out hf
        have F := F.tr (fr_X0_asks E S (0 : Int32) v7 (gI S 18 0 v1.toNatClampNeg) v1 (gI S 19 0 v1.toNatClampNeg) r7 S8 hc) rfl
        obtain ⟨r9, S10, hc, hf⟩ := bd2_out hf
        have F := F.tr (fr_X0_asks E S8 (1 : Int32) v7 (gI S8 18 0 v1.toNatClampNeg) v1 (gI S8 19 0 v1.toNatClampNeg) r9 S10 hc) rfl
        obtain ⟨-, hf⟩ := ck_out hf
        by_cases h : v2 = (1 : Int32)
        · have hf := if_t h hf
          exact F.trans (w143 S10 v1 v2 v3 v4 v7 r7.toInt64 r9.toInt64 (((gL S10 28 v3 v7.toNatClampNeg) * ((10 : Int64) - r7.toInt64)) + v5) v7 v4 hf)
        · have hf := if_f h hf
          exact F.trans (w143 S10 v1 v2 v3 v4 v7 r7.toInt64 ((10 : Int64) - r9.toInt64) (((gL S10 28 v3 v7.toNatClampNeg) * ((10 : Int64) - r7.toInt64)) + v5) v7 v4 hf)
  unfold f_X1_pass at hf
  have F : Fm ww_X1_pass S S := Fm.rf
  by_cases h : a1 < 0
  · have hf := if_t h hf
    exact F.fin1 hf
  · have hf := if_f h hf
    by_cases h : a1 < (5 : Int32)
    · have hf := if_t h hf
      obtain ⟨S12, e_S12, hf⟩ := lt_out hf
      have F := F.sI rfl e_S12
      obtain ⟨-, hf⟩ := ck_out hf
      obtain ⟨-, hf⟩ := ck_out hf
      exact F.trans (w51 E.1 S12 a1 a2 a1.toNatClampNeg ((a1 + (1 : Int32)).toNatClampNeg) (0 : Int64) (0 : Int32) hf)
    · have hf := if_f h hf
      exact F.fin1 hf
def ww_X1_settle : List (Nat × Nat) := [(18, 0), (19, 0)]
set_option maxRecDepth 100000 in
theorem fr_X1_settle (E : EN) (S : ST) (a1 : Int32) (a2 : Int32) (SS : ST) (hf : f_X1_settle E S a1 a2 = some SS) : Fm ww_X1_settle S SS := by
  have w64 : ∀ (S : ST) (t0 : Int32) (t1 : Int32) (t2 : Int32), f_X1_settle_b64 E S t0 t1 t2 = some SS → Fm ww_X1_settle S SS := by
    intro S t0 t1 t2 hf
    unfold f_X1_settle_b64 at hf
    have F : Fm ww_X1_settle S S := Fm.rf
    obtain ⟨-, hf⟩ := ck_out hf
    obtain ⟨S2, e_S2, hf⟩ := lt_out hf
    have F := F.sI rfl e_S2
    exact F.fin1 hf
  unfold f_X1_settle at hf
  have F : Fm ww_X1_settle S S := Fm.rf
  by_cases h : a1 < 0
  · have hf := if_t h hf
    exact F.fin1 hf
  · have hf := if_f h hf
    by_cases h : a1 < (5 : Int32)
    · have hf := if_t h hf
      obtain ⟨-, hf⟩ := ck_out hf
      obtain ⟨r4, hc, hf⟩ := bd_out hf
      obtain ⟨-, hf⟩ := ck_out hf
      obtain ⟨S6, e_S6, hf⟩ := lt_out hf
      have F := F.sI rfl e_S6
      by_cases h : (gI S6 18 0 (a1 + (1 : Int32)).toNatClampNeg) = (gI S6 18 0 a1.toNatClampNeg)
      · have hf := if_t h hf
        exact F.trans (w64 S6 (0 : Int32) (gI S6 19 0 a1.toNatClampNeg) (a1 + (1 : Int32)) hf)
      · have hf := if_f h hf
        exact F.trans (w64 S6 (1 : Int32) (gI S6 19 0 a1.toNatClampNeg) (a1 + (1 : Int32)) hf)
    · have hf := if_f h hf
      exact F.fin1 hf
def ww_X1_follow : List (Nat × Nat) := [(11, 0), (12, 0), (13, 0), (16, 7), (18, 0), (19, 0), (28, 0)]
set_option maxRecDepth 100000 in
theorem fr_X1_follow (E : EN) (S : ST) (a1 : Int32) (a2 : Int32) (SS : ST) (hf : f_X1_follow E S a1 a2 = some SS) : Fm ww_X1_follow S SS := by
  have w2 : ∀ (n2 : Nat) (S : ST) (v1 : Int32) (v2 : Int32) (v3 : Int32), f_X1_follow_b2 E n2 S v1 v2 v3 = some SS → Fm ww_X1_follow S SS := by
    intro n2
    induction n2 with
    | zero =>
      intro S v1 v2 v3 hf
      exact absurd (show (none : Option ST) = some SS from hf) (fun h => by cases h)
    | succ n2 ih2 =>
      intro S v1 v2 v3 hf
      have hf : g_X1_follow_b2 E (f_X1_follow_b2 E n2) S v1 v2 v3 = some SS := hf
      unfold g_X1_follow_b2 at hf
      have F : Fm ww_X1_follow S S := Fm.rf
      by_cases h : v1 ≤ v3
      · have hf := if_t h hf
        exact F.fin1 hf
      · have hf := if_f h hf
        by_cases h : (5 : Int32) ≤ v3
        · have hf := if_t h hf
          exact F.fin1 hf
        · have hf := if_f h hf
          obtain ⟨S1, hc, hf⟩ := bd_out hf
          have F := F.tr (fr_X1_pass E S v3 ((v2 >>> (v3 &&& 31)) &&& (1 : Int32)) S1 hc) rfl
          obtain ⟨r2, hc, hf⟩ := bd_out hf
          obtain ⟨S3, hc, hf⟩ := bd_out hf
          have F := F.tr (fr_X1_settle E S1 v3 r2 S3 hc) rfl
          obtain ⟨x4, e_x4, hf⟩ := lt_out hf
          exact F.trans (ih2 S3 v1 v2 x4 hf)
  unfold f_X1_follow at hf
  have F : Fm ww_X1_follow S S := Fm.rf
  exact F.trans (w2 E.1 S a1 a2 (0 : Int32) hf)
def ww_X1_endsNow : List (Nat × Nat) := [(11, 0), (12, 0), (13, 0)]
set_option maxRecDepth 100000 in
theorem fr_X1_endsNow (E : EN) (S : ST)  (rr : Int64) (SS : ST) (hf : f_X1_endsNow E S = some (rr, SS)) : Fm ww_X1_endsNow S SS := by
  have w4 : ∀ (n4 : Nat) (S : ST) (v1 : Int64) (v3 : Int32), f_X1_endsNow_b4 E n4 S v1 v3 = some (rr, SS) → Fm ww_X1_endsNow S SS := by
    intro n4
    induction n4 with
    | zero =>
      intro S v1 v3 hf
      exact absurd (show (none : Option (Int64 × ST)) = some (rr, SS) from hf) (fun h => by cases h)
    | succ n4 ih4 =>
      intro S v1 v3 hf
      have hf : g_X1_endsNow_b4 E (f_X1_endsNow_b4 E n4) S v1 v3 = some (rr, SS) := hf
      unfold g_X1_endsNow_b4 at hf
      have F : Fm ww_X1_endsNow S S := Fm.rf
      by_cases h : (5 : Int32) ≤ v3
      · have hf := if_t h hf
        exact F.fin2 hf
      · have hf := if_f h hf
        obtain ⟨-, hf⟩ := ck_out hf
        obtain ⟨r2, S3, hc, hf⟩ := bd2_out hf
        have F := F.tr (fr_X0_asks E S (2 : Int32) v3 (gI S 18 0 5) (5 : Int32) (gI S 19 0 5) r2 S3 hc) rfl
        obtain ⟨x4, e_x4, hf⟩ := lt_out hf
        obtain ⟨x5, e_x5, hf⟩ := lt_out hf
        exact F.trans (ih4 S3 x4 x5 hf)
  unfold f_X1_endsNow at hf
  have F : Fm ww_X1_endsNow S S := Fm.rf
  exact F.trans (w4 E.1 S (0 : Int64) (0 : Int32) hf)
def ww_gends : List (Nat × Nat) := [(11, 0), (12, 0), (13, 0), (16, 7), (18, 0), (19, 0), (28, 0)]
def ww_X1_ends : List (Nat × Nat) := ww_gends
set_option maxRecDepth 100000 in
theorem nfr_X1_ends (E : EN) (rc0 : ST → Int32 → Option (Int64 × ST)) (hr0 : ∀ (S : ST) (b1 : Int32) (r2 : Int64) (S2 : ST), rc0 S b1 = some (r2, S2) → Fm ww_gends S S2) (S : ST) (a1 : Int32) (rr : Int64) (SS : ST) (hf : b_X1_ends E rc0 S a1 = some (rr, SS)) : Fm ww_gends S SS := by
  have w15 : ∀ (n15 : Nat) (S : ST) (v1 : Int32) (v2 : Int64) (v4 : Int32), f_X1_ends_b15 E rc0 n15 S v1 v2 v4 = some (rr, SS) → Fm ww_gends S SS := by
    intro n15
    induction n15 with
    | zero =>
      intro S v1 v2 v4 hf
      exact absurd (show (none : Option (Int64 × ST)) = some (rr, SS) from hf) (fun h => by cases h)
    | succ n15 ih15 =>
      intro S v1 v2 v4 hf
      have hf : g_X1_ends_b15 E rc0 (f_X1_ends_b15 E rc0 n15) S v1 v2 v4 = some (rr, SS) := hf
      unfold g_X1_ends_b15 at hf
      have F : Fm ww_gends S S := Fm.rf
      by_cases h : (2 : Int32) ≤ v4
      · have hf := if_t h hf
        exact F.fin2 hf
      · have hf := if_f h hf
        obtain ⟨S1, hc, hf⟩ := bd_out hf
        have F := F.tr (fr_X1_pass E S v1 v4 S1 hc) rfl
        obtain ⟨r2, hc, hf⟩ := bd_out hf
        obtain ⟨S3, hc, hf⟩ := bd_out hf
        have F := F.tr (fr_X1_settle E S1 v1 r2 S3 hc) rfl
        obtain ⟨r4, S5, hc, hf⟩ := bd2_out hf
        have F := F.trans (hr0 S3 (v1 + (1 : Int32)) r4 S5 hc)
        obtain ⟨x6, e_x6, hf⟩ := lt_out hf
        obtain ⟨x7, e_x7, hf⟩ := lt_out hf
        exact F.trans (ih15 S5 v1 x6 x7 hf)
  unfold b_X1_ends at hf
  have F : Fm ww_gends S S := Fm.rf
  by_cases h : a1 < (5 : Int32)
  · have hf := if_t h hf
    exact F.trans (w15 E.1 S a1 (0 : Int64) (0 : Int32) hf)
  · have hf := if_f h hf
    obtain ⟨r8, S9, hc, hf⟩ := bd2_out hf
    have F := F.tr (fr_X1_endsNow E S  r8 S9 hc) rfl
    exact F.fin2 hf
set_option maxRecDepth 100000 in
theorem fr_gends (E : EN) : ∀ d : Nat, (∀ (S : ST) (a1 : Int32) (r : Int64) (S2 : ST), f_gends E d 0 S a1 = some (r, S2) → Fm ww_gends S S2) := by
  intro d
  induction d with
  | zero => exact fun S a1 r S2 hf => absurd (show (none : Option (Int64 × ST)) = some (r, S2) from hf) (fun h => by cases h)
  | succ d ih =>
    exact fun S a1 r S2 hf => nfr_X1_ends E (f_gends E d 0) ih S a1 r S2 hf
set_option maxRecDepth 100000 in
theorem fr_X1_ends (E : EN) (d : Nat) (S : ST) (a1 : Int32) (r : Int64) (S2 : ST) (hf : f_X1_ends E d S a1 = some (r, S2)) : Fm ww_X1_ends S S2 := (fr_gends E d) S a1 r S2 hf
def ww_grights : List (Nat × Nat) := [(11, 0), (12, 0), (13, 0), (16, 7), (18, 0), (19, 0), (28, 0)]
def ww_X1_rights : List (Nat × Nat) := ww_grights
set_option maxRecDepth 100000 in
theorem nfr_X1_rights (E : EN) (rc0 : ST → Int32 → Option (Int64 × ST)) (hr0 : ∀ (S : ST) (b1 : Int32) (r2 : Int64) (S2 : ST), rc0 S b1 = some (r2, S2) → Fm ww_grights S S2) (S : ST) (a1 : Int32) (rr : Int64) (SS : ST) (hf : b_X1_rights E rc0 S a1 = some (rr, SS)) : Fm ww_grights S SS := by
  have w25 : ∀ (n25 : Nat) (S : ST) (v1 : Int32) (v2 : Int64) (v4 : Int32), f_X1_rights_b25 E rc0 n25 S v1 v2 v4 = some (rr, SS) → Fm ww_grights S SS := by
    intro n25
    induction n25 with
    | zero =>
      intro S v1 v2 v4 hf
      exact absurd (show (none : Option (Int64 × ST)) = some (rr, SS) from hf) (fun h => by cases h)
    | succ n25 ih25 =>
      intro S v1 v2 v4 hf
      have hf : g_X1_rights_b25 E rc0 (f_X1_rights_b25 E rc0 n25) S v1 v2 v4 = some (rr, SS) := hf
      unfold g_X1_rights_b25 at hf
      have F : Fm ww_grights S S := Fm.rf
      by_cases h : (2 : Int32) ≤ v4
      · have hf := if_t h hf
        exact F.fin2 hf
      · have hf := if_f h hf
        obtain ⟨S1, hc, hf⟩ := bd_out hf
        have F := F.tr (fr_X1_pass E S v1 v4 S1 hc) rfl
        obtain ⟨r2, hc, hf⟩ := bd_out hf
        obtain ⟨S3, hc, hf⟩ := bd_out hf
        have F := F.tr (fr_X1_settle E S1 v1 r2 S3 hc) rfl
        obtain ⟨r4, S5, hc, hf⟩ := bd2_out hf
        have F := F.trans (hr0 S3 (v1 + (1 : Int32)) r4 S5 hc)
        obtain ⟨x6, e_x6, hf⟩ := lt_out hf
        obtain ⟨x7, e_x7, hf⟩ := lt_out hf
        exact F.trans (ih25 S5 v1 x6 x7 hf)
  unfold b_X1_rights at hf
  have F : Fm ww_grights S S := Fm.rf
  by_cases h : a1 < (5 : Int32)
  · have hf := if_t h hf
    exact F.trans (w25 E.1 S a1 (0 : Int64) (0 : Int32) hf)
  · have hf := if_f h hf
    obtain ⟨r8, hc, hf⟩ := bd_out hf
    obtain ⟨r9, hc, hf⟩ := bd_out hf
    exact F.fin2 hf
set_option maxRecDepth 100000 in
theorem fr_grights (E : EN) : ∀ d : Nat, (∀ (S : ST) (a1 : Int32) (r : Int64) (S2 : ST), f_grights E d 0 S a1 = some (r, S2) → Fm ww_grights S S2) := by
  intro d
  induction d with
  | zero => exact fun S a1 r S2 hf => absurd (show (none : Option (Int64 × ST)) = some (r, S2) from hf) (fun h => by cases h)
  | succ d ih =>
    exact fun S a1 r S2 hf => nfr_X1_rights E (f_grights E d 0) ih S a1 r S2 hf
set_option maxRecDepth 100000 in
theorem fr_X1_rights (E : EN) (d : Nat) (S : ST) (a1 : Int32) (r : Int64) (S2 : ST) (hf : f_X1_rights E d S a1 = some (r, S2)) : Fm ww_X1_rights S S2 := (fr_grights E d) S a1 r S2 hf
def ww_gbest : List (Nat × Nat) := [(11, 0), (12, 0), (13, 0), (16, 7), (18, 0), (19, 0), (28, 0)]
def ww_X1_best : List (Nat × Nat) := ww_gbest
def ww_X1_bestMove : List (Nat × Nat) := ww_gbest
set_option maxRecDepth 100000 in
theorem nfr_X1_best (E : EN) (rc0 : ST → Int32 → Option (Int64 × ST)) (rc1 : ST → Int32 → Option (Int64 × ST)) (hr0 : ∀ (S : ST) (b1 : Int32) (r2 : Int64) (S2 : ST), rc0 S b1 = some (r2, S2) → Fm ww_gbest S S2) (hr1 : ∀ (S : ST) (b1 : Int32) (r2 : Int64) (S2 : ST), rc1 S b1 = some (r2, S2) → Fm ww_gbest S S2) (S : ST) (a1 : Int32) (rr : Int64) (SS : ST) (hf : b_X1_best E rc0 rc1 S a1 = some (rr, SS)) : Fm ww_gbest S SS := by
  have w15 : ∀ (n15 : Nat) (S : ST) (v1 : Int32) (v2 : Int64) (v4 : Int32), f_X1_best_b15 E rc0 rc1 n15 S v1 v2 v4 = some (rr, SS) → Fm ww_gbest S SS := by
    intro n15
    induction n15 with
    | zero =>
      intro S v1 v2 v4 hf
      exact absurd (show (none : Option (Int64 × ST)) = some (rr, SS) from hf) (fun h => by cases h)
    | succ n15 ih15 =>
      have w48 : ∀ (S : ST) (v1 : Int32) (v2 : Int64) (v4 : Int32), f_X1_best_b48 E rc0 rc1 (f_X1_best_b15 E rc0 rc1 n15) S v1 v2 v4 = some (rr, SS) → Fm ww_gbest S SS := by
        intro S v1 v2 v4 hf
        unfold f_X1_best_b48 at hf
        have F : Fm ww_gbest S S := Fm.rf
        obtain ⟨x1, e_x1, hf⟩ := lt_out hf
        exact F.trans (ih15 S v1 v2 x1 hf)
      intro S v1 v2 v4 hf
      have hf : g_X1_best_b15 E rc0 rc1 (f_X1_best_b15 E rc0 rc1 n15) S v1 v2 v4 = some (rr, SS) := hf
      unfold g_X1_best_b15 at hf
      have F : Fm ww_gbest S S := Fm.rf
      by_cases h : (2 : Int32) ≤ v4
      · have hf := if_t h hf
        exact F.fin2 hf
      · have hf := if_f h hf
        obtain ⟨S2, hc, hf⟩ := bd_out hf
        have F := F.tr (fr_X1_pass E S v1 v4 S2 hc) rfl
        obtain ⟨r3, hc, hf⟩ := bd_out hf
        by_cases h : r3 ≤ (0 : Int64)
        · have hf := if_t h hf
          exact F.trans (w48 S2 v1 v2 v4 hf)
        · have hf := if_f h hf
          obtain ⟨r4, S5, hc, hf⟩ := bd2_out hf
          have F := F.trans (hr1 S2 v1 r4 S5 hc)
          obtain ⟨x6, e_x6, hf⟩ := lt_out hf
          exact F.trans (w48 S5 v1 x6 v4 hf)
  unfold b_X1_best at hf
  have F : Fm ww_gbest S S := Fm.rf
  by_cases h : a1 < (5 : Int32)
  · have hf := if_t h hf
    exact F.trans (w15 E.1 S a1 (0 : Int64) (0 : Int32) hf)
  · have hf := if_f h hf
    obtain ⟨r7, S8, hc, hf⟩ := bd2_out hf
    have F := F.tr (fr_X1_endsNow E S  r7 S8 hc) rfl
    exact F.fin2 hf
set_option maxRecDepth 100000 in
theorem nfr_X1_bestMove (E : EN) (rc0 : ST → Int32 → Option (Int64 × ST)) (rc1 : ST → Int32 → Option (Int64 × ST)) (hr0 : ∀ (S : ST) (b1 : Int32) (r2 : Int64) (S2 : ST), rc0 S b1 = some (r2, S2) → Fm ww_gbest S S2) (hr1 : ∀ (S : ST) (b1 : Int32) (r2 : Int64) (S2 : ST), rc1 S b1 = some (r2, S2) → Fm ww_gbest S S2) (S : ST) (a1 : Int32) (rr : Int64) (SS : ST) (hf : b_X1_bestMove E rc0 rc1 S a1 = some (rr, SS)) : Fm ww_gbest S SS := by
  have w16 : ∀ (n16 : Nat) (S : ST) (v1 : Int32) (v2 : Int64) (v4 : Int32), f_X1_bestMove_b16 E rc0 rc1 n16 S v1 v2 v4 = some (rr, SS) → Fm ww_gbest S SS := by
    intro n16
    induction n16 with
    | zero =>
      intro S v1 v2 v4 hf
      exact absurd (show (none : Option (Int64 × ST)) = some (rr, SS) from hf) (fun h => by cases h)
    | succ n16 ih16 =>
      have w67 : ∀ (S : ST) (v1 : Int32) (v2 : Int64) (v4 : Int32), f_X1_bestMove_b67 E rc0 rc1 (f_X1_bestMove_b16 E rc0 rc1 n16) S v1 v2 v4 = some (rr, SS) → Fm ww_gbest S SS := by
        intro S v1 v2 v4 hf
        unfold f_X1_bestMove_b67 at hf
        have F : Fm ww_gbest S S := Fm.rf
        obtain ⟨x1, e_x1, hf⟩ := lt_out hf
        exact F.trans (ih16 S v1 v2 x1 hf)
      have w48 : ∀ (S : ST) (v1 : Int32) (v2 : Int64) (v4 : Int32), f_X1_bestMove_b48 E rc0 rc1 (f_X1_bestMove_b16 E rc0 rc1 n16) S v1 v2 v4 = some (rr, SS) → Fm ww_gbest S SS := by
        intro S v1 v2 v4 hf
        unfold f_X1_bestMove_b48 at hf
        have F : Fm ww_gbest S S := Fm.rf
        obtain ⟨S2, hc, hf⟩ := bd_out hf
        have F := F.tr (fr_X1_settle E S v1 v4 S2 hc) rfl
        obtain ⟨r3, S4, hc, hf⟩ := bd2_out hf
        have F := F.trans (hr0 S2 (v1 + (1 : Int32)) r3 S4 hc)
        obtain ⟨x5, e_x5, hf⟩ := lt_out hf
        exact F.trans (w67 S4 v1 x5 v4 hf)
      intro S v1 v2 v4 hf
      have hf : g_X1_bestMove_b16 E rc0 rc1 (f_X1_bestMove_b16 E rc0 rc1 n16) S v1 v2 v4 = some (rr, SS) := hf
      unfold g_X1_bestMove_b16 at hf
      have F : Fm ww_gbest S S := Fm.rf
      by_cases h : (1 : Int32) < v4
      · have hf := if_t h hf
        exact F.fin2 hf
      · have hf := if_f h hf
        by_cases h : v4 = 0
        · have hf := if_t h hf
          exact F.trans (w48 S v1 v2 v4 hf)
        · have hf := if_f h hf
          obtain ⟨-, hf⟩ := ck_out hf
          obtain ⟨r7, hc, hf⟩ := bd_out hf
          by_cases h : r7 = (gI S 18 0 v1.toNatClampNeg)
          · have hf := if_t h hf
            exact F.trans (w67 S v1 v2 v4 hf)
          · have hf := if_f h hf
            exact F.trans (w48 S v1 v2 v4 hf)
  unfold b_X1_bestMove at hf
  have F : Fm ww_gbest S S := Fm.rf
  by_cases h : a1 < 0
  · have hf := if_t h hf
    exact F.fin2 hf
  · have hf := if_f h hf
    by_cases h : a1 < (5 : Int32)
    · have hf := if_t h hf
      exact F.trans (w16 E.1 S a1 (0 : Int64) (-1 : Int32) hf)
    · have hf := if_f h hf
      exact F.fin2 hf
set_option maxRecDepth 100000 in
theorem fr_gbest (E : EN) : ∀ d : Nat, (∀ (S : ST) (a1 : Int32) (r : Int64) (S2 : ST), f_gbest E d 0 S a1 = some (r, S2) → Fm ww_gbest S S2) ∧ (∀ (S : ST) (a1 : Int32) (r : Int64) (S2 : ST), f_gbest E d 1 S a1 = some (r, S2) → Fm ww_gbest S S2) := by
  intro d
  induction d with
  | zero => exact ⟨fun S a1 r S2 hf => absurd (show (none : Option (Int64 × ST)) = some (r, S2) from hf) (fun h => by cases h), fun S a1 r S2 hf => absurd (show (none : Option (Int64 × ST)) = some (r, S2) from hf) (fun h => by cases h)⟩
  | succ d ih =>
    exact ⟨fun S a1 r S2 hf => nfr_X1_best E (f_gbest E d 0) (f_gbest E d 1) (ih.1) (ih.2) S a1 r S2 hf, fun S a1 r S2 hf => nfr_X1_bestMove E (f_gbest E d 0) (f_gbest E d 1) (ih.1) (ih.2) S a1 r S2 hf⟩
set_option maxRecDepth 100000 in
theorem fr_X1_best (E : EN) (d : Nat) (S : ST) (a1 : Int32) (r : Int64) (S2 : ST) (hf : f_X1_best E d S a1 = some (r, S2)) : Fm ww_X1_best S S2 := (fr_gbest E d).1 S a1 r S2 hf
set_option maxRecDepth 100000 in
theorem fr_X1_bestMove (E : EN) (d : Nat) (S : ST) (a1 : Int32) (r : Int64) (S2 : ST) (hf : f_X1_bestMove E d S a1 = some (r, S2)) : Fm ww_X1_bestMove S S2 := (fr_gbest E d).2 S a1 r S2 hf
def ww_X2_takes : List (Nat × Nat) := [(21, 0)]
set_option maxRecDepth 100000 in
theorem fr_X2_takes (E : EN) (i0 : Nat) (S : ST) (a1 : Nat) (rr : Int32) (SS : ST) (hf : f_X2_takes E i0 S a1 = some (rr, SS)) : Fm ww_X2_takes S SS := by
  have w60 : ∀ (n60 : Nat) (S : ST) (v1 : Nat) (v2 : Int64) (v6 : Int32), f_X2_takes_b60 E i0 n60 S v1 v2 v6 = some (rr, SS) → Fm ww_X2_takes S SS := by
    intro n60
    induction n60 with
    | zero =>
      intro S v1 v2 v6 hf
      exact absurd (show (none : Option (Int32 × ST)) = some (rr, SS) from hf) (fun h => by cases h)
    | succ n60 ih60 =>
      intro S v1 v2 v6 hf
      have hf : g_X2_takes_b60 E i0 (f_X2_takes_b60 E i0 n60) S v1 v2 v6 = some (rr, SS) := hf
      unfold g_X2_takes_b60 at hf
      have F : Fm ww_X2_takes S S := Fm.rf
      by_cases h : (5 : Int32) ≤ v6
      · have hf := if_t h hf
        exact F.fin2 hf
      · have hf := if_f h hf
        obtain ⟨-, hf⟩ := ck_out hf
        obtain ⟨-, hf⟩ := ck_out hf
        obtain ⟨S3, e_S3, hf⟩ := lt_out hf
        have F := F.sI rfl e_S3
        obtain ⟨x4, e_x4, hf⟩ := lt_out hf
        exact F.trans (ih60 S3 v1 v2 x4 hf)
  have w38 : ∀ (S : ST) (v1 : Nat) (v2 : Int64) (v4 : Int64), f_X2_takes_b38 E i0 S v1 v2 v4 = some (rr, SS) → Fm ww_X2_takes S SS := by
    intro S v1 v2 v4 hf
    unfold f_X2_takes_b38 at hf
    have F : Fm ww_X2_takes S S := Fm.rf
    by_cases h : v2 = (0 : Int64)
    · have hf := if_t h hf
      exact F.fin2 hf
    · have hf := if_f h hf
      obtain ⟨-, hf⟩ := ck_out hf
      by_cases h : (v4 / v2) ≤ (9999 : Int64)
      · have hf := if_t h hf
        exact F.trans (w60 E.1 S v1 v2 (0 : Int32) hf)
      · have hf := if_f h hf
        exact F.fin2 hf
  have w8 : ∀ (n8 : Nat) (S : ST) (v1 : Nat) (v2 : Int64) (v4 : Int64) (v6 : Int32), f_X2_takes_b8 E i0 n8 S v1 v2 v4 v6 = some (rr, SS) → Fm ww_X2_takes S SS := by
    intro n8
    induction n8 with
    | zero =>
      intro S v1 v2 v4 v6 hf
      exact absurd (show (none : Option (Int32 × ST)) = some (rr, SS) from hf) (fun h => by cases h)
    | succ n8 ih8 =>
      intro S v1 v2 v4 v6 hf
      have hf : g_X2_takes_b8 E i0 (f_X2_takes_b8 E i0 n8) S v1 v2 v4 v6 = some (rr, SS) := hf
      unfold g_X2_takes_b8 at hf
      have F : Fm ww_X2_takes S S := Fm.rf
      by_cases h : (5 : Int32) ≤ v6
      · have hf := if_t h hf
        exact F.trans (w38 S v1 v2 v4 hf)
      · have hf := if_f h hf
        obtain ⟨-, hf⟩ := ck_out hf
        obtain ⟨r7, hc, hf⟩ := bd_out hf
        obtain ⟨x8, e_x8, hf⟩ := lt_out hf
        obtain ⟨x9, e_x9, hf⟩ := lt_out hf
        exact F.trans (ih8 S v1 r7 x8 x9 hf)
  unfold f_X2_takes at hf
  have F : Fm ww_X2_takes S S := Fm.rf
  exact F.trans (w8 E.1 S a1 (0 : Int64) (0 : Int64) (0 : Int32) hf)
def ww_X2_keep : List (Nat × Nat) := [(20, 6), (22, 0)]
set_option maxRecDepth 100000 in
theorem fr_X2_keep (E : EN) (i0 : Nat) (S : ST)  (SS : ST) (hf : f_X2_keep E i0 S = some SS) : Fm ww_X2_keep S SS := by
  unfold f_X2_keep at hf
  have F : Fm ww_X2_keep S S := Fm.rf
  obtain ⟨S1, e_S1, hf⟩ := lt_out hf
  have F := F.sI rfl e_S1
  obtain ⟨S4, e_S4, hf⟩ := lt_out hf
  have F := F.aI rfl e_S4
  exact F.fin1 hf
def ww_X2_lay : List (Nat × Nat) := [(20, 4), (21, 0)]
set_option maxRecDepth 100000 in
theorem fr_X2_lay (E : EN) (i0 : Nat) (S : ST)  (SS : ST) (hf : f_X2_lay E i0 S = some SS) : Fm ww_X2_lay S SS := by
  unfold f_X2_lay at hf
  have F : Fm ww_X2_lay S S := Fm.rf
  obtain ⟨S1, e_S1, hf⟩ := lt_out hf
  have F := F.sI rfl e_S1
  obtain ⟨S4, e_S4, hf⟩ := lt_out hf
  have F := F.aI rfl e_S4
  exact F.fin1 hf
def ww_X3_number : List (Nat × Nat) := [(8, 3)]
set_option maxRecDepth 100000 in
theorem fr_X3_number (E : EN) (S : ST)  (rr : Int32) (SS : ST) (hf : f_X3_number E S = some (rr, SS)) : Fm ww_X3_number S SS := by
  have w74 : ∀ (S : ST) (v1 : Int32) (v2 : Int32), f_X3_number_b74 E S v1 v2 = some (rr, SS) → Fm ww_X3_number S SS := by
    intro S v1 v2 hf
    unfold f_X3_number_b74 at hf
    have F : Fm ww_X3_number S S := Fm.rf
    by_cases h : ((gI S 8 0 2) - v1) ≤ (4 : Int32)
    · have hf := if_t h hf
      exact F.fin2 hf
    · have hf := if_f h hf
      exact F.fin2 hf
  have w7 : ∀ (n7 : Nat) (S : ST) (v1 : Int32) (v2 : Int32), f_X3_number_b7 E n7 S v1 v2 = some (rr, SS) → Fm ww_X3_number S SS := by
    intro n7
    induction n7 with
    | zero =>
      intro S v1 v2 hf
      exact absurd (show (none : Option (Int32 × ST)) = some (rr, SS) from hf) (fun h => by cases h)
    | succ n7 ih7 =>
      have w61 : ∀ (S : ST) (v1 : Int32) (v2 : Int32), f_X3_number_b61 E (f_X3_number_b7 E n7) S v1 v2 = some (rr, SS) → Fm ww_X3_number S SS := by
        intro S v1 v2 hf
        unfold f_X3_number_b61 at hf
        have F : Fm ww_X3_number S S := Fm.rf
        obtain ⟨S1, e_S1, hf⟩ := lt_out hf
        have F := F.sI rfl e_S1
        exact F.trans (ih7 S1 v1 v2 hf)
      intro S v1 v2 hf
      have hf : g_X3_number_b7 E (f_X3_number_b7 E n7) S v1 v2 = some (rr, SS) := hf
      unfold g_X3_number_b7 at hf
      have F : Fm ww_X3_number S S := Fm.rf
      by_cases h : (gI S 8 0 1) ≤ (gI S 8 0 2)
      · have hf := if_t h hf
        exact F.trans (w74 S v1 v2 hf)
      · have hf := if_f h hf
        obtain ⟨-, hf⟩ := ck_out hf
        obtain ⟨r3, hc, hf⟩ := bd_out hf
        by_cases h : r3 = 0
        · have hf := if_t h hf
          exact F.trans (w74 S v1 v2 hf)
        · have hf := if_f h hf
          by_cases h : (4 : Int32) ≤ ((gI S 8 0 2) - v1)
          · have hf := if_t h hf
            exact F.trans (w61 S v1 v2 hf)
          · have hf := if_f h hf
            obtain ⟨x4, e_x4, hf⟩ := lt_out hf
            exact F.trans (w61 S v1 x4 hf)
  unfold f_X3_number at hf
  have F : Fm ww_X3_number S S := Fm.rf
  obtain ⟨x5, e_x5, hf⟩ := lt_out hf
  exact F.trans (w7 E.1 S x5 (0 : Int32) hf)
def ww_X3_word : List (Nat × Nat) := [(8, 3)]
set_option maxRecDepth 100000 in
theorem fr_X3_word (E : EN) (S : ST)  (rr : Int32) (SS : ST) (hf : f_X3_word E S = some (rr, SS)) : Fm ww_X3_word S SS := by
  have w44 : ∀ (S : ST) (v1 : Int32), f_X3_word_b44 E S v1 = some (rr, SS) → Fm ww_X3_word S SS := by
    intro S v1 hf
    unfold f_X3_word_b44 at hf
    have F : Fm ww_X3_word S S := Fm.rf
    obtain ⟨r1, hc, hf⟩ := bd_out hf
    exact F.fin2 hf
  have w5 : ∀ (n5 : Nat) (S : ST) (v1 : Int32), f_X3_word_b5 E n5 S v1 = some (rr, SS) → Fm ww_X3_word S SS := by
    intro n5
    induction n5 with
    | zero =>
      intro S v1 hf
      exact absurd (show (none : Option (Int32 × ST)) = some (rr, SS) from hf) (fun h => by cases h)
    | succ n5 ih5 =>
      intro S v1 hf
      have hf : g_X3_word_b5 E (f_X3_word_b5 E n5) S v1 = some (rr, SS) := hf
      unfold g_X3_word_b5 at hf
      have F : Fm ww_X3_word S S := Fm.rf
      by_cases h : (gI S 8 0 1) ≤ (gI S 8 0 2)
      · have hf := if_t h hf
        exact F.trans (w44 S v1 hf)
      · have hf := if_f h hf
        obtain ⟨-, hf⟩ := ck_out hf
        obtain ⟨r3, hc, hf⟩ := bd_out hf
        by_cases h : r3 = 0
        · have hf := if_t h hf
          exact F.trans (w44 S v1 hf)
        · have hf := if_f h hf
          obtain ⟨S4, e_S4, hf⟩ := lt_out hf
          have F := F.sI rfl e_S4
          exact F.trans (ih5 S4 v1 hf)
  unfold f_X3_word at hf
  have F : Fm ww_X3_word S S := Fm.rf
  obtain ⟨x5, e_x5, hf⟩ := lt_out hf
  exact F.trans (w5 E.1 S x5 hf)
def ww_X3_advance : List (Nat × Nat) := [(8, 3), (8, 4), (8, 5)]
set_option maxRecDepth 100000 in
theorem fr_X3_advance (E : EN) (S : ST)  (SS : ST) (hf : f_X3_advance E S = some SS) : Fm ww_X3_advance S SS := by
  have w169 : ∀ (S : ST) (t0 : Int32), f_X3_advance_b169 E S t0 = some SS → Fm ww_X3_advance S SS := by
    intro S t0 hf
    unfold f_X3_advance_b169 at hf
    have F : Fm ww_X3_advance S S := Fm.rf
    obtain ⟨S1, e_S1, hf⟩ := lt_out hf
    have F := F.sI rfl e_S1
    obtain ⟨S2, e_S2, hf⟩ := lt_out hf
    have F := F.sI rfl e_S2
    exact F.fin1 hf
  have w61 : ∀ (S : ST) , f_X3_advance_b61 E S  = some SS → Fm ww_X3_advance S SS := by
    intro S  hf
    unfold f_X3_advance_b61 at hf
    have F : Fm ww_X3_advance S S := Fm.rf
    obtain ⟨S3, e_S3, hf⟩ := lt_out hf
    have F := F.sI rfl e_S3
    by_cases h : (gI S3 8 0 2) < (gI S3 8 0 1)
    · have hf := if_t h hf
      obtain ⟨-, hf⟩ := ck_out hf
      obtain ⟨r5, hc, hf⟩ := bd_out hf
      by_cases h : r5 = 0
      · have hf := if_t h hf
        obtain ⟨r6, hc, hf⟩ := bd_out hf
        by_cases h : r6 = 0
        · have hf := if_t h hf
          obtain ⟨r7, hc, hf⟩ := bd_out hf
          by_cases h : r7 = 0
          · have hf := if_t h hf
            exact F.trans (w169 S3 (-1 : Int32) hf)
          · have hf := if_f h hf
            exact F.trans (w169 S3 (gI S3 5 0 (gI S3 8 0 2).toNatClampNeg) hf)
        · have hf := if_f h hf
          obtain ⟨r8, S9, hc, hf⟩ := bd2_out hf
          have F := F.tr (fr_X3_number E S3  r8 S9 hc) rfl
          obtain ⟨S10, e_S10, hf⟩ := lt_out hf
          have F := F.sI rfl e_S10
          exact F.fin1 hf
      · have hf := if_f h hf
        obtain ⟨r11, S12, hc, hf⟩ := bd2_out hf
        have F := F.tr (fr_X3_word E S3  r11 S12 hc) rfl
        obtain ⟨S13, e_S13, hf⟩ := lt_out hf
        have F := F.sI rfl e_S13
        exact F.fin1 hf
    · have hf := if_f h hf
      obtain ⟨S14, e_S14, hf⟩ := lt_out hf
      have F := F.sI rfl e_S14
      exact F.fin1 hf
  have w9 : ∀ (n9 : Nat) (S : ST) , f_X3_advance_b9 E n9 S  = some SS → Fm ww_X3_advance S SS := by
    intro n9
    induction n9 with
    | zero =>
      intro S  hf
      exact absurd (show (none : Option ST) = some SS from hf) (fun h => by cases h)
    | succ n9 ih9 =>
      have w48 : ∀ (S : ST) , f_X3_advance_b48 E (f_X3_advance_b9 E n9) S  = some SS → Fm ww_X3_advance S SS := by
        intro S  hf
        unfold f_X3_advance_b48 at hf
        have F : Fm ww_X3_advance S S := Fm.rf
        obtain ⟨S15, e_S15, hf⟩ := lt_out hf
        have F := F.sI rfl e_S15
        exact F.trans (ih9 S15 hf)
      intro S  hf
      have hf : g_X3_advance_b9 E (f_X3_advance_b9 E n9) S  = some SS := hf
      unfold g_X3_advance_b9 at hf
      have F : Fm ww_X3_advance S S := Fm.rf
      by_cases h : (gI S 8 0 1) ≤ (gI S 8 0 2)
      · have hf := if_t h hf
        exact F.trans (w61 S hf)
      · have hf := if_f h hf
        obtain ⟨-, hf⟩ := ck_out hf
        by_cases h : (gI S 5 0 (gI S 8 0 2).toNatClampNeg) = (32 : Int32)
        · have hf := if_t h hf
          exact F.trans (w48 S hf)
        · have hf := if_f h hf
          by_cases h : (gI S 5 0 (gI S 8 0 2).toNatClampNeg) = (10 : Int32)
          · have hf := if_t h hf
            exact F.trans (w48 S hf)
          · have hf := if_f h hf
            exact F.trans (w61 S hf)
  unfold f_X3_advance at hf
  have F : Fm ww_X3_advance S S := Fm.rf
  by_cases h : (gI S 8 0 5) = (-1 : Int32)
  · have hf := if_t h hf
    exact F.trans (w9 E.1 S hf)
  · have hf := if_f h hf
    exact F.fin1 hf
def ww_X3_emit : List (Nat × Nat) := [(8, 9), (9, 0)]
set_option maxRecDepth 100000 in
theorem fr_X3_emit (E : EN) (S : ST) (a1 : Int32) (SS : ST) (hf : f_X3_emit E S a1 = some SS) : Fm ww_X3_emit S SS := by
  unfold f_X3_emit at hf
  have F : Fm ww_X3_emit S S := Fm.rf
  by_cases h : (160 : Int32) ≤ (gI S 8 0 8)
  · have hf := if_t h hf
    exact F.fin1 hf
  · have hf := if_f h hf
    obtain ⟨-, hf⟩ := ck_out hf
    obtain ⟨S2, e_S2, hf⟩ := lt_out hf
    have F := F.sI rfl e_S2
    obtain ⟨S3, e_S3, hf⟩ := lt_out hf
    have F := F.sI rfl e_S3
    exact F.fin1 hf
def ww_X3_refuse : List (Nat × Nat) := [(8, 4), (8, 6)]
set_option maxRecDepth 100000 in
theorem fr_X3_refuse (E : EN) (S : ST)  (SS : ST) (hf : f_X3_refuse E S = some SS) : Fm ww_X3_refuse S SS := by
  have w16 : ∀ (S : ST) , f_X3_refuse_b16 E S  = some SS → Fm ww_X3_refuse S SS := by
    intro S  hf
    unfold f_X3_refuse_b16 at hf
    have F : Fm ww_X3_refuse S S := Fm.rf
    obtain ⟨S1, e_S1, hf⟩ := lt_out hf
    have F := F.sI rfl e_S1
    exact F.fin1 hf
  unfold f_X3_refuse at hf
  have F : Fm ww_X3_refuse S S := Fm.rf
  by_cases h : (gI S 8 0 5) = (-1 : Int32)
  · have hf := if_t h hf
    obtain ⟨S2, e_S2, hf⟩ := lt_out hf
    have F := F.sI rfl e_S2
    exact F.trans (w16 S2 hf)
  · have hf := if_f h hf
    exact F.trans (w16 S hf)
def ww_X3_opens : List (Nat × Nat) := [(8, 3), (8, 4), (8, 5), (8, 6), (8, 7)]
set_option maxRecDepth 100000 in
theorem fr_X3_opens (E : EN) (S : ST)  (rr : Int32) (SS : ST) (hf : f_X3_opens E S = some (rr, SS)) : Fm ww_X3_opens S SS := by
  unfold f_X3_opens at hf
  have F : Fm ww_X3_opens S S := Fm.rf
  by_cases h : (gI S 8 0 6) < (5 : Int32)
  · have hf := if_t h hf
    obtain ⟨S1, e_S1, hf⟩ := lt_out hf
    have F := F.sI rfl e_S1
    obtain ⟨S2, hc, hf⟩ := bd_out hf
    have F := F.tr (fr_X3_advance E S1  S2 hc) rfl
    exact F.fin2 hf
  · have hf := if_f h hf
    obtain ⟨S3, hc, hf⟩ := bd_out hf
    have F := F.tr (fr_X3_refuse E S  S3 hc) rfl
    exact F.fin2 hf
def ww_X3_take : List (Nat × Nat) := [(8, 3), (8, 4), (8, 5), (8, 6)]
set_option maxRecDepth 100000 in
theorem fr_X3_take (E : EN) (S : ST) (a1 : Int32) (SS : ST) (hf : f_X3_take E S a1 = some SS) : Fm ww_X3_take S SS := by
  unfold f_X3_take at hf
  have F : Fm ww_X3_take S S := Fm.rf
  by_cases h : (gI S 8 0 3) = a1
  · have hf := if_t h hf
    obtain ⟨S2, hc, hf⟩ := bd_out hf
    have F := F.tr (fr_X3_advance E S  S2 hc) rfl
    exact F.fin1 hf
  · have hf := if_f h hf
    obtain ⟨S1, hc, hf⟩ := bd_out hf
    have F := F.tr (fr_X3_refuse E S  S1 hc) rfl
    exact F.fin1 hf
def ww_gread : List (Nat × Nat) := [(8, 3), (8, 4), (8, 5), (8, 6), (8, 7), (8, 9), (9, 0)]
def ww_X3_readOr : List (Nat × Nat) := ww_gread
def ww_X3_readAnd : List (Nat × Nat) := ww_gread
def ww_X3_readNot : List (Nat × Nat) := ww_gread
def ww_X3_readSum : List (Nat × Nat) := ww_gread
def ww_X3_readTerm : List (Nat × Nat) := ww_gread
def ww_X3_readOne : List (Nat × Nat) := ww_gread
set_option maxRecDepth 100000 in
theorem nfr_X3_readOr (E : EN) (rc0 : ST → Option ST) (rc1 : ST → Option ST) (rc2 : ST → Option ST) (rc3 : ST → Option ST) (rc4 : ST → Option ST) (rc5 : ST → Option ST) (hr0 : ∀ (S : ST)  (S2 : ST), rc0 S  = some S2 → Fm ww_gread S S2) (hr1 : ∀ (S : ST)  (S2 : ST), rc1 S  = some S2 → Fm ww_gread S S2) (hr2 : ∀ (S : ST)  (S2 : ST), rc2 S  = some S2 → Fm ww_gread S S2) (hr3 : ∀ (S : ST)  (S2 : ST), rc3 S  = some S2 → Fm ww_gread S S2) (hr4 : ∀ (S : ST)  (S2 : ST), rc4 S  = some S2 → Fm ww_gread S S2) (hr5 : ∀ (S : ST)  (S2 : ST), rc5 S  = some S2 → Fm ww_gread S S2) (S : ST)  (SS : ST) (hf : b_X3_readOr E rc0 rc1 rc2 rc3 rc4 rc5 S = some SS) : Fm ww_gread S SS := by
  have w6 : ∀ (n6 : Nat) (S : ST) (v1 : Int32), f_X3_readOr_b6 E rc0 rc1 rc2 rc3 rc4 rc5 n6 S v1 = some SS → Fm ww_gread S SS := by
    intro n6
    induction n6 with
    | zero =>
      intro S v1 hf
      exact absurd (show (none : Option ST) = some SS from hf) (fun h => by cases h)
    | succ n6 ih6 =>
      intro S v1 hf
      have hf : g_X3_readOr_b6 E rc0 rc1 rc2 rc3 rc4 rc5 (f_X3_readOr_b6 E rc0 rc1 rc2 rc3 rc4 rc5 n6) S v1 = some SS := hf
      unfold g_X3_readOr_b6 at hf
      have F : Fm ww_gread S S := Fm.rf
      by_cases h : (160 : Int32) ≤ v1
      · have hf := if_t h hf
        exact F.fin1 hf
      · have hf := if_f h hf
        by_cases h : (gI S 8 0 3) = (259 : Int32)
        · have hf := if_t h hf
          obtain ⟨S1, hc, hf⟩ := bd_out hf
          have F := F.tr (fr_X3_advance E S  S1 hc) rfl
          obtain ⟨S2, hc, hf⟩ := bd_out hf
          have F := F.trans (hr1 S1  S2 hc)
          obtain ⟨S3, hc, hf⟩ := bd_out hf
          have F := F.tr (fr_X3_emit E S2 (259 : Int32) S3 hc) rfl
          obtain ⟨x4, e_x4, hf⟩ := lt_out hf
          exact F.trans (ih6 S3 x4 hf)
        · have hf := if_f h hf
          exact F.fin1 hf
  unfold b_X3_readOr at hf
  have F : Fm ww_gread S S := Fm.rf
  obtain ⟨S5, hc, hf⟩ := bd_out hf
  have F := F.trans (hr1 S  S5 hc)
  exact F.trans (w6 E.1 S5 (0 : Int32) hf)
set_option maxRecDepth 100000 in
theorem nfr_X3_readAnd (E : EN) (rc0 : ST → Option ST) (rc1 : ST → Option ST) (rc2 : ST → Option ST) (rc3 : ST → Option ST) (rc4 : ST → Option ST) (rc5 : ST → Option ST) (hr0 : ∀ (S : ST)  (S2 : ST), rc0 S  = some S2 → Fm ww_gread S S2) (hr1 : ∀ (S : ST)  (S2 : ST), rc1 S  = some S2 → Fm ww_gread S S2) (hr2 : ∀ (S : ST)  (S2 : ST), rc2 S  = some S2 → Fm ww_gread S S2) (hr3 : ∀ (S : ST)  (S2 : ST), rc3 S  = some S2 → Fm ww_gread S S2) (hr4 : ∀ (S : ST)  (S2 : ST), rc4 S  = some S2 → Fm ww_gread S S2) (hr5 : ∀ (S : ST)  (S2 : ST), rc5 S  = some S2 → Fm ww_gread S S2) (S : ST)  (SS : ST) (hf : b_X3_readAnd E rc0 rc1 rc2 rc3 rc4 rc5 S = some SS) : Fm ww_gread S SS := by
  have w6 : ∀ (n6 : Nat) (S : ST) (v1 : Int32), f_X3_readAnd_b6 E rc0 rc1 rc2 rc3 rc4 rc5 n6 S v1 = some SS → Fm ww_gread S SS := by
    intro n6
    induction n6 with
    | zero =>
      intro S v1 hf
      exact absurd (show (none : Option ST) = some SS from hf) (fun h => by cases h)
    | succ n6 ih6 =>
      intro S v1 hf
      have hf : g_X3_readAnd_b6 E rc0 rc1 rc2 rc3 rc4 rc5 (f_X3_readAnd_b6 E rc0 rc1 rc2 rc3 rc4 rc5 n6) S v1 = some SS := hf
      unfold g_X3_readAnd_b6 at hf
      have F : Fm ww_gread S S := Fm.rf
      by_cases h : (160 : Int32) ≤ v1
      · have hf := if_t h hf
        exact F.fin1 hf
      · have hf := if_f h hf
        by_cases h : (gI S 8 0 3) = (260 : Int32)
        · have hf := if_t h hf
          obtain ⟨S1, hc, hf⟩ := bd_out hf
          have F := F.tr (fr_X3_advance E S  S1 hc) rfl
          obtain ⟨S2, hc, hf⟩ := bd_out hf
          have F := F.trans (hr2 S1  S2 hc)
          obtain ⟨S3, hc, hf⟩ := bd_out hf
          have F := F.tr (fr_X3_emit E S2 (260 : Int32) S3 hc) rfl
          obtain ⟨x4, e_x4, hf⟩ := lt_out hf
          exact F.trans (ih6 S3 x4 hf)
        · have hf := if_f h hf
          exact F.fin1 hf
  unfold b_X3_readAnd at hf
  have F : Fm ww_gread S S := Fm.rf
  obtain ⟨S5, hc, hf⟩ := bd_out hf
  have F := F.trans (hr2 S  S5 hc)
  exact F.trans (w6 E.1 S5 (0 : Int32) hf)
set_option maxRecDepth 100000 in
theorem nfr_X3_readNot (E : EN) (rc0 : ST → Option ST) (rc1 : ST → Option ST) (rc2 : ST → Option ST) (rc3 : ST → Option ST) (rc4 : ST → Option ST) (rc5 : ST → Option ST) (hr0 : ∀ (S : ST)  (S2 : ST), rc0 S  = some S2 → Fm ww_gread S S2) (hr1 : ∀ (S : ST)  (S2 : ST), rc1 S  = some S2 → Fm ww_gread S S2) (hr2 : ∀ (S : ST)  (S2 : ST), rc2 S  = some S2 → Fm ww_gread S S2) (hr3 : ∀ (S : ST)  (S2 : ST), rc3 S  = some S2 → Fm ww_gread S S2) (hr4 : ∀ (S : ST)  (S2 : ST), rc4 S  = some S2 → Fm ww_gread S S2) (hr5 : ∀ (S : ST)  (S2 : ST), rc5 S  = some S2 → Fm ww_gread S S2) (S : ST)  (SS : ST) (hf : b_X3_readNot E rc0 rc1 rc2 rc3 rc4 rc5 S = some SS) : Fm ww_gread S SS := by
  have w61 : ∀ (S : ST) , f_X3_readNot_b61 E rc0 rc1 rc2 rc3 rc4 rc5 S  = some SS → Fm ww_gread S SS := by
    intro S  hf
    unfold f_X3_readNot_b61 at hf
    have F : Fm ww_gread S S := Fm.rf
    obtain ⟨x1, e_x1, hf⟩ := lt_out hf
    obtain ⟨S2, hc, hf⟩ := bd_out hf
    have F := F.tr (fr_X3_advance E S  S2 hc) rfl
    obtain ⟨S3, hc, hf⟩ := bd_out hf
    have F := F.trans (hr3 S2  S3 hc)
    obtain ⟨S4, hc, hf⟩ := bd_out hf
    have F := F.tr (fr_X3_emit E S3 x1 S4 hc) rfl
    exact F.fin1 hf
  unfold b_X3_readNot at hf
  have F : Fm ww_gread S S := Fm.rf
  by_cases h : (gI S 8 0 3) = (261 : Int32)
  · have hf := if_t h hf
    obtain ⟨r6, S7, hc, hf⟩ := bd2_out hf
    have F := F.tr (fr_X3_opens E S  r6 S7 hc) rfl
    by_cases h : r6 = 0
    · have hf := if_t h hf
      exact F.fin1 hf
    · have hf := if_f h hf
      obtain ⟨S8, hc, hf⟩ := bd_out hf
      have F := F.trans (hr2 S7  S8 hc)
      obtain ⟨S9, e_S9, hf⟩ := lt_out hf
      have F := F.sI rfl e_S9
      obtain ⟨S10, hc, hf⟩ := bd_out hf
      have F := F.tr (fr_X3_emit E S9 (261 : Int32) S10 hc) rfl
      exact F.fin1 hf
  · have hf := if_f h hf
    obtain ⟨S5, hc, hf⟩ := bd_out hf
    have F := F.trans (hr3 S  S5 hc)
    by_cases h : (gI S5 8 0 3) = (60 : Int32)
    · have hf := if_t h hf
      exact F.trans (w61 S5 hf)
    · have hf := if_f h hf
      by_cases h : (gI S5 8 0 3) = (61 : Int32)
      · have hf := if_t h hf
        exact F.trans (w61 S5 hf)
      · have hf := if_f h hf
        exact F.fin1 hf
set_option maxRecDepth 100000 in
theorem nfr_X3_readSum (E : EN) (rc0 : ST → Option ST) (rc1 : ST → Option ST) (rc2 : ST → Option ST) (rc3 : ST → Option ST) (rc4 : ST → Option ST) (rc5 : ST → Option ST) (hr0 : ∀ (S : ST)  (S2 : ST), rc0 S  = some S2 → Fm ww_gread S S2) (hr1 : ∀ (S : ST)  (S2 : ST), rc1 S  = some S2 → Fm ww_gread S S2) (hr2 : ∀ (S : ST)  (S2 : ST), rc2 S  = some S2 → Fm ww_gread S S2) (hr3 : ∀ (S : ST)  (S2 : ST), rc3 S  = some S2 → Fm ww_gread S S2) (hr4 : ∀ (S : ST)  (S2 : ST), rc4 S  = some S2 → Fm ww_gread S S2) (hr5 : ∀ (S : ST)  (S2 : ST), rc5 S  = some S2 → Fm ww_gread S S2) (S : ST)  (SS : ST) (hf : b_X3_readSum E rc0 rc1 rc2 rc3 rc4 rc5 S = some SS) : Fm ww_gread S SS := by
  have w6 : ∀ (n6 : Nat) (S : ST) (v1 : Int32), f_X3_readSum_b6 E rc0 rc1 rc2 rc3 rc4 rc5 n6 S v1 = some SS → Fm ww_gread S SS := by
    intro n6
    induction n6 with
    | zero =>
      intro S v1 hf
      exact absurd (show (none : Option ST) = some SS from hf) (fun h => by cases h)
    | succ n6 ih6 =>
      have w31 : ∀ (S : ST) (v1 : Int32), f_X3_readSum_b31 E rc0 rc1 rc2 rc3 rc4 rc5 (f_X3_readSum_b6 E rc0 rc1 rc2 rc3 rc4 rc5 n6) S v1 = some SS → Fm ww_gread S SS := by
        intro S v1 hf
        unfold f_X3_readSum_b31 at hf
        have F : Fm ww_gread S S := Fm.rf
        obtain ⟨x1, e_x1, hf⟩ := lt_out hf
        obtain ⟨S2, hc, hf⟩ := bd_out hf
        have F := F.tr (fr_X3_advance E S  S2 hc) rfl
        obtain ⟨S3, hc, hf⟩ := bd_out hf
        have F := F.trans (hr4 S2  S3 hc)
        obtain ⟨S4, hc, hf⟩ := bd_out hf
        have F := F.tr (fr_X3_emit E S3 x1 S4 hc) rfl
        obtain ⟨x5, e_x5, hf⟩ := lt_out hf
        exact F.trans (ih6 S4 x5 hf)
      intro S v1 hf
      have hf : g_X3_readSum_b6 E rc0 rc1 rc2 rc3 rc4 rc5 (f_X3_readSum_b6 E rc0 rc1 rc2 rc3 rc4 rc5 n6) S v1 = some SS := hf
      unfold g_X3_readSum_b6 at hf
      have F : Fm ww_gread S S := Fm.rf
      by_cases h : (160 : Int32) ≤ v1
      · have hf := if_t h hf
        exact F.fin1 hf
      · have hf := if_f h hf
        by_cases h : (gI S 8 0 3) = (43 : Int32)
        · have hf := if_t h hf
          exact F.trans (w31 S v1 hf)
        · have hf := if_f h hf
          by_cases h : (gI S 8 0 3) = (45 : Int32)
          · have hf := if_t h hf
            exact F.trans (w31 S v1 hf)
          · have hf := if_f h hf
            exact F.fin1 hf
  unfold b_X3_readSum at hf
  have F : Fm ww_gread S S := Fm.rf
  obtain ⟨S6, hc, hf⟩ := bd_out hf
  have F := F.trans (hr4 S  S6 hc)
  exact F.trans (w6 E.1 S6 (0 : Int32) hf)
set_option maxRecDepth 100000 in
theorem nfr_X3_readTerm (E : EN) (rc0 : ST → Option ST) (rc1 : ST → Option ST) (rc2 : ST → Option ST) (rc3 : ST → Option ST) (rc4 : ST → Option ST) (rc5 : ST → Option ST) (hr0 : ∀ (S : ST)  (S2 : ST), rc0 S  = some S2 → Fm ww_gread S S2) (hr1 : ∀ (S : ST)  (S2 : ST), rc1 S  = some S2 → Fm ww_gread S S2) (hr2 : ∀ (S : ST)  (S2 : ST), rc2 S  = some S2 → Fm ww_gread S S2) (hr3 : ∀ (S : ST)  (S2 : ST), rc3 S  = some S2 → Fm ww_gread S S2) (hr4 : ∀ (S : ST)  (S2 : ST), rc4 S  = some S2 → Fm ww_gread S S2) (hr5 : ∀ (S : ST)  (S2 : ST), rc5 S  = some S2 → Fm ww_gread S S2) (S : ST)  (SS : ST) (hf : b_X3_readTerm E rc0 rc1 rc2 rc3 rc4 rc5 S = some SS) : Fm ww_gread S SS := by
  have w6 : ∀ (n6 : Nat) (S : ST) (v1 : Int32), f_X3_readTerm_b6 E rc0 rc1 rc2 rc3 rc4 rc5 n6 S v1 = some SS → Fm ww_gread S SS := by
    intro n6
    induction n6 with
    | zero =>
      intro S v1 hf
      exact absurd (show (none : Option ST) = some SS from hf) (fun h => by cases h)
    | succ n6 ih6 =>
      intro S v1 hf
      have hf : g_X3_readTerm_b6 E rc0 rc1 rc2 rc3 rc4 rc5 (f_X3_readTerm_b6 E rc0 rc1 rc2 rc3 rc4 rc5 n6) S v1 = some SS := hf
      unfold g_X3_readTerm_b6 at hf
      have F : Fm ww_gread S S := Fm.rf
      by_cases h : (160 : Int32) ≤ v1
      · have hf := if_t h hf
        exact F.fin1 hf
      · have hf := if_f h hf
        by_cases h : (gI S 8 0 3) = (42 : Int32)
        · have hf := if_t h hf
          obtain ⟨S1, hc, hf⟩ := bd_out hf
          have F := F.tr (fr_X3_advance E S  S1 hc) rfl
          obtain ⟨S2, hc, hf⟩ := bd_out hf
          have F := F.trans (hr5 S1  S2 hc)
          obtain ⟨S3, hc, hf⟩ := bd_out hf
          have F := F.tr (fr_X3_emit E S2 (42 : Int32) S3 hc) rfl
          obtain ⟨x4, e_x4, hf⟩ := lt_out hf
          exact F.trans (ih6 S3 x4 hf)
        · have hf := if_f h hf
          exact F.fin1 hf
  unfold b_X3_readTerm at hf
  have F : Fm ww_gread S S := Fm.rf
  obtain ⟨S5, hc, hf⟩ := bd_out hf
  have F := F.trans (hr5 S  S5 hc)
  exact F.trans (w6 E.1 S5 (0 : Int32) hf)
set_option maxRecDepth 100000 in
theorem nfr_X3_readOne (E : EN) (rc0 : ST → Option ST) (rc1 : ST → Option ST) (rc2 : ST → Option ST) (rc3 : ST → Option ST) (rc4 : ST → Option ST) (rc5 : ST → Option ST) (hr0 : ∀ (S : ST)  (S2 : ST), rc0 S  = some S2 → Fm ww_gread S S2) (hr1 : ∀ (S : ST)  (S2 : ST), rc1 S  = some S2 → Fm ww_gread S S2) (hr2 : ∀ (S : ST)  (S2 : ST), rc2 S  = some S2 → Fm ww_gread S S2) (hr3 : ∀ (S : ST)  (S2 : ST), rc3 S  = some S2 → Fm ww_gread S S2) (hr4 : ∀ (S : ST)  (S2 : ST), rc4 S  = some S2 → Fm ww_gread S S2) (hr5 : ∀ (S : ST)  (S2 : ST), rc5 S  = some S2 → Fm ww_gread S S2) (S : ST)  (SS : ST) (hf : b_X3_readOne E rc0 rc1 rc2 rc3 rc4 rc5 S = some SS) : Fm ww_gread S SS := by
  unfold b_X3_readOne at hf
  have F : Fm ww_gread S S := Fm.rf
  by_cases h : (gI S 8 0 3) < (262 : Int32)
  · have hf := if_t h hf
    by_cases h : (gI S 8 0 3) = (45 : Int32)
    · have hf := if_t h hf
      obtain ⟨r7, S8, hc, hf⟩ := bd2_out hf
      have F := F.tr (fr_X3_opens E S  r7 S8 hc) rfl
      by_cases h : r7 = 0
      · have hf := if_t h hf
        exact F.fin1 hf
      · have hf := if_f h hf
        obtain ⟨S9, hc, hf⟩ := bd_out hf
        have F := F.trans (hr5 S8  S9 hc)
        obtain ⟨S10, e_S10, hf⟩ := lt_out hf
        have F := F.sI rfl e_S10
        obtain ⟨S11, hc, hf⟩ := bd_out hf
        have F := F.tr (fr_X3_emit E S10 (1 : Int32) S11 hc) rfl
        exact F.fin1 hf
    · have hf := if_f h hf
      by_cases h : (gI S 8 0 3) = (40 : Int32)
      · have hf := if_t h hf
        obtain ⟨r2, S3, hc, hf⟩ := bd2_out hf
        have F := F.tr (fr_X3_opens E S  r2 S3 hc) rfl
        by_cases h : r2 = 0
        · have hf := if_t h hf
          exact F.fin1 hf
        · have hf := if_f h hf
          obtain ⟨S4, hc, hf⟩ := bd_out hf
          have F := F.trans (hr0 S3  S4 hc)
          obtain ⟨S5, hc, hf⟩ := bd_out hf
          have F := F.tr (fr_X3_take E S4 (41 : Int32) S5 hc) rfl
          obtain ⟨S6, e_S6, hf⟩ := lt_out hf
          have F := F.sI rfl e_S6
          exact F.fin1 hf
      · have hf := if_f h hf
        obtain ⟨S1, hc, hf⟩ := bd_out hf
        have F := F.tr (fr_X3_refuse E S  S1 hc) rfl
        exact F.fin1 hf
  · have hf := if_f h hf
    obtain ⟨S12, hc, hf⟩ := bd_out hf
    have F := F.tr (fr_X3_emit E S (gI S 8 0 3) S12 hc) rfl
    obtain ⟨S13, hc, hf⟩ := bd_out hf
    have F := F.tr (fr_X3_advance E S12  S13 hc) rfl
    exact F.fin1 hf
set_option maxRecDepth 100000 in
theorem fr_gread (E : EN) : ∀ d : Nat, (∀ (S : ST)  (S2 : ST), f_gread E d 0 S  = some S2 → Fm ww_gread S S2) ∧ (∀ (S : ST)  (S2 : ST), f_gread E d 1 S  = some S2 → Fm ww_gread S S2) ∧ (∀ (S : ST)  (S2 : ST), f_gread E d 2 S  = some S2 → Fm ww_gread S S2) ∧ (∀ (S : ST)  (S2 : ST), f_gread E d 3 S  = some S2 → Fm ww_gread S S2) ∧ (∀ (S : ST)  (S2 : ST), f_gread E d 4 S  = some S2 → Fm ww_gread S S2) ∧ (∀ (S : ST)  (S2 : ST), f_gread E d 5 S  = some S2 → Fm ww_gread S S2) := by
  intro d
  induction d with
  | zero => exact ⟨fun S  S2 hf => absurd (show (none : Option ST) = some S2 from hf) (fun h => by cases h), fun S  S2 hf => absurd (show (none : Option ST) = some S2 from hf) (fun h => by cases h), fun S  S2 hf => absurd (show (none : Option ST) = some S2 from hf) (fun h => by cases h), fun S  S2 hf => absurd (show (none : Option ST) = some S2 from hf) (fun h => by cases h), fun S  S2 hf => absurd (show (none : Option ST) = some S2 from hf) (fun h => by cases h), fun S  S2 hf => absurd (show (none : Option ST) = some S2 from hf) (fun h => by cases h)⟩
  | succ d ih =>
    exact ⟨fun S  S2 hf => nfr_X3_readOr E (f_gread E d 0) (f_gread E d 1) (f_gread E d 2) (f_gread E d 3) (f_gread E d 4) (f_gread E d 5) (ih.1) (ih.2.1) (ih.2.2.1) (ih.2.2.2.1) (ih.2.2.2.2.1) (ih.2.2.2.2.2) S  S2 hf, fun S  S2 hf => nfr_X3_readAnd E (f_gread E d 0) (f_gread E d 1) (f_gread E d 2) (f_gread E d 3) (f_gread E d 4) (f_gread E d 5) (ih.1) (ih.2.1) (ih.2.2.1) (ih.2.2.2.1) (ih.2.2.2.2.1) (ih.2.2.2.2.2) S  S2 hf, fun S  S2 hf => nfr_X3_readNot E (f_gread E d 0) (f_gread E d 1) (f_gread E d 2) (f_gread E d 3) (f_gread E d 4) (f_gread E d 5) (ih.1) (ih.2.1) (ih.2.2.1) (ih.2.2.2.1) (ih.2.2.2.2.1) (ih.2.2.2.2.2) S  S2 hf, fun S  S2 hf => nfr_X3_readSum E (f_gread E d 0) (f_gread E d 1) (f_gread E d 2) (f_gread E d 3) (f_gread E d 4) (f_gread E d 5) (ih.1) (ih.2.1) (ih.2.2.1) (ih.2.2.2.1) (ih.2.2.2.2.1) (ih.2.2.2.2.2) S  S2 hf, fun S  S2 hf => nfr_X3_readTerm E (f_gread E d 0) (f_gread E d 1) (f_gread E d 2) (f_gread E d 3) (f_gread E d 4) (f_gread E d 5) (ih.1) (ih.2.1) (ih.2.2.1) (ih.2.2.2.1) (ih.2.2.2.2.1) (ih.2.2.2.2.2) S  S2 hf, fun S  S2 hf => nfr_X3_readOne E (f_gread E d 0) (f_gread E d 1) (f_gread E d 2) (f_gread E d 3) (f_gread E d 4) (f_gread E d 5) (ih.1) (ih.2.1) (ih.2.2.1) (ih.2.2.2.1) (ih.2.2.2.2.1) (ih.2.2.2.2.2) S  S2 hf⟩
set_option maxRecDepth 100000 in
theorem fr_X3_readOr (E : EN) (d : Nat) (S : ST)  (S2 : ST) (hf : f_X3_readOr E d S  = some S2) : Fm ww_X3_readOr S S2 := (fr_gread E d).1 S  S2 hf
set_option maxRecDepth 100000 in
theorem fr_X3_readAnd (E : EN) (d : Nat) (S : ST)  (S2 : ST) (hf : f_X3_readAnd E d S  = some S2) : Fm ww_X3_readAnd S S2 := (fr_gread E d).2.1 S  S2 hf
set_option maxRecDepth 100000 in
theorem fr_X3_readNot (E : EN) (d : Nat) (S : ST)  (S2 : ST) (hf : f_X3_readNot E d S  = some S2) : Fm ww_X3_readNot S S2 := (fr_gread E d).2.2.1 S  S2 hf
set_option maxRecDepth 100000 in
theorem fr_X3_readSum (E : EN) (d : Nat) (S : ST)  (S2 : ST) (hf : f_X3_readSum E d S  = some S2) : Fm ww_X3_readSum S S2 := (fr_gread E d).2.2.2.1 S  S2 hf
set_option maxRecDepth 100000 in
theorem fr_X3_readTerm (E : EN) (d : Nat) (S : ST)  (S2 : ST) (hf : f_X3_readTerm E d S  = some S2) : Fm ww_X3_readTerm S S2 := (fr_gread E d).2.2.2.2.1 S  S2 hf
set_option maxRecDepth 100000 in
theorem fr_X3_readOne (E : EN) (d : Nat) (S : ST)  (S2 : ST) (hf : f_X3_readOne E d S  = some S2) : Fm ww_X3_readOne S S2 := (fr_gread E d).2.2.2.2.2 S  S2 hf
def ww_X3_read : List (Nat × Nat) := [(8, 2), (8, 3), (8, 4), (8, 5), (8, 6), (8, 7), (8, 9), (9, 0), (14, 0)]
set_option maxRecDepth 100000 in
theorem fr_X3_read (E : EN) (S : ST) (a1 : Int32) (rr : Int32) (SS : ST) (hf : f_X3_read E S a1 = some (rr, SS)) : Fm ww_X3_read S SS := by
  have w79 : ∀ (S : ST) , f_X3_read_b79 E S  = some (rr, SS) → Fm ww_X3_read S SS := by
    intro S  hf
    unfold f_X3_read_b79 at hf
    have F : Fm ww_X3_read S S := Fm.rf
    obtain ⟨S1, e_S1, hf⟩ := lt_out hf
    have F := F.sI rfl e_S1
    obtain ⟨S2, hc, hf⟩ := bd_out hf
    have F := F.tr (fr_X3_take E S1 (0 : Int32) S2 hc) rfl
    exact F.fin2 hf
  have w39 : ∀ (n39 : Nat) (S : ST) (v2 : Int32), f_X3_read_b39 E n39 S v2 = some (rr, SS) → Fm ww_X3_read S SS := by
    intro n39
    induction n39 with
    | zero =>
      intro S v2 hf
      exact absurd (show (none : Option (Int32 × ST)) = some (rr, SS) from hf) (fun h => by cases h)
    | succ n39 ih39 =>
      intro S v2 hf
      have hf : g_X3_read_b39 E (f_X3_read_b39 E n39) S v2 = some (rr, SS) := hf
      unfold g_X3_read_b39 at hf
      have F : Fm ww_X3_read S S := Fm.rf
      by_cases h : (3 : Int32) ≤ v2
      · have hf := if_t h hf
        exact F.trans (w79 S hf)
      · have hf := if_f h hf
        obtain ⟨S3, hc, hf⟩ := bd_out hf
        have F := F.tr (fr_X3_take E S ((256 : Int32) + v2) S3 hc) rfl
        obtain ⟨-, hf⟩ := ck_out hf
        obtain ⟨S5, e_S5, hf⟩ := lt_out hf
        have F := F.sI rfl e_S5
        obtain ⟨S6, hc, hf⟩ := bd_out hf
        have F := F.tr (fr_X3_readOr E 40 S5  S6 hc) rfl
        obtain ⟨S7, hc, hf⟩ := bd_out hf
        have F := F.tr (fr_X3_take E S6 (59 : Int32) S7 hc) rfl
        obtain ⟨x8, e_x8, hf⟩ := lt_out hf
        exact F.trans (ih39 S7 x8 hf)
  unfold f_X3_read at hf
  have F : Fm ww_X3_read S S := Fm.rf
  obtain ⟨S9, e_S9, hf⟩ := lt_out hf
  have F := F.sI rfl e_S9
  obtain ⟨S10, e_S10, hf⟩ := lt_out hf
  have F := F.sI rfl e_S10
  obtain ⟨S11, e_S11, hf⟩ := lt_out hf
  have F := F.sI rfl e_S11
  obtain ⟨S12, e_S12, hf⟩ := lt_out hf
  have F := F.sI rfl e_S12
  obtain ⟨S13, e_S13, hf⟩ := lt_out hf
  have F := F.sI rfl e_S13
  obtain ⟨S14, hc, hf⟩ := bd_out hf
  have F := F.tr (fr_X3_advance E S13  S14 hc) rfl
  exact F.trans (w39 E.1 S14 (0 : Int32) hf)
def ww_J7_fill_53178 : List (Nat × Nat) := [(25, 0)]
set_option maxRecDepth 100000 in
theorem fr_J7_fill_53178 (E : EN) (S : ST) (a1 : Nat) (a2 : Int32) (SS : ST) (hf : f_J7_fill_53178 E S a1 a2 = some SS) : Fm ww_J7_fill_53178 S SS := by
  have w5 : ∀ (n5 : Nat) (S : ST) (v0 : Nat) (v1 : Int32) (v2 : Int32) (v3 : Int32), f_J7_fill_53178_b5 E n5 S v0 v1 v2 v3 = some SS → Fm ww_J7_fill_53178 S SS := by
    intro n5
    induction n5 with
    | zero =>
      intro S v0 v1 v2 v3 hf
      exact absurd (show (none : Option ST) = some SS from hf) (fun h => by cases h)
    | succ n5 ih5 =>
      intro S v0 v1 v2 v3 hf
      have hf : g_J7_fill_53178_b5 E (f_J7_fill_53178_b5 E n5) S v0 v1 v2 v3 = some SS := hf
      unfold g_J7_fill_53178_b5 at hf
      have F : Fm ww_J7_fill_53178 S S := Fm.rf
      by_cases h : v3 ≤ v2
      · have hf := if_t h hf
        exact F.fin1 hf
      · have hf := if_f h hf
        obtain ⟨-, hf⟩ := ck_out hf
        obtain ⟨S2, e_S2, hf⟩ := lt_out hf
        have F := F.sI rfl e_S2
        obtain ⟨x3, e_x3, hf⟩ := lt_out hf
        exact F.trans (ih5 S2 v0 v1 x3 v3 hf)
  unfold f_J7_fill_53178 at hf
  have F : Fm ww_J7_fill_53178 S S := Fm.rf
  exact F.trans (w5 E.1 S a1 a2 (0 : Int32) (40 : Int32) hf)
def ww_X4_becomes : List (Nat × Nat) := [(24, 1), (24, 2), (25, 0)]
set_option maxRecDepth 100000 in
theorem fr_X4_becomes (E : EN) (i0 : Nat) (S : ST) (a1 : Int32) (a2 : Int32) (SS : ST) (hf : f_X4_becomes E i0 S a1 a2 = some SS) : Fm ww_X4_becomes S SS := by
  unfold f_X4_becomes at hf
  have F : Fm ww_X4_becomes S S := Fm.rf
  obtain ⟨S1, e_S1, hf⟩ := lt_out hf
  have F := F.sI rfl e_S1
  obtain ⟨S2, e_S2, hf⟩ := lt_out hf
  have F := F.sI rfl e_S2
  obtain ⟨S3, hc, hf⟩ := bd_out hf
  have F := F.tr (fr_J7_fill_53178 E S2 i0 (0 : Int32) S3 hc) rfl
  exact F.fin1 hf
def ww_X6_weigh : List (Nat × Nat) := [(21, 0)]
set_option maxRecDepth 100000 in
theorem fr_X6_weigh (E : EN) (S : ST) (a1 : Int32) (a2 : Int32) (rr : Int32) (SS : ST) (hf : f_X6_weigh E S a1 a2 = some (rr, SS)) : Fm ww_X6_weigh S SS := by
  have w35 : ∀ (n35 : Nat) (S : ST) (v3 : Nat) (v4 : Int32) (v5 : Int32) (v6 : Int32), f_X6_weigh_b35 E n35 S v3 v4 v5 v6 = some (rr, SS) → Fm ww_X6_weigh S SS := by
    intro n35
    induction n35 with
    | zero =>
      intro S v3 v4 v5 v6 hf
      exact absurd (show (none : Option (Int32 × ST)) = some (rr, SS) from hf) (fun h => by cases h)
    | succ n35 ih35 =>
      intro S v3 v4 v5 v6 hf
      have hf : g_X6_weigh_b35 E (f_X6_weigh_b35 E n35) S v3 v4 v5 v6 = some (rr, SS) := hf
      unfold g_X6_weigh_b35 at hf
      have F : Fm ww_X6_weigh S S := Fm.rf
      by_cases h : (5 : Int32) ≤ v6
      · have hf := if_t h hf
        exact F.fin2 hf
      · have hf := if_f h hf
        obtain ⟨-, hf⟩ := ck_out hf
        obtain ⟨S2, e_S2, hf⟩ := lt_out hf
        have F := F.sI rfl e_S2
        obtain ⟨x3, e_x3, hf⟩ := lt_out hf
        obtain ⟨x4, e_x4, hf⟩ := lt_out hf
        exact F.trans (ih35 S2 v3 v4 x3 x4 hf)
  unfold f_X6_weigh at hf
  have F : Fm ww_X6_weigh S S := Fm.rf
  obtain ⟨r5, hc, hf⟩ := bd_out hf
  rcases r5 with _ | k6
  · have hf := nl_n hf
    exact F.fin2 hf
  · have hf := nl_s hf
    obtain ⟨-, hf⟩ := ck_out hf
    by_cases h : a2 ≤ 0
    · have hf := if_t h hf
      exact F.fin2 hf
    · have hf := if_f h hf
      by_cases h : a2 ≤ (99999 : Int32)
      · have hf := if_t h hf
        obtain ⟨r8, hc, hf⟩ := bd_out hf
        exact F.trans (w35 E.1 S k6 r8 a2 (0 : Int32) hf)
      · have hf := if_f h hf
        exact F.fin2 hf
def ww_X6_feed : List (Nat × Nat) := [(2, 7), (5, 0)]
set_option maxRecDepth 100000 in
theorem fr_X6_feed (E : EN) (S : ST) (a1 : Int32) (a2 : Int64) (rr : Int32) (SS : ST) (hf : f_X6_feed E S a1 a2 = some (rr, SS)) : Fm ww_X6_feed S SS := by
  have w72 : ∀ (S : ST) , f_X6_feed_b72 E S  = some (rr, SS) → Fm ww_X6_feed S SS := by
    intro S  hf
    unfold f_X6_feed_b72 at hf
    have F : Fm ww_X6_feed S S := Fm.rf
    exact F.fin2 hf
  have w32 : ∀ (n32 : Nat) (S : ST) (v1 : Int32) (v2 : Int64) (v4 : Int32), f_X6_feed_b32 E n32 S v1 v2 v4 = some (rr, SS) → Fm ww_X6_feed S SS := by
    intro n32
    induction n32 with
    | zero =>
      intro S v1 v2 v4 hf
      exact absurd (show (none : Option (Int32 × ST)) = some (rr, SS) from hf) (fun h => by cases h)
    | succ n32 ih32 =>
      intro S v1 v2 v4 hf
      have hf : g_X6_feed_b32 E (f_X6_feed_b32 E n32) S v1 v2 v4 = some (rr, SS) := hf
      unfold g_X6_feed_b32 at hf
      have F : Fm ww_X6_feed S S := Fm.rf
      by_cases h : v1 ≤ v4
      · have hf := if_t h hf
        exact F.trans (w72 S hf)
      · have hf := if_f h hf
        obtain ⟨-, hf⟩ := ck_out hf
        obtain ⟨S2, e_S2, hf⟩ := lt_out hf
        have F := F.sI rfl e_S2
        obtain ⟨S3, e_S3, hf⟩ := lt_out hf
        have F := F.sI rfl e_S3
        obtain ⟨x4, e_x4, hf⟩ := lt_out hf
        exact F.trans (ih32 S3 v1 v2 x4 hf)
  unfold f_X6_feed at hf
  have F : Fm ww_X6_feed S S := Fm.rf
  by_cases h : a1 < (1 : Int32)
  · have hf := if_t h hf
    exact F.fin2 hf
  · have hf := if_f h hf
    by_cases h : a1 ≤ (8 : Int32)
    · have hf := if_t h hf
      by_cases h : ((gI S 2 0 6) + a1) ≤ (160 : Int32)
      · have hf := if_t h hf
        exact F.trans (w32 E.1 S a1 a2 (0 : Int32) hf)
      · have hf := if_f h hf
        exact F.fin2 hf
    · have hf := if_f h hf
      exact F.fin2 hf
def ww_X6_force : List (Nat × Nat) := [(2, 5)]
set_option maxRecDepth 100000 in
theorem fr_X6_force (E : EN) (S : ST) (a1 : Int32) (rr : Int32) (SS : ST) (hf : f_X6_force E S a1 = some (rr, SS)) : Fm ww_X6_force S SS := by
  unfold f_X6_force at hf
  have F : Fm ww_X6_force S S := Fm.rf
  by_cases h : a1 < 0
  · have hf := if_t h hf
    exact F.fin2 hf
  · have hf := if_f h hf
    by_cases h : a1 < (gI S 2 0 3)
    · have hf := if_t h hf
      obtain ⟨x1, e_x1, hf⟩ := lt_out hf
      obtain ⟨S2, e_S2, hf⟩ := lt_out hf
      have F := F.sI rfl e_S2
      exact F.fin2 hf
    · have hf := if_f h hf
      exact F.fin2 hf
def ww_X6_says : List (Nat × Nat) := [(10, 1), (10, 2), (10, 3), (11, 0), (12, 0), (13, 0)]
set_option maxRecDepth 100000 in
theorem fr_X6_says (E : EN) (S : ST) (a1 : Int32) (a2 : Int32) (a3 : Int32) (rr : Int32) (SS : ST) (hf : f_X6_says E S a1 a2 a3 = some (rr, SS)) : Fm ww_X6_says S SS := by
  unfold f_X6_says at hf
  have F : Fm ww_X6_says S S := Fm.rf
  by_cases h : a1 < 0
  · have hf := if_t h hf
    exact F.fin2 hf
  · have hf := if_f h hf
    by_cases h : a2 < 0
    · have hf := if_t h hf
      exact F.fin2 hf
    · have hf := if_f h hf
      by_cases h : a3 < 0
      · have hf := if_t h hf
        exact F.fin2 hf
      · have hf := if_f h hf
        by_cases h : a3 < (3 : Int32)
        · have hf := if_t h hf
          obtain ⟨x1, e_x1, hf⟩ := lt_out hf
          obtain ⟨x2, e_x2, hf⟩ := lt_out hf
          obtain ⟨x3, e_x3, hf⟩ := lt_out hf
          by_cases h : (5 : Int32) ≤ x1
          · have hf := if_t h hf
            exact F.fin2 hf
          · have hf := if_f h hf
            by_cases h : (5 : Int32) ≤ x2
            · have hf := if_t h hf
              exact F.fin2 hf
            · have hf := if_f h hf
              by_cases h : (5 : Int32) < x3
              · have hf := if_t h hf
                exact F.fin2 hf
              · have hf := if_f h hf
                by_cases h : (4 : Int32) ≤ (a2 / (10 : Int32))
                · have hf := if_t h hf
                  exact F.fin2 hf
                · have hf := if_f h hf
                  by_cases h : (rmI a2 (10 : Int32)) ≤ (5 : Int32)
                  · have hf := if_t h hf
                    obtain ⟨-, hf⟩ := ck_out hf
                    obtain ⟨o5, e_o5, hf⟩ := lt_out hf
                    skip
                    rcases o5 with _ | k6
                    · have hf := nl_n hf
                      exact absurd hf (by intro h; cases h)
                    · have hf := nl_s hf
                      obtain ⟨-, hf⟩ := ck_out hf
                      obtain ⟨S8, hc, hf⟩ := bd_out hf
                      have F := F.tr (fr_X0_rely E S k6 (gI S 2 0 4) (a2 / (10 : Int32)) S8 hc) rfl
                      obtain ⟨r9, S10, hc, hf⟩ := bd2_out hf
                      have F := F.tr (fr_X0_asks E S8 a3 x1 x2 x3 (rmI a2 (10 : Int32)) r9 S10 hc) rfl
                      exact F.fin2 hf
                  · have hf := if_f h hf
                    exact F.fin2 hf
        · have hf := if_f h hf
          exact F.fin2 hf
def ww_X6_start : List (Nat × Nat) := [(10, 1), (10, 2), (10, 3), (11, 0), (16, 5), (16, 6), (16, 7), (18, 0), (19, 0), (28, 0)]
set_option maxRecDepth 100000 in
theorem fr_X6_start (E : EN) (S : ST) (a1 : Nat) (a2 : Int32) (a3 : Int32) (a4 : Int32) (SS : ST) (hf : f_X6_start E S a1 a2 a3 a4 = some SS) : Fm ww_X6_start S SS := by
  unfold f_X6_start at hf
  have F : Fm ww_X6_start S S := Fm.rf
  obtain ⟨-, hf⟩ := ck_out hf
  obtain ⟨o2, e_o2, hf⟩ := lt_out hf
  skip
  rcases o2 with _ | k3
  · have hf := nl_n hf
    exact absurd hf (by intro h; cases h)
  · have hf := nl_s hf
    obtain ⟨-, hf⟩ := ck_out hf
    obtain ⟨S5, hc, hf⟩ := bd_out hf
    have F := F.tr (fr_X0_rely E S k3 (gI S 2 0 4) (gI S 20 a1 1) S5 hc) rfl
    obtain ⟨S6, hc, hf⟩ := bd_out hf
    have F := F.tr (fr_X1_begin E S5 a1 a4 a2 a3 S6 hc) rfl
    exact F.fin1 hf
def ww_X6_follow : List (Nat × Nat) := [(10, 1), (10, 2), (10, 3), (11, 0), (12, 0), (13, 0), (16, 5), (16, 6), (16, 7), (18, 0), (19, 0), (28, 0)]
set_option maxRecDepth 100000 in
theorem fr_X6_follow (E : EN) (S : ST) (a1 : Nat) (a2 : Int32) (SS : ST) (hf : f_X6_follow E S a1 a2 = some SS) : Fm ww_X6_follow S SS := by
  unfold f_X6_follow at hf
  have F : Fm ww_X6_follow S S := Fm.rf
  obtain ⟨S1, hc, hf⟩ := bd_out hf
  have F := F.tr (fr_X6_start E S a1 (gI S 20 a1 0) (gI S 20 a1 2) (gI S 20 a1 3) S1 hc) rfl
  obtain ⟨S2, hc, hf⟩ := bd_out hf
  have F := F.tr (fr_X1_follow E S1 (a2 / (100 : Int32)) (rmI a2 (100 : Int32)) S2 hc) rfl
  exact F.fin1 hf
def ww_X6_thought : List (Nat × Nat) := [(10, 1), (10, 2), (10, 3), (11, 0), (12, 0), (13, 0), (16, 5), (16, 6), (16, 7), (18, 0), (19, 0), (28, 0)]
set_option maxRecDepth 100000 in
theorem fr_X6_thought (E : EN) (S : ST) (a1 : Int32) (a2 : Int32) (a3 : Int32) (a4 : Int32) (rr : Int64) (SS : ST) (hf : f_X6_thought E S a1 a2 a3 a4 = some (rr, SS)) : Fm ww_X6_thought S SS := by
  unfold f_X6_thought at hf
  have F : Fm ww_X6_thought S S := Fm.rf
  obtain ⟨r1, hc, hf⟩ := bd_out hf
  rcases r1 with _ | k2
  · have hf := nl_n hf
    exact F.fin2 hf
  · have hf := nl_s hf
    obtain ⟨-, hf⟩ := ck_out hf
    obtain ⟨r4, hc, hf⟩ := bd_out hf
    by_cases h : r4 = 0
    · have hf := if_t h hf
      exact F.fin2 hf
    · have hf := if_f h hf
      by_cases h : a3 < 0
      · have hf := if_t h hf
        exact F.fin2 hf
      · have hf := if_f h hf
        by_cases h : (5 : Int32) ≤ a3
        · have hf := if_t h hf
          exact F.fin2 hf
        · have hf := if_f h hf
          obtain ⟨r5, hc, hf⟩ := bd_out hf
          by_cases h : r5 = 0
          · have hf := if_t h hf
            exact F.fin2 hf
          · have hf := if_f h hf
            obtain ⟨S6, hc, hf⟩ := bd_out hf
            have F := F.tr (fr_X6_follow E S k2 a2 S6 hc) rfl
            obtain ⟨x7, e_x7, hf⟩ := lt_out hf
            obtain ⟨r8, hc, hf⟩ := bd_out hf
            rcases r8 with _ | k9
            · have hf := nl_n hf
              exact absurd hf (by intro h; cases h)
            · have hf := nl_s hf
              obtain ⟨-, hf⟩ := ck_out hf
              obtain ⟨-, hf⟩ := ck_out hf
              obtain ⟨r12, hc, hf⟩ := bd_out hf
              obtain ⟨r13, hc, hf⟩ := bd_out hf
              exact F.fin2 hf
def ww_X6_moves : List (Nat × Nat) := [(10, 1), (10, 2), (10, 3), (11, 0), (12, 0), (13, 0), (16, 5), (16, 6), (16, 7), (18, 0), (19, 0), (28, 0)]
set_option maxRecDepth 100000 in
theorem fr_X6_moves (E : EN) (S : ST) (a1 : Int32) (a2 : Int32) (a3 : Int32) (rr : Int32) (SS : ST) (hf : f_X6_moves E S a1 a2 a3 = some (rr, SS)) : Fm ww_X6_moves S SS := by
  unfold f_X6_moves at hf
  have F : Fm ww_X6_moves S S := Fm.rf
  obtain ⟨r1, hc, hf⟩ := bd_out hf
  rcases r1 with _ | k2
  · have hf := nl_n hf
    exact F.fin2 hf
  · have hf := nl_s hf
    obtain ⟨-, hf⟩ := ck_out hf
    obtain ⟨r4, hc, hf⟩ := bd_out hf
    by_cases h : r4 = 0
    · have hf := if_t h hf
      exact F.fin2 hf
    · have hf := if_f h hf
      by_cases h : a3 < 0
      · have hf := if_t h hf
        exact F.fin2 hf
      · have hf := if_f h hf
        by_cases h : a3 ≤ (2 : Int32)
        · have hf := if_t h hf
          obtain ⟨S5, hc, hf⟩ := bd_out hf
          have F := F.tr (fr_X6_follow E S k2 a2 S5 hc) rfl
          obtain ⟨x6, e_x6, hf⟩ := lt_out hf
          by_cases h : a3 = 0
          · have hf := if_t h hf
            obtain ⟨r9, hc, hf⟩ := bd_out hf
            exact F.fin2 hf
          · have hf := if_f h hf
            by_cases h : a3 = (1 : Int32)
            · have hf := if_t h hf
              obtain ⟨r8, hc, hf⟩ := bd_out hf
              exact F.fin2 hf
            · have hf := if_f h hf
              obtain ⟨r7, hc, hf⟩ := bd_out hf
              exact F.fin2 hf
        · have hf := if_f h hf
          exact F.fin2 hf
def ww_X6_likely : List (Nat × Nat) := [(10, 1), (10, 2), (10, 3), (11, 0), (12, 0), (13, 0), (16, 5), (16, 6), (16, 7), (18, 0), (19, 0), (28, 0)]
set_option maxRecDepth 100000 in
theorem fr_X6_likely (E : EN) (S : ST) (a1 : Int32) (a2 : Int32) (a3 : Int32) (rr : Int64) (SS : ST) (hf : f_X6_likely E S a1 a2 a3 = some (rr, SS)) : Fm ww_X6_likely S SS := by
  unfold f_X6_likely at hf
  have F : Fm ww_X6_likely S S := Fm.rf
  obtain ⟨r1, hc, hf⟩ := bd_out hf
  rcases r1 with _ | k2
  · have hf := nl_n hf
    exact F.fin2 hf
  · have hf := nl_s hf
    obtain ⟨-, hf⟩ := ck_out hf
    obtain ⟨r4, hc, hf⟩ := bd_out hf
    by_cases h : r4 = 0
    · have hf := if_t h hf
      exact F.fin2 hf
    · have hf := if_f h hf
      by_cases h : a3 < 0
      · have hf := if_t h hf
        exact F.fin2 hf
      · have hf := if_f h hf
        by_cases h : a3 ≤ (3 : Int32)
        · have hf := if_t h hf
          obtain ⟨S5, hc, hf⟩ := bd_out hf
          have F := F.tr (fr_X6_follow E S k2 a2 S5 hc) rfl
          obtain ⟨x6, e_x6, hf⟩ := lt_out hf
          by_cases h : (2 : Int32) ≤ a3
          · have hf := if_t h hf
            obtain ⟨r7, hc, hf⟩ := bd_out hf
            obtain ⟨r8, hc, hf⟩ := bd_out hf
            obtain ⟨r9, hc, hf⟩ := bd_out hf
            exact F.fin2 hf
          · have hf := if_f h hf
            obtain ⟨r10, hc, hf⟩ := bd_out hf
            obtain ⟨r11, hc, hf⟩ := bd_out hf
            obtain ⟨r12, hc, hf⟩ := bd_out hf
            obtain ⟨r13, hc, hf⟩ := bd_out hf
            exact F.fin2 hf
        · have hf := if_f h hf
          exact F.fin2 hf
def ww_X6_mean : List (Nat × Nat) := [(10, 1), (10, 2), (10, 3), (11, 0), (12, 0), (13, 0), (16, 5), (16, 6), (16, 7), (18, 0), (19, 0), (28, 0)]
set_option maxRecDepth 100000 in
theorem fr_X6_mean (E : EN) (S : ST) (a1 : Int32) (a2 : Int32) (rr : Int64) (SS : ST) (hf : f_X6_mean E S a1 a2 = some (rr, SS)) : Fm ww_X6_mean S SS := by
  have w130 : ∀ (S : ST) (v2 : Int32) (v3 : Nat) (v4 : Int64), f_X6_mean_b130 E S v2 v3 v4 = some (rr, SS) → Fm ww_X6_mean S SS := by
    intro S v2 v3 v4 hf
    unfold f_X6_mean_b130 at hf
    have F : Fm ww_X6_mean S S := Fm.rf
    obtain ⟨r1, hc, hf⟩ := bd_out hf
    obtain ⟨r2, hc, hf⟩ := bd_out hf
    obtain ⟨r3, hc, hf⟩ := bd_out hf
    exact F.fin2 hf
  unfold f_X6_mean at hf
  have F : Fm ww_X6_mean S S := Fm.rf
  obtain ⟨r4, hc, hf⟩ := bd_out hf
  rcases r4 with _ | k5
  · have hf := nl_n hf
    exact F.fin2 hf
  · have hf := nl_s hf
    obtain ⟨-, hf⟩ := ck_out hf
    by_cases h : a2 < 0
    · have hf := if_t h hf
      exact F.fin2 hf
    · have hf := if_f h hf
      by_cases h : a2 ≤ (7 : Int32)
      · have hf := if_t h hf
        obtain ⟨S7, hc, hf⟩ := bd_out hf
        have F := F.tr (fr_X6_start E S k5 (gI S 20 k5 0) (gI S 20 k5 2) (gI S 20 k5 3) S7 hc) rfl
        obtain ⟨x8, e_x8, hf⟩ := lt_out hf
        by_cases hn0 : x8 = (0 : Int32)
        · have hf := if_t hn0 hf
          obtain ⟨r9, S10, hc, hf⟩ := bd2_out hf
          have F := F.tr (fr_X1_ends E 7 S7 (0 : Int32) r9 S10 hc) rfl
          exact F.trans (w130 S10 a2 k5 r9 hf)
        · have hf := if_f hn0 hf
          by_cases hn1 : x8 = (1 : Int32)
          · have hf := if_t hn1 hf
            obtain ⟨r11, S12, hc, hf⟩ := bd2_out hf
            have F := F.tr (fr_X1_rights E 7 S7 (0 : Int32) r11 S12 hc) rfl
            exact F.trans (w130 S12 a2 k5 r11 hf)
          · have hf := if_f hn1 hf
            by_cases hn2 : x8 = (2 : Int32)
            · have hf := if_t hn2 hf
              obtain ⟨r13, S14, hc, hf⟩ := bd2_out hf
              have F := F.tr (fr_X1_best E 13 S7 (0 : Int32) r13 S14 hc) rfl
              exact F.trans (w130 S14 a2 k5 r13 hf)
            · have hf := if_f hn2 hf
              obtain ⟨r15, S16, hc, hf⟩ := bd2_out hf
              have F := F.tr (fr_X1_best E 13 S7 (0 : Int32) r15 S16 hc) rfl
              obtain ⟨r17, S18, hc, hf⟩ := bd2_out hf
              have F := F.tr (fr_X1_ends E 7 S16 (0 : Int32) r17 S18 hc) rfl
              obtain ⟨x19, e_x19, hf⟩ := lt_out hf
              exact F.trans (w130 S18 a2 k5 x19 hf)
      · have hf := if_f h hf
        exact F.fin2 hf
def ww_X6_endsBy : List (Nat × Nat) := [(10, 1), (10, 2), (10, 3), (11, 0), (12, 0), (13, 0), (16, 5), (16, 6), (16, 7), (18, 0), (19, 0), (28, 0)]
set_option maxRecDepth 100000 in
theorem fr_X6_endsBy (E : EN) (S : ST) (a1 : Nat) (a2 : Int32) (a3 : Int32) (a4 : Int32) (rr : Int64) (SS : ST) (hf : f_X6_endsBy E S a1 a2 a3 a4 = some (rr, SS)) : Fm ww_X6_endsBy S SS := by
  unfold f_X6_endsBy at hf
  have F : Fm ww_X6_endsBy S S := Fm.rf
  obtain ⟨S1, hc, hf⟩ := bd_out hf
  have F := F.tr (fr_X6_start E S a1 a2 a3 a4 S1 hc) rfl
  obtain ⟨r2, S3, hc, hf⟩ := bd2_out hf
  have F := F.tr (fr_X1_ends E 7 S1 (0 : Int32) r2 S3 hc) rfl
  exact F.fin2 hf
def ww_X6_off : List (Nat × Nat) := [(10, 1), (10, 2), (10, 3), (11, 0), (12, 0), (13, 0), (16, 5), (16, 6), (16, 7), (18, 0), (19, 0), (28, 0)]
set_option maxRecDepth 100000 in
theorem fr_X6_off (E : EN) (S : ST) (a1 : Int32) (a2 : Int32) (a3 : Int32) (rr : Int64) (SS : ST) (hf : f_X6_off E S a1 a2 a3 = some (rr, SS)) : Fm ww_X6_off S SS := by
  have w22 : ∀ (S : ST) (v2 : Int32) (v3 : Int32) (v4 : Nat), f_X6_off_b22 E S v2 v3 v4 = some (rr, SS) → Fm ww_X6_off S SS := by
    intro S v2 v3 v4 hf
    unfold f_X6_off_b22 at hf
    have F : Fm ww_X6_off S S := Fm.rf
    obtain ⟨r1, hc, hf⟩ := bd_out hf
    by_cases h : r1 = 0
    · have hf := if_t h hf
      exact F.fin2 hf
    · have hf := if_f h hf
      obtain ⟨r2, S3, hc, hf⟩ := bd2_out hf
      have F := F.tr (fr_X6_endsBy E S v4 (gI S 20 v4 0) (gI S 20 v4 2) (gI S 20 v4 3) r2 S3 hc) rfl
      obtain ⟨r4, hc, hf⟩ := bd_out hf
      obtain ⟨r5, S6, hc, hf⟩ := bd2_out hf
      have F := F.tr (fr_X6_endsBy E S3 v4 (gI S3 20 v4 0) (gI S3 20 v4 2) r4 r5 S6 hc) rfl
      obtain ⟨r7, hc, hf⟩ := bd_out hf
      obtain ⟨r8, hc, hf⟩ := bd_out hf
      obtain ⟨r9, hc, hf⟩ := bd_out hf
      exact F.fin2 hf
  unfold f_X6_off at hf
  have F : Fm ww_X6_off S S := Fm.rf
  obtain ⟨r10, hc, hf⟩ := bd_out hf
  rcases r10 with _ | k11
  · have hf := nl_n hf
    exact F.fin2 hf
  · have hf := nl_s hf
    obtain ⟨-, hf⟩ := ck_out hf
    by_cases h : a2 = (1 : Int32)
    · have hf := if_t h hf
      exact F.trans (w22 S a2 a3 k11 hf)
    · have hf := if_f h hf
      by_cases h : a2 = (-1 : Int32)
      · have hf := if_t h hf
        exact F.trans (w22 S a2 a3 k11 hf)
      · have hf := if_f h hf
        exact F.fin2 hf
def ww_X6_rule : List (Nat × Nat) := [(10, 1), (10, 2), (10, 3), (11, 0), (12, 0), (13, 0), (16, 5), (16, 6), (16, 7), (18, 0), (19, 0), (28, 0)]
set_option maxRecDepth 100000 in
theorem fr_X6_rule (E : EN) (S : ST) (a1 : Int32) (a2 : Int32) (rr : Int32) (SS : ST) (hf : f_X6_rule E S a1 a2 = some (rr, SS)) : Fm ww_X6_rule S SS := by
  have w46 : ∀ (n46 : Nat) (S : ST) (v2 : Int32) (v3 : Nat) (v4 : Int32) (v5 : Int32) (v6 : Int64) (v8 : Int32), f_X6_rule_b46 E n46 S v2 v3 v4 v5 v6 v8 = some (rr, SS) → Fm ww_X6_rule S SS := by
    intro n46
    induction n46 with
    | zero =>
      intro S v2 v3 v4 v5 v6 v8 hf
      exact absurd (show (none : Option (Int32 × ST)) = some (rr, SS) from hf) (fun h => by cases h)
    | succ n46 ih46 =>
      have w114 : ∀ (S : ST) (v2 : Int32) (v3 : Nat) (v4 : Int32) (v5 : Int32) (v6 : Int64) (v8 : Int32), f_X6_rule_b114 E (f_X6_rule_b46 E n46) S v2 v3 v4 v5 v6 v8 = some (rr, SS) → Fm ww_X6_rule S SS := by
        intro S v2 v3 v4 v5 v6 v8 hf
        unfold f_X6_rule_b114 at hf
        have F : Fm ww_X6_rule S S := Fm.rf
        obtain ⟨x1, e_x1, hf⟩ := lt_out hf
        exact F.trans (ih46 S v2 v3 v4 v5 v6 x1 hf)
      have w81 : ∀ (S : ST) (v2 : Int32) (v3 : Nat) (v4 : Int32) (v5 : Int32) (v6 : Int64) (v8 : Int32) (v9 : Int32) (t0 : Int32), f_X6_rule_b81 E (f_X6_rule_b46 E n46) S v2 v3 v4 v5 v6 v8 v9 t0 = some (rr, SS) → Fm ww_X6_rule S SS := by
        intro S v2 v3 v4 v5 v6 v8 v9 t0 hf
        unfold f_X6_rule_b81 at hf
        have F : Fm ww_X6_rule S S := Fm.rf
        obtain ⟨r2, S3, hc, hf⟩ := bd2_out hf
        have F := F.tr (fr_X6_endsBy E S v3 v9 t0 (gI S 20 v3 3) r2 S3 hc) rfl
        by_cases h : r2 ≤ v6
        · have hf := if_t h hf
          exact F.trans (w114 S3 v2 v3 v4 v5 v6 v8 hf)
        · have hf := if_f h hf
          exact F.trans (w114 S3 v2 v3 v4 v8 r2 v8 hf)
      have w66 : ∀ (S : ST) (v2 : Int32) (v3 : Nat) (v4 : Int32) (v5 : Int32) (v6 : Int64) (v8 : Int32) (t0 : Int32), f_X6_rule_b66 E (f_X6_rule_b46 E n46) S v2 v3 v4 v5 v6 v8 t0 = some (rr, SS) → Fm ww_X6_rule S SS := by
        intro S v2 v3 v4 v5 v6 v8 t0 hf
        unfold f_X6_rule_b66 at hf
        have F : Fm ww_X6_rule S S := Fm.rf
        by_cases h : v2 = 0
        · have hf := if_t h hf
          exact F.trans (w81 S v2 v3 v4 v5 v6 v8 t0 v8 hf)
        · have hf := if_f h hf
          exact F.trans (w81 S v2 v3 v4 v5 v6 v8 t0 (gI S 20 v3 2) hf)
      intro S v2 v3 v4 v5 v6 v8 hf
      have hf : g_X6_rule_b46 E (f_X6_rule_b46 E n46) S v2 v3 v4 v5 v6 v8 = some (rr, SS) := hf
      unfold g_X6_rule_b46 at hf
      have F : Fm ww_X6_rule S S := Fm.rf
      by_cases h : v4 ≤ v8
      · have hf := if_t h hf
        exact F.fin2 hf
      · have hf := if_f h hf
        by_cases h : v2 = 0
        · have hf := if_t h hf
          exact F.trans (w66 S v2 v3 v4 v5 v6 v8 (gI S 20 v3 0) hf)
        · have hf := if_f h hf
          exact F.trans (w66 S v2 v3 v4 v5 v6 v8 v8 hf)
  have w33 : ∀ (S : ST) (v2 : Int32) (v3 : Nat) (t0 : Int32), f_X6_rule_b33 E S v2 v3 t0 = some (rr, SS) → Fm ww_X6_rule S SS := by
    intro S v2 v3 t0 hf
    unfold f_X6_rule_b33 at hf
    have F : Fm ww_X6_rule S S := Fm.rf
    exact F.trans (w46 E.1 S v2 v3 t0 (0 : Int32) (-1 : Int64) (0 : Int32) hf)
  unfold f_X6_rule at hf
  have F : Fm ww_X6_rule S S := Fm.rf
  obtain ⟨r4, hc, hf⟩ := bd_out hf
  rcases r4 with _ | k5
  · have hf := nl_n hf
    exact F.fin2 hf
  · have hf := nl_s hf
    obtain ⟨-, hf⟩ := ck_out hf
    by_cases h : a2 < 0
    · have hf := if_t h hf
      exact F.fin2 hf
    · have hf := if_f h hf
      by_cases h : a2 ≤ (1 : Int32)
      · have hf := if_t h hf
        by_cases h : a2 = 0
        · have hf := if_t h hf
          exact F.trans (w33 S a2 k5 (10 : Int32) hf)
        · have hf := if_f h hf
          exact F.trans (w33 S a2 k5 (6 : Int32) hf)
      · have hf := if_f h hf
        exact F.fin2 hf
def ww_X6_room : List (Nat × Nat) := [(7, 0), (10, 1), (10, 2), (10, 3), (11, 0), (12, 0), (13, 0), (16, 5), (16, 6), (16, 7), (18, 0), (19, 0), (28, 0)]
set_option maxRecDepth 100000 in
theorem fr_X6_room (E : EN) (S : ST) (a1 : Int32) (a2 : Int32) (a3 : Int32) (rr : Int32) (SS : ST) (hf : f_X6_room E S a1 a2 a3 = some (rr, SS)) : Fm ww_X6_room S SS := by
  have w169 : ∀ (n169 : Nat) (S : ST) (v1 : Int32) (v2 : Int32) (v5 : Int32) (v6 : Int32), f_X6_room_b169 E n169 S v1 v2 v5 v6 = some (rr, SS) → Fm ww_X6_room S SS := by
    intro n169
    induction n169 with
    | zero =>
      intro S v1 v2 v5 v6 hf
      exact absurd (show (none : Option (Int32 × ST)) = some (rr, SS) from hf) (fun h => by cases h)
    | succ n169 ih169 =>
      intro S v1 v2 v5 v6 hf
      have hf : g_X6_room_b169 E (f_X6_room_b169 E n169) S v1 v2 v5 v6 = some (rr, SS) := hf
      unfold g_X6_room_b169 at hf
      have F : Fm ww_X6_room S S := Fm.rf
      by_cases h : v2 ≤ v6
      · have hf := if_t h hf
        exact F.fin2 hf
      · have hf := if_f h hf
        by_cases h : v5 = v1
        · have hf := if_t h hf
          exact F.fin2 hf
        · have hf := if_f h hf
          obtain ⟨r1, hc, hf⟩ := bd_out hf
          obtain ⟨x2, e_x2, hf⟩ := lt_out hf
          obtain ⟨x3, e_x3, hf⟩ := lt_out hf
          exact F.trans (ih169 S v1 v2 x2 x3 hf)
  have w163 : ∀ (S : ST) (v1 : Int32) (v2 : Int32), f_X6_room_b163 E S v1 v2 = some (rr, SS) → Fm ww_X6_room S SS := by
    intro S v1 v2 hf
    unfold f_X6_room_b163 at hf
    have F : Fm ww_X6_room S S := Fm.rf
    exact F.trans (w169 E.1 S v1 v2 (0 : Int32) (0 : Int32) hf)
  have w104 : ∀ (n104 : Nat) (S : ST) (v1 : Int32) (v2 : Int32) (v4 : Nat) (v5 : Int32), f_X6_room_b104 E n104 S v1 v2 v4 v5 = some (rr, SS) → Fm ww_X6_room S SS := by
    intro n104
    induction n104 with
    | zero =>
      intro S v1 v2 v4 v5 hf
      exact absurd (show (none : Option (Int32 × ST)) = some (rr, SS) from hf) (fun h => by cases h)
    | succ n104 ih104 =>
      intro S v1 v2 v4 v5 hf
      have hf : g_X6_room_b104 E (f_X6_room_b104 E n104) S v1 v2 v4 v5 = some (rr, SS) := hf
      unfold g_X6_room_b104 at hf
      have F : Fm ww_X6_room S S := Fm.rf
      by_cases h : (gI S 2 0 1) ≤ v5
      · have hf := if_t h hf
        exact F.trans (w163 S v1 v2 hf)
      · have hf := if_f h hf
        obtain ⟨-, hf⟩ := ck_out hf
        obtain ⟨o5, e_o5, hf⟩ := lt_out hf
        skip
        rcases o5 with _ | k6
        · have hf := nl_n hf
          obtain ⟨-, hf⟩ := ck_out hf
          exact absurd hf (by intro h; cases h)
        · have hf := nl_s hf
          obtain ⟨-, hf⟩ := ck_out hf
          obtain ⟨-, hf⟩ := ck_out hf
          obtain ⟨S10, hc, hf⟩ := bd_out hf
          have F := F.tr (fr_X6_follow E S k6 (gI S 25 v4 v5.toNatClampNeg) S10 hc) rfl
          obtain ⟨r11, hc, hf⟩ := bd_out hf
          obtain ⟨S12, e_S12, hf⟩ := lt_out hf
          have F := F.sL rfl e_S12
          obtain ⟨x13, e_x13, hf⟩ := lt_out hf
          exact F.trans (ih104 S12 v1 v2 v4 x13 hf)
  have w101 : ∀ (S : ST) (v1 : Int32) (v2 : Int32) (v4 : Nat), f_X6_room_b101 E S v1 v2 v4 = some (rr, SS) → Fm ww_X6_room S SS := by
    intro S v1 v2 v4 hf
    unfold f_X6_room_b101 at hf
    have F : Fm ww_X6_room S S := Fm.rf
    exact F.trans (w104 E.1 S v1 v2 v4 (0 : Int32) hf)
  have w69 : ∀ (n69 : Nat) (S : ST) (v1 : Int32) (v2 : Int32) (v4 : Nat) (v5 : Int32), f_X6_room_b69 E n69 S v1 v2 v4 v5 = some (rr, SS) → Fm ww_X6_room S SS := by
    intro n69
    induction n69 with
    | zero =>
      intro S v1 v2 v4 v5 hf
      exact absurd (show (none : Option (Int32 × ST)) = some (rr, SS) from hf) (fun h => by cases h)
    | succ n69 ih69 =>
      intro S v1 v2 v4 v5 hf
      have hf : g_X6_room_b69 E (f_X6_room_b69 E n69) S v1 v2 v4 v5 = some (rr, SS) := hf
      unfold g_X6_room_b69 at hf
      have F : Fm ww_X6_room S S := Fm.rf
      by_cases h : (gI S 2 0 1) ≤ v5
      · have hf := if_t h hf
        exact F.trans (w101 S v1 v2 v4 hf)
      · have hf := if_f h hf
        obtain ⟨-, hf⟩ := ck_out hf
        obtain ⟨r15, hc, hf⟩ := bd_out hf
        by_cases h : r15 = 0
        · have hf := if_t h hf
          exact F.fin2 hf
        · have hf := if_f h hf
          obtain ⟨x16, e_x16, hf⟩ := lt_out hf
          exact F.trans (ih69 S v1 v2 v4 x16 hf)
  unfold f_X6_room at hf
  have F : Fm ww_X6_room S S := Fm.rf
  obtain ⟨r17, hc, hf⟩ := bd_out hf
  rcases r17 with _ | k18
  · have hf := nl_n hf
    by_cases h : a1 < 0
    · have hf := if_t h hf
      exact F.fin2 hf
    · have hf := if_f h hf
      by_cases h : ((1 : Int32) <<< ((gI S 2 0 1) &&& 31)) ≤ a1
      · have hf := if_t h hf
        exact F.fin2 hf
      · have hf := if_f h hf
        by_cases h : a2 < 0
        · have hf := if_t h hf
          exact F.fin2 hf
        · have hf := if_f h hf
          by_cases h : (8 : Int32) < a2
          · have hf := if_t h hf
            exact F.fin2 hf
          · have hf := if_f h hf
            exact F.fin2 hf
  · have hf := nl_s hf
    obtain ⟨-, hf⟩ := ck_out hf
    by_cases h : a1 < 0
    · have hf := if_t h hf
      exact F.fin2 hf
    · have hf := if_f h hf
      by_cases h : ((1 : Int32) <<< ((gI S 2 0 1) &&& 31)) ≤ a1
      · have hf := if_t h hf
        exact F.fin2 hf
      · have hf := if_f h hf
        by_cases h : a2 < 0
        · have hf := if_t h hf
          exact F.fin2 hf
        · have hf := if_f h hf
          by_cases h : (8 : Int32) < a2
          · have hf := if_t h hf
            exact F.fin2 hf
          · have hf := if_f h hf
            by_cases h : (gI S 24 k18 0) = (-1 : Int32)
            · have hf := if_t h hf
              exact F.fin2 hf
            · have hf := if_f h hf
              by_cases h : (gI S 24 k18 1) = (gI S 2 0 1)
              · have hf := if_t h hf
                exact F.trans (w69 E.1 S a1 a2 k18 (0 : Int32) hf)
              · have hf := if_f h hf
                exact F.fin2 hf
def ww_X6_summer : List (Nat × Nat) := [(21, 0), (28, 0)]
set_option maxRecDepth 100000 in
theorem fr_X6_summer (E : EN) (S : ST) (a1 : Int32) (a2 : Int32) (rr : Int32) (SS : ST) (hf : f_X6_summer E S a1 a2 = some (rr, SS)) : Fm ww_X6_summer S SS := by
  have w112 : ∀ (S : ST) (v3 : Nat) (v4 : Nat), f_X6_summer_b112 E S v3 v4 = some (rr, SS) → Fm ww_X6_summer S SS := by
    intro S v3 v4 hf
    unfold f_X6_summer_b112 at hf
    have F : Fm ww_X6_summer S S := Fm.rf
    obtain ⟨r1, S2, hc, hf⟩ := bd2_out hf
    have F := F.tr (fr_X2_takes E v3 S v4 r1 S2 hc) rfl
    by_cases h : r1 = 0
    · have hf := if_t h hf
      exact F.fin2 hf
    · have hf := if_f h hf
      obtain ⟨r3, hc, hf⟩ := bd_out hf
      exact F.fin2 hf
  have w36 : ∀ (n36 : Nat) (S : ST) (v2 : Int32) (v3 : Nat) (v4 : Nat) (v5 : Int32), f_X6_summer_b36 E n36 S v2 v3 v4 v5 = some (rr, SS) → Fm ww_X6_summer S SS := by
    intro n36
    induction n36 with
    | zero =>
      intro S v2 v3 v4 v5 hf
      exact absurd (show (none : Option (Int32 × ST)) = some (rr, SS) from hf) (fun h => by cases h)
    | succ n36 ih36 =>
      have w82 : ∀ (S : ST) (v2 : Int32) (v3 : Nat) (v4 : Nat) (v5 : Int32) (v6 : Int64) (t0 : Int64), f_X6_summer_b82 E (f_X6_summer_b36 E n36) S v2 v3 v4 v5 v6 t0 = some (rr, SS) → Fm ww_X6_summer S SS := by
        intro S v2 v3 v4 v5 v6 t0 hf
        unfold f_X6_summer_b82 at hf
        have F : Fm ww_X6_summer S S := Fm.rf
        obtain ⟨-, hf⟩ := ck_out hf
        obtain ⟨S5, e_S5, hf⟩ := lt_out hf
        have F := F.sL rfl e_S5
        obtain ⟨x6, e_x6, hf⟩ := lt_out hf
        exact F.trans (ih36 S5 v2 v3 v4 x6 hf)
      have w58 : ∀ (S : ST) (v2 : Int32) (v3 : Nat) (v4 : Nat) (v5 : Int32) (t0 : Int64), f_X6_summer_b58 E (f_X6_summer_b36 E n36) S v2 v3 v4 v5 t0 = some (rr, SS) → Fm ww_X6_summer S SS := by
        intro S v2 v3 v4 v5 t0 hf
        unfold f_X6_summer_b58 at hf
        have F : Fm ww_X6_summer S S := Fm.rf
        by_cases h : (5 : Int32) ≤ (v5 + (1 : Int32))
        · have hf := if_t h hf
          exact F.trans (w82 S v2 v3 v4 v5 t0 (0 : Int64) hf)
        · have hf := if_f h hf
          obtain ⟨-, hf⟩ := ck_out hf
          exact F.trans (w82 S v2 v3 v4 v5 t0 ((gI S 21 v3 (v5 + (1 : Int32)).toNatClampNeg).toInt64) hf)
      intro S v2 v3 v4 v5 hf
      have hf : g_X6_summer_b36 E (f_X6_summer_b36 E n36) S v2 v3 v4 v5 = some (rr, SS) := hf
      unfold g_X6_summer_b36 at hf
      have F : Fm ww_X6_summer S S := Fm.rf
      by_cases h : (5 : Int32) ≤ v5
      · have hf := if_t h hf
        exact F.trans (w112 S v3 v4 hf)
      · have hf := if_f h hf
        by_cases h : v5 = 0
        · have hf := if_t h hf
          exact F.trans (w58 S v2 v3 v4 v5 (10 : Int64) hf)
        · have hf := if_f h hf
          exact F.trans (w58 S v2 v3 v4 v5 (((10 : Int32) - v2).toInt64) hf)
  unfold f_X6_summer at hf
  have F : Fm ww_X6_summer S S := Fm.rf
  obtain ⟨r8, hc, hf⟩ := bd_out hf
  rcases r8 with _ | k9
  · have hf := nl_n hf
    exact F.fin2 hf
  · have hf := nl_s hf
    obtain ⟨-, hf⟩ := ck_out hf
    by_cases h : a2 < 0
    · have hf := if_t h hf
      exact F.fin2 hf
    · have hf := if_f h hf
      by_cases h : a2 ≤ (9 : Int32)
      · have hf := if_t h hf
        obtain ⟨r11, hc, hf⟩ := bd_out hf
        rcases r11 with _ | k12
        · have hf := nl_n hf
          exact absurd hf (by intro h; cases h)
        · have hf := nl_s hf
          obtain ⟨-, hf⟩ := ck_out hf
          exact F.trans (w36 E.1 S a2 k9 k12 (0 : Int32) hf)
      · have hf := if_f h hf
        exact F.fin2 hf
def ww_X6_test : List (Nat × Nat) := [(10, 1), (10, 2), (10, 3), (11, 0), (12, 0), (13, 0), (16, 5), (16, 6), (16, 7), (18, 0), (19, 0), (20, 4), (21, 0), (28, 0)]
set_option maxRecDepth 100000 in
theorem fr_X6_test (E : EN) (S : ST) (a1 : Int32) (a2 : Int32) (rr : Int32) (SS : ST) (hf : f_X6_test E S a1 a2 = some (rr, SS)) : Fm ww_X6_test S SS := by
  unfold f_X6_test at hf
  have F : Fm ww_X6_test S S := Fm.rf
  obtain ⟨r1, hc, hf⟩ := bd_out hf
  rcases r1 with _ | k2
  · have hf := nl_n hf
    exact F.fin2 hf
  · have hf := nl_s hf
    obtain ⟨-, hf⟩ := ck_out hf
    obtain ⟨r4, hc, hf⟩ := bd_out hf
    by_cases h : r4 = 0
    · have hf := if_t h hf
      exact F.fin2 hf
    · have hf := if_f h hf
      obtain ⟨S5, hc, hf⟩ := bd_out hf
      have F := F.tr (fr_X6_follow E S k2 a2 S5 hc) rfl
      obtain ⟨x6, e_x6, hf⟩ := lt_out hf
      obtain ⟨r7, hc, hf⟩ := bd_out hf
      rcases r7 with _ | k8
      · have hf := nl_n hf
        exact absurd hf (by intro h; cases h)
      · have hf := nl_s hf
        obtain ⟨-, hf⟩ := ck_out hf
        obtain ⟨r10, S11, hc, hf⟩ := bd2_out hf
        have F := F.tr (fr_X2_takes E k2 S5 k8 r10 S11 hc) rfl
        by_cases h : r10 = 0
        · have hf := if_t h hf
          exact F.fin2 hf
        · have hf := if_f h hf
          obtain ⟨r12, hc, hf⟩ := bd_out hf
          obtain ⟨S13, e_S13, hf⟩ := lt_out hf
          have F := F.sI rfl e_S13
          exact F.fin2 hf
def ww_X6_image : List (Nat × Nat) := [(2, 13), (2, 14), (2, 15), (20, 6), (22, 0)]
set_option maxRecDepth 100000 in
theorem fr_X6_image (E : EN) (S : ST)  (rr : Int32) (SS : ST) (hf : f_X6_image E S = some (rr, SS)) : Fm ww_X6_image S SS := by
  have w25 : ∀ (S : ST) , f_X6_image_b25 E S  = some (rr, SS) → Fm ww_X6_image S SS := by
    intro S  hf
    unfold f_X6_image_b25 at hf
    have F : Fm ww_X6_image S S := Fm.rf
    obtain ⟨S1, e_S1, hf⟩ := lt_out hf
    have F := F.sI rfl e_S1
    obtain ⟨S2, e_S2, hf⟩ := lt_out hf
    have F := F.sI rfl e_S2
    obtain ⟨S3, e_S3, hf⟩ := lt_out hf
    have F := F.sI rfl e_S3
    exact F.fin2 hf
  have w2 : ∀ (n2 : Nat) (S : ST) (v1 : Int32), f_X6_image_b2 E n2 S v1 = some (rr, SS) → Fm ww_X6_image S SS := by
    intro n2
    induction n2 with
    | zero =>
      intro S v1 hf
      exact absurd (show (none : Option (Int32 × ST)) = some (rr, SS) from hf) (fun h => by cases h)
    | succ n2 ih2 =>
      intro S v1 hf
      have hf : g_X6_image_b2 E (f_X6_image_b2 E n2) S v1 = some (rr, SS) := hf
      unfold g_X6_image_b2 at hf
      have F : Fm ww_X6_image S S := Fm.rf
      by_cases h : (gI S 2 0 1) ≤ v1
      · have hf := if_t h hf
        exact F.trans (w25 S hf)
      · have hf := if_f h hf
        obtain ⟨-, hf⟩ := ck_out hf
        obtain ⟨o5, e_o5, hf⟩ := lt_out hf
        skip
        rcases o5 with _ | k6
        · have hf := nl_n hf
          exact absurd hf (by intro h; cases h)
        · have hf := nl_s hf
          obtain ⟨-, hf⟩ := ck_out hf
          obtain ⟨S8, hc, hf⟩ := bd_out hf
          have F := F.tr (fr_X2_keep E k6 S  S8 hc) rfl
          obtain ⟨x9, e_x9, hf⟩ := lt_out hf
          exact F.trans (ih2 S8 x9 hf)
  unfold f_X6_image at hf
  have F : Fm ww_X6_image S S := Fm.rf
  exact F.trans (w2 E.1 S (0 : Int32) hf)
def ww_X6_back : List (Nat × Nat) := [(2, 5), (20, 4), (21, 0)]
set_option maxRecDepth 100000 in
theorem fr_X6_back (E : EN) (S : ST)  (rr : Int32) (SS : ST) (hf : f_X6_back E S = some (rr, SS)) : Fm ww_X6_back S SS := by
  have w43 : ∀ (S : ST) , f_X6_back_b43 E S  = some (rr, SS) → Fm ww_X6_back S SS := by
    intro S  hf
    unfold f_X6_back_b43 at hf
    have F : Fm ww_X6_back S S := Fm.rf
    obtain ⟨S1, e_S1, hf⟩ := lt_out hf
    have F := F.sI rfl e_S1
    exact F.fin2 hf
  have w12 : ∀ (n12 : Nat) (S : ST) (v1 : Int32), f_X6_back_b12 E n12 S v1 = some (rr, SS) → Fm ww_X6_back S SS := by
    intro n12
    induction n12 with
    | zero =>
      intro S v1 hf
      exact absurd (show (none : Option (Int32 × ST)) = some (rr, SS) from hf) (fun h => by cases h)
    | succ n12 ih12 =>
      intro S v1 hf
      have hf : g_X6_back_b12 E (f_X6_back_b12 E n12) S v1 = some (rr, SS) := hf
      unfold g_X6_back_b12 at hf
      have F : Fm ww_X6_back S S := Fm.rf
      by_cases h : (gI S 2 0 13) ≤ v1
      · have hf := if_t h hf
        exact F.trans (w43 S hf)
      · have hf := if_f h hf
        by_cases h : (gI S 2 0 1) ≤ v1
        · have hf := if_t h hf
          exact F.trans (w43 S hf)
        · have hf := if_f h hf
          obtain ⟨-, hf⟩ := ck_out hf
          obtain ⟨o3, e_o3, hf⟩ := lt_out hf
          skip
          rcases o3 with _ | k4
          · have hf := nl_n hf
            exact absurd hf (by intro h; cases h)
          · have hf := nl_s hf
            obtain ⟨-, hf⟩ := ck_out hf
            obtain ⟨S6, hc, hf⟩ := bd_out hf
            have F := F.tr (fr_X2_lay E k4 S  S6 hc) rfl
            obtain ⟨x7, e_x7, hf⟩ := lt_out hf
            exact F.trans (ih12 S6 x7 hf)
  unfold f_X6_back at hf
  have F : Fm ww_X6_back S S := Fm.rf
  by_cases h : (gI S 2 0 12) = 0
  · have hf := if_t h hf
    exact F.fin2 hf
  · have hf := if_f h hf
    exact F.trans (w12 E.1 S (0 : Int32) hf)
def ww_X6_sheet : List (Nat × Nat) := [(24, 1), (24, 2), (25, 0)]
set_option maxRecDepth 100000 in
theorem fr_X6_sheet (E : EN) (S : ST) (a1 : Int32) (a2 : Int32) (a3 : Int32) (rr : Int32) (SS : ST) (hf : f_X6_sheet E S a1 a2 a3 = some (rr, SS)) : Fm ww_X6_sheet S SS := by
  have w35 : ∀ (S : ST) (v2 : Int32) (v4 : Nat) (t0 : Int32), f_X6_sheet_b35 E S v2 v4 t0 = some (rr, SS) → Fm ww_X6_sheet S SS := by
    intro S v2 v4 t0 hf
    unfold f_X6_sheet_b35 at hf
    have F : Fm ww_X6_sheet S S := Fm.rf
    by_cases h : t0 ≤ (40 : Int32)
    · have hf := if_t h hf
      by_cases h : 0 ≤ t0
      · have hf := if_t h hf
        obtain ⟨S1, hc, hf⟩ := bd_out hf
        have F := F.tr (fr_X4_becomes E v4 S v2 t0 S1 hc) rfl
        exact F.fin2 hf
      · have hf := if_f h hf
        exact F.fin2 hf
    · have hf := if_f h hf
      exact F.fin2 hf
  unfold f_X6_sheet at hf
  have F : Fm ww_X6_sheet S S := Fm.rf
  obtain ⟨r2, hc, hf⟩ := bd_out hf
  rcases r2 with _ | k3
  · have hf := nl_n hf
    exact F.fin2 hf
  · have hf := nl_s hf
    obtain ⟨-, hf⟩ := ck_out hf
    by_cases h : a2 < (-1 : Int32)
    · have hf := if_t h hf
      exact F.fin2 hf
    · have hf := if_f h hf
      by_cases h : a2 ≤ (2 : Int32)
      · have hf := if_t h hf
        by_cases h : a2 = (-1 : Int32)
        · have hf := if_t h hf
          exact F.trans (w35 S a2 k3 (0 : Int32) hf)
        · have hf := if_f h hf
          exact F.trans (w35 S a2 k3 a3 hf)
      · have hf := if_f h hf
        exact F.fin2 hf
def ww_X6_cell : List (Nat × Nat) := [(25, 0)]
set_option maxRecDepth 100000 in
theorem fr_X6_cell (E : EN) (S : ST) (a1 : Int32) (a2 : Int32) (a3 : Int32) (rr : Int32) (SS : ST) (hf : f_X6_cell E S a1 a2 a3 = some (rr, SS)) : Fm ww_X6_cell S SS := by
  unfold f_X6_cell at hf
  have F : Fm ww_X6_cell S S := Fm.rf
  obtain ⟨r1, hc, hf⟩ := bd_out hf
  rcases r1 with _ | k2
  · have hf := nl_n hf
    exact F.fin2 hf
  · have hf := nl_s hf
    obtain ⟨-, hf⟩ := ck_out hf
    by_cases h : (gI S 24 k2 0) = (-1 : Int32)
    · have hf := if_t h hf
      exact F.fin2 hf
    · have hf := if_f h hf
      by_cases h : a2 < 0
      · have hf := if_t h hf
        exact F.fin2 hf
      · have hf := if_f h hf
        by_cases h : a2 < (gI S 24 k2 1)
        · have hf := if_t h hf
          obtain ⟨r4, hc, hf⟩ := bd_out hf
          obtain ⟨-, hf⟩ := ck_out hf
          obtain ⟨S6, e_S6, hf⟩ := lt_out hf
          have F := F.sI rfl e_S6
          exact F.fin2 hf
        · have hf := if_f h hf
          exact F.fin2 hf
def ww_X6_copy : List (Nat × Nat) := [(25, 0)]
set_option maxRecDepth 100000 in
theorem fr_X6_copy (E : EN) (S : ST) (a1 : Int32) (a2 : Int32) (a3 : Int32) (a4 : Int32) (a5 : Int32) (rr : Int32) (SS : ST) (hf : f_X6_copy E S a1 a2 a3 a4 a5 = some (rr, SS)) : Fm ww_X6_copy S SS := by
  unfold f_X6_copy at hf
  have F : Fm ww_X6_copy S S := Fm.rf
  obtain ⟨r1, hc, hf⟩ := bd_out hf
  rcases r1 with _ | k2
  · have hf := nl_n hf
    obtain ⟨r4, hc, hf⟩ := bd_out hf
    rcases r4 with _ | k5
    · have hf := nl_n hf
      exact F.fin2 hf
    · have hf := nl_s hf
      obtain ⟨-, hf⟩ := ck_out hf
      exact F.fin2 hf
  · have hf := nl_s hf
    obtain ⟨-, hf⟩ := ck_out hf
    obtain ⟨r7, hc, hf⟩ := bd_out hf
    rcases r7 with _ | k8
    · have hf := nl_n hf
      exact F.fin2 hf
    · have hf := nl_s hf
      obtain ⟨-, hf⟩ := ck_out hf
      by_cases h : (gI S 24 k2 0) = (-1 : Int32)
      · have hf := if_t h hf
        exact F.fin2 hf
      · have hf := if_f h hf
        by_cases h : (gI S 24 k8 0) = (-1 : Int32)
        · have hf := if_t h hf
          exact F.fin2 hf
        · have hf := if_f h hf
          by_cases h : (gI S 24 k2 0) = (gI S 24 k8 0)
          · have hf := if_t h hf
            by_cases h : a5 < 0
            · have hf := if_t h hf
              exact F.fin2 hf
            · have hf := if_f h hf
              by_cases h : a2 < 0
              · have hf := if_t h hf
                exact F.fin2 hf
              · have hf := if_f h hf
                by_cases h : a4 < 0
                · have hf := if_t h hf
                  exact F.fin2 hf
                · have hf := if_f h hf
                  by_cases h : ((gI S 24 k2 1) - a5) < a2
                  · have hf := if_t h hf
                    exact F.fin2 hf
                  · have hf := if_f h hf
                    by_cases h : a4 ≤ ((gI S 24 k8 1) - a5)
                    · have hf := if_t h hf
                      obtain ⟨-, hf⟩ := ck_out hf
                      obtain ⟨-, hf⟩ := ck_out hf
                      obtain ⟨-, hf⟩ := ck_out hf
                      obtain ⟨-, hf⟩ := ck_out hf
                      obtain ⟨-, hf⟩ := ck_out hf
                      obtain ⟨S15, e_S15, hf⟩ := lt_out hf
                      have F := F.aI rfl e_S15
                      exact F.fin2 hf
                    · have hf := if_f h hf
                      exact F.fin2 hf
          · have hf := if_f h hf
            exact F.fin2 hf
def ww_X7_comes : List (Nat × Nat) := [(1, 1), (41, 0), (42, 0), (43, 0), (44, 0), (45, 0)]
set_option maxRecDepth 100000 in
theorem fr_X7_comes (E : EN) (S : ST) (a1 : Int32) (a2 : Int32) (SS : ST) (hf : f_X7_comes E S a1 a2 = some SS) : Fm ww_X7_comes S SS := by
  have w87 : ∀ (S : ST) , f_X7_comes_b87 E S  = some SS → Fm ww_X7_comes S SS := by
    intro S  hf
    unfold f_X7_comes_b87 at hf
    have F : Fm ww_X7_comes S S := Fm.rf
    obtain ⟨S1, e_S1, hf⟩ := lt_out hf
    have F := F.sI rfl e_S1
    exact F.fin1 hf
  have w54 : ∀ (n54 : Nat) (S : ST) (v3 : Int32), f_X7_comes_b54 E n54 S v3 = some SS → Fm ww_X7_comes S SS := by
    intro n54
    induction n54 with
    | zero =>
      intro S v3 hf
      exact absurd (show (none : Option ST) = some SS from hf) (fun h => by cases h)
    | succ n54 ih54 =>
      have w80 : ∀ (S : ST) (v3 : Int32) (t0 : Int32) (t1 : Int32), f_X7_comes_b80 E (f_X7_comes_b54 E n54) S v3 t0 t1 = some SS → Fm ww_X7_comes S SS := by
        intro S v3 t0 t1 hf
        unfold f_X7_comes_b80 at hf
        have F : Fm ww_X7_comes S S := Fm.rf
        obtain ⟨-, hf⟩ := ck_out hf
        obtain ⟨S3, e_S3, hf⟩ := lt_out hf
        have F := F.sI rfl e_S3
        obtain ⟨x4, e_x4, hf⟩ := lt_out hf
        exact F.trans (ih54 S3 x4 hf)
      intro S v3 hf
      have hf : g_X7_comes_b54 E (f_X7_comes_b54 E n54) S v3 = some SS := hf
      unfold g_X7_comes_b54 at hf
      have F : Fm ww_X7_comes S S := Fm.rf
      by_cases h : (5 : Int32) ≤ v3
      · have hf := if_t h hf
        exact F.trans (w87 S hf)
      · have hf := if_f h hf
        by_cases h : v3 = 0
        · have hf := if_t h hf
          exact F.trans (w80 S v3 (1 : Int32) (((5 : Int32) * (gI S 1 0 0)) + v3) hf)
        · have hf := if_f h hf
          exact F.trans (w80 S v3 (0 : Int32) (((5 : Int32) * (gI S 1 0 0)) + v3) hf)
  unfold f_X7_comes at hf
  have F : Fm ww_X7_comes S S := Fm.rf
  obtain ⟨-, hf⟩ := ck_out hf
  obtain ⟨S6, e_S6, hf⟩ := lt_out hf
  have F := F.sI rfl e_S6
  obtain ⟨-, hf⟩ := ck_out hf
  obtain ⟨S8, e_S8, hf⟩ := lt_out hf
  have F := F.sI rfl e_S8
  obtain ⟨-, hf⟩ := ck_out hf
  obtain ⟨S10, e_S10, hf⟩ := lt_out hf
  have F := F.sI rfl e_S10
  obtain ⟨-, hf⟩ := ck_out hf
  obtain ⟨S12, e_S12, hf⟩ := lt_out hf
  have F := F.sI rfl e_S12
  exact F.trans (w54 E.1 S12 (0 : Int32) hf)
def ww_X7_pupil : List (Nat × Nat) := [(1, 1), (41, 0), (42, 0), (43, 0), (44, 0), (45, 0)]
set_option maxRecDepth 100000 in
theorem fr_X7_pupil (E : EN) (S : ST) (a1 : Int32) (a2 : Int32) (rr : Int32) (SS : ST) (hf : f_X7_pupil E S a1 a2 = some (rr, SS)) : Fm ww_X7_pupil S SS := by
  unfold f_X7_pupil at hf
  have F : Fm ww_X7_pupil S S := Fm.rf
  obtain ⟨r1, hc, hf⟩ := bd_out hf
  by_cases h : r1 = 0
  · have hf := if_t h hf
    exact F.fin2 hf
  · have hf := if_f h hf
    by_cases h : (gI S 1 0 0) = (8 : Int32)
    · have hf := if_t h hf
      exact F.fin2 hf
    · have hf := if_f h hf
      obtain ⟨S2, hc, hf⟩ := bd_out hf
      have F := F.tr (fr_X7_comes E S a1 a2 S2 hc) rfl
      exact F.fin2 hf
def ww_X7_weigh : List (Nat × Nat) := [(45, 0)]
set_option maxRecDepth 100000 in
theorem fr_X7_weigh (E : EN) (S : ST) (a1 : Int32) (a2 : Int32) (rr : Int32) (SS : ST) (hf : f_X7_weigh E S a1 a2 = some (rr, SS)) : Fm ww_X7_weigh S SS := by
  have w34 : ∀ (n34 : Nat) (S : ST) (v1 : Int32) (v3 : Int32) (v4 : Int32) (v5 : Int32), f_X7_weigh_b34 E n34 S v1 v3 v4 v5 = some (rr, SS) → Fm ww_X7_weigh S SS := by
    intro n34
    induction n34 with
    | zero =>
      intro S v1 v3 v4 v5 hf
      exact absurd (show (none : Option (Int32 × ST)) = some (rr, SS) from hf) (fun h => by cases h)
    | succ n34 ih34 =>
      intro S v1 v3 v4 v5 hf
      have hf : g_X7_weigh_b34 E (f_X7_weigh_b34 E n34) S v1 v3 v4 v5 = some (rr, SS) := hf
      unfold g_X7_weigh_b34 at hf
      have F : Fm ww_X7_weigh S S := Fm.rf
      by_cases h : (5 : Int32) ≤ v5
      · have hf := if_t h hf
        exact F.fin2 hf
      · have hf := if_f h hf
        obtain ⟨-, hf⟩ := ck_out hf
        obtain ⟨S2, e_S2, hf⟩ := lt_out hf
        have F := F.sI rfl e_S2
        obtain ⟨x3, e_x3, hf⟩ := lt_out hf
        obtain ⟨x4, e_x4, hf⟩ := lt_out hf
        exact F.trans (ih34 S2 v1 v3 x3 x4 hf)
  unfold f_X7_weigh at hf
  have F : Fm ww_X7_weigh S S := Fm.rf
  obtain ⟨r5, hc, hf⟩ := bd_out hf
  by_cases h : r5 = 0
  · have hf := if_t h hf
    exact F.fin2 hf
  · have hf := if_f h hf
    obtain ⟨r6, hc, hf⟩ := bd_out hf
    by_cases h : r6 = 0
    · have hf := if_t h hf
      exact F.fin2 hf
    · have hf := if_f h hf
      obtain ⟨r7, hc, hf⟩ := bd_out hf
      exact F.trans (w34 E.1 S a1 r7 a2 (0 : Int32) hf)
def ww_X7_feed : List (Nat × Nat) := [(1, 9), (56, 0)]
set_option maxRecDepth 100000 in
theorem fr_X7_feed (E : EN) (S : ST) (a1 : Int32) (a2 : Int64) (rr : Int32) (SS : ST) (hf : f_X7_feed E S a1 a2 = some (rr, SS)) : Fm ww_X7_feed S SS := by
  have w75 : ∀ (S : ST) , f_X7_feed_b75 E S  = some (rr, SS) → Fm ww_X7_feed S SS := by
    intro S  hf
    unfold f_X7_feed_b75 at hf
    have F : Fm ww_X7_feed S S := Fm.rf
    exact F.fin2 hf
  have w32 : ∀ (n32 : Nat) (S : ST) (v1 : Int32) (v2 : Int64) (v4 : Int32), f_X7_feed_b32 E n32 S v1 v2 v4 = some (rr, SS) → Fm ww_X7_feed S SS := by
    intro n32
    induction n32 with
    | zero =>
      intro S v1 v2 v4 hf
      exact absurd (show (none : Option (Int32 × ST)) = some (rr, SS) from hf) (fun h => by cases h)
    | succ n32 ih32 =>
      intro S v1 v2 v4 hf
      have hf : g_X7_feed_b32 E (f_X7_feed_b32 E n32) S v1 v2 v4 = some (rr, SS) := hf
      unfold g_X7_feed_b32 at hf
      have F : Fm ww_X7_feed S S := Fm.rf
      by_cases h : v1 ≤ v4
      · have hf := if_t h hf
        exact F.trans (w75 S hf)
      · have hf := if_f h hf
        obtain ⟨-, hf⟩ := ck_out hf
        obtain ⟨S2, e_S2, hf⟩ := lt_out hf
        have F := F.sI rfl e_S2
        obtain ⟨S3, e_S3, hf⟩ := lt_out hf
        have F := F.sI rfl e_S3
        obtain ⟨x4, e_x4, hf⟩ := lt_out hf
        exact F.trans (ih32 S3 v1 v2 x4 hf)
  unfold f_X7_feed at hf
  have F : Fm ww_X7_feed S S := Fm.rf
  obtain ⟨r5, hc, hf⟩ := bd_out hf
  by_cases h : r5 = 0
  · have hf := if_t h hf
    exact F.fin2 hf
  · have hf := if_f h hf
    by_cases h : ((gI S 1 0 8) + a1) ≤ (160 : Int32)
    · have hf := if_t h hf
      exact F.trans (w32 E.1 S a1 a2 (0 : Int32) hf)
    · have hf := if_f h hf
      exact F.fin2 hf
def ww_X7_look : List (Nat × Nat) := [(1, 10), (1, 11), (1, 12), (1, 13)]
set_option maxRecDepth 100000 in
theorem fr_X7_look (E : EN) (S : ST)  (SS : ST) (hf : f_X7_look E S = some SS) : Fm ww_X7_look S SS := by
  have w379 : ∀ (S : ST) (t0 : Int32), f_X7_look_b379 E S t0 = some SS → Fm ww_X7_look S SS := by
    intro S t0 hf
    unfold f_X7_look_b379 at hf
    have F : Fm ww_X7_look S S := Fm.rf
    obtain ⟨S2, e_S2, hf⟩ := lt_out hf
    have F := F.sI rfl e_S2
    exact F.fin1 hf
  have w365 : ∀ (S : ST) (v1 : Int32), f_X7_look_b365 E S v1 = some SS → Fm ww_X7_look S SS := by
    intro S v1 hf
    unfold f_X7_look_b365 at hf
    have F : Fm ww_X7_look S S := Fm.rf
    exact F.trans (w379 S v1 hf)
  have w310 : ∀ (S : ST) (t0 : Int32), f_X7_look_b310 E S t0 = some SS → Fm ww_X7_look S SS := by
    intro S t0 hf
    unfold f_X7_look_b310 at hf
    have F : Fm ww_X7_look S S := Fm.rf
    obtain ⟨S3, e_S3, hf⟩ := lt_out hf
    have F := F.sI rfl e_S3
    exact F.fin1 hf
  have w304 : ∀ (S : ST) , f_X7_look_b304 E S  = some SS → Fm ww_X7_look S SS := by
    intro S  hf
    unfold f_X7_look_b304 at hf
    have F : Fm ww_X7_look S S := Fm.rf
    exact F.trans (w310 S (2 : Int32) hf)
  have w278 : ∀ (S : ST) (t0 : Int32), f_X7_look_b278 E S t0 = some SS → Fm ww_X7_look S SS := by
    intro S t0 hf
    unfold f_X7_look_b278 at hf
    have F : Fm ww_X7_look S S := Fm.rf
    obtain ⟨S4, e_S4, hf⟩ := lt_out hf
    have F := F.sI rfl e_S4
    obtain ⟨r5, hc, hf⟩ := bd_out hf
    by_cases h : 0 ≤ r5
    · have hf := if_t h hf
      exact F.trans (w304 S4 hf)
    · have hf := if_f h hf
      obtain ⟨r6, hc, hf⟩ := bd_out hf
      by_cases h : r6 = 0
      · have hf := if_t h hf
        exact F.trans (w310 S4 (-2 : Int32) hf)
      · have hf := if_f h hf
        exact F.trans (w304 S4 hf)
  have w260 : ∀ (S : ST) , f_X7_look_b260 E S  = some SS → Fm ww_X7_look S SS := by
    intro S  hf
    unfold f_X7_look_b260 at hf
    have F : Fm ww_X7_look S S := Fm.rf
    by_cases h : (gI S 1 0 12) ≤ (6 : Int32)
    · have hf := if_t h hf
      exact F.trans (w278 S (gI S 1 0 11) hf)
    · have hf := if_f h hf
      exact F.trans (w278 S (0 : Int32) hf)
  have w186 : ∀ (n186 : Nat) (S : ST) , f_X7_look_b186 E n186 S  = some SS → Fm ww_X7_look S SS := by
    intro n186
    induction n186 with
    | zero =>
      intro S  hf
      exact absurd (show (none : Option ST) = some SS from hf) (fun h => by cases h)
    | succ n186 ih186 =>
      have w244 : ∀ (S : ST) (t0 : Int32), f_X7_look_b244 E (f_X7_look_b186 E n186) S t0 = some SS → Fm ww_X7_look S SS := by
        intro S t0 hf
        unfold f_X7_look_b244 at hf
        have F : Fm ww_X7_look S S := Fm.rf
        obtain ⟨S7, e_S7, hf⟩ := lt_out hf
        have F := F.sI rfl e_S7
        obtain ⟨S8, e_S8, hf⟩ := lt_out hf
        have F := F.sI rfl e_S8
        exact F.trans (ih186 S8 hf)
      intro S  hf
      have hf : g_X7_look_b186 E (f_X7_look_b186 E n186) S  = some SS := hf
      unfold g_X7_look_b186 at hf
      have F : Fm ww_X7_look S S := Fm.rf
      obtain ⟨r9, hc, hf⟩ := bd_out hf
      obtain ⟨r10, hc, hf⟩ := bd_out hf
      by_cases h : r10 = 0
      · have hf := if_t h hf
        exact F.trans (w260 S hf)
      · have hf := if_f h hf
        by_cases h : (6 : Int32) ≤ (gI S 1 0 12)
        · have hf := if_t h hf
          exact F.trans (w244 S (0 : Int32) hf)
        · have hf := if_f h hf
          obtain ⟨r11, hc, hf⟩ := bd_out hf
          exact F.trans (w244 S ((((32 : Int32) * (gI S 1 0 11)) + r11) - (96 : Int32)) hf)
  have w167 : ∀ (S : ST) (t0 : Int32), f_X7_look_b167 E S t0 = some SS → Fm ww_X7_look S SS := by
    intro S t0 hf
    unfold f_X7_look_b167 at hf
    have F : Fm ww_X7_look S S := Fm.rf
    obtain ⟨S12, e_S12, hf⟩ := lt_out hf
    have F := F.sI rfl e_S12
    exact F.fin1 hf
  have w152 : ∀ (S : ST) , f_X7_look_b152 E S  = some SS → Fm ww_X7_look S SS := by
    intro S  hf
    unfold f_X7_look_b152 at hf
    have F : Fm ww_X7_look S S := Fm.rf
    by_cases h : (gI S 1 0 12) ≤ (4 : Int32)
    · have hf := if_t h hf
      exact F.trans (w167 S (1 : Int32) hf)
    · have hf := if_f h hf
      exact F.trans (w167 S (-2 : Int32) hf)
  have w76 : ∀ (n76 : Nat) (S : ST) , f_X7_look_b76 E n76 S  = some SS → Fm ww_X7_look S SS := by
    intro n76
    induction n76 with
    | zero =>
      intro S  hf
      exact absurd (show (none : Option ST) = some SS from hf) (fun h => by cases h)
    | succ n76 ih76 =>
      have w136 : ∀ (S : ST) (t0 : Int32), f_X7_look_b136 E (f_X7_look_b76 E n76) S t0 = some SS → Fm ww_X7_look S SS := by
        intro S t0 hf
        unfold f_X7_look_b136 at hf
        have F : Fm ww_X7_look S S := Fm.rf
        obtain ⟨S13, e_S13, hf⟩ := lt_out hf
        have F := F.sI rfl e_S13
        obtain ⟨S14, e_S14, hf⟩ := lt_out hf
        have F := F.sI rfl e_S14
        exact F.trans (ih76 S14 hf)
      intro S  hf
      have hf : g_X7_look_b76 E (f_X7_look_b76 E n76) S  = some SS := hf
      unfold g_X7_look_b76 at hf
      have F : Fm ww_X7_look S S := Fm.rf
      obtain ⟨r15, hc, hf⟩ := bd_out hf
      obtain ⟨r16, hc, hf⟩ := bd_out hf
      by_cases h : r16 = 0
      · have hf := if_t h hf
        exact F.trans (w152 S hf)
      · have hf := if_f h hf
        by_cases h : (4 : Int32) ≤ (gI S 1 0 12)
        · have hf := if_t h hf
          exact F.trans (w136 S (gI S 1 0 11) hf)
        · have hf := if_f h hf
          obtain ⟨r17, hc, hf⟩ := bd_out hf
          exact F.trans (w136 S ((((10 : Int32) * (gI S 1 0 11)) + r17) - (48 : Int32)) hf)
  have w39 : ∀ (S : ST) , f_X7_look_b39 E S  = some SS → Fm ww_X7_look S SS := by
    intro S  hf
    unfold f_X7_look_b39 at hf
    have F : Fm ww_X7_look S S := Fm.rf
    obtain ⟨r18, hc, hf⟩ := bd_out hf
    obtain ⟨S19, e_S19, hf⟩ := lt_out hf
    have F := F.sI rfl e_S19
    obtain ⟨S20, e_S20, hf⟩ := lt_out hf
    have F := F.sI rfl e_S20
    obtain ⟨r21, hc, hf⟩ := bd_out hf
    by_cases h : r21 = 0
    · have hf := if_t h hf
      obtain ⟨r22, hc, hf⟩ := bd_out hf
      by_cases h : r22 = 0
      · have hf := if_t h hf
        by_cases h : r18 = (40 : Int32)
        · have hf := if_t h hf
          exact F.trans (w365 S20 r18 hf)
        · have hf := if_f h hf
          by_cases h : r18 = (41 : Int32)
          · have hf := if_t h hf
            exact F.trans (w365 S20 r18 hf)
          · have hf := if_f h hf
            by_cases h : r18 = (59 : Int32)
            · have hf := if_t h hf
              exact F.trans (w365 S20 r18 hf)
            · have hf := if_f h hf
              by_cases h : r18 = (43 : Int32)
              · have hf := if_t h hf
                exact F.trans (w365 S20 r18 hf)
              · have hf := if_f h hf
                by_cases h : r18 = (45 : Int32)
                · have hf := if_t h hf
                  exact F.trans (w365 S20 r18 hf)
                · have hf := if_f h hf
                  by_cases h : r18 = (42 : Int32)
                  · have hf := if_t h hf
                    exact F.trans (w365 S20 r18 hf)
                  · have hf := if_f h hf
                    by_cases h : r18 = (60 : Int32)
                    · have hf := if_t h hf
                      exact F.trans (w365 S20 r18 hf)
                    · have hf := if_f h hf
                      by_cases h : r18 = (61 : Int32)
                      · have hf := if_t h hf
                        exact F.trans (w365 S20 r18 hf)
                      · have hf := if_f h hf
                        by_cases h : 0 ≤ r18
                        · have hf := if_t h hf
                          exact F.trans (w379 S20 (-2 : Int32) hf)
                        · have hf := if_f h hf
                          exact F.trans (w379 S20 (-1 : Int32) hf)
      · have hf := if_f h hf
        obtain ⟨S23, e_S23, hf⟩ := lt_out hf
        have F := F.sI rfl e_S23
        exact F.trans (w186 E.1 S23 hf)
    · have hf := if_f h hf
      obtain ⟨S24, e_S24, hf⟩ := lt_out hf
      have F := F.sI rfl e_S24
      obtain ⟨S25, e_S25, hf⟩ := lt_out hf
      have F := F.sI rfl e_S25
      exact F.trans (w76 E.1 S25 hf)
  have w0 : ∀ (n0 : Nat) (S : ST) , f_X7_look_b0 E n0 S  = some SS → Fm ww_X7_look S SS := by
    intro n0
    induction n0 with
    | zero =>
      intro S  hf
      exact absurd (show (none : Option ST) = some SS from hf) (fun h => by cases h)
    | succ n0 ih0 =>
      have w26 : ∀ (S : ST) , f_X7_look_b26 E (f_X7_look_b0 E n0) S  = some SS → Fm ww_X7_look S SS := by
        intro S  hf
        unfold f_X7_look_b26 at hf
        have F : Fm ww_X7_look S S := Fm.rf
        obtain ⟨S1, e_S1, hf⟩ := lt_out hf
        have F := F.sI rfl e_S1
        exact F.trans (ih0 S1 hf)
      intro S  hf
      have hf : g_X7_look_b0 E (f_X7_look_b0 E n0) S  = some SS := hf
      unfold g_X7_look_b0 at hf
      have F : Fm ww_X7_look S S := Fm.rf
      obtain ⟨r26, hc, hf⟩ := bd_out hf
      by_cases h : r26 = (32 : Int32)
      · have hf := if_t h hf
        exact F.trans (w26 S hf)
      · have hf := if_f h hf
        obtain ⟨r27, hc, hf⟩ := bd_out hf
        by_cases h : r27 = (10 : Int32)
        · have hf := if_t h hf
          exact F.trans (w26 S hf)
        · have hf := if_f h hf
          exact F.trans (w39 S hf)
  unfold f_X7_look at hf
  have F : Fm ww_X7_look S S := Fm.rf
  exact F.trans (w0 E.1 S hf)
def ww_X7_goOn : List (Nat × Nat) := [(1, 10), (1, 11), (1, 12), (1, 13)]
set_option maxRecDepth 100000 in
theorem fr_X7_goOn (E : EN) (S : ST)  (SS : ST) (hf : f_X7_goOn E S = some SS) : Fm ww_X7_goOn S SS := by
  unfold f_X7_goOn at hf
  have F : Fm ww_X7_goOn S S := Fm.rf
  obtain ⟨S1, e_S1, hf⟩ := lt_out hf
  have F := F.sI rfl e_S1
  obtain ⟨S2, hc, hf⟩ := bd_out hf
  have F := F.tr (fr_X7_look E S1  S2 hc) rfl
  exact F.fin1 hf
def ww_X7_put : List (Nat × Nat) := [(1, 16), (57, 0), (58, 0)]
set_option maxRecDepth 100000 in
theorem fr_X7_put (E : EN) (S : ST) (a1 : Int32) (a2 : Int32) (SS : ST) (hf : f_X7_put E S a1 a2 = some SS) : Fm ww_X7_put S SS := by
  unfold f_X7_put at hf
  have F : Fm ww_X7_put S S := Fm.rf
  obtain ⟨-, hf⟩ := ck_out hf
  obtain ⟨S2, e_S2, hf⟩ := lt_out hf
  have F := F.sI rfl e_S2
  obtain ⟨-, hf⟩ := ck_out hf
  obtain ⟨S4, e_S4, hf⟩ := lt_out hf
  have F := F.sI rfl e_S4
  obtain ⟨S5, e_S5, hf⟩ := lt_out hf
  have F := F.sI rfl e_S5
  exact F.fin1 hf
def ww_X7_pushSign : List (Nat × Nat) := [(1, 15), (60, 0)]
set_option maxRecDepth 100000 in
theorem fr_X7_pushSign (E : EN) (S : ST) (a1 : Int32) (SS : ST) (hf : f_X7_pushSign E S a1 = some SS) : Fm ww_X7_pushSign S SS := by
  unfold f_X7_pushSign at hf
  have F : Fm ww_X7_pushSign S S := Fm.rf
  obtain ⟨-, hf⟩ := ck_out hf
  obtain ⟨S2, e_S2, hf⟩ := lt_out hf
  have F := F.sI rfl e_S2
  obtain ⟨S3, e_S3, hf⟩ := lt_out hf
  have F := F.sI rfl e_S3
  exact F.fin1 hf
def ww_X7_settle : List (Nat × Nat) := [(1, 14), (1, 15), (1, 16), (57, 0), (58, 0)]
set_option maxRecDepth 100000 in
theorem fr_X7_settle (E : EN) (S : ST) (a1 : Int32) (SS : ST) (hf : f_X7_settle E S a1 = some SS) : Fm ww_X7_settle S SS := by
  have w0 : ∀ (n0 : Nat) (S : ST) (v1 : Int32), f_X7_settle_b0 E n0 S v1 = some SS → Fm ww_X7_settle S SS := by
    intro n0
    induction n0 with
    | zero =>
      intro S v1 hf
      exact absurd (show (none : Option ST) = some SS from hf) (fun h => by cases h)
    | succ n0 ih0 =>
      have w60 : ∀ (S : ST) (v1 : Int32) (v2 : Int32) (t0 : Int32) (t1 : Int32), f_X7_settle_b60 E (f_X7_settle_b0 E n0) S v1 v2 t0 t1 = some SS → Fm ww_X7_settle S SS := by
        intro S v1 v2 t0 t1 hf
        unfold f_X7_settle_b60 at hf
        have F : Fm ww_X7_settle S S := Fm.rf
        obtain ⟨S1, e_S1, hf⟩ := lt_out hf
        have F := F.sI rfl e_S1
        obtain ⟨S2, hc, hf⟩ := bd_out hf
        have F := F.tr (fr_X7_put E S1 v2 (0 : Int32) S2 hc) rfl
        exact F.trans (ih0 S2 v1 hf)
      have w55 : ∀ (S : ST) (v1 : Int32) (v2 : Int32) (t0 : Int32), f_X7_settle_b55 E (f_X7_settle_b0 E n0) S v1 v2 t0 = some SS → Fm ww_X7_settle S SS := by
        intro S v1 v2 t0 hf
        unfold f_X7_settle_b55 at hf
        have F : Fm ww_X7_settle S S := Fm.rf
        exact F.trans (w60 S v1 v2 (1 : Int32) t0 hf)
      intro S v1 hf
      have hf : g_X7_settle_b0 E (f_X7_settle_b0 E n0) S v1 = some SS := hf
      unfold g_X7_settle_b0 at hf
      have F : Fm ww_X7_settle S S := Fm.rf
      by_cases h : (gI S 1 0 14) ≤ 0
      · have hf := if_t h hf
        exact F.fin1 hf
      · have hf := if_f h hf
        obtain ⟨r3, hc, hf⟩ := bd_out hf
        obtain ⟨r4, hc, hf⟩ := bd_out hf
        by_cases h : r4 < v1
        · have hf := if_t h hf
          exact F.fin1 hf
        · have hf := if_f h hf
          obtain ⟨S5, e_S5, hf⟩ := lt_out hf
          have F := F.sI rfl e_S5
          obtain ⟨-, hf⟩ := ck_out hf
          obtain ⟨x7, e_x7, hf⟩ := lt_out hf
          by_cases h : x7 = (4 : Int32)
          · have hf := if_t h hf
            exact F.trans (w55 S5 v1 x7 (gI S5 1 0 13) hf)
          · have hf := if_f h hf
            by_cases h : x7 = (10 : Int32)
            · have hf := if_t h hf
              exact F.trans (w55 S5 v1 x7 (gI S5 1 0 13) hf)
            · have hf := if_f h hf
              exact F.trans (w60 S5 v1 x7 (0 : Int32) (gI S5 1 0 13) hf)
  unfold f_X7_settle at hf
  have F : Fm ww_X7_settle S S := Fm.rf
  exact F.trans (w0 E.1 S a1 hf)
def ww_X7_opens : List (Nat × Nat) := [(1, 14), (1, 15), (60, 0)]
set_option maxRecDepth 100000 in
theorem fr_X7_opens (E : EN) (S : ST) (a1 : Int32) (rr : Int32) (SS : ST) (hf : f_X7_opens E S a1 = some (rr, SS)) : Fm ww_X7_opens S SS := by
  unfold f_X7_opens at hf
  have F : Fm ww_X7_opens S S := Fm.rf
  by_cases h : (gI S 1 0 13) = (5 : Int32)
  · have hf := if_t h hf
    exact F.fin2 hf
  · have hf := if_f h hf
    obtain ⟨S1, e_S1, hf⟩ := lt_out hf
    have F := F.sI rfl e_S1
    obtain ⟨S2, hc, hf⟩ := bd_out hf
    have F := F.tr (fr_X7_pushSign E S1 a1 S2 hc) rfl
    exact F.fin2 hf
def ww_X7_takesOne : List (Nat × Nat) := [(1, 14), (1, 15), (1, 16), (57, 0), (58, 0), (60, 0)]
set_option maxRecDepth 100000 in
theorem fr_X7_takesOne (E : EN) (S : ST) (a1 : Int32) (rr : Int32) (SS : ST) (hf : f_X7_takesOne E S a1 = some (rr, SS)) : Fm ww_X7_takesOne S SS := by
  have w64 : ∀ (S : ST) (t0 : Int32) (t1 : Int32), f_X7_takesOne_b64 E S t0 t1 = some (rr, SS) → Fm ww_X7_takesOne S SS := by
    intro S t0 t1 hf
    unfold f_X7_takesOne_b64 at hf
    have F : Fm ww_X7_takesOne S S := Fm.rf
    obtain ⟨S1, hc, hf⟩ := bd_out hf
    have F := F.tr (fr_X7_put E S t1 t0 S1 hc) rfl
    obtain ⟨S2, hc, hf⟩ := bd_out hf
    have F := F.tr (fr_X7_settle E S1 (7 : Int32) S2 hc) rfl
    exact F.fin2 hf
  have w41 : ∀ (S : ST) (t0 : Int32), f_X7_takesOne_b41 E S t0 = some (rr, SS) → Fm ww_X7_takesOne S SS := by
    intro S t0 hf
    unfold f_X7_takesOne_b41 at hf
    have F : Fm ww_X7_takesOne S S := Fm.rf
    by_cases h : (gI S 1 0 10) = (1 : Int32)
    · have hf := if_t h hf
      exact F.trans (w64 S (gI S 1 0 11) t0 hf)
    · have hf := if_f h hf
      obtain ⟨r3, hc, hf⟩ := bd_out hf
      exact F.trans (w64 S r3 t0 hf)
  have w27 : ∀ (S : ST) , f_X7_takesOne_b27 E S  = some (rr, SS) → Fm ww_X7_takesOne S SS := by
    intro S  hf
    unfold f_X7_takesOne_b27 at hf
    have F : Fm ww_X7_takesOne S S := Fm.rf
    by_cases h : (gI S 1 0 10) = (1 : Int32)
    · have hf := if_t h hf
      exact F.trans (w41 S (0 : Int32) hf)
    · have hf := if_f h hf
      exact F.trans (w41 S (1 : Int32) hf)
  have w75 : ∀ (S : ST) (v1 : Int32), f_X7_takesOne_b75 E S v1 = some (rr, SS) → Fm ww_X7_takesOne S SS := by
    intro S v1 hf
    unfold f_X7_takesOne_b75 at hf
    have F : Fm ww_X7_takesOne S S := Fm.rf
    by_cases h : (gI S 1 0 10) = (45 : Int32)
    · have hf := if_t h hf
      obtain ⟨r9, S10, hc, hf⟩ := bd2_out hf
      have F := F.tr (fr_X7_opens E S (10 : Int32) r9 S10 hc) rfl
      by_cases h : r9 = 0
      · have hf := if_t h hf
        exact F.fin2 hf
      · have hf := if_f h hf
        exact F.fin2 hf
    · have hf := if_f h hf
      by_cases h : (gI S 1 0 10) = (40 : Int32)
      · have hf := if_t h hf
        obtain ⟨r7, S8, hc, hf⟩ := bd2_out hf
        have F := F.tr (fr_X7_opens E S (20 : Int32) r7 S8 hc) rfl
        by_cases h : r7 = 0
        · have hf := if_t h hf
          exact F.fin2 hf
        · have hf := if_f h hf
          exact F.fin2 hf
      · have hf := if_f h hf
        obtain ⟨r4, hc, hf⟩ := bd_out hf
        by_cases h : r4 = 0
        · have hf := if_t h hf
          exact F.fin2 hf
        · have hf := if_f h hf
          by_cases h : v1 = 0
          · have hf := if_t h hf
            exact F.fin2 hf
          · have hf := if_f h hf
            obtain ⟨r5, S6, hc, hf⟩ := bd2_out hf
            have F := F.tr (fr_X7_opens E S (4 : Int32) r5 S6 hc) rfl
            by_cases h : r5 = 0
            · have hf := if_t h hf
              exact F.fin2 hf
            · have hf := if_f h hf
              exact F.fin2 hf
  unfold f_X7_takesOne at hf
  have F : Fm ww_X7_takesOne S S := Fm.rf
  by_cases h : (gI S 1 0 10) = (1 : Int32)
  · have hf := if_t h hf
    exact F.trans (w27 S hf)
  · have hf := if_f h hf
    by_cases h : (gI S 1 0 10) = (2 : Int32)
    · have hf := if_t h hf
      obtain ⟨r11, hc, hf⟩ := bd_out hf
      by_cases h : r11 < 0
      · have hf := if_t h hf
        exact F.trans (w75 S a1 hf)
      · have hf := if_f h hf
        exact F.trans (w27 S hf)
    · have hf := if_f h hf
      exact F.trans (w75 S a1 hf)
def ww_X7_takesSign : List (Nat × Nat) := [(1, 14), (1, 15), (1, 16), (57, 0), (58, 0), (60, 0)]
set_option maxRecDepth 100000 in
theorem fr_X7_takesSign (E : EN) (S : ST)  (rr : Int32) (SS : ST) (hf : f_X7_takesSign E S = some (rr, SS)) : Fm ww_X7_takesSign S SS := by
  have w152 : ∀ (S : ST) (v1 : Int32), f_X7_takesSign_b152 E S v1 = some (rr, SS) → Fm ww_X7_takesSign S SS := by
    intro S v1 hf
    unfold f_X7_takesSign_b152 at hf
    have F : Fm ww_X7_takesSign S S := Fm.rf
    obtain ⟨S1, hc, hf⟩ := bd_out hf
    have F := F.tr (fr_X7_pushSign E S v1 S1 hc) rfl
    exact F.fin2 hf
  have w138 : ∀ (S : ST) (v1 : Int32), f_X7_takesSign_b138 E S v1 = some (rr, SS) → Fm ww_X7_takesSign S SS := by
    intro S v1 hf
    unfold f_X7_takesSign_b138 at hf
    have F : Fm ww_X7_takesSign S S := Fm.rf
    obtain ⟨r2, hc, hf⟩ := bd_out hf
    obtain ⟨r3, hc, hf⟩ := bd_out hf
    by_cases h : r3 = (4 : Int32)
    · have hf := if_t h hf
      exact F.fin2 hf
    · have hf := if_f h hf
      exact F.trans (w152 S v1 hf)
  have w124 : ∀ (S : ST) (v1 : Int32) (t0 : Int32), f_X7_takesSign_b124 E S v1 t0 = some (rr, SS) → Fm ww_X7_takesSign S SS := by
    intro S v1 t0 hf
    unfold f_X7_takesSign_b124 at hf
    have F : Fm ww_X7_takesSign S S := Fm.rf
    obtain ⟨S4, hc, hf⟩ := bd_out hf
    have F := F.tr (fr_X7_settle E S t0 S4 hc) rfl
    by_cases h : v1 = (5 : Int32)
    · have hf := if_t h hf
      exact F.trans (w138 S4 v1 hf)
    · have hf := if_f h hf
      by_cases h : v1 = (6 : Int32)
      · have hf := if_t h hf
        exact F.trans (w138 S4 v1 hf)
      · have hf := if_f h hf
        exact F.trans (w152 S4 v1 hf)
  have w115 : ∀ (S : ST) (v1 : Int32), f_X7_takesSign_b115 E S v1 = some (rr, SS) → Fm ww_X7_takesSign S SS := by
    intro S v1 hf
    unfold f_X7_takesSign_b115 at hf
    have F : Fm ww_X7_takesSign S S := Fm.rf
    exact F.trans (w124 S v1 (5 : Int32) hf)
  have w98 : ∀ (S : ST) (t0 : Int32), f_X7_takesSign_b98 E S t0 = some (rr, SS) → Fm ww_X7_takesSign S SS := by
    intro S t0 hf
    unfold f_X7_takesSign_b98 at hf
    have F : Fm ww_X7_takesSign S S := Fm.rf
    by_cases h : t0 < 0
    · have hf := if_t h hf
      by_cases h : (gI S 1 0 10) = (41 : Int32)
      · have hf := if_t h hf
        obtain ⟨S5, hc, hf⟩ := bd_out hf
        have F := F.tr (fr_X7_settle E S (1 : Int32) S5 hc) rfl
        obtain ⟨r6, hc, hf⟩ := bd_out hf
        by_cases h : r6 = (20 : Int32)
        · have hf := if_t h hf
          obtain ⟨S7, e_S7, hf⟩ := lt_out hf
          have F := F.sI rfl e_S7
          obtain ⟨S8, e_S8, hf⟩ := lt_out hf
          have F := F.sI rfl e_S8
          obtain ⟨S9, hc, hf⟩ := bd_out hf
          have F := F.tr (fr_X7_settle E S8 (7 : Int32) S9 hc) rfl
          exact F.fin2 hf
        · have hf := if_f h hf
          exact F.fin2 hf
      · have hf := if_f h hf
        exact F.fin2 hf
    · have hf := if_f h hf
      by_cases h : t0 = (5 : Int32)
      · have hf := if_t h hf
        exact F.trans (w115 S t0 hf)
      · have hf := if_f h hf
        by_cases h : t0 = (6 : Int32)
        · have hf := if_t h hf
          exact F.trans (w115 S t0 hf)
        · have hf := if_f h hf
          obtain ⟨r10, hc, hf⟩ := bd_out hf
          exact F.trans (w124 S t0 r10 hf)
  unfold f_X7_takesSign at hf
  have F : Fm ww_X7_takesSign S S := Fm.rf
  by_cases h : (gI S 1 0 10) = (42 : Int32)
  · have hf := if_t h hf
    exact F.trans (w98 S (9 : Int32) hf)
  · have hf := if_f h hf
    by_cases h : (gI S 1 0 10) = (43 : Int32)
    · have hf := if_t h hf
      exact F.trans (w98 S (7 : Int32) hf)
    · have hf := if_f h hf
      by_cases h : (gI S 1 0 10) = (45 : Int32)
      · have hf := if_t h hf
        exact F.trans (w98 S (8 : Int32) hf)
      · have hf := if_f h hf
        by_cases h : (gI S 1 0 10) = (60 : Int32)
        · have hf := if_t h hf
          exact F.trans (w98 S (5 : Int32) hf)
        · have hf := if_f h hf
          by_cases h : (gI S 1 0 10) = (61 : Int32)
          · have hf := if_t h hf
            exact F.trans (w98 S (6 : Int32) hf)
          · have hf := if_f h hf
            obtain ⟨r11, hc, hf⟩ := bd_out hf
            by_cases h : r11 = 0
            · have hf := if_t h hf
              obtain ⟨r12, hc, hf⟩ := bd_out hf
              by_cases h : r12 = 0
              · have hf := if_t h hf
                exact F.trans (w98 S (-1 : Int32) hf)
              · have hf := if_f h hf
                exact F.trans (w98 S (2 : Int32) hf)
            · have hf := if_f h hf
              exact F.trans (w98 S (3 : Int32) hf)
def ww_X7_takesE : List (Nat × Nat) := [(1, 10), (1, 11), (1, 12), (1, 13), (1, 14), (1, 15), (1, 16), (57, 0), (58, 0), (60, 0)]
set_option maxRecDepth 100000 in
theorem fr_X7_takesE (E : EN) (S : ST) (a1 : Int32) (rr : Int32) (SS : ST) (hf : f_X7_takesE E S a1 = some (rr, SS)) : Fm ww_X7_takesE S SS := by
  have w48 : ∀ (S : ST) , f_X7_takesE_b48 E S  = some (rr, SS) → Fm ww_X7_takesE S SS := by
    intro S  hf
    unfold f_X7_takesE_b48 at hf
    have F : Fm ww_X7_takesE S S := Fm.rf
    obtain ⟨S7, hc, hf⟩ := bd_out hf
    have F := F.tr (fr_X7_settle E S (1 : Int32) S7 hc) rfl
    by_cases h : (gI S7 1 0 14) = 0
    · have hf := if_t h hf
      by_cases h : (gI S7 1 0 10) = (59 : Int32)
      · have hf := if_t h hf
        exact F.fin2 hf
      · have hf := if_f h hf
        exact F.fin2 hf
    · have hf := if_f h hf
      exact F.fin2 hf
  have w19 : ∀ (n19 : Nat) (S : ST) (v2 : Int32) (v3 : Int32), f_X7_takesE_b19 E n19 S v2 v3 = some (rr, SS) → Fm ww_X7_takesE S SS := by
    intro n19
    induction n19 with
    | zero =>
      intro S v2 v3 hf
      exact absurd (show (none : Option (Int32 × ST)) = some (rr, SS) from hf) (fun h => by cases h)
    | succ n19 ih19 =>
      have w176 : ∀ (S : ST) (v3 : Int32) (t0 : Int32), f_X7_takesE_b176 E (f_X7_takesE_b19 E n19) S v3 t0 = some (rr, SS) → Fm ww_X7_takesE S SS := by
        intro S v3 t0 hf
        unfold f_X7_takesE_b176 at hf
        have F : Fm ww_X7_takesE S S := Fm.rf
        obtain ⟨S1, hc, hf⟩ := bd_out hf
        have F := F.tr (fr_X7_goOn E S  S1 hc) rfl
        exact F.trans (ih19 S1 t0 v3 hf)
      have w164 : ∀ (S : ST) (v7 : Int32) (t0 : Int32), f_X7_takesE_b164 E (f_X7_takesE_b19 E n19) S v7 t0 = some (rr, SS) → Fm ww_X7_takesE S SS := by
        intro S v7 t0 hf
        unfold f_X7_takesE_b164 at hf
        have F : Fm ww_X7_takesE S S := Fm.rf
        by_cases h : v7 = (1 : Int32)
        · have hf := if_t h hf
          exact F.trans (w176 S t0 (1 : Int32) hf)
        · have hf := if_f h hf
          exact F.trans (w176 S t0 (0 : Int32) hf)
      have w154 : ∀ (S : ST) (v7 : Int32), f_X7_takesE_b154 E (f_X7_takesE_b19 E n19) S v7 = some (rr, SS) → Fm ww_X7_takesE S SS := by
        intro S v7 hf
        unfold f_X7_takesE_b154 at hf
        have F : Fm ww_X7_takesE S S := Fm.rf
        exact F.trans (w164 S v7 (1 : Int32) hf)
      have w131 : ∀ (S : ST) (v2 : Int32) (v4 : Int32) (v5 : Int32) (v6 : Int32) (t0 : Int32), f_X7_takesE_b131 E (f_X7_takesE_b19 E n19) S v2 v4 v5 v6 t0 = some (rr, SS) → Fm ww_X7_takesE S SS := by
        intro S v2 v4 v5 v6 t0 hf
        unfold f_X7_takesE_b131 at hf
        have F : Fm ww_X7_takesE S S := Fm.rf
        by_cases h : t0 = 0
        · have hf := if_t h hf
          exact F.fin2 hf
        · have hf := if_f h hf
          by_cases h : v2 = 0
          · have hf := if_t h hf
            exact F.trans (w164 S t0 v6 hf)
          · have hf := if_f h hf
            by_cases h : v4 = 0
            · have hf := if_t h hf
              by_cases h : v5 = 0
              · have hf := if_t h hf
                exact F.trans (w164 S t0 (0 : Int32) hf)
              · have hf := if_f h hf
                exact F.trans (w154 S t0 hf)
            · have hf := if_f h hf
              exact F.trans (w154 S t0 hf)
      have w113 : ∀ (S : ST) (v2 : Int32) (v3 : Int32) (v4 : Int32) (v5 : Int32) (t0 : Int32), f_X7_takesE_b113 E (f_X7_takesE_b19 E n19) S v2 v3 v4 v5 t0 = some (rr, SS) → Fm ww_X7_takesE S SS := by
        intro S v2 v3 v4 v5 t0 hf
        unfold f_X7_takesE_b113 at hf
        have F : Fm ww_X7_takesE S S := Fm.rf
        by_cases h : v2 = 0
        · have hf := if_t h hf
          obtain ⟨r2, S3, hc, hf⟩ := bd2_out hf
          have F := F.tr (fr_X7_takesSign E S  r2 S3 hc) rfl
          exact F.trans (w131 S3 v2 v4 v5 t0 r2 hf)
        · have hf := if_f h hf
          obtain ⟨r4, S5, hc, hf⟩ := bd2_out hf
          have F := F.tr (fr_X7_takesOne E S v3 r4 S5 hc) rfl
          exact F.trans (w131 S5 v2 v4 v5 t0 r4 hf)
      have w98 : ∀ (S : ST) (v2 : Int32) (v3 : Int32) (v4 : Int32) (t0 : Int32), f_X7_takesE_b98 E (f_X7_takesE_b19 E n19) S v2 v3 v4 t0 = some (rr, SS) → Fm ww_X7_takesE S SS := by
        intro S v2 v3 v4 t0 hf
        unfold f_X7_takesE_b98 at hf
        have F : Fm ww_X7_takesE S S := Fm.rf
        by_cases h : (gI S 1 0 10) = (2 : Int32)
        · have hf := if_t h hf
          exact F.trans (w113 S v2 v3 v4 t0 (1 : Int32) hf)
        · have hf := if_f h hf
          exact F.trans (w113 S v2 v3 v4 t0 (0 : Int32) hf)
      have w75 : ∀ (S : ST) (v2 : Int32) (v3 : Int32), f_X7_takesE_b75 E (f_X7_takesE_b19 E n19) S v2 v3 = some (rr, SS) → Fm ww_X7_takesE S SS := by
        intro S v2 v3 hf
        unfold f_X7_takesE_b75 at hf
        have F : Fm ww_X7_takesE S S := Fm.rf
        obtain ⟨r6, hc, hf⟩ := bd_out hf
        by_cases h : (gI S 1 0 10) = (40 : Int32)
        · have hf := if_t h hf
          exact F.trans (w98 S v2 v3 r6 (1 : Int32) hf)
        · have hf := if_f h hf
          exact F.trans (w98 S v2 v3 r6 (0 : Int32) hf)
      intro S v2 v3 hf
      have hf : g_X7_takesE_b19 E (f_X7_takesE_b19 E n19) S v2 v3 = some (rr, SS) := hf
      unfold g_X7_takesE_b19 at hf
      have F : Fm ww_X7_takesE S S := Fm.rf
      by_cases h : v2 = 0
      · have hf := if_t h hf
        by_cases h : (gI S 1 0 10) = (41 : Int32)
        · have hf := if_t h hf
          exact F.trans (w75 S v2 v3 hf)
        · have hf := if_f h hf
          by_cases h : (gI S 1 0 10) = (59 : Int32)
          · have hf := if_t h hf
            exact F.trans (w48 S hf)
          · have hf := if_f h hf
            by_cases h : 0 ≤ (gI S 1 0 10)
            · have hf := if_t h hf
              exact F.trans (w75 S v2 v3 hf)
            · have hf := if_f h hf
              exact F.trans (w48 S hf)
      · have hf := if_f h hf
        exact F.trans (w75 S v2 v3 hf)
  unfold f_X7_takesE at hf
  have F : Fm ww_X7_takesE S S := Fm.rf
  obtain ⟨S8, e_S8, hf⟩ := lt_out hf
  have F := F.sI rfl e_S8
  obtain ⟨S9, e_S9, hf⟩ := lt_out hf
  have F := F.sI rfl e_S9
  obtain ⟨S10, e_S10, hf⟩ := lt_out hf
  have F := F.sI rfl e_S10
  exact F.trans (w19 E.1 S10 (1 : Int32) (1 : Int32) hf)
def ww_X7_takesPart : List (Nat × Nat) := [(1, 10), (1, 11), (1, 12), (1, 13), (1, 14), (1, 15), (1, 16), (57, 0), (58, 0), (59, 0), (60, 0)]
set_option maxRecDepth 100000 in
theorem fr_X7_takesPart (E : EN) (S : ST) (a1 : Int32) (a2 : Int32) (a3 : Int32) (rr : Int32) (SS : ST) (hf : f_X7_takesPart E S a1 a2 a3 = some (rr, SS)) : Fm ww_X7_takesPart S SS := by
  unfold f_X7_takesPart at hf
  have F : Fm ww_X7_takesPart S S := Fm.rf
  obtain ⟨r1, hc, hf⟩ := bd_out hf
  by_cases h : r1 = 0
  · have hf := if_t h hf
    exact F.fin2 hf
  · have hf := if_f h hf
    obtain ⟨S2, hc, hf⟩ := bd_out hf
    have F := F.tr (fr_X7_goOn E S  S2 hc) rfl
    obtain ⟨x3, e_x3, hf⟩ := lt_out hf
    obtain ⟨r4, S5, hc, hf⟩ := bd2_out hf
    have F := F.tr (fr_X7_takesE E S2 x3 r4 S5 hc) rfl
    by_cases h : r4 = 0
    · have hf := if_t h hf
      exact F.fin2 hf
    · have hf := if_f h hf
      obtain ⟨-, hf⟩ := ck_out hf
      obtain ⟨S7, e_S7, hf⟩ := lt_out hf
      have F := F.sI rfl e_S7
      obtain ⟨S8, hc, hf⟩ := bd_out hf
      have F := F.tr (fr_X7_goOn E S7  S8 hc) rfl
      exact F.fin2 hf
def ww_X7_text : List (Nat × Nat) := [(1, 7), (1, 9), (1, 10), (1, 11), (1, 12), (1, 13), (1, 14), (1, 15), (1, 16), (57, 0), (58, 0), (59, 0), (60, 0)]
set_option maxRecDepth 100000 in
theorem fr_X7_text (E : EN) (S : ST)  (rr : Int32) (SS : ST) (hf : f_X7_text E S = some (rr, SS)) : Fm ww_X7_text S SS := by
  have w77 : ∀ (S : ST) (t0 : Int32), f_X7_text_b77 E S t0 = some (rr, SS) → Fm ww_X7_text S SS := by
    intro S t0 hf
    unfold f_X7_text_b77 at hf
    have F : Fm ww_X7_text S S := Fm.rf
    obtain ⟨S1, e_S1, hf⟩ := lt_out hf
    have F := F.sI rfl e_S1
    by_cases h : t0 = 0
    · have hf := if_t h hf
      exact F.fin2 hf
    · have hf := if_f h hf
      obtain ⟨S2, e_S2, hf⟩ := lt_out hf
      have F := F.sI rfl e_S2
      exact F.fin2 hf
  have w76 : ∀ (S : ST) , f_X7_text_b76 E S  = some (rr, SS) → Fm ww_X7_text S SS := by
    intro S  hf
    unfold f_X7_text_b76 at hf
    have F : Fm ww_X7_text S S := Fm.rf
    exact F.trans (w77 S (0 : Int32) hf)
  unfold f_X7_text at hf
  have F : Fm ww_X7_text S S := Fm.rf
  by_cases h : (gI S 1 0 6) = (6 : Int32)
  · have hf := if_t h hf
    exact F.fin2 hf
  · have hf := if_f h hf
    obtain ⟨S3, e_S3, hf⟩ := lt_out hf
    have F := F.sI rfl e_S3
    obtain ⟨S4, hc, hf⟩ := bd_out hf
    have F := F.tr (fr_X7_look E S3  S4 hc) rfl
    obtain ⟨r5, S6, hc, hf⟩ := bd2_out hf
    have F := F.tr (fr_X7_takesPart E S4 (gI S4 1 0 6) (0 : Int32) (12748366 : Int32) r5 S6 hc) rfl
    by_cases h : r5 = 0
    · have hf := if_t h hf
      exact F.trans (w76 S6 hf)
    · have hf := if_f h hf
      obtain ⟨r7, S8, hc, hf⟩ := bd2_out hf
      have F := F.tr (fr_X7_takesPart E S6 (gI S6 1 0 6) (1 : Int32) (19176724 : Int32) r7 S8 hc) rfl
      by_cases h : r7 = 0
      · have hf := if_t h hf
        exact F.trans (w76 S8 hf)
      · have hf := if_f h hf
        obtain ⟨r9, S10, hc, hf⟩ := bd2_out hf
        have F := F.tr (fr_X7_takesPart E S8 (gI S8 1 0 6) (2 : Int32) (5572 : Int32) r9 S10 hc) rfl
        by_cases h : r9 = 0
        · have hf := if_t h hf
          exact F.trans (w76 S10 hf)
        · have hf := if_f h hf
          by_cases h : (gI S10 1 0 10) = (-1 : Int32)
          · have hf := if_t h hf
            exact F.trans (w77 S10 (1 : Int32) hf)
          · have hf := if_f h hf
            exact F.trans (w76 S10 hf)
def ww_X7_force : List (Nat × Nat) := [(1, 8)]
set_option maxRecDepth 100000 in
theorem fr_X7_force (E : EN) (S : ST) (a1 : Int32) (rr : Int32) (SS : ST) (hf : f_X7_force E S a1 = some (rr, SS)) : Fm ww_X7_force S SS := by
  unfold f_X7_force at hf
  have F : Fm ww_X7_force S S := Fm.rf
  obtain ⟨r1, hc, hf⟩ := bd_out hf
  by_cases h : r1 = 0
  · have hf := if_t h hf
    exact F.fin2 hf
  · have hf := if_f h hf
    obtain ⟨x2, e_x2, hf⟩ := lt_out hf
    obtain ⟨S3, e_S3, hf⟩ := lt_out hf
    have F := F.sI rfl e_S3
    exact F.fin2 hf
def ww_X7_tellsRule : List (Nat × Nat) := [(61, 0)]
set_option maxRecDepth 100000 in
theorem fr_X7_tellsRule (E : EN) (S : ST) (a1 : Int32) (rr : Int32) (SS : ST) (hf : f_X7_tellsRule E S a1 = some (rr, SS)) : Fm ww_X7_tellsRule S SS := by
  have w195 : ∀ (S : ST) , f_X7_tellsRule_b195 E S  = some (rr, SS) → Fm ww_X7_tellsRule S SS := by
    intro S  hf
    unfold f_X7_tellsRule_b195 at hf
    have F : Fm ww_X7_tellsRule S S := Fm.rf
    exact F.fin2 hf
  have w20 : ∀ (n20 : Nat) (S : ST) (v1 : Int32) (v2 : Int32) (v3 : Int32) (v4 : Int32), f_X7_tellsRule_b20 E n20 S v1 v2 v3 v4 = some (rr, SS) → Fm ww_X7_tellsRule S SS := by
    intro n20
    induction n20 with
    | zero =>
      intro S v1 v2 v3 v4 hf
      exact absurd (show (none : Option (Int32 × ST)) = some (rr, SS) from hf) (fun h => by cases h)
    | succ n20 ih20 =>
      have w189 : ∀ (S : ST) (v1 : Int32) (v2 : Int32) (v3 : Int32) (v4 : Int32), f_X7_tellsRule_b189 E (f_X7_tellsRule_b20 E n20) S v1 v2 v3 v4 = some (rr, SS) → Fm ww_X7_tellsRule S SS := by
        intro S v1 v2 v3 v4 hf
        unfold f_X7_tellsRule_b189 at hf
        have F : Fm ww_X7_tellsRule S S := Fm.rf
        obtain ⟨x1, e_x1, hf⟩ := lt_out hf
        exact F.trans (ih20 S v1 v2 v3 x1 hf)
      have w92 : ∀ (S : ST) (v1 : Int32) (v2 : Int32) (v3 : Int32) (v4 : Int32) (t0 : Int32) (t1 : Int32), f_X7_tellsRule_b92 E (f_X7_tellsRule_b20 E n20) S v1 v2 v3 v4 t0 t1 = some (rr, SS) → Fm ww_X7_tellsRule S SS := by
        intro S v1 v2 v3 v4 t0 t1 hf
        unfold f_X7_tellsRule_b92 at hf
        have F : Fm ww_X7_tellsRule S S := Fm.rf
        obtain ⟨-, hf⟩ := ck_out hf
        obtain ⟨S3, e_S3, hf⟩ := lt_out hf
        have F := F.sI rfl e_S3
        obtain ⟨x4, e_x4, hf⟩ := lt_out hf
        exact F.trans (w189 S3 v1 v2 x4 v4 hf)
      have w60 : ∀ (S : ST) (v1 : Int32) (v2 : Int32) (v3 : Int32) (v4 : Int32) (v5 : Int32), f_X7_tellsRule_b60 E (f_X7_tellsRule_b20 E n20) S v1 v2 v3 v4 v5 = some (rr, SS) → Fm ww_X7_tellsRule S SS := by
        intro S v1 v2 v3 v4 v5 hf
        unfold f_X7_tellsRule_b60 at hf
        have F : Fm ww_X7_tellsRule S S := Fm.rf
        by_cases h : v5 = 0
        · have hf := if_t h hf
          obtain ⟨-, hf⟩ := ck_out hf
          exact F.trans (w92 S v1 v2 v3 v4 (gI S 58 0 v4.toNatClampNeg) v3 hf)
        · have hf := if_f h hf
          obtain ⟨-, hf⟩ := ck_out hf
          obtain ⟨-, hf⟩ := ck_out hf
          exact F.trans (w92 S v1 v2 v3 v4 (gI S 62 0 (gI S 58 0 v4.toNatClampNeg).toNatClampNeg) v3 hf)
      have w154 : ∀ (S : ST) (v1 : Int32) (v2 : Int32) (v3 : Int32) (v4 : Int32) (t0 : Int32) (t1 : Int32), f_X7_tellsRule_b154 E (f_X7_tellsRule_b20 E n20) S v1 v2 v3 v4 t0 t1 = some (rr, SS) → Fm ww_X7_tellsRule S SS := by
        intro S v1 v2 v3 v4 t0 t1 hf
        unfold f_X7_tellsRule_b154 at hf
        have F : Fm ww_X7_tellsRule S S := Fm.rf
        obtain ⟨-, hf⟩ := ck_out hf
        obtain ⟨S9, e_S9, hf⟩ := lt_out hf
        have F := F.sI rfl e_S9
        exact F.trans (w189 S9 v1 v2 v3 v4 hf)
      have w112 : ∀ (S : ST) (v1 : Int32) (v2 : Int32) (v3 : Int32) (v4 : Int32) (v5 : Int32), f_X7_tellsRule_b112 E (f_X7_tellsRule_b20 E n20) S v1 v2 v3 v4 v5 = some (rr, SS) → Fm ww_X7_tellsRule S SS := by
        intro S v1 v2 v3 v4 v5 hf
        unfold f_X7_tellsRule_b112 at hf
        have F : Fm ww_X7_tellsRule S S := Fm.rf
        by_cases h : v5 = (10 : Int32)
        · have hf := if_t h hf
          obtain ⟨-, hf⟩ := ck_out hf
          exact F.trans (w154 S v1 v2 v3 v4 (-(gI S 61 0 (v3 - (1 : Int32)).toNatClampNeg)) (v3 - (1 : Int32)) hf)
        · have hf := if_f h hf
          obtain ⟨-, hf⟩ := ck_out hf
          by_cases h : (gI S 61 0 (v3 - (1 : Int32)).toNatClampNeg) = 0
          · have hf := if_t h hf
            exact F.trans (w154 S v1 v2 v3 v4 (1 : Int32) (v3 - (1 : Int32)) hf)
          · have hf := if_f h hf
            exact F.trans (w154 S v1 v2 v3 v4 (0 : Int32) (v3 - (1 : Int32)) hf)
      intro S v1 v2 v3 v4 hf
      have hf : g_X7_tellsRule_b20 E (f_X7_tellsRule_b20 E n20) S v1 v2 v3 v4 = some (rr, SS) := hf
      unfold g_X7_tellsRule_b20 at hf
      have F : Fm ww_X7_tellsRule S S := Fm.rf
      obtain ⟨-, hf⟩ := ck_out hf
      by_cases h : (v2 + (gI S 59 0 (((3 : Int32) * (gI S 1 0 7)) + v1).toNatClampNeg)) ≤ v4
      · have hf := if_t h hf
        exact F.trans (w195 S hf)
      · have hf := if_f h hf
        obtain ⟨-, hf⟩ := ck_out hf
        obtain ⟨x14, e_x14, hf⟩ := lt_out hf
        by_cases h : x14 = 0
        · have hf := if_t h hf
          exact F.trans (w60 S v1 v2 v3 v4 x14 hf)
        · have hf := if_f h hf
          by_cases h : x14 = (1 : Int32)
          · have hf := if_t h hf
            exact F.trans (w60 S v1 v2 v3 v4 x14 hf)
          · have hf := if_f h hf
            by_cases h : x14 = (4 : Int32)
            · have hf := if_t h hf
              exact F.trans (w112 S v1 v2 v3 v4 x14 hf)
            · have hf := if_f h hf
              by_cases h : x14 = (10 : Int32)
              · have hf := if_t h hf
                exact F.trans (w112 S v1 v2 v3 v4 x14 hf)
              · have hf := if_f h hf
                obtain ⟨x15, e_x15, hf⟩ := lt_out hf
                obtain ⟨-, hf⟩ := ck_out hf
                obtain ⟨-, hf⟩ := ck_out hf
                obtain ⟨r18, hc, hf⟩ := bd_out hf
                obtain ⟨S19, e_S19, hf⟩ := lt_out hf
                have F := F.sI rfl e_S19
                exact F.trans (w189 S19 v1 v2 x15 v4 hf)
  unfold f_X7_tellsRule at hf
  have F : Fm ww_X7_tellsRule S S := Fm.rf
  obtain ⟨x20, e_x20, hf⟩ := lt_out hf
  exact F.trans (w20 E.1 S a1 x20 (0 : Int32) x20 hf)
def ww_X7_bounded : List (Nat × Nat) := [(61, 0), (62, 0)]
set_option maxRecDepth 100000 in
theorem fr_X7_bounded (E : EN) (S : ST) (a1 : Int32) (a2 : Int32) (a3 : Int32) (a4 : Int32) (a5 : Int32) (a6 : Int32) (rr : Int32) (SS : ST) (hf : f_X7_bounded E S a1 a2 a3 a4 a5 a6 = some (rr, SS)) : Fm ww_X7_bounded S SS := by
  have w88 : ∀ (S : ST) (v7 : Int32) (t0 : Int32), f_X7_bounded_b88 E S v7 t0 = some (rr, SS) → Fm ww_X7_bounded S SS := by
    intro S v7 t0 hf
    unfold f_X7_bounded_b88 at hf
    have F : Fm ww_X7_bounded S S := Fm.rf
    by_cases h : 0 ≤ v7
    · have hf := if_t h hf
      by_cases h : v7 ≤ t0
      · have hf := if_t h hf
        exact F.fin2 hf
      · have hf := if_f h hf
        exact F.fin2 hf
    · have hf := if_f h hf
      exact F.fin2 hf
  have w66 : ∀ (S : ST) (v6 : Int32) (t0 : Int32) (t1 : Int32), f_X7_bounded_b66 E S v6 t0 t1 = some (rr, SS) → Fm ww_X7_bounded S SS := by
    intro S v6 t0 t1 hf
    unfold f_X7_bounded_b66 at hf
    have F : Fm ww_X7_bounded S S := Fm.rf
    obtain ⟨-, hf⟩ := ck_out hf
    obtain ⟨S2, e_S2, hf⟩ := lt_out hf
    have F := F.sI rfl e_S2
    obtain ⟨r3, S4, hc, hf⟩ := bd2_out hf
    have F := F.tr (fr_X7_tellsRule E S2 v6 r3 S4 hc) rfl
    by_cases h : v6 = (2 : Int32)
    · have hf := if_t h hf
      exact F.trans (w88 S4 r3 (99 : Int32) hf)
    · have hf := if_f h hf
      exact F.trans (w88 S4 r3 (10 : Int32) hf)
  have w12 : ∀ (S : ST) (v1 : Int32) (v2 : Int32) (v3 : Int32) (v4 : Int32) (v5 : Int32) (v6 : Int32), f_X7_bounded_b12 E S v1 v2 v3 v4 v5 v6 = some (rr, SS) → Fm ww_X7_bounded S SS := by
    intro S v1 v2 v3 v4 v5 v6 hf
    unfold f_X7_bounded_b12 at hf
    have F : Fm ww_X7_bounded S S := Fm.rf
    obtain ⟨S5, e_S5, hf⟩ := lt_out hf
    have F := F.sI rfl e_S5
    obtain ⟨S6, e_S6, hf⟩ := lt_out hf
    have F := F.sI rfl e_S6
    obtain ⟨S7, e_S7, hf⟩ := lt_out hf
    have F := F.sI rfl e_S7
    obtain ⟨S8, e_S8, hf⟩ := lt_out hf
    have F := F.sI rfl e_S8
    obtain ⟨S9, e_S9, hf⟩ := lt_out hf
    have F := F.sI rfl e_S9
    by_cases h : v3 ≤ (4 : Int32)
    · have hf := if_t h hf
      exact F.trans (w66 S9 v6 ((4 : Int32) - v3) (5 : Int32) hf)
    · have hf := if_f h hf
      exact F.trans (w66 S9 v6 (0 : Int32) (5 : Int32) hf)
  unfold f_X7_bounded at hf
  have F : Fm ww_X7_bounded S S := Fm.rf
  by_cases h : a6 = 0
  · have hf := if_t h hf
    by_cases h : a1 = (4 : Int32)
    · have hf := if_t h hf
      exact F.fin2 hf
    · have hf := if_f h hf
      exact F.trans (w12 S a1 a2 a3 a4 a5 a6 hf)
  · have hf := if_f h hf
    exact F.trans (w12 S a1 a2 a3 a4 a5 a6 hf)
def ww_X7_says : List (Nat × Nat) := [(61, 0), (62, 0)]
set_option maxRecDepth 100000 in
theorem fr_X7_says (E : EN) (S : ST) (a1 : Int32) (a2 : Int32) (a3 : Int32) (rr : Int32) (SS : ST) (hf : f_X7_says E S a1 a2 a3 = some (rr, SS)) : Fm ww_X7_says S SS := by
  unfold f_X7_says at hf
  have F : Fm ww_X7_says S S := Fm.rf
  obtain ⟨r1, hc, hf⟩ := bd_out hf
  by_cases h : r1 = 0
  · have hf := if_t h hf
    exact F.fin2 hf
  · have hf := if_f h hf
    by_cases h : (4 : Int32) < (rmI (a1 / (10 : Int32)) (10 : Int32))
    · have hf := if_t h hf
      exact F.fin2 hf
    · have hf := if_f h hf
      by_cases h : (5 : Int32) < (rmI a1 (10 : Int32))
      · have hf := if_t h hf
        exact F.fin2 hf
      · have hf := if_f h hf
        obtain ⟨r2, hc, hf⟩ := bd_out hf
        by_cases h : r2 = 0
        · have hf := if_t h hf
          exact F.fin2 hf
        · have hf := if_f h hf
          by_cases h : (5 : Int32) < (rmI a2 (10 : Int32))
          · have hf := if_t h hf
            exact F.fin2 hf
          · have hf := if_f h hf
            obtain ⟨r3, hc, hf⟩ := bd_out hf
            by_cases h : r3 = 0
            · have hf := if_t h hf
              exact F.fin2 hf
            · have hf := if_f h hf
              obtain ⟨r4, S5, hc, hf⟩ := bd2_out hf
              have F := F.tr (fr_X7_bounded E S (a1 / (100 : Int32)) (rmI (a1 / (10 : Int32)) (10 : Int32)) (rmI a1 (10 : Int32)) (a2 / (10 : Int32)) (rmI a2 (10 : Int32)) a3 r4 S5 hc) rfl
              exact F.fin2 hf
def ww_X7_layRule : List (Nat × Nat) := [(61, 0), (62, 0), (63, 0), (64, 0), (65, 0)]
set_option maxRecDepth 100000 in
theorem fr_X7_layRule (E : EN) (S : ST) (a1 : Int32) (SS : ST) (hf : f_X7_layRule E S a1 = some SS) : Fm ww_X7_layRule S SS := by
  have w2 : ∀ (n2 : Nat) (S : ST) (v1 : Int32) (v2 : Int32), f_X7_layRule_b2 E n2 S v1 v2 = some SS → Fm ww_X7_layRule S SS := by
    intro n2
    induction n2 with
    | zero =>
      intro S v1 v2 hf
      exact absurd (show (none : Option ST) = some SS from hf) (fun h => by cases h)
    | succ n2 ih2 =>
      have w148 : ∀ (S : ST) (v1 : Int32) (v2 : Int32), f_X7_layRule_b148 E (f_X7_layRule_b2 E n2) S v1 v2 = some SS → Fm ww_X7_layRule S SS := by
        intro S v1 v2 hf
        unfold f_X7_layRule_b148 at hf
        have F : Fm ww_X7_layRule S S := Fm.rf
        obtain ⟨x1, e_x1, hf⟩ := lt_out hf
        exact F.trans (ih2 S v1 x1 hf)
      have w9 : ∀ (n9 : Nat) (S : ST) (v1 : Int32) (v2 : Int32) (v3 : Int32), f_X7_layRule_b9 E (f_X7_layRule_b2 E n2) n9 S v1 v2 v3 = some SS → Fm ww_X7_layRule S SS := by
        intro n9
        induction n9 with
        | zero =>
          intro S v1 v2 v3 hf
          exact absurd (show (none : Option ST) = some SS from hf) (fun h => by cases h)
        | succ n9 ih9 =>
          have w142 : ∀ (S : ST) (v1 : Int32) (v2 : Int32) (v3 : Int32), f_X7_layRule_b142 E (f_X7_layRule_b2 E n2) (f_X7_layRule_b9 E (f_X7_layRule_b2 E n2) n9) S v1 v2 v3 = some SS → Fm ww_X7_layRule S SS := by
            intro S v1 v2 v3 hf
            unfold f_X7_layRule_b142 at hf
            have F : Fm ww_X7_layRule S S := Fm.rf
            obtain ⟨x2, e_x2, hf⟩ := lt_out hf
            exact F.trans (ih9 S v1 v2 x2 hf)
          have w18 : ∀ (n18 : Nat) (S : ST) (v1 : Int32) (v2 : Int32) (v3 : Int32) (v4 : Int32), f_X7_layRule_b18 E (f_X7_layRule_b2 E n2) (f_X7_layRule_b9 E (f_X7_layRule_b2 E n2) n9) n18 S v1 v2 v3 v4 = some SS → Fm ww_X7_layRule S SS := by
            intro n18
            induction n18 with
            | zero =>
              intro S v1 v2 v3 v4 hf
              exact absurd (show (none : Option ST) = some SS from hf) (fun h => by cases h)
            | succ n18 ih18 =>
              have w136 : ∀ (S : ST) (v1 : Int32) (v2 : Int32) (v3 : Int32) (v4 : Int32), f_X7_layRule_b136 E (f_X7_layRule_b2 E n2) (f_X7_layRule_b9 E (f_X7_layRule_b2 E n2) n9) (f_X7_layRule_b18 E (f_X7_layRule_b2 E n2) (f_X7_layRule_b9 E (f_X7_layRule_b2 E n2) n9) n18) S v1 v2 v3 v4 = some SS → Fm ww_X7_layRule S SS := by
                intro S v1 v2 v3 v4 hf
                unfold f_X7_layRule_b136 at hf
                have F : Fm ww_X7_layRule S S := Fm.rf
                obtain ⟨x3, e_x3, hf⟩ := lt_out hf
                exact F.trans (ih18 S v1 v2 v3 x3 hf)
              have w54 : ∀ (n54 : Nat) (S : ST) (v1 : Int32) (v2 : Int32) (v3 : Int32) (v4 : Int32) (v5 : Int32), f_X7_layRule_b54 E (f_X7_layRule_b2 E n2) (f_X7_layRule_b9 E (f_X7_layRule_b2 E n2) n9) (f_X7_layRule_b18 E (f_X7_layRule_b2 E n2) (f_X7_layRule_b9 E (f_X7_layRule_b2 E n2) n9) n18) n54 S v1 v2 v3 v4 v5 = some SS → Fm ww_X7_layRule S SS := by
                intro n54
                induction n54 with
                | zero =>
                  intro S v1 v2 v3 v4 v5 hf
                  exact absurd (show (none : Option ST) = some SS from hf) (fun h => by cases h)
                | succ n54 ih54 =>
                  intro S v1 v2 v3 v4 v5 hf
                  have hf : g_X7_layRule_b54 E (f_X7_layRule_b2 E n2) (f_X7_layRule_b9 E (f_X7_layRule_b2 E n2) n9) (f_X7_layRule_b18 E (f_X7_layRule_b2 E n2) (f_X7_layRule_b9 E (f_X7_layRule_b2 E n2) n9) n18) (f_X7_layRule_b54 E (f_X7_layRule_b2 E n2) (f_X7_layRule_b9 E (f_X7_layRule_b2 E n2) n9) (f_X7_layRule_b18 E (f_X7_layRule_b2 E n2) (f_X7_layRule_b9 E (f_X7_layRule_b2 E n2) n9) n18) n54) S v1 v2 v3 v4 v5 = some SS := hf
                  unfold g_X7_layRule_b54 at hf
                  have F : Fm ww_X7_layRule S S := Fm.rf
                  by_cases h : (5 : Int32) ≤ v5
                  · have hf := if_t h hf
                    exact F.trans (w136 S v1 v2 v3 v4 hf)
                  · have hf := if_f h hf
                    obtain ⟨r4, S5, hc, hf⟩ := bd2_out hf
                    have F := F.tr (fr_X7_bounded E S v4 v2 v5 v1 v3 (0 : Int32) r4 S5 hc) rfl
                    obtain ⟨-, hf⟩ := ck_out hf
                    obtain ⟨S7, e_S7, hf⟩ := lt_out hf
                    have F := F.sI rfl e_S7
                    obtain ⟨r8, S9, hc, hf⟩ := bd2_out hf
                    have F := F.tr (fr_X7_bounded E S7 v4 v2 v5 v1 v3 (1 : Int32) r8 S9 hc) rfl
                    obtain ⟨S10, e_S10, hf⟩ := lt_out hf
                    have F := F.sI rfl e_S10
                    obtain ⟨x11, e_x11, hf⟩ := lt_out hf
                    exact F.trans (ih54 S10 v1 v2 v3 v4 x11 hf)
              intro S v1 v2 v3 v4 hf
              have hf : g_X7_layRule_b18 E (f_X7_layRule_b2 E n2) (f_X7_layRule_b9 E (f_X7_layRule_b2 E n2) n9) (f_X7_layRule_b18 E (f_X7_layRule_b2 E n2) (f_X7_layRule_b9 E (f_X7_layRule_b2 E n2) n9) n18) S v1 v2 v3 v4 = some SS := hf
              unfold g_X7_layRule_b18 at hf
              have F : Fm ww_X7_layRule S S := Fm.rf
              by_cases h : (5 : Int32) ≤ v4
              · have hf := if_t h hf
                exact F.trans (w142 S v1 v2 v3 hf)
              · have hf := if_f h hf
                obtain ⟨r12, S13, hc, hf⟩ := bd2_out hf
                have F := F.tr (fr_X7_bounded E S v4 v2 (5 : Int32) v1 v3 (2 : Int32) r12 S13 hc) rfl
                obtain ⟨-, hf⟩ := ck_out hf
                obtain ⟨S15, e_S15, hf⟩ := lt_out hf
                have F := F.sI rfl e_S15
                exact F.trans (w54 E.1 S15 v1 v2 v3 v4 (0 : Int32) hf)
          intro S v1 v2 v3 hf
          have hf : g_X7_layRule_b9 E (f_X7_layRule_b2 E n2) (f_X7_layRule_b9 E (f_X7_layRule_b2 E n2) n9) S v1 v2 v3 = some SS := hf
          unfold g_X7_layRule_b9 at hf
          have F : Fm ww_X7_layRule S S := Fm.rf
          by_cases h : (6 : Int32) ≤ v3
          · have hf := if_t h hf
            exact F.trans (w148 S v1 v2 hf)
          · have hf := if_f h hf
            exact F.trans (w18 E.1 S v1 v2 v3 (0 : Int32) hf)
      intro S v1 v2 hf
      have hf : g_X7_layRule_b2 E (f_X7_layRule_b2 E n2) S v1 v2 = some SS := hf
      unfold g_X7_layRule_b2 at hf
      have F : Fm ww_X7_layRule S S := Fm.rf
      by_cases h : (5 : Int32) ≤ v2
      · have hf := if_t h hf
        exact F.fin1 hf
      · have hf := if_f h hf
        exact F.trans (w9 E.1 S v1 v2 (0 : Int32) hf)
  unfold f_X7_layRule at hf
  have F : Fm ww_X7_layRule S S := Fm.rf
  exact F.trans (w2 E.1 S a1 (0 : Int32) hf)
def ww_X7_goWeek : List (Nat × Nat) := [(66, 0)]
set_option maxRecDepth 100000 in
theorem fr_X7_goWeek (E : EN) (S : ST) (a1 : Int32) (a2 : Int32) (SS : ST) (hf : f_X7_goWeek E S a1 a2 = some SS) : Fm ww_X7_goWeek S SS := by
  have w31 : ∀ (n31 : Nat) (S : ST) (v1 : Int32) (v2 : Int32) (v3 : Int32) (v4 : Int64) (v6 : Int32), f_X7_goWeek_b31 E n31 S v1 v2 v3 v4 v6 = some SS → Fm ww_X7_goWeek S SS := by
    intro n31
    induction n31 with
    | zero =>
      intro S v1 v2 v3 v4 v6 hf
      exact absurd (show (none : Option ST) = some SS from hf) (fun h => by cases h)
    | succ n31 ih31 =>
      have w129 : ∀ (S : ST) (v1 : Int32) (v2 : Int32) (v3 : Int32) (v4 : Int64) (v6 : Int32) (t0 : Int32) (t1 : Int64) (t2 : Int32), f_X7_goWeek_b129 E (f_X7_goWeek_b31 E n31) S v1 v2 v3 v4 v6 t0 t1 t2 = some SS → Fm ww_X7_goWeek S SS := by
        intro S v1 v2 v3 v4 v6 t0 t1 t2 hf
        unfold f_X7_goWeek_b129 at hf
        have F : Fm ww_X7_goWeek S S := Fm.rf
        obtain ⟨-, hf⟩ := ck_out hf
        obtain ⟨S2, e_S2, hf⟩ := lt_out hf
        have F := F.sL rfl e_S2
        obtain ⟨x3, e_x3, hf⟩ := lt_out hf
        exact F.trans (ih31 S2 v1 v2 v3 v4 x3 hf)
      intro S v1 v2 v3 v4 v6 hf
      have hf : g_X7_goWeek_b31 E (f_X7_goWeek_b31 E n31) S v1 v2 v3 v4 v6 = some SS := hf
      unfold g_X7_goWeek_b31 at hf
      have F : Fm ww_X7_goWeek S S := Fm.rf
      by_cases h : (5 : Int32) ≤ v6
      · have hf := if_t h hf
        exact F.fin1 hf
      · have hf := if_f h hf
        obtain ⟨-, hf⟩ := ck_out hf
        obtain ⟨x5, e_x5, hf⟩ := lt_out hf
        obtain ⟨-, hf⟩ := ck_out hf
        obtain ⟨x7, e_x7, hf⟩ := lt_out hf
        obtain ⟨x8, e_x8, hf⟩ := lt_out hf
        by_cases h : v2 = (1 : Int32)
        · have hf := if_t h hf
          exact F.trans (w129 S v1 v2 v3 x8 v6 (gI S 64 0 (v3 + v6).toNatClampNeg) x7 ((((5 : Int32) * v1) + (5 : Int32)) + v6) hf)
        · have hf := if_f h hf
          exact F.trans (w129 S v1 v2 v3 x8 v6 ((10 : Int32) - (gI S 64 0 (v3 + v6).toNatClampNeg)) x7 ((((5 : Int32) * v1) + (5 : Int32)) + v6) hf)
  unfold f_X7_goWeek at hf
  have F : Fm ww_X7_goWeek S S := Fm.rf
  obtain ⟨-, hf⟩ := ck_out hf
  obtain ⟨x10, e_x10, hf⟩ := lt_out hf
  exact F.trans (w31 E.1 S a1 a2 x10 (0 : Int64) (0 : Int32) hf)
def ww_X7_move : List (Nat × Nat) := [(67, 0), (68, 0), (69, 0)]
set_option maxRecDepth 100000 in
theorem fr_X7_move (E : EN) (S : ST) (a1 : Int32) (a2 : Int32) (SS : ST) (hf : f_X7_move E S a1 a2 = some SS) : Fm ww_X7_move S SS := by
  have w79 : ∀ (S : ST) (t0 : Int32) (t1 : Int32) (t2 : Int32), f_X7_move_b79 E S t0 t1 t2 = some SS → Fm ww_X7_move S SS := by
    intro S t0 t1 t2 hf
    unfold f_X7_move_b79 at hf
    have F : Fm ww_X7_move S S := Fm.rf
    obtain ⟨-, hf⟩ := ck_out hf
    obtain ⟨S2, e_S2, hf⟩ := lt_out hf
    have F := F.sI rfl e_S2
    exact F.fin1 hf
  have w49 : ∀ (S : ST) (v1 : Int32) (t0 : Int32) (t1 : Int32), f_X7_move_b49 E S v1 t0 t1 = some SS → Fm ww_X7_move S SS := by
    intro S v1 t0 t1 hf
    unfold f_X7_move_b49 at hf
    have F : Fm ww_X7_move S S := Fm.rf
    obtain ⟨-, hf⟩ := ck_out hf
    obtain ⟨S4, e_S4, hf⟩ := lt_out hf
    have F := F.sI rfl e_S4
    obtain ⟨-, hf⟩ := ck_out hf
    obtain ⟨-, hf⟩ := ck_out hf
    by_cases h : (gI S4 69 0 (v1 + (1 : Int32)).toNatClampNeg) = 0
    · have hf := if_t h hf
      exact F.trans (w79 S4 (0 : Int32) (gI S4 68 0 v1.toNatClampNeg) (v1 + (1 : Int32)) hf)
    · have hf := if_f h hf
      exact F.trans (w79 S4 (1 : Int32) (gI S4 68 0 v1.toNatClampNeg) (v1 + (1 : Int32)) hf)
  unfold f_X7_move at hf
  have F : Fm ww_X7_move S S := Fm.rf
  obtain ⟨-, hf⟩ := ck_out hf
  obtain ⟨r8, hc, hf⟩ := bd_out hf
  obtain ⟨-, hf⟩ := ck_out hf
  obtain ⟨S10, e_S10, hf⟩ := lt_out hf
  have F := F.sI rfl e_S10
  by_cases h : (gI S10 67 0 (a1 + (1 : Int32)).toNatClampNeg) = (gI S10 67 0 a1.toNatClampNeg)
  · have hf := if_t h hf
    exact F.trans (w49 S10 a1 (0 : Int32) (a1 + (1 : Int32)) hf)
  · have hf := if_f h hf
    exact F.trans (w49 S10 a1 (1 : Int32) (a1 + (1 : Int32)) hf)
def ww_X7_begin : List (Nat × Nat) := [(1, 31), (66, 0), (67, 0), (68, 0), (69, 0)]
set_option maxRecDepth 100000 in
theorem fr_X7_begin (E : EN) (S : ST) (a1 : Int32) (a2 : Int32) (SS : ST) (hf : f_X7_begin E S a1 a2 = some SS) : Fm ww_X7_begin S SS := by
  have w30 : ∀ (S : ST) (v2 : Int32), f_X7_begin_b30 E S v2 = some SS → Fm ww_X7_begin S SS := by
    intro S v2 hf
    unfold f_X7_begin_b30 at hf
    have F : Fm ww_X7_begin S S := Fm.rf
    obtain ⟨S1, e_S1, hf⟩ := lt_out hf
    have F := F.sI rfl e_S1
    obtain ⟨S2, e_S2, hf⟩ := lt_out hf
    have F := F.sI rfl e_S2
    obtain ⟨S3, e_S3, hf⟩ := lt_out hf
    have F := F.sI rfl e_S3
    obtain ⟨S4, e_S4, hf⟩ := lt_out hf
    have F := F.sI rfl e_S4
    exact F.fin1 hf
  have w2 : ∀ (n2 : Nat) (S : ST) (v1 : Int32) (v2 : Int32) (v3 : Int32), f_X7_begin_b2 E n2 S v1 v2 v3 = some SS → Fm ww_X7_begin S SS := by
    intro n2
    induction n2 with
    | zero =>
      intro S v1 v2 v3 hf
      exact absurd (show (none : Option ST) = some SS from hf) (fun h => by cases h)
    | succ n2 ih2 =>
      intro S v1 v2 v3 hf
      have hf : g_X7_begin_b2 E (f_X7_begin_b2 E n2) S v1 v2 v3 = some SS := hf
      unfold g_X7_begin_b2 at hf
      have F : Fm ww_X7_begin S S := Fm.rf
      by_cases h : (5 : Int32) ≤ v3
      · have hf := if_t h hf
        exact F.trans (w30 S v2 hf)
      · have hf := if_f h hf
        obtain ⟨-, hf⟩ := ck_out hf
        obtain ⟨-, hf⟩ := ck_out hf
        obtain ⟨S7, e_S7, hf⟩ := lt_out hf
        have F := F.sL rfl e_S7
        obtain ⟨x8, e_x8, hf⟩ := lt_out hf
        exact F.trans (ih2 S7 v1 v2 x8 hf)
  unfold f_X7_begin at hf
  have F : Fm ww_X7_begin S S := Fm.rf
  exact F.trans (w2 E.1 S a1 a2 (0 : Int32) hf)
def ww_X7_go : List (Nat × Nat) := [(1, 31), (66, 0), (67, 0), (68, 0), (69, 0)]
set_option maxRecDepth 100000 in
theorem fr_X7_go (E : EN) (S : ST) (a1 : Int32) (a2 : Int32) (a3 : Int32) (a4 : Int32) (a5 : Int32) (a6 : Int32) (SS : ST) (hf : f_X7_go E S a1 a2 a3 a4 a5 a6 = some SS) : Fm ww_X7_go S SS := by
  have w9 : ∀ (n9 : Nat) (S : ST) (v3 : Int32) (v4 : Int32) (v5 : Int32) (v6 : Int32) (v7 : Int32), f_X7_go_b9 E n9 S v3 v4 v5 v6 v7 = some SS → Fm ww_X7_go S SS := by
    intro n9
    induction n9 with
    | zero =>
      intro S v3 v4 v5 v6 v7 hf
      exact absurd (show (none : Option ST) = some SS from hf) (fun h => by cases h)
    | succ n9 ih9 =>
      intro S v3 v4 v5 v6 v7 hf
      have hf : g_X7_go_b9 E (f_X7_go_b9 E n9) S v3 v4 v5 v6 v7 = some SS := hf
      unfold g_X7_go_b9 at hf
      have F : Fm ww_X7_go S S := Fm.rf
      by_cases h : v5 ≤ v7
      · have hf := if_t h hf
        exact F.fin1 hf
      · have hf := if_f h hf
        obtain ⟨S1, hc, hf⟩ := bd_out hf
        have F := F.tr (fr_X7_goWeek E S v7 ((v6 >>> (v7 &&& 31)) &&& (1 : Int32)) S1 hc) rfl
        obtain ⟨r2, hc, hf⟩ := bd_out hf
        obtain ⟨S3, e_S3, hf⟩ := lt_out hf
        have F := F.sI rfl e_S3
        obtain ⟨S4, hc, hf⟩ := bd_out hf
        have F := F.tr (fr_X7_move E S3 v7 (gI S3 1 0 30) S4 hc) rfl
        obtain ⟨x5, e_x5, hf⟩ := lt_out hf
        exact F.trans (ih9 S4 v3 v4 v5 v6 x5 hf)
  unfold f_X7_go at hf
  have F : Fm ww_X7_go S S := Fm.rf
  obtain ⟨S6, hc, hf⟩ := bd_out hf
  have F := F.tr (fr_X7_begin E S a1 a2 S6 hc) rfl
  exact F.trans (w9 E.1 S6 a3 a4 a5 a6 (0 : Int32) hf)
def ww_X7_goMarks : List (Nat × Nat) := [(1, 31), (61, 0), (62, 0), (63, 0), (64, 0), (65, 0), (66, 0), (67, 0), (68, 0), (69, 0)]
set_option maxRecDepth 100000 in
theorem fr_X7_goMarks (E : EN) (S : ST) (a1 : Int32) (a2 : Int32) (SS : ST) (hf : f_X7_goMarks E S a1 a2 = some SS) : Fm ww_X7_goMarks S SS := by
  unfold f_X7_goMarks at hf
  have F : Fm ww_X7_goMarks S S := Fm.rf
  obtain ⟨-, hf⟩ := ck_out hf
  obtain ⟨S2, hc, hf⟩ := bd_out hf
  have F := F.tr (fr_X7_layRule E S (gI S 43 0 a1.toNatClampNeg) S2 hc) rfl
  obtain ⟨S3, hc, hf⟩ := bd_out hf
  have F := F.tr (fr_X7_go E S2 a1 (gI S2 42 0 a1.toNatClampNeg) (gI S2 41 0 a1.toNatClampNeg) (gI S2 44 0 a1.toNatClampNeg) (a2 / (100 : Int32)) (rmI a2 (100 : Int32)) S3 hc) rfl
  exact F.fin1 hf
def ww_X7_thought : List (Nat × Nat) := [(1, 31), (61, 0), (62, 0), (63, 0), (64, 0), (65, 0), (66, 0), (67, 0), (68, 0), (69, 0)]
set_option maxRecDepth 100000 in
theorem fr_X7_thought (E : EN) (S : ST) (a1 : Int32) (a2 : Int32) (a3 : Int32) (a4 : Int32) (rr : Int64) (SS : ST) (hf : f_X7_thought E S a1 a2 a3 a4 = some (rr, SS)) : Fm ww_X7_thought S SS := by
  unfold f_X7_thought at hf
  have F : Fm ww_X7_thought S S := Fm.rf
  obtain ⟨r1, hc, hf⟩ := bd_out hf
  by_cases h : r1 = 0
  · have hf := if_t h hf
    exact F.fin2 hf
  · have hf := if_f h hf
    obtain ⟨r2, hc, hf⟩ := bd_out hf
    by_cases h : r2 = 0
    · have hf := if_t h hf
      exact F.fin2 hf
    · have hf := if_f h hf
      obtain ⟨r3, hc, hf⟩ := bd_out hf
      by_cases h : r3 = 0
      · have hf := if_t h hf
        exact F.fin2 hf
      · have hf := if_f h hf
        obtain ⟨r4, hc, hf⟩ := bd_out hf
        by_cases h : r4 = 0
        · have hf := if_t h hf
          exact F.fin2 hf
        · have hf := if_f h hf
          obtain ⟨S5, hc, hf⟩ := bd_out hf
          have F := F.tr (fr_X7_goMarks E S a1 a2 S5 hc) rfl
          obtain ⟨-, hf⟩ := ck_out hf
          obtain ⟨r7, hc, hf⟩ := bd_out hf
          obtain ⟨r8, hc, hf⟩ := bd_out hf
          exact F.fin2 hf
def ww_X7_moves : List (Nat × Nat) := [(1, 31), (61, 0), (62, 0), (63, 0), (64, 0), (65, 0), (66, 0), (67, 0), (68, 0), (69, 0)]
set_option maxRecDepth 100000 in
theorem fr_X7_moves (E : EN) (S : ST) (a1 : Int32) (a2 : Int32) (a3 : Int32) (rr : Int32) (SS : ST) (hf : f_X7_moves E S a1 a2 a3 = some (rr, SS)) : Fm ww_X7_moves S SS := by
  unfold f_X7_moves at hf
  have F : Fm ww_X7_moves S S := Fm.rf
  obtain ⟨r1, hc, hf⟩ := bd_out hf
  by_cases h : r1 = 0
  · have hf := if_t h hf
    exact F.fin2 hf
  · have hf := if_f h hf
    obtain ⟨r2, hc, hf⟩ := bd_out hf
    by_cases h : r2 = 0
    · have hf := if_t h hf
      exact F.fin2 hf
    · have hf := if_f h hf
      obtain ⟨r3, hc, hf⟩ := bd_out hf
      by_cases h : r3 = 0
      · have hf := if_t h hf
        exact F.fin2 hf
      · have hf := if_f h hf
        obtain ⟨S4, hc, hf⟩ := bd_out hf
        have F := F.tr (fr_X7_goMarks E S a1 a2 S4 hc) rfl
        by_cases h : a3 = 0
        · have hf := if_t h hf
          obtain ⟨-, hf⟩ := ck_out hf
          exact F.fin2 hf
        · have hf := if_f h hf
          by_cases h : a3 = (1 : Int32)
          · have hf := if_t h hf
            obtain ⟨-, hf⟩ := ck_out hf
            exact F.fin2 hf
          · have hf := if_f h hf
            exact F.fin2 hf
def ww_X7_likely : List (Nat × Nat) := [(1, 31), (61, 0), (62, 0), (63, 0), (64, 0), (65, 0), (66, 0), (67, 0), (68, 0), (69, 0)]
set_option maxRecDepth 100000 in
theorem fr_X7_likely (E : EN) (S : ST) (a1 : Int32) (a2 : Int32) (a3 : Int32) (rr : Int64) (SS : ST) (hf : f_X7_likely E S a1 a2 a3 = some (rr, SS)) : Fm ww_X7_likely S SS := by
  unfold f_X7_likely at hf
  have F : Fm ww_X7_likely S S := Fm.rf
  obtain ⟨r1, hc, hf⟩ := bd_out hf
  by_cases h : r1 = 0
  · have hf := if_t h hf
    exact F.fin2 hf
  · have hf := if_f h hf
    obtain ⟨r2, hc, hf⟩ := bd_out hf
    by_cases h : r2 = 0
    · have hf := if_t h hf
      exact F.fin2 hf
    · have hf := if_f h hf
      obtain ⟨r3, hc, hf⟩ := bd_out hf
      by_cases h : r3 = 0
      · have hf := if_t h hf
        exact F.fin2 hf
      · have hf := if_f h hf
        obtain ⟨S4, hc, hf⟩ := bd_out hf
        have F := F.tr (fr_X7_goMarks E S a1 a2 S4 hc) rfl
        obtain ⟨x5, e_x5, hf⟩ := lt_out hf
        by_cases h : (2 : Int32) ≤ a3
        · have hf := if_t h hf
          obtain ⟨-, hf⟩ := ck_out hf
          obtain ⟨r7, hc, hf⟩ := bd_out hf
          obtain ⟨r8, hc, hf⟩ := bd_out hf
          obtain ⟨r9, hc, hf⟩ := bd_out hf
          exact F.fin2 hf
        · have hf := if_f h hf
          obtain ⟨r10, hc, hf⟩ := bd_out hf
          obtain ⟨r11, hc, hf⟩ := bd_out hf
          obtain ⟨r12, hc, hf⟩ := bd_out hf
          obtain ⟨r13, hc, hf⟩ := bd_out hf
          exact F.fin2 hf
def ww_X7_meanOf : List (Nat × Nat) := [(1, 31), (1, 32), (66, 0), (67, 0), (68, 0), (69, 0)]
set_option maxRecDepth 100000 in
theorem fr_X7_meanOf (E : EN) (S : ST) (a1 : Int32) (a2 : Int32) (a3 : Int32) (a4 : Int32) (rr : Int64) (SS : ST) (hf : f_X7_meanOf E S a1 a2 a3 a4 = some (rr, SS)) : Fm ww_X7_meanOf S SS := by
  have w11 : ∀ (n11 : Nat) (S : ST) (v1 : Int32) (v2 : Int32) (v3 : Int32) (v4 : Int32) (v5 : Int64) (v7 : Int32), f_X7_meanOf_b11 E n11 S v1 v2 v3 v4 v5 v7 = some (rr, SS) → Fm ww_X7_meanOf S SS := by
    intro n11
    induction n11 with
    | zero =>
      intro S v1 v2 v3 v4 v5 v7 hf
      exact absurd (show (none : Option (Int64 × ST)) = some (rr, SS) from hf) (fun h => by cases h)
    | succ n11 ih11 =>
      have w60 : ∀ (S : ST) (v1 : Int32) (v2 : Int32) (v3 : Int32) (v4 : Int32) (v5 : Int64) (v7 : Int32) (v8 : Int32), f_X7_meanOf_b60 E (f_X7_meanOf_b11 E n11) S v1 v2 v3 v4 v5 v7 v8 = some (rr, SS) → Fm ww_X7_meanOf S SS := by
        intro S v1 v2 v3 v4 v5 v7 v8 hf
        unfold f_X7_meanOf_b60 at hf
        have F : Fm ww_X7_meanOf S S := Fm.rf
        obtain ⟨r1, hc, hf⟩ := bd_out hf
        obtain ⟨S2, e_S2, hf⟩ := lt_out hf
        have F := F.sL rfl e_S2
        obtain ⟨r3, hc, hf⟩ := bd_out hf
        obtain ⟨x4, e_x4, hf⟩ := lt_out hf
        obtain ⟨x5, e_x5, hf⟩ := lt_out hf
        exact F.trans (ih11 S2 v1 v2 v3 v4 x4 x5 hf)
      have w36 : ∀ (n36 : Nat) (S : ST) (v1 : Int32) (v2 : Int32) (v3 : Int32) (v4 : Int32) (v5 : Int64) (v7 : Int32) (v8 : Int32) (v9 : Int32), f_X7_meanOf_b36 E (f_X7_meanOf_b11 E n11) n36 S v1 v2 v3 v4 v5 v7 v8 v9 = some (rr, SS) → Fm ww_X7_meanOf S SS := by
        intro n36
        induction n36 with
        | zero =>
          intro S v1 v2 v3 v4 v5 v7 v8 v9 hf
          exact absurd (show (none : Option (Int64 × ST)) = some (rr, SS) from hf) (fun h => by cases h)
        | succ n36 ih36 =>
          intro S v1 v2 v3 v4 v5 v7 v8 v9 hf
          have hf : g_X7_meanOf_b36 E (f_X7_meanOf_b11 E n11) (f_X7_meanOf_b36 E (f_X7_meanOf_b11 E n11) n36) S v1 v2 v3 v4 v5 v7 v8 v9 = some (rr, SS) := hf
          unfold g_X7_meanOf_b36 at hf
          have F : Fm ww_X7_meanOf S S := Fm.rf
          by_cases h : (5 : Int32) ≤ v9
          · have hf := if_t h hf
            exact F.trans (w60 S v1 v2 v3 v4 v5 v7 v8 hf)
          · have hf := if_f h hf
            obtain ⟨x6, e_x6, hf⟩ := lt_out hf
            obtain ⟨x7, e_x7, hf⟩ := lt_out hf
            exact F.trans (ih36 S v1 v2 v3 v4 v5 v7 x6 x7 hf)
      intro S v1 v2 v3 v4 v5 v7 hf
      have hf : g_X7_meanOf_b11 E (f_X7_meanOf_b11 E n11) S v1 v2 v3 v4 v5 v7 = some (rr, SS) := hf
      unfold g_X7_meanOf_b11 at hf
      have F : Fm ww_X7_meanOf S S := Fm.rf
      by_cases h : (32 : Int32) ≤ v7
      · have hf := if_t h hf
        exact F.fin2 hf
      · have hf := if_f h hf
        obtain ⟨S8, hc, hf⟩ := bd_out hf
        have F := F.tr (fr_X7_go E S v1 v2 v3 v4 (5 : Int32) v7 S8 hc) rfl
        exact F.trans (w36 E.1 S8 v1 v2 v3 v4 v5 v7 (0 : Int32) (0 : Int32) hf)
  unfold f_X7_meanOf at hf
  have F : Fm ww_X7_meanOf S S := Fm.rf
  obtain ⟨S9, e_S9, hf⟩ := lt_out hf
  have F := F.sL rfl e_S9
  exact F.trans (w11 E.1 S9 a1 a2 a3 a4 (0 : Int64) (0 : Int32) hf)
def ww_X7_enter : List (Nat × Nat) := [(72, 0), (73, 0), (74, 0), (75, 0)]
set_option maxRecDepth 100000 in
theorem fr_X7_enter (E : EN) (S : ST) (a1 : Int32) (SS : ST) (hf : f_X7_enter E S a1 = some SS) : Fm ww_X7_enter S SS := by
  unfold f_X7_enter at hf
  have F : Fm ww_X7_enter S S := Fm.rf
  obtain ⟨-, hf⟩ := ck_out hf
  obtain ⟨S2, e_S2, hf⟩ := lt_out hf
  have F := F.sI rfl e_S2
  obtain ⟨S3, e_S3, hf⟩ := lt_out hf
  have F := F.sI rfl e_S3
  obtain ⟨S4, e_S4, hf⟩ := lt_out hf
  have F := F.sL rfl e_S4
  obtain ⟨S5, e_S5, hf⟩ := lt_out hf
  have F := F.sL rfl e_S5
  exact F.fin1 hf
def ww_X7_bestOf : List (Nat × Nat) := [(1, 31), (66, 0), (67, 0), (68, 0), (69, 0), (72, 0), (73, 0), (74, 0), (75, 0)]
set_option maxRecDepth 100000 in
theorem fr_X7_bestOf (E : EN) (S : ST) (a1 : Int32) (rr : Int64) (SS : ST) (hf : f_X7_bestOf E S a1 = some (rr, SS)) : Fm ww_X7_bestOf S SS := by
  have w18 : ∀ (n18 : Nat) (S : ST) (v2 : Int32), f_X7_bestOf_b18 E n18 S v2 = some (rr, SS) → Fm ww_X7_bestOf S SS := by
    intro n18
    induction n18 with
    | zero =>
      intro S v2 hf
      exact absurd (show (none : Option (Int64 × ST)) = some (rr, SS) from hf) (fun h => by cases h)
    | succ n18 ih18 =>
      have w189 : ∀ (S : ST) (v2 : Int32) (t0 : Int64) (t1 : Int32), f_X7_bestOf_b189 E (f_X7_bestOf_b18 E n18) S v2 t0 t1 = some (rr, SS) → Fm ww_X7_bestOf S SS := by
        intro S v2 t0 t1 hf
        unfold f_X7_bestOf_b189 at hf
        have F : Fm ww_X7_bestOf S S := Fm.rf
        obtain ⟨-, hf⟩ := ck_out hf
        obtain ⟨S2, e_S2, hf⟩ := lt_out hf
        have F := F.sL rfl e_S2
        exact F.trans (ih18 S2 v2 hf)
      have w153 : ∀ (S : ST) (v2 : Int32) (t0 : Int64), f_X7_bestOf_b153 E (f_X7_bestOf_b18 E n18) S v2 t0 = some (rr, SS) → Fm ww_X7_bestOf S SS := by
        intro S v2 t0 hf
        unfold f_X7_bestOf_b153 at hf
        have F : Fm ww_X7_bestOf S S := Fm.rf
        by_cases h : v2 = 0
        · have hf := if_t h hf
          exact F.fin2 hf
        · have hf := if_f h hf
          obtain ⟨x3, e_x3, hf⟩ := lt_out hf
          obtain ⟨-, hf⟩ := ck_out hf
          by_cases h : t0 ≤ (gL S 74 0 x3.toNatClampNeg)
          · have hf := if_t h hf
            exact F.trans (w189 S x3 (gL S 74 0 x3.toNatClampNeg) x3 hf)
          · have hf := if_f h hf
            exact F.trans (w189 S x3 t0 x3 hf)
      have w135 : ∀ (S : ST) (v2 : Int32), f_X7_bestOf_b135 E (f_X7_bestOf_b18 E n18) S v2 = some (rr, SS) → Fm ww_X7_bestOf S SS := by
        intro S v2 hf
        unfold f_X7_bestOf_b135 at hf
        have F : Fm ww_X7_bestOf S S := Fm.rf
        by_cases h : v2 = (5 : Int32)
        · have hf := if_t h hf
          obtain ⟨r6, hc, hf⟩ := bd_out hf
          exact F.trans (w153 S v2 r6 hf)
        · have hf := if_f h hf
          obtain ⟨-, hf⟩ := ck_out hf
          exact F.trans (w153 S v2 (gL S 75 0 v2.toNatClampNeg) hf)
      have w76 : ∀ (S : ST) (v2 : Int32), f_X7_bestOf_b76 E (f_X7_bestOf_b18 E n18) S v2 = some (rr, SS) → Fm ww_X7_bestOf S SS := by
        intro S v2 hf
        unfold f_X7_bestOf_b76 at hf
        have F : Fm ww_X7_bestOf S S := Fm.rf
        by_cases h : (5 : Int32) ≤ v2
        · have hf := if_t h hf
          exact F.trans (w135 S v2 hf)
        · have hf := if_f h hf
          obtain ⟨-, hf⟩ := ck_out hf
          obtain ⟨S8, e_S8, hf⟩ := lt_out hf
          have F := F.sL rfl e_S8
          obtain ⟨S9, e_S9, hf⟩ := lt_out hf
          have F := F.sI rfl e_S9
          obtain ⟨S10, e_S10, hf⟩ := lt_out hf
          have F := F.sI rfl e_S10
          obtain ⟨S11, e_S11, hf⟩ := lt_out hf
          have F := F.sL rfl e_S11
          by_cases h : (2 : Int32) ≤ (gI S11 72 0 v2.toNatClampNeg)
          · have hf := if_t h hf
            exact F.trans (w135 S11 v2 hf)
          · have hf := if_f h hf
            exact F.trans (ih18 S11 v2 hf)
      intro S v2 hf
      have hf : g_X7_bestOf_b18 E (f_X7_bestOf_b18 E n18) S v2 = some (rr, SS) := hf
      unfold g_X7_bestOf_b18 at hf
      have F : Fm ww_X7_bestOf S S := Fm.rf
      by_cases h : (5 : Int32) ≤ v2
      · have hf := if_t h hf
        exact F.trans (w76 S v2 hf)
      · have hf := if_f h hf
        obtain ⟨-, hf⟩ := ck_out hf
        by_cases h : (2 : Int32) ≤ (gI S 73 0 v2.toNatClampNeg)
        · have hf := if_t h hf
          exact F.trans (w76 S v2 hf)
        · have hf := if_f h hf
          obtain ⟨S13, hc, hf⟩ := bd_out hf
          have F := F.tr (fr_X7_goWeek E S v2 (gI S 72 0 v2.toNatClampNeg) S13 hc) rfl
          obtain ⟨S14, hc, hf⟩ := bd_out hf
          have F := F.tr (fr_X7_move E S13 v2 (gI S13 73 0 v2.toNatClampNeg) S14 hc) rfl
          obtain ⟨S15, e_S15, hf⟩ := lt_out hf
          have F := F.sI rfl e_S15
          obtain ⟨x16, e_x16, hf⟩ := lt_out hf
          obtain ⟨S17, hc, hf⟩ := bd_out hf
          have F := F.tr (fr_X7_enter E S15 x16 S17 hc) rfl
          exact F.trans (ih18 S17 x16 hf)
  unfold f_X7_bestOf at hf
  have F : Fm ww_X7_bestOf S S := Fm.rf
  obtain ⟨-, hf⟩ := ck_out hf
  obtain ⟨S19, hc, hf⟩ := bd_out hf
  have F := F.tr (fr_X7_begin E S a1 (gI S 42 0 a1.toNatClampNeg) S19 hc) rfl
  obtain ⟨S20, hc, hf⟩ := bd_out hf
  have F := F.tr (fr_X7_enter E S19 (0 : Int32) S20 hc) rfl
  exact F.trans (w18 E.1 S20 (0 : Int32) hf)
def ww_X7_mean : List (Nat × Nat) := [(1, 31), (1, 32), (61, 0), (62, 0), (63, 0), (64, 0), (65, 0), (66, 0), (67, 0), (68, 0), (69, 0), (72, 0), (73, 0), (74, 0), (75, 0)]
set_option maxRecDepth 100000 in
theorem fr_X7_mean (E : EN) (S : ST) (a1 : Int32) (a2 : Int32) (rr : Int64) (SS : ST) (hf : f_X7_mean E S a1 a2 = some (rr, SS)) : Fm ww_X7_mean S SS := by
  have w109 : ∀ (S : ST) (v1 : Int32) (v2 : Int32) (t0 : Int64), f_X7_mean_b109 E S v1 v2 t0 = some (rr, SS) → Fm ww_X7_mean S SS := by
    intro S v1 v2 t0 hf
    unfold f_X7_mean_b109 at hf
    have F : Fm ww_X7_mean S S := Fm.rf
    obtain ⟨r1, hc, hf⟩ := bd_out hf
    obtain ⟨r2, hc, hf⟩ := bd_out hf
    exact F.fin2 hf
  have w71 : ∀ (S : ST) (v1 : Int32) (v2 : Int32) (v3 : Int64) (t0 : Int64), f_X7_mean_b71 E S v1 v2 v3 t0 = some (rr, SS) → Fm ww_X7_mean S SS := by
    intro S v1 v2 v3 t0 hf
    unfold f_X7_mean_b71 at hf
    have F : Fm ww_X7_mean S S := Fm.rf
    by_cases h : (2 : Int32) ≤ v2
    · have hf := if_t h hf
      by_cases h : (4 : Int32) ≤ v2
      · have hf := if_t h hf
        by_cases h : (6 : Int32) ≤ v2
        · have hf := if_t h hf
          exact F.trans (w109 S v1 v2 (t0 - v3) hf)
        · have hf := if_f h hf
          exact F.trans (w109 S v1 v2 t0 hf)
      · have hf := if_f h hf
        exact F.trans (w109 S v1 v2 (gL S 1 0 31) hf)
    · have hf := if_f h hf
      exact F.trans (w109 S v1 v2 v3 hf)
  unfold f_X7_mean at hf
  have F : Fm ww_X7_mean S S := Fm.rf
  obtain ⟨r3, hc, hf⟩ := bd_out hf
  by_cases h : r3 = 0
  · have hf := if_t h hf
    exact F.fin2 hf
  · have hf := if_f h hf
    obtain ⟨r4, hc, hf⟩ := bd_out hf
    by_cases h : r4 = 0
    · have hf := if_t h hf
      exact F.fin2 hf
    · have hf := if_f h hf
      obtain ⟨-, hf⟩ := ck_out hf
      obtain ⟨S6, hc, hf⟩ := bd_out hf
      have F := F.tr (fr_X7_layRule E S (gI S 43 0 a1.toNatClampNeg) S6 hc) rfl
      obtain ⟨r7, S8, hc, hf⟩ := bd2_out hf
      have F := F.tr (fr_X7_meanOf E S6 a1 (gI S6 42 0 a1.toNatClampNeg) (gI S6 41 0 a1.toNatClampNeg) (gI S6 44 0 a1.toNatClampNeg) r7 S8 hc) rfl
      by_cases h : a2 ≤ (3 : Int32)
      · have hf := if_t h hf
        exact F.trans (w71 S8 a1 a2 r7 (0 : Int64) hf)
      · have hf := if_f h hf
        obtain ⟨r9, S10, hc, hf⟩ := bd2_out hf
        have F := F.tr (fr_X7_bestOf E S8 a1 r9 S10 hc) rfl
        exact F.trans (w71 S10 a1 a2 r7 r9 hf)
def ww_X7_off : List (Nat × Nat) := [(1, 31), (1, 32), (61, 0), (62, 0), (63, 0), (64, 0), (65, 0), (66, 0), (67, 0), (68, 0), (69, 0)]
set_option maxRecDepth 100000 in
theorem fr_X7_off (E : EN) (S : ST) (a1 : Int32) (a2 : Int32) (a3 : Int32) (rr : Int64) (SS : ST) (hf : f_X7_off E S a1 a2 a3 = some (rr, SS)) : Fm ww_X7_off S SS := by
  have w18 : ∀ (S : ST) (v1 : Int32) (v2 : Int32) (v3 : Int32), f_X7_off_b18 E S v1 v2 v3 = some (rr, SS) → Fm ww_X7_off S SS := by
    intro S v1 v2 v3 hf
    unfold f_X7_off_b18 at hf
    have F : Fm ww_X7_off S S := Fm.rf
    obtain ⟨r1, hc, hf⟩ := bd_out hf
    by_cases h : r1 = 0
    · have hf := if_t h hf
      exact F.fin2 hf
    · have hf := if_f h hf
      obtain ⟨-, hf⟩ := ck_out hf
      obtain ⟨S3, hc, hf⟩ := bd_out hf
      have F := F.tr (fr_X7_layRule E S (gI S 43 0 v1.toNatClampNeg) S3 hc) rfl
      obtain ⟨r4, S5, hc, hf⟩ := bd2_out hf
      have F := F.tr (fr_X7_meanOf E S3 v1 (gI S3 42 0 v1.toNatClampNeg) (gI S3 41 0 v1.toNatClampNeg) (gI S3 44 0 v1.toNatClampNeg) r4 S5 hc) rfl
      obtain ⟨r6, hc, hf⟩ := bd_out hf
      obtain ⟨r7, S8, hc, hf⟩ := bd2_out hf
      have F := F.tr (fr_X7_meanOf E S5 v1 r6 (gI S5 41 0 v1.toNatClampNeg) (gI S5 44 0 v1.toNatClampNeg) r7 S8 hc) rfl
      obtain ⟨r9, hc, hf⟩ := bd_out hf
      obtain ⟨r10, hc, hf⟩ := bd_out hf
      exact F.fin2 hf
  unfold f_X7_off at hf
  have F : Fm ww_X7_off S S := Fm.rf
  obtain ⟨r11, hc, hf⟩ := bd_out hf
  by_cases h : r11 = 0
  · have hf := if_t h hf
    exact F.fin2 hf
  · have hf := if_f h hf
    by_cases h : a2 = (1 : Int32)
    · have hf := if_t h hf
      exact F.trans (w18 S a1 a2 a3 hf)
    · have hf := if_f h hf
      by_cases h : a2 = (-1 : Int32)
      · have hf := if_t h hf
        exact F.trans (w18 S a1 a2 a3 hf)
      · have hf := if_f h hf
        exact F.fin2 hf
def ww_X7_rule : List (Nat × Nat) := [(1, 31), (1, 32), (61, 0), (62, 0), (63, 0), (64, 0), (65, 0), (66, 0), (67, 0), (68, 0), (69, 0)]
set_option maxRecDepth 100000 in
theorem fr_X7_rule (E : EN) (S : ST) (a1 : Int32) (a2 : Int32) (rr : Int32) (SS : ST) (hf : f_X7_rule E S a1 a2 = some (rr, SS)) : Fm ww_X7_rule S SS := by
  have w41 : ∀ (n41 : Nat) (S : ST) (v1 : Int32) (v2 : Int32) (v3 : Int32) (v4 : Int64) (v6 : Int32), f_X7_rule_b41 E n41 S v1 v2 v3 v4 v6 = some (rr, SS) → Fm ww_X7_rule S SS := by
    intro n41
    induction n41 with
    | zero =>
      intro S v1 v2 v3 v4 v6 hf
      exact absurd (show (none : Option (Int32 × ST)) = some (rr, SS) from hf) (fun h => by cases h)
    | succ n41 ih41 =>
      have w122 : ∀ (S : ST) (v1 : Int32) (v2 : Int32) (v3 : Int32) (v4 : Int64) (v6 : Int32), f_X7_rule_b122 E (f_X7_rule_b41 E n41) S v1 v2 v3 v4 v6 = some (rr, SS) → Fm ww_X7_rule S SS := by
        intro S v1 v2 v3 v4 v6 hf
        unfold f_X7_rule_b122 at hf
        have F : Fm ww_X7_rule S S := Fm.rf
        obtain ⟨x1, e_x1, hf⟩ := lt_out hf
        exact F.trans (ih41 S v1 v2 v3 v4 x1 hf)
      have w102 : ∀ (S : ST) (v1 : Int32) (v2 : Int32) (v3 : Int32) (v4 : Int64) (v6 : Int32) (t0 : Int64), f_X7_rule_b102 E (f_X7_rule_b41 E n41) S v1 v2 v3 v4 v6 t0 = some (rr, SS) → Fm ww_X7_rule S SS := by
        intro S v1 v2 v3 v4 v6 t0 hf
        unfold f_X7_rule_b102 at hf
        have F : Fm ww_X7_rule S S := Fm.rf
        by_cases h : v4 < t0
        · have hf := if_t h hf
          exact F.trans (w122 S v1 v2 v6 t0 v6 hf)
        · have hf := if_f h hf
          exact F.trans (w122 S v1 v2 v3 v4 v6 hf)
      have w54 : ∀ (S : ST) (v1 : Int32) (v2 : Int32) (v3 : Int32) (v4 : Int64) (v6 : Int32) (t0 : Int32) (t1 : Int32), f_X7_rule_b54 E (f_X7_rule_b41 E n41) S v1 v2 v3 v4 v6 t0 t1 = some (rr, SS) → Fm ww_X7_rule S SS := by
        intro S v1 v2 v3 v4 v6 t0 t1 hf
        unfold f_X7_rule_b54 at hf
        have F : Fm ww_X7_rule S S := Fm.rf
        by_cases h : t0 ≤ t1
        · have hf := if_t h hf
          exact F.fin2 hf
        · have hf := if_f h hf
          by_cases h : v2 = 0
          · have hf := if_t h hf
            obtain ⟨-, hf⟩ := ck_out hf
            obtain ⟨r6, S7, hc, hf⟩ := bd2_out hf
            have F := F.tr (fr_X7_meanOf E S v1 (gI S 42 0 v1.toNatClampNeg) (gI S 41 0 v1.toNatClampNeg) v6 r6 S7 hc) rfl
            exact F.trans (w102 S7 v1 v2 v3 v4 v6 r6 hf)
          · have hf := if_f h hf
            obtain ⟨-, hf⟩ := ck_out hf
            obtain ⟨r3, S4, hc, hf⟩ := bd2_out hf
            have F := F.tr (fr_X7_meanOf E S v1 (gI S 42 0 v1.toNatClampNeg) v6 (gI S 44 0 v1.toNatClampNeg) r3 S4 hc) rfl
            exact F.trans (w102 S4 v1 v2 v3 v4 v6 r3 hf)
      intro S v1 v2 v3 v4 v6 hf
      have hf : g_X7_rule_b41 E (f_X7_rule_b41 E n41) S v1 v2 v3 v4 v6 = some (rr, SS) := hf
      unfold g_X7_rule_b41 at hf
      have F : Fm ww_X7_rule S S := Fm.rf
      by_cases h : v2 = 0
      · have hf := if_t h hf
        exact F.trans (w54 S v1 v2 v3 v4 v6 (10 : Int32) v6 hf)
      · have hf := if_f h hf
        exact F.trans (w54 S v1 v2 v3 v4 v6 (6 : Int32) v6 hf)
  unfold f_X7_rule at hf
  have F : Fm ww_X7_rule S S := Fm.rf
  obtain ⟨r8, hc, hf⟩ := bd_out hf
  by_cases h : r8 = 0
  · have hf := if_t h hf
    exact F.fin2 hf
  · have hf := if_f h hf
    obtain ⟨r9, hc, hf⟩ := bd_out hf
    by_cases h : r9 = 0
    · have hf := if_t h hf
      exact F.fin2 hf
    · have hf := if_f h hf
      obtain ⟨-, hf⟩ := ck_out hf
      obtain ⟨S11, hc, hf⟩ := bd_out hf
      have F := F.tr (fr_X7_layRule E S (gI S 43 0 a1.toNatClampNeg) S11 hc) rfl
      exact F.trans (w41 E.1 S11 a1 a2 (0 : Int32) (-1 : Int64) (0 : Int32) hf)
def ww_X7_room : List (Nat × Nat) := [(1, 31), (61, 0), (62, 0), (63, 0), (64, 0), (65, 0), (66, 0), (67, 0), (68, 0), (69, 0), (76, 0)]
set_option maxRecDepth 100000 in
theorem fr_X7_room (E : EN) (S : ST) (a1 : Int32) (a2 : Int32) (a3 : Int32) (rr : Int32) (SS : ST) (hf : f_X7_room E S a1 a2 a3 = some (rr, SS)) : Fm ww_X7_room S SS := by
  have w212 : ∀ (n212 : Nat) (S : ST) (v1 : Int32) (v2 : Int32) (v4 : Int32) (v5 : Int32), f_X7_room_b212 E n212 S v1 v2 v4 v5 = some (rr, SS) → Fm ww_X7_room S SS := by
    intro n212
    induction n212 with
    | zero =>
      intro S v1 v2 v4 v5 hf
      exact absurd (show (none : Option (Int32 × ST)) = some (rr, SS) from hf) (fun h => by cases h)
    | succ n212 ih212 =>
      have w302 : ∀ (S : ST) (v1 : Int32) (v2 : Int32) (v5 : Int32) (t0 : Int32) (t1 : Int32), f_X7_room_b302 E (f_X7_room_b212 E n212) S v1 v2 v5 t0 t1 = some (rr, SS) → Fm ww_X7_room S SS := by
        intro S v1 v2 v5 t0 t1 hf
        unfold f_X7_room_b302 at hf
        have F : Fm ww_X7_room S S := Fm.rf
        obtain ⟨x1, e_x1, hf⟩ := lt_out hf
        obtain ⟨x2, e_x2, hf⟩ := lt_out hf
        exact F.trans (ih212 S v1 v2 x1 x2 hf)
      have w287 : ∀ (S : ST) (v1 : Int32) (v2 : Int32) (v4 : Int32) (v5 : Int32) (v6 : Int32), f_X7_room_b287 E (f_X7_room_b212 E n212) S v1 v2 v4 v5 v6 = some (rr, SS) → Fm ww_X7_room S SS := by
        intro S v1 v2 v4 v5 v6 hf
        unfold f_X7_room_b287 at hf
        have F : Fm ww_X7_room S S := Fm.rf
        by_cases h : 0 ≤ v6
        · have hf := if_t h hf
          exact F.trans (w302 S v1 v2 v5 ((1 : Int32) <<< (v6 &&& 31)) v4 hf)
        · have hf := if_f h hf
          exact F.trans (w302 S v1 v2 v5 (0 : Int32) v4 hf)
      have w229 : ∀ (n229 : Nat) (S : ST) (v1 : Int32) (v2 : Int32) (v4 : Int32) (v5 : Int32) (v6 : Int32) (v7 : Int32), f_X7_room_b229 E (f_X7_room_b212 E n212) n229 S v1 v2 v4 v5 v6 v7 = some (rr, SS) → Fm ww_X7_room S SS := by
        intro n229
        induction n229 with
        | zero =>
          intro S v1 v2 v4 v5 v6 v7 hf
          exact absurd (show (none : Option (Int32 × ST)) = some (rr, SS) from hf) (fun h => by cases h)
        | succ n229 ih229 =>
          have w281 : ∀ (S : ST) (v1 : Int32) (v2 : Int32) (v4 : Int32) (v5 : Int32) (v6 : Int32) (v7 : Int32), f_X7_room_b281 E (f_X7_room_b212 E n212) (f_X7_room_b229 E (f_X7_room_b212 E n212) n229) S v1 v2 v4 v5 v6 v7 = some (rr, SS) → Fm ww_X7_room S SS := by
            intro S v1 v2 v4 v5 v6 v7 hf
            unfold f_X7_room_b281 at hf
            have F : Fm ww_X7_room S S := Fm.rf
            obtain ⟨x3, e_x3, hf⟩ := lt_out hf
            exact F.trans (ih229 S v1 v2 v4 v5 v6 x3 hf)
          have w277 : ∀ (S : ST) (v1 : Int32) (v2 : Int32) (v4 : Int32) (v5 : Int32) (v7 : Int32), f_X7_room_b277 E (f_X7_room_b212 E n212) (f_X7_room_b229 E (f_X7_room_b212 E n212) n229) S v1 v2 v4 v5 v7 = some (rr, SS) → Fm ww_X7_room S SS := by
            intro S v1 v2 v4 v5 v7 hf
            unfold f_X7_room_b277 at hf
            have F : Fm ww_X7_room S S := Fm.rf
            exact F.trans (w281 S v1 v2 v4 v5 v7 v7 hf)
          intro S v1 v2 v4 v5 v6 v7 hf
          have hf : g_X7_room_b229 E (f_X7_room_b212 E n212) (f_X7_room_b229 E (f_X7_room_b212 E n212) n229) S v1 v2 v4 v5 v6 v7 = some (rr, SS) := hf
          unfold g_X7_room_b229 at hf
          have F : Fm ww_X7_room S S := Fm.rf
          by_cases h : v7 < 0
          · have hf := if_t h hf
            exact F.trans (w287 S v1 v2 v4 v5 v6 hf)
          · have hf := if_f h hf
            by_cases h : ((v1 >>> (v7 &&& 31)) &&& (1 : Int32)) = (1 : Int32)
            · have hf := if_t h hf
              by_cases h : ((v4 >>> (v7 &&& 31)) &&& (1 : Int32)) = 0
              · have hf := if_t h hf
                by_cases h : v6 < 0
                · have hf := if_t h hf
                  exact F.trans (w277 S v1 v2 v4 v5 v7 hf)
                · have hf := if_f h hf
                  obtain ⟨-, hf⟩ := ck_out hf
                  obtain ⟨-, hf⟩ := ck_out hf
                  by_cases h : (gL S 76 0 v7.toNatClampNeg) < (gL S 76 0 v6.toNatClampNeg)
                  · have hf := if_t h hf
                    exact F.trans (w281 S v1 v2 v4 v5 v6 v7 hf)
                  · have hf := if_f h hf
                    exact F.trans (w277 S v1 v2 v4 v5 v7 hf)
              · have hf := if_f h hf
                exact F.trans (w281 S v1 v2 v4 v5 v6 v7 hf)
            · have hf := if_f h hf
              exact F.trans (w281 S v1 v2 v4 v5 v6 v7 hf)
      intro S v1 v2 v4 v5 hf
      have hf : g_X7_room_b212 E (f_X7_room_b212 E n212) S v1 v2 v4 v5 = some (rr, SS) := hf
      unfold g_X7_room_b212 at hf
      have F : Fm ww_X7_room S S := Fm.rf
      by_cases h : v2 ≤ v5
      · have hf := if_t h hf
        exact F.fin2 hf
      · have hf := if_f h hf
        obtain ⟨x6, e_x6, hf⟩ := lt_out hf
        exact F.trans (w229 E.1 S v1 v2 v4 v5 (-1 : Int32) x6 hf)
  have w206 : ∀ (S : ST) (v1 : Int32) (v2 : Int32), f_X7_room_b206 E S v1 v2 = some (rr, SS) → Fm ww_X7_room S SS := by
    intro S v1 v2 hf
    unfold f_X7_room_b206 at hf
    have F : Fm ww_X7_room S S := Fm.rf
    exact F.trans (w212 E.1 S v1 v2 (0 : Int32) (0 : Int32) hf)
  have w110 : ∀ (n110 : Nat) (S : ST) (v1 : Int32) (v2 : Int32) (v3 : Int32) (v4 : Int32), f_X7_room_b110 E n110 S v1 v2 v3 v4 = some (rr, SS) → Fm ww_X7_room S SS := by
    intro n110
    induction n110 with
    | zero =>
      intro S v1 v2 v3 v4 hf
      exact absurd (show (none : Option (Int32 × ST)) = some (rr, SS) from hf) (fun h => by cases h)
    | succ n110 ih110 =>
      have w199 : ∀ (S : ST) (v1 : Int32) (v2 : Int32) (v3 : Int32) (v4 : Int32) (t0 : Int64) (t1 : Int32), f_X7_room_b199 E (f_X7_room_b110 E n110) S v1 v2 v3 v4 t0 t1 = some (rr, SS) → Fm ww_X7_room S SS := by
        intro S v1 v2 v3 v4 t0 t1 hf
        unfold f_X7_room_b199 at hf
        have F : Fm ww_X7_room S S := Fm.rf
        obtain ⟨-, hf⟩ := ck_out hf
        obtain ⟨S8, e_S8, hf⟩ := lt_out hf
        have F := F.sL rfl e_S8
        obtain ⟨x9, e_x9, hf⟩ := lt_out hf
        exact F.trans (ih110 S8 v1 v2 v3 x9 hf)
      intro S v1 v2 v3 v4 hf
      have hf : g_X7_room_b110 E (f_X7_room_b110 E n110) S v1 v2 v3 v4 = some (rr, SS) := hf
      unfold g_X7_room_b110 at hf
      have F : Fm ww_X7_room S S := Fm.rf
      by_cases h : (gI S 1 0 0) ≤ v4
      · have hf := if_t h hf
        exact F.trans (w206 S v1 v2 hf)
      · have hf := if_f h hf
        obtain ⟨-, hf⟩ := ck_out hf
        obtain ⟨S11, hc, hf⟩ := bd_out hf
        have F := F.tr (fr_X7_goMarks E S v4 (gI S 85 0 (((40 : Int32) * v3) + v4).toNatClampNeg) S11 hc) rfl
        obtain ⟨x12, e_x12, hf⟩ := lt_out hf
        obtain ⟨r13, hc, hf⟩ := bd_out hf
        by_cases h : r13 = (0 : Int64)
        · have hf := if_t h hf
          exact F.trans (w199 S11 v1 v2 v3 v4 (0 : Int64) v4 hf)
        · have hf := if_f h hf
          obtain ⟨-, hf⟩ := ck_out hf
          obtain ⟨r15, hc, hf⟩ := bd_out hf
          obtain ⟨r16, hc, hf⟩ := bd_out hf
          obtain ⟨-, hf⟩ := ck_out hf
          exact F.trans (w199 S11 v1 v2 v3 v4 (((10000 : Int64) * r15) / r16) v4 hf)
  have w107 : ∀ (S : ST) (v1 : Int32) (v2 : Int32) (v3 : Int32), f_X7_room_b107 E S v1 v2 v3 = some (rr, SS) → Fm ww_X7_room S SS := by
    intro S v1 v2 v3 hf
    unfold f_X7_room_b107 at hf
    have F : Fm ww_X7_room S S := Fm.rf
    exact F.trans (w110 E.1 S v1 v2 v3 (0 : Int32) hf)
  have w70 : ∀ (n70 : Nat) (S : ST) (v1 : Int32) (v2 : Int32) (v3 : Int32) (v4 : Int32), f_X7_room_b70 E n70 S v1 v2 v3 v4 = some (rr, SS) → Fm ww_X7_room S SS := by
    intro n70
    induction n70 with
    | zero =>
      intro S v1 v2 v3 v4 hf
      exact absurd (show (none : Option (Int32 × ST)) = some (rr, SS) from hf) (fun h => by cases h)
    | succ n70 ih70 =>
      intro S v1 v2 v3 v4 hf
      have hf : g_X7_room_b70 E (f_X7_room_b70 E n70) S v1 v2 v3 v4 = some (rr, SS) := hf
      unfold g_X7_room_b70 at hf
      have F : Fm ww_X7_room S S := Fm.rf
      by_cases h : (gI S 1 0 0) ≤ v4
      · have hf := if_t h hf
        exact F.trans (w107 S v1 v2 v3 hf)
      · have hf := if_f h hf
        obtain ⟨-, hf⟩ := ck_out hf
        obtain ⟨r19, hc, hf⟩ := bd_out hf
        by_cases h : r19 = 0
        · have hf := if_t h hf
          exact F.fin2 hf
        · have hf := if_f h hf
          obtain ⟨x20, e_x20, hf⟩ := lt_out hf
          exact F.trans (ih70 S v1 v2 v3 x20 hf)
  unfold f_X7_room at hf
  have F : Fm ww_X7_room S S := Fm.rf
  obtain ⟨r21, hc, hf⟩ := bd_out hf
  by_cases h : r21 = 0
  · have hf := if_t h hf
    exact F.fin2 hf
  · have hf := if_f h hf
    obtain ⟨r22, hc, hf⟩ := bd_out hf
    by_cases h : r22 = 0
    · have hf := if_t h hf
      exact F.fin2 hf
    · have hf := if_f h hf
      obtain ⟨r23, hc, hf⟩ := bd_out hf
      by_cases h : r23 = 0
      · have hf := if_t h hf
        exact F.fin2 hf
      · have hf := if_f h hf
        obtain ⟨-, hf⟩ := ck_out hf
        by_cases h : 0 ≤ (gI S 83 0 a3.toNatClampNeg)
        · have hf := if_t h hf
          by_cases h : (gI S 84 0 a3.toNatClampNeg) = (gI S 1 0 0)
          · have hf := if_t h hf
            exact F.trans (w70 E.1 S a1 a2 a3 (0 : Int32) hf)
          · have hf := if_f h hf
            exact F.fin2 hf
        · have hf := if_f h hf
          exact F.fin2 hf
def ww_X7_becomes : List (Nat × Nat) := [(45, 0)]
set_option maxRecDepth 100000 in
theorem fr_X7_becomes (E : EN) (S : ST) (a1 : Int32) (rr : Int32) (SS : ST) (hf : f_X7_becomes E S a1 = some (rr, SS)) : Fm ww_X7_becomes S SS := by
  have w68 : ∀ (n68 : Nat) (S : ST) (v1 : Int32) (v2 : Int64) (v6 : Int32), f_X7_becomes_b68 E n68 S v1 v2 v6 = some (rr, SS) → Fm ww_X7_becomes S SS := by
    intro n68
    induction n68 with
    | zero =>
      intro S v1 v2 v6 hf
      exact absurd (show (none : Option (Int32 × ST)) = some (rr, SS) from hf) (fun h => by cases h)
    | succ n68 ih68 =>
      intro S v1 v2 v6 hf
      have hf : g_X7_becomes_b68 E (f_X7_becomes_b68 E n68) S v1 v2 v6 = some (rr, SS) := hf
      unfold g_X7_becomes_b68 at hf
      have F : Fm ww_X7_becomes S S := Fm.rf
      by_cases h : (5 : Int32) ≤ v6
      · have hf := if_t h hf
        exact F.fin2 hf
      · have hf := if_f h hf
        obtain ⟨-, hf⟩ := ck_out hf
        obtain ⟨-, hf⟩ := ck_out hf
        obtain ⟨-, hf⟩ := ck_out hf
        obtain ⟨S4, e_S4, hf⟩ := lt_out hf
        have F := F.sI rfl e_S4
        obtain ⟨x5, e_x5, hf⟩ := lt_out hf
        exact F.trans (ih68 S4 v1 v2 x5 hf)
  have w45 : ∀ (S : ST) (v1 : Int32) (v2 : Int64) (v4 : Int64), f_X7_becomes_b45 E S v1 v2 v4 = some (rr, SS) → Fm ww_X7_becomes S SS := by
    intro S v1 v2 v4 hf
    unfold f_X7_becomes_b45 at hf
    have F : Fm ww_X7_becomes S S := Fm.rf
    by_cases h : v4 = (0 : Int64)
    · have hf := if_t h hf
      exact F.fin2 hf
    · have hf := if_f h hf
      obtain ⟨-, hf⟩ := ck_out hf
      by_cases h : (v4 / v2) ≤ (9999 : Int64)
      · have hf := if_t h hf
        exact F.trans (w68 E.1 S v1 v2 (0 : Int32) hf)
      · have hf := if_f h hf
        exact F.fin2 hf
  have w8 : ∀ (n8 : Nat) (S : ST) (v1 : Int32) (v2 : Int64) (v4 : Int64) (v6 : Int32), f_X7_becomes_b8 E n8 S v1 v2 v4 v6 = some (rr, SS) → Fm ww_X7_becomes S SS := by
    intro n8
    induction n8 with
    | zero =>
      intro S v1 v2 v4 v6 hf
      exact absurd (show (none : Option (Int32 × ST)) = some (rr, SS) from hf) (fun h => by cases h)
    | succ n8 ih8 =>
      intro S v1 v2 v4 v6 hf
      have hf : g_X7_becomes_b8 E (f_X7_becomes_b8 E n8) S v1 v2 v4 v6 = some (rr, SS) := hf
      unfold g_X7_becomes_b8 at hf
      have F : Fm ww_X7_becomes S S := Fm.rf
      by_cases h : (5 : Int32) ≤ v6
      · have hf := if_t h hf
        exact F.trans (w45 S v1 v2 v4 hf)
      · have hf := if_f h hf
        obtain ⟨-, hf⟩ := ck_out hf
        obtain ⟨r8, hc, hf⟩ := bd_out hf
        obtain ⟨x9, e_x9, hf⟩ := lt_out hf
        obtain ⟨x10, e_x10, hf⟩ := lt_out hf
        exact F.trans (ih8 S v1 r8 x9 x10 hf)
  unfold f_X7_becomes at hf
  have F : Fm ww_X7_becomes S S := Fm.rf
  exact F.trans (w8 E.1 S a1 (0 : Int64) (0 : Int64) (0 : Int32) hf)
def ww_X7_summer : List (Nat × Nat) := [(45, 0), (77, 0)]
set_option maxRecDepth 100000 in
theorem fr_X7_summer (E : EN) (S : ST) (a1 : Int32) (a2 : Int32) (rr : Int32) (SS : ST) (hf : f_X7_summer E S a1 a2 = some (rr, SS)) : Fm ww_X7_summer S SS := by
  have w93 : ∀ (S : ST) (v1 : Int32), f_X7_summer_b93 E S v1 = some (rr, SS) → Fm ww_X7_summer S SS := by
    intro S v1 hf
    unfold f_X7_summer_b93 at hf
    have F : Fm ww_X7_summer S S := Fm.rf
    obtain ⟨r1, S2, hc, hf⟩ := bd2_out hf
    have F := F.tr (fr_X7_becomes E S v1 r1 S2 hc) rfl
    by_cases h : r1 = 0
    · have hf := if_t h hf
      exact F.fin2 hf
    · have hf := if_f h hf
      obtain ⟨r3, hc, hf⟩ := bd_out hf
      exact F.fin2 hf
  have w24 : ∀ (n24 : Nat) (S : ST) (v1 : Int32) (v2 : Int32) (v3 : Int32), f_X7_summer_b24 E n24 S v1 v2 v3 = some (rr, SS) → Fm ww_X7_summer S SS := by
    intro n24
    induction n24 with
    | zero =>
      intro S v1 v2 v3 hf
      exact absurd (show (none : Option (Int32 × ST)) = some (rr, SS) from hf) (fun h => by cases h)
    | succ n24 ih24 =>
      have w85 : ∀ (S : ST) (v1 : Int32) (v2 : Int32) (v3 : Int32) (t0 : Int64) (t1 : Int64) (t2 : Int32), f_X7_summer_b85 E (f_X7_summer_b24 E n24) S v1 v2 v3 t0 t1 t2 = some (rr, SS) → Fm ww_X7_summer S SS := by
        intro S v1 v2 v3 t0 t1 t2 hf
        unfold f_X7_summer_b85 at hf
        have F : Fm ww_X7_summer S S := Fm.rf
        obtain ⟨-, hf⟩ := ck_out hf
        obtain ⟨S5, e_S5, hf⟩ := lt_out hf
        have F := F.sL rfl e_S5
        obtain ⟨x6, e_x6, hf⟩ := lt_out hf
        exact F.trans (ih24 S5 v1 v2 x6 hf)
      have w58 : ∀ (S : ST) (v1 : Int32) (v2 : Int32) (v3 : Int32) (t0 : Int32) (t1 : Int64) (t2 : Int32), f_X7_summer_b58 E (f_X7_summer_b24 E n24) S v1 v2 v3 t0 t1 t2 = some (rr, SS) → Fm ww_X7_summer S SS := by
        intro S v1 v2 v3 t0 t1 t2 hf
        unfold f_X7_summer_b58 at hf
        have F : Fm ww_X7_summer S S := Fm.rf
        by_cases h : (4 : Int32) ≤ v3
        · have hf := if_t h hf
          exact F.trans (w85 S v1 v2 v3 (0 : Int64) (t1 * t0.toInt64) t2 hf)
        · have hf := if_f h hf
          obtain ⟨-, hf⟩ := ck_out hf
          exact F.trans (w85 S v1 v2 v3 (((gI S 45 0 ((((5 : Int32) * v1) + v3) + (1 : Int32)).toNatClampNeg).toInt64) * v2.toInt64) (t1 * t0.toInt64) t2 hf)
      intro S v1 v2 v3 hf
      have hf : g_X7_summer_b24 E (f_X7_summer_b24 E n24) S v1 v2 v3 = some (rr, SS) := hf
      unfold g_X7_summer_b24 at hf
      have F : Fm ww_X7_summer S S := Fm.rf
      by_cases h : (5 : Int32) ≤ v3
      · have hf := if_t h hf
        exact F.trans (w93 S v1 hf)
      · have hf := if_f h hf
        obtain ⟨-, hf⟩ := ck_out hf
        by_cases h : v3 = 0
        · have hf := if_t h hf
          exact F.trans (w58 S v1 v2 v3 (10 : Int32) ((gI S 45 0 (((5 : Int32) * v1) + v3).toNatClampNeg).toInt64) v3 hf)
        · have hf := if_f h hf
          exact F.trans (w58 S v1 v2 v3 ((10 : Int32) - v2) ((gI S 45 0 (((5 : Int32) * v1) + v3).toNatClampNeg).toInt64) v3 hf)
  unfold f_X7_summer at hf
  have F : Fm ww_X7_summer S S := Fm.rf
  obtain ⟨r9, hc, hf⟩ := bd_out hf
  by_cases h : r9 = 0
  · have hf := if_t h hf
    exact F.fin2 hf
  · have hf := if_f h hf
    obtain ⟨r10, hc, hf⟩ := bd_out hf
    by_cases h : r10 = 0
    · have hf := if_t h hf
      exact F.fin2 hf
    · have hf := if_f h hf
      exact F.trans (w24 E.1 S a1 a2 (0 : Int32) hf)
def ww_X7_test : List (Nat × Nat) := [(1, 31), (42, 0), (45, 0), (61, 0), (62, 0), (63, 0), (64, 0), (65, 0), (66, 0), (67, 0), (68, 0), (69, 0), (77, 0)]
set_option maxRecDepth 100000 in
theorem fr_X7_test (E : EN) (S : ST) (a1 : Int32) (a2 : Int32) (rr : Int32) (SS : ST) (hf : f_X7_test E S a1 a2 = some (rr, SS)) : Fm ww_X7_test S SS := by
  have w57 : ∀ (S : ST) (v1 : Int32) (v2 : Int32), f_X7_test_b57 E S v1 v2 = some (rr, SS) → Fm ww_X7_test S SS := by
    intro S v1 v2 hf
    unfold f_X7_test_b57 at hf
    have F : Fm ww_X7_test S S := Fm.rf
    obtain ⟨r1, S2, hc, hf⟩ := bd2_out hf
    have F := F.tr (fr_X7_becomes E S v1 r1 S2 hc) rfl
    by_cases h : r1 = 0
    · have hf := if_t h hf
      exact F.fin2 hf
    · have hf := if_f h hf
      obtain ⟨-, hf⟩ := ck_out hf
      obtain ⟨-, hf⟩ := ck_out hf
      obtain ⟨S5, e_S5, hf⟩ := lt_out hf
      have F := F.sI rfl e_S5
      exact F.fin2 hf
  have w27 : ∀ (n27 : Nat) (S : ST) (v1 : Int32) (v2 : Int32) (v3 : Int32), f_X7_test_b27 E n27 S v1 v2 v3 = some (rr, SS) → Fm ww_X7_test S SS := by
    intro n27
    induction n27 with
    | zero =>
      intro S v1 v2 v3 hf
      exact absurd (show (none : Option (Int32 × ST)) = some (rr, SS) from hf) (fun h => by cases h)
    | succ n27 ih27 =>
      intro S v1 v2 v3 hf
      have hf : g_X7_test_b27 E (f_X7_test_b27 E n27) S v1 v2 v3 = some (rr, SS) := hf
      unfold g_X7_test_b27 at hf
      have F : Fm ww_X7_test S S := Fm.rf
      by_cases h : (5 : Int32) ≤ v3
      · have hf := if_t h hf
        exact F.trans (w57 S v1 v2 hf)
      · have hf := if_f h hf
        obtain ⟨-, hf⟩ := ck_out hf
        obtain ⟨-, hf⟩ := ck_out hf
        obtain ⟨S8, e_S8, hf⟩ := lt_out hf
        have F := F.sL rfl e_S8
        obtain ⟨x9, e_x9, hf⟩ := lt_out hf
        exact F.trans (ih27 S8 v1 v2 x9 hf)
  unfold f_X7_test at hf
  have F : Fm ww_X7_test S S := Fm.rf
  obtain ⟨r10, hc, hf⟩ := bd_out hf
  by_cases h : r10 = 0
  · have hf := if_t h hf
    exact F.fin2 hf
  · have hf := if_f h hf
    obtain ⟨r11, hc, hf⟩ := bd_out hf
    by_cases h : r11 = 0
    · have hf := if_t h hf
      exact F.fin2 hf
    · have hf := if_f h hf
      obtain ⟨S12, hc, hf⟩ := bd_out hf
      have F := F.tr (fr_X7_goMarks E S a1 a2 S12 hc) rfl
      exact F.trans (w27 E.1 S12 a1 a2 (0 : Int32) hf)
def ww_X7_image : List (Nat × Nat) := [(1, 39), (1, 40), (1, 41), (81, 0), (82, 0)]
set_option maxRecDepth 100000 in
theorem fr_X7_image (E : EN) (S : ST)  (rr : Int32) (SS : ST) (hf : f_X7_image E S = some (rr, SS)) : Fm ww_X7_image S SS := by
  have w73 : ∀ (S : ST) , f_X7_image_b73 E S  = some (rr, SS) → Fm ww_X7_image S SS := by
    intro S  hf
    unfold f_X7_image_b73 at hf
    have F : Fm ww_X7_image S S := Fm.rf
    exact F.fin2 hf
  have w49 : ∀ (n49 : Nat) (S : ST) (v1 : Int32), f_X7_image_b49 E n49 S v1 = some (rr, SS) → Fm ww_X7_image S SS := by
    intro n49
    induction n49 with
    | zero =>
      intro S v1 hf
      exact absurd (show (none : Option (Int32 × ST)) = some (rr, SS) from hf) (fun h => by cases h)
    | succ n49 ih49 =>
      intro S v1 hf
      have hf : g_X7_image_b49 E (f_X7_image_b49 E n49) S v1 = some (rr, SS) := hf
      unfold g_X7_image_b49 at hf
      have F : Fm ww_X7_image S S := Fm.rf
      by_cases h : (8 : Int32) ≤ v1
      · have hf := if_t h hf
        exact F.trans (w73 S hf)
      · have hf := if_f h hf
        obtain ⟨-, hf⟩ := ck_out hf
        obtain ⟨S2, e_S2, hf⟩ := lt_out hf
        have F := F.sI rfl e_S2
        obtain ⟨x3, e_x3, hf⟩ := lt_out hf
        exact F.trans (ih49 S2 x3 hf)
  have w47 : ∀ (S : ST) , f_X7_image_b47 E S  = some (rr, SS) → Fm ww_X7_image S SS := by
    intro S  hf
    unfold f_X7_image_b47 at hf
    have F : Fm ww_X7_image S S := Fm.rf
    exact F.trans (w49 E.1 S (0 : Int32) hf)
  have w23 : ∀ (n23 : Nat) (S : ST) (v1 : Int32), f_X7_image_b23 E n23 S v1 = some (rr, SS) → Fm ww_X7_image S SS := by
    intro n23
    induction n23 with
    | zero =>
      intro S v1 hf
      exact absurd (show (none : Option (Int32 × ST)) = some (rr, SS) from hf) (fun h => by cases h)
    | succ n23 ih23 =>
      intro S v1 hf
      have hf : g_X7_image_b23 E (f_X7_image_b23 E n23) S v1 = some (rr, SS) := hf
      unfold g_X7_image_b23 at hf
      have F : Fm ww_X7_image S S := Fm.rf
      by_cases h : (40 : Int32) ≤ v1
      · have hf := if_t h hf
        exact F.trans (w47 S hf)
      · have hf := if_f h hf
        obtain ⟨-, hf⟩ := ck_out hf
        obtain ⟨S5, e_S5, hf⟩ := lt_out hf
        have F := F.sI rfl e_S5
        obtain ⟨x6, e_x6, hf⟩ := lt_out hf
        exact F.trans (ih23 S5 x6 hf)
  unfold f_X7_image at hf
  have F : Fm ww_X7_image S S := Fm.rf
  obtain ⟨S7, e_S7, hf⟩ := lt_out hf
  have F := F.sI rfl e_S7
  obtain ⟨S8, e_S8, hf⟩ := lt_out hf
  have F := F.sI rfl e_S8
  obtain ⟨S9, e_S9, hf⟩ := lt_out hf
  have F := F.sI rfl e_S9
  exact F.trans (w23 E.1 S9 (0 : Int32) hf)
def ww_X7_back : List (Nat × Nat) := [(1, 8), (42, 0), (45, 0)]
set_option maxRecDepth 100000 in
theorem fr_X7_back (E : EN) (S : ST)  (rr : Int32) (SS : ST) (hf : f_X7_back E S = some (rr, SS)) : Fm ww_X7_back S SS := by
  have w76 : ∀ (S : ST) , f_X7_back_b76 E S  = some (rr, SS) → Fm ww_X7_back S SS := by
    intro S  hf
    unfold f_X7_back_b76 at hf
    have F : Fm ww_X7_back S S := Fm.rf
    exact F.fin2 hf
  have w50 : ∀ (n50 : Nat) (S : ST) (v1 : Int32), f_X7_back_b50 E n50 S v1 = some (rr, SS) → Fm ww_X7_back S SS := by
    intro n50
    induction n50 with
    | zero =>
      intro S v1 hf
      exact absurd (show (none : Option (Int32 × ST)) = some (rr, SS) from hf) (fun h => by cases h)
    | succ n50 ih50 =>
      intro S v1 hf
      have hf : g_X7_back_b50 E (f_X7_back_b50 E n50) S v1 = some (rr, SS) := hf
      unfold g_X7_back_b50 at hf
      have F : Fm ww_X7_back S S := Fm.rf
      by_cases h : (gI S 1 0 39) ≤ v1
      · have hf := if_t h hf
        exact F.trans (w76 S hf)
      · have hf := if_f h hf
        obtain ⟨-, hf⟩ := ck_out hf
        obtain ⟨S2, e_S2, hf⟩ := lt_out hf
        have F := F.sI rfl e_S2
        obtain ⟨x3, e_x3, hf⟩ := lt_out hf
        exact F.trans (ih50 S2 x3 hf)
  have w48 : ∀ (S : ST) , f_X7_back_b48 E S  = some (rr, SS) → Fm ww_X7_back S SS := by
    intro S  hf
    unfold f_X7_back_b48 at hf
    have F : Fm ww_X7_back S S := Fm.rf
    exact F.trans (w50 E.1 S (0 : Int32) hf)
  have w20 : ∀ (n20 : Nat) (S : ST) (v1 : Int32), f_X7_back_b20 E n20 S v1 = some (rr, SS) → Fm ww_X7_back S SS := by
    intro n20
    induction n20 with
    | zero =>
      intro S v1 hf
      exact absurd (show (none : Option (Int32 × ST)) = some (rr, SS) from hf) (fun h => by cases h)
    | succ n20 ih20 =>
      intro S v1 hf
      have hf : g_X7_back_b20 E (f_X7_back_b20 E n20) S v1 = some (rr, SS) := hf
      unfold g_X7_back_b20 at hf
      have F : Fm ww_X7_back S S := Fm.rf
      by_cases h : ((5 : Int32) * (gI S 1 0 39)) ≤ v1
      · have hf := if_t h hf
        exact F.trans (w48 S hf)
      · have hf := if_f h hf
        obtain ⟨-, hf⟩ := ck_out hf
        obtain ⟨S5, e_S5, hf⟩ := lt_out hf
        have F := F.sI rfl e_S5
        obtain ⟨x6, e_x6, hf⟩ := lt_out hf
        exact F.trans (ih20 S5 x6 hf)
  unfold f_X7_back at hf
  have F : Fm ww_X7_back S S := Fm.rf
  by_cases h : (gI S 1 0 38) = 0
  · have hf := if_t h hf
    exact F.fin2 hf
  · have hf := if_f h hf
    obtain ⟨S7, e_S7, hf⟩ := lt_out hf
    have F := F.sI rfl e_S7
    exact F.trans (w20 E.1 S7 (0 : Int32) hf)
def ww_X7_sheet : List (Nat × Nat) := [(83, 0), (84, 0), (85, 0)]
set_option maxRecDepth 100000 in
theorem fr_X7_sheet (E : EN) (S : ST) (a1 : Int32) (a2 : Int32) (a3 : Int32) (rr : Int32) (SS : ST) (hf : f_X7_sheet E S a1 a2 a3 = some (rr, SS)) : Fm ww_X7_sheet S SS := by
  have w67 : ∀ (n67 : Nat) (S : ST) (v1 : Int32) (v4 : Int32), f_X7_sheet_b67 E n67 S v1 v4 = some (rr, SS) → Fm ww_X7_sheet S SS := by
    intro n67
    induction n67 with
    | zero =>
      intro S v1 v4 hf
      exact absurd (show (none : Option (Int32 × ST)) = some (rr, SS) from hf) (fun h => by cases h)
    | succ n67 ih67 =>
      intro S v1 v4 hf
      have hf : g_X7_sheet_b67 E (f_X7_sheet_b67 E n67) S v1 v4 = some (rr, SS) := hf
      unfold g_X7_sheet_b67 at hf
      have F : Fm ww_X7_sheet S S := Fm.rf
      by_cases h : (40 : Int32) ≤ v4
      · have hf := if_t h hf
        exact F.fin2 hf
      · have hf := if_f h hf
        obtain ⟨-, hf⟩ := ck_out hf
        obtain ⟨S2, e_S2, hf⟩ := lt_out hf
        have F := F.sI rfl e_S2
        obtain ⟨x3, e_x3, hf⟩ := lt_out hf
        exact F.trans (ih67 S2 v1 x3 hf)
  have w63 : ∀ (S : ST) (v1 : Int32) (t0 : Int32) (t1 : Int32), f_X7_sheet_b63 E S v1 t0 t1 = some (rr, SS) → Fm ww_X7_sheet S SS := by
    intro S v1 t0 t1 hf
    unfold f_X7_sheet_b63 at hf
    have F : Fm ww_X7_sheet S S := Fm.rf
    obtain ⟨-, hf⟩ := ck_out hf
    obtain ⟨S5, e_S5, hf⟩ := lt_out hf
    have F := F.sI rfl e_S5
    exact F.trans (w67 E.1 S5 v1 (0 : Int32) hf)
  have w42 : ∀ (S : ST) (v1 : Int32) (v2 : Int32) (v3 : Int32), f_X7_sheet_b42 E S v1 v2 v3 = some (rr, SS) → Fm ww_X7_sheet S SS := by
    intro S v1 v2 v3 hf
    unfold f_X7_sheet_b42 at hf
    have F : Fm ww_X7_sheet S S := Fm.rf
    obtain ⟨-, hf⟩ := ck_out hf
    obtain ⟨S7, e_S7, hf⟩ := lt_out hf
    have F := F.sI rfl e_S7
    by_cases h : 0 ≤ v2
    · have hf := if_t h hf
      exact F.trans (w63 S7 v1 v3 v1 hf)
    · have hf := if_f h hf
      exact F.trans (w63 S7 v1 (0 : Int32) v1 hf)
  have w31 : ∀ (S : ST) (v1 : Int32) (v2 : Int32) (v3 : Int32), f_X7_sheet_b31 E S v1 v2 v3 = some (rr, SS) → Fm ww_X7_sheet S SS := by
    intro S v1 v2 v3 hf
    unfold f_X7_sheet_b31 at hf
    have F : Fm ww_X7_sheet S S := Fm.rf
    by_cases h : v2 < 0
    · have hf := if_t h hf
      exact F.trans (w42 S v1 v2 v3 hf)
    · have hf := if_f h hf
      by_cases h : 0 ≤ v3
      · have hf := if_t h hf
        exact F.trans (w42 S v1 v2 v3 hf)
      · have hf := if_f h hf
        exact F.fin2 hf
  unfold f_X7_sheet at hf
  have F : Fm ww_X7_sheet S S := Fm.rf
  obtain ⟨r8, hc, hf⟩ := bd_out hf
  by_cases h : r8 = 0
  · have hf := if_t h hf
    exact F.fin2 hf
  · have hf := if_f h hf
    obtain ⟨r9, hc, hf⟩ := bd_out hf
    by_cases h : r9 = 0
    · have hf := if_t h hf
      exact F.fin2 hf
    · have hf := if_f h hf
      by_cases h : a2 < 0
      · have hf := if_t h hf
        exact F.trans (w31 S a1 a2 a3 hf)
      · have hf := if_f h hf
        by_cases h : a3 ≤ (40 : Int32)
        · have hf := if_t h hf
          exact F.trans (w31 S a1 a2 a3 hf)
        · have hf := if_f h hf
          exact F.fin2 hf
def ww_X7_cell : List (Nat × Nat) := [(85, 0)]
set_option maxRecDepth 100000 in
theorem fr_X7_cell (E : EN) (S : ST) (a1 : Int32) (a2 : Int32) (a3 : Int32) (rr : Int32) (SS : ST) (hf : f_X7_cell E S a1 a2 a3 = some (rr, SS)) : Fm ww_X7_cell S SS := by
  have w83 : ∀ (S : ST) (t0 : Int32) (t1 : Int32), f_X7_cell_b83 E S t0 t1 = some (rr, SS) → Fm ww_X7_cell S SS := by
    intro S t0 t1 hf
    unfold f_X7_cell_b83 at hf
    have F : Fm ww_X7_cell S S := Fm.rf
    obtain ⟨-, hf⟩ := ck_out hf
    obtain ⟨S2, e_S2, hf⟩ := lt_out hf
    have F := F.sI rfl e_S2
    exact F.fin2 hf
  unfold f_X7_cell at hf
  have F : Fm ww_X7_cell S S := Fm.rf
  obtain ⟨r3, hc, hf⟩ := bd_out hf
  by_cases h : r3 = 0
  · have hf := if_t h hf
    exact F.fin2 hf
  · have hf := if_f h hf
    obtain ⟨-, hf⟩ := ck_out hf
    by_cases h : 0 ≤ (gI S 83 0 a1.toNatClampNeg)
    · have hf := if_t h hf
      obtain ⟨r5, hc, hf⟩ := bd_out hf
      by_cases h : r5 = 0
      · have hf := if_t h hf
        exact F.fin2 hf
      · have hf := if_f h hf
        by_cases h : (gI S 83 0 a1.toNatClampNeg) = 0
        · have hf := if_t h hf
          exact F.trans (w83 S a3.toInt8.toInt32 (((40 : Int32) * a1) + a2) hf)
        · have hf := if_f h hf
          by_cases h : (gI S 83 0 a1.toNatClampNeg) = (1 : Int32)
          · have hf := if_t h hf
            exact F.trans (w83 S a3.toInt16.toInt32 (((40 : Int32) * a1) + a2) hf)
          · have hf := if_f h hf
            exact F.trans (w83 S a3 (((40 : Int32) * a1) + a2) hf)
    · have hf := if_f h hf
      exact F.fin2 hf
def ww_X7_copy : List (Nat × Nat) := [(85, 0), (86, 0)]
set_option maxRecDepth 100000 in
theorem fr_X7_copy (E : EN) (S : ST) (a1 : Int32) (a2 : Int32) (a3 : Int32) (a4 : Int32) (a5 : Int32) (rr : Int32) (SS : ST) (hf : f_X7_copy E S a1 a2 a3 a4 a5 = some (rr, SS)) : Fm ww_X7_copy S SS := by
  have w142 : ∀ (n142 : Nat) (S : ST) (v3 : Int32) (v4 : Int32) (v5 : Int32) (v6 : Int32), f_X7_copy_b142 E n142 S v3 v4 v5 v6 = some (rr, SS) → Fm ww_X7_copy S SS := by
    intro n142
    induction n142 with
    | zero =>
      intro S v3 v4 v5 v6 hf
      exact absurd (show (none : Option (Int32 × ST)) = some (rr, SS) from hf) (fun h => by cases h)
    | succ n142 ih142 =>
      intro S v3 v4 v5 v6 hf
      have hf : g_X7_copy_b142 E (f_X7_copy_b142 E n142) S v3 v4 v5 v6 = some (rr, SS) := hf
      unfold g_X7_copy_b142 at hf
      have F : Fm ww_X7_copy S S := Fm.rf
      by_cases h : v5 ≤ v6
      · have hf := if_t h hf
        exact F.fin2 hf
      · have hf := if_f h hf
        obtain ⟨-, hf⟩ := ck_out hf
        obtain ⟨-, hf⟩ := ck_out hf
        obtain ⟨S3, e_S3, hf⟩ := lt_out hf
        have F := F.sI rfl e_S3
        obtain ⟨x4, e_x4, hf⟩ := lt_out hf
        exact F.trans (ih142 S3 v3 v4 v5 x4 hf)
  have w139 : ∀ (S : ST) (v3 : Int32) (v4 : Int32) (v5 : Int32), f_X7_copy_b139 E S v3 v4 v5 = some (rr, SS) → Fm ww_X7_copy S SS := by
    intro S v3 v4 v5 hf
    unfold f_X7_copy_b139 at hf
    have F : Fm ww_X7_copy S S := Fm.rf
    exact F.trans (w142 E.1 S v3 v4 v5 (0 : Int32) hf)
  have w105 : ∀ (n105 : Nat) (S : ST) (v1 : Int32) (v2 : Int32) (v3 : Int32) (v4 : Int32) (v5 : Int32) (v6 : Int32), f_X7_copy_b105 E n105 S v1 v2 v3 v4 v5 v6 = some (rr, SS) → Fm ww_X7_copy S SS := by
    intro n105
    induction n105 with
    | zero =>
      intro S v1 v2 v3 v4 v5 v6 hf
      exact absurd (show (none : Option (Int32 × ST)) = some (rr, SS) from hf) (fun h => by cases h)
    | succ n105 ih105 =>
      intro S v1 v2 v3 v4 v5 v6 hf
      have hf : g_X7_copy_b105 E (f_X7_copy_b105 E n105) S v1 v2 v3 v4 v5 v6 = some (rr, SS) := hf
      unfold g_X7_copy_b105 at hf
      have F : Fm ww_X7_copy S S := Fm.rf
      by_cases h : v5 ≤ v6
      · have hf := if_t h hf
        exact F.trans (w139 S v3 v4 v5 hf)
      · have hf := if_f h hf
        obtain ⟨-, hf⟩ := ck_out hf
        obtain ⟨-, hf⟩ := ck_out hf
        obtain ⟨S7, e_S7, hf⟩ := lt_out hf
        have F := F.sI rfl e_S7
        obtain ⟨x8, e_x8, hf⟩ := lt_out hf
        exact F.trans (ih105 S7 v1 v2 v3 v4 v5 x8 hf)
  unfold f_X7_copy at hf
  have F : Fm ww_X7_copy S S := Fm.rf
  obtain ⟨r9, hc, hf⟩ := bd_out hf
  by_cases h : r9 = 0
  · have hf := if_t h hf
    exact F.fin2 hf
  · have hf := if_f h hf
    obtain ⟨r10, hc, hf⟩ := bd_out hf
    by_cases h : r10 = 0
    · have hf := if_t h hf
      exact F.fin2 hf
    · have hf := if_f h hf
      obtain ⟨-, hf⟩ := ck_out hf
      by_cases h : (gI S 83 0 a1.toNatClampNeg) < 0
      · have hf := if_t h hf
        exact F.fin2 hf
      · have hf := if_f h hf
        obtain ⟨-, hf⟩ := ck_out hf
        by_cases h : 0 ≤ (gI S 83 0 a3.toNatClampNeg)
        · have hf := if_t h hf
          by_cases h : (gI S 83 0 a1.toNatClampNeg) = (gI S 83 0 a3.toNatClampNeg)
          · have hf := if_t h hf
            by_cases h : a5 < 0
            · have hf := if_t h hf
              exact F.fin2 hf
            · have hf := if_f h hf
              by_cases h : a2 < 0
              · have hf := if_t h hf
                exact F.fin2 hf
              · have hf := if_f h hf
                by_cases h : a4 < 0
                · have hf := if_t h hf
                  exact F.fin2 hf
                · have hf := if_f h hf
                  by_cases h : ((gI S 84 0 a1.toNatClampNeg) - a5) < a2
                  · have hf := if_t h hf
                    exact F.fin2 hf
                  · have hf := if_f h hf
                    by_cases h : a4 ≤ ((gI S 84 0 a3.toNatClampNeg) - a5)
                    · have hf := if_t h hf
                      exact F.trans (w105 E.1 S a1 a2 a3 a4 a5 (0 : Int32) hf)
                    · have hf := if_f h hf
                      exact F.fin2 hf
          · have hf := if_f h hf
            exact F.fin2 hf
        · have hf := if_f h hf
          exact F.fin2 hf
def ww_X7_pupils : List (Nat × Nat) := [(1, 1), (41, 0), (42, 0), (43, 0), (44, 0), (45, 0)]
set_option maxRecDepth 100000 in
theorem fr_X7_pupils (E : EN) (S : ST) (a1 : Int32) (a2 : Int32) (a3 : Int32) (a4 : Int32) (rr : Int32) (SS : ST) (hf : f_X7_pupils E S a1 a2 a3 a4 = some (rr, SS)) : Fm ww_X7_pupils S SS := by
  have w64 : ∀ (n64 : Nat) (S : ST) (v1 : Int32) (v3 : Int32) (v4 : Int32) (v5 : Int32) (v6 : Int32), f_X7_pupils_b64 E n64 S v1 v3 v4 v5 v6 = some (rr, SS) → Fm ww_X7_pupils S SS := by
    intro n64
    induction n64 with
    | zero =>
      intro S v1 v3 v4 v5 v6 hf
      exact absurd (show (none : Option (Int32 × ST)) = some (rr, SS) from hf) (fun h => by cases h)
    | succ n64 ih64 =>
      have w167 : ∀ (S : ST) (v1 : Int32) (v3 : Int32) (v4 : Int32) (v5 : Int32) (v6 : Int32), f_X7_pupils_b167 E (f_X7_pupils_b64 E n64) S v1 v3 v4 v5 v6 = some (rr, SS) → Fm ww_X7_pupils S SS := by
        intro S v1 v3 v4 v5 v6 hf
        unfold f_X7_pupils_b167 at hf
        have F : Fm ww_X7_pupils S S := Fm.rf
        obtain ⟨x1, e_x1, hf⟩ := lt_out hf
        exact F.trans (ih64 S v1 v3 v4 v5 x1 hf)
      intro S v1 v3 v4 v5 v6 hf
      have hf : g_X7_pupils_b64 E (f_X7_pupils_b64 E n64) S v1 v3 v4 v5 v6 = some (rr, SS) := hf
      unfold g_X7_pupils_b64 at hf
      have F : Fm ww_X7_pupils S S := Fm.rf
      by_cases h : v4 ≤ v6
      · have hf := if_t h hf
        exact F.fin2 hf
      · have hf := if_f h hf
        by_cases h : v3 < 0
        · have hf := if_t h hf
          exact F.fin2 hf
        · have hf := if_f h hf
          obtain ⟨-, hf⟩ := ck_out hf
          by_cases h : v3 ≤ (((gI S 84 0 v1.toNatClampNeg) - ((2 : Int32) * v6)) - (2 : Int32))
          · have hf := if_t h hf
            obtain ⟨-, hf⟩ := ck_out hf
            obtain ⟨x4, e_x4, hf⟩ := lt_out hf
            obtain ⟨-, hf⟩ := ck_out hf
            obtain ⟨x6, e_x6, hf⟩ := lt_out hf
            obtain ⟨r7, hc, hf⟩ := bd_out hf
            by_cases h : r7 = 0
            · have hf := if_t h hf
              exact F.trans (w167 S v1 v3 v4 v5 v6 hf)
            · have hf := if_f h hf
              by_cases h : (gI S 1 0 0) = (8 : Int32)
              · have hf := if_t h hf
                exact F.trans (w167 S v1 v3 v4 v5 v6 hf)
              · have hf := if_f h hf
                obtain ⟨S8, hc, hf⟩ := bd_out hf
                have F := F.tr (fr_X7_comes E S x4 x6 S8 hc) rfl
                obtain ⟨x9, e_x9, hf⟩ := lt_out hf
                exact F.trans (w167 S8 v1 v3 v4 x9 v6 hf)
          · have hf := if_f h hf
            exact F.fin2 hf
  unfold f_X7_pupils at hf
  have F : Fm ww_X7_pupils S S := Fm.rf
  obtain ⟨r10, hc, hf⟩ := bd_out hf
  by_cases h : r10 = 0
  · have hf := if_t h hf
    exact F.fin2 hf
  · have hf := if_f h hf
    obtain ⟨r11, hc, hf⟩ := bd_out hf
    by_cases h : r11 = 0
    · have hf := if_t h hf
      exact F.fin2 hf
    · have hf := if_f h hf
      obtain ⟨r12, hc, hf⟩ := bd_out hf
      by_cases h : r12 = 0
      · have hf := if_t h hf
        exact F.fin2 hf
      · have hf := if_f h hf
        obtain ⟨-, hf⟩ := ck_out hf
        by_cases h : 0 ≤ (gI S 83 0 a1.toNatClampNeg)
        · have hf := if_t h hf
          by_cases h : (gI S 83 0 a1.toNatClampNeg) = a2
          · have hf := if_t h hf
            exact F.trans (w64 E.1 S a1 a3 a4 (0 : Int32) (0 : Int32) hf)
          · have hf := if_f h hf
            exact F.fin2 hf
        · have hf := if_f h hf
          exact F.fin2 hf
