/-! PURE PART: loops in general; copy, force, feed -/
theorem lpN {α σ : Type} {φ : Nat → σ → α} {T : Nat → σ} {N : Nat} {r : α} (st : ∀ n v, v < N → φ (n + 1) (T v) = φ n (T (v + 1))) (en : ∀ n, φ (n + 1) (T N) = r) {n : Nat} (h : N < n) : φ n (T 0) = r := by
  have go : ∀ (k v n : Nat), v + k = N → k < n → φ n (T v) = r := by
    intro k
    induction k with
    | zero =>
      intro v n hv hn
      obtain ⟨m, rfl⟩ : ∃ m, n = m + 1 := ⟨n - 1, by omega⟩
      rw [show v = N by omega]
      exact en m
    | succ k ih =>
      intro v n hv hn
      obtain ⟨m, rfl⟩ : ∃ m, n = m + 1 := ⟨n - 1, by omega⟩
      rw [st m v (by omega)]
      exact ih (v + 1) m (by omega) (by omega)
  exact go N 0 n (by omega) h
theorem flr_s (S : ST) (K i o : Nat) (v : Nat → Int32) (k : Nat) : flr S K i o v (k + 1) = sI (flr S K i o v k) K i (o + k) (v k) := rfl
/-! ## copy -/
theorem s_copyM {E : EN} {S : ST} (hN : 50 ≤ E.1) {t i t2 j n : Nat} (ht : t < 4) (ht2 : t2 < 4) (hi : i + n ≤ 40) (hj : j + n ≤ 40) : f_X7_copy_b105 E E.1 S (nI t) (nI i) (nI t2) (nI j) (nI n) (0 : Int32) = some (nI n, flr (flr S 86 0 0 (fun k => gI S 85 0 (40 * t + i + k)) n) 85 0 (40 * t2 + j) (fun k => gI S 85 0 (40 * t + i + k)) n) := by
  refine lpN (σ := ST × Nat) (φ := fun m x => f_X7_copy_b105 E m x.1 (nI t) (nI i) (nI t2) (nI j) (nI n) (nI x.2)) (T := fun v => (flr S 86 0 0 (fun k => gI S 85 0 (40 * t + i + k)) v, v)) (N := n) (fun m v hv => ?_) (fun m => ?_) (by omega)
  · show g_X7_copy_b105 E (f_X7_copy_b105 E m) _ _ _ _ _ _ _ = _
    unfold g_X7_copy_b105
    rw [if_neg (by rw [q_le (by omega) (by omega)]; omega), q_i40, nI_add, ck_in (ib_nI (by omega) (by decide)), ck_in (ib_nI (by omega) (by decide)), q_cl (by omega), q_cl (by omega)]
    simp only [lt_]
    rw [nI_1, gI_flr, if_neg (by omega), flr_s, Nat.zero_add]
  · show g_X7_copy_b105 E (f_X7_copy_b105 E m) _ _ _ _ _ _ _ = _
    unfold g_X7_copy_b105
    rw [if_pos (by rw [q_le (by omega) (by omega)]; omega)]
    unfold f_X7_copy_b139
    generalize hS' : flr S 86 0 0 (fun k => gI S 85 0 (40 * t + i + k)) n = S'
    have h6 : ∀ k, k < n → gI S' 86 0 k = gI S 85 0 (40 * t + i + k) := fun k hk => by
      rw [← hS', gI_flr, if_pos ⟨rfl, rfl, by omega, by omega⟩]
      rfl
    refine lpN (σ := ST × Nat) (φ := fun m x => f_X7_copy_b142 E m x.1 (nI t2) (nI j) (nI n) (nI x.2)) (T := fun v => (flr S' 85 0 (40 * t2 + j) (fun k => gI S 85 0 (40 * t + i + k)) v, v)) (N := n) (fun m v hv => ?_) (fun m => ?_) (by omega)
    · show g_X7_copy_b142 E (f_X7_copy_b142 E m) _ _ _ _ _ = _
      unfold g_X7_copy_b142
      rw [if_neg (by rw [q_le (by omega) (by omega)]; omega), q_i40, nI_add, ck_in (ib_nI (by omega) (by decide)), ck_in (ib_nI (by omega) (by decide)), q_cl (by omega), q_cl (by omega)]
      simp only [lt_]
      rw [nI_1, gI_flr, if_neg (by omega), h6 v hv, flr_s]
    · show g_X7_copy_b142 E (f_X7_copy_b142 E m) _ _ _ _ _ = _
      unfold g_X7_copy_b142
      rw [if_pos (by rw [q_le (by omega) (by omega)]; omega)]
theorem q_room {n1 n i : Nat} (h1 : n1 ≤ 40) (hn : n < 2147483648) (hi : i < 2147483648) (h : ¬ nI n1 - nI n < nI i) : i + n ≤ n1 := by
  rw [Int32.lt_iff_toInt_lt, nI_toInt hi, Int32.toInt_sub, nI_toInt (by omega), nI_toInt hn, Int.bmod_eq_of_le (by omega) (by omega)] at h
  omega
theorem k_copy {E : EN} {S : ST} (hN : 50 ≤ E.1) (h : RS S) (a b c d e : Int32) : ∃ (r : Int32) (S1 S2 : ST), f_X6_copy E S a b c d e = some (r, S1) ∧ f_X7_copy E S1 a b c d e = some (r, S2) ∧ RS S2 := by
  unfold f_X6_copy f_X7_copy
  rcases q_sheet a with ⟨t, ht, rfl⟩ | hno
  · rcases q_sheet c with ⟨t2, ht2, rfl⟩ | hno2
    · obtain ⟨so, n, hn, hso, e1, e2, e3, e4, e5⟩ := h t ht
      obtain ⟨so2, n2, hn2, hso2, y1, y2, y3, y4, y5⟩ := h t2 ht2
      have hi : ib_ (nI t) 4 = true := ib_nI ht (by decide)
      have hcl := q_cl (n := t) (by omega)
      have hi2 : ib_ (nI t2) 4 = true := ib_nI ht2 (by decide)
      have hcl2 := q_cl (n := t2) (by omega)
      rw [bd_some (s_laid1 ht), nl_so, ck_in (decide_eq_true ht), bd_some (s_laid1 ht2), nl_so, ck_in (decide_eq_true ht2), e1, y1, e3, y3]
      have M : ∀ S1 : ST, f_X7_isSheet E S1 (nI t) = some 1 := fun _ => s_isSheet1 ht
      have M2 : ∀ S1 : ST, f_X7_isSheet E S1 (nI t2) = some 1 := fun _ => s_isSheet1 ht2
      rcases so_cases hso with ⟨s1, s2, s3, s4⟩ | ⟨s1, s2, s3⟩
      · exact ⟨-11, S, S, by rw [if_pos s1], by rw [bd_some (M _), if_neg (by decide), bd_some (M2 _), if_neg (by decide), ck_in hi, hcl, e2, if_pos s3], h⟩
      rw [if_neg s1]
      rcases so_cases hso2 with ⟨z1, z2, z3, z4⟩ | ⟨z1, z2, z3⟩
      · exact ⟨-11, S, S, by rw [if_pos z1], by rw [bd_some (M _), if_neg (by decide), bd_some (M2 _), if_neg (by decide), ck_in hi, hcl, e2, if_neg s2, ck_in hi2, hcl2, y2, if_neg z4], h⟩
      rw [if_neg z1]
      have hM : ∀ {α : Type} {x y z w : α} (S1 : ST), gI S1 83 0 t = so → gI S1 83 0 t2 = so2 → ((if gI S1 83 0 t < 0 then x else if 0 ≤ gI S1 83 0 t2 then (if gI S1 83 0 t = gI S1 83 0 t2 then y else z) else w) = if so = so2 then y else z) := fun S1 p1 p2 => by
        rw [p1, p2, if_neg s2, if_pos z3]
      by_cases q : so = so2
      · rw [if_pos q]
        have LM : ∀ {β : Type} (r : Int32) {x y : β}, (if r = r then x else y) = x := fun r {_ _} => if_pos rfl
        by_cases c1 : e < 0
        · exact ⟨-12, S, S, by rw [if_pos c1], by rw [bd_some (M _), if_neg (by decide), bd_some (M2 _), if_neg (by decide), ck_in hi, hcl, e2, if_neg s2, ck_in hi2, hcl2, y2, if_pos z3, if_pos q, if_pos c1], h⟩
        rw [if_neg c1]
        by_cases c2 : b < 0
        · exact ⟨-12, S, S, by rw [if_pos c2], by rw [bd_some (M _), if_neg (by decide), bd_some (M2 _), if_neg (by decide), ck_in hi, hcl, e2, if_neg s2, ck_in hi2, hcl2, y2, if_pos z3, if_pos q, if_neg c1, if_pos c2], h⟩
        rw [if_neg c2]
        by_cases c3 : d < 0
        · exact ⟨-12, S, S, by rw [if_pos c3], by rw [bd_some (M _), if_neg (by decide), bd_some (M2 _), if_neg (by decide), ck_in hi, hcl, e2, if_neg s2, ck_in hi2, hcl2, y2, if_pos z3, if_pos q, if_neg c1, if_neg c2, if_pos c3], h⟩
        rw [if_neg c3]
        by_cases c4 : nI n - e < b
        · exact ⟨-12, S, S, by rw [if_pos c4], by rw [bd_some (M _), if_neg (by decide), bd_some (M2 _), if_neg (by decide), ck_in hi, hcl, e2, if_neg s2, ck_in hi2, hcl2, y2, if_pos z3, if_pos q, if_neg c1, if_neg c2, if_neg c3, e4, if_pos c4], h⟩
        rw [if_neg c4]
        by_cases c5 : d ≤ nI n2 - e
        · rw [if_pos c5]
          obtain ⟨m, hm, rfl⟩ := (q_or e).resolve_left c1
          obtain ⟨i, hi3, rfl⟩ := (q_or b).resolve_left c2
          obtain ⟨j, hj3, rfl⟩ := (q_or d).resolve_left c3
          have r1 := q_room hn hm hi3 c4
          have r2 := q_room hn2 hm hj3 (Int32.not_lt.mpr c5)
          rw [decide_eq_false c1, decide_eq_false c2, decide_eq_false c3, q_cl hm, q_cl hi3, q_cl hj3, ck_in (show (!false) = true from rfl), ck_in (show (!false) = true from rfl), ck_in (show (!false) = true from rfl), ck_in (decide_eq_true (by omega)), ck_in (decide_eq_true (by omega))]
          have F : Fm [(25, 0)] S (aI S 25 t2 (va_cpy (S.1 25 t) (S.1 25 t2) i j m)) := Fm.rf.aI rfl rfl
          refine ⟨nI m, aI S 25 t2 (va_cpy (S.1 25 t) (S.1 25 t2) i j m), flr (flr (aI S 25 t2 (va_cpy (S.1 25 t) (S.1 25 t2) i j m)) 86 0 0 (fun k => gI (aI S 25 t2 (va_cpy (S.1 25 t) (S.1 25 t2) i j m)) 85 0 (40 * t + i + k)) m) 85 0 (40 * t2 + j) (fun k => gI (aI S 25 t2 (va_cpy (S.1 25 t) (S.1 25 t2) i j m)) 85 0 (40 * t + i + k)) m, rfl, ?_, ?_⟩
          · rw [bd_some (M _), if_neg (by decide), bd_some (M2 _), if_neg (by decide), ck_in hi, hcl, F.I rfl, e2, if_neg s2, ck_in hi2, hcl2, F.I rfl, y2, if_pos z3, if_pos q, if_neg c1, if_neg c2, if_neg c3, F.I rfl, e4, if_neg c4, F.I rfl, y4, if_pos c5]
            exact s_copyM hN ht ht2 (by omega) (by omega)
          · refine h.items (t := t2) (Fm.ag (w := [(25, 0), (85, 0), (86, 0)]) (((Fm.rf.aI rfl rfl).trans (flr_F _ _ _ _ _ (fun _ => rfl) _)).trans (flr_F _ _ _ _ _ (fun _ => rfl) _)) rfl) (fun q hq e k hk => ⟨?_, ?_⟩) (fun k hk => ?_)
            · rw [gI_flr, if_neg (by omega), gI_flr, if_neg (by omega), gI_aI, if_neg (by omega)]
            · rw [gI_flr, if_neg (by omega), gI_flr, if_neg (by omega), gI_aI, if_neg (by omega)]
            · rw [gI_flr, if_neg (by omega), gI_flr, if_neg (by omega), gI_aI, if_pos ⟨rfl, rfl⟩, gI_flr]
              unfold va_cpy
              by_cases z : j ≤ k ∧ k < j + m
              · rw [if_pos z, if_pos (by simp; omega)]
                show gI S 25 t (i + (k - j)) = gI _ 85 0 (40 * t + i + (40 * t2 + k - (40 * t2 + j)))
                rw [gI_aI, if_neg (by omega), e5 _ (by omega)]
                congr 1
                omega
              · rw [if_neg z, if_neg (by simp; omega), gI_flr, if_neg (by omega), gI_aI, if_neg (by omega)]
                exact y5 k hk
        · exact ⟨-12, S, S, by rw [if_neg c5], by rw [bd_some (M _), if_neg (by decide), bd_some (M2 _), if_neg (by decide), ck_in hi, hcl, e2, if_neg s2, ck_in hi2, hcl2, y2, if_pos z3, if_pos q, if_neg c1, if_neg c2, if_neg c3, e4, if_neg c4, y4, if_neg c5], h⟩
      · exact ⟨-13, S, S, by rw [if_neg q], by rw [bd_some (M _), if_neg (by decide), bd_some (M2 _), if_neg (by decide), ck_in hi, hcl, e2, if_neg s2, ck_in hi2, hcl2, y2, if_pos z3, if_neg q], h⟩
    · refine ⟨-2, S, S, ?_, by rw [bd_some (s_isSheet1 ht), if_neg (by decide), bd_some (s_isSheet0 hno2), if_pos (by decide)], h⟩
      rw [bd_some (s_laid1 ht), nl_so, ck_in (decide_eq_true ht), bd_some (s_laid0 hno2)]
      rfl
  · refine ⟨-2, S, S, ?_, by rw [bd_some (s_isSheet0 hno), if_pos (by decide)], h⟩
    rw [bd_some (s_laid0 hno), nl_no]
    rcases q_sheet c with ⟨t2, ht2, rfl⟩ | hno2
    · rw [bd_some (s_laid1 ht2), nl_so, ck_in (decide_eq_true ht2)]
    · rw [bd_some (s_laid0 hno2)]
      rfl
/-! ## feed -/
theorem q_byte (x : Int64) : ∃ b : Nat, b < 256 ∧ (x &&& (255 : Int64)).toInt32 = nI b ∧ (x.toInt32.toInt8.toInt32).toInt8.toInt32 = (nI b).toInt8.toInt32 := by
  have e : ((x &&& (255 : Int64)).toInt32) = nI ((x &&& (255 : Int64)).toInt32.toBitVec.toNat) := by
    apply Int32.toBitVec_inj.mp
    show _ = BitVec.ofNat 32 _
    rw [BitVec.ofNat_toNat]
    rfl
  refine ⟨(x &&& (255 : Int64)).toInt32.toBitVec.toNat, ?_, e, ?_⟩
  · show ((x.toBitVec &&& 255#64).signExtend 32).toNat < 256
    rw [BitVec.signExtend_eq_setWidth_of_le _ (by decide), BitVec.toNat_setWidth, BitVec.toNat_and]
    have : x.toBitVec.toNat &&& (255#64).toNat ≤ 255 := Nat.and_le_right
    omega
  · rw [← e]
    have e1 : ∀ y : Int32, (y.toInt8.toInt32).toInt8 = y.toInt8 := fun y => by simp
    rw [e1]
    congr 1
    apply Int8.toBitVec_inj.mp
    show (x.toBitVec.signExtend 32).signExtend 8 = ((x.toBitVec &&& 255#64).signExtend 32).signExtend 8
    rw [BitVec.signExtend_eq_setWidth_of_le _ (by decide), BitVec.signExtend_eq_setWidth_of_le _ (by decide), BitVec.signExtend_eq_setWidth_of_le _ (by decide), BitVec.signExtend_eq_setWidth_of_le _ (by decide)]
    ext i hi
    simp only [BitVec.getElem_setWidth, BitVec.getLsbD_setWidth, BitVec.getLsbD_and]
    have h255 : ∀ i, i < 8 → (255#64).getLsbD i = true := by decide
    rw [h255 i hi, Bool.and_true]
theorem k_force {E : EN} {S : ST} {nt rl : Nat} (r1 : gI S 2 0 3 = nI nt) (r2 : gI S 1 0 6 = nI nt) (r3 : gI S 2 0 4 = nI rl) (r4 : gI S 1 0 7 = nI rl) (h6 : nt ≤ 6) (hrl : rl < nt) (a : Int32) : ∃ (r : Int32) (S1 S2 : ST), f_X6_force E S a = some (r, S1) ∧ f_X7_force E S1 a = some (r, S2) ∧ Fm [(2, 5), (1, 8)] S S2 ∧ ∃ rl2 : Nat, rl2 < nt ∧ gI S2 2 0 4 = nI rl2 ∧ gI S2 1 0 7 = nI rl2 := by
  unfold f_X6_force f_X7_force
  obtain ⟨m, rfl⟩ : ∃ m, nt = m + 1 := ⟨nt - 1, by omega⟩
  rw [r1, r3]
  simp only [lt_]
  rcases q_or a with hs | ⟨x, hx, rfl⟩
  · exact ⟨-2, S, S, by rw [if_pos hs], by rw [bd_some (s_inS hs), if_pos rfl], Fm.rf, rl, hrl, r3, r4⟩
  by_cases h : x < m + 1
  · have F : Fm [(2, 5)] S (sI S 2 0 4 (nI x)) := Fm.rf.sI rfl rfl
    refine ⟨nI rl, sI S 2 0 4 (nI x), sI (sI S 2 0 4 (nI x)) 1 0 7 (nI x), ?_, ?_, (Fm.rf.sI rfl rfl).sI rfl rfl, x, h, ?_, ?_⟩
    · rw [if_neg (q_n0 hx), if_pos ((q_lt hx (by omega)).mpr h)]
    · rw [F.I rfl, r2, q_m1, bd_some (s_inY hx (by omega) rfl (by omega)), if_neg (by decide), F.I rfl, r4]
    · rw [gI_sI, if_neg (by omega), gI_sI, if_pos ⟨rfl, rfl, rfl⟩]
    · rw [gI_sI, if_pos ⟨rfl, rfl, rfl⟩]
  · exact ⟨-2, S, S, by rw [if_neg (q_n0 hx), if_neg (fun q => h ((q_lt hx (by omega)).mp q))], by rw [r2, q_m1, bd_some (s_inZ hx (by omega) rfl (by omega)), if_pos rfl], Fm.rf, rl, hrl, r3, r4⟩
/-- the byte of place k -/
def byI (v : Int64) (k : Nat) : Int64 := v >>> (((8 : Int32) * nI k).toInt64 &&& 63)
/-- values f in a row from place n on, and the count beside them -/
def fdS (S : ST) (K K0 j0 n : Nat) (f : Nat → Int32) : Nat → ST
  | 0 => S
  | k + 1 => sI (sI (fdS S K K0 j0 n f k) K 0 (n + k) (f k)) K0 0 j0 (nI (n + k + 1))
theorem fdS_c {S : ST} {K K0 j0 n : Nat} {f : Nat → Int32} (h : gI S K0 0 j0 = nI n) (hK : K ≠ K0) : ∀ k, gI (fdS S K K0 j0 n f k) K0 0 j0 = nI (n + k)
  | 0 => h
  | k + 1 => by
    show gI (sI _ _ _ _ _) _ _ _ = _
    rw [gI_sI, if_pos ⟨rfl, rfl, rfl⟩]
    rfl
theorem fdS_a {S : ST} {K K0 j0 n : Nat} {f : Nat → Int32} (hK : K ≠ K0) : ∀ k j, gI (fdS S K K0 j0 n f k) K 0 j = if n ≤ j ∧ j < n + k then f (j - n) else gI S K 0 j
  | 0, j => by rw [if_neg (by omega)]; rfl
  | k + 1, j => by
    show gI (sI _ _ _ _ _) _ _ _ = _
    rw [gI_sI, if_neg (fun q => hK q.1), gI_sI, fdS_a hK k j]
    by_cases e : j = n + k
    · subst e
      rw [if_pos ⟨rfl, rfl, rfl⟩, if_pos (by omega), Nat.add_sub_cancel_left]
    · rw [if_neg (fun q => e q.2.2)]
      by_cases z : n ≤ j ∧ j < n + k
      · rw [if_pos z, if_pos (by omega)]
      · rw [if_neg z, if_neg (by omega)]
theorem fdS_F {S : ST} {K K0 j0 n : Nat} {f : Nat → Int32} {w : List (Nat × Nat)} (h : ∀ j, wq w K j = true) (h0 : wq w K0 j0 = true) : ∀ k, Fm w S (fdS S K K0 j0 n f k)
  | 0 => Fm.rf
  | k + 1 => ((fdS_F h h0 k).sI (h _) rfl).sI h0 rfl
theorem k_feed {E : EN} {S : ST} (hN : 50 ≤ E.1) (h : RT S) (a : Int32) (v : Int64) : ∃ (r : Int32) (S1 S2 : ST), f_X6_feed E S a v = some (r, S1) ∧ f_X7_feed E S1 a v = some (r, S2) ∧ Fm [(2, 7), (1, 9), (5, 0), (56, 0)] S S2 ∧ RT S2 := by
  obtain ⟨n, hn, t1, t2, t3⟩ := id h
  unfold f_X6_feed f_X7_feed
  rcases q_or a with hs | ⟨x, hx, rfl⟩
  · have h1 : a < (1 : Int32) := Int32.lt_trans hs (by decide)
    exact ⟨-2, S, S, by rw [if_pos h1], by rw [bd_some (s_in0 (Or.inl h1)), if_pos rfl], Fm.rf, h⟩
  by_cases hx8 : 1 ≤ x ∧ x ≤ 8
  · rw [if_neg (by rw [q_ltR 1 (by decide) hx]; omega), if_pos (by rw [q_leR 8 (by decide) hx]; omega), t1, nI_add]
    have hi : ∀ S1 : ST, f_X7_in E S1 (nI x) (1 : Int32) (8 : Int32) = some 1 := fun S1 => s_in1 (by rw [q_ltR 1 (by decide) hx, q_ltL 8 (by decide) hx]; omega)
    by_cases hf : n + x ≤ 160
    · rw [if_pos (by rw [q_leR 160 (by decide) (by omega)]; exact hf)]
      generalize hfC : (fun z : Nat => (((byI v z).toInt32).toInt8.toInt32).toInt8.toInt32) = fC
      generalize hfM : (fun z : Nat => (byI v z &&& (255 : Int64)).toInt32) = fM
      have LC : f_X6_feed_b32 E E.1 S (nI x) v 0 = some (nI (n + x), fdS S 5 2 6 n fC x) := by
        refine lpN (σ := ST × Nat) (φ := fun m y => f_X6_feed_b32 E m y.1 (nI x) v (nI y.2)) (T := fun k => (fdS S 5 2 6 n fC k, k)) (N := x) (fun m k hk => ?_) (fun m => ?_) (by omega)
        · show g_X6_feed_b32 E (f_X6_feed_b32 E m) _ _ _ _ = _
          unfold g_X6_feed_b32
          rw [if_neg (by rw [q_le (by omega) (by omega)]; omega), fdS_c t1 (by decide), ck_in (ib_nI (by omega) (by decide)), q_cl (by omega)]
          simp only [lt_]
          rw [gI_sI, if_neg (by omega), fdS_c t1 (by decide), nI_1, nI_1, ← hfC]
          rfl
        · show g_X6_feed_b32 E (f_X6_feed_b32 E m) _ _ _ _ = _
          unfold g_X6_feed_b32 f_X6_feed_b72
          rw [if_pos (by rw [q_le (by omega) (by omega)]; omega), fdS_c t1 (by decide)]
      have FC : Fm [(2, 7), (5, 0)] S (fdS S 5 2 6 n fC x) := fdS_F (fun _ => rfl) rfl x
      have t2' : gI (fdS S 5 2 6 n fC x) 1 0 8 = nI n := (FC.I rfl).trans t2
      have LM : f_X7_feed_b32 E E.1 (fdS S 5 2 6 n fC x) (nI x) v 0 = some (nI (n + x), fdS (fdS S 5 2 6 n fC x) 56 1 8 n fM x) := by
        refine lpN (σ := ST × Nat) (φ := fun m y => f_X7_feed_b32 E m y.1 (nI x) v (nI y.2)) (T := fun k => (fdS (fdS S 5 2 6 n fC x) 56 1 8 n fM k, k)) (N := x) (fun m k hk => ?_) (fun m => ?_) (by omega)
        · show g_X7_feed_b32 E (f_X7_feed_b32 E m) _ _ _ _ = _
          unfold g_X7_feed_b32
          rw [if_neg (by rw [q_le (by omega) (by omega)]; omega), fdS_c t2' (by decide), ck_in (ib_nI (by omega) (by decide)), q_cl (by omega)]
          simp only [lt_]
          rw [gI_sI, if_neg (by omega), fdS_c t2' (by decide), nI_1, nI_1, ← hfM]
          rfl
        · show g_X7_feed_b32 E (f_X7_feed_b32 E m) _ _ _ _ = _
          unfold g_X7_feed_b32 f_X7_feed_b75
          rw [if_pos (by rw [q_le (by omega) (by omega)]; omega), fdS_c t2' (by decide)]
      have FM : Fm [(1, 9), (56, 0)] (fdS S 5 2 6 n fC x) (fdS (fdS S 5 2 6 n fC x) 56 1 8 n fM x) := fdS_F (fun _ => rfl) rfl x
      refine ⟨_, _, _, LC, ?_, (FC.mono rfl).trans (FM.mono rfl), n + x, hf, (FM.I rfl).trans (fdS_c t1 (by decide) x), fdS_c t2' (by decide) x, fun j hj => ?_⟩
      · rw [bd_some (hi _), if_neg (by decide), t2', nI_add, if_pos (by rw [q_leR 160 (by decide) (by omega)]; exact hf)]
        exact LM
      · rw [fdS_a (by decide), FM.I rfl, fdS_a (by decide), FC.I rfl]
        by_cases z : n ≤ j ∧ j < n + x
        · rw [if_pos z, if_pos z, ← hfC, ← hfM]
          obtain ⟨b, b1, b2, b3⟩ := q_byte (byI v (j - n))
          exact ⟨b, b1, b2, b3⟩
        · rw [if_neg z, if_neg z]
          exact t3 j (by omega)
    · exact ⟨-4, S, S, by rw [if_neg (by rw [q_leR 160 (by decide) (by omega)]; exact hf)], by rw [bd_some (hi _), if_neg (by decide), t2, nI_add, if_neg (by rw [q_leR 160 (by decide) (by omega)]; exact hf)], Fm.rf, h⟩
  · refine ⟨-2, S, S, ?_, ?_, Fm.rf, h⟩
    · by_cases z : x < 1
      · rw [if_pos (by rw [q_ltR 1 (by decide) hx]; exact z)]
      · rw [if_neg (by rw [q_ltR 1 (by decide) hx]; exact z), if_neg (by rw [q_leR 8 (by decide) hx]; omega)]
    · rw [bd_some (s_in0 (by rw [q_ltR 1 (by decide) hx, q_ltL 8 (by decide) hx]; omega)), if_pos rfl]
