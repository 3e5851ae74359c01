/-! PURE PART: cell, copy -/
theorem RS.at {S : ST} (h : RS S) {t : Nat} (ht : t < 4) : ∃ (so : Int32) (n : Nat), n ≤ 40 ∧ (so = -1 ∧ n = 0 ∨ so = nI 0 ∨ so = nI 1 ∨ so = nI 2) ∧ gI S 24 t 0 = so ∧ gI S 83 0 t = so ∧ gI S 24 t 1 = nI n ∧ gI S 84 0 t = nI n ∧ ∀ k, k < 40 → gI S 25 t k = gI S 85 0 (40 * t + k) := h t ht
/-- items become other on both sides -/
theorem RS.items {S S1 : ST} (h : RS S) {t : Nat} (a : Ag [(24, 1), (24, 2), (83, 0), (84, 0)] S S1)
    (c1 : ∀ q, q < 4 → q ≠ t → ∀ k, k < 40 → gI S1 25 q k = gI S 25 q k ∧ gI S1 85 0 (40 * q + k) = gI S 85 0 (40 * q + k))
    (c2 : ∀ k, k < 40 → gI S1 25 t k = gI S1 85 0 (40 * t + k)) : RS S1 := fun q hq => by
  obtain ⟨so0, n0, h1, h2, h3, h4, h5, h6, h7⟩ := h q hq
  refine ⟨so0, n0, h1, h2, (a.I rfl).trans h3, (a.I rfl).trans h4, (a.I rfl).trans h5, (a.I rfl).trans h6, fun k hk => ?_⟩
  by_cases e : q = t
  · subst e
    exact c2 k hk
  · exact (c1 q hq e k hk).1.trans ((h7 k hk).trans (c1 q hq e k hk).2.symm)
def nrw (so v : Int32) : Int32 := if so = 0 then v.toInt8.toInt32 else if so = (1 : Int32) then v.toInt16.toInt32 else v
theorem s_cutDown {E : EN} {S : ST} {t : Nat} {v : Int32} : f_X4_cutDown E t S v = some (nrw (gI S 24 t 0) v) := by
  unfold f_X4_cutDown nrw
  by_cases h : gI S 24 t 0 = 0
  · rw [if_pos h, if_pos h]
  · rw [if_neg h, if_neg h]
    by_cases h1 : gI S 24 t 0 = 1
    · rw [if_pos h1, if_pos h1]
    · rw [if_neg h1, if_neg h1]
theorem so_cases {so : Int32} {n : Nat} (h : so = -1 ∧ n = 0 ∨ so = nI 0 ∨ so = nI 1 ∨ so = nI 2) : (so = -1 ∧ n = 0 ∧ so < 0 ∧ ¬ 0 ≤ so) ∨ (so ≠ -1 ∧ ¬ so < 0 ∧ 0 ≤ so) := by
  rcases h with ⟨rfl, rfl⟩ | rfl | rfl | rfl
  · exact Or.inl ⟨rfl, rfl, by decide, by decide⟩
  · exact Or.inr ⟨by decide, by decide, by decide⟩
  · exact Or.inr ⟨by decide, by decide, by decide⟩
  · exact Or.inr ⟨by decide, by decide, by decide⟩
theorem k_cell {E : EN} {S : ST} (h : RS S) (a b c : Int32) : ∃ (r : Int32) (S1 S2 : ST), f_X6_cell E S a b c = some (r, S1) ∧ f_X7_cell E S1 a b c = some (r, S2) ∧ RS S2 := by
  unfold f_X6_cell f_X7_cell
  rcases q_sheet a with ⟨t, ht, rfl⟩ | hno
  · obtain ⟨so, n, hn, hso, e1, e2, e3, e4, e5⟩ := h t ht
    have hi : ib_ (nI t) 4 = true := ib_nI ht (by decide)
    have hcl := q_cl (n := t) (by omega)
    rw [bd_some (s_laid1 ht), nl_so, ck_in (decide_eq_true ht), e1]
    rcases so_cases hso with ⟨s1, s2, s3, s4⟩ | ⟨s1, s2, s3⟩
    · exact ⟨-11, S, S, by rw [if_pos s1], by rw [bd_some (s_isSheet1 ht), if_neg (by decide), ck_in hi, hcl, e2, if_neg s4], h⟩
    · rw [if_neg s1, e3]
      by_cases hb : ∃ i, i < n ∧ b = nI i
      · obtain ⟨i, hin, rfl⟩ := hb
        have F : Fm [(25, 0)] S (sI S 25 t i (nrw so c)) := Fm.rf.sI rfl rfl
        refine ⟨1, sI S 25 t i (nrw so c), sI (sI S 25 t i (nrw so c)) 85 0 (40 * t + i) (nrw so c), ?_, ?_, ?_⟩
        · rw [if_neg (q_n0 (by omega)), if_pos (by rw [q_lt (by omega) (by omega)]; exact hin), bd_some s_cutDown, ck_in (ib_nI (by omega) (by decide)), q_cl (by omega), e1]
          rfl
        · rw [bd_some (s_isSheet1 ht), if_neg (by decide), ck_in hi, hcl, F.I rfl, e2, F.I rfl, e4, if_pos s3]
          obtain ⟨m, rfl⟩ : ∃ m, n = m + 1 := ⟨n - 1, by omega⟩
          rw [q_m1, bd_some (s_inY (by omega) (by omega) rfl (by omega)), if_neg (by decide), q_i40]
          unfold f_X7_cell_b83
          simp only [lt_]
          rw [ck_in (ib_nI (by omega) (by decide)), q_cl (by omega)]
          unfold nrw
          by_cases z0 : so = 0
          · rw [if_pos z0, if_pos z0]
          · rw [if_neg z0, if_neg z0]
            by_cases z1 : so = 1
            · rw [if_pos z1, if_pos z1, ck_in (ib_nI (by omega) (by decide))]
            · rw [if_neg z1, if_neg z1, ck_in (ib_nI (by omega) (by decide))]
        · refine h.items (t := t) (Fm.ag (w := [(25, 0), (85, 0)]) ((Fm.rf.sI rfl rfl).sI rfl rfl) rfl) (fun q hq e k hk => ⟨?_, ?_⟩) (fun k hk => ?_)
          · rw [gI_sI, if_neg (by omega), gI_sI, if_neg (by omega)]
          · rw [gI_sI, if_neg (by omega), gI_sI, if_neg (by omega)]
          · rw [gI_sI, if_neg (by omega), gI_sI, gI_sI]
            by_cases z : k = i
            · rw [if_pos ⟨rfl, rfl, z⟩, if_pos ⟨rfl, rfl, by omega⟩]
            · rw [if_neg (by omega), if_neg (by omega), gI_sI, if_neg (by omega)]
              exact e5 k hk
      · refine ⟨-12, S, S, ?_, ?_, h⟩
        · rcases q_or b with hs | ⟨i, hi2, rfl⟩
          · rw [if_pos hs]
          · rw [if_neg (q_n0 hi2), if_neg (by rw [q_lt hi2 (by omega)]; exact fun q => hb ⟨i, q, rfl⟩)]
        · rw [bd_some (s_isSheet1 ht), if_neg (by decide), ck_in hi, hcl, e2, e4, if_pos s3]
          have hin0 : f_X7_in E S b 0 (nI n - 1) = some 0 := by
            rcases q_or b with hs | ⟨i, hi2, rfl⟩
            · exact s_inS hs
            · have hni : ¬ i < n := fun q => hb ⟨i, q, rfl⟩
              rcases n with _ | m
              · refine s_in0 (Or.inr ?_)
                rw [q_z1, Int32.lt_iff_toInt_lt, nI_toInt hi2, show (-1 : Int32).toInt = -1 from by decide]
                omega
              · rw [q_m1]
                exact s_inZ hi2 (by omega) rfl (by omega)
          rw [bd_some hin0, if_pos (by decide)]
  · exact ⟨-2, S, S, by rw [bd_some (s_laid0 hno)]; rfl, by rw [bd_some (s_isSheet0 hno), if_pos (by decide)], h⟩
