/-! PURE PART: told, taken, count, image -/
theorem nl_no {β : Type} {x : β} {k : Nat → β} : nl_ none x k = x := rfl
theorem nl_so {β : Type} {a : Nat} {x : β} {k : Nat → β} : nl_ (some a) x k = k a := rfl
theorem s_told {E : EN} {S : ST} (h : RP E S) (a b : Int32) : ∃ r : Int32, f_X6_told E S a b = some r ∧ f_X7_told E S a b = some r := by
  obtain ⟨h8, hc, hm, hr, hp⟩ := id h
  unfold f_X6_told f_X7_told
  rcases q_pup E h8 a with ⟨p, hp1, rfl⟩ | hno
  · obtain ⟨k, g, c, n, w, q⟩ := hp p hp1
    obtain ⟨q1, ⟨a1, a2, a3, a4⟩, ⟨b1, b2, b3, b4⟩, c1, c2⟩ := q
    rw [bd_some (s_known1 hc hr hp1 h8), bd_some (s_isPupil1 hm hp1 h8), nl_so, ck_in (decide_eq_true hp1), if_neg (show ¬ (1 : Int32) = 0 by decide)]
    have hi : ib_ (nI p) 8 = true := ib_nI (by omega) (by decide)
    have hcl := q_cl (n := p) (by omega)
    by_cases hb : b < 0 ∨ (8 : Int32) < b
    · refine ⟨-5, ?_, ?_⟩
      · have n0 : ¬ b = 0 := fun e => by subst e; revert hb; decide
        have n1 : ¬ b = 1 := fun e => by subst e; revert hb; decide
        have n2 : ¬ b = 2 := fun e => by subst e; revert hb; decide
        have n3 : ¬ b = 3 := fun e => by subst e; revert hb; decide
        rw [if_neg n0, if_neg n1, if_neg n2, if_neg n3]
        rcases q_or b with hs | ⟨d, hd, rfl⟩
        · rw [if_pos (Int32.lt_trans hs (by decide))]
        · rcases hb with hb | hb
          · exact absurd hb (q_n0 hd)
          · rw [q_ltL 8 (by decide) hd] at hb
            rw [if_neg (by rw [q_ltR 4 (by decide) hd]; omega), if_pos (by rw [q_leL 9 (by decide) hd]; omega)]
      · rw [bd_some (s_in0 hb), if_pos (by decide)]
    · rw [bd_some (s_in1 hb), if_neg (show ¬ (1 : Int32) = 0 by decide)]
      rcases q_or b with hs | ⟨d, hd, rfl⟩
      · exact absurd (Or.inl hs) hb
      · have hd8 : d ≤ 8 := by
          by_cases z : d ≤ 8
          · exact z
          · exact absurd (Or.inr ((q_ltL 8 (by decide) hd).mpr (by omega))) hb
        by_cases e0 : d = 0
        · subst e0
          exact ⟨nI k, by rw [if_pos (by decide), b1], by rw [if_pos (by decide), ck_in hi, hcl, a1]⟩
        by_cases e1 : d = 1
        · subst e1
          exact ⟨nI g, by rw [if_neg (by decide), if_pos (by decide), b2], by rw [if_neg (by decide), if_pos (by decide), ck_in hi, hcl, a2]⟩
        by_cases e2 : d = 2
        · subst e2
          exact ⟨nI c, by rw [if_neg (by decide), if_neg (by decide), if_pos (by decide), b3], by rw [if_neg (by decide), if_neg (by decide), if_pos (by decide), ck_in hi, hcl, a3]⟩
        by_cases e3 : d = 3
        · subst e3
          exact ⟨nI n, by rw [if_neg (by decide), if_neg (by decide), if_neg (by decide), if_pos (by decide), b4], by rw [if_neg (by decide), if_neg (by decide), if_neg (by decide), if_pos (by decide), ck_in hi, hcl, a4]⟩
        · obtain ⟨s, rfl⟩ : ∃ s, d = s + 4 := ⟨d - 4, by omega⟩
          have es : nI (s + 4) - (4 : Int32) = nI s := by
            rw [show (4 : Int32) = nI 4 from rfl, pk_sub (by omega), Nat.add_sub_cancel]
          have es2 : (((5 : Int32) * nI p) + nI (s + 4)) - (4 : Int32) = nI (5 * p + s) := by
            rw [q_i5, show (4 : Int32) = nI 4 from rfl, pk_sub (by omega)]
            congr 1
          refine ⟨nI (w s), ?_, ?_⟩
          · rw [if_neg (by rw [q_eqR 0 (by decide) hd]; omega), if_neg (by rw [q_eqR 1 (by decide) hd]; omega), if_neg (by rw [q_eqR 2 (by decide) hd]; omega), if_neg (by rw [q_eqR 3 (by decide) hd]; omega), if_neg (by rw [q_ltR 4 (by decide) hd]; omega), if_neg (by rw [q_leL 9 (by decide) hd]; omega), es, ck_in (ib_nI (by omega) (by decide)), q_cl (by omega), c2 s (by omega)]
          · rw [if_neg (by rw [q_eqR 0 (by decide) hd]; omega), if_neg (by rw [q_eqR 1 (by decide) hd]; omega), if_neg (by rw [q_eqR 2 (by decide) hd]; omega), if_neg (by rw [q_eqR 3 (by decide) hd]; omega), es2, ck_in (ib_nI (by omega) (by decide)), q_cl (by omega), c1 s (by omega)]
  · exact ⟨-5, by rw [bd_some (s_known0 hc hno h8)]; rfl, by rw [bd_some (s_isPupil0 hm hno h8), if_pos (by decide)]⟩
def u6 (k b : Nat) : Int32 := if b = 0 ∨ k = b ∨ (b = 1 ∧ k = 4) ∨ (b = 3 ∧ k = 5) then 1 else 0
theorem s_isUnder {E : EN} {S : ST} (hN : 10 ≤ E.1) {k b : Nat} (hk : k < 6) (hb : b < 6) : f_X6_isUnder E S (nI k) (nI b) = some (u6 k b) := by
  obtain ⟨m, hm⟩ : ∃ m, E.1 = m + 7 := ⟨E.1 - 7, by omega⟩
  unfold f_X6_isUnder
  rw [hm]
  have h1 : k = 0 ∨ k = 1 ∨ k = 2 ∨ k = 3 ∨ k = 4 ∨ k = 5 := by omega
  have h2 : b = 0 ∨ b = 1 ∨ b = 2 ∨ b = 3 ∨ b = 4 ∨ b = 5 := by omega
  rcases h1 with rfl | rfl | rfl | rfl | rfl | rfl <;> rcases h2 with rfl | rfl | rfl | rfl | rfl | rfl <;> rfl
theorem s_taken {E : EN} {S : ST} (hN : 10 ≤ E.1) (h : RP E S) (a b : Int32) : ∃ r : Int32, f_X6_taken E S a b = some r ∧ f_X7_taken E S a b = some r := by
  obtain ⟨h8, hc, hm, hr, hp⟩ := id h
  unfold f_X6_taken f_X7_taken
  rcases q_or b with hs | ⟨d, hd, rfl⟩
  · exact ⟨-2, by rw [if_pos hs], by rw [bd_some (s_inS hs), if_pos (by decide)]⟩
  by_cases hd6 : d < 6
  · rw [if_neg (q_n0 hd), if_pos (by rw [q_ltR 6 (by decide) hd]; exact hd6), bd_some (s_inY hd (by decide) (show (5 : Int32) = nI 5 from rfl) (by omega)), if_neg (show ¬ (1 : Int32) = 0 by decide)]
    rcases q_pup E h8 a with ⟨p, hp1, rfl⟩ | hno
    · obtain ⟨k, g, c, n, w, q⟩ := hp p hp1
      obtain ⟨q1, ⟨a1, a2, a3, a4⟩, ⟨b1, b2, b3, b4⟩, c1, c2⟩ := q
      have hi : ib_ (nI p) 8 = true := ib_nI (by omega) (by decide)
      have hcl := q_cl (n := p) (by omega)
      have e60 : f_X7_taken_b60 E S (nI p) = some (nI n) := by
        unfold f_X7_taken_b60
        rw [ck_in hi, hcl, a4]
      rw [bd_some (s_known1 hc hr hp1 h8), bd_some (s_isPupil1 hm hp1 h8), nl_so, ck_in (decide_eq_true hp1), if_neg (show ¬ (1 : Int32) = 0 by decide), b1, bd_some (s_isUnder hN q1.1 hd6), b4, ck_in hi, hcl, a1]
      simp only [lt_]
      unfold f_X7_taken_b50
      rw [e60]
      have hk6 := q1.1
      have h1 : k = 0 ∨ k = 1 ∨ k = 2 ∨ k = 3 ∨ k = 4 ∨ k = 5 := by omega
      have h2 : d = 0 ∨ d = 1 ∨ d = 2 ∨ d = 3 ∨ d = 4 ∨ d = 5 := by omega
      by_cases hu : u6 k d = 0
      · refine ⟨-13, by rw [if_pos hu], ?_⟩
        revert hu
        rcases h1 with rfl | rfl | rfl | rfl | rfl | rfl <;> rcases h2 with rfl | rfl | rfl | rfl | rfl | rfl <;> first | (intro hu; rfl) | (intro hu; exact absurd hu (by decide))
      · refine ⟨nI n, by rw [if_neg hu], ?_⟩
        revert hu
        rcases h1 with rfl | rfl | rfl | rfl | rfl | rfl <;> rcases h2 with rfl | rfl | rfl | rfl | rfl | rfl <;> first | (intro hu; rfl) | (intro hu; exact absurd rfl hu)
    · exact ⟨-11, by rw [bd_some (s_known0 hc hno h8)]; rfl, by rw [bd_some (s_isPupil0 hm hno h8), if_pos (by decide)]⟩
  · exact ⟨-2, by rw [if_neg (q_n0 hd), if_neg (by rw [q_ltR 6 (by decide) hd]; exact hd6)], by rw [bd_some (s_inZ hd (by decide) (show (5 : Int32) = nI 5 from rfl) (by omega)), if_pos (by decide)]⟩
