/-! PURE PART: reader and stack side by side: NOT, ONE, all -/
section SIO
variable {E : EN} {B : Nat → Nat} {n : Nat} {Sb Tb : ST} {b k0 bc : Nat}
/-- a sign of one is put down behind what it joins -/
theorem s_emit1 {S : ST} {k c : Nat} {out : List (Nat × Nat)} (C : CL B n Sb bc S k out c) (hl : bc + out.length < 160) (x : Nat × Nat) {v : Int32} (hv : v = nI (enc x)) {c' : Nat} {v6 : Int32} (h6 : v6 = nI c') :
    ∃ S2, f_X3_emit E (sI S 8 0 6 v6) v = some S2 ∧ CL B n Sb bc S2 k (x :: out) c' := by
  subst h6
  have F : Fm [(8, 7)] S (sI S 8 0 6 (nI c')) := Fm.rf.sI rfl rfl
  obtain ⟨h1, ⟨h2, h3, h4, h5⟩, h6, ⟨h7, h8⟩, h9, h10, h11⟩ := C
  exact s_emitC (E := E) (k := k) (c := c') (out := out) (S := sI S 8 0 6 (nI c')) ⟨h1.keep (F.ag rfl), ⟨(F.I rfl).trans h2, (F.I rfl).trans h3, (F.I rfl).trans h4, (F.I rfl).trans h5⟩, gI_same _ _ _ _ _, ⟨(F.I rfl).trans h7, h8⟩, h9.keep (fun j hj => F.I rfl), h10.trans (F.mono rfl), fun j hj => (F.I rfl).trans (h11 j hj)⟩ hl x hv
theorem CL.opn {S : ST} {k c c' : Nat} {out : List (Nat × Nat)} (C : CL B n Sb bc S k out c) {v6 : Int32} (h6 : v6 = nI c') : CL B n Sb bc (sI S 8 0 6 v6) k out c' := by
  subst h6
  have F : Fm [(8, 7)] S (sI S 8 0 6 (nI c')) := Fm.rf.sI rfl rfl
  obtain ⟨h1, ⟨h2, h3, h4, h5⟩, h6, ⟨h7, h8⟩, h9, h10, h11⟩ := C
  exact ⟨h1.keep (F.ag rfl), ⟨(F.I rfl).trans h2, (F.I rfl).trans h3, (F.I rfl).trans h4, (F.I rfl).trans h5⟩, gI_same _ _ _ _ _, ⟨(F.I rfl).trans h7, h8⟩, h9.keep (fun j hj => F.I rfl), h10.trans (F.mono rfl), fun j hj => (F.I rfl).trans (h11 j hj)⟩
theorem sim_not (hN : 300 ≤ E.1) (hb : bc ≤ k0) {e : Nat} (hQ : SSum E B n Sb bc Tb b k0 e) (hI : 1 ≤ e → SNot E B n Sb bc Tb b k0 (e - 1)) : SNot E B n Sb bc Tb b k0 e := by
  intro d k S T σ out hd ho hσ C M
  obtain ⟨d, rfl⟩ : ∃ q, d = q + 1 := ⟨d - 1, by omega⟩
  have vt := vT_k B n k
  have e261 : tC (tT B n k) = (261 : Int32) ↔ tT B n k = 261 := tC_eq vt (by decide) (by decide)
  have k160 : k ≤ 160 := M.2.2.2.2.2.2.1.2.1
  by_cases z : tT B n k = 261
  · have h0 : tT B n k ≠ 0 := by omega
    by_cases h5 : opc σ = 5
    · obtain ⟨S1, e1, D1⟩ := (s_opensC (E := E) hN C (by omega)).2 h5
      refine Or.inr ⟨1, S1, T, k, ?_, D1, fun m => ?_, M.fl, by omega, k160⟩
      · rw [not_s]
        unfold b_X3_readNot
        rw [C.2.1.2.1, if_pos (e261.mpr z), bd2_some e1, if_pos rfl]
      · rw [Nat.add_comm]
        exact r_bad (E := E) M (Or.inl ⟨Or.inr (Or.inr ⟨z, by decide⟩), h5⟩) m
    · obtain ⟨S1, e1, C1⟩ := (s_opensC (E := E) hN C (by omega)).1 h5
      obtain ⟨T1, r1, M1⟩ := r_open (E := E) (mn := 1) hN M (Or.inr (Or.inr ⟨z, by decide⟩)) h5
      rw [show opO (tT B n k) = 4 by rw [z]; rfl] at M1
      have eo : opc (4 :: σ) = opc σ + 1 := rfl
      have ec : (f_X3_readNot E (d + 1) S = bd_ (f_X3_readNot E d S1) fun S8 => lt_ (sI S8 8 0 6 ((gI S8 8 0 6) - (1 : Int32))) fun S9 => bd_ (f_X3_emit E S9 (261 : Int32)) fun S10 => some S10) := by
        rw [not_s]
        unfold b_X3_readNot
        rw [C.2.1.2.1, if_pos (e261.mpr z), bd2_some e1, if_neg (by decide)]
      rw [if_pos (Or.inl z)] at r1
      rcases hI (by omega) d (k + 1) S1 T1 (4 :: σ) out (by omega) (by omega) (by show stg 4 ≤ 3; decide) (by rw [eo]; exact C1) M1 with ⟨j, S3, T3, out3, oR3, wt3, mn3, f3, C3, r3, M3, es3, ex3, h3, ok3⟩ | ⟨j, S3, T3, kf, f3, D3, r3, L3, hk3, hk4⟩
      · have ln := stl_ln es3
        have ln : oR3.length + wt3.length = out3.length + (σ.length + 1) := ln
        have mr := M3.2.2.2.2.2.2.1
        obtain ⟨S4, e4, C4⟩ := s_emit1 (E := E) C3 (show bc + out3.length < 160 by omega) (4, 0) (v := 261) rfl (c' := opc σ) (v6 := gI S3 8 0 6 - 1) (by rw [C3.2.2.1, eo, q_m1])
        refine Or.inl ⟨1 + j, S4, T3, (4, 0) :: out3, oR3, wt3, mn3, ?_, by rw [← Nat.add_assoc]; exact C4, fun q => ?_, by rw [← Nat.add_assoc]; exact M3, by rw [es3, stl_yes (by decide)], by rw [← Nat.add_assoc]; exact ex3, ?_, fun y => ⟨⟨by decide, by decide, fun w => absurd w (by decide), fun _ => by rw [h3]; omega, Or.inr (Or.inr (Or.inl rfl))⟩, ok3 y⟩⟩
        · rw [ec, bd_some f3, lt_e, bd_some e4]
        · rw [show 1 + j + q = (j + q) + 1 by omega, r1, r3]
        · show (if (4 : Nat) = 0 ∨ (4 : Nat) = 1 then hL out3 + 1 else if (4 : Nat) = 4 ∨ (4 : Nat) = 10 then hL out3 else hL out3 - 1) = _
          rw [if_neg (by decide), if_pos (by decide), h3]
      · obtain ⟨S4, e4, D4⟩ := d_emit (E := E) (D3.opn (gI S3 8 0 6 - 1)) (261 : Int32)
        refine Or.inr ⟨1 + j, S4, T3, kf, ?_, D4, fun q => ?_, L3, by omega, hk4⟩
        · rw [ec, bd_some f3, lt_e, bd_some e4]
        · rw [show 1 + j + q = (j + q) + 1 by omega, r1, r3]
  · have ec : ∀ S1, f_X3_readSum E d S = some S1 → f_X3_readNot E (d + 1) S = (if (gI S1 8 0 3) = (60 : Int32) then f_X3_readNot_b61 E (f_X3_readOr E d) (f_X3_readAnd E d) (f_X3_readNot E d) (f_X3_readSum E d) (f_X3_readTerm E d) (f_X3_readOne E d) S1 else (if (gI S1 8 0 3) = (61 : Int32) then f_X3_readNot_b61 E (f_X3_readOr E d) (f_X3_readAnd E d) (f_X3_readNot E d) (f_X3_readSum E d) (f_X3_readTerm E d) (f_X3_readOne E d) S1 else some S1)) := fun S1 h1 => by
      rw [not_s]
      unfold b_X3_readNot
      rw [C.2.1.2.1, if_neg (fun y => z (e261.mp y)), bd_some h1]
    rcases hQ d k S T σ out 1 (by omega) ho (by omega) C M (fun y => absurd y z) with ⟨j, S3, T3, out3, oR3, wt3, mn3, f3, C3, r3, M3, es3, ex3, h3, ok3⟩ | ⟨j, S3, T3, kf, f3, D3, r3, L3, hk3, hk4⟩
    · have vt3 := vT_k B n (k + j)
      have e60 : tC (tT B n (k + j)) = (60 : Int32) ↔ tT B n (k + j) = 60 := tC_eq vt3 (by decide) (by decide)
      have e61 : tC (tT B n (k + j)) = (61 : Int32) ↔ tT B n (k + j) = 61 := tC_eq vt3 (by decide) (by decide)
      have es5 : stl 5 oR3 wt3 = (out3, σ) := by rw [es3, stl_no (by omega)]
      by_cases y : tT B n (k + j) = 60 ∨ tT B n (k + j) = 61
      · have ib : isB2 (tT B n (k + j)) := by unfold isB2; omega
        have lv : lvO (tT B n (k + j)) = 5 := by unfold lvO; rw [if_pos y]
        have h0 : tT B n (k + j) ≠ 0 := by omega
        -- the class
        have ec2 : f_X3_readNot E (d + 1) S = bd_ (f_X3_advance E S3) fun S2 => bd_ (f_X3_readSum E d S2) fun S3' => bd_ (f_X3_emit E S3' (tC (tT B n (k + j)))) fun S4 => some S4 := by
          rw [ec S3 f3, C3.2.1.2.1]
          unfold f_X3_readNot_b61
          rw [C3.2.1.2.1]
          rcases y with y | y
          · rw [if_pos (e60.mpr y)]
            rfl
          · rw [if_neg (fun w => by have := e60.mp w; omega), if_pos (e61.mpr y)]
            rfl
        obtain ⟨S4, a4, C4⟩ := s_advS (E := E) hN C3
        -- the reference
        have r4 := (r_sign (E := E) (mn := mn3) hN M3 ib).2
        rw [lv, es5] at r4
        obtain ⟨T4, r4, M4⟩ := r4 (fun w => by have v : tpS σ = 4 := w.2; omega)
        rw [if_neg (show ¬ (256 ≤ tT B n (k + j) ∧ tT B n (k + j) < 268) by omega)] at r4
        have sg : stg (sgO (tT B n (k + j))) = 4 ∧ opc (sgO (tT B n (k + j)) :: σ) = opc σ ∧ tC (tT B n (k + j)) = nI (enc (sgO (tT B n (k + j)), 0)) ∧ (sgO (tT B n (k + j)) = 5 ∨ sgO (tT B n (k + j)) = 6) := by
          rcases y with y | y <;> rw [y] <;> exact ⟨by decide, rfl, by decide, by decide⟩
        obtain ⟨sg1, sg2, sg3, sg4⟩ := sg
        rcases hQ d (k + j + 1) S4 T4 (sgO (tT B n (k + j)) :: σ) out3 0 (by omega) (by omega) (show stg (sgO (tT B n (k + j))) < 5 by omega) (by rw [sg2]; exact C4) M4 (fun _ => rfl) with ⟨j', S5, T5, out5, oR5, wt5, mn5, f5, C5, r5, M5, es6, ex5, h5, ok5⟩ | ⟨j', S5, T5, kf, f5, D5, r5, L5, hk5, hk6⟩
        · have es7 : stl 5 oR5 wt5 = (out5, sgO (tT B n (k + j)) :: σ) := by
            rw [es6, stl_no (show stg (sgO (tT B n (k + j))) < 5 by omega)]
          have ln := stl_ln es6
          have ln : oR5.length + wt5.length = out5.length + (σ.length + 1) := ln
          have mr := M5.2.2.2.2.2.2.1
          rw [sg2] at C5
          obtain ⟨S6, e6, C6⟩ := s_emitC (E := E) C5 (show bc + out5.length < 160 by omega) (sgO (tT B n (k + j)), 0) sg3
          refine Or.inl ⟨j + 1 + j', S6, T5, (sgO (tT B n (k + j)), 0) :: out5, oR5, wt5, mn5, ?_, ?_, fun q => ?_, ?_, ?_, ⟨?_, ?_⟩, ?_, fun w => ⟨⟨show sgO (tT B n (k + j)) ≤ 10 by omega, show 0 ≤ 9999 by omega, fun v => by have : sgO (tT B n (k + j)) = 1 := v; omega, fun v => by rw [h5, h3]; omega, Or.inr (Or.inr (Or.inr (Or.inr (by rw [h5, h3]; omega))))⟩, ok5 (ok3 w)⟩⟩
          · rw [ec2, bd_some a4, bd_some f5, bd_some e6]
          · rw [show k + (j + 1 + j') = k + j + 1 + j' by omega]; exact C6
          · rw [show j + 1 + j' + q = j + ((j' + q) + 1) by omega, r3, r4, r5]
          · rw [show k + (j + 1 + j') = k + j + 1 + j' by omega]; exact M5
          · rw [stl_dn (show 3 ≤ 5 by decide) es6, stl_yes (by omega)]
          · rw [show k + (j + 1 + j') = k + j + 1 + j' by omega]; exact ex5
          · intro _
            rw [es7]
            exact sg1
          · show hS ((sgO (tT B n (k + j)), 0) : Nat × Nat) (hL out5) = _
            unfold hS
            rw [if_neg (show ¬ (sgO (tT B n (k + j)) = 0 ∨ sgO (tT B n (k + j)) = 1) by omega), if_neg (show ¬ (sgO (tT B n (k + j)) = 4 ∨ sgO (tT B n (k + j)) = 10) by omega), h5, h3]
            omega
        · obtain ⟨S6, e6, D6⟩ := d_emit (E := E) D5 (tC (tT B n (k + j)))
          refine Or.inr ⟨j + 1 + j', S6, T5, kf, ?_, D6, fun q => ?_, L5, by omega, hk6⟩
          · rw [ec2, bd_some a4, bd_some f5, bd_some e6]
          · rw [show j + 1 + j' + q = j + ((j' + q) + 1) by omega, r3, r4, r5]
      · refine Or.inl ⟨j, S3, T3, out3, oR3, wt3, mn3, ?_, C3, r3, M3, stl_dn (by decide) es3, ⟨ex3, fun w => absurd w y⟩, h3, ok3⟩
        rw [ec S3 f3, C3.2.1.2.1, if_neg (fun w => y (Or.inl (e60.mp w))), if_neg (fun w => y (Or.inr (e61.mp w)))]
    · refine Or.inr ⟨j, S3, T3, kf, ?_, D3, r3, L3, hk3, hk4⟩
      rw [ec S3 f3, D3.2.1, if_neg (by decide), if_neg (by decide)]
theorem tC_262 {t : Nat} (vt : vT t) : tC t < (262 : Int32) ↔ ¬ 262 ≤ t := by
  have ht : t < 11000 := by
    rcases vt with v | v | v | v | v
    · omega
    · omega
    · have := isG_8 v; omega
    · omega
    · omega
  unfold tC
  by_cases z : t = 2
  · rw [if_pos z]
    exact ⟨fun _ => by omega, fun _ => by decide⟩
  · rw [if_neg z, q_ltR 262 (by decide) (by omega)]
    omega
theorem enc_dec {t : Nat} (h : 262 ≤ t) : enc (decT t) = t := by
  unfold decT
  by_cases z : 1000 ≤ t
  · rw [if_pos z]
    show (if (0 : Nat) = 0 then 1000 + (t - 1000) else _) = t
    rw [if_pos rfl]
    omega
  · rw [if_neg z]
    show (if (1 : Nat) = 0 then _ else if (1 : Nat) = 1 then 262 + (t - 262) else _) = t
    rw [if_neg (by decide), if_pos rfl]
    omega
theorem sim_one (hN : 300 ≤ E.1) (hb : bc ≤ k0) {e : Nat} (hI : 1 ≤ e → SOne E B n Sb bc Tb b k0 (e - 1)) (hO : 1 ≤ e → SOr E B n Sb bc Tb b k0 (e - 1)) : SOne E B n Sb bc Tb b k0 e := by
  intro d k S T σ out mn hd ho C M hm
  obtain ⟨d, rfl⟩ : ∃ q, d = q + 1 := ⟨d - 1, by omega⟩
  have vt := vT_k B n k
  have k160 : k ≤ 160 := M.2.2.2.2.2.2.1.2.1
  have e45 : tC (tT B n k) = (45 : Int32) ↔ tT B n k = 45 := tC_eq vt (by decide) (by decide)
  have e40 : tC (tT B n k) = (40 : Int32) ↔ tT B n k = 40 := tC_eq vt (by decide) (by decide)
  have ec : f_X3_readOne E (d + 1) S = b_X3_readOne E (f_X3_readOr E d) (f_X3_readAnd E d) (f_X3_readNot E d) (f_X3_readSum E d) (f_X3_readTerm E d) (f_X3_readOne E d) S := by rw [one_s]
  unfold b_X3_readOne at ec
  rw [C.2.1.2.1] at ec
  by_cases z : 262 ≤ tT B n k
  · have h0 : tT B n k ≠ 0 := by omega
    have kl := M.lt h0
    have mr := M.2.2.2.2.2.2.1
    have ed := enc_dec z
    have tc : tC (tT B n k) = nI (tT B n k) := by unfold tC; rw [if_neg (by omega)]
    obtain ⟨S1, e1, C1⟩ := s_emitC (E := E) C (show bc + out.length < 160 by omega) (decT (tT B n k)) (v := tC (tT B n k)) (by rw [ed, tc])
    obtain ⟨S2, e2, C2⟩ := s_advS (E := E) hN C1
    obtain ⟨T2, r2, M2⟩ := r_one (E := E) (mn := mn) hN M z
    have dk : (decT (tT B n k)).1 = 0 ∨ (decT (tT B n k)).1 = 1 := by
      unfold decT
      by_cases y : 1000 ≤ tT B n k
      · rw [if_pos y]; exact Or.inl rfl
      · rw [if_neg y]; exact Or.inr rfl
    have d2 : (decT (tT B n k)).2 ≤ 9999 ∧ ((decT (tT B n k)).1 = 1 → (decT (tT B n k)).2 < 6) := by
      unfold decT
      by_cases y : 1000 ≤ tT B n k
      · rw [if_pos y]
        refine ⟨?_, fun w => absurd (show (0 : Nat) = 1 from w) (by decide)⟩
        show tT B n k - 1000 ≤ 9999
        rcases vt with v | v | v | v | v
        · omega
        · omega
        · have := isG_8 v; omega
        · omega
        · omega
      · rw [if_neg y]
        have : tT B n k < 268 := by
          rcases vt with v | v | v | v | v
          · omega
          · omega
          · have := isG_8 v; omega
          · omega
          · omega
        exact ⟨by show tT B n k - 262 ≤ 9999; omega, fun _ => by show tT B n k - 262 < 6; omega⟩
    refine Or.inl ⟨1, S2, T2, decT (tT B n k) :: out, _, _, 0, ?_, C2, fun m => by rw [Nat.add_comm]; exact r2 m, M2, stl_stl (Nat.le_refl _) _ _, True.intro, ?_, fun w => ⟨⟨by omega, d2.1, d2.2, fun v => by omega, by omega⟩, w⟩⟩
    · rw [ec, if_neg (fun y => (tC_262 vt).mp y z), bd_some e1, bd_some e2]
    · show hS (decT (tT B n k)) (hL out) = hL out + 1
      unfold hS
      rw [if_pos dk]
  rw [if_pos ((tC_262 vt).mpr z)] at ec
  by_cases y : tT B n k = 45
  · rw [if_pos (e45.mpr y)] at ec
    by_cases h5 : opc σ = 5
    · obtain ⟨S1, e1, D1⟩ := (s_opensC (E := E) hN C (by omega)).2 h5
      refine Or.inr ⟨1, S1, T, k, by rw [ec, bd2_some e1, if_pos rfl], D1, fun m => ?_, M.fl, by omega, k160⟩
      rw [Nat.add_comm]
      exact r_bad (E := E) M (Or.inl ⟨Or.inl y, h5⟩) m
    · obtain ⟨S1, e1, C1⟩ := (s_opensC (E := E) hN C (by omega)).1 h5
      obtain ⟨T1, r1, M1⟩ := r_open (E := E) (mn := mn) hN M (Or.inl y) h5
      rw [show opO (tT B n k) = 10 by rw [y]; rfl] at M1
      rw [if_neg (show ¬ (tT B n k = 261 ∨ tT B n k = 40) by omega)] at r1
      have eo : opc (10 :: σ) = opc σ + 1 := rfl
      rw [bd2_some e1, if_neg (by decide)] at ec
      rcases hI (by omega) d (k + 1) S1 T1 (10 :: σ) out 0 (by omega) (by omega) (by rw [eo]; exact C1) M1 (fun _ => rfl) with ⟨j, S3, T3, out3, oR3, wt3, mn3, f3, C3, r3, M3, es3, ex3, h3, ok3⟩ | ⟨j, S3, T3, kf, f3, D3, r3, L3, hk3, hk4⟩
      · have ln := stl_ln es3
        have ln : oR3.length + wt3.length = out3.length + (σ.length + 1) := ln
        have mr := M3.2.2.2.2.2.2.1
        obtain ⟨S4, e4, C4⟩ := s_emit1 (E := E) C3 (show bc + out3.length < 160 by omega) (10, 0) (v := 1) rfl (c' := opc σ) (v6 := gI S3 8 0 6 - 1) (by rw [C3.2.2.1, eo, q_m1])
        refine Or.inl ⟨1 + j, S4, T3, (10, 0) :: out3, oR3, wt3, mn3, ?_, by rw [← Nat.add_assoc]; exact C4, fun q => ?_, by rw [← Nat.add_assoc]; exact M3, by rw [es3, stl_yes (by decide)], True.intro, ?_, fun w => ⟨⟨by decide, by decide, fun v => absurd v (by decide), fun _ => by rw [h3]; omega, Or.inr (Or.inr (Or.inr (Or.inl rfl)))⟩, ok3 w⟩⟩
        · rw [ec, bd_some f3, lt_e, bd_some e4]
        · rw [show 1 + j + q = (j + q) + 1 by omega, r1, r3]
        · show (if (10 : Nat) = 0 ∨ (10 : Nat) = 1 then hL out3 + 1 else if (10 : Nat) = 4 ∨ (10 : Nat) = 10 then hL out3 else hL out3 - 1) = _
          rw [if_neg (by decide), if_pos (by decide), h3]
      · obtain ⟨S4, e4, D4⟩ := d_emit (E := E) (D3.opn (gI S3 8 0 6 - 1)) (1 : Int32)
        refine Or.inr ⟨1 + j, S4, T3, kf, ?_, D4, fun q => ?_, L3, by omega, hk4⟩
        · rw [ec, bd_some f3, lt_e, bd_some e4]
        · rw [show 1 + j + q = (j + q) + 1 by omega, r1, r3]
  rw [if_neg (fun w => y (e45.mp w))] at ec
  by_cases x : tT B n k = 40
  · rw [if_pos (e40.mpr x)] at ec
    by_cases h5 : opc σ = 5
    · obtain ⟨S1, e1, D1⟩ := (s_opensC (E := E) hN C (by omega)).2 h5
      refine Or.inr ⟨1, S1, T, k, by rw [ec, bd2_some e1, if_pos rfl], D1, fun m => ?_, M.fl, by omega, k160⟩
      rw [Nat.add_comm]
      exact r_bad (E := E) M (Or.inl ⟨Or.inr (Or.inl x), h5⟩) m
    · obtain ⟨S1, e1, C1⟩ := (s_opensC (E := E) hN C (by omega)).1 h5
      obtain ⟨T1, r1, M1⟩ := r_open (E := E) (mn := mn) hN M (Or.inr (Or.inl x)) h5
      rw [show opO (tT B n k) = 20 by rw [x]; rfl] at M1
      rw [if_pos (Or.inr x)] at r1
      have eo : opc (20 :: σ) = opc σ + 1 := rfl
      rw [bd2_some e1, if_neg (by decide)] at ec
      rcases hO (by omega) d (k + 1) S1 T1 (20 :: σ) out (by omega) (by omega) (by show stg 20 < 1; decide) (by rw [eo]; exact C1) M1 with ⟨j, S3, T3, out3, oR3, wt3, mn3, f3, C3, r3, M3, es3, ex3, h3, ok3⟩ | ⟨j, S3, T3, kf, f3, D3, r3, L3, hk3, hk4⟩
      · have es4 : stl 1 oR3 wt3 = (out3, 20 :: σ) := by rw [es3, stl_no (by show stg 20 < 1; decide)]
        obtain ⟨t1, t0⟩ := s_takeC (E := E) (w := 41) hN C3 (by decide) (by decide)
        have k3 : k + 1 + j ≤ 160 := M3.2.2.2.2.2.2.1.2.1
        by_cases q41 : tT B n (k + 1 + j) = 41
        · obtain ⟨S4, e4, C4⟩ := t1 q41
          have rc := (r_close (E := E) (mn := mn3) hN M3 q41).1 σ (by rw [es4])
          rw [es4] at rc
          obtain ⟨T4, r4, M4⟩ := rc
          refine Or.inl ⟨1 + j + 1, _, T4, out3, _, _, 0, by rw [ec, bd_some f3, show (41 : Int32) = nI 41 from rfl, bd_some e4, lt_e], ?_, fun q => ?_, ?_, stl_stl (Nat.le_refl _) _ _, True.intro, h3, ok3⟩
          · rw [show k + (1 + j + 1) = k + 1 + j + 1 by omega]
            exact C4.opn (c' := opc σ) (by rw [C4.2.2.1, eo, q_m1])
          · rw [show 1 + j + 1 + q = (j + (q + 1)) + 1 by omega, r1, r3, r4]
          · rw [show k + (1 + j + 1) = k + 1 + j + 1 by omega]
            exact M4
        · obtain ⟨S4, e4, D4⟩ := t0 q41
          have fl : ∃ T4, (∀ m, f_X7_takesE_b19 E (m + 1) T3 0 mn3 = some (0, T4)) ∧ FL B n Tb b T4 (k + 1 + j) := by
            by_cases q0 : tT B n (k + 1 + j) = 59 ∨ tT B n (k + 1 + j) = 0 ∨ tT B n (k + 1 + j) = 2
            · obtain ⟨T4, r4, M4⟩ := r_end (E := E) (mn := mn3) hN M3 q0
              refine ⟨T4, fun m => ?_, M4.fl⟩
              rw [r4, es4, if_neg (fun w => absurd w.1 (by simp))]
            · obtain ⟨⟨⟨⟨⟨-, x42⟩, x43⟩, x60⟩, x260⟩, x259⟩ := ex3
              by_cases q6 : tT B n (k + 1 + j) = 60 ∨ tT B n (k + 1 + j) = 61
              · have lv : lvO (tT B n (k + 1 + j)) = 5 := by unfold lvO; rw [if_pos q6]
                exact (r_sign (E := E) (mn := mn3) hN M3 (by unfold isB2; omega)).1 ⟨q6, by rw [lv]; exact x60 q6⟩
              · exact ⟨T3, r_none (E := E) M3 (by unfold isB2; omega) q41 q0, M3.fl⟩
          obtain ⟨T4, r4, L4⟩ := fl
          refine Or.inr ⟨1 + j + 1, _, T4, k + 1 + j, by rw [ec, bd_some f3, show (41 : Int32) = nI 41 from rfl, bd_some e4, lt_e], D4.opn _, fun q => ?_, L4, by omega, k3⟩
          rw [show 1 + j + 1 + q = (j + (q + 1)) + 1 by omega, r1, r3, r4]
      · obtain ⟨S4, e4, D4⟩ := d_take (E := E) (w := 41) D3 (by decide)
        refine Or.inr ⟨1 + j, _, T3, kf, by rw [ec, bd_some f3, show (41 : Int32) = nI 41 from rfl, bd_some e4, lt_e], D4.opn _, fun q => ?_, L3, by omega, hk4⟩
        rw [show 1 + j + q = (j + q) + 1 by omega, r1, r3]
  rw [if_neg (fun w => x (e40.mp w))] at ec
  obtain ⟨S1, e1, D1⟩ := s_refuseC (E := E) C
  refine Or.inr ⟨1, S1, T, k, by rw [ec, bd_some e1], D1, fun m => ?_, M.fl, by omega, k160⟩
  rw [Nat.add_comm]
  exact r_bad (E := E) M (Or.inr ⟨z, y, x, hm⟩) m
/-- an E, on both sides -/
theorem sim_all (hN : 300 ≤ E.1) (hb : bc ≤ k0) : ∀ e, e ≤ 5 → SOne E B n Sb bc Tb b k0 e ∧ SNot E B n Sb bc Tb b k0 e ∧ SOr E B n Sb bc Tb b k0 e
  | 0, _ => by
    have h1 : SOne E B n Sb bc Tb b k0 0 := sim_one hN hb (fun h => absurd h (by decide)) (fun h => absurd h (by decide))
    have h4 := sim_not hN hb (sim_sum hN hb (sim_term hN hb h1)) (fun h => absurd h (by decide))
    exact ⟨h1, h4, sim_or hN hb (sim_and hN hb h4)⟩
  | e + 1, h => by
    obtain ⟨i1, i2, i3⟩ := sim_all hN hb e (by omega)
    have h1 : SOne E B n Sb bc Tb b k0 (e + 1) := sim_one hN hb (fun _ => i1) (fun _ => i3)
    have h4 := sim_not hN hb (sim_sum hN hb (sim_term hN hb h1)) (fun _ => i2)
    exact ⟨h1, h4, sim_or hN hb (sim_and hN hb h4)⟩
end SIO
