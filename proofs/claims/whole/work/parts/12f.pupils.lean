/-! MAKERS: pupils, its contract -/
/-- what the class' row of pupils is -/
def CI (E : EN) (S : ST) : Prop := gI S 2 0 1 = nI E.2.1 ∧ E.2.1 ≤ 8 ∧ ∀ j x, S.2.2 3 0 j = some x → x < E.2.1
theorem CI.pup {E : EN} {S : ST} (h : CI E S) (a b : Int32) : CI (pup6 E S a b).2.1 (pup6 E S a b).2.2 := by
  unfold pup6
  split
  · exact h
  split
  · exact h
  split
  · split
    · exact h
    split
    · split
      · rename_i q
        obtain ⟨h1, h2, h3⟩ := h
        have hlt : E.2.1 < 8 := by
          rw [h1] at q
          have := Int32.lt_iff_toInt_lt.mp q
          rw [nI_toInt (by omega)] at this
          have h8 : ((8 : Int32)).toInt = 8 := rfl
          omega
        refine ⟨?_, by show E.2.1 + 1 ≤ 8; omega, fun j x hx => ?_⟩
        · show gI (sI _ 2 0 1 (gI S 2 0 1 + 1)) 2 0 1 = nI (E.2.1 + 1)
          rw [gI_same, h1, nI_1]
        · have hx : ct S.2.2 3 0 (va_up (S.2.2 3 0) E.2.1 (some E.2.1)) 3 0 j = some x := hx
          rw [ct_at] at hx
          show x < E.2.1 + 1
          unfold va_up at hx
          split at hx
          · have := Option.some.inj hx
            omega
          · have := h3 j x hx
            omega
      · exact h
    · exact h
  · exact h
theorem pup6_N {E : EN} {S : ST} {a b : Int32} : (pup6 E S a b).2.1.1 = E.1 ∧ (pup6 E S a b).2.1.2.2 = E.2.2 := by
  unfold pup6
  split
  · exact ⟨rfl, rfl⟩
  split
  · exact ⟨rfl, rfl⟩
  split
  · split
    · exact ⟨rfl, rfl⟩
    split
    · split
      · exact ⟨rfl, rfl⟩
      · exact ⟨rfl, rfl⟩
    · exact ⟨rfl, rfl⟩
  · exact ⟨rfl, rfl⟩
theorem hd_X6_pupil : yX6_pupil.cls ≠ "java/lang/invoke/MethodHandle" ∧ yX6_pupil.cls ≠ "java/lang/invoke/VarHandle" ∧ (parseMethodDescriptor yX6_pupil.desc).map (fun d => d.parameters.length) = some 2 := ⟨by decide +kernel, by decide +kernel, by decide +kernel⟩
/-- pupils, as the class does it -/
def pups6_b (v5 : Nat) (a3 a4 : Int32) : Nat → EN → ST → Int32 → Int32 → Option (Int32 × EN × ST)
  | 0, _, _, _, _ => none
  | n + 1, E, S, v6, v7 => if a4 ≤ v7 then some (v6, E, S) else if a3 < 0 then some (-12, E, S) else
    if a3 < gI S 24 v5 1 - (2 : Int32) * v7 - 1 then
      ck_ (ib_ (a3 + (2 : Int32) * v7) 40) <| ck_ (ib_ (a3 + (2 : Int32) * v7 + 1) 40) <|
      pups6_b v5 a3 a4 n (pup6 E S (gI S 25 v5 (a3 + (2 : Int32) * v7).toNatClampNeg) (gI S 25 v5 (a3 + (2 : Int32) * v7 + 1).toNatClampNeg)).2.1 (pup6 E S (gI S 25 v5 (a3 + (2 : Int32) * v7).toNatClampNeg) (gI S 25 v5 (a3 + (2 : Int32) * v7 + 1).toNatClampNeg)).2.2
        (if (pup6 E S (gI S 25 v5 (a3 + (2 : Int32) * v7).toNatClampNeg) (gI S 25 v5 (a3 + (2 : Int32) * v7 + 1).toNatClampNeg)).1 < 0 then v6 else v6 + 1) (v7 + 1)
    else some (-12, E, S)
def pups6 (E : EN) (S : ST) (a1 a2 a3 a4 : Int32) : Option (Int32 × EN × ST) :=
  bd_ (f_X6_laid E S a1) fun o => nl_ o (some (-2, E, S)) fun v5 =>
    ck_ (decide (v5 < 4)) <|
    if a2 < 0 then some (-2, E, S) else if (2 : Int32) < a2 then some (-2, E, S) else if a4 < 0 then some (-2, E, S) else if a4 ≤ 8 then
      if gI S 24 v5 0 = -1 ∨ gI S 24 v5 0 = a2 then
        if gI S 24 v5 0 = -1 then some (-11, E, S) else pups6_b v5 a3 a4 E.1 E S 0 0
      else some (-13, E, S)
    else some (-2, E, S)
set_option maxHeartbeats 4000000 in
set_option maxRecDepth 100000 in
theorem m_X6_pupils (l : Launch) (G : GE) (B : Nat → Nat → Nat) (E : EN) (S : ST) (a1 a2 a3 a4 : Int32) (rr : Int32) (EE : EN) (SS : ST) (hf : pups6 E S a1 a2 a3 a4 = some (rr, EE, SS)) (hCI : CI E S) :
    Met l yX6_pupils wsX6_pupils { frames := 3, cells := 24, slots := 136, locals := 180 } (va_Pc [.ref (B 2 0), .int a1, .int a2, .int a3, .int a4] (WS G B E S)) (QE G B EE SS rr) 24 136 (AA G) := by
  refine Met.ofW (cc := cX6_pupils) (maxL := 9) (ret := (some .int)) (by decide) rfl ?_
  intro p e s m args below meth c s₁ B0 hml hv
  obtain ⟨rfl, hW, hF⟩ := hv
  have hx := B0.exec
  have hb := B0.bytes
  have hr := B0.returns
  have hts := atoms_spec (ws := wsX6_pupils) B0.pre
  have hown : s.vm.findClass RX6 = some m.cls := findClass_of_methodNamed B0.named
  have hlocks := B0.notSynchronized
  have hK := hF.1
  have hfix : CallFix p m c cX6_pupils 9 s [.ref (B 2 0), .int a1, .int a2, .int a3, .int a4].toArray wsX6_pupils RX6 := ⟨hx, hb, hml, hown, hts⟩
  have hS : va_S (AA G) s.heap s.heap [] := va_S.rf
  have hA := hA_of hW
  have hl := lv_entry [.ref (B 2 0), .int a1, .int a2, .int a3, .int a4] (n := 9) (Nat.le_of_ble_eq_true rfl)
  rw [lg_entry_eq]
  generalize (lg_sl [.ref (B 2 0), .int a1, .int a2, .int a3, .int a4] ++ List.replicate (9 - (lg_sl [.ref (B 2 0), .int a1, .int a2, .int a3, .int a4]).length) Slot.unset).toArray = ls at hl ⊢
  have hl : lv_has ls 9 [(0, .ref (B 2 0)), (1, .int a1), (2, .int a2), (3, .int a3), (4, .int a4)] := hl
  have hi4 : ∀ w ∈ u_ws RX4 TX4 3, w ∈ wsX6_pupils := in_seg 29 rfl
  have hi6 : ∀ w ∈ u_ws RX6 TX6 15, w ∈ wsX6_pupils := in_seg 32 rfl
  have w75 : a4 ≤ 8 → ∀ (v5 : Nat), v5 < 4 → ∀ (n : Nat) (B1 : Nat → Nat → Nat) (E1 : EN) (S : ST) (i : Nat) (v6 v7 : Int32), BX B B1 → CI E1 S → i ≤ 8 → v7 = nI i → pups6_b v5 a3 a4 n E1 S v6 v7 = some (rr, EE, SS) → ∀ (H : Heap) (locs : List Loc) (ls : Array Slot), WH G B1 E1 S H → va_S (AA G) s.heap H locs → lv_has ls 9 [(0, .ref (B1 2 0)), (3, .int a3), (4, .int a4), (5, .ref (B1 24 v5)), (6, .int v6), (7, .int v7)] → W p l e (headSpec wsX6_pupils { frames := 3, cells := 24, slots := 136, locals := 180 }).room s m [.ref (B 2 0), .int a1, .int a2, .int a3, .int a4].toArray below meth c H locs (3 * i) (17 * i) (MQ below (QE G B EE SS rr) [.ref (B 2 0), .int a1, .int a2, .int a3, .int a4].toArray s 24 136 (AA G)) (F0 m 75 ls []) := by
    intro ha4 v5 hv5 n
    induction n with
    | zero =>
      intro B1 E1 S i v6 v7 _ _ _ _ hf
      cases hf
    | succ n ih =>
      intro B1 E1 S i v6 v7 hX hC hi e7 hf H locs ls hW hS hl
      unfold pups6_b at hf
      refine lv_iload hx hb dX6_pupils_75 (lv_at hl 5 rfl) ?_
      refine lv_iload hx hb dX6_pupils_77 (lv_at hl 2 rfl) ?_
      refine lv_icmp_ge (tgt := 147) hx hb dX6_pupils_79 (by decide) (fun h => ?_) (fun h => ?_)
      · have hf := if_t h hf
        refine lv_iload hx hb dX6_pupils_147 (lv_at hl 4 rfl) ?_
        refine W.widen (k := 24) (n := 136) (by omega) (by omega) ?_
        exact z_e (Option.some.inj hf) hX hx hb hr rfl hF hW hS dX6_pupils_149 hlocks
      have hf := if_f h hf
      have hi8 : i < 8 := by
        rw [e7] at h
        have h1 : ¬ a4.toInt ≤ (nI i).toInt := fun y => h (Int32.le_iff_toInt_le.mpr y)
        have h2 := Int32.le_iff_toInt_le.mp ha4
        rw [nI_toInt (by omega)] at h1
        have h8 : ((8 : Int32)).toInt = 8 := rfl
        omega
      refine lv_iconst (v := 2) hx hb dX6_pupils_82 rfl ?_
      refine lv_iload hx hb dX6_pupils_83 (lv_at hl 5 rfl) ?_
      refine lv_imul hx hb dX6_pupils_85 ?_
      generalize ex8 : (2 : Int32) * v7 = x8 at hf ⊢
      refine lv_istore (lv' := [(8, .int x8), (0, .ref (B1 2 0)), (3, .int a3), (4, .int a4), (5, .ref (B1 24 v5)), (6, .int v6), (7, .int v7)]) hx hb dX6_pupils_86 hl (by decide) rfl (fun ls hl => ?_)
      refine lv_iload_n hx hb dX6_pupils_88 rfl (lv_at hl 2 rfl) ?_
      refine lv_if_lt (tgt := 106) hx hb dX6_pupils_89 (by decide) (fun h => ?_) (fun h => ?_)
      · have hf := if_t h hf
        refine lv_bipush (v := -12) hx hb dX6_pupils_106 (by decide) ?_
        refine W.widen (k := 24) (n := 136) (by omega) (by omega) ?_
        exact z_e (Option.some.inj hf) hX hx hb hr rfl hF hW hS dX6_pupils_108 hlocks
      have hf := if_f h hf
      refine lv_iload_n hx hb dX6_pupils_92 rfl (lv_at hl 2 rfl) ?_
      refine lv_aload hx hb dX6_pupils_93 (lv_at hl 4 rfl) ?_
      refine x_getN hx hb hts hi4 hown hK hW (c24 E1 hv5) (e24 _ _ _ _ _ _) rfl 1 (Nat.le_of_ble_eq_true rfl) (NW.f hF.2.1 1 (q := ("MovesUp", 206, "MovesUp$Row", "size", "I", "MovesUp")) rfl) (fun _ h => h) (v := .int (gI S 24 v5 1)) rfl dX6_pupils_95 ?_
      refine lv_iload hx hb dX6_pupils_98 (lv_at hl 0 rfl) ?_
      refine lv_isub hx hb dX6_pupils_100 ?_
      refine lv_iconst (v := 1) hx hb dX6_pupils_101 rfl ?_
      refine lv_isub hx hb dX6_pupils_102 ?_
      refine lv_icmp_lt (tgt := 109) hx hb dX6_pupils_103 (by decide) (fun h => ?_) (fun h => ?_)
      rotate_left
      · have hf := if_f h hf
        refine lv_bipush (v := -12) hx hb dX6_pupils_106 (by decide) ?_
        refine W.widen (k := 24) (n := 136) (by omega) (by omega) ?_
        exact z_e (Option.some.inj hf) hX hx hb hr rfl hF hW hS dX6_pupils_108 hlocks
      have hf := if_t h hf
      obtain ⟨b1, hf⟩ := ck_out hf
      obtain ⟨b2, hf⟩ := ck_out hf
      refine lv_aload_n hx hb dX6_pupils_109 rfl (lv_at hl 1 rfl) ?_
      refine lv_aload hx hb dX6_pupils_110 (lv_at hl 4 rfl) ?_
      refine x_getN hx hb hts hi4 hown hK hW (c24 E1 hv5) (e24 _ _ _ _ _ _) rfl 2 (Nat.le_of_ble_eq_true rfl) (NW.f hF.2.1 2 (q := ("MovesUp", 209, "MovesUp$Row", "items", "[I", "MovesUp")) rfl) (fun _ h => h) (v := .ref (B1 25 v5)) rfl dX6_pupils_112 ?_
      refine lv_iload_n hx hb dX6_pupils_115 rfl (lv_at hl 2 rfl) ?_
      refine lv_iload hx hb dX6_pupils_116 (lv_at hl 0 rfl) ?_
      refine lv_iadd hx hb dX6_pupils_118 ?_
      refine x_iald hx hb hK hW (c25 E1 hv5) (e25 _ _ _ _ _ _) (ib_in b1) rfl dX6_pupils_119 ?_
      refine lv_aload hx hb dX6_pupils_120 (lv_at hl 4 rfl) ?_
      refine x_getN hx hb hts hi4 hown hK hW (c24 E1 hv5) (e24 _ _ _ _ _ _) rfl 2 (Nat.le_of_ble_eq_true rfl) (NW.f hF.2.1 2 (q := ("MovesUp", 209, "MovesUp$Row", "items", "[I", "MovesUp")) rfl) (fun _ h => h) (v := .ref (B1 25 v5)) rfl dX6_pupils_122 ?_
      refine lv_iload_n hx hb dX6_pupils_125 rfl (lv_at hl 2 rfl) ?_
      refine lv_iload hx hb dX6_pupils_126 (lv_at hl 0 rfl) ?_
      refine lv_iadd hx hb dX6_pupils_128 ?_
      refine lv_iconst (v := 1) hx hb dX6_pupils_129 rfl ?_
      refine lv_iadd hx hb dX6_pupils_130 ?_
      refine x_iald hx hb hK hW (c25 E1 hv5) (e25 _ _ _ _ _ _) (ib_in b2) rfl dX6_pupils_131 ?_
      generalize gI S 25 v5 (a3 + x8).toNatClampNeg = z1 at hf ⊢
      generalize gI S 25 v5 (a3 + x8 + 1).toNatClampNeg = z2 at hf ⊢
      have hC2 := hC.pup z1 z2
      generalize ey : pup6 E1 S z1 z2 = y at hf hC2
      obtain ⟨r, E2, S2⟩ := y
      refine va_calli (va_runV (As := [.int z1, .int z2]) (rest := []) hfix (m_X6_pupil l G B1 E1 S z1 z2 r E2 S2 ey hC.1 hC.2.1 hC.2.2) (cwV 2 hts gX6_pupils_X6_pupil rfl rfl rfl ⟨rfl, hd_X6_pupil⟩ ⟨Nat.le_of_ble_eq_true rfl, Nat.le_of_ble_eq_true rfl⟩) (y_pv hF hW hS (c2 E1) (e2 _ _ _ _ _ _) rfl) rfl rfl hl.1 rfl (lv_room (Nat.le_of_ble_eq_true rfl)) dX6_pupils_132 ⟨by show 3 * i + 3 ≤ 24; omega, by show 17 * i + 17 ≤ 136; omega⟩) hS (fun _ _ h => h) (fun _ h => h) (fun r2 u t H1 locs ht _ hw hB hz1 hk1 hS => ?_)
      subst hw
      obtain ⟨B2, hX2, hW2⟩ := hB
      have hW := hW2.1
      rw [ht] at hW
      have h20 : B2 2 0 = B1 2 0 := by rw [hX2 2 (by decide) (by decide)]
      have h24 : B2 24 v5 = B1 24 v5 := by rw [hX2 24 (by decide) (by decide)]
      have hl : lv_has ls 9 [(8, .int x8), (0, .ref (B2 2 0)), (3, .int a3), (4, .int a4), (5, .ref (B2 24 v5)), (6, .int v6), (7, .int v7)] := by rw [h20, h24]; exact hl
      refine W.widen (k := 3 * (i + 1)) (n := 17 * (i + 1)) (by omega) (by omega) ?_
      refine lv_if_lt (tgt := 141) hx hb dX6_pupils_135 (by decide) (fun h => ?_) (fun h => ?_)
      · have hf : pups6_b v5 a3 a4 n E2 S2 (if r2 < 0 then v6 else v6 + 1) (v7 + 1) = _ := hf
        rw [if_pos h] at hf
        refine lv_iinc (v := v7 + 1) (lv' := [(7, .int (v7 + 1)), (8, .int x8), (0, .ref (B2 2 0)), (3, .int a3), (4, .int a4), (5, .ref (B2 24 v5)), (6, .int v6)]) hx hb dX6_pupils_141 hl (k := 6) rfl rfl (by decide) rfl (fun ls hl => ?_)
        refine lv_goto (tgt := 75) hx hb dX6_pupils_144 (by decide) ?_
        exact ih B2 E2 S2 (i + 1) v6 (v7 + 1) (hX.trans hX2) hC2 (by omega) (by rw [e7, nI_1]) hf _ _ _ hW hS (lv_sub hl [2, 3, 4, 5, 6, 0] rfl)
      · have hf : pups6_b v5 a3 a4 n E2 S2 (if r2 < 0 then v6 else v6 + 1) (v7 + 1) = _ := hf
        rw [if_neg h] at hf
        refine lv_iinc (v := v6 + 1) (lv' := [(6, .int (v6 + 1)), (8, .int x8), (0, .ref (B2 2 0)), (3, .int a3), (4, .int a4), (5, .ref (B2 24 v5)), (7, .int v7)]) hx hb dX6_pupils_138 hl (k := 5) rfl rfl (by decide) rfl (fun ls hl => ?_)
        refine lv_iinc (v := v7 + 1) (lv' := [(7, .int (v7 + 1)), (6, .int (v6 + 1)), (8, .int x8), (0, .ref (B2 2 0)), (3, .int a3), (4, .int a4), (5, .ref (B2 24 v5))]) hx hb dX6_pupils_141 hl (k := 6) rfl rfl (by decide) rfl (fun ls hl => ?_)
        refine lv_goto (tgt := 75) hx hb dX6_pupils_144 (by decide) ?_
        exact ih B2 E2 S2 (i + 1) (v6 + 1) (v7 + 1) (hX.trans hX2) hC2 (by omega) (by rw [e7, nI_1]) hf _ _ _ hW hS (lv_sub hl [3, 4, 5, 6, 1, 0] rfl)
  unfold pups6 at hf
  obtain ⟨r17, hc, hf⟩ := bd_out hf
  refine lv_aload_n hx hb dX6_pupils_0 rfl (lv_at hl 0 rfl) ?_
  refine lv_iload_n hx hb dX6_pupils_1 rfl (lv_at hl 1 rfl) ?_
  refine y_q (va_runV (As := [.int a1]) (rest := []) hfix (m_X6_laid l G B E S a1 r17 hc) (cwV 1 hts gX6_pupils_X6_laid rfl rfl rfl ⟨rfl, hd_X6_laid⟩ ⟨Nat.le_of_ble_eq_true rfl, Nat.le_of_ble_eq_true rfl⟩) (y_pv hF hW hS (c2 E) (e2 _ _ _ _ _ _) rfl) rfl rfl hl.1 rfl (lv_room (Nat.le_of_ble_eq_true rfl)) dX6_pupils_2 ⟨Nat.le_of_ble_eq_true rfl, Nat.le_of_ble_eq_true rfl⟩) hS (fun H locs hW hS => ?_)
  cases r17 with
  | none =>
    have hf := nl_n hf
    refine lv_astoreN (lv' := [(5, .null), (0, .ref (B 2 0)), (1, .int a1), (2, .int a2), (3, .int a3), (4, .int a4)]) hx hb dX6_pupils_5 hl (by decide) rfl (fun ls hl => ?_)
    refine lv_aloadN hx hb dX6_pupils_7 (lv_at hl 0 rfl) ?_
    refine lv_ifnullN (tgt := 33) hx hb dX6_pupils_9 (by decide) ?_
    refine lv_bipush (v := -2) hx hb dX6_pupils_33 (by decide) ?_
    refine W.widen (k := 24) (n := 136) (Nat.le_of_ble_eq_true rfl) (Nat.le_of_ble_eq_true rfl) ?_
    exact z_e (Option.some.inj hf) BX.rf hx hb hr rfl hF hW hS dX6_pupils_35 hlocks
  | some v5 =>
    have hf := nl_s hf
    obtain ⟨hv5, hf⟩ := ck_out hf
    have hv5 : v5 < 4 := of_decide_eq_true hv5
    refine lv_astore (lv' := [(5, .ref (B 24 v5)), (0, .ref (B 2 0)), (1, .int a1), (2, .int a2), (3, .int a3), (4, .int a4)]) hx hb dX6_pupils_5 hl (by decide) rfl (fun ls hl => ?_)
    refine lv_aload hx hb dX6_pupils_7 (lv_at hl 0 rfl) ?_
    refine lv_ifnull hx hb dX6_pupils_9 ?_
    refine lv_iload_n hx hb dX6_pupils_12 rfl (lv_at hl 3 rfl) ?_
    have w33 : ∀ (H : Heap) (locs : List Loc) (ls : Array Slot), some ((-2 : Int32), E, S) = some (rr, EE, SS) → WH G B E S H → va_S (AA G) s.heap H locs → W p l e (headSpec wsX6_pupils { frames := 3, cells := 24, slots := 136, locals := 180 }).room s m [.ref (B 2 0), .int a1, .int a2, .int a3, .int a4].toArray below meth c H locs 0 0 (MQ below (QE G B EE SS rr) [.ref (B 2 0), .int a1, .int a2, .int a3, .int a4].toArray s 24 136 (AA G)) (F0 m 33 ls []) := fun H locs ls hf hW hS => by
      refine lv_bipush (v := -2) hx hb dX6_pupils_33 (by decide) ?_
      refine W.widen (k := 24) (n := 136) (Nat.le_of_ble_eq_true rfl) (Nat.le_of_ble_eq_true rfl) ?_
      exact z_e (Option.some.inj hf) BX.rf hx hb hr rfl hF hW hS dX6_pupils_35 hlocks
    refine lv_if_lt (tgt := 33) hx hb dX6_pupils_13 (by decide) (fun h => w33 _ _ _ (if_t h hf) hW hS) (fun h => ?_)
    have hf := if_f h hf
    refine lv_iload_n hx hb dX6_pupils_16 rfl (lv_at hl 3 rfl) ?_
    refine lv_iconst (v := 2) hx hb dX6_pupils_17 rfl ?_
    refine lv_icmp_gt (tgt := 33) hx hb dX6_pupils_18 (by decide) (fun h => w33 _ _ _ (if_t h hf) hW hS) (fun h => ?_)
    have hf := if_f h hf
    refine lv_iload hx hb dX6_pupils_21 (lv_at hl 5 rfl) ?_
    refine lv_if_lt (tgt := 33) hx hb dX6_pupils_23 (by decide) (fun h => w33 _ _ _ (if_t h hf) hW hS) (fun h => ?_)
    have hf := if_f h hf
    refine lv_iload hx hb dX6_pupils_26 (lv_at hl 5 rfl) ?_
    refine lv_bipush (v := 8) hx hb dX6_pupils_28 (by decide) ?_
    refine lv_icmp_le (tgt := 36) hx hb dX6_pupils_30 (by decide) (fun ha4 => ?_) (fun h => w33 _ _ _ (if_f h hf) hW hS)
    have hf := if_t ha4 hf
    have w57 : ∀ (H : Heap) (locs : List Loc) (ls : Array Slot), (if gI S 24 v5 0 = -1 then some (-11, E, S) else pups6_b v5 a3 a4 E.1 E S 0 0) = some (rr, EE, SS) → WH G B E S H → va_S (AA G) s.heap H locs → lv_has ls 9 [(5, .ref (B 24 v5)), (0, .ref (B 2 0)), (1, .int a1), (2, .int a2), (3, .int a3), (4, .int a4)] → W p l e (headSpec wsX6_pupils { frames := 3, cells := 24, slots := 136, locals := 180 }).room s m [.ref (B 2 0), .int a1, .int a2, .int a3, .int a4].toArray below meth c H locs 0 0 (MQ below (QE G B EE SS rr) [.ref (B 2 0), .int a1, .int a2, .int a3, .int a4].toArray s 24 136 (AA G)) (F0 m 57 ls []) := fun H locs ls hf hW hS hl => by
      refine lv_aload hx hb dX6_pupils_57 (lv_at hl 0 rfl) ?_
      refine x_getN hx hb hts hi4 hown hK hW (c24 E hv5) (e24 _ _ _ _ _ _) rfl 0 (Nat.le_of_ble_eq_true rfl) (NW.f hF.2.1 0 (q := ("MovesUp", 205, "MovesUp$Row", "sort", "I", "MovesUp")) rfl) (fun _ h => h) (v := .int (gI S 24 v5 0)) rfl dX6_pupils_59 ?_
      refine lv_iconst (v := -1) hx hb dX6_pupils_62 rfl ?_
      refine lv_icmp_ne (tgt := 69) hx hb dX6_pupils_63 (by decide) (fun h => ?_) (fun h => ?_)
      · have hf := if_f h hf
        refine lv_iconst (v := 0) hx hb dX6_pupils_69 rfl ?_
        refine lv_istore (lv' := [(6, .int 0), (5, .ref (B 24 v5)), (0, .ref (B 2 0)), (1, .int a1), (2, .int a2), (3, .int a3), (4, .int a4)]) hx hb dX6_pupils_70 hl (by decide) rfl (fun ls hl => ?_)
        refine lv_iconst (v := 0) hx hb dX6_pupils_72 rfl ?_
        refine lv_istore (lv' := [(7, .int 0), (6, .int 0), (5, .ref (B 24 v5)), (0, .ref (B 2 0)), (1, .int a1), (2, .int a2), (3, .int a3), (4, .int a4)]) hx hb dX6_pupils_73 hl (by decide) rfl (fun ls hl => ?_)
        exact w75 ha4 v5 hv5 E.1 B E S 0 0 0 BX.rf hCI (Nat.zero_le 8) rfl hf H locs ls hW hS (lv_sub hl [3, 6, 7, 2, 1, 0] rfl)
      · have hf := if_t h hf
        refine lv_bipush (v := -11) hx hb dX6_pupils_66 (by decide) ?_
        refine W.widen (k := 24) (n := 136) (Nat.le_of_ble_eq_true rfl) (Nat.le_of_ble_eq_true rfl) ?_
        exact z_e (Option.some.inj hf) BX.rf hx hb hr rfl hF hW hS dX6_pupils_68 hlocks
    refine lv_aload hx hb dX6_pupils_36 (lv_at hl 0 rfl) ?_
    refine x_getN hx hb hts hi4 hown hK hW (c24 E hv5) (e24 _ _ _ _ _ _) rfl 0 (Nat.le_of_ble_eq_true rfl) (NW.f hF.2.1 0 (q := ("MovesUp", 205, "MovesUp$Row", "sort", "I", "MovesUp")) rfl) (fun _ h => h) (v := .int (gI S 24 v5 0)) rfl dX6_pupils_38 ?_
    refine lv_iconst (v := -1) hx hb dX6_pupils_41 rfl ?_
    refine lv_icmp_eq (tgt := 57) hx hb dX6_pupils_42 (by decide) (fun h => w57 _ _ _ (if_t (Or.inl h) hf) hW hS hl) (fun h => ?_)
    refine lv_aload hx hb dX6_pupils_45 (lv_at hl 0 rfl) ?_
    refine x_getN hx hb hts hi4 hown hK hW (c24 E hv5) (e24 _ _ _ _ _ _) rfl 0 (Nat.le_of_ble_eq_true rfl) (NW.f hF.2.1 0 (q := ("MovesUp", 205, "MovesUp$Row", "sort", "I", "MovesUp")) rfl) (fun _ h => h) (v := .int (gI S 24 v5 0)) rfl dX6_pupils_47 ?_
    refine lv_iload_n hx hb dX6_pupils_50 rfl (lv_at hl 3 rfl) ?_
    refine lv_icmp_eq (tgt := 57) hx hb dX6_pupils_51 (by decide) (fun h2 => w57 _ _ _ (if_t (Or.inr h2) hf) hW hS hl) (fun h2 => ?_)
    have hf := if_f (fun y => y.elim h h2) hf
    refine lv_bipush (v := -13) hx hb dX6_pupils_54 (by decide) ?_
    refine W.widen (k := 24) (n := 136) (Nat.le_of_ble_eq_true rfl) (Nat.le_of_ble_eq_true rfl) ?_
    exact z_e (Option.some.inj hf) BX.rf hx hb hr rfl hF hW hS dX6_pupils_56 hlocks
