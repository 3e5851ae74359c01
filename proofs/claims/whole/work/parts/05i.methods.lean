set_option maxHeartbeats 4000000 in
set_option maxRecDepth 100000 in
theorem m_X7_bounded (l : Launch) (G : GE) (B : Nat → Nat → Nat) (E : EN) (hE : 0 < E.2.2.2)  (S : ST) (a1 : Int32) (a2 : Int32) (a3 : Int32) (a4 : Int32) (a5 : Int32) (a6 : Int32) (rr : Int32) (SS : ST) (hf : f_X7_bounded E S a1 a2 a3 a4 a5 a6 = some (rr, SS)) : Met l yX7_bounded wsX7_bounded (rmN 3) (va_Pc [.ref (B 1 0), .int a1, .int a2, .int a3, .int a4, .int a5, .int a6] (WS G B E S)) (QI G B E SS rr) 0 0 (AA G) := by
  refine Met.ofW (cc := cX7_bounded) (maxL := 9) (ret := (some .int)) (by decide) rfl ?_
  intro p e s m args below meth c s₁ B0 hml hv
  obtain ⟨rfl, hW, hF⟩ := hv
  have hx := B0.exec
  have hb := B0.bytes
  have hr := B0.returns
  have hts := atoms_spec (ws := wsX7_bounded) B0.pre
  have hown : s.vm.findClass RX7 = some m.cls := findClass_of_methodNamed B0.named
  have hlocks := B0.notSynchronized
  have hK := hF.1
  have hfix : CallFix p m c cX7_bounded 9 s [.ref (B 1 0), .int a1, .int a2, .int a3, .int a4, .int a5, .int a6].toArray wsX7_bounded RX7 := ⟨hx, hb, hml, hown, hts⟩
  have hS : va_S (AA G) s.heap s.heap [] := va_S.rf
  have hl := lv_entry [.ref (B 1 0), .int a1, .int a2, .int a3, .int a4, .int a5, .int a6] (n := 9) (Nat.le_of_ble_eq_true rfl)
  rw [lg_entry_eq]
  generalize (lg_sl [.ref (B 1 0), .int a1, .int a2, .int a3, .int a4, .int a5, .int a6] ++ List.replicate (9 - (lg_sl [.ref (B 1 0), .int a1, .int a2, .int a3, .int a4, .int a5, .int a6]).length) Slot.unset).toArray = ls at hl ⊢
  have hl : lv_has ls 9 [(0, .ref (B 1 0)), (1, .int a1), (2, .int a2), (3, .int a3), (4, .int a4), (5, .int a5), (6, .int a6)] := hl
  have q0 := hts (.fieldLink RX7 98 "MovesUpModel" "fact" "[I") (List.mem_of_getElem? (i := 1) rfl)
  have hi7 : ∀ w ∈ u_ws RX7 TX7 47, w ∈ wsX7_bounded := in_seg 16 rfl
  have w88 : ∀ (S : ST) (v7 : Int32) (t0 : Int32) , f_X7_bounded_b88 E S v7 t0 = some (rr, SS) → ∀ (H : Heap) (locs : List Loc) (ls : Array Slot), WH G B E S H → va_S (AA G) s.heap H locs → lv_has ls 9 [(7, .int v7)] → W p l e (headSpec wsX7_bounded (rmN 3)).room s m [.ref (B 1 0), .int a1, .int a2, .int a3, .int a4, .int a5, .int a6].toArray below meth c H locs 0 0 (MQ below (QI G B E SS rr) [.ref (B 1 0), .int a1, .int a2, .int a3, .int a4, .int a5, .int a6].toArray s 0 0 (AA G)) (F0 m 88 ls [.int t0]) := by
    intro S v7 t0 hf H locs ls hW hS hl
    unfold f_X7_bounded_b88 at hf
    refine lv_istore (lv' := [(8, .int t0), (7, .int v7)]) hx hb dX7_bounded_88 hl (by decide) rfl (fun ls hl => ?_)
    refine lv_iload hx hb dX7_bounded_90 (lv_at hl 1 rfl) ?_
    refine lv_if_ge (tgt := 99) hx hb dX7_bounded_92 (by decide) (fun h => ?_) (fun h => ?_)
    · have hf := if_t h hf
      refine lv_iload hx hb dX7_bounded_99 (lv_at hl 1 rfl) ?_
      refine lv_iload hx hb dX7_bounded_101 (lv_at hl 0 rfl) ?_
      refine lv_icmp_le (tgt := 111) hx hb dX7_bounded_103 (by decide) (fun h => ?_) (fun h => ?_)
      · have hf := if_t h hf
        refine lv_iload hx hb dX7_bounded_111 (lv_at hl 1 rfl) ?_
        exact z_i hf hx hb hr rfl hF hW hS dX7_bounded_113 hlocks
      · have hf := if_f h hf
        refine lv_iload hx hb dX7_bounded_106 (lv_at hl 0 rfl) ?_
        refine lv_goto (tgt := 113) hx hb dX7_bounded_108 (by decide) ?_
        exact z_i hf hx hb hr rfl hF hW hS dX7_bounded_113 hlocks
    · have hf := if_f h hf
      refine lv_iconst (v := 0) hx hb dX7_bounded_95 rfl ?_
      refine lv_goto (tgt := 113) hx hb dX7_bounded_96 (by decide) ?_
      exact z_i hf hx hb hr rfl hF hW hS dX7_bounded_113 hlocks
  have w66 : ∀ (S : ST) (v6 : Int32) (t0 : Int32) (t1 : Int32) , f_X7_bounded_b66 E S v6 t0 t1 = some (rr, SS) → ∀ (H : Heap) (locs : List Loc) (ls : Array Slot), WH G B E S H → va_S (AA G) s.heap H locs → lv_has ls 9 [(0, .ref (B 1 0)), (6, .int v6)] → W p l e (headSpec wsX7_bounded (rmN 3)).room s m [.ref (B 1 0), .int a1, .int a2, .int a3, .int a4, .int a5, .int a6].toArray below meth c H locs 0 0 (MQ below (QI G B E SS rr) [.ref (B 1 0), .int a1, .int a2, .int a3, .int a4, .int a5, .int a6].toArray s 0 0 (AA G)) (F0 m 66 ls [.int t0, .int t1, .ref (B 62 0)]) := by
    intro S v6 t0 t1 hf H locs ls hW hS hl
    unfold f_X7_bounded_b66 at hf
    obtain ⟨hi_1, hf⟩ := ck_out hf
    have hi_1 := ib_in hi_1
    obtain ⟨S2, e_S2, hf⟩ := lt_out hf
    refine x_iast hx hb hK hW hS (c62 hE) (fun f r => e62 _ _ _ f _ r) hi_1 (jn := t1.toNatClampNeg) rfl e_S2 dX7_bounded_66 (fun H locs hW hS => ?_)
    refine lv_aload_n hx hb dX7_bounded_67 rfl (lv_at hl 0 rfl) ?_
    refine lv_iload hx hb dX7_bounded_68 (lv_at hl 1 rfl) ?_
    obtain ⟨r3, S4, hc, hf⟩ := bd2_out hf
    refine y_i (va_runV (As := [.int v6]) (rest := []) hfix (m_X7_tellsRule l G B E hE S2 v6 r3 S4 hc) (cwV 1 hts gX7_bounded_X7_tellsRule rfl rfl rfl ⟨rfl, hd_X7_tellsRule⟩ ⟨Nat.le_of_ble_eq_true rfl, Nat.le_of_ble_eq_true rfl⟩) (y_pv hF hW hS (c1 hE) (e1 _ _ _ _ _ _) rfl) rfl rfl hl.1 rfl (lv_room (Nat.le_of_ble_eq_true rfl)) dX7_bounded_70 ⟨Nat.le_of_ble_eq_true rfl, Nat.le_of_ble_eq_true rfl⟩) hS (fun H locs hW hS => ?_)
    refine lv_istore (lv' := [(7, .int r3), (0, .ref (B 1 0)), (6, .int v6)]) hx hb dX7_bounded_73 hl (by decide) rfl (fun ls hl => ?_)
    refine lv_iload hx hb dX7_bounded_75 (lv_at hl 2 rfl) ?_
    refine lv_iconst (v := 2) hx hb dX7_bounded_77 rfl ?_
    refine lv_icmp_ne (tgt := 86) hx hb dX7_bounded_78 (by decide) (fun h => ?_) (fun h => ?_)
    · have hf := if_f h hf
      refine lv_bipush (v := 10) hx hb dX7_bounded_86 (by decide) ?_
      exact w88 S4 r3 (10 : Int32)  hf _ _ _ hW hS (lv_sub hl [0] rfl)
    · have hf := if_t h hf
      refine lv_bipush (v := 99) hx hb dX7_bounded_81 (by decide) ?_
      refine lv_goto (tgt := 88) hx hb dX7_bounded_83 (by decide) ?_
      exact w88 S4 r3 (99 : Int32)  hf _ _ _ hW hS (lv_sub hl [0] rfl)
  have w12 : ∀ (S : ST) (v1 : Int32) (v2 : Int32) (v3 : Int32) (v4 : Int32) (v5 : Int32) (v6 : Int32) , f_X7_bounded_b12 E S v1 v2 v3 v4 v5 v6 = some (rr, SS) → ∀ (H : Heap) (locs : List Loc) (ls : Array Slot), WH G B E S H → va_S (AA G) s.heap H locs → lv_has ls 9 [(0, .ref (B 1 0)), (1, .int v1), (2, .int v2), (3, .int v3), (4, .int v4), (5, .int v5), (6, .int v6)] → W p l e (headSpec wsX7_bounded (rmN 3)).room s m [.ref (B 1 0), .int a1, .int a2, .int a3, .int a4, .int a5, .int a6].toArray below meth c H locs 0 0 (MQ below (QI G B E SS rr) [.ref (B 1 0), .int a1, .int a2, .int a3, .int a4, .int a5, .int a6].toArray s 0 0 (AA G)) (F0 m 12 ls []) := by
    intro S v1 v2 v3 v4 v5 v6 hf H locs ls hW hS hl
    unfold f_X7_bounded_b12 at hf
    refine lv_aload_n hx hb dX7_bounded_12 rfl (lv_at hl 0 rfl) ?_
    refine x_get hx hb hts hi7 hown hK hW (c1 hE) (e1 _ _ _ _ _ _) rfl 22 (Nat.le_of_ble_eq_true rfl) q0 (fun _ h => h) (v := .ref (B 62 0)) rfl dX7_bounded_13 ?_
    refine lv_iconst (v := 0) hx hb dX7_bounded_16 rfl ?_
    refine lv_iload_n hx hb dX7_bounded_17 rfl (lv_at hl 1 rfl) ?_
    obtain ⟨S5, e_S5, hf⟩ := lt_out hf
    refine x_iast hx hb hK hW hS (c62 hE) (fun f r => e62 _ _ _ f _ r) (ib_in (by decide)) (jn := 0) rfl e_S5 dX7_bounded_18 (fun H locs hW hS => ?_)
    refine lv_aload_n hx hb dX7_bounded_19 rfl (lv_at hl 0 rfl) ?_
    refine x_get hx hb hts hi7 hown hK hW (c1 hE) (e1 _ _ _ _ _ _) rfl 22 (Nat.le_of_ble_eq_true rfl) q0 (fun _ h => h) (v := .ref (B 62 0)) rfl dX7_bounded_20 ?_
    refine lv_iconst (v := 1) hx hb dX7_bounded_23 rfl ?_
    refine lv_iload_n hx hb dX7_bounded_24 rfl (lv_at hl 2 rfl) ?_
    obtain ⟨S6, e_S6, hf⟩ := lt_out hf
    refine x_iast hx hb hK hW hS (c62 hE) (fun f r => e62 _ _ _ f _ r) (ib_in (by decide)) (jn := 1) rfl e_S6 dX7_bounded_25 (fun H locs hW hS => ?_)
    refine lv_aload_n hx hb dX7_bounded_26 rfl (lv_at hl 0 rfl) ?_
    refine x_get hx hb hts hi7 hown hK hW (c1 hE) (e1 _ _ _ _ _ _) rfl 22 (Nat.le_of_ble_eq_true rfl) q0 (fun _ h => h) (v := .ref (B 62 0)) rfl dX7_bounded_27 ?_
    refine lv_iconst (v := 2) hx hb dX7_bounded_30 rfl ?_
    refine lv_iload_n hx hb dX7_bounded_31 rfl (lv_at hl 3 rfl) ?_
    obtain ⟨S7, e_S7, hf⟩ := lt_out hf
    refine x_iast hx hb hK hW hS (c62 hE) (fun f r => e62 _ _ _ f _ r) (ib_in (by decide)) (jn := 2) rfl e_S7 dX7_bounded_32 (fun H locs hW hS => ?_)
    refine lv_aload_n hx hb dX7_bounded_33 rfl (lv_at hl 0 rfl) ?_
    refine x_get hx hb hts hi7 hown hK hW (c1 hE) (e1 _ _ _ _ _ _) rfl 22 (Nat.le_of_ble_eq_true rfl) q0 (fun _ h => h) (v := .ref (B 62 0)) rfl dX7_bounded_34 ?_
    refine lv_iconst (v := 3) hx hb dX7_bounded_37 rfl ?_
    refine lv_iload hx hb dX7_bounded_38 (lv_at hl 4 rfl) ?_
    obtain ⟨S8, e_S8, hf⟩ := lt_out hf
    refine x_iast hx hb hK hW hS (c62 hE) (fun f r => e62 _ _ _ f _ r) (ib_in (by decide)) (jn := 3) rfl e_S8 dX7_bounded_40 (fun H locs hW hS => ?_)
    refine lv_aload_n hx hb dX7_bounded_41 rfl (lv_at hl 0 rfl) ?_
    refine x_get hx hb hts hi7 hown hK hW (c1 hE) (e1 _ _ _ _ _ _) rfl 22 (Nat.le_of_ble_eq_true rfl) q0 (fun _ h => h) (v := .ref (B 62 0)) rfl dX7_bounded_42 ?_
    refine lv_iconst (v := 4) hx hb dX7_bounded_45 rfl ?_
    refine lv_iload hx hb dX7_bounded_46 (lv_at hl 5 rfl) ?_
    obtain ⟨S9, e_S9, hf⟩ := lt_out hf
    refine x_iast hx hb hK hW hS (c62 hE) (fun f r => e62 _ _ _ f _ r) (ib_in (by decide)) (jn := 4) rfl e_S9 dX7_bounded_48 (fun H locs hW hS => ?_)
    refine lv_aload_n hx hb dX7_bounded_49 rfl (lv_at hl 0 rfl) ?_
    refine x_get hx hb hts hi7 hown hK hW (c1 hE) (e1 _ _ _ _ _ _) rfl 22 (Nat.le_of_ble_eq_true rfl) q0 (fun _ h => h) (v := .ref (B 62 0)) rfl dX7_bounded_50 ?_
    refine lv_iconst (v := 5) hx hb dX7_bounded_53 rfl ?_
    refine lv_iload_n hx hb dX7_bounded_54 rfl (lv_at hl 3 rfl) ?_
    refine lv_iconst (v := 4) hx hb dX7_bounded_55 rfl ?_
    refine lv_icmp_le (tgt := 63) hx hb dX7_bounded_56 (by decide) (fun h => ?_) (fun h => ?_)
    · have hf := if_t h hf
      refine lv_iconst (v := 4) hx hb dX7_bounded_63 rfl ?_
      refine lv_iload_n hx hb dX7_bounded_64 rfl (lv_at hl 3 rfl) ?_
      refine lv_isub hx hb dX7_bounded_65 ?_
      exact w66 S9 v6 ((4 : Int32) - v3) (5 : Int32)  hf _ _ _ hW hS (lv_sub hl [0, 6] rfl)
    · have hf := if_f h hf
      refine lv_iconst (v := 0) hx hb dX7_bounded_59 rfl ?_
      refine lv_goto (tgt := 66) hx hb dX7_bounded_60 (by decide) ?_
      exact w66 S9 v6 (0 : Int32) (5 : Int32)  hf _ _ _ hW hS (lv_sub hl [0, 6] rfl)
  unfold f_X7_bounded at hf
  refine lv_iload hx hb dX7_bounded_0 (lv_at hl 6 rfl) ?_
  refine lv_if_ne (tgt := 12) hx hb dX7_bounded_2 (by decide) (fun h => ?_) (fun h => ?_)
  · have hf := if_f h hf
    exact w12 S a1 a2 a3 a4 a5 a6  hf _ _ _ hW hS (lv_sub hl [0, 1, 2, 3, 4, 5, 6] rfl)
  · have hf := if_t h hf
    refine lv_iload_n hx hb dX7_bounded_5 rfl (lv_at hl 1 rfl) ?_
    refine lv_iconst (v := 4) hx hb dX7_bounded_6 rfl ?_
    refine lv_icmp_ne (tgt := 12) hx hb dX7_bounded_7 (by decide) (fun h => ?_) (fun h => ?_)
    · have hf := if_f h hf
      exact w12 S a1 a2 a3 a4 a5 a6  hf _ _ _ hW hS (lv_sub hl [0, 1, 2, 3, 4, 5, 6] rfl)
    · have hf := if_t h hf
      refine lv_iconst (v := 0) hx hb dX7_bounded_10 rfl ?_
      exact z_i hf hx hb hr rfl hF hW hS dX7_bounded_11 hlocks
set_option maxHeartbeats 4000000 in
set_option maxRecDepth 100000 in
theorem m_X7_says (l : Launch) (G : GE) (B : Nat → Nat → Nat) (E : EN) (hE : 0 < E.2.2.2)  (S : ST) (a1 : Int32) (a2 : Int32) (a3 : Int32) (rr : Int32) (SS : ST) (hf : f_X7_says E S a1 a2 a3 = some (rr, SS)) : Met l yX7_says wsX7_says (rmN 4) (va_Pc [.ref (B 1 0), .int a1, .int a2, .int a3] (WS G B E S)) (QI G B E SS rr) 0 0 (AA G) := by
  refine Met.ofW (cc := cX7_says) (maxL := 4) (ret := (some .int)) (by decide) rfl ?_
  intro p e s m args below meth c s₁ B0 hml hv
  obtain ⟨rfl, hW, hF⟩ := hv
  have hx := B0.exec
  have hb := B0.bytes
  have hr := B0.returns
  have hts := atoms_spec (ws := wsX7_says) B0.pre
  have hown : s.vm.findClass RX7 = some m.cls := findClass_of_methodNamed B0.named
  have hlocks := B0.notSynchronized
  have hK := hF.1
  have hfix : CallFix p m c cX7_says 4 s [.ref (B 1 0), .int a1, .int a2, .int a3].toArray wsX7_says RX7 := ⟨hx, hb, hml, hown, hts⟩
  have hS : va_S (AA G) s.heap s.heap [] := va_S.rf
  have hl := lv_entry [.ref (B 1 0), .int a1, .int a2, .int a3] (n := 4) (Nat.le_of_ble_eq_true rfl)
  rw [lg_entry_eq]
  generalize (lg_sl [.ref (B 1 0), .int a1, .int a2, .int a3] ++ List.replicate (4 - (lg_sl [.ref (B 1 0), .int a1, .int a2, .int a3]).length) Slot.unset).toArray = ls at hl ⊢
  have hl : lv_has ls 4 [(0, .ref (B 1 0)), (1, .int a1), (2, .int a2), (3, .int a3)] := hl
  unfold f_X7_says at hf
  refine lv_aload_n hx hb dX7_says_0 rfl (lv_at hl 0 rfl) ?_
  refine lv_iload_n hx hb dX7_says_1 rfl (lv_at hl 1 rfl) ?_
  refine lv_iconst (v := 0) hx hb dX7_says_2 rfl ?_
  refine lv_sipush (v := 445) hx hb dX7_says_3 (by decide) ?_
  obtain ⟨r1, hc, hf⟩ := bd_out hf
  refine y_i (va_runV (As := [.int a1, .int (0 : Int32), .int (445 : Int32)]) (rest := []) hfix (m_X7_in l G B E hE S a1 (0 : Int32) (445 : Int32) r1 hc) (cwV 3 hts gX7_says_X7_in rfl rfl rfl ⟨rfl, hd_X7_in⟩ ⟨Nat.le_of_ble_eq_true rfl, Nat.le_of_ble_eq_true rfl⟩) (y_pv hF hW hS (c1 hE) (e1 _ _ _ _ _ _) rfl) rfl rfl hl.1 rfl (lv_room (Nat.le_of_ble_eq_true rfl)) dX7_says_6 ⟨Nat.le_of_ble_eq_true rfl, Nat.le_of_ble_eq_true rfl⟩) hS (fun H locs hW hS => ?_)
  refine lv_if_eq (tgt := 60) hx hb dX7_says_9 (by decide) (fun h => ?_) (fun h => ?_)
  · have hf := if_t h hf
    refine lv_bipush (v := -2) hx hb dX7_says_60 (by decide) ?_
    exact z_i hf hx hb hr rfl hF hW hS dX7_says_62 hlocks
  · have hf := if_f h hf
    refine lv_iload_n hx hb dX7_says_12 rfl (lv_at hl 1 rfl) ?_
    refine lv_bipush (v := 10) hx hb dX7_says_13 (by decide) ?_
    refine lv_idiv hx hb dX7_says_15 (by decide) ?_
    refine lv_bipush (v := 10) hx hb dX7_says_16 (by decide) ?_
    refine x_irem hx hb dX7_says_18 (by decide) ?_
    refine lv_iconst (v := 4) hx hb dX7_says_19 rfl ?_
    refine lv_icmp_gt (tgt := 60) hx hb dX7_says_20 (by decide) (fun h => ?_) (fun h => ?_)
    · have hf := if_t h hf
      refine lv_bipush (v := -2) hx hb dX7_says_60 (by decide) ?_
      exact z_i hf hx hb hr rfl hF hW hS dX7_says_62 hlocks
    · have hf := if_f h hf
      refine lv_iload_n hx hb dX7_says_23 rfl (lv_at hl 1 rfl) ?_
      refine lv_bipush (v := 10) hx hb dX7_says_24 (by decide) ?_
      refine x_irem hx hb dX7_says_26 (by decide) ?_
      refine lv_iconst (v := 5) hx hb dX7_says_27 rfl ?_
      refine lv_icmp_gt (tgt := 60) hx hb dX7_says_28 (by decide) (fun h => ?_) (fun h => ?_)
      · have hf := if_t h hf
        refine lv_bipush (v := -2) hx hb dX7_says_60 (by decide) ?_
        exact z_i hf hx hb hr rfl hF hW hS dX7_says_62 hlocks
      · have hf := if_f h hf
        refine lv_aload_n hx hb dX7_says_31 rfl (lv_at hl 0 rfl) ?_
        refine lv_iload_n hx hb dX7_says_32 rfl (lv_at hl 2 rfl) ?_
        refine lv_iconst (v := 0) hx hb dX7_says_33 rfl ?_
        refine lv_bipush (v := 35) hx hb dX7_says_34 (by decide) ?_
        obtain ⟨r2, hc, hf⟩ := bd_out hf
        refine y_i (va_runV (As := [.int a2, .int (0 : Int32), .int (35 : Int32)]) (rest := []) hfix (m_X7_in l G B E hE S a2 (0 : Int32) (35 : Int32) r2 hc) (cwV 3 hts gX7_says_X7_in rfl rfl rfl ⟨rfl, hd_X7_in⟩ ⟨Nat.le_of_ble_eq_true rfl, Nat.le_of_ble_eq_true rfl⟩) (y_pv hF hW hS (c1 hE) (e1 _ _ _ _ _ _) rfl) rfl rfl hl.1 rfl (lv_room (Nat.le_of_ble_eq_true rfl)) dX7_says_36 ⟨Nat.le_of_ble_eq_true rfl, Nat.le_of_ble_eq_true rfl⟩) hS (fun H locs hW hS => ?_)
        refine lv_if_eq (tgt := 60) hx hb dX7_says_39 (by decide) (fun h => ?_) (fun h => ?_)
        · have hf := if_t h hf
          refine lv_bipush (v := -2) hx hb dX7_says_60 (by decide) ?_
          exact z_i hf hx hb hr rfl hF hW hS dX7_says_62 hlocks
        · have hf := if_f h hf
          refine lv_iload_n hx hb dX7_says_42 rfl (lv_at hl 2 rfl) ?_
          refine lv_bipush (v := 10) hx hb dX7_says_43 (by decide) ?_
          refine x_irem hx hb dX7_says_45 (by decide) ?_
          refine lv_iconst (v := 5) hx hb dX7_says_46 rfl ?_
          refine lv_icmp_gt (tgt := 60) hx hb dX7_says_47 (by decide) (fun h => ?_) (fun h => ?_)
          · have hf := if_t h hf
            refine lv_bipush (v := -2) hx hb dX7_says_60 (by decide) ?_
            exact z_i hf hx hb hr rfl hF hW hS dX7_says_62 hlocks
          · have hf := if_f h hf
            refine lv_aload_n hx hb dX7_says_50 rfl (lv_at hl 0 rfl) ?_
            refine lv_iload_n hx hb dX7_says_51 rfl (lv_at hl 3 rfl) ?_
            refine lv_iconst (v := 0) hx hb dX7_says_52 rfl ?_
            refine lv_iconst (v := 2) hx hb dX7_says_53 rfl ?_
            obtain ⟨r3, hc, hf⟩ := bd_out hf
            refine y_i (va_runV (As := [.int a3, .int (0 : Int32), .int (2 : Int32)]) (rest := []) hfix (m_X7_in l G B E hE S a3 (0 : Int32) (2 : Int32) r3 hc) (cwV 3 hts gX7_says_X7_in rfl rfl rfl ⟨rfl, hd_X7_in⟩ ⟨Nat.le_of_ble_eq_true rfl, Nat.le_of_ble_eq_true rfl⟩) (y_pv hF hW hS (c1 hE) (e1 _ _ _ _ _ _) rfl) rfl rfl hl.1 rfl (lv_room (Nat.le_of_ble_eq_true rfl)) dX7_says_54 ⟨Nat.le_of_ble_eq_true rfl, Nat.le_of_ble_eq_true rfl⟩) hS (fun H locs hW hS => ?_)
            refine lv_if_ne (tgt := 63) hx hb dX7_says_57 (by decide) (fun h => ?_) (fun h => ?_)
            · have hf := if_f h hf
              refine lv_aload_n hx hb dX7_says_63 rfl (lv_at hl 0 rfl) ?_
              refine lv_iload_n hx hb dX7_says_64 rfl (lv_at hl 1 rfl) ?_
              refine lv_bipush (v := 100) hx hb dX7_says_65 (by decide) ?_
              refine lv_idiv hx hb dX7_says_67 (by decide) ?_
              refine lv_iload_n hx hb dX7_says_68 rfl (lv_at hl 1 rfl) ?_
              refine lv_bipush (v := 10) hx hb dX7_says_69 (by decide) ?_
              refine lv_idiv hx hb dX7_says_71 (by decide) ?_
              refine lv_bipush (v := 10) hx hb dX7_says_72 (by decide) ?_
              refine x_irem hx hb dX7_says_74 (by decide) ?_
              refine lv_iload_n hx hb dX7_says_75 rfl (lv_at hl 1 rfl) ?_
              refine lv_bipush (v := 10) hx hb dX7_says_76 (by decide) ?_
              refine x_irem hx hb dX7_says_78 (by decide) ?_
              refine lv_iload_n hx hb dX7_says_79 rfl (lv_at hl 2 rfl) ?_
              refine lv_bipush (v := 10) hx hb dX7_says_80 (by decide) ?_
              refine lv_idiv hx hb dX7_says_82 (by decide) ?_
              refine lv_iload_n hx hb dX7_says_83 rfl (lv_at hl 2 rfl) ?_
              refine lv_bipush (v := 10) hx hb dX7_says_84 (by decide) ?_
              refine x_irem hx hb dX7_says_86 (by decide) ?_
              refine lv_iload_n hx hb dX7_says_87 rfl (lv_at hl 3 rfl) ?_
              obtain ⟨r4, S5, hc, hf⟩ := bd2_out hf
              refine y_i (va_runV (As := [.int (a1 / (100 : Int32)), .int (rmI (a1 / (10 : Int32)) (10 : Int32)), .int (rmI a1 (10 : Int32)), .int (a2 / (10 : Int32)), .int (rmI a2 (10 : Int32)), .int a3]) (rest := []) hfix (m_X7_bounded l G B E hE S (a1 / (100 : Int32)) (rmI (a1 / (10 : Int32)) (10 : Int32)) (rmI a1 (10 : Int32)) (a2 / (10 : Int32)) (rmI a2 (10 : Int32)) a3 r4 S5 hc) (cwV 6 hts gX7_says_X7_bounded rfl rfl rfl ⟨rfl, hd_X7_bounded⟩ ⟨Nat.le_of_ble_eq_true rfl, Nat.le_of_ble_eq_true rfl⟩) (y_pv hF hW hS (c1 hE) (e1 _ _ _ _ _ _) rfl) rfl rfl hl.1 rfl (lv_room (Nat.le_of_ble_eq_true rfl)) dX7_says_88 ⟨Nat.le_of_ble_eq_true rfl, Nat.le_of_ble_eq_true rfl⟩) hS (fun H locs hW hS => ?_)
              exact z_i hf hx hb hr rfl hF hW hS dX7_says_91 hlocks
            · have hf := if_t h hf
              refine lv_bipush (v := -2) hx hb dX7_says_60 (by decide) ?_
              exact z_i hf hx hb hr rfl hF hW hS dX7_says_62 hlocks
set_option maxHeartbeats 4000000 in
set_option maxRecDepth 100000 in
theorem m_X7_layRule (l : Launch) (G : GE) (B : Nat → Nat → Nat) (E : EN) (hE : 0 < E.2.2.2)  (S : ST) (a1 : Int32) (SS : ST) (hf : f_X7_layRule E S a1 = some SS) : Met l yX7_layRule wsX7_layRule (rmN 4) (va_Pc [.ref (B 1 0), .int a1] (WS G B E S)) (QV G B E SS) 0 0 (AA G) := by
  refine Met.ofW (cc := cX7_layRule) (maxL := 6) (ret := none) (by decide) rfl ?_
  intro p e s m args below meth c s₁ B0 hml hv
  obtain ⟨rfl, hW, hF⟩ := hv
  have hx := B0.exec
  have hb := B0.bytes
  have hr := B0.returns
  have hts := atoms_spec (ws := wsX7_layRule) B0.pre
  have hown : s.vm.findClass RX7 = some m.cls := findClass_of_methodNamed B0.named
  have hlocks := B0.notSynchronized
  have hK := hF.1
  have hfix : CallFix p m c cX7_layRule 6 s [.ref (B 1 0), .int a1].toArray wsX7_layRule RX7 := ⟨hx, hb, hml, hown, hts⟩
  have hS : va_S (AA G) s.heap s.heap [] := va_S.rf
  have hl := lv_entry [.ref (B 1 0), .int a1] (n := 6) (Nat.le_of_ble_eq_true rfl)
  rw [lg_entry_eq]
  generalize (lg_sl [.ref (B 1 0), .int a1] ++ List.replicate (6 - (lg_sl [.ref (B 1 0), .int a1]).length) Slot.unset).toArray = ls at hl ⊢
  have hl : lv_has ls 6 [(0, .ref (B 1 0)), (1, .int a1)] := hl
  have q0 := hts (.fieldLink RX7 101 "MovesUpModel" "learn" "[I") (List.mem_of_getElem? (i := 2) rfl)
  have q1 := hts (.fieldLink RX7 104 "MovesUpModel" "right" "[I") (List.mem_of_getElem? (i := 3) rfl)
  have q2 := hts (.fieldLink RX7 107 "MovesUpModel" "end" "[I") (List.mem_of_getElem? (i := 1) rfl)
  have hi7 : ∀ w ∈ u_ws RX7 TX7 47, w ∈ wsX7_layRule := in_seg 23 rfl
  have w2 : ∀ (n2 : Nat) (S : ST) (v1 : Int32) (v2 : Int32) , f_X7_layRule_b2 E n2 S v1 v2 = some SS → ∀ (H : Heap) (locs : List Loc) (ls : Array Slot), WH G B E S H → va_S (AA G) s.heap H locs → lv_has ls 6 [(0, .ref (B 1 0)), (1, .int v1), (2, .int v2)] → W p l e (headSpec wsX7_layRule (rmN 4)).room s m [.ref (B 1 0), .int a1].toArray below meth c H locs 0 0 (MQ below (QV G B E SS) [.ref (B 1 0), .int a1].toArray s 0 0 (AA G)) (F0 m 2 ls []) := by
    intro n2
    induction n2 with
    | zero =>
      intro S v1 v2 hf
      exact absurd (show (none : Option ST) = some SS from hf) (fun h => by cases h)
    | succ n2 ih2 =>
      have w148 : ∀ (S : ST) (v1 : Int32) (v2 : Int32) , f_X7_layRule_b148 E (f_X7_layRule_b2 E n2) S v1 v2 = some SS → ∀ (H : Heap) (locs : List Loc) (ls : Array Slot), WH G B E S H → va_S (AA G) s.heap H locs → lv_has ls 6 [(0, .ref (B 1 0)), (1, .int v1), (2, .int v2)] → W p l e (headSpec wsX7_layRule (rmN 4)).room s m [.ref (B 1 0), .int a1].toArray below meth c H locs 0 0 (MQ below (QV G B E SS) [.ref (B 1 0), .int a1].toArray s 0 0 (AA G)) (F0 m 148 ls []) := by
        intro S v1 v2 hf H locs ls hW hS hl
        unfold f_X7_layRule_b148 at hf
        obtain ⟨x1, e_x1, hf⟩ := lt_out hf
        refine lv_iinc (v := x1) (lv' := [(2, .int x1), (0, .ref (B 1 0)), (1, .int v1)]) hx hb dX7_layRule_148 hl (k := 2) rfl (by rw [e_x1]; rfl) (by decide) rfl (fun ls hl => ?_)
        refine lv_goto (tgt := 2) hx hb dX7_layRule_151 (by decide) ?_
        exact ih2 S v1 x1  hf _ _ _ hW hS (lv_sub hl [1, 2, 0] rfl)
      have w9 : ∀ (n9 : Nat) (S : ST) (v1 : Int32) (v2 : Int32) (v3 : Int32) , f_X7_layRule_b9 E (f_X7_layRule_b2 E n2) n9 S v1 v2 v3 = some SS → ∀ (H : Heap) (locs : List Loc) (ls : Array Slot), WH G B E S H → va_S (AA G) s.heap H locs → lv_has ls 6 [(0, .ref (B 1 0)), (1, .int v1), (2, .int v2), (3, .int v3)] → W p l e (headSpec wsX7_layRule (rmN 4)).room s m [.ref (B 1 0), .int a1].toArray below meth c H locs 0 0 (MQ below (QV G B E SS) [.ref (B 1 0), .int a1].toArray s 0 0 (AA G)) (F0 m 9 ls []) := by
        intro n9
        induction n9 with
        | zero =>
          intro S v1 v2 v3 hf
          exact absurd (show (none : Option ST) = some SS from hf) (fun h => by cases h)
        | succ n9 ih9 =>
          have w142 : ∀ (S : ST) (v1 : Int32) (v2 : Int32) (v3 : Int32) , f_X7_layRule_b142 E (f_X7_layRule_b2 E n2) (f_X7_layRule_b9 E (f_X7_layRule_b2 E n2) n9) S v1 v2 v3 = some SS → ∀ (H : Heap) (locs : List Loc) (ls : Array Slot), WH G B E S H → va_S (AA G) s.heap H locs → lv_has ls 6 [(0, .ref (B 1 0)), (1, .int v1), (2, .int v2), (3, .int v3)] → W p l e (headSpec wsX7_layRule (rmN 4)).room s m [.ref (B 1 0), .int a1].toArray below meth c H locs 0 0 (MQ below (QV G B E SS) [.ref (B 1 0), .int a1].toArray s 0 0 (AA G)) (F0 m 142 ls []) := by
            intro S v1 v2 v3 hf H locs ls hW hS hl
            unfold f_X7_layRule_b142 at hf
            obtain ⟨x2, e_x2, hf⟩ := lt_out hf
            refine lv_iinc (v := x2) (lv' := [(3, .int x2), (0, .ref (B 1 0)), (1, .int v1), (2, .int v2)]) hx hb dX7_layRule_142 hl (k := 3) rfl (by rw [e_x2]; rfl) (by decide) rfl (fun ls hl => ?_)
            refine lv_goto (tgt := 9) hx hb dX7_layRule_145 (by decide) ?_
            exact ih9 S v1 v2 x2  hf _ _ _ hW hS (lv_sub hl [1, 2, 3, 0] rfl)
          have w18 : ∀ (n18 : Nat) (S : ST) (v1 : Int32) (v2 : Int32) (v3 : Int32) (v4 : Int32) , f_X7_layRule_b18 E (f_X7_layRule_b2 E n2) (f_X7_layRule_b9 E (f_X7_layRule_b2 E n2) n9) n18 S v1 v2 v3 v4 = some SS → ∀ (H : Heap) (locs : List Loc) (ls : Array Slot), WH G B E S H → va_S (AA G) s.heap H locs → lv_has ls 6 [(0, .ref (B 1 0)), (1, .int v1), (2, .int v2), (3, .int v3), (4, .int v4)] → W p l e (headSpec wsX7_layRule (rmN 4)).room s m [.ref (B 1 0), .int a1].toArray below meth c H locs 0 0 (MQ below (QV G B E SS) [.ref (B 1 0), .int a1].toArray s 0 0 (AA G)) (F0 m 18 ls []) := by
            intro n18
            induction n18 with
            | zero =>
              intro S v1 v2 v3 v4 hf
              exact absurd (show (none : Option ST) = some SS from hf) (fun h => by cases h)
            | succ n18 ih18 =>
              have w136 : ∀ (S : ST) (v1 : Int32) (v2 : Int32) (v3 : Int32) (v4 : Int32) , f_X7_layRule_b136 E (f_X7_layRule_b2 E n2) (f_X7_layRule_b9 E (f_X7_layRule_b2 E n2) n9) (f_X7_layRule_b18 E (f_X7_layRule_b2 E n2) (f_X7_layRule_b9 E (f_X7_layRule_b2 E n2) n9) n18) S v1 v2 v3 v4 = some SS → ∀ (H : Heap) (locs : List Loc) (ls : Array Slot), WH G B E S H → va_S (AA G) s.heap H locs → lv_has ls 6 [(0, .ref (B 1 0)), (1, .int v1), (2, .int v2), (3, .int v3), (4, .int v4)] → W p l e (headSpec wsX7_layRule (rmN 4)).room s m [.ref (B 1 0), .int a1].toArray below meth c H locs 0 0 (MQ below (QV G B E SS) [.ref (B 1 0), .int a1].toArray s 0 0 (AA G)) (F0 m 136 ls []) := by
                intro S v1 v2 v3 v4 hf H locs ls hW hS hl
                unfold f_X7_layRule_b136 at hf
                obtain ⟨x3, e_x3, hf⟩ := lt_out hf
                refine lv_iinc (v := x3) (lv' := [(4, .int x3), (0, .ref (B 1 0)), (1, .int v1), (2, .int v2), (3, .int v3)]) hx hb dX7_layRule_136 hl (k := 4) rfl (by rw [e_x3]; rfl) (by decide) rfl (fun ls hl => ?_)
                refine lv_goto (tgt := 18) hx hb dX7_layRule_139 (by decide) ?_
                exact ih18 S v1 v2 v3 x3  hf _ _ _ hW hS (lv_sub hl [1, 2, 3, 4, 0] rfl)
              have w54 : ∀ (n54 : Nat) (S : ST) (v1 : Int32) (v2 : Int32) (v3 : Int32) (v4 : Int32) (v5 : Int32) , f_X7_layRule_b54 E (f_X7_layRule_b2 E n2) (f_X7_layRule_b9 E (f_X7_layRule_b2 E n2) n9) (f_X7_layRule_b18 E (f_X7_layRule_b2 E n2) (f_X7_layRule_b9 E (f_X7_layRule_b2 E n2) n9) n18) n54 S v1 v2 v3 v4 v5 = some SS → ∀ (H : Heap) (locs : List Loc) (ls : Array Slot), WH G B E S H → va_S (AA G) s.heap H locs → lv_has ls 6 [(0, .ref (B 1 0)), (1, .int v1), (2, .int v2), (3, .int v3), (4, .int v4), (5, .int v5)] → W p l e (headSpec wsX7_layRule (rmN 4)).room s m [.ref (B 1 0), .int a1].toArray below meth c H locs 0 0 (MQ below (QV G B E SS) [.ref (B 1 0), .int a1].toArray s 0 0 (AA G)) (F0 m 54 ls []) := by
                intro n54
                induction n54 with
                | zero =>
                  intro S v1 v2 v3 v4 v5 hf
                  exact absurd (show (none : Option ST) = some SS from hf) (fun h => by cases h)
                | succ n54 ih54 =>
                  intro S v1 v2 v3 v4 v5 hf H locs ls hW hS hl
                  have hf : g_X7_layRule_b54 E (f_X7_layRule_b2 E n2) (f_X7_layRule_b9 E (f_X7_layRule_b2 E n2) n9) (f_X7_layRule_b18 E (f_X7_layRule_b2 E n2) (f_X7_layRule_b9 E (f_X7_layRule_b2 E n2) n9) n18) (f_X7_layRule_b54 E (f_X7_layRule_b2 E n2) (f_X7_layRule_b9 E (f_X7_layRule_b2 E n2) n9) (f_X7_layRule_b18 E (f_X7_layRule_b2 E n2) (f_X7_layRule_b9 E (f_X7_layRule_b2 E n2) n9) n18) n54) S v1 v2 v3 v4 v5 = some SS := hf
                  unfold g_X7_layRule_b54 at hf
                  refine lv_iload hx hb dX7_layRule_54 (lv_at hl 5 rfl) ?_
                  refine lv_iconst (v := 5) hx hb dX7_layRule_56 rfl ?_
                  refine lv_icmp_ge (tgt := 136) hx hb dX7_layRule_57 (by decide) (fun h => ?_) (fun h => ?_)
                  · have hf := if_t h hf
                    exact w136 S v1 v2 v3 v4  hf _ _ _ hW hS (lv_sub hl [0, 1, 2, 3, 4] rfl)
                  · have hf := if_f h hf
                    refine lv_aload_n hx hb dX7_layRule_60 rfl (lv_at hl 0 rfl) ?_
                    refine x_get hx hb hts hi7 hown hK hW (c1 hE) (e1 _ _ _ _ _ _) rfl 23 (Nat.le_of_ble_eq_true rfl) q0 (fun _ h => h) (v := .ref (B 63 0)) rfl dX7_layRule_61 ?_
                    refine lv_sipush (v := 150) hx hb dX7_layRule_64 (by decide) ?_
                    refine lv_iload hx hb dX7_layRule_67 (lv_at hl 5 rfl) ?_
                    refine lv_imul hx hb dX7_layRule_69 ?_
                    refine lv_bipush (v := 30) hx hb dX7_layRule_70 (by decide) ?_
                    refine lv_iload_n hx hb dX7_layRule_72 rfl (lv_at hl 2 rfl) ?_
                    refine lv_imul hx hb dX7_layRule_73 ?_
                    refine lv_iadd hx hb dX7_layRule_74 ?_
                    refine lv_iconst (v := 5) hx hb dX7_layRule_75 rfl ?_
                    refine lv_iload_n hx hb dX7_layRule_76 rfl (lv_at hl 3 rfl) ?_
                    refine lv_imul hx hb dX7_layRule_77 ?_
                    refine lv_iadd hx hb dX7_layRule_78 ?_
                    refine lv_iload hx hb dX7_layRule_79 (lv_at hl 4 rfl) ?_
                    refine lv_iadd hx hb dX7_layRule_81 ?_
                    refine lv_aload_n hx hb dX7_layRule_82 rfl (lv_at hl 0 rfl) ?_
                    refine lv_iload hx hb dX7_layRule_83 (lv_at hl 4 rfl) ?_
                    refine lv_iload_n hx hb dX7_layRule_85 rfl (lv_at hl 2 rfl) ?_
                    refine lv_iload hx hb dX7_layRule_86 (lv_at hl 5 rfl) ?_
                    refine lv_iload_n hx hb dX7_layRule_88 rfl (lv_at hl 1 rfl) ?_
                    refine lv_iload_n hx hb dX7_layRule_89 rfl (lv_at hl 3 rfl) ?_
                    refine lv_iconst (v := 0) hx hb dX7_layRule_90 rfl ?_
                    obtain ⟨r4, S5, hc, hf⟩ := bd2_out hf
                    refine y_i (va_runV (As := [.int v4, .int v2, .int v5, .int v1, .int v3, .int (0 : Int32)]) (rest := [.int (((((150 : Int32) * v5) + ((30 : Int32) * v2)) + ((5 : Int32) * v3)) + v4), .ref (B 63 0)]) hfix (m_X7_bounded l G B E hE S v4 v2 v5 v1 v3 (0 : Int32) r4 S5 hc) (cwV 6 hts gX7_layRule_X7_bounded rfl rfl rfl ⟨rfl, hd_X7_bounded⟩ ⟨Nat.le_of_ble_eq_true rfl, Nat.le_of_ble_eq_true rfl⟩) (y_pv hF hW hS (c1 hE) (e1 _ _ _ _ _ _) rfl) rfl rfl hl.1 rfl (lv_room (Nat.le_of_ble_eq_true rfl)) dX7_layRule_91 ⟨Nat.le_of_ble_eq_true rfl, Nat.le_of_ble_eq_true rfl⟩) hS (fun H locs hW hS => ?_)
                    obtain ⟨hi_6, hf⟩ := ck_out hf
                    have hi_6 := ib_in hi_6
                    obtain ⟨S7, e_S7, hf⟩ := lt_out hf
                    refine x_iast hx hb hK hW hS (c63 hE) (fun f r => e63 _ _ _ f _ r) hi_6 (jn := (((((150 : Int32) * v5) + ((30 : Int32) * v2)) + ((5 : Int32) * v3)) + v4).toNatClampNeg) rfl e_S7 dX7_layRule_94 (fun H locs hW hS => ?_)
                    refine lv_aload_n hx hb dX7_layRule_95 rfl (lv_at hl 0 rfl) ?_
                    refine x_get hx hb hts hi7 hown hK hW (c1 hE) (e1 _ _ _ _ _ _) rfl 24 (Nat.le_of_ble_eq_true rfl) q1 (fun _ h => h) (v := .ref (B 64 0)) rfl dX7_layRule_96 ?_
                    refine lv_sipush (v := 150) hx hb dX7_layRule_99 (by decide) ?_
                    refine lv_iload hx hb dX7_layRule_102 (lv_at hl 5 rfl) ?_
                    refine lv_imul hx hb dX7_layRule_104 ?_
                    refine lv_bipush (v := 30) hx hb dX7_layRule_105 (by decide) ?_
                    refine lv_iload_n hx hb dX7_layRule_107 rfl (lv_at hl 2 rfl) ?_
                    refine lv_imul hx hb dX7_layRule_108 ?_
                    refine lv_iadd hx hb dX7_layRule_109 ?_
                    refine lv_iconst (v := 5) hx hb dX7_layRule_110 rfl ?_
                    refine lv_iload_n hx hb dX7_layRule_111 rfl (lv_at hl 3 rfl) ?_
                    refine lv_imul hx hb dX7_layRule_112 ?_
                    refine lv_iadd hx hb dX7_layRule_113 ?_
                    refine lv_iload hx hb dX7_layRule_114 (lv_at hl 4 rfl) ?_
                    refine lv_iadd hx hb dX7_layRule_116 ?_
                    refine lv_aload_n hx hb dX7_layRule_117 rfl (lv_at hl 0 rfl) ?_
                    refine lv_iload hx hb dX7_layRule_118 (lv_at hl 4 rfl) ?_
                    refine lv_iload_n hx hb dX7_layRule_120 rfl (lv_at hl 2 rfl) ?_
                    refine lv_iload hx hb dX7_layRule_121 (lv_at hl 5 rfl) ?_
                    refine lv_iload_n hx hb dX7_layRule_123 rfl (lv_at hl 1 rfl) ?_
                    refine lv_iload_n hx hb dX7_layRule_124 rfl (lv_at hl 3 rfl) ?_
                    refine lv_iconst (v := 1) hx hb dX7_layRule_125 rfl ?_
                    obtain ⟨r8, S9, hc, hf⟩ := bd2_out hf
                    refine y_i (va_runV (As := [.int v4, .int v2, .int v5, .int v1, .int v3, .int (1 : Int32)]) (rest := [.int (((((150 : Int32) * v5) + ((30 : Int32) * v2)) + ((5 : Int32) * v3)) + v4), .ref (B 64 0)]) hfix (m_X7_bounded l G B E hE S7 v4 v2 v5 v1 v3 (1 : Int32) r8 S9 hc) (cwV 6 hts gX7_layRule_X7_bounded rfl rfl rfl ⟨rfl, hd_X7_bounded⟩ ⟨Nat.le_of_ble_eq_true rfl, Nat.le_of_ble_eq_true rfl⟩) (y_pv hF hW hS (c1 hE) (e1 _ _ _ _ _ _) rfl) rfl rfl hl.1 rfl (lv_room (Nat.le_of_ble_eq_true rfl)) dX7_layRule_126 ⟨Nat.le_of_ble_eq_true rfl, Nat.le_of_ble_eq_true rfl⟩) hS (fun H locs hW hS => ?_)
                    obtain ⟨S10, e_S10, hf⟩ := lt_out hf
                    refine x_iast hx hb hK hW hS (c64 hE) (fun f r => e64 _ _ _ f _ r) hi_6 (jn := (((((150 : Int32) * v5) + ((30 : Int32) * v2)) + ((5 : Int32) * v3)) + v4).toNatClampNeg) rfl e_S10 dX7_layRule_129 (fun H locs hW hS => ?_)
                    obtain ⟨x11, e_x11, hf⟩ := lt_out hf
                    refine lv_iinc (v := x11) (lv' := [(5, .int x11), (0, .ref (B 1 0)), (1, .int v1), (2, .int v2), (3, .int v3), (4, .int v4)]) hx hb dX7_layRule_130 hl (k := 5) rfl (by rw [e_x11]; rfl) (by decide) rfl (fun ls hl => ?_)
                    refine lv_goto (tgt := 54) hx hb dX7_layRule_133 (by decide) ?_
                    exact ih54 S10 v1 v2 v3 v4 x11  hf _ _ _ hW hS (lv_sub hl [1, 2, 3, 4, 5, 0] rfl)
              intro S v1 v2 v3 v4 hf H locs ls hW hS hl
              have hf : g_X7_layRule_b18 E (f_X7_layRule_b2 E n2) (f_X7_layRule_b9 E (f_X7_layRule_b2 E n2) n9) (f_X7_layRule_b18 E (f_X7_layRule_b2 E n2) (f_X7_layRule_b9 E (f_X7_layRule_b2 E n2) n9) n18) S v1 v2 v3 v4 = some SS := hf
              unfold g_X7_layRule_b18 at hf
              refine lv_iload hx hb dX7_layRule_18 (lv_at hl 4 rfl) ?_
              refine lv_iconst (v := 5) hx hb dX7_layRule_20 rfl ?_
              refine lv_icmp_ge (tgt := 142) hx hb dX7_layRule_21 (by decide) (fun h => ?_) (fun h => ?_)
              · have hf := if_t h hf
                exact w142 S v1 v2 v3  hf _ _ _ hW hS (lv_sub hl [0, 1, 2, 3] rfl)
              · have hf := if_f h hf
                refine lv_aload_n hx hb dX7_layRule_24 rfl (lv_at hl 0 rfl) ?_
                refine x_get hx hb hts hi7 hown hK hW (c1 hE) (e1 _ _ _ _ _ _) rfl 25 (Nat.le_of_ble_eq_true rfl) q2 (fun _ h => h) (v := .ref (B 65 0)) rfl dX7_layRule_25 ?_
                refine lv_bipush (v := 30) hx hb dX7_layRule_28 (by decide) ?_
                refine lv_iload_n hx hb dX7_layRule_30 rfl (lv_at hl 2 rfl) ?_
                refine lv_imul hx hb dX7_layRule_31 ?_
                refine lv_iconst (v := 5) hx hb dX7_layRule_32 rfl ?_
                refine lv_iload_n hx hb dX7_layRule_33 rfl (lv_at hl 3 rfl) ?_
                refine lv_imul hx hb dX7_layRule_34 ?_
                refine lv_iadd hx hb dX7_layRule_35 ?_
                refine lv_iload hx hb dX7_layRule_36 (lv_at hl 4 rfl) ?_
                refine lv_iadd hx hb dX7_layRule_38 ?_
                refine lv_aload_n hx hb dX7_layRule_39 rfl (lv_at hl 0 rfl) ?_
                refine lv_iload hx hb dX7_layRule_40 (lv_at hl 4 rfl) ?_
                refine lv_iload_n hx hb dX7_layRule_42 rfl (lv_at hl 2 rfl) ?_
                refine lv_iconst (v := 5) hx hb dX7_layRule_43 rfl ?_
                refine lv_iload_n hx hb dX7_layRule_44 rfl (lv_at hl 1 rfl) ?_
                refine lv_iload_n hx hb dX7_layRule_45 rfl (lv_at hl 3 rfl) ?_
                refine lv_iconst (v := 2) hx hb dX7_layRule_46 rfl ?_
                obtain ⟨r12, S13, hc, hf⟩ := bd2_out hf
                refine y_i (va_runV (As := [.int v4, .int v2, .int (5 : Int32), .int v1, .int v3, .int (2 : Int32)]) (rest := [.int ((((30 : Int32) * v2) + ((5 : Int32) * v3)) + v4), .ref (B 65 0)]) hfix (m_X7_bounded l G B E hE S v4 v2 (5 : Int32) v1 v3 (2 : Int32) r12 S13 hc) (cwV 6 hts gX7_layRule_X7_bounded rfl rfl rfl ⟨rfl, hd_X7_bounded⟩ ⟨Nat.le_of_ble_eq_true rfl, Nat.le_of_ble_eq_true rfl⟩) (y_pv hF hW hS (c1 hE) (e1 _ _ _ _ _ _) rfl) rfl rfl hl.1 rfl (lv_room (Nat.le_of_ble_eq_true rfl)) dX7_layRule_47 ⟨Nat.le_of_ble_eq_true rfl, Nat.le_of_ble_eq_true rfl⟩) hS (fun H locs hW hS => ?_)
                obtain ⟨hi_14, hf⟩ := ck_out hf
                have hi_14 := ib_in hi_14
                obtain ⟨S15, e_S15, hf⟩ := lt_out hf
                refine x_iast hx hb hK hW hS (c65 hE) (fun f r => e65 _ _ _ f _ r) hi_14 (jn := ((((30 : Int32) * v2) + ((5 : Int32) * v3)) + v4).toNatClampNeg) rfl e_S15 dX7_layRule_50 (fun H locs hW hS => ?_)
                refine lv_iconst (v := 0) hx hb dX7_layRule_51 rfl ?_
                refine lv_istore (lv' := [(5, .int (0 : Int32)), (0, .ref (B 1 0)), (1, .int v1), (2, .int v2), (3, .int v3), (4, .int v4)]) hx hb dX7_layRule_52 hl (by decide) rfl (fun ls hl => ?_)
                exact w54 E.1 S15 v1 v2 v3 v4 (0 : Int32)  hf _ _ _ hW hS (lv_sub hl [1, 2, 3, 4, 5, 0] rfl)
          intro S v1 v2 v3 hf H locs ls hW hS hl
          have hf : g_X7_layRule_b9 E (f_X7_layRule_b2 E n2) (f_X7_layRule_b9 E (f_X7_layRule_b2 E n2) n9) S v1 v2 v3 = some SS := hf
          unfold g_X7_layRule_b9 at hf
          refine lv_iload_n hx hb dX7_layRule_9 rfl (lv_at hl 3 rfl) ?_
          refine lv_bipush (v := 6) hx hb dX7_layRule_10 (by decide) ?_
          refine lv_icmp_ge (tgt := 148) hx hb dX7_layRule_12 (by decide) (fun h => ?_) (fun h => ?_)
          · have hf := if_t h hf
            exact w148 S v1 v2  hf _ _ _ hW hS (lv_sub hl [0, 1, 2] rfl)
          · have hf := if_f h hf
            refine lv_iconst (v := 0) hx hb dX7_layRule_15 rfl ?_
            refine lv_istore (lv' := [(4, .int (0 : Int32)), (0, .ref (B 1 0)), (1, .int v1), (2, .int v2), (3, .int v3)]) hx hb dX7_layRule_16 hl (by decide) rfl (fun ls hl => ?_)
            exact w18 E.1 S v1 v2 v3 (0 : Int32)  hf _ _ _ hW hS (lv_sub hl [1, 2, 3, 4, 0] rfl)
      intro S v1 v2 hf H locs ls hW hS hl
      have hf : g_X7_layRule_b2 E (f_X7_layRule_b2 E n2) S v1 v2 = some SS := hf
      unfold g_X7_layRule_b2 at hf
      refine lv_iload_n hx hb dX7_layRule_2 rfl (lv_at hl 2 rfl) ?_
      refine lv_iconst (v := 5) hx hb dX7_layRule_3 rfl ?_
      refine lv_icmp_ge (tgt := 154) hx hb dX7_layRule_4 (by decide) (fun h => ?_) (fun h => ?_)
      · have hf := if_t h hf
        exact z_v hf hx hb hr hF hW hS dX7_layRule_154 hlocks
      · have hf := if_f h hf
        refine lv_iconst (v := 0) hx hb dX7_layRule_7 rfl ?_
        refine lv_istore_n (lv' := [(3, .int (0 : Int32)), (0, .ref (B 1 0)), (1, .int v1), (2, .int v2)]) hx hb dX7_layRule_8 rfl hl (by decide) rfl (fun ls hl => ?_)
        exact w9 E.1 S v1 v2 (0 : Int32)  hf _ _ _ hW hS (lv_sub hl [1, 2, 3, 0] rfl)
  unfold f_X7_layRule at hf
  refine lv_iconst (v := 0) hx hb dX7_layRule_0 rfl ?_
  refine lv_istore_n (lv' := [(2, .int (0 : Int32)), (0, .ref (B 1 0)), (1, .int a1)]) hx hb dX7_layRule_1 rfl hl (by decide) rfl (fun ls hl => ?_)
  exact w2 E.1 S a1 (0 : Int32)  hf _ _ _ hW hS (lv_sub hl [1, 2, 0] rfl)
set_option maxHeartbeats 4000000 in
set_option maxRecDepth 100000 in
theorem m_X7_goWeek (l : Launch) (G : GE) (B : Nat → Nat → Nat) (E : EN) (hE : 0 < E.2.2.2)  (S : ST) (a1 : Int32) (a2 : Int32) (SS : ST) (hf : f_X7_goWeek E S a1 a2 = some SS) : Met l yX7_goWeek wsX7_goWeek (rmN 1) (va_Pc [.ref (B 1 0), .int a1, .int a2] (WS G B E S)) (QV G B E SS) 0 0 (AA G) := by
  refine Met.ofW (cc := cX7_goWeek) (maxL := 11) (ret := none) (by decide) rfl ?_
  intro p e s m args below meth c s₁ B0 hml hv
  obtain ⟨rfl, hW, hF⟩ := hv
  have hx := B0.exec
  have hb := B0.bytes
  have hr := B0.returns
  have hts := atoms_spec (ws := wsX7_goWeek) B0.pre
  have hown : s.vm.findClass RX7 = some m.cls := findClass_of_methodNamed B0.named
  have hlocks := B0.notSynchronized
  have hK := hF.1
  have hfix : CallFix p m c cX7_goWeek 11 s [.ref (B 1 0), .int a1, .int a2].toArray wsX7_goWeek RX7 := ⟨hx, hb, hml, hown, hts⟩
  have hS : va_S (AA G) s.heap s.heap [] := va_S.rf
  have hl := lv_entry [.ref (B 1 0), .int a1, .int a2] (n := 11) (Nat.le_of_ble_eq_true rfl)
  rw [lg_entry_eq]
  generalize (lg_sl [.ref (B 1 0), .int a1, .int a2] ++ List.replicate (11 - (lg_sl [.ref (B 1 0), .int a1, .int a2]).length) Slot.unset).toArray = ls at hl ⊢
  have hl : lv_has ls 11 [(0, .ref (B 1 0)), (1, .int a1), (2, .int a2)] := hl
  have q0 := hts (.fieldLink RX7 110 "MovesUpModel" "row" "[J") (List.mem_of_getElem? (i := 3) rfl)
  have q1 := hts (.fieldLink RX7 101 "MovesUpModel" "learn" "[I") (List.mem_of_getElem? (i := 4) rfl)
  have q2 := hts (.fieldLink RX7 104 "MovesUpModel" "right" "[I") (List.mem_of_getElem? (i := 5) rfl)
  have q3 := hts (.fieldLink RX7 114 "MovesUpModel" "gradeAt" "[I") (List.mem_of_getElem? (i := 1) rfl)
  have q4 := hts (.fieldLink RX7 117 "MovesUpModel" "movedAt" "[I") (List.mem_of_getElem? (i := 2) rfl)
  have hi7 : ∀ w ∈ u_ws RX7 TX7 47, w ∈ wsX7_goWeek := in_seg 6 rfl
  have w31 : ∀ (n31 : Nat) (S : ST) (v1 : Int32) (v2 : Int32) (v3 : Int32) (v4 : Int64) (v6 : Int32) , f_X7_goWeek_b31 E n31 S v1 v2 v3 v4 v6 = some SS → ∀ (H : Heap) (locs : List Loc) (ls : Array Slot), WH G B E S H → va_S (AA G) s.heap H locs → lv_has ls 11 [(0, .ref (B 1 0)), (1, .int v1), (2, .int v2), (3, .int v3), (4, .long v4), (6, .int v6)] → W p l e (headSpec wsX7_goWeek (rmN 1)).room s m [.ref (B 1 0), .int a1, .int a2].toArray below meth c H locs 0 0 (MQ below (QV G B E SS) [.ref (B 1 0), .int a1, .int a2].toArray s 0 0 (AA G)) (F0 m 31 ls []) := by
    intro n31
    induction n31 with
    | zero =>
      intro S v1 v2 v3 v4 v6 hf
      exact absurd (show (none : Option ST) = some SS from hf) (fun h => by cases h)
    | succ n31 ih31 =>
      have w129 : ∀ (S : ST) (v1 : Int32) (v2 : Int32) (v3 : Int32) (v4 : Int64) (v6 : Int32) (t0 : Int32) (t1 : Int64) (t2 : Int32) , f_X7_goWeek_b129 E (f_X7_goWeek_b31 E n31) S v1 v2 v3 v4 v6 t0 t1 t2 = some SS → ∀ (H : Heap) (locs : List Loc) (ls : Array Slot), WH G B E S H → va_S (AA G) s.heap H locs → lv_has ls 11 [(0, .ref (B 1 0)), (1, .int v1), (2, .int v2), (3, .int v3), (4, .long v4), (6, .int v6)] → W p l e (headSpec wsX7_goWeek (rmN 1)).room s m [.ref (B 1 0), .int a1, .int a2].toArray below meth c H locs 0 0 (MQ below (QV G B E SS) [.ref (B 1 0), .int a1, .int a2].toArray s 0 0 (AA G)) (F0 m 129 ls [.int t0, .long t1, .int t2, .ref (B 66 0)]) := by
        intro S v1 v2 v3 v4 v6 t0 t1 t2 hf H locs ls hW hS hl
        unfold f_X7_goWeek_b129 at hf
        refine lv_i2l hx hb dX7_goWeek_129 rfl ?_
        refine lv_lmul hx hb dX7_goWeek_130 ?_
        obtain ⟨hi_1, hf⟩ := ck_out hf
        have hi_1 := ib_in hi_1
        obtain ⟨S2, e_S2, hf⟩ := lt_out hf
        refine x_last hx hb hK hW hS (c66 hE) (fun g => e66 _ _ _ _ g _) hi_1 (jn := t2.toNatClampNeg) rfl e_S2 dX7_goWeek_131 (fun H locs hW hS => ?_)
        obtain ⟨x3, e_x3, hf⟩ := lt_out hf
        refine lv_iinc (v := x3) (lv' := [(6, .int x3), (0, .ref (B 1 0)), (1, .int v1), (2, .int v2), (3, .int v3), (4, .long v4)]) hx hb dX7_goWeek_132 hl (k := 5) rfl (by rw [e_x3]; rfl) (by decide) rfl (fun ls hl => ?_)
        refine lv_goto (tgt := 31) hx hb dX7_goWeek_135 (by decide) ?_
        exact ih31 S2 v1 v2 v3 v4 x3  hf _ _ _ hW hS (lv_sub hl [1, 2, 3, 4, 5, 0] rfl)
      intro S v1 v2 v3 v4 v6 hf H locs ls hW hS hl
      have hf : g_X7_goWeek_b31 E (f_X7_goWeek_b31 E n31) S v1 v2 v3 v4 v6 = some SS := hf
      unfold g_X7_goWeek_b31 at hf
      refine lv_iload hx hb dX7_goWeek_31 (lv_at hl 5 rfl) ?_
      refine lv_iconst (v := 5) hx hb dX7_goWeek_33 rfl ?_
      refine lv_icmp_ge (tgt := 138) hx hb dX7_goWeek_34 (by decide) (fun h => ?_) (fun h => ?_)
      · have hf := if_t h hf
        exact z_v hf hx hb hr hF hW hS dX7_goWeek_138 hlocks
      · have hf := if_f h hf
        refine lv_aload_n hx hb dX7_goWeek_37 rfl (lv_at hl 0 rfl) ?_
        refine x_get hx hb hts hi7 hown hK hW (c1 hE) (e1 _ _ _ _ _ _) rfl 26 (Nat.le_of_ble_eq_true rfl) q0 (fun _ h => h) (v := .ref (B 66 0)) rfl dX7_goWeek_38 ?_
        refine lv_iconst (v := 5) hx hb dX7_goWeek_41 rfl ?_
        refine lv_iload_n hx hb dX7_goWeek_42 rfl (lv_at hl 1 rfl) ?_
        refine lv_imul hx hb dX7_goWeek_43 ?_
        refine lv_iload hx hb dX7_goWeek_44 (lv_at hl 5 rfl) ?_
        refine lv_iadd hx hb dX7_goWeek_46 ?_
        obtain ⟨hi_4, hf⟩ := ck_out hf
        have hi_4 := ib_in hi_4
        refine x_lald hx hb hK hW (c66 hE) (e66 _ _ _ _ _ _) hi_4 (jn := (((5 : Int32) * v1) + v6).toNatClampNeg) rfl dX7_goWeek_47 ?_
        obtain ⟨x5, e_x5, hf⟩ := lt_out hf
        refine x_nmL e_x5 ?_
        refine lv_lstore (lv' := [(7, .long x5), (0, .ref (B 1 0)), (1, .int v1), (2, .int v2), (3, .int v3), (4, .long v4), (6, .int v6)]) hx hb dX7_goWeek_48 hl (by decide) rfl (fun ls hl => ?_)
        refine lv_lload hx hb dX7_goWeek_50 (lv_at hl 0 rfl) ?_
        refine lv_bipush (v := 10) hx hb dX7_goWeek_52 (by decide) ?_
        refine lv_aload_n hx hb dX7_goWeek_54 rfl (lv_at hl 1 rfl) ?_
        refine x_get hx hb hts hi7 hown hK hW (c1 hE) (e1 _ _ _ _ _ _) rfl 23 (Nat.le_of_ble_eq_true rfl) q1 (fun _ h => h) (v := .ref (B 63 0)) rfl dX7_goWeek_55 ?_
        refine lv_iload_n hx hb dX7_goWeek_58 rfl (lv_at hl 4 rfl) ?_
        refine lv_iload hx hb dX7_goWeek_59 (lv_at hl 6 rfl) ?_
        refine lv_iadd hx hb dX7_goWeek_61 ?_
        obtain ⟨hi_6, hf⟩ := ck_out hf
        have hi_6 := ib_in hi_6
        refine x_iald hx hb hK hW (c63 hE) (e63 _ _ _ _ _ _) hi_6 (jn := (v3 + v6).toNatClampNeg) rfl dX7_goWeek_62 ?_
        refine lv_isub hx hb dX7_goWeek_63 ?_
        refine lv_i2l hx hb dX7_goWeek_64 rfl ?_
        refine lv_lmul hx hb dX7_goWeek_65 ?_
        refine lv_lload hx hb dX7_goWeek_66 (lv_at hl 5 rfl) ?_
        refine lv_ladd hx hb dX7_goWeek_68 ?_
        obtain ⟨x7, e_x7, hf⟩ := lt_out hf
        refine x_nmL e_x7 ?_
        refine lv_lstore (lv' := [(9, .long x7), (7, .long x5), (0, .ref (B 1 0)), (1, .int v1), (2, .int v2), (3, .int v3), (4, .long v4), (6, .int v6)]) hx hb dX7_goWeek_69 hl (by decide) rfl (fun ls hl => ?_)
        refine lv_lload hx hb dX7_goWeek_71 (lv_at hl 1 rfl) ?_
        refine lv_aload_n hx hb dX7_goWeek_73 rfl (lv_at hl 2 rfl) ?_
        refine x_get hx hb hts hi7 hown hK hW (c1 hE) (e1 _ _ _ _ _ _) rfl 23 (Nat.le_of_ble_eq_true rfl) q1 (fun _ h => h) (v := .ref (B 63 0)) rfl dX7_goWeek_74 ?_
        refine lv_iload_n hx hb dX7_goWeek_77 rfl (lv_at hl 5 rfl) ?_
        refine lv_iload hx hb dX7_goWeek_78 (lv_at hl 7 rfl) ?_
        refine lv_iadd hx hb dX7_goWeek_80 ?_
        refine x_iald hx hb hK hW (c63 hE) (e63 _ _ _ _ _ _) hi_6 (jn := (v3 + v6).toNatClampNeg) rfl dX7_goWeek_81 ?_
        refine lv_i2l hx hb dX7_goWeek_82 rfl ?_
        refine lv_lmul hx hb dX7_goWeek_83 ?_
        obtain ⟨x8, e_x8, hf⟩ := lt_out hf
        refine x_nmL e_x8 ?_
        refine lv_lstore (lv' := [(4, .long x8), (9, .long x7), (7, .long x5), (0, .ref (B 1 0)), (1, .int v1), (2, .int v2), (3, .int v3), (6, .int v6)]) hx hb dX7_goWeek_84 hl (by decide) rfl (fun ls hl => ?_)
        refine lv_aload_n hx hb dX7_goWeek_86 rfl (lv_at hl 3 rfl) ?_
        refine x_get hx hb hts hi7 hown hK hW (c1 hE) (e1 _ _ _ _ _ _) rfl 26 (Nat.le_of_ble_eq_true rfl) q0 (fun _ h => h) (v := .ref (B 66 0)) rfl dX7_goWeek_87 ?_
        refine lv_iconst (v := 5) hx hb dX7_goWeek_90 rfl ?_
        refine lv_iload_n hx hb dX7_goWeek_91 rfl (lv_at hl 4 rfl) ?_
        refine lv_imul hx hb dX7_goWeek_92 ?_
        refine lv_iconst (v := 5) hx hb dX7_goWeek_93 rfl ?_
        refine lv_iadd hx hb dX7_goWeek_94 ?_
        refine lv_iload hx hb dX7_goWeek_95 (lv_at hl 7 rfl) ?_
        refine lv_iadd hx hb dX7_goWeek_97 ?_
        refine lv_lload hx hb dX7_goWeek_98 (lv_at hl 1 rfl) ?_
        refine lv_iload_n hx hb dX7_goWeek_100 rfl (lv_at hl 5 rfl) ?_
        refine lv_iconst (v := 1) hx hb dX7_goWeek_101 rfl ?_
        refine lv_icmp_ne (tgt := 117) hx hb dX7_goWeek_102 (by decide) (fun h => ?_) (fun h => ?_)
        · have hf := if_f h hf
          refine lv_bipush (v := 10) hx hb dX7_goWeek_117 (by decide) ?_
          refine lv_aload_n hx hb dX7_goWeek_119 rfl (lv_at hl 3 rfl) ?_
          refine x_get hx hb hts hi7 hown hK hW (c1 hE) (e1 _ _ _ _ _ _) rfl 24 (Nat.le_of_ble_eq_true rfl) q2 (fun _ h => h) (v := .ref (B 64 0)) rfl dX7_goWeek_120 ?_
          refine lv_iload_n hx hb dX7_goWeek_123 rfl (lv_at hl 6 rfl) ?_
          refine lv_iload hx hb dX7_goWeek_124 (lv_at hl 7 rfl) ?_
          refine lv_iadd hx hb dX7_goWeek_126 ?_
          refine x_iald hx hb hK hW (c64 hE) (e64 _ _ _ _ _ _) hi_6 (jn := (v3 + v6).toNatClampNeg) rfl dX7_goWeek_127 ?_
          refine lv_isub hx hb dX7_goWeek_128 ?_
          exact w129 S v1 v2 v3 x8 v6 ((10 : Int32) - (gI S 64 0 (v3 + v6).toNatClampNeg)) x7 ((((5 : Int32) * v1) + (5 : Int32)) + v6)  hf _ _ _ hW hS (lv_sub hl [3, 4, 5, 6, 0, 7] rfl)
        · have hf := if_t h hf
          refine lv_aload_n hx hb dX7_goWeek_105 rfl (lv_at hl 3 rfl) ?_
          refine x_get hx hb hts hi7 hown hK hW (c1 hE) (e1 _ _ _ _ _ _) rfl 24 (Nat.le_of_ble_eq_true rfl) q2 (fun _ h => h) (v := .ref (B 64 0)) rfl dX7_goWeek_106 ?_
          refine lv_iload_n hx hb dX7_goWeek_109 rfl (lv_at hl 6 rfl) ?_
          refine lv_iload hx hb dX7_goWeek_110 (lv_at hl 7 rfl) ?_
          refine lv_iadd hx hb dX7_goWeek_112 ?_
          refine x_iald hx hb hK hW (c64 hE) (e64 _ _ _ _ _ _) hi_6 (jn := (v3 + v6).toNatClampNeg) rfl dX7_goWeek_113 ?_
          refine lv_goto (tgt := 129) hx hb dX7_goWeek_114 (by decide) ?_
          exact w129 S v1 v2 v3 x8 v6 (gI S 64 0 (v3 + v6).toNatClampNeg) x7 ((((5 : Int32) * v1) + (5 : Int32)) + v6)  hf _ _ _ hW hS (lv_sub hl [3, 4, 5, 6, 0, 7] rfl)
  unfold f_X7_goWeek at hf
  refine lv_sipush (v := 150) hx hb dX7_goWeek_0 (by decide) ?_
  refine lv_iload_n hx hb dX7_goWeek_3 rfl (lv_at hl 1 rfl) ?_
  refine lv_imul hx hb dX7_goWeek_4 ?_
  refine lv_bipush (v := 30) hx hb dX7_goWeek_5 (by decide) ?_
  refine lv_aload_n hx hb dX7_goWeek_7 rfl (lv_at hl 0 rfl) ?_
  refine x_get hx hb hts hi7 hown hK hW (c1 hE) (e1 _ _ _ _ _ _) rfl 27 (Nat.le_of_ble_eq_true rfl) q3 (fun _ h => h) (v := .ref (B 67 0)) rfl dX7_goWeek_8 ?_
  refine lv_iload_n hx hb dX7_goWeek_11 rfl (lv_at hl 1 rfl) ?_
  obtain ⟨hi_9, hf⟩ := ck_out hf
  have hi_9 := ib_in hi_9
  refine x_iald hx hb hK hW (c67 hE) (e67 _ _ _ _ _ _) hi_9 (jn := a1.toNatClampNeg) rfl dX7_goWeek_12 ?_
  refine lv_imul hx hb dX7_goWeek_13 ?_
  refine lv_iadd hx hb dX7_goWeek_14 ?_
  refine lv_iconst (v := 5) hx hb dX7_goWeek_15 rfl ?_
  refine lv_aload_n hx hb dX7_goWeek_16 rfl (lv_at hl 0 rfl) ?_
  refine x_get hx hb hts hi7 hown hK hW (c1 hE) (e1 _ _ _ _ _ _) rfl 28 (Nat.le_of_ble_eq_true rfl) q4 (fun _ h => h) (v := .ref (B 68 0)) rfl dX7_goWeek_17 ?_
  refine lv_iload_n hx hb dX7_goWeek_20 rfl (lv_at hl 1 rfl) ?_
  refine x_iald hx hb hK hW (c68 hE) (e68 _ _ _ _ _ _) hi_9 (jn := a1.toNatClampNeg) rfl dX7_goWeek_21 ?_
  refine lv_imul hx hb dX7_goWeek_22 ?_
  refine lv_iadd hx hb dX7_goWeek_23 ?_
  obtain ⟨x10, e_x10, hf⟩ := lt_out hf
  refine x_nmI e_x10 ?_
  refine lv_istore_n (lv' := [(3, .int x10), (0, .ref (B 1 0)), (1, .int a1), (2, .int a2)]) hx hb dX7_goWeek_24 rfl hl (by decide) rfl (fun ls hl => ?_)
  refine lv_lconst (v := 0) hx hb dX7_goWeek_25 rfl ?_
  refine lv_lstore (lv' := [(4, .long (0 : Int64)), (3, .int x10), (0, .ref (B 1 0)), (1, .int a1), (2, .int a2)]) hx hb dX7_goWeek_26 hl (by decide) rfl (fun ls hl => ?_)
  refine lv_iconst (v := 0) hx hb dX7_goWeek_28 rfl ?_
  refine lv_istore (lv' := [(6, .int (0 : Int32)), (4, .long (0 : Int64)), (3, .int x10), (0, .ref (B 1 0)), (1, .int a1), (2, .int a2)]) hx hb dX7_goWeek_29 hl (by decide) rfl (fun ls hl => ?_)
  exact w31 E.1 S a1 a2 x10 (0 : Int64) (0 : Int32)  hf _ _ _ hW hS (lv_sub hl [3, 4, 5, 2, 1, 0] rfl)
set_option maxHeartbeats 4000000 in
set_option maxRecDepth 100000 in
theorem m_X7_held (l : Launch) (G : GE) (B : Nat → Nat → Nat) (E : EN) (hE : 0 < E.2.2.2)  (S : ST) (a1 : Int32) (rr : Int32) (hf : f_X7_held E S a1 = some rr) : Met l yX7_held wsX7_held (rmN 1) (va_Pc [.ref (B 1 0), .int a1] (WS G B E S)) (QI G B E S rr) 0 0 (AA G) := by
  refine Met.ofW (cc := cX7_held) (maxL := 2) (ret := (some .int)) (by decide) rfl ?_
  intro p e s m args below meth c s₁ B0 hml hv
  obtain ⟨rfl, hW, hF⟩ := hv
  have hx := B0.exec
  have hb := B0.bytes
  have hr := B0.returns
  have hts := atoms_spec (ws := wsX7_held) B0.pre
  have hown : s.vm.findClass RX7 = some m.cls := findClass_of_methodNamed B0.named
  have hlocks := B0.notSynchronized
  have hK := hF.1
  have hfix : CallFix p m c cX7_held 2 s [.ref (B 1 0), .int a1].toArray wsX7_held RX7 := ⟨hx, hb, hml, hown, hts⟩
  have hS : va_S (AA G) s.heap s.heap [] := va_S.rf
  have hl := lv_entry [.ref (B 1 0), .int a1] (n := 2) (Nat.le_of_ble_eq_true rfl)
  rw [lg_entry_eq]
  generalize (lg_sl [.ref (B 1 0), .int a1] ++ List.replicate (2 - (lg_sl [.ref (B 1 0), .int a1]).length) Slot.unset).toArray = ls at hl ⊢
  have hl : lv_has ls 2 [(0, .ref (B 1 0)), (1, .int a1)] := hl
  unfold f_X7_held at hf
  refine lv_iload_n hx hb dX7_held_0 rfl (lv_at hl 1 rfl) ?_
  refine lv_if_ge (tgt := 8) hx hb dX7_held_1 (by decide) (fun h => ?_) (fun h => ?_)
  · have hf := if_t h hf
    refine lv_iload_n hx hb dX7_held_8 rfl (lv_at hl 1 rfl) ?_
    refine lv_iconst (v := 4) hx hb dX7_held_9 rfl ?_
    refine lv_icmp_le (tgt := 17) hx hb dX7_held_10 (by decide) (fun h => ?_) (fun h => ?_)
    · have hf := if_t h hf
      refine lv_iload_n hx hb dX7_held_17 rfl (lv_at hl 1 rfl) ?_
      exact zr_i hf hx hb hr rfl hF hW hS dX7_held_18 hlocks
    · have hf := if_f h hf
      refine lv_iconst (v := 4) hx hb dX7_held_13 rfl ?_
      refine lv_goto (tgt := 18) hx hb dX7_held_14 (by decide) ?_
      exact zr_i hf hx hb hr rfl hF hW hS dX7_held_18 hlocks
  · have hf := if_f h hf
    refine lv_iconst (v := 0) hx hb dX7_held_4 rfl ?_
    refine lv_goto (tgt := 18) hx hb dX7_held_5 (by decide) ?_
    exact zr_i hf hx hb hr rfl hF hW hS dX7_held_18 hlocks
set_option maxHeartbeats 4000000 in
set_option maxRecDepth 100000 in
theorem m_X7_move (l : Launch) (G : GE) (B : Nat → Nat → Nat) (E : EN) (hE : 0 < E.2.2.2)  (S : ST) (a1 : Int32) (a2 : Int32) (SS : ST) (hf : f_X7_move E S a1 a2 = some SS) : Met l yX7_move wsX7_move (rmN 2) (va_Pc [.ref (B 1 0), .int a1, .int a2] (WS G B E S)) (QV G B E SS) 0 0 (AA G) := by
  refine Met.ofW (cc := cX7_move) (maxL := 3) (ret := none) (by decide) rfl ?_
  intro p e s m args below meth c s₁ B0 hml hv
  obtain ⟨rfl, hW, hF⟩ := hv
  have hx := B0.exec
  have hb := B0.bytes
  have hr := B0.returns
  have hts := atoms_spec (ws := wsX7_move) B0.pre
  have hown : s.vm.findClass RX7 = some m.cls := findClass_of_methodNamed B0.named
  have hlocks := B0.notSynchronized
  have hK := hF.1
  have hfix : CallFix p m c cX7_move 3 s [.ref (B 1 0), .int a1, .int a2].toArray wsX7_move RX7 := ⟨hx, hb, hml, hown, hts⟩
  have hS : va_S (AA G) s.heap s.heap [] := va_S.rf
  have hl := lv_entry [.ref (B 1 0), .int a1, .int a2] (n := 3) (Nat.le_of_ble_eq_true rfl)
  rw [lg_entry_eq]
  generalize (lg_sl [.ref (B 1 0), .int a1, .int a2] ++ List.replicate (3 - (lg_sl [.ref (B 1 0), .int a1, .int a2]).length) Slot.unset).toArray = ls at hl ⊢
  have hl : lv_has ls 3 [(0, .ref (B 1 0)), (1, .int a1), (2, .int a2)] := hl
  have q0 := hts (.fieldLink RX7 117 "MovesUpModel" "movedAt" "[I") (List.mem_of_getElem? (i := 3) rfl)
  have q1 := hts (.fieldLink RX7 120 "MovesUpModel" "changedAt" "[Z") (List.mem_of_getElem? (i := 2) rfl)
  have q2 := hts (.fieldLink RX7 114 "MovesUpModel" "gradeAt" "[I") (List.mem_of_getElem? (i := 1) rfl)
  have hi7 : ∀ w ∈ u_ws RX7 TX7 47, w ∈ wsX7_move := in_seg 9 rfl
  have w79 : ∀ (S : ST) (t0 : Int32) (t1 : Int32) (t2 : Int32) , f_X7_move_b79 E S t0 t1 t2 = some SS → ∀ (H : Heap) (locs : List Loc) (ls : Array Slot), WH G B E S H → va_S (AA G) s.heap H locs → lv_has ls 3 [] → W p l e (headSpec wsX7_move (rmN 2)).room s m [.ref (B 1 0), .int a1, .int a2].toArray below meth c H locs 0 0 (MQ below (QV G B E SS) [.ref (B 1 0), .int a1, .int a2].toArray s 0 0 (AA G)) (F0 m 79 ls [.int t0, .int t1, .int t2, .ref (B 68 0)]) := by
    intro S t0 t1 t2 hf H locs ls hW hS hl
    unfold f_X7_move_b79 at hf
    refine lv_iadd hx hb dX7_move_79 ?_
    obtain ⟨hi_1, hf⟩ := ck_out hf
    have hi_1 := ib_in hi_1
    obtain ⟨S2, e_S2, hf⟩ := lt_out hf
    refine x_iast hx hb hK hW hS (c68 hE) (fun f r => e68 _ _ _ f _ r) hi_1 (jn := t2.toNatClampNeg) rfl e_S2 dX7_move_80 (fun H locs hW hS => ?_)
    exact z_v hf hx hb hr hF hW hS dX7_move_81 hlocks
  have w49 : ∀ (S : ST) (v1 : Int32) (t0 : Int32) (t1 : Int32) , f_X7_move_b49 E S v1 t0 t1 = some SS → ∀ (H : Heap) (locs : List Loc) (ls : Array Slot), WH G B E S H → va_S (AA G) s.heap H locs → lv_has ls 3 [(0, .ref (B 1 0)), (1, .int v1)] → W p l e (headSpec wsX7_move (rmN 2)).room s m [.ref (B 1 0), .int a1, .int a2].toArray below meth c H locs 0 0 (MQ below (QV G B E SS) [.ref (B 1 0), .int a1, .int a2].toArray s 0 0 (AA G)) (F0 m 49 ls [.int t0, .int t1, .ref (B 69 0)]) := by
    intro S v1 t0 t1 hf H locs ls hW hS hl
    unfold f_X7_move_b49 at hf
    obtain ⟨hi_3, hf⟩ := ck_out hf
    have hi_3 := ib_in hi_3
    obtain ⟨S4, e_S4, hf⟩ := lt_out hf
    refine x_zast hx hb hK hW hS (c69 hE) (fun f r => e69 _ _ _ f _ r) hi_3 (jn := t1.toNatClampNeg) rfl e_S4 dX7_move_49 (fun H locs hW hS => ?_)
    refine lv_aload_n hx hb dX7_move_50 rfl (lv_at hl 0 rfl) ?_
    refine x_get hx hb hts hi7 hown hK hW (c1 hE) (e1 _ _ _ _ _ _) rfl 28 (Nat.le_of_ble_eq_true rfl) q0 (fun _ h => h) (v := .ref (B 68 0)) rfl dX7_move_51 ?_
    refine lv_iload_n hx hb dX7_move_54 rfl (lv_at hl 1 rfl) ?_
    refine lv_iconst (v := 1) hx hb dX7_move_55 rfl ?_
    refine lv_iadd hx hb dX7_move_56 ?_
    refine lv_aload_n hx hb dX7_move_57 rfl (lv_at hl 0 rfl) ?_
    refine x_get hx hb hts hi7 hown hK hW (c1 hE) (e1 _ _ _ _ _ _) rfl 28 (Nat.le_of_ble_eq_true rfl) q0 (fun _ h => h) (v := .ref (B 68 0)) rfl dX7_move_58 ?_
    refine lv_iload_n hx hb dX7_move_61 rfl (lv_at hl 1 rfl) ?_
    obtain ⟨hi_5, hf⟩ := ck_out hf
    have hi_5 := ib_in hi_5
    refine x_iald hx hb hK hW (c68 hE) (e68 _ _ _ _ _ _) hi_5 (jn := v1.toNatClampNeg) rfl dX7_move_62 ?_
    refine lv_aload_n hx hb dX7_move_63 rfl (lv_at hl 0 rfl) ?_
    refine x_get hx hb hts hi7 hown hK hW (c1 hE) (e1 _ _ _ _ _ _) rfl 29 (Nat.le_of_ble_eq_true rfl) q1 (fun _ h => h) (v := .ref (B 69 0)) rfl dX7_move_64 ?_
    refine lv_iload_n hx hb dX7_move_67 rfl (lv_at hl 1 rfl) ?_
    refine lv_iconst (v := 1) hx hb dX7_move_68 rfl ?_
    refine lv_iadd hx hb dX7_move_69 ?_
    obtain ⟨hi_6, hf⟩ := ck_out hf
    have hi_6 := ib_in hi_6
    refine x_zald hx hb hK hW (c69 hE) (e69 _ _ _ _ _ _) hi_6 (jn := (v1 + (1 : Int32)).toNatClampNeg) rfl dX7_move_70 ?_
    refine lv_if_eq (tgt := 78) hx hb dX7_move_71 (by decide) (fun h => ?_) (fun h => ?_)
    · have hf := if_t h hf
      refine lv_iconst (v := 0) hx hb dX7_move_78 rfl ?_
      exact w79 S4 (0 : Int32) (gI S4 68 0 v1.toNatClampNeg) (v1 + (1 : Int32))  hf _ _ _ hW hS (lv_sub hl [] rfl)
    · have hf := if_f h hf
      refine lv_iconst (v := 1) hx hb dX7_move_74 rfl ?_
      refine lv_goto (tgt := 79) hx hb dX7_move_75 (by decide) ?_
      exact w79 S4 (1 : Int32) (gI S4 68 0 v1.toNatClampNeg) (v1 + (1 : Int32))  hf _ _ _ hW hS (lv_sub hl [] rfl)
  unfold f_X7_move at hf
  refine lv_aload_n hx hb dX7_move_0 rfl (lv_at hl 0 rfl) ?_
  refine x_get hx hb hts hi7 hown hK hW (c1 hE) (e1 _ _ _ _ _ _) rfl 27 (Nat.le_of_ble_eq_true rfl) q2 (fun _ h => h) (v := .ref (B 67 0)) rfl dX7_move_1 ?_
  refine lv_iload_n hx hb dX7_move_4 rfl (lv_at hl 1 rfl) ?_
  refine lv_iconst (v := 1) hx hb dX7_move_5 rfl ?_
  refine lv_iadd hx hb dX7_move_6 ?_
  refine lv_aload_n hx hb dX7_move_7 rfl (lv_at hl 0 rfl) ?_
  refine lv_aload_n hx hb dX7_move_8 rfl (lv_at hl 0 rfl) ?_
  refine x_get hx hb hts hi7 hown hK hW (c1 hE) (e1 _ _ _ _ _ _) rfl 27 (Nat.le_of_ble_eq_true rfl) q2 (fun _ h => h) (v := .ref (B 67 0)) rfl dX7_move_9 ?_
  refine lv_iload_n hx hb dX7_move_12 rfl (lv_at hl 1 rfl) ?_
  obtain ⟨hi_7, hf⟩ := ck_out hf
  have hi_7 := ib_in hi_7
  refine x_iald hx hb hK hW (c67 hE) (e67 _ _ _ _ _ _) hi_7 (jn := a1.toNatClampNeg) rfl dX7_move_13 ?_
  refine lv_iload_n hx hb dX7_move_14 rfl (lv_at hl 2 rfl) ?_
  refine lv_iadd hx hb dX7_move_15 ?_
  obtain ⟨r8, hc, hf⟩ := bd_out hf
  refine y_i (va_runV (As := [.int ((gI S 67 0 a1.toNatClampNeg) + a2)]) (rest := [.int (a1 + (1 : Int32)), .ref (B 67 0)]) hfix (m_X7_held l G B E hE S ((gI S 67 0 a1.toNatClampNeg) + a2) r8 hc) (cwV 1 hts gX7_move_X7_held rfl rfl rfl ⟨rfl, hd_X7_held⟩ ⟨Nat.le_of_ble_eq_true rfl, Nat.le_of_ble_eq_true rfl⟩) (y_pv hF hW hS (c1 hE) (e1 _ _ _ _ _ _) rfl) rfl rfl hl.1 rfl (lv_room (Nat.le_of_ble_eq_true rfl)) dX7_move_16 ⟨Nat.le_of_ble_eq_true rfl, Nat.le_of_ble_eq_true rfl⟩) hS (fun H locs hW hS => ?_)
  obtain ⟨hi_9, hf⟩ := ck_out hf
  have hi_9 := ib_in hi_9
  obtain ⟨S10, e_S10, hf⟩ := lt_out hf
  refine x_iast hx hb hK hW hS (c67 hE) (fun f r => e67 _ _ _ f _ r) hi_9 (jn := (a1 + (1 : Int32)).toNatClampNeg) rfl e_S10 dX7_move_19 (fun H locs hW hS => ?_)
  refine lv_aload_n hx hb dX7_move_20 rfl (lv_at hl 0 rfl) ?_
  refine x_get hx hb hts hi7 hown hK hW (c1 hE) (e1 _ _ _ _ _ _) rfl 29 (Nat.le_of_ble_eq_true rfl) q1 (fun _ h => h) (v := .ref (B 69 0)) rfl dX7_move_21 ?_
  refine lv_iload_n hx hb dX7_move_24 rfl (lv_at hl 1 rfl) ?_
  refine lv_iconst (v := 1) hx hb dX7_move_25 rfl ?_
  refine lv_iadd hx hb dX7_move_26 ?_
  refine lv_aload_n hx hb dX7_move_27 rfl (lv_at hl 0 rfl) ?_
  refine x_get hx hb hts hi7 hown hK hW (c1 hE) (e1 _ _ _ _ _ _) rfl 27 (Nat.le_of_ble_eq_true rfl) q2 (fun _ h => h) (v := .ref (B 67 0)) rfl dX7_move_28 ?_
  refine lv_iload_n hx hb dX7_move_31 rfl (lv_at hl 1 rfl) ?_
  refine lv_iconst (v := 1) hx hb dX7_move_32 rfl ?_
  refine lv_iadd hx hb dX7_move_33 ?_
  refine x_iald hx hb hK hW (c67 hE) (e67 _ _ _ _ _ _) hi_9 (jn := (a1 + (1 : Int32)).toNatClampNeg) rfl dX7_move_34 ?_
  refine lv_aload_n hx hb dX7_move_35 rfl (lv_at hl 0 rfl) ?_
  refine x_get hx hb hts hi7 hown hK hW (c1 hE) (e1 _ _ _ _ _ _) rfl 27 (Nat.le_of_ble_eq_true rfl) q2 (fun _ h => h) (v := .ref (B 67 0)) rfl dX7_move_36 ?_
  refine lv_iload_n hx hb dX7_move_39 rfl (lv_at hl 1 rfl) ?_
  refine x_iald hx hb hK hW (c67 hE) (e67 _ _ _ _ _ _) hi_7 (jn := a1.toNatClampNeg) rfl dX7_move_40 ?_
  refine lv_icmp_eq (tgt := 48) hx hb dX7_move_41 (by decide) (fun h => ?_) (fun h => ?_)
  · have hf := if_t h hf
    refine lv_iconst (v := 0) hx hb dX7_move_48 rfl ?_
    exact w49 S10 a1 (0 : Int32) (a1 + (1 : Int32))  hf _ _ _ hW hS (lv_sub hl [0, 1] rfl)
  · have hf := if_f h hf
    refine lv_iconst (v := 1) hx hb dX7_move_44 rfl ?_
    refine lv_goto (tgt := 49) hx hb dX7_move_45 (by decide) ?_
    exact w49 S10 a1 (1 : Int32) (a1 + (1 : Int32))  hf _ _ _ hW hS (lv_sub hl [0, 1] rfl)
set_option maxHeartbeats 4000000 in
set_option maxRecDepth 100000 in
theorem m_X7_sumRow (l : Launch) (G : GE) (B : Nat → Nat → Nat) (E : EN) (hE : 0 < E.2.2.2)  (S : ST) (a1 : Int32) (rr : Int64) (hf : f_X7_sumRow E S a1 = some rr) : Met l yX7_sumRow wsX7_sumRow (rmN 1) (va_Pc [.ref (B 1 0), .int a1] (WS G B E S)) (QL G B E S rr) 0 0 (AA G) := by
  refine Met.ofW (cc := cX7_sumRow) (maxL := 5) (ret := (some .long)) (by decide) rfl ?_
  intro p e s m args below meth c s₁ B0 hml hv
  obtain ⟨rfl, hW, hF⟩ := hv
  have hx := B0.exec
  have hb := B0.bytes
  have hr := B0.returns
  have hts := atoms_spec (ws := wsX7_sumRow) B0.pre
  have hown : s.vm.findClass RX7 = some m.cls := findClass_of_methodNamed B0.named
  have hlocks := B0.notSynchronized
  have hK := hF.1
  have hfix : CallFix p m c cX7_sumRow 5 s [.ref (B 1 0), .int a1].toArray wsX7_sumRow RX7 := ⟨hx, hb, hml, hown, hts⟩
  have hS : va_S (AA G) s.heap s.heap [] := va_S.rf
  have hl := lv_entry [.ref (B 1 0), .int a1] (n := 5) (Nat.le_of_ble_eq_true rfl)
  rw [lg_entry_eq]
  generalize (lg_sl [.ref (B 1 0), .int a1] ++ List.replicate (5 - (lg_sl [.ref (B 1 0), .int a1]).length) Slot.unset).toArray = ls at hl ⊢
  have hl : lv_has ls 5 [(0, .ref (B 1 0)), (1, .int a1)] := hl
  have q0 := hts (.fieldLink RX7 110 "MovesUpModel" "row" "[J") (List.mem_of_getElem? (i := 1) rfl)
  have hi7 : ∀ w ∈ u_ws RX7 TX7 47, w ∈ wsX7_sumRow := in_seg 2 rfl
  have w5 : ∀ (n5 : Nat) (_ : Unit) (v1 : Int32) (v2 : Int64) (v4 : Int32) , f_X7_sumRow_b5 E n5 S v1 v2 v4 = some rr → ∀ (H : Heap) (locs : List Loc) (ls : Array Slot), WH G B E S H → va_S (AA G) s.heap H locs → lv_has ls 5 [(0, .ref (B 1 0)), (1, .int v1), (2, .long v2), (4, .int v4)] → W p l e (headSpec wsX7_sumRow (rmN 1)).room s m [.ref (B 1 0), .int a1].toArray below meth c H locs 0 0 (MQ below (QL G B E S rr) [.ref (B 1 0), .int a1].toArray s 0 0 (AA G)) (F0 m 5 ls []) := by
    intro n5
    induction n5 with
    | zero =>
      intro _ v1 v2 v4 hf
      exact absurd (show (none : Option Int64) = some rr from hf) (fun h => by cases h)
    | succ n5 ih5 =>
      intro _ v1 v2 v4 hf H locs ls hW hS hl
      have hf : g_X7_sumRow_b5 E (f_X7_sumRow_b5 E n5) S v1 v2 v4 = some rr := hf
      unfold g_X7_sumRow_b5 at hf
      refine lv_iload hx hb dX7_sumRow_5 (lv_at hl 3 rfl) ?_
      refine lv_iconst (v := 5) hx hb dX7_sumRow_7 rfl ?_
      refine lv_icmp_ge (tgt := 31) hx hb dX7_sumRow_8 (by decide) (fun h => ?_) (fun h => ?_)
      · have hf := if_t h hf
        refine lv_lload_n hx hb dX7_sumRow_31 rfl (lv_at hl 2 rfl) ?_
        exact zr_l hf hx hb hr hF hW hS dX7_sumRow_32 hlocks
      · have hf := if_f h hf
        refine lv_lload_n hx hb dX7_sumRow_11 rfl (lv_at hl 2 rfl) ?_
        refine lv_aload_n hx hb dX7_sumRow_12 rfl (lv_at hl 0 rfl) ?_
        refine x_get hx hb hts hi7 hown hK hW (c1 hE) (e1 _ _ _ _ _ _) rfl 26 (Nat.le_of_ble_eq_true rfl) q0 (fun _ h => h) (v := .ref (B 66 0)) rfl dX7_sumRow_13 ?_
        refine lv_iconst (v := 5) hx hb dX7_sumRow_16 rfl ?_
        refine lv_iload_n hx hb dX7_sumRow_17 rfl (lv_at hl 1 rfl) ?_
        refine lv_imul hx hb dX7_sumRow_18 ?_
        refine lv_iload hx hb dX7_sumRow_19 (lv_at hl 3 rfl) ?_
        refine lv_iadd hx hb dX7_sumRow_21 ?_
        obtain ⟨hi_1, hf⟩ := ck_out hf
        have hi_1 := ib_in hi_1
        refine x_lald hx hb hK hW (c66 hE) (e66 _ _ _ _ _ _) hi_1 (jn := (((5 : Int32) * v1) + v4).toNatClampNeg) rfl dX7_sumRow_22 ?_
        refine lv_ladd hx hb dX7_sumRow_23 ?_
        obtain ⟨x2, e_x2, hf⟩ := lt_out hf
        refine x_nmL e_x2 ?_
        refine lv_lstore_n (lv' := [(2, .long x2), (0, .ref (B 1 0)), (1, .int v1), (4, .int v4)]) hx hb dX7_sumRow_24 rfl hl (by decide) rfl (fun ls hl => ?_)
        obtain ⟨x3, e_x3, hf⟩ := lt_out hf
        refine lv_iinc (v := x3) (lv' := [(4, .int x3), (2, .long x2), (0, .ref (B 1 0)), (1, .int v1)]) hx hb dX7_sumRow_25 hl (k := 3) rfl (by rw [e_x3]; rfl) (by decide) rfl (fun ls hl => ?_)
        refine lv_goto (tgt := 5) hx hb dX7_sumRow_28 (by decide) ?_
        exact ih5 () v1 x2 x3  hf _ _ _ hW hS (lv_sub hl [2, 3, 1, 0] rfl)
  unfold f_X7_sumRow at hf
  refine lv_lconst (v := 0) hx hb dX7_sumRow_0 rfl ?_
  refine lv_lstore_n (lv' := [(2, .long (0 : Int64)), (0, .ref (B 1 0)), (1, .int a1)]) hx hb dX7_sumRow_1 rfl hl (by decide) rfl (fun ls hl => ?_)
  refine lv_iconst (v := 0) hx hb dX7_sumRow_2 rfl ?_
  refine lv_istore (lv' := [(4, .int (0 : Int32)), (2, .long (0 : Int64)), (0, .ref (B 1 0)), (1, .int a1)]) hx hb dX7_sumRow_3 hl (by decide) rfl (fun ls hl => ?_)
  exact w5 E.1 () a1 (0 : Int64) (0 : Int32)  hf _ _ _ hW hS (lv_sub hl [2, 3, 1, 0] rfl)
set_option maxHeartbeats 4000000 in
set_option maxRecDepth 100000 in
theorem m_X7_sumFrom (l : Launch) (G : GE) (B : Nat → Nat → Nat) (E : EN) (hE : 0 < E.2.2.2)  (S : ST) (a1 : Int32) (a2 : Int32) (rr : Int64) (hf : f_X7_sumFrom E S a1 a2 = some rr) : Met l yX7_sumFrom wsX7_sumFrom (rmN 1) (va_Pc [.ref (B 1 0), .int a1, .int a2] (WS G B E S)) (QL G B E S rr) 0 0 (AA G) := by
  refine Met.ofW (cc := cX7_sumFrom) (maxL := 6) (ret := (some .long)) (by decide) rfl ?_
  intro p e s m args below meth c s₁ B0 hml hv
  obtain ⟨rfl, hW, hF⟩ := hv
  have hx := B0.exec
  have hb := B0.bytes
  have hr := B0.returns
  have hts := atoms_spec (ws := wsX7_sumFrom) B0.pre
  have hown : s.vm.findClass RX7 = some m.cls := findClass_of_methodNamed B0.named
  have hlocks := B0.notSynchronized
  have hK := hF.1
  have hfix : CallFix p m c cX7_sumFrom 6 s [.ref (B 1 0), .int a1, .int a2].toArray wsX7_sumFrom RX7 := ⟨hx, hb, hml, hown, hts⟩
  have hS : va_S (AA G) s.heap s.heap [] := va_S.rf
  have hl := lv_entry [.ref (B 1 0), .int a1, .int a2] (n := 6) (Nat.le_of_ble_eq_true rfl)
  rw [lg_entry_eq]
  generalize (lg_sl [.ref (B 1 0), .int a1, .int a2] ++ List.replicate (6 - (lg_sl [.ref (B 1 0), .int a1, .int a2]).length) Slot.unset).toArray = ls at hl ⊢
  have hl : lv_has ls 6 [(0, .ref (B 1 0)), (1, .int a1), (2, .int a2)] := hl
  have q0 := hts (.fieldLink RX7 110 "MovesUpModel" "row" "[J") (List.mem_of_getElem? (i := 1) rfl)
  have hi7 : ∀ w ∈ u_ws RX7 TX7 47, w ∈ wsX7_sumFrom := in_seg 2 rfl
  have w5 : ∀ (n5 : Nat) (_ : Unit) (v1 : Int32) (v3 : Int64) (v5 : Int32) , f_X7_sumFrom_b5 E n5 S v1 v3 v5 = some rr → ∀ (H : Heap) (locs : List Loc) (ls : Array Slot), WH G B E S H → va_S (AA G) s.heap H locs → lv_has ls 6 [(0, .ref (B 1 0)), (1, .int v1), (3, .long v3), (5, .int v5)] → W p l e (headSpec wsX7_sumFrom (rmN 1)).room s m [.ref (B 1 0), .int a1, .int a2].toArray below meth c H locs 0 0 (MQ below (QL G B E S rr) [.ref (B 1 0), .int a1, .int a2].toArray s 0 0 (AA G)) (F0 m 5 ls []) := by
    intro n5
    induction n5 with
    | zero =>
      intro _ v1 v3 v5 hf
      exact absurd (show (none : Option Int64) = some rr from hf) (fun h => by cases h)
    | succ n5 ih5 =>
      intro _ v1 v3 v5 hf H locs ls hW hS hl
      have hf : g_X7_sumFrom_b5 E (f_X7_sumFrom_b5 E n5) S v1 v3 v5 = some rr := hf
      unfold g_X7_sumFrom_b5 at hf
      refine lv_iload hx hb dX7_sumFrom_5 (lv_at hl 3 rfl) ?_
      refine lv_iconst (v := 5) hx hb dX7_sumFrom_7 rfl ?_
      refine lv_icmp_ge (tgt := 31) hx hb dX7_sumFrom_8 (by decide) (fun h => ?_) (fun h => ?_)
      · have hf := if_t h hf
        refine lv_lload_n hx hb dX7_sumFrom_31 rfl (lv_at hl 2 rfl) ?_
        exact zr_l hf hx hb hr hF hW hS dX7_sumFrom_32 hlocks
      · have hf := if_f h hf
        refine lv_lload_n hx hb dX7_sumFrom_11 rfl (lv_at hl 2 rfl) ?_
        refine lv_aload_n hx hb dX7_sumFrom_12 rfl (lv_at hl 0 rfl) ?_
        refine x_get hx hb hts hi7 hown hK hW (c1 hE) (e1 _ _ _ _ _ _) rfl 26 (Nat.le_of_ble_eq_true rfl) q0 (fun _ h => h) (v := .ref (B 66 0)) rfl dX7_sumFrom_13 ?_
        refine lv_iconst (v := 5) hx hb dX7_sumFrom_16 rfl ?_
        refine lv_iload_n hx hb dX7_sumFrom_17 rfl (lv_at hl 1 rfl) ?_
        refine lv_imul hx hb dX7_sumFrom_18 ?_
        refine lv_iload hx hb dX7_sumFrom_19 (lv_at hl 3 rfl) ?_
        refine lv_iadd hx hb dX7_sumFrom_21 ?_
        obtain ⟨hi_1, hf⟩ := ck_out hf
        have hi_1 := ib_in hi_1
        refine x_lald hx hb hK hW (c66 hE) (e66 _ _ _ _ _ _) hi_1 (jn := (((5 : Int32) * v1) + v5).toNatClampNeg) rfl dX7_sumFrom_22 ?_
        refine lv_ladd hx hb dX7_sumFrom_23 ?_
        obtain ⟨x2, e_x2, hf⟩ := lt_out hf
        refine x_nmL e_x2 ?_
        refine lv_lstore_n (lv' := [(3, .long x2), (0, .ref (B 1 0)), (1, .int v1), (5, .int v5)]) hx hb dX7_sumFrom_24 rfl hl (by decide) rfl (fun ls hl => ?_)
        obtain ⟨x3, e_x3, hf⟩ := lt_out hf
        refine lv_iinc (v := x3) (lv' := [(5, .int x3), (3, .long x2), (0, .ref (B 1 0)), (1, .int v1)]) hx hb dX7_sumFrom_25 hl (k := 3) rfl (by rw [e_x3]; rfl) (by decide) rfl (fun ls hl => ?_)
        refine lv_goto (tgt := 5) hx hb dX7_sumFrom_28 (by decide) ?_
        exact ih5 () v1 x2 x3  hf _ _ _ hW hS (lv_sub hl [2, 3, 1, 0] rfl)
  unfold f_X7_sumFrom at hf
  refine lv_lconst (v := 0) hx hb dX7_sumFrom_0 rfl ?_
  refine lv_lstore_n (lv' := [(3, .long (0 : Int64)), (0, .ref (B 1 0)), (1, .int a1), (2, .int a2)]) hx hb dX7_sumFrom_1 rfl hl (by decide) rfl (fun ls hl => ?_)
  refine lv_iload_n hx hb dX7_sumFrom_2 rfl (lv_at hl 3 rfl) ?_
  refine lv_istore (lv' := [(5, .int a2), (3, .long (0 : Int64)), (0, .ref (B 1 0)), (1, .int a1), (2, .int a2)]) hx hb dX7_sumFrom_3 hl (by decide) rfl (fun ls hl => ?_)
  exact w5 E.1 () a1 (0 : Int64) a2  hf _ _ _ hW hS (lv_sub hl [2, 3, 1, 0] rfl)
set_option maxHeartbeats 4000000 in
set_option maxRecDepth 100000 in
theorem m_X7_moveOf (l : Launch) (G : GE) (B : Nat → Nat → Nat) (E : EN) (hE : 0 < E.2.2.2)  (S : ST) (a1 : Int32) (a2 : Int32) (a3 : Int32) (a4 : Int32) (rr : Int32) (hf : f_X7_moveOf E S a1 a2 a3 a4 = some rr) : Met l yX7_moveOf wsX7_moveOf (rmN 2) (va_Pc [.ref (B 1 0), .int a1, .int a2, .int a3, .int a4] (WS G B E S)) (QI G B E S rr) 0 0 (AA G) := by
  refine Met.ofW (cc := cX7_moveOf) (maxL := 11) (ret := (some .int)) (by decide) rfl ?_
  intro p e s m args below meth c s₁ B0 hml hv
  obtain ⟨rfl, hW, hF⟩ := hv
  have hx := B0.exec
  have hb := B0.bytes
  have hr := B0.returns
  have hts := atoms_spec (ws := wsX7_moveOf) B0.pre
  have hown : s.vm.findClass RX7 = some m.cls := findClass_of_methodNamed B0.named
  have hlocks := B0.notSynchronized
  have hK := hF.1
  have hfix : CallFix p m c cX7_moveOf 11 s [.ref (B 1 0), .int a1, .int a2, .int a3, .int a4].toArray wsX7_moveOf RX7 := ⟨hx, hb, hml, hown, hts⟩
  have hS : va_S (AA G) s.heap s.heap [] := va_S.rf
  have hl := lv_entry [.ref (B 1 0), .int a1, .int a2, .int a3, .int a4] (n := 11) (Nat.le_of_ble_eq_true rfl)
  rw [lg_entry_eq]
  generalize (lg_sl [.ref (B 1 0), .int a1, .int a2, .int a3, .int a4] ++ List.replicate (11 - (lg_sl [.ref (B 1 0), .int a1, .int a2, .int a3, .int a4]).length) Slot.unset).toArray = ls at hl ⊢
  have hl : lv_has ls 11 [(0, .ref (B 1 0)), (1, .int a1), (2, .int a2), (3, .int a3), (4, .int a4)] := hl
  have q0 := hts (.fieldLink RX7 120 "MovesUpModel" "changedAt" "[Z") (List.mem_of_getElem? (i := 1) rfl)
  have q1 := hts (.fieldLink RX7 114 "MovesUpModel" "gradeAt" "[I") (List.mem_of_getElem? (i := 2) rfl)
  have q2 := hts (.constantLong RX7 266 (10)) (List.mem_of_getElem? (i := 3) rfl)
  have q3 := hts (.constantLong RX7 268 (20)) (List.mem_of_getElem? (i := 4) rfl)
  have hi7 : ∀ w ∈ u_ws RX7 TX7 47, w ∈ wsX7_moveOf := in_seg 15 rfl
  have w135 : ∀ (_ : Unit) (v3 : Int32) (v5 : Int32) (v6 : Int32) , f_X7_moveOf_b135 E S v3 v5 v6 = some rr → ∀ (H : Heap) (locs : List Loc) (ls : Array Slot), WH G B E S H → va_S (AA G) s.heap H locs → lv_has ls 11 [(3, .int v3), (5, .int v5), (6, .int v6)] → W p l e (headSpec wsX7_moveOf (rmN 2)).room s m [.ref (B 1 0), .int a1, .int a2, .int a3, .int a4].toArray below meth c H locs 0 0 (MQ below (QI G B E S rr) [.ref (B 1 0), .int a1, .int a2, .int a3, .int a4].toArray s 0 0 (AA G)) (F0 m 135 ls []) := by
    intro _ v3 v5 v6 hf H locs ls hW hS hl
    unfold f_X7_moveOf_b135 at hf
    refine lv_iload hx hb dX7_moveOf_135 (lv_at hl 1 rfl) ?_
    refine lv_if_ne (tgt := 153) hx hb dX7_moveOf_137 (by decide) (fun h => ?_) (fun h => ?_)
    · have hf := if_f h hf
      refine lv_iconst (v := 0) hx hb dX7_moveOf_153 rfl ?_
      exact zr_i hf hx hb hr rfl hF hW hS dX7_moveOf_154 hlocks
    · have hf := if_t h hf
      refine lv_iload hx hb dX7_moveOf_140 (lv_at hl 2 rfl) ?_
      refine lv_if_ne (tgt := 153) hx hb dX7_moveOf_142 (by decide) (fun h => ?_) (fun h => ?_)
      · have hf := if_f h hf
        refine lv_iconst (v := 0) hx hb dX7_moveOf_153 rfl ?_
        exact zr_i hf hx hb hr rfl hF hW hS dX7_moveOf_154 hlocks
      · have hf := if_t h hf
        refine lv_iload_n hx hb dX7_moveOf_145 rfl (lv_at hl 0 rfl) ?_
        refine lv_if_le (tgt := 153) hx hb dX7_moveOf_146 (by decide) (fun h => ?_) (fun h => ?_)
        · have hf := if_t h hf
          refine lv_iconst (v := 0) hx hb dX7_moveOf_153 rfl ?_
          exact zr_i hf hx hb hr rfl hF hW hS dX7_moveOf_154 hlocks
        · have hf := if_f h hf
          refine lv_iconst (v := -1) hx hb dX7_moveOf_149 rfl ?_
          refine lv_goto (tgt := 154) hx hb dX7_moveOf_150 (by decide) ?_
          exact zr_i hf hx hb hr rfl hF hW hS dX7_moveOf_154 hlocks
  have w38 : ∀ (_ : Unit) (v1 : Int32) (v2 : Int32) (v3 : Int32) (v5 : Int32) (t0 : Int32) , f_X7_moveOf_b38 E S v1 v2 v3 v5 t0 = some rr → ∀ (H : Heap) (locs : List Loc) (ls : Array Slot), WH G B E S H → va_S (AA G) s.heap H locs → lv_has ls 11 [(0, .ref (B 1 0)), (1, .int v1), (2, .int v2), (3, .int v3), (5, .int v5)] → W p l e (headSpec wsX7_moveOf (rmN 2)).room s m [.ref (B 1 0), .int a1, .int a2, .int a3, .int a4].toArray below meth c H locs 0 0 (MQ below (QI G B E S rr) [.ref (B 1 0), .int a1, .int a2, .int a3, .int a4].toArray s 0 0 (AA G)) (F0 m 38 ls [.int t0]) := by
    intro _ v1 v2 v3 v5 t0 hf H locs ls hW hS hl
    unfold f_X7_moveOf_b38 at hf
    refine lv_istore (lv' := [(6, .int t0), (0, .ref (B 1 0)), (1, .int v1), (2, .int v2), (3, .int v3), (5, .int v5)]) hx hb dX7_moveOf_38 hl (by decide) rfl (fun ls hl => ?_)
    refine lv_iload_n hx hb dX7_moveOf_40 rfl (lv_at hl 2 rfl) ?_
    by_cases hn0 : v1 = (0 : Int32)
    · have hf := if_t hn0 hf
      refine lv_tableIn hx hb dX7_moveOf_41 (by rw [hn0]; decide) (by rw [hn0]; decide) (off := 35) (by rw [hn0]; rfl) (tgt := 76) (by decide) ?_
      refine lv_iload hx hb dX7_moveOf_76 (lv_at hl 5 rfl) ?_
      refine lv_if_eq (tgt := 85) hx hb dX7_moveOf_78 (by decide) (fun h => ?_) (fun h => ?_)
      · have hf := if_t h hf
        refine lv_iconst (v := 0) hx hb dX7_moveOf_85 rfl ?_
        exact zr_i hf hx hb hr rfl hF hW hS dX7_moveOf_86 hlocks
      · have hf := if_f h hf
        refine lv_iconst (v := 1) hx hb dX7_moveOf_81 rfl ?_
        refine lv_goto (tgt := 86) hx hb dX7_moveOf_82 (by decide) ?_
        exact zr_i hf hx hb hr rfl hF hW hS dX7_moveOf_86 hlocks
    · have hf := if_f hn0 hf
      by_cases hn1 : v1 = (1 : Int32)
      · have hf := if_t hn1 hf
        refine lv_tableIn hx hb dX7_moveOf_41 (by rw [hn1]; decide) (by rw [hn1]; decide) (off := 46) (by rw [hn1]; rfl) (tgt := 87) (by decide) ?_
        refine lv_iload hx hb dX7_moveOf_87 (lv_at hl 5 rfl) ?_
        refine lv_if_eq (tgt := 110) hx hb dX7_moveOf_89 (by decide) (fun h => ?_) (fun h => ?_)
        · have hf := if_t h hf
          refine lv_iconst (v := 0) hx hb dX7_moveOf_110 rfl ?_
          exact zr_i hf hx hb hr rfl hF hW hS dX7_moveOf_111 hlocks
        · have hf := if_f h hf
          refine lv_iload hx hb dX7_moveOf_92 (lv_at hl 0 rfl) ?_
          refine lv_if_eq (tgt := 110) hx hb dX7_moveOf_94 (by decide) (fun h => ?_) (fun h => ?_)
          · have hf := if_t h hf
            refine lv_iconst (v := 0) hx hb dX7_moveOf_110 rfl ?_
            exact zr_i hf hx hb hr rfl hF hW hS dX7_moveOf_111 hlocks
          · have hf := if_f h hf
            refine lv_aload_n hx hb dX7_moveOf_97 rfl (lv_at hl 1 rfl) ?_
            refine x_get hx hb hts hi7 hown hK hW (c1 hE) (e1 _ _ _ _ _ _) rfl 29 (Nat.le_of_ble_eq_true rfl) q0 (fun _ h => h) (v := .ref (B 69 0)) rfl dX7_moveOf_98 ?_
            refine lv_iload_n hx hb dX7_moveOf_101 rfl (lv_at hl 4 rfl) ?_
            obtain ⟨hi_1, hf⟩ := ck_out hf
            have hi_1 := ib_in hi_1
            refine x_zald hx hb hK hW (c69 hE) (e69 _ _ _ _ _ _) hi_1 (jn := v3.toNatClampNeg) rfl dX7_moveOf_102 ?_
            refine lv_if_ne (tgt := 110) hx hb dX7_moveOf_103 (by decide) (fun h => ?_) (fun h => ?_)
            · have hf := if_f h hf
              refine lv_iconst (v := 0) hx hb dX7_moveOf_110 rfl ?_
              exact zr_i hf hx hb hr rfl hF hW hS dX7_moveOf_111 hlocks
            · have hf := if_t h hf
              refine lv_iconst (v := 1) hx hb dX7_moveOf_106 rfl ?_
              refine lv_goto (tgt := 111) hx hb dX7_moveOf_107 (by decide) ?_
              exact zr_i hf hx hb hr rfl hF hW hS dX7_moveOf_111 hlocks
      · have hf := if_f hn1 hf
        by_cases hn2 : v1 = (2 : Int32)
        · have hf := if_t hn2 hf
          refine lv_tableIn hx hb dX7_moveOf_41 (by rw [hn2]; decide) (by rw [hn2]; decide) (off := 114) (by rw [hn2]; rfl) (tgt := 155) (by decide) ?_
          refine lv_iload_n hx hb dX7_moveOf_155 rfl (lv_at hl 3 rfl) ?_
          refine lv_if_le (tgt := 171) hx hb dX7_moveOf_156 (by decide) (fun h => ?_) (fun h => ?_)
          · have hf := if_t h hf
            refine lv_iconst (v := 0) hx hb dX7_moveOf_171 rfl ?_
            exact zr_i hf hx hb hr rfl hF hW hS dX7_moveOf_172 hlocks
          · have hf := if_f h hf
            refine lv_iload_n hx hb dX7_moveOf_159 rfl (lv_at hl 4 rfl) ?_
            refine lv_iconst (v := 1) hx hb dX7_moveOf_160 rfl ?_
            refine lv_iadd hx hb dX7_moveOf_161 ?_
            refine lv_iload_n hx hb dX7_moveOf_162 rfl (lv_at hl 3 rfl) ?_
            obtain ⟨hz2, hf⟩ := ck_out hf
            have hz2 := nz_ hz2
            refine x_irem hx hb dX7_moveOf_163 hz2 ?_
            refine lv_if_ne (tgt := 171) hx hb dX7_moveOf_164 (by decide) (fun h => ?_) (fun h => ?_)
            · have hf := if_f h hf
              refine lv_iconst (v := 0) hx hb dX7_moveOf_171 rfl ?_
              exact zr_i hf hx hb hr rfl hF hW hS dX7_moveOf_172 hlocks
            · have hf := if_t h hf
              refine lv_iconst (v := 1) hx hb dX7_moveOf_167 rfl ?_
              refine lv_goto (tgt := 172) hx hb dX7_moveOf_168 (by decide) ?_
              exact zr_i hf hx hb hr rfl hF hW hS dX7_moveOf_172 hlocks
        · have hf := if_f hn2 hf
          by_cases hn4 : v1 = (4 : Int32)
          · have hf := if_t hn4 hf
            refine lv_tableIn hx hb dX7_moveOf_41 (by rw [hn4]; decide) (by rw [hn4]; decide) (off := 71) (by rw [hn4]; rfl) (tgt := 112) (by decide) ?_
            refine lv_iload hx hb dX7_moveOf_112 (lv_at hl 5 rfl) ?_
            refine lv_if_eq (tgt := 135) hx hb dX7_moveOf_114 (by decide) (fun h => ?_) (fun h => ?_)
            · have hf := if_t h hf
              exact w135 () v3 v5 t0  hf _ _ _ hW hS (lv_sub hl [4, 5, 0] rfl)
            · have hf := if_f h hf
              refine lv_iload hx hb dX7_moveOf_117 (lv_at hl 0 rfl) ?_
              refine lv_if_eq (tgt := 135) hx hb dX7_moveOf_119 (by decide) (fun h => ?_) (fun h => ?_)
              · have hf := if_t h hf
                exact w135 () v3 v5 t0  hf _ _ _ hW hS (lv_sub hl [4, 5, 0] rfl)
              · have hf := if_f h hf
                refine lv_aload_n hx hb dX7_moveOf_122 rfl (lv_at hl 1 rfl) ?_
                refine x_get hx hb hts hi7 hown hK hW (c1 hE) (e1 _ _ _ _ _ _) rfl 29 (Nat.le_of_ble_eq_true rfl) q0 (fun _ h => h) (v := .ref (B 69 0)) rfl dX7_moveOf_123 ?_
                refine lv_iload_n hx hb dX7_moveOf_126 rfl (lv_at hl 4 rfl) ?_
                obtain ⟨hi_3, hf⟩ := ck_out hf
                have hi_3 := ib_in hi_3
                refine x_zald hx hb hK hW (c69 hE) (e69 _ _ _ _ _ _) hi_3 (jn := v3.toNatClampNeg) rfl dX7_moveOf_127 ?_
                refine lv_if_ne (tgt := 135) hx hb dX7_moveOf_128 (by decide) (fun h => ?_) (fun h => ?_)
                · have hf := if_f h hf
                  exact w135 () v3 v5 t0  hf _ _ _ hW hS (lv_sub hl [4, 5, 0] rfl)
                · have hf := if_t h hf
                  refine lv_iconst (v := 1) hx hb dX7_moveOf_131 rfl ?_
                  refine lv_goto (tgt := 154) hx hb dX7_moveOf_132 (by decide) ?_
                  exact zr_i hf hx hb hr rfl hF hW hS dX7_moveOf_154 hlocks
          · have hf := if_f hn4 hf
            by_cases hd3 : v1 = (3 : Int32)
            · refine lv_tableIn hx hb dX7_moveOf_41 (by rw [hd3]; decide) (by rw [hd3]; decide) (off := 132) (by rw [hd3]; rfl) (tgt := 173) (by decide) ?_
              refine lv_aload_n hx hb dX7_moveOf_173 rfl (lv_at hl 1 rfl) ?_
              refine lv_iload_n hx hb dX7_moveOf_174 rfl (lv_at hl 4 rfl) ?_
              refine lv_iconst (v := 1) hx hb dX7_moveOf_175 rfl ?_
              refine lv_iadd hx hb dX7_moveOf_176 ?_
              obtain ⟨r4, hc, hf⟩ := bd_out hf
              refine y_l (va_runV (As := [.int (v3 + (1 : Int32))]) (rest := []) hfix (m_X7_sumRow l G B E hE S (v3 + (1 : Int32)) r4 hc) (cwV 1 hts gX7_moveOf_X7_sumRow rfl rfl rfl ⟨rfl, hd_X7_sumRow⟩ ⟨Nat.le_of_ble_eq_true rfl, Nat.le_of_ble_eq_true rfl⟩) (y_pv hF hW hS (c1 hE) (e1 _ _ _ _ _ _) rfl) rfl rfl hl.1 rfl (lv_room (Nat.le_of_ble_eq_true rfl)) dX7_moveOf_177 ⟨Nat.le_of_ble_eq_true rfl, Nat.le_of_ble_eq_true rfl⟩) hS (fun H locs hW hS => ?_)
              refine lv_lstore (lv' := [(7, .long r4), (6, .int t0), (0, .ref (B 1 0)), (1, .int v1), (2, .int v2), (3, .int v3), (5, .int v5)]) hx hb dX7_moveOf_180 hl (by decide) rfl (fun ls hl => ?_)
              refine lv_aload_n hx hb dX7_moveOf_182 rfl (lv_at hl 2 rfl) ?_
              refine lv_iload_n hx hb dX7_moveOf_183 rfl (lv_at hl 5 rfl) ?_
              refine lv_iconst (v := 1) hx hb dX7_moveOf_184 rfl ?_
              refine lv_iadd hx hb dX7_moveOf_185 ?_
              refine lv_aload_n hx hb dX7_moveOf_186 rfl (lv_at hl 2 rfl) ?_
              refine x_get hx hb hts hi7 hown hK hW (c1 hE) (e1 _ _ _ _ _ _) rfl 27 (Nat.le_of_ble_eq_true rfl) q1 (fun _ h => h) (v := .ref (B 67 0)) rfl dX7_moveOf_187 ?_
              refine lv_iload_n hx hb dX7_moveOf_190 rfl (lv_at hl 5 rfl) ?_
              obtain ⟨hi_5, hf⟩ := ck_out hf
              have hi_5 := ib_in hi_5
              refine x_iald hx hb hK hW (c67 hE) (e67 _ _ _ _ _ _) hi_5 (jn := v3.toNatClampNeg) rfl dX7_moveOf_191 ?_
              obtain ⟨r6, hc, hf⟩ := bd_out hf
              refine y_l (va_runV (As := [.int (v3 + (1 : Int32)), .int (gI S 67 0 v3.toNatClampNeg)]) (rest := []) hfix (m_X7_sumFrom l G B E hE S (v3 + (1 : Int32)) (gI S 67 0 v3.toNatClampNeg) r6 hc) (cwV 2 hts gX7_moveOf_X7_sumFrom rfl rfl rfl ⟨rfl, hd_X7_sumFrom⟩ ⟨Nat.le_of_ble_eq_true rfl, Nat.le_of_ble_eq_true rfl⟩) (y_pv hF hW hS (c1 hE) (e1 _ _ _ _ _ _) rfl) rfl rfl hl.1 rfl (lv_room (Nat.le_of_ble_eq_true rfl)) dX7_moveOf_192 ⟨Nat.le_of_ble_eq_true rfl, Nat.le_of_ble_eq_true rfl⟩) hS (fun H locs hW hS => ?_)
              refine lv_lstore (lv' := [(9, .long r6), (7, .long r4), (6, .int t0), (0, .ref (B 1 0)), (1, .int v1), (2, .int v2), (3, .int v3), (5, .int v5)]) hx hb dX7_moveOf_195 hl (by decide) rfl (fun ls hl => ?_)
              refine lv_lload hx hb dX7_moveOf_197 (lv_at hl 1 rfl) ?_
              refine lv_lconst (v := 0) hx hb dX7_moveOf_199 rfl ?_
              refine W.lcmp hx hb dX7_moveOf_200 ?_
              refine lv_if_ne (tgt := 206) hx hb dX7_moveOf_201 (by decide) (fun h => ?_) (fun h => ?_)
              · have h := fun q => h ((lg_cmp_eq _ _).mpr q)
                have hf := if_f h hf
                refine lv_ldc2 hx hb hown q2 dX7_moveOf_206 ?_
                refine lv_lload hx hb dX7_moveOf_209 (lv_at hl 0 rfl) ?_
                refine lv_lmul hx hb dX7_moveOf_211 ?_
                refine lv_iload_n hx hb dX7_moveOf_212 rfl (lv_at hl 5 rfl) ?_
                refine lv_i2l hx hb dX7_moveOf_213 rfl ?_
                refine lv_lload hx hb dX7_moveOf_214 (lv_at hl 1 rfl) ?_
                refine lv_lmul hx hb dX7_moveOf_216 ?_
                refine W.lcmp hx hb dX7_moveOf_217 ?_
                refine lv_if_lt (tgt := 223) hx hb dX7_moveOf_218 (by decide) (fun h => ?_) (fun h => ?_)
                · have h := (lg_cmp_lt _ _).mp h
                  have hf := if_t h hf
                  refine lv_iload_n hx hb dX7_moveOf_223 rfl (lv_at hl 4 rfl) ?_
                  refine lv_iconst (v := 5) hx hb dX7_moveOf_224 rfl ?_
                  refine lv_icmp_ne (tgt := 247) hx hb dX7_moveOf_225 (by decide) (fun h => ?_) (fun h => ?_)
                  · have hf := if_f h hf
                    refine lv_iconst (v := 0) hx hb dX7_moveOf_247 rfl ?_
                    exact zr_i hf hx hb hr rfl hF hW hS dX7_moveOf_248 hlocks
                  · have hf := if_t h hf
                    refine lv_ldc2 hx hb hown q3 dX7_moveOf_228 ?_
                    refine lv_lload hx hb dX7_moveOf_231 (lv_at hl 0 rfl) ?_
                    refine lv_lmul hx hb dX7_moveOf_233 ?_
                    refine lv_iload_n hx hb dX7_moveOf_234 rfl (lv_at hl 5 rfl) ?_
                    refine lv_i2l hx hb dX7_moveOf_235 rfl ?_
                    refine lv_lload hx hb dX7_moveOf_236 (lv_at hl 1 rfl) ?_
                    refine lv_lmul hx hb dX7_moveOf_238 ?_
                    refine W.lcmp hx hb dX7_moveOf_239 ?_
                    refine lv_if_ge (tgt := 247) hx hb dX7_moveOf_240 (by decide) (fun h => ?_) (fun h => ?_)
                    · have h := (lg_cmp_ge _ _).mp h
                      have hf := if_t h hf
                      refine lv_iconst (v := 0) hx hb dX7_moveOf_247 rfl ?_
                      exact zr_i hf hx hb hr rfl hF hW hS dX7_moveOf_248 hlocks
                    · have h := fun q => h ((lg_cmp_ge _ _).mpr q)
                      have hf := if_f h hf
                      refine lv_iconst (v := -1) hx hb dX7_moveOf_243 rfl ?_
                      refine lv_goto (tgt := 248) hx hb dX7_moveOf_244 (by decide) ?_
                      exact zr_i hf hx hb hr rfl hF hW hS dX7_moveOf_248 hlocks
                · have h := fun q => h ((lg_cmp_lt _ _).mpr q)
                  have hf := if_f h hf
                  refine lv_iconst (v := 1) hx hb dX7_moveOf_221 rfl ?_
                  exact zr_i hf hx hb hr rfl hF hW hS dX7_moveOf_222 hlocks
              · have h := (lg_cmp_eq _ _).mp h
                have hf := if_t h hf
                refine lv_iconst (v := 0) hx hb dX7_moveOf_204 rfl ?_
                exact zr_i hf hx hb hr rfl hF hW hS dX7_moveOf_205 hlocks
            refine lv_tableOut hx hb dX7_moveOf_41 (tb_out (by decide) (by decide) (fun k h1 h2 => ?_)) (tgt := 173) (by decide) ?_
            · have hk : k = 0 ∨ k = 1 ∨ k = 2 ∨ k = 3 ∨ k = 4 := by omega
              rcases hk with rfl | rfl | rfl | rfl | rfl
              · exact fun q => hn0 (q.trans (by decide))
              · exact fun q => hn1 (q.trans (by decide))
              · exact fun q => hn2 (q.trans (by decide))
              · exact fun q => hd3 (q.trans (by decide))
              · exact fun q => hn4 (q.trans (by decide))
            · refine lv_aload_n hx hb dX7_moveOf_173 rfl (lv_at hl 1 rfl) ?_
              refine lv_iload_n hx hb dX7_moveOf_174 rfl (lv_at hl 4 rfl) ?_
              refine lv_iconst (v := 1) hx hb dX7_moveOf_175 rfl ?_
              refine lv_iadd hx hb dX7_moveOf_176 ?_
              obtain ⟨r4, hc, hf⟩ := bd_out hf
              refine y_l (va_runV (As := [.int (v3 + (1 : Int32))]) (rest := []) hfix (m_X7_sumRow l G B E hE S (v3 + (1 : Int32)) r4 hc) (cwV 1 hts gX7_moveOf_X7_sumRow rfl rfl rfl ⟨rfl, hd_X7_sumRow⟩ ⟨Nat.le_of_ble_eq_true rfl, Nat.le_of_ble_eq_true rfl⟩) (y_pv hF hW hS (c1 hE) (e1 _ _ _ _ _ _) rfl) rfl rfl hl.1 rfl (lv_room (Nat.le_of_ble_eq_true rfl)) dX7_moveOf_177 ⟨Nat.le_of_ble_eq_true rfl, Nat.le_of_ble_eq_true rfl⟩) hS (fun H locs hW hS => ?_)
              refine lv_lstore (lv' := [(7, .long r4), (6, .int t0), (0, .ref (B 1 0)), (1, .int v1), (2, .int v2), (3, .int v3), (5, .int v5)]) hx hb dX7_moveOf_180 hl (by decide) rfl (fun ls hl => ?_)
              refine lv_aload_n hx hb dX7_moveOf_182 rfl (lv_at hl 2 rfl) ?_
              refine lv_iload_n hx hb dX7_moveOf_183 rfl (lv_at hl 5 rfl) ?_
              refine lv_iconst (v := 1) hx hb dX7_moveOf_184 rfl ?_
              refine lv_iadd hx hb dX7_moveOf_185 ?_
              refine lv_aload_n hx hb dX7_moveOf_186 rfl (lv_at hl 2 rfl) ?_
              refine x_get hx hb hts hi7 hown hK hW (c1 hE) (e1 _ _ _ _ _ _) rfl 27 (Nat.le_of_ble_eq_true rfl) q1 (fun _ h => h) (v := .ref (B 67 0)) rfl dX7_moveOf_187 ?_
              refine lv_iload_n hx hb dX7_moveOf_190 rfl (lv_at hl 5 rfl) ?_
              obtain ⟨hi_5, hf⟩ := ck_out hf
              have hi_5 := ib_in hi_5
              refine x_iald hx hb hK hW (c67 hE) (e67 _ _ _ _ _ _) hi_5 (jn := v3.toNatClampNeg) rfl dX7_moveOf_191 ?_
              obtain ⟨r6, hc, hf⟩ := bd_out hf
              refine y_l (va_runV (As := [.int (v3 + (1 : Int32)), .int (gI S 67 0 v3.toNatClampNeg)]) (rest := []) hfix (m_X7_sumFrom l G B E hE S (v3 + (1 : Int32)) (gI S 67 0 v3.toNatClampNeg) r6 hc) (cwV 2 hts gX7_moveOf_X7_sumFrom rfl rfl rfl ⟨rfl, hd_X7_sumFrom⟩ ⟨Nat.le_of_ble_eq_true rfl, Nat.le_of_ble_eq_true rfl⟩) (y_pv hF hW hS (c1 hE) (e1 _ _ _ _ _ _) rfl) rfl rfl hl.1 rfl (lv_room (Nat.le_of_ble_eq_true rfl)) dX7_moveOf_192 ⟨Nat.le_of_ble_eq_true rfl, Nat.le_of_ble_eq_true rfl⟩) hS (fun H locs hW hS => ?_)
              refine lv_lstore (lv' := [(9, .long r6), (7, .long r4), (6, .int t0), (0, .ref (B 1 0)), (1, .int v1), (2, .int v2), (3, .int v3), (5, .int v5)]) hx hb dX7_moveOf_195 hl (by decide) rfl (fun ls hl => ?_)
              refine lv_lload hx hb dX7_moveOf_197 (lv_at hl 1 rfl) ?_
              refine lv_lconst (v := 0) hx hb dX7_moveOf_199 rfl ?_
              refine W.lcmp hx hb dX7_moveOf_200 ?_
              refine lv_if_ne (tgt := 206) hx hb dX7_moveOf_201 (by decide) (fun h => ?_) (fun h => ?_)
              · have h := fun q => h ((lg_cmp_eq _ _).mpr q)
                have hf := if_f h hf
                refine lv_ldc2 hx hb hown q2 dX7_moveOf_206 ?_
                refine lv_lload hx hb dX7_moveOf_209 (lv_at hl 0 rfl) ?_
                refine lv_lmul hx hb dX7_moveOf_211 ?_
                refine lv_iload_n hx hb dX7_moveOf_212 rfl (lv_at hl 5 rfl) ?_
                refine lv_i2l hx hb dX7_moveOf_213 rfl ?_
                refine lv_lload hx hb dX7_moveOf_214 (lv_at hl 1 rfl) ?_
                refine lv_lmul hx hb dX7_moveOf_216 ?_
                refine W.lcmp hx hb dX7_moveOf_217 ?_
                refine lv_if_lt (tgt := 223) hx hb dX7_moveOf_218 (by decide) (fun h => ?_) (fun h => ?_)
                · have h := (lg_cmp_lt _ _).mp h
                  have hf := if_t h hf
                  refine lv_iload_n hx hb dX7_moveOf_223 rfl (lv_at hl 4 rfl) ?_
                  refine lv_iconst (v := 5) hx hb dX7_moveOf_224 rfl ?_
                  refine lv_icmp_ne (tgt := 247) hx hb dX7_moveOf_225 (by decide) (fun h => ?_) (fun h => ?_)
                  · have hf := if_f h hf
                    refine lv_iconst (v := 0) hx hb dX7_moveOf_247 rfl ?_
                    exact zr_i hf hx hb hr rfl hF hW hS dX7_moveOf_248 hlocks
                  · have hf := if_t h hf
                    refine lv_ldc2 hx hb hown q3 dX7_moveOf_228 ?_
                    refine lv_lload hx hb dX7_moveOf_231 (lv_at hl 0 rfl) ?_
                    refine lv_lmul hx hb dX7_moveOf_233 ?_
                    refine lv_iload_n hx hb dX7_moveOf_234 rfl (lv_at hl 5 rfl) ?_
                    refine lv_i2l hx hb dX7_moveOf_235 rfl ?_
                    refine lv_lload hx hb dX7_moveOf_236 (lv_at hl 1 rfl) ?_
                    refine lv_lmul hx hb dX7_moveOf_238 ?_
                    refine W.lcmp hx hb dX7_moveOf_239 ?_
                    refine lv_if_ge (tgt := 247) hx hb dX7_moveOf_240 (by decide) (fun h => ?_) (fun h => ?_)
                    · have h := (lg_cmp_ge _ _).mp h
                      have hf := if_t h hf
                      refine lv_iconst (v := 0) hx hb dX7_moveOf_247 rfl ?_
                      exact zr_i hf hx hb hr rfl hF hW hS dX7_moveOf_248 hlocks
                    · have h := fun q => h ((lg_cmp_ge _ _).mpr q)
                      have hf := if_f h hf
                      refine lv_iconst (v := -1) hx hb dX7_moveOf_243 rfl ?_
                      refine lv_goto (tgt := 248) hx hb dX7_moveOf_244 (by decide) ?_
                      exact zr_i hf hx hb hr rfl hF hW hS dX7_moveOf_248 hlocks
                · have h := fun q => h ((lg_cmp_lt _ _).mpr q)
                  have hf := if_f h hf
                  refine lv_iconst (v := 1) hx hb dX7_moveOf_221 rfl ?_
                  exact zr_i hf hx hb hr rfl hF hW hS dX7_moveOf_222 hlocks
              · have h := (lg_cmp_eq _ _).mp h
                have hf := if_t h hf
                refine lv_iconst (v := 0) hx hb dX7_moveOf_204 rfl ?_
                exact zr_i hf hx hb hr rfl hF hW hS dX7_moveOf_205 hlocks
  have w37 : ∀ (_ : Unit) (v1 : Int32) (v2 : Int32) (v3 : Int32) (v5 : Int32) , f_X7_moveOf_b37 E S v1 v2 v3 v5 = some rr → ∀ (H : Heap) (locs : List Loc) (ls : Array Slot), WH G B E S H → va_S (AA G) s.heap H locs → lv_has ls 11 [(0, .ref (B 1 0)), (1, .int v1), (2, .int v2), (3, .int v3), (5, .int v5)] → W p l e (headSpec wsX7_moveOf (rmN 2)).room s m [.ref (B 1 0), .int a1, .int a2, .int a3, .int a4].toArray below meth c H locs 0 0 (MQ below (QI G B E S rr) [.ref (B 1 0), .int a1, .int a2, .int a3, .int a4].toArray s 0 0 (AA G)) (F0 m 37 ls []) := by
    intro _ v1 v2 v3 v5 hf H locs ls hW hS hl
    unfold f_X7_moveOf_b37 at hf
    refine lv_iconst (v := 0) hx hb dX7_moveOf_37 rfl ?_
    exact w38 () v1 v2 v3 v5 (0 : Int32)  hf _ _ _ hW hS (lv_sub hl [0, 1, 2, 3, 4] rfl)
  have w15 : ∀ (_ : Unit) (v1 : Int32) (v2 : Int32) (v3 : Int32) (v4 : Int32) (t0 : Int32) , f_X7_moveOf_b15 E S v1 v2 v3 v4 t0 = some rr → ∀ (H : Heap) (locs : List Loc) (ls : Array Slot), WH G B E S H → va_S (AA G) s.heap H locs → lv_has ls 11 [(0, .ref (B 1 0)), (1, .int v1), (2, .int v2), (3, .int v3), (4, .int v4)] → W p l e (headSpec wsX7_moveOf (rmN 2)).room s m [.ref (B 1 0), .int a1, .int a2, .int a3, .int a4].toArray below meth c H locs 0 0 (MQ below (QI G B E S rr) [.ref (B 1 0), .int a1, .int a2, .int a3, .int a4].toArray s 0 0 (AA G)) (F0 m 15 ls [.int t0]) := by
    intro _ v1 v2 v3 v4 t0 hf H locs ls hW hS hl
    unfold f_X7_moveOf_b15 at hf
    refine lv_istore (lv' := [(5, .int t0), (0, .ref (B 1 0)), (1, .int v1), (2, .int v2), (3, .int v3), (4, .int v4)]) hx hb dX7_moveOf_15 hl (by decide) rfl (fun ls hl => ?_)
    refine lv_iload_n hx hb dX7_moveOf_17 rfl (lv_at hl 4 rfl) ?_
    refine lv_if_le (tgt := 37) hx hb dX7_moveOf_18 (by decide) (fun h => ?_) (fun h => ?_)
    · have hf := if_t h hf
      exact w37 () v1 v2 v3 t0  hf _ _ _ hW hS (lv_sub hl [1, 2, 3, 4, 0] rfl)
    · have hf := if_f h hf
      refine lv_iload hx hb dX7_moveOf_21 (lv_at hl 5 rfl) ?_
      refine lv_iload_n hx hb dX7_moveOf_23 rfl (lv_at hl 4 rfl) ?_
      refine lv_iconst (v := 1) hx hb dX7_moveOf_24 rfl ?_
      refine lv_isub hx hb dX7_moveOf_25 ?_
      refine lv_ishr hx hb dX7_moveOf_26 ?_
      refine lv_iconst (v := 1) hx hb dX7_moveOf_27 rfl ?_
      refine lv_iand hx hb dX7_moveOf_28 ?_
      refine lv_iconst (v := 1) hx hb dX7_moveOf_29 rfl ?_
      refine lv_icmp_ne (tgt := 37) hx hb dX7_moveOf_30 (by decide) (fun h => ?_) (fun h => ?_)
      · have hf := if_f h hf
        exact w37 () v1 v2 v3 t0  hf _ _ _ hW hS (lv_sub hl [1, 2, 3, 4, 0] rfl)
      · have hf := if_t h hf
        refine lv_iconst (v := 1) hx hb dX7_moveOf_33 rfl ?_
        refine lv_goto (tgt := 38) hx hb dX7_moveOf_34 (by decide) ?_
        exact w38 () v1 v2 v3 t0 (1 : Int32)  hf _ _ _ hW hS (lv_sub hl [1, 2, 3, 4, 0] rfl)
  unfold f_X7_moveOf at hf
  refine lv_iload hx hb dX7_moveOf_0 (lv_at hl 4 rfl) ?_
  refine lv_iload_n hx hb dX7_moveOf_2 rfl (lv_at hl 3 rfl) ?_
  refine lv_ishr hx hb dX7_moveOf_3 ?_
  refine lv_iconst (v := 1) hx hb dX7_moveOf_4 rfl ?_
  refine lv_iand hx hb dX7_moveOf_5 ?_
  refine lv_iconst (v := 1) hx hb dX7_moveOf_6 rfl ?_
  refine lv_icmp_ne (tgt := 14) hx hb dX7_moveOf_7 (by decide) (fun h => ?_) (fun h => ?_)
  · have hf := if_f h hf
    refine lv_iconst (v := 0) hx hb dX7_moveOf_14 rfl ?_
    exact w15 () a1 a2 a3 a4 (0 : Int32)  hf _ _ _ hW hS (lv_sub hl [0, 1, 2, 3, 4] rfl)
  · have hf := if_t h hf
    refine lv_iconst (v := 1) hx hb dX7_moveOf_10 rfl ?_
    refine lv_goto (tgt := 15) hx hb dX7_moveOf_11 (by decide) ?_
    exact w15 () a1 a2 a3 a4 (1 : Int32)  hf _ _ _ hW hS (lv_sub hl [0, 1, 2, 3, 4] rfl)
set_option maxHeartbeats 4000000 in
set_option maxRecDepth 100000 in
theorem m_X7_begin (l : Launch) (G : GE) (B : Nat → Nat → Nat) (E : EN) (hE : 0 < E.2.2.2)  (S : ST) (a1 : Int32) (a2 : Int32) (SS : ST) (hf : f_X7_begin E S a1 a2 = some SS) : Met l yX7_begin wsX7_begin (rmN 1) (va_Pc [.ref (B 1 0), .int a1, .int a2] (WS G B E S)) (QV G B E SS) 0 0 (AA G) := by
  refine Met.ofW (cc := cX7_begin) (maxL := 4) (ret := none) (by decide) rfl ?_
  intro p e s m args below meth c s₁ B0 hml hv
  obtain ⟨rfl, hW, hF⟩ := hv
  have hx := B0.exec
  have hb := B0.bytes
  have hr := B0.returns
  have hts := atoms_spec (ws := wsX7_begin) B0.pre
  have hown : s.vm.findClass RX7 = some m.cls := findClass_of_methodNamed B0.named
  have hlocks := B0.notSynchronized
  have hK := hF.1
  have hfix : CallFix p m c cX7_begin 4 s [.ref (B 1 0), .int a1, .int a2].toArray wsX7_begin RX7 := ⟨hx, hb, hml, hown, hts⟩
  have hS : va_S (AA G) s.heap s.heap [] := va_S.rf
  have hl := lv_entry [.ref (B 1 0), .int a1, .int a2] (n := 4) (Nat.le_of_ble_eq_true rfl)
  rw [lg_entry_eq]
  generalize (lg_sl [.ref (B 1 0), .int a1, .int a2] ++ List.replicate (4 - (lg_sl [.ref (B 1 0), .int a1, .int a2]).length) Slot.unset).toArray = ls at hl ⊢
  have hl : lv_has ls 4 [(0, .ref (B 1 0)), (1, .int a1), (2, .int a2)] := hl
  have q0 := hts (.fieldLink RX7 114 "MovesUpModel" "gradeAt" "[I") (List.mem_of_getElem? (i := 3) rfl)
  have q1 := hts (.fieldLink RX7 117 "MovesUpModel" "movedAt" "[I") (List.mem_of_getElem? (i := 4) rfl)
  have q2 := hts (.fieldLink RX7 120 "MovesUpModel" "changedAt" "[Z") (List.mem_of_getElem? (i := 5) rfl)
  have q3 := hts (.fieldLink RX7 124 "MovesUpModel" "lastMove" "I") (List.mem_of_getElem? (i := 6) rfl)
  have q4 := hts (.fieldLink RX7 110 "MovesUpModel" "row" "[J") (List.mem_of_getElem? (i := 1) rfl)
  have q5 := hts (.fieldLink RX7 24 "MovesUpModel" "weight" "[I") (List.mem_of_getElem? (i := 2) rfl)
  have hi7 : ∀ w ∈ u_ws RX7 TX7 47, w ∈ wsX7_begin := in_seg 7 rfl
  have w30 : ∀ (S : ST) (v2 : Int32) , f_X7_begin_b30 E S v2 = some SS → ∀ (H : Heap) (locs : List Loc) (ls : Array Slot), WH G B E S H → va_S (AA G) s.heap H locs → lv_has ls 4 [(0, .ref (B 1 0)), (2, .int v2)] → W p l e (headSpec wsX7_begin (rmN 1)).room s m [.ref (B 1 0), .int a1, .int a2].toArray below meth c H locs 0 0 (MQ below (QV G B E SS) [.ref (B 1 0), .int a1, .int a2].toArray s 0 0 (AA G)) (F0 m 30 ls []) := by
    intro S v2 hf H locs ls hW hS hl
    unfold f_X7_begin_b30 at hf
    refine lv_aload_n hx hb dX7_begin_30 rfl (lv_at hl 0 rfl) ?_
    refine x_get hx hb hts hi7 hown hK hW (c1 hE) (e1 _ _ _ _ _ _) rfl 27 (Nat.le_of_ble_eq_true rfl) q0 (fun _ h => h) (v := .ref (B 67 0)) rfl dX7_begin_31 ?_
    refine lv_iconst (v := 0) hx hb dX7_begin_34 rfl ?_
    refine lv_iload_n hx hb dX7_begin_35 rfl (lv_at hl 1 rfl) ?_
    obtain ⟨S1, e_S1, hf⟩ := lt_out hf
    refine x_iast hx hb hK hW hS (c67 hE) (fun f r => e67 _ _ _ f _ r) (ib_in (by decide)) (jn := 0) rfl e_S1 dX7_begin_36 (fun H locs hW hS => ?_)
    refine lv_aload_n hx hb dX7_begin_37 rfl (lv_at hl 0 rfl) ?_
    refine x_get hx hb hts hi7 hown hK hW (c1 hE) (e1 _ _ _ _ _ _) rfl 28 (Nat.le_of_ble_eq_true rfl) q1 (fun _ h => h) (v := .ref (B 68 0)) rfl dX7_begin_38 ?_
    refine lv_iconst (v := 0) hx hb dX7_begin_41 rfl ?_
    refine lv_iconst (v := 0) hx hb dX7_begin_42 rfl ?_
    obtain ⟨S2, e_S2, hf⟩ := lt_out hf
    refine x_iast hx hb hK hW hS (c68 hE) (fun f r => e68 _ _ _ f _ r) (ib_in (by decide)) (jn := 0) rfl e_S2 dX7_begin_43 (fun H locs hW hS => ?_)
    refine lv_aload_n hx hb dX7_begin_44 rfl (lv_at hl 0 rfl) ?_
    refine x_get hx hb hts hi7 hown hK hW (c1 hE) (e1 _ _ _ _ _ _) rfl 29 (Nat.le_of_ble_eq_true rfl) q2 (fun _ h => h) (v := .ref (B 69 0)) rfl dX7_begin_45 ?_
    refine lv_iconst (v := 0) hx hb dX7_begin_48 rfl ?_
    refine lv_iconst (v := 0) hx hb dX7_begin_49 rfl ?_
    obtain ⟨S3, e_S3, hf⟩ := lt_out hf
    refine x_zast hx hb hK hW hS (c69 hE) (fun f r => e69 _ _ _ f _ r) (ib_in (by decide)) (jn := 0) rfl e_S3 dX7_begin_50 (fun H locs hW hS => ?_)
    refine lv_aload_n hx hb dX7_begin_51 rfl (lv_at hl 0 rfl) ?_
    refine lv_iconst (v := 0) hx hb dX7_begin_52 rfl ?_
    obtain ⟨S4, e_S4, hf⟩ := lt_out hf
    refine x_putI hx hb hts hi7 tyX7 tyX7_ok nmX7 hown hK hW hS (c1 hE) (e1 _ _ _) rfl 30 (Nat.le_of_ble_eq_true rfl) q3 (fun _ h => h) rfl (tyX7_ok 30 (Nat.le_of_ble_eq_true rfl)) rfl rfl (Nat.le_of_ble_eq_true rfl) (pu1_30 _ _) e_S4 dX7_begin_53 (fun H locs hW hS => ?_)
    exact z_v hf hx hb hr hF hW hS dX7_begin_56 hlocks
  have w2 : ∀ (n2 : Nat) (S : ST) (v1 : Int32) (v2 : Int32) (v3 : Int32) , f_X7_begin_b2 E n2 S v1 v2 v3 = some SS → ∀ (H : Heap) (locs : List Loc) (ls : Array Slot), WH G B E S H → va_S (AA G) s.heap H locs → lv_has ls 4 [(0, .ref (B 1 0)), (1, .int v1), (2, .int v2), (3, .int v3)] → W p l e (headSpec wsX7_begin (rmN 1)).room s m [.ref (B 1 0), .int a1, .int a2].toArray below meth c H locs 0 0 (MQ below (QV G B E SS) [.ref (B 1 0), .int a1, .int a2].toArray s 0 0 (AA G)) (F0 m 2 ls []) := by
    intro n2
    induction n2 with
    | zero =>
      intro S v1 v2 v3 hf
      exact absurd (show (none : Option ST) = some SS from hf) (fun h => by cases h)
    | succ n2 ih2 =>
      intro S v1 v2 v3 hf H locs ls hW hS hl
      have hf : g_X7_begin_b2 E (f_X7_begin_b2 E n2) S v1 v2 v3 = some SS := hf
      unfold g_X7_begin_b2 at hf
      refine lv_iload_n hx hb dX7_begin_2 rfl (lv_at hl 3 rfl) ?_
      refine lv_iconst (v := 5) hx hb dX7_begin_3 rfl ?_
      refine lv_icmp_ge (tgt := 30) hx hb dX7_begin_4 (by decide) (fun h => ?_) (fun h => ?_)
      · have hf := if_t h hf
        exact w30 S v2  hf _ _ _ hW hS (lv_sub hl [0, 2] rfl)
      · have hf := if_f h hf
        refine lv_aload_n hx hb dX7_begin_7 rfl (lv_at hl 0 rfl) ?_
        refine x_get hx hb hts hi7 hown hK hW (c1 hE) (e1 _ _ _ _ _ _) rfl 26 (Nat.le_of_ble_eq_true rfl) q4 (fun _ h => h) (v := .ref (B 66 0)) rfl dX7_begin_8 ?_
        refine lv_iload_n hx hb dX7_begin_11 rfl (lv_at hl 3 rfl) ?_
        refine lv_aload_n hx hb dX7_begin_12 rfl (lv_at hl 0 rfl) ?_
        refine x_get hx hb hts hi7 hown hK hW (c1 hE) (e1 _ _ _ _ _ _) rfl 5 (Nat.le_of_ble_eq_true rfl) q5 (fun _ h => h) (v := .ref (B 45 0)) rfl dX7_begin_13 ?_
        refine lv_iconst (v := 5) hx hb dX7_begin_16 rfl ?_
        refine lv_iload_n hx hb dX7_begin_17 rfl (lv_at hl 1 rfl) ?_
        refine lv_imul hx hb dX7_begin_18 ?_
        refine lv_iload_n hx hb dX7_begin_19 rfl (lv_at hl 3 rfl) ?_
        refine lv_iadd hx hb dX7_begin_20 ?_
        obtain ⟨hi_5, hf⟩ := ck_out hf
        have hi_5 := ib_in hi_5
        refine x_iald hx hb hK hW (c45 hE) (e45 _ _ _ _ _ _) hi_5 (jn := (((5 : Int32) * v1) + v3).toNatClampNeg) rfl dX7_begin_21 ?_
        refine lv_i2l hx hb dX7_begin_22 rfl ?_
        obtain ⟨hi_6, hf⟩ := ck_out hf
        have hi_6 := ib_in hi_6
        obtain ⟨S7, e_S7, hf⟩ := lt_out hf
        refine x_last hx hb hK hW hS (c66 hE) (fun g => e66 _ _ _ _ g _) hi_6 (jn := v3.toNatClampNeg) rfl e_S7 dX7_begin_23 (fun H locs hW hS => ?_)
        obtain ⟨x8, e_x8, hf⟩ := lt_out hf
        refine lv_iinc (v := x8) (lv' := [(3, .int x8), (0, .ref (B 1 0)), (1, .int v1), (2, .int v2)]) hx hb dX7_begin_24 hl (k := 3) rfl (by rw [e_x8]; rfl) (by decide) rfl (fun ls hl => ?_)
        refine lv_goto (tgt := 2) hx hb dX7_begin_27 (by decide) ?_
        exact ih2 S7 v1 v2 x8  hf _ _ _ hW hS (lv_sub hl [1, 2, 3, 0] rfl)
  unfold f_X7_begin at hf
  refine lv_iconst (v := 0) hx hb dX7_begin_0 rfl ?_
  refine lv_istore_n (lv' := [(3, .int (0 : Int32)), (0, .ref (B 1 0)), (1, .int a1), (2, .int a2)]) hx hb dX7_begin_1 rfl hl (by decide) rfl (fun ls hl => ?_)
  exact w2 E.1 S a1 a2 (0 : Int32)  hf _ _ _ hW hS (lv_sub hl [1, 2, 3, 0] rfl)
set_option maxHeartbeats 4000000 in
set_option maxRecDepth 100000 in
theorem m_X7_go (l : Launch) (G : GE) (B : Nat → Nat → Nat) (E : EN) (hE : 0 < E.2.2.2)  (S : ST) (a1 : Int32) (a2 : Int32) (a3 : Int32) (a4 : Int32) (a5 : Int32) (a6 : Int32) (SS : ST) (hf : f_X7_go E S a1 a2 a3 a4 a5 a6 = some SS) : Met l yX7_go wsX7_go (rmN 3) (va_Pc [.ref (B 1 0), .int a1, .int a2, .int a3, .int a4, .int a5, .int a6] (WS G B E S)) (QV G B E SS) 0 0 (AA G) := by
  refine Met.ofW (cc := cX7_go) (maxL := 8) (ret := none) (by decide) rfl ?_
  intro p e s m args below meth c s₁ B0 hml hv
  obtain ⟨rfl, hW, hF⟩ := hv
  have hx := B0.exec
  have hb := B0.bytes
  have hr := B0.returns
  have hts := atoms_spec (ws := wsX7_go) B0.pre
  have hown : s.vm.findClass RX7 = some m.cls := findClass_of_methodNamed B0.named
  have hlocks := B0.notSynchronized
  have hK := hF.1
  have hfix : CallFix p m c cX7_go 8 s [.ref (B 1 0), .int a1, .int a2, .int a3, .int a4, .int a5, .int a6].toArray wsX7_go RX7 := ⟨hx, hb, hml, hown, hts⟩
  have hS : va_S (AA G) s.heap s.heap [] := va_S.rf
  have hl := lv_entry [.ref (B 1 0), .int a1, .int a2, .int a3, .int a4, .int a5, .int a6] (n := 8) (Nat.le_of_ble_eq_true rfl)
  rw [lg_entry_eq]
  generalize (lg_sl [.ref (B 1 0), .int a1, .int a2, .int a3, .int a4, .int a5, .int a6] ++ List.replicate (8 - (lg_sl [.ref (B 1 0), .int a1, .int a2, .int a3, .int a4, .int a5, .int a6]).length) Slot.unset).toArray = ls at hl ⊢
  have hl : lv_has ls 8 [(0, .ref (B 1 0)), (1, .int a1), (2, .int a2), (3, .int a3), (4, .int a4), (5, .int a5), (6, .int a6)] := hl
  have q0 := hts (.fieldLink RX7 124 "MovesUpModel" "lastMove" "I") (List.mem_of_getElem? (i := 1) rfl)
  have hi7 : ∀ w ∈ u_ws RX7 TX7 47, w ∈ wsX7_go := in_seg 40 rfl
  have w9 : ∀ (n9 : Nat) (S : ST) (v3 : Int32) (v4 : Int32) (v5 : Int32) (v6 : Int32) (v7 : Int32) , f_X7_go_b9 E n9 S v3 v4 v5 v6 v7 = some SS → ∀ (H : Heap) (locs : List Loc) (ls : Array Slot), WH G B E S H → va_S (AA G) s.heap H locs → lv_has ls 8 [(0, .ref (B 1 0)), (3, .int v3), (4, .int v4), (5, .int v5), (6, .int v6), (7, .int v7)] → W p l e (headSpec wsX7_go (rmN 3)).room s m [.ref (B 1 0), .int a1, .int a2, .int a3, .int a4, .int a5, .int a6].toArray below meth c H locs 0 0 (MQ below (QV G B E SS) [.ref (B 1 0), .int a1, .int a2, .int a3, .int a4, .int a5, .int a6].toArray s 0 0 (AA G)) (F0 m 9 ls []) := by
    intro n9
    induction n9 with
    | zero =>
      intro S v3 v4 v5 v6 v7 hf
      exact absurd (show (none : Option ST) = some SS from hf) (fun h => by cases h)
    | succ n9 ih9 =>
      intro S v3 v4 v5 v6 v7 hf H locs ls hW hS hl
      have hf : g_X7_go_b9 E (f_X7_go_b9 E n9) S v3 v4 v5 v6 v7 = some SS := hf
      unfold g_X7_go_b9 at hf
      refine lv_iload hx hb dX7_go_9 (lv_at hl 5 rfl) ?_
      refine lv_iload hx hb dX7_go_11 (lv_at hl 3 rfl) ?_
      refine lv_icmp_ge (tgt := 60) hx hb dX7_go_13 (by decide) (fun h => ?_) (fun h => ?_)
      · have hf := if_t h hf
        exact z_v hf hx hb hr hF hW hS dX7_go_60 hlocks
      · have hf := if_f h hf
        refine lv_aload_n hx hb dX7_go_16 rfl (lv_at hl 0 rfl) ?_
        refine lv_iload hx hb dX7_go_17 (lv_at hl 5 rfl) ?_
        refine lv_iload hx hb dX7_go_19 (lv_at hl 4 rfl) ?_
        refine lv_iload hx hb dX7_go_21 (lv_at hl 5 rfl) ?_
        refine lv_ishr hx hb dX7_go_23 ?_
        refine lv_iconst (v := 1) hx hb dX7_go_24 rfl ?_
        refine lv_iand hx hb dX7_go_25 ?_
        obtain ⟨S1, hc, hf⟩ := bd_out hf
        refine y_v (va_runV (As := [.int v7, .int ((v6 >>> (v7 &&& 31)) &&& (1 : Int32))]) (rest := []) hfix (m_X7_goWeek l G B E hE S v7 ((v6 >>> (v7 &&& 31)) &&& (1 : Int32)) S1 hc) (cwV 2 hts gX7_go_X7_goWeek rfl rfl rfl ⟨rfl, hd_X7_goWeek⟩ ⟨Nat.le_of_ble_eq_true rfl, Nat.le_of_ble_eq_true rfl⟩) (y_pv hF hW hS (c1 hE) (e1 _ _ _ _ _ _) rfl) rfl rfl hl.1 rfl (lv_room (Nat.le_of_ble_eq_true rfl)) dX7_go_26 ⟨Nat.le_of_ble_eq_true rfl, Nat.le_of_ble_eq_true rfl⟩) hS (fun H locs hW hS => ?_)
        refine lv_aload_n hx hb dX7_go_29 rfl (lv_at hl 0 rfl) ?_
        refine lv_aload_n hx hb dX7_go_30 rfl (lv_at hl 0 rfl) ?_
        refine lv_iload_n hx hb dX7_go_31 rfl (lv_at hl 1 rfl) ?_
        refine lv_iload hx hb dX7_go_32 (lv_at hl 2 rfl) ?_
        refine lv_iload hx hb dX7_go_34 (lv_at hl 5 rfl) ?_
        refine lv_iload hx hb dX7_go_36 (lv_at hl 4 rfl) ?_
        obtain ⟨r2, hc, hf⟩ := bd_out hf
        refine y_i (va_runV (As := [.int v3, .int v4, .int v7, .int v6]) (rest := [.ref (B 1 0)]) hfix (m_X7_moveOf l G B E hE S1 v3 v4 v7 v6 r2 hc) (cwV 4 hts gX7_go_X7_moveOf rfl rfl rfl ⟨rfl, hd_X7_moveOf⟩ ⟨Nat.le_of_ble_eq_true rfl, Nat.le_of_ble_eq_true rfl⟩) (y_pv hF hW hS (c1 hE) (e1 _ _ _ _ _ _) rfl) rfl rfl hl.1 rfl (lv_room (Nat.le_of_ble_eq_true rfl)) dX7_go_38 ⟨Nat.le_of_ble_eq_true rfl, Nat.le_of_ble_eq_true rfl⟩) hS (fun H locs hW hS => ?_)
        obtain ⟨S3, e_S3, hf⟩ := lt_out hf
        refine x_putI hx hb hts hi7 tyX7 tyX7_ok nmX7 hown hK hW hS (c1 hE) (e1 _ _ _) rfl 30 (Nat.le_of_ble_eq_true rfl) q0 (fun _ h => h) rfl (tyX7_ok 30 (Nat.le_of_ble_eq_true rfl)) rfl rfl (Nat.le_of_ble_eq_true rfl) (pu1_30 _ _) e_S3 dX7_go_41 (fun H locs hW hS => ?_)
        refine lv_aload_n hx hb dX7_go_44 rfl (lv_at hl 0 rfl) ?_
        refine lv_iload hx hb dX7_go_45 (lv_at hl 5 rfl) ?_
        refine lv_aload_n hx hb dX7_go_47 rfl (lv_at hl 0 rfl) ?_
        refine x_get hx hb hts hi7 hown hK hW (c1 hE) (e1 _ _ _ _ _ _) rfl 30 (Nat.le_of_ble_eq_true rfl) q0 (fun _ h => h) (v := .int (gI S3 1 0 30)) rfl dX7_go_48 ?_
        obtain ⟨S4, hc, hf⟩ := bd_out hf
        refine y_v (va_runV (As := [.int v7, .int (gI S3 1 0 30)]) (rest := []) hfix (m_X7_move l G B E hE S3 v7 (gI S3 1 0 30) S4 hc) (cwV 2 hts gX7_go_X7_move rfl rfl rfl ⟨rfl, hd_X7_move⟩ ⟨Nat.le_of_ble_eq_true rfl, Nat.le_of_ble_eq_true rfl⟩) (y_pv hF hW hS (c1 hE) (e1 _ _ _ _ _ _) rfl) rfl rfl hl.1 rfl (lv_room (Nat.le_of_ble_eq_true rfl)) dX7_go_51 ⟨Nat.le_of_ble_eq_true rfl, Nat.le_of_ble_eq_true rfl⟩) hS (fun H locs hW hS => ?_)
        obtain ⟨x5, e_x5, hf⟩ := lt_out hf
        refine lv_iinc (v := x5) (lv' := [(7, .int x5), (0, .ref (B 1 0)), (3, .int v3), (4, .int v4), (5, .int v5), (6, .int v6)]) hx hb dX7_go_54 hl (k := 5) rfl (by rw [e_x5]; rfl) (by decide) rfl (fun ls hl => ?_)
        refine lv_goto (tgt := 9) hx hb dX7_go_57 (by decide) ?_
        exact ih9 S4 v3 v4 v5 v6 x5  hf _ _ _ hW hS (lv_sub hl [1, 2, 3, 4, 5, 0] rfl)
  unfold f_X7_go at hf
  refine lv_aload_n hx hb dX7_go_0 rfl (lv_at hl 0 rfl) ?_
  refine lv_iload_n hx hb dX7_go_1 rfl (lv_at hl 1 rfl) ?_
  refine lv_iload_n hx hb dX7_go_2 rfl (lv_at hl 2 rfl) ?_
  obtain ⟨S6, hc, hf⟩ := bd_out hf
  refine y_v (va_runV (As := [.int a1, .int a2]) (rest := []) hfix (m_X7_begin l G B E hE S a1 a2 S6 hc) (cwV 2 hts gX7_go_X7_begin rfl rfl rfl ⟨rfl, hd_X7_begin⟩ ⟨Nat.le_of_ble_eq_true rfl, Nat.le_of_ble_eq_true rfl⟩) (y_pv hF hW hS (c1 hE) (e1 _ _ _ _ _ _) rfl) rfl rfl hl.1 rfl (lv_room (Nat.le_of_ble_eq_true rfl)) dX7_go_3 ⟨Nat.le_of_ble_eq_true rfl, Nat.le_of_ble_eq_true rfl⟩) hS (fun H locs hW hS => ?_)
  refine lv_iconst (v := 0) hx hb dX7_go_6 rfl ?_
  refine lv_istore (lv' := [(7, .int (0 : Int32)), (0, .ref (B 1 0)), (1, .int a1), (2, .int a2), (3, .int a3), (4, .int a4), (5, .int a5), (6, .int a6)]) hx hb dX7_go_7 hl (by decide) rfl (fun ls hl => ?_)
  exact w9 E.1 S6 a3 a4 a5 a6 (0 : Int32)  hf _ _ _ hW hS (lv_sub hl [1, 4, 5, 6, 7, 0] rfl)
