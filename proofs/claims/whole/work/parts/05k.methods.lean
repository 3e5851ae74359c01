set_option maxHeartbeats 4000000 in
set_option maxRecDepth 100000 in
theorem m_X7_off (l : Launch) (G : GE) (B : Nat → Nat → Nat) (E : EN) (hE : 0 < E.2.2.2)  (S : ST) (a1 : Int32) (a2 : Int32) (a3 : Int32) (rr : Int64) (SS : ST) (hf : f_X7_off E S a1 a2 a3 = some (rr, SS)) : Met l yX7_off wsX7_off (rmN 5) (va_Pc [.ref (B 1 0), .int a1, .int a2, .int a3] (WS G B E S)) (QL G B E SS rr) 0 0 (AA G) := by
  refine Met.ofW (cc := cX7_off) (maxL := 6) (ret := (some .long)) (by decide) rfl ?_
  intro p e s m args below meth c s₁ B0 hml hv
  obtain ⟨rfl, hW, hF⟩ := hv
  have hx := B0.exec
  have hb := B0.bytes
  have hr := B0.returns
  have hts := atoms_spec (ws := wsX7_off) B0.pre
  have hown : s.vm.findClass RX7 = some m.cls := findClass_of_methodNamed B0.named
  have hlocks := B0.notSynchronized
  have hK := hF.1
  have hfix : CallFix p m c cX7_off 6 s [.ref (B 1 0), .int a1, .int a2, .int a3].toArray wsX7_off RX7 := ⟨hx, hb, hml, hown, hts⟩
  have hS : va_S (AA G) s.heap s.heap [] := va_S.rf
  have hl := lv_entry [.ref (B 1 0), .int a1, .int a2, .int a3] (n := 6) (Nat.le_of_ble_eq_true rfl)
  rw [lg_entry_eq]
  generalize (lg_sl [.ref (B 1 0), .int a1, .int a2, .int a3] ++ List.replicate (6 - (lg_sl [.ref (B 1 0), .int a1, .int a2, .int a3]).length) Slot.unset).toArray = ls at hl ⊢
  have hl : lv_has ls 6 [(0, .ref (B 1 0)), (1, .int a1), (2, .int a2), (3, .int a3)] := hl
  have q0 := hts (.fieldLink RX7 18 "MovesUpModel" "kin" "[I") (List.mem_of_getElem? (i := 2) rfl)
  have q1 := hts (.fieldLink RX7 15 "MovesUpModel" "grade" "[I") (List.mem_of_getElem? (i := 3) rfl)
  have q2 := hts (.fieldLink RX7 11 "MovesUpModel" "kind" "[I") (List.mem_of_getElem? (i := 4) rfl)
  have q3 := hts (.fieldLink RX7 21 "MovesUpModel" "number" "[I") (List.mem_of_getElem? (i := 5) rfl)
  have q4 := hts (.constantLong RX7 297 (-4611686018427387904)) (List.mem_of_getElem? (i := 1) rfl)
  have hi7 : ∀ w ∈ u_ws RX7 TX7 47, w ∈ wsX7_off := in_seg 111 rfl
  have w18 : ∀ (S : ST) (v1 : Int32) (v2 : Int32) (v3 : Int32) , f_X7_off_b18 E S v1 v2 v3 = some (rr, SS) → ∀ (H : Heap) (locs : List Loc) (ls : Array Slot), WH G B E S H → va_S (AA G) s.heap H locs → lv_has ls 6 [(0, .ref (B 1 0)), (1, .int v1), (2, .int v2), (3, .int v3)] → W p l e (headSpec wsX7_off (rmN 5)).room s m [.ref (B 1 0), .int a1, .int a2, .int a3].toArray below meth c H locs 0 0 (MQ below (QL G B E SS rr) [.ref (B 1 0), .int a1, .int a2, .int a3].toArray s 0 0 (AA G)) (F0 m 18 ls []) := by
    intro S v1 v2 v3 hf H locs ls hW hS hl
    unfold f_X7_off_b18 at hf
    refine lv_aload_n hx hb dX7_off_18 rfl (lv_at hl 0 rfl) ?_
    refine lv_iload_n hx hb dX7_off_19 rfl (lv_at hl 3 rfl) ?_
    refine lv_iconst (v := 0) hx hb dX7_off_20 rfl ?_
    refine lv_iconst (v := 1) hx hb dX7_off_21 rfl ?_
    obtain ⟨r1, hc, hf⟩ := bd_out hf
    refine y_i (va_runV (As := [.int v3, .int (0 : Int32), .int (1 : Int32)]) (rest := []) hfix (m_X7_in l G B E hE S v3 (0 : Int32) (1 : Int32) r1 hc) (cwV 3 hts gX7_off_X7_in rfl rfl rfl ⟨rfl, hd_X7_in⟩ ⟨Nat.le_of_ble_eq_true rfl, Nat.le_of_ble_eq_true rfl⟩) (y_pv hF hW hS (c1 hE) (e1 _ _ _ _ _ _) rfl) rfl rfl hl.1 rfl (lv_room (Nat.le_of_ble_eq_true rfl)) dX7_off_22 ⟨Nat.le_of_ble_eq_true rfl, Nat.le_of_ble_eq_true rfl⟩) hS (fun H locs hW hS => ?_)
    refine lv_if_ne (tgt := 32) hx hb dX7_off_25 (by decide) (fun h => ?_) (fun h => ?_)
    · have hf := if_f h hf
      refine lv_aload_n hx hb dX7_off_32 rfl (lv_at hl 0 rfl) ?_
      refine lv_aload_n hx hb dX7_off_33 rfl (lv_at hl 0 rfl) ?_
      refine x_get hx hb hts hi7 hown hK hW (c1 hE) (e1 _ _ _ _ _ _) rfl 3 (Nat.le_of_ble_eq_true rfl) q0 (fun _ h => h) (v := .ref (B 43 0)) rfl dX7_off_34 ?_
      refine lv_iload_n hx hb dX7_off_37 rfl (lv_at hl 1 rfl) ?_
      obtain ⟨hi_2, hf⟩ := ck_out hf
      have hi_2 := ib_in hi_2
      refine x_iald hx hb hK hW (c43 hE) (e43 _ _ _ _ _ _) hi_2 (jn := v1.toNatClampNeg) rfl dX7_off_38 ?_
      obtain ⟨S3, hc, hf⟩ := bd_out hf
      refine y_v (va_runV (As := [.int (gI S 43 0 v1.toNatClampNeg)]) (rest := []) hfix (m_X7_layRule l G B E hE S (gI S 43 0 v1.toNatClampNeg) S3 hc) (cwV 1 hts gX7_off_X7_layRule rfl rfl rfl ⟨rfl, hd_X7_layRule⟩ ⟨Nat.le_of_ble_eq_true rfl, Nat.le_of_ble_eq_true rfl⟩) (y_pv hF hW hS (c1 hE) (e1 _ _ _ _ _ _) rfl) rfl rfl hl.1 rfl (lv_room (Nat.le_of_ble_eq_true rfl)) dX7_off_39 ⟨Nat.le_of_ble_eq_true rfl, Nat.le_of_ble_eq_true rfl⟩) hS (fun H locs hW hS => ?_)
      refine lv_aload_n hx hb dX7_off_42 rfl (lv_at hl 0 rfl) ?_
      refine lv_iload_n hx hb dX7_off_43 rfl (lv_at hl 1 rfl) ?_
      refine lv_aload_n hx hb dX7_off_44 rfl (lv_at hl 0 rfl) ?_
      refine x_get hx hb hts hi7 hown hK hW (c1 hE) (e1 _ _ _ _ _ _) rfl 2 (Nat.le_of_ble_eq_true rfl) q1 (fun _ h => h) (v := .ref (B 42 0)) rfl dX7_off_45 ?_
      refine lv_iload_n hx hb dX7_off_48 rfl (lv_at hl 1 rfl) ?_
      refine x_iald hx hb hK hW (c42 hE) (e42 _ _ _ _ _ _) hi_2 (jn := v1.toNatClampNeg) rfl dX7_off_49 ?_
      refine lv_aload_n hx hb dX7_off_50 rfl (lv_at hl 0 rfl) ?_
      refine x_get hx hb hts hi7 hown hK hW (c1 hE) (e1 _ _ _ _ _ _) rfl 1 (Nat.le_of_ble_eq_true rfl) q2 (fun _ h => h) (v := .ref (B 41 0)) rfl dX7_off_51 ?_
      refine lv_iload_n hx hb dX7_off_54 rfl (lv_at hl 1 rfl) ?_
      refine x_iald hx hb hK hW (c41 hE) (e41 _ _ _ _ _ _) hi_2 (jn := v1.toNatClampNeg) rfl dX7_off_55 ?_
      refine lv_aload_n hx hb dX7_off_56 rfl (lv_at hl 0 rfl) ?_
      refine x_get hx hb hts hi7 hown hK hW (c1 hE) (e1 _ _ _ _ _ _) rfl 4 (Nat.le_of_ble_eq_true rfl) q3 (fun _ h => h) (v := .ref (B 44 0)) rfl dX7_off_57 ?_
      refine lv_iload_n hx hb dX7_off_60 rfl (lv_at hl 1 rfl) ?_
      refine x_iald hx hb hK hW (c44 hE) (e44 _ _ _ _ _ _) hi_2 (jn := v1.toNatClampNeg) rfl dX7_off_61 ?_
      obtain ⟨r4, S5, hc, hf⟩ := bd2_out hf
      refine y_l (va_runV (As := [.int v1, .int (gI S3 42 0 v1.toNatClampNeg), .int (gI S3 41 0 v1.toNatClampNeg), .int (gI S3 44 0 v1.toNatClampNeg)]) (rest := []) hfix (m_X7_meanOf l G B E hE S3 v1 (gI S3 42 0 v1.toNatClampNeg) (gI S3 41 0 v1.toNatClampNeg) (gI S3 44 0 v1.toNatClampNeg) r4 S5 hc) (cwV 4 hts gX7_off_X7_meanOf rfl rfl rfl ⟨rfl, hd_X7_meanOf⟩ ⟨Nat.le_of_ble_eq_true rfl, Nat.le_of_ble_eq_true rfl⟩) (y_pv hF hW hS (c1 hE) (e1 _ _ _ _ _ _) rfl) rfl rfl hl.1 rfl (lv_room (Nat.le_of_ble_eq_true rfl)) dX7_off_62 ⟨Nat.le_of_ble_eq_true rfl, Nat.le_of_ble_eq_true rfl⟩) hS (fun H locs hW hS => ?_)
      refine lv_lstore (lv' := [(4, .long r4), (0, .ref (B 1 0)), (1, .int v1), (2, .int v2), (3, .int v3)]) hx hb dX7_off_65 hl (by decide) rfl (fun ls hl => ?_)
      refine lv_aload_n hx hb dX7_off_67 rfl (lv_at hl 1 rfl) ?_
      refine lv_lload hx hb dX7_off_68 (lv_at hl 0 rfl) ?_
      refine lv_aload_n hx hb dX7_off_70 rfl (lv_at hl 1 rfl) ?_
      refine lv_iload_n hx hb dX7_off_71 rfl (lv_at hl 2 rfl) ?_
      refine lv_aload_n hx hb dX7_off_72 rfl (lv_at hl 1 rfl) ?_
      refine lv_aload_n hx hb dX7_off_73 rfl (lv_at hl 1 rfl) ?_
      refine x_get hx hb hts hi7 hown hK hW (c1 hE) (e1 _ _ _ _ _ _) rfl 2 (Nat.le_of_ble_eq_true rfl) q1 (fun _ h => h) (v := .ref (B 42 0)) rfl dX7_off_74 ?_
      refine lv_iload_n hx hb dX7_off_77 rfl (lv_at hl 2 rfl) ?_
      refine x_iald hx hb hK hW (c42 hE) (e42 _ _ _ _ _ _) hi_2 (jn := v1.toNatClampNeg) rfl dX7_off_78 ?_
      refine lv_iload_n hx hb dX7_off_79 rfl (lv_at hl 3 rfl) ?_
      refine lv_iadd hx hb dX7_off_80 ?_
      obtain ⟨r6, hc, hf⟩ := bd_out hf
      refine y_i (va_runV (As := [.int ((gI S5 42 0 v1.toNatClampNeg) + v2)]) (rest := [.int v1, .ref (B 1 0), .long r4, .ref (B 1 0)]) hfix (m_X7_held l G B E hE S5 ((gI S5 42 0 v1.toNatClampNeg) + v2) r6 hc) (cwV 1 hts gX7_off_X7_held rfl rfl rfl ⟨rfl, hd_X7_held⟩ ⟨Nat.le_of_ble_eq_true rfl, Nat.le_of_ble_eq_true rfl⟩) (y_pv hF hW hS (c1 hE) (e1 _ _ _ _ _ _) rfl) rfl rfl hl.1 rfl (lv_room (Nat.le_of_ble_eq_true rfl)) dX7_off_81 ⟨Nat.le_of_ble_eq_true rfl, Nat.le_of_ble_eq_true rfl⟩) hS (fun H locs hW hS => ?_)
      refine lv_aload_n hx hb dX7_off_84 rfl (lv_at hl 1 rfl) ?_
      refine x_get hx hb hts hi7 hown hK hW (c1 hE) (e1 _ _ _ _ _ _) rfl 1 (Nat.le_of_ble_eq_true rfl) q2 (fun _ h => h) (v := .ref (B 41 0)) rfl dX7_off_85 ?_
      refine lv_iload_n hx hb dX7_off_88 rfl (lv_at hl 2 rfl) ?_
      refine x_iald hx hb hK hW (c41 hE) (e41 _ _ _ _ _ _) hi_2 (jn := v1.toNatClampNeg) rfl dX7_off_89 ?_
      refine lv_aload_n hx hb dX7_off_90 rfl (lv_at hl 1 rfl) ?_
      refine x_get hx hb hts hi7 hown hK hW (c1 hE) (e1 _ _ _ _ _ _) rfl 4 (Nat.le_of_ble_eq_true rfl) q3 (fun _ h => h) (v := .ref (B 44 0)) rfl dX7_off_91 ?_
      refine lv_iload_n hx hb dX7_off_94 rfl (lv_at hl 2 rfl) ?_
      refine x_iald hx hb hK hW (c44 hE) (e44 _ _ _ _ _ _) hi_2 (jn := v1.toNatClampNeg) rfl dX7_off_95 ?_
      obtain ⟨r7, S8, hc, hf⟩ := bd2_out hf
      refine y_l (va_runV (As := [.int v1, .int r6, .int (gI S5 41 0 v1.toNatClampNeg), .int (gI S5 44 0 v1.toNatClampNeg)]) (rest := [.long r4, .ref (B 1 0)]) hfix (m_X7_meanOf l G B E hE S5 v1 r6 (gI S5 41 0 v1.toNatClampNeg) (gI S5 44 0 v1.toNatClampNeg) r7 S8 hc) (cwV 4 hts gX7_off_X7_meanOf rfl rfl rfl ⟨rfl, hd_X7_meanOf⟩ ⟨Nat.le_of_ble_eq_true rfl, Nat.le_of_ble_eq_true rfl⟩) (y_pv hF hW hS (c1 hE) (e1 _ _ _ _ _ _) rfl) rfl rfl hl.1 rfl (lv_room (Nat.le_of_ble_eq_true rfl)) dX7_off_96 ⟨Nat.le_of_ble_eq_true rfl, Nat.le_of_ble_eq_true rfl⟩) hS (fun H locs hW hS => ?_)
      refine lv_lsub hx hb dX7_off_99 ?_
      refine lv_aload_n hx hb dX7_off_100 rfl (lv_at hl 1 rfl) ?_
      refine lv_iload_n hx hb dX7_off_101 rfl (lv_at hl 2 rfl) ?_
      obtain ⟨r9, hc, hf⟩ := bd_out hf
      refine y_l (va_runV (As := [.int v1]) (rest := [.long (r4 - r7), .ref (B 1 0)]) hfix (m_X7_allOf l G B E hE S8 v1 r9 hc) (cwV 1 hts gX7_off_X7_allOf rfl rfl rfl ⟨rfl, hd_X7_allOf⟩ ⟨Nat.le_of_ble_eq_true rfl, Nat.le_of_ble_eq_true rfl⟩) (y_pv hF hW hS (c1 hE) (e1 _ _ _ _ _ _) rfl) rfl rfl hl.1 rfl (lv_room (Nat.le_of_ble_eq_true rfl)) dX7_off_102 ⟨Nat.le_of_ble_eq_true rfl, Nat.le_of_ble_eq_true rfl⟩) hS (fun H locs hW hS => ?_)
      refine lv_iload_n hx hb dX7_off_105 rfl (lv_at hl 4 rfl) ?_
      obtain ⟨r10, hc, hf⟩ := bd_out hf
      refine y_l (va_runV (As := [.long (r4 - r7), .long r9, .int v3]) (rest := []) hfix (m_X7_lowest l G B E hE S8 (r4 - r7) r9 v3 r10 hc) (cwV 3 hts gX7_off_X7_lowest rfl rfl rfl ⟨rfl, hd_X7_lowest⟩ ⟨Nat.le_of_ble_eq_true rfl, Nat.le_of_ble_eq_true rfl⟩) (y_pv hF hW hS (c1 hE) (e1 _ _ _ _ _ _) rfl) rfl rfl hl.1 rfl (lv_room (Nat.le_of_ble_eq_true rfl)) dX7_off_106 ⟨Nat.le_of_ble_eq_true rfl, Nat.le_of_ble_eq_true rfl⟩) hS (fun H locs hW hS => ?_)
      exact z_l hf hx hb hr hF hW hS dX7_off_109 hlocks
    · have hf := if_t h hf
      refine lv_ldc2 hx hb hown q4 dX7_off_28 ?_
      exact z_l hf hx hb hr hF hW hS dX7_off_31 hlocks
  unfold f_X7_off at hf
  refine lv_aload_n hx hb dX7_off_0 rfl (lv_at hl 0 rfl) ?_
  refine lv_iload_n hx hb dX7_off_1 rfl (lv_at hl 1 rfl) ?_
  obtain ⟨r11, hc, hf⟩ := bd_out hf
  refine y_i (va_runV (As := [.int a1]) (rest := []) hfix (m_X7_isPupil l G B E hE S a1 r11 hc) (cwV 1 hts gX7_off_X7_isPupil rfl rfl rfl ⟨rfl, hd_X7_isPupil⟩ ⟨Nat.le_of_ble_eq_true rfl, Nat.le_of_ble_eq_true rfl⟩) (y_pv hF hW hS (c1 hE) (e1 _ _ _ _ _ _) rfl) rfl rfl hl.1 rfl (lv_room (Nat.le_of_ble_eq_true rfl)) dX7_off_2 ⟨Nat.le_of_ble_eq_true rfl, Nat.le_of_ble_eq_true rfl⟩) hS (fun H locs hW hS => ?_)
  refine lv_if_eq (tgt := 28) hx hb dX7_off_5 (by decide) (fun h => ?_) (fun h => ?_)
  · have hf := if_t h hf
    refine lv_ldc2 hx hb hown q4 dX7_off_28 ?_
    exact z_l hf hx hb hr hF hW hS dX7_off_31 hlocks
  · have hf := if_f h hf
    refine lv_iload_n hx hb dX7_off_8 rfl (lv_at hl 2 rfl) ?_
    refine lv_iconst (v := 1) hx hb dX7_off_9 rfl ?_
    refine lv_icmp_eq (tgt := 18) hx hb dX7_off_10 (by decide) (fun h => ?_) (fun h => ?_)
    · have hf := if_t h hf
      exact w18 S a1 a2 a3  hf _ _ _ hW hS (lv_sub hl [0, 1, 2, 3] rfl)
    · have hf := if_f h hf
      refine lv_iload_n hx hb dX7_off_13 rfl (lv_at hl 2 rfl) ?_
      refine lv_iconst (v := -1) hx hb dX7_off_14 rfl ?_
      refine lv_icmp_ne (tgt := 28) hx hb dX7_off_15 (by decide) (fun h => ?_) (fun h => ?_)
      · have hf := if_f h hf
        refine lv_ldc2 hx hb hown q4 dX7_off_28 ?_
        exact z_l hf hx hb hr hF hW hS dX7_off_31 hlocks
      · have hf := if_t h hf
        exact w18 S a1 a2 a3  hf _ _ _ hW hS (lv_sub hl [0, 1, 2, 3] rfl)
set_option maxHeartbeats 4000000 in
set_option maxRecDepth 100000 in
theorem m_X7_rule (l : Launch) (G : GE) (B : Nat → Nat → Nat) (E : EN) (hE : 0 < E.2.2.2)  (S : ST) (a1 : Int32) (a2 : Int32) (rr : Int32) (SS : ST) (hf : f_X7_rule E S a1 a2 = some (rr, SS)) : Met l yX7_rule wsX7_rule (rmN 5) (va_Pc [.ref (B 1 0), .int a1, .int a2] (WS G B E S)) (QI G B E SS rr) 0 0 (AA G) := by
  refine Met.ofW (cc := cX7_rule) (maxL := 9) (ret := (some .int)) (by decide) rfl ?_
  intro p e s m args below meth c s₁ B0 hml hv
  obtain ⟨rfl, hW, hF⟩ := hv
  have hx := B0.exec
  have hb := B0.bytes
  have hr := B0.returns
  have hts := atoms_spec (ws := wsX7_rule) B0.pre
  have hown : s.vm.findClass RX7 = some m.cls := findClass_of_methodNamed B0.named
  have hlocks := B0.notSynchronized
  have hK := hF.1
  have hfix : CallFix p m c cX7_rule 9 s [.ref (B 1 0), .int a1, .int a2].toArray wsX7_rule RX7 := ⟨hx, hb, hml, hown, hts⟩
  have hS : va_S (AA G) s.heap s.heap [] := va_S.rf
  have hl := lv_entry [.ref (B 1 0), .int a1, .int a2] (n := 9) (Nat.le_of_ble_eq_true rfl)
  rw [lg_entry_eq]
  generalize (lg_sl [.ref (B 1 0), .int a1, .int a2] ++ List.replicate (9 - (lg_sl [.ref (B 1 0), .int a1, .int a2]).length) Slot.unset).toArray = ls at hl ⊢
  have hl : lv_has ls 9 [(0, .ref (B 1 0)), (1, .int a1), (2, .int a2)] := hl
  have q0 := hts (.fieldLink RX7 15 "MovesUpModel" "grade" "[I") (List.mem_of_getElem? (i := 3) rfl)
  have q1 := hts (.fieldLink RX7 21 "MovesUpModel" "number" "[I") (List.mem_of_getElem? (i := 5) rfl)
  have q2 := hts (.fieldLink RX7 11 "MovesUpModel" "kind" "[I") (List.mem_of_getElem? (i := 4) rfl)
  have q3 := hts (.fieldLink RX7 18 "MovesUpModel" "kin" "[I") (List.mem_of_getElem? (i := 1) rfl)
  have q4 := hts (.constantLong RX7 315 (-1)) (List.mem_of_getElem? (i := 2) rfl)
  have hi7 : ∀ w ∈ u_ws RX7 TX7 47, w ∈ wsX7_rule := in_seg 90 rfl
  have w41 : ∀ (n41 : Nat) (S : ST) (v1 : Int32) (v2 : Int32) (v3 : Int32) (v4 : Int64) (v6 : Int32) , f_X7_rule_b41 E n41 S v1 v2 v3 v4 v6 = some (rr, SS) → ∀ (H : Heap) (locs : List Loc) (ls : Array Slot), WH G B E S H → va_S (AA G) s.heap H locs → lv_has ls 9 [(0, .ref (B 1 0)), (1, .int v1), (2, .int v2), (3, .int v3), (4, .long v4), (6, .int v6)] → W p l e (headSpec wsX7_rule (rmN 5)).room s m [.ref (B 1 0), .int a1, .int a2].toArray below meth c H locs 0 0 (MQ below (QI G B E SS rr) [.ref (B 1 0), .int a1, .int a2].toArray s 0 0 (AA G)) (F0 m 41 ls []) := by
    intro n41
    induction n41 with
    | zero =>
      intro S v1 v2 v3 v4 v6 hf
      exact absurd (show (none : Option (Int32 × ST)) = some (rr, SS) from hf) (fun h => by cases h)
    | succ n41 ih41 =>
      have w122 : ∀ (S : ST) (v1 : Int32) (v2 : Int32) (v3 : Int32) (v4 : Int64) (v6 : Int32) , f_X7_rule_b122 E (f_X7_rule_b41 E n41) S v1 v2 v3 v4 v6 = some (rr, SS) → ∀ (H : Heap) (locs : List Loc) (ls : Array Slot), WH G B E S H → va_S (AA G) s.heap H locs → lv_has ls 9 [(0, .ref (B 1 0)), (1, .int v1), (2, .int v2), (3, .int v3), (4, .long v4), (6, .int v6)] → W p l e (headSpec wsX7_rule (rmN 5)).room s m [.ref (B 1 0), .int a1, .int a2].toArray below meth c H locs 0 0 (MQ below (QI G B E SS rr) [.ref (B 1 0), .int a1, .int a2].toArray s 0 0 (AA G)) (F0 m 122 ls []) := by
        intro S v1 v2 v3 v4 v6 hf H locs ls hW hS hl
        unfold f_X7_rule_b122 at hf
        obtain ⟨x1, e_x1, hf⟩ := lt_out hf
        refine lv_iinc (v := x1) (lv' := [(6, .int x1), (0, .ref (B 1 0)), (1, .int v1), (2, .int v2), (3, .int v3), (4, .long v4)]) hx hb dX7_rule_122 hl (k := 5) rfl (by rw [e_x1]; rfl) (by decide) rfl (fun ls hl => ?_)
        refine lv_goto (tgt := 41) hx hb dX7_rule_125 (by decide) ?_
        exact ih41 S v1 v2 v3 v4 x1  hf _ _ _ hW hS (lv_sub hl [1, 2, 3, 4, 5, 0] rfl)
      have w102 : ∀ (S : ST) (v1 : Int32) (v2 : Int32) (v3 : Int32) (v4 : Int64) (v6 : Int32) (t0 : Int64) , f_X7_rule_b102 E (f_X7_rule_b41 E n41) S v1 v2 v3 v4 v6 t0 = some (rr, SS) → ∀ (H : Heap) (locs : List Loc) (ls : Array Slot), WH G B E S H → va_S (AA G) s.heap H locs → lv_has ls 9 [(0, .ref (B 1 0)), (1, .int v1), (2, .int v2), (3, .int v3), (4, .long v4), (6, .int v6)] → W p l e (headSpec wsX7_rule (rmN 5)).room s m [.ref (B 1 0), .int a1, .int a2].toArray below meth c H locs 0 0 (MQ below (QI G B E SS rr) [.ref (B 1 0), .int a1, .int a2].toArray s 0 0 (AA G)) (F0 m 102 ls [.long t0]) := by
        intro S v1 v2 v3 v4 v6 t0 hf H locs ls hW hS hl
        unfold f_X7_rule_b102 at hf
        refine lv_lstore (lv' := [(7, .long t0), (0, .ref (B 1 0)), (1, .int v1), (2, .int v2), (3, .int v3), (4, .long v4), (6, .int v6)]) hx hb dX7_rule_102 hl (by decide) rfl (fun ls hl => ?_)
        refine lv_lload hx hb dX7_rule_104 (lv_at hl 0 rfl) ?_
        refine lv_lload hx hb dX7_rule_106 (lv_at hl 5 rfl) ?_
        refine W.lcmp hx hb dX7_rule_108 ?_
        refine lv_if_gt (tgt := 115) hx hb dX7_rule_109 (by decide) (fun h => ?_) (fun h => ?_)
        · have h := (lg_cmp_gt _ _).mp h
          have hf := if_t h hf
          refine lv_iload hx hb dX7_rule_115 (lv_at hl 6 rfl) ?_
          refine lv_istore_n (lv' := [(3, .int v6), (7, .long t0), (0, .ref (B 1 0)), (1, .int v1), (2, .int v2), (4, .long v4), (6, .int v6)]) hx hb dX7_rule_117 rfl hl (by decide) rfl (fun ls hl => ?_)
          refine lv_lload hx hb dX7_rule_118 (lv_at hl 1 rfl) ?_
          refine lv_lstore (lv' := [(4, .long t0), (3, .int v6), (7, .long t0), (0, .ref (B 1 0)), (1, .int v1), (2, .int v2), (6, .int v6)]) hx hb dX7_rule_120 hl (by decide) rfl (fun ls hl => ?_)
          exact w122 S v1 v2 v6 t0 v6  hf _ _ _ hW hS (lv_sub hl [3, 4, 5, 1, 0, 6] rfl)
        · have h := fun q => h ((lg_cmp_gt _ _).mpr q)
          have hf := if_f h hf
          refine lv_goto (tgt := 122) hx hb dX7_rule_112 (by decide) ?_
          exact w122 S v1 v2 v3 v4 v6  hf _ _ _ hW hS (lv_sub hl [1, 2, 3, 4, 5, 6] rfl)
      have w54 : ∀ (S : ST) (v1 : Int32) (v2 : Int32) (v3 : Int32) (v4 : Int64) (v6 : Int32) (t0 : Int32) (t1 : Int32) , f_X7_rule_b54 E (f_X7_rule_b41 E n41) S v1 v2 v3 v4 v6 t0 t1 = some (rr, SS) → ∀ (H : Heap) (locs : List Loc) (ls : Array Slot), WH G B E S H → va_S (AA G) s.heap H locs → lv_has ls 9 [(0, .ref (B 1 0)), (1, .int v1), (2, .int v2), (3, .int v3), (4, .long v4), (6, .int v6)] → W p l e (headSpec wsX7_rule (rmN 5)).room s m [.ref (B 1 0), .int a1, .int a2].toArray below meth c H locs 0 0 (MQ below (QI G B E SS rr) [.ref (B 1 0), .int a1, .int a2].toArray s 0 0 (AA G)) (F0 m 54 ls [.int t0, .int t1]) := by
        intro S v1 v2 v3 v4 v6 t0 t1 hf H locs ls hW hS hl
        unfold f_X7_rule_b54 at hf
        refine lv_icmp_ge (tgt := 128) hx hb dX7_rule_54 (by decide) (fun h => ?_) (fun h => ?_)
        · have hf := if_t h hf
          refine lv_iload_n hx hb dX7_rule_128 rfl (lv_at hl 3 rfl) ?_
          exact z_i hf hx hb hr rfl hF hW hS dX7_rule_129 hlocks
        · have hf := if_f h hf
          refine lv_iload_n hx hb dX7_rule_57 rfl (lv_at hl 2 rfl) ?_
          refine lv_if_ne (tgt := 83) hx hb dX7_rule_58 (by decide) (fun h => ?_) (fun h => ?_)
          · have hf := if_f h hf
            refine lv_aload_n hx hb dX7_rule_83 rfl (lv_at hl 0 rfl) ?_
            refine lv_iload_n hx hb dX7_rule_84 rfl (lv_at hl 1 rfl) ?_
            refine lv_aload_n hx hb dX7_rule_85 rfl (lv_at hl 0 rfl) ?_
            refine x_get hx hb hts hi7 hown hK hW (c1 hE) (e1 _ _ _ _ _ _) rfl 2 (Nat.le_of_ble_eq_true rfl) q0 (fun _ h => h) (v := .ref (B 42 0)) rfl dX7_rule_86 ?_
            refine lv_iload_n hx hb dX7_rule_89 rfl (lv_at hl 1 rfl) ?_
            obtain ⟨hi_2, hf⟩ := ck_out hf
            have hi_2 := ib_in hi_2
            refine x_iald hx hb hK hW (c42 hE) (e42 _ _ _ _ _ _) hi_2 (jn := v1.toNatClampNeg) rfl dX7_rule_90 ?_
            refine lv_iload hx hb dX7_rule_91 (lv_at hl 5 rfl) ?_
            refine lv_aload_n hx hb dX7_rule_93 rfl (lv_at hl 0 rfl) ?_
            refine x_get hx hb hts hi7 hown hK hW (c1 hE) (e1 _ _ _ _ _ _) rfl 4 (Nat.le_of_ble_eq_true rfl) q1 (fun _ h => h) (v := .ref (B 44 0)) rfl dX7_rule_94 ?_
            refine lv_iload_n hx hb dX7_rule_97 rfl (lv_at hl 1 rfl) ?_
            refine x_iald hx hb hK hW (c44 hE) (e44 _ _ _ _ _ _) hi_2 (jn := v1.toNatClampNeg) rfl dX7_rule_98 ?_
            obtain ⟨r3, S4, hc, hf⟩ := bd2_out hf
            refine y_l (va_runV (As := [.int v1, .int (gI S 42 0 v1.toNatClampNeg), .int v6, .int (gI S 44 0 v1.toNatClampNeg)]) (rest := []) hfix (m_X7_meanOf l G B E hE S v1 (gI S 42 0 v1.toNatClampNeg) v6 (gI S 44 0 v1.toNatClampNeg) r3 S4 hc) (cwV 4 hts gX7_rule_X7_meanOf rfl rfl rfl ⟨rfl, hd_X7_meanOf⟩ ⟨Nat.le_of_ble_eq_true rfl, Nat.le_of_ble_eq_true rfl⟩) (y_pv hF hW hS (c1 hE) (e1 _ _ _ _ _ _) rfl) rfl rfl hl.1 rfl (lv_room (Nat.le_of_ble_eq_true rfl)) dX7_rule_99 ⟨Nat.le_of_ble_eq_true rfl, Nat.le_of_ble_eq_true rfl⟩) hS (fun H locs hW hS => ?_)
            exact w102 S4 v1 v2 v3 v4 v6 r3  hf _ _ _ hW hS (lv_sub hl [0, 1, 2, 3, 4, 5] rfl)
          · have hf := if_t h hf
            refine lv_aload_n hx hb dX7_rule_61 rfl (lv_at hl 0 rfl) ?_
            refine lv_iload_n hx hb dX7_rule_62 rfl (lv_at hl 1 rfl) ?_
            refine lv_aload_n hx hb dX7_rule_63 rfl (lv_at hl 0 rfl) ?_
            refine x_get hx hb hts hi7 hown hK hW (c1 hE) (e1 _ _ _ _ _ _) rfl 2 (Nat.le_of_ble_eq_true rfl) q0 (fun _ h => h) (v := .ref (B 42 0)) rfl dX7_rule_64 ?_
            refine lv_iload_n hx hb dX7_rule_67 rfl (lv_at hl 1 rfl) ?_
            obtain ⟨hi_5, hf⟩ := ck_out hf
            have hi_5 := ib_in hi_5
            refine x_iald hx hb hK hW (c42 hE) (e42 _ _ _ _ _ _) hi_5 (jn := v1.toNatClampNeg) rfl dX7_rule_68 ?_
            refine lv_aload_n hx hb dX7_rule_69 rfl (lv_at hl 0 rfl) ?_
            refine x_get hx hb hts hi7 hown hK hW (c1 hE) (e1 _ _ _ _ _ _) rfl 1 (Nat.le_of_ble_eq_true rfl) q2 (fun _ h => h) (v := .ref (B 41 0)) rfl dX7_rule_70 ?_
            refine lv_iload_n hx hb dX7_rule_73 rfl (lv_at hl 1 rfl) ?_
            refine x_iald hx hb hK hW (c41 hE) (e41 _ _ _ _ _ _) hi_5 (jn := v1.toNatClampNeg) rfl dX7_rule_74 ?_
            refine lv_iload hx hb dX7_rule_75 (lv_at hl 5 rfl) ?_
            obtain ⟨r6, S7, hc, hf⟩ := bd2_out hf
            refine y_l (va_runV (As := [.int v1, .int (gI S 42 0 v1.toNatClampNeg), .int (gI S 41 0 v1.toNatClampNeg), .int v6]) (rest := []) hfix (m_X7_meanOf l G B E hE S v1 (gI S 42 0 v1.toNatClampNeg) (gI S 41 0 v1.toNatClampNeg) v6 r6 S7 hc) (cwV 4 hts gX7_rule_X7_meanOf rfl rfl rfl ⟨rfl, hd_X7_meanOf⟩ ⟨Nat.le_of_ble_eq_true rfl, Nat.le_of_ble_eq_true rfl⟩) (y_pv hF hW hS (c1 hE) (e1 _ _ _ _ _ _) rfl) rfl rfl hl.1 rfl (lv_room (Nat.le_of_ble_eq_true rfl)) dX7_rule_77 ⟨Nat.le_of_ble_eq_true rfl, Nat.le_of_ble_eq_true rfl⟩) hS (fun H locs hW hS => ?_)
            refine lv_goto (tgt := 102) hx hb dX7_rule_80 (by decide) ?_
            exact w102 S7 v1 v2 v3 v4 v6 r6  hf _ _ _ hW hS (lv_sub hl [0, 1, 2, 3, 4, 5] rfl)
      intro S v1 v2 v3 v4 v6 hf H locs ls hW hS hl
      have hf : g_X7_rule_b41 E (f_X7_rule_b41 E n41) S v1 v2 v3 v4 v6 = some (rr, SS) := hf
      unfold g_X7_rule_b41 at hf
      refine lv_iload hx hb dX7_rule_41 (lv_at hl 5 rfl) ?_
      refine lv_iload_n hx hb dX7_rule_43 rfl (lv_at hl 2 rfl) ?_
      refine lv_if_ne (tgt := 52) hx hb dX7_rule_44 (by decide) (fun h => ?_) (fun h => ?_)
      · have hf := if_f h hf
        refine lv_bipush (v := 6) hx hb dX7_rule_52 (by decide) ?_
        exact w54 S v1 v2 v3 v4 v6 (6 : Int32) v6  hf _ _ _ hW hS (lv_sub hl [0, 1, 2, 3, 4, 5] rfl)
      · have hf := if_t h hf
        refine lv_bipush (v := 10) hx hb dX7_rule_47 (by decide) ?_
        refine lv_goto (tgt := 54) hx hb dX7_rule_49 (by decide) ?_
        exact w54 S v1 v2 v3 v4 v6 (10 : Int32) v6  hf _ _ _ hW hS (lv_sub hl [0, 1, 2, 3, 4, 5] rfl)
  unfold f_X7_rule at hf
  refine lv_aload_n hx hb dX7_rule_0 rfl (lv_at hl 0 rfl) ?_
  refine lv_iload_n hx hb dX7_rule_1 rfl (lv_at hl 1 rfl) ?_
  obtain ⟨r8, hc, hf⟩ := bd_out hf
  refine y_i (va_runV (As := [.int a1]) (rest := []) hfix (m_X7_isPupil l G B E hE S a1 r8 hc) (cwV 1 hts gX7_rule_X7_isPupil rfl rfl rfl ⟨rfl, hd_X7_isPupil⟩ ⟨Nat.le_of_ble_eq_true rfl, Nat.le_of_ble_eq_true rfl⟩) (y_pv hF hW hS (c1 hE) (e1 _ _ _ _ _ _) rfl) rfl rfl hl.1 rfl (lv_room (Nat.le_of_ble_eq_true rfl)) dX7_rule_2 ⟨Nat.le_of_ble_eq_true rfl, Nat.le_of_ble_eq_true rfl⟩) hS (fun H locs hW hS => ?_)
  refine lv_if_eq (tgt := 18) hx hb dX7_rule_5 (by decide) (fun h => ?_) (fun h => ?_)
  · have hf := if_t h hf
    refine lv_bipush (v := -2) hx hb dX7_rule_18 (by decide) ?_
    exact z_i hf hx hb hr rfl hF hW hS dX7_rule_20 hlocks
  · have hf := if_f h hf
    refine lv_aload_n hx hb dX7_rule_8 rfl (lv_at hl 0 rfl) ?_
    refine lv_iload_n hx hb dX7_rule_9 rfl (lv_at hl 2 rfl) ?_
    refine lv_iconst (v := 0) hx hb dX7_rule_10 rfl ?_
    refine lv_iconst (v := 1) hx hb dX7_rule_11 rfl ?_
    obtain ⟨r9, hc, hf⟩ := bd_out hf
    refine y_i (va_runV (As := [.int a2, .int (0 : Int32), .int (1 : Int32)]) (rest := []) hfix (m_X7_in l G B E hE S a2 (0 : Int32) (1 : Int32) r9 hc) (cwV 3 hts gX7_rule_X7_in rfl rfl rfl ⟨rfl, hd_X7_in⟩ ⟨Nat.le_of_ble_eq_true rfl, Nat.le_of_ble_eq_true rfl⟩) (y_pv hF hW hS (c1 hE) (e1 _ _ _ _ _ _) rfl) rfl rfl hl.1 rfl (lv_room (Nat.le_of_ble_eq_true rfl)) dX7_rule_12 ⟨Nat.le_of_ble_eq_true rfl, Nat.le_of_ble_eq_true rfl⟩) hS (fun H locs hW hS => ?_)
    refine lv_if_ne (tgt := 21) hx hb dX7_rule_15 (by decide) (fun h => ?_) (fun h => ?_)
    · have hf := if_f h hf
      refine lv_aload_n hx hb dX7_rule_21 rfl (lv_at hl 0 rfl) ?_
      refine lv_aload_n hx hb dX7_rule_22 rfl (lv_at hl 0 rfl) ?_
      refine x_get hx hb hts hi7 hown hK hW (c1 hE) (e1 _ _ _ _ _ _) rfl 3 (Nat.le_of_ble_eq_true rfl) q3 (fun _ h => h) (v := .ref (B 43 0)) rfl dX7_rule_23 ?_
      refine lv_iload_n hx hb dX7_rule_26 rfl (lv_at hl 1 rfl) ?_
      obtain ⟨hi_10, hf⟩ := ck_out hf
      have hi_10 := ib_in hi_10
      refine x_iald hx hb hK hW (c43 hE) (e43 _ _ _ _ _ _) hi_10 (jn := a1.toNatClampNeg) rfl dX7_rule_27 ?_
      obtain ⟨S11, hc, hf⟩ := bd_out hf
      refine y_v (va_runV (As := [.int (gI S 43 0 a1.toNatClampNeg)]) (rest := []) hfix (m_X7_layRule l G B E hE S (gI S 43 0 a1.toNatClampNeg) S11 hc) (cwV 1 hts gX7_rule_X7_layRule rfl rfl rfl ⟨rfl, hd_X7_layRule⟩ ⟨Nat.le_of_ble_eq_true rfl, Nat.le_of_ble_eq_true rfl⟩) (y_pv hF hW hS (c1 hE) (e1 _ _ _ _ _ _) rfl) rfl rfl hl.1 rfl (lv_room (Nat.le_of_ble_eq_true rfl)) dX7_rule_28 ⟨Nat.le_of_ble_eq_true rfl, Nat.le_of_ble_eq_true rfl⟩) hS (fun H locs hW hS => ?_)
      refine lv_iconst (v := 0) hx hb dX7_rule_31 rfl ?_
      refine lv_istore_n (lv' := [(3, .int (0 : Int32)), (0, .ref (B 1 0)), (1, .int a1), (2, .int a2)]) hx hb dX7_rule_32 rfl hl (by decide) rfl (fun ls hl => ?_)
      refine lv_ldc2 hx hb hown q4 dX7_rule_33 ?_
      refine lv_lstore (lv' := [(4, .long (-1 : Int64)), (3, .int (0 : Int32)), (0, .ref (B 1 0)), (1, .int a1), (2, .int a2)]) hx hb dX7_rule_36 hl (by decide) rfl (fun ls hl => ?_)
      refine lv_iconst (v := 0) hx hb dX7_rule_38 rfl ?_
      refine lv_istore (lv' := [(6, .int (0 : Int32)), (4, .long (-1 : Int64)), (3, .int (0 : Int32)), (0, .ref (B 1 0)), (1, .int a1), (2, .int a2)]) hx hb dX7_rule_39 hl (by decide) rfl (fun ls hl => ?_)
      exact w41 E.1 S11 a1 a2 (0 : Int32) (-1 : Int64) (0 : Int32)  hf _ _ _ hW hS (lv_sub hl [3, 4, 5, 2, 1, 0] rfl)
    · have hf := if_t h hf
      refine lv_bipush (v := -2) hx hb dX7_rule_18 (by decide) ?_
      exact z_i hf hx hb hr rfl hF hW hS dX7_rule_20 hlocks
set_option maxHeartbeats 4000000 in
set_option maxRecDepth 100000 in
theorem m_X7_isSheet (l : Launch) (G : GE) (B : Nat → Nat → Nat) (E : EN) (hE : 0 < E.2.2.2)  (S : ST) (a1 : Int32) (rr : Int32) (hf : f_X7_isSheet E S a1 = some rr) : Met l yX7_isSheet wsX7_isSheet (rmN 2) (va_Pc [.ref (B 1 0), .int a1] (WS G B E S)) (QI G B E S rr) 0 0 (AA G) := by
  refine Met.ofW (cc := cX7_isSheet) (maxL := 2) (ret := (some .boolean)) (by decide) rfl ?_
  intro p e s m args below meth c s₁ B0 hml hv
  obtain ⟨rfl, hW, hF⟩ := hv
  have hx := B0.exec
  have hb := B0.bytes
  have hr := B0.returns
  have hts := atoms_spec (ws := wsX7_isSheet) B0.pre
  have hown : s.vm.findClass RX7 = some m.cls := findClass_of_methodNamed B0.named
  have hlocks := B0.notSynchronized
  have hK := hF.1
  have hfix : CallFix p m c cX7_isSheet 2 s [.ref (B 1 0), .int a1].toArray wsX7_isSheet RX7 := ⟨hx, hb, hml, hown, hts⟩
  have hS : va_S (AA G) s.heap s.heap [] := va_S.rf
  have hl := lv_entry [.ref (B 1 0), .int a1] (n := 2) (Nat.le_of_ble_eq_true rfl)
  rw [lg_entry_eq]
  generalize (lg_sl [.ref (B 1 0), .int a1] ++ List.replicate (2 - (lg_sl [.ref (B 1 0), .int a1]).length) Slot.unset).toArray = ls at hl ⊢
  have hl : lv_has ls 2 [(0, .ref (B 1 0)), (1, .int a1)] := hl
  unfold f_X7_isSheet at hf
  refine lv_aload_n hx hb dX7_isSheet_0 rfl (lv_at hl 0 rfl) ?_
  refine lv_iload_n hx hb dX7_isSheet_1 rfl (lv_at hl 1 rfl) ?_
  refine lv_iconst (v := 0) hx hb dX7_isSheet_2 rfl ?_
  refine lv_iconst (v := 3) hx hb dX7_isSheet_3 rfl ?_
  obtain ⟨r1, hc, hf⟩ := bd_out hf
  refine y_i (va_runV (As := [.int a1, .int (0 : Int32), .int (3 : Int32)]) (rest := []) hfix (m_X7_in l G B E hE S a1 (0 : Int32) (3 : Int32) r1 hc) (cwV 3 hts gX7_isSheet_X7_in rfl rfl rfl ⟨rfl, hd_X7_in⟩ ⟨Nat.le_of_ble_eq_true rfl, Nat.le_of_ble_eq_true rfl⟩) (y_pv hF hW hS (c1 hE) (e1 _ _ _ _ _ _) rfl) rfl rfl hl.1 rfl (lv_room (Nat.le_of_ble_eq_true rfl)) dX7_isSheet_4 ⟨Nat.le_of_ble_eq_true rfl, Nat.le_of_ble_eq_true rfl⟩) hS (fun H locs hW hS => ?_)
  obtain ⟨hb2, hf⟩ := ck_out hf
  exact zr_i hf hx hb hr (ob_n hb2) hF hW hS dX7_isSheet_7 hlocks
set_option maxHeartbeats 4000000 in
set_option maxRecDepth 100000 in
theorem m_X7_room (l : Launch) (G : GE) (B : Nat → Nat → Nat) (E : EN) (hE : 0 < E.2.2.2)  (S : ST) (a1 : Int32) (a2 : Int32) (a3 : Int32) (rr : Int32) (SS : ST) (hf : f_X7_room E S a1 a2 a3 = some (rr, SS)) : Met l yX7_room wsX7_room (rmN 6) (va_Pc [.ref (B 1 0), .int a1, .int a2, .int a3] (WS G B E S)) (QI G B E SS rr) 0 0 (AA G) := by
  refine Met.ofW (cc := cX7_room) (maxL := 8) (ret := (some .int)) (by decide) rfl ?_
  intro p e s m args below meth c s₁ B0 hml hv
  obtain ⟨rfl, hW, hF⟩ := hv
  have hx := B0.exec
  have hb := B0.bytes
  have hr := B0.returns
  have hts := atoms_spec (ws := wsX7_room) B0.pre
  have hown : s.vm.findClass RX7 = some m.cls := findClass_of_methodNamed B0.named
  have hlocks := B0.notSynchronized
  have hK := hF.1
  have hfix : CallFix p m c cX7_room 8 s [.ref (B 1 0), .int a1, .int a2, .int a3].toArray wsX7_room RX7 := ⟨hx, hb, hml, hown, hts⟩
  have hS : va_S (AA G) s.heap s.heap [] := va_S.rf
  have hl := lv_entry [.ref (B 1 0), .int a1, .int a2, .int a3] (n := 8) (Nat.le_of_ble_eq_true rfl)
  rw [lg_entry_eq]
  generalize (lg_sl [.ref (B 1 0), .int a1, .int a2, .int a3] ++ List.replicate (8 - (lg_sl [.ref (B 1 0), .int a1, .int a2, .int a3]).length) Slot.unset).toArray = ls at hl ⊢
  have hl : lv_has ls 8 [(0, .ref (B 1 0)), (1, .int a1), (2, .int a2), (3, .int a3)] := hl
  have q0 := hts (.fieldLink RX7 143 "MovesUpModel" "sure" "[J") (List.mem_of_getElem? (i := 5) rfl)
  have q1 := hts (.fieldLink RX7 1 "MovesUpModel" "pupils" "I") (List.mem_of_getElem? (i := 1) rfl)
  have q2 := hts (.fieldLink RX7 171 "MovesUpModel" "item" "[I") (List.mem_of_getElem? (i := 4) rfl)
  have q3 := hts (.constantLong RX7 333 (10000)) (List.mem_of_getElem? (i := 6) rfl)
  have q4 := hts (.fieldLink RX7 114 "MovesUpModel" "gradeAt" "[I") (List.mem_of_getElem? (i := 7) rfl)
  have q5 := hts (.fieldLink RX7 165 "MovesUpModel" "sort" "[I") (List.mem_of_getElem? (i := 2) rfl)
  have q6 := hts (.fieldLink RX7 168 "MovesUpModel" "rows" "[I") (List.mem_of_getElem? (i := 3) rfl)
  have hi7 : ∀ w ∈ u_ws RX7 TX7 47, w ∈ wsX7_room := in_seg 93 rfl
  have w212 : ∀ (n212 : Nat) (S : ST) (v1 : Int32) (v2 : Int32) (v4 : Int32) (v5 : Int32) , f_X7_room_b212 E n212 S v1 v2 v4 v5 = some (rr, SS) → ∀ (H : Heap) (locs : List Loc) (ls : Array Slot), WH G B E S H → va_S (AA G) s.heap H locs → lv_has ls 8 [(0, .ref (B 1 0)), (1, .int v1), (2, .int v2), (4, .int v4), (5, .int v5)] → W p l e (headSpec wsX7_room (rmN 6)).room s m [.ref (B 1 0), .int a1, .int a2, .int a3].toArray below meth c H locs 0 0 (MQ below (QI G B E SS rr) [.ref (B 1 0), .int a1, .int a2, .int a3].toArray s 0 0 (AA G)) (F0 m 212 ls []) := by
    intro n212
    induction n212 with
    | zero =>
      intro S v1 v2 v4 v5 hf
      exact absurd (show (none : Option (Int32 × ST)) = some (rr, SS) from hf) (fun h => by cases h)
    | succ n212 ih212 =>
      have w302 : ∀ (S : ST) (v1 : Int32) (v2 : Int32) (v5 : Int32) (t0 : Int32) (t1 : Int32) , f_X7_room_b302 E (f_X7_room_b212 E n212) S v1 v2 v5 t0 t1 = some (rr, SS) → ∀ (H : Heap) (locs : List Loc) (ls : Array Slot), WH G B E S H → va_S (AA G) s.heap H locs → lv_has ls 8 [(0, .ref (B 1 0)), (1, .int v1), (2, .int v2), (5, .int v5)] → W p l e (headSpec wsX7_room (rmN 6)).room s m [.ref (B 1 0), .int a1, .int a2, .int a3].toArray below meth c H locs 0 0 (MQ below (QI G B E SS rr) [.ref (B 1 0), .int a1, .int a2, .int a3].toArray s 0 0 (AA G)) (F0 m 302 ls [.int t0, .int t1]) := by
        intro S v1 v2 v5 t0 t1 hf H locs ls hW hS hl
        unfold f_X7_room_b302 at hf
        refine lv_ior hx hb dX7_room_302 ?_
        obtain ⟨x1, e_x1, hf⟩ := lt_out hf
        refine x_nmI e_x1 ?_
        refine lv_istore (lv' := [(4, .int x1), (0, .ref (B 1 0)), (1, .int v1), (2, .int v2), (5, .int v5)]) hx hb dX7_room_303 hl (by decide) rfl (fun ls hl => ?_)
        obtain ⟨x2, e_x2, hf⟩ := lt_out hf
        refine lv_iinc (v := x2) (lv' := [(5, .int x2), (4, .int x1), (0, .ref (B 1 0)), (1, .int v1), (2, .int v2)]) hx hb dX7_room_305 hl (k := 4) rfl (by rw [e_x2]; rfl) (by decide) rfl (fun ls hl => ?_)
        refine lv_goto (tgt := 212) hx hb dX7_room_308 (by decide) ?_
        exact ih212 S v1 v2 x1 x2  hf _ _ _ hW hS (lv_sub hl [2, 3, 4, 1, 0] rfl)
      have w287 : ∀ (S : ST) (v1 : Int32) (v2 : Int32) (v4 : Int32) (v5 : Int32) (v6 : Int32) , f_X7_room_b287 E (f_X7_room_b212 E n212) S v1 v2 v4 v5 v6 = some (rr, SS) → ∀ (H : Heap) (locs : List Loc) (ls : Array Slot), WH G B E S H → va_S (AA G) s.heap H locs → lv_has ls 8 [(0, .ref (B 1 0)), (1, .int v1), (2, .int v2), (4, .int v4), (5, .int v5), (6, .int v6)] → W p l e (headSpec wsX7_room (rmN 6)).room s m [.ref (B 1 0), .int a1, .int a2, .int a3].toArray below meth c H locs 0 0 (MQ below (QI G B E SS rr) [.ref (B 1 0), .int a1, .int a2, .int a3].toArray s 0 0 (AA G)) (F0 m 287 ls []) := by
        intro S v1 v2 v4 v5 v6 hf H locs ls hW hS hl
        unfold f_X7_room_b287 at hf
        refine lv_iload hx hb dX7_room_287 (lv_at hl 3 rfl) ?_
        refine lv_iload hx hb dX7_room_289 (lv_at hl 5 rfl) ?_
        refine lv_if_ge (tgt := 298) hx hb dX7_room_291 (by decide) (fun h => ?_) (fun h => ?_)
        · have hf := if_t h hf
          refine lv_iconst (v := 1) hx hb dX7_room_298 rfl ?_
          refine lv_iload hx hb dX7_room_299 (lv_at hl 5 rfl) ?_
          refine lv_ishl hx hb dX7_room_301 ?_
          exact w302 S v1 v2 v5 ((1 : Int32) <<< (v6 &&& 31)) v4  hf _ _ _ hW hS (lv_sub hl [0, 1, 2, 4] rfl)
        · have hf := if_f h hf
          refine lv_iconst (v := 0) hx hb dX7_room_294 rfl ?_
          refine lv_goto (tgt := 302) hx hb dX7_room_295 (by decide) ?_
          exact w302 S v1 v2 v5 (0 : Int32) v4  hf _ _ _ hW hS (lv_sub hl [0, 1, 2, 4] rfl)
      have w229 : ∀ (n229 : Nat) (S : ST) (v1 : Int32) (v2 : Int32) (v4 : Int32) (v5 : Int32) (v6 : Int32) (v7 : Int32) , f_X7_room_b229 E (f_X7_room_b212 E n212) n229 S v1 v2 v4 v5 v6 v7 = some (rr, SS) → ∀ (H : Heap) (locs : List Loc) (ls : Array Slot), WH G B E S H → va_S (AA G) s.heap H locs → lv_has ls 8 [(0, .ref (B 1 0)), (1, .int v1), (2, .int v2), (4, .int v4), (5, .int v5), (6, .int v6), (7, .int v7)] → W p l e (headSpec wsX7_room (rmN 6)).room s m [.ref (B 1 0), .int a1, .int a2, .int a3].toArray below meth c H locs 0 0 (MQ below (QI G B E SS rr) [.ref (B 1 0), .int a1, .int a2, .int a3].toArray s 0 0 (AA G)) (F0 m 229 ls []) := by
        intro n229
        induction n229 with
        | zero =>
          intro S v1 v2 v4 v5 v6 v7 hf
          exact absurd (show (none : Option (Int32 × ST)) = some (rr, SS) from hf) (fun h => by cases h)
        | succ n229 ih229 =>
          have w281 : ∀ (S : ST) (v1 : Int32) (v2 : Int32) (v4 : Int32) (v5 : Int32) (v6 : Int32) (v7 : Int32) , f_X7_room_b281 E (f_X7_room_b212 E n212) (f_X7_room_b229 E (f_X7_room_b212 E n212) n229) S v1 v2 v4 v5 v6 v7 = some (rr, SS) → ∀ (H : Heap) (locs : List Loc) (ls : Array Slot), WH G B E S H → va_S (AA G) s.heap H locs → lv_has ls 8 [(0, .ref (B 1 0)), (1, .int v1), (2, .int v2), (4, .int v4), (5, .int v5), (6, .int v6), (7, .int v7)] → W p l e (headSpec wsX7_room (rmN 6)).room s m [.ref (B 1 0), .int a1, .int a2, .int a3].toArray below meth c H locs 0 0 (MQ below (QI G B E SS rr) [.ref (B 1 0), .int a1, .int a2, .int a3].toArray s 0 0 (AA G)) (F0 m 281 ls []) := by
            intro S v1 v2 v4 v5 v6 v7 hf H locs ls hW hS hl
            unfold f_X7_room_b281 at hf
            obtain ⟨x3, e_x3, hf⟩ := lt_out hf
            refine lv_iinc (v := x3) (lv' := [(7, .int x3), (0, .ref (B 1 0)), (1, .int v1), (2, .int v2), (4, .int v4), (5, .int v5), (6, .int v6)]) hx hb dX7_room_281 hl (k := 6) rfl (by rw [e_x3]; rfl) (by decide) rfl (fun ls hl => ?_)
            refine lv_goto (tgt := 229) hx hb dX7_room_284 (by decide) ?_
            exact ih229 S v1 v2 v4 v5 v6 x3  hf _ _ _ hW hS (lv_sub hl [1, 2, 3, 4, 5, 6, 0] rfl)
          have w277 : ∀ (S : ST) (v1 : Int32) (v2 : Int32) (v4 : Int32) (v5 : Int32) (v7 : Int32) , f_X7_room_b277 E (f_X7_room_b212 E n212) (f_X7_room_b229 E (f_X7_room_b212 E n212) n229) S v1 v2 v4 v5 v7 = some (rr, SS) → ∀ (H : Heap) (locs : List Loc) (ls : Array Slot), WH G B E S H → va_S (AA G) s.heap H locs → lv_has ls 8 [(0, .ref (B 1 0)), (1, .int v1), (2, .int v2), (4, .int v4), (5, .int v5), (7, .int v7)] → W p l e (headSpec wsX7_room (rmN 6)).room s m [.ref (B 1 0), .int a1, .int a2, .int a3].toArray below meth c H locs 0 0 (MQ below (QI G B E SS rr) [.ref (B 1 0), .int a1, .int a2, .int a3].toArray s 0 0 (AA G)) (F0 m 277 ls []) := by
            intro S v1 v2 v4 v5 v7 hf H locs ls hW hS hl
            unfold f_X7_room_b277 at hf
            refine lv_iload hx hb dX7_room_277 (lv_at hl 5 rfl) ?_
            refine lv_istore (lv' := [(6, .int v7), (0, .ref (B 1 0)), (1, .int v1), (2, .int v2), (4, .int v4), (5, .int v5), (7, .int v7)]) hx hb dX7_room_279 hl (by decide) rfl (fun ls hl => ?_)
            exact w281 S v1 v2 v4 v5 v7 v7  hf _ _ _ hW hS (lv_sub hl [1, 2, 3, 4, 5, 0, 6] rfl)
          intro S v1 v2 v4 v5 v6 v7 hf H locs ls hW hS hl
          have hf : g_X7_room_b229 E (f_X7_room_b212 E n212) (f_X7_room_b229 E (f_X7_room_b212 E n212) n229) S v1 v2 v4 v5 v6 v7 = some (rr, SS) := hf
          unfold g_X7_room_b229 at hf
          refine lv_iload hx hb dX7_room_229 (lv_at hl 6 rfl) ?_
          refine lv_if_lt (tgt := 287) hx hb dX7_room_231 (by decide) (fun h => ?_) (fun h => ?_)
          · have hf := if_t h hf
            exact w287 S v1 v2 v4 v5 v6  hf _ _ _ hW hS (lv_sub hl [0, 1, 2, 3, 4, 5] rfl)
          · have hf := if_f h hf
            refine lv_iload_n hx hb dX7_room_234 rfl (lv_at hl 1 rfl) ?_
            refine lv_iload hx hb dX7_room_235 (lv_at hl 6 rfl) ?_
            refine lv_ishr hx hb dX7_room_237 ?_
            refine lv_iconst (v := 1) hx hb dX7_room_238 rfl ?_
            refine lv_iand hx hb dX7_room_239 ?_
            refine lv_iconst (v := 1) hx hb dX7_room_240 rfl ?_
            refine lv_icmp_ne (tgt := 281) hx hb dX7_room_241 (by decide) (fun h => ?_) (fun h => ?_)
            · have hf := if_f h hf
              exact w281 S v1 v2 v4 v5 v6 v7  hf _ _ _ hW hS (lv_sub hl [0, 1, 2, 3, 4, 5, 6] rfl)
            · have hf := if_t h hf
              refine lv_iload hx hb dX7_room_244 (lv_at hl 3 rfl) ?_
              refine lv_iload hx hb dX7_room_246 (lv_at hl 6 rfl) ?_
              refine lv_ishr hx hb dX7_room_248 ?_
              refine lv_iconst (v := 1) hx hb dX7_room_249 rfl ?_
              refine lv_iand hx hb dX7_room_250 ?_
              refine lv_if_ne (tgt := 281) hx hb dX7_room_251 (by decide) (fun h => ?_) (fun h => ?_)
              · have hf := if_f h hf
                exact w281 S v1 v2 v4 v5 v6 v7  hf _ _ _ hW hS (lv_sub hl [0, 1, 2, 3, 4, 5, 6] rfl)
              · have hf := if_t h hf
                refine lv_iload hx hb dX7_room_254 (lv_at hl 5 rfl) ?_
                refine lv_if_lt (tgt := 277) hx hb dX7_room_256 (by decide) (fun h => ?_) (fun h => ?_)
                · have hf := if_t h hf
                  exact w277 S v1 v2 v4 v5 v7  hf _ _ _ hW hS (lv_sub hl [0, 1, 2, 3, 4, 6] rfl)
                · have hf := if_f h hf
                  refine lv_aload_n hx hb dX7_room_259 rfl (lv_at hl 0 rfl) ?_
                  refine x_get hx hb hts hi7 hown hK hW (c1 hE) (e1 _ _ _ _ _ _) rfl 36 (Nat.le_of_ble_eq_true rfl) q0 (fun _ h => h) (v := .ref (B 76 0)) rfl dX7_room_260 ?_
                  refine lv_iload hx hb dX7_room_263 (lv_at hl 6 rfl) ?_
                  obtain ⟨hi_4, hf⟩ := ck_out hf
                  have hi_4 := ib_in hi_4
                  refine x_lald hx hb hK hW (c76 hE) (e76 _ _ _ _ _ _) hi_4 (jn := v7.toNatClampNeg) rfl dX7_room_265 ?_
                  refine lv_aload_n hx hb dX7_room_266 rfl (lv_at hl 0 rfl) ?_
                  refine x_get hx hb hts hi7 hown hK hW (c1 hE) (e1 _ _ _ _ _ _) rfl 36 (Nat.le_of_ble_eq_true rfl) q0 (fun _ h => h) (v := .ref (B 76 0)) rfl dX7_room_267 ?_
                  refine lv_iload hx hb dX7_room_270 (lv_at hl 5 rfl) ?_
                  obtain ⟨hi_5, hf⟩ := ck_out hf
                  have hi_5 := ib_in hi_5
                  refine x_lald hx hb hK hW (c76 hE) (e76 _ _ _ _ _ _) hi_5 (jn := v6.toNatClampNeg) rfl dX7_room_272 ?_
                  refine W.lcmp hx hb dX7_room_273 ?_
                  refine lv_if_lt (tgt := 281) hx hb dX7_room_274 (by decide) (fun h => ?_) (fun h => ?_)
                  · have h := (lg_cmp_lt _ _).mp h
                    have hf := if_t h hf
                    exact w281 S v1 v2 v4 v5 v6 v7  hf _ _ _ hW hS (lv_sub hl [0, 1, 2, 3, 4, 5, 6] rfl)
                  · have h := fun q => h ((lg_cmp_lt _ _).mpr q)
                    have hf := if_f h hf
                    exact w277 S v1 v2 v4 v5 v7  hf _ _ _ hW hS (lv_sub hl [0, 1, 2, 3, 4, 6] rfl)
      intro S v1 v2 v4 v5 hf H locs ls hW hS hl
      have hf : g_X7_room_b212 E (f_X7_room_b212 E n212) S v1 v2 v4 v5 = some (rr, SS) := hf
      unfold g_X7_room_b212 at hf
      refine lv_iload hx hb dX7_room_212 (lv_at hl 4 rfl) ?_
      refine lv_iload_n hx hb dX7_room_214 rfl (lv_at hl 2 rfl) ?_
      refine lv_icmp_ge (tgt := 311) hx hb dX7_room_215 (by decide) (fun h => ?_) (fun h => ?_)
      · have hf := if_t h hf
        refine lv_iload hx hb dX7_room_311 (lv_at hl 3 rfl) ?_
        exact z_i hf hx hb hr rfl hF hW hS dX7_room_313 hlocks
      · have hf := if_f h hf
        refine lv_iconst (v := -1) hx hb dX7_room_218 rfl ?_
        refine lv_istore (lv' := [(6, .int (-1 : Int32)), (0, .ref (B 1 0)), (1, .int v1), (2, .int v2), (4, .int v4), (5, .int v5)]) hx hb dX7_room_219 hl (by decide) rfl (fun ls hl => ?_)
        refine lv_aload_n hx hb dX7_room_221 rfl (lv_at hl 1 rfl) ?_
        refine x_get hx hb hts hi7 hown hK hW (c1 hE) (e1 _ _ _ _ _ _) rfl 0 (Nat.le_of_ble_eq_true rfl) q1 (fun _ h => h) (v := .int (gI S 1 0 0)) rfl dX7_room_222 ?_
        refine lv_iconst (v := 1) hx hb dX7_room_225 rfl ?_
        refine lv_isub hx hb dX7_room_226 ?_
        obtain ⟨x6, e_x6, hf⟩ := lt_out hf
        refine x_nmI e_x6 ?_
        refine lv_istore (lv' := [(7, .int x6), (6, .int (-1 : Int32)), (0, .ref (B 1 0)), (1, .int v1), (2, .int v2), (4, .int v4), (5, .int v5)]) hx hb dX7_room_227 hl (by decide) rfl (fun ls hl => ?_)
        exact w229 E.1 S v1 v2 v4 v5 (-1 : Int32) x6  hf _ _ _ hW hS (lv_sub hl [2, 3, 4, 5, 6, 1, 0] rfl)
  have w206 : ∀ (S : ST) (v1 : Int32) (v2 : Int32) , f_X7_room_b206 E S v1 v2 = some (rr, SS) → ∀ (H : Heap) (locs : List Loc) (ls : Array Slot), WH G B E S H → va_S (AA G) s.heap H locs → lv_has ls 8 [(0, .ref (B 1 0)), (1, .int v1), (2, .int v2)] → W p l e (headSpec wsX7_room (rmN 6)).room s m [.ref (B 1 0), .int a1, .int a2, .int a3].toArray below meth c H locs 0 0 (MQ below (QI G B E SS rr) [.ref (B 1 0), .int a1, .int a2, .int a3].toArray s 0 0 (AA G)) (F0 m 206 ls []) := by
    intro S v1 v2 hf H locs ls hW hS hl
    unfold f_X7_room_b206 at hf
    refine lv_iconst (v := 0) hx hb dX7_room_206 rfl ?_
    refine lv_istore (lv' := [(4, .int (0 : Int32)), (0, .ref (B 1 0)), (1, .int v1), (2, .int v2)]) hx hb dX7_room_207 hl (by decide) rfl (fun ls hl => ?_)
    refine lv_iconst (v := 0) hx hb dX7_room_209 rfl ?_
    refine lv_istore (lv' := [(5, .int (0 : Int32)), (4, .int (0 : Int32)), (0, .ref (B 1 0)), (1, .int v1), (2, .int v2)]) hx hb dX7_room_210 hl (by decide) rfl (fun ls hl => ?_)
    exact w212 E.1 S v1 v2 (0 : Int32) (0 : Int32)  hf _ _ _ hW hS (lv_sub hl [2, 3, 4, 1, 0] rfl)
  have w110 : ∀ (n110 : Nat) (S : ST) (v1 : Int32) (v2 : Int32) (v3 : Int32) (v4 : Int32) , f_X7_room_b110 E n110 S v1 v2 v3 v4 = some (rr, SS) → ∀ (H : Heap) (locs : List Loc) (ls : Array Slot), WH G B E S H → va_S (AA G) s.heap H locs → lv_has ls 8 [(0, .ref (B 1 0)), (1, .int v1), (2, .int v2), (3, .int v3), (4, .int v4)] → W p l e (headSpec wsX7_room (rmN 6)).room s m [.ref (B 1 0), .int a1, .int a2, .int a3].toArray below meth c H locs 0 0 (MQ below (QI G B E SS rr) [.ref (B 1 0), .int a1, .int a2, .int a3].toArray s 0 0 (AA G)) (F0 m 110 ls []) := by
    intro n110
    induction n110 with
    | zero =>
      intro S v1 v2 v3 v4 hf
      exact absurd (show (none : Option (Int32 × ST)) = some (rr, SS) from hf) (fun h => by cases h)
    | succ n110 ih110 =>
      have w199 : ∀ (S : ST) (v1 : Int32) (v2 : Int32) (v3 : Int32) (v4 : Int32) (t0 : Int64) (t1 : Int32) , f_X7_room_b199 E (f_X7_room_b110 E n110) S v1 v2 v3 v4 t0 t1 = some (rr, SS) → ∀ (H : Heap) (locs : List Loc) (ls : Array Slot), WH G B E S H → va_S (AA G) s.heap H locs → lv_has ls 8 [(0, .ref (B 1 0)), (1, .int v1), (2, .int v2), (3, .int v3), (4, .int v4)] → W p l e (headSpec wsX7_room (rmN 6)).room s m [.ref (B 1 0), .int a1, .int a2, .int a3].toArray below meth c H locs 0 0 (MQ below (QI G B E SS rr) [.ref (B 1 0), .int a1, .int a2, .int a3].toArray s 0 0 (AA G)) (F0 m 199 ls [.long t0, .int t1, .ref (B 76 0)]) := by
        intro S v1 v2 v3 v4 t0 t1 hf H locs ls hW hS hl
        unfold f_X7_room_b199 at hf
        obtain ⟨hi_7, hf⟩ := ck_out hf
        have hi_7 := ib_in hi_7
        obtain ⟨S8, e_S8, hf⟩ := lt_out hf
        refine x_last hx hb hK hW hS (c76 hE) (fun g => e76 _ _ _ _ g _) hi_7 (jn := t1.toNatClampNeg) rfl e_S8 dX7_room_199 (fun H locs hW hS => ?_)
        obtain ⟨x9, e_x9, hf⟩ := lt_out hf
        refine lv_iinc (v := x9) (lv' := [(4, .int x9), (0, .ref (B 1 0)), (1, .int v1), (2, .int v2), (3, .int v3)]) hx hb dX7_room_200 hl (k := 4) rfl (by rw [e_x9]; rfl) (by decide) rfl (fun ls hl => ?_)
        refine lv_goto (tgt := 110) hx hb dX7_room_203 (by decide) ?_
        exact ih110 S8 v1 v2 v3 x9  hf _ _ _ hW hS (lv_sub hl [1, 2, 3, 4, 0] rfl)
      intro S v1 v2 v3 v4 hf H locs ls hW hS hl
      have hf : g_X7_room_b110 E (f_X7_room_b110 E n110) S v1 v2 v3 v4 = some (rr, SS) := hf
      unfold g_X7_room_b110 at hf
      refine lv_iload hx hb dX7_room_110 (lv_at hl 4 rfl) ?_
      refine lv_aload_n hx hb dX7_room_112 rfl (lv_at hl 0 rfl) ?_
      refine x_get hx hb hts hi7 hown hK hW (c1 hE) (e1 _ _ _ _ _ _) rfl 0 (Nat.le_of_ble_eq_true rfl) q1 (fun _ h => h) (v := .int (gI S 1 0 0)) rfl dX7_room_113 ?_
      refine lv_icmp_ge (tgt := 206) hx hb dX7_room_116 (by decide) (fun h => ?_) (fun h => ?_)
      · have hf := if_t h hf
        exact w206 S v1 v2  hf _ _ _ hW hS (lv_sub hl [0, 1, 2] rfl)
      · have hf := if_f h hf
        refine lv_aload_n hx hb dX7_room_119 rfl (lv_at hl 0 rfl) ?_
        refine lv_iload hx hb dX7_room_120 (lv_at hl 4 rfl) ?_
        refine lv_aload_n hx hb dX7_room_122 rfl (lv_at hl 0 rfl) ?_
        refine x_get hx hb hts hi7 hown hK hW (c1 hE) (e1 _ _ _ _ _ _) rfl 45 (Nat.le_of_ble_eq_true rfl) q2 (fun _ h => h) (v := .ref (B 85 0)) rfl dX7_room_123 ?_
        refine lv_bipush (v := 40) hx hb dX7_room_126 (by decide) ?_
        refine lv_iload_n hx hb dX7_room_128 rfl (lv_at hl 3 rfl) ?_
        refine lv_imul hx hb dX7_room_129 ?_
        refine lv_iload hx hb dX7_room_130 (lv_at hl 4 rfl) ?_
        refine lv_iadd hx hb dX7_room_132 ?_
        obtain ⟨hi_10, hf⟩ := ck_out hf
        have hi_10 := ib_in hi_10
        refine x_iald hx hb hK hW (c85 hE) (e85 _ _ _ _ _ _) hi_10 (jn := (((40 : Int32) * v3) + v4).toNatClampNeg) rfl dX7_room_133 ?_
        obtain ⟨S11, hc, hf⟩ := bd_out hf
        refine y_v (va_runV (As := [.int v4, .int (gI S 85 0 (((40 : Int32) * v3) + v4).toNatClampNeg)]) (rest := []) hfix (m_X7_goMarks l G B E hE S v4 (gI S 85 0 (((40 : Int32) * v3) + v4).toNatClampNeg) S11 hc) (cwV 2 hts gX7_room_X7_goMarks rfl rfl rfl ⟨rfl, hd_X7_goMarks⟩ ⟨Nat.le_of_ble_eq_true rfl, Nat.le_of_ble_eq_true rfl⟩) (y_pv hF hW hS (c1 hE) (e1 _ _ _ _ _ _) rfl) rfl rfl hl.1 rfl (lv_room (Nat.le_of_ble_eq_true rfl)) dX7_room_134 ⟨Nat.le_of_ble_eq_true rfl, Nat.le_of_ble_eq_true rfl⟩) hS (fun H locs hW hS => ?_)
        refine lv_aload_n hx hb dX7_room_137 rfl (lv_at hl 0 rfl) ?_
        refine x_get hx hb hts hi7 hown hK hW (c1 hE) (e1 _ _ _ _ _ _) rfl 45 (Nat.le_of_ble_eq_true rfl) q2 (fun _ h => h) (v := .ref (B 85 0)) rfl dX7_room_138 ?_
        refine lv_bipush (v := 40) hx hb dX7_room_141 (by decide) ?_
        refine lv_iload_n hx hb dX7_room_143 rfl (lv_at hl 3 rfl) ?_
        refine lv_imul hx hb dX7_room_144 ?_
        refine lv_iload hx hb dX7_room_145 (lv_at hl 4 rfl) ?_
        refine lv_iadd hx hb dX7_room_147 ?_
        refine x_iald hx hb hK hW (c85 hE) (e85 _ _ _ _ _ _) hi_10 (jn := (((40 : Int32) * v3) + v4).toNatClampNeg) rfl dX7_room_148 ?_
        refine lv_bipush (v := 100) hx hb dX7_room_149 (by decide) ?_
        refine lv_idiv hx hb dX7_room_151 (by decide) ?_
        obtain ⟨x12, e_x12, hf⟩ := lt_out hf
        refine x_nmI e_x12 ?_
        refine lv_istore (lv' := [(5, .int x12), (0, .ref (B 1 0)), (1, .int v1), (2, .int v2), (3, .int v3), (4, .int v4)]) hx hb dX7_room_152 hl (by decide) rfl (fun ls hl => ?_)
        refine lv_aload_n hx hb dX7_room_154 rfl (lv_at hl 1 rfl) ?_
        refine x_get hx hb hts hi7 hown hK hW (c1 hE) (e1 _ _ _ _ _ _) rfl 36 (Nat.le_of_ble_eq_true rfl) q0 (fun _ h => h) (v := .ref (B 76 0)) rfl dX7_room_155 ?_
        refine lv_iload hx hb dX7_room_158 (lv_at hl 5 rfl) ?_
        refine lv_aload_n hx hb dX7_room_160 rfl (lv_at hl 1 rfl) ?_
        refine lv_iload hx hb dX7_room_161 (lv_at hl 0 rfl) ?_
        obtain ⟨r13, hc, hf⟩ := bd_out hf
        refine y_l (va_runV (As := [.int x12]) (rest := [.int v4, .ref (B 76 0)]) hfix (m_X7_sumRow l G B E hE S11 x12 r13 hc) (cwV 1 hts gX7_room_X7_sumRow rfl rfl rfl ⟨rfl, hd_X7_sumRow⟩ ⟨Nat.le_of_ble_eq_true rfl, Nat.le_of_ble_eq_true rfl⟩) (y_pv hF hW hS (c1 hE) (e1 _ _ _ _ _ _) rfl) rfl rfl hl.1 rfl (lv_room (Nat.le_of_ble_eq_true rfl)) dX7_room_163 ⟨Nat.le_of_ble_eq_true rfl, Nat.le_of_ble_eq_true rfl⟩) hS (fun H locs hW hS => ?_)
        refine lv_lconst (v := 0) hx hb dX7_room_166 rfl ?_
        refine W.lcmp hx hb dX7_room_167 ?_
        refine lv_if_ne (tgt := 175) hx hb dX7_room_168 (by decide) (fun h => ?_) (fun h => ?_)
        · have h := fun q => h ((lg_cmp_eq _ _).mpr q)
          have hf := if_f h hf
          refine lv_ldc2 hx hb hown q3 dX7_room_175 ?_
          refine lv_aload_n hx hb dX7_room_178 rfl (lv_at hl 1 rfl) ?_
          refine lv_iload hx hb dX7_room_179 (lv_at hl 0 rfl) ?_
          refine lv_aload_n hx hb dX7_room_181 rfl (lv_at hl 1 rfl) ?_
          refine x_get hx hb hts hi7 hown hK hW (c1 hE) (e1 _ _ _ _ _ _) rfl 27 (Nat.le_of_ble_eq_true rfl) q4 (fun _ h => h) (v := .ref (B 67 0)) rfl dX7_room_182 ?_
          refine lv_iload hx hb dX7_room_185 (lv_at hl 0 rfl) ?_
          obtain ⟨hi_14, hf⟩ := ck_out hf
          have hi_14 := ib_in hi_14
          refine x_iald hx hb hK hW (c67 hE) (e67 _ _ _ _ _ _) hi_14 (jn := x12.toNatClampNeg) rfl dX7_room_187 ?_
          obtain ⟨r15, hc, hf⟩ := bd_out hf
          refine y_l (va_runV (As := [.int x12, .int (gI S11 67 0 x12.toNatClampNeg)]) (rest := [.long (10000 : Int64), .int v4, .ref (B 76 0)]) hfix (m_X7_sumFrom l G B E hE S11 x12 (gI S11 67 0 x12.toNatClampNeg) r15 hc) (cwV 2 hts gX7_room_X7_sumFrom rfl rfl rfl ⟨rfl, hd_X7_sumFrom⟩ ⟨Nat.le_of_ble_eq_true rfl, Nat.le_of_ble_eq_true rfl⟩) (y_pv hF hW hS (c1 hE) (e1 _ _ _ _ _ _) rfl) rfl rfl hl.1 rfl (lv_room (Nat.le_of_ble_eq_true rfl)) dX7_room_188 ⟨Nat.le_of_ble_eq_true rfl, Nat.le_of_ble_eq_true rfl⟩) hS (fun H locs hW hS => ?_)
          refine lv_lmul hx hb dX7_room_191 ?_
          refine lv_aload_n hx hb dX7_room_192 rfl (lv_at hl 1 rfl) ?_
          refine lv_iload hx hb dX7_room_193 (lv_at hl 0 rfl) ?_
          obtain ⟨r16, hc, hf⟩ := bd_out hf
          refine y_l (va_runV (As := [.int x12]) (rest := [.long ((10000 : Int64) * r15), .int v4, .ref (B 76 0)]) hfix (m_X7_sumRow l G B E hE S11 x12 r16 hc) (cwV 1 hts gX7_room_X7_sumRow rfl rfl rfl ⟨rfl, hd_X7_sumRow⟩ ⟨Nat.le_of_ble_eq_true rfl, Nat.le_of_ble_eq_true rfl⟩) (y_pv hF hW hS (c1 hE) (e1 _ _ _ _ _ _) rfl) rfl rfl hl.1 rfl (lv_room (Nat.le_of_ble_eq_true rfl)) dX7_room_195 ⟨Nat.le_of_ble_eq_true rfl, Nat.le_of_ble_eq_true rfl⟩) hS (fun H locs hW hS => ?_)
          obtain ⟨hz17, hf⟩ := ck_out hf
          have hz17 := nz_ hz17
          refine lv_ldiv hx hb dX7_room_198 hz17 ?_
          exact w199 S11 v1 v2 v3 v4 (((10000 : Int64) * r15) / r16) v4  hf _ _ _ hW hS (lv_sub hl [1, 2, 3, 4, 5] rfl)
        · have h := (lg_cmp_eq _ _).mp h
          have hf := if_t h hf
          refine lv_lconst (v := 0) hx hb dX7_room_171 rfl ?_
          refine lv_goto (tgt := 199) hx hb dX7_room_172 (by decide) ?_
          exact w199 S11 v1 v2 v3 v4 (0 : Int64) v4  hf _ _ _ hW hS (lv_sub hl [1, 2, 3, 4, 5] rfl)
  have w107 : ∀ (S : ST) (v1 : Int32) (v2 : Int32) (v3 : Int32) , f_X7_room_b107 E S v1 v2 v3 = some (rr, SS) → ∀ (H : Heap) (locs : List Loc) (ls : Array Slot), WH G B E S H → va_S (AA G) s.heap H locs → lv_has ls 8 [(0, .ref (B 1 0)), (1, .int v1), (2, .int v2), (3, .int v3)] → W p l e (headSpec wsX7_room (rmN 6)).room s m [.ref (B 1 0), .int a1, .int a2, .int a3].toArray below meth c H locs 0 0 (MQ below (QI G B E SS rr) [.ref (B 1 0), .int a1, .int a2, .int a3].toArray s 0 0 (AA G)) (F0 m 107 ls []) := by
    intro S v1 v2 v3 hf H locs ls hW hS hl
    unfold f_X7_room_b107 at hf
    refine lv_iconst (v := 0) hx hb dX7_room_107 rfl ?_
    refine lv_istore (lv' := [(4, .int (0 : Int32)), (0, .ref (B 1 0)), (1, .int v1), (2, .int v2), (3, .int v3)]) hx hb dX7_room_108 hl (by decide) rfl (fun ls hl => ?_)
    exact w110 E.1 S v1 v2 v3 (0 : Int32)  hf _ _ _ hW hS (lv_sub hl [1, 2, 3, 4, 0] rfl)
  have w70 : ∀ (n70 : Nat) (S : ST) (v1 : Int32) (v2 : Int32) (v3 : Int32) (v4 : Int32) , f_X7_room_b70 E n70 S v1 v2 v3 v4 = some (rr, SS) → ∀ (H : Heap) (locs : List Loc) (ls : Array Slot), WH G B E S H → va_S (AA G) s.heap H locs → lv_has ls 8 [(0, .ref (B 1 0)), (1, .int v1), (2, .int v2), (3, .int v3), (4, .int v4)] → W p l e (headSpec wsX7_room (rmN 6)).room s m [.ref (B 1 0), .int a1, .int a2, .int a3].toArray below meth c H locs 0 0 (MQ below (QI G B E SS rr) [.ref (B 1 0), .int a1, .int a2, .int a3].toArray s 0 0 (AA G)) (F0 m 70 ls []) := by
    intro n70
    induction n70 with
    | zero =>
      intro S v1 v2 v3 v4 hf
      exact absurd (show (none : Option (Int32 × ST)) = some (rr, SS) from hf) (fun h => by cases h)
    | succ n70 ih70 =>
      intro S v1 v2 v3 v4 hf H locs ls hW hS hl
      have hf : g_X7_room_b70 E (f_X7_room_b70 E n70) S v1 v2 v3 v4 = some (rr, SS) := hf
      unfold g_X7_room_b70 at hf
      refine lv_iload hx hb dX7_room_70 (lv_at hl 4 rfl) ?_
      refine lv_aload_n hx hb dX7_room_72 rfl (lv_at hl 0 rfl) ?_
      refine x_get hx hb hts hi7 hown hK hW (c1 hE) (e1 _ _ _ _ _ _) rfl 0 (Nat.le_of_ble_eq_true rfl) q1 (fun _ h => h) (v := .int (gI S 1 0 0)) rfl dX7_room_73 ?_
      refine lv_icmp_ge (tgt := 107) hx hb dX7_room_76 (by decide) (fun h => ?_) (fun h => ?_)
      · have hf := if_t h hf
        exact w107 S v1 v2 v3  hf _ _ _ hW hS (lv_sub hl [0, 1, 2, 3] rfl)
      · have hf := if_f h hf
        refine lv_aload_n hx hb dX7_room_79 rfl (lv_at hl 0 rfl) ?_
        refine lv_aload_n hx hb dX7_room_80 rfl (lv_at hl 0 rfl) ?_
        refine x_get hx hb hts hi7 hown hK hW (c1 hE) (e1 _ _ _ _ _ _) rfl 45 (Nat.le_of_ble_eq_true rfl) q2 (fun _ h => h) (v := .ref (B 85 0)) rfl dX7_room_81 ?_
        refine lv_bipush (v := 40) hx hb dX7_room_84 (by decide) ?_
        refine lv_iload_n hx hb dX7_room_86 rfl (lv_at hl 3 rfl) ?_
        refine lv_imul hx hb dX7_room_87 ?_
        refine lv_iload hx hb dX7_room_88 (lv_at hl 4 rfl) ?_
        refine lv_iadd hx hb dX7_room_90 ?_
        obtain ⟨hi_18, hf⟩ := ck_out hf
        have hi_18 := ib_in hi_18
        refine x_iald hx hb hK hW (c85 hE) (e85 _ _ _ _ _ _) hi_18 (jn := (((40 : Int32) * v3) + v4).toNatClampNeg) rfl dX7_room_91 ?_
        obtain ⟨r19, hc, hf⟩ := bd_out hf
        refine y_i (va_runV (As := [.int (gI S 85 0 (((40 : Int32) * v3) + v4).toNatClampNeg)]) (rest := []) hfix (m_X7_areMarks l G B E hE S (gI S 85 0 (((40 : Int32) * v3) + v4).toNatClampNeg) r19 hc) (cwV 1 hts gX7_room_X7_areMarks rfl rfl rfl ⟨rfl, hd_X7_areMarks⟩ ⟨Nat.le_of_ble_eq_true rfl, Nat.le_of_ble_eq_true rfl⟩) (y_pv hF hW hS (c1 hE) (e1 _ _ _ _ _ _) rfl) rfl rfl hl.1 rfl (lv_room (Nat.le_of_ble_eq_true rfl)) dX7_room_92 ⟨Nat.le_of_ble_eq_true rfl, Nat.le_of_ble_eq_true rfl⟩) hS (fun H locs hW hS => ?_)
        refine lv_if_ne (tgt := 101) hx hb dX7_room_95 (by decide) (fun h => ?_) (fun h => ?_)
        · have hf := if_f h hf
          obtain ⟨x20, e_x20, hf⟩ := lt_out hf
          refine lv_iinc (v := x20) (lv' := [(4, .int x20), (0, .ref (B 1 0)), (1, .int v1), (2, .int v2), (3, .int v3)]) hx hb dX7_room_101 hl (k := 4) rfl (by rw [e_x20]; rfl) (by decide) rfl (fun ls hl => ?_)
          refine lv_goto (tgt := 70) hx hb dX7_room_104 (by decide) ?_
          exact ih70 S v1 v2 v3 x20  hf _ _ _ hW hS (lv_sub hl [1, 2, 3, 4, 0] rfl)
        · have hf := if_t h hf
          refine lv_bipush (v := -2) hx hb dX7_room_98 (by decide) ?_
          exact z_i hf hx hb hr rfl hF hW hS dX7_room_100 hlocks
  unfold f_X7_room at hf
  refine lv_aload_n hx hb dX7_room_0 rfl (lv_at hl 0 rfl) ?_
  refine lv_iload_n hx hb dX7_room_1 rfl (lv_at hl 1 rfl) ?_
  refine lv_iconst (v := 0) hx hb dX7_room_2 rfl ?_
  refine lv_iconst (v := 1) hx hb dX7_room_3 rfl ?_
  refine lv_aload_n hx hb dX7_room_4 rfl (lv_at hl 0 rfl) ?_
  refine x_get hx hb hts hi7 hown hK hW (c1 hE) (e1 _ _ _ _ _ _) rfl 0 (Nat.le_of_ble_eq_true rfl) q1 (fun _ h => h) (v := .int (gI S 1 0 0)) rfl dX7_room_5 ?_
  refine lv_ishl hx hb dX7_room_8 ?_
  refine lv_iconst (v := 1) hx hb dX7_room_9 rfl ?_
  refine lv_isub hx hb dX7_room_10 ?_
  obtain ⟨r21, hc, hf⟩ := bd_out hf
  refine y_i (va_runV (As := [.int a1, .int (0 : Int32), .int (((1 : Int32) <<< ((gI S 1 0 0) &&& 31)) - (1 : Int32))]) (rest := []) hfix (m_X7_in l G B E hE S a1 (0 : Int32) (((1 : Int32) <<< ((gI S 1 0 0) &&& 31)) - (1 : Int32)) r21 hc) (cwV 3 hts gX7_room_X7_in rfl rfl rfl ⟨rfl, hd_X7_in⟩ ⟨Nat.le_of_ble_eq_true rfl, Nat.le_of_ble_eq_true rfl⟩) (y_pv hF hW hS (c1 hE) (e1 _ _ _ _ _ _) rfl) rfl rfl hl.1 rfl (lv_room (Nat.le_of_ble_eq_true rfl)) dX7_room_11 ⟨Nat.le_of_ble_eq_true rfl, Nat.le_of_ble_eq_true rfl⟩) hS (fun H locs hW hS => ?_)
  refine lv_if_eq (tgt := 36) hx hb dX7_room_14 (by decide) (fun h => ?_) (fun h => ?_)
  · have hf := if_t h hf
    refine lv_bipush (v := -2) hx hb dX7_room_36 (by decide) ?_
    exact z_i hf hx hb hr rfl hF hW hS dX7_room_38 hlocks
  · have hf := if_f h hf
    refine lv_aload_n hx hb dX7_room_17 rfl (lv_at hl 0 rfl) ?_
    refine lv_iload_n hx hb dX7_room_18 rfl (lv_at hl 2 rfl) ?_
    refine lv_iconst (v := 0) hx hb dX7_room_19 rfl ?_
    refine lv_bipush (v := 8) hx hb dX7_room_20 (by decide) ?_
    obtain ⟨r22, hc, hf⟩ := bd_out hf
    refine y_i (va_runV (As := [.int a2, .int (0 : Int32), .int (8 : Int32)]) (rest := []) hfix (m_X7_in l G B E hE S a2 (0 : Int32) (8 : Int32) r22 hc) (cwV 3 hts gX7_room_X7_in rfl rfl rfl ⟨rfl, hd_X7_in⟩ ⟨Nat.le_of_ble_eq_true rfl, Nat.le_of_ble_eq_true rfl⟩) (y_pv hF hW hS (c1 hE) (e1 _ _ _ _ _ _) rfl) rfl rfl hl.1 rfl (lv_room (Nat.le_of_ble_eq_true rfl)) dX7_room_22 ⟨Nat.le_of_ble_eq_true rfl, Nat.le_of_ble_eq_true rfl⟩) hS (fun H locs hW hS => ?_)
    refine lv_if_eq (tgt := 36) hx hb dX7_room_25 (by decide) (fun h => ?_) (fun h => ?_)
    · have hf := if_t h hf
      refine lv_bipush (v := -2) hx hb dX7_room_36 (by decide) ?_
      exact z_i hf hx hb hr rfl hF hW hS dX7_room_38 hlocks
    · have hf := if_f h hf
      refine lv_aload_n hx hb dX7_room_28 rfl (lv_at hl 0 rfl) ?_
      refine lv_iload_n hx hb dX7_room_29 rfl (lv_at hl 3 rfl) ?_
      obtain ⟨r23, hc, hf⟩ := bd_out hf
      refine y_i (va_runV (As := [.int a3]) (rest := []) hfix (m_X7_isSheet l G B E hE S a3 r23 hc) (cwV 1 hts gX7_room_X7_isSheet rfl rfl rfl ⟨rfl, hd_X7_isSheet⟩ ⟨Nat.le_of_ble_eq_true rfl, Nat.le_of_ble_eq_true rfl⟩) (y_pv hF hW hS (c1 hE) (e1 _ _ _ _ _ _) rfl) rfl rfl hl.1 rfl (lv_room (Nat.le_of_ble_eq_true rfl)) dX7_room_30 ⟨Nat.le_of_ble_eq_true rfl, Nat.le_of_ble_eq_true rfl⟩) hS (fun H locs hW hS => ?_)
      refine lv_if_ne (tgt := 39) hx hb dX7_room_33 (by decide) (fun h => ?_) (fun h => ?_)
      · have hf := if_f h hf
        refine lv_aload_n hx hb dX7_room_39 rfl (lv_at hl 0 rfl) ?_
        refine x_get hx hb hts hi7 hown hK hW (c1 hE) (e1 _ _ _ _ _ _) rfl 43 (Nat.le_of_ble_eq_true rfl) q5 (fun _ h => h) (v := .ref (B 83 0)) rfl dX7_room_40 ?_
        refine lv_iload_n hx hb dX7_room_43 rfl (lv_at hl 3 rfl) ?_
        obtain ⟨hi_24, hf⟩ := ck_out hf
        have hi_24 := ib_in hi_24
        refine x_iald hx hb hK hW (c83 hE) (e83 _ _ _ _ _ _) hi_24 (jn := a3.toNatClampNeg) rfl dX7_room_44 ?_
        refine lv_if_ge (tgt := 51) hx hb dX7_room_45 (by decide) (fun h => ?_) (fun h => ?_)
        · have hf := if_t h hf
          refine lv_aload_n hx hb dX7_room_51 rfl (lv_at hl 0 rfl) ?_
          refine x_get hx hb hts hi7 hown hK hW (c1 hE) (e1 _ _ _ _ _ _) rfl 44 (Nat.le_of_ble_eq_true rfl) q6 (fun _ h => h) (v := .ref (B 84 0)) rfl dX7_room_52 ?_
          refine lv_iload_n hx hb dX7_room_55 rfl (lv_at hl 3 rfl) ?_
          refine x_iald hx hb hK hW (c84 hE) (e84 _ _ _ _ _ _) hi_24 (jn := a3.toNatClampNeg) rfl dX7_room_56 ?_
          refine lv_aload_n hx hb dX7_room_57 rfl (lv_at hl 0 rfl) ?_
          refine x_get hx hb hts hi7 hown hK hW (c1 hE) (e1 _ _ _ _ _ _) rfl 0 (Nat.le_of_ble_eq_true rfl) q1 (fun _ h => h) (v := .int (gI S 1 0 0)) rfl dX7_room_58 ?_
          refine lv_icmp_eq (tgt := 67) hx hb dX7_room_61 (by decide) (fun h => ?_) (fun h => ?_)
          · have hf := if_t h hf
            refine lv_iconst (v := 0) hx hb dX7_room_67 rfl ?_
            refine lv_istore (lv' := [(4, .int (0 : Int32)), (0, .ref (B 1 0)), (1, .int a1), (2, .int a2), (3, .int a3)]) hx hb dX7_room_68 hl (by decide) rfl (fun ls hl => ?_)
            exact w70 E.1 S a1 a2 a3 (0 : Int32)  hf _ _ _ hW hS (lv_sub hl [1, 2, 3, 4, 0] rfl)
          · have hf := if_f h hf
            refine lv_bipush (v := -2) hx hb dX7_room_64 (by decide) ?_
            exact z_i hf hx hb hr rfl hF hW hS dX7_room_66 hlocks
        · have hf := if_f h hf
          refine lv_bipush (v := -11) hx hb dX7_room_48 (by decide) ?_
          exact z_i hf hx hb hr rfl hF hW hS dX7_room_50 hlocks
      · have hf := if_t h hf
        refine lv_bipush (v := -2) hx hb dX7_room_36 (by decide) ?_
        exact z_i hf hx hb hr rfl hF hW hS dX7_room_38 hlocks
set_option maxHeartbeats 4000000 in
set_option maxRecDepth 100000 in
theorem m_X7_becomes (l : Launch) (G : GE) (B : Nat → Nat → Nat) (E : EN) (hE : 0 < E.2.2.2)  (S : ST) (a1 : Int32) (rr : Int32) (SS : ST) (hf : f_X7_becomes E S a1 = some (rr, SS)) : Met l yX7_becomes wsX7_becomes (rmN 2) (va_Pc [.ref (B 1 0), .int a1] (WS G B E S)) (QI G B E SS rr) 0 0 (AA G) := by
  refine Met.ofW (cc := cX7_becomes) (maxL := 7) (ret := (some .boolean)) (by decide) rfl ?_
  intro p e s m args below meth c s₁ B0 hml hv
  obtain ⟨rfl, hW, hF⟩ := hv
  have hx := B0.exec
  have hb := B0.bytes
  have hr := B0.returns
  have hts := atoms_spec (ws := wsX7_becomes) B0.pre
  have hown : s.vm.findClass RX7 = some m.cls := findClass_of_methodNamed B0.named
  have hlocks := B0.notSynchronized
  have hK := hF.1
  have hfix : CallFix p m c cX7_becomes 7 s [.ref (B 1 0), .int a1].toArray wsX7_becomes RX7 := ⟨hx, hb, hml, hown, hts⟩
  have hS : va_S (AA G) s.heap s.heap [] := va_S.rf
  have hl := lv_entry [.ref (B 1 0), .int a1] (n := 7) (Nat.le_of_ble_eq_true rfl)
  rw [lg_entry_eq]
  generalize (lg_sl [.ref (B 1 0), .int a1] ++ List.replicate (7 - (lg_sl [.ref (B 1 0), .int a1]).length) Slot.unset).toArray = ls at hl ⊢
  have hl : lv_has ls 7 [(0, .ref (B 1 0)), (1, .int a1)] := hl
  have q0 := hts (.fieldLink RX7 24 "MovesUpModel" "weight" "[I") (List.mem_of_getElem? (i := 3) rfl)
  have q1 := hts (.fieldLink RX7 146 "MovesUpModel" "then" "[J") (List.mem_of_getElem? (i := 1) rfl)
  have q2 := hts (.constantLong RX7 335 (9999)) (List.mem_of_getElem? (i := 2) rfl)
  have hi7 : ∀ w ∈ u_ws RX7 TX7 47, w ∈ wsX7_becomes := in_seg 9 rfl
  have w68 : ∀ (n68 : Nat) (S : ST) (v1 : Int32) (v2 : Int64) (v6 : Int32) , f_X7_becomes_b68 E n68 S v1 v2 v6 = some (rr, SS) → ∀ (H : Heap) (locs : List Loc) (ls : Array Slot), WH G B E S H → va_S (AA G) s.heap H locs → lv_has ls 7 [(0, .ref (B 1 0)), (1, .int v1), (2, .long v2), (6, .int v6)] → W p l e (headSpec wsX7_becomes (rmN 2)).room s m [.ref (B 1 0), .int a1].toArray below meth c H locs 0 0 (MQ below (QI G B E SS rr) [.ref (B 1 0), .int a1].toArray s 0 0 (AA G)) (F0 m 68 ls []) := by
    intro n68
    induction n68 with
    | zero =>
      intro S v1 v2 v6 hf
      exact absurd (show (none : Option (Int32 × ST)) = some (rr, SS) from hf) (fun h => by cases h)
    | succ n68 ih68 =>
      intro S v1 v2 v6 hf H locs ls hW hS hl
      have hf : g_X7_becomes_b68 E (f_X7_becomes_b68 E n68) S v1 v2 v6 = some (rr, SS) := hf
      unfold g_X7_becomes_b68 at hf
      refine lv_iload hx hb dX7_becomes_68 (lv_at hl 3 rfl) ?_
      refine lv_iconst (v := 5) hx hb dX7_becomes_70 rfl ?_
      refine lv_icmp_ge (tgt := 101) hx hb dX7_becomes_71 (by decide) (fun h => ?_) (fun h => ?_)
      · have hf := if_t h hf
        refine lv_iconst (v := 1) hx hb dX7_becomes_101 rfl ?_
        exact z_i hf hx hb hr rfl hF hW hS dX7_becomes_102 hlocks
      · have hf := if_f h hf
        refine lv_aload_n hx hb dX7_becomes_74 rfl (lv_at hl 0 rfl) ?_
        refine x_get hx hb hts hi7 hown hK hW (c1 hE) (e1 _ _ _ _ _ _) rfl 5 (Nat.le_of_ble_eq_true rfl) q0 (fun _ h => h) (v := .ref (B 45 0)) rfl dX7_becomes_75 ?_
        refine lv_iconst (v := 5) hx hb dX7_becomes_78 rfl ?_
        refine lv_iload_n hx hb dX7_becomes_79 rfl (lv_at hl 1 rfl) ?_
        refine lv_imul hx hb dX7_becomes_80 ?_
        refine lv_iload hx hb dX7_becomes_81 (lv_at hl 3 rfl) ?_
        refine lv_iadd hx hb dX7_becomes_83 ?_
        refine lv_aload_n hx hb dX7_becomes_84 rfl (lv_at hl 0 rfl) ?_
        refine x_get hx hb hts hi7 hown hK hW (c1 hE) (e1 _ _ _ _ _ _) rfl 37 (Nat.le_of_ble_eq_true rfl) q1 (fun _ h => h) (v := .ref (B 77 0)) rfl dX7_becomes_85 ?_
        refine lv_iload hx hb dX7_becomes_88 (lv_at hl 3 rfl) ?_
        obtain ⟨hi_1, hf⟩ := ck_out hf
        have hi_1 := ib_in hi_1
        refine x_lald hx hb hK hW (c77 hE) (e77 _ _ _ _ _ _) hi_1 (jn := v6.toNatClampNeg) rfl dX7_becomes_90 ?_
        refine lv_lload_n hx hb dX7_becomes_91 rfl (lv_at hl 2 rfl) ?_
        obtain ⟨hz2, hf⟩ := ck_out hf
        have hz2 := nz_ hz2
        refine lv_ldiv hx hb dX7_becomes_92 hz2 ?_
        refine lv_l2i hx hb dX7_becomes_93 rfl ?_
        obtain ⟨hi_3, hf⟩ := ck_out hf
        have hi_3 := ib_in hi_3
        obtain ⟨S4, e_S4, hf⟩ := lt_out hf
        refine x_iast hx hb hK hW hS (c45 hE) (fun f r => e45 _ _ _ f _ r) hi_3 (jn := (((5 : Int32) * v1) + v6).toNatClampNeg) rfl e_S4 dX7_becomes_94 (fun H locs hW hS => ?_)
        obtain ⟨x5, e_x5, hf⟩ := lt_out hf
        refine lv_iinc (v := x5) (lv' := [(6, .int x5), (0, .ref (B 1 0)), (1, .int v1), (2, .long v2)]) hx hb dX7_becomes_95 hl (k := 3) rfl (by rw [e_x5]; rfl) (by decide) rfl (fun ls hl => ?_)
        refine lv_goto (tgt := 68) hx hb dX7_becomes_98 (by decide) ?_
        exact ih68 S4 v1 v2 x5  hf _ _ _ hW hS (lv_sub hl [1, 2, 3, 0] rfl)
  have w45 : ∀ (S : ST) (v1 : Int32) (v2 : Int64) (v4 : Int64) , f_X7_becomes_b45 E S v1 v2 v4 = some (rr, SS) → ∀ (H : Heap) (locs : List Loc) (ls : Array Slot), WH G B E S H → va_S (AA G) s.heap H locs → lv_has ls 7 [(0, .ref (B 1 0)), (1, .int v1), (2, .long v2), (4, .long v4)] → W p l e (headSpec wsX7_becomes (rmN 2)).room s m [.ref (B 1 0), .int a1].toArray below meth c H locs 0 0 (MQ below (QI G B E SS rr) [.ref (B 1 0), .int a1].toArray s 0 0 (AA G)) (F0 m 45 ls []) := by
    intro S v1 v2 v4 hf H locs ls hW hS hl
    unfold f_X7_becomes_b45 at hf
    refine lv_lload hx hb dX7_becomes_45 (lv_at hl 3 rfl) ?_
    refine lv_lconst (v := 0) hx hb dX7_becomes_47 rfl ?_
    refine W.lcmp hx hb dX7_becomes_48 ?_
    refine lv_if_eq (tgt := 63) hx hb dX7_becomes_49 (by decide) (fun h => ?_) (fun h => ?_)
    · have h := (lg_cmp_eq _ _).mp h
      have hf := if_t h hf
      refine lv_iconst (v := 0) hx hb dX7_becomes_63 rfl ?_
      exact z_i hf hx hb hr rfl hF hW hS dX7_becomes_64 hlocks
    · have h := fun q => h ((lg_cmp_eq _ _).mpr q)
      have hf := if_f h hf
      refine lv_lload hx hb dX7_becomes_52 (lv_at hl 3 rfl) ?_
      refine lv_lload_n hx hb dX7_becomes_54 rfl (lv_at hl 2 rfl) ?_
      obtain ⟨hz6, hf⟩ := ck_out hf
      have hz6 := nz_ hz6
      refine lv_ldiv hx hb dX7_becomes_55 hz6 ?_
      refine lv_ldc2 hx hb hown q2 dX7_becomes_56 ?_
      refine W.lcmp hx hb dX7_becomes_59 ?_
      refine lv_if_le (tgt := 65) hx hb dX7_becomes_60 (by decide) (fun h => ?_) (fun h => ?_)
      · have h := (lg_cmp_le _ _).mp h
        have hf := if_t h hf
        refine lv_iconst (v := 0) hx hb dX7_becomes_65 rfl ?_
        refine lv_istore (lv' := [(6, .int (0 : Int32)), (0, .ref (B 1 0)), (1, .int v1), (2, .long v2), (4, .long v4)]) hx hb dX7_becomes_66 hl (by decide) rfl (fun ls hl => ?_)
        exact w68 E.1 S v1 v2 (0 : Int32)  hf _ _ _ hW hS (lv_sub hl [1, 2, 3, 0] rfl)
      · have h := fun q => h ((lg_cmp_le _ _).mpr q)
        have hf := if_f h hf
        refine lv_iconst (v := 0) hx hb dX7_becomes_63 rfl ?_
        exact z_i hf hx hb hr rfl hF hW hS dX7_becomes_64 hlocks
  have w8 : ∀ (n8 : Nat) (S : ST) (v1 : Int32) (v2 : Int64) (v4 : Int64) (v6 : Int32) , f_X7_becomes_b8 E n8 S v1 v2 v4 v6 = some (rr, SS) → ∀ (H : Heap) (locs : List Loc) (ls : Array Slot), WH G B E S H → va_S (AA G) s.heap H locs → lv_has ls 7 [(0, .ref (B 1 0)), (1, .int v1), (2, .long v2), (4, .long v4), (6, .int v6)] → W p l e (headSpec wsX7_becomes (rmN 2)).room s m [.ref (B 1 0), .int a1].toArray below meth c H locs 0 0 (MQ below (QI G B E SS rr) [.ref (B 1 0), .int a1].toArray s 0 0 (AA G)) (F0 m 8 ls []) := by
    intro n8
    induction n8 with
    | zero =>
      intro S v1 v2 v4 v6 hf
      exact absurd (show (none : Option (Int32 × ST)) = some (rr, SS) from hf) (fun h => by cases h)
    | succ n8 ih8 =>
      intro S v1 v2 v4 v6 hf H locs ls hW hS hl
      have hf : g_X7_becomes_b8 E (f_X7_becomes_b8 E n8) S v1 v2 v4 v6 = some (rr, SS) := hf
      unfold g_X7_becomes_b8 at hf
      refine lv_iload hx hb dX7_becomes_8 (lv_at hl 4 rfl) ?_
      refine lv_iconst (v := 5) hx hb dX7_becomes_10 rfl ?_
      refine lv_icmp_ge (tgt := 45) hx hb dX7_becomes_11 (by decide) (fun h => ?_) (fun h => ?_)
      · have hf := if_t h hf
        exact w45 S v1 v2 v4  hf _ _ _ hW hS (lv_sub hl [0, 1, 2, 3] rfl)
      · have hf := if_f h hf
        refine lv_aload_n hx hb dX7_becomes_14 rfl (lv_at hl 0 rfl) ?_
        refine lv_lload_n hx hb dX7_becomes_15 rfl (lv_at hl 2 rfl) ?_
        refine lv_aload_n hx hb dX7_becomes_16 rfl (lv_at hl 0 rfl) ?_
        refine x_get hx hb hts hi7 hown hK hW (c1 hE) (e1 _ _ _ _ _ _) rfl 37 (Nat.le_of_ble_eq_true rfl) q1 (fun _ h => h) (v := .ref (B 77 0)) rfl dX7_becomes_17 ?_
        refine lv_iload hx hb dX7_becomes_20 (lv_at hl 4 rfl) ?_
        obtain ⟨hi_7, hf⟩ := ck_out hf
        have hi_7 := ib_in hi_7
        refine x_lald hx hb hK hW (c77 hE) (e77 _ _ _ _ _ _) hi_7 (jn := v6.toNatClampNeg) rfl dX7_becomes_22 ?_
        obtain ⟨r8, hc, hf⟩ := bd_out hf
        refine y_l (va_runV (As := [.long v2, .long (gL S 77 0 v6.toNatClampNeg)]) (rest := []) hfix (m_X7_divisor l G B E hE S v2 (gL S 77 0 v6.toNatClampNeg) r8 hc) (cwV 2 hts gX7_becomes_X7_divisor rfl rfl rfl ⟨rfl, hd_X7_divisor⟩ ⟨Nat.le_of_ble_eq_true rfl, Nat.le_of_ble_eq_true rfl⟩) (y_pv hF hW hS (c1 hE) (e1 _ _ _ _ _ _) rfl) rfl rfl hl.1 rfl (lv_room (Nat.le_of_ble_eq_true rfl)) dX7_becomes_23 ⟨Nat.le_of_ble_eq_true rfl, Nat.le_of_ble_eq_true rfl⟩) hS (fun H locs hW hS => ?_)
        refine lv_lstore_n (lv' := [(2, .long r8), (0, .ref (B 1 0)), (1, .int v1), (4, .long v4), (6, .int v6)]) hx hb dX7_becomes_26 rfl hl (by decide) rfl (fun ls hl => ?_)
        refine lv_lload hx hb dX7_becomes_27 (lv_at hl 3 rfl) ?_
        refine lv_aload_n hx hb dX7_becomes_29 rfl (lv_at hl 1 rfl) ?_
        refine x_get hx hb hts hi7 hown hK hW (c1 hE) (e1 _ _ _ _ _ _) rfl 37 (Nat.le_of_ble_eq_true rfl) q1 (fun _ h => h) (v := .ref (B 77 0)) rfl dX7_becomes_30 ?_
        refine lv_iload hx hb dX7_becomes_33 (lv_at hl 4 rfl) ?_
        refine x_lald hx hb hK hW (c77 hE) (e77 _ _ _ _ _ _) hi_7 (jn := v6.toNatClampNeg) rfl dX7_becomes_35 ?_
        refine lv_ladd hx hb dX7_becomes_36 ?_
        obtain ⟨x9, e_x9, hf⟩ := lt_out hf
        refine x_nmL e_x9 ?_
        refine lv_lstore (lv' := [(4, .long x9), (2, .long r8), (0, .ref (B 1 0)), (1, .int v1), (6, .int v6)]) hx hb dX7_becomes_37 hl (by decide) rfl (fun ls hl => ?_)
        obtain ⟨x10, e_x10, hf⟩ := lt_out hf
        refine lv_iinc (v := x10) (lv' := [(6, .int x10), (4, .long x9), (2, .long r8), (0, .ref (B 1 0)), (1, .int v1)]) hx hb dX7_becomes_39 hl (k := 4) rfl (by rw [e_x10]; rfl) (by decide) rfl (fun ls hl => ?_)
        refine lv_goto (tgt := 8) hx hb dX7_becomes_42 (by decide) ?_
        exact ih8 S v1 r8 x9 x10  hf _ _ _ hW hS (lv_sub hl [3, 4, 2, 1, 0] rfl)
  unfold f_X7_becomes at hf
  refine lv_lconst (v := 0) hx hb dX7_becomes_0 rfl ?_
  refine lv_lstore_n (lv' := [(2, .long (0 : Int64)), (0, .ref (B 1 0)), (1, .int a1)]) hx hb dX7_becomes_1 rfl hl (by decide) rfl (fun ls hl => ?_)
  refine lv_lconst (v := 0) hx hb dX7_becomes_2 rfl ?_
  refine lv_lstore (lv' := [(4, .long (0 : Int64)), (2, .long (0 : Int64)), (0, .ref (B 1 0)), (1, .int a1)]) hx hb dX7_becomes_3 hl (by decide) rfl (fun ls hl => ?_)
  refine lv_iconst (v := 0) hx hb dX7_becomes_5 rfl ?_
  refine lv_istore (lv' := [(6, .int (0 : Int32)), (4, .long (0 : Int64)), (2, .long (0 : Int64)), (0, .ref (B 1 0)), (1, .int a1)]) hx hb dX7_becomes_6 hl (by decide) rfl (fun ls hl => ?_)
  exact w8 E.1 S a1 (0 : Int64) (0 : Int64) (0 : Int32)  hf _ _ _ hW hS (lv_sub hl [3, 4, 2, 1, 0] rfl)
set_option maxHeartbeats 4000000 in
set_option maxRecDepth 100000 in
theorem m_X7_summer (l : Launch) (G : GE) (B : Nat → Nat → Nat) (E : EN) (hE : 0 < E.2.2.2)  (S : ST) (a1 : Int32) (a2 : Int32) (rr : Int32) (SS : ST) (hf : f_X7_summer E S a1 a2 = some (rr, SS)) : Met l yX7_summer wsX7_summer (rmN 3) (va_Pc [.ref (B 1 0), .int a1, .int a2] (WS G B E S)) (QI G B E SS rr) 0 0 (AA G) := by
  refine Met.ofW (cc := cX7_summer) (maxL := 4) (ret := (some .int)) (by decide) rfl ?_
  intro p e s m args below meth c s₁ B0 hml hv
  obtain ⟨rfl, hW, hF⟩ := hv
  have hx := B0.exec
  have hb := B0.bytes
  have hr := B0.returns
  have hts := atoms_spec (ws := wsX7_summer) B0.pre
  have hown : s.vm.findClass RX7 = some m.cls := findClass_of_methodNamed B0.named
  have hlocks := B0.notSynchronized
  have hK := hF.1
  have hfix : CallFix p m c cX7_summer 4 s [.ref (B 1 0), .int a1, .int a2].toArray wsX7_summer RX7 := ⟨hx, hb, hml, hown, hts⟩
  have hS : va_S (AA G) s.heap s.heap [] := va_S.rf
  have hl := lv_entry [.ref (B 1 0), .int a1, .int a2] (n := 4) (Nat.le_of_ble_eq_true rfl)
  rw [lg_entry_eq]
  generalize (lg_sl [.ref (B 1 0), .int a1, .int a2] ++ List.replicate (4 - (lg_sl [.ref (B 1 0), .int a1, .int a2]).length) Slot.unset).toArray = ls at hl ⊢
  have hl : lv_has ls 4 [(0, .ref (B 1 0)), (1, .int a1), (2, .int a2)] := hl
  have q0 := hts (.fieldLink RX7 24 "MovesUpModel" "weight" "[I") (List.mem_of_getElem? (i := 2) rfl)
  have q1 := hts (.fieldLink RX7 146 "MovesUpModel" "then" "[J") (List.mem_of_getElem? (i := 1) rfl)
  have hi7 : ∀ w ∈ u_ws RX7 TX7 47, w ∈ wsX7_summer := in_seg 26 rfl
  have w93 : ∀ (S : ST) (v1 : Int32) , f_X7_summer_b93 E S v1 = some (rr, SS) → ∀ (H : Heap) (locs : List Loc) (ls : Array Slot), WH G B E S H → va_S (AA G) s.heap H locs → lv_has ls 4 [(0, .ref (B 1 0)), (1, .int v1)] → W p l e (headSpec wsX7_summer (rmN 3)).room s m [.ref (B 1 0), .int a1, .int a2].toArray below meth c H locs 0 0 (MQ below (QI G B E SS rr) [.ref (B 1 0), .int a1, .int a2].toArray s 0 0 (AA G)) (F0 m 93 ls []) := by
    intro S v1 hf H locs ls hW hS hl
    unfold f_X7_summer_b93 at hf
    refine lv_aload_n hx hb dX7_summer_93 rfl (lv_at hl 0 rfl) ?_
    refine lv_iload_n hx hb dX7_summer_94 rfl (lv_at hl 1 rfl) ?_
    obtain ⟨r1, S2, hc, hf⟩ := bd2_out hf
    refine y_i (va_runV (As := [.int v1]) (rest := []) hfix (m_X7_becomes l G B E hE S v1 r1 S2 hc) (cwV 1 hts gX7_summer_X7_becomes rfl rfl rfl ⟨rfl, hd_X7_becomes⟩ ⟨Nat.le_of_ble_eq_true rfl, Nat.le_of_ble_eq_true rfl⟩) (y_pv hF hW hS (c1 hE) (e1 _ _ _ _ _ _) rfl) rfl rfl hl.1 rfl (lv_room (Nat.le_of_ble_eq_true rfl)) dX7_summer_95 ⟨Nat.le_of_ble_eq_true rfl, Nat.le_of_ble_eq_true rfl⟩) hS (fun H locs hW hS => ?_)
    refine lv_if_eq (tgt := 109) hx hb dX7_summer_98 (by decide) (fun h => ?_) (fun h => ?_)
    · have hf := if_t h hf
      refine lv_bipush (v := -3) hx hb dX7_summer_109 (by decide) ?_
      exact z_i hf hx hb hr rfl hF hW hS dX7_summer_111 hlocks
    · have hf := if_f h hf
      refine lv_aload_n hx hb dX7_summer_101 rfl (lv_at hl 0 rfl) ?_
      refine lv_iload_n hx hb dX7_summer_102 rfl (lv_at hl 1 rfl) ?_
      obtain ⟨r3, hc, hf⟩ := bd_out hf
      refine y_i (va_runV (As := [.int v1]) (rest := []) hfix (m_X7_sumOf l G B E hE S2 v1 r3 hc) (cwV 1 hts gX7_summer_X7_sumOf rfl rfl rfl ⟨rfl, hd_X7_sumOf⟩ ⟨Nat.le_of_ble_eq_true rfl, Nat.le_of_ble_eq_true rfl⟩) (y_pv hF hW hS (c1 hE) (e1 _ _ _ _ _ _) rfl) rfl rfl hl.1 rfl (lv_room (Nat.le_of_ble_eq_true rfl)) dX7_summer_103 ⟨Nat.le_of_ble_eq_true rfl, Nat.le_of_ble_eq_true rfl⟩) hS (fun H locs hW hS => ?_)
      refine lv_goto (tgt := 111) hx hb dX7_summer_106 (by decide) ?_
      exact z_i hf hx hb hr rfl hF hW hS dX7_summer_111 hlocks
  have w24 : ∀ (n24 : Nat) (S : ST) (v1 : Int32) (v2 : Int32) (v3 : Int32) , f_X7_summer_b24 E n24 S v1 v2 v3 = some (rr, SS) → ∀ (H : Heap) (locs : List Loc) (ls : Array Slot), WH G B E S H → va_S (AA G) s.heap H locs → lv_has ls 4 [(0, .ref (B 1 0)), (1, .int v1), (2, .int v2), (3, .int v3)] → W p l e (headSpec wsX7_summer (rmN 3)).room s m [.ref (B 1 0), .int a1, .int a2].toArray below meth c H locs 0 0 (MQ below (QI G B E SS rr) [.ref (B 1 0), .int a1, .int a2].toArray s 0 0 (AA G)) (F0 m 24 ls []) := by
    intro n24
    induction n24 with
    | zero =>
      intro S v1 v2 v3 hf
      exact absurd (show (none : Option (Int32 × ST)) = some (rr, SS) from hf) (fun h => by cases h)
    | succ n24 ih24 =>
      have w85 : ∀ (S : ST) (v1 : Int32) (v2 : Int32) (v3 : Int32) (t0 : Int64) (t1 : Int64) (t2 : Int32) , f_X7_summer_b85 E (f_X7_summer_b24 E n24) S v1 v2 v3 t0 t1 t2 = some (rr, SS) → ∀ (H : Heap) (locs : List Loc) (ls : Array Slot), WH G B E S H → va_S (AA G) s.heap H locs → lv_has ls 4 [(0, .ref (B 1 0)), (1, .int v1), (2, .int v2), (3, .int v3)] → W p l e (headSpec wsX7_summer (rmN 3)).room s m [.ref (B 1 0), .int a1, .int a2].toArray below meth c H locs 0 0 (MQ below (QI G B E SS rr) [.ref (B 1 0), .int a1, .int a2].toArray s 0 0 (AA G)) (F0 m 85 ls [.long t0, .long t1, .int t2, .ref (B 77 0)]) := by
        intro S v1 v2 v3 t0 t1 t2 hf H locs ls hW hS hl
        unfold f_X7_summer_b85 at hf
        refine lv_ladd hx hb dX7_summer_85 ?_
        obtain ⟨hi_4, hf⟩ := ck_out hf
        have hi_4 := ib_in hi_4
        obtain ⟨S5, e_S5, hf⟩ := lt_out hf
        refine x_last hx hb hK hW hS (c77 hE) (fun g => e77 _ _ _ _ g _) hi_4 (jn := t2.toNatClampNeg) rfl e_S5 dX7_summer_86 (fun H locs hW hS => ?_)
        obtain ⟨x6, e_x6, hf⟩ := lt_out hf
        refine lv_iinc (v := x6) (lv' := [(3, .int x6), (0, .ref (B 1 0)), (1, .int v1), (2, .int v2)]) hx hb dX7_summer_87 hl (k := 3) rfl (by rw [e_x6]; rfl) (by decide) rfl (fun ls hl => ?_)
        refine lv_goto (tgt := 24) hx hb dX7_summer_90 (by decide) ?_
        exact ih24 S5 v1 v2 x6  hf _ _ _ hW hS (lv_sub hl [1, 2, 3, 0] rfl)
      have w58 : ∀ (S : ST) (v1 : Int32) (v2 : Int32) (v3 : Int32) (t0 : Int32) (t1 : Int64) (t2 : Int32) , f_X7_summer_b58 E (f_X7_summer_b24 E n24) S v1 v2 v3 t0 t1 t2 = some (rr, SS) → ∀ (H : Heap) (locs : List Loc) (ls : Array Slot), WH G B E S H → va_S (AA G) s.heap H locs → lv_has ls 4 [(0, .ref (B 1 0)), (1, .int v1), (2, .int v2), (3, .int v3)] → W p l e (headSpec wsX7_summer (rmN 3)).room s m [.ref (B 1 0), .int a1, .int a2].toArray below meth c H locs 0 0 (MQ below (QI G B E SS rr) [.ref (B 1 0), .int a1, .int a2].toArray s 0 0 (AA G)) (F0 m 58 ls [.int t0, .long t1, .int t2, .ref (B 77 0)]) := by
        intro S v1 v2 v3 t0 t1 t2 hf H locs ls hW hS hl
        unfold f_X7_summer_b58 at hf
        refine lv_i2l hx hb dX7_summer_58 rfl ?_
        refine lv_lmul hx hb dX7_summer_59 ?_
        refine lv_iload_n hx hb dX7_summer_60 rfl (lv_at hl 3 rfl) ?_
        refine lv_iconst (v := 4) hx hb dX7_summer_61 rfl ?_
        refine lv_icmp_ge (tgt := 84) hx hb dX7_summer_62 (by decide) (fun h => ?_) (fun h => ?_)
        · have hf := if_t h hf
          refine lv_lconst (v := 0) hx hb dX7_summer_84 rfl ?_
          exact w85 S v1 v2 v3 (0 : Int64) (t1 * t0.toInt64) t2  hf _ _ _ hW hS (lv_sub hl [0, 1, 2, 3] rfl)
        · have hf := if_f h hf
          refine lv_aload_n hx hb dX7_summer_65 rfl (lv_at hl 0 rfl) ?_
          refine x_get hx hb hts hi7 hown hK hW (c1 hE) (e1 _ _ _ _ _ _) rfl 5 (Nat.le_of_ble_eq_true rfl) q0 (fun _ h => h) (v := .ref (B 45 0)) rfl dX7_summer_66 ?_
          refine lv_iconst (v := 5) hx hb dX7_summer_69 rfl ?_
          refine lv_iload_n hx hb dX7_summer_70 rfl (lv_at hl 1 rfl) ?_
          refine lv_imul hx hb dX7_summer_71 ?_
          refine lv_iload_n hx hb dX7_summer_72 rfl (lv_at hl 3 rfl) ?_
          refine lv_iadd hx hb dX7_summer_73 ?_
          refine lv_iconst (v := 1) hx hb dX7_summer_74 rfl ?_
          refine lv_iadd hx hb dX7_summer_75 ?_
          obtain ⟨hi_7, hf⟩ := ck_out hf
          have hi_7 := ib_in hi_7
          refine x_iald hx hb hK hW (c45 hE) (e45 _ _ _ _ _ _) hi_7 (jn := ((((5 : Int32) * v1) + v3) + (1 : Int32)).toNatClampNeg) rfl dX7_summer_76 ?_
          refine lv_i2l hx hb dX7_summer_77 rfl ?_
          refine lv_iload_n hx hb dX7_summer_78 rfl (lv_at hl 2 rfl) ?_
          refine lv_i2l hx hb dX7_summer_79 rfl ?_
          refine lv_lmul hx hb dX7_summer_80 ?_
          refine lv_goto (tgt := 85) hx hb dX7_summer_81 (by decide) ?_
          exact w85 S v1 v2 v3 (((gI S 45 0 ((((5 : Int32) * v1) + v3) + (1 : Int32)).toNatClampNeg).toInt64) * v2.toInt64) (t1 * t0.toInt64) t2  hf _ _ _ hW hS (lv_sub hl [0, 1, 2, 3] rfl)
      intro S v1 v2 v3 hf H locs ls hW hS hl
      have hf : g_X7_summer_b24 E (f_X7_summer_b24 E n24) S v1 v2 v3 = some (rr, SS) := hf
      unfold g_X7_summer_b24 at hf
      refine lv_iload_n hx hb dX7_summer_24 rfl (lv_at hl 3 rfl) ?_
      refine lv_iconst (v := 5) hx hb dX7_summer_25 rfl ?_
      refine lv_icmp_ge (tgt := 93) hx hb dX7_summer_26 (by decide) (fun h => ?_) (fun h => ?_)
      · have hf := if_t h hf
        exact w93 S v1  hf _ _ _ hW hS (lv_sub hl [0, 1] rfl)
      · have hf := if_f h hf
        refine lv_aload_n hx hb dX7_summer_29 rfl (lv_at hl 0 rfl) ?_
        refine x_get hx hb hts hi7 hown hK hW (c1 hE) (e1 _ _ _ _ _ _) rfl 37 (Nat.le_of_ble_eq_true rfl) q1 (fun _ h => h) (v := .ref (B 77 0)) rfl dX7_summer_30 ?_
        refine lv_iload_n hx hb dX7_summer_33 rfl (lv_at hl 3 rfl) ?_
        refine lv_aload_n hx hb dX7_summer_34 rfl (lv_at hl 0 rfl) ?_
        refine x_get hx hb hts hi7 hown hK hW (c1 hE) (e1 _ _ _ _ _ _) rfl 5 (Nat.le_of_ble_eq_true rfl) q0 (fun _ h => h) (v := .ref (B 45 0)) rfl dX7_summer_35 ?_
        refine lv_iconst (v := 5) hx hb dX7_summer_38 rfl ?_
        refine lv_iload_n hx hb dX7_summer_39 rfl (lv_at hl 1 rfl) ?_
        refine lv_imul hx hb dX7_summer_40 ?_
        refine lv_iload_n hx hb dX7_summer_41 rfl (lv_at hl 3 rfl) ?_
        refine lv_iadd hx hb dX7_summer_42 ?_
        obtain ⟨hi_8, hf⟩ := ck_out hf
        have hi_8 := ib_in hi_8
        refine x_iald hx hb hK hW (c45 hE) (e45 _ _ _ _ _ _) hi_8 (jn := (((5 : Int32) * v1) + v3).toNatClampNeg) rfl dX7_summer_43 ?_
        refine lv_i2l hx hb dX7_summer_44 rfl ?_
        refine lv_iload_n hx hb dX7_summer_45 rfl (lv_at hl 3 rfl) ?_
        refine lv_if_ne (tgt := 54) hx hb dX7_summer_46 (by decide) (fun h => ?_) (fun h => ?_)
        · have hf := if_f h hf
          refine lv_bipush (v := 10) hx hb dX7_summer_54 (by decide) ?_
          refine lv_iload_n hx hb dX7_summer_56 rfl (lv_at hl 2 rfl) ?_
          refine lv_isub hx hb dX7_summer_57 ?_
          exact w58 S v1 v2 v3 ((10 : Int32) - v2) ((gI S 45 0 (((5 : Int32) * v1) + v3).toNatClampNeg).toInt64) v3  hf _ _ _ hW hS (lv_sub hl [0, 1, 2, 3] rfl)
        · have hf := if_t h hf
          refine lv_bipush (v := 10) hx hb dX7_summer_49 (by decide) ?_
          refine lv_goto (tgt := 58) hx hb dX7_summer_51 (by decide) ?_
          exact w58 S v1 v2 v3 (10 : Int32) ((gI S 45 0 (((5 : Int32) * v1) + v3).toNatClampNeg).toInt64) v3  hf _ _ _ hW hS (lv_sub hl [0, 1, 2, 3] rfl)
  unfold f_X7_summer at hf
  refine lv_aload_n hx hb dX7_summer_0 rfl (lv_at hl 0 rfl) ?_
  refine lv_iload_n hx hb dX7_summer_1 rfl (lv_at hl 1 rfl) ?_
  obtain ⟨r9, hc, hf⟩ := bd_out hf
  refine y_i (va_runV (As := [.int a1]) (rest := []) hfix (m_X7_isPupil l G B E hE S a1 r9 hc) (cwV 1 hts gX7_summer_X7_isPupil rfl rfl rfl ⟨rfl, hd_X7_isPupil⟩ ⟨Nat.le_of_ble_eq_true rfl, Nat.le_of_ble_eq_true rfl⟩) (y_pv hF hW hS (c1 hE) (e1 _ _ _ _ _ _) rfl) rfl rfl hl.1 rfl (lv_room (Nat.le_of_ble_eq_true rfl)) dX7_summer_2 ⟨Nat.le_of_ble_eq_true rfl, Nat.le_of_ble_eq_true rfl⟩) hS (fun H locs hW hS => ?_)
  refine lv_if_eq (tgt := 19) hx hb dX7_summer_5 (by decide) (fun h => ?_) (fun h => ?_)
  · have hf := if_t h hf
    refine lv_bipush (v := -2) hx hb dX7_summer_19 (by decide) ?_
    exact z_i hf hx hb hr rfl hF hW hS dX7_summer_21 hlocks
  · have hf := if_f h hf
    refine lv_aload_n hx hb dX7_summer_8 rfl (lv_at hl 0 rfl) ?_
    refine lv_iload_n hx hb dX7_summer_9 rfl (lv_at hl 2 rfl) ?_
    refine lv_iconst (v := 0) hx hb dX7_summer_10 rfl ?_
    refine lv_bipush (v := 9) hx hb dX7_summer_11 (by decide) ?_
    obtain ⟨r10, hc, hf⟩ := bd_out hf
    refine y_i (va_runV (As := [.int a2, .int (0 : Int32), .int (9 : Int32)]) (rest := []) hfix (m_X7_in l G B E hE S a2 (0 : Int32) (9 : Int32) r10 hc) (cwV 3 hts gX7_summer_X7_in rfl rfl rfl ⟨rfl, hd_X7_in⟩ ⟨Nat.le_of_ble_eq_true rfl, Nat.le_of_ble_eq_true rfl⟩) (y_pv hF hW hS (c1 hE) (e1 _ _ _ _ _ _) rfl) rfl rfl hl.1 rfl (lv_room (Nat.le_of_ble_eq_true rfl)) dX7_summer_13 ⟨Nat.le_of_ble_eq_true rfl, Nat.le_of_ble_eq_true rfl⟩) hS (fun H locs hW hS => ?_)
    refine lv_if_ne (tgt := 22) hx hb dX7_summer_16 (by decide) (fun h => ?_) (fun h => ?_)
    · have hf := if_f h hf
      refine lv_iconst (v := 0) hx hb dX7_summer_22 rfl ?_
      refine lv_istore_n (lv' := [(3, .int (0 : Int32)), (0, .ref (B 1 0)), (1, .int a1), (2, .int a2)]) hx hb dX7_summer_23 rfl hl (by decide) rfl (fun ls hl => ?_)
      exact w24 E.1 S a1 a2 (0 : Int32)  hf _ _ _ hW hS (lv_sub hl [1, 2, 3, 0] rfl)
    · have hf := if_t h hf
      refine lv_bipush (v := -2) hx hb dX7_summer_19 (by decide) ?_
      exact z_i hf hx hb hr rfl hF hW hS dX7_summer_21 hlocks
set_option maxHeartbeats 4000000 in
set_option maxRecDepth 100000 in
theorem m_X7_test (l : Launch) (G : GE) (B : Nat → Nat → Nat) (E : EN) (hE : 0 < E.2.2.2)  (S : ST) (a1 : Int32) (a2 : Int32) (rr : Int32) (SS : ST) (hf : f_X7_test E S a1 a2 = some (rr, SS)) : Met l yX7_test wsX7_test (rmN 6) (va_Pc [.ref (B 1 0), .int a1, .int a2] (WS G B E S)) (QI G B E SS rr) 0 0 (AA G) := by
  refine Met.ofW (cc := cX7_test) (maxL := 4) (ret := (some .int)) (by decide) rfl ?_
  intro p e s m args below meth c s₁ B0 hml hv
  obtain ⟨rfl, hW, hF⟩ := hv
  have hx := B0.exec
  have hb := B0.bytes
  have hr := B0.returns
  have hts := atoms_spec (ws := wsX7_test) B0.pre
  have hown : s.vm.findClass RX7 = some m.cls := findClass_of_methodNamed B0.named
  have hlocks := B0.notSynchronized
  have hK := hF.1
  have hfix : CallFix p m c cX7_test 4 s [.ref (B 1 0), .int a1, .int a2].toArray wsX7_test RX7 := ⟨hx, hb, hml, hown, hts⟩
  have hS : va_S (AA G) s.heap s.heap [] := va_S.rf
  have hl := lv_entry [.ref (B 1 0), .int a1, .int a2] (n := 4) (Nat.le_of_ble_eq_true rfl)
  rw [lg_entry_eq]
  generalize (lg_sl [.ref (B 1 0), .int a1, .int a2] ++ List.replicate (4 - (lg_sl [.ref (B 1 0), .int a1, .int a2]).length) Slot.unset).toArray = ls at hl ⊢
  have hl : lv_has ls 4 [(0, .ref (B 1 0)), (1, .int a1), (2, .int a2)] := hl
  have q0 := hts (.fieldLink RX7 15 "MovesUpModel" "grade" "[I") (List.mem_of_getElem? (i := 3) rfl)
  have q1 := hts (.fieldLink RX7 114 "MovesUpModel" "gradeAt" "[I") (List.mem_of_getElem? (i := 4) rfl)
  have q2 := hts (.fieldLink RX7 146 "MovesUpModel" "then" "[J") (List.mem_of_getElem? (i := 1) rfl)
  have q3 := hts (.fieldLink RX7 110 "MovesUpModel" "row" "[J") (List.mem_of_getElem? (i := 2) rfl)
  have hi7 : ∀ w ∈ u_ws RX7 TX7 47, w ∈ wsX7_test := in_seg 98 rfl
  have w57 : ∀ (S : ST) (v1 : Int32) (v2 : Int32) , f_X7_test_b57 E S v1 v2 = some (rr, SS) → ∀ (H : Heap) (locs : List Loc) (ls : Array Slot), WH G B E S H → va_S (AA G) s.heap H locs → lv_has ls 4 [(0, .ref (B 1 0)), (1, .int v1), (2, .int v2)] → W p l e (headSpec wsX7_test (rmN 6)).room s m [.ref (B 1 0), .int a1, .int a2].toArray below meth c H locs 0 0 (MQ below (QI G B E SS rr) [.ref (B 1 0), .int a1, .int a2].toArray s 0 0 (AA G)) (F0 m 57 ls []) := by
    intro S v1 v2 hf H locs ls hW hS hl
    unfold f_X7_test_b57 at hf
    refine lv_aload_n hx hb dX7_test_57 rfl (lv_at hl 0 rfl) ?_
    refine lv_iload_n hx hb dX7_test_58 rfl (lv_at hl 1 rfl) ?_
    obtain ⟨r1, S2, hc, hf⟩ := bd2_out hf
    refine y_i (va_runV (As := [.int v1]) (rest := []) hfix (m_X7_becomes l G B E hE S v1 r1 S2 hc) (cwV 1 hts gX7_test_X7_becomes rfl rfl rfl ⟨rfl, hd_X7_becomes⟩ ⟨Nat.le_of_ble_eq_true rfl, Nat.le_of_ble_eq_true rfl⟩) (y_pv hF hW hS (c1 hE) (e1 _ _ _ _ _ _) rfl) rfl rfl hl.1 rfl (lv_room (Nat.le_of_ble_eq_true rfl)) dX7_test_59 ⟨Nat.le_of_ble_eq_true rfl, Nat.le_of_ble_eq_true rfl⟩) hS (fun H locs hW hS => ?_)
    refine lv_if_ne (tgt := 68) hx hb dX7_test_62 (by decide) (fun h => ?_) (fun h => ?_)
    · have hf := if_f h hf
      refine lv_aload_n hx hb dX7_test_68 rfl (lv_at hl 0 rfl) ?_
      refine x_get hx hb hts hi7 hown hK hW (c1 hE) (e1 _ _ _ _ _ _) rfl 2 (Nat.le_of_ble_eq_true rfl) q0 (fun _ h => h) (v := .ref (B 42 0)) rfl dX7_test_69 ?_
      refine lv_iload_n hx hb dX7_test_72 rfl (lv_at hl 1 rfl) ?_
      refine lv_aload_n hx hb dX7_test_73 rfl (lv_at hl 0 rfl) ?_
      refine x_get hx hb hts hi7 hown hK hW (c1 hE) (e1 _ _ _ _ _ _) rfl 27 (Nat.le_of_ble_eq_true rfl) q1 (fun _ h => h) (v := .ref (B 67 0)) rfl dX7_test_74 ?_
      refine lv_iload_n hx hb dX7_test_77 rfl (lv_at hl 2 rfl) ?_
      refine lv_bipush (v := 100) hx hb dX7_test_78 (by decide) ?_
      refine lv_idiv hx hb dX7_test_80 (by decide) ?_
      obtain ⟨hi_3, hf⟩ := ck_out hf
      have hi_3 := ib_in hi_3
      refine x_iald hx hb hK hW (c67 hE) (e67 _ _ _ _ _ _) hi_3 (jn := (v2 / (100 : Int32)).toNatClampNeg) rfl dX7_test_81 ?_
      obtain ⟨hi_4, hf⟩ := ck_out hf
      have hi_4 := ib_in hi_4
      obtain ⟨S5, e_S5, hf⟩ := lt_out hf
      refine x_iast hx hb hK hW hS (c42 hE) (fun f r => e42 _ _ _ f _ r) hi_4 (jn := v1.toNatClampNeg) rfl e_S5 dX7_test_82 (fun H locs hW hS => ?_)
      refine lv_aload_n hx hb dX7_test_83 rfl (lv_at hl 0 rfl) ?_
      refine x_get hx hb hts hi7 hown hK hW (c1 hE) (e1 _ _ _ _ _ _) rfl 2 (Nat.le_of_ble_eq_true rfl) q0 (fun _ h => h) (v := .ref (B 42 0)) rfl dX7_test_84 ?_
      refine lv_iload_n hx hb dX7_test_87 rfl (lv_at hl 1 rfl) ?_
      refine x_iald hx hb hK hW (c42 hE) (e42 _ _ _ _ _ _) hi_4 (jn := v1.toNatClampNeg) rfl dX7_test_88 ?_
      exact z_i hf hx hb hr rfl hF hW hS dX7_test_89 hlocks
    · have hf := if_t h hf
      refine lv_bipush (v := -3) hx hb dX7_test_65 (by decide) ?_
      exact z_i hf hx hb hr rfl hF hW hS dX7_test_67 hlocks
  have w27 : ∀ (n27 : Nat) (S : ST) (v1 : Int32) (v2 : Int32) (v3 : Int32) , f_X7_test_b27 E n27 S v1 v2 v3 = some (rr, SS) → ∀ (H : Heap) (locs : List Loc) (ls : Array Slot), WH G B E S H → va_S (AA G) s.heap H locs → lv_has ls 4 [(0, .ref (B 1 0)), (1, .int v1), (2, .int v2), (3, .int v3)] → W p l e (headSpec wsX7_test (rmN 6)).room s m [.ref (B 1 0), .int a1, .int a2].toArray below meth c H locs 0 0 (MQ below (QI G B E SS rr) [.ref (B 1 0), .int a1, .int a2].toArray s 0 0 (AA G)) (F0 m 27 ls []) := by
    intro n27
    induction n27 with
    | zero =>
      intro S v1 v2 v3 hf
      exact absurd (show (none : Option (Int32 × ST)) = some (rr, SS) from hf) (fun h => by cases h)
    | succ n27 ih27 =>
      intro S v1 v2 v3 hf H locs ls hW hS hl
      have hf : g_X7_test_b27 E (f_X7_test_b27 E n27) S v1 v2 v3 = some (rr, SS) := hf
      unfold g_X7_test_b27 at hf
      refine lv_iload_n hx hb dX7_test_27 rfl (lv_at hl 3 rfl) ?_
      refine lv_iconst (v := 5) hx hb dX7_test_28 rfl ?_
      refine lv_icmp_ge (tgt := 57) hx hb dX7_test_29 (by decide) (fun h => ?_) (fun h => ?_)
      · have hf := if_t h hf
        exact w57 S v1 v2  hf _ _ _ hW hS (lv_sub hl [0, 1, 2] rfl)
      · have hf := if_f h hf
        refine lv_aload_n hx hb dX7_test_32 rfl (lv_at hl 0 rfl) ?_
        refine x_get hx hb hts hi7 hown hK hW (c1 hE) (e1 _ _ _ _ _ _) rfl 37 (Nat.le_of_ble_eq_true rfl) q2 (fun _ h => h) (v := .ref (B 77 0)) rfl dX7_test_33 ?_
        refine lv_iload_n hx hb dX7_test_36 rfl (lv_at hl 3 rfl) ?_
        refine lv_aload_n hx hb dX7_test_37 rfl (lv_at hl 0 rfl) ?_
        refine x_get hx hb hts hi7 hown hK hW (c1 hE) (e1 _ _ _ _ _ _) rfl 26 (Nat.le_of_ble_eq_true rfl) q3 (fun _ h => h) (v := .ref (B 66 0)) rfl dX7_test_38 ?_
        refine lv_iconst (v := 5) hx hb dX7_test_41 rfl ?_
        refine lv_iload_n hx hb dX7_test_42 rfl (lv_at hl 2 rfl) ?_
        refine lv_bipush (v := 100) hx hb dX7_test_43 (by decide) ?_
        refine lv_idiv hx hb dX7_test_45 (by decide) ?_
        refine lv_imul hx hb dX7_test_46 ?_
        refine lv_iload_n hx hb dX7_test_47 rfl (lv_at hl 3 rfl) ?_
        refine lv_iadd hx hb dX7_test_48 ?_
        obtain ⟨hi_6, hf⟩ := ck_out hf
        have hi_6 := ib_in hi_6
        refine x_lald hx hb hK hW (c66 hE) (e66 _ _ _ _ _ _) hi_6 (jn := (((5 : Int32) * (v2 / (100 : Int32))) + v3).toNatClampNeg) rfl dX7_test_49 ?_
        obtain ⟨hi_7, hf⟩ := ck_out hf
        have hi_7 := ib_in hi_7
        obtain ⟨S8, e_S8, hf⟩ := lt_out hf
        refine x_last hx hb hK hW hS (c77 hE) (fun g => e77 _ _ _ _ g _) hi_7 (jn := v3.toNatClampNeg) rfl e_S8 dX7_test_50 (fun H locs hW hS => ?_)
        obtain ⟨x9, e_x9, hf⟩ := lt_out hf
        refine lv_iinc (v := x9) (lv' := [(3, .int x9), (0, .ref (B 1 0)), (1, .int v1), (2, .int v2)]) hx hb dX7_test_51 hl (k := 3) rfl (by rw [e_x9]; rfl) (by decide) rfl (fun ls hl => ?_)
        refine lv_goto (tgt := 27) hx hb dX7_test_54 (by decide) ?_
        exact ih27 S8 v1 v2 x9  hf _ _ _ hW hS (lv_sub hl [1, 2, 3, 0] rfl)
  unfold f_X7_test at hf
  refine lv_aload_n hx hb dX7_test_0 rfl (lv_at hl 0 rfl) ?_
  refine lv_iload_n hx hb dX7_test_1 rfl (lv_at hl 1 rfl) ?_
  obtain ⟨r10, hc, hf⟩ := bd_out hf
  refine y_i (va_runV (As := [.int a1]) (rest := []) hfix (m_X7_isPupil l G B E hE S a1 r10 hc) (cwV 1 hts gX7_test_X7_isPupil rfl rfl rfl ⟨rfl, hd_X7_isPupil⟩ ⟨Nat.le_of_ble_eq_true rfl, Nat.le_of_ble_eq_true rfl⟩) (y_pv hF hW hS (c1 hE) (e1 _ _ _ _ _ _) rfl) rfl rfl hl.1 rfl (lv_room (Nat.le_of_ble_eq_true rfl)) dX7_test_2 ⟨Nat.le_of_ble_eq_true rfl, Nat.le_of_ble_eq_true rfl⟩) hS (fun H locs hW hS => ?_)
  refine lv_if_eq (tgt := 16) hx hb dX7_test_5 (by decide) (fun h => ?_) (fun h => ?_)
  · have hf := if_t h hf
    refine lv_bipush (v := -2) hx hb dX7_test_16 (by decide) ?_
    exact z_i hf hx hb hr rfl hF hW hS dX7_test_18 hlocks
  · have hf := if_f h hf
    refine lv_aload_n hx hb dX7_test_8 rfl (lv_at hl 0 rfl) ?_
    refine lv_iload_n hx hb dX7_test_9 rfl (lv_at hl 2 rfl) ?_
    obtain ⟨r11, hc, hf⟩ := bd_out hf
    refine y_i (va_runV (As := [.int a2]) (rest := []) hfix (m_X7_areMarks l G B E hE S a2 r11 hc) (cwV 1 hts gX7_test_X7_areMarks rfl rfl rfl ⟨rfl, hd_X7_areMarks⟩ ⟨Nat.le_of_ble_eq_true rfl, Nat.le_of_ble_eq_true rfl⟩) (y_pv hF hW hS (c1 hE) (e1 _ _ _ _ _ _) rfl) rfl rfl hl.1 rfl (lv_room (Nat.le_of_ble_eq_true rfl)) dX7_test_10 ⟨Nat.le_of_ble_eq_true rfl, Nat.le_of_ble_eq_true rfl⟩) hS (fun H locs hW hS => ?_)
    refine lv_if_ne (tgt := 19) hx hb dX7_test_13 (by decide) (fun h => ?_) (fun h => ?_)
    · have hf := if_f h hf
      refine lv_aload_n hx hb dX7_test_19 rfl (lv_at hl 0 rfl) ?_
      refine lv_iload_n hx hb dX7_test_20 rfl (lv_at hl 1 rfl) ?_
      refine lv_iload_n hx hb dX7_test_21 rfl (lv_at hl 2 rfl) ?_
      obtain ⟨S12, hc, hf⟩ := bd_out hf
      refine y_v (va_runV (As := [.int a1, .int a2]) (rest := []) hfix (m_X7_goMarks l G B E hE S a1 a2 S12 hc) (cwV 2 hts gX7_test_X7_goMarks rfl rfl rfl ⟨rfl, hd_X7_goMarks⟩ ⟨Nat.le_of_ble_eq_true rfl, Nat.le_of_ble_eq_true rfl⟩) (y_pv hF hW hS (c1 hE) (e1 _ _ _ _ _ _) rfl) rfl rfl hl.1 rfl (lv_room (Nat.le_of_ble_eq_true rfl)) dX7_test_22 ⟨Nat.le_of_ble_eq_true rfl, Nat.le_of_ble_eq_true rfl⟩) hS (fun H locs hW hS => ?_)
      refine lv_iconst (v := 0) hx hb dX7_test_25 rfl ?_
      refine lv_istore_n (lv' := [(3, .int (0 : Int32)), (0, .ref (B 1 0)), (1, .int a1), (2, .int a2)]) hx hb dX7_test_26 rfl hl (by decide) rfl (fun ls hl => ?_)
      exact w27 E.1 S12 a1 a2 (0 : Int32)  hf _ _ _ hW hS (lv_sub hl [1, 2, 3, 0] rfl)
    · have hf := if_t h hf
      refine lv_bipush (v := -2) hx hb dX7_test_16 (by decide) ?_
      exact z_i hf hx hb hr rfl hF hW hS dX7_test_18 hlocks
set_option maxHeartbeats 4000000 in
set_option maxRecDepth 100000 in
theorem m_X7_cut (l : Launch) (G : GE) (B : Nat → Nat → Nat) (E : EN) (hE : 0 < E.2.2.2)  (S : ST) (a1 : Int32) (a2 : Int32) (a3 : Int32) (rr : Int32) (hf : f_X7_cut E S a1 a2 a3 = some rr) : Met l yX7_cut wsX7_cut (rmN 3) (va_Pc [.ref (B 1 0), .int a1, .int a2, .int a3] (WS G B E S)) (QI G B E S rr) 0 0 (AA G) := by
  refine Met.ofW (cc := cX7_cut) (maxL := 12) (ret := (some .int)) (by decide) rfl ?_
  intro p e s m args below meth c s₁ B0 hml hv
  obtain ⟨rfl, hW, hF⟩ := hv
  have hx := B0.exec
  have hb := B0.bytes
  have hr := B0.returns
  have hts := atoms_spec (ws := wsX7_cut) B0.pre
  have hown : s.vm.findClass RX7 = some m.cls := findClass_of_methodNamed B0.named
  have hlocks := B0.notSynchronized
  have hK := hF.1
  have hfix : CallFix p m c cX7_cut 12 s [.ref (B 1 0), .int a1, .int a2, .int a3].toArray wsX7_cut RX7 := ⟨hx, hb, hml, hown, hts⟩
  have hS : va_S (AA G) s.heap s.heap [] := va_S.rf
  have hl := lv_entry [.ref (B 1 0), .int a1, .int a2, .int a3] (n := 12) (Nat.le_of_ble_eq_true rfl)
  rw [lg_entry_eq]
  generalize (lg_sl [.ref (B 1 0), .int a1, .int a2, .int a3] ++ List.replicate (12 - (lg_sl [.ref (B 1 0), .int a1, .int a2, .int a3]).length) Slot.unset).toArray = ls at hl ⊢
  have hl : lv_has ls 12 [(0, .ref (B 1 0)), (1, .int a1), (2, .int a2), (3, .int a3)] := hl
  have q0 := hts (.fieldLink RX7 171 "MovesUpModel" "item" "[I") (List.mem_of_getElem? (i := 3) rfl)
  have q1 := hts (.fieldLink RX7 165 "MovesUpModel" "sort" "[I") (List.mem_of_getElem? (i := 1) rfl)
  have q2 := hts (.fieldLink RX7 168 "MovesUpModel" "rows" "[I") (List.mem_of_getElem? (i := 2) rfl)
  have hi7 : ∀ w ∈ u_ws RX7 TX7 47, w ∈ wsX7_cut := in_seg 13 rfl
  have w245 : ∀ (_ : Unit) (v3 : Int32) (v5 : Int32) (v6 : Int32) , f_X7_cut_b245 E S v3 v5 v6 = some rr → ∀ (H : Heap) (locs : List Loc) (ls : Array Slot), WH G B E S H → va_S (AA G) s.heap H locs → lv_has ls 12 [(3, .int v3), (5, .int v5), (6, .int v6)] → W p l e (headSpec wsX7_cut (rmN 3)).room s m [.ref (B 1 0), .int a1, .int a2, .int a3].toArray below meth c H locs 0 0 (MQ below (QI G B E S rr) [.ref (B 1 0), .int a1, .int a2, .int a3].toArray s 0 0 (AA G)) (F0 m 245 ls []) := by
    intro _ v3 v5 v6 hf H locs ls hW hS hl
    unfold f_X7_cut_b245 at hf
    refine lv_iload_n hx hb dX7_cut_245 rfl (lv_at hl 0 rfl) ?_
    refine lv_if_ne (tgt := 254) hx hb dX7_cut_246 (by decide) (fun h => ?_) (fun h => ?_)
    · have hf := if_f h hf
      refine lv_iload hx hb dX7_cut_254 (lv_at hl 1 rfl) ?_
      exact zr_i hf hx hb hr rfl hF hW hS dX7_cut_256 hlocks
    · have hf := if_t h hf
      refine lv_iload hx hb dX7_cut_249 (lv_at hl 2 rfl) ?_
      refine lv_goto (tgt := 256) hx hb dX7_cut_251 (by decide) ?_
      exact zr_i hf hx hb hr rfl hF hW hS dX7_cut_256 hlocks
  have w130 : ∀ (n130 : Nat) (_ : Unit) (v1 : Int32) (v2 : Int32) (v3 : Int32) (v4 : Int32) (v5 : Int32) (v6 : Int32) (v7 : Int32) , f_X7_cut_b130 E n130 S v1 v2 v3 v4 v5 v6 v7 = some rr → ∀ (H : Heap) (locs : List Loc) (ls : Array Slot), WH G B E S H → va_S (AA G) s.heap H locs → lv_has ls 12 [(0, .ref (B 1 0)), (1, .int v1), (2, .int v2), (3, .int v3), (4, .int v4), (5, .int v5), (6, .int v6), (7, .int v7)] → W p l e (headSpec wsX7_cut (rmN 3)).room s m [.ref (B 1 0), .int a1, .int a2, .int a3].toArray below meth c H locs 0 0 (MQ below (QI G B E S rr) [.ref (B 1 0), .int a1, .int a2, .int a3].toArray s 0 0 (AA G)) (F0 m 130 ls []) := by
    intro n130
    induction n130 with
    | zero =>
      intro _ v1 v2 v3 v4 v5 v6 v7 hf
      exact absurd (show (none : Option Int32) = some rr from hf) (fun h => by cases h)
    | succ n130 ih130 =>
      have w239 : ∀ (_ : Unit) (v1 : Int32) (v2 : Int32) (v3 : Int32) (v4 : Int32) (v5 : Int32) (v6 : Int32) (v7 : Int32) , f_X7_cut_b239 E (f_X7_cut_b130 E n130) S v1 v2 v3 v4 v5 v6 v7 = some rr → ∀ (H : Heap) (locs : List Loc) (ls : Array Slot), WH G B E S H → va_S (AA G) s.heap H locs → lv_has ls 12 [(0, .ref (B 1 0)), (1, .int v1), (2, .int v2), (3, .int v3), (4, .int v4), (5, .int v5), (6, .int v6), (7, .int v7)] → W p l e (headSpec wsX7_cut (rmN 3)).room s m [.ref (B 1 0), .int a1, .int a2, .int a3].toArray below meth c H locs 0 0 (MQ below (QI G B E S rr) [.ref (B 1 0), .int a1, .int a2, .int a3].toArray s 0 0 (AA G)) (F0 m 239 ls []) := by
        intro _ v1 v2 v3 v4 v5 v6 v7 hf H locs ls hW hS hl
        unfold f_X7_cut_b239 at hf
        obtain ⟨x1, e_x1, hf⟩ := lt_out hf
        refine lv_iinc (v := x1) (lv' := [(7, .int x1), (0, .ref (B 1 0)), (1, .int v1), (2, .int v2), (3, .int v3), (4, .int v4), (5, .int v5), (6, .int v6)]) hx hb dX7_cut_239 hl (k := 7) rfl (by rw [e_x1]; rfl) (by decide) rfl (fun ls hl => ?_)
        refine lv_goto (tgt := 130) hx hb dX7_cut_242 (by decide) ?_
        exact ih130 () v1 v2 v3 v4 v5 v6 x1  hf _ _ _ hW hS (lv_sub hl [1, 2, 3, 4, 5, 6, 7, 0] rfl)
      have w231 : ∀ (_ : Unit) (v1 : Int32) (v2 : Int32) (v3 : Int32) (v4 : Int32) (v7 : Int32) (v10 : Int32) , f_X7_cut_b231 E (f_X7_cut_b130 E n130) S v1 v2 v3 v4 v7 v10 = some rr → ∀ (H : Heap) (locs : List Loc) (ls : Array Slot), WH G B E S H → va_S (AA G) s.heap H locs → lv_has ls 12 [(0, .ref (B 1 0)), (1, .int v1), (2, .int v2), (3, .int v3), (4, .int v4), (7, .int v7), (10, .int v10)] → W p l e (headSpec wsX7_cut (rmN 3)).room s m [.ref (B 1 0), .int a1, .int a2, .int a3].toArray below meth c H locs 0 0 (MQ below (QI G B E S rr) [.ref (B 1 0), .int a1, .int a2, .int a3].toArray s 0 0 (AA G)) (F0 m 231 ls []) := by
        intro _ v1 v2 v3 v4 v7 v10 hf H locs ls hW hS hl
        unfold f_X7_cut_b231 at hf
        refine lv_iload hx hb dX7_cut_231 (lv_at hl 6 rfl) ?_
        refine lv_istore (lv' := [(6, .int v10), (0, .ref (B 1 0)), (1, .int v1), (2, .int v2), (3, .int v3), (4, .int v4), (7, .int v7), (10, .int v10)]) hx hb dX7_cut_233 hl (by decide) rfl (fun ls hl => ?_)
        refine lv_iload hx hb dX7_cut_235 (lv_at hl 6 rfl) ?_
        refine lv_istore (lv' := [(5, .int v7), (6, .int v10), (0, .ref (B 1 0)), (1, .int v1), (2, .int v2), (3, .int v3), (4, .int v4), (7, .int v7), (10, .int v10)]) hx hb dX7_cut_237 hl (by decide) rfl (fun ls hl => ?_)
        exact w239 () v1 v2 v3 v4 v7 v10 v7  hf _ _ _ hW hS (lv_sub hl [2, 3, 4, 5, 6, 0, 1, 7] rfl)
      have w210 : ∀ (_ : Unit) (v1 : Int32) (v2 : Int32) (v3 : Int32) (v4 : Int32) (v5 : Int32) (v6 : Int32) (v7 : Int32) (v8 : Int32) (v10 : Int32) , f_X7_cut_b210 E (f_X7_cut_b130 E n130) S v1 v2 v3 v4 v5 v6 v7 v8 v10 = some rr → ∀ (H : Heap) (locs : List Loc) (ls : Array Slot), WH G B E S H → va_S (AA G) s.heap H locs → lv_has ls 12 [(0, .ref (B 1 0)), (1, .int v1), (2, .int v2), (3, .int v3), (4, .int v4), (5, .int v5), (6, .int v6), (7, .int v7), (8, .int v8), (10, .int v10)] → W p l e (headSpec wsX7_cut (rmN 3)).room s m [.ref (B 1 0), .int a1, .int a2, .int a3].toArray below meth c H locs 0 0 (MQ below (QI G B E S rr) [.ref (B 1 0), .int a1, .int a2, .int a3].toArray s 0 0 (AA G)) (F0 m 210 ls []) := by
        intro _ v1 v2 v3 v4 v5 v6 v7 v8 v10 hf H locs ls hW hS hl
        unfold f_X7_cut_b210 at hf
        refine lv_iload hx hb dX7_cut_210 (lv_at hl 8 rfl) ?_
        refine lv_iload_n hx hb dX7_cut_212 rfl (lv_at hl 1 rfl) ?_
        refine lv_icmp_ne (tgt := 239) hx hb dX7_cut_213 (by decide) (fun h => ?_) (fun h => ?_)
        · have hf := if_f h hf
          exact w239 () v1 v2 v3 v4 v5 v6 v7  hf _ _ _ hW hS (lv_sub hl [0, 1, 2, 3, 4, 5, 6, 7] rfl)
        · have hf := if_t h hf
          refine lv_iload hx hb dX7_cut_216 (lv_at hl 6 rfl) ?_
          refine lv_if_lt (tgt := 231) hx hb dX7_cut_218 (by decide) (fun h => ?_) (fun h => ?_)
          · have hf := if_t h hf
            exact w231 () v1 v2 v3 v4 v7 v10  hf _ _ _ hW hS (lv_sub hl [0, 1, 2, 3, 4, 7, 9] rfl)
          · have hf := if_f h hf
            refine lv_iload hx hb dX7_cut_221 (lv_at hl 9 rfl) ?_
            refine lv_iload hx hb dX7_cut_223 (lv_at hl 6 rfl) ?_
            refine lv_icmp_lt (tgt := 231) hx hb dX7_cut_225 (by decide) (fun h => ?_) (fun h => ?_)
            · have hf := if_t h hf
              exact w231 () v1 v2 v3 v4 v7 v10  hf _ _ _ hW hS (lv_sub hl [0, 1, 2, 3, 4, 7, 9] rfl)
            · have hf := if_f h hf
              refine lv_goto (tgt := 239) hx hb dX7_cut_228 (by decide) ?_
              exact w239 () v1 v2 v3 v4 v5 v6 v7  hf _ _ _ hW hS (lv_sub hl [0, 1, 2, 3, 4, 5, 6, 7] rfl)
      have w151 : ∀ (n151 : Nat) (_ : Unit) (v1 : Int32) (v2 : Int32) (v3 : Int32) (v4 : Int32) (v5 : Int32) (v6 : Int32) (v7 : Int32) (v8 : Int32) (v9 : Int32) (v10 : Int32) (v11 : Int32) , f_X7_cut_b151 E (f_X7_cut_b130 E n130) n151 S v1 v2 v3 v4 v5 v6 v7 v8 v9 v10 v11 = some rr → ∀ (H : Heap) (locs : List Loc) (ls : Array Slot), WH G B E S H → va_S (AA G) s.heap H locs → lv_has ls 12 [(0, .ref (B 1 0)), (1, .int v1), (2, .int v2), (3, .int v3), (4, .int v4), (5, .int v5), (6, .int v6), (7, .int v7), (8, .int v8), (9, .int v9), (10, .int v10), (11, .int v11)] → W p l e (headSpec wsX7_cut (rmN 3)).room s m [.ref (B 1 0), .int a1, .int a2, .int a3].toArray below meth c H locs 0 0 (MQ below (QI G B E S rr) [.ref (B 1 0), .int a1, .int a2, .int a3].toArray s 0 0 (AA G)) (F0 m 151 ls []) := by
        intro n151
        induction n151 with
        | zero =>
          intro _ v1 v2 v3 v4 v5 v6 v7 v8 v9 v10 v11 hf
          exact absurd (show (none : Option Int32) = some rr from hf) (fun h => by cases h)
        | succ n151 ih151 =>
          have w204 : ∀ (_ : Unit) (v1 : Int32) (v2 : Int32) (v3 : Int32) (v4 : Int32) (v5 : Int32) (v6 : Int32) (v7 : Int32) (v8 : Int32) (v9 : Int32) (v10 : Int32) (v11 : Int32) , f_X7_cut_b204 E (f_X7_cut_b130 E n130) (f_X7_cut_b151 E (f_X7_cut_b130 E n130) n151) S v1 v2 v3 v4 v5 v6 v7 v8 v9 v10 v11 = some rr → ∀ (H : Heap) (locs : List Loc) (ls : Array Slot), WH G B E S H → va_S (AA G) s.heap H locs → lv_has ls 12 [(0, .ref (B 1 0)), (1, .int v1), (2, .int v2), (3, .int v3), (4, .int v4), (5, .int v5), (6, .int v6), (7, .int v7), (8, .int v8), (9, .int v9), (10, .int v10), (11, .int v11)] → W p l e (headSpec wsX7_cut (rmN 3)).room s m [.ref (B 1 0), .int a1, .int a2, .int a3].toArray below meth c H locs 0 0 (MQ below (QI G B E S rr) [.ref (B 1 0), .int a1, .int a2, .int a3].toArray s 0 0 (AA G)) (F0 m 204 ls []) := by
            intro _ v1 v2 v3 v4 v5 v6 v7 v8 v9 v10 v11 hf H locs ls hW hS hl
            unfold f_X7_cut_b204 at hf
            obtain ⟨x2, e_x2, hf⟩ := lt_out hf
            refine lv_iinc (v := x2) (lv' := [(11, .int x2), (0, .ref (B 1 0)), (1, .int v1), (2, .int v2), (3, .int v3), (4, .int v4), (5, .int v5), (6, .int v6), (7, .int v7), (8, .int v8), (9, .int v9), (10, .int v10)]) hx hb dX7_cut_204 hl (k := 11) rfl (by rw [e_x2]; rfl) (by decide) rfl (fun ls hl => ?_)
            refine lv_goto (tgt := 151) hx hb dX7_cut_207 (by decide) ?_
            exact ih151 () v1 v2 v3 v4 v5 v6 v7 v8 v9 v10 x2  hf _ _ _ hW hS (lv_sub hl [1, 2, 3, 4, 5, 6, 7, 8, 9, 10, 11, 0] rfl)
          intro _ v1 v2 v3 v4 v5 v6 v7 v8 v9 v10 v11 hf H locs ls hW hS hl
          have hf : g_X7_cut_b151 E (f_X7_cut_b130 E n130) (f_X7_cut_b151 E (f_X7_cut_b130 E n130) n151) S v1 v2 v3 v4 v5 v6 v7 v8 v9 v10 v11 = some rr := hf
          unfold g_X7_cut_b151 at hf
          refine lv_iload hx hb dX7_cut_151 (lv_at hl 11 rfl) ?_
          refine lv_iload hx hb dX7_cut_153 (lv_at hl 4 rfl) ?_
          refine lv_icmp_ge (tgt := 210) hx hb dX7_cut_155 (by decide) (fun h => ?_) (fun h => ?_)
          · have hf := if_t h hf
            exact w210 () v1 v2 v3 v4 v5 v6 v7 v8 v10  hf _ _ _ hW hS (lv_sub hl [0, 1, 2, 3, 4, 5, 6, 7, 8, 10] rfl)
          · have hf := if_f h hf
            refine lv_iload hx hb dX7_cut_158 (lv_at hl 9 rfl) ?_
            refine lv_aload_n hx hb dX7_cut_160 rfl (lv_at hl 0 rfl) ?_
            refine x_get hx hb hts hi7 hown hK hW (c1 hE) (e1 _ _ _ _ _ _) rfl 45 (Nat.le_of_ble_eq_true rfl) q0 (fun _ h => h) (v := .ref (B 85 0)) rfl dX7_cut_161 ?_
            refine lv_bipush (v := 40) hx hb dX7_cut_164 (by decide) ?_
            refine lv_iload_n hx hb dX7_cut_166 rfl (lv_at hl 2 rfl) ?_
            refine lv_imul hx hb dX7_cut_167 ?_
            refine lv_iload hx hb dX7_cut_168 (lv_at hl 11 rfl) ?_
            refine lv_iadd hx hb dX7_cut_170 ?_
            obtain ⟨hi_3, hf⟩ := ck_out hf
            have hi_3 := ib_in hi_3
            refine x_iald hx hb hK hW (c85 hE) (e85 _ _ _ _ _ _) hi_3 (jn := (((40 : Int32) * v2) + v11).toNatClampNeg) rfl dX7_cut_171 ?_
            refine lv_iadd hx hb dX7_cut_172 ?_
            obtain ⟨x4, e_x4, hf⟩ := lt_out hf
            refine x_nmI e_x4 ?_
            refine lv_istore (lv' := [(9, .int x4), (0, .ref (B 1 0)), (1, .int v1), (2, .int v2), (3, .int v3), (4, .int v4), (5, .int v5), (6, .int v6), (7, .int v7), (8, .int v8), (10, .int v10), (11, .int v11)]) hx hb dX7_cut_173 hl (by decide) rfl (fun ls hl => ?_)
            refine lv_iload hx hb dX7_cut_175 (lv_at hl 8 rfl) ?_
            refine lv_iload hx hb dX7_cut_177 (lv_at hl 11 rfl) ?_
            refine lv_ishr hx hb dX7_cut_179 ?_
            refine lv_iconst (v := 1) hx hb dX7_cut_180 rfl ?_
            refine lv_iand hx hb dX7_cut_181 ?_
            refine lv_if_ne (tgt := 188) hx hb dX7_cut_182 (by decide) (fun h => ?_) (fun h => ?_)
            · have hf := if_f h hf
              obtain ⟨x5, e_x5, hf⟩ := lt_out hf
              refine lv_iinc (v := x5) (lv' := [(8, .int x5), (9, .int x4), (0, .ref (B 1 0)), (1, .int v1), (2, .int v2), (3, .int v3), (4, .int v4), (5, .int v5), (6, .int v6), (7, .int v7), (10, .int v10), (11, .int v11)]) hx hb dX7_cut_188 hl (k := 9) rfl (by rw [e_x5]; rfl) (by decide) rfl (fun ls hl => ?_)
              refine lv_iload hx hb dX7_cut_191 (lv_at hl 10 rfl) ?_
              refine lv_iload hx hb dX7_cut_193 (lv_at hl 1 rfl) ?_
              refine lv_iload hx hb dX7_cut_195 (lv_at hl 1 rfl) ?_
              refine lv_imul hx hb dX7_cut_197 ?_
              refine lv_iadd hx hb dX7_cut_198 ?_
              obtain ⟨x6, e_x6, hf⟩ := lt_out hf
              refine x_nmI e_x6 ?_
              refine lv_istore (lv' := [(10, .int x6), (8, .int x5), (9, .int x4), (0, .ref (B 1 0)), (1, .int v1), (2, .int v2), (3, .int v3), (4, .int v4), (5, .int v5), (6, .int v6), (7, .int v7), (11, .int v11)]) hx hb dX7_cut_199 hl (by decide) rfl (fun ls hl => ?_)
              refine lv_iconst (v := 0) hx hb dX7_cut_201 rfl ?_
              refine lv_istore (lv' := [(9, .int (0 : Int32)), (10, .int x6), (8, .int x5), (0, .ref (B 1 0)), (1, .int v1), (2, .int v2), (3, .int v3), (4, .int v4), (5, .int v5), (6, .int v6), (7, .int v7), (11, .int v11)]) hx hb dX7_cut_202 hl (by decide) rfl (fun ls hl => ?_)
              exact w204 () v1 v2 v3 v4 v5 v6 v7 x5 (0 : Int32) x6 v11  hf _ _ _ hW hS (lv_sub hl [3, 4, 5, 6, 7, 8, 9, 10, 2, 0, 1, 11] rfl)
            · have hf := if_t h hf
              refine lv_goto (tgt := 204) hx hb dX7_cut_185 (by decide) ?_
              exact w204 () v1 v2 v3 v4 v5 v6 v7 v8 x4 v10 v11  hf _ _ _ hW hS (lv_sub hl [1, 2, 3, 4, 5, 6, 7, 8, 9, 0, 10, 11] rfl)
      intro _ v1 v2 v3 v4 v5 v6 v7 hf H locs ls hW hS hl
      have hf : g_X7_cut_b130 E (f_X7_cut_b130 E n130) S v1 v2 v3 v4 v5 v6 v7 = some rr := hf
      unfold g_X7_cut_b130 at hf
      refine lv_iload hx hb dX7_cut_130 (lv_at hl 7 rfl) ?_
      refine lv_iconst (v := 1) hx hb dX7_cut_132 rfl ?_
      refine lv_iload hx hb dX7_cut_133 (lv_at hl 4 rfl) ?_
      refine lv_ishl hx hb dX7_cut_135 ?_
      refine lv_icmp_ge (tgt := 245) hx hb dX7_cut_136 (by decide) (fun h => ?_) (fun h => ?_)
      · have hf := if_t h hf
        exact w245 () v3 v5 v6  hf _ _ _ hW hS (lv_sub hl [3, 5, 6] rfl)
      · have hf := if_f h hf
        refine lv_iconst (v := 0) hx hb dX7_cut_139 rfl ?_
        refine lv_istore (lv' := [(8, .int (0 : Int32)), (0, .ref (B 1 0)), (1, .int v1), (2, .int v2), (3, .int v3), (4, .int v4), (5, .int v5), (6, .int v6), (7, .int v7)]) hx hb dX7_cut_140 hl (by decide) rfl (fun ls hl => ?_)
        refine lv_iconst (v := 0) hx hb dX7_cut_142 rfl ?_
        refine lv_istore (lv' := [(9, .int (0 : Int32)), (8, .int (0 : Int32)), (0, .ref (B 1 0)), (1, .int v1), (2, .int v2), (3, .int v3), (4, .int v4), (5, .int v5), (6, .int v6), (7, .int v7)]) hx hb dX7_cut_143 hl (by decide) rfl (fun ls hl => ?_)
        refine lv_iconst (v := 0) hx hb dX7_cut_145 rfl ?_
        refine lv_istore (lv' := [(10, .int (0 : Int32)), (9, .int (0 : Int32)), (8, .int (0 : Int32)), (0, .ref (B 1 0)), (1, .int v1), (2, .int v2), (3, .int v3), (4, .int v4), (5, .int v5), (6, .int v6), (7, .int v7)]) hx hb dX7_cut_146 hl (by decide) rfl (fun ls hl => ?_)
        refine lv_iconst (v := 0) hx hb dX7_cut_148 rfl ?_
        refine lv_istore (lv' := [(11, .int (0 : Int32)), (10, .int (0 : Int32)), (9, .int (0 : Int32)), (8, .int (0 : Int32)), (0, .ref (B 1 0)), (1, .int v1), (2, .int v2), (3, .int v3), (4, .int v4), (5, .int v5), (6, .int v6), (7, .int v7)]) hx hb dX7_cut_149 hl (by decide) rfl (fun ls hl => ?_)
        exact w151 E.1 () v1 v2 v3 v4 v5 v6 v7 (0 : Int32) (0 : Int32) (0 : Int32) (0 : Int32)  hf _ _ _ hW hS (lv_sub hl [4, 5, 6, 7, 8, 9, 10, 11, 3, 2, 1, 0] rfl)
  have w108 : ∀ (_ : Unit) (v1 : Int32) (v2 : Int32) (v3 : Int32) (v4 : Int32) , f_X7_cut_b108 E S v1 v2 v3 v4 = some rr → ∀ (H : Heap) (locs : List Loc) (ls : Array Slot), WH G B E S H → va_S (AA G) s.heap H locs → lv_has ls 12 [(0, .ref (B 1 0)), (1, .int v1), (2, .int v2), (3, .int v3), (4, .int v4)] → W p l e (headSpec wsX7_cut (rmN 3)).room s m [.ref (B 1 0), .int a1, .int a2, .int a3].toArray below meth c H locs 0 0 (MQ below (QI G B E S rr) [.ref (B 1 0), .int a1, .int a2, .int a3].toArray s 0 0 (AA G)) (F0 m 108 ls []) := by
    intro _ v1 v2 v3 v4 hf H locs ls hW hS hl
    unfold f_X7_cut_b108 at hf
    refine lv_iload hx hb dX7_cut_108 (lv_at hl 4 rfl) ?_
    refine lv_iload_n hx hb dX7_cut_110 rfl (lv_at hl 1 rfl) ?_
    refine lv_icmp_ge (tgt := 116) hx hb dX7_cut_111 (by decide) (fun h => ?_) (fun h => ?_)
    · have hf := if_t h hf
      refine lv_iconst (v := 0) hx hb dX7_cut_116 rfl ?_
      refine lv_istore (lv' := [(5, .int (0 : Int32)), (0, .ref (B 1 0)), (1, .int v1), (2, .int v2), (3, .int v3), (4, .int v4)]) hx hb dX7_cut_117 hl (by decide) rfl (fun ls hl => ?_)
      refine lv_iconst (v := -1) hx hb dX7_cut_119 rfl ?_
      refine lv_istore (lv' := [(6, .int (-1 : Int32)), (5, .int (0 : Int32)), (0, .ref (B 1 0)), (1, .int v1), (2, .int v2), (3, .int v3), (4, .int v4)]) hx hb dX7_cut_120 hl (by decide) rfl (fun ls hl => ?_)
      refine lv_iconst (v := 1) hx hb dX7_cut_122 rfl ?_
      refine lv_iload hx hb dX7_cut_123 (lv_at hl 6 rfl) ?_
      refine lv_iconst (v := 1) hx hb dX7_cut_125 rfl ?_
      refine lv_isub hx hb dX7_cut_126 ?_
      refine lv_ishl hx hb dX7_cut_127 ?_
      obtain ⟨x7, e_x7, hf⟩ := lt_out hf
      refine x_nmI e_x7 ?_
      refine lv_istore (lv' := [(7, .int x7), (6, .int (-1 : Int32)), (5, .int (0 : Int32)), (0, .ref (B 1 0)), (1, .int v1), (2, .int v2), (3, .int v3), (4, .int v4)]) hx hb dX7_cut_128 hl (by decide) rfl (fun ls hl => ?_)
      exact w130 E.1 () v1 v2 v3 v4 (0 : Int32) (-1 : Int32) x7  hf _ _ _ hW hS (lv_sub hl [3, 4, 5, 6, 7, 2, 1, 0] rfl)
    · have hf := if_f h hf
      refine lv_iconst (v := -1) hx hb dX7_cut_114 rfl ?_
      exact zr_i hf hx hb hr rfl hF hW hS dX7_cut_115 hlocks
  have w70 : ∀ (n70 : Nat) (_ : Unit) (v1 : Int32) (v2 : Int32) (v3 : Int32) (v4 : Int32) (v5 : Int32) , f_X7_cut_b70 E n70 S v1 v2 v3 v4 v5 = some rr → ∀ (H : Heap) (locs : List Loc) (ls : Array Slot), WH G B E S H → va_S (AA G) s.heap H locs → lv_has ls 12 [(0, .ref (B 1 0)), (1, .int v1), (2, .int v2), (3, .int v3), (4, .int v4), (5, .int v5)] → W p l e (headSpec wsX7_cut (rmN 3)).room s m [.ref (B 1 0), .int a1, .int a2, .int a3].toArray below meth c H locs 0 0 (MQ below (QI G B E S rr) [.ref (B 1 0), .int a1, .int a2, .int a3].toArray s 0 0 (AA G)) (F0 m 70 ls []) := by
    intro n70
    induction n70 with
    | zero =>
      intro _ v1 v2 v3 v4 v5 hf
      exact absurd (show (none : Option Int32) = some rr from hf) (fun h => by cases h)
    | succ n70 ih70 =>
      intro _ v1 v2 v3 v4 v5 hf H locs ls hW hS hl
      have hf : g_X7_cut_b70 E (f_X7_cut_b70 E n70) S v1 v2 v3 v4 v5 = some rr := hf
      unfold g_X7_cut_b70 at hf
      refine lv_iload hx hb dX7_cut_70 (lv_at hl 5 rfl) ?_
      refine lv_iload hx hb dX7_cut_72 (lv_at hl 4 rfl) ?_
      refine lv_icmp_ge (tgt := 108) hx hb dX7_cut_74 (by decide) (fun h => ?_) (fun h => ?_)
      · have hf := if_t h hf
        exact w108 () v1 v2 v3 v4  hf _ _ _ hW hS (lv_sub hl [0, 1, 2, 3, 4] rfl)
      · have hf := if_f h hf
        refine lv_aload_n hx hb dX7_cut_77 rfl (lv_at hl 0 rfl) ?_
        refine lv_aload_n hx hb dX7_cut_78 rfl (lv_at hl 0 rfl) ?_
        refine x_get hx hb hts hi7 hown hK hW (c1 hE) (e1 _ _ _ _ _ _) rfl 45 (Nat.le_of_ble_eq_true rfl) q0 (fun _ h => h) (v := .ref (B 85 0)) rfl dX7_cut_79 ?_
        refine lv_bipush (v := 40) hx hb dX7_cut_82 (by decide) ?_
        refine lv_iload_n hx hb dX7_cut_84 rfl (lv_at hl 2 rfl) ?_
        refine lv_imul hx hb dX7_cut_85 ?_
        refine lv_iload hx hb dX7_cut_86 (lv_at hl 5 rfl) ?_
        refine lv_iadd hx hb dX7_cut_88 ?_
        obtain ⟨hi_8, hf⟩ := ck_out hf
        have hi_8 := ib_in hi_8
        refine x_iald hx hb hK hW (c85 hE) (e85 _ _ _ _ _ _) hi_8 (jn := (((40 : Int32) * v2) + v5).toNatClampNeg) rfl dX7_cut_89 ?_
        refine lv_iconst (v := 0) hx hb dX7_cut_90 rfl ?_
        refine lv_bipush (v := 99) hx hb dX7_cut_91 (by decide) ?_
        obtain ⟨r9, hc, hf⟩ := bd_out hf
        refine y_i (va_runV (As := [.int (gI S 85 0 (((40 : Int32) * v2) + v5).toNatClampNeg), .int (0 : Int32), .int (99 : Int32)]) (rest := []) hfix (m_X7_in l G B E hE S (gI S 85 0 (((40 : Int32) * v2) + v5).toNatClampNeg) (0 : Int32) (99 : Int32) r9 hc) (cwV 3 hts gX7_cut_X7_in rfl rfl rfl ⟨rfl, hd_X7_in⟩ ⟨Nat.le_of_ble_eq_true rfl, Nat.le_of_ble_eq_true rfl⟩) (y_pv hF hW hS (c1 hE) (e1 _ _ _ _ _ _) rfl) rfl rfl hl.1 rfl (lv_room (Nat.le_of_ble_eq_true rfl)) dX7_cut_93 ⟨Nat.le_of_ble_eq_true rfl, Nat.le_of_ble_eq_true rfl⟩) hS (fun H locs hW hS => ?_)
        refine lv_if_ne (tgt := 102) hx hb dX7_cut_96 (by decide) (fun h => ?_) (fun h => ?_)
        · have hf := if_f h hf
          obtain ⟨x10, e_x10, hf⟩ := lt_out hf
          refine lv_iinc (v := x10) (lv' := [(5, .int x10), (0, .ref (B 1 0)), (1, .int v1), (2, .int v2), (3, .int v3), (4, .int v4)]) hx hb dX7_cut_102 hl (k := 5) rfl (by rw [e_x10]; rfl) (by decide) rfl (fun ls hl => ?_)
          refine lv_goto (tgt := 70) hx hb dX7_cut_105 (by decide) ?_
          exact ih70 () v1 v2 v3 v4 x10  hf _ _ _ hW hS (lv_sub hl [1, 2, 3, 4, 5, 0] rfl)
        · have hf := if_t h hf
          refine lv_bipush (v := -2) hx hb dX7_cut_99 (by decide) ?_
          exact zr_i hf hx hb hr rfl hF hW hS dX7_cut_101 hlocks
  unfold f_X7_cut at hf
  refine lv_aload_n hx hb dX7_cut_0 rfl (lv_at hl 0 rfl) ?_
  refine lv_iload_n hx hb dX7_cut_1 rfl (lv_at hl 1 rfl) ?_
  refine lv_iconst (v := 1) hx hb dX7_cut_2 rfl ?_
  refine lv_bipush (v := 10) hx hb dX7_cut_3 (by decide) ?_
  obtain ⟨r11, hc, hf⟩ := bd_out hf
  refine y_i (va_runV (As := [.int a1, .int (1 : Int32), .int (10 : Int32)]) (rest := []) hfix (m_X7_in l G B E hE S a1 (1 : Int32) (10 : Int32) r11 hc) (cwV 3 hts gX7_cut_X7_in rfl rfl rfl ⟨rfl, hd_X7_in⟩ ⟨Nat.le_of_ble_eq_true rfl, Nat.le_of_ble_eq_true rfl⟩) (y_pv hF hW hS (c1 hE) (e1 _ _ _ _ _ _) rfl) rfl rfl hl.1 rfl (lv_room (Nat.le_of_ble_eq_true rfl)) dX7_cut_5 ⟨Nat.le_of_ble_eq_true rfl, Nat.le_of_ble_eq_true rfl⟩) hS (fun H locs hW hS => ?_)
  refine lv_if_eq (tgt := 29) hx hb dX7_cut_8 (by decide) (fun h => ?_) (fun h => ?_)
  · have hf := if_t h hf
    refine lv_bipush (v := -2) hx hb dX7_cut_29 (by decide) ?_
    exact zr_i hf hx hb hr rfl hF hW hS dX7_cut_31 hlocks
  · have hf := if_f h hf
    refine lv_aload_n hx hb dX7_cut_11 rfl (lv_at hl 0 rfl) ?_
    refine lv_iload_n hx hb dX7_cut_12 rfl (lv_at hl 2 rfl) ?_
    obtain ⟨r12, hc, hf⟩ := bd_out hf
    refine y_i (va_runV (As := [.int a2]) (rest := []) hfix (m_X7_isSheet l G B E hE S a2 r12 hc) (cwV 1 hts gX7_cut_X7_isSheet rfl rfl rfl ⟨rfl, hd_X7_isSheet⟩ ⟨Nat.le_of_ble_eq_true rfl, Nat.le_of_ble_eq_true rfl⟩) (y_pv hF hW hS (c1 hE) (e1 _ _ _ _ _ _) rfl) rfl rfl hl.1 rfl (lv_room (Nat.le_of_ble_eq_true rfl)) dX7_cut_13 ⟨Nat.le_of_ble_eq_true rfl, Nat.le_of_ble_eq_true rfl⟩) hS (fun H locs hW hS => ?_)
    refine lv_if_eq (tgt := 29) hx hb dX7_cut_16 (by decide) (fun h => ?_) (fun h => ?_)
    · have hf := if_t h hf
      refine lv_bipush (v := -2) hx hb dX7_cut_29 (by decide) ?_
      exact zr_i hf hx hb hr rfl hF hW hS dX7_cut_31 hlocks
    · have hf := if_f h hf
      refine lv_aload_n hx hb dX7_cut_19 rfl (lv_at hl 0 rfl) ?_
      refine lv_iload_n hx hb dX7_cut_20 rfl (lv_at hl 3 rfl) ?_
      refine lv_iconst (v := 0) hx hb dX7_cut_21 rfl ?_
      refine lv_iconst (v := 1) hx hb dX7_cut_22 rfl ?_
      obtain ⟨r13, hc, hf⟩ := bd_out hf
      refine y_i (va_runV (As := [.int a3, .int (0 : Int32), .int (1 : Int32)]) (rest := []) hfix (m_X7_in l G B E hE S a3 (0 : Int32) (1 : Int32) r13 hc) (cwV 3 hts gX7_cut_X7_in rfl rfl rfl ⟨rfl, hd_X7_in⟩ ⟨Nat.le_of_ble_eq_true rfl, Nat.le_of_ble_eq_true rfl⟩) (y_pv hF hW hS (c1 hE) (e1 _ _ _ _ _ _) rfl) rfl rfl hl.1 rfl (lv_room (Nat.le_of_ble_eq_true rfl)) dX7_cut_23 ⟨Nat.le_of_ble_eq_true rfl, Nat.le_of_ble_eq_true rfl⟩) hS (fun H locs hW hS => ?_)
      refine lv_if_ne (tgt := 32) hx hb dX7_cut_26 (by decide) (fun h => ?_) (fun h => ?_)
      · have hf := if_f h hf
        refine lv_aload_n hx hb dX7_cut_32 rfl (lv_at hl 0 rfl) ?_
        refine x_get hx hb hts hi7 hown hK hW (c1 hE) (e1 _ _ _ _ _ _) rfl 43 (Nat.le_of_ble_eq_true rfl) q1 (fun _ h => h) (v := .ref (B 83 0)) rfl dX7_cut_33 ?_
        refine lv_iload_n hx hb dX7_cut_36 rfl (lv_at hl 2 rfl) ?_
        obtain ⟨hi_14, hf⟩ := ck_out hf
        have hi_14 := ib_in hi_14
        refine x_iald hx hb hK hW (c83 hE) (e83 _ _ _ _ _ _) hi_14 (jn := a2.toNatClampNeg) rfl dX7_cut_37 ?_
        refine lv_if_ge (tgt := 44) hx hb dX7_cut_38 (by decide) (fun h => ?_) (fun h => ?_)
        · have hf := if_t h hf
          refine lv_aload_n hx hb dX7_cut_44 rfl (lv_at hl 0 rfl) ?_
          refine x_get hx hb hts hi7 hown hK hW (c1 hE) (e1 _ _ _ _ _ _) rfl 44 (Nat.le_of_ble_eq_true rfl) q2 (fun _ h => h) (v := .ref (B 84 0)) rfl dX7_cut_45 ?_
          refine lv_iload_n hx hb dX7_cut_48 rfl (lv_at hl 2 rfl) ?_
          refine x_iald hx hb hK hW (c84 hE) (e84 _ _ _ _ _ _) hi_14 (jn := a2.toNatClampNeg) rfl dX7_cut_49 ?_
          obtain ⟨x15, e_x15, hf⟩ := lt_out hf
          refine x_nmI e_x15 ?_
          refine lv_istore (lv' := [(4, .int x15), (0, .ref (B 1 0)), (1, .int a1), (2, .int a2), (3, .int a3)]) hx hb dX7_cut_50 hl (by decide) rfl (fun ls hl => ?_)
          refine lv_aload_n hx hb dX7_cut_52 rfl (lv_at hl 1 rfl) ?_
          refine lv_iload hx hb dX7_cut_53 (lv_at hl 0 rfl) ?_
          refine lv_iconst (v := 1) hx hb dX7_cut_55 rfl ?_
          refine lv_bipush (v := 10) hx hb dX7_cut_56 (by decide) ?_
          obtain ⟨r16, hc, hf⟩ := bd_out hf
          refine y_i (va_runV (As := [.int x15, .int (1 : Int32), .int (10 : Int32)]) (rest := []) hfix (m_X7_in l G B E hE S x15 (1 : Int32) (10 : Int32) r16 hc) (cwV 3 hts gX7_cut_X7_in rfl rfl rfl ⟨rfl, hd_X7_in⟩ ⟨Nat.le_of_ble_eq_true rfl, Nat.le_of_ble_eq_true rfl⟩) (y_pv hF hW hS (c1 hE) (e1 _ _ _ _ _ _) rfl) rfl rfl hl.1 rfl (lv_room (Nat.le_of_ble_eq_true rfl)) dX7_cut_58 ⟨Nat.le_of_ble_eq_true rfl, Nat.le_of_ble_eq_true rfl⟩) hS (fun H locs hW hS => ?_)
          refine lv_if_ne (tgt := 67) hx hb dX7_cut_61 (by decide) (fun h => ?_) (fun h => ?_)
          · have hf := if_f h hf
            refine lv_iconst (v := 0) hx hb dX7_cut_67 rfl ?_
            refine lv_istore (lv' := [(5, .int (0 : Int32)), (4, .int x15), (0, .ref (B 1 0)), (1, .int a1), (2, .int a2), (3, .int a3)]) hx hb dX7_cut_68 hl (by decide) rfl (fun ls hl => ?_)
            exact w70 E.1 () a1 a2 a3 x15 (0 : Int32)  hf _ _ _ hW hS (lv_sub hl [2, 3, 4, 5, 1, 0] rfl)
          · have hf := if_t h hf
            refine lv_bipush (v := -2) hx hb dX7_cut_64 (by decide) ?_
            exact zr_i hf hx hb hr rfl hF hW hS dX7_cut_66 hlocks
        · have hf := if_f h hf
          refine lv_bipush (v := -11) hx hb dX7_cut_41 (by decide) ?_
          exact zr_i hf hx hb hr rfl hF hW hS dX7_cut_43 hlocks
      · have hf := if_t h hf
        refine lv_bipush (v := -2) hx hb dX7_cut_29 (by decide) ?_
        exact zr_i hf hx hb hr rfl hF hW hS dX7_cut_31 hlocks
