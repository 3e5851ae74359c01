set_option maxHeartbeats 4000000 in
set_option maxRecDepth 100000 in
theorem m_X3_read (l : Launch) (G : GE) (B : Nat → Nat → Nat) (E : EN)  (S : ST) (a1 : Int32) (rr : Int32) (SS : ST) (hf : f_X3_read E S a1 = some (rr, SS)) : Met l yX3_read wsX3_read (rmN 50) (va_Pc [.ref (B 8 0), .int a1] (WS G B E S)) (QI G B E SS rr) 0 0 (AA G) := by
  refine Met.ofW (cc := cX3_read) (maxL := 3) (ret := (some .int)) (by decide) rfl ?_
  intro p e s m args below meth c s₁ B0 hml hv
  obtain ⟨rfl, hW, hF⟩ := hv
  have hx := B0.exec
  have hb := B0.bytes
  have hr := B0.returns
  have hts := atoms_spec (ws := wsX3_read) B0.pre
  have hown : s.vm.findClass RX3 = some m.cls := findClass_of_methodNamed B0.named
  have hlocks := B0.notSynchronized
  have hK := hF.1
  have hfix : CallFix p m c cX3_read 3 s [.ref (B 8 0), .int a1].toArray wsX3_read RX3 := ⟨hx, hb, hml, hown, hts⟩
  have hS : va_S (AA G) s.heap s.heap [] := va_S.rf
  have hl := lv_entry [.ref (B 8 0), .int a1] (n := 3) (Nat.le_of_ble_eq_true rfl)
  rw [lg_entry_eq]
  generalize (lg_sl [.ref (B 8 0), .int a1] ++ List.replicate (3 - (lg_sl [.ref (B 8 0), .int a1]).length) Slot.unset).toArray = ls at hl ⊢
  have hl : lv_has ls 3 [(0, .ref (B 8 0)), (1, .int a1)] := hl
  have q0 := hts (.fieldLink RX3 37 "MovesUp$Reader" "starts" "[I") (List.mem_of_getElem? (i := 11) rfl)
  have q1 := hts (.fieldLink RX3 34 "MovesUp$Reader" "length" "I") (List.mem_of_getElem? (i := 10) rfl)
  have q2 := hts (.fieldLink RX3 24 "MovesUp$Reader" "fault" "I") (List.mem_of_getElem? (i := 8) rfl)
  have q3 := hts (.fieldLink RX3 40 "MovesUp$Reader" "bytes" "[B") (List.mem_of_getElem? (i := 1) rfl)
  have q4 := hts (.methodLink RX3 44 Lib.Math.min.name) (List.mem_of_getElem? (i := 2) rfl)
  have q5 := hts (.static Lib.Math.min.name) (List.mem_of_getElem? (i := 3) rfl)
  have q6 := hts (.initialized "java/lang/Math") (List.mem_of_getElem? (i := 4) rfl)
  have q7 := hts (.code Lib.Math.min.name Lib.Math.min.code 2 (some .int)) (List.mem_of_getElem? (i := 5) rfl)
  have q8 := hts (.fieldLink RX3 11 "MovesUp$Reader" "size" "I") (List.mem_of_getElem? (i := 6) rfl)
  have q9 := hts (.fieldLink RX3 15 "MovesUp$Reader" "at" "I") (List.mem_of_getElem? (i := 7) rfl)
  have q10 := hts (.fieldLink RX3 27 "MovesUp$Reader" "open" "I") (List.mem_of_getElem? (i := 9) rfl)
  have hi3 : ∀ w ∈ u_ws RX3 TX3 10, w ∈ wsX3_read := in_seg 130 rfl
  have w79 : ∀ (S : ST)  , f_X3_read_b79 E S  = some (rr, SS) → ∀ (H : Heap) (locs : List Loc) (ls : Array Slot), WH G B E S H → va_S (AA G) s.heap H locs → lv_has ls 3 [(0, .ref (B 8 0))] → W p l e (headSpec wsX3_read (rmN 50)).room s m [.ref (B 8 0), .int a1].toArray below meth c H locs 0 0 (MQ below (QI G B E SS rr) [.ref (B 8 0), .int a1].toArray s 0 0 (AA G)) (F0 m 79 ls []) := by
    intro S  hf H locs ls hW hS hl
    unfold f_X3_read_b79 at hf
    refine lv_aload_n hx hb dX3_read_79 rfl (lv_at hl 0 rfl) ?_
    refine x_get hx hb hts hi3 hown hK hW (c8 E) (e8 _ _ _ _ _ _) rfl 9 (Nat.le_of_ble_eq_true rfl) q0 (fun _ h => h) (v := .ref (B 14 0)) rfl dX3_read_80 ?_
    refine lv_iconst (v := 3) hx hb dX3_read_83 rfl ?_
    refine lv_aload_n hx hb dX3_read_84 rfl (lv_at hl 0 rfl) ?_
    refine x_get hx hb hts hi3 hown hK hW (c8 E) (e8 _ _ _ _ _ _) rfl 8 (Nat.le_of_ble_eq_true rfl) q1 (fun _ h => h) (v := .int (gI S 8 0 8)) rfl dX3_read_85 ?_
    obtain ⟨S1, e_S1, hf⟩ := lt_out hf
    refine x_iast hx hb hK hW hS (c14 E) (fun f r => e14 _ _ _ f _ r) (ib_in (by decide)) (jn := 3) rfl e_S1 dX3_read_88 (fun H locs hW hS => ?_)
    refine lv_aload_n hx hb dX3_read_89 rfl (lv_at hl 0 rfl) ?_
    refine lv_iconst (v := 0) hx hb dX3_read_90 rfl ?_
    obtain ⟨S2, hc, hf⟩ := bd_out hf
    refine y_v (va_runV (As := [.int (0 : Int32)]) (rest := []) hfix (m_X3_take l G B E S1 (0 : Int32) S2 hc) (cwV 1 hts gX3_read_X3_take rfl rfl rfl ⟨rfl, hd_X3_take⟩ ⟨Nat.le_of_ble_eq_true rfl, Nat.le_of_ble_eq_true rfl⟩) (y_pv hF hW hS (c8 E) (e8 _ _ _ _ _ _) rfl) rfl rfl hl.1 rfl (lv_room (Nat.le_of_ble_eq_true rfl)) dX3_read_91 ⟨Nat.le_of_ble_eq_true rfl, Nat.le_of_ble_eq_true rfl⟩) hS (fun H locs hW hS => ?_)
    refine lv_aload_n hx hb dX3_read_94 rfl (lv_at hl 0 rfl) ?_
    refine x_get hx hb hts hi3 hown hK hW (c8 E) (e8 _ _ _ _ _ _) rfl 5 (Nat.le_of_ble_eq_true rfl) q2 (fun _ h => h) (v := .int (gI S2 8 0 5)) rfl dX3_read_95 ?_
    exact z_i hf hx hb hr rfl hF hW hS dX3_read_98 hlocks
  have w39 : ∀ (n39 : Nat) (S : ST) (v2 : Int32) , f_X3_read_b39 E n39 S v2 = some (rr, SS) → ∀ (H : Heap) (locs : List Loc) (ls : Array Slot), WH G B E S H → va_S (AA G) s.heap H locs → lv_has ls 3 [(0, .ref (B 8 0)), (2, .int v2)] → W p l e (headSpec wsX3_read (rmN 50)).room s m [.ref (B 8 0), .int a1].toArray below meth c H locs 0 0 (MQ below (QI G B E SS rr) [.ref (B 8 0), .int a1].toArray s 0 0 (AA G)) (F0 m 39 ls []) := by
    intro n39
    induction n39 with
    | zero =>
      intro S v2 hf
      exact absurd (show (none : Option (Int32 × ST)) = some (rr, SS) from hf) (fun h => by cases h)
    | succ n39 ih39 =>
      intro S v2 hf H locs ls hW hS hl
      have hf : g_X3_read_b39 E (f_X3_read_b39 E n39) S v2 = some (rr, SS) := hf
      unfold g_X3_read_b39 at hf
      refine lv_iload_n hx hb dX3_read_39 rfl (lv_at hl 1 rfl) ?_
      refine lv_iconst (v := 3) hx hb dX3_read_40 rfl ?_
      refine lv_icmp_ge (tgt := 79) hx hb dX3_read_41 (by decide) (fun h => ?_) (fun h => ?_)
      · have hf := if_t h hf
        exact w79 S  hf _ _ _ hW hS (lv_sub hl [0] rfl)
      · have hf := if_f h hf
        refine lv_aload_n hx hb dX3_read_44 rfl (lv_at hl 0 rfl) ?_
        refine lv_sipush (v := 256) hx hb dX3_read_45 (by decide) ?_
        refine lv_iload_n hx hb dX3_read_48 rfl (lv_at hl 1 rfl) ?_
        refine lv_iadd hx hb dX3_read_49 ?_
        obtain ⟨S3, hc, hf⟩ := bd_out hf
        refine y_v (va_runV (As := [.int ((256 : Int32) + v2)]) (rest := []) hfix (m_X3_take l G B E S ((256 : Int32) + v2) S3 hc) (cwV 1 hts gX3_read_X3_take rfl rfl rfl ⟨rfl, hd_X3_take⟩ ⟨Nat.le_of_ble_eq_true rfl, Nat.le_of_ble_eq_true rfl⟩) (y_pv hF hW hS (c8 E) (e8 _ _ _ _ _ _) rfl) rfl rfl hl.1 rfl (lv_room (Nat.le_of_ble_eq_true rfl)) dX3_read_50 ⟨Nat.le_of_ble_eq_true rfl, Nat.le_of_ble_eq_true rfl⟩) hS (fun H locs hW hS => ?_)
        refine lv_aload_n hx hb dX3_read_53 rfl (lv_at hl 0 rfl) ?_
        refine x_get hx hb hts hi3 hown hK hW (c8 E) (e8 _ _ _ _ _ _) rfl 9 (Nat.le_of_ble_eq_true rfl) q0 (fun _ h => h) (v := .ref (B 14 0)) rfl dX3_read_54 ?_
        refine lv_iload_n hx hb dX3_read_57 rfl (lv_at hl 1 rfl) ?_
        refine lv_aload_n hx hb dX3_read_58 rfl (lv_at hl 0 rfl) ?_
        refine x_get hx hb hts hi3 hown hK hW (c8 E) (e8 _ _ _ _ _ _) rfl 8 (Nat.le_of_ble_eq_true rfl) q1 (fun _ h => h) (v := .int (gI S3 8 0 8)) rfl dX3_read_59 ?_
        obtain ⟨hi_4, hf⟩ := ck_out hf
        have hi_4 := ib_in hi_4
        obtain ⟨S5, e_S5, hf⟩ := lt_out hf
        refine x_iast hx hb hK hW hS (c14 E) (fun f r => e14 _ _ _ f _ r) hi_4 (jn := v2.toNatClampNeg) rfl e_S5 dX3_read_62 (fun H locs hW hS => ?_)
        refine lv_aload_n hx hb dX3_read_63 rfl (lv_at hl 0 rfl) ?_
        obtain ⟨S6, hc, hf⟩ := bd_out hf
        refine y_v (va_runV (As := []) (rest := []) hfix (m_X3_readOr l G B E 40 S5  S6 hc) (cwV 0 hts gX3_read_X3_readOr rfl rfl rfl ⟨rfl, hd_X3_readOr⟩ ⟨Nat.le_of_ble_eq_true rfl, Nat.le_of_ble_eq_true rfl⟩) (y_pv hF hW hS (c8 E) (e8 _ _ _ _ _ _) rfl) rfl rfl hl.1 rfl (lv_room (Nat.le_of_ble_eq_true rfl)) dX3_read_64 ⟨Nat.le_of_ble_eq_true rfl, Nat.le_of_ble_eq_true rfl⟩) hS (fun H locs hW hS => ?_)
        refine lv_aload_n hx hb dX3_read_67 rfl (lv_at hl 0 rfl) ?_
        refine lv_bipush (v := 59) hx hb dX3_read_68 (by decide) ?_
        obtain ⟨S7, hc, hf⟩ := bd_out hf
        refine y_v (va_runV (As := [.int (59 : Int32)]) (rest := []) hfix (m_X3_take l G B E S6 (59 : Int32) S7 hc) (cwV 1 hts gX3_read_X3_take rfl rfl rfl ⟨rfl, hd_X3_take⟩ ⟨Nat.le_of_ble_eq_true rfl, Nat.le_of_ble_eq_true rfl⟩) (y_pv hF hW hS (c8 E) (e8 _ _ _ _ _ _) rfl) rfl rfl hl.1 rfl (lv_room (Nat.le_of_ble_eq_true rfl)) dX3_read_70 ⟨Nat.le_of_ble_eq_true rfl, Nat.le_of_ble_eq_true rfl⟩) hS (fun H locs hW hS => ?_)
        obtain ⟨x8, e_x8, hf⟩ := lt_out hf
        refine lv_iinc (v := x8) (lv' := [(2, .int x8), (0, .ref (B 8 0))]) hx hb dX3_read_73 hl (k := 1) rfl (by rw [e_x8]; rfl) (by decide) rfl (fun ls hl => ?_)
        refine lv_goto (tgt := 39) hx hb dX3_read_76 (by decide) ?_
        exact ih39 S7 x8  hf _ _ _ hW hS (lv_sub hl [1, 0] rfl)
  unfold f_X3_read at hf
  refine lv_aload_n hx hb dX3_read_0 rfl (lv_at hl 0 rfl) ?_
  refine lv_iload_n hx hb dX3_read_1 rfl (lv_at hl 1 rfl) ?_
  refine lv_aload_n hx hb dX3_read_2 rfl (lv_at hl 0 rfl) ?_
  refine x_get hx hb hts hi3 hown hK hW (c8 E) (e8 _ _ _ _ _ _) rfl 0 (Nat.le_of_ble_eq_true rfl) q3 (fun _ h => h) (v := .ref (B 5 0)) rfl dX3_read_3 ?_
  refine x_alen hx hb hK hW (c5 E) (t := 2) rfl (e5 _ _ _ _ _ _) (v := (160 : Int32)) rfl dX3_read_6 ?_
  refine va_mmin hx hb (hml.trans hl.1.symm) hown q4 q5 q6 q7 (Nat.le_of_ble_eq_true rfl) (Nat.le_of_ble_eq_true rfl) (Nat.le_of_ble_eq_true rfl) (Nat.le_of_ble_eq_true rfl) dX3_read_7 ?_
  obtain ⟨S9, e_S9, hf⟩ := lt_out hf
  refine x_putI hx hb hts hi3 tyX3 tyX3_ok nmX3 hown hK hW hS (c8 E) (e8 _ _ _) rfl 1 (Nat.le_of_ble_eq_true rfl) q8 (fun _ h => h) rfl (tyX3_ok 1 (Nat.le_of_ble_eq_true rfl)) rfl rfl (Nat.le_of_ble_eq_true rfl) (pu8_1 _ _) e_S9 dX3_read_10 (fun H locs hW hS => ?_)
  refine lv_aload_n hx hb dX3_read_13 rfl (lv_at hl 0 rfl) ?_
  refine lv_iconst (v := 0) hx hb dX3_read_14 rfl ?_
  obtain ⟨S10, e_S10, hf⟩ := lt_out hf
  refine x_putI hx hb hts hi3 tyX3 tyX3_ok nmX3 hown hK hW hS (c8 E) (e8 _ _ _) rfl 2 (Nat.le_of_ble_eq_true rfl) q9 (fun _ h => h) rfl (tyX3_ok 2 (Nat.le_of_ble_eq_true rfl)) rfl rfl (Nat.le_of_ble_eq_true rfl) (pu8_2 _ _) e_S10 dX3_read_15 (fun H locs hW hS => ?_)
  refine lv_aload_n hx hb dX3_read_18 rfl (lv_at hl 0 rfl) ?_
  refine lv_iconst (v := -1) hx hb dX3_read_19 rfl ?_
  obtain ⟨S11, e_S11, hf⟩ := lt_out hf
  refine x_putI hx hb hts hi3 tyX3 tyX3_ok nmX3 hown hK hW hS (c8 E) (e8 _ _ _) rfl 5 (Nat.le_of_ble_eq_true rfl) q2 (fun _ h => h) rfl (tyX3_ok 5 (Nat.le_of_ble_eq_true rfl)) rfl rfl (Nat.le_of_ble_eq_true rfl) (pu8_5 _ _) e_S11 dX3_read_20 (fun H locs hW hS => ?_)
  refine lv_aload_n hx hb dX3_read_23 rfl (lv_at hl 0 rfl) ?_
  refine lv_iconst (v := 0) hx hb dX3_read_24 rfl ?_
  obtain ⟨S12, e_S12, hf⟩ := lt_out hf
  refine x_putI hx hb hts hi3 tyX3 tyX3_ok nmX3 hown hK hW hS (c8 E) (e8 _ _ _) rfl 6 (Nat.le_of_ble_eq_true rfl) q10 (fun _ h => h) rfl (tyX3_ok 6 (Nat.le_of_ble_eq_true rfl)) rfl rfl (Nat.le_of_ble_eq_true rfl) (pu8_6 _ _) e_S12 dX3_read_25 (fun H locs hW hS => ?_)
  refine lv_aload_n hx hb dX3_read_28 rfl (lv_at hl 0 rfl) ?_
  refine lv_iconst (v := 0) hx hb dX3_read_29 rfl ?_
  obtain ⟨S13, e_S13, hf⟩ := lt_out hf
  refine x_putI hx hb hts hi3 tyX3 tyX3_ok nmX3 hown hK hW hS (c8 E) (e8 _ _ _) rfl 8 (Nat.le_of_ble_eq_true rfl) q1 (fun _ h => h) rfl (tyX3_ok 8 (Nat.le_of_ble_eq_true rfl)) rfl rfl (Nat.le_of_ble_eq_true rfl) (pu8_8 _ _) e_S13 dX3_read_30 (fun H locs hW hS => ?_)
  refine lv_aload_n hx hb dX3_read_33 rfl (lv_at hl 0 rfl) ?_
  obtain ⟨S14, hc, hf⟩ := bd_out hf
  refine y_v (va_runV (As := []) (rest := []) hfix (m_X3_advance l G B E S13  S14 hc) (cwV 0 hts gX3_read_X3_advance rfl rfl rfl ⟨rfl, hd_X3_advance⟩ ⟨Nat.le_of_ble_eq_true rfl, Nat.le_of_ble_eq_true rfl⟩) (y_pv hF hW hS (c8 E) (e8 _ _ _ _ _ _) rfl) rfl rfl hl.1 rfl (lv_room (Nat.le_of_ble_eq_true rfl)) dX3_read_34 ⟨Nat.le_of_ble_eq_true rfl, Nat.le_of_ble_eq_true rfl⟩) hS (fun H locs hW hS => ?_)
  refine lv_iconst (v := 0) hx hb dX3_read_37 rfl ?_
  refine lv_istore_n (lv' := [(2, .int (0 : Int32)), (0, .ref (B 8 0)), (1, .int a1)]) hx hb dX3_read_38 rfl hl (by decide) rfl (fun ls hl => ?_)
  exact w39 E.1 S14 (0 : Int32)  hf _ _ _ hW hS (lv_sub hl [1, 0] rfl)
set_option maxHeartbeats 4000000 in
set_option maxRecDepth 100000 in
theorem m_J7_fill_53178 (l : Launch) (G : GE) (B : Nat → Nat → Nat) (E : EN)  (S : ST) (a1 : Nat) (h_a1 : a1 < cnt E 25) (a2 : Int32) (SS : ST) (hf : f_J7_fill_53178 E S a1 a2 = some SS) : Met l yJ7_fill_53178 wsJ7_fill_53178 (rmN 1) (va_Pc [.ref (B 25 a1), .int a2] (WS G B E S)) (QV G B E SS) 0 0 (AA G) := by
  refine Met.ofW (cc := cJ7_fill_53178) (maxL := 4) (ret := none) (by decide) rfl ?_
  intro p e s m args below meth c s₁ B0 hml hv
  obtain ⟨rfl, hW, hF⟩ := hv
  have hx := B0.exec
  have hb := B0.bytes
  have hr := B0.returns
  have hts := atoms_spec (ws := wsJ7_fill_53178) B0.pre
  have hown : s.vm.findClass RJ7 = some m.cls := findClass_of_methodNamed B0.named
  have hlocks := B0.notSynchronized
  have hK := hF.1
  have hfix : CallFix p m c cJ7_fill_53178 4 s [.ref (B 25 a1), .int a2].toArray wsJ7_fill_53178 RJ7 := ⟨hx, hb, hml, hown, hts⟩
  have hS : va_S (AA G) s.heap s.heap [] := va_S.rf
  have hl := lv_entry [.ref (B 25 a1), .int a2] (n := 4) (Nat.le_of_ble_eq_true rfl)
  rw [lg_entry_eq]
  generalize (lg_sl [.ref (B 25 a1), .int a2] ++ List.replicate (4 - (lg_sl [.ref (B 25 a1), .int a2]).length) Slot.unset).toArray = ls at hl ⊢
  have hl : lv_has ls 4 [(0, .ref (B 25 a1)), (1, .int a2)] := hl
  have w5 : ∀ (n5 : Nat) (S : ST) (v0 : Nat) (v1 : Int32) (v2 : Int32) (v3 : Int32) (h_v0 : v0 < cnt E 25), f_J7_fill_53178_b5 E n5 S v0 v1 v2 v3 = some SS → ∀ (H : Heap) (locs : List Loc) (ls : Array Slot), WH G B E S H → va_S (AA G) s.heap H locs → lv_has ls 4 [(0, .ref (B 25 v0)), (1, .int v1), (2, .int v2), (3, .int v3)] → W p l e (headSpec wsJ7_fill_53178 (rmN 1)).room s m [.ref (B 25 a1), .int a2].toArray below meth c H locs 0 0 (MQ below (QV G B E SS) [.ref (B 25 a1), .int a2].toArray s 0 0 (AA G)) (F0 m 5 ls []) := by
    intro n5
    induction n5 with
    | zero =>
      intro S v0 v1 v2 v3 h_v0 hf
      exact absurd (show (none : Option ST) = some SS from hf) (fun h => by cases h)
    | succ n5 ih5 =>
      intro S v0 v1 v2 v3 h_v0 hf H locs ls hW hS hl
      have hf : g_J7_fill_53178_b5 E (f_J7_fill_53178_b5 E n5) S v0 v1 v2 v3 = some SS := hf
      unfold g_J7_fill_53178_b5 at hf
      refine lv_iload_n hx hb dJ7_fill_53178_5 rfl (lv_at hl 2 rfl) ?_
      refine lv_iload_n hx hb dJ7_fill_53178_6 rfl (lv_at hl 3 rfl) ?_
      refine lv_icmp_ge (tgt := 20) hx hb dJ7_fill_53178_7 (by decide) (fun h => ?_) (fun h => ?_)
      · have hf := if_t h hf
        exact z_v hf hx hb hr hF hW hS dJ7_fill_53178_20 hlocks
      · have hf := if_f h hf
        refine lv_aload_n hx hb dJ7_fill_53178_10 rfl (lv_at hl 0 rfl) ?_
        refine lv_iload_n hx hb dJ7_fill_53178_11 rfl (lv_at hl 2 rfl) ?_
        refine lv_iload_n hx hb dJ7_fill_53178_12 rfl (lv_at hl 1 rfl) ?_
        obtain ⟨hi_1, hf⟩ := ck_out hf
        have hi_1 := ib_in hi_1
        obtain ⟨S2, e_S2, hf⟩ := lt_out hf
        refine x_iast hx hb hK hW hS (h_v0) (fun f r => e25 _ _ _ f _ r) hi_1 (jn := v2.toNatClampNeg) rfl e_S2 dJ7_fill_53178_13 (fun H locs hW hS => ?_)
        obtain ⟨x3, e_x3, hf⟩ := lt_out hf
        refine lv_iinc (v := x3) (lv' := [(2, .int x3), (0, .ref (B 25 v0)), (1, .int v1), (3, .int v3)]) hx hb dJ7_fill_53178_14 hl (k := 2) rfl (by rw [e_x3]; rfl) (by decide) rfl (fun ls hl => ?_)
        refine lv_goto (tgt := 5) hx hb dJ7_fill_53178_17 (by decide) ?_
        exact ih5 S2 v0 v1 x3 v3 (h_v0) hf _ _ _ hW hS (lv_sub hl [1, 2, 0, 3] rfl)
  unfold f_J7_fill_53178 at hf
  refine lv_iconst (v := 0) hx hb dJ7_fill_53178_0 rfl ?_
  refine lv_istore_n (lv' := [(2, .int (0 : Int32)), (0, .ref (B 25 a1)), (1, .int a2)]) hx hb dJ7_fill_53178_1 rfl hl (by decide) rfl (fun ls hl => ?_)
  refine lv_aload_n hx hb dJ7_fill_53178_2 rfl (lv_at hl 1 rfl) ?_
  refine x_alen hx hb hK hW (h_a1) (t := 0) rfl (e25 _ _ _ _ _ _) (v := (40 : Int32)) rfl dJ7_fill_53178_3 ?_
  refine lv_istore_n (lv' := [(3, .int (40 : Int32)), (2, .int (0 : Int32)), (0, .ref (B 25 a1)), (1, .int a2)]) hx hb dJ7_fill_53178_4 rfl hl (by decide) rfl (fun ls hl => ?_)
  exact w5 E.1 S a1 a2 (0 : Int32) (40 : Int32) (h_a1) hf _ _ _ hW hS (lv_sub hl [2, 3, 1, 0] rfl)
set_option maxHeartbeats 4000000 in
set_option maxRecDepth 100000 in
theorem m_X4_becomes (l : Launch) (G : GE) (B : Nat → Nat → Nat) (E : EN) (i0 : Nat) (h0 : i0 < cnt E 24) (S : ST) (a1 : Int32) (a2 : Int32) (SS : ST) (hf : f_X4_becomes E i0 S a1 a2 = some SS) : Met l yX4_becomes wsX4_becomes (rmN 2) (va_Pc [.ref (B 24 i0), .int a1, .int a2] (WS G B E S)) (QV G B E SS) 0 0 (AA G) := by
  refine Met.ofW (cc := cX4_becomes) (maxL := 3) (ret := none) (by decide) rfl ?_
  intro p e s m args below meth c s₁ B0 hml hv
  obtain ⟨rfl, hW, hF⟩ := hv
  have hx := B0.exec
  have hb := B0.bytes
  have hr := B0.returns
  have hts := atoms_spec (ws := wsX4_becomes) B0.pre
  have hown : s.vm.findClass RX4 = some m.cls := findClass_of_methodNamed B0.named
  have hlocks := B0.notSynchronized
  have hK := hF.1
  have hfix : CallFix p m c cX4_becomes 3 s [.ref (B 24 i0), .int a1, .int a2].toArray wsX4_becomes RX4 := ⟨hx, hb, hml, hown, hts⟩
  have hS : va_S (AA G) s.heap s.heap [] := va_S.rf
  have hl := lv_entry [.ref (B 24 i0), .int a1, .int a2] (n := 3) (Nat.le_of_ble_eq_true rfl)
  rw [lg_entry_eq]
  generalize (lg_sl [.ref (B 24 i0), .int a1, .int a2] ++ List.replicate (3 - (lg_sl [.ref (B 24 i0), .int a1, .int a2]).length) Slot.unset).toArray = ls at hl ⊢
  have hl : lv_has ls 3 [(0, .ref (B 24 i0)), (1, .int a1), (2, .int a2)] := hl
  have q0 := hts (.fieldLink RX4 9 "MovesUp$Row" "sort" "I") (List.mem_of_getElem? (i := 1) rfl)
  have q1 := hts (.fieldLink RX4 15 "MovesUp$Row" "size" "I") (List.mem_of_getElem? (i := 2) rfl)
  have q2 := hts (.fieldLink RX4 18 "MovesUp$Row" "items" "[I") (List.mem_of_getElem? (i := 3) rfl)
  have hi4 : ∀ w ∈ u_ws RX4 TX4 3, w ∈ wsX4_becomes := in_seg 8 rfl
  unfold f_X4_becomes at hf
  refine lv_aload_n hx hb dX4_becomes_0 rfl (lv_at hl 0 rfl) ?_
  refine lv_iload_n hx hb dX4_becomes_1 rfl (lv_at hl 1 rfl) ?_
  obtain ⟨S1, e_S1, hf⟩ := lt_out hf
  refine x_putI hx hb hts hi4 tyX4 tyX4_ok nmX4 hown hK hW hS (h0) (e24 _ _ _) rfl 0 (Nat.le_of_ble_eq_true rfl) q0 (fun _ h => h) rfl (tyX4_ok 0 (Nat.le_of_ble_eq_true rfl)) rfl rfl (Nat.le_of_ble_eq_true rfl) (pu24_0 _ _) e_S1 dX4_becomes_2 (fun H locs hW hS => ?_)
  refine lv_aload_n hx hb dX4_becomes_5 rfl (lv_at hl 0 rfl) ?_
  refine lv_iload_n hx hb dX4_becomes_6 rfl (lv_at hl 2 rfl) ?_
  obtain ⟨S2, e_S2, hf⟩ := lt_out hf
  refine x_putI hx hb hts hi4 tyX4 tyX4_ok nmX4 hown hK hW hS (h0) (e24 _ _ _) rfl 1 (Nat.le_of_ble_eq_true rfl) q1 (fun _ h => h) rfl (tyX4_ok 1 (Nat.le_of_ble_eq_true rfl)) rfl rfl (Nat.le_of_ble_eq_true rfl) (pu24_1 _ _) e_S2 dX4_becomes_7 (fun H locs hW hS => ?_)
  refine lv_aload_n hx hb dX4_becomes_10 rfl (lv_at hl 0 rfl) ?_
  refine x_get hx hb hts hi4 hown hK hW (h0) (e24 _ _ _ _ _ _) rfl 2 (Nat.le_of_ble_eq_true rfl) q2 (fun _ h => h) (v := .ref (B 25 i0)) rfl dX4_becomes_11 ?_
  refine lv_iconst (v := 0) hx hb dX4_becomes_14 rfl ?_
  obtain ⟨S3, hc, hf⟩ := bd_out hf
  refine y_v (va_runS (As := [.ref (B 25 i0), .int (0 : Int32)]) (rest := []) hfix (m_J7_fill_53178 l G B E S2 i0 (cv24_25 (h0)) (0 : Int32) S3 hc) (va_cwS 2 hts gX4_becomes_J7_fill_53178 rfl rfl rfl hd_J7_fill_53178 ⟨Nat.le_of_ble_eq_true rfl, Nat.le_of_ble_eq_true rfl⟩) (y_ps hF hW hS) rfl rfl hl.1 rfl (lv_room (Nat.le_of_ble_eq_true rfl)) dX4_becomes_15 ⟨Nat.le_of_ble_eq_true rfl, Nat.le_of_ble_eq_true rfl⟩) hS (fun H locs hW hS => ?_)
  exact z_v hf hx hb hr hF hW hS dX4_becomes_18 hlocks
set_option maxHeartbeats 4000000 in
set_option maxRecDepth 100000 in
theorem m_X4_cutDown (l : Launch) (G : GE) (B : Nat → Nat → Nat) (E : EN) (i0 : Nat) (h0 : i0 < cnt E 24) (S : ST) (a1 : Int32) (rr : Int32) (hf : f_X4_cutDown E i0 S a1 = some rr) : Met l yX4_cutDown wsX4_cutDown (rmN 1) (va_Pc [.ref (B 24 i0), .int a1] (WS G B E S)) (QI G B E S rr) 0 0 (AA G) := by
  refine Met.ofW (cc := cX4_cutDown) (maxL := 2) (ret := (some .int)) (by decide) rfl ?_
  intro p e s m args below meth c s₁ B0 hml hv
  obtain ⟨rfl, hW, hF⟩ := hv
  have hx := B0.exec
  have hb := B0.bytes
  have hr := B0.returns
  have hts := atoms_spec (ws := wsX4_cutDown) B0.pre
  have hown : s.vm.findClass RX4 = some m.cls := findClass_of_methodNamed B0.named
  have hlocks := B0.notSynchronized
  have hK := hF.1
  have hfix : CallFix p m c cX4_cutDown 2 s [.ref (B 24 i0), .int a1].toArray wsX4_cutDown RX4 := ⟨hx, hb, hml, hown, hts⟩
  have hS : va_S (AA G) s.heap s.heap [] := va_S.rf
  have hl := lv_entry [.ref (B 24 i0), .int a1] (n := 2) (Nat.le_of_ble_eq_true rfl)
  rw [lg_entry_eq]
  generalize (lg_sl [.ref (B 24 i0), .int a1] ++ List.replicate (2 - (lg_sl [.ref (B 24 i0), .int a1]).length) Slot.unset).toArray = ls at hl ⊢
  have hl : lv_has ls 2 [(0, .ref (B 24 i0)), (1, .int a1)] := hl
  have q0 := hts (.fieldLink RX4 9 "MovesUp$Row" "sort" "I") (List.mem_of_getElem? (i := 1) rfl)
  have hi4 : ∀ w ∈ u_ws RX4 TX4 3, w ∈ wsX4_cutDown := in_seg 2 rfl
  unfold f_X4_cutDown at hf
  refine lv_aload_n hx hb dX4_cutDown_0 rfl (lv_at hl 0 rfl) ?_
  refine x_get hx hb hts hi4 hown hK hW (h0) (e24 _ _ _ _ _ _) rfl 0 (Nat.le_of_ble_eq_true rfl) q0 (fun _ h => h) (v := .int (gI S 24 i0 0)) rfl dX4_cutDown_1 ?_
  refine lv_if_ne (tgt := 10) hx hb dX4_cutDown_4 (by decide) (fun h => ?_) (fun h => ?_)
  · have hf := if_f h hf
    refine lv_aload_n hx hb dX4_cutDown_10 rfl (lv_at hl 0 rfl) ?_
    refine x_get hx hb hts hi4 hown hK hW (h0) (e24 _ _ _ _ _ _) rfl 0 (Nat.le_of_ble_eq_true rfl) q0 (fun _ h => h) (v := .int (gI S 24 i0 0)) rfl dX4_cutDown_11 ?_
    refine lv_iconst (v := 1) hx hb dX4_cutDown_14 rfl ?_
    refine lv_icmp_ne (tgt := 23) hx hb dX4_cutDown_15 (by decide) (fun h => ?_) (fun h => ?_)
    · have hf := if_f h hf
      refine lv_iload_n hx hb dX4_cutDown_23 rfl (lv_at hl 1 rfl) ?_
      exact zr_i hf hx hb hr rfl hF hW hS dX4_cutDown_24 hlocks
    · have hf := if_t h hf
      refine lv_iload_n hx hb dX4_cutDown_18 rfl (lv_at hl 1 rfl) ?_
      refine lv_i2s hx hb dX4_cutDown_19 rfl ?_
      refine lv_goto (tgt := 24) hx hb dX4_cutDown_20 (by decide) ?_
      exact zr_i hf hx hb hr rfl hF hW hS dX4_cutDown_24 hlocks
  · have hf := if_t h hf
    refine lv_iload_n hx hb dX4_cutDown_7 rfl (lv_at hl 1 rfl) ?_
    refine lv_i2b hx hb dX4_cutDown_8 rfl ?_
    exact zr_i hf hx hb hr rfl hF hW hS dX4_cutDown_9 hlocks
set_option maxHeartbeats 4000000 in
set_option maxRecDepth 100000 in
theorem m_X4_within (l : Launch) (G : GE) (B : Nat → Nat → Nat) (E : EN) (i0 : Nat) (h0 : i0 < cnt E 24) (S : ST) (a1 : Int32) (rr : Int32) (hf : f_X4_within E i0 S a1 = some rr) : Met l yX4_within wsX4_within (rmN 1) (va_Pc [.ref (B 24 i0), .int a1] (WS G B E S)) (QI G B E S rr) 0 0 (AA G) := by
  refine Met.ofW (cc := cX4_within) (maxL := 3) (ret := (some .boolean)) (by decide) rfl ?_
  intro p e s m args below meth c s₁ B0 hml hv
  obtain ⟨rfl, hW, hF⟩ := hv
  have hx := B0.exec
  have hb := B0.bytes
  have hr := B0.returns
  have hts := atoms_spec (ws := wsX4_within) B0.pre
  have hown : s.vm.findClass RX4 = some m.cls := findClass_of_methodNamed B0.named
  have hlocks := B0.notSynchronized
  have hK := hF.1
  have hfix : CallFix p m c cX4_within 3 s [.ref (B 24 i0), .int a1].toArray wsX4_within RX4 := ⟨hx, hb, hml, hown, hts⟩
  have hS : va_S (AA G) s.heap s.heap [] := va_S.rf
  have hl := lv_entry [.ref (B 24 i0), .int a1] (n := 3) (Nat.le_of_ble_eq_true rfl)
  rw [lg_entry_eq]
  generalize (lg_sl [.ref (B 24 i0), .int a1] ++ List.replicate (3 - (lg_sl [.ref (B 24 i0), .int a1]).length) Slot.unset).toArray = ls at hl ⊢
  have hl : lv_has ls 3 [(0, .ref (B 24 i0)), (1, .int a1)] := hl
  have q0 := hts (.fieldLink RX4 15 "MovesUp$Row" "size" "I") (List.mem_of_getElem? (i := 1) rfl)
  have q1 := hts (.fieldLink RX4 18 "MovesUp$Row" "items" "[I") (List.mem_of_getElem? (i := 2) rfl)
  have hi4 : ∀ w ∈ u_ws RX4 TX4 3, w ∈ wsX4_within := in_seg 3 rfl
  have w2 : ∀ (n2 : Nat) (_ : Unit) (v1 : Int32) (v2 : Int32) , f_X4_within_b2 E i0 n2 S v1 v2 = some rr → ∀ (H : Heap) (locs : List Loc) (ls : Array Slot), WH G B E S H → va_S (AA G) s.heap H locs → lv_has ls 3 [(0, .ref (B 24 i0)), (1, .int v1), (2, .int v2)] → W p l e (headSpec wsX4_within (rmN 1)).room s m [.ref (B 24 i0), .int a1].toArray below meth c H locs 0 0 (MQ below (QI G B E S rr) [.ref (B 24 i0), .int a1].toArray s 0 0 (AA G)) (F0 m 2 ls []) := by
    intro n2
    induction n2 with
    | zero =>
      intro _ v1 v2 hf
      exact absurd (show (none : Option Int32) = some rr from hf) (fun h => by cases h)
    | succ n2 ih2 =>
      intro _ v1 v2 hf H locs ls hW hS hl
      have hf : g_X4_within_b2 E i0 (f_X4_within_b2 E i0 n2) S v1 v2 = some rr := hf
      unfold g_X4_within_b2 at hf
      refine lv_iload_n hx hb dX4_within_2 rfl (lv_at hl 2 rfl) ?_
      refine lv_aload_n hx hb dX4_within_3 rfl (lv_at hl 0 rfl) ?_
      refine x_get hx hb hts hi4 hown hK hW (h0) (e24 _ _ _ _ _ _) rfl 1 (Nat.le_of_ble_eq_true rfl) q0 (fun _ h => h) (v := .int (gI S 24 i0 1)) rfl dX4_within_4 ?_
      refine lv_icmp_ge (tgt := 37) hx hb dX4_within_7 (by decide) (fun h => ?_) (fun h => ?_)
      · have hf := if_t h hf
        refine lv_iconst (v := 1) hx hb dX4_within_37 rfl ?_
        exact zr_i hf hx hb hr rfl hF hW hS dX4_within_38 hlocks
      · have hf := if_f h hf
        refine lv_aload_n hx hb dX4_within_10 rfl (lv_at hl 0 rfl) ?_
        refine x_get hx hb hts hi4 hown hK hW (h0) (e24 _ _ _ _ _ _) rfl 2 (Nat.le_of_ble_eq_true rfl) q1 (fun _ h => h) (v := .ref (B 25 i0)) rfl dX4_within_11 ?_
        refine lv_iload_n hx hb dX4_within_14 rfl (lv_at hl 2 rfl) ?_
        obtain ⟨hi_1, hf⟩ := ck_out hf
        have hi_1 := ib_in hi_1
        refine x_iald hx hb hK hW (cv24_25 (h0)) (e25 _ _ _ _ _ _) hi_1 (jn := v2.toNatClampNeg) rfl dX4_within_15 ?_
        refine lv_if_lt (tgt := 29) hx hb dX4_within_16 (by decide) (fun h => ?_) (fun h => ?_)
        · have hf := if_t h hf
          refine lv_iconst (v := 0) hx hb dX4_within_29 rfl ?_
          exact zr_i hf hx hb hr rfl hF hW hS dX4_within_30 hlocks
        · have hf := if_f h hf
          refine lv_aload_n hx hb dX4_within_19 rfl (lv_at hl 0 rfl) ?_
          refine x_get hx hb hts hi4 hown hK hW (h0) (e24 _ _ _ _ _ _) rfl 2 (Nat.le_of_ble_eq_true rfl) q1 (fun _ h => h) (v := .ref (B 25 i0)) rfl dX4_within_20 ?_
          refine lv_iload_n hx hb dX4_within_23 rfl (lv_at hl 2 rfl) ?_
          refine x_iald hx hb hK hW (cv24_25 (h0)) (e25 _ _ _ _ _ _) hi_1 (jn := v2.toNatClampNeg) rfl dX4_within_24 ?_
          refine lv_iload_n hx hb dX4_within_25 rfl (lv_at hl 1 rfl) ?_
          refine lv_icmp_le (tgt := 31) hx hb dX4_within_26 (by decide) (fun h => ?_) (fun h => ?_)
          · have hf := if_t h hf
            obtain ⟨x2, e_x2, hf⟩ := lt_out hf
            refine lv_iinc (v := x2) (lv' := [(2, .int x2), (0, .ref (B 24 i0)), (1, .int v1)]) hx hb dX4_within_31 hl (k := 2) rfl (by rw [e_x2]; rfl) (by decide) rfl (fun ls hl => ?_)
            refine lv_goto (tgt := 2) hx hb dX4_within_34 (by decide) ?_
            exact ih2 () v1 x2  hf _ _ _ hW hS (lv_sub hl [1, 2, 0] rfl)
          · have hf := if_f h hf
            refine lv_iconst (v := 0) hx hb dX4_within_29 rfl ?_
            exact zr_i hf hx hb hr rfl hF hW hS dX4_within_30 hlocks
  unfold f_X4_within at hf
  refine lv_iconst (v := 0) hx hb dX4_within_0 rfl ?_
  refine lv_istore_n (lv' := [(2, .int (0 : Int32)), (0, .ref (B 24 i0)), (1, .int a1)]) hx hb dX4_within_1 rfl hl (by decide) rfl (fun ls hl => ?_)
  exact w2 E.1 () a1 (0 : Int32)  hf _ _ _ hW hS (lv_sub hl [1, 2, 0] rfl)
set_option maxHeartbeats 4000000 in
set_option maxRecDepth 100000 in
theorem m_X4_squares (l : Launch) (G : GE) (B : Nat → Nat → Nat) (E : EN) (i0 : Nat) (h0 : i0 < cnt E 24) (S : ST) (a1 : Int32) (rr : Int32) (hf : f_X4_squares E i0 S a1 = some rr) : Met l yX4_squares wsX4_squares (rmN 1) (va_Pc [.ref (B 24 i0), .int a1] (WS G B E S)) (QI G B E S rr) 0 0 (AA G) := by
  refine Met.ofW (cc := cX4_squares) (maxL := 5) (ret := (some .int)) (by decide) rfl ?_
  intro p e s m args below meth c s₁ B0 hml hv
  obtain ⟨rfl, hW, hF⟩ := hv
  have hx := B0.exec
  have hb := B0.bytes
  have hr := B0.returns
  have hts := atoms_spec (ws := wsX4_squares) B0.pre
  have hown : s.vm.findClass RX4 = some m.cls := findClass_of_methodNamed B0.named
  have hlocks := B0.notSynchronized
  have hK := hF.1
  have hfix : CallFix p m c cX4_squares 5 s [.ref (B 24 i0), .int a1].toArray wsX4_squares RX4 := ⟨hx, hb, hml, hown, hts⟩
  have hS : va_S (AA G) s.heap s.heap [] := va_S.rf
  have hl := lv_entry [.ref (B 24 i0), .int a1] (n := 5) (Nat.le_of_ble_eq_true rfl)
  rw [lg_entry_eq]
  generalize (lg_sl [.ref (B 24 i0), .int a1] ++ List.replicate (5 - (lg_sl [.ref (B 24 i0), .int a1]).length) Slot.unset).toArray = ls at hl ⊢
  have hl : lv_has ls 5 [(0, .ref (B 24 i0)), (1, .int a1)] := hl
  have q0 := hts (.fieldLink RX4 15 "MovesUp$Row" "size" "I") (List.mem_of_getElem? (i := 1) rfl)
  have q1 := hts (.fieldLink RX4 18 "MovesUp$Row" "items" "[I") (List.mem_of_getElem? (i := 2) rfl)
  have hi4 : ∀ w ∈ u_ws RX4 TX4 3, w ∈ wsX4_squares := in_seg 3 rfl
  have w7 : ∀ (n7 : Nat) (_ : Unit) (v1 : Int32) (v2 : Int32) (v3 : Int32) (v4 : Int32) , f_X4_squares_b7 E i0 n7 S v1 v2 v3 v4 = some rr → ∀ (H : Heap) (locs : List Loc) (ls : Array Slot), WH G B E S H → va_S (AA G) s.heap H locs → lv_has ls 5 [(0, .ref (B 24 i0)), (1, .int v1), (2, .int v2), (3, .int v3), (4, .int v4)] → W p l e (headSpec wsX4_squares (rmN 1)).room s m [.ref (B 24 i0), .int a1].toArray below meth c H locs 0 0 (MQ below (QI G B E S rr) [.ref (B 24 i0), .int a1].toArray s 0 0 (AA G)) (F0 m 7 ls []) := by
    intro n7
    induction n7 with
    | zero =>
      intro _ v1 v2 v3 v4 hf
      exact absurd (show (none : Option Int32) = some rr from hf) (fun h => by cases h)
    | succ n7 ih7 =>
      have w44 : ∀ (_ : Unit) (v1 : Int32) (v2 : Int32) (v3 : Int32) (v4 : Int32) , f_X4_squares_b44 E i0 (f_X4_squares_b7 E i0 n7) S v1 v2 v3 v4 = some rr → ∀ (H : Heap) (locs : List Loc) (ls : Array Slot), WH G B E S H → va_S (AA G) s.heap H locs → lv_has ls 5 [(0, .ref (B 24 i0)), (1, .int v1), (2, .int v2), (3, .int v3), (4, .int v4)] → W p l e (headSpec wsX4_squares (rmN 1)).room s m [.ref (B 24 i0), .int a1].toArray below meth c H locs 0 0 (MQ below (QI G B E S rr) [.ref (B 24 i0), .int a1].toArray s 0 0 (AA G)) (F0 m 44 ls []) := by
        intro _ v1 v2 v3 v4 hf H locs ls hW hS hl
        unfold f_X4_squares_b44 at hf
        obtain ⟨x1, e_x1, hf⟩ := lt_out hf
        refine lv_iinc (v := x1) (lv' := [(4, .int x1), (0, .ref (B 24 i0)), (1, .int v1), (2, .int v2), (3, .int v3)]) hx hb dX4_squares_44 hl (k := 4) rfl (by rw [e_x1]; rfl) (by decide) rfl (fun ls hl => ?_)
        refine lv_goto (tgt := 7) hx hb dX4_squares_47 (by decide) ?_
        exact ih7 () v1 v2 v3 x1  hf _ _ _ hW hS (lv_sub hl [1, 2, 3, 4, 0] rfl)
      intro _ v1 v2 v3 v4 hf H locs ls hW hS hl
      have hf : g_X4_squares_b7 E i0 (f_X4_squares_b7 E i0 n7) S v1 v2 v3 v4 = some rr := hf
      unfold g_X4_squares_b7 at hf
      refine lv_iload hx hb dX4_squares_7 (lv_at hl 4 rfl) ?_
      refine lv_aload_n hx hb dX4_squares_9 rfl (lv_at hl 0 rfl) ?_
      refine x_get hx hb hts hi4 hown hK hW (h0) (e24 _ _ _ _ _ _) rfl 1 (Nat.le_of_ble_eq_true rfl) q0 (fun _ h => h) (v := .int (gI S 24 i0 1)) rfl dX4_squares_10 ?_
      refine lv_icmp_ge (tgt := 50) hx hb dX4_squares_13 (by decide) (fun h => ?_) (fun h => ?_)
      · have hf := if_t h hf
        refine lv_iload_n hx hb dX4_squares_50 rfl (lv_at hl 2 rfl) ?_
        exact zr_i hf hx hb hr rfl hF hW hS dX4_squares_51 hlocks
      · have hf := if_f h hf
        refine lv_iload_n hx hb dX4_squares_16 rfl (lv_at hl 3 rfl) ?_
        refine lv_aload_n hx hb dX4_squares_17 rfl (lv_at hl 0 rfl) ?_
        refine x_get hx hb hts hi4 hown hK hW (h0) (e24 _ _ _ _ _ _) rfl 2 (Nat.le_of_ble_eq_true rfl) q1 (fun _ h => h) (v := .ref (B 25 i0)) rfl dX4_squares_18 ?_
        refine lv_iload hx hb dX4_squares_21 (lv_at hl 4 rfl) ?_
        obtain ⟨hi_2, hf⟩ := ck_out hf
        have hi_2 := ib_in hi_2
        refine x_iald hx hb hK hW (cv24_25 (h0)) (e25 _ _ _ _ _ _) hi_2 (jn := v4.toNatClampNeg) rfl dX4_squares_23 ?_
        refine lv_iadd hx hb dX4_squares_24 ?_
        obtain ⟨x3, e_x3, hf⟩ := lt_out hf
        refine x_nmI e_x3 ?_
        refine lv_istore_n (lv' := [(3, .int x3), (0, .ref (B 24 i0)), (1, .int v1), (2, .int v2), (4, .int v4)]) hx hb dX4_squares_25 rfl hl (by decide) rfl (fun ls hl => ?_)
        refine lv_iload_n hx hb dX4_squares_26 rfl (lv_at hl 2 rfl) ?_
        refine lv_iload hx hb dX4_squares_27 (lv_at hl 4 rfl) ?_
        refine lv_ishr hx hb dX4_squares_29 ?_
        refine lv_iconst (v := 1) hx hb dX4_squares_30 rfl ?_
        refine lv_iand hx hb dX4_squares_31 ?_
        refine lv_iconst (v := 1) hx hb dX4_squares_32 rfl ?_
        refine lv_icmp_ne (tgt := 44) hx hb dX4_squares_33 (by decide) (fun h => ?_) (fun h => ?_)
        · have hf := if_f h hf
          exact w44 () v1 v2 x3 v4  hf _ _ _ hW hS (lv_sub hl [1, 2, 3, 0, 4] rfl)
        · have hf := if_t h hf
          refine lv_iload_n hx hb dX4_squares_36 rfl (lv_at hl 3 rfl) ?_
          refine lv_iload_n hx hb dX4_squares_37 rfl (lv_at hl 0 rfl) ?_
          refine lv_iload_n hx hb dX4_squares_38 rfl (lv_at hl 0 rfl) ?_
          refine lv_imul hx hb dX4_squares_39 ?_
          refine lv_iadd hx hb dX4_squares_40 ?_
          obtain ⟨x4, e_x4, hf⟩ := lt_out hf
          refine x_nmI e_x4 ?_
          refine lv_istore_n (lv' := [(2, .int x4), (3, .int x3), (0, .ref (B 24 i0)), (1, .int v1), (4, .int v4)]) hx hb dX4_squares_41 rfl hl (by decide) rfl (fun ls hl => ?_)
          refine lv_iconst (v := 0) hx hb dX4_squares_42 rfl ?_
          refine lv_istore_n (lv' := [(3, .int (0 : Int32)), (2, .int x4), (0, .ref (B 24 i0)), (1, .int v1), (4, .int v4)]) hx hb dX4_squares_43 rfl hl (by decide) rfl (fun ls hl => ?_)
          exact w44 () v1 x4 (0 : Int32) v4  hf _ _ _ hW hS (lv_sub hl [2, 3, 1, 0, 4] rfl)
  unfold f_X4_squares at hf
  refine lv_iconst (v := 0) hx hb dX4_squares_0 rfl ?_
  refine lv_istore_n (lv' := [(2, .int (0 : Int32)), (0, .ref (B 24 i0)), (1, .int a1)]) hx hb dX4_squares_1 rfl hl (by decide) rfl (fun ls hl => ?_)
  refine lv_iconst (v := 0) hx hb dX4_squares_2 rfl ?_
  refine lv_istore_n (lv' := [(3, .int (0 : Int32)), (2, .int (0 : Int32)), (0, .ref (B 24 i0)), (1, .int a1)]) hx hb dX4_squares_3 rfl hl (by decide) rfl (fun ls hl => ?_)
  refine lv_iconst (v := 0) hx hb dX4_squares_4 rfl ?_
  refine lv_istore (lv' := [(4, .int (0 : Int32)), (3, .int (0 : Int32)), (2, .int (0 : Int32)), (0, .ref (B 24 i0)), (1, .int a1)]) hx hb dX4_squares_5 hl (by decide) rfl (fun ls hl => ?_)
  exact w7 E.1 () a1 (0 : Int32) (0 : Int32) (0 : Int32)  hf _ _ _ hW hS (lv_sub hl [3, 4, 2, 1, 0] rfl)
set_option maxHeartbeats 4000000 in
set_option maxRecDepth 100000 in
theorem m_X6_known (l : Launch) (G : GE) (B : Nat → Nat → Nat) (E : EN)  (S : ST) (a1 : Int32) (rr : (Option Nat)) (hf : f_X6_known E S a1 = some rr) : Met l yX6_known wsX6_known (rmN 1) (va_Pc [.ref (B 2 0), .int a1] (WS G B E S)) (QQ G B E S (Option.map (B 20) rr)) 0 0 (AA G) := by
  refine Met.ofW (cc := cX6_known) (maxL := 2) (ret := (some (.object "MovesUp$Pupil"))) (by decide) rfl ?_
  intro p e s m args below meth c s₁ B0 hml hv
  obtain ⟨rfl, hW, hF⟩ := hv
  have hx := B0.exec
  have hb := B0.bytes
  have hr := B0.returns
  have hts := atoms_spec (ws := wsX6_known) B0.pre
  have hown : s.vm.findClass RX6 = some m.cls := findClass_of_methodNamed B0.named
  have hlocks := B0.notSynchronized
  have hK := hF.1
  have hfix : CallFix p m c cX6_known 2 s [.ref (B 2 0), .int a1].toArray wsX6_known RX6 := ⟨hx, hb, hml, hown, hts⟩
  have hS : va_S (AA G) s.heap s.heap [] := va_S.rf
  have hl := lv_entry [.ref (B 2 0), .int a1] (n := 2) (Nat.le_of_ble_eq_true rfl)
  rw [lg_entry_eq]
  generalize (lg_sl [.ref (B 2 0), .int a1] ++ List.replicate (2 - (lg_sl [.ref (B 2 0), .int a1]).length) Slot.unset).toArray = ls at hl ⊢
  have hl : lv_has ls 2 [(0, .ref (B 2 0)), (1, .int a1)] := hl
  have q0 := hts (.fieldLink RX6 15 "MovesUp" "rollSize" "I") (List.mem_of_getElem? (i := 1) rfl)
  have q1 := hts (.fieldLink RX6 11 "MovesUp" "roll" "[LMovesUp$Pupil;") (List.mem_of_getElem? (i := 2) rfl)
  have hi6 : ∀ w ∈ u_ws RX6 TX6 15, w ∈ wsX6_known := in_seg 3 rfl
  unfold f_X6_known at hf
  refine lv_iload_n hx hb dX6_known_0 rfl (lv_at hl 1 rfl) ?_
  refine lv_if_lt (tgt := 21) hx hb dX6_known_1 (by decide) (fun h => ?_) (fun h => ?_)
  · have hf := if_t h hf
    refine lv_null hx hb dX6_known_21 ?_
    exact zr_q (o := none) hf hx hb hr (Or.inl ⟨_, rfl⟩) hF hW hS dX6_known_22 hlocks
  · have hf := if_f h hf
    refine lv_iload_n hx hb dX6_known_4 rfl (lv_at hl 1 rfl) ?_
    refine lv_aload_n hx hb dX6_known_5 rfl (lv_at hl 0 rfl) ?_
    refine x_get hx hb hts hi6 hown hK hW (c2 E) (e2 _ _ _ _ _ _) rfl 1 (Nat.le_of_ble_eq_true rfl) q0 (fun _ h => h) (v := .int (gI S 2 0 1)) rfl dX6_known_6 ?_
    refine lv_icmp_ge (tgt := 21) hx hb dX6_known_9 (by decide) (fun h => ?_) (fun h => ?_)
    · have hf := if_t h hf
      refine lv_null hx hb dX6_known_21 ?_
      exact zr_q (o := none) hf hx hb hr (Or.inl ⟨_, rfl⟩) hF hW hS dX6_known_22 hlocks
    · have hf := if_f h hf
      refine lv_aload_n hx hb dX6_known_12 rfl (lv_at hl 0 rfl) ?_
      refine x_get hx hb hts hi6 hown hK hW (c2 E) (e2 _ _ _ _ _ _) rfl 0 (Nat.le_of_ble_eq_true rfl) q1 (fun _ h => h) (v := .ref (B 3 0)) rfl dX6_known_13 ?_
      refine lv_iload_n hx hb dX6_known_16 rfl (lv_at hl 1 rfl) ?_
      obtain ⟨hi_1, hf⟩ := ck_out hf
      have hi_1 := ib_in hi_1
      refine x_aaldN hx hb hK hW (c3 E) (t := 4) rfl rfl (e3 _ _ _ _ _ _) hi_1 (jn := a1.toNatClampNeg) rfl dX6_known_17 ?_
      refine lv_goto (tgt := 22) hx hb dX6_known_18 (by decide) ?_
      exact zr_q (o := (gR S 3 0 a1.toNatClampNeg)) hf hx hb hr (Or.inl ⟨_, rfl⟩) hF hW hS dX6_known_22 hlocks
set_option maxHeartbeats 4000000 in
set_option maxRecDepth 100000 in
theorem m_X6_weigh (l : Launch) (G : GE) (B : Nat → Nat → Nat) (E : EN)  (S : ST) (a1 : Int32) (a2 : Int32) (rr : Int32) (SS : ST) (hf : f_X6_weigh E S a1 a2 = some (rr, SS)) : Met l yX6_weigh wsX6_weigh (rmN 2) (va_Pc [.ref (B 2 0), .int a1, .int a2] (WS G B E S)) (QI G B E SS rr) 0 0 (AA G) := by
  refine Met.ofW (cc := cX6_weigh) (maxL := 7) (ret := (some .int)) (by decide) rfl ?_
  intro p e s m args below meth c s₁ B0 hml hv
  obtain ⟨rfl, hW, hF⟩ := hv
  have hx := B0.exec
  have hb := B0.bytes
  have hr := B0.returns
  have hts := atoms_spec (ws := wsX6_weigh) B0.pre
  have hown : s.vm.findClass RX6 = some m.cls := findClass_of_methodNamed B0.named
  have hlocks := B0.notSynchronized
  have hK := hF.1
  have hfix : CallFix p m c cX6_weigh 7 s [.ref (B 2 0), .int a1, .int a2].toArray wsX6_weigh RX6 := ⟨hx, hb, hml, hown, hts⟩
  have hS : va_S (AA G) s.heap s.heap [] := va_S.rf
  have hl := lv_entry [.ref (B 2 0), .int a1, .int a2] (n := 7) (Nat.le_of_ble_eq_true rfl)
  rw [lg_entry_eq]
  generalize (lg_sl [.ref (B 2 0), .int a1, .int a2] ++ List.replicate (7 - (lg_sl [.ref (B 2 0), .int a1, .int a2]).length) Slot.unset).toArray = ls at hl ⊢
  have hl : lv_has ls 7 [(0, .ref (B 2 0)), (1, .int a1), (2, .int a2)] := hl
  have q0 := hts (.constant RX6 111 (99999)) (List.mem_of_getElem? (i := 1) rfl)
  have q1 := hts (.initialized RX2) (List.mem_of_getElem? (i := 10) rfl)
  have q2 := hts (.instanceMethod yX2_together) (List.mem_of_getElem? (i := 9) rfl)
  have q3 := hts (.selects RX2 yX2_together yX2_together) (List.mem_of_getElem? (i := 11) rfl)
  have hi2 : ∀ w ∈ u_ws RX2 TX2 7, w ∈ wsX6_weigh := in_seg 14 rfl
  have w35 : ∀ (n35 : Nat) (S : ST) (v3 : Nat) (v4 : Int32) (v5 : Int32) (v6 : Int32) (h_v3 : v3 < cnt E 20), f_X6_weigh_b35 E n35 S v3 v4 v5 v6 = some (rr, SS) → ∀ (H : Heap) (locs : List Loc) (ls : Array Slot), WH G B E S H → va_S (AA G) s.heap H locs → lv_has ls 7 [(3, .ref (B 20 v3)), (4, .int v4), (5, .int v5), (6, .int v6)] → W p l e (headSpec wsX6_weigh (rmN 2)).room s m [.ref (B 2 0), .int a1, .int a2].toArray below meth c H locs 0 0 (MQ below (QI G B E SS rr) [.ref (B 2 0), .int a1, .int a2].toArray s 0 0 (AA G)) (F0 m 35 ls []) := by
    intro n35
    induction n35 with
    | zero =>
      intro S v3 v4 v5 v6 h_v3 hf
      exact absurd (show (none : Option (Int32 × ST)) = some (rr, SS) from hf) (fun h => by cases h)
    | succ n35 ih35 =>
      intro S v3 v4 v5 v6 h_v3 hf H locs ls hW hS hl
      have hf : g_X6_weigh_b35 E (f_X6_weigh_b35 E n35) S v3 v4 v5 v6 = some (rr, SS) := hf
      unfold g_X6_weigh_b35 at hf
      refine lv_iload hx hb dX6_weigh_35 (lv_at hl 3 rfl) ?_
      refine lv_iconst (v := 5) hx hb dX6_weigh_37 rfl ?_
      refine lv_icmp_ge (tgt := 66) hx hb dX6_weigh_38 (by decide) (fun h => ?_) (fun h => ?_)
      · have hf := if_t h hf
        refine lv_iload hx hb dX6_weigh_66 (lv_at hl 1 rfl) ?_
        exact z_i hf hx hb hr rfl hF hW hS dX6_weigh_68 hlocks
      · have hf := if_f h hf
        refine lv_aload_n hx hb dX6_weigh_41 rfl (lv_at hl 0 rfl) ?_
        refine x_getN hx hb hts hi2 hown hK hW (h_v3) (e20 _ _ _ _ _ _) rfl 4 (Nat.le_of_ble_eq_true rfl) (NW.f hF.2.1 9 (q := ("MovesUp", 115, "MovesUp$Pupil", "weights", "[I", "MovesUp")) rfl) (fun _ h => h) (v := .ref (B 21 v3)) rfl dX6_weigh_42 ?_
        refine lv_iload hx hb dX6_weigh_45 (lv_at hl 3 rfl) ?_
        refine lv_iload hx hb dX6_weigh_47 (lv_at hl 2 rfl) ?_
        refine lv_bipush (v := 10) hx hb dX6_weigh_49 (by decide) ?_
        refine x_irem hx hb dX6_weigh_51 (by decide) ?_
        obtain ⟨hi_1, hf⟩ := ck_out hf
        have hi_1 := ib_in hi_1
        obtain ⟨S2, e_S2, hf⟩ := lt_out hf
        refine x_iast hx hb hK hW hS (cv20_21 (h_v3)) (fun f r => e21 _ _ _ f _ r) hi_1 (jn := v6.toNatClampNeg) rfl e_S2 dX6_weigh_52 (fun H locs hW hS => ?_)
        refine lv_iload hx hb dX6_weigh_53 (lv_at hl 2 rfl) ?_
        refine lv_bipush (v := 10) hx hb dX6_weigh_55 (by decide) ?_
        refine lv_idiv hx hb dX6_weigh_57 (by decide) ?_
        obtain ⟨x3, e_x3, hf⟩ := lt_out hf
        refine x_nmI e_x3 ?_
        refine lv_istore (lv' := [(5, .int x3), (3, .ref (B 20 v3)), (4, .int v4), (6, .int v6)]) hx hb dX6_weigh_58 hl (by decide) rfl (fun ls hl => ?_)
        obtain ⟨x4, e_x4, hf⟩ := lt_out hf
        refine lv_iinc (v := x4) (lv' := [(6, .int x4), (5, .int x3), (3, .ref (B 20 v3)), (4, .int v4)]) hx hb dX6_weigh_60 hl (k := 3) rfl (by rw [e_x4]; rfl) (by decide) rfl (fun ls hl => ?_)
        refine lv_goto (tgt := 35) hx hb dX6_weigh_63 (by decide) ?_
        exact ih35 S2 v3 v4 x3 x4 (h_v3) hf _ _ _ hW hS (lv_sub hl [2, 3, 1, 0] rfl)
  unfold f_X6_weigh at hf
  refine lv_aload_n hx hb dX6_weigh_0 rfl (lv_at hl 0 rfl) ?_
  refine lv_iload_n hx hb dX6_weigh_1 rfl (lv_at hl 1 rfl) ?_
  obtain ⟨r5, hc, hf⟩ := bd_out hf
  refine y_q (va_runV (As := [.int a1]) (rest := []) hfix (m_X6_known l G B E S a1 r5 hc) (cwV 1 hts gX6_weigh_X6_known rfl rfl rfl ⟨rfl, hd_X6_known⟩ ⟨Nat.le_of_ble_eq_true rfl, Nat.le_of_ble_eq_true rfl⟩) (y_pv hF hW hS (c2 E) (e2 _ _ _ _ _ _) rfl) rfl rfl hl.1 rfl (lv_room (Nat.le_of_ble_eq_true rfl)) dX6_weigh_2 ⟨Nat.le_of_ble_eq_true rfl, Nat.le_of_ble_eq_true rfl⟩) hS (fun H locs hW hS => ?_)
  rcases r5 with _ | k6
  · have hf := nl_n hf
    refine lv_astore_nN (lv' := [(3, .null), (0, .ref (B 2 0)), (1, .int a1), (2, .int a2)]) hx hb dX6_weigh_5 rfl hl (by decide) rfl (fun ls hl => ?_)
    refine lv_aload_nN hx hb dX6_weigh_6 rfl (lv_at hl 0 rfl) ?_
    refine lv_ifnullN (tgt := 20) hx hb dX6_weigh_7 (by decide) ?_
    refine lv_bipush (v := -2) hx hb dX6_weigh_20 (by decide) ?_
    exact z_i hf hx hb hr rfl hF hW hS dX6_weigh_22 hlocks
  · have hf := nl_s hf
    obtain ⟨hk7, hf⟩ := ck_out hf
    have hk7 := of_decide_eq_true hk7
    refine lv_astore_n (lv' := [(3, .ref (B 20 k6)), (0, .ref (B 2 0)), (1, .int a1), (2, .int a2)]) hx hb dX6_weigh_5 rfl hl (by decide) rfl (fun ls hl => ?_)
    refine lv_aload_n hx hb dX6_weigh_6 rfl (lv_at hl 0 rfl) ?_
    refine lv_ifnull hx hb dX6_weigh_7 ?_
    refine lv_iload_n hx hb dX6_weigh_10 rfl (lv_at hl 3 rfl) ?_
    refine lv_if_le (tgt := 20) hx hb dX6_weigh_11 (by decide) (fun h => ?_) (fun h => ?_)
    · have hf := if_t h hf
      refine lv_bipush (v := -2) hx hb dX6_weigh_20 (by decide) ?_
      exact z_i hf hx hb hr rfl hF hW hS dX6_weigh_22 hlocks
    · have hf := if_f h hf
      refine lv_iload_n hx hb dX6_weigh_14 rfl (lv_at hl 3 rfl) ?_
      refine lv_ldc hx hb hown q0 dX6_weigh_15 ?_
      refine lv_icmp_le (tgt := 23) hx hb dX6_weigh_17 (by decide) (fun h => ?_) (fun h => ?_)
      · have hf := if_t h hf
        refine lv_aload_n hx hb dX6_weigh_23 rfl (lv_at hl 0 rfl) ?_
        obtain ⟨r8, hc, hf⟩ := bd_out hf
        refine y_i (va_runVN (As := []) (rest := []) hfix (m_X2_together l G B E k6 (c20 hk7) S  r8 hc) ⟨va_cnB 0 hts gX6_weigh_X2_together_n112 rfl rfl rfl (NW.m hF.2.1 8 (q := ("MovesUp", 112, "MovesUp$Pupil", "together", "()I", "MovesUp")) rfl) q1 hd_X2_together ⟨Nat.le_of_ble_eq_true rfl, Nat.le_of_ble_eq_true rfl⟩, q2, q3⟩ (y_pv hF hW hS (c20 hk7) (e20 _ _ _ _ _ _) rfl) rfl rfl hl.1 rfl (lv_room (Nat.le_of_ble_eq_true rfl)) dX6_weigh_24 ⟨Nat.le_of_ble_eq_true rfl, Nat.le_of_ble_eq_true rfl⟩) hS (fun H locs hW hS => ?_)
        refine lv_istore (lv' := [(4, .int r8), (3, .ref (B 20 k6)), (0, .ref (B 2 0)), (1, .int a1), (2, .int a2)]) hx hb dX6_weigh_27 hl (by decide) rfl (fun ls hl => ?_)
        refine lv_iload_n hx hb dX6_weigh_29 rfl (lv_at hl 4 rfl) ?_
        refine lv_istore (lv' := [(5, .int a2), (4, .int r8), (3, .ref (B 20 k6)), (0, .ref (B 2 0)), (1, .int a1), (2, .int a2)]) hx hb dX6_weigh_30 hl (by decide) rfl (fun ls hl => ?_)
        refine lv_iconst (v := 0) hx hb dX6_weigh_32 rfl ?_
        refine lv_istore (lv' := [(6, .int (0 : Int32)), (5, .int a2), (4, .int r8), (3, .ref (B 20 k6)), (0, .ref (B 2 0)), (1, .int a1), (2, .int a2)]) hx hb dX6_weigh_33 hl (by decide) rfl (fun ls hl => ?_)
        exact w35 E.1 S k6 r8 a2 (0 : Int32) (c20 hk7) hf _ _ _ hW hS (lv_sub hl [3, 2, 1, 0] rfl)
      · have hf := if_f h hf
        refine lv_bipush (v := -2) hx hb dX6_weigh_20 (by decide) ?_
        exact z_i hf hx hb hr rfl hF hW hS dX6_weigh_22 hlocks
set_option maxHeartbeats 4000000 in
set_option maxRecDepth 100000 in
theorem m_X6_told (l : Launch) (G : GE) (B : Nat → Nat → Nat) (E : EN)  (S : ST) (a1 : Int32) (a2 : Int32) (rr : Int32) (hf : f_X6_told E S a1 a2 = some rr) : Met l yX6_told wsX6_told (rmN 2) (va_Pc [.ref (B 2 0), .int a1, .int a2] (WS G B E S)) (QI G B E S rr) 0 0 (AA G) := by
  refine Met.ofW (cc := cX6_told) (maxL := 4) (ret := (some .int)) (by decide) rfl ?_
  intro p e s m args below meth c s₁ B0 hml hv
  obtain ⟨rfl, hW, hF⟩ := hv
  have hx := B0.exec
  have hb := B0.bytes
  have hr := B0.returns
  have hts := atoms_spec (ws := wsX6_told) B0.pre
  have hown : s.vm.findClass RX6 = some m.cls := findClass_of_methodNamed B0.named
  have hlocks := B0.notSynchronized
  have hK := hF.1
  have hfix : CallFix p m c cX6_told 4 s [.ref (B 2 0), .int a1, .int a2].toArray wsX6_told RX6 := ⟨hx, hb, hml, hown, hts⟩
  have hS : va_S (AA G) s.heap s.heap [] := va_S.rf
  have hl := lv_entry [.ref (B 2 0), .int a1, .int a2] (n := 4) (Nat.le_of_ble_eq_true rfl)
  rw [lg_entry_eq]
  generalize (lg_sl [.ref (B 2 0), .int a1, .int a2] ++ List.replicate (4 - (lg_sl [.ref (B 2 0), .int a1, .int a2]).length) Slot.unset).toArray = ls at hl ⊢
  have hl : lv_has ls 4 [(0, .ref (B 2 0)), (1, .int a1), (2, .int a2)] := hl
  have hi2 : ∀ w ∈ u_ws RX2 TX2 7, w ∈ wsX6_told := in_seg 8 rfl
  unfold f_X6_told at hf
  refine lv_aload_n hx hb dX6_told_0 rfl (lv_at hl 0 rfl) ?_
  refine lv_iload_n hx hb dX6_told_1 rfl (lv_at hl 1 rfl) ?_
  obtain ⟨r1, hc, hf⟩ := bd_out hf
  refine y_q (va_runV (As := [.int a1]) (rest := []) hfix (m_X6_known l G B E S a1 r1 hc) (cwV 1 hts gX6_told_X6_known rfl rfl rfl ⟨rfl, hd_X6_known⟩ ⟨Nat.le_of_ble_eq_true rfl, Nat.le_of_ble_eq_true rfl⟩) (y_pv hF hW hS (c2 E) (e2 _ _ _ _ _ _) rfl) rfl rfl hl.1 rfl (lv_room (Nat.le_of_ble_eq_true rfl)) dX6_told_2 ⟨Nat.le_of_ble_eq_true rfl, Nat.le_of_ble_eq_true rfl⟩) hS (fun H locs hW hS => ?_)
  rcases r1 with _ | k2
  · have hf := nl_n hf
    refine lv_astore_nN (lv' := [(3, .null), (0, .ref (B 2 0)), (1, .int a1), (2, .int a2)]) hx hb dX6_told_5 rfl hl (by decide) rfl (fun ls hl => ?_)
    refine lv_aload_nN hx hb dX6_told_6 rfl (lv_at hl 0 rfl) ?_
    refine lv_ifnonnullN hx hb dX6_told_7 ?_
    refine lv_bipush (v := -5) hx hb dX6_told_10 (by decide) ?_
    exact zr_i hf hx hb hr rfl hF hW hS dX6_told_12 hlocks
  · have hf := nl_s hf
    obtain ⟨hk3, hf⟩ := ck_out hf
    have hk3 := of_decide_eq_true hk3
    refine lv_astore_n (lv' := [(3, .ref (B 20 k2)), (0, .ref (B 2 0)), (1, .int a1), (2, .int a2)]) hx hb dX6_told_5 rfl hl (by decide) rfl (fun ls hl => ?_)
    refine lv_aload_n hx hb dX6_told_6 rfl (lv_at hl 0 rfl) ?_
    refine lv_ifnonnull (tgt := 13) hx hb dX6_told_7 (by decide) ?_
    refine lv_iload_n hx hb dX6_told_13 rfl (lv_at hl 3 rfl) ?_
    by_cases hn0 : a2 = (0 : Int32)
    · have hf := if_t hn0 hf
      refine lv_tableIn hx hb dX6_told_14 (by rw [hn0]; decide) (by rw [hn0]; decide) (off := 30) (by rw [hn0]; rfl) (tgt := 44) (by decide) ?_
      refine lv_aload_n hx hb dX6_told_44 rfl (lv_at hl 0 rfl) ?_
      refine x_getN hx hb hts hi2 hown hK hW (c20 hk3) (e20 _ _ _ _ _ _) rfl 0 (Nat.le_of_ble_eq_true rfl) (NW.f hF.2.1 5 (q := ("MovesUp", 119, "MovesUp$Pupil", "kind", "I", "MovesUp")) rfl) (fun _ h => h) (v := .int (gI S 20 k2 0)) rfl dX6_told_45 ?_
      exact zr_i hf hx hb hr rfl hF hW hS dX6_told_48 hlocks
    · have hf := if_f hn0 hf
      by_cases hn1 : a2 = (1 : Int32)
      · have hf := if_t hn1 hf
        refine lv_tableIn hx hb dX6_told_14 (by rw [hn1]; decide) (by rw [hn1]; decide) (off := 35) (by rw [hn1]; rfl) (tgt := 49) (by decide) ?_
        refine lv_aload_n hx hb dX6_told_49 rfl (lv_at hl 0 rfl) ?_
        refine x_getN hx hb hts hi2 hown hK hW (c20 hk3) (e20 _ _ _ _ _ _) rfl 3 (Nat.le_of_ble_eq_true rfl) (NW.f hF.2.1 8 (q := ("MovesUp", 122, "MovesUp$Pupil", "itsClass", "I", "MovesUp")) rfl) (fun _ h => h) (v := .int (gI S 20 k2 3)) rfl dX6_told_50 ?_
        exact zr_i hf hx hb hr rfl hF hW hS dX6_told_53 hlocks
      · have hf := if_f hn1 hf
        by_cases hn2 : a2 = (2 : Int32)
        · have hf := if_t hn2 hf
          refine lv_tableIn hx hb dX6_told_14 (by rw [hn2]; decide) (by rw [hn2]; decide) (off := 40) (by rw [hn2]; rfl) (tgt := 54) (by decide) ?_
          refine lv_aload_n hx hb dX6_told_54 rfl (lv_at hl 0 rfl) ?_
          refine x_getN hx hb hts hi2 hown hK hW (c20 hk3) (e20 _ _ _ _ _ _) rfl 1 (Nat.le_of_ble_eq_true rfl) (NW.f hF.2.1 6 (q := ("MovesUp", 125, "MovesUp$Pupil", "sort", "I", "MovesUp")) rfl) (fun _ h => h) (v := .int (gI S 20 k2 1)) rfl dX6_told_55 ?_
          exact zr_i hf hx hb hr rfl hF hW hS dX6_told_58 hlocks
        · have hf := if_f hn2 hf
          by_cases hn3 : a2 = (3 : Int32)
          · have hf := if_t hn3 hf
            refine lv_tableIn hx hb dX6_told_14 (by rw [hn3]; decide) (by rw [hn3]; decide) (off := 45) (by rw [hn3]; rfl) (tgt := 59) (by decide) ?_
            refine lv_aload_n hx hb dX6_told_59 rfl (lv_at hl 0 rfl) ?_
            refine x_getN hx hb hts hi2 hown hK hW (c20 hk3) (e20 _ _ _ _ _ _) rfl 2 (Nat.le_of_ble_eq_true rfl) (NW.f hF.2.1 7 (q := ("MovesUp", 128, "MovesUp$Pupil", "number", "I", "MovesUp")) rfl) (fun _ h => h) (v := .int (gI S 20 k2 2)) rfl dX6_told_60 ?_
            exact zr_i hf hx hb hr rfl hF hW hS dX6_told_63 hlocks
          · have hf := if_f hn3 hf
            refine lv_tableOut hx hb dX6_told_14 (tb_out (by decide) (by decide) (fun k h1 h2 => ?_)) (tgt := 64) (by decide) ?_
            · have hk : k = 0 ∨ k = 1 ∨ k = 2 ∨ k = 3 := by omega
              rcases hk with rfl | rfl | rfl | rfl
              · exact fun q => hn0 (q.trans (by decide))
              · exact fun q => hn1 (q.trans (by decide))
              · exact fun q => hn2 (q.trans (by decide))
              · exact fun q => hn3 (q.trans (by decide))
            · refine lv_iload_n hx hb dX6_told_64 rfl (lv_at hl 3 rfl) ?_
              refine lv_iconst (v := 4) hx hb dX6_told_65 rfl ?_
              refine lv_icmp_lt (tgt := 86) hx hb dX6_told_66 (by decide) (fun h => ?_) (fun h => ?_)
              · have hf := if_t h hf
                refine lv_bipush (v := -5) hx hb dX6_told_86 (by decide) ?_
                exact zr_i hf hx hb hr rfl hF hW hS dX6_told_88 hlocks
              · have hf := if_f h hf
                refine lv_iload_n hx hb dX6_told_69 rfl (lv_at hl 3 rfl) ?_
                refine lv_bipush (v := 9) hx hb dX6_told_70 (by decide) ?_
                refine lv_icmp_ge (tgt := 86) hx hb dX6_told_72 (by decide) (fun h => ?_) (fun h => ?_)
                · have hf := if_t h hf
                  refine lv_bipush (v := -5) hx hb dX6_told_86 (by decide) ?_
                  exact zr_i hf hx hb hr rfl hF hW hS dX6_told_88 hlocks
                · have hf := if_f h hf
                  refine lv_aload_n hx hb dX6_told_75 rfl (lv_at hl 0 rfl) ?_
                  refine x_getN hx hb hts hi2 hown hK hW (c20 hk3) (e20 _ _ _ _ _ _) rfl 4 (Nat.le_of_ble_eq_true rfl) (NW.f hF.2.1 9 (q := ("MovesUp", 115, "MovesUp$Pupil", "weights", "[I", "MovesUp")) rfl) (fun _ h => h) (v := .ref (B 21 k2)) rfl dX6_told_76 ?_
                  refine lv_iload_n hx hb dX6_told_79 rfl (lv_at hl 3 rfl) ?_
                  refine lv_iconst (v := 4) hx hb dX6_told_80 rfl ?_
                  refine lv_isub hx hb dX6_told_81 ?_
                  obtain ⟨hi_4, hf⟩ := ck_out hf
                  have hi_4 := ib_in hi_4
                  refine x_iald hx hb hK hW (cv20_21 (c20 hk3)) (e21 _ _ _ _ _ _) hi_4 (jn := (a2 - (4 : Int32)).toNatClampNeg) rfl dX6_told_82 ?_
                  refine lv_goto (tgt := 88) hx hb dX6_told_83 (by decide) ?_
                  exact zr_i hf hx hb hr rfl hF hW hS dX6_told_88 hlocks
set_option maxHeartbeats 4000000 in
set_option maxRecDepth 100000 in
theorem m_X6_feed (l : Launch) (G : GE) (B : Nat → Nat → Nat) (E : EN)  (S : ST) (a1 : Int32) (a2 : Int64) (rr : Int32) (SS : ST) (hf : f_X6_feed E S a1 a2 = some (rr, SS)) : Met l yX6_feed wsX6_feed (rmN 1) (va_Pc [.ref (B 2 0), .int a1, .long a2] (WS G B E S)) (QI G B E SS rr) 0 0 (AA G) := by
  refine Met.ofW (cc := cX6_feed) (maxL := 5) (ret := (some .int)) (by decide) rfl ?_
  intro p e s m args below meth c s₁ B0 hml hv
  obtain ⟨rfl, hW, hF⟩ := hv
  have hx := B0.exec
  have hb := B0.bytes
  have hr := B0.returns
  have hts := atoms_spec (ws := wsX6_feed) B0.pre
  have hown : s.vm.findClass RX6 = some m.cls := findClass_of_methodNamed B0.named
  have hlocks := B0.notSynchronized
  have hK := hF.1
  have hfix : CallFix p m c cX6_feed 5 s [.ref (B 2 0), .int a1, .long a2].toArray wsX6_feed RX6 := ⟨hx, hb, hml, hown, hts⟩
  have hS : va_S (AA G) s.heap s.heap [] := va_S.rf
  have hl := lv_entry [.ref (B 2 0), .int a1, .long a2] (n := 5) (Nat.le_of_ble_eq_true rfl)
  rw [lg_entry_eq]
  generalize (lg_sl [.ref (B 2 0), .int a1, .long a2] ++ List.replicate (5 - (lg_sl [.ref (B 2 0), .int a1, .long a2]).length) Slot.unset).toArray = ls at hl ⊢
  have hl : lv_has ls 5 [(0, .ref (B 2 0)), (1, .int a1), (2, .long a2)] := hl
  have q0 := hts (.fieldLink RX6 35 "MovesUp" "tapeSize" "I") (List.mem_of_getElem? (i := 1) rfl)
  have q1 := hts (.fieldLink RX6 31 "MovesUp" "tape" "[B") (List.mem_of_getElem? (i := 2) rfl)
  have hi6 : ∀ w ∈ u_ws RX6 TX6 15, w ∈ wsX6_feed := in_seg 3 rfl
  have w72 : ∀ (S : ST)  , f_X6_feed_b72 E S  = some (rr, SS) → ∀ (H : Heap) (locs : List Loc) (ls : Array Slot), WH G B E S H → va_S (AA G) s.heap H locs → lv_has ls 5 [(0, .ref (B 2 0))] → W p l e (headSpec wsX6_feed (rmN 1)).room s m [.ref (B 2 0), .int a1, .long a2].toArray below meth c H locs 0 0 (MQ below (QI G B E SS rr) [.ref (B 2 0), .int a1, .long a2].toArray s 0 0 (AA G)) (F0 m 72 ls []) := by
    intro S  hf H locs ls hW hS hl
    unfold f_X6_feed_b72 at hf
    refine lv_aload_n hx hb dX6_feed_72 rfl (lv_at hl 0 rfl) ?_
    refine x_get hx hb hts hi6 hown hK hW (c2 E) (e2 _ _ _ _ _ _) rfl 6 (Nat.le_of_ble_eq_true rfl) q0 (fun _ h => h) (v := .int (gI S 2 0 6)) rfl dX6_feed_73 ?_
    exact z_i hf hx hb hr rfl hF hW hS dX6_feed_76 hlocks
  have w32 : ∀ (n32 : Nat) (S : ST) (v1 : Int32) (v2 : Int64) (v4 : Int32) , f_X6_feed_b32 E n32 S v1 v2 v4 = some (rr, SS) → ∀ (H : Heap) (locs : List Loc) (ls : Array Slot), WH G B E S H → va_S (AA G) s.heap H locs → lv_has ls 5 [(0, .ref (B 2 0)), (1, .int v1), (2, .long v2), (4, .int v4)] → W p l e (headSpec wsX6_feed (rmN 1)).room s m [.ref (B 2 0), .int a1, .long a2].toArray below meth c H locs 0 0 (MQ below (QI G B E SS rr) [.ref (B 2 0), .int a1, .long a2].toArray s 0 0 (AA G)) (F0 m 32 ls []) := by
    intro n32
    induction n32 with
    | zero =>
      intro S v1 v2 v4 hf
      exact absurd (show (none : Option (Int32 × ST)) = some (rr, SS) from hf) (fun h => by cases h)
    | succ n32 ih32 =>
      intro S v1 v2 v4 hf H locs ls hW hS hl
      have hf : g_X6_feed_b32 E (f_X6_feed_b32 E n32) S v1 v2 v4 = some (rr, SS) := hf
      unfold g_X6_feed_b32 at hf
      refine lv_iload hx hb dX6_feed_32 (lv_at hl 3 rfl) ?_
      refine lv_iload_n hx hb dX6_feed_34 rfl (lv_at hl 1 rfl) ?_
      refine lv_icmp_ge (tgt := 72) hx hb dX6_feed_35 (by decide) (fun h => ?_) (fun h => ?_)
      · have hf := if_t h hf
        exact w72 S  hf _ _ _ hW hS (lv_sub hl [0] rfl)
      · have hf := if_f h hf
        refine lv_aload_n hx hb dX6_feed_38 rfl (lv_at hl 0 rfl) ?_
        refine x_get hx hb hts hi6 hown hK hW (c2 E) (e2 _ _ _ _ _ _) rfl 5 (Nat.le_of_ble_eq_true rfl) q1 (fun _ h => h) (v := .ref (B 5 0)) rfl dX6_feed_39 ?_
        refine lv_aload_n hx hb dX6_feed_42 rfl (lv_at hl 0 rfl) ?_
        refine x_get hx hb hts hi6 hown hK hW (c2 E) (e2 _ _ _ _ _ _) rfl 6 (Nat.le_of_ble_eq_true rfl) q0 (fun _ h => h) (v := .int (gI S 2 0 6)) rfl dX6_feed_43 ?_
        refine lv_lload_n hx hb dX6_feed_46 rfl (lv_at hl 2 rfl) ?_
        refine lv_bipush (v := 8) hx hb dX6_feed_47 (by decide) ?_
        refine lv_iload hx hb dX6_feed_49 (lv_at hl 3 rfl) ?_
        refine lv_imul hx hb dX6_feed_51 ?_
        refine lv_lshr hx hb dX6_feed_52 rfl ?_
        refine lv_l2i hx hb dX6_feed_53 rfl ?_
        refine lv_i2b hx hb dX6_feed_54 rfl ?_
        obtain ⟨hi_1, hf⟩ := ck_out hf
        have hi_1 := ib_in hi_1
        obtain ⟨S2, e_S2, hf⟩ := lt_out hf
        refine x_bast hx hb hK hW hS (c5 E) (fun f r => e5 _ _ _ f _ r) hi_1 (jn := (gI S 2 0 6).toNatClampNeg) rfl e_S2 dX6_feed_55 (fun H locs hW hS => ?_)
        refine lv_aload_n hx hb dX6_feed_56 rfl (lv_at hl 0 rfl) ?_
        refine lv_dup hx hb dX6_feed_57 rfl ?_
        refine x_get hx hb hts hi6 hown hK hW (c2 E) (e2 _ _ _ _ _ _) rfl 6 (Nat.le_of_ble_eq_true rfl) q0 (fun _ h => h) (v := .int (gI S2 2 0 6)) rfl dX6_feed_58 ?_
        refine lv_iconst (v := 1) hx hb dX6_feed_61 rfl ?_
        refine lv_iadd hx hb dX6_feed_62 ?_
        obtain ⟨S3, e_S3, hf⟩ := lt_out hf
        refine x_putI hx hb hts hi6 tyX6 tyX6_ok nmX6 hown hK hW hS (c2 E) (e2 _ _ _) rfl 6 (Nat.le_of_ble_eq_true rfl) q0 (fun _ h => h) rfl (tyX6_ok 6 (Nat.le_of_ble_eq_true rfl)) rfl rfl (Nat.le_of_ble_eq_true rfl) (pu2_6 _ _) e_S3 dX6_feed_63 (fun H locs hW hS => ?_)
        obtain ⟨x4, e_x4, hf⟩ := lt_out hf
        refine lv_iinc (v := x4) (lv' := [(4, .int x4), (0, .ref (B 2 0)), (1, .int v1), (2, .long v2)]) hx hb dX6_feed_66 hl (k := 3) rfl (by rw [e_x4]; rfl) (by decide) rfl (fun ls hl => ?_)
        refine lv_goto (tgt := 32) hx hb dX6_feed_69 (by decide) ?_
        exact ih32 S3 v1 v2 x4  hf _ _ _ hW hS (lv_sub hl [1, 2, 3, 0] rfl)
  unfold f_X6_feed at hf
  refine lv_iload_n hx hb dX6_feed_0 rfl (lv_at hl 1 rfl) ?_
  refine lv_iconst (v := 1) hx hb dX6_feed_1 rfl ?_
  refine lv_icmp_lt (tgt := 11) hx hb dX6_feed_2 (by decide) (fun h => ?_) (fun h => ?_)
  · have hf := if_t h hf
    refine lv_bipush (v := -2) hx hb dX6_feed_11 (by decide) ?_
    exact z_i hf hx hb hr rfl hF hW hS dX6_feed_13 hlocks
  · have hf := if_f h hf
    refine lv_iload_n hx hb dX6_feed_5 rfl (lv_at hl 1 rfl) ?_
    refine lv_bipush (v := 8) hx hb dX6_feed_6 (by decide) ?_
    refine lv_icmp_le (tgt := 14) hx hb dX6_feed_8 (by decide) (fun h => ?_) (fun h => ?_)
    · have hf := if_t h hf
      refine lv_aload_n hx hb dX6_feed_14 rfl (lv_at hl 0 rfl) ?_
      refine x_get hx hb hts hi6 hown hK hW (c2 E) (e2 _ _ _ _ _ _) rfl 6 (Nat.le_of_ble_eq_true rfl) q0 (fun _ h => h) (v := .int (gI S 2 0 6)) rfl dX6_feed_15 ?_
      refine lv_iload_n hx hb dX6_feed_18 rfl (lv_at hl 1 rfl) ?_
      refine lv_iadd hx hb dX6_feed_19 ?_
      refine lv_sipush (v := 160) hx hb dX6_feed_20 (by decide) ?_
      refine lv_icmp_le (tgt := 29) hx hb dX6_feed_23 (by decide) (fun h => ?_) (fun h => ?_)
      · have hf := if_t h hf
        refine lv_iconst (v := 0) hx hb dX6_feed_29 rfl ?_
        refine lv_istore (lv' := [(4, .int (0 : Int32)), (0, .ref (B 2 0)), (1, .int a1), (2, .long a2)]) hx hb dX6_feed_30 hl (by decide) rfl (fun ls hl => ?_)
        exact w32 E.1 S a1 a2 (0 : Int32)  hf _ _ _ hW hS (lv_sub hl [1, 2, 3, 0] rfl)
      · have hf := if_f h hf
        refine lv_bipush (v := -4) hx hb dX6_feed_26 (by decide) ?_
        exact z_i hf hx hb hr rfl hF hW hS dX6_feed_28 hlocks
    · have hf := if_f h hf
      refine lv_bipush (v := -2) hx hb dX6_feed_11 (by decide) ?_
      exact z_i hf hx hb hr rfl hF hW hS dX6_feed_13 hlocks
set_option maxHeartbeats 4000000 in
set_option maxRecDepth 100000 in
theorem m_X6_force (l : Launch) (G : GE) (B : Nat → Nat → Nat) (E : EN)  (S : ST) (a1 : Int32) (rr : Int32) (SS : ST) (hf : f_X6_force E S a1 = some (rr, SS)) : Met l yX6_force wsX6_force (rmN 1) (va_Pc [.ref (B 2 0), .int a1] (WS G B E S)) (QI G B E SS rr) 0 0 (AA G) := by
  refine Met.ofW (cc := cX6_force) (maxL := 3) (ret := (some .int)) (by decide) rfl ?_
  intro p e s m args below meth c s₁ B0 hml hv
  obtain ⟨rfl, hW, hF⟩ := hv
  have hx := B0.exec
  have hb := B0.bytes
  have hr := B0.returns
  have hts := atoms_spec (ws := wsX6_force) B0.pre
  have hown : s.vm.findClass RX6 = some m.cls := findClass_of_methodNamed B0.named
  have hlocks := B0.notSynchronized
  have hK := hF.1
  have hfix : CallFix p m c cX6_force 3 s [.ref (B 2 0), .int a1].toArray wsX6_force RX6 := ⟨hx, hb, hml, hown, hts⟩
  have hS : va_S (AA G) s.heap s.heap [] := va_S.rf
  have hl := lv_entry [.ref (B 2 0), .int a1] (n := 3) (Nat.le_of_ble_eq_true rfl)
  rw [lg_entry_eq]
  generalize (lg_sl [.ref (B 2 0), .int a1] ++ List.replicate (3 - (lg_sl [.ref (B 2 0), .int a1]).length) Slot.unset).toArray = ls at hl ⊢
  have hl : lv_has ls 3 [(0, .ref (B 2 0)), (1, .int a1)] := hl
  have q0 := hts (.fieldLink RX6 25 "MovesUp" "rulesSize" "I") (List.mem_of_getElem? (i := 1) rfl)
  have q1 := hts (.fieldLink RX6 28 "MovesUp" "ruling" "I") (List.mem_of_getElem? (i := 2) rfl)
  have hi6 : ∀ w ∈ u_ws RX6 TX6 15, w ∈ wsX6_force := in_seg 3 rfl
  unfold f_X6_force at hf
  refine lv_iload_n hx hb dX6_force_0 rfl (lv_at hl 1 rfl) ?_
  refine lv_if_lt (tgt := 12) hx hb dX6_force_1 (by decide) (fun h => ?_) (fun h => ?_)
  · have hf := if_t h hf
    refine lv_bipush (v := -2) hx hb dX6_force_12 (by decide) ?_
    exact z_i hf hx hb hr rfl hF hW hS dX6_force_14 hlocks
  · have hf := if_f h hf
    refine lv_iload_n hx hb dX6_force_4 rfl (lv_at hl 1 rfl) ?_
    refine lv_aload_n hx hb dX6_force_5 rfl (lv_at hl 0 rfl) ?_
    refine x_get hx hb hts hi6 hown hK hW (c2 E) (e2 _ _ _ _ _ _) rfl 3 (Nat.le_of_ble_eq_true rfl) q0 (fun _ h => h) (v := .int (gI S 2 0 3)) rfl dX6_force_6 ?_
    refine lv_icmp_lt (tgt := 15) hx hb dX6_force_9 (by decide) (fun h => ?_) (fun h => ?_)
    · have hf := if_t h hf
      refine lv_aload_n hx hb dX6_force_15 rfl (lv_at hl 0 rfl) ?_
      refine x_get hx hb hts hi6 hown hK hW (c2 E) (e2 _ _ _ _ _ _) rfl 4 (Nat.le_of_ble_eq_true rfl) q1 (fun _ h => h) (v := .int (gI S 2 0 4)) rfl dX6_force_16 ?_
      obtain ⟨x1, e_x1, hf⟩ := lt_out hf
      refine x_nmI e_x1 ?_
      refine lv_istore_n (lv' := [(2, .int x1), (0, .ref (B 2 0)), (1, .int a1)]) hx hb dX6_force_19 rfl hl (by decide) rfl (fun ls hl => ?_)
      refine lv_aload_n hx hb dX6_force_20 rfl (lv_at hl 1 rfl) ?_
      refine lv_iload_n hx hb dX6_force_21 rfl (lv_at hl 2 rfl) ?_
      obtain ⟨S2, e_S2, hf⟩ := lt_out hf
      refine x_putI hx hb hts hi6 tyX6 tyX6_ok nmX6 hown hK hW hS (c2 E) (e2 _ _ _) rfl 4 (Nat.le_of_ble_eq_true rfl) q1 (fun _ h => h) rfl (tyX6_ok 4 (Nat.le_of_ble_eq_true rfl)) rfl rfl (Nat.le_of_ble_eq_true rfl) (pu2_4 _ _) e_S2 dX6_force_22 (fun H locs hW hS => ?_)
      refine lv_iload_n hx hb dX6_force_25 rfl (lv_at hl 0 rfl) ?_
      exact z_i hf hx hb hr rfl hF hW hS dX6_force_26 hlocks
    · have hf := if_f h hf
      refine lv_bipush (v := -2) hx hb dX6_force_12 (by decide) ?_
      exact z_i hf hx hb hr rfl hF hW hS dX6_force_14 hlocks
set_option maxHeartbeats 4000000 in
set_option maxRecDepth 100000 in
theorem m_X6_says (l : Launch) (G : GE) (B : Nat → Nat → Nat) (E : EN)  (S : ST) (a1 : Int32) (a2 : Int32) (a3 : Int32) (rr : Int32) (SS : ST) (hf : f_X6_says E S a1 a2 a3 = some (rr, SS)) : Met l yX6_says wsX6_says (rmN 4) (va_Pc [.ref (B 2 0), .int a1, .int a2, .int a3] (WS G B E S)) (QI G B E SS rr) 0 0 (AA G) := by
  refine Met.ofW (cc := cX6_says) (maxL := 7) (ret := (some .int)) (by decide) rfl ?_
  intro p e s m args below meth c s₁ B0 hml hv
  obtain ⟨rfl, hW, hF⟩ := hv
  have hx := B0.exec
  have hb := B0.bytes
  have hr := B0.returns
  have hts := atoms_spec (ws := wsX6_says) B0.pre
  have hown : s.vm.findClass RX6 = some m.cls := findClass_of_methodNamed B0.named
  have hlocks := B0.notSynchronized
  have hK := hF.1
  have hfix : CallFix p m c cX6_says 7 s [.ref (B 2 0), .int a1, .int a2, .int a3].toArray wsX6_says RX6 := ⟨hx, hb, hml, hown, hts⟩
  have hS : va_S (AA G) s.heap s.heap [] := va_S.rf
  have hl := lv_entry [.ref (B 2 0), .int a1, .int a2, .int a3] (n := 7) (Nat.le_of_ble_eq_true rfl)
  rw [lg_entry_eq]
  generalize (lg_sl [.ref (B 2 0), .int a1, .int a2, .int a3] ++ List.replicate (7 - (lg_sl [.ref (B 2 0), .int a1, .int a2, .int a3]).length) Slot.unset).toArray = ls at hl ⊢
  have hl : lv_has ls 7 [(0, .ref (B 2 0)), (1, .int a1), (2, .int a2), (3, .int a3)] := hl
  have q0 := hts (.fieldLink RX6 56 "MovesUp" "chances" "LMovesUp$Chances;") (List.mem_of_getElem? (i := 1) rfl)
  have q1 := hts (.fieldLink RX6 21 "MovesUp" "rules" "[LMovesUp$Text;") (List.mem_of_getElem? (i := 2) rfl)
  have q2 := hts (.fieldLink RX6 28 "MovesUp" "ruling" "I") (List.mem_of_getElem? (i := 3) rfl)
  have q3 := hts (.initialized RX0) (List.mem_of_getElem? (i := 5) rfl)
  have q4 := hts (.instanceMethod yX0_rely) (List.mem_of_getElem? (i := 4) rfl)
  have q5 := hts (.selects RX0 yX0_rely yX0_rely) (List.mem_of_getElem? (i := 6) rfl)
  have q6 := hts (.instanceMethod yX0_asks) (List.mem_of_getElem? (i := 16) rfl)
  have q7 := hts (.selects RX0 yX0_asks yX0_asks) (List.mem_of_getElem? (i := 17) rfl)
  have hi6 : ∀ w ∈ u_ws RX6 TX6 15, w ∈ wsX6_says := in_seg 35 rfl
  unfold f_X6_says at hf
  refine lv_iload_n hx hb dX6_says_0 rfl (lv_at hl 1 rfl) ?_
  refine lv_if_lt (tgt := 17) hx hb dX6_says_1 (by decide) (fun h => ?_) (fun h => ?_)
  · have hf := if_t h hf
    refine lv_bipush (v := -2) hx hb dX6_says_17 (by decide) ?_
    exact z_i hf hx hb hr rfl hF hW hS dX6_says_19 hlocks
  · have hf := if_f h hf
    refine lv_iload_n hx hb dX6_says_4 rfl (lv_at hl 2 rfl) ?_
    refine lv_if_lt (tgt := 17) hx hb dX6_says_5 (by decide) (fun h => ?_) (fun h => ?_)
    · have hf := if_t h hf
      refine lv_bipush (v := -2) hx hb dX6_says_17 (by decide) ?_
      exact z_i hf hx hb hr rfl hF hW hS dX6_says_19 hlocks
    · have hf := if_f h hf
      refine lv_iload_n hx hb dX6_says_8 rfl (lv_at hl 3 rfl) ?_
      refine lv_if_lt (tgt := 17) hx hb dX6_says_9 (by decide) (fun h => ?_) (fun h => ?_)
      · have hf := if_t h hf
        refine lv_bipush (v := -2) hx hb dX6_says_17 (by decide) ?_
        exact z_i hf hx hb hr rfl hF hW hS dX6_says_19 hlocks
      · have hf := if_f h hf
        refine lv_iload_n hx hb dX6_says_12 rfl (lv_at hl 3 rfl) ?_
        refine lv_iconst (v := 3) hx hb dX6_says_13 rfl ?_
        refine lv_icmp_lt (tgt := 20) hx hb dX6_says_14 (by decide) (fun h => ?_) (fun h => ?_)
        · have hf := if_t h hf
          refine lv_iload_n hx hb dX6_says_20 rfl (lv_at hl 1 rfl) ?_
          refine lv_bipush (v := 100) hx hb dX6_says_21 (by decide) ?_
          refine lv_idiv hx hb dX6_says_23 (by decide) ?_
          obtain ⟨x1, e_x1, hf⟩ := lt_out hf
          refine x_nmI e_x1 ?_
          refine lv_istore (lv' := [(4, .int x1), (0, .ref (B 2 0)), (1, .int a1), (2, .int a2), (3, .int a3)]) hx hb dX6_says_24 hl (by decide) rfl (fun ls hl => ?_)
          refine lv_iload_n hx hb dX6_says_26 rfl (lv_at hl 2 rfl) ?_
          refine lv_bipush (v := 10) hx hb dX6_says_27 (by decide) ?_
          refine lv_idiv hx hb dX6_says_29 (by decide) ?_
          refine lv_bipush (v := 10) hx hb dX6_says_30 (by decide) ?_
          refine x_irem hx hb dX6_says_32 (by decide) ?_
          obtain ⟨x2, e_x2, hf⟩ := lt_out hf
          refine x_nmI e_x2 ?_
          refine lv_istore (lv' := [(5, .int x2), (4, .int x1), (0, .ref (B 2 0)), (1, .int a1), (2, .int a2), (3, .int a3)]) hx hb dX6_says_33 hl (by decide) rfl (fun ls hl => ?_)
          refine lv_iload_n hx hb dX6_says_35 rfl (lv_at hl 3 rfl) ?_
          refine lv_bipush (v := 10) hx hb dX6_says_36 (by decide) ?_
          refine x_irem hx hb dX6_says_38 (by decide) ?_
          obtain ⟨x3, e_x3, hf⟩ := lt_out hf
          refine x_nmI e_x3 ?_
          refine lv_istore (lv' := [(6, .int x3), (5, .int x2), (4, .int x1), (0, .ref (B 2 0)), (1, .int a1), (2, .int a2), (3, .int a3)]) hx hb dX6_says_39 hl (by decide) rfl (fun ls hl => ?_)
          refine lv_iload hx hb dX6_says_41 (lv_at hl 2 rfl) ?_
          refine lv_iconst (v := 5) hx hb dX6_says_43 rfl ?_
          refine lv_icmp_ge (tgt := 75) hx hb dX6_says_44 (by decide) (fun h => ?_) (fun h => ?_)
          · have hf := if_t h hf
            refine lv_bipush (v := -2) hx hb dX6_says_75 (by decide) ?_
            exact z_i hf hx hb hr rfl hF hW hS dX6_says_77 hlocks
          · have hf := if_f h hf
            refine lv_iload hx hb dX6_says_47 (lv_at hl 1 rfl) ?_
            refine lv_iconst (v := 5) hx hb dX6_says_49 rfl ?_
            refine lv_icmp_ge (tgt := 75) hx hb dX6_says_50 (by decide) (fun h => ?_) (fun h => ?_)
            · have hf := if_t h hf
              refine lv_bipush (v := -2) hx hb dX6_says_75 (by decide) ?_
              exact z_i hf hx hb hr rfl hF hW hS dX6_says_77 hlocks
            · have hf := if_f h hf
              refine lv_iload hx hb dX6_says_53 (lv_at hl 0 rfl) ?_
              refine lv_iconst (v := 5) hx hb dX6_says_55 rfl ?_
              refine lv_icmp_gt (tgt := 75) hx hb dX6_says_56 (by decide) (fun h => ?_) (fun h => ?_)
              · have hf := if_t h hf
                refine lv_bipush (v := -2) hx hb dX6_says_75 (by decide) ?_
                exact z_i hf hx hb hr rfl hF hW hS dX6_says_77 hlocks
              · have hf := if_f h hf
                refine lv_iload_n hx hb dX6_says_59 rfl (lv_at hl 5 rfl) ?_
                refine lv_bipush (v := 10) hx hb dX6_says_60 (by decide) ?_
                refine lv_idiv hx hb dX6_says_62 (by decide) ?_
                refine lv_iconst (v := 4) hx hb dX6_says_63 rfl ?_
                refine lv_icmp_ge (tgt := 75) hx hb dX6_says_64 (by decide) (fun h => ?_) (fun h => ?_)
                · have hf := if_t h hf
                  refine lv_bipush (v := -2) hx hb dX6_says_75 (by decide) ?_
                  exact z_i hf hx hb hr rfl hF hW hS dX6_says_77 hlocks
                · have hf := if_f h hf
                  refine lv_iload_n hx hb dX6_says_67 rfl (lv_at hl 5 rfl) ?_
                  refine lv_bipush (v := 10) hx hb dX6_says_68 (by decide) ?_
                  refine x_irem hx hb dX6_says_70 (by decide) ?_
                  refine lv_iconst (v := 5) hx hb dX6_says_71 rfl ?_
                  refine lv_icmp_le (tgt := 78) hx hb dX6_says_72 (by decide) (fun h => ?_) (fun h => ?_)
                  · have hf := if_t h hf
                    refine lv_aload_n hx hb dX6_says_78 rfl (lv_at hl 3 rfl) ?_
                    refine x_get hx hb hts hi6 hown hK hW (c2 E) (e2 _ _ _ _ _ _) rfl 9 (Nat.le_of_ble_eq_true rfl) q0 (fun _ h => h) (v := .ref (B 10 0)) rfl dX6_says_79 ?_
                    refine lv_aload_n hx hb dX6_says_82 rfl (lv_at hl 3 rfl) ?_
                    refine x_get hx hb hts hi6 hown hK hW (c2 E) (e2 _ _ _ _ _ _) rfl 2 (Nat.le_of_ble_eq_true rfl) q1 (fun _ h => h) (v := .ref (B 4 0)) rfl dX6_says_83 ?_
                    refine lv_aload_n hx hb dX6_says_86 rfl (lv_at hl 3 rfl) ?_
                    refine x_get hx hb hts hi6 hown hK hW (c2 E) (e2 _ _ _ _ _ _) rfl 4 (Nat.le_of_ble_eq_true rfl) q2 (fun _ h => h) (v := .int (gI S 2 0 4)) rfl dX6_says_87 ?_
                    obtain ⟨hi_4, hf⟩ := ck_out hf
                    have hi_4 := ib_in hi_4
                    refine x_aaldN hx hb hK hW (c4 E) (t := 5) rfl rfl (e4 _ _ _ _ _ _) hi_4 (jn := (gI S 2 0 4).toNatClampNeg) rfl dX6_says_90 ?_
                    obtain ⟨o5, e_o5, hf⟩ := lt_out hf
                    refine x_nmN e_o5 ?_
                    rcases o5 with _ | k6
                    · have hf := nl_n hf
                      refine lv_aload_n hx hb dX6_says_91 rfl (lv_at hl 3 rfl) ?_
                      refine x_get hx hb hts hi6 hown hK hW (c2 E) (e2 _ _ _ _ _ _) rfl 4 (Nat.le_of_ble_eq_true rfl) q2 (fun _ h => h) (v := .int (gI S 2 0 4)) rfl dX6_says_92 ?_
                      refine lv_iload_n hx hb dX6_says_95 rfl (lv_at hl 5 rfl) ?_
                      refine lv_bipush (v := 10) hx hb dX6_says_96 (by decide) ?_
                      refine lv_idiv hx hb dX6_says_98 (by decide) ?_
                      exact absurd hf (by intro h; cases h)
                    · have hf := nl_s hf
                      obtain ⟨hk7, hf⟩ := ck_out hf
                      have hk7 := of_decide_eq_true hk7
                      refine lv_aload_n hx hb dX6_says_91 rfl (lv_at hl 3 rfl) ?_
                      refine x_get hx hb hts hi6 hown hK hW (c2 E) (e2 _ _ _ _ _ _) rfl 4 (Nat.le_of_ble_eq_true rfl) q2 (fun _ h => h) (v := .int (gI S 2 0 4)) rfl dX6_says_92 ?_
                      refine lv_iload_n hx hb dX6_says_95 rfl (lv_at hl 5 rfl) ?_
                      refine lv_bipush (v := 10) hx hb dX6_says_96 (by decide) ?_
                      refine lv_idiv hx hb dX6_says_98 (by decide) ?_
                      obtain ⟨S8, hc, hf⟩ := bd_out hf
                      refine y_v (va_runVN (As := [.ref (B 30 k6), .int (gI S 2 0 4), .int (a2 / (10 : Int32))]) (rest := []) hfix (m_X0_rely l G B E S k6 (c30 hk7) (gI S 2 0 4) (a2 / (10 : Int32)) S8 hc) ⟨va_cnB 3 hts gX6_says_X0_rely_n131 rfl rfl rfl (NW.m hF.2.1 9 (q := ("MovesUp", 131, "MovesUp$Chances", "rely", "(LMovesUp$Text;II)V", "MovesUp")) rfl) q3 hd_X0_rely ⟨Nat.le_of_ble_eq_true rfl, Nat.le_of_ble_eq_true rfl⟩, q4, q5⟩ (y_pv hF hW hS (c10 E) (e10 _ _ _ _ _ _) rfl) rfl rfl hl.1 rfl (lv_room (Nat.le_of_ble_eq_true rfl)) dX6_says_99 ⟨Nat.le_of_ble_eq_true rfl, Nat.le_of_ble_eq_true rfl⟩) hS (fun H locs hW hS => ?_)
                      refine lv_aload_n hx hb dX6_says_102 rfl (lv_at hl 3 rfl) ?_
                      refine x_get hx hb hts hi6 hown hK hW (c2 E) (e2 _ _ _ _ _ _) rfl 9 (Nat.le_of_ble_eq_true rfl) q0 (fun _ h => h) (v := .ref (B 10 0)) rfl dX6_says_103 ?_
                      refine lv_iload_n hx hb dX6_says_106 rfl (lv_at hl 6 rfl) ?_
                      refine lv_iload hx hb dX6_says_107 (lv_at hl 2 rfl) ?_
                      refine lv_iload hx hb dX6_says_109 (lv_at hl 1 rfl) ?_
                      refine lv_iload hx hb dX6_says_111 (lv_at hl 0 rfl) ?_
                      refine lv_iload_n hx hb dX6_says_113 rfl (lv_at hl 5 rfl) ?_
                      refine lv_bipush (v := 10) hx hb dX6_says_114 (by decide) ?_
                      refine x_irem hx hb dX6_says_116 (by decide) ?_
                      obtain ⟨r9, S10, hc, hf⟩ := bd2_out hf
                      refine y_i (va_runVN (As := [.int a3, .int x1, .int x2, .int x3, .int (rmI a2 (10 : Int32))]) (rest := []) hfix (m_X0_asks l G B E S8 a3 x1 x2 x3 (rmI a2 (10 : Int32)) r9 S10 hc) ⟨va_cnB 5 hts gX6_says_X0_asks_n135 rfl rfl rfl (NW.m hF.2.1 10 (q := ("MovesUp", 135, "MovesUp$Chances", "asks", "(IIIII)I", "MovesUp")) rfl) q3 hd_X0_asks ⟨Nat.le_of_ble_eq_true rfl, Nat.le_of_ble_eq_true rfl⟩, q6, q7⟩ (y_pv hF hW hS (c10 E) (e10 _ _ _ _ _ _) rfl) rfl rfl hl.1 rfl (lv_room (Nat.le_of_ble_eq_true rfl)) dX6_says_117 ⟨Nat.le_of_ble_eq_true rfl, Nat.le_of_ble_eq_true rfl⟩) hS (fun H locs hW hS => ?_)
                      exact z_i hf hx hb hr rfl hF hW hS dX6_says_120 hlocks
                  · have hf := if_f h hf
                    refine lv_bipush (v := -2) hx hb dX6_says_75 (by decide) ?_
                    exact z_i hf hx hb hr rfl hF hW hS dX6_says_77 hlocks
        · have hf := if_f h hf
          refine lv_bipush (v := -2) hx hb dX6_says_17 (by decide) ?_
          exact z_i hf hx hb hr rfl hF hW hS dX6_says_19 hlocks
set_option maxHeartbeats 4000000 in
set_option maxRecDepth 100000 in
theorem m_X6_areMarks (l : Launch) (G : GE) (B : Nat → Nat → Nat) (E : EN)  (S : ST) (a1 : Int32) (rr : Int32) (hf : f_X6_areMarks E S a1 = some rr) : Met l yX6_areMarks wsX6_areMarks (rmN 1) (va_Pc [.int a1] (WS G B E S)) (QI G B E S rr) 0 0 (AA G) := by
  refine Met.ofW (cc := cX6_areMarks) (maxL := 1) (ret := (some .boolean)) (by decide) rfl ?_
  intro p e s m args below meth c s₁ B0 hml hv
  obtain ⟨rfl, hW, hF⟩ := hv
  have hx := B0.exec
  have hb := B0.bytes
  have hr := B0.returns
  have hts := atoms_spec (ws := wsX6_areMarks) B0.pre
  have hown : s.vm.findClass RX6 = some m.cls := findClass_of_methodNamed B0.named
  have hlocks := B0.notSynchronized
  have hK := hF.1
  have hfix : CallFix p m c cX6_areMarks 1 s [.int a1].toArray wsX6_areMarks RX6 := ⟨hx, hb, hml, hown, hts⟩
  have hS : va_S (AA G) s.heap s.heap [] := va_S.rf
  have hl := lv_entry [.int a1] (n := 1) (Nat.le_of_ble_eq_true rfl)
  rw [lg_entry_eq]
  generalize (lg_sl [.int a1] ++ List.replicate (1 - (lg_sl [.int a1]).length) Slot.unset).toArray = ls at hl ⊢
  have hl : lv_has ls 1 [(0, .int a1)] := hl
  unfold f_X6_areMarks at hf
  refine lv_iload_n hx hb dX6_areMarks_0 rfl (lv_at hl 0 rfl) ?_
  refine lv_if_lt (tgt := 29) hx hb dX6_areMarks_1 (by decide) (fun h => ?_) (fun h => ?_)
  · have hf := if_t h hf
    refine lv_iconst (v := 0) hx hb dX6_areMarks_29 rfl ?_
    exact zr_i hf hx hb hr rfl hF hW hS dX6_areMarks_30 hlocks
  · have hf := if_f h hf
    refine lv_iload_n hx hb dX6_areMarks_4 rfl (lv_at hl 0 rfl) ?_
    refine lv_bipush (v := 100) hx hb dX6_areMarks_5 (by decide) ?_
    refine lv_idiv hx hb dX6_areMarks_7 (by decide) ?_
    refine lv_iconst (v := 5) hx hb dX6_areMarks_8 rfl ?_
    refine lv_icmp_gt (tgt := 29) hx hb dX6_areMarks_9 (by decide) (fun h => ?_) (fun h => ?_)
    · have hf := if_t h hf
      refine lv_iconst (v := 0) hx hb dX6_areMarks_29 rfl ?_
      exact zr_i hf hx hb hr rfl hF hW hS dX6_areMarks_30 hlocks
    · have hf := if_f h hf
      refine lv_iload_n hx hb dX6_areMarks_12 rfl (lv_at hl 0 rfl) ?_
      refine lv_bipush (v := 100) hx hb dX6_areMarks_13 (by decide) ?_
      refine x_irem hx hb dX6_areMarks_15 (by decide) ?_
      refine lv_iconst (v := 1) hx hb dX6_areMarks_16 rfl ?_
      refine lv_iload_n hx hb dX6_areMarks_17 rfl (lv_at hl 0 rfl) ?_
      refine lv_bipush (v := 100) hx hb dX6_areMarks_18 (by decide) ?_
      refine lv_idiv hx hb dX6_areMarks_20 (by decide) ?_
      refine lv_ishl hx hb dX6_areMarks_21 ?_
      refine lv_icmp_ge (tgt := 29) hx hb dX6_areMarks_22 (by decide) (fun h => ?_) (fun h => ?_)
      · have hf := if_t h hf
        refine lv_iconst (v := 0) hx hb dX6_areMarks_29 rfl ?_
        exact zr_i hf hx hb hr rfl hF hW hS dX6_areMarks_30 hlocks
      · have hf := if_f h hf
        refine lv_iconst (v := 1) hx hb dX6_areMarks_25 rfl ?_
        refine lv_goto (tgt := 30) hx hb dX6_areMarks_26 (by decide) ?_
        exact zr_i hf hx hb hr rfl hF hW hS dX6_areMarks_30 hlocks
set_option maxHeartbeats 4000000 in
set_option maxRecDepth 100000 in
theorem m_X6_start (l : Launch) (G : GE) (B : Nat → Nat → Nat) (E : EN)  (S : ST) (a1 : Nat) (h_a1 : a1 < cnt E 20) (a2 : Int32) (a3 : Int32) (a4 : Int32) (SS : ST) (hf : f_X6_start E S a1 a2 a3 a4 = some SS) : Met l yX6_start wsX6_start (rmN 3) (va_Pc [.ref (B 2 0), .ref (B 20 a1), .int a2, .int a3, .int a4] (WS G B E S)) (QV G B E SS) 0 0 (AA G) := by
  refine Met.ofW (cc := cX6_start) (maxL := 5) (ret := none) (by decide) rfl ?_
  intro p e s m args below meth c s₁ B0 hml hv
  obtain ⟨rfl, hW, hF⟩ := hv
  have hx := B0.exec
  have hb := B0.bytes
  have hr := B0.returns
  have hts := atoms_spec (ws := wsX6_start) B0.pre
  have hown : s.vm.findClass RX6 = some m.cls := findClass_of_methodNamed B0.named
  have hlocks := B0.notSynchronized
  have hK := hF.1
  have hfix : CallFix p m c cX6_start 5 s [.ref (B 2 0), .ref (B 20 a1), .int a2, .int a3, .int a4].toArray wsX6_start RX6 := ⟨hx, hb, hml, hown, hts⟩
  have hS : va_S (AA G) s.heap s.heap [] := va_S.rf
  have hl := lv_entry [.ref (B 2 0), .ref (B 20 a1), .int a2, .int a3, .int a4] (n := 5) (Nat.le_of_ble_eq_true rfl)
  rw [lg_entry_eq]
  generalize (lg_sl [.ref (B 2 0), .ref (B 20 a1), .int a2, .int a3, .int a4] ++ List.replicate (5 - (lg_sl [.ref (B 2 0), .ref (B 20 a1), .int a2, .int a3, .int a4]).length) Slot.unset).toArray = ls at hl ⊢
  have hl : lv_has ls 5 [(0, .ref (B 2 0)), (1, .ref (B 20 a1)), (2, .int a2), (3, .int a3), (4, .int a4)] := hl
  have q0 := hts (.fieldLink RX6 56 "MovesUp" "chances" "LMovesUp$Chances;") (List.mem_of_getElem? (i := 1) rfl)
  have q1 := hts (.fieldLink RX6 21 "MovesUp" "rules" "[LMovesUp$Text;") (List.mem_of_getElem? (i := 2) rfl)
  have q2 := hts (.fieldLink RX6 28 "MovesUp" "ruling" "I") (List.mem_of_getElem? (i := 3) rfl)
  have q3 := hts (.initialized RX0) (List.mem_of_getElem? (i := 6) rfl)
  have q4 := hts (.instanceMethod yX0_rely) (List.mem_of_getElem? (i := 5) rfl)
  have q5 := hts (.selects RX0 yX0_rely yX0_rely) (List.mem_of_getElem? (i := 7) rfl)
  have q6 := hts (.fieldLink RX6 65 "MovesUp" "course" "LMovesUp$Course;") (List.mem_of_getElem? (i := 4) rfl)
  have q7 := hts (.initialized RX1) (List.mem_of_getElem? (i := 18) rfl)
  have q8 := hts (.instanceMethod yX1_begin) (List.mem_of_getElem? (i := 17) rfl)
  have q9 := hts (.selects RX1 yX1_begin yX1_begin) (List.mem_of_getElem? (i := 19) rfl)
  have hi6 : ∀ w ∈ u_ws RX6 TX6 15, w ∈ wsX6_start := in_seg 27 rfl
  have hi2 : ∀ w ∈ u_ws RX2 TX2 7, w ∈ wsX6_start := in_seg 42 rfl
  unfold f_X6_start at hf
  refine lv_aload_n hx hb dX6_start_0 rfl (lv_at hl 0 rfl) ?_
  refine x_get hx hb hts hi6 hown hK hW (c2 E) (e2 _ _ _ _ _ _) rfl 9 (Nat.le_of_ble_eq_true rfl) q0 (fun _ h => h) (v := .ref (B 10 0)) rfl dX6_start_1 ?_
  refine lv_aload_n hx hb dX6_start_4 rfl (lv_at hl 0 rfl) ?_
  refine x_get hx hb hts hi6 hown hK hW (c2 E) (e2 _ _ _ _ _ _) rfl 2 (Nat.le_of_ble_eq_true rfl) q1 (fun _ h => h) (v := .ref (B 4 0)) rfl dX6_start_5 ?_
  refine lv_aload_n hx hb dX6_start_8 rfl (lv_at hl 0 rfl) ?_
  refine x_get hx hb hts hi6 hown hK hW (c2 E) (e2 _ _ _ _ _ _) rfl 4 (Nat.le_of_ble_eq_true rfl) q2 (fun _ h => h) (v := .int (gI S 2 0 4)) rfl dX6_start_9 ?_
  obtain ⟨hi_1, hf⟩ := ck_out hf
  have hi_1 := ib_in hi_1
  refine x_aaldN hx hb hK hW (c4 E) (t := 5) rfl rfl (e4 _ _ _ _ _ _) hi_1 (jn := (gI S 2 0 4).toNatClampNeg) rfl dX6_start_12 ?_
  obtain ⟨o2, e_o2, hf⟩ := lt_out hf
  refine x_nmN e_o2 ?_
  rcases o2 with _ | k3
  · have hf := nl_n hf
    refine lv_aload_n hx hb dX6_start_13 rfl (lv_at hl 0 rfl) ?_
    refine x_get hx hb hts hi6 hown hK hW (c2 E) (e2 _ _ _ _ _ _) rfl 4 (Nat.le_of_ble_eq_true rfl) q2 (fun _ h => h) (v := .int (gI S 2 0 4)) rfl dX6_start_14 ?_
    refine lv_aload_n hx hb dX6_start_17 rfl (lv_at hl 1 rfl) ?_
    refine x_getN hx hb hts hi2 hown hK hW (h_a1) (e20 _ _ _ _ _ _) rfl 1 (Nat.le_of_ble_eq_true rfl) (NW.f hF.2.1 6 (q := ("MovesUp", 125, "MovesUp$Pupil", "sort", "I", "MovesUp")) rfl) (fun _ h => h) (v := .int (gI S 20 a1 1)) rfl dX6_start_18 ?_
    exact absurd hf (by intro h; cases h)
  · have hf := nl_s hf
    obtain ⟨hk4, hf⟩ := ck_out hf
    have hk4 := of_decide_eq_true hk4
    refine lv_aload_n hx hb dX6_start_13 rfl (lv_at hl 0 rfl) ?_
    refine x_get hx hb hts hi6 hown hK hW (c2 E) (e2 _ _ _ _ _ _) rfl 4 (Nat.le_of_ble_eq_true rfl) q2 (fun _ h => h) (v := .int (gI S 2 0 4)) rfl dX6_start_14 ?_
    refine lv_aload_n hx hb dX6_start_17 rfl (lv_at hl 1 rfl) ?_
    refine x_getN hx hb hts hi2 hown hK hW (h_a1) (e20 _ _ _ _ _ _) rfl 1 (Nat.le_of_ble_eq_true rfl) (NW.f hF.2.1 6 (q := ("MovesUp", 125, "MovesUp$Pupil", "sort", "I", "MovesUp")) rfl) (fun _ h => h) (v := .int (gI S 20 a1 1)) rfl dX6_start_18 ?_
    obtain ⟨S5, hc, hf⟩ := bd_out hf
    refine y_v (va_runVN (As := [.ref (B 30 k3), .int (gI S 2 0 4), .int (gI S 20 a1 1)]) (rest := []) hfix (m_X0_rely l G B E S k3 (c30 hk4) (gI S 2 0 4) (gI S 20 a1 1) S5 hc) ⟨va_cnB 3 hts gX6_start_X0_rely_n131 rfl rfl rfl (NW.m hF.2.1 9 (q := ("MovesUp", 131, "MovesUp$Chances", "rely", "(LMovesUp$Text;II)V", "MovesUp")) rfl) q3 hd_X0_rely ⟨Nat.le_of_ble_eq_true rfl, Nat.le_of_ble_eq_true rfl⟩, q4, q5⟩ (y_pv hF hW hS (c10 E) (e10 _ _ _ _ _ _) rfl) rfl rfl hl.1 rfl (lv_room (Nat.le_of_ble_eq_true rfl)) dX6_start_21 ⟨Nat.le_of_ble_eq_true rfl, Nat.le_of_ble_eq_true rfl⟩) hS (fun H locs hW hS => ?_)
    refine lv_aload_n hx hb dX6_start_24 rfl (lv_at hl 0 rfl) ?_
    refine x_get hx hb hts hi6 hown hK hW (c2 E) (e2 _ _ _ _ _ _) rfl 10 (Nat.le_of_ble_eq_true rfl) q6 (fun _ h => h) (v := .ref (B 16 0)) rfl dX6_start_25 ?_
    refine lv_aload_n hx hb dX6_start_28 rfl (lv_at hl 1 rfl) ?_
    refine x_getN hx hb hts hi2 hown hK hW (h_a1) (e20 _ _ _ _ _ _) rfl 4 (Nat.le_of_ble_eq_true rfl) (NW.f hF.2.1 9 (q := ("MovesUp", 115, "MovesUp$Pupil", "weights", "[I", "MovesUp")) rfl) (fun _ h => h) (v := .ref (B 21 a1)) rfl dX6_start_29 ?_
    refine lv_iload hx hb dX6_start_32 (lv_at hl 4 rfl) ?_
    refine lv_iload_n hx hb dX6_start_34 rfl (lv_at hl 2 rfl) ?_
    refine lv_iload_n hx hb dX6_start_35 rfl (lv_at hl 3 rfl) ?_
    obtain ⟨S6, hc, hf⟩ := bd_out hf
    refine y_v (va_runVN (As := [.ref (B 21 a1), .int a4, .int a2, .int a3]) (rest := []) hfix (m_X1_begin l G B E S5 a1 (cv20_21 (h_a1)) a4 a2 a3 S6 hc) ⟨va_cnB 4 hts gX6_start_X1_begin_n278 rfl rfl rfl (NW.m hF.2.1 11 (q := ("MovesUp", 278, "MovesUp$Course", "begin", "([IIII)V", "MovesUp")) rfl) q7 hd_X1_begin ⟨Nat.le_of_ble_eq_true rfl, Nat.le_of_ble_eq_true rfl⟩, q8, q9⟩ (y_pv hF hW hS (c16 E) (e16 _ _ _ _ _ _) rfl) rfl rfl hl.1 rfl (lv_room (Nat.le_of_ble_eq_true rfl)) dX6_start_36 ⟨Nat.le_of_ble_eq_true rfl, Nat.le_of_ble_eq_true rfl⟩) hS (fun H locs hW hS => ?_)
    exact z_v hf hx hb hr hF hW hS dX6_start_39 hlocks
set_option maxHeartbeats 4000000 in
set_option maxRecDepth 100000 in
theorem m_X6_follow (l : Launch) (G : GE) (B : Nat → Nat → Nat) (E : EN)  (S : ST) (a1 : Nat) (h_a1 : a1 < cnt E 20) (a2 : Int32) (SS : ST) (hf : f_X6_follow E S a1 a2 = some SS) : Met l yX6_follow wsX6_follow (rmN 6) (va_Pc [.ref (B 2 0), .ref (B 20 a1), .int a2] (WS G B E S)) (QV G B E SS) 0 0 (AA G) := by
  refine Met.ofW (cc := cX6_follow) (maxL := 3) (ret := none) (by decide) rfl ?_
  intro p e s m args below meth c s₁ B0 hml hv
  obtain ⟨rfl, hW, hF⟩ := hv
  have hx := B0.exec
  have hb := B0.bytes
  have hr := B0.returns
  have hts := atoms_spec (ws := wsX6_follow) B0.pre
  have hown : s.vm.findClass RX6 = some m.cls := findClass_of_methodNamed B0.named
  have hlocks := B0.notSynchronized
  have hK := hF.1
  have hfix : CallFix p m c cX6_follow 3 s [.ref (B 2 0), .ref (B 20 a1), .int a2].toArray wsX6_follow RX6 := ⟨hx, hb, hml, hown, hts⟩
  have hS : va_S (AA G) s.heap s.heap [] := va_S.rf
  have hl := lv_entry [.ref (B 2 0), .ref (B 20 a1), .int a2] (n := 3) (Nat.le_of_ble_eq_true rfl)
  rw [lg_entry_eq]
  generalize (lg_sl [.ref (B 2 0), .ref (B 20 a1), .int a2] ++ List.replicate (3 - (lg_sl [.ref (B 2 0), .ref (B 20 a1), .int a2]).length) Slot.unset).toArray = ls at hl ⊢
  have hl : lv_has ls 3 [(0, .ref (B 2 0)), (1, .ref (B 20 a1)), (2, .int a2)] := hl
  have q0 := hts (.fieldLink RX6 65 "MovesUp" "course" "LMovesUp$Course;") (List.mem_of_getElem? (i := 1) rfl)
  have q1 := hts (.initialized RX1) (List.mem_of_getElem? (i := 23) rfl)
  have q2 := hts (.instanceMethod yX1_follow) (List.mem_of_getElem? (i := 32) rfl)
  have q3 := hts (.selects RX1 yX1_follow yX1_follow) (List.mem_of_getElem? (i := 33) rfl)
  have hi2 : ∀ w ∈ u_ws RX2 TX2 7, w ∈ wsX6_follow := in_seg 98 rfl
  have hi6 : ∀ w ∈ u_ws RX6 TX6 15, w ∈ wsX6_follow := in_seg 105 rfl
  unfold f_X6_follow at hf
  refine lv_aload_n hx hb dX6_follow_0 rfl (lv_at hl 0 rfl) ?_
  refine lv_aload_n hx hb dX6_follow_1 rfl (lv_at hl 1 rfl) ?_
  refine lv_aload_n hx hb dX6_follow_2 rfl (lv_at hl 1 rfl) ?_
  refine x_getN hx hb hts hi2 hown hK hW (h_a1) (e20 _ _ _ _ _ _) rfl 0 (Nat.le_of_ble_eq_true rfl) (NW.f hF.2.1 5 (q := ("MovesUp", 119, "MovesUp$Pupil", "kind", "I", "MovesUp")) rfl) (fun _ h => h) (v := .int (gI S 20 a1 0)) rfl dX6_follow_3 ?_
  refine lv_aload_n hx hb dX6_follow_6 rfl (lv_at hl 1 rfl) ?_
  refine x_getN hx hb hts hi2 hown hK hW (h_a1) (e20 _ _ _ _ _ _) rfl 2 (Nat.le_of_ble_eq_true rfl) (NW.f hF.2.1 7 (q := ("MovesUp", 128, "MovesUp$Pupil", "number", "I", "MovesUp")) rfl) (fun _ h => h) (v := .int (gI S 20 a1 2)) rfl dX6_follow_7 ?_
  refine lv_aload_n hx hb dX6_follow_10 rfl (lv_at hl 1 rfl) ?_
  refine x_getN hx hb hts hi2 hown hK hW (h_a1) (e20 _ _ _ _ _ _) rfl 3 (Nat.le_of_ble_eq_true rfl) (NW.f hF.2.1 8 (q := ("MovesUp", 122, "MovesUp$Pupil", "itsClass", "I", "MovesUp")) rfl) (fun _ h => h) (v := .int (gI S 20 a1 3)) rfl dX6_follow_11 ?_
  obtain ⟨S1, hc, hf⟩ := bd_out hf
  refine y_v (va_runV (As := [.ref (B 20 a1), .int (gI S 20 a1 0), .int (gI S 20 a1 2), .int (gI S 20 a1 3)]) (rest := []) hfix (m_X6_start l G B E S a1 (h_a1) (gI S 20 a1 0) (gI S 20 a1 2) (gI S 20 a1 3) S1 hc) (cwV 4 hts gX6_follow_X6_start rfl rfl rfl ⟨rfl, hd_X6_start⟩ ⟨Nat.le_of_ble_eq_true rfl, Nat.le_of_ble_eq_true rfl⟩) (y_pv hF hW hS (c2 E) (e2 _ _ _ _ _ _) rfl) rfl rfl hl.1 rfl (lv_room (Nat.le_of_ble_eq_true rfl)) dX6_follow_14 ⟨Nat.le_of_ble_eq_true rfl, Nat.le_of_ble_eq_true rfl⟩) hS (fun H locs hW hS => ?_)
  refine lv_aload_n hx hb dX6_follow_17 rfl (lv_at hl 0 rfl) ?_
  refine x_get hx hb hts hi6 hown hK hW (c2 E) (e2 _ _ _ _ _ _) rfl 10 (Nat.le_of_ble_eq_true rfl) q0 (fun _ h => h) (v := .ref (B 16 0)) rfl dX6_follow_18 ?_
  refine lv_iload_n hx hb dX6_follow_21 rfl (lv_at hl 2 rfl) ?_
  refine lv_bipush (v := 100) hx hb dX6_follow_22 (by decide) ?_
  refine lv_idiv hx hb dX6_follow_24 (by decide) ?_
  refine lv_iload_n hx hb dX6_follow_25 rfl (lv_at hl 2 rfl) ?_
  refine lv_bipush (v := 100) hx hb dX6_follow_26 (by decide) ?_
  refine x_irem hx hb dX6_follow_28 (by decide) ?_
  obtain ⟨S2, hc, hf⟩ := bd_out hf
  refine y_v (va_runVN (As := [.int (a2 / (100 : Int32)), .int (rmI a2 (100 : Int32))]) (rest := []) hfix (m_X1_follow l G B E S1 (a2 / (100 : Int32)) (rmI a2 (100 : Int32)) S2 hc) ⟨va_cnB 2 hts gX6_follow_X1_follow_n282 rfl rfl rfl (NW.m hF.2.1 12 (q := ("MovesUp", 282, "MovesUp$Course", "follow", "(II)V", "MovesUp")) rfl) q1 hd_X1_follow ⟨Nat.le_of_ble_eq_true rfl, Nat.le_of_ble_eq_true rfl⟩, q2, q3⟩ (y_pv hF hW hS (c16 E) (e16 _ _ _ _ _ _) rfl) rfl rfl hl.1 rfl (lv_room (Nat.le_of_ble_eq_true rfl)) dX6_follow_29 ⟨Nat.le_of_ble_eq_true rfl, Nat.le_of_ble_eq_true rfl⟩) hS (fun H locs hW hS => ?_)
  exact z_v hf hx hb hr hF hW hS dX6_follow_32 hlocks
set_option maxHeartbeats 4000000 in
set_option maxRecDepth 100000 in
theorem m_X6_isPart (l : Launch) (G : GE) (B : Nat → Nat → Nat) (E : EN)  (S : ST) (a1 : Int32) (rr : Int32) (hf : f_X6_isPart E S a1 = some rr) : Met l yX6_isPart wsX6_isPart (rmN 1) (va_Pc [.int a1] (WS G B E S)) (QI G B E S rr) 0 0 (AA G) := by
  refine Met.ofW (cc := cX6_isPart) (maxL := 1) (ret := (some .boolean)) (by decide) rfl ?_
  intro p e s m args below meth c s₁ B0 hml hv
  obtain ⟨rfl, hW, hF⟩ := hv
  have hx := B0.exec
  have hb := B0.bytes
  have hr := B0.returns
  have hts := atoms_spec (ws := wsX6_isPart) B0.pre
  have hown : s.vm.findClass RX6 = some m.cls := findClass_of_methodNamed B0.named
  have hlocks := B0.notSynchronized
  have hK := hF.1
  have hfix : CallFix p m c cX6_isPart 1 s [.int a1].toArray wsX6_isPart RX6 := ⟨hx, hb, hml, hown, hts⟩
  have hS : va_S (AA G) s.heap s.heap [] := va_S.rf
  have hl := lv_entry [.int a1] (n := 1) (Nat.le_of_ble_eq_true rfl)
  rw [lg_entry_eq]
  generalize (lg_sl [.int a1] ++ List.replicate (1 - (lg_sl [.int a1]).length) Slot.unset).toArray = ls at hl ⊢
  have hl : lv_has ls 1 [(0, .int a1)] := hl
  have w9 : ∀ (_ : Unit)  , f_X6_isPart_b9 E S  = some rr → ∀ (H : Heap) (locs : List Loc) (ls : Array Slot), WH G B E S H → va_S (AA G) s.heap H locs → lv_has ls 1 [] → W p l e (headSpec wsX6_isPart (rmN 1)).room s m [.int a1].toArray below meth c H locs 0 0 (MQ below (QI G B E S rr) [.int a1].toArray s 0 0 (AA G)) (F0 m 9 ls []) := by
    intro _  hf H locs ls hW hS hl
    unfold f_X6_isPart_b9 at hf
    refine lv_iconst (v := 1) hx hb dX6_isPart_9 rfl ?_
    refine lv_goto (tgt := 14) hx hb dX6_isPart_10 (by decide) ?_
    exact zr_i hf hx hb hr rfl hF hW hS dX6_isPart_14 hlocks
  unfold f_X6_isPart at hf
  refine lv_iload_n hx hb dX6_isPart_0 rfl (lv_at hl 0 rfl) ?_
  refine lv_if_eq (tgt := 9) hx hb dX6_isPart_1 (by decide) (fun h => ?_) (fun h => ?_)
  · have hf := if_t h hf
    exact w9 ()  hf _ _ _ hW hS (lv_sub hl [] rfl)
  · have hf := if_f h hf
    refine lv_iload_n hx hb dX6_isPart_4 rfl (lv_at hl 0 rfl) ?_
    refine lv_iconst (v := 1) hx hb dX6_isPart_5 rfl ?_
    refine lv_icmp_ne (tgt := 13) hx hb dX6_isPart_6 (by decide) (fun h => ?_) (fun h => ?_)
    · have hf := if_f h hf
      refine lv_iconst (v := 0) hx hb dX6_isPart_13 rfl ?_
      exact zr_i hf hx hb hr rfl hF hW hS dX6_isPart_14 hlocks
    · have hf := if_t h hf
      exact w9 ()  hf _ _ _ hW hS (lv_sub hl [] rfl)
set_option maxHeartbeats 4000000 in
set_option maxRecDepth 100000 in
theorem m_X6_lowest (l : Launch) (G : GE) (B : Nat → Nat → Nat) (E : EN)  (S : ST) (a1 : Int64) (a2 : Int64) (a3 : Int32) (rr : Int64) (hf : f_X6_lowest E S a1 a2 a3 = some rr) : Met l yX6_lowest wsX6_lowest (rmN 2) (va_Pc [.long a1, .long a2, .int a3] (WS G B E S)) (QL G B E S rr) 0 0 (AA G) := by
  refine Met.ofW (cc := cX6_lowest) (maxL := 7) (ret := (some .long)) (by decide) rfl ?_
  intro p e s m args below meth c s₁ B0 hml hv
  obtain ⟨rfl, hW, hF⟩ := hv
  have hx := B0.exec
  have hb := B0.bytes
  have hr := B0.returns
  have hts := atoms_spec (ws := wsX6_lowest) B0.pre
  have hown : s.vm.findClass RX6 = some m.cls := findClass_of_methodNamed B0.named
  have hlocks := B0.notSynchronized
  have hK := hF.1
  have hfix : CallFix p m c cX6_lowest 7 s [.long a1, .long a2, .int a3].toArray wsX6_lowest RX6 := ⟨hx, hb, hml, hown, hts⟩
  have hS : va_S (AA G) s.heap s.heap [] := va_S.rf
  have hl := lv_entry [.long a1, .long a2, .int a3] (n := 7) (Nat.le_of_ble_eq_true rfl)
  rw [lg_entry_eq]
  generalize (lg_sl [.long a1, .long a2, .int a3] ++ List.replicate (7 - (lg_sl [.long a1, .long a2, .int a3]).length) Slot.unset).toArray = ls at hl ⊢
  have hl : lv_has ls 7 [(0, .long a1), (2, .long a2), (4, .int a3)] := hl
  have q0 := hts (.methodLink RX6 291 Lib.MathLoose.abs_long.x) (List.mem_of_getElem? (i := 1) rfl)
  have q1 := hts (.static Lib.MathLoose.abs_long.x) (List.mem_of_getElem? (i := 2) rfl)
  have q2 := hts (.initialized "java/lang/Math") (List.mem_of_getElem? (i := 3) rfl)
  have q3 := hts (.code Lib.MathLoose.abs_long.x Lib.MathLoose.abs_long.code 2 (some .long)) (List.mem_of_getElem? (i := 4) rfl)
  have w12 : ∀ (_ : Unit) (v4 : Int32) , f_X6_lowest_b12 E S v4 = some rr → ∀ (H : Heap) (locs : List Loc) (ls : Array Slot), WH G B E S H → va_S (AA G) s.heap H locs → lv_has ls 7 [(4, .int v4)] → W p l e (headSpec wsX6_lowest (rmN 2)).room s m [.long a1, .long a2, .int a3].toArray below meth c H locs 0 0 (MQ below (QL G B E S rr) [.long a1, .long a2, .int a3].toArray s 0 0 (AA G)) (F0 m 12 ls []) := by
    intro _ v4 hf H locs ls hW hS hl
    unfold f_X6_lowest_b12 at hf
    refine lv_iload hx hb dX6_lowest_12 (lv_at hl 0 rfl) ?_
    refine lv_if_ne (tgt := 21) hx hb dX6_lowest_14 (by decide) (fun h => ?_) (fun h => ?_)
    · have hf := if_f h hf
      refine lv_lconst (v := 1) hx hb dX6_lowest_21 rfl ?_
      exact zr_l hf hx hb hr hF hW hS dX6_lowest_22 hlocks
    · have hf := if_t h hf
      refine lv_lconst (v := 0) hx hb dX6_lowest_17 rfl ?_
      refine lv_goto (tgt := 22) hx hb dX6_lowest_18 (by decide) ?_
      exact zr_l hf hx hb hr hF hW hS dX6_lowest_22 hlocks
  have w54 : ∀ (_ : Unit) (v5 : Int64) (t0 : Int64) , f_X6_lowest_b54 E S v5 t0 = some rr → ∀ (H : Heap) (locs : List Loc) (ls : Array Slot), WH G B E S H → va_S (AA G) s.heap H locs → lv_has ls 7 [(5, .long v5)] → W p l e (headSpec wsX6_lowest (rmN 2)).room s m [.long a1, .long a2, .int a3].toArray below meth c H locs 0 0 (MQ below (QL G B E S rr) [.long a1, .long a2, .int a3].toArray s 0 0 (AA G)) (F0 m 54 ls [.long t0]) := by
    intro _ v5 t0 hf H locs ls hW hS hl
    unfold f_X6_lowest_b54 at hf
    refine lv_lload hx hb dX6_lowest_54 (lv_at hl 0 rfl) ?_
    obtain ⟨hz1, hf⟩ := ck_out hf
    have hz1 := nz_ hz1
    refine lv_ldiv hx hb dX6_lowest_56 hz1 ?_
    exact zr_l hf hx hb hr hF hW hS dX6_lowest_57 hlocks
  unfold f_X6_lowest at hf
  refine lv_lload_n hx hb dX6_lowest_0 rfl (lv_at hl 0 rfl) ?_
  refine lv_lconst (v := 0) hx hb dX6_lowest_1 rfl ?_
  refine W.lcmp hx hb dX6_lowest_2 ?_
  refine lv_if_eq (tgt := 12) hx hb dX6_lowest_3 (by decide) (fun h => ?_) (fun h => ?_)
  · have h := (lg_cmp_eq _ _).mp h
    have hf := if_t h hf
    exact w12 () a3  hf _ _ _ hW hS (lv_sub hl [2] rfl)
  · have h := fun q => h ((lg_cmp_eq _ _).mpr q)
    have hf := if_f h hf
    refine lv_lload_n hx hb dX6_lowest_6 rfl (lv_at hl 1 rfl) ?_
    refine lv_lconst (v := 0) hx hb dX6_lowest_7 rfl ?_
    refine W.lcmp hx hb dX6_lowest_8 ?_
    refine lv_if_ne (tgt := 23) hx hb dX6_lowest_9 (by decide) (fun h => ?_) (fun h => ?_)
    · have h := fun q => h ((lg_cmp_eq _ _).mpr q)
      have hf := if_f h hf
      refine lv_lload_n hx hb dX6_lowest_23 rfl (lv_at hl 0 rfl) ?_
      refine va_mabs_long hx hb (hml.trans hl.1.symm) hown q0 q1 q2 q3 (Nat.le_of_ble_eq_true rfl) (Nat.le_of_ble_eq_true rfl) (Nat.le_of_ble_eq_true rfl) (Nat.le_of_ble_eq_true rfl) dX6_lowest_24 ?_
      refine lv_lload_n hx hb dX6_lowest_27 rfl (lv_at hl 1 rfl) ?_
      obtain ⟨r2, hc, hf⟩ := bd_out hf
      refine y_l (va_runS (As := [.long (abL a1), .long a2]) (rest := []) hfix (m_X6_common l G B E S (abL a1) a2 r2 hc) (va_cwS 2 hts gX6_lowest_X6_common rfl rfl rfl hd_X6_common ⟨Nat.le_of_ble_eq_true rfl, Nat.le_of_ble_eq_true rfl⟩) (y_ps hF hW hS) rfl rfl hl.1 rfl (lv_room (Nat.le_of_ble_eq_true rfl)) dX6_lowest_28 ⟨Nat.le_of_ble_eq_true rfl, Nat.le_of_ble_eq_true rfl⟩) hS (fun H locs hW hS => ?_)
      refine lv_lstore (lv' := [(5, .long r2), (0, .long a1), (2, .long a2), (4, .int a3)]) hx hb dX6_lowest_31 hl (by decide) rfl (fun ls hl => ?_)
      refine lv_lload hx hb dX6_lowest_33 (lv_at hl 0 rfl) ?_
      refine lv_lconst (v := 0) hx hb dX6_lowest_35 rfl ?_
      refine W.lcmp hx hb dX6_lowest_36 ?_
      refine lv_if_ne (tgt := 44) hx hb dX6_lowest_37 (by decide) (fun h => ?_) (fun h => ?_)
      · have h := fun q => h ((lg_cmp_eq _ _).mpr q)
        have hf := if_f h hf
        refine lv_iload hx hb dX6_lowest_44 (lv_at hl 3 rfl) ?_
        refine lv_if_ne (tgt := 53) hx hb dX6_lowest_46 (by decide) (fun h => ?_) (fun h => ?_)
        · have hf := if_f h hf
          refine lv_lload_n hx hb dX6_lowest_53 rfl (lv_at hl 2 rfl) ?_
          exact w54 () r2 a2  hf _ _ _ hW hS (lv_sub hl [0] rfl)
        · have hf := if_t h hf
          refine lv_lload_n hx hb dX6_lowest_49 rfl (lv_at hl 1 rfl) ?_
          refine lv_goto (tgt := 54) hx hb dX6_lowest_50 (by decide) ?_
          exact w54 () r2 a1  hf _ _ _ hW hS (lv_sub hl [0] rfl)
      · have h := (lg_cmp_eq _ _).mp h
        have hf := if_t h hf
        refine lv_lconst (v := 0) hx hb dX6_lowest_40 rfl ?_
        refine lv_goto (tgt := 57) hx hb dX6_lowest_41 (by decide) ?_
        exact zr_l hf hx hb hr hF hW hS dX6_lowest_57 hlocks
    · have h := (lg_cmp_eq _ _).mp h
      have hf := if_t h hf
      exact w12 () a3  hf _ _ _ hW hS (lv_sub hl [2] rfl)
set_option maxHeartbeats 4000000 in
set_option maxRecDepth 100000 in
theorem m_X6_thought (l : Launch) (G : GE) (B : Nat → Nat → Nat) (E : EN)  (S : ST) (a1 : Int32) (a2 : Int32) (a3 : Int32) (a4 : Int32) (rr : Int64) (SS : ST) (hf : f_X6_thought E S a1 a2 a3 a4 = some (rr, SS)) : Met l yX6_thought wsX6_thought (rmN 7) (va_Pc [.ref (B 2 0), .int a1, .int a2, .int a3, .int a4] (WS G B E S)) (QL G B E SS rr) 0 0 (AA G) := by
  refine Met.ofW (cc := cX6_thought) (maxL := 7) (ret := (some .long)) (by decide) rfl ?_
  intro p e s m args below meth c s₁ B0 hml hv
  obtain ⟨rfl, hW, hF⟩ := hv
  have hx := B0.exec
  have hb := B0.bytes
  have hr := B0.returns
  have hts := atoms_spec (ws := wsX6_thought) B0.pre
  have hown : s.vm.findClass RX6 = some m.cls := findClass_of_methodNamed B0.named
  have hlocks := B0.notSynchronized
  have hK := hF.1
  have hfix : CallFix p m c cX6_thought 7 s [.ref (B 2 0), .int a1, .int a2, .int a3, .int a4].toArray wsX6_thought RX6 := ⟨hx, hb, hml, hown, hts⟩
  have hS : va_S (AA G) s.heap s.heap [] := va_S.rf
  have hl := lv_entry [.ref (B 2 0), .int a1, .int a2, .int a3, .int a4] (n := 7) (Nat.le_of_ble_eq_true rfl)
  rw [lg_entry_eq]
  generalize (lg_sl [.ref (B 2 0), .int a1, .int a2, .int a3, .int a4] ++ List.replicate (7 - (lg_sl [.ref (B 2 0), .int a1, .int a2, .int a3, .int a4]).length) Slot.unset).toArray = ls at hl ⊢
  have hl : lv_has ls 7 [(0, .ref (B 2 0)), (1, .int a1), (2, .int a2), (3, .int a3), (4, .int a4)] := hl
  have q0 := hts (.constantLong RX6 146 (-4611686018427387904)) (List.mem_of_getElem? (i := 1) rfl)
  have q1 := hts (.fieldLink RX6 65 "MovesUp" "course" "LMovesUp$Course;") (List.mem_of_getElem? (i := 2) rfl)
  have q2 := hts (.initialized RX1) (List.mem_of_getElem? (i := 40) rfl)
  have q3 := hts (.instanceMethod yX1_weightsAt) (List.mem_of_getElem? (i := 115) rfl)
  have q4 := hts (.selects RX1 yX1_weightsAt yX1_weightsAt) (List.mem_of_getElem? (i := 116) rfl)
  have q5 := hts (.instanceMethod yX1_together) (List.mem_of_getElem? (i := 118) rfl)
  have q6 := hts (.selects RX1 yX1_together yX1_together) (List.mem_of_getElem? (i := 119) rfl)
  have hi6 : ∀ w ∈ u_ws RX6 TX6 15, w ∈ wsX6_thought := in_seg 130 rfl
  unfold f_X6_thought at hf
  refine lv_aload_n hx hb dX6_thought_0 rfl (lv_at hl 0 rfl) ?_
  refine lv_iload_n hx hb dX6_thought_1 rfl (lv_at hl 1 rfl) ?_
  obtain ⟨r1, hc, hf⟩ := bd_out hf
  refine y_q (va_runV (As := [.int a1]) (rest := []) hfix (m_X6_known l G B E S a1 r1 hc) (cwV 1 hts gX6_thought_X6_known rfl rfl rfl ⟨rfl, hd_X6_known⟩ ⟨Nat.le_of_ble_eq_true rfl, Nat.le_of_ble_eq_true rfl⟩) (y_pv hF hW hS (c2 E) (e2 _ _ _ _ _ _) rfl) rfl rfl hl.1 rfl (lv_room (Nat.le_of_ble_eq_true rfl)) dX6_thought_2 ⟨Nat.le_of_ble_eq_true rfl, Nat.le_of_ble_eq_true rfl⟩) hS (fun H locs hW hS => ?_)
  rcases r1 with _ | k2
  · have hf := nl_n hf
    refine lv_astoreN (lv' := [(5, .null), (0, .ref (B 2 0)), (1, .int a1), (2, .int a2), (3, .int a3), (4, .int a4)]) hx hb dX6_thought_5 hl (by decide) rfl (fun ls hl => ?_)
    refine lv_aloadN hx hb dX6_thought_7 (lv_at hl 0 rfl) ?_
    refine lv_ifnullN (tgt := 36) hx hb dX6_thought_9 (by decide) ?_
    refine lv_ldc2 hx hb hown q0 dX6_thought_36 ?_
    exact z_l hf hx hb hr hF hW hS dX6_thought_39 hlocks
  · have hf := nl_s hf
    obtain ⟨hk3, hf⟩ := ck_out hf
    have hk3 := of_decide_eq_true hk3
    refine lv_astore (lv' := [(5, .ref (B 20 k2)), (0, .ref (B 2 0)), (1, .int a1), (2, .int a2), (3, .int a3), (4, .int a4)]) hx hb dX6_thought_5 hl (by decide) rfl (fun ls hl => ?_)
    refine lv_aload hx hb dX6_thought_7 (lv_at hl 0 rfl) ?_
    refine lv_ifnull hx hb dX6_thought_9 ?_
    refine lv_iload_n hx hb dX6_thought_12 rfl (lv_at hl 3 rfl) ?_
    obtain ⟨r4, hc, hf⟩ := bd_out hf
    refine y_i (va_runS (As := [.int a2]) (rest := []) hfix (m_X6_areMarks l G B E S a2 r4 hc) (va_cwS 1 hts gX6_thought_X6_areMarks rfl rfl rfl hd_X6_areMarks ⟨Nat.le_of_ble_eq_true rfl, Nat.le_of_ble_eq_true rfl⟩) (y_ps hF hW hS) rfl rfl hl.1 rfl (lv_room (Nat.le_of_ble_eq_true rfl)) dX6_thought_13 ⟨Nat.le_of_ble_eq_true rfl, Nat.le_of_ble_eq_true rfl⟩) hS (fun H locs hW hS => ?_)
    refine lv_if_eq (tgt := 36) hx hb dX6_thought_16 (by decide) (fun h => ?_) (fun h => ?_)
    · have hf := if_t h hf
      refine lv_ldc2 hx hb hown q0 dX6_thought_36 ?_
      exact z_l hf hx hb hr hF hW hS dX6_thought_39 hlocks
    · have hf := if_f h hf
      refine lv_iload_n hx hb dX6_thought_19 rfl (lv_at hl 4 rfl) ?_
      refine lv_if_lt (tgt := 36) hx hb dX6_thought_20 (by decide) (fun h => ?_) (fun h => ?_)
      · have hf := if_t h hf
        refine lv_ldc2 hx hb hown q0 dX6_thought_36 ?_
        exact z_l hf hx hb hr hF hW hS dX6_thought_39 hlocks
      · have hf := if_f h hf
        refine lv_iload_n hx hb dX6_thought_23 rfl (lv_at hl 4 rfl) ?_
        refine lv_iconst (v := 5) hx hb dX6_thought_24 rfl ?_
        refine lv_icmp_ge (tgt := 36) hx hb dX6_thought_25 (by decide) (fun h => ?_) (fun h => ?_)
        · have hf := if_t h hf
          refine lv_ldc2 hx hb hown q0 dX6_thought_36 ?_
          exact z_l hf hx hb hr hF hW hS dX6_thought_39 hlocks
        · have hf := if_f h hf
          refine lv_iload hx hb dX6_thought_28 (lv_at hl 5 rfl) ?_
          obtain ⟨r5, hc, hf⟩ := bd_out hf
          refine y_i (va_runS (As := [.int a4]) (rest := []) hfix (m_X6_isPart l G B E S a4 r5 hc) (va_cwS 1 hts gX6_thought_X6_isPart rfl rfl rfl hd_X6_isPart ⟨Nat.le_of_ble_eq_true rfl, Nat.le_of_ble_eq_true rfl⟩) (y_ps hF hW hS) rfl rfl hl.1 rfl (lv_room (Nat.le_of_ble_eq_true rfl)) dX6_thought_30 ⟨Nat.le_of_ble_eq_true rfl, Nat.le_of_ble_eq_true rfl⟩) hS (fun H locs hW hS => ?_)
          refine lv_if_ne (tgt := 40) hx hb dX6_thought_33 (by decide) (fun h => ?_) (fun h => ?_)
          · have hf := if_f h hf
            refine lv_aload_n hx hb dX6_thought_40 rfl (lv_at hl 1 rfl) ?_
            refine lv_aload hx hb dX6_thought_41 (lv_at hl 0 rfl) ?_
            refine lv_iload_n hx hb dX6_thought_43 rfl (lv_at hl 3 rfl) ?_
            obtain ⟨S6, hc, hf⟩ := bd_out hf
            refine y_v (va_runV (As := [.ref (B 20 k2), .int a2]) (rest := []) hfix (m_X6_follow l G B E S k2 (c20 hk3) a2 S6 hc) (cwV 2 hts gX6_thought_X6_follow rfl rfl rfl ⟨rfl, hd_X6_follow⟩ ⟨Nat.le_of_ble_eq_true rfl, Nat.le_of_ble_eq_true rfl⟩) (y_pv hF hW hS (c2 E) (e2 _ _ _ _ _ _) rfl) rfl rfl hl.1 rfl (lv_room (Nat.le_of_ble_eq_true rfl)) dX6_thought_44 ⟨Nat.le_of_ble_eq_true rfl, Nat.le_of_ble_eq_true rfl⟩) hS (fun H locs hW hS => ?_)
            refine lv_iload_n hx hb dX6_thought_47 rfl (lv_at hl 3 rfl) ?_
            refine lv_bipush (v := 100) hx hb dX6_thought_48 (by decide) ?_
            refine lv_idiv hx hb dX6_thought_50 (by decide) ?_
            obtain ⟨x7, e_x7, hf⟩ := lt_out hf
            refine x_nmI e_x7 ?_
            refine lv_istore (lv' := [(6, .int x7), (5, .ref (B 20 k2)), (0, .ref (B 2 0)), (1, .int a1), (2, .int a2), (3, .int a3), (4, .int a4)]) hx hb dX6_thought_51 hl (by decide) rfl (fun ls hl => ?_)
            refine lv_aload_n hx hb dX6_thought_53 rfl (lv_at hl 2 rfl) ?_
            refine x_get hx hb hts hi6 hown hK hW (c2 E) (e2 _ _ _ _ _ _) rfl 10 (Nat.le_of_ble_eq_true rfl) q1 (fun _ h => h) (v := .ref (B 16 0)) rfl dX6_thought_54 ?_
            refine lv_iload hx hb dX6_thought_57 (lv_at hl 0 rfl) ?_
            obtain ⟨r8, hc, hf⟩ := bd_out hf
            refine y_q (va_runVN (As := [.int x7]) (rest := []) hfix (m_X1_weightsAt l G B E S6 x7 r8 hc) ⟨va_cnB 1 hts gX6_thought_X1_weightsAt_n152 rfl rfl rfl (NW.m hF.2.1 15 (q := ("MovesUp", 152, "MovesUp$Course", "weightsAt", "(I)[J", "MovesUp")) rfl) q2 hd_X1_weightsAt ⟨Nat.le_of_ble_eq_true rfl, Nat.le_of_ble_eq_true rfl⟩, q3, q4⟩ (y_pv hF hW hS (c16 E) (e16 _ _ _ _ _ _) rfl) rfl rfl hl.1 rfl (lv_room (Nat.le_of_ble_eq_true rfl)) dX6_thought_59 ⟨Nat.le_of_ble_eq_true rfl, Nat.le_of_ble_eq_true rfl⟩) hS (fun H locs hW hS => ?_)
            rcases r8 with _ | k9
            · have hf := nl_n hf
              exact absurd hf (by intro h; cases h)
            · have hf := nl_s hf
              obtain ⟨hk10, hf⟩ := ck_out hf
              have hk10 := of_decide_eq_true hk10
              refine lv_iload_n hx hb dX6_thought_62 rfl (lv_at hl 5 rfl) ?_
              obtain ⟨hi_11, hf⟩ := ck_out hf
              have hi_11 := ib_in hi_11
              refine x_lald hx hb hK hW (c28 E hk10) (e28 _ _ _ _ _ _) hi_11 (jn := a3.toNatClampNeg) rfl dX6_thought_63 ?_
              refine lv_aload_n hx hb dX6_thought_64 rfl (lv_at hl 2 rfl) ?_
              refine x_get hx hb hts hi6 hown hK hW (c2 E) (e2 _ _ _ _ _ _) rfl 10 (Nat.le_of_ble_eq_true rfl) q1 (fun _ h => h) (v := .ref (B 16 0)) rfl dX6_thought_65 ?_
              refine lv_iload hx hb dX6_thought_68 (lv_at hl 0 rfl) ?_
              obtain ⟨r12, hc, hf⟩ := bd_out hf
              refine y_l (va_runVN (As := [.int x7]) (rest := [.long (gL S6 28 k9 a3.toNatClampNeg)]) hfix (m_X1_together l G B E S6 x7 r12 hc) ⟨va_cnB 1 hts gX6_thought_X1_together_n156 rfl rfl rfl (NW.m hF.2.1 16 (q := ("MovesUp", 156, "MovesUp$Course", "together", "(I)J", "MovesUp")) rfl) q2 hd_X1_together ⟨Nat.le_of_ble_eq_true rfl, Nat.le_of_ble_eq_true rfl⟩, q5, q6⟩ (y_pv hF hW hS (c16 E) (e16 _ _ _ _ _ _) rfl) rfl rfl hl.1 rfl (lv_room (Nat.le_of_ble_eq_true rfl)) dX6_thought_70 ⟨Nat.le_of_ble_eq_true rfl, Nat.le_of_ble_eq_true rfl⟩) hS (fun H locs hW hS => ?_)
              refine lv_iload hx hb dX6_thought_73 (lv_at hl 6 rfl) ?_
              obtain ⟨r13, hc, hf⟩ := bd_out hf
              refine y_l (va_runS (As := [.long (gL S6 28 k9 a3.toNatClampNeg), .long r12, .int a4]) (rest := []) hfix (m_X6_lowest l G B E S6 (gL S6 28 k9 a3.toNatClampNeg) r12 a4 r13 hc) (va_cwS 3 hts gX6_thought_X6_lowest rfl rfl rfl hd_X6_lowest ⟨Nat.le_of_ble_eq_true rfl, Nat.le_of_ble_eq_true rfl⟩) (y_ps hF hW hS) rfl rfl hl.1 rfl (lv_room (Nat.le_of_ble_eq_true rfl)) dX6_thought_75 ⟨Nat.le_of_ble_eq_true rfl, Nat.le_of_ble_eq_true rfl⟩) hS (fun H locs hW hS => ?_)
              exact z_l hf hx hb hr hF hW hS dX6_thought_78 hlocks
          · have hf := if_t h hf
            refine lv_ldc2 hx hb hown q0 dX6_thought_36 ?_
            exact z_l hf hx hb hr hF hW hS dX6_thought_39 hlocks
