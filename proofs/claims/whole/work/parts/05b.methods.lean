set_option maxHeartbeats 4000000 in
set_option maxRecDepth 100000 in
theorem m_X1_unsure (l : Launch) (G : GE) (B : Nat → Nat → Nat) (E : EN)  (S : ST) (a1 : Int32) (rr : Int32) (hf : f_X1_unsure E S a1 = some rr) : Met l yX1_unsure wsX1_unsure (rmN 3) (va_Pc [.ref (B 16 0), .int a1] (WS G B E S)) (QI G B E S rr) 0 0 (AA G) := by
  refine Met.ofW (cc := cX1_unsure) (maxL := 4) (ret := (some .boolean)) (by decide) rfl ?_
  intro p e s m args below meth c s₁ B0 hml hv
  obtain ⟨rfl, hW, hF⟩ := hv
  have hx := B0.exec
  have hb := B0.bytes
  have hr := B0.returns
  have hts := atoms_spec (ws := wsX1_unsure) B0.pre
  have hown : s.vm.findClass RX1 = some m.cls := findClass_of_methodNamed B0.named
  have hlocks := B0.notSynchronized
  have hK := hF.1
  have hfix : CallFix p m c cX1_unsure 4 s [.ref (B 16 0), .int a1].toArray wsX1_unsure RX1 := ⟨hx, hb, hml, hown, hts⟩
  have hS : va_S (AA G) s.heap s.heap [] := va_S.rf
  have hl := lv_entry [.ref (B 16 0), .int a1] (n := 4) (Nat.le_of_ble_eq_true rfl)
  rw [lg_entry_eq]
  generalize (lg_sl [.ref (B 16 0), .int a1] ++ List.replicate (4 - (lg_sl [.ref (B 16 0), .int a1]).length) Slot.unset).toArray = ls at hl ⊢
  have hl : lv_has ls 4 [(0, .ref (B 16 0)), (1, .int a1)] := hl
  have q0 := hts (.fieldLink RX1 16 "MovesUp$Course" "classes" "[I") (List.mem_of_getElem? (i := 1) rfl)
  have q1 := hts (.constantLong RX1 100 (20)) (List.mem_of_getElem? (i := 2) rfl)
  have q2 := hts (.fieldLink RX1 27 "MovesUp$Course" "number" "I") (List.mem_of_getElem? (i := 3) rfl)
  have hi1 : ∀ w ∈ u_ws RX1 TX1 7, w ∈ wsX1_unsure := in_seg 20 rfl
  unfold f_X1_unsure at hf
  refine lv_aload_n hx hb dX1_unsure_0 rfl (lv_at hl 0 rfl) ?_
  refine lv_iconst (v := 0) hx hb dX1_unsure_1 rfl ?_
  refine lv_iload_n hx hb dX1_unsure_2 rfl (lv_at hl 1 rfl) ?_
  refine lv_iconst (v := 1) hx hb dX1_unsure_3 rfl ?_
  refine lv_iadd hx hb dX1_unsure_4 ?_
  obtain ⟨r1, hc, hf⟩ := bd_out hf
  refine y_l (va_runV (As := [.int (0 : Int32), .int (a1 + (1 : Int32))]) (rest := []) hfix (m_X1_from l G B E S (0 : Int32) (a1 + (1 : Int32)) r1 hc) (cwV 2 hts gX1_unsure_X1_from rfl rfl rfl ⟨rfl, hd_X1_from⟩ ⟨Nat.le_of_ble_eq_true rfl, Nat.le_of_ble_eq_true rfl⟩) (y_pv hF hW hS (c16 E) (e16 _ _ _ _ _ _) rfl) rfl rfl hl.1 rfl (lv_room (Nat.le_of_ble_eq_true rfl)) dX1_unsure_5 ⟨Nat.le_of_ble_eq_true rfl, Nat.le_of_ble_eq_true rfl⟩) hS (fun H locs hW hS => ?_)
  refine lv_lstore_n (lv' := [(2, .long r1), (0, .ref (B 16 0)), (1, .int a1)]) hx hb dX1_unsure_8 rfl hl (by decide) rfl (fun ls hl => ?_)
  refine lv_lload_n hx hb dX1_unsure_9 rfl (lv_at hl 0 rfl) ?_
  refine lv_lconst (v := 0) hx hb dX1_unsure_10 rfl ?_
  refine W.lcmp hx hb dX1_unsure_11 ?_
  refine lv_if_le (tgt := 50) hx hb dX1_unsure_12 (by decide) (fun h => ?_) (fun h => ?_)
  · have h := (lg_cmp_le _ _).mp h
    have hf := if_t h hf
    refine lv_iconst (v := 0) hx hb dX1_unsure_50 rfl ?_
    exact zr_i hf hx hb hr rfl hF hW hS dX1_unsure_51 hlocks
  · have h := fun q => h ((lg_cmp_le _ _).mpr q)
    have hf := if_f h hf
    refine lv_aload_n hx hb dX1_unsure_15 rfl (lv_at hl 1 rfl) ?_
    refine lv_aload_n hx hb dX1_unsure_16 rfl (lv_at hl 1 rfl) ?_
    refine x_get hx hb hts hi1 hown hK hW (c16 E) (e16 _ _ _ _ _ _) rfl 2 (Nat.le_of_ble_eq_true rfl) q0 (fun _ h => h) (v := .ref (B 18 0)) rfl dX1_unsure_17 ?_
    refine lv_iload_n hx hb dX1_unsure_20 rfl (lv_at hl 2 rfl) ?_
    obtain ⟨r2, hc, hf⟩ := bd_out hf
    refine y_i (va_runS (As := [.int a1]) (rest := [.ref (B 18 0), .ref (B 16 0)]) hfix (m_X1_bounded l G B E S a1 r2 hc) (va_cwS 1 hts gX1_unsure_X1_bounded rfl rfl rfl hd_X1_bounded ⟨Nat.le_of_ble_eq_true rfl, Nat.le_of_ble_eq_true rfl⟩) (y_ps hF hW hS) rfl rfl hl.1 rfl (lv_room (Nat.le_of_ble_eq_true rfl)) dX1_unsure_21 ⟨Nat.le_of_ble_eq_true rfl, Nat.le_of_ble_eq_true rfl⟩) hS (fun H locs hW hS => ?_)
    obtain ⟨hi_3, hf⟩ := ck_out hf
    have hi_3 := ib_in hi_3
    refine x_iald hx hb hK hW (c18 E) (e18 _ _ _ _ _ _) hi_3 (jn := r2.toNatClampNeg) rfl dX1_unsure_24 ?_
    refine lv_iload_n hx hb dX1_unsure_25 rfl (lv_at hl 2 rfl) ?_
    refine lv_iconst (v := 1) hx hb dX1_unsure_26 rfl ?_
    refine lv_iadd hx hb dX1_unsure_27 ?_
    obtain ⟨r4, hc, hf⟩ := bd_out hf
    refine y_l (va_runV (As := [.int (gI S 18 0 r2.toNatClampNeg), .int (a1 + (1 : Int32))]) (rest := []) hfix (m_X1_from l G B E S (gI S 18 0 r2.toNatClampNeg) (a1 + (1 : Int32)) r4 hc) (cwV 2 hts gX1_unsure_X1_from rfl rfl rfl ⟨rfl, hd_X1_from⟩ ⟨Nat.le_of_ble_eq_true rfl, Nat.le_of_ble_eq_true rfl⟩) (y_pv hF hW hS (c16 E) (e16 _ _ _ _ _ _) rfl) rfl rfl hl.1 rfl (lv_room (Nat.le_of_ble_eq_true rfl)) dX1_unsure_28 ⟨Nat.le_of_ble_eq_true rfl, Nat.le_of_ble_eq_true rfl⟩) hS (fun H locs hW hS => ?_)
    refine lv_ldc2 hx hb hown q1 dX1_unsure_31 ?_
    refine lv_lmul hx hb dX1_unsure_34 ?_
    refine lv_aload_n hx hb dX1_unsure_35 rfl (lv_at hl 1 rfl) ?_
    refine x_get hx hb hts hi1 hown hK hW (c16 E) (e16 _ _ _ _ _ _) rfl 5 (Nat.le_of_ble_eq_true rfl) q2 (fun _ h => h) (v := .int (gI S 16 0 5)) rfl dX1_unsure_36 ?_
    refine lv_i2l hx hb dX1_unsure_39 rfl ?_
    refine lv_lload_n hx hb dX1_unsure_40 rfl (lv_at hl 0 rfl) ?_
    refine lv_lmul hx hb dX1_unsure_41 ?_
    refine W.lcmp hx hb dX1_unsure_42 ?_
    refine lv_if_ge (tgt := 50) hx hb dX1_unsure_43 (by decide) (fun h => ?_) (fun h => ?_)
    · have h := (lg_cmp_ge _ _).mp h
      have hf := if_t h hf
      refine lv_iconst (v := 0) hx hb dX1_unsure_50 rfl ?_
      exact zr_i hf hx hb hr rfl hF hW hS dX1_unsure_51 hlocks
    · have h := fun q => h ((lg_cmp_ge _ _).mpr q)
      have hf := if_f h hf
      refine lv_iconst (v := 1) hx hb dX1_unsure_46 rfl ?_
      refine lv_goto (tgt := 51) hx hb dX1_unsure_47 (by decide) ?_
      exact zr_i hf hx hb hr rfl hF hW hS dX1_unsure_51 hlocks
set_option maxHeartbeats 4000000 in
set_option maxRecDepth 100000 in
theorem m_X1_wrongTwice (l : Launch) (G : GE) (B : Nat → Nat → Nat) (E : EN)  (S : ST) (a1 : Int32) (rr : Int32) (hf : f_X1_wrongTwice E S a1 = some rr) : Met l yX1_wrongTwice wsX1_wrongTwice (rmN 1) (va_Pc [.ref (B 16 0), .int a1] (WS G B E S)) (QI G B E S rr) 0 0 (AA G) := by
  refine Met.ofW (cc := cX1_wrongTwice) (maxL := 2) (ret := (some .boolean)) (by decide) rfl ?_
  intro p e s m args below meth c s₁ B0 hml hv
  obtain ⟨rfl, hW, hF⟩ := hv
  have hx := B0.exec
  have hb := B0.bytes
  have hr := B0.returns
  have hts := atoms_spec (ws := wsX1_wrongTwice) B0.pre
  have hown : s.vm.findClass RX1 = some m.cls := findClass_of_methodNamed B0.named
  have hlocks := B0.notSynchronized
  have hK := hF.1
  have hfix : CallFix p m c cX1_wrongTwice 2 s [.ref (B 16 0), .int a1].toArray wsX1_wrongTwice RX1 := ⟨hx, hb, hml, hown, hts⟩
  have hS : va_S (AA G) s.heap s.heap [] := va_S.rf
  have hl := lv_entry [.ref (B 16 0), .int a1] (n := 2) (Nat.le_of_ble_eq_true rfl)
  rw [lg_entry_eq]
  generalize (lg_sl [.ref (B 16 0), .int a1] ++ List.replicate (2 - (lg_sl [.ref (B 16 0), .int a1]).length) Slot.unset).toArray = ls at hl ⊢
  have hl : lv_has ls 2 [(0, .ref (B 16 0)), (1, .int a1)] := hl
  have q0 := hts (.fieldLink RX1 30 "MovesUp$Course" "marks" "I") (List.mem_of_getElem? (i := 1) rfl)
  have hi1 : ∀ w ∈ u_ws RX1 TX1 7, w ∈ wsX1_wrongTwice := in_seg 2 rfl
  unfold f_X1_wrongTwice at hf
  refine lv_iload_n hx hb dX1_wrongTwice_0 rfl (lv_at hl 1 rfl) ?_
  refine lv_iconst (v := 1) hx hb dX1_wrongTwice_1 rfl ?_
  refine lv_icmp_lt (tgt := 22) hx hb dX1_wrongTwice_2 (by decide) (fun h => ?_) (fun h => ?_)
  · have hf := if_t h hf
    refine lv_iconst (v := 0) hx hb dX1_wrongTwice_22 rfl ?_
    exact zr_i hf hx hb hr rfl hF hW hS dX1_wrongTwice_23 hlocks
  · have hf := if_f h hf
    refine lv_aload_n hx hb dX1_wrongTwice_5 rfl (lv_at hl 0 rfl) ?_
    refine x_get hx hb hts hi1 hown hK hW (c16 E) (e16 _ _ _ _ _ _) rfl 6 (Nat.le_of_ble_eq_true rfl) q0 (fun _ h => h) (v := .int (gI S 16 0 6)) rfl dX1_wrongTwice_6 ?_
    refine lv_iload_n hx hb dX1_wrongTwice_9 rfl (lv_at hl 1 rfl) ?_
    refine lv_iconst (v := 1) hx hb dX1_wrongTwice_10 rfl ?_
    refine lv_isub hx hb dX1_wrongTwice_11 ?_
    refine lv_ishr hx hb dX1_wrongTwice_12 ?_
    refine lv_iconst (v := 3) hx hb dX1_wrongTwice_13 rfl ?_
    refine lv_iand hx hb dX1_wrongTwice_14 ?_
    refine lv_if_ne (tgt := 22) hx hb dX1_wrongTwice_15 (by decide) (fun h => ?_) (fun h => ?_)
    · have hf := if_f h hf
      refine lv_iconst (v := 0) hx hb dX1_wrongTwice_22 rfl ?_
      exact zr_i hf hx hb hr rfl hF hW hS dX1_wrongTwice_23 hlocks
    · have hf := if_t h hf
      refine lv_iconst (v := 1) hx hb dX1_wrongTwice_18 rfl ?_
      refine lv_goto (tgt := 23) hx hb dX1_wrongTwice_19 (by decide) ?_
      exact zr_i hf hx hb hr rfl hF hW hS dX1_wrongTwice_23 hlocks
set_option maxHeartbeats 4000000 in
set_option maxRecDepth 100000 in
theorem m_X1_wish (l : Launch) (G : GE) (B : Nat → Nat → Nat) (E : EN)  (S : ST) (a1 : Int32) (rr : Int32) (hf : f_X1_wish E S a1 = some rr) : Met l yX1_wish wsX1_wish (rmN 4) (va_Pc [.ref (B 16 0), .int a1] (WS G B E S)) (QI G B E S rr) 0 0 (AA G) := by
  refine Met.ofW (cc := cX1_wish) (maxL := 2) (ret := (some .int)) (by decide) rfl ?_
  intro p e s m args below meth c s₁ B0 hml hv
  obtain ⟨rfl, hW, hF⟩ := hv
  have hx := B0.exec
  have hb := B0.bytes
  have hr := B0.returns
  have hts := atoms_spec (ws := wsX1_wish) B0.pre
  have hown : s.vm.findClass RX1 = some m.cls := findClass_of_methodNamed B0.named
  have hlocks := B0.notSynchronized
  have hK := hF.1
  have hfix : CallFix p m c cX1_wish 2 s [.ref (B 16 0), .int a1].toArray wsX1_wish RX1 := ⟨hx, hb, hml, hown, hts⟩
  have hS : va_S (AA G) s.heap s.heap [] := va_S.rf
  have hl := lv_entry [.ref (B 16 0), .int a1] (n := 2) (Nat.le_of_ble_eq_true rfl)
  rw [lg_entry_eq]
  generalize (lg_sl [.ref (B 16 0), .int a1] ++ List.replicate (2 - (lg_sl [.ref (B 16 0), .int a1]).length) Slot.unset).toArray = ls at hl ⊢
  have hl : lv_has ls 2 [(0, .ref (B 16 0)), (1, .int a1)] := hl
  have q0 := hts (.fieldLink RX1 23 "MovesUp$Course" "kind" "I") (List.mem_of_getElem? (i := 1) rfl)
  have q1 := hts (.fieldLink RX1 27 "MovesUp$Course" "number" "I") (List.mem_of_getElem? (i := 2) rfl)
  have q2 := hts (.fieldLink RX1 30 "MovesUp$Course" "marks" "I") (List.mem_of_getElem? (i := 3) rfl)
  have hi1 : ∀ w ∈ u_ws RX1 TX1 7, w ∈ wsX1_wish := in_seg 39 rfl
  have w104 : ∀ (_ : Unit) (v1 : Int32) , f_X1_wish_b104 E S v1 = some rr → ∀ (H : Heap) (locs : List Loc) (ls : Array Slot), WH G B E S H → va_S (AA G) s.heap H locs → lv_has ls 2 [(0, .ref (B 16 0)), (1, .int v1)] → W p l e (headSpec wsX1_wish (rmN 4)).room s m [.ref (B 16 0), .int a1].toArray below meth c H locs 0 0 (MQ below (QI G B E S rr) [.ref (B 16 0), .int a1].toArray s 0 0 (AA G)) (F0 m 104 ls []) := by
    intro _ v1 hf H locs ls hW hS hl
    unfold f_X1_wish_b104 at hf
    refine lv_aload_n hx hb dX1_wish_104 rfl (lv_at hl 0 rfl) ?_
    refine lv_iload_n hx hb dX1_wish_105 rfl (lv_at hl 1 rfl) ?_
    obtain ⟨r1, hc, hf⟩ := bd_out hf
    refine y_i (va_runV (As := [.int v1]) (rest := []) hfix (m_X1_twice l G B E S v1 r1 hc) (cwV 1 hts gX1_wish_X1_twice rfl rfl rfl ⟨rfl, hd_X1_twice⟩ ⟨Nat.le_of_ble_eq_true rfl, Nat.le_of_ble_eq_true rfl⟩) (y_pv hF hW hS (c16 E) (e16 _ _ _ _ _ _) rfl) rfl rfl hl.1 rfl (lv_room (Nat.le_of_ble_eq_true rfl)) dX1_wish_106 ⟨Nat.le_of_ble_eq_true rfl, Nat.le_of_ble_eq_true rfl⟩) hS (fun H locs hW hS => ?_)
    exact zr_i hf hx hb hr rfl hF hW hS dX1_wish_109 hlocks
  have w130 : ∀ (_ : Unit) (v1 : Int32) , f_X1_wish_b130 E S v1 = some rr → ∀ (H : Heap) (locs : List Loc) (ls : Array Slot), WH G B E S H → va_S (AA G) s.heap H locs → lv_has ls 2 [(0, .ref (B 16 0)), (1, .int v1)] → W p l e (headSpec wsX1_wish (rmN 4)).room s m [.ref (B 16 0), .int a1].toArray below meth c H locs 0 0 (MQ below (QI G B E S rr) [.ref (B 16 0), .int a1].toArray s 0 0 (AA G)) (F0 m 130 ls []) := by
    intro _ v1 hf H locs ls hW hS hl
    unfold f_X1_wish_b130 at hf
    refine lv_aload_n hx hb dX1_wish_130 rfl (lv_at hl 0 rfl) ?_
    refine lv_iload_n hx hb dX1_wish_131 rfl (lv_at hl 1 rfl) ?_
    obtain ⟨r2, hc, hf⟩ := bd_out hf
    refine y_i (va_runV (As := [.int v1]) (rest := []) hfix (m_X1_sure l G B E S v1 r2 hc) (cwV 1 hts gX1_wish_X1_sure rfl rfl rfl ⟨rfl, hd_X1_sure⟩ ⟨Nat.le_of_ble_eq_true rfl, Nat.le_of_ble_eq_true rfl⟩) (y_pv hF hW hS (c16 E) (e16 _ _ _ _ _ _) rfl) rfl rfl hl.1 rfl (lv_room (Nat.le_of_ble_eq_true rfl)) dX1_wish_132 ⟨Nat.le_of_ble_eq_true rfl, Nat.le_of_ble_eq_true rfl⟩) hS (fun H locs hW hS => ?_)
    exact zr_i hf hx hb hr rfl hF hW hS dX1_wish_135 hlocks
  unfold f_X1_wish at hf
  refine lv_iload_n hx hb dX1_wish_0 rfl (lv_at hl 1 rfl) ?_
  refine lv_if_lt (tgt := 9) hx hb dX1_wish_1 (by decide) (fun h => ?_) (fun h => ?_)
  · have hf := if_t h hf
    refine lv_iconst (v := 0) hx hb dX1_wish_9 rfl ?_
    exact zr_i hf hx hb hr rfl hF hW hS dX1_wish_10 hlocks
  · have hf := if_f h hf
    refine lv_iload_n hx hb dX1_wish_4 rfl (lv_at hl 1 rfl) ?_
    refine lv_iconst (v := 5) hx hb dX1_wish_5 rfl ?_
    refine lv_icmp_lt (tgt := 11) hx hb dX1_wish_6 (by decide) (fun h => ?_) (fun h => ?_)
    · have hf := if_t h hf
      refine lv_aload_n hx hb dX1_wish_11 rfl (lv_at hl 0 rfl) ?_
      refine x_get hx hb hts hi1 hown hK hW (c16 E) (e16 _ _ _ _ _ _) rfl 4 (Nat.le_of_ble_eq_true rfl) q0 (fun _ h => h) (v := .int (gI S 16 0 4)) rfl dX1_wish_12 ?_
      obtain ⟨x3, e_x3, hf⟩ := lt_out hf
      refine x_nmI e_x3 ?_
      by_cases hn0 : x3 = (1 : Int32)
      · have hf := if_t hn0 hf
        refine lv_tableIn hx hb dX1_wish_15 (by rw [hn0]; decide) (by rw [hn0]; decide) (off := 33) (by rw [hn0]; rfl) (tgt := 48) (by decide) ?_
        refine lv_aload_n hx hb dX1_wish_48 rfl (lv_at hl 0 rfl) ?_
        refine lv_iload_n hx hb dX1_wish_49 rfl (lv_at hl 1 rfl) ?_
        obtain ⟨r4, hc, hf⟩ := bd_out hf
        refine y_i (va_runV (As := [.int a1]) (rest := []) hfix (m_X1_twice l G B E S a1 r4 hc) (cwV 1 hts gX1_wish_X1_twice rfl rfl rfl ⟨rfl, hd_X1_twice⟩ ⟨Nat.le_of_ble_eq_true rfl, Nat.le_of_ble_eq_true rfl⟩) (y_pv hF hW hS (c16 E) (e16 _ _ _ _ _ _) rfl) rfl rfl hl.1 rfl (lv_room (Nat.le_of_ble_eq_true rfl)) dX1_wish_50 ⟨Nat.le_of_ble_eq_true rfl, Nat.le_of_ble_eq_true rfl⟩) hS (fun H locs hW hS => ?_)
        exact zr_i hf hx hb hr rfl hF hW hS dX1_wish_53 hlocks
      · have hf := if_f hn0 hf
        by_cases hn1 : x3 = (2 : Int32)
        · have hf := if_t hn1 hf
          refine lv_tableIn hx hb dX1_wish_15 (by rw [hn1]; decide) (by rw [hn1]; decide) (off := 39) (by rw [hn1]; rfl) (tgt := 54) (by decide) ?_
          refine lv_aload_n hx hb dX1_wish_54 rfl (lv_at hl 0 rfl) ?_
          refine x_get hx hb hts hi1 hown hK hW (c16 E) (e16 _ _ _ _ _ _) rfl 5 (Nat.le_of_ble_eq_true rfl) q1 (fun _ h => h) (v := .int (gI S 16 0 5)) rfl dX1_wish_55 ?_
          refine lv_if_le (tgt := 76) hx hb dX1_wish_58 (by decide) (fun h => ?_) (fun h => ?_)
          · have hf := if_t h hf
            refine lv_iconst (v := 0) hx hb dX1_wish_76 rfl ?_
            exact zr_i hf hx hb hr rfl hF hW hS dX1_wish_77 hlocks
          · have hf := if_f h hf
            refine lv_iload_n hx hb dX1_wish_61 rfl (lv_at hl 1 rfl) ?_
            refine lv_iconst (v := 1) hx hb dX1_wish_62 rfl ?_
            refine lv_iadd hx hb dX1_wish_63 ?_
            refine lv_aload_n hx hb dX1_wish_64 rfl (lv_at hl 0 rfl) ?_
            refine x_get hx hb hts hi1 hown hK hW (c16 E) (e16 _ _ _ _ _ _) rfl 5 (Nat.le_of_ble_eq_true rfl) q1 (fun _ h => h) (v := .int (gI S 16 0 5)) rfl dX1_wish_65 ?_
            obtain ⟨hz5, hf⟩ := ck_out hf
            have hz5 := nz_ hz5
            refine x_irem hx hb dX1_wish_68 hz5 ?_
            refine lv_if_ne (tgt := 76) hx hb dX1_wish_69 (by decide) (fun h => ?_) (fun h => ?_)
            · have hf := if_f h hf
              refine lv_iconst (v := 0) hx hb dX1_wish_76 rfl ?_
              exact zr_i hf hx hb hr rfl hF hW hS dX1_wish_77 hlocks
            · have hf := if_t h hf
              refine lv_iconst (v := 1) hx hb dX1_wish_72 rfl ?_
              refine lv_goto (tgt := 77) hx hb dX1_wish_73 (by decide) ?_
              exact zr_i hf hx hb hr rfl hF hW hS dX1_wish_77 hlocks
        · have hf := if_f hn1 hf
          by_cases hn2 : x3 = (3 : Int32)
          · have hf := if_t hn2 hf
            refine lv_tableIn hx hb dX1_wish_15 (by rw [hn2]; decide) (by rw [hn2]; decide) (off := 63) (by rw [hn2]; rfl) (tgt := 78) (by decide) ?_
            refine lv_aload_n hx hb dX1_wish_78 rfl (lv_at hl 0 rfl) ?_
            refine lv_iload_n hx hb dX1_wish_79 rfl (lv_at hl 1 rfl) ?_
            obtain ⟨r6, hc, hf⟩ := bd_out hf
            refine y_i (va_runV (As := [.int a1]) (rest := []) hfix (m_X1_sure l G B E S a1 r6 hc) (cwV 1 hts gX1_wish_X1_sure rfl rfl rfl ⟨rfl, hd_X1_sure⟩ ⟨Nat.le_of_ble_eq_true rfl, Nat.le_of_ble_eq_true rfl⟩) (y_pv hF hW hS (c16 E) (e16 _ _ _ _ _ _) rfl) rfl rfl hl.1 rfl (lv_room (Nat.le_of_ble_eq_true rfl)) dX1_wish_80 ⟨Nat.le_of_ble_eq_true rfl, Nat.le_of_ble_eq_true rfl⟩) hS (fun H locs hW hS => ?_)
            exact zr_i hf hx hb hr rfl hF hW hS dX1_wish_83 hlocks
          · have hf := if_f hn2 hf
            by_cases hn3 : x3 = (4 : Int32)
            · have hf := if_t hn3 hf
              refine lv_tableIn hx hb dX1_wish_15 (by rw [hn3]; decide) (by rw [hn3]; decide) (off := 69) (by rw [hn3]; rfl) (tgt := 84) (by decide) ?_
              refine lv_aload_n hx hb dX1_wish_84 rfl (lv_at hl 0 rfl) ?_
              refine lv_iload_n hx hb dX1_wish_85 rfl (lv_at hl 1 rfl) ?_
              obtain ⟨r7, hc, hf⟩ := bd_out hf
              refine y_i (va_runV (As := [.int a1]) (rest := []) hfix (m_X1_twice l G B E S a1 r7 hc) (cwV 1 hts gX1_wish_X1_twice rfl rfl rfl ⟨rfl, hd_X1_twice⟩ ⟨Nat.le_of_ble_eq_true rfl, Nat.le_of_ble_eq_true rfl⟩) (y_pv hF hW hS (c16 E) (e16 _ _ _ _ _ _) rfl) rfl rfl hl.1 rfl (lv_room (Nat.le_of_ble_eq_true rfl)) dX1_wish_86 ⟨Nat.le_of_ble_eq_true rfl, Nat.le_of_ble_eq_true rfl⟩) hS (fun H locs hW hS => ?_)
              refine lv_if_ne (tgt := 104) hx hb dX1_wish_89 (by decide) (fun h => ?_) (fun h => ?_)
              · have hf := if_f h hf
                exact w104 () a1  hf _ _ _ hW hS (lv_sub hl [0, 1] rfl)
              · have hf := if_t h hf
                refine lv_aload_n hx hb dX1_wish_92 rfl (lv_at hl 0 rfl) ?_
                refine lv_iload_n hx hb dX1_wish_93 rfl (lv_at hl 1 rfl) ?_
                obtain ⟨r8, hc, hf⟩ := bd_out hf
                refine y_i (va_runV (As := [.int a1]) (rest := []) hfix (m_X1_wrongTwice l G B E S a1 r8 hc) (cwV 1 hts gX1_wish_X1_wrongTwice rfl rfl rfl ⟨rfl, hd_X1_wrongTwice⟩ ⟨Nat.le_of_ble_eq_true rfl, Nat.le_of_ble_eq_true rfl⟩) (y_pv hF hW hS (c16 E) (e16 _ _ _ _ _ _) rfl) rfl rfl hl.1 rfl (lv_room (Nat.le_of_ble_eq_true rfl)) dX1_wish_94 ⟨Nat.le_of_ble_eq_true rfl, Nat.le_of_ble_eq_true rfl⟩) hS (fun H locs hW hS => ?_)
                refine lv_if_eq (tgt := 104) hx hb dX1_wish_97 (by decide) (fun h => ?_) (fun h => ?_)
                · have hf := if_t h hf
                  exact w104 () a1  hf _ _ _ hW hS (lv_sub hl [0, 1] rfl)
                · have hf := if_f h hf
                  refine lv_iconst (v := -1) hx hb dX1_wish_100 rfl ?_
                  refine lv_goto (tgt := 109) hx hb dX1_wish_101 (by decide) ?_
                  exact zr_i hf hx hb hr rfl hF hW hS dX1_wish_109 hlocks
            · have hf := if_f hn3 hf
              by_cases hn4 : x3 = (5 : Int32)
              · have hf := if_t hn4 hf
                refine lv_tableIn hx hb dX1_wish_15 (by rw [hn4]; decide) (by rw [hn4]; decide) (off := 95) (by rw [hn4]; rfl) (tgt := 110) (by decide) ?_
                refine lv_aload_n hx hb dX1_wish_110 rfl (lv_at hl 0 rfl) ?_
                refine lv_iload_n hx hb dX1_wish_111 rfl (lv_at hl 1 rfl) ?_
                obtain ⟨r9, hc, hf⟩ := bd_out hf
                refine y_i (va_runV (As := [.int a1]) (rest := []) hfix (m_X1_sure l G B E S a1 r9 hc) (cwV 1 hts gX1_wish_X1_sure rfl rfl rfl ⟨rfl, hd_X1_sure⟩ ⟨Nat.le_of_ble_eq_true rfl, Nat.le_of_ble_eq_true rfl⟩) (y_pv hF hW hS (c16 E) (e16 _ _ _ _ _ _) rfl) rfl rfl hl.1 rfl (lv_room (Nat.le_of_ble_eq_true rfl)) dX1_wish_112 ⟨Nat.le_of_ble_eq_true rfl, Nat.le_of_ble_eq_true rfl⟩) hS (fun H locs hW hS => ?_)
                refine lv_if_ne (tgt := 130) hx hb dX1_wish_115 (by decide) (fun h => ?_) (fun h => ?_)
                · have hf := if_f h hf
                  exact w130 () a1  hf _ _ _ hW hS (lv_sub hl [0, 1] rfl)
                · have hf := if_t h hf
                  refine lv_aload_n hx hb dX1_wish_118 rfl (lv_at hl 0 rfl) ?_
                  refine lv_iload_n hx hb dX1_wish_119 rfl (lv_at hl 1 rfl) ?_
                  obtain ⟨r10, hc, hf⟩ := bd_out hf
                  refine y_i (va_runV (As := [.int a1]) (rest := []) hfix (m_X1_unsure l G B E S a1 r10 hc) (cwV 1 hts gX1_wish_X1_unsure rfl rfl rfl ⟨rfl, hd_X1_unsure⟩ ⟨Nat.le_of_ble_eq_true rfl, Nat.le_of_ble_eq_true rfl⟩) (y_pv hF hW hS (c16 E) (e16 _ _ _ _ _ _) rfl) rfl rfl hl.1 rfl (lv_room (Nat.le_of_ble_eq_true rfl)) dX1_wish_120 ⟨Nat.le_of_ble_eq_true rfl, Nat.le_of_ble_eq_true rfl⟩) hS (fun H locs hW hS => ?_)
                  refine lv_if_eq (tgt := 130) hx hb dX1_wish_123 (by decide) (fun h => ?_) (fun h => ?_)
                  · have hf := if_t h hf
                    exact w130 () a1  hf _ _ _ hW hS (lv_sub hl [0, 1] rfl)
                  · have hf := if_f h hf
                    refine lv_iconst (v := -1) hx hb dX1_wish_126 rfl ?_
                    refine lv_goto (tgt := 135) hx hb dX1_wish_127 (by decide) ?_
                    exact zr_i hf hx hb hr rfl hF hW hS dX1_wish_135 hlocks
              · have hf := if_f hn4 hf
                refine lv_tableOut hx hb dX1_wish_15 (tb_out (by decide) (by decide) (fun k h1 h2 => ?_)) (tgt := 136) (by decide) ?_
                · have hk : k = 1 ∨ k = 2 ∨ k = 3 ∨ k = 4 ∨ k = 5 := by omega
                  rcases hk with rfl | rfl | rfl | rfl | rfl
                  · exact fun q => hn0 (q.trans (by decide))
                  · exact fun q => hn1 (q.trans (by decide))
                  · exact fun q => hn2 (q.trans (by decide))
                  · exact fun q => hn3 (q.trans (by decide))
                  · exact fun q => hn4 (q.trans (by decide))
                · refine lv_aload_n hx hb dX1_wish_136 rfl (lv_at hl 0 rfl) ?_
                  refine x_get hx hb hts hi1 hown hK hW (c16 E) (e16 _ _ _ _ _ _) rfl 6 (Nat.le_of_ble_eq_true rfl) q2 (fun _ h => h) (v := .int (gI S 16 0 6)) rfl dX1_wish_137 ?_
                  refine lv_iload_n hx hb dX1_wish_140 rfl (lv_at hl 1 rfl) ?_
                  refine lv_ishr hx hb dX1_wish_141 ?_
                  refine lv_iconst (v := 1) hx hb dX1_wish_142 rfl ?_
                  refine lv_iand hx hb dX1_wish_143 ?_
                  exact zr_i hf hx hb hr rfl hF hW hS dX1_wish_144 hlocks
    · have hf := if_f h hf
      refine lv_iconst (v := 0) hx hb dX1_wish_9 rfl ?_
      exact zr_i hf hx hb hr rfl hF hW hS dX1_wish_10 hlocks
set_option maxHeartbeats 4000000 in
set_option maxRecDepth 100000 in
theorem m_X1_follow (l : Launch) (G : GE) (B : Nat → Nat → Nat) (E : EN)  (S : ST) (a1 : Int32) (a2 : Int32) (SS : ST) (hf : f_X1_follow E S a1 a2 = some SS) : Met l yX1_follow wsX1_follow (rmN 5) (va_Pc [.ref (B 16 0), .int a1, .int a2] (WS G B E S)) (QV G B E SS) 0 0 (AA G) := by
  refine Met.ofW (cc := cX1_follow) (maxL := 4) (ret := none) (by decide) rfl ?_
  intro p e s m args below meth c s₁ B0 hml hv
  obtain ⟨rfl, hW, hF⟩ := hv
  have hx := B0.exec
  have hb := B0.bytes
  have hr := B0.returns
  have hts := atoms_spec (ws := wsX1_follow) B0.pre
  have hown : s.vm.findClass RX1 = some m.cls := findClass_of_methodNamed B0.named
  have hlocks := B0.notSynchronized
  have hK := hF.1
  have hfix : CallFix p m c cX1_follow 4 s [.ref (B 16 0), .int a1, .int a2].toArray wsX1_follow RX1 := ⟨hx, hb, hml, hown, hts⟩
  have hS : va_S (AA G) s.heap s.heap [] := va_S.rf
  have hl := lv_entry [.ref (B 16 0), .int a1, .int a2] (n := 4) (Nat.le_of_ble_eq_true rfl)
  rw [lg_entry_eq]
  generalize (lg_sl [.ref (B 16 0), .int a1, .int a2] ++ List.replicate (4 - (lg_sl [.ref (B 16 0), .int a1, .int a2]).length) Slot.unset).toArray = ls at hl ⊢
  have hl : lv_has ls 4 [(0, .ref (B 16 0)), (1, .int a1), (2, .int a2)] := hl
  have w2 : ∀ (n2 : Nat) (S : ST) (v1 : Int32) (v2 : Int32) (v3 : Int32) , f_X1_follow_b2 E n2 S v1 v2 v3 = some SS → ∀ (H : Heap) (locs : List Loc) (ls : Array Slot), WH G B E S H → va_S (AA G) s.heap H locs → lv_has ls 4 [(0, .ref (B 16 0)), (1, .int v1), (2, .int v2), (3, .int v3)] → W p l e (headSpec wsX1_follow (rmN 5)).room s m [.ref (B 16 0), .int a1, .int a2].toArray below meth c H locs 0 0 (MQ below (QV G B E SS) [.ref (B 16 0), .int a1, .int a2].toArray s 0 0 (AA G)) (F0 m 2 ls []) := by
    intro n2
    induction n2 with
    | zero =>
      intro S v1 v2 v3 hf
      exact absurd (show (none : Option ST) = some SS from hf) (fun h => by cases h)
    | succ n2 ih2 =>
      intro S v1 v2 v3 hf H locs ls hW hS hl
      have hf : g_X1_follow_b2 E (f_X1_follow_b2 E n2) S v1 v2 v3 = some SS := hf
      unfold g_X1_follow_b2 at hf
      refine lv_iload_n hx hb dX1_follow_2 rfl (lv_at hl 3 rfl) ?_
      refine lv_iload_n hx hb dX1_follow_3 rfl (lv_at hl 1 rfl) ?_
      refine lv_icmp_ge (tgt := 38) hx hb dX1_follow_4 (by decide) (fun h => ?_) (fun h => ?_)
      · have hf := if_t h hf
        exact z_v hf hx hb hr hF hW hS dX1_follow_38 hlocks
      · have hf := if_f h hf
        refine lv_iload_n hx hb dX1_follow_7 rfl (lv_at hl 3 rfl) ?_
        refine lv_iconst (v := 5) hx hb dX1_follow_8 rfl ?_
        refine lv_icmp_ge (tgt := 38) hx hb dX1_follow_9 (by decide) (fun h => ?_) (fun h => ?_)
        · have hf := if_t h hf
          exact z_v hf hx hb hr hF hW hS dX1_follow_38 hlocks
        · have hf := if_f h hf
          refine lv_aload_n hx hb dX1_follow_12 rfl (lv_at hl 0 rfl) ?_
          refine lv_iload_n hx hb dX1_follow_13 rfl (lv_at hl 3 rfl) ?_
          refine lv_iload_n hx hb dX1_follow_14 rfl (lv_at hl 2 rfl) ?_
          refine lv_iload_n hx hb dX1_follow_15 rfl (lv_at hl 3 rfl) ?_
          refine lv_ishr hx hb dX1_follow_16 ?_
          refine lv_iconst (v := 1) hx hb dX1_follow_17 rfl ?_
          refine lv_iand hx hb dX1_follow_18 ?_
          obtain ⟨S1, hc, hf⟩ := bd_out hf
          refine y_v (va_runV (As := [.int v3, .int ((v2 >>> (v3 &&& 31)) &&& (1 : Int32))]) (rest := []) hfix (m_X1_pass l G B E S v3 ((v2 >>> (v3 &&& 31)) &&& (1 : Int32)) S1 hc) (cwV 2 hts gX1_follow_X1_pass rfl rfl rfl ⟨rfl, hd_X1_pass⟩ ⟨Nat.le_of_ble_eq_true rfl, Nat.le_of_ble_eq_true rfl⟩) (y_pv hF hW hS (c16 E) (e16 _ _ _ _ _ _) rfl) rfl rfl hl.1 rfl (lv_room (Nat.le_of_ble_eq_true rfl)) dX1_follow_19 ⟨Nat.le_of_ble_eq_true rfl, Nat.le_of_ble_eq_true rfl⟩) hS (fun H locs hW hS => ?_)
          refine lv_aload_n hx hb dX1_follow_22 rfl (lv_at hl 0 rfl) ?_
          refine lv_iload_n hx hb dX1_follow_23 rfl (lv_at hl 3 rfl) ?_
          refine lv_aload_n hx hb dX1_follow_24 rfl (lv_at hl 0 rfl) ?_
          refine lv_iload_n hx hb dX1_follow_25 rfl (lv_at hl 3 rfl) ?_
          obtain ⟨r2, hc, hf⟩ := bd_out hf
          refine y_i (va_runV (As := [.int v3]) (rest := [.int v3, .ref (B 16 0)]) hfix (m_X1_wish l G B E S1 v3 r2 hc) (cwV 1 hts gX1_follow_X1_wish rfl rfl rfl ⟨rfl, hd_X1_wish⟩ ⟨Nat.le_of_ble_eq_true rfl, Nat.le_of_ble_eq_true rfl⟩) (y_pv hF hW hS (c16 E) (e16 _ _ _ _ _ _) rfl) rfl rfl hl.1 rfl (lv_room (Nat.le_of_ble_eq_true rfl)) dX1_follow_26 ⟨Nat.le_of_ble_eq_true rfl, Nat.le_of_ble_eq_true rfl⟩) hS (fun H locs hW hS => ?_)
          obtain ⟨S3, hc, hf⟩ := bd_out hf
          refine y_v (va_runV (As := [.int v3, .int r2]) (rest := []) hfix (m_X1_settle l G B E S1 v3 r2 S3 hc) (cwV 2 hts gX1_follow_X1_settle rfl rfl rfl ⟨rfl, hd_X1_settle⟩ ⟨Nat.le_of_ble_eq_true rfl, Nat.le_of_ble_eq_true rfl⟩) (y_pv hF hW hS (c16 E) (e16 _ _ _ _ _ _) rfl) rfl rfl hl.1 rfl (lv_room (Nat.le_of_ble_eq_true rfl)) dX1_follow_29 ⟨Nat.le_of_ble_eq_true rfl, Nat.le_of_ble_eq_true rfl⟩) hS (fun H locs hW hS => ?_)
          obtain ⟨x4, e_x4, hf⟩ := lt_out hf
          refine lv_iinc (v := x4) (lv' := [(3, .int x4), (0, .ref (B 16 0)), (1, .int v1), (2, .int v2)]) hx hb dX1_follow_32 hl (k := 3) rfl (by rw [e_x4]; rfl) (by decide) rfl (fun ls hl => ?_)
          refine lv_goto (tgt := 2) hx hb dX1_follow_35 (by decide) ?_
          exact ih2 S3 v1 v2 x4  hf _ _ _ hW hS (lv_sub hl [1, 2, 3, 0] rfl)
  unfold f_X1_follow at hf
  refine lv_iconst (v := 0) hx hb dX1_follow_0 rfl ?_
  refine lv_istore_n (lv' := [(3, .int (0 : Int32)), (0, .ref (B 16 0)), (1, .int a1), (2, .int a2)]) hx hb dX1_follow_1 rfl hl (by decide) rfl (fun ls hl => ?_)
  exact w2 E.1 S a1 a2 (0 : Int32)  hf _ _ _ hW hS (lv_sub hl [1, 2, 3, 0] rfl)
set_option maxHeartbeats 4000000 in
set_option maxRecDepth 100000 in
theorem m_X1_weightsAt (l : Launch) (G : GE) (B : Nat → Nat → Nat) (E : EN)  (S : ST) (a1 : Int32) (rr : (Option Nat)) (hf : f_X1_weightsAt E S a1 = some rr) : Met l yX1_weightsAt wsX1_weightsAt (rmN 2) (va_Pc [.ref (B 16 0), .int a1] (WS G B E S)) (QQ G B E S (Option.map (B 28) rr)) 0 0 (AA G) := by
  refine Met.ofW (cc := cX1_weightsAt) (maxL := 2) (ret := (some (.array .long))) (by decide) rfl ?_
  intro p e s m args below meth c s₁ B0 hml hv
  obtain ⟨rfl, hW, hF⟩ := hv
  have hx := B0.exec
  have hb := B0.bytes
  have hr := B0.returns
  have hts := atoms_spec (ws := wsX1_weightsAt) B0.pre
  have hown : s.vm.findClass RX1 = some m.cls := findClass_of_methodNamed B0.named
  have hlocks := B0.notSynchronized
  have hK := hF.1
  have hfix : CallFix p m c cX1_weightsAt 2 s [.ref (B 16 0), .int a1].toArray wsX1_weightsAt RX1 := ⟨hx, hb, hml, hown, hts⟩
  have hS : va_S (AA G) s.heap s.heap [] := va_S.rf
  have hl := lv_entry [.ref (B 16 0), .int a1] (n := 2) (Nat.le_of_ble_eq_true rfl)
  rw [lg_entry_eq]
  generalize (lg_sl [.ref (B 16 0), .int a1] ++ List.replicate (2 - (lg_sl [.ref (B 16 0), .int a1]).length) Slot.unset).toArray = ls at hl ⊢
  have hl : lv_has ls 2 [(0, .ref (B 16 0)), (1, .int a1)] := hl
  have q0 := hts (.fieldLink RX1 11 "MovesUp$Course" "weights" "[[J") (List.mem_of_getElem? (i := 1) rfl)
  have hi1 : ∀ w ∈ u_ws RX1 TX1 7, w ∈ wsX1_weightsAt := in_seg 13 rfl
  unfold f_X1_weightsAt at hf
  refine lv_aload_n hx hb dX1_weightsAt_0 rfl (lv_at hl 0 rfl) ?_
  refine x_get hx hb hts hi1 hown hK hW (c16 E) (e16 _ _ _ _ _ _) rfl 1 (Nat.le_of_ble_eq_true rfl) q0 (fun _ h => h) (v := .ref (B 17 0)) rfl dX1_weightsAt_1 ?_
  refine lv_iload_n hx hb dX1_weightsAt_4 rfl (lv_at hl 1 rfl) ?_
  obtain ⟨r1, hc, hf⟩ := bd_out hf
  refine y_i (va_runS (As := [.int a1]) (rest := [.ref (B 17 0)]) hfix (m_X1_bounded l G B E S a1 r1 hc) (va_cwS 1 hts gX1_weightsAt_X1_bounded rfl rfl rfl hd_X1_bounded ⟨Nat.le_of_ble_eq_true rfl, Nat.le_of_ble_eq_true rfl⟩) (y_ps hF hW hS) rfl rfl hl.1 rfl (lv_room (Nat.le_of_ble_eq_true rfl)) dX1_weightsAt_5 ⟨Nat.le_of_ble_eq_true rfl, Nat.le_of_ble_eq_true rfl⟩) hS (fun H locs hW hS => ?_)
  obtain ⟨hi_2, hf⟩ := ck_out hf
  have hi_2 := ib_in hi_2
  refine x_aaldF hx hb hK hW (c17 E) (t := 7) rfl rfl (e17 _ _ _ _ _ _) hi_2 (jn := r1.toNatClampNeg) rfl dX1_weightsAt_8 ?_
  exact zr_q (o := (some r1.toNatClampNeg)) hf hx hb hr (Or.inr ⟨_, rfl⟩) hF hW hS dX1_weightsAt_9 hlocks
set_option maxHeartbeats 4000000 in
set_option maxRecDepth 100000 in
theorem m_X1_classThen (l : Launch) (G : GE) (B : Nat → Nat → Nat) (E : EN)  (S : ST) (a1 : Int32) (rr : Int32) (hf : f_X1_classThen E S a1 = some rr) : Met l yX1_classThen wsX1_classThen (rmN 2) (va_Pc [.ref (B 16 0), .int a1] (WS G B E S)) (QI G B E S rr) 0 0 (AA G) := by
  refine Met.ofW (cc := cX1_classThen) (maxL := 2) (ret := (some .int)) (by decide) rfl ?_
  intro p e s m args below meth c s₁ B0 hml hv
  obtain ⟨rfl, hW, hF⟩ := hv
  have hx := B0.exec
  have hb := B0.bytes
  have hr := B0.returns
  have hts := atoms_spec (ws := wsX1_classThen) B0.pre
  have hown : s.vm.findClass RX1 = some m.cls := findClass_of_methodNamed B0.named
  have hlocks := B0.notSynchronized
  have hK := hF.1
  have hfix : CallFix p m c cX1_classThen 2 s [.ref (B 16 0), .int a1].toArray wsX1_classThen RX1 := ⟨hx, hb, hml, hown, hts⟩
  have hS : va_S (AA G) s.heap s.heap [] := va_S.rf
  have hl := lv_entry [.ref (B 16 0), .int a1] (n := 2) (Nat.le_of_ble_eq_true rfl)
  rw [lg_entry_eq]
  generalize (lg_sl [.ref (B 16 0), .int a1] ++ List.replicate (2 - (lg_sl [.ref (B 16 0), .int a1]).length) Slot.unset).toArray = ls at hl ⊢
  have hl : lv_has ls 2 [(0, .ref (B 16 0)), (1, .int a1)] := hl
  have q0 := hts (.fieldLink RX1 16 "MovesUp$Course" "classes" "[I") (List.mem_of_getElem? (i := 1) rfl)
  have hi1 : ∀ w ∈ u_ws RX1 TX1 7, w ∈ wsX1_classThen := in_seg 13 rfl
  unfold f_X1_classThen at hf
  refine lv_aload_n hx hb dX1_classThen_0 rfl (lv_at hl 0 rfl) ?_
  refine x_get hx hb hts hi1 hown hK hW (c16 E) (e16 _ _ _ _ _ _) rfl 2 (Nat.le_of_ble_eq_true rfl) q0 (fun _ h => h) (v := .ref (B 18 0)) rfl dX1_classThen_1 ?_
  refine lv_iload_n hx hb dX1_classThen_4 rfl (lv_at hl 1 rfl) ?_
  obtain ⟨r1, hc, hf⟩ := bd_out hf
  refine y_i (va_runS (As := [.int a1]) (rest := [.ref (B 18 0)]) hfix (m_X1_bounded l G B E S a1 r1 hc) (va_cwS 1 hts gX1_classThen_X1_bounded rfl rfl rfl hd_X1_bounded ⟨Nat.le_of_ble_eq_true rfl, Nat.le_of_ble_eq_true rfl⟩) (y_ps hF hW hS) rfl rfl hl.1 rfl (lv_room (Nat.le_of_ble_eq_true rfl)) dX1_classThen_5 ⟨Nat.le_of_ble_eq_true rfl, Nat.le_of_ble_eq_true rfl⟩) hS (fun H locs hW hS => ?_)
  obtain ⟨hi_2, hf⟩ := ck_out hf
  have hi_2 := ib_in hi_2
  refine x_iald hx hb hK hW (c18 E) (e18 _ _ _ _ _ _) hi_2 (jn := r1.toNatClampNeg) rfl dX1_classThen_8 ?_
  exact zr_i hf hx hb hr rfl hF hW hS dX1_classThen_9 hlocks
set_option maxHeartbeats 4000000 in
set_option maxRecDepth 100000 in
theorem m_X1_movedThen (l : Launch) (G : GE) (B : Nat → Nat → Nat) (E : EN)  (S : ST) (a1 : Int32) (rr : Int32) (hf : f_X1_movedThen E S a1 = some rr) : Met l yX1_movedThen wsX1_movedThen (rmN 2) (va_Pc [.ref (B 16 0), .int a1] (WS G B E S)) (QI G B E S rr) 0 0 (AA G) := by
  refine Met.ofW (cc := cX1_movedThen) (maxL := 2) (ret := (some .int)) (by decide) rfl ?_
  intro p e s m args below meth c s₁ B0 hml hv
  obtain ⟨rfl, hW, hF⟩ := hv
  have hx := B0.exec
  have hb := B0.bytes
  have hr := B0.returns
  have hts := atoms_spec (ws := wsX1_movedThen) B0.pre
  have hown : s.vm.findClass RX1 = some m.cls := findClass_of_methodNamed B0.named
  have hlocks := B0.notSynchronized
  have hK := hF.1
  have hfix : CallFix p m c cX1_movedThen 2 s [.ref (B 16 0), .int a1].toArray wsX1_movedThen RX1 := ⟨hx, hb, hml, hown, hts⟩
  have hS : va_S (AA G) s.heap s.heap [] := va_S.rf
  have hl := lv_entry [.ref (B 16 0), .int a1] (n := 2) (Nat.le_of_ble_eq_true rfl)
  rw [lg_entry_eq]
  generalize (lg_sl [.ref (B 16 0), .int a1] ++ List.replicate (2 - (lg_sl [.ref (B 16 0), .int a1]).length) Slot.unset).toArray = ls at hl ⊢
  have hl : lv_has ls 2 [(0, .ref (B 16 0)), (1, .int a1)] := hl
  have q0 := hts (.fieldLink RX1 20 "MovesUp$Course" "moved" "[I") (List.mem_of_getElem? (i := 1) rfl)
  have hi1 : ∀ w ∈ u_ws RX1 TX1 7, w ∈ wsX1_movedThen := in_seg 13 rfl
  unfold f_X1_movedThen at hf
  refine lv_aload_n hx hb dX1_movedThen_0 rfl (lv_at hl 0 rfl) ?_
  refine x_get hx hb hts hi1 hown hK hW (c16 E) (e16 _ _ _ _ _ _) rfl 3 (Nat.le_of_ble_eq_true rfl) q0 (fun _ h => h) (v := .ref (B 19 0)) rfl dX1_movedThen_1 ?_
  refine lv_iload_n hx hb dX1_movedThen_4 rfl (lv_at hl 1 rfl) ?_
  obtain ⟨r1, hc, hf⟩ := bd_out hf
  refine y_i (va_runS (As := [.int a1]) (rest := [.ref (B 19 0)]) hfix (m_X1_bounded l G B E S a1 r1 hc) (va_cwS 1 hts gX1_movedThen_X1_bounded rfl rfl rfl hd_X1_bounded ⟨Nat.le_of_ble_eq_true rfl, Nat.le_of_ble_eq_true rfl⟩) (y_ps hF hW hS) rfl rfl hl.1 rfl (lv_room (Nat.le_of_ble_eq_true rfl)) dX1_movedThen_5 ⟨Nat.le_of_ble_eq_true rfl, Nat.le_of_ble_eq_true rfl⟩) hS (fun H locs hW hS => ?_)
  obtain ⟨hi_2, hf⟩ := ck_out hf
  have hi_2 := ib_in hi_2
  refine x_iald hx hb hK hW (c19 E) (e19 _ _ _ _ _ _) hi_2 (jn := r1.toNatClampNeg) rfl dX1_movedThen_8 ?_
  exact zr_i hf hx hb hr rfl hF hW hS dX1_movedThen_9 hlocks
set_option maxHeartbeats 4000000 in
set_option maxRecDepth 100000 in
theorem m_X1_together (l : Launch) (G : GE) (B : Nat → Nat → Nat) (E : EN)  (S : ST) (a1 : Int32) (rr : Int64) (hf : f_X1_together E S a1 = some rr) : Met l yX1_together wsX1_together (rmN 3) (va_Pc [.ref (B 16 0), .int a1] (WS G B E S)) (QL G B E S rr) 0 0 (AA G) := by
  refine Met.ofW (cc := cX1_together) (maxL := 2) (ret := (some .long)) (by decide) rfl ?_
  intro p e s m args below meth c s₁ B0 hml hv
  obtain ⟨rfl, hW, hF⟩ := hv
  have hx := B0.exec
  have hb := B0.bytes
  have hr := B0.returns
  have hts := atoms_spec (ws := wsX1_together) B0.pre
  have hown : s.vm.findClass RX1 = some m.cls := findClass_of_methodNamed B0.named
  have hlocks := B0.notSynchronized
  have hK := hF.1
  have hfix : CallFix p m c cX1_together 2 s [.ref (B 16 0), .int a1].toArray wsX1_together RX1 := ⟨hx, hb, hml, hown, hts⟩
  have hS : va_S (AA G) s.heap s.heap [] := va_S.rf
  have hl := lv_entry [.ref (B 16 0), .int a1] (n := 2) (Nat.le_of_ble_eq_true rfl)
  rw [lg_entry_eq]
  generalize (lg_sl [.ref (B 16 0), .int a1] ++ List.replicate (2 - (lg_sl [.ref (B 16 0), .int a1]).length) Slot.unset).toArray = ls at hl ⊢
  have hl : lv_has ls 2 [(0, .ref (B 16 0)), (1, .int a1)] := hl
  unfold f_X1_together at hf
  refine lv_aload_n hx hb dX1_together_0 rfl (lv_at hl 0 rfl) ?_
  refine lv_iconst (v := 0) hx hb dX1_together_1 rfl ?_
  refine lv_iload_n hx hb dX1_together_2 rfl (lv_at hl 1 rfl) ?_
  obtain ⟨r1, hc, hf⟩ := bd_out hf
  refine y_l (va_runV (As := [.int (0 : Int32), .int a1]) (rest := []) hfix (m_X1_from l G B E S (0 : Int32) a1 r1 hc) (cwV 2 hts gX1_together_X1_from rfl rfl rfl ⟨rfl, hd_X1_from⟩ ⟨Nat.le_of_ble_eq_true rfl, Nat.le_of_ble_eq_true rfl⟩) (y_pv hF hW hS (c16 E) (e16 _ _ _ _ _ _) rfl) rfl rfl hl.1 rfl (lv_room (Nat.le_of_ble_eq_true rfl)) dX1_together_3 ⟨Nat.le_of_ble_eq_true rfl, Nat.le_of_ble_eq_true rfl⟩) hS (fun H locs hW hS => ?_)
  exact zr_l hf hx hb hr hF hW hS dX1_together_6 hlocks
set_option maxHeartbeats 4000000 in
set_option maxRecDepth 100000 in
theorem m_X1_fit (l : Launch) (G : GE) (B : Nat → Nat → Nat) (E : EN)  (S : ST) (a1 : Int32) (rr : Int64) (hf : f_X1_fit E S a1 = some rr) : Met l yX1_fit wsX1_fit (rmN 3) (va_Pc [.ref (B 16 0), .int a1] (WS G B E S)) (QL G B E S rr) 0 0 (AA G) := by
  refine Met.ofW (cc := cX1_fit) (maxL := 2) (ret := (some .long)) (by decide) rfl ?_
  intro p e s m args below meth c s₁ B0 hml hv
  obtain ⟨rfl, hW, hF⟩ := hv
  have hx := B0.exec
  have hb := B0.bytes
  have hr := B0.returns
  have hts := atoms_spec (ws := wsX1_fit) B0.pre
  have hown : s.vm.findClass RX1 = some m.cls := findClass_of_methodNamed B0.named
  have hlocks := B0.notSynchronized
  have hK := hF.1
  have hfix : CallFix p m c cX1_fit 2 s [.ref (B 16 0), .int a1].toArray wsX1_fit RX1 := ⟨hx, hb, hml, hown, hts⟩
  have hS : va_S (AA G) s.heap s.heap [] := va_S.rf
  have hl := lv_entry [.ref (B 16 0), .int a1] (n := 2) (Nat.le_of_ble_eq_true rfl)
  rw [lg_entry_eq]
  generalize (lg_sl [.ref (B 16 0), .int a1] ++ List.replicate (2 - (lg_sl [.ref (B 16 0), .int a1]).length) Slot.unset).toArray = ls at hl ⊢
  have hl : lv_has ls 2 [(0, .ref (B 16 0)), (1, .int a1)] := hl
  unfold f_X1_fit at hf
  refine lv_aload_n hx hb dX1_fit_0 rfl (lv_at hl 0 rfl) ?_
  refine lv_aload_n hx hb dX1_fit_1 rfl (lv_at hl 0 rfl) ?_
  refine lv_iload_n hx hb dX1_fit_2 rfl (lv_at hl 1 rfl) ?_
  obtain ⟨r1, hc, hf⟩ := bd_out hf
  refine y_i (va_runV (As := [.int a1]) (rest := [.ref (B 16 0)]) hfix (m_X1_classThen l G B E S a1 r1 hc) (cwV 1 hts gX1_fit_X1_classThen rfl rfl rfl ⟨rfl, hd_X1_classThen⟩ ⟨Nat.le_of_ble_eq_true rfl, Nat.le_of_ble_eq_true rfl⟩) (y_pv hF hW hS (c16 E) (e16 _ _ _ _ _ _) rfl) rfl rfl hl.1 rfl (lv_room (Nat.le_of_ble_eq_true rfl)) dX1_fit_3 ⟨Nat.le_of_ble_eq_true rfl, Nat.le_of_ble_eq_true rfl⟩) hS (fun H locs hW hS => ?_)
  refine lv_iload_n hx hb dX1_fit_6 rfl (lv_at hl 1 rfl) ?_
  obtain ⟨r2, hc, hf⟩ := bd_out hf
  refine y_l (va_runV (As := [.int r1, .int a1]) (rest := []) hfix (m_X1_from l G B E S r1 a1 r2 hc) (cwV 2 hts gX1_fit_X1_from rfl rfl rfl ⟨rfl, hd_X1_from⟩ ⟨Nat.le_of_ble_eq_true rfl, Nat.le_of_ble_eq_true rfl⟩) (y_pv hF hW hS (c16 E) (e16 _ _ _ _ _ _) rfl) rfl rfl hl.1 rfl (lv_room (Nat.le_of_ble_eq_true rfl)) dX1_fit_7 ⟨Nat.le_of_ble_eq_true rfl, Nat.le_of_ble_eq_true rfl⟩) hS (fun H locs hW hS => ?_)
  exact zr_l hf hx hb hr hF hW hS dX1_fit_10 hlocks
set_option maxHeartbeats 4000000 in
set_option maxRecDepth 100000 in
theorem m_X1_share (l : Launch) (G : GE) (B : Nat → Nat → Nat) (E : EN)  (S : ST) (a1 : Int32) (rr : Int64) (hf : f_X1_share E S a1 = some rr) : Met l yX1_share wsX1_share (rmN 4) (va_Pc [.ref (B 16 0), .int a1] (WS G B E S)) (QL G B E S rr) 0 0 (AA G) := by
  refine Met.ofW (cc := cX1_share) (maxL := 4) (ret := (some .long)) (by decide) rfl ?_
  intro p e s m args below meth c s₁ B0 hml hv
  obtain ⟨rfl, hW, hF⟩ := hv
  have hx := B0.exec
  have hb := B0.bytes
  have hr := B0.returns
  have hts := atoms_spec (ws := wsX1_share) B0.pre
  have hown : s.vm.findClass RX1 = some m.cls := findClass_of_methodNamed B0.named
  have hlocks := B0.notSynchronized
  have hK := hF.1
  have hfix : CallFix p m c cX1_share 4 s [.ref (B 16 0), .int a1].toArray wsX1_share RX1 := ⟨hx, hb, hml, hown, hts⟩
  have hS : va_S (AA G) s.heap s.heap [] := va_S.rf
  have hl := lv_entry [.ref (B 16 0), .int a1] (n := 4) (Nat.le_of_ble_eq_true rfl)
  rw [lg_entry_eq]
  generalize (lg_sl [.ref (B 16 0), .int a1] ++ List.replicate (4 - (lg_sl [.ref (B 16 0), .int a1]).length) Slot.unset).toArray = ls at hl ⊢
  have hl : lv_has ls 4 [(0, .ref (B 16 0)), (1, .int a1)] := hl
  have q0 := hts (.constantLong RX1 74 (10000)) (List.mem_of_getElem? (i := 1) rfl)
  unfold f_X1_share at hf
  refine lv_aload_n hx hb dX1_share_0 rfl (lv_at hl 0 rfl) ?_
  refine lv_iload_n hx hb dX1_share_1 rfl (lv_at hl 1 rfl) ?_
  obtain ⟨r1, hc, hf⟩ := bd_out hf
  refine y_l (va_runV (As := [.int a1]) (rest := []) hfix (m_X1_together l G B E S a1 r1 hc) (cwV 1 hts gX1_share_X1_together rfl rfl rfl ⟨rfl, hd_X1_together⟩ ⟨Nat.le_of_ble_eq_true rfl, Nat.le_of_ble_eq_true rfl⟩) (y_pv hF hW hS (c16 E) (e16 _ _ _ _ _ _) rfl) rfl rfl hl.1 rfl (lv_room (Nat.le_of_ble_eq_true rfl)) dX1_share_2 ⟨Nat.le_of_ble_eq_true rfl, Nat.le_of_ble_eq_true rfl⟩) hS (fun H locs hW hS => ?_)
  refine lv_lstore_n (lv' := [(2, .long r1), (0, .ref (B 16 0)), (1, .int a1)]) hx hb dX1_share_5 rfl hl (by decide) rfl (fun ls hl => ?_)
  refine lv_lload_n hx hb dX1_share_6 rfl (lv_at hl 0 rfl) ?_
  refine lv_lconst (v := 0) hx hb dX1_share_7 rfl ?_
  refine W.lcmp hx hb dX1_share_8 ?_
  refine lv_if_le (tgt := 26) hx hb dX1_share_9 (by decide) (fun h => ?_) (fun h => ?_)
  · have h := (lg_cmp_le _ _).mp h
    have hf := if_t h hf
    refine lv_lconst (v := 0) hx hb dX1_share_26 rfl ?_
    exact zr_l hf hx hb hr hF hW hS dX1_share_27 hlocks
  · have h := fun q => h ((lg_cmp_le _ _).mpr q)
    have hf := if_f h hf
    refine lv_aload_n hx hb dX1_share_12 rfl (lv_at hl 1 rfl) ?_
    refine lv_iload_n hx hb dX1_share_13 rfl (lv_at hl 2 rfl) ?_
    obtain ⟨r2, hc, hf⟩ := bd_out hf
    refine y_l (va_runV (As := [.int a1]) (rest := []) hfix (m_X1_fit l G B E S a1 r2 hc) (cwV 1 hts gX1_share_X1_fit rfl rfl rfl ⟨rfl, hd_X1_fit⟩ ⟨Nat.le_of_ble_eq_true rfl, Nat.le_of_ble_eq_true rfl⟩) (y_pv hF hW hS (c16 E) (e16 _ _ _ _ _ _) rfl) rfl rfl hl.1 rfl (lv_room (Nat.le_of_ble_eq_true rfl)) dX1_share_14 ⟨Nat.le_of_ble_eq_true rfl, Nat.le_of_ble_eq_true rfl⟩) hS (fun H locs hW hS => ?_)
    refine lv_ldc2 hx hb hown q0 dX1_share_17 ?_
    refine lv_lmul hx hb dX1_share_20 ?_
    refine lv_lload_n hx hb dX1_share_21 rfl (lv_at hl 0 rfl) ?_
    obtain ⟨hz3, hf⟩ := ck_out hf
    have hz3 := nz_ hz3
    refine lv_ldiv hx hb dX1_share_22 hz3 ?_
    refine lv_goto (tgt := 27) hx hb dX1_share_23 (by decide) ?_
    exact zr_l hf hx hb hr hF hW hS dX1_share_27 hlocks
set_option maxHeartbeats 4000000 in
set_option maxRecDepth 100000 in
theorem m_X1_endsNow (l : Launch) (G : GE) (B : Nat → Nat → Nat) (E : EN)  (S : ST)  (rr : Int64) (SS : ST) (hf : f_X1_endsNow E S = some (rr, SS)) : Met l yX1_endsNow wsX1_endsNow (rmN 4) (va_Pc [.ref (B 16 0)] (WS G B E S)) (QL G B E SS rr) 0 0 (AA G) := by
  refine Met.ofW (cc := cX1_endsNow) (maxL := 4) (ret := (some .long)) (by decide) rfl ?_
  intro p e s m args below meth c s₁ B0 hml hv
  obtain ⟨rfl, hW, hF⟩ := hv
  have hx := B0.exec
  have hb := B0.bytes
  have hr := B0.returns
  have hts := atoms_spec (ws := wsX1_endsNow) B0.pre
  have hown : s.vm.findClass RX1 = some m.cls := findClass_of_methodNamed B0.named
  have hlocks := B0.notSynchronized
  have hK := hF.1
  have hfix : CallFix p m c cX1_endsNow 4 s [.ref (B 16 0)].toArray wsX1_endsNow RX1 := ⟨hx, hb, hml, hown, hts⟩
  have hS : va_S (AA G) s.heap s.heap [] := va_S.rf
  have hl := lv_entry [.ref (B 16 0)] (n := 4) (Nat.le_of_ble_eq_true rfl)
  rw [lg_entry_eq]
  generalize (lg_sl [.ref (B 16 0)] ++ List.replicate (4 - (lg_sl [.ref (B 16 0)]).length) Slot.unset).toArray = ls at hl ⊢
  have hl : lv_has ls 4 [(0, .ref (B 16 0))] := hl
  have q0 := hts (.fieldLink RX1 11 "MovesUp$Course" "weights" "[[J") (List.mem_of_getElem? (i := 1) rfl)
  have q1 := hts (.fieldLink RX1 33 "MovesUp$Course" "chances" "LMovesUp$Chances;") (List.mem_of_getElem? (i := 2) rfl)
  have q2 := hts (.fieldLink RX1 16 "MovesUp$Course" "classes" "[I") (List.mem_of_getElem? (i := 3) rfl)
  have q3 := hts (.fieldLink RX1 20 "MovesUp$Course" "moved" "[I") (List.mem_of_getElem? (i := 4) rfl)
  have q4 := hts (.initialized RX0) (List.mem_of_getElem? (i := 6) rfl)
  have q5 := hts (.instanceMethod yX0_asks) (List.mem_of_getElem? (i := 5) rfl)
  have q6 := hts (.selects RX0 yX0_asks yX0_asks) (List.mem_of_getElem? (i := 7) rfl)
  have hi1 : ∀ w ∈ u_ws RX1 TX1 7, w ∈ wsX1_endsNow := in_seg 28 rfl
  have w4 : ∀ (n4 : Nat) (S : ST) (v1 : Int64) (v3 : Int32) , f_X1_endsNow_b4 E n4 S v1 v3 = some (rr, SS) → ∀ (H : Heap) (locs : List Loc) (ls : Array Slot), WH G B E S H → va_S (AA G) s.heap H locs → lv_has ls 4 [(0, .ref (B 16 0)), (1, .long v1), (3, .int v3)] → W p l e (headSpec wsX1_endsNow (rmN 4)).room s m [.ref (B 16 0)].toArray below meth c H locs 0 0 (MQ below (QL G B E SS rr) [.ref (B 16 0)].toArray s 0 0 (AA G)) (F0 m 4 ls []) := by
    intro n4
    induction n4 with
    | zero =>
      intro S v1 v3 hf
      exact absurd (show (none : Option (Int64 × ST)) = some (rr, SS) from hf) (fun h => by cases h)
    | succ n4 ih4 =>
      intro S v1 v3 hf H locs ls hW hS hl
      have hf : g_X1_endsNow_b4 E (f_X1_endsNow_b4 E n4) S v1 v3 = some (rr, SS) := hf
      unfold g_X1_endsNow_b4 at hf
      refine lv_iload_n hx hb dX1_endsNow_4 rfl (lv_at hl 2 rfl) ?_
      refine lv_iconst (v := 5) hx hb dX1_endsNow_5 rfl ?_
      refine lv_icmp_ge (tgt := 50) hx hb dX1_endsNow_6 (by decide) (fun h => ?_) (fun h => ?_)
      · have hf := if_t h hf
        refine lv_lload_n hx hb dX1_endsNow_50 rfl (lv_at hl 1 rfl) ?_
        exact z_l hf hx hb hr hF hW hS dX1_endsNow_51 hlocks
      · have hf := if_f h hf
        refine lv_lload_n hx hb dX1_endsNow_9 rfl (lv_at hl 1 rfl) ?_
        refine lv_aload_n hx hb dX1_endsNow_10 rfl (lv_at hl 0 rfl) ?_
        refine x_get hx hb hts hi1 hown hK hW (c16 E) (e16 _ _ _ _ _ _) rfl 1 (Nat.le_of_ble_eq_true rfl) q0 (fun _ h => h) (v := .ref (B 17 0)) rfl dX1_endsNow_11 ?_
        refine lv_iconst (v := 5) hx hb dX1_endsNow_14 rfl ?_
        refine x_aaldF hx hb hK hW (c17 E) (t := 7) rfl rfl (e17 _ _ _ _ _ _) (ib_in (by decide)) (jn := 5) rfl dX1_endsNow_15 ?_
        refine lv_iload_n hx hb dX1_endsNow_16 rfl (lv_at hl 2 rfl) ?_
        obtain ⟨hi_1, hf⟩ := ck_out hf
        have hi_1 := ib_in hi_1
        refine x_lald hx hb hK hW (c28 E (by decide)) (e28 _ _ _ _ _ _) hi_1 (jn := v3.toNatClampNeg) rfl dX1_endsNow_17 ?_
        refine lv_aload_n hx hb dX1_endsNow_18 rfl (lv_at hl 0 rfl) ?_
        refine x_get hx hb hts hi1 hown hK hW (c16 E) (e16 _ _ _ _ _ _) rfl 0 (Nat.le_of_ble_eq_true rfl) q1 (fun _ h => h) (v := .ref (B 10 0)) rfl dX1_endsNow_19 ?_
        refine lv_iconst (v := 2) hx hb dX1_endsNow_22 rfl ?_
        refine lv_iload_n hx hb dX1_endsNow_23 rfl (lv_at hl 2 rfl) ?_
        refine lv_aload_n hx hb dX1_endsNow_24 rfl (lv_at hl 0 rfl) ?_
        refine x_get hx hb hts hi1 hown hK hW (c16 E) (e16 _ _ _ _ _ _) rfl 2 (Nat.le_of_ble_eq_true rfl) q2 (fun _ h => h) (v := .ref (B 18 0)) rfl dX1_endsNow_25 ?_
        refine lv_iconst (v := 5) hx hb dX1_endsNow_28 rfl ?_
        refine x_iald hx hb hK hW (c18 E) (e18 _ _ _ _ _ _) (ib_in (by decide)) (jn := 5) rfl dX1_endsNow_29 ?_
        refine lv_iconst (v := 5) hx hb dX1_endsNow_30 rfl ?_
        refine lv_aload_n hx hb dX1_endsNow_31 rfl (lv_at hl 0 rfl) ?_
        refine x_get hx hb hts hi1 hown hK hW (c16 E) (e16 _ _ _ _ _ _) rfl 3 (Nat.le_of_ble_eq_true rfl) q3 (fun _ h => h) (v := .ref (B 19 0)) rfl dX1_endsNow_32 ?_
        refine lv_iconst (v := 5) hx hb dX1_endsNow_35 rfl ?_
        refine x_iald hx hb hK hW (c19 E) (e19 _ _ _ _ _ _) (ib_in (by decide)) (jn := 5) rfl dX1_endsNow_36 ?_
        obtain ⟨r2, S3, hc, hf⟩ := bd2_out hf
        refine y_i (va_runVN (As := [.int (2 : Int32), .int v3, .int (gI S 18 0 5), .int (5 : Int32), .int (gI S 19 0 5)]) (rest := [.long (gL S 28 5 v3.toNatClampNeg), .long v1]) hfix (m_X0_asks l G B E S (2 : Int32) v3 (gI S 18 0 5) (5 : Int32) (gI S 19 0 5) r2 S3 hc) ⟨va_cnB 5 hts gX1_endsNow_X0_asks_n76 rfl rfl rfl (NW.m hF.2.1 13 (q := ("MovesUp$Course", 76, "MovesUp$Chances", "asks", "(IIIII)I", "MovesUp")) rfl) q4 hd_X0_asks ⟨Nat.le_of_ble_eq_true rfl, Nat.le_of_ble_eq_true rfl⟩, q5, q6⟩ (y_pv hF hW hS (c10 E) (e10 _ _ _ _ _ _) rfl) rfl rfl hl.1 rfl (lv_room (Nat.le_of_ble_eq_true rfl)) dX1_endsNow_37 ⟨Nat.le_of_ble_eq_true rfl, Nat.le_of_ble_eq_true rfl⟩) hS (fun H locs hW hS => ?_)
        refine lv_i2l hx hb dX1_endsNow_40 rfl ?_
        refine lv_lmul hx hb dX1_endsNow_41 ?_
        refine lv_ladd hx hb dX1_endsNow_42 ?_
        obtain ⟨x4, e_x4, hf⟩ := lt_out hf
        refine x_nmL e_x4 ?_
        refine lv_lstore_n (lv' := [(1, .long x4), (0, .ref (B 16 0)), (3, .int v3)]) hx hb dX1_endsNow_43 rfl hl (by decide) rfl (fun ls hl => ?_)
        obtain ⟨x5, e_x5, hf⟩ := lt_out hf
        refine lv_iinc (v := x5) (lv' := [(3, .int x5), (1, .long x4), (0, .ref (B 16 0))]) hx hb dX1_endsNow_44 hl (k := 2) rfl (by rw [e_x5]; rfl) (by decide) rfl (fun ls hl => ?_)
        refine lv_goto (tgt := 4) hx hb dX1_endsNow_47 (by decide) ?_
        exact ih4 S3 x4 x5  hf _ _ _ hW hS (lv_sub hl [2, 1, 0] rfl)
  unfold f_X1_endsNow at hf
  refine lv_lconst (v := 0) hx hb dX1_endsNow_0 rfl ?_
  refine lv_lstore_n (lv' := [(1, .long (0 : Int64)), (0, .ref (B 16 0))]) hx hb dX1_endsNow_1 rfl hl (by decide) rfl (fun ls hl => ?_)
  refine lv_iconst (v := 0) hx hb dX1_endsNow_2 rfl ?_
  refine lv_istore_n (lv' := [(3, .int (0 : Int32)), (1, .long (0 : Int64)), (0, .ref (B 16 0))]) hx hb dX1_endsNow_3 rfl hl (by decide) rfl (fun ls hl => ?_)
  exact w4 E.1 S (0 : Int64) (0 : Int32)  hf _ _ _ hW hS (lv_sub hl [2, 1, 0] rfl)
set_option maxHeartbeats 4000000 in
set_option maxRecDepth 100000 in
theorem n_X1_ends (l : Launch) (G : GE) (B : Nat → Nat → Nat) (E : EN) (d : Nat) (hrec : (∀ (S : ST) (a1 : Int32) (r : Int64) (S2 : ST), f_gends E d 0 S a1 = some (r, S2) → Met l yX1_ends wsX1_ends (rmN (5 + d)) (va_Pc [.ref (B 16 0), .int a1] (WS G B E S)) (QL G B E S2 r) 0 0 (AA G)))  (S : ST) (a1 : Int32) (rr : Int64) (SS : ST) (hf : b_X1_ends E (f_gends E d 0) S a1 = some (rr, SS)) : Met l yX1_ends wsX1_ends (rmN (5 + (d + 1))) (va_Pc [.ref (B 16 0), .int a1] (WS G B E S)) (QL G B E SS rr) 0 0 (AA G) := by
  refine Met.ofW (cc := cX1_ends) (maxL := 5) (ret := (some .long)) (by decide) rfl ?_
  intro p e s m args below meth c s₁ B0 hml hv
  obtain ⟨rfl, hW, hF⟩ := hv
  have hx := B0.exec
  have hb := B0.bytes
  have hr := B0.returns
  have hts := atoms_spec (ws := wsX1_ends) B0.pre
  have hown : s.vm.findClass RX1 = some m.cls := findClass_of_methodNamed B0.named
  have hlocks := B0.notSynchronized
  have hK := hF.1
  have hfix : CallFix p m c cX1_ends 5 s [.ref (B 16 0), .int a1].toArray wsX1_ends RX1 := ⟨hx, hb, hml, hown, hts⟩
  have hS : va_S (AA G) s.heap s.heap [] := va_S.rf
  have hl := lv_entry [.ref (B 16 0), .int a1] (n := 5) (Nat.le_of_ble_eq_true rfl)
  rw [lg_entry_eq]
  generalize (lg_sl [.ref (B 16 0), .int a1] ++ List.replicate (5 - (lg_sl [.ref (B 16 0), .int a1]).length) Slot.unset).toArray = ls at hl ⊢
  have hl : lv_has ls 5 [(0, .ref (B 16 0)), (1, .int a1)] := hl
  have w15 : ∀ (n15 : Nat) (S : ST) (v1 : Int32) (v2 : Int64) (v4 : Int32) , f_X1_ends_b15 E (f_gends E d 0) n15 S v1 v2 v4 = some (rr, SS) → ∀ (H : Heap) (locs : List Loc) (ls : Array Slot), WH G B E S H → va_S (AA G) s.heap H locs → lv_has ls 5 [(0, .ref (B 16 0)), (1, .int v1), (2, .long v2), (4, .int v4)] → W p l e (headSpec wsX1_ends (rmN (5 + (d + 1)))).room s m [.ref (B 16 0), .int a1].toArray below meth c H locs 0 0 (MQ below (QL G B E SS rr) [.ref (B 16 0), .int a1].toArray s 0 0 (AA G)) (F0 m 15 ls []) := by
    intro n15
    induction n15 with
    | zero =>
      intro S v1 v2 v4 hf
      exact absurd (show (none : Option (Int64 × ST)) = some (rr, SS) from hf) (fun h => by cases h)
    | succ n15 ih15 =>
      intro S v1 v2 v4 hf H locs ls hW hS hl
      have hf : g_X1_ends_b15 E (f_gends E d 0) (f_X1_ends_b15 E (f_gends E d 0) n15) S v1 v2 v4 = some (rr, SS) := hf
      unfold g_X1_ends_b15 at hf
      refine lv_iload hx hb dX1_ends_15 (lv_at hl 3 rfl) ?_
      refine lv_iconst (v := 2) hx hb dX1_ends_17 rfl ?_
      refine lv_icmp_ge (tgt := 54) hx hb dX1_ends_18 (by decide) (fun h => ?_) (fun h => ?_)
      · have hf := if_t h hf
        refine lv_lload_n hx hb dX1_ends_54 rfl (lv_at hl 2 rfl) ?_
        exact z_l hf hx hb hr hF hW hS dX1_ends_55 hlocks
      · have hf := if_f h hf
        refine lv_aload_n hx hb dX1_ends_21 rfl (lv_at hl 0 rfl) ?_
        refine lv_iload_n hx hb dX1_ends_22 rfl (lv_at hl 1 rfl) ?_
        refine lv_iload hx hb dX1_ends_23 (lv_at hl 3 rfl) ?_
        obtain ⟨S1, hc, hf⟩ := bd_out hf
        refine y_v (va_runV (As := [.int v1, .int v4]) (rest := []) hfix (m_X1_pass l G B E S v1 v4 S1 hc) (cwV 2 hts gX1_ends_X1_pass rfl rfl rfl ⟨rfl, hd_X1_pass⟩ ⟨(by show 4 + 1 ≤ 5 + (d + 1); omega), (by show 8 + (12 + 11) + 60 * (4) ≤ 60 * (5 + (d + 1)); omega)⟩) (y_pv hF hW hS (c16 E) (e16 _ _ _ _ _ _) rfl) rfl rfl hl.1 rfl (lv_room (Nat.le_of_ble_eq_true rfl)) dX1_ends_25 ⟨Nat.le_of_ble_eq_true rfl, Nat.le_of_ble_eq_true rfl⟩) hS (fun H locs hW hS => ?_)
        refine lv_aload_n hx hb dX1_ends_28 rfl (lv_at hl 0 rfl) ?_
        refine lv_iload_n hx hb dX1_ends_29 rfl (lv_at hl 1 rfl) ?_
        refine lv_aload_n hx hb dX1_ends_30 rfl (lv_at hl 0 rfl) ?_
        refine lv_iload_n hx hb dX1_ends_31 rfl (lv_at hl 1 rfl) ?_
        obtain ⟨r2, hc, hf⟩ := bd_out hf
        refine y_i (va_runV (As := [.int v1]) (rest := [.int v1, .ref (B 16 0)]) hfix (m_X1_wish l G B E S1 v1 r2 hc) (cwV 1 hts gX1_ends_X1_wish rfl rfl rfl ⟨rfl, hd_X1_wish⟩ ⟨(by show 4 + 1 ≤ 5 + (d + 1); omega), (by show 8 + (2 + 11) + 60 * (4) ≤ 60 * (5 + (d + 1)); omega)⟩) (y_pv hF hW hS (c16 E) (e16 _ _ _ _ _ _) rfl) rfl rfl hl.1 rfl (lv_room (Nat.le_of_ble_eq_true rfl)) dX1_ends_32 ⟨Nat.le_of_ble_eq_true rfl, Nat.le_of_ble_eq_true rfl⟩) hS (fun H locs hW hS => ?_)
        obtain ⟨S3, hc, hf⟩ := bd_out hf
        refine y_v (va_runV (As := [.int v1, .int r2]) (rest := []) hfix (m_X1_settle l G B E S1 v1 r2 S3 hc) (cwV 2 hts gX1_ends_X1_settle rfl rfl rfl ⟨rfl, hd_X1_settle⟩ ⟨(by show 2 + 1 ≤ 5 + (d + 1); omega), (by show 8 + (3 + 11) + 60 * (2) ≤ 60 * (5 + (d + 1)); omega)⟩) (y_pv hF hW hS (c16 E) (e16 _ _ _ _ _ _) rfl) rfl rfl hl.1 rfl (lv_room (Nat.le_of_ble_eq_true rfl)) dX1_ends_35 ⟨Nat.le_of_ble_eq_true rfl, Nat.le_of_ble_eq_true rfl⟩) hS (fun H locs hW hS => ?_)
        refine lv_lload_n hx hb dX1_ends_38 rfl (lv_at hl 2 rfl) ?_
        refine lv_aload_n hx hb dX1_ends_39 rfl (lv_at hl 0 rfl) ?_
        refine lv_iload_n hx hb dX1_ends_40 rfl (lv_at hl 1 rfl) ?_
        refine lv_iconst (v := 1) hx hb dX1_ends_41 rfl ?_
        refine lv_iadd hx hb dX1_ends_42 ?_
        obtain ⟨r4, S5, hc, hf⟩ := bd2_out hf
        refine y_l (va_runV (As := [.int (v1 + (1 : Int32))]) (rest := [.long v2]) hfix (hrec S3 (v1 + (1 : Int32)) r4 S5 hc) (cwV 1 hts gX1_ends_X1_ends rfl rfl rfl ⟨rfl, hd_X1_ends⟩ ⟨(by show 5 + d + 1 ≤ 5 + (d + 1); omega), (by show 8 + (5 + 11) + 60 * (5 + d) ≤ 60 * (5 + (d + 1)); omega)⟩) (y_pv hF hW hS (c16 E) (e16 _ _ _ _ _ _) rfl) rfl rfl hl.1 rfl (lv_room (Nat.le_of_ble_eq_true rfl)) dX1_ends_43 ⟨Nat.le_of_ble_eq_true rfl, Nat.le_of_ble_eq_true rfl⟩) hS (fun H locs hW hS => ?_)
        refine lv_ladd hx hb dX1_ends_46 ?_
        obtain ⟨x6, e_x6, hf⟩ := lt_out hf
        refine x_nmL e_x6 ?_
        refine lv_lstore_n (lv' := [(2, .long x6), (0, .ref (B 16 0)), (1, .int v1), (4, .int v4)]) hx hb dX1_ends_47 rfl hl (by decide) rfl (fun ls hl => ?_)
        obtain ⟨x7, e_x7, hf⟩ := lt_out hf
        refine lv_iinc (v := x7) (lv' := [(4, .int x7), (2, .long x6), (0, .ref (B 16 0)), (1, .int v1)]) hx hb dX1_ends_48 hl (k := 3) rfl (by rw [e_x7]; rfl) (by decide) rfl (fun ls hl => ?_)
        refine lv_goto (tgt := 15) hx hb dX1_ends_51 (by decide) ?_
        exact ih15 S5 v1 x6 x7  hf _ _ _ hW hS (lv_sub hl [2, 3, 1, 0] rfl)
  unfold b_X1_ends at hf
  refine lv_iload_n hx hb dX1_ends_0 rfl (lv_at hl 1 rfl) ?_
  refine lv_iconst (v := 5) hx hb dX1_ends_1 rfl ?_
  refine lv_icmp_lt (tgt := 10) hx hb dX1_ends_2 (by decide) (fun h => ?_) (fun h => ?_)
  · have hf := if_t h hf
    refine lv_lconst (v := 0) hx hb dX1_ends_10 rfl ?_
    refine lv_lstore_n (lv' := [(2, .long (0 : Int64)), (0, .ref (B 16 0)), (1, .int a1)]) hx hb dX1_ends_11 rfl hl (by decide) rfl (fun ls hl => ?_)
    refine lv_iconst (v := 0) hx hb dX1_ends_12 rfl ?_
    refine lv_istore (lv' := [(4, .int (0 : Int32)), (2, .long (0 : Int64)), (0, .ref (B 16 0)), (1, .int a1)]) hx hb dX1_ends_13 hl (by decide) rfl (fun ls hl => ?_)
    exact w15 E.1 S a1 (0 : Int64) (0 : Int32)  hf _ _ _ hW hS (lv_sub hl [2, 3, 1, 0] rfl)
  · have hf := if_f h hf
    refine lv_aload_n hx hb dX1_ends_5 rfl (lv_at hl 0 rfl) ?_
    obtain ⟨r8, S9, hc, hf⟩ := bd2_out hf
    refine y_l (va_runV (As := []) (rest := []) hfix (m_X1_endsNow l G B E S  r8 S9 hc) (cwV 0 hts gX1_ends_X1_endsNow rfl rfl rfl ⟨rfl, hd_X1_endsNow⟩ ⟨(by show 4 + 1 ≤ 5 + (d + 1); omega), (by show 8 + (4 + 11) + 60 * (4) ≤ 60 * (5 + (d + 1)); omega)⟩) (y_pv hF hW hS (c16 E) (e16 _ _ _ _ _ _) rfl) rfl rfl hl.1 rfl (lv_room (Nat.le_of_ble_eq_true rfl)) dX1_ends_6 ⟨Nat.le_of_ble_eq_true rfl, Nat.le_of_ble_eq_true rfl⟩) hS (fun H locs hW hS => ?_)
    exact z_l hf hx hb hr hF hW hS dX1_ends_9 hlocks
set_option maxHeartbeats 4000000 in
theorem n_gends (l : Launch) (G : GE) (B : Nat → Nat → Nat) (E : EN) : ∀ d : Nat, (∀ (S : ST) (a1 : Int32) (r : Int64) (S2 : ST), f_gends E d 0 S a1 = some (r, S2) → Met l yX1_ends wsX1_ends (rmN (5 + d)) (va_Pc [.ref (B 16 0), .int a1] (WS G B E S)) (QL G B E S2 r) 0 0 (AA G)) := by
  intro d
  induction d with
  | zero =>
    exact fun S a1 r S2 hf => absurd (show (none : Option (Int64 × ST)) = some (r, S2) from hf) (fun h => by cases h)
  | succ d ih =>
    exact fun S a1 r S2 hf => n_X1_ends l G B E d ih S a1 r S2 hf
theorem m_X1_ends (l : Launch) (G : GE) (B : Nat → Nat → Nat) (E : EN) (d : Nat) (S : ST) (a1 : Int32) (r : Int64) (S2 : ST) (hf : f_X1_ends E d S a1 = some (r, S2)) : Met l yX1_ends wsX1_ends (rmN (5 + d)) (va_Pc [.ref (B 16 0), .int a1] (WS G B E S)) (QL G B E S2 r) 0 0 (AA G) := (n_gends l G B E d) S a1 r S2 hf

set_option maxHeartbeats 4000000 in
set_option maxRecDepth 100000 in
theorem m_J6_bitCount_0f7a4 (l : Launch) (G : GE) (B : Nat → Nat → Nat) (E : EN)  (S : ST) (a1 : Int32) (rr : Int32) (hf : f_J6_bitCount_0f7a4 E S a1 = some rr) : Met l yJ6_bitCount_0f7a4 wsJ6_bitCount_0f7a4 (rmN 1) (va_Pc [.int a1] (WS G B E S)) (QI G B E S rr) 0 0 (AA G) := by
  refine Met.ofW (cc := cJ6_bitCount_0f7a4) (maxL := 1) (ret := (some .int)) (by decide) rfl ?_
  intro p e s m args below meth c s₁ B0 hml hv
  obtain ⟨rfl, hW, hF⟩ := hv
  have hx := B0.exec
  have hb := B0.bytes
  have hr := B0.returns
  have hts := atoms_spec (ws := wsJ6_bitCount_0f7a4) B0.pre
  have hown : s.vm.findClass RJ6 = some m.cls := findClass_of_methodNamed B0.named
  have hlocks := B0.notSynchronized
  have hK := hF.1
  have hfix : CallFix p m c cJ6_bitCount_0f7a4 1 s [.int a1].toArray wsJ6_bitCount_0f7a4 RJ6 := ⟨hx, hb, hml, hown, hts⟩
  have hS : va_S (AA G) s.heap s.heap [] := va_S.rf
  have hl := lv_entry [.int a1] (n := 1) (Nat.le_of_ble_eq_true rfl)
  rw [lg_entry_eq]
  generalize (lg_sl [.int a1] ++ List.replicate (1 - (lg_sl [.int a1]).length) Slot.unset).toArray = ls at hl ⊢
  have hl : lv_has ls 1 [(0, .int a1)] := hl
  have q0 := hts (.constant RJ6 265 (1431655765)) (List.mem_of_getElem? (i := 1) rfl)
  have q1 := hts (.constant RJ6 266 (858993459)) (List.mem_of_getElem? (i := 2) rfl)
  have q2 := hts (.constant RJ6 267 (252645135)) (List.mem_of_getElem? (i := 3) rfl)
  unfold f_J6_bitCount_0f7a4 at hf
  refine lv_iload_n hx hb dJ6_bitCount_0f7a4_0 rfl (lv_at hl 0 rfl) ?_
  refine lv_iload_n hx hb dJ6_bitCount_0f7a4_1 rfl (lv_at hl 0 rfl) ?_
  refine lv_iconst (v := 1) hx hb dJ6_bitCount_0f7a4_2 rfl ?_
  refine lv_iushr hx hb dJ6_bitCount_0f7a4_3 rfl ?_
  refine lv_ldcw hx hb hown q0 dJ6_bitCount_0f7a4_4 ?_
  refine lv_iand hx hb dJ6_bitCount_0f7a4_7 ?_
  refine lv_isub hx hb dJ6_bitCount_0f7a4_8 ?_
  obtain ⟨x1, e_x1, hf⟩ := lt_out hf
  refine x_nmI e_x1 ?_
  refine lv_istore_n (lv' := [(0, .int x1)]) hx hb dJ6_bitCount_0f7a4_9 rfl hl (by decide) rfl (fun ls hl => ?_)
  refine lv_iload_n hx hb dJ6_bitCount_0f7a4_10 rfl (lv_at hl 0 rfl) ?_
  refine lv_ldcw hx hb hown q1 dJ6_bitCount_0f7a4_11 ?_
  refine lv_iand hx hb dJ6_bitCount_0f7a4_14 ?_
  refine lv_iload_n hx hb dJ6_bitCount_0f7a4_15 rfl (lv_at hl 0 rfl) ?_
  refine lv_iconst (v := 2) hx hb dJ6_bitCount_0f7a4_16 rfl ?_
  refine lv_iushr hx hb dJ6_bitCount_0f7a4_17 rfl ?_
  refine lv_ldcw hx hb hown q1 dJ6_bitCount_0f7a4_18 ?_
  refine lv_iand hx hb dJ6_bitCount_0f7a4_21 ?_
  refine lv_iadd hx hb dJ6_bitCount_0f7a4_22 ?_
  obtain ⟨x2, e_x2, hf⟩ := lt_out hf
  refine x_nmI e_x2 ?_
  refine lv_istore_n (lv' := [(0, .int x2)]) hx hb dJ6_bitCount_0f7a4_23 rfl hl (by decide) rfl (fun ls hl => ?_)
  refine lv_iload_n hx hb dJ6_bitCount_0f7a4_24 rfl (lv_at hl 0 rfl) ?_
  refine lv_iload_n hx hb dJ6_bitCount_0f7a4_25 rfl (lv_at hl 0 rfl) ?_
  refine lv_iconst (v := 4) hx hb dJ6_bitCount_0f7a4_26 rfl ?_
  refine lv_iushr hx hb dJ6_bitCount_0f7a4_27 rfl ?_
  refine lv_iadd hx hb dJ6_bitCount_0f7a4_28 ?_
  refine lv_ldcw hx hb hown q2 dJ6_bitCount_0f7a4_29 ?_
  refine lv_iand hx hb dJ6_bitCount_0f7a4_32 ?_
  obtain ⟨x3, e_x3, hf⟩ := lt_out hf
  refine x_nmI e_x3 ?_
  refine lv_istore_n (lv' := [(0, .int x3)]) hx hb dJ6_bitCount_0f7a4_33 rfl hl (by decide) rfl (fun ls hl => ?_)
  refine lv_iload_n hx hb dJ6_bitCount_0f7a4_34 rfl (lv_at hl 0 rfl) ?_
  refine lv_iload_n hx hb dJ6_bitCount_0f7a4_35 rfl (lv_at hl 0 rfl) ?_
  refine lv_bipush (v := 8) hx hb dJ6_bitCount_0f7a4_36 (by decide) ?_
  refine lv_iushr hx hb dJ6_bitCount_0f7a4_38 rfl ?_
  refine lv_iadd hx hb dJ6_bitCount_0f7a4_39 ?_
  obtain ⟨x4, e_x4, hf⟩ := lt_out hf
  refine x_nmI e_x4 ?_
  refine lv_istore_n (lv' := [(0, .int x4)]) hx hb dJ6_bitCount_0f7a4_40 rfl hl (by decide) rfl (fun ls hl => ?_)
  refine lv_iload_n hx hb dJ6_bitCount_0f7a4_41 rfl (lv_at hl 0 rfl) ?_
  refine lv_iload_n hx hb dJ6_bitCount_0f7a4_42 rfl (lv_at hl 0 rfl) ?_
  refine lv_bipush (v := 16) hx hb dJ6_bitCount_0f7a4_43 (by decide) ?_
  refine lv_iushr hx hb dJ6_bitCount_0f7a4_45 rfl ?_
  refine lv_iadd hx hb dJ6_bitCount_0f7a4_46 ?_
  obtain ⟨x5, e_x5, hf⟩ := lt_out hf
  refine x_nmI e_x5 ?_
  refine lv_istore_n (lv' := [(0, .int x5)]) hx hb dJ6_bitCount_0f7a4_47 rfl hl (by decide) rfl (fun ls hl => ?_)
  refine lv_iload_n hx hb dJ6_bitCount_0f7a4_48 rfl (lv_at hl 0 rfl) ?_
  refine lv_bipush (v := 63) hx hb dJ6_bitCount_0f7a4_49 (by decide) ?_
  refine lv_iand hx hb dJ6_bitCount_0f7a4_51 ?_
  exact zr_i hf hx hb hr rfl hF hW hS dJ6_bitCount_0f7a4_52 hlocks
set_option maxHeartbeats 4000000 in
set_option maxRecDepth 100000 in
theorem n_X1_rights (l : Launch) (G : GE) (B : Nat → Nat → Nat) (E : EN) (d : Nat) (hrec : (∀ (S : ST) (a1 : Int32) (r : Int64) (S2 : ST), f_grights E d 0 S a1 = some (r, S2) → Met l yX1_rights wsX1_rights (rmN (5 + d)) (va_Pc [.ref (B 16 0), .int a1] (WS G B E S)) (QL G B E S2 r) 0 0 (AA G)))  (S : ST) (a1 : Int32) (rr : Int64) (SS : ST) (hf : b_X1_rights E (f_grights E d 0) S a1 = some (rr, SS)) : Met l yX1_rights wsX1_rights (rmN (5 + (d + 1))) (va_Pc [.ref (B 16 0), .int a1] (WS G B E S)) (QL G B E SS rr) 0 0 (AA G) := by
  refine Met.ofW (cc := cX1_rights) (maxL := 5) (ret := (some .long)) (by decide) rfl ?_
  intro p e s m args below meth c s₁ B0 hml hv
  obtain ⟨rfl, hW, hF⟩ := hv
  have hx := B0.exec
  have hb := B0.bytes
  have hr := B0.returns
  have hts := atoms_spec (ws := wsX1_rights) B0.pre
  have hown : s.vm.findClass RX1 = some m.cls := findClass_of_methodNamed B0.named
  have hlocks := B0.notSynchronized
  have hK := hF.1
  have hfix : CallFix p m c cX1_rights 5 s [.ref (B 16 0), .int a1].toArray wsX1_rights RX1 := ⟨hx, hb, hml, hown, hts⟩
  have hS : va_S (AA G) s.heap s.heap [] := va_S.rf
  have hl := lv_entry [.ref (B 16 0), .int a1] (n := 5) (Nat.le_of_ble_eq_true rfl)
  rw [lg_entry_eq]
  generalize (lg_sl [.ref (B 16 0), .int a1] ++ List.replicate (5 - (lg_sl [.ref (B 16 0), .int a1]).length) Slot.unset).toArray = ls at hl ⊢
  have hl : lv_has ls 5 [(0, .ref (B 16 0)), (1, .int a1)] := hl
  have q0 := hts (.fieldLink RX1 30 "MovesUp$Course" "marks" "I") (List.mem_of_getElem? (i := 1) rfl)
  have hi1 : ∀ w ∈ u_ws RX1 TX1 7, w ∈ wsX1_rights := in_seg 90 rfl
  have w25 : ∀ (n25 : Nat) (S : ST) (v1 : Int32) (v2 : Int64) (v4 : Int32) , f_X1_rights_b25 E (f_grights E d 0) n25 S v1 v2 v4 = some (rr, SS) → ∀ (H : Heap) (locs : List Loc) (ls : Array Slot), WH G B E S H → va_S (AA G) s.heap H locs → lv_has ls 5 [(0, .ref (B 16 0)), (1, .int v1), (2, .long v2), (4, .int v4)] → W p l e (headSpec wsX1_rights (rmN (5 + (d + 1)))).room s m [.ref (B 16 0), .int a1].toArray below meth c H locs 0 0 (MQ below (QL G B E SS rr) [.ref (B 16 0), .int a1].toArray s 0 0 (AA G)) (F0 m 25 ls []) := by
    intro n25
    induction n25 with
    | zero =>
      intro S v1 v2 v4 hf
      exact absurd (show (none : Option (Int64 × ST)) = some (rr, SS) from hf) (fun h => by cases h)
    | succ n25 ih25 =>
      intro S v1 v2 v4 hf H locs ls hW hS hl
      have hf : g_X1_rights_b25 E (f_grights E d 0) (f_X1_rights_b25 E (f_grights E d 0) n25) S v1 v2 v4 = some (rr, SS) := hf
      unfold g_X1_rights_b25 at hf
      refine lv_iload hx hb dX1_rights_25 (lv_at hl 3 rfl) ?_
      refine lv_iconst (v := 2) hx hb dX1_rights_27 rfl ?_
      refine lv_icmp_ge (tgt := 64) hx hb dX1_rights_28 (by decide) (fun h => ?_) (fun h => ?_)
      · have hf := if_t h hf
        refine lv_lload_n hx hb dX1_rights_64 rfl (lv_at hl 2 rfl) ?_
        exact z_l hf hx hb hr hF hW hS dX1_rights_65 hlocks
      · have hf := if_f h hf
        refine lv_aload_n hx hb dX1_rights_31 rfl (lv_at hl 0 rfl) ?_
        refine lv_iload_n hx hb dX1_rights_32 rfl (lv_at hl 1 rfl) ?_
        refine lv_iload hx hb dX1_rights_33 (lv_at hl 3 rfl) ?_
        obtain ⟨S1, hc, hf⟩ := bd_out hf
        refine y_v (va_runV (As := [.int v1, .int v4]) (rest := []) hfix (m_X1_pass l G B E S v1 v4 S1 hc) (cwV 2 hts gX1_rights_X1_pass rfl rfl rfl ⟨rfl, hd_X1_pass⟩ ⟨(by show 4 + 1 ≤ 5 + (d + 1); omega), (by show 8 + (12 + 11) + 60 * (4) ≤ 60 * (5 + (d + 1)); omega)⟩) (y_pv hF hW hS (c16 E) (e16 _ _ _ _ _ _) rfl) rfl rfl hl.1 rfl (lv_room (Nat.le_of_ble_eq_true rfl)) dX1_rights_35 ⟨Nat.le_of_ble_eq_true rfl, Nat.le_of_ble_eq_true rfl⟩) hS (fun H locs hW hS => ?_)
        refine lv_aload_n hx hb dX1_rights_38 rfl (lv_at hl 0 rfl) ?_
        refine lv_iload_n hx hb dX1_rights_39 rfl (lv_at hl 1 rfl) ?_
        refine lv_aload_n hx hb dX1_rights_40 rfl (lv_at hl 0 rfl) ?_
        refine lv_iload_n hx hb dX1_rights_41 rfl (lv_at hl 1 rfl) ?_
        obtain ⟨r2, hc, hf⟩ := bd_out hf
        refine y_i (va_runV (As := [.int v1]) (rest := [.int v1, .ref (B 16 0)]) hfix (m_X1_wish l G B E S1 v1 r2 hc) (cwV 1 hts gX1_rights_X1_wish rfl rfl rfl ⟨rfl, hd_X1_wish⟩ ⟨(by show 4 + 1 ≤ 5 + (d + 1); omega), (by show 8 + (2 + 11) + 60 * (4) ≤ 60 * (5 + (d + 1)); omega)⟩) (y_pv hF hW hS (c16 E) (e16 _ _ _ _ _ _) rfl) rfl rfl hl.1 rfl (lv_room (Nat.le_of_ble_eq_true rfl)) dX1_rights_42 ⟨Nat.le_of_ble_eq_true rfl, Nat.le_of_ble_eq_true rfl⟩) hS (fun H locs hW hS => ?_)
        obtain ⟨S3, hc, hf⟩ := bd_out hf
        refine y_v (va_runV (As := [.int v1, .int r2]) (rest := []) hfix (m_X1_settle l G B E S1 v1 r2 S3 hc) (cwV 2 hts gX1_rights_X1_settle rfl rfl rfl ⟨rfl, hd_X1_settle⟩ ⟨(by show 2 + 1 ≤ 5 + (d + 1); omega), (by show 8 + (3 + 11) + 60 * (2) ≤ 60 * (5 + (d + 1)); omega)⟩) (y_pv hF hW hS (c16 E) (e16 _ _ _ _ _ _) rfl) rfl rfl hl.1 rfl (lv_room (Nat.le_of_ble_eq_true rfl)) dX1_rights_45 ⟨Nat.le_of_ble_eq_true rfl, Nat.le_of_ble_eq_true rfl⟩) hS (fun H locs hW hS => ?_)
        refine lv_lload_n hx hb dX1_rights_48 rfl (lv_at hl 2 rfl) ?_
        refine lv_aload_n hx hb dX1_rights_49 rfl (lv_at hl 0 rfl) ?_
        refine lv_iload_n hx hb dX1_rights_50 rfl (lv_at hl 1 rfl) ?_
        refine lv_iconst (v := 1) hx hb dX1_rights_51 rfl ?_
        refine lv_iadd hx hb dX1_rights_52 ?_
        obtain ⟨r4, S5, hc, hf⟩ := bd2_out hf
        refine y_l (va_runV (As := [.int (v1 + (1 : Int32))]) (rest := [.long v2]) hfix (hrec S3 (v1 + (1 : Int32)) r4 S5 hc) (cwV 1 hts gX1_rights_X1_rights rfl rfl rfl ⟨rfl, hd_X1_rights⟩ ⟨(by show 5 + d + 1 ≤ 5 + (d + 1); omega), (by show 8 + (5 + 11) + 60 * (5 + d) ≤ 60 * (5 + (d + 1)); omega)⟩) (y_pv hF hW hS (c16 E) (e16 _ _ _ _ _ _) rfl) rfl rfl hl.1 rfl (lv_room (Nat.le_of_ble_eq_true rfl)) dX1_rights_53 ⟨Nat.le_of_ble_eq_true rfl, Nat.le_of_ble_eq_true rfl⟩) hS (fun H locs hW hS => ?_)
        refine lv_ladd hx hb dX1_rights_56 ?_
        obtain ⟨x6, e_x6, hf⟩ := lt_out hf
        refine x_nmL e_x6 ?_
        refine lv_lstore_n (lv' := [(2, .long x6), (0, .ref (B 16 0)), (1, .int v1), (4, .int v4)]) hx hb dX1_rights_57 rfl hl (by decide) rfl (fun ls hl => ?_)
        obtain ⟨x7, e_x7, hf⟩ := lt_out hf
        refine lv_iinc (v := x7) (lv' := [(4, .int x7), (2, .long x6), (0, .ref (B 16 0)), (1, .int v1)]) hx hb dX1_rights_58 hl (k := 3) rfl (by rw [e_x7]; rfl) (by decide) rfl (fun ls hl => ?_)
        refine lv_goto (tgt := 25) hx hb dX1_rights_61 (by decide) ?_
        exact ih25 S5 v1 x6 x7  hf _ _ _ hW hS (lv_sub hl [2, 3, 1, 0] rfl)
  unfold b_X1_rights at hf
  refine lv_iload_n hx hb dX1_rights_0 rfl (lv_at hl 1 rfl) ?_
  refine lv_iconst (v := 5) hx hb dX1_rights_1 rfl ?_
  refine lv_icmp_lt (tgt := 20) hx hb dX1_rights_2 (by decide) (fun h => ?_) (fun h => ?_)
  · have hf := if_t h hf
    refine lv_lconst (v := 0) hx hb dX1_rights_20 rfl ?_
    refine lv_lstore_n (lv' := [(2, .long (0 : Int64)), (0, .ref (B 16 0)), (1, .int a1)]) hx hb dX1_rights_21 rfl hl (by decide) rfl (fun ls hl => ?_)
    refine lv_iconst (v := 0) hx hb dX1_rights_22 rfl ?_
    refine lv_istore (lv' := [(4, .int (0 : Int32)), (2, .long (0 : Int64)), (0, .ref (B 16 0)), (1, .int a1)]) hx hb dX1_rights_23 hl (by decide) rfl (fun ls hl => ?_)
    exact w25 E.1 S a1 (0 : Int64) (0 : Int32)  hf _ _ _ hW hS (lv_sub hl [2, 3, 1, 0] rfl)
  · have hf := if_f h hf
    refine lv_aload_n hx hb dX1_rights_5 rfl (lv_at hl 0 rfl) ?_
    refine x_get hx hb hts hi1 hown hK hW (c16 E) (e16 _ _ _ _ _ _) rfl 6 (Nat.le_of_ble_eq_true rfl) q0 (fun _ h => h) (v := .int (gI S 16 0 6)) rfl dX1_rights_6 ?_
    obtain ⟨r8, hc, hf⟩ := bd_out hf
    refine y_i (va_runS (As := [.int (gI S 16 0 6)]) (rest := []) hfix (m_J6_bitCount_0f7a4 l G B E S (gI S 16 0 6) r8 hc) (va_cwS 1 hts gX1_rights_J6_bitCount_0f7a4 rfl rfl rfl hd_J6_bitCount_0f7a4 ⟨(by show 1 + 1 ≤ 5 + (d + 1); omega), (by show 8 + (1 + 11) + 60 * (1) ≤ 60 * (5 + (d + 1)); omega)⟩) (y_ps hF hW hS) rfl rfl hl.1 rfl (lv_room (Nat.le_of_ble_eq_true rfl)) dX1_rights_9 ⟨Nat.le_of_ble_eq_true rfl, Nat.le_of_ble_eq_true rfl⟩) hS (fun H locs hW hS => ?_)
    refine lv_i2l hx hb dX1_rights_12 rfl ?_
    refine lv_aload_n hx hb dX1_rights_13 rfl (lv_at hl 0 rfl) ?_
    refine lv_iconst (v := 5) hx hb dX1_rights_14 rfl ?_
    obtain ⟨r9, hc, hf⟩ := bd_out hf
    refine y_l (va_runV (As := [.int (5 : Int32)]) (rest := [.long r8.toInt64]) hfix (m_X1_together l G B E S (5 : Int32) r9 hc) (cwV 1 hts gX1_rights_X1_together rfl rfl rfl ⟨rfl, hd_X1_together⟩ ⟨(by show 3 + 1 ≤ 5 + (d + 1); omega), (by show 8 + (2 + 11) + 60 * (3) ≤ 60 * (5 + (d + 1)); omega)⟩) (y_pv hF hW hS (c16 E) (e16 _ _ _ _ _ _) rfl) rfl rfl hl.1 rfl (lv_room (Nat.le_of_ble_eq_true rfl)) dX1_rights_15 ⟨Nat.le_of_ble_eq_true rfl, Nat.le_of_ble_eq_true rfl⟩) hS (fun H locs hW hS => ?_)
    refine lv_lmul hx hb dX1_rights_18 ?_
    exact z_l hf hx hb hr hF hW hS dX1_rights_19 hlocks
set_option maxHeartbeats 4000000 in
theorem n_grights (l : Launch) (G : GE) (B : Nat → Nat → Nat) (E : EN) : ∀ d : Nat, (∀ (S : ST) (a1 : Int32) (r : Int64) (S2 : ST), f_grights E d 0 S a1 = some (r, S2) → Met l yX1_rights wsX1_rights (rmN (5 + d)) (va_Pc [.ref (B 16 0), .int a1] (WS G B E S)) (QL G B E S2 r) 0 0 (AA G)) := by
  intro d
  induction d with
  | zero =>
    exact fun S a1 r S2 hf => absurd (show (none : Option (Int64 × ST)) = some (r, S2) from hf) (fun h => by cases h)
  | succ d ih =>
    exact fun S a1 r S2 hf => n_X1_rights l G B E d ih S a1 r S2 hf
theorem m_X1_rights (l : Launch) (G : GE) (B : Nat → Nat → Nat) (E : EN) (d : Nat) (S : ST) (a1 : Int32) (r : Int64) (S2 : ST) (hf : f_X1_rights E d S a1 = some (r, S2)) : Met l yX1_rights wsX1_rights (rmN (5 + d)) (va_Pc [.ref (B 16 0), .int a1] (WS G B E S)) (QL G B E S2 r) 0 0 (AA G) := (n_grights l G B E d) S a1 r S2 hf

set_option maxHeartbeats 4000000 in
set_option maxRecDepth 100000 in
theorem n_X1_best (l : Launch) (G : GE) (B : Nat → Nat → Nat) (E : EN) (d : Nat) (hrec : (∀ (S : ST) (a1 : Int32) (r : Int64) (S2 : ST), f_gbest E d 0 S a1 = some (r, S2) → Met l yX1_best wsX1_best (rmN (5 + d)) (va_Pc [.ref (B 16 0), .int a1] (WS G B E S)) (QL G B E S2 r) 0 0 (AA G)) ∧ (∀ (S : ST) (a1 : Int32) (r : Int64) (S2 : ST), f_gbest E d 1 S a1 = some (r, S2) → Met l yX1_bestMove wsX1_bestMove (rmN (5 + d)) (va_Pc [.ref (B 16 0), .int a1] (WS G B E S)) (QL G B E S2 r) 0 0 (AA G)))  (S : ST) (a1 : Int32) (rr : Int64) (SS : ST) (hf : b_X1_best E (f_gbest E d 0) (f_gbest E d 1) S a1 = some (rr, SS)) : Met l yX1_best wsX1_best (rmN (5 + (d + 1))) (va_Pc [.ref (B 16 0), .int a1] (WS G B E S)) (QL G B E SS rr) 0 0 (AA G) := by
  refine Met.ofW (cc := cX1_best) (maxL := 5) (ret := (some .long)) (by decide) rfl ?_
  intro p e s m args below meth c s₁ B0 hml hv
  obtain ⟨rfl, hW, hF⟩ := hv
  have hx := B0.exec
  have hb := B0.bytes
  have hr := B0.returns
  have hts := atoms_spec (ws := wsX1_best) B0.pre
  have hown : s.vm.findClass RX1 = some m.cls := findClass_of_methodNamed B0.named
  have hlocks := B0.notSynchronized
  have hK := hF.1
  have hfix : CallFix p m c cX1_best 5 s [.ref (B 16 0), .int a1].toArray wsX1_best RX1 := ⟨hx, hb, hml, hown, hts⟩
  have hS : va_S (AA G) s.heap s.heap [] := va_S.rf
  have hl := lv_entry [.ref (B 16 0), .int a1] (n := 5) (Nat.le_of_ble_eq_true rfl)
  rw [lg_entry_eq]
  generalize (lg_sl [.ref (B 16 0), .int a1] ++ List.replicate (5 - (lg_sl [.ref (B 16 0), .int a1]).length) Slot.unset).toArray = ls at hl ⊢
  have hl : lv_has ls 5 [(0, .ref (B 16 0)), (1, .int a1)] := hl
  have w15 : ∀ (n15 : Nat) (S : ST) (v1 : Int32) (v2 : Int64) (v4 : Int32) , f_X1_best_b15 E (f_gbest E d 0) (f_gbest E d 1) n15 S v1 v2 v4 = some (rr, SS) → ∀ (H : Heap) (locs : List Loc) (ls : Array Slot), WH G B E S H → va_S (AA G) s.heap H locs → lv_has ls 5 [(0, .ref (B 16 0)), (1, .int v1), (2, .long v2), (4, .int v4)] → W p l e (headSpec wsX1_best (rmN (5 + (d + 1)))).room s m [.ref (B 16 0), .int a1].toArray below meth c H locs 0 0 (MQ below (QL G B E SS rr) [.ref (B 16 0), .int a1].toArray s 0 0 (AA G)) (F0 m 15 ls []) := by
    intro n15
    induction n15 with
    | zero =>
      intro S v1 v2 v4 hf
      exact absurd (show (none : Option (Int64 × ST)) = some (rr, SS) from hf) (fun h => by cases h)
    | succ n15 ih15 =>
      have w48 : ∀ (S : ST) (v1 : Int32) (v2 : Int64) (v4 : Int32) , f_X1_best_b48 E (f_gbest E d 0) (f_gbest E d 1) (f_X1_best_b15 E (f_gbest E d 0) (f_gbest E d 1) n15) S v1 v2 v4 = some (rr, SS) → ∀ (H : Heap) (locs : List Loc) (ls : Array Slot), WH G B E S H → va_S (AA G) s.heap H locs → lv_has ls 5 [(0, .ref (B 16 0)), (1, .int v1), (2, .long v2), (4, .int v4)] → W p l e (headSpec wsX1_best (rmN (5 + (d + 1)))).room s m [.ref (B 16 0), .int a1].toArray below meth c H locs 0 0 (MQ below (QL G B E SS rr) [.ref (B 16 0), .int a1].toArray s 0 0 (AA G)) (F0 m 48 ls []) := by
        intro S v1 v2 v4 hf H locs ls hW hS hl
        unfold f_X1_best_b48 at hf
        obtain ⟨x1, e_x1, hf⟩ := lt_out hf
        refine lv_iinc (v := x1) (lv' := [(4, .int x1), (0, .ref (B 16 0)), (1, .int v1), (2, .long v2)]) hx hb dX1_best_48 hl (k := 3) rfl (by rw [e_x1]; rfl) (by decide) rfl (fun ls hl => ?_)
        refine lv_goto (tgt := 15) hx hb dX1_best_51 (by decide) ?_
        exact ih15 S v1 v2 x1  hf _ _ _ hW hS (lv_sub hl [1, 2, 3, 0] rfl)
      intro S v1 v2 v4 hf H locs ls hW hS hl
      have hf : g_X1_best_b15 E (f_gbest E d 0) (f_gbest E d 1) (f_X1_best_b15 E (f_gbest E d 0) (f_gbest E d 1) n15) S v1 v2 v4 = some (rr, SS) := hf
      unfold g_X1_best_b15 at hf
      refine lv_iload hx hb dX1_best_15 (lv_at hl 3 rfl) ?_
      refine lv_iconst (v := 2) hx hb dX1_best_17 rfl ?_
      refine lv_icmp_ge (tgt := 54) hx hb dX1_best_18 (by decide) (fun h => ?_) (fun h => ?_)
      · have hf := if_t h hf
        refine lv_lload_n hx hb dX1_best_54 rfl (lv_at hl 2 rfl) ?_
        exact z_l hf hx hb hr hF hW hS dX1_best_55 hlocks
      · have hf := if_f h hf
        refine lv_aload_n hx hb dX1_best_21 rfl (lv_at hl 0 rfl) ?_
        refine lv_iload_n hx hb dX1_best_22 rfl (lv_at hl 1 rfl) ?_
        refine lv_iload hx hb dX1_best_23 (lv_at hl 3 rfl) ?_
        obtain ⟨S2, hc, hf⟩ := bd_out hf
        refine y_v (va_runV (As := [.int v1, .int v4]) (rest := []) hfix (m_X1_pass l G B E S v1 v4 S2 hc) (cwV 2 hts gX1_best_X1_pass rfl rfl rfl ⟨rfl, hd_X1_pass⟩ ⟨(by show 4 + 1 ≤ 5 + (d + 1); omega), (by show 8 + (12 + 11) + 60 * (4) ≤ 60 * (5 + (d + 1)); omega)⟩) (y_pv hF hW hS (c16 E) (e16 _ _ _ _ _ _) rfl) rfl rfl hl.1 rfl (lv_room (Nat.le_of_ble_eq_true rfl)) dX1_best_25 ⟨Nat.le_of_ble_eq_true rfl, Nat.le_of_ble_eq_true rfl⟩) hS (fun H locs hW hS => ?_)
        refine lv_aload_n hx hb dX1_best_28 rfl (lv_at hl 0 rfl) ?_
        refine lv_iload_n hx hb dX1_best_29 rfl (lv_at hl 1 rfl) ?_
        refine lv_iconst (v := 1) hx hb dX1_best_30 rfl ?_
        refine lv_iadd hx hb dX1_best_31 ?_
        obtain ⟨r3, hc, hf⟩ := bd_out hf
        refine y_l (va_runV (As := [.int (v1 + (1 : Int32))]) (rest := []) hfix (m_X1_together l G B E S2 (v1 + (1 : Int32)) r3 hc) (cwV 1 hts gX1_best_X1_together rfl rfl rfl ⟨rfl, hd_X1_together⟩ ⟨(by show 3 + 1 ≤ 5 + (d + 1); omega), (by show 8 + (2 + 11) + 60 * (3) ≤ 60 * (5 + (d + 1)); omega)⟩) (y_pv hF hW hS (c16 E) (e16 _ _ _ _ _ _) rfl) rfl rfl hl.1 rfl (lv_room (Nat.le_of_ble_eq_true rfl)) dX1_best_32 ⟨Nat.le_of_ble_eq_true rfl, Nat.le_of_ble_eq_true rfl⟩) hS (fun H locs hW hS => ?_)
        refine lv_lconst (v := 0) hx hb dX1_best_35 rfl ?_
        refine W.lcmp hx hb dX1_best_36 ?_
        refine lv_if_le (tgt := 48) hx hb dX1_best_37 (by decide) (fun h => ?_) (fun h => ?_)
        · have h := (lg_cmp_le _ _).mp h
          have hf := if_t h hf
          exact w48 S2 v1 v2 v4  hf _ _ _ hW hS (lv_sub hl [0, 1, 2, 3] rfl)
        · have h := fun q => h ((lg_cmp_le _ _).mpr q)
          have hf := if_f h hf
          refine lv_lload_n hx hb dX1_best_40 rfl (lv_at hl 2 rfl) ?_
          refine lv_aload_n hx hb dX1_best_41 rfl (lv_at hl 0 rfl) ?_
          refine lv_iload_n hx hb dX1_best_42 rfl (lv_at hl 1 rfl) ?_
          obtain ⟨r4, S5, hc, hf⟩ := bd2_out hf
          refine y_l (va_runV (As := [.int v1]) (rest := [.long v2]) hfix (hrec.2 S2 v1 r4 S5 hc) (cwV 1 hts gX1_best_X1_bestMove rfl rfl rfl ⟨rfl, hd_X1_bestMove⟩ ⟨(by show 5 + d + 1 ≤ 5 + (d + 1); omega), (by show 8 + (5 + 11) + 60 * (5 + d) ≤ 60 * (5 + (d + 1)); omega)⟩) (y_pv hF hW hS (c16 E) (e16 _ _ _ _ _ _) rfl) rfl rfl hl.1 rfl (lv_room (Nat.le_of_ble_eq_true rfl)) dX1_best_43 ⟨Nat.le_of_ble_eq_true rfl, Nat.le_of_ble_eq_true rfl⟩) hS (fun H locs hW hS => ?_)
          refine lv_ladd hx hb dX1_best_46 ?_
          obtain ⟨x6, e_x6, hf⟩ := lt_out hf
          refine x_nmL e_x6 ?_
          refine lv_lstore_n (lv' := [(2, .long x6), (0, .ref (B 16 0)), (1, .int v1), (4, .int v4)]) hx hb dX1_best_47 rfl hl (by decide) rfl (fun ls hl => ?_)
          exact w48 S5 v1 x6 v4  hf _ _ _ hW hS (lv_sub hl [1, 2, 0, 3] rfl)
  unfold b_X1_best at hf
  refine lv_iload_n hx hb dX1_best_0 rfl (lv_at hl 1 rfl) ?_
  refine lv_iconst (v := 5) hx hb dX1_best_1 rfl ?_
  refine lv_icmp_lt (tgt := 10) hx hb dX1_best_2 (by decide) (fun h => ?_) (fun h => ?_)
  · have hf := if_t h hf
    refine lv_lconst (v := 0) hx hb dX1_best_10 rfl ?_
    refine lv_lstore_n (lv' := [(2, .long (0 : Int64)), (0, .ref (B 16 0)), (1, .int a1)]) hx hb dX1_best_11 rfl hl (by decide) rfl (fun ls hl => ?_)
    refine lv_iconst (v := 0) hx hb dX1_best_12 rfl ?_
    refine lv_istore (lv' := [(4, .int (0 : Int32)), (2, .long (0 : Int64)), (0, .ref (B 16 0)), (1, .int a1)]) hx hb dX1_best_13 hl (by decide) rfl (fun ls hl => ?_)
    exact w15 E.1 S a1 (0 : Int64) (0 : Int32)  hf _ _ _ hW hS (lv_sub hl [2, 3, 1, 0] rfl)
  · have hf := if_f h hf
    refine lv_aload_n hx hb dX1_best_5 rfl (lv_at hl 0 rfl) ?_
    obtain ⟨r7, S8, hc, hf⟩ := bd2_out hf
    refine y_l (va_runV (As := []) (rest := []) hfix (m_X1_endsNow l G B E S  r7 S8 hc) (cwV 0 hts gX1_best_X1_endsNow rfl rfl rfl ⟨rfl, hd_X1_endsNow⟩ ⟨(by show 4 + 1 ≤ 5 + (d + 1); omega), (by show 8 + (4 + 11) + 60 * (4) ≤ 60 * (5 + (d + 1)); omega)⟩) (y_pv hF hW hS (c16 E) (e16 _ _ _ _ _ _) rfl) rfl rfl hl.1 rfl (lv_room (Nat.le_of_ble_eq_true rfl)) dX1_best_6 ⟨Nat.le_of_ble_eq_true rfl, Nat.le_of_ble_eq_true rfl⟩) hS (fun H locs hW hS => ?_)
    exact z_l hf hx hb hr hF hW hS dX1_best_9 hlocks
set_option maxHeartbeats 4000000 in
set_option maxRecDepth 100000 in
theorem n_X1_bestMove (l : Launch) (G : GE) (B : Nat → Nat → Nat) (E : EN) (d : Nat) (hrec : (∀ (S : ST) (a1 : Int32) (r : Int64) (S2 : ST), f_gbest E d 0 S a1 = some (r, S2) → Met l yX1_best wsX1_best (rmN (5 + d)) (va_Pc [.ref (B 16 0), .int a1] (WS G B E S)) (QL G B E S2 r) 0 0 (AA G)) ∧ (∀ (S : ST) (a1 : Int32) (r : Int64) (S2 : ST), f_gbest E d 1 S a1 = some (r, S2) → Met l yX1_bestMove wsX1_bestMove (rmN (5 + d)) (va_Pc [.ref (B 16 0), .int a1] (WS G B E S)) (QL G B E S2 r) 0 0 (AA G)))  (S : ST) (a1 : Int32) (rr : Int64) (SS : ST) (hf : b_X1_bestMove E (f_gbest E d 0) (f_gbest E d 1) S a1 = some (rr, SS)) : Met l yX1_bestMove wsX1_bestMove (rmN (5 + (d + 1))) (va_Pc [.ref (B 16 0), .int a1] (WS G B E S)) (QL G B E SS rr) 0 0 (AA G) := by
  refine Met.ofW (cc := cX1_bestMove) (maxL := 5) (ret := (some .long)) (by decide) rfl ?_
  intro p e s m args below meth c s₁ B0 hml hv
  obtain ⟨rfl, hW, hF⟩ := hv
  have hx := B0.exec
  have hb := B0.bytes
  have hr := B0.returns
  have hts := atoms_spec (ws := wsX1_bestMove) B0.pre
  have hown : s.vm.findClass RX1 = some m.cls := findClass_of_methodNamed B0.named
  have hlocks := B0.notSynchronized
  have hK := hF.1
  have hfix : CallFix p m c cX1_bestMove 5 s [.ref (B 16 0), .int a1].toArray wsX1_bestMove RX1 := ⟨hx, hb, hml, hown, hts⟩
  have hS : va_S (AA G) s.heap s.heap [] := va_S.rf
  have hl := lv_entry [.ref (B 16 0), .int a1] (n := 5) (Nat.le_of_ble_eq_true rfl)
  rw [lg_entry_eq]
  generalize (lg_sl [.ref (B 16 0), .int a1] ++ List.replicate (5 - (lg_sl [.ref (B 16 0), .int a1]).length) Slot.unset).toArray = ls at hl ⊢
  have hl : lv_has ls 5 [(0, .ref (B 16 0)), (1, .int a1)] := hl
  have q0 := hts (.methodLink RX1 123 Lib.MathLoose.max_long.x) (List.mem_of_getElem? (i := 2) rfl)
  have q1 := hts (.static Lib.MathLoose.max_long.x) (List.mem_of_getElem? (i := 3) rfl)
  have q2 := hts (.initialized "java/lang/Math") (List.mem_of_getElem? (i := 4) rfl)
  have q3 := hts (.code Lib.MathLoose.max_long.x Lib.MathLoose.max_long.code 4 (some .long)) (List.mem_of_getElem? (i := 5) rfl)
  have q4 := hts (.fieldLink RX1 16 "MovesUp$Course" "classes" "[I") (List.mem_of_getElem? (i := 1) rfl)
  have q5 := hts (.initialized RX6) (List.mem_of_getElem? (i := 7) rfl)
  have q6 := hts (.static yX6_held) (List.mem_of_getElem? (i := 6) rfl)
  have hi1 : ∀ w ∈ u_ws RX1 TX1 7, w ∈ wsX1_bestMove := in_seg 71 rfl
  have w16 : ∀ (n16 : Nat) (S : ST) (v1 : Int32) (v2 : Int64) (v4 : Int32) , f_X1_bestMove_b16 E (f_gbest E d 0) (f_gbest E d 1) n16 S v1 v2 v4 = some (rr, SS) → ∀ (H : Heap) (locs : List Loc) (ls : Array Slot), WH G B E S H → va_S (AA G) s.heap H locs → lv_has ls 5 [(0, .ref (B 16 0)), (1, .int v1), (2, .long v2), (4, .int v4)] → W p l e (headSpec wsX1_bestMove (rmN (5 + (d + 1)))).room s m [.ref (B 16 0), .int a1].toArray below meth c H locs 0 0 (MQ below (QL G B E SS rr) [.ref (B 16 0), .int a1].toArray s 0 0 (AA G)) (F0 m 16 ls []) := by
    intro n16
    induction n16 with
    | zero =>
      intro S v1 v2 v4 hf
      exact absurd (show (none : Option (Int64 × ST)) = some (rr, SS) from hf) (fun h => by cases h)
    | succ n16 ih16 =>
      have w67 : ∀ (S : ST) (v1 : Int32) (v2 : Int64) (v4 : Int32) , f_X1_bestMove_b67 E (f_gbest E d 0) (f_gbest E d 1) (f_X1_bestMove_b16 E (f_gbest E d 0) (f_gbest E d 1) n16) S v1 v2 v4 = some (rr, SS) → ∀ (H : Heap) (locs : List Loc) (ls : Array Slot), WH G B E S H → va_S (AA G) s.heap H locs → lv_has ls 5 [(0, .ref (B 16 0)), (1, .int v1), (2, .long v2), (4, .int v4)] → W p l e (headSpec wsX1_bestMove (rmN (5 + (d + 1)))).room s m [.ref (B 16 0), .int a1].toArray below meth c H locs 0 0 (MQ below (QL G B E SS rr) [.ref (B 16 0), .int a1].toArray s 0 0 (AA G)) (F0 m 67 ls []) := by
        intro S v1 v2 v4 hf H locs ls hW hS hl
        unfold f_X1_bestMove_b67 at hf
        obtain ⟨x1, e_x1, hf⟩ := lt_out hf
        refine lv_iinc (v := x1) (lv' := [(4, .int x1), (0, .ref (B 16 0)), (1, .int v1), (2, .long v2)]) hx hb dX1_bestMove_67 hl (k := 3) rfl (by rw [e_x1]; rfl) (by decide) rfl (fun ls hl => ?_)
        refine lv_goto (tgt := 16) hx hb dX1_bestMove_70 (by decide) ?_
        exact ih16 S v1 v2 x1  hf _ _ _ hW hS (lv_sub hl [1, 2, 3, 0] rfl)
      have w48 : ∀ (S : ST) (v1 : Int32) (v2 : Int64) (v4 : Int32) , f_X1_bestMove_b48 E (f_gbest E d 0) (f_gbest E d 1) (f_X1_bestMove_b16 E (f_gbest E d 0) (f_gbest E d 1) n16) S v1 v2 v4 = some (rr, SS) → ∀ (H : Heap) (locs : List Loc) (ls : Array Slot), WH G B E S H → va_S (AA G) s.heap H locs → lv_has ls 5 [(0, .ref (B 16 0)), (1, .int v1), (2, .long v2), (4, .int v4)] → W p l e (headSpec wsX1_bestMove (rmN (5 + (d + 1)))).room s m [.ref (B 16 0), .int a1].toArray below meth c H locs 0 0 (MQ below (QL G B E SS rr) [.ref (B 16 0), .int a1].toArray s 0 0 (AA G)) (F0 m 48 ls []) := by
        intro S v1 v2 v4 hf H locs ls hW hS hl
        unfold f_X1_bestMove_b48 at hf
        refine lv_aload_n hx hb dX1_bestMove_48 rfl (lv_at hl 0 rfl) ?_
        refine lv_iload_n hx hb dX1_bestMove_49 rfl (lv_at hl 1 rfl) ?_
        refine lv_iload hx hb dX1_bestMove_50 (lv_at hl 3 rfl) ?_
        obtain ⟨S2, hc, hf⟩ := bd_out hf
        refine y_v (va_runV (As := [.int v1, .int v4]) (rest := []) hfix (m_X1_settle l G B E S v1 v4 S2 hc) (cwV 2 hts gX1_bestMove_X1_settle rfl rfl rfl ⟨rfl, hd_X1_settle⟩ ⟨(by show 2 + 1 ≤ 5 + (d + 1); omega), (by show 8 + (3 + 11) + 60 * (2) ≤ 60 * (5 + (d + 1)); omega)⟩) (y_pv hF hW hS (c16 E) (e16 _ _ _ _ _ _) rfl) rfl rfl hl.1 rfl (lv_room (Nat.le_of_ble_eq_true rfl)) dX1_bestMove_52 ⟨Nat.le_of_ble_eq_true rfl, Nat.le_of_ble_eq_true rfl⟩) hS (fun H locs hW hS => ?_)
        refine lv_lload_n hx hb dX1_bestMove_55 rfl (lv_at hl 2 rfl) ?_
        refine lv_aload_n hx hb dX1_bestMove_56 rfl (lv_at hl 0 rfl) ?_
        refine lv_iload_n hx hb dX1_bestMove_57 rfl (lv_at hl 1 rfl) ?_
        refine lv_iconst (v := 1) hx hb dX1_bestMove_58 rfl ?_
        refine lv_iadd hx hb dX1_bestMove_59 ?_
        obtain ⟨r3, S4, hc, hf⟩ := bd2_out hf
        refine y_l (va_runV (As := [.int (v1 + (1 : Int32))]) (rest := [.long v2]) hfix (hrec.1 S2 (v1 + (1 : Int32)) r3 S4 hc) (cwV 1 hts gX1_bestMove_X1_best rfl rfl rfl ⟨rfl, hd_X1_best⟩ ⟨(by show 5 + d + 1 ≤ 5 + (d + 1); omega), (by show 8 + (5 + 11) + 60 * (5 + d) ≤ 60 * (5 + (d + 1)); omega)⟩) (y_pv hF hW hS (c16 E) (e16 _ _ _ _ _ _) rfl) rfl rfl hl.1 rfl (lv_room (Nat.le_of_ble_eq_true rfl)) dX1_bestMove_60 ⟨Nat.le_of_ble_eq_true rfl, Nat.le_of_ble_eq_true rfl⟩) hS (fun H locs hW hS => ?_)
        refine va_mmax_long hx hb (hml.trans hl.1.symm) hown q0 q1 q2 q3 (by show 1 ≤ 5 + (d + 1); omega) (rm_grp (L := 30) (by show 30 ≤ 60 * (5 + (d + 1)); omega) (Nat.le_of_ble_eq_true rfl)) (Nat.le_of_ble_eq_true rfl) (Nat.le_of_ble_eq_true rfl) dX1_bestMove_63 ?_
        obtain ⟨x5, e_x5, hf⟩ := lt_out hf
        refine x_nmL e_x5 ?_
        refine lv_lstore_n (lv' := [(2, .long x5), (0, .ref (B 16 0)), (1, .int v1), (4, .int v4)]) hx hb dX1_bestMove_66 rfl hl (by decide) rfl (fun ls hl => ?_)
        exact w67 S4 v1 x5 v4  hf _ _ _ hW hS (lv_sub hl [1, 2, 0, 3] rfl)
      intro S v1 v2 v4 hf H locs ls hW hS hl
      have hf : g_X1_bestMove_b16 E (f_gbest E d 0) (f_gbest E d 1) (f_X1_bestMove_b16 E (f_gbest E d 0) (f_gbest E d 1) n16) S v1 v2 v4 = some (rr, SS) := hf
      unfold g_X1_bestMove_b16 at hf
      refine lv_iload hx hb dX1_bestMove_16 (lv_at hl 3 rfl) ?_
      refine lv_iconst (v := 1) hx hb dX1_bestMove_18 rfl ?_
      refine lv_icmp_gt (tgt := 73) hx hb dX1_bestMove_19 (by decide) (fun h => ?_) (fun h => ?_)
      · have hf := if_t h hf
        refine lv_lload_n hx hb dX1_bestMove_73 rfl (lv_at hl 2 rfl) ?_
        exact z_l hf hx hb hr hF hW hS dX1_bestMove_74 hlocks
      · have hf := if_f h hf
        refine lv_iload hx hb dX1_bestMove_22 (lv_at hl 3 rfl) ?_
        refine lv_if_eq (tgt := 48) hx hb dX1_bestMove_24 (by decide) (fun h => ?_) (fun h => ?_)
        · have hf := if_t h hf
          exact w48 S v1 v2 v4  hf _ _ _ hW hS (lv_sub hl [0, 1, 2, 3] rfl)
        · have hf := if_f h hf
          refine lv_aload_n hx hb dX1_bestMove_27 rfl (lv_at hl 0 rfl) ?_
          refine x_get hx hb hts hi1 hown hK hW (c16 E) (e16 _ _ _ _ _ _) rfl 2 (Nat.le_of_ble_eq_true rfl) q4 (fun _ h => h) (v := .ref (B 18 0)) rfl dX1_bestMove_28 ?_
          refine lv_iload_n hx hb dX1_bestMove_31 rfl (lv_at hl 1 rfl) ?_
          obtain ⟨hi_6, hf⟩ := ck_out hf
          have hi_6 := ib_in hi_6
          refine x_iald hx hb hK hW (c18 E) (e18 _ _ _ _ _ _) hi_6 (jn := v1.toNatClampNeg) rfl dX1_bestMove_32 ?_
          refine lv_iload hx hb dX1_bestMove_33 (lv_at hl 3 rfl) ?_
          refine lv_iadd hx hb dX1_bestMove_35 ?_
          obtain ⟨r7, hc, hf⟩ := bd_out hf
          refine y_i (va_runSN (As := [.int ((gI S 18 0 v1.toNatClampNeg) + v4)]) (rest := []) hfix (m_X6_held l G B E S ((gI S 18 0 v1.toNatClampNeg) + v4) r7 hc) ⟨va_cnB 1 hts gX1_bestMove_X6_held_n84 rfl rfl rfl (NW.m hF.2.1 14 (q := ("MovesUp$Course", 84, "MovesUp", "held", "(I)I", "MovesUp")) rfl) q5 hd_X6_held ⟨(by show 1 + 1 ≤ 5 + (d + 1); omega), (by show 8 + (1 + 11) + 60 * (1) ≤ 60 * (5 + (d + 1)); omega)⟩, q6, trivial⟩ (y_ps hF hW hS) rfl rfl hl.1 rfl (lv_room (Nat.le_of_ble_eq_true rfl)) dX1_bestMove_36 ⟨Nat.le_of_ble_eq_true rfl, Nat.le_of_ble_eq_true rfl⟩) hS (fun H locs hW hS => ?_)
          refine lv_aload_n hx hb dX1_bestMove_39 rfl (lv_at hl 0 rfl) ?_
          refine x_get hx hb hts hi1 hown hK hW (c16 E) (e16 _ _ _ _ _ _) rfl 2 (Nat.le_of_ble_eq_true rfl) q4 (fun _ h => h) (v := .ref (B 18 0)) rfl dX1_bestMove_40 ?_
          refine lv_iload_n hx hb dX1_bestMove_43 rfl (lv_at hl 1 rfl) ?_
          refine x_iald hx hb hK hW (c18 E) (e18 _ _ _ _ _ _) hi_6 (jn := v1.toNatClampNeg) rfl dX1_bestMove_44 ?_
          refine lv_icmp_eq (tgt := 67) hx hb dX1_bestMove_45 (by decide) (fun h => ?_) (fun h => ?_)
          · have hf := if_t h hf
            exact w67 S v1 v2 v4  hf _ _ _ hW hS (lv_sub hl [0, 1, 2, 3] rfl)
          · have hf := if_f h hf
            exact w48 S v1 v2 v4  hf _ _ _ hW hS (lv_sub hl [0, 1, 2, 3] rfl)
  unfold b_X1_bestMove at hf
  refine lv_iload_n hx hb dX1_bestMove_0 rfl (lv_at hl 1 rfl) ?_
  refine lv_if_lt (tgt := 9) hx hb dX1_bestMove_1 (by decide) (fun h => ?_) (fun h => ?_)
  · have hf := if_t h hf
    refine lv_lconst (v := 0) hx hb dX1_bestMove_9 rfl ?_
    exact z_l hf hx hb hr hF hW hS dX1_bestMove_10 hlocks
  · have hf := if_f h hf
    refine lv_iload_n hx hb dX1_bestMove_4 rfl (lv_at hl 1 rfl) ?_
    refine lv_iconst (v := 5) hx hb dX1_bestMove_5 rfl ?_
    refine lv_icmp_lt (tgt := 11) hx hb dX1_bestMove_6 (by decide) (fun h => ?_) (fun h => ?_)
    · have hf := if_t h hf
      refine lv_lconst (v := 0) hx hb dX1_bestMove_11 rfl ?_
      refine lv_lstore_n (lv' := [(2, .long (0 : Int64)), (0, .ref (B 16 0)), (1, .int a1)]) hx hb dX1_bestMove_12 rfl hl (by decide) rfl (fun ls hl => ?_)
      refine lv_iconst (v := -1) hx hb dX1_bestMove_13 rfl ?_
      refine lv_istore (lv' := [(4, .int (-1 : Int32)), (2, .long (0 : Int64)), (0, .ref (B 16 0)), (1, .int a1)]) hx hb dX1_bestMove_14 hl (by decide) rfl (fun ls hl => ?_)
      exact w16 E.1 S a1 (0 : Int64) (-1 : Int32)  hf _ _ _ hW hS (lv_sub hl [2, 3, 1, 0] rfl)
    · have hf := if_f h hf
      refine lv_lconst (v := 0) hx hb dX1_bestMove_9 rfl ?_
      exact z_l hf hx hb hr hF hW hS dX1_bestMove_10 hlocks
set_option maxHeartbeats 4000000 in
theorem n_gbest (l : Launch) (G : GE) (B : Nat → Nat → Nat) (E : EN) : ∀ d : Nat, (∀ (S : ST) (a1 : Int32) (r : Int64) (S2 : ST), f_gbest E d 0 S a1 = some (r, S2) → Met l yX1_best wsX1_best (rmN (5 + d)) (va_Pc [.ref (B 16 0), .int a1] (WS G B E S)) (QL G B E S2 r) 0 0 (AA G)) ∧ (∀ (S : ST) (a1 : Int32) (r : Int64) (S2 : ST), f_gbest E d 1 S a1 = some (r, S2) → Met l yX1_bestMove wsX1_bestMove (rmN (5 + d)) (va_Pc [.ref (B 16 0), .int a1] (WS G B E S)) (QL G B E S2 r) 0 0 (AA G)) := by
  intro d
  induction d with
  | zero =>
    exact ⟨fun S a1 r S2 hf => absurd (show (none : Option (Int64 × ST)) = some (r, S2) from hf) (fun h => by cases h), fun S a1 r S2 hf => absurd (show (none : Option (Int64 × ST)) = some (r, S2) from hf) (fun h => by cases h)⟩
  | succ d ih =>
    exact ⟨fun S a1 r S2 hf => n_X1_best l G B E d ih S a1 r S2 hf, fun S a1 r S2 hf => n_X1_bestMove l G B E d ih S a1 r S2 hf⟩
theorem m_X1_best (l : Launch) (G : GE) (B : Nat → Nat → Nat) (E : EN) (d : Nat) (S : ST) (a1 : Int32) (r : Int64) (S2 : ST) (hf : f_X1_best E d S a1 = some (r, S2)) : Met l yX1_best wsX1_best (rmN (5 + d)) (va_Pc [.ref (B 16 0), .int a1] (WS G B E S)) (QL G B E S2 r) 0 0 (AA G) := (n_gbest l G B E d).1 S a1 r S2 hf
theorem m_X1_bestMove (l : Launch) (G : GE) (B : Nat → Nat → Nat) (E : EN) (d : Nat) (S : ST) (a1 : Int32) (r : Int64) (S2 : ST) (hf : f_X1_bestMove E d S a1 = some (r, S2)) : Met l yX1_bestMove wsX1_bestMove (rmN (5 + d)) (va_Pc [.ref (B 16 0), .int a1] (WS G B E S)) (QL G B E S2 r) 0 0 (AA G) := (n_gbest l G B E d).2 S a1 r S2 hf

set_option maxHeartbeats 4000000 in
set_option maxRecDepth 100000 in
theorem m_X2_together (l : Launch) (G : GE) (B : Nat → Nat → Nat) (E : EN) (i0 : Nat) (h0 : i0 < cnt E 20) (S : ST)  (rr : Int32) (hf : f_X2_together E i0 S = some rr) : Met l yX2_together wsX2_together (rmN 1) (va_Pc [.ref (B 20 i0)] (WS G B E S)) (QI G B E S rr) 0 0 (AA G) := by
  refine Met.ofW (cc := cX2_together) (maxL := 3) (ret := (some .int)) (by decide) rfl ?_
  intro p e s m args below meth c s₁ B0 hml hv
  obtain ⟨rfl, hW, hF⟩ := hv
  have hx := B0.exec
  have hb := B0.bytes
  have hr := B0.returns
  have hts := atoms_spec (ws := wsX2_together) B0.pre
  have hown : s.vm.findClass RX2 = some m.cls := findClass_of_methodNamed B0.named
  have hlocks := B0.notSynchronized
  have hK := hF.1
  have hfix : CallFix p m c cX2_together 3 s [.ref (B 20 i0)].toArray wsX2_together RX2 := ⟨hx, hb, hml, hown, hts⟩
  have hS : va_S (AA G) s.heap s.heap [] := va_S.rf
  have hl := lv_entry [.ref (B 20 i0)] (n := 3) (Nat.le_of_ble_eq_true rfl)
  rw [lg_entry_eq]
  generalize (lg_sl [.ref (B 20 i0)] ++ List.replicate (3 - (lg_sl [.ref (B 20 i0)]).length) Slot.unset).toArray = ls at hl ⊢
  have hl : lv_has ls 3 [(0, .ref (B 20 i0))] := hl
  have q0 := hts (.fieldLink RX2 9 "MovesUp$Pupil" "weights" "[I") (List.mem_of_getElem? (i := 1) rfl)
  have hi2 : ∀ w ∈ u_ws RX2 TX2 7, w ∈ wsX2_together := in_seg 2 rfl
  have w4 : ∀ (n4 : Nat) (_ : Unit) (v1 : Int32) (v2 : Int32) , f_X2_together_b4 E i0 n4 S v1 v2 = some rr → ∀ (H : Heap) (locs : List Loc) (ls : Array Slot), WH G B E S H → va_S (AA G) s.heap H locs → lv_has ls 3 [(0, .ref (B 20 i0)), (1, .int v1), (2, .int v2)] → W p l e (headSpec wsX2_together (rmN 1)).room s m [.ref (B 20 i0)].toArray below meth c H locs 0 0 (MQ below (QI G B E S rr) [.ref (B 20 i0)].toArray s 0 0 (AA G)) (F0 m 4 ls []) := by
    intro n4
    induction n4 with
    | zero =>
      intro _ v1 v2 hf
      exact absurd (show (none : Option Int32) = some rr from hf) (fun h => by cases h)
    | succ n4 ih4 =>
      intro _ v1 v2 hf H locs ls hW hS hl
      have hf : g_X2_together_b4 E i0 (f_X2_together_b4 E i0 n4) S v1 v2 = some rr := hf
      unfold g_X2_together_b4 at hf
      refine lv_iload_n hx hb dX2_together_4 rfl (lv_at hl 2 rfl) ?_
      refine lv_iconst (v := 5) hx hb dX2_together_5 rfl ?_
      refine lv_icmp_ge (tgt := 24) hx hb dX2_together_6 (by decide) (fun h => ?_) (fun h => ?_)
      · have hf := if_t h hf
        refine lv_iload_n hx hb dX2_together_24 rfl (lv_at hl 1 rfl) ?_
        exact zr_i hf hx hb hr rfl hF hW hS dX2_together_25 hlocks
      · have hf := if_f h hf
        refine lv_iload_n hx hb dX2_together_9 rfl (lv_at hl 1 rfl) ?_
        refine lv_aload_n hx hb dX2_together_10 rfl (lv_at hl 0 rfl) ?_
        refine x_get hx hb hts hi2 hown hK hW (h0) (e20 _ _ _ _ _ _) rfl 4 (Nat.le_of_ble_eq_true rfl) q0 (fun _ h => h) (v := .ref (B 21 i0)) rfl dX2_together_11 ?_
        refine lv_iload_n hx hb dX2_together_14 rfl (lv_at hl 2 rfl) ?_
        obtain ⟨hi_1, hf⟩ := ck_out hf
        have hi_1 := ib_in hi_1
        refine x_iald hx hb hK hW (cv20_21 (h0)) (e21 _ _ _ _ _ _) hi_1 (jn := v2.toNatClampNeg) rfl dX2_together_15 ?_
        refine lv_iadd hx hb dX2_together_16 ?_
        obtain ⟨x2, e_x2, hf⟩ := lt_out hf
        refine x_nmI e_x2 ?_
        refine lv_istore_n (lv' := [(1, .int x2), (0, .ref (B 20 i0)), (2, .int v2)]) hx hb dX2_together_17 rfl hl (by decide) rfl (fun ls hl => ?_)
        obtain ⟨x3, e_x3, hf⟩ := lt_out hf
        refine lv_iinc (v := x3) (lv' := [(2, .int x3), (1, .int x2), (0, .ref (B 20 i0))]) hx hb dX2_together_18 hl (k := 2) rfl (by rw [e_x3]; rfl) (by decide) rfl (fun ls hl => ?_)
        refine lv_goto (tgt := 4) hx hb dX2_together_21 (by decide) ?_
        exact ih4 () x2 x3  hf _ _ _ hW hS (lv_sub hl [2, 1, 0] rfl)
  unfold f_X2_together at hf
  refine lv_iconst (v := 0) hx hb dX2_together_0 rfl ?_
  refine lv_istore_n (lv' := [(1, .int (0 : Int32)), (0, .ref (B 20 i0))]) hx hb dX2_together_1 rfl hl (by decide) rfl (fun ls hl => ?_)
  refine lv_iconst (v := 0) hx hb dX2_together_2 rfl ?_
  refine lv_istore_n (lv' := [(2, .int (0 : Int32)), (1, .int (0 : Int32)), (0, .ref (B 20 i0))]) hx hb dX2_together_3 rfl hl (by decide) rfl (fun ls hl => ?_)
  exact w4 E.1 () (0 : Int32) (0 : Int32)  hf _ _ _ hW hS (lv_sub hl [2, 1, 0] rfl)
set_option maxHeartbeats 4000000 in
set_option maxRecDepth 100000 in
theorem m_X6_common (l : Launch) (G : GE) (B : Nat → Nat → Nat) (E : EN)  (S : ST) (a1 : Int64) (a2 : Int64) (rr : Int64) (hf : f_X6_common E S a1 a2 = some rr) : Met l yX6_common wsX6_common (rmN 1) (va_Pc [.long a1, .long a2] (WS G B E S)) (QL G B E S rr) 0 0 (AA G) := by
  refine Met.ofW (cc := cX6_common) (maxL := 11) (ret := (some .long)) (by decide) rfl ?_
  intro p e s m args below meth c s₁ B0 hml hv
  obtain ⟨rfl, hW, hF⟩ := hv
  have hx := B0.exec
  have hb := B0.bytes
  have hr := B0.returns
  have hts := atoms_spec (ws := wsX6_common) B0.pre
  have hown : s.vm.findClass RX6 = some m.cls := findClass_of_methodNamed B0.named
  have hlocks := B0.notSynchronized
  have hK := hF.1
  have hfix : CallFix p m c cX6_common 11 s [.long a1, .long a2].toArray wsX6_common RX6 := ⟨hx, hb, hml, hown, hts⟩
  have hS : va_S (AA G) s.heap s.heap [] := va_S.rf
  have hl := lv_entry [.long a1, .long a2] (n := 11) (Nat.le_of_ble_eq_true rfl)
  rw [lg_entry_eq]
  generalize (lg_sl [.long a1, .long a2] ++ List.replicate (11 - (lg_sl [.long a1, .long a2]).length) Slot.unset).toArray = ls at hl ⊢
  have hl : lv_has ls 11 [(0, .long a1), (2, .long a2)] := hl
  have w9 : ∀ (n9 : Nat) (_ : Unit) (v4 : Int64) (v6 : Int64) (v8 : Int32) , f_X6_common_b9 E n9 S v4 v6 v8 = some rr → ∀ (H : Heap) (locs : List Loc) (ls : Array Slot), WH G B E S H → va_S (AA G) s.heap H locs → lv_has ls 11 [(4, .long v4), (6, .long v6), (8, .int v8)] → W p l e (headSpec wsX6_common (rmN 1)).room s m [.long a1, .long a2].toArray below meth c H locs 0 0 (MQ below (QL G B E S rr) [.long a1, .long a2].toArray s 0 0 (AA G)) (F0 m 9 ls []) := by
    intro n9
    induction n9 with
    | zero =>
      intro _ v4 v6 v8 hf
      exact absurd (show (none : Option Int64) = some rr from hf) (fun h => by cases h)
    | succ n9 ih9 =>
      intro _ v4 v6 v8 hf H locs ls hW hS hl
      have hf : g_X6_common_b9 E (f_X6_common_b9 E n9) S v4 v6 v8 = some rr := hf
      unfold g_X6_common_b9 at hf
      refine lv_iload hx hb dX6_common_9 (lv_at hl 2 rfl) ?_
      refine lv_bipush (v := 100) hx hb dX6_common_11 (by decide) ?_
      refine lv_icmp_ge (tgt := 44) hx hb dX6_common_13 (by decide) (fun h => ?_) (fun h => ?_)
      · have hf := if_t h hf
        refine lv_lload hx hb dX6_common_44 (lv_at hl 0 rfl) ?_
        exact zr_l hf hx hb hr hF hW hS dX6_common_46 hlocks
      · have hf := if_f h hf
        refine lv_lload hx hb dX6_common_16 (lv_at hl 1 rfl) ?_
        refine lv_lconst (v := 0) hx hb dX6_common_18 rfl ?_
        refine W.lcmp hx hb dX6_common_19 ?_
        refine lv_if_eq (tgt := 44) hx hb dX6_common_20 (by decide) (fun h => ?_) (fun h => ?_)
        · have h := (lg_cmp_eq _ _).mp h
          have hf := if_t h hf
          refine lv_lload hx hb dX6_common_44 (lv_at hl 0 rfl) ?_
          exact zr_l hf hx hb hr hF hW hS dX6_common_46 hlocks
        · have h := fun q => h ((lg_cmp_eq _ _).mpr q)
          have hf := if_f h hf
          refine lv_lload hx hb dX6_common_23 (lv_at hl 0 rfl) ?_
          refine lv_lload hx hb dX6_common_25 (lv_at hl 1 rfl) ?_
          obtain ⟨hz1, hf⟩ := ck_out hf
          have hz1 := nz_ hz1
          refine x_lrem hx hb dX6_common_27 hz1 ?_
          obtain ⟨x2, e_x2, hf⟩ := lt_out hf
          refine x_nmL e_x2 ?_
          refine lv_lstore (lv' := [(9, .long x2), (4, .long v4), (6, .long v6), (8, .int v8)]) hx hb dX6_common_28 hl (by decide) rfl (fun ls hl => ?_)
          refine lv_lload hx hb dX6_common_30 (lv_at hl 2 rfl) ?_
          refine lv_lstore (lv' := [(4, .long v6), (9, .long x2), (6, .long v6), (8, .int v8)]) hx hb dX6_common_32 hl (by decide) rfl (fun ls hl => ?_)
          refine lv_lload hx hb dX6_common_34 (lv_at hl 1 rfl) ?_
          refine lv_lstore (lv' := [(6, .long x2), (4, .long v6), (9, .long x2), (8, .int v8)]) hx hb dX6_common_36 hl (by decide) rfl (fun ls hl => ?_)
          obtain ⟨x3, e_x3, hf⟩ := lt_out hf
          refine lv_iinc (v := x3) (lv' := [(8, .int x3), (6, .long x2), (4, .long v6), (9, .long x2)]) hx hb dX6_common_38 hl (k := 3) rfl (by rw [e_x3]; rfl) (by decide) rfl (fun ls hl => ?_)
          refine lv_goto (tgt := 9) hx hb dX6_common_41 (by decide) ?_
          exact ih9 () v6 x2 x3  hf _ _ _ hW hS (lv_sub hl [2, 1, 0] rfl)
  unfold f_X6_common at hf
  refine lv_lload_n hx hb dX6_common_0 rfl (lv_at hl 0 rfl) ?_
  refine lv_lstore (lv' := [(4, .long a1), (0, .long a1), (2, .long a2)]) hx hb dX6_common_1 hl (by decide) rfl (fun ls hl => ?_)
  refine lv_lload_n hx hb dX6_common_3 rfl (lv_at hl 2 rfl) ?_
  refine lv_lstore (lv' := [(6, .long a2), (4, .long a1), (0, .long a1), (2, .long a2)]) hx hb dX6_common_4 hl (by decide) rfl (fun ls hl => ?_)
  refine lv_iconst (v := 0) hx hb dX6_common_6 rfl ?_
  refine lv_istore (lv' := [(8, .int (0 : Int32)), (6, .long a2), (4, .long a1), (0, .long a1), (2, .long a2)]) hx hb dX6_common_7 hl (by decide) rfl (fun ls hl => ?_)
  exact w9 E.1 () a1 a2 (0 : Int32)  hf _ _ _ hW hS (lv_sub hl [2, 1, 0] rfl)
set_option maxHeartbeats 4000000 in
set_option maxRecDepth 100000 in
theorem m_X2_takes (l : Launch) (G : GE) (B : Nat → Nat → Nat) (E : EN) (i0 : Nat) (h0 : i0 < cnt E 20) (S : ST) (a1 : Nat) (h_a1 : a1 < cnt E 28) (rr : Int32) (SS : ST) (hf : f_X2_takes E i0 S a1 = some (rr, SS)) : Met l yX2_takes wsX2_takes (rmN 2) (va_Pc [.ref (B 20 i0), .ref (B 28 a1)] (WS G B E S)) (QI G B E SS rr) 0 0 (AA G) := by
  refine Met.ofW (cc := cX2_takes) (maxL := 7) (ret := (some .boolean)) (by decide) rfl ?_
  intro p e s m args below meth c s₁ B0 hml hv
  obtain ⟨rfl, hW, hF⟩ := hv
  have hx := B0.exec
  have hb := B0.bytes
  have hr := B0.returns
  have hts := atoms_spec (ws := wsX2_takes) B0.pre
  have hown : s.vm.findClass RX2 = some m.cls := findClass_of_methodNamed B0.named
  have hlocks := B0.notSynchronized
  have hK := hF.1
  have hfix : CallFix p m c cX2_takes 7 s [.ref (B 20 i0), .ref (B 28 a1)].toArray wsX2_takes RX2 := ⟨hx, hb, hml, hown, hts⟩
  have hS : va_S (AA G) s.heap s.heap [] := va_S.rf
  have hl := lv_entry [.ref (B 20 i0), .ref (B 28 a1)] (n := 7) (Nat.le_of_ble_eq_true rfl)
  rw [lg_entry_eq]
  generalize (lg_sl [.ref (B 20 i0), .ref (B 28 a1)] ++ List.replicate (7 - (lg_sl [.ref (B 20 i0), .ref (B 28 a1)]).length) Slot.unset).toArray = ls at hl ⊢
  have hl : lv_has ls 7 [(0, .ref (B 20 i0)), (1, .ref (B 28 a1))] := hl
  have q0 := hts (.fieldLink RX2 9 "MovesUp$Pupil" "weights" "[I") (List.mem_of_getElem? (i := 2) rfl)
  have q1 := hts (.constantLong RX2 38 (9999)) (List.mem_of_getElem? (i := 1) rfl)
  have q2 := hts (.initialized RX6) (List.mem_of_getElem? (i := 4) rfl)
  have q3 := hts (.static yX6_common) (List.mem_of_getElem? (i := 3) rfl)
  have hi2 : ∀ w ∈ u_ws RX2 TX2 7, w ∈ wsX2_takes := in_seg 6 rfl
  have w60 : ∀ (n60 : Nat) (S : ST) (v1 : Nat) (v2 : Int64) (v6 : Int32) (h_v1 : v1 < cnt E 28), f_X2_takes_b60 E i0 n60 S v1 v2 v6 = some (rr, SS) → ∀ (H : Heap) (locs : List Loc) (ls : Array Slot), WH G B E S H → va_S (AA G) s.heap H locs → lv_has ls 7 [(0, .ref (B 20 i0)), (1, .ref (B 28 v1)), (2, .long v2), (6, .int v6)] → W p l e (headSpec wsX2_takes (rmN 2)).room s m [.ref (B 20 i0), .ref (B 28 a1)].toArray below meth c H locs 0 0 (MQ below (QI G B E SS rr) [.ref (B 20 i0), .ref (B 28 a1)].toArray s 0 0 (AA G)) (F0 m 60 ls []) := by
    intro n60
    induction n60 with
    | zero =>
      intro S v1 v2 v6 h_v1 hf
      exact absurd (show (none : Option (Int32 × ST)) = some (rr, SS) from hf) (fun h => by cases h)
    | succ n60 ih60 =>
      intro S v1 v2 v6 h_v1 hf H locs ls hW hS hl
      have hf : g_X2_takes_b60 E i0 (f_X2_takes_b60 E i0 n60) S v1 v2 v6 = some (rr, SS) := hf
      unfold g_X2_takes_b60 at hf
      refine lv_iload hx hb dX2_takes_60 (lv_at hl 3 rfl) ?_
      refine lv_iconst (v := 5) hx hb dX2_takes_62 rfl ?_
      refine lv_icmp_ge (tgt := 86) hx hb dX2_takes_63 (by decide) (fun h => ?_) (fun h => ?_)
      · have hf := if_t h hf
        refine lv_iconst (v := 1) hx hb dX2_takes_86 rfl ?_
        exact z_i hf hx hb hr rfl hF hW hS dX2_takes_87 hlocks
      · have hf := if_f h hf
        refine lv_aload_n hx hb dX2_takes_66 rfl (lv_at hl 0 rfl) ?_
        refine x_get hx hb hts hi2 hown hK hW (h0) (e20 _ _ _ _ _ _) rfl 4 (Nat.le_of_ble_eq_true rfl) q0 (fun _ h => h) (v := .ref (B 21 i0)) rfl dX2_takes_67 ?_
        refine lv_iload hx hb dX2_takes_70 (lv_at hl 3 rfl) ?_
        refine lv_aload_n hx hb dX2_takes_72 rfl (lv_at hl 1 rfl) ?_
        refine lv_iload hx hb dX2_takes_73 (lv_at hl 3 rfl) ?_
        obtain ⟨hi_1, hf⟩ := ck_out hf
        have hi_1 := ib_in hi_1
        refine x_lald hx hb hK hW (h_v1) (e28 _ _ _ _ _ _) hi_1 (jn := v6.toNatClampNeg) rfl dX2_takes_75 ?_
        refine lv_lload_n hx hb dX2_takes_76 rfl (lv_at hl 2 rfl) ?_
        obtain ⟨hz2, hf⟩ := ck_out hf
        have hz2 := nz_ hz2
        refine lv_ldiv hx hb dX2_takes_77 hz2 ?_
        refine lv_l2i hx hb dX2_takes_78 rfl ?_
        obtain ⟨S3, e_S3, hf⟩ := lt_out hf
        refine x_iast hx hb hK hW hS (cv20_21 (h0)) (fun f r => e21 _ _ _ f _ r) hi_1 (jn := v6.toNatClampNeg) rfl e_S3 dX2_takes_79 (fun H locs hW hS => ?_)
        obtain ⟨x4, e_x4, hf⟩ := lt_out hf
        refine lv_iinc (v := x4) (lv' := [(6, .int x4), (0, .ref (B 20 i0)), (1, .ref (B 28 v1)), (2, .long v2)]) hx hb dX2_takes_80 hl (k := 3) rfl (by rw [e_x4]; rfl) (by decide) rfl (fun ls hl => ?_)
        refine lv_goto (tgt := 60) hx hb dX2_takes_83 (by decide) ?_
        exact ih60 S3 v1 v2 x4 (h_v1) hf _ _ _ hW hS (lv_sub hl [1, 2, 3, 0] rfl)
  have w38 : ∀ (S : ST) (v1 : Nat) (v2 : Int64) (v4 : Int64) (h_v1 : v1 < cnt E 28), f_X2_takes_b38 E i0 S v1 v2 v4 = some (rr, SS) → ∀ (H : Heap) (locs : List Loc) (ls : Array Slot), WH G B E S H → va_S (AA G) s.heap H locs → lv_has ls 7 [(0, .ref (B 20 i0)), (1, .ref (B 28 v1)), (2, .long v2), (4, .long v4)] → W p l e (headSpec wsX2_takes (rmN 2)).room s m [.ref (B 20 i0), .ref (B 28 a1)].toArray below meth c H locs 0 0 (MQ below (QI G B E SS rr) [.ref (B 20 i0), .ref (B 28 a1)].toArray s 0 0 (AA G)) (F0 m 38 ls []) := by
    intro S v1 v2 v4 h_v1 hf H locs ls hW hS hl
    unfold f_X2_takes_b38 at hf
    refine lv_lload_n hx hb dX2_takes_38 rfl (lv_at hl 2 rfl) ?_
    refine lv_lconst (v := 0) hx hb dX2_takes_39 rfl ?_
    refine W.lcmp hx hb dX2_takes_40 ?_
    refine lv_if_eq (tgt := 55) hx hb dX2_takes_41 (by decide) (fun h => ?_) (fun h => ?_)
    · have h := (lg_cmp_eq _ _).mp h
      have hf := if_t h hf
      refine lv_iconst (v := 0) hx hb dX2_takes_55 rfl ?_
      exact z_i hf hx hb hr rfl hF hW hS dX2_takes_56 hlocks
    · have h := fun q => h ((lg_cmp_eq _ _).mpr q)
      have hf := if_f h hf
      refine lv_lload hx hb dX2_takes_44 (lv_at hl 3 rfl) ?_
      refine lv_lload_n hx hb dX2_takes_46 rfl (lv_at hl 2 rfl) ?_
      obtain ⟨hz5, hf⟩ := ck_out hf
      have hz5 := nz_ hz5
      refine lv_ldiv hx hb dX2_takes_47 hz5 ?_
      refine lv_ldc2 hx hb hown q1 dX2_takes_48 ?_
      refine W.lcmp hx hb dX2_takes_51 ?_
      refine lv_if_le (tgt := 57) hx hb dX2_takes_52 (by decide) (fun h => ?_) (fun h => ?_)
      · have h := (lg_cmp_le _ _).mp h
        have hf := if_t h hf
        refine lv_iconst (v := 0) hx hb dX2_takes_57 rfl ?_
        refine lv_istore (lv' := [(6, .int (0 : Int32)), (0, .ref (B 20 i0)), (1, .ref (B 28 v1)), (2, .long v2), (4, .long v4)]) hx hb dX2_takes_58 hl (by decide) rfl (fun ls hl => ?_)
        exact w60 E.1 S v1 v2 (0 : Int32) (h_v1) hf _ _ _ hW hS (lv_sub hl [1, 2, 3, 0] rfl)
      · have h := fun q => h ((lg_cmp_le _ _).mpr q)
        have hf := if_f h hf
        refine lv_iconst (v := 0) hx hb dX2_takes_55 rfl ?_
        exact z_i hf hx hb hr rfl hF hW hS dX2_takes_56 hlocks
  have w8 : ∀ (n8 : Nat) (S : ST) (v1 : Nat) (v2 : Int64) (v4 : Int64) (v6 : Int32) (h_v1 : v1 < cnt E 28), f_X2_takes_b8 E i0 n8 S v1 v2 v4 v6 = some (rr, SS) → ∀ (H : Heap) (locs : List Loc) (ls : Array Slot), WH G B E S H → va_S (AA G) s.heap H locs → lv_has ls 7 [(0, .ref (B 20 i0)), (1, .ref (B 28 v1)), (2, .long v2), (4, .long v4), (6, .int v6)] → W p l e (headSpec wsX2_takes (rmN 2)).room s m [.ref (B 20 i0), .ref (B 28 a1)].toArray below meth c H locs 0 0 (MQ below (QI G B E SS rr) [.ref (B 20 i0), .ref (B 28 a1)].toArray s 0 0 (AA G)) (F0 m 8 ls []) := by
    intro n8
    induction n8 with
    | zero =>
      intro S v1 v2 v4 v6 h_v1 hf
      exact absurd (show (none : Option (Int32 × ST)) = some (rr, SS) from hf) (fun h => by cases h)
    | succ n8 ih8 =>
      intro S v1 v2 v4 v6 h_v1 hf H locs ls hW hS hl
      have hf : g_X2_takes_b8 E i0 (f_X2_takes_b8 E i0 n8) S v1 v2 v4 v6 = some (rr, SS) := hf
      unfold g_X2_takes_b8 at hf
      refine lv_iload hx hb dX2_takes_8 (lv_at hl 4 rfl) ?_
      refine lv_iconst (v := 5) hx hb dX2_takes_10 rfl ?_
      refine lv_icmp_ge (tgt := 38) hx hb dX2_takes_11 (by decide) (fun h => ?_) (fun h => ?_)
      · have hf := if_t h hf
        exact w38 S v1 v2 v4 (h_v1) hf _ _ _ hW hS (lv_sub hl [0, 1, 2, 3] rfl)
      · have hf := if_f h hf
        refine lv_lload_n hx hb dX2_takes_14 rfl (lv_at hl 2 rfl) ?_
        refine lv_aload_n hx hb dX2_takes_15 rfl (lv_at hl 1 rfl) ?_
        refine lv_iload hx hb dX2_takes_16 (lv_at hl 4 rfl) ?_
        obtain ⟨hi_6, hf⟩ := ck_out hf
        have hi_6 := ib_in hi_6
        refine x_lald hx hb hK hW (h_v1) (e28 _ _ _ _ _ _) hi_6 (jn := v6.toNatClampNeg) rfl dX2_takes_18 ?_
        obtain ⟨r7, hc, hf⟩ := bd_out hf
        refine y_l (va_runSN (As := [.long v2, .long (gL S 28 v1 v6.toNatClampNeg)]) (rest := []) hfix (m_X6_common l G B E S v2 (gL S 28 v1 v6.toNatClampNeg) r7 hc) ⟨va_cnB 2 hts gX2_takes_X6_common_n34 rfl rfl rfl (NW.m hF.2.1 26 (q := ("MovesUp$Pupil", 34, "MovesUp", "common", "(JJ)J", "MovesUp")) rfl) q2 hd_X6_common ⟨Nat.le_of_ble_eq_true rfl, Nat.le_of_ble_eq_true rfl⟩, q3, trivial⟩ (y_ps hF hW hS) rfl rfl hl.1 rfl (lv_room (Nat.le_of_ble_eq_true rfl)) dX2_takes_19 ⟨Nat.le_of_ble_eq_true rfl, Nat.le_of_ble_eq_true rfl⟩) hS (fun H locs hW hS => ?_)
        refine lv_lstore_n (lv' := [(2, .long r7), (0, .ref (B 20 i0)), (1, .ref (B 28 v1)), (4, .long v4), (6, .int v6)]) hx hb dX2_takes_22 rfl hl (by decide) rfl (fun ls hl => ?_)
        refine lv_lload hx hb dX2_takes_23 (lv_at hl 3 rfl) ?_
        refine lv_aload_n hx hb dX2_takes_25 rfl (lv_at hl 2 rfl) ?_
        refine lv_iload hx hb dX2_takes_26 (lv_at hl 4 rfl) ?_
        refine x_lald hx hb hK hW (h_v1) (e28 _ _ _ _ _ _) hi_6 (jn := v6.toNatClampNeg) rfl dX2_takes_28 ?_
        refine lv_ladd hx hb dX2_takes_29 ?_
        obtain ⟨x8, e_x8, hf⟩ := lt_out hf
        refine x_nmL e_x8 ?_
        refine lv_lstore (lv' := [(4, .long x8), (2, .long r7), (0, .ref (B 20 i0)), (1, .ref (B 28 v1)), (6, .int v6)]) hx hb dX2_takes_30 hl (by decide) rfl (fun ls hl => ?_)
        obtain ⟨x9, e_x9, hf⟩ := lt_out hf
        refine lv_iinc (v := x9) (lv' := [(6, .int x9), (4, .long x8), (2, .long r7), (0, .ref (B 20 i0)), (1, .ref (B 28 v1))]) hx hb dX2_takes_32 hl (k := 4) rfl (by rw [e_x9]; rfl) (by decide) rfl (fun ls hl => ?_)
        refine lv_goto (tgt := 8) hx hb dX2_takes_35 (by decide) ?_
        exact ih8 S v1 r7 x8 x9 (h_v1) hf _ _ _ hW hS (lv_sub hl [3, 4, 2, 1, 0] rfl)
  unfold f_X2_takes at hf
  refine lv_lconst (v := 0) hx hb dX2_takes_0 rfl ?_
  refine lv_lstore_n (lv' := [(2, .long (0 : Int64)), (0, .ref (B 20 i0)), (1, .ref (B 28 a1))]) hx hb dX2_takes_1 rfl hl (by decide) rfl (fun ls hl => ?_)
  refine lv_lconst (v := 0) hx hb dX2_takes_2 rfl ?_
  refine lv_lstore (lv' := [(4, .long (0 : Int64)), (2, .long (0 : Int64)), (0, .ref (B 20 i0)), (1, .ref (B 28 a1))]) hx hb dX2_takes_3 hl (by decide) rfl (fun ls hl => ?_)
  refine lv_iconst (v := 0) hx hb dX2_takes_5 rfl ?_
  refine lv_istore (lv' := [(6, .int (0 : Int32)), (4, .long (0 : Int64)), (2, .long (0 : Int64)), (0, .ref (B 20 i0)), (1, .ref (B 28 a1))]) hx hb dX2_takes_6 hl (by decide) rfl (fun ls hl => ?_)
  exact w8 E.1 S a1 (0 : Int64) (0 : Int64) (0 : Int32) (h_a1) hf _ _ _ hW hS (lv_sub hl [3, 4, 2, 1, 0] rfl)
