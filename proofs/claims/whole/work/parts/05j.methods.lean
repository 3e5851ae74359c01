set_option maxHeartbeats 4000000 in
set_option maxRecDepth 100000 in
theorem m_X7_areMarks (l : Launch) (G : GE) (B : Nat → Nat → Nat) (E : EN) (hE : 0 < E.2.2.2)  (S : ST) (a1 : Int32) (rr : Int32) (hf : f_X7_areMarks E S a1 = some rr) : Met l yX7_areMarks wsX7_areMarks (rmN 2) (va_Pc [.ref (B 1 0), .int a1] (WS G B E S)) (QI G B E S rr) 0 0 (AA G) := by
  refine Met.ofW (cc := cX7_areMarks) (maxL := 2) (ret := (some .boolean)) (by decide) rfl ?_
  intro p e s m args below meth c s₁ B0 hml hv
  obtain ⟨rfl, hW, hF⟩ := hv
  have hx := B0.exec
  have hb := B0.bytes
  have hr := B0.returns
  have hts := atoms_spec (ws := wsX7_areMarks) B0.pre
  have hown : s.vm.findClass RX7 = some m.cls := findClass_of_methodNamed B0.named
  have hlocks := B0.notSynchronized
  have hK := hF.1
  have hfix : CallFix p m c cX7_areMarks 2 s [.ref (B 1 0), .int a1].toArray wsX7_areMarks RX7 := ⟨hx, hb, hml, hown, hts⟩
  have hS : va_S (AA G) s.heap s.heap [] := va_S.rf
  have hl := lv_entry [.ref (B 1 0), .int a1] (n := 2) (Nat.le_of_ble_eq_true rfl)
  rw [lg_entry_eq]
  generalize (lg_sl [.ref (B 1 0), .int a1] ++ List.replicate (2 - (lg_sl [.ref (B 1 0), .int a1]).length) Slot.unset).toArray = ls at hl ⊢
  have hl : lv_has ls 2 [(0, .ref (B 1 0)), (1, .int a1)] := hl
  unfold f_X7_areMarks at hf
  refine lv_aload_n hx hb dX7_areMarks_0 rfl (lv_at hl 0 rfl) ?_
  refine lv_iload_n hx hb dX7_areMarks_1 rfl (lv_at hl 1 rfl) ?_
  refine lv_iconst (v := 0) hx hb dX7_areMarks_2 rfl ?_
  refine lv_sipush (v := 531) hx hb dX7_areMarks_3 (by decide) ?_
  obtain ⟨r1, hc, hf⟩ := bd_out hf
  refine y_i (va_runV (As := [.int a1, .int (0 : Int32), .int (531 : Int32)]) (rest := []) hfix (m_X7_in l G B E hE S a1 (0 : Int32) (531 : Int32) r1 hc) (cwV 3 hts gX7_areMarks_X7_in rfl rfl rfl ⟨rfl, hd_X7_in⟩ ⟨Nat.le_of_ble_eq_true rfl, Nat.le_of_ble_eq_true rfl⟩) (y_pv hF hW hS (c1 hE) (e1 _ _ _ _ _ _) rfl) rfl rfl hl.1 rfl (lv_room (Nat.le_of_ble_eq_true rfl)) dX7_areMarks_6 ⟨Nat.le_of_ble_eq_true rfl, Nat.le_of_ble_eq_true rfl⟩) hS (fun H locs hW hS => ?_)
  refine lv_if_eq (tgt := 38) hx hb dX7_areMarks_9 (by decide) (fun h => ?_) (fun h => ?_)
  · have hf := if_t h hf
    refine lv_iconst (v := 0) hx hb dX7_areMarks_38 rfl ?_
    exact zr_i hf hx hb hr rfl hF hW hS dX7_areMarks_39 hlocks
  · have hf := if_f h hf
    refine lv_iload_n hx hb dX7_areMarks_12 rfl (lv_at hl 1 rfl) ?_
    refine lv_bipush (v := 100) hx hb dX7_areMarks_13 (by decide) ?_
    refine lv_idiv hx hb dX7_areMarks_15 (by decide) ?_
    refine lv_bipush (v := 6) hx hb dX7_areMarks_16 (by decide) ?_
    refine lv_icmp_ge (tgt := 38) hx hb dX7_areMarks_18 (by decide) (fun h => ?_) (fun h => ?_)
    · have hf := if_t h hf
      refine lv_iconst (v := 0) hx hb dX7_areMarks_38 rfl ?_
      exact zr_i hf hx hb hr rfl hF hW hS dX7_areMarks_39 hlocks
    · have hf := if_f h hf
      refine lv_iload_n hx hb dX7_areMarks_21 rfl (lv_at hl 1 rfl) ?_
      refine lv_bipush (v := 100) hx hb dX7_areMarks_22 (by decide) ?_
      refine x_irem hx hb dX7_areMarks_24 (by decide) ?_
      refine lv_iconst (v := 1) hx hb dX7_areMarks_25 rfl ?_
      refine lv_iload_n hx hb dX7_areMarks_26 rfl (lv_at hl 1 rfl) ?_
      refine lv_bipush (v := 100) hx hb dX7_areMarks_27 (by decide) ?_
      refine lv_idiv hx hb dX7_areMarks_29 (by decide) ?_
      refine lv_ishl hx hb dX7_areMarks_30 ?_
      refine lv_icmp_ge (tgt := 38) hx hb dX7_areMarks_31 (by decide) (fun h => ?_) (fun h => ?_)
      · have hf := if_t h hf
        refine lv_iconst (v := 0) hx hb dX7_areMarks_38 rfl ?_
        exact zr_i hf hx hb hr rfl hF hW hS dX7_areMarks_39 hlocks
      · have hf := if_f h hf
        refine lv_iconst (v := 1) hx hb dX7_areMarks_34 rfl ?_
        refine lv_goto (tgt := 39) hx hb dX7_areMarks_35 (by decide) ?_
        exact zr_i hf hx hb hr rfl hF hW hS dX7_areMarks_39 hlocks
set_option maxHeartbeats 4000000 in
set_option maxRecDepth 100000 in
theorem m_X7_goMarks (l : Launch) (G : GE) (B : Nat → Nat → Nat) (E : EN) (hE : 0 < E.2.2.2)  (S : ST) (a1 : Int32) (a2 : Int32) (SS : ST) (hf : f_X7_goMarks E S a1 a2 = some SS) : Met l yX7_goMarks wsX7_goMarks (rmN 5) (va_Pc [.ref (B 1 0), .int a1, .int a2] (WS G B E S)) (QV G B E SS) 0 0 (AA G) := by
  refine Met.ofW (cc := cX7_goMarks) (maxL := 3) (ret := none) (by decide) rfl ?_
  intro p e s m args below meth c s₁ B0 hml hv
  obtain ⟨rfl, hW, hF⟩ := hv
  have hx := B0.exec
  have hb := B0.bytes
  have hr := B0.returns
  have hts := atoms_spec (ws := wsX7_goMarks) B0.pre
  have hown : s.vm.findClass RX7 = some m.cls := findClass_of_methodNamed B0.named
  have hlocks := B0.notSynchronized
  have hK := hF.1
  have hfix : CallFix p m c cX7_goMarks 3 s [.ref (B 1 0), .int a1, .int a2].toArray wsX7_goMarks RX7 := ⟨hx, hb, hml, hown, hts⟩
  have hS : va_S (AA G) s.heap s.heap [] := va_S.rf
  have hl := lv_entry [.ref (B 1 0), .int a1, .int a2] (n := 3) (Nat.le_of_ble_eq_true rfl)
  rw [lg_entry_eq]
  generalize (lg_sl [.ref (B 1 0), .int a1, .int a2] ++ List.replicate (3 - (lg_sl [.ref (B 1 0), .int a1, .int a2]).length) Slot.unset).toArray = ls at hl ⊢
  have hl : lv_has ls 3 [(0, .ref (B 1 0)), (1, .int a1), (2, .int a2)] := hl
  have q0 := hts (.fieldLink RX7 18 "MovesUpModel" "kin" "[I") (List.mem_of_getElem? (i := 1) rfl)
  have q1 := hts (.fieldLink RX7 15 "MovesUpModel" "grade" "[I") (List.mem_of_getElem? (i := 2) rfl)
  have q2 := hts (.fieldLink RX7 11 "MovesUpModel" "kind" "[I") (List.mem_of_getElem? (i := 3) rfl)
  have q3 := hts (.fieldLink RX7 21 "MovesUpModel" "number" "[I") (List.mem_of_getElem? (i := 4) rfl)
  have hi7 : ∀ w ∈ u_ws RX7 TX7 47, w ∈ wsX7_goMarks := in_seg 71 rfl
  unfold f_X7_goMarks at hf
  refine lv_aload_n hx hb dX7_goMarks_0 rfl (lv_at hl 0 rfl) ?_
  refine lv_aload_n hx hb dX7_goMarks_1 rfl (lv_at hl 0 rfl) ?_
  refine x_get hx hb hts hi7 hown hK hW (c1 hE) (e1 _ _ _ _ _ _) rfl 3 (Nat.le_of_ble_eq_true rfl) q0 (fun _ h => h) (v := .ref (B 43 0)) rfl dX7_goMarks_2 ?_
  refine lv_iload_n hx hb dX7_goMarks_5 rfl (lv_at hl 1 rfl) ?_
  obtain ⟨hi_1, hf⟩ := ck_out hf
  have hi_1 := ib_in hi_1
  refine x_iald hx hb hK hW (c43 hE) (e43 _ _ _ _ _ _) hi_1 (jn := a1.toNatClampNeg) rfl dX7_goMarks_6 ?_
  obtain ⟨S2, hc, hf⟩ := bd_out hf
  refine y_v (va_runV (As := [.int (gI S 43 0 a1.toNatClampNeg)]) (rest := []) hfix (m_X7_layRule l G B E hE S (gI S 43 0 a1.toNatClampNeg) S2 hc) (cwV 1 hts gX7_goMarks_X7_layRule rfl rfl rfl ⟨rfl, hd_X7_layRule⟩ ⟨Nat.le_of_ble_eq_true rfl, Nat.le_of_ble_eq_true rfl⟩) (y_pv hF hW hS (c1 hE) (e1 _ _ _ _ _ _) rfl) rfl rfl hl.1 rfl (lv_room (Nat.le_of_ble_eq_true rfl)) dX7_goMarks_7 ⟨Nat.le_of_ble_eq_true rfl, Nat.le_of_ble_eq_true rfl⟩) hS (fun H locs hW hS => ?_)
  refine lv_aload_n hx hb dX7_goMarks_10 rfl (lv_at hl 0 rfl) ?_
  refine lv_iload_n hx hb dX7_goMarks_11 rfl (lv_at hl 1 rfl) ?_
  refine lv_aload_n hx hb dX7_goMarks_12 rfl (lv_at hl 0 rfl) ?_
  refine x_get hx hb hts hi7 hown hK hW (c1 hE) (e1 _ _ _ _ _ _) rfl 2 (Nat.le_of_ble_eq_true rfl) q1 (fun _ h => h) (v := .ref (B 42 0)) rfl dX7_goMarks_13 ?_
  refine lv_iload_n hx hb dX7_goMarks_16 rfl (lv_at hl 1 rfl) ?_
  refine x_iald hx hb hK hW (c42 hE) (e42 _ _ _ _ _ _) hi_1 (jn := a1.toNatClampNeg) rfl dX7_goMarks_17 ?_
  refine lv_aload_n hx hb dX7_goMarks_18 rfl (lv_at hl 0 rfl) ?_
  refine x_get hx hb hts hi7 hown hK hW (c1 hE) (e1 _ _ _ _ _ _) rfl 1 (Nat.le_of_ble_eq_true rfl) q2 (fun _ h => h) (v := .ref (B 41 0)) rfl dX7_goMarks_19 ?_
  refine lv_iload_n hx hb dX7_goMarks_22 rfl (lv_at hl 1 rfl) ?_
  refine x_iald hx hb hK hW (c41 hE) (e41 _ _ _ _ _ _) hi_1 (jn := a1.toNatClampNeg) rfl dX7_goMarks_23 ?_
  refine lv_aload_n hx hb dX7_goMarks_24 rfl (lv_at hl 0 rfl) ?_
  refine x_get hx hb hts hi7 hown hK hW (c1 hE) (e1 _ _ _ _ _ _) rfl 4 (Nat.le_of_ble_eq_true rfl) q3 (fun _ h => h) (v := .ref (B 44 0)) rfl dX7_goMarks_25 ?_
  refine lv_iload_n hx hb dX7_goMarks_28 rfl (lv_at hl 1 rfl) ?_
  refine x_iald hx hb hK hW (c44 hE) (e44 _ _ _ _ _ _) hi_1 (jn := a1.toNatClampNeg) rfl dX7_goMarks_29 ?_
  refine lv_iload_n hx hb dX7_goMarks_30 rfl (lv_at hl 2 rfl) ?_
  refine lv_bipush (v := 100) hx hb dX7_goMarks_31 (by decide) ?_
  refine lv_idiv hx hb dX7_goMarks_33 (by decide) ?_
  refine lv_iload_n hx hb dX7_goMarks_34 rfl (lv_at hl 2 rfl) ?_
  refine lv_bipush (v := 100) hx hb dX7_goMarks_35 (by decide) ?_
  refine x_irem hx hb dX7_goMarks_37 (by decide) ?_
  obtain ⟨S3, hc, hf⟩ := bd_out hf
  refine y_v (va_runV (As := [.int a1, .int (gI S2 42 0 a1.toNatClampNeg), .int (gI S2 41 0 a1.toNatClampNeg), .int (gI S2 44 0 a1.toNatClampNeg), .int (a2 / (100 : Int32)), .int (rmI a2 (100 : Int32))]) (rest := []) hfix (m_X7_go l G B E hE S2 a1 (gI S2 42 0 a1.toNatClampNeg) (gI S2 41 0 a1.toNatClampNeg) (gI S2 44 0 a1.toNatClampNeg) (a2 / (100 : Int32)) (rmI a2 (100 : Int32)) S3 hc) (cwV 6 hts gX7_goMarks_X7_go rfl rfl rfl ⟨rfl, hd_X7_go⟩ ⟨Nat.le_of_ble_eq_true rfl, Nat.le_of_ble_eq_true rfl⟩) (y_pv hF hW hS (c1 hE) (e1 _ _ _ _ _ _) rfl) rfl rfl hl.1 rfl (lv_room (Nat.le_of_ble_eq_true rfl)) dX7_goMarks_38 ⟨Nat.le_of_ble_eq_true rfl, Nat.le_of_ble_eq_true rfl⟩) hS (fun H locs hW hS => ?_)
  exact z_v hf hx hb hr hF hW hS dX7_goMarks_41 hlocks
set_option maxHeartbeats 4000000 in
set_option maxRecDepth 100000 in
theorem m_X7_divisor (l : Launch) (G : GE) (B : Nat → Nat → Nat) (E : EN) (hE : 0 < E.2.2.2)  (S : ST) (a1 : Int64) (a2 : Int64) (rr : Int64) (hf : f_X7_divisor E S a1 a2 = some rr) : Met l yX7_divisor wsX7_divisor (rmN 1) (va_Pc [.ref (B 1 0), .long a1, .long a2] (WS G B E S)) (QL G B E S rr) 0 0 (AA G) := by
  refine Met.ofW (cc := cX7_divisor) (maxL := 11) (ret := (some .long)) (by decide) rfl ?_
  intro p e s m args below meth c s₁ B0 hml hv
  obtain ⟨rfl, hW, hF⟩ := hv
  have hx := B0.exec
  have hb := B0.bytes
  have hr := B0.returns
  have hts := atoms_spec (ws := wsX7_divisor) B0.pre
  have hown : s.vm.findClass RX7 = some m.cls := findClass_of_methodNamed B0.named
  have hlocks := B0.notSynchronized
  have hK := hF.1
  have hfix : CallFix p m c cX7_divisor 11 s [.ref (B 1 0), .long a1, .long a2].toArray wsX7_divisor RX7 := ⟨hx, hb, hml, hown, hts⟩
  have hS : va_S (AA G) s.heap s.heap [] := va_S.rf
  have hl := lv_entry [.ref (B 1 0), .long a1, .long a2] (n := 11) (Nat.le_of_ble_eq_true rfl)
  rw [lg_entry_eq]
  generalize (lg_sl [.ref (B 1 0), .long a1, .long a2] ++ List.replicate (11 - (lg_sl [.ref (B 1 0), .long a1, .long a2]).length) Slot.unset).toArray = ls at hl ⊢
  have hl : lv_has ls 11 [(0, .ref (B 1 0)), (1, .long a1), (3, .long a2)] := hl
  have w17 : ∀ (n17 : Nat) (_ : Unit) (v5 : Int64) (v7 : Int64) , f_X7_divisor_b17 E n17 S v5 v7 = some rr → ∀ (H : Heap) (locs : List Loc) (ls : Array Slot), WH G B E S H → va_S (AA G) s.heap H locs → lv_has ls 11 [(5, .long v5), (7, .long v7)] → W p l e (headSpec wsX7_divisor (rmN 1)).room s m [.ref (B 1 0), .long a1, .long a2].toArray below meth c H locs 0 0 (MQ below (QL G B E S rr) [.ref (B 1 0), .long a1, .long a2].toArray s 0 0 (AA G)) (F0 m 17 ls []) := by
    intro n17
    induction n17 with
    | zero =>
      intro _ v5 v7 hf
      exact absurd (show (none : Option Int64) = some rr from hf) (fun h => by cases h)
    | succ n17 ih17 =>
      intro _ v5 v7 hf H locs ls hW hS hl
      have hf : g_X7_divisor_b17 E (f_X7_divisor_b17 E n17) S v5 v7 = some rr := hf
      unfold g_X7_divisor_b17 at hf
      refine lv_lload hx hb dX7_divisor_17 (lv_at hl 1 rfl) ?_
      refine lv_lconst (v := 0) hx hb dX7_divisor_19 rfl ?_
      refine W.lcmp hx hb dX7_divisor_20 ?_
      refine lv_if_eq (tgt := 42) hx hb dX7_divisor_21 (by decide) (fun h => ?_) (fun h => ?_)
      · have h := (lg_cmp_eq _ _).mp h
        have hf := if_t h hf
        refine lv_lload hx hb dX7_divisor_42 (lv_at hl 0 rfl) ?_
        exact zr_l hf hx hb hr hF hW hS dX7_divisor_44 hlocks
      · have h := fun q => h ((lg_cmp_eq _ _).mpr q)
        have hf := if_f h hf
        refine lv_lload hx hb dX7_divisor_24 (lv_at hl 0 rfl) ?_
        refine lv_lload hx hb dX7_divisor_26 (lv_at hl 1 rfl) ?_
        obtain ⟨hz1, hf⟩ := ck_out hf
        have hz1 := nz_ hz1
        refine x_lrem hx hb dX7_divisor_28 hz1 ?_
        obtain ⟨x2, e_x2, hf⟩ := lt_out hf
        refine x_nmL e_x2 ?_
        refine lv_lstore (lv' := [(9, .long x2), (5, .long v5), (7, .long v7)]) hx hb dX7_divisor_29 hl (by decide) rfl (fun ls hl => ?_)
        refine lv_lload hx hb dX7_divisor_31 (lv_at hl 2 rfl) ?_
        refine lv_lstore (lv' := [(5, .long v7), (9, .long x2), (7, .long v7)]) hx hb dX7_divisor_33 hl (by decide) rfl (fun ls hl => ?_)
        refine lv_lload hx hb dX7_divisor_35 (lv_at hl 1 rfl) ?_
        refine lv_lstore (lv' := [(7, .long x2), (5, .long v7), (9, .long x2)]) hx hb dX7_divisor_37 hl (by decide) rfl (fun ls hl => ?_)
        refine lv_goto (tgt := 17) hx hb dX7_divisor_39 (by decide) ?_
        exact ih17 () v7 x2  hf _ _ _ hW hS (lv_sub hl [1, 0] rfl)
  have w12 : ∀ (_ : Unit) (v3 : Int64) (t0 : Int64) , f_X7_divisor_b12 E S v3 t0 = some rr → ∀ (H : Heap) (locs : List Loc) (ls : Array Slot), WH G B E S H → va_S (AA G) s.heap H locs → lv_has ls 11 [(3, .long v3)] → W p l e (headSpec wsX7_divisor (rmN 1)).room s m [.ref (B 1 0), .long a1, .long a2].toArray below meth c H locs 0 0 (MQ below (QL G B E S rr) [.ref (B 1 0), .long a1, .long a2].toArray s 0 0 (AA G)) (F0 m 12 ls [.long t0]) := by
    intro _ v3 t0 hf H locs ls hW hS hl
    unfold f_X7_divisor_b12 at hf
    refine lv_lstore (lv' := [(5, .long t0), (3, .long v3)]) hx hb dX7_divisor_12 hl (by decide) rfl (fun ls hl => ?_)
    refine lv_lload_n hx hb dX7_divisor_14 rfl (lv_at hl 1 rfl) ?_
    refine lv_lstore (lv' := [(7, .long v3), (5, .long t0), (3, .long v3)]) hx hb dX7_divisor_15 hl (by decide) rfl (fun ls hl => ?_)
    exact w17 E.1 () t0 v3  hf _ _ _ hW hS (lv_sub hl [1, 0] rfl)
  unfold f_X7_divisor at hf
  refine lv_lload_n hx hb dX7_divisor_0 rfl (lv_at hl 1 rfl) ?_
  refine lv_lconst (v := 0) hx hb dX7_divisor_1 rfl ?_
  refine W.lcmp hx hb dX7_divisor_2 ?_
  refine lv_if_ge (tgt := 11) hx hb dX7_divisor_3 (by decide) (fun h => ?_) (fun h => ?_)
  · have h := (lg_cmp_ge _ _).mp h
    have hf := if_t h hf
    refine lv_lload_n hx hb dX7_divisor_11 rfl (lv_at hl 1 rfl) ?_
    exact w12 () a2 a1  hf _ _ _ hW hS (lv_sub hl [2] rfl)
  · have h := fun q => h ((lg_cmp_ge _ _).mpr q)
    have hf := if_f h hf
    refine lv_lload_n hx hb dX7_divisor_6 rfl (lv_at hl 1 rfl) ?_
    refine lv_lneg hx hb dX7_divisor_7 ?_
    refine lv_goto (tgt := 12) hx hb dX7_divisor_8 (by decide) ?_
    exact w12 () a2 (-a1)  hf _ _ _ hW hS (lv_sub hl [2] rfl)
set_option maxHeartbeats 4000000 in
set_option maxRecDepth 100000 in
theorem m_X7_lowest (l : Launch) (G : GE) (B : Nat → Nat → Nat) (E : EN) (hE : 0 < E.2.2.2)  (S : ST) (a1 : Int64) (a2 : Int64) (a3 : Int32) (rr : Int64) (hf : f_X7_lowest E S a1 a2 a3 = some rr) : Met l yX7_lowest wsX7_lowest (rmN 2) (va_Pc [.ref (B 1 0), .long a1, .long a2, .int a3] (WS G B E S)) (QL G B E S rr) 0 0 (AA G) := by
  refine Met.ofW (cc := cX7_lowest) (maxL := 12) (ret := (some .long)) (by decide) rfl ?_
  intro p e s m args below meth c s₁ B0 hml hv
  obtain ⟨rfl, hW, hF⟩ := hv
  have hx := B0.exec
  have hb := B0.bytes
  have hr := B0.returns
  have hts := atoms_spec (ws := wsX7_lowest) B0.pre
  have hown : s.vm.findClass RX7 = some m.cls := findClass_of_methodNamed B0.named
  have hlocks := B0.notSynchronized
  have hK := hF.1
  have hfix : CallFix p m c cX7_lowest 12 s [.ref (B 1 0), .long a1, .long a2, .int a3].toArray wsX7_lowest RX7 := ⟨hx, hb, hml, hown, hts⟩
  have hS : va_S (AA G) s.heap s.heap [] := va_S.rf
  have hl := lv_entry [.ref (B 1 0), .long a1, .long a2, .int a3] (n := 12) (Nat.le_of_ble_eq_true rfl)
  rw [lg_entry_eq]
  generalize (lg_sl [.ref (B 1 0), .long a1, .long a2, .int a3] ++ List.replicate (12 - (lg_sl [.ref (B 1 0), .long a1, .long a2, .int a3]).length) Slot.unset).toArray = ls at hl ⊢
  have hl : lv_has ls 12 [(0, .ref (B 1 0)), (1, .long a1), (3, .long a2), (5, .int a3)] := hl
  have w24 : ∀ (_ : Unit) (v5 : Int32) (v6 : Int64) (t0 : Int64) , f_X7_lowest_b24 E S v5 v6 t0 = some rr → ∀ (H : Heap) (locs : List Loc) (ls : Array Slot), WH G B E S H → va_S (AA G) s.heap H locs → lv_has ls 12 [(0, .ref (B 1 0)), (5, .int v5), (6, .long v6)] → W p l e (headSpec wsX7_lowest (rmN 2)).room s m [.ref (B 1 0), .long a1, .long a2, .int a3].toArray below meth c H locs 0 0 (MQ below (QL G B E S rr) [.ref (B 1 0), .long a1, .long a2, .int a3].toArray s 0 0 (AA G)) (F0 m 24 ls [.long t0]) := by
    intro _ v5 v6 t0 hf H locs ls hW hS hl
    unfold f_X7_lowest_b24 at hf
    refine lv_lstore (lv' := [(8, .long t0), (0, .ref (B 1 0)), (5, .int v5), (6, .long v6)]) hx hb dX7_lowest_24 hl (by decide) rfl (fun ls hl => ?_)
    refine lv_aload_n hx hb dX7_lowest_26 rfl (lv_at hl 1 rfl) ?_
    refine lv_lload hx hb dX7_lowest_27 (lv_at hl 3 rfl) ?_
    refine lv_lload hx hb dX7_lowest_29 (lv_at hl 0 rfl) ?_
    obtain ⟨r1, hc, hf⟩ := bd_out hf
    refine y_l (va_runV (As := [.long v6, .long t0]) (rest := []) hfix (m_X7_divisor l G B E hE S v6 t0 r1 hc) (cwV 2 hts gX7_lowest_X7_divisor rfl rfl rfl ⟨rfl, hd_X7_divisor⟩ ⟨Nat.le_of_ble_eq_true rfl, Nat.le_of_ble_eq_true rfl⟩) (y_pv hF hW hS (c1 hE) (e1 _ _ _ _ _ _) rfl) rfl rfl hl.1 rfl (lv_room (Nat.le_of_ble_eq_true rfl)) dX7_lowest_31 ⟨Nat.le_of_ble_eq_true rfl, Nat.le_of_ble_eq_true rfl⟩) hS (fun H locs hW hS => ?_)
    refine lv_lstore (lv' := [(10, .long r1), (8, .long t0), (0, .ref (B 1 0)), (5, .int v5), (6, .long v6)]) hx hb dX7_lowest_34 hl (by decide) rfl (fun ls hl => ?_)
    refine lv_iload hx hb dX7_lowest_36 (lv_at hl 3 rfl) ?_
    refine lv_if_ne (tgt := 49) hx hb dX7_lowest_38 (by decide) (fun h => ?_) (fun h => ?_)
    · have hf := if_f h hf
      refine lv_lload hx hb dX7_lowest_49 (lv_at hl 1 rfl) ?_
      refine lv_lload hx hb dX7_lowest_51 (lv_at hl 0 rfl) ?_
      obtain ⟨hz2, hf⟩ := ck_out hf
      have hz2 := nz_ hz2
      refine lv_ldiv hx hb dX7_lowest_53 hz2 ?_
      exact zr_l hf hx hb hr hF hW hS dX7_lowest_54 hlocks
    · have hf := if_t h hf
      refine lv_lload hx hb dX7_lowest_41 (lv_at hl 4 rfl) ?_
      refine lv_lload hx hb dX7_lowest_43 (lv_at hl 0 rfl) ?_
      obtain ⟨hz3, hf⟩ := ck_out hf
      have hz3 := nz_ hz3
      refine lv_ldiv hx hb dX7_lowest_45 hz3 ?_
      refine lv_goto (tgt := 54) hx hb dX7_lowest_46 (by decide) ?_
      exact zr_l hf hx hb hr hF hW hS dX7_lowest_54 hlocks
  have w11 : ∀ (_ : Unit) (v3 : Int64) (v5 : Int32) (t0 : Int64) , f_X7_lowest_b11 E S v3 v5 t0 = some rr → ∀ (H : Heap) (locs : List Loc) (ls : Array Slot), WH G B E S H → va_S (AA G) s.heap H locs → lv_has ls 12 [(0, .ref (B 1 0)), (3, .long v3), (5, .int v5)] → W p l e (headSpec wsX7_lowest (rmN 2)).room s m [.ref (B 1 0), .long a1, .long a2, .int a3].toArray below meth c H locs 0 0 (MQ below (QL G B E S rr) [.ref (B 1 0), .long a1, .long a2, .int a3].toArray s 0 0 (AA G)) (F0 m 11 ls [.long t0]) := by
    intro _ v3 v5 t0 hf H locs ls hW hS hl
    unfold f_X7_lowest_b11 at hf
    refine lv_lstore (lv' := [(6, .long t0), (0, .ref (B 1 0)), (3, .long v3), (5, .int v5)]) hx hb dX7_lowest_11 hl (by decide) rfl (fun ls hl => ?_)
    refine lv_lload_n hx hb dX7_lowest_13 rfl (lv_at hl 2 rfl) ?_
    refine lv_lconst (v := 0) hx hb dX7_lowest_14 rfl ?_
    refine W.lcmp hx hb dX7_lowest_15 ?_
    refine lv_if_ne (tgt := 23) hx hb dX7_lowest_16 (by decide) (fun h => ?_) (fun h => ?_)
    · have h := fun q => h ((lg_cmp_eq _ _).mpr q)
      have hf := if_f h hf
      refine lv_lload_n hx hb dX7_lowest_23 rfl (lv_at hl 2 rfl) ?_
      exact w24 () v5 t0 v3  hf _ _ _ hW hS (lv_sub hl [1, 3, 0] rfl)
    · have h := (lg_cmp_eq _ _).mp h
      have hf := if_t h hf
      refine lv_lconst (v := 1) hx hb dX7_lowest_19 rfl ?_
      refine lv_goto (tgt := 24) hx hb dX7_lowest_20 (by decide) ?_
      exact w24 () v5 t0 (1 : Int64)  hf _ _ _ hW hS (lv_sub hl [1, 3, 0] rfl)
  unfold f_X7_lowest at hf
  refine lv_lload_n hx hb dX7_lowest_0 rfl (lv_at hl 2 rfl) ?_
  refine lv_lconst (v := 0) hx hb dX7_lowest_1 rfl ?_
  refine W.lcmp hx hb dX7_lowest_2 ?_
  refine lv_if_ne (tgt := 10) hx hb dX7_lowest_3 (by decide) (fun h => ?_) (fun h => ?_)
  · have h := fun q => h ((lg_cmp_eq _ _).mpr q)
    have hf := if_f h hf
    refine lv_lload_n hx hb dX7_lowest_10 rfl (lv_at hl 1 rfl) ?_
    exact w11 () a2 a3 a1  hf _ _ _ hW hS (lv_sub hl [0, 2, 3] rfl)
  · have h := (lg_cmp_eq _ _).mp h
    have hf := if_t h hf
    refine lv_lconst (v := 0) hx hb dX7_lowest_6 rfl ?_
    refine lv_goto (tgt := 11) hx hb dX7_lowest_7 (by decide) ?_
    exact w11 () a2 a3 (0 : Int64)  hf _ _ _ hW hS (lv_sub hl [0, 2, 3] rfl)
set_option maxHeartbeats 4000000 in
set_option maxRecDepth 100000 in
theorem m_X7_thought (l : Launch) (G : GE) (B : Nat → Nat → Nat) (E : EN) (hE : 0 < E.2.2.2)  (S : ST) (a1 : Int32) (a2 : Int32) (a3 : Int32) (a4 : Int32) (rr : Int64) (SS : ST) (hf : f_X7_thought E S a1 a2 a3 a4 = some (rr, SS)) : Met l yX7_thought wsX7_thought (rmN 6) (va_Pc [.ref (B 1 0), .int a1, .int a2, .int a3, .int a4] (WS G B E S)) (QL G B E SS rr) 0 0 (AA G) := by
  refine Met.ofW (cc := cX7_thought) (maxL := 5) (ret := (some .long)) (by decide) rfl ?_
  intro p e s m args below meth c s₁ B0 hml hv
  obtain ⟨rfl, hW, hF⟩ := hv
  have hx := B0.exec
  have hb := B0.bytes
  have hr := B0.returns
  have hts := atoms_spec (ws := wsX7_thought) B0.pre
  have hown : s.vm.findClass RX7 = some m.cls := findClass_of_methodNamed B0.named
  have hlocks := B0.notSynchronized
  have hK := hF.1
  have hfix : CallFix p m c cX7_thought 5 s [.ref (B 1 0), .int a1, .int a2, .int a3, .int a4].toArray wsX7_thought RX7 := ⟨hx, hb, hml, hown, hts⟩
  have hS : va_S (AA G) s.heap s.heap [] := va_S.rf
  have hl := lv_entry [.ref (B 1 0), .int a1, .int a2, .int a3, .int a4] (n := 5) (Nat.le_of_ble_eq_true rfl)
  rw [lg_entry_eq]
  generalize (lg_sl [.ref (B 1 0), .int a1, .int a2, .int a3, .int a4] ++ List.replicate (5 - (lg_sl [.ref (B 1 0), .int a1, .int a2, .int a3, .int a4]).length) Slot.unset).toArray = ls at hl ⊢
  have hl : lv_has ls 5 [(0, .ref (B 1 0)), (1, .int a1), (2, .int a2), (3, .int a3), (4, .int a4)] := hl
  have q0 := hts (.constantLong RX7 297 (-4611686018427387904)) (List.mem_of_getElem? (i := 1) rfl)
  have q1 := hts (.fieldLink RX7 110 "MovesUpModel" "row" "[J") (List.mem_of_getElem? (i := 2) rfl)
  have hi7 : ∀ w ∈ u_ws RX7 TX7 47, w ∈ wsX7_thought := in_seg 97 rfl
  unfold f_X7_thought at hf
  refine lv_aload_n hx hb dX7_thought_0 rfl (lv_at hl 0 rfl) ?_
  refine lv_iload_n hx hb dX7_thought_1 rfl (lv_at hl 1 rfl) ?_
  obtain ⟨r1, hc, hf⟩ := bd_out hf
  refine y_i (va_runV (As := [.int a1]) (rest := []) hfix (m_X7_isPupil l G B E hE S a1 r1 hc) (cwV 1 hts gX7_thought_X7_isPupil rfl rfl rfl ⟨rfl, hd_X7_isPupil⟩ ⟨Nat.le_of_ble_eq_true rfl, Nat.le_of_ble_eq_true rfl⟩) (y_pv hF hW hS (c1 hE) (e1 _ _ _ _ _ _) rfl) rfl rfl hl.1 rfl (lv_room (Nat.le_of_ble_eq_true rfl)) dX7_thought_2 ⟨Nat.le_of_ble_eq_true rfl, Nat.le_of_ble_eq_true rfl⟩) hS (fun H locs hW hS => ?_)
  refine lv_if_eq (tgt := 37) hx hb dX7_thought_5 (by decide) (fun h => ?_) (fun h => ?_)
  · have hf := if_t h hf
    refine lv_ldc2 hx hb hown q0 dX7_thought_37 ?_
    exact z_l hf hx hb hr hF hW hS dX7_thought_40 hlocks
  · have hf := if_f h hf
    refine lv_aload_n hx hb dX7_thought_8 rfl (lv_at hl 0 rfl) ?_
    refine lv_iload_n hx hb dX7_thought_9 rfl (lv_at hl 2 rfl) ?_
    obtain ⟨r2, hc, hf⟩ := bd_out hf
    refine y_i (va_runV (As := [.int a2]) (rest := []) hfix (m_X7_areMarks l G B E hE S a2 r2 hc) (cwV 1 hts gX7_thought_X7_areMarks rfl rfl rfl ⟨rfl, hd_X7_areMarks⟩ ⟨Nat.le_of_ble_eq_true rfl, Nat.le_of_ble_eq_true rfl⟩) (y_pv hF hW hS (c1 hE) (e1 _ _ _ _ _ _) rfl) rfl rfl hl.1 rfl (lv_room (Nat.le_of_ble_eq_true rfl)) dX7_thought_10 ⟨Nat.le_of_ble_eq_true rfl, Nat.le_of_ble_eq_true rfl⟩) hS (fun H locs hW hS => ?_)
    refine lv_if_eq (tgt := 37) hx hb dX7_thought_13 (by decide) (fun h => ?_) (fun h => ?_)
    · have hf := if_t h hf
      refine lv_ldc2 hx hb hown q0 dX7_thought_37 ?_
      exact z_l hf hx hb hr hF hW hS dX7_thought_40 hlocks
    · have hf := if_f h hf
      refine lv_aload_n hx hb dX7_thought_16 rfl (lv_at hl 0 rfl) ?_
      refine lv_iload_n hx hb dX7_thought_17 rfl (lv_at hl 3 rfl) ?_
      refine lv_iconst (v := 0) hx hb dX7_thought_18 rfl ?_
      refine lv_iconst (v := 4) hx hb dX7_thought_19 rfl ?_
      obtain ⟨r3, hc, hf⟩ := bd_out hf
      refine y_i (va_runV (As := [.int a3, .int (0 : Int32), .int (4 : Int32)]) (rest := []) hfix (m_X7_in l G B E hE S a3 (0 : Int32) (4 : Int32) r3 hc) (cwV 3 hts gX7_thought_X7_in rfl rfl rfl ⟨rfl, hd_X7_in⟩ ⟨Nat.le_of_ble_eq_true rfl, Nat.le_of_ble_eq_true rfl⟩) (y_pv hF hW hS (c1 hE) (e1 _ _ _ _ _ _) rfl) rfl rfl hl.1 rfl (lv_room (Nat.le_of_ble_eq_true rfl)) dX7_thought_20 ⟨Nat.le_of_ble_eq_true rfl, Nat.le_of_ble_eq_true rfl⟩) hS (fun H locs hW hS => ?_)
      refine lv_if_eq (tgt := 37) hx hb dX7_thought_23 (by decide) (fun h => ?_) (fun h => ?_)
      · have hf := if_t h hf
        refine lv_ldc2 hx hb hown q0 dX7_thought_37 ?_
        exact z_l hf hx hb hr hF hW hS dX7_thought_40 hlocks
      · have hf := if_f h hf
        refine lv_aload_n hx hb dX7_thought_26 rfl (lv_at hl 0 rfl) ?_
        refine lv_iload hx hb dX7_thought_27 (lv_at hl 4 rfl) ?_
        refine lv_iconst (v := 0) hx hb dX7_thought_29 rfl ?_
        refine lv_iconst (v := 1) hx hb dX7_thought_30 rfl ?_
        obtain ⟨r4, hc, hf⟩ := bd_out hf
        refine y_i (va_runV (As := [.int a4, .int (0 : Int32), .int (1 : Int32)]) (rest := []) hfix (m_X7_in l G B E hE S a4 (0 : Int32) (1 : Int32) r4 hc) (cwV 3 hts gX7_thought_X7_in rfl rfl rfl ⟨rfl, hd_X7_in⟩ ⟨Nat.le_of_ble_eq_true rfl, Nat.le_of_ble_eq_true rfl⟩) (y_pv hF hW hS (c1 hE) (e1 _ _ _ _ _ _) rfl) rfl rfl hl.1 rfl (lv_room (Nat.le_of_ble_eq_true rfl)) dX7_thought_31 ⟨Nat.le_of_ble_eq_true rfl, Nat.le_of_ble_eq_true rfl⟩) hS (fun H locs hW hS => ?_)
        refine lv_if_ne (tgt := 41) hx hb dX7_thought_34 (by decide) (fun h => ?_) (fun h => ?_)
        · have hf := if_f h hf
          refine lv_aload_n hx hb dX7_thought_41 rfl (lv_at hl 0 rfl) ?_
          refine lv_iload_n hx hb dX7_thought_42 rfl (lv_at hl 1 rfl) ?_
          refine lv_iload_n hx hb dX7_thought_43 rfl (lv_at hl 2 rfl) ?_
          obtain ⟨S5, hc, hf⟩ := bd_out hf
          refine y_v (va_runV (As := [.int a1, .int a2]) (rest := []) hfix (m_X7_goMarks l G B E hE S a1 a2 S5 hc) (cwV 2 hts gX7_thought_X7_goMarks rfl rfl rfl ⟨rfl, hd_X7_goMarks⟩ ⟨Nat.le_of_ble_eq_true rfl, Nat.le_of_ble_eq_true rfl⟩) (y_pv hF hW hS (c1 hE) (e1 _ _ _ _ _ _) rfl) rfl rfl hl.1 rfl (lv_room (Nat.le_of_ble_eq_true rfl)) dX7_thought_44 ⟨Nat.le_of_ble_eq_true rfl, Nat.le_of_ble_eq_true rfl⟩) hS (fun H locs hW hS => ?_)
          refine lv_aload_n hx hb dX7_thought_47 rfl (lv_at hl 0 rfl) ?_
          refine lv_aload_n hx hb dX7_thought_48 rfl (lv_at hl 0 rfl) ?_
          refine x_get hx hb hts hi7 hown hK hW (c1 hE) (e1 _ _ _ _ _ _) rfl 26 (Nat.le_of_ble_eq_true rfl) q1 (fun _ h => h) (v := .ref (B 66 0)) rfl dX7_thought_49 ?_
          refine lv_iconst (v := 5) hx hb dX7_thought_52 rfl ?_
          refine lv_iload_n hx hb dX7_thought_53 rfl (lv_at hl 2 rfl) ?_
          refine lv_bipush (v := 100) hx hb dX7_thought_54 (by decide) ?_
          refine lv_idiv hx hb dX7_thought_56 (by decide) ?_
          refine lv_imul hx hb dX7_thought_57 ?_
          refine lv_iload_n hx hb dX7_thought_58 rfl (lv_at hl 3 rfl) ?_
          refine lv_iadd hx hb dX7_thought_59 ?_
          obtain ⟨hi_6, hf⟩ := ck_out hf
          have hi_6 := ib_in hi_6
          refine x_lald hx hb hK hW (c66 hE) (e66 _ _ _ _ _ _) hi_6 (jn := (((5 : Int32) * (a2 / (100 : Int32))) + a3).toNatClampNeg) rfl dX7_thought_60 ?_
          refine lv_aload_n hx hb dX7_thought_61 rfl (lv_at hl 0 rfl) ?_
          refine lv_iload_n hx hb dX7_thought_62 rfl (lv_at hl 2 rfl) ?_
          refine lv_bipush (v := 100) hx hb dX7_thought_63 (by decide) ?_
          refine lv_idiv hx hb dX7_thought_65 (by decide) ?_
          obtain ⟨r7, hc, hf⟩ := bd_out hf
          refine y_l (va_runV (As := [.int (a2 / (100 : Int32))]) (rest := [.long (gL S5 66 0 (((5 : Int32) * (a2 / (100 : Int32))) + a3).toNatClampNeg), .ref (B 1 0)]) hfix (m_X7_sumRow l G B E hE S5 (a2 / (100 : Int32)) r7 hc) (cwV 1 hts gX7_thought_X7_sumRow rfl rfl rfl ⟨rfl, hd_X7_sumRow⟩ ⟨Nat.le_of_ble_eq_true rfl, Nat.le_of_ble_eq_true rfl⟩) (y_pv hF hW hS (c1 hE) (e1 _ _ _ _ _ _) rfl) rfl rfl hl.1 rfl (lv_room (Nat.le_of_ble_eq_true rfl)) dX7_thought_66 ⟨Nat.le_of_ble_eq_true rfl, Nat.le_of_ble_eq_true rfl⟩) hS (fun H locs hW hS => ?_)
          refine lv_iload hx hb dX7_thought_69 (lv_at hl 4 rfl) ?_
          obtain ⟨r8, hc, hf⟩ := bd_out hf
          refine y_l (va_runV (As := [.long (gL S5 66 0 (((5 : Int32) * (a2 / (100 : Int32))) + a3).toNatClampNeg), .long r7, .int a4]) (rest := []) hfix (m_X7_lowest l G B E hE S5 (gL S5 66 0 (((5 : Int32) * (a2 / (100 : Int32))) + a3).toNatClampNeg) r7 a4 r8 hc) (cwV 3 hts gX7_thought_X7_lowest rfl rfl rfl ⟨rfl, hd_X7_lowest⟩ ⟨Nat.le_of_ble_eq_true rfl, Nat.le_of_ble_eq_true rfl⟩) (y_pv hF hW hS (c1 hE) (e1 _ _ _ _ _ _) rfl) rfl rfl hl.1 rfl (lv_room (Nat.le_of_ble_eq_true rfl)) dX7_thought_71 ⟨Nat.le_of_ble_eq_true rfl, Nat.le_of_ble_eq_true rfl⟩) hS (fun H locs hW hS => ?_)
          exact z_l hf hx hb hr hF hW hS dX7_thought_74 hlocks
        · have hf := if_t h hf
          refine lv_ldc2 hx hb hown q0 dX7_thought_37 ?_
          exact z_l hf hx hb hr hF hW hS dX7_thought_40 hlocks
set_option maxHeartbeats 4000000 in
set_option maxRecDepth 100000 in
theorem m_X7_moves (l : Launch) (G : GE) (B : Nat → Nat → Nat) (E : EN) (hE : 0 < E.2.2.2)  (S : ST) (a1 : Int32) (a2 : Int32) (a3 : Int32) (rr : Int32) (SS : ST) (hf : f_X7_moves E S a1 a2 a3 = some (rr, SS)) : Met l yX7_moves wsX7_moves (rmN 6) (va_Pc [.ref (B 1 0), .int a1, .int a2, .int a3] (WS G B E S)) (QI G B E SS rr) 0 0 (AA G) := by
  refine Met.ofW (cc := cX7_moves) (maxL := 4) (ret := (some .int)) (by decide) rfl ?_
  intro p e s m args below meth c s₁ B0 hml hv
  obtain ⟨rfl, hW, hF⟩ := hv
  have hx := B0.exec
  have hb := B0.bytes
  have hr := B0.returns
  have hts := atoms_spec (ws := wsX7_moves) B0.pre
  have hown : s.vm.findClass RX7 = some m.cls := findClass_of_methodNamed B0.named
  have hlocks := B0.notSynchronized
  have hK := hF.1
  have hfix : CallFix p m c cX7_moves 4 s [.ref (B 1 0), .int a1, .int a2, .int a3].toArray wsX7_moves RX7 := ⟨hx, hb, hml, hown, hts⟩
  have hS : va_S (AA G) s.heap s.heap [] := va_S.rf
  have hl := lv_entry [.ref (B 1 0), .int a1, .int a2, .int a3] (n := 4) (Nat.le_of_ble_eq_true rfl)
  rw [lg_entry_eq]
  generalize (lg_sl [.ref (B 1 0), .int a1, .int a2, .int a3] ++ List.replicate (4 - (lg_sl [.ref (B 1 0), .int a1, .int a2, .int a3]).length) Slot.unset).toArray = ls at hl ⊢
  have hl : lv_has ls 4 [(0, .ref (B 1 0)), (1, .int a1), (2, .int a2), (3, .int a3)] := hl
  have q0 := hts (.fieldLink RX7 124 "MovesUpModel" "lastMove" "I") (List.mem_of_getElem? (i := 3) rfl)
  have q1 := hts (.fieldLink RX7 117 "MovesUpModel" "movedAt" "[I") (List.mem_of_getElem? (i := 2) rfl)
  have q2 := hts (.fieldLink RX7 114 "MovesUpModel" "gradeAt" "[I") (List.mem_of_getElem? (i := 1) rfl)
  have hi7 : ∀ w ∈ u_ws RX7 TX7 47, w ∈ wsX7_moves := in_seg 88 rfl
  unfold f_X7_moves at hf
  refine lv_aload_n hx hb dX7_moves_0 rfl (lv_at hl 0 rfl) ?_
  refine lv_iload_n hx hb dX7_moves_1 rfl (lv_at hl 1 rfl) ?_
  obtain ⟨r1, hc, hf⟩ := bd_out hf
  refine y_i (va_runV (As := [.int a1]) (rest := []) hfix (m_X7_isPupil l G B E hE S a1 r1 hc) (cwV 1 hts gX7_moves_X7_isPupil rfl rfl rfl ⟨rfl, hd_X7_isPupil⟩ ⟨Nat.le_of_ble_eq_true rfl, Nat.le_of_ble_eq_true rfl⟩) (y_pv hF hW hS (c1 hE) (e1 _ _ _ _ _ _) rfl) rfl rfl hl.1 rfl (lv_room (Nat.le_of_ble_eq_true rfl)) dX7_moves_2 ⟨Nat.le_of_ble_eq_true rfl, Nat.le_of_ble_eq_true rfl⟩) hS (fun H locs hW hS => ?_)
  refine lv_if_eq (tgt := 26) hx hb dX7_moves_5 (by decide) (fun h => ?_) (fun h => ?_)
  · have hf := if_t h hf
    refine lv_bipush (v := -5) hx hb dX7_moves_26 (by decide) ?_
    exact z_i hf hx hb hr rfl hF hW hS dX7_moves_28 hlocks
  · have hf := if_f h hf
    refine lv_aload_n hx hb dX7_moves_8 rfl (lv_at hl 0 rfl) ?_
    refine lv_iload_n hx hb dX7_moves_9 rfl (lv_at hl 2 rfl) ?_
    obtain ⟨r2, hc, hf⟩ := bd_out hf
    refine y_i (va_runV (As := [.int a2]) (rest := []) hfix (m_X7_areMarks l G B E hE S a2 r2 hc) (cwV 1 hts gX7_moves_X7_areMarks rfl rfl rfl ⟨rfl, hd_X7_areMarks⟩ ⟨Nat.le_of_ble_eq_true rfl, Nat.le_of_ble_eq_true rfl⟩) (y_pv hF hW hS (c1 hE) (e1 _ _ _ _ _ _) rfl) rfl rfl hl.1 rfl (lv_room (Nat.le_of_ble_eq_true rfl)) dX7_moves_10 ⟨Nat.le_of_ble_eq_true rfl, Nat.le_of_ble_eq_true rfl⟩) hS (fun H locs hW hS => ?_)
    refine lv_if_eq (tgt := 26) hx hb dX7_moves_13 (by decide) (fun h => ?_) (fun h => ?_)
    · have hf := if_t h hf
      refine lv_bipush (v := -5) hx hb dX7_moves_26 (by decide) ?_
      exact z_i hf hx hb hr rfl hF hW hS dX7_moves_28 hlocks
    · have hf := if_f h hf
      refine lv_aload_n hx hb dX7_moves_16 rfl (lv_at hl 0 rfl) ?_
      refine lv_iload_n hx hb dX7_moves_17 rfl (lv_at hl 3 rfl) ?_
      refine lv_iconst (v := 0) hx hb dX7_moves_18 rfl ?_
      refine lv_iconst (v := 2) hx hb dX7_moves_19 rfl ?_
      obtain ⟨r3, hc, hf⟩ := bd_out hf
      refine y_i (va_runV (As := [.int a3, .int (0 : Int32), .int (2 : Int32)]) (rest := []) hfix (m_X7_in l G B E hE S a3 (0 : Int32) (2 : Int32) r3 hc) (cwV 3 hts gX7_moves_X7_in rfl rfl rfl ⟨rfl, hd_X7_in⟩ ⟨Nat.le_of_ble_eq_true rfl, Nat.le_of_ble_eq_true rfl⟩) (y_pv hF hW hS (c1 hE) (e1 _ _ _ _ _ _) rfl) rfl rfl hl.1 rfl (lv_room (Nat.le_of_ble_eq_true rfl)) dX7_moves_20 ⟨Nat.le_of_ble_eq_true rfl, Nat.le_of_ble_eq_true rfl⟩) hS (fun H locs hW hS => ?_)
      refine lv_if_ne (tgt := 29) hx hb dX7_moves_23 (by decide) (fun h => ?_) (fun h => ?_)
      · have hf := if_f h hf
        refine lv_aload_n hx hb dX7_moves_29 rfl (lv_at hl 0 rfl) ?_
        refine lv_iload_n hx hb dX7_moves_30 rfl (lv_at hl 1 rfl) ?_
        refine lv_iload_n hx hb dX7_moves_31 rfl (lv_at hl 2 rfl) ?_
        obtain ⟨S4, hc, hf⟩ := bd_out hf
        refine y_v (va_runV (As := [.int a1, .int a2]) (rest := []) hfix (m_X7_goMarks l G B E hE S a1 a2 S4 hc) (cwV 2 hts gX7_moves_X7_goMarks rfl rfl rfl ⟨rfl, hd_X7_goMarks⟩ ⟨Nat.le_of_ble_eq_true rfl, Nat.le_of_ble_eq_true rfl⟩) (y_pv hF hW hS (c1 hE) (e1 _ _ _ _ _ _) rfl) rfl rfl hl.1 rfl (lv_room (Nat.le_of_ble_eq_true rfl)) dX7_moves_32 ⟨Nat.le_of_ble_eq_true rfl, Nat.le_of_ble_eq_true rfl⟩) hS (fun H locs hW hS => ?_)
        refine lv_iload_n hx hb dX7_moves_35 rfl (lv_at hl 3 rfl) ?_
        refine lv_if_ne (tgt := 51) hx hb dX7_moves_36 (by decide) (fun h => ?_) (fun h => ?_)
        · have hf := if_f h hf
          refine lv_iload_n hx hb dX7_moves_51 rfl (lv_at hl 3 rfl) ?_
          refine lv_iconst (v := 1) hx hb dX7_moves_52 rfl ?_
          refine lv_icmp_ne (tgt := 68) hx hb dX7_moves_53 (by decide) (fun h => ?_) (fun h => ?_)
          · have hf := if_f h hf
            refine lv_aload_n hx hb dX7_moves_68 rfl (lv_at hl 0 rfl) ?_
            refine x_get hx hb hts hi7 hown hK hW (c1 hE) (e1 _ _ _ _ _ _) rfl 30 (Nat.le_of_ble_eq_true rfl) q0 (fun _ h => h) (v := .int (gI S4 1 0 30)) rfl dX7_moves_69 ?_
            exact z_i hf hx hb hr rfl hF hW hS dX7_moves_72 hlocks
          · have hf := if_t h hf
            refine lv_aload_n hx hb dX7_moves_56 rfl (lv_at hl 0 rfl) ?_
            refine x_get hx hb hts hi7 hown hK hW (c1 hE) (e1 _ _ _ _ _ _) rfl 28 (Nat.le_of_ble_eq_true rfl) q1 (fun _ h => h) (v := .ref (B 68 0)) rfl dX7_moves_57 ?_
            refine lv_iload_n hx hb dX7_moves_60 rfl (lv_at hl 2 rfl) ?_
            refine lv_bipush (v := 100) hx hb dX7_moves_61 (by decide) ?_
            refine lv_idiv hx hb dX7_moves_63 (by decide) ?_
            obtain ⟨hi_5, hf⟩ := ck_out hf
            have hi_5 := ib_in hi_5
            refine x_iald hx hb hK hW (c68 hE) (e68 _ _ _ _ _ _) hi_5 (jn := (a2 / (100 : Int32)).toNatClampNeg) rfl dX7_moves_64 ?_
            refine lv_goto (tgt := 72) hx hb dX7_moves_65 (by decide) ?_
            exact z_i hf hx hb hr rfl hF hW hS dX7_moves_72 hlocks
        · have hf := if_t h hf
          refine lv_aload_n hx hb dX7_moves_39 rfl (lv_at hl 0 rfl) ?_
          refine x_get hx hb hts hi7 hown hK hW (c1 hE) (e1 _ _ _ _ _ _) rfl 27 (Nat.le_of_ble_eq_true rfl) q2 (fun _ h => h) (v := .ref (B 67 0)) rfl dX7_moves_40 ?_
          refine lv_iload_n hx hb dX7_moves_43 rfl (lv_at hl 2 rfl) ?_
          refine lv_bipush (v := 100) hx hb dX7_moves_44 (by decide) ?_
          refine lv_idiv hx hb dX7_moves_46 (by decide) ?_
          obtain ⟨hi_6, hf⟩ := ck_out hf
          have hi_6 := ib_in hi_6
          refine x_iald hx hb hK hW (c67 hE) (e67 _ _ _ _ _ _) hi_6 (jn := (a2 / (100 : Int32)).toNatClampNeg) rfl dX7_moves_47 ?_
          refine lv_goto (tgt := 72) hx hb dX7_moves_48 (by decide) ?_
          exact z_i hf hx hb hr rfl hF hW hS dX7_moves_72 hlocks
      · have hf := if_t h hf
        refine lv_bipush (v := -5) hx hb dX7_moves_26 (by decide) ?_
        exact z_i hf hx hb hr rfl hF hW hS dX7_moves_28 hlocks
set_option maxHeartbeats 4000000 in
set_option maxRecDepth 100000 in
theorem m_X7_hundreds (l : Launch) (G : GE) (B : Nat → Nat → Nat) (E : EN) (hE : 0 < E.2.2.2)  (S : ST) (a1 : Int32) (rr : Int64) (hf : f_X7_hundreds E S a1 = some rr) : Met l yX7_hundreds wsX7_hundreds (rmN 1) (va_Pc [.ref (B 1 0), .int a1] (WS G B E S)) (QL G B E S rr) 0 0 (AA G) := by
  refine Met.ofW (cc := cX7_hundreds) (maxL := 5) (ret := (some .long)) (by decide) rfl ?_
  intro p e s m args below meth c s₁ B0 hml hv
  obtain ⟨rfl, hW, hF⟩ := hv
  have hx := B0.exec
  have hb := B0.bytes
  have hr := B0.returns
  have hts := atoms_spec (ws := wsX7_hundreds) B0.pre
  have hown : s.vm.findClass RX7 = some m.cls := findClass_of_methodNamed B0.named
  have hlocks := B0.notSynchronized
  have hK := hF.1
  have hfix : CallFix p m c cX7_hundreds 5 s [.ref (B 1 0), .int a1].toArray wsX7_hundreds RX7 := ⟨hx, hb, hml, hown, hts⟩
  have hS : va_S (AA G) s.heap s.heap [] := va_S.rf
  have hl := lv_entry [.ref (B 1 0), .int a1] (n := 5) (Nat.le_of_ble_eq_true rfl)
  rw [lg_entry_eq]
  generalize (lg_sl [.ref (B 1 0), .int a1] ++ List.replicate (5 - (lg_sl [.ref (B 1 0), .int a1]).length) Slot.unset).toArray = ls at hl ⊢
  have hl : lv_has ls 5 [(0, .ref (B 1 0)), (1, .int a1)] := hl
  have q0 := hts (.constantLong RX7 306 (100)) (List.mem_of_getElem? (i := 1) rfl)
  have w5 : ∀ (n5 : Nat) (_ : Unit) (v1 : Int32) (v2 : Int64) (v4 : Int32) , f_X7_hundreds_b5 E n5 S v1 v2 v4 = some rr → ∀ (H : Heap) (locs : List Loc) (ls : Array Slot), WH G B E S H → va_S (AA G) s.heap H locs → lv_has ls 5 [(1, .int v1), (2, .long v2), (4, .int v4)] → W p l e (headSpec wsX7_hundreds (rmN 1)).room s m [.ref (B 1 0), .int a1].toArray below meth c H locs 0 0 (MQ below (QL G B E S rr) [.ref (B 1 0), .int a1].toArray s 0 0 (AA G)) (F0 m 5 ls []) := by
    intro n5
    induction n5 with
    | zero =>
      intro _ v1 v2 v4 hf
      exact absurd (show (none : Option Int64) = some rr from hf) (fun h => by cases h)
    | succ n5 ih5 =>
      intro _ v1 v2 v4 hf H locs ls hW hS hl
      have hf : g_X7_hundreds_b5 E (f_X7_hundreds_b5 E n5) S v1 v2 v4 = some rr := hf
      unfold g_X7_hundreds_b5 at hf
      refine lv_iload hx hb dX7_hundreds_5 (lv_at hl 2 rfl) ?_
      refine lv_iload_n hx hb dX7_hundreds_7 rfl (lv_at hl 0 rfl) ?_
      refine lv_icmp_ge (tgt := 23) hx hb dX7_hundreds_8 (by decide) (fun h => ?_) (fun h => ?_)
      · have hf := if_t h hf
        refine lv_lload_n hx hb dX7_hundreds_23 rfl (lv_at hl 1 rfl) ?_
        exact zr_l hf hx hb hr hF hW hS dX7_hundreds_24 hlocks
      · have hf := if_f h hf
        refine lv_lload_n hx hb dX7_hundreds_11 rfl (lv_at hl 1 rfl) ?_
        refine lv_ldc2 hx hb hown q0 dX7_hundreds_12 ?_
        refine lv_lmul hx hb dX7_hundreds_15 ?_
        obtain ⟨x1, e_x1, hf⟩ := lt_out hf
        refine x_nmL e_x1 ?_
        refine lv_lstore_n (lv' := [(2, .long x1), (1, .int v1), (4, .int v4)]) hx hb dX7_hundreds_16 rfl hl (by decide) rfl (fun ls hl => ?_)
        obtain ⟨x2, e_x2, hf⟩ := lt_out hf
        refine lv_iinc (v := x2) (lv' := [(4, .int x2), (2, .long x1), (1, .int v1)]) hx hb dX7_hundreds_17 hl (k := 2) rfl (by rw [e_x2]; rfl) (by decide) rfl (fun ls hl => ?_)
        refine lv_goto (tgt := 5) hx hb dX7_hundreds_20 (by decide) ?_
        exact ih5 () v1 x1 x2  hf _ _ _ hW hS (lv_sub hl [2, 1, 0] rfl)
  unfold f_X7_hundreds at hf
  refine lv_lconst (v := 1) hx hb dX7_hundreds_0 rfl ?_
  refine lv_lstore_n (lv' := [(2, .long (1 : Int64)), (0, .ref (B 1 0)), (1, .int a1)]) hx hb dX7_hundreds_1 rfl hl (by decide) rfl (fun ls hl => ?_)
  refine lv_iconst (v := 0) hx hb dX7_hundreds_2 rfl ?_
  refine lv_istore (lv' := [(4, .int (0 : Int32)), (2, .long (1 : Int64)), (0, .ref (B 1 0)), (1, .int a1)]) hx hb dX7_hundreds_3 hl (by decide) rfl (fun ls hl => ?_)
  exact w5 E.1 () a1 (1 : Int64) (0 : Int32)  hf _ _ _ hW hS (lv_sub hl [3, 1, 0] rfl)
set_option maxHeartbeats 4000000 in
set_option maxRecDepth 100000 in
theorem m_X7_likely (l : Launch) (G : GE) (B : Nat → Nat → Nat) (E : EN) (hE : 0 < E.2.2.2)  (S : ST) (a1 : Int32) (a2 : Int32) (a3 : Int32) (rr : Int64) (SS : ST) (hf : f_X7_likely E S a1 a2 a3 = some (rr, SS)) : Met l yX7_likely wsX7_likely (rmN 6) (va_Pc [.ref (B 1 0), .int a1, .int a2, .int a3] (WS G B E S)) (QL G B E SS rr) 0 0 (AA G) := by
  refine Met.ofW (cc := cX7_likely) (maxL := 5) (ret := (some .long)) (by decide) rfl ?_
  intro p e s m args below meth c s₁ B0 hml hv
  obtain ⟨rfl, hW, hF⟩ := hv
  have hx := B0.exec
  have hb := B0.bytes
  have hr := B0.returns
  have hts := atoms_spec (ws := wsX7_likely) B0.pre
  have hown : s.vm.findClass RX7 = some m.cls := findClass_of_methodNamed B0.named
  have hlocks := B0.notSynchronized
  have hK := hF.1
  have hfix : CallFix p m c cX7_likely 5 s [.ref (B 1 0), .int a1, .int a2, .int a3].toArray wsX7_likely RX7 := ⟨hx, hb, hml, hown, hts⟩
  have hS : va_S (AA G) s.heap s.heap [] := va_S.rf
  have hl := lv_entry [.ref (B 1 0), .int a1, .int a2, .int a3] (n := 5) (Nat.le_of_ble_eq_true rfl)
  rw [lg_entry_eq]
  generalize (lg_sl [.ref (B 1 0), .int a1, .int a2, .int a3] ++ List.replicate (5 - (lg_sl [.ref (B 1 0), .int a1, .int a2, .int a3]).length) Slot.unset).toArray = ls at hl ⊢
  have hl : lv_has ls 5 [(0, .ref (B 1 0)), (1, .int a1), (2, .int a2), (3, .int a3)] := hl
  have q0 := hts (.constantLong RX7 297 (-4611686018427387904)) (List.mem_of_getElem? (i := 1) rfl)
  have q1 := hts (.fieldLink RX7 114 "MovesUpModel" "gradeAt" "[I") (List.mem_of_getElem? (i := 2) rfl)
  have hi7 : ∀ w ∈ u_ws RX7 TX7 47, w ∈ wsX7_likely := in_seg 106 rfl
  unfold f_X7_likely at hf
  refine lv_aload_n hx hb dX7_likely_0 rfl (lv_at hl 0 rfl) ?_
  refine lv_iload_n hx hb dX7_likely_1 rfl (lv_at hl 1 rfl) ?_
  obtain ⟨r1, hc, hf⟩ := bd_out hf
  refine y_i (va_runV (As := [.int a1]) (rest := []) hfix (m_X7_isPupil l G B E hE S a1 r1 hc) (cwV 1 hts gX7_likely_X7_isPupil rfl rfl rfl ⟨rfl, hd_X7_isPupil⟩ ⟨Nat.le_of_ble_eq_true rfl, Nat.le_of_ble_eq_true rfl⟩) (y_pv hF hW hS (c1 hE) (e1 _ _ _ _ _ _) rfl) rfl rfl hl.1 rfl (lv_room (Nat.le_of_ble_eq_true rfl)) dX7_likely_2 ⟨Nat.le_of_ble_eq_true rfl, Nat.le_of_ble_eq_true rfl⟩) hS (fun H locs hW hS => ?_)
  refine lv_if_eq (tgt := 26) hx hb dX7_likely_5 (by decide) (fun h => ?_) (fun h => ?_)
  · have hf := if_t h hf
    refine lv_ldc2 hx hb hown q0 dX7_likely_26 ?_
    exact z_l hf hx hb hr hF hW hS dX7_likely_29 hlocks
  · have hf := if_f h hf
    refine lv_aload_n hx hb dX7_likely_8 rfl (lv_at hl 0 rfl) ?_
    refine lv_iload_n hx hb dX7_likely_9 rfl (lv_at hl 2 rfl) ?_
    obtain ⟨r2, hc, hf⟩ := bd_out hf
    refine y_i (va_runV (As := [.int a2]) (rest := []) hfix (m_X7_areMarks l G B E hE S a2 r2 hc) (cwV 1 hts gX7_likely_X7_areMarks rfl rfl rfl ⟨rfl, hd_X7_areMarks⟩ ⟨Nat.le_of_ble_eq_true rfl, Nat.le_of_ble_eq_true rfl⟩) (y_pv hF hW hS (c1 hE) (e1 _ _ _ _ _ _) rfl) rfl rfl hl.1 rfl (lv_room (Nat.le_of_ble_eq_true rfl)) dX7_likely_10 ⟨Nat.le_of_ble_eq_true rfl, Nat.le_of_ble_eq_true rfl⟩) hS (fun H locs hW hS => ?_)
    refine lv_if_eq (tgt := 26) hx hb dX7_likely_13 (by decide) (fun h => ?_) (fun h => ?_)
    · have hf := if_t h hf
      refine lv_ldc2 hx hb hown q0 dX7_likely_26 ?_
      exact z_l hf hx hb hr hF hW hS dX7_likely_29 hlocks
    · have hf := if_f h hf
      refine lv_aload_n hx hb dX7_likely_16 rfl (lv_at hl 0 rfl) ?_
      refine lv_iload_n hx hb dX7_likely_17 rfl (lv_at hl 3 rfl) ?_
      refine lv_iconst (v := 0) hx hb dX7_likely_18 rfl ?_
      refine lv_iconst (v := 3) hx hb dX7_likely_19 rfl ?_
      obtain ⟨r3, hc, hf⟩ := bd_out hf
      refine y_i (va_runV (As := [.int a3, .int (0 : Int32), .int (3 : Int32)]) (rest := []) hfix (m_X7_in l G B E hE S a3 (0 : Int32) (3 : Int32) r3 hc) (cwV 3 hts gX7_likely_X7_in rfl rfl rfl ⟨rfl, hd_X7_in⟩ ⟨Nat.le_of_ble_eq_true rfl, Nat.le_of_ble_eq_true rfl⟩) (y_pv hF hW hS (c1 hE) (e1 _ _ _ _ _ _) rfl) rfl rfl hl.1 rfl (lv_room (Nat.le_of_ble_eq_true rfl)) dX7_likely_20 ⟨Nat.le_of_ble_eq_true rfl, Nat.le_of_ble_eq_true rfl⟩) hS (fun H locs hW hS => ?_)
      refine lv_if_ne (tgt := 30) hx hb dX7_likely_23 (by decide) (fun h => ?_) (fun h => ?_)
      · have hf := if_f h hf
        refine lv_aload_n hx hb dX7_likely_30 rfl (lv_at hl 0 rfl) ?_
        refine lv_iload_n hx hb dX7_likely_31 rfl (lv_at hl 1 rfl) ?_
        refine lv_iload_n hx hb dX7_likely_32 rfl (lv_at hl 2 rfl) ?_
        obtain ⟨S4, hc, hf⟩ := bd_out hf
        refine y_v (va_runV (As := [.int a1, .int a2]) (rest := []) hfix (m_X7_goMarks l G B E hE S a1 a2 S4 hc) (cwV 2 hts gX7_likely_X7_goMarks rfl rfl rfl ⟨rfl, hd_X7_goMarks⟩ ⟨Nat.le_of_ble_eq_true rfl, Nat.le_of_ble_eq_true rfl⟩) (y_pv hF hW hS (c1 hE) (e1 _ _ _ _ _ _) rfl) rfl rfl hl.1 rfl (lv_room (Nat.le_of_ble_eq_true rfl)) dX7_likely_33 ⟨Nat.le_of_ble_eq_true rfl, Nat.le_of_ble_eq_true rfl⟩) hS (fun H locs hW hS => ?_)
        refine lv_iload_n hx hb dX7_likely_36 rfl (lv_at hl 2 rfl) ?_
        refine lv_bipush (v := 100) hx hb dX7_likely_37 (by decide) ?_
        refine lv_idiv hx hb dX7_likely_39 (by decide) ?_
        obtain ⟨x5, e_x5, hf⟩ := lt_out hf
        refine x_nmI e_x5 ?_
        refine lv_istore (lv' := [(4, .int x5), (0, .ref (B 1 0)), (1, .int a1), (2, .int a2), (3, .int a3)]) hx hb dX7_likely_40 hl (by decide) rfl (fun ls hl => ?_)
        refine lv_iload_n hx hb dX7_likely_42 rfl (lv_at hl 4 rfl) ?_
        refine lv_iconst (v := 2) hx hb dX7_likely_43 rfl ?_
        refine lv_icmp_ge (tgt := 72) hx hb dX7_likely_44 (by decide) (fun h => ?_) (fun h => ?_)
        · have hf := if_t h hf
          refine lv_aload_n hx hb dX7_likely_72 rfl (lv_at hl 1 rfl) ?_
          refine lv_aload_n hx hb dX7_likely_73 rfl (lv_at hl 1 rfl) ?_
          refine lv_iload hx hb dX7_likely_74 (lv_at hl 0 rfl) ?_
          refine lv_aload_n hx hb dX7_likely_76 rfl (lv_at hl 1 rfl) ?_
          refine x_get hx hb hts hi7 hown hK hW (c1 hE) (e1 _ _ _ _ _ _) rfl 27 (Nat.le_of_ble_eq_true rfl) q1 (fun _ h => h) (v := .ref (B 67 0)) rfl dX7_likely_77 ?_
          refine lv_iload hx hb dX7_likely_80 (lv_at hl 0 rfl) ?_
          obtain ⟨hi_6, hf⟩ := ck_out hf
          have hi_6 := ib_in hi_6
          refine x_iald hx hb hK hW (c67 hE) (e67 _ _ _ _ _ _) hi_6 (jn := x5.toNatClampNeg) rfl dX7_likely_82 ?_
          obtain ⟨r7, hc, hf⟩ := bd_out hf
          refine y_l (va_runV (As := [.int x5, .int (gI S4 67 0 x5.toNatClampNeg)]) (rest := [.ref (B 1 0)]) hfix (m_X7_sumFrom l G B E hE S4 x5 (gI S4 67 0 x5.toNatClampNeg) r7 hc) (cwV 2 hts gX7_likely_X7_sumFrom rfl rfl rfl ⟨rfl, hd_X7_sumFrom⟩ ⟨Nat.le_of_ble_eq_true rfl, Nat.le_of_ble_eq_true rfl⟩) (y_pv hF hW hS (c1 hE) (e1 _ _ _ _ _ _) rfl) rfl rfl hl.1 rfl (lv_room (Nat.le_of_ble_eq_true rfl)) dX7_likely_83 ⟨Nat.le_of_ble_eq_true rfl, Nat.le_of_ble_eq_true rfl⟩) hS (fun H locs hW hS => ?_)
          refine lv_aload_n hx hb dX7_likely_86 rfl (lv_at hl 1 rfl) ?_
          refine lv_iload hx hb dX7_likely_87 (lv_at hl 0 rfl) ?_
          obtain ⟨r8, hc, hf⟩ := bd_out hf
          refine y_l (va_runV (As := [.int x5]) (rest := [.long r7, .ref (B 1 0)]) hfix (m_X7_sumRow l G B E hE S4 x5 r8 hc) (cwV 1 hts gX7_likely_X7_sumRow rfl rfl rfl ⟨rfl, hd_X7_sumRow⟩ ⟨Nat.le_of_ble_eq_true rfl, Nat.le_of_ble_eq_true rfl⟩) (y_pv hF hW hS (c1 hE) (e1 _ _ _ _ _ _) rfl) rfl rfl hl.1 rfl (lv_room (Nat.le_of_ble_eq_true rfl)) dX7_likely_89 ⟨Nat.le_of_ble_eq_true rfl, Nat.le_of_ble_eq_true rfl⟩) hS (fun H locs hW hS => ?_)
          refine lv_iload_n hx hb dX7_likely_92 rfl (lv_at hl 4 rfl) ?_
          refine lv_iconst (v := 2) hx hb dX7_likely_93 rfl ?_
          refine lv_isub hx hb dX7_likely_94 ?_
          obtain ⟨r9, hc, hf⟩ := bd_out hf
          refine y_l (va_runV (As := [.long r7, .long r8, .int (a3 - (2 : Int32))]) (rest := []) hfix (m_X7_lowest l G B E hE S4 r7 r8 (a3 - (2 : Int32)) r9 hc) (cwV 3 hts gX7_likely_X7_lowest rfl rfl rfl ⟨rfl, hd_X7_lowest⟩ ⟨Nat.le_of_ble_eq_true rfl, Nat.le_of_ble_eq_true rfl⟩) (y_pv hF hW hS (c1 hE) (e1 _ _ _ _ _ _) rfl) rfl rfl hl.1 rfl (lv_room (Nat.le_of_ble_eq_true rfl)) dX7_likely_95 ⟨Nat.le_of_ble_eq_true rfl, Nat.le_of_ble_eq_true rfl⟩) hS (fun H locs hW hS => ?_)
          exact z_l hf hx hb hr hF hW hS dX7_likely_98 hlocks
        · have hf := if_f h hf
          refine lv_aload_n hx hb dX7_likely_47 rfl (lv_at hl 1 rfl) ?_
          refine lv_aload_n hx hb dX7_likely_48 rfl (lv_at hl 1 rfl) ?_
          refine lv_iload hx hb dX7_likely_49 (lv_at hl 0 rfl) ?_
          obtain ⟨r10, hc, hf⟩ := bd_out hf
          refine y_l (va_runV (As := [.int x5]) (rest := [.ref (B 1 0)]) hfix (m_X7_sumRow l G B E hE S4 x5 r10 hc) (cwV 1 hts gX7_likely_X7_sumRow rfl rfl rfl ⟨rfl, hd_X7_sumRow⟩ ⟨Nat.le_of_ble_eq_true rfl, Nat.le_of_ble_eq_true rfl⟩) (y_pv hF hW hS (c1 hE) (e1 _ _ _ _ _ _) rfl) rfl rfl hl.1 rfl (lv_room (Nat.le_of_ble_eq_true rfl)) dX7_likely_51 ⟨Nat.le_of_ble_eq_true rfl, Nat.le_of_ble_eq_true rfl⟩) hS (fun H locs hW hS => ?_)
          refine lv_aload_n hx hb dX7_likely_54 rfl (lv_at hl 1 rfl) ?_
          refine lv_iload_n hx hb dX7_likely_55 rfl (lv_at hl 2 rfl) ?_
          obtain ⟨r11, hc, hf⟩ := bd_out hf
          refine y_i (va_runV (As := [.int a1]) (rest := [.long r10, .ref (B 1 0)]) hfix (m_X7_sumOf l G B E hE S4 a1 r11 hc) (cwV 1 hts gX7_likely_X7_sumOf rfl rfl rfl ⟨rfl, hd_X7_sumOf⟩ ⟨Nat.le_of_ble_eq_true rfl, Nat.le_of_ble_eq_true rfl⟩) (y_pv hF hW hS (c1 hE) (e1 _ _ _ _ _ _) rfl) rfl rfl hl.1 rfl (lv_room (Nat.le_of_ble_eq_true rfl)) dX7_likely_56 ⟨Nat.le_of_ble_eq_true rfl, Nat.le_of_ble_eq_true rfl⟩) hS (fun H locs hW hS => ?_)
          refine lv_i2l hx hb dX7_likely_59 rfl ?_
          refine lv_aload_n hx hb dX7_likely_60 rfl (lv_at hl 1 rfl) ?_
          refine lv_iload hx hb dX7_likely_61 (lv_at hl 0 rfl) ?_
          obtain ⟨r12, hc, hf⟩ := bd_out hf
          refine y_l (va_runV (As := [.int x5]) (rest := [.long r11.toInt64, .long r10, .ref (B 1 0)]) hfix (m_X7_hundreds l G B E hE S4 x5 r12 hc) (cwV 1 hts gX7_likely_X7_hundreds rfl rfl rfl ⟨rfl, hd_X7_hundreds⟩ ⟨Nat.le_of_ble_eq_true rfl, Nat.le_of_ble_eq_true rfl⟩) (y_pv hF hW hS (c1 hE) (e1 _ _ _ _ _ _) rfl) rfl rfl hl.1 rfl (lv_room (Nat.le_of_ble_eq_true rfl)) dX7_likely_63 ⟨Nat.le_of_ble_eq_true rfl, Nat.le_of_ble_eq_true rfl⟩) hS (fun H locs hW hS => ?_)
          refine lv_lmul hx hb dX7_likely_66 ?_
          refine lv_iload_n hx hb dX7_likely_67 rfl (lv_at hl 4 rfl) ?_
          obtain ⟨r13, hc, hf⟩ := bd_out hf
          refine y_l (va_runV (As := [.long r10, .long (r11.toInt64 * r12), .int a3]) (rest := []) hfix (m_X7_lowest l G B E hE S4 r10 (r11.toInt64 * r12) a3 r13 hc) (cwV 3 hts gX7_likely_X7_lowest rfl rfl rfl ⟨rfl, hd_X7_lowest⟩ ⟨Nat.le_of_ble_eq_true rfl, Nat.le_of_ble_eq_true rfl⟩) (y_pv hF hW hS (c1 hE) (e1 _ _ _ _ _ _) rfl) rfl rfl hl.1 rfl (lv_room (Nat.le_of_ble_eq_true rfl)) dX7_likely_68 ⟨Nat.le_of_ble_eq_true rfl, Nat.le_of_ble_eq_true rfl⟩) hS (fun H locs hW hS => ?_)
          exact z_l hf hx hb hr hF hW hS dX7_likely_71 hlocks
      · have hf := if_t h hf
        refine lv_ldc2 hx hb hown q0 dX7_likely_26 ?_
        exact z_l hf hx hb hr hF hW hS dX7_likely_29 hlocks
set_option maxHeartbeats 4000000 in
set_option maxRecDepth 100000 in
theorem m_X7_allOf (l : Launch) (G : GE) (B : Nat → Nat → Nat) (E : EN) (hE : 0 < E.2.2.2)  (S : ST) (a1 : Int32) (rr : Int64) (hf : f_X7_allOf E S a1 = some rr) : Met l yX7_allOf wsX7_allOf (rmN 2) (va_Pc [.ref (B 1 0), .int a1] (WS G B E S)) (QL G B E S rr) 0 0 (AA G) := by
  refine Met.ofW (cc := cX7_allOf) (maxL := 2) (ret := (some .long)) (by decide) rfl ?_
  intro p e s m args below meth c s₁ B0 hml hv
  obtain ⟨rfl, hW, hF⟩ := hv
  have hx := B0.exec
  have hb := B0.bytes
  have hr := B0.returns
  have hts := atoms_spec (ws := wsX7_allOf) B0.pre
  have hown : s.vm.findClass RX7 = some m.cls := findClass_of_methodNamed B0.named
  have hlocks := B0.notSynchronized
  have hK := hF.1
  have hfix : CallFix p m c cX7_allOf 2 s [.ref (B 1 0), .int a1].toArray wsX7_allOf RX7 := ⟨hx, hb, hml, hown, hts⟩
  have hS : va_S (AA G) s.heap s.heap [] := va_S.rf
  have hl := lv_entry [.ref (B 1 0), .int a1] (n := 2) (Nat.le_of_ble_eq_true rfl)
  rw [lg_entry_eq]
  generalize (lg_sl [.ref (B 1 0), .int a1] ++ List.replicate (2 - (lg_sl [.ref (B 1 0), .int a1]).length) Slot.unset).toArray = ls at hl ⊢
  have hl : lv_has ls 2 [(0, .ref (B 1 0)), (1, .int a1)] := hl
  unfold f_X7_allOf at hf
  refine lv_aload_n hx hb dX7_allOf_0 rfl (lv_at hl 0 rfl) ?_
  refine lv_iload_n hx hb dX7_allOf_1 rfl (lv_at hl 1 rfl) ?_
  obtain ⟨r1, hc, hf⟩ := bd_out hf
  refine y_i (va_runV (As := [.int a1]) (rest := []) hfix (m_X7_sumOf l G B E hE S a1 r1 hc) (cwV 1 hts gX7_allOf_X7_sumOf rfl rfl rfl ⟨rfl, hd_X7_sumOf⟩ ⟨Nat.le_of_ble_eq_true rfl, Nat.le_of_ble_eq_true rfl⟩) (y_pv hF hW hS (c1 hE) (e1 _ _ _ _ _ _) rfl) rfl rfl hl.1 rfl (lv_room (Nat.le_of_ble_eq_true rfl)) dX7_allOf_2 ⟨Nat.le_of_ble_eq_true rfl, Nat.le_of_ble_eq_true rfl⟩) hS (fun H locs hW hS => ?_)
  refine lv_i2l hx hb dX7_allOf_5 rfl ?_
  refine lv_aload_n hx hb dX7_allOf_6 rfl (lv_at hl 0 rfl) ?_
  refine lv_iconst (v := 5) hx hb dX7_allOf_7 rfl ?_
  obtain ⟨r2, hc, hf⟩ := bd_out hf
  refine y_l (va_runV (As := [.int (5 : Int32)]) (rest := [.long r1.toInt64]) hfix (m_X7_hundreds l G B E hE S (5 : Int32) r2 hc) (cwV 1 hts gX7_allOf_X7_hundreds rfl rfl rfl ⟨rfl, hd_X7_hundreds⟩ ⟨Nat.le_of_ble_eq_true rfl, Nat.le_of_ble_eq_true rfl⟩) (y_pv hF hW hS (c1 hE) (e1 _ _ _ _ _ _) rfl) rfl rfl hl.1 rfl (lv_room (Nat.le_of_ble_eq_true rfl)) dX7_allOf_8 ⟨Nat.le_of_ble_eq_true rfl, Nat.le_of_ble_eq_true rfl⟩) hS (fun H locs hW hS => ?_)
  refine lv_lmul hx hb dX7_allOf_11 ?_
  exact zr_l hf hx hb hr hF hW hS dX7_allOf_12 hlocks
set_option maxHeartbeats 4000000 in
set_option maxRecDepth 100000 in
theorem m_X7_ending (l : Launch) (G : GE) (B : Nat → Nat → Nat) (E : EN) (hE : 0 < E.2.2.2)  (S : ST)  (rr : Int64) (hf : f_X7_ending E S = some rr) : Met l yX7_ending wsX7_ending (rmN 1) (va_Pc [.ref (B 1 0)] (WS G B E S)) (QL G B E S rr) 0 0 (AA G) := by
  refine Met.ofW (cc := cX7_ending) (maxL := 4) (ret := (some .long)) (by decide) rfl ?_
  intro p e s m args below meth c s₁ B0 hml hv
  obtain ⟨rfl, hW, hF⟩ := hv
  have hx := B0.exec
  have hb := B0.bytes
  have hr := B0.returns
  have hts := atoms_spec (ws := wsX7_ending) B0.pre
  have hown : s.vm.findClass RX7 = some m.cls := findClass_of_methodNamed B0.named
  have hlocks := B0.notSynchronized
  have hK := hF.1
  have hfix : CallFix p m c cX7_ending 4 s [.ref (B 1 0)].toArray wsX7_ending RX7 := ⟨hx, hb, hml, hown, hts⟩
  have hS : va_S (AA G) s.heap s.heap [] := va_S.rf
  have hl := lv_entry [.ref (B 1 0)] (n := 4) (Nat.le_of_ble_eq_true rfl)
  rw [lg_entry_eq]
  generalize (lg_sl [.ref (B 1 0)] ++ List.replicate (4 - (lg_sl [.ref (B 1 0)]).length) Slot.unset).toArray = ls at hl ⊢
  have hl : lv_has ls 4 [(0, .ref (B 1 0))] := hl
  have q0 := hts (.fieldLink RX7 110 "MovesUpModel" "row" "[J") (List.mem_of_getElem? (i := 1) rfl)
  have q1 := hts (.fieldLink RX7 107 "MovesUpModel" "end" "[I") (List.mem_of_getElem? (i := 2) rfl)
  have q2 := hts (.fieldLink RX7 114 "MovesUpModel" "gradeAt" "[I") (List.mem_of_getElem? (i := 3) rfl)
  have q3 := hts (.fieldLink RX7 117 "MovesUpModel" "movedAt" "[I") (List.mem_of_getElem? (i := 4) rfl)
  have hi7 : ∀ w ∈ u_ws RX7 TX7 47, w ∈ wsX7_ending := in_seg 5 rfl
  have w4 : ∀ (n4 : Nat) (_ : Unit) (v1 : Int64) (v3 : Int32) , f_X7_ending_b4 E n4 S v1 v3 = some rr → ∀ (H : Heap) (locs : List Loc) (ls : Array Slot), WH G B E S H → va_S (AA G) s.heap H locs → lv_has ls 4 [(0, .ref (B 1 0)), (1, .long v1), (3, .int v3)] → W p l e (headSpec wsX7_ending (rmN 1)).room s m [.ref (B 1 0)].toArray below meth c H locs 0 0 (MQ below (QL G B E S rr) [.ref (B 1 0)].toArray s 0 0 (AA G)) (F0 m 4 ls []) := by
    intro n4
    induction n4 with
    | zero =>
      intro _ v1 v3 hf
      exact absurd (show (none : Option Int64) = some rr from hf) (fun h => by cases h)
    | succ n4 ih4 =>
      intro _ v1 v3 hf H locs ls hW hS hl
      have hf : g_X7_ending_b4 E (f_X7_ending_b4 E n4) S v1 v3 = some rr := hf
      unfold g_X7_ending_b4 at hf
      refine lv_iload_n hx hb dX7_ending_4 rfl (lv_at hl 2 rfl) ?_
      refine lv_iconst (v := 5) hx hb dX7_ending_5 rfl ?_
      refine lv_icmp_ge (tgt := 54) hx hb dX7_ending_6 (by decide) (fun h => ?_) (fun h => ?_)
      · have hf := if_t h hf
        refine lv_lload_n hx hb dX7_ending_54 rfl (lv_at hl 1 rfl) ?_
        exact zr_l hf hx hb hr hF hW hS dX7_ending_55 hlocks
      · have hf := if_f h hf
        refine lv_lload_n hx hb dX7_ending_9 rfl (lv_at hl 1 rfl) ?_
        refine lv_aload_n hx hb dX7_ending_10 rfl (lv_at hl 0 rfl) ?_
        refine x_get hx hb hts hi7 hown hK hW (c1 hE) (e1 _ _ _ _ _ _) rfl 26 (Nat.le_of_ble_eq_true rfl) q0 (fun _ h => h) (v := .ref (B 66 0)) rfl dX7_ending_11 ?_
        refine lv_bipush (v := 25) hx hb dX7_ending_14 (by decide) ?_
        refine lv_iload_n hx hb dX7_ending_16 rfl (lv_at hl 2 rfl) ?_
        refine lv_iadd hx hb dX7_ending_17 ?_
        obtain ⟨hi_1, hf⟩ := ck_out hf
        have hi_1 := ib_in hi_1
        refine x_lald hx hb hK hW (c66 hE) (e66 _ _ _ _ _ _) hi_1 (jn := ((25 : Int32) + v3).toNatClampNeg) rfl dX7_ending_18 ?_
        refine lv_aload_n hx hb dX7_ending_19 rfl (lv_at hl 0 rfl) ?_
        refine x_get hx hb hts hi7 hown hK hW (c1 hE) (e1 _ _ _ _ _ _) rfl 25 (Nat.le_of_ble_eq_true rfl) q1 (fun _ h => h) (v := .ref (B 65 0)) rfl dX7_ending_20 ?_
        refine lv_bipush (v := 30) hx hb dX7_ending_23 (by decide) ?_
        refine lv_aload_n hx hb dX7_ending_25 rfl (lv_at hl 0 rfl) ?_
        refine x_get hx hb hts hi7 hown hK hW (c1 hE) (e1 _ _ _ _ _ _) rfl 27 (Nat.le_of_ble_eq_true rfl) q2 (fun _ h => h) (v := .ref (B 67 0)) rfl dX7_ending_26 ?_
        refine lv_iconst (v := 5) hx hb dX7_ending_29 rfl ?_
        refine x_iald hx hb hK hW (c67 hE) (e67 _ _ _ _ _ _) (ib_in (by decide)) (jn := 5) rfl dX7_ending_30 ?_
        refine lv_imul hx hb dX7_ending_31 ?_
        refine lv_iconst (v := 5) hx hb dX7_ending_32 rfl ?_
        refine lv_aload_n hx hb dX7_ending_33 rfl (lv_at hl 0 rfl) ?_
        refine x_get hx hb hts hi7 hown hK hW (c1 hE) (e1 _ _ _ _ _ _) rfl 28 (Nat.le_of_ble_eq_true rfl) q3 (fun _ h => h) (v := .ref (B 68 0)) rfl dX7_ending_34 ?_
        refine lv_iconst (v := 5) hx hb dX7_ending_37 rfl ?_
        refine x_iald hx hb hK hW (c68 hE) (e68 _ _ _ _ _ _) (ib_in (by decide)) (jn := 5) rfl dX7_ending_38 ?_
        refine lv_imul hx hb dX7_ending_39 ?_
        refine lv_iadd hx hb dX7_ending_40 ?_
        refine lv_iload_n hx hb dX7_ending_41 rfl (lv_at hl 2 rfl) ?_
        refine lv_iadd hx hb dX7_ending_42 ?_
        obtain ⟨hi_2, hf⟩ := ck_out hf
        have hi_2 := ib_in hi_2
        refine x_iald hx hb hK hW (c65 hE) (e65 _ _ _ _ _ _) hi_2 (jn := ((((30 : Int32) * (gI S 67 0 5)) + ((5 : Int32) * (gI S 68 0 5))) + v3).toNatClampNeg) rfl dX7_ending_43 ?_
        refine lv_i2l hx hb dX7_ending_44 rfl ?_
        refine lv_lmul hx hb dX7_ending_45 ?_
        refine lv_ladd hx hb dX7_ending_46 ?_
        obtain ⟨x3, e_x3, hf⟩ := lt_out hf
        refine x_nmL e_x3 ?_
        refine lv_lstore_n (lv' := [(1, .long x3), (0, .ref (B 1 0)), (3, .int v3)]) hx hb dX7_ending_47 rfl hl (by decide) rfl (fun ls hl => ?_)
        obtain ⟨x4, e_x4, hf⟩ := lt_out hf
        refine lv_iinc (v := x4) (lv' := [(3, .int x4), (1, .long x3), (0, .ref (B 1 0))]) hx hb dX7_ending_48 hl (k := 2) rfl (by rw [e_x4]; rfl) (by decide) rfl (fun ls hl => ?_)
        refine lv_goto (tgt := 4) hx hb dX7_ending_51 (by decide) ?_
        exact ih4 () x3 x4  hf _ _ _ hW hS (lv_sub hl [2, 1, 0] rfl)
  unfold f_X7_ending at hf
  refine lv_lconst (v := 0) hx hb dX7_ending_0 rfl ?_
  refine lv_lstore_n (lv' := [(1, .long (0 : Int64)), (0, .ref (B 1 0))]) hx hb dX7_ending_1 rfl hl (by decide) rfl (fun ls hl => ?_)
  refine lv_iconst (v := 0) hx hb dX7_ending_2 rfl ?_
  refine lv_istore_n (lv' := [(3, .int (0 : Int32)), (1, .long (0 : Int64)), (0, .ref (B 1 0))]) hx hb dX7_ending_3 rfl hl (by decide) rfl (fun ls hl => ?_)
  exact w4 E.1 () (0 : Int64) (0 : Int32)  hf _ _ _ hW hS (lv_sub hl [2, 1, 0] rfl)
set_option maxHeartbeats 4000000 in
set_option maxRecDepth 100000 in
theorem m_X7_meanOf (l : Launch) (G : GE) (B : Nat → Nat → Nat) (E : EN) (hE : 0 < E.2.2.2)  (S : ST) (a1 : Int32) (a2 : Int32) (a3 : Int32) (a4 : Int32) (rr : Int64) (SS : ST) (hf : f_X7_meanOf E S a1 a2 a3 a4 = some (rr, SS)) : Met l yX7_meanOf wsX7_meanOf (rmN 4) (va_Pc [.ref (B 1 0), .int a1, .int a2, .int a3, .int a4] (WS G B E S)) (QL G B E SS rr) 0 0 (AA G) := by
  refine Met.ofW (cc := cX7_meanOf) (maxL := 10) (ret := (some .long)) (by decide) rfl ?_
  intro p e s m args below meth c s₁ B0 hml hv
  obtain ⟨rfl, hW, hF⟩ := hv
  have hx := B0.exec
  have hb := B0.bytes
  have hr := B0.returns
  have hts := atoms_spec (ws := wsX7_meanOf) B0.pre
  have hown : s.vm.findClass RX7 = some m.cls := findClass_of_methodNamed B0.named
  have hlocks := B0.notSynchronized
  have hK := hF.1
  have hfix : CallFix p m c cX7_meanOf 10 s [.ref (B 1 0), .int a1, .int a2, .int a3, .int a4].toArray wsX7_meanOf RX7 := ⟨hx, hb, hml, hown, hts⟩
  have hS : va_S (AA G) s.heap s.heap [] := va_S.rf
  have hl := lv_entry [.ref (B 1 0), .int a1, .int a2, .int a3, .int a4] (n := 10) (Nat.le_of_ble_eq_true rfl)
  rw [lg_entry_eq]
  generalize (lg_sl [.ref (B 1 0), .int a1, .int a2, .int a3, .int a4] ++ List.replicate (10 - (lg_sl [.ref (B 1 0), .int a1, .int a2, .int a3, .int a4]).length) Slot.unset).toArray = ls at hl ⊢
  have hl : lv_has ls 10 [(0, .ref (B 1 0)), (1, .int a1), (2, .int a2), (3, .int a3), (4, .int a4)] := hl
  have q0 := hts (.fieldLink RX7 127 "MovesUpModel" "rights" "J") (List.mem_of_getElem? (i := 1) rfl)
  have hi7 : ∀ w ∈ u_ws RX7 TX7 47, w ∈ wsX7_meanOf := in_seg 50 rfl
  have w11 : ∀ (n11 : Nat) (S : ST) (v1 : Int32) (v2 : Int32) (v3 : Int32) (v4 : Int32) (v5 : Int64) (v7 : Int32) , f_X7_meanOf_b11 E n11 S v1 v2 v3 v4 v5 v7 = some (rr, SS) → ∀ (H : Heap) (locs : List Loc) (ls : Array Slot), WH G B E S H → va_S (AA G) s.heap H locs → lv_has ls 10 [(0, .ref (B 1 0)), (1, .int v1), (2, .int v2), (3, .int v3), (4, .int v4), (5, .long v5), (7, .int v7)] → W p l e (headSpec wsX7_meanOf (rmN 4)).room s m [.ref (B 1 0), .int a1, .int a2, .int a3, .int a4].toArray below meth c H locs 0 0 (MQ below (QL G B E SS rr) [.ref (B 1 0), .int a1, .int a2, .int a3, .int a4].toArray s 0 0 (AA G)) (F0 m 11 ls []) := by
    intro n11
    induction n11 with
    | zero =>
      intro S v1 v2 v3 v4 v5 v7 hf
      exact absurd (show (none : Option (Int64 × ST)) = some (rr, SS) from hf) (fun h => by cases h)
    | succ n11 ih11 =>
      have w60 : ∀ (S : ST) (v1 : Int32) (v2 : Int32) (v3 : Int32) (v4 : Int32) (v5 : Int64) (v7 : Int32) (v8 : Int32) , f_X7_meanOf_b60 E (f_X7_meanOf_b11 E n11) S v1 v2 v3 v4 v5 v7 v8 = some (rr, SS) → ∀ (H : Heap) (locs : List Loc) (ls : Array Slot), WH G B E S H → va_S (AA G) s.heap H locs → lv_has ls 10 [(0, .ref (B 1 0)), (1, .int v1), (2, .int v2), (3, .int v3), (4, .int v4), (5, .long v5), (7, .int v7), (8, .int v8)] → W p l e (headSpec wsX7_meanOf (rmN 4)).room s m [.ref (B 1 0), .int a1, .int a2, .int a3, .int a4].toArray below meth c H locs 0 0 (MQ below (QL G B E SS rr) [.ref (B 1 0), .int a1, .int a2, .int a3, .int a4].toArray s 0 0 (AA G)) (F0 m 60 ls []) := by
        intro S v1 v2 v3 v4 v5 v7 v8 hf H locs ls hW hS hl
        unfold f_X7_meanOf_b60 at hf
        refine lv_aload_n hx hb dX7_meanOf_60 rfl (lv_at hl 0 rfl) ?_
        refine lv_dup hx hb dX7_meanOf_61 rfl ?_
        refine x_get hx hb hts hi7 hown hK hW (c1 hE) (e1 _ _ _ _ _ _) rfl 31 (Nat.le_of_ble_eq_true rfl) q0 (fun _ h => h) (v := .long (gL S 1 0 31)) rfl dX7_meanOf_62 ?_
        refine lv_iload hx hb dX7_meanOf_65 (lv_at hl 7 rfl) ?_
        refine lv_i2l hx hb dX7_meanOf_67 rfl ?_
        refine lv_aload_n hx hb dX7_meanOf_68 rfl (lv_at hl 0 rfl) ?_
        refine lv_iconst (v := 5) hx hb dX7_meanOf_69 rfl ?_
        obtain ⟨r1, hc, hf⟩ := bd_out hf
        refine y_l (va_runV (As := [.int (5 : Int32)]) (rest := [.long v8.toInt64, .long (gL S 1 0 31), .ref (B 1 0)]) hfix (m_X7_sumRow l G B E hE S (5 : Int32) r1 hc) (cwV 1 hts gX7_meanOf_X7_sumRow rfl rfl rfl ⟨rfl, hd_X7_sumRow⟩ ⟨Nat.le_of_ble_eq_true rfl, Nat.le_of_ble_eq_true rfl⟩) (y_pv hF hW hS (c1 hE) (e1 _ _ _ _ _ _) rfl) rfl rfl hl.1 rfl (lv_room (Nat.le_of_ble_eq_true rfl)) dX7_meanOf_70 ⟨Nat.le_of_ble_eq_true rfl, Nat.le_of_ble_eq_true rfl⟩) hS (fun H locs hW hS => ?_)
        refine lv_lmul hx hb dX7_meanOf_73 ?_
        refine lv_ladd hx hb dX7_meanOf_74 ?_
        obtain ⟨S2, e_S2, hf⟩ := lt_out hf
        refine x_putL hx hb hts hi7 tyX7 tyX7_ok nmX7 hown hK hW hS (c1 hE) (e1 _ _ _) rfl 31 (Nat.le_of_ble_eq_true rfl) q0 (fun _ h => h) rfl (tyX7_ok 31 (Nat.le_of_ble_eq_true rfl)) rfl rfl (Nat.le_of_ble_eq_true rfl) (pu1_31 _ _) e_S2 dX7_meanOf_75 (fun H locs hW hS => ?_)
        refine lv_lload hx hb dX7_meanOf_78 (lv_at hl 5 rfl) ?_
        refine lv_aload_n hx hb dX7_meanOf_80 rfl (lv_at hl 0 rfl) ?_
        obtain ⟨r3, hc, hf⟩ := bd_out hf
        refine y_l (va_runV (As := []) (rest := [.long v5]) hfix (m_X7_ending l G B E hE S2  r3 hc) (cwV 0 hts gX7_meanOf_X7_ending rfl rfl rfl ⟨rfl, hd_X7_ending⟩ ⟨Nat.le_of_ble_eq_true rfl, Nat.le_of_ble_eq_true rfl⟩) (y_pv hF hW hS (c1 hE) (e1 _ _ _ _ _ _) rfl) rfl rfl hl.1 rfl (lv_room (Nat.le_of_ble_eq_true rfl)) dX7_meanOf_81 ⟨Nat.le_of_ble_eq_true rfl, Nat.le_of_ble_eq_true rfl⟩) hS (fun H locs hW hS => ?_)
        refine lv_ladd hx hb dX7_meanOf_84 ?_
        obtain ⟨x4, e_x4, hf⟩ := lt_out hf
        refine x_nmL e_x4 ?_
        refine lv_lstore (lv' := [(5, .long x4), (0, .ref (B 1 0)), (1, .int v1), (2, .int v2), (3, .int v3), (4, .int v4), (7, .int v7), (8, .int v8)]) hx hb dX7_meanOf_85 hl (by decide) rfl (fun ls hl => ?_)
        obtain ⟨x5, e_x5, hf⟩ := lt_out hf
        refine lv_iinc (v := x5) (lv' := [(7, .int x5), (5, .long x4), (0, .ref (B 1 0)), (1, .int v1), (2, .int v2), (3, .int v3), (4, .int v4), (8, .int v8)]) hx hb dX7_meanOf_87 hl (k := 6) rfl (by rw [e_x5]; rfl) (by decide) rfl (fun ls hl => ?_)
        refine lv_goto (tgt := 11) hx hb dX7_meanOf_90 (by decide) ?_
        exact ih11 S2 v1 v2 v3 v4 x4 x5  hf _ _ _ hW hS (lv_sub hl [2, 3, 4, 5, 6, 1, 0] rfl)
      have w36 : ∀ (n36 : Nat) (S : ST) (v1 : Int32) (v2 : Int32) (v3 : Int32) (v4 : Int32) (v5 : Int64) (v7 : Int32) (v8 : Int32) (v9 : Int32) , f_X7_meanOf_b36 E (f_X7_meanOf_b11 E n11) n36 S v1 v2 v3 v4 v5 v7 v8 v9 = some (rr, SS) → ∀ (H : Heap) (locs : List Loc) (ls : Array Slot), WH G B E S H → va_S (AA G) s.heap H locs → lv_has ls 10 [(0, .ref (B 1 0)), (1, .int v1), (2, .int v2), (3, .int v3), (4, .int v4), (5, .long v5), (7, .int v7), (8, .int v8), (9, .int v9)] → W p l e (headSpec wsX7_meanOf (rmN 4)).room s m [.ref (B 1 0), .int a1, .int a2, .int a3, .int a4].toArray below meth c H locs 0 0 (MQ below (QL G B E SS rr) [.ref (B 1 0), .int a1, .int a2, .int a3, .int a4].toArray s 0 0 (AA G)) (F0 m 36 ls []) := by
        intro n36
        induction n36 with
        | zero =>
          intro S v1 v2 v3 v4 v5 v7 v8 v9 hf
          exact absurd (show (none : Option (Int64 × ST)) = some (rr, SS) from hf) (fun h => by cases h)
        | succ n36 ih36 =>
          intro S v1 v2 v3 v4 v5 v7 v8 v9 hf H locs ls hW hS hl
          have hf : g_X7_meanOf_b36 E (f_X7_meanOf_b11 E n11) (f_X7_meanOf_b36 E (f_X7_meanOf_b11 E n11) n36) S v1 v2 v3 v4 v5 v7 v8 v9 = some (rr, SS) := hf
          unfold g_X7_meanOf_b36 at hf
          refine lv_iload hx hb dX7_meanOf_36 (lv_at hl 8 rfl) ?_
          refine lv_iconst (v := 5) hx hb dX7_meanOf_38 rfl ?_
          refine lv_icmp_ge (tgt := 60) hx hb dX7_meanOf_39 (by decide) (fun h => ?_) (fun h => ?_)
          · have hf := if_t h hf
            exact w60 S v1 v2 v3 v4 v5 v7 v8  hf _ _ _ hW hS (lv_sub hl [0, 1, 2, 3, 4, 5, 6, 7] rfl)
          · have hf := if_f h hf
            refine lv_iload hx hb dX7_meanOf_42 (lv_at hl 7 rfl) ?_
            refine lv_iload hx hb dX7_meanOf_44 (lv_at hl 6 rfl) ?_
            refine lv_iload hx hb dX7_meanOf_46 (lv_at hl 8 rfl) ?_
            refine lv_ishr hx hb dX7_meanOf_48 ?_
            refine lv_iconst (v := 1) hx hb dX7_meanOf_49 rfl ?_
            refine lv_iand hx hb dX7_meanOf_50 ?_
            refine lv_iadd hx hb dX7_meanOf_51 ?_
            obtain ⟨x6, e_x6, hf⟩ := lt_out hf
            refine x_nmI e_x6 ?_
            refine lv_istore (lv' := [(8, .int x6), (0, .ref (B 1 0)), (1, .int v1), (2, .int v2), (3, .int v3), (4, .int v4), (5, .long v5), (7, .int v7), (9, .int v9)]) hx hb dX7_meanOf_52 hl (by decide) rfl (fun ls hl => ?_)
            obtain ⟨x7, e_x7, hf⟩ := lt_out hf
            refine lv_iinc (v := x7) (lv' := [(9, .int x7), (8, .int x6), (0, .ref (B 1 0)), (1, .int v1), (2, .int v2), (3, .int v3), (4, .int v4), (5, .long v5), (7, .int v7)]) hx hb dX7_meanOf_54 hl (k := 8) rfl (by rw [e_x7]; rfl) (by decide) rfl (fun ls hl => ?_)
            refine lv_goto (tgt := 36) hx hb dX7_meanOf_57 (by decide) ?_
            exact ih36 S v1 v2 v3 v4 v5 v7 x6 x7  hf _ _ _ hW hS (lv_sub hl [2, 3, 4, 5, 6, 7, 8, 1, 0] rfl)
      intro S v1 v2 v3 v4 v5 v7 hf H locs ls hW hS hl
      have hf : g_X7_meanOf_b11 E (f_X7_meanOf_b11 E n11) S v1 v2 v3 v4 v5 v7 = some (rr, SS) := hf
      unfold g_X7_meanOf_b11 at hf
      refine lv_iload hx hb dX7_meanOf_11 (lv_at hl 6 rfl) ?_
      refine lv_bipush (v := 32) hx hb dX7_meanOf_13 (by decide) ?_
      refine lv_icmp_ge (tgt := 93) hx hb dX7_meanOf_15 (by decide) (fun h => ?_) (fun h => ?_)
      · have hf := if_t h hf
        refine lv_lload hx hb dX7_meanOf_93 (lv_at hl 5 rfl) ?_
        exact z_l hf hx hb hr hF hW hS dX7_meanOf_95 hlocks
      · have hf := if_f h hf
        refine lv_aload_n hx hb dX7_meanOf_18 rfl (lv_at hl 0 rfl) ?_
        refine lv_iload_n hx hb dX7_meanOf_19 rfl (lv_at hl 1 rfl) ?_
        refine lv_iload_n hx hb dX7_meanOf_20 rfl (lv_at hl 2 rfl) ?_
        refine lv_iload_n hx hb dX7_meanOf_21 rfl (lv_at hl 3 rfl) ?_
        refine lv_iload hx hb dX7_meanOf_22 (lv_at hl 4 rfl) ?_
        refine lv_iconst (v := 5) hx hb dX7_meanOf_24 rfl ?_
        refine lv_iload hx hb dX7_meanOf_25 (lv_at hl 6 rfl) ?_
        obtain ⟨S8, hc, hf⟩ := bd_out hf
        refine y_v (va_runV (As := [.int v1, .int v2, .int v3, .int v4, .int (5 : Int32), .int v7]) (rest := []) hfix (m_X7_go l G B E hE S v1 v2 v3 v4 (5 : Int32) v7 S8 hc) (cwV 6 hts gX7_meanOf_X7_go rfl rfl rfl ⟨rfl, hd_X7_go⟩ ⟨Nat.le_of_ble_eq_true rfl, Nat.le_of_ble_eq_true rfl⟩) (y_pv hF hW hS (c1 hE) (e1 _ _ _ _ _ _) rfl) rfl rfl hl.1 rfl (lv_room (Nat.le_of_ble_eq_true rfl)) dX7_meanOf_27 ⟨Nat.le_of_ble_eq_true rfl, Nat.le_of_ble_eq_true rfl⟩) hS (fun H locs hW hS => ?_)
        refine lv_iconst (v := 0) hx hb dX7_meanOf_30 rfl ?_
        refine lv_istore (lv' := [(8, .int (0 : Int32)), (0, .ref (B 1 0)), (1, .int v1), (2, .int v2), (3, .int v3), (4, .int v4), (5, .long v5), (7, .int v7)]) hx hb dX7_meanOf_31 hl (by decide) rfl (fun ls hl => ?_)
        refine lv_iconst (v := 0) hx hb dX7_meanOf_33 rfl ?_
        refine lv_istore (lv' := [(9, .int (0 : Int32)), (8, .int (0 : Int32)), (0, .ref (B 1 0)), (1, .int v1), (2, .int v2), (3, .int v3), (4, .int v4), (5, .long v5), (7, .int v7)]) hx hb dX7_meanOf_34 hl (by decide) rfl (fun ls hl => ?_)
        exact w36 E.1 S8 v1 v2 v3 v4 v5 v7 (0 : Int32) (0 : Int32)  hf _ _ _ hW hS (lv_sub hl [2, 3, 4, 5, 6, 7, 8, 1, 0] rfl)
  unfold f_X7_meanOf at hf
  refine lv_lconst (v := 0) hx hb dX7_meanOf_0 rfl ?_
  refine lv_lstore (lv' := [(5, .long (0 : Int64)), (0, .ref (B 1 0)), (1, .int a1), (2, .int a2), (3, .int a3), (4, .int a4)]) hx hb dX7_meanOf_1 hl (by decide) rfl (fun ls hl => ?_)
  refine lv_aload_n hx hb dX7_meanOf_3 rfl (lv_at hl 1 rfl) ?_
  refine lv_lconst (v := 0) hx hb dX7_meanOf_4 rfl ?_
  obtain ⟨S9, e_S9, hf⟩ := lt_out hf
  refine x_putL hx hb hts hi7 tyX7 tyX7_ok nmX7 hown hK hW hS (c1 hE) (e1 _ _ _) rfl 31 (Nat.le_of_ble_eq_true rfl) q0 (fun _ h => h) rfl (tyX7_ok 31 (Nat.le_of_ble_eq_true rfl)) rfl rfl (Nat.le_of_ble_eq_true rfl) (pu1_31 _ _) e_S9 dX7_meanOf_5 (fun H locs hW hS => ?_)
  refine lv_iconst (v := 0) hx hb dX7_meanOf_8 rfl ?_
  refine lv_istore (lv' := [(7, .int (0 : Int32)), (5, .long (0 : Int64)), (0, .ref (B 1 0)), (1, .int a1), (2, .int a2), (3, .int a3), (4, .int a4)]) hx hb dX7_meanOf_9 hl (by decide) rfl (fun ls hl => ?_)
  exact w11 E.1 S9 a1 a2 a3 a4 (0 : Int64) (0 : Int32)  hf _ _ _ hW hS (lv_sub hl [2, 3, 4, 5, 6, 1, 0] rfl)
set_option maxHeartbeats 4000000 in
set_option maxRecDepth 100000 in
theorem m_X7_enter (l : Launch) (G : GE) (B : Nat → Nat → Nat) (E : EN) (hE : 0 < E.2.2.2)  (S : ST) (a1 : Int32) (SS : ST) (hf : f_X7_enter E S a1 = some SS) : Met l yX7_enter wsX7_enter (rmN 1) (va_Pc [.ref (B 1 0), .int a1] (WS G B E S)) (QV G B E SS) 0 0 (AA G) := by
  refine Met.ofW (cc := cX7_enter) (maxL := 2) (ret := none) (by decide) rfl ?_
  intro p e s m args below meth c s₁ B0 hml hv
  obtain ⟨rfl, hW, hF⟩ := hv
  have hx := B0.exec
  have hb := B0.bytes
  have hr := B0.returns
  have hts := atoms_spec (ws := wsX7_enter) B0.pre
  have hown : s.vm.findClass RX7 = some m.cls := findClass_of_methodNamed B0.named
  have hlocks := B0.notSynchronized
  have hK := hF.1
  have hfix : CallFix p m c cX7_enter 2 s [.ref (B 1 0), .int a1].toArray wsX7_enter RX7 := ⟨hx, hb, hml, hown, hts⟩
  have hS : va_S (AA G) s.heap s.heap [] := va_S.rf
  have hl := lv_entry [.ref (B 1 0), .int a1] (n := 2) (Nat.le_of_ble_eq_true rfl)
  rw [lg_entry_eq]
  generalize (lg_sl [.ref (B 1 0), .int a1] ++ List.replicate (2 - (lg_sl [.ref (B 1 0), .int a1]).length) Slot.unset).toArray = ls at hl ⊢
  have hl : lv_has ls 2 [(0, .ref (B 1 0)), (1, .int a1)] := hl
  have q0 := hts (.fieldLink RX7 131 "MovesUpModel" "mark" "[I") (List.mem_of_getElem? (i := 1) rfl)
  have q1 := hts (.fieldLink RX7 134 "MovesUpModel" "by" "[I") (List.mem_of_getElem? (i := 2) rfl)
  have q2 := hts (.fieldLink RX7 137 "MovesUpModel" "best" "[J") (List.mem_of_getElem? (i := 3) rfl)
  have q3 := hts (.constantLong RX7 315 (-1)) (List.mem_of_getElem? (i := 4) rfl)
  have q4 := hts (.fieldLink RX7 140 "MovesUpModel" "total" "[J") (List.mem_of_getElem? (i := 5) rfl)
  have hi7 : ∀ w ∈ u_ws RX7 TX7 47, w ∈ wsX7_enter := in_seg 6 rfl
  unfold f_X7_enter at hf
  refine lv_aload_n hx hb dX7_enter_0 rfl (lv_at hl 0 rfl) ?_
  refine x_get hx hb hts hi7 hown hK hW (c1 hE) (e1 _ _ _ _ _ _) rfl 32 (Nat.le_of_ble_eq_true rfl) q0 (fun _ h => h) (v := .ref (B 72 0)) rfl dX7_enter_1 ?_
  refine lv_iload_n hx hb dX7_enter_4 rfl (lv_at hl 1 rfl) ?_
  refine lv_iconst (v := 0) hx hb dX7_enter_5 rfl ?_
  obtain ⟨hi_1, hf⟩ := ck_out hf
  have hi_1 := ib_in hi_1
  obtain ⟨S2, e_S2, hf⟩ := lt_out hf
  refine x_iast hx hb hK hW hS (c72 hE) (fun f r => e72 _ _ _ f _ r) hi_1 (jn := a1.toNatClampNeg) rfl e_S2 dX7_enter_6 (fun H locs hW hS => ?_)
  refine lv_aload_n hx hb dX7_enter_7 rfl (lv_at hl 0 rfl) ?_
  refine x_get hx hb hts hi7 hown hK hW (c1 hE) (e1 _ _ _ _ _ _) rfl 33 (Nat.le_of_ble_eq_true rfl) q1 (fun _ h => h) (v := .ref (B 73 0)) rfl dX7_enter_8 ?_
  refine lv_iload_n hx hb dX7_enter_11 rfl (lv_at hl 1 rfl) ?_
  refine lv_iconst (v := -1) hx hb dX7_enter_12 rfl ?_
  obtain ⟨S3, e_S3, hf⟩ := lt_out hf
  refine x_iast hx hb hK hW hS (c73 hE) (fun f r => e73 _ _ _ f _ r) hi_1 (jn := a1.toNatClampNeg) rfl e_S3 dX7_enter_13 (fun H locs hW hS => ?_)
  refine lv_aload_n hx hb dX7_enter_14 rfl (lv_at hl 0 rfl) ?_
  refine x_get hx hb hts hi7 hown hK hW (c1 hE) (e1 _ _ _ _ _ _) rfl 34 (Nat.le_of_ble_eq_true rfl) q2 (fun _ h => h) (v := .ref (B 74 0)) rfl dX7_enter_15 ?_
  refine lv_iload_n hx hb dX7_enter_18 rfl (lv_at hl 1 rfl) ?_
  refine lv_ldc2 hx hb hown q3 dX7_enter_19 ?_
  obtain ⟨S4, e_S4, hf⟩ := lt_out hf
  refine x_last hx hb hK hW hS (c74 hE) (fun g => e74 _ _ _ _ g _) hi_1 (jn := a1.toNatClampNeg) rfl e_S4 dX7_enter_22 (fun H locs hW hS => ?_)
  refine lv_aload_n hx hb dX7_enter_23 rfl (lv_at hl 0 rfl) ?_
  refine x_get hx hb hts hi7 hown hK hW (c1 hE) (e1 _ _ _ _ _ _) rfl 35 (Nat.le_of_ble_eq_true rfl) q4 (fun _ h => h) (v := .ref (B 75 0)) rfl dX7_enter_24 ?_
  refine lv_iload_n hx hb dX7_enter_27 rfl (lv_at hl 1 rfl) ?_
  refine lv_lconst (v := 0) hx hb dX7_enter_28 rfl ?_
  obtain ⟨S5, e_S5, hf⟩ := lt_out hf
  refine x_last hx hb hK hW hS (c75 hE) (fun g => e75 _ _ _ _ g _) hi_1 (jn := a1.toNatClampNeg) rfl e_S5 dX7_enter_29 (fun H locs hW hS => ?_)
  exact z_v hf hx hb hr hF hW hS dX7_enter_30 hlocks
set_option maxHeartbeats 4000000 in
set_option maxRecDepth 100000 in
theorem m_X7_bestOf (l : Launch) (G : GE) (B : Nat → Nat → Nat) (E : EN) (hE : 0 < E.2.2.2)  (S : ST) (a1 : Int32) (rr : Int64) (SS : ST) (hf : f_X7_bestOf E S a1 = some (rr, SS)) : Met l yX7_bestOf wsX7_bestOf (rmN 3) (va_Pc [.ref (B 1 0), .int a1] (WS G B E S)) (QL G B E SS rr) 0 0 (AA G) := by
  refine Met.ofW (cc := cX7_bestOf) (maxL := 5) (ret := (some .long)) (by decide) rfl ?_
  intro p e s m args below meth c s₁ B0 hml hv
  obtain ⟨rfl, hW, hF⟩ := hv
  have hx := B0.exec
  have hb := B0.bytes
  have hr := B0.returns
  have hts := atoms_spec (ws := wsX7_bestOf) B0.pre
  have hown : s.vm.findClass RX7 = some m.cls := findClass_of_methodNamed B0.named
  have hlocks := B0.notSynchronized
  have hK := hF.1
  have hfix : CallFix p m c cX7_bestOf 5 s [.ref (B 1 0), .int a1].toArray wsX7_bestOf RX7 := ⟨hx, hb, hml, hown, hts⟩
  have hS : va_S (AA G) s.heap s.heap [] := va_S.rf
  have hl := lv_entry [.ref (B 1 0), .int a1] (n := 5) (Nat.le_of_ble_eq_true rfl)
  rw [lg_entry_eq]
  generalize (lg_sl [.ref (B 1 0), .int a1] ++ List.replicate (5 - (lg_sl [.ref (B 1 0), .int a1]).length) Slot.unset).toArray = ls at hl ⊢
  have hl : lv_has ls 5 [(0, .ref (B 1 0)), (1, .int a1)] := hl
  have q0 := hts (.fieldLink RX7 137 "MovesUpModel" "best" "[J") (List.mem_of_getElem? (i := 5) rfl)
  have q1 := hts (.fieldLink RX7 140 "MovesUpModel" "total" "[J") (List.mem_of_getElem? (i := 4) rfl)
  have q2 := hts (.fieldLink RX7 131 "MovesUpModel" "mark" "[I") (List.mem_of_getElem? (i := 3) rfl)
  have q3 := hts (.fieldLink RX7 134 "MovesUpModel" "by" "[I") (List.mem_of_getElem? (i := 2) rfl)
  have q4 := hts (.constantLong RX7 315 (-1)) (List.mem_of_getElem? (i := 6) rfl)
  have q5 := hts (.fieldLink RX7 15 "MovesUpModel" "grade" "[I") (List.mem_of_getElem? (i := 1) rfl)
  have hi7 : ∀ w ∈ u_ws RX7 TX7 47, w ∈ wsX7_bestOf := in_seg 41 rfl
  have w18 : ∀ (n18 : Nat) (S : ST) (v2 : Int32) , f_X7_bestOf_b18 E n18 S v2 = some (rr, SS) → ∀ (H : Heap) (locs : List Loc) (ls : Array Slot), WH G B E S H → va_S (AA G) s.heap H locs → lv_has ls 5 [(0, .ref (B 1 0)), (2, .int v2)] → W p l e (headSpec wsX7_bestOf (rmN 3)).room s m [.ref (B 1 0), .int a1].toArray below meth c H locs 0 0 (MQ below (QL G B E SS rr) [.ref (B 1 0), .int a1].toArray s 0 0 (AA G)) (F0 m 18 ls []) := by
    intro n18
    induction n18 with
    | zero =>
      intro S v2 hf
      exact absurd (show (none : Option (Int64 × ST)) = some (rr, SS) from hf) (fun h => by cases h)
    | succ n18 ih18 =>
      have w189 : ∀ (S : ST) (v2 : Int32) (t0 : Int64) (t1 : Int32) , f_X7_bestOf_b189 E (f_X7_bestOf_b18 E n18) S v2 t0 t1 = some (rr, SS) → ∀ (H : Heap) (locs : List Loc) (ls : Array Slot), WH G B E S H → va_S (AA G) s.heap H locs → lv_has ls 5 [(0, .ref (B 1 0)), (2, .int v2)] → W p l e (headSpec wsX7_bestOf (rmN 3)).room s m [.ref (B 1 0), .int a1].toArray below meth c H locs 0 0 (MQ below (QL G B E SS rr) [.ref (B 1 0), .int a1].toArray s 0 0 (AA G)) (F0 m 189 ls [.long t0, .int t1, .ref (B 74 0)]) := by
        intro S v2 t0 t1 hf H locs ls hW hS hl
        unfold f_X7_bestOf_b189 at hf
        obtain ⟨hi_1, hf⟩ := ck_out hf
        have hi_1 := ib_in hi_1
        obtain ⟨S2, e_S2, hf⟩ := lt_out hf
        refine x_last hx hb hK hW hS (c74 hE) (fun g => e74 _ _ _ _ g _) hi_1 (jn := t1.toNatClampNeg) rfl e_S2 dX7_bestOf_189 (fun H locs hW hS => ?_)
        refine lv_goto (tgt := 18) hx hb dX7_bestOf_190 (by decide) ?_
        exact ih18 S2 v2  hf _ _ _ hW hS (lv_sub hl [0, 1] rfl)
      have w153 : ∀ (S : ST) (v2 : Int32) (t0 : Int64) , f_X7_bestOf_b153 E (f_X7_bestOf_b18 E n18) S v2 t0 = some (rr, SS) → ∀ (H : Heap) (locs : List Loc) (ls : Array Slot), WH G B E S H → va_S (AA G) s.heap H locs → lv_has ls 5 [(0, .ref (B 1 0)), (2, .int v2)] → W p l e (headSpec wsX7_bestOf (rmN 3)).room s m [.ref (B 1 0), .int a1].toArray below meth c H locs 0 0 (MQ below (QL G B E SS rr) [.ref (B 1 0), .int a1].toArray s 0 0 (AA G)) (F0 m 153 ls [.long t0]) := by
        intro S v2 t0 hf H locs ls hW hS hl
        unfold f_X7_bestOf_b153 at hf
        refine lv_lstore_n (lv' := [(3, .long t0), (0, .ref (B 1 0)), (2, .int v2)]) hx hb dX7_bestOf_153 rfl hl (by decide) rfl (fun ls hl => ?_)
        refine lv_iload_n hx hb dX7_bestOf_154 rfl (lv_at hl 2 rfl) ?_
        refine lv_if_ne (tgt := 160) hx hb dX7_bestOf_155 (by decide) (fun h => ?_) (fun h => ?_)
        · have hf := if_f h hf
          obtain ⟨x3, e_x3, hf⟩ := lt_out hf
          refine lv_iinc (v := x3) (lv' := [(2, .int x3), (3, .long t0), (0, .ref (B 1 0))]) hx hb dX7_bestOf_160 hl (k := 2) rfl (by rw [e_x3]; rfl) (by decide) rfl (fun ls hl => ?_)
          refine lv_aload_n hx hb dX7_bestOf_163 rfl (lv_at hl 2 rfl) ?_
          refine x_get hx hb hts hi7 hown hK hW (c1 hE) (e1 _ _ _ _ _ _) rfl 34 (Nat.le_of_ble_eq_true rfl) q0 (fun _ h => h) (v := .ref (B 74 0)) rfl dX7_bestOf_164 ?_
          refine lv_iload_n hx hb dX7_bestOf_167 rfl (lv_at hl 0 rfl) ?_
          refine lv_lload_n hx hb dX7_bestOf_168 rfl (lv_at hl 1 rfl) ?_
          refine lv_aload_n hx hb dX7_bestOf_169 rfl (lv_at hl 2 rfl) ?_
          refine x_get hx hb hts hi7 hown hK hW (c1 hE) (e1 _ _ _ _ _ _) rfl 34 (Nat.le_of_ble_eq_true rfl) q0 (fun _ h => h) (v := .ref (B 74 0)) rfl dX7_bestOf_170 ?_
          refine lv_iload_n hx hb dX7_bestOf_173 rfl (lv_at hl 0 rfl) ?_
          obtain ⟨hi_4, hf⟩ := ck_out hf
          have hi_4 := ib_in hi_4
          refine x_lald hx hb hK hW (c74 hE) (e74 _ _ _ _ _ _) hi_4 (jn := x3.toNatClampNeg) rfl dX7_bestOf_174 ?_
          refine W.lcmp hx hb dX7_bestOf_175 ?_
          refine lv_if_le (tgt := 183) hx hb dX7_bestOf_176 (by decide) (fun h => ?_) (fun h => ?_)
          · have h := (lg_cmp_le _ _).mp h
            have hf := if_t h hf
            refine lv_aload_n hx hb dX7_bestOf_183 rfl (lv_at hl 2 rfl) ?_
            refine x_get hx hb hts hi7 hown hK hW (c1 hE) (e1 _ _ _ _ _ _) rfl 34 (Nat.le_of_ble_eq_true rfl) q0 (fun _ h => h) (v := .ref (B 74 0)) rfl dX7_bestOf_184 ?_
            refine lv_iload_n hx hb dX7_bestOf_187 rfl (lv_at hl 0 rfl) ?_
            refine x_lald hx hb hK hW (c74 hE) (e74 _ _ _ _ _ _) hi_4 (jn := x3.toNatClampNeg) rfl dX7_bestOf_188 ?_
            exact w189 S x3 (gL S 74 0 x3.toNatClampNeg) x3  hf _ _ _ hW hS (lv_sub hl [2, 0] rfl)
          · have h := fun q => h ((lg_cmp_le _ _).mpr q)
            have hf := if_f h hf
            refine lv_lload_n hx hb dX7_bestOf_179 rfl (lv_at hl 1 rfl) ?_
            refine lv_goto (tgt := 189) hx hb dX7_bestOf_180 (by decide) ?_
            exact w189 S x3 t0 x3  hf _ _ _ hW hS (lv_sub hl [2, 0] rfl)
        · have hf := if_t h hf
          refine lv_lload_n hx hb dX7_bestOf_158 rfl (lv_at hl 0 rfl) ?_
          exact z_l hf hx hb hr hF hW hS dX7_bestOf_159 hlocks
      have w135 : ∀ (S : ST) (v2 : Int32) , f_X7_bestOf_b135 E (f_X7_bestOf_b18 E n18) S v2 = some (rr, SS) → ∀ (H : Heap) (locs : List Loc) (ls : Array Slot), WH G B E S H → va_S (AA G) s.heap H locs → lv_has ls 5 [(0, .ref (B 1 0)), (2, .int v2)] → W p l e (headSpec wsX7_bestOf (rmN 3)).room s m [.ref (B 1 0), .int a1].toArray below meth c H locs 0 0 (MQ below (QL G B E SS rr) [.ref (B 1 0), .int a1].toArray s 0 0 (AA G)) (F0 m 135 ls []) := by
        intro S v2 hf H locs ls hW hS hl
        unfold f_X7_bestOf_b135 at hf
        refine lv_iload_n hx hb dX7_bestOf_135 rfl (lv_at hl 1 rfl) ?_
        refine lv_iconst (v := 5) hx hb dX7_bestOf_136 rfl ?_
        refine lv_icmp_ne (tgt := 147) hx hb dX7_bestOf_137 (by decide) (fun h => ?_) (fun h => ?_)
        · have hf := if_f h hf
          refine lv_aload_n hx hb dX7_bestOf_147 rfl (lv_at hl 0 rfl) ?_
          refine x_get hx hb hts hi7 hown hK hW (c1 hE) (e1 _ _ _ _ _ _) rfl 35 (Nat.le_of_ble_eq_true rfl) q1 (fun _ h => h) (v := .ref (B 75 0)) rfl dX7_bestOf_148 ?_
          refine lv_iload_n hx hb dX7_bestOf_151 rfl (lv_at hl 1 rfl) ?_
          obtain ⟨hi_5, hf⟩ := ck_out hf
          have hi_5 := ib_in hi_5
          refine x_lald hx hb hK hW (c75 hE) (e75 _ _ _ _ _ _) hi_5 (jn := v2.toNatClampNeg) rfl dX7_bestOf_152 ?_
          exact w153 S v2 (gL S 75 0 v2.toNatClampNeg)  hf _ _ _ hW hS (lv_sub hl [0, 1] rfl)
        · have hf := if_t h hf
          refine lv_aload_n hx hb dX7_bestOf_140 rfl (lv_at hl 0 rfl) ?_
          obtain ⟨r6, hc, hf⟩ := bd_out hf
          refine y_l (va_runV (As := []) (rest := []) hfix (m_X7_ending l G B E hE S  r6 hc) (cwV 0 hts gX7_bestOf_X7_ending rfl rfl rfl ⟨rfl, hd_X7_ending⟩ ⟨Nat.le_of_ble_eq_true rfl, Nat.le_of_ble_eq_true rfl⟩) (y_pv hF hW hS (c1 hE) (e1 _ _ _ _ _ _) rfl) rfl rfl hl.1 rfl (lv_room (Nat.le_of_ble_eq_true rfl)) dX7_bestOf_141 ⟨Nat.le_of_ble_eq_true rfl, Nat.le_of_ble_eq_true rfl⟩) hS (fun H locs hW hS => ?_)
          refine lv_goto (tgt := 153) hx hb dX7_bestOf_144 (by decide) ?_
          exact w153 S v2 r6  hf _ _ _ hW hS (lv_sub hl [0, 1] rfl)
      have w76 : ∀ (S : ST) (v2 : Int32) , f_X7_bestOf_b76 E (f_X7_bestOf_b18 E n18) S v2 = some (rr, SS) → ∀ (H : Heap) (locs : List Loc) (ls : Array Slot), WH G B E S H → va_S (AA G) s.heap H locs → lv_has ls 5 [(0, .ref (B 1 0)), (2, .int v2)] → W p l e (headSpec wsX7_bestOf (rmN 3)).room s m [.ref (B 1 0), .int a1].toArray below meth c H locs 0 0 (MQ below (QL G B E SS rr) [.ref (B 1 0), .int a1].toArray s 0 0 (AA G)) (F0 m 76 ls []) := by
        intro S v2 hf H locs ls hW hS hl
        unfold f_X7_bestOf_b76 at hf
        refine lv_iload_n hx hb dX7_bestOf_76 rfl (lv_at hl 1 rfl) ?_
        refine lv_iconst (v := 5) hx hb dX7_bestOf_77 rfl ?_
        refine lv_icmp_ge (tgt := 135) hx hb dX7_bestOf_78 (by decide) (fun h => ?_) (fun h => ?_)
        · have hf := if_t h hf
          exact w135 S v2  hf _ _ _ hW hS (lv_sub hl [0, 1] rfl)
        · have hf := if_f h hf
          refine lv_aload_n hx hb dX7_bestOf_81 rfl (lv_at hl 0 rfl) ?_
          refine x_get hx hb hts hi7 hown hK hW (c1 hE) (e1 _ _ _ _ _ _) rfl 35 (Nat.le_of_ble_eq_true rfl) q1 (fun _ h => h) (v := .ref (B 75 0)) rfl dX7_bestOf_82 ?_
          refine lv_iload_n hx hb dX7_bestOf_85 rfl (lv_at hl 1 rfl) ?_
          refine lv_dup2_11 hx hb dX7_bestOf_86 rfl rfl ?_
          obtain ⟨hi_7, hf⟩ := ck_out hf
          have hi_7 := ib_in hi_7
          refine x_lald hx hb hK hW (c75 hE) (e75 _ _ _ _ _ _) hi_7 (jn := v2.toNatClampNeg) rfl dX7_bestOf_87 ?_
          refine lv_aload_n hx hb dX7_bestOf_88 rfl (lv_at hl 0 rfl) ?_
          refine x_get hx hb hts hi7 hown hK hW (c1 hE) (e1 _ _ _ _ _ _) rfl 34 (Nat.le_of_ble_eq_true rfl) q0 (fun _ h => h) (v := .ref (B 74 0)) rfl dX7_bestOf_89 ?_
          refine lv_iload_n hx hb dX7_bestOf_92 rfl (lv_at hl 1 rfl) ?_
          refine x_lald hx hb hK hW (c74 hE) (e74 _ _ _ _ _ _) hi_7 (jn := v2.toNatClampNeg) rfl dX7_bestOf_93 ?_
          refine lv_ladd hx hb dX7_bestOf_94 ?_
          obtain ⟨S8, e_S8, hf⟩ := lt_out hf
          refine x_last hx hb hK hW hS (c75 hE) (fun g => e75 _ _ _ _ g _) hi_7 (jn := v2.toNatClampNeg) rfl e_S8 dX7_bestOf_95 (fun H locs hW hS => ?_)
          refine lv_aload_n hx hb dX7_bestOf_96 rfl (lv_at hl 0 rfl) ?_
          refine x_get hx hb hts hi7 hown hK hW (c1 hE) (e1 _ _ _ _ _ _) rfl 32 (Nat.le_of_ble_eq_true rfl) q2 (fun _ h => h) (v := .ref (B 72 0)) rfl dX7_bestOf_97 ?_
          refine lv_iload_n hx hb dX7_bestOf_100 rfl (lv_at hl 1 rfl) ?_
          refine lv_dup2_11 hx hb dX7_bestOf_101 rfl rfl ?_
          refine x_iald hx hb hK hW (c72 hE) (e72 _ _ _ _ _ _) hi_7 (jn := v2.toNatClampNeg) rfl dX7_bestOf_102 ?_
          refine lv_iconst (v := 1) hx hb dX7_bestOf_103 rfl ?_
          refine lv_iadd hx hb dX7_bestOf_104 ?_
          obtain ⟨S9, e_S9, hf⟩ := lt_out hf
          refine x_iast hx hb hK hW hS (c72 hE) (fun f r => e72 _ _ _ f _ r) hi_7 (jn := v2.toNatClampNeg) rfl e_S9 dX7_bestOf_105 (fun H locs hW hS => ?_)
          refine lv_aload_n hx hb dX7_bestOf_106 rfl (lv_at hl 0 rfl) ?_
          refine x_get hx hb hts hi7 hown hK hW (c1 hE) (e1 _ _ _ _ _ _) rfl 33 (Nat.le_of_ble_eq_true rfl) q3 (fun _ h => h) (v := .ref (B 73 0)) rfl dX7_bestOf_107 ?_
          refine lv_iload_n hx hb dX7_bestOf_110 rfl (lv_at hl 1 rfl) ?_
          refine lv_iconst (v := -1) hx hb dX7_bestOf_111 rfl ?_
          obtain ⟨S10, e_S10, hf⟩ := lt_out hf
          refine x_iast hx hb hK hW hS (c73 hE) (fun f r => e73 _ _ _ f _ r) hi_7 (jn := v2.toNatClampNeg) rfl e_S10 dX7_bestOf_112 (fun H locs hW hS => ?_)
          refine lv_aload_n hx hb dX7_bestOf_113 rfl (lv_at hl 0 rfl) ?_
          refine x_get hx hb hts hi7 hown hK hW (c1 hE) (e1 _ _ _ _ _ _) rfl 34 (Nat.le_of_ble_eq_true rfl) q0 (fun _ h => h) (v := .ref (B 74 0)) rfl dX7_bestOf_114 ?_
          refine lv_iload_n hx hb dX7_bestOf_117 rfl (lv_at hl 1 rfl) ?_
          refine lv_ldc2 hx hb hown q4 dX7_bestOf_118 ?_
          obtain ⟨S11, e_S11, hf⟩ := lt_out hf
          refine x_last hx hb hK hW hS (c74 hE) (fun g => e74 _ _ _ _ g _) hi_7 (jn := v2.toNatClampNeg) rfl e_S11 dX7_bestOf_121 (fun H locs hW hS => ?_)
          refine lv_aload_n hx hb dX7_bestOf_122 rfl (lv_at hl 0 rfl) ?_
          refine x_get hx hb hts hi7 hown hK hW (c1 hE) (e1 _ _ _ _ _ _) rfl 32 (Nat.le_of_ble_eq_true rfl) q2 (fun _ h => h) (v := .ref (B 72 0)) rfl dX7_bestOf_123 ?_
          refine lv_iload_n hx hb dX7_bestOf_126 rfl (lv_at hl 1 rfl) ?_
          refine x_iald hx hb hK hW (c72 hE) (e72 _ _ _ _ _ _) hi_7 (jn := v2.toNatClampNeg) rfl dX7_bestOf_127 ?_
          refine lv_iconst (v := 2) hx hb dX7_bestOf_128 rfl ?_
          refine lv_icmp_ge (tgt := 135) hx hb dX7_bestOf_129 (by decide) (fun h => ?_) (fun h => ?_)
          · have hf := if_t h hf
            exact w135 S11 v2  hf _ _ _ hW hS (lv_sub hl [0, 1] rfl)
          · have hf := if_f h hf
            refine lv_goto (tgt := 18) hx hb dX7_bestOf_132 (by decide) ?_
            exact ih18 S11 v2  hf _ _ _ hW hS (lv_sub hl [0, 1] rfl)
      intro S v2 hf H locs ls hW hS hl
      have hf : g_X7_bestOf_b18 E (f_X7_bestOf_b18 E n18) S v2 = some (rr, SS) := hf
      unfold g_X7_bestOf_b18 at hf
      refine lv_iload_n hx hb dX7_bestOf_18 rfl (lv_at hl 1 rfl) ?_
      refine lv_iconst (v := 5) hx hb dX7_bestOf_19 rfl ?_
      refine lv_icmp_ge (tgt := 76) hx hb dX7_bestOf_20 (by decide) (fun h => ?_) (fun h => ?_)
      · have hf := if_t h hf
        exact w76 S v2  hf _ _ _ hW hS (lv_sub hl [0, 1] rfl)
      · have hf := if_f h hf
        refine lv_aload_n hx hb dX7_bestOf_23 rfl (lv_at hl 0 rfl) ?_
        refine x_get hx hb hts hi7 hown hK hW (c1 hE) (e1 _ _ _ _ _ _) rfl 33 (Nat.le_of_ble_eq_true rfl) q3 (fun _ h => h) (v := .ref (B 73 0)) rfl dX7_bestOf_24 ?_
        refine lv_iload_n hx hb dX7_bestOf_27 rfl (lv_at hl 1 rfl) ?_
        obtain ⟨hi_12, hf⟩ := ck_out hf
        have hi_12 := ib_in hi_12
        refine x_iald hx hb hK hW (c73 hE) (e73 _ _ _ _ _ _) hi_12 (jn := v2.toNatClampNeg) rfl dX7_bestOf_28 ?_
        refine lv_iconst (v := 2) hx hb dX7_bestOf_29 rfl ?_
        refine lv_icmp_ge (tgt := 76) hx hb dX7_bestOf_30 (by decide) (fun h => ?_) (fun h => ?_)
        · have hf := if_t h hf
          exact w76 S v2  hf _ _ _ hW hS (lv_sub hl [0, 1] rfl)
        · have hf := if_f h hf
          refine lv_aload_n hx hb dX7_bestOf_33 rfl (lv_at hl 0 rfl) ?_
          refine lv_iload_n hx hb dX7_bestOf_34 rfl (lv_at hl 1 rfl) ?_
          refine lv_aload_n hx hb dX7_bestOf_35 rfl (lv_at hl 0 rfl) ?_
          refine x_get hx hb hts hi7 hown hK hW (c1 hE) (e1 _ _ _ _ _ _) rfl 32 (Nat.le_of_ble_eq_true rfl) q2 (fun _ h => h) (v := .ref (B 72 0)) rfl dX7_bestOf_36 ?_
          refine lv_iload_n hx hb dX7_bestOf_39 rfl (lv_at hl 1 rfl) ?_
          refine x_iald hx hb hK hW (c72 hE) (e72 _ _ _ _ _ _) hi_12 (jn := v2.toNatClampNeg) rfl dX7_bestOf_40 ?_
          obtain ⟨S13, hc, hf⟩ := bd_out hf
          refine y_v (va_runV (As := [.int v2, .int (gI S 72 0 v2.toNatClampNeg)]) (rest := []) hfix (m_X7_goWeek l G B E hE S v2 (gI S 72 0 v2.toNatClampNeg) S13 hc) (cwV 2 hts gX7_bestOf_X7_goWeek rfl rfl rfl ⟨rfl, hd_X7_goWeek⟩ ⟨Nat.le_of_ble_eq_true rfl, Nat.le_of_ble_eq_true rfl⟩) (y_pv hF hW hS (c1 hE) (e1 _ _ _ _ _ _) rfl) rfl rfl hl.1 rfl (lv_room (Nat.le_of_ble_eq_true rfl)) dX7_bestOf_41 ⟨Nat.le_of_ble_eq_true rfl, Nat.le_of_ble_eq_true rfl⟩) hS (fun H locs hW hS => ?_)
          refine lv_aload_n hx hb dX7_bestOf_44 rfl (lv_at hl 0 rfl) ?_
          refine lv_iload_n hx hb dX7_bestOf_45 rfl (lv_at hl 1 rfl) ?_
          refine lv_aload_n hx hb dX7_bestOf_46 rfl (lv_at hl 0 rfl) ?_
          refine x_get hx hb hts hi7 hown hK hW (c1 hE) (e1 _ _ _ _ _ _) rfl 33 (Nat.le_of_ble_eq_true rfl) q3 (fun _ h => h) (v := .ref (B 73 0)) rfl dX7_bestOf_47 ?_
          refine lv_iload_n hx hb dX7_bestOf_50 rfl (lv_at hl 1 rfl) ?_
          refine x_iald hx hb hK hW (c73 hE) (e73 _ _ _ _ _ _) hi_12 (jn := v2.toNatClampNeg) rfl dX7_bestOf_51 ?_
          obtain ⟨S14, hc, hf⟩ := bd_out hf
          refine y_v (va_runV (As := [.int v2, .int (gI S13 73 0 v2.toNatClampNeg)]) (rest := []) hfix (m_X7_move l G B E hE S13 v2 (gI S13 73 0 v2.toNatClampNeg) S14 hc) (cwV 2 hts gX7_bestOf_X7_move rfl rfl rfl ⟨rfl, hd_X7_move⟩ ⟨Nat.le_of_ble_eq_true rfl, Nat.le_of_ble_eq_true rfl⟩) (y_pv hF hW hS (c1 hE) (e1 _ _ _ _ _ _) rfl) rfl rfl hl.1 rfl (lv_room (Nat.le_of_ble_eq_true rfl)) dX7_bestOf_52 ⟨Nat.le_of_ble_eq_true rfl, Nat.le_of_ble_eq_true rfl⟩) hS (fun H locs hW hS => ?_)
          refine lv_aload_n hx hb dX7_bestOf_55 rfl (lv_at hl 0 rfl) ?_
          refine x_get hx hb hts hi7 hown hK hW (c1 hE) (e1 _ _ _ _ _ _) rfl 33 (Nat.le_of_ble_eq_true rfl) q3 (fun _ h => h) (v := .ref (B 73 0)) rfl dX7_bestOf_56 ?_
          refine lv_iload_n hx hb dX7_bestOf_59 rfl (lv_at hl 1 rfl) ?_
          refine lv_dup2_11 hx hb dX7_bestOf_60 rfl rfl ?_
          refine x_iald hx hb hK hW (c73 hE) (e73 _ _ _ _ _ _) hi_12 (jn := v2.toNatClampNeg) rfl dX7_bestOf_61 ?_
          refine lv_iconst (v := 1) hx hb dX7_bestOf_62 rfl ?_
          refine lv_iadd hx hb dX7_bestOf_63 ?_
          obtain ⟨S15, e_S15, hf⟩ := lt_out hf
          refine x_iast hx hb hK hW hS (c73 hE) (fun f r => e73 _ _ _ f _ r) hi_12 (jn := v2.toNatClampNeg) rfl e_S15 dX7_bestOf_64 (fun H locs hW hS => ?_)
          obtain ⟨x16, e_x16, hf⟩ := lt_out hf
          refine lv_iinc (v := x16) (lv' := [(2, .int x16), (0, .ref (B 1 0))]) hx hb dX7_bestOf_65 hl (k := 1) rfl (by rw [e_x16]; rfl) (by decide) rfl (fun ls hl => ?_)
          refine lv_aload_n hx hb dX7_bestOf_68 rfl (lv_at hl 1 rfl) ?_
          refine lv_iload_n hx hb dX7_bestOf_69 rfl (lv_at hl 0 rfl) ?_
          obtain ⟨S17, hc, hf⟩ := bd_out hf
          refine y_v (va_runV (As := [.int x16]) (rest := []) hfix (m_X7_enter l G B E hE S15 x16 S17 hc) (cwV 1 hts gX7_bestOf_X7_enter rfl rfl rfl ⟨rfl, hd_X7_enter⟩ ⟨Nat.le_of_ble_eq_true rfl, Nat.le_of_ble_eq_true rfl⟩) (y_pv hF hW hS (c1 hE) (e1 _ _ _ _ _ _) rfl) rfl rfl hl.1 rfl (lv_room (Nat.le_of_ble_eq_true rfl)) dX7_bestOf_70 ⟨Nat.le_of_ble_eq_true rfl, Nat.le_of_ble_eq_true rfl⟩) hS (fun H locs hW hS => ?_)
          refine lv_goto (tgt := 18) hx hb dX7_bestOf_73 (by decide) ?_
          exact ih18 S17 x16  hf _ _ _ hW hS (lv_sub hl [1, 0] rfl)
  unfold f_X7_bestOf at hf
  refine lv_aload_n hx hb dX7_bestOf_0 rfl (lv_at hl 0 rfl) ?_
  refine lv_iload_n hx hb dX7_bestOf_1 rfl (lv_at hl 1 rfl) ?_
  refine lv_aload_n hx hb dX7_bestOf_2 rfl (lv_at hl 0 rfl) ?_
  refine x_get hx hb hts hi7 hown hK hW (c1 hE) (e1 _ _ _ _ _ _) rfl 2 (Nat.le_of_ble_eq_true rfl) q5 (fun _ h => h) (v := .ref (B 42 0)) rfl dX7_bestOf_3 ?_
  refine lv_iload_n hx hb dX7_bestOf_6 rfl (lv_at hl 1 rfl) ?_
  obtain ⟨hi_18, hf⟩ := ck_out hf
  have hi_18 := ib_in hi_18
  refine x_iald hx hb hK hW (c42 hE) (e42 _ _ _ _ _ _) hi_18 (jn := a1.toNatClampNeg) rfl dX7_bestOf_7 ?_
  obtain ⟨S19, hc, hf⟩ := bd_out hf
  refine y_v (va_runV (As := [.int a1, .int (gI S 42 0 a1.toNatClampNeg)]) (rest := []) hfix (m_X7_begin l G B E hE S a1 (gI S 42 0 a1.toNatClampNeg) S19 hc) (cwV 2 hts gX7_bestOf_X7_begin rfl rfl rfl ⟨rfl, hd_X7_begin⟩ ⟨Nat.le_of_ble_eq_true rfl, Nat.le_of_ble_eq_true rfl⟩) (y_pv hF hW hS (c1 hE) (e1 _ _ _ _ _ _) rfl) rfl rfl hl.1 rfl (lv_room (Nat.le_of_ble_eq_true rfl)) dX7_bestOf_8 ⟨Nat.le_of_ble_eq_true rfl, Nat.le_of_ble_eq_true rfl⟩) hS (fun H locs hW hS => ?_)
  refine lv_iconst (v := 0) hx hb dX7_bestOf_11 rfl ?_
  refine lv_istore_n (lv' := [(2, .int (0 : Int32)), (0, .ref (B 1 0)), (1, .int a1)]) hx hb dX7_bestOf_12 rfl hl (by decide) rfl (fun ls hl => ?_)
  refine lv_aload_n hx hb dX7_bestOf_13 rfl (lv_at hl 1 rfl) ?_
  refine lv_iconst (v := 0) hx hb dX7_bestOf_14 rfl ?_
  obtain ⟨S20, hc, hf⟩ := bd_out hf
  refine y_v (va_runV (As := [.int (0 : Int32)]) (rest := []) hfix (m_X7_enter l G B E hE S19 (0 : Int32) S20 hc) (cwV 1 hts gX7_bestOf_X7_enter rfl rfl rfl ⟨rfl, hd_X7_enter⟩ ⟨Nat.le_of_ble_eq_true rfl, Nat.le_of_ble_eq_true rfl⟩) (y_pv hF hW hS (c1 hE) (e1 _ _ _ _ _ _) rfl) rfl rfl hl.1 rfl (lv_room (Nat.le_of_ble_eq_true rfl)) dX7_bestOf_15 ⟨Nat.le_of_ble_eq_true rfl, Nat.le_of_ble_eq_true rfl⟩) hS (fun H locs hW hS => ?_)
  exact w18 E.1 S20 (0 : Int32)  hf _ _ _ hW hS (lv_sub hl [1, 0] rfl)
set_option maxHeartbeats 4000000 in
set_option maxRecDepth 100000 in
theorem m_X7_mean (l : Launch) (G : GE) (B : Nat → Nat → Nat) (E : EN) (hE : 0 < E.2.2.2)  (S : ST) (a1 : Int32) (a2 : Int32) (rr : Int64) (SS : ST) (hf : f_X7_mean E S a1 a2 = some (rr, SS)) : Met l yX7_mean wsX7_mean (rmN 5) (va_Pc [.ref (B 1 0), .int a1, .int a2] (WS G B E S)) (QL G B E SS rr) 0 0 (AA G) := by
  refine Met.ofW (cc := cX7_mean) (maxL := 9) (ret := (some .long)) (by decide) rfl ?_
  intro p e s m args below meth c s₁ B0 hml hv
  obtain ⟨rfl, hW, hF⟩ := hv
  have hx := B0.exec
  have hb := B0.bytes
  have hr := B0.returns
  have hts := atoms_spec (ws := wsX7_mean) B0.pre
  have hown : s.vm.findClass RX7 = some m.cls := findClass_of_methodNamed B0.named
  have hlocks := B0.notSynchronized
  have hK := hF.1
  have hfix : CallFix p m c cX7_mean 9 s [.ref (B 1 0), .int a1, .int a2].toArray wsX7_mean RX7 := ⟨hx, hb, hml, hown, hts⟩
  have hS : va_S (AA G) s.heap s.heap [] := va_S.rf
  have hl := lv_entry [.ref (B 1 0), .int a1, .int a2] (n := 9) (Nat.le_of_ble_eq_true rfl)
  rw [lg_entry_eq]
  generalize (lg_sl [.ref (B 1 0), .int a1, .int a2] ++ List.replicate (9 - (lg_sl [.ref (B 1 0), .int a1, .int a2]).length) Slot.unset).toArray = ls at hl ⊢
  have hl : lv_has ls 9 [(0, .ref (B 1 0)), (1, .int a1), (2, .int a2)] := hl
  have q0 := hts (.fieldLink RX7 127 "MovesUpModel" "rights" "J") (List.mem_of_getElem? (i := 6) rfl)
  have q1 := hts (.constantLong RX7 297 (-4611686018427387904)) (List.mem_of_getElem? (i := 1) rfl)
  have q2 := hts (.fieldLink RX7 18 "MovesUpModel" "kin" "[I") (List.mem_of_getElem? (i := 2) rfl)
  have q3 := hts (.fieldLink RX7 15 "MovesUpModel" "grade" "[I") (List.mem_of_getElem? (i := 3) rfl)
  have q4 := hts (.fieldLink RX7 11 "MovesUpModel" "kind" "[I") (List.mem_of_getElem? (i := 4) rfl)
  have q5 := hts (.fieldLink RX7 21 "MovesUpModel" "number" "[I") (List.mem_of_getElem? (i := 5) rfl)
  have hi7 : ∀ w ∈ u_ws RX7 TX7 47, w ∈ wsX7_mean := in_seg 124 rfl
  have w109 : ∀ (S : ST) (v1 : Int32) (v2 : Int32) (t0 : Int64) , f_X7_mean_b109 E S v1 v2 t0 = some (rr, SS) → ∀ (H : Heap) (locs : List Loc) (ls : Array Slot), WH G B E S H → va_S (AA G) s.heap H locs → lv_has ls 9 [(0, .ref (B 1 0)), (1, .int v1), (2, .int v2)] → W p l e (headSpec wsX7_mean (rmN 5)).room s m [.ref (B 1 0), .int a1, .int a2].toArray below meth c H locs 0 0 (MQ below (QL G B E SS rr) [.ref (B 1 0), .int a1, .int a2].toArray s 0 0 (AA G)) (F0 m 109 ls [.long t0]) := by
    intro S v1 v2 t0 hf H locs ls hW hS hl
    unfold f_X7_mean_b109 at hf
    refine lv_lstore (lv' := [(7, .long t0), (0, .ref (B 1 0)), (1, .int v1), (2, .int v2)]) hx hb dX7_mean_109 hl (by decide) rfl (fun ls hl => ?_)
    refine lv_aload_n hx hb dX7_mean_111 rfl (lv_at hl 1 rfl) ?_
    refine lv_lload hx hb dX7_mean_112 (lv_at hl 0 rfl) ?_
    refine lv_aload_n hx hb dX7_mean_114 rfl (lv_at hl 1 rfl) ?_
    refine lv_iload_n hx hb dX7_mean_115 rfl (lv_at hl 2 rfl) ?_
    obtain ⟨r1, hc, hf⟩ := bd_out hf
    refine y_l (va_runV (As := [.int v1]) (rest := [.long t0, .ref (B 1 0)]) hfix (m_X7_allOf l G B E hE S v1 r1 hc) (cwV 1 hts gX7_mean_X7_allOf rfl rfl rfl ⟨rfl, hd_X7_allOf⟩ ⟨Nat.le_of_ble_eq_true rfl, Nat.le_of_ble_eq_true rfl⟩) (y_pv hF hW hS (c1 hE) (e1 _ _ _ _ _ _) rfl) rfl rfl hl.1 rfl (lv_room (Nat.le_of_ble_eq_true rfl)) dX7_mean_116 ⟨Nat.le_of_ble_eq_true rfl, Nat.le_of_ble_eq_true rfl⟩) hS (fun H locs hW hS => ?_)
    refine lv_iload_n hx hb dX7_mean_119 rfl (lv_at hl 3 rfl) ?_
    refine lv_iconst (v := 2) hx hb dX7_mean_120 rfl ?_
    refine x_irem hx hb dX7_mean_121 (by decide) ?_
    obtain ⟨r2, hc, hf⟩ := bd_out hf
    refine y_l (va_runV (As := [.long t0, .long r1, .int (rmI v2 (2 : Int32))]) (rest := []) hfix (m_X7_lowest l G B E hE S t0 r1 (rmI v2 (2 : Int32)) r2 hc) (cwV 3 hts gX7_mean_X7_lowest rfl rfl rfl ⟨rfl, hd_X7_lowest⟩ ⟨Nat.le_of_ble_eq_true rfl, Nat.le_of_ble_eq_true rfl⟩) (y_pv hF hW hS (c1 hE) (e1 _ _ _ _ _ _) rfl) rfl rfl hl.1 rfl (lv_room (Nat.le_of_ble_eq_true rfl)) dX7_mean_122 ⟨Nat.le_of_ble_eq_true rfl, Nat.le_of_ble_eq_true rfl⟩) hS (fun H locs hW hS => ?_)
    exact z_l hf hx hb hr hF hW hS dX7_mean_125 hlocks
  have w71 : ∀ (S : ST) (v1 : Int32) (v2 : Int32) (v3 : Int64) (t0 : Int64) , f_X7_mean_b71 E S v1 v2 v3 t0 = some (rr, SS) → ∀ (H : Heap) (locs : List Loc) (ls : Array Slot), WH G B E S H → va_S (AA G) s.heap H locs → lv_has ls 9 [(0, .ref (B 1 0)), (1, .int v1), (2, .int v2), (3, .long v3)] → W p l e (headSpec wsX7_mean (rmN 5)).room s m [.ref (B 1 0), .int a1, .int a2].toArray below meth c H locs 0 0 (MQ below (QL G B E SS rr) [.ref (B 1 0), .int a1, .int a2].toArray s 0 0 (AA G)) (F0 m 71 ls [.long t0]) := by
    intro S v1 v2 v3 t0 hf H locs ls hW hS hl
    unfold f_X7_mean_b71 at hf
    refine lv_lstore (lv' := [(5, .long t0), (0, .ref (B 1 0)), (1, .int v1), (2, .int v2), (3, .long v3)]) hx hb dX7_mean_71 hl (by decide) rfl (fun ls hl => ?_)
    refine lv_iload_n hx hb dX7_mean_73 rfl (lv_at hl 3 rfl) ?_
    refine lv_iconst (v := 2) hx hb dX7_mean_74 rfl ?_
    refine lv_icmp_ge (tgt := 82) hx hb dX7_mean_75 (by decide) (fun h => ?_) (fun h => ?_)
    · have hf := if_t h hf
      refine lv_iload_n hx hb dX7_mean_82 rfl (lv_at hl 3 rfl) ?_
      refine lv_iconst (v := 4) hx hb dX7_mean_83 rfl ?_
      refine lv_icmp_ge (tgt := 94) hx hb dX7_mean_84 (by decide) (fun h => ?_) (fun h => ?_)
      · have hf := if_t h hf
        refine lv_iload_n hx hb dX7_mean_94 rfl (lv_at hl 3 rfl) ?_
        refine lv_bipush (v := 6) hx hb dX7_mean_95 (by decide) ?_
        refine lv_icmp_ge (tgt := 105) hx hb dX7_mean_97 (by decide) (fun h => ?_) (fun h => ?_)
        · have hf := if_t h hf
          refine lv_lload hx hb dX7_mean_105 (lv_at hl 0 rfl) ?_
          refine lv_lload_n hx hb dX7_mean_107 rfl (lv_at hl 4 rfl) ?_
          refine lv_lsub hx hb dX7_mean_108 ?_
          exact w109 S v1 v2 (t0 - v3)  hf _ _ _ hW hS (lv_sub hl [1, 2, 3] rfl)
        · have hf := if_f h hf
          refine lv_lload hx hb dX7_mean_100 (lv_at hl 0 rfl) ?_
          refine lv_goto (tgt := 109) hx hb dX7_mean_102 (by decide) ?_
          exact w109 S v1 v2 t0  hf _ _ _ hW hS (lv_sub hl [1, 2, 3] rfl)
      · have hf := if_f h hf
        refine lv_aload_n hx hb dX7_mean_87 rfl (lv_at hl 1 rfl) ?_
        refine x_get hx hb hts hi7 hown hK hW (c1 hE) (e1 _ _ _ _ _ _) rfl 31 (Nat.le_of_ble_eq_true rfl) q0 (fun _ h => h) (v := .long (gL S 1 0 31)) rfl dX7_mean_88 ?_
        refine lv_goto (tgt := 109) hx hb dX7_mean_91 (by decide) ?_
        exact w109 S v1 v2 (gL S 1 0 31)  hf _ _ _ hW hS (lv_sub hl [1, 2, 3] rfl)
    · have hf := if_f h hf
      refine lv_lload_n hx hb dX7_mean_78 rfl (lv_at hl 4 rfl) ?_
      refine lv_goto (tgt := 109) hx hb dX7_mean_79 (by decide) ?_
      exact w109 S v1 v2 v3  hf _ _ _ hW hS (lv_sub hl [1, 2, 3] rfl)
  unfold f_X7_mean at hf
  refine lv_aload_n hx hb dX7_mean_0 rfl (lv_at hl 0 rfl) ?_
  refine lv_iload_n hx hb dX7_mean_1 rfl (lv_at hl 1 rfl) ?_
  obtain ⟨r3, hc, hf⟩ := bd_out hf
  refine y_i (va_runV (As := [.int a1]) (rest := []) hfix (m_X7_isPupil l G B E hE S a1 r3 hc) (cwV 1 hts gX7_mean_X7_isPupil rfl rfl rfl ⟨rfl, hd_X7_isPupil⟩ ⟨Nat.le_of_ble_eq_true rfl, Nat.le_of_ble_eq_true rfl⟩) (y_pv hF hW hS (c1 hE) (e1 _ _ _ _ _ _) rfl) rfl rfl hl.1 rfl (lv_room (Nat.le_of_ble_eq_true rfl)) dX7_mean_2 ⟨Nat.le_of_ble_eq_true rfl, Nat.le_of_ble_eq_true rfl⟩) hS (fun H locs hW hS => ?_)
  refine lv_if_eq (tgt := 19) hx hb dX7_mean_5 (by decide) (fun h => ?_) (fun h => ?_)
  · have hf := if_t h hf
    refine lv_ldc2 hx hb hown q1 dX7_mean_19 ?_
    exact z_l hf hx hb hr hF hW hS dX7_mean_22 hlocks
  · have hf := if_f h hf
    refine lv_aload_n hx hb dX7_mean_8 rfl (lv_at hl 0 rfl) ?_
    refine lv_iload_n hx hb dX7_mean_9 rfl (lv_at hl 2 rfl) ?_
    refine lv_iconst (v := 0) hx hb dX7_mean_10 rfl ?_
    refine lv_bipush (v := 7) hx hb dX7_mean_11 (by decide) ?_
    obtain ⟨r4, hc, hf⟩ := bd_out hf
    refine y_i (va_runV (As := [.int a2, .int (0 : Int32), .int (7 : Int32)]) (rest := []) hfix (m_X7_in l G B E hE S a2 (0 : Int32) (7 : Int32) r4 hc) (cwV 3 hts gX7_mean_X7_in rfl rfl rfl ⟨rfl, hd_X7_in⟩ ⟨Nat.le_of_ble_eq_true rfl, Nat.le_of_ble_eq_true rfl⟩) (y_pv hF hW hS (c1 hE) (e1 _ _ _ _ _ _) rfl) rfl rfl hl.1 rfl (lv_room (Nat.le_of_ble_eq_true rfl)) dX7_mean_13 ⟨Nat.le_of_ble_eq_true rfl, Nat.le_of_ble_eq_true rfl⟩) hS (fun H locs hW hS => ?_)
    refine lv_if_ne (tgt := 23) hx hb dX7_mean_16 (by decide) (fun h => ?_) (fun h => ?_)
    · have hf := if_f h hf
      refine lv_aload_n hx hb dX7_mean_23 rfl (lv_at hl 0 rfl) ?_
      refine lv_aload_n hx hb dX7_mean_24 rfl (lv_at hl 0 rfl) ?_
      refine x_get hx hb hts hi7 hown hK hW (c1 hE) (e1 _ _ _ _ _ _) rfl 3 (Nat.le_of_ble_eq_true rfl) q2 (fun _ h => h) (v := .ref (B 43 0)) rfl dX7_mean_25 ?_
      refine lv_iload_n hx hb dX7_mean_28 rfl (lv_at hl 1 rfl) ?_
      obtain ⟨hi_5, hf⟩ := ck_out hf
      have hi_5 := ib_in hi_5
      refine x_iald hx hb hK hW (c43 hE) (e43 _ _ _ _ _ _) hi_5 (jn := a1.toNatClampNeg) rfl dX7_mean_29 ?_
      obtain ⟨S6, hc, hf⟩ := bd_out hf
      refine y_v (va_runV (As := [.int (gI S 43 0 a1.toNatClampNeg)]) (rest := []) hfix (m_X7_layRule l G B E hE S (gI S 43 0 a1.toNatClampNeg) S6 hc) (cwV 1 hts gX7_mean_X7_layRule rfl rfl rfl ⟨rfl, hd_X7_layRule⟩ ⟨Nat.le_of_ble_eq_true rfl, Nat.le_of_ble_eq_true rfl⟩) (y_pv hF hW hS (c1 hE) (e1 _ _ _ _ _ _) rfl) rfl rfl hl.1 rfl (lv_room (Nat.le_of_ble_eq_true rfl)) dX7_mean_30 ⟨Nat.le_of_ble_eq_true rfl, Nat.le_of_ble_eq_true rfl⟩) hS (fun H locs hW hS => ?_)
      refine lv_aload_n hx hb dX7_mean_33 rfl (lv_at hl 0 rfl) ?_
      refine lv_iload_n hx hb dX7_mean_34 rfl (lv_at hl 1 rfl) ?_
      refine lv_aload_n hx hb dX7_mean_35 rfl (lv_at hl 0 rfl) ?_
      refine x_get hx hb hts hi7 hown hK hW (c1 hE) (e1 _ _ _ _ _ _) rfl 2 (Nat.le_of_ble_eq_true rfl) q3 (fun _ h => h) (v := .ref (B 42 0)) rfl dX7_mean_36 ?_
      refine lv_iload_n hx hb dX7_mean_39 rfl (lv_at hl 1 rfl) ?_
      refine x_iald hx hb hK hW (c42 hE) (e42 _ _ _ _ _ _) hi_5 (jn := a1.toNatClampNeg) rfl dX7_mean_40 ?_
      refine lv_aload_n hx hb dX7_mean_41 rfl (lv_at hl 0 rfl) ?_
      refine x_get hx hb hts hi7 hown hK hW (c1 hE) (e1 _ _ _ _ _ _) rfl 1 (Nat.le_of_ble_eq_true rfl) q4 (fun _ h => h) (v := .ref (B 41 0)) rfl dX7_mean_42 ?_
      refine lv_iload_n hx hb dX7_mean_45 rfl (lv_at hl 1 rfl) ?_
      refine x_iald hx hb hK hW (c41 hE) (e41 _ _ _ _ _ _) hi_5 (jn := a1.toNatClampNeg) rfl dX7_mean_46 ?_
      refine lv_aload_n hx hb dX7_mean_47 rfl (lv_at hl 0 rfl) ?_
      refine x_get hx hb hts hi7 hown hK hW (c1 hE) (e1 _ _ _ _ _ _) rfl 4 (Nat.le_of_ble_eq_true rfl) q5 (fun _ h => h) (v := .ref (B 44 0)) rfl dX7_mean_48 ?_
      refine lv_iload_n hx hb dX7_mean_51 rfl (lv_at hl 1 rfl) ?_
      refine x_iald hx hb hK hW (c44 hE) (e44 _ _ _ _ _ _) hi_5 (jn := a1.toNatClampNeg) rfl dX7_mean_52 ?_
      obtain ⟨r7, S8, hc, hf⟩ := bd2_out hf
      refine y_l (va_runV (As := [.int a1, .int (gI S6 42 0 a1.toNatClampNeg), .int (gI S6 41 0 a1.toNatClampNeg), .int (gI S6 44 0 a1.toNatClampNeg)]) (rest := []) hfix (m_X7_meanOf l G B E hE S6 a1 (gI S6 42 0 a1.toNatClampNeg) (gI S6 41 0 a1.toNatClampNeg) (gI S6 44 0 a1.toNatClampNeg) r7 S8 hc) (cwV 4 hts gX7_mean_X7_meanOf rfl rfl rfl ⟨rfl, hd_X7_meanOf⟩ ⟨Nat.le_of_ble_eq_true rfl, Nat.le_of_ble_eq_true rfl⟩) (y_pv hF hW hS (c1 hE) (e1 _ _ _ _ _ _) rfl) rfl rfl hl.1 rfl (lv_room (Nat.le_of_ble_eq_true rfl)) dX7_mean_53 ⟨Nat.le_of_ble_eq_true rfl, Nat.le_of_ble_eq_true rfl⟩) hS (fun H locs hW hS => ?_)
      refine lv_lstore_n (lv' := [(3, .long r7), (0, .ref (B 1 0)), (1, .int a1), (2, .int a2)]) hx hb dX7_mean_56 rfl hl (by decide) rfl (fun ls hl => ?_)
      refine lv_iload_n hx hb dX7_mean_57 rfl (lv_at hl 3 rfl) ?_
      refine lv_iconst (v := 3) hx hb dX7_mean_58 rfl ?_
      refine lv_icmp_le (tgt := 70) hx hb dX7_mean_59 (by decide) (fun h => ?_) (fun h => ?_)
      · have hf := if_t h hf
        refine lv_lconst (v := 0) hx hb dX7_mean_70 rfl ?_
        exact w71 S8 a1 a2 r7 (0 : Int64)  hf _ _ _ hW hS (lv_sub hl [1, 2, 3, 0] rfl)
      · have hf := if_f h hf
        refine lv_aload_n hx hb dX7_mean_62 rfl (lv_at hl 1 rfl) ?_
        refine lv_iload_n hx hb dX7_mean_63 rfl (lv_at hl 2 rfl) ?_
        obtain ⟨r9, S10, hc, hf⟩ := bd2_out hf
        refine y_l (va_runV (As := [.int a1]) (rest := []) hfix (m_X7_bestOf l G B E hE S8 a1 r9 S10 hc) (cwV 1 hts gX7_mean_X7_bestOf rfl rfl rfl ⟨rfl, hd_X7_bestOf⟩ ⟨Nat.le_of_ble_eq_true rfl, Nat.le_of_ble_eq_true rfl⟩) (y_pv hF hW hS (c1 hE) (e1 _ _ _ _ _ _) rfl) rfl rfl hl.1 rfl (lv_room (Nat.le_of_ble_eq_true rfl)) dX7_mean_64 ⟨Nat.le_of_ble_eq_true rfl, Nat.le_of_ble_eq_true rfl⟩) hS (fun H locs hW hS => ?_)
        refine lv_goto (tgt := 71) hx hb dX7_mean_67 (by decide) ?_
        exact w71 S10 a1 a2 r7 r9  hf _ _ _ hW hS (lv_sub hl [1, 2, 3, 0] rfl)
    · have hf := if_t h hf
      refine lv_ldc2 hx hb hown q1 dX7_mean_19 ?_
      exact z_l hf hx hb hr hF hW hS dX7_mean_22 hlocks
