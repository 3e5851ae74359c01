set_option maxHeartbeats 4000000 in
set_option maxRecDepth 100000 in
theorem m_X7_pushSign (l : Launch) (G : GE) (B : Nat → Nat → Nat) (E : EN) (hE : 0 < E.2.2.2)  (S : ST) (a1 : Int32) (SS : ST) (hf : f_X7_pushSign E S a1 = some SS) : Met l yX7_pushSign wsX7_pushSign (rmN 1) (va_Pc [.ref (B 1 0), .int a1] (WS G B E S)) (QV G B E SS) 0 0 (AA G) := by
  refine Met.ofW (cc := cX7_pushSign) (maxL := 2) (ret := none) (by decide) rfl ?_
  intro p e s m args below meth c s₁ B0 hml hv
  obtain ⟨rfl, hW, hF⟩ := hv
  have hx := B0.exec
  have hb := B0.bytes
  have hr := B0.returns
  have hts := atoms_spec (ws := wsX7_pushSign) B0.pre
  have hown : s.vm.findClass RX7 = some m.cls := findClass_of_methodNamed B0.named
  have hlocks := B0.notSynchronized
  have hK := hF.1
  have hfix : CallFix p m c cX7_pushSign 2 s [.ref (B 1 0), .int a1].toArray wsX7_pushSign RX7 := ⟨hx, hb, hml, hown, hts⟩
  have hS : va_S (AA G) s.heap s.heap [] := va_S.rf
  have hl := lv_entry [.ref (B 1 0), .int a1] (n := 2) (Nat.le_of_ble_eq_true rfl)
  rw [lg_entry_eq]
  generalize (lg_sl [.ref (B 1 0), .int a1] ++ List.replicate (2 - (lg_sl [.ref (B 1 0), .int a1]).length) Slot.unset).toArray = ls at hl ⊢
  have hl : lv_has ls 2 [(0, .ref (B 1 0)), (1, .int a1)] := hl
  have q0 := hts (.fieldLink RX7 92 "MovesUpModel" "waits" "[I") (List.mem_of_getElem? (i := 1) rfl)
  have q1 := hts (.fieldLink RX7 74 "MovesUpModel" "waiting" "I") (List.mem_of_getElem? (i := 2) rfl)
  have hi7 : ∀ w ∈ u_ws RX7 TX7 47, w ∈ wsX7_pushSign := in_seg 3 rfl
  unfold f_X7_pushSign at hf
  refine lv_aload_n hx hb dX7_pushSign_0 rfl (lv_at hl 0 rfl) ?_
  refine x_get hx hb hts hi7 hown hK hW (c1 hE) (e1 _ _ _ _ _ _) rfl 20 (Nat.le_of_ble_eq_true rfl) q0 (fun _ h => h) (v := .ref (B 60 0)) rfl dX7_pushSign_1 ?_
  refine lv_aload_n hx hb dX7_pushSign_4 rfl (lv_at hl 0 rfl) ?_
  refine x_get hx hb hts hi7 hown hK hW (c1 hE) (e1 _ _ _ _ _ _) rfl 14 (Nat.le_of_ble_eq_true rfl) q1 (fun _ h => h) (v := .int (gI S 1 0 14)) rfl dX7_pushSign_5 ?_
  refine lv_iload_n hx hb dX7_pushSign_8 rfl (lv_at hl 1 rfl) ?_
  obtain ⟨hi_1, hf⟩ := ck_out hf
  have hi_1 := ib_in hi_1
  obtain ⟨S2, e_S2, hf⟩ := lt_out hf
  refine x_iast hx hb hK hW hS (c60 hE) (fun f r => e60 _ _ _ f _ r) hi_1 (jn := (gI S 1 0 14).toNatClampNeg) rfl e_S2 dX7_pushSign_9 (fun H locs hW hS => ?_)
  refine lv_aload_n hx hb dX7_pushSign_10 rfl (lv_at hl 0 rfl) ?_
  refine lv_dup hx hb dX7_pushSign_11 rfl ?_
  refine x_get hx hb hts hi7 hown hK hW (c1 hE) (e1 _ _ _ _ _ _) rfl 14 (Nat.le_of_ble_eq_true rfl) q1 (fun _ h => h) (v := .int (gI S2 1 0 14)) rfl dX7_pushSign_12 ?_
  refine lv_iconst (v := 1) hx hb dX7_pushSign_15 rfl ?_
  refine lv_iadd hx hb dX7_pushSign_16 ?_
  obtain ⟨S3, e_S3, hf⟩ := lt_out hf
  refine x_putI hx hb hts hi7 tyX7 tyX7_ok nmX7 hown hK hW hS (c1 hE) (e1 _ _ _) rfl 14 (Nat.le_of_ble_eq_true rfl) q1 (fun _ h => h) rfl (tyX7_ok 14 (Nat.le_of_ble_eq_true rfl)) rfl rfl (Nat.le_of_ble_eq_true rfl) (pu1_14 _ _) e_S3 dX7_pushSign_17 (fun H locs hW hS => ?_)
  exact z_v hf hx hb hr hF hW hS dX7_pushSign_20 hlocks
set_option maxHeartbeats 4000000 in
set_option maxRecDepth 100000 in
theorem m_X7_strength (l : Launch) (G : GE) (B : Nat → Nat → Nat) (E : EN) (hE : 0 < E.2.2.2)  (S : ST) (a1 : Int32) (rr : Int32) (hf : f_X7_strength E S a1 = some rr) : Met l yX7_strength wsX7_strength (rmN 1) (va_Pc [.ref (B 1 0), .int a1] (WS G B E S)) (QI G B E S rr) 0 0 (AA G) := by
  refine Met.ofW (cc := cX7_strength) (maxL := 2) (ret := (some .int)) (by decide) rfl ?_
  intro p e s m args below meth c s₁ B0 hml hv
  obtain ⟨rfl, hW, hF⟩ := hv
  have hx := B0.exec
  have hb := B0.bytes
  have hr := B0.returns
  have hts := atoms_spec (ws := wsX7_strength) B0.pre
  have hown : s.vm.findClass RX7 = some m.cls := findClass_of_methodNamed B0.named
  have hlocks := B0.notSynchronized
  have hK := hF.1
  have hfix : CallFix p m c cX7_strength 2 s [.ref (B 1 0), .int a1].toArray wsX7_strength RX7 := ⟨hx, hb, hml, hown, hts⟩
  have hS : va_S (AA G) s.heap s.heap [] := va_S.rf
  have hl := lv_entry [.ref (B 1 0), .int a1] (n := 2) (Nat.le_of_ble_eq_true rfl)
  rw [lg_entry_eq]
  generalize (lg_sl [.ref (B 1 0), .int a1] ++ List.replicate (2 - (lg_sl [.ref (B 1 0), .int a1]).length) Slot.unset).toArray = ls at hl ⊢
  have hl : lv_has ls 2 [(0, .ref (B 1 0)), (1, .int a1)] := hl
  have w38 : ∀ (_ : Unit)  , f_X7_strength_b38 E S  = some rr → ∀ (H : Heap) (locs : List Loc) (ls : Array Slot), WH G B E S H → va_S (AA G) s.heap H locs → lv_has ls 2 [] → W p l e (headSpec wsX7_strength (rmN 1)).room s m [.ref (B 1 0), .int a1].toArray below meth c H locs 0 0 (MQ below (QI G B E S rr) [.ref (B 1 0), .int a1].toArray s 0 0 (AA G)) (F0 m 38 ls []) := by
    intro _  hf H locs ls hW hS hl
    unfold f_X7_strength_b38 at hf
    refine lv_iconst (v := 4) hx hb dX7_strength_38 rfl ?_
    refine lv_goto (tgt := 81) hx hb dX7_strength_39 (by decide) ?_
    exact zr_i hf hx hb hr rfl hF hW hS dX7_strength_81 hlocks
  have w54 : ∀ (_ : Unit)  , f_X7_strength_b54 E S  = some rr → ∀ (H : Heap) (locs : List Loc) (ls : Array Slot), WH G B E S H → va_S (AA G) s.heap H locs → lv_has ls 2 [] → W p l e (headSpec wsX7_strength (rmN 1)).room s m [.ref (B 1 0), .int a1].toArray below meth c H locs 0 0 (MQ below (QI G B E S rr) [.ref (B 1 0), .int a1].toArray s 0 0 (AA G)) (F0 m 54 ls []) := by
    intro _  hf H locs ls hW hS hl
    unfold f_X7_strength_b54 at hf
    refine lv_iconst (v := 5) hx hb dX7_strength_54 rfl ?_
    refine lv_goto (tgt := 81) hx hb dX7_strength_55 (by decide) ?_
    exact zr_i hf hx hb hr rfl hF hW hS dX7_strength_81 hlocks
  unfold f_X7_strength at hf
  refine lv_iload_n hx hb dX7_strength_0 rfl (lv_at hl 1 rfl) ?_
  refine lv_iconst (v := 2) hx hb dX7_strength_1 rfl ?_
  refine lv_icmp_ne (tgt := 9) hx hb dX7_strength_2 (by decide) (fun h => ?_) (fun h => ?_)
  · have hf := if_f h hf
    refine lv_iload_n hx hb dX7_strength_9 rfl (lv_at hl 1 rfl) ?_
    refine lv_iconst (v := 3) hx hb dX7_strength_10 rfl ?_
    refine lv_icmp_ne (tgt := 18) hx hb dX7_strength_11 (by decide) (fun h => ?_) (fun h => ?_)
    · have hf := if_f h hf
      refine lv_iload_n hx hb dX7_strength_18 rfl (lv_at hl 1 rfl) ?_
      refine lv_iconst (v := 4) hx hb dX7_strength_19 rfl ?_
      refine lv_icmp_ne (tgt := 27) hx hb dX7_strength_20 (by decide) (fun h => ?_) (fun h => ?_)
      · have hf := if_f h hf
        refine lv_iload_n hx hb dX7_strength_27 rfl (lv_at hl 1 rfl) ?_
        refine lv_iconst (v := 5) hx hb dX7_strength_28 rfl ?_
        refine lv_icmp_eq (tgt := 38) hx hb dX7_strength_29 (by decide) (fun h => ?_) (fun h => ?_)
        · have hf := if_t h hf
          exact w38 ()  hf _ _ _ hW hS (lv_sub hl [] rfl)
        · have hf := if_f h hf
          refine lv_iload_n hx hb dX7_strength_32 rfl (lv_at hl 1 rfl) ?_
          refine lv_bipush (v := 6) hx hb dX7_strength_33 (by decide) ?_
          refine lv_icmp_ne (tgt := 42) hx hb dX7_strength_35 (by decide) (fun h => ?_) (fun h => ?_)
          · have hf := if_f h hf
            refine lv_iload_n hx hb dX7_strength_42 rfl (lv_at hl 1 rfl) ?_
            refine lv_bipush (v := 7) hx hb dX7_strength_43 (by decide) ?_
            refine lv_icmp_eq (tgt := 54) hx hb dX7_strength_45 (by decide) (fun h => ?_) (fun h => ?_)
            · have hf := if_t h hf
              exact w54 ()  hf _ _ _ hW hS (lv_sub hl [] rfl)
            · have hf := if_f h hf
              refine lv_iload_n hx hb dX7_strength_48 rfl (lv_at hl 1 rfl) ?_
              refine lv_bipush (v := 8) hx hb dX7_strength_49 (by decide) ?_
              refine lv_icmp_ne (tgt := 58) hx hb dX7_strength_51 (by decide) (fun h => ?_) (fun h => ?_)
              · have hf := if_f h hf
                refine lv_iload_n hx hb dX7_strength_58 rfl (lv_at hl 1 rfl) ?_
                refine lv_bipush (v := 9) hx hb dX7_strength_59 (by decide) ?_
                refine lv_icmp_ne (tgt := 69) hx hb dX7_strength_61 (by decide) (fun h => ?_) (fun h => ?_)
                · have hf := if_f h hf
                  refine lv_iload_n hx hb dX7_strength_69 rfl (lv_at hl 1 rfl) ?_
                  refine lv_bipush (v := 10) hx hb dX7_strength_70 (by decide) ?_
                  refine lv_icmp_ne (tgt := 80) hx hb dX7_strength_72 (by decide) (fun h => ?_) (fun h => ?_)
                  · have hf := if_f h hf
                    refine lv_iconst (v := 0) hx hb dX7_strength_80 rfl ?_
                    exact zr_i hf hx hb hr rfl hF hW hS dX7_strength_81 hlocks
                  · have hf := if_t h hf
                    refine lv_bipush (v := 7) hx hb dX7_strength_75 (by decide) ?_
                    refine lv_goto (tgt := 81) hx hb dX7_strength_77 (by decide) ?_
                    exact zr_i hf hx hb hr rfl hF hW hS dX7_strength_81 hlocks
                · have hf := if_t h hf
                  refine lv_bipush (v := 6) hx hb dX7_strength_64 (by decide) ?_
                  refine lv_goto (tgt := 81) hx hb dX7_strength_66 (by decide) ?_
                  exact zr_i hf hx hb hr rfl hF hW hS dX7_strength_81 hlocks
              · have hf := if_t h hf
                exact w54 ()  hf _ _ _ hW hS (lv_sub hl [] rfl)
          · have hf := if_t h hf
            exact w38 ()  hf _ _ _ hW hS (lv_sub hl [] rfl)
      · have hf := if_t h hf
        refine lv_iconst (v := 3) hx hb dX7_strength_23 rfl ?_
        refine lv_goto (tgt := 81) hx hb dX7_strength_24 (by decide) ?_
        exact zr_i hf hx hb hr rfl hF hW hS dX7_strength_81 hlocks
    · have hf := if_t h hf
      refine lv_iconst (v := 2) hx hb dX7_strength_14 rfl ?_
      refine lv_goto (tgt := 81) hx hb dX7_strength_15 (by decide) ?_
      exact zr_i hf hx hb hr rfl hF hW hS dX7_strength_81 hlocks
  · have hf := if_t h hf
    refine lv_iconst (v := 1) hx hb dX7_strength_5 rfl ?_
    refine lv_goto (tgt := 81) hx hb dX7_strength_6 (by decide) ?_
    exact zr_i hf hx hb hr rfl hF hW hS dX7_strength_81 hlocks
set_option maxHeartbeats 4000000 in
set_option maxRecDepth 100000 in
theorem m_X7_settle (l : Launch) (G : GE) (B : Nat → Nat → Nat) (E : EN) (hE : 0 < E.2.2.2)  (S : ST) (a1 : Int32) (SS : ST) (hf : f_X7_settle E S a1 = some SS) : Met l yX7_settle wsX7_settle (rmN 2) (va_Pc [.ref (B 1 0), .int a1] (WS G B E S)) (QV G B E SS) 0 0 (AA G) := by
  refine Met.ofW (cc := cX7_settle) (maxL := 3) (ret := none) (by decide) rfl ?_
  intro p e s m args below meth c s₁ B0 hml hv
  obtain ⟨rfl, hW, hF⟩ := hv
  have hx := B0.exec
  have hb := B0.bytes
  have hr := B0.returns
  have hts := atoms_spec (ws := wsX7_settle) B0.pre
  have hown : s.vm.findClass RX7 = some m.cls := findClass_of_methodNamed B0.named
  have hlocks := B0.notSynchronized
  have hK := hF.1
  have hfix : CallFix p m c cX7_settle 3 s [.ref (B 1 0), .int a1].toArray wsX7_settle RX7 := ⟨hx, hb, hml, hown, hts⟩
  have hS : va_S (AA G) s.heap s.heap [] := va_S.rf
  have hl := lv_entry [.ref (B 1 0), .int a1] (n := 3) (Nat.le_of_ble_eq_true rfl)
  rw [lg_entry_eq]
  generalize (lg_sl [.ref (B 1 0), .int a1] ++ List.replicate (3 - (lg_sl [.ref (B 1 0), .int a1]).length) Slot.unset).toArray = ls at hl ⊢
  have hl : lv_has ls 3 [(0, .ref (B 1 0)), (1, .int a1)] := hl
  have q0 := hts (.fieldLink RX7 71 "MovesUpModel" "open" "I") (List.mem_of_getElem? (i := 3) rfl)
  have q1 := hts (.fieldLink RX7 74 "MovesUpModel" "waiting" "I") (List.mem_of_getElem? (i := 1) rfl)
  have q2 := hts (.fieldLink RX7 92 "MovesUpModel" "waits" "[I") (List.mem_of_getElem? (i := 2) rfl)
  have hi7 : ∀ w ∈ u_ws RX7 TX7 47, w ∈ wsX7_settle := in_seg 20 rfl
  have w0 : ∀ (n0 : Nat) (S : ST) (v1 : Int32) , f_X7_settle_b0 E n0 S v1 = some SS → ∀ (H : Heap) (locs : List Loc) (ls : Array Slot), WH G B E S H → va_S (AA G) s.heap H locs → lv_has ls 3 [(0, .ref (B 1 0)), (1, .int v1)] → W p l e (headSpec wsX7_settle (rmN 2)).room s m [.ref (B 1 0), .int a1].toArray below meth c H locs 0 0 (MQ below (QV G B E SS) [.ref (B 1 0), .int a1].toArray s 0 0 (AA G)) (F0 m 0 ls []) := by
    intro n0
    induction n0 with
    | zero =>
      intro S v1 hf
      exact absurd (show (none : Option ST) = some SS from hf) (fun h => by cases h)
    | succ n0 ih0 =>
      have w60 : ∀ (S : ST) (v1 : Int32) (v2 : Int32) (t0 : Int32) (t1 : Int32) , f_X7_settle_b60 E (f_X7_settle_b0 E n0) S v1 v2 t0 t1 = some SS → ∀ (H : Heap) (locs : List Loc) (ls : Array Slot), WH G B E S H → va_S (AA G) s.heap H locs → lv_has ls 3 [(0, .ref (B 1 0)), (1, .int v1), (2, .int v2)] → W p l e (headSpec wsX7_settle (rmN 2)).room s m [.ref (B 1 0), .int a1].toArray below meth c H locs 0 0 (MQ below (QV G B E SS) [.ref (B 1 0), .int a1].toArray s 0 0 (AA G)) (F0 m 60 ls [.int t0, .int t1, .ref (B 1 0)]) := by
        intro S v1 v2 t0 t1 hf H locs ls hW hS hl
        unfold f_X7_settle_b60 at hf
        refine lv_isub hx hb dX7_settle_60 ?_
        obtain ⟨S1, e_S1, hf⟩ := lt_out hf
        refine x_putI hx hb hts hi7 tyX7 tyX7_ok nmX7 hown hK hW hS (c1 hE) (e1 _ _ _) rfl 13 (Nat.le_of_ble_eq_true rfl) q0 (fun _ h => h) rfl (tyX7_ok 13 (Nat.le_of_ble_eq_true rfl)) rfl rfl (Nat.le_of_ble_eq_true rfl) (pu1_13 _ _) e_S1 dX7_settle_61 (fun H locs hW hS => ?_)
        refine lv_aload_n hx hb dX7_settle_64 rfl (lv_at hl 0 rfl) ?_
        refine lv_iload_n hx hb dX7_settle_65 rfl (lv_at hl 2 rfl) ?_
        refine lv_iconst (v := 0) hx hb dX7_settle_66 rfl ?_
        obtain ⟨S2, hc, hf⟩ := bd_out hf
        refine y_v (va_runV (As := [.int v2, .int (0 : Int32)]) (rest := []) hfix (m_X7_put l G B E hE S1 v2 (0 : Int32) S2 hc) (cwV 2 hts gX7_settle_X7_put rfl rfl rfl ⟨rfl, hd_X7_put⟩ ⟨Nat.le_of_ble_eq_true rfl, Nat.le_of_ble_eq_true rfl⟩) (y_pv hF hW hS (c1 hE) (e1 _ _ _ _ _ _) rfl) rfl rfl hl.1 rfl (lv_room (Nat.le_of_ble_eq_true rfl)) dX7_settle_67 ⟨Nat.le_of_ble_eq_true rfl, Nat.le_of_ble_eq_true rfl⟩) hS (fun H locs hW hS => ?_)
        refine lv_goto (tgt := 0) hx hb dX7_settle_70 (by decide) ?_
        exact ih0 S2 v1  hf _ _ _ hW hS (lv_sub hl [0, 1] rfl)
      have w55 : ∀ (S : ST) (v1 : Int32) (v2 : Int32) (t0 : Int32) , f_X7_settle_b55 E (f_X7_settle_b0 E n0) S v1 v2 t0 = some SS → ∀ (H : Heap) (locs : List Loc) (ls : Array Slot), WH G B E S H → va_S (AA G) s.heap H locs → lv_has ls 3 [(0, .ref (B 1 0)), (1, .int v1), (2, .int v2)] → W p l e (headSpec wsX7_settle (rmN 2)).room s m [.ref (B 1 0), .int a1].toArray below meth c H locs 0 0 (MQ below (QV G B E SS) [.ref (B 1 0), .int a1].toArray s 0 0 (AA G)) (F0 m 55 ls [.int t0, .ref (B 1 0)]) := by
        intro S v1 v2 t0 hf H locs ls hW hS hl
        unfold f_X7_settle_b55 at hf
        refine lv_iconst (v := 1) hx hb dX7_settle_55 rfl ?_
        refine lv_goto (tgt := 60) hx hb dX7_settle_56 (by decide) ?_
        exact w60 S v1 v2 (1 : Int32) t0  hf _ _ _ hW hS (lv_sub hl [0, 1, 2] rfl)
      intro S v1 hf H locs ls hW hS hl
      have hf : g_X7_settle_b0 E (f_X7_settle_b0 E n0) S v1 = some SS := hf
      unfold g_X7_settle_b0 at hf
      refine lv_aload_n hx hb dX7_settle_0 rfl (lv_at hl 0 rfl) ?_
      refine x_get hx hb hts hi7 hown hK hW (c1 hE) (e1 _ _ _ _ _ _) rfl 14 (Nat.le_of_ble_eq_true rfl) q1 (fun _ h => h) (v := .int (gI S 1 0 14)) rfl dX7_settle_1 ?_
      refine lv_if_le (tgt := 73) hx hb dX7_settle_4 (by decide) (fun h => ?_) (fun h => ?_)
      · have hf := if_t h hf
        exact z_v hf hx hb hr hF hW hS dX7_settle_73 hlocks
      · have hf := if_f h hf
        refine lv_aload_n hx hb dX7_settle_7 rfl (lv_at hl 0 rfl) ?_
        refine lv_aload_n hx hb dX7_settle_8 rfl (lv_at hl 0 rfl) ?_
        obtain ⟨r3, hc, hf⟩ := bd_out hf
        refine y_i (va_runV (As := []) (rest := [.ref (B 1 0)]) hfix (m_X7_top l G B E hE S  r3 hc) (cwV 0 hts gX7_settle_X7_top rfl rfl rfl ⟨rfl, hd_X7_top⟩ ⟨Nat.le_of_ble_eq_true rfl, Nat.le_of_ble_eq_true rfl⟩) (y_pv hF hW hS (c1 hE) (e1 _ _ _ _ _ _) rfl) rfl rfl hl.1 rfl (lv_room (Nat.le_of_ble_eq_true rfl)) dX7_settle_9 ⟨Nat.le_of_ble_eq_true rfl, Nat.le_of_ble_eq_true rfl⟩) hS (fun H locs hW hS => ?_)
        obtain ⟨r4, hc, hf⟩ := bd_out hf
        refine y_i (va_runV (As := [.int r3]) (rest := []) hfix (m_X7_strength l G B E hE S r3 r4 hc) (cwV 1 hts gX7_settle_X7_strength rfl rfl rfl ⟨rfl, hd_X7_strength⟩ ⟨Nat.le_of_ble_eq_true rfl, Nat.le_of_ble_eq_true rfl⟩) (y_pv hF hW hS (c1 hE) (e1 _ _ _ _ _ _) rfl) rfl rfl hl.1 rfl (lv_room (Nat.le_of_ble_eq_true rfl)) dX7_settle_12 ⟨Nat.le_of_ble_eq_true rfl, Nat.le_of_ble_eq_true rfl⟩) hS (fun H locs hW hS => ?_)
        refine lv_iload_n hx hb dX7_settle_15 rfl (lv_at hl 1 rfl) ?_
        refine lv_icmp_lt (tgt := 73) hx hb dX7_settle_16 (by decide) (fun h => ?_) (fun h => ?_)
        · have hf := if_t h hf
          exact z_v hf hx hb hr hF hW hS dX7_settle_73 hlocks
        · have hf := if_f h hf
          refine lv_aload_n hx hb dX7_settle_19 rfl (lv_at hl 0 rfl) ?_
          refine lv_dup hx hb dX7_settle_20 rfl ?_
          refine x_get hx hb hts hi7 hown hK hW (c1 hE) (e1 _ _ _ _ _ _) rfl 14 (Nat.le_of_ble_eq_true rfl) q1 (fun _ h => h) (v := .int (gI S 1 0 14)) rfl dX7_settle_21 ?_
          refine lv_iconst (v := 1) hx hb dX7_settle_24 rfl ?_
          refine lv_isub hx hb dX7_settle_25 ?_
          obtain ⟨S5, e_S5, hf⟩ := lt_out hf
          refine x_putI hx hb hts hi7 tyX7 tyX7_ok nmX7 hown hK hW hS (c1 hE) (e1 _ _ _) rfl 14 (Nat.le_of_ble_eq_true rfl) q1 (fun _ h => h) rfl (tyX7_ok 14 (Nat.le_of_ble_eq_true rfl)) rfl rfl (Nat.le_of_ble_eq_true rfl) (pu1_14 _ _) e_S5 dX7_settle_26 (fun H locs hW hS => ?_)
          refine lv_aload_n hx hb dX7_settle_29 rfl (lv_at hl 0 rfl) ?_
          refine x_get hx hb hts hi7 hown hK hW (c1 hE) (e1 _ _ _ _ _ _) rfl 20 (Nat.le_of_ble_eq_true rfl) q2 (fun _ h => h) (v := .ref (B 60 0)) rfl dX7_settle_30 ?_
          refine lv_aload_n hx hb dX7_settle_33 rfl (lv_at hl 0 rfl) ?_
          refine x_get hx hb hts hi7 hown hK hW (c1 hE) (e1 _ _ _ _ _ _) rfl 14 (Nat.le_of_ble_eq_true rfl) q1 (fun _ h => h) (v := .int (gI S5 1 0 14)) rfl dX7_settle_34 ?_
          obtain ⟨hi_6, hf⟩ := ck_out hf
          have hi_6 := ib_in hi_6
          refine x_iald hx hb hK hW (c60 hE) (e60 _ _ _ _ _ _) hi_6 (jn := (gI S5 1 0 14).toNatClampNeg) rfl dX7_settle_37 ?_
          obtain ⟨x7, e_x7, hf⟩ := lt_out hf
          refine x_nmI e_x7 ?_
          refine lv_istore_n (lv' := [(2, .int x7), (0, .ref (B 1 0)), (1, .int v1)]) hx hb dX7_settle_38 rfl hl (by decide) rfl (fun ls hl => ?_)
          refine lv_aload_n hx hb dX7_settle_39 rfl (lv_at hl 1 rfl) ?_
          refine lv_dup hx hb dX7_settle_40 rfl ?_
          refine x_get hx hb hts hi7 hown hK hW (c1 hE) (e1 _ _ _ _ _ _) rfl 13 (Nat.le_of_ble_eq_true rfl) q0 (fun _ h => h) (v := .int (gI S5 1 0 13)) rfl dX7_settle_41 ?_
          refine lv_iload_n hx hb dX7_settle_44 rfl (lv_at hl 0 rfl) ?_
          refine lv_iconst (v := 4) hx hb dX7_settle_45 rfl ?_
          refine lv_icmp_eq (tgt := 55) hx hb dX7_settle_46 (by decide) (fun h => ?_) (fun h => ?_)
          · have hf := if_t h hf
            exact w55 S5 v1 x7 (gI S5 1 0 13)  hf _ _ _ hW hS (lv_sub hl [1, 2, 0] rfl)
          · have hf := if_f h hf
            refine lv_iload_n hx hb dX7_settle_49 rfl (lv_at hl 0 rfl) ?_
            refine lv_bipush (v := 10) hx hb dX7_settle_50 (by decide) ?_
            refine lv_icmp_ne (tgt := 59) hx hb dX7_settle_52 (by decide) (fun h => ?_) (fun h => ?_)
            · have hf := if_f h hf
              refine lv_iconst (v := 0) hx hb dX7_settle_59 rfl ?_
              exact w60 S5 v1 x7 (0 : Int32) (gI S5 1 0 13)  hf _ _ _ hW hS (lv_sub hl [1, 2, 0] rfl)
            · have hf := if_t h hf
              exact w55 S5 v1 x7 (gI S5 1 0 13)  hf _ _ _ hW hS (lv_sub hl [1, 2, 0] rfl)
  unfold f_X7_settle at hf
  exact w0 E.1 S a1  hf _ _ _ hW hS (lv_sub hl [0, 1] rfl)
set_option maxHeartbeats 4000000 in
set_option maxRecDepth 100000 in
theorem m_X7_opens (l : Launch) (G : GE) (B : Nat → Nat → Nat) (E : EN) (hE : 0 < E.2.2.2)  (S : ST) (a1 : Int32) (rr : Int32) (SS : ST) (hf : f_X7_opens E S a1 = some (rr, SS)) : Met l yX7_opens wsX7_opens (rmN 2) (va_Pc [.ref (B 1 0), .int a1] (WS G B E S)) (QI G B E SS rr) 0 0 (AA G) := by
  refine Met.ofW (cc := cX7_opens) (maxL := 2) (ret := (some .boolean)) (by decide) rfl ?_
  intro p e s m args below meth c s₁ B0 hml hv
  obtain ⟨rfl, hW, hF⟩ := hv
  have hx := B0.exec
  have hb := B0.bytes
  have hr := B0.returns
  have hts := atoms_spec (ws := wsX7_opens) B0.pre
  have hown : s.vm.findClass RX7 = some m.cls := findClass_of_methodNamed B0.named
  have hlocks := B0.notSynchronized
  have hK := hF.1
  have hfix : CallFix p m c cX7_opens 2 s [.ref (B 1 0), .int a1].toArray wsX7_opens RX7 := ⟨hx, hb, hml, hown, hts⟩
  have hS : va_S (AA G) s.heap s.heap [] := va_S.rf
  have hl := lv_entry [.ref (B 1 0), .int a1] (n := 2) (Nat.le_of_ble_eq_true rfl)
  rw [lg_entry_eq]
  generalize (lg_sl [.ref (B 1 0), .int a1] ++ List.replicate (2 - (lg_sl [.ref (B 1 0), .int a1]).length) Slot.unset).toArray = ls at hl ⊢
  have hl : lv_has ls 2 [(0, .ref (B 1 0)), (1, .int a1)] := hl
  have q0 := hts (.fieldLink RX7 71 "MovesUpModel" "open" "I") (List.mem_of_getElem? (i := 1) rfl)
  have hi7 : ∀ w ∈ u_ws RX7 TX7 47, w ∈ wsX7_opens := in_seg 9 rfl
  unfold f_X7_opens at hf
  refine lv_aload_n hx hb dX7_opens_0 rfl (lv_at hl 0 rfl) ?_
  refine x_get hx hb hts hi7 hown hK hW (c1 hE) (e1 _ _ _ _ _ _) rfl 13 (Nat.le_of_ble_eq_true rfl) q0 (fun _ h => h) (v := .int (gI S 1 0 13)) rfl dX7_opens_1 ?_
  refine lv_iconst (v := 5) hx hb dX7_opens_4 rfl ?_
  refine lv_icmp_ne (tgt := 10) hx hb dX7_opens_5 (by decide) (fun h => ?_) (fun h => ?_)
  · have hf := if_f h hf
    refine lv_aload_n hx hb dX7_opens_10 rfl (lv_at hl 0 rfl) ?_
    refine lv_dup hx hb dX7_opens_11 rfl ?_
    refine x_get hx hb hts hi7 hown hK hW (c1 hE) (e1 _ _ _ _ _ _) rfl 13 (Nat.le_of_ble_eq_true rfl) q0 (fun _ h => h) (v := .int (gI S 1 0 13)) rfl dX7_opens_12 ?_
    refine lv_iconst (v := 1) hx hb dX7_opens_15 rfl ?_
    refine lv_iadd hx hb dX7_opens_16 ?_
    obtain ⟨S1, e_S1, hf⟩ := lt_out hf
    refine x_putI hx hb hts hi7 tyX7 tyX7_ok nmX7 hown hK hW hS (c1 hE) (e1 _ _ _) rfl 13 (Nat.le_of_ble_eq_true rfl) q0 (fun _ h => h) rfl (tyX7_ok 13 (Nat.le_of_ble_eq_true rfl)) rfl rfl (Nat.le_of_ble_eq_true rfl) (pu1_13 _ _) e_S1 dX7_opens_17 (fun H locs hW hS => ?_)
    refine lv_aload_n hx hb dX7_opens_20 rfl (lv_at hl 0 rfl) ?_
    refine lv_iload_n hx hb dX7_opens_21 rfl (lv_at hl 1 rfl) ?_
    obtain ⟨S2, hc, hf⟩ := bd_out hf
    refine y_v (va_runV (As := [.int a1]) (rest := []) hfix (m_X7_pushSign l G B E hE S1 a1 S2 hc) (cwV 1 hts gX7_opens_X7_pushSign rfl rfl rfl ⟨rfl, hd_X7_pushSign⟩ ⟨Nat.le_of_ble_eq_true rfl, Nat.le_of_ble_eq_true rfl⟩) (y_pv hF hW hS (c1 hE) (e1 _ _ _ _ _ _) rfl) rfl rfl hl.1 rfl (lv_room (Nat.le_of_ble_eq_true rfl)) dX7_opens_22 ⟨Nat.le_of_ble_eq_true rfl, Nat.le_of_ble_eq_true rfl⟩) hS (fun H locs hW hS => ?_)
    refine lv_iconst (v := 1) hx hb dX7_opens_25 rfl ?_
    exact z_i hf hx hb hr rfl hF hW hS dX7_opens_26 hlocks
  · have hf := if_t h hf
    refine lv_iconst (v := 0) hx hb dX7_opens_8 rfl ?_
    exact z_i hf hx hb hr rfl hF hW hS dX7_opens_9 hlocks
set_option maxHeartbeats 4000000 in
set_option maxRecDepth 100000 in
theorem m_X7_takesOne (l : Launch) (G : GE) (B : Nat → Nat → Nat) (E : EN) (hE : 0 < E.2.2.2)  (S : ST) (a1 : Int32) (rr : Int32) (SS : ST) (hf : f_X7_takesOne E S a1 = some (rr, SS)) : Met l yX7_takesOne wsX7_takesOne (rmN 3) (va_Pc [.ref (B 1 0), .int a1] (WS G B E S)) (QI G B E SS rr) 0 0 (AA G) := by
  refine Met.ofW (cc := cX7_takesOne) (maxL := 2) (ret := (some .int)) (by decide) rfl ?_
  intro p e s m args below meth c s₁ B0 hml hv
  obtain ⟨rfl, hW, hF⟩ := hv
  have hx := B0.exec
  have hb := B0.bytes
  have hr := B0.returns
  have hts := atoms_spec (ws := wsX7_takesOne) B0.pre
  have hown : s.vm.findClass RX7 = some m.cls := findClass_of_methodNamed B0.named
  have hlocks := B0.notSynchronized
  have hK := hF.1
  have hfix : CallFix p m c cX7_takesOne 2 s [.ref (B 1 0), .int a1].toArray wsX7_takesOne RX7 := ⟨hx, hb, hml, hown, hts⟩
  have hS : va_S (AA G) s.heap s.heap [] := va_S.rf
  have hl := lv_entry [.ref (B 1 0), .int a1] (n := 2) (Nat.le_of_ble_eq_true rfl)
  rw [lg_entry_eq]
  generalize (lg_sl [.ref (B 1 0), .int a1] ++ List.replicate (2 - (lg_sl [.ref (B 1 0), .int a1]).length) Slot.unset).toArray = ls at hl ⊢
  have hl : lv_has ls 2 [(0, .ref (B 1 0)), (1, .int a1)] := hl
  have q0 := hts (.fieldLink RX7 62 "MovesUpModel" "token" "I") (List.mem_of_getElem? (i := 1) rfl)
  have q1 := hts (.fieldLink RX7 65 "MovesUpModel" "word" "I") (List.mem_of_getElem? (i := 2) rfl)
  have hi7 : ∀ w ∈ u_ws RX7 TX7 47, w ∈ wsX7_takesOne := in_seg 48 rfl
  have w64 : ∀ (S : ST) (t0 : Int32) (t1 : Int32) , f_X7_takesOne_b64 E S t0 t1 = some (rr, SS) → ∀ (H : Heap) (locs : List Loc) (ls : Array Slot), WH G B E S H → va_S (AA G) s.heap H locs → lv_has ls 2 [(0, .ref (B 1 0))] → W p l e (headSpec wsX7_takesOne (rmN 3)).room s m [.ref (B 1 0), .int a1].toArray below meth c H locs 0 0 (MQ below (QI G B E SS rr) [.ref (B 1 0), .int a1].toArray s 0 0 (AA G)) (F0 m 64 ls [.int t0, .int t1, .ref (B 1 0)]) := by
    intro S t0 t1 hf H locs ls hW hS hl
    unfold f_X7_takesOne_b64 at hf
    obtain ⟨S1, hc, hf⟩ := bd_out hf
    refine y_v (va_runV (As := [.int t1, .int t0]) (rest := []) hfix (m_X7_put l G B E hE S t1 t0 S1 hc) (cwV 2 hts gX7_takesOne_X7_put rfl rfl rfl ⟨rfl, hd_X7_put⟩ ⟨Nat.le_of_ble_eq_true rfl, Nat.le_of_ble_eq_true rfl⟩) (y_pv hF hW hS (c1 hE) (e1 _ _ _ _ _ _) rfl) rfl rfl hl.1 rfl (lv_room (Nat.le_of_ble_eq_true rfl)) dX7_takesOne_64 ⟨Nat.le_of_ble_eq_true rfl, Nat.le_of_ble_eq_true rfl⟩) hS (fun H locs hW hS => ?_)
    refine lv_aload_n hx hb dX7_takesOne_67 rfl (lv_at hl 0 rfl) ?_
    refine lv_bipush (v := 7) hx hb dX7_takesOne_68 (by decide) ?_
    obtain ⟨S2, hc, hf⟩ := bd_out hf
    refine y_v (va_runV (As := [.int (7 : Int32)]) (rest := []) hfix (m_X7_settle l G B E hE S1 (7 : Int32) S2 hc) (cwV 1 hts gX7_takesOne_X7_settle rfl rfl rfl ⟨rfl, hd_X7_settle⟩ ⟨Nat.le_of_ble_eq_true rfl, Nat.le_of_ble_eq_true rfl⟩) (y_pv hF hW hS (c1 hE) (e1 _ _ _ _ _ _) rfl) rfl rfl hl.1 rfl (lv_room (Nat.le_of_ble_eq_true rfl)) dX7_takesOne_70 ⟨Nat.le_of_ble_eq_true rfl, Nat.le_of_ble_eq_true rfl⟩) hS (fun H locs hW hS => ?_)
    refine lv_iconst (v := 2) hx hb dX7_takesOne_73 rfl ?_
    exact z_i hf hx hb hr rfl hF hW hS dX7_takesOne_74 hlocks
  have w41 : ∀ (S : ST) (t0 : Int32) , f_X7_takesOne_b41 E S t0 = some (rr, SS) → ∀ (H : Heap) (locs : List Loc) (ls : Array Slot), WH G B E S H → va_S (AA G) s.heap H locs → lv_has ls 2 [(0, .ref (B 1 0))] → W p l e (headSpec wsX7_takesOne (rmN 3)).room s m [.ref (B 1 0), .int a1].toArray below meth c H locs 0 0 (MQ below (QI G B E SS rr) [.ref (B 1 0), .int a1].toArray s 0 0 (AA G)) (F0 m 41 ls [.int t0, .ref (B 1 0)]) := by
    intro S t0 hf H locs ls hW hS hl
    unfold f_X7_takesOne_b41 at hf
    refine lv_aload_n hx hb dX7_takesOne_41 rfl (lv_at hl 0 rfl) ?_
    refine x_get hx hb hts hi7 hown hK hW (c1 hE) (e1 _ _ _ _ _ _) rfl 10 (Nat.le_of_ble_eq_true rfl) q0 (fun _ h => h) (v := .int (gI S 1 0 10)) rfl dX7_takesOne_42 ?_
    refine lv_iconst (v := 1) hx hb dX7_takesOne_45 rfl ?_
    refine lv_icmp_ne (tgt := 56) hx hb dX7_takesOne_46 (by decide) (fun h => ?_) (fun h => ?_)
    · have hf := if_f h hf
      refine lv_aload_n hx hb dX7_takesOne_56 rfl (lv_at hl 0 rfl) ?_
      refine lv_aload_n hx hb dX7_takesOne_57 rfl (lv_at hl 0 rfl) ?_
      refine x_get hx hb hts hi7 hown hK hW (c1 hE) (e1 _ _ _ _ _ _) rfl 11 (Nat.le_of_ble_eq_true rfl) q1 (fun _ h => h) (v := .int (gI S 1 0 11)) rfl dX7_takesOne_58 ?_
      obtain ⟨r3, hc, hf⟩ := bd_out hf
      refine y_i (va_runV (As := [.int (gI S 1 0 11)]) (rest := [.int t0, .ref (B 1 0)]) hfix (m_X7_nameOf l G B E hE S (gI S 1 0 11) r3 hc) (cwV 1 hts gX7_takesOne_X7_nameOf rfl rfl rfl ⟨rfl, hd_X7_nameOf⟩ ⟨Nat.le_of_ble_eq_true rfl, Nat.le_of_ble_eq_true rfl⟩) (y_pv hF hW hS (c1 hE) (e1 _ _ _ _ _ _) rfl) rfl rfl hl.1 rfl (lv_room (Nat.le_of_ble_eq_true rfl)) dX7_takesOne_61 ⟨Nat.le_of_ble_eq_true rfl, Nat.le_of_ble_eq_true rfl⟩) hS (fun H locs hW hS => ?_)
      exact w64 S r3 t0  hf _ _ _ hW hS (lv_sub hl [0] rfl)
    · have hf := if_t h hf
      refine lv_aload_n hx hb dX7_takesOne_49 rfl (lv_at hl 0 rfl) ?_
      refine x_get hx hb hts hi7 hown hK hW (c1 hE) (e1 _ _ _ _ _ _) rfl 11 (Nat.le_of_ble_eq_true rfl) q1 (fun _ h => h) (v := .int (gI S 1 0 11)) rfl dX7_takesOne_50 ?_
      refine lv_goto (tgt := 64) hx hb dX7_takesOne_53 (by decide) ?_
      exact w64 S (gI S 1 0 11) t0  hf _ _ _ hW hS (lv_sub hl [0] rfl)
  have w27 : ∀ (S : ST)  , f_X7_takesOne_b27 E S  = some (rr, SS) → ∀ (H : Heap) (locs : List Loc) (ls : Array Slot), WH G B E S H → va_S (AA G) s.heap H locs → lv_has ls 2 [(0, .ref (B 1 0))] → W p l e (headSpec wsX7_takesOne (rmN 3)).room s m [.ref (B 1 0), .int a1].toArray below meth c H locs 0 0 (MQ below (QI G B E SS rr) [.ref (B 1 0), .int a1].toArray s 0 0 (AA G)) (F0 m 27 ls []) := by
    intro S  hf H locs ls hW hS hl
    unfold f_X7_takesOne_b27 at hf
    refine lv_aload_n hx hb dX7_takesOne_27 rfl (lv_at hl 0 rfl) ?_
    refine lv_aload_n hx hb dX7_takesOne_28 rfl (lv_at hl 0 rfl) ?_
    refine x_get hx hb hts hi7 hown hK hW (c1 hE) (e1 _ _ _ _ _ _) rfl 10 (Nat.le_of_ble_eq_true rfl) q0 (fun _ h => h) (v := .int (gI S 1 0 10)) rfl dX7_takesOne_29 ?_
    refine lv_iconst (v := 1) hx hb dX7_takesOne_32 rfl ?_
    refine lv_icmp_ne (tgt := 40) hx hb dX7_takesOne_33 (by decide) (fun h => ?_) (fun h => ?_)
    · have hf := if_f h hf
      refine lv_iconst (v := 1) hx hb dX7_takesOne_40 rfl ?_
      exact w41 S (1 : Int32)  hf _ _ _ hW hS (lv_sub hl [0] rfl)
    · have hf := if_t h hf
      refine lv_iconst (v := 0) hx hb dX7_takesOne_36 rfl ?_
      refine lv_goto (tgt := 41) hx hb dX7_takesOne_37 (by decide) ?_
      exact w41 S (0 : Int32)  hf _ _ _ hW hS (lv_sub hl [0] rfl)
  have w75 : ∀ (S : ST) (v1 : Int32) , f_X7_takesOne_b75 E S v1 = some (rr, SS) → ∀ (H : Heap) (locs : List Loc) (ls : Array Slot), WH G B E S H → va_S (AA G) s.heap H locs → lv_has ls 2 [(0, .ref (B 1 0)), (1, .int v1)] → W p l e (headSpec wsX7_takesOne (rmN 3)).room s m [.ref (B 1 0), .int a1].toArray below meth c H locs 0 0 (MQ below (QI G B E SS rr) [.ref (B 1 0), .int a1].toArray s 0 0 (AA G)) (F0 m 75 ls []) := by
    intro S v1 hf H locs ls hW hS hl
    unfold f_X7_takesOne_b75 at hf
    refine lv_aload_n hx hb dX7_takesOne_75 rfl (lv_at hl 0 rfl) ?_
    refine x_get hx hb hts hi7 hown hK hW (c1 hE) (e1 _ _ _ _ _ _) rfl 10 (Nat.le_of_ble_eq_true rfl) q0 (fun _ h => h) (v := .int (gI S 1 0 10)) rfl dX7_takesOne_76 ?_
    refine lv_bipush (v := 45) hx hb dX7_takesOne_79 (by decide) ?_
    refine lv_icmp_ne (tgt := 99) hx hb dX7_takesOne_81 (by decide) (fun h => ?_) (fun h => ?_)
    · have hf := if_f h hf
      refine lv_aload_n hx hb dX7_takesOne_99 rfl (lv_at hl 0 rfl) ?_
      refine x_get hx hb hts hi7 hown hK hW (c1 hE) (e1 _ _ _ _ _ _) rfl 10 (Nat.le_of_ble_eq_true rfl) q0 (fun _ h => h) (v := .int (gI S 1 0 10)) rfl dX7_takesOne_100 ?_
      refine lv_bipush (v := 40) hx hb dX7_takesOne_103 (by decide) ?_
      refine lv_icmp_ne (tgt := 123) hx hb dX7_takesOne_105 (by decide) (fun h => ?_) (fun h => ?_)
      · have hf := if_f h hf
        refine lv_aload_n hx hb dX7_takesOne_123 rfl (lv_at hl 0 rfl) ?_
        refine lv_sipush (v := 14836) hx hb dX7_takesOne_124 (by decide) ?_
        obtain ⟨r4, hc, hf⟩ := bd_out hf
        refine y_i (va_runV (As := [.int (14836 : Int32)]) (rest := []) hfix (m_X7_isWord l G B E hE S (14836 : Int32) r4 hc) (cwV 1 hts gX7_takesOne_X7_isWord rfl rfl rfl ⟨rfl, hd_X7_isWord⟩ ⟨Nat.le_of_ble_eq_true rfl, Nat.le_of_ble_eq_true rfl⟩) (y_pv hF hW hS (c1 hE) (e1 _ _ _ _ _ _) rfl) rfl rfl hl.1 rfl (lv_room (Nat.le_of_ble_eq_true rfl)) dX7_takesOne_127 ⟨Nat.le_of_ble_eq_true rfl, Nat.le_of_ble_eq_true rfl⟩) hS (fun H locs hW hS => ?_)
        refine lv_if_eq (tgt := 149) hx hb dX7_takesOne_130 (by decide) (fun h => ?_) (fun h => ?_)
        · have hf := if_t h hf
          refine lv_iconst (v := 0) hx hb dX7_takesOne_149 rfl ?_
          exact z_i hf hx hb hr rfl hF hW hS dX7_takesOne_150 hlocks
        · have hf := if_f h hf
          refine lv_iload_n hx hb dX7_takesOne_133 rfl (lv_at hl 1 rfl) ?_
          refine lv_if_eq (tgt := 149) hx hb dX7_takesOne_134 (by decide) (fun h => ?_) (fun h => ?_)
          · have hf := if_t h hf
            refine lv_iconst (v := 0) hx hb dX7_takesOne_149 rfl ?_
            exact z_i hf hx hb hr rfl hF hW hS dX7_takesOne_150 hlocks
          · have hf := if_f h hf
            refine lv_aload_n hx hb dX7_takesOne_137 rfl (lv_at hl 0 rfl) ?_
            refine lv_iconst (v := 4) hx hb dX7_takesOne_138 rfl ?_
            obtain ⟨r5, S6, hc, hf⟩ := bd2_out hf
            refine y_i (va_runV (As := [.int (4 : Int32)]) (rest := []) hfix (m_X7_opens l G B E hE S (4 : Int32) r5 S6 hc) (cwV 1 hts gX7_takesOne_X7_opens rfl rfl rfl ⟨rfl, hd_X7_opens⟩ ⟨Nat.le_of_ble_eq_true rfl, Nat.le_of_ble_eq_true rfl⟩) (y_pv hF hW hS (c1 hE) (e1 _ _ _ _ _ _) rfl) rfl rfl hl.1 rfl (lv_room (Nat.le_of_ble_eq_true rfl)) dX7_takesOne_139 ⟨Nat.le_of_ble_eq_true rfl, Nat.le_of_ble_eq_true rfl⟩) hS (fun H locs hW hS => ?_)
            refine lv_if_eq (tgt := 149) hx hb dX7_takesOne_142 (by decide) (fun h => ?_) (fun h => ?_)
            · have hf := if_t h hf
              refine lv_iconst (v := 0) hx hb dX7_takesOne_149 rfl ?_
              exact z_i hf hx hb hr rfl hF hW hS dX7_takesOne_150 hlocks
            · have hf := if_f h hf
              refine lv_iconst (v := 1) hx hb dX7_takesOne_145 rfl ?_
              refine lv_goto (tgt := 150) hx hb dX7_takesOne_146 (by decide) ?_
              exact z_i hf hx hb hr rfl hF hW hS dX7_takesOne_150 hlocks
      · have hf := if_t h hf
        refine lv_aload_n hx hb dX7_takesOne_108 rfl (lv_at hl 0 rfl) ?_
        refine lv_bipush (v := 20) hx hb dX7_takesOne_109 (by decide) ?_
        obtain ⟨r7, S8, hc, hf⟩ := bd2_out hf
        refine y_i (va_runV (As := [.int (20 : Int32)]) (rest := []) hfix (m_X7_opens l G B E hE S (20 : Int32) r7 S8 hc) (cwV 1 hts gX7_takesOne_X7_opens rfl rfl rfl ⟨rfl, hd_X7_opens⟩ ⟨Nat.le_of_ble_eq_true rfl, Nat.le_of_ble_eq_true rfl⟩) (y_pv hF hW hS (c1 hE) (e1 _ _ _ _ _ _) rfl) rfl rfl hl.1 rfl (lv_room (Nat.le_of_ble_eq_true rfl)) dX7_takesOne_111 ⟨Nat.le_of_ble_eq_true rfl, Nat.le_of_ble_eq_true rfl⟩) hS (fun H locs hW hS => ?_)
        refine lv_if_eq (tgt := 121) hx hb dX7_takesOne_114 (by decide) (fun h => ?_) (fun h => ?_)
        · have hf := if_t h hf
          refine lv_iconst (v := 0) hx hb dX7_takesOne_121 rfl ?_
          exact z_i hf hx hb hr rfl hF hW hS dX7_takesOne_122 hlocks
        · have hf := if_f h hf
          refine lv_iconst (v := 1) hx hb dX7_takesOne_117 rfl ?_
          refine lv_goto (tgt := 122) hx hb dX7_takesOne_118 (by decide) ?_
          exact z_i hf hx hb hr rfl hF hW hS dX7_takesOne_122 hlocks
    · have hf := if_t h hf
      refine lv_aload_n hx hb dX7_takesOne_84 rfl (lv_at hl 0 rfl) ?_
      refine lv_bipush (v := 10) hx hb dX7_takesOne_85 (by decide) ?_
      obtain ⟨r9, S10, hc, hf⟩ := bd2_out hf
      refine y_i (va_runV (As := [.int (10 : Int32)]) (rest := []) hfix (m_X7_opens l G B E hE S (10 : Int32) r9 S10 hc) (cwV 1 hts gX7_takesOne_X7_opens rfl rfl rfl ⟨rfl, hd_X7_opens⟩ ⟨Nat.le_of_ble_eq_true rfl, Nat.le_of_ble_eq_true rfl⟩) (y_pv hF hW hS (c1 hE) (e1 _ _ _ _ _ _) rfl) rfl rfl hl.1 rfl (lv_room (Nat.le_of_ble_eq_true rfl)) dX7_takesOne_87 ⟨Nat.le_of_ble_eq_true rfl, Nat.le_of_ble_eq_true rfl⟩) hS (fun H locs hW hS => ?_)
      refine lv_if_eq (tgt := 97) hx hb dX7_takesOne_90 (by decide) (fun h => ?_) (fun h => ?_)
      · have hf := if_t h hf
        refine lv_iconst (v := 0) hx hb dX7_takesOne_97 rfl ?_
        exact z_i hf hx hb hr rfl hF hW hS dX7_takesOne_98 hlocks
      · have hf := if_f h hf
        refine lv_iconst (v := 1) hx hb dX7_takesOne_93 rfl ?_
        refine lv_goto (tgt := 98) hx hb dX7_takesOne_94 (by decide) ?_
        exact z_i hf hx hb hr rfl hF hW hS dX7_takesOne_98 hlocks
  unfold f_X7_takesOne at hf
  refine lv_aload_n hx hb dX7_takesOne_0 rfl (lv_at hl 0 rfl) ?_
  refine x_get hx hb hts hi7 hown hK hW (c1 hE) (e1 _ _ _ _ _ _) rfl 10 (Nat.le_of_ble_eq_true rfl) q0 (fun _ h => h) (v := .int (gI S 1 0 10)) rfl dX7_takesOne_1 ?_
  refine lv_iconst (v := 1) hx hb dX7_takesOne_4 rfl ?_
  refine lv_icmp_eq (tgt := 27) hx hb dX7_takesOne_5 (by decide) (fun h => ?_) (fun h => ?_)
  · have hf := if_t h hf
    exact w27 S  hf _ _ _ hW hS (lv_sub hl [0] rfl)
  · have hf := if_f h hf
    refine lv_aload_n hx hb dX7_takesOne_8 rfl (lv_at hl 0 rfl) ?_
    refine x_get hx hb hts hi7 hown hK hW (c1 hE) (e1 _ _ _ _ _ _) rfl 10 (Nat.le_of_ble_eq_true rfl) q0 (fun _ h => h) (v := .int (gI S 1 0 10)) rfl dX7_takesOne_9 ?_
    refine lv_iconst (v := 2) hx hb dX7_takesOne_12 rfl ?_
    refine lv_icmp_ne (tgt := 75) hx hb dX7_takesOne_13 (by decide) (fun h => ?_) (fun h => ?_)
    · have hf := if_f h hf
      exact w75 S a1  hf _ _ _ hW hS (lv_sub hl [0, 1] rfl)
    · have hf := if_t h hf
      refine lv_aload_n hx hb dX7_takesOne_16 rfl (lv_at hl 0 rfl) ?_
      refine lv_aload_n hx hb dX7_takesOne_17 rfl (lv_at hl 0 rfl) ?_
      refine x_get hx hb hts hi7 hown hK hW (c1 hE) (e1 _ _ _ _ _ _) rfl 11 (Nat.le_of_ble_eq_true rfl) q1 (fun _ h => h) (v := .int (gI S 1 0 11)) rfl dX7_takesOne_18 ?_
      obtain ⟨r11, hc, hf⟩ := bd_out hf
      refine y_i (va_runV (As := [.int (gI S 1 0 11)]) (rest := []) hfix (m_X7_nameOf l G B E hE S (gI S 1 0 11) r11 hc) (cwV 1 hts gX7_takesOne_X7_nameOf rfl rfl rfl ⟨rfl, hd_X7_nameOf⟩ ⟨Nat.le_of_ble_eq_true rfl, Nat.le_of_ble_eq_true rfl⟩) (y_pv hF hW hS (c1 hE) (e1 _ _ _ _ _ _) rfl) rfl rfl hl.1 rfl (lv_room (Nat.le_of_ble_eq_true rfl)) dX7_takesOne_21 ⟨Nat.le_of_ble_eq_true rfl, Nat.le_of_ble_eq_true rfl⟩) hS (fun H locs hW hS => ?_)
      refine lv_if_lt (tgt := 75) hx hb dX7_takesOne_24 (by decide) (fun h => ?_) (fun h => ?_)
      · have hf := if_t h hf
        exact w75 S a1  hf _ _ _ hW hS (lv_sub hl [0, 1] rfl)
      · have hf := if_f h hf
        exact w27 S  hf _ _ _ hW hS (lv_sub hl [0] rfl)
set_option maxHeartbeats 4000000 in
set_option maxRecDepth 100000 in
theorem m_X7_takesSign (l : Launch) (G : GE) (B : Nat → Nat → Nat) (E : EN) (hE : 0 < E.2.2.2)  (S : ST)  (rr : Int32) (SS : ST) (hf : f_X7_takesSign E S = some (rr, SS)) : Met l yX7_takesSign wsX7_takesSign (rmN 3) (va_Pc [.ref (B 1 0)] (WS G B E S)) (QI G B E SS rr) 0 0 (AA G) := by
  refine Met.ofW (cc := cX7_takesSign) (maxL := 2) (ret := (some .int)) (by decide) rfl ?_
  intro p e s m args below meth c s₁ B0 hml hv
  obtain ⟨rfl, hW, hF⟩ := hv
  have hx := B0.exec
  have hb := B0.bytes
  have hr := B0.returns
  have hts := atoms_spec (ws := wsX7_takesSign) B0.pre
  have hown : s.vm.findClass RX7 = some m.cls := findClass_of_methodNamed B0.named
  have hlocks := B0.notSynchronized
  have hK := hF.1
  have hfix : CallFix p m c cX7_takesSign 2 s [.ref (B 1 0)].toArray wsX7_takesSign RX7 := ⟨hx, hb, hml, hown, hts⟩
  have hS : va_S (AA G) s.heap s.heap [] := va_S.rf
  have hl := lv_entry [.ref (B 1 0)] (n := 2) (Nat.le_of_ble_eq_true rfl)
  rw [lg_entry_eq]
  generalize (lg_sl [.ref (B 1 0)] ++ List.replicate (2 - (lg_sl [.ref (B 1 0)]).length) Slot.unset).toArray = ls at hl ⊢
  have hl : lv_has ls 2 [(0, .ref (B 1 0))] := hl
  have q0 := hts (.fieldLink RX7 62 "MovesUpModel" "token" "I") (List.mem_of_getElem? (i := 1) rfl)
  have q1 := hts (.fieldLink RX7 74 "MovesUpModel" "waiting" "I") (List.mem_of_getElem? (i := 2) rfl)
  have q2 := hts (.fieldLink RX7 71 "MovesUpModel" "open" "I") (List.mem_of_getElem? (i := 3) rfl)
  have hi7 : ∀ w ∈ u_ws RX7 TX7 47, w ∈ wsX7_takesSign := in_seg 34 rfl
  have w152 : ∀ (S : ST) (v1 : Int32) , f_X7_takesSign_b152 E S v1 = some (rr, SS) → ∀ (H : Heap) (locs : List Loc) (ls : Array Slot), WH G B E S H → va_S (AA G) s.heap H locs → lv_has ls 2 [(0, .ref (B 1 0)), (1, .int v1)] → W p l e (headSpec wsX7_takesSign (rmN 3)).room s m [.ref (B 1 0)].toArray below meth c H locs 0 0 (MQ below (QI G B E SS rr) [.ref (B 1 0)].toArray s 0 0 (AA G)) (F0 m 152 ls []) := by
    intro S v1 hf H locs ls hW hS hl
    unfold f_X7_takesSign_b152 at hf
    refine lv_aload_n hx hb dX7_takesSign_152 rfl (lv_at hl 0 rfl) ?_
    refine lv_iload_n hx hb dX7_takesSign_153 rfl (lv_at hl 1 rfl) ?_
    obtain ⟨S1, hc, hf⟩ := bd_out hf
    refine y_v (va_runV (As := [.int v1]) (rest := []) hfix (m_X7_pushSign l G B E hE S v1 S1 hc) (cwV 1 hts gX7_takesSign_X7_pushSign rfl rfl rfl ⟨rfl, hd_X7_pushSign⟩ ⟨Nat.le_of_ble_eq_true rfl, Nat.le_of_ble_eq_true rfl⟩) (y_pv hF hW hS (c1 hE) (e1 _ _ _ _ _ _) rfl) rfl rfl hl.1 rfl (lv_room (Nat.le_of_ble_eq_true rfl)) dX7_takesSign_154 ⟨Nat.le_of_ble_eq_true rfl, Nat.le_of_ble_eq_true rfl⟩) hS (fun H locs hW hS => ?_)
    refine lv_iconst (v := 1) hx hb dX7_takesSign_157 rfl ?_
    exact z_i hf hx hb hr rfl hF hW hS dX7_takesSign_158 hlocks
  have w138 : ∀ (S : ST) (v1 : Int32) , f_X7_takesSign_b138 E S v1 = some (rr, SS) → ∀ (H : Heap) (locs : List Loc) (ls : Array Slot), WH G B E S H → va_S (AA G) s.heap H locs → lv_has ls 2 [(0, .ref (B 1 0)), (1, .int v1)] → W p l e (headSpec wsX7_takesSign (rmN 3)).room s m [.ref (B 1 0)].toArray below meth c H locs 0 0 (MQ below (QI G B E SS rr) [.ref (B 1 0)].toArray s 0 0 (AA G)) (F0 m 138 ls []) := by
    intro S v1 hf H locs ls hW hS hl
    unfold f_X7_takesSign_b138 at hf
    refine lv_aload_n hx hb dX7_takesSign_138 rfl (lv_at hl 0 rfl) ?_
    refine lv_aload_n hx hb dX7_takesSign_139 rfl (lv_at hl 0 rfl) ?_
    obtain ⟨r2, hc, hf⟩ := bd_out hf
    refine y_i (va_runV (As := []) (rest := [.ref (B 1 0)]) hfix (m_X7_top l G B E hE S  r2 hc) (cwV 0 hts gX7_takesSign_X7_top rfl rfl rfl ⟨rfl, hd_X7_top⟩ ⟨Nat.le_of_ble_eq_true rfl, Nat.le_of_ble_eq_true rfl⟩) (y_pv hF hW hS (c1 hE) (e1 _ _ _ _ _ _) rfl) rfl rfl hl.1 rfl (lv_room (Nat.le_of_ble_eq_true rfl)) dX7_takesSign_140 ⟨Nat.le_of_ble_eq_true rfl, Nat.le_of_ble_eq_true rfl⟩) hS (fun H locs hW hS => ?_)
    obtain ⟨r3, hc, hf⟩ := bd_out hf
    refine y_i (va_runV (As := [.int r2]) (rest := []) hfix (m_X7_strength l G B E hE S r2 r3 hc) (cwV 1 hts gX7_takesSign_X7_strength rfl rfl rfl ⟨rfl, hd_X7_strength⟩ ⟨Nat.le_of_ble_eq_true rfl, Nat.le_of_ble_eq_true rfl⟩) (y_pv hF hW hS (c1 hE) (e1 _ _ _ _ _ _) rfl) rfl rfl hl.1 rfl (lv_room (Nat.le_of_ble_eq_true rfl)) dX7_takesSign_143 ⟨Nat.le_of_ble_eq_true rfl, Nat.le_of_ble_eq_true rfl⟩) hS (fun H locs hW hS => ?_)
    refine lv_iconst (v := 4) hx hb dX7_takesSign_146 rfl ?_
    refine lv_icmp_ne (tgt := 152) hx hb dX7_takesSign_147 (by decide) (fun h => ?_) (fun h => ?_)
    · have hf := if_f h hf
      exact w152 S v1  hf _ _ _ hW hS (lv_sub hl [0, 1] rfl)
    · have hf := if_t h hf
      refine lv_iconst (v := 0) hx hb dX7_takesSign_150 rfl ?_
      exact z_i hf hx hb hr rfl hF hW hS dX7_takesSign_151 hlocks
  have w124 : ∀ (S : ST) (v1 : Int32) (t0 : Int32) , f_X7_takesSign_b124 E S v1 t0 = some (rr, SS) → ∀ (H : Heap) (locs : List Loc) (ls : Array Slot), WH G B E S H → va_S (AA G) s.heap H locs → lv_has ls 2 [(0, .ref (B 1 0)), (1, .int v1)] → W p l e (headSpec wsX7_takesSign (rmN 3)).room s m [.ref (B 1 0)].toArray below meth c H locs 0 0 (MQ below (QI G B E SS rr) [.ref (B 1 0)].toArray s 0 0 (AA G)) (F0 m 124 ls [.int t0, .ref (B 1 0)]) := by
    intro S v1 t0 hf H locs ls hW hS hl
    unfold f_X7_takesSign_b124 at hf
    obtain ⟨S4, hc, hf⟩ := bd_out hf
    refine y_v (va_runV (As := [.int t0]) (rest := []) hfix (m_X7_settle l G B E hE S t0 S4 hc) (cwV 1 hts gX7_takesSign_X7_settle rfl rfl rfl ⟨rfl, hd_X7_settle⟩ ⟨Nat.le_of_ble_eq_true rfl, Nat.le_of_ble_eq_true rfl⟩) (y_pv hF hW hS (c1 hE) (e1 _ _ _ _ _ _) rfl) rfl rfl hl.1 rfl (lv_room (Nat.le_of_ble_eq_true rfl)) dX7_takesSign_124 ⟨Nat.le_of_ble_eq_true rfl, Nat.le_of_ble_eq_true rfl⟩) hS (fun H locs hW hS => ?_)
    refine lv_iload_n hx hb dX7_takesSign_127 rfl (lv_at hl 1 rfl) ?_
    refine lv_iconst (v := 5) hx hb dX7_takesSign_128 rfl ?_
    refine lv_icmp_eq (tgt := 138) hx hb dX7_takesSign_129 (by decide) (fun h => ?_) (fun h => ?_)
    · have hf := if_t h hf
      exact w138 S4 v1  hf _ _ _ hW hS (lv_sub hl [0, 1] rfl)
    · have hf := if_f h hf
      refine lv_iload_n hx hb dX7_takesSign_132 rfl (lv_at hl 1 rfl) ?_
      refine lv_bipush (v := 6) hx hb dX7_takesSign_133 (by decide) ?_
      refine lv_icmp_ne (tgt := 152) hx hb dX7_takesSign_135 (by decide) (fun h => ?_) (fun h => ?_)
      · have hf := if_f h hf
        exact w152 S4 v1  hf _ _ _ hW hS (lv_sub hl [0, 1] rfl)
      · have hf := if_t h hf
        exact w138 S4 v1  hf _ _ _ hW hS (lv_sub hl [0, 1] rfl)
  have w115 : ∀ (S : ST) (v1 : Int32) , f_X7_takesSign_b115 E S v1 = some (rr, SS) → ∀ (H : Heap) (locs : List Loc) (ls : Array Slot), WH G B E S H → va_S (AA G) s.heap H locs → lv_has ls 2 [(0, .ref (B 1 0)), (1, .int v1)] → W p l e (headSpec wsX7_takesSign (rmN 3)).room s m [.ref (B 1 0)].toArray below meth c H locs 0 0 (MQ below (QI G B E SS rr) [.ref (B 1 0)].toArray s 0 0 (AA G)) (F0 m 115 ls [.ref (B 1 0)]) := by
    intro S v1 hf H locs ls hW hS hl
    unfold f_X7_takesSign_b115 at hf
    refine lv_iconst (v := 5) hx hb dX7_takesSign_115 rfl ?_
    refine lv_goto (tgt := 124) hx hb dX7_takesSign_116 (by decide) ?_
    exact w124 S v1 (5 : Int32)  hf _ _ _ hW hS (lv_sub hl [0, 1] rfl)
  have w98 : ∀ (S : ST) (t0 : Int32) , f_X7_takesSign_b98 E S t0 = some (rr, SS) → ∀ (H : Heap) (locs : List Loc) (ls : Array Slot), WH G B E S H → va_S (AA G) s.heap H locs → lv_has ls 2 [(0, .ref (B 1 0))] → W p l e (headSpec wsX7_takesSign (rmN 3)).room s m [.ref (B 1 0)].toArray below meth c H locs 0 0 (MQ below (QI G B E SS rr) [.ref (B 1 0)].toArray s 0 0 (AA G)) (F0 m 98 ls [.int t0]) := by
    intro S t0 hf H locs ls hW hS hl
    unfold f_X7_takesSign_b98 at hf
    refine lv_istore_n (lv' := [(1, .int t0), (0, .ref (B 1 0))]) hx hb dX7_takesSign_98 rfl hl (by decide) rfl (fun ls hl => ?_)
    refine lv_iload_n hx hb dX7_takesSign_99 rfl (lv_at hl 0 rfl) ?_
    refine lv_if_lt (tgt := 159) hx hb dX7_takesSign_100 (by decide) (fun h => ?_) (fun h => ?_)
    · have hf := if_t h hf
      refine lv_aload_n hx hb dX7_takesSign_159 rfl (lv_at hl 1 rfl) ?_
      refine x_get hx hb hts hi7 hown hK hW (c1 hE) (e1 _ _ _ _ _ _) rfl 10 (Nat.le_of_ble_eq_true rfl) q0 (fun _ h => h) (v := .int (gI S 1 0 10)) rfl dX7_takesSign_160 ?_
      refine lv_bipush (v := 41) hx hb dX7_takesSign_163 (by decide) ?_
      refine lv_icmp_eq (tgt := 170) hx hb dX7_takesSign_165 (by decide) (fun h => ?_) (fun h => ?_)
      · have hf := if_t h hf
        refine lv_aload_n hx hb dX7_takesSign_170 rfl (lv_at hl 1 rfl) ?_
        refine lv_iconst (v := 1) hx hb dX7_takesSign_171 rfl ?_
        obtain ⟨S5, hc, hf⟩ := bd_out hf
        refine y_v (va_runV (As := [.int (1 : Int32)]) (rest := []) hfix (m_X7_settle l G B E hE S (1 : Int32) S5 hc) (cwV 1 hts gX7_takesSign_X7_settle rfl rfl rfl ⟨rfl, hd_X7_settle⟩ ⟨Nat.le_of_ble_eq_true rfl, Nat.le_of_ble_eq_true rfl⟩) (y_pv hF hW hS (c1 hE) (e1 _ _ _ _ _ _) rfl) rfl rfl hl.1 rfl (lv_room (Nat.le_of_ble_eq_true rfl)) dX7_takesSign_172 ⟨Nat.le_of_ble_eq_true rfl, Nat.le_of_ble_eq_true rfl⟩) hS (fun H locs hW hS => ?_)
        refine lv_aload_n hx hb dX7_takesSign_175 rfl (lv_at hl 1 rfl) ?_
        obtain ⟨r6, hc, hf⟩ := bd_out hf
        refine y_i (va_runV (As := []) (rest := []) hfix (m_X7_top l G B E hE S5  r6 hc) (cwV 0 hts gX7_takesSign_X7_top rfl rfl rfl ⟨rfl, hd_X7_top⟩ ⟨Nat.le_of_ble_eq_true rfl, Nat.le_of_ble_eq_true rfl⟩) (y_pv hF hW hS (c1 hE) (e1 _ _ _ _ _ _) rfl) rfl rfl hl.1 rfl (lv_room (Nat.le_of_ble_eq_true rfl)) dX7_takesSign_176 ⟨Nat.le_of_ble_eq_true rfl, Nat.le_of_ble_eq_true rfl⟩) hS (fun H locs hW hS => ?_)
        refine lv_bipush (v := 20) hx hb dX7_takesSign_179 (by decide) ?_
        refine lv_icmp_eq (tgt := 186) hx hb dX7_takesSign_181 (by decide) (fun h => ?_) (fun h => ?_)
        · have hf := if_t h hf
          refine lv_aload_n hx hb dX7_takesSign_186 rfl (lv_at hl 1 rfl) ?_
          refine lv_dup hx hb dX7_takesSign_187 rfl ?_
          refine x_get hx hb hts hi7 hown hK hW (c1 hE) (e1 _ _ _ _ _ _) rfl 14 (Nat.le_of_ble_eq_true rfl) q1 (fun _ h => h) (v := .int (gI S5 1 0 14)) rfl dX7_takesSign_188 ?_
          refine lv_iconst (v := 1) hx hb dX7_takesSign_191 rfl ?_
          refine lv_isub hx hb dX7_takesSign_192 ?_
          obtain ⟨S7, e_S7, hf⟩ := lt_out hf
          refine x_putI hx hb hts hi7 tyX7 tyX7_ok nmX7 hown hK hW hS (c1 hE) (e1 _ _ _) rfl 14 (Nat.le_of_ble_eq_true rfl) q1 (fun _ h => h) rfl (tyX7_ok 14 (Nat.le_of_ble_eq_true rfl)) rfl rfl (Nat.le_of_ble_eq_true rfl) (pu1_14 _ _) e_S7 dX7_takesSign_193 (fun H locs hW hS => ?_)
          refine lv_aload_n hx hb dX7_takesSign_196 rfl (lv_at hl 1 rfl) ?_
          refine lv_dup hx hb dX7_takesSign_197 rfl ?_
          refine x_get hx hb hts hi7 hown hK hW (c1 hE) (e1 _ _ _ _ _ _) rfl 13 (Nat.le_of_ble_eq_true rfl) q2 (fun _ h => h) (v := .int (gI S7 1 0 13)) rfl dX7_takesSign_198 ?_
          refine lv_iconst (v := 1) hx hb dX7_takesSign_201 rfl ?_
          refine lv_isub hx hb dX7_takesSign_202 ?_
          obtain ⟨S8, e_S8, hf⟩ := lt_out hf
          refine x_putI hx hb hts hi7 tyX7 tyX7_ok nmX7 hown hK hW hS (c1 hE) (e1 _ _ _) rfl 13 (Nat.le_of_ble_eq_true rfl) q2 (fun _ h => h) rfl (tyX7_ok 13 (Nat.le_of_ble_eq_true rfl)) rfl rfl (Nat.le_of_ble_eq_true rfl) (pu1_13 _ _) e_S8 dX7_takesSign_203 (fun H locs hW hS => ?_)
          refine lv_aload_n hx hb dX7_takesSign_206 rfl (lv_at hl 1 rfl) ?_
          refine lv_bipush (v := 7) hx hb dX7_takesSign_207 (by decide) ?_
          obtain ⟨S9, hc, hf⟩ := bd_out hf
          refine y_v (va_runV (As := [.int (7 : Int32)]) (rest := []) hfix (m_X7_settle l G B E hE S8 (7 : Int32) S9 hc) (cwV 1 hts gX7_takesSign_X7_settle rfl rfl rfl ⟨rfl, hd_X7_settle⟩ ⟨Nat.le_of_ble_eq_true rfl, Nat.le_of_ble_eq_true rfl⟩) (y_pv hF hW hS (c1 hE) (e1 _ _ _ _ _ _) rfl) rfl rfl hl.1 rfl (lv_room (Nat.le_of_ble_eq_true rfl)) dX7_takesSign_209 ⟨Nat.le_of_ble_eq_true rfl, Nat.le_of_ble_eq_true rfl⟩) hS (fun H locs hW hS => ?_)
          refine lv_iconst (v := 2) hx hb dX7_takesSign_212 rfl ?_
          exact z_i hf hx hb hr rfl hF hW hS dX7_takesSign_213 hlocks
        · have hf := if_f h hf
          refine lv_iconst (v := 0) hx hb dX7_takesSign_184 rfl ?_
          exact z_i hf hx hb hr rfl hF hW hS dX7_takesSign_185 hlocks
      · have hf := if_f h hf
        refine lv_iconst (v := 0) hx hb dX7_takesSign_168 rfl ?_
        exact z_i hf hx hb hr rfl hF hW hS dX7_takesSign_169 hlocks
    · have hf := if_f h hf
      refine lv_aload_n hx hb dX7_takesSign_103 rfl (lv_at hl 1 rfl) ?_
      refine lv_iload_n hx hb dX7_takesSign_104 rfl (lv_at hl 0 rfl) ?_
      refine lv_iconst (v := 5) hx hb dX7_takesSign_105 rfl ?_
      refine lv_icmp_eq (tgt := 115) hx hb dX7_takesSign_106 (by decide) (fun h => ?_) (fun h => ?_)
      · have hf := if_t h hf
        exact w115 S t0  hf _ _ _ hW hS (lv_sub hl [1, 0] rfl)
      · have hf := if_f h hf
        refine lv_iload_n hx hb dX7_takesSign_109 rfl (lv_at hl 0 rfl) ?_
        refine lv_bipush (v := 6) hx hb dX7_takesSign_110 (by decide) ?_
        refine lv_icmp_ne (tgt := 119) hx hb dX7_takesSign_112 (by decide) (fun h => ?_) (fun h => ?_)
        · have hf := if_f h hf
          refine lv_aload_n hx hb dX7_takesSign_119 rfl (lv_at hl 1 rfl) ?_
          refine lv_iload_n hx hb dX7_takesSign_120 rfl (lv_at hl 0 rfl) ?_
          obtain ⟨r10, hc, hf⟩ := bd_out hf
          refine y_i (va_runV (As := [.int t0]) (rest := [.ref (B 1 0)]) hfix (m_X7_strength l G B E hE S t0 r10 hc) (cwV 1 hts gX7_takesSign_X7_strength rfl rfl rfl ⟨rfl, hd_X7_strength⟩ ⟨Nat.le_of_ble_eq_true rfl, Nat.le_of_ble_eq_true rfl⟩) (y_pv hF hW hS (c1 hE) (e1 _ _ _ _ _ _) rfl) rfl rfl hl.1 rfl (lv_room (Nat.le_of_ble_eq_true rfl)) dX7_takesSign_121 ⟨Nat.le_of_ble_eq_true rfl, Nat.le_of_ble_eq_true rfl⟩) hS (fun H locs hW hS => ?_)
          exact w124 S t0 r10  hf _ _ _ hW hS (lv_sub hl [1, 0] rfl)
        · have hf := if_t h hf
          exact w115 S t0  hf _ _ _ hW hS (lv_sub hl [1, 0] rfl)
  unfold f_X7_takesSign at hf
  refine lv_aload_n hx hb dX7_takesSign_0 rfl (lv_at hl 0 rfl) ?_
  refine x_get hx hb hts hi7 hown hK hW (c1 hE) (e1 _ _ _ _ _ _) rfl 10 (Nat.le_of_ble_eq_true rfl) q0 (fun _ h => h) (v := .int (gI S 1 0 10)) rfl dX7_takesSign_1 ?_
  refine lv_bipush (v := 42) hx hb dX7_takesSign_4 (by decide) ?_
  refine lv_icmp_ne (tgt := 14) hx hb dX7_takesSign_6 (by decide) (fun h => ?_) (fun h => ?_)
  · have hf := if_f h hf
    refine lv_aload_n hx hb dX7_takesSign_14 rfl (lv_at hl 0 rfl) ?_
    refine x_get hx hb hts hi7 hown hK hW (c1 hE) (e1 _ _ _ _ _ _) rfl 10 (Nat.le_of_ble_eq_true rfl) q0 (fun _ h => h) (v := .int (gI S 1 0 10)) rfl dX7_takesSign_15 ?_
    refine lv_bipush (v := 43) hx hb dX7_takesSign_18 (by decide) ?_
    refine lv_icmp_ne (tgt := 28) hx hb dX7_takesSign_20 (by decide) (fun h => ?_) (fun h => ?_)
    · have hf := if_f h hf
      refine lv_aload_n hx hb dX7_takesSign_28 rfl (lv_at hl 0 rfl) ?_
      refine x_get hx hb hts hi7 hown hK hW (c1 hE) (e1 _ _ _ _ _ _) rfl 10 (Nat.le_of_ble_eq_true rfl) q0 (fun _ h => h) (v := .int (gI S 1 0 10)) rfl dX7_takesSign_29 ?_
      refine lv_bipush (v := 45) hx hb dX7_takesSign_32 (by decide) ?_
      refine lv_icmp_ne (tgt := 42) hx hb dX7_takesSign_34 (by decide) (fun h => ?_) (fun h => ?_)
      · have hf := if_f h hf
        refine lv_aload_n hx hb dX7_takesSign_42 rfl (lv_at hl 0 rfl) ?_
        refine x_get hx hb hts hi7 hown hK hW (c1 hE) (e1 _ _ _ _ _ _) rfl 10 (Nat.le_of_ble_eq_true rfl) q0 (fun _ h => h) (v := .int (gI S 1 0 10)) rfl dX7_takesSign_43 ?_
        refine lv_bipush (v := 60) hx hb dX7_takesSign_46 (by decide) ?_
        refine lv_icmp_ne (tgt := 55) hx hb dX7_takesSign_48 (by decide) (fun h => ?_) (fun h => ?_)
        · have hf := if_f h hf
          refine lv_aload_n hx hb dX7_takesSign_55 rfl (lv_at hl 0 rfl) ?_
          refine x_get hx hb hts hi7 hown hK hW (c1 hE) (e1 _ _ _ _ _ _) rfl 10 (Nat.le_of_ble_eq_true rfl) q0 (fun _ h => h) (v := .int (gI S 1 0 10)) rfl dX7_takesSign_56 ?_
          refine lv_bipush (v := 61) hx hb dX7_takesSign_59 (by decide) ?_
          refine lv_icmp_ne (tgt := 69) hx hb dX7_takesSign_61 (by decide) (fun h => ?_) (fun h => ?_)
          · have hf := if_f h hf
            refine lv_aload_n hx hb dX7_takesSign_69 rfl (lv_at hl 0 rfl) ?_
            refine lv_sipush (v := 1476) hx hb dX7_takesSign_70 (by decide) ?_
            obtain ⟨r11, hc, hf⟩ := bd_out hf
            refine y_i (va_runV (As := [.int (1476 : Int32)]) (rest := []) hfix (m_X7_isWord l G B E hE S (1476 : Int32) r11 hc) (cwV 1 hts gX7_takesSign_X7_isWord rfl rfl rfl ⟨rfl, hd_X7_isWord⟩ ⟨Nat.le_of_ble_eq_true rfl, Nat.le_of_ble_eq_true rfl⟩) (y_pv hF hW hS (c1 hE) (e1 _ _ _ _ _ _) rfl) rfl rfl hl.1 rfl (lv_room (Nat.le_of_ble_eq_true rfl)) dX7_takesSign_73 ⟨Nat.le_of_ble_eq_true rfl, Nat.le_of_ble_eq_true rfl⟩) hS (fun H locs hW hS => ?_)
            refine lv_if_eq (tgt := 83) hx hb dX7_takesSign_76 (by decide) (fun h => ?_) (fun h => ?_)
            · have hf := if_t h hf
              refine lv_aload_n hx hb dX7_takesSign_83 rfl (lv_at hl 0 rfl) ?_
              refine lv_sipush (v := 498) hx hb dX7_takesSign_84 (by decide) ?_
              obtain ⟨r12, hc, hf⟩ := bd_out hf
              refine y_i (va_runV (As := [.int (498 : Int32)]) (rest := []) hfix (m_X7_isWord l G B E hE S (498 : Int32) r12 hc) (cwV 1 hts gX7_takesSign_X7_isWord rfl rfl rfl ⟨rfl, hd_X7_isWord⟩ ⟨Nat.le_of_ble_eq_true rfl, Nat.le_of_ble_eq_true rfl⟩) (y_pv hF hW hS (c1 hE) (e1 _ _ _ _ _ _) rfl) rfl rfl hl.1 rfl (lv_room (Nat.le_of_ble_eq_true rfl)) dX7_takesSign_87 ⟨Nat.le_of_ble_eq_true rfl, Nat.le_of_ble_eq_true rfl⟩) hS (fun H locs hW hS => ?_)
              refine lv_if_eq (tgt := 97) hx hb dX7_takesSign_90 (by decide) (fun h => ?_) (fun h => ?_)
              · have hf := if_t h hf
                refine lv_iconst (v := -1) hx hb dX7_takesSign_97 rfl ?_
                exact w98 S (-1 : Int32)  hf _ _ _ hW hS (lv_sub hl [0] rfl)
              · have hf := if_f h hf
                refine lv_iconst (v := 2) hx hb dX7_takesSign_93 rfl ?_
                refine lv_goto (tgt := 98) hx hb dX7_takesSign_94 (by decide) ?_
                exact w98 S (2 : Int32)  hf _ _ _ hW hS (lv_sub hl [0] rfl)
            · have hf := if_f h hf
              refine lv_iconst (v := 3) hx hb dX7_takesSign_79 rfl ?_
              refine lv_goto (tgt := 98) hx hb dX7_takesSign_80 (by decide) ?_
              exact w98 S (3 : Int32)  hf _ _ _ hW hS (lv_sub hl [0] rfl)
          · have hf := if_t h hf
            refine lv_bipush (v := 6) hx hb dX7_takesSign_64 (by decide) ?_
            refine lv_goto (tgt := 98) hx hb dX7_takesSign_66 (by decide) ?_
            exact w98 S (6 : Int32)  hf _ _ _ hW hS (lv_sub hl [0] rfl)
        · have hf := if_t h hf
          refine lv_iconst (v := 5) hx hb dX7_takesSign_51 rfl ?_
          refine lv_goto (tgt := 98) hx hb dX7_takesSign_52 (by decide) ?_
          exact w98 S (5 : Int32)  hf _ _ _ hW hS (lv_sub hl [0] rfl)
      · have hf := if_t h hf
        refine lv_bipush (v := 8) hx hb dX7_takesSign_37 (by decide) ?_
        refine lv_goto (tgt := 98) hx hb dX7_takesSign_39 (by decide) ?_
        exact w98 S (8 : Int32)  hf _ _ _ hW hS (lv_sub hl [0] rfl)
    · have hf := if_t h hf
      refine lv_bipush (v := 7) hx hb dX7_takesSign_23 (by decide) ?_
      refine lv_goto (tgt := 98) hx hb dX7_takesSign_25 (by decide) ?_
      exact w98 S (7 : Int32)  hf _ _ _ hW hS (lv_sub hl [0] rfl)
  · have hf := if_t h hf
    refine lv_bipush (v := 9) hx hb dX7_takesSign_9 (by decide) ?_
    refine lv_goto (tgt := 98) hx hb dX7_takesSign_11 (by decide) ?_
    exact w98 S (9 : Int32)  hf _ _ _ hW hS (lv_sub hl [0] rfl)
set_option maxHeartbeats 4000000 in
set_option maxRecDepth 100000 in
theorem m_X7_takesE (l : Launch) (G : GE) (B : Nat → Nat → Nat) (E : EN) (hE : 0 < E.2.2.2)  (S : ST) (a1 : Int32) (rr : Int32) (SS : ST) (hf : f_X7_takesE E S a1 = some (rr, SS)) : Met l yX7_takesE wsX7_takesE (rmN 5) (va_Pc [.ref (B 1 0), .int a1] (WS G B E S)) (QI G B E SS rr) 0 0 (AA G) := by
  refine Met.ofW (cc := cX7_takesE) (maxL := 8) (ret := (some .boolean)) (by decide) rfl ?_
  intro p e s m args below meth c s₁ B0 hml hv
  obtain ⟨rfl, hW, hF⟩ := hv
  have hx := B0.exec
  have hb := B0.bytes
  have hr := B0.returns
  have hts := atoms_spec (ws := wsX7_takesE) B0.pre
  have hown : s.vm.findClass RX7 = some m.cls := findClass_of_methodNamed B0.named
  have hlocks := B0.notSynchronized
  have hK := hF.1
  have hfix : CallFix p m c cX7_takesE 8 s [.ref (B 1 0), .int a1].toArray wsX7_takesE RX7 := ⟨hx, hb, hml, hown, hts⟩
  have hS : va_S (AA G) s.heap s.heap [] := va_S.rf
  have hl := lv_entry [.ref (B 1 0), .int a1] (n := 8) (Nat.le_of_ble_eq_true rfl)
  rw [lg_entry_eq]
  generalize (lg_sl [.ref (B 1 0), .int a1] ++ List.replicate (8 - (lg_sl [.ref (B 1 0), .int a1]).length) Slot.unset).toArray = ls at hl ⊢
  have hl : lv_has ls 8 [(0, .ref (B 1 0)), (1, .int a1)] := hl
  have q0 := hts (.fieldLink RX7 62 "MovesUpModel" "token" "I") (List.mem_of_getElem? (i := 4) rfl)
  have q1 := hts (.fieldLink RX7 74 "MovesUpModel" "waiting" "I") (List.mem_of_getElem? (i := 2) rfl)
  have q2 := hts (.fieldLink RX7 77 "MovesUpModel" "made" "I") (List.mem_of_getElem? (i := 1) rfl)
  have q3 := hts (.fieldLink RX7 71 "MovesUpModel" "open" "I") (List.mem_of_getElem? (i := 3) rfl)
  have hi7 : ∀ w ∈ u_ws RX7 TX7 47, w ∈ wsX7_takesE := in_seg 90 rfl
  have w48 : ∀ (S : ST)  , f_X7_takesE_b48 E S  = some (rr, SS) → ∀ (H : Heap) (locs : List Loc) (ls : Array Slot), WH G B E S H → va_S (AA G) s.heap H locs → lv_has ls 8 [(0, .ref (B 1 0))] → W p l e (headSpec wsX7_takesE (rmN 5)).room s m [.ref (B 1 0), .int a1].toArray below meth c H locs 0 0 (MQ below (QI G B E SS rr) [.ref (B 1 0), .int a1].toArray s 0 0 (AA G)) (F0 m 48 ls []) := by
    intro S  hf H locs ls hW hS hl
    unfold f_X7_takesE_b48 at hf
    refine lv_aload_n hx hb dX7_takesE_48 rfl (lv_at hl 0 rfl) ?_
    refine lv_iconst (v := 1) hx hb dX7_takesE_49 rfl ?_
    obtain ⟨S7, hc, hf⟩ := bd_out hf
    refine y_v (va_runV (As := [.int (1 : Int32)]) (rest := []) hfix (m_X7_settle l G B E hE S (1 : Int32) S7 hc) (cwV 1 hts gX7_takesE_X7_settle rfl rfl rfl ⟨rfl, hd_X7_settle⟩ ⟨Nat.le_of_ble_eq_true rfl, Nat.le_of_ble_eq_true rfl⟩) (y_pv hF hW hS (c1 hE) (e1 _ _ _ _ _ _) rfl) rfl rfl hl.1 rfl (lv_room (Nat.le_of_ble_eq_true rfl)) dX7_takesE_50 ⟨Nat.le_of_ble_eq_true rfl, Nat.le_of_ble_eq_true rfl⟩) hS (fun H locs hW hS => ?_)
    refine lv_aload_n hx hb dX7_takesE_53 rfl (lv_at hl 0 rfl) ?_
    refine x_get hx hb hts hi7 hown hK hW (c1 hE) (e1 _ _ _ _ _ _) rfl 14 (Nat.le_of_ble_eq_true rfl) q1 (fun _ h => h) (v := .int (gI S7 1 0 14)) rfl dX7_takesE_54 ?_
    refine lv_if_ne (tgt := 73) hx hb dX7_takesE_57 (by decide) (fun h => ?_) (fun h => ?_)
    · have hf := if_f h hf
      refine lv_iconst (v := 0) hx hb dX7_takesE_73 rfl ?_
      exact z_i hf hx hb hr rfl hF hW hS dX7_takesE_74 hlocks
    · have hf := if_t h hf
      refine lv_aload_n hx hb dX7_takesE_60 rfl (lv_at hl 0 rfl) ?_
      refine x_get hx hb hts hi7 hown hK hW (c1 hE) (e1 _ _ _ _ _ _) rfl 10 (Nat.le_of_ble_eq_true rfl) q0 (fun _ h => h) (v := .int (gI S7 1 0 10)) rfl dX7_takesE_61 ?_
      refine lv_bipush (v := 59) hx hb dX7_takesE_64 (by decide) ?_
      refine lv_icmp_ne (tgt := 73) hx hb dX7_takesE_66 (by decide) (fun h => ?_) (fun h => ?_)
      · have hf := if_f h hf
        refine lv_iconst (v := 0) hx hb dX7_takesE_73 rfl ?_
        exact z_i hf hx hb hr rfl hF hW hS dX7_takesE_74 hlocks
      · have hf := if_t h hf
        refine lv_iconst (v := 1) hx hb dX7_takesE_69 rfl ?_
        refine lv_goto (tgt := 74) hx hb dX7_takesE_70 (by decide) ?_
        exact z_i hf hx hb hr rfl hF hW hS dX7_takesE_74 hlocks
  have w19 : ∀ (n19 : Nat) (S : ST) (v2 : Int32) (v3 : Int32) , f_X7_takesE_b19 E n19 S v2 v3 = some (rr, SS) → ∀ (H : Heap) (locs : List Loc) (ls : Array Slot), WH G B E S H → va_S (AA G) s.heap H locs → lv_has ls 8 [(0, .ref (B 1 0)), (2, .int v2), (3, .int v3)] → W p l e (headSpec wsX7_takesE (rmN 5)).room s m [.ref (B 1 0), .int a1].toArray below meth c H locs 0 0 (MQ below (QI G B E SS rr) [.ref (B 1 0), .int a1].toArray s 0 0 (AA G)) (F0 m 19 ls []) := by
    intro n19
    induction n19 with
    | zero =>
      intro S v2 v3 hf
      exact absurd (show (none : Option (Int32 × ST)) = some (rr, SS) from hf) (fun h => by cases h)
    | succ n19 ih19 =>
      have w176 : ∀ (S : ST) (v3 : Int32) (t0 : Int32) , f_X7_takesE_b176 E (f_X7_takesE_b19 E n19) S v3 t0 = some (rr, SS) → ∀ (H : Heap) (locs : List Loc) (ls : Array Slot), WH G B E S H → va_S (AA G) s.heap H locs → lv_has ls 8 [(0, .ref (B 1 0)), (3, .int v3)] → W p l e (headSpec wsX7_takesE (rmN 5)).room s m [.ref (B 1 0), .int a1].toArray below meth c H locs 0 0 (MQ below (QI G B E SS rr) [.ref (B 1 0), .int a1].toArray s 0 0 (AA G)) (F0 m 176 ls [.int t0]) := by
        intro S v3 t0 hf H locs ls hW hS hl
        unfold f_X7_takesE_b176 at hf
        refine lv_istore_n (lv' := [(2, .int t0), (0, .ref (B 1 0)), (3, .int v3)]) hx hb dX7_takesE_176 rfl hl (by decide) rfl (fun ls hl => ?_)
        refine lv_aload_n hx hb dX7_takesE_177 rfl (lv_at hl 1 rfl) ?_
        obtain ⟨S1, hc, hf⟩ := bd_out hf
        refine y_v (va_runV (As := []) (rest := []) hfix (m_X7_goOn l G B E hE S  S1 hc) (cwV 0 hts gX7_takesE_X7_goOn rfl rfl rfl ⟨rfl, hd_X7_goOn⟩ ⟨Nat.le_of_ble_eq_true rfl, Nat.le_of_ble_eq_true rfl⟩) (y_pv hF hW hS (c1 hE) (e1 _ _ _ _ _ _) rfl) rfl rfl hl.1 rfl (lv_room (Nat.le_of_ble_eq_true rfl)) dX7_takesE_178 ⟨Nat.le_of_ble_eq_true rfl, Nat.le_of_ble_eq_true rfl⟩) hS (fun H locs hW hS => ?_)
        refine lv_goto (tgt := 19) hx hb dX7_takesE_181 (by decide) ?_
        exact ih19 S1 t0 v3  hf _ _ _ hW hS (lv_sub hl [1, 0, 2] rfl)
      have w164 : ∀ (S : ST) (v7 : Int32) (t0 : Int32) , f_X7_takesE_b164 E (f_X7_takesE_b19 E n19) S v7 t0 = some (rr, SS) → ∀ (H : Heap) (locs : List Loc) (ls : Array Slot), WH G B E S H → va_S (AA G) s.heap H locs → lv_has ls 8 [(0, .ref (B 1 0)), (7, .int v7)] → W p l e (headSpec wsX7_takesE (rmN 5)).room s m [.ref (B 1 0), .int a1].toArray below meth c H locs 0 0 (MQ below (QI G B E SS rr) [.ref (B 1 0), .int a1].toArray s 0 0 (AA G)) (F0 m 164 ls [.int t0]) := by
        intro S v7 t0 hf H locs ls hW hS hl
        unfold f_X7_takesE_b164 at hf
        refine lv_istore_n (lv' := [(3, .int t0), (0, .ref (B 1 0)), (7, .int v7)]) hx hb dX7_takesE_164 rfl hl (by decide) rfl (fun ls hl => ?_)
        refine lv_iload hx hb dX7_takesE_165 (lv_at hl 2 rfl) ?_
        refine lv_iconst (v := 1) hx hb dX7_takesE_167 rfl ?_
        refine lv_icmp_ne (tgt := 175) hx hb dX7_takesE_168 (by decide) (fun h => ?_) (fun h => ?_)
        · have hf := if_f h hf
          refine lv_iconst (v := 0) hx hb dX7_takesE_175 rfl ?_
          exact w176 S t0 (0 : Int32)  hf _ _ _ hW hS (lv_sub hl [1, 0] rfl)
        · have hf := if_t h hf
          refine lv_iconst (v := 1) hx hb dX7_takesE_171 rfl ?_
          refine lv_goto (tgt := 176) hx hb dX7_takesE_172 (by decide) ?_
          exact w176 S t0 (1 : Int32)  hf _ _ _ hW hS (lv_sub hl [1, 0] rfl)
      have w154 : ∀ (S : ST) (v7 : Int32) , f_X7_takesE_b154 E (f_X7_takesE_b19 E n19) S v7 = some (rr, SS) → ∀ (H : Heap) (locs : List Loc) (ls : Array Slot), WH G B E S H → va_S (AA G) s.heap H locs → lv_has ls 8 [(0, .ref (B 1 0)), (7, .int v7)] → W p l e (headSpec wsX7_takesE (rmN 5)).room s m [.ref (B 1 0), .int a1].toArray below meth c H locs 0 0 (MQ below (QI G B E SS rr) [.ref (B 1 0), .int a1].toArray s 0 0 (AA G)) (F0 m 154 ls []) := by
        intro S v7 hf H locs ls hW hS hl
        unfold f_X7_takesE_b154 at hf
        refine lv_iconst (v := 1) hx hb dX7_takesE_154 rfl ?_
        refine lv_goto (tgt := 164) hx hb dX7_takesE_155 (by decide) ?_
        exact w164 S v7 (1 : Int32)  hf _ _ _ hW hS (lv_sub hl [0, 1] rfl)
      have w131 : ∀ (S : ST) (v2 : Int32) (v4 : Int32) (v5 : Int32) (v6 : Int32) (t0 : Int32) , f_X7_takesE_b131 E (f_X7_takesE_b19 E n19) S v2 v4 v5 v6 t0 = some (rr, SS) → ∀ (H : Heap) (locs : List Loc) (ls : Array Slot), WH G B E S H → va_S (AA G) s.heap H locs → lv_has ls 8 [(0, .ref (B 1 0)), (2, .int v2), (4, .int v4), (5, .int v5), (6, .int v6)] → W p l e (headSpec wsX7_takesE (rmN 5)).room s m [.ref (B 1 0), .int a1].toArray below meth c H locs 0 0 (MQ below (QI G B E SS rr) [.ref (B 1 0), .int a1].toArray s 0 0 (AA G)) (F0 m 131 ls [.int t0]) := by
        intro S v2 v4 v5 v6 t0 hf H locs ls hW hS hl
        unfold f_X7_takesE_b131 at hf
        refine lv_istore (lv' := [(7, .int t0), (0, .ref (B 1 0)), (2, .int v2), (4, .int v4), (5, .int v5), (6, .int v6)]) hx hb dX7_takesE_131 hl (by decide) rfl (fun ls hl => ?_)
        refine lv_iload hx hb dX7_takesE_133 (lv_at hl 0 rfl) ?_
        refine lv_if_ne (tgt := 140) hx hb dX7_takesE_135 (by decide) (fun h => ?_) (fun h => ?_)
        · have hf := if_f h hf
          refine lv_iload_n hx hb dX7_takesE_140 rfl (lv_at hl 2 rfl) ?_
          refine lv_if_eq (tgt := 162) hx hb dX7_takesE_141 (by decide) (fun h => ?_) (fun h => ?_)
          · have hf := if_t h hf
            refine lv_iload hx hb dX7_takesE_162 (lv_at hl 5 rfl) ?_
            exact w164 S t0 v6  hf _ _ _ hW hS (lv_sub hl [1, 0] rfl)
          · have hf := if_f h hf
            refine lv_iload hx hb dX7_takesE_144 (lv_at hl 3 rfl) ?_
            refine lv_if_ne (tgt := 154) hx hb dX7_takesE_146 (by decide) (fun h => ?_) (fun h => ?_)
            · have hf := if_f h hf
              exact w154 S t0  hf _ _ _ hW hS (lv_sub hl [1, 0] rfl)
            · have hf := if_t h hf
              refine lv_iload hx hb dX7_takesE_149 (lv_at hl 4 rfl) ?_
              refine lv_if_eq (tgt := 158) hx hb dX7_takesE_151 (by decide) (fun h => ?_) (fun h => ?_)
              · have hf := if_t h hf
                refine lv_iconst (v := 0) hx hb dX7_takesE_158 rfl ?_
                refine lv_goto (tgt := 164) hx hb dX7_takesE_159 (by decide) ?_
                exact w164 S t0 (0 : Int32)  hf _ _ _ hW hS (lv_sub hl [1, 0] rfl)
              · have hf := if_f h hf
                exact w154 S t0  hf _ _ _ hW hS (lv_sub hl [1, 0] rfl)
        · have hf := if_t h hf
          refine lv_iconst (v := 0) hx hb dX7_takesE_138 rfl ?_
          exact z_i hf hx hb hr rfl hF hW hS dX7_takesE_139 hlocks
      have w113 : ∀ (S : ST) (v2 : Int32) (v3 : Int32) (v4 : Int32) (v5 : Int32) (t0 : Int32) , f_X7_takesE_b113 E (f_X7_takesE_b19 E n19) S v2 v3 v4 v5 t0 = some (rr, SS) → ∀ (H : Heap) (locs : List Loc) (ls : Array Slot), WH G B E S H → va_S (AA G) s.heap H locs → lv_has ls 8 [(0, .ref (B 1 0)), (2, .int v2), (3, .int v3), (4, .int v4), (5, .int v5)] → W p l e (headSpec wsX7_takesE (rmN 5)).room s m [.ref (B 1 0), .int a1].toArray below meth c H locs 0 0 (MQ below (QI G B E SS rr) [.ref (B 1 0), .int a1].toArray s 0 0 (AA G)) (F0 m 113 ls [.int t0]) := by
        intro S v2 v3 v4 v5 t0 hf H locs ls hW hS hl
        unfold f_X7_takesE_b113 at hf
        refine lv_istore (lv' := [(6, .int t0), (0, .ref (B 1 0)), (2, .int v2), (3, .int v3), (4, .int v4), (5, .int v5)]) hx hb dX7_takesE_113 hl (by decide) rfl (fun ls hl => ?_)
        refine lv_iload_n hx hb dX7_takesE_115 rfl (lv_at hl 2 rfl) ?_
        refine lv_if_eq (tgt := 127) hx hb dX7_takesE_116 (by decide) (fun h => ?_) (fun h => ?_)
        · have hf := if_t h hf
          refine lv_aload_n hx hb dX7_takesE_127 rfl (lv_at hl 1 rfl) ?_
          obtain ⟨r2, S3, hc, hf⟩ := bd2_out hf
          refine y_i (va_runV (As := []) (rest := []) hfix (m_X7_takesSign l G B E hE S  r2 S3 hc) (cwV 0 hts gX7_takesE_X7_takesSign rfl rfl rfl ⟨rfl, hd_X7_takesSign⟩ ⟨Nat.le_of_ble_eq_true rfl, Nat.le_of_ble_eq_true rfl⟩) (y_pv hF hW hS (c1 hE) (e1 _ _ _ _ _ _) rfl) rfl rfl hl.1 rfl (lv_room (Nat.le_of_ble_eq_true rfl)) dX7_takesE_128 ⟨Nat.le_of_ble_eq_true rfl, Nat.le_of_ble_eq_true rfl⟩) hS (fun H locs hW hS => ?_)
          exact w131 S3 v2 v4 v5 t0 r2  hf _ _ _ hW hS (lv_sub hl [1, 2, 4, 5, 0] rfl)
        · have hf := if_f h hf
          refine lv_aload_n hx hb dX7_takesE_119 rfl (lv_at hl 1 rfl) ?_
          refine lv_iload_n hx hb dX7_takesE_120 rfl (lv_at hl 3 rfl) ?_
          obtain ⟨r4, S5, hc, hf⟩ := bd2_out hf
          refine y_i (va_runV (As := [.int v3]) (rest := []) hfix (m_X7_takesOne l G B E hE S v3 r4 S5 hc) (cwV 1 hts gX7_takesE_X7_takesOne rfl rfl rfl ⟨rfl, hd_X7_takesOne⟩ ⟨Nat.le_of_ble_eq_true rfl, Nat.le_of_ble_eq_true rfl⟩) (y_pv hF hW hS (c1 hE) (e1 _ _ _ _ _ _) rfl) rfl rfl hl.1 rfl (lv_room (Nat.le_of_ble_eq_true rfl)) dX7_takesE_121 ⟨Nat.le_of_ble_eq_true rfl, Nat.le_of_ble_eq_true rfl⟩) hS (fun H locs hW hS => ?_)
          refine lv_goto (tgt := 131) hx hb dX7_takesE_124 (by decide) ?_
          exact w131 S5 v2 v4 v5 t0 r4  hf _ _ _ hW hS (lv_sub hl [1, 2, 4, 5, 0] rfl)
      have w98 : ∀ (S : ST) (v2 : Int32) (v3 : Int32) (v4 : Int32) (t0 : Int32) , f_X7_takesE_b98 E (f_X7_takesE_b19 E n19) S v2 v3 v4 t0 = some (rr, SS) → ∀ (H : Heap) (locs : List Loc) (ls : Array Slot), WH G B E S H → va_S (AA G) s.heap H locs → lv_has ls 8 [(0, .ref (B 1 0)), (2, .int v2), (3, .int v3), (4, .int v4)] → W p l e (headSpec wsX7_takesE (rmN 5)).room s m [.ref (B 1 0), .int a1].toArray below meth c H locs 0 0 (MQ below (QI G B E SS rr) [.ref (B 1 0), .int a1].toArray s 0 0 (AA G)) (F0 m 98 ls [.int t0]) := by
        intro S v2 v3 v4 t0 hf H locs ls hW hS hl
        unfold f_X7_takesE_b98 at hf
        refine lv_istore (lv' := [(5, .int t0), (0, .ref (B 1 0)), (2, .int v2), (3, .int v3), (4, .int v4)]) hx hb dX7_takesE_98 hl (by decide) rfl (fun ls hl => ?_)
        refine lv_aload_n hx hb dX7_takesE_100 rfl (lv_at hl 1 rfl) ?_
        refine x_get hx hb hts hi7 hown hK hW (c1 hE) (e1 _ _ _ _ _ _) rfl 10 (Nat.le_of_ble_eq_true rfl) q0 (fun _ h => h) (v := .int (gI S 1 0 10)) rfl dX7_takesE_101 ?_
        refine lv_iconst (v := 2) hx hb dX7_takesE_104 rfl ?_
        refine lv_icmp_ne (tgt := 112) hx hb dX7_takesE_105 (by decide) (fun h => ?_) (fun h => ?_)
        · have hf := if_f h hf
          refine lv_iconst (v := 0) hx hb dX7_takesE_112 rfl ?_
          exact w113 S v2 v3 v4 t0 (0 : Int32)  hf _ _ _ hW hS (lv_sub hl [1, 2, 3, 4, 0] rfl)
        · have hf := if_t h hf
          refine lv_iconst (v := 1) hx hb dX7_takesE_108 rfl ?_
          refine lv_goto (tgt := 113) hx hb dX7_takesE_109 (by decide) ?_
          exact w113 S v2 v3 v4 t0 (1 : Int32)  hf _ _ _ hW hS (lv_sub hl [1, 2, 3, 4, 0] rfl)
      have w75 : ∀ (S : ST) (v2 : Int32) (v3 : Int32) , f_X7_takesE_b75 E (f_X7_takesE_b19 E n19) S v2 v3 = some (rr, SS) → ∀ (H : Heap) (locs : List Loc) (ls : Array Slot), WH G B E S H → va_S (AA G) s.heap H locs → lv_has ls 8 [(0, .ref (B 1 0)), (2, .int v2), (3, .int v3)] → W p l e (headSpec wsX7_takesE (rmN 5)).room s m [.ref (B 1 0), .int a1].toArray below meth c H locs 0 0 (MQ below (QI G B E SS rr) [.ref (B 1 0), .int a1].toArray s 0 0 (AA G)) (F0 m 75 ls []) := by
        intro S v2 v3 hf H locs ls hW hS hl
        unfold f_X7_takesE_b75 at hf
        refine lv_aload_n hx hb dX7_takesE_75 rfl (lv_at hl 0 rfl) ?_
        refine lv_sipush (v := 14836) hx hb dX7_takesE_76 (by decide) ?_
        obtain ⟨r6, hc, hf⟩ := bd_out hf
        refine y_i (va_runV (As := [.int (14836 : Int32)]) (rest := []) hfix (m_X7_isWord l G B E hE S (14836 : Int32) r6 hc) (cwV 1 hts gX7_takesE_X7_isWord rfl rfl rfl ⟨rfl, hd_X7_isWord⟩ ⟨Nat.le_of_ble_eq_true rfl, Nat.le_of_ble_eq_true rfl⟩) (y_pv hF hW hS (c1 hE) (e1 _ _ _ _ _ _) rfl) rfl rfl hl.1 rfl (lv_room (Nat.le_of_ble_eq_true rfl)) dX7_takesE_79 ⟨Nat.le_of_ble_eq_true rfl, Nat.le_of_ble_eq_true rfl⟩) hS (fun H locs hW hS => ?_)
        refine lv_istore (lv' := [(4, .int r6), (0, .ref (B 1 0)), (2, .int v2), (3, .int v3)]) hx hb dX7_takesE_82 hl (by decide) rfl (fun ls hl => ?_)
        refine lv_aload_n hx hb dX7_takesE_84 rfl (lv_at hl 1 rfl) ?_
        refine x_get hx hb hts hi7 hown hK hW (c1 hE) (e1 _ _ _ _ _ _) rfl 10 (Nat.le_of_ble_eq_true rfl) q0 (fun _ h => h) (v := .int (gI S 1 0 10)) rfl dX7_takesE_85 ?_
        refine lv_bipush (v := 40) hx hb dX7_takesE_88 (by decide) ?_
        refine lv_icmp_ne (tgt := 97) hx hb dX7_takesE_90 (by decide) (fun h => ?_) (fun h => ?_)
        · have hf := if_f h hf
          refine lv_iconst (v := 0) hx hb dX7_takesE_97 rfl ?_
          exact w98 S v2 v3 r6 (0 : Int32)  hf _ _ _ hW hS (lv_sub hl [1, 2, 3, 0] rfl)
        · have hf := if_t h hf
          refine lv_iconst (v := 1) hx hb dX7_takesE_93 rfl ?_
          refine lv_goto (tgt := 98) hx hb dX7_takesE_94 (by decide) ?_
          exact w98 S v2 v3 r6 (1 : Int32)  hf _ _ _ hW hS (lv_sub hl [1, 2, 3, 0] rfl)
      intro S v2 v3 hf H locs ls hW hS hl
      have hf : g_X7_takesE_b19 E (f_X7_takesE_b19 E n19) S v2 v3 = some (rr, SS) := hf
      unfold g_X7_takesE_b19 at hf
      refine lv_iload_n hx hb dX7_takesE_19 rfl (lv_at hl 1 rfl) ?_
      refine lv_if_ne (tgt := 75) hx hb dX7_takesE_20 (by decide) (fun h => ?_) (fun h => ?_)
      · have hf := if_f h hf
        exact w75 S v2 v3  hf _ _ _ hW hS (lv_sub hl [0, 1, 2] rfl)
      · have hf := if_t h hf
        refine lv_aload_n hx hb dX7_takesE_23 rfl (lv_at hl 0 rfl) ?_
        refine x_get hx hb hts hi7 hown hK hW (c1 hE) (e1 _ _ _ _ _ _) rfl 10 (Nat.le_of_ble_eq_true rfl) q0 (fun _ h => h) (v := .int (gI S 1 0 10)) rfl dX7_takesE_24 ?_
        refine lv_bipush (v := 41) hx hb dX7_takesE_27 (by decide) ?_
        refine lv_icmp_eq (tgt := 75) hx hb dX7_takesE_29 (by decide) (fun h => ?_) (fun h => ?_)
        · have hf := if_t h hf
          exact w75 S v2 v3  hf _ _ _ hW hS (lv_sub hl [0, 1, 2] rfl)
        · have hf := if_f h hf
          refine lv_aload_n hx hb dX7_takesE_32 rfl (lv_at hl 0 rfl) ?_
          refine x_get hx hb hts hi7 hown hK hW (c1 hE) (e1 _ _ _ _ _ _) rfl 10 (Nat.le_of_ble_eq_true rfl) q0 (fun _ h => h) (v := .int (gI S 1 0 10)) rfl dX7_takesE_33 ?_
          refine lv_bipush (v := 59) hx hb dX7_takesE_36 (by decide) ?_
          refine lv_icmp_eq (tgt := 48) hx hb dX7_takesE_38 (by decide) (fun h => ?_) (fun h => ?_)
          · have hf := if_t h hf
            exact w48 S  hf _ _ _ hW hS (lv_sub hl [0] rfl)
          · have hf := if_f h hf
            refine lv_aload_n hx hb dX7_takesE_41 rfl (lv_at hl 0 rfl) ?_
            refine x_get hx hb hts hi7 hown hK hW (c1 hE) (e1 _ _ _ _ _ _) rfl 10 (Nat.le_of_ble_eq_true rfl) q0 (fun _ h => h) (v := .int (gI S 1 0 10)) rfl dX7_takesE_42 ?_
            refine lv_if_ge (tgt := 75) hx hb dX7_takesE_45 (by decide) (fun h => ?_) (fun h => ?_)
            · have hf := if_t h hf
              exact w75 S v2 v3  hf _ _ _ hW hS (lv_sub hl [0, 1, 2] rfl)
            · have hf := if_f h hf
              exact w48 S  hf _ _ _ hW hS (lv_sub hl [0] rfl)
  unfold f_X7_takesE at hf
  refine lv_aload_n hx hb dX7_takesE_0 rfl (lv_at hl 0 rfl) ?_
  refine lv_iload_n hx hb dX7_takesE_1 rfl (lv_at hl 1 rfl) ?_
  obtain ⟨S8, e_S8, hf⟩ := lt_out hf
  refine x_putI hx hb hts hi7 tyX7 tyX7_ok nmX7 hown hK hW hS (c1 hE) (e1 _ _ _) rfl 15 (Nat.le_of_ble_eq_true rfl) q2 (fun _ h => h) rfl (tyX7_ok 15 (Nat.le_of_ble_eq_true rfl)) rfl rfl (Nat.le_of_ble_eq_true rfl) (pu1_15 _ _) e_S8 dX7_takesE_2 (fun H locs hW hS => ?_)
  refine lv_aload_n hx hb dX7_takesE_5 rfl (lv_at hl 0 rfl) ?_
  refine lv_iconst (v := 0) hx hb dX7_takesE_6 rfl ?_
  obtain ⟨S9, e_S9, hf⟩ := lt_out hf
  refine x_putI hx hb hts hi7 tyX7 tyX7_ok nmX7 hown hK hW hS (c1 hE) (e1 _ _ _) rfl 14 (Nat.le_of_ble_eq_true rfl) q1 (fun _ h => h) rfl (tyX7_ok 14 (Nat.le_of_ble_eq_true rfl)) rfl rfl (Nat.le_of_ble_eq_true rfl) (pu1_14 _ _) e_S9 dX7_takesE_7 (fun H locs hW hS => ?_)
  refine lv_aload_n hx hb dX7_takesE_10 rfl (lv_at hl 0 rfl) ?_
  refine lv_iconst (v := 0) hx hb dX7_takesE_11 rfl ?_
  obtain ⟨S10, e_S10, hf⟩ := lt_out hf
  refine x_putI hx hb hts hi7 tyX7 tyX7_ok nmX7 hown hK hW hS (c1 hE) (e1 _ _ _) rfl 13 (Nat.le_of_ble_eq_true rfl) q3 (fun _ h => h) rfl (tyX7_ok 13 (Nat.le_of_ble_eq_true rfl)) rfl rfl (Nat.le_of_ble_eq_true rfl) (pu1_13 _ _) e_S10 dX7_takesE_12 (fun H locs hW hS => ?_)
  refine lv_iconst (v := 1) hx hb dX7_takesE_15 rfl ?_
  refine lv_istore_n (lv' := [(2, .int (1 : Int32)), (0, .ref (B 1 0)), (1, .int a1)]) hx hb dX7_takesE_16 rfl hl (by decide) rfl (fun ls hl => ?_)
  refine lv_iconst (v := 1) hx hb dX7_takesE_17 rfl ?_
  refine lv_istore_n (lv' := [(3, .int (1 : Int32)), (2, .int (1 : Int32)), (0, .ref (B 1 0)), (1, .int a1)]) hx hb dX7_takesE_18 rfl hl (by decide) rfl (fun ls hl => ?_)
  exact w19 E.1 S10 (1 : Int32) (1 : Int32)  hf _ _ _ hW hS (lv_sub hl [2, 1, 0] rfl)
set_option maxHeartbeats 4000000 in
set_option maxRecDepth 100000 in
theorem m_X7_takesPart (l : Launch) (G : GE) (B : Nat → Nat → Nat) (E : EN) (hE : 0 < E.2.2.2)  (S : ST) (a1 : Int32) (a2 : Int32) (a3 : Int32) (rr : Int32) (SS : ST) (hf : f_X7_takesPart E S a1 a2 a3 = some (rr, SS)) : Met l yX7_takesPart wsX7_takesPart (rmN 6) (va_Pc [.ref (B 1 0), .int a1, .int a2, .int a3] (WS G B E S)) (QI G B E SS rr) 0 0 (AA G) := by
  refine Met.ofW (cc := cX7_takesPart) (maxL := 5) (ret := (some .boolean)) (by decide) rfl ?_
  intro p e s m args below meth c s₁ B0 hml hv
  obtain ⟨rfl, hW, hF⟩ := hv
  have hx := B0.exec
  have hb := B0.bytes
  have hr := B0.returns
  have hts := atoms_spec (ws := wsX7_takesPart) B0.pre
  have hown : s.vm.findClass RX7 = some m.cls := findClass_of_methodNamed B0.named
  have hlocks := B0.notSynchronized
  have hK := hF.1
  have hfix : CallFix p m c cX7_takesPart 5 s [.ref (B 1 0), .int a1, .int a2, .int a3].toArray wsX7_takesPart RX7 := ⟨hx, hb, hml, hown, hts⟩
  have hS : va_S (AA G) s.heap s.heap [] := va_S.rf
  have hl := lv_entry [.ref (B 1 0), .int a1, .int a2, .int a3] (n := 5) (Nat.le_of_ble_eq_true rfl)
  rw [lg_entry_eq]
  generalize (lg_sl [.ref (B 1 0), .int a1, .int a2, .int a3] ++ List.replicate (5 - (lg_sl [.ref (B 1 0), .int a1, .int a2, .int a3]).length) Slot.unset).toArray = ls at hl ⊢
  have hl : lv_has ls 5 [(0, .ref (B 1 0)), (1, .int a1), (2, .int a2), (3, .int a3)] := hl
  have q0 := hts (.fieldLink RX7 89 "MovesUpModel" "many" "[I") (List.mem_of_getElem? (i := 1) rfl)
  have q1 := hts (.fieldLink RX7 77 "MovesUpModel" "made" "I") (List.mem_of_getElem? (i := 2) rfl)
  have hi7 : ∀ w ∈ u_ws RX7 TX7 47, w ∈ wsX7_takesPart := in_seg 95 rfl
  unfold f_X7_takesPart at hf
  refine lv_aload_n hx hb dX7_takesPart_0 rfl (lv_at hl 0 rfl) ?_
  refine lv_iload_n hx hb dX7_takesPart_1 rfl (lv_at hl 3 rfl) ?_
  obtain ⟨r1, hc, hf⟩ := bd_out hf
  refine y_i (va_runV (As := [.int a3]) (rest := []) hfix (m_X7_isWord l G B E hE S a3 r1 hc) (cwV 1 hts gX7_takesPart_X7_isWord rfl rfl rfl ⟨rfl, hd_X7_isWord⟩ ⟨Nat.le_of_ble_eq_true rfl, Nat.le_of_ble_eq_true rfl⟩) (y_pv hF hW hS (c1 hE) (e1 _ _ _ _ _ _) rfl) rfl rfl hl.1 rfl (lv_room (Nat.le_of_ble_eq_true rfl)) dX7_takesPart_2 ⟨Nat.le_of_ble_eq_true rfl, Nat.le_of_ble_eq_true rfl⟩) hS (fun H locs hW hS => ?_)
  refine lv_if_ne (tgt := 10) hx hb dX7_takesPart_5 (by decide) (fun h => ?_) (fun h => ?_)
  · have hf := if_f h hf
    refine lv_aload_n hx hb dX7_takesPart_10 rfl (lv_at hl 0 rfl) ?_
    obtain ⟨S2, hc, hf⟩ := bd_out hf
    refine y_v (va_runV (As := []) (rest := []) hfix (m_X7_goOn l G B E hE S  S2 hc) (cwV 0 hts gX7_takesPart_X7_goOn rfl rfl rfl ⟨rfl, hd_X7_goOn⟩ ⟨Nat.le_of_ble_eq_true rfl, Nat.le_of_ble_eq_true rfl⟩) (y_pv hF hW hS (c1 hE) (e1 _ _ _ _ _ _) rfl) rfl rfl hl.1 rfl (lv_room (Nat.le_of_ble_eq_true rfl)) dX7_takesPart_11 ⟨Nat.le_of_ble_eq_true rfl, Nat.le_of_ble_eq_true rfl⟩) hS (fun H locs hW hS => ?_)
    refine lv_sipush (v := 480) hx hb dX7_takesPart_14 (by decide) ?_
    refine lv_iload_n hx hb dX7_takesPart_17 rfl (lv_at hl 1 rfl) ?_
    refine lv_imul hx hb dX7_takesPart_18 ?_
    refine lv_sipush (v := 160) hx hb dX7_takesPart_19 (by decide) ?_
    refine lv_iload_n hx hb dX7_takesPart_22 rfl (lv_at hl 2 rfl) ?_
    refine lv_imul hx hb dX7_takesPart_23 ?_
    refine lv_iadd hx hb dX7_takesPart_24 ?_
    obtain ⟨x3, e_x3, hf⟩ := lt_out hf
    refine x_nmI e_x3 ?_
    refine lv_istore (lv' := [(4, .int x3), (0, .ref (B 1 0)), (1, .int a1), (2, .int a2), (3, .int a3)]) hx hb dX7_takesPart_25 hl (by decide) rfl (fun ls hl => ?_)
    refine lv_aload_n hx hb dX7_takesPart_27 rfl (lv_at hl 1 rfl) ?_
    refine lv_iload hx hb dX7_takesPart_28 (lv_at hl 0 rfl) ?_
    obtain ⟨r4, S5, hc, hf⟩ := bd2_out hf
    refine y_i (va_runV (As := [.int x3]) (rest := []) hfix (m_X7_takesE l G B E hE S2 x3 r4 S5 hc) (cwV 1 hts gX7_takesPart_X7_takesE rfl rfl rfl ⟨rfl, hd_X7_takesE⟩ ⟨Nat.le_of_ble_eq_true rfl, Nat.le_of_ble_eq_true rfl⟩) (y_pv hF hW hS (c1 hE) (e1 _ _ _ _ _ _) rfl) rfl rfl hl.1 rfl (lv_room (Nat.le_of_ble_eq_true rfl)) dX7_takesPart_30 ⟨Nat.le_of_ble_eq_true rfl, Nat.le_of_ble_eq_true rfl⟩) hS (fun H locs hW hS => ?_)
    refine lv_if_ne (tgt := 38) hx hb dX7_takesPart_33 (by decide) (fun h => ?_) (fun h => ?_)
    · have hf := if_f h hf
      refine lv_aload_n hx hb dX7_takesPart_38 rfl (lv_at hl 1 rfl) ?_
      refine x_get hx hb hts hi7 hown hK hW (c1 hE) (e1 _ _ _ _ _ _) rfl 19 (Nat.le_of_ble_eq_true rfl) q0 (fun _ h => h) (v := .ref (B 59 0)) rfl dX7_takesPart_39 ?_
      refine lv_iconst (v := 3) hx hb dX7_takesPart_42 rfl ?_
      refine lv_iload_n hx hb dX7_takesPart_43 rfl (lv_at hl 2 rfl) ?_
      refine lv_imul hx hb dX7_takesPart_44 ?_
      refine lv_iload_n hx hb dX7_takesPart_45 rfl (lv_at hl 3 rfl) ?_
      refine lv_iadd hx hb dX7_takesPart_46 ?_
      refine lv_aload_n hx hb dX7_takesPart_47 rfl (lv_at hl 1 rfl) ?_
      refine x_get hx hb hts hi7 hown hK hW (c1 hE) (e1 _ _ _ _ _ _) rfl 15 (Nat.le_of_ble_eq_true rfl) q1 (fun _ h => h) (v := .int (gI S5 1 0 15)) rfl dX7_takesPart_48 ?_
      refine lv_iload hx hb dX7_takesPart_51 (lv_at hl 0 rfl) ?_
      refine lv_isub hx hb dX7_takesPart_53 ?_
      obtain ⟨hi_6, hf⟩ := ck_out hf
      have hi_6 := ib_in hi_6
      obtain ⟨S7, e_S7, hf⟩ := lt_out hf
      refine x_iast hx hb hK hW hS (c59 hE) (fun f r => e59 _ _ _ f _ r) hi_6 (jn := (((3 : Int32) * a1) + a2).toNatClampNeg) rfl e_S7 dX7_takesPart_54 (fun H locs hW hS => ?_)
      refine lv_aload_n hx hb dX7_takesPart_55 rfl (lv_at hl 1 rfl) ?_
      obtain ⟨S8, hc, hf⟩ := bd_out hf
      refine y_v (va_runV (As := []) (rest := []) hfix (m_X7_goOn l G B E hE S7  S8 hc) (cwV 0 hts gX7_takesPart_X7_goOn rfl rfl rfl ⟨rfl, hd_X7_goOn⟩ ⟨Nat.le_of_ble_eq_true rfl, Nat.le_of_ble_eq_true rfl⟩) (y_pv hF hW hS (c1 hE) (e1 _ _ _ _ _ _) rfl) rfl rfl hl.1 rfl (lv_room (Nat.le_of_ble_eq_true rfl)) dX7_takesPart_56 ⟨Nat.le_of_ble_eq_true rfl, Nat.le_of_ble_eq_true rfl⟩) hS (fun H locs hW hS => ?_)
      refine lv_iconst (v := 1) hx hb dX7_takesPart_59 rfl ?_
      exact z_i hf hx hb hr rfl hF hW hS dX7_takesPart_60 hlocks
    · have hf := if_t h hf
      refine lv_iconst (v := 0) hx hb dX7_takesPart_36 rfl ?_
      exact z_i hf hx hb hr rfl hF hW hS dX7_takesPart_37 hlocks
  · have hf := if_t h hf
    refine lv_iconst (v := 0) hx hb dX7_takesPart_8 rfl ?_
    exact z_i hf hx hb hr rfl hF hW hS dX7_takesPart_9 hlocks
set_option maxHeartbeats 4000000 in
set_option maxRecDepth 100000 in
theorem m_X7_text (l : Launch) (G : GE) (B : Nat → Nat → Nat) (E : EN) (hE : 0 < E.2.2.2)  (S : ST)  (rr : Int32) (SS : ST) (hf : f_X7_text E S = some (rr, SS)) : Met l yX7_text wsX7_text (rmN 7) (va_Pc [.ref (B 1 0)] (WS G B E S)) (QI G B E SS rr) 0 0 (AA G) := by
  refine Met.ofW (cc := cX7_text) (maxL := 2) (ret := (some .int)) (by decide) rfl ?_
  intro p e s m args below meth c s₁ B0 hml hv
  obtain ⟨rfl, hW, hF⟩ := hv
  have hx := B0.exec
  have hb := B0.bytes
  have hr := B0.returns
  have hts := atoms_spec (ws := wsX7_text) B0.pre
  have hown : s.vm.findClass RX7 = some m.cls := findClass_of_methodNamed B0.named
  have hlocks := B0.notSynchronized
  have hK := hF.1
  have hfix : CallFix p m c cX7_text 2 s [.ref (B 1 0)].toArray wsX7_text RX7 := ⟨hx, hb, hml, hown, hts⟩
  have hS : va_S (AA G) s.heap s.heap [] := va_S.rf
  have hl := lv_entry [.ref (B 1 0)] (n := 2) (Nat.le_of_ble_eq_true rfl)
  rw [lg_entry_eq]
  generalize (lg_sl [.ref (B 1 0)] ++ List.replicate (2 - (lg_sl [.ref (B 1 0)]).length) Slot.unset).toArray = ls at hl ⊢
  have hl : lv_has ls 2 [(0, .ref (B 1 0))] := hl
  have q0 := hts (.fieldLink RX7 56 "MovesUpModel" "fed" "I") (List.mem_of_getElem? (i := 6) rfl)
  have q1 := hts (.fieldLink RX7 50 "MovesUpModel" "texts" "I") (List.mem_of_getElem? (i := 1) rfl)
  have q2 := hts (.fieldLink RX7 59 "MovesUpModel" "at" "I") (List.mem_of_getElem? (i := 2) rfl)
  have q3 := hts (.constant RX7 200 (12748366)) (List.mem_of_getElem? (i := 3) rfl)
  have q4 := hts (.constant RX7 201 (19176724)) (List.mem_of_getElem? (i := 4) rfl)
  have q5 := hts (.fieldLink RX7 62 "MovesUpModel" "token" "I") (List.mem_of_getElem? (i := 5) rfl)
  have hi7 : ∀ w ∈ u_ws RX7 TX7 47, w ∈ wsX7_text := in_seg 100 rfl
  have w77 : ∀ (S : ST) (t0 : Int32) , f_X7_text_b77 E S t0 = some (rr, SS) → ∀ (H : Heap) (locs : List Loc) (ls : Array Slot), WH G B E S H → va_S (AA G) s.heap H locs → lv_has ls 2 [(0, .ref (B 1 0))] → W p l e (headSpec wsX7_text (rmN 7)).room s m [.ref (B 1 0)].toArray below meth c H locs 0 0 (MQ below (QI G B E SS rr) [.ref (B 1 0)].toArray s 0 0 (AA G)) (F0 m 77 ls [.int t0]) := by
    intro S t0 hf H locs ls hW hS hl
    unfold f_X7_text_b77 at hf
    refine lv_istore_n (lv' := [(1, .int t0), (0, .ref (B 1 0))]) hx hb dX7_text_77 rfl hl (by decide) rfl (fun ls hl => ?_)
    refine lv_aload_n hx hb dX7_text_78 rfl (lv_at hl 1 rfl) ?_
    refine lv_iconst (v := 0) hx hb dX7_text_79 rfl ?_
    obtain ⟨S1, e_S1, hf⟩ := lt_out hf
    refine x_putI hx hb hts hi7 tyX7 tyX7_ok nmX7 hown hK hW hS (c1 hE) (e1 _ _ _) rfl 8 (Nat.le_of_ble_eq_true rfl) q0 (fun _ h => h) rfl (tyX7_ok 8 (Nat.le_of_ble_eq_true rfl)) rfl rfl (Nat.le_of_ble_eq_true rfl) (pu1_8 _ _) e_S1 dX7_text_80 (fun H locs hW hS => ?_)
    refine lv_iload_n hx hb dX7_text_83 rfl (lv_at hl 0 rfl) ?_
    refine lv_if_ne (tgt := 95) hx hb dX7_text_84 (by decide) (fun h => ?_) (fun h => ?_)
    · have hf := if_f h hf
      refine lv_aload_n hx hb dX7_text_95 rfl (lv_at hl 1 rfl) ?_
      refine lv_dup hx hb dX7_text_96 rfl ?_
      refine x_get hx hb hts hi7 hown hK hW (c1 hE) (e1 _ _ _ _ _ _) rfl 6 (Nat.le_of_ble_eq_true rfl) q1 (fun _ h => h) (v := .int (gI S1 1 0 6)) rfl dX7_text_97 ?_
      refine lv_iconst (v := 1) hx hb dX7_text_100 rfl ?_
      refine lv_iadd hx hb dX7_text_101 ?_
      obtain ⟨S2, e_S2, hf⟩ := lt_out hf
      refine x_putI hx hb hts hi7 tyX7 tyX7_ok nmX7 hown hK hW hS (c1 hE) (e1 _ _ _) rfl 6 (Nat.le_of_ble_eq_true rfl) q1 (fun _ h => h) rfl (tyX7_ok 6 (Nat.le_of_ble_eq_true rfl)) rfl rfl (Nat.le_of_ble_eq_true rfl) (pu1_6 _ _) e_S2 dX7_text_102 (fun H locs hW hS => ?_)
      refine lv_aload_n hx hb dX7_text_105 rfl (lv_at hl 1 rfl) ?_
      refine x_get hx hb hts hi7 hown hK hW (c1 hE) (e1 _ _ _ _ _ _) rfl 6 (Nat.le_of_ble_eq_true rfl) q1 (fun _ h => h) (v := .int (gI S2 1 0 6)) rfl dX7_text_106 ?_
      refine lv_iconst (v := 1) hx hb dX7_text_109 rfl ?_
      refine lv_isub hx hb dX7_text_110 ?_
      exact z_i hf hx hb hr rfl hF hW hS dX7_text_111 hlocks
    · have hf := if_t h hf
      refine lv_bipush (v := -100) hx hb dX7_text_87 (by decide) ?_
      refine lv_aload_n hx hb dX7_text_89 rfl (lv_at hl 1 rfl) ?_
      refine x_get hx hb hts hi7 hown hK hW (c1 hE) (e1 _ _ _ _ _ _) rfl 9 (Nat.le_of_ble_eq_true rfl) q2 (fun _ h => h) (v := .int (gI S1 1 0 9)) rfl dX7_text_90 ?_
      refine lv_isub hx hb dX7_text_93 ?_
      exact z_i hf hx hb hr rfl hF hW hS dX7_text_94 hlocks
  have w76 : ∀ (S : ST)  , f_X7_text_b76 E S  = some (rr, SS) → ∀ (H : Heap) (locs : List Loc) (ls : Array Slot), WH G B E S H → va_S (AA G) s.heap H locs → lv_has ls 2 [(0, .ref (B 1 0))] → W p l e (headSpec wsX7_text (rmN 7)).room s m [.ref (B 1 0)].toArray below meth c H locs 0 0 (MQ below (QI G B E SS rr) [.ref (B 1 0)].toArray s 0 0 (AA G)) (F0 m 76 ls []) := by
    intro S  hf H locs ls hW hS hl
    unfold f_X7_text_b76 at hf
    refine lv_iconst (v := 0) hx hb dX7_text_76 rfl ?_
    exact w77 S (0 : Int32)  hf _ _ _ hW hS (lv_sub hl [0] rfl)
  unfold f_X7_text at hf
  refine lv_aload_n hx hb dX7_text_0 rfl (lv_at hl 0 rfl) ?_
  refine x_get hx hb hts hi7 hown hK hW (c1 hE) (e1 _ _ _ _ _ _) rfl 6 (Nat.le_of_ble_eq_true rfl) q1 (fun _ h => h) (v := .int (gI S 1 0 6)) rfl dX7_text_1 ?_
  refine lv_bipush (v := 6) hx hb dX7_text_4 (by decide) ?_
  refine lv_icmp_ne (tgt := 12) hx hb dX7_text_6 (by decide) (fun h => ?_) (fun h => ?_)
  · have hf := if_f h hf
    refine lv_aload_n hx hb dX7_text_12 rfl (lv_at hl 0 rfl) ?_
    refine lv_iconst (v := 0) hx hb dX7_text_13 rfl ?_
    obtain ⟨S3, e_S3, hf⟩ := lt_out hf
    refine x_putI hx hb hts hi7 tyX7 tyX7_ok nmX7 hown hK hW hS (c1 hE) (e1 _ _ _) rfl 9 (Nat.le_of_ble_eq_true rfl) q2 (fun _ h => h) rfl (tyX7_ok 9 (Nat.le_of_ble_eq_true rfl)) rfl rfl (Nat.le_of_ble_eq_true rfl) (pu1_9 _ _) e_S3 dX7_text_14 (fun H locs hW hS => ?_)
    refine lv_aload_n hx hb dX7_text_17 rfl (lv_at hl 0 rfl) ?_
    obtain ⟨S4, hc, hf⟩ := bd_out hf
    refine y_v (va_runV (As := []) (rest := []) hfix (m_X7_look l G B E hE S3  S4 hc) (cwV 0 hts gX7_text_X7_look rfl rfl rfl ⟨rfl, hd_X7_look⟩ ⟨Nat.le_of_ble_eq_true rfl, Nat.le_of_ble_eq_true rfl⟩) (y_pv hF hW hS (c1 hE) (e1 _ _ _ _ _ _) rfl) rfl rfl hl.1 rfl (lv_room (Nat.le_of_ble_eq_true rfl)) dX7_text_18 ⟨Nat.le_of_ble_eq_true rfl, Nat.le_of_ble_eq_true rfl⟩) hS (fun H locs hW hS => ?_)
    refine lv_aload_n hx hb dX7_text_21 rfl (lv_at hl 0 rfl) ?_
    refine lv_aload_n hx hb dX7_text_22 rfl (lv_at hl 0 rfl) ?_
    refine x_get hx hb hts hi7 hown hK hW (c1 hE) (e1 _ _ _ _ _ _) rfl 6 (Nat.le_of_ble_eq_true rfl) q1 (fun _ h => h) (v := .int (gI S4 1 0 6)) rfl dX7_text_23 ?_
    refine lv_iconst (v := 0) hx hb dX7_text_26 rfl ?_
    refine lv_ldc hx hb hown q3 dX7_text_27 ?_
    obtain ⟨r5, S6, hc, hf⟩ := bd2_out hf
    refine y_i (va_runV (As := [.int (gI S4 1 0 6), .int (0 : Int32), .int (12748366 : Int32)]) (rest := []) hfix (m_X7_takesPart l G B E hE S4 (gI S4 1 0 6) (0 : Int32) (12748366 : Int32) r5 S6 hc) (cwV 3 hts gX7_text_X7_takesPart rfl rfl rfl ⟨rfl, hd_X7_takesPart⟩ ⟨Nat.le_of_ble_eq_true rfl, Nat.le_of_ble_eq_true rfl⟩) (y_pv hF hW hS (c1 hE) (e1 _ _ _ _ _ _) rfl) rfl rfl hl.1 rfl (lv_room (Nat.le_of_ble_eq_true rfl)) dX7_text_29 ⟨Nat.le_of_ble_eq_true rfl, Nat.le_of_ble_eq_true rfl⟩) hS (fun H locs hW hS => ?_)
    refine lv_if_eq (tgt := 76) hx hb dX7_text_32 (by decide) (fun h => ?_) (fun h => ?_)
    · have hf := if_t h hf
      exact w76 S6  hf _ _ _ hW hS (lv_sub hl [0] rfl)
    · have hf := if_f h hf
      refine lv_aload_n hx hb dX7_text_35 rfl (lv_at hl 0 rfl) ?_
      refine lv_aload_n hx hb dX7_text_36 rfl (lv_at hl 0 rfl) ?_
      refine x_get hx hb hts hi7 hown hK hW (c1 hE) (e1 _ _ _ _ _ _) rfl 6 (Nat.le_of_ble_eq_true rfl) q1 (fun _ h => h) (v := .int (gI S6 1 0 6)) rfl dX7_text_37 ?_
      refine lv_iconst (v := 1) hx hb dX7_text_40 rfl ?_
      refine lv_ldc hx hb hown q4 dX7_text_41 ?_
      obtain ⟨r7, S8, hc, hf⟩ := bd2_out hf
      refine y_i (va_runV (As := [.int (gI S6 1 0 6), .int (1 : Int32), .int (19176724 : Int32)]) (rest := []) hfix (m_X7_takesPart l G B E hE S6 (gI S6 1 0 6) (1 : Int32) (19176724 : Int32) r7 S8 hc) (cwV 3 hts gX7_text_X7_takesPart rfl rfl rfl ⟨rfl, hd_X7_takesPart⟩ ⟨Nat.le_of_ble_eq_true rfl, Nat.le_of_ble_eq_true rfl⟩) (y_pv hF hW hS (c1 hE) (e1 _ _ _ _ _ _) rfl) rfl rfl hl.1 rfl (lv_room (Nat.le_of_ble_eq_true rfl)) dX7_text_43 ⟨Nat.le_of_ble_eq_true rfl, Nat.le_of_ble_eq_true rfl⟩) hS (fun H locs hW hS => ?_)
      refine lv_if_eq (tgt := 76) hx hb dX7_text_46 (by decide) (fun h => ?_) (fun h => ?_)
      · have hf := if_t h hf
        exact w76 S8  hf _ _ _ hW hS (lv_sub hl [0] rfl)
      · have hf := if_f h hf
        refine lv_aload_n hx hb dX7_text_49 rfl (lv_at hl 0 rfl) ?_
        refine lv_aload_n hx hb dX7_text_50 rfl (lv_at hl 0 rfl) ?_
        refine x_get hx hb hts hi7 hown hK hW (c1 hE) (e1 _ _ _ _ _ _) rfl 6 (Nat.le_of_ble_eq_true rfl) q1 (fun _ h => h) (v := .int (gI S8 1 0 6)) rfl dX7_text_51 ?_
        refine lv_iconst (v := 2) hx hb dX7_text_54 rfl ?_
        refine lv_sipush (v := 5572) hx hb dX7_text_55 (by decide) ?_
        obtain ⟨r9, S10, hc, hf⟩ := bd2_out hf
        refine y_i (va_runV (As := [.int (gI S8 1 0 6), .int (2 : Int32), .int (5572 : Int32)]) (rest := []) hfix (m_X7_takesPart l G B E hE S8 (gI S8 1 0 6) (2 : Int32) (5572 : Int32) r9 S10 hc) (cwV 3 hts gX7_text_X7_takesPart rfl rfl rfl ⟨rfl, hd_X7_takesPart⟩ ⟨Nat.le_of_ble_eq_true rfl, Nat.le_of_ble_eq_true rfl⟩) (y_pv hF hW hS (c1 hE) (e1 _ _ _ _ _ _) rfl) rfl rfl hl.1 rfl (lv_room (Nat.le_of_ble_eq_true rfl)) dX7_text_58 ⟨Nat.le_of_ble_eq_true rfl, Nat.le_of_ble_eq_true rfl⟩) hS (fun H locs hW hS => ?_)
        refine lv_if_eq (tgt := 76) hx hb dX7_text_61 (by decide) (fun h => ?_) (fun h => ?_)
        · have hf := if_t h hf
          exact w76 S10  hf _ _ _ hW hS (lv_sub hl [0] rfl)
        · have hf := if_f h hf
          refine lv_aload_n hx hb dX7_text_64 rfl (lv_at hl 0 rfl) ?_
          refine x_get hx hb hts hi7 hown hK hW (c1 hE) (e1 _ _ _ _ _ _) rfl 10 (Nat.le_of_ble_eq_true rfl) q5 (fun _ h => h) (v := .int (gI S10 1 0 10)) rfl dX7_text_65 ?_
          refine lv_iconst (v := -1) hx hb dX7_text_68 rfl ?_
          refine lv_icmp_ne (tgt := 76) hx hb dX7_text_69 (by decide) (fun h => ?_) (fun h => ?_)
          · have hf := if_f h hf
            exact w76 S10  hf _ _ _ hW hS (lv_sub hl [0] rfl)
          · have hf := if_t h hf
            refine lv_iconst (v := 1) hx hb dX7_text_72 rfl ?_
            refine lv_goto (tgt := 77) hx hb dX7_text_73 (by decide) ?_
            exact w77 S10 (1 : Int32)  hf _ _ _ hW hS (lv_sub hl [0] rfl)
  · have hf := if_t h hf
    refine lv_bipush (v := -4) hx hb dX7_text_9 (by decide) ?_
    exact z_i hf hx hb hr rfl hF hW hS dX7_text_11 hlocks
set_option maxHeartbeats 4000000 in
set_option maxRecDepth 100000 in
theorem m_X7_force (l : Launch) (G : GE) (B : Nat → Nat → Nat) (E : EN) (hE : 0 < E.2.2.2)  (S : ST) (a1 : Int32) (rr : Int32) (SS : ST) (hf : f_X7_force E S a1 = some (rr, SS)) : Met l yX7_force wsX7_force (rmN 2) (va_Pc [.ref (B 1 0), .int a1] (WS G B E S)) (QI G B E SS rr) 0 0 (AA G) := by
  refine Met.ofW (cc := cX7_force) (maxL := 3) (ret := (some .int)) (by decide) rfl ?_
  intro p e s m args below meth c s₁ B0 hml hv
  obtain ⟨rfl, hW, hF⟩ := hv
  have hx := B0.exec
  have hb := B0.bytes
  have hr := B0.returns
  have hts := atoms_spec (ws := wsX7_force) B0.pre
  have hown : s.vm.findClass RX7 = some m.cls := findClass_of_methodNamed B0.named
  have hlocks := B0.notSynchronized
  have hK := hF.1
  have hfix : CallFix p m c cX7_force 3 s [.ref (B 1 0), .int a1].toArray wsX7_force RX7 := ⟨hx, hb, hml, hown, hts⟩
  have hS : va_S (AA G) s.heap s.heap [] := va_S.rf
  have hl := lv_entry [.ref (B 1 0), .int a1] (n := 3) (Nat.le_of_ble_eq_true rfl)
  rw [lg_entry_eq]
  generalize (lg_sl [.ref (B 1 0), .int a1] ++ List.replicate (3 - (lg_sl [.ref (B 1 0), .int a1]).length) Slot.unset).toArray = ls at hl ⊢
  have hl : lv_has ls 3 [(0, .ref (B 1 0)), (1, .int a1)] := hl
  have q0 := hts (.fieldLink RX7 50 "MovesUpModel" "texts" "I") (List.mem_of_getElem? (i := 1) rfl)
  have q1 := hts (.fieldLink RX7 53 "MovesUpModel" "rule" "I") (List.mem_of_getElem? (i := 2) rfl)
  have hi7 : ∀ w ∈ u_ws RX7 TX7 47, w ∈ wsX7_force := in_seg 8 rfl
  unfold f_X7_force at hf
  refine lv_aload_n hx hb dX7_force_0 rfl (lv_at hl 0 rfl) ?_
  refine lv_iload_n hx hb dX7_force_1 rfl (lv_at hl 1 rfl) ?_
  refine lv_iconst (v := 0) hx hb dX7_force_2 rfl ?_
  refine lv_aload_n hx hb dX7_force_3 rfl (lv_at hl 0 rfl) ?_
  refine x_get hx hb hts hi7 hown hK hW (c1 hE) (e1 _ _ _ _ _ _) rfl 6 (Nat.le_of_ble_eq_true rfl) q0 (fun _ h => h) (v := .int (gI S 1 0 6)) rfl dX7_force_4 ?_
  refine lv_iconst (v := 1) hx hb dX7_force_7 rfl ?_
  refine lv_isub hx hb dX7_force_8 ?_
  obtain ⟨r1, hc, hf⟩ := bd_out hf
  refine y_i (va_runV (As := [.int a1, .int (0 : Int32), .int ((gI S 1 0 6) - (1 : Int32))]) (rest := []) hfix (m_X7_in l G B E hE S a1 (0 : Int32) ((gI S 1 0 6) - (1 : Int32)) r1 hc) (cwV 3 hts gX7_force_X7_in rfl rfl rfl ⟨rfl, hd_X7_in⟩ ⟨Nat.le_of_ble_eq_true rfl, Nat.le_of_ble_eq_true rfl⟩) (y_pv hF hW hS (c1 hE) (e1 _ _ _ _ _ _) rfl) rfl rfl hl.1 rfl (lv_room (Nat.le_of_ble_eq_true rfl)) dX7_force_9 ⟨Nat.le_of_ble_eq_true rfl, Nat.le_of_ble_eq_true rfl⟩) hS (fun H locs hW hS => ?_)
  refine lv_if_ne (tgt := 18) hx hb dX7_force_12 (by decide) (fun h => ?_) (fun h => ?_)
  · have hf := if_f h hf
    refine lv_aload_n hx hb dX7_force_18 rfl (lv_at hl 0 rfl) ?_
    refine x_get hx hb hts hi7 hown hK hW (c1 hE) (e1 _ _ _ _ _ _) rfl 7 (Nat.le_of_ble_eq_true rfl) q1 (fun _ h => h) (v := .int (gI S 1 0 7)) rfl dX7_force_19 ?_
    obtain ⟨x2, e_x2, hf⟩ := lt_out hf
    refine x_nmI e_x2 ?_
    refine lv_istore_n (lv' := [(2, .int x2), (0, .ref (B 1 0)), (1, .int a1)]) hx hb dX7_force_22 rfl hl (by decide) rfl (fun ls hl => ?_)
    refine lv_aload_n hx hb dX7_force_23 rfl (lv_at hl 1 rfl) ?_
    refine lv_iload_n hx hb dX7_force_24 rfl (lv_at hl 2 rfl) ?_
    obtain ⟨S3, e_S3, hf⟩ := lt_out hf
    refine x_putI hx hb hts hi7 tyX7 tyX7_ok nmX7 hown hK hW hS (c1 hE) (e1 _ _ _) rfl 7 (Nat.le_of_ble_eq_true rfl) q1 (fun _ h => h) rfl (tyX7_ok 7 (Nat.le_of_ble_eq_true rfl)) rfl rfl (Nat.le_of_ble_eq_true rfl) (pu1_7 _ _) e_S3 dX7_force_25 (fun H locs hW hS => ?_)
    refine lv_iload_n hx hb dX7_force_28 rfl (lv_at hl 0 rfl) ?_
    exact z_i hf hx hb hr rfl hF hW hS dX7_force_29 hlocks
  · have hf := if_t h hf
    refine lv_bipush (v := -2) hx hb dX7_force_15 (by decide) ?_
    exact z_i hf hx hb hr rfl hF hW hS dX7_force_17 hlocks
set_option maxHeartbeats 4000000 in
set_option maxRecDepth 100000 in
theorem m_X7_done (l : Launch) (G : GE) (B : Nat → Nat → Nat) (E : EN) (hE : 0 < E.2.2.2)  (S : ST) (a1 : Int32) (a2 : Int32) (a3 : Int32) (rr : Int32) (hf : f_X7_done E S a1 a2 a3 = some rr) : Met l yX7_done wsX7_done (rmN 1) (va_Pc [.ref (B 1 0), .int a1, .int a2, .int a3] (WS G B E S)) (QI G B E S rr) 0 0 (AA G) := by
  refine Met.ofW (cc := cX7_done) (maxL := 4) (ret := (some .int)) (by decide) rfl ?_
  intro p e s m args below meth c s₁ B0 hml hv
  obtain ⟨rfl, hW, hF⟩ := hv
  have hx := B0.exec
  have hb := B0.bytes
  have hr := B0.returns
  have hts := atoms_spec (ws := wsX7_done) B0.pre
  have hown : s.vm.findClass RX7 = some m.cls := findClass_of_methodNamed B0.named
  have hlocks := B0.notSynchronized
  have hK := hF.1
  have hfix : CallFix p m c cX7_done 4 s [.ref (B 1 0), .int a1, .int a2, .int a3].toArray wsX7_done RX7 := ⟨hx, hb, hml, hown, hts⟩
  have hS : va_S (AA G) s.heap s.heap [] := va_S.rf
  have hl := lv_entry [.ref (B 1 0), .int a1, .int a2, .int a3] (n := 4) (Nat.le_of_ble_eq_true rfl)
  rw [lg_entry_eq]
  generalize (lg_sl [.ref (B 1 0), .int a1, .int a2, .int a3] ++ List.replicate (4 - (lg_sl [.ref (B 1 0), .int a1, .int a2, .int a3]).length) Slot.unset).toArray = ls at hl ⊢
  have hl : lv_has ls 4 [(0, .ref (B 1 0)), (1, .int a1), (2, .int a2), (3, .int a3)] := hl
  have w52 : ∀ (_ : Unit)  , f_X7_done_b52 E S  = some rr → ∀ (H : Heap) (locs : List Loc) (ls : Array Slot), WH G B E S H → va_S (AA G) s.heap H locs → lv_has ls 4 [] → W p l e (headSpec wsX7_done (rmN 1)).room s m [.ref (B 1 0), .int a1, .int a2, .int a3].toArray below meth c H locs 0 0 (MQ below (QI G B E S rr) [.ref (B 1 0), .int a1, .int a2, .int a3].toArray s 0 0 (AA G)) (F0 m 52 ls []) := by
    intro _  hf H locs ls hW hS hl
    unfold f_X7_done_b52 at hf
    refine lv_iconst (v := 1) hx hb dX7_done_52 rfl ?_
    refine lv_goto (tgt := 57) hx hb dX7_done_53 (by decide) ?_
    exact zr_i hf hx hb hr rfl hF hW hS dX7_done_57 hlocks
  unfold f_X7_done at hf
  refine lv_iload_n hx hb dX7_done_0 rfl (lv_at hl 1 rfl) ?_
  by_cases hn0 : a1 = (2 : Int32)
  · have hf := if_t hn0 hf
    refine lv_tableIn hx hb dX7_done_1 (by rw [hn0]; decide) (by rw [hn0]; decide) (off := 43) (by rw [hn0]; rfl) (tgt := 44) (by decide) ?_
    refine lv_iload_n hx hb dX7_done_44 rfl (lv_at hl 2 rfl) ?_
    refine lv_if_ne (tgt := 52) hx hb dX7_done_45 (by decide) (fun h => ?_) (fun h => ?_)
    · have hf := if_f h hf
      exact w52 ()  hf _ _ _ hW hS (lv_sub hl [] rfl)
    · have hf := if_t h hf
      refine lv_iload_n hx hb dX7_done_48 rfl (lv_at hl 3 rfl) ?_
      refine lv_if_eq (tgt := 56) hx hb dX7_done_49 (by decide) (fun h => ?_) (fun h => ?_)
      · have hf := if_t h hf
        refine lv_iconst (v := 0) hx hb dX7_done_56 rfl ?_
        exact zr_i hf hx hb hr rfl hF hW hS dX7_done_57 hlocks
      · have hf := if_f h hf
        exact w52 ()  hf _ _ _ hW hS (lv_sub hl [] rfl)
  · have hf := if_f hn0 hf
    by_cases hn1 : a1 = (3 : Int32)
    · have hf := if_t hn1 hf
      refine lv_tableIn hx hb dX7_done_1 (by rw [hn1]; decide) (by rw [hn1]; decide) (off := 57) (by rw [hn1]; rfl) (tgt := 58) (by decide) ?_
      refine lv_iload_n hx hb dX7_done_58 rfl (lv_at hl 2 rfl) ?_
      refine lv_if_eq (tgt := 70) hx hb dX7_done_59 (by decide) (fun h => ?_) (fun h => ?_)
      · have hf := if_t h hf
        refine lv_iconst (v := 0) hx hb dX7_done_70 rfl ?_
        exact zr_i hf hx hb hr rfl hF hW hS dX7_done_71 hlocks
      · have hf := if_f h hf
        refine lv_iload_n hx hb dX7_done_62 rfl (lv_at hl 3 rfl) ?_
        refine lv_if_eq (tgt := 70) hx hb dX7_done_63 (by decide) (fun h => ?_) (fun h => ?_)
        · have hf := if_t h hf
          refine lv_iconst (v := 0) hx hb dX7_done_70 rfl ?_
          exact zr_i hf hx hb hr rfl hF hW hS dX7_done_71 hlocks
        · have hf := if_f h hf
          refine lv_iconst (v := 1) hx hb dX7_done_66 rfl ?_
          refine lv_goto (tgt := 71) hx hb dX7_done_67 (by decide) ?_
          exact zr_i hf hx hb hr rfl hF hW hS dX7_done_71 hlocks
    · have hf := if_f hn1 hf
      by_cases hn3 : a1 = (5 : Int32)
      · have hf := if_t hn3 hf
        refine lv_tableIn hx hb dX7_done_1 (by rw [hn3]; decide) (by rw [hn3]; decide) (off := 71) (by rw [hn3]; rfl) (tgt := 72) (by decide) ?_
        refine lv_iload_n hx hb dX7_done_72 rfl (lv_at hl 2 rfl) ?_
        refine lv_iload_n hx hb dX7_done_73 rfl (lv_at hl 3 rfl) ?_
        refine lv_icmp_ge (tgt := 81) hx hb dX7_done_74 (by decide) (fun h => ?_) (fun h => ?_)
        · have hf := if_t h hf
          refine lv_iconst (v := 0) hx hb dX7_done_81 rfl ?_
          exact zr_i hf hx hb hr rfl hF hW hS dX7_done_82 hlocks
        · have hf := if_f h hf
          refine lv_iconst (v := 1) hx hb dX7_done_77 rfl ?_
          refine lv_goto (tgt := 82) hx hb dX7_done_78 (by decide) ?_
          exact zr_i hf hx hb hr rfl hF hW hS dX7_done_82 hlocks
      · have hf := if_f hn3 hf
        by_cases hn4 : a1 = (6 : Int32)
        · have hf := if_t hn4 hf
          refine lv_tableIn hx hb dX7_done_1 (by rw [hn4]; decide) (by rw [hn4]; decide) (off := 82) (by rw [hn4]; rfl) (tgt := 83) (by decide) ?_
          refine lv_iload_n hx hb dX7_done_83 rfl (lv_at hl 2 rfl) ?_
          refine lv_iload_n hx hb dX7_done_84 rfl (lv_at hl 3 rfl) ?_
          refine lv_icmp_ne (tgt := 92) hx hb dX7_done_85 (by decide) (fun h => ?_) (fun h => ?_)
          · have hf := if_f h hf
            refine lv_iconst (v := 0) hx hb dX7_done_92 rfl ?_
            exact zr_i hf hx hb hr rfl hF hW hS dX7_done_93 hlocks
          · have hf := if_t h hf
            refine lv_iconst (v := 1) hx hb dX7_done_88 rfl ?_
            refine lv_goto (tgt := 93) hx hb dX7_done_89 (by decide) ?_
            exact zr_i hf hx hb hr rfl hF hW hS dX7_done_93 hlocks
        · have hf := if_f hn4 hf
          by_cases hn5 : a1 = (7 : Int32)
          · have hf := if_t hn5 hf
            refine lv_tableIn hx hb dX7_done_1 (by rw [hn5]; decide) (by rw [hn5]; decide) (off := 93) (by rw [hn5]; rfl) (tgt := 94) (by decide) ?_
            refine lv_iload_n hx hb dX7_done_94 rfl (lv_at hl 2 rfl) ?_
            refine lv_iload_n hx hb dX7_done_95 rfl (lv_at hl 3 rfl) ?_
            refine lv_iadd hx hb dX7_done_96 ?_
            exact zr_i hf hx hb hr rfl hF hW hS dX7_done_97 hlocks
          · have hf := if_f hn5 hf
            by_cases hn6 : a1 = (8 : Int32)
            · have hf := if_t hn6 hf
              refine lv_tableIn hx hb dX7_done_1 (by rw [hn6]; decide) (by rw [hn6]; decide) (off := 97) (by rw [hn6]; rfl) (tgt := 98) (by decide) ?_
              refine lv_iload_n hx hb dX7_done_98 rfl (lv_at hl 2 rfl) ?_
              refine lv_iload_n hx hb dX7_done_99 rfl (lv_at hl 3 rfl) ?_
              refine lv_isub hx hb dX7_done_100 ?_
              exact zr_i hf hx hb hr rfl hF hW hS dX7_done_101 hlocks
            · have hf := if_f hn6 hf
              by_cases hd2 : a1 = (4 : Int32)
              · refine lv_tableIn hx hb dX7_done_1 (by rw [hd2]; decide) (by rw [hd2]; decide) (off := 101) (by rw [hd2]; rfl) (tgt := 102) (by decide) ?_
                refine lv_iload_n hx hb dX7_done_102 rfl (lv_at hl 2 rfl) ?_
                refine lv_iload_n hx hb dX7_done_103 rfl (lv_at hl 3 rfl) ?_
                refine lv_imul hx hb dX7_done_104 ?_
                exact zr_i hf hx hb hr rfl hF hW hS dX7_done_105 hlocks
              refine lv_tableOut hx hb dX7_done_1 (tb_out (by decide) (by decide) (fun k h1 h2 => ?_)) (tgt := 102) (by decide) ?_
              · have hk : k = 2 ∨ k = 3 ∨ k = 4 ∨ k = 5 ∨ k = 6 ∨ k = 7 ∨ k = 8 := by omega
                rcases hk with rfl | rfl | rfl | rfl | rfl | rfl | rfl
                · exact fun q => hn0 (q.trans (by decide))
                · exact fun q => hn1 (q.trans (by decide))
                · exact fun q => hd2 (q.trans (by decide))
                · exact fun q => hn3 (q.trans (by decide))
                · exact fun q => hn4 (q.trans (by decide))
                · exact fun q => hn5 (q.trans (by decide))
                · exact fun q => hn6 (q.trans (by decide))
              · refine lv_iload_n hx hb dX7_done_102 rfl (lv_at hl 2 rfl) ?_
                refine lv_iload_n hx hb dX7_done_103 rfl (lv_at hl 3 rfl) ?_
                refine lv_imul hx hb dX7_done_104 ?_
                exact zr_i hf hx hb hr rfl hF hW hS dX7_done_105 hlocks
set_option maxHeartbeats 4000000 in
set_option maxRecDepth 100000 in
theorem m_X7_tellsRule (l : Launch) (G : GE) (B : Nat → Nat → Nat) (E : EN) (hE : 0 < E.2.2.2)  (S : ST) (a1 : Int32) (rr : Int32) (SS : ST) (hf : f_X7_tellsRule E S a1 = some (rr, SS)) : Met l yX7_tellsRule wsX7_tellsRule (rmN 2) (va_Pc [.ref (B 1 0), .int a1] (WS G B E S)) (QI G B E SS rr) 0 0 (AA G) := by
  refine Met.ofW (cc := cX7_tellsRule) (maxL := 6) (ret := (some .int)) (by decide) rfl ?_
  intro p e s m args below meth c s₁ B0 hml hv
  obtain ⟨rfl, hW, hF⟩ := hv
  have hx := B0.exec
  have hb := B0.bytes
  have hr := B0.returns
  have hts := atoms_spec (ws := wsX7_tellsRule) B0.pre
  have hown : s.vm.findClass RX7 = some m.cls := findClass_of_methodNamed B0.named
  have hlocks := B0.notSynchronized
  have hK := hF.1
  have hfix : CallFix p m c cX7_tellsRule 6 s [.ref (B 1 0), .int a1].toArray wsX7_tellsRule RX7 := ⟨hx, hb, hml, hown, hts⟩
  have hS : va_S (AA G) s.heap s.heap [] := va_S.rf
  have hl := lv_entry [.ref (B 1 0), .int a1] (n := 6) (Nat.le_of_ble_eq_true rfl)
  rw [lg_entry_eq]
  generalize (lg_sl [.ref (B 1 0), .int a1] ++ List.replicate (6 - (lg_sl [.ref (B 1 0), .int a1]).length) Slot.unset).toArray = ls at hl ⊢
  have hl : lv_has ls 6 [(0, .ref (B 1 0)), (1, .int a1)] := hl
  have q0 := hts (.fieldLink RX7 95 "MovesUpModel" "pile" "[I") (List.mem_of_getElem? (i := 4) rfl)
  have q1 := hts (.fieldLink RX7 98 "MovesUpModel" "fact" "[I") (List.mem_of_getElem? (i := 6) rfl)
  have q2 := hts (.fieldLink RX7 86 "MovesUpModel" "tells" "[I") (List.mem_of_getElem? (i := 5) rfl)
  have q3 := hts (.fieldLink RX7 89 "MovesUpModel" "many" "[I") (List.mem_of_getElem? (i := 2) rfl)
  have q4 := hts (.fieldLink RX7 53 "MovesUpModel" "rule" "I") (List.mem_of_getElem? (i := 1) rfl)
  have q5 := hts (.fieldLink RX7 83 "MovesUpModel" "signs" "[I") (List.mem_of_getElem? (i := 3) rfl)
  have hi7 : ∀ w ∈ u_ws RX7 TX7 47, w ∈ wsX7_tellsRule := in_seg 12 rfl
  have w195 : ∀ (S : ST)  , f_X7_tellsRule_b195 E S  = some (rr, SS) → ∀ (H : Heap) (locs : List Loc) (ls : Array Slot), WH G B E S H → va_S (AA G) s.heap H locs → lv_has ls 6 [(0, .ref (B 1 0))] → W p l e (headSpec wsX7_tellsRule (rmN 2)).room s m [.ref (B 1 0), .int a1].toArray below meth c H locs 0 0 (MQ below (QI G B E SS rr) [.ref (B 1 0), .int a1].toArray s 0 0 (AA G)) (F0 m 195 ls []) := by
    intro S  hf H locs ls hW hS hl
    unfold f_X7_tellsRule_b195 at hf
    refine lv_aload_n hx hb dX7_tellsRule_195 rfl (lv_at hl 0 rfl) ?_
    refine x_get hx hb hts hi7 hown hK hW (c1 hE) (e1 _ _ _ _ _ _) rfl 21 (Nat.le_of_ble_eq_true rfl) q0 (fun _ h => h) (v := .ref (B 61 0)) rfl dX7_tellsRule_196 ?_
    refine lv_iconst (v := 0) hx hb dX7_tellsRule_199 rfl ?_
    refine x_iald hx hb hK hW (c61 hE) (e61 _ _ _ _ _ _) (ib_in (by decide)) (jn := 0) rfl dX7_tellsRule_200 ?_
    exact z_i hf hx hb hr rfl hF hW hS dX7_tellsRule_201 hlocks
  have w20 : ∀ (n20 : Nat) (S : ST) (v1 : Int32) (v2 : Int32) (v3 : Int32) (v4 : Int32) , f_X7_tellsRule_b20 E n20 S v1 v2 v3 v4 = some (rr, SS) → ∀ (H : Heap) (locs : List Loc) (ls : Array Slot), WH G B E S H → va_S (AA G) s.heap H locs → lv_has ls 6 [(0, .ref (B 1 0)), (1, .int v1), (2, .int v2), (3, .int v3), (4, .int v4)] → W p l e (headSpec wsX7_tellsRule (rmN 2)).room s m [.ref (B 1 0), .int a1].toArray below meth c H locs 0 0 (MQ below (QI G B E SS rr) [.ref (B 1 0), .int a1].toArray s 0 0 (AA G)) (F0 m 20 ls []) := by
    intro n20
    induction n20 with
    | zero =>
      intro S v1 v2 v3 v4 hf
      exact absurd (show (none : Option (Int32 × ST)) = some (rr, SS) from hf) (fun h => by cases h)
    | succ n20 ih20 =>
      have w189 : ∀ (S : ST) (v1 : Int32) (v2 : Int32) (v3 : Int32) (v4 : Int32) , f_X7_tellsRule_b189 E (f_X7_tellsRule_b20 E n20) S v1 v2 v3 v4 = some (rr, SS) → ∀ (H : Heap) (locs : List Loc) (ls : Array Slot), WH G B E S H → va_S (AA G) s.heap H locs → lv_has ls 6 [(0, .ref (B 1 0)), (1, .int v1), (2, .int v2), (3, .int v3), (4, .int v4)] → W p l e (headSpec wsX7_tellsRule (rmN 2)).room s m [.ref (B 1 0), .int a1].toArray below meth c H locs 0 0 (MQ below (QI G B E SS rr) [.ref (B 1 0), .int a1].toArray s 0 0 (AA G)) (F0 m 189 ls []) := by
        intro S v1 v2 v3 v4 hf H locs ls hW hS hl
        unfold f_X7_tellsRule_b189 at hf
        obtain ⟨x1, e_x1, hf⟩ := lt_out hf
        refine lv_iinc (v := x1) (lv' := [(4, .int x1), (0, .ref (B 1 0)), (1, .int v1), (2, .int v2), (3, .int v3)]) hx hb dX7_tellsRule_189 hl (k := 4) rfl (by rw [e_x1]; rfl) (by decide) rfl (fun ls hl => ?_)
        refine lv_goto (tgt := 20) hx hb dX7_tellsRule_192 (by decide) ?_
        exact ih20 S v1 v2 v3 x1  hf _ _ _ hW hS (lv_sub hl [1, 2, 3, 4, 0] rfl)
      have w92 : ∀ (S : ST) (v1 : Int32) (v2 : Int32) (v3 : Int32) (v4 : Int32) (t0 : Int32) (t1 : Int32) , f_X7_tellsRule_b92 E (f_X7_tellsRule_b20 E n20) S v1 v2 v3 v4 t0 t1 = some (rr, SS) → ∀ (H : Heap) (locs : List Loc) (ls : Array Slot), WH G B E S H → va_S (AA G) s.heap H locs → lv_has ls 6 [(0, .ref (B 1 0)), (1, .int v1), (2, .int v2), (3, .int v3), (4, .int v4)] → W p l e (headSpec wsX7_tellsRule (rmN 2)).room s m [.ref (B 1 0), .int a1].toArray below meth c H locs 0 0 (MQ below (QI G B E SS rr) [.ref (B 1 0), .int a1].toArray s 0 0 (AA G)) (F0 m 92 ls [.int t0, .int t1, .ref (B 61 0)]) := by
        intro S v1 v2 v3 v4 t0 t1 hf H locs ls hW hS hl
        unfold f_X7_tellsRule_b92 at hf
        obtain ⟨hi_2, hf⟩ := ck_out hf
        have hi_2 := ib_in hi_2
        obtain ⟨S3, e_S3, hf⟩ := lt_out hf
        refine x_iast hx hb hK hW hS (c61 hE) (fun f r => e61 _ _ _ f _ r) hi_2 (jn := t1.toNatClampNeg) rfl e_S3 dX7_tellsRule_92 (fun H locs hW hS => ?_)
        obtain ⟨x4, e_x4, hf⟩ := lt_out hf
        refine lv_iinc (v := x4) (lv' := [(3, .int x4), (0, .ref (B 1 0)), (1, .int v1), (2, .int v2), (4, .int v4)]) hx hb dX7_tellsRule_93 hl (k := 3) rfl (by rw [e_x4]; rfl) (by decide) rfl (fun ls hl => ?_)
        refine lv_goto (tgt := 189) hx hb dX7_tellsRule_96 (by decide) ?_
        exact w189 S3 v1 v2 x4 v4  hf _ _ _ hW hS (lv_sub hl [1, 2, 3, 0, 4] rfl)
      have w60 : ∀ (S : ST) (v1 : Int32) (v2 : Int32) (v3 : Int32) (v4 : Int32) (v5 : Int32) , f_X7_tellsRule_b60 E (f_X7_tellsRule_b20 E n20) S v1 v2 v3 v4 v5 = some (rr, SS) → ∀ (H : Heap) (locs : List Loc) (ls : Array Slot), WH G B E S H → va_S (AA G) s.heap H locs → lv_has ls 6 [(0, .ref (B 1 0)), (1, .int v1), (2, .int v2), (3, .int v3), (4, .int v4), (5, .int v5)] → W p l e (headSpec wsX7_tellsRule (rmN 2)).room s m [.ref (B 1 0), .int a1].toArray below meth c H locs 0 0 (MQ below (QI G B E SS rr) [.ref (B 1 0), .int a1].toArray s 0 0 (AA G)) (F0 m 60 ls []) := by
        intro S v1 v2 v3 v4 v5 hf H locs ls hW hS hl
        unfold f_X7_tellsRule_b60 at hf
        refine lv_aload_n hx hb dX7_tellsRule_60 rfl (lv_at hl 0 rfl) ?_
        refine x_get hx hb hts hi7 hown hK hW (c1 hE) (e1 _ _ _ _ _ _) rfl 21 (Nat.le_of_ble_eq_true rfl) q0 (fun _ h => h) (v := .ref (B 61 0)) rfl dX7_tellsRule_61 ?_
        refine lv_iload_n hx hb dX7_tellsRule_64 rfl (lv_at hl 3 rfl) ?_
        refine lv_iload hx hb dX7_tellsRule_65 (lv_at hl 5 rfl) ?_
        refine lv_if_ne (tgt := 80) hx hb dX7_tellsRule_67 (by decide) (fun h => ?_) (fun h => ?_)
        · have hf := if_f h hf
          refine lv_aload_n hx hb dX7_tellsRule_80 rfl (lv_at hl 0 rfl) ?_
          refine x_get hx hb hts hi7 hown hK hW (c1 hE) (e1 _ _ _ _ _ _) rfl 22 (Nat.le_of_ble_eq_true rfl) q1 (fun _ h => h) (v := .ref (B 62 0)) rfl dX7_tellsRule_81 ?_
          refine lv_aload_n hx hb dX7_tellsRule_84 rfl (lv_at hl 0 rfl) ?_
          refine x_get hx hb hts hi7 hown hK hW (c1 hE) (e1 _ _ _ _ _ _) rfl 18 (Nat.le_of_ble_eq_true rfl) q2 (fun _ h => h) (v := .ref (B 58 0)) rfl dX7_tellsRule_85 ?_
          refine lv_iload hx hb dX7_tellsRule_88 (lv_at hl 4 rfl) ?_
          obtain ⟨hi_5, hf⟩ := ck_out hf
          have hi_5 := ib_in hi_5
          refine x_iald hx hb hK hW (c58 hE) (e58 _ _ _ _ _ _) hi_5 (jn := v4.toNatClampNeg) rfl dX7_tellsRule_90 ?_
          obtain ⟨hi_6, hf⟩ := ck_out hf
          have hi_6 := ib_in hi_6
          refine x_iald hx hb hK hW (c62 hE) (e62 _ _ _ _ _ _) hi_6 (jn := (gI S 58 0 v4.toNatClampNeg).toNatClampNeg) rfl dX7_tellsRule_91 ?_
          exact w92 S v1 v2 v3 v4 (gI S 62 0 (gI S 58 0 v4.toNatClampNeg).toNatClampNeg) v3  hf _ _ _ hW hS (lv_sub hl [0, 1, 2, 3, 4] rfl)
        · have hf := if_t h hf
          refine lv_aload_n hx hb dX7_tellsRule_70 rfl (lv_at hl 0 rfl) ?_
          refine x_get hx hb hts hi7 hown hK hW (c1 hE) (e1 _ _ _ _ _ _) rfl 18 (Nat.le_of_ble_eq_true rfl) q2 (fun _ h => h) (v := .ref (B 58 0)) rfl dX7_tellsRule_71 ?_
          refine lv_iload hx hb dX7_tellsRule_74 (lv_at hl 4 rfl) ?_
          obtain ⟨hi_7, hf⟩ := ck_out hf
          have hi_7 := ib_in hi_7
          refine x_iald hx hb hK hW (c58 hE) (e58 _ _ _ _ _ _) hi_7 (jn := v4.toNatClampNeg) rfl dX7_tellsRule_76 ?_
          refine lv_goto (tgt := 92) hx hb dX7_tellsRule_77 (by decide) ?_
          exact w92 S v1 v2 v3 v4 (gI S 58 0 v4.toNatClampNeg) v3  hf _ _ _ hW hS (lv_sub hl [0, 1, 2, 3, 4] rfl)
      have w154 : ∀ (S : ST) (v1 : Int32) (v2 : Int32) (v3 : Int32) (v4 : Int32) (t0 : Int32) (t1 : Int32) , f_X7_tellsRule_b154 E (f_X7_tellsRule_b20 E n20) S v1 v2 v3 v4 t0 t1 = some (rr, SS) → ∀ (H : Heap) (locs : List Loc) (ls : Array Slot), WH G B E S H → va_S (AA G) s.heap H locs → lv_has ls 6 [(0, .ref (B 1 0)), (1, .int v1), (2, .int v2), (3, .int v3), (4, .int v4)] → W p l e (headSpec wsX7_tellsRule (rmN 2)).room s m [.ref (B 1 0), .int a1].toArray below meth c H locs 0 0 (MQ below (QI G B E SS rr) [.ref (B 1 0), .int a1].toArray s 0 0 (AA G)) (F0 m 154 ls [.int t0, .int t1, .ref (B 61 0)]) := by
        intro S v1 v2 v3 v4 t0 t1 hf H locs ls hW hS hl
        unfold f_X7_tellsRule_b154 at hf
        obtain ⟨hi_8, hf⟩ := ck_out hf
        have hi_8 := ib_in hi_8
        obtain ⟨S9, e_S9, hf⟩ := lt_out hf
        refine x_iast hx hb hK hW hS (c61 hE) (fun f r => e61 _ _ _ f _ r) hi_8 (jn := t1.toNatClampNeg) rfl e_S9 dX7_tellsRule_154 (fun H locs hW hS => ?_)
        refine lv_goto (tgt := 189) hx hb dX7_tellsRule_155 (by decide) ?_
        exact w189 S9 v1 v2 v3 v4  hf _ _ _ hW hS (lv_sub hl [0, 1, 2, 3, 4] rfl)
      have w112 : ∀ (S : ST) (v1 : Int32) (v2 : Int32) (v3 : Int32) (v4 : Int32) (v5 : Int32) , f_X7_tellsRule_b112 E (f_X7_tellsRule_b20 E n20) S v1 v2 v3 v4 v5 = some (rr, SS) → ∀ (H : Heap) (locs : List Loc) (ls : Array Slot), WH G B E S H → va_S (AA G) s.heap H locs → lv_has ls 6 [(0, .ref (B 1 0)), (1, .int v1), (2, .int v2), (3, .int v3), (4, .int v4), (5, .int v5)] → W p l e (headSpec wsX7_tellsRule (rmN 2)).room s m [.ref (B 1 0), .int a1].toArray below meth c H locs 0 0 (MQ below (QI G B E SS rr) [.ref (B 1 0), .int a1].toArray s 0 0 (AA G)) (F0 m 112 ls []) := by
        intro S v1 v2 v3 v4 v5 hf H locs ls hW hS hl
        unfold f_X7_tellsRule_b112 at hf
        refine lv_aload_n hx hb dX7_tellsRule_112 rfl (lv_at hl 0 rfl) ?_
        refine x_get hx hb hts hi7 hown hK hW (c1 hE) (e1 _ _ _ _ _ _) rfl 21 (Nat.le_of_ble_eq_true rfl) q0 (fun _ h => h) (v := .ref (B 61 0)) rfl dX7_tellsRule_113 ?_
        refine lv_iload_n hx hb dX7_tellsRule_116 rfl (lv_at hl 3 rfl) ?_
        refine lv_iconst (v := 1) hx hb dX7_tellsRule_117 rfl ?_
        refine lv_isub hx hb dX7_tellsRule_118 ?_
        refine lv_iload hx hb dX7_tellsRule_119 (lv_at hl 5 rfl) ?_
        refine lv_bipush (v := 10) hx hb dX7_tellsRule_121 (by decide) ?_
        refine lv_icmp_ne (tgt := 138) hx hb dX7_tellsRule_123 (by decide) (fun h => ?_) (fun h => ?_)
        · have hf := if_f h hf
          refine lv_aload_n hx hb dX7_tellsRule_138 rfl (lv_at hl 0 rfl) ?_
          refine x_get hx hb hts hi7 hown hK hW (c1 hE) (e1 _ _ _ _ _ _) rfl 21 (Nat.le_of_ble_eq_true rfl) q0 (fun _ h => h) (v := .ref (B 61 0)) rfl dX7_tellsRule_139 ?_
          refine lv_iload_n hx hb dX7_tellsRule_142 rfl (lv_at hl 3 rfl) ?_
          refine lv_iconst (v := 1) hx hb dX7_tellsRule_143 rfl ?_
          refine lv_isub hx hb dX7_tellsRule_144 ?_
          obtain ⟨hi_10, hf⟩ := ck_out hf
          have hi_10 := ib_in hi_10
          refine x_iald hx hb hK hW (c61 hE) (e61 _ _ _ _ _ _) hi_10 (jn := (v3 - (1 : Int32)).toNatClampNeg) rfl dX7_tellsRule_145 ?_
          refine lv_if_ne (tgt := 153) hx hb dX7_tellsRule_146 (by decide) (fun h => ?_) (fun h => ?_)
          · have hf := if_f h hf
            refine lv_iconst (v := 0) hx hb dX7_tellsRule_153 rfl ?_
            exact w154 S v1 v2 v3 v4 (0 : Int32) (v3 - (1 : Int32))  hf _ _ _ hW hS (lv_sub hl [0, 1, 2, 3, 4] rfl)
          · have hf := if_t h hf
            refine lv_iconst (v := 1) hx hb dX7_tellsRule_149 rfl ?_
            refine lv_goto (tgt := 154) hx hb dX7_tellsRule_150 (by decide) ?_
            exact w154 S v1 v2 v3 v4 (1 : Int32) (v3 - (1 : Int32))  hf _ _ _ hW hS (lv_sub hl [0, 1, 2, 3, 4] rfl)
        · have hf := if_t h hf
          refine lv_aload_n hx hb dX7_tellsRule_126 rfl (lv_at hl 0 rfl) ?_
          refine x_get hx hb hts hi7 hown hK hW (c1 hE) (e1 _ _ _ _ _ _) rfl 21 (Nat.le_of_ble_eq_true rfl) q0 (fun _ h => h) (v := .ref (B 61 0)) rfl dX7_tellsRule_127 ?_
          refine lv_iload_n hx hb dX7_tellsRule_130 rfl (lv_at hl 3 rfl) ?_
          refine lv_iconst (v := 1) hx hb dX7_tellsRule_131 rfl ?_
          refine lv_isub hx hb dX7_tellsRule_132 ?_
          obtain ⟨hi_11, hf⟩ := ck_out hf
          have hi_11 := ib_in hi_11
          refine x_iald hx hb hK hW (c61 hE) (e61 _ _ _ _ _ _) hi_11 (jn := (v3 - (1 : Int32)).toNatClampNeg) rfl dX7_tellsRule_133 ?_
          refine lv_ineg hx hb dX7_tellsRule_134 ?_
          refine lv_goto (tgt := 154) hx hb dX7_tellsRule_135 (by decide) ?_
          exact w154 S v1 v2 v3 v4 (-(gI S 61 0 (v3 - (1 : Int32)).toNatClampNeg)) (v3 - (1 : Int32))  hf _ _ _ hW hS (lv_sub hl [0, 1, 2, 3, 4] rfl)
      intro S v1 v2 v3 v4 hf H locs ls hW hS hl
      have hf : g_X7_tellsRule_b20 E (f_X7_tellsRule_b20 E n20) S v1 v2 v3 v4 = some (rr, SS) := hf
      unfold g_X7_tellsRule_b20 at hf
      refine lv_iload hx hb dX7_tellsRule_20 (lv_at hl 4 rfl) ?_
      refine lv_iload_n hx hb dX7_tellsRule_22 rfl (lv_at hl 2 rfl) ?_
      refine lv_aload_n hx hb dX7_tellsRule_23 rfl (lv_at hl 0 rfl) ?_
      refine x_get hx hb hts hi7 hown hK hW (c1 hE) (e1 _ _ _ _ _ _) rfl 19 (Nat.le_of_ble_eq_true rfl) q3 (fun _ h => h) (v := .ref (B 59 0)) rfl dX7_tellsRule_24 ?_
      refine lv_iconst (v := 3) hx hb dX7_tellsRule_27 rfl ?_
      refine lv_aload_n hx hb dX7_tellsRule_28 rfl (lv_at hl 0 rfl) ?_
      refine x_get hx hb hts hi7 hown hK hW (c1 hE) (e1 _ _ _ _ _ _) rfl 7 (Nat.le_of_ble_eq_true rfl) q4 (fun _ h => h) (v := .int (gI S 1 0 7)) rfl dX7_tellsRule_29 ?_
      refine lv_imul hx hb dX7_tellsRule_32 ?_
      refine lv_iload_n hx hb dX7_tellsRule_33 rfl (lv_at hl 1 rfl) ?_
      refine lv_iadd hx hb dX7_tellsRule_34 ?_
      obtain ⟨hi_12, hf⟩ := ck_out hf
      have hi_12 := ib_in hi_12
      refine x_iald hx hb hK hW (c59 hE) (e59 _ _ _ _ _ _) hi_12 (jn := (((3 : Int32) * (gI S 1 0 7)) + v1).toNatClampNeg) rfl dX7_tellsRule_35 ?_
      refine lv_iadd hx hb dX7_tellsRule_36 ?_
      refine lv_icmp_ge (tgt := 195) hx hb dX7_tellsRule_37 (by decide) (fun h => ?_) (fun h => ?_)
      · have hf := if_t h hf
        exact w195 S  hf _ _ _ hW hS (lv_sub hl [0] rfl)
      · have hf := if_f h hf
        refine lv_aload_n hx hb dX7_tellsRule_40 rfl (lv_at hl 0 rfl) ?_
        refine x_get hx hb hts hi7 hown hK hW (c1 hE) (e1 _ _ _ _ _ _) rfl 17 (Nat.le_of_ble_eq_true rfl) q5 (fun _ h => h) (v := .ref (B 57 0)) rfl dX7_tellsRule_41 ?_
        refine lv_iload hx hb dX7_tellsRule_44 (lv_at hl 4 rfl) ?_
        obtain ⟨hi_13, hf⟩ := ck_out hf
        have hi_13 := ib_in hi_13
        refine x_iald hx hb hK hW (c57 hE) (e57 _ _ _ _ _ _) hi_13 (jn := v4.toNatClampNeg) rfl dX7_tellsRule_46 ?_
        obtain ⟨x14, e_x14, hf⟩ := lt_out hf
        refine x_nmI e_x14 ?_
        refine lv_istore (lv' := [(5, .int x14), (0, .ref (B 1 0)), (1, .int v1), (2, .int v2), (3, .int v3), (4, .int v4)]) hx hb dX7_tellsRule_47 hl (by decide) rfl (fun ls hl => ?_)
        refine lv_iload hx hb dX7_tellsRule_49 (lv_at hl 0 rfl) ?_
        refine lv_if_eq (tgt := 60) hx hb dX7_tellsRule_51 (by decide) (fun h => ?_) (fun h => ?_)
        · have hf := if_t h hf
          exact w60 S v1 v2 v3 v4 x14  hf _ _ _ hW hS (lv_sub hl [1, 2, 3, 4, 5, 0] rfl)
        · have hf := if_f h hf
          refine lv_iload hx hb dX7_tellsRule_54 (lv_at hl 0 rfl) ?_
          refine lv_iconst (v := 1) hx hb dX7_tellsRule_56 rfl ?_
          refine lv_icmp_ne (tgt := 99) hx hb dX7_tellsRule_57 (by decide) (fun h => ?_) (fun h => ?_)
          · have hf := if_f h hf
            refine lv_iload hx hb dX7_tellsRule_99 (lv_at hl 0 rfl) ?_
            refine lv_iconst (v := 4) hx hb dX7_tellsRule_101 rfl ?_
            refine lv_icmp_eq (tgt := 112) hx hb dX7_tellsRule_102 (by decide) (fun h => ?_) (fun h => ?_)
            · have hf := if_t h hf
              exact w112 S v1 v2 v3 v4 x14  hf _ _ _ hW hS (lv_sub hl [1, 2, 3, 4, 5, 0] rfl)
            · have hf := if_f h hf
              refine lv_iload hx hb dX7_tellsRule_105 (lv_at hl 0 rfl) ?_
              refine lv_bipush (v := 10) hx hb dX7_tellsRule_107 (by decide) ?_
              refine lv_icmp_ne (tgt := 158) hx hb dX7_tellsRule_109 (by decide) (fun h => ?_) (fun h => ?_)
              · have hf := if_f h hf
                obtain ⟨x15, e_x15, hf⟩ := lt_out hf
                refine lv_iinc (v := x15) (lv' := [(3, .int x15), (5, .int x14), (0, .ref (B 1 0)), (1, .int v1), (2, .int v2), (4, .int v4)]) hx hb dX7_tellsRule_158 hl (k := 4) rfl (by rw [e_x15]; rfl) (by decide) rfl (fun ls hl => ?_)
                refine lv_aload_n hx hb dX7_tellsRule_161 rfl (lv_at hl 2 rfl) ?_
                refine x_get hx hb hts hi7 hown hK hW (c1 hE) (e1 _ _ _ _ _ _) rfl 21 (Nat.le_of_ble_eq_true rfl) q0 (fun _ h => h) (v := .ref (B 61 0)) rfl dX7_tellsRule_162 ?_
                refine lv_iload_n hx hb dX7_tellsRule_165 rfl (lv_at hl 0 rfl) ?_
                refine lv_iconst (v := 1) hx hb dX7_tellsRule_166 rfl ?_
                refine lv_isub hx hb dX7_tellsRule_167 ?_
                refine lv_aload_n hx hb dX7_tellsRule_168 rfl (lv_at hl 2 rfl) ?_
                refine lv_iload hx hb dX7_tellsRule_169 (lv_at hl 1 rfl) ?_
                refine lv_aload_n hx hb dX7_tellsRule_171 rfl (lv_at hl 2 rfl) ?_
                refine x_get hx hb hts hi7 hown hK hW (c1 hE) (e1 _ _ _ _ _ _) rfl 21 (Nat.le_of_ble_eq_true rfl) q0 (fun _ h => h) (v := .ref (B 61 0)) rfl dX7_tellsRule_172 ?_
                refine lv_iload_n hx hb dX7_tellsRule_175 rfl (lv_at hl 0 rfl) ?_
                refine lv_iconst (v := 1) hx hb dX7_tellsRule_176 rfl ?_
                refine lv_isub hx hb dX7_tellsRule_177 ?_
                obtain ⟨hi_16, hf⟩ := ck_out hf
                have hi_16 := ib_in hi_16
                refine x_iald hx hb hK hW (c61 hE) (e61 _ _ _ _ _ _) hi_16 (jn := (x15 - (1 : Int32)).toNatClampNeg) rfl dX7_tellsRule_178 ?_
                refine lv_aload_n hx hb dX7_tellsRule_179 rfl (lv_at hl 2 rfl) ?_
                refine x_get hx hb hts hi7 hown hK hW (c1 hE) (e1 _ _ _ _ _ _) rfl 21 (Nat.le_of_ble_eq_true rfl) q0 (fun _ h => h) (v := .ref (B 61 0)) rfl dX7_tellsRule_180 ?_
                refine lv_iload_n hx hb dX7_tellsRule_183 rfl (lv_at hl 0 rfl) ?_
                obtain ⟨hi_17, hf⟩ := ck_out hf
                have hi_17 := ib_in hi_17
                refine x_iald hx hb hK hW (c61 hE) (e61 _ _ _ _ _ _) hi_17 (jn := x15.toNatClampNeg) rfl dX7_tellsRule_184 ?_
                obtain ⟨r18, hc, hf⟩ := bd_out hf
                refine y_i (va_runV (As := [.int x14, .int (gI S 61 0 (x15 - (1 : Int32)).toNatClampNeg), .int (gI S 61 0 x15.toNatClampNeg)]) (rest := [.int (x15 - (1 : Int32)), .ref (B 61 0)]) hfix (m_X7_done l G B E hE S x14 (gI S 61 0 (x15 - (1 : Int32)).toNatClampNeg) (gI S 61 0 x15.toNatClampNeg) r18 hc) (cwV 3 hts gX7_tellsRule_X7_done rfl rfl rfl ⟨rfl, hd_X7_done⟩ ⟨Nat.le_of_ble_eq_true rfl, Nat.le_of_ble_eq_true rfl⟩) (y_pv hF hW hS (c1 hE) (e1 _ _ _ _ _ _) rfl) rfl rfl hl.1 rfl (lv_room (Nat.le_of_ble_eq_true rfl)) dX7_tellsRule_185 ⟨Nat.le_of_ble_eq_true rfl, Nat.le_of_ble_eq_true rfl⟩) hS (fun H locs hW hS => ?_)
                obtain ⟨S19, e_S19, hf⟩ := lt_out hf
                refine x_iast hx hb hK hW hS (c61 hE) (fun f r => e61 _ _ _ f _ r) hi_16 (jn := (x15 - (1 : Int32)).toNatClampNeg) rfl e_S19 dX7_tellsRule_188 (fun H locs hW hS => ?_)
                exact w189 S19 v1 v2 x15 v4  hf _ _ _ hW hS (lv_sub hl [2, 3, 4, 0, 5] rfl)
              · have hf := if_t h hf
                exact w112 S v1 v2 v3 v4 x14  hf _ _ _ hW hS (lv_sub hl [1, 2, 3, 4, 5, 0] rfl)
          · have hf := if_t h hf
            exact w60 S v1 v2 v3 v4 x14  hf _ _ _ hW hS (lv_sub hl [1, 2, 3, 4, 5, 0] rfl)
  unfold f_X7_tellsRule at hf
  refine lv_sipush (v := 480) hx hb dX7_tellsRule_0 (by decide) ?_
  refine lv_aload_n hx hb dX7_tellsRule_3 rfl (lv_at hl 0 rfl) ?_
  refine x_get hx hb hts hi7 hown hK hW (c1 hE) (e1 _ _ _ _ _ _) rfl 7 (Nat.le_of_ble_eq_true rfl) q4 (fun _ h => h) (v := .int (gI S 1 0 7)) rfl dX7_tellsRule_4 ?_
  refine lv_imul hx hb dX7_tellsRule_7 ?_
  refine lv_sipush (v := 160) hx hb dX7_tellsRule_8 (by decide) ?_
  refine lv_iload_n hx hb dX7_tellsRule_11 rfl (lv_at hl 1 rfl) ?_
  refine lv_imul hx hb dX7_tellsRule_12 ?_
  refine lv_iadd hx hb dX7_tellsRule_13 ?_
  obtain ⟨x20, e_x20, hf⟩ := lt_out hf
  refine x_nmI e_x20 ?_
  refine lv_istore_n (lv' := [(2, .int x20), (0, .ref (B 1 0)), (1, .int a1)]) hx hb dX7_tellsRule_14 rfl hl (by decide) rfl (fun ls hl => ?_)
  refine lv_iconst (v := 0) hx hb dX7_tellsRule_15 rfl ?_
  refine lv_istore_n (lv' := [(3, .int (0 : Int32)), (2, .int x20), (0, .ref (B 1 0)), (1, .int a1)]) hx hb dX7_tellsRule_16 rfl hl (by decide) rfl (fun ls hl => ?_)
  refine lv_iload_n hx hb dX7_tellsRule_17 rfl (lv_at hl 1 rfl) ?_
  refine lv_istore (lv' := [(4, .int x20), (3, .int (0 : Int32)), (2, .int x20), (0, .ref (B 1 0)), (1, .int a1)]) hx hb dX7_tellsRule_18 hl (by decide) rfl (fun ls hl => ?_)
  exact w20 E.1 S a1 x20 (0 : Int32) x20  hf _ _ _ hW hS (lv_sub hl [3, 4, 2, 1, 0] rfl)
