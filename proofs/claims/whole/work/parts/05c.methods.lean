set_option maxHeartbeats 4000000 in
set_option maxRecDepth 100000 in
theorem m_X2_keep (l : Launch) (G : GE) (B : Nat → Nat → Nat) (E : EN) (i0 : Nat) (h0 : i0 < cnt E 20) (S : ST)  (SS : ST) (hf : f_X2_keep E i0 S = some SS) : Met l yX2_keep wsX2_keep (rmN 1) (va_Pc [.ref (B 20 i0)] (WS G B E S)) (QV G B E SS) 0 0 (AA G) := by
  refine Met.ofW (cc := cX2_keep) (maxL := 1) (ret := none) (by decide) rfl ?_
  intro p e s m args below meth c s₁ B0 hml hv
  obtain ⟨rfl, hW, hF⟩ := hv
  have hx := B0.exec
  have hb := B0.bytes
  have hr := B0.returns
  have hts := atoms_spec (ws := wsX2_keep) B0.pre
  have hown : s.vm.findClass RX2 = some m.cls := findClass_of_methodNamed B0.named
  have hlocks := B0.notSynchronized
  have hK := hF.1
  have hfix : CallFix p m c cX2_keep 1 s [.ref (B 20 i0)].toArray wsX2_keep RX2 := ⟨hx, hb, hml, hown, hts⟩
  have hS : va_S (AA G) s.heap s.heap [] := va_S.rf
  have hl := lv_entry [.ref (B 20 i0)] (n := 1) (Nat.le_of_ble_eq_true rfl)
  rw [lg_entry_eq]
  generalize (lg_sl [.ref (B 20 i0)] ++ List.replicate (1 - (lg_sl [.ref (B 20 i0)]).length) Slot.unset).toArray = ls at hl ⊢
  have hl : lv_has ls 1 [(0, .ref (B 20 i0))] := hl
  have q0 := hts (.fieldLink RX2 25 "MovesUp$Pupil" "itsClass" "I") (List.mem_of_getElem? (i := 1) rfl)
  have q1 := hts (.fieldLink RX2 15 "MovesUp$Pupil" "imageClass" "I") (List.mem_of_getElem? (i := 2) rfl)
  have q2 := hts (.fieldLink RX2 9 "MovesUp$Pupil" "weights" "[I") (List.mem_of_getElem? (i := 3) rfl)
  have q3 := hts (.fieldLink RX2 19 "MovesUp$Pupil" "imageWeights" "[I") (List.mem_of_getElem? (i := 4) rfl)
  have q4 := hts (.methodLink RX2 40 arraycopyName) (List.mem_of_getElem? (i := 5) rfl)
  have q5 := hts (.native arraycopyName) (List.mem_of_getElem? (i := 6) rfl)
  have q6 := hts (.static arraycopyName) (List.mem_of_getElem? (i := 7) rfl)
  have q7 := hts (.initialized "java/lang/System") (List.mem_of_getElem? (i := 8) rfl)
  have hi2 : ∀ w ∈ u_ws RX2 TX2 7, w ∈ wsX2_keep := in_seg 9 rfl
  unfold f_X2_keep at hf
  refine lv_aload_n hx hb dX2_keep_0 rfl (lv_at hl 0 rfl) ?_
  refine lv_aload_n hx hb dX2_keep_1 rfl (lv_at hl 0 rfl) ?_
  refine x_get hx hb hts hi2 hown hK hW (h0) (e20 _ _ _ _ _ _) rfl 3 (Nat.le_of_ble_eq_true rfl) q0 (fun _ h => h) (v := .int (gI S 20 i0 3)) rfl dX2_keep_2 ?_
  obtain ⟨S1, e_S1, hf⟩ := lt_out hf
  refine x_putI hx hb hts hi2 tyX2 tyX2_ok nmX2 hown hK hW hS (h0) (e20 _ _ _) rfl 5 (Nat.le_of_ble_eq_true rfl) q1 (fun _ h => h) rfl (tyX2_ok 5 (Nat.le_of_ble_eq_true rfl)) rfl rfl (Nat.le_of_ble_eq_true rfl) (pu20_5 _ _) e_S1 dX2_keep_5 (fun H locs hW hS => ?_)
  refine lv_aload_n hx hb dX2_keep_8 rfl (lv_at hl 0 rfl) ?_
  refine x_get hx hb hts hi2 hown hK hW (h0) (e20 _ _ _ _ _ _) rfl 4 (Nat.le_of_ble_eq_true rfl) q2 (fun _ h => h) (v := .ref (B 21 i0)) rfl dX2_keep_9 ?_
  refine lv_iconst (v := 0) hx hb dX2_keep_12 rfl ?_
  refine lv_aload_n hx hb dX2_keep_13 rfl (lv_at hl 0 rfl) ?_
  refine x_get hx hb hts hi2 hown hK hW (h0) (e20 _ _ _ _ _ _) rfl 6 (Nat.le_of_ble_eq_true rfl) q3 (fun _ h => h) (v := .ref (B 22 i0)) rfl dX2_keep_14 ?_
  refine lv_iconst (v := 0) hx hb dX2_keep_17 rfl ?_
  refine lv_iconst (v := 5) hx hb dX2_keep_18 rfl ?_
  obtain ⟨S4, e_S4, hf⟩ := lt_out hf
  refine x_copy hx hb (hml.trans hl.1.symm) hown q4 q5 q6 q7 hK hW hS (cv20_21 (h0)) (cv20_22 (h0)) (e21 _ _ _ _ _ _) (fun f r => e22 _ _ _ f _ r) (by decide) (by decide) (by decide) (by decide) (by decide) (Nat.le_of_ble_eq_true rfl) (Nat.le_of_ble_eq_true rfl) (j1 := 0) (j2 := 0) (j3 := 5) rfl rfl rfl e_S4 dX2_keep_19 (fun H locs hW hS => ?_)
  exact z_v hf hx hb hr hF hW hS dX2_keep_22 hlocks
set_option maxHeartbeats 4000000 in
set_option maxRecDepth 100000 in
theorem m_X2_lay (l : Launch) (G : GE) (B : Nat → Nat → Nat) (E : EN) (i0 : Nat) (h0 : i0 < cnt E 20) (S : ST)  (SS : ST) (hf : f_X2_lay E i0 S = some SS) : Met l yX2_lay wsX2_lay (rmN 1) (va_Pc [.ref (B 20 i0)] (WS G B E S)) (QV G B E SS) 0 0 (AA G) := by
  refine Met.ofW (cc := cX2_lay) (maxL := 1) (ret := none) (by decide) rfl ?_
  intro p e s m args below meth c s₁ B0 hml hv
  obtain ⟨rfl, hW, hF⟩ := hv
  have hx := B0.exec
  have hb := B0.bytes
  have hr := B0.returns
  have hts := atoms_spec (ws := wsX2_lay) B0.pre
  have hown : s.vm.findClass RX2 = some m.cls := findClass_of_methodNamed B0.named
  have hlocks := B0.notSynchronized
  have hK := hF.1
  have hfix : CallFix p m c cX2_lay 1 s [.ref (B 20 i0)].toArray wsX2_lay RX2 := ⟨hx, hb, hml, hown, hts⟩
  have hS : va_S (AA G) s.heap s.heap [] := va_S.rf
  have hl := lv_entry [.ref (B 20 i0)] (n := 1) (Nat.le_of_ble_eq_true rfl)
  rw [lg_entry_eq]
  generalize (lg_sl [.ref (B 20 i0)] ++ List.replicate (1 - (lg_sl [.ref (B 20 i0)]).length) Slot.unset).toArray = ls at hl ⊢
  have hl : lv_has ls 1 [(0, .ref (B 20 i0))] := hl
  have q0 := hts (.fieldLink RX2 15 "MovesUp$Pupil" "imageClass" "I") (List.mem_of_getElem? (i := 1) rfl)
  have q1 := hts (.fieldLink RX2 25 "MovesUp$Pupil" "itsClass" "I") (List.mem_of_getElem? (i := 2) rfl)
  have q2 := hts (.fieldLink RX2 19 "MovesUp$Pupil" "imageWeights" "[I") (List.mem_of_getElem? (i := 3) rfl)
  have q3 := hts (.fieldLink RX2 9 "MovesUp$Pupil" "weights" "[I") (List.mem_of_getElem? (i := 4) rfl)
  have q4 := hts (.methodLink RX2 40 arraycopyName) (List.mem_of_getElem? (i := 5) rfl)
  have q5 := hts (.native arraycopyName) (List.mem_of_getElem? (i := 6) rfl)
  have q6 := hts (.static arraycopyName) (List.mem_of_getElem? (i := 7) rfl)
  have q7 := hts (.initialized "java/lang/System") (List.mem_of_getElem? (i := 8) rfl)
  have hi2 : ∀ w ∈ u_ws RX2 TX2 7, w ∈ wsX2_lay := in_seg 9 rfl
  unfold f_X2_lay at hf
  refine lv_aload_n hx hb dX2_lay_0 rfl (lv_at hl 0 rfl) ?_
  refine lv_aload_n hx hb dX2_lay_1 rfl (lv_at hl 0 rfl) ?_
  refine x_get hx hb hts hi2 hown hK hW (h0) (e20 _ _ _ _ _ _) rfl 5 (Nat.le_of_ble_eq_true rfl) q0 (fun _ h => h) (v := .int (gI S 20 i0 5)) rfl dX2_lay_2 ?_
  obtain ⟨S1, e_S1, hf⟩ := lt_out hf
  refine x_putI hx hb hts hi2 tyX2 tyX2_ok nmX2 hown hK hW hS (h0) (e20 _ _ _) rfl 3 (Nat.le_of_ble_eq_true rfl) q1 (fun _ h => h) rfl (tyX2_ok 3 (Nat.le_of_ble_eq_true rfl)) rfl rfl (Nat.le_of_ble_eq_true rfl) (pu20_3 _ _) e_S1 dX2_lay_5 (fun H locs hW hS => ?_)
  refine lv_aload_n hx hb dX2_lay_8 rfl (lv_at hl 0 rfl) ?_
  refine x_get hx hb hts hi2 hown hK hW (h0) (e20 _ _ _ _ _ _) rfl 6 (Nat.le_of_ble_eq_true rfl) q2 (fun _ h => h) (v := .ref (B 22 i0)) rfl dX2_lay_9 ?_
  refine lv_iconst (v := 0) hx hb dX2_lay_12 rfl ?_
  refine lv_aload_n hx hb dX2_lay_13 rfl (lv_at hl 0 rfl) ?_
  refine x_get hx hb hts hi2 hown hK hW (h0) (e20 _ _ _ _ _ _) rfl 4 (Nat.le_of_ble_eq_true rfl) q3 (fun _ h => h) (v := .ref (B 21 i0)) rfl dX2_lay_14 ?_
  refine lv_iconst (v := 0) hx hb dX2_lay_17 rfl ?_
  refine lv_iconst (v := 5) hx hb dX2_lay_18 rfl ?_
  obtain ⟨S4, e_S4, hf⟩ := lt_out hf
  refine x_copy hx hb (hml.trans hl.1.symm) hown q4 q5 q6 q7 hK hW hS (cv20_22 (h0)) (cv20_21 (h0)) (e22 _ _ _ _ _ _) (fun f r => e21 _ _ _ f _ r) (by decide) (by decide) (by decide) (by decide) (by decide) (Nat.le_of_ble_eq_true rfl) (Nat.le_of_ble_eq_true rfl) (j1 := 0) (j2 := 0) (j3 := 5) rfl rfl rfl e_S4 dX2_lay_19 (fun H locs hW hS => ?_)
  exact z_v hf hx hb hr hF hW hS dX2_lay_22 hlocks
set_option maxHeartbeats 4000000 in
set_option maxRecDepth 100000 in
theorem m_X3_isDigit (l : Launch) (G : GE) (B : Nat → Nat → Nat) (E : EN)  (S : ST) (a1 : Int32) (rr : Int32) (hf : f_X3_isDigit E S a1 = some rr) : Met l yX3_isDigit wsX3_isDigit (rmN 1) (va_Pc [.int a1] (WS G B E S)) (QI G B E S rr) 0 0 (AA G) := by
  refine Met.ofW (cc := cX3_isDigit) (maxL := 1) (ret := (some .boolean)) (by decide) rfl ?_
  intro p e s m args below meth c s₁ B0 hml hv
  obtain ⟨rfl, hW, hF⟩ := hv
  have hx := B0.exec
  have hb := B0.bytes
  have hr := B0.returns
  have hts := atoms_spec (ws := wsX3_isDigit) B0.pre
  have hown : s.vm.findClass RX3 = some m.cls := findClass_of_methodNamed B0.named
  have hlocks := B0.notSynchronized
  have hK := hF.1
  have hfix : CallFix p m c cX3_isDigit 1 s [.int a1].toArray wsX3_isDigit RX3 := ⟨hx, hb, hml, hown, hts⟩
  have hS : va_S (AA G) s.heap s.heap [] := va_S.rf
  have hl := lv_entry [.int a1] (n := 1) (Nat.le_of_ble_eq_true rfl)
  rw [lg_entry_eq]
  generalize (lg_sl [.int a1] ++ List.replicate (1 - (lg_sl [.int a1]).length) Slot.unset).toArray = ls at hl ⊢
  have hl : lv_has ls 1 [(0, .int a1)] := hl
  unfold f_X3_isDigit at hf
  refine lv_iload_n hx hb dX3_isDigit_0 rfl (lv_at hl 0 rfl) ?_
  refine lv_bipush (v := 48) hx hb dX3_isDigit_1 (by decide) ?_
  refine lv_icmp_lt (tgt := 16) hx hb dX3_isDigit_3 (by decide) (fun h => ?_) (fun h => ?_)
  · have hf := if_t h hf
    refine lv_iconst (v := 0) hx hb dX3_isDigit_16 rfl ?_
    exact zr_i hf hx hb hr rfl hF hW hS dX3_isDigit_17 hlocks
  · have hf := if_f h hf
    refine lv_iload_n hx hb dX3_isDigit_6 rfl (lv_at hl 0 rfl) ?_
    refine lv_bipush (v := 57) hx hb dX3_isDigit_7 (by decide) ?_
    refine lv_icmp_gt (tgt := 16) hx hb dX3_isDigit_9 (by decide) (fun h => ?_) (fun h => ?_)
    · have hf := if_t h hf
      refine lv_iconst (v := 0) hx hb dX3_isDigit_16 rfl ?_
      exact zr_i hf hx hb hr rfl hF hW hS dX3_isDigit_17 hlocks
    · have hf := if_f h hf
      refine lv_iconst (v := 1) hx hb dX3_isDigit_12 rfl ?_
      refine lv_goto (tgt := 17) hx hb dX3_isDigit_13 (by decide) ?_
      exact zr_i hf hx hb hr rfl hF hW hS dX3_isDigit_17 hlocks
set_option maxHeartbeats 4000000 in
set_option maxRecDepth 100000 in
theorem m_X3_isLetter (l : Launch) (G : GE) (B : Nat → Nat → Nat) (E : EN)  (S : ST) (a1 : Int32) (rr : Int32) (hf : f_X3_isLetter E S a1 = some rr) : Met l yX3_isLetter wsX3_isLetter (rmN 1) (va_Pc [.int a1] (WS G B E S)) (QI G B E S rr) 0 0 (AA G) := by
  refine Met.ofW (cc := cX3_isLetter) (maxL := 1) (ret := (some .boolean)) (by decide) rfl ?_
  intro p e s m args below meth c s₁ B0 hml hv
  obtain ⟨rfl, hW, hF⟩ := hv
  have hx := B0.exec
  have hb := B0.bytes
  have hr := B0.returns
  have hts := atoms_spec (ws := wsX3_isLetter) B0.pre
  have hown : s.vm.findClass RX3 = some m.cls := findClass_of_methodNamed B0.named
  have hlocks := B0.notSynchronized
  have hK := hF.1
  have hfix : CallFix p m c cX3_isLetter 1 s [.int a1].toArray wsX3_isLetter RX3 := ⟨hx, hb, hml, hown, hts⟩
  have hS : va_S (AA G) s.heap s.heap [] := va_S.rf
  have hl := lv_entry [.int a1] (n := 1) (Nat.le_of_ble_eq_true rfl)
  rw [lg_entry_eq]
  generalize (lg_sl [.int a1] ++ List.replicate (1 - (lg_sl [.int a1]).length) Slot.unset).toArray = ls at hl ⊢
  have hl : lv_has ls 1 [(0, .int a1)] := hl
  unfold f_X3_isLetter at hf
  refine lv_iload_n hx hb dX3_isLetter_0 rfl (lv_at hl 0 rfl) ?_
  refine lv_bipush (v := 97) hx hb dX3_isLetter_1 (by decide) ?_
  refine lv_icmp_lt (tgt := 16) hx hb dX3_isLetter_3 (by decide) (fun h => ?_) (fun h => ?_)
  · have hf := if_t h hf
    refine lv_iconst (v := 0) hx hb dX3_isLetter_16 rfl ?_
    exact zr_i hf hx hb hr rfl hF hW hS dX3_isLetter_17 hlocks
  · have hf := if_f h hf
    refine lv_iload_n hx hb dX3_isLetter_6 rfl (lv_at hl 0 rfl) ?_
    refine lv_bipush (v := 122) hx hb dX3_isLetter_7 (by decide) ?_
    refine lv_icmp_gt (tgt := 16) hx hb dX3_isLetter_9 (by decide) (fun h => ?_) (fun h => ?_)
    · have hf := if_t h hf
      refine lv_iconst (v := 0) hx hb dX3_isLetter_16 rfl ?_
      exact zr_i hf hx hb hr rfl hF hW hS dX3_isLetter_17 hlocks
    · have hf := if_f h hf
      refine lv_iconst (v := 1) hx hb dX3_isLetter_12 rfl ?_
      refine lv_goto (tgt := 17) hx hb dX3_isLetter_13 (by decide) ?_
      exact zr_i hf hx hb hr rfl hF hW hS dX3_isLetter_17 hlocks
set_option maxHeartbeats 4000000 in
set_option maxRecDepth 100000 in
theorem m_X3_isSign (l : Launch) (G : GE) (B : Nat → Nat → Nat) (E : EN)  (S : ST) (a1 : Int32) (rr : Int32) (hf : f_X3_isSign E S a1 = some rr) : Met l yX3_isSign wsX3_isSign (rmN 1) (va_Pc [.int a1] (WS G B E S)) (QI G B E S rr) 0 0 (AA G) := by
  refine Met.ofW (cc := cX3_isSign) (maxL := 1) (ret := (some .boolean)) (by decide) rfl ?_
  intro p e s m args below meth c s₁ B0 hml hv
  obtain ⟨rfl, hW, hF⟩ := hv
  have hx := B0.exec
  have hb := B0.bytes
  have hr := B0.returns
  have hts := atoms_spec (ws := wsX3_isSign) B0.pre
  have hown : s.vm.findClass RX3 = some m.cls := findClass_of_methodNamed B0.named
  have hlocks := B0.notSynchronized
  have hK := hF.1
  have hfix : CallFix p m c cX3_isSign 1 s [.int a1].toArray wsX3_isSign RX3 := ⟨hx, hb, hml, hown, hts⟩
  have hS : va_S (AA G) s.heap s.heap [] := va_S.rf
  have hl := lv_entry [.int a1] (n := 1) (Nat.le_of_ble_eq_true rfl)
  rw [lg_entry_eq]
  generalize (lg_sl [.int a1] ++ List.replicate (1 - (lg_sl [.int a1]).length) Slot.unset).toArray = ls at hl ⊢
  have hl : lv_has ls 1 [(0, .int a1)] := hl
  have w48 : ∀ (_ : Unit)  , f_X3_isSign_b48 E S  = some rr → ∀ (H : Heap) (locs : List Loc) (ls : Array Slot), WH G B E S H → va_S (AA G) s.heap H locs → lv_has ls 1 [] → W p l e (headSpec wsX3_isSign (rmN 1)).room s m [.int a1].toArray below meth c H locs 0 0 (MQ below (QI G B E S rr) [.int a1].toArray s 0 0 (AA G)) (F0 m 48 ls []) := by
    intro _  hf H locs ls hW hS hl
    unfold f_X3_isSign_b48 at hf
    refine lv_iconst (v := 1) hx hb dX3_isSign_48 rfl ?_
    refine lv_goto (tgt := 53) hx hb dX3_isSign_49 (by decide) ?_
    exact zr_i hf hx hb hr rfl hF hW hS dX3_isSign_53 hlocks
  unfold f_X3_isSign at hf
  refine lv_iload_n hx hb dX3_isSign_0 rfl (lv_at hl 0 rfl) ?_
  refine lv_bipush (v := 40) hx hb dX3_isSign_1 (by decide) ?_
  refine lv_icmp_eq (tgt := 48) hx hb dX3_isSign_3 (by decide) (fun h => ?_) (fun h => ?_)
  · have hf := if_t h hf
    exact w48 ()  hf _ _ _ hW hS (lv_sub hl [] rfl)
  · have hf := if_f h hf
    refine lv_iload_n hx hb dX3_isSign_6 rfl (lv_at hl 0 rfl) ?_
    refine lv_bipush (v := 41) hx hb dX3_isSign_7 (by decide) ?_
    refine lv_icmp_eq (tgt := 48) hx hb dX3_isSign_9 (by decide) (fun h => ?_) (fun h => ?_)
    · have hf := if_t h hf
      exact w48 ()  hf _ _ _ hW hS (lv_sub hl [] rfl)
    · have hf := if_f h hf
      refine lv_iload_n hx hb dX3_isSign_12 rfl (lv_at hl 0 rfl) ?_
      refine lv_bipush (v := 59) hx hb dX3_isSign_13 (by decide) ?_
      refine lv_icmp_eq (tgt := 48) hx hb dX3_isSign_15 (by decide) (fun h => ?_) (fun h => ?_)
      · have hf := if_t h hf
        exact w48 ()  hf _ _ _ hW hS (lv_sub hl [] rfl)
      · have hf := if_f h hf
        refine lv_iload_n hx hb dX3_isSign_18 rfl (lv_at hl 0 rfl) ?_
        refine lv_bipush (v := 43) hx hb dX3_isSign_19 (by decide) ?_
        refine lv_icmp_eq (tgt := 48) hx hb dX3_isSign_21 (by decide) (fun h => ?_) (fun h => ?_)
        · have hf := if_t h hf
          exact w48 ()  hf _ _ _ hW hS (lv_sub hl [] rfl)
        · have hf := if_f h hf
          refine lv_iload_n hx hb dX3_isSign_24 rfl (lv_at hl 0 rfl) ?_
          refine lv_bipush (v := 45) hx hb dX3_isSign_25 (by decide) ?_
          refine lv_icmp_eq (tgt := 48) hx hb dX3_isSign_27 (by decide) (fun h => ?_) (fun h => ?_)
          · have hf := if_t h hf
            exact w48 ()  hf _ _ _ hW hS (lv_sub hl [] rfl)
          · have hf := if_f h hf
            refine lv_iload_n hx hb dX3_isSign_30 rfl (lv_at hl 0 rfl) ?_
            refine lv_bipush (v := 42) hx hb dX3_isSign_31 (by decide) ?_
            refine lv_icmp_eq (tgt := 48) hx hb dX3_isSign_33 (by decide) (fun h => ?_) (fun h => ?_)
            · have hf := if_t h hf
              exact w48 ()  hf _ _ _ hW hS (lv_sub hl [] rfl)
            · have hf := if_f h hf
              refine lv_iload_n hx hb dX3_isSign_36 rfl (lv_at hl 0 rfl) ?_
              refine lv_bipush (v := 60) hx hb dX3_isSign_37 (by decide) ?_
              refine lv_icmp_eq (tgt := 48) hx hb dX3_isSign_39 (by decide) (fun h => ?_) (fun h => ?_)
              · have hf := if_t h hf
                exact w48 ()  hf _ _ _ hW hS (lv_sub hl [] rfl)
              · have hf := if_f h hf
                refine lv_iload_n hx hb dX3_isSign_42 rfl (lv_at hl 0 rfl) ?_
                refine lv_bipush (v := 61) hx hb dX3_isSign_43 (by decide) ?_
                refine lv_icmp_ne (tgt := 52) hx hb dX3_isSign_45 (by decide) (fun h => ?_) (fun h => ?_)
                · have hf := if_f h hf
                  refine lv_iconst (v := 0) hx hb dX3_isSign_52 rfl ?_
                  exact zr_i hf hx hb hr rfl hF hW hS dX3_isSign_53 hlocks
                · have hf := if_t h hf
                  exact w48 ()  hf _ _ _ hW hS (lv_sub hl [] rfl)
set_option maxHeartbeats 4000000 in
set_option maxRecDepth 100000 in
theorem m_X3_number (l : Launch) (G : GE) (B : Nat → Nat → Nat) (E : EN)  (S : ST)  (rr : Int32) (SS : ST) (hf : f_X3_number E S = some (rr, SS)) : Met l yX3_number wsX3_number (rmN 2) (va_Pc [.ref (B 8 0)] (WS G B E S)) (QI G B E SS rr) 0 0 (AA G) := by
  refine Met.ofW (cc := cX3_number) (maxL := 3) (ret := (some .int)) (by decide) rfl ?_
  intro p e s m args below meth c s₁ B0 hml hv
  obtain ⟨rfl, hW, hF⟩ := hv
  have hx := B0.exec
  have hb := B0.bytes
  have hr := B0.returns
  have hts := atoms_spec (ws := wsX3_number) B0.pre
  have hown : s.vm.findClass RX3 = some m.cls := findClass_of_methodNamed B0.named
  have hlocks := B0.notSynchronized
  have hK := hF.1
  have hfix : CallFix p m c cX3_number 3 s [.ref (B 8 0)].toArray wsX3_number RX3 := ⟨hx, hb, hml, hown, hts⟩
  have hS : va_S (AA G) s.heap s.heap [] := va_S.rf
  have hl := lv_entry [.ref (B 8 0)] (n := 3) (Nat.le_of_ble_eq_true rfl)
  rw [lg_entry_eq]
  generalize (lg_sl [.ref (B 8 0)] ++ List.replicate (3 - (lg_sl [.ref (B 8 0)]).length) Slot.unset).toArray = ls at hl ⊢
  have hl : lv_has ls 3 [(0, .ref (B 8 0))] := hl
  have q0 := hts (.fieldLink RX3 15 "MovesUp$Reader" "at" "I") (List.mem_of_getElem? (i := 1) rfl)
  have q1 := hts (.fieldLink RX3 11 "MovesUp$Reader" "size" "I") (List.mem_of_getElem? (i := 2) rfl)
  have q2 := hts (.fieldLink RX3 40 "MovesUp$Reader" "bytes" "[B") (List.mem_of_getElem? (i := 3) rfl)
  have hi3 : ∀ w ∈ u_ws RX3 TX3 10, w ∈ wsX3_number := in_seg 8 rfl
  have w74 : ∀ (S : ST) (v1 : Int32) (v2 : Int32) , f_X3_number_b74 E S v1 v2 = some (rr, SS) → ∀ (H : Heap) (locs : List Loc) (ls : Array Slot), WH G B E S H → va_S (AA G) s.heap H locs → lv_has ls 3 [(0, .ref (B 8 0)), (1, .int v1), (2, .int v2)] → W p l e (headSpec wsX3_number (rmN 2)).room s m [.ref (B 8 0)].toArray below meth c H locs 0 0 (MQ below (QI G B E SS rr) [.ref (B 8 0)].toArray s 0 0 (AA G)) (F0 m 74 ls []) := by
    intro S v1 v2 hf H locs ls hW hS hl
    unfold f_X3_number_b74 at hf
    refine lv_aload_n hx hb dX3_number_74 rfl (lv_at hl 0 rfl) ?_
    refine x_get hx hb hts hi3 hown hK hW (c8 E) (e8 _ _ _ _ _ _) rfl 2 (Nat.le_of_ble_eq_true rfl) q0 (fun _ h => h) (v := .int (gI S 8 0 2)) rfl dX3_number_75 ?_
    refine lv_iload_n hx hb dX3_number_78 rfl (lv_at hl 1 rfl) ?_
    refine lv_isub hx hb dX3_number_79 ?_
    refine lv_iconst (v := 4) hx hb dX3_number_80 rfl ?_
    refine lv_icmp_le (tgt := 88) hx hb dX3_number_81 (by decide) (fun h => ?_) (fun h => ?_)
    · have hf := if_t h hf
      refine lv_sipush (v := 1000) hx hb dX3_number_88 (by decide) ?_
      refine lv_iload_n hx hb dX3_number_91 rfl (lv_at hl 2 rfl) ?_
      refine lv_iadd hx hb dX3_number_92 ?_
      exact z_i hf hx hb hr rfl hF hW hS dX3_number_93 hlocks
    · have hf := if_f h hf
      refine lv_iconst (v := -1) hx hb dX3_number_84 rfl ?_
      refine lv_goto (tgt := 93) hx hb dX3_number_85 (by decide) ?_
      exact z_i hf hx hb hr rfl hF hW hS dX3_number_93 hlocks
  have w7 : ∀ (n7 : Nat) (S : ST) (v1 : Int32) (v2 : Int32) , f_X3_number_b7 E n7 S v1 v2 = some (rr, SS) → ∀ (H : Heap) (locs : List Loc) (ls : Array Slot), WH G B E S H → va_S (AA G) s.heap H locs → lv_has ls 3 [(0, .ref (B 8 0)), (1, .int v1), (2, .int v2)] → W p l e (headSpec wsX3_number (rmN 2)).room s m [.ref (B 8 0)].toArray below meth c H locs 0 0 (MQ below (QI G B E SS rr) [.ref (B 8 0)].toArray s 0 0 (AA G)) (F0 m 7 ls []) := by
    intro n7
    induction n7 with
    | zero =>
      intro S v1 v2 hf
      exact absurd (show (none : Option (Int32 × ST)) = some (rr, SS) from hf) (fun h => by cases h)
    | succ n7 ih7 =>
      have w61 : ∀ (S : ST) (v1 : Int32) (v2 : Int32) , f_X3_number_b61 E (f_X3_number_b7 E n7) S v1 v2 = some (rr, SS) → ∀ (H : Heap) (locs : List Loc) (ls : Array Slot), WH G B E S H → va_S (AA G) s.heap H locs → lv_has ls 3 [(0, .ref (B 8 0)), (1, .int v1), (2, .int v2)] → W p l e (headSpec wsX3_number (rmN 2)).room s m [.ref (B 8 0)].toArray below meth c H locs 0 0 (MQ below (QI G B E SS rr) [.ref (B 8 0)].toArray s 0 0 (AA G)) (F0 m 61 ls []) := by
        intro S v1 v2 hf H locs ls hW hS hl
        unfold f_X3_number_b61 at hf
        refine lv_aload_n hx hb dX3_number_61 rfl (lv_at hl 0 rfl) ?_
        refine lv_dup hx hb dX3_number_62 rfl ?_
        refine x_get hx hb hts hi3 hown hK hW (c8 E) (e8 _ _ _ _ _ _) rfl 2 (Nat.le_of_ble_eq_true rfl) q0 (fun _ h => h) (v := .int (gI S 8 0 2)) rfl dX3_number_63 ?_
        refine lv_iconst (v := 1) hx hb dX3_number_66 rfl ?_
        refine lv_iadd hx hb dX3_number_67 ?_
        obtain ⟨S1, e_S1, hf⟩ := lt_out hf
        refine x_putI hx hb hts hi3 tyX3 tyX3_ok nmX3 hown hK hW hS (c8 E) (e8 _ _ _) rfl 2 (Nat.le_of_ble_eq_true rfl) q0 (fun _ h => h) rfl (tyX3_ok 2 (Nat.le_of_ble_eq_true rfl)) rfl rfl (Nat.le_of_ble_eq_true rfl) (pu8_2 _ _) e_S1 dX3_number_68 (fun H locs hW hS => ?_)
        refine lv_goto (tgt := 7) hx hb dX3_number_71 (by decide) ?_
        exact ih7 S1 v1 v2  hf _ _ _ hW hS (lv_sub hl [0, 1, 2] rfl)
      intro S v1 v2 hf H locs ls hW hS hl
      have hf : g_X3_number_b7 E (f_X3_number_b7 E n7) S v1 v2 = some (rr, SS) := hf
      unfold g_X3_number_b7 at hf
      refine lv_aload_n hx hb dX3_number_7 rfl (lv_at hl 0 rfl) ?_
      refine x_get hx hb hts hi3 hown hK hW (c8 E) (e8 _ _ _ _ _ _) rfl 2 (Nat.le_of_ble_eq_true rfl) q0 (fun _ h => h) (v := .int (gI S 8 0 2)) rfl dX3_number_8 ?_
      refine lv_aload_n hx hb dX3_number_11 rfl (lv_at hl 0 rfl) ?_
      refine x_get hx hb hts hi3 hown hK hW (c8 E) (e8 _ _ _ _ _ _) rfl 1 (Nat.le_of_ble_eq_true rfl) q1 (fun _ h => h) (v := .int (gI S 8 0 1)) rfl dX3_number_12 ?_
      refine lv_icmp_ge (tgt := 74) hx hb dX3_number_15 (by decide) (fun h => ?_) (fun h => ?_)
      · have hf := if_t h hf
        exact w74 S v1 v2  hf _ _ _ hW hS (lv_sub hl [0, 1, 2] rfl)
      · have hf := if_f h hf
        refine lv_aload_n hx hb dX3_number_18 rfl (lv_at hl 0 rfl) ?_
        refine x_get hx hb hts hi3 hown hK hW (c8 E) (e8 _ _ _ _ _ _) rfl 0 (Nat.le_of_ble_eq_true rfl) q2 (fun _ h => h) (v := .ref (B 5 0)) rfl dX3_number_19 ?_
        refine lv_aload_n hx hb dX3_number_22 rfl (lv_at hl 0 rfl) ?_
        refine x_get hx hb hts hi3 hown hK hW (c8 E) (e8 _ _ _ _ _ _) rfl 2 (Nat.le_of_ble_eq_true rfl) q0 (fun _ h => h) (v := .int (gI S 8 0 2)) rfl dX3_number_23 ?_
        obtain ⟨hi_2, hf⟩ := ck_out hf
        have hi_2 := ib_in hi_2
        refine x_bald hx hb hK hW (c5 E) (e5 _ _ _ _ _ _) hi_2 (jn := (gI S 8 0 2).toNatClampNeg) rfl dX3_number_26 ?_
        obtain ⟨r3, hc, hf⟩ := bd_out hf
        refine y_i (va_runS (As := [.int (gI S 5 0 (gI S 8 0 2).toNatClampNeg)]) (rest := []) hfix (m_X3_isDigit l G B E S (gI S 5 0 (gI S 8 0 2).toNatClampNeg) r3 hc) (va_cwS 1 hts gX3_number_X3_isDigit rfl rfl rfl hd_X3_isDigit ⟨Nat.le_of_ble_eq_true rfl, Nat.le_of_ble_eq_true rfl⟩) (y_ps hF hW hS) rfl rfl hl.1 rfl (lv_room (Nat.le_of_ble_eq_true rfl)) dX3_number_27 ⟨Nat.le_of_ble_eq_true rfl, Nat.le_of_ble_eq_true rfl⟩) hS (fun H locs hW hS => ?_)
        refine lv_if_eq (tgt := 74) hx hb dX3_number_30 (by decide) (fun h => ?_) (fun h => ?_)
        · have hf := if_t h hf
          exact w74 S v1 v2  hf _ _ _ hW hS (lv_sub hl [0, 1, 2] rfl)
        · have hf := if_f h hf
          refine lv_aload_n hx hb dX3_number_33 rfl (lv_at hl 0 rfl) ?_
          refine x_get hx hb hts hi3 hown hK hW (c8 E) (e8 _ _ _ _ _ _) rfl 2 (Nat.le_of_ble_eq_true rfl) q0 (fun _ h => h) (v := .int (gI S 8 0 2)) rfl dX3_number_34 ?_
          refine lv_iload_n hx hb dX3_number_37 rfl (lv_at hl 1 rfl) ?_
          refine lv_isub hx hb dX3_number_38 ?_
          refine lv_iconst (v := 4) hx hb dX3_number_39 rfl ?_
          refine lv_icmp_ge (tgt := 61) hx hb dX3_number_40 (by decide) (fun h => ?_) (fun h => ?_)
          · have hf := if_t h hf
            exact w61 S v1 v2  hf _ _ _ hW hS (lv_sub hl [0, 1, 2] rfl)
          · have hf := if_f h hf
            refine lv_iload_n hx hb dX3_number_43 rfl (lv_at hl 2 rfl) ?_
            refine lv_bipush (v := 10) hx hb dX3_number_44 (by decide) ?_
            refine lv_imul hx hb dX3_number_46 ?_
            refine lv_aload_n hx hb dX3_number_47 rfl (lv_at hl 0 rfl) ?_
            refine x_get hx hb hts hi3 hown hK hW (c8 E) (e8 _ _ _ _ _ _) rfl 0 (Nat.le_of_ble_eq_true rfl) q2 (fun _ h => h) (v := .ref (B 5 0)) rfl dX3_number_48 ?_
            refine lv_aload_n hx hb dX3_number_51 rfl (lv_at hl 0 rfl) ?_
            refine x_get hx hb hts hi3 hown hK hW (c8 E) (e8 _ _ _ _ _ _) rfl 2 (Nat.le_of_ble_eq_true rfl) q0 (fun _ h => h) (v := .int (gI S 8 0 2)) rfl dX3_number_52 ?_
            refine x_bald hx hb hK hW (c5 E) (e5 _ _ _ _ _ _) hi_2 (jn := (gI S 8 0 2).toNatClampNeg) rfl dX3_number_55 ?_
            refine lv_iadd hx hb dX3_number_56 ?_
            refine lv_bipush (v := 48) hx hb dX3_number_57 (by decide) ?_
            refine lv_isub hx hb dX3_number_59 ?_
            obtain ⟨x4, e_x4, hf⟩ := lt_out hf
            refine x_nmI e_x4 ?_
            refine lv_istore_n (lv' := [(2, .int x4), (0, .ref (B 8 0)), (1, .int v1)]) hx hb dX3_number_60 rfl hl (by decide) rfl (fun ls hl => ?_)
            exact w61 S v1 x4  hf _ _ _ hW hS (lv_sub hl [1, 2, 0] rfl)
  unfold f_X3_number at hf
  refine lv_aload_n hx hb dX3_number_0 rfl (lv_at hl 0 rfl) ?_
  refine x_get hx hb hts hi3 hown hK hW (c8 E) (e8 _ _ _ _ _ _) rfl 2 (Nat.le_of_ble_eq_true rfl) q0 (fun _ h => h) (v := .int (gI S 8 0 2)) rfl dX3_number_1 ?_
  obtain ⟨x5, e_x5, hf⟩ := lt_out hf
  refine x_nmI e_x5 ?_
  refine lv_istore_n (lv' := [(1, .int x5), (0, .ref (B 8 0))]) hx hb dX3_number_4 rfl hl (by decide) rfl (fun ls hl => ?_)
  refine lv_iconst (v := 0) hx hb dX3_number_5 rfl ?_
  refine lv_istore_n (lv' := [(2, .int (0 : Int32)), (1, .int x5), (0, .ref (B 8 0))]) hx hb dX3_number_6 rfl hl (by decide) rfl (fun ls hl => ?_)
  exact w7 E.1 S x5 (0 : Int32)  hf _ _ _ hW hS (lv_sub hl [2, 1, 0] rfl)
set_option maxHeartbeats 4000000 in
set_option maxRecDepth 100000 in
theorem m_J0_isLatin1_aae02 (l : Launch) (G : GE) (B : Nat → Nat → Nat) (E : EN) (i0 : Nat) (h0 : i0 < 2) (S : ST)  (rr : Int32) (hf : f_J0_isLatin1_aae02 E i0 S = some rr) : Met l yJ0_isLatin1_aae02 wsJ0_isLatin1_aae02 (rmN 1) (va_Pc [.ref (gK G i0)] (WS G B E S)) (QI G B E S rr) 0 0 (AA G) := by
  refine Met.ofW (cc := cJ0_isLatin1_aae02) (maxL := 1) (ret := (some .boolean)) (by decide) rfl ?_
  intro p e s m args below meth c s₁ B0 hml hv
  obtain ⟨rfl, hW, hF⟩ := hv
  have hx := B0.exec
  have hb := B0.bytes
  have hr := B0.returns
  have hts := atoms_spec (ws := wsJ0_isLatin1_aae02) B0.pre
  have hown : s.vm.findClass RJ0 = some m.cls := findClass_of_methodNamed B0.named
  have hlocks := B0.notSynchronized
  have hK := hF.1
  have hfix : CallFix p m c cJ0_isLatin1_aae02 1 s [.ref (gK G i0)].toArray wsJ0_isLatin1_aae02 RJ0 := ⟨hx, hb, hml, hown, hts⟩
  have hS : va_S (AA G) s.heap s.heap [] := va_S.rf
  have hl := lv_entry [.ref (gK G i0)] (n := 1) (Nat.le_of_ble_eq_true rfl)
  rw [lg_entry_eq]
  generalize (lg_sl [.ref (gK G i0)] ++ List.replicate (1 - (lg_sl [.ref (gK G i0)]).length) Slot.unset).toArray = ls at hl ⊢
  have hl : lv_has ls 1 [(0, .ref (gK G i0))] := hl
  have q0 := hts (.fieldLink RJ0 38 "java/lang/String" "COMPACT_STRINGS" "Z") (List.mem_of_getElem? (i := 1) rfl)
  have q1 := hts (.fieldLink RJ0 15 "java/lang/String" "coder" "B") (List.mem_of_getElem? (i := 2) rfl)
  unfold f_J0_isLatin1_aae02 at hf
  refine va_gets hx hb hF.2.2.1.2.2.1 hS hown q0 (fun _ h => h) dJ0_isLatin1_aae02_0 ?_
  refine lv_if_eq (tgt := 17) hx hb dJ0_isLatin1_aae02_3 (by decide) (fun h => ?_) (fun h => ?_)
  · have hf := if_t h hf
    refine lv_iconst (v := 0) hx hb dJ0_isLatin1_aae02_17 rfl ?_
    exact zr_i hf hx hb hr rfl hF hW hS dJ0_isLatin1_aae02_18 hlocks
  · have hf := if_f h hf
    refine lv_aload_n hx hb dJ0_isLatin1_aae02_6 rfl (lv_at hl 0 rfl) ?_
    refine vk_getf hx hb (hF.2.2.1.2.2.2.2.1 i0 h0).2.1 hS hown q1 (fun _ h => h) dJ0_isLatin1_aae02_7 ?_
    refine lv_if_ne (tgt := 17) hx hb dJ0_isLatin1_aae02_10 (by decide) (fun h => ?_) (fun h => ?_)
    · have hf := if_f h hf
      refine lv_iconst (v := 0) hx hb dJ0_isLatin1_aae02_17 rfl ?_
      exact zr_i hf hx hb hr rfl hF hW hS dJ0_isLatin1_aae02_18 hlocks
    · have hf := if_t h hf
      refine lv_iconst (v := 1) hx hb dJ0_isLatin1_aae02_13 rfl ?_
      refine lv_goto (tgt := 18) hx hb dJ0_isLatin1_aae02_14 (by decide) ?_
      exact zr_i hf hx hb hr rfl hF hW hS dJ0_isLatin1_aae02_18 hlocks
set_option maxHeartbeats 4000000 in
set_option maxRecDepth 100000 in
theorem ma_J3_checkIndex_8e157 (l : Launch) (G : GE) (B : Nat → Nat → Nat) (E : EN)  (S : ST) (a1 : Int32) (a2 : Int32) (rr : Int32) (hf : f_J3_checkIndex_8e157 E S a1 a2 = some rr) : Met l yJ3_checkIndex_8e157 wsJ3_checkIndex_8e157 (rmN 1) (va_Pc [.int a1, .int a2, .null] (WS G B E S)) (QI G B E S rr) 0 0 (AA G) := by
  refine Met.ofW (cc := cJ3_checkIndex_8e157) (maxL := 3) (ret := (some .int)) (by decide) rfl ?_
  intro p e s m args below meth c s₁ B0 hml hv
  obtain ⟨rfl, hW, hF⟩ := hv
  have hx := B0.exec
  have hb := B0.bytes
  have hr := B0.returns
  have hts := atoms_spec (ws := wsJ3_checkIndex_8e157) B0.pre
  have hown : s.vm.findClass RJ3 = some m.cls := findClass_of_methodNamed B0.named
  have hlocks := B0.notSynchronized
  have hK := hF.1
  have hfix : CallFix p m c cJ3_checkIndex_8e157 3 s [.int a1, .int a2, .null].toArray wsJ3_checkIndex_8e157 RJ3 := ⟨hx, hb, hml, hown, hts⟩
  have hS : va_S (AA G) s.heap s.heap [] := va_S.rf
  have hl := lv_entry [.int a1, .int a2, .null] (n := 3) (Nat.le_of_ble_eq_true rfl)
  rw [lg_entry_eq]
  generalize (lg_sl [.int a1, .int a2, .null] ++ List.replicate (3 - (lg_sl [.int a1, .int a2, .null]).length) Slot.unset).toArray = ls at hl ⊢
  have hl : lv_has ls 3 [(0, .int a1), (1, .int a2), (2, .null)] := hl
  unfold f_J3_checkIndex_8e157 at hf
  refine lv_iload_n hx hb dJ3_checkIndex_8e157_0 rfl (lv_at hl 0 rfl) ?_
  refine lv_if_lt (tgt := 9) hx hb dJ3_checkIndex_8e157_1 (by decide) (fun h => ?_) (fun h => ?_)
  · have hf := if_t h hf
    exact absurd hf (by intro h; cases h)
  · have hf := if_f h hf
    refine lv_iload_n hx hb dJ3_checkIndex_8e157_4 rfl (lv_at hl 0 rfl) ?_
    refine lv_iload_n hx hb dJ3_checkIndex_8e157_5 rfl (lv_at hl 1 rfl) ?_
    refine lv_icmp_lt (tgt := 16) hx hb dJ3_checkIndex_8e157_6 (by decide) (fun h => ?_) (fun h => ?_)
    · have hf := if_t h hf
      refine lv_iload_n hx hb dJ3_checkIndex_8e157_16 rfl (lv_at hl 0 rfl) ?_
      exact zr_i hf hx hb hr rfl hF hW hS dJ3_checkIndex_8e157_17 hlocks
    · have hf := if_f h hf
      exact absurd hf (by intro h; cases h)
set_option maxHeartbeats 4000000 in
set_option maxRecDepth 100000 in
theorem mb_J3_checkIndex_8e157 (l : Launch) (G : GE) (B : Nat → Nat → Nat) (E : EN)  (S : ST) (a1 : Int32) (a2 : Int32) (a3 : Nat) (rr : Int32) (hf : f_J3_checkIndex_8e157 E S a1 a2 = some rr) : Met l yJ3_checkIndex_8e157 wsJ3_checkIndex_8e157 (rmN 1) (va_Pc [.int a1, .int a2, .ref a3] (WS G B E S)) (QI G B E S rr) 0 0 (AA G) := by
  refine Met.ofW (cc := cJ3_checkIndex_8e157) (maxL := 3) (ret := (some .int)) (by decide) rfl ?_
  intro p e s m args below meth c s₁ B0 hml hv
  obtain ⟨rfl, hW, hF⟩ := hv
  have hx := B0.exec
  have hb := B0.bytes
  have hr := B0.returns
  have hts := atoms_spec (ws := wsJ3_checkIndex_8e157) B0.pre
  have hown : s.vm.findClass RJ3 = some m.cls := findClass_of_methodNamed B0.named
  have hlocks := B0.notSynchronized
  have hK := hF.1
  have hfix : CallFix p m c cJ3_checkIndex_8e157 3 s [.int a1, .int a2, .ref a3].toArray wsJ3_checkIndex_8e157 RJ3 := ⟨hx, hb, hml, hown, hts⟩
  have hS : va_S (AA G) s.heap s.heap [] := va_S.rf
  have hl := lv_entry [.int a1, .int a2, .ref a3] (n := 3) (Nat.le_of_ble_eq_true rfl)
  rw [lg_entry_eq]
  generalize (lg_sl [.int a1, .int a2, .ref a3] ++ List.replicate (3 - (lg_sl [.int a1, .int a2, .ref a3]).length) Slot.unset).toArray = ls at hl ⊢
  have hl : lv_has ls 3 [(0, .int a1), (1, .int a2), (2, .ref a3)] := hl
  unfold f_J3_checkIndex_8e157 at hf
  refine lv_iload_n hx hb dJ3_checkIndex_8e157_0 rfl (lv_at hl 0 rfl) ?_
  refine lv_if_lt (tgt := 9) hx hb dJ3_checkIndex_8e157_1 (by decide) (fun h => ?_) (fun h => ?_)
  · have hf := if_t h hf
    exact absurd hf (by intro h; cases h)
  · have hf := if_f h hf
    refine lv_iload_n hx hb dJ3_checkIndex_8e157_4 rfl (lv_at hl 0 rfl) ?_
    refine lv_iload_n hx hb dJ3_checkIndex_8e157_5 rfl (lv_at hl 1 rfl) ?_
    refine lv_icmp_lt (tgt := 16) hx hb dJ3_checkIndex_8e157_6 (by decide) (fun h => ?_) (fun h => ?_)
    · have hf := if_t h hf
      refine lv_iload_n hx hb dJ3_checkIndex_8e157_16 rfl (lv_at hl 0 rfl) ?_
      exact zr_i hf hx hb hr rfl hF hW hS dJ3_checkIndex_8e157_17 hlocks
    · have hf := if_f h hf
      exact absurd hf (by intro h; cases h)
theorem m_J3_checkIndex_8e157 (l : Launch) (G : GE) (B : Nat → Nat → Nat) (E : EN)  (S : ST) (a1 : Int32) (a2 : Int32) (a3 : Option Nat) (rr : Int32) (hf : f_J3_checkIndex_8e157 E S a1 a2 = some rr) : Met l yJ3_checkIndex_8e157 wsJ3_checkIndex_8e157 (rmN 1) (va_Pc [.int a1, .int a2, va_rf a3] (WS G B E S)) (QI G B E S rr) 0 0 (AA G) := by
  cases a3 with
  | none => exact ma_J3_checkIndex_8e157 l G B E S a1 a2 rr hf
  | some t => exact mb_J3_checkIndex_8e157 l G B E S a1 a2 t rr hf
set_option maxHeartbeats 4000000 in
set_option maxRecDepth 100000 in
theorem m_J0_checkIndex_df160 (l : Launch) (G : GE) (B : Nat → Nat → Nat) (E : EN)  (S : ST) (a1 : Int32) (a2 : Int32) (rr : Unit) (hf : f_J0_checkIndex_df160 E S a1 a2 = some rr) : Met l yJ0_checkIndex_df160 wsJ0_checkIndex_df160 (rmN 2) (va_Pc [.int a1, .int a2] (WS G B E S)) (QV G B E S) 0 0 (AA G) := by
  refine Met.ofW (cc := cJ0_checkIndex_df160) (maxL := 2) (ret := none) (by decide) rfl ?_
  intro p e s m args below meth c s₁ B0 hml hv
  obtain ⟨rfl, hW, hF⟩ := hv
  have hx := B0.exec
  have hb := B0.bytes
  have hr := B0.returns
  have hts := atoms_spec (ws := wsJ0_checkIndex_df160) B0.pre
  have hown : s.vm.findClass RJ0 = some m.cls := findClass_of_methodNamed B0.named
  have hlocks := B0.notSynchronized
  have hK := hF.1
  have hfix : CallFix p m c cJ0_checkIndex_df160 2 s [.int a1, .int a2].toArray wsJ0_checkIndex_df160 RJ0 := ⟨hx, hb, hml, hown, hts⟩
  have hS : va_S (AA G) s.heap s.heap [] := va_S.rf
  have hl := lv_entry [.int a1, .int a2] (n := 2) (Nat.le_of_ble_eq_true rfl)
  rw [lg_entry_eq]
  generalize (lg_sl [.int a1, .int a2] ++ List.replicate (2 - (lg_sl [.int a1, .int a2]).length) Slot.unset).toArray = ls at hl ⊢
  have hl : lv_has ls 2 [(0, .int a1), (1, .int a2)] := hl
  have q0 := hts (.fieldLink RJ0 1053 "jdk/internal/util/Preconditions" "SIOOBE_FORMATTER" "Ljava/util/function/BiFunction;") (List.mem_of_getElem? (i := 1) rfl)
  unfold f_J0_checkIndex_df160 at hf
  refine lv_iload_n hx hb dJ0_checkIndex_df160_0 rfl (lv_at hl 0 rfl) ?_
  refine lv_iload_n hx hb dJ0_checkIndex_df160_1 rfl (lv_at hl 1 rfl) ?_
  obtain ⟨fm1, h_fm1⟩ := zq_o hF.2.2.1.2.2.2.1
  refine va_gets hx hb h_fm1 hS hown q0 (fun _ h => h) dJ0_checkIndex_df160_2 ?_
  obtain ⟨r2, hc, hf⟩ := bd_out hf
  refine y_i (va_runS (As := [.int a1, .int a2, va_rf fm1]) (rest := []) hfix (m_J3_checkIndex_8e157 l G B E S a1 a2 fm1 r2 hc) (va_cwS 3 hts gJ0_checkIndex_df160_J3_checkIndex_8e157 rfl rfl rfl hd_J3_checkIndex_8e157 ⟨Nat.le_of_ble_eq_true rfl, Nat.le_of_ble_eq_true rfl⟩) (y_ps hF hW hS) rfl rfl hl.1 rfl (lv_room (Nat.le_of_ble_eq_true rfl)) dJ0_checkIndex_df160_5 ⟨Nat.le_of_ble_eq_true rfl, Nat.le_of_ble_eq_true rfl⟩) hS (fun H locs hW hS => ?_)
  refine lv_pop hx hb dJ0_checkIndex_df160_8 rfl ?_
  exact zr_v hf hx hb hr hF hW hS dJ0_checkIndex_df160_9 hlocks
set_option maxHeartbeats 4000000 in
set_option maxRecDepth 100000 in
theorem m_J1_charAt_3b067 (l : Launch) (G : GE) (B : Nat → Nat → Nat) (E : EN)  (S : ST) (a1 : Nat) (h_a1 : a1 < 2) (a2 : Int32) (rr : Int32) (hf : f_J1_charAt_3b067 E S a1 a2 = some rr) : Met l yJ1_charAt_3b067 wsJ1_charAt_3b067 (rmN 3) (va_Pc [.ref (gV G a1), .int a2] (WS G B E S)) (QI G B E S rr) 0 0 (AA G) := by
  refine Met.ofW (cc := cJ1_charAt_3b067) (maxL := 2) (ret := (some .char)) (by decide) rfl ?_
  intro p e s m args below meth c s₁ B0 hml hv
  obtain ⟨rfl, hW, hF⟩ := hv
  have hx := B0.exec
  have hb := B0.bytes
  have hr := B0.returns
  have hts := atoms_spec (ws := wsJ1_charAt_3b067) B0.pre
  have hown : s.vm.findClass RJ1 = some m.cls := findClass_of_methodNamed B0.named
  have hlocks := B0.notSynchronized
  have hK := hF.1
  have hfix : CallFix p m c cJ1_charAt_3b067 2 s [.ref (gV G a1), .int a2].toArray wsJ1_charAt_3b067 RJ1 := ⟨hx, hb, hml, hown, hts⟩
  have hS : va_S (AA G) s.heap s.heap [] := va_S.rf
  have hl := lv_entry [.ref (gV G a1), .int a2] (n := 2) (Nat.le_of_ble_eq_true rfl)
  rw [lg_entry_eq]
  generalize (lg_sl [.ref (gV G a1), .int a2] ++ List.replicate (2 - (lg_sl [.ref (gV G a1), .int a2]).length) Slot.unset).toArray = ls at hl ⊢
  have hl : lv_has ls 2 [(0, .ref (gV G a1)), (1, .int a2)] := hl
  unfold f_J1_charAt_3b067 at hf
  refine lv_iload_n hx hb dJ1_charAt_3b067_0 rfl (lv_at hl 1 rfl) ?_
  refine lv_aload_n hx hb dJ1_charAt_3b067_1 rfl (lv_at hl 0 rfl) ?_
  refine va_tlen hx hb (hF.2.2.1.2.2.2.2.1 a1 h_a1).2.2.2 hS (v := tl_ a1) rfl dJ1_charAt_3b067_2 ?_
  obtain ⟨u1, hc, hf⟩ := bd_out hf
  refine y_v (va_runS (As := [.int a2, .int (tl_ a1)]) (rest := []) hfix (m_J0_checkIndex_df160 l G B E S a2 (tl_ a1) u1 hc) (va_cwS 2 hts gJ1_charAt_3b067_J0_checkIndex_df160 rfl rfl rfl hd_J0_checkIndex_df160 ⟨Nat.le_of_ble_eq_true rfl, Nat.le_of_ble_eq_true rfl⟩) (y_ps hF hW hS) rfl rfl hl.1 rfl (lv_room (Nat.le_of_ble_eq_true rfl)) dJ1_charAt_3b067_3 ⟨Nat.le_of_ble_eq_true rfl, Nat.le_of_ble_eq_true rfl⟩) hS (fun H locs hW hS => ?_)
  refine lv_aload_n hx hb dJ1_charAt_3b067_6 rfl (lv_at hl 0 rfl) ?_
  refine lv_iload_n hx hb dJ1_charAt_3b067_7 rfl (lv_at hl 1 rfl) ?_
  obtain ⟨hi_2, hf⟩ := ck_out hf
  have hi_2 := ib_in hi_2
  refine va_tb hx hb (hF.2.2.1.2.2.2.2.1 a1 h_a1).2.2.2 hS hi_2 (v := .int (tb_ a1 a2.toNatClampNeg)) rfl dJ1_charAt_3b067_8 ?_
  refine lv_sipush (v := 255) hx hb dJ1_charAt_3b067_9 (by decide) ?_
  refine lv_iand hx hb dJ1_charAt_3b067_12 ?_
  refine lv_i2c hx hb dJ1_charAt_3b067_13 rfl ?_
  obtain ⟨hb3, hf⟩ := ck_out hf
  exact zr_i hf hx hb hr (ochar_n hb3) hF hW hS dJ1_charAt_3b067_14 hlocks
set_option maxHeartbeats 4000000 in
set_option maxRecDepth 100000 in
theorem m_J0_charAt_5068e (l : Launch) (G : GE) (B : Nat → Nat → Nat) (E : EN) (i0 : Nat) (h0 : i0 < 2) (S : ST) (a1 : Int32) (rr : Int32) (hf : f_J0_charAt_5068e E i0 S a1 = some rr) : Met l yJ0_charAt_5068e wsJ0_charAt_5068e (rmN 4) (va_Pc [.ref (gK G i0), .int a1] (WS G B E S)) (QI G B E S rr) 0 0 (AA G) := by
  refine Met.ofW (cc := cJ0_charAt_5068e) (maxL := 2) (ret := (some .char)) (by decide) rfl ?_
  intro p e s m args below meth c s₁ B0 hml hv
  obtain ⟨rfl, hW, hF⟩ := hv
  have hx := B0.exec
  have hb := B0.bytes
  have hr := B0.returns
  have hts := atoms_spec (ws := wsJ0_charAt_5068e) B0.pre
  have hown : s.vm.findClass RJ0 = some m.cls := findClass_of_methodNamed B0.named
  have hlocks := B0.notSynchronized
  have hK := hF.1
  have hfix : CallFix p m c cJ0_charAt_5068e 2 s [.ref (gK G i0), .int a1].toArray wsJ0_charAt_5068e RJ0 := ⟨hx, hb, hml, hown, hts⟩
  have hS : va_S (AA G) s.heap s.heap [] := va_S.rf
  have hl := lv_entry [.ref (gK G i0), .int a1] (n := 2) (Nat.le_of_ble_eq_true rfl)
  rw [lg_entry_eq]
  generalize (lg_sl [.ref (gK G i0), .int a1] ++ List.replicate (2 - (lg_sl [.ref (gK G i0), .int a1]).length) Slot.unset).toArray = ls at hl ⊢
  have hl : lv_has ls 2 [(0, .ref (gK G i0)), (1, .int a1)] := hl
  have q0 := hts (.fieldLink RJ0 9 "java/lang/String" "value" "[B") (List.mem_of_getElem? (i := 1) rfl)
  unfold f_J0_charAt_5068e at hf
  refine lv_aload_n hx hb dJ0_charAt_5068e_0 rfl (lv_at hl 0 rfl) ?_
  obtain ⟨r1, hc, hf⟩ := bd_out hf
  refine y_i (va_runV (As := []) (rest := []) hfix (m_J0_isLatin1_aae02 l G B E i0 h0 S  r1 hc) (cwV 0 hts gJ0_charAt_5068e_J0_isLatin1_aae02 rfl rfl rfl ⟨rfl, hd_J0_isLatin1_aae02⟩ ⟨Nat.le_of_ble_eq_true rfl, Nat.le_of_ble_eq_true rfl⟩) (y_pstr hF hW hS i0 h0) rfl rfl hl.1 rfl (lv_room (Nat.le_of_ble_eq_true rfl)) dJ0_charAt_5068e_1 ⟨Nat.le_of_ble_eq_true rfl, Nat.le_of_ble_eq_true rfl⟩) hS (fun H locs hW hS => ?_)
  refine lv_if_eq (tgt := 16) hx hb dJ0_charAt_5068e_4 (by decide) (fun h => ?_) (fun h => ?_)
  · have hf := if_t h hf
    refine lv_aload_n hx hb dJ0_charAt_5068e_16 rfl (lv_at hl 0 rfl) ?_
    refine vk_getf hx hb (hF.2.2.1.2.2.2.2.1 i0 h0).2.2.1 hS hown q0 (fun _ h => h) dJ0_charAt_5068e_17 ?_
    refine lv_iload_n hx hb dJ0_charAt_5068e_20 rfl (lv_at hl 1 rfl) ?_
    exact absurd hf (by intro h; cases h)
  · have hf := if_f h hf
    refine lv_aload_n hx hb dJ0_charAt_5068e_7 rfl (lv_at hl 0 rfl) ?_
    refine vk_getf hx hb (hF.2.2.1.2.2.2.2.1 i0 h0).2.2.1 hS hown q0 (fun _ h => h) dJ0_charAt_5068e_8 ?_
    refine lv_iload_n hx hb dJ0_charAt_5068e_11 rfl (lv_at hl 1 rfl) ?_
    obtain ⟨r2, hc, hf⟩ := bd_out hf
    refine y_i (va_runS (As := [.ref (gV G i0), .int a1]) (rest := []) hfix (m_J1_charAt_3b067 l G B E S i0 h0 a1 r2 hc) (va_cwS 2 hts gJ0_charAt_5068e_J1_charAt_3b067 rfl rfl rfl hd_J1_charAt_3b067 ⟨Nat.le_of_ble_eq_true rfl, Nat.le_of_ble_eq_true rfl⟩) (y_ps hF hW hS) rfl rfl hl.1 rfl (lv_room (Nat.le_of_ble_eq_true rfl)) dJ0_charAt_5068e_12 ⟨Nat.le_of_ble_eq_true rfl, Nat.le_of_ble_eq_true rfl⟩) hS (fun H locs hW hS => ?_)
    obtain ⟨hb3, hf⟩ := ck_out hf
    exact zr_i hf hx hb hr (ochar_n hb3) hF hW hS dJ0_charAt_5068e_15 hlocks
set_option maxHeartbeats 4000000 in
set_option maxRecDepth 100000 in
theorem m_J0_coder_7d493 (l : Launch) (G : GE) (B : Nat → Nat → Nat) (E : EN) (i0 : Nat) (h0 : i0 < 2) (S : ST)  (rr : Int32) (hf : f_J0_coder_7d493 E i0 S = some rr) : Met l yJ0_coder_7d493 wsJ0_coder_7d493 (rmN 1) (va_Pc [.ref (gK G i0)] (WS G B E S)) (QI G B E S rr) 0 0 (AA G) := by
  refine Met.ofW (cc := cJ0_coder_7d493) (maxL := 1) (ret := (some .byte)) (by decide) rfl ?_
  intro p e s m args below meth c s₁ B0 hml hv
  obtain ⟨rfl, hW, hF⟩ := hv
  have hx := B0.exec
  have hb := B0.bytes
  have hr := B0.returns
  have hts := atoms_spec (ws := wsJ0_coder_7d493) B0.pre
  have hown : s.vm.findClass RJ0 = some m.cls := findClass_of_methodNamed B0.named
  have hlocks := B0.notSynchronized
  have hK := hF.1
  have hfix : CallFix p m c cJ0_coder_7d493 1 s [.ref (gK G i0)].toArray wsJ0_coder_7d493 RJ0 := ⟨hx, hb, hml, hown, hts⟩
  have hS : va_S (AA G) s.heap s.heap [] := va_S.rf
  have hl := lv_entry [.ref (gK G i0)] (n := 1) (Nat.le_of_ble_eq_true rfl)
  rw [lg_entry_eq]
  generalize (lg_sl [.ref (gK G i0)] ++ List.replicate (1 - (lg_sl [.ref (gK G i0)]).length) Slot.unset).toArray = ls at hl ⊢
  have hl : lv_has ls 1 [(0, .ref (gK G i0))] := hl
  have q0 := hts (.fieldLink RJ0 38 "java/lang/String" "COMPACT_STRINGS" "Z") (List.mem_of_getElem? (i := 1) rfl)
  have q1 := hts (.fieldLink RJ0 15 "java/lang/String" "coder" "B") (List.mem_of_getElem? (i := 2) rfl)
  unfold f_J0_coder_7d493 at hf
  refine va_gets hx hb hF.2.2.1.2.2.1 hS hown q0 (fun _ h => h) dJ0_coder_7d493_0 ?_
  refine lv_if_eq (tgt := 13) hx hb dJ0_coder_7d493_3 (by decide) (fun h => ?_) (fun h => ?_)
  · have hf := if_t h hf
    refine lv_iconst (v := 1) hx hb dJ0_coder_7d493_13 rfl ?_
    exact zr_i hf hx hb hr rfl hF hW hS dJ0_coder_7d493_14 hlocks
  · have hf := if_f h hf
    refine lv_aload_n hx hb dJ0_coder_7d493_6 rfl (lv_at hl 0 rfl) ?_
    refine vk_getf hx hb (hF.2.2.1.2.2.2.2.1 i0 h0).2.1 hS hown q1 (fun _ h => h) dJ0_coder_7d493_7 ?_
    refine lv_goto (tgt := 14) hx hb dJ0_coder_7d493_10 (by decide) ?_
    exact zr_i hf hx hb hr rfl hF hW hS dJ0_coder_7d493_14 hlocks
set_option maxHeartbeats 4000000 in
set_option maxRecDepth 100000 in
theorem m_J0_length_8abf5 (l : Launch) (G : GE) (B : Nat → Nat → Nat) (E : EN) (i0 : Nat) (h0 : i0 < 2) (S : ST)  (rr : Int32) (hf : f_J0_length_8abf5 E i0 S = some rr) : Met l yJ0_length_8abf5 wsJ0_length_8abf5 (rmN 2) (va_Pc [.ref (gK G i0)] (WS G B E S)) (QI G B E S rr) 0 0 (AA G) := by
  refine Met.ofW (cc := cJ0_length_8abf5) (maxL := 1) (ret := (some .int)) (by decide) rfl ?_
  intro p e s m args below meth c s₁ B0 hml hv
  obtain ⟨rfl, hW, hF⟩ := hv
  have hx := B0.exec
  have hb := B0.bytes
  have hr := B0.returns
  have hts := atoms_spec (ws := wsJ0_length_8abf5) B0.pre
  have hown : s.vm.findClass RJ0 = some m.cls := findClass_of_methodNamed B0.named
  have hlocks := B0.notSynchronized
  have hK := hF.1
  have hfix : CallFix p m c cJ0_length_8abf5 1 s [.ref (gK G i0)].toArray wsJ0_length_8abf5 RJ0 := ⟨hx, hb, hml, hown, hts⟩
  have hS : va_S (AA G) s.heap s.heap [] := va_S.rf
  have hl := lv_entry [.ref (gK G i0)] (n := 1) (Nat.le_of_ble_eq_true rfl)
  rw [lg_entry_eq]
  generalize (lg_sl [.ref (gK G i0)] ++ List.replicate (1 - (lg_sl [.ref (gK G i0)]).length) Slot.unset).toArray = ls at hl ⊢
  have hl : lv_has ls 1 [(0, .ref (gK G i0))] := hl
  have q0 := hts (.fieldLink RJ0 9 "java/lang/String" "value" "[B") (List.mem_of_getElem? (i := 1) rfl)
  unfold f_J0_length_8abf5 at hf
  refine lv_aload_n hx hb dJ0_length_8abf5_0 rfl (lv_at hl 0 rfl) ?_
  refine vk_getf hx hb (hF.2.2.1.2.2.2.2.1 i0 h0).2.2.1 hS hown q0 (fun _ h => h) dJ0_length_8abf5_1 ?_
  refine va_tlen hx hb (hF.2.2.1.2.2.2.2.1 i0 h0).2.2.2 hS (v := tl_ i0) rfl dJ0_length_8abf5_4 ?_
  refine lv_aload_n hx hb dJ0_length_8abf5_5 rfl (lv_at hl 0 rfl) ?_
  obtain ⟨r1, hc, hf⟩ := bd_out hf
  refine y_i (va_runV (As := []) (rest := [.int (tl_ i0)]) hfix (m_J0_coder_7d493 l G B E i0 h0 S  r1 hc) (cwV 0 hts gJ0_length_8abf5_J0_coder_7d493 rfl rfl rfl ⟨rfl, hd_J0_coder_7d493⟩ ⟨Nat.le_of_ble_eq_true rfl, Nat.le_of_ble_eq_true rfl⟩) (y_pstr hF hW hS i0 h0) rfl rfl hl.1 rfl (lv_room (Nat.le_of_ble_eq_true rfl)) dJ0_length_8abf5_6 ⟨Nat.le_of_ble_eq_true rfl, Nat.le_of_ble_eq_true rfl⟩) hS (fun H locs hW hS => ?_)
  refine lv_ishr hx hb dJ0_length_8abf5_9 ?_
  exact zr_i hf hx hb hr rfl hF hW hS dJ0_length_8abf5_10 hlocks
set_option maxHeartbeats 4000000 in
set_option maxRecDepth 100000 in
theorem m_X3_spelt (l : Launch) (G : GE) (B : Nat → Nat → Nat) (E : EN)  (S : ST) (a1 : Int32) (rr : Int32) (hf : f_X3_spelt E S a1 = some rr) : Met l yX3_spelt wsX3_spelt (rmN 5) (va_Pc [.ref (B 8 0), .int a1] (WS G B E S)) (QI G B E S rr) 0 0 (AA G) := by
  refine Met.ofW (cc := cX3_spelt) (maxL := 7) (ret := (some .int)) (by decide) rfl ?_
  intro p e s m args below meth c s₁ B0 hml hv
  obtain ⟨rfl, hW, hF⟩ := hv
  have hx := B0.exec
  have hb := B0.bytes
  have hr := B0.returns
  have hts := atoms_spec (ws := wsX3_spelt) B0.pre
  have hown : s.vm.findClass RX3 = some m.cls := findClass_of_methodNamed B0.named
  have hlocks := B0.notSynchronized
  have hK := hF.1
  have hfix : CallFix p m c cX3_spelt 7 s [.ref (B 8 0), .int a1].toArray wsX3_spelt RX3 := ⟨hx, hb, hml, hown, hts⟩
  have hS : va_S (AA G) s.heap s.heap [] := va_S.rf
  have hl := lv_entry [.ref (B 8 0), .int a1] (n := 7) (Nat.le_of_ble_eq_true rfl)
  rw [lg_entry_eq]
  generalize (lg_sl [.ref (B 8 0), .int a1] ++ List.replicate (7 - (lg_sl [.ref (B 8 0), .int a1]).length) Slot.unset).toArray = ls at hl ⊢
  have hl : lv_has ls 7 [(0, .ref (B 8 0)), (1, .int a1)] := hl
  have q0 := hts (.fieldLink RX3 15 "MovesUp$Reader" "at" "I") (List.mem_of_getElem? (i := 1) rfl)
  have q1 := hts (.fieldLink RX3 40 "MovesUp$Reader" "bytes" "[B") (List.mem_of_getElem? (i := 2) rfl)
  have hi3 : ∀ w ∈ u_ws RX3 TX3 10, w ∈ wsX3_spelt := in_seg 52 rfl
  have w12 : ∀ (n12 : Nat) (_ : Unit) (v1 : Int32) (v2 : Int32) (v3 : Int32) (v4 : Int32) (v5 : Int32) , f_X3_spelt_b12 E n12 S v1 v2 v3 v4 v5 = some rr → ∀ (H : Heap) (locs : List Loc) (ls : Array Slot), WH G B E S H → va_S (AA G) s.heap H locs → lv_has ls 7 [(0, .ref (B 8 0)), (1, .int v1), (2, .int v2), (3, .int v3), (4, .int v4), (5, .int v5)] → W p l e (headSpec wsX3_spelt (rmN 5)).room s m [.ref (B 8 0), .int a1].toArray below meth c H locs 0 0 (MQ below (QI G B E S rr) [.ref (B 8 0), .int a1].toArray s 0 0 (AA G)) (F0 m 12 ls []) := by
    intro n12
    induction n12 with
    | zero =>
      intro _ v1 v2 v3 v4 v5 hf
      exact absurd (show (none : Option Int32) = some rr from hf) (fun h => by cases h)
    | succ n12 ih12 =>
      have w97 : ∀ (_ : Unit) (v1 : Int32) (v2 : Int32) (v3 : Int32) (v4 : Int32) (v5 : Int32) , f_X3_spelt_b97 E (f_X3_spelt_b12 E n12) S v1 v2 v3 v4 v5 = some rr → ∀ (H : Heap) (locs : List Loc) (ls : Array Slot), WH G B E S H → va_S (AA G) s.heap H locs → lv_has ls 7 [(0, .ref (B 8 0)), (1, .int v1), (2, .int v2), (3, .int v3), (4, .int v4), (5, .int v5)] → W p l e (headSpec wsX3_spelt (rmN 5)).room s m [.ref (B 8 0), .int a1].toArray below meth c H locs 0 0 (MQ below (QI G B E S rr) [.ref (B 8 0), .int a1].toArray s 0 0 (AA G)) (F0 m 97 ls []) := by
        intro _ v1 v2 v3 v4 v5 hf H locs ls hW hS hl
        unfold f_X3_spelt_b97 at hf
        obtain ⟨x1, e_x1, hf⟩ := lt_out hf
        refine lv_iinc (v := x1) (lv' := [(5, .int x1), (0, .ref (B 8 0)), (1, .int v1), (2, .int v2), (3, .int v3), (4, .int v4)]) hx hb dX3_spelt_97 hl (k := 5) rfl (by rw [e_x1]; rfl) (by decide) rfl (fun ls hl => ?_)
        refine lv_goto (tgt := 12) hx hb dX3_spelt_100 (by decide) ?_
        exact ih12 () v1 v2 v3 v4 x1  hf _ _ _ hW hS (lv_sub hl [1, 2, 3, 4, 5, 0] rfl)
      have w94 : ∀ (_ : Unit) (v1 : Int32) (v2 : Int32) (v3 : Int32) (v5 : Int32) , f_X3_spelt_b94 E (f_X3_spelt_b12 E n12) S v1 v2 v3 v5 = some rr → ∀ (H : Heap) (locs : List Loc) (ls : Array Slot), WH G B E S H → va_S (AA G) s.heap H locs → lv_has ls 7 [(0, .ref (B 8 0)), (1, .int v1), (2, .int v2), (3, .int v3), (5, .int v5)] → W p l e (headSpec wsX3_spelt (rmN 5)).room s m [.ref (B 8 0), .int a1].toArray below meth c H locs 0 0 (MQ below (QI G B E S rr) [.ref (B 8 0), .int a1].toArray s 0 0 (AA G)) (F0 m 94 ls []) := by
        intro _ v1 v2 v3 v5 hf H locs ls hW hS hl
        unfold f_X3_spelt_b94 at hf
        refine lv_iconst (v := 0) hx hb dX3_spelt_94 rfl ?_
        refine lv_istore (lv' := [(4, .int (0 : Int32)), (0, .ref (B 8 0)), (1, .int v1), (2, .int v2), (3, .int v3), (5, .int v5)]) hx hb dX3_spelt_95 hl (by decide) rfl (fun ls hl => ?_)
        exact w97 () v1 v2 v3 (0 : Int32) v5  hf _ _ _ hW hS (lv_sub hl [1, 2, 3, 4, 0, 5] rfl)
      have w53 : ∀ (_ : Unit) (v1 : Int32) (v2 : Int32) (v5 : Int32) , f_X3_spelt_b53 E (f_X3_spelt_b12 E n12) S v1 v2 v5 = some rr → ∀ (H : Heap) (locs : List Loc) (ls : Array Slot), WH G B E S H → va_S (AA G) s.heap H locs → lv_has ls 7 [(0, .ref (B 8 0)), (1, .int v1), (2, .int v2), (5, .int v5)] → W p l e (headSpec wsX3_spelt (rmN 5)).room s m [.ref (B 8 0), .int a1].toArray below meth c H locs 0 0 (MQ below (QI G B E S rr) [.ref (B 8 0), .int a1].toArray s 0 0 (AA G)) (F0 m 53 ls []) := by
        intro _ v1 v2 v5 hf H locs ls hW hS hl
        unfold f_X3_spelt_b53 at hf
        obtain ⟨x2, e_x2, hf⟩ := lt_out hf
        refine lv_iinc (v := x2) (lv' := [(2, .int x2), (0, .ref (B 8 0)), (1, .int v1), (5, .int v5)]) hx hb dX3_spelt_53 hl (k := 2) rfl (by rw [e_x2]; rfl) (by decide) rfl (fun ls hl => ?_)
        refine lv_iload_n hx hb dX3_spelt_56 rfl (lv_at hl 2 rfl) ?_
        refine lv_istore_n (lv' := [(3, .int v1), (2, .int x2), (0, .ref (B 8 0)), (1, .int v1), (5, .int v5)]) hx hb dX3_spelt_57 rfl hl (by decide) rfl (fun ls hl => ?_)
        refine lv_iconst (v := 1) hx hb dX3_spelt_58 rfl ?_
        refine lv_istore (lv' := [(4, .int (1 : Int32)), (3, .int v1), (2, .int x2), (0, .ref (B 8 0)), (1, .int v1), (5, .int v5)]) hx hb dX3_spelt_59 hl (by decide) rfl (fun ls hl => ?_)
        refine lv_goto (tgt := 97) hx hb dX3_spelt_61 (by decide) ?_
        exact w97 () v1 x2 v1 (1 : Int32) v5  hf _ _ _ hW hS (lv_sub hl [3, 4, 2, 1, 0, 5] rfl)
      intro _ v1 v2 v3 v4 v5 hf H locs ls hW hS hl
      have hf : g_X3_spelt_b12 E (f_X3_spelt_b12 E n12) S v1 v2 v3 v4 v5 = some rr := hf
      unfold g_X3_spelt_b12 at hf
      refine lv_iload hx hb dX3_spelt_12 (lv_at hl 5 rfl) ?_
      refine va_ldcS hx hb hown (hF.2.2.2.2) dX3_spelt_14 ?_
      obtain ⟨r3, hc, hf⟩ := bd_out hf
      refine y_i (va_runV (As := []) (rest := [.int v5]) hfix (m_J0_length_8abf5 l G B E 1 (by decide) S  r3 hc) (cwV 0 hts gX3_spelt_J0_length_8abf5 rfl rfl rfl ⟨rfl, hd_J0_length_8abf5⟩ ⟨Nat.le_of_ble_eq_true rfl, Nat.le_of_ble_eq_true rfl⟩) (y_pstr hF hW hS 1 (by decide)) rfl rfl hl.1 rfl (lv_room (Nat.le_of_ble_eq_true rfl)) dX3_spelt_16 ⟨Nat.le_of_ble_eq_true rfl, Nat.le_of_ble_eq_true rfl⟩) hS (fun H locs hW hS => ?_)
      refine lv_icmp_ge (tgt := 103) hx hb dX3_spelt_19 (by decide) (fun h => ?_) (fun h => ?_)
      · have hf := if_t h hf
        refine lv_iconst (v := -1) hx hb dX3_spelt_103 rfl ?_
        exact zr_i hf hx hb hr rfl hF hW hS dX3_spelt_104 hlocks
      · have hf := if_f h hf
        refine va_ldcS hx hb hown (hF.2.2.2.2) dX3_spelt_22 ?_
        refine lv_iload hx hb dX3_spelt_24 (lv_at hl 5 rfl) ?_
        obtain ⟨r4, hc, hf⟩ := bd_out hf
        refine y_i (va_runV (As := [.int v5]) (rest := []) hfix (m_J0_charAt_5068e l G B E 1 (by decide) S v5 r4 hc) (cwV 1 hts gX3_spelt_J0_charAt_5068e rfl rfl rfl ⟨rfl, hd_J0_charAt_5068e⟩ ⟨Nat.le_of_ble_eq_true rfl, Nat.le_of_ble_eq_true rfl⟩) (y_pstr hF hW hS 1 (by decide)) rfl rfl hl.1 rfl (lv_room (Nat.le_of_ble_eq_true rfl)) dX3_spelt_26 ⟨Nat.le_of_ble_eq_true rfl, Nat.le_of_ble_eq_true rfl⟩) hS (fun H locs hW hS => ?_)
        refine lv_istore (lv' := [(6, .int r4), (0, .ref (B 8 0)), (1, .int v1), (2, .int v2), (3, .int v3), (4, .int v4), (5, .int v5)]) hx hb dX3_spelt_29 hl (by decide) rfl (fun ls hl => ?_)
        refine lv_iload hx hb dX3_spelt_31 (lv_at hl 0 rfl) ?_
        refine lv_bipush (v := 32) hx hb dX3_spelt_33 (by decide) ?_
        refine lv_icmp_ne (tgt := 64) hx hb dX3_spelt_35 (by decide) (fun h => ?_) (fun h => ?_)
        · have hf := if_f h hf
          refine lv_iload hx hb dX3_spelt_64 (lv_at hl 5 rfl) ?_
          refine lv_if_eq (tgt := 94) hx hb dX3_spelt_66 (by decide) (fun h => ?_) (fun h => ?_)
          · have hf := if_t h hf
            exact w94 () v1 v2 v3 v5  hf _ _ _ hW hS (lv_sub hl [1, 2, 3, 4, 6] rfl)
          · have hf := if_f h hf
            refine lv_iload_n hx hb dX3_spelt_69 rfl (lv_at hl 4 rfl) ?_
            refine lv_aload_n hx hb dX3_spelt_70 rfl (lv_at hl 1 rfl) ?_
            refine x_get hx hb hts hi3 hown hK hW (c8 E) (e8 _ _ _ _ _ _) rfl 2 (Nat.le_of_ble_eq_true rfl) q0 (fun _ h => h) (v := .int (gI S 8 0 2)) rfl dX3_spelt_71 ?_
            refine lv_icmp_ge (tgt := 94) hx hb dX3_spelt_74 (by decide) (fun h => ?_) (fun h => ?_)
            · have hf := if_t h hf
              exact w94 () v1 v2 v3 v5  hf _ _ _ hW hS (lv_sub hl [1, 2, 3, 4, 6] rfl)
            · have hf := if_f h hf
              refine lv_aload_n hx hb dX3_spelt_77 rfl (lv_at hl 1 rfl) ?_
              refine x_get hx hb hts hi3 hown hK hW (c8 E) (e8 _ _ _ _ _ _) rfl 0 (Nat.le_of_ble_eq_true rfl) q1 (fun _ h => h) (v := .ref (B 5 0)) rfl dX3_spelt_78 ?_
              refine lv_iload_n hx hb dX3_spelt_81 rfl (lv_at hl 4 rfl) ?_
              obtain ⟨hi_5, hf⟩ := ck_out hf
              have hi_5 := ib_in hi_5
              refine x_bald hx hb hK hW (c5 E) (e5 _ _ _ _ _ _) hi_5 (jn := v3.toNatClampNeg) rfl dX3_spelt_82 ?_
              refine lv_iload hx hb dX3_spelt_83 (lv_at hl 0 rfl) ?_
              refine lv_icmp_ne (tgt := 94) hx hb dX3_spelt_85 (by decide) (fun h => ?_) (fun h => ?_)
              · have hf := if_f h hf
                exact w94 () v1 v2 v3 v5  hf _ _ _ hW hS (lv_sub hl [1, 2, 3, 4, 6] rfl)
              · have hf := if_t h hf
                obtain ⟨x6, e_x6, hf⟩ := lt_out hf
                refine lv_iinc (v := x6) (lv' := [(3, .int x6), (6, .int r4), (0, .ref (B 8 0)), (1, .int v1), (2, .int v2), (4, .int v4), (5, .int v5)]) hx hb dX3_spelt_88 hl (k := 4) rfl (by rw [e_x6]; rfl) (by decide) rfl (fun ls hl => ?_)
                refine lv_goto (tgt := 97) hx hb dX3_spelt_91 (by decide) ?_
                exact w97 () v1 v2 x6 v4 v5  hf _ _ _ hW hS (lv_sub hl [2, 3, 4, 0, 5, 6] rfl)
        · have hf := if_t h hf
          refine lv_iload hx hb dX3_spelt_38 (lv_at hl 5 rfl) ?_
          refine lv_if_eq (tgt := 53) hx hb dX3_spelt_40 (by decide) (fun h => ?_) (fun h => ?_)
          · have hf := if_t h hf
            exact w53 () v1 v2 v5  hf _ _ _ hW hS (lv_sub hl [1, 2, 3, 6] rfl)
          · have hf := if_f h hf
            refine lv_iload_n hx hb dX3_spelt_43 rfl (lv_at hl 4 rfl) ?_
            refine lv_aload_n hx hb dX3_spelt_44 rfl (lv_at hl 1 rfl) ?_
            refine x_get hx hb hts hi3 hown hK hW (c8 E) (e8 _ _ _ _ _ _) rfl 2 (Nat.le_of_ble_eq_true rfl) q0 (fun _ h => h) (v := .int (gI S 8 0 2)) rfl dX3_spelt_45 ?_
            refine lv_icmp_ne (tgt := 53) hx hb dX3_spelt_48 (by decide) (fun h => ?_) (fun h => ?_)
            · have hf := if_f h hf
              exact w53 () v1 v2 v5  hf _ _ _ hW hS (lv_sub hl [1, 2, 3, 6] rfl)
            · have hf := if_t h hf
              refine lv_iload_n hx hb dX3_spelt_51 rfl (lv_at hl 3 rfl) ?_
              exact zr_i hf hx hb hr rfl hF hW hS dX3_spelt_52 hlocks
  unfold f_X3_spelt at hf
  refine lv_sipush (v := 256) hx hb dX3_spelt_0 (by decide) ?_
  refine lv_istore_n (lv' := [(2, .int (256 : Int32)), (0, .ref (B 8 0)), (1, .int a1)]) hx hb dX3_spelt_3 rfl hl (by decide) rfl (fun ls hl => ?_)
  refine lv_iload_n hx hb dX3_spelt_4 rfl (lv_at hl 2 rfl) ?_
  refine lv_istore_n (lv' := [(3, .int a1), (2, .int (256 : Int32)), (0, .ref (B 8 0)), (1, .int a1)]) hx hb dX3_spelt_5 rfl hl (by decide) rfl (fun ls hl => ?_)
  refine lv_iconst (v := 1) hx hb dX3_spelt_6 rfl ?_
  refine lv_istore (lv' := [(4, .int (1 : Int32)), (3, .int a1), (2, .int (256 : Int32)), (0, .ref (B 8 0)), (1, .int a1)]) hx hb dX3_spelt_7 hl (by decide) rfl (fun ls hl => ?_)
  refine lv_iconst (v := 0) hx hb dX3_spelt_9 rfl ?_
  refine lv_istore (lv' := [(5, .int (0 : Int32)), (4, .int (1 : Int32)), (3, .int a1), (2, .int (256 : Int32)), (0, .ref (B 8 0)), (1, .int a1)]) hx hb dX3_spelt_10 hl (by decide) rfl (fun ls hl => ?_)
  exact w12 E.1 () a1 (256 : Int32) a1 (1 : Int32) (0 : Int32)  hf _ _ _ hW hS (lv_sub hl [4, 5, 3, 2, 1, 0] rfl)
set_option maxHeartbeats 4000000 in
set_option maxRecDepth 100000 in
theorem m_X3_word (l : Launch) (G : GE) (B : Nat → Nat → Nat) (E : EN)  (S : ST)  (rr : Int32) (SS : ST) (hf : f_X3_word E S = some (rr, SS)) : Met l yX3_word wsX3_word (rmN 6) (va_Pc [.ref (B 8 0)] (WS G B E S)) (QI G B E SS rr) 0 0 (AA G) := by
  refine Met.ofW (cc := cX3_word) (maxL := 2) (ret := (some .int)) (by decide) rfl ?_
  intro p e s m args below meth c s₁ B0 hml hv
  obtain ⟨rfl, hW, hF⟩ := hv
  have hx := B0.exec
  have hb := B0.bytes
  have hr := B0.returns
  have hts := atoms_spec (ws := wsX3_word) B0.pre
  have hown : s.vm.findClass RX3 = some m.cls := findClass_of_methodNamed B0.named
  have hlocks := B0.notSynchronized
  have hK := hF.1
  have hfix : CallFix p m c cX3_word 2 s [.ref (B 8 0)].toArray wsX3_word RX3 := ⟨hx, hb, hml, hown, hts⟩
  have hS : va_S (AA G) s.heap s.heap [] := va_S.rf
  have hl := lv_entry [.ref (B 8 0)] (n := 2) (Nat.le_of_ble_eq_true rfl)
  rw [lg_entry_eq]
  generalize (lg_sl [.ref (B 8 0)] ++ List.replicate (2 - (lg_sl [.ref (B 8 0)]).length) Slot.unset).toArray = ls at hl ⊢
  have hl : lv_has ls 2 [(0, .ref (B 8 0))] := hl
  have q0 := hts (.fieldLink RX3 15 "MovesUp$Reader" "at" "I") (List.mem_of_getElem? (i := 1) rfl)
  have q1 := hts (.fieldLink RX3 11 "MovesUp$Reader" "size" "I") (List.mem_of_getElem? (i := 2) rfl)
  have q2 := hts (.fieldLink RX3 40 "MovesUp$Reader" "bytes" "[B") (List.mem_of_getElem? (i := 3) rfl)
  have hi3 : ∀ w ∈ u_ws RX3 TX3 10, w ∈ wsX3_word := in_seg 61 rfl
  have w44 : ∀ (S : ST) (v1 : Int32) , f_X3_word_b44 E S v1 = some (rr, SS) → ∀ (H : Heap) (locs : List Loc) (ls : Array Slot), WH G B E S H → va_S (AA G) s.heap H locs → lv_has ls 2 [(0, .ref (B 8 0)), (1, .int v1)] → W p l e (headSpec wsX3_word (rmN 6)).room s m [.ref (B 8 0)].toArray below meth c H locs 0 0 (MQ below (QI G B E SS rr) [.ref (B 8 0)].toArray s 0 0 (AA G)) (F0 m 44 ls []) := by
    intro S v1 hf H locs ls hW hS hl
    unfold f_X3_word_b44 at hf
    refine lv_aload_n hx hb dX3_word_44 rfl (lv_at hl 0 rfl) ?_
    refine lv_iload_n hx hb dX3_word_45 rfl (lv_at hl 1 rfl) ?_
    obtain ⟨r1, hc, hf⟩ := bd_out hf
    refine y_i (va_runV (As := [.int v1]) (rest := []) hfix (m_X3_spelt l G B E S v1 r1 hc) (cwV 1 hts gX3_word_X3_spelt rfl rfl rfl ⟨rfl, hd_X3_spelt⟩ ⟨Nat.le_of_ble_eq_true rfl, Nat.le_of_ble_eq_true rfl⟩) (y_pv hF hW hS (c8 E) (e8 _ _ _ _ _ _) rfl) rfl rfl hl.1 rfl (lv_room (Nat.le_of_ble_eq_true rfl)) dX3_word_46 ⟨Nat.le_of_ble_eq_true rfl, Nat.le_of_ble_eq_true rfl⟩) hS (fun H locs hW hS => ?_)
    exact z_i hf hx hb hr rfl hF hW hS dX3_word_49 hlocks
  have w5 : ∀ (n5 : Nat) (S : ST) (v1 : Int32) , f_X3_word_b5 E n5 S v1 = some (rr, SS) → ∀ (H : Heap) (locs : List Loc) (ls : Array Slot), WH G B E S H → va_S (AA G) s.heap H locs → lv_has ls 2 [(0, .ref (B 8 0)), (1, .int v1)] → W p l e (headSpec wsX3_word (rmN 6)).room s m [.ref (B 8 0)].toArray below meth c H locs 0 0 (MQ below (QI G B E SS rr) [.ref (B 8 0)].toArray s 0 0 (AA G)) (F0 m 5 ls []) := by
    intro n5
    induction n5 with
    | zero =>
      intro S v1 hf
      exact absurd (show (none : Option (Int32 × ST)) = some (rr, SS) from hf) (fun h => by cases h)
    | succ n5 ih5 =>
      intro S v1 hf H locs ls hW hS hl
      have hf : g_X3_word_b5 E (f_X3_word_b5 E n5) S v1 = some (rr, SS) := hf
      unfold g_X3_word_b5 at hf
      refine lv_aload_n hx hb dX3_word_5 rfl (lv_at hl 0 rfl) ?_
      refine x_get hx hb hts hi3 hown hK hW (c8 E) (e8 _ _ _ _ _ _) rfl 2 (Nat.le_of_ble_eq_true rfl) q0 (fun _ h => h) (v := .int (gI S 8 0 2)) rfl dX3_word_6 ?_
      refine lv_aload_n hx hb dX3_word_9 rfl (lv_at hl 0 rfl) ?_
      refine x_get hx hb hts hi3 hown hK hW (c8 E) (e8 _ _ _ _ _ _) rfl 1 (Nat.le_of_ble_eq_true rfl) q1 (fun _ h => h) (v := .int (gI S 8 0 1)) rfl dX3_word_10 ?_
      refine lv_icmp_ge (tgt := 44) hx hb dX3_word_13 (by decide) (fun h => ?_) (fun h => ?_)
      · have hf := if_t h hf
        exact w44 S v1  hf _ _ _ hW hS (lv_sub hl [0, 1] rfl)
      · have hf := if_f h hf
        refine lv_aload_n hx hb dX3_word_16 rfl (lv_at hl 0 rfl) ?_
        refine x_get hx hb hts hi3 hown hK hW (c8 E) (e8 _ _ _ _ _ _) rfl 0 (Nat.le_of_ble_eq_true rfl) q2 (fun _ h => h) (v := .ref (B 5 0)) rfl dX3_word_17 ?_
        refine lv_aload_n hx hb dX3_word_20 rfl (lv_at hl 0 rfl) ?_
        refine x_get hx hb hts hi3 hown hK hW (c8 E) (e8 _ _ _ _ _ _) rfl 2 (Nat.le_of_ble_eq_true rfl) q0 (fun _ h => h) (v := .int (gI S 8 0 2)) rfl dX3_word_21 ?_
        obtain ⟨hi_2, hf⟩ := ck_out hf
        have hi_2 := ib_in hi_2
        refine x_bald hx hb hK hW (c5 E) (e5 _ _ _ _ _ _) hi_2 (jn := (gI S 8 0 2).toNatClampNeg) rfl dX3_word_24 ?_
        obtain ⟨r3, hc, hf⟩ := bd_out hf
        refine y_i (va_runS (As := [.int (gI S 5 0 (gI S 8 0 2).toNatClampNeg)]) (rest := []) hfix (m_X3_isLetter l G B E S (gI S 5 0 (gI S 8 0 2).toNatClampNeg) r3 hc) (va_cwS 1 hts gX3_word_X3_isLetter rfl rfl rfl hd_X3_isLetter ⟨Nat.le_of_ble_eq_true rfl, Nat.le_of_ble_eq_true rfl⟩) (y_ps hF hW hS) rfl rfl hl.1 rfl (lv_room (Nat.le_of_ble_eq_true rfl)) dX3_word_25 ⟨Nat.le_of_ble_eq_true rfl, Nat.le_of_ble_eq_true rfl⟩) hS (fun H locs hW hS => ?_)
        refine lv_if_eq (tgt := 44) hx hb dX3_word_28 (by decide) (fun h => ?_) (fun h => ?_)
        · have hf := if_t h hf
          exact w44 S v1  hf _ _ _ hW hS (lv_sub hl [0, 1] rfl)
        · have hf := if_f h hf
          refine lv_aload_n hx hb dX3_word_31 rfl (lv_at hl 0 rfl) ?_
          refine lv_dup hx hb dX3_word_32 rfl ?_
          refine x_get hx hb hts hi3 hown hK hW (c8 E) (e8 _ _ _ _ _ _) rfl 2 (Nat.le_of_ble_eq_true rfl) q0 (fun _ h => h) (v := .int (gI S 8 0 2)) rfl dX3_word_33 ?_
          refine lv_iconst (v := 1) hx hb dX3_word_36 rfl ?_
          refine lv_iadd hx hb dX3_word_37 ?_
          obtain ⟨S4, e_S4, hf⟩ := lt_out hf
          refine x_putI hx hb hts hi3 tyX3 tyX3_ok nmX3 hown hK hW hS (c8 E) (e8 _ _ _) rfl 2 (Nat.le_of_ble_eq_true rfl) q0 (fun _ h => h) rfl (tyX3_ok 2 (Nat.le_of_ble_eq_true rfl)) rfl rfl (Nat.le_of_ble_eq_true rfl) (pu8_2 _ _) e_S4 dX3_word_38 (fun H locs hW hS => ?_)
          refine lv_goto (tgt := 5) hx hb dX3_word_41 (by decide) ?_
          exact ih5 S4 v1  hf _ _ _ hW hS (lv_sub hl [0, 1] rfl)
  unfold f_X3_word at hf
  refine lv_aload_n hx hb dX3_word_0 rfl (lv_at hl 0 rfl) ?_
  refine x_get hx hb hts hi3 hown hK hW (c8 E) (e8 _ _ _ _ _ _) rfl 2 (Nat.le_of_ble_eq_true rfl) q0 (fun _ h => h) (v := .int (gI S 8 0 2)) rfl dX3_word_1 ?_
  obtain ⟨x5, e_x5, hf⟩ := lt_out hf
  refine x_nmI e_x5 ?_
  refine lv_istore_n (lv' := [(1, .int x5), (0, .ref (B 8 0))]) hx hb dX3_word_4 rfl hl (by decide) rfl (fun ls hl => ?_)
  exact w5 E.1 S x5  hf _ _ _ hW hS (lv_sub hl [1, 0] rfl)
set_option maxHeartbeats 4000000 in
set_option maxRecDepth 100000 in
theorem m_X3_advance (l : Launch) (G : GE) (B : Nat → Nat → Nat) (E : EN)  (S : ST)  (SS : ST) (hf : f_X3_advance E S = some SS) : Met l yX3_advance wsX3_advance (rmN 7) (va_Pc [.ref (B 8 0)] (WS G B E S)) (QV G B E SS) 0 0 (AA G) := by
  refine Met.ofW (cc := cX3_advance) (maxL := 1) (ret := none) (by decide) rfl ?_
  intro p e s m args below meth c s₁ B0 hml hv
  obtain ⟨rfl, hW, hF⟩ := hv
  have hx := B0.exec
  have hb := B0.bytes
  have hr := B0.returns
  have hts := atoms_spec (ws := wsX3_advance) B0.pre
  have hown : s.vm.findClass RX3 = some m.cls := findClass_of_methodNamed B0.named
  have hlocks := B0.notSynchronized
  have hK := hF.1
  have hfix : CallFix p m c cX3_advance 1 s [.ref (B 8 0)].toArray wsX3_advance RX3 := ⟨hx, hb, hml, hown, hts⟩
  have hS : va_S (AA G) s.heap s.heap [] := va_S.rf
  have hl := lv_entry [.ref (B 8 0)] (n := 1) (Nat.le_of_ble_eq_true rfl)
  rw [lg_entry_eq]
  generalize (lg_sl [.ref (B 8 0)] ++ List.replicate (1 - (lg_sl [.ref (B 8 0)]).length) Slot.unset).toArray = ls at hl ⊢
  have hl : lv_has ls 1 [(0, .ref (B 8 0))] := hl
  have q0 := hts (.fieldLink RX3 18 "MovesUp$Reader" "token" "I") (List.mem_of_getElem? (i := 6) rfl)
  have q1 := hts (.fieldLink RX3 15 "MovesUp$Reader" "at" "I") (List.mem_of_getElem? (i := 2) rfl)
  have q2 := hts (.fieldLink RX3 21 "MovesUp$Reader" "place" "I") (List.mem_of_getElem? (i := 5) rfl)
  have q3 := hts (.fieldLink RX3 11 "MovesUp$Reader" "size" "I") (List.mem_of_getElem? (i := 3) rfl)
  have q4 := hts (.fieldLink RX3 40 "MovesUp$Reader" "bytes" "[B") (List.mem_of_getElem? (i := 4) rfl)
  have q5 := hts (.fieldLink RX3 24 "MovesUp$Reader" "fault" "I") (List.mem_of_getElem? (i := 1) rfl)
  have hi3 : ∀ w ∈ u_ws RX3 TX3 10, w ∈ wsX3_advance := in_seg 78 rfl
  have w169 : ∀ (S : ST) (t0 : Int32) , f_X3_advance_b169 E S t0 = some SS → ∀ (H : Heap) (locs : List Loc) (ls : Array Slot), WH G B E S H → va_S (AA G) s.heap H locs → lv_has ls 1 [(0, .ref (B 8 0))] → W p l e (headSpec wsX3_advance (rmN 7)).room s m [.ref (B 8 0)].toArray below meth c H locs 0 0 (MQ below (QV G B E SS) [.ref (B 8 0)].toArray s 0 0 (AA G)) (F0 m 169 ls [.int t0, .ref (B 8 0)]) := by
    intro S t0 hf H locs ls hW hS hl
    unfold f_X3_advance_b169 at hf
    obtain ⟨S1, e_S1, hf⟩ := lt_out hf
    refine x_putI hx hb hts hi3 tyX3 tyX3_ok nmX3 hown hK hW hS (c8 E) (e8 _ _ _) rfl 3 (Nat.le_of_ble_eq_true rfl) q0 (fun _ h => h) rfl (tyX3_ok 3 (Nat.le_of_ble_eq_true rfl)) rfl rfl (Nat.le_of_ble_eq_true rfl) (pu8_3 _ _) e_S1 dX3_advance_169 (fun H locs hW hS => ?_)
    refine lv_aload_n hx hb dX3_advance_172 rfl (lv_at hl 0 rfl) ?_
    refine lv_dup hx hb dX3_advance_173 rfl ?_
    refine x_get hx hb hts hi3 hown hK hW (c8 E) (e8 _ _ _ _ _ _) rfl 2 (Nat.le_of_ble_eq_true rfl) q1 (fun _ h => h) (v := .int (gI S1 8 0 2)) rfl dX3_advance_174 ?_
    refine lv_iconst (v := 1) hx hb dX3_advance_177 rfl ?_
    refine lv_iadd hx hb dX3_advance_178 ?_
    obtain ⟨S2, e_S2, hf⟩ := lt_out hf
    refine x_putI hx hb hts hi3 tyX3 tyX3_ok nmX3 hown hK hW hS (c8 E) (e8 _ _ _) rfl 2 (Nat.le_of_ble_eq_true rfl) q1 (fun _ h => h) rfl (tyX3_ok 2 (Nat.le_of_ble_eq_true rfl)) rfl rfl (Nat.le_of_ble_eq_true rfl) (pu8_2 _ _) e_S2 dX3_advance_179 (fun H locs hW hS => ?_)
    exact z_v hf hx hb hr hF hW hS dX3_advance_182 hlocks
  have w61 : ∀ (S : ST)  , f_X3_advance_b61 E S  = some SS → ∀ (H : Heap) (locs : List Loc) (ls : Array Slot), WH G B E S H → va_S (AA G) s.heap H locs → lv_has ls 1 [(0, .ref (B 8 0))] → W p l e (headSpec wsX3_advance (rmN 7)).room s m [.ref (B 8 0)].toArray below meth c H locs 0 0 (MQ below (QV G B E SS) [.ref (B 8 0)].toArray s 0 0 (AA G)) (F0 m 61 ls []) := by
    intro S  hf H locs ls hW hS hl
    unfold f_X3_advance_b61 at hf
    refine lv_aload_n hx hb dX3_advance_61 rfl (lv_at hl 0 rfl) ?_
    refine lv_aload_n hx hb dX3_advance_62 rfl (lv_at hl 0 rfl) ?_
    refine x_get hx hb hts hi3 hown hK hW (c8 E) (e8 _ _ _ _ _ _) rfl 2 (Nat.le_of_ble_eq_true rfl) q1 (fun _ h => h) (v := .int (gI S 8 0 2)) rfl dX3_advance_63 ?_
    obtain ⟨S3, e_S3, hf⟩ := lt_out hf
    refine x_putI hx hb hts hi3 tyX3 tyX3_ok nmX3 hown hK hW hS (c8 E) (e8 _ _ _) rfl 4 (Nat.le_of_ble_eq_true rfl) q2 (fun _ h => h) rfl (tyX3_ok 4 (Nat.le_of_ble_eq_true rfl)) rfl rfl (Nat.le_of_ble_eq_true rfl) (pu8_4 _ _) e_S3 dX3_advance_66 (fun H locs hW hS => ?_)
    refine lv_aload_n hx hb dX3_advance_69 rfl (lv_at hl 0 rfl) ?_
    refine x_get hx hb hts hi3 hown hK hW (c8 E) (e8 _ _ _ _ _ _) rfl 2 (Nat.le_of_ble_eq_true rfl) q1 (fun _ h => h) (v := .int (gI S3 8 0 2)) rfl dX3_advance_70 ?_
    refine lv_aload_n hx hb dX3_advance_73 rfl (lv_at hl 0 rfl) ?_
    refine x_get hx hb hts hi3 hown hK hW (c8 E) (e8 _ _ _ _ _ _) rfl 1 (Nat.le_of_ble_eq_true rfl) q3 (fun _ h => h) (v := .int (gI S3 8 0 1)) rfl dX3_advance_74 ?_
    refine lv_icmp_lt (tgt := 88) hx hb dX3_advance_77 (by decide) (fun h => ?_) (fun h => ?_)
    · have hf := if_t h hf
      refine lv_aload_n hx hb dX3_advance_88 rfl (lv_at hl 0 rfl) ?_
      refine x_get hx hb hts hi3 hown hK hW (c8 E) (e8 _ _ _ _ _ _) rfl 0 (Nat.le_of_ble_eq_true rfl) q4 (fun _ h => h) (v := .ref (B 5 0)) rfl dX3_advance_89 ?_
      refine lv_aload_n hx hb dX3_advance_92 rfl (lv_at hl 0 rfl) ?_
      refine x_get hx hb hts hi3 hown hK hW (c8 E) (e8 _ _ _ _ _ _) rfl 2 (Nat.le_of_ble_eq_true rfl) q1 (fun _ h => h) (v := .int (gI S3 8 0 2)) rfl dX3_advance_93 ?_
      obtain ⟨hi_4, hf⟩ := ck_out hf
      have hi_4 := ib_in hi_4
      refine x_bald hx hb hK hW (c5 E) (e5 _ _ _ _ _ _) hi_4 (jn := (gI S3 8 0 2).toNatClampNeg) rfl dX3_advance_96 ?_
      obtain ⟨r5, hc, hf⟩ := bd_out hf
      refine y_i (va_runS (As := [.int (gI S3 5 0 (gI S3 8 0 2).toNatClampNeg)]) (rest := []) hfix (m_X3_isLetter l G B E S3 (gI S3 5 0 (gI S3 8 0 2).toNatClampNeg) r5 hc) (va_cwS 1 hts gX3_advance_X3_isLetter rfl rfl rfl hd_X3_isLetter ⟨Nat.le_of_ble_eq_true rfl, Nat.le_of_ble_eq_true rfl⟩) (y_ps hF hW hS) rfl rfl hl.1 rfl (lv_room (Nat.le_of_ble_eq_true rfl)) dX3_advance_97 ⟨Nat.le_of_ble_eq_true rfl, Nat.le_of_ble_eq_true rfl⟩) hS (fun H locs hW hS => ?_)
      refine lv_if_eq (tgt := 114) hx hb dX3_advance_100 (by decide) (fun h => ?_) (fun h => ?_)
      · have hf := if_t h hf
        refine lv_aload_n hx hb dX3_advance_114 rfl (lv_at hl 0 rfl) ?_
        refine x_get hx hb hts hi3 hown hK hW (c8 E) (e8 _ _ _ _ _ _) rfl 0 (Nat.le_of_ble_eq_true rfl) q4 (fun _ h => h) (v := .ref (B 5 0)) rfl dX3_advance_115 ?_
        refine lv_aload_n hx hb dX3_advance_118 rfl (lv_at hl 0 rfl) ?_
        refine x_get hx hb hts hi3 hown hK hW (c8 E) (e8 _ _ _ _ _ _) rfl 2 (Nat.le_of_ble_eq_true rfl) q1 (fun _ h => h) (v := .int (gI S3 8 0 2)) rfl dX3_advance_119 ?_
        refine x_bald hx hb hK hW (c5 E) (e5 _ _ _ _ _ _) hi_4 (jn := (gI S3 8 0 2).toNatClampNeg) rfl dX3_advance_122 ?_
        obtain ⟨r6, hc, hf⟩ := bd_out hf
        refine y_i (va_runS (As := [.int (gI S3 5 0 (gI S3 8 0 2).toNatClampNeg)]) (rest := []) hfix (m_X3_isDigit l G B E S3 (gI S3 5 0 (gI S3 8 0 2).toNatClampNeg) r6 hc) (va_cwS 1 hts gX3_advance_X3_isDigit rfl rfl rfl hd_X3_isDigit ⟨Nat.le_of_ble_eq_true rfl, Nat.le_of_ble_eq_true rfl⟩) (y_ps hF hW hS) rfl rfl hl.1 rfl (lv_room (Nat.le_of_ble_eq_true rfl)) dX3_advance_123 ⟨Nat.le_of_ble_eq_true rfl, Nat.le_of_ble_eq_true rfl⟩) hS (fun H locs hW hS => ?_)
        refine lv_if_eq (tgt := 140) hx hb dX3_advance_126 (by decide) (fun h => ?_) (fun h => ?_)
        · have hf := if_t h hf
          refine lv_aload_n hx hb dX3_advance_140 rfl (lv_at hl 0 rfl) ?_
          refine lv_aload_n hx hb dX3_advance_141 rfl (lv_at hl 0 rfl) ?_
          refine x_get hx hb hts hi3 hown hK hW (c8 E) (e8 _ _ _ _ _ _) rfl 0 (Nat.le_of_ble_eq_true rfl) q4 (fun _ h => h) (v := .ref (B 5 0)) rfl dX3_advance_142 ?_
          refine lv_aload_n hx hb dX3_advance_145 rfl (lv_at hl 0 rfl) ?_
          refine x_get hx hb hts hi3 hown hK hW (c8 E) (e8 _ _ _ _ _ _) rfl 2 (Nat.le_of_ble_eq_true rfl) q1 (fun _ h => h) (v := .int (gI S3 8 0 2)) rfl dX3_advance_146 ?_
          refine x_bald hx hb hK hW (c5 E) (e5 _ _ _ _ _ _) hi_4 (jn := (gI S3 8 0 2).toNatClampNeg) rfl dX3_advance_149 ?_
          obtain ⟨r7, hc, hf⟩ := bd_out hf
          refine y_i (va_runS (As := [.int (gI S3 5 0 (gI S3 8 0 2).toNatClampNeg)]) (rest := [.ref (B 8 0)]) hfix (m_X3_isSign l G B E S3 (gI S3 5 0 (gI S3 8 0 2).toNatClampNeg) r7 hc) (va_cwS 1 hts gX3_advance_X3_isSign rfl rfl rfl hd_X3_isSign ⟨Nat.le_of_ble_eq_true rfl, Nat.le_of_ble_eq_true rfl⟩) (y_ps hF hW hS) rfl rfl hl.1 rfl (lv_room (Nat.le_of_ble_eq_true rfl)) dX3_advance_150 ⟨Nat.le_of_ble_eq_true rfl, Nat.le_of_ble_eq_true rfl⟩) hS (fun H locs hW hS => ?_)
          refine lv_if_eq (tgt := 168) hx hb dX3_advance_153 (by decide) (fun h => ?_) (fun h => ?_)
          · have hf := if_t h hf
            refine lv_iconst (v := -1) hx hb dX3_advance_168 rfl ?_
            exact w169 S3 (-1 : Int32)  hf _ _ _ hW hS (lv_sub hl [0] rfl)
          · have hf := if_f h hf
            refine lv_aload_n hx hb dX3_advance_156 rfl (lv_at hl 0 rfl) ?_
            refine x_get hx hb hts hi3 hown hK hW (c8 E) (e8 _ _ _ _ _ _) rfl 0 (Nat.le_of_ble_eq_true rfl) q4 (fun _ h => h) (v := .ref (B 5 0)) rfl dX3_advance_157 ?_
            refine lv_aload_n hx hb dX3_advance_160 rfl (lv_at hl 0 rfl) ?_
            refine x_get hx hb hts hi3 hown hK hW (c8 E) (e8 _ _ _ _ _ _) rfl 2 (Nat.le_of_ble_eq_true rfl) q1 (fun _ h => h) (v := .int (gI S3 8 0 2)) rfl dX3_advance_161 ?_
            refine x_bald hx hb hK hW (c5 E) (e5 _ _ _ _ _ _) hi_4 (jn := (gI S3 8 0 2).toNatClampNeg) rfl dX3_advance_164 ?_
            refine lv_goto (tgt := 169) hx hb dX3_advance_165 (by decide) ?_
            exact w169 S3 (gI S3 5 0 (gI S3 8 0 2).toNatClampNeg)  hf _ _ _ hW hS (lv_sub hl [0] rfl)
        · have hf := if_f h hf
          refine lv_aload_n hx hb dX3_advance_129 rfl (lv_at hl 0 rfl) ?_
          refine lv_aload_n hx hb dX3_advance_130 rfl (lv_at hl 0 rfl) ?_
          obtain ⟨r8, S9, hc, hf⟩ := bd2_out hf
          refine y_i (va_runV (As := []) (rest := [.ref (B 8 0)]) hfix (m_X3_number l G B E S3  r8 S9 hc) (cwV 0 hts gX3_advance_X3_number rfl rfl rfl ⟨rfl, hd_X3_number⟩ ⟨Nat.le_of_ble_eq_true rfl, Nat.le_of_ble_eq_true rfl⟩) (y_pv hF hW hS (c8 E) (e8 _ _ _ _ _ _) rfl) rfl rfl hl.1 rfl (lv_room (Nat.le_of_ble_eq_true rfl)) dX3_advance_131 ⟨Nat.le_of_ble_eq_true rfl, Nat.le_of_ble_eq_true rfl⟩) hS (fun H locs hW hS => ?_)
          obtain ⟨S10, e_S10, hf⟩ := lt_out hf
          refine x_putI hx hb hts hi3 tyX3 tyX3_ok nmX3 hown hK hW hS (c8 E) (e8 _ _ _) rfl 3 (Nat.le_of_ble_eq_true rfl) q0 (fun _ h => h) rfl (tyX3_ok 3 (Nat.le_of_ble_eq_true rfl)) rfl rfl (Nat.le_of_ble_eq_true rfl) (pu8_3 _ _) e_S10 dX3_advance_134 (fun H locs hW hS => ?_)
          refine lv_goto (tgt := 182) hx hb dX3_advance_137 (by decide) ?_
          exact z_v hf hx hb hr hF hW hS dX3_advance_182 hlocks
      · have hf := if_f h hf
        refine lv_aload_n hx hb dX3_advance_103 rfl (lv_at hl 0 rfl) ?_
        refine lv_aload_n hx hb dX3_advance_104 rfl (lv_at hl 0 rfl) ?_
        obtain ⟨r11, S12, hc, hf⟩ := bd2_out hf
        refine y_i (va_runV (As := []) (rest := [.ref (B 8 0)]) hfix (m_X3_word l G B E S3  r11 S12 hc) (cwV 0 hts gX3_advance_X3_word rfl rfl rfl ⟨rfl, hd_X3_word⟩ ⟨Nat.le_of_ble_eq_true rfl, Nat.le_of_ble_eq_true rfl⟩) (y_pv hF hW hS (c8 E) (e8 _ _ _ _ _ _) rfl) rfl rfl hl.1 rfl (lv_room (Nat.le_of_ble_eq_true rfl)) dX3_advance_105 ⟨Nat.le_of_ble_eq_true rfl, Nat.le_of_ble_eq_true rfl⟩) hS (fun H locs hW hS => ?_)
        obtain ⟨S13, e_S13, hf⟩ := lt_out hf
        refine x_putI hx hb hts hi3 tyX3 tyX3_ok nmX3 hown hK hW hS (c8 E) (e8 _ _ _) rfl 3 (Nat.le_of_ble_eq_true rfl) q0 (fun _ h => h) rfl (tyX3_ok 3 (Nat.le_of_ble_eq_true rfl)) rfl rfl (Nat.le_of_ble_eq_true rfl) (pu8_3 _ _) e_S13 dX3_advance_108 (fun H locs hW hS => ?_)
        refine lv_goto (tgt := 182) hx hb dX3_advance_111 (by decide) ?_
        exact z_v hf hx hb hr hF hW hS dX3_advance_182 hlocks
    · have hf := if_f h hf
      refine lv_aload_n hx hb dX3_advance_80 rfl (lv_at hl 0 rfl) ?_
      refine lv_iconst (v := 0) hx hb dX3_advance_81 rfl ?_
      obtain ⟨S14, e_S14, hf⟩ := lt_out hf
      refine x_putI hx hb hts hi3 tyX3 tyX3_ok nmX3 hown hK hW hS (c8 E) (e8 _ _ _) rfl 3 (Nat.le_of_ble_eq_true rfl) q0 (fun _ h => h) rfl (tyX3_ok 3 (Nat.le_of_ble_eq_true rfl)) rfl rfl (Nat.le_of_ble_eq_true rfl) (pu8_3 _ _) e_S14 dX3_advance_82 (fun H locs hW hS => ?_)
      refine lv_goto (tgt := 182) hx hb dX3_advance_85 (by decide) ?_
      exact z_v hf hx hb hr hF hW hS dX3_advance_182 hlocks
  have w9 : ∀ (n9 : Nat) (S : ST)  , f_X3_advance_b9 E n9 S  = some SS → ∀ (H : Heap) (locs : List Loc) (ls : Array Slot), WH G B E S H → va_S (AA G) s.heap H locs → lv_has ls 1 [(0, .ref (B 8 0))] → W p l e (headSpec wsX3_advance (rmN 7)).room s m [.ref (B 8 0)].toArray below meth c H locs 0 0 (MQ below (QV G B E SS) [.ref (B 8 0)].toArray s 0 0 (AA G)) (F0 m 9 ls []) := by
    intro n9
    induction n9 with
    | zero =>
      intro S  hf
      exact absurd (show (none : Option ST) = some SS from hf) (fun h => by cases h)
    | succ n9 ih9 =>
      have w48 : ∀ (S : ST)  , f_X3_advance_b48 E (f_X3_advance_b9 E n9) S  = some SS → ∀ (H : Heap) (locs : List Loc) (ls : Array Slot), WH G B E S H → va_S (AA G) s.heap H locs → lv_has ls 1 [(0, .ref (B 8 0))] → W p l e (headSpec wsX3_advance (rmN 7)).room s m [.ref (B 8 0)].toArray below meth c H locs 0 0 (MQ below (QV G B E SS) [.ref (B 8 0)].toArray s 0 0 (AA G)) (F0 m 48 ls []) := by
        intro S  hf H locs ls hW hS hl
        unfold f_X3_advance_b48 at hf
        refine lv_aload_n hx hb dX3_advance_48 rfl (lv_at hl 0 rfl) ?_
        refine lv_dup hx hb dX3_advance_49 rfl ?_
        refine x_get hx hb hts hi3 hown hK hW (c8 E) (e8 _ _ _ _ _ _) rfl 2 (Nat.le_of_ble_eq_true rfl) q1 (fun _ h => h) (v := .int (gI S 8 0 2)) rfl dX3_advance_50 ?_
        refine lv_iconst (v := 1) hx hb dX3_advance_53 rfl ?_
        refine lv_iadd hx hb dX3_advance_54 ?_
        obtain ⟨S15, e_S15, hf⟩ := lt_out hf
        refine x_putI hx hb hts hi3 tyX3 tyX3_ok nmX3 hown hK hW hS (c8 E) (e8 _ _ _) rfl 2 (Nat.le_of_ble_eq_true rfl) q1 (fun _ h => h) rfl (tyX3_ok 2 (Nat.le_of_ble_eq_true rfl)) rfl rfl (Nat.le_of_ble_eq_true rfl) (pu8_2 _ _) e_S15 dX3_advance_55 (fun H locs hW hS => ?_)
        refine lv_goto (tgt := 9) hx hb dX3_advance_58 (by decide) ?_
        exact ih9 S15  hf _ _ _ hW hS (lv_sub hl [0] rfl)
      intro S  hf H locs ls hW hS hl
      have hf : g_X3_advance_b9 E (f_X3_advance_b9 E n9) S  = some SS := hf
      unfold g_X3_advance_b9 at hf
      refine lv_aload_n hx hb dX3_advance_9 rfl (lv_at hl 0 rfl) ?_
      refine x_get hx hb hts hi3 hown hK hW (c8 E) (e8 _ _ _ _ _ _) rfl 2 (Nat.le_of_ble_eq_true rfl) q1 (fun _ h => h) (v := .int (gI S 8 0 2)) rfl dX3_advance_10 ?_
      refine lv_aload_n hx hb dX3_advance_13 rfl (lv_at hl 0 rfl) ?_
      refine x_get hx hb hts hi3 hown hK hW (c8 E) (e8 _ _ _ _ _ _) rfl 1 (Nat.le_of_ble_eq_true rfl) q3 (fun _ h => h) (v := .int (gI S 8 0 1)) rfl dX3_advance_14 ?_
      refine lv_icmp_ge (tgt := 61) hx hb dX3_advance_17 (by decide) (fun h => ?_) (fun h => ?_)
      · have hf := if_t h hf
        exact w61 S  hf _ _ _ hW hS (lv_sub hl [0] rfl)
      · have hf := if_f h hf
        refine lv_aload_n hx hb dX3_advance_20 rfl (lv_at hl 0 rfl) ?_
        refine x_get hx hb hts hi3 hown hK hW (c8 E) (e8 _ _ _ _ _ _) rfl 0 (Nat.le_of_ble_eq_true rfl) q4 (fun _ h => h) (v := .ref (B 5 0)) rfl dX3_advance_21 ?_
        refine lv_aload_n hx hb dX3_advance_24 rfl (lv_at hl 0 rfl) ?_
        refine x_get hx hb hts hi3 hown hK hW (c8 E) (e8 _ _ _ _ _ _) rfl 2 (Nat.le_of_ble_eq_true rfl) q1 (fun _ h => h) (v := .int (gI S 8 0 2)) rfl dX3_advance_25 ?_
        obtain ⟨hi_16, hf⟩ := ck_out hf
        have hi_16 := ib_in hi_16
        refine x_bald hx hb hK hW (c5 E) (e5 _ _ _ _ _ _) hi_16 (jn := (gI S 8 0 2).toNatClampNeg) rfl dX3_advance_28 ?_
        refine lv_bipush (v := 32) hx hb dX3_advance_29 (by decide) ?_
        refine lv_icmp_eq (tgt := 48) hx hb dX3_advance_31 (by decide) (fun h => ?_) (fun h => ?_)
        · have hf := if_t h hf
          exact w48 S  hf _ _ _ hW hS (lv_sub hl [0] rfl)
        · have hf := if_f h hf
          refine lv_aload_n hx hb dX3_advance_34 rfl (lv_at hl 0 rfl) ?_
          refine x_get hx hb hts hi3 hown hK hW (c8 E) (e8 _ _ _ _ _ _) rfl 0 (Nat.le_of_ble_eq_true rfl) q4 (fun _ h => h) (v := .ref (B 5 0)) rfl dX3_advance_35 ?_
          refine lv_aload_n hx hb dX3_advance_38 rfl (lv_at hl 0 rfl) ?_
          refine x_get hx hb hts hi3 hown hK hW (c8 E) (e8 _ _ _ _ _ _) rfl 2 (Nat.le_of_ble_eq_true rfl) q1 (fun _ h => h) (v := .int (gI S 8 0 2)) rfl dX3_advance_39 ?_
          refine x_bald hx hb hK hW (c5 E) (e5 _ _ _ _ _ _) hi_16 (jn := (gI S 8 0 2).toNatClampNeg) rfl dX3_advance_42 ?_
          refine lv_bipush (v := 10) hx hb dX3_advance_43 (by decide) ?_
          refine lv_icmp_ne (tgt := 61) hx hb dX3_advance_45 (by decide) (fun h => ?_) (fun h => ?_)
          · have hf := if_f h hf
            exact w61 S  hf _ _ _ hW hS (lv_sub hl [0] rfl)
          · have hf := if_t h hf
            exact w48 S  hf _ _ _ hW hS (lv_sub hl [0] rfl)
  unfold f_X3_advance at hf
  refine lv_aload_n hx hb dX3_advance_0 rfl (lv_at hl 0 rfl) ?_
  refine x_get hx hb hts hi3 hown hK hW (c8 E) (e8 _ _ _ _ _ _) rfl 5 (Nat.le_of_ble_eq_true rfl) q5 (fun _ h => h) (v := .int (gI S 8 0 5)) rfl dX3_advance_1 ?_
  refine lv_iconst (v := -1) hx hb dX3_advance_4 rfl ?_
  refine lv_icmp_eq (tgt := 9) hx hb dX3_advance_5 (by decide) (fun h => ?_) (fun h => ?_)
  · have hf := if_t h hf
    exact w9 E.1 S  hf _ _ _ hW hS (lv_sub hl [0] rfl)
  · have hf := if_f h hf
    exact z_v hf hx hb hr hF hW hS dX3_advance_8 hlocks
set_option maxHeartbeats 4000000 in
set_option maxRecDepth 100000 in
theorem m_X3_emit (l : Launch) (G : GE) (B : Nat → Nat → Nat) (E : EN)  (S : ST) (a1 : Int32) (SS : ST) (hf : f_X3_emit E S a1 = some SS) : Met l yX3_emit wsX3_emit (rmN 1) (va_Pc [.ref (B 8 0), .int a1] (WS G B E S)) (QV G B E SS) 0 0 (AA G) := by
  refine Met.ofW (cc := cX3_emit) (maxL := 2) (ret := none) (by decide) rfl ?_
  intro p e s m args below meth c s₁ B0 hml hv
  obtain ⟨rfl, hW, hF⟩ := hv
  have hx := B0.exec
  have hb := B0.bytes
  have hr := B0.returns
  have hts := atoms_spec (ws := wsX3_emit) B0.pre
  have hown : s.vm.findClass RX3 = some m.cls := findClass_of_methodNamed B0.named
  have hlocks := B0.notSynchronized
  have hK := hF.1
  have hfix : CallFix p m c cX3_emit 2 s [.ref (B 8 0), .int a1].toArray wsX3_emit RX3 := ⟨hx, hb, hml, hown, hts⟩
  have hS : va_S (AA G) s.heap s.heap [] := va_S.rf
  have hl := lv_entry [.ref (B 8 0), .int a1] (n := 2) (Nat.le_of_ble_eq_true rfl)
  rw [lg_entry_eq]
  generalize (lg_sl [.ref (B 8 0), .int a1] ++ List.replicate (2 - (lg_sl [.ref (B 8 0), .int a1]).length) Slot.unset).toArray = ls at hl ⊢
  have hl : lv_has ls 2 [(0, .ref (B 8 0)), (1, .int a1)] := hl
  have q0 := hts (.fieldLink RX3 34 "MovesUp$Reader" "length" "I") (List.mem_of_getElem? (i := 1) rfl)
  have q1 := hts (.fieldLink RX3 30 "MovesUp$Reader" "code" "[I") (List.mem_of_getElem? (i := 2) rfl)
  have hi3 : ∀ w ∈ u_ws RX3 TX3 10, w ∈ wsX3_emit := in_seg 3 rfl
  unfold f_X3_emit at hf
  refine lv_aload_n hx hb dX3_emit_0 rfl (lv_at hl 0 rfl) ?_
  refine x_get hx hb hts hi3 hown hK hW (c8 E) (e8 _ _ _ _ _ _) rfl 8 (Nat.le_of_ble_eq_true rfl) q0 (fun _ h => h) (v := .int (gI S 8 0 8)) rfl dX3_emit_1 ?_
  refine lv_sipush (v := 160) hx hb dX3_emit_4 (by decide) ?_
  refine lv_icmp_ge (tgt := 30) hx hb dX3_emit_7 (by decide) (fun h => ?_) (fun h => ?_)
  · have hf := if_t h hf
    exact z_v hf hx hb hr hF hW hS dX3_emit_30 hlocks
  · have hf := if_f h hf
    refine lv_aload_n hx hb dX3_emit_10 rfl (lv_at hl 0 rfl) ?_
    refine x_get hx hb hts hi3 hown hK hW (c8 E) (e8 _ _ _ _ _ _) rfl 7 (Nat.le_of_ble_eq_true rfl) q1 (fun _ h => h) (v := .ref (B 9 0)) rfl dX3_emit_11 ?_
    refine lv_aload_n hx hb dX3_emit_14 rfl (lv_at hl 0 rfl) ?_
    refine x_get hx hb hts hi3 hown hK hW (c8 E) (e8 _ _ _ _ _ _) rfl 8 (Nat.le_of_ble_eq_true rfl) q0 (fun _ h => h) (v := .int (gI S 8 0 8)) rfl dX3_emit_15 ?_
    refine lv_iload_n hx hb dX3_emit_18 rfl (lv_at hl 1 rfl) ?_
    obtain ⟨hi_1, hf⟩ := ck_out hf
    have hi_1 := ib_in hi_1
    obtain ⟨S2, e_S2, hf⟩ := lt_out hf
    refine x_iast hx hb hK hW hS (c9 E) (fun f r => e9 _ _ _ f _ r) hi_1 (jn := (gI S 8 0 8).toNatClampNeg) rfl e_S2 dX3_emit_19 (fun H locs hW hS => ?_)
    refine lv_aload_n hx hb dX3_emit_20 rfl (lv_at hl 0 rfl) ?_
    refine lv_dup hx hb dX3_emit_21 rfl ?_
    refine x_get hx hb hts hi3 hown hK hW (c8 E) (e8 _ _ _ _ _ _) rfl 8 (Nat.le_of_ble_eq_true rfl) q0 (fun _ h => h) (v := .int (gI S2 8 0 8)) rfl dX3_emit_22 ?_
    refine lv_iconst (v := 1) hx hb dX3_emit_25 rfl ?_
    refine lv_iadd hx hb dX3_emit_26 ?_
    obtain ⟨S3, e_S3, hf⟩ := lt_out hf
    refine x_putI hx hb hts hi3 tyX3 tyX3_ok nmX3 hown hK hW hS (c8 E) (e8 _ _ _) rfl 8 (Nat.le_of_ble_eq_true rfl) q0 (fun _ h => h) rfl (tyX3_ok 8 (Nat.le_of_ble_eq_true rfl)) rfl rfl (Nat.le_of_ble_eq_true rfl) (pu8_8 _ _) e_S3 dX3_emit_27 (fun H locs hW hS => ?_)
    exact z_v hf hx hb hr hF hW hS dX3_emit_30 hlocks
set_option maxHeartbeats 4000000 in
set_option maxRecDepth 100000 in
theorem m_X3_refuse (l : Launch) (G : GE) (B : Nat → Nat → Nat) (E : EN)  (S : ST)  (SS : ST) (hf : f_X3_refuse E S = some SS) : Met l yX3_refuse wsX3_refuse (rmN 1) (va_Pc [.ref (B 8 0)] (WS G B E S)) (QV G B E SS) 0 0 (AA G) := by
  refine Met.ofW (cc := cX3_refuse) (maxL := 1) (ret := none) (by decide) rfl ?_
  intro p e s m args below meth c s₁ B0 hml hv
  obtain ⟨rfl, hW, hF⟩ := hv
  have hx := B0.exec
  have hb := B0.bytes
  have hr := B0.returns
  have hts := atoms_spec (ws := wsX3_refuse) B0.pre
  have hown : s.vm.findClass RX3 = some m.cls := findClass_of_methodNamed B0.named
  have hlocks := B0.notSynchronized
  have hK := hF.1
  have hfix : CallFix p m c cX3_refuse 1 s [.ref (B 8 0)].toArray wsX3_refuse RX3 := ⟨hx, hb, hml, hown, hts⟩
  have hS : va_S (AA G) s.heap s.heap [] := va_S.rf
  have hl := lv_entry [.ref (B 8 0)] (n := 1) (Nat.le_of_ble_eq_true rfl)
  rw [lg_entry_eq]
  generalize (lg_sl [.ref (B 8 0)] ++ List.replicate (1 - (lg_sl [.ref (B 8 0)]).length) Slot.unset).toArray = ls at hl ⊢
  have hl : lv_has ls 1 [(0, .ref (B 8 0))] := hl
  have q0 := hts (.fieldLink RX3 18 "MovesUp$Reader" "token" "I") (List.mem_of_getElem? (i := 3) rfl)
  have q1 := hts (.fieldLink RX3 24 "MovesUp$Reader" "fault" "I") (List.mem_of_getElem? (i := 1) rfl)
  have q2 := hts (.fieldLink RX3 21 "MovesUp$Reader" "place" "I") (List.mem_of_getElem? (i := 2) rfl)
  have hi3 : ∀ w ∈ u_ws RX3 TX3 10, w ∈ wsX3_refuse := in_seg 4 rfl
  have w16 : ∀ (S : ST)  , f_X3_refuse_b16 E S  = some SS → ∀ (H : Heap) (locs : List Loc) (ls : Array Slot), WH G B E S H → va_S (AA G) s.heap H locs → lv_has ls 1 [(0, .ref (B 8 0))] → W p l e (headSpec wsX3_refuse (rmN 1)).room s m [.ref (B 8 0)].toArray below meth c H locs 0 0 (MQ below (QV G B E SS) [.ref (B 8 0)].toArray s 0 0 (AA G)) (F0 m 16 ls []) := by
    intro S  hf H locs ls hW hS hl
    unfold f_X3_refuse_b16 at hf
    refine lv_aload_n hx hb dX3_refuse_16 rfl (lv_at hl 0 rfl) ?_
    refine lv_iconst (v := -1) hx hb dX3_refuse_17 rfl ?_
    obtain ⟨S1, e_S1, hf⟩ := lt_out hf
    refine x_putI hx hb hts hi3 tyX3 tyX3_ok nmX3 hown hK hW hS (c8 E) (e8 _ _ _) rfl 3 (Nat.le_of_ble_eq_true rfl) q0 (fun _ h => h) rfl (tyX3_ok 3 (Nat.le_of_ble_eq_true rfl)) rfl rfl (Nat.le_of_ble_eq_true rfl) (pu8_3 _ _) e_S1 dX3_refuse_18 (fun H locs hW hS => ?_)
    exact z_v hf hx hb hr hF hW hS dX3_refuse_21 hlocks
  unfold f_X3_refuse at hf
  refine lv_aload_n hx hb dX3_refuse_0 rfl (lv_at hl 0 rfl) ?_
  refine x_get hx hb hts hi3 hown hK hW (c8 E) (e8 _ _ _ _ _ _) rfl 5 (Nat.le_of_ble_eq_true rfl) q1 (fun _ h => h) (v := .int (gI S 8 0 5)) rfl dX3_refuse_1 ?_
  refine lv_iconst (v := -1) hx hb dX3_refuse_4 rfl ?_
  refine lv_icmp_ne (tgt := 16) hx hb dX3_refuse_5 (by decide) (fun h => ?_) (fun h => ?_)
  · have hf := if_f h hf
    exact w16 S  hf _ _ _ hW hS (lv_sub hl [0] rfl)
  · have hf := if_t h hf
    refine lv_aload_n hx hb dX3_refuse_8 rfl (lv_at hl 0 rfl) ?_
    refine lv_aload_n hx hb dX3_refuse_9 rfl (lv_at hl 0 rfl) ?_
    refine x_get hx hb hts hi3 hown hK hW (c8 E) (e8 _ _ _ _ _ _) rfl 4 (Nat.le_of_ble_eq_true rfl) q2 (fun _ h => h) (v := .int (gI S 8 0 4)) rfl dX3_refuse_10 ?_
    obtain ⟨S2, e_S2, hf⟩ := lt_out hf
    refine x_putI hx hb hts hi3 tyX3 tyX3_ok nmX3 hown hK hW hS (c8 E) (e8 _ _ _) rfl 5 (Nat.le_of_ble_eq_true rfl) q1 (fun _ h => h) rfl (tyX3_ok 5 (Nat.le_of_ble_eq_true rfl)) rfl rfl (Nat.le_of_ble_eq_true rfl) (pu8_5 _ _) e_S2 dX3_refuse_13 (fun H locs hW hS => ?_)
    exact w16 S2  hf _ _ _ hW hS (lv_sub hl [0] rfl)
set_option maxHeartbeats 4000000 in
set_option maxRecDepth 100000 in
theorem m_X3_opens (l : Launch) (G : GE) (B : Nat → Nat → Nat) (E : EN)  (S : ST)  (rr : Int32) (SS : ST) (hf : f_X3_opens E S = some (rr, SS)) : Met l yX3_opens wsX3_opens (rmN 8) (va_Pc [.ref (B 8 0)] (WS G B E S)) (QI G B E SS rr) 0 0 (AA G) := by
  refine Met.ofW (cc := cX3_opens) (maxL := 1) (ret := (some .boolean)) (by decide) rfl ?_
  intro p e s m args below meth c s₁ B0 hml hv
  obtain ⟨rfl, hW, hF⟩ := hv
  have hx := B0.exec
  have hb := B0.bytes
  have hr := B0.returns
  have hts := atoms_spec (ws := wsX3_opens) B0.pre
  have hown : s.vm.findClass RX3 = some m.cls := findClass_of_methodNamed B0.named
  have hlocks := B0.notSynchronized
  have hK := hF.1
  have hfix : CallFix p m c cX3_opens 1 s [.ref (B 8 0)].toArray wsX3_opens RX3 := ⟨hx, hb, hml, hown, hts⟩
  have hS : va_S (AA G) s.heap s.heap [] := va_S.rf
  have hl := lv_entry [.ref (B 8 0)] (n := 1) (Nat.le_of_ble_eq_true rfl)
  rw [lg_entry_eq]
  generalize (lg_sl [.ref (B 8 0)] ++ List.replicate (1 - (lg_sl [.ref (B 8 0)]).length) Slot.unset).toArray = ls at hl ⊢
  have hl : lv_has ls 1 [(0, .ref (B 8 0))] := hl
  have q0 := hts (.fieldLink RX3 27 "MovesUp$Reader" "open" "I") (List.mem_of_getElem? (i := 1) rfl)
  have hi3 : ∀ w ∈ u_ws RX3 TX3 10, w ∈ wsX3_opens := in_seg 87 rfl
  unfold f_X3_opens at hf
  refine lv_aload_n hx hb dX3_opens_0 rfl (lv_at hl 0 rfl) ?_
  refine x_get hx hb hts hi3 hown hK hW (c8 E) (e8 _ _ _ _ _ _) rfl 6 (Nat.le_of_ble_eq_true rfl) q0 (fun _ h => h) (v := .int (gI S 8 0 6)) rfl dX3_opens_1 ?_
  refine lv_iconst (v := 5) hx hb dX3_opens_4 rfl ?_
  refine lv_icmp_lt (tgt := 14) hx hb dX3_opens_5 (by decide) (fun h => ?_) (fun h => ?_)
  · have hf := if_t h hf
    refine lv_aload_n hx hb dX3_opens_14 rfl (lv_at hl 0 rfl) ?_
    refine lv_dup hx hb dX3_opens_15 rfl ?_
    refine x_get hx hb hts hi3 hown hK hW (c8 E) (e8 _ _ _ _ _ _) rfl 6 (Nat.le_of_ble_eq_true rfl) q0 (fun _ h => h) (v := .int (gI S 8 0 6)) rfl dX3_opens_16 ?_
    refine lv_iconst (v := 1) hx hb dX3_opens_19 rfl ?_
    refine lv_iadd hx hb dX3_opens_20 ?_
    obtain ⟨S1, e_S1, hf⟩ := lt_out hf
    refine x_putI hx hb hts hi3 tyX3 tyX3_ok nmX3 hown hK hW hS (c8 E) (e8 _ _ _) rfl 6 (Nat.le_of_ble_eq_true rfl) q0 (fun _ h => h) rfl (tyX3_ok 6 (Nat.le_of_ble_eq_true rfl)) rfl rfl (Nat.le_of_ble_eq_true rfl) (pu8_6 _ _) e_S1 dX3_opens_21 (fun H locs hW hS => ?_)
    refine lv_aload_n hx hb dX3_opens_24 rfl (lv_at hl 0 rfl) ?_
    obtain ⟨S2, hc, hf⟩ := bd_out hf
    refine y_v (va_runV (As := []) (rest := []) hfix (m_X3_advance l G B E S1  S2 hc) (cwV 0 hts gX3_opens_X3_advance rfl rfl rfl ⟨rfl, hd_X3_advance⟩ ⟨Nat.le_of_ble_eq_true rfl, Nat.le_of_ble_eq_true rfl⟩) (y_pv hF hW hS (c8 E) (e8 _ _ _ _ _ _) rfl) rfl rfl hl.1 rfl (lv_room (Nat.le_of_ble_eq_true rfl)) dX3_opens_25 ⟨Nat.le_of_ble_eq_true rfl, Nat.le_of_ble_eq_true rfl⟩) hS (fun H locs hW hS => ?_)
    refine lv_iconst (v := 1) hx hb dX3_opens_28 rfl ?_
    exact z_i hf hx hb hr rfl hF hW hS dX3_opens_29 hlocks
  · have hf := if_f h hf
    refine lv_aload_n hx hb dX3_opens_8 rfl (lv_at hl 0 rfl) ?_
    obtain ⟨S3, hc, hf⟩ := bd_out hf
    refine y_v (va_runV (As := []) (rest := []) hfix (m_X3_refuse l G B E S  S3 hc) (cwV 0 hts gX3_opens_X3_refuse rfl rfl rfl ⟨rfl, hd_X3_refuse⟩ ⟨Nat.le_of_ble_eq_true rfl, Nat.le_of_ble_eq_true rfl⟩) (y_pv hF hW hS (c8 E) (e8 _ _ _ _ _ _) rfl) rfl rfl hl.1 rfl (lv_room (Nat.le_of_ble_eq_true rfl)) dX3_opens_9 ⟨Nat.le_of_ble_eq_true rfl, Nat.le_of_ble_eq_true rfl⟩) hS (fun H locs hW hS => ?_)
    refine lv_iconst (v := 0) hx hb dX3_opens_12 rfl ?_
    exact z_i hf hx hb hr rfl hF hW hS dX3_opens_13 hlocks
set_option maxHeartbeats 4000000 in
set_option maxRecDepth 100000 in
theorem m_X3_take (l : Launch) (G : GE) (B : Nat → Nat → Nat) (E : EN)  (S : ST) (a1 : Int32) (SS : ST) (hf : f_X3_take E S a1 = some SS) : Met l yX3_take wsX3_take (rmN 8) (va_Pc [.ref (B 8 0), .int a1] (WS G B E S)) (QV G B E SS) 0 0 (AA G) := by
  refine Met.ofW (cc := cX3_take) (maxL := 2) (ret := none) (by decide) rfl ?_
  intro p e s m args below meth c s₁ B0 hml hv
  obtain ⟨rfl, hW, hF⟩ := hv
  have hx := B0.exec
  have hb := B0.bytes
  have hr := B0.returns
  have hts := atoms_spec (ws := wsX3_take) B0.pre
  have hown : s.vm.findClass RX3 = some m.cls := findClass_of_methodNamed B0.named
  have hlocks := B0.notSynchronized
  have hK := hF.1
  have hfix : CallFix p m c cX3_take 2 s [.ref (B 8 0), .int a1].toArray wsX3_take RX3 := ⟨hx, hb, hml, hown, hts⟩
  have hS : va_S (AA G) s.heap s.heap [] := va_S.rf
  have hl := lv_entry [.ref (B 8 0), .int a1] (n := 2) (Nat.le_of_ble_eq_true rfl)
  rw [lg_entry_eq]
  generalize (lg_sl [.ref (B 8 0), .int a1] ++ List.replicate (2 - (lg_sl [.ref (B 8 0), .int a1]).length) Slot.unset).toArray = ls at hl ⊢
  have hl : lv_has ls 2 [(0, .ref (B 8 0)), (1, .int a1)] := hl
  have q0 := hts (.fieldLink RX3 18 "MovesUp$Reader" "token" "I") (List.mem_of_getElem? (i := 1) rfl)
  have hi3 : ∀ w ∈ u_ws RX3 TX3 10, w ∈ wsX3_take := in_seg 86 rfl
  unfold f_X3_take at hf
  refine lv_aload_n hx hb dX3_take_0 rfl (lv_at hl 0 rfl) ?_
  refine x_get hx hb hts hi3 hown hK hW (c8 E) (e8 _ _ _ _ _ _) rfl 3 (Nat.le_of_ble_eq_true rfl) q0 (fun _ h => h) (v := .int (gI S 8 0 3)) rfl dX3_take_1 ?_
  refine lv_iload_n hx hb dX3_take_4 rfl (lv_at hl 1 rfl) ?_
  refine lv_icmp_ne (tgt := 15) hx hb dX3_take_5 (by decide) (fun h => ?_) (fun h => ?_)
  · have hf := if_f h hf
    refine lv_aload_n hx hb dX3_take_15 rfl (lv_at hl 0 rfl) ?_
    obtain ⟨S1, hc, hf⟩ := bd_out hf
    refine y_v (va_runV (As := []) (rest := []) hfix (m_X3_refuse l G B E S  S1 hc) (cwV 0 hts gX3_take_X3_refuse rfl rfl rfl ⟨rfl, hd_X3_refuse⟩ ⟨Nat.le_of_ble_eq_true rfl, Nat.le_of_ble_eq_true rfl⟩) (y_pv hF hW hS (c8 E) (e8 _ _ _ _ _ _) rfl) rfl rfl hl.1 rfl (lv_room (Nat.le_of_ble_eq_true rfl)) dX3_take_16 ⟨Nat.le_of_ble_eq_true rfl, Nat.le_of_ble_eq_true rfl⟩) hS (fun H locs hW hS => ?_)
    exact z_v hf hx hb hr hF hW hS dX3_take_19 hlocks
  · have hf := if_t h hf
    refine lv_aload_n hx hb dX3_take_8 rfl (lv_at hl 0 rfl) ?_
    obtain ⟨S2, hc, hf⟩ := bd_out hf
    refine y_v (va_runV (As := []) (rest := []) hfix (m_X3_advance l G B E S  S2 hc) (cwV 0 hts gX3_take_X3_advance rfl rfl rfl ⟨rfl, hd_X3_advance⟩ ⟨Nat.le_of_ble_eq_true rfl, Nat.le_of_ble_eq_true rfl⟩) (y_pv hF hW hS (c8 E) (e8 _ _ _ _ _ _) rfl) rfl rfl hl.1 rfl (lv_room (Nat.le_of_ble_eq_true rfl)) dX3_take_9 ⟨Nat.le_of_ble_eq_true rfl, Nat.le_of_ble_eq_true rfl⟩) hS (fun H locs hW hS => ?_)
    refine lv_goto (tgt := 19) hx hb dX3_take_12 (by decide) ?_
    exact z_v hf hx hb hr hF hW hS dX3_take_19 hlocks
set_option maxHeartbeats 4000000 in
set_option maxRecDepth 100000 in
theorem n_X3_readOr (l : Launch) (G : GE) (B : Nat → Nat → Nat) (E : EN) (d : Nat) (hrec : (∀ (S : ST)  (S2 : ST), f_gread E d 0 S  = some S2 → Met l yX3_readOr wsX3_readOr (rmN (9 + d)) (va_Pc [.ref (B 8 0)] (WS G B E S)) (QV G B E S2) 0 0 (AA G)) ∧ (∀ (S : ST)  (S2 : ST), f_gread E d 1 S  = some S2 → Met l yX3_readAnd wsX3_readAnd (rmN (9 + d)) (va_Pc [.ref (B 8 0)] (WS G B E S)) (QV G B E S2) 0 0 (AA G)) ∧ (∀ (S : ST)  (S2 : ST), f_gread E d 2 S  = some S2 → Met l yX3_readNot wsX3_readNot (rmN (9 + d)) (va_Pc [.ref (B 8 0)] (WS G B E S)) (QV G B E S2) 0 0 (AA G)) ∧ (∀ (S : ST)  (S2 : ST), f_gread E d 3 S  = some S2 → Met l yX3_readSum wsX3_readSum (rmN (9 + d)) (va_Pc [.ref (B 8 0)] (WS G B E S)) (QV G B E S2) 0 0 (AA G)) ∧ (∀ (S : ST)  (S2 : ST), f_gread E d 4 S  = some S2 → Met l yX3_readTerm wsX3_readTerm (rmN (9 + d)) (va_Pc [.ref (B 8 0)] (WS G B E S)) (QV G B E S2) 0 0 (AA G)) ∧ (∀ (S : ST)  (S2 : ST), f_gread E d 5 S  = some S2 → Met l yX3_readOne wsX3_readOne (rmN (9 + d)) (va_Pc [.ref (B 8 0)] (WS G B E S)) (QV G B E S2) 0 0 (AA G)))  (S : ST)  (SS : ST) (hf : b_X3_readOr E (f_gread E d 0) (f_gread E d 1) (f_gread E d 2) (f_gread E d 3) (f_gread E d 4) (f_gread E d 5) S = some SS) : Met l yX3_readOr wsX3_readOr (rmN (9 + (d + 1))) (va_Pc [.ref (B 8 0)] (WS G B E S)) (QV G B E SS) 0 0 (AA G) := by
  refine Met.ofW (cc := cX3_readOr) (maxL := 2) (ret := none) (by decide) rfl ?_
  intro p e s m args below meth c s₁ B0 hml hv
  obtain ⟨rfl, hW, hF⟩ := hv
  have hx := B0.exec
  have hb := B0.bytes
  have hr := B0.returns
  have hts := atoms_spec (ws := wsX3_readOr) B0.pre
  have hown : s.vm.findClass RX3 = some m.cls := findClass_of_methodNamed B0.named
  have hlocks := B0.notSynchronized
  have hK := hF.1
  have hfix : CallFix p m c cX3_readOr 2 s [.ref (B 8 0)].toArray wsX3_readOr RX3 := ⟨hx, hb, hml, hown, hts⟩
  have hS : va_S (AA G) s.heap s.heap [] := va_S.rf
  have hl := lv_entry [.ref (B 8 0)] (n := 2) (Nat.le_of_ble_eq_true rfl)
  rw [lg_entry_eq]
  generalize (lg_sl [.ref (B 8 0)] ++ List.replicate (2 - (lg_sl [.ref (B 8 0)]).length) Slot.unset).toArray = ls at hl ⊢
  have hl : lv_has ls 2 [(0, .ref (B 8 0))] := hl
  have q0 := hts (.fieldLink RX3 18 "MovesUp$Reader" "token" "I") (List.mem_of_getElem? (i := 1) rfl)
  have hi3 : ∀ w ∈ u_ws RX3 TX3 10, w ∈ wsX3_readOr := in_seg 124 rfl
  have w6 : ∀ (n6 : Nat) (S : ST) (v1 : Int32) , f_X3_readOr_b6 E (f_gread E d 0) (f_gread E d 1) (f_gread E d 2) (f_gread E d 3) (f_gread E d 4) (f_gread E d 5) n6 S v1 = some SS → ∀ (H : Heap) (locs : List Loc) (ls : Array Slot), WH G B E S H → va_S (AA G) s.heap H locs → lv_has ls 2 [(0, .ref (B 8 0)), (1, .int v1)] → W p l e (headSpec wsX3_readOr (rmN (9 + (d + 1)))).room s m [.ref (B 8 0)].toArray below meth c H locs 0 0 (MQ below (QV G B E SS) [.ref (B 8 0)].toArray s 0 0 (AA G)) (F0 m 6 ls []) := by
    intro n6
    induction n6 with
    | zero =>
      intro S v1 hf
      exact absurd (show (none : Option ST) = some SS from hf) (fun h => by cases h)
    | succ n6 ih6 =>
      intro S v1 hf H locs ls hW hS hl
      have hf : g_X3_readOr_b6 E (f_gread E d 0) (f_gread E d 1) (f_gread E d 2) (f_gread E d 3) (f_gread E d 4) (f_gread E d 5) (f_X3_readOr_b6 E (f_gread E d 0) (f_gread E d 1) (f_gread E d 2) (f_gread E d 3) (f_gread E d 4) (f_gread E d 5) n6) S v1 = some SS := hf
      unfold g_X3_readOr_b6 at hf
      refine lv_iload_n hx hb dX3_readOr_6 rfl (lv_at hl 1 rfl) ?_
      refine lv_sipush (v := 160) hx hb dX3_readOr_7 (by decide) ?_
      refine lv_icmp_ge (tgt := 44) hx hb dX3_readOr_10 (by decide) (fun h => ?_) (fun h => ?_)
      · have hf := if_t h hf
        exact z_v hf hx hb hr hF hW hS dX3_readOr_44 hlocks
      · have hf := if_f h hf
        refine lv_aload_n hx hb dX3_readOr_13 rfl (lv_at hl 0 rfl) ?_
        refine x_get hx hb hts hi3 hown hK hW (c8 E) (e8 _ _ _ _ _ _) rfl 3 (Nat.le_of_ble_eq_true rfl) q0 (fun _ h => h) (v := .int (gI S 8 0 3)) rfl dX3_readOr_14 ?_
        refine lv_sipush (v := 259) hx hb dX3_readOr_17 (by decide) ?_
        refine lv_icmp_ne (tgt := 44) hx hb dX3_readOr_20 (by decide) (fun h => ?_) (fun h => ?_)
        · have hf := if_f h hf
          exact z_v hf hx hb hr hF hW hS dX3_readOr_44 hlocks
        · have hf := if_t h hf
          refine lv_aload_n hx hb dX3_readOr_23 rfl (lv_at hl 0 rfl) ?_
          obtain ⟨S1, hc, hf⟩ := bd_out hf
          refine y_v (va_runV (As := []) (rest := []) hfix (m_X3_advance l G B E S  S1 hc) (cwV 0 hts gX3_readOr_X3_advance rfl rfl rfl ⟨rfl, hd_X3_advance⟩ ⟨(by show 7 + 1 ≤ 9 + (d + 1); omega), (by show 8 + (1 + 11) + 60 * (7) ≤ 60 * (9 + (d + 1)); omega)⟩) (y_pv hF hW hS (c8 E) (e8 _ _ _ _ _ _) rfl) rfl rfl hl.1 rfl (lv_room (Nat.le_of_ble_eq_true rfl)) dX3_readOr_24 ⟨Nat.le_of_ble_eq_true rfl, Nat.le_of_ble_eq_true rfl⟩) hS (fun H locs hW hS => ?_)
          refine lv_aload_n hx hb dX3_readOr_27 rfl (lv_at hl 0 rfl) ?_
          obtain ⟨S2, hc, hf⟩ := bd_out hf
          refine y_v (va_runV (As := []) (rest := []) hfix (hrec.2.1 S1  S2 hc) (cwV 0 hts gX3_readOr_X3_readAnd rfl rfl rfl ⟨rfl, hd_X3_readAnd⟩ ⟨(by show 9 + d + 1 ≤ 9 + (d + 1); omega), (by show 8 + (2 + 11) + 60 * (9 + d) ≤ 60 * (9 + (d + 1)); omega)⟩) (y_pv hF hW hS (c8 E) (e8 _ _ _ _ _ _) rfl) rfl rfl hl.1 rfl (lv_room (Nat.le_of_ble_eq_true rfl)) dX3_readOr_28 ⟨Nat.le_of_ble_eq_true rfl, Nat.le_of_ble_eq_true rfl⟩) hS (fun H locs hW hS => ?_)
          refine lv_aload_n hx hb dX3_readOr_31 rfl (lv_at hl 0 rfl) ?_
          refine lv_sipush (v := 259) hx hb dX3_readOr_32 (by decide) ?_
          obtain ⟨S3, hc, hf⟩ := bd_out hf
          refine y_v (va_runV (As := [.int (259 : Int32)]) (rest := []) hfix (m_X3_emit l G B E S2 (259 : Int32) S3 hc) (cwV 1 hts gX3_readOr_X3_emit rfl rfl rfl ⟨rfl, hd_X3_emit⟩ ⟨(by show 1 + 1 ≤ 9 + (d + 1); omega), (by show 8 + (2 + 11) + 60 * (1) ≤ 60 * (9 + (d + 1)); omega)⟩) (y_pv hF hW hS (c8 E) (e8 _ _ _ _ _ _) rfl) rfl rfl hl.1 rfl (lv_room (Nat.le_of_ble_eq_true rfl)) dX3_readOr_35 ⟨Nat.le_of_ble_eq_true rfl, Nat.le_of_ble_eq_true rfl⟩) hS (fun H locs hW hS => ?_)
          obtain ⟨x4, e_x4, hf⟩ := lt_out hf
          refine lv_iinc (v := x4) (lv' := [(1, .int x4), (0, .ref (B 8 0))]) hx hb dX3_readOr_38 hl (k := 1) rfl (by rw [e_x4]; rfl) (by decide) rfl (fun ls hl => ?_)
          refine lv_goto (tgt := 6) hx hb dX3_readOr_41 (by decide) ?_
          exact ih6 S3 x4  hf _ _ _ hW hS (lv_sub hl [1, 0] rfl)
  unfold b_X3_readOr at hf
  refine lv_aload_n hx hb dX3_readOr_0 rfl (lv_at hl 0 rfl) ?_
  obtain ⟨S5, hc, hf⟩ := bd_out hf
  refine y_v (va_runV (As := []) (rest := []) hfix (hrec.2.1 S  S5 hc) (cwV 0 hts gX3_readOr_X3_readAnd rfl rfl rfl ⟨rfl, hd_X3_readAnd⟩ ⟨(by show 9 + d + 1 ≤ 9 + (d + 1); omega), (by show 8 + (2 + 11) + 60 * (9 + d) ≤ 60 * (9 + (d + 1)); omega)⟩) (y_pv hF hW hS (c8 E) (e8 _ _ _ _ _ _) rfl) rfl rfl hl.1 rfl (lv_room (Nat.le_of_ble_eq_true rfl)) dX3_readOr_1 ⟨Nat.le_of_ble_eq_true rfl, Nat.le_of_ble_eq_true rfl⟩) hS (fun H locs hW hS => ?_)
  refine lv_iconst (v := 0) hx hb dX3_readOr_4 rfl ?_
  refine lv_istore_n (lv' := [(1, .int (0 : Int32)), (0, .ref (B 8 0))]) hx hb dX3_readOr_5 rfl hl (by decide) rfl (fun ls hl => ?_)
  exact w6 E.1 S5 (0 : Int32)  hf _ _ _ hW hS (lv_sub hl [1, 0] rfl)
set_option maxHeartbeats 4000000 in
set_option maxRecDepth 100000 in
theorem n_X3_readAnd (l : Launch) (G : GE) (B : Nat → Nat → Nat) (E : EN) (d : Nat) (hrec : (∀ (S : ST)  (S2 : ST), f_gread E d 0 S  = some S2 → Met l yX3_readOr wsX3_readOr (rmN (9 + d)) (va_Pc [.ref (B 8 0)] (WS G B E S)) (QV G B E S2) 0 0 (AA G)) ∧ (∀ (S : ST)  (S2 : ST), f_gread E d 1 S  = some S2 → Met l yX3_readAnd wsX3_readAnd (rmN (9 + d)) (va_Pc [.ref (B 8 0)] (WS G B E S)) (QV G B E S2) 0 0 (AA G)) ∧ (∀ (S : ST)  (S2 : ST), f_gread E d 2 S  = some S2 → Met l yX3_readNot wsX3_readNot (rmN (9 + d)) (va_Pc [.ref (B 8 0)] (WS G B E S)) (QV G B E S2) 0 0 (AA G)) ∧ (∀ (S : ST)  (S2 : ST), f_gread E d 3 S  = some S2 → Met l yX3_readSum wsX3_readSum (rmN (9 + d)) (va_Pc [.ref (B 8 0)] (WS G B E S)) (QV G B E S2) 0 0 (AA G)) ∧ (∀ (S : ST)  (S2 : ST), f_gread E d 4 S  = some S2 → Met l yX3_readTerm wsX3_readTerm (rmN (9 + d)) (va_Pc [.ref (B 8 0)] (WS G B E S)) (QV G B E S2) 0 0 (AA G)) ∧ (∀ (S : ST)  (S2 : ST), f_gread E d 5 S  = some S2 → Met l yX3_readOne wsX3_readOne (rmN (9 + d)) (va_Pc [.ref (B 8 0)] (WS G B E S)) (QV G B E S2) 0 0 (AA G)))  (S : ST)  (SS : ST) (hf : b_X3_readAnd E (f_gread E d 0) (f_gread E d 1) (f_gread E d 2) (f_gread E d 3) (f_gread E d 4) (f_gread E d 5) S = some SS) : Met l yX3_readAnd wsX3_readAnd (rmN (9 + (d + 1))) (va_Pc [.ref (B 8 0)] (WS G B E S)) (QV G B E SS) 0 0 (AA G) := by
  refine Met.ofW (cc := cX3_readAnd) (maxL := 2) (ret := none) (by decide) rfl ?_
  intro p e s m args below meth c s₁ B0 hml hv
  obtain ⟨rfl, hW, hF⟩ := hv
  have hx := B0.exec
  have hb := B0.bytes
  have hr := B0.returns
  have hts := atoms_spec (ws := wsX3_readAnd) B0.pre
  have hown : s.vm.findClass RX3 = some m.cls := findClass_of_methodNamed B0.named
  have hlocks := B0.notSynchronized
  have hK := hF.1
  have hfix : CallFix p m c cX3_readAnd 2 s [.ref (B 8 0)].toArray wsX3_readAnd RX3 := ⟨hx, hb, hml, hown, hts⟩
  have hS : va_S (AA G) s.heap s.heap [] := va_S.rf
  have hl := lv_entry [.ref (B 8 0)] (n := 2) (Nat.le_of_ble_eq_true rfl)
  rw [lg_entry_eq]
  generalize (lg_sl [.ref (B 8 0)] ++ List.replicate (2 - (lg_sl [.ref (B 8 0)]).length) Slot.unset).toArray = ls at hl ⊢
  have hl : lv_has ls 2 [(0, .ref (B 8 0))] := hl
  have q0 := hts (.fieldLink RX3 18 "MovesUp$Reader" "token" "I") (List.mem_of_getElem? (i := 1) rfl)
  have hi3 : ∀ w ∈ u_ws RX3 TX3 10, w ∈ wsX3_readAnd := in_seg 124 rfl
  have w6 : ∀ (n6 : Nat) (S : ST) (v1 : Int32) , f_X3_readAnd_b6 E (f_gread E d 0) (f_gread E d 1) (f_gread E d 2) (f_gread E d 3) (f_gread E d 4) (f_gread E d 5) n6 S v1 = some SS → ∀ (H : Heap) (locs : List Loc) (ls : Array Slot), WH G B E S H → va_S (AA G) s.heap H locs → lv_has ls 2 [(0, .ref (B 8 0)), (1, .int v1)] → W p l e (headSpec wsX3_readAnd (rmN (9 + (d + 1)))).room s m [.ref (B 8 0)].toArray below meth c H locs 0 0 (MQ below (QV G B E SS) [.ref (B 8 0)].toArray s 0 0 (AA G)) (F0 m 6 ls []) := by
    intro n6
    induction n6 with
    | zero =>
      intro S v1 hf
      exact absurd (show (none : Option ST) = some SS from hf) (fun h => by cases h)
    | succ n6 ih6 =>
      intro S v1 hf H locs ls hW hS hl
      have hf : g_X3_readAnd_b6 E (f_gread E d 0) (f_gread E d 1) (f_gread E d 2) (f_gread E d 3) (f_gread E d 4) (f_gread E d 5) (f_X3_readAnd_b6 E (f_gread E d 0) (f_gread E d 1) (f_gread E d 2) (f_gread E d 3) (f_gread E d 4) (f_gread E d 5) n6) S v1 = some SS := hf
      unfold g_X3_readAnd_b6 at hf
      refine lv_iload_n hx hb dX3_readAnd_6 rfl (lv_at hl 1 rfl) ?_
      refine lv_sipush (v := 160) hx hb dX3_readAnd_7 (by decide) ?_
      refine lv_icmp_ge (tgt := 44) hx hb dX3_readAnd_10 (by decide) (fun h => ?_) (fun h => ?_)
      · have hf := if_t h hf
        exact z_v hf hx hb hr hF hW hS dX3_readAnd_44 hlocks
      · have hf := if_f h hf
        refine lv_aload_n hx hb dX3_readAnd_13 rfl (lv_at hl 0 rfl) ?_
        refine x_get hx hb hts hi3 hown hK hW (c8 E) (e8 _ _ _ _ _ _) rfl 3 (Nat.le_of_ble_eq_true rfl) q0 (fun _ h => h) (v := .int (gI S 8 0 3)) rfl dX3_readAnd_14 ?_
        refine lv_sipush (v := 260) hx hb dX3_readAnd_17 (by decide) ?_
        refine lv_icmp_ne (tgt := 44) hx hb dX3_readAnd_20 (by decide) (fun h => ?_) (fun h => ?_)
        · have hf := if_f h hf
          exact z_v hf hx hb hr hF hW hS dX3_readAnd_44 hlocks
        · have hf := if_t h hf
          refine lv_aload_n hx hb dX3_readAnd_23 rfl (lv_at hl 0 rfl) ?_
          obtain ⟨S1, hc, hf⟩ := bd_out hf
          refine y_v (va_runV (As := []) (rest := []) hfix (m_X3_advance l G B E S  S1 hc) (cwV 0 hts gX3_readAnd_X3_advance rfl rfl rfl ⟨rfl, hd_X3_advance⟩ ⟨(by show 7 + 1 ≤ 9 + (d + 1); omega), (by show 8 + (1 + 11) + 60 * (7) ≤ 60 * (9 + (d + 1)); omega)⟩) (y_pv hF hW hS (c8 E) (e8 _ _ _ _ _ _) rfl) rfl rfl hl.1 rfl (lv_room (Nat.le_of_ble_eq_true rfl)) dX3_readAnd_24 ⟨Nat.le_of_ble_eq_true rfl, Nat.le_of_ble_eq_true rfl⟩) hS (fun H locs hW hS => ?_)
          refine lv_aload_n hx hb dX3_readAnd_27 rfl (lv_at hl 0 rfl) ?_
          obtain ⟨S2, hc, hf⟩ := bd_out hf
          refine y_v (va_runV (As := []) (rest := []) hfix (hrec.2.2.1 S1  S2 hc) (cwV 0 hts gX3_readAnd_X3_readNot rfl rfl rfl ⟨rfl, hd_X3_readNot⟩ ⟨(by show 9 + d + 1 ≤ 9 + (d + 1); omega), (by show 8 + (2 + 11) + 60 * (9 + d) ≤ 60 * (9 + (d + 1)); omega)⟩) (y_pv hF hW hS (c8 E) (e8 _ _ _ _ _ _) rfl) rfl rfl hl.1 rfl (lv_room (Nat.le_of_ble_eq_true rfl)) dX3_readAnd_28 ⟨Nat.le_of_ble_eq_true rfl, Nat.le_of_ble_eq_true rfl⟩) hS (fun H locs hW hS => ?_)
          refine lv_aload_n hx hb dX3_readAnd_31 rfl (lv_at hl 0 rfl) ?_
          refine lv_sipush (v := 260) hx hb dX3_readAnd_32 (by decide) ?_
          obtain ⟨S3, hc, hf⟩ := bd_out hf
          refine y_v (va_runV (As := [.int (260 : Int32)]) (rest := []) hfix (m_X3_emit l G B E S2 (260 : Int32) S3 hc) (cwV 1 hts gX3_readAnd_X3_emit rfl rfl rfl ⟨rfl, hd_X3_emit⟩ ⟨(by show 1 + 1 ≤ 9 + (d + 1); omega), (by show 8 + (2 + 11) + 60 * (1) ≤ 60 * (9 + (d + 1)); omega)⟩) (y_pv hF hW hS (c8 E) (e8 _ _ _ _ _ _) rfl) rfl rfl hl.1 rfl (lv_room (Nat.le_of_ble_eq_true rfl)) dX3_readAnd_35 ⟨Nat.le_of_ble_eq_true rfl, Nat.le_of_ble_eq_true rfl⟩) hS (fun H locs hW hS => ?_)
          obtain ⟨x4, e_x4, hf⟩ := lt_out hf
          refine lv_iinc (v := x4) (lv' := [(1, .int x4), (0, .ref (B 8 0))]) hx hb dX3_readAnd_38 hl (k := 1) rfl (by rw [e_x4]; rfl) (by decide) rfl (fun ls hl => ?_)
          refine lv_goto (tgt := 6) hx hb dX3_readAnd_41 (by decide) ?_
          exact ih6 S3 x4  hf _ _ _ hW hS (lv_sub hl [1, 0] rfl)
  unfold b_X3_readAnd at hf
  refine lv_aload_n hx hb dX3_readAnd_0 rfl (lv_at hl 0 rfl) ?_
  obtain ⟨S5, hc, hf⟩ := bd_out hf
  refine y_v (va_runV (As := []) (rest := []) hfix (hrec.2.2.1 S  S5 hc) (cwV 0 hts gX3_readAnd_X3_readNot rfl rfl rfl ⟨rfl, hd_X3_readNot⟩ ⟨(by show 9 + d + 1 ≤ 9 + (d + 1); omega), (by show 8 + (2 + 11) + 60 * (9 + d) ≤ 60 * (9 + (d + 1)); omega)⟩) (y_pv hF hW hS (c8 E) (e8 _ _ _ _ _ _) rfl) rfl rfl hl.1 rfl (lv_room (Nat.le_of_ble_eq_true rfl)) dX3_readAnd_1 ⟨Nat.le_of_ble_eq_true rfl, Nat.le_of_ble_eq_true rfl⟩) hS (fun H locs hW hS => ?_)
  refine lv_iconst (v := 0) hx hb dX3_readAnd_4 rfl ?_
  refine lv_istore_n (lv' := [(1, .int (0 : Int32)), (0, .ref (B 8 0))]) hx hb dX3_readAnd_5 rfl hl (by decide) rfl (fun ls hl => ?_)
  exact w6 E.1 S5 (0 : Int32)  hf _ _ _ hW hS (lv_sub hl [1, 0] rfl)
set_option maxHeartbeats 4000000 in
set_option maxRecDepth 100000 in
theorem n_X3_readNot (l : Launch) (G : GE) (B : Nat → Nat → Nat) (E : EN) (d : Nat) (hrec : (∀ (S : ST)  (S2 : ST), f_gread E d 0 S  = some S2 → Met l yX3_readOr wsX3_readOr (rmN (9 + d)) (va_Pc [.ref (B 8 0)] (WS G B E S)) (QV G B E S2) 0 0 (AA G)) ∧ (∀ (S : ST)  (S2 : ST), f_gread E d 1 S  = some S2 → Met l yX3_readAnd wsX3_readAnd (rmN (9 + d)) (va_Pc [.ref (B 8 0)] (WS G B E S)) (QV G B E S2) 0 0 (AA G)) ∧ (∀ (S : ST)  (S2 : ST), f_gread E d 2 S  = some S2 → Met l yX3_readNot wsX3_readNot (rmN (9 + d)) (va_Pc [.ref (B 8 0)] (WS G B E S)) (QV G B E S2) 0 0 (AA G)) ∧ (∀ (S : ST)  (S2 : ST), f_gread E d 3 S  = some S2 → Met l yX3_readSum wsX3_readSum (rmN (9 + d)) (va_Pc [.ref (B 8 0)] (WS G B E S)) (QV G B E S2) 0 0 (AA G)) ∧ (∀ (S : ST)  (S2 : ST), f_gread E d 4 S  = some S2 → Met l yX3_readTerm wsX3_readTerm (rmN (9 + d)) (va_Pc [.ref (B 8 0)] (WS G B E S)) (QV G B E S2) 0 0 (AA G)) ∧ (∀ (S : ST)  (S2 : ST), f_gread E d 5 S  = some S2 → Met l yX3_readOne wsX3_readOne (rmN (9 + d)) (va_Pc [.ref (B 8 0)] (WS G B E S)) (QV G B E S2) 0 0 (AA G)))  (S : ST)  (SS : ST) (hf : b_X3_readNot E (f_gread E d 0) (f_gread E d 1) (f_gread E d 2) (f_gread E d 3) (f_gread E d 4) (f_gread E d 5) S = some SS) : Met l yX3_readNot wsX3_readNot (rmN (9 + (d + 1))) (va_Pc [.ref (B 8 0)] (WS G B E S)) (QV G B E SS) 0 0 (AA G) := by
  refine Met.ofW (cc := cX3_readNot) (maxL := 2) (ret := none) (by decide) rfl ?_
  intro p e s m args below meth c s₁ B0 hml hv
  obtain ⟨rfl, hW, hF⟩ := hv
  have hx := B0.exec
  have hb := B0.bytes
  have hr := B0.returns
  have hts := atoms_spec (ws := wsX3_readNot) B0.pre
  have hown : s.vm.findClass RX3 = some m.cls := findClass_of_methodNamed B0.named
  have hlocks := B0.notSynchronized
  have hK := hF.1
  have hfix : CallFix p m c cX3_readNot 2 s [.ref (B 8 0)].toArray wsX3_readNot RX3 := ⟨hx, hb, hml, hown, hts⟩
  have hS : va_S (AA G) s.heap s.heap [] := va_S.rf
  have hl := lv_entry [.ref (B 8 0)] (n := 2) (Nat.le_of_ble_eq_true rfl)
  rw [lg_entry_eq]
  generalize (lg_sl [.ref (B 8 0)] ++ List.replicate (2 - (lg_sl [.ref (B 8 0)]).length) Slot.unset).toArray = ls at hl ⊢
  have hl : lv_has ls 2 [(0, .ref (B 8 0))] := hl
  have q0 := hts (.fieldLink RX3 18 "MovesUp$Reader" "token" "I") (List.mem_of_getElem? (i := 1) rfl)
  have q1 := hts (.fieldLink RX3 27 "MovesUp$Reader" "open" "I") (List.mem_of_getElem? (i := 2) rfl)
  have hi3 : ∀ w ∈ u_ws RX3 TX3 10, w ∈ wsX3_readNot := in_seg 124 rfl
  have w61 : ∀ (S : ST)  , f_X3_readNot_b61 E (f_gread E d 0) (f_gread E d 1) (f_gread E d 2) (f_gread E d 3) (f_gread E d 4) (f_gread E d 5) S  = some SS → ∀ (H : Heap) (locs : List Loc) (ls : Array Slot), WH G B E S H → va_S (AA G) s.heap H locs → lv_has ls 2 [(0, .ref (B 8 0))] → W p l e (headSpec wsX3_readNot (rmN (9 + (d + 1)))).room s m [.ref (B 8 0)].toArray below meth c H locs 0 0 (MQ below (QV G B E SS) [.ref (B 8 0)].toArray s 0 0 (AA G)) (F0 m 61 ls []) := by
    intro S  hf H locs ls hW hS hl
    unfold f_X3_readNot_b61 at hf
    refine lv_aload_n hx hb dX3_readNot_61 rfl (lv_at hl 0 rfl) ?_
    refine x_get hx hb hts hi3 hown hK hW (c8 E) (e8 _ _ _ _ _ _) rfl 3 (Nat.le_of_ble_eq_true rfl) q0 (fun _ h => h) (v := .int (gI S 8 0 3)) rfl dX3_readNot_62 ?_
    obtain ⟨x1, e_x1, hf⟩ := lt_out hf
    refine x_nmI e_x1 ?_
    refine lv_istore_n (lv' := [(1, .int x1), (0, .ref (B 8 0))]) hx hb dX3_readNot_65 rfl hl (by decide) rfl (fun ls hl => ?_)
    refine lv_aload_n hx hb dX3_readNot_66 rfl (lv_at hl 1 rfl) ?_
    obtain ⟨S2, hc, hf⟩ := bd_out hf
    refine y_v (va_runV (As := []) (rest := []) hfix (m_X3_advance l G B E S  S2 hc) (cwV 0 hts gX3_readNot_X3_advance rfl rfl rfl ⟨rfl, hd_X3_advance⟩ ⟨(by show 7 + 1 ≤ 9 + (d + 1); omega), (by show 8 + (1 + 11) + 60 * (7) ≤ 60 * (9 + (d + 1)); omega)⟩) (y_pv hF hW hS (c8 E) (e8 _ _ _ _ _ _) rfl) rfl rfl hl.1 rfl (lv_room (Nat.le_of_ble_eq_true rfl)) dX3_readNot_67 ⟨Nat.le_of_ble_eq_true rfl, Nat.le_of_ble_eq_true rfl⟩) hS (fun H locs hW hS => ?_)
    refine lv_aload_n hx hb dX3_readNot_70 rfl (lv_at hl 1 rfl) ?_
    obtain ⟨S3, hc, hf⟩ := bd_out hf
    refine y_v (va_runV (As := []) (rest := []) hfix (hrec.2.2.2.1 S2  S3 hc) (cwV 0 hts gX3_readNot_X3_readSum rfl rfl rfl ⟨rfl, hd_X3_readSum⟩ ⟨(by show 9 + d + 1 ≤ 9 + (d + 1); omega), (by show 8 + (3 + 11) + 60 * (9 + d) ≤ 60 * (9 + (d + 1)); omega)⟩) (y_pv hF hW hS (c8 E) (e8 _ _ _ _ _ _) rfl) rfl rfl hl.1 rfl (lv_room (Nat.le_of_ble_eq_true rfl)) dX3_readNot_71 ⟨Nat.le_of_ble_eq_true rfl, Nat.le_of_ble_eq_true rfl⟩) hS (fun H locs hW hS => ?_)
    refine lv_aload_n hx hb dX3_readNot_74 rfl (lv_at hl 1 rfl) ?_
    refine lv_iload_n hx hb dX3_readNot_75 rfl (lv_at hl 0 rfl) ?_
    obtain ⟨S4, hc, hf⟩ := bd_out hf
    refine y_v (va_runV (As := [.int x1]) (rest := []) hfix (m_X3_emit l G B E S3 x1 S4 hc) (cwV 1 hts gX3_readNot_X3_emit rfl rfl rfl ⟨rfl, hd_X3_emit⟩ ⟨(by show 1 + 1 ≤ 9 + (d + 1); omega), (by show 8 + (2 + 11) + 60 * (1) ≤ 60 * (9 + (d + 1)); omega)⟩) (y_pv hF hW hS (c8 E) (e8 _ _ _ _ _ _) rfl) rfl rfl hl.1 rfl (lv_room (Nat.le_of_ble_eq_true rfl)) dX3_readNot_76 ⟨Nat.le_of_ble_eq_true rfl, Nat.le_of_ble_eq_true rfl⟩) hS (fun H locs hW hS => ?_)
    exact z_v hf hx hb hr hF hW hS dX3_readNot_79 hlocks
  unfold b_X3_readNot at hf
  refine lv_aload_n hx hb dX3_readNot_0 rfl (lv_at hl 0 rfl) ?_
  refine x_get hx hb hts hi3 hown hK hW (c8 E) (e8 _ _ _ _ _ _) rfl 3 (Nat.le_of_ble_eq_true rfl) q0 (fun _ h => h) (v := .int (gI S 8 0 3)) rfl dX3_readNot_1 ?_
  refine lv_sipush (v := 261) hx hb dX3_readNot_4 (by decide) ?_
  refine lv_icmp_ne (tgt := 39) hx hb dX3_readNot_7 (by decide) (fun h => ?_) (fun h => ?_)
  · have hf := if_f h hf
    refine lv_aload_n hx hb dX3_readNot_39 rfl (lv_at hl 0 rfl) ?_
    obtain ⟨S5, hc, hf⟩ := bd_out hf
    refine y_v (va_runV (As := []) (rest := []) hfix (hrec.2.2.2.1 S  S5 hc) (cwV 0 hts gX3_readNot_X3_readSum rfl rfl rfl ⟨rfl, hd_X3_readSum⟩ ⟨(by show 9 + d + 1 ≤ 9 + (d + 1); omega), (by show 8 + (3 + 11) + 60 * (9 + d) ≤ 60 * (9 + (d + 1)); omega)⟩) (y_pv hF hW hS (c8 E) (e8 _ _ _ _ _ _) rfl) rfl rfl hl.1 rfl (lv_room (Nat.le_of_ble_eq_true rfl)) dX3_readNot_40 ⟨Nat.le_of_ble_eq_true rfl, Nat.le_of_ble_eq_true rfl⟩) hS (fun H locs hW hS => ?_)
    refine lv_aload_n hx hb dX3_readNot_43 rfl (lv_at hl 0 rfl) ?_
    refine x_get hx hb hts hi3 hown hK hW (c8 E) (e8 _ _ _ _ _ _) rfl 3 (Nat.le_of_ble_eq_true rfl) q0 (fun _ h => h) (v := .int (gI S5 8 0 3)) rfl dX3_readNot_44 ?_
    refine lv_bipush (v := 60) hx hb dX3_readNot_47 (by decide) ?_
    refine lv_icmp_eq (tgt := 61) hx hb dX3_readNot_49 (by decide) (fun h => ?_) (fun h => ?_)
    · have hf := if_t h hf
      exact w61 S5  hf _ _ _ hW hS (lv_sub hl [0] rfl)
    · have hf := if_f h hf
      refine lv_aload_n hx hb dX3_readNot_52 rfl (lv_at hl 0 rfl) ?_
      refine x_get hx hb hts hi3 hown hK hW (c8 E) (e8 _ _ _ _ _ _) rfl 3 (Nat.le_of_ble_eq_true rfl) q0 (fun _ h => h) (v := .int (gI S5 8 0 3)) rfl dX3_readNot_53 ?_
      refine lv_bipush (v := 61) hx hb dX3_readNot_56 (by decide) ?_
      refine lv_icmp_ne (tgt := 79) hx hb dX3_readNot_58 (by decide) (fun h => ?_) (fun h => ?_)
      · have hf := if_f h hf
        exact z_v hf hx hb hr hF hW hS dX3_readNot_79 hlocks
      · have hf := if_t h hf
        exact w61 S5  hf _ _ _ hW hS (lv_sub hl [0] rfl)
  · have hf := if_t h hf
    refine lv_aload_n hx hb dX3_readNot_10 rfl (lv_at hl 0 rfl) ?_
    obtain ⟨r6, S7, hc, hf⟩ := bd2_out hf
    refine y_i (va_runV (As := []) (rest := []) hfix (m_X3_opens l G B E S  r6 S7 hc) (cwV 0 hts gX3_readNot_X3_opens rfl rfl rfl ⟨rfl, hd_X3_opens⟩ ⟨(by show 8 + 1 ≤ 9 + (d + 1); omega), (by show 8 + (1 + 11) + 60 * (8) ≤ 60 * (9 + (d + 1)); omega)⟩) (y_pv hF hW hS (c8 E) (e8 _ _ _ _ _ _) rfl) rfl rfl hl.1 rfl (lv_room (Nat.le_of_ble_eq_true rfl)) dX3_readNot_11 ⟨Nat.le_of_ble_eq_true rfl, Nat.le_of_ble_eq_true rfl⟩) hS (fun H locs hW hS => ?_)
    refine lv_if_eq (tgt := 38) hx hb dX3_readNot_14 (by decide) (fun h => ?_) (fun h => ?_)
    · have hf := if_t h hf
      exact z_v hf hx hb hr hF hW hS dX3_readNot_38 hlocks
    · have hf := if_f h hf
      refine lv_aload_n hx hb dX3_readNot_17 rfl (lv_at hl 0 rfl) ?_
      obtain ⟨S8, hc, hf⟩ := bd_out hf
      refine y_v (va_runV (As := []) (rest := []) hfix (hrec.2.2.1 S7  S8 hc) (cwV 0 hts gX3_readNot_X3_readNot rfl rfl rfl ⟨rfl, hd_X3_readNot⟩ ⟨(by show 9 + d + 1 ≤ 9 + (d + 1); omega), (by show 8 + (2 + 11) + 60 * (9 + d) ≤ 60 * (9 + (d + 1)); omega)⟩) (y_pv hF hW hS (c8 E) (e8 _ _ _ _ _ _) rfl) rfl rfl hl.1 rfl (lv_room (Nat.le_of_ble_eq_true rfl)) dX3_readNot_18 ⟨Nat.le_of_ble_eq_true rfl, Nat.le_of_ble_eq_true rfl⟩) hS (fun H locs hW hS => ?_)
      refine lv_aload_n hx hb dX3_readNot_21 rfl (lv_at hl 0 rfl) ?_
      refine lv_dup hx hb dX3_readNot_22 rfl ?_
      refine x_get hx hb hts hi3 hown hK hW (c8 E) (e8 _ _ _ _ _ _) rfl 6 (Nat.le_of_ble_eq_true rfl) q1 (fun _ h => h) (v := .int (gI S8 8 0 6)) rfl dX3_readNot_23 ?_
      refine lv_iconst (v := 1) hx hb dX3_readNot_26 rfl ?_
      refine lv_isub hx hb dX3_readNot_27 ?_
      obtain ⟨S9, e_S9, hf⟩ := lt_out hf
      refine x_putI hx hb hts hi3 tyX3 tyX3_ok nmX3 hown hK hW hS (c8 E) (e8 _ _ _) rfl 6 (Nat.le_of_ble_eq_true rfl) q1 (fun _ h => h) rfl (tyX3_ok 6 (Nat.le_of_ble_eq_true rfl)) rfl rfl (Nat.le_of_ble_eq_true rfl) (pu8_6 _ _) e_S9 dX3_readNot_28 (fun H locs hW hS => ?_)
      refine lv_aload_n hx hb dX3_readNot_31 rfl (lv_at hl 0 rfl) ?_
      refine lv_sipush (v := 261) hx hb dX3_readNot_32 (by decide) ?_
      obtain ⟨S10, hc, hf⟩ := bd_out hf
      refine y_v (va_runV (As := [.int (261 : Int32)]) (rest := []) hfix (m_X3_emit l G B E S9 (261 : Int32) S10 hc) (cwV 1 hts gX3_readNot_X3_emit rfl rfl rfl ⟨rfl, hd_X3_emit⟩ ⟨(by show 1 + 1 ≤ 9 + (d + 1); omega), (by show 8 + (2 + 11) + 60 * (1) ≤ 60 * (9 + (d + 1)); omega)⟩) (y_pv hF hW hS (c8 E) (e8 _ _ _ _ _ _) rfl) rfl rfl hl.1 rfl (lv_room (Nat.le_of_ble_eq_true rfl)) dX3_readNot_35 ⟨Nat.le_of_ble_eq_true rfl, Nat.le_of_ble_eq_true rfl⟩) hS (fun H locs hW hS => ?_)
      exact z_v hf hx hb hr hF hW hS dX3_readNot_38 hlocks
set_option maxHeartbeats 4000000 in
set_option maxRecDepth 100000 in
theorem n_X3_readSum (l : Launch) (G : GE) (B : Nat → Nat → Nat) (E : EN) (d : Nat) (hrec : (∀ (S : ST)  (S2 : ST), f_gread E d 0 S  = some S2 → Met l yX3_readOr wsX3_readOr (rmN (9 + d)) (va_Pc [.ref (B 8 0)] (WS G B E S)) (QV G B E S2) 0 0 (AA G)) ∧ (∀ (S : ST)  (S2 : ST), f_gread E d 1 S  = some S2 → Met l yX3_readAnd wsX3_readAnd (rmN (9 + d)) (va_Pc [.ref (B 8 0)] (WS G B E S)) (QV G B E S2) 0 0 (AA G)) ∧ (∀ (S : ST)  (S2 : ST), f_gread E d 2 S  = some S2 → Met l yX3_readNot wsX3_readNot (rmN (9 + d)) (va_Pc [.ref (B 8 0)] (WS G B E S)) (QV G B E S2) 0 0 (AA G)) ∧ (∀ (S : ST)  (S2 : ST), f_gread E d 3 S  = some S2 → Met l yX3_readSum wsX3_readSum (rmN (9 + d)) (va_Pc [.ref (B 8 0)] (WS G B E S)) (QV G B E S2) 0 0 (AA G)) ∧ (∀ (S : ST)  (S2 : ST), f_gread E d 4 S  = some S2 → Met l yX3_readTerm wsX3_readTerm (rmN (9 + d)) (va_Pc [.ref (B 8 0)] (WS G B E S)) (QV G B E S2) 0 0 (AA G)) ∧ (∀ (S : ST)  (S2 : ST), f_gread E d 5 S  = some S2 → Met l yX3_readOne wsX3_readOne (rmN (9 + d)) (va_Pc [.ref (B 8 0)] (WS G B E S)) (QV G B E S2) 0 0 (AA G)))  (S : ST)  (SS : ST) (hf : b_X3_readSum E (f_gread E d 0) (f_gread E d 1) (f_gread E d 2) (f_gread E d 3) (f_gread E d 4) (f_gread E d 5) S = some SS) : Met l yX3_readSum wsX3_readSum (rmN (9 + (d + 1))) (va_Pc [.ref (B 8 0)] (WS G B E S)) (QV G B E SS) 0 0 (AA G) := by
  refine Met.ofW (cc := cX3_readSum) (maxL := 3) (ret := none) (by decide) rfl ?_
  intro p e s m args below meth c s₁ B0 hml hv
  obtain ⟨rfl, hW, hF⟩ := hv
  have hx := B0.exec
  have hb := B0.bytes
  have hr := B0.returns
  have hts := atoms_spec (ws := wsX3_readSum) B0.pre
  have hown : s.vm.findClass RX3 = some m.cls := findClass_of_methodNamed B0.named
  have hlocks := B0.notSynchronized
  have hK := hF.1
  have hfix : CallFix p m c cX3_readSum 3 s [.ref (B 8 0)].toArray wsX3_readSum RX3 := ⟨hx, hb, hml, hown, hts⟩
  have hS : va_S (AA G) s.heap s.heap [] := va_S.rf
  have hl := lv_entry [.ref (B 8 0)] (n := 3) (Nat.le_of_ble_eq_true rfl)
  rw [lg_entry_eq]
  generalize (lg_sl [.ref (B 8 0)] ++ List.replicate (3 - (lg_sl [.ref (B 8 0)]).length) Slot.unset).toArray = ls at hl ⊢
  have hl : lv_has ls 3 [(0, .ref (B 8 0))] := hl
  have q0 := hts (.fieldLink RX3 18 "MovesUp$Reader" "token" "I") (List.mem_of_getElem? (i := 1) rfl)
  have hi3 : ∀ w ∈ u_ws RX3 TX3 10, w ∈ wsX3_readSum := in_seg 124 rfl
  have w6 : ∀ (n6 : Nat) (S : ST) (v1 : Int32) , f_X3_readSum_b6 E (f_gread E d 0) (f_gread E d 1) (f_gread E d 2) (f_gread E d 3) (f_gread E d 4) (f_gread E d 5) n6 S v1 = some SS → ∀ (H : Heap) (locs : List Loc) (ls : Array Slot), WH G B E S H → va_S (AA G) s.heap H locs → lv_has ls 3 [(0, .ref (B 8 0)), (1, .int v1)] → W p l e (headSpec wsX3_readSum (rmN (9 + (d + 1)))).room s m [.ref (B 8 0)].toArray below meth c H locs 0 0 (MQ below (QV G B E SS) [.ref (B 8 0)].toArray s 0 0 (AA G)) (F0 m 6 ls []) := by
    intro n6
    induction n6 with
    | zero =>
      intro S v1 hf
      exact absurd (show (none : Option ST) = some SS from hf) (fun h => by cases h)
    | succ n6 ih6 =>
      have w31 : ∀ (S : ST) (v1 : Int32) , f_X3_readSum_b31 E (f_gread E d 0) (f_gread E d 1) (f_gread E d 2) (f_gread E d 3) (f_gread E d 4) (f_gread E d 5) (f_X3_readSum_b6 E (f_gread E d 0) (f_gread E d 1) (f_gread E d 2) (f_gread E d 3) (f_gread E d 4) (f_gread E d 5) n6) S v1 = some SS → ∀ (H : Heap) (locs : List Loc) (ls : Array Slot), WH G B E S H → va_S (AA G) s.heap H locs → lv_has ls 3 [(0, .ref (B 8 0)), (1, .int v1)] → W p l e (headSpec wsX3_readSum (rmN (9 + (d + 1)))).room s m [.ref (B 8 0)].toArray below meth c H locs 0 0 (MQ below (QV G B E SS) [.ref (B 8 0)].toArray s 0 0 (AA G)) (F0 m 31 ls []) := by
        intro S v1 hf H locs ls hW hS hl
        unfold f_X3_readSum_b31 at hf
        refine lv_aload_n hx hb dX3_readSum_31 rfl (lv_at hl 0 rfl) ?_
        refine x_get hx hb hts hi3 hown hK hW (c8 E) (e8 _ _ _ _ _ _) rfl 3 (Nat.le_of_ble_eq_true rfl) q0 (fun _ h => h) (v := .int (gI S 8 0 3)) rfl dX3_readSum_32 ?_
        obtain ⟨x1, e_x1, hf⟩ := lt_out hf
        refine x_nmI e_x1 ?_
        refine lv_istore_n (lv' := [(2, .int x1), (0, .ref (B 8 0)), (1, .int v1)]) hx hb dX3_readSum_35 rfl hl (by decide) rfl (fun ls hl => ?_)
        refine lv_aload_n hx hb dX3_readSum_36 rfl (lv_at hl 1 rfl) ?_
        obtain ⟨S2, hc, hf⟩ := bd_out hf
        refine y_v (va_runV (As := []) (rest := []) hfix (m_X3_advance l G B E S  S2 hc) (cwV 0 hts gX3_readSum_X3_advance rfl rfl rfl ⟨rfl, hd_X3_advance⟩ ⟨(by show 7 + 1 ≤ 9 + (d + 1); omega), (by show 8 + (1 + 11) + 60 * (7) ≤ 60 * (9 + (d + 1)); omega)⟩) (y_pv hF hW hS (c8 E) (e8 _ _ _ _ _ _) rfl) rfl rfl hl.1 rfl (lv_room (Nat.le_of_ble_eq_true rfl)) dX3_readSum_37 ⟨Nat.le_of_ble_eq_true rfl, Nat.le_of_ble_eq_true rfl⟩) hS (fun H locs hW hS => ?_)
        refine lv_aload_n hx hb dX3_readSum_40 rfl (lv_at hl 1 rfl) ?_
        obtain ⟨S3, hc, hf⟩ := bd_out hf
        refine y_v (va_runV (As := []) (rest := []) hfix (hrec.2.2.2.2.1 S2  S3 hc) (cwV 0 hts gX3_readSum_X3_readTerm rfl rfl rfl ⟨rfl, hd_X3_readTerm⟩ ⟨(by show 9 + d + 1 ≤ 9 + (d + 1); omega), (by show 8 + (2 + 11) + 60 * (9 + d) ≤ 60 * (9 + (d + 1)); omega)⟩) (y_pv hF hW hS (c8 E) (e8 _ _ _ _ _ _) rfl) rfl rfl hl.1 rfl (lv_room (Nat.le_of_ble_eq_true rfl)) dX3_readSum_41 ⟨Nat.le_of_ble_eq_true rfl, Nat.le_of_ble_eq_true rfl⟩) hS (fun H locs hW hS => ?_)
        refine lv_aload_n hx hb dX3_readSum_44 rfl (lv_at hl 1 rfl) ?_
        refine lv_iload_n hx hb dX3_readSum_45 rfl (lv_at hl 0 rfl) ?_
        obtain ⟨S4, hc, hf⟩ := bd_out hf
        refine y_v (va_runV (As := [.int x1]) (rest := []) hfix (m_X3_emit l G B E S3 x1 S4 hc) (cwV 1 hts gX3_readSum_X3_emit rfl rfl rfl ⟨rfl, hd_X3_emit⟩ ⟨(by show 1 + 1 ≤ 9 + (d + 1); omega), (by show 8 + (2 + 11) + 60 * (1) ≤ 60 * (9 + (d + 1)); omega)⟩) (y_pv hF hW hS (c8 E) (e8 _ _ _ _ _ _) rfl) rfl rfl hl.1 rfl (lv_room (Nat.le_of_ble_eq_true rfl)) dX3_readSum_46 ⟨Nat.le_of_ble_eq_true rfl, Nat.le_of_ble_eq_true rfl⟩) hS (fun H locs hW hS => ?_)
        obtain ⟨x5, e_x5, hf⟩ := lt_out hf
        refine lv_iinc (v := x5) (lv' := [(1, .int x5), (2, .int x1), (0, .ref (B 8 0))]) hx hb dX3_readSum_49 hl (k := 2) rfl (by rw [e_x5]; rfl) (by decide) rfl (fun ls hl => ?_)
        refine lv_goto (tgt := 6) hx hb dX3_readSum_52 (by decide) ?_
        exact ih6 S4 x5  hf _ _ _ hW hS (lv_sub hl [2, 0] rfl)
      intro S v1 hf H locs ls hW hS hl
      have hf : g_X3_readSum_b6 E (f_gread E d 0) (f_gread E d 1) (f_gread E d 2) (f_gread E d 3) (f_gread E d 4) (f_gread E d 5) (f_X3_readSum_b6 E (f_gread E d 0) (f_gread E d 1) (f_gread E d 2) (f_gread E d 3) (f_gread E d 4) (f_gread E d 5) n6) S v1 = some SS := hf
      unfold g_X3_readSum_b6 at hf
      refine lv_iload_n hx hb dX3_readSum_6 rfl (lv_at hl 1 rfl) ?_
      refine lv_sipush (v := 160) hx hb dX3_readSum_7 (by decide) ?_
      refine lv_icmp_ge (tgt := 55) hx hb dX3_readSum_10 (by decide) (fun h => ?_) (fun h => ?_)
      · have hf := if_t h hf
        exact z_v hf hx hb hr hF hW hS dX3_readSum_55 hlocks
      · have hf := if_f h hf
        refine lv_aload_n hx hb dX3_readSum_13 rfl (lv_at hl 0 rfl) ?_
        refine x_get hx hb hts hi3 hown hK hW (c8 E) (e8 _ _ _ _ _ _) rfl 3 (Nat.le_of_ble_eq_true rfl) q0 (fun _ h => h) (v := .int (gI S 8 0 3)) rfl dX3_readSum_14 ?_
        refine lv_bipush (v := 43) hx hb dX3_readSum_17 (by decide) ?_
        refine lv_icmp_eq (tgt := 31) hx hb dX3_readSum_19 (by decide) (fun h => ?_) (fun h => ?_)
        · have hf := if_t h hf
          exact w31 S v1  hf _ _ _ hW hS (lv_sub hl [0, 1] rfl)
        · have hf := if_f h hf
          refine lv_aload_n hx hb dX3_readSum_22 rfl (lv_at hl 0 rfl) ?_
          refine x_get hx hb hts hi3 hown hK hW (c8 E) (e8 _ _ _ _ _ _) rfl 3 (Nat.le_of_ble_eq_true rfl) q0 (fun _ h => h) (v := .int (gI S 8 0 3)) rfl dX3_readSum_23 ?_
          refine lv_bipush (v := 45) hx hb dX3_readSum_26 (by decide) ?_
          refine lv_icmp_ne (tgt := 55) hx hb dX3_readSum_28 (by decide) (fun h => ?_) (fun h => ?_)
          · have hf := if_f h hf
            exact z_v hf hx hb hr hF hW hS dX3_readSum_55 hlocks
          · have hf := if_t h hf
            exact w31 S v1  hf _ _ _ hW hS (lv_sub hl [0, 1] rfl)
  unfold b_X3_readSum at hf
  refine lv_aload_n hx hb dX3_readSum_0 rfl (lv_at hl 0 rfl) ?_
  obtain ⟨S6, hc, hf⟩ := bd_out hf
  refine y_v (va_runV (As := []) (rest := []) hfix (hrec.2.2.2.2.1 S  S6 hc) (cwV 0 hts gX3_readSum_X3_readTerm rfl rfl rfl ⟨rfl, hd_X3_readTerm⟩ ⟨(by show 9 + d + 1 ≤ 9 + (d + 1); omega), (by show 8 + (2 + 11) + 60 * (9 + d) ≤ 60 * (9 + (d + 1)); omega)⟩) (y_pv hF hW hS (c8 E) (e8 _ _ _ _ _ _) rfl) rfl rfl hl.1 rfl (lv_room (Nat.le_of_ble_eq_true rfl)) dX3_readSum_1 ⟨Nat.le_of_ble_eq_true rfl, Nat.le_of_ble_eq_true rfl⟩) hS (fun H locs hW hS => ?_)
  refine lv_iconst (v := 0) hx hb dX3_readSum_4 rfl ?_
  refine lv_istore_n (lv' := [(1, .int (0 : Int32)), (0, .ref (B 8 0))]) hx hb dX3_readSum_5 rfl hl (by decide) rfl (fun ls hl => ?_)
  exact w6 E.1 S6 (0 : Int32)  hf _ _ _ hW hS (lv_sub hl [1, 0] rfl)
set_option maxHeartbeats 4000000 in
set_option maxRecDepth 100000 in
theorem n_X3_readTerm (l : Launch) (G : GE) (B : Nat → Nat → Nat) (E : EN) (d : Nat) (hrec : (∀ (S : ST)  (S2 : ST), f_gread E d 0 S  = some S2 → Met l yX3_readOr wsX3_readOr (rmN (9 + d)) (va_Pc [.ref (B 8 0)] (WS G B E S)) (QV G B E S2) 0 0 (AA G)) ∧ (∀ (S : ST)  (S2 : ST), f_gread E d 1 S  = some S2 → Met l yX3_readAnd wsX3_readAnd (rmN (9 + d)) (va_Pc [.ref (B 8 0)] (WS G B E S)) (QV G B E S2) 0 0 (AA G)) ∧ (∀ (S : ST)  (S2 : ST), f_gread E d 2 S  = some S2 → Met l yX3_readNot wsX3_readNot (rmN (9 + d)) (va_Pc [.ref (B 8 0)] (WS G B E S)) (QV G B E S2) 0 0 (AA G)) ∧ (∀ (S : ST)  (S2 : ST), f_gread E d 3 S  = some S2 → Met l yX3_readSum wsX3_readSum (rmN (9 + d)) (va_Pc [.ref (B 8 0)] (WS G B E S)) (QV G B E S2) 0 0 (AA G)) ∧ (∀ (S : ST)  (S2 : ST), f_gread E d 4 S  = some S2 → Met l yX3_readTerm wsX3_readTerm (rmN (9 + d)) (va_Pc [.ref (B 8 0)] (WS G B E S)) (QV G B E S2) 0 0 (AA G)) ∧ (∀ (S : ST)  (S2 : ST), f_gread E d 5 S  = some S2 → Met l yX3_readOne wsX3_readOne (rmN (9 + d)) (va_Pc [.ref (B 8 0)] (WS G B E S)) (QV G B E S2) 0 0 (AA G)))  (S : ST)  (SS : ST) (hf : b_X3_readTerm E (f_gread E d 0) (f_gread E d 1) (f_gread E d 2) (f_gread E d 3) (f_gread E d 4) (f_gread E d 5) S = some SS) : Met l yX3_readTerm wsX3_readTerm (rmN (9 + (d + 1))) (va_Pc [.ref (B 8 0)] (WS G B E S)) (QV G B E SS) 0 0 (AA G) := by
  refine Met.ofW (cc := cX3_readTerm) (maxL := 2) (ret := none) (by decide) rfl ?_
  intro p e s m args below meth c s₁ B0 hml hv
  obtain ⟨rfl, hW, hF⟩ := hv
  have hx := B0.exec
  have hb := B0.bytes
  have hr := B0.returns
  have hts := atoms_spec (ws := wsX3_readTerm) B0.pre
  have hown : s.vm.findClass RX3 = some m.cls := findClass_of_methodNamed B0.named
  have hlocks := B0.notSynchronized
  have hK := hF.1
  have hfix : CallFix p m c cX3_readTerm 2 s [.ref (B 8 0)].toArray wsX3_readTerm RX3 := ⟨hx, hb, hml, hown, hts⟩
  have hS : va_S (AA G) s.heap s.heap [] := va_S.rf
  have hl := lv_entry [.ref (B 8 0)] (n := 2) (Nat.le_of_ble_eq_true rfl)
  rw [lg_entry_eq]
  generalize (lg_sl [.ref (B 8 0)] ++ List.replicate (2 - (lg_sl [.ref (B 8 0)]).length) Slot.unset).toArray = ls at hl ⊢
  have hl : lv_has ls 2 [(0, .ref (B 8 0))] := hl
  have q0 := hts (.fieldLink RX3 18 "MovesUp$Reader" "token" "I") (List.mem_of_getElem? (i := 1) rfl)
  have hi3 : ∀ w ∈ u_ws RX3 TX3 10, w ∈ wsX3_readTerm := in_seg 124 rfl
  have w6 : ∀ (n6 : Nat) (S : ST) (v1 : Int32) , f_X3_readTerm_b6 E (f_gread E d 0) (f_gread E d 1) (f_gread E d 2) (f_gread E d 3) (f_gread E d 4) (f_gread E d 5) n6 S v1 = some SS → ∀ (H : Heap) (locs : List Loc) (ls : Array Slot), WH G B E S H → va_S (AA G) s.heap H locs → lv_has ls 2 [(0, .ref (B 8 0)), (1, .int v1)] → W p l e (headSpec wsX3_readTerm (rmN (9 + (d + 1)))).room s m [.ref (B 8 0)].toArray below meth c H locs 0 0 (MQ below (QV G B E SS) [.ref (B 8 0)].toArray s 0 0 (AA G)) (F0 m 6 ls []) := by
    intro n6
    induction n6 with
    | zero =>
      intro S v1 hf
      exact absurd (show (none : Option ST) = some SS from hf) (fun h => by cases h)
    | succ n6 ih6 =>
      intro S v1 hf H locs ls hW hS hl
      have hf : g_X3_readTerm_b6 E (f_gread E d 0) (f_gread E d 1) (f_gread E d 2) (f_gread E d 3) (f_gread E d 4) (f_gread E d 5) (f_X3_readTerm_b6 E (f_gread E d 0) (f_gread E d 1) (f_gread E d 2) (f_gread E d 3) (f_gread E d 4) (f_gread E d 5) n6) S v1 = some SS := hf
      unfold g_X3_readTerm_b6 at hf
      refine lv_iload_n hx hb dX3_readTerm_6 rfl (lv_at hl 1 rfl) ?_
      refine lv_sipush (v := 160) hx hb dX3_readTerm_7 (by decide) ?_
      refine lv_icmp_ge (tgt := 42) hx hb dX3_readTerm_10 (by decide) (fun h => ?_) (fun h => ?_)
      · have hf := if_t h hf
        exact z_v hf hx hb hr hF hW hS dX3_readTerm_42 hlocks
      · have hf := if_f h hf
        refine lv_aload_n hx hb dX3_readTerm_13 rfl (lv_at hl 0 rfl) ?_
        refine x_get hx hb hts hi3 hown hK hW (c8 E) (e8 _ _ _ _ _ _) rfl 3 (Nat.le_of_ble_eq_true rfl) q0 (fun _ h => h) (v := .int (gI S 8 0 3)) rfl dX3_readTerm_14 ?_
        refine lv_bipush (v := 42) hx hb dX3_readTerm_17 (by decide) ?_
        refine lv_icmp_ne (tgt := 42) hx hb dX3_readTerm_19 (by decide) (fun h => ?_) (fun h => ?_)
        · have hf := if_f h hf
          exact z_v hf hx hb hr hF hW hS dX3_readTerm_42 hlocks
        · have hf := if_t h hf
          refine lv_aload_n hx hb dX3_readTerm_22 rfl (lv_at hl 0 rfl) ?_
          obtain ⟨S1, hc, hf⟩ := bd_out hf
          refine y_v (va_runV (As := []) (rest := []) hfix (m_X3_advance l G B E S  S1 hc) (cwV 0 hts gX3_readTerm_X3_advance rfl rfl rfl ⟨rfl, hd_X3_advance⟩ ⟨(by show 7 + 1 ≤ 9 + (d + 1); omega), (by show 8 + (1 + 11) + 60 * (7) ≤ 60 * (9 + (d + 1)); omega)⟩) (y_pv hF hW hS (c8 E) (e8 _ _ _ _ _ _) rfl) rfl rfl hl.1 rfl (lv_room (Nat.le_of_ble_eq_true rfl)) dX3_readTerm_23 ⟨Nat.le_of_ble_eq_true rfl, Nat.le_of_ble_eq_true rfl⟩) hS (fun H locs hW hS => ?_)
          refine lv_aload_n hx hb dX3_readTerm_26 rfl (lv_at hl 0 rfl) ?_
          obtain ⟨S2, hc, hf⟩ := bd_out hf
          refine y_v (va_runV (As := []) (rest := []) hfix (hrec.2.2.2.2.2 S1  S2 hc) (cwV 0 hts gX3_readTerm_X3_readOne rfl rfl rfl ⟨rfl, hd_X3_readOne⟩ ⟨(by show 9 + d + 1 ≤ 9 + (d + 1); omega), (by show 8 + (1 + 11) + 60 * (9 + d) ≤ 60 * (9 + (d + 1)); omega)⟩) (y_pv hF hW hS (c8 E) (e8 _ _ _ _ _ _) rfl) rfl rfl hl.1 rfl (lv_room (Nat.le_of_ble_eq_true rfl)) dX3_readTerm_27 ⟨Nat.le_of_ble_eq_true rfl, Nat.le_of_ble_eq_true rfl⟩) hS (fun H locs hW hS => ?_)
          refine lv_aload_n hx hb dX3_readTerm_30 rfl (lv_at hl 0 rfl) ?_
          refine lv_bipush (v := 42) hx hb dX3_readTerm_31 (by decide) ?_
          obtain ⟨S3, hc, hf⟩ := bd_out hf
          refine y_v (va_runV (As := [.int (42 : Int32)]) (rest := []) hfix (m_X3_emit l G B E S2 (42 : Int32) S3 hc) (cwV 1 hts gX3_readTerm_X3_emit rfl rfl rfl ⟨rfl, hd_X3_emit⟩ ⟨(by show 1 + 1 ≤ 9 + (d + 1); omega), (by show 8 + (2 + 11) + 60 * (1) ≤ 60 * (9 + (d + 1)); omega)⟩) (y_pv hF hW hS (c8 E) (e8 _ _ _ _ _ _) rfl) rfl rfl hl.1 rfl (lv_room (Nat.le_of_ble_eq_true rfl)) dX3_readTerm_33 ⟨Nat.le_of_ble_eq_true rfl, Nat.le_of_ble_eq_true rfl⟩) hS (fun H locs hW hS => ?_)
          obtain ⟨x4, e_x4, hf⟩ := lt_out hf
          refine lv_iinc (v := x4) (lv' := [(1, .int x4), (0, .ref (B 8 0))]) hx hb dX3_readTerm_36 hl (k := 1) rfl (by rw [e_x4]; rfl) (by decide) rfl (fun ls hl => ?_)
          refine lv_goto (tgt := 6) hx hb dX3_readTerm_39 (by decide) ?_
          exact ih6 S3 x4  hf _ _ _ hW hS (lv_sub hl [1, 0] rfl)
  unfold b_X3_readTerm at hf
  refine lv_aload_n hx hb dX3_readTerm_0 rfl (lv_at hl 0 rfl) ?_
  obtain ⟨S5, hc, hf⟩ := bd_out hf
  refine y_v (va_runV (As := []) (rest := []) hfix (hrec.2.2.2.2.2 S  S5 hc) (cwV 0 hts gX3_readTerm_X3_readOne rfl rfl rfl ⟨rfl, hd_X3_readOne⟩ ⟨(by show 9 + d + 1 ≤ 9 + (d + 1); omega), (by show 8 + (1 + 11) + 60 * (9 + d) ≤ 60 * (9 + (d + 1)); omega)⟩) (y_pv hF hW hS (c8 E) (e8 _ _ _ _ _ _) rfl) rfl rfl hl.1 rfl (lv_room (Nat.le_of_ble_eq_true rfl)) dX3_readTerm_1 ⟨Nat.le_of_ble_eq_true rfl, Nat.le_of_ble_eq_true rfl⟩) hS (fun H locs hW hS => ?_)
  refine lv_iconst (v := 0) hx hb dX3_readTerm_4 rfl ?_
  refine lv_istore_n (lv' := [(1, .int (0 : Int32)), (0, .ref (B 8 0))]) hx hb dX3_readTerm_5 rfl hl (by decide) rfl (fun ls hl => ?_)
  exact w6 E.1 S5 (0 : Int32)  hf _ _ _ hW hS (lv_sub hl [1, 0] rfl)
set_option maxHeartbeats 4000000 in
set_option maxRecDepth 100000 in
theorem n_X3_readOne (l : Launch) (G : GE) (B : Nat → Nat → Nat) (E : EN) (d : Nat) (hrec : (∀ (S : ST)  (S2 : ST), f_gread E d 0 S  = some S2 → Met l yX3_readOr wsX3_readOr (rmN (9 + d)) (va_Pc [.ref (B 8 0)] (WS G B E S)) (QV G B E S2) 0 0 (AA G)) ∧ (∀ (S : ST)  (S2 : ST), f_gread E d 1 S  = some S2 → Met l yX3_readAnd wsX3_readAnd (rmN (9 + d)) (va_Pc [.ref (B 8 0)] (WS G B E S)) (QV G B E S2) 0 0 (AA G)) ∧ (∀ (S : ST)  (S2 : ST), f_gread E d 2 S  = some S2 → Met l yX3_readNot wsX3_readNot (rmN (9 + d)) (va_Pc [.ref (B 8 0)] (WS G B E S)) (QV G B E S2) 0 0 (AA G)) ∧ (∀ (S : ST)  (S2 : ST), f_gread E d 3 S  = some S2 → Met l yX3_readSum wsX3_readSum (rmN (9 + d)) (va_Pc [.ref (B 8 0)] (WS G B E S)) (QV G B E S2) 0 0 (AA G)) ∧ (∀ (S : ST)  (S2 : ST), f_gread E d 4 S  = some S2 → Met l yX3_readTerm wsX3_readTerm (rmN (9 + d)) (va_Pc [.ref (B 8 0)] (WS G B E S)) (QV G B E S2) 0 0 (AA G)) ∧ (∀ (S : ST)  (S2 : ST), f_gread E d 5 S  = some S2 → Met l yX3_readOne wsX3_readOne (rmN (9 + d)) (va_Pc [.ref (B 8 0)] (WS G B E S)) (QV G B E S2) 0 0 (AA G)))  (S : ST)  (SS : ST) (hf : b_X3_readOne E (f_gread E d 0) (f_gread E d 1) (f_gread E d 2) (f_gread E d 3) (f_gread E d 4) (f_gread E d 5) S = some SS) : Met l yX3_readOne wsX3_readOne (rmN (9 + (d + 1))) (va_Pc [.ref (B 8 0)] (WS G B E S)) (QV G B E SS) 0 0 (AA G) := by
  refine Met.ofW (cc := cX3_readOne) (maxL := 1) (ret := none) (by decide) rfl ?_
  intro p e s m args below meth c s₁ B0 hml hv
  obtain ⟨rfl, hW, hF⟩ := hv
  have hx := B0.exec
  have hb := B0.bytes
  have hr := B0.returns
  have hts := atoms_spec (ws := wsX3_readOne) B0.pre
  have hown : s.vm.findClass RX3 = some m.cls := findClass_of_methodNamed B0.named
  have hlocks := B0.notSynchronized
  have hK := hF.1
  have hfix : CallFix p m c cX3_readOne 1 s [.ref (B 8 0)].toArray wsX3_readOne RX3 := ⟨hx, hb, hml, hown, hts⟩
  have hS : va_S (AA G) s.heap s.heap [] := va_S.rf
  have hl := lv_entry [.ref (B 8 0)] (n := 1) (Nat.le_of_ble_eq_true rfl)
  rw [lg_entry_eq]
  generalize (lg_sl [.ref (B 8 0)] ++ List.replicate (1 - (lg_sl [.ref (B 8 0)]).length) Slot.unset).toArray = ls at hl ⊢
  have hl : lv_has ls 1 [(0, .ref (B 8 0))] := hl
  have q0 := hts (.fieldLink RX3 18 "MovesUp$Reader" "token" "I") (List.mem_of_getElem? (i := 1) rfl)
  have q1 := hts (.fieldLink RX3 27 "MovesUp$Reader" "open" "I") (List.mem_of_getElem? (i := 2) rfl)
  have hi3 : ∀ w ∈ u_ws RX3 TX3 10, w ∈ wsX3_readOne := in_seg 124 rfl
  unfold b_X3_readOne at hf
  refine lv_aload_n hx hb dX3_readOne_0 rfl (lv_at hl 0 rfl) ?_
  refine x_get hx hb hts hi3 hown hK hW (c8 E) (e8 _ _ _ _ _ _) rfl 3 (Nat.le_of_ble_eq_true rfl) q0 (fun _ h => h) (v := .int (gI S 8 0 3)) rfl dX3_readOne_1 ?_
  refine lv_sipush (v := 262) hx hb dX3_readOne_4 (by decide) ?_
  refine lv_icmp_lt (tgt := 25) hx hb dX3_readOne_7 (by decide) (fun h => ?_) (fun h => ?_)
  · have hf := if_t h hf
    refine lv_aload_n hx hb dX3_readOne_25 rfl (lv_at hl 0 rfl) ?_
    refine x_get hx hb hts hi3 hown hK hW (c8 E) (e8 _ _ _ _ _ _) rfl 3 (Nat.le_of_ble_eq_true rfl) q0 (fun _ h => h) (v := .int (gI S 8 0 3)) rfl dX3_readOne_26 ?_
    refine lv_bipush (v := 45) hx hb dX3_readOne_29 (by decide) ?_
    refine lv_icmp_ne (tgt := 63) hx hb dX3_readOne_31 (by decide) (fun h => ?_) (fun h => ?_)
    · have hf := if_f h hf
      refine lv_aload_n hx hb dX3_readOne_63 rfl (lv_at hl 0 rfl) ?_
      refine x_get hx hb hts hi3 hown hK hW (c8 E) (e8 _ _ _ _ _ _) rfl 3 (Nat.le_of_ble_eq_true rfl) q0 (fun _ h => h) (v := .int (gI S 8 0 3)) rfl dX3_readOne_64 ?_
      refine lv_bipush (v := 40) hx hb dX3_readOne_67 (by decide) ?_
      refine lv_icmp_ne (tgt := 102) hx hb dX3_readOne_69 (by decide) (fun h => ?_) (fun h => ?_)
      · have hf := if_f h hf
        refine lv_aload_n hx hb dX3_readOne_102 rfl (lv_at hl 0 rfl) ?_
        obtain ⟨S1, hc, hf⟩ := bd_out hf
        refine y_v (va_runV (As := []) (rest := []) hfix (m_X3_refuse l G B E S  S1 hc) (cwV 0 hts gX3_readOne_X3_refuse rfl rfl rfl ⟨rfl, hd_X3_refuse⟩ ⟨(by show 1 + 1 ≤ 9 + (d + 1); omega), (by show 8 + (1 + 11) + 60 * (1) ≤ 60 * (9 + (d + 1)); omega)⟩) (y_pv hF hW hS (c8 E) (e8 _ _ _ _ _ _) rfl) rfl rfl hl.1 rfl (lv_room (Nat.le_of_ble_eq_true rfl)) dX3_readOne_103 ⟨Nat.le_of_ble_eq_true rfl, Nat.le_of_ble_eq_true rfl⟩) hS (fun H locs hW hS => ?_)
        exact z_v hf hx hb hr hF hW hS dX3_readOne_106 hlocks
      · have hf := if_t h hf
        refine lv_aload_n hx hb dX3_readOne_72 rfl (lv_at hl 0 rfl) ?_
        obtain ⟨r2, S3, hc, hf⟩ := bd2_out hf
        refine y_i (va_runV (As := []) (rest := []) hfix (m_X3_opens l G B E S  r2 S3 hc) (cwV 0 hts gX3_readOne_X3_opens rfl rfl rfl ⟨rfl, hd_X3_opens⟩ ⟨(by show 8 + 1 ≤ 9 + (d + 1); omega), (by show 8 + (1 + 11) + 60 * (8) ≤ 60 * (9 + (d + 1)); omega)⟩) (y_pv hF hW hS (c8 E) (e8 _ _ _ _ _ _) rfl) rfl rfl hl.1 rfl (lv_room (Nat.le_of_ble_eq_true rfl)) dX3_readOne_73 ⟨Nat.le_of_ble_eq_true rfl, Nat.le_of_ble_eq_true rfl⟩) hS (fun H locs hW hS => ?_)
        refine lv_if_eq (tgt := 106) hx hb dX3_readOne_76 (by decide) (fun h => ?_) (fun h => ?_)
        · have hf := if_t h hf
          exact z_v hf hx hb hr hF hW hS dX3_readOne_106 hlocks
        · have hf := if_f h hf
          refine lv_aload_n hx hb dX3_readOne_79 rfl (lv_at hl 0 rfl) ?_
          obtain ⟨S4, hc, hf⟩ := bd_out hf
          refine y_v (va_runV (As := []) (rest := []) hfix (hrec.1 S3  S4 hc) (cwV 0 hts gX3_readOne_X3_readOr rfl rfl rfl ⟨rfl, hd_X3_readOr⟩ ⟨(by show 9 + d + 1 ≤ 9 + (d + 1); omega), (by show 8 + (2 + 11) + 60 * (9 + d) ≤ 60 * (9 + (d + 1)); omega)⟩) (y_pv hF hW hS (c8 E) (e8 _ _ _ _ _ _) rfl) rfl rfl hl.1 rfl (lv_room (Nat.le_of_ble_eq_true rfl)) dX3_readOne_80 ⟨Nat.le_of_ble_eq_true rfl, Nat.le_of_ble_eq_true rfl⟩) hS (fun H locs hW hS => ?_)
          refine lv_aload_n hx hb dX3_readOne_83 rfl (lv_at hl 0 rfl) ?_
          refine lv_bipush (v := 41) hx hb dX3_readOne_84 (by decide) ?_
          obtain ⟨S5, hc, hf⟩ := bd_out hf
          refine y_v (va_runV (As := [.int (41 : Int32)]) (rest := []) hfix (m_X3_take l G B E S4 (41 : Int32) S5 hc) (cwV 1 hts gX3_readOne_X3_take rfl rfl rfl ⟨rfl, hd_X3_take⟩ ⟨(by show 8 + 1 ≤ 9 + (d + 1); omega), (by show 8 + (2 + 11) + 60 * (8) ≤ 60 * (9 + (d + 1)); omega)⟩) (y_pv hF hW hS (c8 E) (e8 _ _ _ _ _ _) rfl) rfl rfl hl.1 rfl (lv_room (Nat.le_of_ble_eq_true rfl)) dX3_readOne_86 ⟨Nat.le_of_ble_eq_true rfl, Nat.le_of_ble_eq_true rfl⟩) hS (fun H locs hW hS => ?_)
          refine lv_aload_n hx hb dX3_readOne_89 rfl (lv_at hl 0 rfl) ?_
          refine lv_dup hx hb dX3_readOne_90 rfl ?_
          refine x_get hx hb hts hi3 hown hK hW (c8 E) (e8 _ _ _ _ _ _) rfl 6 (Nat.le_of_ble_eq_true rfl) q1 (fun _ h => h) (v := .int (gI S5 8 0 6)) rfl dX3_readOne_91 ?_
          refine lv_iconst (v := 1) hx hb dX3_readOne_94 rfl ?_
          refine lv_isub hx hb dX3_readOne_95 ?_
          obtain ⟨S6, e_S6, hf⟩ := lt_out hf
          refine x_putI hx hb hts hi3 tyX3 tyX3_ok nmX3 hown hK hW hS (c8 E) (e8 _ _ _) rfl 6 (Nat.le_of_ble_eq_true rfl) q1 (fun _ h => h) rfl (tyX3_ok 6 (Nat.le_of_ble_eq_true rfl)) rfl rfl (Nat.le_of_ble_eq_true rfl) (pu8_6 _ _) e_S6 dX3_readOne_96 (fun H locs hW hS => ?_)
          refine lv_goto (tgt := 106) hx hb dX3_readOne_99 (by decide) ?_
          exact z_v hf hx hb hr hF hW hS dX3_readOne_106 hlocks
    · have hf := if_t h hf
      refine lv_aload_n hx hb dX3_readOne_34 rfl (lv_at hl 0 rfl) ?_
      obtain ⟨r7, S8, hc, hf⟩ := bd2_out hf
      refine y_i (va_runV (As := []) (rest := []) hfix (m_X3_opens l G B E S  r7 S8 hc) (cwV 0 hts gX3_readOne_X3_opens rfl rfl rfl ⟨rfl, hd_X3_opens⟩ ⟨(by show 8 + 1 ≤ 9 + (d + 1); omega), (by show 8 + (1 + 11) + 60 * (8) ≤ 60 * (9 + (d + 1)); omega)⟩) (y_pv hF hW hS (c8 E) (e8 _ _ _ _ _ _) rfl) rfl rfl hl.1 rfl (lv_room (Nat.le_of_ble_eq_true rfl)) dX3_readOne_35 ⟨Nat.le_of_ble_eq_true rfl, Nat.le_of_ble_eq_true rfl⟩) hS (fun H locs hW hS => ?_)
      refine lv_if_eq (tgt := 106) hx hb dX3_readOne_38 (by decide) (fun h => ?_) (fun h => ?_)
      · have hf := if_t h hf
        exact z_v hf hx hb hr hF hW hS dX3_readOne_106 hlocks
      · have hf := if_f h hf
        refine lv_aload_n hx hb dX3_readOne_41 rfl (lv_at hl 0 rfl) ?_
        obtain ⟨S9, hc, hf⟩ := bd_out hf
        refine y_v (va_runV (As := []) (rest := []) hfix (hrec.2.2.2.2.2 S8  S9 hc) (cwV 0 hts gX3_readOne_X3_readOne rfl rfl rfl ⟨rfl, hd_X3_readOne⟩ ⟨(by show 9 + d + 1 ≤ 9 + (d + 1); omega), (by show 8 + (1 + 11) + 60 * (9 + d) ≤ 60 * (9 + (d + 1)); omega)⟩) (y_pv hF hW hS (c8 E) (e8 _ _ _ _ _ _) rfl) rfl rfl hl.1 rfl (lv_room (Nat.le_of_ble_eq_true rfl)) dX3_readOne_42 ⟨Nat.le_of_ble_eq_true rfl, Nat.le_of_ble_eq_true rfl⟩) hS (fun H locs hW hS => ?_)
        refine lv_aload_n hx hb dX3_readOne_45 rfl (lv_at hl 0 rfl) ?_
        refine lv_dup hx hb dX3_readOne_46 rfl ?_
        refine x_get hx hb hts hi3 hown hK hW (c8 E) (e8 _ _ _ _ _ _) rfl 6 (Nat.le_of_ble_eq_true rfl) q1 (fun _ h => h) (v := .int (gI S9 8 0 6)) rfl dX3_readOne_47 ?_
        refine lv_iconst (v := 1) hx hb dX3_readOne_50 rfl ?_
        refine lv_isub hx hb dX3_readOne_51 ?_
        obtain ⟨S10, e_S10, hf⟩ := lt_out hf
        refine x_putI hx hb hts hi3 tyX3 tyX3_ok nmX3 hown hK hW hS (c8 E) (e8 _ _ _) rfl 6 (Nat.le_of_ble_eq_true rfl) q1 (fun _ h => h) rfl (tyX3_ok 6 (Nat.le_of_ble_eq_true rfl)) rfl rfl (Nat.le_of_ble_eq_true rfl) (pu8_6 _ _) e_S10 dX3_readOne_52 (fun H locs hW hS => ?_)
        refine lv_aload_n hx hb dX3_readOne_55 rfl (lv_at hl 0 rfl) ?_
        refine lv_iconst (v := 1) hx hb dX3_readOne_56 rfl ?_
        obtain ⟨S11, hc, hf⟩ := bd_out hf
        refine y_v (va_runV (As := [.int (1 : Int32)]) (rest := []) hfix (m_X3_emit l G B E S10 (1 : Int32) S11 hc) (cwV 1 hts gX3_readOne_X3_emit rfl rfl rfl ⟨rfl, hd_X3_emit⟩ ⟨(by show 1 + 1 ≤ 9 + (d + 1); omega), (by show 8 + (2 + 11) + 60 * (1) ≤ 60 * (9 + (d + 1)); omega)⟩) (y_pv hF hW hS (c8 E) (e8 _ _ _ _ _ _) rfl) rfl rfl hl.1 rfl (lv_room (Nat.le_of_ble_eq_true rfl)) dX3_readOne_57 ⟨Nat.le_of_ble_eq_true rfl, Nat.le_of_ble_eq_true rfl⟩) hS (fun H locs hW hS => ?_)
        refine lv_goto (tgt := 106) hx hb dX3_readOne_60 (by decide) ?_
        exact z_v hf hx hb hr hF hW hS dX3_readOne_106 hlocks
  · have hf := if_f h hf
    refine lv_aload_n hx hb dX3_readOne_10 rfl (lv_at hl 0 rfl) ?_
    refine lv_aload_n hx hb dX3_readOne_11 rfl (lv_at hl 0 rfl) ?_
    refine x_get hx hb hts hi3 hown hK hW (c8 E) (e8 _ _ _ _ _ _) rfl 3 (Nat.le_of_ble_eq_true rfl) q0 (fun _ h => h) (v := .int (gI S 8 0 3)) rfl dX3_readOne_12 ?_
    obtain ⟨S12, hc, hf⟩ := bd_out hf
    refine y_v (va_runV (As := [.int (gI S 8 0 3)]) (rest := []) hfix (m_X3_emit l G B E S (gI S 8 0 3) S12 hc) (cwV 1 hts gX3_readOne_X3_emit rfl rfl rfl ⟨rfl, hd_X3_emit⟩ ⟨(by show 1 + 1 ≤ 9 + (d + 1); omega), (by show 8 + (2 + 11) + 60 * (1) ≤ 60 * (9 + (d + 1)); omega)⟩) (y_pv hF hW hS (c8 E) (e8 _ _ _ _ _ _) rfl) rfl rfl hl.1 rfl (lv_room (Nat.le_of_ble_eq_true rfl)) dX3_readOne_15 ⟨Nat.le_of_ble_eq_true rfl, Nat.le_of_ble_eq_true rfl⟩) hS (fun H locs hW hS => ?_)
    refine lv_aload_n hx hb dX3_readOne_18 rfl (lv_at hl 0 rfl) ?_
    obtain ⟨S13, hc, hf⟩ := bd_out hf
    refine y_v (va_runV (As := []) (rest := []) hfix (m_X3_advance l G B E S12  S13 hc) (cwV 0 hts gX3_readOne_X3_advance rfl rfl rfl ⟨rfl, hd_X3_advance⟩ ⟨(by show 7 + 1 ≤ 9 + (d + 1); omega), (by show 8 + (1 + 11) + 60 * (7) ≤ 60 * (9 + (d + 1)); omega)⟩) (y_pv hF hW hS (c8 E) (e8 _ _ _ _ _ _) rfl) rfl rfl hl.1 rfl (lv_room (Nat.le_of_ble_eq_true rfl)) dX3_readOne_19 ⟨Nat.le_of_ble_eq_true rfl, Nat.le_of_ble_eq_true rfl⟩) hS (fun H locs hW hS => ?_)
    refine lv_goto (tgt := 106) hx hb dX3_readOne_22 (by decide) ?_
    exact z_v hf hx hb hr hF hW hS dX3_readOne_106 hlocks
set_option maxHeartbeats 4000000 in
theorem n_gread (l : Launch) (G : GE) (B : Nat → Nat → Nat) (E : EN) : ∀ d : Nat, (∀ (S : ST)  (S2 : ST), f_gread E d 0 S  = some S2 → Met l yX3_readOr wsX3_readOr (rmN (9 + d)) (va_Pc [.ref (B 8 0)] (WS G B E S)) (QV G B E S2) 0 0 (AA G)) ∧ (∀ (S : ST)  (S2 : ST), f_gread E d 1 S  = some S2 → Met l yX3_readAnd wsX3_readAnd (rmN (9 + d)) (va_Pc [.ref (B 8 0)] (WS G B E S)) (QV G B E S2) 0 0 (AA G)) ∧ (∀ (S : ST)  (S2 : ST), f_gread E d 2 S  = some S2 → Met l yX3_readNot wsX3_readNot (rmN (9 + d)) (va_Pc [.ref (B 8 0)] (WS G B E S)) (QV G B E S2) 0 0 (AA G)) ∧ (∀ (S : ST)  (S2 : ST), f_gread E d 3 S  = some S2 → Met l yX3_readSum wsX3_readSum (rmN (9 + d)) (va_Pc [.ref (B 8 0)] (WS G B E S)) (QV G B E S2) 0 0 (AA G)) ∧ (∀ (S : ST)  (S2 : ST), f_gread E d 4 S  = some S2 → Met l yX3_readTerm wsX3_readTerm (rmN (9 + d)) (va_Pc [.ref (B 8 0)] (WS G B E S)) (QV G B E S2) 0 0 (AA G)) ∧ (∀ (S : ST)  (S2 : ST), f_gread E d 5 S  = some S2 → Met l yX3_readOne wsX3_readOne (rmN (9 + d)) (va_Pc [.ref (B 8 0)] (WS G B E S)) (QV G B E S2) 0 0 (AA G)) := by
  intro d
  induction d with
  | zero =>
    exact ⟨fun S  S2 hf => absurd (show (none : Option ST) = some S2 from hf) (fun h => by cases h), fun S  S2 hf => absurd (show (none : Option ST) = some S2 from hf) (fun h => by cases h), fun S  S2 hf => absurd (show (none : Option ST) = some S2 from hf) (fun h => by cases h), fun S  S2 hf => absurd (show (none : Option ST) = some S2 from hf) (fun h => by cases h), fun S  S2 hf => absurd (show (none : Option ST) = some S2 from hf) (fun h => by cases h), fun S  S2 hf => absurd (show (none : Option ST) = some S2 from hf) (fun h => by cases h)⟩
  | succ d ih =>
    exact ⟨fun S  S2 hf => n_X3_readOr l G B E d ih S  S2 hf, fun S  S2 hf => n_X3_readAnd l G B E d ih S  S2 hf, fun S  S2 hf => n_X3_readNot l G B E d ih S  S2 hf, fun S  S2 hf => n_X3_readSum l G B E d ih S  S2 hf, fun S  S2 hf => n_X3_readTerm l G B E d ih S  S2 hf, fun S  S2 hf => n_X3_readOne l G B E d ih S  S2 hf⟩
theorem m_X3_readOr (l : Launch) (G : GE) (B : Nat → Nat → Nat) (E : EN) (d : Nat) (S : ST)  (S2 : ST) (hf : f_X3_readOr E d S  = some S2) : Met l yX3_readOr wsX3_readOr (rmN (9 + d)) (va_Pc [.ref (B 8 0)] (WS G B E S)) (QV G B E S2) 0 0 (AA G) := (n_gread l G B E d).1 S  S2 hf
theorem m_X3_readAnd (l : Launch) (G : GE) (B : Nat → Nat → Nat) (E : EN) (d : Nat) (S : ST)  (S2 : ST) (hf : f_X3_readAnd E d S  = some S2) : Met l yX3_readAnd wsX3_readAnd (rmN (9 + d)) (va_Pc [.ref (B 8 0)] (WS G B E S)) (QV G B E S2) 0 0 (AA G) := (n_gread l G B E d).2.1 S  S2 hf
theorem m_X3_readNot (l : Launch) (G : GE) (B : Nat → Nat → Nat) (E : EN) (d : Nat) (S : ST)  (S2 : ST) (hf : f_X3_readNot E d S  = some S2) : Met l yX3_readNot wsX3_readNot (rmN (9 + d)) (va_Pc [.ref (B 8 0)] (WS G B E S)) (QV G B E S2) 0 0 (AA G) := (n_gread l G B E d).2.2.1 S  S2 hf
theorem m_X3_readSum (l : Launch) (G : GE) (B : Nat → Nat → Nat) (E : EN) (d : Nat) (S : ST)  (S2 : ST) (hf : f_X3_readSum E d S  = some S2) : Met l yX3_readSum wsX3_readSum (rmN (9 + d)) (va_Pc [.ref (B 8 0)] (WS G B E S)) (QV G B E S2) 0 0 (AA G) := (n_gread l G B E d).2.2.2.1 S  S2 hf
theorem m_X3_readTerm (l : Launch) (G : GE) (B : Nat → Nat → Nat) (E : EN) (d : Nat) (S : ST)  (S2 : ST) (hf : f_X3_readTerm E d S  = some S2) : Met l yX3_readTerm wsX3_readTerm (rmN (9 + d)) (va_Pc [.ref (B 8 0)] (WS G B E S)) (QV G B E S2) 0 0 (AA G) := (n_gread l G B E d).2.2.2.2.1 S  S2 hf
theorem m_X3_readOne (l : Launch) (G : GE) (B : Nat → Nat → Nat) (E : EN) (d : Nat) (S : ST)  (S2 : ST) (hf : f_X3_readOne E d S  = some S2) : Met l yX3_readOne wsX3_readOne (rmN (9 + d)) (va_Pc [.ref (B 8 0)] (WS G B E S)) (QV G B E S2) 0 0 (AA G) := (n_gread l G B E d).2.2.2.2.2 S  S2 hf

