set_option maxHeartbeats 4000000 in
set_option maxRecDepth 100000 in
theorem m_X7_comes (l : Launch) (G : GE) (B : Nat → Nat → Nat) (E : EN) (hE : 0 < E.2.2.2)  (S : ST) (a1 : Int32) (a2 : Int32) (SS : ST) (hf : f_X7_comes E S a1 a2 = some SS) : Met l yX7_comes wsX7_comes (rmN 1) (va_Pc [.ref (B 1 0), .int a1, .int a2] (WS G B E S)) (QV G B E SS) 0 0 (AA G) := by
  refine Met.ofW (cc := cX7_comes) (maxL := 4) (ret := none) (by decide) rfl ?_
  intro p e s m args below meth c s₁ B0 hml hv
  obtain ⟨rfl, hW, hF⟩ := hv
  have hx := B0.exec
  have hb := B0.bytes
  have hr := B0.returns
  have hts := atoms_spec (ws := wsX7_comes) B0.pre
  have hown : s.vm.findClass RX7 = some m.cls := findClass_of_methodNamed B0.named
  have hlocks := B0.notSynchronized
  have hK := hF.1
  have hfix : CallFix p m c cX7_comes 4 s [.ref (B 1 0), .int a1, .int a2].toArray wsX7_comes RX7 := ⟨hx, hb, hml, hown, hts⟩
  have hS : va_S (AA G) s.heap s.heap [] := va_S.rf
  have hl := lv_entry [.ref (B 1 0), .int a1, .int a2] (n := 4) (Nat.le_of_ble_eq_true rfl)
  rw [lg_entry_eq]
  generalize (lg_sl [.ref (B 1 0), .int a1, .int a2] ++ List.replicate (4 - (lg_sl [.ref (B 1 0), .int a1, .int a2]).length) Slot.unset).toArray = ls at hl ⊢
  have hl : lv_has ls 4 [(0, .ref (B 1 0)), (1, .int a1), (2, .int a2)] := hl
  have q0 := hts (.fieldLink RX7 1 "MovesUpModel" "pupils" "I") (List.mem_of_getElem? (i := 2) rfl)
  have q1 := hts (.fieldLink RX7 24 "MovesUpModel" "weight" "[I") (List.mem_of_getElem? (i := 6) rfl)
  have q2 := hts (.fieldLink RX7 11 "MovesUpModel" "kind" "[I") (List.mem_of_getElem? (i := 1) rfl)
  have q3 := hts (.fieldLink RX7 15 "MovesUpModel" "grade" "[I") (List.mem_of_getElem? (i := 3) rfl)
  have q4 := hts (.fieldLink RX7 18 "MovesUpModel" "kin" "[I") (List.mem_of_getElem? (i := 4) rfl)
  have q5 := hts (.fieldLink RX7 21 "MovesUpModel" "number" "[I") (List.mem_of_getElem? (i := 5) rfl)
  have hi7 : ∀ w ∈ u_ws RX7 TX7 47, w ∈ wsX7_comes := in_seg 7 rfl
  have w87 : ∀ (S : ST)  , f_X7_comes_b87 E S  = some SS → ∀ (H : Heap) (locs : List Loc) (ls : Array Slot), WH G B E S H → va_S (AA G) s.heap H locs → lv_has ls 4 [(0, .ref (B 1 0))] → W p l e (headSpec wsX7_comes (rmN 1)).room s m [.ref (B 1 0), .int a1, .int a2].toArray below meth c H locs 0 0 (MQ below (QV G B E SS) [.ref (B 1 0), .int a1, .int a2].toArray s 0 0 (AA G)) (F0 m 87 ls []) := by
    intro S  hf H locs ls hW hS hl
    unfold f_X7_comes_b87 at hf
    refine lv_aload_n hx hb dX7_comes_87 rfl (lv_at hl 0 rfl) ?_
    refine lv_dup hx hb dX7_comes_88 rfl ?_
    refine x_get hx hb hts hi7 hown hK hW (c1 hE) (e1 _ _ _ _ _ _) rfl 0 (Nat.le_of_ble_eq_true rfl) q0 (fun _ h => h) (v := .int (gI S 1 0 0)) rfl dX7_comes_89 ?_
    refine lv_iconst (v := 1) hx hb dX7_comes_92 rfl ?_
    refine lv_iadd hx hb dX7_comes_93 ?_
    obtain ⟨S1, e_S1, hf⟩ := lt_out hf
    refine x_putI hx hb hts hi7 tyX7 tyX7_ok nmX7 hown hK hW hS (c1 hE) (e1 _ _ _) rfl 0 (Nat.le_of_ble_eq_true rfl) q0 (fun _ h => h) rfl (tyX7_ok 0 (Nat.le_of_ble_eq_true rfl)) rfl rfl (Nat.le_of_ble_eq_true rfl) (pu1_0 _ _) e_S1 dX7_comes_94 (fun H locs hW hS => ?_)
    exact z_v hf hx hb hr hF hW hS dX7_comes_97 hlocks
  have w54 : ∀ (n54 : Nat) (S : ST) (v3 : Int32) , f_X7_comes_b54 E n54 S v3 = some SS → ∀ (H : Heap) (locs : List Loc) (ls : Array Slot), WH G B E S H → va_S (AA G) s.heap H locs → lv_has ls 4 [(0, .ref (B 1 0)), (3, .int v3)] → W p l e (headSpec wsX7_comes (rmN 1)).room s m [.ref (B 1 0), .int a1, .int a2].toArray below meth c H locs 0 0 (MQ below (QV G B E SS) [.ref (B 1 0), .int a1, .int a2].toArray s 0 0 (AA G)) (F0 m 54 ls []) := by
    intro n54
    induction n54 with
    | zero =>
      intro S v3 hf
      exact absurd (show (none : Option ST) = some SS from hf) (fun h => by cases h)
    | succ n54 ih54 =>
      have w80 : ∀ (S : ST) (v3 : Int32) (t0 : Int32) (t1 : Int32) , f_X7_comes_b80 E (f_X7_comes_b54 E n54) S v3 t0 t1 = some SS → ∀ (H : Heap) (locs : List Loc) (ls : Array Slot), WH G B E S H → va_S (AA G) s.heap H locs → lv_has ls 4 [(0, .ref (B 1 0)), (3, .int v3)] → W p l e (headSpec wsX7_comes (rmN 1)).room s m [.ref (B 1 0), .int a1, .int a2].toArray below meth c H locs 0 0 (MQ below (QV G B E SS) [.ref (B 1 0), .int a1, .int a2].toArray s 0 0 (AA G)) (F0 m 80 ls [.int t0, .int t1, .ref (B 45 0)]) := by
        intro S v3 t0 t1 hf H locs ls hW hS hl
        unfold f_X7_comes_b80 at hf
        obtain ⟨hi_2, hf⟩ := ck_out hf
        have hi_2 := ib_in hi_2
        obtain ⟨S3, e_S3, hf⟩ := lt_out hf
        refine x_iast hx hb hK hW hS (c45 hE) (fun f r => e45 _ _ _ f _ r) hi_2 (jn := t1.toNatClampNeg) rfl e_S3 dX7_comes_80 (fun H locs hW hS => ?_)
        obtain ⟨x4, e_x4, hf⟩ := lt_out hf
        refine lv_iinc (v := x4) (lv' := [(3, .int x4), (0, .ref (B 1 0))]) hx hb dX7_comes_81 hl (k := 1) rfl (by rw [e_x4]; rfl) (by decide) rfl (fun ls hl => ?_)
        refine lv_goto (tgt := 54) hx hb dX7_comes_84 (by decide) ?_
        exact ih54 S3 x4  hf _ _ _ hW hS (lv_sub hl [1, 0] rfl)
      intro S v3 hf H locs ls hW hS hl
      have hf : g_X7_comes_b54 E (f_X7_comes_b54 E n54) S v3 = some SS := hf
      unfold g_X7_comes_b54 at hf
      refine lv_iload_n hx hb dX7_comes_54 rfl (lv_at hl 1 rfl) ?_
      refine lv_iconst (v := 5) hx hb dX7_comes_55 rfl ?_
      refine lv_icmp_ge (tgt := 87) hx hb dX7_comes_56 (by decide) (fun h => ?_) (fun h => ?_)
      · have hf := if_t h hf
        exact w87 S  hf _ _ _ hW hS (lv_sub hl [0] rfl)
      · have hf := if_f h hf
        refine lv_aload_n hx hb dX7_comes_59 rfl (lv_at hl 0 rfl) ?_
        refine x_get hx hb hts hi7 hown hK hW (c1 hE) (e1 _ _ _ _ _ _) rfl 5 (Nat.le_of_ble_eq_true rfl) q1 (fun _ h => h) (v := .ref (B 45 0)) rfl dX7_comes_60 ?_
        refine lv_iconst (v := 5) hx hb dX7_comes_63 rfl ?_
        refine lv_aload_n hx hb dX7_comes_64 rfl (lv_at hl 0 rfl) ?_
        refine x_get hx hb hts hi7 hown hK hW (c1 hE) (e1 _ _ _ _ _ _) rfl 0 (Nat.le_of_ble_eq_true rfl) q0 (fun _ h => h) (v := .int (gI S 1 0 0)) rfl dX7_comes_65 ?_
        refine lv_imul hx hb dX7_comes_68 ?_
        refine lv_iload_n hx hb dX7_comes_69 rfl (lv_at hl 1 rfl) ?_
        refine lv_iadd hx hb dX7_comes_70 ?_
        refine lv_iload_n hx hb dX7_comes_71 rfl (lv_at hl 1 rfl) ?_
        refine lv_if_ne (tgt := 79) hx hb dX7_comes_72 (by decide) (fun h => ?_) (fun h => ?_)
        · have hf := if_f h hf
          refine lv_iconst (v := 0) hx hb dX7_comes_79 rfl ?_
          exact w80 S v3 (0 : Int32) (((5 : Int32) * (gI S 1 0 0)) + v3)  hf _ _ _ hW hS (lv_sub hl [0, 1] rfl)
        · have hf := if_t h hf
          refine lv_iconst (v := 1) hx hb dX7_comes_75 rfl ?_
          refine lv_goto (tgt := 80) hx hb dX7_comes_76 (by decide) ?_
          exact w80 S v3 (1 : Int32) (((5 : Int32) * (gI S 1 0 0)) + v3)  hf _ _ _ hW hS (lv_sub hl [0, 1] rfl)
  unfold f_X7_comes at hf
  refine lv_aload_n hx hb dX7_comes_0 rfl (lv_at hl 0 rfl) ?_
  refine x_get hx hb hts hi7 hown hK hW (c1 hE) (e1 _ _ _ _ _ _) rfl 1 (Nat.le_of_ble_eq_true rfl) q2 (fun _ h => h) (v := .ref (B 41 0)) rfl dX7_comes_1 ?_
  refine lv_aload_n hx hb dX7_comes_4 rfl (lv_at hl 0 rfl) ?_
  refine x_get hx hb hts hi7 hown hK hW (c1 hE) (e1 _ _ _ _ _ _) rfl 0 (Nat.le_of_ble_eq_true rfl) q0 (fun _ h => h) (v := .int (gI S 1 0 0)) rfl dX7_comes_5 ?_
  refine lv_iload_n hx hb dX7_comes_8 rfl (lv_at hl 1 rfl) ?_
  obtain ⟨hi_5, hf⟩ := ck_out hf
  have hi_5 := ib_in hi_5
  obtain ⟨S6, e_S6, hf⟩ := lt_out hf
  refine x_iast hx hb hK hW hS (c41 hE) (fun f r => e41 _ _ _ f _ r) hi_5 (jn := (gI S 1 0 0).toNatClampNeg) rfl e_S6 dX7_comes_9 (fun H locs hW hS => ?_)
  refine lv_aload_n hx hb dX7_comes_10 rfl (lv_at hl 0 rfl) ?_
  refine x_get hx hb hts hi7 hown hK hW (c1 hE) (e1 _ _ _ _ _ _) rfl 2 (Nat.le_of_ble_eq_true rfl) q3 (fun _ h => h) (v := .ref (B 42 0)) rfl dX7_comes_11 ?_
  refine lv_aload_n hx hb dX7_comes_14 rfl (lv_at hl 0 rfl) ?_
  refine x_get hx hb hts hi7 hown hK hW (c1 hE) (e1 _ _ _ _ _ _) rfl 0 (Nat.le_of_ble_eq_true rfl) q0 (fun _ h => h) (v := .int (gI S6 1 0 0)) rfl dX7_comes_15 ?_
  refine lv_iload_n hx hb dX7_comes_18 rfl (lv_at hl 2 rfl) ?_
  refine lv_bipush (v := 100) hx hb dX7_comes_19 (by decide) ?_
  refine lv_idiv hx hb dX7_comes_21 (by decide) ?_
  obtain ⟨hi_7, hf⟩ := ck_out hf
  have hi_7 := ib_in hi_7
  obtain ⟨S8, e_S8, hf⟩ := lt_out hf
  refine x_iast hx hb hK hW hS (c42 hE) (fun f r => e42 _ _ _ f _ r) hi_7 (jn := (gI S6 1 0 0).toNatClampNeg) rfl e_S8 dX7_comes_22 (fun H locs hW hS => ?_)
  refine lv_aload_n hx hb dX7_comes_23 rfl (lv_at hl 0 rfl) ?_
  refine x_get hx hb hts hi7 hown hK hW (c1 hE) (e1 _ _ _ _ _ _) rfl 3 (Nat.le_of_ble_eq_true rfl) q4 (fun _ h => h) (v := .ref (B 43 0)) rfl dX7_comes_24 ?_
  refine lv_aload_n hx hb dX7_comes_27 rfl (lv_at hl 0 rfl) ?_
  refine x_get hx hb hts hi7 hown hK hW (c1 hE) (e1 _ _ _ _ _ _) rfl 0 (Nat.le_of_ble_eq_true rfl) q0 (fun _ h => h) (v := .int (gI S8 1 0 0)) rfl dX7_comes_28 ?_
  refine lv_iload_n hx hb dX7_comes_31 rfl (lv_at hl 2 rfl) ?_
  refine lv_bipush (v := 10) hx hb dX7_comes_32 (by decide) ?_
  refine lv_idiv hx hb dX7_comes_34 (by decide) ?_
  refine lv_bipush (v := 10) hx hb dX7_comes_35 (by decide) ?_
  refine x_irem hx hb dX7_comes_37 (by decide) ?_
  obtain ⟨hi_9, hf⟩ := ck_out hf
  have hi_9 := ib_in hi_9
  obtain ⟨S10, e_S10, hf⟩ := lt_out hf
  refine x_iast hx hb hK hW hS (c43 hE) (fun f r => e43 _ _ _ f _ r) hi_9 (jn := (gI S8 1 0 0).toNatClampNeg) rfl e_S10 dX7_comes_38 (fun H locs hW hS => ?_)
  refine lv_aload_n hx hb dX7_comes_39 rfl (lv_at hl 0 rfl) ?_
  refine x_get hx hb hts hi7 hown hK hW (c1 hE) (e1 _ _ _ _ _ _) rfl 4 (Nat.le_of_ble_eq_true rfl) q5 (fun _ h => h) (v := .ref (B 44 0)) rfl dX7_comes_40 ?_
  refine lv_aload_n hx hb dX7_comes_43 rfl (lv_at hl 0 rfl) ?_
  refine x_get hx hb hts hi7 hown hK hW (c1 hE) (e1 _ _ _ _ _ _) rfl 0 (Nat.le_of_ble_eq_true rfl) q0 (fun _ h => h) (v := .int (gI S10 1 0 0)) rfl dX7_comes_44 ?_
  refine lv_iload_n hx hb dX7_comes_47 rfl (lv_at hl 2 rfl) ?_
  refine lv_bipush (v := 10) hx hb dX7_comes_48 (by decide) ?_
  refine x_irem hx hb dX7_comes_50 (by decide) ?_
  obtain ⟨hi_11, hf⟩ := ck_out hf
  have hi_11 := ib_in hi_11
  obtain ⟨S12, e_S12, hf⟩ := lt_out hf
  refine x_iast hx hb hK hW hS (c44 hE) (fun f r => e44 _ _ _ f _ r) hi_11 (jn := (gI S10 1 0 0).toNatClampNeg) rfl e_S12 dX7_comes_51 (fun H locs hW hS => ?_)
  refine lv_iconst (v := 0) hx hb dX7_comes_52 rfl ?_
  refine lv_istore_n (lv' := [(3, .int (0 : Int32)), (0, .ref (B 1 0)), (1, .int a1), (2, .int a2)]) hx hb dX7_comes_53 rfl hl (by decide) rfl (fun ls hl => ?_)
  exact w54 E.1 S12 (0 : Int32)  hf _ _ _ hW hS (lv_sub hl [1, 0] rfl)
set_option maxHeartbeats 4000000 in
set_option maxRecDepth 100000 in
theorem m_X7_pupil (l : Launch) (G : GE) (B : Nat → Nat → Nat) (E : EN) (hE : 0 < E.2.2.2)  (S : ST) (a1 : Int32) (a2 : Int32) (rr : Int32) (SS : ST) (hf : f_X7_pupil E S a1 a2 = some (rr, SS)) : Met l yX7_pupil wsX7_pupil (rmN 3) (va_Pc [.ref (B 1 0), .int a1, .int a2] (WS G B E S)) (QI G B E SS rr) 0 0 (AA G) := by
  refine Met.ofW (cc := cX7_pupil) (maxL := 3) (ret := (some .int)) (by decide) rfl ?_
  intro p e s m args below meth c s₁ B0 hml hv
  obtain ⟨rfl, hW, hF⟩ := hv
  have hx := B0.exec
  have hb := B0.bytes
  have hr := B0.returns
  have hts := atoms_spec (ws := wsX7_pupil) B0.pre
  have hown : s.vm.findClass RX7 = some m.cls := findClass_of_methodNamed B0.named
  have hlocks := B0.notSynchronized
  have hK := hF.1
  have hfix : CallFix p m c cX7_pupil 3 s [.ref (B 1 0), .int a1, .int a2].toArray wsX7_pupil RX7 := ⟨hx, hb, hml, hown, hts⟩
  have hS : va_S (AA G) s.heap s.heap [] := va_S.rf
  have hl := lv_entry [.ref (B 1 0), .int a1, .int a2] (n := 3) (Nat.le_of_ble_eq_true rfl)
  rw [lg_entry_eq]
  generalize (lg_sl [.ref (B 1 0), .int a1, .int a2] ++ List.replicate (3 - (lg_sl [.ref (B 1 0), .int a1, .int a2]).length) Slot.unset).toArray = ls at hl ⊢
  have hl : lv_has ls 3 [(0, .ref (B 1 0)), (1, .int a1), (2, .int a2)] := hl
  have q0 := hts (.fieldLink RX7 1 "MovesUpModel" "pupils" "I") (List.mem_of_getElem? (i := 1) rfl)
  have hi7 : ∀ w ∈ u_ws RX7 TX7 47, w ∈ wsX7_pupil := in_seg 20 rfl
  unfold f_X7_pupil at hf
  refine lv_aload_n hx hb dX7_pupil_0 rfl (lv_at hl 0 rfl) ?_
  refine lv_iload_n hx hb dX7_pupil_1 rfl (lv_at hl 1 rfl) ?_
  refine lv_iload_n hx hb dX7_pupil_2 rfl (lv_at hl 2 rfl) ?_
  obtain ⟨r1, hc, hf⟩ := bd_out hf
  refine y_i (va_runV (As := [.int a1, .int a2]) (rest := []) hfix (m_X7_isNew l G B E hE S a1 a2 r1 hc) (cwV 2 hts gX7_pupil_X7_isNew rfl rfl rfl ⟨rfl, hd_X7_isNew⟩ ⟨Nat.le_of_ble_eq_true rfl, Nat.le_of_ble_eq_true rfl⟩) (y_pv hF hW hS (c1 hE) (e1 _ _ _ _ _ _) rfl) rfl rfl hl.1 rfl (lv_room (Nat.le_of_ble_eq_true rfl)) dX7_pupil_3 ⟨Nat.le_of_ble_eq_true rfl, Nat.le_of_ble_eq_true rfl⟩) hS (fun H locs hW hS => ?_)
  refine lv_if_ne (tgt := 12) hx hb dX7_pupil_6 (by decide) (fun h => ?_) (fun h => ?_)
  · have hf := if_f h hf
    refine lv_aload_n hx hb dX7_pupil_12 rfl (lv_at hl 0 rfl) ?_
    refine x_get hx hb hts hi7 hown hK hW (c1 hE) (e1 _ _ _ _ _ _) rfl 0 (Nat.le_of_ble_eq_true rfl) q0 (fun _ h => h) (v := .int (gI S 1 0 0)) rfl dX7_pupil_13 ?_
    refine lv_bipush (v := 8) hx hb dX7_pupil_16 (by decide) ?_
    refine lv_icmp_ne (tgt := 24) hx hb dX7_pupil_18 (by decide) (fun h => ?_) (fun h => ?_)
    · have hf := if_f h hf
      refine lv_aload_n hx hb dX7_pupil_24 rfl (lv_at hl 0 rfl) ?_
      refine lv_iload_n hx hb dX7_pupil_25 rfl (lv_at hl 1 rfl) ?_
      refine lv_iload_n hx hb dX7_pupil_26 rfl (lv_at hl 2 rfl) ?_
      obtain ⟨S2, hc, hf⟩ := bd_out hf
      refine y_v (va_runV (As := [.int a1, .int a2]) (rest := []) hfix (m_X7_comes l G B E hE S a1 a2 S2 hc) (cwV 2 hts gX7_pupil_X7_comes rfl rfl rfl ⟨rfl, hd_X7_comes⟩ ⟨Nat.le_of_ble_eq_true rfl, Nat.le_of_ble_eq_true rfl⟩) (y_pv hF hW hS (c1 hE) (e1 _ _ _ _ _ _) rfl) rfl rfl hl.1 rfl (lv_room (Nat.le_of_ble_eq_true rfl)) dX7_pupil_27 ⟨Nat.le_of_ble_eq_true rfl, Nat.le_of_ble_eq_true rfl⟩) hS (fun H locs hW hS => ?_)
      refine lv_aload_n hx hb dX7_pupil_30 rfl (lv_at hl 0 rfl) ?_
      refine x_get hx hb hts hi7 hown hK hW (c1 hE) (e1 _ _ _ _ _ _) rfl 0 (Nat.le_of_ble_eq_true rfl) q0 (fun _ h => h) (v := .int (gI S2 1 0 0)) rfl dX7_pupil_31 ?_
      refine lv_iconst (v := 1) hx hb dX7_pupil_34 rfl ?_
      refine lv_isub hx hb dX7_pupil_35 ?_
      exact z_i hf hx hb hr rfl hF hW hS dX7_pupil_36 hlocks
    · have hf := if_t h hf
      refine lv_bipush (v := -4) hx hb dX7_pupil_21 (by decide) ?_
      exact z_i hf hx hb hr rfl hF hW hS dX7_pupil_23 hlocks
  · have hf := if_t h hf
    refine lv_bipush (v := -2) hx hb dX7_pupil_9 (by decide) ?_
    exact z_i hf hx hb hr rfl hF hW hS dX7_pupil_11 hlocks
set_option maxHeartbeats 4000000 in
set_option maxRecDepth 100000 in
theorem m_X7_sumOf (l : Launch) (G : GE) (B : Nat → Nat → Nat) (E : EN) (hE : 0 < E.2.2.2)  (S : ST) (a1 : Int32) (rr : Int32) (hf : f_X7_sumOf E S a1 = some rr) : Met l yX7_sumOf wsX7_sumOf (rmN 1) (va_Pc [.ref (B 1 0), .int a1] (WS G B E S)) (QI G B E S rr) 0 0 (AA G) := by
  refine Met.ofW (cc := cX7_sumOf) (maxL := 4) (ret := (some .int)) (by decide) rfl ?_
  intro p e s m args below meth c s₁ B0 hml hv
  obtain ⟨rfl, hW, hF⟩ := hv
  have hx := B0.exec
  have hb := B0.bytes
  have hr := B0.returns
  have hts := atoms_spec (ws := wsX7_sumOf) B0.pre
  have hown : s.vm.findClass RX7 = some m.cls := findClass_of_methodNamed B0.named
  have hlocks := B0.notSynchronized
  have hK := hF.1
  have hfix : CallFix p m c cX7_sumOf 4 s [.ref (B 1 0), .int a1].toArray wsX7_sumOf RX7 := ⟨hx, hb, hml, hown, hts⟩
  have hS : va_S (AA G) s.heap s.heap [] := va_S.rf
  have hl := lv_entry [.ref (B 1 0), .int a1] (n := 4) (Nat.le_of_ble_eq_true rfl)
  rw [lg_entry_eq]
  generalize (lg_sl [.ref (B 1 0), .int a1] ++ List.replicate (4 - (lg_sl [.ref (B 1 0), .int a1]).length) Slot.unset).toArray = ls at hl ⊢
  have hl : lv_has ls 4 [(0, .ref (B 1 0)), (1, .int a1)] := hl
  have q0 := hts (.fieldLink RX7 24 "MovesUpModel" "weight" "[I") (List.mem_of_getElem? (i := 1) rfl)
  have hi7 : ∀ w ∈ u_ws RX7 TX7 47, w ∈ wsX7_sumOf := in_seg 2 rfl
  have w4 : ∀ (n4 : Nat) (_ : Unit) (v1 : Int32) (v2 : Int32) (v3 : Int32) , f_X7_sumOf_b4 E n4 S v1 v2 v3 = some rr → ∀ (H : Heap) (locs : List Loc) (ls : Array Slot), WH G B E S H → va_S (AA G) s.heap H locs → lv_has ls 4 [(0, .ref (B 1 0)), (1, .int v1), (2, .int v2), (3, .int v3)] → W p l e (headSpec wsX7_sumOf (rmN 1)).room s m [.ref (B 1 0), .int a1].toArray below meth c H locs 0 0 (MQ below (QI G B E S rr) [.ref (B 1 0), .int a1].toArray s 0 0 (AA G)) (F0 m 4 ls []) := by
    intro n4
    induction n4 with
    | zero =>
      intro _ v1 v2 v3 hf
      exact absurd (show (none : Option Int32) = some rr from hf) (fun h => by cases h)
    | succ n4 ih4 =>
      intro _ v1 v2 v3 hf H locs ls hW hS hl
      have hf : g_X7_sumOf_b4 E (f_X7_sumOf_b4 E n4) S v1 v2 v3 = some rr := hf
      unfold g_X7_sumOf_b4 at hf
      refine lv_iload_n hx hb dX7_sumOf_4 rfl (lv_at hl 3 rfl) ?_
      refine lv_iconst (v := 5) hx hb dX7_sumOf_5 rfl ?_
      refine lv_icmp_ge (tgt := 28) hx hb dX7_sumOf_6 (by decide) (fun h => ?_) (fun h => ?_)
      · have hf := if_t h hf
        refine lv_iload_n hx hb dX7_sumOf_28 rfl (lv_at hl 2 rfl) ?_
        exact zr_i hf hx hb hr rfl hF hW hS dX7_sumOf_29 hlocks
      · have hf := if_f h hf
        refine lv_iload_n hx hb dX7_sumOf_9 rfl (lv_at hl 2 rfl) ?_
        refine lv_aload_n hx hb dX7_sumOf_10 rfl (lv_at hl 0 rfl) ?_
        refine x_get hx hb hts hi7 hown hK hW (c1 hE) (e1 _ _ _ _ _ _) rfl 5 (Nat.le_of_ble_eq_true rfl) q0 (fun _ h => h) (v := .ref (B 45 0)) rfl dX7_sumOf_11 ?_
        refine lv_iconst (v := 5) hx hb dX7_sumOf_14 rfl ?_
        refine lv_iload_n hx hb dX7_sumOf_15 rfl (lv_at hl 1 rfl) ?_
        refine lv_imul hx hb dX7_sumOf_16 ?_
        refine lv_iload_n hx hb dX7_sumOf_17 rfl (lv_at hl 3 rfl) ?_
        refine lv_iadd hx hb dX7_sumOf_18 ?_
        obtain ⟨hi_1, hf⟩ := ck_out hf
        have hi_1 := ib_in hi_1
        refine x_iald hx hb hK hW (c45 hE) (e45 _ _ _ _ _ _) hi_1 (jn := (((5 : Int32) * v1) + v3).toNatClampNeg) rfl dX7_sumOf_19 ?_
        refine lv_iadd hx hb dX7_sumOf_20 ?_
        obtain ⟨x2, e_x2, hf⟩ := lt_out hf
        refine x_nmI e_x2 ?_
        refine lv_istore_n (lv' := [(2, .int x2), (0, .ref (B 1 0)), (1, .int v1), (3, .int v3)]) hx hb dX7_sumOf_21 rfl hl (by decide) rfl (fun ls hl => ?_)
        obtain ⟨x3, e_x3, hf⟩ := lt_out hf
        refine lv_iinc (v := x3) (lv' := [(3, .int x3), (2, .int x2), (0, .ref (B 1 0)), (1, .int v1)]) hx hb dX7_sumOf_22 hl (k := 3) rfl (by rw [e_x3]; rfl) (by decide) rfl (fun ls hl => ?_)
        refine lv_goto (tgt := 4) hx hb dX7_sumOf_25 (by decide) ?_
        exact ih4 () v1 x2 x3  hf _ _ _ hW hS (lv_sub hl [2, 3, 1, 0] rfl)
  unfold f_X7_sumOf at hf
  refine lv_iconst (v := 0) hx hb dX7_sumOf_0 rfl ?_
  refine lv_istore_n (lv' := [(2, .int (0 : Int32)), (0, .ref (B 1 0)), (1, .int a1)]) hx hb dX7_sumOf_1 rfl hl (by decide) rfl (fun ls hl => ?_)
  refine lv_iconst (v := 0) hx hb dX7_sumOf_2 rfl ?_
  refine lv_istore_n (lv' := [(3, .int (0 : Int32)), (2, .int (0 : Int32)), (0, .ref (B 1 0)), (1, .int a1)]) hx hb dX7_sumOf_3 rfl hl (by decide) rfl (fun ls hl => ?_)
  exact w4 E.1 () a1 (0 : Int32) (0 : Int32)  hf _ _ _ hW hS (lv_sub hl [2, 3, 1, 0] rfl)
set_option maxHeartbeats 4000000 in
set_option maxRecDepth 100000 in
theorem m_X7_weigh (l : Launch) (G : GE) (B : Nat → Nat → Nat) (E : EN) (hE : 0 < E.2.2.2)  (S : ST) (a1 : Int32) (a2 : Int32) (rr : Int32) (SS : ST) (hf : f_X7_weigh E S a1 a2 = some (rr, SS)) : Met l yX7_weigh wsX7_weigh (rmN 3) (va_Pc [.ref (B 1 0), .int a1, .int a2] (WS G B E S)) (QI G B E SS rr) 0 0 (AA G) := by
  refine Met.ofW (cc := cX7_weigh) (maxL := 6) (ret := (some .int)) (by decide) rfl ?_
  intro p e s m args below meth c s₁ B0 hml hv
  obtain ⟨rfl, hW, hF⟩ := hv
  have hx := B0.exec
  have hb := B0.bytes
  have hr := B0.returns
  have hts := atoms_spec (ws := wsX7_weigh) B0.pre
  have hown : s.vm.findClass RX7 = some m.cls := findClass_of_methodNamed B0.named
  have hlocks := B0.notSynchronized
  have hK := hF.1
  have hfix : CallFix p m c cX7_weigh 6 s [.ref (B 1 0), .int a1, .int a2].toArray wsX7_weigh RX7 := ⟨hx, hb, hml, hown, hts⟩
  have hS : va_S (AA G) s.heap s.heap [] := va_S.rf
  have hl := lv_entry [.ref (B 1 0), .int a1, .int a2] (n := 6) (Nat.le_of_ble_eq_true rfl)
  rw [lg_entry_eq]
  generalize (lg_sl [.ref (B 1 0), .int a1, .int a2] ++ List.replicate (6 - (lg_sl [.ref (B 1 0), .int a1, .int a2]).length) Slot.unset).toArray = ls at hl ⊢
  have hl : lv_has ls 6 [(0, .ref (B 1 0)), (1, .int a1), (2, .int a2)] := hl
  have q0 := hts (.fieldLink RX7 24 "MovesUpModel" "weight" "[I") (List.mem_of_getElem? (i := 2) rfl)
  have q1 := hts (.constant RX7 39 (99999)) (List.mem_of_getElem? (i := 1) rfl)
  have hi7 : ∀ w ∈ u_ws RX7 TX7 47, w ∈ wsX7_weigh := in_seg 17 rfl
  have w34 : ∀ (n34 : Nat) (S : ST) (v1 : Int32) (v3 : Int32) (v4 : Int32) (v5 : Int32) , f_X7_weigh_b34 E n34 S v1 v3 v4 v5 = some (rr, SS) → ∀ (H : Heap) (locs : List Loc) (ls : Array Slot), WH G B E S H → va_S (AA G) s.heap H locs → lv_has ls 6 [(0, .ref (B 1 0)), (1, .int v1), (3, .int v3), (4, .int v4), (5, .int v5)] → W p l e (headSpec wsX7_weigh (rmN 3)).room s m [.ref (B 1 0), .int a1, .int a2].toArray below meth c H locs 0 0 (MQ below (QI G B E SS rr) [.ref (B 1 0), .int a1, .int a2].toArray s 0 0 (AA G)) (F0 m 34 ls []) := by
    intro n34
    induction n34 with
    | zero =>
      intro S v1 v3 v4 v5 hf
      exact absurd (show (none : Option (Int32 × ST)) = some (rr, SS) from hf) (fun h => by cases h)
    | succ n34 ih34 =>
      intro S v1 v3 v4 v5 hf H locs ls hW hS hl
      have hf : g_X7_weigh_b34 E (f_X7_weigh_b34 E n34) S v1 v3 v4 v5 = some (rr, SS) := hf
      unfold g_X7_weigh_b34 at hf
      refine lv_iload hx hb dX7_weigh_34 (lv_at hl 4 rfl) ?_
      refine lv_iconst (v := 5) hx hb dX7_weigh_36 rfl ?_
      refine lv_icmp_ge (tgt := 69) hx hb dX7_weigh_37 (by decide) (fun h => ?_) (fun h => ?_)
      · have hf := if_t h hf
        refine lv_iload_n hx hb dX7_weigh_69 rfl (lv_at hl 2 rfl) ?_
        exact z_i hf hx hb hr rfl hF hW hS dX7_weigh_70 hlocks
      · have hf := if_f h hf
        refine lv_aload_n hx hb dX7_weigh_40 rfl (lv_at hl 0 rfl) ?_
        refine x_get hx hb hts hi7 hown hK hW (c1 hE) (e1 _ _ _ _ _ _) rfl 5 (Nat.le_of_ble_eq_true rfl) q0 (fun _ h => h) (v := .ref (B 45 0)) rfl dX7_weigh_41 ?_
        refine lv_iconst (v := 5) hx hb dX7_weigh_44 rfl ?_
        refine lv_iload_n hx hb dX7_weigh_45 rfl (lv_at hl 1 rfl) ?_
        refine lv_imul hx hb dX7_weigh_46 ?_
        refine lv_iload hx hb dX7_weigh_47 (lv_at hl 4 rfl) ?_
        refine lv_iadd hx hb dX7_weigh_49 ?_
        refine lv_iload hx hb dX7_weigh_50 (lv_at hl 3 rfl) ?_
        refine lv_bipush (v := 10) hx hb dX7_weigh_52 (by decide) ?_
        refine x_irem hx hb dX7_weigh_54 (by decide) ?_
        obtain ⟨hi_1, hf⟩ := ck_out hf
        have hi_1 := ib_in hi_1
        obtain ⟨S2, e_S2, hf⟩ := lt_out hf
        refine x_iast hx hb hK hW hS (c45 hE) (fun f r => e45 _ _ _ f _ r) hi_1 (jn := (((5 : Int32) * v1) + v5).toNatClampNeg) rfl e_S2 dX7_weigh_55 (fun H locs hW hS => ?_)
        refine lv_iload hx hb dX7_weigh_56 (lv_at hl 3 rfl) ?_
        refine lv_bipush (v := 10) hx hb dX7_weigh_58 (by decide) ?_
        refine lv_idiv hx hb dX7_weigh_60 (by decide) ?_
        obtain ⟨x3, e_x3, hf⟩ := lt_out hf
        refine x_nmI e_x3 ?_
        refine lv_istore (lv' := [(4, .int x3), (0, .ref (B 1 0)), (1, .int v1), (3, .int v3), (5, .int v5)]) hx hb dX7_weigh_61 hl (by decide) rfl (fun ls hl => ?_)
        obtain ⟨x4, e_x4, hf⟩ := lt_out hf
        refine lv_iinc (v := x4) (lv' := [(5, .int x4), (4, .int x3), (0, .ref (B 1 0)), (1, .int v1), (3, .int v3)]) hx hb dX7_weigh_63 hl (k := 4) rfl (by rw [e_x4]; rfl) (by decide) rfl (fun ls hl => ?_)
        refine lv_goto (tgt := 34) hx hb dX7_weigh_66 (by decide) ?_
        exact ih34 S2 v1 v3 x3 x4  hf _ _ _ hW hS (lv_sub hl [2, 3, 4, 1, 0] rfl)
  unfold f_X7_weigh at hf
  refine lv_aload_n hx hb dX7_weigh_0 rfl (lv_at hl 0 rfl) ?_
  refine lv_iload_n hx hb dX7_weigh_1 rfl (lv_at hl 1 rfl) ?_
  obtain ⟨r5, hc, hf⟩ := bd_out hf
  refine y_i (va_runV (As := [.int a1]) (rest := []) hfix (m_X7_isPupil l G B E hE S a1 r5 hc) (cwV 1 hts gX7_weigh_X7_isPupil rfl rfl rfl ⟨rfl, hd_X7_isPupil⟩ ⟨Nat.le_of_ble_eq_true rfl, Nat.le_of_ble_eq_true rfl⟩) (y_pv hF hW hS (c1 hE) (e1 _ _ _ _ _ _) rfl) rfl rfl hl.1 rfl (lv_room (Nat.le_of_ble_eq_true rfl)) dX7_weigh_2 ⟨Nat.le_of_ble_eq_true rfl, Nat.le_of_ble_eq_true rfl⟩) hS (fun H locs hW hS => ?_)
  refine lv_if_eq (tgt := 19) hx hb dX7_weigh_5 (by decide) (fun h => ?_) (fun h => ?_)
  · have hf := if_t h hf
    refine lv_bipush (v := -2) hx hb dX7_weigh_19 (by decide) ?_
    exact z_i hf hx hb hr rfl hF hW hS dX7_weigh_21 hlocks
  · have hf := if_f h hf
    refine lv_aload_n hx hb dX7_weigh_8 rfl (lv_at hl 0 rfl) ?_
    refine lv_iload_n hx hb dX7_weigh_9 rfl (lv_at hl 2 rfl) ?_
    refine lv_iconst (v := 1) hx hb dX7_weigh_10 rfl ?_
    refine lv_ldc hx hb hown q1 dX7_weigh_11 ?_
    obtain ⟨r6, hc, hf⟩ := bd_out hf
    refine y_i (va_runV (As := [.int a2, .int (1 : Int32), .int (99999 : Int32)]) (rest := []) hfix (m_X7_in l G B E hE S a2 (1 : Int32) (99999 : Int32) r6 hc) (cwV 3 hts gX7_weigh_X7_in rfl rfl rfl ⟨rfl, hd_X7_in⟩ ⟨Nat.le_of_ble_eq_true rfl, Nat.le_of_ble_eq_true rfl⟩) (y_pv hF hW hS (c1 hE) (e1 _ _ _ _ _ _) rfl) rfl rfl hl.1 rfl (lv_room (Nat.le_of_ble_eq_true rfl)) dX7_weigh_13 ⟨Nat.le_of_ble_eq_true rfl, Nat.le_of_ble_eq_true rfl⟩) hS (fun H locs hW hS => ?_)
    refine lv_if_ne (tgt := 22) hx hb dX7_weigh_16 (by decide) (fun h => ?_) (fun h => ?_)
    · have hf := if_f h hf
      refine lv_aload_n hx hb dX7_weigh_22 rfl (lv_at hl 0 rfl) ?_
      refine lv_iload_n hx hb dX7_weigh_23 rfl (lv_at hl 1 rfl) ?_
      obtain ⟨r7, hc, hf⟩ := bd_out hf
      refine y_i (va_runV (As := [.int a1]) (rest := []) hfix (m_X7_sumOf l G B E hE S a1 r7 hc) (cwV 1 hts gX7_weigh_X7_sumOf rfl rfl rfl ⟨rfl, hd_X7_sumOf⟩ ⟨Nat.le_of_ble_eq_true rfl, Nat.le_of_ble_eq_true rfl⟩) (y_pv hF hW hS (c1 hE) (e1 _ _ _ _ _ _) rfl) rfl rfl hl.1 rfl (lv_room (Nat.le_of_ble_eq_true rfl)) dX7_weigh_24 ⟨Nat.le_of_ble_eq_true rfl, Nat.le_of_ble_eq_true rfl⟩) hS (fun H locs hW hS => ?_)
      refine lv_istore_n (lv' := [(3, .int r7), (0, .ref (B 1 0)), (1, .int a1), (2, .int a2)]) hx hb dX7_weigh_27 rfl hl (by decide) rfl (fun ls hl => ?_)
      refine lv_iload_n hx hb dX7_weigh_28 rfl (lv_at hl 3 rfl) ?_
      refine lv_istore (lv' := [(4, .int a2), (3, .int r7), (0, .ref (B 1 0)), (1, .int a1), (2, .int a2)]) hx hb dX7_weigh_29 hl (by decide) rfl (fun ls hl => ?_)
      refine lv_iconst (v := 0) hx hb dX7_weigh_31 rfl ?_
      refine lv_istore (lv' := [(5, .int (0 : Int32)), (4, .int a2), (3, .int r7), (0, .ref (B 1 0)), (1, .int a1), (2, .int a2)]) hx hb dX7_weigh_32 hl (by decide) rfl (fun ls hl => ?_)
      exact w34 E.1 S a1 r7 a2 (0 : Int32)  hf _ _ _ hW hS (lv_sub hl [3, 4, 2, 1, 0] rfl)
    · have hf := if_t h hf
      refine lv_bipush (v := -2) hx hb dX7_weigh_19 (by decide) ?_
      exact z_i hf hx hb hr rfl hF hW hS dX7_weigh_21 hlocks
set_option maxHeartbeats 4000000 in
set_option maxRecDepth 100000 in
theorem m_X7_told (l : Launch) (G : GE) (B : Nat → Nat → Nat) (E : EN) (hE : 0 < E.2.2.2)  (S : ST) (a1 : Int32) (a2 : Int32) (rr : Int32) (hf : f_X7_told E S a1 a2 = some rr) : Met l yX7_told wsX7_told (rmN 3) (va_Pc [.ref (B 1 0), .int a1, .int a2] (WS G B E S)) (QI G B E S rr) 0 0 (AA G) := by
  refine Met.ofW (cc := cX7_told) (maxL := 3) (ret := (some .int)) (by decide) rfl ?_
  intro p e s m args below meth c s₁ B0 hml hv
  obtain ⟨rfl, hW, hF⟩ := hv
  have hx := B0.exec
  have hb := B0.bytes
  have hr := B0.returns
  have hts := atoms_spec (ws := wsX7_told) B0.pre
  have hown : s.vm.findClass RX7 = some m.cls := findClass_of_methodNamed B0.named
  have hlocks := B0.notSynchronized
  have hK := hF.1
  have hfix : CallFix p m c cX7_told 3 s [.ref (B 1 0), .int a1, .int a2].toArray wsX7_told RX7 := ⟨hx, hb, hml, hown, hts⟩
  have hS : va_S (AA G) s.heap s.heap [] := va_S.rf
  have hl := lv_entry [.ref (B 1 0), .int a1, .int a2] (n := 3) (Nat.le_of_ble_eq_true rfl)
  rw [lg_entry_eq]
  generalize (lg_sl [.ref (B 1 0), .int a1, .int a2] ++ List.replicate (3 - (lg_sl [.ref (B 1 0), .int a1, .int a2]).length) Slot.unset).toArray = ls at hl ⊢
  have hl : lv_has ls 3 [(0, .ref (B 1 0)), (1, .int a1), (2, .int a2)] := hl
  have q0 := hts (.fieldLink RX7 11 "MovesUpModel" "kind" "[I") (List.mem_of_getElem? (i := 1) rfl)
  have q1 := hts (.fieldLink RX7 15 "MovesUpModel" "grade" "[I") (List.mem_of_getElem? (i := 2) rfl)
  have q2 := hts (.fieldLink RX7 18 "MovesUpModel" "kin" "[I") (List.mem_of_getElem? (i := 3) rfl)
  have q3 := hts (.fieldLink RX7 21 "MovesUpModel" "number" "[I") (List.mem_of_getElem? (i := 4) rfl)
  have q4 := hts (.fieldLink RX7 24 "MovesUpModel" "weight" "[I") (List.mem_of_getElem? (i := 5) rfl)
  have hi7 : ∀ w ∈ u_ws RX7 TX7 47, w ∈ wsX7_told := in_seg 16 rfl
  unfold f_X7_told at hf
  refine lv_aload_n hx hb dX7_told_0 rfl (lv_at hl 0 rfl) ?_
  refine lv_iload_n hx hb dX7_told_1 rfl (lv_at hl 1 rfl) ?_
  obtain ⟨r1, hc, hf⟩ := bd_out hf
  refine y_i (va_runV (As := [.int a1]) (rest := []) hfix (m_X7_isPupil l G B E hE S a1 r1 hc) (cwV 1 hts gX7_told_X7_isPupil rfl rfl rfl ⟨rfl, hd_X7_isPupil⟩ ⟨Nat.le_of_ble_eq_true rfl, Nat.le_of_ble_eq_true rfl⟩) (y_pv hF hW hS (c1 hE) (e1 _ _ _ _ _ _) rfl) rfl rfl hl.1 rfl (lv_room (Nat.le_of_ble_eq_true rfl)) dX7_told_2 ⟨Nat.le_of_ble_eq_true rfl, Nat.le_of_ble_eq_true rfl⟩) hS (fun H locs hW hS => ?_)
  refine lv_if_eq (tgt := 19) hx hb dX7_told_5 (by decide) (fun h => ?_) (fun h => ?_)
  · have hf := if_t h hf
    refine lv_bipush (v := -5) hx hb dX7_told_19 (by decide) ?_
    exact zr_i hf hx hb hr rfl hF hW hS dX7_told_21 hlocks
  · have hf := if_f h hf
    refine lv_aload_n hx hb dX7_told_8 rfl (lv_at hl 0 rfl) ?_
    refine lv_iload_n hx hb dX7_told_9 rfl (lv_at hl 2 rfl) ?_
    refine lv_iconst (v := 0) hx hb dX7_told_10 rfl ?_
    refine lv_bipush (v := 8) hx hb dX7_told_11 (by decide) ?_
    obtain ⟨r2, hc, hf⟩ := bd_out hf
    refine y_i (va_runV (As := [.int a2, .int (0 : Int32), .int (8 : Int32)]) (rest := []) hfix (m_X7_in l G B E hE S a2 (0 : Int32) (8 : Int32) r2 hc) (cwV 3 hts gX7_told_X7_in rfl rfl rfl ⟨rfl, hd_X7_in⟩ ⟨Nat.le_of_ble_eq_true rfl, Nat.le_of_ble_eq_true rfl⟩) (y_pv hF hW hS (c1 hE) (e1 _ _ _ _ _ _) rfl) rfl rfl hl.1 rfl (lv_room (Nat.le_of_ble_eq_true rfl)) dX7_told_13 ⟨Nat.le_of_ble_eq_true rfl, Nat.le_of_ble_eq_true rfl⟩) hS (fun H locs hW hS => ?_)
    refine lv_if_ne (tgt := 22) hx hb dX7_told_16 (by decide) (fun h => ?_) (fun h => ?_)
    · have hf := if_f h hf
      refine lv_iload_n hx hb dX7_told_22 rfl (lv_at hl 2 rfl) ?_
      by_cases hn0 : a2 = (0 : Int32)
      · have hf := if_t hn0 hf
        refine lv_tableIn hx hb dX7_told_23 (by rw [hn0]; decide) (by rw [hn0]; decide) (off := 29) (by rw [hn0]; rfl) (tgt := 52) (by decide) ?_
        refine lv_aload_n hx hb dX7_told_52 rfl (lv_at hl 0 rfl) ?_
        refine x_get hx hb hts hi7 hown hK hW (c1 hE) (e1 _ _ _ _ _ _) rfl 1 (Nat.le_of_ble_eq_true rfl) q0 (fun _ h => h) (v := .ref (B 41 0)) rfl dX7_told_53 ?_
        refine lv_iload_n hx hb dX7_told_56 rfl (lv_at hl 1 rfl) ?_
        obtain ⟨hi_3, hf⟩ := ck_out hf
        have hi_3 := ib_in hi_3
        refine x_iald hx hb hK hW (c41 hE) (e41 _ _ _ _ _ _) hi_3 (jn := a1.toNatClampNeg) rfl dX7_told_57 ?_
        exact zr_i hf hx hb hr rfl hF hW hS dX7_told_58 hlocks
      · have hf := if_f hn0 hf
        by_cases hn1 : a2 = (1 : Int32)
        · have hf := if_t hn1 hf
          refine lv_tableIn hx hb dX7_told_23 (by rw [hn1]; decide) (by rw [hn1]; decide) (off := 36) (by rw [hn1]; rfl) (tgt := 59) (by decide) ?_
          refine lv_aload_n hx hb dX7_told_59 rfl (lv_at hl 0 rfl) ?_
          refine x_get hx hb hts hi7 hown hK hW (c1 hE) (e1 _ _ _ _ _ _) rfl 2 (Nat.le_of_ble_eq_true rfl) q1 (fun _ h => h) (v := .ref (B 42 0)) rfl dX7_told_60 ?_
          refine lv_iload_n hx hb dX7_told_63 rfl (lv_at hl 1 rfl) ?_
          obtain ⟨hi_4, hf⟩ := ck_out hf
          have hi_4 := ib_in hi_4
          refine x_iald hx hb hK hW (c42 hE) (e42 _ _ _ _ _ _) hi_4 (jn := a1.toNatClampNeg) rfl dX7_told_64 ?_
          exact zr_i hf hx hb hr rfl hF hW hS dX7_told_65 hlocks
        · have hf := if_f hn1 hf
          by_cases hn2 : a2 = (2 : Int32)
          · have hf := if_t hn2 hf
            refine lv_tableIn hx hb dX7_told_23 (by rw [hn2]; decide) (by rw [hn2]; decide) (off := 43) (by rw [hn2]; rfl) (tgt := 66) (by decide) ?_
            refine lv_aload_n hx hb dX7_told_66 rfl (lv_at hl 0 rfl) ?_
            refine x_get hx hb hts hi7 hown hK hW (c1 hE) (e1 _ _ _ _ _ _) rfl 3 (Nat.le_of_ble_eq_true rfl) q2 (fun _ h => h) (v := .ref (B 43 0)) rfl dX7_told_67 ?_
            refine lv_iload_n hx hb dX7_told_70 rfl (lv_at hl 1 rfl) ?_
            obtain ⟨hi_5, hf⟩ := ck_out hf
            have hi_5 := ib_in hi_5
            refine x_iald hx hb hK hW (c43 hE) (e43 _ _ _ _ _ _) hi_5 (jn := a1.toNatClampNeg) rfl dX7_told_71 ?_
            exact zr_i hf hx hb hr rfl hF hW hS dX7_told_72 hlocks
          · have hf := if_f hn2 hf
            by_cases hn3 : a2 = (3 : Int32)
            · have hf := if_t hn3 hf
              refine lv_tableIn hx hb dX7_told_23 (by rw [hn3]; decide) (by rw [hn3]; decide) (off := 50) (by rw [hn3]; rfl) (tgt := 73) (by decide) ?_
              refine lv_aload_n hx hb dX7_told_73 rfl (lv_at hl 0 rfl) ?_
              refine x_get hx hb hts hi7 hown hK hW (c1 hE) (e1 _ _ _ _ _ _) rfl 4 (Nat.le_of_ble_eq_true rfl) q3 (fun _ h => h) (v := .ref (B 44 0)) rfl dX7_told_74 ?_
              refine lv_iload_n hx hb dX7_told_77 rfl (lv_at hl 1 rfl) ?_
              obtain ⟨hi_6, hf⟩ := ck_out hf
              have hi_6 := ib_in hi_6
              refine x_iald hx hb hK hW (c44 hE) (e44 _ _ _ _ _ _) hi_6 (jn := a1.toNatClampNeg) rfl dX7_told_78 ?_
              exact zr_i hf hx hb hr rfl hF hW hS dX7_told_79 hlocks
            · have hf := if_f hn3 hf
              refine lv_tableOut hx hb dX7_told_23 (tb_out (by decide) (by decide) (fun k h1 h2 => ?_)) (tgt := 80) (by decide) ?_
              · have hk : k = 0 ∨ k = 1 ∨ k = 2 ∨ k = 3 := by omega
                rcases hk with rfl | rfl | rfl | rfl
                · exact fun q => hn0 (q.trans (by decide))
                · exact fun q => hn1 (q.trans (by decide))
                · exact fun q => hn2 (q.trans (by decide))
                · exact fun q => hn3 (q.trans (by decide))
              · refine lv_aload_n hx hb dX7_told_80 rfl (lv_at hl 0 rfl) ?_
                refine x_get hx hb hts hi7 hown hK hW (c1 hE) (e1 _ _ _ _ _ _) rfl 5 (Nat.le_of_ble_eq_true rfl) q4 (fun _ h => h) (v := .ref (B 45 0)) rfl dX7_told_81 ?_
                refine lv_iconst (v := 5) hx hb dX7_told_84 rfl ?_
                refine lv_iload_n hx hb dX7_told_85 rfl (lv_at hl 1 rfl) ?_
                refine lv_imul hx hb dX7_told_86 ?_
                refine lv_iload_n hx hb dX7_told_87 rfl (lv_at hl 2 rfl) ?_
                refine lv_iadd hx hb dX7_told_88 ?_
                refine lv_iconst (v := 4) hx hb dX7_told_89 rfl ?_
                refine lv_isub hx hb dX7_told_90 ?_
                obtain ⟨hi_7, hf⟩ := ck_out hf
                have hi_7 := ib_in hi_7
                refine x_iald hx hb hK hW (c45 hE) (e45 _ _ _ _ _ _) hi_7 (jn := ((((5 : Int32) * a1) + a2) - (4 : Int32)).toNatClampNeg) rfl dX7_told_91 ?_
                exact zr_i hf hx hb hr rfl hF hW hS dX7_told_92 hlocks
    · have hf := if_t h hf
      refine lv_bipush (v := -5) hx hb dX7_told_19 (by decide) ?_
      exact zr_i hf hx hb hr rfl hF hW hS dX7_told_21 hlocks
set_option maxHeartbeats 4000000 in
set_option maxRecDepth 100000 in
theorem m_X7_feed (l : Launch) (G : GE) (B : Nat → Nat → Nat) (E : EN) (hE : 0 < E.2.2.2)  (S : ST) (a1 : Int32) (a2 : Int64) (rr : Int32) (SS : ST) (hf : f_X7_feed E S a1 a2 = some (rr, SS)) : Met l yX7_feed wsX7_feed (rmN 2) (va_Pc [.ref (B 1 0), .int a1, .long a2] (WS G B E S)) (QI G B E SS rr) 0 0 (AA G) := by
  refine Met.ofW (cc := cX7_feed) (maxL := 5) (ret := (some .int)) (by decide) rfl ?_
  intro p e s m args below meth c s₁ B0 hml hv
  obtain ⟨rfl, hW, hF⟩ := hv
  have hx := B0.exec
  have hb := B0.bytes
  have hr := B0.returns
  have hts := atoms_spec (ws := wsX7_feed) B0.pre
  have hown : s.vm.findClass RX7 = some m.cls := findClass_of_methodNamed B0.named
  have hlocks := B0.notSynchronized
  have hK := hF.1
  have hfix : CallFix p m c cX7_feed 5 s [.ref (B 1 0), .int a1, .long a2].toArray wsX7_feed RX7 := ⟨hx, hb, hml, hown, hts⟩
  have hS : va_S (AA G) s.heap s.heap [] := va_S.rf
  have hl := lv_entry [.ref (B 1 0), .int a1, .long a2] (n := 5) (Nat.le_of_ble_eq_true rfl)
  rw [lg_entry_eq]
  generalize (lg_sl [.ref (B 1 0), .int a1, .long a2] ++ List.replicate (5 - (lg_sl [.ref (B 1 0), .int a1, .long a2]).length) Slot.unset).toArray = ls at hl ⊢
  have hl : lv_has ls 5 [(0, .ref (B 1 0)), (1, .int a1), (2, .long a2)] := hl
  have q0 := hts (.fieldLink RX7 56 "MovesUpModel" "fed" "I") (List.mem_of_getElem? (i := 1) rfl)
  have q1 := hts (.fieldLink RX7 80 "MovesUpModel" "tape" "[I") (List.mem_of_getElem? (i := 2) rfl)
  have q2 := hts (.constantLong RX7 180 (255)) (List.mem_of_getElem? (i := 3) rfl)
  have hi7 : ∀ w ∈ u_ws RX7 TX7 47, w ∈ wsX7_feed := in_seg 9 rfl
  have w75 : ∀ (S : ST)  , f_X7_feed_b75 E S  = some (rr, SS) → ∀ (H : Heap) (locs : List Loc) (ls : Array Slot), WH G B E S H → va_S (AA G) s.heap H locs → lv_has ls 5 [(0, .ref (B 1 0))] → W p l e (headSpec wsX7_feed (rmN 2)).room s m [.ref (B 1 0), .int a1, .long a2].toArray below meth c H locs 0 0 (MQ below (QI G B E SS rr) [.ref (B 1 0), .int a1, .long a2].toArray s 0 0 (AA G)) (F0 m 75 ls []) := by
    intro S  hf H locs ls hW hS hl
    unfold f_X7_feed_b75 at hf
    refine lv_aload_n hx hb dX7_feed_75 rfl (lv_at hl 0 rfl) ?_
    refine x_get hx hb hts hi7 hown hK hW (c1 hE) (e1 _ _ _ _ _ _) rfl 8 (Nat.le_of_ble_eq_true rfl) q0 (fun _ h => h) (v := .int (gI S 1 0 8)) rfl dX7_feed_76 ?_
    exact z_i hf hx hb hr rfl hF hW hS dX7_feed_79 hlocks
  have w32 : ∀ (n32 : Nat) (S : ST) (v1 : Int32) (v2 : Int64) (v4 : Int32) , f_X7_feed_b32 E n32 S v1 v2 v4 = some (rr, SS) → ∀ (H : Heap) (locs : List Loc) (ls : Array Slot), WH G B E S H → va_S (AA G) s.heap H locs → lv_has ls 5 [(0, .ref (B 1 0)), (1, .int v1), (2, .long v2), (4, .int v4)] → W p l e (headSpec wsX7_feed (rmN 2)).room s m [.ref (B 1 0), .int a1, .long a2].toArray below meth c H locs 0 0 (MQ below (QI G B E SS rr) [.ref (B 1 0), .int a1, .long a2].toArray s 0 0 (AA G)) (F0 m 32 ls []) := by
    intro n32
    induction n32 with
    | zero =>
      intro S v1 v2 v4 hf
      exact absurd (show (none : Option (Int32 × ST)) = some (rr, SS) from hf) (fun h => by cases h)
    | succ n32 ih32 =>
      intro S v1 v2 v4 hf H locs ls hW hS hl
      have hf : g_X7_feed_b32 E (f_X7_feed_b32 E n32) S v1 v2 v4 = some (rr, SS) := hf
      unfold g_X7_feed_b32 at hf
      refine lv_iload hx hb dX7_feed_32 (lv_at hl 3 rfl) ?_
      refine lv_iload_n hx hb dX7_feed_34 rfl (lv_at hl 1 rfl) ?_
      refine lv_icmp_ge (tgt := 75) hx hb dX7_feed_35 (by decide) (fun h => ?_) (fun h => ?_)
      · have hf := if_t h hf
        exact w75 S  hf _ _ _ hW hS (lv_sub hl [0] rfl)
      · have hf := if_f h hf
        refine lv_aload_n hx hb dX7_feed_38 rfl (lv_at hl 0 rfl) ?_
        refine x_get hx hb hts hi7 hown hK hW (c1 hE) (e1 _ _ _ _ _ _) rfl 16 (Nat.le_of_ble_eq_true rfl) q1 (fun _ h => h) (v := .ref (B 56 0)) rfl dX7_feed_39 ?_
        refine lv_aload_n hx hb dX7_feed_42 rfl (lv_at hl 0 rfl) ?_
        refine x_get hx hb hts hi7 hown hK hW (c1 hE) (e1 _ _ _ _ _ _) rfl 8 (Nat.le_of_ble_eq_true rfl) q0 (fun _ h => h) (v := .int (gI S 1 0 8)) rfl dX7_feed_43 ?_
        refine lv_lload_n hx hb dX7_feed_46 rfl (lv_at hl 2 rfl) ?_
        refine lv_bipush (v := 8) hx hb dX7_feed_47 (by decide) ?_
        refine lv_iload hx hb dX7_feed_49 (lv_at hl 3 rfl) ?_
        refine lv_imul hx hb dX7_feed_51 ?_
        refine lv_lshr hx hb dX7_feed_52 rfl ?_
        refine lv_ldc2 hx hb hown q2 dX7_feed_53 ?_
        refine lv_land hx hb dX7_feed_56 ?_
        refine lv_l2i hx hb dX7_feed_57 rfl ?_
        obtain ⟨hi_1, hf⟩ := ck_out hf
        have hi_1 := ib_in hi_1
        obtain ⟨S2, e_S2, hf⟩ := lt_out hf
        refine x_iast hx hb hK hW hS (c56 hE) (fun f r => e56 _ _ _ f _ r) hi_1 (jn := (gI S 1 0 8).toNatClampNeg) rfl e_S2 dX7_feed_58 (fun H locs hW hS => ?_)
        refine lv_aload_n hx hb dX7_feed_59 rfl (lv_at hl 0 rfl) ?_
        refine lv_dup hx hb dX7_feed_60 rfl ?_
        refine x_get hx hb hts hi7 hown hK hW (c1 hE) (e1 _ _ _ _ _ _) rfl 8 (Nat.le_of_ble_eq_true rfl) q0 (fun _ h => h) (v := .int (gI S2 1 0 8)) rfl dX7_feed_61 ?_
        refine lv_iconst (v := 1) hx hb dX7_feed_64 rfl ?_
        refine lv_iadd hx hb dX7_feed_65 ?_
        obtain ⟨S3, e_S3, hf⟩ := lt_out hf
        refine x_putI hx hb hts hi7 tyX7 tyX7_ok nmX7 hown hK hW hS (c1 hE) (e1 _ _ _) rfl 8 (Nat.le_of_ble_eq_true rfl) q0 (fun _ h => h) rfl (tyX7_ok 8 (Nat.le_of_ble_eq_true rfl)) rfl rfl (Nat.le_of_ble_eq_true rfl) (pu1_8 _ _) e_S3 dX7_feed_66 (fun H locs hW hS => ?_)
        obtain ⟨x4, e_x4, hf⟩ := lt_out hf
        refine lv_iinc (v := x4) (lv' := [(4, .int x4), (0, .ref (B 1 0)), (1, .int v1), (2, .long v2)]) hx hb dX7_feed_69 hl (k := 3) rfl (by rw [e_x4]; rfl) (by decide) rfl (fun ls hl => ?_)
        refine lv_goto (tgt := 32) hx hb dX7_feed_72 (by decide) ?_
        exact ih32 S3 v1 v2 x4  hf _ _ _ hW hS (lv_sub hl [1, 2, 3, 0] rfl)
  unfold f_X7_feed at hf
  refine lv_aload_n hx hb dX7_feed_0 rfl (lv_at hl 0 rfl) ?_
  refine lv_iload_n hx hb dX7_feed_1 rfl (lv_at hl 1 rfl) ?_
  refine lv_iconst (v := 1) hx hb dX7_feed_2 rfl ?_
  refine lv_bipush (v := 8) hx hb dX7_feed_3 (by decide) ?_
  obtain ⟨r5, hc, hf⟩ := bd_out hf
  refine y_i (va_runV (As := [.int a1, .int (1 : Int32), .int (8 : Int32)]) (rest := []) hfix (m_X7_in l G B E hE S a1 (1 : Int32) (8 : Int32) r5 hc) (cwV 3 hts gX7_feed_X7_in rfl rfl rfl ⟨rfl, hd_X7_in⟩ ⟨Nat.le_of_ble_eq_true rfl, Nat.le_of_ble_eq_true rfl⟩) (y_pv hF hW hS (c1 hE) (e1 _ _ _ _ _ _) rfl) rfl rfl hl.1 rfl (lv_room (Nat.le_of_ble_eq_true rfl)) dX7_feed_5 ⟨Nat.le_of_ble_eq_true rfl, Nat.le_of_ble_eq_true rfl⟩) hS (fun H locs hW hS => ?_)
  refine lv_if_ne (tgt := 14) hx hb dX7_feed_8 (by decide) (fun h => ?_) (fun h => ?_)
  · have hf := if_f h hf
    refine lv_aload_n hx hb dX7_feed_14 rfl (lv_at hl 0 rfl) ?_
    refine x_get hx hb hts hi7 hown hK hW (c1 hE) (e1 _ _ _ _ _ _) rfl 8 (Nat.le_of_ble_eq_true rfl) q0 (fun _ h => h) (v := .int (gI S 1 0 8)) rfl dX7_feed_15 ?_
    refine lv_iload_n hx hb dX7_feed_18 rfl (lv_at hl 1 rfl) ?_
    refine lv_iadd hx hb dX7_feed_19 ?_
    refine lv_sipush (v := 160) hx hb dX7_feed_20 (by decide) ?_
    refine lv_icmp_le (tgt := 29) hx hb dX7_feed_23 (by decide) (fun h => ?_) (fun h => ?_)
    · have hf := if_t h hf
      refine lv_iconst (v := 0) hx hb dX7_feed_29 rfl ?_
      refine lv_istore (lv' := [(4, .int (0 : Int32)), (0, .ref (B 1 0)), (1, .int a1), (2, .long a2)]) hx hb dX7_feed_30 hl (by decide) rfl (fun ls hl => ?_)
      exact w32 E.1 S a1 a2 (0 : Int32)  hf _ _ _ hW hS (lv_sub hl [1, 2, 3, 0] rfl)
    · have hf := if_f h hf
      refine lv_bipush (v := -4) hx hb dX7_feed_26 (by decide) ?_
      exact z_i hf hx hb hr rfl hF hW hS dX7_feed_28 hlocks
  · have hf := if_t h hf
    refine lv_bipush (v := -2) hx hb dX7_feed_11 (by decide) ?_
    exact z_i hf hx hb hr rfl hF hW hS dX7_feed_13 hlocks
set_option maxHeartbeats 4000000 in
set_option maxRecDepth 100000 in
theorem m_X7_byteAt (l : Launch) (G : GE) (B : Nat → Nat → Nat) (E : EN) (hE : 0 < E.2.2.2)  (S : ST) (a1 : Int32) (rr : Int32) (hf : f_X7_byteAt E S a1 = some rr) : Met l yX7_byteAt wsX7_byteAt (rmN 1) (va_Pc [.ref (B 1 0), .int a1] (WS G B E S)) (QI G B E S rr) 0 0 (AA G) := by
  refine Met.ofW (cc := cX7_byteAt) (maxL := 2) (ret := (some .int)) (by decide) rfl ?_
  intro p e s m args below meth c s₁ B0 hml hv
  obtain ⟨rfl, hW, hF⟩ := hv
  have hx := B0.exec
  have hb := B0.bytes
  have hr := B0.returns
  have hts := atoms_spec (ws := wsX7_byteAt) B0.pre
  have hown : s.vm.findClass RX7 = some m.cls := findClass_of_methodNamed B0.named
  have hlocks := B0.notSynchronized
  have hK := hF.1
  have hfix : CallFix p m c cX7_byteAt 2 s [.ref (B 1 0), .int a1].toArray wsX7_byteAt RX7 := ⟨hx, hb, hml, hown, hts⟩
  have hS : va_S (AA G) s.heap s.heap [] := va_S.rf
  have hl := lv_entry [.ref (B 1 0), .int a1] (n := 2) (Nat.le_of_ble_eq_true rfl)
  rw [lg_entry_eq]
  generalize (lg_sl [.ref (B 1 0), .int a1] ++ List.replicate (2 - (lg_sl [.ref (B 1 0), .int a1]).length) Slot.unset).toArray = ls at hl ⊢
  have hl : lv_has ls 2 [(0, .ref (B 1 0)), (1, .int a1)] := hl
  have q0 := hts (.fieldLink RX7 56 "MovesUpModel" "fed" "I") (List.mem_of_getElem? (i := 1) rfl)
  have q1 := hts (.fieldLink RX7 80 "MovesUpModel" "tape" "[I") (List.mem_of_getElem? (i := 2) rfl)
  have hi7 : ∀ w ∈ u_ws RX7 TX7 47, w ∈ wsX7_byteAt := in_seg 3 rfl
  unfold f_X7_byteAt at hf
  refine lv_iload_n hx hb dX7_byteAt_0 rfl (lv_at hl 1 rfl) ?_
  refine lv_aload_n hx hb dX7_byteAt_1 rfl (lv_at hl 0 rfl) ?_
  refine x_get hx hb hts hi7 hown hK hW (c1 hE) (e1 _ _ _ _ _ _) rfl 8 (Nat.le_of_ble_eq_true rfl) q0 (fun _ h => h) (v := .int (gI S 1 0 8)) rfl dX7_byteAt_2 ?_
  refine lv_icmp_ge (tgt := 17) hx hb dX7_byteAt_5 (by decide) (fun h => ?_) (fun h => ?_)
  · have hf := if_t h hf
    refine lv_iconst (v := -1) hx hb dX7_byteAt_17 rfl ?_
    exact zr_i hf hx hb hr rfl hF hW hS dX7_byteAt_18 hlocks
  · have hf := if_f h hf
    refine lv_aload_n hx hb dX7_byteAt_8 rfl (lv_at hl 0 rfl) ?_
    refine x_get hx hb hts hi7 hown hK hW (c1 hE) (e1 _ _ _ _ _ _) rfl 16 (Nat.le_of_ble_eq_true rfl) q1 (fun _ h => h) (v := .ref (B 56 0)) rfl dX7_byteAt_9 ?_
    refine lv_iload_n hx hb dX7_byteAt_12 rfl (lv_at hl 1 rfl) ?_
    obtain ⟨hi_1, hf⟩ := ck_out hf
    have hi_1 := ib_in hi_1
    refine x_iald hx hb hK hW (c56 hE) (e56 _ _ _ _ _ _) hi_1 (jn := a1.toNatClampNeg) rfl dX7_byteAt_13 ?_
    refine lv_goto (tgt := 18) hx hb dX7_byteAt_14 (by decide) ?_
    exact zr_i hf hx hb hr rfl hF hW hS dX7_byteAt_18 hlocks
set_option maxHeartbeats 4000000 in
set_option maxRecDepth 100000 in
theorem m_X7_isLetter (l : Launch) (G : GE) (B : Nat → Nat → Nat) (E : EN) (hE : 0 < E.2.2.2)  (S : ST) (a1 : Int32) (rr : Int32) (hf : f_X7_isLetter E S a1 = some rr) : Met l yX7_isLetter wsX7_isLetter (rmN 2) (va_Pc [.ref (B 1 0), .int a1] (WS G B E S)) (QI G B E S rr) 0 0 (AA G) := by
  refine Met.ofW (cc := cX7_isLetter) (maxL := 2) (ret := (some .boolean)) (by decide) rfl ?_
  intro p e s m args below meth c s₁ B0 hml hv
  obtain ⟨rfl, hW, hF⟩ := hv
  have hx := B0.exec
  have hb := B0.bytes
  have hr := B0.returns
  have hts := atoms_spec (ws := wsX7_isLetter) B0.pre
  have hown : s.vm.findClass RX7 = some m.cls := findClass_of_methodNamed B0.named
  have hlocks := B0.notSynchronized
  have hK := hF.1
  have hfix : CallFix p m c cX7_isLetter 2 s [.ref (B 1 0), .int a1].toArray wsX7_isLetter RX7 := ⟨hx, hb, hml, hown, hts⟩
  have hS : va_S (AA G) s.heap s.heap [] := va_S.rf
  have hl := lv_entry [.ref (B 1 0), .int a1] (n := 2) (Nat.le_of_ble_eq_true rfl)
  rw [lg_entry_eq]
  generalize (lg_sl [.ref (B 1 0), .int a1] ++ List.replicate (2 - (lg_sl [.ref (B 1 0), .int a1]).length) Slot.unset).toArray = ls at hl ⊢
  have hl : lv_has ls 2 [(0, .ref (B 1 0)), (1, .int a1)] := hl
  unfold f_X7_isLetter at hf
  refine lv_aload_n hx hb dX7_isLetter_0 rfl (lv_at hl 0 rfl) ?_
  refine lv_iload_n hx hb dX7_isLetter_1 rfl (lv_at hl 1 rfl) ?_
  refine lv_bipush (v := 97) hx hb dX7_isLetter_2 (by decide) ?_
  refine lv_bipush (v := 122) hx hb dX7_isLetter_4 (by decide) ?_
  obtain ⟨r1, hc, hf⟩ := bd_out hf
  refine y_i (va_runV (As := [.int a1, .int (97 : Int32), .int (122 : Int32)]) (rest := []) hfix (m_X7_in l G B E hE S a1 (97 : Int32) (122 : Int32) r1 hc) (cwV 3 hts gX7_isLetter_X7_in rfl rfl rfl ⟨rfl, hd_X7_in⟩ ⟨Nat.le_of_ble_eq_true rfl, Nat.le_of_ble_eq_true rfl⟩) (y_pv hF hW hS (c1 hE) (e1 _ _ _ _ _ _) rfl) rfl rfl hl.1 rfl (lv_room (Nat.le_of_ble_eq_true rfl)) dX7_isLetter_6 ⟨Nat.le_of_ble_eq_true rfl, Nat.le_of_ble_eq_true rfl⟩) hS (fun H locs hW hS => ?_)
  obtain ⟨hb2, hf⟩ := ck_out hf
  exact zr_i hf hx hb hr (ob_n hb2) hF hW hS dX7_isLetter_9 hlocks
set_option maxHeartbeats 4000000 in
set_option maxRecDepth 100000 in
theorem m_X7_isDigit (l : Launch) (G : GE) (B : Nat → Nat → Nat) (E : EN) (hE : 0 < E.2.2.2)  (S : ST) (a1 : Int32) (rr : Int32) (hf : f_X7_isDigit E S a1 = some rr) : Met l yX7_isDigit wsX7_isDigit (rmN 2) (va_Pc [.ref (B 1 0), .int a1] (WS G B E S)) (QI G B E S rr) 0 0 (AA G) := by
  refine Met.ofW (cc := cX7_isDigit) (maxL := 2) (ret := (some .boolean)) (by decide) rfl ?_
  intro p e s m args below meth c s₁ B0 hml hv
  obtain ⟨rfl, hW, hF⟩ := hv
  have hx := B0.exec
  have hb := B0.bytes
  have hr := B0.returns
  have hts := atoms_spec (ws := wsX7_isDigit) B0.pre
  have hown : s.vm.findClass RX7 = some m.cls := findClass_of_methodNamed B0.named
  have hlocks := B0.notSynchronized
  have hK := hF.1
  have hfix : CallFix p m c cX7_isDigit 2 s [.ref (B 1 0), .int a1].toArray wsX7_isDigit RX7 := ⟨hx, hb, hml, hown, hts⟩
  have hS : va_S (AA G) s.heap s.heap [] := va_S.rf
  have hl := lv_entry [.ref (B 1 0), .int a1] (n := 2) (Nat.le_of_ble_eq_true rfl)
  rw [lg_entry_eq]
  generalize (lg_sl [.ref (B 1 0), .int a1] ++ List.replicate (2 - (lg_sl [.ref (B 1 0), .int a1]).length) Slot.unset).toArray = ls at hl ⊢
  have hl : lv_has ls 2 [(0, .ref (B 1 0)), (1, .int a1)] := hl
  unfold f_X7_isDigit at hf
  refine lv_aload_n hx hb dX7_isDigit_0 rfl (lv_at hl 0 rfl) ?_
  refine lv_iload_n hx hb dX7_isDigit_1 rfl (lv_at hl 1 rfl) ?_
  refine lv_bipush (v := 48) hx hb dX7_isDigit_2 (by decide) ?_
  refine lv_bipush (v := 57) hx hb dX7_isDigit_4 (by decide) ?_
  obtain ⟨r1, hc, hf⟩ := bd_out hf
  refine y_i (va_runV (As := [.int a1, .int (48 : Int32), .int (57 : Int32)]) (rest := []) hfix (m_X7_in l G B E hE S a1 (48 : Int32) (57 : Int32) r1 hc) (cwV 3 hts gX7_isDigit_X7_in rfl rfl rfl ⟨rfl, hd_X7_in⟩ ⟨Nat.le_of_ble_eq_true rfl, Nat.le_of_ble_eq_true rfl⟩) (y_pv hF hW hS (c1 hE) (e1 _ _ _ _ _ _) rfl) rfl rfl hl.1 rfl (lv_room (Nat.le_of_ble_eq_true rfl)) dX7_isDigit_6 ⟨Nat.le_of_ble_eq_true rfl, Nat.le_of_ble_eq_true rfl⟩) hS (fun H locs hW hS => ?_)
  obtain ⟨hb2, hf⟩ := ck_out hf
  exact zr_i hf hx hb hr (ob_n hb2) hF hW hS dX7_isDigit_9 hlocks
set_option maxHeartbeats 4000000 in
set_option maxRecDepth 100000 in
theorem m_X7_isKey (l : Launch) (G : GE) (B : Nat → Nat → Nat) (E : EN) (hE : 0 < E.2.2.2)  (S : ST) (a1 : Int32) (rr : Int32) (hf : f_X7_isKey E S a1 = some rr) : Met l yX7_isKey wsX7_isKey (rmN 1) (va_Pc [.ref (B 1 0), .int a1] (WS G B E S)) (QI G B E S rr) 0 0 (AA G) := by
  refine Met.ofW (cc := cX7_isKey) (maxL := 2) (ret := (some .boolean)) (by decide) rfl ?_
  intro p e s m args below meth c s₁ B0 hml hv
  obtain ⟨rfl, hW, hF⟩ := hv
  have hx := B0.exec
  have hb := B0.bytes
  have hr := B0.returns
  have hts := atoms_spec (ws := wsX7_isKey) B0.pre
  have hown : s.vm.findClass RX7 = some m.cls := findClass_of_methodNamed B0.named
  have hlocks := B0.notSynchronized
  have hK := hF.1
  have hfix : CallFix p m c cX7_isKey 2 s [.ref (B 1 0), .int a1].toArray wsX7_isKey RX7 := ⟨hx, hb, hml, hown, hts⟩
  have hS : va_S (AA G) s.heap s.heap [] := va_S.rf
  have hl := lv_entry [.ref (B 1 0), .int a1] (n := 2) (Nat.le_of_ble_eq_true rfl)
  rw [lg_entry_eq]
  generalize (lg_sl [.ref (B 1 0), .int a1] ++ List.replicate (2 - (lg_sl [.ref (B 1 0), .int a1]).length) Slot.unset).toArray = ls at hl ⊢
  have hl : lv_has ls 2 [(0, .ref (B 1 0)), (1, .int a1)] := hl
  have q0 := hts (.constant RX7 200 (12748366)) (List.mem_of_getElem? (i := 1) rfl)
  have q1 := hts (.constant RX7 201 (19176724)) (List.mem_of_getElem? (i := 2) rfl)
  have w40 : ∀ (_ : Unit)  , f_X7_isKey_b40 E S  = some rr → ∀ (H : Heap) (locs : List Loc) (ls : Array Slot), WH G B E S H → va_S (AA G) s.heap H locs → lv_has ls 2 [] → W p l e (headSpec wsX7_isKey (rmN 1)).room s m [.ref (B 1 0), .int a1].toArray below meth c H locs 0 0 (MQ below (QI G B E S rr) [.ref (B 1 0), .int a1].toArray s 0 0 (AA G)) (F0 m 40 ls []) := by
    intro _  hf H locs ls hW hS hl
    unfold f_X7_isKey_b40 at hf
    refine lv_iconst (v := 1) hx hb dX7_isKey_40 rfl ?_
    refine lv_goto (tgt := 45) hx hb dX7_isKey_41 (by decide) ?_
    exact zr_i hf hx hb hr rfl hF hW hS dX7_isKey_45 hlocks
  unfold f_X7_isKey at hf
  refine lv_iload_n hx hb dX7_isKey_0 rfl (lv_at hl 1 rfl) ?_
  refine lv_ldc hx hb hown q0 dX7_isKey_1 ?_
  refine lv_icmp_eq (tgt := 40) hx hb dX7_isKey_3 (by decide) (fun h => ?_) (fun h => ?_)
  · have hf := if_t h hf
    exact w40 ()  hf _ _ _ hW hS (lv_sub hl [] rfl)
  · have hf := if_f h hf
    refine lv_iload_n hx hb dX7_isKey_6 rfl (lv_at hl 1 rfl) ?_
    refine lv_ldc hx hb hown q1 dX7_isKey_7 ?_
    refine lv_icmp_eq (tgt := 40) hx hb dX7_isKey_9 (by decide) (fun h => ?_) (fun h => ?_)
    · have hf := if_t h hf
      exact w40 ()  hf _ _ _ hW hS (lv_sub hl [] rfl)
    · have hf := if_f h hf
      refine lv_iload_n hx hb dX7_isKey_12 rfl (lv_at hl 1 rfl) ?_
      refine lv_sipush (v := 5572) hx hb dX7_isKey_13 (by decide) ?_
      refine lv_icmp_eq (tgt := 40) hx hb dX7_isKey_16 (by decide) (fun h => ?_) (fun h => ?_)
      · have hf := if_t h hf
        exact w40 ()  hf _ _ _ hW hS (lv_sub hl [] rfl)
      · have hf := if_f h hf
        refine lv_iload_n hx hb dX7_isKey_19 rfl (lv_at hl 1 rfl) ?_
        refine lv_sipush (v := 498) hx hb dX7_isKey_20 (by decide) ?_
        refine lv_icmp_eq (tgt := 40) hx hb dX7_isKey_23 (by decide) (fun h => ?_) (fun h => ?_)
        · have hf := if_t h hf
          exact w40 ()  hf _ _ _ hW hS (lv_sub hl [] rfl)
        · have hf := if_f h hf
          refine lv_iload_n hx hb dX7_isKey_26 rfl (lv_at hl 1 rfl) ?_
          refine lv_sipush (v := 1476) hx hb dX7_isKey_27 (by decide) ?_
          refine lv_icmp_eq (tgt := 40) hx hb dX7_isKey_30 (by decide) (fun h => ?_) (fun h => ?_)
          · have hf := if_t h hf
            exact w40 ()  hf _ _ _ hW hS (lv_sub hl [] rfl)
          · have hf := if_f h hf
            refine lv_iload_n hx hb dX7_isKey_33 rfl (lv_at hl 1 rfl) ?_
            refine lv_sipush (v := 14836) hx hb dX7_isKey_34 (by decide) ?_
            refine lv_icmp_ne (tgt := 44) hx hb dX7_isKey_37 (by decide) (fun h => ?_) (fun h => ?_)
            · have hf := if_f h hf
              refine lv_iconst (v := 0) hx hb dX7_isKey_44 rfl ?_
              exact zr_i hf hx hb hr rfl hF hW hS dX7_isKey_45 hlocks
            · have hf := if_t h hf
              exact w40 ()  hf _ _ _ hW hS (lv_sub hl [] rfl)
set_option maxHeartbeats 4000000 in
set_option maxRecDepth 100000 in
theorem m_X7_nameOf (l : Launch) (G : GE) (B : Nat → Nat → Nat) (E : EN) (hE : 0 < E.2.2.2)  (S : ST) (a1 : Int32) (rr : Int32) (hf : f_X7_nameOf E S a1 = some rr) : Met l yX7_nameOf wsX7_nameOf (rmN 1) (va_Pc [.ref (B 1 0), .int a1] (WS G B E S)) (QI G B E S rr) 0 0 (AA G) := by
  refine Met.ofW (cc := cX7_nameOf) (maxL := 2) (ret := (some .int)) (by decide) rfl ?_
  intro p e s m args below meth c s₁ B0 hml hv
  obtain ⟨rfl, hW, hF⟩ := hv
  have hx := B0.exec
  have hb := B0.bytes
  have hr := B0.returns
  have hts := atoms_spec (ws := wsX7_nameOf) B0.pre
  have hown : s.vm.findClass RX7 = some m.cls := findClass_of_methodNamed B0.named
  have hlocks := B0.notSynchronized
  have hK := hF.1
  have hfix : CallFix p m c cX7_nameOf 2 s [.ref (B 1 0), .int a1].toArray wsX7_nameOf RX7 := ⟨hx, hb, hml, hown, hts⟩
  have hS : va_S (AA G) s.heap s.heap [] := va_S.rf
  have hl := lv_entry [.ref (B 1 0), .int a1] (n := 2) (Nat.le_of_ble_eq_true rfl)
  rw [lg_entry_eq]
  generalize (lg_sl [.ref (B 1 0), .int a1] ++ List.replicate (2 - (lg_sl [.ref (B 1 0), .int a1]).length) Slot.unset).toArray = ls at hl ⊢
  have hl : lv_has ls 2 [(0, .ref (B 1 0)), (1, .int a1)] := hl
  have q0 := hts (.constant RX7 202 (643248)) (List.mem_of_getElem? (i := 1) rfl)
  have q1 := hts (.constant RX7 203 (3540595)) (List.mem_of_getElem? (i := 2) rfl)
  have q2 := hts (.constant RX7 204 (758955)) (List.mem_of_getElem? (i := 3) rfl)
  have q3 := hts (.constant RX7 205 (638548)) (List.mem_of_getElem? (i := 4) rfl)
  have q4 := hts (.constant RX7 206 (14145700)) (List.mem_of_getElem? (i := 5) rfl)
  have q5 := hts (.constant RX7 207 (398548)) (List.mem_of_getElem? (i := 6) rfl)
  unfold f_X7_nameOf at hf
  refine lv_iload_n hx hb dX7_nameOf_0 rfl (lv_at hl 1 rfl) ?_
  refine lv_ldc hx hb hown q0 dX7_nameOf_1 ?_
  refine lv_icmp_ne (tgt := 10) hx hb dX7_nameOf_3 (by decide) (fun h => ?_) (fun h => ?_)
  · have hf := if_f h hf
    refine lv_iload_n hx hb dX7_nameOf_10 rfl (lv_at hl 1 rfl) ?_
    refine lv_ldc hx hb hown q1 dX7_nameOf_11 ?_
    refine lv_icmp_ne (tgt := 20) hx hb dX7_nameOf_13 (by decide) (fun h => ?_) (fun h => ?_)
    · have hf := if_f h hf
      refine lv_iload_n hx hb dX7_nameOf_20 rfl (lv_at hl 1 rfl) ?_
      refine lv_ldc hx hb hown q2 dX7_nameOf_21 ?_
      refine lv_icmp_ne (tgt := 30) hx hb dX7_nameOf_23 (by decide) (fun h => ?_) (fun h => ?_)
      · have hf := if_f h hf
        refine lv_iload_n hx hb dX7_nameOf_30 rfl (lv_at hl 1 rfl) ?_
        refine lv_ldc hx hb hown q3 dX7_nameOf_31 ?_
        refine lv_icmp_ne (tgt := 40) hx hb dX7_nameOf_33 (by decide) (fun h => ?_) (fun h => ?_)
        · have hf := if_f h hf
          refine lv_iload_n hx hb dX7_nameOf_40 rfl (lv_at hl 1 rfl) ?_
          refine lv_ldc hx hb hown q4 dX7_nameOf_41 ?_
          refine lv_icmp_ne (tgt := 50) hx hb dX7_nameOf_43 (by decide) (fun h => ?_) (fun h => ?_)
          · have hf := if_f h hf
            refine lv_iload_n hx hb dX7_nameOf_50 rfl (lv_at hl 1 rfl) ?_
            refine lv_ldc hx hb hown q5 dX7_nameOf_51 ?_
            refine lv_icmp_ne (tgt := 60) hx hb dX7_nameOf_53 (by decide) (fun h => ?_) (fun h => ?_)
            · have hf := if_f h hf
              refine lv_iconst (v := -1) hx hb dX7_nameOf_60 rfl ?_
              exact zr_i hf hx hb hr rfl hF hW hS dX7_nameOf_61 hlocks
            · have hf := if_t h hf
              refine lv_iconst (v := 5) hx hb dX7_nameOf_56 rfl ?_
              refine lv_goto (tgt := 61) hx hb dX7_nameOf_57 (by decide) ?_
              exact zr_i hf hx hb hr rfl hF hW hS dX7_nameOf_61 hlocks
          · have hf := if_t h hf
            refine lv_iconst (v := 4) hx hb dX7_nameOf_46 rfl ?_
            refine lv_goto (tgt := 61) hx hb dX7_nameOf_47 (by decide) ?_
            exact zr_i hf hx hb hr rfl hF hW hS dX7_nameOf_61 hlocks
        · have hf := if_t h hf
          refine lv_iconst (v := 3) hx hb dX7_nameOf_36 rfl ?_
          refine lv_goto (tgt := 61) hx hb dX7_nameOf_37 (by decide) ?_
          exact zr_i hf hx hb hr rfl hF hW hS dX7_nameOf_61 hlocks
      · have hf := if_t h hf
        refine lv_iconst (v := 2) hx hb dX7_nameOf_26 rfl ?_
        refine lv_goto (tgt := 61) hx hb dX7_nameOf_27 (by decide) ?_
        exact zr_i hf hx hb hr rfl hF hW hS dX7_nameOf_61 hlocks
    · have hf := if_t h hf
      refine lv_iconst (v := 1) hx hb dX7_nameOf_16 rfl ?_
      refine lv_goto (tgt := 61) hx hb dX7_nameOf_17 (by decide) ?_
      exact zr_i hf hx hb hr rfl hF hW hS dX7_nameOf_61 hlocks
  · have hf := if_t h hf
    refine lv_iconst (v := 0) hx hb dX7_nameOf_6 rfl ?_
    refine lv_goto (tgt := 61) hx hb dX7_nameOf_7 (by decide) ?_
    exact zr_i hf hx hb hr rfl hF hW hS dX7_nameOf_61 hlocks
set_option maxHeartbeats 4000000 in
set_option maxRecDepth 100000 in
theorem m_X7_look (l : Launch) (G : GE) (B : Nat → Nat → Nat) (E : EN) (hE : 0 < E.2.2.2)  (S : ST)  (SS : ST) (hf : f_X7_look E S = some SS) : Met l yX7_look wsX7_look (rmN 3) (va_Pc [.ref (B 1 0)] (WS G B E S)) (QV G B E SS) 0 0 (AA G) := by
  refine Met.ofW (cc := cX7_look) (maxL := 2) (ret := none) (by decide) rfl ?_
  intro p e s m args below meth c s₁ B0 hml hv
  obtain ⟨rfl, hW, hF⟩ := hv
  have hx := B0.exec
  have hb := B0.bytes
  have hr := B0.returns
  have hts := atoms_spec (ws := wsX7_look) B0.pre
  have hown : s.vm.findClass RX7 = some m.cls := findClass_of_methodNamed B0.named
  have hlocks := B0.notSynchronized
  have hK := hF.1
  have hfix : CallFix p m c cX7_look 2 s [.ref (B 1 0)].toArray wsX7_look RX7 := ⟨hx, hb, hml, hown, hts⟩
  have hS : va_S (AA G) s.heap s.heap [] := va_S.rf
  have hl := lv_entry [.ref (B 1 0)] (n := 2) (Nat.le_of_ble_eq_true rfl)
  rw [lg_entry_eq]
  generalize (lg_sl [.ref (B 1 0)] ++ List.replicate (2 - (lg_sl [.ref (B 1 0)]).length) Slot.unset).toArray = ls at hl ⊢
  have hl : lv_has ls 2 [(0, .ref (B 1 0))] := hl
  have q0 := hts (.fieldLink RX7 59 "MovesUpModel" "at" "I") (List.mem_of_getElem? (i := 1) rfl)
  have q1 := hts (.fieldLink RX7 62 "MovesUpModel" "token" "I") (List.mem_of_getElem? (i := 4) rfl)
  have q2 := hts (.fieldLink RX7 65 "MovesUpModel" "word" "I") (List.mem_of_getElem? (i := 3) rfl)
  have q3 := hts (.fieldLink RX7 68 "MovesUpModel" "size" "I") (List.mem_of_getElem? (i := 2) rfl)
  have hi7 : ∀ w ∈ u_ws RX7 TX7 47, w ∈ wsX7_look := in_seg 40 rfl
  have w379 : ∀ (S : ST) (t0 : Int32) , f_X7_look_b379 E S t0 = some SS → ∀ (H : Heap) (locs : List Loc) (ls : Array Slot), WH G B E S H → va_S (AA G) s.heap H locs → lv_has ls 2 [] → W p l e (headSpec wsX7_look (rmN 3)).room s m [.ref (B 1 0)].toArray below meth c H locs 0 0 (MQ below (QV G B E SS) [.ref (B 1 0)].toArray s 0 0 (AA G)) (F0 m 379 ls [.int t0, .ref (B 1 0)]) := by
    intro S t0 hf H locs ls hW hS hl
    unfold f_X7_look_b379 at hf
    obtain ⟨S2, e_S2, hf⟩ := lt_out hf
    refine x_putI hx hb hts hi7 tyX7 tyX7_ok nmX7 hown hK hW hS (c1 hE) (e1 _ _ _) rfl 10 (Nat.le_of_ble_eq_true rfl) q1 (fun _ h => h) rfl (tyX7_ok 10 (Nat.le_of_ble_eq_true rfl)) rfl rfl (Nat.le_of_ble_eq_true rfl) (pu1_10 _ _) e_S2 dX7_look_379 (fun H locs hW hS => ?_)
    exact z_v hf hx hb hr hF hW hS dX7_look_382 hlocks
  have w365 : ∀ (S : ST) (v1 : Int32) , f_X7_look_b365 E S v1 = some SS → ∀ (H : Heap) (locs : List Loc) (ls : Array Slot), WH G B E S H → va_S (AA G) s.heap H locs → lv_has ls 2 [(1, .int v1)] → W p l e (headSpec wsX7_look (rmN 3)).room s m [.ref (B 1 0)].toArray below meth c H locs 0 0 (MQ below (QV G B E SS) [.ref (B 1 0)].toArray s 0 0 (AA G)) (F0 m 365 ls [.ref (B 1 0)]) := by
    intro S v1 hf H locs ls hW hS hl
    unfold f_X7_look_b365 at hf
    refine lv_iload_n hx hb dX7_look_365 rfl (lv_at hl 0 rfl) ?_
    refine lv_goto (tgt := 379) hx hb dX7_look_366 (by decide) ?_
    exact w379 S v1  hf _ _ _ hW hS (lv_sub hl [] rfl)
  have w310 : ∀ (S : ST) (t0 : Int32) , f_X7_look_b310 E S t0 = some SS → ∀ (H : Heap) (locs : List Loc) (ls : Array Slot), WH G B E S H → va_S (AA G) s.heap H locs → lv_has ls 2 [] → W p l e (headSpec wsX7_look (rmN 3)).room s m [.ref (B 1 0)].toArray below meth c H locs 0 0 (MQ below (QV G B E SS) [.ref (B 1 0)].toArray s 0 0 (AA G)) (F0 m 310 ls [.int t0, .ref (B 1 0)]) := by
    intro S t0 hf H locs ls hW hS hl
    unfold f_X7_look_b310 at hf
    obtain ⟨S3, e_S3, hf⟩ := lt_out hf
    refine x_putI hx hb hts hi7 tyX7 tyX7_ok nmX7 hown hK hW hS (c1 hE) (e1 _ _ _) rfl 10 (Nat.le_of_ble_eq_true rfl) q1 (fun _ h => h) rfl (tyX7_ok 10 (Nat.le_of_ble_eq_true rfl)) rfl rfl (Nat.le_of_ble_eq_true rfl) (pu1_10 _ _) e_S3 dX7_look_310 (fun H locs hW hS => ?_)
    refine lv_goto (tgt := 382) hx hb dX7_look_313 (by decide) ?_
    exact z_v hf hx hb hr hF hW hS dX7_look_382 hlocks
  have w304 : ∀ (S : ST)  , f_X7_look_b304 E S  = some SS → ∀ (H : Heap) (locs : List Loc) (ls : Array Slot), WH G B E S H → va_S (AA G) s.heap H locs → lv_has ls 2 [] → W p l e (headSpec wsX7_look (rmN 3)).room s m [.ref (B 1 0)].toArray below meth c H locs 0 0 (MQ below (QV G B E SS) [.ref (B 1 0)].toArray s 0 0 (AA G)) (F0 m 304 ls [.ref (B 1 0)]) := by
    intro S  hf H locs ls hW hS hl
    unfold f_X7_look_b304 at hf
    refine lv_iconst (v := 2) hx hb dX7_look_304 rfl ?_
    refine lv_goto (tgt := 310) hx hb dX7_look_305 (by decide) ?_
    exact w310 S (2 : Int32)  hf _ _ _ hW hS (lv_sub hl [] rfl)
  have w278 : ∀ (S : ST) (t0 : Int32) , f_X7_look_b278 E S t0 = some SS → ∀ (H : Heap) (locs : List Loc) (ls : Array Slot), WH G B E S H → va_S (AA G) s.heap H locs → lv_has ls 2 [(0, .ref (B 1 0))] → W p l e (headSpec wsX7_look (rmN 3)).room s m [.ref (B 1 0)].toArray below meth c H locs 0 0 (MQ below (QV G B E SS) [.ref (B 1 0)].toArray s 0 0 (AA G)) (F0 m 278 ls [.int t0, .ref (B 1 0)]) := by
    intro S t0 hf H locs ls hW hS hl
    unfold f_X7_look_b278 at hf
    obtain ⟨S4, e_S4, hf⟩ := lt_out hf
    refine x_putI hx hb hts hi7 tyX7 tyX7_ok nmX7 hown hK hW hS (c1 hE) (e1 _ _ _) rfl 11 (Nat.le_of_ble_eq_true rfl) q2 (fun _ h => h) rfl (tyX7_ok 11 (Nat.le_of_ble_eq_true rfl)) rfl rfl (Nat.le_of_ble_eq_true rfl) (pu1_11 _ _) e_S4 dX7_look_278 (fun H locs hW hS => ?_)
    refine lv_aload_n hx hb dX7_look_281 rfl (lv_at hl 0 rfl) ?_
    refine lv_aload_n hx hb dX7_look_282 rfl (lv_at hl 0 rfl) ?_
    refine lv_aload_n hx hb dX7_look_283 rfl (lv_at hl 0 rfl) ?_
    refine x_get hx hb hts hi7 hown hK hW (c1 hE) (e1 _ _ _ _ _ _) rfl 11 (Nat.le_of_ble_eq_true rfl) q2 (fun _ h => h) (v := .int (gI S4 1 0 11)) rfl dX7_look_284 ?_
    obtain ⟨r5, hc, hf⟩ := bd_out hf
    refine y_i (va_runV (As := [.int (gI S4 1 0 11)]) (rest := [.ref (B 1 0)]) hfix (m_X7_nameOf l G B E hE S4 (gI S4 1 0 11) r5 hc) (cwV 1 hts gX7_look_X7_nameOf rfl rfl rfl ⟨rfl, hd_X7_nameOf⟩ ⟨Nat.le_of_ble_eq_true rfl, Nat.le_of_ble_eq_true rfl⟩) (y_pv hF hW hS (c1 hE) (e1 _ _ _ _ _ _) rfl) rfl rfl hl.1 rfl (lv_room (Nat.le_of_ble_eq_true rfl)) dX7_look_287 ⟨Nat.le_of_ble_eq_true rfl, Nat.le_of_ble_eq_true rfl⟩) hS (fun H locs hW hS => ?_)
    refine lv_if_ge (tgt := 304) hx hb dX7_look_290 (by decide) (fun h => ?_) (fun h => ?_)
    · have hf := if_t h hf
      exact w304 S4  hf _ _ _ hW hS (lv_sub hl [] rfl)
    · have hf := if_f h hf
      refine lv_aload_n hx hb dX7_look_293 rfl (lv_at hl 0 rfl) ?_
      refine lv_aload_n hx hb dX7_look_294 rfl (lv_at hl 0 rfl) ?_
      refine x_get hx hb hts hi7 hown hK hW (c1 hE) (e1 _ _ _ _ _ _) rfl 11 (Nat.le_of_ble_eq_true rfl) q2 (fun _ h => h) (v := .int (gI S4 1 0 11)) rfl dX7_look_295 ?_
      obtain ⟨r6, hc, hf⟩ := bd_out hf
      refine y_i (va_runV (As := [.int (gI S4 1 0 11)]) (rest := [.ref (B 1 0)]) hfix (m_X7_isKey l G B E hE S4 (gI S4 1 0 11) r6 hc) (cwV 1 hts gX7_look_X7_isKey rfl rfl rfl ⟨rfl, hd_X7_isKey⟩ ⟨Nat.le_of_ble_eq_true rfl, Nat.le_of_ble_eq_true rfl⟩) (y_pv hF hW hS (c1 hE) (e1 _ _ _ _ _ _) rfl) rfl rfl hl.1 rfl (lv_room (Nat.le_of_ble_eq_true rfl)) dX7_look_298 ⟨Nat.le_of_ble_eq_true rfl, Nat.le_of_ble_eq_true rfl⟩) hS (fun H locs hW hS => ?_)
      refine lv_if_eq (tgt := 308) hx hb dX7_look_301 (by decide) (fun h => ?_) (fun h => ?_)
      · have hf := if_t h hf
        refine lv_bipush (v := -2) hx hb dX7_look_308 (by decide) ?_
        exact w310 S4 (-2 : Int32)  hf _ _ _ hW hS (lv_sub hl [] rfl)
      · have hf := if_f h hf
        exact w304 S4  hf _ _ _ hW hS (lv_sub hl [] rfl)
  have w260 : ∀ (S : ST)  , f_X7_look_b260 E S  = some SS → ∀ (H : Heap) (locs : List Loc) (ls : Array Slot), WH G B E S H → va_S (AA G) s.heap H locs → lv_has ls 2 [(0, .ref (B 1 0))] → W p l e (headSpec wsX7_look (rmN 3)).room s m [.ref (B 1 0)].toArray below meth c H locs 0 0 (MQ below (QV G B E SS) [.ref (B 1 0)].toArray s 0 0 (AA G)) (F0 m 260 ls []) := by
    intro S  hf H locs ls hW hS hl
    unfold f_X7_look_b260 at hf
    refine lv_aload_n hx hb dX7_look_260 rfl (lv_at hl 0 rfl) ?_
    refine lv_aload_n hx hb dX7_look_261 rfl (lv_at hl 0 rfl) ?_
    refine x_get hx hb hts hi7 hown hK hW (c1 hE) (e1 _ _ _ _ _ _) rfl 12 (Nat.le_of_ble_eq_true rfl) q3 (fun _ h => h) (v := .int (gI S 1 0 12)) rfl dX7_look_262 ?_
    refine lv_bipush (v := 6) hx hb dX7_look_265 (by decide) ?_
    refine lv_icmp_le (tgt := 274) hx hb dX7_look_267 (by decide) (fun h => ?_) (fun h => ?_)
    · have hf := if_t h hf
      refine lv_aload_n hx hb dX7_look_274 rfl (lv_at hl 0 rfl) ?_
      refine x_get hx hb hts hi7 hown hK hW (c1 hE) (e1 _ _ _ _ _ _) rfl 11 (Nat.le_of_ble_eq_true rfl) q2 (fun _ h => h) (v := .int (gI S 1 0 11)) rfl dX7_look_275 ?_
      exact w278 S (gI S 1 0 11)  hf _ _ _ hW hS (lv_sub hl [0] rfl)
    · have hf := if_f h hf
      refine lv_iconst (v := 0) hx hb dX7_look_270 rfl ?_
      refine lv_goto (tgt := 278) hx hb dX7_look_271 (by decide) ?_
      exact w278 S (0 : Int32)  hf _ _ _ hW hS (lv_sub hl [0] rfl)
  have w186 : ∀ (n186 : Nat) (S : ST)  , f_X7_look_b186 E n186 S  = some SS → ∀ (H : Heap) (locs : List Loc) (ls : Array Slot), WH G B E S H → va_S (AA G) s.heap H locs → lv_has ls 2 [(0, .ref (B 1 0))] → W p l e (headSpec wsX7_look (rmN 3)).room s m [.ref (B 1 0)].toArray below meth c H locs 0 0 (MQ below (QV G B E SS) [.ref (B 1 0)].toArray s 0 0 (AA G)) (F0 m 186 ls []) := by
    intro n186
    induction n186 with
    | zero =>
      intro S  hf
      exact absurd (show (none : Option ST) = some SS from hf) (fun h => by cases h)
    | succ n186 ih186 =>
      have w244 : ∀ (S : ST) (t0 : Int32) , f_X7_look_b244 E (f_X7_look_b186 E n186) S t0 = some SS → ∀ (H : Heap) (locs : List Loc) (ls : Array Slot), WH G B E S H → va_S (AA G) s.heap H locs → lv_has ls 2 [(0, .ref (B 1 0))] → W p l e (headSpec wsX7_look (rmN 3)).room s m [.ref (B 1 0)].toArray below meth c H locs 0 0 (MQ below (QV G B E SS) [.ref (B 1 0)].toArray s 0 0 (AA G)) (F0 m 244 ls [.int t0, .ref (B 1 0)]) := by
        intro S t0 hf H locs ls hW hS hl
        unfold f_X7_look_b244 at hf
        obtain ⟨S7, e_S7, hf⟩ := lt_out hf
        refine x_putI hx hb hts hi7 tyX7 tyX7_ok nmX7 hown hK hW hS (c1 hE) (e1 _ _ _) rfl 11 (Nat.le_of_ble_eq_true rfl) q2 (fun _ h => h) rfl (tyX7_ok 11 (Nat.le_of_ble_eq_true rfl)) rfl rfl (Nat.le_of_ble_eq_true rfl) (pu1_11 _ _) e_S7 dX7_look_244 (fun H locs hW hS => ?_)
        refine lv_aload_n hx hb dX7_look_247 rfl (lv_at hl 0 rfl) ?_
        refine lv_dup hx hb dX7_look_248 rfl ?_
        refine x_get hx hb hts hi7 hown hK hW (c1 hE) (e1 _ _ _ _ _ _) rfl 12 (Nat.le_of_ble_eq_true rfl) q3 (fun _ h => h) (v := .int (gI S7 1 0 12)) rfl dX7_look_249 ?_
        refine lv_iconst (v := 1) hx hb dX7_look_252 rfl ?_
        refine lv_iadd hx hb dX7_look_253 ?_
        obtain ⟨S8, e_S8, hf⟩ := lt_out hf
        refine x_putI hx hb hts hi7 tyX7 tyX7_ok nmX7 hown hK hW hS (c1 hE) (e1 _ _ _) rfl 12 (Nat.le_of_ble_eq_true rfl) q3 (fun _ h => h) rfl (tyX7_ok 12 (Nat.le_of_ble_eq_true rfl)) rfl rfl (Nat.le_of_ble_eq_true rfl) (pu1_12 _ _) e_S8 dX7_look_254 (fun H locs hW hS => ?_)
        refine lv_goto (tgt := 186) hx hb dX7_look_257 (by decide) ?_
        exact ih186 S8  hf _ _ _ hW hS (lv_sub hl [0] rfl)
      intro S  hf H locs ls hW hS hl
      have hf : g_X7_look_b186 E (f_X7_look_b186 E n186) S  = some SS := hf
      unfold g_X7_look_b186 at hf
      refine lv_aload_n hx hb dX7_look_186 rfl (lv_at hl 0 rfl) ?_
      refine lv_aload_n hx hb dX7_look_187 rfl (lv_at hl 0 rfl) ?_
      refine lv_aload_n hx hb dX7_look_188 rfl (lv_at hl 0 rfl) ?_
      refine x_get hx hb hts hi7 hown hK hW (c1 hE) (e1 _ _ _ _ _ _) rfl 9 (Nat.le_of_ble_eq_true rfl) q0 (fun _ h => h) (v := .int (gI S 1 0 9)) rfl dX7_look_189 ?_
      refine lv_aload_n hx hb dX7_look_192 rfl (lv_at hl 0 rfl) ?_
      refine x_get hx hb hts hi7 hown hK hW (c1 hE) (e1 _ _ _ _ _ _) rfl 12 (Nat.le_of_ble_eq_true rfl) q3 (fun _ h => h) (v := .int (gI S 1 0 12)) rfl dX7_look_193 ?_
      refine lv_iadd hx hb dX7_look_196 ?_
      obtain ⟨r9, hc, hf⟩ := bd_out hf
      refine y_i (va_runV (As := [.int ((gI S 1 0 9) + (gI S 1 0 12))]) (rest := [.ref (B 1 0)]) hfix (m_X7_byteAt l G B E hE S ((gI S 1 0 9) + (gI S 1 0 12)) r9 hc) (cwV 1 hts gX7_look_X7_byteAt rfl rfl rfl ⟨rfl, hd_X7_byteAt⟩ ⟨Nat.le_of_ble_eq_true rfl, Nat.le_of_ble_eq_true rfl⟩) (y_pv hF hW hS (c1 hE) (e1 _ _ _ _ _ _) rfl) rfl rfl hl.1 rfl (lv_room (Nat.le_of_ble_eq_true rfl)) dX7_look_197 ⟨Nat.le_of_ble_eq_true rfl, Nat.le_of_ble_eq_true rfl⟩) hS (fun H locs hW hS => ?_)
      obtain ⟨r10, hc, hf⟩ := bd_out hf
      refine y_i (va_runV (As := [.int r9]) (rest := []) hfix (m_X7_isLetter l G B E hE S r9 r10 hc) (cwV 1 hts gX7_look_X7_isLetter rfl rfl rfl ⟨rfl, hd_X7_isLetter⟩ ⟨Nat.le_of_ble_eq_true rfl, Nat.le_of_ble_eq_true rfl⟩) (y_pv hF hW hS (c1 hE) (e1 _ _ _ _ _ _) rfl) rfl rfl hl.1 rfl (lv_room (Nat.le_of_ble_eq_true rfl)) dX7_look_200 ⟨Nat.le_of_ble_eq_true rfl, Nat.le_of_ble_eq_true rfl⟩) hS (fun H locs hW hS => ?_)
      refine lv_if_eq (tgt := 260) hx hb dX7_look_203 (by decide) (fun h => ?_) (fun h => ?_)
      · have hf := if_t h hf
        exact w260 S  hf _ _ _ hW hS (lv_sub hl [0] rfl)
      · have hf := if_f h hf
        refine lv_aload_n hx hb dX7_look_206 rfl (lv_at hl 0 rfl) ?_
        refine lv_aload_n hx hb dX7_look_207 rfl (lv_at hl 0 rfl) ?_
        refine x_get hx hb hts hi7 hown hK hW (c1 hE) (e1 _ _ _ _ _ _) rfl 12 (Nat.le_of_ble_eq_true rfl) q3 (fun _ h => h) (v := .int (gI S 1 0 12)) rfl dX7_look_208 ?_
        refine lv_bipush (v := 6) hx hb dX7_look_211 (by decide) ?_
        refine lv_icmp_ge (tgt := 243) hx hb dX7_look_213 (by decide) (fun h => ?_) (fun h => ?_)
        · have hf := if_t h hf
          refine lv_iconst (v := 0) hx hb dX7_look_243 rfl ?_
          exact w244 S (0 : Int32)  hf _ _ _ hW hS (lv_sub hl [0] rfl)
        · have hf := if_f h hf
          refine lv_bipush (v := 32) hx hb dX7_look_216 (by decide) ?_
          refine lv_aload_n hx hb dX7_look_218 rfl (lv_at hl 0 rfl) ?_
          refine x_get hx hb hts hi7 hown hK hW (c1 hE) (e1 _ _ _ _ _ _) rfl 11 (Nat.le_of_ble_eq_true rfl) q2 (fun _ h => h) (v := .int (gI S 1 0 11)) rfl dX7_look_219 ?_
          refine lv_imul hx hb dX7_look_222 ?_
          refine lv_aload_n hx hb dX7_look_223 rfl (lv_at hl 0 rfl) ?_
          refine lv_aload_n hx hb dX7_look_224 rfl (lv_at hl 0 rfl) ?_
          refine x_get hx hb hts hi7 hown hK hW (c1 hE) (e1 _ _ _ _ _ _) rfl 9 (Nat.le_of_ble_eq_true rfl) q0 (fun _ h => h) (v := .int (gI S 1 0 9)) rfl dX7_look_225 ?_
          refine lv_aload_n hx hb dX7_look_228 rfl (lv_at hl 0 rfl) ?_
          refine x_get hx hb hts hi7 hown hK hW (c1 hE) (e1 _ _ _ _ _ _) rfl 12 (Nat.le_of_ble_eq_true rfl) q3 (fun _ h => h) (v := .int (gI S 1 0 12)) rfl dX7_look_229 ?_
          refine lv_iadd hx hb dX7_look_232 ?_
          obtain ⟨r11, hc, hf⟩ := bd_out hf
          refine y_i (va_runV (As := [.int ((gI S 1 0 9) + (gI S 1 0 12))]) (rest := [.int ((32 : Int32) * (gI S 1 0 11)), .ref (B 1 0)]) hfix (m_X7_byteAt l G B E hE S ((gI S 1 0 9) + (gI S 1 0 12)) r11 hc) (cwV 1 hts gX7_look_X7_byteAt rfl rfl rfl ⟨rfl, hd_X7_byteAt⟩ ⟨Nat.le_of_ble_eq_true rfl, Nat.le_of_ble_eq_true rfl⟩) (y_pv hF hW hS (c1 hE) (e1 _ _ _ _ _ _) rfl) rfl rfl hl.1 rfl (lv_room (Nat.le_of_ble_eq_true rfl)) dX7_look_233 ⟨Nat.le_of_ble_eq_true rfl, Nat.le_of_ble_eq_true rfl⟩) hS (fun H locs hW hS => ?_)
          refine lv_iadd hx hb dX7_look_236 ?_
          refine lv_bipush (v := 96) hx hb dX7_look_237 (by decide) ?_
          refine lv_isub hx hb dX7_look_239 ?_
          refine lv_goto (tgt := 244) hx hb dX7_look_240 (by decide) ?_
          exact w244 S ((((32 : Int32) * (gI S 1 0 11)) + r11) - (96 : Int32))  hf _ _ _ hW hS (lv_sub hl [0] rfl)
  have w167 : ∀ (S : ST) (t0 : Int32) , f_X7_look_b167 E S t0 = some SS → ∀ (H : Heap) (locs : List Loc) (ls : Array Slot), WH G B E S H → va_S (AA G) s.heap H locs → lv_has ls 2 [] → W p l e (headSpec wsX7_look (rmN 3)).room s m [.ref (B 1 0)].toArray below meth c H locs 0 0 (MQ below (QV G B E SS) [.ref (B 1 0)].toArray s 0 0 (AA G)) (F0 m 167 ls [.int t0, .ref (B 1 0)]) := by
    intro S t0 hf H locs ls hW hS hl
    unfold f_X7_look_b167 at hf
    obtain ⟨S12, e_S12, hf⟩ := lt_out hf
    refine x_putI hx hb hts hi7 tyX7 tyX7_ok nmX7 hown hK hW hS (c1 hE) (e1 _ _ _) rfl 10 (Nat.le_of_ble_eq_true rfl) q1 (fun _ h => h) rfl (tyX7_ok 10 (Nat.le_of_ble_eq_true rfl)) rfl rfl (Nat.le_of_ble_eq_true rfl) (pu1_10 _ _) e_S12 dX7_look_167 (fun H locs hW hS => ?_)
    refine lv_goto (tgt := 382) hx hb dX7_look_170 (by decide) ?_
    exact z_v hf hx hb hr hF hW hS dX7_look_382 hlocks
  have w152 : ∀ (S : ST)  , f_X7_look_b152 E S  = some SS → ∀ (H : Heap) (locs : List Loc) (ls : Array Slot), WH G B E S H → va_S (AA G) s.heap H locs → lv_has ls 2 [(0, .ref (B 1 0))] → W p l e (headSpec wsX7_look (rmN 3)).room s m [.ref (B 1 0)].toArray below meth c H locs 0 0 (MQ below (QV G B E SS) [.ref (B 1 0)].toArray s 0 0 (AA G)) (F0 m 152 ls []) := by
    intro S  hf H locs ls hW hS hl
    unfold f_X7_look_b152 at hf
    refine lv_aload_n hx hb dX7_look_152 rfl (lv_at hl 0 rfl) ?_
    refine lv_aload_n hx hb dX7_look_153 rfl (lv_at hl 0 rfl) ?_
    refine x_get hx hb hts hi7 hown hK hW (c1 hE) (e1 _ _ _ _ _ _) rfl 12 (Nat.le_of_ble_eq_true rfl) q3 (fun _ h => h) (v := .int (gI S 1 0 12)) rfl dX7_look_154 ?_
    refine lv_iconst (v := 4) hx hb dX7_look_157 rfl ?_
    refine lv_icmp_le (tgt := 166) hx hb dX7_look_158 (by decide) (fun h => ?_) (fun h => ?_)
    · have hf := if_t h hf
      refine lv_iconst (v := 1) hx hb dX7_look_166 rfl ?_
      exact w167 S (1 : Int32)  hf _ _ _ hW hS (lv_sub hl [] rfl)
    · have hf := if_f h hf
      refine lv_bipush (v := -2) hx hb dX7_look_161 (by decide) ?_
      refine lv_goto (tgt := 167) hx hb dX7_look_163 (by decide) ?_
      exact w167 S (-2 : Int32)  hf _ _ _ hW hS (lv_sub hl [] rfl)
  have w76 : ∀ (n76 : Nat) (S : ST)  , f_X7_look_b76 E n76 S  = some SS → ∀ (H : Heap) (locs : List Loc) (ls : Array Slot), WH G B E S H → va_S (AA G) s.heap H locs → lv_has ls 2 [(0, .ref (B 1 0))] → W p l e (headSpec wsX7_look (rmN 3)).room s m [.ref (B 1 0)].toArray below meth c H locs 0 0 (MQ below (QV G B E SS) [.ref (B 1 0)].toArray s 0 0 (AA G)) (F0 m 76 ls []) := by
    intro n76
    induction n76 with
    | zero =>
      intro S  hf
      exact absurd (show (none : Option ST) = some SS from hf) (fun h => by cases h)
    | succ n76 ih76 =>
      have w136 : ∀ (S : ST) (t0 : Int32) , f_X7_look_b136 E (f_X7_look_b76 E n76) S t0 = some SS → ∀ (H : Heap) (locs : List Loc) (ls : Array Slot), WH G B E S H → va_S (AA G) s.heap H locs → lv_has ls 2 [(0, .ref (B 1 0))] → W p l e (headSpec wsX7_look (rmN 3)).room s m [.ref (B 1 0)].toArray below meth c H locs 0 0 (MQ below (QV G B E SS) [.ref (B 1 0)].toArray s 0 0 (AA G)) (F0 m 136 ls [.int t0, .ref (B 1 0)]) := by
        intro S t0 hf H locs ls hW hS hl
        unfold f_X7_look_b136 at hf
        obtain ⟨S13, e_S13, hf⟩ := lt_out hf
        refine x_putI hx hb hts hi7 tyX7 tyX7_ok nmX7 hown hK hW hS (c1 hE) (e1 _ _ _) rfl 11 (Nat.le_of_ble_eq_true rfl) q2 (fun _ h => h) rfl (tyX7_ok 11 (Nat.le_of_ble_eq_true rfl)) rfl rfl (Nat.le_of_ble_eq_true rfl) (pu1_11 _ _) e_S13 dX7_look_136 (fun H locs hW hS => ?_)
        refine lv_aload_n hx hb dX7_look_139 rfl (lv_at hl 0 rfl) ?_
        refine lv_dup hx hb dX7_look_140 rfl ?_
        refine x_get hx hb hts hi7 hown hK hW (c1 hE) (e1 _ _ _ _ _ _) rfl 12 (Nat.le_of_ble_eq_true rfl) q3 (fun _ h => h) (v := .int (gI S13 1 0 12)) rfl dX7_look_141 ?_
        refine lv_iconst (v := 1) hx hb dX7_look_144 rfl ?_
        refine lv_iadd hx hb dX7_look_145 ?_
        obtain ⟨S14, e_S14, hf⟩ := lt_out hf
        refine x_putI hx hb hts hi7 tyX7 tyX7_ok nmX7 hown hK hW hS (c1 hE) (e1 _ _ _) rfl 12 (Nat.le_of_ble_eq_true rfl) q3 (fun _ h => h) rfl (tyX7_ok 12 (Nat.le_of_ble_eq_true rfl)) rfl rfl (Nat.le_of_ble_eq_true rfl) (pu1_12 _ _) e_S14 dX7_look_146 (fun H locs hW hS => ?_)
        refine lv_goto (tgt := 76) hx hb dX7_look_149 (by decide) ?_
        exact ih76 S14  hf _ _ _ hW hS (lv_sub hl [0] rfl)
      intro S  hf H locs ls hW hS hl
      have hf : g_X7_look_b76 E (f_X7_look_b76 E n76) S  = some SS := hf
      unfold g_X7_look_b76 at hf
      refine lv_aload_n hx hb dX7_look_76 rfl (lv_at hl 0 rfl) ?_
      refine lv_aload_n hx hb dX7_look_77 rfl (lv_at hl 0 rfl) ?_
      refine lv_aload_n hx hb dX7_look_78 rfl (lv_at hl 0 rfl) ?_
      refine x_get hx hb hts hi7 hown hK hW (c1 hE) (e1 _ _ _ _ _ _) rfl 9 (Nat.le_of_ble_eq_true rfl) q0 (fun _ h => h) (v := .int (gI S 1 0 9)) rfl dX7_look_79 ?_
      refine lv_aload_n hx hb dX7_look_82 rfl (lv_at hl 0 rfl) ?_
      refine x_get hx hb hts hi7 hown hK hW (c1 hE) (e1 _ _ _ _ _ _) rfl 12 (Nat.le_of_ble_eq_true rfl) q3 (fun _ h => h) (v := .int (gI S 1 0 12)) rfl dX7_look_83 ?_
      refine lv_iadd hx hb dX7_look_86 ?_
      obtain ⟨r15, hc, hf⟩ := bd_out hf
      refine y_i (va_runV (As := [.int ((gI S 1 0 9) + (gI S 1 0 12))]) (rest := [.ref (B 1 0)]) hfix (m_X7_byteAt l G B E hE S ((gI S 1 0 9) + (gI S 1 0 12)) r15 hc) (cwV 1 hts gX7_look_X7_byteAt rfl rfl rfl ⟨rfl, hd_X7_byteAt⟩ ⟨Nat.le_of_ble_eq_true rfl, Nat.le_of_ble_eq_true rfl⟩) (y_pv hF hW hS (c1 hE) (e1 _ _ _ _ _ _) rfl) rfl rfl hl.1 rfl (lv_room (Nat.le_of_ble_eq_true rfl)) dX7_look_87 ⟨Nat.le_of_ble_eq_true rfl, Nat.le_of_ble_eq_true rfl⟩) hS (fun H locs hW hS => ?_)
      obtain ⟨r16, hc, hf⟩ := bd_out hf
      refine y_i (va_runV (As := [.int r15]) (rest := []) hfix (m_X7_isDigit l G B E hE S r15 r16 hc) (cwV 1 hts gX7_look_X7_isDigit rfl rfl rfl ⟨rfl, hd_X7_isDigit⟩ ⟨Nat.le_of_ble_eq_true rfl, Nat.le_of_ble_eq_true rfl⟩) (y_pv hF hW hS (c1 hE) (e1 _ _ _ _ _ _) rfl) rfl rfl hl.1 rfl (lv_room (Nat.le_of_ble_eq_true rfl)) dX7_look_90 ⟨Nat.le_of_ble_eq_true rfl, Nat.le_of_ble_eq_true rfl⟩) hS (fun H locs hW hS => ?_)
      refine lv_if_eq (tgt := 152) hx hb dX7_look_93 (by decide) (fun h => ?_) (fun h => ?_)
      · have hf := if_t h hf
        exact w152 S  hf _ _ _ hW hS (lv_sub hl [0] rfl)
      · have hf := if_f h hf
        refine lv_aload_n hx hb dX7_look_96 rfl (lv_at hl 0 rfl) ?_
        refine lv_aload_n hx hb dX7_look_97 rfl (lv_at hl 0 rfl) ?_
        refine x_get hx hb hts hi7 hown hK hW (c1 hE) (e1 _ _ _ _ _ _) rfl 12 (Nat.le_of_ble_eq_true rfl) q3 (fun _ h => h) (v := .int (gI S 1 0 12)) rfl dX7_look_98 ?_
        refine lv_iconst (v := 4) hx hb dX7_look_101 rfl ?_
        refine lv_icmp_ge (tgt := 132) hx hb dX7_look_102 (by decide) (fun h => ?_) (fun h => ?_)
        · have hf := if_t h hf
          refine lv_aload_n hx hb dX7_look_132 rfl (lv_at hl 0 rfl) ?_
          refine x_get hx hb hts hi7 hown hK hW (c1 hE) (e1 _ _ _ _ _ _) rfl 11 (Nat.le_of_ble_eq_true rfl) q2 (fun _ h => h) (v := .int (gI S 1 0 11)) rfl dX7_look_133 ?_
          exact w136 S (gI S 1 0 11)  hf _ _ _ hW hS (lv_sub hl [0] rfl)
        · have hf := if_f h hf
          refine lv_bipush (v := 10) hx hb dX7_look_105 (by decide) ?_
          refine lv_aload_n hx hb dX7_look_107 rfl (lv_at hl 0 rfl) ?_
          refine x_get hx hb hts hi7 hown hK hW (c1 hE) (e1 _ _ _ _ _ _) rfl 11 (Nat.le_of_ble_eq_true rfl) q2 (fun _ h => h) (v := .int (gI S 1 0 11)) rfl dX7_look_108 ?_
          refine lv_imul hx hb dX7_look_111 ?_
          refine lv_aload_n hx hb dX7_look_112 rfl (lv_at hl 0 rfl) ?_
          refine lv_aload_n hx hb dX7_look_113 rfl (lv_at hl 0 rfl) ?_
          refine x_get hx hb hts hi7 hown hK hW (c1 hE) (e1 _ _ _ _ _ _) rfl 9 (Nat.le_of_ble_eq_true rfl) q0 (fun _ h => h) (v := .int (gI S 1 0 9)) rfl dX7_look_114 ?_
          refine lv_aload_n hx hb dX7_look_117 rfl (lv_at hl 0 rfl) ?_
          refine x_get hx hb hts hi7 hown hK hW (c1 hE) (e1 _ _ _ _ _ _) rfl 12 (Nat.le_of_ble_eq_true rfl) q3 (fun _ h => h) (v := .int (gI S 1 0 12)) rfl dX7_look_118 ?_
          refine lv_iadd hx hb dX7_look_121 ?_
          obtain ⟨r17, hc, hf⟩ := bd_out hf
          refine y_i (va_runV (As := [.int ((gI S 1 0 9) + (gI S 1 0 12))]) (rest := [.int ((10 : Int32) * (gI S 1 0 11)), .ref (B 1 0)]) hfix (m_X7_byteAt l G B E hE S ((gI S 1 0 9) + (gI S 1 0 12)) r17 hc) (cwV 1 hts gX7_look_X7_byteAt rfl rfl rfl ⟨rfl, hd_X7_byteAt⟩ ⟨Nat.le_of_ble_eq_true rfl, Nat.le_of_ble_eq_true rfl⟩) (y_pv hF hW hS (c1 hE) (e1 _ _ _ _ _ _) rfl) rfl rfl hl.1 rfl (lv_room (Nat.le_of_ble_eq_true rfl)) dX7_look_122 ⟨Nat.le_of_ble_eq_true rfl, Nat.le_of_ble_eq_true rfl⟩) hS (fun H locs hW hS => ?_)
          refine lv_iadd hx hb dX7_look_125 ?_
          refine lv_bipush (v := 48) hx hb dX7_look_126 (by decide) ?_
          refine lv_isub hx hb dX7_look_128 ?_
          refine lv_goto (tgt := 136) hx hb dX7_look_129 (by decide) ?_
          exact w136 S ((((10 : Int32) * (gI S 1 0 11)) + r17) - (48 : Int32))  hf _ _ _ hW hS (lv_sub hl [0] rfl)
  have w39 : ∀ (S : ST)  , f_X7_look_b39 E S  = some SS → ∀ (H : Heap) (locs : List Loc) (ls : Array Slot), WH G B E S H → va_S (AA G) s.heap H locs → lv_has ls 2 [(0, .ref (B 1 0))] → W p l e (headSpec wsX7_look (rmN 3)).room s m [.ref (B 1 0)].toArray below meth c H locs 0 0 (MQ below (QV G B E SS) [.ref (B 1 0)].toArray s 0 0 (AA G)) (F0 m 39 ls []) := by
    intro S  hf H locs ls hW hS hl
    unfold f_X7_look_b39 at hf
    refine lv_aload_n hx hb dX7_look_39 rfl (lv_at hl 0 rfl) ?_
    refine lv_aload_n hx hb dX7_look_40 rfl (lv_at hl 0 rfl) ?_
    refine x_get hx hb hts hi7 hown hK hW (c1 hE) (e1 _ _ _ _ _ _) rfl 9 (Nat.le_of_ble_eq_true rfl) q0 (fun _ h => h) (v := .int (gI S 1 0 9)) rfl dX7_look_41 ?_
    obtain ⟨r18, hc, hf⟩ := bd_out hf
    refine y_i (va_runV (As := [.int (gI S 1 0 9)]) (rest := []) hfix (m_X7_byteAt l G B E hE S (gI S 1 0 9) r18 hc) (cwV 1 hts gX7_look_X7_byteAt rfl rfl rfl ⟨rfl, hd_X7_byteAt⟩ ⟨Nat.le_of_ble_eq_true rfl, Nat.le_of_ble_eq_true rfl⟩) (y_pv hF hW hS (c1 hE) (e1 _ _ _ _ _ _) rfl) rfl rfl hl.1 rfl (lv_room (Nat.le_of_ble_eq_true rfl)) dX7_look_44 ⟨Nat.le_of_ble_eq_true rfl, Nat.le_of_ble_eq_true rfl⟩) hS (fun H locs hW hS => ?_)
    refine lv_istore_n (lv' := [(1, .int r18), (0, .ref (B 1 0))]) hx hb dX7_look_47 rfl hl (by decide) rfl (fun ls hl => ?_)
    refine lv_aload_n hx hb dX7_look_48 rfl (lv_at hl 1 rfl) ?_
    refine lv_iconst (v := 1) hx hb dX7_look_49 rfl ?_
    obtain ⟨S19, e_S19, hf⟩ := lt_out hf
    refine x_putI hx hb hts hi7 tyX7 tyX7_ok nmX7 hown hK hW hS (c1 hE) (e1 _ _ _) rfl 12 (Nat.le_of_ble_eq_true rfl) q3 (fun _ h => h) rfl (tyX7_ok 12 (Nat.le_of_ble_eq_true rfl)) rfl rfl (Nat.le_of_ble_eq_true rfl) (pu1_12 _ _) e_S19 dX7_look_50 (fun H locs hW hS => ?_)
    refine lv_aload_n hx hb dX7_look_53 rfl (lv_at hl 1 rfl) ?_
    refine lv_iconst (v := 0) hx hb dX7_look_54 rfl ?_
    obtain ⟨S20, e_S20, hf⟩ := lt_out hf
    refine x_putI hx hb hts hi7 tyX7 tyX7_ok nmX7 hown hK hW hS (c1 hE) (e1 _ _ _) rfl 11 (Nat.le_of_ble_eq_true rfl) q2 (fun _ h => h) rfl (tyX7_ok 11 (Nat.le_of_ble_eq_true rfl)) rfl rfl (Nat.le_of_ble_eq_true rfl) (pu1_11 _ _) e_S20 dX7_look_55 (fun H locs hW hS => ?_)
    refine lv_aload_n hx hb dX7_look_58 rfl (lv_at hl 1 rfl) ?_
    refine lv_iload_n hx hb dX7_look_59 rfl (lv_at hl 0 rfl) ?_
    obtain ⟨r21, hc, hf⟩ := bd_out hf
    refine y_i (va_runV (As := [.int r18]) (rest := []) hfix (m_X7_isDigit l G B E hE S20 r18 r21 hc) (cwV 1 hts gX7_look_X7_isDigit rfl rfl rfl ⟨rfl, hd_X7_isDigit⟩ ⟨Nat.le_of_ble_eq_true rfl, Nat.le_of_ble_eq_true rfl⟩) (y_pv hF hW hS (c1 hE) (e1 _ _ _ _ _ _) rfl) rfl rfl hl.1 rfl (lv_room (Nat.le_of_ble_eq_true rfl)) dX7_look_60 ⟨Nat.le_of_ble_eq_true rfl, Nat.le_of_ble_eq_true rfl⟩) hS (fun H locs hW hS => ?_)
    refine lv_if_eq (tgt := 173) hx hb dX7_look_63 (by decide) (fun h => ?_) (fun h => ?_)
    · have hf := if_t h hf
      refine lv_aload_n hx hb dX7_look_173 rfl (lv_at hl 1 rfl) ?_
      refine lv_iload_n hx hb dX7_look_174 rfl (lv_at hl 0 rfl) ?_
      obtain ⟨r22, hc, hf⟩ := bd_out hf
      refine y_i (va_runV (As := [.int r18]) (rest := []) hfix (m_X7_isLetter l G B E hE S20 r18 r22 hc) (cwV 1 hts gX7_look_X7_isLetter rfl rfl rfl ⟨rfl, hd_X7_isLetter⟩ ⟨Nat.le_of_ble_eq_true rfl, Nat.le_of_ble_eq_true rfl⟩) (y_pv hF hW hS (c1 hE) (e1 _ _ _ _ _ _) rfl) rfl rfl hl.1 rfl (lv_room (Nat.le_of_ble_eq_true rfl)) dX7_look_175 ⟨Nat.le_of_ble_eq_true rfl, Nat.le_of_ble_eq_true rfl⟩) hS (fun H locs hW hS => ?_)
      refine lv_if_eq (tgt := 316) hx hb dX7_look_178 (by decide) (fun h => ?_) (fun h => ?_)
      · have hf := if_t h hf
        refine lv_aload_n hx hb dX7_look_316 rfl (lv_at hl 1 rfl) ?_
        refine lv_iload_n hx hb dX7_look_317 rfl (lv_at hl 0 rfl) ?_
        refine lv_bipush (v := 40) hx hb dX7_look_318 (by decide) ?_
        refine lv_icmp_eq (tgt := 365) hx hb dX7_look_320 (by decide) (fun h => ?_) (fun h => ?_)
        · have hf := if_t h hf
          exact w365 S20 r18  hf _ _ _ hW hS (lv_sub hl [0] rfl)
        · have hf := if_f h hf
          refine lv_iload_n hx hb dX7_look_323 rfl (lv_at hl 0 rfl) ?_
          refine lv_bipush (v := 41) hx hb dX7_look_324 (by decide) ?_
          refine lv_icmp_eq (tgt := 365) hx hb dX7_look_326 (by decide) (fun h => ?_) (fun h => ?_)
          · have hf := if_t h hf
            exact w365 S20 r18  hf _ _ _ hW hS (lv_sub hl [0] rfl)
          · have hf := if_f h hf
            refine lv_iload_n hx hb dX7_look_329 rfl (lv_at hl 0 rfl) ?_
            refine lv_bipush (v := 59) hx hb dX7_look_330 (by decide) ?_
            refine lv_icmp_eq (tgt := 365) hx hb dX7_look_332 (by decide) (fun h => ?_) (fun h => ?_)
            · have hf := if_t h hf
              exact w365 S20 r18  hf _ _ _ hW hS (lv_sub hl [0] rfl)
            · have hf := if_f h hf
              refine lv_iload_n hx hb dX7_look_335 rfl (lv_at hl 0 rfl) ?_
              refine lv_bipush (v := 43) hx hb dX7_look_336 (by decide) ?_
              refine lv_icmp_eq (tgt := 365) hx hb dX7_look_338 (by decide) (fun h => ?_) (fun h => ?_)
              · have hf := if_t h hf
                exact w365 S20 r18  hf _ _ _ hW hS (lv_sub hl [0] rfl)
              · have hf := if_f h hf
                refine lv_iload_n hx hb dX7_look_341 rfl (lv_at hl 0 rfl) ?_
                refine lv_bipush (v := 45) hx hb dX7_look_342 (by decide) ?_
                refine lv_icmp_eq (tgt := 365) hx hb dX7_look_344 (by decide) (fun h => ?_) (fun h => ?_)
                · have hf := if_t h hf
                  exact w365 S20 r18  hf _ _ _ hW hS (lv_sub hl [0] rfl)
                · have hf := if_f h hf
                  refine lv_iload_n hx hb dX7_look_347 rfl (lv_at hl 0 rfl) ?_
                  refine lv_bipush (v := 42) hx hb dX7_look_348 (by decide) ?_
                  refine lv_icmp_eq (tgt := 365) hx hb dX7_look_350 (by decide) (fun h => ?_) (fun h => ?_)
                  · have hf := if_t h hf
                    exact w365 S20 r18  hf _ _ _ hW hS (lv_sub hl [0] rfl)
                  · have hf := if_f h hf
                    refine lv_iload_n hx hb dX7_look_353 rfl (lv_at hl 0 rfl) ?_
                    refine lv_bipush (v := 60) hx hb dX7_look_354 (by decide) ?_
                    refine lv_icmp_eq (tgt := 365) hx hb dX7_look_356 (by decide) (fun h => ?_) (fun h => ?_)
                    · have hf := if_t h hf
                      exact w365 S20 r18  hf _ _ _ hW hS (lv_sub hl [0] rfl)
                    · have hf := if_f h hf
                      refine lv_iload_n hx hb dX7_look_359 rfl (lv_at hl 0 rfl) ?_
                      refine lv_bipush (v := 61) hx hb dX7_look_360 (by decide) ?_
                      refine lv_icmp_ne (tgt := 369) hx hb dX7_look_362 (by decide) (fun h => ?_) (fun h => ?_)
                      · have hf := if_f h hf
                        refine lv_iload_n hx hb dX7_look_369 rfl (lv_at hl 0 rfl) ?_
                        refine lv_if_ge (tgt := 377) hx hb dX7_look_370 (by decide) (fun h => ?_) (fun h => ?_)
                        · have hf := if_t h hf
                          refine lv_bipush (v := -2) hx hb dX7_look_377 (by decide) ?_
                          exact w379 S20 (-2 : Int32)  hf _ _ _ hW hS (lv_sub hl [] rfl)
                        · have hf := if_f h hf
                          refine lv_iconst (v := -1) hx hb dX7_look_373 rfl ?_
                          refine lv_goto (tgt := 379) hx hb dX7_look_374 (by decide) ?_
                          exact w379 S20 (-1 : Int32)  hf _ _ _ hW hS (lv_sub hl [] rfl)
                      · have hf := if_t h hf
                        exact w365 S20 r18  hf _ _ _ hW hS (lv_sub hl [0] rfl)
      · have hf := if_f h hf
        refine lv_aload_n hx hb dX7_look_181 rfl (lv_at hl 1 rfl) ?_
        refine lv_iconst (v := 0) hx hb dX7_look_182 rfl ?_
        obtain ⟨S23, e_S23, hf⟩ := lt_out hf
        refine x_putI hx hb hts hi7 tyX7 tyX7_ok nmX7 hown hK hW hS (c1 hE) (e1 _ _ _) rfl 12 (Nat.le_of_ble_eq_true rfl) q3 (fun _ h => h) rfl (tyX7_ok 12 (Nat.le_of_ble_eq_true rfl)) rfl rfl (Nat.le_of_ble_eq_true rfl) (pu1_12 _ _) e_S23 dX7_look_183 (fun H locs hW hS => ?_)
        exact w186 E.1 S23  hf _ _ _ hW hS (lv_sub hl [1] rfl)
    · have hf := if_f h hf
      refine lv_aload_n hx hb dX7_look_66 rfl (lv_at hl 1 rfl) ?_
      refine lv_iconst (v := 1) hx hb dX7_look_67 rfl ?_
      obtain ⟨S24, e_S24, hf⟩ := lt_out hf
      refine x_putI hx hb hts hi7 tyX7 tyX7_ok nmX7 hown hK hW hS (c1 hE) (e1 _ _ _) rfl 10 (Nat.le_of_ble_eq_true rfl) q1 (fun _ h => h) rfl (tyX7_ok 10 (Nat.le_of_ble_eq_true rfl)) rfl rfl (Nat.le_of_ble_eq_true rfl) (pu1_10 _ _) e_S24 dX7_look_68 (fun H locs hW hS => ?_)
      refine lv_aload_n hx hb dX7_look_71 rfl (lv_at hl 1 rfl) ?_
      refine lv_iconst (v := 0) hx hb dX7_look_72 rfl ?_
      obtain ⟨S25, e_S25, hf⟩ := lt_out hf
      refine x_putI hx hb hts hi7 tyX7 tyX7_ok nmX7 hown hK hW hS (c1 hE) (e1 _ _ _) rfl 12 (Nat.le_of_ble_eq_true rfl) q3 (fun _ h => h) rfl (tyX7_ok 12 (Nat.le_of_ble_eq_true rfl)) rfl rfl (Nat.le_of_ble_eq_true rfl) (pu1_12 _ _) e_S25 dX7_look_73 (fun H locs hW hS => ?_)
      exact w76 E.1 S25  hf _ _ _ hW hS (lv_sub hl [1] rfl)
  have w0 : ∀ (n0 : Nat) (S : ST)  , f_X7_look_b0 E n0 S  = some SS → ∀ (H : Heap) (locs : List Loc) (ls : Array Slot), WH G B E S H → va_S (AA G) s.heap H locs → lv_has ls 2 [(0, .ref (B 1 0))] → W p l e (headSpec wsX7_look (rmN 3)).room s m [.ref (B 1 0)].toArray below meth c H locs 0 0 (MQ below (QV G B E SS) [.ref (B 1 0)].toArray s 0 0 (AA G)) (F0 m 0 ls []) := by
    intro n0
    induction n0 with
    | zero =>
      intro S  hf
      exact absurd (show (none : Option ST) = some SS from hf) (fun h => by cases h)
    | succ n0 ih0 =>
      have w26 : ∀ (S : ST)  , f_X7_look_b26 E (f_X7_look_b0 E n0) S  = some SS → ∀ (H : Heap) (locs : List Loc) (ls : Array Slot), WH G B E S H → va_S (AA G) s.heap H locs → lv_has ls 2 [(0, .ref (B 1 0))] → W p l e (headSpec wsX7_look (rmN 3)).room s m [.ref (B 1 0)].toArray below meth c H locs 0 0 (MQ below (QV G B E SS) [.ref (B 1 0)].toArray s 0 0 (AA G)) (F0 m 26 ls []) := by
        intro S  hf H locs ls hW hS hl
        unfold f_X7_look_b26 at hf
        refine lv_aload_n hx hb dX7_look_26 rfl (lv_at hl 0 rfl) ?_
        refine lv_dup hx hb dX7_look_27 rfl ?_
        refine x_get hx hb hts hi7 hown hK hW (c1 hE) (e1 _ _ _ _ _ _) rfl 9 (Nat.le_of_ble_eq_true rfl) q0 (fun _ h => h) (v := .int (gI S 1 0 9)) rfl dX7_look_28 ?_
        refine lv_iconst (v := 1) hx hb dX7_look_31 rfl ?_
        refine lv_iadd hx hb dX7_look_32 ?_
        obtain ⟨S1, e_S1, hf⟩ := lt_out hf
        refine x_putI hx hb hts hi7 tyX7 tyX7_ok nmX7 hown hK hW hS (c1 hE) (e1 _ _ _) rfl 9 (Nat.le_of_ble_eq_true rfl) q0 (fun _ h => h) rfl (tyX7_ok 9 (Nat.le_of_ble_eq_true rfl)) rfl rfl (Nat.le_of_ble_eq_true rfl) (pu1_9 _ _) e_S1 dX7_look_33 (fun H locs hW hS => ?_)
        refine lv_goto (tgt := 0) hx hb dX7_look_36 (by decide) ?_
        exact ih0 S1  hf _ _ _ hW hS (lv_sub hl [0] rfl)
      intro S  hf H locs ls hW hS hl
      have hf : g_X7_look_b0 E (f_X7_look_b0 E n0) S  = some SS := hf
      unfold g_X7_look_b0 at hf
      refine lv_aload_n hx hb dX7_look_0 rfl (lv_at hl 0 rfl) ?_
      refine lv_aload_n hx hb dX7_look_1 rfl (lv_at hl 0 rfl) ?_
      refine x_get hx hb hts hi7 hown hK hW (c1 hE) (e1 _ _ _ _ _ _) rfl 9 (Nat.le_of_ble_eq_true rfl) q0 (fun _ h => h) (v := .int (gI S 1 0 9)) rfl dX7_look_2 ?_
      obtain ⟨r26, hc, hf⟩ := bd_out hf
      refine y_i (va_runV (As := [.int (gI S 1 0 9)]) (rest := []) hfix (m_X7_byteAt l G B E hE S (gI S 1 0 9) r26 hc) (cwV 1 hts gX7_look_X7_byteAt rfl rfl rfl ⟨rfl, hd_X7_byteAt⟩ ⟨Nat.le_of_ble_eq_true rfl, Nat.le_of_ble_eq_true rfl⟩) (y_pv hF hW hS (c1 hE) (e1 _ _ _ _ _ _) rfl) rfl rfl hl.1 rfl (lv_room (Nat.le_of_ble_eq_true rfl)) dX7_look_5 ⟨Nat.le_of_ble_eq_true rfl, Nat.le_of_ble_eq_true rfl⟩) hS (fun H locs hW hS => ?_)
      refine lv_bipush (v := 32) hx hb dX7_look_8 (by decide) ?_
      refine lv_icmp_eq (tgt := 26) hx hb dX7_look_10 (by decide) (fun h => ?_) (fun h => ?_)
      · have hf := if_t h hf
        exact w26 S  hf _ _ _ hW hS (lv_sub hl [0] rfl)
      · have hf := if_f h hf
        refine lv_aload_n hx hb dX7_look_13 rfl (lv_at hl 0 rfl) ?_
        refine lv_aload_n hx hb dX7_look_14 rfl (lv_at hl 0 rfl) ?_
        refine x_get hx hb hts hi7 hown hK hW (c1 hE) (e1 _ _ _ _ _ _) rfl 9 (Nat.le_of_ble_eq_true rfl) q0 (fun _ h => h) (v := .int (gI S 1 0 9)) rfl dX7_look_15 ?_
        obtain ⟨r27, hc, hf⟩ := bd_out hf
        refine y_i (va_runV (As := [.int (gI S 1 0 9)]) (rest := []) hfix (m_X7_byteAt l G B E hE S (gI S 1 0 9) r27 hc) (cwV 1 hts gX7_look_X7_byteAt rfl rfl rfl ⟨rfl, hd_X7_byteAt⟩ ⟨Nat.le_of_ble_eq_true rfl, Nat.le_of_ble_eq_true rfl⟩) (y_pv hF hW hS (c1 hE) (e1 _ _ _ _ _ _) rfl) rfl rfl hl.1 rfl (lv_room (Nat.le_of_ble_eq_true rfl)) dX7_look_18 ⟨Nat.le_of_ble_eq_true rfl, Nat.le_of_ble_eq_true rfl⟩) hS (fun H locs hW hS => ?_)
        refine lv_bipush (v := 10) hx hb dX7_look_21 (by decide) ?_
        refine lv_icmp_ne (tgt := 39) hx hb dX7_look_23 (by decide) (fun h => ?_) (fun h => ?_)
        · have hf := if_f h hf
          exact w39 S  hf _ _ _ hW hS (lv_sub hl [0] rfl)
        · have hf := if_t h hf
          exact w26 S  hf _ _ _ hW hS (lv_sub hl [0] rfl)
  unfold f_X7_look at hf
  exact w0 E.1 S  hf _ _ _ hW hS (lv_sub hl [0] rfl)
set_option maxHeartbeats 4000000 in
set_option maxRecDepth 100000 in
theorem m_X7_goOn (l : Launch) (G : GE) (B : Nat → Nat → Nat) (E : EN) (hE : 0 < E.2.2.2)  (S : ST)  (SS : ST) (hf : f_X7_goOn E S = some SS) : Met l yX7_goOn wsX7_goOn (rmN 4) (va_Pc [.ref (B 1 0)] (WS G B E S)) (QV G B E SS) 0 0 (AA G) := by
  refine Met.ofW (cc := cX7_goOn) (maxL := 1) (ret := none) (by decide) rfl ?_
  intro p e s m args below meth c s₁ B0 hml hv
  obtain ⟨rfl, hW, hF⟩ := hv
  have hx := B0.exec
  have hb := B0.bytes
  have hr := B0.returns
  have hts := atoms_spec (ws := wsX7_goOn) B0.pre
  have hown : s.vm.findClass RX7 = some m.cls := findClass_of_methodNamed B0.named
  have hlocks := B0.notSynchronized
  have hK := hF.1
  have hfix : CallFix p m c cX7_goOn 1 s [.ref (B 1 0)].toArray wsX7_goOn RX7 := ⟨hx, hb, hml, hown, hts⟩
  have hS : va_S (AA G) s.heap s.heap [] := va_S.rf
  have hl := lv_entry [.ref (B 1 0)] (n := 1) (Nat.le_of_ble_eq_true rfl)
  rw [lg_entry_eq]
  generalize (lg_sl [.ref (B 1 0)] ++ List.replicate (1 - (lg_sl [.ref (B 1 0)]).length) Slot.unset).toArray = ls at hl ⊢
  have hl : lv_has ls 1 [(0, .ref (B 1 0))] := hl
  have q0 := hts (.fieldLink RX7 59 "MovesUpModel" "at" "I") (List.mem_of_getElem? (i := 1) rfl)
  have q1 := hts (.fieldLink RX7 68 "MovesUpModel" "size" "I") (List.mem_of_getElem? (i := 2) rfl)
  have hi7 : ∀ w ∈ u_ws RX7 TX7 47, w ∈ wsX7_goOn := in_seg 44 rfl
  unfold f_X7_goOn at hf
  refine lv_aload_n hx hb dX7_goOn_0 rfl (lv_at hl 0 rfl) ?_
  refine lv_dup hx hb dX7_goOn_1 rfl ?_
  refine x_get hx hb hts hi7 hown hK hW (c1 hE) (e1 _ _ _ _ _ _) rfl 9 (Nat.le_of_ble_eq_true rfl) q0 (fun _ h => h) (v := .int (gI S 1 0 9)) rfl dX7_goOn_2 ?_
  refine lv_aload_n hx hb dX7_goOn_5 rfl (lv_at hl 0 rfl) ?_
  refine x_get hx hb hts hi7 hown hK hW (c1 hE) (e1 _ _ _ _ _ _) rfl 12 (Nat.le_of_ble_eq_true rfl) q1 (fun _ h => h) (v := .int (gI S 1 0 12)) rfl dX7_goOn_6 ?_
  refine lv_iadd hx hb dX7_goOn_9 ?_
  obtain ⟨S1, e_S1, hf⟩ := lt_out hf
  refine x_putI hx hb hts hi7 tyX7 tyX7_ok nmX7 hown hK hW hS (c1 hE) (e1 _ _ _) rfl 9 (Nat.le_of_ble_eq_true rfl) q0 (fun _ h => h) rfl (tyX7_ok 9 (Nat.le_of_ble_eq_true rfl)) rfl rfl (Nat.le_of_ble_eq_true rfl) (pu1_9 _ _) e_S1 dX7_goOn_10 (fun H locs hW hS => ?_)
  refine lv_aload_n hx hb dX7_goOn_13 rfl (lv_at hl 0 rfl) ?_
  obtain ⟨S2, hc, hf⟩ := bd_out hf
  refine y_v (va_runV (As := []) (rest := []) hfix (m_X7_look l G B E hE S1  S2 hc) (cwV 0 hts gX7_goOn_X7_look rfl rfl rfl ⟨rfl, hd_X7_look⟩ ⟨Nat.le_of_ble_eq_true rfl, Nat.le_of_ble_eq_true rfl⟩) (y_pv hF hW hS (c1 hE) (e1 _ _ _ _ _ _) rfl) rfl rfl hl.1 rfl (lv_room (Nat.le_of_ble_eq_true rfl)) dX7_goOn_14 ⟨Nat.le_of_ble_eq_true rfl, Nat.le_of_ble_eq_true rfl⟩) hS (fun H locs hW hS => ?_)
  exact z_v hf hx hb hr hF hW hS dX7_goOn_17 hlocks
set_option maxHeartbeats 4000000 in
set_option maxRecDepth 100000 in
theorem m_X7_isWord (l : Launch) (G : GE) (B : Nat → Nat → Nat) (E : EN) (hE : 0 < E.2.2.2)  (S : ST) (a1 : Int32) (rr : Int32) (hf : f_X7_isWord E S a1 = some rr) : Met l yX7_isWord wsX7_isWord (rmN 1) (va_Pc [.ref (B 1 0), .int a1] (WS G B E S)) (QI G B E S rr) 0 0 (AA G) := by
  refine Met.ofW (cc := cX7_isWord) (maxL := 2) (ret := (some .boolean)) (by decide) rfl ?_
  intro p e s m args below meth c s₁ B0 hml hv
  obtain ⟨rfl, hW, hF⟩ := hv
  have hx := B0.exec
  have hb := B0.bytes
  have hr := B0.returns
  have hts := atoms_spec (ws := wsX7_isWord) B0.pre
  have hown : s.vm.findClass RX7 = some m.cls := findClass_of_methodNamed B0.named
  have hlocks := B0.notSynchronized
  have hK := hF.1
  have hfix : CallFix p m c cX7_isWord 2 s [.ref (B 1 0), .int a1].toArray wsX7_isWord RX7 := ⟨hx, hb, hml, hown, hts⟩
  have hS : va_S (AA G) s.heap s.heap [] := va_S.rf
  have hl := lv_entry [.ref (B 1 0), .int a1] (n := 2) (Nat.le_of_ble_eq_true rfl)
  rw [lg_entry_eq]
  generalize (lg_sl [.ref (B 1 0), .int a1] ++ List.replicate (2 - (lg_sl [.ref (B 1 0), .int a1]).length) Slot.unset).toArray = ls at hl ⊢
  have hl : lv_has ls 2 [(0, .ref (B 1 0)), (1, .int a1)] := hl
  have q0 := hts (.fieldLink RX7 62 "MovesUpModel" "token" "I") (List.mem_of_getElem? (i := 1) rfl)
  have q1 := hts (.fieldLink RX7 65 "MovesUpModel" "word" "I") (List.mem_of_getElem? (i := 2) rfl)
  have hi7 : ∀ w ∈ u_ws RX7 TX7 47, w ∈ wsX7_isWord := in_seg 3 rfl
  unfold f_X7_isWord at hf
  refine lv_aload_n hx hb dX7_isWord_0 rfl (lv_at hl 0 rfl) ?_
  refine x_get hx hb hts hi7 hown hK hW (c1 hE) (e1 _ _ _ _ _ _) rfl 10 (Nat.le_of_ble_eq_true rfl) q0 (fun _ h => h) (v := .int (gI S 1 0 10)) rfl dX7_isWord_1 ?_
  refine lv_iconst (v := 2) hx hb dX7_isWord_4 rfl ?_
  refine lv_icmp_ne (tgt := 20) hx hb dX7_isWord_5 (by decide) (fun h => ?_) (fun h => ?_)
  · have hf := if_f h hf
    refine lv_iconst (v := 0) hx hb dX7_isWord_20 rfl ?_
    exact zr_i hf hx hb hr rfl hF hW hS dX7_isWord_21 hlocks
  · have hf := if_t h hf
    refine lv_aload_n hx hb dX7_isWord_8 rfl (lv_at hl 0 rfl) ?_
    refine x_get hx hb hts hi7 hown hK hW (c1 hE) (e1 _ _ _ _ _ _) rfl 11 (Nat.le_of_ble_eq_true rfl) q1 (fun _ h => h) (v := .int (gI S 1 0 11)) rfl dX7_isWord_9 ?_
    refine lv_iload_n hx hb dX7_isWord_12 rfl (lv_at hl 1 rfl) ?_
    refine lv_icmp_ne (tgt := 20) hx hb dX7_isWord_13 (by decide) (fun h => ?_) (fun h => ?_)
    · have hf := if_f h hf
      refine lv_iconst (v := 0) hx hb dX7_isWord_20 rfl ?_
      exact zr_i hf hx hb hr rfl hF hW hS dX7_isWord_21 hlocks
    · have hf := if_t h hf
      refine lv_iconst (v := 1) hx hb dX7_isWord_16 rfl ?_
      refine lv_goto (tgt := 21) hx hb dX7_isWord_17 (by decide) ?_
      exact zr_i hf hx hb hr rfl hF hW hS dX7_isWord_21 hlocks
set_option maxHeartbeats 4000000 in
set_option maxRecDepth 100000 in
theorem m_X7_put (l : Launch) (G : GE) (B : Nat → Nat → Nat) (E : EN) (hE : 0 < E.2.2.2)  (S : ST) (a1 : Int32) (a2 : Int32) (SS : ST) (hf : f_X7_put E S a1 a2 = some SS) : Met l yX7_put wsX7_put (rmN 1) (va_Pc [.ref (B 1 0), .int a1, .int a2] (WS G B E S)) (QV G B E SS) 0 0 (AA G) := by
  refine Met.ofW (cc := cX7_put) (maxL := 3) (ret := none) (by decide) rfl ?_
  intro p e s m args below meth c s₁ B0 hml hv
  obtain ⟨rfl, hW, hF⟩ := hv
  have hx := B0.exec
  have hb := B0.bytes
  have hr := B0.returns
  have hts := atoms_spec (ws := wsX7_put) B0.pre
  have hown : s.vm.findClass RX7 = some m.cls := findClass_of_methodNamed B0.named
  have hlocks := B0.notSynchronized
  have hK := hF.1
  have hfix : CallFix p m c cX7_put 3 s [.ref (B 1 0), .int a1, .int a2].toArray wsX7_put RX7 := ⟨hx, hb, hml, hown, hts⟩
  have hS : va_S (AA G) s.heap s.heap [] := va_S.rf
  have hl := lv_entry [.ref (B 1 0), .int a1, .int a2] (n := 3) (Nat.le_of_ble_eq_true rfl)
  rw [lg_entry_eq]
  generalize (lg_sl [.ref (B 1 0), .int a1, .int a2] ++ List.replicate (3 - (lg_sl [.ref (B 1 0), .int a1, .int a2]).length) Slot.unset).toArray = ls at hl ⊢
  have hl : lv_has ls 3 [(0, .ref (B 1 0)), (1, .int a1), (2, .int a2)] := hl
  have q0 := hts (.fieldLink RX7 83 "MovesUpModel" "signs" "[I") (List.mem_of_getElem? (i := 1) rfl)
  have q1 := hts (.fieldLink RX7 77 "MovesUpModel" "made" "I") (List.mem_of_getElem? (i := 2) rfl)
  have q2 := hts (.fieldLink RX7 86 "MovesUpModel" "tells" "[I") (List.mem_of_getElem? (i := 3) rfl)
  have hi7 : ∀ w ∈ u_ws RX7 TX7 47, w ∈ wsX7_put := in_seg 4 rfl
  unfold f_X7_put at hf
  refine lv_aload_n hx hb dX7_put_0 rfl (lv_at hl 0 rfl) ?_
  refine x_get hx hb hts hi7 hown hK hW (c1 hE) (e1 _ _ _ _ _ _) rfl 17 (Nat.le_of_ble_eq_true rfl) q0 (fun _ h => h) (v := .ref (B 57 0)) rfl dX7_put_1 ?_
  refine lv_aload_n hx hb dX7_put_4 rfl (lv_at hl 0 rfl) ?_
  refine x_get hx hb hts hi7 hown hK hW (c1 hE) (e1 _ _ _ _ _ _) rfl 15 (Nat.le_of_ble_eq_true rfl) q1 (fun _ h => h) (v := .int (gI S 1 0 15)) rfl dX7_put_5 ?_
  refine lv_iload_n hx hb dX7_put_8 rfl (lv_at hl 1 rfl) ?_
  obtain ⟨hi_1, hf⟩ := ck_out hf
  have hi_1 := ib_in hi_1
  obtain ⟨S2, e_S2, hf⟩ := lt_out hf
  refine x_iast hx hb hK hW hS (c57 hE) (fun f r => e57 _ _ _ f _ r) hi_1 (jn := (gI S 1 0 15).toNatClampNeg) rfl e_S2 dX7_put_9 (fun H locs hW hS => ?_)
  refine lv_aload_n hx hb dX7_put_10 rfl (lv_at hl 0 rfl) ?_
  refine x_get hx hb hts hi7 hown hK hW (c1 hE) (e1 _ _ _ _ _ _) rfl 18 (Nat.le_of_ble_eq_true rfl) q2 (fun _ h => h) (v := .ref (B 58 0)) rfl dX7_put_11 ?_
  refine lv_aload_n hx hb dX7_put_14 rfl (lv_at hl 0 rfl) ?_
  refine x_get hx hb hts hi7 hown hK hW (c1 hE) (e1 _ _ _ _ _ _) rfl 15 (Nat.le_of_ble_eq_true rfl) q1 (fun _ h => h) (v := .int (gI S2 1 0 15)) rfl dX7_put_15 ?_
  refine lv_iload_n hx hb dX7_put_18 rfl (lv_at hl 2 rfl) ?_
  obtain ⟨hi_3, hf⟩ := ck_out hf
  have hi_3 := ib_in hi_3
  obtain ⟨S4, e_S4, hf⟩ := lt_out hf
  refine x_iast hx hb hK hW hS (c58 hE) (fun f r => e58 _ _ _ f _ r) hi_3 (jn := (gI S2 1 0 15).toNatClampNeg) rfl e_S4 dX7_put_19 (fun H locs hW hS => ?_)
  refine lv_aload_n hx hb dX7_put_20 rfl (lv_at hl 0 rfl) ?_
  refine lv_dup hx hb dX7_put_21 rfl ?_
  refine x_get hx hb hts hi7 hown hK hW (c1 hE) (e1 _ _ _ _ _ _) rfl 15 (Nat.le_of_ble_eq_true rfl) q1 (fun _ h => h) (v := .int (gI S4 1 0 15)) rfl dX7_put_22 ?_
  refine lv_iconst (v := 1) hx hb dX7_put_25 rfl ?_
  refine lv_iadd hx hb dX7_put_26 ?_
  obtain ⟨S5, e_S5, hf⟩ := lt_out hf
  refine x_putI hx hb hts hi7 tyX7 tyX7_ok nmX7 hown hK hW hS (c1 hE) (e1 _ _ _) rfl 15 (Nat.le_of_ble_eq_true rfl) q1 (fun _ h => h) rfl (tyX7_ok 15 (Nat.le_of_ble_eq_true rfl)) rfl rfl (Nat.le_of_ble_eq_true rfl) (pu1_15 _ _) e_S5 dX7_put_27 (fun H locs hW hS => ?_)
  exact z_v hf hx hb hr hF hW hS dX7_put_30 hlocks
set_option maxHeartbeats 4000000 in
set_option maxRecDepth 100000 in
theorem m_X7_top (l : Launch) (G : GE) (B : Nat → Nat → Nat) (E : EN) (hE : 0 < E.2.2.2)  (S : ST)  (rr : Int32) (hf : f_X7_top E S = some rr) : Met l yX7_top wsX7_top (rmN 1) (va_Pc [.ref (B 1 0)] (WS G B E S)) (QI G B E S rr) 0 0 (AA G) := by
  refine Met.ofW (cc := cX7_top) (maxL := 1) (ret := (some .int)) (by decide) rfl ?_
  intro p e s m args below meth c s₁ B0 hml hv
  obtain ⟨rfl, hW, hF⟩ := hv
  have hx := B0.exec
  have hb := B0.bytes
  have hr := B0.returns
  have hts := atoms_spec (ws := wsX7_top) B0.pre
  have hown : s.vm.findClass RX7 = some m.cls := findClass_of_methodNamed B0.named
  have hlocks := B0.notSynchronized
  have hK := hF.1
  have hfix : CallFix p m c cX7_top 1 s [.ref (B 1 0)].toArray wsX7_top RX7 := ⟨hx, hb, hml, hown, hts⟩
  have hS : va_S (AA G) s.heap s.heap [] := va_S.rf
  have hl := lv_entry [.ref (B 1 0)] (n := 1) (Nat.le_of_ble_eq_true rfl)
  rw [lg_entry_eq]
  generalize (lg_sl [.ref (B 1 0)] ++ List.replicate (1 - (lg_sl [.ref (B 1 0)]).length) Slot.unset).toArray = ls at hl ⊢
  have hl : lv_has ls 1 [(0, .ref (B 1 0))] := hl
  have q0 := hts (.fieldLink RX7 74 "MovesUpModel" "waiting" "I") (List.mem_of_getElem? (i := 1) rfl)
  have q1 := hts (.fieldLink RX7 92 "MovesUpModel" "waits" "[I") (List.mem_of_getElem? (i := 2) rfl)
  have hi7 : ∀ w ∈ u_ws RX7 TX7 47, w ∈ wsX7_top := in_seg 3 rfl
  unfold f_X7_top at hf
  refine lv_aload_n hx hb dX7_top_0 rfl (lv_at hl 0 rfl) ?_
  refine x_get hx hb hts hi7 hown hK hW (c1 hE) (e1 _ _ _ _ _ _) rfl 14 (Nat.le_of_ble_eq_true rfl) q0 (fun _ h => h) (v := .int (gI S 1 0 14)) rfl dX7_top_1 ?_
  refine lv_if_le (tgt := 21) hx hb dX7_top_4 (by decide) (fun h => ?_) (fun h => ?_)
  · have hf := if_t h hf
    refine lv_iconst (v := -1) hx hb dX7_top_21 rfl ?_
    exact zr_i hf hx hb hr rfl hF hW hS dX7_top_22 hlocks
  · have hf := if_f h hf
    refine lv_aload_n hx hb dX7_top_7 rfl (lv_at hl 0 rfl) ?_
    refine x_get hx hb hts hi7 hown hK hW (c1 hE) (e1 _ _ _ _ _ _) rfl 20 (Nat.le_of_ble_eq_true rfl) q1 (fun _ h => h) (v := .ref (B 60 0)) rfl dX7_top_8 ?_
    refine lv_aload_n hx hb dX7_top_11 rfl (lv_at hl 0 rfl) ?_
    refine x_get hx hb hts hi7 hown hK hW (c1 hE) (e1 _ _ _ _ _ _) rfl 14 (Nat.le_of_ble_eq_true rfl) q0 (fun _ h => h) (v := .int (gI S 1 0 14)) rfl dX7_top_12 ?_
    refine lv_iconst (v := 1) hx hb dX7_top_15 rfl ?_
    refine lv_isub hx hb dX7_top_16 ?_
    obtain ⟨hi_1, hf⟩ := ck_out hf
    have hi_1 := ib_in hi_1
    refine x_iald hx hb hK hW (c60 hE) (e60 _ _ _ _ _ _) hi_1 (jn := ((gI S 1 0 14) - (1 : Int32)).toNatClampNeg) rfl dX7_top_17 ?_
    refine lv_goto (tgt := 22) hx hb dX7_top_18 (by decide) ?_
    exact zr_i hf hx hb hr rfl hF hW hS dX7_top_22 hlocks
