set_option maxHeartbeats 4000000 in
set_option maxRecDepth 100000 in
theorem m_X7_image (l : Launch) (G : GE) (B : Nat → Nat → Nat) (E : EN) (hE : 0 < E.2.2.2)  (S : ST)  (rr : Int32) (SS : ST) (hf : f_X7_image E S = some (rr, SS)) : Met l yX7_image wsX7_image (rmN 1) (va_Pc [.ref (B 1 0)] (WS G B E S)) (QI G B E SS rr) 0 0 (AA G) := by
  refine Met.ofW (cc := cX7_image) (maxL := 2) (ret := (some .int)) (by decide) rfl ?_
  intro p e s m args below meth c s₁ B0 hml hv
  obtain ⟨rfl, hW, hF⟩ := hv
  have hx := B0.exec
  have hb := B0.bytes
  have hr := B0.returns
  have hts := atoms_spec (ws := wsX7_image) B0.pre
  have hown : s.vm.findClass RX7 = some m.cls := findClass_of_methodNamed B0.named
  have hlocks := B0.notSynchronized
  have hK := hF.1
  have hfix : CallFix p m c cX7_image 2 s [.ref (B 1 0)].toArray wsX7_image RX7 := ⟨hx, hb, hml, hown, hts⟩
  have hS : va_S (AA G) s.heap s.heap [] := va_S.rf
  have hl := lv_entry [.ref (B 1 0)] (n := 2) (Nat.le_of_ble_eq_true rfl)
  rw [lg_entry_eq]
  generalize (lg_sl [.ref (B 1 0)] ++ List.replicate (2 - (lg_sl [.ref (B 1 0)]).length) Slot.unset).toArray = ls at hl ⊢
  have hl : lv_has ls 2 [(0, .ref (B 1 0))] := hl
  have q0 := hts (.fieldLink RX7 1 "MovesUpModel" "pupils" "I") (List.mem_of_getElem? (i := 2) rfl)
  have q1 := hts (.fieldLink RX7 162 "MovesUpModel" "imageGrade" "[I") (List.mem_of_getElem? (i := 8) rfl)
  have q2 := hts (.fieldLink RX7 15 "MovesUpModel" "grade" "[I") (List.mem_of_getElem? (i := 9) rfl)
  have q3 := hts (.fieldLink RX7 159 "MovesUpModel" "imageWeight" "[I") (List.mem_of_getElem? (i := 6) rfl)
  have q4 := hts (.fieldLink RX7 24 "MovesUpModel" "weight" "[I") (List.mem_of_getElem? (i := 7) rfl)
  have q5 := hts (.fieldLink RX7 149 "MovesUpModel" "hasImage" "Z") (List.mem_of_getElem? (i := 1) rfl)
  have q6 := hts (.fieldLink RX7 153 "MovesUpModel" "imagePupils" "I") (List.mem_of_getElem? (i := 3) rfl)
  have q7 := hts (.fieldLink RX7 53 "MovesUpModel" "rule" "I") (List.mem_of_getElem? (i := 4) rfl)
  have q8 := hts (.fieldLink RX7 156 "MovesUpModel" "imageRule" "I") (List.mem_of_getElem? (i := 5) rfl)
  have hi7 : ∀ w ∈ u_ws RX7 TX7 47, w ∈ wsX7_image := in_seg 10 rfl
  have w73 : ∀ (S : ST)  , f_X7_image_b73 E S  = some (rr, SS) → ∀ (H : Heap) (locs : List Loc) (ls : Array Slot), WH G B E S H → va_S (AA G) s.heap H locs → lv_has ls 2 [(0, .ref (B 1 0))] → W p l e (headSpec wsX7_image (rmN 1)).room s m [.ref (B 1 0)].toArray below meth c H locs 0 0 (MQ below (QI G B E SS rr) [.ref (B 1 0)].toArray s 0 0 (AA G)) (F0 m 73 ls []) := by
    intro S  hf H locs ls hW hS hl
    unfold f_X7_image_b73 at hf
    refine lv_aload_n hx hb dX7_image_73 rfl (lv_at hl 0 rfl) ?_
    refine x_get hx hb hts hi7 hown hK hW (c1 hE) (e1 _ _ _ _ _ _) rfl 0 (Nat.le_of_ble_eq_true rfl) q0 (fun _ h => h) (v := .int (gI S 1 0 0)) rfl dX7_image_74 ?_
    exact z_i hf hx hb hr rfl hF hW hS dX7_image_77 hlocks
  have w49 : ∀ (n49 : Nat) (S : ST) (v1 : Int32) , f_X7_image_b49 E n49 S v1 = some (rr, SS) → ∀ (H : Heap) (locs : List Loc) (ls : Array Slot), WH G B E S H → va_S (AA G) s.heap H locs → lv_has ls 2 [(0, .ref (B 1 0)), (1, .int v1)] → W p l e (headSpec wsX7_image (rmN 1)).room s m [.ref (B 1 0)].toArray below meth c H locs 0 0 (MQ below (QI G B E SS rr) [.ref (B 1 0)].toArray s 0 0 (AA G)) (F0 m 49 ls []) := by
    intro n49
    induction n49 with
    | zero =>
      intro S v1 hf
      exact absurd (show (none : Option (Int32 × ST)) = some (rr, SS) from hf) (fun h => by cases h)
    | succ n49 ih49 =>
      intro S v1 hf H locs ls hW hS hl
      have hf : g_X7_image_b49 E (f_X7_image_b49 E n49) S v1 = some (rr, SS) := hf
      unfold g_X7_image_b49 at hf
      refine lv_iload_n hx hb dX7_image_49 rfl (lv_at hl 1 rfl) ?_
      refine lv_bipush (v := 8) hx hb dX7_image_50 (by decide) ?_
      refine lv_icmp_ge (tgt := 73) hx hb dX7_image_52 (by decide) (fun h => ?_) (fun h => ?_)
      · have hf := if_t h hf
        exact w73 S  hf _ _ _ hW hS (lv_sub hl [0] rfl)
      · have hf := if_f h hf
        refine lv_aload_n hx hb dX7_image_55 rfl (lv_at hl 0 rfl) ?_
        refine x_get hx hb hts hi7 hown hK hW (c1 hE) (e1 _ _ _ _ _ _) rfl 42 (Nat.le_of_ble_eq_true rfl) q1 (fun _ h => h) (v := .ref (B 82 0)) rfl dX7_image_56 ?_
        refine lv_iload_n hx hb dX7_image_59 rfl (lv_at hl 1 rfl) ?_
        refine lv_aload_n hx hb dX7_image_60 rfl (lv_at hl 0 rfl) ?_
        refine x_get hx hb hts hi7 hown hK hW (c1 hE) (e1 _ _ _ _ _ _) rfl 2 (Nat.le_of_ble_eq_true rfl) q2 (fun _ h => h) (v := .ref (B 42 0)) rfl dX7_image_61 ?_
        refine lv_iload_n hx hb dX7_image_64 rfl (lv_at hl 1 rfl) ?_
        obtain ⟨hi_1, hf⟩ := ck_out hf
        have hi_1 := ib_in hi_1
        refine x_iald hx hb hK hW (c42 hE) (e42 _ _ _ _ _ _) hi_1 (jn := v1.toNatClampNeg) rfl dX7_image_65 ?_
        obtain ⟨S2, e_S2, hf⟩ := lt_out hf
        refine x_iast hx hb hK hW hS (c82 hE) (fun f r => e82 _ _ _ f _ r) hi_1 (jn := v1.toNatClampNeg) rfl e_S2 dX7_image_66 (fun H locs hW hS => ?_)
        obtain ⟨x3, e_x3, hf⟩ := lt_out hf
        refine lv_iinc (v := x3) (lv' := [(1, .int x3), (0, .ref (B 1 0))]) hx hb dX7_image_67 hl (k := 1) rfl (by rw [e_x3]; rfl) (by decide) rfl (fun ls hl => ?_)
        refine lv_goto (tgt := 49) hx hb dX7_image_70 (by decide) ?_
        exact ih49 S2 x3  hf _ _ _ hW hS (lv_sub hl [1, 0] rfl)
  have w47 : ∀ (S : ST)  , f_X7_image_b47 E S  = some (rr, SS) → ∀ (H : Heap) (locs : List Loc) (ls : Array Slot), WH G B E S H → va_S (AA G) s.heap H locs → lv_has ls 2 [(0, .ref (B 1 0))] → W p l e (headSpec wsX7_image (rmN 1)).room s m [.ref (B 1 0)].toArray below meth c H locs 0 0 (MQ below (QI G B E SS rr) [.ref (B 1 0)].toArray s 0 0 (AA G)) (F0 m 47 ls []) := by
    intro S  hf H locs ls hW hS hl
    unfold f_X7_image_b47 at hf
    refine lv_iconst (v := 0) hx hb dX7_image_47 rfl ?_
    refine lv_istore_n (lv' := [(1, .int (0 : Int32)), (0, .ref (B 1 0))]) hx hb dX7_image_48 rfl hl (by decide) rfl (fun ls hl => ?_)
    exact w49 E.1 S (0 : Int32)  hf _ _ _ hW hS (lv_sub hl [1, 0] rfl)
  have w23 : ∀ (n23 : Nat) (S : ST) (v1 : Int32) , f_X7_image_b23 E n23 S v1 = some (rr, SS) → ∀ (H : Heap) (locs : List Loc) (ls : Array Slot), WH G B E S H → va_S (AA G) s.heap H locs → lv_has ls 2 [(0, .ref (B 1 0)), (1, .int v1)] → W p l e (headSpec wsX7_image (rmN 1)).room s m [.ref (B 1 0)].toArray below meth c H locs 0 0 (MQ below (QI G B E SS rr) [.ref (B 1 0)].toArray s 0 0 (AA G)) (F0 m 23 ls []) := by
    intro n23
    induction n23 with
    | zero =>
      intro S v1 hf
      exact absurd (show (none : Option (Int32 × ST)) = some (rr, SS) from hf) (fun h => by cases h)
    | succ n23 ih23 =>
      intro S v1 hf H locs ls hW hS hl
      have hf : g_X7_image_b23 E (f_X7_image_b23 E n23) S v1 = some (rr, SS) := hf
      unfold g_X7_image_b23 at hf
      refine lv_iload_n hx hb dX7_image_23 rfl (lv_at hl 1 rfl) ?_
      refine lv_bipush (v := 40) hx hb dX7_image_24 (by decide) ?_
      refine lv_icmp_ge (tgt := 47) hx hb dX7_image_26 (by decide) (fun h => ?_) (fun h => ?_)
      · have hf := if_t h hf
        exact w47 S  hf _ _ _ hW hS (lv_sub hl [0] rfl)
      · have hf := if_f h hf
        refine lv_aload_n hx hb dX7_image_29 rfl (lv_at hl 0 rfl) ?_
        refine x_get hx hb hts hi7 hown hK hW (c1 hE) (e1 _ _ _ _ _ _) rfl 41 (Nat.le_of_ble_eq_true rfl) q3 (fun _ h => h) (v := .ref (B 81 0)) rfl dX7_image_30 ?_
        refine lv_iload_n hx hb dX7_image_33 rfl (lv_at hl 1 rfl) ?_
        refine lv_aload_n hx hb dX7_image_34 rfl (lv_at hl 0 rfl) ?_
        refine x_get hx hb hts hi7 hown hK hW (c1 hE) (e1 _ _ _ _ _ _) rfl 5 (Nat.le_of_ble_eq_true rfl) q4 (fun _ h => h) (v := .ref (B 45 0)) rfl dX7_image_35 ?_
        refine lv_iload_n hx hb dX7_image_38 rfl (lv_at hl 1 rfl) ?_
        obtain ⟨hi_4, hf⟩ := ck_out hf
        have hi_4 := ib_in hi_4
        refine x_iald hx hb hK hW (c45 hE) (e45 _ _ _ _ _ _) hi_4 (jn := v1.toNatClampNeg) rfl dX7_image_39 ?_
        obtain ⟨S5, e_S5, hf⟩ := lt_out hf
        refine x_iast hx hb hK hW hS (c81 hE) (fun f r => e81 _ _ _ f _ r) hi_4 (jn := v1.toNatClampNeg) rfl e_S5 dX7_image_40 (fun H locs hW hS => ?_)
        obtain ⟨x6, e_x6, hf⟩ := lt_out hf
        refine lv_iinc (v := x6) (lv' := [(1, .int x6), (0, .ref (B 1 0))]) hx hb dX7_image_41 hl (k := 1) rfl (by rw [e_x6]; rfl) (by decide) rfl (fun ls hl => ?_)
        refine lv_goto (tgt := 23) hx hb dX7_image_44 (by decide) ?_
        exact ih23 S5 x6  hf _ _ _ hW hS (lv_sub hl [1, 0] rfl)
  unfold f_X7_image at hf
  refine lv_aload_n hx hb dX7_image_0 rfl (lv_at hl 0 rfl) ?_
  refine lv_iconst (v := 1) hx hb dX7_image_1 rfl ?_
  obtain ⟨S7, e_S7, hf⟩ := lt_out hf
  refine x_putI hx hb hts hi7 tyX7 tyX7_ok nmX7 hown hK hW hS (c1 hE) (e1 _ _ _) rfl 38 (Nat.le_of_ble_eq_true rfl) q5 (fun _ h => h) rfl (tyX7_ok 38 (Nat.le_of_ble_eq_true rfl)) rfl rfl (Nat.le_of_ble_eq_true rfl) (pu1_38 _ _) e_S7 dX7_image_2 (fun H locs hW hS => ?_)
  refine lv_aload_n hx hb dX7_image_5 rfl (lv_at hl 0 rfl) ?_
  refine lv_aload_n hx hb dX7_image_6 rfl (lv_at hl 0 rfl) ?_
  refine x_get hx hb hts hi7 hown hK hW (c1 hE) (e1 _ _ _ _ _ _) rfl 0 (Nat.le_of_ble_eq_true rfl) q0 (fun _ h => h) (v := .int (gI S7 1 0 0)) rfl dX7_image_7 ?_
  obtain ⟨S8, e_S8, hf⟩ := lt_out hf
  refine x_putI hx hb hts hi7 tyX7 tyX7_ok nmX7 hown hK hW hS (c1 hE) (e1 _ _ _) rfl 39 (Nat.le_of_ble_eq_true rfl) q6 (fun _ h => h) rfl (tyX7_ok 39 (Nat.le_of_ble_eq_true rfl)) rfl rfl (Nat.le_of_ble_eq_true rfl) (pu1_39 _ _) e_S8 dX7_image_10 (fun H locs hW hS => ?_)
  refine lv_aload_n hx hb dX7_image_13 rfl (lv_at hl 0 rfl) ?_
  refine lv_aload_n hx hb dX7_image_14 rfl (lv_at hl 0 rfl) ?_
  refine x_get hx hb hts hi7 hown hK hW (c1 hE) (e1 _ _ _ _ _ _) rfl 7 (Nat.le_of_ble_eq_true rfl) q7 (fun _ h => h) (v := .int (gI S8 1 0 7)) rfl dX7_image_15 ?_
  obtain ⟨S9, e_S9, hf⟩ := lt_out hf
  refine x_putI hx hb hts hi7 tyX7 tyX7_ok nmX7 hown hK hW hS (c1 hE) (e1 _ _ _) rfl 40 (Nat.le_of_ble_eq_true rfl) q8 (fun _ h => h) rfl (tyX7_ok 40 (Nat.le_of_ble_eq_true rfl)) rfl rfl (Nat.le_of_ble_eq_true rfl) (pu1_40 _ _) e_S9 dX7_image_18 (fun H locs hW hS => ?_)
  refine lv_iconst (v := 0) hx hb dX7_image_21 rfl ?_
  refine lv_istore_n (lv' := [(1, .int (0 : Int32)), (0, .ref (B 1 0))]) hx hb dX7_image_22 rfl hl (by decide) rfl (fun ls hl => ?_)
  exact w23 E.1 S9 (0 : Int32)  hf _ _ _ hW hS (lv_sub hl [1, 0] rfl)
set_option maxHeartbeats 4000000 in
set_option maxRecDepth 100000 in
theorem m_X7_back (l : Launch) (G : GE) (B : Nat → Nat → Nat) (E : EN) (hE : 0 < E.2.2.2)  (S : ST)  (rr : Int32) (SS : ST) (hf : f_X7_back E S = some (rr, SS)) : Met l yX7_back wsX7_back (rmN 1) (va_Pc [.ref (B 1 0)] (WS G B E S)) (QI G B E SS rr) 0 0 (AA G) := by
  refine Met.ofW (cc := cX7_back) (maxL := 2) (ret := (some .int)) (by decide) rfl ?_
  intro p e s m args below meth c s₁ B0 hml hv
  obtain ⟨rfl, hW, hF⟩ := hv
  have hx := B0.exec
  have hb := B0.bytes
  have hr := B0.returns
  have hts := atoms_spec (ws := wsX7_back) B0.pre
  have hown : s.vm.findClass RX7 = some m.cls := findClass_of_methodNamed B0.named
  have hlocks := B0.notSynchronized
  have hK := hF.1
  have hfix : CallFix p m c cX7_back 2 s [.ref (B 1 0)].toArray wsX7_back RX7 := ⟨hx, hb, hml, hown, hts⟩
  have hS : va_S (AA G) s.heap s.heap [] := va_S.rf
  have hl := lv_entry [.ref (B 1 0)] (n := 2) (Nat.le_of_ble_eq_true rfl)
  rw [lg_entry_eq]
  generalize (lg_sl [.ref (B 1 0)] ++ List.replicate (2 - (lg_sl [.ref (B 1 0)]).length) Slot.unset).toArray = ls at hl ⊢
  have hl : lv_has ls 2 [(0, .ref (B 1 0))] := hl
  have q0 := hts (.fieldLink RX7 1 "MovesUpModel" "pupils" "I") (List.mem_of_getElem? (i := 9) rfl)
  have q1 := hts (.fieldLink RX7 153 "MovesUpModel" "imagePupils" "I") (List.mem_of_getElem? (i := 4) rfl)
  have q2 := hts (.fieldLink RX7 15 "MovesUpModel" "grade" "[I") (List.mem_of_getElem? (i := 7) rfl)
  have q3 := hts (.fieldLink RX7 162 "MovesUpModel" "imageGrade" "[I") (List.mem_of_getElem? (i := 8) rfl)
  have q4 := hts (.fieldLink RX7 24 "MovesUpModel" "weight" "[I") (List.mem_of_getElem? (i := 5) rfl)
  have q5 := hts (.fieldLink RX7 159 "MovesUpModel" "imageWeight" "[I") (List.mem_of_getElem? (i := 6) rfl)
  have q6 := hts (.fieldLink RX7 149 "MovesUpModel" "hasImage" "Z") (List.mem_of_getElem? (i := 1) rfl)
  have q7 := hts (.fieldLink RX7 156 "MovesUpModel" "imageRule" "I") (List.mem_of_getElem? (i := 2) rfl)
  have q8 := hts (.fieldLink RX7 53 "MovesUpModel" "rule" "I") (List.mem_of_getElem? (i := 3) rfl)
  have hi7 : ∀ w ∈ u_ws RX7 TX7 47, w ∈ wsX7_back := in_seg 10 rfl
  have w76 : ∀ (S : ST)  , f_X7_back_b76 E S  = some (rr, SS) → ∀ (H : Heap) (locs : List Loc) (ls : Array Slot), WH G B E S H → va_S (AA G) s.heap H locs → lv_has ls 2 [(0, .ref (B 1 0))] → W p l e (headSpec wsX7_back (rmN 1)).room s m [.ref (B 1 0)].toArray below meth c H locs 0 0 (MQ below (QI G B E SS rr) [.ref (B 1 0)].toArray s 0 0 (AA G)) (F0 m 76 ls []) := by
    intro S  hf H locs ls hW hS hl
    unfold f_X7_back_b76 at hf
    refine lv_aload_n hx hb dX7_back_76 rfl (lv_at hl 0 rfl) ?_
    refine x_get hx hb hts hi7 hown hK hW (c1 hE) (e1 _ _ _ _ _ _) rfl 0 (Nat.le_of_ble_eq_true rfl) q0 (fun _ h => h) (v := .int (gI S 1 0 0)) rfl dX7_back_77 ?_
    exact z_i hf hx hb hr rfl hF hW hS dX7_back_80 hlocks
  have w50 : ∀ (n50 : Nat) (S : ST) (v1 : Int32) , f_X7_back_b50 E n50 S v1 = some (rr, SS) → ∀ (H : Heap) (locs : List Loc) (ls : Array Slot), WH G B E S H → va_S (AA G) s.heap H locs → lv_has ls 2 [(0, .ref (B 1 0)), (1, .int v1)] → W p l e (headSpec wsX7_back (rmN 1)).room s m [.ref (B 1 0)].toArray below meth c H locs 0 0 (MQ below (QI G B E SS rr) [.ref (B 1 0)].toArray s 0 0 (AA G)) (F0 m 50 ls []) := by
    intro n50
    induction n50 with
    | zero =>
      intro S v1 hf
      exact absurd (show (none : Option (Int32 × ST)) = some (rr, SS) from hf) (fun h => by cases h)
    | succ n50 ih50 =>
      intro S v1 hf H locs ls hW hS hl
      have hf : g_X7_back_b50 E (f_X7_back_b50 E n50) S v1 = some (rr, SS) := hf
      unfold g_X7_back_b50 at hf
      refine lv_iload_n hx hb dX7_back_50 rfl (lv_at hl 1 rfl) ?_
      refine lv_aload_n hx hb dX7_back_51 rfl (lv_at hl 0 rfl) ?_
      refine x_get hx hb hts hi7 hown hK hW (c1 hE) (e1 _ _ _ _ _ _) rfl 39 (Nat.le_of_ble_eq_true rfl) q1 (fun _ h => h) (v := .int (gI S 1 0 39)) rfl dX7_back_52 ?_
      refine lv_icmp_ge (tgt := 76) hx hb dX7_back_55 (by decide) (fun h => ?_) (fun h => ?_)
      · have hf := if_t h hf
        exact w76 S  hf _ _ _ hW hS (lv_sub hl [0] rfl)
      · have hf := if_f h hf
        refine lv_aload_n hx hb dX7_back_58 rfl (lv_at hl 0 rfl) ?_
        refine x_get hx hb hts hi7 hown hK hW (c1 hE) (e1 _ _ _ _ _ _) rfl 2 (Nat.le_of_ble_eq_true rfl) q2 (fun _ h => h) (v := .ref (B 42 0)) rfl dX7_back_59 ?_
        refine lv_iload_n hx hb dX7_back_62 rfl (lv_at hl 1 rfl) ?_
        refine lv_aload_n hx hb dX7_back_63 rfl (lv_at hl 0 rfl) ?_
        refine x_get hx hb hts hi7 hown hK hW (c1 hE) (e1 _ _ _ _ _ _) rfl 42 (Nat.le_of_ble_eq_true rfl) q3 (fun _ h => h) (v := .ref (B 82 0)) rfl dX7_back_64 ?_
        refine lv_iload_n hx hb dX7_back_67 rfl (lv_at hl 1 rfl) ?_
        obtain ⟨hi_1, hf⟩ := ck_out hf
        have hi_1 := ib_in hi_1
        refine x_iald hx hb hK hW (c82 hE) (e82 _ _ _ _ _ _) hi_1 (jn := v1.toNatClampNeg) rfl dX7_back_68 ?_
        obtain ⟨S2, e_S2, hf⟩ := lt_out hf
        refine x_iast hx hb hK hW hS (c42 hE) (fun f r => e42 _ _ _ f _ r) hi_1 (jn := v1.toNatClampNeg) rfl e_S2 dX7_back_69 (fun H locs hW hS => ?_)
        obtain ⟨x3, e_x3, hf⟩ := lt_out hf
        refine lv_iinc (v := x3) (lv' := [(1, .int x3), (0, .ref (B 1 0))]) hx hb dX7_back_70 hl (k := 1) rfl (by rw [e_x3]; rfl) (by decide) rfl (fun ls hl => ?_)
        refine lv_goto (tgt := 50) hx hb dX7_back_73 (by decide) ?_
        exact ih50 S2 x3  hf _ _ _ hW hS (lv_sub hl [1, 0] rfl)
  have w48 : ∀ (S : ST)  , f_X7_back_b48 E S  = some (rr, SS) → ∀ (H : Heap) (locs : List Loc) (ls : Array Slot), WH G B E S H → va_S (AA G) s.heap H locs → lv_has ls 2 [(0, .ref (B 1 0))] → W p l e (headSpec wsX7_back (rmN 1)).room s m [.ref (B 1 0)].toArray below meth c H locs 0 0 (MQ below (QI G B E SS rr) [.ref (B 1 0)].toArray s 0 0 (AA G)) (F0 m 48 ls []) := by
    intro S  hf H locs ls hW hS hl
    unfold f_X7_back_b48 at hf
    refine lv_iconst (v := 0) hx hb dX7_back_48 rfl ?_
    refine lv_istore_n (lv' := [(1, .int (0 : Int32)), (0, .ref (B 1 0))]) hx hb dX7_back_49 rfl hl (by decide) rfl (fun ls hl => ?_)
    exact w50 E.1 S (0 : Int32)  hf _ _ _ hW hS (lv_sub hl [1, 0] rfl)
  have w20 : ∀ (n20 : Nat) (S : ST) (v1 : Int32) , f_X7_back_b20 E n20 S v1 = some (rr, SS) → ∀ (H : Heap) (locs : List Loc) (ls : Array Slot), WH G B E S H → va_S (AA G) s.heap H locs → lv_has ls 2 [(0, .ref (B 1 0)), (1, .int v1)] → W p l e (headSpec wsX7_back (rmN 1)).room s m [.ref (B 1 0)].toArray below meth c H locs 0 0 (MQ below (QI G B E SS rr) [.ref (B 1 0)].toArray s 0 0 (AA G)) (F0 m 20 ls []) := by
    intro n20
    induction n20 with
    | zero =>
      intro S v1 hf
      exact absurd (show (none : Option (Int32 × ST)) = some (rr, SS) from hf) (fun h => by cases h)
    | succ n20 ih20 =>
      intro S v1 hf H locs ls hW hS hl
      have hf : g_X7_back_b20 E (f_X7_back_b20 E n20) S v1 = some (rr, SS) := hf
      unfold g_X7_back_b20 at hf
      refine lv_iload_n hx hb dX7_back_20 rfl (lv_at hl 1 rfl) ?_
      refine lv_iconst (v := 5) hx hb dX7_back_21 rfl ?_
      refine lv_aload_n hx hb dX7_back_22 rfl (lv_at hl 0 rfl) ?_
      refine x_get hx hb hts hi7 hown hK hW (c1 hE) (e1 _ _ _ _ _ _) rfl 39 (Nat.le_of_ble_eq_true rfl) q1 (fun _ h => h) (v := .int (gI S 1 0 39)) rfl dX7_back_23 ?_
      refine lv_imul hx hb dX7_back_26 ?_
      refine lv_icmp_ge (tgt := 48) hx hb dX7_back_27 (by decide) (fun h => ?_) (fun h => ?_)
      · have hf := if_t h hf
        exact w48 S  hf _ _ _ hW hS (lv_sub hl [0] rfl)
      · have hf := if_f h hf
        refine lv_aload_n hx hb dX7_back_30 rfl (lv_at hl 0 rfl) ?_
        refine x_get hx hb hts hi7 hown hK hW (c1 hE) (e1 _ _ _ _ _ _) rfl 5 (Nat.le_of_ble_eq_true rfl) q4 (fun _ h => h) (v := .ref (B 45 0)) rfl dX7_back_31 ?_
        refine lv_iload_n hx hb dX7_back_34 rfl (lv_at hl 1 rfl) ?_
        refine lv_aload_n hx hb dX7_back_35 rfl (lv_at hl 0 rfl) ?_
        refine x_get hx hb hts hi7 hown hK hW (c1 hE) (e1 _ _ _ _ _ _) rfl 41 (Nat.le_of_ble_eq_true rfl) q5 (fun _ h => h) (v := .ref (B 81 0)) rfl dX7_back_36 ?_
        refine lv_iload_n hx hb dX7_back_39 rfl (lv_at hl 1 rfl) ?_
        obtain ⟨hi_4, hf⟩ := ck_out hf
        have hi_4 := ib_in hi_4
        refine x_iald hx hb hK hW (c81 hE) (e81 _ _ _ _ _ _) hi_4 (jn := v1.toNatClampNeg) rfl dX7_back_40 ?_
        obtain ⟨S5, e_S5, hf⟩ := lt_out hf
        refine x_iast hx hb hK hW hS (c45 hE) (fun f r => e45 _ _ _ f _ r) hi_4 (jn := v1.toNatClampNeg) rfl e_S5 dX7_back_41 (fun H locs hW hS => ?_)
        obtain ⟨x6, e_x6, hf⟩ := lt_out hf
        refine lv_iinc (v := x6) (lv' := [(1, .int x6), (0, .ref (B 1 0))]) hx hb dX7_back_42 hl (k := 1) rfl (by rw [e_x6]; rfl) (by decide) rfl (fun ls hl => ?_)
        refine lv_goto (tgt := 20) hx hb dX7_back_45 (by decide) ?_
        exact ih20 S5 x6  hf _ _ _ hW hS (lv_sub hl [1, 0] rfl)
  unfold f_X7_back at hf
  refine lv_aload_n hx hb dX7_back_0 rfl (lv_at hl 0 rfl) ?_
  refine x_get hx hb hts hi7 hown hK hW (c1 hE) (e1 _ _ _ _ _ _) rfl 38 (Nat.le_of_ble_eq_true rfl) q6 (fun _ h => h) (v := .int (gI S 1 0 38)) rfl dX7_back_1 ?_
  refine lv_if_ne (tgt := 10) hx hb dX7_back_4 (by decide) (fun h => ?_) (fun h => ?_)
  · have hf := if_f h hf
    refine lv_aload_n hx hb dX7_back_10 rfl (lv_at hl 0 rfl) ?_
    refine lv_aload_n hx hb dX7_back_11 rfl (lv_at hl 0 rfl) ?_
    refine x_get hx hb hts hi7 hown hK hW (c1 hE) (e1 _ _ _ _ _ _) rfl 40 (Nat.le_of_ble_eq_true rfl) q7 (fun _ h => h) (v := .int (gI S 1 0 40)) rfl dX7_back_12 ?_
    obtain ⟨S7, e_S7, hf⟩ := lt_out hf
    refine x_putI hx hb hts hi7 tyX7 tyX7_ok nmX7 hown hK hW hS (c1 hE) (e1 _ _ _) rfl 7 (Nat.le_of_ble_eq_true rfl) q8 (fun _ h => h) rfl (tyX7_ok 7 (Nat.le_of_ble_eq_true rfl)) rfl rfl (Nat.le_of_ble_eq_true rfl) (pu1_7 _ _) e_S7 dX7_back_15 (fun H locs hW hS => ?_)
    refine lv_iconst (v := 0) hx hb dX7_back_18 rfl ?_
    refine lv_istore_n (lv' := [(1, .int (0 : Int32)), (0, .ref (B 1 0))]) hx hb dX7_back_19 rfl hl (by decide) rfl (fun ls hl => ?_)
    exact w20 E.1 S7 (0 : Int32)  hf _ _ _ hW hS (lv_sub hl [1, 0] rfl)
  · have hf := if_t h hf
    refine lv_bipush (v := -3) hx hb dX7_back_7 (by decide) ?_
    exact z_i hf hx hb hr rfl hF hW hS dX7_back_9 hlocks
set_option maxHeartbeats 4000000 in
set_option maxRecDepth 100000 in
theorem m_X7_count (l : Launch) (G : GE) (B : Nat → Nat → Nat) (E : EN) (hE : 0 < E.2.2.2)  (S : ST) (a1 : Int32) (rr : Int32) (hf : f_X7_count E S a1 = some rr) : Met l yX7_count wsX7_count (rmN 2) (va_Pc [.ref (B 1 0), .int a1] (WS G B E S)) (QI G B E S rr) 0 0 (AA G) := by
  refine Met.ofW (cc := cX7_count) (maxL := 5) (ret := (some .int)) (by decide) rfl ?_
  intro p e s m args below meth c s₁ B0 hml hv
  obtain ⟨rfl, hW, hF⟩ := hv
  have hx := B0.exec
  have hb := B0.bytes
  have hr := B0.returns
  have hts := atoms_spec (ws := wsX7_count) B0.pre
  have hown : s.vm.findClass RX7 = some m.cls := findClass_of_methodNamed B0.named
  have hlocks := B0.notSynchronized
  have hK := hF.1
  have hfix : CallFix p m c cX7_count 5 s [.ref (B 1 0), .int a1].toArray wsX7_count RX7 := ⟨hx, hb, hml, hown, hts⟩
  have hS : va_S (AA G) s.heap s.heap [] := va_S.rf
  have hl := lv_entry [.ref (B 1 0), .int a1] (n := 5) (Nat.le_of_ble_eq_true rfl)
  rw [lg_entry_eq]
  generalize (lg_sl [.ref (B 1 0), .int a1] ++ List.replicate (5 - (lg_sl [.ref (B 1 0), .int a1]).length) Slot.unset).toArray = ls at hl ⊢
  have hl : lv_has ls 5 [(0, .ref (B 1 0)), (1, .int a1)] := hl
  have q0 := hts (.fieldLink RX7 1 "MovesUpModel" "pupils" "I") (List.mem_of_getElem? (i := 1) rfl)
  have q1 := hts (.fieldLink RX7 50 "MovesUpModel" "texts" "I") (List.mem_of_getElem? (i := 3) rfl)
  have q2 := hts (.fieldLink RX7 56 "MovesUpModel" "fed" "I") (List.mem_of_getElem? (i := 4) rfl)
  have q3 := hts (.fieldLink RX7 53 "MovesUpModel" "rule" "I") (List.mem_of_getElem? (i := 5) rfl)
  have q4 := hts (.fieldLink RX7 15 "MovesUpModel" "grade" "[I") (List.mem_of_getElem? (i := 2) rfl)
  have hi7 : ∀ w ∈ u_ws RX7 TX7 47, w ∈ wsX7_count := in_seg 12 rfl
  have w41 : ∀ (_ : Unit) (v1 : Int32) (v2 : Int32) (v3 : Int32) , f_X7_count_b41 E S v1 v2 v3 = some rr → ∀ (H : Heap) (locs : List Loc) (ls : Array Slot), WH G B E S H → va_S (AA G) s.heap H locs → lv_has ls 5 [(0, .ref (B 1 0)), (1, .int v1), (2, .int v2), (3, .int v3)] → W p l e (headSpec wsX7_count (rmN 2)).room s m [.ref (B 1 0), .int a1].toArray below meth c H locs 0 0 (MQ below (QI G B E S rr) [.ref (B 1 0), .int a1].toArray s 0 0 (AA G)) (F0 m 41 ls []) := by
    intro _ v1 v2 v3 hf H locs ls hW hS hl
    unfold f_X7_count_b41 at hf
    refine lv_iload_n hx hb dX7_count_41 rfl (lv_at hl 1 rfl) ?_
    by_cases hn0 : v1 = (0 : Int32)
    · have hf := if_t hn0 hf
      refine lv_tableIn hx hb dX7_count_42 (by rw [hn0]; decide) (by rw [hn0]; decide) (off := 38) (by rw [hn0]; rfl) (tgt := 80) (by decide) ?_
      refine lv_aload_n hx hb dX7_count_80 rfl (lv_at hl 0 rfl) ?_
      refine x_get hx hb hts hi7 hown hK hW (c1 hE) (e1 _ _ _ _ _ _) rfl 0 (Nat.le_of_ble_eq_true rfl) q0 (fun _ h => h) (v := .int (gI S 1 0 0)) rfl dX7_count_81 ?_
      exact zr_i hf hx hb hr rfl hF hW hS dX7_count_84 hlocks
    · have hf := if_f hn0 hf
      by_cases hn1 : v1 = (1 : Int32)
      · have hf := if_t hn1 hf
        refine lv_tableIn hx hb dX7_count_42 (by rw [hn1]; decide) (by rw [hn1]; decide) (off := 43) (by rw [hn1]; rfl) (tgt := 85) (by decide) ?_
        refine lv_aload_n hx hb dX7_count_85 rfl (lv_at hl 0 rfl) ?_
        refine x_get hx hb hts hi7 hown hK hW (c1 hE) (e1 _ _ _ _ _ _) rfl 6 (Nat.le_of_ble_eq_true rfl) q1 (fun _ h => h) (v := .int (gI S 1 0 6)) rfl dX7_count_86 ?_
        exact zr_i hf hx hb hr rfl hF hW hS dX7_count_89 hlocks
      · have hf := if_f hn1 hf
        by_cases hn2 : v1 = (2 : Int32)
        · have hf := if_t hn2 hf
          refine lv_tableIn hx hb dX7_count_42 (by rw [hn2]; decide) (by rw [hn2]; decide) (off := 48) (by rw [hn2]; rfl) (tgt := 90) (by decide) ?_
          refine lv_aload_n hx hb dX7_count_90 rfl (lv_at hl 0 rfl) ?_
          refine x_get hx hb hts hi7 hown hK hW (c1 hE) (e1 _ _ _ _ _ _) rfl 8 (Nat.le_of_ble_eq_true rfl) q2 (fun _ h => h) (v := .int (gI S 1 0 8)) rfl dX7_count_91 ?_
          exact zr_i hf hx hb hr rfl hF hW hS dX7_count_94 hlocks
        · have hf := if_f hn2 hf
          by_cases hn3 : v1 = (3 : Int32)
          · have hf := if_t hn3 hf
            refine lv_tableIn hx hb dX7_count_42 (by rw [hn3]; decide) (by rw [hn3]; decide) (off := 53) (by rw [hn3]; rfl) (tgt := 95) (by decide) ?_
            refine lv_aload_n hx hb dX7_count_95 rfl (lv_at hl 0 rfl) ?_
            refine x_get hx hb hts hi7 hown hK hW (c1 hE) (e1 _ _ _ _ _ _) rfl 7 (Nat.le_of_ble_eq_true rfl) q3 (fun _ h => h) (v := .int (gI S 1 0 7)) rfl dX7_count_96 ?_
            exact zr_i hf hx hb hr rfl hF hW hS dX7_count_99 hlocks
          · have hf := if_f hn3 hf
            by_cases hn4 : v1 = (4 : Int32)
            · have hf := if_t hn4 hf
              refine lv_tableIn hx hb dX7_count_42 (by rw [hn4]; decide) (by rw [hn4]; decide) (off := 58) (by rw [hn4]; rfl) (tgt := 100) (by decide) ?_
              refine lv_iload_n hx hb dX7_count_100 rfl (lv_at hl 2 rfl) ?_
              exact zr_i hf hx hb hr rfl hF hW hS dX7_count_101 hlocks
            · have hf := if_f hn4 hf
              by_cases hn5 : v1 = (5 : Int32)
              · have hf := if_t hn5 hf
                refine lv_tableIn hx hb dX7_count_42 (by rw [hn5]; decide) (by rw [hn5]; decide) (off := 60) (by rw [hn5]; rfl) (tgt := 102) (by decide) ?_
                refine lv_iload_n hx hb dX7_count_102 rfl (lv_at hl 3 rfl) ?_
                exact zr_i hf hx hb hr rfl hF hW hS dX7_count_103 hlocks
              · have hf := if_f hn5 hf
                refine lv_tableOut hx hb dX7_count_42 (tb_out (by decide) (by decide) (fun k h1 h2 => ?_)) (tgt := 104) (by decide) ?_
                · have hk : k = 0 ∨ k = 1 ∨ k = 2 ∨ k = 3 ∨ k = 4 ∨ k = 5 := by omega
                  rcases hk with rfl | rfl | rfl | rfl | rfl | rfl
                  · exact fun q => hn0 (q.trans (by decide))
                  · exact fun q => hn1 (q.trans (by decide))
                  · exact fun q => hn2 (q.trans (by decide))
                  · exact fun q => hn3 (q.trans (by decide))
                  · exact fun q => hn4 (q.trans (by decide))
                  · exact fun q => hn5 (q.trans (by decide))
                · refine lv_bipush (v := -2) hx hb dX7_count_104 (by decide) ?_
                  exact zr_i hf hx hb hr rfl hF hW hS dX7_count_106 hlocks
  have w7 : ∀ (n7 : Nat) (_ : Unit) (v1 : Int32) (v2 : Int32) (v3 : Int32) (v4 : Int32) , f_X7_count_b7 E n7 S v1 v2 v3 v4 = some rr → ∀ (H : Heap) (locs : List Loc) (ls : Array Slot), WH G B E S H → va_S (AA G) s.heap H locs → lv_has ls 5 [(0, .ref (B 1 0)), (1, .int v1), (2, .int v2), (3, .int v3), (4, .int v4)] → W p l e (headSpec wsX7_count (rmN 2)).room s m [.ref (B 1 0), .int a1].toArray below meth c H locs 0 0 (MQ below (QI G B E S rr) [.ref (B 1 0), .int a1].toArray s 0 0 (AA G)) (F0 m 7 ls []) := by
    intro n7
    induction n7 with
    | zero =>
      intro _ v1 v2 v3 v4 hf
      exact absurd (show (none : Option Int32) = some rr from hf) (fun h => by cases h)
    | succ n7 ih7 =>
      intro _ v1 v2 v3 v4 hf H locs ls hW hS hl
      have hf : g_X7_count_b7 E (f_X7_count_b7 E n7) S v1 v2 v3 v4 = some rr := hf
      unfold g_X7_count_b7 at hf
      refine lv_iload hx hb dX7_count_7 (lv_at hl 4 rfl) ?_
      refine lv_aload_n hx hb dX7_count_9 rfl (lv_at hl 0 rfl) ?_
      refine x_get hx hb hts hi7 hown hK hW (c1 hE) (e1 _ _ _ _ _ _) rfl 0 (Nat.le_of_ble_eq_true rfl) q0 (fun _ h => h) (v := .int (gI S 1 0 0)) rfl dX7_count_10 ?_
      refine lv_icmp_ge (tgt := 41) hx hb dX7_count_13 (by decide) (fun h => ?_) (fun h => ?_)
      · have hf := if_t h hf
        exact w41 () v1 v2 v3  hf _ _ _ hW hS (lv_sub hl [0, 1, 2, 3] rfl)
      · have hf := if_f h hf
        refine lv_iload_n hx hb dX7_count_16 rfl (lv_at hl 2 rfl) ?_
        refine lv_aload_n hx hb dX7_count_17 rfl (lv_at hl 0 rfl) ?_
        refine lv_iload hx hb dX7_count_18 (lv_at hl 4 rfl) ?_
        obtain ⟨r1, hc, hf⟩ := bd_out hf
        refine y_i (va_runV (As := [.int v4]) (rest := [.int v2]) hfix (m_X7_sumOf l G B E hE S v4 r1 hc) (cwV 1 hts gX7_count_X7_sumOf rfl rfl rfl ⟨rfl, hd_X7_sumOf⟩ ⟨Nat.le_of_ble_eq_true rfl, Nat.le_of_ble_eq_true rfl⟩) (y_pv hF hW hS (c1 hE) (e1 _ _ _ _ _ _) rfl) rfl rfl hl.1 rfl (lv_room (Nat.le_of_ble_eq_true rfl)) dX7_count_20 ⟨Nat.le_of_ble_eq_true rfl, Nat.le_of_ble_eq_true rfl⟩) hS (fun H locs hW hS => ?_)
        refine lv_iadd hx hb dX7_count_23 ?_
        obtain ⟨x2, e_x2, hf⟩ := lt_out hf
        refine x_nmI e_x2 ?_
        refine lv_istore_n (lv' := [(2, .int x2), (0, .ref (B 1 0)), (1, .int v1), (3, .int v3), (4, .int v4)]) hx hb dX7_count_24 rfl hl (by decide) rfl (fun ls hl => ?_)
        refine lv_iload_n hx hb dX7_count_25 rfl (lv_at hl 3 rfl) ?_
        refine lv_aload_n hx hb dX7_count_26 rfl (lv_at hl 1 rfl) ?_
        refine x_get hx hb hts hi7 hown hK hW (c1 hE) (e1 _ _ _ _ _ _) rfl 2 (Nat.le_of_ble_eq_true rfl) q4 (fun _ h => h) (v := .ref (B 42 0)) rfl dX7_count_27 ?_
        refine lv_iload hx hb dX7_count_30 (lv_at hl 4 rfl) ?_
        obtain ⟨hi_3, hf⟩ := ck_out hf
        have hi_3 := ib_in hi_3
        refine x_iald hx hb hK hW (c42 hE) (e42 _ _ _ _ _ _) hi_3 (jn := v4.toNatClampNeg) rfl dX7_count_32 ?_
        refine lv_iadd hx hb dX7_count_33 ?_
        obtain ⟨x4, e_x4, hf⟩ := lt_out hf
        refine x_nmI e_x4 ?_
        refine lv_istore_n (lv' := [(3, .int x4), (2, .int x2), (0, .ref (B 1 0)), (1, .int v1), (4, .int v4)]) hx hb dX7_count_34 rfl hl (by decide) rfl (fun ls hl => ?_)
        obtain ⟨x5, e_x5, hf⟩ := lt_out hf
        refine lv_iinc (v := x5) (lv' := [(4, .int x5), (3, .int x4), (2, .int x2), (0, .ref (B 1 0)), (1, .int v1)]) hx hb dX7_count_35 hl (k := 4) rfl (by rw [e_x5]; rfl) (by decide) rfl (fun ls hl => ?_)
        refine lv_goto (tgt := 7) hx hb dX7_count_38 (by decide) ?_
        exact ih7 () v1 x2 x4 x5  hf _ _ _ hW hS (lv_sub hl [3, 4, 2, 1, 0] rfl)
  unfold f_X7_count at hf
  refine lv_iconst (v := 0) hx hb dX7_count_0 rfl ?_
  refine lv_istore_n (lv' := [(2, .int (0 : Int32)), (0, .ref (B 1 0)), (1, .int a1)]) hx hb dX7_count_1 rfl hl (by decide) rfl (fun ls hl => ?_)
  refine lv_iconst (v := 0) hx hb dX7_count_2 rfl ?_
  refine lv_istore_n (lv' := [(3, .int (0 : Int32)), (2, .int (0 : Int32)), (0, .ref (B 1 0)), (1, .int a1)]) hx hb dX7_count_3 rfl hl (by decide) rfl (fun ls hl => ?_)
  refine lv_iconst (v := 0) hx hb dX7_count_4 rfl ?_
  refine lv_istore (lv' := [(4, .int (0 : Int32)), (3, .int (0 : Int32)), (2, .int (0 : Int32)), (0, .ref (B 1 0)), (1, .int a1)]) hx hb dX7_count_5 hl (by decide) rfl (fun ls hl => ?_)
  exact w7 E.1 () a1 (0 : Int32) (0 : Int32) (0 : Int32)  hf _ _ _ hW hS (lv_sub hl [3, 4, 2, 1, 0] rfl)
set_option maxHeartbeats 4000000 in
set_option maxRecDepth 100000 in
theorem m_X7_sheet (l : Launch) (G : GE) (B : Nat → Nat → Nat) (E : EN) (hE : 0 < E.2.2.2)  (S : ST) (a1 : Int32) (a2 : Int32) (a3 : Int32) (rr : Int32) (SS : ST) (hf : f_X7_sheet E S a1 a2 a3 = some (rr, SS)) : Met l yX7_sheet wsX7_sheet (rmN 3) (va_Pc [.ref (B 1 0), .int a1, .int a2, .int a3] (WS G B E S)) (QI G B E SS rr) 0 0 (AA G) := by
  refine Met.ofW (cc := cX7_sheet) (maxL := 5) (ret := (some .int)) (by decide) rfl ?_
  intro p e s m args below meth c s₁ B0 hml hv
  obtain ⟨rfl, hW, hF⟩ := hv
  have hx := B0.exec
  have hb := B0.bytes
  have hr := B0.returns
  have hts := atoms_spec (ws := wsX7_sheet) B0.pre
  have hown : s.vm.findClass RX7 = some m.cls := findClass_of_methodNamed B0.named
  have hlocks := B0.notSynchronized
  have hK := hF.1
  have hfix : CallFix p m c cX7_sheet 5 s [.ref (B 1 0), .int a1, .int a2, .int a3].toArray wsX7_sheet RX7 := ⟨hx, hb, hml, hown, hts⟩
  have hS : va_S (AA G) s.heap s.heap [] := va_S.rf
  have hl := lv_entry [.ref (B 1 0), .int a1, .int a2, .int a3] (n := 5) (Nat.le_of_ble_eq_true rfl)
  rw [lg_entry_eq]
  generalize (lg_sl [.ref (B 1 0), .int a1, .int a2, .int a3] ++ List.replicate (5 - (lg_sl [.ref (B 1 0), .int a1, .int a2, .int a3]).length) Slot.unset).toArray = ls at hl ⊢
  have hl : lv_has ls 5 [(0, .ref (B 1 0)), (1, .int a1), (2, .int a2), (3, .int a3)] := hl
  have q0 := hts (.fieldLink RX7 171 "MovesUpModel" "item" "[I") (List.mem_of_getElem? (i := 3) rfl)
  have q1 := hts (.fieldLink RX7 165 "MovesUpModel" "sort" "[I") (List.mem_of_getElem? (i := 1) rfl)
  have q2 := hts (.fieldLink RX7 168 "MovesUpModel" "rows" "[I") (List.mem_of_getElem? (i := 2) rfl)
  have hi7 : ∀ w ∈ u_ws RX7 TX7 47, w ∈ wsX7_sheet := in_seg 13 rfl
  have w67 : ∀ (n67 : Nat) (S : ST) (v1 : Int32) (v4 : Int32) , f_X7_sheet_b67 E n67 S v1 v4 = some (rr, SS) → ∀ (H : Heap) (locs : List Loc) (ls : Array Slot), WH G B E S H → va_S (AA G) s.heap H locs → lv_has ls 5 [(0, .ref (B 1 0)), (1, .int v1), (4, .int v4)] → W p l e (headSpec wsX7_sheet (rmN 3)).room s m [.ref (B 1 0), .int a1, .int a2, .int a3].toArray below meth c H locs 0 0 (MQ below (QI G B E SS rr) [.ref (B 1 0), .int a1, .int a2, .int a3].toArray s 0 0 (AA G)) (F0 m 67 ls []) := by
    intro n67
    induction n67 with
    | zero =>
      intro S v1 v4 hf
      exact absurd (show (none : Option (Int32 × ST)) = some (rr, SS) from hf) (fun h => by cases h)
    | succ n67 ih67 =>
      intro S v1 v4 hf H locs ls hW hS hl
      have hf : g_X7_sheet_b67 E (f_X7_sheet_b67 E n67) S v1 v4 = some (rr, SS) := hf
      unfold g_X7_sheet_b67 at hf
      refine lv_iload hx hb dX7_sheet_67 (lv_at hl 2 rfl) ?_
      refine lv_bipush (v := 40) hx hb dX7_sheet_69 (by decide) ?_
      refine lv_icmp_ge (tgt := 93) hx hb dX7_sheet_71 (by decide) (fun h => ?_) (fun h => ?_)
      · have hf := if_t h hf
        refine lv_iconst (v := 1) hx hb dX7_sheet_93 rfl ?_
        exact z_i hf hx hb hr rfl hF hW hS dX7_sheet_94 hlocks
      · have hf := if_f h hf
        refine lv_aload_n hx hb dX7_sheet_74 rfl (lv_at hl 0 rfl) ?_
        refine x_get hx hb hts hi7 hown hK hW (c1 hE) (e1 _ _ _ _ _ _) rfl 45 (Nat.le_of_ble_eq_true rfl) q0 (fun _ h => h) (v := .ref (B 85 0)) rfl dX7_sheet_75 ?_
        refine lv_bipush (v := 40) hx hb dX7_sheet_78 (by decide) ?_
        refine lv_iload_n hx hb dX7_sheet_80 rfl (lv_at hl 1 rfl) ?_
        refine lv_imul hx hb dX7_sheet_81 ?_
        refine lv_iload hx hb dX7_sheet_82 (lv_at hl 2 rfl) ?_
        refine lv_iadd hx hb dX7_sheet_84 ?_
        refine lv_iconst (v := 0) hx hb dX7_sheet_85 rfl ?_
        obtain ⟨hi_1, hf⟩ := ck_out hf
        have hi_1 := ib_in hi_1
        obtain ⟨S2, e_S2, hf⟩ := lt_out hf
        refine x_iast hx hb hK hW hS (c85 hE) (fun f r => e85 _ _ _ f _ r) hi_1 (jn := (((40 : Int32) * v1) + v4).toNatClampNeg) rfl e_S2 dX7_sheet_86 (fun H locs hW hS => ?_)
        obtain ⟨x3, e_x3, hf⟩ := lt_out hf
        refine lv_iinc (v := x3) (lv' := [(4, .int x3), (0, .ref (B 1 0)), (1, .int v1)]) hx hb dX7_sheet_87 hl (k := 2) rfl (by rw [e_x3]; rfl) (by decide) rfl (fun ls hl => ?_)
        refine lv_goto (tgt := 67) hx hb dX7_sheet_90 (by decide) ?_
        exact ih67 S2 v1 x3  hf _ _ _ hW hS (lv_sub hl [1, 2, 0] rfl)
  have w63 : ∀ (S : ST) (v1 : Int32) (t0 : Int32) (t1 : Int32) , f_X7_sheet_b63 E S v1 t0 t1 = some (rr, SS) → ∀ (H : Heap) (locs : List Loc) (ls : Array Slot), WH G B E S H → va_S (AA G) s.heap H locs → lv_has ls 5 [(0, .ref (B 1 0)), (1, .int v1)] → W p l e (headSpec wsX7_sheet (rmN 3)).room s m [.ref (B 1 0), .int a1, .int a2, .int a3].toArray below meth c H locs 0 0 (MQ below (QI G B E SS rr) [.ref (B 1 0), .int a1, .int a2, .int a3].toArray s 0 0 (AA G)) (F0 m 63 ls [.int t0, .int t1, .ref (B 84 0)]) := by
    intro S v1 t0 t1 hf H locs ls hW hS hl
    unfold f_X7_sheet_b63 at hf
    obtain ⟨hi_4, hf⟩ := ck_out hf
    have hi_4 := ib_in hi_4
    obtain ⟨S5, e_S5, hf⟩ := lt_out hf
    refine x_iast hx hb hK hW hS (c84 hE) (fun f r => e84 _ _ _ f _ r) hi_4 (jn := t1.toNatClampNeg) rfl e_S5 dX7_sheet_63 (fun H locs hW hS => ?_)
    refine lv_iconst (v := 0) hx hb dX7_sheet_64 rfl ?_
    refine lv_istore (lv' := [(4, .int (0 : Int32)), (0, .ref (B 1 0)), (1, .int v1)]) hx hb dX7_sheet_65 hl (by decide) rfl (fun ls hl => ?_)
    exact w67 E.1 S5 v1 (0 : Int32)  hf _ _ _ hW hS (lv_sub hl [1, 2, 0] rfl)
  have w42 : ∀ (S : ST) (v1 : Int32) (v2 : Int32) (v3 : Int32) , f_X7_sheet_b42 E S v1 v2 v3 = some (rr, SS) → ∀ (H : Heap) (locs : List Loc) (ls : Array Slot), WH G B E S H → va_S (AA G) s.heap H locs → lv_has ls 5 [(0, .ref (B 1 0)), (1, .int v1), (2, .int v2), (3, .int v3)] → W p l e (headSpec wsX7_sheet (rmN 3)).room s m [.ref (B 1 0), .int a1, .int a2, .int a3].toArray below meth c H locs 0 0 (MQ below (QI G B E SS rr) [.ref (B 1 0), .int a1, .int a2, .int a3].toArray s 0 0 (AA G)) (F0 m 42 ls []) := by
    intro S v1 v2 v3 hf H locs ls hW hS hl
    unfold f_X7_sheet_b42 at hf
    refine lv_aload_n hx hb dX7_sheet_42 rfl (lv_at hl 0 rfl) ?_
    refine x_get hx hb hts hi7 hown hK hW (c1 hE) (e1 _ _ _ _ _ _) rfl 43 (Nat.le_of_ble_eq_true rfl) q1 (fun _ h => h) (v := .ref (B 83 0)) rfl dX7_sheet_43 ?_
    refine lv_iload_n hx hb dX7_sheet_46 rfl (lv_at hl 1 rfl) ?_
    refine lv_iload_n hx hb dX7_sheet_47 rfl (lv_at hl 2 rfl) ?_
    obtain ⟨hi_6, hf⟩ := ck_out hf
    have hi_6 := ib_in hi_6
    obtain ⟨S7, e_S7, hf⟩ := lt_out hf
    refine x_iast hx hb hK hW hS (c83 hE) (fun f r => e83 _ _ _ f _ r) hi_6 (jn := v1.toNatClampNeg) rfl e_S7 dX7_sheet_48 (fun H locs hW hS => ?_)
    refine lv_aload_n hx hb dX7_sheet_49 rfl (lv_at hl 0 rfl) ?_
    refine x_get hx hb hts hi7 hown hK hW (c1 hE) (e1 _ _ _ _ _ _) rfl 44 (Nat.le_of_ble_eq_true rfl) q2 (fun _ h => h) (v := .ref (B 84 0)) rfl dX7_sheet_50 ?_
    refine lv_iload_n hx hb dX7_sheet_53 rfl (lv_at hl 1 rfl) ?_
    refine lv_iload_n hx hb dX7_sheet_54 rfl (lv_at hl 2 rfl) ?_
    refine lv_if_ge (tgt := 62) hx hb dX7_sheet_55 (by decide) (fun h => ?_) (fun h => ?_)
    · have hf := if_t h hf
      refine lv_iload_n hx hb dX7_sheet_62 rfl (lv_at hl 3 rfl) ?_
      exact w63 S7 v1 v3 v1  hf _ _ _ hW hS (lv_sub hl [0, 1] rfl)
    · have hf := if_f h hf
      refine lv_iconst (v := 0) hx hb dX7_sheet_58 rfl ?_
      refine lv_goto (tgt := 63) hx hb dX7_sheet_59 (by decide) ?_
      exact w63 S7 v1 (0 : Int32) v1  hf _ _ _ hW hS (lv_sub hl [0, 1] rfl)
  have w31 : ∀ (S : ST) (v1 : Int32) (v2 : Int32) (v3 : Int32) , f_X7_sheet_b31 E S v1 v2 v3 = some (rr, SS) → ∀ (H : Heap) (locs : List Loc) (ls : Array Slot), WH G B E S H → va_S (AA G) s.heap H locs → lv_has ls 5 [(0, .ref (B 1 0)), (1, .int v1), (2, .int v2), (3, .int v3)] → W p l e (headSpec wsX7_sheet (rmN 3)).room s m [.ref (B 1 0), .int a1, .int a2, .int a3].toArray below meth c H locs 0 0 (MQ below (QI G B E SS rr) [.ref (B 1 0), .int a1, .int a2, .int a3].toArray s 0 0 (AA G)) (F0 m 31 ls []) := by
    intro S v1 v2 v3 hf H locs ls hW hS hl
    unfold f_X7_sheet_b31 at hf
    refine lv_iload_n hx hb dX7_sheet_31 rfl (lv_at hl 2 rfl) ?_
    refine lv_if_lt (tgt := 42) hx hb dX7_sheet_32 (by decide) (fun h => ?_) (fun h => ?_)
    · have hf := if_t h hf
      exact w42 S v1 v2 v3  hf _ _ _ hW hS (lv_sub hl [0, 1, 2, 3] rfl)
    · have hf := if_f h hf
      refine lv_iload_n hx hb dX7_sheet_35 rfl (lv_at hl 3 rfl) ?_
      refine lv_if_ge (tgt := 42) hx hb dX7_sheet_36 (by decide) (fun h => ?_) (fun h => ?_)
      · have hf := if_t h hf
        exact w42 S v1 v2 v3  hf _ _ _ hW hS (lv_sub hl [0, 1, 2, 3] rfl)
      · have hf := if_f h hf
        refine lv_bipush (v := -14) hx hb dX7_sheet_39 (by decide) ?_
        exact z_i hf hx hb hr rfl hF hW hS dX7_sheet_41 hlocks
  unfold f_X7_sheet at hf
  refine lv_aload_n hx hb dX7_sheet_0 rfl (lv_at hl 0 rfl) ?_
  refine lv_iload_n hx hb dX7_sheet_1 rfl (lv_at hl 1 rfl) ?_
  obtain ⟨r8, hc, hf⟩ := bd_out hf
  refine y_i (va_runV (As := [.int a1]) (rest := []) hfix (m_X7_isSheet l G B E hE S a1 r8 hc) (cwV 1 hts gX7_sheet_X7_isSheet rfl rfl rfl ⟨rfl, hd_X7_isSheet⟩ ⟨Nat.le_of_ble_eq_true rfl, Nat.le_of_ble_eq_true rfl⟩) (y_pv hF hW hS (c1 hE) (e1 _ _ _ _ _ _) rfl) rfl rfl hl.1 rfl (lv_room (Nat.le_of_ble_eq_true rfl)) dX7_sheet_2 ⟨Nat.le_of_ble_eq_true rfl, Nat.le_of_ble_eq_true rfl⟩) hS (fun H locs hW hS => ?_)
  refine lv_if_eq (tgt := 28) hx hb dX7_sheet_5 (by decide) (fun h => ?_) (fun h => ?_)
  · have hf := if_t h hf
    refine lv_bipush (v := -2) hx hb dX7_sheet_28 (by decide) ?_
    exact z_i hf hx hb hr rfl hF hW hS dX7_sheet_30 hlocks
  · have hf := if_f h hf
    refine lv_aload_n hx hb dX7_sheet_8 rfl (lv_at hl 0 rfl) ?_
    refine lv_iload_n hx hb dX7_sheet_9 rfl (lv_at hl 2 rfl) ?_
    refine lv_iconst (v := -1) hx hb dX7_sheet_10 rfl ?_
    refine lv_iconst (v := 2) hx hb dX7_sheet_11 rfl ?_
    obtain ⟨r9, hc, hf⟩ := bd_out hf
    refine y_i (va_runV (As := [.int a2, .int (-1 : Int32), .int (2 : Int32)]) (rest := []) hfix (m_X7_in l G B E hE S a2 (-1 : Int32) (2 : Int32) r9 hc) (cwV 3 hts gX7_sheet_X7_in rfl rfl rfl ⟨rfl, hd_X7_in⟩ ⟨Nat.le_of_ble_eq_true rfl, Nat.le_of_ble_eq_true rfl⟩) (y_pv hF hW hS (c1 hE) (e1 _ _ _ _ _ _) rfl) rfl rfl hl.1 rfl (lv_room (Nat.le_of_ble_eq_true rfl)) dX7_sheet_12 ⟨Nat.le_of_ble_eq_true rfl, Nat.le_of_ble_eq_true rfl⟩) hS (fun H locs hW hS => ?_)
    refine lv_if_eq (tgt := 28) hx hb dX7_sheet_15 (by decide) (fun h => ?_) (fun h => ?_)
    · have hf := if_t h hf
      refine lv_bipush (v := -2) hx hb dX7_sheet_28 (by decide) ?_
      exact z_i hf hx hb hr rfl hF hW hS dX7_sheet_30 hlocks
    · have hf := if_f h hf
      refine lv_iload_n hx hb dX7_sheet_18 rfl (lv_at hl 2 rfl) ?_
      refine lv_if_lt (tgt := 31) hx hb dX7_sheet_19 (by decide) (fun h => ?_) (fun h => ?_)
      · have hf := if_t h hf
        exact w31 S a1 a2 a3  hf _ _ _ hW hS (lv_sub hl [0, 1, 2, 3] rfl)
      · have hf := if_f h hf
        refine lv_iload_n hx hb dX7_sheet_22 rfl (lv_at hl 3 rfl) ?_
        refine lv_bipush (v := 40) hx hb dX7_sheet_23 (by decide) ?_
        refine lv_icmp_le (tgt := 31) hx hb dX7_sheet_25 (by decide) (fun h => ?_) (fun h => ?_)
        · have hf := if_t h hf
          exact w31 S a1 a2 a3  hf _ _ _ hW hS (lv_sub hl [0, 1, 2, 3] rfl)
        · have hf := if_f h hf
          refine lv_bipush (v := -2) hx hb dX7_sheet_28 (by decide) ?_
          exact z_i hf hx hb hr rfl hF hW hS dX7_sheet_30 hlocks
set_option maxHeartbeats 4000000 in
set_option maxRecDepth 100000 in
theorem m_X7_cell (l : Launch) (G : GE) (B : Nat → Nat → Nat) (E : EN) (hE : 0 < E.2.2.2)  (S : ST) (a1 : Int32) (a2 : Int32) (a3 : Int32) (rr : Int32) (SS : ST) (hf : f_X7_cell E S a1 a2 a3 = some (rr, SS)) : Met l yX7_cell wsX7_cell (rmN 3) (va_Pc [.ref (B 1 0), .int a1, .int a2, .int a3] (WS G B E S)) (QI G B E SS rr) 0 0 (AA G) := by
  refine Met.ofW (cc := cX7_cell) (maxL := 4) (ret := (some .int)) (by decide) rfl ?_
  intro p e s m args below meth c s₁ B0 hml hv
  obtain ⟨rfl, hW, hF⟩ := hv
  have hx := B0.exec
  have hb := B0.bytes
  have hr := B0.returns
  have hts := atoms_spec (ws := wsX7_cell) B0.pre
  have hown : s.vm.findClass RX7 = some m.cls := findClass_of_methodNamed B0.named
  have hlocks := B0.notSynchronized
  have hK := hF.1
  have hfix : CallFix p m c cX7_cell 4 s [.ref (B 1 0), .int a1, .int a2, .int a3].toArray wsX7_cell RX7 := ⟨hx, hb, hml, hown, hts⟩
  have hS : va_S (AA G) s.heap s.heap [] := va_S.rf
  have hl := lv_entry [.ref (B 1 0), .int a1, .int a2, .int a3] (n := 4) (Nat.le_of_ble_eq_true rfl)
  rw [lg_entry_eq]
  generalize (lg_sl [.ref (B 1 0), .int a1, .int a2, .int a3] ++ List.replicate (4 - (lg_sl [.ref (B 1 0), .int a1, .int a2, .int a3]).length) Slot.unset).toArray = ls at hl ⊢
  have hl : lv_has ls 4 [(0, .ref (B 1 0)), (1, .int a1), (2, .int a2), (3, .int a3)] := hl
  have q0 := hts (.fieldLink RX7 165 "MovesUpModel" "sort" "[I") (List.mem_of_getElem? (i := 1) rfl)
  have q1 := hts (.fieldLink RX7 168 "MovesUpModel" "rows" "[I") (List.mem_of_getElem? (i := 2) rfl)
  have q2 := hts (.fieldLink RX7 171 "MovesUpModel" "item" "[I") (List.mem_of_getElem? (i := 3) rfl)
  have hi7 : ∀ w ∈ u_ws RX7 TX7 47, w ∈ wsX7_cell := in_seg 13 rfl
  have w83 : ∀ (S : ST) (t0 : Int32) (t1 : Int32) , f_X7_cell_b83 E S t0 t1 = some (rr, SS) → ∀ (H : Heap) (locs : List Loc) (ls : Array Slot), WH G B E S H → va_S (AA G) s.heap H locs → lv_has ls 4 [] → W p l e (headSpec wsX7_cell (rmN 3)).room s m [.ref (B 1 0), .int a1, .int a2, .int a3].toArray below meth c H locs 0 0 (MQ below (QI G B E SS rr) [.ref (B 1 0), .int a1, .int a2, .int a3].toArray s 0 0 (AA G)) (F0 m 83 ls [.int t0, .int t1, .ref (B 85 0)]) := by
    intro S t0 t1 hf H locs ls hW hS hl
    unfold f_X7_cell_b83 at hf
    obtain ⟨hi_1, hf⟩ := ck_out hf
    have hi_1 := ib_in hi_1
    obtain ⟨S2, e_S2, hf⟩ := lt_out hf
    refine x_iast hx hb hK hW hS (c85 hE) (fun f r => e85 _ _ _ f _ r) hi_1 (jn := t1.toNatClampNeg) rfl e_S2 dX7_cell_83 (fun H locs hW hS => ?_)
    refine lv_iconst (v := 1) hx hb dX7_cell_84 rfl ?_
    exact z_i hf hx hb hr rfl hF hW hS dX7_cell_85 hlocks
  unfold f_X7_cell at hf
  refine lv_aload_n hx hb dX7_cell_0 rfl (lv_at hl 0 rfl) ?_
  refine lv_iload_n hx hb dX7_cell_1 rfl (lv_at hl 1 rfl) ?_
  obtain ⟨r3, hc, hf⟩ := bd_out hf
  refine y_i (va_runV (As := [.int a1]) (rest := []) hfix (m_X7_isSheet l G B E hE S a1 r3 hc) (cwV 1 hts gX7_cell_X7_isSheet rfl rfl rfl ⟨rfl, hd_X7_isSheet⟩ ⟨Nat.le_of_ble_eq_true rfl, Nat.le_of_ble_eq_true rfl⟩) (y_pv hF hW hS (c1 hE) (e1 _ _ _ _ _ _) rfl) rfl rfl hl.1 rfl (lv_room (Nat.le_of_ble_eq_true rfl)) dX7_cell_2 ⟨Nat.le_of_ble_eq_true rfl, Nat.le_of_ble_eq_true rfl⟩) hS (fun H locs hW hS => ?_)
  refine lv_if_ne (tgt := 11) hx hb dX7_cell_5 (by decide) (fun h => ?_) (fun h => ?_)
  · have hf := if_f h hf
    refine lv_aload_n hx hb dX7_cell_11 rfl (lv_at hl 0 rfl) ?_
    refine x_get hx hb hts hi7 hown hK hW (c1 hE) (e1 _ _ _ _ _ _) rfl 43 (Nat.le_of_ble_eq_true rfl) q0 (fun _ h => h) (v := .ref (B 83 0)) rfl dX7_cell_12 ?_
    refine lv_iload_n hx hb dX7_cell_15 rfl (lv_at hl 1 rfl) ?_
    obtain ⟨hi_4, hf⟩ := ck_out hf
    have hi_4 := ib_in hi_4
    refine x_iald hx hb hK hW (c83 hE) (e83 _ _ _ _ _ _) hi_4 (jn := a1.toNatClampNeg) rfl dX7_cell_16 ?_
    refine lv_if_ge (tgt := 23) hx hb dX7_cell_17 (by decide) (fun h => ?_) (fun h => ?_)
    · have hf := if_t h hf
      refine lv_aload_n hx hb dX7_cell_23 rfl (lv_at hl 0 rfl) ?_
      refine lv_iload_n hx hb dX7_cell_24 rfl (lv_at hl 2 rfl) ?_
      refine lv_iconst (v := 0) hx hb dX7_cell_25 rfl ?_
      refine lv_aload_n hx hb dX7_cell_26 rfl (lv_at hl 0 rfl) ?_
      refine x_get hx hb hts hi7 hown hK hW (c1 hE) (e1 _ _ _ _ _ _) rfl 44 (Nat.le_of_ble_eq_true rfl) q1 (fun _ h => h) (v := .ref (B 84 0)) rfl dX7_cell_27 ?_
      refine lv_iload_n hx hb dX7_cell_30 rfl (lv_at hl 1 rfl) ?_
      refine x_iald hx hb hK hW (c84 hE) (e84 _ _ _ _ _ _) hi_4 (jn := a1.toNatClampNeg) rfl dX7_cell_31 ?_
      refine lv_iconst (v := 1) hx hb dX7_cell_32 rfl ?_
      refine lv_isub hx hb dX7_cell_33 ?_
      obtain ⟨r5, hc, hf⟩ := bd_out hf
      refine y_i (va_runV (As := [.int a2, .int (0 : Int32), .int ((gI S 84 0 a1.toNatClampNeg) - (1 : Int32))]) (rest := []) hfix (m_X7_in l G B E hE S a2 (0 : Int32) ((gI S 84 0 a1.toNatClampNeg) - (1 : Int32)) r5 hc) (cwV 3 hts gX7_cell_X7_in rfl rfl rfl ⟨rfl, hd_X7_in⟩ ⟨Nat.le_of_ble_eq_true rfl, Nat.le_of_ble_eq_true rfl⟩) (y_pv hF hW hS (c1 hE) (e1 _ _ _ _ _ _) rfl) rfl rfl hl.1 rfl (lv_room (Nat.le_of_ble_eq_true rfl)) dX7_cell_34 ⟨Nat.le_of_ble_eq_true rfl, Nat.le_of_ble_eq_true rfl⟩) hS (fun H locs hW hS => ?_)
      refine lv_if_ne (tgt := 43) hx hb dX7_cell_37 (by decide) (fun h => ?_) (fun h => ?_)
      · have hf := if_f h hf
        refine lv_aload_n hx hb dX7_cell_43 rfl (lv_at hl 0 rfl) ?_
        refine x_get hx hb hts hi7 hown hK hW (c1 hE) (e1 _ _ _ _ _ _) rfl 45 (Nat.le_of_ble_eq_true rfl) q2 (fun _ h => h) (v := .ref (B 85 0)) rfl dX7_cell_44 ?_
        refine lv_bipush (v := 40) hx hb dX7_cell_47 (by decide) ?_
        refine lv_iload_n hx hb dX7_cell_49 rfl (lv_at hl 1 rfl) ?_
        refine lv_imul hx hb dX7_cell_50 ?_
        refine lv_iload_n hx hb dX7_cell_51 rfl (lv_at hl 2 rfl) ?_
        refine lv_iadd hx hb dX7_cell_52 ?_
        refine lv_aload_n hx hb dX7_cell_53 rfl (lv_at hl 0 rfl) ?_
        refine x_get hx hb hts hi7 hown hK hW (c1 hE) (e1 _ _ _ _ _ _) rfl 43 (Nat.le_of_ble_eq_true rfl) q0 (fun _ h => h) (v := .ref (B 83 0)) rfl dX7_cell_54 ?_
        refine lv_iload_n hx hb dX7_cell_57 rfl (lv_at hl 1 rfl) ?_
        refine x_iald hx hb hK hW (c83 hE) (e83 _ _ _ _ _ _) hi_4 (jn := a1.toNatClampNeg) rfl dX7_cell_58 ?_
        refine lv_if_ne (tgt := 67) hx hb dX7_cell_59 (by decide) (fun h => ?_) (fun h => ?_)
        · have hf := if_f h hf
          refine lv_aload_n hx hb dX7_cell_67 rfl (lv_at hl 0 rfl) ?_
          refine x_get hx hb hts hi7 hown hK hW (c1 hE) (e1 _ _ _ _ _ _) rfl 43 (Nat.le_of_ble_eq_true rfl) q0 (fun _ h => h) (v := .ref (B 83 0)) rfl dX7_cell_68 ?_
          refine lv_iload_n hx hb dX7_cell_71 rfl (lv_at hl 1 rfl) ?_
          refine x_iald hx hb hK hW (c83 hE) (e83 _ _ _ _ _ _) hi_4 (jn := a1.toNatClampNeg) rfl dX7_cell_72 ?_
          refine lv_iconst (v := 1) hx hb dX7_cell_73 rfl ?_
          refine lv_icmp_ne (tgt := 82) hx hb dX7_cell_74 (by decide) (fun h => ?_) (fun h => ?_)
          · have hf := if_f h hf
            refine lv_iload_n hx hb dX7_cell_82 rfl (lv_at hl 3 rfl) ?_
            exact w83 S a3 (((40 : Int32) * a1) + a2)  hf _ _ _ hW hS (lv_sub hl [] rfl)
          · have hf := if_t h hf
            refine lv_iload_n hx hb dX7_cell_77 rfl (lv_at hl 3 rfl) ?_
            refine lv_i2s hx hb dX7_cell_78 rfl ?_
            refine lv_goto (tgt := 83) hx hb dX7_cell_79 (by decide) ?_
            exact w83 S a3.toInt16.toInt32 (((40 : Int32) * a1) + a2)  hf _ _ _ hW hS (lv_sub hl [] rfl)
        · have hf := if_t h hf
          refine lv_iload_n hx hb dX7_cell_62 rfl (lv_at hl 3 rfl) ?_
          refine lv_i2b hx hb dX7_cell_63 rfl ?_
          refine lv_goto (tgt := 83) hx hb dX7_cell_64 (by decide) ?_
          exact w83 S a3.toInt8.toInt32 (((40 : Int32) * a1) + a2)  hf _ _ _ hW hS (lv_sub hl [] rfl)
      · have hf := if_t h hf
        refine lv_bipush (v := -12) hx hb dX7_cell_40 (by decide) ?_
        exact z_i hf hx hb hr rfl hF hW hS dX7_cell_42 hlocks
    · have hf := if_f h hf
      refine lv_bipush (v := -11) hx hb dX7_cell_20 (by decide) ?_
      exact z_i hf hx hb hr rfl hF hW hS dX7_cell_22 hlocks
  · have hf := if_t h hf
    refine lv_bipush (v := -2) hx hb dX7_cell_8 (by decide) ?_
    exact z_i hf hx hb hr rfl hF hW hS dX7_cell_10 hlocks
set_option maxHeartbeats 4000000 in
set_option maxRecDepth 100000 in
theorem m_X7_copy (l : Launch) (G : GE) (B : Nat → Nat → Nat) (E : EN) (hE : 0 < E.2.2.2)  (S : ST) (a1 : Int32) (a2 : Int32) (a3 : Int32) (a4 : Int32) (a5 : Int32) (rr : Int32) (SS : ST) (hf : f_X7_copy E S a1 a2 a3 a4 a5 = some (rr, SS)) : Met l yX7_copy wsX7_copy (rmN 3) (va_Pc [.ref (B 1 0), .int a1, .int a2, .int a3, .int a4, .int a5] (WS G B E S)) (QI G B E SS rr) 0 0 (AA G) := by
  refine Met.ofW (cc := cX7_copy) (maxL := 7) (ret := (some .int)) (by decide) rfl ?_
  intro p e s m args below meth c s₁ B0 hml hv
  obtain ⟨rfl, hW, hF⟩ := hv
  have hx := B0.exec
  have hb := B0.bytes
  have hr := B0.returns
  have hts := atoms_spec (ws := wsX7_copy) B0.pre
  have hown : s.vm.findClass RX7 = some m.cls := findClass_of_methodNamed B0.named
  have hlocks := B0.notSynchronized
  have hK := hF.1
  have hfix : CallFix p m c cX7_copy 7 s [.ref (B 1 0), .int a1, .int a2, .int a3, .int a4, .int a5].toArray wsX7_copy RX7 := ⟨hx, hb, hml, hown, hts⟩
  have hS : va_S (AA G) s.heap s.heap [] := va_S.rf
  have hl := lv_entry [.ref (B 1 0), .int a1, .int a2, .int a3, .int a4, .int a5] (n := 7) (Nat.le_of_ble_eq_true rfl)
  rw [lg_entry_eq]
  generalize (lg_sl [.ref (B 1 0), .int a1, .int a2, .int a3, .int a4, .int a5] ++ List.replicate (7 - (lg_sl [.ref (B 1 0), .int a1, .int a2, .int a3, .int a4, .int a5]).length) Slot.unset).toArray = ls at hl ⊢
  have hl : lv_has ls 7 [(0, .ref (B 1 0)), (1, .int a1), (2, .int a2), (3, .int a3), (4, .int a4), (5, .int a5)] := hl
  have q0 := hts (.fieldLink RX7 171 "MovesUpModel" "item" "[I") (List.mem_of_getElem? (i := 4) rfl)
  have q1 := hts (.fieldLink RX7 174 "MovesUpModel" "aside" "[I") (List.mem_of_getElem? (i := 3) rfl)
  have q2 := hts (.fieldLink RX7 165 "MovesUpModel" "sort" "[I") (List.mem_of_getElem? (i := 1) rfl)
  have q3 := hts (.fieldLink RX7 168 "MovesUpModel" "rows" "[I") (List.mem_of_getElem? (i := 2) rfl)
  have hi7 : ∀ w ∈ u_ws RX7 TX7 47, w ∈ wsX7_copy := in_seg 14 rfl
  have w142 : ∀ (n142 : Nat) (S : ST) (v3 : Int32) (v4 : Int32) (v5 : Int32) (v6 : Int32) , f_X7_copy_b142 E n142 S v3 v4 v5 v6 = some (rr, SS) → ∀ (H : Heap) (locs : List Loc) (ls : Array Slot), WH G B E S H → va_S (AA G) s.heap H locs → lv_has ls 7 [(0, .ref (B 1 0)), (3, .int v3), (4, .int v4), (5, .int v5), (6, .int v6)] → W p l e (headSpec wsX7_copy (rmN 3)).room s m [.ref (B 1 0), .int a1, .int a2, .int a3, .int a4, .int a5].toArray below meth c H locs 0 0 (MQ below (QI G B E SS rr) [.ref (B 1 0), .int a1, .int a2, .int a3, .int a4, .int a5].toArray s 0 0 (AA G)) (F0 m 142 ls []) := by
    intro n142
    induction n142 with
    | zero =>
      intro S v3 v4 v5 v6 hf
      exact absurd (show (none : Option (Int32 × ST)) = some (rr, SS) from hf) (fun h => by cases h)
    | succ n142 ih142 =>
      intro S v3 v4 v5 v6 hf H locs ls hW hS hl
      have hf : g_X7_copy_b142 E (f_X7_copy_b142 E n142) S v3 v4 v5 v6 = some (rr, SS) := hf
      unfold g_X7_copy_b142 at hf
      refine lv_iload hx hb dX7_copy_142 (lv_at hl 4 rfl) ?_
      refine lv_iload hx hb dX7_copy_144 (lv_at hl 3 rfl) ?_
      refine lv_icmp_ge (tgt := 177) hx hb dX7_copy_146 (by decide) (fun h => ?_) (fun h => ?_)
      · have hf := if_t h hf
        refine lv_iload hx hb dX7_copy_177 (lv_at hl 3 rfl) ?_
        exact z_i hf hx hb hr rfl hF hW hS dX7_copy_179 hlocks
      · have hf := if_f h hf
        refine lv_aload_n hx hb dX7_copy_149 rfl (lv_at hl 0 rfl) ?_
        refine x_get hx hb hts hi7 hown hK hW (c1 hE) (e1 _ _ _ _ _ _) rfl 45 (Nat.le_of_ble_eq_true rfl) q0 (fun _ h => h) (v := .ref (B 85 0)) rfl dX7_copy_150 ?_
        refine lv_bipush (v := 40) hx hb dX7_copy_153 (by decide) ?_
        refine lv_iload_n hx hb dX7_copy_155 rfl (lv_at hl 1 rfl) ?_
        refine lv_imul hx hb dX7_copy_156 ?_
        refine lv_iload hx hb dX7_copy_157 (lv_at hl 2 rfl) ?_
        refine lv_iadd hx hb dX7_copy_159 ?_
        refine lv_iload hx hb dX7_copy_160 (lv_at hl 4 rfl) ?_
        refine lv_iadd hx hb dX7_copy_162 ?_
        refine lv_aload_n hx hb dX7_copy_163 rfl (lv_at hl 0 rfl) ?_
        refine x_get hx hb hts hi7 hown hK hW (c1 hE) (e1 _ _ _ _ _ _) rfl 46 (Nat.le_of_ble_eq_true rfl) q1 (fun _ h => h) (v := .ref (B 86 0)) rfl dX7_copy_164 ?_
        refine lv_iload hx hb dX7_copy_167 (lv_at hl 4 rfl) ?_
        obtain ⟨hi_1, hf⟩ := ck_out hf
        have hi_1 := ib_in hi_1
        refine x_iald hx hb hK hW (c86 hE) (e86 _ _ _ _ _ _) hi_1 (jn := v6.toNatClampNeg) rfl dX7_copy_169 ?_
        obtain ⟨hi_2, hf⟩ := ck_out hf
        have hi_2 := ib_in hi_2
        obtain ⟨S3, e_S3, hf⟩ := lt_out hf
        refine x_iast hx hb hK hW hS (c85 hE) (fun f r => e85 _ _ _ f _ r) hi_2 (jn := ((((40 : Int32) * v3) + v4) + v6).toNatClampNeg) rfl e_S3 dX7_copy_170 (fun H locs hW hS => ?_)
        obtain ⟨x4, e_x4, hf⟩ := lt_out hf
        refine lv_iinc (v := x4) (lv' := [(6, .int x4), (0, .ref (B 1 0)), (3, .int v3), (4, .int v4), (5, .int v5)]) hx hb dX7_copy_171 hl (k := 4) rfl (by rw [e_x4]; rfl) (by decide) rfl (fun ls hl => ?_)
        refine lv_goto (tgt := 142) hx hb dX7_copy_174 (by decide) ?_
        exact ih142 S3 v3 v4 v5 x4  hf _ _ _ hW hS (lv_sub hl [1, 2, 3, 4, 0] rfl)
  have w139 : ∀ (S : ST) (v3 : Int32) (v4 : Int32) (v5 : Int32) , f_X7_copy_b139 E S v3 v4 v5 = some (rr, SS) → ∀ (H : Heap) (locs : List Loc) (ls : Array Slot), WH G B E S H → va_S (AA G) s.heap H locs → lv_has ls 7 [(0, .ref (B 1 0)), (3, .int v3), (4, .int v4), (5, .int v5)] → W p l e (headSpec wsX7_copy (rmN 3)).room s m [.ref (B 1 0), .int a1, .int a2, .int a3, .int a4, .int a5].toArray below meth c H locs 0 0 (MQ below (QI G B E SS rr) [.ref (B 1 0), .int a1, .int a2, .int a3, .int a4, .int a5].toArray s 0 0 (AA G)) (F0 m 139 ls []) := by
    intro S v3 v4 v5 hf H locs ls hW hS hl
    unfold f_X7_copy_b139 at hf
    refine lv_iconst (v := 0) hx hb dX7_copy_139 rfl ?_
    refine lv_istore (lv' := [(6, .int (0 : Int32)), (0, .ref (B 1 0)), (3, .int v3), (4, .int v4), (5, .int v5)]) hx hb dX7_copy_140 hl (by decide) rfl (fun ls hl => ?_)
    exact w142 E.1 S v3 v4 v5 (0 : Int32)  hf _ _ _ hW hS (lv_sub hl [1, 2, 3, 4, 0] rfl)
  have w105 : ∀ (n105 : Nat) (S : ST) (v1 : Int32) (v2 : Int32) (v3 : Int32) (v4 : Int32) (v5 : Int32) (v6 : Int32) , f_X7_copy_b105 E n105 S v1 v2 v3 v4 v5 v6 = some (rr, SS) → ∀ (H : Heap) (locs : List Loc) (ls : Array Slot), WH G B E S H → va_S (AA G) s.heap H locs → lv_has ls 7 [(0, .ref (B 1 0)), (1, .int v1), (2, .int v2), (3, .int v3), (4, .int v4), (5, .int v5), (6, .int v6)] → W p l e (headSpec wsX7_copy (rmN 3)).room s m [.ref (B 1 0), .int a1, .int a2, .int a3, .int a4, .int a5].toArray below meth c H locs 0 0 (MQ below (QI G B E SS rr) [.ref (B 1 0), .int a1, .int a2, .int a3, .int a4, .int a5].toArray s 0 0 (AA G)) (F0 m 105 ls []) := by
    intro n105
    induction n105 with
    | zero =>
      intro S v1 v2 v3 v4 v5 v6 hf
      exact absurd (show (none : Option (Int32 × ST)) = some (rr, SS) from hf) (fun h => by cases h)
    | succ n105 ih105 =>
      intro S v1 v2 v3 v4 v5 v6 hf H locs ls hW hS hl
      have hf : g_X7_copy_b105 E (f_X7_copy_b105 E n105) S v1 v2 v3 v4 v5 v6 = some (rr, SS) := hf
      unfold g_X7_copy_b105 at hf
      refine lv_iload hx hb dX7_copy_105 (lv_at hl 6 rfl) ?_
      refine lv_iload hx hb dX7_copy_107 (lv_at hl 5 rfl) ?_
      refine lv_icmp_ge (tgt := 139) hx hb dX7_copy_109 (by decide) (fun h => ?_) (fun h => ?_)
      · have hf := if_t h hf
        exact w139 S v3 v4 v5  hf _ _ _ hW hS (lv_sub hl [0, 3, 4, 5] rfl)
      · have hf := if_f h hf
        refine lv_aload_n hx hb dX7_copy_112 rfl (lv_at hl 0 rfl) ?_
        refine x_get hx hb hts hi7 hown hK hW (c1 hE) (e1 _ _ _ _ _ _) rfl 46 (Nat.le_of_ble_eq_true rfl) q1 (fun _ h => h) (v := .ref (B 86 0)) rfl dX7_copy_113 ?_
        refine lv_iload hx hb dX7_copy_116 (lv_at hl 6 rfl) ?_
        refine lv_aload_n hx hb dX7_copy_118 rfl (lv_at hl 0 rfl) ?_
        refine x_get hx hb hts hi7 hown hK hW (c1 hE) (e1 _ _ _ _ _ _) rfl 45 (Nat.le_of_ble_eq_true rfl) q0 (fun _ h => h) (v := .ref (B 85 0)) rfl dX7_copy_119 ?_
        refine lv_bipush (v := 40) hx hb dX7_copy_122 (by decide) ?_
        refine lv_iload_n hx hb dX7_copy_124 rfl (lv_at hl 1 rfl) ?_
        refine lv_imul hx hb dX7_copy_125 ?_
        refine lv_iload_n hx hb dX7_copy_126 rfl (lv_at hl 2 rfl) ?_
        refine lv_iadd hx hb dX7_copy_127 ?_
        refine lv_iload hx hb dX7_copy_128 (lv_at hl 6 rfl) ?_
        refine lv_iadd hx hb dX7_copy_130 ?_
        obtain ⟨hi_5, hf⟩ := ck_out hf
        have hi_5 := ib_in hi_5
        refine x_iald hx hb hK hW (c85 hE) (e85 _ _ _ _ _ _) hi_5 (jn := ((((40 : Int32) * v1) + v2) + v6).toNatClampNeg) rfl dX7_copy_131 ?_
        obtain ⟨hi_6, hf⟩ := ck_out hf
        have hi_6 := ib_in hi_6
        obtain ⟨S7, e_S7, hf⟩ := lt_out hf
        refine x_iast hx hb hK hW hS (c86 hE) (fun f r => e86 _ _ _ f _ r) hi_6 (jn := v6.toNatClampNeg) rfl e_S7 dX7_copy_132 (fun H locs hW hS => ?_)
        obtain ⟨x8, e_x8, hf⟩ := lt_out hf
        refine lv_iinc (v := x8) (lv' := [(6, .int x8), (0, .ref (B 1 0)), (1, .int v1), (2, .int v2), (3, .int v3), (4, .int v4), (5, .int v5)]) hx hb dX7_copy_133 hl (k := 6) rfl (by rw [e_x8]; rfl) (by decide) rfl (fun ls hl => ?_)
        refine lv_goto (tgt := 105) hx hb dX7_copy_136 (by decide) ?_
        exact ih105 S7 v1 v2 v3 v4 v5 x8  hf _ _ _ hW hS (lv_sub hl [1, 2, 3, 4, 5, 6, 0] rfl)
  unfold f_X7_copy at hf
  refine lv_aload_n hx hb dX7_copy_0 rfl (lv_at hl 0 rfl) ?_
  refine lv_iload_n hx hb dX7_copy_1 rfl (lv_at hl 1 rfl) ?_
  obtain ⟨r9, hc, hf⟩ := bd_out hf
  refine y_i (va_runV (As := [.int a1]) (rest := []) hfix (m_X7_isSheet l G B E hE S a1 r9 hc) (cwV 1 hts gX7_copy_X7_isSheet rfl rfl rfl ⟨rfl, hd_X7_isSheet⟩ ⟨Nat.le_of_ble_eq_true rfl, Nat.le_of_ble_eq_true rfl⟩) (y_pv hF hW hS (c1 hE) (e1 _ _ _ _ _ _) rfl) rfl rfl hl.1 rfl (lv_room (Nat.le_of_ble_eq_true rfl)) dX7_copy_2 ⟨Nat.le_of_ble_eq_true rfl, Nat.le_of_ble_eq_true rfl⟩) hS (fun H locs hW hS => ?_)
  refine lv_if_eq (tgt := 16) hx hb dX7_copy_5 (by decide) (fun h => ?_) (fun h => ?_)
  · have hf := if_t h hf
    refine lv_bipush (v := -2) hx hb dX7_copy_16 (by decide) ?_
    exact z_i hf hx hb hr rfl hF hW hS dX7_copy_18 hlocks
  · have hf := if_f h hf
    refine lv_aload_n hx hb dX7_copy_8 rfl (lv_at hl 0 rfl) ?_
    refine lv_iload_n hx hb dX7_copy_9 rfl (lv_at hl 3 rfl) ?_
    obtain ⟨r10, hc, hf⟩ := bd_out hf
    refine y_i (va_runV (As := [.int a3]) (rest := []) hfix (m_X7_isSheet l G B E hE S a3 r10 hc) (cwV 1 hts gX7_copy_X7_isSheet rfl rfl rfl ⟨rfl, hd_X7_isSheet⟩ ⟨Nat.le_of_ble_eq_true rfl, Nat.le_of_ble_eq_true rfl⟩) (y_pv hF hW hS (c1 hE) (e1 _ _ _ _ _ _) rfl) rfl rfl hl.1 rfl (lv_room (Nat.le_of_ble_eq_true rfl)) dX7_copy_10 ⟨Nat.le_of_ble_eq_true rfl, Nat.le_of_ble_eq_true rfl⟩) hS (fun H locs hW hS => ?_)
    refine lv_if_ne (tgt := 19) hx hb dX7_copy_13 (by decide) (fun h => ?_) (fun h => ?_)
    · have hf := if_f h hf
      refine lv_aload_n hx hb dX7_copy_19 rfl (lv_at hl 0 rfl) ?_
      refine x_get hx hb hts hi7 hown hK hW (c1 hE) (e1 _ _ _ _ _ _) rfl 43 (Nat.le_of_ble_eq_true rfl) q2 (fun _ h => h) (v := .ref (B 83 0)) rfl dX7_copy_20 ?_
      refine lv_iload_n hx hb dX7_copy_23 rfl (lv_at hl 1 rfl) ?_
      obtain ⟨hi_11, hf⟩ := ck_out hf
      have hi_11 := ib_in hi_11
      refine x_iald hx hb hK hW (c83 hE) (e83 _ _ _ _ _ _) hi_11 (jn := a1.toNatClampNeg) rfl dX7_copy_24 ?_
      refine lv_if_lt (tgt := 37) hx hb dX7_copy_25 (by decide) (fun h => ?_) (fun h => ?_)
      · have hf := if_t h hf
        refine lv_bipush (v := -11) hx hb dX7_copy_37 (by decide) ?_
        exact z_i hf hx hb hr rfl hF hW hS dX7_copy_39 hlocks
      · have hf := if_f h hf
        refine lv_aload_n hx hb dX7_copy_28 rfl (lv_at hl 0 rfl) ?_
        refine x_get hx hb hts hi7 hown hK hW (c1 hE) (e1 _ _ _ _ _ _) rfl 43 (Nat.le_of_ble_eq_true rfl) q2 (fun _ h => h) (v := .ref (B 83 0)) rfl dX7_copy_29 ?_
        refine lv_iload_n hx hb dX7_copy_32 rfl (lv_at hl 3 rfl) ?_
        obtain ⟨hi_12, hf⟩ := ck_out hf
        have hi_12 := ib_in hi_12
        refine x_iald hx hb hK hW (c83 hE) (e83 _ _ _ _ _ _) hi_12 (jn := a3.toNatClampNeg) rfl dX7_copy_33 ?_
        refine lv_if_ge (tgt := 40) hx hb dX7_copy_34 (by decide) (fun h => ?_) (fun h => ?_)
        · have hf := if_t h hf
          refine lv_aload_n hx hb dX7_copy_40 rfl (lv_at hl 0 rfl) ?_
          refine x_get hx hb hts hi7 hown hK hW (c1 hE) (e1 _ _ _ _ _ _) rfl 43 (Nat.le_of_ble_eq_true rfl) q2 (fun _ h => h) (v := .ref (B 83 0)) rfl dX7_copy_41 ?_
          refine lv_iload_n hx hb dX7_copy_44 rfl (lv_at hl 1 rfl) ?_
          refine x_iald hx hb hK hW (c83 hE) (e83 _ _ _ _ _ _) hi_11 (jn := a1.toNatClampNeg) rfl dX7_copy_45 ?_
          refine lv_aload_n hx hb dX7_copy_46 rfl (lv_at hl 0 rfl) ?_
          refine x_get hx hb hts hi7 hown hK hW (c1 hE) (e1 _ _ _ _ _ _) rfl 43 (Nat.le_of_ble_eq_true rfl) q2 (fun _ h => h) (v := .ref (B 83 0)) rfl dX7_copy_47 ?_
          refine lv_iload_n hx hb dX7_copy_50 rfl (lv_at hl 3 rfl) ?_
          refine x_iald hx hb hK hW (c83 hE) (e83 _ _ _ _ _ _) hi_12 (jn := a3.toNatClampNeg) rfl dX7_copy_51 ?_
          refine lv_icmp_eq (tgt := 58) hx hb dX7_copy_52 (by decide) (fun h => ?_) (fun h => ?_)
          · have hf := if_t h hf
            refine lv_iload hx hb dX7_copy_58 (lv_at hl 5 rfl) ?_
            refine lv_if_lt (tgt := 99) hx hb dX7_copy_60 (by decide) (fun h => ?_) (fun h => ?_)
            · have hf := if_t h hf
              refine lv_bipush (v := -12) hx hb dX7_copy_99 (by decide) ?_
              exact z_i hf hx hb hr rfl hF hW hS dX7_copy_101 hlocks
            · have hf := if_f h hf
              refine lv_iload_n hx hb dX7_copy_63 rfl (lv_at hl 2 rfl) ?_
              refine lv_if_lt (tgt := 99) hx hb dX7_copy_64 (by decide) (fun h => ?_) (fun h => ?_)
              · have hf := if_t h hf
                refine lv_bipush (v := -12) hx hb dX7_copy_99 (by decide) ?_
                exact z_i hf hx hb hr rfl hF hW hS dX7_copy_101 hlocks
              · have hf := if_f h hf
                refine lv_iload hx hb dX7_copy_67 (lv_at hl 4 rfl) ?_
                refine lv_if_lt (tgt := 99) hx hb dX7_copy_69 (by decide) (fun h => ?_) (fun h => ?_)
                · have hf := if_t h hf
                  refine lv_bipush (v := -12) hx hb dX7_copy_99 (by decide) ?_
                  exact z_i hf hx hb hr rfl hF hW hS dX7_copy_101 hlocks
                · have hf := if_f h hf
                  refine lv_iload_n hx hb dX7_copy_72 rfl (lv_at hl 2 rfl) ?_
                  refine lv_aload_n hx hb dX7_copy_73 rfl (lv_at hl 0 rfl) ?_
                  refine x_get hx hb hts hi7 hown hK hW (c1 hE) (e1 _ _ _ _ _ _) rfl 44 (Nat.le_of_ble_eq_true rfl) q3 (fun _ h => h) (v := .ref (B 84 0)) rfl dX7_copy_74 ?_
                  refine lv_iload_n hx hb dX7_copy_77 rfl (lv_at hl 1 rfl) ?_
                  refine x_iald hx hb hK hW (c84 hE) (e84 _ _ _ _ _ _) hi_11 (jn := a1.toNatClampNeg) rfl dX7_copy_78 ?_
                  refine lv_iload hx hb dX7_copy_79 (lv_at hl 5 rfl) ?_
                  refine lv_isub hx hb dX7_copy_81 ?_
                  refine lv_icmp_gt (tgt := 99) hx hb dX7_copy_82 (by decide) (fun h => ?_) (fun h => ?_)
                  · have hf := if_t h hf
                    refine lv_bipush (v := -12) hx hb dX7_copy_99 (by decide) ?_
                    exact z_i hf hx hb hr rfl hF hW hS dX7_copy_101 hlocks
                  · have hf := if_f h hf
                    refine lv_iload hx hb dX7_copy_85 (lv_at hl 4 rfl) ?_
                    refine lv_aload_n hx hb dX7_copy_87 rfl (lv_at hl 0 rfl) ?_
                    refine x_get hx hb hts hi7 hown hK hW (c1 hE) (e1 _ _ _ _ _ _) rfl 44 (Nat.le_of_ble_eq_true rfl) q3 (fun _ h => h) (v := .ref (B 84 0)) rfl dX7_copy_88 ?_
                    refine lv_iload_n hx hb dX7_copy_91 rfl (lv_at hl 3 rfl) ?_
                    refine x_iald hx hb hK hW (c84 hE) (e84 _ _ _ _ _ _) hi_12 (jn := a3.toNatClampNeg) rfl dX7_copy_92 ?_
                    refine lv_iload hx hb dX7_copy_93 (lv_at hl 5 rfl) ?_
                    refine lv_isub hx hb dX7_copy_95 ?_
                    refine lv_icmp_le (tgt := 102) hx hb dX7_copy_96 (by decide) (fun h => ?_) (fun h => ?_)
                    · have hf := if_t h hf
                      refine lv_iconst (v := 0) hx hb dX7_copy_102 rfl ?_
                      refine lv_istore (lv' := [(6, .int (0 : Int32)), (0, .ref (B 1 0)), (1, .int a1), (2, .int a2), (3, .int a3), (4, .int a4), (5, .int a5)]) hx hb dX7_copy_103 hl (by decide) rfl (fun ls hl => ?_)
                      exact w105 E.1 S a1 a2 a3 a4 a5 (0 : Int32)  hf _ _ _ hW hS (lv_sub hl [1, 2, 3, 4, 5, 6, 0] rfl)
                    · have hf := if_f h hf
                      refine lv_bipush (v := -12) hx hb dX7_copy_99 (by decide) ?_
                      exact z_i hf hx hb hr rfl hF hW hS dX7_copy_101 hlocks
          · have hf := if_f h hf
            refine lv_bipush (v := -13) hx hb dX7_copy_55 (by decide) ?_
            exact z_i hf hx hb hr rfl hF hW hS dX7_copy_57 hlocks
        · have hf := if_f h hf
          refine lv_bipush (v := -11) hx hb dX7_copy_37 (by decide) ?_
          exact z_i hf hx hb hr rfl hF hW hS dX7_copy_39 hlocks
    · have hf := if_t h hf
      refine lv_bipush (v := -2) hx hb dX7_copy_16 (by decide) ?_
      exact z_i hf hx hb hr rfl hF hW hS dX7_copy_18 hlocks
set_option maxHeartbeats 4000000 in
set_option maxRecDepth 100000 in
theorem m_X7_pupils (l : Launch) (G : GE) (B : Nat → Nat → Nat) (E : EN) (hE : 0 < E.2.2.2)  (S : ST) (a1 : Int32) (a2 : Int32) (a3 : Int32) (a4 : Int32) (rr : Int32) (SS : ST) (hf : f_X7_pupils E S a1 a2 a3 a4 = some (rr, SS)) : Met l yX7_pupils wsX7_pupils (rmN 3) (va_Pc [.ref (B 1 0), .int a1, .int a2, .int a3, .int a4] (WS G B E S)) (QI G B E SS rr) 0 0 (AA G) := by
  refine Met.ofW (cc := cX7_pupils) (maxL := 9) (ret := (some .int)) (by decide) rfl ?_
  intro p e s m args below meth c s₁ B0 hml hv
  obtain ⟨rfl, hW, hF⟩ := hv
  have hx := B0.exec
  have hb := B0.bytes
  have hr := B0.returns
  have hts := atoms_spec (ws := wsX7_pupils) B0.pre
  have hown : s.vm.findClass RX7 = some m.cls := findClass_of_methodNamed B0.named
  have hlocks := B0.notSynchronized
  have hK := hF.1
  have hfix : CallFix p m c cX7_pupils 9 s [.ref (B 1 0), .int a1, .int a2, .int a3, .int a4].toArray wsX7_pupils RX7 := ⟨hx, hb, hml, hown, hts⟩
  have hS : va_S (AA G) s.heap s.heap [] := va_S.rf
  have hl := lv_entry [.ref (B 1 0), .int a1, .int a2, .int a3, .int a4] (n := 9) (Nat.le_of_ble_eq_true rfl)
  rw [lg_entry_eq]
  generalize (lg_sl [.ref (B 1 0), .int a1, .int a2, .int a3, .int a4] ++ List.replicate (9 - (lg_sl [.ref (B 1 0), .int a1, .int a2, .int a3, .int a4]).length) Slot.unset).toArray = ls at hl ⊢
  have hl : lv_has ls 9 [(0, .ref (B 1 0)), (1, .int a1), (2, .int a2), (3, .int a3), (4, .int a4)] := hl
  have q0 := hts (.fieldLink RX7 168 "MovesUpModel" "rows" "[I") (List.mem_of_getElem? (i := 2) rfl)
  have q1 := hts (.fieldLink RX7 171 "MovesUpModel" "item" "[I") (List.mem_of_getElem? (i := 3) rfl)
  have q2 := hts (.fieldLink RX7 1 "MovesUpModel" "pupils" "I") (List.mem_of_getElem? (i := 4) rfl)
  have q3 := hts (.fieldLink RX7 165 "MovesUpModel" "sort" "[I") (List.mem_of_getElem? (i := 1) rfl)
  have hi7 : ∀ w ∈ u_ws RX7 TX7 47, w ∈ wsX7_pupils := in_seg 27 rfl
  have w64 : ∀ (n64 : Nat) (S : ST) (v1 : Int32) (v3 : Int32) (v4 : Int32) (v5 : Int32) (v6 : Int32) , f_X7_pupils_b64 E n64 S v1 v3 v4 v5 v6 = some (rr, SS) → ∀ (H : Heap) (locs : List Loc) (ls : Array Slot), WH G B E S H → va_S (AA G) s.heap H locs → lv_has ls 9 [(0, .ref (B 1 0)), (1, .int v1), (3, .int v3), (4, .int v4), (5, .int v5), (6, .int v6)] → W p l e (headSpec wsX7_pupils (rmN 3)).room s m [.ref (B 1 0), .int a1, .int a2, .int a3, .int a4].toArray below meth c H locs 0 0 (MQ below (QI G B E SS rr) [.ref (B 1 0), .int a1, .int a2, .int a3, .int a4].toArray s 0 0 (AA G)) (F0 m 64 ls []) := by
    intro n64
    induction n64 with
    | zero =>
      intro S v1 v3 v4 v5 v6 hf
      exact absurd (show (none : Option (Int32 × ST)) = some (rr, SS) from hf) (fun h => by cases h)
    | succ n64 ih64 =>
      have w167 : ∀ (S : ST) (v1 : Int32) (v3 : Int32) (v4 : Int32) (v5 : Int32) (v6 : Int32) , f_X7_pupils_b167 E (f_X7_pupils_b64 E n64) S v1 v3 v4 v5 v6 = some (rr, SS) → ∀ (H : Heap) (locs : List Loc) (ls : Array Slot), WH G B E S H → va_S (AA G) s.heap H locs → lv_has ls 9 [(0, .ref (B 1 0)), (1, .int v1), (3, .int v3), (4, .int v4), (5, .int v5), (6, .int v6)] → W p l e (headSpec wsX7_pupils (rmN 3)).room s m [.ref (B 1 0), .int a1, .int a2, .int a3, .int a4].toArray below meth c H locs 0 0 (MQ below (QI G B E SS rr) [.ref (B 1 0), .int a1, .int a2, .int a3, .int a4].toArray s 0 0 (AA G)) (F0 m 167 ls []) := by
        intro S v1 v3 v4 v5 v6 hf H locs ls hW hS hl
        unfold f_X7_pupils_b167 at hf
        obtain ⟨x1, e_x1, hf⟩ := lt_out hf
        refine lv_iinc (v := x1) (lv' := [(6, .int x1), (0, .ref (B 1 0)), (1, .int v1), (3, .int v3), (4, .int v4), (5, .int v5)]) hx hb dX7_pupils_167 hl (k := 5) rfl (by rw [e_x1]; rfl) (by decide) rfl (fun ls hl => ?_)
        refine lv_goto (tgt := 64) hx hb dX7_pupils_170 (by decide) ?_
        exact ih64 S v1 v3 v4 v5 x1  hf _ _ _ hW hS (lv_sub hl [1, 2, 3, 4, 5, 0] rfl)
      intro S v1 v3 v4 v5 v6 hf H locs ls hW hS hl
      have hf : g_X7_pupils_b64 E (f_X7_pupils_b64 E n64) S v1 v3 v4 v5 v6 = some (rr, SS) := hf
      unfold g_X7_pupils_b64 at hf
      refine lv_iload hx hb dX7_pupils_64 (lv_at hl 5 rfl) ?_
      refine lv_iload hx hb dX7_pupils_66 (lv_at hl 3 rfl) ?_
      refine lv_icmp_ge (tgt := 173) hx hb dX7_pupils_68 (by decide) (fun h => ?_) (fun h => ?_)
      · have hf := if_t h hf
        refine lv_iload hx hb dX7_pupils_173 (lv_at hl 4 rfl) ?_
        exact z_i hf hx hb hr rfl hF hW hS dX7_pupils_175 hlocks
      · have hf := if_f h hf
        refine lv_iload_n hx hb dX7_pupils_71 rfl (lv_at hl 2 rfl) ?_
        refine lv_if_lt (tgt := 92) hx hb dX7_pupils_72 (by decide) (fun h => ?_) (fun h => ?_)
        · have hf := if_t h hf
          refine lv_bipush (v := -12) hx hb dX7_pupils_92 (by decide) ?_
          exact z_i hf hx hb hr rfl hF hW hS dX7_pupils_94 hlocks
        · have hf := if_f h hf
          refine lv_iload_n hx hb dX7_pupils_75 rfl (lv_at hl 2 rfl) ?_
          refine lv_aload_n hx hb dX7_pupils_76 rfl (lv_at hl 0 rfl) ?_
          refine x_get hx hb hts hi7 hown hK hW (c1 hE) (e1 _ _ _ _ _ _) rfl 44 (Nat.le_of_ble_eq_true rfl) q0 (fun _ h => h) (v := .ref (B 84 0)) rfl dX7_pupils_77 ?_
          refine lv_iload_n hx hb dX7_pupils_80 rfl (lv_at hl 1 rfl) ?_
          obtain ⟨hi_2, hf⟩ := ck_out hf
          have hi_2 := ib_in hi_2
          refine x_iald hx hb hK hW (c84 hE) (e84 _ _ _ _ _ _) hi_2 (jn := v1.toNatClampNeg) rfl dX7_pupils_81 ?_
          refine lv_iconst (v := 2) hx hb dX7_pupils_82 rfl ?_
          refine lv_iload hx hb dX7_pupils_83 (lv_at hl 5 rfl) ?_
          refine lv_imul hx hb dX7_pupils_85 ?_
          refine lv_isub hx hb dX7_pupils_86 ?_
          refine lv_iconst (v := 2) hx hb dX7_pupils_87 rfl ?_
          refine lv_isub hx hb dX7_pupils_88 ?_
          refine lv_icmp_le (tgt := 95) hx hb dX7_pupils_89 (by decide) (fun h => ?_) (fun h => ?_)
          · have hf := if_t h hf
            refine lv_aload_n hx hb dX7_pupils_95 rfl (lv_at hl 0 rfl) ?_
            refine x_get hx hb hts hi7 hown hK hW (c1 hE) (e1 _ _ _ _ _ _) rfl 45 (Nat.le_of_ble_eq_true rfl) q1 (fun _ h => h) (v := .ref (B 85 0)) rfl dX7_pupils_96 ?_
            refine lv_bipush (v := 40) hx hb dX7_pupils_99 (by decide) ?_
            refine lv_iload_n hx hb dX7_pupils_101 rfl (lv_at hl 1 rfl) ?_
            refine lv_imul hx hb dX7_pupils_102 ?_
            refine lv_iload_n hx hb dX7_pupils_103 rfl (lv_at hl 2 rfl) ?_
            refine lv_iadd hx hb dX7_pupils_104 ?_
            refine lv_iconst (v := 2) hx hb dX7_pupils_105 rfl ?_
            refine lv_iload hx hb dX7_pupils_106 (lv_at hl 5 rfl) ?_
            refine lv_imul hx hb dX7_pupils_108 ?_
            refine lv_iadd hx hb dX7_pupils_109 ?_
            obtain ⟨hi_3, hf⟩ := ck_out hf
            have hi_3 := ib_in hi_3
            refine x_iald hx hb hK hW (c85 hE) (e85 _ _ _ _ _ _) hi_3 (jn := ((((40 : Int32) * v1) + v3) + ((2 : Int32) * v6)).toNatClampNeg) rfl dX7_pupils_110 ?_
            obtain ⟨x4, e_x4, hf⟩ := lt_out hf
            refine x_nmI e_x4 ?_
            refine lv_istore (lv' := [(7, .int x4), (0, .ref (B 1 0)), (1, .int v1), (3, .int v3), (4, .int v4), (5, .int v5), (6, .int v6)]) hx hb dX7_pupils_111 hl (by decide) rfl (fun ls hl => ?_)
            refine lv_aload_n hx hb dX7_pupils_113 rfl (lv_at hl 1 rfl) ?_
            refine x_get hx hb hts hi7 hown hK hW (c1 hE) (e1 _ _ _ _ _ _) rfl 45 (Nat.le_of_ble_eq_true rfl) q1 (fun _ h => h) (v := .ref (B 85 0)) rfl dX7_pupils_114 ?_
            refine lv_bipush (v := 40) hx hb dX7_pupils_117 (by decide) ?_
            refine lv_iload_n hx hb dX7_pupils_119 rfl (lv_at hl 2 rfl) ?_
            refine lv_imul hx hb dX7_pupils_120 ?_
            refine lv_iload_n hx hb dX7_pupils_121 rfl (lv_at hl 3 rfl) ?_
            refine lv_iadd hx hb dX7_pupils_122 ?_
            refine lv_iconst (v := 2) hx hb dX7_pupils_123 rfl ?_
            refine lv_iload hx hb dX7_pupils_124 (lv_at hl 6 rfl) ?_
            refine lv_imul hx hb dX7_pupils_126 ?_
            refine lv_iadd hx hb dX7_pupils_127 ?_
            refine lv_iconst (v := 1) hx hb dX7_pupils_128 rfl ?_
            refine lv_iadd hx hb dX7_pupils_129 ?_
            obtain ⟨hi_5, hf⟩ := ck_out hf
            have hi_5 := ib_in hi_5
            refine x_iald hx hb hK hW (c85 hE) (e85 _ _ _ _ _ _) hi_5 (jn := (((((40 : Int32) * v1) + v3) + ((2 : Int32) * v6)) + (1 : Int32)).toNatClampNeg) rfl dX7_pupils_130 ?_
            obtain ⟨x6, e_x6, hf⟩ := lt_out hf
            refine x_nmI e_x6 ?_
            refine lv_istore (lv' := [(8, .int x6), (7, .int x4), (0, .ref (B 1 0)), (1, .int v1), (3, .int v3), (4, .int v4), (5, .int v5), (6, .int v6)]) hx hb dX7_pupils_131 hl (by decide) rfl (fun ls hl => ?_)
            refine lv_aload_n hx hb dX7_pupils_133 rfl (lv_at hl 2 rfl) ?_
            refine lv_iload hx hb dX7_pupils_134 (lv_at hl 1 rfl) ?_
            refine lv_iload hx hb dX7_pupils_136 (lv_at hl 0 rfl) ?_
            obtain ⟨r7, hc, hf⟩ := bd_out hf
            refine y_i (va_runV (As := [.int x4, .int x6]) (rest := []) hfix (m_X7_isNew l G B E hE S x4 x6 r7 hc) (cwV 2 hts gX7_pupils_X7_isNew rfl rfl rfl ⟨rfl, hd_X7_isNew⟩ ⟨Nat.le_of_ble_eq_true rfl, Nat.le_of_ble_eq_true rfl⟩) (y_pv hF hW hS (c1 hE) (e1 _ _ _ _ _ _) rfl) rfl rfl hl.1 rfl (lv_room (Nat.le_of_ble_eq_true rfl)) dX7_pupils_138 ⟨Nat.le_of_ble_eq_true rfl, Nat.le_of_ble_eq_true rfl⟩) hS (fun H locs hW hS => ?_)
            refine lv_if_eq (tgt := 167) hx hb dX7_pupils_141 (by decide) (fun h => ?_) (fun h => ?_)
            · have hf := if_t h hf
              exact w167 S v1 v3 v4 v5 v6  hf _ _ _ hW hS (lv_sub hl [2, 3, 4, 5, 6, 7] rfl)
            · have hf := if_f h hf
              refine lv_aload_n hx hb dX7_pupils_144 rfl (lv_at hl 2 rfl) ?_
              refine x_get hx hb hts hi7 hown hK hW (c1 hE) (e1 _ _ _ _ _ _) rfl 0 (Nat.le_of_ble_eq_true rfl) q2 (fun _ h => h) (v := .int (gI S 1 0 0)) rfl dX7_pupils_145 ?_
              refine lv_bipush (v := 8) hx hb dX7_pupils_148 (by decide) ?_
              refine lv_icmp_ne (tgt := 156) hx hb dX7_pupils_150 (by decide) (fun h => ?_) (fun h => ?_)
              · have hf := if_f h hf
                refine lv_aload_n hx hb dX7_pupils_156 rfl (lv_at hl 2 rfl) ?_
                refine lv_iload hx hb dX7_pupils_157 (lv_at hl 1 rfl) ?_
                refine lv_iload hx hb dX7_pupils_159 (lv_at hl 0 rfl) ?_
                obtain ⟨S8, hc, hf⟩ := bd_out hf
                refine y_v (va_runV (As := [.int x4, .int x6]) (rest := []) hfix (m_X7_comes l G B E hE S x4 x6 S8 hc) (cwV 2 hts gX7_pupils_X7_comes rfl rfl rfl ⟨rfl, hd_X7_comes⟩ ⟨Nat.le_of_ble_eq_true rfl, Nat.le_of_ble_eq_true rfl⟩) (y_pv hF hW hS (c1 hE) (e1 _ _ _ _ _ _) rfl) rfl rfl hl.1 rfl (lv_room (Nat.le_of_ble_eq_true rfl)) dX7_pupils_161 ⟨Nat.le_of_ble_eq_true rfl, Nat.le_of_ble_eq_true rfl⟩) hS (fun H locs hW hS => ?_)
                obtain ⟨x9, e_x9, hf⟩ := lt_out hf
                refine lv_iinc (v := x9) (lv' := [(5, .int x9), (8, .int x6), (7, .int x4), (0, .ref (B 1 0)), (1, .int v1), (3, .int v3), (4, .int v4), (6, .int v6)]) hx hb dX7_pupils_164 hl (k := 6) rfl (by rw [e_x9]; rfl) (by decide) rfl (fun ls hl => ?_)
                exact w167 S8 v1 v3 v4 x9 v6  hf _ _ _ hW hS (lv_sub hl [3, 4, 5, 6, 0, 7] rfl)
              · have hf := if_t h hf
                refine lv_goto (tgt := 167) hx hb dX7_pupils_153 (by decide) ?_
                exact w167 S v1 v3 v4 v5 v6  hf _ _ _ hW hS (lv_sub hl [2, 3, 4, 5, 6, 7] rfl)
          · have hf := if_f h hf
            refine lv_bipush (v := -12) hx hb dX7_pupils_92 (by decide) ?_
            exact z_i hf hx hb hr rfl hF hW hS dX7_pupils_94 hlocks
  unfold f_X7_pupils at hf
  refine lv_aload_n hx hb dX7_pupils_0 rfl (lv_at hl 0 rfl) ?_
  refine lv_iload_n hx hb dX7_pupils_1 rfl (lv_at hl 1 rfl) ?_
  obtain ⟨r10, hc, hf⟩ := bd_out hf
  refine y_i (va_runV (As := [.int a1]) (rest := []) hfix (m_X7_isSheet l G B E hE S a1 r10 hc) (cwV 1 hts gX7_pupils_X7_isSheet rfl rfl rfl ⟨rfl, hd_X7_isSheet⟩ ⟨Nat.le_of_ble_eq_true rfl, Nat.le_of_ble_eq_true rfl⟩) (y_pv hF hW hS (c1 hE) (e1 _ _ _ _ _ _) rfl) rfl rfl hl.1 rfl (lv_room (Nat.le_of_ble_eq_true rfl)) dX7_pupils_2 ⟨Nat.le_of_ble_eq_true rfl, Nat.le_of_ble_eq_true rfl⟩) hS (fun H locs hW hS => ?_)
  refine lv_if_eq (tgt := 30) hx hb dX7_pupils_5 (by decide) (fun h => ?_) (fun h => ?_)
  · have hf := if_t h hf
    refine lv_bipush (v := -2) hx hb dX7_pupils_30 (by decide) ?_
    exact z_i hf hx hb hr rfl hF hW hS dX7_pupils_32 hlocks
  · have hf := if_f h hf
    refine lv_aload_n hx hb dX7_pupils_8 rfl (lv_at hl 0 rfl) ?_
    refine lv_iload_n hx hb dX7_pupils_9 rfl (lv_at hl 2 rfl) ?_
    refine lv_iconst (v := 0) hx hb dX7_pupils_10 rfl ?_
    refine lv_iconst (v := 2) hx hb dX7_pupils_11 rfl ?_
    obtain ⟨r11, hc, hf⟩ := bd_out hf
    refine y_i (va_runV (As := [.int a2, .int (0 : Int32), .int (2 : Int32)]) (rest := []) hfix (m_X7_in l G B E hE S a2 (0 : Int32) (2 : Int32) r11 hc) (cwV 3 hts gX7_pupils_X7_in rfl rfl rfl ⟨rfl, hd_X7_in⟩ ⟨Nat.le_of_ble_eq_true rfl, Nat.le_of_ble_eq_true rfl⟩) (y_pv hF hW hS (c1 hE) (e1 _ _ _ _ _ _) rfl) rfl rfl hl.1 rfl (lv_room (Nat.le_of_ble_eq_true rfl)) dX7_pupils_12 ⟨Nat.le_of_ble_eq_true rfl, Nat.le_of_ble_eq_true rfl⟩) hS (fun H locs hW hS => ?_)
    refine lv_if_eq (tgt := 30) hx hb dX7_pupils_15 (by decide) (fun h => ?_) (fun h => ?_)
    · have hf := if_t h hf
      refine lv_bipush (v := -2) hx hb dX7_pupils_30 (by decide) ?_
      exact z_i hf hx hb hr rfl hF hW hS dX7_pupils_32 hlocks
    · have hf := if_f h hf
      refine lv_aload_n hx hb dX7_pupils_18 rfl (lv_at hl 0 rfl) ?_
      refine lv_iload hx hb dX7_pupils_19 (lv_at hl 4 rfl) ?_
      refine lv_iconst (v := 0) hx hb dX7_pupils_21 rfl ?_
      refine lv_bipush (v := 8) hx hb dX7_pupils_22 (by decide) ?_
      obtain ⟨r12, hc, hf⟩ := bd_out hf
      refine y_i (va_runV (As := [.int a4, .int (0 : Int32), .int (8 : Int32)]) (rest := []) hfix (m_X7_in l G B E hE S a4 (0 : Int32) (8 : Int32) r12 hc) (cwV 3 hts gX7_pupils_X7_in rfl rfl rfl ⟨rfl, hd_X7_in⟩ ⟨Nat.le_of_ble_eq_true rfl, Nat.le_of_ble_eq_true rfl⟩) (y_pv hF hW hS (c1 hE) (e1 _ _ _ _ _ _) rfl) rfl rfl hl.1 rfl (lv_room (Nat.le_of_ble_eq_true rfl)) dX7_pupils_24 ⟨Nat.le_of_ble_eq_true rfl, Nat.le_of_ble_eq_true rfl⟩) hS (fun H locs hW hS => ?_)
      refine lv_if_ne (tgt := 33) hx hb dX7_pupils_27 (by decide) (fun h => ?_) (fun h => ?_)
      · have hf := if_f h hf
        refine lv_aload_n hx hb dX7_pupils_33 rfl (lv_at hl 0 rfl) ?_
        refine x_get hx hb hts hi7 hown hK hW (c1 hE) (e1 _ _ _ _ _ _) rfl 43 (Nat.le_of_ble_eq_true rfl) q3 (fun _ h => h) (v := .ref (B 83 0)) rfl dX7_pupils_34 ?_
        refine lv_iload_n hx hb dX7_pupils_37 rfl (lv_at hl 1 rfl) ?_
        obtain ⟨hi_13, hf⟩ := ck_out hf
        have hi_13 := ib_in hi_13
        refine x_iald hx hb hK hW (c83 hE) (e83 _ _ _ _ _ _) hi_13 (jn := a1.toNatClampNeg) rfl dX7_pupils_38 ?_
        refine lv_if_ge (tgt := 45) hx hb dX7_pupils_39 (by decide) (fun h => ?_) (fun h => ?_)
        · have hf := if_t h hf
          refine lv_aload_n hx hb dX7_pupils_45 rfl (lv_at hl 0 rfl) ?_
          refine x_get hx hb hts hi7 hown hK hW (c1 hE) (e1 _ _ _ _ _ _) rfl 43 (Nat.le_of_ble_eq_true rfl) q3 (fun _ h => h) (v := .ref (B 83 0)) rfl dX7_pupils_46 ?_
          refine lv_iload_n hx hb dX7_pupils_49 rfl (lv_at hl 1 rfl) ?_
          refine x_iald hx hb hK hW (c83 hE) (e83 _ _ _ _ _ _) hi_13 (jn := a1.toNatClampNeg) rfl dX7_pupils_50 ?_
          refine lv_iload_n hx hb dX7_pupils_51 rfl (lv_at hl 2 rfl) ?_
          refine lv_icmp_eq (tgt := 58) hx hb dX7_pupils_52 (by decide) (fun h => ?_) (fun h => ?_)
          · have hf := if_t h hf
            refine lv_iconst (v := 0) hx hb dX7_pupils_58 rfl ?_
            refine lv_istore (lv' := [(5, .int (0 : Int32)), (0, .ref (B 1 0)), (1, .int a1), (2, .int a2), (3, .int a3), (4, .int a4)]) hx hb dX7_pupils_59 hl (by decide) rfl (fun ls hl => ?_)
            refine lv_iconst (v := 0) hx hb dX7_pupils_61 rfl ?_
            refine lv_istore (lv' := [(6, .int (0 : Int32)), (5, .int (0 : Int32)), (0, .ref (B 1 0)), (1, .int a1), (2, .int a2), (3, .int a3), (4, .int a4)]) hx hb dX7_pupils_62 hl (by decide) rfl (fun ls hl => ?_)
            exact w64 E.1 S a1 a3 a4 (0 : Int32) (0 : Int32)  hf _ _ _ hW hS (lv_sub hl [2, 3, 5, 6, 1, 0] rfl)
          · have hf := if_f h hf
            refine lv_bipush (v := -13) hx hb dX7_pupils_55 (by decide) ?_
            exact z_i hf hx hb hr rfl hF hW hS dX7_pupils_57 hlocks
        · have hf := if_f h hf
          refine lv_bipush (v := -11) hx hb dX7_pupils_42 (by decide) ?_
          exact z_i hf hx hb hr rfl hF hW hS dX7_pupils_44 hlocks
      · have hf := if_t h hf
        refine lv_bipush (v := -2) hx hb dX7_pupils_30 (by decide) ?_
        exact z_i hf hx hb hr rfl hF hW hS dX7_pupils_32 hlocks
set_option maxHeartbeats 4000000 in
set_option maxRecDepth 100000 in
theorem m_X7_taken (l : Launch) (G : GE) (B : Nat → Nat → Nat) (E : EN) (hE : 0 < E.2.2.2)  (S : ST) (a1 : Int32) (a2 : Int32) (rr : Int32) (hf : f_X7_taken E S a1 a2 = some rr) : Met l yX7_taken wsX7_taken (rmN 3) (va_Pc [.ref (B 1 0), .int a1, .int a2] (WS G B E S)) (QI G B E S rr) 0 0 (AA G) := by
  refine Met.ofW (cc := cX7_taken) (maxL := 4) (ret := (some .int)) (by decide) rfl ?_
  intro p e s m args below meth c s₁ B0 hml hv
  obtain ⟨rfl, hW, hF⟩ := hv
  have hx := B0.exec
  have hb := B0.bytes
  have hr := B0.returns
  have hts := atoms_spec (ws := wsX7_taken) B0.pre
  have hown : s.vm.findClass RX7 = some m.cls := findClass_of_methodNamed B0.named
  have hlocks := B0.notSynchronized
  have hK := hF.1
  have hfix : CallFix p m c cX7_taken 4 s [.ref (B 1 0), .int a1, .int a2].toArray wsX7_taken RX7 := ⟨hx, hb, hml, hown, hts⟩
  have hS : va_S (AA G) s.heap s.heap [] := va_S.rf
  have hl := lv_entry [.ref (B 1 0), .int a1, .int a2] (n := 4) (Nat.le_of_ble_eq_true rfl)
  rw [lg_entry_eq]
  generalize (lg_sl [.ref (B 1 0), .int a1, .int a2] ++ List.replicate (4 - (lg_sl [.ref (B 1 0), .int a1, .int a2]).length) Slot.unset).toArray = ls at hl ⊢
  have hl : lv_has ls 4 [(0, .ref (B 1 0)), (1, .int a1), (2, .int a2)] := hl
  have q0 := hts (.fieldLink RX7 21 "MovesUpModel" "number" "[I") (List.mem_of_getElem? (i := 2) rfl)
  have q1 := hts (.fieldLink RX7 11 "MovesUpModel" "kind" "[I") (List.mem_of_getElem? (i := 1) rfl)
  have hi7 : ∀ w ∈ u_ws RX7 TX7 47, w ∈ wsX7_taken := in_seg 13 rfl
  have w60 : ∀ (_ : Unit) (v1 : Int32) , f_X7_taken_b60 E S v1 = some rr → ∀ (H : Heap) (locs : List Loc) (ls : Array Slot), WH G B E S H → va_S (AA G) s.heap H locs → lv_has ls 4 [(0, .ref (B 1 0)), (1, .int v1)] → W p l e (headSpec wsX7_taken (rmN 3)).room s m [.ref (B 1 0), .int a1, .int a2].toArray below meth c H locs 0 0 (MQ below (QI G B E S rr) [.ref (B 1 0), .int a1, .int a2].toArray s 0 0 (AA G)) (F0 m 60 ls []) := by
    intro _ v1 hf H locs ls hW hS hl
    unfold f_X7_taken_b60 at hf
    refine lv_aload_n hx hb dX7_taken_60 rfl (lv_at hl 0 rfl) ?_
    refine x_get hx hb hts hi7 hown hK hW (c1 hE) (e1 _ _ _ _ _ _) rfl 4 (Nat.le_of_ble_eq_true rfl) q0 (fun _ h => h) (v := .ref (B 44 0)) rfl dX7_taken_61 ?_
    refine lv_iload_n hx hb dX7_taken_64 rfl (lv_at hl 1 rfl) ?_
    obtain ⟨hi_1, hf⟩ := ck_out hf
    have hi_1 := ib_in hi_1
    refine x_iald hx hb hK hW (c44 hE) (e44 _ _ _ _ _ _) hi_1 (jn := v1.toNatClampNeg) rfl dX7_taken_65 ?_
    refine lv_goto (tgt := 71) hx hb dX7_taken_66 (by decide) ?_
    exact zr_i hf hx hb hr rfl hF hW hS dX7_taken_71 hlocks
  have w50 : ∀ (_ : Unit) (v1 : Int32) (v2 : Int32) (v3 : Int32) , f_X7_taken_b50 E S v1 v2 v3 = some rr → ∀ (H : Heap) (locs : List Loc) (ls : Array Slot), WH G B E S H → va_S (AA G) s.heap H locs → lv_has ls 4 [(0, .ref (B 1 0)), (1, .int v1), (2, .int v2), (3, .int v3)] → W p l e (headSpec wsX7_taken (rmN 3)).room s m [.ref (B 1 0), .int a1, .int a2].toArray below meth c H locs 0 0 (MQ below (QI G B E S rr) [.ref (B 1 0), .int a1, .int a2].toArray s 0 0 (AA G)) (F0 m 50 ls []) := by
    intro _ v1 v2 v3 hf H locs ls hW hS hl
    unfold f_X7_taken_b50 at hf
    refine lv_iload_n hx hb dX7_taken_50 rfl (lv_at hl 2 rfl) ?_
    refine lv_iconst (v := 3) hx hb dX7_taken_51 rfl ?_
    refine lv_icmp_ne (tgt := 69) hx hb dX7_taken_52 (by decide) (fun h => ?_) (fun h => ?_)
    · have hf := if_f h hf
      refine lv_bipush (v := -13) hx hb dX7_taken_69 (by decide) ?_
      exact zr_i hf hx hb hr rfl hF hW hS dX7_taken_71 hlocks
    · have hf := if_t h hf
      refine lv_iload_n hx hb dX7_taken_55 rfl (lv_at hl 3 rfl) ?_
      refine lv_iconst (v := 5) hx hb dX7_taken_56 rfl ?_
      refine lv_icmp_ne (tgt := 69) hx hb dX7_taken_57 (by decide) (fun h => ?_) (fun h => ?_)
      · have hf := if_f h hf
        refine lv_bipush (v := -13) hx hb dX7_taken_69 (by decide) ?_
        exact zr_i hf hx hb hr rfl hF hW hS dX7_taken_71 hlocks
      · have hf := if_t h hf
        exact w60 () v1  hf _ _ _ hW hS (lv_sub hl [0, 1] rfl)
  unfold f_X7_taken at hf
  refine lv_aload_n hx hb dX7_taken_0 rfl (lv_at hl 0 rfl) ?_
  refine lv_iload_n hx hb dX7_taken_1 rfl (lv_at hl 2 rfl) ?_
  refine lv_iconst (v := 0) hx hb dX7_taken_2 rfl ?_
  refine lv_iconst (v := 5) hx hb dX7_taken_3 rfl ?_
  obtain ⟨r2, hc, hf⟩ := bd_out hf
  refine y_i (va_runV (As := [.int a2, .int (0 : Int32), .int (5 : Int32)]) (rest := []) hfix (m_X7_in l G B E hE S a2 (0 : Int32) (5 : Int32) r2 hc) (cwV 3 hts gX7_taken_X7_in rfl rfl rfl ⟨rfl, hd_X7_in⟩ ⟨Nat.le_of_ble_eq_true rfl, Nat.le_of_ble_eq_true rfl⟩) (y_pv hF hW hS (c1 hE) (e1 _ _ _ _ _ _) rfl) rfl rfl hl.1 rfl (lv_room (Nat.le_of_ble_eq_true rfl)) dX7_taken_4 ⟨Nat.le_of_ble_eq_true rfl, Nat.le_of_ble_eq_true rfl⟩) hS (fun H locs hW hS => ?_)
  refine lv_if_ne (tgt := 13) hx hb dX7_taken_7 (by decide) (fun h => ?_) (fun h => ?_)
  · have hf := if_f h hf
    refine lv_aload_n hx hb dX7_taken_13 rfl (lv_at hl 0 rfl) ?_
    refine lv_iload_n hx hb dX7_taken_14 rfl (lv_at hl 1 rfl) ?_
    obtain ⟨r3, hc, hf⟩ := bd_out hf
    refine y_i (va_runV (As := [.int a1]) (rest := []) hfix (m_X7_isPupil l G B E hE S a1 r3 hc) (cwV 1 hts gX7_taken_X7_isPupil rfl rfl rfl ⟨rfl, hd_X7_isPupil⟩ ⟨Nat.le_of_ble_eq_true rfl, Nat.le_of_ble_eq_true rfl⟩) (y_pv hF hW hS (c1 hE) (e1 _ _ _ _ _ _) rfl) rfl rfl hl.1 rfl (lv_room (Nat.le_of_ble_eq_true rfl)) dX7_taken_15 ⟨Nat.le_of_ble_eq_true rfl, Nat.le_of_ble_eq_true rfl⟩) hS (fun H locs hW hS => ?_)
    refine lv_if_ne (tgt := 24) hx hb dX7_taken_18 (by decide) (fun h => ?_) (fun h => ?_)
    · have hf := if_f h hf
      refine lv_aload_n hx hb dX7_taken_24 rfl (lv_at hl 0 rfl) ?_
      refine x_get hx hb hts hi7 hown hK hW (c1 hE) (e1 _ _ _ _ _ _) rfl 1 (Nat.le_of_ble_eq_true rfl) q1 (fun _ h => h) (v := .ref (B 41 0)) rfl dX7_taken_25 ?_
      refine lv_iload_n hx hb dX7_taken_28 rfl (lv_at hl 1 rfl) ?_
      obtain ⟨hi_4, hf⟩ := ck_out hf
      have hi_4 := ib_in hi_4
      refine x_iald hx hb hK hW (c41 hE) (e41 _ _ _ _ _ _) hi_4 (jn := a1.toNatClampNeg) rfl dX7_taken_29 ?_
      obtain ⟨x5, e_x5, hf⟩ := lt_out hf
      refine x_nmI e_x5 ?_
      refine lv_istore_n (lv' := [(3, .int x5), (0, .ref (B 1 0)), (1, .int a1), (2, .int a2)]) hx hb dX7_taken_30 rfl hl (by decide) rfl (fun ls hl => ?_)
      refine lv_iload_n hx hb dX7_taken_31 rfl (lv_at hl 3 rfl) ?_
      refine lv_if_eq (tgt := 60) hx hb dX7_taken_32 (by decide) (fun h => ?_) (fun h => ?_)
      · have hf := if_t h hf
        exact w60 () a1  hf _ _ _ hW hS (lv_sub hl [1, 2] rfl)
      · have hf := if_f h hf
        refine lv_iload_n hx hb dX7_taken_35 rfl (lv_at hl 0 rfl) ?_
        refine lv_iload_n hx hb dX7_taken_36 rfl (lv_at hl 3 rfl) ?_
        refine lv_icmp_eq (tgt := 60) hx hb dX7_taken_37 (by decide) (fun h => ?_) (fun h => ?_)
        · have hf := if_t h hf
          exact w60 () a1  hf _ _ _ hW hS (lv_sub hl [1, 2] rfl)
        · have hf := if_f h hf
          refine lv_iload_n hx hb dX7_taken_40 rfl (lv_at hl 3 rfl) ?_
          refine lv_iconst (v := 1) hx hb dX7_taken_41 rfl ?_
          refine lv_icmp_ne (tgt := 50) hx hb dX7_taken_42 (by decide) (fun h => ?_) (fun h => ?_)
          · have hf := if_f h hf
            exact w50 () a1 a2 x5  hf _ _ _ hW hS (lv_sub hl [1, 2, 3, 0] rfl)
          · have hf := if_t h hf
            refine lv_iload_n hx hb dX7_taken_45 rfl (lv_at hl 0 rfl) ?_
            refine lv_iconst (v := 4) hx hb dX7_taken_46 rfl ?_
            refine lv_icmp_eq (tgt := 60) hx hb dX7_taken_47 (by decide) (fun h => ?_) (fun h => ?_)
            · have hf := if_t h hf
              exact w60 () a1  hf _ _ _ hW hS (lv_sub hl [1, 2] rfl)
            · have hf := if_f h hf
              exact w50 () a1 a2 x5  hf _ _ _ hW hS (lv_sub hl [1, 2, 3, 0] rfl)
    · have hf := if_t h hf
      refine lv_bipush (v := -11) hx hb dX7_taken_21 (by decide) ?_
      exact zr_i hf hx hb hr rfl hF hW hS dX7_taken_23 hlocks
  · have hf := if_t h hf
    refine lv_bipush (v := -2) hx hb dX7_taken_10 (by decide) ?_
    exact zr_i hf hx hb hr rfl hF hW hS dX7_taken_12 hlocks
