set_option maxHeartbeats 4000000 in
set_option maxRecDepth 100000 in
theorem m_J7_fill_031fb (l : Launch) (G : GE) (B : Nat → Nat → Nat) (E : EN)  (S : ST) (a2 : Int32) (SS : ST) (hf : f_J7_fill_031fb E S a2 = some SS) : Met l yJ7_fill_031fb wsJ7_fill_031fb (rmN 1) (va_Pc [.ref (B 11 0), .int a2] (WS G B E S)) (QV G B E SS) 0 0 (AA G) := by
  refine Met.ofW (cc := cJ7_fill_031fb) (maxL := 4) (ret := none) (by decide) rfl ?_
  intro p e s m args below meth c s₁ B0 hml hv
  obtain ⟨rfl, hW, hF⟩ := hv
  have hx := B0.exec
  have hb := B0.bytes
  have hr := B0.returns
  have hts := atoms_spec (ws := wsJ7_fill_031fb) B0.pre
  have hown : s.vm.findClass RJ7 = some m.cls := findClass_of_methodNamed B0.named
  have hlocks := B0.notSynchronized
  have hK := hF.1
  have hfix : CallFix p m c cJ7_fill_031fb 4 s [.ref (B 11 0), .int a2].toArray wsJ7_fill_031fb RJ7 := ⟨hx, hb, hml, hown, hts⟩
  have hS : va_S (AA G) s.heap s.heap [] := va_S.rf
  have hl := lv_entry [.ref (B 11 0), .int a2] (n := 4) (Nat.le_of_ble_eq_true rfl)
  rw [lg_entry_eq]
  generalize (lg_sl [.ref (B 11 0), .int a2] ++ List.replicate (4 - (lg_sl [.ref (B 11 0), .int a2]).length) Slot.unset).toArray = ls at hl ⊢
  have hl : lv_has ls 4 [(0, .ref (B 11 0)), (1, .int a2)] := hl
  have w5 : ∀ (n5 : Nat) (S : ST) (v1 : Int32) (v2 : Int32) (v3 : Int32) , f_J7_fill_031fb_b5 E n5 S v1 v2 v3 = some SS → ∀ (H : Heap) (locs : List Loc) (ls : Array Slot), WH G B E S H → va_S (AA G) s.heap H locs → lv_has ls 4 [(0, .ref (B 11 0)), (1, .int v1), (2, .int v2), (3, .int v3)] → W p l e (headSpec wsJ7_fill_031fb (rmN 1)).room s m [.ref (B 11 0), .int a2].toArray below meth c H locs 0 0 (MQ below (QV G B E SS) [.ref (B 11 0), .int a2].toArray s 0 0 (AA G)) (F0 m 5 ls []) := by
    intro n5
    induction n5 with
    | zero =>
      intro S v1 v2 v3 hf
      exact absurd (show (none : Option ST) = some SS from hf) (fun h => by cases h)
    | succ n5 ih5 =>
      intro S v1 v2 v3 hf H locs ls hW hS hl
      have hf : g_J7_fill_031fb_b5 E (f_J7_fill_031fb_b5 E n5) S v1 v2 v3 = some SS := hf
      unfold g_J7_fill_031fb_b5 at hf
      refine lv_iload_n hx hb dJ7_fill_031fb_5 rfl (lv_at hl 2 rfl) ?_
      refine lv_iload_n hx hb dJ7_fill_031fb_6 rfl (lv_at hl 3 rfl) ?_
      refine lv_icmp_ge (tgt := 20) hx hb dJ7_fill_031fb_7 (by decide) (fun h => ?_) (fun h => ?_)
      · have hf := if_t h hf
        exact z_v hf hx hb hr hF hW hS dJ7_fill_031fb_20 hlocks
      · have hf := if_f h hf
        refine lv_aload_n hx hb dJ7_fill_031fb_10 rfl (lv_at hl 0 rfl) ?_
        refine lv_iload_n hx hb dJ7_fill_031fb_11 rfl (lv_at hl 2 rfl) ?_
        refine lv_iload_n hx hb dJ7_fill_031fb_12 rfl (lv_at hl 1 rfl) ?_
        obtain ⟨hi_1, hf⟩ := ck_out hf
        have hi_1 := ib_in hi_1
        obtain ⟨S2, e_S2, hf⟩ := lt_out hf
        refine x_bast hx hb hK hW hS (c11 E) (fun f r => e11 _ _ _ f _ r) hi_1 (jn := v2.toNatClampNeg) rfl e_S2 dJ7_fill_031fb_13 (fun H locs hW hS => ?_)
        obtain ⟨x3, e_x3, hf⟩ := lt_out hf
        refine lv_iinc (v := x3) (lv' := [(2, .int x3), (0, .ref (B 11 0)), (1, .int v1), (3, .int v3)]) hx hb dJ7_fill_031fb_14 hl (k := 2) rfl (by rw [e_x3]; rfl) (by decide) rfl (fun ls hl => ?_)
        refine lv_goto (tgt := 5) hx hb dJ7_fill_031fb_17 (by decide) ?_
        exact ih5 S2 v1 x3 v3  hf _ _ _ hW hS (lv_sub hl [1, 2, 0, 3] rfl)
  unfold f_J7_fill_031fb at hf
  refine lv_iconst (v := 0) hx hb dJ7_fill_031fb_0 rfl ?_
  refine lv_istore_n (lv' := [(2, .int (0 : Int32)), (0, .ref (B 11 0)), (1, .int a2)]) hx hb dJ7_fill_031fb_1 rfl hl (by decide) rfl (fun ls hl => ?_)
  refine lv_aload_n hx hb dJ7_fill_031fb_2 rfl (lv_at hl 1 rfl) ?_
  refine x_alen hx hb hK hW (c11 E) (t := 2) rfl (e11 _ _ _ _ _ _) (v := (2700 : Int32)) rfl dJ7_fill_031fb_3 ?_
  refine lv_istore_n (lv' := [(3, .int (2700 : Int32)), (2, .int (0 : Int32)), (0, .ref (B 11 0)), (1, .int a2)]) hx hb dJ7_fill_031fb_4 rfl hl (by decide) rfl (fun ls hl => ?_)
  exact w5 E.1 S a2 (0 : Int32) (2700 : Int32)  hf _ _ _ hW hS (lv_sub hl [2, 3, 1, 0] rfl)
set_option maxHeartbeats 4000000 in
set_option maxRecDepth 100000 in
theorem m_X0_rely (l : Launch) (G : GE) (B : Nat → Nat → Nat) (E : EN)  (S : ST) (a1 : Nat) (h_a1 : a1 < cnt E 30) (a2 : Int32) (a3 : Int32) (SS : ST) (hf : f_X0_rely E S a1 a2 a3 = some SS) : Met l yX0_rely wsX0_rely (rmN 2) (va_Pc [.ref (B 10 0), .ref (B 30 a1), .int a2, .int a3] (WS G B E S)) (QV G B E SS) 0 0 (AA G) := by
  refine Met.ofW (cc := cX0_rely) (maxL := 4) (ret := none) (by decide) rfl ?_
  intro p e s m args below meth c s₁ B0 hml hv
  obtain ⟨rfl, hW, hF⟩ := hv
  have hx := B0.exec
  have hb := B0.bytes
  have hr := B0.returns
  have hts := atoms_spec (ws := wsX0_rely) B0.pre
  have hown : s.vm.findClass RX0 = some m.cls := findClass_of_methodNamed B0.named
  have hlocks := B0.notSynchronized
  have hK := hF.1
  have hfix : CallFix p m c cX0_rely 4 s [.ref (B 10 0), .ref (B 30 a1), .int a2, .int a3].toArray wsX0_rely RX0 := ⟨hx, hb, hml, hown, hts⟩
  have hS : va_S (AA G) s.heap s.heap [] := va_S.rf
  have hl := lv_entry [.ref (B 10 0), .ref (B 30 a1), .int a2, .int a3] (n := 4) (Nat.le_of_ble_eq_true rfl)
  rw [lg_entry_eq]
  generalize (lg_sl [.ref (B 10 0), .ref (B 30 a1), .int a2, .int a3] ++ List.replicate (4 - (lg_sl [.ref (B 10 0), .ref (B 30 a1), .int a2, .int a3]).length) Slot.unset).toArray = ls at hl ⊢
  have hl : lv_has ls 4 [(0, .ref (B 10 0)), (1, .ref (B 30 a1)), (2, .int a2), (3, .int a3)] := hl
  have q0 := hts (.fieldLink RX0 11 "MovesUp$Chances" "rule" "LMovesUp$Text;") (List.mem_of_getElem? (i := 3) rfl)
  have q1 := hts (.fieldLink RX0 15 "MovesUp$Chances" "ruleNumber" "I") (List.mem_of_getElem? (i := 1) rfl)
  have q2 := hts (.fieldLink RX0 19 "MovesUp$Chances" "sort" "I") (List.mem_of_getElem? (i := 2) rfl)
  have q3 := hts (.fieldLink RX0 22 "MovesUp$Chances" "said" "[B") (List.mem_of_getElem? (i := 4) rfl)
  have hi0 : ∀ w ∈ u_ws RX0 TX0 6, w ∈ wsX0_rely := in_seg 9 rfl
  have w17 : ∀ (S : ST) (v1 : Nat) (v2 : Int32) (v3 : Int32) (h_v1 : v1 < cnt E 30), f_X0_rely_b17 E S v1 v2 v3 = some SS → ∀ (H : Heap) (locs : List Loc) (ls : Array Slot), WH G B E S H → va_S (AA G) s.heap H locs → lv_has ls 4 [(0, .ref (B 10 0)), (1, .ref (B 30 v1)), (2, .int v2), (3, .int v3)] → W p l e (headSpec wsX0_rely (rmN 2)).room s m [.ref (B 10 0), .ref (B 30 a1), .int a2, .int a3].toArray below meth c H locs 0 0 (MQ below (QV G B E SS) [.ref (B 10 0), .ref (B 30 a1), .int a2, .int a3].toArray s 0 0 (AA G)) (F0 m 17 ls []) := by
    intro S v1 v2 v3 h_v1 hf H locs ls hW hS hl
    unfold f_X0_rely_b17 at hf
    refine lv_aload_n hx hb dX0_rely_17 rfl (lv_at hl 0 rfl) ?_
    refine lv_aload_n hx hb dX0_rely_18 rfl (lv_at hl 1 rfl) ?_
    obtain ⟨S1, e_S1, hf⟩ := lt_out hf
    refine x_putR hx hb hts hi0 tyX0 tyX0_ok nmX0 hown hK hW hS (c10 E) (e10 _ _ _) rfl 0 (Nat.le_of_ble_eq_true rfl) q0 (fun _ h => h) rfl (tyX0_ok 0 (Nat.le_of_ble_eq_true rfl)) rfl rfl (Nat.le_of_ble_eq_true rfl) (pu10_0 _ _) e_S1 dX0_rely_19 (fun H locs hW hS => ?_)
    refine lv_aload_n hx hb dX0_rely_22 rfl (lv_at hl 0 rfl) ?_
    refine lv_iload_n hx hb dX0_rely_23 rfl (lv_at hl 2 rfl) ?_
    obtain ⟨S2, e_S2, hf⟩ := lt_out hf
    refine x_putI hx hb hts hi0 tyX0 tyX0_ok nmX0 hown hK hW hS (c10 E) (e10 _ _ _) rfl 1 (Nat.le_of_ble_eq_true rfl) q1 (fun _ h => h) rfl (tyX0_ok 1 (Nat.le_of_ble_eq_true rfl)) rfl rfl (Nat.le_of_ble_eq_true rfl) (pu10_1 _ _) e_S2 dX0_rely_24 (fun H locs hW hS => ?_)
    refine lv_aload_n hx hb dX0_rely_27 rfl (lv_at hl 0 rfl) ?_
    refine lv_iload_n hx hb dX0_rely_28 rfl (lv_at hl 3 rfl) ?_
    obtain ⟨S3, e_S3, hf⟩ := lt_out hf
    refine x_putI hx hb hts hi0 tyX0 tyX0_ok nmX0 hown hK hW hS (c10 E) (e10 _ _ _) rfl 2 (Nat.le_of_ble_eq_true rfl) q2 (fun _ h => h) rfl (tyX0_ok 2 (Nat.le_of_ble_eq_true rfl)) rfl rfl (Nat.le_of_ble_eq_true rfl) (pu10_2 _ _) e_S3 dX0_rely_29 (fun H locs hW hS => ?_)
    refine lv_aload_n hx hb dX0_rely_32 rfl (lv_at hl 0 rfl) ?_
    refine x_get hx hb hts hi0 hown hK hW (c10 E) (e10 _ _ _ _ _ _) rfl 3 (Nat.le_of_ble_eq_true rfl) q3 (fun _ h => h) (v := .ref (B 11 0)) rfl dX0_rely_33 ?_
    refine lv_iconst (v := -1) hx hb dX0_rely_36 rfl ?_
    obtain ⟨S4, hc, hf⟩ := bd_out hf
    refine y_v (va_runS (As := [.ref (B 11 0), .int (-1 : Int32)]) (rest := []) hfix (m_J7_fill_031fb l G B E S3 (-1 : Int32) S4 hc) (va_cwS 2 hts gX0_rely_J7_fill_031fb rfl rfl rfl hd_J7_fill_031fb ⟨Nat.le_of_ble_eq_true rfl, Nat.le_of_ble_eq_true rfl⟩) (y_ps hF hW hS) rfl rfl hl.1 rfl (lv_room (Nat.le_of_ble_eq_true rfl)) dX0_rely_37 ⟨Nat.le_of_ble_eq_true rfl, Nat.le_of_ble_eq_true rfl⟩) hS (fun H locs hW hS => ?_)
    exact z_v hf hx hb hr hF hW hS dX0_rely_40 hlocks
  unfold f_X0_rely at hf
  refine lv_iload_n hx hb dX0_rely_0 rfl (lv_at hl 2 rfl) ?_
  refine lv_aload_n hx hb dX0_rely_1 rfl (lv_at hl 0 rfl) ?_
  refine x_get hx hb hts hi0 hown hK hW (c10 E) (e10 _ _ _ _ _ _) rfl 1 (Nat.le_of_ble_eq_true rfl) q1 (fun _ h => h) (v := .int (gI S 10 0 1)) rfl dX0_rely_2 ?_
  refine lv_icmp_ne (tgt := 17) hx hb dX0_rely_5 (by decide) (fun h => ?_) (fun h => ?_)
  · have hf := if_f h hf
    exact w17 S a1 a2 a3 (h_a1) hf _ _ _ hW hS (lv_sub hl [0, 1, 2, 3] rfl)
  · have hf := if_t h hf
    refine lv_iload_n hx hb dX0_rely_8 rfl (lv_at hl 3 rfl) ?_
    refine lv_aload_n hx hb dX0_rely_9 rfl (lv_at hl 0 rfl) ?_
    refine x_get hx hb hts hi0 hown hK hW (c10 E) (e10 _ _ _ _ _ _) rfl 2 (Nat.le_of_ble_eq_true rfl) q2 (fun _ h => h) (v := .int (gI S 10 0 2)) rfl dX0_rely_10 ?_
    refine lv_icmp_ne (tgt := 17) hx hb dX0_rely_13 (by decide) (fun h => ?_) (fun h => ?_)
    · have hf := if_f h hf
      exact w17 S a1 a2 a3 (h_a1) hf _ _ _ hW hS (lv_sub hl [0, 1, 2, 3] rfl)
    · have hf := if_t h hf
      exact z_v hf hx hb hr hF hW hS dX0_rely_16 hlocks
set_option maxHeartbeats 4000000 in
set_option maxRecDepth 100000 in
theorem m_X0_joined (l : Launch) (G : GE) (B : Nat → Nat → Nat) (E : EN)  (S : ST) (a1 : Int32) (a2 : Int32) (a3 : Int32) (rr : Int32) (hf : f_X0_joined E S a1 a2 a3 = some rr) : Met l yX0_joined wsX0_joined (rmN 1) (va_Pc [.int a1, .int a2, .int a3] (WS G B E S)) (QI G B E S rr) 0 0 (AA G) := by
  refine Met.ofW (cc := cX0_joined) (maxL := 3) (ret := (some .int)) (by decide) rfl ?_
  intro p e s m args below meth c s₁ B0 hml hv
  obtain ⟨rfl, hW, hF⟩ := hv
  have hx := B0.exec
  have hb := B0.bytes
  have hr := B0.returns
  have hts := atoms_spec (ws := wsX0_joined) B0.pre
  have hown : s.vm.findClass RX0 = some m.cls := findClass_of_methodNamed B0.named
  have hlocks := B0.notSynchronized
  have hK := hF.1
  have hfix : CallFix p m c cX0_joined 3 s [.int a1, .int a2, .int a3].toArray wsX0_joined RX0 := ⟨hx, hb, hml, hown, hts⟩
  have hS : va_S (AA G) s.heap s.heap [] := va_S.rf
  have hl := lv_entry [.int a1, .int a2, .int a3] (n := 3) (Nat.le_of_ble_eq_true rfl)
  rw [lg_entry_eq]
  generalize (lg_sl [.int a1, .int a2, .int a3] ++ List.replicate (3 - (lg_sl [.int a1, .int a2, .int a3]).length) Slot.unset).toArray = ls at hl ⊢
  have hl : lv_has ls 3 [(0, .int a1), (1, .int a2), (2, .int a3)] := hl
  have w68 : ∀ (_ : Unit)  , f_X0_joined_b68 E S  = some rr → ∀ (H : Heap) (locs : List Loc) (ls : Array Slot), WH G B E S H → va_S (AA G) s.heap H locs → lv_has ls 3 [] → W p l e (headSpec wsX0_joined (rmN 1)).room s m [.int a1, .int a2, .int a3].toArray below meth c H locs 0 0 (MQ below (QI G B E S rr) [.int a1, .int a2, .int a3].toArray s 0 0 (AA G)) (F0 m 68 ls []) := by
    intro _  hf H locs ls hW hS hl
    unfold f_X0_joined_b68 at hf
    refine lv_iconst (v := 1) hx hb dX0_joined_68 rfl ?_
    refine lv_goto (tgt := 73) hx hb dX0_joined_69 (by decide) ?_
    exact zr_i hf hx hb hr rfl hF hW hS dX0_joined_73 hlocks
  unfold f_X0_joined at hf
  refine lv_iload_n hx hb dX0_joined_0 rfl (lv_at hl 0 rfl) ?_
  by_cases hn0 : a1 = (43 : Int32)
  · have hf := if_t hn0 hf
    refine lv_lookup hx hb dX0_joined_1 (by decide) (off := 109) (by rw [hn0]; rfl) (tgt := 110) (by decide) ?_
    refine lv_iload_n hx hb dX0_joined_110 rfl (lv_at hl 1 rfl) ?_
    refine lv_iload_n hx hb dX0_joined_111 rfl (lv_at hl 2 rfl) ?_
    refine lv_iadd hx hb dX0_joined_112 ?_
    exact zr_i hf hx hb hr rfl hF hW hS dX0_joined_113 hlocks
  · have hf := if_f hn0 hf
    by_cases hn1 : a1 = (45 : Int32)
    · have hf := if_t hn1 hf
      refine lv_lookup hx hb dX0_joined_1 (by decide) (off := 113) (by rw [hn1]; rfl) (tgt := 114) (by decide) ?_
      refine lv_iload_n hx hb dX0_joined_114 rfl (lv_at hl 1 rfl) ?_
      refine lv_iload_n hx hb dX0_joined_115 rfl (lv_at hl 2 rfl) ?_
      refine lv_isub hx hb dX0_joined_116 ?_
      exact zr_i hf hx hb hr rfl hF hW hS dX0_joined_117 hlocks
    · have hf := if_f hn1 hf
      by_cases hn2 : a1 = (60 : Int32)
      · have hf := if_t hn2 hf
        refine lv_lookup hx hb dX0_joined_1 (by decide) (off := 87) (by rw [hn2]; rfl) (tgt := 88) (by decide) ?_
        refine lv_iload_n hx hb dX0_joined_88 rfl (lv_at hl 1 rfl) ?_
        refine lv_iload_n hx hb dX0_joined_89 rfl (lv_at hl 2 rfl) ?_
        refine lv_icmp_ge (tgt := 97) hx hb dX0_joined_90 (by decide) (fun h => ?_) (fun h => ?_)
        · have hf := if_t h hf
          refine lv_iconst (v := 0) hx hb dX0_joined_97 rfl ?_
          exact zr_i hf hx hb hr rfl hF hW hS dX0_joined_98 hlocks
        · have hf := if_f h hf
          refine lv_iconst (v := 1) hx hb dX0_joined_93 rfl ?_
          refine lv_goto (tgt := 98) hx hb dX0_joined_94 (by decide) ?_
          exact zr_i hf hx hb hr rfl hF hW hS dX0_joined_98 hlocks
      · have hf := if_f hn2 hf
        by_cases hn3 : a1 = (61 : Int32)
        · have hf := if_t hn3 hf
          refine lv_lookup hx hb dX0_joined_1 (by decide) (off := 98) (by rw [hn3]; rfl) (tgt := 99) (by decide) ?_
          refine lv_iload_n hx hb dX0_joined_99 rfl (lv_at hl 1 rfl) ?_
          refine lv_iload_n hx hb dX0_joined_100 rfl (lv_at hl 2 rfl) ?_
          refine lv_icmp_ne (tgt := 108) hx hb dX0_joined_101 (by decide) (fun h => ?_) (fun h => ?_)
          · have hf := if_f h hf
            refine lv_iconst (v := 0) hx hb dX0_joined_108 rfl ?_
            exact zr_i hf hx hb hr rfl hF hW hS dX0_joined_109 hlocks
          · have hf := if_t h hf
            refine lv_iconst (v := 1) hx hb dX0_joined_104 rfl ?_
            refine lv_goto (tgt := 109) hx hb dX0_joined_105 (by decide) ?_
            exact zr_i hf hx hb hr rfl hF hW hS dX0_joined_109 hlocks
        · have hf := if_f hn3 hf
          by_cases hn4 : a1 = (259 : Int32)
          · have hf := if_t hn4 hf
            refine lv_lookup hx hb dX0_joined_1 (by decide) (off := 59) (by rw [hn4]; rfl) (tgt := 60) (by decide) ?_
            refine lv_iload_n hx hb dX0_joined_60 rfl (lv_at hl 1 rfl) ?_
            refine lv_if_ne (tgt := 68) hx hb dX0_joined_61 (by decide) (fun h => ?_) (fun h => ?_)
            · have hf := if_f h hf
              exact w68 ()  hf _ _ _ hW hS (lv_sub hl [] rfl)
            · have hf := if_t h hf
              refine lv_iload_n hx hb dX0_joined_64 rfl (lv_at hl 2 rfl) ?_
              refine lv_if_eq (tgt := 72) hx hb dX0_joined_65 (by decide) (fun h => ?_) (fun h => ?_)
              · have hf := if_t h hf
                refine lv_iconst (v := 0) hx hb dX0_joined_72 rfl ?_
                exact zr_i hf hx hb hr rfl hF hW hS dX0_joined_73 hlocks
              · have hf := if_f h hf
                exact w68 ()  hf _ _ _ hW hS (lv_sub hl [] rfl)
          · have hf := if_f hn4 hf
            by_cases hn5 : a1 = (260 : Int32)
            · have hf := if_t hn5 hf
              refine lv_lookup hx hb dX0_joined_1 (by decide) (off := 73) (by rw [hn5]; rfl) (tgt := 74) (by decide) ?_
              refine lv_iload_n hx hb dX0_joined_74 rfl (lv_at hl 1 rfl) ?_
              refine lv_if_eq (tgt := 86) hx hb dX0_joined_75 (by decide) (fun h => ?_) (fun h => ?_)
              · have hf := if_t h hf
                refine lv_iconst (v := 0) hx hb dX0_joined_86 rfl ?_
                exact zr_i hf hx hb hr rfl hF hW hS dX0_joined_87 hlocks
              · have hf := if_f h hf
                refine lv_iload_n hx hb dX0_joined_78 rfl (lv_at hl 2 rfl) ?_
                refine lv_if_eq (tgt := 86) hx hb dX0_joined_79 (by decide) (fun h => ?_) (fun h => ?_)
                · have hf := if_t h hf
                  refine lv_iconst (v := 0) hx hb dX0_joined_86 rfl ?_
                  exact zr_i hf hx hb hr rfl hF hW hS dX0_joined_87 hlocks
                · have hf := if_f h hf
                  refine lv_iconst (v := 1) hx hb dX0_joined_82 rfl ?_
                  refine lv_goto (tgt := 87) hx hb dX0_joined_83 (by decide) ?_
                  exact zr_i hf hx hb hr rfl hF hW hS dX0_joined_87 hlocks
            · have hf := if_f hn5 hf
              refine lv_lookup hx hb dX0_joined_1 (by decide) (off := 117) (lk_out (fun q hq => ?_)) (tgt := 118) (by decide) ?_
              · simp only [List.mem_cons, List.not_mem_nil, or_false, Array.toList] at hq
                rcases hq with rfl | rfl | rfl | rfl | rfl | rfl
                · exact fun q => hn0 (lk_eq q (by decide))
                · exact fun q => hn1 (lk_eq q (by decide))
                · exact fun q => hn2 (lk_eq q (by decide))
                · exact fun q => hn3 (lk_eq q (by decide))
                · exact fun q => hn4 (lk_eq q (by decide))
                · exact fun q => hn5 (lk_eq q (by decide))
              · refine lv_iload_n hx hb dX0_joined_118 rfl (lv_at hl 1 rfl) ?_
                refine lv_iload_n hx hb dX0_joined_119 rfl (lv_at hl 2 rfl) ?_
                refine lv_imul hx hb dX0_joined_120 ?_
                exact zr_i hf hx hb hr rfl hF hW hS dX0_joined_121 hlocks
set_option maxHeartbeats 4000000 in
set_option maxRecDepth 100000 in
theorem m_X0_worth (l : Launch) (G : GE) (B : Nat → Nat → Nat) (E : EN)  (S : ST) (a1 : Int32) (rr : Int32) (SS : ST) (hf : f_X0_worth E S a1 = some (rr, SS)) : Met l yX0_worth wsX0_worth (rmN 2) (va_Pc [.ref (B 10 0), .int a1] (WS G B E S)) (QI G B E SS rr) 0 0 (AA G) := by
  refine Met.ofW (cc := cX0_worth) (maxL := 6) (ret := (some .int)) (by decide) rfl ?_
  intro p e s m args below meth c s₁ B0 hml hv
  obtain ⟨rfl, hW, hF⟩ := hv
  have hx := B0.exec
  have hb := B0.bytes
  have hr := B0.returns
  have hts := atoms_spec (ws := wsX0_worth) B0.pre
  have hown : s.vm.findClass RX0 = some m.cls := findClass_of_methodNamed B0.named
  have hlocks := B0.notSynchronized
  have hK := hF.1
  have hfix : CallFix p m c cX0_worth 6 s [.ref (B 10 0), .int a1].toArray wsX0_worth RX0 := ⟨hx, hb, hml, hown, hts⟩
  have hS : va_S (AA G) s.heap s.heap [] := va_S.rf
  have hl := lv_entry [.ref (B 10 0), .int a1] (n := 6) (Nat.le_of_ble_eq_true rfl)
  rw [lg_entry_eq]
  generalize (lg_sl [.ref (B 10 0), .int a1] ++ List.replicate (6 - (lg_sl [.ref (B 10 0), .int a1]).length) Slot.unset).toArray = ls at hl ⊢
  have hl : lv_has ls 6 [(0, .ref (B 10 0)), (1, .int a1)] := hl
  have q0 := hts (.fieldLink RX0 30 "MovesUp$Chances" "stack" "[I") (List.mem_of_getElem? (i := 2) rfl)
  have q1 := hts (.fieldLink RX0 11 "MovesUp$Chances" "rule" "LMovesUp$Text;") (List.mem_of_getElem? (i := 1) rfl)
  have q2 := hts (.fieldLink RX0 26 "MovesUp$Chances" "names" "[I") (List.mem_of_getElem? (i := 3) rfl)
  have hi0 : ∀ w ∈ u_ws RX0 TX0 6, w ∈ wsX0_worth := in_seg 8 rfl
  have hi5 : ∀ w ∈ u_ws RX5 TX5 2, w ∈ wsX0_worth := in_seg 14 rfl
  have w230 : ∀ (S : ST)  , f_X0_worth_b230 E S  = some (rr, SS) → ∀ (H : Heap) (locs : List Loc) (ls : Array Slot), WH G B E S H → va_S (AA G) s.heap H locs → lv_has ls 6 [(0, .ref (B 10 0))] → W p l e (headSpec wsX0_worth (rmN 2)).room s m [.ref (B 10 0), .int a1].toArray below meth c H locs 0 0 (MQ below (QI G B E SS rr) [.ref (B 10 0), .int a1].toArray s 0 0 (AA G)) (F0 m 230 ls []) := by
    intro S  hf H locs ls hW hS hl
    unfold f_X0_worth_b230 at hf
    refine lv_aload_n hx hb dX0_worth_230 rfl (lv_at hl 0 rfl) ?_
    refine x_get hx hb hts hi0 hown hK hW (c10 E) (e10 _ _ _ _ _ _) rfl 5 (Nat.le_of_ble_eq_true rfl) q0 (fun _ h => h) (v := .ref (B 13 0)) rfl dX0_worth_231 ?_
    refine lv_iconst (v := 0) hx hb dX0_worth_234 rfl ?_
    refine x_iald hx hb hK hW (c13 E) (e13 _ _ _ _ _ _) (ib_in (by decide)) (jn := 0) rfl dX0_worth_235 ?_
    exact z_i hf hx hb hr rfl hF hW hS dX0_worth_236 hlocks
  have w30 : ∀ (n30 : Nat) (S : ST) (v1 : Int32) (v2 : Int32) (v3 : Int32) , f_X0_worth_b30 E n30 S v1 v2 v3 = some (rr, SS) → ∀ (H : Heap) (locs : List Loc) (ls : Array Slot), WH G B E S H → va_S (AA G) s.heap H locs → lv_has ls 6 [(0, .ref (B 10 0)), (1, .int v1), (2, .int v2), (3, .int v3)] → W p l e (headSpec wsX0_worth (rmN 2)).room s m [.ref (B 10 0), .int a1].toArray below meth c H locs 0 0 (MQ below (QI G B E SS rr) [.ref (B 10 0), .int a1].toArray s 0 0 (AA G)) (F0 m 30 ls []) := by
    intro n30
    induction n30 with
    | zero =>
      intro S v1 v2 v3 hf
      exact absurd (show (none : Option (Int32 × ST)) = some (rr, SS) from hf) (fun h => by cases h)
    | succ n30 ih30 =>
      have w224 : ∀ (S : ST) (v1 : Int32) (v2 : Int32) (v3 : Int32) , f_X0_worth_b224 E (f_X0_worth_b30 E n30) S v1 v2 v3 = some (rr, SS) → ∀ (H : Heap) (locs : List Loc) (ls : Array Slot), WH G B E S H → va_S (AA G) s.heap H locs → lv_has ls 6 [(0, .ref (B 10 0)), (1, .int v1), (2, .int v2), (3, .int v3)] → W p l e (headSpec wsX0_worth (rmN 2)).room s m [.ref (B 10 0), .int a1].toArray below meth c H locs 0 0 (MQ below (QI G B E SS rr) [.ref (B 10 0), .int a1].toArray s 0 0 (AA G)) (F0 m 224 ls []) := by
        intro S v1 v2 v3 hf H locs ls hW hS hl
        unfold f_X0_worth_b224 at hf
        obtain ⟨x1, e_x1, hf⟩ := lt_out hf
        refine lv_iinc (v := x1) (lv' := [(3, .int x1), (0, .ref (B 10 0)), (1, .int v1), (2, .int v2)]) hx hb dX0_worth_224 hl (k := 3) rfl (by rw [e_x1]; rfl) (by decide) rfl (fun ls hl => ?_)
        refine lv_goto (tgt := 30) hx hb dX0_worth_227 (by decide) ?_
        exact ih30 S v1 v2 x1  hf _ _ _ hW hS (lv_sub hl [1, 2, 3, 0] rfl)
      have w189 : ∀ (S : ST) (v1 : Int32) (v2 : Int32) (v3 : Int32) (v4 : Int32) , f_X0_worth_b189 E (f_X0_worth_b30 E n30) S v1 v2 v3 v4 = some (rr, SS) → ∀ (H : Heap) (locs : List Loc) (ls : Array Slot), WH G B E S H → va_S (AA G) s.heap H locs → lv_has ls 6 [(0, .ref (B 10 0)), (1, .int v1), (2, .int v2), (3, .int v3), (4, .int v4)] → W p l e (headSpec wsX0_worth (rmN 2)).room s m [.ref (B 10 0), .int a1].toArray below meth c H locs 0 0 (MQ below (QI G B E SS rr) [.ref (B 10 0), .int a1].toArray s 0 0 (AA G)) (F0 m 189 ls []) := by
        intro S v1 v2 v3 v4 hf H locs ls hW hS hl
        unfold f_X0_worth_b189 at hf
        refine lv_iload_n hx hb dX0_worth_189 rfl (lv_at hl 2 rfl) ?_
        refine lv_iconst (v := 1) hx hb dX0_worth_190 rfl ?_
        refine lv_icmp_le (tgt := 224) hx hb dX0_worth_191 (by decide) (fun h => ?_) (fun h => ?_)
        · have hf := if_t h hf
          exact w224 S v1 v2 v3  hf _ _ _ hW hS (lv_sub hl [0, 1, 2, 3] rfl)
        · have hf := if_f h hf
          obtain ⟨x2, e_x2, hf⟩ := lt_out hf
          refine lv_iinc (v := x2) (lv' := [(2, .int x2), (0, .ref (B 10 0)), (1, .int v1), (3, .int v3), (4, .int v4)]) hx hb dX0_worth_194 hl (k := 2) rfl (by rw [e_x2]; rfl) (by decide) rfl (fun ls hl => ?_)
          refine lv_aload_n hx hb dX0_worth_197 rfl (lv_at hl 1 rfl) ?_
          refine x_get hx hb hts hi0 hown hK hW (c10 E) (e10 _ _ _ _ _ _) rfl 5 (Nat.le_of_ble_eq_true rfl) q0 (fun _ h => h) (v := .ref (B 13 0)) rfl dX0_worth_198 ?_
          refine lv_iload_n hx hb dX0_worth_201 rfl (lv_at hl 0 rfl) ?_
          refine lv_iconst (v := 1) hx hb dX0_worth_202 rfl ?_
          refine lv_isub hx hb dX0_worth_203 ?_
          refine lv_iload hx hb dX0_worth_204 (lv_at hl 4 rfl) ?_
          refine lv_aload_n hx hb dX0_worth_206 rfl (lv_at hl 1 rfl) ?_
          refine x_get hx hb hts hi0 hown hK hW (c10 E) (e10 _ _ _ _ _ _) rfl 5 (Nat.le_of_ble_eq_true rfl) q0 (fun _ h => h) (v := .ref (B 13 0)) rfl dX0_worth_207 ?_
          refine lv_iload_n hx hb dX0_worth_210 rfl (lv_at hl 0 rfl) ?_
          refine lv_iconst (v := 1) hx hb dX0_worth_211 rfl ?_
          refine lv_isub hx hb dX0_worth_212 ?_
          obtain ⟨hi_3, hf⟩ := ck_out hf
          have hi_3 := ib_in hi_3
          refine x_iald hx hb hK hW (c13 E) (e13 _ _ _ _ _ _) hi_3 (jn := (x2 - (1 : Int32)).toNatClampNeg) rfl dX0_worth_213 ?_
          refine lv_aload_n hx hb dX0_worth_214 rfl (lv_at hl 1 rfl) ?_
          refine x_get hx hb hts hi0 hown hK hW (c10 E) (e10 _ _ _ _ _ _) rfl 5 (Nat.le_of_ble_eq_true rfl) q0 (fun _ h => h) (v := .ref (B 13 0)) rfl dX0_worth_215 ?_
          refine lv_iload_n hx hb dX0_worth_218 rfl (lv_at hl 0 rfl) ?_
          obtain ⟨hi_4, hf⟩ := ck_out hf
          have hi_4 := ib_in hi_4
          refine x_iald hx hb hK hW (c13 E) (e13 _ _ _ _ _ _) hi_4 (jn := x2.toNatClampNeg) rfl dX0_worth_219 ?_
          obtain ⟨r5, hc, hf⟩ := bd_out hf
          refine y_i (va_runS (As := [.int v4, .int (gI S 13 0 (x2 - (1 : Int32)).toNatClampNeg), .int (gI S 13 0 x2.toNatClampNeg)]) (rest := [.int (x2 - (1 : Int32)), .ref (B 13 0)]) hfix (m_X0_joined l G B E S v4 (gI S 13 0 (x2 - (1 : Int32)).toNatClampNeg) (gI S 13 0 x2.toNatClampNeg) r5 hc) (va_cwS 3 hts gX0_worth_X0_joined rfl rfl rfl hd_X0_joined ⟨Nat.le_of_ble_eq_true rfl, Nat.le_of_ble_eq_true rfl⟩) (y_ps hF hW hS) rfl rfl hl.1 rfl (lv_room (Nat.le_of_ble_eq_true rfl)) dX0_worth_220 ⟨Nat.le_of_ble_eq_true rfl, Nat.le_of_ble_eq_true rfl⟩) hS (fun H locs hW hS => ?_)
          obtain ⟨S6, e_S6, hf⟩ := lt_out hf
          refine x_iast hx hb hK hW hS (c13 E) (fun f r => e13 _ _ _ f _ r) hi_3 (jn := (x2 - (1 : Int32)).toNatClampNeg) rfl e_S6 dX0_worth_223 (fun H locs hW hS => ?_)
          exact w224 S6 v1 x2 v3  hf _ _ _ hW hS (lv_sub hl [1, 2, 0, 3] rfl)
      have w185 : ∀ (S : ST) (v1 : Int32) (v2 : Int32) (v3 : Int32) (t0 : Int32) (t1 : Int32) , f_X0_worth_b185 E (f_X0_worth_b30 E n30) S v1 v2 v3 t0 t1 = some (rr, SS) → ∀ (H : Heap) (locs : List Loc) (ls : Array Slot), WH G B E S H → va_S (AA G) s.heap H locs → lv_has ls 6 [(0, .ref (B 10 0)), (1, .int v1), (2, .int v2), (3, .int v3)] → W p l e (headSpec wsX0_worth (rmN 2)).room s m [.ref (B 10 0), .int a1].toArray below meth c H locs 0 0 (MQ below (QI G B E SS rr) [.ref (B 10 0), .int a1].toArray s 0 0 (AA G)) (F0 m 185 ls [.int t0, .int t1, .ref (B 13 0)]) := by
        intro S v1 v2 v3 t0 t1 hf H locs ls hW hS hl
        unfold f_X0_worth_b185 at hf
        obtain ⟨hi_7, hf⟩ := ck_out hf
        have hi_7 := ib_in hi_7
        obtain ⟨S8, e_S8, hf⟩ := lt_out hf
        refine x_iast hx hb hK hW hS (c13 E) (fun f r => e13 _ _ _ f _ r) hi_7 (jn := t1.toNatClampNeg) rfl e_S8 dX0_worth_185 (fun H locs hW hS => ?_)
        refine lv_goto (tgt := 224) hx hb dX0_worth_186 (by decide) ?_
        exact w224 S8 v1 v2 v3  hf _ _ _ hW hS (lv_sub hl [0, 1, 2, 3] rfl)
      have w146 : ∀ (S : ST) (v1 : Int32) (v2 : Int32) (v3 : Int32) (v4 : Int32) , f_X0_worth_b146 E (f_X0_worth_b30 E n30) S v1 v2 v3 v4 = some (rr, SS) → ∀ (H : Heap) (locs : List Loc) (ls : Array Slot), WH G B E S H → va_S (AA G) s.heap H locs → lv_has ls 6 [(0, .ref (B 10 0)), (1, .int v1), (2, .int v2), (3, .int v3), (4, .int v4)] → W p l e (headSpec wsX0_worth (rmN 2)).room s m [.ref (B 10 0), .int a1].toArray below meth c H locs 0 0 (MQ below (QI G B E SS rr) [.ref (B 10 0), .int a1].toArray s 0 0 (AA G)) (F0 m 146 ls []) := by
        intro S v1 v2 v3 v4 hf H locs ls hW hS hl
        unfold f_X0_worth_b146 at hf
        refine lv_aload_n hx hb dX0_worth_146 rfl (lv_at hl 0 rfl) ?_
        refine x_get hx hb hts hi0 hown hK hW (c10 E) (e10 _ _ _ _ _ _) rfl 5 (Nat.le_of_ble_eq_true rfl) q0 (fun _ h => h) (v := .ref (B 13 0)) rfl dX0_worth_147 ?_
        refine lv_iload_n hx hb dX0_worth_150 rfl (lv_at hl 2 rfl) ?_
        refine lv_iconst (v := 1) hx hb dX0_worth_151 rfl ?_
        refine lv_isub hx hb dX0_worth_152 ?_
        obtain ⟨hi_9, hf⟩ := ck_out hf
        have hi_9 := ib_in hi_9
        refine x_iald hx hb hK hW (c13 E) (e13 _ _ _ _ _ _) hi_9 (jn := (v2 - (1 : Int32)).toNatClampNeg) rfl dX0_worth_153 ?_
        obtain ⟨x10, e_x10, hf⟩ := lt_out hf
        refine x_nmI e_x10 ?_
        refine lv_istore (lv' := [(5, .int x10), (0, .ref (B 10 0)), (1, .int v1), (2, .int v2), (3, .int v3), (4, .int v4)]) hx hb dX0_worth_154 hl (by decide) rfl (fun ls hl => ?_)
        refine lv_aload_n hx hb dX0_worth_156 rfl (lv_at hl 1 rfl) ?_
        refine x_get hx hb hts hi0 hown hK hW (c10 E) (e10 _ _ _ _ _ _) rfl 5 (Nat.le_of_ble_eq_true rfl) q0 (fun _ h => h) (v := .ref (B 13 0)) rfl dX0_worth_157 ?_
        refine lv_iload_n hx hb dX0_worth_160 rfl (lv_at hl 3 rfl) ?_
        refine lv_iconst (v := 1) hx hb dX0_worth_161 rfl ?_
        refine lv_isub hx hb dX0_worth_162 ?_
        refine lv_iload hx hb dX0_worth_163 (lv_at hl 5 rfl) ?_
        refine lv_iconst (v := 1) hx hb dX0_worth_165 rfl ?_
        refine lv_icmp_ne (tgt := 175) hx hb dX0_worth_166 (by decide) (fun h => ?_) (fun h => ?_)
        · have hf := if_f h hf
          refine lv_iload hx hb dX0_worth_175 (lv_at hl 0 rfl) ?_
          refine lv_if_ne (tgt := 184) hx hb dX0_worth_177 (by decide) (fun h => ?_) (fun h => ?_)
          · have hf := if_f h hf
            refine lv_iconst (v := 0) hx hb dX0_worth_184 rfl ?_
            exact w185 S v1 v2 v3 (0 : Int32) (v2 - (1 : Int32))  hf _ _ _ hW hS (lv_sub hl [1, 2, 3, 4] rfl)
          · have hf := if_t h hf
            refine lv_iconst (v := 1) hx hb dX0_worth_180 rfl ?_
            refine lv_goto (tgt := 185) hx hb dX0_worth_181 (by decide) ?_
            exact w185 S v1 v2 v3 (1 : Int32) (v2 - (1 : Int32))  hf _ _ _ hW hS (lv_sub hl [1, 2, 3, 4] rfl)
        · have hf := if_t h hf
          refine lv_iload hx hb dX0_worth_169 (lv_at hl 0 rfl) ?_
          refine lv_ineg hx hb dX0_worth_171 ?_
          refine lv_goto (tgt := 185) hx hb dX0_worth_172 (by decide) ?_
          exact w185 S v1 v2 v3 (-x10) (v2 - (1 : Int32))  hf _ _ _ hW hS (lv_sub hl [1, 2, 3, 4] rfl)
      have w128 : ∀ (S : ST) (v1 : Int32) (v2 : Int32) (v3 : Int32) (v4 : Int32) , f_X0_worth_b128 E (f_X0_worth_b30 E n30) S v1 v2 v3 v4 = some (rr, SS) → ∀ (H : Heap) (locs : List Loc) (ls : Array Slot), WH G B E S H → va_S (AA G) s.heap H locs → lv_has ls 6 [(0, .ref (B 10 0)), (1, .int v1), (2, .int v2), (3, .int v3), (4, .int v4)] → W p l e (headSpec wsX0_worth (rmN 2)).room s m [.ref (B 10 0), .int a1].toArray below meth c H locs 0 0 (MQ below (QI G B E SS rr) [.ref (B 10 0), .int a1].toArray s 0 0 (AA G)) (F0 m 128 ls []) := by
        intro S v1 v2 v3 v4 hf H locs ls hW hS hl
        unfold f_X0_worth_b128 at hf
        refine lv_iload_n hx hb dX0_worth_128 rfl (lv_at hl 2 rfl) ?_
        refine lv_if_le (tgt := 189) hx hb dX0_worth_129 (by decide) (fun h => ?_) (fun h => ?_)
        · have hf := if_t h hf
          exact w189 S v1 v2 v3 v4  hf _ _ _ hW hS (lv_sub hl [0, 1, 2, 3, 4] rfl)
        · have hf := if_f h hf
          refine lv_iload hx hb dX0_worth_132 (lv_at hl 4 rfl) ?_
          refine lv_sipush (v := 261) hx hb dX0_worth_134 (by decide) ?_
          refine lv_icmp_eq (tgt := 146) hx hb dX0_worth_137 (by decide) (fun h => ?_) (fun h => ?_)
          · have hf := if_t h hf
            exact w146 S v1 v2 v3 v4  hf _ _ _ hW hS (lv_sub hl [0, 1, 2, 3, 4] rfl)
          · have hf := if_f h hf
            refine lv_iload hx hb dX0_worth_140 (lv_at hl 4 rfl) ?_
            refine lv_iconst (v := 1) hx hb dX0_worth_142 rfl ?_
            refine lv_icmp_ne (tgt := 189) hx hb dX0_worth_143 (by decide) (fun h => ?_) (fun h => ?_)
            · have hf := if_f h hf
              exact w189 S v1 v2 v3 v4  hf _ _ _ hW hS (lv_sub hl [0, 1, 2, 3, 4] rfl)
            · have hf := if_t h hf
              exact w146 S v1 v2 v3 v4  hf _ _ _ hW hS (lv_sub hl [0, 1, 2, 3, 4] rfl)
      have w121 : ∀ (S : ST) (v1 : Int32) (v2 : Int32) (v3 : Int32) (t0 : Int32) (t1 : Int32) , f_X0_worth_b121 E (f_X0_worth_b30 E n30) S v1 v2 v3 t0 t1 = some (rr, SS) → ∀ (H : Heap) (locs : List Loc) (ls : Array Slot), WH G B E S H → va_S (AA G) s.heap H locs → lv_has ls 6 [(0, .ref (B 10 0)), (1, .int v1), (2, .int v2), (3, .int v3)] → W p l e (headSpec wsX0_worth (rmN 2)).room s m [.ref (B 10 0), .int a1].toArray below meth c H locs 0 0 (MQ below (QI G B E SS rr) [.ref (B 10 0), .int a1].toArray s 0 0 (AA G)) (F0 m 121 ls [.int t0, .int t1, .ref (B 13 0)]) := by
        intro S v1 v2 v3 t0 t1 hf H locs ls hW hS hl
        unfold f_X0_worth_b121 at hf
        obtain ⟨hi_11, hf⟩ := ck_out hf
        have hi_11 := ib_in hi_11
        obtain ⟨S12, e_S12, hf⟩ := lt_out hf
        refine x_iast hx hb hK hW hS (c13 E) (fun f r => e13 _ _ _ f _ r) hi_11 (jn := t1.toNatClampNeg) rfl e_S12 dX0_worth_121 (fun H locs hW hS => ?_)
        obtain ⟨x13, e_x13, hf⟩ := lt_out hf
        refine lv_iinc (v := x13) (lv' := [(2, .int x13), (0, .ref (B 10 0)), (1, .int v1), (3, .int v3)]) hx hb dX0_worth_122 hl (k := 2) rfl (by rw [e_x13]; rfl) (by decide) rfl (fun ls hl => ?_)
        refine lv_goto (tgt := 224) hx hb dX0_worth_125 (by decide) ?_
        exact w224 S12 v1 x13 v3  hf _ _ _ hW hS (lv_sub hl [1, 2, 0, 3] rfl)
      intro S v1 v2 v3 hf H locs ls hW hS hl
      have hf : g_X0_worth_b30 E (f_X0_worth_b30 E n30) S v1 v2 v3 = some (rr, SS) := hf
      unfold g_X0_worth_b30 at hf
      refine lv_iload_n hx hb dX0_worth_30 rfl (lv_at hl 3 rfl) ?_
      refine lv_aload_n hx hb dX0_worth_31 rfl (lv_at hl 0 rfl) ?_
      refine x_get hx hb hts hi0 hown hK hW (c10 E) (e10 _ _ _ _ _ _) rfl 0 (Nat.le_of_ble_eq_true rfl) q1 (fun _ h => h) (v := va_rf (Option.map (B 30) (gR S 10 0 0))) rfl dX0_worth_32 ?_
      obtain ⟨o14, e_o14, hf⟩ := lt_out hf
      refine x_nmN e_o14 ?_
      rcases o14 with _ | k15
      · have hf := nl_n hf
        exact absurd hf (by intro h; cases h)
      · have hf := nl_s hf
        obtain ⟨hk16, hf⟩ := ck_out hf
        have hk16 := of_decide_eq_true hk16
        refine x_getN hx hb hts hi5 hown hK hW (c30 hk16) (e30 _ _ _ _ _ _) rfl 1 (Nat.le_of_ble_eq_true rfl) (NW.f hF.2.1 4 (q := ("MovesUp$Chances", 52, "MovesUp$Text", "starts", "[I", "MovesUp")) rfl) (fun _ h => h) (v := .ref (B 32 k15)) rfl dX0_worth_35 ?_
        refine lv_iload_n hx hb dX0_worth_38 rfl (lv_at hl 1 rfl) ?_
        refine lv_iconst (v := 1) hx hb dX0_worth_39 rfl ?_
        refine lv_iadd hx hb dX0_worth_40 ?_
        obtain ⟨hi_17, hf⟩ := ck_out hf
        have hi_17 := ib_in hi_17
        refine x_iald hx hb hK hW (cv30_32 (c30 hk16)) (e32 _ _ _ _ _ _) hi_17 (jn := (v1 + (1 : Int32)).toNatClampNeg) rfl dX0_worth_41 ?_
        refine lv_icmp_ge (tgt := 230) hx hb dX0_worth_42 (by decide) (fun h => ?_) (fun h => ?_)
        · have hf := if_t h hf
          exact w230 S  hf _ _ _ hW hS (lv_sub hl [0] rfl)
        · have hf := if_f h hf
          refine lv_iload_n hx hb dX0_worth_45 rfl (lv_at hl 3 rfl) ?_
          refine lv_aload_n hx hb dX0_worth_46 rfl (lv_at hl 0 rfl) ?_
          refine x_get hx hb hts hi0 hown hK hW (c10 E) (e10 _ _ _ _ _ _) rfl 0 (Nat.le_of_ble_eq_true rfl) q1 (fun _ h => h) (v := va_rf (Option.map (B 30) (gR S 10 0 0))) rfl dX0_worth_47 ?_
          obtain ⟨o18, e_o18, hf⟩ := lt_out hf
          refine x_nmN e_o18 ?_
          rcases o18 with _ | k19
          · have hf := nl_n hf
            exact absurd hf (by intro h; cases h)
          · have hf := nl_s hf
            obtain ⟨hk20, hf⟩ := ck_out hf
            have hk20 := of_decide_eq_true hk20
            refine x_getN hx hb hts hi5 hown hK hW (c30 hk20) (e30 _ _ _ _ _ _) rfl 0 (Nat.le_of_ble_eq_true rfl) (NW.f hF.2.1 3 (q := ("MovesUp$Chances", 57, "MovesUp$Text", "code", "[I", "MovesUp")) rfl) (fun _ h => h) (v := .ref (B 31 k19)) rfl dX0_worth_50 ?_
            refine x_alen hx hb hK hW (cv30_31 (c30 hk20)) (t := 0) rfl (e31 _ _ _ _ _ _) (v := nI (vl_ S 31 k19)) rfl dX0_worth_53 ?_
            refine lv_icmp_ge (tgt := 230) hx hb dX0_worth_54 (by decide) (fun h => ?_) (fun h => ?_)
            · have hf := if_t h hf
              exact w230 S  hf _ _ _ hW hS (lv_sub hl [0] rfl)
            · have hf := if_f h hf
              refine lv_aload_n hx hb dX0_worth_57 rfl (lv_at hl 0 rfl) ?_
              refine x_get hx hb hts hi0 hown hK hW (c10 E) (e10 _ _ _ _ _ _) rfl 0 (Nat.le_of_ble_eq_true rfl) q1 (fun _ h => h) (v := va_rf (Option.map (B 30) (gR S 10 0 0))) rfl dX0_worth_58 ?_
              obtain ⟨o21, e_o21, hf⟩ := lt_out hf
              refine x_nmN e_o21 ?_
              rcases o21 with _ | k22
              · have hf := nl_n hf
                exact absurd hf (by intro h; cases h)
              · have hf := nl_s hf
                obtain ⟨hk23, hf⟩ := ck_out hf
                have hk23 := of_decide_eq_true hk23
                refine x_getN hx hb hts hi5 hown hK hW (c30 hk23) (e30 _ _ _ _ _ _) rfl 0 (Nat.le_of_ble_eq_true rfl) (NW.f hF.2.1 3 (q := ("MovesUp$Chances", 57, "MovesUp$Text", "code", "[I", "MovesUp")) rfl) (fun _ h => h) (v := .ref (B 31 k22)) rfl dX0_worth_61 ?_
                refine lv_iload_n hx hb dX0_worth_64 rfl (lv_at hl 3 rfl) ?_
                obtain ⟨hi_24, hf⟩ := ck_out hf
                have hi_24 := ib_in hi_24
                refine x_iald hx hb hK hW (cv30_31 (c30 hk23)) (e31 _ _ _ _ _ _) hi_24 (jn := v3.toNatClampNeg) rfl dX0_worth_65 ?_
                obtain ⟨x25, e_x25, hf⟩ := lt_out hf
                refine x_nmI e_x25 ?_
                refine lv_istore (lv' := [(4, .int x25), (0, .ref (B 10 0)), (1, .int v1), (2, .int v2), (3, .int v3)]) hx hb dX0_worth_66 hl (by decide) rfl (fun ls hl => ?_)
                refine lv_iload hx hb dX0_worth_68 (lv_at hl 0 rfl) ?_
                refine lv_sipush (v := 262) hx hb dX0_worth_70 (by decide) ?_
                refine lv_icmp_lt (tgt := 128) hx hb dX0_worth_73 (by decide) (fun h => ?_) (fun h => ?_)
                · have hf := if_t h hf
                  exact w128 S v1 v2 v3 x25  hf _ _ _ hW hS (lv_sub hl [1, 2, 3, 4, 0] rfl)
                · have hf := if_f h hf
                  refine lv_iload_n hx hb dX0_worth_76 rfl (lv_at hl 3 rfl) ?_
                  refine lv_aload_n hx hb dX0_worth_77 rfl (lv_at hl 1 rfl) ?_
                  refine x_get hx hb hts hi0 hown hK hW (c10 E) (e10 _ _ _ _ _ _) rfl 5 (Nat.le_of_ble_eq_true rfl) q0 (fun _ h => h) (v := .ref (B 13 0)) rfl dX0_worth_78 ?_
                  refine x_alen hx hb hK hW (c13 E) (t := 0) rfl (e13 _ _ _ _ _ _) (v := (160 : Int32)) rfl dX0_worth_81 ?_
                  refine lv_icmp_ge (tgt := 128) hx hb dX0_worth_82 (by decide) (fun h => ?_) (fun h => ?_)
                  · have hf := if_t h hf
                    exact w128 S v1 v2 v3 x25  hf _ _ _ hW hS (lv_sub hl [1, 2, 3, 4, 0] rfl)
                  · have hf := if_f h hf
                    refine lv_aload_n hx hb dX0_worth_85 rfl (lv_at hl 1 rfl) ?_
                    refine x_get hx hb hts hi0 hown hK hW (c10 E) (e10 _ _ _ _ _ _) rfl 5 (Nat.le_of_ble_eq_true rfl) q0 (fun _ h => h) (v := .ref (B 13 0)) rfl dX0_worth_86 ?_
                    refine lv_iload_n hx hb dX0_worth_89 rfl (lv_at hl 3 rfl) ?_
                    refine lv_iload hx hb dX0_worth_90 (lv_at hl 0 rfl) ?_
                    refine lv_sipush (v := 1000) hx hb dX0_worth_92 (by decide) ?_
                    refine lv_icmp_lt (tgt := 107) hx hb dX0_worth_95 (by decide) (fun h => ?_) (fun h => ?_)
                    · have hf := if_t h hf
                      refine lv_aload_n hx hb dX0_worth_107 rfl (lv_at hl 1 rfl) ?_
                      refine x_get hx hb hts hi0 hown hK hW (c10 E) (e10 _ _ _ _ _ _) rfl 4 (Nat.le_of_ble_eq_true rfl) q2 (fun _ h => h) (v := .ref (B 12 0)) rfl dX0_worth_108 ?_
                      refine lv_iload hx hb dX0_worth_111 (lv_at hl 0 rfl) ?_
                      refine lv_sipush (v := 262) hx hb dX0_worth_113 (by decide) ?_
                      refine lv_isub hx hb dX0_worth_116 ?_
                      refine lv_bipush (v := 6) hx hb dX0_worth_117 (by decide) ?_
                      refine x_irem hx hb dX0_worth_119 (by decide) ?_
                      obtain ⟨hi_26, hf⟩ := ck_out hf
                      have hi_26 := ib_in hi_26
                      refine x_iald hx hb hK hW (c12 E) (e12 _ _ _ _ _ _) hi_26 (jn := (rmI (x25 - (262 : Int32)) (6 : Int32)).toNatClampNeg) rfl dX0_worth_120 ?_
                      exact w121 S v1 v2 v3 (gI S 12 0 (rmI (x25 - (262 : Int32)) (6 : Int32)).toNatClampNeg) v2  hf _ _ _ hW hS (lv_sub hl [1, 2, 3, 4] rfl)
                    · have hf := if_f h hf
                      refine lv_iload hx hb dX0_worth_98 (lv_at hl 0 rfl) ?_
                      refine lv_sipush (v := 1000) hx hb dX0_worth_100 (by decide) ?_
                      refine lv_isub hx hb dX0_worth_103 ?_
                      refine lv_goto (tgt := 121) hx hb dX0_worth_104 (by decide) ?_
                      exact w121 S v1 v2 v3 (x25 - (1000 : Int32)) v2  hf _ _ _ hW hS (lv_sub hl [1, 2, 3, 4] rfl)
  unfold f_X0_worth at hf
  refine lv_aload_n hx hb dX0_worth_0 rfl (lv_at hl 0 rfl) ?_
  refine x_get hx hb hts hi0 hown hK hW (c10 E) (e10 _ _ _ _ _ _) rfl 0 (Nat.le_of_ble_eq_true rfl) q1 (fun _ h => h) (v := va_rf (Option.map (B 30) (gR S 10 0 0))) rfl dX0_worth_1 ?_
  obtain ⟨o27, e_o27, hf⟩ := lt_out hf
  refine x_nmN e_o27 ?_
  rcases o27 with _ | k28
  · have hf := nl_n hf
    refine lv_ifnullN (tgt := 16) hx hb dX0_worth_4 (by decide) ?_
    refine lv_iconst (v := 0) hx hb dX0_worth_16 rfl ?_
    exact z_i hf hx hb hr rfl hF hW hS dX0_worth_17 hlocks
  · have hf := nl_s hf
    obtain ⟨hk29, hf⟩ := ck_out hf
    have hk29 := of_decide_eq_true hk29
    refine lv_ifnull hx hb dX0_worth_4 ?_
    refine lv_iload_n hx hb dX0_worth_7 rfl (lv_at hl 1 rfl) ?_
    refine lv_if_lt (tgt := 16) hx hb dX0_worth_8 (by decide) (fun h => ?_) (fun h => ?_)
    · have hf := if_t h hf
      refine lv_iconst (v := 0) hx hb dX0_worth_16 rfl ?_
      exact z_i hf hx hb hr rfl hF hW hS dX0_worth_17 hlocks
    · have hf := if_f h hf
      refine lv_iload_n hx hb dX0_worth_11 rfl (lv_at hl 1 rfl) ?_
      refine lv_iconst (v := 3) hx hb dX0_worth_12 rfl ?_
      refine lv_icmp_lt (tgt := 18) hx hb dX0_worth_13 (by decide) (fun h => ?_) (fun h => ?_)
      · have hf := if_t h hf
        refine lv_iconst (v := 0) hx hb dX0_worth_18 rfl ?_
        refine lv_istore_n (lv' := [(2, .int (0 : Int32)), (0, .ref (B 10 0)), (1, .int a1)]) hx hb dX0_worth_19 rfl hl (by decide) rfl (fun ls hl => ?_)
        refine lv_aload_n hx hb dX0_worth_20 rfl (lv_at hl 1 rfl) ?_
        refine x_get hx hb hts hi0 hown hK hW (c10 E) (e10 _ _ _ _ _ _) rfl 0 (Nat.le_of_ble_eq_true rfl) q1 (fun _ h => h) (v := va_rf (Option.map (B 30) (gR S 10 0 0))) rfl dX0_worth_21 ?_
        obtain ⟨o30, e_o30, hf⟩ := lt_out hf
        refine x_nmN e_o30 ?_
        rcases o30 with _ | k31
        · have hf := nl_n hf
          exact absurd hf (by intro h; cases h)
        · have hf := nl_s hf
          obtain ⟨hk32, hf⟩ := ck_out hf
          have hk32 := of_decide_eq_true hk32
          refine x_getN hx hb hts hi5 hown hK hW (c30 hk32) (e30 _ _ _ _ _ _) rfl 1 (Nat.le_of_ble_eq_true rfl) (NW.f hF.2.1 4 (q := ("MovesUp$Chances", 52, "MovesUp$Text", "starts", "[I", "MovesUp")) rfl) (fun _ h => h) (v := .ref (B 32 k31)) rfl dX0_worth_24 ?_
          refine lv_iload_n hx hb dX0_worth_27 rfl (lv_at hl 2 rfl) ?_
          obtain ⟨hi_33, hf⟩ := ck_out hf
          have hi_33 := ib_in hi_33
          refine x_iald hx hb hK hW (cv30_32 (c30 hk32)) (e32 _ _ _ _ _ _) hi_33 (jn := a1.toNatClampNeg) rfl dX0_worth_28 ?_
          obtain ⟨x34, e_x34, hf⟩ := lt_out hf
          refine x_nmI e_x34 ?_
          refine lv_istore_n (lv' := [(3, .int x34), (2, .int (0 : Int32)), (0, .ref (B 10 0)), (1, .int a1)]) hx hb dX0_worth_29 rfl hl (by decide) rfl (fun ls hl => ?_)
          exact w30 E.1 S a1 (0 : Int32) x34  hf _ _ _ hW hS (lv_sub hl [2, 3, 1, 0] rfl)
      · have hf := if_f h hf
        refine lv_iconst (v := 0) hx hb dX0_worth_16 rfl ?_
        exact z_i hf hx hb hr rfl hF hW hS dX0_worth_17 hlocks
set_option maxHeartbeats 4000000 in
set_option maxRecDepth 100000 in
theorem m_X0_asks (l : Launch) (G : GE) (B : Nat → Nat → Nat) (E : EN)  (S : ST) (a1 : Int32) (a2 : Int32) (a3 : Int32) (a4 : Int32) (a5 : Int32) (rr : Int32) (SS : ST) (hf : f_X0_asks E S a1 a2 a3 a4 a5 = some (rr, SS)) : Met l yX0_asks wsX0_asks (rmN 3) (va_Pc [.ref (B 10 0), .int a1, .int a2, .int a3, .int a4, .int a5] (WS G B E S)) (QI G B E SS rr) 0 0 (AA G) := by
  refine Met.ofW (cc := cX0_asks) (maxL := 8) (ret := (some .int)) (by decide) rfl ?_
  intro p e s m args below meth c s₁ B0 hml hv
  obtain ⟨rfl, hW, hF⟩ := hv
  have hx := B0.exec
  have hb := B0.bytes
  have hr := B0.returns
  have hts := atoms_spec (ws := wsX0_asks) B0.pre
  have hown : s.vm.findClass RX0 = some m.cls := findClass_of_methodNamed B0.named
  have hlocks := B0.notSynchronized
  have hK := hF.1
  have hfix : CallFix p m c cX0_asks 8 s [.ref (B 10 0), .int a1, .int a2, .int a3, .int a4, .int a5].toArray wsX0_asks RX0 := ⟨hx, hb, hml, hown, hts⟩
  have hS : va_S (AA G) s.heap s.heap [] := va_S.rf
  have hl := lv_entry [.ref (B 10 0), .int a1, .int a2, .int a3, .int a4, .int a5] (n := 8) (Nat.le_of_ble_eq_true rfl)
  rw [lg_entry_eq]
  generalize (lg_sl [.ref (B 10 0), .int a1, .int a2, .int a3, .int a4, .int a5] ++ List.replicate (8 - (lg_sl [.ref (B 10 0), .int a1, .int a2, .int a3, .int a4, .int a5]).length) Slot.unset).toArray = ls at hl ⊢
  have hl : lv_has ls 8 [(0, .ref (B 10 0)), (1, .int a1), (2, .int a2), (3, .int a3), (4, .int a4), (5, .int a5)] := hl
  have q0 := hts (.fieldLink RX0 22 "MovesUp$Chances" "said" "[B") (List.mem_of_getElem? (i := 1) rfl)
  have q1 := hts (.methodLink RX0 49 Lib.Math.min.name) (List.mem_of_getElem? (i := 8) rfl)
  have q2 := hts (.static Lib.Math.min.name) (List.mem_of_getElem? (i := 9) rfl)
  have q3 := hts (.initialized "java/lang/Math") (List.mem_of_getElem? (i := 6) rfl)
  have q4 := hts (.code Lib.Math.min.name Lib.Math.min.code 2 (some .int)) (List.mem_of_getElem? (i := 10) rfl)
  have q5 := hts (.methodLink RX0 39 Lib.Math.max.name) (List.mem_of_getElem? (i := 4) rfl)
  have q6 := hts (.static Lib.Math.max.name) (List.mem_of_getElem? (i := 5) rfl)
  have q7 := hts (.code Lib.Math.max.name Lib.Math.max.code 2 (some .int)) (List.mem_of_getElem? (i := 7) rfl)
  have q8 := hts (.fieldLink RX0 26 "MovesUp$Chances" "names" "[I") (List.mem_of_getElem? (i := 2) rfl)
  have q9 := hts (.fieldLink RX0 19 "MovesUp$Chances" "sort" "I") (List.mem_of_getElem? (i := 3) rfl)
  have hi0 : ∀ w ∈ u_ws RX0 TX0 6, w ∈ wsX0_asks := in_seg 21 rfl
  have w154 : ∀ (S : ST) (v6 : Int32) , f_X0_asks_b154 E S v6 = some (rr, SS) → ∀ (H : Heap) (locs : List Loc) (ls : Array Slot), WH G B E S H → va_S (AA G) s.heap H locs → lv_has ls 8 [(0, .ref (B 10 0)), (6, .int v6)] → W p l e (headSpec wsX0_asks (rmN 3)).room s m [.ref (B 10 0), .int a1, .int a2, .int a3, .int a4, .int a5].toArray below meth c H locs 0 0 (MQ below (QI G B E SS rr) [.ref (B 10 0), .int a1, .int a2, .int a3, .int a4, .int a5].toArray s 0 0 (AA G)) (F0 m 154 ls []) := by
    intro S v6 hf H locs ls hW hS hl
    unfold f_X0_asks_b154 at hf
    refine lv_aload_n hx hb dX0_asks_154 rfl (lv_at hl 0 rfl) ?_
    refine x_get hx hb hts hi0 hown hK hW (c10 E) (e10 _ _ _ _ _ _) rfl 3 (Nat.le_of_ble_eq_true rfl) q0 (fun _ h => h) (v := .ref (B 11 0)) rfl dX0_asks_155 ?_
    refine lv_iload hx hb dX0_asks_158 (lv_at hl 1 rfl) ?_
    obtain ⟨hi_1, hf⟩ := ck_out hf
    have hi_1 := ib_in hi_1
    refine x_bald hx hb hK hW (c11 E) (e11 _ _ _ _ _ _) hi_1 (jn := v6.toNatClampNeg) rfl dX0_asks_160 ?_
    exact z_i hf hx hb hr rfl hF hW hS dX0_asks_161 hlocks
  have w153 : ∀ (S : ST) (v6 : Int32) (t0 : Int32) (t1 : Int32) , f_X0_asks_b153 E S v6 t0 t1 = some (rr, SS) → ∀ (H : Heap) (locs : List Loc) (ls : Array Slot), WH G B E S H → va_S (AA G) s.heap H locs → lv_has ls 8 [(0, .ref (B 10 0)), (6, .int v6)] → W p l e (headSpec wsX0_asks (rmN 3)).room s m [.ref (B 10 0), .int a1, .int a2, .int a3, .int a4, .int a5].toArray below meth c H locs 0 0 (MQ below (QI G B E SS rr) [.ref (B 10 0), .int a1, .int a2, .int a3, .int a4, .int a5].toArray s 0 0 (AA G)) (F0 m 153 ls [.int t0, .int t1, .ref (B 11 0)]) := by
    intro S v6 t0 t1 hf H locs ls hW hS hl
    unfold f_X0_asks_b153 at hf
    obtain ⟨hi_2, hf⟩ := ck_out hf
    have hi_2 := ib_in hi_2
    obtain ⟨S3, e_S3, hf⟩ := lt_out hf
    refine x_bast hx hb hK hW hS (c11 E) (fun f r => e11 _ _ _ f _ r) hi_2 (jn := t1.toNatClampNeg) rfl e_S3 dX0_asks_153 (fun H locs hW hS => ?_)
    exact w154 S3 v6  hf _ _ _ hW hS (lv_sub hl [0, 1] rfl)
  have w138 : ∀ (S : ST) (v1 : Int32) (v6 : Int32) (v7 : Int32) (t0 : Int32) , f_X0_asks_b138 E S v1 v6 v7 t0 = some (rr, SS) → ∀ (H : Heap) (locs : List Loc) (ls : Array Slot), WH G B E S H → va_S (AA G) s.heap H locs → lv_has ls 8 [(0, .ref (B 10 0)), (1, .int v1), (6, .int v6), (7, .int v7)] → W p l e (headSpec wsX0_asks (rmN 3)).room s m [.ref (B 10 0), .int a1, .int a2, .int a3, .int a4, .int a5].toArray below meth c H locs 0 0 (MQ below (QI G B E SS rr) [.ref (B 10 0), .int a1, .int a2, .int a3, .int a4, .int a5].toArray s 0 0 (AA G)) (F0 m 138 ls [.int t0, .ref (B 11 0)]) := by
    intro S v1 v6 v7 t0 hf H locs ls hW hS hl
    unfold f_X0_asks_b138 at hf
    refine lv_iconst (v := 0) hx hb dX0_asks_138 rfl ?_
    refine lv_iload hx hb dX0_asks_139 (lv_at hl 3 rfl) ?_
    refine lv_aload_n hx hb dX0_asks_141 rfl (lv_at hl 0 rfl) ?_
    refine lv_iload_n hx hb dX0_asks_142 rfl (lv_at hl 1 rfl) ?_
    obtain ⟨r4, S5, hc, hf⟩ := bd2_out hf
    refine y_i (va_runV (As := [.int v1]) (rest := [.int v7, .int (0 : Int32), .int t0, .ref (B 11 0)]) hfix (m_X0_worth l G B E S v1 r4 S5 hc) (cwV 1 hts gX0_asks_X0_worth rfl rfl rfl ⟨rfl, hd_X0_worth⟩ ⟨Nat.le_of_ble_eq_true rfl, Nat.le_of_ble_eq_true rfl⟩) (y_pv hF hW hS (c10 E) (e10 _ _ _ _ _ _) rfl) rfl rfl hl.1 rfl (lv_room (Nat.le_of_ble_eq_true rfl)) dX0_asks_143 ⟨Nat.le_of_ble_eq_true rfl, Nat.le_of_ble_eq_true rfl⟩) hS (fun H locs hW hS => ?_)
    refine va_mmin hx hb (hml.trans hl.1.symm) hown q1 q2 q3 q4 (Nat.le_of_ble_eq_true rfl) (Nat.le_of_ble_eq_true rfl) (Nat.le_of_ble_eq_true rfl) (Nat.le_of_ble_eq_true rfl) dX0_asks_146 ?_
    refine va_mmax hx hb (hml.trans hl.1.symm) hown q5 q6 q3 q7 (Nat.le_of_ble_eq_true rfl) (Nat.le_of_ble_eq_true rfl) (Nat.le_of_ble_eq_true rfl) (Nat.le_of_ble_eq_true rfl) dX0_asks_149 ?_
    refine lv_i2b hx hb dX0_asks_152 rfl ?_
    exact w153 S5 v6 ((mxI (0 : Int32) (mnI v7 r4)).toInt8.toInt32) t0  hf _ _ _ hW hS (lv_sub hl [0, 2] rfl)
  have w117 : ∀ (S : ST) (v1 : Int32) (v2 : Int32) (v6 : Int32) (t0 : Int32) , f_X0_asks_b117 E S v1 v2 v6 t0 = some (rr, SS) → ∀ (H : Heap) (locs : List Loc) (ls : Array Slot), WH G B E S H → va_S (AA G) s.heap H locs → lv_has ls 8 [(0, .ref (B 10 0)), (1, .int v1), (2, .int v2), (6, .int v6)] → W p l e (headSpec wsX0_asks (rmN 3)).room s m [.ref (B 10 0), .int a1, .int a2, .int a3, .int a4, .int a5].toArray below meth c H locs 0 0 (MQ below (QI G B E SS rr) [.ref (B 10 0), .int a1, .int a2, .int a3, .int a4, .int a5].toArray s 0 0 (AA G)) (F0 m 117 ls [.int t0]) := by
    intro S v1 v2 v6 t0 hf H locs ls hW hS hl
    unfold f_X0_asks_b117 at hf
    refine lv_istore (lv' := [(7, .int t0), (0, .ref (B 10 0)), (1, .int v1), (2, .int v2), (6, .int v6)]) hx hb dX0_asks_117 hl (by decide) rfl (fun ls hl => ?_)
    refine lv_aload_n hx hb dX0_asks_119 rfl (lv_at hl 1 rfl) ?_
    refine x_get hx hb hts hi0 hown hK hW (c10 E) (e10 _ _ _ _ _ _) rfl 3 (Nat.le_of_ble_eq_true rfl) q0 (fun _ h => h) (v := .ref (B 11 0)) rfl dX0_asks_120 ?_
    refine lv_iload hx hb dX0_asks_123 (lv_at hl 4 rfl) ?_
    refine lv_iload_n hx hb dX0_asks_125 rfl (lv_at hl 2 rfl) ?_
    refine lv_if_ne (tgt := 138) hx hb dX0_asks_126 (by decide) (fun h => ?_) (fun h => ?_)
    · have hf := if_f h hf
      exact w138 S v1 v6 t0 v6  hf _ _ _ hW hS (lv_sub hl [1, 2, 4, 0] rfl)
    · have hf := if_t h hf
      refine lv_iload_n hx hb dX0_asks_129 rfl (lv_at hl 3 rfl) ?_
      refine lv_iconst (v := 4) hx hb dX0_asks_130 rfl ?_
      refine lv_icmp_ne (tgt := 138) hx hb dX0_asks_131 (by decide) (fun h => ?_) (fun h => ?_)
      · have hf := if_f h hf
        exact w138 S v1 v6 t0 v6  hf _ _ _ hW hS (lv_sub hl [1, 2, 4, 0] rfl)
      · have hf := if_t h hf
        refine lv_iconst (v := 0) hx hb dX0_asks_134 rfl ?_
        refine lv_goto (tgt := 153) hx hb dX0_asks_135 (by decide) ?_
        exact w153 S v6 (0 : Int32) v6  hf _ _ _ hW hS (lv_sub hl [1, 4] rfl)
  unfold f_X0_asks at hf
  refine lv_iload_n hx hb dX0_asks_0 rfl (lv_at hl 1 rfl) ?_
  refine lv_bipush (v := 6) hx hb dX0_asks_1 (by decide) ?_
  refine lv_imul hx hb dX0_asks_3 ?_
  refine lv_iload hx hb dX0_asks_4 (lv_at hl 5 rfl) ?_
  refine lv_iadd hx hb dX0_asks_6 ?_
  refine lv_bipush (v := 6) hx hb dX0_asks_7 (by decide) ?_
  refine lv_imul hx hb dX0_asks_9 ?_
  refine lv_iload hx hb dX0_asks_10 (lv_at hl 4 rfl) ?_
  refine lv_iadd hx hb dX0_asks_12 ?_
  refine lv_iconst (v := 5) hx hb dX0_asks_13 rfl ?_
  refine lv_imul hx hb dX0_asks_14 ?_
  refine lv_iload_n hx hb dX0_asks_15 rfl (lv_at hl 3 rfl) ?_
  refine lv_iadd hx hb dX0_asks_16 ?_
  refine lv_iconst (v := 5) hx hb dX0_asks_17 rfl ?_
  refine lv_imul hx hb dX0_asks_18 ?_
  refine lv_iload_n hx hb dX0_asks_19 rfl (lv_at hl 2 rfl) ?_
  refine lv_iadd hx hb dX0_asks_20 ?_
  obtain ⟨x6, e_x6, hf⟩ := lt_out hf
  refine x_nmI e_x6 ?_
  refine lv_istore (lv' := [(6, .int x6), (0, .ref (B 10 0)), (1, .int a1), (2, .int a2), (3, .int a3), (4, .int a4), (5, .int a5)]) hx hb dX0_asks_21 hl (by decide) rfl (fun ls hl => ?_)
  refine lv_iload hx hb dX0_asks_23 (lv_at hl 0 rfl) ?_
  refine lv_if_lt (tgt := 38) hx hb dX0_asks_25 (by decide) (fun h => ?_) (fun h => ?_)
  · have hf := if_t h hf
    refine lv_iconst (v := 0) hx hb dX0_asks_38 rfl ?_
    exact z_i hf hx hb hr rfl hF hW hS dX0_asks_39 hlocks
  · have hf := if_f h hf
    refine lv_iload hx hb dX0_asks_28 (lv_at hl 0 rfl) ?_
    refine lv_aload_n hx hb dX0_asks_30 rfl (lv_at hl 1 rfl) ?_
    refine x_get hx hb hts hi0 hown hK hW (c10 E) (e10 _ _ _ _ _ _) rfl 3 (Nat.le_of_ble_eq_true rfl) q0 (fun _ h => h) (v := .ref (B 11 0)) rfl dX0_asks_31 ?_
    refine x_alen hx hb hK hW (c11 E) (t := 2) rfl (e11 _ _ _ _ _ _) (v := (2700 : Int32)) rfl dX0_asks_34 ?_
    refine lv_icmp_lt (tgt := 40) hx hb dX0_asks_35 (by decide) (fun h => ?_) (fun h => ?_)
    · have hf := if_t h hf
      refine lv_aload_n hx hb dX0_asks_40 rfl (lv_at hl 1 rfl) ?_
      refine x_get hx hb hts hi0 hown hK hW (c10 E) (e10 _ _ _ _ _ _) rfl 3 (Nat.le_of_ble_eq_true rfl) q0 (fun _ h => h) (v := .ref (B 11 0)) rfl dX0_asks_41 ?_
      refine lv_iload hx hb dX0_asks_44 (lv_at hl 0 rfl) ?_
      obtain ⟨hi_7, hf⟩ := ck_out hf
      have hi_7 := ib_in hi_7
      refine x_bald hx hb hK hW (c11 E) (e11 _ _ _ _ _ _) hi_7 (jn := x6.toNatClampNeg) rfl dX0_asks_46 ?_
      refine lv_iconst (v := -1) hx hb dX0_asks_47 rfl ?_
      refine lv_icmp_ne (tgt := 154) hx hb dX0_asks_48 (by decide) (fun h => ?_) (fun h => ?_)
      · have hf := if_f h hf
        exact w154 S x6  hf _ _ _ hW hS (lv_sub hl [1, 0] rfl)
      · have hf := if_t h hf
        refine lv_aload_n hx hb dX0_asks_51 rfl (lv_at hl 1 rfl) ?_
        refine x_get hx hb hts hi0 hown hK hW (c10 E) (e10 _ _ _ _ _ _) rfl 4 (Nat.le_of_ble_eq_true rfl) q8 (fun _ h => h) (v := .ref (B 12 0)) rfl dX0_asks_52 ?_
        refine lv_iconst (v := 0) hx hb dX0_asks_55 rfl ?_
        refine lv_iload_n hx hb dX0_asks_56 rfl (lv_at hl 3 rfl) ?_
        obtain ⟨S8, e_S8, hf⟩ := lt_out hf
        refine x_iast hx hb hK hW hS (c12 E) (fun f r => e12 _ _ _ f _ r) (ib_in (by decide)) (jn := 0) rfl e_S8 dX0_asks_57 (fun H locs hW hS => ?_)
        refine lv_aload_n hx hb dX0_asks_58 rfl (lv_at hl 1 rfl) ?_
        refine x_get hx hb hts hi0 hown hK hW (c10 E) (e10 _ _ _ _ _ _) rfl 4 (Nat.le_of_ble_eq_true rfl) q8 (fun _ h => h) (v := .ref (B 12 0)) rfl dX0_asks_59 ?_
        refine lv_iconst (v := 1) hx hb dX0_asks_62 rfl ?_
        refine lv_iload_n hx hb dX0_asks_63 rfl (lv_at hl 4 rfl) ?_
        obtain ⟨S9, e_S9, hf⟩ := lt_out hf
        refine x_iast hx hb hK hW hS (c12 E) (fun f r => e12 _ _ _ f _ r) (ib_in (by decide)) (jn := 1) rfl e_S9 dX0_asks_64 (fun H locs hW hS => ?_)
        refine lv_aload_n hx hb dX0_asks_65 rfl (lv_at hl 1 rfl) ?_
        refine x_get hx hb hts hi0 hown hK hW (c10 E) (e10 _ _ _ _ _ _) rfl 4 (Nat.le_of_ble_eq_true rfl) q8 (fun _ h => h) (v := .ref (B 12 0)) rfl dX0_asks_66 ?_
        refine lv_iconst (v := 2) hx hb dX0_asks_69 rfl ?_
        refine lv_iload hx hb dX0_asks_70 (lv_at hl 5 rfl) ?_
        obtain ⟨S10, e_S10, hf⟩ := lt_out hf
        refine x_iast hx hb hK hW hS (c12 E) (fun f r => e12 _ _ _ f _ r) (ib_in (by decide)) (jn := 2) rfl e_S10 dX0_asks_72 (fun H locs hW hS => ?_)
        refine lv_aload_n hx hb dX0_asks_73 rfl (lv_at hl 1 rfl) ?_
        refine x_get hx hb hts hi0 hown hK hW (c10 E) (e10 _ _ _ _ _ _) rfl 4 (Nat.le_of_ble_eq_true rfl) q8 (fun _ h => h) (v := .ref (B 12 0)) rfl dX0_asks_74 ?_
        refine lv_iconst (v := 3) hx hb dX0_asks_77 rfl ?_
        refine lv_aload_n hx hb dX0_asks_78 rfl (lv_at hl 1 rfl) ?_
        refine x_get hx hb hts hi0 hown hK hW (c10 E) (e10 _ _ _ _ _ _) rfl 2 (Nat.le_of_ble_eq_true rfl) q9 (fun _ h => h) (v := .int (gI S10 10 0 2)) rfl dX0_asks_79 ?_
        obtain ⟨S11, e_S11, hf⟩ := lt_out hf
        refine x_iast hx hb hK hW hS (c12 E) (fun f r => e12 _ _ _ f _ r) (ib_in (by decide)) (jn := 3) rfl e_S11 dX0_asks_82 (fun H locs hW hS => ?_)
        refine lv_aload_n hx hb dX0_asks_83 rfl (lv_at hl 1 rfl) ?_
        refine x_get hx hb hts hi0 hown hK hW (c10 E) (e10 _ _ _ _ _ _) rfl 4 (Nat.le_of_ble_eq_true rfl) q8 (fun _ h => h) (v := .ref (B 12 0)) rfl dX0_asks_84 ?_
        refine lv_iconst (v := 4) hx hb dX0_asks_87 rfl ?_
        refine lv_iload hx hb dX0_asks_88 (lv_at hl 6 rfl) ?_
        obtain ⟨S12, e_S12, hf⟩ := lt_out hf
        refine x_iast hx hb hK hW hS (c12 E) (fun f r => e12 _ _ _ f _ r) (ib_in (by decide)) (jn := 4) rfl e_S12 dX0_asks_90 (fun H locs hW hS => ?_)
        refine lv_aload_n hx hb dX0_asks_91 rfl (lv_at hl 1 rfl) ?_
        refine x_get hx hb hts hi0 hown hK hW (c10 E) (e10 _ _ _ _ _ _) rfl 4 (Nat.le_of_ble_eq_true rfl) q8 (fun _ h => h) (v := .ref (B 12 0)) rfl dX0_asks_92 ?_
        refine lv_iconst (v := 5) hx hb dX0_asks_95 rfl ?_
        refine lv_iconst (v := 0) hx hb dX0_asks_96 rfl ?_
        refine lv_iconst (v := 4) hx hb dX0_asks_97 rfl ?_
        refine lv_iload hx hb dX0_asks_98 (lv_at hl 5 rfl) ?_
        refine lv_isub hx hb dX0_asks_100 ?_
        refine va_mmax hx hb (hml.trans hl.1.symm) hown q5 q6 q3 q7 (Nat.le_of_ble_eq_true rfl) (Nat.le_of_ble_eq_true rfl) (Nat.le_of_ble_eq_true rfl) (Nat.le_of_ble_eq_true rfl) dX0_asks_101 ?_
        obtain ⟨S13, e_S13, hf⟩ := lt_out hf
        refine x_iast hx hb hK hW hS (c12 E) (fun f r => e12 _ _ _ f _ r) (ib_in (by decide)) (jn := 5) rfl e_S13 dX0_asks_104 (fun H locs hW hS => ?_)
        refine lv_iload_n hx hb dX0_asks_105 rfl (lv_at hl 2 rfl) ?_
        refine lv_iconst (v := 2) hx hb dX0_asks_106 rfl ?_
        refine lv_icmp_ne (tgt := 115) hx hb dX0_asks_107 (by decide) (fun h => ?_) (fun h => ?_)
        · have hf := if_f h hf
          refine lv_bipush (v := 10) hx hb dX0_asks_115 (by decide) ?_
          exact w117 S13 a1 a2 x6 (10 : Int32)  hf _ _ _ hW hS (lv_sub hl [1, 2, 3, 0] rfl)
        · have hf := if_t h hf
          refine lv_bipush (v := 99) hx hb dX0_asks_110 (by decide) ?_
          refine lv_goto (tgt := 117) hx hb dX0_asks_112 (by decide) ?_
          exact w117 S13 a1 a2 x6 (99 : Int32)  hf _ _ _ hW hS (lv_sub hl [1, 2, 3, 0] rfl)
    · have hf := if_f h hf
      refine lv_iconst (v := 0) hx hb dX0_asks_38 rfl ?_
      exact z_i hf hx hb hr rfl hF hW hS dX0_asks_39 hlocks
set_option maxHeartbeats 4000000 in
set_option maxRecDepth 100000 in
theorem m_X1_begin (l : Launch) (G : GE) (B : Nat → Nat → Nat) (E : EN)  (S : ST) (a1 : Nat) (h_a1 : a1 < cnt E 21) (a2 : Int32) (a3 : Int32) (a4 : Int32) (SS : ST) (hf : f_X1_begin E S a1 a2 a3 a4 = some SS) : Met l yX1_begin wsX1_begin (rmN 1) (va_Pc [.ref (B 16 0), .ref (B 21 a1), .int a2, .int a3, .int a4] (WS G B E S)) (QV G B E SS) 0 0 (AA G) := by
  refine Met.ofW (cc := cX1_begin) (maxL := 6) (ret := none) (by decide) rfl ?_
  intro p e s m args below meth c s₁ B0 hml hv
  obtain ⟨rfl, hW, hF⟩ := hv
  have hx := B0.exec
  have hb := B0.bytes
  have hr := B0.returns
  have hts := atoms_spec (ws := wsX1_begin) B0.pre
  have hown : s.vm.findClass RX1 = some m.cls := findClass_of_methodNamed B0.named
  have hlocks := B0.notSynchronized
  have hK := hF.1
  have hfix : CallFix p m c cX1_begin 6 s [.ref (B 16 0), .ref (B 21 a1), .int a2, .int a3, .int a4].toArray wsX1_begin RX1 := ⟨hx, hb, hml, hown, hts⟩
  have hS : va_S (AA G) s.heap s.heap [] := va_S.rf
  have hl := lv_entry [.ref (B 16 0), .ref (B 21 a1), .int a2, .int a3, .int a4] (n := 6) (Nat.le_of_ble_eq_true rfl)
  rw [lg_entry_eq]
  generalize (lg_sl [.ref (B 16 0), .ref (B 21 a1), .int a2, .int a3, .int a4] ++ List.replicate (6 - (lg_sl [.ref (B 16 0), .ref (B 21 a1), .int a2, .int a3, .int a4]).length) Slot.unset).toArray = ls at hl ⊢
  have hl : lv_has ls 6 [(0, .ref (B 16 0)), (1, .ref (B 21 a1)), (2, .int a2), (3, .int a3), (4, .int a4)] := hl
  have q0 := hts (.fieldLink RX1 16 "MovesUp$Course" "classes" "[I") (List.mem_of_getElem? (i := 2) rfl)
  have q1 := hts (.fieldLink RX1 20 "MovesUp$Course" "moved" "[I") (List.mem_of_getElem? (i := 3) rfl)
  have q2 := hts (.fieldLink RX1 23 "MovesUp$Course" "kind" "I") (List.mem_of_getElem? (i := 4) rfl)
  have q3 := hts (.fieldLink RX1 27 "MovesUp$Course" "number" "I") (List.mem_of_getElem? (i := 5) rfl)
  have q4 := hts (.fieldLink RX1 30 "MovesUp$Course" "marks" "I") (List.mem_of_getElem? (i := 6) rfl)
  have q5 := hts (.fieldLink RX1 11 "MovesUp$Course" "weights" "[[J") (List.mem_of_getElem? (i := 1) rfl)
  have hi1 : ∀ w ∈ u_ws RX1 TX1 7, w ∈ wsX1_begin := in_seg 7 rfl
  have w29 : ∀ (S : ST) (v2 : Int32) (v3 : Int32) (v4 : Int32) , f_X1_begin_b29 E S v2 v3 v4 = some SS → ∀ (H : Heap) (locs : List Loc) (ls : Array Slot), WH G B E S H → va_S (AA G) s.heap H locs → lv_has ls 6 [(0, .ref (B 16 0)), (2, .int v2), (3, .int v3), (4, .int v4)] → W p l e (headSpec wsX1_begin (rmN 1)).room s m [.ref (B 16 0), .ref (B 21 a1), .int a2, .int a3, .int a4].toArray below meth c H locs 0 0 (MQ below (QV G B E SS) [.ref (B 16 0), .ref (B 21 a1), .int a2, .int a3, .int a4].toArray s 0 0 (AA G)) (F0 m 29 ls []) := by
    intro S v2 v3 v4 hf H locs ls hW hS hl
    unfold f_X1_begin_b29 at hf
    refine lv_aload_n hx hb dX1_begin_29 rfl (lv_at hl 0 rfl) ?_
    refine x_get hx hb hts hi1 hown hK hW (c16 E) (e16 _ _ _ _ _ _) rfl 2 (Nat.le_of_ble_eq_true rfl) q0 (fun _ h => h) (v := .ref (B 18 0)) rfl dX1_begin_30 ?_
    refine lv_iconst (v := 0) hx hb dX1_begin_33 rfl ?_
    refine lv_iload_n hx hb dX1_begin_34 rfl (lv_at hl 1 rfl) ?_
    obtain ⟨S1, e_S1, hf⟩ := lt_out hf
    refine x_iast hx hb hK hW hS (c18 E) (fun f r => e18 _ _ _ f _ r) (ib_in (by decide)) (jn := 0) rfl e_S1 dX1_begin_35 (fun H locs hW hS => ?_)
    refine lv_aload_n hx hb dX1_begin_36 rfl (lv_at hl 0 rfl) ?_
    refine x_get hx hb hts hi1 hown hK hW (c16 E) (e16 _ _ _ _ _ _) rfl 3 (Nat.le_of_ble_eq_true rfl) q1 (fun _ h => h) (v := .ref (B 19 0)) rfl dX1_begin_37 ?_
    refine lv_iconst (v := 0) hx hb dX1_begin_40 rfl ?_
    refine lv_iconst (v := 0) hx hb dX1_begin_41 rfl ?_
    obtain ⟨S2, e_S2, hf⟩ := lt_out hf
    refine x_iast hx hb hK hW hS (c19 E) (fun f r => e19 _ _ _ f _ r) (ib_in (by decide)) (jn := 0) rfl e_S2 dX1_begin_42 (fun H locs hW hS => ?_)
    refine lv_aload_n hx hb dX1_begin_43 rfl (lv_at hl 0 rfl) ?_
    refine lv_iload_n hx hb dX1_begin_44 rfl (lv_at hl 2 rfl) ?_
    obtain ⟨S3, e_S3, hf⟩ := lt_out hf
    refine x_putI hx hb hts hi1 tyX1 tyX1_ok nmX1 hown hK hW hS (c16 E) (e16 _ _ _) rfl 4 (Nat.le_of_ble_eq_true rfl) q2 (fun _ h => h) rfl (tyX1_ok 4 (Nat.le_of_ble_eq_true rfl)) rfl rfl (Nat.le_of_ble_eq_true rfl) (pu16_4 _ _) e_S3 dX1_begin_45 (fun H locs hW hS => ?_)
    refine lv_aload_n hx hb dX1_begin_48 rfl (lv_at hl 0 rfl) ?_
    refine lv_iload hx hb dX1_begin_49 (lv_at hl 3 rfl) ?_
    obtain ⟨S4, e_S4, hf⟩ := lt_out hf
    refine x_putI hx hb hts hi1 tyX1 tyX1_ok nmX1 hown hK hW hS (c16 E) (e16 _ _ _) rfl 5 (Nat.le_of_ble_eq_true rfl) q3 (fun _ h => h) rfl (tyX1_ok 5 (Nat.le_of_ble_eq_true rfl)) rfl rfl (Nat.le_of_ble_eq_true rfl) (pu16_5 _ _) e_S4 dX1_begin_51 (fun H locs hW hS => ?_)
    refine lv_aload_n hx hb dX1_begin_54 rfl (lv_at hl 0 rfl) ?_
    refine lv_iconst (v := 0) hx hb dX1_begin_55 rfl ?_
    obtain ⟨S5, e_S5, hf⟩ := lt_out hf
    refine x_putI hx hb hts hi1 tyX1 tyX1_ok nmX1 hown hK hW hS (c16 E) (e16 _ _ _) rfl 6 (Nat.le_of_ble_eq_true rfl) q4 (fun _ h => h) rfl (tyX1_ok 6 (Nat.le_of_ble_eq_true rfl)) rfl rfl (Nat.le_of_ble_eq_true rfl) (pu16_6 _ _) e_S5 dX1_begin_56 (fun H locs hW hS => ?_)
    exact z_v hf hx hb hr hF hW hS dX1_begin_59 hlocks
  have w3 : ∀ (n3 : Nat) (S : ST) (v1 : Nat) (v2 : Int32) (v3 : Int32) (v4 : Int32) (v5 : Int32) (h_v1 : v1 < cnt E 21), f_X1_begin_b3 E n3 S v1 v2 v3 v4 v5 = some SS → ∀ (H : Heap) (locs : List Loc) (ls : Array Slot), WH G B E S H → va_S (AA G) s.heap H locs → lv_has ls 6 [(0, .ref (B 16 0)), (1, .ref (B 21 v1)), (2, .int v2), (3, .int v3), (4, .int v4), (5, .int v5)] → W p l e (headSpec wsX1_begin (rmN 1)).room s m [.ref (B 16 0), .ref (B 21 a1), .int a2, .int a3, .int a4].toArray below meth c H locs 0 0 (MQ below (QV G B E SS) [.ref (B 16 0), .ref (B 21 a1), .int a2, .int a3, .int a4].toArray s 0 0 (AA G)) (F0 m 3 ls []) := by
    intro n3
    induction n3 with
    | zero =>
      intro S v1 v2 v3 v4 v5 h_v1 hf
      exact absurd (show (none : Option ST) = some SS from hf) (fun h => by cases h)
    | succ n3 ih3 =>
      intro S v1 v2 v3 v4 v5 h_v1 hf H locs ls hW hS hl
      have hf : g_X1_begin_b3 E (f_X1_begin_b3 E n3) S v1 v2 v3 v4 v5 = some SS := hf
      unfold g_X1_begin_b3 at hf
      refine lv_iload hx hb dX1_begin_3 (lv_at hl 5 rfl) ?_
      refine lv_iconst (v := 5) hx hb dX1_begin_5 rfl ?_
      refine lv_icmp_ge (tgt := 29) hx hb dX1_begin_6 (by decide) (fun h => ?_) (fun h => ?_)
      · have hf := if_t h hf
        exact w29 S v2 v3 v4  hf _ _ _ hW hS (lv_sub hl [0, 2, 3, 4] rfl)
      · have hf := if_f h hf
        refine lv_aload_n hx hb dX1_begin_9 rfl (lv_at hl 0 rfl) ?_
        refine x_get hx hb hts hi1 hown hK hW (c16 E) (e16 _ _ _ _ _ _) rfl 1 (Nat.le_of_ble_eq_true rfl) q5 (fun _ h => h) (v := .ref (B 17 0)) rfl dX1_begin_10 ?_
        refine lv_iconst (v := 0) hx hb dX1_begin_13 rfl ?_
        refine x_aaldF hx hb hK hW (c17 E) (t := 7) rfl rfl (e17 _ _ _ _ _ _) (ib_in (by decide)) (jn := 0) rfl dX1_begin_14 ?_
        refine lv_iload hx hb dX1_begin_15 (lv_at hl 5 rfl) ?_
        refine lv_aload_n hx hb dX1_begin_17 rfl (lv_at hl 1 rfl) ?_
        refine lv_iload hx hb dX1_begin_18 (lv_at hl 5 rfl) ?_
        obtain ⟨hi_6, hf⟩ := ck_out hf
        have hi_6 := ib_in hi_6
        refine x_iald hx hb hK hW (h_v1) (e21 _ _ _ _ _ _) hi_6 (jn := v5.toNatClampNeg) rfl dX1_begin_20 ?_
        refine lv_i2l hx hb dX1_begin_21 rfl ?_
        obtain ⟨S7, e_S7, hf⟩ := lt_out hf
        refine x_last hx hb hK hW hS (c28 E (by decide)) (fun g => e28 _ _ _ _ g _) hi_6 (jn := v5.toNatClampNeg) rfl e_S7 dX1_begin_22 (fun H locs hW hS => ?_)
        obtain ⟨x8, e_x8, hf⟩ := lt_out hf
        refine lv_iinc (v := x8) (lv' := [(5, .int x8), (0, .ref (B 16 0)), (1, .ref (B 21 v1)), (2, .int v2), (3, .int v3), (4, .int v4)]) hx hb dX1_begin_23 hl (k := 5) rfl (by rw [e_x8]; rfl) (by decide) rfl (fun ls hl => ?_)
        refine lv_goto (tgt := 3) hx hb dX1_begin_26 (by decide) ?_
        exact ih3 S7 v1 v2 v3 v4 x8 (h_v1) hf _ _ _ hW hS (lv_sub hl [1, 2, 3, 4, 5, 0] rfl)
  unfold f_X1_begin at hf
  refine lv_iconst (v := 0) hx hb dX1_begin_0 rfl ?_
  refine lv_istore (lv' := [(5, .int (0 : Int32)), (0, .ref (B 16 0)), (1, .ref (B 21 a1)), (2, .int a2), (3, .int a3), (4, .int a4)]) hx hb dX1_begin_1 hl (by decide) rfl (fun ls hl => ?_)
  exact w3 E.1 S a1 a2 a3 a4 (0 : Int32) (h_a1) hf _ _ _ hW hS (lv_sub hl [1, 2, 3, 4, 5, 0] rfl)
set_option maxHeartbeats 4000000 in
set_option maxRecDepth 100000 in
theorem m_X1_pass (l : Launch) (G : GE) (B : Nat → Nat → Nat) (E : EN)  (S : ST) (a1 : Int32) (a2 : Int32) (SS : ST) (hf : f_X1_pass E S a1 a2 = some SS) : Met l yX1_pass wsX1_pass (rmN 4) (va_Pc [.ref (B 16 0), .int a1, .int a2] (WS G B E S)) (QV G B E SS) 0 0 (AA G) := by
  refine Met.ofW (cc := cX1_pass) (maxL := 12) (ret := none) (by decide) rfl ?_
  intro p e s m args below meth c s₁ B0 hml hv
  obtain ⟨rfl, hW, hF⟩ := hv
  have hx := B0.exec
  have hb := B0.bytes
  have hr := B0.returns
  have hts := atoms_spec (ws := wsX1_pass) B0.pre
  have hown : s.vm.findClass RX1 = some m.cls := findClass_of_methodNamed B0.named
  have hlocks := B0.notSynchronized
  have hK := hF.1
  have hfix : CallFix p m c cX1_pass 12 s [.ref (B 16 0), .int a1, .int a2].toArray wsX1_pass RX1 := ⟨hx, hb, hml, hown, hts⟩
  have hS : va_S (AA G) s.heap s.heap [] := va_S.rf
  have hl := lv_entry [.ref (B 16 0), .int a1, .int a2] (n := 12) (Nat.le_of_ble_eq_true rfl)
  rw [lg_entry_eq]
  generalize (lg_sl [.ref (B 16 0), .int a1, .int a2] ++ List.replicate (12 - (lg_sl [.ref (B 16 0), .int a1, .int a2]).length) Slot.unset).toArray = ls at hl ⊢
  have hl : lv_has ls 12 [(0, .ref (B 16 0)), (1, .int a1), (2, .int a2)] := hl
  have q0 := hts (.fieldLink RX1 33 "MovesUp$Course" "chances" "LMovesUp$Chances;") (List.mem_of_getElem? (i := 3) rfl)
  have q1 := hts (.fieldLink RX1 16 "MovesUp$Course" "classes" "[I") (List.mem_of_getElem? (i := 4) rfl)
  have q2 := hts (.fieldLink RX1 20 "MovesUp$Course" "moved" "[I") (List.mem_of_getElem? (i := 5) rfl)
  have q3 := hts (.initialized RX0) (List.mem_of_getElem? (i := 8) rfl)
  have q4 := hts (.instanceMethod yX0_asks) (List.mem_of_getElem? (i := 7) rfl)
  have q5 := hts (.selects RX0 yX0_asks yX0_asks) (List.mem_of_getElem? (i := 9) rfl)
  have q6 := hts (.constantLong RX1 82 (10)) (List.mem_of_getElem? (i := 6) rfl)
  have q7 := hts (.fieldLink RX1 30 "MovesUp$Course" "marks" "I") (List.mem_of_getElem? (i := 1) rfl)
  have q8 := hts (.fieldLink RX1 11 "MovesUp$Course" "weights" "[[J") (List.mem_of_getElem? (i := 2) rfl)
  have hi1 : ∀ w ∈ u_ws RX1 TX1 7, w ∈ wsX1_pass := in_seg 30 rfl
  have w51 : ∀ (n51 : Nat) (S : ST) (v1 : Int32) (v2 : Int32) (v3 : Nat) (v4 : Nat) (v5 : Int64) (v7 : Int32) (h_v3 : v3 < cnt E 28) (h_v4 : v4 < cnt E 28), f_X1_pass_b51 E n51 S v1 v2 v3 v4 v5 v7 = some SS → ∀ (H : Heap) (locs : List Loc) (ls : Array Slot), WH G B E S H → va_S (AA G) s.heap H locs → lv_has ls 12 [(0, .ref (B 16 0)), (1, .int v1), (2, .int v2), (3, .ref (B 28 v3)), (4, .ref (B 28 v4)), (5, .long v5), (7, .int v7)] → W p l e (headSpec wsX1_pass (rmN 4)).room s m [.ref (B 16 0), .int a1, .int a2].toArray below meth c H locs 0 0 (MQ below (QV G B E SS) [.ref (B 16 0), .int a1, .int a2].toArray s 0 0 (AA G)) (F0 m 51 ls []) := by
    intro n51
    induction n51 with
    | zero =>
      intro S v1 v2 v3 v4 v5 v7 h_v3 h_v4 hf
      exact absurd (show (none : Option ST) = some SS from hf) (fun h => by cases h)
    | succ n51 ih51 =>
      have w143 : ∀ (S : ST) (v1 : Int32) (v2 : Int32) (v3 : Nat) (v4 : Nat) (v7 : Int32) (v8 : Int64) (t0 : Int64) (t1 : Int64) (t2 : Int32) (t3 : Nat) (h_v3 : v3 < cnt E 28) (h_v4 : v4 < cnt E 28) (h_t3 : t3 < cnt E 28), f_X1_pass_b143 E (f_X1_pass_b51 E n51) S v1 v2 v3 v4 v7 v8 t0 t1 t2 t3 = some SS → ∀ (H : Heap) (locs : List Loc) (ls : Array Slot), WH G B E S H → va_S (AA G) s.heap H locs → lv_has ls 12 [(0, .ref (B 16 0)), (1, .int v1), (2, .int v2), (3, .ref (B 28 v3)), (4, .ref (B 28 v4)), (7, .int v7), (8, .long v8)] → W p l e (headSpec wsX1_pass (rmN 4)).room s m [.ref (B 16 0), .int a1, .int a2].toArray below meth c H locs 0 0 (MQ below (QV G B E SS) [.ref (B 16 0), .int a1, .int a2].toArray s 0 0 (AA G)) (F0 m 143 ls [.long t0, .long t1, .int t2, .ref (B 28 t3)]) := by
        intro S v1 v2 v3 v4 v7 v8 t0 t1 t2 t3 h_v3 h_v4 h_t3 hf H locs ls hW hS hl
        unfold f_X1_pass_b143 at hf
        refine lv_lmul hx hb dX1_pass_143 ?_
        obtain ⟨hi_1, hf⟩ := ck_out hf
        have hi_1 := ib_in hi_1
        obtain ⟨S2, e_S2, hf⟩ := lt_out hf
        refine x_last hx hb hK hW hS (h_t3) (fun g => e28 _ _ _ _ g _) hi_1 (jn := t2.toNatClampNeg) rfl e_S2 dX1_pass_144 (fun H locs hW hS => ?_)
        refine lv_aload_n hx hb dX1_pass_145 rfl (lv_at hl 3 rfl) ?_
        refine lv_iload hx hb dX1_pass_146 (lv_at hl 5 rfl) ?_
        obtain ⟨hi_3, hf⟩ := ck_out hf
        have hi_3 := ib_in hi_3
        refine x_lald hx hb hK hW (h_v3) (e28 _ _ _ _ _ _) hi_3 (jn := v7.toNatClampNeg) rfl dX1_pass_148 ?_
        refine lv_lload hx hb dX1_pass_149 (lv_at hl 6 rfl) ?_
        refine lv_lmul hx hb dX1_pass_151 ?_
        obtain ⟨x4, e_x4, hf⟩ := lt_out hf
        refine x_nmL e_x4 ?_
        refine lv_lstore (lv' := [(5, .long x4), (0, .ref (B 16 0)), (1, .int v1), (2, .int v2), (3, .ref (B 28 v3)), (4, .ref (B 28 v4)), (7, .int v7), (8, .long v8)]) hx hb dX1_pass_152 hl (by decide) rfl (fun ls hl => ?_)
        obtain ⟨x5, e_x5, hf⟩ := lt_out hf
        refine lv_iinc (v := x5) (lv' := [(7, .int x5), (5, .long x4), (0, .ref (B 16 0)), (1, .int v1), (2, .int v2), (3, .ref (B 28 v3)), (4, .ref (B 28 v4)), (8, .long v8)]) hx hb dX1_pass_154 hl (k := 6) rfl (by rw [e_x5]; rfl) (by decide) rfl (fun ls hl => ?_)
        refine lv_goto (tgt := 51) hx hb dX1_pass_157 (by decide) ?_
        exact ih51 S2 v1 v2 v3 v4 x4 x5 (h_v3) (h_v4) hf _ _ _ hW hS (lv_sub hl [2, 3, 4, 5, 6, 1, 0] rfl)
      intro S v1 v2 v3 v4 v5 v7 h_v3 h_v4 hf H locs ls hW hS hl
      have hf : g_X1_pass_b51 E (f_X1_pass_b51 E n51) S v1 v2 v3 v4 v5 v7 = some SS := hf
      unfold g_X1_pass_b51 at hf
      refine lv_iload hx hb dX1_pass_51 (lv_at hl 6 rfl) ?_
      refine lv_iconst (v := 5) hx hb dX1_pass_53 rfl ?_
      refine lv_icmp_ge (tgt := 160) hx hb dX1_pass_54 (by decide) (fun h => ?_) (fun h => ?_)
      · have hf := if_t h hf
        exact z_v hf hx hb hr hF hW hS dX1_pass_160 hlocks
      · have hf := if_f h hf
        refine lv_aload_n hx hb dX1_pass_57 rfl (lv_at hl 0 rfl) ?_
        refine x_get hx hb hts hi1 hown hK hW (c16 E) (e16 _ _ _ _ _ _) rfl 0 (Nat.le_of_ble_eq_true rfl) q0 (fun _ h => h) (v := .ref (B 10 0)) rfl dX1_pass_58 ?_
        refine lv_iconst (v := 0) hx hb dX1_pass_61 rfl ?_
        refine lv_iload hx hb dX1_pass_62 (lv_at hl 6 rfl) ?_
        refine lv_aload_n hx hb dX1_pass_64 rfl (lv_at hl 0 rfl) ?_
        refine x_get hx hb hts hi1 hown hK hW (c16 E) (e16 _ _ _ _ _ _) rfl 2 (Nat.le_of_ble_eq_true rfl) q1 (fun _ h => h) (v := .ref (B 18 0)) rfl dX1_pass_65 ?_
        refine lv_iload_n hx hb dX1_pass_68 rfl (lv_at hl 1 rfl) ?_
        obtain ⟨hi_6, hf⟩ := ck_out hf
        have hi_6 := ib_in hi_6
        refine x_iald hx hb hK hW (c18 E) (e18 _ _ _ _ _ _) hi_6 (jn := v1.toNatClampNeg) rfl dX1_pass_69 ?_
        refine lv_iload_n hx hb dX1_pass_70 rfl (lv_at hl 1 rfl) ?_
        refine lv_aload_n hx hb dX1_pass_71 rfl (lv_at hl 0 rfl) ?_
        refine x_get hx hb hts hi1 hown hK hW (c16 E) (e16 _ _ _ _ _ _) rfl 3 (Nat.le_of_ble_eq_true rfl) q2 (fun _ h => h) (v := .ref (B 19 0)) rfl dX1_pass_72 ?_
        refine lv_iload_n hx hb dX1_pass_75 rfl (lv_at hl 1 rfl) ?_
        refine x_iald hx hb hK hW (c19 E) (e19 _ _ _ _ _ _) hi_6 (jn := v1.toNatClampNeg) rfl dX1_pass_76 ?_
        obtain ⟨r7, S8, hc, hf⟩ := bd2_out hf
        refine y_i (va_runVN (As := [.int (0 : Int32), .int v7, .int (gI S 18 0 v1.toNatClampNeg), .int v1, .int (gI S 19 0 v1.toNatClampNeg)]) (rest := []) hfix (m_X0_asks l G B E S (0 : Int32) v7 (gI S 18 0 v1.toNatClampNeg) v1 (gI S 19 0 v1.toNatClampNeg) r7 S8 hc) ⟨va_cnB 5 hts gX1_pass_X0_asks_n76 rfl rfl rfl (NW.m hF.2.1 13 (q := ("MovesUp$Course", 76, "MovesUp$Chances", "asks", "(IIIII)I", "MovesUp")) rfl) q3 hd_X0_asks ⟨Nat.le_of_ble_eq_true rfl, Nat.le_of_ble_eq_true rfl⟩, q4, q5⟩ (y_pv hF hW hS (c10 E) (e10 _ _ _ _ _ _) rfl) rfl rfl hl.1 rfl (lv_room (Nat.le_of_ble_eq_true rfl)) dX1_pass_77 ⟨Nat.le_of_ble_eq_true rfl, Nat.le_of_ble_eq_true rfl⟩) hS (fun H locs hW hS => ?_)
        refine lv_i2l hx hb dX1_pass_80 rfl ?_
        refine lv_lstore (lv' := [(8, .long r7.toInt64), (0, .ref (B 16 0)), (1, .int v1), (2, .int v2), (3, .ref (B 28 v3)), (4, .ref (B 28 v4)), (5, .long v5), (7, .int v7)]) hx hb dX1_pass_81 hl (by decide) rfl (fun ls hl => ?_)
        refine lv_aload_n hx hb dX1_pass_83 rfl (lv_at hl 1 rfl) ?_
        refine x_get hx hb hts hi1 hown hK hW (c16 E) (e16 _ _ _ _ _ _) rfl 0 (Nat.le_of_ble_eq_true rfl) q0 (fun _ h => h) (v := .ref (B 10 0)) rfl dX1_pass_84 ?_
        refine lv_iconst (v := 1) hx hb dX1_pass_87 rfl ?_
        refine lv_iload hx hb dX1_pass_88 (lv_at hl 7 rfl) ?_
        refine lv_aload_n hx hb dX1_pass_90 rfl (lv_at hl 1 rfl) ?_
        refine x_get hx hb hts hi1 hown hK hW (c16 E) (e16 _ _ _ _ _ _) rfl 2 (Nat.le_of_ble_eq_true rfl) q1 (fun _ h => h) (v := .ref (B 18 0)) rfl dX1_pass_91 ?_
        refine lv_iload_n hx hb dX1_pass_94 rfl (lv_at hl 2 rfl) ?_
        refine x_iald hx hb hK hW (c18 E) (e18 _ _ _ _ _ _) hi_6 (jn := v1.toNatClampNeg) rfl dX1_pass_95 ?_
        refine lv_iload_n hx hb dX1_pass_96 rfl (lv_at hl 2 rfl) ?_
        refine lv_aload_n hx hb dX1_pass_97 rfl (lv_at hl 1 rfl) ?_
        refine x_get hx hb hts hi1 hown hK hW (c16 E) (e16 _ _ _ _ _ _) rfl 3 (Nat.le_of_ble_eq_true rfl) q2 (fun _ h => h) (v := .ref (B 19 0)) rfl dX1_pass_98 ?_
        refine lv_iload_n hx hb dX1_pass_101 rfl (lv_at hl 2 rfl) ?_
        refine x_iald hx hb hK hW (c19 E) (e19 _ _ _ _ _ _) hi_6 (jn := v1.toNatClampNeg) rfl dX1_pass_102 ?_
        obtain ⟨r9, S10, hc, hf⟩ := bd2_out hf
        refine y_i (va_runVN (As := [.int (1 : Int32), .int v7, .int (gI S8 18 0 v1.toNatClampNeg), .int v1, .int (gI S8 19 0 v1.toNatClampNeg)]) (rest := []) hfix (m_X0_asks l G B E S8 (1 : Int32) v7 (gI S8 18 0 v1.toNatClampNeg) v1 (gI S8 19 0 v1.toNatClampNeg) r9 S10 hc) ⟨va_cnB 5 hts gX1_pass_X0_asks_n76 rfl rfl rfl (NW.m hF.2.1 13 (q := ("MovesUp$Course", 76, "MovesUp$Chances", "asks", "(IIIII)I", "MovesUp")) rfl) q3 hd_X0_asks ⟨Nat.le_of_ble_eq_true rfl, Nat.le_of_ble_eq_true rfl⟩, q4, q5⟩ (y_pv hF hW hS (c10 E) (e10 _ _ _ _ _ _) rfl) rfl rfl hl.1 rfl (lv_room (Nat.le_of_ble_eq_true rfl)) dX1_pass_103 ⟨Nat.le_of_ble_eq_true rfl, Nat.le_of_ble_eq_true rfl⟩) hS (fun H locs hW hS => ?_)
        refine lv_i2l hx hb dX1_pass_106 rfl ?_
        refine lv_lstore (lv' := [(10, .long r9.toInt64), (8, .long r7.toInt64), (0, .ref (B 16 0)), (1, .int v1), (2, .int v2), (3, .ref (B 28 v3)), (4, .ref (B 28 v4)), (5, .long v5), (7, .int v7)]) hx hb dX1_pass_107 hl (by decide) rfl (fun ls hl => ?_)
        refine lv_aload hx hb dX1_pass_109 (lv_at hl 6 rfl) ?_
        refine lv_iload hx hb dX1_pass_111 (lv_at hl 8 rfl) ?_
        refine lv_aload_n hx hb dX1_pass_113 rfl (lv_at hl 5 rfl) ?_
        refine lv_iload hx hb dX1_pass_114 (lv_at hl 8 rfl) ?_
        obtain ⟨hi_11, hf⟩ := ck_out hf
        have hi_11 := ib_in hi_11
        refine x_lald hx hb hK hW (h_v3) (e28 _ _ _ _ _ _) hi_11 (jn := v7.toNatClampNeg) rfl dX1_pass_116 ?_
        refine lv_ldc2 hx hb hown q6 dX1_pass_117 ?_
        refine lv_lload hx hb dX1_pass_120 (lv_at hl 1 rfl) ?_
        refine lv_lsub hx hb dX1_pass_122 ?_
        refine lv_lmul hx hb dX1_pass_123 ?_
        refine lv_lload hx hb dX1_pass_124 (lv_at hl 7 rfl) ?_
        refine lv_ladd hx hb dX1_pass_126 ?_
        refine lv_iload_n hx hb dX1_pass_127 rfl (lv_at hl 4 rfl) ?_
        refine lv_iconst (v := 1) hx hb dX1_pass_128 rfl ?_
        refine lv_icmp_ne (tgt := 137) hx hb dX1_pass_129 (by decide) (fun h => ?_) (fun h => ?_)
        · have hf := if_f h hf
          refine lv_ldc2 hx hb hown q6 dX1_pass_137 ?_
          refine lv_lload hx hb dX1_pass_140 (lv_at hl 0 rfl) ?_
          refine lv_lsub hx hb dX1_pass_142 ?_
          exact w143 S10 v1 v2 v3 v4 v7 r7.toInt64 ((10 : Int64) - r9.toInt64) (((gL S10 28 v3 v7.toNatClampNeg) * ((10 : Int64) - r7.toInt64)) + v5) v7 v4 (h_v3) (h_v4) (h_v4) hf _ _ _ hW hS (lv_sub hl [2, 3, 4, 5, 6, 8, 1] rfl)
        · have hf := if_t h hf
          refine lv_lload hx hb dX1_pass_132 (lv_at hl 0 rfl) ?_
          refine lv_goto (tgt := 143) hx hb dX1_pass_134 (by decide) ?_
          exact w143 S10 v1 v2 v3 v4 v7 r7.toInt64 r9.toInt64 (((gL S10 28 v3 v7.toNatClampNeg) * ((10 : Int64) - r7.toInt64)) + v5) v7 v4 (h_v3) (h_v4) (h_v4) hf _ _ _ hW hS (lv_sub hl [2, 3, 4, 5, 6, 8, 1] rfl)
  unfold f_X1_pass at hf
  refine lv_iload_n hx hb dX1_pass_0 rfl (lv_at hl 1 rfl) ?_
  refine lv_if_lt (tgt := 9) hx hb dX1_pass_1 (by decide) (fun h => ?_) (fun h => ?_)
  · have hf := if_t h hf
    exact z_v hf hx hb hr hF hW hS dX1_pass_9 hlocks
  · have hf := if_f h hf
    refine lv_iload_n hx hb dX1_pass_4 rfl (lv_at hl 1 rfl) ?_
    refine lv_iconst (v := 5) hx hb dX1_pass_5 rfl ?_
    refine lv_icmp_lt (tgt := 10) hx hb dX1_pass_6 (by decide) (fun h => ?_) (fun h => ?_)
    · have hf := if_t h hf
      refine lv_aload_n hx hb dX1_pass_10 rfl (lv_at hl 0 rfl) ?_
      refine lv_aload_n hx hb dX1_pass_11 rfl (lv_at hl 0 rfl) ?_
      refine x_get hx hb hts hi1 hown hK hW (c16 E) (e16 _ _ _ _ _ _) rfl 6 (Nat.le_of_ble_eq_true rfl) q7 (fun _ h => h) (v := .int (gI S 16 0 6)) rfl dX1_pass_12 ?_
      refine lv_iconst (v := 1) hx hb dX1_pass_15 rfl ?_
      refine lv_iload_n hx hb dX1_pass_16 rfl (lv_at hl 1 rfl) ?_
      refine lv_ishl hx hb dX1_pass_17 ?_
      refine lv_iconst (v := -1) hx hb dX1_pass_18 rfl ?_
      refine lv_ixor hx hb dX1_pass_19 ?_
      refine lv_iand hx hb dX1_pass_20 ?_
      refine lv_iload_n hx hb dX1_pass_21 rfl (lv_at hl 2 rfl) ?_
      refine lv_iload_n hx hb dX1_pass_22 rfl (lv_at hl 1 rfl) ?_
      refine lv_ishl hx hb dX1_pass_23 ?_
      refine lv_ior hx hb dX1_pass_24 ?_
      obtain ⟨S12, e_S12, hf⟩ := lt_out hf
      refine x_putI hx hb hts hi1 tyX1 tyX1_ok nmX1 hown hK hW hS (c16 E) (e16 _ _ _) rfl 6 (Nat.le_of_ble_eq_true rfl) q7 (fun _ h => h) rfl (tyX1_ok 6 (Nat.le_of_ble_eq_true rfl)) rfl rfl (Nat.le_of_ble_eq_true rfl) (pu16_6 _ _) e_S12 dX1_pass_25 (fun H locs hW hS => ?_)
      refine lv_aload_n hx hb dX1_pass_28 rfl (lv_at hl 0 rfl) ?_
      refine x_get hx hb hts hi1 hown hK hW (c16 E) (e16 _ _ _ _ _ _) rfl 1 (Nat.le_of_ble_eq_true rfl) q8 (fun _ h => h) (v := .ref (B 17 0)) rfl dX1_pass_29 ?_
      refine lv_iload_n hx hb dX1_pass_32 rfl (lv_at hl 1 rfl) ?_
      obtain ⟨hi_13, hf⟩ := ck_out hf
      have hi_13 := ib_in hi_13
      refine x_aaldF hx hb hK hW (c17 E) (t := 7) rfl rfl (e17 _ _ _ _ _ _) hi_13 (jn := a1.toNatClampNeg) rfl dX1_pass_33 ?_
      refine lv_astore_n (lv' := [(3, .ref (B 28 a1.toNatClampNeg)), (0, .ref (B 16 0)), (1, .int a1), (2, .int a2)]) hx hb dX1_pass_34 rfl hl (by decide) rfl (fun ls hl => ?_)
      refine lv_aload_n hx hb dX1_pass_35 rfl (lv_at hl 1 rfl) ?_
      refine x_get hx hb hts hi1 hown hK hW (c16 E) (e16 _ _ _ _ _ _) rfl 1 (Nat.le_of_ble_eq_true rfl) q8 (fun _ h => h) (v := .ref (B 17 0)) rfl dX1_pass_36 ?_
      refine lv_iload_n hx hb dX1_pass_39 rfl (lv_at hl 2 rfl) ?_
      refine lv_iconst (v := 1) hx hb dX1_pass_40 rfl ?_
      refine lv_iadd hx hb dX1_pass_41 ?_
      obtain ⟨hi_14, hf⟩ := ck_out hf
      have hi_14 := ib_in hi_14
      refine x_aaldF hx hb hK hW (c17 E) (t := 7) rfl rfl (e17 _ _ _ _ _ _) hi_14 (jn := (a1 + (1 : Int32)).toNatClampNeg) rfl dX1_pass_42 ?_
      refine lv_astore (lv' := [(4, .ref (B 28 (a1 + (1 : Int32)).toNatClampNeg)), (3, .ref (B 28 a1.toNatClampNeg)), (0, .ref (B 16 0)), (1, .int a1), (2, .int a2)]) hx hb dX1_pass_43 hl (by decide) rfl (fun ls hl => ?_)
      refine lv_lconst (v := 0) hx hb dX1_pass_45 rfl ?_
      refine lv_lstore (lv' := [(5, .long (0 : Int64)), (4, .ref (B 28 (a1 + (1 : Int32)).toNatClampNeg)), (3, .ref (B 28 a1.toNatClampNeg)), (0, .ref (B 16 0)), (1, .int a1), (2, .int a2)]) hx hb dX1_pass_46 hl (by decide) rfl (fun ls hl => ?_)
      refine lv_iconst (v := 0) hx hb dX1_pass_48 rfl ?_
      refine lv_istore (lv' := [(7, .int (0 : Int32)), (5, .long (0 : Int64)), (4, .ref (B 28 (a1 + (1 : Int32)).toNatClampNeg)), (3, .ref (B 28 a1.toNatClampNeg)), (0, .ref (B 16 0)), (1, .int a1), (2, .int a2)]) hx hb dX1_pass_49 hl (by decide) rfl (fun ls hl => ?_)
      exact w51 E.1 S12 a1 a2 a1.toNatClampNeg ((a1 + (1 : Int32)).toNatClampNeg) (0 : Int64) (0 : Int32) (c28 E (vp_lt hi_13)) (c28 E (vp_lt hi_14)) hf _ _ _ hW hS (lv_sub hl [4, 5, 6, 3, 2, 1, 0] rfl)
    · have hf := if_f h hf
      exact z_v hf hx hb hr hF hW hS dX1_pass_9 hlocks
set_option maxHeartbeats 4000000 in
set_option maxRecDepth 100000 in
theorem m_X6_held (l : Launch) (G : GE) (B : Nat → Nat → Nat) (E : EN)  (S : ST) (a1 : Int32) (rr : Int32) (hf : f_X6_held E S a1 = some rr) : Met l yX6_held wsX6_held (rmN 1) (va_Pc [.int a1] (WS G B E S)) (QI G B E S rr) 0 0 (AA G) := by
  refine Met.ofW (cc := cX6_held) (maxL := 1) (ret := (some .int)) (by decide) rfl ?_
  intro p e s m args below meth c s₁ B0 hml hv
  obtain ⟨rfl, hW, hF⟩ := hv
  have hx := B0.exec
  have hb := B0.bytes
  have hr := B0.returns
  have hts := atoms_spec (ws := wsX6_held) B0.pre
  have hown : s.vm.findClass RX6 = some m.cls := findClass_of_methodNamed B0.named
  have hlocks := B0.notSynchronized
  have hK := hF.1
  have hfix : CallFix p m c cX6_held 1 s [.int a1].toArray wsX6_held RX6 := ⟨hx, hb, hml, hown, hts⟩
  have hS : va_S (AA G) s.heap s.heap [] := va_S.rf
  have hl := lv_entry [.int a1] (n := 1) (Nat.le_of_ble_eq_true rfl)
  rw [lg_entry_eq]
  generalize (lg_sl [.int a1] ++ List.replicate (1 - (lg_sl [.int a1]).length) Slot.unset).toArray = ls at hl ⊢
  have hl : lv_has ls 1 [(0, .int a1)] := hl
  have q0 := hts (.methodLink RX6 267 Lib.Math.min.name) (List.mem_of_getElem? (i := 1) rfl)
  have q1 := hts (.static Lib.Math.min.name) (List.mem_of_getElem? (i := 2) rfl)
  have q2 := hts (.initialized "java/lang/Math") (List.mem_of_getElem? (i := 3) rfl)
  have q3 := hts (.code Lib.Math.min.name Lib.Math.min.code 2 (some .int)) (List.mem_of_getElem? (i := 4) rfl)
  have q4 := hts (.methodLink RX6 272 Lib.Math.max.name) (List.mem_of_getElem? (i := 5) rfl)
  have q5 := hts (.static Lib.Math.max.name) (List.mem_of_getElem? (i := 6) rfl)
  have q6 := hts (.code Lib.Math.max.name Lib.Math.max.code 2 (some .int)) (List.mem_of_getElem? (i := 7) rfl)
  unfold f_X6_held at hf
  refine lv_iconst (v := 0) hx hb dX6_held_0 rfl ?_
  refine lv_iconst (v := 4) hx hb dX6_held_1 rfl ?_
  refine lv_iload_n hx hb dX6_held_2 rfl (lv_at hl 0 rfl) ?_
  refine va_mmin hx hb (hml.trans hl.1.symm) hown q0 q1 q2 q3 (Nat.le_of_ble_eq_true rfl) (Nat.le_of_ble_eq_true rfl) (Nat.le_of_ble_eq_true rfl) (Nat.le_of_ble_eq_true rfl) dX6_held_3 ?_
  refine va_mmax hx hb (hml.trans hl.1.symm) hown q4 q5 q2 q6 (Nat.le_of_ble_eq_true rfl) (Nat.le_of_ble_eq_true rfl) (Nat.le_of_ble_eq_true rfl) (Nat.le_of_ble_eq_true rfl) dX6_held_6 ?_
  exact zr_i hf hx hb hr rfl hF hW hS dX6_held_9 hlocks
set_option maxHeartbeats 4000000 in
set_option maxRecDepth 100000 in
theorem m_X1_settle (l : Launch) (G : GE) (B : Nat → Nat → Nat) (E : EN)  (S : ST) (a1 : Int32) (a2 : Int32) (SS : ST) (hf : f_X1_settle E S a1 a2 = some SS) : Met l yX1_settle wsX1_settle (rmN 2) (va_Pc [.ref (B 16 0), .int a1, .int a2] (WS G B E S)) (QV G B E SS) 0 0 (AA G) := by
  refine Met.ofW (cc := cX1_settle) (maxL := 3) (ret := none) (by decide) rfl ?_
  intro p e s m args below meth c s₁ B0 hml hv
  obtain ⟨rfl, hW, hF⟩ := hv
  have hx := B0.exec
  have hb := B0.bytes
  have hr := B0.returns
  have hts := atoms_spec (ws := wsX1_settle) B0.pre
  have hown : s.vm.findClass RX1 = some m.cls := findClass_of_methodNamed B0.named
  have hlocks := B0.notSynchronized
  have hK := hF.1
  have hfix : CallFix p m c cX1_settle 3 s [.ref (B 16 0), .int a1, .int a2].toArray wsX1_settle RX1 := ⟨hx, hb, hml, hown, hts⟩
  have hS : va_S (AA G) s.heap s.heap [] := va_S.rf
  have hl := lv_entry [.ref (B 16 0), .int a1, .int a2] (n := 3) (Nat.le_of_ble_eq_true rfl)
  rw [lg_entry_eq]
  generalize (lg_sl [.ref (B 16 0), .int a1, .int a2] ++ List.replicate (3 - (lg_sl [.ref (B 16 0), .int a1, .int a2]).length) Slot.unset).toArray = ls at hl ⊢
  have hl : lv_has ls 3 [(0, .ref (B 16 0)), (1, .int a1), (2, .int a2)] := hl
  have q0 := hts (.fieldLink RX1 16 "MovesUp$Course" "classes" "[I") (List.mem_of_getElem? (i := 1) rfl)
  have q1 := hts (.initialized RX6) (List.mem_of_getElem? (i := 4) rfl)
  have q2 := hts (.static yX6_held) (List.mem_of_getElem? (i := 3) rfl)
  have q3 := hts (.fieldLink RX1 20 "MovesUp$Course" "moved" "[I") (List.mem_of_getElem? (i := 2) rfl)
  have hi1 : ∀ w ∈ u_ws RX1 TX1 7, w ∈ wsX1_settle := in_seg 13 rfl
  have w64 : ∀ (S : ST) (t0 : Int32) (t1 : Int32) (t2 : Int32) , f_X1_settle_b64 E S t0 t1 t2 = some SS → ∀ (H : Heap) (locs : List Loc) (ls : Array Slot), WH G B E S H → va_S (AA G) s.heap H locs → lv_has ls 3 [] → W p l e (headSpec wsX1_settle (rmN 2)).room s m [.ref (B 16 0), .int a1, .int a2].toArray below meth c H locs 0 0 (MQ below (QV G B E SS) [.ref (B 16 0), .int a1, .int a2].toArray s 0 0 (AA G)) (F0 m 64 ls [.int t0, .int t1, .int t2, .ref (B 19 0)]) := by
    intro S t0 t1 t2 hf H locs ls hW hS hl
    unfold f_X1_settle_b64 at hf
    refine lv_iadd hx hb dX1_settle_64 ?_
    obtain ⟨hi_1, hf⟩ := ck_out hf
    have hi_1 := ib_in hi_1
    obtain ⟨S2, e_S2, hf⟩ := lt_out hf
    refine x_iast hx hb hK hW hS (c19 E) (fun f r => e19 _ _ _ f _ r) hi_1 (jn := t2.toNatClampNeg) rfl e_S2 dX1_settle_65 (fun H locs hW hS => ?_)
    exact z_v hf hx hb hr hF hW hS dX1_settle_66 hlocks
  unfold f_X1_settle at hf
  refine lv_iload_n hx hb dX1_settle_0 rfl (lv_at hl 1 rfl) ?_
  refine lv_if_lt (tgt := 9) hx hb dX1_settle_1 (by decide) (fun h => ?_) (fun h => ?_)
  · have hf := if_t h hf
    exact z_v hf hx hb hr hF hW hS dX1_settle_9 hlocks
  · have hf := if_f h hf
    refine lv_iload_n hx hb dX1_settle_4 rfl (lv_at hl 1 rfl) ?_
    refine lv_iconst (v := 5) hx hb dX1_settle_5 rfl ?_
    refine lv_icmp_lt (tgt := 10) hx hb dX1_settle_6 (by decide) (fun h => ?_) (fun h => ?_)
    · have hf := if_t h hf
      refine lv_aload_n hx hb dX1_settle_10 rfl (lv_at hl 0 rfl) ?_
      refine x_get hx hb hts hi1 hown hK hW (c16 E) (e16 _ _ _ _ _ _) rfl 2 (Nat.le_of_ble_eq_true rfl) q0 (fun _ h => h) (v := .ref (B 18 0)) rfl dX1_settle_11 ?_
      refine lv_iload_n hx hb dX1_settle_14 rfl (lv_at hl 1 rfl) ?_
      refine lv_iconst (v := 1) hx hb dX1_settle_15 rfl ?_
      refine lv_iadd hx hb dX1_settle_16 ?_
      refine lv_aload_n hx hb dX1_settle_17 rfl (lv_at hl 0 rfl) ?_
      refine x_get hx hb hts hi1 hown hK hW (c16 E) (e16 _ _ _ _ _ _) rfl 2 (Nat.le_of_ble_eq_true rfl) q0 (fun _ h => h) (v := .ref (B 18 0)) rfl dX1_settle_18 ?_
      refine lv_iload_n hx hb dX1_settle_21 rfl (lv_at hl 1 rfl) ?_
      obtain ⟨hi_3, hf⟩ := ck_out hf
      have hi_3 := ib_in hi_3
      refine x_iald hx hb hK hW (c18 E) (e18 _ _ _ _ _ _) hi_3 (jn := a1.toNatClampNeg) rfl dX1_settle_22 ?_
      refine lv_iload_n hx hb dX1_settle_23 rfl (lv_at hl 2 rfl) ?_
      refine lv_iadd hx hb dX1_settle_24 ?_
      obtain ⟨r4, hc, hf⟩ := bd_out hf
      refine y_i (va_runSN (As := [.int ((gI S 18 0 a1.toNatClampNeg) + a2)]) (rest := [.int (a1 + (1 : Int32)), .ref (B 18 0)]) hfix (m_X6_held l G B E S ((gI S 18 0 a1.toNatClampNeg) + a2) r4 hc) ⟨va_cnB 1 hts gX1_settle_X6_held_n84 rfl rfl rfl (NW.m hF.2.1 14 (q := ("MovesUp$Course", 84, "MovesUp", "held", "(I)I", "MovesUp")) rfl) q1 hd_X6_held ⟨Nat.le_of_ble_eq_true rfl, Nat.le_of_ble_eq_true rfl⟩, q2, trivial⟩ (y_ps hF hW hS) rfl rfl hl.1 rfl (lv_room (Nat.le_of_ble_eq_true rfl)) dX1_settle_25 ⟨Nat.le_of_ble_eq_true rfl, Nat.le_of_ble_eq_true rfl⟩) hS (fun H locs hW hS => ?_)
      obtain ⟨hi_5, hf⟩ := ck_out hf
      have hi_5 := ib_in hi_5
      obtain ⟨S6, e_S6, hf⟩ := lt_out hf
      refine x_iast hx hb hK hW hS (c18 E) (fun f r => e18 _ _ _ f _ r) hi_5 (jn := (a1 + (1 : Int32)).toNatClampNeg) rfl e_S6 dX1_settle_28 (fun H locs hW hS => ?_)
      refine lv_aload_n hx hb dX1_settle_29 rfl (lv_at hl 0 rfl) ?_
      refine x_get hx hb hts hi1 hown hK hW (c16 E) (e16 _ _ _ _ _ _) rfl 3 (Nat.le_of_ble_eq_true rfl) q3 (fun _ h => h) (v := .ref (B 19 0)) rfl dX1_settle_30 ?_
      refine lv_iload_n hx hb dX1_settle_33 rfl (lv_at hl 1 rfl) ?_
      refine lv_iconst (v := 1) hx hb dX1_settle_34 rfl ?_
      refine lv_iadd hx hb dX1_settle_35 ?_
      refine lv_aload_n hx hb dX1_settle_36 rfl (lv_at hl 0 rfl) ?_
      refine x_get hx hb hts hi1 hown hK hW (c16 E) (e16 _ _ _ _ _ _) rfl 3 (Nat.le_of_ble_eq_true rfl) q3 (fun _ h => h) (v := .ref (B 19 0)) rfl dX1_settle_37 ?_
      refine lv_iload_n hx hb dX1_settle_40 rfl (lv_at hl 1 rfl) ?_
      refine x_iald hx hb hK hW (c19 E) (e19 _ _ _ _ _ _) hi_3 (jn := a1.toNatClampNeg) rfl dX1_settle_41 ?_
      refine lv_aload_n hx hb dX1_settle_42 rfl (lv_at hl 0 rfl) ?_
      refine x_get hx hb hts hi1 hown hK hW (c16 E) (e16 _ _ _ _ _ _) rfl 2 (Nat.le_of_ble_eq_true rfl) q0 (fun _ h => h) (v := .ref (B 18 0)) rfl dX1_settle_43 ?_
      refine lv_iload_n hx hb dX1_settle_46 rfl (lv_at hl 1 rfl) ?_
      refine lv_iconst (v := 1) hx hb dX1_settle_47 rfl ?_
      refine lv_iadd hx hb dX1_settle_48 ?_
      refine x_iald hx hb hK hW (c18 E) (e18 _ _ _ _ _ _) hi_5 (jn := (a1 + (1 : Int32)).toNatClampNeg) rfl dX1_settle_49 ?_
      refine lv_aload_n hx hb dX1_settle_50 rfl (lv_at hl 0 rfl) ?_
      refine x_get hx hb hts hi1 hown hK hW (c16 E) (e16 _ _ _ _ _ _) rfl 2 (Nat.le_of_ble_eq_true rfl) q0 (fun _ h => h) (v := .ref (B 18 0)) rfl dX1_settle_51 ?_
      refine lv_iload_n hx hb dX1_settle_54 rfl (lv_at hl 1 rfl) ?_
      refine x_iald hx hb hK hW (c18 E) (e18 _ _ _ _ _ _) hi_3 (jn := a1.toNatClampNeg) rfl dX1_settle_55 ?_
      refine lv_icmp_ne (tgt := 63) hx hb dX1_settle_56 (by decide) (fun h => ?_) (fun h => ?_)
      · have hf := if_f h hf
        refine lv_iconst (v := 1) hx hb dX1_settle_63 rfl ?_
        exact w64 S6 (1 : Int32) (gI S6 19 0 a1.toNatClampNeg) (a1 + (1 : Int32))  hf _ _ _ hW hS (lv_sub hl [] rfl)
      · have hf := if_t h hf
        refine lv_iconst (v := 0) hx hb dX1_settle_59 rfl ?_
        refine lv_goto (tgt := 64) hx hb dX1_settle_60 (by decide) ?_
        exact w64 S6 (0 : Int32) (gI S6 19 0 a1.toNatClampNeg) (a1 + (1 : Int32))  hf _ _ _ hW hS (lv_sub hl [] rfl)
    · have hf := if_f h hf
      exact z_v hf hx hb hr hF hW hS dX1_settle_9 hlocks
set_option maxHeartbeats 4000000 in
set_option maxRecDepth 100000 in
theorem m_X1_bounded (l : Launch) (G : GE) (B : Nat → Nat → Nat) (E : EN)  (S : ST) (a1 : Int32) (rr : Int32) (hf : f_X1_bounded E S a1 = some rr) : Met l yX1_bounded wsX1_bounded (rmN 1) (va_Pc [.int a1] (WS G B E S)) (QI G B E S rr) 0 0 (AA G) := by
  refine Met.ofW (cc := cX1_bounded) (maxL := 1) (ret := (some .int)) (by decide) rfl ?_
  intro p e s m args below meth c s₁ B0 hml hv
  obtain ⟨rfl, hW, hF⟩ := hv
  have hx := B0.exec
  have hb := B0.bytes
  have hr := B0.returns
  have hts := atoms_spec (ws := wsX1_bounded) B0.pre
  have hown : s.vm.findClass RX1 = some m.cls := findClass_of_methodNamed B0.named
  have hlocks := B0.notSynchronized
  have hK := hF.1
  have hfix : CallFix p m c cX1_bounded 1 s [.int a1].toArray wsX1_bounded RX1 := ⟨hx, hb, hml, hown, hts⟩
  have hS : va_S (AA G) s.heap s.heap [] := va_S.rf
  have hl := lv_entry [.int a1] (n := 1) (Nat.le_of_ble_eq_true rfl)
  rw [lg_entry_eq]
  generalize (lg_sl [.int a1] ++ List.replicate (1 - (lg_sl [.int a1]).length) Slot.unset).toArray = ls at hl ⊢
  have hl : lv_has ls 1 [(0, .int a1)] := hl
  have q0 := hts (.methodLink RX1 51 Lib.Math.min.name) (List.mem_of_getElem? (i := 1) rfl)
  have q1 := hts (.static Lib.Math.min.name) (List.mem_of_getElem? (i := 2) rfl)
  have q2 := hts (.initialized "java/lang/Math") (List.mem_of_getElem? (i := 3) rfl)
  have q3 := hts (.code Lib.Math.min.name Lib.Math.min.code 2 (some .int)) (List.mem_of_getElem? (i := 4) rfl)
  have q4 := hts (.methodLink RX1 57 Lib.Math.max.name) (List.mem_of_getElem? (i := 5) rfl)
  have q5 := hts (.static Lib.Math.max.name) (List.mem_of_getElem? (i := 6) rfl)
  have q6 := hts (.code Lib.Math.max.name Lib.Math.max.code 2 (some .int)) (List.mem_of_getElem? (i := 7) rfl)
  unfold f_X1_bounded at hf
  refine lv_iconst (v := 0) hx hb dX1_bounded_0 rfl ?_
  refine lv_iconst (v := 5) hx hb dX1_bounded_1 rfl ?_
  refine lv_iload_n hx hb dX1_bounded_2 rfl (lv_at hl 0 rfl) ?_
  refine va_mmin hx hb (hml.trans hl.1.symm) hown q0 q1 q2 q3 (Nat.le_of_ble_eq_true rfl) (Nat.le_of_ble_eq_true rfl) (Nat.le_of_ble_eq_true rfl) (Nat.le_of_ble_eq_true rfl) dX1_bounded_3 ?_
  refine va_mmax hx hb (hml.trans hl.1.symm) hown q4 q5 q2 q6 (Nat.le_of_ble_eq_true rfl) (Nat.le_of_ble_eq_true rfl) (Nat.le_of_ble_eq_true rfl) (Nat.le_of_ble_eq_true rfl) dX1_bounded_6 ?_
  exact zr_i hf hx hb hr rfl hF hW hS dX1_bounded_9 hlocks
set_option maxHeartbeats 4000000 in
set_option maxRecDepth 100000 in
theorem m_X1_from (l : Launch) (G : GE) (B : Nat → Nat → Nat) (E : EN)  (S : ST) (a1 : Int32) (a2 : Int32) (rr : Int64) (hf : f_X1_from E S a1 a2 = some rr) : Met l yX1_from wsX1_from (rmN 2) (va_Pc [.ref (B 16 0), .int a1, .int a2] (WS G B E S)) (QL G B E S rr) 0 0 (AA G) := by
  refine Met.ofW (cc := cX1_from) (maxL := 7) (ret := (some .long)) (by decide) rfl ?_
  intro p e s m args below meth c s₁ B0 hml hv
  obtain ⟨rfl, hW, hF⟩ := hv
  have hx := B0.exec
  have hb := B0.bytes
  have hr := B0.returns
  have hts := atoms_spec (ws := wsX1_from) B0.pre
  have hown : s.vm.findClass RX1 = some m.cls := findClass_of_methodNamed B0.named
  have hlocks := B0.notSynchronized
  have hK := hF.1
  have hfix : CallFix p m c cX1_from 7 s [.ref (B 16 0), .int a1, .int a2].toArray wsX1_from RX1 := ⟨hx, hb, hml, hown, hts⟩
  have hS : va_S (AA G) s.heap s.heap [] := va_S.rf
  have hl := lv_entry [.ref (B 16 0), .int a1, .int a2] (n := 7) (Nat.le_of_ble_eq_true rfl)
  rw [lg_entry_eq]
  generalize (lg_sl [.ref (B 16 0), .int a1, .int a2] ++ List.replicate (7 - (lg_sl [.ref (B 16 0), .int a1, .int a2]).length) Slot.unset).toArray = ls at hl ⊢
  have hl : lv_has ls 7 [(0, .ref (B 16 0)), (1, .int a1), (2, .int a2)] := hl
  have q0 := hts (.fieldLink RX1 11 "MovesUp$Course" "weights" "[[J") (List.mem_of_getElem? (i := 1) rfl)
  have q1 := hts (.methodLink RX1 57 Lib.Math.max.name) (List.mem_of_getElem? (i := 2) rfl)
  have q2 := hts (.static Lib.Math.max.name) (List.mem_of_getElem? (i := 3) rfl)
  have q3 := hts (.initialized "java/lang/Math") (List.mem_of_getElem? (i := 4) rfl)
  have q4 := hts (.code Lib.Math.max.name Lib.Math.max.code 2 (some .int)) (List.mem_of_getElem? (i := 5) rfl)
  have hi1 : ∀ w ∈ u_ws RX1 TX1 7, w ∈ wsX1_from := in_seg 13 rfl
  have w20 : ∀ (n20 : Nat) (_ : Unit) (v3 : Nat) (v4 : Int64) (v6 : Int32) (h_v3 : v3 < cnt E 28), f_X1_from_b20 E n20 S v3 v4 v6 = some rr → ∀ (H : Heap) (locs : List Loc) (ls : Array Slot), WH G B E S H → va_S (AA G) s.heap H locs → lv_has ls 7 [(3, .ref (B 28 v3)), (4, .long v4), (6, .int v6)] → W p l e (headSpec wsX1_from (rmN 2)).room s m [.ref (B 16 0), .int a1, .int a2].toArray below meth c H locs 0 0 (MQ below (QL G B E S rr) [.ref (B 16 0), .int a1, .int a2].toArray s 0 0 (AA G)) (F0 m 20 ls []) := by
    intro n20
    induction n20 with
    | zero =>
      intro _ v3 v4 v6 h_v3 hf
      exact absurd (show (none : Option Int64) = some rr from hf) (fun h => by cases h)
    | succ n20 ih20 =>
      intro _ v3 v4 v6 h_v3 hf H locs ls hW hS hl
      have hf : g_X1_from_b20 E (f_X1_from_b20 E n20) S v3 v4 v6 = some rr := hf
      unfold g_X1_from_b20 at hf
      refine lv_iload hx hb dX1_from_20 (lv_at hl 2 rfl) ?_
      refine lv_iconst (v := 5) hx hb dX1_from_22 rfl ?_
      refine lv_icmp_ge (tgt := 41) hx hb dX1_from_23 (by decide) (fun h => ?_) (fun h => ?_)
      · have hf := if_t h hf
        refine lv_lload hx hb dX1_from_41 (lv_at hl 1 rfl) ?_
        exact zr_l hf hx hb hr hF hW hS dX1_from_43 hlocks
      · have hf := if_f h hf
        refine lv_lload hx hb dX1_from_26 (lv_at hl 1 rfl) ?_
        refine lv_aload_n hx hb dX1_from_28 rfl (lv_at hl 0 rfl) ?_
        refine lv_iload hx hb dX1_from_29 (lv_at hl 2 rfl) ?_
        obtain ⟨hi_1, hf⟩ := ck_out hf
        have hi_1 := ib_in hi_1
        refine x_lald hx hb hK hW (h_v3) (e28 _ _ _ _ _ _) hi_1 (jn := v6.toNatClampNeg) rfl dX1_from_31 ?_
        refine lv_ladd hx hb dX1_from_32 ?_
        obtain ⟨x2, e_x2, hf⟩ := lt_out hf
        refine x_nmL e_x2 ?_
        refine lv_lstore (lv' := [(4, .long x2), (3, .ref (B 28 v3)), (6, .int v6)]) hx hb dX1_from_33 hl (by decide) rfl (fun ls hl => ?_)
        obtain ⟨x3, e_x3, hf⟩ := lt_out hf
        refine lv_iinc (v := x3) (lv' := [(6, .int x3), (4, .long x2), (3, .ref (B 28 v3))]) hx hb dX1_from_35 hl (k := 2) rfl (by rw [e_x3]; rfl) (by decide) rfl (fun ls hl => ?_)
        refine lv_goto (tgt := 20) hx hb dX1_from_38 (by decide) ?_
        exact ih20 () v3 x2 x3 (h_v3) hf _ _ _ hW hS (lv_sub hl [2, 1, 0] rfl)
  unfold f_X1_from at hf
  refine lv_aload_n hx hb dX1_from_0 rfl (lv_at hl 0 rfl) ?_
  refine x_get hx hb hts hi1 hown hK hW (c16 E) (e16 _ _ _ _ _ _) rfl 1 (Nat.le_of_ble_eq_true rfl) q0 (fun _ h => h) (v := .ref (B 17 0)) rfl dX1_from_1 ?_
  refine lv_iload_n hx hb dX1_from_4 rfl (lv_at hl 2 rfl) ?_
  obtain ⟨r4, hc, hf⟩ := bd_out hf
  refine y_i (va_runS (As := [.int a2]) (rest := [.ref (B 17 0)]) hfix (m_X1_bounded l G B E S a2 r4 hc) (va_cwS 1 hts gX1_from_X1_bounded rfl rfl rfl hd_X1_bounded ⟨Nat.le_of_ble_eq_true rfl, Nat.le_of_ble_eq_true rfl⟩) (y_ps hF hW hS) rfl rfl hl.1 rfl (lv_room (Nat.le_of_ble_eq_true rfl)) dX1_from_5 ⟨Nat.le_of_ble_eq_true rfl, Nat.le_of_ble_eq_true rfl⟩) hS (fun H locs hW hS => ?_)
  obtain ⟨hi_5, hf⟩ := ck_out hf
  have hi_5 := ib_in hi_5
  refine x_aaldF hx hb hK hW (c17 E) (t := 7) rfl rfl (e17 _ _ _ _ _ _) hi_5 (jn := r4.toNatClampNeg) rfl dX1_from_8 ?_
  refine lv_astore_n (lv' := [(3, .ref (B 28 r4.toNatClampNeg)), (0, .ref (B 16 0)), (1, .int a1), (2, .int a2)]) hx hb dX1_from_9 rfl hl (by decide) rfl (fun ls hl => ?_)
  refine lv_lconst (v := 0) hx hb dX1_from_10 rfl ?_
  refine lv_lstore (lv' := [(4, .long (0 : Int64)), (3, .ref (B 28 r4.toNatClampNeg)), (0, .ref (B 16 0)), (1, .int a1), (2, .int a2)]) hx hb dX1_from_11 hl (by decide) rfl (fun ls hl => ?_)
  refine lv_iconst (v := 0) hx hb dX1_from_13 rfl ?_
  refine lv_iload_n hx hb dX1_from_14 rfl (lv_at hl 3 rfl) ?_
  refine va_mmax hx hb (hml.trans hl.1.symm) hown q1 q2 q3 q4 (Nat.le_of_ble_eq_true rfl) (Nat.le_of_ble_eq_true rfl) (Nat.le_of_ble_eq_true rfl) (Nat.le_of_ble_eq_true rfl) dX1_from_15 ?_
  obtain ⟨x6, e_x6, hf⟩ := lt_out hf
  refine x_nmI e_x6 ?_
  refine lv_istore (lv' := [(6, .int x6), (4, .long (0 : Int64)), (3, .ref (B 28 r4.toNatClampNeg)), (0, .ref (B 16 0)), (1, .int a1), (2, .int a2)]) hx hb dX1_from_18 hl (by decide) rfl (fun ls hl => ?_)
  exact w20 E.1 () r4.toNatClampNeg (0 : Int64) x6 (c28 E (vp_lt hi_5)) hf _ _ _ hW hS (lv_sub hl [2, 1, 0] rfl)
set_option maxHeartbeats 4000000 in
set_option maxRecDepth 100000 in
theorem m_X1_sure (l : Launch) (G : GE) (B : Nat → Nat → Nat) (E : EN)  (S : ST) (a1 : Int32) (rr : Int32) (hf : f_X1_sure E S a1 = some rr) : Met l yX1_sure wsX1_sure (rmN 3) (va_Pc [.ref (B 16 0), .int a1] (WS G B E S)) (QI G B E S rr) 0 0 (AA G) := by
  refine Met.ofW (cc := cX1_sure) (maxL := 4) (ret := (some .int)) (by decide) rfl ?_
  intro p e s m args below meth c s₁ B0 hml hv
  obtain ⟨rfl, hW, hF⟩ := hv
  have hx := B0.exec
  have hb := B0.bytes
  have hr := B0.returns
  have hts := atoms_spec (ws := wsX1_sure) B0.pre
  have hown : s.vm.findClass RX1 = some m.cls := findClass_of_methodNamed B0.named
  have hlocks := B0.notSynchronized
  have hK := hF.1
  have hfix : CallFix p m c cX1_sure 4 s [.ref (B 16 0), .int a1].toArray wsX1_sure RX1 := ⟨hx, hb, hml, hown, hts⟩
  have hS : va_S (AA G) s.heap s.heap [] := va_S.rf
  have hl := lv_entry [.ref (B 16 0), .int a1] (n := 4) (Nat.le_of_ble_eq_true rfl)
  rw [lg_entry_eq]
  generalize (lg_sl [.ref (B 16 0), .int a1] ++ List.replicate (4 - (lg_sl [.ref (B 16 0), .int a1]).length) Slot.unset).toArray = ls at hl ⊢
  have hl : lv_has ls 4 [(0, .ref (B 16 0)), (1, .int a1)] := hl
  have q0 := hts (.fieldLink RX1 16 "MovesUp$Course" "classes" "[I") (List.mem_of_getElem? (i := 1) rfl)
  have q1 := hts (.constantLong RX1 82 (10)) (List.mem_of_getElem? (i := 2) rfl)
  have q2 := hts (.fieldLink RX1 27 "MovesUp$Course" "number" "I") (List.mem_of_getElem? (i := 3) rfl)
  have hi1 : ∀ w ∈ u_ws RX1 TX1 7, w ∈ wsX1_sure := in_seg 20 rfl
  unfold f_X1_sure at hf
  refine lv_aload_n hx hb dX1_sure_0 rfl (lv_at hl 0 rfl) ?_
  refine lv_iconst (v := 0) hx hb dX1_sure_1 rfl ?_
  refine lv_iload_n hx hb dX1_sure_2 rfl (lv_at hl 1 rfl) ?_
  refine lv_iconst (v := 1) hx hb dX1_sure_3 rfl ?_
  refine lv_iadd hx hb dX1_sure_4 ?_
  obtain ⟨r1, hc, hf⟩ := bd_out hf
  refine y_l (va_runV (As := [.int (0 : Int32), .int (a1 + (1 : Int32))]) (rest := []) hfix (m_X1_from l G B E S (0 : Int32) (a1 + (1 : Int32)) r1 hc) (cwV 2 hts gX1_sure_X1_from rfl rfl rfl ⟨rfl, hd_X1_from⟩ ⟨Nat.le_of_ble_eq_true rfl, Nat.le_of_ble_eq_true rfl⟩) (y_pv hF hW hS (c16 E) (e16 _ _ _ _ _ _) rfl) rfl rfl hl.1 rfl (lv_room (Nat.le_of_ble_eq_true rfl)) dX1_sure_5 ⟨Nat.le_of_ble_eq_true rfl, Nat.le_of_ble_eq_true rfl⟩) hS (fun H locs hW hS => ?_)
  refine lv_lstore_n (lv' := [(2, .long r1), (0, .ref (B 16 0)), (1, .int a1)]) hx hb dX1_sure_8 rfl hl (by decide) rfl (fun ls hl => ?_)
  refine lv_lload_n hx hb dX1_sure_9 rfl (lv_at hl 0 rfl) ?_
  refine lv_lconst (v := 0) hx hb dX1_sure_10 rfl ?_
  refine W.lcmp hx hb dX1_sure_11 ?_
  refine lv_if_le (tgt := 50) hx hb dX1_sure_12 (by decide) (fun h => ?_) (fun h => ?_)
  · have h := (lg_cmp_le _ _).mp h
    have hf := if_t h hf
    refine lv_iconst (v := 0) hx hb dX1_sure_50 rfl ?_
    exact zr_i hf hx hb hr rfl hF hW hS dX1_sure_51 hlocks
  · have h := fun q => h ((lg_cmp_le _ _).mpr q)
    have hf := if_f h hf
    refine lv_aload_n hx hb dX1_sure_15 rfl (lv_at hl 1 rfl) ?_
    refine lv_aload_n hx hb dX1_sure_16 rfl (lv_at hl 1 rfl) ?_
    refine x_get hx hb hts hi1 hown hK hW (c16 E) (e16 _ _ _ _ _ _) rfl 2 (Nat.le_of_ble_eq_true rfl) q0 (fun _ h => h) (v := .ref (B 18 0)) rfl dX1_sure_17 ?_
    refine lv_iload_n hx hb dX1_sure_20 rfl (lv_at hl 2 rfl) ?_
    obtain ⟨r2, hc, hf⟩ := bd_out hf
    refine y_i (va_runS (As := [.int a1]) (rest := [.ref (B 18 0), .ref (B 16 0)]) hfix (m_X1_bounded l G B E S a1 r2 hc) (va_cwS 1 hts gX1_sure_X1_bounded rfl rfl rfl hd_X1_bounded ⟨Nat.le_of_ble_eq_true rfl, Nat.le_of_ble_eq_true rfl⟩) (y_ps hF hW hS) rfl rfl hl.1 rfl (lv_room (Nat.le_of_ble_eq_true rfl)) dX1_sure_21 ⟨Nat.le_of_ble_eq_true rfl, Nat.le_of_ble_eq_true rfl⟩) hS (fun H locs hW hS => ?_)
    obtain ⟨hi_3, hf⟩ := ck_out hf
    have hi_3 := ib_in hi_3
    refine x_iald hx hb hK hW (c18 E) (e18 _ _ _ _ _ _) hi_3 (jn := r2.toNatClampNeg) rfl dX1_sure_24 ?_
    refine lv_iload_n hx hb dX1_sure_25 rfl (lv_at hl 2 rfl) ?_
    refine lv_iconst (v := 1) hx hb dX1_sure_26 rfl ?_
    refine lv_iadd hx hb dX1_sure_27 ?_
    obtain ⟨r4, hc, hf⟩ := bd_out hf
    refine y_l (va_runV (As := [.int (gI S 18 0 r2.toNatClampNeg), .int (a1 + (1 : Int32))]) (rest := []) hfix (m_X1_from l G B E S (gI S 18 0 r2.toNatClampNeg) (a1 + (1 : Int32)) r4 hc) (cwV 2 hts gX1_sure_X1_from rfl rfl rfl ⟨rfl, hd_X1_from⟩ ⟨Nat.le_of_ble_eq_true rfl, Nat.le_of_ble_eq_true rfl⟩) (y_pv hF hW hS (c16 E) (e16 _ _ _ _ _ _) rfl) rfl rfl hl.1 rfl (lv_room (Nat.le_of_ble_eq_true rfl)) dX1_sure_28 ⟨Nat.le_of_ble_eq_true rfl, Nat.le_of_ble_eq_true rfl⟩) hS (fun H locs hW hS => ?_)
    refine lv_ldc2 hx hb hown q1 dX1_sure_31 ?_
    refine lv_lmul hx hb dX1_sure_34 ?_
    refine lv_aload_n hx hb dX1_sure_35 rfl (lv_at hl 1 rfl) ?_
    refine x_get hx hb hts hi1 hown hK hW (c16 E) (e16 _ _ _ _ _ _) rfl 5 (Nat.le_of_ble_eq_true rfl) q2 (fun _ h => h) (v := .int (gI S 16 0 5)) rfl dX1_sure_36 ?_
    refine lv_i2l hx hb dX1_sure_39 rfl ?_
    refine lv_lload_n hx hb dX1_sure_40 rfl (lv_at hl 0 rfl) ?_
    refine lv_lmul hx hb dX1_sure_41 ?_
    refine W.lcmp hx hb dX1_sure_42 ?_
    refine lv_if_lt (tgt := 50) hx hb dX1_sure_43 (by decide) (fun h => ?_) (fun h => ?_)
    · have h := (lg_cmp_lt _ _).mp h
      have hf := if_t h hf
      refine lv_iconst (v := 0) hx hb dX1_sure_50 rfl ?_
      exact zr_i hf hx hb hr rfl hF hW hS dX1_sure_51 hlocks
    · have h := fun q => h ((lg_cmp_lt _ _).mpr q)
      have hf := if_f h hf
      refine lv_iconst (v := 1) hx hb dX1_sure_46 rfl ?_
      refine lv_goto (tgt := 51) hx hb dX1_sure_47 (by decide) ?_
      exact zr_i hf hx hb hr rfl hF hW hS dX1_sure_51 hlocks
set_option maxHeartbeats 4000000 in
set_option maxRecDepth 100000 in
theorem m_X1_twice (l : Launch) (G : GE) (B : Nat → Nat → Nat) (E : EN)  (S : ST) (a1 : Int32) (rr : Int32) (hf : f_X1_twice E S a1 = some rr) : Met l yX1_twice wsX1_twice (rmN 1) (va_Pc [.ref (B 16 0), .int a1] (WS G B E S)) (QI G B E S rr) 0 0 (AA G) := by
  refine Met.ofW (cc := cX1_twice) (maxL := 2) (ret := (some .int)) (by decide) rfl ?_
  intro p e s m args below meth c s₁ B0 hml hv
  obtain ⟨rfl, hW, hF⟩ := hv
  have hx := B0.exec
  have hb := B0.bytes
  have hr := B0.returns
  have hts := atoms_spec (ws := wsX1_twice) B0.pre
  have hown : s.vm.findClass RX1 = some m.cls := findClass_of_methodNamed B0.named
  have hlocks := B0.notSynchronized
  have hK := hF.1
  have hfix : CallFix p m c cX1_twice 2 s [.ref (B 16 0), .int a1].toArray wsX1_twice RX1 := ⟨hx, hb, hml, hown, hts⟩
  have hS : va_S (AA G) s.heap s.heap [] := va_S.rf
  have hl := lv_entry [.ref (B 16 0), .int a1] (n := 2) (Nat.le_of_ble_eq_true rfl)
  rw [lg_entry_eq]
  generalize (lg_sl [.ref (B 16 0), .int a1] ++ List.replicate (2 - (lg_sl [.ref (B 16 0), .int a1]).length) Slot.unset).toArray = ls at hl ⊢
  have hl : lv_has ls 2 [(0, .ref (B 16 0)), (1, .int a1)] := hl
  have q0 := hts (.fieldLink RX1 30 "MovesUp$Course" "marks" "I") (List.mem_of_getElem? (i := 1) rfl)
  have q1 := hts (.fieldLink RX1 16 "MovesUp$Course" "classes" "[I") (List.mem_of_getElem? (i := 2) rfl)
  have hi1 : ∀ w ∈ u_ws RX1 TX1 7, w ∈ wsX1_twice := in_seg 3 rfl
  unfold f_X1_twice at hf
  refine lv_iload_n hx hb dX1_twice_0 rfl (lv_at hl 1 rfl) ?_
  refine lv_iconst (v := 1) hx hb dX1_twice_1 rfl ?_
  refine lv_icmp_lt (tgt := 24) hx hb dX1_twice_2 (by decide) (fun h => ?_) (fun h => ?_)
  · have hf := if_t h hf
    refine lv_iconst (v := 0) hx hb dX1_twice_24 rfl ?_
    exact zr_i hf hx hb hr rfl hF hW hS dX1_twice_25 hlocks
  · have hf := if_f h hf
    refine lv_iload_n hx hb dX1_twice_5 rfl (lv_at hl 1 rfl) ?_
    refine lv_iconst (v := 5) hx hb dX1_twice_6 rfl ?_
    refine lv_icmp_ge (tgt := 24) hx hb dX1_twice_7 (by decide) (fun h => ?_) (fun h => ?_)
    · have hf := if_t h hf
      refine lv_iconst (v := 0) hx hb dX1_twice_24 rfl ?_
      exact zr_i hf hx hb hr rfl hF hW hS dX1_twice_25 hlocks
    · have hf := if_f h hf
      refine lv_aload_n hx hb dX1_twice_10 rfl (lv_at hl 0 rfl) ?_
      refine x_get hx hb hts hi1 hown hK hW (c16 E) (e16 _ _ _ _ _ _) rfl 6 (Nat.le_of_ble_eq_true rfl) q0 (fun _ h => h) (v := .int (gI S 16 0 6)) rfl dX1_twice_11 ?_
      refine lv_iload_n hx hb dX1_twice_14 rfl (lv_at hl 1 rfl) ?_
      refine lv_iconst (v := 1) hx hb dX1_twice_15 rfl ?_
      refine lv_isub hx hb dX1_twice_16 ?_
      refine lv_ishr hx hb dX1_twice_17 ?_
      refine lv_iconst (v := 3) hx hb dX1_twice_18 rfl ?_
      refine lv_iand hx hb dX1_twice_19 ?_
      refine lv_iconst (v := 3) hx hb dX1_twice_20 rfl ?_
      refine lv_icmp_eq (tgt := 26) hx hb dX1_twice_21 (by decide) (fun h => ?_) (fun h => ?_)
      · have hf := if_t h hf
        refine lv_aload_n hx hb dX1_twice_26 rfl (lv_at hl 0 rfl) ?_
        refine x_get hx hb hts hi1 hown hK hW (c16 E) (e16 _ _ _ _ _ _) rfl 2 (Nat.le_of_ble_eq_true rfl) q1 (fun _ h => h) (v := .ref (B 18 0)) rfl dX1_twice_27 ?_
        refine lv_iload_n hx hb dX1_twice_30 rfl (lv_at hl 1 rfl) ?_
        obtain ⟨hi_1, hf⟩ := ck_out hf
        have hi_1 := ib_in hi_1
        refine x_iald hx hb hK hW (c18 E) (e18 _ _ _ _ _ _) hi_1 (jn := a1.toNatClampNeg) rfl dX1_twice_31 ?_
        refine lv_aload_n hx hb dX1_twice_32 rfl (lv_at hl 0 rfl) ?_
        refine x_get hx hb hts hi1 hown hK hW (c16 E) (e16 _ _ _ _ _ _) rfl 2 (Nat.le_of_ble_eq_true rfl) q1 (fun _ h => h) (v := .ref (B 18 0)) rfl dX1_twice_33 ?_
        refine lv_iload_n hx hb dX1_twice_36 rfl (lv_at hl 1 rfl) ?_
        refine lv_iconst (v := 1) hx hb dX1_twice_37 rfl ?_
        refine lv_isub hx hb dX1_twice_38 ?_
        obtain ⟨hi_2, hf⟩ := ck_out hf
        have hi_2 := ib_in hi_2
        refine x_iald hx hb hK hW (c18 E) (e18 _ _ _ _ _ _) hi_2 (jn := (a1 - (1 : Int32)).toNatClampNeg) rfl dX1_twice_39 ?_
        refine lv_icmp_ne (tgt := 47) hx hb dX1_twice_40 (by decide) (fun h => ?_) (fun h => ?_)
        · have hf := if_f h hf
          refine lv_iconst (v := 0) hx hb dX1_twice_47 rfl ?_
          exact zr_i hf hx hb hr rfl hF hW hS dX1_twice_48 hlocks
        · have hf := if_t h hf
          refine lv_iconst (v := 1) hx hb dX1_twice_43 rfl ?_
          refine lv_goto (tgt := 48) hx hb dX1_twice_44 (by decide) ?_
          exact zr_i hf hx hb hr rfl hF hW hS dX1_twice_48 hlocks
      · have hf := if_f h hf
        refine lv_iconst (v := 0) hx hb dX1_twice_24 rfl ?_
        exact zr_i hf hx hb hr rfl hF hW hS dX1_twice_25 hlocks
