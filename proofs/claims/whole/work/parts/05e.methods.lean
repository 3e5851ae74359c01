set_option maxHeartbeats 4000000 in
set_option maxRecDepth 100000 in
theorem m_X6_moves (l : Launch) (G : GE) (B : Nat → Nat → Nat) (E : EN)  (S : ST) (a1 : Int32) (a2 : Int32) (a3 : Int32) (rr : Int32) (SS : ST) (hf : f_X6_moves E S a1 a2 a3 = some (rr, SS)) : Met l yX6_moves wsX6_moves (rmN 7) (va_Pc [.ref (B 2 0), .int a1, .int a2, .int a3] (WS G B E S)) (QI G B E SS rr) 0 0 (AA G) := by
  refine Met.ofW (cc := cX6_moves) (maxL := 6) (ret := (some .int)) (by decide) rfl ?_
  intro p e s m args below meth c s₁ B0 hml hv
  obtain ⟨rfl, hW, hF⟩ := hv
  have hx := B0.exec
  have hb := B0.bytes
  have hr := B0.returns
  have hts := atoms_spec (ws := wsX6_moves) B0.pre
  have hown : s.vm.findClass RX6 = some m.cls := findClass_of_methodNamed B0.named
  have hlocks := B0.notSynchronized
  have hK := hF.1
  have hfix : CallFix p m c cX6_moves 6 s [.ref (B 2 0), .int a1, .int a2, .int a3].toArray wsX6_moves RX6 := ⟨hx, hb, hml, hown, hts⟩
  have hS : va_S (AA G) s.heap s.heap [] := va_S.rf
  have hl := lv_entry [.ref (B 2 0), .int a1, .int a2, .int a3] (n := 6) (Nat.le_of_ble_eq_true rfl)
  rw [lg_entry_eq]
  generalize (lg_sl [.ref (B 2 0), .int a1, .int a2, .int a3] ++ List.replicate (6 - (lg_sl [.ref (B 2 0), .int a1, .int a2, .int a3]).length) Slot.unset).toArray = ls at hl ⊢
  have hl : lv_has ls 6 [(0, .ref (B 2 0)), (1, .int a1), (2, .int a2), (3, .int a3)] := hl
  have q0 := hts (.fieldLink RX6 65 "MovesUp" "course" "LMovesUp$Course;") (List.mem_of_getElem? (i := 1) rfl)
  have q1 := hts (.initialized RX1) (List.mem_of_getElem? (i := 36) rfl)
  have q2 := hts (.instanceMethod yX1_wish) (List.mem_of_getElem? (i := 74) rfl)
  have q3 := hts (.selects RX1 yX1_wish yX1_wish) (List.mem_of_getElem? (i := 75) rfl)
  have q4 := hts (.instanceMethod yX1_movedThen) (List.mem_of_getElem? (i := 114) rfl)
  have q5 := hts (.selects RX1 yX1_movedThen yX1_movedThen) (List.mem_of_getElem? (i := 115) rfl)
  have q6 := hts (.instanceMethod yX1_classThen) (List.mem_of_getElem? (i := 111) rfl)
  have q7 := hts (.selects RX1 yX1_classThen yX1_classThen) (List.mem_of_getElem? (i := 112) rfl)
  have hi6 : ∀ w ∈ u_ws RX6 TX6 15, w ∈ wsX6_moves := in_seg 117 rfl
  unfold f_X6_moves at hf
  refine lv_aload_n hx hb dX6_moves_0 rfl (lv_at hl 0 rfl) ?_
  refine lv_iload_n hx hb dX6_moves_1 rfl (lv_at hl 1 rfl) ?_
  obtain ⟨r1, hc, hf⟩ := bd_out hf
  refine y_q (va_runV (As := [.int a1]) (rest := []) hfix (m_X6_known l G B E S a1 r1 hc) (cwV 1 hts gX6_moves_X6_known rfl rfl rfl ⟨rfl, hd_X6_known⟩ ⟨Nat.le_of_ble_eq_true rfl, Nat.le_of_ble_eq_true rfl⟩) (y_pv hF hW hS (c2 E) (e2 _ _ _ _ _ _) rfl) rfl rfl hl.1 rfl (lv_room (Nat.le_of_ble_eq_true rfl)) dX6_moves_2 ⟨Nat.le_of_ble_eq_true rfl, Nat.le_of_ble_eq_true rfl⟩) hS (fun H locs hW hS => ?_)
  rcases r1 with _ | k2
  · have hf := nl_n hf
    refine lv_astoreN (lv' := [(4, .null), (0, .ref (B 2 0)), (1, .int a1), (2, .int a2), (3, .int a3)]) hx hb dX6_moves_5 hl (by decide) rfl (fun ls hl => ?_)
    refine lv_aloadN hx hb dX6_moves_7 (lv_at hl 0 rfl) ?_
    refine lv_ifnullN (tgt := 28) hx hb dX6_moves_9 (by decide) ?_
    refine lv_bipush (v := -5) hx hb dX6_moves_28 (by decide) ?_
    exact z_i hf hx hb hr rfl hF hW hS dX6_moves_30 hlocks
  · have hf := nl_s hf
    obtain ⟨hk3, hf⟩ := ck_out hf
    have hk3 := of_decide_eq_true hk3
    refine lv_astore (lv' := [(4, .ref (B 20 k2)), (0, .ref (B 2 0)), (1, .int a1), (2, .int a2), (3, .int a3)]) hx hb dX6_moves_5 hl (by decide) rfl (fun ls hl => ?_)
    refine lv_aload hx hb dX6_moves_7 (lv_at hl 0 rfl) ?_
    refine lv_ifnull hx hb dX6_moves_9 ?_
    refine lv_iload_n hx hb dX6_moves_12 rfl (lv_at hl 3 rfl) ?_
    obtain ⟨r4, hc, hf⟩ := bd_out hf
    refine y_i (va_runS (As := [.int a2]) (rest := []) hfix (m_X6_areMarks l G B E S a2 r4 hc) (va_cwS 1 hts gX6_moves_X6_areMarks rfl rfl rfl hd_X6_areMarks ⟨Nat.le_of_ble_eq_true rfl, Nat.le_of_ble_eq_true rfl⟩) (y_ps hF hW hS) rfl rfl hl.1 rfl (lv_room (Nat.le_of_ble_eq_true rfl)) dX6_moves_13 ⟨Nat.le_of_ble_eq_true rfl, Nat.le_of_ble_eq_true rfl⟩) hS (fun H locs hW hS => ?_)
    refine lv_if_eq (tgt := 28) hx hb dX6_moves_16 (by decide) (fun h => ?_) (fun h => ?_)
    · have hf := if_t h hf
      refine lv_bipush (v := -5) hx hb dX6_moves_28 (by decide) ?_
      exact z_i hf hx hb hr rfl hF hW hS dX6_moves_30 hlocks
    · have hf := if_f h hf
      refine lv_iload_n hx hb dX6_moves_19 rfl (lv_at hl 4 rfl) ?_
      refine lv_if_lt (tgt := 28) hx hb dX6_moves_20 (by decide) (fun h => ?_) (fun h => ?_)
      · have hf := if_t h hf
        refine lv_bipush (v := -5) hx hb dX6_moves_28 (by decide) ?_
        exact z_i hf hx hb hr rfl hF hW hS dX6_moves_30 hlocks
      · have hf := if_f h hf
        refine lv_iload_n hx hb dX6_moves_23 rfl (lv_at hl 4 rfl) ?_
        refine lv_iconst (v := 2) hx hb dX6_moves_24 rfl ?_
        refine lv_icmp_le (tgt := 31) hx hb dX6_moves_25 (by decide) (fun h => ?_) (fun h => ?_)
        · have hf := if_t h hf
          refine lv_aload_n hx hb dX6_moves_31 rfl (lv_at hl 1 rfl) ?_
          refine lv_aload hx hb dX6_moves_32 (lv_at hl 0 rfl) ?_
          refine lv_iload_n hx hb dX6_moves_34 rfl (lv_at hl 3 rfl) ?_
          obtain ⟨S5, hc, hf⟩ := bd_out hf
          refine y_v (va_runV (As := [.ref (B 20 k2), .int a2]) (rest := []) hfix (m_X6_follow l G B E S k2 (c20 hk3) a2 S5 hc) (cwV 2 hts gX6_moves_X6_follow rfl rfl rfl ⟨rfl, hd_X6_follow⟩ ⟨Nat.le_of_ble_eq_true rfl, Nat.le_of_ble_eq_true rfl⟩) (y_pv hF hW hS (c2 E) (e2 _ _ _ _ _ _) rfl) rfl rfl hl.1 rfl (lv_room (Nat.le_of_ble_eq_true rfl)) dX6_moves_35 ⟨Nat.le_of_ble_eq_true rfl, Nat.le_of_ble_eq_true rfl⟩) hS (fun H locs hW hS => ?_)
          refine lv_iload_n hx hb dX6_moves_38 rfl (lv_at hl 3 rfl) ?_
          refine lv_bipush (v := 100) hx hb dX6_moves_39 (by decide) ?_
          refine lv_idiv hx hb dX6_moves_41 (by decide) ?_
          obtain ⟨x6, e_x6, hf⟩ := lt_out hf
          refine x_nmI e_x6 ?_
          refine lv_istore (lv' := [(5, .int x6), (4, .ref (B 20 k2)), (0, .ref (B 2 0)), (1, .int a1), (2, .int a2), (3, .int a3)]) hx hb dX6_moves_42 hl (by decide) rfl (fun ls hl => ?_)
          refine lv_iload_n hx hb dX6_moves_44 rfl (lv_at hl 5 rfl) ?_
          refine lv_if_ne (tgt := 58) hx hb dX6_moves_45 (by decide) (fun h => ?_) (fun h => ?_)
          · have hf := if_f h hf
            refine lv_iload_n hx hb dX6_moves_58 rfl (lv_at hl 5 rfl) ?_
            refine lv_iconst (v := 1) hx hb dX6_moves_59 rfl ?_
            refine lv_icmp_ne (tgt := 75) hx hb dX6_moves_60 (by decide) (fun h => ?_) (fun h => ?_)
            · have hf := if_f h hf
              refine lv_aload_n hx hb dX6_moves_75 rfl (lv_at hl 2 rfl) ?_
              refine x_get hx hb hts hi6 hown hK hW (c2 E) (e2 _ _ _ _ _ _) rfl 10 (Nat.le_of_ble_eq_true rfl) q0 (fun _ h => h) (v := .ref (B 16 0)) rfl dX6_moves_76 ?_
              refine lv_iload hx hb dX6_moves_79 (lv_at hl 0 rfl) ?_
              refine lv_iconst (v := 1) hx hb dX6_moves_81 rfl ?_
              refine lv_isub hx hb dX6_moves_82 ?_
              obtain ⟨r7, hc, hf⟩ := bd_out hf
              refine y_i (va_runVN (As := [.int (x6 - (1 : Int32))]) (rest := []) hfix (m_X1_wish l G B E S5 (x6 - (1 : Int32)) r7 hc) ⟨va_cnB 1 hts gX6_moves_X1_wish_n169 rfl rfl rfl (NW.m hF.2.1 19 (q := ("MovesUp", 169, "MovesUp$Course", "wish", "(I)I", "MovesUp")) rfl) q1 hd_X1_wish ⟨Nat.le_of_ble_eq_true rfl, Nat.le_of_ble_eq_true rfl⟩, q2, q3⟩ (y_pv hF hW hS (c16 E) (e16 _ _ _ _ _ _) rfl) rfl rfl hl.1 rfl (lv_room (Nat.le_of_ble_eq_true rfl)) dX6_moves_83 ⟨Nat.le_of_ble_eq_true rfl, Nat.le_of_ble_eq_true rfl⟩) hS (fun H locs hW hS => ?_)
              exact z_i hf hx hb hr rfl hF hW hS dX6_moves_86 hlocks
            · have hf := if_t h hf
              refine lv_aload_n hx hb dX6_moves_63 rfl (lv_at hl 2 rfl) ?_
              refine x_get hx hb hts hi6 hown hK hW (c2 E) (e2 _ _ _ _ _ _) rfl 10 (Nat.le_of_ble_eq_true rfl) q0 (fun _ h => h) (v := .ref (B 16 0)) rfl dX6_moves_64 ?_
              refine lv_iload hx hb dX6_moves_67 (lv_at hl 0 rfl) ?_
              obtain ⟨r8, hc, hf⟩ := bd_out hf
              refine y_i (va_runVN (As := [.int x6]) (rest := []) hfix (m_X1_movedThen l G B E S5 x6 r8 hc) ⟨va_cnB 1 hts gX6_moves_X1_movedThen_n166 rfl rfl rfl (NW.m hF.2.1 18 (q := ("MovesUp", 166, "MovesUp$Course", "movedThen", "(I)I", "MovesUp")) rfl) q1 hd_X1_movedThen ⟨Nat.le_of_ble_eq_true rfl, Nat.le_of_ble_eq_true rfl⟩, q4, q5⟩ (y_pv hF hW hS (c16 E) (e16 _ _ _ _ _ _) rfl) rfl rfl hl.1 rfl (lv_room (Nat.le_of_ble_eq_true rfl)) dX6_moves_69 ⟨Nat.le_of_ble_eq_true rfl, Nat.le_of_ble_eq_true rfl⟩) hS (fun H locs hW hS => ?_)
              refine lv_goto (tgt := 86) hx hb dX6_moves_72 (by decide) ?_
              exact z_i hf hx hb hr rfl hF hW hS dX6_moves_86 hlocks
          · have hf := if_t h hf
            refine lv_aload_n hx hb dX6_moves_48 rfl (lv_at hl 2 rfl) ?_
            refine x_get hx hb hts hi6 hown hK hW (c2 E) (e2 _ _ _ _ _ _) rfl 10 (Nat.le_of_ble_eq_true rfl) q0 (fun _ h => h) (v := .ref (B 16 0)) rfl dX6_moves_49 ?_
            refine lv_iload hx hb dX6_moves_52 (lv_at hl 0 rfl) ?_
            obtain ⟨r9, hc, hf⟩ := bd_out hf
            refine y_i (va_runVN (As := [.int x6]) (rest := []) hfix (m_X1_classThen l G B E S5 x6 r9 hc) ⟨va_cnB 1 hts gX6_moves_X1_classThen_n163 rfl rfl rfl (NW.m hF.2.1 17 (q := ("MovesUp", 163, "MovesUp$Course", "classThen", "(I)I", "MovesUp")) rfl) q1 hd_X1_classThen ⟨Nat.le_of_ble_eq_true rfl, Nat.le_of_ble_eq_true rfl⟩, q6, q7⟩ (y_pv hF hW hS (c16 E) (e16 _ _ _ _ _ _) rfl) rfl rfl hl.1 rfl (lv_room (Nat.le_of_ble_eq_true rfl)) dX6_moves_54 ⟨Nat.le_of_ble_eq_true rfl, Nat.le_of_ble_eq_true rfl⟩) hS (fun H locs hW hS => ?_)
            exact z_i hf hx hb hr rfl hF hW hS dX6_moves_57 hlocks
        · have hf := if_f h hf
          refine lv_bipush (v := -5) hx hb dX6_moves_28 (by decide) ?_
          exact z_i hf hx hb hr rfl hF hW hS dX6_moves_30 hlocks
set_option maxHeartbeats 4000000 in
set_option maxRecDepth 100000 in
theorem m_X6_grown (l : Launch) (G : GE) (B : Nat → Nat → Nat) (E : EN)  (S : ST) (a1 : Int64) (a2 : Int32) (rr : Int64) (hf : f_X6_grown E S a1 a2 = some rr) : Met l yX6_grown wsX6_grown (rmN 1) (va_Pc [.long a1, .int a2] (WS G B E S)) (QL G B E S rr) 0 0 (AA G) := by
  refine Met.ofW (cc := cX6_grown) (maxL := 6) (ret := (some .long)) (by decide) rfl ?_
  intro p e s m args below meth c s₁ B0 hml hv
  obtain ⟨rfl, hW, hF⟩ := hv
  have hx := B0.exec
  have hb := B0.bytes
  have hr := B0.returns
  have hts := atoms_spec (ws := wsX6_grown) B0.pre
  have hown : s.vm.findClass RX6 = some m.cls := findClass_of_methodNamed B0.named
  have hlocks := B0.notSynchronized
  have hK := hF.1
  have hfix : CallFix p m c cX6_grown 6 s [.long a1, .int a2].toArray wsX6_grown RX6 := ⟨hx, hb, hml, hown, hts⟩
  have hS : va_S (AA G) s.heap s.heap [] := va_S.rf
  have hl := lv_entry [.long a1, .int a2] (n := 6) (Nat.le_of_ble_eq_true rfl)
  rw [lg_entry_eq]
  generalize (lg_sl [.long a1, .int a2] ++ List.replicate (6 - (lg_sl [.long a1, .int a2]).length) Slot.unset).toArray = ls at hl ⊢
  have hl : lv_has ls 6 [(0, .long a1), (2, .int a2)] := hl
  have q0 := hts (.constantLong RX6 289 (100)) (List.mem_of_getElem? (i := 1) rfl)
  have w5 : ∀ (n5 : Nat) (_ : Unit) (v2 : Int32) (v3 : Int64) (v5 : Int32) , f_X6_grown_b5 E n5 S v2 v3 v5 = some rr → ∀ (H : Heap) (locs : List Loc) (ls : Array Slot), WH G B E S H → va_S (AA G) s.heap H locs → lv_has ls 6 [(2, .int v2), (3, .long v3), (5, .int v5)] → W p l e (headSpec wsX6_grown (rmN 1)).room s m [.long a1, .int a2].toArray below meth c H locs 0 0 (MQ below (QL G B E S rr) [.long a1, .int a2].toArray s 0 0 (AA G)) (F0 m 5 ls []) := by
    intro n5
    induction n5 with
    | zero =>
      intro _ v2 v3 v5 hf
      exact absurd (show (none : Option Int64) = some rr from hf) (fun h => by cases h)
    | succ n5 ih5 =>
      intro _ v2 v3 v5 hf H locs ls hW hS hl
      have hf : g_X6_grown_b5 E (f_X6_grown_b5 E n5) S v2 v3 v5 = some rr := hf
      unfold g_X6_grown_b5 at hf
      refine lv_iload hx hb dX6_grown_5 (lv_at hl 2 rfl) ?_
      refine lv_iload_n hx hb dX6_grown_7 rfl (lv_at hl 0 rfl) ?_
      refine lv_icmp_ge (tgt := 29) hx hb dX6_grown_8 (by decide) (fun h => ?_) (fun h => ?_)
      · have hf := if_t h hf
        refine lv_lload_n hx hb dX6_grown_29 rfl (lv_at hl 1 rfl) ?_
        exact zr_l hf hx hb hr hF hW hS dX6_grown_30 hlocks
      · have hf := if_f h hf
        refine lv_iload hx hb dX6_grown_11 (lv_at hl 2 rfl) ?_
        refine lv_iconst (v := 5) hx hb dX6_grown_13 rfl ?_
        refine lv_icmp_ge (tgt := 29) hx hb dX6_grown_14 (by decide) (fun h => ?_) (fun h => ?_)
        · have hf := if_t h hf
          refine lv_lload_n hx hb dX6_grown_29 rfl (lv_at hl 1 rfl) ?_
          exact zr_l hf hx hb hr hF hW hS dX6_grown_30 hlocks
        · have hf := if_f h hf
          refine lv_lload_n hx hb dX6_grown_17 rfl (lv_at hl 1 rfl) ?_
          refine lv_ldc2 hx hb hown q0 dX6_grown_18 ?_
          refine lv_lmul hx hb dX6_grown_21 ?_
          obtain ⟨x1, e_x1, hf⟩ := lt_out hf
          refine x_nmL e_x1 ?_
          refine lv_lstore_n (lv' := [(3, .long x1), (2, .int v2), (5, .int v5)]) hx hb dX6_grown_22 rfl hl (by decide) rfl (fun ls hl => ?_)
          obtain ⟨x2, e_x2, hf⟩ := lt_out hf
          refine lv_iinc (v := x2) (lv' := [(5, .int x2), (3, .long x1), (2, .int v2)]) hx hb dX6_grown_23 hl (k := 2) rfl (by rw [e_x2]; rfl) (by decide) rfl (fun ls hl => ?_)
          refine lv_goto (tgt := 5) hx hb dX6_grown_26 (by decide) ?_
          exact ih5 () v2 x1 x2  hf _ _ _ hW hS (lv_sub hl [2, 1, 0] rfl)
  unfold f_X6_grown at hf
  refine lv_lload_n hx hb dX6_grown_0 rfl (lv_at hl 0 rfl) ?_
  refine lv_lstore_n (lv' := [(3, .long a1), (0, .long a1), (2, .int a2)]) hx hb dX6_grown_1 rfl hl (by decide) rfl (fun ls hl => ?_)
  refine lv_iconst (v := 0) hx hb dX6_grown_2 rfl ?_
  refine lv_istore (lv' := [(5, .int (0 : Int32)), (3, .long a1), (0, .long a1), (2, .int a2)]) hx hb dX6_grown_3 hl (by decide) rfl (fun ls hl => ?_)
  exact w5 E.1 () a2 a1 (0 : Int32)  hf _ _ _ hW hS (lv_sub hl [3, 1, 0] rfl)
set_option maxHeartbeats 4000000 in
set_option maxRecDepth 100000 in
theorem m_X6_likely (l : Launch) (G : GE) (B : Nat → Nat → Nat) (E : EN)  (S : ST) (a1 : Int32) (a2 : Int32) (a3 : Int32) (rr : Int64) (SS : ST) (hf : f_X6_likely E S a1 a2 a3 = some (rr, SS)) : Met l yX6_likely wsX6_likely (rmN 7) (va_Pc [.ref (B 2 0), .int a1, .int a2, .int a3] (WS G B E S)) (QL G B E SS rr) 0 0 (AA G) := by
  refine Met.ofW (cc := cX6_likely) (maxL := 6) (ret := (some .long)) (by decide) rfl ?_
  intro p e s m args below meth c s₁ B0 hml hv
  obtain ⟨rfl, hW, hF⟩ := hv
  have hx := B0.exec
  have hb := B0.bytes
  have hr := B0.returns
  have hts := atoms_spec (ws := wsX6_likely) B0.pre
  have hown : s.vm.findClass RX6 = some m.cls := findClass_of_methodNamed B0.named
  have hlocks := B0.notSynchronized
  have hK := hF.1
  have hfix : CallFix p m c cX6_likely 6 s [.ref (B 2 0), .int a1, .int a2, .int a3].toArray wsX6_likely RX6 := ⟨hx, hb, hml, hown, hts⟩
  have hS : va_S (AA G) s.heap s.heap [] := va_S.rf
  have hl := lv_entry [.ref (B 2 0), .int a1, .int a2, .int a3] (n := 6) (Nat.le_of_ble_eq_true rfl)
  rw [lg_entry_eq]
  generalize (lg_sl [.ref (B 2 0), .int a1, .int a2, .int a3] ++ List.replicate (6 - (lg_sl [.ref (B 2 0), .int a1, .int a2, .int a3]).length) Slot.unset).toArray = ls at hl ⊢
  have hl : lv_has ls 6 [(0, .ref (B 2 0)), (1, .int a1), (2, .int a2), (3, .int a3)] := hl
  have q0 := hts (.constantLong RX6 146 (-4611686018427387904)) (List.mem_of_getElem? (i := 1) rfl)
  have q1 := hts (.fieldLink RX6 65 "MovesUp" "course" "LMovesUp$Course;") (List.mem_of_getElem? (i := 2) rfl)
  have q2 := hts (.initialized RX1) (List.mem_of_getElem? (i := 37) rfl)
  have q3 := hts (.instanceMethod yX1_fit) (List.mem_of_getElem? (i := 128) rfl)
  have q4 := hts (.selects RX1 yX1_fit yX1_fit) (List.mem_of_getElem? (i := 129) rfl)
  have q5 := hts (.instanceMethod yX1_together) (List.mem_of_getElem? (i := 112) rfl)
  have q6 := hts (.selects RX1 yX1_together yX1_together) (List.mem_of_getElem? (i := 113) rfl)
  have hi6 : ∀ w ∈ u_ws RX6 TX6 15, w ∈ wsX6_likely := in_seg 135 rfl
  unfold f_X6_likely at hf
  refine lv_aload_n hx hb dX6_likely_0 rfl (lv_at hl 0 rfl) ?_
  refine lv_iload_n hx hb dX6_likely_1 rfl (lv_at hl 1 rfl) ?_
  obtain ⟨r1, hc, hf⟩ := bd_out hf
  refine y_q (va_runV (As := [.int a1]) (rest := []) hfix (m_X6_known l G B E S a1 r1 hc) (cwV 1 hts gX6_likely_X6_known rfl rfl rfl ⟨rfl, hd_X6_known⟩ ⟨Nat.le_of_ble_eq_true rfl, Nat.le_of_ble_eq_true rfl⟩) (y_pv hF hW hS (c2 E) (e2 _ _ _ _ _ _) rfl) rfl rfl hl.1 rfl (lv_room (Nat.le_of_ble_eq_true rfl)) dX6_likely_2 ⟨Nat.le_of_ble_eq_true rfl, Nat.le_of_ble_eq_true rfl⟩) hS (fun H locs hW hS => ?_)
  rcases r1 with _ | k2
  · have hf := nl_n hf
    refine lv_astoreN (lv' := [(4, .null), (0, .ref (B 2 0)), (1, .int a1), (2, .int a2), (3, .int a3)]) hx hb dX6_likely_5 hl (by decide) rfl (fun ls hl => ?_)
    refine lv_aloadN hx hb dX6_likely_7 (lv_at hl 0 rfl) ?_
    refine lv_ifnullN (tgt := 28) hx hb dX6_likely_9 (by decide) ?_
    refine lv_ldc2 hx hb hown q0 dX6_likely_28 ?_
    exact z_l hf hx hb hr hF hW hS dX6_likely_31 hlocks
  · have hf := nl_s hf
    obtain ⟨hk3, hf⟩ := ck_out hf
    have hk3 := of_decide_eq_true hk3
    refine lv_astore (lv' := [(4, .ref (B 20 k2)), (0, .ref (B 2 0)), (1, .int a1), (2, .int a2), (3, .int a3)]) hx hb dX6_likely_5 hl (by decide) rfl (fun ls hl => ?_)
    refine lv_aload hx hb dX6_likely_7 (lv_at hl 0 rfl) ?_
    refine lv_ifnull hx hb dX6_likely_9 ?_
    refine lv_iload_n hx hb dX6_likely_12 rfl (lv_at hl 3 rfl) ?_
    obtain ⟨r4, hc, hf⟩ := bd_out hf
    refine y_i (va_runS (As := [.int a2]) (rest := []) hfix (m_X6_areMarks l G B E S a2 r4 hc) (va_cwS 1 hts gX6_likely_X6_areMarks rfl rfl rfl hd_X6_areMarks ⟨Nat.le_of_ble_eq_true rfl, Nat.le_of_ble_eq_true rfl⟩) (y_ps hF hW hS) rfl rfl hl.1 rfl (lv_room (Nat.le_of_ble_eq_true rfl)) dX6_likely_13 ⟨Nat.le_of_ble_eq_true rfl, Nat.le_of_ble_eq_true rfl⟩) hS (fun H locs hW hS => ?_)
    refine lv_if_eq (tgt := 28) hx hb dX6_likely_16 (by decide) (fun h => ?_) (fun h => ?_)
    · have hf := if_t h hf
      refine lv_ldc2 hx hb hown q0 dX6_likely_28 ?_
      exact z_l hf hx hb hr hF hW hS dX6_likely_31 hlocks
    · have hf := if_f h hf
      refine lv_iload_n hx hb dX6_likely_19 rfl (lv_at hl 4 rfl) ?_
      refine lv_if_lt (tgt := 28) hx hb dX6_likely_20 (by decide) (fun h => ?_) (fun h => ?_)
      · have hf := if_t h hf
        refine lv_ldc2 hx hb hown q0 dX6_likely_28 ?_
        exact z_l hf hx hb hr hF hW hS dX6_likely_31 hlocks
      · have hf := if_f h hf
        refine lv_iload_n hx hb dX6_likely_23 rfl (lv_at hl 4 rfl) ?_
        refine lv_iconst (v := 3) hx hb dX6_likely_24 rfl ?_
        refine lv_icmp_le (tgt := 32) hx hb dX6_likely_25 (by decide) (fun h => ?_) (fun h => ?_)
        · have hf := if_t h hf
          refine lv_aload_n hx hb dX6_likely_32 rfl (lv_at hl 1 rfl) ?_
          refine lv_aload hx hb dX6_likely_33 (lv_at hl 0 rfl) ?_
          refine lv_iload_n hx hb dX6_likely_35 rfl (lv_at hl 3 rfl) ?_
          obtain ⟨S5, hc, hf⟩ := bd_out hf
          refine y_v (va_runV (As := [.ref (B 20 k2), .int a2]) (rest := []) hfix (m_X6_follow l G B E S k2 (c20 hk3) a2 S5 hc) (cwV 2 hts gX6_likely_X6_follow rfl rfl rfl ⟨rfl, hd_X6_follow⟩ ⟨Nat.le_of_ble_eq_true rfl, Nat.le_of_ble_eq_true rfl⟩) (y_pv hF hW hS (c2 E) (e2 _ _ _ _ _ _) rfl) rfl rfl hl.1 rfl (lv_room (Nat.le_of_ble_eq_true rfl)) dX6_likely_36 ⟨Nat.le_of_ble_eq_true rfl, Nat.le_of_ble_eq_true rfl⟩) hS (fun H locs hW hS => ?_)
          refine lv_iload_n hx hb dX6_likely_39 rfl (lv_at hl 3 rfl) ?_
          refine lv_bipush (v := 100) hx hb dX6_likely_40 (by decide) ?_
          refine lv_idiv hx hb dX6_likely_42 (by decide) ?_
          obtain ⟨x6, e_x6, hf⟩ := lt_out hf
          refine x_nmI e_x6 ?_
          refine lv_istore (lv' := [(5, .int x6), (4, .ref (B 20 k2)), (0, .ref (B 2 0)), (1, .int a1), (2, .int a2), (3, .int a3)]) hx hb dX6_likely_43 hl (by decide) rfl (fun ls hl => ?_)
          refine lv_iload_n hx hb dX6_likely_45 rfl (lv_at hl 5 rfl) ?_
          refine lv_iconst (v := 2) hx hb dX6_likely_46 rfl ?_
          refine lv_icmp_ge (tgt := 77) hx hb dX6_likely_47 (by decide) (fun h => ?_) (fun h => ?_)
          · have hf := if_t h hf
            refine lv_aload_n hx hb dX6_likely_77 rfl (lv_at hl 2 rfl) ?_
            refine x_get hx hb hts hi6 hown hK hW (c2 E) (e2 _ _ _ _ _ _) rfl 10 (Nat.le_of_ble_eq_true rfl) q1 (fun _ h => h) (v := .ref (B 16 0)) rfl dX6_likely_78 ?_
            refine lv_iload hx hb dX6_likely_81 (lv_at hl 0 rfl) ?_
            obtain ⟨r7, hc, hf⟩ := bd_out hf
            refine y_l (va_runVN (As := [.int x6]) (rest := []) hfix (m_X1_fit l G B E S5 x6 r7 hc) ⟨va_cnB 1 hts gX6_likely_X1_fit_n176 rfl rfl rfl (NW.m hF.2.1 20 (q := ("MovesUp", 176, "MovesUp$Course", "fit", "(I)J", "MovesUp")) rfl) q2 hd_X1_fit ⟨Nat.le_of_ble_eq_true rfl, Nat.le_of_ble_eq_true rfl⟩, q3, q4⟩ (y_pv hF hW hS (c16 E) (e16 _ _ _ _ _ _) rfl) rfl rfl hl.1 rfl (lv_room (Nat.le_of_ble_eq_true rfl)) dX6_likely_83 ⟨Nat.le_of_ble_eq_true rfl, Nat.le_of_ble_eq_true rfl⟩) hS (fun H locs hW hS => ?_)
            refine lv_aload_n hx hb dX6_likely_86 rfl (lv_at hl 2 rfl) ?_
            refine x_get hx hb hts hi6 hown hK hW (c2 E) (e2 _ _ _ _ _ _) rfl 10 (Nat.le_of_ble_eq_true rfl) q1 (fun _ h => h) (v := .ref (B 16 0)) rfl dX6_likely_87 ?_
            refine lv_iload hx hb dX6_likely_90 (lv_at hl 0 rfl) ?_
            obtain ⟨r8, hc, hf⟩ := bd_out hf
            refine y_l (va_runVN (As := [.int x6]) (rest := [.long r7]) hfix (m_X1_together l G B E S5 x6 r8 hc) ⟨va_cnB 1 hts gX6_likely_X1_together_n156 rfl rfl rfl (NW.m hF.2.1 16 (q := ("MovesUp", 156, "MovesUp$Course", "together", "(I)J", "MovesUp")) rfl) q2 hd_X1_together ⟨Nat.le_of_ble_eq_true rfl, Nat.le_of_ble_eq_true rfl⟩, q5, q6⟩ (y_pv hF hW hS (c16 E) (e16 _ _ _ _ _ _) rfl) rfl rfl hl.1 rfl (lv_room (Nat.le_of_ble_eq_true rfl)) dX6_likely_92 ⟨Nat.le_of_ble_eq_true rfl, Nat.le_of_ble_eq_true rfl⟩) hS (fun H locs hW hS => ?_)
            refine lv_iload_n hx hb dX6_likely_95 rfl (lv_at hl 5 rfl) ?_
            refine lv_iconst (v := 2) hx hb dX6_likely_96 rfl ?_
            refine lv_isub hx hb dX6_likely_97 ?_
            obtain ⟨r9, hc, hf⟩ := bd_out hf
            refine y_l (va_runS (As := [.long r7, .long r8, .int (a3 - (2 : Int32))]) (rest := []) hfix (m_X6_lowest l G B E S5 r7 r8 (a3 - (2 : Int32)) r9 hc) (va_cwS 3 hts gX6_likely_X6_lowest rfl rfl rfl hd_X6_lowest ⟨Nat.le_of_ble_eq_true rfl, Nat.le_of_ble_eq_true rfl⟩) (y_ps hF hW hS) rfl rfl hl.1 rfl (lv_room (Nat.le_of_ble_eq_true rfl)) dX6_likely_98 ⟨Nat.le_of_ble_eq_true rfl, Nat.le_of_ble_eq_true rfl⟩) hS (fun H locs hW hS => ?_)
            exact z_l hf hx hb hr hF hW hS dX6_likely_101 hlocks
          · have hf := if_f h hf
            refine lv_aload_n hx hb dX6_likely_50 rfl (lv_at hl 2 rfl) ?_
            refine x_get hx hb hts hi6 hown hK hW (c2 E) (e2 _ _ _ _ _ _) rfl 10 (Nat.le_of_ble_eq_true rfl) q1 (fun _ h => h) (v := .ref (B 16 0)) rfl dX6_likely_51 ?_
            refine lv_iload hx hb dX6_likely_54 (lv_at hl 0 rfl) ?_
            obtain ⟨r10, hc, hf⟩ := bd_out hf
            refine y_l (va_runVN (As := [.int x6]) (rest := []) hfix (m_X1_together l G B E S5 x6 r10 hc) ⟨va_cnB 1 hts gX6_likely_X1_together_n156 rfl rfl rfl (NW.m hF.2.1 16 (q := ("MovesUp", 156, "MovesUp$Course", "together", "(I)J", "MovesUp")) rfl) q2 hd_X1_together ⟨Nat.le_of_ble_eq_true rfl, Nat.le_of_ble_eq_true rfl⟩, q5, q6⟩ (y_pv hF hW hS (c16 E) (e16 _ _ _ _ _ _) rfl) rfl rfl hl.1 rfl (lv_room (Nat.le_of_ble_eq_true rfl)) dX6_likely_56 ⟨Nat.le_of_ble_eq_true rfl, Nat.le_of_ble_eq_true rfl⟩) hS (fun H locs hW hS => ?_)
            refine lv_aload_n hx hb dX6_likely_59 rfl (lv_at hl 2 rfl) ?_
            refine x_get hx hb hts hi6 hown hK hW (c2 E) (e2 _ _ _ _ _ _) rfl 10 (Nat.le_of_ble_eq_true rfl) q1 (fun _ h => h) (v := .ref (B 16 0)) rfl dX6_likely_60 ?_
            refine lv_iconst (v := 0) hx hb dX6_likely_63 rfl ?_
            obtain ⟨r11, hc, hf⟩ := bd_out hf
            refine y_l (va_runVN (As := [.int (0 : Int32)]) (rest := [.long r10]) hfix (m_X1_together l G B E S5 (0 : Int32) r11 hc) ⟨va_cnB 1 hts gX6_likely_X1_together_n156 rfl rfl rfl (NW.m hF.2.1 16 (q := ("MovesUp", 156, "MovesUp$Course", "together", "(I)J", "MovesUp")) rfl) q2 hd_X1_together ⟨Nat.le_of_ble_eq_true rfl, Nat.le_of_ble_eq_true rfl⟩, q5, q6⟩ (y_pv hF hW hS (c16 E) (e16 _ _ _ _ _ _) rfl) rfl rfl hl.1 rfl (lv_room (Nat.le_of_ble_eq_true rfl)) dX6_likely_64 ⟨Nat.le_of_ble_eq_true rfl, Nat.le_of_ble_eq_true rfl⟩) hS (fun H locs hW hS => ?_)
            refine lv_iload hx hb dX6_likely_67 (lv_at hl 0 rfl) ?_
            obtain ⟨r12, hc, hf⟩ := bd_out hf
            refine y_l (va_runS (As := [.long r11, .int x6]) (rest := [.long r10]) hfix (m_X6_grown l G B E S5 r11 x6 r12 hc) (va_cwS 2 hts gX6_likely_X6_grown rfl rfl rfl hd_X6_grown ⟨Nat.le_of_ble_eq_true rfl, Nat.le_of_ble_eq_true rfl⟩) (y_ps hF hW hS) rfl rfl hl.1 rfl (lv_room (Nat.le_of_ble_eq_true rfl)) dX6_likely_69 ⟨Nat.le_of_ble_eq_true rfl, Nat.le_of_ble_eq_true rfl⟩) hS (fun H locs hW hS => ?_)
            refine lv_iload_n hx hb dX6_likely_72 rfl (lv_at hl 5 rfl) ?_
            obtain ⟨r13, hc, hf⟩ := bd_out hf
            refine y_l (va_runS (As := [.long r10, .long r12, .int a3]) (rest := []) hfix (m_X6_lowest l G B E S5 r10 r12 a3 r13 hc) (va_cwS 3 hts gX6_likely_X6_lowest rfl rfl rfl hd_X6_lowest ⟨Nat.le_of_ble_eq_true rfl, Nat.le_of_ble_eq_true rfl⟩) (y_ps hF hW hS) rfl rfl hl.1 rfl (lv_room (Nat.le_of_ble_eq_true rfl)) dX6_likely_73 ⟨Nat.le_of_ble_eq_true rfl, Nat.le_of_ble_eq_true rfl⟩) hS (fun H locs hW hS => ?_)
            exact z_l hf hx hb hr hF hW hS dX6_likely_76 hlocks
        · have hf := if_f h hf
          refine lv_ldc2 hx hb hown q0 dX6_likely_28 ?_
          exact z_l hf hx hb hr hF hW hS dX6_likely_31 hlocks
set_option maxHeartbeats 4000000 in
set_option maxRecDepth 100000 in
theorem m_X6_mean (l : Launch) (G : GE) (B : Nat → Nat → Nat) (E : EN)  (S : ST) (a1 : Int32) (a2 : Int32) (rr : Int64) (SS : ST) (hf : f_X6_mean E S a1 a2 = some (rr, SS)) : Met l yX6_mean wsX6_mean (rmN 19) (va_Pc [.ref (B 2 0), .int a1, .int a2] (WS G B E S)) (QL G B E SS rr) 0 0 (AA G) := by
  refine Met.ofW (cc := cX6_mean) (maxL := 6) (ret := (some .long)) (by decide) rfl ?_
  intro p e s m args below meth c s₁ B0 hml hv
  obtain ⟨rfl, hW, hF⟩ := hv
  have hx := B0.exec
  have hb := B0.bytes
  have hr := B0.returns
  have hts := atoms_spec (ws := wsX6_mean) B0.pre
  have hown : s.vm.findClass RX6 = some m.cls := findClass_of_methodNamed B0.named
  have hlocks := B0.notSynchronized
  have hK := hF.1
  have hfix : CallFix p m c cX6_mean 6 s [.ref (B 2 0), .int a1, .int a2].toArray wsX6_mean RX6 := ⟨hx, hb, hml, hown, hts⟩
  have hS : va_S (AA G) s.heap s.heap [] := va_S.rf
  have hl := lv_entry [.ref (B 2 0), .int a1, .int a2] (n := 6) (Nat.le_of_ble_eq_true rfl)
  rw [lg_entry_eq]
  generalize (lg_sl [.ref (B 2 0), .int a1, .int a2] ++ List.replicate (6 - (lg_sl [.ref (B 2 0), .int a1, .int a2]).length) Slot.unset).toArray = ls at hl ⊢
  have hl : lv_has ls 6 [(0, .ref (B 2 0)), (1, .int a1), (2, .int a2)] := hl
  have q0 := hts (.initialized RX2) (List.mem_of_getElem? (i := 137) rfl)
  have q1 := hts (.instanceMethod yX2_together) (List.mem_of_getElem? (i := 136) rfl)
  have q2 := hts (.selects RX2 yX2_together yX2_together) (List.mem_of_getElem? (i := 138) rfl)
  have q3 := hts (.constantLong RX6 146 (-4611686018427387904)) (List.mem_of_getElem? (i := 1) rfl)
  have q4 := hts (.fieldLink RX6 65 "MovesUp" "course" "LMovesUp$Course;") (List.mem_of_getElem? (i := 2) rfl)
  have q5 := hts (.initialized RX1) (List.mem_of_getElem? (i := 30) rfl)
  have q6 := hts (.instanceMethod yX1_ends) (List.mem_of_getElem? (i := 39) rfl)
  have q7 := hts (.selects RX1 yX1_ends yX1_ends) (List.mem_of_getElem? (i := 40) rfl)
  have q8 := hts (.instanceMethod yX1_rights) (List.mem_of_getElem? (i := 110) rfl)
  have q9 := hts (.selects RX1 yX1_rights yX1_rights) (List.mem_of_getElem? (i := 111) rfl)
  have q10 := hts (.instanceMethod yX1_best) (List.mem_of_getElem? (i := 125) rfl)
  have q11 := hts (.selects RX1 yX1_best yX1_best) (List.mem_of_getElem? (i := 126) rfl)
  have hi2 : ∀ w ∈ u_ws RX2 TX2 7, w ∈ wsX6_mean := in_seg 154 rfl
  have hi6 : ∀ w ∈ u_ws RX6 TX6 15, w ∈ wsX6_mean := in_seg 161 rfl
  have w130 : ∀ (S : ST) (v2 : Int32) (v3 : Nat) (v4 : Int64) (h_v3 : v3 < cnt E 20), f_X6_mean_b130 E S v2 v3 v4 = some (rr, SS) → ∀ (H : Heap) (locs : List Loc) (ls : Array Slot), WH G B E S H → va_S (AA G) s.heap H locs → lv_has ls 6 [(2, .int v2), (3, .ref (B 20 v3)), (4, .long v4)] → W p l e (headSpec wsX6_mean (rmN 19)).room s m [.ref (B 2 0), .int a1, .int a2].toArray below meth c H locs 0 0 (MQ below (QL G B E SS rr) [.ref (B 2 0), .int a1, .int a2].toArray s 0 0 (AA G)) (F0 m 130 ls []) := by
    intro S v2 v3 v4 h_v3 hf H locs ls hW hS hl
    unfold f_X6_mean_b130 at hf
    refine lv_lload hx hb dX6_mean_130 (lv_at hl 2 rfl) ?_
    refine lv_aload_n hx hb dX6_mean_132 rfl (lv_at hl 1 rfl) ?_
    obtain ⟨r1, hc, hf⟩ := bd_out hf
    refine y_i (va_runVN (As := []) (rest := [.long v4]) hfix (m_X2_together l G B E v3 (h_v3) S  r1 hc) ⟨va_cnB 0 hts gX6_mean_X2_together_n112 rfl rfl rfl (NW.m hF.2.1 8 (q := ("MovesUp", 112, "MovesUp$Pupil", "together", "()I", "MovesUp")) rfl) q0 hd_X2_together ⟨Nat.le_of_ble_eq_true rfl, Nat.le_of_ble_eq_true rfl⟩, q1, q2⟩ (y_pv hF hW hS (h_v3) (e20 _ _ _ _ _ _) rfl) rfl rfl hl.1 rfl (lv_room (Nat.le_of_ble_eq_true rfl)) dX6_mean_133 ⟨Nat.le_of_ble_eq_true rfl, Nat.le_of_ble_eq_true rfl⟩) hS (fun H locs hW hS => ?_)
    refine lv_i2l hx hb dX6_mean_136 rfl ?_
    refine lv_iconst (v := 5) hx hb dX6_mean_137 rfl ?_
    obtain ⟨r2, hc, hf⟩ := bd_out hf
    refine y_l (va_runS (As := [.long r1.toInt64, .int (5 : Int32)]) (rest := [.long v4]) hfix (m_X6_grown l G B E S r1.toInt64 (5 : Int32) r2 hc) (va_cwS 2 hts gX6_mean_X6_grown rfl rfl rfl hd_X6_grown ⟨Nat.le_of_ble_eq_true rfl, Nat.le_of_ble_eq_true rfl⟩) (y_ps hF hW hS) rfl rfl hl.1 rfl (lv_room (Nat.le_of_ble_eq_true rfl)) dX6_mean_138 ⟨Nat.le_of_ble_eq_true rfl, Nat.le_of_ble_eq_true rfl⟩) hS (fun H locs hW hS => ?_)
    refine lv_iload_n hx hb dX6_mean_141 rfl (lv_at hl 0 rfl) ?_
    refine lv_iconst (v := 2) hx hb dX6_mean_142 rfl ?_
    refine x_irem hx hb dX6_mean_143 (by decide) ?_
    obtain ⟨r3, hc, hf⟩ := bd_out hf
    refine y_l (va_runS (As := [.long v4, .long r2, .int (rmI v2 (2 : Int32))]) (rest := []) hfix (m_X6_lowest l G B E S v4 r2 (rmI v2 (2 : Int32)) r3 hc) (va_cwS 3 hts gX6_mean_X6_lowest rfl rfl rfl hd_X6_lowest ⟨Nat.le_of_ble_eq_true rfl, Nat.le_of_ble_eq_true rfl⟩) (y_ps hF hW hS) rfl rfl hl.1 rfl (lv_room (Nat.le_of_ble_eq_true rfl)) dX6_mean_144 ⟨Nat.le_of_ble_eq_true rfl, Nat.le_of_ble_eq_true rfl⟩) hS (fun H locs hW hS => ?_)
    exact z_l hf hx hb hr hF hW hS dX6_mean_147 hlocks
  unfold f_X6_mean at hf
  refine lv_aload_n hx hb dX6_mean_0 rfl (lv_at hl 0 rfl) ?_
  refine lv_iload_n hx hb dX6_mean_1 rfl (lv_at hl 1 rfl) ?_
  obtain ⟨r4, hc, hf⟩ := bd_out hf
  refine y_q (va_runV (As := [.int a1]) (rest := []) hfix (m_X6_known l G B E S a1 r4 hc) (cwV 1 hts gX6_mean_X6_known rfl rfl rfl ⟨rfl, hd_X6_known⟩ ⟨Nat.le_of_ble_eq_true rfl, Nat.le_of_ble_eq_true rfl⟩) (y_pv hF hW hS (c2 E) (e2 _ _ _ _ _ _) rfl) rfl rfl hl.1 rfl (lv_room (Nat.le_of_ble_eq_true rfl)) dX6_mean_2 ⟨Nat.le_of_ble_eq_true rfl, Nat.le_of_ble_eq_true rfl⟩) hS (fun H locs hW hS => ?_)
  rcases r4 with _ | k5
  · have hf := nl_n hf
    refine lv_astore_nN (lv' := [(3, .null), (0, .ref (B 2 0)), (1, .int a1), (2, .int a2)]) hx hb dX6_mean_5 rfl hl (by decide) rfl (fun ls hl => ?_)
    refine lv_aload_nN hx hb dX6_mean_6 rfl (lv_at hl 0 rfl) ?_
    refine lv_ifnullN (tgt := 20) hx hb dX6_mean_7 (by decide) ?_
    refine lv_ldc2 hx hb hown q3 dX6_mean_20 ?_
    exact z_l hf hx hb hr hF hW hS dX6_mean_23 hlocks
  · have hf := nl_s hf
    obtain ⟨hk6, hf⟩ := ck_out hf
    have hk6 := of_decide_eq_true hk6
    refine lv_astore_n (lv' := [(3, .ref (B 20 k5)), (0, .ref (B 2 0)), (1, .int a1), (2, .int a2)]) hx hb dX6_mean_5 rfl hl (by decide) rfl (fun ls hl => ?_)
    refine lv_aload_n hx hb dX6_mean_6 rfl (lv_at hl 0 rfl) ?_
    refine lv_ifnull hx hb dX6_mean_7 ?_
    refine lv_iload_n hx hb dX6_mean_10 rfl (lv_at hl 3 rfl) ?_
    refine lv_if_lt (tgt := 20) hx hb dX6_mean_11 (by decide) (fun h => ?_) (fun h => ?_)
    · have hf := if_t h hf
      refine lv_ldc2 hx hb hown q3 dX6_mean_20 ?_
      exact z_l hf hx hb hr hF hW hS dX6_mean_23 hlocks
    · have hf := if_f h hf
      refine lv_iload_n hx hb dX6_mean_14 rfl (lv_at hl 3 rfl) ?_
      refine lv_bipush (v := 7) hx hb dX6_mean_15 (by decide) ?_
      refine lv_icmp_le (tgt := 24) hx hb dX6_mean_17 (by decide) (fun h => ?_) (fun h => ?_)
      · have hf := if_t h hf
        refine lv_aload_n hx hb dX6_mean_24 rfl (lv_at hl 1 rfl) ?_
        refine lv_aload_n hx hb dX6_mean_25 rfl (lv_at hl 0 rfl) ?_
        refine lv_aload_n hx hb dX6_mean_26 rfl (lv_at hl 0 rfl) ?_
        refine x_getN hx hb hts hi2 hown hK hW (c20 hk6) (e20 _ _ _ _ _ _) rfl 0 (Nat.le_of_ble_eq_true rfl) (NW.f hF.2.1 5 (q := ("MovesUp", 119, "MovesUp$Pupil", "kind", "I", "MovesUp")) rfl) (fun _ h => h) (v := .int (gI S 20 k5 0)) rfl dX6_mean_27 ?_
        refine lv_aload_n hx hb dX6_mean_30 rfl (lv_at hl 0 rfl) ?_
        refine x_getN hx hb hts hi2 hown hK hW (c20 hk6) (e20 _ _ _ _ _ _) rfl 2 (Nat.le_of_ble_eq_true rfl) (NW.f hF.2.1 7 (q := ("MovesUp", 128, "MovesUp$Pupil", "number", "I", "MovesUp")) rfl) (fun _ h => h) (v := .int (gI S 20 k5 2)) rfl dX6_mean_31 ?_
        refine lv_aload_n hx hb dX6_mean_34 rfl (lv_at hl 0 rfl) ?_
        refine x_getN hx hb hts hi2 hown hK hW (c20 hk6) (e20 _ _ _ _ _ _) rfl 3 (Nat.le_of_ble_eq_true rfl) (NW.f hF.2.1 8 (q := ("MovesUp", 122, "MovesUp$Pupil", "itsClass", "I", "MovesUp")) rfl) (fun _ h => h) (v := .int (gI S 20 k5 3)) rfl dX6_mean_35 ?_
        obtain ⟨S7, hc, hf⟩ := bd_out hf
        refine y_v (va_runV (As := [.ref (B 20 k5), .int (gI S 20 k5 0), .int (gI S 20 k5 2), .int (gI S 20 k5 3)]) (rest := []) hfix (m_X6_start l G B E S k5 (c20 hk6) (gI S 20 k5 0) (gI S 20 k5 2) (gI S 20 k5 3) S7 hc) (cwV 4 hts gX6_mean_X6_start rfl rfl rfl ⟨rfl, hd_X6_start⟩ ⟨Nat.le_of_ble_eq_true rfl, Nat.le_of_ble_eq_true rfl⟩) (y_pv hF hW hS (c2 E) (e2 _ _ _ _ _ _) rfl) rfl rfl hl.1 rfl (lv_room (Nat.le_of_ble_eq_true rfl)) dX6_mean_38 ⟨Nat.le_of_ble_eq_true rfl, Nat.le_of_ble_eq_true rfl⟩) hS (fun H locs hW hS => ?_)
        refine lv_iload_n hx hb dX6_mean_41 rfl (lv_at hl 3 rfl) ?_
        refine lv_iconst (v := 2) hx hb dX6_mean_42 rfl ?_
        refine lv_idiv hx hb dX6_mean_43 (by decide) ?_
        obtain ⟨x8, e_x8, hf⟩ := lt_out hf
        refine x_nmI e_x8 ?_
        by_cases hn0 : x8 = (0 : Int32)
        · have hf := if_t hn0 hf
          refine lv_tableIn hx hb dX6_mean_44 (by rw [hn0]; decide) (by rw [hn0]; decide) (off := 28) (by rw [hn0]; rfl) (tgt := 72) (by decide) ?_
          refine lv_aload_n hx hb dX6_mean_72 rfl (lv_at hl 1 rfl) ?_
          refine x_get hx hb hts hi6 hown hK hW (c2 E) (e2 _ _ _ _ _ _) rfl 10 (Nat.le_of_ble_eq_true rfl) q4 (fun _ h => h) (v := .ref (B 16 0)) rfl dX6_mean_73 ?_
          refine lv_iconst (v := 0) hx hb dX6_mean_76 rfl ?_
          obtain ⟨r9, S10, hc, hf⟩ := bd2_out hf
          refine y_l (va_runVN (As := [.int (0 : Int32)]) (rest := []) hfix (m_X1_ends l G B E 7 S7 (0 : Int32) r9 S10 hc) ⟨va_cnB 1 hts gX6_mean_X1_ends_n183 rfl rfl rfl (NW.m hF.2.1 21 (q := ("MovesUp", 183, "MovesUp$Course", "ends", "(I)J", "MovesUp")) rfl) q5 hd_X1_ends ⟨Nat.le_of_ble_eq_true rfl, Nat.le_of_ble_eq_true rfl⟩, q6, q7⟩ (y_pv hF hW hS (c16 E) (e16 _ _ _ _ _ _) rfl) rfl rfl hl.1 rfl (lv_room (Nat.le_of_ble_eq_true rfl)) dX6_mean_77 ⟨Nat.le_of_ble_eq_true rfl, Nat.le_of_ble_eq_true rfl⟩) hS (fun H locs hW hS => ?_)
          refine lv_lstore (lv' := [(4, .long r9), (3, .ref (B 20 k5)), (0, .ref (B 2 0)), (1, .int a1), (2, .int a2)]) hx hb dX6_mean_80 hl (by decide) rfl (fun ls hl => ?_)
          refine lv_goto (tgt := 130) hx hb dX6_mean_82 (by decide) ?_
          exact w130 S10 a2 k5 r9 (c20 hk6) hf _ _ _ hW hS (lv_sub hl [4, 1, 0] rfl)
        · have hf := if_f hn0 hf
          by_cases hn1 : x8 = (1 : Int32)
          · have hf := if_t hn1 hf
            refine lv_tableIn hx hb dX6_mean_44 (by rw [hn1]; decide) (by rw [hn1]; decide) (off := 41) (by rw [hn1]; rfl) (tgt := 85) (by decide) ?_
            refine lv_aload_n hx hb dX6_mean_85 rfl (lv_at hl 1 rfl) ?_
            refine x_get hx hb hts hi6 hown hK hW (c2 E) (e2 _ _ _ _ _ _) rfl 10 (Nat.le_of_ble_eq_true rfl) q4 (fun _ h => h) (v := .ref (B 16 0)) rfl dX6_mean_86 ?_
            refine lv_iconst (v := 0) hx hb dX6_mean_89 rfl ?_
            obtain ⟨r11, S12, hc, hf⟩ := bd2_out hf
            refine y_l (va_runVN (As := [.int (0 : Int32)]) (rest := []) hfix (m_X1_rights l G B E 7 S7 (0 : Int32) r11 S12 hc) ⟨va_cnB 1 hts gX6_mean_X1_rights_n186 rfl rfl rfl (NW.m hF.2.1 22 (q := ("MovesUp", 186, "MovesUp$Course", "rights", "(I)J", "MovesUp")) rfl) q5 hd_X1_rights ⟨Nat.le_of_ble_eq_true rfl, Nat.le_of_ble_eq_true rfl⟩, q8, q9⟩ (y_pv hF hW hS (c16 E) (e16 _ _ _ _ _ _) rfl) rfl rfl hl.1 rfl (lv_room (Nat.le_of_ble_eq_true rfl)) dX6_mean_90 ⟨Nat.le_of_ble_eq_true rfl, Nat.le_of_ble_eq_true rfl⟩) hS (fun H locs hW hS => ?_)
            refine lv_lstore (lv' := [(4, .long r11), (3, .ref (B 20 k5)), (0, .ref (B 2 0)), (1, .int a1), (2, .int a2)]) hx hb dX6_mean_93 hl (by decide) rfl (fun ls hl => ?_)
            refine lv_goto (tgt := 130) hx hb dX6_mean_95 (by decide) ?_
            exact w130 S12 a2 k5 r11 (c20 hk6) hf _ _ _ hW hS (lv_sub hl [4, 1, 0] rfl)
          · have hf := if_f hn1 hf
            by_cases hn2 : x8 = (2 : Int32)
            · have hf := if_t hn2 hf
              refine lv_tableIn hx hb dX6_mean_44 (by rw [hn2]; decide) (by rw [hn2]; decide) (off := 54) (by rw [hn2]; rfl) (tgt := 98) (by decide) ?_
              refine lv_aload_n hx hb dX6_mean_98 rfl (lv_at hl 1 rfl) ?_
              refine x_get hx hb hts hi6 hown hK hW (c2 E) (e2 _ _ _ _ _ _) rfl 10 (Nat.le_of_ble_eq_true rfl) q4 (fun _ h => h) (v := .ref (B 16 0)) rfl dX6_mean_99 ?_
              refine lv_iconst (v := 0) hx hb dX6_mean_102 rfl ?_
              obtain ⟨r13, S14, hc, hf⟩ := bd2_out hf
              refine y_l (va_runVN (As := [.int (0 : Int32)]) (rest := []) hfix (m_X1_best l G B E 13 S7 (0 : Int32) r13 S14 hc) ⟨va_cnB 1 hts gX6_mean_X1_best_n189 rfl rfl rfl (NW.m hF.2.1 23 (q := ("MovesUp", 189, "MovesUp$Course", "best", "(I)J", "MovesUp")) rfl) q5 hd_X1_best ⟨Nat.le_of_ble_eq_true rfl, Nat.le_of_ble_eq_true rfl⟩, q10, q11⟩ (y_pv hF hW hS (c16 E) (e16 _ _ _ _ _ _) rfl) rfl rfl hl.1 rfl (lv_room (Nat.le_of_ble_eq_true rfl)) dX6_mean_103 ⟨Nat.le_of_ble_eq_true rfl, Nat.le_of_ble_eq_true rfl⟩) hS (fun H locs hW hS => ?_)
              refine lv_lstore (lv' := [(4, .long r13), (3, .ref (B 20 k5)), (0, .ref (B 2 0)), (1, .int a1), (2, .int a2)]) hx hb dX6_mean_106 hl (by decide) rfl (fun ls hl => ?_)
              refine lv_goto (tgt := 130) hx hb dX6_mean_108 (by decide) ?_
              exact w130 S14 a2 k5 r13 (c20 hk6) hf _ _ _ hW hS (lv_sub hl [4, 1, 0] rfl)
            · have hf := if_f hn2 hf
              refine lv_tableOut hx hb dX6_mean_44 (tb_out (by decide) (by decide) (fun k h1 h2 => ?_)) (tgt := 111) (by decide) ?_
              · have hk : k = 0 ∨ k = 1 ∨ k = 2 := by omega
                rcases hk with rfl | rfl | rfl
                · exact fun q => hn0 (q.trans (by decide))
                · exact fun q => hn1 (q.trans (by decide))
                · exact fun q => hn2 (q.trans (by decide))
              · refine lv_aload_n hx hb dX6_mean_111 rfl (lv_at hl 1 rfl) ?_
                refine x_get hx hb hts hi6 hown hK hW (c2 E) (e2 _ _ _ _ _ _) rfl 10 (Nat.le_of_ble_eq_true rfl) q4 (fun _ h => h) (v := .ref (B 16 0)) rfl dX6_mean_112 ?_
                refine lv_iconst (v := 0) hx hb dX6_mean_115 rfl ?_
                obtain ⟨r15, S16, hc, hf⟩ := bd2_out hf
                refine y_l (va_runVN (As := [.int (0 : Int32)]) (rest := []) hfix (m_X1_best l G B E 13 S7 (0 : Int32) r15 S16 hc) ⟨va_cnB 1 hts gX6_mean_X1_best_n189 rfl rfl rfl (NW.m hF.2.1 23 (q := ("MovesUp", 189, "MovesUp$Course", "best", "(I)J", "MovesUp")) rfl) q5 hd_X1_best ⟨Nat.le_of_ble_eq_true rfl, Nat.le_of_ble_eq_true rfl⟩, q10, q11⟩ (y_pv hF hW hS (c16 E) (e16 _ _ _ _ _ _) rfl) rfl rfl hl.1 rfl (lv_room (Nat.le_of_ble_eq_true rfl)) dX6_mean_116 ⟨Nat.le_of_ble_eq_true rfl, Nat.le_of_ble_eq_true rfl⟩) hS (fun H locs hW hS => ?_)
                refine lv_aload_n hx hb dX6_mean_119 rfl (lv_at hl 1 rfl) ?_
                refine x_get hx hb hts hi6 hown hK hW (c2 E) (e2 _ _ _ _ _ _) rfl 10 (Nat.le_of_ble_eq_true rfl) q4 (fun _ h => h) (v := .ref (B 16 0)) rfl dX6_mean_120 ?_
                refine lv_iconst (v := 0) hx hb dX6_mean_123 rfl ?_
                obtain ⟨r17, S18, hc, hf⟩ := bd2_out hf
                refine y_l (va_runVN (As := [.int (0 : Int32)]) (rest := [.long r15]) hfix (m_X1_ends l G B E 7 S16 (0 : Int32) r17 S18 hc) ⟨va_cnB 1 hts gX6_mean_X1_ends_n183 rfl rfl rfl (NW.m hF.2.1 21 (q := ("MovesUp", 183, "MovesUp$Course", "ends", "(I)J", "MovesUp")) rfl) q5 hd_X1_ends ⟨Nat.le_of_ble_eq_true rfl, Nat.le_of_ble_eq_true rfl⟩, q6, q7⟩ (y_pv hF hW hS (c16 E) (e16 _ _ _ _ _ _) rfl) rfl rfl hl.1 rfl (lv_room (Nat.le_of_ble_eq_true rfl)) dX6_mean_124 ⟨Nat.le_of_ble_eq_true rfl, Nat.le_of_ble_eq_true rfl⟩) hS (fun H locs hW hS => ?_)
                refine lv_lsub hx hb dX6_mean_127 ?_
                obtain ⟨x19, e_x19, hf⟩ := lt_out hf
                refine x_nmL e_x19 ?_
                refine lv_lstore (lv' := [(4, .long x19), (3, .ref (B 20 k5)), (0, .ref (B 2 0)), (1, .int a1), (2, .int a2)]) hx hb dX6_mean_128 hl (by decide) rfl (fun ls hl => ?_)
                exact w130 S18 a2 k5 x19 (c20 hk6) hf _ _ _ hW hS (lv_sub hl [4, 1, 0] rfl)
      · have hf := if_f h hf
        refine lv_ldc2 hx hb hown q3 dX6_mean_20 ?_
        exact z_l hf hx hb hr hF hW hS dX6_mean_23 hlocks
set_option maxHeartbeats 4000000 in
set_option maxRecDepth 100000 in
theorem m_X6_endsBy (l : Launch) (G : GE) (B : Nat → Nat → Nat) (E : EN)  (S : ST) (a1 : Nat) (h_a1 : a1 < cnt E 20) (a2 : Int32) (a3 : Int32) (a4 : Int32) (rr : Int64) (SS : ST) (hf : f_X6_endsBy E S a1 a2 a3 a4 = some (rr, SS)) : Met l yX6_endsBy wsX6_endsBy (rmN 13) (va_Pc [.ref (B 2 0), .ref (B 20 a1), .int a2, .int a3, .int a4] (WS G B E S)) (QL G B E SS rr) 0 0 (AA G) := by
  refine Met.ofW (cc := cX6_endsBy) (maxL := 5) (ret := (some .long)) (by decide) rfl ?_
  intro p e s m args below meth c s₁ B0 hml hv
  obtain ⟨rfl, hW, hF⟩ := hv
  have hx := B0.exec
  have hb := B0.bytes
  have hr := B0.returns
  have hts := atoms_spec (ws := wsX6_endsBy) B0.pre
  have hown : s.vm.findClass RX6 = some m.cls := findClass_of_methodNamed B0.named
  have hlocks := B0.notSynchronized
  have hK := hF.1
  have hfix : CallFix p m c cX6_endsBy 5 s [.ref (B 2 0), .ref (B 20 a1), .int a2, .int a3, .int a4].toArray wsX6_endsBy RX6 := ⟨hx, hb, hml, hown, hts⟩
  have hS : va_S (AA G) s.heap s.heap [] := va_S.rf
  have hl := lv_entry [.ref (B 2 0), .ref (B 20 a1), .int a2, .int a3, .int a4] (n := 5) (Nat.le_of_ble_eq_true rfl)
  rw [lg_entry_eq]
  generalize (lg_sl [.ref (B 2 0), .ref (B 20 a1), .int a2, .int a3, .int a4] ++ List.replicate (5 - (lg_sl [.ref (B 2 0), .ref (B 20 a1), .int a2, .int a3, .int a4]).length) Slot.unset).toArray = ls at hl ⊢
  have hl : lv_has ls 5 [(0, .ref (B 2 0)), (1, .ref (B 20 a1)), (2, .int a2), (3, .int a3), (4, .int a4)] := hl
  have q0 := hts (.fieldLink RX6 65 "MovesUp" "course" "LMovesUp$Course;") (List.mem_of_getElem? (i := 1) rfl)
  have q1 := hts (.initialized RX1) (List.mem_of_getElem? (i := 23) rfl)
  have q2 := hts (.instanceMethod yX1_ends) (List.mem_of_getElem? (i := 32) rfl)
  have q3 := hts (.selects RX1 yX1_ends yX1_ends) (List.mem_of_getElem? (i := 33) rfl)
  have hi6 : ∀ w ∈ u_ws RX6 TX6 15, w ∈ wsX6_endsBy := in_seg 103 rfl
  unfold f_X6_endsBy at hf
  refine lv_aload_n hx hb dX6_endsBy_0 rfl (lv_at hl 0 rfl) ?_
  refine lv_aload_n hx hb dX6_endsBy_1 rfl (lv_at hl 1 rfl) ?_
  refine lv_iload_n hx hb dX6_endsBy_2 rfl (lv_at hl 2 rfl) ?_
  refine lv_iload_n hx hb dX6_endsBy_3 rfl (lv_at hl 3 rfl) ?_
  refine lv_iload hx hb dX6_endsBy_4 (lv_at hl 4 rfl) ?_
  obtain ⟨S1, hc, hf⟩ := bd_out hf
  refine y_v (va_runV (As := [.ref (B 20 a1), .int a2, .int a3, .int a4]) (rest := []) hfix (m_X6_start l G B E S a1 (h_a1) a2 a3 a4 S1 hc) (cwV 4 hts gX6_endsBy_X6_start rfl rfl rfl ⟨rfl, hd_X6_start⟩ ⟨Nat.le_of_ble_eq_true rfl, Nat.le_of_ble_eq_true rfl⟩) (y_pv hF hW hS (c2 E) (e2 _ _ _ _ _ _) rfl) rfl rfl hl.1 rfl (lv_room (Nat.le_of_ble_eq_true rfl)) dX6_endsBy_6 ⟨Nat.le_of_ble_eq_true rfl, Nat.le_of_ble_eq_true rfl⟩) hS (fun H locs hW hS => ?_)
  refine lv_aload_n hx hb dX6_endsBy_9 rfl (lv_at hl 0 rfl) ?_
  refine x_get hx hb hts hi6 hown hK hW (c2 E) (e2 _ _ _ _ _ _) rfl 10 (Nat.le_of_ble_eq_true rfl) q0 (fun _ h => h) (v := .ref (B 16 0)) rfl dX6_endsBy_10 ?_
  refine lv_iconst (v := 0) hx hb dX6_endsBy_13 rfl ?_
  obtain ⟨r2, S3, hc, hf⟩ := bd2_out hf
  refine y_l (va_runVN (As := [.int (0 : Int32)]) (rest := []) hfix (m_X1_ends l G B E 7 S1 (0 : Int32) r2 S3 hc) ⟨va_cnB 1 hts gX6_endsBy_X1_ends_n183 rfl rfl rfl (NW.m hF.2.1 21 (q := ("MovesUp", 183, "MovesUp$Course", "ends", "(I)J", "MovesUp")) rfl) q1 hd_X1_ends ⟨Nat.le_of_ble_eq_true rfl, Nat.le_of_ble_eq_true rfl⟩, q2, q3⟩ (y_pv hF hW hS (c16 E) (e16 _ _ _ _ _ _) rfl) rfl rfl hl.1 rfl (lv_room (Nat.le_of_ble_eq_true rfl)) dX6_endsBy_14 ⟨Nat.le_of_ble_eq_true rfl, Nat.le_of_ble_eq_true rfl⟩) hS (fun H locs hW hS => ?_)
  exact z_l hf hx hb hr hF hW hS dX6_endsBy_17 hlocks
set_option maxHeartbeats 4000000 in
set_option maxRecDepth 100000 in
theorem m_X6_off (l : Launch) (G : GE) (B : Nat → Nat → Nat) (E : EN)  (S : ST) (a1 : Int32) (a2 : Int32) (a3 : Int32) (rr : Int64) (SS : ST) (hf : f_X6_off E S a1 a2 a3 = some (rr, SS)) : Met l yX6_off wsX6_off (rmN 14) (va_Pc [.ref (B 2 0), .int a1, .int a2, .int a3] (WS G B E S)) (QL G B E SS rr) 0 0 (AA G) := by
  refine Met.ofW (cc := cX6_off) (maxL := 9) (ret := (some .long)) (by decide) rfl ?_
  intro p e s m args below meth c s₁ B0 hml hv
  obtain ⟨rfl, hW, hF⟩ := hv
  have hx := B0.exec
  have hb := B0.bytes
  have hr := B0.returns
  have hts := atoms_spec (ws := wsX6_off) B0.pre
  have hown : s.vm.findClass RX6 = some m.cls := findClass_of_methodNamed B0.named
  have hlocks := B0.notSynchronized
  have hK := hF.1
  have hfix : CallFix p m c cX6_off 9 s [.ref (B 2 0), .int a1, .int a2, .int a3].toArray wsX6_off RX6 := ⟨hx, hb, hml, hown, hts⟩
  have hS : va_S (AA G) s.heap s.heap [] := va_S.rf
  have hl := lv_entry [.ref (B 2 0), .int a1, .int a2, .int a3] (n := 9) (Nat.le_of_ble_eq_true rfl)
  rw [lg_entry_eq]
  generalize (lg_sl [.ref (B 2 0), .int a1, .int a2, .int a3] ++ List.replicate (9 - (lg_sl [.ref (B 2 0), .int a1, .int a2, .int a3]).length) Slot.unset).toArray = ls at hl ⊢
  have hl : lv_has ls 9 [(0, .ref (B 2 0)), (1, .int a1), (2, .int a2), (3, .int a3)] := hl
  have q0 := hts (.initialized RX2) (List.mem_of_getElem? (i := 119) rfl)
  have q1 := hts (.instanceMethod yX2_together) (List.mem_of_getElem? (i := 118) rfl)
  have q2 := hts (.selects RX2 yX2_together yX2_together) (List.mem_of_getElem? (i := 120) rfl)
  have q3 := hts (.constantLong RX6 146 (-4611686018427387904)) (List.mem_of_getElem? (i := 1) rfl)
  have hi2 : ∀ w ∈ u_ws RX2 TX2 7, w ∈ wsX6_off := in_seg 136 rfl
  have w22 : ∀ (S : ST) (v2 : Int32) (v3 : Int32) (v4 : Nat) (h_v4 : v4 < cnt E 20), f_X6_off_b22 E S v2 v3 v4 = some (rr, SS) → ∀ (H : Heap) (locs : List Loc) (ls : Array Slot), WH G B E S H → va_S (AA G) s.heap H locs → lv_has ls 9 [(0, .ref (B 2 0)), (2, .int v2), (3, .int v3), (4, .ref (B 20 v4))] → W p l e (headSpec wsX6_off (rmN 14)).room s m [.ref (B 2 0), .int a1, .int a2, .int a3].toArray below meth c H locs 0 0 (MQ below (QL G B E SS rr) [.ref (B 2 0), .int a1, .int a2, .int a3].toArray s 0 0 (AA G)) (F0 m 22 ls []) := by
    intro S v2 v3 v4 h_v4 hf H locs ls hW hS hl
    unfold f_X6_off_b22 at hf
    refine lv_iload_n hx hb dX6_off_22 rfl (lv_at hl 2 rfl) ?_
    obtain ⟨r1, hc, hf⟩ := bd_out hf
    refine y_i (va_runS (As := [.int v3]) (rest := []) hfix (m_X6_isPart l G B E S v3 r1 hc) (va_cwS 1 hts gX6_off_X6_isPart rfl rfl rfl hd_X6_isPart ⟨Nat.le_of_ble_eq_true rfl, Nat.le_of_ble_eq_true rfl⟩) (y_ps hF hW hS) rfl rfl hl.1 rfl (lv_room (Nat.le_of_ble_eq_true rfl)) dX6_off_23 ⟨Nat.le_of_ble_eq_true rfl, Nat.le_of_ble_eq_true rfl⟩) hS (fun H locs hW hS => ?_)
    refine lv_if_ne (tgt := 33) hx hb dX6_off_26 (by decide) (fun h => ?_) (fun h => ?_)
    · have hf := if_f h hf
      refine lv_aload_n hx hb dX6_off_33 rfl (lv_at hl 0 rfl) ?_
      refine lv_aload hx hb dX6_off_34 (lv_at hl 3 rfl) ?_
      refine lv_aload hx hb dX6_off_36 (lv_at hl 3 rfl) ?_
      refine x_getN hx hb hts hi2 hown hK hW (h_v4) (e20 _ _ _ _ _ _) rfl 0 (Nat.le_of_ble_eq_true rfl) (NW.f hF.2.1 5 (q := ("MovesUp", 119, "MovesUp$Pupil", "kind", "I", "MovesUp")) rfl) (fun _ h => h) (v := .int (gI S 20 v4 0)) rfl dX6_off_38 ?_
      refine lv_aload hx hb dX6_off_41 (lv_at hl 3 rfl) ?_
      refine x_getN hx hb hts hi2 hown hK hW (h_v4) (e20 _ _ _ _ _ _) rfl 2 (Nat.le_of_ble_eq_true rfl) (NW.f hF.2.1 7 (q := ("MovesUp", 128, "MovesUp$Pupil", "number", "I", "MovesUp")) rfl) (fun _ h => h) (v := .int (gI S 20 v4 2)) rfl dX6_off_43 ?_
      refine lv_aload hx hb dX6_off_46 (lv_at hl 3 rfl) ?_
      refine x_getN hx hb hts hi2 hown hK hW (h_v4) (e20 _ _ _ _ _ _) rfl 3 (Nat.le_of_ble_eq_true rfl) (NW.f hF.2.1 8 (q := ("MovesUp", 122, "MovesUp$Pupil", "itsClass", "I", "MovesUp")) rfl) (fun _ h => h) (v := .int (gI S 20 v4 3)) rfl dX6_off_48 ?_
      obtain ⟨r2, S3, hc, hf⟩ := bd2_out hf
      refine y_l (va_runV (As := [.ref (B 20 v4), .int (gI S 20 v4 0), .int (gI S 20 v4 2), .int (gI S 20 v4 3)]) (rest := []) hfix (m_X6_endsBy l G B E S v4 (h_v4) (gI S 20 v4 0) (gI S 20 v4 2) (gI S 20 v4 3) r2 S3 hc) (cwV 4 hts gX6_off_X6_endsBy rfl rfl rfl ⟨rfl, hd_X6_endsBy⟩ ⟨Nat.le_of_ble_eq_true rfl, Nat.le_of_ble_eq_true rfl⟩) (y_pv hF hW hS (c2 E) (e2 _ _ _ _ _ _) rfl) rfl rfl hl.1 rfl (lv_room (Nat.le_of_ble_eq_true rfl)) dX6_off_51 ⟨Nat.le_of_ble_eq_true rfl, Nat.le_of_ble_eq_true rfl⟩) hS (fun H locs hW hS => ?_)
      refine lv_lstore (lv' := [(5, .long r2), (0, .ref (B 2 0)), (2, .int v2), (3, .int v3), (4, .ref (B 20 v4))]) hx hb dX6_off_54 hl (by decide) rfl (fun ls hl => ?_)
      refine lv_aload_n hx hb dX6_off_56 rfl (lv_at hl 1 rfl) ?_
      refine lv_aload hx hb dX6_off_57 (lv_at hl 4 rfl) ?_
      refine lv_aload hx hb dX6_off_59 (lv_at hl 4 rfl) ?_
      refine x_getN hx hb hts hi2 hown hK hW (h_v4) (e20 _ _ _ _ _ _) rfl 0 (Nat.le_of_ble_eq_true rfl) (NW.f hF.2.1 5 (q := ("MovesUp", 119, "MovesUp$Pupil", "kind", "I", "MovesUp")) rfl) (fun _ h => h) (v := .int (gI S3 20 v4 0)) rfl dX6_off_61 ?_
      refine lv_aload hx hb dX6_off_64 (lv_at hl 4 rfl) ?_
      refine x_getN hx hb hts hi2 hown hK hW (h_v4) (e20 _ _ _ _ _ _) rfl 2 (Nat.le_of_ble_eq_true rfl) (NW.f hF.2.1 7 (q := ("MovesUp", 128, "MovesUp$Pupil", "number", "I", "MovesUp")) rfl) (fun _ h => h) (v := .int (gI S3 20 v4 2)) rfl dX6_off_66 ?_
      refine lv_aload hx hb dX6_off_69 (lv_at hl 4 rfl) ?_
      refine x_getN hx hb hts hi2 hown hK hW (h_v4) (e20 _ _ _ _ _ _) rfl 3 (Nat.le_of_ble_eq_true rfl) (NW.f hF.2.1 8 (q := ("MovesUp", 122, "MovesUp$Pupil", "itsClass", "I", "MovesUp")) rfl) (fun _ h => h) (v := .int (gI S3 20 v4 3)) rfl dX6_off_71 ?_
      refine lv_iload_n hx hb dX6_off_74 rfl (lv_at hl 2 rfl) ?_
      refine lv_iadd hx hb dX6_off_75 ?_
      obtain ⟨r4, hc, hf⟩ := bd_out hf
      refine y_i (va_runS (As := [.int ((gI S3 20 v4 3) + v2)]) (rest := [.int (gI S3 20 v4 2), .int (gI S3 20 v4 0), .ref (B 20 v4), .ref (B 2 0)]) hfix (m_X6_held l G B E S3 ((gI S3 20 v4 3) + v2) r4 hc) (va_cwS 1 hts gX6_off_X6_held rfl rfl rfl hd_X6_held ⟨Nat.le_of_ble_eq_true rfl, Nat.le_of_ble_eq_true rfl⟩) (y_ps hF hW hS) rfl rfl hl.1 rfl (lv_room (Nat.le_of_ble_eq_true rfl)) dX6_off_76 ⟨Nat.le_of_ble_eq_true rfl, Nat.le_of_ble_eq_true rfl⟩) hS (fun H locs hW hS => ?_)
      obtain ⟨r5, S6, hc, hf⟩ := bd2_out hf
      refine y_l (va_runV (As := [.ref (B 20 v4), .int (gI S3 20 v4 0), .int (gI S3 20 v4 2), .int r4]) (rest := []) hfix (m_X6_endsBy l G B E S3 v4 (h_v4) (gI S3 20 v4 0) (gI S3 20 v4 2) r4 r5 S6 hc) (cwV 4 hts gX6_off_X6_endsBy rfl rfl rfl ⟨rfl, hd_X6_endsBy⟩ ⟨Nat.le_of_ble_eq_true rfl, Nat.le_of_ble_eq_true rfl⟩) (y_pv hF hW hS (c2 E) (e2 _ _ _ _ _ _) rfl) rfl rfl hl.1 rfl (lv_room (Nat.le_of_ble_eq_true rfl)) dX6_off_79 ⟨Nat.le_of_ble_eq_true rfl, Nat.le_of_ble_eq_true rfl⟩) hS (fun H locs hW hS => ?_)
      refine lv_lstore (lv' := [(7, .long r5), (5, .long r2), (0, .ref (B 2 0)), (2, .int v2), (3, .int v3), (4, .ref (B 20 v4))]) hx hb dX6_off_82 hl (by decide) rfl (fun ls hl => ?_)
      refine lv_lload hx hb dX6_off_84 (lv_at hl 1 rfl) ?_
      refine lv_lload hx hb dX6_off_86 (lv_at hl 0 rfl) ?_
      refine lv_lsub hx hb dX6_off_88 ?_
      refine lv_aload hx hb dX6_off_89 (lv_at hl 5 rfl) ?_
      obtain ⟨r7, hc, hf⟩ := bd_out hf
      refine y_i (va_runVN (As := []) (rest := [.long (r2 - r5)]) hfix (m_X2_together l G B E v4 (h_v4) S6  r7 hc) ⟨va_cnB 0 hts gX6_off_X2_together_n112 rfl rfl rfl (NW.m hF.2.1 8 (q := ("MovesUp", 112, "MovesUp$Pupil", "together", "()I", "MovesUp")) rfl) q0 hd_X2_together ⟨Nat.le_of_ble_eq_true rfl, Nat.le_of_ble_eq_true rfl⟩, q1, q2⟩ (y_pv hF hW hS (h_v4) (e20 _ _ _ _ _ _) rfl) rfl rfl hl.1 rfl (lv_room (Nat.le_of_ble_eq_true rfl)) dX6_off_91 ⟨Nat.le_of_ble_eq_true rfl, Nat.le_of_ble_eq_true rfl⟩) hS (fun H locs hW hS => ?_)
      refine lv_i2l hx hb dX6_off_94 rfl ?_
      refine lv_iconst (v := 5) hx hb dX6_off_95 rfl ?_
      obtain ⟨r8, hc, hf⟩ := bd_out hf
      refine y_l (va_runS (As := [.long r7.toInt64, .int (5 : Int32)]) (rest := [.long (r2 - r5)]) hfix (m_X6_grown l G B E S6 r7.toInt64 (5 : Int32) r8 hc) (va_cwS 2 hts gX6_off_X6_grown rfl rfl rfl hd_X6_grown ⟨Nat.le_of_ble_eq_true rfl, Nat.le_of_ble_eq_true rfl⟩) (y_ps hF hW hS) rfl rfl hl.1 rfl (lv_room (Nat.le_of_ble_eq_true rfl)) dX6_off_96 ⟨Nat.le_of_ble_eq_true rfl, Nat.le_of_ble_eq_true rfl⟩) hS (fun H locs hW hS => ?_)
      refine lv_iload_n hx hb dX6_off_99 rfl (lv_at hl 4 rfl) ?_
      obtain ⟨r9, hc, hf⟩ := bd_out hf
      refine y_l (va_runS (As := [.long (r2 - r5), .long r8, .int v3]) (rest := []) hfix (m_X6_lowest l G B E S6 (r2 - r5) r8 v3 r9 hc) (va_cwS 3 hts gX6_off_X6_lowest rfl rfl rfl hd_X6_lowest ⟨Nat.le_of_ble_eq_true rfl, Nat.le_of_ble_eq_true rfl⟩) (y_ps hF hW hS) rfl rfl hl.1 rfl (lv_room (Nat.le_of_ble_eq_true rfl)) dX6_off_100 ⟨Nat.le_of_ble_eq_true rfl, Nat.le_of_ble_eq_true rfl⟩) hS (fun H locs hW hS => ?_)
      exact z_l hf hx hb hr hF hW hS dX6_off_103 hlocks
    · have hf := if_t h hf
      refine lv_ldc2 hx hb hown q3 dX6_off_29 ?_
      exact z_l hf hx hb hr hF hW hS dX6_off_32 hlocks
  unfold f_X6_off at hf
  refine lv_aload_n hx hb dX6_off_0 rfl (lv_at hl 0 rfl) ?_
  refine lv_iload_n hx hb dX6_off_1 rfl (lv_at hl 1 rfl) ?_
  obtain ⟨r10, hc, hf⟩ := bd_out hf
  refine y_q (va_runV (As := [.int a1]) (rest := []) hfix (m_X6_known l G B E S a1 r10 hc) (cwV 1 hts gX6_off_X6_known rfl rfl rfl ⟨rfl, hd_X6_known⟩ ⟨Nat.le_of_ble_eq_true rfl, Nat.le_of_ble_eq_true rfl⟩) (y_pv hF hW hS (c2 E) (e2 _ _ _ _ _ _) rfl) rfl rfl hl.1 rfl (lv_room (Nat.le_of_ble_eq_true rfl)) dX6_off_2 ⟨Nat.le_of_ble_eq_true rfl, Nat.le_of_ble_eq_true rfl⟩) hS (fun H locs hW hS => ?_)
  rcases r10 with _ | k11
  · have hf := nl_n hf
    refine lv_astoreN (lv' := [(4, .null), (0, .ref (B 2 0)), (1, .int a1), (2, .int a2), (3, .int a3)]) hx hb dX6_off_5 hl (by decide) rfl (fun ls hl => ?_)
    refine lv_aloadN hx hb dX6_off_7 (lv_at hl 0 rfl) ?_
    refine lv_ifnullN (tgt := 29) hx hb dX6_off_9 (by decide) ?_
    refine lv_ldc2 hx hb hown q3 dX6_off_29 ?_
    exact z_l hf hx hb hr hF hW hS dX6_off_32 hlocks
  · have hf := nl_s hf
    obtain ⟨hk12, hf⟩ := ck_out hf
    have hk12 := of_decide_eq_true hk12
    refine lv_astore (lv' := [(4, .ref (B 20 k11)), (0, .ref (B 2 0)), (1, .int a1), (2, .int a2), (3, .int a3)]) hx hb dX6_off_5 hl (by decide) rfl (fun ls hl => ?_)
    refine lv_aload hx hb dX6_off_7 (lv_at hl 0 rfl) ?_
    refine lv_ifnull hx hb dX6_off_9 ?_
    refine lv_iload_n hx hb dX6_off_12 rfl (lv_at hl 3 rfl) ?_
    refine lv_iconst (v := 1) hx hb dX6_off_13 rfl ?_
    refine lv_icmp_eq (tgt := 22) hx hb dX6_off_14 (by decide) (fun h => ?_) (fun h => ?_)
    · have hf := if_t h hf
      exact w22 S a2 a3 k11 (c20 hk12) hf _ _ _ hW hS (lv_sub hl [1, 3, 4, 0] rfl)
    · have hf := if_f h hf
      refine lv_iload_n hx hb dX6_off_17 rfl (lv_at hl 3 rfl) ?_
      refine lv_iconst (v := -1) hx hb dX6_off_18 rfl ?_
      refine lv_icmp_ne (tgt := 29) hx hb dX6_off_19 (by decide) (fun h => ?_) (fun h => ?_)
      · have hf := if_f h hf
        refine lv_ldc2 hx hb hown q3 dX6_off_29 ?_
        exact z_l hf hx hb hr hF hW hS dX6_off_32 hlocks
      · have hf := if_t h hf
        exact w22 S a2 a3 k11 (c20 hk12) hf _ _ _ hW hS (lv_sub hl [1, 3, 4, 0] rfl)
set_option maxHeartbeats 4000000 in
set_option maxRecDepth 100000 in
theorem m_X6_rule (l : Launch) (G : GE) (B : Nat → Nat → Nat) (E : EN)  (S : ST) (a1 : Int32) (a2 : Int32) (rr : Int32) (SS : ST) (hf : f_X6_rule E S a1 a2 = some (rr, SS)) : Met l yX6_rule wsX6_rule (rmN 14) (va_Pc [.ref (B 2 0), .int a1, .int a2] (WS G B E S)) (QI G B E SS rr) 0 0 (AA G) := by
  refine Met.ofW (cc := cX6_rule) (maxL := 13) (ret := (some .int)) (by decide) rfl ?_
  intro p e s m args below meth c s₁ B0 hml hv
  obtain ⟨rfl, hW, hF⟩ := hv
  have hx := B0.exec
  have hb := B0.bytes
  have hr := B0.returns
  have hts := atoms_spec (ws := wsX6_rule) B0.pre
  have hown : s.vm.findClass RX6 = some m.cls := findClass_of_methodNamed B0.named
  have hlocks := B0.notSynchronized
  have hK := hF.1
  have hfix : CallFix p m c cX6_rule 13 s [.ref (B 2 0), .int a1, .int a2].toArray wsX6_rule RX6 := ⟨hx, hb, hml, hown, hts⟩
  have hS : va_S (AA G) s.heap s.heap [] := va_S.rf
  have hl := lv_entry [.ref (B 2 0), .int a1, .int a2] (n := 13) (Nat.le_of_ble_eq_true rfl)
  rw [lg_entry_eq]
  generalize (lg_sl [.ref (B 2 0), .int a1, .int a2] ++ List.replicate (13 - (lg_sl [.ref (B 2 0), .int a1, .int a2]).length) Slot.unset).toArray = ls at hl ⊢
  have hl : lv_has ls 13 [(0, .ref (B 2 0)), (1, .int a1), (2, .int a2)] := hl
  have q0 := hts (.constantLong RX6 199 (-1)) (List.mem_of_getElem? (i := 1) rfl)
  have hi2 : ∀ w ∈ u_ws RX2 TX2 7, w ∈ wsX6_rule := in_seg 114 rfl
  have w46 : ∀ (n46 : Nat) (S : ST) (v2 : Int32) (v3 : Nat) (v4 : Int32) (v5 : Int32) (v6 : Int64) (v8 : Int32) (h_v3 : v3 < cnt E 20), f_X6_rule_b46 E n46 S v2 v3 v4 v5 v6 v8 = some (rr, SS) → ∀ (H : Heap) (locs : List Loc) (ls : Array Slot), WH G B E S H → va_S (AA G) s.heap H locs → lv_has ls 13 [(0, .ref (B 2 0)), (2, .int v2), (3, .ref (B 20 v3)), (4, .int v4), (5, .int v5), (6, .long v6), (8, .int v8)] → W p l e (headSpec wsX6_rule (rmN 14)).room s m [.ref (B 2 0), .int a1, .int a2].toArray below meth c H locs 0 0 (MQ below (QI G B E SS rr) [.ref (B 2 0), .int a1, .int a2].toArray s 0 0 (AA G)) (F0 m 46 ls []) := by
    intro n46
    induction n46 with
    | zero =>
      intro S v2 v3 v4 v5 v6 v8 h_v3 hf
      exact absurd (show (none : Option (Int32 × ST)) = some (rr, SS) from hf) (fun h => by cases h)
    | succ n46 ih46 =>
      have w114 : ∀ (S : ST) (v2 : Int32) (v3 : Nat) (v4 : Int32) (v5 : Int32) (v6 : Int64) (v8 : Int32) (h_v3 : v3 < cnt E 20), f_X6_rule_b114 E (f_X6_rule_b46 E n46) S v2 v3 v4 v5 v6 v8 = some (rr, SS) → ∀ (H : Heap) (locs : List Loc) (ls : Array Slot), WH G B E S H → va_S (AA G) s.heap H locs → lv_has ls 13 [(0, .ref (B 2 0)), (2, .int v2), (3, .ref (B 20 v3)), (4, .int v4), (5, .int v5), (6, .long v6), (8, .int v8)] → W p l e (headSpec wsX6_rule (rmN 14)).room s m [.ref (B 2 0), .int a1, .int a2].toArray below meth c H locs 0 0 (MQ below (QI G B E SS rr) [.ref (B 2 0), .int a1, .int a2].toArray s 0 0 (AA G)) (F0 m 114 ls []) := by
        intro S v2 v3 v4 v5 v6 v8 h_v3 hf H locs ls hW hS hl
        unfold f_X6_rule_b114 at hf
        obtain ⟨x1, e_x1, hf⟩ := lt_out hf
        refine lv_iinc (v := x1) (lv' := [(8, .int x1), (0, .ref (B 2 0)), (2, .int v2), (3, .ref (B 20 v3)), (4, .int v4), (5, .int v5), (6, .long v6)]) hx hb dX6_rule_114 hl (k := 6) rfl (by rw [e_x1]; rfl) (by decide) rfl (fun ls hl => ?_)
        refine lv_goto (tgt := 46) hx hb dX6_rule_117 (by decide) ?_
        exact ih46 S v2 v3 v4 v5 v6 x1 (h_v3) hf _ _ _ hW hS (lv_sub hl [1, 2, 3, 4, 5, 6, 0] rfl)
      have w81 : ∀ (S : ST) (v2 : Int32) (v3 : Nat) (v4 : Int32) (v5 : Int32) (v6 : Int64) (v8 : Int32) (v9 : Int32) (t0 : Int32) (h_v3 : v3 < cnt E 20), f_X6_rule_b81 E (f_X6_rule_b46 E n46) S v2 v3 v4 v5 v6 v8 v9 t0 = some (rr, SS) → ∀ (H : Heap) (locs : List Loc) (ls : Array Slot), WH G B E S H → va_S (AA G) s.heap H locs → lv_has ls 13 [(0, .ref (B 2 0)), (2, .int v2), (3, .ref (B 20 v3)), (4, .int v4), (5, .int v5), (6, .long v6), (8, .int v8), (9, .int v9)] → W p l e (headSpec wsX6_rule (rmN 14)).room s m [.ref (B 2 0), .int a1, .int a2].toArray below meth c H locs 0 0 (MQ below (QI G B E SS rr) [.ref (B 2 0), .int a1, .int a2].toArray s 0 0 (AA G)) (F0 m 81 ls [.int t0]) := by
        intro S v2 v3 v4 v5 v6 v8 v9 t0 h_v3 hf H locs ls hW hS hl
        unfold f_X6_rule_b81 at hf
        refine lv_istore (lv' := [(10, .int t0), (0, .ref (B 2 0)), (2, .int v2), (3, .ref (B 20 v3)), (4, .int v4), (5, .int v5), (6, .long v6), (8, .int v8), (9, .int v9)]) hx hb dX6_rule_81 hl (by decide) rfl (fun ls hl => ?_)
        refine lv_aload_n hx hb dX6_rule_83 rfl (lv_at hl 1 rfl) ?_
        refine lv_aload_n hx hb dX6_rule_84 rfl (lv_at hl 3 rfl) ?_
        refine lv_iload hx hb dX6_rule_85 (lv_at hl 8 rfl) ?_
        refine lv_iload hx hb dX6_rule_87 (lv_at hl 0 rfl) ?_
        refine lv_aload_n hx hb dX6_rule_89 rfl (lv_at hl 3 rfl) ?_
        refine x_getN hx hb hts hi2 hown hK hW (h_v3) (e20 _ _ _ _ _ _) rfl 3 (Nat.le_of_ble_eq_true rfl) (NW.f hF.2.1 8 (q := ("MovesUp", 122, "MovesUp$Pupil", "itsClass", "I", "MovesUp")) rfl) (fun _ h => h) (v := .int (gI S 20 v3 3)) rfl dX6_rule_90 ?_
        obtain ⟨r2, S3, hc, hf⟩ := bd2_out hf
        refine y_l (va_runV (As := [.ref (B 20 v3), .int v9, .int t0, .int (gI S 20 v3 3)]) (rest := []) hfix (m_X6_endsBy l G B E S v3 (h_v3) v9 t0 (gI S 20 v3 3) r2 S3 hc) (cwV 4 hts gX6_rule_X6_endsBy rfl rfl rfl ⟨rfl, hd_X6_endsBy⟩ ⟨Nat.le_of_ble_eq_true rfl, Nat.le_of_ble_eq_true rfl⟩) (y_pv hF hW hS (c2 E) (e2 _ _ _ _ _ _) rfl) rfl rfl hl.1 rfl (lv_room (Nat.le_of_ble_eq_true rfl)) dX6_rule_93 ⟨Nat.le_of_ble_eq_true rfl, Nat.le_of_ble_eq_true rfl⟩) hS (fun H locs hW hS => ?_)
        refine lv_lstore (lv' := [(11, .long r2), (10, .int t0), (0, .ref (B 2 0)), (2, .int v2), (3, .ref (B 20 v3)), (4, .int v4), (5, .int v5), (6, .long v6), (8, .int v8), (9, .int v9)]) hx hb dX6_rule_96 hl (by decide) rfl (fun ls hl => ?_)
        refine lv_lload hx hb dX6_rule_98 (lv_at hl 0 rfl) ?_
        refine lv_lload hx hb dX6_rule_100 (lv_at hl 7 rfl) ?_
        refine W.lcmp hx hb dX6_rule_102 ?_
        refine lv_if_le (tgt := 114) hx hb dX6_rule_103 (by decide) (fun h => ?_) (fun h => ?_)
        · have h := (lg_cmp_le _ _).mp h
          have hf := if_t h hf
          exact w114 S3 v2 v3 v4 v5 v6 v8 (h_v3) hf _ _ _ hW hS (lv_sub hl [2, 3, 4, 5, 6, 7, 8] rfl)
        · have h := fun q => h ((lg_cmp_le _ _).mpr q)
          have hf := if_f h hf
          refine lv_lload hx hb dX6_rule_106 (lv_at hl 0 rfl) ?_
          refine lv_lstore (lv' := [(6, .long r2), (11, .long r2), (10, .int t0), (0, .ref (B 2 0)), (2, .int v2), (3, .ref (B 20 v3)), (4, .int v4), (5, .int v5), (8, .int v8), (9, .int v9)]) hx hb dX6_rule_108 hl (by decide) rfl (fun ls hl => ?_)
          refine lv_iload hx hb dX6_rule_110 (lv_at hl 8 rfl) ?_
          refine lv_istore (lv' := [(5, .int v8), (6, .long r2), (11, .long r2), (10, .int t0), (0, .ref (B 2 0)), (2, .int v2), (3, .ref (B 20 v3)), (4, .int v4), (8, .int v8), (9, .int v9)]) hx hb dX6_rule_112 hl (by decide) rfl (fun ls hl => ?_)
          exact w114 S3 v2 v3 v4 v8 r2 v8 (h_v3) hf _ _ _ hW hS (lv_sub hl [4, 5, 6, 7, 0, 1, 8] rfl)
      have w66 : ∀ (S : ST) (v2 : Int32) (v3 : Nat) (v4 : Int32) (v5 : Int32) (v6 : Int64) (v8 : Int32) (t0 : Int32) (h_v3 : v3 < cnt E 20), f_X6_rule_b66 E (f_X6_rule_b46 E n46) S v2 v3 v4 v5 v6 v8 t0 = some (rr, SS) → ∀ (H : Heap) (locs : List Loc) (ls : Array Slot), WH G B E S H → va_S (AA G) s.heap H locs → lv_has ls 13 [(0, .ref (B 2 0)), (2, .int v2), (3, .ref (B 20 v3)), (4, .int v4), (5, .int v5), (6, .long v6), (8, .int v8)] → W p l e (headSpec wsX6_rule (rmN 14)).room s m [.ref (B 2 0), .int a1, .int a2].toArray below meth c H locs 0 0 (MQ below (QI G B E SS rr) [.ref (B 2 0), .int a1, .int a2].toArray s 0 0 (AA G)) (F0 m 66 ls [.int t0]) := by
        intro S v2 v3 v4 v5 v6 v8 t0 h_v3 hf H locs ls hW hS hl
        unfold f_X6_rule_b66 at hf
        refine lv_istore (lv' := [(9, .int t0), (0, .ref (B 2 0)), (2, .int v2), (3, .ref (B 20 v3)), (4, .int v4), (5, .int v5), (6, .long v6), (8, .int v8)]) hx hb dX6_rule_66 hl (by decide) rfl (fun ls hl => ?_)
        refine lv_iload_n hx hb dX6_rule_68 rfl (lv_at hl 2 rfl) ?_
        refine lv_if_ne (tgt := 77) hx hb dX6_rule_69 (by decide) (fun h => ?_) (fun h => ?_)
        · have hf := if_f h hf
          refine lv_aload_n hx hb dX6_rule_77 rfl (lv_at hl 3 rfl) ?_
          refine x_getN hx hb hts hi2 hown hK hW (h_v3) (e20 _ _ _ _ _ _) rfl 2 (Nat.le_of_ble_eq_true rfl) (NW.f hF.2.1 7 (q := ("MovesUp", 128, "MovesUp$Pupil", "number", "I", "MovesUp")) rfl) (fun _ h => h) (v := .int (gI S 20 v3 2)) rfl dX6_rule_78 ?_
          exact w81 S v2 v3 v4 v5 v6 v8 t0 (gI S 20 v3 2) (h_v3) hf _ _ _ hW hS (lv_sub hl [1, 2, 3, 4, 5, 6, 7, 0] rfl)
        · have hf := if_t h hf
          refine lv_iload hx hb dX6_rule_72 (lv_at hl 7 rfl) ?_
          refine lv_goto (tgt := 81) hx hb dX6_rule_74 (by decide) ?_
          exact w81 S v2 v3 v4 v5 v6 v8 t0 v8 (h_v3) hf _ _ _ hW hS (lv_sub hl [1, 2, 3, 4, 5, 6, 7, 0] rfl)
      intro S v2 v3 v4 v5 v6 v8 h_v3 hf H locs ls hW hS hl
      have hf : g_X6_rule_b46 E (f_X6_rule_b46 E n46) S v2 v3 v4 v5 v6 v8 = some (rr, SS) := hf
      unfold g_X6_rule_b46 at hf
      refine lv_iload hx hb dX6_rule_46 (lv_at hl 6 rfl) ?_
      refine lv_iload hx hb dX6_rule_48 (lv_at hl 3 rfl) ?_
      refine lv_icmp_ge (tgt := 120) hx hb dX6_rule_50 (by decide) (fun h => ?_) (fun h => ?_)
      · have hf := if_t h hf
        refine lv_iload hx hb dX6_rule_120 (lv_at hl 4 rfl) ?_
        exact z_i hf hx hb hr rfl hF hW hS dX6_rule_122 hlocks
      · have hf := if_f h hf
        refine lv_iload_n hx hb dX6_rule_53 rfl (lv_at hl 1 rfl) ?_
        refine lv_if_ne (tgt := 64) hx hb dX6_rule_54 (by decide) (fun h => ?_) (fun h => ?_)
        · have hf := if_f h hf
          refine lv_iload hx hb dX6_rule_64 (lv_at hl 6 rfl) ?_
          exact w66 S v2 v3 v4 v5 v6 v8 v8 (h_v3) hf _ _ _ hW hS (lv_sub hl [0, 1, 2, 3, 4, 5, 6] rfl)
        · have hf := if_t h hf
          refine lv_aload_n hx hb dX6_rule_57 rfl (lv_at hl 2 rfl) ?_
          refine x_getN hx hb hts hi2 hown hK hW (h_v3) (e20 _ _ _ _ _ _) rfl 0 (Nat.le_of_ble_eq_true rfl) (NW.f hF.2.1 5 (q := ("MovesUp", 119, "MovesUp$Pupil", "kind", "I", "MovesUp")) rfl) (fun _ h => h) (v := .int (gI S 20 v3 0)) rfl dX6_rule_58 ?_
          refine lv_goto (tgt := 66) hx hb dX6_rule_61 (by decide) ?_
          exact w66 S v2 v3 v4 v5 v6 v8 (gI S 20 v3 0) (h_v3) hf _ _ _ hW hS (lv_sub hl [0, 1, 2, 3, 4, 5, 6] rfl)
  have w33 : ∀ (S : ST) (v2 : Int32) (v3 : Nat) (t0 : Int32) (h_v3 : v3 < cnt E 20), f_X6_rule_b33 E S v2 v3 t0 = some (rr, SS) → ∀ (H : Heap) (locs : List Loc) (ls : Array Slot), WH G B E S H → va_S (AA G) s.heap H locs → lv_has ls 13 [(0, .ref (B 2 0)), (2, .int v2), (3, .ref (B 20 v3))] → W p l e (headSpec wsX6_rule (rmN 14)).room s m [.ref (B 2 0), .int a1, .int a2].toArray below meth c H locs 0 0 (MQ below (QI G B E SS rr) [.ref (B 2 0), .int a1, .int a2].toArray s 0 0 (AA G)) (F0 m 33 ls [.int t0]) := by
    intro S v2 v3 t0 h_v3 hf H locs ls hW hS hl
    unfold f_X6_rule_b33 at hf
    refine lv_istore (lv' := [(4, .int t0), (0, .ref (B 2 0)), (2, .int v2), (3, .ref (B 20 v3))]) hx hb dX6_rule_33 hl (by decide) rfl (fun ls hl => ?_)
    refine lv_iconst (v := 0) hx hb dX6_rule_35 rfl ?_
    refine lv_istore (lv' := [(5, .int (0 : Int32)), (4, .int t0), (0, .ref (B 2 0)), (2, .int v2), (3, .ref (B 20 v3))]) hx hb dX6_rule_36 hl (by decide) rfl (fun ls hl => ?_)
    refine lv_ldc2 hx hb hown q0 dX6_rule_38 ?_
    refine lv_lstore (lv' := [(6, .long (-1 : Int64)), (5, .int (0 : Int32)), (4, .int t0), (0, .ref (B 2 0)), (2, .int v2), (3, .ref (B 20 v3))]) hx hb dX6_rule_41 hl (by decide) rfl (fun ls hl => ?_)
    refine lv_iconst (v := 0) hx hb dX6_rule_43 rfl ?_
    refine lv_istore (lv' := [(8, .int (0 : Int32)), (6, .long (-1 : Int64)), (5, .int (0 : Int32)), (4, .int t0), (0, .ref (B 2 0)), (2, .int v2), (3, .ref (B 20 v3))]) hx hb dX6_rule_44 hl (by decide) rfl (fun ls hl => ?_)
    exact w46 E.1 S v2 v3 t0 (0 : Int32) (-1 : Int64) (0 : Int32) (h_v3) hf _ _ _ hW hS (lv_sub hl [4, 5, 6, 3, 2, 1, 0] rfl)
  unfold f_X6_rule at hf
  refine lv_aload_n hx hb dX6_rule_0 rfl (lv_at hl 0 rfl) ?_
  refine lv_iload_n hx hb dX6_rule_1 rfl (lv_at hl 1 rfl) ?_
  obtain ⟨r4, hc, hf⟩ := bd_out hf
  refine y_q (va_runV (As := [.int a1]) (rest := []) hfix (m_X6_known l G B E S a1 r4 hc) (cwV 1 hts gX6_rule_X6_known rfl rfl rfl ⟨rfl, hd_X6_known⟩ ⟨Nat.le_of_ble_eq_true rfl, Nat.le_of_ble_eq_true rfl⟩) (y_pv hF hW hS (c2 E) (e2 _ _ _ _ _ _) rfl) rfl rfl hl.1 rfl (lv_room (Nat.le_of_ble_eq_true rfl)) dX6_rule_2 ⟨Nat.le_of_ble_eq_true rfl, Nat.le_of_ble_eq_true rfl⟩) hS (fun H locs hW hS => ?_)
  rcases r4 with _ | k5
  · have hf := nl_n hf
    refine lv_astore_nN (lv' := [(3, .null), (0, .ref (B 2 0)), (1, .int a1), (2, .int a2)]) hx hb dX6_rule_5 rfl hl (by decide) rfl (fun ls hl => ?_)
    refine lv_aload_nN hx hb dX6_rule_6 rfl (lv_at hl 0 rfl) ?_
    refine lv_ifnullN (tgt := 19) hx hb dX6_rule_7 (by decide) ?_
    refine lv_bipush (v := -2) hx hb dX6_rule_19 (by decide) ?_
    exact z_i hf hx hb hr rfl hF hW hS dX6_rule_21 hlocks
  · have hf := nl_s hf
    obtain ⟨hk6, hf⟩ := ck_out hf
    have hk6 := of_decide_eq_true hk6
    refine lv_astore_n (lv' := [(3, .ref (B 20 k5)), (0, .ref (B 2 0)), (1, .int a1), (2, .int a2)]) hx hb dX6_rule_5 rfl hl (by decide) rfl (fun ls hl => ?_)
    refine lv_aload_n hx hb dX6_rule_6 rfl (lv_at hl 0 rfl) ?_
    refine lv_ifnull hx hb dX6_rule_7 ?_
    refine lv_iload_n hx hb dX6_rule_10 rfl (lv_at hl 3 rfl) ?_
    refine lv_if_lt (tgt := 19) hx hb dX6_rule_11 (by decide) (fun h => ?_) (fun h => ?_)
    · have hf := if_t h hf
      refine lv_bipush (v := -2) hx hb dX6_rule_19 (by decide) ?_
      exact z_i hf hx hb hr rfl hF hW hS dX6_rule_21 hlocks
    · have hf := if_f h hf
      refine lv_iload_n hx hb dX6_rule_14 rfl (lv_at hl 3 rfl) ?_
      refine lv_iconst (v := 1) hx hb dX6_rule_15 rfl ?_
      refine lv_icmp_le (tgt := 22) hx hb dX6_rule_16 (by decide) (fun h => ?_) (fun h => ?_)
      · have hf := if_t h hf
        refine lv_iload_n hx hb dX6_rule_22 rfl (lv_at hl 3 rfl) ?_
        refine lv_if_ne (tgt := 31) hx hb dX6_rule_23 (by decide) (fun h => ?_) (fun h => ?_)
        · have hf := if_f h hf
          refine lv_bipush (v := 6) hx hb dX6_rule_31 (by decide) ?_
          exact w33 S a2 k5 (6 : Int32) (c20 hk6) hf _ _ _ hW hS (lv_sub hl [1, 3, 0] rfl)
        · have hf := if_t h hf
          refine lv_bipush (v := 10) hx hb dX6_rule_26 (by decide) ?_
          refine lv_goto (tgt := 33) hx hb dX6_rule_28 (by decide) ?_
          exact w33 S a2 k5 (10 : Int32) (c20 hk6) hf _ _ _ hW hS (lv_sub hl [1, 3, 0] rfl)
      · have hf := if_f h hf
        refine lv_bipush (v := -2) hx hb dX6_rule_19 (by decide) ?_
        exact z_i hf hx hb hr rfl hF hW hS dX6_rule_21 hlocks
set_option maxHeartbeats 4000000 in
set_option maxRecDepth 100000 in
theorem m_X6_laid (l : Launch) (G : GE) (B : Nat → Nat → Nat) (E : EN)  (S : ST) (a1 : Int32) (rr : (Option Nat)) (hf : f_X6_laid E S a1 = some rr) : Met l yX6_laid wsX6_laid (rmN 1) (va_Pc [.ref (B 2 0), .int a1] (WS G B E S)) (QQ G B E S (Option.map (B 24) rr)) 0 0 (AA G) := by
  refine Met.ofW (cc := cX6_laid) (maxL := 2) (ret := (some (.object "MovesUp$Row"))) (by decide) rfl ?_
  intro p e s m args below meth c s₁ B0 hml hv
  obtain ⟨rfl, hW, hF⟩ := hv
  have hx := B0.exec
  have hb := B0.bytes
  have hr := B0.returns
  have hts := atoms_spec (ws := wsX6_laid) B0.pre
  have hown : s.vm.findClass RX6 = some m.cls := findClass_of_methodNamed B0.named
  have hlocks := B0.notSynchronized
  have hK := hF.1
  have hfix : CallFix p m c cX6_laid 2 s [.ref (B 2 0), .int a1].toArray wsX6_laid RX6 := ⟨hx, hb, hml, hown, hts⟩
  have hS : va_S (AA G) s.heap s.heap [] := va_S.rf
  have hl := lv_entry [.ref (B 2 0), .int a1] (n := 2) (Nat.le_of_ble_eq_true rfl)
  rw [lg_entry_eq]
  generalize (lg_sl [.ref (B 2 0), .int a1] ++ List.replicate (2 - (lg_sl [.ref (B 2 0), .int a1]).length) Slot.unset).toArray = ls at hl ⊢
  have hl : lv_has ls 2 [(0, .ref (B 2 0)), (1, .int a1)] := hl
  have q0 := hts (.fieldLink RX6 40 "MovesUp" "rows" "[LMovesUp$Row;") (List.mem_of_getElem? (i := 1) rfl)
  have hi6 : ∀ w ∈ u_ws RX6 TX6 15, w ∈ wsX6_laid := in_seg 2 rfl
  unfold f_X6_laid at hf
  refine lv_iload_n hx hb dX6_laid_0 rfl (lv_at hl 1 rfl) ?_
  refine lv_if_lt (tgt := 18) hx hb dX6_laid_1 (by decide) (fun h => ?_) (fun h => ?_)
  · have hf := if_t h hf
    refine lv_null hx hb dX6_laid_18 ?_
    exact zr_q (o := none) hf hx hb hr (Or.inl ⟨_, rfl⟩) hF hW hS dX6_laid_19 hlocks
  · have hf := if_f h hf
    refine lv_iload_n hx hb dX6_laid_4 rfl (lv_at hl 1 rfl) ?_
    refine lv_iconst (v := 4) hx hb dX6_laid_5 rfl ?_
    refine lv_icmp_ge (tgt := 18) hx hb dX6_laid_6 (by decide) (fun h => ?_) (fun h => ?_)
    · have hf := if_t h hf
      refine lv_null hx hb dX6_laid_18 ?_
      exact zr_q (o := none) hf hx hb hr (Or.inl ⟨_, rfl⟩) hF hW hS dX6_laid_19 hlocks
    · have hf := if_f h hf
      refine lv_aload_n hx hb dX6_laid_9 rfl (lv_at hl 0 rfl) ?_
      refine x_get hx hb hts hi6 hown hK hW (c2 E) (e2 _ _ _ _ _ _) rfl 7 (Nat.le_of_ble_eq_true rfl) q0 (fun _ h => h) (v := .ref (B 6 0)) rfl dX6_laid_10 ?_
      refine lv_iload_n hx hb dX6_laid_13 rfl (lv_at hl 1 rfl) ?_
      obtain ⟨hi_1, hf⟩ := ck_out hf
      have hi_1 := ib_in hi_1
      refine x_aaldF hx hb hK hW (c6 E) (t := 6) rfl rfl (e6 _ _ _ _ _ _) hi_1 (jn := a1.toNatClampNeg) rfl dX6_laid_14 ?_
      refine lv_goto (tgt := 19) hx hb dX6_laid_15 (by decide) ?_
      exact zr_q (o := (some a1.toNatClampNeg)) hf hx hb hr (Or.inl ⟨_, rfl⟩) hF hW hS dX6_laid_19 hlocks
set_option maxHeartbeats 4000000 in
set_option maxRecDepth 100000 in
theorem m_X6_likeliest (l : Launch) (G : GE) (B : Nat → Nat → Nat) (E : EN)  (S : ST) (a1 : Int32) (rr : Int32) (hf : f_X6_likeliest E S a1 = some rr) : Met l yX6_likeliest wsX6_likeliest (rmN 1) (va_Pc [.ref (B 2 0), .int a1] (WS G B E S)) (QI G B E S rr) 0 0 (AA G) := by
  refine Met.ofW (cc := cX6_likeliest) (maxL := 6) (ret := (some .int)) (by decide) rfl ?_
  intro p e s m args below meth c s₁ B0 hml hv
  obtain ⟨rfl, hW, hF⟩ := hv
  have hx := B0.exec
  have hb := B0.bytes
  have hr := B0.returns
  have hts := atoms_spec (ws := wsX6_likeliest) B0.pre
  have hown : s.vm.findClass RX6 = some m.cls := findClass_of_methodNamed B0.named
  have hlocks := B0.notSynchronized
  have hK := hF.1
  have hfix : CallFix p m c cX6_likeliest 6 s [.ref (B 2 0), .int a1].toArray wsX6_likeliest RX6 := ⟨hx, hb, hml, hown, hts⟩
  have hS : va_S (AA G) s.heap s.heap [] := va_S.rf
  have hl := lv_entry [.ref (B 2 0), .int a1] (n := 6) (Nat.le_of_ble_eq_true rfl)
  rw [lg_entry_eq]
  generalize (lg_sl [.ref (B 2 0), .int a1] ++ List.replicate (6 - (lg_sl [.ref (B 2 0), .int a1]).length) Slot.unset).toArray = ls at hl ⊢
  have hl : lv_has ls 6 [(0, .ref (B 2 0)), (1, .int a1)] := hl
  have q0 := hts (.fieldLink RX6 15 "MovesUp" "rollSize" "I") (List.mem_of_getElem? (i := 2) rfl)
  have q1 := hts (.fieldLink RX6 69 "MovesUp" "shares" "[J") (List.mem_of_getElem? (i := 3) rfl)
  have q2 := hts (.constantLong RX6 199 (-1)) (List.mem_of_getElem? (i := 1) rfl)
  have hi6 : ∀ w ∈ u_ws RX6 TX6 15, w ∈ wsX6_likeliest := in_seg 4 rfl
  have w9 : ∀ (n9 : Nat) (_ : Unit) (v1 : Int32) (v2 : Int32) (v3 : Int64) (v5 : Int32) , f_X6_likeliest_b9 E n9 S v1 v2 v3 v5 = some rr → ∀ (H : Heap) (locs : List Loc) (ls : Array Slot), WH G B E S H → va_S (AA G) s.heap H locs → lv_has ls 6 [(0, .ref (B 2 0)), (1, .int v1), (2, .int v2), (3, .long v3), (5, .int v5)] → W p l e (headSpec wsX6_likeliest (rmN 1)).room s m [.ref (B 2 0), .int a1].toArray below meth c H locs 0 0 (MQ below (QI G B E S rr) [.ref (B 2 0), .int a1].toArray s 0 0 (AA G)) (F0 m 9 ls []) := by
    intro n9
    induction n9 with
    | zero =>
      intro _ v1 v2 v3 v5 hf
      exact absurd (show (none : Option Int32) = some rr from hf) (fun h => by cases h)
    | succ n9 ih9 =>
      have w51 : ∀ (_ : Unit) (v1 : Int32) (v2 : Int32) (v3 : Int64) (v5 : Int32) , f_X6_likeliest_b51 E (f_X6_likeliest_b9 E n9) S v1 v2 v3 v5 = some rr → ∀ (H : Heap) (locs : List Loc) (ls : Array Slot), WH G B E S H → va_S (AA G) s.heap H locs → lv_has ls 6 [(0, .ref (B 2 0)), (1, .int v1), (2, .int v2), (3, .long v3), (5, .int v5)] → W p l e (headSpec wsX6_likeliest (rmN 1)).room s m [.ref (B 2 0), .int a1].toArray below meth c H locs 0 0 (MQ below (QI G B E S rr) [.ref (B 2 0), .int a1].toArray s 0 0 (AA G)) (F0 m 51 ls []) := by
        intro _ v1 v2 v3 v5 hf H locs ls hW hS hl
        unfold f_X6_likeliest_b51 at hf
        obtain ⟨x1, e_x1, hf⟩ := lt_out hf
        refine lv_iinc (v := x1) (lv' := [(5, .int x1), (0, .ref (B 2 0)), (1, .int v1), (2, .int v2), (3, .long v3)]) hx hb dX6_likeliest_51 hl (k := 4) rfl (by rw [e_x1]; rfl) (by decide) rfl (fun ls hl => ?_)
        refine lv_goto (tgt := 9) hx hb dX6_likeliest_54 (by decide) ?_
        exact ih9 () v1 v2 v3 x1  hf _ _ _ hW hS (lv_sub hl [1, 2, 3, 4, 0] rfl)
      intro _ v1 v2 v3 v5 hf H locs ls hW hS hl
      have hf : g_X6_likeliest_b9 E (f_X6_likeliest_b9 E n9) S v1 v2 v3 v5 = some rr := hf
      unfold g_X6_likeliest_b9 at hf
      refine lv_iload hx hb dX6_likeliest_9 (lv_at hl 4 rfl) ?_
      refine lv_aload_n hx hb dX6_likeliest_11 rfl (lv_at hl 0 rfl) ?_
      refine x_get hx hb hts hi6 hown hK hW (c2 E) (e2 _ _ _ _ _ _) rfl 1 (Nat.le_of_ble_eq_true rfl) q0 (fun _ h => h) (v := .int (gI S 2 0 1)) rfl dX6_likeliest_12 ?_
      refine lv_icmp_ge (tgt := 57) hx hb dX6_likeliest_15 (by decide) (fun h => ?_) (fun h => ?_)
      · have hf := if_t h hf
        refine lv_iload_n hx hb dX6_likeliest_57 rfl (lv_at hl 2 rfl) ?_
        exact zr_i hf hx hb hr rfl hF hW hS dX6_likeliest_58 hlocks
      · have hf := if_f h hf
        refine lv_iload_n hx hb dX6_likeliest_18 rfl (lv_at hl 1 rfl) ?_
        refine lv_iload hx hb dX6_likeliest_19 (lv_at hl 4 rfl) ?_
        refine lv_ishr hx hb dX6_likeliest_21 ?_
        refine lv_iconst (v := 1) hx hb dX6_likeliest_22 rfl ?_
        refine lv_iand hx hb dX6_likeliest_23 ?_
        refine lv_iconst (v := 1) hx hb dX6_likeliest_24 rfl ?_
        refine lv_icmp_ne (tgt := 51) hx hb dX6_likeliest_25 (by decide) (fun h => ?_) (fun h => ?_)
        · have hf := if_f h hf
          exact w51 () v1 v2 v3 v5  hf _ _ _ hW hS (lv_sub hl [0, 1, 2, 3, 4] rfl)
        · have hf := if_t h hf
          refine lv_aload_n hx hb dX6_likeliest_28 rfl (lv_at hl 0 rfl) ?_
          refine x_get hx hb hts hi6 hown hK hW (c2 E) (e2 _ _ _ _ _ _) rfl 11 (Nat.le_of_ble_eq_true rfl) q1 (fun _ h => h) (v := .ref (B 7 0)) rfl dX6_likeliest_29 ?_
          refine lv_iload hx hb dX6_likeliest_32 (lv_at hl 4 rfl) ?_
          obtain ⟨hi_2, hf⟩ := ck_out hf
          have hi_2 := ib_in hi_2
          refine x_lald hx hb hK hW (c7 E) (e7 _ _ _ _ _ _) hi_2 (jn := v5.toNatClampNeg) rfl dX6_likeliest_34 ?_
          refine lv_lload_n hx hb dX6_likeliest_35 rfl (lv_at hl 3 rfl) ?_
          refine W.lcmp hx hb dX6_likeliest_36 ?_
          refine lv_if_le (tgt := 51) hx hb dX6_likeliest_37 (by decide) (fun h => ?_) (fun h => ?_)
          · have h := (lg_cmp_le _ _).mp h
            have hf := if_t h hf
            exact w51 () v1 v2 v3 v5  hf _ _ _ hW hS (lv_sub hl [0, 1, 2, 3, 4] rfl)
          · have h := fun q => h ((lg_cmp_le _ _).mpr q)
            have hf := if_f h hf
            refine lv_aload_n hx hb dX6_likeliest_40 rfl (lv_at hl 0 rfl) ?_
            refine x_get hx hb hts hi6 hown hK hW (c2 E) (e2 _ _ _ _ _ _) rfl 11 (Nat.le_of_ble_eq_true rfl) q1 (fun _ h => h) (v := .ref (B 7 0)) rfl dX6_likeliest_41 ?_
            refine lv_iload hx hb dX6_likeliest_44 (lv_at hl 4 rfl) ?_
            refine x_lald hx hb hK hW (c7 E) (e7 _ _ _ _ _ _) hi_2 (jn := v5.toNatClampNeg) rfl dX6_likeliest_46 ?_
            obtain ⟨x3, e_x3, hf⟩ := lt_out hf
            refine x_nmL e_x3 ?_
            refine lv_lstore_n (lv' := [(3, .long x3), (0, .ref (B 2 0)), (1, .int v1), (2, .int v2), (5, .int v5)]) hx hb dX6_likeliest_47 rfl hl (by decide) rfl (fun ls hl => ?_)
            refine lv_iload hx hb dX6_likeliest_48 (lv_at hl 4 rfl) ?_
            refine lv_istore_n (lv' := [(2, .int v5), (3, .long x3), (0, .ref (B 2 0)), (1, .int v1), (5, .int v5)]) hx hb dX6_likeliest_50 rfl hl (by decide) rfl (fun ls hl => ?_)
            exact w51 () v1 v5 x3 v5  hf _ _ _ hW hS (lv_sub hl [2, 3, 0, 1, 4] rfl)
  unfold f_X6_likeliest at hf
  refine lv_iconst (v := 0) hx hb dX6_likeliest_0 rfl ?_
  refine lv_istore_n (lv' := [(2, .int (0 : Int32)), (0, .ref (B 2 0)), (1, .int a1)]) hx hb dX6_likeliest_1 rfl hl (by decide) rfl (fun ls hl => ?_)
  refine lv_ldc2 hx hb hown q2 dX6_likeliest_2 ?_
  refine lv_lstore_n (lv' := [(3, .long (-1 : Int64)), (2, .int (0 : Int32)), (0, .ref (B 2 0)), (1, .int a1)]) hx hb dX6_likeliest_5 rfl hl (by decide) rfl (fun ls hl => ?_)
  refine lv_iconst (v := 0) hx hb dX6_likeliest_6 rfl ?_
  refine lv_istore (lv' := [(5, .int (0 : Int32)), (3, .long (-1 : Int64)), (2, .int (0 : Int32)), (0, .ref (B 2 0)), (1, .int a1)]) hx hb dX6_likeliest_7 hl (by decide) rfl (fun ls hl => ?_)
  exact w9 E.1 () a1 (0 : Int32) (-1 : Int64) (0 : Int32)  hf _ _ _ hW hS (lv_sub hl [3, 4, 2, 1, 0] rfl)
set_option maxHeartbeats 4000000 in
set_option maxRecDepth 100000 in
theorem m_X6_room (l : Launch) (G : GE) (B : Nat → Nat → Nat) (E : EN)  (S : ST) (a1 : Int32) (a2 : Int32) (a3 : Int32) (rr : Int32) (SS : ST) (hf : f_X6_room E S a1 a2 a3 = some (rr, SS)) : Met l yX6_room wsX6_room (rmN 7) (va_Pc [.ref (B 2 0), .int a1, .int a2, .int a3] (WS G B E S)) (QI G B E SS rr) 0 0 (AA G) := by
  refine Met.ofW (cc := cX6_room) (maxL := 7) (ret := (some .int)) (by decide) rfl ?_
  intro p e s m args below meth c s₁ B0 hml hv
  obtain ⟨rfl, hW, hF⟩ := hv
  have hx := B0.exec
  have hb := B0.bytes
  have hr := B0.returns
  have hts := atoms_spec (ws := wsX6_room) B0.pre
  have hown : s.vm.findClass RX6 = some m.cls := findClass_of_methodNamed B0.named
  have hlocks := B0.notSynchronized
  have hK := hF.1
  have hfix : CallFix p m c cX6_room 7 s [.ref (B 2 0), .int a1, .int a2, .int a3].toArray wsX6_room RX6 := ⟨hx, hb, hml, hown, hts⟩
  have hS : va_S (AA G) s.heap s.heap [] := va_S.rf
  have hl := lv_entry [.ref (B 2 0), .int a1, .int a2, .int a3] (n := 7) (Nat.le_of_ble_eq_true rfl)
  rw [lg_entry_eq]
  generalize (lg_sl [.ref (B 2 0), .int a1, .int a2, .int a3] ++ List.replicate (7 - (lg_sl [.ref (B 2 0), .int a1, .int a2, .int a3]).length) Slot.unset).toArray = ls at hl ⊢
  have hl : lv_has ls 7 [(0, .ref (B 2 0)), (1, .int a1), (2, .int a2), (3, .int a3)] := hl
  have q0 := hts (.fieldLink RX6 15 "MovesUp" "rollSize" "I") (List.mem_of_getElem? (i := 1) rfl)
  have q1 := hts (.fieldLink RX6 11 "MovesUp" "roll" "[LMovesUp$Pupil;") (List.mem_of_getElem? (i := 2) rfl)
  have q2 := hts (.fieldLink RX6 69 "MovesUp" "shares" "[J") (List.mem_of_getElem? (i := 3) rfl)
  have q3 := hts (.fieldLink RX6 65 "MovesUp" "course" "LMovesUp$Course;") (List.mem_of_getElem? (i := 4) rfl)
  have q4 := hts (.initialized RX1) (List.mem_of_getElem? (i := 38) rfl)
  have q5 := hts (.instanceMethod yX1_share) (List.mem_of_getElem? (i := 113) rfl)
  have q6 := hts (.selects RX1 yX1_share yX1_share) (List.mem_of_getElem? (i := 114) rfl)
  have hi6 : ∀ w ∈ u_ws RX6 TX6 15, w ∈ wsX6_room := in_seg 134 rfl
  have hi4 : ∀ w ∈ u_ws RX4 TX4 3, w ∈ wsX6_room := in_seg 149 rfl
  have w169 : ∀ (n169 : Nat) (S : ST) (v1 : Int32) (v2 : Int32) (v5 : Int32) (v6 : Int32) , f_X6_room_b169 E n169 S v1 v2 v5 v6 = some (rr, SS) → ∀ (H : Heap) (locs : List Loc) (ls : Array Slot), WH G B E S H → va_S (AA G) s.heap H locs → lv_has ls 7 [(0, .ref (B 2 0)), (1, .int v1), (2, .int v2), (5, .int v5), (6, .int v6)] → W p l e (headSpec wsX6_room (rmN 7)).room s m [.ref (B 2 0), .int a1, .int a2, .int a3].toArray below meth c H locs 0 0 (MQ below (QI G B E SS rr) [.ref (B 2 0), .int a1, .int a2, .int a3].toArray s 0 0 (AA G)) (F0 m 169 ls []) := by
    intro n169
    induction n169 with
    | zero =>
      intro S v1 v2 v5 v6 hf
      exact absurd (show (none : Option (Int32 × ST)) = some (rr, SS) from hf) (fun h => by cases h)
    | succ n169 ih169 =>
      intro S v1 v2 v5 v6 hf H locs ls hW hS hl
      have hf : g_X6_room_b169 E (f_X6_room_b169 E n169) S v1 v2 v5 v6 = some (rr, SS) := hf
      unfold g_X6_room_b169 at hf
      refine lv_iload hx hb dX6_room_169 (lv_at hl 4 rfl) ?_
      refine lv_iload_n hx hb dX6_room_171 rfl (lv_at hl 2 rfl) ?_
      refine lv_icmp_ge (tgt := 204) hx hb dX6_room_172 (by decide) (fun h => ?_) (fun h => ?_)
      · have hf := if_t h hf
        refine lv_iload hx hb dX6_room_204 (lv_at hl 3 rfl) ?_
        exact z_i hf hx hb hr rfl hF hW hS dX6_room_206 hlocks
      · have hf := if_f h hf
        refine lv_iload hx hb dX6_room_175 (lv_at hl 3 rfl) ?_
        refine lv_iload_n hx hb dX6_room_177 rfl (lv_at hl 1 rfl) ?_
        refine lv_icmp_eq (tgt := 204) hx hb dX6_room_178 (by decide) (fun h => ?_) (fun h => ?_)
        · have hf := if_t h hf
          refine lv_iload hx hb dX6_room_204 (lv_at hl 3 rfl) ?_
          exact z_i hf hx hb hr rfl hF hW hS dX6_room_206 hlocks
        · have hf := if_f h hf
          refine lv_iload hx hb dX6_room_181 (lv_at hl 3 rfl) ?_
          refine lv_iconst (v := 1) hx hb dX6_room_183 rfl ?_
          refine lv_aload_n hx hb dX6_room_184 rfl (lv_at hl 0 rfl) ?_
          refine lv_iload_n hx hb dX6_room_185 rfl (lv_at hl 1 rfl) ?_
          refine lv_iload hx hb dX6_room_186 (lv_at hl 3 rfl) ?_
          refine lv_iconst (v := -1) hx hb dX6_room_188 rfl ?_
          refine lv_ixor hx hb dX6_room_189 ?_
          refine lv_iand hx hb dX6_room_190 ?_
          obtain ⟨r1, hc, hf⟩ := bd_out hf
          refine y_i (va_runV (As := [.int (v1 &&& (v5 ^^^ (-1 : Int32)))]) (rest := [.int (1 : Int32), .int v5]) hfix (m_X6_likeliest l G B E S (v1 &&& (v5 ^^^ (-1 : Int32))) r1 hc) (cwV 1 hts gX6_room_X6_likeliest rfl rfl rfl ⟨rfl, hd_X6_likeliest⟩ ⟨Nat.le_of_ble_eq_true rfl, Nat.le_of_ble_eq_true rfl⟩) (y_pv hF hW hS (c2 E) (e2 _ _ _ _ _ _) rfl) rfl rfl hl.1 rfl (lv_room (Nat.le_of_ble_eq_true rfl)) dX6_room_191 ⟨Nat.le_of_ble_eq_true rfl, Nat.le_of_ble_eq_true rfl⟩) hS (fun H locs hW hS => ?_)
          refine lv_ishl hx hb dX6_room_194 ?_
          refine lv_ior hx hb dX6_room_195 ?_
          obtain ⟨x2, e_x2, hf⟩ := lt_out hf
          refine x_nmI e_x2 ?_
          refine lv_istore (lv' := [(5, .int x2), (0, .ref (B 2 0)), (1, .int v1), (2, .int v2), (6, .int v6)]) hx hb dX6_room_196 hl (by decide) rfl (fun ls hl => ?_)
          obtain ⟨x3, e_x3, hf⟩ := lt_out hf
          refine lv_iinc (v := x3) (lv' := [(6, .int x3), (5, .int x2), (0, .ref (B 2 0)), (1, .int v1), (2, .int v2)]) hx hb dX6_room_198 hl (k := 4) rfl (by rw [e_x3]; rfl) (by decide) rfl (fun ls hl => ?_)
          refine lv_goto (tgt := 169) hx hb dX6_room_201 (by decide) ?_
          exact ih169 S v1 v2 x2 x3  hf _ _ _ hW hS (lv_sub hl [2, 3, 4, 1, 0] rfl)
  have w163 : ∀ (S : ST) (v1 : Int32) (v2 : Int32) , f_X6_room_b163 E S v1 v2 = some (rr, SS) → ∀ (H : Heap) (locs : List Loc) (ls : Array Slot), WH G B E S H → va_S (AA G) s.heap H locs → lv_has ls 7 [(0, .ref (B 2 0)), (1, .int v1), (2, .int v2)] → W p l e (headSpec wsX6_room (rmN 7)).room s m [.ref (B 2 0), .int a1, .int a2, .int a3].toArray below meth c H locs 0 0 (MQ below (QI G B E SS rr) [.ref (B 2 0), .int a1, .int a2, .int a3].toArray s 0 0 (AA G)) (F0 m 163 ls []) := by
    intro S v1 v2 hf H locs ls hW hS hl
    unfold f_X6_room_b163 at hf
    refine lv_iconst (v := 0) hx hb dX6_room_163 rfl ?_
    refine lv_istore (lv' := [(5, .int (0 : Int32)), (0, .ref (B 2 0)), (1, .int v1), (2, .int v2)]) hx hb dX6_room_164 hl (by decide) rfl (fun ls hl => ?_)
    refine lv_iconst (v := 0) hx hb dX6_room_166 rfl ?_
    refine lv_istore (lv' := [(6, .int (0 : Int32)), (5, .int (0 : Int32)), (0, .ref (B 2 0)), (1, .int v1), (2, .int v2)]) hx hb dX6_room_167 hl (by decide) rfl (fun ls hl => ?_)
    exact w169 E.1 S v1 v2 (0 : Int32) (0 : Int32)  hf _ _ _ hW hS (lv_sub hl [2, 3, 4, 1, 0] rfl)
  have w104 : ∀ (n104 : Nat) (S : ST) (v1 : Int32) (v2 : Int32) (v4 : Nat) (v5 : Int32) (h_v4 : v4 < cnt E 24), f_X6_room_b104 E n104 S v1 v2 v4 v5 = some (rr, SS) → ∀ (H : Heap) (locs : List Loc) (ls : Array Slot), WH G B E S H → va_S (AA G) s.heap H locs → lv_has ls 7 [(0, .ref (B 2 0)), (1, .int v1), (2, .int v2), (4, .ref (B 24 v4)), (5, .int v5)] → W p l e (headSpec wsX6_room (rmN 7)).room s m [.ref (B 2 0), .int a1, .int a2, .int a3].toArray below meth c H locs 0 0 (MQ below (QI G B E SS rr) [.ref (B 2 0), .int a1, .int a2, .int a3].toArray s 0 0 (AA G)) (F0 m 104 ls []) := by
    intro n104
    induction n104 with
    | zero =>
      intro S v1 v2 v4 v5 h_v4 hf
      exact absurd (show (none : Option (Int32 × ST)) = some (rr, SS) from hf) (fun h => by cases h)
    | succ n104 ih104 =>
      intro S v1 v2 v4 v5 h_v4 hf H locs ls hW hS hl
      have hf : g_X6_room_b104 E (f_X6_room_b104 E n104) S v1 v2 v4 v5 = some (rr, SS) := hf
      unfold g_X6_room_b104 at hf
      refine lv_iload hx hb dX6_room_104 (lv_at hl 4 rfl) ?_
      refine lv_aload_n hx hb dX6_room_106 rfl (lv_at hl 0 rfl) ?_
      refine x_get hx hb hts hi6 hown hK hW (c2 E) (e2 _ _ _ _ _ _) rfl 1 (Nat.le_of_ble_eq_true rfl) q0 (fun _ h => h) (v := .int (gI S 2 0 1)) rfl dX6_room_107 ?_
      refine lv_icmp_ge (tgt := 163) hx hb dX6_room_110 (by decide) (fun h => ?_) (fun h => ?_)
      · have hf := if_t h hf
        exact w163 S v1 v2  hf _ _ _ hW hS (lv_sub hl [0, 1, 2] rfl)
      · have hf := if_f h hf
        refine lv_aload_n hx hb dX6_room_113 rfl (lv_at hl 0 rfl) ?_
        refine lv_aload_n hx hb dX6_room_114 rfl (lv_at hl 0 rfl) ?_
        refine x_get hx hb hts hi6 hown hK hW (c2 E) (e2 _ _ _ _ _ _) rfl 0 (Nat.le_of_ble_eq_true rfl) q1 (fun _ h => h) (v := .ref (B 3 0)) rfl dX6_room_115 ?_
        refine lv_iload hx hb dX6_room_118 (lv_at hl 4 rfl) ?_
        obtain ⟨hi_4, hf⟩ := ck_out hf
        have hi_4 := ib_in hi_4
        refine x_aaldN hx hb hK hW (c3 E) (t := 4) rfl rfl (e3 _ _ _ _ _ _) hi_4 (jn := v5.toNatClampNeg) rfl dX6_room_120 ?_
        obtain ⟨o5, e_o5, hf⟩ := lt_out hf
        refine x_nmN e_o5 ?_
        rcases o5 with _ | k6
        · have hf := nl_n hf
          refine lv_aload hx hb dX6_room_121 (lv_at hl 3 rfl) ?_
          refine x_getN hx hb hts hi4 hown hK hW (h_v4) (e24 _ _ _ _ _ _) rfl 2 (Nat.le_of_ble_eq_true rfl) (NW.f hF.2.1 2 (q := ("MovesUp", 209, "MovesUp$Row", "items", "[I", "MovesUp")) rfl) (fun _ h => h) (v := .ref (B 25 v4)) rfl dX6_room_123 ?_
          refine lv_iload hx hb dX6_room_126 (lv_at hl 4 rfl) ?_
          obtain ⟨hi_8, hf⟩ := ck_out hf
          have hi_8 := ib_in hi_8
          refine x_iald hx hb hK hW (cv24_25 (h_v4)) (e25 _ _ _ _ _ _) hi_8 (jn := v5.toNatClampNeg) rfl dX6_room_128 ?_
          exact absurd hf (by intro h; cases h)
        · have hf := nl_s hf
          obtain ⟨hk7, hf⟩ := ck_out hf
          have hk7 := of_decide_eq_true hk7
          refine lv_aload hx hb dX6_room_121 (lv_at hl 3 rfl) ?_
          refine x_getN hx hb hts hi4 hown hK hW (h_v4) (e24 _ _ _ _ _ _) rfl 2 (Nat.le_of_ble_eq_true rfl) (NW.f hF.2.1 2 (q := ("MovesUp", 209, "MovesUp$Row", "items", "[I", "MovesUp")) rfl) (fun _ h => h) (v := .ref (B 25 v4)) rfl dX6_room_123 ?_
          refine lv_iload hx hb dX6_room_126 (lv_at hl 4 rfl) ?_
          obtain ⟨hi_9, hf⟩ := ck_out hf
          have hi_9 := ib_in hi_9
          refine x_iald hx hb hK hW (cv24_25 (h_v4)) (e25 _ _ _ _ _ _) hi_9 (jn := v5.toNatClampNeg) rfl dX6_room_128 ?_
          obtain ⟨S10, hc, hf⟩ := bd_out hf
          refine y_v (va_runV (As := [.ref (B 20 k6), .int (gI S 25 v4 v5.toNatClampNeg)]) (rest := []) hfix (m_X6_follow l G B E S k6 (c20 hk7) (gI S 25 v4 v5.toNatClampNeg) S10 hc) (cwV 2 hts gX6_room_X6_follow rfl rfl rfl ⟨rfl, hd_X6_follow⟩ ⟨Nat.le_of_ble_eq_true rfl, Nat.le_of_ble_eq_true rfl⟩) (y_pv hF hW hS (c2 E) (e2 _ _ _ _ _ _) rfl) rfl rfl hl.1 rfl (lv_room (Nat.le_of_ble_eq_true rfl)) dX6_room_129 ⟨Nat.le_of_ble_eq_true rfl, Nat.le_of_ble_eq_true rfl⟩) hS (fun H locs hW hS => ?_)
          refine lv_aload_n hx hb dX6_room_132 rfl (lv_at hl 0 rfl) ?_
          refine x_get hx hb hts hi6 hown hK hW (c2 E) (e2 _ _ _ _ _ _) rfl 11 (Nat.le_of_ble_eq_true rfl) q2 (fun _ h => h) (v := .ref (B 7 0)) rfl dX6_room_133 ?_
          refine lv_iload hx hb dX6_room_136 (lv_at hl 4 rfl) ?_
          refine lv_aload_n hx hb dX6_room_138 rfl (lv_at hl 0 rfl) ?_
          refine x_get hx hb hts hi6 hown hK hW (c2 E) (e2 _ _ _ _ _ _) rfl 10 (Nat.le_of_ble_eq_true rfl) q3 (fun _ h => h) (v := .ref (B 16 0)) rfl dX6_room_139 ?_
          refine lv_aload hx hb dX6_room_142 (lv_at hl 3 rfl) ?_
          refine x_getN hx hb hts hi4 hown hK hW (h_v4) (e24 _ _ _ _ _ _) rfl 2 (Nat.le_of_ble_eq_true rfl) (NW.f hF.2.1 2 (q := ("MovesUp", 209, "MovesUp$Row", "items", "[I", "MovesUp")) rfl) (fun _ h => h) (v := .ref (B 25 v4)) rfl dX6_room_144 ?_
          refine lv_iload hx hb dX6_room_147 (lv_at hl 4 rfl) ?_
          refine x_iald hx hb hK hW (cv24_25 (h_v4)) (e25 _ _ _ _ _ _) hi_9 (jn := v5.toNatClampNeg) rfl dX6_room_149 ?_
          refine lv_bipush (v := 100) hx hb dX6_room_150 (by decide) ?_
          refine lv_idiv hx hb dX6_room_152 (by decide) ?_
          obtain ⟨r11, hc, hf⟩ := bd_out hf
          refine y_l (va_runVN (As := [.int ((gI S10 25 v4 v5.toNatClampNeg) / (100 : Int32))]) (rest := [.int v5, .ref (B 7 0)]) hfix (m_X1_share l G B E S10 ((gI S10 25 v4 v5.toNatClampNeg) / (100 : Int32)) r11 hc) ⟨va_cnB 1 hts gX6_room_X1_share_n212 rfl rfl rfl (NW.m hF.2.1 24 (q := ("MovesUp", 212, "MovesUp$Course", "share", "(I)J", "MovesUp")) rfl) q4 hd_X1_share ⟨Nat.le_of_ble_eq_true rfl, Nat.le_of_ble_eq_true rfl⟩, q5, q6⟩ (y_pv hF hW hS (c16 E) (e16 _ _ _ _ _ _) rfl) rfl rfl hl.1 rfl (lv_room (Nat.le_of_ble_eq_true rfl)) dX6_room_153 ⟨Nat.le_of_ble_eq_true rfl, Nat.le_of_ble_eq_true rfl⟩) hS (fun H locs hW hS => ?_)
          obtain ⟨S12, e_S12, hf⟩ := lt_out hf
          refine x_last hx hb hK hW hS (c7 E) (fun g => e7 _ _ _ _ g _) hi_4 (jn := v5.toNatClampNeg) rfl e_S12 dX6_room_156 (fun H locs hW hS => ?_)
          obtain ⟨x13, e_x13, hf⟩ := lt_out hf
          refine lv_iinc (v := x13) (lv' := [(5, .int x13), (0, .ref (B 2 0)), (1, .int v1), (2, .int v2), (4, .ref (B 24 v4))]) hx hb dX6_room_157 hl (k := 4) rfl (by rw [e_x13]; rfl) (by decide) rfl (fun ls hl => ?_)
          refine lv_goto (tgt := 104) hx hb dX6_room_160 (by decide) ?_
          exact ih104 S12 v1 v2 v4 x13 (h_v4) hf _ _ _ hW hS (lv_sub hl [1, 2, 3, 4, 0] rfl)
  have w101 : ∀ (S : ST) (v1 : Int32) (v2 : Int32) (v4 : Nat) (h_v4 : v4 < cnt E 24), f_X6_room_b101 E S v1 v2 v4 = some (rr, SS) → ∀ (H : Heap) (locs : List Loc) (ls : Array Slot), WH G B E S H → va_S (AA G) s.heap H locs → lv_has ls 7 [(0, .ref (B 2 0)), (1, .int v1), (2, .int v2), (4, .ref (B 24 v4))] → W p l e (headSpec wsX6_room (rmN 7)).room s m [.ref (B 2 0), .int a1, .int a2, .int a3].toArray below meth c H locs 0 0 (MQ below (QI G B E SS rr) [.ref (B 2 0), .int a1, .int a2, .int a3].toArray s 0 0 (AA G)) (F0 m 101 ls []) := by
    intro S v1 v2 v4 h_v4 hf H locs ls hW hS hl
    unfold f_X6_room_b101 at hf
    refine lv_iconst (v := 0) hx hb dX6_room_101 rfl ?_
    refine lv_istore (lv' := [(5, .int (0 : Int32)), (0, .ref (B 2 0)), (1, .int v1), (2, .int v2), (4, .ref (B 24 v4))]) hx hb dX6_room_102 hl (by decide) rfl (fun ls hl => ?_)
    exact w104 E.1 S v1 v2 v4 (0 : Int32) (h_v4) hf _ _ _ hW hS (lv_sub hl [1, 2, 3, 4, 0] rfl)
  have w69 : ∀ (n69 : Nat) (S : ST) (v1 : Int32) (v2 : Int32) (v4 : Nat) (v5 : Int32) (h_v4 : v4 < cnt E 24), f_X6_room_b69 E n69 S v1 v2 v4 v5 = some (rr, SS) → ∀ (H : Heap) (locs : List Loc) (ls : Array Slot), WH G B E S H → va_S (AA G) s.heap H locs → lv_has ls 7 [(0, .ref (B 2 0)), (1, .int v1), (2, .int v2), (4, .ref (B 24 v4)), (5, .int v5)] → W p l e (headSpec wsX6_room (rmN 7)).room s m [.ref (B 2 0), .int a1, .int a2, .int a3].toArray below meth c H locs 0 0 (MQ below (QI G B E SS rr) [.ref (B 2 0), .int a1, .int a2, .int a3].toArray s 0 0 (AA G)) (F0 m 69 ls []) := by
    intro n69
    induction n69 with
    | zero =>
      intro S v1 v2 v4 v5 h_v4 hf
      exact absurd (show (none : Option (Int32 × ST)) = some (rr, SS) from hf) (fun h => by cases h)
    | succ n69 ih69 =>
      intro S v1 v2 v4 v5 h_v4 hf H locs ls hW hS hl
      have hf : g_X6_room_b69 E (f_X6_room_b69 E n69) S v1 v2 v4 v5 = some (rr, SS) := hf
      unfold g_X6_room_b69 at hf
      refine lv_iload hx hb dX6_room_69 (lv_at hl 4 rfl) ?_
      refine lv_aload_n hx hb dX6_room_71 rfl (lv_at hl 0 rfl) ?_
      refine x_get hx hb hts hi6 hown hK hW (c2 E) (e2 _ _ _ _ _ _) rfl 1 (Nat.le_of_ble_eq_true rfl) q0 (fun _ h => h) (v := .int (gI S 2 0 1)) rfl dX6_room_72 ?_
      refine lv_icmp_ge (tgt := 101) hx hb dX6_room_75 (by decide) (fun h => ?_) (fun h => ?_)
      · have hf := if_t h hf
        exact w101 S v1 v2 v4 (h_v4) hf _ _ _ hW hS (lv_sub hl [0, 1, 2, 3] rfl)
      · have hf := if_f h hf
        refine lv_aload hx hb dX6_room_78 (lv_at hl 3 rfl) ?_
        refine x_getN hx hb hts hi4 hown hK hW (h_v4) (e24 _ _ _ _ _ _) rfl 2 (Nat.le_of_ble_eq_true rfl) (NW.f hF.2.1 2 (q := ("MovesUp", 209, "MovesUp$Row", "items", "[I", "MovesUp")) rfl) (fun _ h => h) (v := .ref (B 25 v4)) rfl dX6_room_80 ?_
        refine lv_iload hx hb dX6_room_83 (lv_at hl 4 rfl) ?_
        obtain ⟨hi_14, hf⟩ := ck_out hf
        have hi_14 := ib_in hi_14
        refine x_iald hx hb hK hW (cv24_25 (h_v4)) (e25 _ _ _ _ _ _) hi_14 (jn := v5.toNatClampNeg) rfl dX6_room_85 ?_
        obtain ⟨r15, hc, hf⟩ := bd_out hf
        refine y_i (va_runS (As := [.int (gI S 25 v4 v5.toNatClampNeg)]) (rest := []) hfix (m_X6_areMarks l G B E S (gI S 25 v4 v5.toNatClampNeg) r15 hc) (va_cwS 1 hts gX6_room_X6_areMarks rfl rfl rfl hd_X6_areMarks ⟨Nat.le_of_ble_eq_true rfl, Nat.le_of_ble_eq_true rfl⟩) (y_ps hF hW hS) rfl rfl hl.1 rfl (lv_room (Nat.le_of_ble_eq_true rfl)) dX6_room_86 ⟨Nat.le_of_ble_eq_true rfl, Nat.le_of_ble_eq_true rfl⟩) hS (fun H locs hW hS => ?_)
        refine lv_if_ne (tgt := 95) hx hb dX6_room_89 (by decide) (fun h => ?_) (fun h => ?_)
        · have hf := if_f h hf
          obtain ⟨x16, e_x16, hf⟩ := lt_out hf
          refine lv_iinc (v := x16) (lv' := [(5, .int x16), (0, .ref (B 2 0)), (1, .int v1), (2, .int v2), (4, .ref (B 24 v4))]) hx hb dX6_room_95 hl (k := 4) rfl (by rw [e_x16]; rfl) (by decide) rfl (fun ls hl => ?_)
          refine lv_goto (tgt := 69) hx hb dX6_room_98 (by decide) ?_
          exact ih69 S v1 v2 v4 x16 (h_v4) hf _ _ _ hW hS (lv_sub hl [1, 2, 3, 4, 0] rfl)
        · have hf := if_t h hf
          refine lv_bipush (v := -2) hx hb dX6_room_92 (by decide) ?_
          exact z_i hf hx hb hr rfl hF hW hS dX6_room_94 hlocks
  unfold f_X6_room at hf
  refine lv_aload_n hx hb dX6_room_0 rfl (lv_at hl 0 rfl) ?_
  refine lv_iload_n hx hb dX6_room_1 rfl (lv_at hl 3 rfl) ?_
  obtain ⟨r17, hc, hf⟩ := bd_out hf
  refine y_q (va_runV (As := [.int a3]) (rest := []) hfix (m_X6_laid l G B E S a3 r17 hc) (cwV 1 hts gX6_room_X6_laid rfl rfl rfl ⟨rfl, hd_X6_laid⟩ ⟨Nat.le_of_ble_eq_true rfl, Nat.le_of_ble_eq_true rfl⟩) (y_pv hF hW hS (c2 E) (e2 _ _ _ _ _ _) rfl) rfl rfl hl.1 rfl (lv_room (Nat.le_of_ble_eq_true rfl)) dX6_room_2 ⟨Nat.le_of_ble_eq_true rfl, Nat.le_of_ble_eq_true rfl⟩) hS (fun H locs hW hS => ?_)
  rcases r17 with _ | k18
  · have hf := nl_n hf
    refine lv_astoreN (lv' := [(4, .null), (0, .ref (B 2 0)), (1, .int a1), (2, .int a2), (3, .int a3)]) hx hb dX6_room_5 hl (by decide) rfl (fun ls hl => ?_)
    refine lv_iload_n hx hb dX6_room_7 rfl (lv_at hl 2 rfl) ?_
    refine lv_if_lt (tgt := 36) hx hb dX6_room_8 (by decide) (fun h => ?_) (fun h => ?_)
    · have hf := if_t h hf
      refine lv_bipush (v := -2) hx hb dX6_room_36 (by decide) ?_
      exact z_i hf hx hb hr rfl hF hW hS dX6_room_38 hlocks
    · have hf := if_f h hf
      refine lv_iload_n hx hb dX6_room_11 rfl (lv_at hl 2 rfl) ?_
      refine lv_iconst (v := 1) hx hb dX6_room_12 rfl ?_
      refine lv_aload_n hx hb dX6_room_13 rfl (lv_at hl 1 rfl) ?_
      refine x_get hx hb hts hi6 hown hK hW (c2 E) (e2 _ _ _ _ _ _) rfl 1 (Nat.le_of_ble_eq_true rfl) q0 (fun _ h => h) (v := .int (gI S 2 0 1)) rfl dX6_room_14 ?_
      refine lv_ishl hx hb dX6_room_17 ?_
      refine lv_icmp_ge (tgt := 36) hx hb dX6_room_18 (by decide) (fun h => ?_) (fun h => ?_)
      · have hf := if_t h hf
        refine lv_bipush (v := -2) hx hb dX6_room_36 (by decide) ?_
        exact z_i hf hx hb hr rfl hF hW hS dX6_room_38 hlocks
      · have hf := if_f h hf
        refine lv_iload_n hx hb dX6_room_21 rfl (lv_at hl 3 rfl) ?_
        refine lv_if_lt (tgt := 36) hx hb dX6_room_22 (by decide) (fun h => ?_) (fun h => ?_)
        · have hf := if_t h hf
          refine lv_bipush (v := -2) hx hb dX6_room_36 (by decide) ?_
          exact z_i hf hx hb hr rfl hF hW hS dX6_room_38 hlocks
        · have hf := if_f h hf
          refine lv_iload_n hx hb dX6_room_25 rfl (lv_at hl 3 rfl) ?_
          refine lv_bipush (v := 8) hx hb dX6_room_26 (by decide) ?_
          refine lv_icmp_gt (tgt := 36) hx hb dX6_room_28 (by decide) (fun h => ?_) (fun h => ?_)
          · have hf := if_t h hf
            refine lv_bipush (v := -2) hx hb dX6_room_36 (by decide) ?_
            exact z_i hf hx hb hr rfl hF hW hS dX6_room_38 hlocks
          · have hf := if_f h hf
            refine lv_aloadN hx hb dX6_room_31 (lv_at hl 0 rfl) ?_
            refine lv_ifnonnullN hx hb dX6_room_33 ?_
            refine lv_bipush (v := -2) hx hb dX6_room_36 (by decide) ?_
            exact z_i hf hx hb hr rfl hF hW hS dX6_room_38 hlocks
  · have hf := nl_s hf
    obtain ⟨hk19, hf⟩ := ck_out hf
    have hk19 := of_decide_eq_true hk19
    refine lv_astore (lv' := [(4, .ref (B 24 k18)), (0, .ref (B 2 0)), (1, .int a1), (2, .int a2), (3, .int a3)]) hx hb dX6_room_5 hl (by decide) rfl (fun ls hl => ?_)
    refine lv_iload_n hx hb dX6_room_7 rfl (lv_at hl 2 rfl) ?_
    refine lv_if_lt (tgt := 36) hx hb dX6_room_8 (by decide) (fun h => ?_) (fun h => ?_)
    · have hf := if_t h hf
      refine lv_bipush (v := -2) hx hb dX6_room_36 (by decide) ?_
      exact z_i hf hx hb hr rfl hF hW hS dX6_room_38 hlocks
    · have hf := if_f h hf
      refine lv_iload_n hx hb dX6_room_11 rfl (lv_at hl 2 rfl) ?_
      refine lv_iconst (v := 1) hx hb dX6_room_12 rfl ?_
      refine lv_aload_n hx hb dX6_room_13 rfl (lv_at hl 1 rfl) ?_
      refine x_get hx hb hts hi6 hown hK hW (c2 E) (e2 _ _ _ _ _ _) rfl 1 (Nat.le_of_ble_eq_true rfl) q0 (fun _ h => h) (v := .int (gI S 2 0 1)) rfl dX6_room_14 ?_
      refine lv_ishl hx hb dX6_room_17 ?_
      refine lv_icmp_ge (tgt := 36) hx hb dX6_room_18 (by decide) (fun h => ?_) (fun h => ?_)
      · have hf := if_t h hf
        refine lv_bipush (v := -2) hx hb dX6_room_36 (by decide) ?_
        exact z_i hf hx hb hr rfl hF hW hS dX6_room_38 hlocks
      · have hf := if_f h hf
        refine lv_iload_n hx hb dX6_room_21 rfl (lv_at hl 3 rfl) ?_
        refine lv_if_lt (tgt := 36) hx hb dX6_room_22 (by decide) (fun h => ?_) (fun h => ?_)
        · have hf := if_t h hf
          refine lv_bipush (v := -2) hx hb dX6_room_36 (by decide) ?_
          exact z_i hf hx hb hr rfl hF hW hS dX6_room_38 hlocks
        · have hf := if_f h hf
          refine lv_iload_n hx hb dX6_room_25 rfl (lv_at hl 3 rfl) ?_
          refine lv_bipush (v := 8) hx hb dX6_room_26 (by decide) ?_
          refine lv_icmp_gt (tgt := 36) hx hb dX6_room_28 (by decide) (fun h => ?_) (fun h => ?_)
          · have hf := if_t h hf
            refine lv_bipush (v := -2) hx hb dX6_room_36 (by decide) ?_
            exact z_i hf hx hb hr rfl hF hW hS dX6_room_38 hlocks
          · have hf := if_f h hf
            refine lv_aload hx hb dX6_room_31 (lv_at hl 0 rfl) ?_
            refine lv_ifnonnull (tgt := 39) hx hb dX6_room_33 (by decide) ?_
            refine lv_aload hx hb dX6_room_39 (lv_at hl 0 rfl) ?_
            refine x_getN hx hb hts hi4 hown hK hW (c24 E hk19) (e24 _ _ _ _ _ _) rfl 0 (Nat.le_of_ble_eq_true rfl) (NW.f hF.2.1 0 (q := ("MovesUp", 205, "MovesUp$Row", "sort", "I", "MovesUp")) rfl) (fun _ h => h) (v := .int (gI S 24 k18 0)) rfl dX6_room_41 ?_
            refine lv_iconst (v := -1) hx hb dX6_room_44 rfl ?_
            refine lv_icmp_ne (tgt := 51) hx hb dX6_room_45 (by decide) (fun h => ?_) (fun h => ?_)
            · have hf := if_f h hf
              refine lv_aload hx hb dX6_room_51 (lv_at hl 0 rfl) ?_
              refine x_getN hx hb hts hi4 hown hK hW (c24 E hk19) (e24 _ _ _ _ _ _) rfl 1 (Nat.le_of_ble_eq_true rfl) (NW.f hF.2.1 1 (q := ("MovesUp", 206, "MovesUp$Row", "size", "I", "MovesUp")) rfl) (fun _ h => h) (v := .int (gI S 24 k18 1)) rfl dX6_room_53 ?_
              refine lv_aload_n hx hb dX6_room_56 rfl (lv_at hl 1 rfl) ?_
              refine x_get hx hb hts hi6 hown hK hW (c2 E) (e2 _ _ _ _ _ _) rfl 1 (Nat.le_of_ble_eq_true rfl) q0 (fun _ h => h) (v := .int (gI S 2 0 1)) rfl dX6_room_57 ?_
              refine lv_icmp_eq (tgt := 66) hx hb dX6_room_60 (by decide) (fun h => ?_) (fun h => ?_)
              · have hf := if_t h hf
                refine lv_iconst (v := 0) hx hb dX6_room_66 rfl ?_
                refine lv_istore (lv' := [(5, .int (0 : Int32)), (4, .ref (B 24 k18)), (0, .ref (B 2 0)), (1, .int a1), (2, .int a2), (3, .int a3)]) hx hb dX6_room_67 hl (by decide) rfl (fun ls hl => ?_)
                exact w69 E.1 S a1 a2 k18 (0 : Int32) (c24 E hk19) hf _ _ _ hW hS (lv_sub hl [2, 3, 4, 1, 0] rfl)
              · have hf := if_f h hf
                refine lv_bipush (v := -2) hx hb dX6_room_63 (by decide) ?_
                exact z_i hf hx hb hr rfl hF hW hS dX6_room_65 hlocks
            · have hf := if_t h hf
              refine lv_bipush (v := -11) hx hb dX6_room_48 (by decide) ?_
              exact z_i hf hx hb hr rfl hF hW hS dX6_room_50 hlocks
set_option maxHeartbeats 4000000 in
set_option maxRecDepth 100000 in
theorem m_X6_summer (l : Launch) (G : GE) (B : Nat → Nat → Nat) (E : EN)  (S : ST) (a1 : Int32) (a2 : Int32) (rr : Int32) (SS : ST) (hf : f_X6_summer E S a1 a2 = some (rr, SS)) : Met l yX6_summer wsX6_summer (rmN 3) (va_Pc [.ref (B 2 0), .int a1, .int a2] (WS G B E S)) (QI G B E SS rr) 0 0 (AA G) := by
  refine Met.ofW (cc := cX6_summer) (maxL := 10) (ret := (some .int)) (by decide) rfl ?_
  intro p e s m args below meth c s₁ B0 hml hv
  obtain ⟨rfl, hW, hF⟩ := hv
  have hx := B0.exec
  have hb := B0.bytes
  have hr := B0.returns
  have hts := atoms_spec (ws := wsX6_summer) B0.pre
  have hown : s.vm.findClass RX6 = some m.cls := findClass_of_methodNamed B0.named
  have hlocks := B0.notSynchronized
  have hK := hF.1
  have hfix : CallFix p m c cX6_summer 10 s [.ref (B 2 0), .int a1, .int a2].toArray wsX6_summer RX6 := ⟨hx, hb, hml, hown, hts⟩
  have hS : va_S (AA G) s.heap s.heap [] := va_S.rf
  have hl := lv_entry [.ref (B 2 0), .int a1, .int a2] (n := 10) (Nat.le_of_ble_eq_true rfl)
  rw [lg_entry_eq]
  generalize (lg_sl [.ref (B 2 0), .int a1, .int a2] ++ List.replicate (10 - (lg_sl [.ref (B 2 0), .int a1, .int a2]).length) Slot.unset).toArray = ls at hl ⊢
  have hl : lv_has ls 10 [(0, .ref (B 2 0)), (1, .int a1), (2, .int a2)] := hl
  have q0 := hts (.initialized RX2) (List.mem_of_getElem? (i := 26) rfl)
  have q1 := hts (.instanceMethod yX2_takes) (List.mem_of_getElem? (i := 25) rfl)
  have q2 := hts (.selects RX2 yX2_takes yX2_takes) (List.mem_of_getElem? (i := 27) rfl)
  have q3 := hts (.instanceMethod yX2_together) (List.mem_of_getElem? (i := 33) rfl)
  have q4 := hts (.selects RX2 yX2_together yX2_together) (List.mem_of_getElem? (i := 34) rfl)
  have q5 := hts (.constantLong RX6 218 (10)) (List.mem_of_getElem? (i := 2) rfl)
  have q6 := hts (.fieldLink RX6 65 "MovesUp" "course" "LMovesUp$Course;") (List.mem_of_getElem? (i := 1) rfl)
  have q7 := hts (.initialized RX1) (List.mem_of_getElem? (i := 11) rfl)
  have q8 := hts (.instanceMethod yX1_weightsAt) (List.mem_of_getElem? (i := 10) rfl)
  have q9 := hts (.selects RX1 yX1_weightsAt yX1_weightsAt) (List.mem_of_getElem? (i := 12) rfl)
  have hi2 : ∀ w ∈ u_ws RX2 TX2 7, w ∈ wsX6_summer := in_seg 51 rfl
  have hi6 : ∀ w ∈ u_ws RX6 TX6 15, w ∈ wsX6_summer := in_seg 36 rfl
  have w112 : ∀ (S : ST) (v3 : Nat) (v4 : Nat) (h_v3 : v3 < cnt E 20) (h_v4 : v4 < cnt E 28), f_X6_summer_b112 E S v3 v4 = some (rr, SS) → ∀ (H : Heap) (locs : List Loc) (ls : Array Slot), WH G B E S H → va_S (AA G) s.heap H locs → lv_has ls 10 [(3, .ref (B 20 v3)), (4, .ref (B 28 v4))] → W p l e (headSpec wsX6_summer (rmN 3)).room s m [.ref (B 2 0), .int a1, .int a2].toArray below meth c H locs 0 0 (MQ below (QI G B E SS rr) [.ref (B 2 0), .int a1, .int a2].toArray s 0 0 (AA G)) (F0 m 112 ls []) := by
    intro S v3 v4 h_v3 h_v4 hf H locs ls hW hS hl
    unfold f_X6_summer_b112 at hf
    refine lv_aload_n hx hb dX6_summer_112 rfl (lv_at hl 0 rfl) ?_
    refine lv_aload hx hb dX6_summer_113 (lv_at hl 1 rfl) ?_
    obtain ⟨r1, S2, hc, hf⟩ := bd2_out hf
    refine y_i (va_runVN (As := [.ref (B 28 v4)]) (rest := []) hfix (m_X2_takes l G B E v3 (h_v3) S v4 (h_v4) r1 S2 hc) ⟨va_cnB 1 hts gX6_summer_X2_takes_n220 rfl rfl rfl (NW.m hF.2.1 25 (q := ("MovesUp", 220, "MovesUp$Pupil", "takes", "([J)Z", "MovesUp")) rfl) q0 hd_X2_takes ⟨Nat.le_of_ble_eq_true rfl, Nat.le_of_ble_eq_true rfl⟩, q1, q2⟩ (y_pv hF hW hS (h_v3) (e20 _ _ _ _ _ _) rfl) rfl rfl hl.1 rfl (lv_room (Nat.le_of_ble_eq_true rfl)) dX6_summer_115 ⟨Nat.le_of_ble_eq_true rfl, Nat.le_of_ble_eq_true rfl⟩) hS (fun H locs hW hS => ?_)
    refine lv_if_eq (tgt := 128) hx hb dX6_summer_118 (by decide) (fun h => ?_) (fun h => ?_)
    · have hf := if_t h hf
      refine lv_bipush (v := -3) hx hb dX6_summer_128 (by decide) ?_
      exact z_i hf hx hb hr rfl hF hW hS dX6_summer_130 hlocks
    · have hf := if_f h hf
      refine lv_aload_n hx hb dX6_summer_121 rfl (lv_at hl 0 rfl) ?_
      obtain ⟨r3, hc, hf⟩ := bd_out hf
      refine y_i (va_runVN (As := []) (rest := []) hfix (m_X2_together l G B E v3 (h_v3) S2  r3 hc) ⟨va_cnB 0 hts gX6_summer_X2_together_n112 rfl rfl rfl (NW.m hF.2.1 8 (q := ("MovesUp", 112, "MovesUp$Pupil", "together", "()I", "MovesUp")) rfl) q0 hd_X2_together ⟨Nat.le_of_ble_eq_true rfl, Nat.le_of_ble_eq_true rfl⟩, q3, q4⟩ (y_pv hF hW hS (h_v3) (e20 _ _ _ _ _ _) rfl) rfl rfl hl.1 rfl (lv_room (Nat.le_of_ble_eq_true rfl)) dX6_summer_122 ⟨Nat.le_of_ble_eq_true rfl, Nat.le_of_ble_eq_true rfl⟩) hS (fun H locs hW hS => ?_)
      refine lv_goto (tgt := 130) hx hb dX6_summer_125 (by decide) ?_
      exact z_i hf hx hb hr rfl hF hW hS dX6_summer_130 hlocks
  have w36 : ∀ (n36 : Nat) (S : ST) (v2 : Int32) (v3 : Nat) (v4 : Nat) (v5 : Int32) (h_v3 : v3 < cnt E 20) (h_v4 : v4 < cnt E 28), f_X6_summer_b36 E n36 S v2 v3 v4 v5 = some (rr, SS) → ∀ (H : Heap) (locs : List Loc) (ls : Array Slot), WH G B E S H → va_S (AA G) s.heap H locs → lv_has ls 10 [(2, .int v2), (3, .ref (B 20 v3)), (4, .ref (B 28 v4)), (5, .int v5)] → W p l e (headSpec wsX6_summer (rmN 3)).room s m [.ref (B 2 0), .int a1, .int a2].toArray below meth c H locs 0 0 (MQ below (QI G B E SS rr) [.ref (B 2 0), .int a1, .int a2].toArray s 0 0 (AA G)) (F0 m 36 ls []) := by
    intro n36
    induction n36 with
    | zero =>
      intro S v2 v3 v4 v5 h_v3 h_v4 hf
      exact absurd (show (none : Option (Int32 × ST)) = some (rr, SS) from hf) (fun h => by cases h)
    | succ n36 ih36 =>
      have w82 : ∀ (S : ST) (v2 : Int32) (v3 : Nat) (v4 : Nat) (v5 : Int32) (v6 : Int64) (t0 : Int64) (h_v3 : v3 < cnt E 20) (h_v4 : v4 < cnt E 28), f_X6_summer_b82 E (f_X6_summer_b36 E n36) S v2 v3 v4 v5 v6 t0 = some (rr, SS) → ∀ (H : Heap) (locs : List Loc) (ls : Array Slot), WH G B E S H → va_S (AA G) s.heap H locs → lv_has ls 10 [(2, .int v2), (3, .ref (B 20 v3)), (4, .ref (B 28 v4)), (5, .int v5), (6, .long v6)] → W p l e (headSpec wsX6_summer (rmN 3)).room s m [.ref (B 2 0), .int a1, .int a2].toArray below meth c H locs 0 0 (MQ below (QI G B E SS rr) [.ref (B 2 0), .int a1, .int a2].toArray s 0 0 (AA G)) (F0 m 82 ls [.long t0]) := by
        intro S v2 v3 v4 v5 v6 t0 h_v3 h_v4 hf H locs ls hW hS hl
        unfold f_X6_summer_b82 at hf
        refine lv_lstore (lv' := [(8, .long t0), (2, .int v2), (3, .ref (B 20 v3)), (4, .ref (B 28 v4)), (5, .int v5), (6, .long v6)]) hx hb dX6_summer_82 hl (by decide) rfl (fun ls hl => ?_)
        refine lv_aload hx hb dX6_summer_84 (lv_at hl 3 rfl) ?_
        refine lv_iload hx hb dX6_summer_86 (lv_at hl 4 rfl) ?_
        refine lv_aload_n hx hb dX6_summer_88 rfl (lv_at hl 2 rfl) ?_
        refine x_getN hx hb hts hi2 hown hK hW (h_v3) (e20 _ _ _ _ _ _) rfl 4 (Nat.le_of_ble_eq_true rfl) (NW.f hF.2.1 9 (q := ("MovesUp", 115, "MovesUp$Pupil", "weights", "[I", "MovesUp")) rfl) (fun _ h => h) (v := .ref (B 21 v3)) rfl dX6_summer_89 ?_
        refine lv_iload hx hb dX6_summer_92 (lv_at hl 4 rfl) ?_
        obtain ⟨hi_4, hf⟩ := ck_out hf
        have hi_4 := ib_in hi_4
        refine x_iald hx hb hK hW (cv20_21 (h_v3)) (e21 _ _ _ _ _ _) hi_4 (jn := v5.toNatClampNeg) rfl dX6_summer_94 ?_
        refine lv_i2l hx hb dX6_summer_95 rfl ?_
        refine lv_lload hx hb dX6_summer_96 (lv_at hl 5 rfl) ?_
        refine lv_lmul hx hb dX6_summer_98 ?_
        refine lv_lload hx hb dX6_summer_99 (lv_at hl 0 rfl) ?_
        refine lv_iload_n hx hb dX6_summer_101 rfl (lv_at hl 1 rfl) ?_
        refine lv_i2l hx hb dX6_summer_102 rfl ?_
        refine lv_lmul hx hb dX6_summer_103 ?_
        refine lv_ladd hx hb dX6_summer_104 ?_
        obtain ⟨S5, e_S5, hf⟩ := lt_out hf
        refine x_last hx hb hK hW hS (h_v4) (fun g => e28 _ _ _ _ g _) hi_4 (jn := v5.toNatClampNeg) rfl e_S5 dX6_summer_105 (fun H locs hW hS => ?_)
        obtain ⟨x6, e_x6, hf⟩ := lt_out hf
        refine lv_iinc (v := x6) (lv' := [(5, .int x6), (8, .long t0), (2, .int v2), (3, .ref (B 20 v3)), (4, .ref (B 28 v4)), (6, .long v6)]) hx hb dX6_summer_106 hl (k := 4) rfl (by rw [e_x6]; rfl) (by decide) rfl (fun ls hl => ?_)
        refine lv_goto (tgt := 36) hx hb dX6_summer_109 (by decide) ?_
        exact ih36 S5 v2 v3 v4 x6 (h_v3) (h_v4) hf _ _ _ hW hS (lv_sub hl [2, 3, 4, 0] rfl)
      have w58 : ∀ (S : ST) (v2 : Int32) (v3 : Nat) (v4 : Nat) (v5 : Int32) (t0 : Int64) (h_v3 : v3 < cnt E 20) (h_v4 : v4 < cnt E 28), f_X6_summer_b58 E (f_X6_summer_b36 E n36) S v2 v3 v4 v5 t0 = some (rr, SS) → ∀ (H : Heap) (locs : List Loc) (ls : Array Slot), WH G B E S H → va_S (AA G) s.heap H locs → lv_has ls 10 [(2, .int v2), (3, .ref (B 20 v3)), (4, .ref (B 28 v4)), (5, .int v5)] → W p l e (headSpec wsX6_summer (rmN 3)).room s m [.ref (B 2 0), .int a1, .int a2].toArray below meth c H locs 0 0 (MQ below (QI G B E SS rr) [.ref (B 2 0), .int a1, .int a2].toArray s 0 0 (AA G)) (F0 m 58 ls [.long t0]) := by
        intro S v2 v3 v4 v5 t0 h_v3 h_v4 hf H locs ls hW hS hl
        unfold f_X6_summer_b58 at hf
        refine lv_lstore (lv' := [(6, .long t0), (2, .int v2), (3, .ref (B 20 v3)), (4, .ref (B 28 v4)), (5, .int v5)]) hx hb dX6_summer_58 hl (by decide) rfl (fun ls hl => ?_)
        refine lv_iload hx hb dX6_summer_60 (lv_at hl 4 rfl) ?_
        refine lv_iconst (v := 1) hx hb dX6_summer_62 rfl ?_
        refine lv_iadd hx hb dX6_summer_63 ?_
        refine lv_iconst (v := 5) hx hb dX6_summer_64 rfl ?_
        refine lv_icmp_ge (tgt := 81) hx hb dX6_summer_65 (by decide) (fun h => ?_) (fun h => ?_)
        · have hf := if_t h hf
          refine lv_lconst (v := 0) hx hb dX6_summer_81 rfl ?_
          exact w82 S v2 v3 v4 v5 t0 (0 : Int64) (h_v3) (h_v4) hf _ _ _ hW hS (lv_sub hl [1, 2, 3, 4, 0] rfl)
        · have hf := if_f h hf
          refine lv_aload_n hx hb dX6_summer_68 rfl (lv_at hl 2 rfl) ?_
          refine x_getN hx hb hts hi2 hown hK hW (h_v3) (e20 _ _ _ _ _ _) rfl 4 (Nat.le_of_ble_eq_true rfl) (NW.f hF.2.1 9 (q := ("MovesUp", 115, "MovesUp$Pupil", "weights", "[I", "MovesUp")) rfl) (fun _ h => h) (v := .ref (B 21 v3)) rfl dX6_summer_69 ?_
          refine lv_iload hx hb dX6_summer_72 (lv_at hl 4 rfl) ?_
          refine lv_iconst (v := 1) hx hb dX6_summer_74 rfl ?_
          refine lv_iadd hx hb dX6_summer_75 ?_
          obtain ⟨hi_7, hf⟩ := ck_out hf
          have hi_7 := ib_in hi_7
          refine x_iald hx hb hK hW (cv20_21 (h_v3)) (e21 _ _ _ _ _ _) hi_7 (jn := (v5 + (1 : Int32)).toNatClampNeg) rfl dX6_summer_76 ?_
          refine lv_i2l hx hb dX6_summer_77 rfl ?_
          refine lv_goto (tgt := 82) hx hb dX6_summer_78 (by decide) ?_
          exact w82 S v2 v3 v4 v5 t0 ((gI S 21 v3 (v5 + (1 : Int32)).toNatClampNeg).toInt64) (h_v3) (h_v4) hf _ _ _ hW hS (lv_sub hl [1, 2, 3, 4, 0] rfl)
      intro S v2 v3 v4 v5 h_v3 h_v4 hf H locs ls hW hS hl
      have hf : g_X6_summer_b36 E (f_X6_summer_b36 E n36) S v2 v3 v4 v5 = some (rr, SS) := hf
      unfold g_X6_summer_b36 at hf
      refine lv_iload hx hb dX6_summer_36 (lv_at hl 3 rfl) ?_
      refine lv_iconst (v := 5) hx hb dX6_summer_38 rfl ?_
      refine lv_icmp_ge (tgt := 112) hx hb dX6_summer_39 (by decide) (fun h => ?_) (fun h => ?_)
      · have hf := if_t h hf
        exact w112 S v3 v4 (h_v3) (h_v4) hf _ _ _ hW hS (lv_sub hl [1, 2] rfl)
      · have hf := if_f h hf
        refine lv_iload hx hb dX6_summer_42 (lv_at hl 3 rfl) ?_
        refine lv_if_ne (tgt := 53) hx hb dX6_summer_44 (by decide) (fun h => ?_) (fun h => ?_)
        · have hf := if_f h hf
          refine lv_bipush (v := 10) hx hb dX6_summer_53 (by decide) ?_
          refine lv_iload_n hx hb dX6_summer_55 rfl (lv_at hl 0 rfl) ?_
          refine lv_isub hx hb dX6_summer_56 ?_
          refine lv_i2l hx hb dX6_summer_57 rfl ?_
          exact w58 S v2 v3 v4 v5 (((10 : Int32) - v2).toInt64) (h_v3) (h_v4) hf _ _ _ hW hS (lv_sub hl [0, 1, 2, 3] rfl)
        · have hf := if_t h hf
          refine lv_ldc2 hx hb hown q5 dX6_summer_47 ?_
          refine lv_goto (tgt := 58) hx hb dX6_summer_50 (by decide) ?_
          exact w58 S v2 v3 v4 v5 (10 : Int64) (h_v3) (h_v4) hf _ _ _ hW hS (lv_sub hl [0, 1, 2, 3] rfl)
  unfold f_X6_summer at hf
  refine lv_aload_n hx hb dX6_summer_0 rfl (lv_at hl 0 rfl) ?_
  refine lv_iload_n hx hb dX6_summer_1 rfl (lv_at hl 1 rfl) ?_
  obtain ⟨r8, hc, hf⟩ := bd_out hf
  refine y_q (va_runV (As := [.int a1]) (rest := []) hfix (m_X6_known l G B E S a1 r8 hc) (cwV 1 hts gX6_summer_X6_known rfl rfl rfl ⟨rfl, hd_X6_known⟩ ⟨Nat.le_of_ble_eq_true rfl, Nat.le_of_ble_eq_true rfl⟩) (y_pv hF hW hS (c2 E) (e2 _ _ _ _ _ _) rfl) rfl rfl hl.1 rfl (lv_room (Nat.le_of_ble_eq_true rfl)) dX6_summer_2 ⟨Nat.le_of_ble_eq_true rfl, Nat.le_of_ble_eq_true rfl⟩) hS (fun H locs hW hS => ?_)
  rcases r8 with _ | k9
  · have hf := nl_n hf
    refine lv_astore_nN (lv' := [(3, .null), (0, .ref (B 2 0)), (1, .int a1), (2, .int a2)]) hx hb dX6_summer_5 rfl hl (by decide) rfl (fun ls hl => ?_)
    refine lv_aload_nN hx hb dX6_summer_6 rfl (lv_at hl 0 rfl) ?_
    refine lv_ifnullN (tgt := 20) hx hb dX6_summer_7 (by decide) ?_
    refine lv_bipush (v := -2) hx hb dX6_summer_20 (by decide) ?_
    exact z_i hf hx hb hr rfl hF hW hS dX6_summer_22 hlocks
  · have hf := nl_s hf
    obtain ⟨hk10, hf⟩ := ck_out hf
    have hk10 := of_decide_eq_true hk10
    refine lv_astore_n (lv' := [(3, .ref (B 20 k9)), (0, .ref (B 2 0)), (1, .int a1), (2, .int a2)]) hx hb dX6_summer_5 rfl hl (by decide) rfl (fun ls hl => ?_)
    refine lv_aload_n hx hb dX6_summer_6 rfl (lv_at hl 0 rfl) ?_
    refine lv_ifnull hx hb dX6_summer_7 ?_
    refine lv_iload_n hx hb dX6_summer_10 rfl (lv_at hl 3 rfl) ?_
    refine lv_if_lt (tgt := 20) hx hb dX6_summer_11 (by decide) (fun h => ?_) (fun h => ?_)
    · have hf := if_t h hf
      refine lv_bipush (v := -2) hx hb dX6_summer_20 (by decide) ?_
      exact z_i hf hx hb hr rfl hF hW hS dX6_summer_22 hlocks
    · have hf := if_f h hf
      refine lv_iload_n hx hb dX6_summer_14 rfl (lv_at hl 3 rfl) ?_
      refine lv_bipush (v := 9) hx hb dX6_summer_15 (by decide) ?_
      refine lv_icmp_le (tgt := 23) hx hb dX6_summer_17 (by decide) (fun h => ?_) (fun h => ?_)
      · have hf := if_t h hf
        refine lv_aload_n hx hb dX6_summer_23 rfl (lv_at hl 1 rfl) ?_
        refine x_get hx hb hts hi6 hown hK hW (c2 E) (e2 _ _ _ _ _ _) rfl 10 (Nat.le_of_ble_eq_true rfl) q6 (fun _ h => h) (v := .ref (B 16 0)) rfl dX6_summer_24 ?_
        refine lv_iconst (v := 0) hx hb dX6_summer_27 rfl ?_
        obtain ⟨r11, hc, hf⟩ := bd_out hf
        refine y_q (va_runVN (As := [.int (0 : Int32)]) (rest := []) hfix (m_X1_weightsAt l G B E S (0 : Int32) r11 hc) ⟨va_cnB 1 hts gX6_summer_X1_weightsAt_n152 rfl rfl rfl (NW.m hF.2.1 15 (q := ("MovesUp", 152, "MovesUp$Course", "weightsAt", "(I)[J", "MovesUp")) rfl) q7 hd_X1_weightsAt ⟨Nat.le_of_ble_eq_true rfl, Nat.le_of_ble_eq_true rfl⟩, q8, q9⟩ (y_pv hF hW hS (c16 E) (e16 _ _ _ _ _ _) rfl) rfl rfl hl.1 rfl (lv_room (Nat.le_of_ble_eq_true rfl)) dX6_summer_28 ⟨Nat.le_of_ble_eq_true rfl, Nat.le_of_ble_eq_true rfl⟩) hS (fun H locs hW hS => ?_)
        rcases r11 with _ | k12
        · have hf := nl_n hf
          exact absurd hf (by intro h; cases h)
        · have hf := nl_s hf
          obtain ⟨hk13, hf⟩ := ck_out hf
          have hk13 := of_decide_eq_true hk13
          refine lv_astore (lv' := [(4, .ref (B 28 k12)), (3, .ref (B 20 k9)), (0, .ref (B 2 0)), (1, .int a1), (2, .int a2)]) hx hb dX6_summer_31 hl (by decide) rfl (fun ls hl => ?_)
          refine lv_iconst (v := 0) hx hb dX6_summer_33 rfl ?_
          refine lv_istore (lv' := [(5, .int (0 : Int32)), (4, .ref (B 28 k12)), (3, .ref (B 20 k9)), (0, .ref (B 2 0)), (1, .int a1), (2, .int a2)]) hx hb dX6_summer_34 hl (by decide) rfl (fun ls hl => ?_)
          exact w36 E.1 S a2 k9 k12 (0 : Int32) (c20 hk10) (c28 E hk13) hf _ _ _ hW hS (lv_sub hl [5, 2, 1, 0] rfl)
      · have hf := if_f h hf
        refine lv_bipush (v := -2) hx hb dX6_summer_20 (by decide) ?_
        exact z_i hf hx hb hr rfl hF hW hS dX6_summer_22 hlocks
