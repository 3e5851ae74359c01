set_option maxHeartbeats 4000000 in
set_option maxRecDepth 100000 in
theorem m_X6_test (l : Launch) (G : GE) (B : Nat → Nat → Nat) (E : EN)  (S : ST) (a1 : Int32) (a2 : Int32) (rr : Int32) (SS : ST) (hf : f_X6_test E S a1 a2 = some (rr, SS)) : Met l yX6_test wsX6_test (rmN 7) (va_Pc [.ref (B 2 0), .int a1, .int a2] (WS G B E S)) (QI G B E SS rr) 0 0 (AA G) := by
  refine Met.ofW (cc := cX6_test) (maxL := 5) (ret := (some .int)) (by decide) rfl ?_
  intro p e s m args below meth c s₁ B0 hml hv
  obtain ⟨rfl, hW, hF⟩ := hv
  have hx := B0.exec
  have hb := B0.bytes
  have hr := B0.returns
  have hts := atoms_spec (ws := wsX6_test) B0.pre
  have hown : s.vm.findClass RX6 = some m.cls := findClass_of_methodNamed B0.named
  have hlocks := B0.notSynchronized
  have hK := hF.1
  have hfix : CallFix p m c cX6_test 5 s [.ref (B 2 0), .int a1, .int a2].toArray wsX6_test RX6 := ⟨hx, hb, hml, hown, hts⟩
  have hS : va_S (AA G) s.heap s.heap [] := va_S.rf
  have hl := lv_entry [.ref (B 2 0), .int a1, .int a2] (n := 5) (Nat.le_of_ble_eq_true rfl)
  rw [lg_entry_eq]
  generalize (lg_sl [.ref (B 2 0), .int a1, .int a2] ++ List.replicate (5 - (lg_sl [.ref (B 2 0), .int a1, .int a2]).length) Slot.unset).toArray = ls at hl ⊢
  have hl : lv_has ls 5 [(0, .ref (B 2 0)), (1, .int a1), (2, .int a2)] := hl
  have q0 := hts (.fieldLink RX6 65 "MovesUp" "course" "LMovesUp$Course;") (List.mem_of_getElem? (i := 1) rfl)
  have q1 := hts (.initialized RX1) (List.mem_of_getElem? (i := 36) rfl)
  have q2 := hts (.instanceMethod yX1_weightsAt) (List.mem_of_getElem? (i := 111) rfl)
  have q3 := hts (.selects RX1 yX1_weightsAt yX1_weightsAt) (List.mem_of_getElem? (i := 112) rfl)
  have q4 := hts (.initialized RX2) (List.mem_of_getElem? (i := 115) rfl)
  have q5 := hts (.instanceMethod yX2_takes) (List.mem_of_getElem? (i := 114) rfl)
  have q6 := hts (.selects RX2 yX2_takes yX2_takes) (List.mem_of_getElem? (i := 116) rfl)
  have q7 := hts (.instanceMethod yX1_classThen) (List.mem_of_getElem? (i := 122) rfl)
  have q8 := hts (.selects RX1 yX1_classThen yX1_classThen) (List.mem_of_getElem? (i := 123) rfl)
  have hi6 : ∀ w ∈ u_ws RX6 TX6 15, w ∈ wsX6_test := in_seg 125 rfl
  have hi2 : ∀ w ∈ u_ws RX2 TX2 7, w ∈ wsX6_test := in_seg 140 rfl
  unfold f_X6_test at hf
  refine lv_aload_n hx hb dX6_test_0 rfl (lv_at hl 0 rfl) ?_
  refine lv_iload_n hx hb dX6_test_1 rfl (lv_at hl 1 rfl) ?_
  obtain ⟨r1, hc, hf⟩ := bd_out hf
  refine y_q (va_runV (As := [.int a1]) (rest := []) hfix (m_X6_known l G B E S a1 r1 hc) (cwV 1 hts gX6_test_X6_known rfl rfl rfl ⟨rfl, hd_X6_known⟩ ⟨Nat.le_of_ble_eq_true rfl, Nat.le_of_ble_eq_true rfl⟩) (y_pv hF hW hS (c2 E) (e2 _ _ _ _ _ _) rfl) rfl rfl hl.1 rfl (lv_room (Nat.le_of_ble_eq_true rfl)) dX6_test_2 ⟨Nat.le_of_ble_eq_true rfl, Nat.le_of_ble_eq_true rfl⟩) hS (fun H locs hW hS => ?_)
  rcases r1 with _ | k2
  · have hf := nl_n hf
    refine lv_astore_nN (lv' := [(3, .null), (0, .ref (B 2 0)), (1, .int a1), (2, .int a2)]) hx hb dX6_test_5 rfl hl (by decide) rfl (fun ls hl => ?_)
    refine lv_aload_nN hx hb dX6_test_6 rfl (lv_at hl 0 rfl) ?_
    refine lv_ifnullN (tgt := 17) hx hb dX6_test_7 (by decide) ?_
    refine lv_bipush (v := -2) hx hb dX6_test_17 (by decide) ?_
    exact z_i hf hx hb hr rfl hF hW hS dX6_test_19 hlocks
  · have hf := nl_s hf
    obtain ⟨hk3, hf⟩ := ck_out hf
    have hk3 := of_decide_eq_true hk3
    refine lv_astore_n (lv' := [(3, .ref (B 20 k2)), (0, .ref (B 2 0)), (1, .int a1), (2, .int a2)]) hx hb dX6_test_5 rfl hl (by decide) rfl (fun ls hl => ?_)
    refine lv_aload_n hx hb dX6_test_6 rfl (lv_at hl 0 rfl) ?_
    refine lv_ifnull hx hb dX6_test_7 ?_
    refine lv_iload_n hx hb dX6_test_10 rfl (lv_at hl 3 rfl) ?_
    obtain ⟨r4, hc, hf⟩ := bd_out hf
    refine y_i (va_runS (As := [.int a2]) (rest := []) hfix (m_X6_areMarks l G B E S a2 r4 hc) (va_cwS 1 hts gX6_test_X6_areMarks rfl rfl rfl hd_X6_areMarks ⟨Nat.le_of_ble_eq_true rfl, Nat.le_of_ble_eq_true rfl⟩) (y_ps hF hW hS) rfl rfl hl.1 rfl (lv_room (Nat.le_of_ble_eq_true rfl)) dX6_test_11 ⟨Nat.le_of_ble_eq_true rfl, Nat.le_of_ble_eq_true rfl⟩) hS (fun H locs hW hS => ?_)
    refine lv_if_ne (tgt := 20) hx hb dX6_test_14 (by decide) (fun h => ?_) (fun h => ?_)
    · have hf := if_f h hf
      refine lv_aload_n hx hb dX6_test_20 rfl (lv_at hl 1 rfl) ?_
      refine lv_aload_n hx hb dX6_test_21 rfl (lv_at hl 0 rfl) ?_
      refine lv_iload_n hx hb dX6_test_22 rfl (lv_at hl 3 rfl) ?_
      obtain ⟨S5, hc, hf⟩ := bd_out hf
      refine y_v (va_runV (As := [.ref (B 20 k2), .int a2]) (rest := []) hfix (m_X6_follow l G B E S k2 (c20 hk3) a2 S5 hc) (cwV 2 hts gX6_test_X6_follow rfl rfl rfl ⟨rfl, hd_X6_follow⟩ ⟨Nat.le_of_ble_eq_true rfl, Nat.le_of_ble_eq_true rfl⟩) (y_pv hF hW hS (c2 E) (e2 _ _ _ _ _ _) rfl) rfl rfl hl.1 rfl (lv_room (Nat.le_of_ble_eq_true rfl)) dX6_test_23 ⟨Nat.le_of_ble_eq_true rfl, Nat.le_of_ble_eq_true rfl⟩) hS (fun H locs hW hS => ?_)
      refine lv_iload_n hx hb dX6_test_26 rfl (lv_at hl 3 rfl) ?_
      refine lv_bipush (v := 100) hx hb dX6_test_27 (by decide) ?_
      refine lv_idiv hx hb dX6_test_29 (by decide) ?_
      obtain ⟨x6, e_x6, hf⟩ := lt_out hf
      refine x_nmI e_x6 ?_
      refine lv_istore (lv' := [(4, .int x6), (3, .ref (B 20 k2)), (0, .ref (B 2 0)), (1, .int a1), (2, .int a2)]) hx hb dX6_test_30 hl (by decide) rfl (fun ls hl => ?_)
      refine lv_aload_n hx hb dX6_test_32 rfl (lv_at hl 1 rfl) ?_
      refine lv_aload_n hx hb dX6_test_33 rfl (lv_at hl 2 rfl) ?_
      refine x_get hx hb hts hi6 hown hK hW (c2 E) (e2 _ _ _ _ _ _) rfl 10 (Nat.le_of_ble_eq_true rfl) q0 (fun _ h => h) (v := .ref (B 16 0)) rfl dX6_test_34 ?_
      refine lv_iload hx hb dX6_test_37 (lv_at hl 0 rfl) ?_
      obtain ⟨r7, hc, hf⟩ := bd_out hf
      refine y_q (va_runVN (As := [.int x6]) (rest := [.ref (B 20 k2)]) hfix (m_X1_weightsAt l G B E S5 x6 r7 hc) ⟨va_cnB 1 hts gX6_test_X1_weightsAt_n152 rfl rfl rfl (NW.m hF.2.1 15 (q := ("MovesUp", 152, "MovesUp$Course", "weightsAt", "(I)[J", "MovesUp")) rfl) q1 hd_X1_weightsAt ⟨Nat.le_of_ble_eq_true rfl, Nat.le_of_ble_eq_true rfl⟩, q2, q3⟩ (y_pv hF hW hS (c16 E) (e16 _ _ _ _ _ _) rfl) rfl rfl hl.1 rfl (lv_room (Nat.le_of_ble_eq_true rfl)) dX6_test_39 ⟨Nat.le_of_ble_eq_true rfl, Nat.le_of_ble_eq_true rfl⟩) hS (fun H locs hW hS => ?_)
      rcases r7 with _ | k8
      · have hf := nl_n hf
        exact absurd hf (by intro h; cases h)
      · have hf := nl_s hf
        obtain ⟨hk9, hf⟩ := ck_out hf
        have hk9 := of_decide_eq_true hk9
        obtain ⟨r10, S11, hc, hf⟩ := bd2_out hf
        refine y_i (va_runVN (As := [.ref (B 28 k8)]) (rest := []) hfix (m_X2_takes l G B E k2 (c20 hk3) S5 k8 (c28 E hk9) r10 S11 hc) ⟨va_cnB 1 hts gX6_test_X2_takes_n220 rfl rfl rfl (NW.m hF.2.1 25 (q := ("MovesUp", 220, "MovesUp$Pupil", "takes", "([J)Z", "MovesUp")) rfl) q4 hd_X2_takes ⟨Nat.le_of_ble_eq_true rfl, Nat.le_of_ble_eq_true rfl⟩, q5, q6⟩ (y_pv hF hW hS (c20 hk3) (e20 _ _ _ _ _ _) rfl) rfl rfl hl.1 rfl (lv_room (Nat.le_of_ble_eq_true rfl)) dX6_test_42 ⟨Nat.le_of_ble_eq_true rfl, Nat.le_of_ble_eq_true rfl⟩) hS (fun H locs hW hS => ?_)
        refine lv_if_ne (tgt := 51) hx hb dX6_test_45 (by decide) (fun h => ?_) (fun h => ?_)
        · have hf := if_f h hf
          refine lv_aload_n hx hb dX6_test_51 rfl (lv_at hl 1 rfl) ?_
          refine lv_aload_n hx hb dX6_test_52 rfl (lv_at hl 2 rfl) ?_
          refine x_get hx hb hts hi6 hown hK hW (c2 E) (e2 _ _ _ _ _ _) rfl 10 (Nat.le_of_ble_eq_true rfl) q0 (fun _ h => h) (v := .ref (B 16 0)) rfl dX6_test_53 ?_
          refine lv_iload hx hb dX6_test_56 (lv_at hl 0 rfl) ?_
          obtain ⟨r12, hc, hf⟩ := bd_out hf
          refine y_i (va_runVN (As := [.int x6]) (rest := [.ref (B 20 k2)]) hfix (m_X1_classThen l G B E S11 x6 r12 hc) ⟨va_cnB 1 hts gX6_test_X1_classThen_n163 rfl rfl rfl (NW.m hF.2.1 17 (q := ("MovesUp", 163, "MovesUp$Course", "classThen", "(I)I", "MovesUp")) rfl) q1 hd_X1_classThen ⟨Nat.le_of_ble_eq_true rfl, Nat.le_of_ble_eq_true rfl⟩, q7, q8⟩ (y_pv hF hW hS (c16 E) (e16 _ _ _ _ _ _) rfl) rfl rfl hl.1 rfl (lv_room (Nat.le_of_ble_eq_true rfl)) dX6_test_58 ⟨Nat.le_of_ble_eq_true rfl, Nat.le_of_ble_eq_true rfl⟩) hS (fun H locs hW hS => ?_)
          obtain ⟨S13, e_S13, hf⟩ := lt_out hf
          refine x_putIN hx hb hts hi2 tyX2 tyX2_ok nmX2 hown hK hW hS (c20 hk3) (e20 _ _ _) rfl 3 (Nat.le_of_ble_eq_true rfl) (NW.f hF.2.1 8 (q := ("MovesUp", 122, "MovesUp$Pupil", "itsClass", "I", "MovesUp")) rfl) (fun _ h => h) rfl (tyX2_ok 3 (Nat.le_of_ble_eq_true rfl)) rfl rfl (Nat.le_of_ble_eq_true rfl) (pu20_3 _ _) e_S13 dX6_test_61 (fun H locs hW hS => ?_)
          refine lv_aload_n hx hb dX6_test_64 rfl (lv_at hl 1 rfl) ?_
          refine x_getN hx hb hts hi2 hown hK hW (c20 hk3) (e20 _ _ _ _ _ _) rfl 3 (Nat.le_of_ble_eq_true rfl) (NW.f hF.2.1 8 (q := ("MovesUp", 122, "MovesUp$Pupil", "itsClass", "I", "MovesUp")) rfl) (fun _ h => h) (v := .int (gI S13 20 k2 3)) rfl dX6_test_65 ?_
          exact z_i hf hx hb hr rfl hF hW hS dX6_test_68 hlocks
        · have hf := if_t h hf
          refine lv_bipush (v := -3) hx hb dX6_test_48 (by decide) ?_
          exact z_i hf hx hb hr rfl hF hW hS dX6_test_50 hlocks
    · have hf := if_t h hf
      refine lv_bipush (v := -2) hx hb dX6_test_17 (by decide) ?_
      exact z_i hf hx hb hr rfl hF hW hS dX6_test_19 hlocks
set_option maxHeartbeats 4000000 in
set_option maxRecDepth 100000 in
theorem m_X6_leastEnds (l : Launch) (G : GE) (B : Nat → Nat → Nat) (E : EN)  (S : ST) (a1 : Nat) (h_a1 : a1 < cnt E 24) (a2 : Int32) (rr : Int32) (hf : f_X6_leastEnds E S a1 a2 = some rr) : Met l yX6_leastEnds wsX6_leastEnds (rmN 2) (va_Pc [.ref (B 24 a1), .int a2] (WS G B E S)) (QI G B E S rr) 0 0 (AA G) := by
  refine Met.ofW (cc := cX6_leastEnds) (maxL := 6) (ret := (some .int)) (by decide) rfl ?_
  intro p e s m args below meth c s₁ B0 hml hv
  obtain ⟨rfl, hW, hF⟩ := hv
  have hx := B0.exec
  have hb := B0.bytes
  have hr := B0.returns
  have hts := atoms_spec (ws := wsX6_leastEnds) B0.pre
  have hown : s.vm.findClass RX6 = some m.cls := findClass_of_methodNamed B0.named
  have hlocks := B0.notSynchronized
  have hK := hF.1
  have hfix : CallFix p m c cX6_leastEnds 6 s [.ref (B 24 a1), .int a2].toArray wsX6_leastEnds RX6 := ⟨hx, hb, hml, hown, hts⟩
  have hS : va_S (AA G) s.heap s.heap [] := va_S.rf
  have hl := lv_entry [.ref (B 24 a1), .int a2] (n := 6) (Nat.le_of_ble_eq_true rfl)
  rw [lg_entry_eq]
  generalize (lg_sl [.ref (B 24 a1), .int a2] ++ List.replicate (6 - (lg_sl [.ref (B 24 a1), .int a2]).length) Slot.unset).toArray = ls at hl ⊢
  have hl : lv_has ls 6 [(0, .ref (B 24 a1)), (1, .int a2)] := hl
  have q0 := hts (.initialized RX4) (List.mem_of_getElem? (i := 9) rfl)
  have q1 := hts (.instanceMethod yX4_squares) (List.mem_of_getElem? (i := 8) rfl)
  have q2 := hts (.selects RX4 yX4_squares yX4_squares) (List.mem_of_getElem? (i := 10) rfl)
  have hi4 : ∀ w ∈ u_ws RX4 TX4 3, w ∈ wsX6_leastEnds := in_seg 14 rfl
  have w14 : ∀ (n14 : Nat) (_ : Unit) (v0 : Nat) (v1 : Int32) (v2 : Int32) (v3 : Int32) (v4 : Int32) (h_v0 : v0 < cnt E 24), f_X6_leastEnds_b14 E n14 S v0 v1 v2 v3 v4 = some rr → ∀ (H : Heap) (locs : List Loc) (ls : Array Slot), WH G B E S H → va_S (AA G) s.heap H locs → lv_has ls 6 [(0, .ref (B 24 v0)), (1, .int v1), (2, .int v2), (3, .int v3), (4, .int v4)] → W p l e (headSpec wsX6_leastEnds (rmN 2)).room s m [.ref (B 24 a1), .int a2].toArray below meth c H locs 0 0 (MQ below (QI G B E S rr) [.ref (B 24 a1), .int a2].toArray s 0 0 (AA G)) (F0 m 14 ls []) := by
    intro n14
    induction n14 with
    | zero =>
      intro _ v0 v1 v2 v3 v4 h_v0 hf
      exact absurd (show (none : Option Int32) = some rr from hf) (fun h => by cases h)
    | succ n14 ih14 =>
      have w61 : ∀ (_ : Unit) (v0 : Nat) (v1 : Int32) (v2 : Int32) (v3 : Int32) (v4 : Int32) (h_v0 : v0 < cnt E 24), f_X6_leastEnds_b61 E (f_X6_leastEnds_b14 E n14) S v0 v1 v2 v3 v4 = some rr → ∀ (H : Heap) (locs : List Loc) (ls : Array Slot), WH G B E S H → va_S (AA G) s.heap H locs → lv_has ls 6 [(0, .ref (B 24 v0)), (1, .int v1), (2, .int v2), (3, .int v3), (4, .int v4)] → W p l e (headSpec wsX6_leastEnds (rmN 2)).room s m [.ref (B 24 a1), .int a2].toArray below meth c H locs 0 0 (MQ below (QI G B E S rr) [.ref (B 24 a1), .int a2].toArray s 0 0 (AA G)) (F0 m 61 ls []) := by
        intro _ v0 v1 v2 v3 v4 h_v0 hf H locs ls hW hS hl
        unfold f_X6_leastEnds_b61 at hf
        obtain ⟨x1, e_x1, hf⟩ := lt_out hf
        refine lv_iinc (v := x1) (lv' := [(4, .int x1), (0, .ref (B 24 v0)), (1, .int v1), (2, .int v2), (3, .int v3)]) hx hb dX6_leastEnds_61 hl (k := 4) rfl (by rw [e_x1]; rfl) (by decide) rfl (fun ls hl => ?_)
        refine lv_goto (tgt := 14) hx hb dX6_leastEnds_64 (by decide) ?_
        exact ih14 () v0 v1 v2 v3 x1 (h_v0) hf _ _ _ hW hS (lv_sub hl [1, 2, 3, 4, 0] rfl)
      have w55 : ∀ (_ : Unit) (v0 : Nat) (v1 : Int32) (v4 : Int32) (v5 : Int32) (h_v0 : v0 < cnt E 24), f_X6_leastEnds_b55 E (f_X6_leastEnds_b14 E n14) S v0 v1 v4 v5 = some rr → ∀ (H : Heap) (locs : List Loc) (ls : Array Slot), WH G B E S H → va_S (AA G) s.heap H locs → lv_has ls 6 [(0, .ref (B 24 v0)), (1, .int v1), (4, .int v4), (5, .int v5)] → W p l e (headSpec wsX6_leastEnds (rmN 2)).room s m [.ref (B 24 a1), .int a2].toArray below meth c H locs 0 0 (MQ below (QI G B E S rr) [.ref (B 24 a1), .int a2].toArray s 0 0 (AA G)) (F0 m 55 ls []) := by
        intro _ v0 v1 v4 v5 h_v0 hf H locs ls hW hS hl
        unfold f_X6_leastEnds_b55 at hf
        refine lv_iload hx hb dX6_leastEnds_55 (lv_at hl 3 rfl) ?_
        refine lv_istore_n (lv' := [(3, .int v5), (0, .ref (B 24 v0)), (1, .int v1), (4, .int v4), (5, .int v5)]) hx hb dX6_leastEnds_57 rfl hl (by decide) rfl (fun ls hl => ?_)
        refine lv_iload hx hb dX6_leastEnds_58 (lv_at hl 3 rfl) ?_
        refine lv_istore_n (lv' := [(2, .int v4), (3, .int v5), (0, .ref (B 24 v0)), (1, .int v1), (4, .int v4), (5, .int v5)]) hx hb dX6_leastEnds_60 rfl hl (by decide) rfl (fun ls hl => ?_)
        exact w61 () v0 v1 v4 v5 v4 (h_v0) hf _ _ _ hW hS (lv_sub hl [2, 3, 0, 1, 4] rfl)
      intro _ v0 v1 v2 v3 v4 h_v0 hf H locs ls hW hS hl
      have hf : g_X6_leastEnds_b14 E (f_X6_leastEnds_b14 E n14) S v0 v1 v2 v3 v4 = some rr := hf
      unfold g_X6_leastEnds_b14 at hf
      refine lv_iload hx hb dX6_leastEnds_14 (lv_at hl 4 rfl) ?_
      refine lv_iconst (v := 1) hx hb dX6_leastEnds_16 rfl ?_
      refine lv_aload_n hx hb dX6_leastEnds_17 rfl (lv_at hl 0 rfl) ?_
      refine x_getN hx hb hts hi4 hown hK hW (h_v0) (e24 _ _ _ _ _ _) rfl 1 (Nat.le_of_ble_eq_true rfl) (NW.f hF.2.1 1 (q := ("MovesUp", 206, "MovesUp$Row", "size", "I", "MovesUp")) rfl) (fun _ h => h) (v := .int (gI S 24 v0 1)) rfl dX6_leastEnds_18 ?_
      refine lv_ishl hx hb dX6_leastEnds_21 ?_
      refine lv_icmp_ge (tgt := 67) hx hb dX6_leastEnds_22 (by decide) (fun h => ?_) (fun h => ?_)
      · have hf := if_t h hf
        refine lv_iload_n hx hb dX6_leastEnds_67 rfl (lv_at hl 2 rfl) ?_
        exact zr_i hf hx hb hr rfl hF hW hS dX6_leastEnds_68 hlocks
      · have hf := if_f h hf
        refine lv_iload hx hb dX6_leastEnds_25 (lv_at hl 4 rfl) ?_
        obtain ⟨r2, hc, hf⟩ := bd_out hf
        refine y_i (va_runS (As := [.int v4]) (rest := []) hfix (m_J6_bitCount_0f7a4 l G B E S v4 r2 hc) (va_cwS 1 hts gX6_leastEnds_J6_bitCount_0f7a4 rfl rfl rfl hd_J6_bitCount_0f7a4 ⟨Nat.le_of_ble_eq_true rfl, Nat.le_of_ble_eq_true rfl⟩) (y_ps hF hW hS) rfl rfl hl.1 rfl (lv_room (Nat.le_of_ble_eq_true rfl)) dX6_leastEnds_27 ⟨Nat.le_of_ble_eq_true rfl, Nat.le_of_ble_eq_true rfl⟩) hS (fun H locs hW hS => ?_)
        refine lv_iload_n hx hb dX6_leastEnds_30 rfl (lv_at hl 1 rfl) ?_
        refine lv_icmp_eq (tgt := 37) hx hb dX6_leastEnds_31 (by decide) (fun h => ?_) (fun h => ?_)
        · have hf := if_t h hf
          refine lv_aload_n hx hb dX6_leastEnds_37 rfl (lv_at hl 0 rfl) ?_
          refine lv_iload hx hb dX6_leastEnds_38 (lv_at hl 4 rfl) ?_
          obtain ⟨r3, hc, hf⟩ := bd_out hf
          refine y_i (va_runVN (As := [.int v4]) (rest := []) hfix (m_X4_squares l G B E v0 (h_v0) S v4 r3 hc) ⟨va_cnB 1 hts gX6_leastEnds_X4_squares_n231 rfl rfl rfl (NW.m hF.2.1 28 (q := ("MovesUp", 231, "MovesUp$Row", "squares", "(I)I", "MovesUp")) rfl) q0 hd_X4_squares ⟨Nat.le_of_ble_eq_true rfl, Nat.le_of_ble_eq_true rfl⟩, q1, q2⟩ (y_pv hF hW hS (h_v0) (e24 _ _ _ _ _ _) rfl) rfl rfl hl.1 rfl (lv_room (Nat.le_of_ble_eq_true rfl)) dX6_leastEnds_40 ⟨Nat.le_of_ble_eq_true rfl, Nat.le_of_ble_eq_true rfl⟩) hS (fun H locs hW hS => ?_)
          refine lv_istore (lv' := [(5, .int r3), (0, .ref (B 24 v0)), (1, .int v1), (2, .int v2), (3, .int v3), (4, .int v4)]) hx hb dX6_leastEnds_43 hl (by decide) rfl (fun ls hl => ?_)
          refine lv_iload_n hx hb dX6_leastEnds_45 rfl (lv_at hl 4 rfl) ?_
          refine lv_if_lt (tgt := 55) hx hb dX6_leastEnds_46 (by decide) (fun h => ?_) (fun h => ?_)
          · have hf := if_t h hf
            exact w55 () v0 v1 v4 r3 (h_v0) hf _ _ _ hW hS (lv_sub hl [1, 2, 5, 0] rfl)
          · have hf := if_f h hf
            refine lv_iload hx hb dX6_leastEnds_49 (lv_at hl 0 rfl) ?_
            refine lv_iload_n hx hb dX6_leastEnds_51 rfl (lv_at hl 4 rfl) ?_
            refine lv_icmp_ge (tgt := 61) hx hb dX6_leastEnds_52 (by decide) (fun h => ?_) (fun h => ?_)
            · have hf := if_t h hf
              exact w61 () v0 v1 v2 v3 v4 (h_v0) hf _ _ _ hW hS (lv_sub hl [1, 2, 3, 4, 5] rfl)
            · have hf := if_f h hf
              exact w55 () v0 v1 v4 r3 (h_v0) hf _ _ _ hW hS (lv_sub hl [1, 2, 5, 0] rfl)
        · have hf := if_f h hf
          refine lv_goto (tgt := 61) hx hb dX6_leastEnds_34 (by decide) ?_
          exact w61 () v0 v1 v2 v3 v4 (h_v0) hf _ _ _ hW hS (lv_sub hl [0, 1, 2, 3, 4] rfl)
  unfold f_X6_leastEnds at hf
  refine lv_iconst (v := 0) hx hb dX6_leastEnds_0 rfl ?_
  refine lv_istore_n (lv' := [(2, .int (0 : Int32)), (0, .ref (B 24 a1)), (1, .int a2)]) hx hb dX6_leastEnds_1 rfl hl (by decide) rfl (fun ls hl => ?_)
  refine lv_iconst (v := -1) hx hb dX6_leastEnds_2 rfl ?_
  refine lv_istore_n (lv' := [(3, .int (-1 : Int32)), (2, .int (0 : Int32)), (0, .ref (B 24 a1)), (1, .int a2)]) hx hb dX6_leastEnds_3 rfl hl (by decide) rfl (fun ls hl => ?_)
  refine lv_iconst (v := 1) hx hb dX6_leastEnds_4 rfl ?_
  refine lv_aload_n hx hb dX6_leastEnds_5 rfl (lv_at hl 2 rfl) ?_
  refine x_getN hx hb hts hi4 hown hK hW (h_a1) (e24 _ _ _ _ _ _) rfl 1 (Nat.le_of_ble_eq_true rfl) (NW.f hF.2.1 1 (q := ("MovesUp", 206, "MovesUp$Row", "size", "I", "MovesUp")) rfl) (fun _ h => h) (v := .int (gI S 24 a1 1)) rfl dX6_leastEnds_6 ?_
  refine lv_iconst (v := 1) hx hb dX6_leastEnds_9 rfl ?_
  refine lv_isub hx hb dX6_leastEnds_10 ?_
  refine lv_ishl hx hb dX6_leastEnds_11 ?_
  obtain ⟨x4, e_x4, hf⟩ := lt_out hf
  refine x_nmI e_x4 ?_
  refine lv_istore (lv' := [(4, .int x4), (3, .int (-1 : Int32)), (2, .int (0 : Int32)), (0, .ref (B 24 a1)), (1, .int a2)]) hx hb dX6_leastEnds_12 hl (by decide) rfl (fun ls hl => ?_)
  exact w14 E.1 () a1 a2 (0 : Int32) (-1 : Int32) x4 (h_a1) hf _ _ _ hW hS (lv_sub hl [3, 4, 2, 1, 0] rfl)
set_option maxHeartbeats 4000000 in
set_option maxRecDepth 100000 in
theorem m_X6_cut (l : Launch) (G : GE) (B : Nat → Nat → Nat) (E : EN)  (S : ST) (a1 : Int32) (a2 : Int32) (a3 : Int32) (rr : Int32) (hf : f_X6_cut E S a1 a2 a3 = some rr) : Met l yX6_cut wsX6_cut (rmN 3) (va_Pc [.ref (B 2 0), .int a1, .int a2, .int a3] (WS G B E S)) (QI G B E S rr) 0 0 (AA G) := by
  refine Met.ofW (cc := cX6_cut) (maxL := 6) (ret := (some .int)) (by decide) rfl ?_
  intro p e s m args below meth c s₁ B0 hml hv
  obtain ⟨rfl, hW, hF⟩ := hv
  have hx := B0.exec
  have hb := B0.bytes
  have hr := B0.returns
  have hts := atoms_spec (ws := wsX6_cut) B0.pre
  have hown : s.vm.findClass RX6 = some m.cls := findClass_of_methodNamed B0.named
  have hlocks := B0.notSynchronized
  have hK := hF.1
  have hfix : CallFix p m c cX6_cut 6 s [.ref (B 2 0), .int a1, .int a2, .int a3].toArray wsX6_cut RX6 := ⟨hx, hb, hml, hown, hts⟩
  have hS : va_S (AA G) s.heap s.heap [] := va_S.rf
  have hl := lv_entry [.ref (B 2 0), .int a1, .int a2, .int a3] (n := 6) (Nat.le_of_ble_eq_true rfl)
  rw [lg_entry_eq]
  generalize (lg_sl [.ref (B 2 0), .int a1, .int a2, .int a3] ++ List.replicate (6 - (lg_sl [.ref (B 2 0), .int a1, .int a2, .int a3]).length) Slot.unset).toArray = ls at hl ⊢
  have hl : lv_has ls 6 [(0, .ref (B 2 0)), (1, .int a1), (2, .int a2), (3, .int a3)] := hl
  have q0 := hts (.initialized RX4) (List.mem_of_getElem? (i := 8) rfl)
  have q1 := hts (.instanceMethod yX4_within) (List.mem_of_getElem? (i := 7) rfl)
  have q2 := hts (.selects RX4 yX4_within yX4_within) (List.mem_of_getElem? (i := 9) rfl)
  have q3 := hts (.instanceMethod yX4_squares) (List.mem_of_getElem? (i := 23) rfl)
  have q4 := hts (.selects RX4 yX4_squares yX4_squares) (List.mem_of_getElem? (i := 24) rfl)
  have hi4 : ∀ w ∈ u_ws RX4 TX4 3, w ∈ wsX6_cut := in_seg 26 rfl
  unfold f_X6_cut at hf
  refine lv_aload_n hx hb dX6_cut_0 rfl (lv_at hl 0 rfl) ?_
  refine lv_iload_n hx hb dX6_cut_1 rfl (lv_at hl 2 rfl) ?_
  obtain ⟨r1, hc, hf⟩ := bd_out hf
  refine y_q (va_runV (As := [.int a2]) (rest := []) hfix (m_X6_laid l G B E S a2 r1 hc) (cwV 1 hts gX6_cut_X6_laid rfl rfl rfl ⟨rfl, hd_X6_laid⟩ ⟨Nat.le_of_ble_eq_true rfl, Nat.le_of_ble_eq_true rfl⟩) (y_pv hF hW hS (c2 E) (e2 _ _ _ _ _ _) rfl) rfl rfl hl.1 rfl (lv_room (Nat.le_of_ble_eq_true rfl)) dX6_cut_2 ⟨Nat.le_of_ble_eq_true rfl, Nat.le_of_ble_eq_true rfl⟩) hS (fun H locs hW hS => ?_)
  rcases r1 with _ | k2
  · have hf := nl_n hf
    refine lv_astoreN (lv' := [(4, .null), (0, .ref (B 2 0)), (1, .int a1), (2, .int a2), (3, .int a3)]) hx hb dX6_cut_5 hl (by decide) rfl (fun ls hl => ?_)
    refine lv_iload_n hx hb dX6_cut_7 rfl (lv_at hl 2 rfl) ?_
    refine lv_iconst (v := 1) hx hb dX6_cut_8 rfl ?_
    refine lv_icmp_lt (tgt := 32) hx hb dX6_cut_9 (by decide) (fun h => ?_) (fun h => ?_)
    · have hf := if_t h hf
      refine lv_bipush (v := -2) hx hb dX6_cut_32 (by decide) ?_
      exact zr_i hf hx hb hr rfl hF hW hS dX6_cut_34 hlocks
    · have hf := if_f h hf
      refine lv_iload_n hx hb dX6_cut_12 rfl (lv_at hl 2 rfl) ?_
      refine lv_bipush (v := 10) hx hb dX6_cut_13 (by decide) ?_
      refine lv_icmp_gt (tgt := 32) hx hb dX6_cut_15 (by decide) (fun h => ?_) (fun h => ?_)
      · have hf := if_t h hf
        refine lv_bipush (v := -2) hx hb dX6_cut_32 (by decide) ?_
        exact zr_i hf hx hb hr rfl hF hW hS dX6_cut_34 hlocks
      · have hf := if_f h hf
        refine lv_aloadN hx hb dX6_cut_18 (lv_at hl 0 rfl) ?_
        refine lv_ifnullN (tgt := 32) hx hb dX6_cut_20 (by decide) ?_
        refine lv_bipush (v := -2) hx hb dX6_cut_32 (by decide) ?_
        exact zr_i hf hx hb hr rfl hF hW hS dX6_cut_34 hlocks
  · have hf := nl_s hf
    obtain ⟨hk3, hf⟩ := ck_out hf
    have hk3 := of_decide_eq_true hk3
    refine lv_astore (lv' := [(4, .ref (B 24 k2)), (0, .ref (B 2 0)), (1, .int a1), (2, .int a2), (3, .int a3)]) hx hb dX6_cut_5 hl (by decide) rfl (fun ls hl => ?_)
    refine lv_iload_n hx hb dX6_cut_7 rfl (lv_at hl 2 rfl) ?_
    refine lv_iconst (v := 1) hx hb dX6_cut_8 rfl ?_
    refine lv_icmp_lt (tgt := 32) hx hb dX6_cut_9 (by decide) (fun h => ?_) (fun h => ?_)
    · have hf := if_t h hf
      refine lv_bipush (v := -2) hx hb dX6_cut_32 (by decide) ?_
      exact zr_i hf hx hb hr rfl hF hW hS dX6_cut_34 hlocks
    · have hf := if_f h hf
      refine lv_iload_n hx hb dX6_cut_12 rfl (lv_at hl 2 rfl) ?_
      refine lv_bipush (v := 10) hx hb dX6_cut_13 (by decide) ?_
      refine lv_icmp_gt (tgt := 32) hx hb dX6_cut_15 (by decide) (fun h => ?_) (fun h => ?_)
      · have hf := if_t h hf
        refine lv_bipush (v := -2) hx hb dX6_cut_32 (by decide) ?_
        exact zr_i hf hx hb hr rfl hF hW hS dX6_cut_34 hlocks
      · have hf := if_f h hf
        refine lv_aload hx hb dX6_cut_18 (lv_at hl 0 rfl) ?_
        refine lv_ifnull hx hb dX6_cut_20 ?_
        refine lv_iload_n hx hb dX6_cut_23 rfl (lv_at hl 4 rfl) ?_
        refine lv_if_lt (tgt := 32) hx hb dX6_cut_24 (by decide) (fun h => ?_) (fun h => ?_)
        · have hf := if_t h hf
          refine lv_bipush (v := -2) hx hb dX6_cut_32 (by decide) ?_
          exact zr_i hf hx hb hr rfl hF hW hS dX6_cut_34 hlocks
        · have hf := if_f h hf
          refine lv_iload_n hx hb dX6_cut_27 rfl (lv_at hl 4 rfl) ?_
          refine lv_iconst (v := 1) hx hb dX6_cut_28 rfl ?_
          refine lv_icmp_le (tgt := 35) hx hb dX6_cut_29 (by decide) (fun h => ?_) (fun h => ?_)
          · have hf := if_t h hf
            refine lv_aload hx hb dX6_cut_35 (lv_at hl 0 rfl) ?_
            refine x_getN hx hb hts hi4 hown hK hW (c24 E hk3) (e24 _ _ _ _ _ _) rfl 0 (Nat.le_of_ble_eq_true rfl) (NW.f hF.2.1 0 (q := ("MovesUp", 205, "MovesUp$Row", "sort", "I", "MovesUp")) rfl) (fun _ h => h) (v := .int (gI S 24 k2 0)) rfl dX6_cut_37 ?_
            refine lv_iconst (v := -1) hx hb dX6_cut_40 rfl ?_
            refine lv_icmp_ne (tgt := 47) hx hb dX6_cut_41 (by decide) (fun h => ?_) (fun h => ?_)
            · have hf := if_f h hf
              refine lv_aload hx hb dX6_cut_47 (lv_at hl 0 rfl) ?_
              refine x_getN hx hb hts hi4 hown hK hW (c24 E hk3) (e24 _ _ _ _ _ _) rfl 1 (Nat.le_of_ble_eq_true rfl) (NW.f hF.2.1 1 (q := ("MovesUp", 206, "MovesUp$Row", "size", "I", "MovesUp")) rfl) (fun _ h => h) (v := .int (gI S 24 k2 1)) rfl dX6_cut_49 ?_
              refine lv_iconst (v := 1) hx hb dX6_cut_52 rfl ?_
              refine lv_icmp_lt (tgt := 76) hx hb dX6_cut_53 (by decide) (fun h => ?_) (fun h => ?_)
              · have hf := if_t h hf
                refine lv_bipush (v := -2) hx hb dX6_cut_76 (by decide) ?_
                exact zr_i hf hx hb hr rfl hF hW hS dX6_cut_78 hlocks
              · have hf := if_f h hf
                refine lv_aload hx hb dX6_cut_56 (lv_at hl 0 rfl) ?_
                refine x_getN hx hb hts hi4 hown hK hW (c24 E hk3) (e24 _ _ _ _ _ _) rfl 1 (Nat.le_of_ble_eq_true rfl) (NW.f hF.2.1 1 (q := ("MovesUp", 206, "MovesUp$Row", "size", "I", "MovesUp")) rfl) (fun _ h => h) (v := .int (gI S 24 k2 1)) rfl dX6_cut_58 ?_
                refine lv_bipush (v := 10) hx hb dX6_cut_61 (by decide) ?_
                refine lv_icmp_gt (tgt := 76) hx hb dX6_cut_63 (by decide) (fun h => ?_) (fun h => ?_)
                · have hf := if_t h hf
                  refine lv_bipush (v := -2) hx hb dX6_cut_76 (by decide) ?_
                  exact zr_i hf hx hb hr rfl hF hW hS dX6_cut_78 hlocks
                · have hf := if_f h hf
                  refine lv_aload hx hb dX6_cut_66 (lv_at hl 0 rfl) ?_
                  refine lv_bipush (v := 99) hx hb dX6_cut_68 (by decide) ?_
                  obtain ⟨r4, hc, hf⟩ := bd_out hf
                  refine y_i (va_runVN (As := [.int (99 : Int32)]) (rest := []) hfix (m_X4_within l G B E k2 (c24 E hk3) S (99 : Int32) r4 hc) ⟨va_cnB 1 hts gX6_cut_X4_within_n224 rfl rfl rfl (NW.m hF.2.1 27 (q := ("MovesUp", 224, "MovesUp$Row", "within", "(I)Z", "MovesUp")) rfl) q0 hd_X4_within ⟨Nat.le_of_ble_eq_true rfl, Nat.le_of_ble_eq_true rfl⟩, q1, q2⟩ (y_pv hF hW hS (c24 E hk3) (e24 _ _ _ _ _ _) rfl) rfl rfl hl.1 rfl (lv_room (Nat.le_of_ble_eq_true rfl)) dX6_cut_70 ⟨Nat.le_of_ble_eq_true rfl, Nat.le_of_ble_eq_true rfl⟩) hS (fun H locs hW hS => ?_)
                  refine lv_if_ne (tgt := 79) hx hb dX6_cut_73 (by decide) (fun h => ?_) (fun h => ?_)
                  · have hf := if_f h hf
                    refine lv_aload hx hb dX6_cut_79 (lv_at hl 0 rfl) ?_
                    refine x_getN hx hb hts hi4 hown hK hW (c24 E hk3) (e24 _ _ _ _ _ _) rfl 1 (Nat.le_of_ble_eq_true rfl) (NW.f hF.2.1 1 (q := ("MovesUp", 206, "MovesUp$Row", "size", "I", "MovesUp")) rfl) (fun _ h => h) (v := .int (gI S 24 k2 1)) rfl dX6_cut_81 ?_
                    refine lv_iload_n hx hb dX6_cut_84 rfl (lv_at hl 2 rfl) ?_
                    refine lv_icmp_ge (tgt := 90) hx hb dX6_cut_85 (by decide) (fun h => ?_) (fun h => ?_)
                    · have hf := if_t h hf
                      refine lv_aload hx hb dX6_cut_90 (lv_at hl 0 rfl) ?_
                      refine lv_iload_n hx hb dX6_cut_92 rfl (lv_at hl 2 rfl) ?_
                      obtain ⟨r5, hc, hf⟩ := bd_out hf
                      refine y_i (va_runS (As := [.ref (B 24 k2), .int a1]) (rest := []) hfix (m_X6_leastEnds l G B E S k2 (c24 E hk3) a1 r5 hc) (va_cwS 2 hts gX6_cut_X6_leastEnds rfl rfl rfl hd_X6_leastEnds ⟨Nat.le_of_ble_eq_true rfl, Nat.le_of_ble_eq_true rfl⟩) (y_ps hF hW hS) rfl rfl hl.1 rfl (lv_room (Nat.le_of_ble_eq_true rfl)) dX6_cut_93 ⟨Nat.le_of_ble_eq_true rfl, Nat.le_of_ble_eq_true rfl⟩) hS (fun H locs hW hS => ?_)
                      refine lv_istore (lv' := [(5, .int r5), (4, .ref (B 24 k2)), (0, .ref (B 2 0)), (1, .int a1), (2, .int a2), (3, .int a3)]) hx hb dX6_cut_96 hl (by decide) rfl (fun ls hl => ?_)
                      refine lv_iload_n hx hb dX6_cut_98 rfl (lv_at hl 5 rfl) ?_
                      refine lv_if_ne (tgt := 112) hx hb dX6_cut_99 (by decide) (fun h => ?_) (fun h => ?_)
                      · have hf := if_f h hf
                        refine lv_iload hx hb dX6_cut_112 (lv_at hl 0 rfl) ?_
                        exact zr_i hf hx hb hr rfl hF hW hS dX6_cut_114 hlocks
                      · have hf := if_t h hf
                        refine lv_aload hx hb dX6_cut_102 (lv_at hl 1 rfl) ?_
                        refine lv_iload hx hb dX6_cut_104 (lv_at hl 0 rfl) ?_
                        obtain ⟨r6, hc, hf⟩ := bd_out hf
                        refine y_i (va_runVN (As := [.int r5]) (rest := []) hfix (m_X4_squares l G B E k2 (c24 E hk3) S r5 r6 hc) ⟨va_cnB 1 hts gX6_cut_X4_squares_n231 rfl rfl rfl (NW.m hF.2.1 28 (q := ("MovesUp", 231, "MovesUp$Row", "squares", "(I)I", "MovesUp")) rfl) q0 hd_X4_squares ⟨Nat.le_of_ble_eq_true rfl, Nat.le_of_ble_eq_true rfl⟩, q3, q4⟩ (y_pv hF hW hS (c24 E hk3) (e24 _ _ _ _ _ _) rfl) rfl rfl hl.1 rfl (lv_room (Nat.le_of_ble_eq_true rfl)) dX6_cut_106 ⟨Nat.le_of_ble_eq_true rfl, Nat.le_of_ble_eq_true rfl⟩) hS (fun H locs hW hS => ?_)
                        refine lv_goto (tgt := 114) hx hb dX6_cut_109 (by decide) ?_
                        exact zr_i hf hx hb hr rfl hF hW hS dX6_cut_114 hlocks
                    · have hf := if_f h hf
                      refine lv_iconst (v := -1) hx hb dX6_cut_88 rfl ?_
                      exact zr_i hf hx hb hr rfl hF hW hS dX6_cut_89 hlocks
                  · have hf := if_t h hf
                    refine lv_bipush (v := -2) hx hb dX6_cut_76 (by decide) ?_
                    exact zr_i hf hx hb hr rfl hF hW hS dX6_cut_78 hlocks
            · have hf := if_t h hf
              refine lv_bipush (v := -11) hx hb dX6_cut_44 (by decide) ?_
              exact zr_i hf hx hb hr rfl hF hW hS dX6_cut_46 hlocks
          · have hf := if_f h hf
            refine lv_bipush (v := -2) hx hb dX6_cut_32 (by decide) ?_
            exact zr_i hf hx hb hr rfl hF hW hS dX6_cut_34 hlocks
set_option maxHeartbeats 4000000 in
set_option maxRecDepth 100000 in
theorem m_X6_image (l : Launch) (G : GE) (B : Nat → Nat → Nat) (E : EN)  (S : ST)  (rr : Int32) (SS : ST) (hf : f_X6_image E S = some (rr, SS)) : Met l yX6_image wsX6_image (rmN 2) (va_Pc [.ref (B 2 0)] (WS G B E S)) (QI G B E SS rr) 0 0 (AA G) := by
  refine Met.ofW (cc := cX6_image) (maxL := 2) (ret := (some .int)) (by decide) rfl ?_
  intro p e s m args below meth c s₁ B0 hml hv
  obtain ⟨rfl, hW, hF⟩ := hv
  have hx := B0.exec
  have hb := B0.bytes
  have hr := B0.returns
  have hts := atoms_spec (ws := wsX6_image) B0.pre
  have hown : s.vm.findClass RX6 = some m.cls := findClass_of_methodNamed B0.named
  have hlocks := B0.notSynchronized
  have hK := hF.1
  have hfix : CallFix p m c cX6_image 2 s [.ref (B 2 0)].toArray wsX6_image RX6 := ⟨hx, hb, hml, hown, hts⟩
  have hS : va_S (AA G) s.heap s.heap [] := va_S.rf
  have hl := lv_entry [.ref (B 2 0)] (n := 2) (Nat.le_of_ble_eq_true rfl)
  rw [lg_entry_eq]
  generalize (lg_sl [.ref (B 2 0)] ++ List.replicate (2 - (lg_sl [.ref (B 2 0)]).length) Slot.unset).toArray = ls at hl ⊢
  have hl : lv_has ls 2 [(0, .ref (B 2 0))] := hl
  have q0 := hts (.fieldLink RX6 73 "MovesUp" "hasImage" "Z") (List.mem_of_getElem? (i := 3) rfl)
  have q1 := hts (.fieldLink RX6 15 "MovesUp" "rollSize" "I") (List.mem_of_getElem? (i := 1) rfl)
  have q2 := hts (.fieldLink RX6 77 "MovesUp" "imageSize" "I") (List.mem_of_getElem? (i := 4) rfl)
  have q3 := hts (.fieldLink RX6 28 "MovesUp" "ruling" "I") (List.mem_of_getElem? (i := 5) rfl)
  have q4 := hts (.fieldLink RX6 80 "MovesUp" "imageRuling" "I") (List.mem_of_getElem? (i := 6) rfl)
  have q5 := hts (.fieldLink RX6 11 "MovesUp" "roll" "[LMovesUp$Pupil;") (List.mem_of_getElem? (i := 2) rfl)
  have q6 := hts (.initialized RX2) (List.mem_of_getElem? (i := 8) rfl)
  have q7 := hts (.instanceMethod yX2_keep) (List.mem_of_getElem? (i := 7) rfl)
  have q8 := hts (.selects RX2 yX2_keep yX2_keep) (List.mem_of_getElem? (i := 9) rfl)
  have hi6 : ∀ w ∈ u_ws RX6 TX6 15, w ∈ wsX6_image := in_seg 19 rfl
  have w25 : ∀ (S : ST)  , f_X6_image_b25 E S  = some (rr, SS) → ∀ (H : Heap) (locs : List Loc) (ls : Array Slot), WH G B E S H → va_S (AA G) s.heap H locs → lv_has ls 2 [(0, .ref (B 2 0))] → W p l e (headSpec wsX6_image (rmN 2)).room s m [.ref (B 2 0)].toArray below meth c H locs 0 0 (MQ below (QI G B E SS rr) [.ref (B 2 0)].toArray s 0 0 (AA G)) (F0 m 25 ls []) := by
    intro S  hf H locs ls hW hS hl
    unfold f_X6_image_b25 at hf
    refine lv_aload_n hx hb dX6_image_25 rfl (lv_at hl 0 rfl) ?_
    refine lv_iconst (v := 1) hx hb dX6_image_26 rfl ?_
    obtain ⟨S1, e_S1, hf⟩ := lt_out hf
    refine x_putI hx hb hts hi6 tyX6 tyX6_ok nmX6 hown hK hW hS (c2 E) (e2 _ _ _) rfl 12 (Nat.le_of_ble_eq_true rfl) q0 (fun _ h => h) rfl (tyX6_ok 12 (Nat.le_of_ble_eq_true rfl)) rfl rfl (Nat.le_of_ble_eq_true rfl) (pu2_12 _ _) e_S1 dX6_image_27 (fun H locs hW hS => ?_)
    refine lv_aload_n hx hb dX6_image_30 rfl (lv_at hl 0 rfl) ?_
    refine lv_aload_n hx hb dX6_image_31 rfl (lv_at hl 0 rfl) ?_
    refine x_get hx hb hts hi6 hown hK hW (c2 E) (e2 _ _ _ _ _ _) rfl 1 (Nat.le_of_ble_eq_true rfl) q1 (fun _ h => h) (v := .int (gI S1 2 0 1)) rfl dX6_image_32 ?_
    obtain ⟨S2, e_S2, hf⟩ := lt_out hf
    refine x_putI hx hb hts hi6 tyX6 tyX6_ok nmX6 hown hK hW hS (c2 E) (e2 _ _ _) rfl 13 (Nat.le_of_ble_eq_true rfl) q2 (fun _ h => h) rfl (tyX6_ok 13 (Nat.le_of_ble_eq_true rfl)) rfl rfl (Nat.le_of_ble_eq_true rfl) (pu2_13 _ _) e_S2 dX6_image_35 (fun H locs hW hS => ?_)
    refine lv_aload_n hx hb dX6_image_38 rfl (lv_at hl 0 rfl) ?_
    refine lv_aload_n hx hb dX6_image_39 rfl (lv_at hl 0 rfl) ?_
    refine x_get hx hb hts hi6 hown hK hW (c2 E) (e2 _ _ _ _ _ _) rfl 4 (Nat.le_of_ble_eq_true rfl) q3 (fun _ h => h) (v := .int (gI S2 2 0 4)) rfl dX6_image_40 ?_
    obtain ⟨S3, e_S3, hf⟩ := lt_out hf
    refine x_putI hx hb hts hi6 tyX6 tyX6_ok nmX6 hown hK hW hS (c2 E) (e2 _ _ _) rfl 14 (Nat.le_of_ble_eq_true rfl) q4 (fun _ h => h) rfl (tyX6_ok 14 (Nat.le_of_ble_eq_true rfl)) rfl rfl (Nat.le_of_ble_eq_true rfl) (pu2_14 _ _) e_S3 dX6_image_43 (fun H locs hW hS => ?_)
    refine lv_aload_n hx hb dX6_image_46 rfl (lv_at hl 0 rfl) ?_
    refine x_get hx hb hts hi6 hown hK hW (c2 E) (e2 _ _ _ _ _ _) rfl 1 (Nat.le_of_ble_eq_true rfl) q1 (fun _ h => h) (v := .int (gI S3 2 0 1)) rfl dX6_image_47 ?_
    exact z_i hf hx hb hr rfl hF hW hS dX6_image_50 hlocks
  have w2 : ∀ (n2 : Nat) (S : ST) (v1 : Int32) , f_X6_image_b2 E n2 S v1 = some (rr, SS) → ∀ (H : Heap) (locs : List Loc) (ls : Array Slot), WH G B E S H → va_S (AA G) s.heap H locs → lv_has ls 2 [(0, .ref (B 2 0)), (1, .int v1)] → W p l e (headSpec wsX6_image (rmN 2)).room s m [.ref (B 2 0)].toArray below meth c H locs 0 0 (MQ below (QI G B E SS rr) [.ref (B 2 0)].toArray s 0 0 (AA G)) (F0 m 2 ls []) := by
    intro n2
    induction n2 with
    | zero =>
      intro S v1 hf
      exact absurd (show (none : Option (Int32 × ST)) = some (rr, SS) from hf) (fun h => by cases h)
    | succ n2 ih2 =>
      intro S v1 hf H locs ls hW hS hl
      have hf : g_X6_image_b2 E (f_X6_image_b2 E n2) S v1 = some (rr, SS) := hf
      unfold g_X6_image_b2 at hf
      refine lv_iload_n hx hb dX6_image_2 rfl (lv_at hl 1 rfl) ?_
      refine lv_aload_n hx hb dX6_image_3 rfl (lv_at hl 0 rfl) ?_
      refine x_get hx hb hts hi6 hown hK hW (c2 E) (e2 _ _ _ _ _ _) rfl 1 (Nat.le_of_ble_eq_true rfl) q1 (fun _ h => h) (v := .int (gI S 2 0 1)) rfl dX6_image_4 ?_
      refine lv_icmp_ge (tgt := 25) hx hb dX6_image_7 (by decide) (fun h => ?_) (fun h => ?_)
      · have hf := if_t h hf
        exact w25 S  hf _ _ _ hW hS (lv_sub hl [0] rfl)
      · have hf := if_f h hf
        refine lv_aload_n hx hb dX6_image_10 rfl (lv_at hl 0 rfl) ?_
        refine x_get hx hb hts hi6 hown hK hW (c2 E) (e2 _ _ _ _ _ _) rfl 0 (Nat.le_of_ble_eq_true rfl) q5 (fun _ h => h) (v := .ref (B 3 0)) rfl dX6_image_11 ?_
        refine lv_iload_n hx hb dX6_image_14 rfl (lv_at hl 1 rfl) ?_
        obtain ⟨hi_4, hf⟩ := ck_out hf
        have hi_4 := ib_in hi_4
        refine x_aaldN hx hb hK hW (c3 E) (t := 4) rfl rfl (e3 _ _ _ _ _ _) hi_4 (jn := v1.toNatClampNeg) rfl dX6_image_15 ?_
        obtain ⟨o5, e_o5, hf⟩ := lt_out hf
        refine x_nmN e_o5 ?_
        rcases o5 with _ | k6
        · have hf := nl_n hf
          exact absurd hf (by intro h; cases h)
        · have hf := nl_s hf
          obtain ⟨hk7, hf⟩ := ck_out hf
          have hk7 := of_decide_eq_true hk7
          obtain ⟨S8, hc, hf⟩ := bd_out hf
          refine y_v (va_runVN (As := []) (rest := []) hfix (m_X2_keep l G B E k6 (c20 hk7) S  S8 hc) ⟨va_cnB 0 hts gX6_image_X2_keep_n234 rfl rfl rfl (NW.m hF.2.1 29 (q := ("MovesUp", 234, "MovesUp$Pupil", "keep", "()V", "MovesUp")) rfl) q6 hd_X2_keep ⟨Nat.le_of_ble_eq_true rfl, Nat.le_of_ble_eq_true rfl⟩, q7, q8⟩ (y_pv hF hW hS (c20 hk7) (e20 _ _ _ _ _ _) rfl) rfl rfl hl.1 rfl (lv_room (Nat.le_of_ble_eq_true rfl)) dX6_image_16 ⟨Nat.le_of_ble_eq_true rfl, Nat.le_of_ble_eq_true rfl⟩) hS (fun H locs hW hS => ?_)
          obtain ⟨x9, e_x9, hf⟩ := lt_out hf
          refine lv_iinc (v := x9) (lv' := [(1, .int x9), (0, .ref (B 2 0))]) hx hb dX6_image_19 hl (k := 1) rfl (by rw [e_x9]; rfl) (by decide) rfl (fun ls hl => ?_)
          refine lv_goto (tgt := 2) hx hb dX6_image_22 (by decide) ?_
          exact ih2 S8 x9  hf _ _ _ hW hS (lv_sub hl [1, 0] rfl)
  unfold f_X6_image at hf
  refine lv_iconst (v := 0) hx hb dX6_image_0 rfl ?_
  refine lv_istore_n (lv' := [(1, .int (0 : Int32)), (0, .ref (B 2 0))]) hx hb dX6_image_1 rfl hl (by decide) rfl (fun ls hl => ?_)
  exact w2 E.1 S (0 : Int32)  hf _ _ _ hW hS (lv_sub hl [1, 0] rfl)
set_option maxHeartbeats 4000000 in
set_option maxRecDepth 100000 in
theorem m_X6_back (l : Launch) (G : GE) (B : Nat → Nat → Nat) (E : EN)  (S : ST)  (rr : Int32) (SS : ST) (hf : f_X6_back E S = some (rr, SS)) : Met l yX6_back wsX6_back (rmN 2) (va_Pc [.ref (B 2 0)] (WS G B E S)) (QI G B E SS rr) 0 0 (AA G) := by
  refine Met.ofW (cc := cX6_back) (maxL := 2) (ret := (some .int)) (by decide) rfl ?_
  intro p e s m args below meth c s₁ B0 hml hv
  obtain ⟨rfl, hW, hF⟩ := hv
  have hx := B0.exec
  have hb := B0.bytes
  have hr := B0.returns
  have hts := atoms_spec (ws := wsX6_back) B0.pre
  have hown : s.vm.findClass RX6 = some m.cls := findClass_of_methodNamed B0.named
  have hlocks := B0.notSynchronized
  have hK := hF.1
  have hfix : CallFix p m c cX6_back 2 s [.ref (B 2 0)].toArray wsX6_back RX6 := ⟨hx, hb, hml, hown, hts⟩
  have hS : va_S (AA G) s.heap s.heap [] := va_S.rf
  have hl := lv_entry [.ref (B 2 0)] (n := 2) (Nat.le_of_ble_eq_true rfl)
  rw [lg_entry_eq]
  generalize (lg_sl [.ref (B 2 0)] ++ List.replicate (2 - (lg_sl [.ref (B 2 0)]).length) Slot.unset).toArray = ls at hl ⊢
  have hl : lv_has ls 2 [(0, .ref (B 2 0))] := hl
  have q0 := hts (.fieldLink RX6 80 "MovesUp" "imageRuling" "I") (List.mem_of_getElem? (i := 5) rfl)
  have q1 := hts (.fieldLink RX6 28 "MovesUp" "ruling" "I") (List.mem_of_getElem? (i := 6) rfl)
  have q2 := hts (.fieldLink RX6 15 "MovesUp" "rollSize" "I") (List.mem_of_getElem? (i := 3) rfl)
  have q3 := hts (.fieldLink RX6 77 "MovesUp" "imageSize" "I") (List.mem_of_getElem? (i := 2) rfl)
  have q4 := hts (.fieldLink RX6 11 "MovesUp" "roll" "[LMovesUp$Pupil;") (List.mem_of_getElem? (i := 4) rfl)
  have q5 := hts (.initialized RX2) (List.mem_of_getElem? (i := 8) rfl)
  have q6 := hts (.instanceMethod yX2_lay) (List.mem_of_getElem? (i := 7) rfl)
  have q7 := hts (.selects RX2 yX2_lay yX2_lay) (List.mem_of_getElem? (i := 9) rfl)
  have q8 := hts (.fieldLink RX6 73 "MovesUp" "hasImage" "Z") (List.mem_of_getElem? (i := 1) rfl)
  have hi6 : ∀ w ∈ u_ws RX6 TX6 15, w ∈ wsX6_back := in_seg 19 rfl
  have w43 : ∀ (S : ST)  , f_X6_back_b43 E S  = some (rr, SS) → ∀ (H : Heap) (locs : List Loc) (ls : Array Slot), WH G B E S H → va_S (AA G) s.heap H locs → lv_has ls 2 [(0, .ref (B 2 0))] → W p l e (headSpec wsX6_back (rmN 2)).room s m [.ref (B 2 0)].toArray below meth c H locs 0 0 (MQ below (QI G B E SS rr) [.ref (B 2 0)].toArray s 0 0 (AA G)) (F0 m 43 ls []) := by
    intro S  hf H locs ls hW hS hl
    unfold f_X6_back_b43 at hf
    refine lv_aload_n hx hb dX6_back_43 rfl (lv_at hl 0 rfl) ?_
    refine lv_aload_n hx hb dX6_back_44 rfl (lv_at hl 0 rfl) ?_
    refine x_get hx hb hts hi6 hown hK hW (c2 E) (e2 _ _ _ _ _ _) rfl 14 (Nat.le_of_ble_eq_true rfl) q0 (fun _ h => h) (v := .int (gI S 2 0 14)) rfl dX6_back_45 ?_
    obtain ⟨S1, e_S1, hf⟩ := lt_out hf
    refine x_putI hx hb hts hi6 tyX6 tyX6_ok nmX6 hown hK hW hS (c2 E) (e2 _ _ _) rfl 4 (Nat.le_of_ble_eq_true rfl) q1 (fun _ h => h) rfl (tyX6_ok 4 (Nat.le_of_ble_eq_true rfl)) rfl rfl (Nat.le_of_ble_eq_true rfl) (pu2_4 _ _) e_S1 dX6_back_48 (fun H locs hW hS => ?_)
    refine lv_aload_n hx hb dX6_back_51 rfl (lv_at hl 0 rfl) ?_
    refine x_get hx hb hts hi6 hown hK hW (c2 E) (e2 _ _ _ _ _ _) rfl 1 (Nat.le_of_ble_eq_true rfl) q2 (fun _ h => h) (v := .int (gI S1 2 0 1)) rfl dX6_back_52 ?_
    exact z_i hf hx hb hr rfl hF hW hS dX6_back_55 hlocks
  have w12 : ∀ (n12 : Nat) (S : ST) (v1 : Int32) , f_X6_back_b12 E n12 S v1 = some (rr, SS) → ∀ (H : Heap) (locs : List Loc) (ls : Array Slot), WH G B E S H → va_S (AA G) s.heap H locs → lv_has ls 2 [(0, .ref (B 2 0)), (1, .int v1)] → W p l e (headSpec wsX6_back (rmN 2)).room s m [.ref (B 2 0)].toArray below meth c H locs 0 0 (MQ below (QI G B E SS rr) [.ref (B 2 0)].toArray s 0 0 (AA G)) (F0 m 12 ls []) := by
    intro n12
    induction n12 with
    | zero =>
      intro S v1 hf
      exact absurd (show (none : Option (Int32 × ST)) = some (rr, SS) from hf) (fun h => by cases h)
    | succ n12 ih12 =>
      intro S v1 hf H locs ls hW hS hl
      have hf : g_X6_back_b12 E (f_X6_back_b12 E n12) S v1 = some (rr, SS) := hf
      unfold g_X6_back_b12 at hf
      refine lv_iload_n hx hb dX6_back_12 rfl (lv_at hl 1 rfl) ?_
      refine lv_aload_n hx hb dX6_back_13 rfl (lv_at hl 0 rfl) ?_
      refine x_get hx hb hts hi6 hown hK hW (c2 E) (e2 _ _ _ _ _ _) rfl 13 (Nat.le_of_ble_eq_true rfl) q3 (fun _ h => h) (v := .int (gI S 2 0 13)) rfl dX6_back_14 ?_
      refine lv_icmp_ge (tgt := 43) hx hb dX6_back_17 (by decide) (fun h => ?_) (fun h => ?_)
      · have hf := if_t h hf
        exact w43 S  hf _ _ _ hW hS (lv_sub hl [0] rfl)
      · have hf := if_f h hf
        refine lv_iload_n hx hb dX6_back_20 rfl (lv_at hl 1 rfl) ?_
        refine lv_aload_n hx hb dX6_back_21 rfl (lv_at hl 0 rfl) ?_
        refine x_get hx hb hts hi6 hown hK hW (c2 E) (e2 _ _ _ _ _ _) rfl 1 (Nat.le_of_ble_eq_true rfl) q2 (fun _ h => h) (v := .int (gI S 2 0 1)) rfl dX6_back_22 ?_
        refine lv_icmp_ge (tgt := 43) hx hb dX6_back_25 (by decide) (fun h => ?_) (fun h => ?_)
        · have hf := if_t h hf
          exact w43 S  hf _ _ _ hW hS (lv_sub hl [0] rfl)
        · have hf := if_f h hf
          refine lv_aload_n hx hb dX6_back_28 rfl (lv_at hl 0 rfl) ?_
          refine x_get hx hb hts hi6 hown hK hW (c2 E) (e2 _ _ _ _ _ _) rfl 0 (Nat.le_of_ble_eq_true rfl) q4 (fun _ h => h) (v := .ref (B 3 0)) rfl dX6_back_29 ?_
          refine lv_iload_n hx hb dX6_back_32 rfl (lv_at hl 1 rfl) ?_
          obtain ⟨hi_2, hf⟩ := ck_out hf
          have hi_2 := ib_in hi_2
          refine x_aaldN hx hb hK hW (c3 E) (t := 4) rfl rfl (e3 _ _ _ _ _ _) hi_2 (jn := v1.toNatClampNeg) rfl dX6_back_33 ?_
          obtain ⟨o3, e_o3, hf⟩ := lt_out hf
          refine x_nmN e_o3 ?_
          rcases o3 with _ | k4
          · have hf := nl_n hf
            exact absurd hf (by intro h; cases h)
          · have hf := nl_s hf
            obtain ⟨hk5, hf⟩ := ck_out hf
            have hk5 := of_decide_eq_true hk5
            obtain ⟨S6, hc, hf⟩ := bd_out hf
            refine y_v (va_runVN (As := []) (rest := []) hfix (m_X2_lay l G B E k4 (c20 hk5) S  S6 hc) ⟨va_cnB 0 hts gX6_back_X2_lay_n237 rfl rfl rfl (NW.m hF.2.1 30 (q := ("MovesUp", 237, "MovesUp$Pupil", "lay", "()V", "MovesUp")) rfl) q5 hd_X2_lay ⟨Nat.le_of_ble_eq_true rfl, Nat.le_of_ble_eq_true rfl⟩, q6, q7⟩ (y_pv hF hW hS (c20 hk5) (e20 _ _ _ _ _ _) rfl) rfl rfl hl.1 rfl (lv_room (Nat.le_of_ble_eq_true rfl)) dX6_back_34 ⟨Nat.le_of_ble_eq_true rfl, Nat.le_of_ble_eq_true rfl⟩) hS (fun H locs hW hS => ?_)
            obtain ⟨x7, e_x7, hf⟩ := lt_out hf
            refine lv_iinc (v := x7) (lv' := [(1, .int x7), (0, .ref (B 2 0))]) hx hb dX6_back_37 hl (k := 1) rfl (by rw [e_x7]; rfl) (by decide) rfl (fun ls hl => ?_)
            refine lv_goto (tgt := 12) hx hb dX6_back_40 (by decide) ?_
            exact ih12 S6 x7  hf _ _ _ hW hS (lv_sub hl [1, 0] rfl)
  unfold f_X6_back at hf
  refine lv_aload_n hx hb dX6_back_0 rfl (lv_at hl 0 rfl) ?_
  refine x_get hx hb hts hi6 hown hK hW (c2 E) (e2 _ _ _ _ _ _) rfl 12 (Nat.le_of_ble_eq_true rfl) q8 (fun _ h => h) (v := .int (gI S 2 0 12)) rfl dX6_back_1 ?_
  refine lv_if_ne (tgt := 10) hx hb dX6_back_4 (by decide) (fun h => ?_) (fun h => ?_)
  · have hf := if_f h hf
    refine lv_iconst (v := 0) hx hb dX6_back_10 rfl ?_
    refine lv_istore_n (lv' := [(1, .int (0 : Int32)), (0, .ref (B 2 0))]) hx hb dX6_back_11 rfl hl (by decide) rfl (fun ls hl => ?_)
    exact w12 E.1 S (0 : Int32)  hf _ _ _ hW hS (lv_sub hl [1, 0] rfl)
  · have hf := if_t h hf
    refine lv_bipush (v := -3) hx hb dX6_back_7 (by decide) ?_
    exact z_i hf hx hb hr rfl hF hW hS dX6_back_9 hlocks
set_option maxHeartbeats 4000000 in
set_option maxRecDepth 100000 in
theorem m_X6_allClasses (l : Launch) (G : GE) (B : Nat → Nat → Nat) (E : EN)  (S : ST)  (rr : Int32) (hf : f_X6_allClasses E S = some rr) : Met l yX6_allClasses wsX6_allClasses (rmN 1) (va_Pc [.ref (B 2 0)] (WS G B E S)) (QI G B E S rr) 0 0 (AA G) := by
  refine Met.ofW (cc := cX6_allClasses) (maxL := 3) (ret := (some .int)) (by decide) rfl ?_
  intro p e s m args below meth c s₁ B0 hml hv
  obtain ⟨rfl, hW, hF⟩ := hv
  have hx := B0.exec
  have hb := B0.bytes
  have hr := B0.returns
  have hts := atoms_spec (ws := wsX6_allClasses) B0.pre
  have hown : s.vm.findClass RX6 = some m.cls := findClass_of_methodNamed B0.named
  have hlocks := B0.notSynchronized
  have hK := hF.1
  have hfix : CallFix p m c cX6_allClasses 3 s [.ref (B 2 0)].toArray wsX6_allClasses RX6 := ⟨hx, hb, hml, hown, hts⟩
  have hS : va_S (AA G) s.heap s.heap [] := va_S.rf
  have hl := lv_entry [.ref (B 2 0)] (n := 3) (Nat.le_of_ble_eq_true rfl)
  rw [lg_entry_eq]
  generalize (lg_sl [.ref (B 2 0)] ++ List.replicate (3 - (lg_sl [.ref (B 2 0)]).length) Slot.unset).toArray = ls at hl ⊢
  have hl : lv_has ls 3 [(0, .ref (B 2 0))] := hl
  have q0 := hts (.fieldLink RX6 15 "MovesUp" "rollSize" "I") (List.mem_of_getElem? (i := 1) rfl)
  have q1 := hts (.fieldLink RX6 11 "MovesUp" "roll" "[LMovesUp$Pupil;") (List.mem_of_getElem? (i := 2) rfl)
  have hi6 : ∀ w ∈ u_ws RX6 TX6 15, w ∈ wsX6_allClasses := in_seg 3 rfl
  have hi2 : ∀ w ∈ u_ws RX2 TX2 7, w ∈ wsX6_allClasses := in_seg 18 rfl
  have w4 : ∀ (n4 : Nat) (_ : Unit) (v1 : Int32) (v2 : Int32) , f_X6_allClasses_b4 E n4 S v1 v2 = some rr → ∀ (H : Heap) (locs : List Loc) (ls : Array Slot), WH G B E S H → va_S (AA G) s.heap H locs → lv_has ls 3 [(0, .ref (B 2 0)), (1, .int v1), (2, .int v2)] → W p l e (headSpec wsX6_allClasses (rmN 1)).room s m [.ref (B 2 0)].toArray below meth c H locs 0 0 (MQ below (QI G B E S rr) [.ref (B 2 0)].toArray s 0 0 (AA G)) (F0 m 4 ls []) := by
    intro n4
    induction n4 with
    | zero =>
      intro _ v1 v2 hf
      exact absurd (show (none : Option Int32) = some rr from hf) (fun h => by cases h)
    | succ n4 ih4 =>
      intro _ v1 v2 hf H locs ls hW hS hl
      have hf : g_X6_allClasses_b4 E (f_X6_allClasses_b4 E n4) S v1 v2 = some rr := hf
      unfold g_X6_allClasses_b4 at hf
      refine lv_iload_n hx hb dX6_allClasses_4 rfl (lv_at hl 2 rfl) ?_
      refine lv_aload_n hx hb dX6_allClasses_5 rfl (lv_at hl 0 rfl) ?_
      refine x_get hx hb hts hi6 hown hK hW (c2 E) (e2 _ _ _ _ _ _) rfl 1 (Nat.le_of_ble_eq_true rfl) q0 (fun _ h => h) (v := .int (gI S 2 0 1)) rfl dX6_allClasses_6 ?_
      refine lv_icmp_ge (tgt := 30) hx hb dX6_allClasses_9 (by decide) (fun h => ?_) (fun h => ?_)
      · have hf := if_t h hf
        refine lv_iload_n hx hb dX6_allClasses_30 rfl (lv_at hl 1 rfl) ?_
        exact zr_i hf hx hb hr rfl hF hW hS dX6_allClasses_31 hlocks
      · have hf := if_f h hf
        refine lv_iload_n hx hb dX6_allClasses_12 rfl (lv_at hl 1 rfl) ?_
        refine lv_aload_n hx hb dX6_allClasses_13 rfl (lv_at hl 0 rfl) ?_
        refine x_get hx hb hts hi6 hown hK hW (c2 E) (e2 _ _ _ _ _ _) rfl 0 (Nat.le_of_ble_eq_true rfl) q1 (fun _ h => h) (v := .ref (B 3 0)) rfl dX6_allClasses_14 ?_
        refine lv_iload_n hx hb dX6_allClasses_17 rfl (lv_at hl 2 rfl) ?_
        obtain ⟨hi_1, hf⟩ := ck_out hf
        have hi_1 := ib_in hi_1
        refine x_aaldN hx hb hK hW (c3 E) (t := 4) rfl rfl (e3 _ _ _ _ _ _) hi_1 (jn := v2.toNatClampNeg) rfl dX6_allClasses_18 ?_
        obtain ⟨o2, e_o2, hf⟩ := lt_out hf
        refine x_nmN e_o2 ?_
        rcases o2 with _ | k3
        · have hf := nl_n hf
          exact absurd hf (by intro h; cases h)
        · have hf := nl_s hf
          obtain ⟨hk4, hf⟩ := ck_out hf
          have hk4 := of_decide_eq_true hk4
          refine x_getN hx hb hts hi2 hown hK hW (c20 hk4) (e20 _ _ _ _ _ _) rfl 3 (Nat.le_of_ble_eq_true rfl) (NW.f hF.2.1 8 (q := ("MovesUp", 122, "MovesUp$Pupil", "itsClass", "I", "MovesUp")) rfl) (fun _ h => h) (v := .int (gI S 20 k3 3)) rfl dX6_allClasses_19 ?_
          refine lv_iadd hx hb dX6_allClasses_22 ?_
          obtain ⟨x5, e_x5, hf⟩ := lt_out hf
          refine x_nmI e_x5 ?_
          refine lv_istore_n (lv' := [(1, .int x5), (0, .ref (B 2 0)), (2, .int v2)]) hx hb dX6_allClasses_23 rfl hl (by decide) rfl (fun ls hl => ?_)
          obtain ⟨x6, e_x6, hf⟩ := lt_out hf
          refine lv_iinc (v := x6) (lv' := [(2, .int x6), (1, .int x5), (0, .ref (B 2 0))]) hx hb dX6_allClasses_24 hl (k := 2) rfl (by rw [e_x6]; rfl) (by decide) rfl (fun ls hl => ?_)
          refine lv_goto (tgt := 4) hx hb dX6_allClasses_27 (by decide) ?_
          exact ih4 () x5 x6  hf _ _ _ hW hS (lv_sub hl [2, 1, 0] rfl)
  unfold f_X6_allClasses at hf
  refine lv_iconst (v := 0) hx hb dX6_allClasses_0 rfl ?_
  refine lv_istore_n (lv' := [(1, .int (0 : Int32)), (0, .ref (B 2 0))]) hx hb dX6_allClasses_1 rfl hl (by decide) rfl (fun ls hl => ?_)
  refine lv_iconst (v := 0) hx hb dX6_allClasses_2 rfl ?_
  refine lv_istore_n (lv' := [(2, .int (0 : Int32)), (1, .int (0 : Int32)), (0, .ref (B 2 0))]) hx hb dX6_allClasses_3 rfl hl (by decide) rfl (fun ls hl => ?_)
  exact w4 E.1 () (0 : Int32) (0 : Int32)  hf _ _ _ hW hS (lv_sub hl [2, 1, 0] rfl)
set_option maxHeartbeats 4000000 in
set_option maxRecDepth 100000 in
theorem m_X6_allWeights (l : Launch) (G : GE) (B : Nat → Nat → Nat) (E : EN)  (S : ST)  (rr : Int32) (hf : f_X6_allWeights E S = some rr) : Met l yX6_allWeights wsX6_allWeights (rmN 2) (va_Pc [.ref (B 2 0)] (WS G B E S)) (QI G B E S rr) 0 0 (AA G) := by
  refine Met.ofW (cc := cX6_allWeights) (maxL := 3) (ret := (some .int)) (by decide) rfl ?_
  intro p e s m args below meth c s₁ B0 hml hv
  obtain ⟨rfl, hW, hF⟩ := hv
  have hx := B0.exec
  have hb := B0.bytes
  have hr := B0.returns
  have hts := atoms_spec (ws := wsX6_allWeights) B0.pre
  have hown : s.vm.findClass RX6 = some m.cls := findClass_of_methodNamed B0.named
  have hlocks := B0.notSynchronized
  have hK := hF.1
  have hfix : CallFix p m c cX6_allWeights 3 s [.ref (B 2 0)].toArray wsX6_allWeights RX6 := ⟨hx, hb, hml, hown, hts⟩
  have hS : va_S (AA G) s.heap s.heap [] := va_S.rf
  have hl := lv_entry [.ref (B 2 0)] (n := 3) (Nat.le_of_ble_eq_true rfl)
  rw [lg_entry_eq]
  generalize (lg_sl [.ref (B 2 0)] ++ List.replicate (3 - (lg_sl [.ref (B 2 0)]).length) Slot.unset).toArray = ls at hl ⊢
  have hl : lv_has ls 3 [(0, .ref (B 2 0))] := hl
  have q0 := hts (.fieldLink RX6 15 "MovesUp" "rollSize" "I") (List.mem_of_getElem? (i := 1) rfl)
  have q1 := hts (.fieldLink RX6 11 "MovesUp" "roll" "[LMovesUp$Pupil;") (List.mem_of_getElem? (i := 2) rfl)
  have q2 := hts (.initialized RX2) (List.mem_of_getElem? (i := 4) rfl)
  have q3 := hts (.instanceMethod yX2_together) (List.mem_of_getElem? (i := 3) rfl)
  have q4 := hts (.selects RX2 yX2_together yX2_together) (List.mem_of_getElem? (i := 5) rfl)
  have hi6 : ∀ w ∈ u_ws RX6 TX6 15, w ∈ wsX6_allWeights := in_seg 8 rfl
  have w4 : ∀ (n4 : Nat) (_ : Unit) (v1 : Int32) (v2 : Int32) , f_X6_allWeights_b4 E n4 S v1 v2 = some rr → ∀ (H : Heap) (locs : List Loc) (ls : Array Slot), WH G B E S H → va_S (AA G) s.heap H locs → lv_has ls 3 [(0, .ref (B 2 0)), (1, .int v1), (2, .int v2)] → W p l e (headSpec wsX6_allWeights (rmN 2)).room s m [.ref (B 2 0)].toArray below meth c H locs 0 0 (MQ below (QI G B E S rr) [.ref (B 2 0)].toArray s 0 0 (AA G)) (F0 m 4 ls []) := by
    intro n4
    induction n4 with
    | zero =>
      intro _ v1 v2 hf
      exact absurd (show (none : Option Int32) = some rr from hf) (fun h => by cases h)
    | succ n4 ih4 =>
      intro _ v1 v2 hf H locs ls hW hS hl
      have hf : g_X6_allWeights_b4 E (f_X6_allWeights_b4 E n4) S v1 v2 = some rr := hf
      unfold g_X6_allWeights_b4 at hf
      refine lv_iload_n hx hb dX6_allWeights_4 rfl (lv_at hl 2 rfl) ?_
      refine lv_aload_n hx hb dX6_allWeights_5 rfl (lv_at hl 0 rfl) ?_
      refine x_get hx hb hts hi6 hown hK hW (c2 E) (e2 _ _ _ _ _ _) rfl 1 (Nat.le_of_ble_eq_true rfl) q0 (fun _ h => h) (v := .int (gI S 2 0 1)) rfl dX6_allWeights_6 ?_
      refine lv_icmp_ge (tgt := 30) hx hb dX6_allWeights_9 (by decide) (fun h => ?_) (fun h => ?_)
      · have hf := if_t h hf
        refine lv_iload_n hx hb dX6_allWeights_30 rfl (lv_at hl 1 rfl) ?_
        exact zr_i hf hx hb hr rfl hF hW hS dX6_allWeights_31 hlocks
      · have hf := if_f h hf
        refine lv_iload_n hx hb dX6_allWeights_12 rfl (lv_at hl 1 rfl) ?_
        refine lv_aload_n hx hb dX6_allWeights_13 rfl (lv_at hl 0 rfl) ?_
        refine x_get hx hb hts hi6 hown hK hW (c2 E) (e2 _ _ _ _ _ _) rfl 0 (Nat.le_of_ble_eq_true rfl) q1 (fun _ h => h) (v := .ref (B 3 0)) rfl dX6_allWeights_14 ?_
        refine lv_iload_n hx hb dX6_allWeights_17 rfl (lv_at hl 2 rfl) ?_
        obtain ⟨hi_1, hf⟩ := ck_out hf
        have hi_1 := ib_in hi_1
        refine x_aaldN hx hb hK hW (c3 E) (t := 4) rfl rfl (e3 _ _ _ _ _ _) hi_1 (jn := v2.toNatClampNeg) rfl dX6_allWeights_18 ?_
        obtain ⟨o2, e_o2, hf⟩ := lt_out hf
        refine x_nmN e_o2 ?_
        rcases o2 with _ | k3
        · have hf := nl_n hf
          exact absurd hf (by intro h; cases h)
        · have hf := nl_s hf
          obtain ⟨hk4, hf⟩ := ck_out hf
          have hk4 := of_decide_eq_true hk4
          obtain ⟨r5, hc, hf⟩ := bd_out hf
          refine y_i (va_runVN (As := []) (rest := [.int v1]) hfix (m_X2_together l G B E k3 (c20 hk4) S  r5 hc) ⟨va_cnB 0 hts gX6_allWeights_X2_together_n112 rfl rfl rfl (NW.m hF.2.1 8 (q := ("MovesUp", 112, "MovesUp$Pupil", "together", "()I", "MovesUp")) rfl) q2 hd_X2_together ⟨Nat.le_of_ble_eq_true rfl, Nat.le_of_ble_eq_true rfl⟩, q3, q4⟩ (y_pv hF hW hS (c20 hk4) (e20 _ _ _ _ _ _) rfl) rfl rfl hl.1 rfl (lv_room (Nat.le_of_ble_eq_true rfl)) dX6_allWeights_19 ⟨Nat.le_of_ble_eq_true rfl, Nat.le_of_ble_eq_true rfl⟩) hS (fun H locs hW hS => ?_)
          refine lv_iadd hx hb dX6_allWeights_22 ?_
          obtain ⟨x6, e_x6, hf⟩ := lt_out hf
          refine x_nmI e_x6 ?_
          refine lv_istore_n (lv' := [(1, .int x6), (0, .ref (B 2 0)), (2, .int v2)]) hx hb dX6_allWeights_23 rfl hl (by decide) rfl (fun ls hl => ?_)
          obtain ⟨x7, e_x7, hf⟩ := lt_out hf
          refine lv_iinc (v := x7) (lv' := [(2, .int x7), (1, .int x6), (0, .ref (B 2 0))]) hx hb dX6_allWeights_24 hl (k := 2) rfl (by rw [e_x7]; rfl) (by decide) rfl (fun ls hl => ?_)
          refine lv_goto (tgt := 4) hx hb dX6_allWeights_27 (by decide) ?_
          exact ih4 () x6 x7  hf _ _ _ hW hS (lv_sub hl [2, 1, 0] rfl)
  unfold f_X6_allWeights at hf
  refine lv_iconst (v := 0) hx hb dX6_allWeights_0 rfl ?_
  refine lv_istore_n (lv' := [(1, .int (0 : Int32)), (0, .ref (B 2 0))]) hx hb dX6_allWeights_1 rfl hl (by decide) rfl (fun ls hl => ?_)
  refine lv_iconst (v := 0) hx hb dX6_allWeights_2 rfl ?_
  refine lv_istore_n (lv' := [(2, .int (0 : Int32)), (1, .int (0 : Int32)), (0, .ref (B 2 0))]) hx hb dX6_allWeights_3 rfl hl (by decide) rfl (fun ls hl => ?_)
  exact w4 E.1 () (0 : Int32) (0 : Int32)  hf _ _ _ hW hS (lv_sub hl [2, 1, 0] rfl)
set_option maxHeartbeats 4000000 in
set_option maxRecDepth 100000 in
theorem m_X6_count (l : Launch) (G : GE) (B : Nat → Nat → Nat) (E : EN)  (S : ST) (a1 : Int32) (rr : Int32) (hf : f_X6_count E S a1 = some rr) : Met l yX6_count wsX6_count (rmN 3) (va_Pc [.ref (B 2 0), .int a1] (WS G B E S)) (QI G B E S rr) 0 0 (AA G) := by
  refine Met.ofW (cc := cX6_count) (maxL := 2) (ret := (some .int)) (by decide) rfl ?_
  intro p e s m args below meth c s₁ B0 hml hv
  obtain ⟨rfl, hW, hF⟩ := hv
  have hx := B0.exec
  have hb := B0.bytes
  have hr := B0.returns
  have hts := atoms_spec (ws := wsX6_count) B0.pre
  have hown : s.vm.findClass RX6 = some m.cls := findClass_of_methodNamed B0.named
  have hlocks := B0.notSynchronized
  have hK := hF.1
  have hfix : CallFix p m c cX6_count 2 s [.ref (B 2 0), .int a1].toArray wsX6_count RX6 := ⟨hx, hb, hml, hown, hts⟩
  have hS : va_S (AA G) s.heap s.heap [] := va_S.rf
  have hl := lv_entry [.ref (B 2 0), .int a1] (n := 2) (Nat.le_of_ble_eq_true rfl)
  rw [lg_entry_eq]
  generalize (lg_sl [.ref (B 2 0), .int a1] ++ List.replicate (2 - (lg_sl [.ref (B 2 0), .int a1]).length) Slot.unset).toArray = ls at hl ⊢
  have hl : lv_has ls 2 [(0, .ref (B 2 0)), (1, .int a1)] := hl
  have q0 := hts (.fieldLink RX6 15 "MovesUp" "rollSize" "I") (List.mem_of_getElem? (i := 1) rfl)
  have q1 := hts (.fieldLink RX6 25 "MovesUp" "rulesSize" "I") (List.mem_of_getElem? (i := 2) rfl)
  have q2 := hts (.fieldLink RX6 35 "MovesUp" "tapeSize" "I") (List.mem_of_getElem? (i := 3) rfl)
  have q3 := hts (.fieldLink RX6 28 "MovesUp" "ruling" "I") (List.mem_of_getElem? (i := 4) rfl)
  have hi6 : ∀ w ∈ u_ws RX6 TX6 15, w ∈ wsX6_count := in_seg 20 rfl
  unfold f_X6_count at hf
  refine lv_iload_n hx hb dX6_count_0 rfl (lv_at hl 1 rfl) ?_
  by_cases hn0 : a1 = (0 : Int32)
  · have hf := if_t hn0 hf
    refine lv_tableIn hx hb dX6_count_1 (by rw [hn0]; decide) (by rw [hn0]; decide) (off := 39) (by rw [hn0]; rfl) (tgt := 40) (by decide) ?_
    refine lv_aload_n hx hb dX6_count_40 rfl (lv_at hl 0 rfl) ?_
    refine x_get hx hb hts hi6 hown hK hW (c2 E) (e2 _ _ _ _ _ _) rfl 1 (Nat.le_of_ble_eq_true rfl) q0 (fun _ h => h) (v := .int (gI S 2 0 1)) rfl dX6_count_41 ?_
    exact zr_i hf hx hb hr rfl hF hW hS dX6_count_44 hlocks
  · have hf := if_f hn0 hf
    by_cases hn1 : a1 = (1 : Int32)
    · have hf := if_t hn1 hf
      refine lv_tableIn hx hb dX6_count_1 (by rw [hn1]; decide) (by rw [hn1]; decide) (off := 44) (by rw [hn1]; rfl) (tgt := 45) (by decide) ?_
      refine lv_aload_n hx hb dX6_count_45 rfl (lv_at hl 0 rfl) ?_
      refine x_get hx hb hts hi6 hown hK hW (c2 E) (e2 _ _ _ _ _ _) rfl 3 (Nat.le_of_ble_eq_true rfl) q1 (fun _ h => h) (v := .int (gI S 2 0 3)) rfl dX6_count_46 ?_
      exact zr_i hf hx hb hr rfl hF hW hS dX6_count_49 hlocks
    · have hf := if_f hn1 hf
      by_cases hn2 : a1 = (2 : Int32)
      · have hf := if_t hn2 hf
        refine lv_tableIn hx hb dX6_count_1 (by rw [hn2]; decide) (by rw [hn2]; decide) (off := 49) (by rw [hn2]; rfl) (tgt := 50) (by decide) ?_
        refine lv_aload_n hx hb dX6_count_50 rfl (lv_at hl 0 rfl) ?_
        refine x_get hx hb hts hi6 hown hK hW (c2 E) (e2 _ _ _ _ _ _) rfl 6 (Nat.le_of_ble_eq_true rfl) q2 (fun _ h => h) (v := .int (gI S 2 0 6)) rfl dX6_count_51 ?_
        exact zr_i hf hx hb hr rfl hF hW hS dX6_count_54 hlocks
      · have hf := if_f hn2 hf
        by_cases hn3 : a1 = (3 : Int32)
        · have hf := if_t hn3 hf
          refine lv_tableIn hx hb dX6_count_1 (by rw [hn3]; decide) (by rw [hn3]; decide) (off := 54) (by rw [hn3]; rfl) (tgt := 55) (by decide) ?_
          refine lv_aload_n hx hb dX6_count_55 rfl (lv_at hl 0 rfl) ?_
          refine x_get hx hb hts hi6 hown hK hW (c2 E) (e2 _ _ _ _ _ _) rfl 4 (Nat.le_of_ble_eq_true rfl) q3 (fun _ h => h) (v := .int (gI S 2 0 4)) rfl dX6_count_56 ?_
          exact zr_i hf hx hb hr rfl hF hW hS dX6_count_59 hlocks
        · have hf := if_f hn3 hf
          by_cases hn4 : a1 = (4 : Int32)
          · have hf := if_t hn4 hf
            refine lv_tableIn hx hb dX6_count_1 (by rw [hn4]; decide) (by rw [hn4]; decide) (off := 59) (by rw [hn4]; rfl) (tgt := 60) (by decide) ?_
            refine lv_aload_n hx hb dX6_count_60 rfl (lv_at hl 0 rfl) ?_
            obtain ⟨r1, hc, hf⟩ := bd_out hf
            refine y_i (va_runV (As := []) (rest := []) hfix (m_X6_allWeights l G B E S  r1 hc) (cwV 0 hts gX6_count_X6_allWeights rfl rfl rfl ⟨rfl, hd_X6_allWeights⟩ ⟨Nat.le_of_ble_eq_true rfl, Nat.le_of_ble_eq_true rfl⟩) (y_pv hF hW hS (c2 E) (e2 _ _ _ _ _ _) rfl) rfl rfl hl.1 rfl (lv_room (Nat.le_of_ble_eq_true rfl)) dX6_count_61 ⟨Nat.le_of_ble_eq_true rfl, Nat.le_of_ble_eq_true rfl⟩) hS (fun H locs hW hS => ?_)
            exact zr_i hf hx hb hr rfl hF hW hS dX6_count_64 hlocks
          · have hf := if_f hn4 hf
            by_cases hn5 : a1 = (5 : Int32)
            · have hf := if_t hn5 hf
              refine lv_tableIn hx hb dX6_count_1 (by rw [hn5]; decide) (by rw [hn5]; decide) (off := 64) (by rw [hn5]; rfl) (tgt := 65) (by decide) ?_
              refine lv_aload_n hx hb dX6_count_65 rfl (lv_at hl 0 rfl) ?_
              obtain ⟨r2, hc, hf⟩ := bd_out hf
              refine y_i (va_runV (As := []) (rest := []) hfix (m_X6_allClasses l G B E S  r2 hc) (cwV 0 hts gX6_count_X6_allClasses rfl rfl rfl ⟨rfl, hd_X6_allClasses⟩ ⟨Nat.le_of_ble_eq_true rfl, Nat.le_of_ble_eq_true rfl⟩) (y_pv hF hW hS (c2 E) (e2 _ _ _ _ _ _) rfl) rfl rfl hl.1 rfl (lv_room (Nat.le_of_ble_eq_true rfl)) dX6_count_66 ⟨Nat.le_of_ble_eq_true rfl, Nat.le_of_ble_eq_true rfl⟩) hS (fun H locs hW hS => ?_)
              exact zr_i hf hx hb hr rfl hF hW hS dX6_count_69 hlocks
            · have hf := if_f hn5 hf
              refine lv_tableOut hx hb dX6_count_1 (tb_out (by decide) (by decide) (fun k h1 h2 => ?_)) (tgt := 70) (by decide) ?_
              · have hk : k = 0 ∨ k = 1 ∨ k = 2 ∨ k = 3 ∨ k = 4 ∨ k = 5 := by omega
                rcases hk with rfl | rfl | rfl | rfl | rfl | rfl
                · exact fun q => hn0 (q.trans (by decide))
                · exact fun q => hn1 (q.trans (by decide))
                · exact fun q => hn2 (q.trans (by decide))
                · exact fun q => hn3 (q.trans (by decide))
                · exact fun q => hn4 (q.trans (by decide))
                · exact fun q => hn5 (q.trans (by decide))
              · refine lv_bipush (v := -2) hx hb dX6_count_70 (by decide) ?_
                exact zr_i hf hx hb hr rfl hF hW hS dX6_count_72 hlocks
set_option maxHeartbeats 4000000 in
set_option maxRecDepth 100000 in
theorem m_X6_sheet (l : Launch) (G : GE) (B : Nat → Nat → Nat) (E : EN)  (S : ST) (a1 : Int32) (a2 : Int32) (a3 : Int32) (rr : Int32) (SS : ST) (hf : f_X6_sheet E S a1 a2 a3 = some (rr, SS)) : Met l yX6_sheet wsX6_sheet (rmN 3) (va_Pc [.ref (B 2 0), .int a1, .int a2, .int a3] (WS G B E S)) (QI G B E SS rr) 0 0 (AA G) := by
  refine Met.ofW (cc := cX6_sheet) (maxL := 6) (ret := (some .int)) (by decide) rfl ?_
  intro p e s m args below meth c s₁ B0 hml hv
  obtain ⟨rfl, hW, hF⟩ := hv
  have hx := B0.exec
  have hb := B0.bytes
  have hr := B0.returns
  have hts := atoms_spec (ws := wsX6_sheet) B0.pre
  have hown : s.vm.findClass RX6 = some m.cls := findClass_of_methodNamed B0.named
  have hlocks := B0.notSynchronized
  have hK := hF.1
  have hfix : CallFix p m c cX6_sheet 6 s [.ref (B 2 0), .int a1, .int a2, .int a3].toArray wsX6_sheet RX6 := ⟨hx, hb, hml, hown, hts⟩
  have hS : va_S (AA G) s.heap s.heap [] := va_S.rf
  have hl := lv_entry [.ref (B 2 0), .int a1, .int a2, .int a3] (n := 6) (Nat.le_of_ble_eq_true rfl)
  rw [lg_entry_eq]
  generalize (lg_sl [.ref (B 2 0), .int a1, .int a2, .int a3] ++ List.replicate (6 - (lg_sl [.ref (B 2 0), .int a1, .int a2, .int a3]).length) Slot.unset).toArray = ls at hl ⊢
  have hl : lv_has ls 6 [(0, .ref (B 2 0)), (1, .int a1), (2, .int a2), (3, .int a3)] := hl
  have q0 := hts (.initialized RX4) (List.mem_of_getElem? (i := 8) rfl)
  have q1 := hts (.instanceMethod yX4_becomes) (List.mem_of_getElem? (i := 7) rfl)
  have q2 := hts (.selects RX4 yX4_becomes yX4_becomes) (List.mem_of_getElem? (i := 9) rfl)
  have w35 : ∀ (S : ST) (v2 : Int32) (v4 : Nat) (t0 : Int32) (h_v4 : v4 < cnt E 24), f_X6_sheet_b35 E S v2 v4 t0 = some (rr, SS) → ∀ (H : Heap) (locs : List Loc) (ls : Array Slot), WH G B E S H → va_S (AA G) s.heap H locs → lv_has ls 6 [(2, .int v2), (4, .ref (B 24 v4))] → W p l e (headSpec wsX6_sheet (rmN 3)).room s m [.ref (B 2 0), .int a1, .int a2, .int a3].toArray below meth c H locs 0 0 (MQ below (QI G B E SS rr) [.ref (B 2 0), .int a1, .int a2, .int a3].toArray s 0 0 (AA G)) (F0 m 35 ls [.int t0]) := by
    intro S v2 v4 t0 h_v4 hf H locs ls hW hS hl
    unfold f_X6_sheet_b35 at hf
    refine lv_istore (lv' := [(5, .int t0), (2, .int v2), (4, .ref (B 24 v4))]) hx hb dX6_sheet_35 hl (by decide) rfl (fun ls hl => ?_)
    refine lv_iload hx hb dX6_sheet_37 (lv_at hl 0 rfl) ?_
    refine lv_bipush (v := 40) hx hb dX6_sheet_39 (by decide) ?_
    refine lv_icmp_le (tgt := 47) hx hb dX6_sheet_41 (by decide) (fun h => ?_) (fun h => ?_)
    · have hf := if_t h hf
      refine lv_iload hx hb dX6_sheet_47 (lv_at hl 0 rfl) ?_
      refine lv_if_ge (tgt := 55) hx hb dX6_sheet_49 (by decide) (fun h => ?_) (fun h => ?_)
      · have hf := if_t h hf
        refine lv_aload hx hb dX6_sheet_55 (lv_at hl 2 rfl) ?_
        refine lv_iload_n hx hb dX6_sheet_57 rfl (lv_at hl 1 rfl) ?_
        refine lv_iload hx hb dX6_sheet_58 (lv_at hl 0 rfl) ?_
        obtain ⟨S1, hc, hf⟩ := bd_out hf
        refine y_v (va_runVN (As := [.int v2, .int t0]) (rest := []) hfix (m_X4_becomes l G B E v4 (h_v4) S v2 t0 S1 hc) ⟨va_cnB 2 hts gX6_sheet_X4_becomes_n246 rfl rfl rfl (NW.m hF.2.1 31 (q := ("MovesUp", 246, "MovesUp$Row", "becomes", "(II)V", "MovesUp")) rfl) q0 hd_X4_becomes ⟨Nat.le_of_ble_eq_true rfl, Nat.le_of_ble_eq_true rfl⟩, q1, q2⟩ (y_pv hF hW hS (h_v4) (e24 _ _ _ _ _ _) rfl) rfl rfl hl.1 rfl (lv_room (Nat.le_of_ble_eq_true rfl)) dX6_sheet_60 ⟨Nat.le_of_ble_eq_true rfl, Nat.le_of_ble_eq_true rfl⟩) hS (fun H locs hW hS => ?_)
        refine lv_iconst (v := 1) hx hb dX6_sheet_63 rfl ?_
        exact z_i hf hx hb hr rfl hF hW hS dX6_sheet_64 hlocks
      · have hf := if_f h hf
        refine lv_bipush (v := -14) hx hb dX6_sheet_52 (by decide) ?_
        exact z_i hf hx hb hr rfl hF hW hS dX6_sheet_54 hlocks
    · have hf := if_f h hf
      refine lv_bipush (v := -2) hx hb dX6_sheet_44 (by decide) ?_
      exact z_i hf hx hb hr rfl hF hW hS dX6_sheet_46 hlocks
  unfold f_X6_sheet at hf
  refine lv_aload_n hx hb dX6_sheet_0 rfl (lv_at hl 0 rfl) ?_
  refine lv_iload_n hx hb dX6_sheet_1 rfl (lv_at hl 1 rfl) ?_
  obtain ⟨r2, hc, hf⟩ := bd_out hf
  refine y_q (va_runV (As := [.int a1]) (rest := []) hfix (m_X6_laid l G B E S a1 r2 hc) (cwV 1 hts gX6_sheet_X6_laid rfl rfl rfl ⟨rfl, hd_X6_laid⟩ ⟨Nat.le_of_ble_eq_true rfl, Nat.le_of_ble_eq_true rfl⟩) (y_pv hF hW hS (c2 E) (e2 _ _ _ _ _ _) rfl) rfl rfl hl.1 rfl (lv_room (Nat.le_of_ble_eq_true rfl)) dX6_sheet_2 ⟨Nat.le_of_ble_eq_true rfl, Nat.le_of_ble_eq_true rfl⟩) hS (fun H locs hW hS => ?_)
  rcases r2 with _ | k3
  · have hf := nl_n hf
    refine lv_astoreN (lv' := [(4, .null), (0, .ref (B 2 0)), (1, .int a1), (2, .int a2), (3, .int a3)]) hx hb dX6_sheet_5 hl (by decide) rfl (fun ls hl => ?_)
    refine lv_aloadN hx hb dX6_sheet_7 (lv_at hl 0 rfl) ?_
    refine lv_ifnullN (tgt := 22) hx hb dX6_sheet_9 (by decide) ?_
    refine lv_bipush (v := -2) hx hb dX6_sheet_22 (by decide) ?_
    exact z_i hf hx hb hr rfl hF hW hS dX6_sheet_24 hlocks
  · have hf := nl_s hf
    obtain ⟨hk4, hf⟩ := ck_out hf
    have hk4 := of_decide_eq_true hk4
    refine lv_astore (lv' := [(4, .ref (B 24 k3)), (0, .ref (B 2 0)), (1, .int a1), (2, .int a2), (3, .int a3)]) hx hb dX6_sheet_5 hl (by decide) rfl (fun ls hl => ?_)
    refine lv_aload hx hb dX6_sheet_7 (lv_at hl 0 rfl) ?_
    refine lv_ifnull hx hb dX6_sheet_9 ?_
    refine lv_iload_n hx hb dX6_sheet_12 rfl (lv_at hl 3 rfl) ?_
    refine lv_iconst (v := -1) hx hb dX6_sheet_13 rfl ?_
    refine lv_icmp_lt (tgt := 22) hx hb dX6_sheet_14 (by decide) (fun h => ?_) (fun h => ?_)
    · have hf := if_t h hf
      refine lv_bipush (v := -2) hx hb dX6_sheet_22 (by decide) ?_
      exact z_i hf hx hb hr rfl hF hW hS dX6_sheet_24 hlocks
    · have hf := if_f h hf
      refine lv_iload_n hx hb dX6_sheet_17 rfl (lv_at hl 3 rfl) ?_
      refine lv_iconst (v := 2) hx hb dX6_sheet_18 rfl ?_
      refine lv_icmp_le (tgt := 25) hx hb dX6_sheet_19 (by decide) (fun h => ?_) (fun h => ?_)
      · have hf := if_t h hf
        refine lv_iload_n hx hb dX6_sheet_25 rfl (lv_at hl 3 rfl) ?_
        refine lv_iconst (v := -1) hx hb dX6_sheet_26 rfl ?_
        refine lv_icmp_ne (tgt := 34) hx hb dX6_sheet_27 (by decide) (fun h => ?_) (fun h => ?_)
        · have hf := if_f h hf
          refine lv_iload_n hx hb dX6_sheet_34 rfl (lv_at hl 4 rfl) ?_
          exact w35 S a2 k3 a3 (c24 E hk4) hf _ _ _ hW hS (lv_sub hl [3, 0] rfl)
        · have hf := if_t h hf
          refine lv_iconst (v := 0) hx hb dX6_sheet_30 rfl ?_
          refine lv_goto (tgt := 35) hx hb dX6_sheet_31 (by decide) ?_
          exact w35 S a2 k3 (0 : Int32) (c24 E hk4) hf _ _ _ hW hS (lv_sub hl [3, 0] rfl)
      · have hf := if_f h hf
        refine lv_bipush (v := -2) hx hb dX6_sheet_22 (by decide) ?_
        exact z_i hf hx hb hr rfl hF hW hS dX6_sheet_24 hlocks
set_option maxHeartbeats 4000000 in
set_option maxRecDepth 100000 in
theorem m_X6_cell (l : Launch) (G : GE) (B : Nat → Nat → Nat) (E : EN)  (S : ST) (a1 : Int32) (a2 : Int32) (a3 : Int32) (rr : Int32) (SS : ST) (hf : f_X6_cell E S a1 a2 a3 = some (rr, SS)) : Met l yX6_cell wsX6_cell (rmN 2) (va_Pc [.ref (B 2 0), .int a1, .int a2, .int a3] (WS G B E S)) (QI G B E SS rr) 0 0 (AA G) := by
  refine Met.ofW (cc := cX6_cell) (maxL := 5) (ret := (some .int)) (by decide) rfl ?_
  intro p e s m args below meth c s₁ B0 hml hv
  obtain ⟨rfl, hW, hF⟩ := hv
  have hx := B0.exec
  have hb := B0.bytes
  have hr := B0.returns
  have hts := atoms_spec (ws := wsX6_cell) B0.pre
  have hown : s.vm.findClass RX6 = some m.cls := findClass_of_methodNamed B0.named
  have hlocks := B0.notSynchronized
  have hK := hF.1
  have hfix : CallFix p m c cX6_cell 5 s [.ref (B 2 0), .int a1, .int a2, .int a3].toArray wsX6_cell RX6 := ⟨hx, hb, hml, hown, hts⟩
  have hS : va_S (AA G) s.heap s.heap [] := va_S.rf
  have hl := lv_entry [.ref (B 2 0), .int a1, .int a2, .int a3] (n := 5) (Nat.le_of_ble_eq_true rfl)
  rw [lg_entry_eq]
  generalize (lg_sl [.ref (B 2 0), .int a1, .int a2, .int a3] ++ List.replicate (5 - (lg_sl [.ref (B 2 0), .int a1, .int a2, .int a3]).length) Slot.unset).toArray = ls at hl ⊢
  have hl : lv_has ls 5 [(0, .ref (B 2 0)), (1, .int a1), (2, .int a2), (3, .int a3)] := hl
  have q0 := hts (.initialized RX4) (List.mem_of_getElem? (i := 8) rfl)
  have q1 := hts (.instanceMethod yX4_cutDown) (List.mem_of_getElem? (i := 7) rfl)
  have q2 := hts (.selects RX4 yX4_cutDown yX4_cutDown) (List.mem_of_getElem? (i := 9) rfl)
  have hi4 : ∀ w ∈ u_ws RX4 TX4 3, w ∈ wsX6_cell := in_seg 12 rfl
  unfold f_X6_cell at hf
  refine lv_aload_n hx hb dX6_cell_0 rfl (lv_at hl 0 rfl) ?_
  refine lv_iload_n hx hb dX6_cell_1 rfl (lv_at hl 1 rfl) ?_
  obtain ⟨r1, hc, hf⟩ := bd_out hf
  refine y_q (va_runV (As := [.int a1]) (rest := []) hfix (m_X6_laid l G B E S a1 r1 hc) (cwV 1 hts gX6_cell_X6_laid rfl rfl rfl ⟨rfl, hd_X6_laid⟩ ⟨Nat.le_of_ble_eq_true rfl, Nat.le_of_ble_eq_true rfl⟩) (y_pv hF hW hS (c2 E) (e2 _ _ _ _ _ _) rfl) rfl rfl hl.1 rfl (lv_room (Nat.le_of_ble_eq_true rfl)) dX6_cell_2 ⟨Nat.le_of_ble_eq_true rfl, Nat.le_of_ble_eq_true rfl⟩) hS (fun H locs hW hS => ?_)
  rcases r1 with _ | k2
  · have hf := nl_n hf
    refine lv_astoreN (lv' := [(4, .null), (0, .ref (B 2 0)), (1, .int a1), (2, .int a2), (3, .int a3)]) hx hb dX6_cell_5 hl (by decide) rfl (fun ls hl => ?_)
    refine lv_aloadN hx hb dX6_cell_7 (lv_at hl 0 rfl) ?_
    refine lv_ifnonnullN hx hb dX6_cell_9 ?_
    refine lv_bipush (v := -2) hx hb dX6_cell_12 (by decide) ?_
    exact z_i hf hx hb hr rfl hF hW hS dX6_cell_14 hlocks
  · have hf := nl_s hf
    obtain ⟨hk3, hf⟩ := ck_out hf
    have hk3 := of_decide_eq_true hk3
    refine lv_astore (lv' := [(4, .ref (B 24 k2)), (0, .ref (B 2 0)), (1, .int a1), (2, .int a2), (3, .int a3)]) hx hb dX6_cell_5 hl (by decide) rfl (fun ls hl => ?_)
    refine lv_aload hx hb dX6_cell_7 (lv_at hl 0 rfl) ?_
    refine lv_ifnonnull (tgt := 15) hx hb dX6_cell_9 (by decide) ?_
    refine lv_aload hx hb dX6_cell_15 (lv_at hl 0 rfl) ?_
    refine x_getN hx hb hts hi4 hown hK hW (c24 E hk3) (e24 _ _ _ _ _ _) rfl 0 (Nat.le_of_ble_eq_true rfl) (NW.f hF.2.1 0 (q := ("MovesUp", 205, "MovesUp$Row", "sort", "I", "MovesUp")) rfl) (fun _ h => h) (v := .int (gI S 24 k2 0)) rfl dX6_cell_17 ?_
    refine lv_iconst (v := -1) hx hb dX6_cell_20 rfl ?_
    refine lv_icmp_ne (tgt := 27) hx hb dX6_cell_21 (by decide) (fun h => ?_) (fun h => ?_)
    · have hf := if_f h hf
      refine lv_iload_n hx hb dX6_cell_27 rfl (lv_at hl 3 rfl) ?_
      refine lv_if_lt (tgt := 40) hx hb dX6_cell_28 (by decide) (fun h => ?_) (fun h => ?_)
      · have hf := if_t h hf
        refine lv_bipush (v := -12) hx hb dX6_cell_40 (by decide) ?_
        exact z_i hf hx hb hr rfl hF hW hS dX6_cell_42 hlocks
      · have hf := if_f h hf
        refine lv_iload_n hx hb dX6_cell_31 rfl (lv_at hl 3 rfl) ?_
        refine lv_aload hx hb dX6_cell_32 (lv_at hl 0 rfl) ?_
        refine x_getN hx hb hts hi4 hown hK hW (c24 E hk3) (e24 _ _ _ _ _ _) rfl 1 (Nat.le_of_ble_eq_true rfl) (NW.f hF.2.1 1 (q := ("MovesUp", 206, "MovesUp$Row", "size", "I", "MovesUp")) rfl) (fun _ h => h) (v := .int (gI S 24 k2 1)) rfl dX6_cell_34 ?_
        refine lv_icmp_lt (tgt := 43) hx hb dX6_cell_37 (by decide) (fun h => ?_) (fun h => ?_)
        · have hf := if_t h hf
          refine lv_aload hx hb dX6_cell_43 (lv_at hl 0 rfl) ?_
          refine x_getN hx hb hts hi4 hown hK hW (c24 E hk3) (e24 _ _ _ _ _ _) rfl 2 (Nat.le_of_ble_eq_true rfl) (NW.f hF.2.1 2 (q := ("MovesUp", 209, "MovesUp$Row", "items", "[I", "MovesUp")) rfl) (fun _ h => h) (v := .ref (B 25 k2)) rfl dX6_cell_45 ?_
          refine lv_iload_n hx hb dX6_cell_48 rfl (lv_at hl 3 rfl) ?_
          refine lv_aload hx hb dX6_cell_49 (lv_at hl 0 rfl) ?_
          refine lv_iload_n hx hb dX6_cell_51 rfl (lv_at hl 4 rfl) ?_
          obtain ⟨r4, hc, hf⟩ := bd_out hf
          refine y_i (va_runVN (As := [.int a3]) (rest := [.int a2, .ref (B 25 k2)]) hfix (m_X4_cutDown l G B E k2 (c24 E hk3) S a3 r4 hc) ⟨va_cnB 1 hts gX6_cell_X4_cutDown_n250 rfl rfl rfl (NW.m hF.2.1 32 (q := ("MovesUp", 250, "MovesUp$Row", "cutDown", "(I)I", "MovesUp")) rfl) q0 hd_X4_cutDown ⟨Nat.le_of_ble_eq_true rfl, Nat.le_of_ble_eq_true rfl⟩, q1, q2⟩ (y_pv hF hW hS (c24 E hk3) (e24 _ _ _ _ _ _) rfl) rfl rfl hl.1 rfl (lv_room (Nat.le_of_ble_eq_true rfl)) dX6_cell_52 ⟨Nat.le_of_ble_eq_true rfl, Nat.le_of_ble_eq_true rfl⟩) hS (fun H locs hW hS => ?_)
          obtain ⟨hi_5, hf⟩ := ck_out hf
          have hi_5 := ib_in hi_5
          obtain ⟨S6, e_S6, hf⟩ := lt_out hf
          refine x_iast hx hb hK hW hS (cv24_25 (c24 E hk3)) (fun f r => e25 _ _ _ f _ r) hi_5 (jn := a2.toNatClampNeg) rfl e_S6 dX6_cell_55 (fun H locs hW hS => ?_)
          refine lv_iconst (v := 1) hx hb dX6_cell_56 rfl ?_
          exact z_i hf hx hb hr rfl hF hW hS dX6_cell_57 hlocks
        · have hf := if_f h hf
          refine lv_bipush (v := -12) hx hb dX6_cell_40 (by decide) ?_
          exact z_i hf hx hb hr rfl hF hW hS dX6_cell_42 hlocks
    · have hf := if_t h hf
      refine lv_bipush (v := -11) hx hb dX6_cell_24 (by decide) ?_
      exact z_i hf hx hb hr rfl hF hW hS dX6_cell_26 hlocks
set_option maxHeartbeats 4000000 in
set_option maxRecDepth 100000 in
theorem m_X6_copy (l : Launch) (G : GE) (B : Nat → Nat → Nat) (E : EN)  (S : ST) (a1 : Int32) (a2 : Int32) (a3 : Int32) (a4 : Int32) (a5 : Int32) (rr : Int32) (SS : ST) (hf : f_X6_copy E S a1 a2 a3 a4 a5 = some (rr, SS)) : Met l yX6_copy wsX6_copy (rmN 2) (va_Pc [.ref (B 2 0), .int a1, .int a2, .int a3, .int a4, .int a5] (WS G B E S)) (QI G B E SS rr) 0 0 (AA G) := by
  refine Met.ofW (cc := cX6_copy) (maxL := 8) (ret := (some .int)) (by decide) rfl ?_
  intro p e s m args below meth c s₁ B0 hml hv
  obtain ⟨rfl, hW, hF⟩ := hv
  have hx := B0.exec
  have hb := B0.bytes
  have hr := B0.returns
  have hts := atoms_spec (ws := wsX6_copy) B0.pre
  have hown : s.vm.findClass RX6 = some m.cls := findClass_of_methodNamed B0.named
  have hlocks := B0.notSynchronized
  have hK := hF.1
  have hfix : CallFix p m c cX6_copy 8 s [.ref (B 2 0), .int a1, .int a2, .int a3, .int a4, .int a5].toArray wsX6_copy RX6 := ⟨hx, hb, hml, hown, hts⟩
  have hS : va_S (AA G) s.heap s.heap [] := va_S.rf
  have hl := lv_entry [.ref (B 2 0), .int a1, .int a2, .int a3, .int a4, .int a5] (n := 8) (Nat.le_of_ble_eq_true rfl)
  rw [lg_entry_eq]
  generalize (lg_sl [.ref (B 2 0), .int a1, .int a2, .int a3, .int a4, .int a5] ++ List.replicate (8 - (lg_sl [.ref (B 2 0), .int a1, .int a2, .int a3, .int a4, .int a5]).length) Slot.unset).toArray = ls at hl ⊢
  have hl : lv_has ls 8 [(0, .ref (B 2 0)), (1, .int a1), (2, .int a2), (3, .int a3), (4, .int a4), (5, .int a5)] := hl
  have q0 := hts (.methodLink RX6 253 arraycopyName) (List.mem_of_getElem? (i := 1) rfl)
  have q1 := hts (.native arraycopyName) (List.mem_of_getElem? (i := 2) rfl)
  have q2 := hts (.static arraycopyName) (List.mem_of_getElem? (i := 3) rfl)
  have q3 := hts (.initialized "java/lang/System") (List.mem_of_getElem? (i := 4) rfl)
  have hi4 : ∀ w ∈ u_ws RX4 TX4 3, w ∈ wsX6_copy := in_seg 11 rfl
  unfold f_X6_copy at hf
  refine lv_aload_n hx hb dX6_copy_0 rfl (lv_at hl 0 rfl) ?_
  refine lv_iload_n hx hb dX6_copy_1 rfl (lv_at hl 1 rfl) ?_
  obtain ⟨r1, hc, hf⟩ := bd_out hf
  refine y_q (va_runV (As := [.int a1]) (rest := []) hfix (m_X6_laid l G B E S a1 r1 hc) (cwV 1 hts gX6_copy_X6_laid rfl rfl rfl ⟨rfl, hd_X6_laid⟩ ⟨Nat.le_of_ble_eq_true rfl, Nat.le_of_ble_eq_true rfl⟩) (y_pv hF hW hS (c2 E) (e2 _ _ _ _ _ _) rfl) rfl rfl hl.1 rfl (lv_room (Nat.le_of_ble_eq_true rfl)) dX6_copy_2 ⟨Nat.le_of_ble_eq_true rfl, Nat.le_of_ble_eq_true rfl⟩) hS (fun H locs hW hS => ?_)
  rcases r1 with _ | k2
  · have hf := nl_n hf
    refine lv_astoreN (lv' := [(6, .null), (0, .ref (B 2 0)), (1, .int a1), (2, .int a2), (3, .int a3), (4, .int a4), (5, .int a5)]) hx hb dX6_copy_5 hl (by decide) rfl (fun ls hl => ?_)
    refine lv_aload_n hx hb dX6_copy_7 rfl (lv_at hl 1 rfl) ?_
    refine lv_iload_n hx hb dX6_copy_8 rfl (lv_at hl 4 rfl) ?_
    obtain ⟨r4, hc, hf⟩ := bd_out hf
    refine y_q (va_runV (As := [.int a3]) (rest := []) hfix (m_X6_laid l G B E S a3 r4 hc) (cwV 1 hts gX6_copy_X6_laid rfl rfl rfl ⟨rfl, hd_X6_laid⟩ ⟨Nat.le_of_ble_eq_true rfl, Nat.le_of_ble_eq_true rfl⟩) (y_pv hF hW hS (c2 E) (e2 _ _ _ _ _ _) rfl) rfl rfl hl.1 rfl (lv_room (Nat.le_of_ble_eq_true rfl)) dX6_copy_9 ⟨Nat.le_of_ble_eq_true rfl, Nat.le_of_ble_eq_true rfl⟩) hS (fun H locs hW hS => ?_)
    rcases r4 with _ | k5
    · have hf := nl_n hf
      refine lv_astoreN (lv' := [(7, .null), (6, .null), (0, .ref (B 2 0)), (1, .int a1), (2, .int a2), (3, .int a3), (4, .int a4), (5, .int a5)]) hx hb dX6_copy_12 hl (by decide) rfl (fun ls hl => ?_)
      refine lv_aloadN hx hb dX6_copy_14 (lv_at hl 1 rfl) ?_
      refine lv_ifnullN (tgt := 24) hx hb dX6_copy_16 (by decide) ?_
      refine lv_bipush (v := -2) hx hb dX6_copy_24 (by decide) ?_
      exact z_i hf hx hb hr rfl hF hW hS dX6_copy_26 hlocks
    · have hf := nl_s hf
      obtain ⟨hk6, hf⟩ := ck_out hf
      have hk6 := of_decide_eq_true hk6
      refine lv_astore (lv' := [(7, .ref (B 24 k5)), (6, .null), (0, .ref (B 2 0)), (1, .int a1), (2, .int a2), (3, .int a3), (4, .int a4), (5, .int a5)]) hx hb dX6_copy_12 hl (by decide) rfl (fun ls hl => ?_)
      refine lv_aloadN hx hb dX6_copy_14 (lv_at hl 1 rfl) ?_
      refine lv_ifnullN (tgt := 24) hx hb dX6_copy_16 (by decide) ?_
      refine lv_bipush (v := -2) hx hb dX6_copy_24 (by decide) ?_
      exact z_i hf hx hb hr rfl hF hW hS dX6_copy_26 hlocks
  · have hf := nl_s hf
    obtain ⟨hk3, hf⟩ := ck_out hf
    have hk3 := of_decide_eq_true hk3
    refine lv_astore (lv' := [(6, .ref (B 24 k2)), (0, .ref (B 2 0)), (1, .int a1), (2, .int a2), (3, .int a3), (4, .int a4), (5, .int a5)]) hx hb dX6_copy_5 hl (by decide) rfl (fun ls hl => ?_)
    refine lv_aload_n hx hb dX6_copy_7 rfl (lv_at hl 1 rfl) ?_
    refine lv_iload_n hx hb dX6_copy_8 rfl (lv_at hl 4 rfl) ?_
    obtain ⟨r7, hc, hf⟩ := bd_out hf
    refine y_q (va_runV (As := [.int a3]) (rest := []) hfix (m_X6_laid l G B E S a3 r7 hc) (cwV 1 hts gX6_copy_X6_laid rfl rfl rfl ⟨rfl, hd_X6_laid⟩ ⟨Nat.le_of_ble_eq_true rfl, Nat.le_of_ble_eq_true rfl⟩) (y_pv hF hW hS (c2 E) (e2 _ _ _ _ _ _) rfl) rfl rfl hl.1 rfl (lv_room (Nat.le_of_ble_eq_true rfl)) dX6_copy_9 ⟨Nat.le_of_ble_eq_true rfl, Nat.le_of_ble_eq_true rfl⟩) hS (fun H locs hW hS => ?_)
    rcases r7 with _ | k8
    · have hf := nl_n hf
      refine lv_astoreN (lv' := [(7, .null), (6, .ref (B 24 k2)), (0, .ref (B 2 0)), (1, .int a1), (2, .int a2), (3, .int a3), (4, .int a4), (5, .int a5)]) hx hb dX6_copy_12 hl (by decide) rfl (fun ls hl => ?_)
      refine lv_aload hx hb dX6_copy_14 (lv_at hl 1 rfl) ?_
      refine lv_ifnull hx hb dX6_copy_16 ?_
      refine lv_aloadN hx hb dX6_copy_19 (lv_at hl 0 rfl) ?_
      refine lv_ifnonnullN hx hb dX6_copy_21 ?_
      refine lv_bipush (v := -2) hx hb dX6_copy_24 (by decide) ?_
      exact z_i hf hx hb hr rfl hF hW hS dX6_copy_26 hlocks
    · have hf := nl_s hf
      obtain ⟨hk9, hf⟩ := ck_out hf
      have hk9 := of_decide_eq_true hk9
      refine lv_astore (lv' := [(7, .ref (B 24 k8)), (6, .ref (B 24 k2)), (0, .ref (B 2 0)), (1, .int a1), (2, .int a2), (3, .int a3), (4, .int a4), (5, .int a5)]) hx hb dX6_copy_12 hl (by decide) rfl (fun ls hl => ?_)
      refine lv_aload hx hb dX6_copy_14 (lv_at hl 1 rfl) ?_
      refine lv_ifnull hx hb dX6_copy_16 ?_
      refine lv_aload hx hb dX6_copy_19 (lv_at hl 0 rfl) ?_
      refine lv_ifnonnull (tgt := 27) hx hb dX6_copy_21 (by decide) ?_
      refine lv_aload hx hb dX6_copy_27 (lv_at hl 1 rfl) ?_
      refine x_getN hx hb hts hi4 hown hK hW (c24 E hk3) (e24 _ _ _ _ _ _) rfl 0 (Nat.le_of_ble_eq_true rfl) (NW.f hF.2.1 0 (q := ("MovesUp", 205, "MovesUp$Row", "sort", "I", "MovesUp")) rfl) (fun _ h => h) (v := .int (gI S 24 k2 0)) rfl dX6_copy_29 ?_
      refine lv_iconst (v := -1) hx hb dX6_copy_32 rfl ?_
      refine lv_icmp_eq (tgt := 45) hx hb dX6_copy_33 (by decide) (fun h => ?_) (fun h => ?_)
      · have hf := if_t h hf
        refine lv_bipush (v := -11) hx hb dX6_copy_45 (by decide) ?_
        exact z_i hf hx hb hr rfl hF hW hS dX6_copy_47 hlocks
      · have hf := if_f h hf
        refine lv_aload hx hb dX6_copy_36 (lv_at hl 0 rfl) ?_
        refine x_getN hx hb hts hi4 hown hK hW (c24 E hk9) (e24 _ _ _ _ _ _) rfl 0 (Nat.le_of_ble_eq_true rfl) (NW.f hF.2.1 0 (q := ("MovesUp", 205, "MovesUp$Row", "sort", "I", "MovesUp")) rfl) (fun _ h => h) (v := .int (gI S 24 k8 0)) rfl dX6_copy_38 ?_
        refine lv_iconst (v := -1) hx hb dX6_copy_41 rfl ?_
        refine lv_icmp_ne (tgt := 48) hx hb dX6_copy_42 (by decide) (fun h => ?_) (fun h => ?_)
        · have hf := if_f h hf
          refine lv_aload hx hb dX6_copy_48 (lv_at hl 1 rfl) ?_
          refine x_getN hx hb hts hi4 hown hK hW (c24 E hk3) (e24 _ _ _ _ _ _) rfl 0 (Nat.le_of_ble_eq_true rfl) (NW.f hF.2.1 0 (q := ("MovesUp", 205, "MovesUp$Row", "sort", "I", "MovesUp")) rfl) (fun _ h => h) (v := .int (gI S 24 k2 0)) rfl dX6_copy_50 ?_
          refine lv_aload hx hb dX6_copy_53 (lv_at hl 0 rfl) ?_
          refine x_getN hx hb hts hi4 hown hK hW (c24 E hk9) (e24 _ _ _ _ _ _) rfl 0 (Nat.le_of_ble_eq_true rfl) (NW.f hF.2.1 0 (q := ("MovesUp", 205, "MovesUp$Row", "sort", "I", "MovesUp")) rfl) (fun _ h => h) (v := .int (gI S 24 k8 0)) rfl dX6_copy_55 ?_
          refine lv_icmp_eq (tgt := 64) hx hb dX6_copy_58 (by decide) (fun h => ?_) (fun h => ?_)
          · have hf := if_t h hf
            refine lv_iload hx hb dX6_copy_64 (lv_at hl 7 rfl) ?_
            refine lv_if_lt (tgt := 103) hx hb dX6_copy_66 (by decide) (fun h => ?_) (fun h => ?_)
            · have hf := if_t h hf
              refine lv_bipush (v := -12) hx hb dX6_copy_103 (by decide) ?_
              exact z_i hf hx hb hr rfl hF hW hS dX6_copy_105 hlocks
            · have hf := if_f h hf
              refine lv_iload_n hx hb dX6_copy_69 rfl (lv_at hl 4 rfl) ?_
              refine lv_if_lt (tgt := 103) hx hb dX6_copy_70 (by decide) (fun h => ?_) (fun h => ?_)
              · have hf := if_t h hf
                refine lv_bipush (v := -12) hx hb dX6_copy_103 (by decide) ?_
                exact z_i hf hx hb hr rfl hF hW hS dX6_copy_105 hlocks
              · have hf := if_f h hf
                refine lv_iload hx hb dX6_copy_73 (lv_at hl 6 rfl) ?_
                refine lv_if_lt (tgt := 103) hx hb dX6_copy_75 (by decide) (fun h => ?_) (fun h => ?_)
                · have hf := if_t h hf
                  refine lv_bipush (v := -12) hx hb dX6_copy_103 (by decide) ?_
                  exact z_i hf hx hb hr rfl hF hW hS dX6_copy_105 hlocks
                · have hf := if_f h hf
                  refine lv_iload_n hx hb dX6_copy_78 rfl (lv_at hl 4 rfl) ?_
                  refine lv_aload hx hb dX6_copy_79 (lv_at hl 1 rfl) ?_
                  refine x_getN hx hb hts hi4 hown hK hW (c24 E hk3) (e24 _ _ _ _ _ _) rfl 1 (Nat.le_of_ble_eq_true rfl) (NW.f hF.2.1 1 (q := ("MovesUp", 206, "MovesUp$Row", "size", "I", "MovesUp")) rfl) (fun _ h => h) (v := .int (gI S 24 k2 1)) rfl dX6_copy_81 ?_
                  refine lv_iload hx hb dX6_copy_84 (lv_at hl 7 rfl) ?_
                  refine lv_isub hx hb dX6_copy_86 ?_
                  refine lv_icmp_gt (tgt := 103) hx hb dX6_copy_87 (by decide) (fun h => ?_) (fun h => ?_)
                  · have hf := if_t h hf
                    refine lv_bipush (v := -12) hx hb dX6_copy_103 (by decide) ?_
                    exact z_i hf hx hb hr rfl hF hW hS dX6_copy_105 hlocks
                  · have hf := if_f h hf
                    refine lv_iload hx hb dX6_copy_90 (lv_at hl 6 rfl) ?_
                    refine lv_aload hx hb dX6_copy_92 (lv_at hl 0 rfl) ?_
                    refine x_getN hx hb hts hi4 hown hK hW (c24 E hk9) (e24 _ _ _ _ _ _) rfl 1 (Nat.le_of_ble_eq_true rfl) (NW.f hF.2.1 1 (q := ("MovesUp", 206, "MovesUp$Row", "size", "I", "MovesUp")) rfl) (fun _ h => h) (v := .int (gI S 24 k8 1)) rfl dX6_copy_94 ?_
                    refine lv_iload hx hb dX6_copy_97 (lv_at hl 7 rfl) ?_
                    refine lv_isub hx hb dX6_copy_99 ?_
                    refine lv_icmp_le (tgt := 106) hx hb dX6_copy_100 (by decide) (fun h => ?_) (fun h => ?_)
                    · have hf := if_t h hf
                      refine lv_aload hx hb dX6_copy_106 (lv_at hl 1 rfl) ?_
                      refine x_getN hx hb hts hi4 hown hK hW (c24 E hk3) (e24 _ _ _ _ _ _) rfl 2 (Nat.le_of_ble_eq_true rfl) (NW.f hF.2.1 2 (q := ("MovesUp", 209, "MovesUp$Row", "items", "[I", "MovesUp")) rfl) (fun _ h => h) (v := .ref (B 25 k2)) rfl dX6_copy_108 ?_
                      refine lv_iload_n hx hb dX6_copy_111 rfl (lv_at hl 4 rfl) ?_
                      refine lv_aload hx hb dX6_copy_112 (lv_at hl 0 rfl) ?_
                      refine x_getN hx hb hts hi4 hown hK hW (c24 E hk9) (e24 _ _ _ _ _ _) rfl 2 (Nat.le_of_ble_eq_true rfl) (NW.f hF.2.1 2 (q := ("MovesUp", 209, "MovesUp$Row", "items", "[I", "MovesUp")) rfl) (fun _ h => h) (v := .ref (B 25 k8)) rfl dX6_copy_114 ?_
                      refine lv_iload hx hb dX6_copy_117 (lv_at hl 6 rfl) ?_
                      refine lv_iload hx hb dX6_copy_119 (lv_at hl 7 rfl) ?_
                      obtain ⟨hp10, hf⟩ := ck_out hf
                      have hp10 := ng_ hp10
                      obtain ⟨hp11, hf⟩ := ck_out hf
                      have hp11 := ng_ hp11
                      obtain ⟨hp12, hf⟩ := ck_out hf
                      have hp12 := ng_ hp12
                      obtain ⟨hu13, hf⟩ := ck_out hf
                      have hu13 := of_decide_eq_true hu13
                      obtain ⟨hu14, hf⟩ := ck_out hf
                      have hu14 := of_decide_eq_true hu14
                      obtain ⟨S15, e_S15, hf⟩ := lt_out hf
                      refine x_copy hx hb (hml.trans hl.1.symm) hown q0 q1 q2 q3 hK hW hS (cv24_25 (c24 E hk3)) (cv24_25 (c24 E hk9)) (e25 _ _ _ _ _ _) (fun f r => e25 _ _ _ f _ r) hp10 hp11 hp12 hu13 hu14 (Nat.le_of_ble_eq_true rfl) (Nat.le_of_ble_eq_true rfl) (j1 := a2.toNatClampNeg) (j2 := a4.toNatClampNeg) (j3 := a5.toNatClampNeg) rfl rfl rfl e_S15 dX6_copy_121 (fun H locs hW hS => ?_)
                      refine lv_iload hx hb dX6_copy_124 (lv_at hl 7 rfl) ?_
                      exact z_i hf hx hb hr rfl hF hW hS dX6_copy_126 hlocks
                    · have hf := if_f h hf
                      refine lv_bipush (v := -12) hx hb dX6_copy_103 (by decide) ?_
                      exact z_i hf hx hb hr rfl hF hW hS dX6_copy_105 hlocks
          · have hf := if_f h hf
            refine lv_bipush (v := -13) hx hb dX6_copy_61 (by decide) ?_
            exact z_i hf hx hb hr rfl hF hW hS dX6_copy_63 hlocks
        · have hf := if_t h hf
          refine lv_bipush (v := -11) hx hb dX6_copy_45 (by decide) ?_
          exact z_i hf hx hb hr rfl hF hW hS dX6_copy_47 hlocks
set_option maxHeartbeats 4000000 in
set_option maxRecDepth 100000 in
theorem m_X6_isUnder (l : Launch) (G : GE) (B : Nat → Nat → Nat) (E : EN)  (S : ST) (a1 : Int32) (a2 : Int32) (rr : Int32) (hf : f_X6_isUnder E S a1 a2 = some rr) : Met l yX6_isUnder wsX6_isUnder (rmN 1) (va_Pc [.int a1, .int a2] (WS G B E S)) (QI G B E S rr) 0 0 (AA G) := by
  refine Met.ofW (cc := cX6_isUnder) (maxL := 4) (ret := (some .boolean)) (by decide) rfl ?_
  intro p e s m args below meth c s₁ B0 hml hv
  obtain ⟨rfl, hW, hF⟩ := hv
  have hx := B0.exec
  have hb := B0.bytes
  have hr := B0.returns
  have hts := atoms_spec (ws := wsX6_isUnder) B0.pre
  have hown : s.vm.findClass RX6 = some m.cls := findClass_of_methodNamed B0.named
  have hlocks := B0.notSynchronized
  have hK := hF.1
  have hfix : CallFix p m c cX6_isUnder 4 s [.int a1, .int a2].toArray wsX6_isUnder RX6 := ⟨hx, hb, hml, hown, hts⟩
  have hS : va_S (AA G) s.heap s.heap [] := va_S.rf
  have hl := lv_entry [.int a1, .int a2] (n := 4) (Nat.le_of_ble_eq_true rfl)
  rw [lg_entry_eq]
  generalize (lg_sl [.int a1, .int a2] ++ List.replicate (4 - (lg_sl [.int a1, .int a2]).length) Slot.unset).toArray = ls at hl ⊢
  have hl : lv_has ls 4 [(0, .int a1), (1, .int a2)] := hl
  have q0 := hts (.fieldLink RX6 275 "MovesUp" "PARENTS" "[I") (List.mem_of_getElem? (i := 1) rfl)
  have w4 : ∀ (n4 : Nat) (_ : Unit) (v1 : Int32) (v2 : Int32) (v3 : Int32) , f_X6_isUnder_b4 E n4 S v1 v2 v3 = some rr → ∀ (H : Heap) (locs : List Loc) (ls : Array Slot), WH G B E S H → va_S (AA G) s.heap H locs → lv_has ls 4 [(1, .int v1), (2, .int v2), (3, .int v3)] → W p l e (headSpec wsX6_isUnder (rmN 1)).room s m [.int a1, .int a2].toArray below meth c H locs 0 0 (MQ below (QI G B E S rr) [.int a1, .int a2].toArray s 0 0 (AA G)) (F0 m 4 ls []) := by
    intro n4
    induction n4 with
    | zero =>
      intro _ v1 v2 v3 hf
      exact absurd (show (none : Option Int32) = some rr from hf) (fun h => by cases h)
    | succ n4 ih4 =>
      intro _ v1 v2 v3 hf H locs ls hW hS hl
      have hf : g_X6_isUnder_b4 E (f_X6_isUnder_b4 E n4) S v1 v2 v3 = some rr := hf
      unfold g_X6_isUnder_b4 at hf
      refine lv_iload_n hx hb dX6_isUnder_4 rfl (lv_at hl 2 rfl) ?_
      refine lv_bipush (v := 6) hx hb dX6_isUnder_5 (by decide) ?_
      refine lv_icmp_ge (tgt := 39) hx hb dX6_isUnder_7 (by decide) (fun h => ?_) (fun h => ?_)
      · have hf := if_t h hf
        refine lv_iconst (v := 0) hx hb dX6_isUnder_39 rfl ?_
        exact zr_i hf hx hb hr rfl hF hW hS dX6_isUnder_40 hlocks
      · have hf := if_f h hf
        refine lv_iload_n hx hb dX6_isUnder_10 rfl (lv_at hl 1 rfl) ?_
        refine lv_if_lt (tgt := 39) hx hb dX6_isUnder_11 (by decide) (fun h => ?_) (fun h => ?_)
        · have hf := if_t h hf
          refine lv_iconst (v := 0) hx hb dX6_isUnder_39 rfl ?_
          exact zr_i hf hx hb hr rfl hF hW hS dX6_isUnder_40 hlocks
        · have hf := if_f h hf
          refine lv_iload_n hx hb dX6_isUnder_14 rfl (lv_at hl 1 rfl) ?_
          refine lv_bipush (v := 6) hx hb dX6_isUnder_15 (by decide) ?_
          refine lv_icmp_ge (tgt := 39) hx hb dX6_isUnder_17 (by decide) (fun h => ?_) (fun h => ?_)
          · have hf := if_t h hf
            refine lv_iconst (v := 0) hx hb dX6_isUnder_39 rfl ?_
            exact zr_i hf hx hb hr rfl hF hW hS dX6_isUnder_40 hlocks
          · have hf := if_f h hf
            refine lv_iload_n hx hb dX6_isUnder_20 rfl (lv_at hl 1 rfl) ?_
            refine lv_iload_n hx hb dX6_isUnder_21 rfl (lv_at hl 0 rfl) ?_
            refine lv_icmp_ne (tgt := 27) hx hb dX6_isUnder_22 (by decide) (fun h => ?_) (fun h => ?_)
            · have hf := if_f h hf
              refine va_gets hx hb hF.2.2.1.1 hS hown q0 (fun _ h => h) dX6_isUnder_27 ?_
              refine lv_iload_n hx hb dX6_isUnder_30 rfl (lv_at hl 1 rfl) ?_
              obtain ⟨hi_1, hf⟩ := ck_out hf
              have hi_1 := ib_in hi_1
              refine va_ti hx hb hF.2.2.1.2.1 hS hi_1 (v := .int (pR_ v2.toNatClampNeg)) rfl dX6_isUnder_31 ?_
              obtain ⟨x2, e_x2, hf⟩ := lt_out hf
              refine x_nmI e_x2 ?_
              refine lv_istore_n (lv' := [(2, .int x2), (1, .int v1), (3, .int v3)]) hx hb dX6_isUnder_32 rfl hl (by decide) rfl (fun ls hl => ?_)
              obtain ⟨x3, e_x3, hf⟩ := lt_out hf
              refine lv_iinc (v := x3) (lv' := [(3, .int x3), (2, .int x2), (1, .int v1)]) hx hb dX6_isUnder_33 hl (k := 2) rfl (by rw [e_x3]; rfl) (by decide) rfl (fun ls hl => ?_)
              refine lv_goto (tgt := 4) hx hb dX6_isUnder_36 (by decide) ?_
              exact ih4 () v1 x2 x3  hf _ _ _ hW hS (lv_sub hl [2, 1, 0] rfl)
            · have hf := if_t h hf
              refine lv_iconst (v := 1) hx hb dX6_isUnder_25 rfl ?_
              exact zr_i hf hx hb hr rfl hF hW hS dX6_isUnder_26 hlocks
  unfold f_X6_isUnder at hf
  refine lv_iload_n hx hb dX6_isUnder_0 rfl (lv_at hl 0 rfl) ?_
  refine lv_istore_n (lv' := [(2, .int a1), (0, .int a1), (1, .int a2)]) hx hb dX6_isUnder_1 rfl hl (by decide) rfl (fun ls hl => ?_)
  refine lv_iconst (v := 0) hx hb dX6_isUnder_2 rfl ?_
  refine lv_istore_n (lv' := [(3, .int (0 : Int32)), (2, .int a1), (0, .int a1), (1, .int a2)]) hx hb dX6_isUnder_3 rfl hl (by decide) rfl (fun ls hl => ?_)
  exact w4 E.1 () a2 a1 (0 : Int32)  hf _ _ _ hW hS (lv_sub hl [3, 1, 0] rfl)
set_option maxHeartbeats 4000000 in
set_option maxRecDepth 100000 in
theorem m_X6_taken (l : Launch) (G : GE) (B : Nat → Nat → Nat) (E : EN)  (S : ST) (a1 : Int32) (a2 : Int32) (rr : Int32) (hf : f_X6_taken E S a1 a2 = some rr) : Met l yX6_taken wsX6_taken (rmN 2) (va_Pc [.ref (B 2 0), .int a1, .int a2] (WS G B E S)) (QI G B E S rr) 0 0 (AA G) := by
  refine Met.ofW (cc := cX6_taken) (maxL := 4) (ret := (some .int)) (by decide) rfl ?_
  intro p e s m args below meth c s₁ B0 hml hv
  obtain ⟨rfl, hW, hF⟩ := hv
  have hx := B0.exec
  have hb := B0.bytes
  have hr := B0.returns
  have hts := atoms_spec (ws := wsX6_taken) B0.pre
  have hown : s.vm.findClass RX6 = some m.cls := findClass_of_methodNamed B0.named
  have hlocks := B0.notSynchronized
  have hK := hF.1
  have hfix : CallFix p m c cX6_taken 4 s [.ref (B 2 0), .int a1, .int a2].toArray wsX6_taken RX6 := ⟨hx, hb, hml, hown, hts⟩
  have hS : va_S (AA G) s.heap s.heap [] := va_S.rf
  have hl := lv_entry [.ref (B 2 0), .int a1, .int a2] (n := 4) (Nat.le_of_ble_eq_true rfl)
  rw [lg_entry_eq]
  generalize (lg_sl [.ref (B 2 0), .int a1, .int a2] ++ List.replicate (4 - (lg_sl [.ref (B 2 0), .int a1, .int a2]).length) Slot.unset).toArray = ls at hl ⊢
  have hl : lv_has ls 4 [(0, .ref (B 2 0)), (1, .int a1), (2, .int a2)] := hl
  have hi2 : ∀ w ∈ u_ws RX2 TX2 7, w ∈ wsX6_taken := in_seg 12 rfl
  unfold f_X6_taken at hf
  refine lv_iload_n hx hb dX6_taken_0 rfl (lv_at hl 2 rfl) ?_
  refine lv_if_lt (tgt := 10) hx hb dX6_taken_1 (by decide) (fun h => ?_) (fun h => ?_)
  · have hf := if_t h hf
    refine lv_bipush (v := -2) hx hb dX6_taken_10 (by decide) ?_
    exact zr_i hf hx hb hr rfl hF hW hS dX6_taken_12 hlocks
  · have hf := if_f h hf
    refine lv_iload_n hx hb dX6_taken_4 rfl (lv_at hl 2 rfl) ?_
    refine lv_bipush (v := 6) hx hb dX6_taken_5 (by decide) ?_
    refine lv_icmp_lt (tgt := 13) hx hb dX6_taken_7 (by decide) (fun h => ?_) (fun h => ?_)
    · have hf := if_t h hf
      refine lv_aload_n hx hb dX6_taken_13 rfl (lv_at hl 0 rfl) ?_
      refine lv_iload_n hx hb dX6_taken_14 rfl (lv_at hl 1 rfl) ?_
      obtain ⟨r1, hc, hf⟩ := bd_out hf
      refine y_q (va_runV (As := [.int a1]) (rest := []) hfix (m_X6_known l G B E S a1 r1 hc) (cwV 1 hts gX6_taken_X6_known rfl rfl rfl ⟨rfl, hd_X6_known⟩ ⟨Nat.le_of_ble_eq_true rfl, Nat.le_of_ble_eq_true rfl⟩) (y_pv hF hW hS (c2 E) (e2 _ _ _ _ _ _) rfl) rfl rfl hl.1 rfl (lv_room (Nat.le_of_ble_eq_true rfl)) dX6_taken_15 ⟨Nat.le_of_ble_eq_true rfl, Nat.le_of_ble_eq_true rfl⟩) hS (fun H locs hW hS => ?_)
      rcases r1 with _ | k2
      · have hf := nl_n hf
        refine lv_astore_nN (lv' := [(3, .null), (0, .ref (B 2 0)), (1, .int a1), (2, .int a2)]) hx hb dX6_taken_18 rfl hl (by decide) rfl (fun ls hl => ?_)
        refine lv_aload_nN hx hb dX6_taken_19 rfl (lv_at hl 0 rfl) ?_
        refine lv_ifnonnullN hx hb dX6_taken_20 ?_
        refine lv_bipush (v := -11) hx hb dX6_taken_23 (by decide) ?_
        exact zr_i hf hx hb hr rfl hF hW hS dX6_taken_25 hlocks
      · have hf := nl_s hf
        obtain ⟨hk3, hf⟩ := ck_out hf
        have hk3 := of_decide_eq_true hk3
        refine lv_astore_n (lv' := [(3, .ref (B 20 k2)), (0, .ref (B 2 0)), (1, .int a1), (2, .int a2)]) hx hb dX6_taken_18 rfl hl (by decide) rfl (fun ls hl => ?_)
        refine lv_aload_n hx hb dX6_taken_19 rfl (lv_at hl 0 rfl) ?_
        refine lv_ifnonnull (tgt := 26) hx hb dX6_taken_20 (by decide) ?_
        refine lv_aload_n hx hb dX6_taken_26 rfl (lv_at hl 0 rfl) ?_
        refine x_getN hx hb hts hi2 hown hK hW (c20 hk3) (e20 _ _ _ _ _ _) rfl 0 (Nat.le_of_ble_eq_true rfl) (NW.f hF.2.1 5 (q := ("MovesUp", 119, "MovesUp$Pupil", "kind", "I", "MovesUp")) rfl) (fun _ h => h) (v := .int (gI S 20 k2 0)) rfl dX6_taken_27 ?_
        refine lv_iload_n hx hb dX6_taken_30 rfl (lv_at hl 3 rfl) ?_
        obtain ⟨r4, hc, hf⟩ := bd_out hf
        refine y_i (va_runS (As := [.int (gI S 20 k2 0), .int a2]) (rest := []) hfix (m_X6_isUnder l G B E S (gI S 20 k2 0) a2 r4 hc) (va_cwS 2 hts gX6_taken_X6_isUnder rfl rfl rfl hd_X6_isUnder ⟨Nat.le_of_ble_eq_true rfl, Nat.le_of_ble_eq_true rfl⟩) (y_ps hF hW hS) rfl rfl hl.1 rfl (lv_room (Nat.le_of_ble_eq_true rfl)) dX6_taken_31 ⟨Nat.le_of_ble_eq_true rfl, Nat.le_of_ble_eq_true rfl⟩) hS (fun H locs hW hS => ?_)
        refine lv_if_eq (tgt := 44) hx hb dX6_taken_34 (by decide) (fun h => ?_) (fun h => ?_)
        · have hf := if_t h hf
          refine lv_bipush (v := -13) hx hb dX6_taken_44 (by decide) ?_
          exact zr_i hf hx hb hr rfl hF hW hS dX6_taken_46 hlocks
        · have hf := if_f h hf
          refine lv_aload_n hx hb dX6_taken_37 rfl (lv_at hl 0 rfl) ?_
          refine x_getN hx hb hts hi2 hown hK hW (c20 hk3) (e20 _ _ _ _ _ _) rfl 2 (Nat.le_of_ble_eq_true rfl) (NW.f hF.2.1 7 (q := ("MovesUp", 128, "MovesUp$Pupil", "number", "I", "MovesUp")) rfl) (fun _ h => h) (v := .int (gI S 20 k2 2)) rfl dX6_taken_38 ?_
          refine lv_goto (tgt := 46) hx hb dX6_taken_41 (by decide) ?_
          exact zr_i hf hx hb hr rfl hF hW hS dX6_taken_46 hlocks
    · have hf := if_f h hf
      refine lv_bipush (v := -2) hx hb dX6_taken_10 (by decide) ?_
      exact zr_i hf hx hb hr rfl hF hW hS dX6_taken_12 hlocks
set_option maxHeartbeats 4000000 in
set_option maxRecDepth 100000 in
theorem m_X7_in (l : Launch) (G : GE) (B : Nat → Nat → Nat) (E : EN) (hE : 0 < E.2.2.2)  (S : ST) (a1 : Int32) (a2 : Int32) (a3 : Int32) (rr : Int32) (hf : f_X7_in E S a1 a2 a3 = some rr) : Met l yX7_in wsX7_in (rmN 1) (va_Pc [.ref (B 1 0), .int a1, .int a2, .int a3] (WS G B E S)) (QI G B E S rr) 0 0 (AA G) := by
  refine Met.ofW (cc := cX7_in) (maxL := 4) (ret := (some .boolean)) (by decide) rfl ?_
  intro p e s m args below meth c s₁ B0 hml hv
  obtain ⟨rfl, hW, hF⟩ := hv
  have hx := B0.exec
  have hb := B0.bytes
  have hr := B0.returns
  have hts := atoms_spec (ws := wsX7_in) B0.pre
  have hown : s.vm.findClass RX7 = some m.cls := findClass_of_methodNamed B0.named
  have hlocks := B0.notSynchronized
  have hK := hF.1
  have hfix : CallFix p m c cX7_in 4 s [.ref (B 1 0), .int a1, .int a2, .int a3].toArray wsX7_in RX7 := ⟨hx, hb, hml, hown, hts⟩
  have hS : va_S (AA G) s.heap s.heap [] := va_S.rf
  have hl := lv_entry [.ref (B 1 0), .int a1, .int a2, .int a3] (n := 4) (Nat.le_of_ble_eq_true rfl)
  rw [lg_entry_eq]
  generalize (lg_sl [.ref (B 1 0), .int a1, .int a2, .int a3] ++ List.replicate (4 - (lg_sl [.ref (B 1 0), .int a1, .int a2, .int a3]).length) Slot.unset).toArray = ls at hl ⊢
  have hl : lv_has ls 4 [(0, .ref (B 1 0)), (1, .int a1), (2, .int a2), (3, .int a3)] := hl
  unfold f_X7_in at hf
  refine lv_iload_n hx hb dX7_in_0 rfl (lv_at hl 1 rfl) ?_
  refine lv_iload_n hx hb dX7_in_1 rfl (lv_at hl 2 rfl) ?_
  refine lv_icmp_lt (tgt := 14) hx hb dX7_in_2 (by decide) (fun h => ?_) (fun h => ?_)
  · have hf := if_t h hf
    refine lv_iconst (v := 0) hx hb dX7_in_14 rfl ?_
    exact zr_i hf hx hb hr rfl hF hW hS dX7_in_15 hlocks
  · have hf := if_f h hf
    refine lv_iload_n hx hb dX7_in_5 rfl (lv_at hl 1 rfl) ?_
    refine lv_iload_n hx hb dX7_in_6 rfl (lv_at hl 3 rfl) ?_
    refine lv_icmp_gt (tgt := 14) hx hb dX7_in_7 (by decide) (fun h => ?_) (fun h => ?_)
    · have hf := if_t h hf
      refine lv_iconst (v := 0) hx hb dX7_in_14 rfl ?_
      exact zr_i hf hx hb hr rfl hF hW hS dX7_in_15 hlocks
    · have hf := if_f h hf
      refine lv_iconst (v := 1) hx hb dX7_in_10 rfl ?_
      refine lv_goto (tgt := 15) hx hb dX7_in_11 (by decide) ?_
      exact zr_i hf hx hb hr rfl hF hW hS dX7_in_15 hlocks
set_option maxHeartbeats 4000000 in
set_option maxRecDepth 100000 in
theorem m_X7_isPupil (l : Launch) (G : GE) (B : Nat → Nat → Nat) (E : EN) (hE : 0 < E.2.2.2)  (S : ST) (a1 : Int32) (rr : Int32) (hf : f_X7_isPupil E S a1 = some rr) : Met l yX7_isPupil wsX7_isPupil (rmN 2) (va_Pc [.ref (B 1 0), .int a1] (WS G B E S)) (QI G B E S rr) 0 0 (AA G) := by
  refine Met.ofW (cc := cX7_isPupil) (maxL := 2) (ret := (some .boolean)) (by decide) rfl ?_
  intro p e s m args below meth c s₁ B0 hml hv
  obtain ⟨rfl, hW, hF⟩ := hv
  have hx := B0.exec
  have hb := B0.bytes
  have hr := B0.returns
  have hts := atoms_spec (ws := wsX7_isPupil) B0.pre
  have hown : s.vm.findClass RX7 = some m.cls := findClass_of_methodNamed B0.named
  have hlocks := B0.notSynchronized
  have hK := hF.1
  have hfix : CallFix p m c cX7_isPupil 2 s [.ref (B 1 0), .int a1].toArray wsX7_isPupil RX7 := ⟨hx, hb, hml, hown, hts⟩
  have hS : va_S (AA G) s.heap s.heap [] := va_S.rf
  have hl := lv_entry [.ref (B 1 0), .int a1] (n := 2) (Nat.le_of_ble_eq_true rfl)
  rw [lg_entry_eq]
  generalize (lg_sl [.ref (B 1 0), .int a1] ++ List.replicate (2 - (lg_sl [.ref (B 1 0), .int a1]).length) Slot.unset).toArray = ls at hl ⊢
  have hl : lv_has ls 2 [(0, .ref (B 1 0)), (1, .int a1)] := hl
  have q0 := hts (.fieldLink RX7 1 "MovesUpModel" "pupils" "I") (List.mem_of_getElem? (i := 1) rfl)
  have hi7 : ∀ w ∈ u_ws RX7 TX7 47, w ∈ wsX7_isPupil := in_seg 7 rfl
  unfold f_X7_isPupil at hf
  refine lv_aload_n hx hb dX7_isPupil_0 rfl (lv_at hl 0 rfl) ?_
  refine lv_iload_n hx hb dX7_isPupil_1 rfl (lv_at hl 1 rfl) ?_
  refine lv_iconst (v := 0) hx hb dX7_isPupil_2 rfl ?_
  refine lv_aload_n hx hb dX7_isPupil_3 rfl (lv_at hl 0 rfl) ?_
  refine x_get hx hb hts hi7 hown hK hW (c1 hE) (e1 _ _ _ _ _ _) rfl 0 (Nat.le_of_ble_eq_true rfl) q0 (fun _ h => h) (v := .int (gI S 1 0 0)) rfl dX7_isPupil_4 ?_
  refine lv_iconst (v := 1) hx hb dX7_isPupil_7 rfl ?_
  refine lv_isub hx hb dX7_isPupil_8 ?_
  obtain ⟨r1, hc, hf⟩ := bd_out hf
  refine y_i (va_runV (As := [.int a1, .int (0 : Int32), .int ((gI S 1 0 0) - (1 : Int32))]) (rest := []) hfix (m_X7_in l G B E hE S a1 (0 : Int32) ((gI S 1 0 0) - (1 : Int32)) r1 hc) (cwV 3 hts gX7_isPupil_X7_in rfl rfl rfl ⟨rfl, hd_X7_in⟩ ⟨Nat.le_of_ble_eq_true rfl, Nat.le_of_ble_eq_true rfl⟩) (y_pv hF hW hS (c1 hE) (e1 _ _ _ _ _ _) rfl) rfl rfl hl.1 rfl (lv_room (Nat.le_of_ble_eq_true rfl)) dX7_isPupil_9 ⟨Nat.le_of_ble_eq_true rfl, Nat.le_of_ble_eq_true rfl⟩) hS (fun H locs hW hS => ?_)
  obtain ⟨hb2, hf⟩ := ck_out hf
  exact zr_i hf hx hb hr (ob_n hb2) hF hW hS dX7_isPupil_12 hlocks
set_option maxHeartbeats 4000000 in
set_option maxRecDepth 100000 in
theorem m_X7_isNew (l : Launch) (G : GE) (B : Nat → Nat → Nat) (E : EN) (hE : 0 < E.2.2.2)  (S : ST) (a1 : Int32) (a2 : Int32) (rr : Int32) (hf : f_X7_isNew E S a1 a2 = some rr) : Met l yX7_isNew wsX7_isNew (rmN 2) (va_Pc [.ref (B 1 0), .int a1, .int a2] (WS G B E S)) (QI G B E S rr) 0 0 (AA G) := by
  refine Met.ofW (cc := cX7_isNew) (maxL := 3) (ret := (some .boolean)) (by decide) rfl ?_
  intro p e s m args below meth c s₁ B0 hml hv
  obtain ⟨rfl, hW, hF⟩ := hv
  have hx := B0.exec
  have hb := B0.bytes
  have hr := B0.returns
  have hts := atoms_spec (ws := wsX7_isNew) B0.pre
  have hown : s.vm.findClass RX7 = some m.cls := findClass_of_methodNamed B0.named
  have hlocks := B0.notSynchronized
  have hK := hF.1
  have hfix : CallFix p m c cX7_isNew 3 s [.ref (B 1 0), .int a1, .int a2].toArray wsX7_isNew RX7 := ⟨hx, hb, hml, hown, hts⟩
  have hS : va_S (AA G) s.heap s.heap [] := va_S.rf
  have hl := lv_entry [.ref (B 1 0), .int a1, .int a2] (n := 3) (Nat.le_of_ble_eq_true rfl)
  rw [lg_entry_eq]
  generalize (lg_sl [.ref (B 1 0), .int a1, .int a2] ++ List.replicate (3 - (lg_sl [.ref (B 1 0), .int a1, .int a2]).length) Slot.unset).toArray = ls at hl ⊢
  have hl : lv_has ls 3 [(0, .ref (B 1 0)), (1, .int a1), (2, .int a2)] := hl
  unfold f_X7_isNew at hf
  refine lv_aload_n hx hb dX7_isNew_0 rfl (lv_at hl 0 rfl) ?_
  refine lv_iload_n hx hb dX7_isNew_1 rfl (lv_at hl 1 rfl) ?_
  refine lv_iconst (v := 0) hx hb dX7_isNew_2 rfl ?_
  refine lv_iconst (v := 5) hx hb dX7_isNew_3 rfl ?_
  obtain ⟨r1, hc, hf⟩ := bd_out hf
  refine y_i (va_runV (As := [.int a1, .int (0 : Int32), .int (5 : Int32)]) (rest := []) hfix (m_X7_in l G B E hE S a1 (0 : Int32) (5 : Int32) r1 hc) (cwV 3 hts gX7_isNew_X7_in rfl rfl rfl ⟨rfl, hd_X7_in⟩ ⟨Nat.le_of_ble_eq_true rfl, Nat.le_of_ble_eq_true rfl⟩) (y_pv hF hW hS (c1 hE) (e1 _ _ _ _ _ _) rfl) rfl rfl hl.1 rfl (lv_room (Nat.le_of_ble_eq_true rfl)) dX7_isNew_4 ⟨Nat.le_of_ble_eq_true rfl, Nat.le_of_ble_eq_true rfl⟩) hS (fun H locs hW hS => ?_)
  refine lv_if_eq (tgt := 37) hx hb dX7_isNew_7 (by decide) (fun h => ?_) (fun h => ?_)
  · have hf := if_t h hf
    refine lv_iconst (v := 0) hx hb dX7_isNew_37 rfl ?_
    exact zr_i hf hx hb hr rfl hF hW hS dX7_isNew_38 hlocks
  · have hf := if_f h hf
    refine lv_aload_n hx hb dX7_isNew_10 rfl (lv_at hl 0 rfl) ?_
    refine lv_iload_n hx hb dX7_isNew_11 rfl (lv_at hl 2 rfl) ?_
    refine lv_iconst (v := 0) hx hb dX7_isNew_12 rfl ?_
    refine lv_sipush (v := 439) hx hb dX7_isNew_13 (by decide) ?_
    obtain ⟨r2, hc, hf⟩ := bd_out hf
    refine y_i (va_runV (As := [.int a2, .int (0 : Int32), .int (439 : Int32)]) (rest := []) hfix (m_X7_in l G B E hE S a2 (0 : Int32) (439 : Int32) r2 hc) (cwV 3 hts gX7_isNew_X7_in rfl rfl rfl ⟨rfl, hd_X7_in⟩ ⟨Nat.le_of_ble_eq_true rfl, Nat.le_of_ble_eq_true rfl⟩) (y_pv hF hW hS (c1 hE) (e1 _ _ _ _ _ _) rfl) rfl rfl hl.1 rfl (lv_room (Nat.le_of_ble_eq_true rfl)) dX7_isNew_16 ⟨Nat.le_of_ble_eq_true rfl, Nat.le_of_ble_eq_true rfl⟩) hS (fun H locs hW hS => ?_)
    refine lv_if_eq (tgt := 37) hx hb dX7_isNew_19 (by decide) (fun h => ?_) (fun h => ?_)
    · have hf := if_t h hf
      refine lv_iconst (v := 0) hx hb dX7_isNew_37 rfl ?_
      exact zr_i hf hx hb hr rfl hF hW hS dX7_isNew_38 hlocks
    · have hf := if_f h hf
      refine lv_iload_n hx hb dX7_isNew_22 rfl (lv_at hl 2 rfl) ?_
      refine lv_bipush (v := 10) hx hb dX7_isNew_23 (by decide) ?_
      refine lv_idiv hx hb dX7_isNew_25 (by decide) ?_
      refine lv_bipush (v := 10) hx hb dX7_isNew_26 (by decide) ?_
      refine x_irem hx hb dX7_isNew_28 (by decide) ?_
      refine lv_iconst (v := 4) hx hb dX7_isNew_29 rfl ?_
      refine lv_icmp_ge (tgt := 37) hx hb dX7_isNew_30 (by decide) (fun h => ?_) (fun h => ?_)
      · have hf := if_t h hf
        refine lv_iconst (v := 0) hx hb dX7_isNew_37 rfl ?_
        exact zr_i hf hx hb hr rfl hF hW hS dX7_isNew_38 hlocks
      · have hf := if_f h hf
        refine lv_iconst (v := 1) hx hb dX7_isNew_33 rfl ?_
        refine lv_goto (tgt := 38) hx hb dX7_isNew_34 (by decide) ?_
        exact zr_i hf hx hb hr rfl hF hW hS dX7_isNew_38 hlocks
