/-! MAKERS: text -/
def tex6b (E : EN) (S : ST) (f : Int32) : Int32 × EN × ST :=
  if f < 0 then (gI (sI (sR (texC S E.2.2.1 (S.1 9 0) (gI S 8 0 8).toNatClampNeg) 4 0 E.2.2.1 (some E.2.2.1)) 2 0 3 (gI S 2 0 3 + 1)) 2 0 3 - 1, (E.1, E.2.1, E.2.2.1 + 1, E.2.2.2), sI (sR (texC S E.2.2.1 (S.1 9 0) (gI S 8 0 8).toNatClampNeg) 4 0 E.2.2.1 (some E.2.2.1)) 2 0 3 (gI S 2 0 3 + 1))
  else (-100 - f, E, S)
/-- text, as the class does it -/
def tex6 (E : EN) (S : ST) : Option (Int32 × EN × ST) :=
  if gI S 2 0 3 < 6 then bd2 (f_X3_read E S (gI S 2 0 6)) fun f S1 => some (tex6b E (sI S1 2 0 6 0) f)
  else some (-4, E, S)
set_option maxHeartbeats 4000000 in
set_option maxRecDepth 100000 in
theorem m_X6_text (l : Launch) (G : GE) (B : Nat → Nat → Nat) (E : EN) (S : ST) (rr : Int32) (EE : EN) (SS : ST) (hf : tex6 E S = some (rr, EE, SS)) (hnt : gI S 2 0 3 = nI E.2.2.1) (hn6 : E.2.2.1 ≤ 6) (hr4 : ∀ j x, S.2.2 4 0 j = some x → x < E.2.2.1) (hr0 : ∀ x, S.2.2 10 0 0 = some x → x < E.2.2.1)
    (h8 : ∀ f S1, f_X3_read E S (gI S 2 0 6) = some (f, S1) → f < 0 → ∃ L, L ≤ 160 ∧ gI S1 8 0 8 = nI L) :
    Met l yX6_text wsX6_text { frames := 51, cells := 3, slots := 166, locals := 3060 } (va_Pc [.ref (B 2 0)] (WS G B E S)) (QE G B EE SS rr) 3 166 (AA G) := by
  refine Met.ofW (cc := cX6_text) (maxL := 2) (ret := (some .int)) (by decide) rfl ?_
  intro p e s m args below meth c s₁ B0 hml hv
  obtain ⟨rfl, hW, hF⟩ := hv
  have hx := B0.exec
  have hb := B0.bytes
  have hr := B0.returns
  have hts := atoms_spec (ws := wsX6_text) B0.pre
  have hown : s.vm.findClass RX6 = some m.cls := findClass_of_methodNamed B0.named
  have hlocks := B0.notSynchronized
  have hK := hF.1
  have hfix : CallFix p m c cX6_text 2 s [.ref (B 2 0)].toArray wsX6_text RX6 := ⟨hx, hb, hml, hown, hts⟩
  have hS : va_S (AA G) s.heap s.heap [] := va_S.rf
  have hl := lv_entry [.ref (B 2 0)] (n := 2) (Nat.le_of_ble_eq_true rfl)
  rw [lg_entry_eq]
  generalize (lg_sl [.ref (B 2 0)] ++ List.replicate (2 - (lg_sl [.ref (B 2 0)]).length) Slot.unset).toArray = ls at hl ⊢
  have hl : lv_has ls 2 [(0, .ref (B 2 0))] := hl
  have q1 := hts (.fieldLink RX6 25 "MovesUp" "rulesSize" "I") (List.mem_of_getElem? (i := 1) rfl)
  have q2 := hts (.fieldLink RX6 49 "MovesUp" "reader" "LMovesUp$Reader;") (List.mem_of_getElem? (i := 2) rfl)
  have q3 := hts (.fieldLink RX6 35 "MovesUp" "tapeSize" "I") (List.mem_of_getElem? (i := 3) rfl)
  have q4 := hts (.fieldLink RX6 21 "MovesUp" "rules" "[LMovesUp$Text;") (List.mem_of_getElem? (i := 4) rfl)
  have q5 := hts (.instanceMethod yX3_read) (List.mem_of_getElem? (i := 5) rfl)
  have q6 := hts (.initialized RX3) (List.mem_of_getElem? (i := 6) rfl)
  have q7 := hts (.selects RX3 yX3_read yX3_read) (List.mem_of_getElem? (i := 7) rfl)
  have q8 := hts (.instanceMethod yX3_made) (List.mem_of_getElem? (i := 137) rfl)
  have q9 := hts (.selects RX3 yX3_made yX3_made) (List.mem_of_getElem? (i := 138) rfl)
  have hi6 : ∀ w ∈ u_ws RX6 TX6 15, w ∈ wsX6_text := in_seg 168 rfl
  unfold tex6 at hf
  refine lv_aload_n hx hb dX6_text_0 rfl (lv_at hl 0 rfl) ?_
  refine x_get hx hb hts hi6 hown hK hW (c2 E) (e2 _ _ _ _ _ _) rfl 3 (Nat.le_of_ble_eq_true rfl) q1 (fun _ h => h) (v := .int (gI S 2 0 3)) rfl dX6_text_1 ?_
  refine lv_bipush (v := 6) hx hb dX6_text_4 (by decide) ?_
  refine lv_icmp_lt (tgt := 12) hx hb dX6_text_6 (by decide) (fun h => ?_) (fun h => ?_)
  rotate_left
  · have hf := if_f h hf
    refine lv_bipush (v := -4) hx hb dX6_text_9 (by decide) ?_
    refine W.widen (k := 3) (n := 166) (Nat.le_of_ble_eq_true rfl) (Nat.le_of_ble_eq_true rfl) ?_
    exact z_e (Option.some.inj hf) BX.rf hx hb hr rfl hF hW hS dX6_text_11 hlocks
  have hlt : E.2.2.1 < 6 := by
    rw [hnt] at h
    have := Int32.lt_iff_toInt_lt.mp h
    rw [nI_toInt (by omega)] at this
    have h8 : ((6 : Int32)).toInt = 6 := rfl
    omega
  have hf := if_t h hf
  obtain ⟨f, S1, hc, hf⟩ := bd2_out hf
  have FR := fr_X3_read _ _ _ _ _ hc
  refine lv_aload_n hx hb dX6_text_12 rfl (lv_at hl 0 rfl) ?_
  refine x_get hx hb hts hi6 hown hK hW (c2 E) (e2 _ _ _ _ _ _) rfl 8 (Nat.le_of_ble_eq_true rfl) q2 (fun _ h => h) (v := .ref (B 8 0)) rfl dX6_text_13 ?_
  refine lv_aload_n hx hb dX6_text_16 rfl (lv_at hl 0 rfl) ?_
  refine x_get hx hb hts hi6 hown hK hW (c2 E) (e2 _ _ _ _ _ _) rfl 6 (Nat.le_of_ble_eq_true rfl) q3 (fun _ h => h) (v := .int (gI S 2 0 6)) rfl dX6_text_17 ?_
  refine y_i (va_runVN (As := [.int (gI S 2 0 6)]) (rest := []) hfix (m_X3_read l G B E S (gI S 2 0 6) f S1 hc) ⟨va_cnB 1 hts gX6_text_X3_read_n96 rfl rfl rfl (NW.m hF.2.1 4 (q := ("MovesUp", 96, "MovesUp$Reader", "read", "(I)I", "MovesUp")) rfl) q6 hd_X3_read ⟨Nat.le_of_ble_eq_true rfl, Nat.le_of_ble_eq_true rfl⟩, q5, q7⟩ (y_pv hF hW hS (c8 E) (e8 _ _ _ _ _ _) rfl) rfl rfl hl.1 rfl (lv_room (Nat.le_of_ble_eq_true rfl)) dX6_text_20 ⟨Nat.le_of_ble_eq_true rfl, Nat.le_of_ble_eq_true rfl⟩) hS (fun H locs hW hS => ?_)
  refine lv_istore_n (lv' := [(1, .int f), (0, .ref (B 2 0))]) hx hb dX6_text_23 rfl hl (by decide) rfl (fun ls hl => ?_)
  refine lv_aload_n hx hb dX6_text_24 rfl (lv_at hl 1 rfl) ?_
  refine lv_iconst (v := 0) hx hb dX6_text_25 rfl ?_
  refine x_putI (S1 := sI S1 2 0 6 0) hx hb hts hi6 tyX6 tyX6_ok nmX6 hown hK hW hS (c2 _) (e2 _ _ _) rfl 6 (Nat.le_of_ble_eq_true rfl) q3 (fun _ h => h) rfl (tyX6_ok 6 (Nat.le_of_ble_eq_true rfl)) rfl rfl (Nat.le_of_ble_eq_true rfl) (pu2_6 _ _) rfl dX6_text_26 (fun H locs hW hS => ?_)
  refine lv_iload_n hx hb dX6_text_29 rfl (lv_at hl 0 rfl) ?_
  have hf := Option.some.inj hf
  unfold tex6b at hf
  refine lv_if_lt (tgt := 38) hx hb dX6_text_30 (by decide) (fun h => ?_) (fun h => ?_)
  rotate_left
  · have hf := if_f h hf
    refine lv_bipush (v := -100) hx hb dX6_text_33 (by decide) ?_
    refine lv_iload_n hx hb dX6_text_35 rfl (lv_at hl 0 rfl) ?_
    refine lv_isub hx hb dX6_text_36 ?_
    refine W.widen (k := 3) (n := 166) (Nat.le_of_ble_eq_true rfl) (Nat.le_of_ble_eq_true rfl) ?_
    exact z_e hf BX.rf hx hb hr rfl hF hW hS dX6_text_37 hlocks
  have hf := if_t h hf
  obtain ⟨L, hL, hL8⟩ := h8 f S1 hc h
  have hL8 : gI (sI S1 2 0 6 0) 8 0 8 = nI L := hL8
  have h23 : gI (sI S1 2 0 6 0) 2 0 3 = nI E.2.2.1 := by
    rw [gI_ne (by omega), FR.I rfl]
    exact hnt
  rw [hL8, q_cl (by omega)] at hf
  have k4 : ∀ j x, (sI S1 2 0 6 0).2.2 4 0 j = some x → x < E.2.2.1 := fun j x hx => hr4 j x ((FR.R (K := 4) (i := 0) (j := j) rfl).symm.trans hx)
  have k10 : ∀ x, (sI S1 2 0 6 0).2.2 10 0 0 = some x → x < E.2.2.1 := fun x hx => hr0 x ((FR.R (K := 10) (i := 0) (j := 0) rfl).symm.trans hx)
  generalize sI S1 2 0 6 0 = S3 at hf hW hL8 h23 k4 k10
  refine lv_aload_n hx hb dX6_text_38 rfl (lv_at hl 1 rfl) ?_
  refine x_get hx hb hts hi6 hown hK hW (c2 E) (e2 _ _ _ _ _ _) rfl 2 (Nat.le_of_ble_eq_true rfl) q4 (fun _ h => h) (v := .ref (B 4 0)) rfl dX6_text_39 ?_
  refine lv_aload_n hx hb dX6_text_42 rfl (lv_at hl 1 rfl) ?_
  refine x_get hx hb hts hi6 hown hK hW (c2 E) (e2 _ _ _ _ _ _) rfl 3 (Nat.le_of_ble_eq_true rfl) q1 (fun _ h => h) (v := .int (gI S3 2 0 3)) rfl dX6_text_43 ?_
  refine lv_aload_n hx hb dX6_text_46 rfl (lv_at hl 1 rfl) ?_
  refine x_get hx hb hts hi6 hown hK hW (c2 E) (e2 _ _ _ _ _ _) rfl 8 (Nat.le_of_ble_eq_true rfl) q2 (fun _ h => h) (v := .ref (B 8 0)) rfl dX6_text_47 ?_
  refine va_callr (va_runVN (As := []) (rest := [.int (gI S3 2 0 3), .ref (B 4 0)]) hfix (m_X3_made l G B E S3 L hL8 hL k4 k10) ⟨va_cnB 0 hts gX6_text_X3_made_n100 rfl rfl rfl (NW.m hF.2.1 5 (q := ("MovesUp", 100, "MovesUp$Reader", "made", "()LMovesUp$Text;", "MovesUp")) rfl) q6 hd_X3_made ⟨Nat.le_of_ble_eq_true rfl, Nat.le_of_ble_eq_true rfl⟩, q8, q9⟩ (y_pv hF hW hS (c8 E) (e8 _ _ _ _ _ _) rfl) rfl rfl hl.1 rfl (lv_room (Nat.le_of_ble_eq_true rfl)) dX6_text_50 ⟨Nat.le_of_ble_eq_true rfl, Nat.le_of_ble_eq_true rfl⟩) hS (fun _ _ h => h) (fun _ h => h) (fun u ra t H1 locs ht hvm _ hB hz1 hk1 hS => ?_)
  obtain ⟨B', hX, hq, hW2⟩ := hB
  have hW := hW2.1
  rw [ht] at hW
  have hB4 : B' 4 0 = B 4 0 := by rw [hX 4 (by decide) (by decide)]
  have hB2 : B' 2 0 = B 2 0 := by rw [hX 2 (by decide) (by decide)]
  have hl : lv_has ls 2 [(1, .int f), (0, .ref (B' 2 0))] := by rw [hB2]; exact hl
  refine W.widen (k := 3) (n := 166) (Nat.le_of_ble_eq_true rfl) (Nat.le_of_ble_eq_true rfl) ?_
  refine W.eq (g2 := F0 m 53 ls [.ref (B' 30 E.2.2.1), .int (gI S3 2 0 3), .ref (B' 4 0)]) (by rw [hq, hB4]) ?_
  refine x_astR (n := 6) (E := (E.1, E.2.1, E.2.2.1 + 1, E.2.2.2)) (S := texC S3 E.2.2.1 (S3.1 9 0) L) (S1 := sR (texC S3 E.2.2.1 (S3.1 9 0) L) 4 0 E.2.2.1 (some E.2.2.1)) (t0 := 5) (r := (RX5, TX5, 2)) hx hb hK hW hS (c4 _) (show E.2.2.1 < E.2.2.1 + 1 by omega) rfl (fun rr => e4 _ _ _ _ _ rr) (e30 _ _ _ _ _ _) rfl (vp_in_iff.mpr (by rw [h23, nI_toInt (by omega)]; omega)) (by rw [h23, q_cl (by omega)]) rfl dX6_text_53 (fun H locs hW hS => ?_)
  refine lv_aload_n hx hb dX6_text_54 rfl (lv_at hl 1 rfl) ?_
  refine lv_dup hx hb dX6_text_55 rfl ?_
  refine x_get hx hb hts hi6 hown hK hW (c2 _) (e2 _ _ _ _ _ _) rfl 3 (Nat.le_of_ble_eq_true rfl) q1 (fun _ h => h) (v := .int (gI S3 2 0 3)) rfl dX6_text_56 ?_
  refine lv_iconst (v := 1) hx hb dX6_text_59 rfl ?_
  refine lv_iadd hx hb dX6_text_60 ?_
  refine x_putI (S1 := sI (sR (texC S3 E.2.2.1 (S3.1 9 0) L) 4 0 E.2.2.1 (some E.2.2.1)) 2 0 3 (gI S3 2 0 3 + 1)) hx hb hts hi6 tyX6 tyX6_ok nmX6 hown hK hW hS (c2 _) (e2 _ _ _) rfl 3 (Nat.le_of_ble_eq_true rfl) q1 (fun _ h => h) rfl (tyX6_ok 3 (Nat.le_of_ble_eq_true rfl)) rfl rfl (Nat.le_of_ble_eq_true rfl) (pu2_3 _ _) rfl dX6_text_61 (fun H locs hW hS => ?_)
  refine lv_aload_n hx hb dX6_text_64 rfl (lv_at hl 1 rfl) ?_
  refine x_get hx hb hts hi6 hown hK hW (c2 _) (e2 _ _ _ _ _ _) rfl 3 (Nat.le_of_ble_eq_true rfl) q1 (fun _ h => h) (v := .int (gI (sI (sR (texC S3 E.2.2.1 (S3.1 9 0) L) 4 0 E.2.2.1 (some E.2.2.1)) 2 0 3 (gI S3 2 0 3 + 1)) 2 0 3)) rfl dX6_text_65 ?_
  refine lv_iconst (v := 1) hx hb dX6_text_68 rfl ?_
  refine lv_isub hx hb dX6_text_69 ?_
  exact z_e hf hX hx hb hr rfl hF hW hS dX6_text_70 hlocks
