/-! THE LAW: its cases (by program: wip/whole/gen/law.py) -/
section LAWC
variable {p : Program} {l : Launch} {e : Env} {s : State} {m : MethodId} {below : List Frame} {meth : Method} {c : Code} {H : Heap} {locs : List Loc} {cells slots : Nat} {ls : Array Slot}
variable {b L k : Nat} {xs : Nat → Int32} {G : GE} {B : Nat → Nat → Nat} {E : EN} {S : ST}
set_option maxHeartbeats 4000000 in
set_option maxRecDepth 100000 in
theorem lc_likely (C0 : lw_At p s m meth c b L xs) (hF : WF G s) (hg : gB G = s.heap.size) (h : LQ G s b B E S k H locs ls) (hk : k + 6 ≤ L) (hL : L ≤ 384) (hc : cells + 24 ≤ 600000) (hs : slots + 166 ≤ 7302250)
    (K : ∀ (B2 : Nat → Nat → Nat) (E2 : EN) (S2 : ST) (H2 : Heap) (locs2 : List Loc) (ls2 : Array Slot), LQ G s b B2 E2 S2 k H2 locs2 ls2 → W p l e room_1 s m #[Value.ref b] below meth c H2 locs2 (cells + 24) (slots + 166) (lw_Z below #[Value.ref b] s) (F0 m 1077 ls2 [])) :
    W p l e room_1 s m #[Value.ref b] below meth c H locs cells slots (lw_Z below #[Value.ref b] s) (F0 m 486 ls []) := by
  obtain ⟨hx, hb, hr, hml, hown, hts, hX, hbl, hlocks, hgv⟩ := id C0
  have hb : c.code = cL_law := hb
  have hown : s.vm.findClass RL = some m.cls := hown
  obtain ⟨hN, hE1, hR, hW, hS, hl⟩ := h
  have hbA : ¬ AA G b := by
    show ¬ gB G ≤ b
    omega
  have hE : 0 < E.2.2.2 := by omega
  have hN2 : 20300 ≤ E.1 := by omega
  have htl : ∀ w ∈ wsL_law, w.before #[Value.ref b] s = true := fun w h => hts w (wsL_law_in w h)
  have hfix : CallFix p m c cL_law 4 s #[Value.ref b] wsL_law RL := ⟨hx, hb, hml, hown, htl⟩
  have hK := hF.1
  obtain ⟨y1, u1⟩ : ∃ y : Int32, y = xs (nI k + 1).toNatClampNeg := ⟨_, rfl⟩
  obtain ⟨y2, u2⟩ : ∃ y : Int32, y = xs (nI k + 2).toNatClampNeg := ⟨_, rfl⟩
  obtain ⟨y3, u3⟩ : ∃ y : Int32, y = xs (nI k + 3).toNatClampNeg := ⟨_, rfl⟩
  obtain ⟨r, S1, S2, f6, f7, hR2⟩ := j_likely hN2 hR y1 y2 y3
  refine lv_aload_n hx hb dL_law_486 rfl (lv_at hl 2 rfl) ?_
  refine lv_aload_n hx hb dL_law_487 rfl (lv_at hl 1 rfl) ?_
  refine lv_iload_n hx hb dL_law_488 rfl (lv_at hl 0 rfl) ?_
  refine lv_iconst (v := 1) hx hb dL_law_489 rfl ?_
  refine lv_iadd hx hb dL_law_490 ?_
  refine va_sld hx hb hX hbl hbA hS (show vp_in (nI k + 1) L from x_in (j := 1) (by omega) hL) dL_law_491 ?_
  refine x_nmI u1 ?_
  refine lv_aload_n hx hb dL_law_492 rfl (lv_at hl 1 rfl) ?_
  refine lv_iload_n hx hb dL_law_493 rfl (lv_at hl 0 rfl) ?_
  refine lv_iconst (v := 2) hx hb dL_law_494 rfl ?_
  refine lv_iadd hx hb dL_law_495 ?_
  refine va_sld hx hb hX hbl hbA hS (show vp_in (nI k + 2) L from x_in (j := 2) (by omega) hL) dL_law_496 ?_
  refine x_nmI u2 ?_
  refine lv_aload_n hx hb dL_law_497 rfl (lv_at hl 1 rfl) ?_
  refine lv_iload_n hx hb dL_law_498 rfl (lv_at hl 0 rfl) ?_
  refine lv_iconst (v := 3) hx hb dL_law_499 rfl ?_
  refine lv_iadd hx hb dL_law_500 ?_
  refine va_sld hx hb hX hbl hbA hS (show vp_in (nI k + 3) L from x_in (j := 3) (by omega) hL) dL_law_501 ?_
  refine x_nmI u3 ?_
  refine y_l (va_runV (As := [.int y1, .int y2, .int y3]) (rest := []) hfix (m_X6_likely l G B E S y1 y2 y3 r S1 f6) (cwV 3 htl gL_law_X6_likely rfl rfl rfl ⟨rfl, hd_X6_likely⟩ ⟨Nat.le_of_ble_eq_true rfl, Nat.le_of_ble_eq_true rfl⟩) (y_pv hF hW hS (c2 E) (e2 _ _ _ _ _ _) rfl) rfl rfl hl.1 rfl (lv_room (Nat.le_of_ble_eq_true rfl)) dL_law_502 ⟨by show cells + 0 ≤ 600000; omega, by show slots + 0 ≤ 7302250; omega⟩) hS (fun H locs hW hS => ?_)
  refine lv_aload_n hx hb dL_law_505 rfl (lv_at hl 3 rfl) ?_
  refine lv_aload_n hx hb dL_law_506 rfl (lv_at hl 1 rfl) ?_
  refine lv_iload_n hx hb dL_law_507 rfl (lv_at hl 0 rfl) ?_
  refine lv_iconst (v := 1) hx hb dL_law_508 rfl ?_
  refine lv_iadd hx hb dL_law_509 ?_
  refine va_sld hx hb hX hbl hbA hS (show vp_in (nI k + 1) L from x_in (j := 1) (by omega) hL) dL_law_510 ?_
  refine x_nmI u1 ?_
  refine lv_aload_n hx hb dL_law_511 rfl (lv_at hl 1 rfl) ?_
  refine lv_iload_n hx hb dL_law_512 rfl (lv_at hl 0 rfl) ?_
  refine lv_iconst (v := 2) hx hb dL_law_513 rfl ?_
  refine lv_iadd hx hb dL_law_514 ?_
  refine va_sld hx hb hX hbl hbA hS (show vp_in (nI k + 2) L from x_in (j := 2) (by omega) hL) dL_law_515 ?_
  refine x_nmI u2 ?_
  refine lv_aload_n hx hb dL_law_516 rfl (lv_at hl 1 rfl) ?_
  refine lv_iload_n hx hb dL_law_517 rfl (lv_at hl 0 rfl) ?_
  refine lv_iconst (v := 3) hx hb dL_law_518 rfl ?_
  refine lv_iadd hx hb dL_law_519 ?_
  refine va_sld hx hb hX hbl hbA hS (show vp_in (nI k + 3) L from x_in (j := 3) (by omega) hL) dL_law_520 ?_
  refine x_nmI u3 ?_
  refine y_l (va_runV (As := [.int y1, .int y2, .int y3]) (rest := [.long r]) hfix (m_X7_likely l G B E hE S1 y1 y2 y3 r S2 f7) (cwV 3 htl gL_law_X7_likely rfl rfl rfl ⟨rfl, hd_X7_likely⟩ ⟨Nat.le_of_ble_eq_true rfl, Nat.le_of_ble_eq_true rfl⟩) (y_pv hF hW hS (c1 hE) (e1 _ _ _ _ _ _) rfl) rfl rfl hl.1 rfl (lv_room (Nat.le_of_ble_eq_true rfl)) dL_law_521 ⟨by show cells + 0 ≤ 600000; omega, by show slots + 0 ≤ 7302250; omega⟩) hS (fun H locs hW hS => ?_)
  refine W.lcmp hx hb dL_law_524 ?_
  refine x_nmI (lg_cmp_rf r).symm ?_
  refine lv_if_eq (tgt := 1077) hx hb dL_law_525 (by decide) (fun _ => ?_) (fun h => absurd rfl h)
  refine W.widen (k := cells + 24) (n := slots + 166) (by omega) (by omega) ?_
  exact K B E S2 H locs ls ⟨hN, hE1, hR2, hW, hS, hl⟩
set_option maxHeartbeats 4000000 in
set_option maxRecDepth 100000 in
theorem lc_mean (C0 : lw_At p s m meth c b L xs) (hF : WF G s) (hg : gB G = s.heap.size) (h : LQ G s b B E S k H locs ls) (hk : k + 6 ≤ L) (hL : L ≤ 384) (hc : cells + 24 ≤ 600000) (hs : slots + 166 ≤ 7302250)
    (K : ∀ (B2 : Nat → Nat → Nat) (E2 : EN) (S2 : ST) (H2 : Heap) (locs2 : List Loc) (ls2 : Array Slot), LQ G s b B2 E2 S2 k H2 locs2 ls2 → W p l e room_1 s m #[Value.ref b] below meth c H2 locs2 (cells + 24) (slots + 166) (lw_Z below #[Value.ref b] s) (F0 m 1077 ls2 [])) :
    W p l e room_1 s m #[Value.ref b] below meth c H locs cells slots (lw_Z below #[Value.ref b] s) (F0 m 530 ls []) := by
  obtain ⟨hx, hb, hr, hml, hown, hts, hX, hbl, hlocks, hgv⟩ := id C0
  have hb : c.code = cL_law := hb
  have hown : s.vm.findClass RL = some m.cls := hown
  obtain ⟨hN, hE1, hR, hW, hS, hl⟩ := h
  have hbA : ¬ AA G b := by
    show ¬ gB G ≤ b
    omega
  have hE : 0 < E.2.2.2 := by omega
  have hN2 : 20300 ≤ E.1 := by omega
  have htl : ∀ w ∈ wsL_law, w.before #[Value.ref b] s = true := fun w h => hts w (wsL_law_in w h)
  have hfix : CallFix p m c cL_law 4 s #[Value.ref b] wsL_law RL := ⟨hx, hb, hml, hown, htl⟩
  have hK := hF.1
  obtain ⟨y1, u1⟩ : ∃ y : Int32, y = xs (nI k + 1).toNatClampNeg := ⟨_, rfl⟩
  obtain ⟨y2, u2⟩ : ∃ y : Int32, y = xs (nI k + 2).toNatClampNeg := ⟨_, rfl⟩
  obtain ⟨r, S1, S2, f6, f7, hR2⟩ := j_mean hN2 hR y1 y2
  refine lv_aload_n hx hb dL_law_530 rfl (lv_at hl 2 rfl) ?_
  refine lv_aload_n hx hb dL_law_531 rfl (lv_at hl 1 rfl) ?_
  refine lv_iload_n hx hb dL_law_532 rfl (lv_at hl 0 rfl) ?_
  refine lv_iconst (v := 1) hx hb dL_law_533 rfl ?_
  refine lv_iadd hx hb dL_law_534 ?_
  refine va_sld hx hb hX hbl hbA hS (show vp_in (nI k + 1) L from x_in (j := 1) (by omega) hL) dL_law_535 ?_
  refine x_nmI u1 ?_
  refine lv_aload_n hx hb dL_law_536 rfl (lv_at hl 1 rfl) ?_
  refine lv_iload_n hx hb dL_law_537 rfl (lv_at hl 0 rfl) ?_
  refine lv_iconst (v := 2) hx hb dL_law_538 rfl ?_
  refine lv_iadd hx hb dL_law_539 ?_
  refine va_sld hx hb hX hbl hbA hS (show vp_in (nI k + 2) L from x_in (j := 2) (by omega) hL) dL_law_540 ?_
  refine x_nmI u2 ?_
  refine y_l (va_runV (As := [.int y1, .int y2]) (rest := []) hfix (m_X6_mean l G B E S y1 y2 r S1 f6) (cwV 2 htl gL_law_X6_mean rfl rfl rfl ⟨rfl, hd_X6_mean⟩ ⟨Nat.le_of_ble_eq_true rfl, Nat.le_of_ble_eq_true rfl⟩) (y_pv hF hW hS (c2 E) (e2 _ _ _ _ _ _) rfl) rfl rfl hl.1 rfl (lv_room (Nat.le_of_ble_eq_true rfl)) dL_law_541 ⟨by show cells + 0 ≤ 600000; omega, by show slots + 0 ≤ 7302250; omega⟩) hS (fun H locs hW hS => ?_)
  refine lv_aload_n hx hb dL_law_544 rfl (lv_at hl 3 rfl) ?_
  refine lv_aload_n hx hb dL_law_545 rfl (lv_at hl 1 rfl) ?_
  refine lv_iload_n hx hb dL_law_546 rfl (lv_at hl 0 rfl) ?_
  refine lv_iconst (v := 1) hx hb dL_law_547 rfl ?_
  refine lv_iadd hx hb dL_law_548 ?_
  refine va_sld hx hb hX hbl hbA hS (show vp_in (nI k + 1) L from x_in (j := 1) (by omega) hL) dL_law_549 ?_
  refine x_nmI u1 ?_
  refine lv_aload_n hx hb dL_law_550 rfl (lv_at hl 1 rfl) ?_
  refine lv_iload_n hx hb dL_law_551 rfl (lv_at hl 0 rfl) ?_
  refine lv_iconst (v := 2) hx hb dL_law_552 rfl ?_
  refine lv_iadd hx hb dL_law_553 ?_
  refine va_sld hx hb hX hbl hbA hS (show vp_in (nI k + 2) L from x_in (j := 2) (by omega) hL) dL_law_554 ?_
  refine x_nmI u2 ?_
  refine y_l (va_runV (As := [.int y1, .int y2]) (rest := [.long r]) hfix (m_X7_mean l G B E hE S1 y1 y2 r S2 f7) (cwV 2 htl gL_law_X7_mean rfl rfl rfl ⟨rfl, hd_X7_mean⟩ ⟨Nat.le_of_ble_eq_true rfl, Nat.le_of_ble_eq_true rfl⟩) (y_pv hF hW hS (c1 hE) (e1 _ _ _ _ _ _) rfl) rfl rfl hl.1 rfl (lv_room (Nat.le_of_ble_eq_true rfl)) dL_law_555 ⟨by show cells + 0 ≤ 600000; omega, by show slots + 0 ≤ 7302250; omega⟩) hS (fun H locs hW hS => ?_)
  refine W.lcmp hx hb dL_law_558 ?_
  refine x_nmI (lg_cmp_rf r).symm ?_
  refine lv_if_eq (tgt := 1077) hx hb dL_law_559 (by decide) (fun _ => ?_) (fun h => absurd rfl h)
  refine W.widen (k := cells + 24) (n := slots + 166) (by omega) (by omega) ?_
  exact K B E S2 H locs ls ⟨hN, hE1, hR2, hW, hS, hl⟩
set_option maxHeartbeats 4000000 in
set_option maxRecDepth 100000 in
theorem lc_off (C0 : lw_At p s m meth c b L xs) (hF : WF G s) (hg : gB G = s.heap.size) (h : LQ G s b B E S k H locs ls) (hk : k + 6 ≤ L) (hL : L ≤ 384) (hc : cells + 24 ≤ 600000) (hs : slots + 166 ≤ 7302250)
    (K : ∀ (B2 : Nat → Nat → Nat) (E2 : EN) (S2 : ST) (H2 : Heap) (locs2 : List Loc) (ls2 : Array Slot), LQ G s b B2 E2 S2 k H2 locs2 ls2 → W p l e room_1 s m #[Value.ref b] below meth c H2 locs2 (cells + 24) (slots + 166) (lw_Z below #[Value.ref b] s) (F0 m 1077 ls2 [])) :
    W p l e room_1 s m #[Value.ref b] below meth c H locs cells slots (lw_Z below #[Value.ref b] s) (F0 m 564 ls []) := by
  obtain ⟨hx, hb, hr, hml, hown, hts, hX, hbl, hlocks, hgv⟩ := id C0
  have hb : c.code = cL_law := hb
  have hown : s.vm.findClass RL = some m.cls := hown
  obtain ⟨hN, hE1, hR, hW, hS, hl⟩ := h
  have hbA : ¬ AA G b := by
    show ¬ gB G ≤ b
    omega
  have hE : 0 < E.2.2.2 := by omega
  have hN2 : 20300 ≤ E.1 := by omega
  have htl : ∀ w ∈ wsL_law, w.before #[Value.ref b] s = true := fun w h => hts w (wsL_law_in w h)
  have hfix : CallFix p m c cL_law 4 s #[Value.ref b] wsL_law RL := ⟨hx, hb, hml, hown, htl⟩
  have hK := hF.1
  obtain ⟨y1, u1⟩ : ∃ y : Int32, y = xs (nI k + 1).toNatClampNeg := ⟨_, rfl⟩
  obtain ⟨y2, u2⟩ : ∃ y : Int32, y = xs (nI k + 2).toNatClampNeg := ⟨_, rfl⟩
  obtain ⟨y3, u3⟩ : ∃ y : Int32, y = xs (nI k + 3).toNatClampNeg := ⟨_, rfl⟩
  obtain ⟨r, S1, S2, f6, f7, hR2⟩ := j_off hN2 hR y1 y2 y3
  refine lv_aload_n hx hb dL_law_564 rfl (lv_at hl 2 rfl) ?_
  refine lv_aload_n hx hb dL_law_565 rfl (lv_at hl 1 rfl) ?_
  refine lv_iload_n hx hb dL_law_566 rfl (lv_at hl 0 rfl) ?_
  refine lv_iconst (v := 1) hx hb dL_law_567 rfl ?_
  refine lv_iadd hx hb dL_law_568 ?_
  refine va_sld hx hb hX hbl hbA hS (show vp_in (nI k + 1) L from x_in (j := 1) (by omega) hL) dL_law_569 ?_
  refine x_nmI u1 ?_
  refine lv_aload_n hx hb dL_law_570 rfl (lv_at hl 1 rfl) ?_
  refine lv_iload_n hx hb dL_law_571 rfl (lv_at hl 0 rfl) ?_
  refine lv_iconst (v := 2) hx hb dL_law_572 rfl ?_
  refine lv_iadd hx hb dL_law_573 ?_
  refine va_sld hx hb hX hbl hbA hS (show vp_in (nI k + 2) L from x_in (j := 2) (by omega) hL) dL_law_574 ?_
  refine x_nmI u2 ?_
  refine lv_aload_n hx hb dL_law_575 rfl (lv_at hl 1 rfl) ?_
  refine lv_iload_n hx hb dL_law_576 rfl (lv_at hl 0 rfl) ?_
  refine lv_iconst (v := 3) hx hb dL_law_577 rfl ?_
  refine lv_iadd hx hb dL_law_578 ?_
  refine va_sld hx hb hX hbl hbA hS (show vp_in (nI k + 3) L from x_in (j := 3) (by omega) hL) dL_law_579 ?_
  refine x_nmI u3 ?_
  refine y_l (va_runV (As := [.int y1, .int y2, .int y3]) (rest := []) hfix (m_X6_off l G B E S y1 y2 y3 r S1 f6) (cwV 3 htl gL_law_X6_off rfl rfl rfl ⟨rfl, hd_X6_off⟩ ⟨Nat.le_of_ble_eq_true rfl, Nat.le_of_ble_eq_true rfl⟩) (y_pv hF hW hS (c2 E) (e2 _ _ _ _ _ _) rfl) rfl rfl hl.1 rfl (lv_room (Nat.le_of_ble_eq_true rfl)) dL_law_580 ⟨by show cells + 0 ≤ 600000; omega, by show slots + 0 ≤ 7302250; omega⟩) hS (fun H locs hW hS => ?_)
  refine lv_aload_n hx hb dL_law_583 rfl (lv_at hl 3 rfl) ?_
  refine lv_aload_n hx hb dL_law_584 rfl (lv_at hl 1 rfl) ?_
  refine lv_iload_n hx hb dL_law_585 rfl (lv_at hl 0 rfl) ?_
  refine lv_iconst (v := 1) hx hb dL_law_586 rfl ?_
  refine lv_iadd hx hb dL_law_587 ?_
  refine va_sld hx hb hX hbl hbA hS (show vp_in (nI k + 1) L from x_in (j := 1) (by omega) hL) dL_law_588 ?_
  refine x_nmI u1 ?_
  refine lv_aload_n hx hb dL_law_589 rfl (lv_at hl 1 rfl) ?_
  refine lv_iload_n hx hb dL_law_590 rfl (lv_at hl 0 rfl) ?_
  refine lv_iconst (v := 2) hx hb dL_law_591 rfl ?_
  refine lv_iadd hx hb dL_law_592 ?_
  refine va_sld hx hb hX hbl hbA hS (show vp_in (nI k + 2) L from x_in (j := 2) (by omega) hL) dL_law_593 ?_
  refine x_nmI u2 ?_
  refine lv_aload_n hx hb dL_law_594 rfl (lv_at hl 1 rfl) ?_
  refine lv_iload_n hx hb dL_law_595 rfl (lv_at hl 0 rfl) ?_
  refine lv_iconst (v := 3) hx hb dL_law_596 rfl ?_
  refine lv_iadd hx hb dL_law_597 ?_
  refine va_sld hx hb hX hbl hbA hS (show vp_in (nI k + 3) L from x_in (j := 3) (by omega) hL) dL_law_598 ?_
  refine x_nmI u3 ?_
  refine y_l (va_runV (As := [.int y1, .int y2, .int y3]) (rest := [.long r]) hfix (m_X7_off l G B E hE S1 y1 y2 y3 r S2 f7) (cwV 3 htl gL_law_X7_off rfl rfl rfl ⟨rfl, hd_X7_off⟩ ⟨Nat.le_of_ble_eq_true rfl, Nat.le_of_ble_eq_true rfl⟩) (y_pv hF hW hS (c1 hE) (e1 _ _ _ _ _ _) rfl) rfl rfl hl.1 rfl (lv_room (Nat.le_of_ble_eq_true rfl)) dL_law_599 ⟨by show cells + 0 ≤ 600000; omega, by show slots + 0 ≤ 7302250; omega⟩) hS (fun H locs hW hS => ?_)
  refine W.lcmp hx hb dL_law_602 ?_
  refine x_nmI (lg_cmp_rf r).symm ?_
  refine lv_if_eq (tgt := 1077) hx hb dL_law_603 (by decide) (fun _ => ?_) (fun h => absurd rfl h)
  refine W.widen (k := cells + 24) (n := slots + 166) (by omega) (by omega) ?_
  exact K B E S2 H locs ls ⟨hN, hE1, hR2, hW, hS, hl⟩
set_option maxHeartbeats 4000000 in
set_option maxRecDepth 100000 in
theorem lc_rule (C0 : lw_At p s m meth c b L xs) (hF : WF G s) (hg : gB G = s.heap.size) (h : LQ G s b B E S k H locs ls) (hk : k + 6 ≤ L) (hL : L ≤ 384) (hc : cells + 24 ≤ 600000) (hs : slots + 166 ≤ 7302250)
    (K : ∀ (B2 : Nat → Nat → Nat) (E2 : EN) (S2 : ST) (H2 : Heap) (locs2 : List Loc) (ls2 : Array Slot), LQ G s b B2 E2 S2 k H2 locs2 ls2 → W p l e room_1 s m #[Value.ref b] below meth c H2 locs2 (cells + 24) (slots + 166) (lw_Z below #[Value.ref b] s) (F0 m 1077 ls2 [])) :
    W p l e room_1 s m #[Value.ref b] below meth c H locs cells slots (lw_Z below #[Value.ref b] s) (F0 m 608 ls []) := by
  obtain ⟨hx, hb, hr, hml, hown, hts, hX, hbl, hlocks, hgv⟩ := id C0
  have hb : c.code = cL_law := hb
  have hown : s.vm.findClass RL = some m.cls := hown
  obtain ⟨hN, hE1, hR, hW, hS, hl⟩ := h
  have hbA : ¬ AA G b := by
    show ¬ gB G ≤ b
    omega
  have hE : 0 < E.2.2.2 := by omega
  have hN2 : 20300 ≤ E.1 := by omega
  have htl : ∀ w ∈ wsL_law, w.before #[Value.ref b] s = true := fun w h => hts w (wsL_law_in w h)
  have hfix : CallFix p m c cL_law 4 s #[Value.ref b] wsL_law RL := ⟨hx, hb, hml, hown, htl⟩
  have hK := hF.1
  obtain ⟨y1, u1⟩ : ∃ y : Int32, y = xs (nI k + 1).toNatClampNeg := ⟨_, rfl⟩
  obtain ⟨y2, u2⟩ : ∃ y : Int32, y = xs (nI k + 2).toNatClampNeg := ⟨_, rfl⟩
  obtain ⟨r, S1, S2, f6, f7, hR2⟩ := j_rule hN2 hR y1 y2
  refine lv_aload_n hx hb dL_law_608 rfl (lv_at hl 2 rfl) ?_
  refine lv_aload_n hx hb dL_law_609 rfl (lv_at hl 1 rfl) ?_
  refine lv_iload_n hx hb dL_law_610 rfl (lv_at hl 0 rfl) ?_
  refine lv_iconst (v := 1) hx hb dL_law_611 rfl ?_
  refine lv_iadd hx hb dL_law_612 ?_
  refine va_sld hx hb hX hbl hbA hS (show vp_in (nI k + 1) L from x_in (j := 1) (by omega) hL) dL_law_613 ?_
  refine x_nmI u1 ?_
  refine lv_aload_n hx hb dL_law_614 rfl (lv_at hl 1 rfl) ?_
  refine lv_iload_n hx hb dL_law_615 rfl (lv_at hl 0 rfl) ?_
  refine lv_iconst (v := 2) hx hb dL_law_616 rfl ?_
  refine lv_iadd hx hb dL_law_617 ?_
  refine va_sld hx hb hX hbl hbA hS (show vp_in (nI k + 2) L from x_in (j := 2) (by omega) hL) dL_law_618 ?_
  refine x_nmI u2 ?_
  refine y_i (va_runV (As := [.int y1, .int y2]) (rest := []) hfix (m_X6_rule l G B E S y1 y2 r S1 f6) (cwV 2 htl gL_law_X6_rule rfl rfl rfl ⟨rfl, hd_X6_rule⟩ ⟨Nat.le_of_ble_eq_true rfl, Nat.le_of_ble_eq_true rfl⟩) (y_pv hF hW hS (c2 E) (e2 _ _ _ _ _ _) rfl) rfl rfl hl.1 rfl (lv_room (Nat.le_of_ble_eq_true rfl)) dL_law_619 ⟨by show cells + 0 ≤ 600000; omega, by show slots + 0 ≤ 7302250; omega⟩) hS (fun H locs hW hS => ?_)
  refine lv_aload_n hx hb dL_law_622 rfl (lv_at hl 3 rfl) ?_
  refine lv_aload_n hx hb dL_law_623 rfl (lv_at hl 1 rfl) ?_
  refine lv_iload_n hx hb dL_law_624 rfl (lv_at hl 0 rfl) ?_
  refine lv_iconst (v := 1) hx hb dL_law_625 rfl ?_
  refine lv_iadd hx hb dL_law_626 ?_
  refine va_sld hx hb hX hbl hbA hS (show vp_in (nI k + 1) L from x_in (j := 1) (by omega) hL) dL_law_627 ?_
  refine x_nmI u1 ?_
  refine lv_aload_n hx hb dL_law_628 rfl (lv_at hl 1 rfl) ?_
  refine lv_iload_n hx hb dL_law_629 rfl (lv_at hl 0 rfl) ?_
  refine lv_iconst (v := 2) hx hb dL_law_630 rfl ?_
  refine lv_iadd hx hb dL_law_631 ?_
  refine va_sld hx hb hX hbl hbA hS (show vp_in (nI k + 2) L from x_in (j := 2) (by omega) hL) dL_law_632 ?_
  refine x_nmI u2 ?_
  refine y_i (va_runV (As := [.int y1, .int y2]) (rest := [.int r]) hfix (m_X7_rule l G B E hE S1 y1 y2 r S2 f7) (cwV 2 htl gL_law_X7_rule rfl rfl rfl ⟨rfl, hd_X7_rule⟩ ⟨Nat.le_of_ble_eq_true rfl, Nat.le_of_ble_eq_true rfl⟩) (y_pv hF hW hS (c1 hE) (e1 _ _ _ _ _ _) rfl) rfl rfl hl.1 rfl (lv_room (Nat.le_of_ble_eq_true rfl)) dL_law_633 ⟨by show cells + 0 ≤ 600000; omega, by show slots + 0 ≤ 7302250; omega⟩) hS (fun H locs hW hS => ?_)
  refine lv_icmp_eq (tgt := 1077) hx hb dL_law_636 (by decide) (fun _ => ?_) (fun h => absurd rfl h)
  refine W.widen (k := cells + 24) (n := slots + 166) (by omega) (by omega) ?_
  exact K B E S2 H locs ls ⟨hN, hE1, hR2, hW, hS, hl⟩
set_option maxHeartbeats 4000000 in
set_option maxRecDepth 100000 in
theorem lc_room (C0 : lw_At p s m meth c b L xs) (hF : WF G s) (hg : gB G = s.heap.size) (h : LQ G s b B E S k H locs ls) (hk : k + 6 ≤ L) (hL : L ≤ 384) (hc : cells + 24 ≤ 600000) (hs : slots + 166 ≤ 7302250)
    (K : ∀ (B2 : Nat → Nat → Nat) (E2 : EN) (S2 : ST) (H2 : Heap) (locs2 : List Loc) (ls2 : Array Slot), LQ G s b B2 E2 S2 k H2 locs2 ls2 → W p l e room_1 s m #[Value.ref b] below meth c H2 locs2 (cells + 24) (slots + 166) (lw_Z below #[Value.ref b] s) (F0 m 1077 ls2 [])) :
    W p l e room_1 s m #[Value.ref b] below meth c H locs cells slots (lw_Z below #[Value.ref b] s) (F0 m 641 ls []) := by
  obtain ⟨hx, hb, hr, hml, hown, hts, hX, hbl, hlocks, hgv⟩ := id C0
  have hb : c.code = cL_law := hb
  have hown : s.vm.findClass RL = some m.cls := hown
  obtain ⟨hN, hE1, hR, hW, hS, hl⟩ := h
  have hbA : ¬ AA G b := by
    show ¬ gB G ≤ b
    omega
  have hE : 0 < E.2.2.2 := by omega
  have hN2 : 20300 ≤ E.1 := by omega
  have htl : ∀ w ∈ wsL_law, w.before #[Value.ref b] s = true := fun w h => hts w (wsL_law_in w h)
  have hfix : CallFix p m c cL_law 4 s #[Value.ref b] wsL_law RL := ⟨hx, hb, hml, hown, htl⟩
  have hK := hF.1
  obtain ⟨y1, u1⟩ : ∃ y : Int32, y = xs (nI k + 1).toNatClampNeg := ⟨_, rfl⟩
  obtain ⟨y2, u2⟩ : ∃ y : Int32, y = xs (nI k + 2).toNatClampNeg := ⟨_, rfl⟩
  obtain ⟨y3, u3⟩ : ∃ y : Int32, y = xs (nI k + 3).toNatClampNeg := ⟨_, rfl⟩
  obtain ⟨r, S1, S2, f6, f7, hR2⟩ := j_room hN2 hR y1 y2 y3
  refine lv_aload_n hx hb dL_law_641 rfl (lv_at hl 2 rfl) ?_
  refine lv_aload_n hx hb dL_law_642 rfl (lv_at hl 1 rfl) ?_
  refine lv_iload_n hx hb dL_law_643 rfl (lv_at hl 0 rfl) ?_
  refine lv_iconst (v := 1) hx hb dL_law_644 rfl ?_
  refine lv_iadd hx hb dL_law_645 ?_
  refine va_sld hx hb hX hbl hbA hS (show vp_in (nI k + 1) L from x_in (j := 1) (by omega) hL) dL_law_646 ?_
  refine x_nmI u1 ?_
  refine lv_aload_n hx hb dL_law_647 rfl (lv_at hl 1 rfl) ?_
  refine lv_iload_n hx hb dL_law_648 rfl (lv_at hl 0 rfl) ?_
  refine lv_iconst (v := 2) hx hb dL_law_649 rfl ?_
  refine lv_iadd hx hb dL_law_650 ?_
  refine va_sld hx hb hX hbl hbA hS (show vp_in (nI k + 2) L from x_in (j := 2) (by omega) hL) dL_law_651 ?_
  refine x_nmI u2 ?_
  refine lv_aload_n hx hb dL_law_652 rfl (lv_at hl 1 rfl) ?_
  refine lv_iload_n hx hb dL_law_653 rfl (lv_at hl 0 rfl) ?_
  refine lv_iconst (v := 3) hx hb dL_law_654 rfl ?_
  refine lv_iadd hx hb dL_law_655 ?_
  refine va_sld hx hb hX hbl hbA hS (show vp_in (nI k + 3) L from x_in (j := 3) (by omega) hL) dL_law_656 ?_
  refine x_nmI u3 ?_
  refine y_i (va_runV (As := [.int y1, .int y2, .int y3]) (rest := []) hfix (m_X6_room l G B E S y1 y2 y3 r S1 f6) (cwV 3 htl gL_law_X6_room rfl rfl rfl ⟨rfl, hd_X6_room⟩ ⟨Nat.le_of_ble_eq_true rfl, Nat.le_of_ble_eq_true rfl⟩) (y_pv hF hW hS (c2 E) (e2 _ _ _ _ _ _) rfl) rfl rfl hl.1 rfl (lv_room (Nat.le_of_ble_eq_true rfl)) dL_law_657 ⟨by show cells + 0 ≤ 600000; omega, by show slots + 0 ≤ 7302250; omega⟩) hS (fun H locs hW hS => ?_)
  refine lv_aload_n hx hb dL_law_660 rfl (lv_at hl 3 rfl) ?_
  refine lv_aload_n hx hb dL_law_661 rfl (lv_at hl 1 rfl) ?_
  refine lv_iload_n hx hb dL_law_662 rfl (lv_at hl 0 rfl) ?_
  refine lv_iconst (v := 1) hx hb dL_law_663 rfl ?_
  refine lv_iadd hx hb dL_law_664 ?_
  refine va_sld hx hb hX hbl hbA hS (show vp_in (nI k + 1) L from x_in (j := 1) (by omega) hL) dL_law_665 ?_
  refine x_nmI u1 ?_
  refine lv_aload_n hx hb dL_law_666 rfl (lv_at hl 1 rfl) ?_
  refine lv_iload_n hx hb dL_law_667 rfl (lv_at hl 0 rfl) ?_
  refine lv_iconst (v := 2) hx hb dL_law_668 rfl ?_
  refine lv_iadd hx hb dL_law_669 ?_
  refine va_sld hx hb hX hbl hbA hS (show vp_in (nI k + 2) L from x_in (j := 2) (by omega) hL) dL_law_670 ?_
  refine x_nmI u2 ?_
  refine lv_aload_n hx hb dL_law_671 rfl (lv_at hl 1 rfl) ?_
  refine lv_iload_n hx hb dL_law_672 rfl (lv_at hl 0 rfl) ?_
  refine lv_iconst (v := 3) hx hb dL_law_673 rfl ?_
  refine lv_iadd hx hb dL_law_674 ?_
  refine va_sld hx hb hX hbl hbA hS (show vp_in (nI k + 3) L from x_in (j := 3) (by omega) hL) dL_law_675 ?_
  refine x_nmI u3 ?_
  refine y_i (va_runV (As := [.int y1, .int y2, .int y3]) (rest := [.int r]) hfix (m_X7_room l G B E hE S1 y1 y2 y3 r S2 f7) (cwV 3 htl gL_law_X7_room rfl rfl rfl ⟨rfl, hd_X7_room⟩ ⟨Nat.le_of_ble_eq_true rfl, Nat.le_of_ble_eq_true rfl⟩) (y_pv hF hW hS (c1 hE) (e1 _ _ _ _ _ _) rfl) rfl rfl hl.1 rfl (lv_room (Nat.le_of_ble_eq_true rfl)) dL_law_676 ⟨by show cells + 0 ≤ 600000; omega, by show slots + 0 ≤ 7302250; omega⟩) hS (fun H locs hW hS => ?_)
  refine lv_icmp_eq (tgt := 1077) hx hb dL_law_679 (by decide) (fun _ => ?_) (fun h => absurd rfl h)
  refine W.widen (k := cells + 24) (n := slots + 166) (by omega) (by omega) ?_
  exact K B E S2 H locs ls ⟨hN, hE1, hR2, hW, hS, hl⟩
set_option maxHeartbeats 4000000 in
set_option maxRecDepth 100000 in
theorem lc_summer (C0 : lw_At p s m meth c b L xs) (hF : WF G s) (hg : gB G = s.heap.size) (h : LQ G s b B E S k H locs ls) (hk : k + 6 ≤ L) (hL : L ≤ 384) (hc : cells + 24 ≤ 600000) (hs : slots + 166 ≤ 7302250)
    (K : ∀ (B2 : Nat → Nat → Nat) (E2 : EN) (S2 : ST) (H2 : Heap) (locs2 : List Loc) (ls2 : Array Slot), LQ G s b B2 E2 S2 k H2 locs2 ls2 → W p l e room_1 s m #[Value.ref b] below meth c H2 locs2 (cells + 24) (slots + 166) (lw_Z below #[Value.ref b] s) (F0 m 1077 ls2 [])) :
    W p l e room_1 s m #[Value.ref b] below meth c H locs cells slots (lw_Z below #[Value.ref b] s) (F0 m 684 ls []) := by
  obtain ⟨hx, hb, hr, hml, hown, hts, hX, hbl, hlocks, hgv⟩ := id C0
  have hb : c.code = cL_law := hb
  have hown : s.vm.findClass RL = some m.cls := hown
  obtain ⟨hN, hE1, hR, hW, hS, hl⟩ := h
  have hbA : ¬ AA G b := by
    show ¬ gB G ≤ b
    omega
  have hE : 0 < E.2.2.2 := by omega
  have hN2 : 20300 ≤ E.1 := by omega
  have htl : ∀ w ∈ wsL_law, w.before #[Value.ref b] s = true := fun w h => hts w (wsL_law_in w h)
  have hfix : CallFix p m c cL_law 4 s #[Value.ref b] wsL_law RL := ⟨hx, hb, hml, hown, htl⟩
  have hK := hF.1
  obtain ⟨y1, u1⟩ : ∃ y : Int32, y = xs (nI k + 1).toNatClampNeg := ⟨_, rfl⟩
  obtain ⟨y2, u2⟩ : ∃ y : Int32, y = xs (nI k + 2).toNatClampNeg := ⟨_, rfl⟩
  obtain ⟨r, S1, S2, f6, f7, hR2⟩ := j_summer hN2 hR y1 y2
  refine lv_aload_n hx hb dL_law_684 rfl (lv_at hl 2 rfl) ?_
  refine lv_aload_n hx hb dL_law_685 rfl (lv_at hl 1 rfl) ?_
  refine lv_iload_n hx hb dL_law_686 rfl (lv_at hl 0 rfl) ?_
  refine lv_iconst (v := 1) hx hb dL_law_687 rfl ?_
  refine lv_iadd hx hb dL_law_688 ?_
  refine va_sld hx hb hX hbl hbA hS (show vp_in (nI k + 1) L from x_in (j := 1) (by omega) hL) dL_law_689 ?_
  refine x_nmI u1 ?_
  refine lv_aload_n hx hb dL_law_690 rfl (lv_at hl 1 rfl) ?_
  refine lv_iload_n hx hb dL_law_691 rfl (lv_at hl 0 rfl) ?_
  refine lv_iconst (v := 2) hx hb dL_law_692 rfl ?_
  refine lv_iadd hx hb dL_law_693 ?_
  refine va_sld hx hb hX hbl hbA hS (show vp_in (nI k + 2) L from x_in (j := 2) (by omega) hL) dL_law_694 ?_
  refine x_nmI u2 ?_
  refine y_i (va_runV (As := [.int y1, .int y2]) (rest := []) hfix (m_X6_summer l G B E S y1 y2 r S1 f6) (cwV 2 htl gL_law_X6_summer rfl rfl rfl ⟨rfl, hd_X6_summer⟩ ⟨Nat.le_of_ble_eq_true rfl, Nat.le_of_ble_eq_true rfl⟩) (y_pv hF hW hS (c2 E) (e2 _ _ _ _ _ _) rfl) rfl rfl hl.1 rfl (lv_room (Nat.le_of_ble_eq_true rfl)) dL_law_695 ⟨by show cells + 0 ≤ 600000; omega, by show slots + 0 ≤ 7302250; omega⟩) hS (fun H locs hW hS => ?_)
  refine lv_aload_n hx hb dL_law_698 rfl (lv_at hl 3 rfl) ?_
  refine lv_aload_n hx hb dL_law_699 rfl (lv_at hl 1 rfl) ?_
  refine lv_iload_n hx hb dL_law_700 rfl (lv_at hl 0 rfl) ?_
  refine lv_iconst (v := 1) hx hb dL_law_701 rfl ?_
  refine lv_iadd hx hb dL_law_702 ?_
  refine va_sld hx hb hX hbl hbA hS (show vp_in (nI k + 1) L from x_in (j := 1) (by omega) hL) dL_law_703 ?_
  refine x_nmI u1 ?_
  refine lv_aload_n hx hb dL_law_704 rfl (lv_at hl 1 rfl) ?_
  refine lv_iload_n hx hb dL_law_705 rfl (lv_at hl 0 rfl) ?_
  refine lv_iconst (v := 2) hx hb dL_law_706 rfl ?_
  refine lv_iadd hx hb dL_law_707 ?_
  refine va_sld hx hb hX hbl hbA hS (show vp_in (nI k + 2) L from x_in (j := 2) (by omega) hL) dL_law_708 ?_
  refine x_nmI u2 ?_
  refine y_i (va_runV (As := [.int y1, .int y2]) (rest := [.int r]) hfix (m_X7_summer l G B E hE S1 y1 y2 r S2 f7) (cwV 2 htl gL_law_X7_summer rfl rfl rfl ⟨rfl, hd_X7_summer⟩ ⟨Nat.le_of_ble_eq_true rfl, Nat.le_of_ble_eq_true rfl⟩) (y_pv hF hW hS (c1 hE) (e1 _ _ _ _ _ _) rfl) rfl rfl hl.1 rfl (lv_room (Nat.le_of_ble_eq_true rfl)) dL_law_709 ⟨by show cells + 0 ≤ 600000; omega, by show slots + 0 ≤ 7302250; omega⟩) hS (fun H locs hW hS => ?_)
  refine lv_icmp_eq (tgt := 1077) hx hb dL_law_712 (by decide) (fun _ => ?_) (fun h => absurd rfl h)
  refine W.widen (k := cells + 24) (n := slots + 166) (by omega) (by omega) ?_
  exact K B E S2 H locs ls ⟨hN, hE1, hR2, hW, hS, hl⟩
set_option maxHeartbeats 4000000 in
set_option maxRecDepth 100000 in
theorem lc_test (C0 : lw_At p s m meth c b L xs) (hF : WF G s) (hg : gB G = s.heap.size) (h : LQ G s b B E S k H locs ls) (hk : k + 6 ≤ L) (hL : L ≤ 384) (hc : cells + 24 ≤ 600000) (hs : slots + 166 ≤ 7302250)
    (K : ∀ (B2 : Nat → Nat → Nat) (E2 : EN) (S2 : ST) (H2 : Heap) (locs2 : List Loc) (ls2 : Array Slot), LQ G s b B2 E2 S2 k H2 locs2 ls2 → W p l e room_1 s m #[Value.ref b] below meth c H2 locs2 (cells + 24) (slots + 166) (lw_Z below #[Value.ref b] s) (F0 m 1077 ls2 [])) :
    W p l e room_1 s m #[Value.ref b] below meth c H locs cells slots (lw_Z below #[Value.ref b] s) (F0 m 717 ls []) := by
  obtain ⟨hx, hb, hr, hml, hown, hts, hX, hbl, hlocks, hgv⟩ := id C0
  have hb : c.code = cL_law := hb
  have hown : s.vm.findClass RL = some m.cls := hown
  obtain ⟨hN, hE1, hR, hW, hS, hl⟩ := h
  have hbA : ¬ AA G b := by
    show ¬ gB G ≤ b
    omega
  have hE : 0 < E.2.2.2 := by omega
  have hN2 : 20300 ≤ E.1 := by omega
  have htl : ∀ w ∈ wsL_law, w.before #[Value.ref b] s = true := fun w h => hts w (wsL_law_in w h)
  have hfix : CallFix p m c cL_law 4 s #[Value.ref b] wsL_law RL := ⟨hx, hb, hml, hown, htl⟩
  have hK := hF.1
  obtain ⟨y1, u1⟩ : ∃ y : Int32, y = xs (nI k + 1).toNatClampNeg := ⟨_, rfl⟩
  obtain ⟨y2, u2⟩ : ∃ y : Int32, y = xs (nI k + 2).toNatClampNeg := ⟨_, rfl⟩
  obtain ⟨r, S1, S2, f6, f7, hR2⟩ := j_test hN2 hR y1 y2
  refine lv_aload_n hx hb dL_law_717 rfl (lv_at hl 2 rfl) ?_
  refine lv_aload_n hx hb dL_law_718 rfl (lv_at hl 1 rfl) ?_
  refine lv_iload_n hx hb dL_law_719 rfl (lv_at hl 0 rfl) ?_
  refine lv_iconst (v := 1) hx hb dL_law_720 rfl ?_
  refine lv_iadd hx hb dL_law_721 ?_
  refine va_sld hx hb hX hbl hbA hS (show vp_in (nI k + 1) L from x_in (j := 1) (by omega) hL) dL_law_722 ?_
  refine x_nmI u1 ?_
  refine lv_aload_n hx hb dL_law_723 rfl (lv_at hl 1 rfl) ?_
  refine lv_iload_n hx hb dL_law_724 rfl (lv_at hl 0 rfl) ?_
  refine lv_iconst (v := 2) hx hb dL_law_725 rfl ?_
  refine lv_iadd hx hb dL_law_726 ?_
  refine va_sld hx hb hX hbl hbA hS (show vp_in (nI k + 2) L from x_in (j := 2) (by omega) hL) dL_law_727 ?_
  refine x_nmI u2 ?_
  refine y_i (va_runV (As := [.int y1, .int y2]) (rest := []) hfix (m_X6_test l G B E S y1 y2 r S1 f6) (cwV 2 htl gL_law_X6_test rfl rfl rfl ⟨rfl, hd_X6_test⟩ ⟨Nat.le_of_ble_eq_true rfl, Nat.le_of_ble_eq_true rfl⟩) (y_pv hF hW hS (c2 E) (e2 _ _ _ _ _ _) rfl) rfl rfl hl.1 rfl (lv_room (Nat.le_of_ble_eq_true rfl)) dL_law_728 ⟨by show cells + 0 ≤ 600000; omega, by show slots + 0 ≤ 7302250; omega⟩) hS (fun H locs hW hS => ?_)
  refine lv_aload_n hx hb dL_law_731 rfl (lv_at hl 3 rfl) ?_
  refine lv_aload_n hx hb dL_law_732 rfl (lv_at hl 1 rfl) ?_
  refine lv_iload_n hx hb dL_law_733 rfl (lv_at hl 0 rfl) ?_
  refine lv_iconst (v := 1) hx hb dL_law_734 rfl ?_
  refine lv_iadd hx hb dL_law_735 ?_
  refine va_sld hx hb hX hbl hbA hS (show vp_in (nI k + 1) L from x_in (j := 1) (by omega) hL) dL_law_736 ?_
  refine x_nmI u1 ?_
  refine lv_aload_n hx hb dL_law_737 rfl (lv_at hl 1 rfl) ?_
  refine lv_iload_n hx hb dL_law_738 rfl (lv_at hl 0 rfl) ?_
  refine lv_iconst (v := 2) hx hb dL_law_739 rfl ?_
  refine lv_iadd hx hb dL_law_740 ?_
  refine va_sld hx hb hX hbl hbA hS (show vp_in (nI k + 2) L from x_in (j := 2) (by omega) hL) dL_law_741 ?_
  refine x_nmI u2 ?_
  refine y_i (va_runV (As := [.int y1, .int y2]) (rest := [.int r]) hfix (m_X7_test l G B E hE S1 y1 y2 r S2 f7) (cwV 2 htl gL_law_X7_test rfl rfl rfl ⟨rfl, hd_X7_test⟩ ⟨Nat.le_of_ble_eq_true rfl, Nat.le_of_ble_eq_true rfl⟩) (y_pv hF hW hS (c1 hE) (e1 _ _ _ _ _ _) rfl) rfl rfl hl.1 rfl (lv_room (Nat.le_of_ble_eq_true rfl)) dL_law_742 ⟨by show cells + 0 ≤ 600000; omega, by show slots + 0 ≤ 7302250; omega⟩) hS (fun H locs hW hS => ?_)
  refine lv_icmp_eq (tgt := 1077) hx hb dL_law_745 (by decide) (fun _ => ?_) (fun h => absurd rfl h)
  refine W.widen (k := cells + 24) (n := slots + 166) (by omega) (by omega) ?_
  exact K B E S2 H locs ls ⟨hN, hE1, hR2, hW, hS, hl⟩
set_option maxHeartbeats 4000000 in
set_option maxRecDepth 100000 in
theorem lc_cut (C0 : lw_At p s m meth c b L xs) (hF : WF G s) (hg : gB G = s.heap.size) (h : LQ G s b B E S k H locs ls) (hk : k + 6 ≤ L) (hL : L ≤ 384) (hc : cells + 24 ≤ 600000) (hs : slots + 166 ≤ 7302250)
    (K : ∀ (B2 : Nat → Nat → Nat) (E2 : EN) (S2 : ST) (H2 : Heap) (locs2 : List Loc) (ls2 : Array Slot), LQ G s b B2 E2 S2 k H2 locs2 ls2 → W p l e room_1 s m #[Value.ref b] below meth c H2 locs2 (cells + 24) (slots + 166) (lw_Z below #[Value.ref b] s) (F0 m 1077 ls2 [])) :
    W p l e room_1 s m #[Value.ref b] below meth c H locs cells slots (lw_Z below #[Value.ref b] s) (F0 m 750 ls []) := by
  obtain ⟨hx, hb, hr, hml, hown, hts, hX, hbl, hlocks, hgv⟩ := id C0
  have hb : c.code = cL_law := hb
  have hown : s.vm.findClass RL = some m.cls := hown
  obtain ⟨hN, hE1, hR, hW, hS, hl⟩ := h
  have hbA : ¬ AA G b := by
    show ¬ gB G ≤ b
    omega
  have hE : 0 < E.2.2.2 := by omega
  have hN2 : 20300 ≤ E.1 := by omega
  have htl : ∀ w ∈ wsL_law, w.before #[Value.ref b] s = true := fun w h => hts w (wsL_law_in w h)
  have hfix : CallFix p m c cL_law 4 s #[Value.ref b] wsL_law RL := ⟨hx, hb, hml, hown, htl⟩
  have hK := hF.1
  obtain ⟨y1, u1⟩ : ∃ y : Int32, y = xs (nI k + 1).toNatClampNeg := ⟨_, rfl⟩
  obtain ⟨y2, u2⟩ : ∃ y : Int32, y = xs (nI k + 2).toNatClampNeg := ⟨_, rfl⟩
  obtain ⟨y3, u3⟩ : ∃ y : Int32, y = xs (nI k + 3).toNatClampNeg := ⟨_, rfl⟩
  obtain ⟨r, f6, f7⟩ := j_cut hN2 hR y1 y2 y3
  refine lv_aload_n hx hb dL_law_750 rfl (lv_at hl 2 rfl) ?_
  refine lv_aload_n hx hb dL_law_751 rfl (lv_at hl 1 rfl) ?_
  refine lv_iload_n hx hb dL_law_752 rfl (lv_at hl 0 rfl) ?_
  refine lv_iconst (v := 1) hx hb dL_law_753 rfl ?_
  refine lv_iadd hx hb dL_law_754 ?_
  refine va_sld hx hb hX hbl hbA hS (show vp_in (nI k + 1) L from x_in (j := 1) (by omega) hL) dL_law_755 ?_
  refine x_nmI u1 ?_
  refine lv_aload_n hx hb dL_law_756 rfl (lv_at hl 1 rfl) ?_
  refine lv_iload_n hx hb dL_law_757 rfl (lv_at hl 0 rfl) ?_
  refine lv_iconst (v := 2) hx hb dL_law_758 rfl ?_
  refine lv_iadd hx hb dL_law_759 ?_
  refine va_sld hx hb hX hbl hbA hS (show vp_in (nI k + 2) L from x_in (j := 2) (by omega) hL) dL_law_760 ?_
  refine x_nmI u2 ?_
  refine lv_aload_n hx hb dL_law_761 rfl (lv_at hl 1 rfl) ?_
  refine lv_iload_n hx hb dL_law_762 rfl (lv_at hl 0 rfl) ?_
  refine lv_iconst (v := 3) hx hb dL_law_763 rfl ?_
  refine lv_iadd hx hb dL_law_764 ?_
  refine va_sld hx hb hX hbl hbA hS (show vp_in (nI k + 3) L from x_in (j := 3) (by omega) hL) dL_law_765 ?_
  refine x_nmI u3 ?_
  refine y_i (va_runV (As := [.int y1, .int y2, .int y3]) (rest := []) hfix (m_X6_cut l G B E S y1 y2 y3 r f6) (cwV 3 htl gL_law_X6_cut rfl rfl rfl ⟨rfl, hd_X6_cut⟩ ⟨Nat.le_of_ble_eq_true rfl, Nat.le_of_ble_eq_true rfl⟩) (y_pv hF hW hS (c2 E) (e2 _ _ _ _ _ _) rfl) rfl rfl hl.1 rfl (lv_room (Nat.le_of_ble_eq_true rfl)) dL_law_766 ⟨by show cells + 0 ≤ 600000; omega, by show slots + 0 ≤ 7302250; omega⟩) hS (fun H locs hW hS => ?_)
  refine lv_aload_n hx hb dL_law_769 rfl (lv_at hl 3 rfl) ?_
  refine lv_aload_n hx hb dL_law_770 rfl (lv_at hl 1 rfl) ?_
  refine lv_iload_n hx hb dL_law_771 rfl (lv_at hl 0 rfl) ?_
  refine lv_iconst (v := 1) hx hb dL_law_772 rfl ?_
  refine lv_iadd hx hb dL_law_773 ?_
  refine va_sld hx hb hX hbl hbA hS (show vp_in (nI k + 1) L from x_in (j := 1) (by omega) hL) dL_law_774 ?_
  refine x_nmI u1 ?_
  refine lv_aload_n hx hb dL_law_775 rfl (lv_at hl 1 rfl) ?_
  refine lv_iload_n hx hb dL_law_776 rfl (lv_at hl 0 rfl) ?_
  refine lv_iconst (v := 2) hx hb dL_law_777 rfl ?_
  refine lv_iadd hx hb dL_law_778 ?_
  refine va_sld hx hb hX hbl hbA hS (show vp_in (nI k + 2) L from x_in (j := 2) (by omega) hL) dL_law_779 ?_
  refine x_nmI u2 ?_
  refine lv_aload_n hx hb dL_law_780 rfl (lv_at hl 1 rfl) ?_
  refine lv_iload_n hx hb dL_law_781 rfl (lv_at hl 0 rfl) ?_
  refine lv_iconst (v := 3) hx hb dL_law_782 rfl ?_
  refine lv_iadd hx hb dL_law_783 ?_
  refine va_sld hx hb hX hbl hbA hS (show vp_in (nI k + 3) L from x_in (j := 3) (by omega) hL) dL_law_784 ?_
  refine x_nmI u3 ?_
  refine y_i (va_runV (As := [.int y1, .int y2, .int y3]) (rest := [.int r]) hfix (m_X7_cut l G B E hE S y1 y2 y3 r f7) (cwV 3 htl gL_law_X7_cut rfl rfl rfl ⟨rfl, hd_X7_cut⟩ ⟨Nat.le_of_ble_eq_true rfl, Nat.le_of_ble_eq_true rfl⟩) (y_pv hF hW hS (c1 hE) (e1 _ _ _ _ _ _) rfl) rfl rfl hl.1 rfl (lv_room (Nat.le_of_ble_eq_true rfl)) dL_law_785 ⟨by show cells + 0 ≤ 600000; omega, by show slots + 0 ≤ 7302250; omega⟩) hS (fun H locs hW hS => ?_)
  refine lv_icmp_eq (tgt := 1077) hx hb dL_law_788 (by decide) (fun _ => ?_) (fun h => absurd rfl h)
  refine W.widen (k := cells + 24) (n := slots + 166) (by omega) (by omega) ?_
  exact K B E S H locs ls ⟨hN, hE1, hR, hW, hS, hl⟩
end LAWC
