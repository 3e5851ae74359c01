/-! THE LAW: its cases (by program: wip/whole/gen/law.py) -/
section LAWC
variable {p : Program} {l : Launch} {e : Env} {s : State} {m : MethodId} {below : List Frame} {meth : Method} {c : Code} {H : Heap} {locs : List Loc} {cells slots : Nat} {ls : Array Slot}
variable {b L k : Nat} {xs : Nat → Int32} {G : GE} {B : Nat → Nat → Nat} {E : EN} {S : ST}
set_option maxHeartbeats 4000000 in
set_option maxRecDepth 100000 in
theorem lc_image (C0 : lw_At p s m meth c b L xs) (hF : WF G s) (hg : gB G = s.heap.size) (h : LQ G s b B E S k H locs ls) (hk : k + 6 ≤ L) (hL : L ≤ 384) (hc : cells + 24 ≤ 600000) (hs : slots + 166 ≤ 7302250)
    (K : ∀ (B2 : Nat → Nat → Nat) (E2 : EN) (S2 : ST) (H2 : Heap) (locs2 : List Loc) (ls2 : Array Slot), LQ G s b B2 E2 S2 k H2 locs2 ls2 → W p l e room_1 s m #[Value.ref b] below meth c H2 locs2 (cells + 24) (slots + 166) (lw_Z below #[Value.ref b] s) (F0 m 1077 ls2 [])) :
    W p l e room_1 s m #[Value.ref b] below meth c H locs cells slots (lw_Z below #[Value.ref b] s) (F0 m 793 ls []) := by
  obtain ⟨hx, hb, hr, hml, hown, hts, hX, hbl, hlocks, hgv⟩ := id C0
  have hb : c.code = cL_law := hb
  have hown : s.vm.findClass RL = some m.cls := hown
  obtain ⟨hN, hE1, hR, hW, hS, hl⟩ := h
  have hbA : ¬ AA G b := by
    show ¬ gB G ≤ b
    omega
  have hE : 0 < E.2.2.2 := by omega
  have hN2 : 20300 ≤ E.1 := by omega
  have htl : ∀ w ∈ wsL_law, w.before #[Value.ref b] s = true := fun w h => hts w (wsL_law_in w h)
  have hfix : CallFix p m c cL_law 4 s #[Value.ref b] wsL_law RL := ⟨hx, hb, hml, hown, htl⟩
  have hK := hF.1
  obtain ⟨r, S1, S2, f6, f7, hR2⟩ := j_image hN2 hR 
  refine lv_aload_n hx hb dL_law_793 rfl (lv_at hl 2 rfl) ?_
  refine y_i (va_runV (As := []) (rest := []) hfix (m_X6_image l G B E S  r S1 f6) (cwV 0 htl gL_law_X6_image rfl rfl rfl ⟨rfl, hd_X6_image⟩ ⟨Nat.le_of_ble_eq_true rfl, Nat.le_of_ble_eq_true rfl⟩) (y_pv hF hW hS (c2 E) (e2 _ _ _ _ _ _) rfl) rfl rfl hl.1 rfl (lv_room (Nat.le_of_ble_eq_true rfl)) dL_law_794 ⟨by show cells + 0 ≤ 600000; omega, by show slots + 0 ≤ 7302250; omega⟩) hS (fun H locs hW hS => ?_)
  refine lv_aload_n hx hb dL_law_797 rfl (lv_at hl 3 rfl) ?_
  refine y_i (va_runV (As := []) (rest := [.int r]) hfix (m_X7_image l G B E hE S1  r S2 f7) (cwV 0 htl gL_law_X7_image rfl rfl rfl ⟨rfl, hd_X7_image⟩ ⟨Nat.le_of_ble_eq_true rfl, Nat.le_of_ble_eq_true rfl⟩) (y_pv hF hW hS (c1 hE) (e1 _ _ _ _ _ _) rfl) rfl rfl hl.1 rfl (lv_room (Nat.le_of_ble_eq_true rfl)) dL_law_798 ⟨by show cells + 0 ≤ 600000; omega, by show slots + 0 ≤ 7302250; omega⟩) hS (fun H locs hW hS => ?_)
  refine lv_icmp_eq (tgt := 1077) hx hb dL_law_801 (by decide) (fun _ => ?_) (fun h => absurd rfl h)
  refine W.widen (k := cells + 24) (n := slots + 166) (by omega) (by omega) ?_
  exact K B E S2 H locs ls ⟨hN, hE1, hR2, hW, hS, hl⟩
set_option maxHeartbeats 4000000 in
set_option maxRecDepth 100000 in
theorem lc_back (C0 : lw_At p s m meth c b L xs) (hF : WF G s) (hg : gB G = s.heap.size) (h : LQ G s b B E S k H locs ls) (hk : k + 6 ≤ L) (hL : L ≤ 384) (hc : cells + 24 ≤ 600000) (hs : slots + 166 ≤ 7302250)
    (K : ∀ (B2 : Nat → Nat → Nat) (E2 : EN) (S2 : ST) (H2 : Heap) (locs2 : List Loc) (ls2 : Array Slot), LQ G s b B2 E2 S2 k H2 locs2 ls2 → W p l e room_1 s m #[Value.ref b] below meth c H2 locs2 (cells + 24) (slots + 166) (lw_Z below #[Value.ref b] s) (F0 m 1077 ls2 [])) :
    W p l e room_1 s m #[Value.ref b] below meth c H locs cells slots (lw_Z below #[Value.ref b] s) (F0 m 806 ls []) := by
  obtain ⟨hx, hb, hr, hml, hown, hts, hX, hbl, hlocks, hgv⟩ := id C0
  have hb : c.code = cL_law := hb
  have hown : s.vm.findClass RL = some m.cls := hown
  obtain ⟨hN, hE1, hR, hW, hS, hl⟩ := h
  have hbA : ¬ AA G b := by
    show ¬ gB G ≤ b
    omega
  have hE : 0 < E.2.2.2 := by omega
  have hN2 : 20300 ≤ E.1 := by omega
  have htl : ∀ w ∈ wsL_law, w.before #[Value.ref b] s = true := fun w h => hts w (wsL_law_in w h)
  have hfix : CallFix p m c cL_law 4 s #[Value.ref b] wsL_law RL := ⟨hx, hb, hml, hown, htl⟩
  have hK := hF.1
  obtain ⟨r, S1, S2, f6, f7, hR2⟩ := j_back hN2 hR 
  refine lv_aload_n hx hb dL_law_806 rfl (lv_at hl 2 rfl) ?_
  refine y_i (va_runV (As := []) (rest := []) hfix (m_X6_back l G B E S  r S1 f6) (cwV 0 htl gL_law_X6_back rfl rfl rfl ⟨rfl, hd_X6_back⟩ ⟨Nat.le_of_ble_eq_true rfl, Nat.le_of_ble_eq_true rfl⟩) (y_pv hF hW hS (c2 E) (e2 _ _ _ _ _ _) rfl) rfl rfl hl.1 rfl (lv_room (Nat.le_of_ble_eq_true rfl)) dL_law_807 ⟨by show cells + 0 ≤ 600000; omega, by show slots + 0 ≤ 7302250; omega⟩) hS (fun H locs hW hS => ?_)
  refine lv_aload_n hx hb dL_law_810 rfl (lv_at hl 3 rfl) ?_
  refine y_i (va_runV (As := []) (rest := [.int r]) hfix (m_X7_back l G B E hE S1  r S2 f7) (cwV 0 htl gL_law_X7_back rfl rfl rfl ⟨rfl, hd_X7_back⟩ ⟨Nat.le_of_ble_eq_true rfl, Nat.le_of_ble_eq_true rfl⟩) (y_pv hF hW hS (c1 hE) (e1 _ _ _ _ _ _) rfl) rfl rfl hl.1 rfl (lv_room (Nat.le_of_ble_eq_true rfl)) dL_law_811 ⟨by show cells + 0 ≤ 600000; omega, by show slots + 0 ≤ 7302250; omega⟩) hS (fun H locs hW hS => ?_)
  refine lv_icmp_eq (tgt := 1077) hx hb dL_law_814 (by decide) (fun _ => ?_) (fun h => absurd rfl h)
  refine W.widen (k := cells + 24) (n := slots + 166) (by omega) (by omega) ?_
  exact K B E S2 H locs ls ⟨hN, hE1, hR2, hW, hS, hl⟩
set_option maxHeartbeats 4000000 in
set_option maxRecDepth 100000 in
theorem lc_count (C0 : lw_At p s m meth c b L xs) (hF : WF G s) (hg : gB G = s.heap.size) (h : LQ G s b B E S k H locs ls) (hk : k + 6 ≤ L) (hL : L ≤ 384) (hc : cells + 24 ≤ 600000) (hs : slots + 166 ≤ 7302250)
    (K : ∀ (B2 : Nat → Nat → Nat) (E2 : EN) (S2 : ST) (H2 : Heap) (locs2 : List Loc) (ls2 : Array Slot), LQ G s b B2 E2 S2 k H2 locs2 ls2 → W p l e room_1 s m #[Value.ref b] below meth c H2 locs2 (cells + 24) (slots + 166) (lw_Z below #[Value.ref b] s) (F0 m 1077 ls2 [])) :
    W p l e room_1 s m #[Value.ref b] below meth c H locs cells slots (lw_Z below #[Value.ref b] s) (F0 m 819 ls []) := by
  obtain ⟨hx, hb, hr, hml, hown, hts, hX, hbl, hlocks, hgv⟩ := id C0
  have hb : c.code = cL_law := hb
  have hown : s.vm.findClass RL = some m.cls := hown
  obtain ⟨hN, hE1, hR, hW, hS, hl⟩ := h
  have hbA : ¬ AA G b := by
    show ¬ gB G ≤ b
    omega
  have hE : 0 < E.2.2.2 := by omega
  have hN2 : 20300 ≤ E.1 := by omega
  have htl : ∀ w ∈ wsL_law, w.before #[Value.ref b] s = true := fun w h => hts w (wsL_law_in w h)
  have hfix : CallFix p m c cL_law 4 s #[Value.ref b] wsL_law RL := ⟨hx, hb, hml, hown, htl⟩
  have hK := hF.1
  obtain ⟨y1, u1⟩ : ∃ y : Int32, y = xs (nI k + 1).toNatClampNeg := ⟨_, rfl⟩
  obtain ⟨r, f6, f7⟩ := j_count hN2 hR y1
  refine lv_aload_n hx hb dL_law_819 rfl (lv_at hl 2 rfl) ?_
  refine lv_aload_n hx hb dL_law_820 rfl (lv_at hl 1 rfl) ?_
  refine lv_iload_n hx hb dL_law_821 rfl (lv_at hl 0 rfl) ?_
  refine lv_iconst (v := 1) hx hb dL_law_822 rfl ?_
  refine lv_iadd hx hb dL_law_823 ?_
  refine va_sld hx hb hX hbl hbA hS (show vp_in (nI k + 1) L from x_in (j := 1) (by omega) hL) dL_law_824 ?_
  refine x_nmI u1 ?_
  refine y_i (va_runV (As := [.int y1]) (rest := []) hfix (m_X6_count l G B E S y1 r f6) (cwV 1 htl gL_law_X6_count rfl rfl rfl ⟨rfl, hd_X6_count⟩ ⟨Nat.le_of_ble_eq_true rfl, Nat.le_of_ble_eq_true rfl⟩) (y_pv hF hW hS (c2 E) (e2 _ _ _ _ _ _) rfl) rfl rfl hl.1 rfl (lv_room (Nat.le_of_ble_eq_true rfl)) dL_law_825 ⟨by show cells + 0 ≤ 600000; omega, by show slots + 0 ≤ 7302250; omega⟩) hS (fun H locs hW hS => ?_)
  refine lv_aload_n hx hb dL_law_828 rfl (lv_at hl 3 rfl) ?_
  refine lv_aload_n hx hb dL_law_829 rfl (lv_at hl 1 rfl) ?_
  refine lv_iload_n hx hb dL_law_830 rfl (lv_at hl 0 rfl) ?_
  refine lv_iconst (v := 1) hx hb dL_law_831 rfl ?_
  refine lv_iadd hx hb dL_law_832 ?_
  refine va_sld hx hb hX hbl hbA hS (show vp_in (nI k + 1) L from x_in (j := 1) (by omega) hL) dL_law_833 ?_
  refine x_nmI u1 ?_
  refine y_i (va_runV (As := [.int y1]) (rest := [.int r]) hfix (m_X7_count l G B E hE S y1 r f7) (cwV 1 htl gL_law_X7_count rfl rfl rfl ⟨rfl, hd_X7_count⟩ ⟨Nat.le_of_ble_eq_true rfl, Nat.le_of_ble_eq_true rfl⟩) (y_pv hF hW hS (c1 hE) (e1 _ _ _ _ _ _) rfl) rfl rfl hl.1 rfl (lv_room (Nat.le_of_ble_eq_true rfl)) dL_law_834 ⟨by show cells + 0 ≤ 600000; omega, by show slots + 0 ≤ 7302250; omega⟩) hS (fun H locs hW hS => ?_)
  refine lv_icmp_eq (tgt := 1077) hx hb dL_law_837 (by decide) (fun _ => ?_) (fun h => absurd rfl h)
  refine W.widen (k := cells + 24) (n := slots + 166) (by omega) (by omega) ?_
  exact K B E S H locs ls ⟨hN, hE1, hR, hW, hS, hl⟩
set_option maxHeartbeats 4000000 in
set_option maxRecDepth 100000 in
theorem lc_sheet (C0 : lw_At p s m meth c b L xs) (hF : WF G s) (hg : gB G = s.heap.size) (h : LQ G s b B E S k H locs ls) (hk : k + 6 ≤ L) (hL : L ≤ 384) (hc : cells + 24 ≤ 600000) (hs : slots + 166 ≤ 7302250)
    (K : ∀ (B2 : Nat → Nat → Nat) (E2 : EN) (S2 : ST) (H2 : Heap) (locs2 : List Loc) (ls2 : Array Slot), LQ G s b B2 E2 S2 k H2 locs2 ls2 → W p l e room_1 s m #[Value.ref b] below meth c H2 locs2 (cells + 24) (slots + 166) (lw_Z below #[Value.ref b] s) (F0 m 1077 ls2 [])) :
    W p l e room_1 s m #[Value.ref b] below meth c H locs cells slots (lw_Z below #[Value.ref b] s) (F0 m 842 ls []) := by
  obtain ⟨hx, hb, hr, hml, hown, hts, hX, hbl, hlocks, hgv⟩ := id C0
  have hb : c.code = cL_law := hb
  have hown : s.vm.findClass RL = some m.cls := hown
  obtain ⟨hN, hE1, hR, hW, hS, hl⟩ := h
  have hbA : ¬ AA G b := by
    show ¬ gB G ≤ b
    omega
  have hE : 0 < E.2.2.2 := by omega
  have hN2 : 20300 ≤ E.1 := by omega
  have htl : ∀ w ∈ wsL_law, w.before #[Value.ref b] s = true := fun w h => hts w (wsL_law_in w h)
  have hfix : CallFix p m c cL_law 4 s #[Value.ref b] wsL_law RL := ⟨hx, hb, hml, hown, htl⟩
  have hK := hF.1
  obtain ⟨y1, u1⟩ : ∃ y : Int32, y = xs (nI k + 1).toNatClampNeg := ⟨_, rfl⟩
  obtain ⟨y2, u2⟩ : ∃ y : Int32, y = xs (nI k + 2).toNatClampNeg := ⟨_, rfl⟩
  obtain ⟨y3, u3⟩ : ∃ y : Int32, y = xs (nI k + 3).toNatClampNeg := ⟨_, rfl⟩
  obtain ⟨r, S1, S2, f6, f7, hR2⟩ := j_sheet hN2 hR y1 y2 y3
  refine lv_aload_n hx hb dL_law_842 rfl (lv_at hl 2 rfl) ?_
  refine lv_aload_n hx hb dL_law_843 rfl (lv_at hl 1 rfl) ?_
  refine lv_iload_n hx hb dL_law_844 rfl (lv_at hl 0 rfl) ?_
  refine lv_iconst (v := 1) hx hb dL_law_845 rfl ?_
  refine lv_iadd hx hb dL_law_846 ?_
  refine va_sld hx hb hX hbl hbA hS (show vp_in (nI k + 1) L from x_in (j := 1) (by omega) hL) dL_law_847 ?_
  refine x_nmI u1 ?_
  refine lv_aload_n hx hb dL_law_848 rfl (lv_at hl 1 rfl) ?_
  refine lv_iload_n hx hb dL_law_849 rfl (lv_at hl 0 rfl) ?_
  refine lv_iconst (v := 2) hx hb dL_law_850 rfl ?_
  refine lv_iadd hx hb dL_law_851 ?_
  refine va_sld hx hb hX hbl hbA hS (show vp_in (nI k + 2) L from x_in (j := 2) (by omega) hL) dL_law_852 ?_
  refine x_nmI u2 ?_
  refine lv_aload_n hx hb dL_law_853 rfl (lv_at hl 1 rfl) ?_
  refine lv_iload_n hx hb dL_law_854 rfl (lv_at hl 0 rfl) ?_
  refine lv_iconst (v := 3) hx hb dL_law_855 rfl ?_
  refine lv_iadd hx hb dL_law_856 ?_
  refine va_sld hx hb hX hbl hbA hS (show vp_in (nI k + 3) L from x_in (j := 3) (by omega) hL) dL_law_857 ?_
  refine x_nmI u3 ?_
  refine y_i (va_runV (As := [.int y1, .int y2, .int y3]) (rest := []) hfix (m_X6_sheet l G B E S y1 y2 y3 r S1 f6) (cwV 3 htl gL_law_X6_sheet rfl rfl rfl ⟨rfl, hd_X6_sheet⟩ ⟨Nat.le_of_ble_eq_true rfl, Nat.le_of_ble_eq_true rfl⟩) (y_pv hF hW hS (c2 E) (e2 _ _ _ _ _ _) rfl) rfl rfl hl.1 rfl (lv_room (Nat.le_of_ble_eq_true rfl)) dL_law_858 ⟨by show cells + 0 ≤ 600000; omega, by show slots + 0 ≤ 7302250; omega⟩) hS (fun H locs hW hS => ?_)
  refine lv_aload_n hx hb dL_law_861 rfl (lv_at hl 3 rfl) ?_
  refine lv_aload_n hx hb dL_law_862 rfl (lv_at hl 1 rfl) ?_
  refine lv_iload_n hx hb dL_law_863 rfl (lv_at hl 0 rfl) ?_
  refine lv_iconst (v := 1) hx hb dL_law_864 rfl ?_
  refine lv_iadd hx hb dL_law_865 ?_
  refine va_sld hx hb hX hbl hbA hS (show vp_in (nI k + 1) L from x_in (j := 1) (by omega) hL) dL_law_866 ?_
  refine x_nmI u1 ?_
  refine lv_aload_n hx hb dL_law_867 rfl (lv_at hl 1 rfl) ?_
  refine lv_iload_n hx hb dL_law_868 rfl (lv_at hl 0 rfl) ?_
  refine lv_iconst (v := 2) hx hb dL_law_869 rfl ?_
  refine lv_iadd hx hb dL_law_870 ?_
  refine va_sld hx hb hX hbl hbA hS (show vp_in (nI k + 2) L from x_in (j := 2) (by omega) hL) dL_law_871 ?_
  refine x_nmI u2 ?_
  refine lv_aload_n hx hb dL_law_872 rfl (lv_at hl 1 rfl) ?_
  refine lv_iload_n hx hb dL_law_873 rfl (lv_at hl 0 rfl) ?_
  refine lv_iconst (v := 3) hx hb dL_law_874 rfl ?_
  refine lv_iadd hx hb dL_law_875 ?_
  refine va_sld hx hb hX hbl hbA hS (show vp_in (nI k + 3) L from x_in (j := 3) (by omega) hL) dL_law_876 ?_
  refine x_nmI u3 ?_
  refine y_i (va_runV (As := [.int y1, .int y2, .int y3]) (rest := [.int r]) hfix (m_X7_sheet l G B E hE S1 y1 y2 y3 r S2 f7) (cwV 3 htl gL_law_X7_sheet rfl rfl rfl ⟨rfl, hd_X7_sheet⟩ ⟨Nat.le_of_ble_eq_true rfl, Nat.le_of_ble_eq_true rfl⟩) (y_pv hF hW hS (c1 hE) (e1 _ _ _ _ _ _) rfl) rfl rfl hl.1 rfl (lv_room (Nat.le_of_ble_eq_true rfl)) dL_law_877 ⟨by show cells + 0 ≤ 600000; omega, by show slots + 0 ≤ 7302250; omega⟩) hS (fun H locs hW hS => ?_)
  refine lv_icmp_eq (tgt := 1077) hx hb dL_law_880 (by decide) (fun _ => ?_) (fun h => absurd rfl h)
  refine W.widen (k := cells + 24) (n := slots + 166) (by omega) (by omega) ?_
  exact K B E S2 H locs ls ⟨hN, hE1, hR2, hW, hS, hl⟩
set_option maxHeartbeats 4000000 in
set_option maxRecDepth 100000 in
theorem lc_cell (C0 : lw_At p s m meth c b L xs) (hF : WF G s) (hg : gB G = s.heap.size) (h : LQ G s b B E S k H locs ls) (hk : k + 6 ≤ L) (hL : L ≤ 384) (hc : cells + 24 ≤ 600000) (hs : slots + 166 ≤ 7302250)
    (K : ∀ (B2 : Nat → Nat → Nat) (E2 : EN) (S2 : ST) (H2 : Heap) (locs2 : List Loc) (ls2 : Array Slot), LQ G s b B2 E2 S2 k H2 locs2 ls2 → W p l e room_1 s m #[Value.ref b] below meth c H2 locs2 (cells + 24) (slots + 166) (lw_Z below #[Value.ref b] s) (F0 m 1077 ls2 [])) :
    W p l e room_1 s m #[Value.ref b] below meth c H locs cells slots (lw_Z below #[Value.ref b] s) (F0 m 885 ls []) := by
  obtain ⟨hx, hb, hr, hml, hown, hts, hX, hbl, hlocks, hgv⟩ := id C0
  have hb : c.code = cL_law := hb
  have hown : s.vm.findClass RL = some m.cls := hown
  obtain ⟨hN, hE1, hR, hW, hS, hl⟩ := h
  have hbA : ¬ AA G b := by
    show ¬ gB G ≤ b
    omega
  have hE : 0 < E.2.2.2 := by omega
  have hN2 : 20300 ≤ E.1 := by omega
  have htl : ∀ w ∈ wsL_law, w.before #[Value.ref b] s = true := fun w h => hts w (wsL_law_in w h)
  have hfix : CallFix p m c cL_law 4 s #[Value.ref b] wsL_law RL := ⟨hx, hb, hml, hown, htl⟩
  have hK := hF.1
  obtain ⟨y1, u1⟩ : ∃ y : Int32, y = xs (nI k + 1).toNatClampNeg := ⟨_, rfl⟩
  obtain ⟨y2, u2⟩ : ∃ y : Int32, y = xs (nI k + 2).toNatClampNeg := ⟨_, rfl⟩
  obtain ⟨y3, u3⟩ : ∃ y : Int32, y = xs (nI k + 3).toNatClampNeg := ⟨_, rfl⟩
  obtain ⟨r, S1, S2, f6, f7, hR2⟩ := j_cell hN2 hR y1 y2 y3
  refine lv_aload_n hx hb dL_law_885 rfl (lv_at hl 2 rfl) ?_
  refine lv_aload_n hx hb dL_law_886 rfl (lv_at hl 1 rfl) ?_
  refine lv_iload_n hx hb dL_law_887 rfl (lv_at hl 0 rfl) ?_
  refine lv_iconst (v := 1) hx hb dL_law_888 rfl ?_
  refine lv_iadd hx hb dL_law_889 ?_
  refine va_sld hx hb hX hbl hbA hS (show vp_in (nI k + 1) L from x_in (j := 1) (by omega) hL) dL_law_890 ?_
  refine x_nmI u1 ?_
  refine lv_aload_n hx hb dL_law_891 rfl (lv_at hl 1 rfl) ?_
  refine lv_iload_n hx hb dL_law_892 rfl (lv_at hl 0 rfl) ?_
  refine lv_iconst (v := 2) hx hb dL_law_893 rfl ?_
  refine lv_iadd hx hb dL_law_894 ?_
  refine va_sld hx hb hX hbl hbA hS (show vp_in (nI k + 2) L from x_in (j := 2) (by omega) hL) dL_law_895 ?_
  refine x_nmI u2 ?_
  refine lv_aload_n hx hb dL_law_896 rfl (lv_at hl 1 rfl) ?_
  refine lv_iload_n hx hb dL_law_897 rfl (lv_at hl 0 rfl) ?_
  refine lv_iconst (v := 3) hx hb dL_law_898 rfl ?_
  refine lv_iadd hx hb dL_law_899 ?_
  refine va_sld hx hb hX hbl hbA hS (show vp_in (nI k + 3) L from x_in (j := 3) (by omega) hL) dL_law_900 ?_
  refine x_nmI u3 ?_
  refine y_i (va_runV (As := [.int y1, .int y2, .int y3]) (rest := []) hfix (m_X6_cell l G B E S y1 y2 y3 r S1 f6) (cwV 3 htl gL_law_X6_cell rfl rfl rfl ⟨rfl, hd_X6_cell⟩ ⟨Nat.le_of_ble_eq_true rfl, Nat.le_of_ble_eq_true rfl⟩) (y_pv hF hW hS (c2 E) (e2 _ _ _ _ _ _) rfl) rfl rfl hl.1 rfl (lv_room (Nat.le_of_ble_eq_true rfl)) dL_law_901 ⟨by show cells + 0 ≤ 600000; omega, by show slots + 0 ≤ 7302250; omega⟩) hS (fun H locs hW hS => ?_)
  refine lv_aload_n hx hb dL_law_904 rfl (lv_at hl 3 rfl) ?_
  refine lv_aload_n hx hb dL_law_905 rfl (lv_at hl 1 rfl) ?_
  refine lv_iload_n hx hb dL_law_906 rfl (lv_at hl 0 rfl) ?_
  refine lv_iconst (v := 1) hx hb dL_law_907 rfl ?_
  refine lv_iadd hx hb dL_law_908 ?_
  refine va_sld hx hb hX hbl hbA hS (show vp_in (nI k + 1) L from x_in (j := 1) (by omega) hL) dL_law_909 ?_
  refine x_nmI u1 ?_
  refine lv_aload_n hx hb dL_law_910 rfl (lv_at hl 1 rfl) ?_
  refine lv_iload_n hx hb dL_law_911 rfl (lv_at hl 0 rfl) ?_
  refine lv_iconst (v := 2) hx hb dL_law_912 rfl ?_
  refine lv_iadd hx hb dL_law_913 ?_
  refine va_sld hx hb hX hbl hbA hS (show vp_in (nI k + 2) L from x_in (j := 2) (by omega) hL) dL_law_914 ?_
  refine x_nmI u2 ?_
  refine lv_aload_n hx hb dL_law_915 rfl (lv_at hl 1 rfl) ?_
  refine lv_iload_n hx hb dL_law_916 rfl (lv_at hl 0 rfl) ?_
  refine lv_iconst (v := 3) hx hb dL_law_917 rfl ?_
  refine lv_iadd hx hb dL_law_918 ?_
  refine va_sld hx hb hX hbl hbA hS (show vp_in (nI k + 3) L from x_in (j := 3) (by omega) hL) dL_law_919 ?_
  refine x_nmI u3 ?_
  refine y_i (va_runV (As := [.int y1, .int y2, .int y3]) (rest := [.int r]) hfix (m_X7_cell l G B E hE S1 y1 y2 y3 r S2 f7) (cwV 3 htl gL_law_X7_cell rfl rfl rfl ⟨rfl, hd_X7_cell⟩ ⟨Nat.le_of_ble_eq_true rfl, Nat.le_of_ble_eq_true rfl⟩) (y_pv hF hW hS (c1 hE) (e1 _ _ _ _ _ _) rfl) rfl rfl hl.1 rfl (lv_room (Nat.le_of_ble_eq_true rfl)) dL_law_920 ⟨by show cells + 0 ≤ 600000; omega, by show slots + 0 ≤ 7302250; omega⟩) hS (fun H locs hW hS => ?_)
  refine lv_icmp_eq (tgt := 1077) hx hb dL_law_923 (by decide) (fun _ => ?_) (fun h => absurd rfl h)
  refine W.widen (k := cells + 24) (n := slots + 166) (by omega) (by omega) ?_
  exact K B E S2 H locs ls ⟨hN, hE1, hR2, hW, hS, hl⟩
set_option maxHeartbeats 4000000 in
set_option maxRecDepth 100000 in
theorem lc_copy (C0 : lw_At p s m meth c b L xs) (hF : WF G s) (hg : gB G = s.heap.size) (h : LQ G s b B E S k H locs ls) (hk : k + 6 ≤ L) (hL : L ≤ 384) (hc : cells + 24 ≤ 600000) (hs : slots + 166 ≤ 7302250)
    (K : ∀ (B2 : Nat → Nat → Nat) (E2 : EN) (S2 : ST) (H2 : Heap) (locs2 : List Loc) (ls2 : Array Slot), LQ G s b B2 E2 S2 k H2 locs2 ls2 → W p l e room_1 s m #[Value.ref b] below meth c H2 locs2 (cells + 24) (slots + 166) (lw_Z below #[Value.ref b] s) (F0 m 1077 ls2 [])) :
    W p l e room_1 s m #[Value.ref b] below meth c H locs cells slots (lw_Z below #[Value.ref b] s) (F0 m 928 ls []) := by
  obtain ⟨hx, hb, hr, hml, hown, hts, hX, hbl, hlocks, hgv⟩ := id C0
  have hb : c.code = cL_law := hb
  have hown : s.vm.findClass RL = some m.cls := hown
  obtain ⟨hN, hE1, hR, hW, hS, hl⟩ := h
  have hbA : ¬ AA G b := by
    show ¬ gB G ≤ b
    omega
  have hE : 0 < E.2.2.2 := by omega
  have hN2 : 20300 ≤ E.1 := by omega
  have htl : ∀ w ∈ wsL_law, w.before #[Value.ref b] s = true := fun w h => hts w (wsL_law_in w h)
  have hfix : CallFix p m c cL_law 4 s #[Value.ref b] wsL_law RL := ⟨hx, hb, hml, hown, htl⟩
  have hK := hF.1
  obtain ⟨y1, u1⟩ : ∃ y : Int32, y = xs (nI k + 1).toNatClampNeg := ⟨_, rfl⟩
  obtain ⟨y2, u2⟩ : ∃ y : Int32, y = xs (nI k + 2).toNatClampNeg := ⟨_, rfl⟩
  obtain ⟨y3, u3⟩ : ∃ y : Int32, y = xs (nI k + 3).toNatClampNeg := ⟨_, rfl⟩
  obtain ⟨y4, u4⟩ : ∃ y : Int32, y = xs (nI k + 4).toNatClampNeg := ⟨_, rfl⟩
  obtain ⟨y5, u5⟩ : ∃ y : Int32, y = xs (nI k + 5).toNatClampNeg := ⟨_, rfl⟩
  obtain ⟨r, S1, S2, f6, f7, hR2⟩ := j_copy hN2 hR y1 y2 y3 y4 y5
  refine lv_aload_n hx hb dL_law_928 rfl (lv_at hl 2 rfl) ?_
  refine lv_aload_n hx hb dL_law_929 rfl (lv_at hl 1 rfl) ?_
  refine lv_iload_n hx hb dL_law_930 rfl (lv_at hl 0 rfl) ?_
  refine lv_iconst (v := 1) hx hb dL_law_931 rfl ?_
  refine lv_iadd hx hb dL_law_932 ?_
  refine va_sld hx hb hX hbl hbA hS (show vp_in (nI k + 1) L from x_in (j := 1) (by omega) hL) dL_law_933 ?_
  refine x_nmI u1 ?_
  refine lv_aload_n hx hb dL_law_934 rfl (lv_at hl 1 rfl) ?_
  refine lv_iload_n hx hb dL_law_935 rfl (lv_at hl 0 rfl) ?_
  refine lv_iconst (v := 2) hx hb dL_law_936 rfl ?_
  refine lv_iadd hx hb dL_law_937 ?_
  refine va_sld hx hb hX hbl hbA hS (show vp_in (nI k + 2) L from x_in (j := 2) (by omega) hL) dL_law_938 ?_
  refine x_nmI u2 ?_
  refine lv_aload_n hx hb dL_law_939 rfl (lv_at hl 1 rfl) ?_
  refine lv_iload_n hx hb dL_law_940 rfl (lv_at hl 0 rfl) ?_
  refine lv_iconst (v := 3) hx hb dL_law_941 rfl ?_
  refine lv_iadd hx hb dL_law_942 ?_
  refine va_sld hx hb hX hbl hbA hS (show vp_in (nI k + 3) L from x_in (j := 3) (by omega) hL) dL_law_943 ?_
  refine x_nmI u3 ?_
  refine lv_aload_n hx hb dL_law_944 rfl (lv_at hl 1 rfl) ?_
  refine lv_iload_n hx hb dL_law_945 rfl (lv_at hl 0 rfl) ?_
  refine lv_iconst (v := 4) hx hb dL_law_946 rfl ?_
  refine lv_iadd hx hb dL_law_947 ?_
  refine va_sld hx hb hX hbl hbA hS (show vp_in (nI k + 4) L from x_in (j := 4) (by omega) hL) dL_law_948 ?_
  refine x_nmI u4 ?_
  refine lv_aload_n hx hb dL_law_949 rfl (lv_at hl 1 rfl) ?_
  refine lv_iload_n hx hb dL_law_950 rfl (lv_at hl 0 rfl) ?_
  refine lv_iconst (v := 5) hx hb dL_law_951 rfl ?_
  refine lv_iadd hx hb dL_law_952 ?_
  refine va_sld hx hb hX hbl hbA hS (show vp_in (nI k + 5) L from x_in (j := 5) (by omega) hL) dL_law_953 ?_
  refine x_nmI u5 ?_
  refine y_i (va_runV (As := [.int y1, .int y2, .int y3, .int y4, .int y5]) (rest := []) hfix (m_X6_copy l G B E S y1 y2 y3 y4 y5 r S1 f6) (cwV 5 htl gL_law_X6_copy rfl rfl rfl ⟨rfl, hd_X6_copy⟩ ⟨Nat.le_of_ble_eq_true rfl, Nat.le_of_ble_eq_true rfl⟩) (y_pv hF hW hS (c2 E) (e2 _ _ _ _ _ _) rfl) rfl rfl hl.1 rfl (lv_room (Nat.le_of_ble_eq_true rfl)) dL_law_954 ⟨by show cells + 0 ≤ 600000; omega, by show slots + 0 ≤ 7302250; omega⟩) hS (fun H locs hW hS => ?_)
  refine lv_aload_n hx hb dL_law_957 rfl (lv_at hl 3 rfl) ?_
  refine lv_aload_n hx hb dL_law_958 rfl (lv_at hl 1 rfl) ?_
  refine lv_iload_n hx hb dL_law_959 rfl (lv_at hl 0 rfl) ?_
  refine lv_iconst (v := 1) hx hb dL_law_960 rfl ?_
  refine lv_iadd hx hb dL_law_961 ?_
  refine va_sld hx hb hX hbl hbA hS (show vp_in (nI k + 1) L from x_in (j := 1) (by omega) hL) dL_law_962 ?_
  refine x_nmI u1 ?_
  refine lv_aload_n hx hb dL_law_963 rfl (lv_at hl 1 rfl) ?_
  refine lv_iload_n hx hb dL_law_964 rfl (lv_at hl 0 rfl) ?_
  refine lv_iconst (v := 2) hx hb dL_law_965 rfl ?_
  refine lv_iadd hx hb dL_law_966 ?_
  refine va_sld hx hb hX hbl hbA hS (show vp_in (nI k + 2) L from x_in (j := 2) (by omega) hL) dL_law_967 ?_
  refine x_nmI u2 ?_
  refine lv_aload_n hx hb dL_law_968 rfl (lv_at hl 1 rfl) ?_
  refine lv_iload_n hx hb dL_law_969 rfl (lv_at hl 0 rfl) ?_
  refine lv_iconst (v := 3) hx hb dL_law_970 rfl ?_
  refine lv_iadd hx hb dL_law_971 ?_
  refine va_sld hx hb hX hbl hbA hS (show vp_in (nI k + 3) L from x_in (j := 3) (by omega) hL) dL_law_972 ?_
  refine x_nmI u3 ?_
  refine lv_aload_n hx hb dL_law_973 rfl (lv_at hl 1 rfl) ?_
  refine lv_iload_n hx hb dL_law_974 rfl (lv_at hl 0 rfl) ?_
  refine lv_iconst (v := 4) hx hb dL_law_975 rfl ?_
  refine lv_iadd hx hb dL_law_976 ?_
  refine va_sld hx hb hX hbl hbA hS (show vp_in (nI k + 4) L from x_in (j := 4) (by omega) hL) dL_law_977 ?_
  refine x_nmI u4 ?_
  refine lv_aload_n hx hb dL_law_978 rfl (lv_at hl 1 rfl) ?_
  refine lv_iload_n hx hb dL_law_979 rfl (lv_at hl 0 rfl) ?_
  refine lv_iconst (v := 5) hx hb dL_law_980 rfl ?_
  refine lv_iadd hx hb dL_law_981 ?_
  refine va_sld hx hb hX hbl hbA hS (show vp_in (nI k + 5) L from x_in (j := 5) (by omega) hL) dL_law_982 ?_
  refine x_nmI u5 ?_
  refine y_i (va_runV (As := [.int y1, .int y2, .int y3, .int y4, .int y5]) (rest := [.int r]) hfix (m_X7_copy l G B E hE S1 y1 y2 y3 y4 y5 r S2 f7) (cwV 5 htl gL_law_X7_copy rfl rfl rfl ⟨rfl, hd_X7_copy⟩ ⟨Nat.le_of_ble_eq_true rfl, Nat.le_of_ble_eq_true rfl⟩) (y_pv hF hW hS (c1 hE) (e1 _ _ _ _ _ _) rfl) rfl rfl hl.1 rfl (lv_room (Nat.le_of_ble_eq_true rfl)) dL_law_983 ⟨by show cells + 0 ≤ 600000; omega, by show slots + 0 ≤ 7302250; omega⟩) hS (fun H locs hW hS => ?_)
  refine lv_icmp_eq (tgt := 1077) hx hb dL_law_986 (by decide) (fun _ => ?_) (fun h => absurd rfl h)
  refine W.widen (k := cells + 24) (n := slots + 166) (by omega) (by omega) ?_
  exact K B E S2 H locs ls ⟨hN, hE1, hR2, hW, hS, hl⟩
set_option maxHeartbeats 4000000 in
set_option maxRecDepth 100000 in
theorem lc_pupils (C0 : lw_At p s m meth c b L xs) (hF : WF G s) (hg : gB G = s.heap.size) (h : LQ G s b B E S k H locs ls) (hk : k + 6 ≤ L) (hL : L ≤ 384) (hc : cells + 24 ≤ 600000) (hs : slots + 166 ≤ 7302250)
    (K : ∀ (B2 : Nat → Nat → Nat) (E2 : EN) (S2 : ST) (H2 : Heap) (locs2 : List Loc) (ls2 : Array Slot), LQ G s b B2 E2 S2 k H2 locs2 ls2 → W p l e room_1 s m #[Value.ref b] below meth c H2 locs2 (cells + 24) (slots + 166) (lw_Z below #[Value.ref b] s) (F0 m 1077 ls2 [])) :
    W p l e room_1 s m #[Value.ref b] below meth c H locs cells slots (lw_Z below #[Value.ref b] s) (F0 m 991 ls []) := by
  obtain ⟨hx, hb, hr, hml, hown, hts, hX, hbl, hlocks, hgv⟩ := id C0
  have hb : c.code = cL_law := hb
  have hown : s.vm.findClass RL = some m.cls := hown
  obtain ⟨hN, hE1, hR, hW, hS, hl⟩ := h
  have hbA : ¬ AA G b := by
    show ¬ gB G ≤ b
    omega
  have hE : 0 < E.2.2.2 := by omega
  have hN2 : 20300 ≤ E.1 := by omega
  have htl : ∀ w ∈ wsL_law, w.before #[Value.ref b] s = true := fun w h => hts w (wsL_law_in w h)
  have hfix : CallFix p m c cL_law 4 s #[Value.ref b] wsL_law RL := ⟨hx, hb, hml, hown, htl⟩
  have hK := hF.1
  obtain ⟨y1, u1⟩ : ∃ y : Int32, y = xs (nI k + 1).toNatClampNeg := ⟨_, rfl⟩
  obtain ⟨y2, u2⟩ : ∃ y : Int32, y = xs (nI k + 2).toNatClampNeg := ⟨_, rfl⟩
  obtain ⟨y3, u3⟩ : ∃ y : Int32, y = xs (nI k + 3).toNatClampNeg := ⟨_, rfl⟩
  obtain ⟨y4, u4⟩ : ∃ y : Int32, y = xs (nI k + 4).toNatClampNeg := ⟨_, rfl⟩
  obtain ⟨r, EE, S1, S2, f6, f7, hR2, g1, g2⟩ := j_pupils hN2 hR y1 y2 y3 y4
  have hE2 : EE.2.2.2 = 1 := (congrArg Prod.snd g2).trans hE1
  have hEE : 0 < EE.2.2.2 := by omega
  have ci := REL.ci hR
  refine lv_aload_n hx hb dL_law_991 rfl (lv_at hl 2 rfl) ?_
  refine lv_aload_n hx hb dL_law_992 rfl (lv_at hl 1 rfl) ?_
  refine lv_iload_n hx hb dL_law_993 rfl (lv_at hl 0 rfl) ?_
  refine lv_iconst (v := 1) hx hb dL_law_994 rfl ?_
  refine lv_iadd hx hb dL_law_995 ?_
  refine va_sld hx hb hX hbl hbA hS (show vp_in (nI k + 1) L from x_in (j := 1) (by omega) hL) dL_law_996 ?_
  refine x_nmI u1 ?_
  refine lv_aload_n hx hb dL_law_997 rfl (lv_at hl 1 rfl) ?_
  refine lv_iload_n hx hb dL_law_998 rfl (lv_at hl 0 rfl) ?_
  refine lv_iconst (v := 2) hx hb dL_law_999 rfl ?_
  refine lv_iadd hx hb dL_law_1000 ?_
  refine va_sld hx hb hX hbl hbA hS (show vp_in (nI k + 2) L from x_in (j := 2) (by omega) hL) dL_law_1001 ?_
  refine x_nmI u2 ?_
  refine lv_aload_n hx hb dL_law_1002 rfl (lv_at hl 1 rfl) ?_
  refine lv_iload_n hx hb dL_law_1003 rfl (lv_at hl 0 rfl) ?_
  refine lv_iconst (v := 3) hx hb dL_law_1004 rfl ?_
  refine lv_iadd hx hb dL_law_1005 ?_
  refine va_sld hx hb hX hbl hbA hS (show vp_in (nI k + 3) L from x_in (j := 3) (by omega) hL) dL_law_1006 ?_
  refine x_nmI u3 ?_
  refine lv_aload_n hx hb dL_law_1007 rfl (lv_at hl 1 rfl) ?_
  refine lv_iload_n hx hb dL_law_1008 rfl (lv_at hl 0 rfl) ?_
  refine lv_iconst (v := 4) hx hb dL_law_1009 rfl ?_
  refine lv_iadd hx hb dL_law_1010 ?_
  refine va_sld hx hb hX hbl hbA hS (show vp_in (nI k + 4) L from x_in (j := 4) (by omega) hL) dL_law_1011 ?_
  refine x_nmI u4 ?_
  refine va_calli (va_runV (As := [.int y1, .int y2, .int y3, .int y4]) (rest := []) hfix (m_X6_pupils l G B E S y1 y2 y3 y4 r EE S1 f6 ci) (cwV 4 htl gL_law_X6_pupils rfl rfl rfl ⟨rfl, hd_X6_pupils⟩ ⟨Nat.le_of_ble_eq_true rfl, Nat.le_of_ble_eq_true rfl⟩) (y_pv hF hW hS (c2 E) (e2 _ _ _ _ _ _) rfl) rfl rfl hl.1 rfl (lv_room (Nat.le_of_ble_eq_true rfl)) dL_law_1012 ⟨by show cells + 24 ≤ 600000; omega, by show slots + 136 ≤ 7302250; omega⟩) hS (fun _ _ h => h) (fun _ h => h) (fun r2 u t H1 locs ht _ hw hB hz1 hk1 hS => ?_)
  subst hw
  obtain ⟨B2, hXX, hW2⟩ := hB
  have hW := hW2.1
  rw [ht] at hW
  have hl : lv_has ls 4 [(3, .int (nI k)), (0, .ref b), (1, .ref (B2 2 0)), (2, .ref (B2 1 0))] := by
    rw [hXX 2 (by decide) (by decide), hXX 1 (by decide) (by decide)]
    exact hl
  refine lv_aload_n hx hb dL_law_1015 rfl (lv_at hl 3 rfl) ?_
  refine lv_aload_n hx hb dL_law_1016 rfl (lv_at hl 1 rfl) ?_
  refine lv_iload_n hx hb dL_law_1017 rfl (lv_at hl 0 rfl) ?_
  refine lv_iconst (v := 1) hx hb dL_law_1018 rfl ?_
  refine lv_iadd hx hb dL_law_1019 ?_
  refine va_sld hx hb hX hbl hbA hS (show vp_in (nI k + 1) L from x_in (j := 1) (by omega) hL) dL_law_1020 ?_
  refine x_nmI u1 ?_
  refine lv_aload_n hx hb dL_law_1021 rfl (lv_at hl 1 rfl) ?_
  refine lv_iload_n hx hb dL_law_1022 rfl (lv_at hl 0 rfl) ?_
  refine lv_iconst (v := 2) hx hb dL_law_1023 rfl ?_
  refine lv_iadd hx hb dL_law_1024 ?_
  refine va_sld hx hb hX hbl hbA hS (show vp_in (nI k + 2) L from x_in (j := 2) (by omega) hL) dL_law_1025 ?_
  refine x_nmI u2 ?_
  refine lv_aload_n hx hb dL_law_1026 rfl (lv_at hl 1 rfl) ?_
  refine lv_iload_n hx hb dL_law_1027 rfl (lv_at hl 0 rfl) ?_
  refine lv_iconst (v := 3) hx hb dL_law_1028 rfl ?_
  refine lv_iadd hx hb dL_law_1029 ?_
  refine va_sld hx hb hX hbl hbA hS (show vp_in (nI k + 3) L from x_in (j := 3) (by omega) hL) dL_law_1030 ?_
  refine x_nmI u3 ?_
  refine lv_aload_n hx hb dL_law_1031 rfl (lv_at hl 1 rfl) ?_
  refine lv_iload_n hx hb dL_law_1032 rfl (lv_at hl 0 rfl) ?_
  refine lv_iconst (v := 4) hx hb dL_law_1033 rfl ?_
  refine lv_iadd hx hb dL_law_1034 ?_
  refine va_sld hx hb hX hbl hbA hS (show vp_in (nI k + 4) L from x_in (j := 4) (by omega) hL) dL_law_1035 ?_
  refine x_nmI u4 ?_
  refine y_i (va_runV (As := [.int y1, .int y2, .int y3, .int y4]) (rest := [.int r2]) hfix (m_X7_pupils l G B2 EE hEE S1 y1 y2 y3 y4 r2 S2 f7) (cwV 4 htl gL_law_X7_pupils rfl rfl rfl ⟨rfl, hd_X7_pupils⟩ ⟨Nat.le_of_ble_eq_true rfl, Nat.le_of_ble_eq_true rfl⟩) (y_pv hF hW hS (c1 hEE) (e1 _ _ _ _ _ _) rfl) rfl rfl hl.1 rfl (lv_room (Nat.le_of_ble_eq_true rfl)) dL_law_1036 ⟨by show cells + 24 + 0 ≤ 600000; omega, by show slots + 136 + 0 ≤ 7302250; omega⟩) hS (fun H locs hW hS => ?_)
  refine lv_icmp_eq (tgt := 1077) hx hb dL_law_1039 (by decide) (fun _ => ?_) (fun h => absurd rfl h)
  refine W.widen (k := cells + 24) (n := slots + 166) (by omega) (by omega) ?_
  exact K B2 EE S2 H locs ls ⟨g1.trans hN, hE2, hR2, hW, hS, hl⟩
set_option maxHeartbeats 4000000 in
set_option maxRecDepth 100000 in
theorem lc_taken (C0 : lw_At p s m meth c b L xs) (hF : WF G s) (hg : gB G = s.heap.size) (h : LQ G s b B E S k H locs ls) (hk : k + 6 ≤ L) (hL : L ≤ 384) (hc : cells + 24 ≤ 600000) (hs : slots + 166 ≤ 7302250)
    (K : ∀ (B2 : Nat → Nat → Nat) (E2 : EN) (S2 : ST) (H2 : Heap) (locs2 : List Loc) (ls2 : Array Slot), LQ G s b B2 E2 S2 k H2 locs2 ls2 → W p l e room_1 s m #[Value.ref b] below meth c H2 locs2 (cells + 24) (slots + 166) (lw_Z below #[Value.ref b] s) (F0 m 1077 ls2 [])) :
    W p l e room_1 s m #[Value.ref b] below meth c H locs cells slots (lw_Z below #[Value.ref b] s) (F0 m 1044 ls []) := by
  obtain ⟨hx, hb, hr, hml, hown, hts, hX, hbl, hlocks, hgv⟩ := id C0
  have hb : c.code = cL_law := hb
  have hown : s.vm.findClass RL = some m.cls := hown
  obtain ⟨hN, hE1, hR, hW, hS, hl⟩ := h
  have hbA : ¬ AA G b := by
    show ¬ gB G ≤ b
    omega
  have hE : 0 < E.2.2.2 := by omega
  have hN2 : 20300 ≤ E.1 := by omega
  have htl : ∀ w ∈ wsL_law, w.before #[Value.ref b] s = true := fun w h => hts w (wsL_law_in w h)
  have hfix : CallFix p m c cL_law 4 s #[Value.ref b] wsL_law RL := ⟨hx, hb, hml, hown, htl⟩
  have hK := hF.1
  obtain ⟨y1, u1⟩ : ∃ y : Int32, y = xs (nI k + 1).toNatClampNeg := ⟨_, rfl⟩
  obtain ⟨y2, u2⟩ : ∃ y : Int32, y = xs (nI k + 2).toNatClampNeg := ⟨_, rfl⟩
  obtain ⟨r, f6, f7⟩ := j_taken hN2 hR y1 y2
  refine lv_aload_n hx hb dL_law_1044 rfl (lv_at hl 2 rfl) ?_
  refine lv_aload_n hx hb dL_law_1045 rfl (lv_at hl 1 rfl) ?_
  refine lv_iload_n hx hb dL_law_1046 rfl (lv_at hl 0 rfl) ?_
  refine lv_iconst (v := 1) hx hb dL_law_1047 rfl ?_
  refine lv_iadd hx hb dL_law_1048 ?_
  refine va_sld hx hb hX hbl hbA hS (show vp_in (nI k + 1) L from x_in (j := 1) (by omega) hL) dL_law_1049 ?_
  refine x_nmI u1 ?_
  refine lv_aload_n hx hb dL_law_1050 rfl (lv_at hl 1 rfl) ?_
  refine lv_iload_n hx hb dL_law_1051 rfl (lv_at hl 0 rfl) ?_
  refine lv_iconst (v := 2) hx hb dL_law_1052 rfl ?_
  refine lv_iadd hx hb dL_law_1053 ?_
  refine va_sld hx hb hX hbl hbA hS (show vp_in (nI k + 2) L from x_in (j := 2) (by omega) hL) dL_law_1054 ?_
  refine x_nmI u2 ?_
  refine y_i (va_runV (As := [.int y1, .int y2]) (rest := []) hfix (m_X6_taken l G B E S y1 y2 r f6) (cwV 2 htl gL_law_X6_taken rfl rfl rfl ⟨rfl, hd_X6_taken⟩ ⟨Nat.le_of_ble_eq_true rfl, Nat.le_of_ble_eq_true rfl⟩) (y_pv hF hW hS (c2 E) (e2 _ _ _ _ _ _) rfl) rfl rfl hl.1 rfl (lv_room (Nat.le_of_ble_eq_true rfl)) dL_law_1055 ⟨by show cells + 0 ≤ 600000; omega, by show slots + 0 ≤ 7302250; omega⟩) hS (fun H locs hW hS => ?_)
  refine lv_aload_n hx hb dL_law_1058 rfl (lv_at hl 3 rfl) ?_
  refine lv_aload_n hx hb dL_law_1059 rfl (lv_at hl 1 rfl) ?_
  refine lv_iload_n hx hb dL_law_1060 rfl (lv_at hl 0 rfl) ?_
  refine lv_iconst (v := 1) hx hb dL_law_1061 rfl ?_
  refine lv_iadd hx hb dL_law_1062 ?_
  refine va_sld hx hb hX hbl hbA hS (show vp_in (nI k + 1) L from x_in (j := 1) (by omega) hL) dL_law_1063 ?_
  refine x_nmI u1 ?_
  refine lv_aload_n hx hb dL_law_1064 rfl (lv_at hl 1 rfl) ?_
  refine lv_iload_n hx hb dL_law_1065 rfl (lv_at hl 0 rfl) ?_
  refine lv_iconst (v := 2) hx hb dL_law_1066 rfl ?_
  refine lv_iadd hx hb dL_law_1067 ?_
  refine va_sld hx hb hX hbl hbA hS (show vp_in (nI k + 2) L from x_in (j := 2) (by omega) hL) dL_law_1068 ?_
  refine x_nmI u2 ?_
  refine y_i (va_runV (As := [.int y1, .int y2]) (rest := [.int r]) hfix (m_X7_taken l G B E hE S y1 y2 r f7) (cwV 2 htl gL_law_X7_taken rfl rfl rfl ⟨rfl, hd_X7_taken⟩ ⟨Nat.le_of_ble_eq_true rfl, Nat.le_of_ble_eq_true rfl⟩) (y_pv hF hW hS (c1 hE) (e1 _ _ _ _ _ _) rfl) rfl rfl hl.1 rfl (lv_room (Nat.le_of_ble_eq_true rfl)) dL_law_1069 ⟨by show cells + 0 ≤ 600000; omega, by show slots + 0 ≤ 7302250; omega⟩) hS (fun H locs hW hS => ?_)
  refine lv_icmp_eq (tgt := 1077) hx hb dL_law_1072 (by decide) (fun _ => ?_) (fun h => absurd rfl h)
  refine W.widen (k := cells + 24) (n := slots + 166) (by omega) (by omega) ?_
  exact K B E S H locs ls ⟨hN, hE1, hR, hW, hS, hl⟩
end LAWC
