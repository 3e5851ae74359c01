/-! THE LAW: its cases (by program: wip/whole/gen/law.py) -/
section LAWC
variable {p : Program} {l : Launch} {e : Env} {s : State} {m : MethodId} {below : List Frame} {meth : Method} {c : Code} {H : Heap} {locs : List Loc} {cells slots : Nat} {ls : Array Slot}
variable {b L k : Nat} {xs : Nat → Int32} {G : GE} {B : Nat → Nat → Nat} {E : EN} {S : ST}
set_option maxHeartbeats 4000000 in
set_option maxRecDepth 100000 in
theorem lc_pupil (C0 : lw_At p s m meth c b L xs) (hF : WF G s) (hg : gB G = s.heap.size) (h : LQ G s b B E S k H locs ls) (hk : k + 6 ≤ L) (hL : L ≤ 384) (hc : cells + 24 ≤ 600000) (hs : slots + 166 ≤ 7302250)
    (K : ∀ (B2 : Nat → Nat → Nat) (E2 : EN) (S2 : ST) (H2 : Heap) (locs2 : List Loc) (ls2 : Array Slot), LQ G s b B2 E2 S2 k H2 locs2 ls2 → W p l e room_1 s m #[Value.ref b] below meth c H2 locs2 (cells + 24) (slots + 166) (lw_Z below #[Value.ref b] s) (F0 m 1077 ls2 [])) :
    W p l e room_1 s m #[Value.ref b] below meth c H locs cells slots (lw_Z below #[Value.ref b] s) (F0 m 148 ls []) := by
  obtain ⟨hx, hb, hr, hml, hown, hts, hX, hbl, hlocks, hgv⟩ := id C0
  have hb : c.code = cL_law := hb
  have hown : s.vm.findClass RL = some m.cls := hown
  obtain ⟨hN, hE1, hR, hW, hS, hl⟩ := h
  have hbA : ¬ AA G b := by
    show ¬ gB G ≤ b
    omega
  have hE : 0 < E.2.2.2 := by omega
  have hN2 : 20300 ≤ E.1 := by omega
  have htl : ∀ w ∈ wsL_law, w.before #[Value.ref b] s = true := fun w h => hts w (wsL_law_in w h)
  have hfix : CallFix p m c cL_law 4 s #[Value.ref b] wsL_law RL := ⟨hx, hb, hml, hown, htl⟩
  have hK := hF.1
  obtain ⟨y1, u1⟩ : ∃ y : Int32, y = xs (nI k + 1).toNatClampNeg := ⟨_, rfl⟩
  obtain ⟨y2, u2⟩ : ∃ y : Int32, y = xs (nI k + 2).toNatClampNeg := ⟨_, rfl⟩
  obtain ⟨r, EE, S1, S2, f6, f7, hR2, g1, g2⟩ := j_pupil hN2 hR y1 y2
  have hE2 : EE.2.2.2 = 1 := (congrArg Prod.snd g2).trans hE1
  have hEE : 0 < EE.2.2.2 := by omega
  have ci := REL.ci hR
  refine lv_aload_n hx hb dL_law_148 rfl (lv_at hl 2 rfl) ?_
  refine lv_aload_n hx hb dL_law_149 rfl (lv_at hl 1 rfl) ?_
  refine lv_iload_n hx hb dL_law_150 rfl (lv_at hl 0 rfl) ?_
  refine lv_iconst (v := 1) hx hb dL_law_151 rfl ?_
  refine lv_iadd hx hb dL_law_152 ?_
  refine va_sld hx hb hX hbl hbA hS (show vp_in (nI k + 1) L from x_in (j := 1) (by omega) hL) dL_law_153 ?_
  refine x_nmI u1 ?_
  refine lv_aload_n hx hb dL_law_154 rfl (lv_at hl 1 rfl) ?_
  refine lv_iload_n hx hb dL_law_155 rfl (lv_at hl 0 rfl) ?_
  refine lv_iconst (v := 2) hx hb dL_law_156 rfl ?_
  refine lv_iadd hx hb dL_law_157 ?_
  refine va_sld hx hb hX hbl hbA hS (show vp_in (nI k + 2) L from x_in (j := 2) (by omega) hL) dL_law_158 ?_
  refine x_nmI u2 ?_
  refine va_calli (va_runV (As := [.int y1, .int y2]) (rest := []) hfix (m_X6_pupil l G B E S y1 y2 r EE S1 f6 ci.1 ci.2.1 ci.2.2) (cwV 2 htl gL_law_X6_pupil rfl rfl rfl ⟨rfl, hd_X6_pupil⟩ ⟨Nat.le_of_ble_eq_true rfl, Nat.le_of_ble_eq_true rfl⟩) (y_pv hF hW hS (c2 E) (e2 _ _ _ _ _ _) rfl) rfl rfl hl.1 rfl (lv_room (Nat.le_of_ble_eq_true rfl)) dL_law_159 ⟨by show cells + 3 ≤ 600000; omega, by show slots + 17 ≤ 7302250; omega⟩) hS (fun _ _ h => h) (fun _ h => h) (fun r2 u t H1 locs ht _ hw hB hz1 hk1 hS => ?_)
  subst hw
  obtain ⟨B2, hXX, hW2⟩ := hB
  have hW := hW2.1
  rw [ht] at hW
  have hl : lv_has ls 4 [(3, .int (nI k)), (0, .ref b), (1, .ref (B2 2 0)), (2, .ref (B2 1 0))] := by
    rw [hXX 2 (by decide) (by decide), hXX 1 (by decide) (by decide)]
    exact hl
  refine lv_aload_n hx hb dL_law_162 rfl (lv_at hl 3 rfl) ?_
  refine lv_aload_n hx hb dL_law_163 rfl (lv_at hl 1 rfl) ?_
  refine lv_iload_n hx hb dL_law_164 rfl (lv_at hl 0 rfl) ?_
  refine lv_iconst (v := 1) hx hb dL_law_165 rfl ?_
  refine lv_iadd hx hb dL_law_166 ?_
  refine va_sld hx hb hX hbl hbA hS (show vp_in (nI k + 1) L from x_in (j := 1) (by omega) hL) dL_law_167 ?_
  refine x_nmI u1 ?_
  refine lv_aload_n hx hb dL_law_168 rfl (lv_at hl 1 rfl) ?_
  refine lv_iload_n hx hb dL_law_169 rfl (lv_at hl 0 rfl) ?_
  refine lv_iconst (v := 2) hx hb dL_law_170 rfl ?_
  refine lv_iadd hx hb dL_law_171 ?_
  refine va_sld hx hb hX hbl hbA hS (show vp_in (nI k + 2) L from x_in (j := 2) (by omega) hL) dL_law_172 ?_
  refine x_nmI u2 ?_
  refine y_i (va_runV (As := [.int y1, .int y2]) (rest := [.int r2]) hfix (m_X7_pupil l G B2 EE hEE S1 y1 y2 r2 S2 f7) (cwV 2 htl gL_law_X7_pupil rfl rfl rfl ⟨rfl, hd_X7_pupil⟩ ⟨Nat.le_of_ble_eq_true rfl, Nat.le_of_ble_eq_true rfl⟩) (y_pv hF hW hS (c1 hEE) (e1 _ _ _ _ _ _) rfl) rfl rfl hl.1 rfl (lv_room (Nat.le_of_ble_eq_true rfl)) dL_law_173 ⟨by show cells + 3 + 0 ≤ 600000; omega, by show slots + 17 + 0 ≤ 7302250; omega⟩) hS (fun H locs hW hS => ?_)
  refine lv_icmp_eq (tgt := 1077) hx hb dL_law_176 (by decide) (fun _ => ?_) (fun h => absurd rfl h)
  refine W.widen (k := cells + 24) (n := slots + 166) (by omega) (by omega) ?_
  exact K B2 EE S2 H locs ls ⟨g1.trans hN, hE2, hR2, hW, hS, hl⟩
set_option maxHeartbeats 4000000 in
set_option maxRecDepth 100000 in
theorem lc_weigh (C0 : lw_At p s m meth c b L xs) (hF : WF G s) (hg : gB G = s.heap.size) (h : LQ G s b B E S k H locs ls) (hk : k + 6 ≤ L) (hL : L ≤ 384) (hc : cells + 24 ≤ 600000) (hs : slots + 166 ≤ 7302250)
    (K : ∀ (B2 : Nat → Nat → Nat) (E2 : EN) (S2 : ST) (H2 : Heap) (locs2 : List Loc) (ls2 : Array Slot), LQ G s b B2 E2 S2 k H2 locs2 ls2 → W p l e room_1 s m #[Value.ref b] below meth c H2 locs2 (cells + 24) (slots + 166) (lw_Z below #[Value.ref b] s) (F0 m 1077 ls2 [])) :
    W p l e room_1 s m #[Value.ref b] below meth c H locs cells slots (lw_Z below #[Value.ref b] s) (F0 m 181 ls []) := by
  obtain ⟨hx, hb, hr, hml, hown, hts, hX, hbl, hlocks, hgv⟩ := id C0
  have hb : c.code = cL_law := hb
  have hown : s.vm.findClass RL = some m.cls := hown
  obtain ⟨hN, hE1, hR, hW, hS, hl⟩ := h
  have hbA : ¬ AA G b := by
    show ¬ gB G ≤ b
    omega
  have hE : 0 < E.2.2.2 := by omega
  have hN2 : 20300 ≤ E.1 := by omega
  have htl : ∀ w ∈ wsL_law, w.before #[Value.ref b] s = true := fun w h => hts w (wsL_law_in w h)
  have hfix : CallFix p m c cL_law 4 s #[Value.ref b] wsL_law RL := ⟨hx, hb, hml, hown, htl⟩
  have hK := hF.1
  obtain ⟨y1, u1⟩ : ∃ y : Int32, y = xs (nI k + 1).toNatClampNeg := ⟨_, rfl⟩
  obtain ⟨y2, u2⟩ : ∃ y : Int32, y = xs (nI k + 2).toNatClampNeg := ⟨_, rfl⟩
  obtain ⟨r, S1, S2, f6, f7, hR2⟩ := j_weigh hN2 hR y1 y2
  refine lv_aload_n hx hb dL_law_181 rfl (lv_at hl 2 rfl) ?_
  refine lv_aload_n hx hb dL_law_182 rfl (lv_at hl 1 rfl) ?_
  refine lv_iload_n hx hb dL_law_183 rfl (lv_at hl 0 rfl) ?_
  refine lv_iconst (v := 1) hx hb dL_law_184 rfl ?_
  refine lv_iadd hx hb dL_law_185 ?_
  refine va_sld hx hb hX hbl hbA hS (show vp_in (nI k + 1) L from x_in (j := 1) (by omega) hL) dL_law_186 ?_
  refine x_nmI u1 ?_
  refine lv_aload_n hx hb dL_law_187 rfl (lv_at hl 1 rfl) ?_
  refine lv_iload_n hx hb dL_law_188 rfl (lv_at hl 0 rfl) ?_
  refine lv_iconst (v := 2) hx hb dL_law_189 rfl ?_
  refine lv_iadd hx hb dL_law_190 ?_
  refine va_sld hx hb hX hbl hbA hS (show vp_in (nI k + 2) L from x_in (j := 2) (by omega) hL) dL_law_191 ?_
  refine x_nmI u2 ?_
  refine y_i (va_runV (As := [.int y1, .int y2]) (rest := []) hfix (m_X6_weigh l G B E S y1 y2 r S1 f6) (cwV 2 htl gL_law_X6_weigh rfl rfl rfl ⟨rfl, hd_X6_weigh⟩ ⟨Nat.le_of_ble_eq_true rfl, Nat.le_of_ble_eq_true rfl⟩) (y_pv hF hW hS (c2 E) (e2 _ _ _ _ _ _) rfl) rfl rfl hl.1 rfl (lv_room (Nat.le_of_ble_eq_true rfl)) dL_law_192 ⟨by show cells + 0 ≤ 600000; omega, by show slots + 0 ≤ 7302250; omega⟩) hS (fun H locs hW hS => ?_)
  refine lv_aload_n hx hb dL_law_195 rfl (lv_at hl 3 rfl) ?_
  refine lv_aload_n hx hb dL_law_196 rfl (lv_at hl 1 rfl) ?_
  refine lv_iload_n hx hb dL_law_197 rfl (lv_at hl 0 rfl) ?_
  refine lv_iconst (v := 1) hx hb dL_law_198 rfl ?_
  refine lv_iadd hx hb dL_law_199 ?_
  refine va_sld hx hb hX hbl hbA hS (show vp_in (nI k + 1) L from x_in (j := 1) (by omega) hL) dL_law_200 ?_
  refine x_nmI u1 ?_
  refine lv_aload_n hx hb dL_law_201 rfl (lv_at hl 1 rfl) ?_
  refine lv_iload_n hx hb dL_law_202 rfl (lv_at hl 0 rfl) ?_
  refine lv_iconst (v := 2) hx hb dL_law_203 rfl ?_
  refine lv_iadd hx hb dL_law_204 ?_
  refine va_sld hx hb hX hbl hbA hS (show vp_in (nI k + 2) L from x_in (j := 2) (by omega) hL) dL_law_205 ?_
  refine x_nmI u2 ?_
  refine y_i (va_runV (As := [.int y1, .int y2]) (rest := [.int r]) hfix (m_X7_weigh l G B E hE S1 y1 y2 r S2 f7) (cwV 2 htl gL_law_X7_weigh rfl rfl rfl ⟨rfl, hd_X7_weigh⟩ ⟨Nat.le_of_ble_eq_true rfl, Nat.le_of_ble_eq_true rfl⟩) (y_pv hF hW hS (c1 hE) (e1 _ _ _ _ _ _) rfl) rfl rfl hl.1 rfl (lv_room (Nat.le_of_ble_eq_true rfl)) dL_law_206 ⟨by show cells + 0 ≤ 600000; omega, by show slots + 0 ≤ 7302250; omega⟩) hS (fun H locs hW hS => ?_)
  refine lv_icmp_eq (tgt := 1077) hx hb dL_law_209 (by decide) (fun _ => ?_) (fun h => absurd rfl h)
  refine W.widen (k := cells + 24) (n := slots + 166) (by omega) (by omega) ?_
  exact K B E S2 H locs ls ⟨hN, hE1, hR2, hW, hS, hl⟩
set_option maxHeartbeats 4000000 in
set_option maxRecDepth 100000 in
theorem lc_told (C0 : lw_At p s m meth c b L xs) (hF : WF G s) (hg : gB G = s.heap.size) (h : LQ G s b B E S k H locs ls) (hk : k + 6 ≤ L) (hL : L ≤ 384) (hc : cells + 24 ≤ 600000) (hs : slots + 166 ≤ 7302250)
    (K : ∀ (B2 : Nat → Nat → Nat) (E2 : EN) (S2 : ST) (H2 : Heap) (locs2 : List Loc) (ls2 : Array Slot), LQ G s b B2 E2 S2 k H2 locs2 ls2 → W p l e room_1 s m #[Value.ref b] below meth c H2 locs2 (cells + 24) (slots + 166) (lw_Z below #[Value.ref b] s) (F0 m 1077 ls2 [])) :
    W p l e room_1 s m #[Value.ref b] below meth c H locs cells slots (lw_Z below #[Value.ref b] s) (F0 m 214 ls []) := by
  obtain ⟨hx, hb, hr, hml, hown, hts, hX, hbl, hlocks, hgv⟩ := id C0
  have hb : c.code = cL_law := hb
  have hown : s.vm.findClass RL = some m.cls := hown
  obtain ⟨hN, hE1, hR, hW, hS, hl⟩ := h
  have hbA : ¬ AA G b := by
    show ¬ gB G ≤ b
    omega
  have hE : 0 < E.2.2.2 := by omega
  have hN2 : 20300 ≤ E.1 := by omega
  have htl : ∀ w ∈ wsL_law, w.before #[Value.ref b] s = true := fun w h => hts w (wsL_law_in w h)
  have hfix : CallFix p m c cL_law 4 s #[Value.ref b] wsL_law RL := ⟨hx, hb, hml, hown, htl⟩
  have hK := hF.1
  obtain ⟨y1, u1⟩ : ∃ y : Int32, y = xs (nI k + 1).toNatClampNeg := ⟨_, rfl⟩
  obtain ⟨y2, u2⟩ : ∃ y : Int32, y = xs (nI k + 2).toNatClampNeg := ⟨_, rfl⟩
  obtain ⟨r, f6, f7⟩ := j_told hN2 hR y1 y2
  refine lv_aload_n hx hb dL_law_214 rfl (lv_at hl 2 rfl) ?_
  refine lv_aload_n hx hb dL_law_215 rfl (lv_at hl 1 rfl) ?_
  refine lv_iload_n hx hb dL_law_216 rfl (lv_at hl 0 rfl) ?_
  refine lv_iconst (v := 1) hx hb dL_law_217 rfl ?_
  refine lv_iadd hx hb dL_law_218 ?_
  refine va_sld hx hb hX hbl hbA hS (show vp_in (nI k + 1) L from x_in (j := 1) (by omega) hL) dL_law_219 ?_
  refine x_nmI u1 ?_
  refine lv_aload_n hx hb dL_law_220 rfl (lv_at hl 1 rfl) ?_
  refine lv_iload_n hx hb dL_law_221 rfl (lv_at hl 0 rfl) ?_
  refine lv_iconst (v := 2) hx hb dL_law_222 rfl ?_
  refine lv_iadd hx hb dL_law_223 ?_
  refine va_sld hx hb hX hbl hbA hS (show vp_in (nI k + 2) L from x_in (j := 2) (by omega) hL) dL_law_224 ?_
  refine x_nmI u2 ?_
  refine y_i (va_runV (As := [.int y1, .int y2]) (rest := []) hfix (m_X6_told l G B E S y1 y2 r f6) (cwV 2 htl gL_law_X6_told rfl rfl rfl ⟨rfl, hd_X6_told⟩ ⟨Nat.le_of_ble_eq_true rfl, Nat.le_of_ble_eq_true rfl⟩) (y_pv hF hW hS (c2 E) (e2 _ _ _ _ _ _) rfl) rfl rfl hl.1 rfl (lv_room (Nat.le_of_ble_eq_true rfl)) dL_law_225 ⟨by show cells + 0 ≤ 600000; omega, by show slots + 0 ≤ 7302250; omega⟩) hS (fun H locs hW hS => ?_)
  refine lv_aload_n hx hb dL_law_228 rfl (lv_at hl 3 rfl) ?_
  refine lv_aload_n hx hb dL_law_229 rfl (lv_at hl 1 rfl) ?_
  refine lv_iload_n hx hb dL_law_230 rfl (lv_at hl 0 rfl) ?_
  refine lv_iconst (v := 1) hx hb dL_law_231 rfl ?_
  refine lv_iadd hx hb dL_law_232 ?_
  refine va_sld hx hb hX hbl hbA hS (show vp_in (nI k + 1) L from x_in (j := 1) (by omega) hL) dL_law_233 ?_
  refine x_nmI u1 ?_
  refine lv_aload_n hx hb dL_law_234 rfl (lv_at hl 1 rfl) ?_
  refine lv_iload_n hx hb dL_law_235 rfl (lv_at hl 0 rfl) ?_
  refine lv_iconst (v := 2) hx hb dL_law_236 rfl ?_
  refine lv_iadd hx hb dL_law_237 ?_
  refine va_sld hx hb hX hbl hbA hS (show vp_in (nI k + 2) L from x_in (j := 2) (by omega) hL) dL_law_238 ?_
  refine x_nmI u2 ?_
  refine y_i (va_runV (As := [.int y1, .int y2]) (rest := [.int r]) hfix (m_X7_told l G B E hE S y1 y2 r f7) (cwV 2 htl gL_law_X7_told rfl rfl rfl ⟨rfl, hd_X7_told⟩ ⟨Nat.le_of_ble_eq_true rfl, Nat.le_of_ble_eq_true rfl⟩) (y_pv hF hW hS (c1 hE) (e1 _ _ _ _ _ _) rfl) rfl rfl hl.1 rfl (lv_room (Nat.le_of_ble_eq_true rfl)) dL_law_239 ⟨by show cells + 0 ≤ 600000; omega, by show slots + 0 ≤ 7302250; omega⟩) hS (fun H locs hW hS => ?_)
  refine lv_icmp_eq (tgt := 1077) hx hb dL_law_242 (by decide) (fun _ => ?_) (fun h => absurd rfl h)
  refine W.widen (k := cells + 24) (n := slots + 166) (by omega) (by omega) ?_
  exact K B E S H locs ls ⟨hN, hE1, hR, hW, hS, hl⟩
set_option maxHeartbeats 4000000 in
set_option maxRecDepth 100000 in
theorem lc_feed (C0 : lw_At p s m meth c b L xs) (hF : WF G s) (hg : gB G = s.heap.size) (h : LQ G s b B E S k H locs ls) (hk : k + 6 ≤ L) (hL : L ≤ 384) (hc : cells + 24 ≤ 600000) (hs : slots + 166 ≤ 7302250)
    (K : ∀ (B2 : Nat → Nat → Nat) (E2 : EN) (S2 : ST) (H2 : Heap) (locs2 : List Loc) (ls2 : Array Slot), LQ G s b B2 E2 S2 k H2 locs2 ls2 → W p l e room_1 s m #[Value.ref b] below meth c H2 locs2 (cells + 24) (slots + 166) (lw_Z below #[Value.ref b] s) (F0 m 1077 ls2 [])) :
    W p l e room_1 s m #[Value.ref b] below meth c H locs cells slots (lw_Z below #[Value.ref b] s) (F0 m 247 ls []) := by
  obtain ⟨hx, hb, hr, hml, hown, hts, hX, hbl, hlocks, hgv⟩ := id C0
  have hb : c.code = cL_law := hb
  have hown : s.vm.findClass RL = some m.cls := hown
  obtain ⟨hN, hE1, hR, hW, hS, hl⟩ := h
  have hbA : ¬ AA G b := by
    show ¬ gB G ≤ b
    omega
  have hE : 0 < E.2.2.2 := by omega
  have hN2 : 20300 ≤ E.1 := by omega
  have htl : ∀ w ∈ wsL_law, w.before #[Value.ref b] s = true := fun w h => hts w (wsL_law_in w h)
  have hfix : CallFix p m c cL_law 4 s #[Value.ref b] wsL_law RL := ⟨hx, hb, hml, hown, htl⟩
  have hK := hF.1
  obtain ⟨y1, u1⟩ : ∃ y : Int32, y = xs (nI k + 1).toNatClampNeg := ⟨_, rfl⟩
  obtain ⟨y2, u2⟩ : ∃ y : Int32, y = xs (nI k + 2).toNatClampNeg := ⟨_, rfl⟩
  obtain ⟨y3, u3⟩ : ∃ y : Int32, y = xs (nI k + 3).toNatClampNeg := ⟨_, rfl⟩
  obtain ⟨yl, ul⟩ : ∃ y : Int64, y = (y2.toInt64 <<< ((32 : Int32).toInt64 &&& 63)) ||| (y3.toInt64 &&& 4294967295) := ⟨_, rfl⟩
  obtain ⟨r, S1, S2, f6, f7, hR2⟩ := j_feed hN2 hR y1 yl
  refine lv_aload_n hx hb dL_law_247 rfl (lv_at hl 2 rfl) ?_
  refine lv_aload_n hx hb dL_law_248 rfl (lv_at hl 1 rfl) ?_
  refine lv_iload_n hx hb dL_law_249 rfl (lv_at hl 0 rfl) ?_
  refine lv_iconst (v := 1) hx hb dL_law_250 rfl ?_
  refine lv_iadd hx hb dL_law_251 ?_
  refine va_sld hx hb hX hbl hbA hS (show vp_in (nI k + 1) L from x_in (j := 1) (by omega) hL) dL_law_252 ?_
  refine x_nmI u1 ?_
  refine lv_aload_n hx hb dL_law_253 rfl (lv_at hl 1 rfl) ?_
  refine lv_iload_n hx hb dL_law_254 rfl (lv_at hl 0 rfl) ?_
  refine lv_iconst (v := 2) hx hb dL_law_255 rfl ?_
  refine lv_iadd hx hb dL_law_256 ?_
  refine va_sld hx hb hX hbl hbA hS (show vp_in (nI k + 2) L from x_in (j := 2) (by omega) hL) dL_law_257 ?_
  refine x_nmI u2 ?_
  refine lv_i2l hx hb dL_law_258 rfl ?_
  refine lv_bipush (v := 32) hx hb dL_law_259 (by decide) ?_
  refine lv_lshl hx hb dL_law_261 rfl ?_
  refine lv_aload_n hx hb dL_law_262 rfl (lv_at hl 1 rfl) ?_
  refine lv_iload_n hx hb dL_law_263 rfl (lv_at hl 0 rfl) ?_
  refine lv_iconst (v := 3) hx hb dL_law_264 rfl ?_
  refine lv_iadd hx hb dL_law_265 ?_
  refine va_sld hx hb hX hbl hbA hS (show vp_in (nI k + 3) L from x_in (j := 3) (by omega) hL) dL_law_266 ?_
  refine x_nmI u3 ?_
  refine lv_i2l hx hb dL_law_267 rfl ?_
  refine lv_ldc2 (v := 4294967295) hx hb hown (htl (.constantLong RL 26 4294967295) (List.mem_of_getElem? (i := 6) rfl)) dL_law_268 ?_
  refine lv_land hx hb dL_law_271 ?_
  refine lv_lor hx hb dL_law_272 ?_
  refine x_nmL ul ?_
  refine y_i (va_runV (As := [.int y1, .long yl]) (rest := []) hfix (m_X6_feed l G B E S y1 yl r S1 f6) (cwV 2 htl gL_law_X6_feed rfl rfl rfl ⟨rfl, hd_X6_feed⟩ ⟨Nat.le_of_ble_eq_true rfl, Nat.le_of_ble_eq_true rfl⟩) (y_pv hF hW hS (c2 E) (e2 _ _ _ _ _ _) rfl) rfl rfl hl.1 rfl (lv_room (Nat.le_of_ble_eq_true rfl)) dL_law_273 ⟨by show cells + 0 ≤ 600000; omega, by show slots + 0 ≤ 7302250; omega⟩) hS (fun H locs hW hS => ?_)
  refine lv_aload_n hx hb dL_law_276 rfl (lv_at hl 3 rfl) ?_
  refine lv_aload_n hx hb dL_law_277 rfl (lv_at hl 1 rfl) ?_
  refine lv_iload_n hx hb dL_law_278 rfl (lv_at hl 0 rfl) ?_
  refine lv_iconst (v := 1) hx hb dL_law_279 rfl ?_
  refine lv_iadd hx hb dL_law_280 ?_
  refine va_sld hx hb hX hbl hbA hS (show vp_in (nI k + 1) L from x_in (j := 1) (by omega) hL) dL_law_281 ?_
  refine x_nmI u1 ?_
  refine lv_aload_n hx hb dL_law_282 rfl (lv_at hl 1 rfl) ?_
  refine lv_iload_n hx hb dL_law_283 rfl (lv_at hl 0 rfl) ?_
  refine lv_iconst (v := 2) hx hb dL_law_284 rfl ?_
  refine lv_iadd hx hb dL_law_285 ?_
  refine va_sld hx hb hX hbl hbA hS (show vp_in (nI k + 2) L from x_in (j := 2) (by omega) hL) dL_law_286 ?_
  refine x_nmI u2 ?_
  refine lv_i2l hx hb dL_law_287 rfl ?_
  refine lv_bipush (v := 32) hx hb dL_law_288 (by decide) ?_
  refine lv_lshl hx hb dL_law_290 rfl ?_
  refine lv_aload_n hx hb dL_law_291 rfl (lv_at hl 1 rfl) ?_
  refine lv_iload_n hx hb dL_law_292 rfl (lv_at hl 0 rfl) ?_
  refine lv_iconst (v := 3) hx hb dL_law_293 rfl ?_
  refine lv_iadd hx hb dL_law_294 ?_
  refine va_sld hx hb hX hbl hbA hS (show vp_in (nI k + 3) L from x_in (j := 3) (by omega) hL) dL_law_295 ?_
  refine x_nmI u3 ?_
  refine lv_i2l hx hb dL_law_296 rfl ?_
  refine lv_ldc2 (v := 4294967295) hx hb hown (htl (.constantLong RL 26 4294967295) (List.mem_of_getElem? (i := 6) rfl)) dL_law_297 ?_
  refine lv_land hx hb dL_law_300 ?_
  refine lv_lor hx hb dL_law_301 ?_
  refine x_nmL ul ?_
  refine y_i (va_runV (As := [.int y1, .long yl]) (rest := [.int r]) hfix (m_X7_feed l G B E hE S1 y1 yl r S2 f7) (cwV 2 htl gL_law_X7_feed rfl rfl rfl ⟨rfl, hd_X7_feed⟩ ⟨Nat.le_of_ble_eq_true rfl, Nat.le_of_ble_eq_true rfl⟩) (y_pv hF hW hS (c1 hE) (e1 _ _ _ _ _ _) rfl) rfl rfl hl.1 rfl (lv_room (Nat.le_of_ble_eq_true rfl)) dL_law_302 ⟨by show cells + 0 ≤ 600000; omega, by show slots + 0 ≤ 7302250; omega⟩) hS (fun H locs hW hS => ?_)
  refine lv_icmp_eq (tgt := 1077) hx hb dL_law_305 (by decide) (fun _ => ?_) (fun h => absurd rfl h)
  refine W.widen (k := cells + 24) (n := slots + 166) (by omega) (by omega) ?_
  exact K B E S2 H locs ls ⟨hN, hE1, hR2, hW, hS, hl⟩
set_option maxHeartbeats 4000000 in
set_option maxRecDepth 100000 in
theorem lc_text (C0 : lw_At p s m meth c b L xs) (hF : WF G s) (hg : gB G = s.heap.size) (h : LQ G s b B E S k H locs ls) (hk : k + 6 ≤ L) (hL : L ≤ 384) (hc : cells + 24 ≤ 600000) (hs : slots + 166 ≤ 7302250)
    (K : ∀ (B2 : Nat → Nat → Nat) (E2 : EN) (S2 : ST) (H2 : Heap) (locs2 : List Loc) (ls2 : Array Slot), LQ G s b B2 E2 S2 k H2 locs2 ls2 → W p l e room_1 s m #[Value.ref b] below meth c H2 locs2 (cells + 24) (slots + 166) (lw_Z below #[Value.ref b] s) (F0 m 1077 ls2 [])) :
    W p l e room_1 s m #[Value.ref b] below meth c H locs cells slots (lw_Z below #[Value.ref b] s) (F0 m 310 ls []) := by
  obtain ⟨hx, hb, hr, hml, hown, hts, hX, hbl, hlocks, hgv⟩ := id C0
  have hb : c.code = cL_law := hb
  have hown : s.vm.findClass RL = some m.cls := hown
  obtain ⟨hN, hE1, hR, hW, hS, hl⟩ := h
  have hbA : ¬ AA G b := by
    show ¬ gB G ≤ b
    omega
  have hE : 0 < E.2.2.2 := by omega
  have hN2 : 20300 ≤ E.1 := by omega
  have htl : ∀ w ∈ wsL_law, w.before #[Value.ref b] s = true := fun w h => hts w (wsL_law_in w h)
  have hfix : CallFix p m c cL_law 4 s #[Value.ref b] wsL_law RL := ⟨hx, hb, hml, hown, htl⟩
  have hK := hF.1
  obtain ⟨r, EE, S1, S2, f6, f7, hR2, g1, g2, g3⟩ := j_text hN2 hR
  have hE2 : EE.2.2.2 = 1 := g3.trans hE1
  have hEE : 0 < EE.2.2.2 := by omega
  obtain ⟨t1, t2, t3, t4, -⟩ := j_textS hN2 hR
  have t5 := j_textR hN2 hR
  refine lv_aload_n hx hb dL_law_310 rfl (lv_at hl 2 rfl) ?_
  refine va_calli (va_runV (As := []) (rest := []) hfix (m_X6_text l G B E S r EE S1 f6 t1 t2 t3 t4 t5) (cwV 0 htl gL_law_X6_text rfl rfl rfl ⟨rfl, hd_X6_text⟩ ⟨Nat.le_of_ble_eq_true rfl, Nat.le_of_ble_eq_true rfl⟩) (y_pv hF hW hS (c2 E) (e2 _ _ _ _ _ _) rfl) rfl rfl hl.1 rfl (lv_room (Nat.le_of_ble_eq_true rfl)) dL_law_311 ⟨by show cells + 3 ≤ 600000; omega, by show slots + 166 ≤ 7302250; omega⟩) hS (fun _ _ h => h) (fun _ h => h) (fun r2 u t H1 locs ht _ hw hB hz1 hk1 hS => ?_)
  subst hw
  obtain ⟨B2, hXX, hW2⟩ := hB
  have hW := hW2.1
  rw [ht] at hW
  have hl : lv_has ls 4 [(3, .int (nI k)), (0, .ref b), (1, .ref (B2 2 0)), (2, .ref (B2 1 0))] := by
    rw [hXX 2 (by decide) (by decide), hXX 1 (by decide) (by decide)]
    exact hl
  refine lv_aload_n hx hb dL_law_314 rfl (lv_at hl 3 rfl) ?_
  refine y_i (va_runV (As := []) (rest := [.int r2]) hfix (m_X7_text l G B2 EE hEE S1  r2 S2 f7) (cwV 0 htl gL_law_X7_text rfl rfl rfl ⟨rfl, hd_X7_text⟩ ⟨Nat.le_of_ble_eq_true rfl, Nat.le_of_ble_eq_true rfl⟩) (y_pv hF hW hS (c1 hEE) (e1 _ _ _ _ _ _) rfl) rfl rfl hl.1 rfl (lv_room (Nat.le_of_ble_eq_true rfl)) dL_law_315 ⟨by show cells + 3 + 0 ≤ 600000; omega, by show slots + 166 + 0 ≤ 7302250; omega⟩) hS (fun H locs hW hS => ?_)
  refine lv_icmp_eq (tgt := 1077) hx hb dL_law_318 (by decide) (fun _ => ?_) (fun h => absurd rfl h)
  refine W.widen (k := cells + 24) (n := slots + 166) (by omega) (by omega) ?_
  exact K B2 EE S2 H locs ls ⟨g1.trans hN, hE2, hR2, hW, hS, hl⟩
set_option maxHeartbeats 4000000 in
set_option maxRecDepth 100000 in
theorem lc_force (C0 : lw_At p s m meth c b L xs) (hF : WF G s) (hg : gB G = s.heap.size) (h : LQ G s b B E S k H locs ls) (hk : k + 6 ≤ L) (hL : L ≤ 384) (hc : cells + 24 ≤ 600000) (hs : slots + 166 ≤ 7302250)
    (K : ∀ (B2 : Nat → Nat → Nat) (E2 : EN) (S2 : ST) (H2 : Heap) (locs2 : List Loc) (ls2 : Array Slot), LQ G s b B2 E2 S2 k H2 locs2 ls2 → W p l e room_1 s m #[Value.ref b] below meth c H2 locs2 (cells + 24) (slots + 166) (lw_Z below #[Value.ref b] s) (F0 m 1077 ls2 [])) :
    W p l e room_1 s m #[Value.ref b] below meth c H locs cells slots (lw_Z below #[Value.ref b] s) (F0 m 323 ls []) := by
  obtain ⟨hx, hb, hr, hml, hown, hts, hX, hbl, hlocks, hgv⟩ := id C0
  have hb : c.code = cL_law := hb
  have hown : s.vm.findClass RL = some m.cls := hown
  obtain ⟨hN, hE1, hR, hW, hS, hl⟩ := h
  have hbA : ¬ AA G b := by
    show ¬ gB G ≤ b
    omega
  have hE : 0 < E.2.2.2 := by omega
  have hN2 : 20300 ≤ E.1 := by omega
  have htl : ∀ w ∈ wsL_law, w.before #[Value.ref b] s = true := fun w h => hts w (wsL_law_in w h)
  have hfix : CallFix p m c cL_law 4 s #[Value.ref b] wsL_law RL := ⟨hx, hb, hml, hown, htl⟩
  have hK := hF.1
  obtain ⟨y1, u1⟩ : ∃ y : Int32, y = xs (nI k + 1).toNatClampNeg := ⟨_, rfl⟩
  obtain ⟨r, S1, S2, f6, f7, hR2⟩ := j_force hN2 hR y1
  refine lv_aload_n hx hb dL_law_323 rfl (lv_at hl 2 rfl) ?_
  refine lv_aload_n hx hb dL_law_324 rfl (lv_at hl 1 rfl) ?_
  refine lv_iload_n hx hb dL_law_325 rfl (lv_at hl 0 rfl) ?_
  refine lv_iconst (v := 1) hx hb dL_law_326 rfl ?_
  refine lv_iadd hx hb dL_law_327 ?_
  refine va_sld hx hb hX hbl hbA hS (show vp_in (nI k + 1) L from x_in (j := 1) (by omega) hL) dL_law_328 ?_
  refine x_nmI u1 ?_
  refine y_i (va_runV (As := [.int y1]) (rest := []) hfix (m_X6_force l G B E S y1 r S1 f6) (cwV 1 htl gL_law_X6_force rfl rfl rfl ⟨rfl, hd_X6_force⟩ ⟨Nat.le_of_ble_eq_true rfl, Nat.le_of_ble_eq_true rfl⟩) (y_pv hF hW hS (c2 E) (e2 _ _ _ _ _ _) rfl) rfl rfl hl.1 rfl (lv_room (Nat.le_of_ble_eq_true rfl)) dL_law_329 ⟨by show cells + 0 ≤ 600000; omega, by show slots + 0 ≤ 7302250; omega⟩) hS (fun H locs hW hS => ?_)
  refine lv_aload_n hx hb dL_law_332 rfl (lv_at hl 3 rfl) ?_
  refine lv_aload_n hx hb dL_law_333 rfl (lv_at hl 1 rfl) ?_
  refine lv_iload_n hx hb dL_law_334 rfl (lv_at hl 0 rfl) ?_
  refine lv_iconst (v := 1) hx hb dL_law_335 rfl ?_
  refine lv_iadd hx hb dL_law_336 ?_
  refine va_sld hx hb hX hbl hbA hS (show vp_in (nI k + 1) L from x_in (j := 1) (by omega) hL) dL_law_337 ?_
  refine x_nmI u1 ?_
  refine y_i (va_runV (As := [.int y1]) (rest := [.int r]) hfix (m_X7_force l G B E hE S1 y1 r S2 f7) (cwV 1 htl gL_law_X7_force rfl rfl rfl ⟨rfl, hd_X7_force⟩ ⟨Nat.le_of_ble_eq_true rfl, Nat.le_of_ble_eq_true rfl⟩) (y_pv hF hW hS (c1 hE) (e1 _ _ _ _ _ _) rfl) rfl rfl hl.1 rfl (lv_room (Nat.le_of_ble_eq_true rfl)) dL_law_338 ⟨by show cells + 0 ≤ 600000; omega, by show slots + 0 ≤ 7302250; omega⟩) hS (fun H locs hW hS => ?_)
  refine lv_icmp_eq (tgt := 1077) hx hb dL_law_341 (by decide) (fun _ => ?_) (fun h => absurd rfl h)
  refine W.widen (k := cells + 24) (n := slots + 166) (by omega) (by omega) ?_
  exact K B E S2 H locs ls ⟨hN, hE1, hR2, hW, hS, hl⟩
set_option maxHeartbeats 4000000 in
set_option maxRecDepth 100000 in
theorem lc_says (C0 : lw_At p s m meth c b L xs) (hF : WF G s) (hg : gB G = s.heap.size) (h : LQ G s b B E S k H locs ls) (hk : k + 6 ≤ L) (hL : L ≤ 384) (hc : cells + 24 ≤ 600000) (hs : slots + 166 ≤ 7302250)
    (K : ∀ (B2 : Nat → Nat → Nat) (E2 : EN) (S2 : ST) (H2 : Heap) (locs2 : List Loc) (ls2 : Array Slot), LQ G s b B2 E2 S2 k H2 locs2 ls2 → W p l e room_1 s m #[Value.ref b] below meth c H2 locs2 (cells + 24) (slots + 166) (lw_Z below #[Value.ref b] s) (F0 m 1077 ls2 [])) :
    W p l e room_1 s m #[Value.ref b] below meth c H locs cells slots (lw_Z below #[Value.ref b] s) (F0 m 346 ls []) := by
  obtain ⟨hx, hb, hr, hml, hown, hts, hX, hbl, hlocks, hgv⟩ := id C0
  have hb : c.code = cL_law := hb
  have hown : s.vm.findClass RL = some m.cls := hown
  obtain ⟨hN, hE1, hR, hW, hS, hl⟩ := h
  have hbA : ¬ AA G b := by
    show ¬ gB G ≤ b
    omega
  have hE : 0 < E.2.2.2 := by omega
  have hN2 : 20300 ≤ E.1 := by omega
  have htl : ∀ w ∈ wsL_law, w.before #[Value.ref b] s = true := fun w h => hts w (wsL_law_in w h)
  have hfix : CallFix p m c cL_law 4 s #[Value.ref b] wsL_law RL := ⟨hx, hb, hml, hown, htl⟩
  have hK := hF.1
  obtain ⟨y1, u1⟩ : ∃ y : Int32, y = xs (nI k + 1).toNatClampNeg := ⟨_, rfl⟩
  obtain ⟨y2, u2⟩ : ∃ y : Int32, y = xs (nI k + 2).toNatClampNeg := ⟨_, rfl⟩
  obtain ⟨y3, u3⟩ : ∃ y : Int32, y = xs (nI k + 3).toNatClampNeg := ⟨_, rfl⟩
  obtain ⟨r, S1, S2, f6, f7, hR2⟩ := j_says hN2 hR y1 y2 y3
  refine lv_aload_n hx hb dL_law_346 rfl (lv_at hl 2 rfl) ?_
  refine lv_aload_n hx hb dL_law_347 rfl (lv_at hl 1 rfl) ?_
  refine lv_iload_n hx hb dL_law_348 rfl (lv_at hl 0 rfl) ?_
  refine lv_iconst (v := 1) hx hb dL_law_349 rfl ?_
  refine lv_iadd hx hb dL_law_350 ?_
  refine va_sld hx hb hX hbl hbA hS (show vp_in (nI k + 1) L from x_in (j := 1) (by omega) hL) dL_law_351 ?_
  refine x_nmI u1 ?_
  refine lv_aload_n hx hb dL_law_352 rfl (lv_at hl 1 rfl) ?_
  refine lv_iload_n hx hb dL_law_353 rfl (lv_at hl 0 rfl) ?_
  refine lv_iconst (v := 2) hx hb dL_law_354 rfl ?_
  refine lv_iadd hx hb dL_law_355 ?_
  refine va_sld hx hb hX hbl hbA hS (show vp_in (nI k + 2) L from x_in (j := 2) (by omega) hL) dL_law_356 ?_
  refine x_nmI u2 ?_
  refine lv_aload_n hx hb dL_law_357 rfl (lv_at hl 1 rfl) ?_
  refine lv_iload_n hx hb dL_law_358 rfl (lv_at hl 0 rfl) ?_
  refine lv_iconst (v := 3) hx hb dL_law_359 rfl ?_
  refine lv_iadd hx hb dL_law_360 ?_
  refine va_sld hx hb hX hbl hbA hS (show vp_in (nI k + 3) L from x_in (j := 3) (by omega) hL) dL_law_361 ?_
  refine x_nmI u3 ?_
  refine y_i (va_runV (As := [.int y1, .int y2, .int y3]) (rest := []) hfix (m_X6_says l G B E S y1 y2 y3 r S1 f6) (cwV 3 htl gL_law_X6_says rfl rfl rfl ⟨rfl, hd_X6_says⟩ ⟨Nat.le_of_ble_eq_true rfl, Nat.le_of_ble_eq_true rfl⟩) (y_pv hF hW hS (c2 E) (e2 _ _ _ _ _ _) rfl) rfl rfl hl.1 rfl (lv_room (Nat.le_of_ble_eq_true rfl)) dL_law_362 ⟨by show cells + 0 ≤ 600000; omega, by show slots + 0 ≤ 7302250; omega⟩) hS (fun H locs hW hS => ?_)
  refine lv_aload_n hx hb dL_law_365 rfl (lv_at hl 3 rfl) ?_
  refine lv_aload_n hx hb dL_law_366 rfl (lv_at hl 1 rfl) ?_
  refine lv_iload_n hx hb dL_law_367 rfl (lv_at hl 0 rfl) ?_
  refine lv_iconst (v := 1) hx hb dL_law_368 rfl ?_
  refine lv_iadd hx hb dL_law_369 ?_
  refine va_sld hx hb hX hbl hbA hS (show vp_in (nI k + 1) L from x_in (j := 1) (by omega) hL) dL_law_370 ?_
  refine x_nmI u1 ?_
  refine lv_aload_n hx hb dL_law_371 rfl (lv_at hl 1 rfl) ?_
  refine lv_iload_n hx hb dL_law_372 rfl (lv_at hl 0 rfl) ?_
  refine lv_iconst (v := 2) hx hb dL_law_373 rfl ?_
  refine lv_iadd hx hb dL_law_374 ?_
  refine va_sld hx hb hX hbl hbA hS (show vp_in (nI k + 2) L from x_in (j := 2) (by omega) hL) dL_law_375 ?_
  refine x_nmI u2 ?_
  refine lv_aload_n hx hb dL_law_376 rfl (lv_at hl 1 rfl) ?_
  refine lv_iload_n hx hb dL_law_377 rfl (lv_at hl 0 rfl) ?_
  refine lv_iconst (v := 3) hx hb dL_law_378 rfl ?_
  refine lv_iadd hx hb dL_law_379 ?_
  refine va_sld hx hb hX hbl hbA hS (show vp_in (nI k + 3) L from x_in (j := 3) (by omega) hL) dL_law_380 ?_
  refine x_nmI u3 ?_
  refine y_i (va_runV (As := [.int y1, .int y2, .int y3]) (rest := [.int r]) hfix (m_X7_says l G B E hE S1 y1 y2 y3 r S2 f7) (cwV 3 htl gL_law_X7_says rfl rfl rfl ⟨rfl, hd_X7_says⟩ ⟨Nat.le_of_ble_eq_true rfl, Nat.le_of_ble_eq_true rfl⟩) (y_pv hF hW hS (c1 hE) (e1 _ _ _ _ _ _) rfl) rfl rfl hl.1 rfl (lv_room (Nat.le_of_ble_eq_true rfl)) dL_law_381 ⟨by show cells + 0 ≤ 600000; omega, by show slots + 0 ≤ 7302250; omega⟩) hS (fun H locs hW hS => ?_)
  refine lv_icmp_eq (tgt := 1077) hx hb dL_law_384 (by decide) (fun _ => ?_) (fun h => absurd rfl h)
  refine W.widen (k := cells + 24) (n := slots + 166) (by omega) (by omega) ?_
  exact K B E S2 H locs ls ⟨hN, hE1, hR2, hW, hS, hl⟩
set_option maxHeartbeats 4000000 in
set_option maxRecDepth 100000 in
theorem lc_thought (C0 : lw_At p s m meth c b L xs) (hF : WF G s) (hg : gB G = s.heap.size) (h : LQ G s b B E S k H locs ls) (hk : k + 6 ≤ L) (hL : L ≤ 384) (hc : cells + 24 ≤ 600000) (hs : slots + 166 ≤ 7302250)
    (K : ∀ (B2 : Nat → Nat → Nat) (E2 : EN) (S2 : ST) (H2 : Heap) (locs2 : List Loc) (ls2 : Array Slot), LQ G s b B2 E2 S2 k H2 locs2 ls2 → W p l e room_1 s m #[Value.ref b] below meth c H2 locs2 (cells + 24) (slots + 166) (lw_Z below #[Value.ref b] s) (F0 m 1077 ls2 [])) :
    W p l e room_1 s m #[Value.ref b] below meth c H locs cells slots (lw_Z below #[Value.ref b] s) (F0 m 389 ls []) := by
  obtain ⟨hx, hb, hr, hml, hown, hts, hX, hbl, hlocks, hgv⟩ := id C0
  have hb : c.code = cL_law := hb
  have hown : s.vm.findClass RL = some m.cls := hown
  obtain ⟨hN, hE1, hR, hW, hS, hl⟩ := h
  have hbA : ¬ AA G b := by
    show ¬ gB G ≤ b
    omega
  have hE : 0 < E.2.2.2 := by omega
  have hN2 : 20300 ≤ E.1 := by omega
  have htl : ∀ w ∈ wsL_law, w.before #[Value.ref b] s = true := fun w h => hts w (wsL_law_in w h)
  have hfix : CallFix p m c cL_law 4 s #[Value.ref b] wsL_law RL := ⟨hx, hb, hml, hown, htl⟩
  have hK := hF.1
  obtain ⟨y1, u1⟩ : ∃ y : Int32, y = xs (nI k + 1).toNatClampNeg := ⟨_, rfl⟩
  obtain ⟨y2, u2⟩ : ∃ y : Int32, y = xs (nI k + 2).toNatClampNeg := ⟨_, rfl⟩
  obtain ⟨y3, u3⟩ : ∃ y : Int32, y = xs (nI k + 3).toNatClampNeg := ⟨_, rfl⟩
  obtain ⟨y4, u4⟩ : ∃ y : Int32, y = xs (nI k + 4).toNatClampNeg := ⟨_, rfl⟩
  obtain ⟨r, S1, S2, f6, f7, hR2⟩ := j_thought hN2 hR y1 y2 y3 y4
  refine lv_aload_n hx hb dL_law_389 rfl (lv_at hl 2 rfl) ?_
  refine lv_aload_n hx hb dL_law_390 rfl (lv_at hl 1 rfl) ?_
  refine lv_iload_n hx hb dL_law_391 rfl (lv_at hl 0 rfl) ?_
  refine lv_iconst (v := 1) hx hb dL_law_392 rfl ?_
  refine lv_iadd hx hb dL_law_393 ?_
  refine va_sld hx hb hX hbl hbA hS (show vp_in (nI k + 1) L from x_in (j := 1) (by omega) hL) dL_law_394 ?_
  refine x_nmI u1 ?_
  refine lv_aload_n hx hb dL_law_395 rfl (lv_at hl 1 rfl) ?_
  refine lv_iload_n hx hb dL_law_396 rfl (lv_at hl 0 rfl) ?_
  refine lv_iconst (v := 2) hx hb dL_law_397 rfl ?_
  refine lv_iadd hx hb dL_law_398 ?_
  refine va_sld hx hb hX hbl hbA hS (show vp_in (nI k + 2) L from x_in (j := 2) (by omega) hL) dL_law_399 ?_
  refine x_nmI u2 ?_
  refine lv_aload_n hx hb dL_law_400 rfl (lv_at hl 1 rfl) ?_
  refine lv_iload_n hx hb dL_law_401 rfl (lv_at hl 0 rfl) ?_
  refine lv_iconst (v := 3) hx hb dL_law_402 rfl ?_
  refine lv_iadd hx hb dL_law_403 ?_
  refine va_sld hx hb hX hbl hbA hS (show vp_in (nI k + 3) L from x_in (j := 3) (by omega) hL) dL_law_404 ?_
  refine x_nmI u3 ?_
  refine lv_aload_n hx hb dL_law_405 rfl (lv_at hl 1 rfl) ?_
  refine lv_iload_n hx hb dL_law_406 rfl (lv_at hl 0 rfl) ?_
  refine lv_iconst (v := 4) hx hb dL_law_407 rfl ?_
  refine lv_iadd hx hb dL_law_408 ?_
  refine va_sld hx hb hX hbl hbA hS (show vp_in (nI k + 4) L from x_in (j := 4) (by omega) hL) dL_law_409 ?_
  refine x_nmI u4 ?_
  refine y_l (va_runV (As := [.int y1, .int y2, .int y3, .int y4]) (rest := []) hfix (m_X6_thought l G B E S y1 y2 y3 y4 r S1 f6) (cwV 4 htl gL_law_X6_thought rfl rfl rfl ⟨rfl, hd_X6_thought⟩ ⟨Nat.le_of_ble_eq_true rfl, Nat.le_of_ble_eq_true rfl⟩) (y_pv hF hW hS (c2 E) (e2 _ _ _ _ _ _) rfl) rfl rfl hl.1 rfl (lv_room (Nat.le_of_ble_eq_true rfl)) dL_law_410 ⟨by show cells + 0 ≤ 600000; omega, by show slots + 0 ≤ 7302250; omega⟩) hS (fun H locs hW hS => ?_)
  refine lv_aload_n hx hb dL_law_413 rfl (lv_at hl 3 rfl) ?_
  refine lv_aload_n hx hb dL_law_414 rfl (lv_at hl 1 rfl) ?_
  refine lv_iload_n hx hb dL_law_415 rfl (lv_at hl 0 rfl) ?_
  refine lv_iconst (v := 1) hx hb dL_law_416 rfl ?_
  refine lv_iadd hx hb dL_law_417 ?_
  refine va_sld hx hb hX hbl hbA hS (show vp_in (nI k + 1) L from x_in (j := 1) (by omega) hL) dL_law_418 ?_
  refine x_nmI u1 ?_
  refine lv_aload_n hx hb dL_law_419 rfl (lv_at hl 1 rfl) ?_
  refine lv_iload_n hx hb dL_law_420 rfl (lv_at hl 0 rfl) ?_
  refine lv_iconst (v := 2) hx hb dL_law_421 rfl ?_
  refine lv_iadd hx hb dL_law_422 ?_
  refine va_sld hx hb hX hbl hbA hS (show vp_in (nI k + 2) L from x_in (j := 2) (by omega) hL) dL_law_423 ?_
  refine x_nmI u2 ?_
  refine lv_aload_n hx hb dL_law_424 rfl (lv_at hl 1 rfl) ?_
  refine lv_iload_n hx hb dL_law_425 rfl (lv_at hl 0 rfl) ?_
  refine lv_iconst (v := 3) hx hb dL_law_426 rfl ?_
  refine lv_iadd hx hb dL_law_427 ?_
  refine va_sld hx hb hX hbl hbA hS (show vp_in (nI k + 3) L from x_in (j := 3) (by omega) hL) dL_law_428 ?_
  refine x_nmI u3 ?_
  refine lv_aload_n hx hb dL_law_429 rfl (lv_at hl 1 rfl) ?_
  refine lv_iload_n hx hb dL_law_430 rfl (lv_at hl 0 rfl) ?_
  refine lv_iconst (v := 4) hx hb dL_law_431 rfl ?_
  refine lv_iadd hx hb dL_law_432 ?_
  refine va_sld hx hb hX hbl hbA hS (show vp_in (nI k + 4) L from x_in (j := 4) (by omega) hL) dL_law_433 ?_
  refine x_nmI u4 ?_
  refine y_l (va_runV (As := [.int y1, .int y2, .int y3, .int y4]) (rest := [.long r]) hfix (m_X7_thought l G B E hE S1 y1 y2 y3 y4 r S2 f7) (cwV 4 htl gL_law_X7_thought rfl rfl rfl ⟨rfl, hd_X7_thought⟩ ⟨Nat.le_of_ble_eq_true rfl, Nat.le_of_ble_eq_true rfl⟩) (y_pv hF hW hS (c1 hE) (e1 _ _ _ _ _ _) rfl) rfl rfl hl.1 rfl (lv_room (Nat.le_of_ble_eq_true rfl)) dL_law_434 ⟨by show cells + 0 ≤ 600000; omega, by show slots + 0 ≤ 7302250; omega⟩) hS (fun H locs hW hS => ?_)
  refine W.lcmp hx hb dL_law_437 ?_
  refine x_nmI (lg_cmp_rf r).symm ?_
  refine lv_if_eq (tgt := 1077) hx hb dL_law_438 (by decide) (fun _ => ?_) (fun h => absurd rfl h)
  refine W.widen (k := cells + 24) (n := slots + 166) (by omega) (by omega) ?_
  exact K B E S2 H locs ls ⟨hN, hE1, hR2, hW, hS, hl⟩
set_option maxHeartbeats 4000000 in
set_option maxRecDepth 100000 in
theorem lc_moves (C0 : lw_At p s m meth c b L xs) (hF : WF G s) (hg : gB G = s.heap.size) (h : LQ G s b B E S k H locs ls) (hk : k + 6 ≤ L) (hL : L ≤ 384) (hc : cells + 24 ≤ 600000) (hs : slots + 166 ≤ 7302250)
    (K : ∀ (B2 : Nat → Nat → Nat) (E2 : EN) (S2 : ST) (H2 : Heap) (locs2 : List Loc) (ls2 : Array Slot), LQ G s b B2 E2 S2 k H2 locs2 ls2 → W p l e room_1 s m #[Value.ref b] below meth c H2 locs2 (cells + 24) (slots + 166) (lw_Z below #[Value.ref b] s) (F0 m 1077 ls2 [])) :
    W p l e room_1 s m #[Value.ref b] below meth c H locs cells slots (lw_Z below #[Value.ref b] s) (F0 m 443 ls []) := by
  obtain ⟨hx, hb, hr, hml, hown, hts, hX, hbl, hlocks, hgv⟩ := id C0
  have hb : c.code = cL_law := hb
  have hown : s.vm.findClass RL = some m.cls := hown
  obtain ⟨hN, hE1, hR, hW, hS, hl⟩ := h
  have hbA : ¬ AA G b := by
    show ¬ gB G ≤ b
    omega
  have hE : 0 < E.2.2.2 := by omega
  have hN2 : 20300 ≤ E.1 := by omega
  have htl : ∀ w ∈ wsL_law, w.before #[Value.ref b] s = true := fun w h => hts w (wsL_law_in w h)
  have hfix : CallFix p m c cL_law 4 s #[Value.ref b] wsL_law RL := ⟨hx, hb, hml, hown, htl⟩
  have hK := hF.1
  obtain ⟨y1, u1⟩ : ∃ y : Int32, y = xs (nI k + 1).toNatClampNeg := ⟨_, rfl⟩
  obtain ⟨y2, u2⟩ : ∃ y : Int32, y = xs (nI k + 2).toNatClampNeg := ⟨_, rfl⟩
  obtain ⟨y3, u3⟩ : ∃ y : Int32, y = xs (nI k + 3).toNatClampNeg := ⟨_, rfl⟩
  obtain ⟨r, S1, S2, f6, f7, hR2⟩ := j_moves hN2 hR y1 y2 y3
  refine lv_aload_n hx hb dL_law_443 rfl (lv_at hl 2 rfl) ?_
  refine lv_aload_n hx hb dL_law_444 rfl (lv_at hl 1 rfl) ?_
  refine lv_iload_n hx hb dL_law_445 rfl (lv_at hl 0 rfl) ?_
  refine lv_iconst (v := 1) hx hb dL_law_446 rfl ?_
  refine lv_iadd hx hb dL_law_447 ?_
  refine va_sld hx hb hX hbl hbA hS (show vp_in (nI k + 1) L from x_in (j := 1) (by omega) hL) dL_law_448 ?_
  refine x_nmI u1 ?_
  refine lv_aload_n hx hb dL_law_449 rfl (lv_at hl 1 rfl) ?_
  refine lv_iload_n hx hb dL_law_450 rfl (lv_at hl 0 rfl) ?_
  refine lv_iconst (v := 2) hx hb dL_law_451 rfl ?_
  refine lv_iadd hx hb dL_law_452 ?_
  refine va_sld hx hb hX hbl hbA hS (show vp_in (nI k + 2) L from x_in (j := 2) (by omega) hL) dL_law_453 ?_
  refine x_nmI u2 ?_
  refine lv_aload_n hx hb dL_law_454 rfl (lv_at hl 1 rfl) ?_
  refine lv_iload_n hx hb dL_law_455 rfl (lv_at hl 0 rfl) ?_
  refine lv_iconst (v := 3) hx hb dL_law_456 rfl ?_
  refine lv_iadd hx hb dL_law_457 ?_
  refine va_sld hx hb hX hbl hbA hS (show vp_in (nI k + 3) L from x_in (j := 3) (by omega) hL) dL_law_458 ?_
  refine x_nmI u3 ?_
  refine y_i (va_runV (As := [.int y1, .int y2, .int y3]) (rest := []) hfix (m_X6_moves l G B E S y1 y2 y3 r S1 f6) (cwV 3 htl gL_law_X6_moves rfl rfl rfl ⟨rfl, hd_X6_moves⟩ ⟨Nat.le_of_ble_eq_true rfl, Nat.le_of_ble_eq_true rfl⟩) (y_pv hF hW hS (c2 E) (e2 _ _ _ _ _ _) rfl) rfl rfl hl.1 rfl (lv_room (Nat.le_of_ble_eq_true rfl)) dL_law_459 ⟨by show cells + 0 ≤ 600000; omega, by show slots + 0 ≤ 7302250; omega⟩) hS (fun H locs hW hS => ?_)
  refine lv_aload_n hx hb dL_law_462 rfl (lv_at hl 3 rfl) ?_
  refine lv_aload_n hx hb dL_law_463 rfl (lv_at hl 1 rfl) ?_
  refine lv_iload_n hx hb dL_law_464 rfl (lv_at hl 0 rfl) ?_
  refine lv_iconst (v := 1) hx hb dL_law_465 rfl ?_
  refine lv_iadd hx hb dL_law_466 ?_
  refine va_sld hx hb hX hbl hbA hS (show vp_in (nI k + 1) L from x_in (j := 1) (by omega) hL) dL_law_467 ?_
  refine x_nmI u1 ?_
  refine lv_aload_n hx hb dL_law_468 rfl (lv_at hl 1 rfl) ?_
  refine lv_iload_n hx hb dL_law_469 rfl (lv_at hl 0 rfl) ?_
  refine lv_iconst (v := 2) hx hb dL_law_470 rfl ?_
  refine lv_iadd hx hb dL_law_471 ?_
  refine va_sld hx hb hX hbl hbA hS (show vp_in (nI k + 2) L from x_in (j := 2) (by omega) hL) dL_law_472 ?_
  refine x_nmI u2 ?_
  refine lv_aload_n hx hb dL_law_473 rfl (lv_at hl 1 rfl) ?_
  refine lv_iload_n hx hb dL_law_474 rfl (lv_at hl 0 rfl) ?_
  refine lv_iconst (v := 3) hx hb dL_law_475 rfl ?_
  refine lv_iadd hx hb dL_law_476 ?_
  refine va_sld hx hb hX hbl hbA hS (show vp_in (nI k + 3) L from x_in (j := 3) (by omega) hL) dL_law_477 ?_
  refine x_nmI u3 ?_
  refine y_i (va_runV (As := [.int y1, .int y2, .int y3]) (rest := [.int r]) hfix (m_X7_moves l G B E hE S1 y1 y2 y3 r S2 f7) (cwV 3 htl gL_law_X7_moves rfl rfl rfl ⟨rfl, hd_X7_moves⟩ ⟨Nat.le_of_ble_eq_true rfl, Nat.le_of_ble_eq_true rfl⟩) (y_pv hF hW hS (c1 hE) (e1 _ _ _ _ _ _) rfl) rfl rfl hl.1 rfl (lv_room (Nat.le_of_ble_eq_true rfl)) dL_law_478 ⟨by show cells + 0 ≤ 600000; omega, by show slots + 0 ≤ 7302250; omega⟩) hS (fun H locs hW hS => ?_)
  refine lv_icmp_eq (tgt := 1077) hx hb dL_law_481 (by decide) (fun _ => ?_) (fun h => absurd rfl h)
  refine W.widen (k := cells + 24) (n := slots + 166) (by omega) (by omega) ?_
  exact K B E S2 H locs ls ⟨hN, hE1, hR2, hW, hS, hl⟩
end LAWC
