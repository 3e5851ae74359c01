/-! MAKERS: a new text -/
theorem wl_in {G : GE} {B : Nat → Nat → Nat} {E : EN} {S : ST} {k : Nat} {x : Nat × va_E} (h : (wl G B E S)[k]? = some x) : ∃ K i : Nat, i < cnt E K ∧ x.1 = B K i := by
  unfold wl at h
  rw [List.getElem?_map] at h
  obtain ⟨a, ha, rfl⟩ := Option.map_eq_some_iff.mp h
  exact ⟨a.1, a.2, allc_in (List.mem_of_getElem? ha), rfl⟩
theorem wx_r {G : GE} {B : Nat → Nat → Nat} {E : EN} {S : ST} {r : va_W} {H : Heap} (h : va_P (gD G) vwCl (wl G B E S ++ r) H) : va_P (gD G) vwCl r H := fun k x hx => h ((wl G B E S).length + k) x (by rw [List.getElem?_append_right (Nat.le_add_right _ _), Nat.add_sub_cancel_left]; exact hx)
theorem wx_d {G : GE} {B : Nat → Nat → Nat} {E : EN} {S : ST} {r : va_W} {A : Nat → Prop} (h : va_D A (wl G B E S ++ r)) : va_D A r := by
  have up : ∀ (k : Nat) (x : Nat × va_E), r[k]? = some x → (wl G B E S ++ r)[(wl G B E S).length + k]? = some x := fun k x hx => by
    rw [List.getElem?_append_right (Nat.le_add_right _ _), Nat.add_sub_cancel_left]
    exact hx
  refine ⟨fun i j p q hp hq e => ?_, fun k q hq => h.2 _ q (up k q hq)⟩
  have := h.1 _ _ p q (up i p hp) (up j q hq) e
  omega
theorem wx_n {G : GE} {B : Nat → Nat → Nat} {E : EN} {S : ST} {r : va_W} {A : Nat → Prop} (h : va_D A (wl G B E S ++ r)) {K i : Nat} (hi : i < cnt E K) {k : Nat} {x : Nat × va_E} (hx : r[k]? = some x) : B K i ≠ x.1 := fun e => by
  obtain ⟨k', -, hk'⟩ := wl_at (G := G) (B := B) (S := S) hi
  have hl := (List.getElem?_eq_some_iff.mp hk').1
  have := h.1 k' ((wl G B E S).length + k) _ _ (by rw [List.getElem?_append_left hl]; exact hk') (by rw [List.getElem?_append_right (Nat.le_add_right _ _), Nat.add_sub_cancel_left]; exact hx) e
  omega
theorem wx_D {G : GE} {B : Nat → Nat → Nat} {E : EN} {S : ST} {H : Heap} (h : WH G B E S H) {r : va_W} (hr : va_D (AA G) r) (hx : ∀ (k : Nat) (x : Nat × va_E), r[k]? = some x → ∀ K i : Nat, i < cnt E K → B K i ≠ x.1) : va_D (AA G) (wl G B E S ++ r) :=
  (wl_D h).app hr (fun i j p q hp hq e => by
    obtain ⟨K, i', h1, h2⟩ := wl_in hp
    exact hx j q hq K i' h1 (h2.symm.trans e))
theorem one_P {G : GE} {H : Heap} {x : Nat × va_E} (h : va_at (gD G) vwCl x H) : va_P (gD G) vwCl [x] H := fun k y hy => by
  match k, hy with
  | 0, hy => cases hy; exact h
  | k + 1, hy => simp at hy
theorem one_DA {A : Nat → Prop} {q : Nat} {x : va_E} (h : A q) : va_D A [(q, x)] := ⟨(one_D (q := q) (x := x)).1, fun k y hy => by
  match k, hy with
  | 0, hy => cases hy; exact h
  | k + 1, hy => simp at hy⟩
theorem two_D {A : Nat → Prop} {q1 q2 : Nat} {x1 x2 : va_E} (h1 : A q1) (h2 : A q2) (hn : q1 ≠ q2) : va_D A [(q1, x1), (q2, x2)] :=
  va_D.app (one_DA h1) (one_DA h2) (fun i j p q hp hq => by
    match i, j, hp, hq with
    | 0, 0, hp, hq => cases hp; cases hq; exact hn
    | 0, j + 1, _, hq => simp at hq
    | i + 1, _, hp, _ => simp at hp)
theorem WH.back {G : GE} {B : Nat → Nat → Nat} {E : EN} {S : ST} {H H1 : Heap} (h : WH G B E S H) {K i : Nat} (hi : i < cnt E K) {x : va_E} (hk : ∀ q : Nat, q < H.size → ¬ va_A [(B K i, x)] H.size q → H1[q]? = H[q]?) (he : va_at (gD G) vwCl (B K i, entL (gC G) B K i (S.1 K i) (S.2.1 K i) (S.2.2 K i)) H1) : WH G B E S H1 := by
  refine ⟨fun K2 i2 h2 => ?_, h.2.1, h.2.2⟩
  by_cases e : K2 = K ∧ i2 = i
  · obtain ⟨rfl, rfl⟩ := e
    exact he
  · have hlt : B K2 i2 < H.size := (h.1 K2 i2 h2).lt
    refine (h.1 K2 i2 h2).kept (hk _ hlt (fun y => ?_))
    rcases va_A1 y with y | y
    · exact e (h.2.1 K2 i2 K i h2 hi y)
    · omega
theorem arrV_cong {cA : ClassId} {N : Nat} {f f2 : Nat → Int32} (h : ∀ j, j < N → f j = f2 j) : vp_cell cA (N, .inl f) = vp_cell cA (N, .inl f2) := by
  show arrV cA N (fun j => .int (f j)) = arrV cA N (fun j => .int (f2 j))
  unfold arrV
  rw [show (fun j : Fin N => Value.int (f j.val)) = (fun j : Fin N => Value.int (f2 j.val)) from funext fun j => by rw [h j.val j.isLt]]
/-- the cells of one more text -/
def texC (S : ST) (j : Nat) (g : Nat → Int32) (L : Nat) : ST := aI (aL (aI S 31 j g) 31 j (fun _ => lN L)) 32 j (S.1 14 0)
theorem texC_o {S : ST} {j : Nat} {g : Nat → Int32} {L : Nat} (K i : Nat) (h : ¬ ((K = 30 ∨ K = 31 ∨ K = 32) ∧ i = j)) : (texC S j g L).1 K i = S.1 K i ∧ (texC S j g L).2.1 K i = S.2.1 K i ∧ (texC S j g L).2.2 K i = S.2.2 K i := by
  refine ⟨?_, ?_, rfl⟩
  · show ct (ct S.1 31 j g) 32 j (S.1 14 0) K i = S.1 K i
    rw [ct_ne _ _ _ _ (by omega), ct_ne _ _ _ _ (by omega)]
  · show ct S.2.1 31 j (fun _ => lN L) K i = S.2.1 K i
    rw [ct_ne _ _ _ _ (by omega)]
theorem texC_1 {S : ST} {j : Nat} {g : Nat → Int32} {L : Nat} : (texC S j g L).1 31 j = g := by
  show ct (ct S.1 31 j g) 32 j (S.1 14 0) 31 j = _
  rw [ct_ne _ _ _ _ (by omega), ct_at]
theorem texC_L {S : ST} {j : Nat} {g : Nat → Int32} {L : Nat} : (texC S j g L).2.1 31 j = fun _ => lN L := by
  show ct S.2.1 31 j (fun _ => lN L) 31 j = _
  rw [ct_at]
theorem texC_2 {S : ST} {j : Nat} {g : Nat → Int32} {L : Nat} : (texC S j g L).1 32 j = S.1 14 0 := by
  show ct (ct S.1 31 j g) 32 j (S.1 14 0) 32 j = _
  rw [ct_at]
theorem WH.text {G : GE} {B : Nat → Nat → Nat} {E : EN} {S : ST} {H H1 : Heap} (h : WH G B E S H) {q q1 q2 L : Nat} {g : Nat → Int32} (hL : L ≤ 160)
    (hr : ∀ j x, S.2.2 4 0 j = some x → x < E.2.2.1) (hr0 : ∀ x, S.2.2 10 0 0 = some x → x < E.2.2.1) (hk : ∀ K i, i < cnt E K → H1[B K i]? = H[B K i]?)
    (hP : va_P (gD G) vwCl [(q, .inr (5, [.ref q1, .ref q2])), (q1, .inl (gC G 0, L, .inl g)), (q2, .inl (gC G 0, 4, .inl (S.1 14 0)))] H1)
    (ha : q ≠ q1 ∧ q ≠ q2 ∧ q1 ≠ q2) (hb : ∀ K i, i < cnt E K → B K i ≠ q ∧ B K i ≠ q1 ∧ B K i ≠ q2) (hg : gB G ≤ q ∧ gB G ≤ q1 ∧ gB G ≤ q2) :
    WH G (b3 B 30 E.2.2.1 q q1 q2) (E.1, E.2.1, E.2.2.1 + 1, E.2.2.2) (texC S E.2.2.1 g L) H1 := by
  obtain ⟨N, np, nt, nr⟩ := E
  refine h.grow (fun K i hi => ?_) (fun K hK => ?_) hk (fun K i hi => texC_o K i (fun y => ?_)) (fun K i hi => ?_) ?_ ?_ ?_ ha hb hg
  · by_cases y : K = 30 ∨ K = 31 ∨ K = 32
    · have : i < nt + 1 := by rcases y with rfl | rfl | rfl <;> exact hi
      by_cases z : i = nt
      · exact Or.inr ⟨y, z⟩
      · refine Or.inl ?_
        have : i < nt := by omega
        rcases y with rfl | rfl | rfl <;> exact this
    · exact Or.inl (by rw [cnt_t (c' := nt + 1) y]; exact hi)
  · rcases hK with rfl | rfl | rfl <;> exact Nat.lt_irrefl nt
  · obtain ⟨y, rfl⟩ := y
    rcases y with rfl | rfl | rfl <;> exact Nat.lt_irrefl _ hi
  · have nb : ∀ K2 i2, ¬ ((K2 = 30 ∨ K2 = 31 ∨ K2 = 32) ∧ i2 = nt) → b3 B 30 nt q q1 q2 K2 i2 = B K2 i2 := fun K2 i2 y => b3_n _ _ _ _ _ _ y
    refine entL_cong _ K i _ _ _ (fun K2 _ _ _ y0 y1 y2 => funext fun i2 => nb K2 i2 (by omega)) (fun _ => ⟨nb _ _ (by omega), nb _ _ (by omega)⟩) (fun e => ?_) (fun _ _ x _ => nb _ _ (by omega)) (fun e j x hx => ?_) (fun e x hx => ?_)
    · subst e
      have : i < nt := hi
      exact ⟨nb _ _ (by omega), nb _ _ (by omega)⟩
    · subst e
      have hi0 : i < 1 := hi
      have : i = 0 := by omega
      subst this
      have := hr j x hx
      exact nb _ _ (fun y => by have : x < nt := this; omega)
    · subst e
      have hi0 : i < 1 := hi
      have : i = 0 := by omega
      subst this
      have := hr0 x hx
      exact nb _ _ (fun y => by have : x < nt := this; omega)
  · rw [e30]
    unfold fl30
    rw [b3_1 B 30, b3_2 B 30]
    exact hP 0 _ rfl
  · rw [show (30 + 1 : Nat) = 31 from rfl, e31, texC_1, texC_L]
    show va_at (gD G) vwCl (q1, .inl (gC G 0, (lN L).toInt.toNat, .inl g)) H1
    rw [lN_toInt (by omega)]
    exact hP 1 _ rfl
  · rw [show (30 + 2 : Nat) = 32 from rfl, e32, texC_2]
    exact hP 2 _ rfl
theorem BX.text {B : Nat → Nat → Nat} {j q q1 q2 : Nat} : BX B (b3 B 30 j q q1 q2) := fun K a b => funext fun i => b3_n _ _ _ _ _ _ (by omega)
theorem hd_J7_copyOf : yJ7_copyOf_59c91.cls ≠ "java/lang/invoke/MethodHandle" ∧ yJ7_copyOf_59c91.cls ≠ "java/lang/invoke/VarHandle" ∧ (parseMethodDescriptor yJ7_copyOf_59c91.desc).map (fun d => d.parameters.length) = some 2 := ⟨by decide, by decide, by decide +kernel⟩
theorem hd_X5_init : yX5_init.cls ≠ "java/lang/invoke/MethodHandle" ∧ yX5_init.cls ≠ "java/lang/invoke/VarHandle" ∧ (parseMethodDescriptor yX5_init.desc).map (fun d => d.parameters.length) = some 2 := ⟨by decide, by decide, by decide +kernel⟩
theorem hd_X3_made : yX3_made.cls ≠ "java/lang/invoke/MethodHandle" ∧ yX3_made.cls ≠ "java/lang/invoke/VarHandle" ∧ (parseMethodDescriptor yX3_made.desc).map (fun d => d.parameters.length) = some 0 := ⟨by decide, by decide, by decide +kernel⟩
set_option maxHeartbeats 4000000 in
set_option maxRecDepth 100000 in
theorem m_X3_made (l : Launch) (G : GE) (B : Nat → Nat → Nat) (E : EN) (S : ST) (L : Nat) (hL8 : gI S 8 0 8 = nI L) (hL : L ≤ 160) (hr : ∀ j x, S.2.2 4 0 j = some x → x < E.2.2.1) (hr0 : ∀ x, S.2.2 10 0 0 = some x → x < E.2.2.1) :
    Met l yX3_made wsX3_made { frames := 3, cells := 3, slots := 166, locals := 180 } (va_Pc [.ref (B 8 0)] (WS G B E S)) (va_Qr (fun _ : Unit => True) (fun _ q t => ∃ B' : Nat → Nat → Nat, BX B B' ∧ B' 30 E.2.2.1 = q ∧ WS G B' (E.1, E.2.1, E.2.2.1 + 1, E.2.2.2) (texC S E.2.2.1 (S.1 9 0) L) t) (AA G)) 3 166 (AA G) := by
  refine Met.ofW (cc := cX3_made) (maxL := 1) (ret := (some (.object "MovesUp$Text"))) (by decide) rfl ?_
  intro p e s m args below meth c s₁ B0 hml hv
  obtain ⟨rfl, hW, hF⟩ := hv
  have hx := B0.exec
  have hb := B0.bytes
  have hrt := B0.returns
  have hts := atoms_spec (ws := wsX3_made) B0.pre
  have hown : s.vm.findClass RX3 = some m.cls := findClass_of_methodNamed B0.named
  have hlocks := B0.notSynchronized
  have hK := hF.1
  have hfix : CallFix p m c cX3_made 1 s [.ref (B 8 0)].toArray wsX3_made RX3 := ⟨hx, hb, hml, hown, hts⟩
  have hS : va_S (AA G) s.heap s.heap [] := va_S.rf
  have hA := hA_of hW
  have hN : va_Nw (.castable "[I" "java/lang/Cloneable") s := hF.2.1.2.2.2.2.2.1
  have hnm : s.vm.findClass "[I" = some (gC G 0) := va_nm_int (hK.2 0 _ rfl).2
  have hl := lv_entry [.ref (B 8 0)] (n := 1) (Nat.le_of_ble_eq_true rfl)
  rw [lg_entry_eq]
  generalize (lg_sl [.ref (B 8 0)] ++ List.replicate (1 - (lg_sl [.ref (B 8 0)]).length) Slot.unset).toArray = ls at hl ⊢
  have hl : lv_has ls 1 [(0, .ref (B 8 0))] := hl
  have q1 := hts (.classLink RX3 60 RX5) (List.mem_of_getElem? (i := 1) rfl)
  have q2 := hts (.instantiable RX5 2) (List.mem_of_getElem? (i := 2) rfl)
  have q3 := hts (.initialized RX5) (List.mem_of_getElem? (i := 3) rfl)
  have q4 := hts (.fieldLink RX3 30 "MovesUp$Reader" "code" "[I") (List.mem_of_getElem? (i := 4) rfl)
  have q5 := hts (.fieldLink RX3 34 "MovesUp$Reader" "length" "I") (List.mem_of_getElem? (i := 5) rfl)
  have q6 := hts (.fieldLink RX3 37 "MovesUp$Reader" "starts" "[I") (List.mem_of_getElem? (i := 6) rfl)
  have hi5 : ∀ w ∈ u_ws RX5 TX5 2, w ∈ wsX3_made := in_seg 35 rfl
  have hi3 : ∀ w ∈ u_ws RX3 TX3 10, w ∈ wsX3_made := in_seg 37 rfl
  refine va_new (D := gD G) (ci := 5) (fs := [.null, .null]) (C := RX5) (T := TX5) (N := 2) hx hb hts hi5 tyX5 tyX5_ok hown q1 q2 q3 hK (wl_P hW) (wl_D hW) hS hA rfl (by decide) (Nat.le_of_ble_eq_true rfl) (Nat.le_of_ble_eq_true rfl) dX3_made_0 (fun q0 H hP1 hD1 hS => ?_)
  have hW := hW.of_P hP1
  refine W.widen (k := 1) (n := 2) (Nat.le_of_ble_eq_true rfl) (Nat.le_of_ble_eq_true rfl) ?_
  refine lv_dup hx hb dX3_made_3 rfl ?_
  refine lv_aload_n hx hb dX3_made_4 rfl (lv_at hl 0 rfl) ?_
  refine x_get hx hb hts hi3 hown hK hW (c8 E) (e8 _ _ _ _ _ _) rfl 7 (Nat.le_of_ble_eq_true rfl) q4 (fun _ h => h) (v := .ref (B 9 0)) rfl dX3_made_5 ?_
  refine lv_aload_n hx hb dX3_made_8 rfl (lv_at hl 0 rfl) ?_
  refine x_get hx hb hts hi3 hown hK hW (c8 E) (e8 _ _ _ _ _ _) rfl 8 (Nat.le_of_ble_eq_true rfl) q5 (fun _ h => h) (v := .int (gI S 8 0 8)) rfl dX3_made_9 ?_
  refine x_nmI hL8.symm ?_
  have hq0 : ∀ K i, i < cnt E K → B K i ≠ q0 := fun K i hi => wl_new hD1 hi
  have hg0 : gB G ≤ q0 := wl_lastA hD1
  have hP9 : va_P (gD G) vwCl [(B 9 0, .inl (gC G 0, 160, .inl (S.1 9 0)))] H := hW.one (c9 E)
  have hg9 : gB G ≤ B 9 0 := hW.2.2 9 0 (c9 E)
  have hz0 := hS.1
  have hfr : ∀ x, va_A [(B 9 0, .inl (gC G 0, 160, .inl (S.1 9 0)))] H.size x → AA G x := fun x hx => by
    rcases va_A1 hx with y | y
    · subst y; exact hg9
    · exact hA x (Nat.le_trans hz0 y)
  refine va_callr (va_runS (As := [.ref (B 9 0), .int (nI L)]) (rest := [.ref q0, .ref q0]) hfix (m_J7_copyOf l G (B 9 0) H.size (S.1 9 0) L hL) (va_cwS 2 hts gX3_made_J7_copyOf_59c91 rfl rfl rfl hd_J7_copyOf ⟨Nat.le_of_ble_eq_true rfl, Nat.le_of_ble_eq_true rfl⟩) (wN_pre hP9 hK one_D hN) rfl rfl hl.1 rfl (lv_room (Nat.le_of_ble_eq_true rfl)) dX3_made_12 ⟨Nat.le_of_ble_eq_true rfl, Nat.le_of_ble_eq_true rfl⟩) hS (fun q _ h => hfr q h) hfr (fun u r1 t H1 locs ht hvm _ hB hz1 hk1 hS => ?_)
  obtain ⟨g, hg, hP2, hD2⟩ := hB
  rw [ht] at hP2
  have hlt0 : q0 < H.size := (wl_last hP1 0 _ rfl).lt
  have n01 : q0 < H1.size := Nat.lt_of_lt_of_le hlt0 hz1
  have d91 : B 9 0 ≠ r1 := fun y => absurd (hD2.1 0 1 _ _ rfl rfl y) (by decide)
  have n1 : H.size ≤ r1 := (va_A1 (hD2.2 1 _ rfl)).resolve_left (fun y => d91 y.symm)
  have old1 : ∀ K i, i < cnt E K → B K i < H.size := fun K i hi => (hW.1 K i hi).lt
  have hW2 : WH G B E S H1 := hW.back (c9 E) hk1 (hP2 0 _ rfl)
  have a0 : va_at (gD G) vwCl (q0, .inr (5, [.null, .null])) H1 := (wl_last hP1 0 _ rfl).kept (hk1 _ hlt0 (fun y => by
    rcases va_A1 y with y | y
    · exact hq0 9 0 (c9 E) y.symm
    · omega))
  have a1 : va_at (gD G) vwCl (r1, .inl (gC G 0, L, .inl (S.1 9 0))) H1 := by
    have := hP2 1 _ rfl
    have this : H1[r1]? = some (vp_cell (gC G 0) (L, .inl g)) := this
    show H1[r1]? = some (vp_cell (gC G 0) (L, .inl (S.1 9 0)))
    rw [this, arrV_cong hg]
  have hg1 : gB G ≤ r1 := hA _ (Nat.le_trans hz0 n1)
  refine W.widen (k := 2) (n := 162) (Nat.le_of_ble_eq_true rfl) (Nat.le_of_ble_eq_true rfl) ?_
  refine lv_aload_n hx hb dX3_made_15 rfl (lv_at hl 0 rfl) ?_
  refine x_get hx hb hts hi3 hown hK hW2 (c8 E) (e8 _ _ _ _ _ _) rfl 9 (Nat.le_of_ble_eq_true rfl) q6 (fun _ h => h) (v := .ref (B 14 0)) rfl dX3_made_16 ?_
  have hP3 : va_P (gD G) vwCl (wl G B E S ++ [(q0, .inr (5, [.null, .null])), (r1, .inl (gC G 0, L, .inl (S.1 9 0)))]) H1 := (wl_P hW2).app (va_P.app (one_P a0) (one_P a1))
  have hD3 : va_D (AA G) (wl G B E S ++ [(q0, .inr (5, [.null, .null])), (r1, .inl (gC G 0, L, .inl (S.1 9 0)))]) := wx_D hW2 (two_D hg0 hg1 (by omega)) (fun k x hx K i hi => by
    match k, hx with
    | 0, hx => cases hx; exact hq0 K i hi
    | 1, hx => cases hx; have := old1 K i hi; show B K i ≠ r1; omega
    | k + 2, hx => simp at hx)
  obtain ⟨k14, -, g14⟩ := wl_at (G := G) (B := B) (S := S) (c14 E)
  have h14 : (wl G B E S ++ [(q0, .inr (5, [.null, .null])), (r1, .inl (gC G 0, L, .inl (S.1 9 0)))])[k14]? = some (B 14 0, .inl (gC G 0, 4, .inl (S.1 14 0))) := by
    rw [List.getElem?_append_left (List.getElem?_eq_some_iff.mp g14).1]
    exact g14
  refine va_clone (x := (4, .inl (S.1 14 0))) hx hb (hml.trans hl.1.symm) hown (hts (.methodLink RX3 68 ⟨"[I", "clone", "()Ljava/lang/Object;"⟩) (List.mem_of_getElem? (i := 7) rfl)) (hts (.sameMethod "[I" "java/lang/Object" "clone" "()Ljava/lang/Object;") (List.mem_of_getElem? (i := 8) rfl)) (hts (.native ⟨"java/lang/Object", "clone", "()Ljava/lang/Object;"⟩) (List.mem_of_getElem? (i := 9) rfl)) (hts (.instanceMethod ⟨"java/lang/Object", "clone", "()Ljava/lang/Object;"⟩) (List.mem_of_getElem? (i := 10) rfl)) (hts (.selects "[I" ⟨"[I", "clone", "()Ljava/lang/Object;"⟩ ⟨"java/lang/Object", "clone", "()Ljava/lang/Object;"⟩) (List.mem_of_getElem? (i := 11) rfl)) hN hK hP3 hD3 hS hA k14 0 h14 rfl hnm (fun i v hv => cl_fit hv) (Nat.le_of_ble_eq_true rfl) (Nat.le_of_ble_eq_true rfl) (Nat.le_of_ble_eq_true rfl) (Nat.le_of_ble_eq_true rfl) dX3_made_19 (fun r2 H2 _ hP4 hD4 hS => ?_)
  refine W.widen (k := 3) (n := 166) (Nat.le_of_ble_eq_true rfl) (Nat.le_of_ble_eq_true rfl) ?_
  have hP4 : va_P (gD G) vwCl (wl G B E S ++ [(q0, .inr (5, [.null, .null])), (r1, .inl (gC G 0, L, .inl (S.1 9 0))), (r2, .inl (gC G 0, 4, .inl (S.1 14 0)))]) H2 := by
    rw [List.append_assoc] at hP4
    exact hP4
  have hD4 : va_D (AA G) (wl G B E S ++ [(q0, .inr (5, [.null, .null])), (r1, .inl (gC G 0, L, .inl (S.1 9 0))), (r2, .inl (gC G 0, 4, .inl (S.1 14 0)))]) := by
    rw [List.append_assoc] at hD4
    exact hD4
  have hW3 : WH G B E S H2 := hW2.of_P hP4
  have hP5 := wx_r hP4
  have hD5 := wx_d hD4
  refine va_castA hx hb hown (hts (.classLink RX3 69 "[I") (List.mem_of_getElem? (i := 12) rfl)) hP5 2 rfl hnm dX3_made_22 ?_
  have hP0 : va_P (gD G) vwCl [(q0, .inr (5, [.null, .null]))] H2 := one_P (hP5 0 _ rfl)
  have hz2 := hS.1
  have hfr2 : ∀ x, va_A [(q0, .inr (5, [.null, .null]))] H2.size x → AA G x := fun x hx => by
    rcases va_A1 hx with y | y
    · subst y; exact hg0
    · exact hA x (Nat.le_trans hz2 y)
  refine va_callv (va_runIN (As := [.ref r1, .ref r2]) (rest := [.ref q0]) hfix (m_X5_init l G q0 H2.size r1 r2) ⟨va_cnB 2 hts gX3_made_X5_init_n73 rfl rfl rfl (NW.m hF.2.1 6 (q := ("MovesUp$Reader", 73, "MovesUp$Text", "<init>", "([I[I)V", "MovesUp")) rfl) q3 hd_X5_init ⟨Nat.le_of_ble_eq_true rfl, Nat.le_of_ble_eq_true rfl⟩, rfl, hts (.instanceMethod yX5_init) (List.mem_of_getElem? (i := 28) rfl)⟩ (wp_pre hP0 hK one_D) rfl rfl hl.1 rfl (lv_room (Nat.le_of_ble_eq_true rfl)) dX3_made_25 ⟨Nat.le_of_ble_eq_true rfl, Nat.le_of_ble_eq_true rfl⟩) hS (fun q _ h => hfr2 q h) hfr2 (fun u t H3 locs ht hvm _ hB hz3 hk3 hS => ?_)
  obtain ⟨hP6, -⟩ := hB
  rw [ht] at hP6
  have d01 : q0 ≠ r1 := fun y => absurd (hD5.1 0 1 _ _ rfl rfl y) (by decide)
  have d02 : q0 ≠ r2 := fun y => absurd (hD5.1 0 2 _ _ rfl rfl y) (by decide)
  have d12 : r1 ≠ r2 := fun y => absurd (hD5.1 1 2 _ _ rfl rfl y) (by decide)
  have hkk : ∀ q, q < H2.size → q ≠ q0 → H3[q]? = H2[q]? := fun q h1 h2 => hk3 q h1 (fun y => by
    rcases va_A1 y with y | y
    · exact h2 y
    · omega)
  have k1 : va_at (gD G) vwCl (r1, .inl (gC G 0, L, .inl (S.1 9 0))) H3 := (hP5 1 _ rfl).kept (hkk _ (hP5 1 _ rfl).lt d01.symm)
  have k2 : va_at (gD G) vwCl (r2, .inl (gC G 0, 4, .inl (S.1 14 0))) H3 := (hP5 2 _ rfl).kept (hkk _ (hP5 2 _ rfl).lt d02.symm)
  have hW4 := hW3.text (q := q0) (q1 := r1) (q2 := r2) hL hr hr0 (fun K i hi => hkk _ (hW3.1 K i hi).lt (hq0 K i hi)) (va_P.app hP6 (va_P.app (one_P k1) (one_P k2))) ⟨d01, d02, d12⟩ (fun K i hi => ⟨hq0 K i hi, wx_n hD4 hi (k := 1) rfl, wx_n hD4 hi (k := 2) rfl⟩) ⟨hg0, hg1, hD5.2 2 _ rfl⟩
  have hX : BX B (b3 B 30 E.2.2.1 q0 r1 r2) := BX.text
  have hq : b3 B 30 E.2.2.1 q0 r1 r2 30 E.2.2.1 = q0 := b3_0 _ _ _ _ _ _
  refine W.widen (k := 3) (n := 166) (Nat.le_of_ble_eq_true rfl) (Nat.le_of_ble_eq_true rfl) ?_
  exact W.aret hx hb hrt (Or.inl ⟨_, rfl⟩) (Or.inr ⟨_, rfl⟩) (fun t ht hw => ⟨⟨(), q0, rfl, trivial, _, hX, hq, WS.call hF hW4 hS ht hw⟩, hS.F ht⟩) hS.2.2 dX3_made_28 hlocks
