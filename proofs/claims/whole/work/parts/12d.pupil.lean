/-! MAKERS: pupil, its contract -/
theorem hd_X2_init : yX2_init.cls ≠ "java/lang/invoke/MethodHandle" ∧ yX2_init.cls ≠ "java/lang/invoke/VarHandle" ∧ (parseMethodDescriptor yX2_init.desc).map (fun d => d.parameters.length) = some 4 := ⟨by decide +kernel, by decide +kernel, by decide +kernel⟩
/-- what a method answers that makes cells -/
abbrev QE (G : GE) (B : Nat → Nat → Nat) (E : EN) (S : ST) (r : Int32) : Array Value → State → Outcome → State → Prop := va_Qi (fun (r2 : Int32) (_ : Unit) => r2 = r) (fun _ t => ∃ B' : Nat → Nat → Nat, BX B B' ∧ WS G B' E S t) (AA G)
section MAKE3
variable {p : Program} {l : Launch} {e : Env} {R : Room} {s : State} {m : MethodId} {args : Array Value} {below : List Frame} {meth : Method} {c : Code} {H : Heap} {locs : List Loc} {cells slots : Nat} {Q : State → Prop}
variable {cc : ByteArray} {pc : Nat} {ls : Array Slot} {rest st0 : List Value} {a : Nat} {G : GE} {B B1 : Nat → Nat → Nat} {E E1 E2 : EN} {S S1 S2 : ST} {K i K2 i2 : Nat}
theorem z_e {v r : Int32} {ty : FieldType} (hf : (v, E1, S1) = (r, E2, S2)) (hX : BX B B1) (hx : p.tables.exec = Jvm.exec) (hb : c.code = cc) (hr : meth.sig.returnType = some ty) (hn : narrow ty (.int v) = .int v) (hF : WF G s) (hW : WH G B1 E1 S1 H) (hS : va_S (AA G) s.heap H locs) (hdg : decode cc pc = .ok (.ireturn, 1)) (hlocks : meth.locks = false) : W p l e R s m args below meth c H locs cells slots (MQ below (QE G B E2 S2 r) args s cells slots (AA G)) (F0 m pc ls [.int v]) := by
  cases hf
  exact W.zret hx hb hr hn (fun _ ht hw => ⟨⟨v, (), rfl, rfl, B1, hX, WS.call hF hW hS ht hw⟩, hS.F ht⟩) hS.2.2 hdg hlocks
end MAKE3
theorem hA_of {G : GE} {B : Nat → Nat → Nat} {E : EN} {S : ST} {H : Heap} (h : WH G B E S H) : ∀ q : Nat, H.size ≤ q → AA G q := fun q hq => by
  have h1 := h.2.2 2 0 (c2 E)
  have h2 := (h.1 2 0 (c2 E)).lt
  have h3 : B 2 0 < H.size := h2
  show gB G ≤ q
  omega
/-- pupil, as the class does it -/
def pup6 (E : EN) (S : ST) (a1 a2 : Int32) : Int32 × EN × ST :=
  if a1 < 0 then (-2, E, S) else if (6 : Int32) ≤ a1 then (-2, E, S) else if 0 ≤ a2 then
    if (5 : Int32) ≤ a2 / 100 then (-2, E, S) else if rmI (a2 / 10) 10 < 4 then
      if gI S 2 0 1 < 8 then
        (gI (sI (sR (pupC S E.2.1 a1 (a2 / 100) (rmI (a2 / 10) 10) (rmI a2 10)) 3 0 E.2.1 (some E.2.1)) 2 0 1 (gI S 2 0 1 + 1)) 2 0 1 - 1, (E.1, E.2.1 + 1, E.2.2), sI (sR (pupC S E.2.1 a1 (a2 / 100) (rmI (a2 / 10) 10) (rmI a2 10)) 3 0 E.2.1 (some E.2.1)) 2 0 1 (gI S 2 0 1 + 1))
      else (-4, E, S)
    else (-2, E, S)
  else (-2, E, S)
set_option maxHeartbeats 4000000 in
set_option maxRecDepth 100000 in
theorem m_X6_pupil (l : Launch) (G : GE) (B : Nat → Nat → Nat) (E : EN) (S : ST) (a1 a2 : Int32) (rr : Int32) (EE : EN) (SS : ST) (hf : pup6 E S a1 a2 = (rr, EE, SS)) (hnp : gI S 2 0 1 = nI E.2.1) (hn8 : E.2.1 ≤ 8) (hroll : ∀ j x, S.2.2 3 0 j = some x → x < E.2.1) :
    Met l yX6_pupil wsX6_pupil { frames := 2, cells := 3, slots := 17, locals := 120 } (va_Pc [.ref (B 2 0), .int a1, .int a2] (WS G B E S)) (QE G B EE SS rr) 3 17 (AA G) := by
  refine Met.ofW (cc := cX6_pupil) (maxL := 5) (ret := (some .int)) (by decide) rfl ?_
  intro p e s m args below meth c s₁ B0 hml hv
  obtain ⟨rfl, hW, hF⟩ := hv
  have hx := B0.exec
  have hb := B0.bytes
  have hr := B0.returns
  have hts := atoms_spec (ws := wsX6_pupil) B0.pre
  have hown : s.vm.findClass RX6 = some m.cls := findClass_of_methodNamed B0.named
  have hlocks := B0.notSynchronized
  have hK := hF.1
  have hfix : CallFix p m c cX6_pupil 5 s [.ref (B 2 0), .int a1, .int a2].toArray wsX6_pupil RX6 := ⟨hx, hb, hml, hown, hts⟩
  have hS : va_S (AA G) s.heap s.heap [] := va_S.rf
  have hA := hA_of hW
  have hl := lv_entry [.ref (B 2 0), .int a1, .int a2] (n := 5) (Nat.le_of_ble_eq_true rfl)
  rw [lg_entry_eq]
  generalize (lg_sl [.ref (B 2 0), .int a1, .int a2] ++ List.replicate (5 - (lg_sl [.ref (B 2 0), .int a1, .int a2]).length) Slot.unset).toArray = ls at hl ⊢
  have hl : lv_has ls 5 [(0, .ref (B 2 0)), (1, .int a1), (2, .int a2)] := hl
  have q1 := hts (.fieldLink RX6 15 "MovesUp" "rollSize" "I") (List.mem_of_getElem? (i := 1) rfl)
  have q2 := hts (.fieldLink RX6 11 "MovesUp" "roll" "[LMovesUp$Pupil;") (List.mem_of_getElem? (i := 2) rfl)
  have q3 := hts (.classLink RX6 9 RX2) (List.mem_of_getElem? (i := 3) rfl)
  have q4 := hts (.instantiable RX2 7) (List.mem_of_getElem? (i := 4) rfl)
  have q5 := hts (.initialized RX2) (List.mem_of_getElem? (i := 5) rfl)
  have q6 := hts (.instanceMethod yX2_init) (List.mem_of_getElem? (i := 6) rfl)
  have hi2 : ∀ w ∈ u_ws RX2 TX2 7, w ∈ wsX6_pupil := in_seg 34 rfl
  have hi6 : ∀ w ∈ u_ws RX6 TX6 15, w ∈ wsX6_pupil := in_seg 19 rfl
  unfold pup6 at hf
  refine lv_iload_n hx hb dX6_pupil_0 rfl (lv_at hl 1 rfl) ?_
  refine lv_if_lt (tgt := 14) hx hb dX6_pupil_1 (by decide) (fun h => ?_) (fun h => ?_)
  · have hf := if_t h hf
    refine lv_bipush (v := -2) hx hb dX6_pupil_14 (by decide) ?_
    refine W.widen (k := 3) (n := 17) (Nat.le_of_ble_eq_true rfl) (Nat.le_of_ble_eq_true rfl) ?_
    exact z_e hf BX.rf hx hb hr rfl hF hW hS dX6_pupil_16 hlocks
  have hf := if_f h hf
  refine lv_iload_n hx hb dX6_pupil_4 rfl (lv_at hl 1 rfl) ?_
  refine lv_bipush (v := 6) hx hb dX6_pupil_5 (by decide) ?_
  refine lv_icmp_ge (tgt := 14) hx hb dX6_pupil_7 (by decide) (fun h => ?_) (fun h => ?_)
  · have hf := if_t h hf
    refine lv_bipush (v := -2) hx hb dX6_pupil_14 (by decide) ?_
    refine W.widen (k := 3) (n := 17) (Nat.le_of_ble_eq_true rfl) (Nat.le_of_ble_eq_true rfl) ?_
    exact z_e hf BX.rf hx hb hr rfl hF hW hS dX6_pupil_16 hlocks
  have hf := if_f h hf
  refine lv_iload_n hx hb dX6_pupil_10 rfl (lv_at hl 2 rfl) ?_
  refine lv_if_ge (tgt := 17) hx hb dX6_pupil_11 (by decide) (fun h => ?_) (fun h => ?_)
  rotate_left
  · have hf := if_f h hf
    refine lv_bipush (v := -2) hx hb dX6_pupil_14 (by decide) ?_
    refine W.widen (k := 3) (n := 17) (Nat.le_of_ble_eq_true rfl) (Nat.le_of_ble_eq_true rfl) ?_
    exact z_e hf BX.rf hx hb hr rfl hF hW hS dX6_pupil_16 hlocks
  have hf := if_t h hf
  refine lv_iload_n hx hb dX6_pupil_17 rfl (lv_at hl 2 rfl) ?_
  refine lv_bipush (v := 100) hx hb dX6_pupil_18 (by decide) ?_
  refine lv_idiv hx hb dX6_pupil_20 (by decide) ?_
  generalize ex3 : a2 / 100 = x3 at hf
  refine lv_istore_n (lv' := [(3, .int x3), (0, .ref (B 2 0)), (1, .int a1), (2, .int a2)]) hx hb dX6_pupil_21 rfl hl (by decide) rfl (fun ls hl => ?_)
  refine lv_iload_n hx hb dX6_pupil_22 rfl (lv_at hl 3 rfl) ?_
  refine lv_bipush (v := 10) hx hb dX6_pupil_23 (by decide) ?_
  refine lv_idiv hx hb dX6_pupil_25 (by decide) ?_
  refine lv_bipush (v := 10) hx hb dX6_pupil_26 (by decide) ?_
  refine x_irem hx hb dX6_pupil_28 (by decide) ?_
  generalize ex4 : rmI (a2 / 10) 10 = x4 at hf
  refine lv_istore (lv' := [(4, .int x4), (3, .int x3), (0, .ref (B 2 0)), (1, .int a1), (2, .int a2)]) hx hb dX6_pupil_29 hl (by decide) rfl (fun ls hl => ?_)
  refine lv_iload_n hx hb dX6_pupil_31 rfl (lv_at hl 1 rfl) ?_
  refine lv_iconst (v := 5) hx hb dX6_pupil_32 rfl ?_
  refine lv_icmp_ge (tgt := 42) hx hb dX6_pupil_33 (by decide) (fun h => ?_) (fun h => ?_)
  · have hf := if_t h hf
    refine lv_bipush (v := -2) hx hb dX6_pupil_42 (by decide) ?_
    refine W.widen (k := 3) (n := 17) (Nat.le_of_ble_eq_true rfl) (Nat.le_of_ble_eq_true rfl) ?_
    exact z_e hf BX.rf hx hb hr rfl hF hW hS dX6_pupil_44 hlocks
  have hf := if_f h hf
  refine lv_iload hx hb dX6_pupil_36 (lv_at hl 0 rfl) ?_
  refine lv_iconst (v := 4) hx hb dX6_pupil_38 rfl ?_
  refine lv_icmp_lt (tgt := 45) hx hb dX6_pupil_39 (by decide) (fun h => ?_) (fun h => ?_)
  rotate_left
  · have hf := if_f h hf
    refine lv_bipush (v := -2) hx hb dX6_pupil_42 (by decide) ?_
    refine W.widen (k := 3) (n := 17) (Nat.le_of_ble_eq_true rfl) (Nat.le_of_ble_eq_true rfl) ?_
    exact z_e hf BX.rf hx hb hr rfl hF hW hS dX6_pupil_44 hlocks
  have hf := if_t h hf
  refine lv_aload_n hx hb dX6_pupil_45 rfl (lv_at hl 2 rfl) ?_
  refine x_get hx hb hts hi6 hown hK hW (c2 E) (e2 _ _ _ _ _ _) rfl 1 (Nat.le_of_ble_eq_true rfl) q1 (fun _ h => h) (v := .int (gI S 2 0 1)) rfl dX6_pupil_46 ?_
  refine lv_bipush (v := 8) hx hb dX6_pupil_49 (by decide) ?_
  refine lv_icmp_lt (tgt := 57) hx hb dX6_pupil_51 (by decide) (fun h => ?_) (fun h => ?_)
  rotate_left
  · have hf := if_f h hf
    refine lv_bipush (v := -4) hx hb dX6_pupil_54 (by decide) ?_
    refine W.widen (k := 3) (n := 17) (Nat.le_of_ble_eq_true rfl) (Nat.le_of_ble_eq_true rfl) ?_
    exact z_e hf BX.rf hx hb hr rfl hF hW hS dX6_pupil_56 hlocks
  have hlt : E.2.1 < 8 := by
    rw [hnp] at h
    have := Int32.lt_iff_toInt_lt.mp h
    rw [nI_toInt (by omega)] at this
    have h8 : ((8 : Int32)).toInt = 8 := rfl
    omega
  have hf := if_t h hf
  refine lv_aload_n hx hb dX6_pupil_57 rfl (lv_at hl 2 rfl) ?_
  refine x_get hx hb hts hi6 hown hK hW (c2 E) (e2 _ _ _ _ _ _) rfl 0 (Nat.le_of_ble_eq_true rfl) q2 (fun _ h => h) (v := .ref (B 3 0)) rfl dX6_pupil_58 ?_
  refine lv_aload_n hx hb dX6_pupil_61 rfl (lv_at hl 2 rfl) ?_
  refine x_get hx hb hts hi6 hown hK hW (c2 E) (e2 _ _ _ _ _ _) rfl 1 (Nat.le_of_ble_eq_true rfl) q1 (fun _ h => h) (v := .int (gI S 2 0 1)) rfl dX6_pupil_62 ?_
  refine va_new (D := gD G) (ci := 2) (fs := [.int 0, .int 0, .int 0, .int 0, .null, .int 0, .null]) (C := RX2) (T := TX2) (N := 7) hx hb hts hi2 tyX2 tyX2_ok hown q3 q4 q5 hK (wl_P hW) (wl_D hW) hS hA rfl (by decide) (Nat.le_of_ble_eq_true rfl) (Nat.le_of_ble_eq_true rfl) dX6_pupil_65 (fun q0 H hP1 hD1 hS => ?_)
  have hW := hW.of_P hP1
  refine W.widen (k := 1) (n := 7) (Nat.le_of_ble_eq_true rfl) (Nat.le_of_ble_eq_true rfl) ?_
  refine lv_dup hx hb dX6_pupil_68 rfl ?_
  refine lv_iload_n hx hb dX6_pupil_69 rfl (lv_at hl 3 rfl) ?_
  refine lv_iload_n hx hb dX6_pupil_70 rfl (lv_at hl 1 rfl) ?_
  refine lv_iload hx hb dX6_pupil_71 (lv_at hl 0 rfl) ?_
  refine lv_iload_n hx hb dX6_pupil_73 rfl (lv_at hl 4 rfl) ?_
  refine lv_bipush (v := 10) hx hb dX6_pupil_74 (by decide) ?_
  refine x_irem hx hb dX6_pupil_76 (by decide) ?_
  generalize ex5 : rmI a2 10 = x5 at hf
  have hq0 : ∀ K i, i < cnt E K → B K i ≠ q0 := fun K i hi => wl_new hD1 hi
  have hg0 : gB G ≤ q0 := wl_lastA hD1
  have hfr : ∀ x, va_A [(q0, .inr (2, [.int 0, .int 0, .int 0, .int 0, .null, .int 0, .null]))] H.size x → AA G x := fun x hx => by
    rcases va_A1 hx with y | y
    · subst y; exact hg0
    · exact hA x (Nat.le_trans hS.1 y)
  have hsz0 := hS.1
  refine va_callv (va_runIN (As := [.int a1, .int x3, .int x4, .int x5]) (rest := [.ref q0, .int (gI S 2 0 1), .ref (B 3 0)]) hfix (m_X2_init l G q0 H.size a1 x3 x4 x5) ⟨va_cnB 4 hts gX6_pupil_X2_init_n104 rfl rfl rfl (NW.m hF.2.1 7 (q := ("MovesUp", 104, "MovesUp$Pupil", "<init>", "(IIII)V", "MovesUp")) rfl) q5 hd_X2_init ⟨Nat.le_of_ble_eq_true rfl, Nat.le_of_ble_eq_true rfl⟩, rfl, q6⟩ (wp_pre (wl_last hP1) hK one_D) rfl rfl hl.1 rfl (lv_room (Nat.le_of_ble_eq_true rfl)) dX6_pupil_77 ⟨Nat.le_of_ble_eq_true rfl, Nat.le_of_ble_eq_true rfl⟩) hS (fun q _ h => hfr q h) hfr (fun u t H1 locs ht hvm _ hB hz1 hk1 hS => ?_)
  obtain ⟨r1, r2, hP2, hD2⟩ := hB
  rw [ht] at hP2
  have old : ∀ K i, i < cnt E K → B K i < H.size := fun K i hi => (hW.1 K i hi).lt
  have d01 : q0 ≠ r1 := fun y => absurd (hD2.1 0 1 _ _ rfl rfl y) (by decide)
  have d02 : q0 ≠ r2 := fun y => absurd (hD2.1 0 2 _ _ rfl rfl y) (by decide)
  have d12 : r1 ≠ r2 := fun y => absurd (hD2.1 1 2 _ _ rfl rfl y) (by decide)
  have n1 : H.size ≤ r1 := (va_A1 (hD2.2 1 _ rfl)).resolve_left (fun y => d01 y.symm)
  have n2 : H.size ≤ r2 := (va_A1 (hD2.2 2 _ rfl)).resolve_left (fun y => d02 y.symm)
  have hW := hW.pupil (E := E) (q := q0) (q1 := r1) (q2 := r2) hroll (fun K i hi => hk1 _ (old K i hi) (fun y => by
    rcases va_A1 y with y | y
    · exact hq0 K i hi y
    · have := old K i hi
      omega)) hP2 ⟨d01, d02, d12⟩ (fun K i hi => ⟨hq0 K i hi, by have := old K i hi; omega, by have := old K i hi; omega⟩) ⟨hg0, hA _ (Nat.le_trans hsz0 n1), hA _ (Nat.le_trans hsz0 n2)⟩
  have hX : BX B (b3 B 20 E.2.1 q0 r1 r2) := BX.pupil
  have hq : b3 B 20 E.2.1 q0 r1 r2 20 E.2.1 = q0 := b3_0 _ _ _ _ _ _
  generalize b3 B 20 E.2.1 q0 r1 r2 = B' at hW hX hq
  have hB3 : B' 3 0 = B 3 0 := by rw [hX 3 (by decide) (by decide)]
  have hB2 : B' 2 0 = B 2 0 := by rw [hX 2 (by decide) (by decide)]
  have hl : lv_has ls 5 [(4, .int x4), (3, .int x3), (0, .ref (B' 2 0)), (1, .int a1), (2, .int a2)] := by rw [hB2]; exact hl
  refine W.widen (k := 3) (n := 17) (Nat.le_of_ble_eq_true rfl) (Nat.le_of_ble_eq_true rfl) ?_
  refine W.eq (g2 := F0 m 80 ls [.ref (B' 20 E.2.1), .int (gI S 2 0 1), .ref (B' 3 0)]) (by rw [hq, hB3]) ?_
  refine x_astR (n := 8) (E := (E.1, E.2.1 + 1, E.2.2)) (S := pupC S E.2.1 a1 x3 x4 x5) (S1 := sR (pupC S E.2.1 a1 x3 x4 x5) 3 0 E.2.1 (some E.2.1)) (t0 := 4) (r := (RX2, TX2, 7)) hx hb hK hW hS (c3 _) (show E.2.1 < E.2.1 + 1 by omega) rfl (fun rr => e3 _ _ _ _ _ rr) (e20 _ _ _ _ _ _) rfl (vp_in_iff.mpr (by rw [hnp, nI_toInt (by omega)]; omega)) (by rw [hnp, q_cl (by omega)]) rfl dX6_pupil_80 (fun H locs hW hS => ?_)
  refine lv_aload_n hx hb dX6_pupil_81 rfl (lv_at hl 2 rfl) ?_
  refine lv_dup hx hb dX6_pupil_82 rfl ?_
  refine x_get hx hb hts hi6 hown hK hW (c2 _) (e2 _ _ _ _ _ _) rfl 1 (Nat.le_of_ble_eq_true rfl) q1 (fun _ h => h) (v := .int (gI S 2 0 1)) rfl dX6_pupil_83 ?_
  refine lv_iconst (v := 1) hx hb dX6_pupil_86 rfl ?_
  refine lv_iadd hx hb dX6_pupil_87 ?_
  refine x_putI (S1 := sI (sR (pupC S E.2.1 a1 x3 x4 x5) 3 0 E.2.1 (some E.2.1)) 2 0 1 (gI S 2 0 1 + 1)) hx hb hts hi6 tyX6 tyX6_ok nmX6 hown hK hW hS (c2 _) (e2 _ _ _) rfl 1 (Nat.le_of_ble_eq_true rfl) q1 (fun _ h => h) rfl (tyX6_ok 1 (Nat.le_of_ble_eq_true rfl)) rfl rfl (Nat.le_of_ble_eq_true rfl) (pu2_1 _ _) rfl dX6_pupil_88 (fun H locs hW hS => ?_)
  refine lv_aload_n hx hb dX6_pupil_91 rfl (lv_at hl 2 rfl) ?_
  refine x_get hx hb hts hi6 hown hK hW (c2 _) (e2 _ _ _ _ _ _) rfl 1 (Nat.le_of_ble_eq_true rfl) q1 (fun _ h => h) (v := .int (gI (sI (sR (pupC S E.2.1 a1 x3 x4 x5) 3 0 E.2.1 (some E.2.1)) 2 0 1 (gI S 2 0 1 + 1)) 2 0 1)) rfl dX6_pupil_92 ?_
  refine lv_iconst (v := 1) hx hb dX6_pupil_95 rfl ?_
  refine lv_isub hx hb dX6_pupil_96 ?_
  exact z_e hf hX hx hb hr rfl hF hW hS dX6_pupil_97 hlocks
