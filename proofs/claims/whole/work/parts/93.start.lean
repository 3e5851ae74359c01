/-! THE LAW: what stands at its entry -/
theorem arr_prim {A : Array Value} {s : State} {ty : FieldType} (h : (Cond.arrayClass ty).before A s = true) (hra : ∀ cA, s.vm.findClass ("[" ++ ty.toString) = some cA → va_RA s cA ty) : ∃ cA : ClassId, ArrOfT s cA ty ∧ va_RA s cA ty := by
  obtain ⟨cA, k, comp, h1, h2, h3⟩ := Cond.arrayClass_spec h
  exact ⟨cA, fun N z => ⟨(fun q h => by cases h), k, h2, comp, h3⟩, hra cA h1⟩
theorem arr_obj {s : State} {C : String} (h : va_AO C s) : ∃ cA : ClassId, ArrOfT s cA (.object C) ∧ va_RA s cA (.object C) := by
  obtain ⟨comp, c, k, h1, h2, h3, h4, h5⟩ := Cond.arrayOver_spec h
  exact ⟨c, fun N z => ⟨(fun q h => by cases h), k, h3, comp, h4⟩, k, comp, h3, h4, h1, h5⟩
theorem arr_arr {A : Array Value} {s : State} (h : (Cond.arrayOver (.array .long)).before A s = true) : ∃ cA : ClassId, ArrOfT s cA (.array .long) ∧ va_RA s cA (.array .long) := by
  obtain ⟨comp, c, k, h1, h2, h3, h4, h5⟩ := arrayOverA_spec h
  exact ⟨c, fun N z => ⟨(fun q h => by cases h), k, h3, comp, h4⟩, h5⟩
def nestFc : List Cond := nestF.map fun q => .fieldLinkNest q.1 q.2.1 q.2.2.1 q.2.2.2.1 q.2.2.2.2.1 q.2.2.2.2.2
def nestMc : List Cond := nestM.map fun q => .methodLinkNest q.1 q.2.1 ⟨q.2.2.1, q.2.2.2.1, q.2.2.2.2.1⟩ q.2.2.2.2.2
set_option maxRecDepth 100000 in
theorem nestF_in : ∀ w ∈ nestFc, w ∈ lw_tbl := mem_r _ [235, 237, 239, 398, 400, 462, 464, 466, 468, 470] rfl
set_option maxRecDepth 100000 in
theorem nestM_in : ∀ w ∈ nestMc, w ∈ lw_tbl := mem_r _ [136, 175, 200, 230, 296, 371, 393, 457, 497, 521, 528, 562, 566, 574, 610, 615, 619, 636, 640, 644, 653, 662, 671, 683, 717, 732, 736, 746, 754, 762, 771, 791, 802] rfl
set_option maxRecDepth 100000 in
theorem el_par : ∀ j, j < 6 → (Cond.eq (.elem (.static "MovesUp" "PARENTS" "[I") (.int (Int32.ofNat j))) (.int (([-1, 0, 0, 0, 1, 3] : List Int32).getD j 0))) ∈ flatC (Jvm.Cond.and given_1 narrow_1) := by decide +kernel
set_option maxRecDepth 100000 in
theorem el_tx0 : ∀ j, j < 100 → (Cond.eq (.elem (.field (.string "MovesUp" 84) "java/lang/String" "value" "[B") (.int (Int32.ofNat j))) (.int ((txByt.getD 0 []).getD j 0))) ∈ flatC (Jvm.Cond.and given_1 narrow_1) := by decide +kernel
set_option maxRecDepth 100000 in
theorem el_tx1 : ∀ j, j < 59 → (Cond.eq (.elem (.field (.string "MovesUp$Reader" 122) "java/lang/String" "value" "[B") (.int (Int32.ofNat j))) (.int ((txByt.getD 1 []).getD j 0))) ∈ flatC (Jvm.Cond.and given_1 narrow_1) := by decide +kernel
section LAWS
variable {p : Program} {s : State} {m : MethodId} {meth : Method} {c : Code} {b L : Nat} {xs : Nat → Int32}
set_option maxHeartbeats 8000000 in
set_option maxRecDepth 100000 in
theorem law_WF (C0 : lw_At p s m meth c b L xs) : ∃ G : GE, gB G = s.heap.size ∧ WF G s := by
  obtain ⟨hx, hb, hr, hml, hown, hts, hX, hbl, hlocks, hgv⟩ := id C0
  have hfl := flat_of_before _ hgv
  have hA : ∀ a : Nat, a < s.heap.size → ¬ (fun q : Nat => s.heap.size ≤ q) a := fun a h => Nat.not_le.mpr h
  have tm : ∀ (i : Nat) {w : Cond}, lw_tbl[i]? = some w → w.before #[Value.ref b] s = true := fun i w h => hts w (List.mem_of_getElem? h)
  obtain ⟨c0, i0, k0⟩ := u_known (C := RX0) (T := TX0) (N := 6) (n := 6) hts inX0 (tm 174 rfl)
  obtain ⟨c1, i1, k1⟩ := u_known (C := RX1) (T := TX1) (N := 7) (n := 7) hts inX1 (tm 199 rfl)
  obtain ⟨c2, i2, k2⟩ := u_known (C := RX2) (T := TX2) (N := 7) (n := 7) hts inX2 (tm 456 rfl)
  obtain ⟨c3, i3, k3⟩ := u_known (C := RX3) (T := TX3) (N := 10) (n := 10) hts inX3 (tm 135 rfl)
  obtain ⟨c4, i4, k4⟩ := u_known (C := RX4) (T := TX4) (N := 3) (n := 3) hts inX4 (tm 229 rfl)
  obtain ⟨c5, i5, k5⟩ := u_known (C := RX5) (T := TX5) (N := 2) (n := 2) hts inX5 (tm 376 rfl)
  obtain ⟨c6, i6, k6⟩ := u_known (C := RX6) (T := TX6) (N := 15) (n := 15) hts inX6 (tm 121 rfl)
  obtain ⟨c7, i7, k7⟩ := u_known (C := RX7) (T := TX7) (N := 47) (n := 47) hts inX7 (tm 832 rfl)
  obtain ⟨a0, x0, y0⟩ := arr_prim (ty := .int) (tm 172 rfl) (fun _ h => h)
  obtain ⟨a1, x1, y1⟩ := arr_prim (ty := .long) (tm 228 rfl) (fun _ h => h)
  obtain ⟨a2, x2, y2⟩ := arr_prim (ty := .byte) (tm 171 rfl) (fun _ h => h)
  obtain ⟨a3, x3, y3⟩ := arr_prim (ty := .boolean) (tm 1010 rfl) (fun _ h => h)
  have o4 : va_AO "MovesUp$Pupil" s := va_AO.of (tm 129 rfl)
  have o5 : va_AO "MovesUp$Text" s := va_AO.of (tm 131 rfl)
  have o6 : va_AO "MovesUp$Row" s := va_AO.of (tm 133 rfl)
  have o7 : (Cond.arrayOver (.array .long)).before #[] s = true := tm 205 rfl
  obtain ⟨a4, x4, y4⟩ := arr_obj o4
  obtain ⟨a5, x5, y5⟩ := arr_obj o5
  obtain ⟨a6, x6, y6⟩ := arr_obj o6
  obtain ⟨a7, x7, y7⟩ := arr_arr o7
  obtain ⟨tP, hPe, hPT⟩ := va_Tof (tm := .static "MovesUp" "PARENTS" "[I") (ty := .int) (N := 6) (f := fun j => .int (([-1, 0, 0, 0, 1, 3] : List Int32).getD j 0)) (A := fun q : Nat => s.heap.size ≤ q) (by decide) (hfl _ (by decide +kernel)) (va_eqt (hfl (Cond.eq (.length (.static "MovesUp" "PARENTS" "[I")) (.int 6)) (by decide +kernel))) (fun j hj => va_eqt (hfl _ (el_par j hj))) hA
  obtain ⟨adK, adV, hS, he⟩ := vk_Sof (args := #[Value.ref b]) (s := s) (N := 2) (tm := fun i => if i = 0 then .string "MovesUp" 84 else .string "MovesUp$Reader" 122) (len := txLen) (byt := txByt) (A := fun q : Nat => s.heap.size ≤ q)
    (fun i hi => by
      match i, hi with
      | 0, _ => decide
      | 1, _ => decide)
    (fun i hi => by
      match i, hi with
      | 0, _ => exact hfl (Cond.exactly (.string "MovesUp" 84) "java/lang/String") (by decide +kernel)
      | 1, _ => exact hfl (Cond.exactly (.string "MovesUp$Reader" 122) "java/lang/String") (by decide +kernel))
    (fun i hi => by
      match i, hi with
      | 0, _ => exact hfl (Cond.eq (.field (.string "MovesUp" 84) "java/lang/String" "coder" "B") (.int 0)) (by decide +kernel)
      | 1, _ => exact hfl (Cond.eq (.field (.string "MovesUp$Reader" 122) "java/lang/String" "coder" "B") (.int 0)) (by decide +kernel))
    (fun i hi => by
      match i, hi with
      | 0, _ => exact hfl (Cond.arrayOf (.field (.string "MovesUp" 84) "java/lang/String" "value" "[B") .byte) (by decide +kernel)
      | 1, _ => exact hfl (Cond.arrayOf (.field (.string "MovesUp$Reader" 122) "java/lang/String" "value" "[B") .byte) (by decide +kernel))
    (fun i hi => by
      match i, hi with
      | 0, _ => exact hfl (Cond.eq (.length (.field (.string "MovesUp" 84) "java/lang/String" "value" "[B")) (.int 100)) (by decide +kernel)
      | 1, _ => exact hfl (Cond.eq (.length (.field (.string "MovesUp$Reader" 122) "java/lang/String" "value" "[B")) (.int 59)) (by decide +kernel))
    (fun i hi => by
      match i, hi with
      | 0, _ => exact fun j hj => hfl _ (el_tx0 j hj)
      | 1, _ => exact fun j hj => hfl _ (el_tx1 j hj))
    (fun i j hi hj hij => by
      match i, j, hi, hj with
      | 0, 0, _, _ => exact absurd rfl hij
      | 1, 1, _, _ => exact absurd rfl hij
      | 0, 1, _, _ => exact Or.inl (hfl (Cond.not (Cond.eq (.string "MovesUp" 84) (.string "MovesUp$Reader" 122))) (by decide +kernel))
      | 1, 0, _, _ => exact Or.inr (hfl (Cond.not (Cond.eq (.string "MovesUp" 84) (.string "MovesUp$Reader" 122))) (by decide +kernel)))
    hA
  refine ⟨((fun k => if k = 0 then c0 else if k = 1 then c1 else if k = 2 then c2 else if k = 3 then c3 else if k = 4 then c4 else if k = 5 then c5 else if k = 6 then c6 else c7, fun k => if k = 0 then i0 else if k = 1 then i1 else if k = 2 then i2 else if k = 3 then i3 else if k = 4 then i4 else if k = 5 then i5 else if k = 6 then i6 else i7),
    fun k => if k = 0 then a0 else if k = 1 then a1 else if k = 2 then a2 else if k = 3 then a3 else if k = 4 then a4 else if k = 5 then a5 else if k = 6 then a6 else a7, s.heap.size, tP, adK, adV), rfl, ⟨fun k q hq => ?_, fun k q hq => ?_⟩, ⟨fun q hq => ?_, fun q hq => ?_, o4, o5, o6, va_tabs rfl rfl (tm 385 (w := .castable "[I" "java/lang/Cloneable") rfl), o7⟩, ⟨?_, ?_, ?_, ?_, ?_⟩, ⟨?_, ?_⟩⟩
  · match k, hq with
    | 0, hq => cases hq; exact k0
    | 1, hq => cases hq; exact k1
    | 2, hq => cases hq; exact k2
    | 3, hq => cases hq; exact k3
    | 4, hq => cases hq; exact k4
    | 5, hq => cases hq; exact k5
    | 6, hq => cases hq; exact k6
    | 7, hq => cases hq; exact k7
    | k + 8, hq => simp [vwCl] at hq
  · match k, hq with
    | 0, hq => cases hq; exact ⟨x0, y0⟩
    | 1, hq => cases hq; exact ⟨x1, y1⟩
    | 2, hq => cases hq; exact ⟨x2, y2⟩
    | 3, hq => cases hq; exact ⟨x3, y3⟩
    | 4, hq => cases hq; exact ⟨x4, y4⟩
    | 5, hq => cases hq; exact ⟨x5, y5⟩
    | 6, hq => cases hq; exact ⟨x6, y6⟩
    | 7, hq => cases hq; exact ⟨x7, y7⟩
    | k + 8, hq => simp [tyl] at hq
  · exact va_tabs rfl rfl (hts _ (nestF_in _ (List.mem_map_of_mem hq)))
  · exact va_tabs rfl rfl (hts _ (nestM_in _ (List.mem_map_of_mem hq)))
  · exact va_Zref (tm 824 rfl) (tm 104 rfl) hPe hA
  · exact hPT
  · exact va_Zof (tm 257 rfl) (tm 109 rfl) (va_eqi (hfl (Cond.eq (.static "java/lang/String" "COMPACT_STRINGS" "Z") (.int 1)) (by decide +kernel))) hA
  · exact va_Zqof (tm 273 rfl) (tm 111 rfl) (hfl (Cond.isRef (.static "jdk/internal/util/Preconditions" "SIOOBE_FORMATTER" "Ljava/util/function/BiFunction;")) (by decide +kernel)) hA
  · exact hS
  · exact vk_R.of (A := #[Value.ref b]) (tm 247 rfl) (he 0 (by decide))
  · exact vk_R.of (A := #[Value.ref b]) (tm 318 rfl) (he 1 (by decide))
end LAWS
