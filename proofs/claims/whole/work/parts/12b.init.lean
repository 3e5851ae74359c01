/-! MAKERS: the constructors (by program: wip/whole/gen/cons.py) -/
set_option maxHeartbeats 4000000 in
set_option maxRecDepth 100000 in
theorem m_X2_init (l : Launch) (G : GE) (h0 sz : Nat) (a1 : Int32) (a2 : Int32) (a3 : Int32) (a4 : Int32) : Met l yX2_init wsX2_init { frames := 1, cells := 2, slots := 10, locals := 60 } (va_Pc [.ref h0, .int a1, .int a2, .int a3, .int a4] (fun U => U.heap.size = sz ∧ va_P (gD G) vwCl [(h0, .inr (2, [.int 0, .int 0, .int 0, .int 0, .null, .int 0, .null]))] U.heap ∧ va_K (gD G) vwCl (tyl G) U ∧ va_D (fun _ => True) [(h0, .inr (2, [.int 0, .int 0, .int 0, .int 0, .null, .int 0, .null]))])) (va_Qv (fun _ : Unit => True) (fun _ t => ∃ q1 q2 : Nat, va_P (gD G) vwCl [(h0, .inr (2, [.int a1, .int a3, .int a4, .int a2, .ref q1, .int 0, .ref q2])), (q1, .inl (gC G 0, 5, .inl (upd (fun _ => 0) 0 (1)))), (q2, .inl (gC G 0, 5, .inl (fun _ => 0)))] t.heap ∧ va_D (va_A [(h0, .inr (2, [.int 0, .int 0, .int 0, .int 0, .null, .int 0, .null]))] sz) [(h0, .inr (2, [.int a1, .int a3, .int a4, .int a2, .ref q1, .int 0, .ref q2])), (q1, .inl (gC G 0, 5, .inl (upd (fun _ => 0) 0 (1)))), (q2, .inl (gC G 0, 5, .inl (fun _ => 0)))]) (va_A [(h0, .inr (2, [.int 0, .int 0, .int 0, .int 0, .null, .int 0, .null]))] sz)) 2 10 (va_A [(h0, .inr (2, [.int 0, .int 0, .int 0, .int 0, .null, .int 0, .null]))] sz) := by
  refine Met.ofW (cc := cX2_init) (maxL := 5) (ret := none) (by decide) rfl ?_
  intro p e s m args below meth c s₁ B0 hml hv
  obtain ⟨rfl, hsz, hP, hK, hD0⟩ := hv
  have hx := B0.exec
  have hb := B0.bytes
  have hr := B0.returns
  have hts := atoms_spec (ws := wsX2_init) B0.pre
  have hown : s.vm.findClass RX2 = some m.cls := findClass_of_methodNamed B0.named
  have hlocks := B0.notSynchronized
  have hin : meth.name = "<init>" := (name_of_methodNamed B0.named B0.method).1
  subst hsz
  have hD := hD0.self (sz := s.heap.size)
  generalize hAe : va_A [(h0, .inr (2, [.int 0, .int 0, .int 0, .int 0, .null, .int 0, .null]))] s.heap.size = A at hD ⊢
  have hA : ∀ q : Nat, s.heap.size ≤ q → A q := fun q h => by rw [← hAe]; exact Or.inr h
  have hS : va_S A s.heap s.heap [] := va_S.rf
  have hP : va_P (gD G) vwCl [(h0, .inr (2, [.int 0, .int 0, .int 0, .int 0, .null, .int 0, .null]))] s.heap := hP
  have hiX2 : ∀ w ∈ u_ws RX2 TX2 7, w ∈ wsX2_init := in_seg 12 rfl
  have hl := lv_entry ([.ref h0, .int a1, .int a2, .int a3, .int a4]) (n := 5) (Nat.le_of_ble_eq_true rfl)
  rw [lg_entry_eq]
  generalize (lg_sl ([.ref h0, .int a1, .int a2, .int a3, .int a4]) ++ List.replicate (5 - (lg_sl ([.ref h0, .int a1, .int a2, .int a3, .int a4])).length) Slot.unset).toArray = ls at hl ⊢
  have hl : lv_has ls 5 [(0, .ref h0), (1, .int a1), (2, .int a2), (3, .int a3), (4, .int a4)] := hl
  refine lv_aload_n hx hb dX2_init_0 rfl (lv_at hl 0 rfl) ?_
  refine W.objInit hx hb hown (hts (.methodLink RX2 3 objectInit) (List.mem_of_getElem? (i := 1) rfl)) (hts (.instanceMethod objectInit) (List.mem_of_getElem? (i := 2) rfl)) (hts (.code objectInit ⟨#[0xb1]⟩ 1 none) (List.mem_of_getElem? (i := 3) rfl)) rfl (by rw [hml]; exact hl.1) rfl dX2_init_1 (Nat.le_of_ble_eq_true rfl) (Nat.le_of_ble_eq_true rfl) ?_
  refine W.eq (g2 := F0 m 4 ls []) rfl ?_
  refine lv_aload_n hx hb dX2_init_4 rfl (lv_at hl 0 rfl) ?_
  refine lv_iconst (v := 5) hx hb dX2_init_5 rfl ?_
  refine y_newa (atype := .int) (ty := .int) (N' := 5) (a0 := (5, .inl (fun _ => 0))) hx hb (hts (.arrayClass .int) (List.mem_of_getElem? (i := 4) rfl)) rfl hK hP hD hS hA 0 rfl (fun _ => rfl) (by decide) rfl (Nat.le_of_ble_eq_true rfl) (Nat.le_of_ble_eq_true rfl) (Nat.le_of_ble_eq_true rfl) dX2_init_6 (fun q1 H hP hD hS => ?_)
  have hP : va_P (gD G) vwCl [(h0, .inr (2, [.int 0, .int 0, .int 0, .int 0, .null, .int 0, .null])), (q1, .inl (gC G 0, 5, .inl (fun _ => 0)))] H := hP
  have hD : va_D A [(h0, .inr (2, [.int 0, .int 0, .int 0, .int 0, .null, .int 0, .null])), (q1, .inl (gC G 0, 5, .inl (fun _ => 0)))] := hD
  refine W.widen (k := 1) (n := 5) (Nat.le_of_ble_eq_true rfl) (Nat.le_of_ble_eq_true rfl) ?_
  refine va_putF (D := gD G) (ci := 2) (v := .ref q1) (ty := .array .int) (C := RX2) (T := TX2) (N := 7) hx hb hts hiX2 tyX2 tyX2_ok nmX2 hown hK hP hD hS 0 rfl rfl 4 (Nat.le_of_ble_eq_true rfl) (hts (.fieldLink RX2 9 "MovesUp$Pupil" "weights" "[I") (List.mem_of_getElem? (i := 5) rfl)) (fun _ h9 => h9) rfl hin rfl (by decide +kernel) rfl rfl (Nat.le_of_ble_eq_true rfl) dX2_init_8 (fun H locs hP hD hS => ?_)
  have hP : va_P (gD G) vwCl [(h0, .inr (2, [.int 0, .int 0, .int 0, .int 0, .ref q1, .int 0, .null])), (q1, .inl (gC G 0, 5, .inl (fun _ => 0)))] H := hP
  have hD : va_D A [(h0, .inr (2, [.int 0, .int 0, .int 0, .int 0, .ref q1, .int 0, .null])), (q1, .inl (gC G 0, 5, .inl (fun _ => 0)))] := hD
  refine lv_aload_n hx hb dX2_init_11 rfl (lv_at hl 0 rfl) ?_
  refine lv_iconst (v := 0) hx hb dX2_init_12 rfl ?_
  refine va_put (D := gD G) (ci := 2) (v := .int 0) (ty := .int) (C := RX2) (T := TX2) (N := 7) hx hb hts hiX2 tyX2 tyX2_ok nmX2 hown hK hP hD hS 0 rfl rfl 5 (Nat.le_of_ble_eq_true rfl) (hts (.fieldLink RX2 15 "MovesUp$Pupil" "imageClass" "I") (List.mem_of_getElem? (i := 6) rfl)) (fun _ h9 => h9) rfl (by decide +kernel) rfl rfl (Nat.le_of_ble_eq_true rfl) dX2_init_13 (fun H locs hP hD hS => ?_)
  have hP : va_P (gD G) vwCl [(h0, .inr (2, [.int 0, .int 0, .int 0, .int 0, .ref q1, .int 0, .null])), (q1, .inl (gC G 0, 5, .inl (fun _ => 0)))] H := hP
  have hD : va_D A [(h0, .inr (2, [.int 0, .int 0, .int 0, .int 0, .ref q1, .int 0, .null])), (q1, .inl (gC G 0, 5, .inl (fun _ => 0)))] := hD
  refine lv_aload_n hx hb dX2_init_16 rfl (lv_at hl 0 rfl) ?_
  refine lv_iconst (v := 5) hx hb dX2_init_17 rfl ?_
  refine y_newa (atype := .int) (ty := .int) (N' := 5) (a0 := (5, .inl (fun _ => 0))) hx hb (hts (.arrayClass .int) (List.mem_of_getElem? (i := 4) rfl)) rfl hK hP hD hS hA 0 rfl (fun _ => rfl) (by decide) rfl (Nat.le_of_ble_eq_true rfl) (Nat.le_of_ble_eq_true rfl) (Nat.le_of_ble_eq_true rfl) dX2_init_18 (fun q2 H hP hD hS => ?_)
  have hP : va_P (gD G) vwCl [(h0, .inr (2, [.int 0, .int 0, .int 0, .int 0, .ref q1, .int 0, .null])), (q1, .inl (gC G 0, 5, .inl (fun _ => 0))), (q2, .inl (gC G 0, 5, .inl (fun _ => 0)))] H := hP
  have hD : va_D A [(h0, .inr (2, [.int 0, .int 0, .int 0, .int 0, .ref q1, .int 0, .null])), (q1, .inl (gC G 0, 5, .inl (fun _ => 0))), (q2, .inl (gC G 0, 5, .inl (fun _ => 0)))] := hD
  refine W.widen (k := 2) (n := 10) (Nat.le_of_ble_eq_true rfl) (Nat.le_of_ble_eq_true rfl) ?_
  refine va_putF (D := gD G) (ci := 2) (v := .ref q2) (ty := .array .int) (C := RX2) (T := TX2) (N := 7) hx hb hts hiX2 tyX2 tyX2_ok nmX2 hown hK hP hD hS 0 rfl rfl 6 (Nat.le_of_ble_eq_true rfl) (hts (.fieldLink RX2 19 "MovesUp$Pupil" "imageWeights" "[I") (List.mem_of_getElem? (i := 7) rfl)) (fun _ h9 => h9) rfl hin rfl (by decide +kernel) rfl rfl (Nat.le_of_ble_eq_true rfl) dX2_init_20 (fun H locs hP hD hS => ?_)
  have hP : va_P (gD G) vwCl [(h0, .inr (2, [.int 0, .int 0, .int 0, .int 0, .ref q1, .int 0, .ref q2])), (q1, .inl (gC G 0, 5, .inl (fun _ => 0))), (q2, .inl (gC G 0, 5, .inl (fun _ => 0)))] H := hP
  have hD : va_D A [(h0, .inr (2, [.int 0, .int 0, .int 0, .int 0, .ref q1, .int 0, .ref q2])), (q1, .inl (gC G 0, 5, .inl (fun _ => 0))), (q2, .inl (gC G 0, 5, .inl (fun _ => 0)))] := hD
  refine lv_aload_n hx hb dX2_init_23 rfl (lv_at hl 0 rfl) ?_
  refine lv_iload_n hx hb dX2_init_24 rfl (lv_at hl 1 rfl) ?_
  refine va_putF (D := gD G) (ci := 2) (v := .int a1) (ty := .int) (C := RX2) (T := TX2) (N := 7) hx hb hts hiX2 tyX2 tyX2_ok nmX2 hown hK hP hD hS 0 rfl rfl 0 (Nat.le_of_ble_eq_true rfl) (hts (.fieldLink RX2 22 "MovesUp$Pupil" "kind" "I") (List.mem_of_getElem? (i := 8) rfl)) (fun _ h9 => h9) rfl hin rfl (by decide +kernel) rfl rfl (Nat.le_of_ble_eq_true rfl) dX2_init_25 (fun H locs hP hD hS => ?_)
  have hP : va_P (gD G) vwCl [(h0, .inr (2, [.int a1, .int 0, .int 0, .int 0, .ref q1, .int 0, .ref q2])), (q1, .inl (gC G 0, 5, .inl (fun _ => 0))), (q2, .inl (gC G 0, 5, .inl (fun _ => 0)))] H := hP
  have hD : va_D A [(h0, .inr (2, [.int a1, .int 0, .int 0, .int 0, .ref q1, .int 0, .ref q2])), (q1, .inl (gC G 0, 5, .inl (fun _ => 0))), (q2, .inl (gC G 0, 5, .inl (fun _ => 0)))] := hD
  refine lv_aload_n hx hb dX2_init_28 rfl (lv_at hl 0 rfl) ?_
  refine lv_iload_n hx hb dX2_init_29 rfl (lv_at hl 2 rfl) ?_
  refine va_put (D := gD G) (ci := 2) (v := .int a2) (ty := .int) (C := RX2) (T := TX2) (N := 7) hx hb hts hiX2 tyX2 tyX2_ok nmX2 hown hK hP hD hS 0 rfl rfl 3 (Nat.le_of_ble_eq_true rfl) (hts (.fieldLink RX2 25 "MovesUp$Pupil" "itsClass" "I") (List.mem_of_getElem? (i := 9) rfl)) (fun _ h9 => h9) rfl (by decide +kernel) rfl rfl (Nat.le_of_ble_eq_true rfl) dX2_init_30 (fun H locs hP hD hS => ?_)
  have hP : va_P (gD G) vwCl [(h0, .inr (2, [.int a1, .int 0, .int 0, .int a2, .ref q1, .int 0, .ref q2])), (q1, .inl (gC G 0, 5, .inl (fun _ => 0))), (q2, .inl (gC G 0, 5, .inl (fun _ => 0)))] H := hP
  have hD : va_D A [(h0, .inr (2, [.int a1, .int 0, .int 0, .int a2, .ref q1, .int 0, .ref q2])), (q1, .inl (gC G 0, 5, .inl (fun _ => 0))), (q2, .inl (gC G 0, 5, .inl (fun _ => 0)))] := hD
  refine lv_aload_n hx hb dX2_init_33 rfl (lv_at hl 0 rfl) ?_
  refine lv_iload_n hx hb dX2_init_34 rfl (lv_at hl 3 rfl) ?_
  refine va_putF (D := gD G) (ci := 2) (v := .int a3) (ty := .int) (C := RX2) (T := TX2) (N := 7) hx hb hts hiX2 tyX2 tyX2_ok nmX2 hown hK hP hD hS 0 rfl rfl 1 (Nat.le_of_ble_eq_true rfl) (hts (.fieldLink RX2 28 "MovesUp$Pupil" "sort" "I") (List.mem_of_getElem? (i := 10) rfl)) (fun _ h9 => h9) rfl hin rfl (by decide +kernel) rfl rfl (Nat.le_of_ble_eq_true rfl) dX2_init_35 (fun H locs hP hD hS => ?_)
  have hP : va_P (gD G) vwCl [(h0, .inr (2, [.int a1, .int a3, .int 0, .int a2, .ref q1, .int 0, .ref q2])), (q1, .inl (gC G 0, 5, .inl (fun _ => 0))), (q2, .inl (gC G 0, 5, .inl (fun _ => 0)))] H := hP
  have hD : va_D A [(h0, .inr (2, [.int a1, .int a3, .int 0, .int a2, .ref q1, .int 0, .ref q2])), (q1, .inl (gC G 0, 5, .inl (fun _ => 0))), (q2, .inl (gC G 0, 5, .inl (fun _ => 0)))] := hD
  refine lv_aload_n hx hb dX2_init_38 rfl (lv_at hl 0 rfl) ?_
  refine lv_iload hx hb dX2_init_39 (lv_at hl 4 rfl) ?_
  refine va_putF (D := gD G) (ci := 2) (v := .int a4) (ty := .int) (C := RX2) (T := TX2) (N := 7) hx hb hts hiX2 tyX2 tyX2_ok nmX2 hown hK hP hD hS 0 rfl rfl 2 (Nat.le_of_ble_eq_true rfl) (hts (.fieldLink RX2 31 "MovesUp$Pupil" "number" "I") (List.mem_of_getElem? (i := 11) rfl)) (fun _ h9 => h9) rfl hin rfl (by decide +kernel) rfl rfl (Nat.le_of_ble_eq_true rfl) dX2_init_41 (fun H locs hP hD hS => ?_)
  have hP : va_P (gD G) vwCl [(h0, .inr (2, [.int a1, .int a3, .int a4, .int a2, .ref q1, .int 0, .ref q2])), (q1, .inl (gC G 0, 5, .inl (fun _ => 0))), (q2, .inl (gC G 0, 5, .inl (fun _ => 0)))] H := hP
  have hD : va_D A [(h0, .inr (2, [.int a1, .int a3, .int a4, .int a2, .ref q1, .int 0, .ref q2])), (q1, .inl (gC G 0, 5, .inl (fun _ => 0))), (q2, .inl (gC G 0, 5, .inl (fun _ => 0)))] := hD
  refine lv_aload_n hx hb dX2_init_44 rfl (lv_at hl 0 rfl) ?_
  refine va_get hx hb hts hiX2 hown hK hP 0 rfl rfl 4 (Nat.le_of_ble_eq_true rfl) (hts (.fieldLink RX2 9 "MovesUp$Pupil" "weights" "[I") (List.mem_of_getElem? (i := 5) rfl)) (fun _ h => h) (v := .ref q1) rfl dX2_init_45 ?_
  refine lv_iconst (v := 0) hx hb dX2_init_48 rfl ?_
  refine lv_iconst (v := 1) hx hb dX2_init_49 rfl ?_
  refine va_iast hx hb hK hP hD hS 1 0 rfl rfl (vp_in_iff.mpr (by decide)) dX2_init_50 (fun H locs hP hD hS => ?_)
  have hP : va_P (gD G) vwCl [(h0, .inr (2, [.int a1, .int a3, .int a4, .int a2, .ref q1, .int 0, .ref q2])), (q1, .inl (gC G 0, 5, .inl (upd (fun _ => 0) 0 (1)))), (q2, .inl (gC G 0, 5, .inl (fun _ => 0)))] H := hP
  have hD : va_D A [(h0, .inr (2, [.int a1, .int a3, .int a4, .int a2, .ref q1, .int 0, .ref q2])), (q1, .inl (gC G 0, 5, .inl (upd (fun _ => 0) 0 (1)))), (q2, .inl (gC G 0, 5, .inl (fun _ => 0)))] := hD
  exact W.vret hx hb hr (fun t ht hW => ⟨⟨(), rfl, trivial, q1, q2, by rw [ht]; exact hP, hD⟩, hS.F ht⟩) hS.2.2 dX2_init_51
set_option maxHeartbeats 4000000 in
set_option maxRecDepth 100000 in
theorem m_X4_init (l : Launch) (G : GE) (h0 sz : Nat)  : Met l yX4_init wsX4_init { frames := 1, cells := 1, slots := 40, locals := 60 } (va_Pc [.ref h0] (fun U => U.heap.size = sz ∧ va_P (gD G) vwCl [(h0, .inr (4, [.int 0, .int 0, .null]))] U.heap ∧ va_K (gD G) vwCl (tyl G) U ∧ va_D (fun _ => True) [(h0, .inr (4, [.int 0, .int 0, .null]))])) (va_Qv (fun _ : Unit => True) (fun _ t => ∃ q1 : Nat, va_P (gD G) vwCl [(h0, .inr (4, [.int (-1), .int 0, .ref q1])), (q1, .inl (gC G 0, 40, .inl (fun _ => 0)))] t.heap ∧ va_D (va_A [(h0, .inr (4, [.int 0, .int 0, .null]))] sz) [(h0, .inr (4, [.int (-1), .int 0, .ref q1])), (q1, .inl (gC G 0, 40, .inl (fun _ => 0)))]) (va_A [(h0, .inr (4, [.int 0, .int 0, .null]))] sz)) 1 40 (va_A [(h0, .inr (4, [.int 0, .int 0, .null]))] sz) := by
  refine Met.ofW (cc := cX4_init) (maxL := 1) (ret := none) (by decide) rfl ?_
  intro p e s m args below meth c s₁ B0 hml hv
  obtain ⟨rfl, hsz, hP, hK, hD0⟩ := hv
  have hx := B0.exec
  have hb := B0.bytes
  have hr := B0.returns
  have hts := atoms_spec (ws := wsX4_init) B0.pre
  have hown : s.vm.findClass RX4 = some m.cls := findClass_of_methodNamed B0.named
  have hlocks := B0.notSynchronized
  have hin : meth.name = "<init>" := (name_of_methodNamed B0.named B0.method).1
  subst hsz
  have hD := hD0.self (sz := s.heap.size)
  generalize hAe : va_A [(h0, .inr (4, [.int 0, .int 0, .null]))] s.heap.size = A at hD ⊢
  have hA : ∀ q : Nat, s.heap.size ≤ q → A q := fun q h => by rw [← hAe]; exact Or.inr h
  have hS : va_S A s.heap s.heap [] := va_S.rf
  have hP : va_P (gD G) vwCl [(h0, .inr (4, [.int 0, .int 0, .null]))] s.heap := hP
  have hiX4 : ∀ w ∈ u_ws RX4 TX4 3, w ∈ wsX4_init := in_seg 8 rfl
  have hl := lv_entry ([.ref h0]) (n := 1) (Nat.le_of_ble_eq_true rfl)
  rw [lg_entry_eq]
  generalize (lg_sl ([.ref h0]) ++ List.replicate (1 - (lg_sl ([.ref h0])).length) Slot.unset).toArray = ls at hl ⊢
  have hl : lv_has ls 1 [(0, .ref h0)] := hl
  refine lv_aload_n hx hb dX4_init_0 rfl (lv_at hl 0 rfl) ?_
  refine W.objInit hx hb hown (hts (.methodLink RX4 3 objectInit) (List.mem_of_getElem? (i := 1) rfl)) (hts (.instanceMethod objectInit) (List.mem_of_getElem? (i := 2) rfl)) (hts (.code objectInit ⟨#[0xb1]⟩ 1 none) (List.mem_of_getElem? (i := 3) rfl)) rfl (by rw [hml]; exact hl.1) rfl dX4_init_1 (Nat.le_of_ble_eq_true rfl) (Nat.le_of_ble_eq_true rfl) ?_
  refine W.eq (g2 := F0 m 4 ls []) rfl ?_
  refine lv_aload_n hx hb dX4_init_4 rfl (lv_at hl 0 rfl) ?_
  refine lv_iconst (v := -1) hx hb dX4_init_5 rfl ?_
  refine va_put (D := gD G) (ci := 4) (v := .int (-1)) (ty := .int) (C := RX4) (T := TX4) (N := 3) hx hb hts hiX4 tyX4 tyX4_ok nmX4 hown hK hP hD hS 0 rfl rfl 0 (Nat.le_of_ble_eq_true rfl) (hts (.fieldLink RX4 9 "MovesUp$Row" "sort" "I") (List.mem_of_getElem? (i := 4) rfl)) (fun _ h9 => h9) rfl (by decide +kernel) rfl rfl (Nat.le_of_ble_eq_true rfl) dX4_init_6 (fun H locs hP hD hS => ?_)
  have hP : va_P (gD G) vwCl [(h0, .inr (4, [.int (-1), .int 0, .null]))] H := hP
  have hD : va_D A [(h0, .inr (4, [.int (-1), .int 0, .null]))] := hD
  refine lv_aload_n hx hb dX4_init_9 rfl (lv_at hl 0 rfl) ?_
  refine lv_iconst (v := 0) hx hb dX4_init_10 rfl ?_
  refine va_put (D := gD G) (ci := 4) (v := .int 0) (ty := .int) (C := RX4) (T := TX4) (N := 3) hx hb hts hiX4 tyX4 tyX4_ok nmX4 hown hK hP hD hS 0 rfl rfl 1 (Nat.le_of_ble_eq_true rfl) (hts (.fieldLink RX4 15 "MovesUp$Row" "size" "I") (List.mem_of_getElem? (i := 5) rfl)) (fun _ h9 => h9) rfl (by decide +kernel) rfl rfl (Nat.le_of_ble_eq_true rfl) dX4_init_11 (fun H locs hP hD hS => ?_)
  have hP : va_P (gD G) vwCl [(h0, .inr (4, [.int (-1), .int 0, .null]))] H := hP
  have hD : va_D A [(h0, .inr (4, [.int (-1), .int 0, .null]))] := hD
  refine lv_aload_n hx hb dX4_init_14 rfl (lv_at hl 0 rfl) ?_
  refine lv_bipush (v := 40) hx hb dX4_init_15 rfl ?_
  refine y_newa (atype := .int) (ty := .int) (N' := 40) (a0 := (40, .inl (fun _ => 0))) hx hb (hts (.arrayClass .int) (List.mem_of_getElem? (i := 6) rfl)) rfl hK hP hD hS hA 0 rfl (fun _ => rfl) (by decide) rfl (Nat.le_of_ble_eq_true rfl) (Nat.le_of_ble_eq_true rfl) (Nat.le_of_ble_eq_true rfl) dX4_init_17 (fun q1 H hP hD hS => ?_)
  have hP : va_P (gD G) vwCl [(h0, .inr (4, [.int (-1), .int 0, .null])), (q1, .inl (gC G 0, 40, .inl (fun _ => 0)))] H := hP
  have hD : va_D A [(h0, .inr (4, [.int (-1), .int 0, .null])), (q1, .inl (gC G 0, 40, .inl (fun _ => 0)))] := hD
  refine W.widen (k := 1) (n := 40) (Nat.le_of_ble_eq_true rfl) (Nat.le_of_ble_eq_true rfl) ?_
  refine va_putF (D := gD G) (ci := 4) (v := .ref q1) (ty := .array .int) (C := RX4) (T := TX4) (N := 3) hx hb hts hiX4 tyX4 tyX4_ok nmX4 hown hK hP hD hS 0 rfl rfl 2 (Nat.le_of_ble_eq_true rfl) (hts (.fieldLink RX4 18 "MovesUp$Row" "items" "[I") (List.mem_of_getElem? (i := 7) rfl)) (fun _ h9 => h9) rfl hin rfl (by decide +kernel) rfl rfl (Nat.le_of_ble_eq_true rfl) dX4_init_19 (fun H locs hP hD hS => ?_)
  have hP : va_P (gD G) vwCl [(h0, .inr (4, [.int (-1), .int 0, .ref q1])), (q1, .inl (gC G 0, 40, .inl (fun _ => 0)))] H := hP
  have hD : va_D A [(h0, .inr (4, [.int (-1), .int 0, .ref q1])), (q1, .inl (gC G 0, 40, .inl (fun _ => 0)))] := hD
  exact W.vret hx hb hr (fun t ht hW => ⟨⟨(), rfl, trivial, q1, by rw [ht]; exact hP, hD⟩, hS.F ht⟩) hS.2.2 dX4_init_22
set_option maxHeartbeats 4000000 in
set_option maxRecDepth 100000 in
theorem m_X5_init (l : Launch) (G : GE) (h0 sz : Nat) (b1 : Nat) (b2 : Nat) : Met l yX5_init wsX5_init { frames := 1, cells := 0, slots := 0, locals := 60 } (va_Pc [.ref h0, .ref b1, .ref b2] (fun U => U.heap.size = sz ∧ va_P (gD G) vwCl [(h0, .inr (5, [.null, .null]))] U.heap ∧ va_K (gD G) vwCl (tyl G) U ∧ va_D (fun _ => True) [(h0, .inr (5, [.null, .null]))])) (va_Qv (fun _ : Unit => True) (fun _ t => va_P (gD G) vwCl [(h0, .inr (5, [.ref b1, .ref b2]))] t.heap ∧ va_D (va_A [(h0, .inr (5, [.null, .null]))] sz) [(h0, .inr (5, [.ref b1, .ref b2]))]) (va_A [(h0, .inr (5, [.null, .null]))] sz)) 0 0 (va_A [(h0, .inr (5, [.null, .null]))] sz) := by
  refine Met.ofW (cc := cX5_init) (maxL := 3) (ret := none) (by decide) rfl ?_
  intro p e s m args below meth c s₁ B0 hml hv
  obtain ⟨rfl, hsz, hP, hK, hD0⟩ := hv
  have hx := B0.exec
  have hb := B0.bytes
  have hr := B0.returns
  have hts := atoms_spec (ws := wsX5_init) B0.pre
  have hown : s.vm.findClass RX5 = some m.cls := findClass_of_methodNamed B0.named
  have hlocks := B0.notSynchronized
  have hin : meth.name = "<init>" := (name_of_methodNamed B0.named B0.method).1
  subst hsz
  have hD := hD0.self (sz := s.heap.size)
  generalize hAe : va_A [(h0, .inr (5, [.null, .null]))] s.heap.size = A at hD ⊢
  have hA : ∀ q : Nat, s.heap.size ≤ q → A q := fun q h => by rw [← hAe]; exact Or.inr h
  have hS : va_S A s.heap s.heap [] := va_S.rf
  have hP : va_P (gD G) vwCl [(h0, .inr (5, [.null, .null]))] s.heap := hP
  have hiX5 : ∀ w ∈ u_ws RX5 TX5 2, w ∈ wsX5_init := in_seg 6 rfl
  have hl := lv_entry ([.ref h0, .ref b1, .ref b2]) (n := 3) (Nat.le_of_ble_eq_true rfl)
  rw [lg_entry_eq]
  generalize (lg_sl ([.ref h0, .ref b1, .ref b2]) ++ List.replicate (3 - (lg_sl ([.ref h0, .ref b1, .ref b2])).length) Slot.unset).toArray = ls at hl ⊢
  have hl : lv_has ls 3 [(0, .ref h0), (1, .ref b1), (2, .ref b2)] := hl
  refine lv_aload_n hx hb dX5_init_0 rfl (lv_at hl 0 rfl) ?_
  refine W.objInit hx hb hown (hts (.methodLink RX5 1 objectInit) (List.mem_of_getElem? (i := 1) rfl)) (hts (.instanceMethod objectInit) (List.mem_of_getElem? (i := 2) rfl)) (hts (.code objectInit ⟨#[0xb1]⟩ 1 none) (List.mem_of_getElem? (i := 3) rfl)) rfl (by rw [hml]; exact hl.1) rfl dX5_init_1 (Nat.le_of_ble_eq_true rfl) (Nat.le_of_ble_eq_true rfl) ?_
  refine W.eq (g2 := F0 m 4 ls []) rfl ?_
  refine lv_aload_n hx hb dX5_init_4 rfl (lv_at hl 0 rfl) ?_
  refine lv_aload_n hx hb dX5_init_5 rfl (lv_at hl 1 rfl) ?_
  refine va_putF (D := gD G) (ci := 5) (v := .ref b1) (ty := .array .int) (C := RX5) (T := TX5) (N := 2) hx hb hts hiX5 tyX5 tyX5_ok nmX5 hown hK hP hD hS 0 rfl rfl 0 (Nat.le_of_ble_eq_true rfl) (hts (.fieldLink RX5 7 "MovesUp$Text" "code" "[I") (List.mem_of_getElem? (i := 4) rfl)) (fun _ h9 => h9) rfl hin rfl (by decide +kernel) rfl rfl (Nat.le_of_ble_eq_true rfl) dX5_init_6 (fun H locs hP hD hS => ?_)
  have hP : va_P (gD G) vwCl [(h0, .inr (5, [.ref b1, .null]))] H := hP
  have hD : va_D A [(h0, .inr (5, [.ref b1, .null]))] := hD
  refine lv_aload_n hx hb dX5_init_9 rfl (lv_at hl 0 rfl) ?_
  refine lv_aload_n hx hb dX5_init_10 rfl (lv_at hl 2 rfl) ?_
  refine va_putF (D := gD G) (ci := 5) (v := .ref b2) (ty := .array .int) (C := RX5) (T := TX5) (N := 2) hx hb hts hiX5 tyX5 tyX5_ok nmX5 hown hK hP hD hS 0 rfl rfl 1 (Nat.le_of_ble_eq_true rfl) (hts (.fieldLink RX5 13 "MovesUp$Text" "starts" "[I") (List.mem_of_getElem? (i := 5) rfl)) (fun _ h9 => h9) rfl hin rfl (by decide +kernel) rfl rfl (Nat.le_of_ble_eq_true rfl) dX5_init_11 (fun H locs hP hD hS => ?_)
  have hP : va_P (gD G) vwCl [(h0, .inr (5, [.ref b1, .ref b2]))] H := hP
  have hD : va_D A [(h0, .inr (5, [.ref b1, .ref b2]))] := hD
  exact W.vret hx hb hr (fun t ht hW => ⟨⟨(), rfl, trivial, by rw [ht]; exact hP, hD⟩, hS.F ht⟩) hS.2.2 dX5_init_14
set_option maxHeartbeats 4000000 in
set_option maxRecDepth 100000 in
theorem m_X0_init (l : Launch) (G : GE) (h0 sz : Nat)  : Met l yX0_init wsX0_init { frames := 1, cells := 3, slots := 2866, locals := 60 } (va_Pc [.ref h0] (fun U => U.heap.size = sz ∧ va_P (gD G) vwCl [(h0, .inr (0, [.null, .int 0, .int 0, .null, .null, .null]))] U.heap ∧ va_K (gD G) vwCl (tyl G) U ∧ va_D (fun _ => True) [(h0, .inr (0, [.null, .int 0, .int 0, .null, .null, .null]))])) (va_Qv (fun _ : Unit => True) (fun _ t => ∃ q1 q2 q3 : Nat, va_P (gD G) vwCl [(h0, .inr (0, [.null, .int (-1), .int (-1), .ref q1, .ref q2, .ref q3])), (q1, .inl (gC G 2, 2700, .inl (fun _ => 0))), (q2, .inl (gC G 0, 6, .inl (fun _ => 0))), (q3, .inl (gC G 0, 160, .inl (fun _ => 0)))] t.heap ∧ va_D (va_A [(h0, .inr (0, [.null, .int 0, .int 0, .null, .null, .null]))] sz) [(h0, .inr (0, [.null, .int (-1), .int (-1), .ref q1, .ref q2, .ref q3])), (q1, .inl (gC G 2, 2700, .inl (fun _ => 0))), (q2, .inl (gC G 0, 6, .inl (fun _ => 0))), (q3, .inl (gC G 0, 160, .inl (fun _ => 0)))]) (va_A [(h0, .inr (0, [.null, .int 0, .int 0, .null, .null, .null]))] sz)) 3 2866 (va_A [(h0, .inr (0, [.null, .int 0, .int 0, .null, .null, .null]))] sz) := by
  refine Met.ofW (cc := cX0_init) (maxL := 1) (ret := none) (by decide) rfl ?_
  intro p e s m args below meth c s₁ B0 hml hv
  obtain ⟨rfl, hsz, hP, hK, hD0⟩ := hv
  have hx := B0.exec
  have hb := B0.bytes
  have hr := B0.returns
  have hts := atoms_spec (ws := wsX0_init) B0.pre
  have hown : s.vm.findClass RX0 = some m.cls := findClass_of_methodNamed B0.named
  have hlocks := B0.notSynchronized
  have hin : meth.name = "<init>" := (name_of_methodNamed B0.named B0.method).1
  subst hsz
  have hD := hD0.self (sz := s.heap.size)
  generalize hAe : va_A [(h0, .inr (0, [.null, .int 0, .int 0, .null, .null, .null]))] s.heap.size = A at hD ⊢
  have hA : ∀ q : Nat, s.heap.size ≤ q → A q := fun q h => by rw [← hAe]; exact Or.inr h
  have hS : va_S A s.heap s.heap [] := va_S.rf
  have hP : va_P (gD G) vwCl [(h0, .inr (0, [.null, .int 0, .int 0, .null, .null, .null]))] s.heap := hP
  have hiX0 : ∀ w ∈ u_ws RX0 TX0 6, w ∈ wsX0_init := in_seg 12 rfl
  have hl := lv_entry ([.ref h0]) (n := 1) (Nat.le_of_ble_eq_true rfl)
  rw [lg_entry_eq]
  generalize (lg_sl ([.ref h0]) ++ List.replicate (1 - (lg_sl ([.ref h0])).length) Slot.unset).toArray = ls at hl ⊢
  have hl : lv_has ls 1 [(0, .ref h0)] := hl
  refine lv_aload_n hx hb dX0_init_0 rfl (lv_at hl 0 rfl) ?_
  refine W.objInit hx hb hown (hts (.methodLink RX0 5 objectInit) (List.mem_of_getElem? (i := 1) rfl)) (hts (.instanceMethod objectInit) (List.mem_of_getElem? (i := 2) rfl)) (hts (.code objectInit ⟨#[0xb1]⟩ 1 none) (List.mem_of_getElem? (i := 3) rfl)) rfl (by rw [hml]; exact hl.1) rfl dX0_init_1 (Nat.le_of_ble_eq_true rfl) (Nat.le_of_ble_eq_true rfl) ?_
  refine W.eq (g2 := F0 m 4 ls []) rfl ?_
  refine lv_aload_n hx hb dX0_init_4 rfl (lv_at hl 0 rfl) ?_
  refine lv_null hx hb dX0_init_5 ?_
  refine va_put (D := gD G) (ci := 0) (v := .null) (ty := .object "MovesUp$Text") (C := RX0) (T := TX0) (N := 6) hx hb hts hiX0 tyX0 tyX0_ok nmX0 hown hK hP hD hS 0 rfl rfl 0 (Nat.le_of_ble_eq_true rfl) (hts (.fieldLink RX0 11 "MovesUp$Chances" "rule" "LMovesUp$Text;") (List.mem_of_getElem? (i := 4) rfl)) (fun _ h9 => h9) rfl (by decide +kernel) rfl rfl (Nat.le_of_ble_eq_true rfl) dX0_init_6 (fun H locs hP hD hS => ?_)
  have hP : va_P (gD G) vwCl [(h0, .inr (0, [.null, .int 0, .int 0, .null, .null, .null]))] H := hP
  have hD : va_D A [(h0, .inr (0, [.null, .int 0, .int 0, .null, .null, .null]))] := hD
  refine lv_aload_n hx hb dX0_init_9 rfl (lv_at hl 0 rfl) ?_
  refine lv_iconst (v := -1) hx hb dX0_init_10 rfl ?_
  refine va_put (D := gD G) (ci := 0) (v := .int (-1)) (ty := .int) (C := RX0) (T := TX0) (N := 6) hx hb hts hiX0 tyX0 tyX0_ok nmX0 hown hK hP hD hS 0 rfl rfl 1 (Nat.le_of_ble_eq_true rfl) (hts (.fieldLink RX0 15 "MovesUp$Chances" "ruleNumber" "I") (List.mem_of_getElem? (i := 5) rfl)) (fun _ h9 => h9) rfl (by decide +kernel) rfl rfl (Nat.le_of_ble_eq_true rfl) dX0_init_11 (fun H locs hP hD hS => ?_)
  have hP : va_P (gD G) vwCl [(h0, .inr (0, [.null, .int (-1), .int 0, .null, .null, .null]))] H := hP
  have hD : va_D A [(h0, .inr (0, [.null, .int (-1), .int 0, .null, .null, .null]))] := hD
  refine lv_aload_n hx hb dX0_init_14 rfl (lv_at hl 0 rfl) ?_
  refine lv_iconst (v := -1) hx hb dX0_init_15 rfl ?_
  refine va_put (D := gD G) (ci := 0) (v := .int (-1)) (ty := .int) (C := RX0) (T := TX0) (N := 6) hx hb hts hiX0 tyX0 tyX0_ok nmX0 hown hK hP hD hS 0 rfl rfl 2 (Nat.le_of_ble_eq_true rfl) (hts (.fieldLink RX0 19 "MovesUp$Chances" "sort" "I") (List.mem_of_getElem? (i := 6) rfl)) (fun _ h9 => h9) rfl (by decide +kernel) rfl rfl (Nat.le_of_ble_eq_true rfl) dX0_init_16 (fun H locs hP hD hS => ?_)
  have hP : va_P (gD G) vwCl [(h0, .inr (0, [.null, .int (-1), .int (-1), .null, .null, .null]))] H := hP
  have hD : va_D A [(h0, .inr (0, [.null, .int (-1), .int (-1), .null, .null, .null]))] := hD
  refine lv_aload_n hx hb dX0_init_19 rfl (lv_at hl 0 rfl) ?_
  refine lv_sipush (v := 2700) hx hb dX0_init_20 rfl ?_
  refine y_newa (atype := .byte) (ty := .byte) (N' := 2700) (a0 := (2700, .inl (fun _ => 0))) hx hb (hts (.arrayClass .byte) (List.mem_of_getElem? (i := 7) rfl)) rfl hK hP hD hS hA 2 rfl (fun _ => rfl) (by decide) rfl (Nat.le_of_ble_eq_true rfl) (Nat.le_of_ble_eq_true rfl) (Nat.le_of_ble_eq_true rfl) dX0_init_23 (fun q1 H hP hD hS => ?_)
  have hP : va_P (gD G) vwCl [(h0, .inr (0, [.null, .int (-1), .int (-1), .null, .null, .null])), (q1, .inl (gC G 2, 2700, .inl (fun _ => 0)))] H := hP
  have hD : va_D A [(h0, .inr (0, [.null, .int (-1), .int (-1), .null, .null, .null])), (q1, .inl (gC G 2, 2700, .inl (fun _ => 0)))] := hD
  refine W.widen (k := 1) (n := 2700) (Nat.le_of_ble_eq_true rfl) (Nat.le_of_ble_eq_true rfl) ?_
  refine va_putF (D := gD G) (ci := 0) (v := .ref q1) (ty := .array .byte) (C := RX0) (T := TX0) (N := 6) hx hb hts hiX0 tyX0 tyX0_ok nmX0 hown hK hP hD hS 0 rfl rfl 3 (Nat.le_of_ble_eq_true rfl) (hts (.fieldLink RX0 22 "MovesUp$Chances" "said" "[B") (List.mem_of_getElem? (i := 8) rfl)) (fun _ h9 => h9) rfl hin rfl (by decide +kernel) rfl rfl (Nat.le_of_ble_eq_true rfl) dX0_init_25 (fun H locs hP hD hS => ?_)
  have hP : va_P (gD G) vwCl [(h0, .inr (0, [.null, .int (-1), .int (-1), .ref q1, .null, .null])), (q1, .inl (gC G 2, 2700, .inl (fun _ => 0)))] H := hP
  have hD : va_D A [(h0, .inr (0, [.null, .int (-1), .int (-1), .ref q1, .null, .null])), (q1, .inl (gC G 2, 2700, .inl (fun _ => 0)))] := hD
  refine lv_aload_n hx hb dX0_init_28 rfl (lv_at hl 0 rfl) ?_
  refine lv_bipush (v := 6) hx hb dX0_init_29 rfl ?_
  refine y_newa (atype := .int) (ty := .int) (N' := 6) (a0 := (6, .inl (fun _ => 0))) hx hb (hts (.arrayClass .int) (List.mem_of_getElem? (i := 9) rfl)) rfl hK hP hD hS hA 0 rfl (fun _ => rfl) (by decide) rfl (Nat.le_of_ble_eq_true rfl) (Nat.le_of_ble_eq_true rfl) (Nat.le_of_ble_eq_true rfl) dX0_init_31 (fun q2 H hP hD hS => ?_)
  have hP : va_P (gD G) vwCl [(h0, .inr (0, [.null, .int (-1), .int (-1), .ref q1, .null, .null])), (q1, .inl (gC G 2, 2700, .inl (fun _ => 0))), (q2, .inl (gC G 0, 6, .inl (fun _ => 0)))] H := hP
  have hD : va_D A [(h0, .inr (0, [.null, .int (-1), .int (-1), .ref q1, .null, .null])), (q1, .inl (gC G 2, 2700, .inl (fun _ => 0))), (q2, .inl (gC G 0, 6, .inl (fun _ => 0)))] := hD
  refine W.widen (k := 2) (n := 2706) (Nat.le_of_ble_eq_true rfl) (Nat.le_of_ble_eq_true rfl) ?_
  refine va_putF (D := gD G) (ci := 0) (v := .ref q2) (ty := .array .int) (C := RX0) (T := TX0) (N := 6) hx hb hts hiX0 tyX0 tyX0_ok nmX0 hown hK hP hD hS 0 rfl rfl 4 (Nat.le_of_ble_eq_true rfl) (hts (.fieldLink RX0 26 "MovesUp$Chances" "names" "[I") (List.mem_of_getElem? (i := 10) rfl)) (fun _ h9 => h9) rfl hin rfl (by decide +kernel) rfl rfl (Nat.le_of_ble_eq_true rfl) dX0_init_33 (fun H locs hP hD hS => ?_)
  have hP : va_P (gD G) vwCl [(h0, .inr (0, [.null, .int (-1), .int (-1), .ref q1, .ref q2, .null])), (q1, .inl (gC G 2, 2700, .inl (fun _ => 0))), (q2, .inl (gC G 0, 6, .inl (fun _ => 0)))] H := hP
  have hD : va_D A [(h0, .inr (0, [.null, .int (-1), .int (-1), .ref q1, .ref q2, .null])), (q1, .inl (gC G 2, 2700, .inl (fun _ => 0))), (q2, .inl (gC G 0, 6, .inl (fun _ => 0)))] := hD
  refine lv_aload_n hx hb dX0_init_36 rfl (lv_at hl 0 rfl) ?_
  refine lv_sipush (v := 160) hx hb dX0_init_37 rfl ?_
  refine y_newa (atype := .int) (ty := .int) (N' := 160) (a0 := (160, .inl (fun _ => 0))) hx hb (hts (.arrayClass .int) (List.mem_of_getElem? (i := 9) rfl)) rfl hK hP hD hS hA 0 rfl (fun _ => rfl) (by decide) rfl (Nat.le_of_ble_eq_true rfl) (Nat.le_of_ble_eq_true rfl) (Nat.le_of_ble_eq_true rfl) dX0_init_40 (fun q3 H hP hD hS => ?_)
  have hP : va_P (gD G) vwCl [(h0, .inr (0, [.null, .int (-1), .int (-1), .ref q1, .ref q2, .null])), (q1, .inl (gC G 2, 2700, .inl (fun _ => 0))), (q2, .inl (gC G 0, 6, .inl (fun _ => 0))), (q3, .inl (gC G 0, 160, .inl (fun _ => 0)))] H := hP
  have hD : va_D A [(h0, .inr (0, [.null, .int (-1), .int (-1), .ref q1, .ref q2, .null])), (q1, .inl (gC G 2, 2700, .inl (fun _ => 0))), (q2, .inl (gC G 0, 6, .inl (fun _ => 0))), (q3, .inl (gC G 0, 160, .inl (fun _ => 0)))] := hD
  refine W.widen (k := 3) (n := 2866) (Nat.le_of_ble_eq_true rfl) (Nat.le_of_ble_eq_true rfl) ?_
  refine va_putF (D := gD G) (ci := 0) (v := .ref q3) (ty := .array .int) (C := RX0) (T := TX0) (N := 6) hx hb hts hiX0 tyX0 tyX0_ok nmX0 hown hK hP hD hS 0 rfl rfl 5 (Nat.le_of_ble_eq_true rfl) (hts (.fieldLink RX0 30 "MovesUp$Chances" "stack" "[I") (List.mem_of_getElem? (i := 11) rfl)) (fun _ h9 => h9) rfl hin rfl (by decide +kernel) rfl rfl (Nat.le_of_ble_eq_true rfl) dX0_init_42 (fun H locs hP hD hS => ?_)
  have hP : va_P (gD G) vwCl [(h0, .inr (0, [.null, .int (-1), .int (-1), .ref q1, .ref q2, .ref q3])), (q1, .inl (gC G 2, 2700, .inl (fun _ => 0))), (q2, .inl (gC G 0, 6, .inl (fun _ => 0))), (q3, .inl (gC G 0, 160, .inl (fun _ => 0)))] H := hP
  have hD : va_D A [(h0, .inr (0, [.null, .int (-1), .int (-1), .ref q1, .ref q2, .ref q3])), (q1, .inl (gC G 2, 2700, .inl (fun _ => 0))), (q2, .inl (gC G 0, 6, .inl (fun _ => 0))), (q3, .inl (gC G 0, 160, .inl (fun _ => 0)))] := hD
  exact W.vret hx hb hr (fun t ht hW => ⟨⟨(), rfl, trivial, q1, q2, q3, by rw [ht]; exact hP, hD⟩, hS.F ht⟩) hS.2.2 dX0_init_45
set_option maxHeartbeats 4000000 in
set_option maxRecDepth 100000 in
theorem m_X3_init (l : Launch) (G : GE) (h0 sz : Nat) (b1 : Nat) : Met l yX3_init wsX3_init { frames := 1, cells := 2, slots := 164, locals := 60 } (va_Pc [.ref h0, .ref b1] (fun U => U.heap.size = sz ∧ va_P (gD G) vwCl [(h0, .inr (3, [.null, .int 0, .int 0, .int 0, .int 0, .int 0, .int 0, .null, .int 0, .null]))] U.heap ∧ va_K (gD G) vwCl (tyl G) U ∧ va_D (fun _ => True) [(h0, .inr (3, [.null, .int 0, .int 0, .int 0, .int 0, .int 0, .int 0, .null, .int 0, .null]))])) (va_Qv (fun _ : Unit => True) (fun _ t => ∃ q1 q2 : Nat, va_P (gD G) vwCl [(h0, .inr (3, [.ref b1, .int 0, .int 0, .int 0, .int 0, .int (-1), .int 0, .ref q1, .int 0, .ref q2])), (q1, .inl (gC G 0, 160, .inl (fun _ => 0))), (q2, .inl (gC G 0, 4, .inl (fun _ => 0)))] t.heap ∧ va_D (va_A [(h0, .inr (3, [.null, .int 0, .int 0, .int 0, .int 0, .int 0, .int 0, .null, .int 0, .null]))] sz) [(h0, .inr (3, [.ref b1, .int 0, .int 0, .int 0, .int 0, .int (-1), .int 0, .ref q1, .int 0, .ref q2])), (q1, .inl (gC G 0, 160, .inl (fun _ => 0))), (q2, .inl (gC G 0, 4, .inl (fun _ => 0)))]) (va_A [(h0, .inr (3, [.null, .int 0, .int 0, .int 0, .int 0, .int 0, .int 0, .null, .int 0, .null]))] sz)) 2 164 (va_A [(h0, .inr (3, [.null, .int 0, .int 0, .int 0, .int 0, .int 0, .int 0, .null, .int 0, .null]))] sz) := by
  refine Met.ofW (cc := cX3_init) (maxL := 2) (ret := none) (by decide) rfl ?_
  intro p e s m args below meth c s₁ B0 hml hv
  obtain ⟨rfl, hsz, hP, hK, hD0⟩ := hv
  have hx := B0.exec
  have hb := B0.bytes
  have hr := B0.returns
  have hts := atoms_spec (ws := wsX3_init) B0.pre
  have hown : s.vm.findClass RX3 = some m.cls := findClass_of_methodNamed B0.named
  have hlocks := B0.notSynchronized
  have hin : meth.name = "<init>" := (name_of_methodNamed B0.named B0.method).1
  subst hsz
  have hD := hD0.self (sz := s.heap.size)
  generalize hAe : va_A [(h0, .inr (3, [.null, .int 0, .int 0, .int 0, .int 0, .int 0, .int 0, .null, .int 0, .null]))] s.heap.size = A at hD ⊢
  have hA : ∀ q : Nat, s.heap.size ≤ q → A q := fun q h => by rw [← hAe]; exact Or.inr h
  have hS : va_S A s.heap s.heap [] := va_S.rf
  have hP : va_P (gD G) vwCl [(h0, .inr (3, [.null, .int 0, .int 0, .int 0, .int 0, .int 0, .int 0, .null, .int 0, .null]))] s.heap := hP
  have hiX3 : ∀ w ∈ u_ws RX3 TX3 10, w ∈ wsX3_init := in_seg 15 rfl
  have hl := lv_entry ([.ref h0, .ref b1]) (n := 2) (Nat.le_of_ble_eq_true rfl)
  rw [lg_entry_eq]
  generalize (lg_sl ([.ref h0, .ref b1]) ++ List.replicate (2 - (lg_sl ([.ref h0, .ref b1])).length) Slot.unset).toArray = ls at hl ⊢
  have hl : lv_has ls 2 [(0, .ref h0), (1, .ref b1)] := hl
  refine lv_aload_n hx hb dX3_init_0 rfl (lv_at hl 0 rfl) ?_
  refine W.objInit hx hb hown (hts (.methodLink RX3 5 objectInit) (List.mem_of_getElem? (i := 1) rfl)) (hts (.instanceMethod objectInit) (List.mem_of_getElem? (i := 2) rfl)) (hts (.code objectInit ⟨#[0xb1]⟩ 1 none) (List.mem_of_getElem? (i := 3) rfl)) rfl (by rw [hml]; exact hl.1) rfl dX3_init_1 (Nat.le_of_ble_eq_true rfl) (Nat.le_of_ble_eq_true rfl) ?_
  refine W.eq (g2 := F0 m 4 ls []) rfl ?_
  refine lv_aload_n hx hb dX3_init_4 rfl (lv_at hl 0 rfl) ?_
  refine lv_iconst (v := 0) hx hb dX3_init_5 rfl ?_
  refine va_put (D := gD G) (ci := 3) (v := .int 0) (ty := .int) (C := RX3) (T := TX3) (N := 10) hx hb hts hiX3 tyX3 tyX3_ok nmX3 hown hK hP hD hS 0 rfl rfl 1 (Nat.le_of_ble_eq_true rfl) (hts (.fieldLink RX3 11 "MovesUp$Reader" "size" "I") (List.mem_of_getElem? (i := 4) rfl)) (fun _ h9 => h9) rfl (by decide +kernel) rfl rfl (Nat.le_of_ble_eq_true rfl) dX3_init_6 (fun H locs hP hD hS => ?_)
  have hP : va_P (gD G) vwCl [(h0, .inr (3, [.null, .int 0, .int 0, .int 0, .int 0, .int 0, .int 0, .null, .int 0, .null]))] H := hP
  have hD : va_D A [(h0, .inr (3, [.null, .int 0, .int 0, .int 0, .int 0, .int 0, .int 0, .null, .int 0, .null]))] := hD
  refine lv_aload_n hx hb dX3_init_9 rfl (lv_at hl 0 rfl) ?_
  refine lv_iconst (v := 0) hx hb dX3_init_10 rfl ?_
  refine va_put (D := gD G) (ci := 3) (v := .int 0) (ty := .int) (C := RX3) (T := TX3) (N := 10) hx hb hts hiX3 tyX3 tyX3_ok nmX3 hown hK hP hD hS 0 rfl rfl 2 (Nat.le_of_ble_eq_true rfl) (hts (.fieldLink RX3 15 "MovesUp$Reader" "at" "I") (List.mem_of_getElem? (i := 5) rfl)) (fun _ h9 => h9) rfl (by decide +kernel) rfl rfl (Nat.le_of_ble_eq_true rfl) dX3_init_11 (fun H locs hP hD hS => ?_)
  have hP : va_P (gD G) vwCl [(h0, .inr (3, [.null, .int 0, .int 0, .int 0, .int 0, .int 0, .int 0, .null, .int 0, .null]))] H := hP
  have hD : va_D A [(h0, .inr (3, [.null, .int 0, .int 0, .int 0, .int 0, .int 0, .int 0, .null, .int 0, .null]))] := hD
  refine lv_aload_n hx hb dX3_init_14 rfl (lv_at hl 0 rfl) ?_
  refine lv_iconst (v := 0) hx hb dX3_init_15 rfl ?_
  refine va_put (D := gD G) (ci := 3) (v := .int 0) (ty := .int) (C := RX3) (T := TX3) (N := 10) hx hb hts hiX3 tyX3 tyX3_ok nmX3 hown hK hP hD hS 0 rfl rfl 3 (Nat.le_of_ble_eq_true rfl) (hts (.fieldLink RX3 18 "MovesUp$Reader" "token" "I") (List.mem_of_getElem? (i := 6) rfl)) (fun _ h9 => h9) rfl (by decide +kernel) rfl rfl (Nat.le_of_ble_eq_true rfl) dX3_init_16 (fun H locs hP hD hS => ?_)
  have hP : va_P (gD G) vwCl [(h0, .inr (3, [.null, .int 0, .int 0, .int 0, .int 0, .int 0, .int 0, .null, .int 0, .null]))] H := hP
  have hD : va_D A [(h0, .inr (3, [.null, .int 0, .int 0, .int 0, .int 0, .int 0, .int 0, .null, .int 0, .null]))] := hD
  refine lv_aload_n hx hb dX3_init_19 rfl (lv_at hl 0 rfl) ?_
  refine lv_iconst (v := 0) hx hb dX3_init_20 rfl ?_
  refine va_put (D := gD G) (ci := 3) (v := .int 0) (ty := .int) (C := RX3) (T := TX3) (N := 10) hx hb hts hiX3 tyX3 tyX3_ok nmX3 hown hK hP hD hS 0 rfl rfl 4 (Nat.le_of_ble_eq_true rfl) (hts (.fieldLink RX3 21 "MovesUp$Reader" "place" "I") (List.mem_of_getElem? (i := 7) rfl)) (fun _ h9 => h9) rfl (by decide +kernel) rfl rfl (Nat.le_of_ble_eq_true rfl) dX3_init_21 (fun H locs hP hD hS => ?_)
  have hP : va_P (gD G) vwCl [(h0, .inr (3, [.null, .int 0, .int 0, .int 0, .int 0, .int 0, .int 0, .null, .int 0, .null]))] H := hP
  have hD : va_D A [(h0, .inr (3, [.null, .int 0, .int 0, .int 0, .int 0, .int 0, .int 0, .null, .int 0, .null]))] := hD
  refine lv_aload_n hx hb dX3_init_24 rfl (lv_at hl 0 rfl) ?_
  refine lv_iconst (v := -1) hx hb dX3_init_25 rfl ?_
  refine va_put (D := gD G) (ci := 3) (v := .int (-1)) (ty := .int) (C := RX3) (T := TX3) (N := 10) hx hb hts hiX3 tyX3 tyX3_ok nmX3 hown hK hP hD hS 0 rfl rfl 5 (Nat.le_of_ble_eq_true rfl) (hts (.fieldLink RX3 24 "MovesUp$Reader" "fault" "I") (List.mem_of_getElem? (i := 8) rfl)) (fun _ h9 => h9) rfl (by decide +kernel) rfl rfl (Nat.le_of_ble_eq_true rfl) dX3_init_26 (fun H locs hP hD hS => ?_)
  have hP : va_P (gD G) vwCl [(h0, .inr (3, [.null, .int 0, .int 0, .int 0, .int 0, .int (-1), .int 0, .null, .int 0, .null]))] H := hP
  have hD : va_D A [(h0, .inr (3, [.null, .int 0, .int 0, .int 0, .int 0, .int (-1), .int 0, .null, .int 0, .null]))] := hD
  refine lv_aload_n hx hb dX3_init_29 rfl (lv_at hl 0 rfl) ?_
  refine lv_iconst (v := 0) hx hb dX3_init_30 rfl ?_
  refine va_put (D := gD G) (ci := 3) (v := .int 0) (ty := .int) (C := RX3) (T := TX3) (N := 10) hx hb hts hiX3 tyX3 tyX3_ok nmX3 hown hK hP hD hS 0 rfl rfl 6 (Nat.le_of_ble_eq_true rfl) (hts (.fieldLink RX3 27 "MovesUp$Reader" "open" "I") (List.mem_of_getElem? (i := 9) rfl)) (fun _ h9 => h9) rfl (by decide +kernel) rfl rfl (Nat.le_of_ble_eq_true rfl) dX3_init_31 (fun H locs hP hD hS => ?_)
  have hP : va_P (gD G) vwCl [(h0, .inr (3, [.null, .int 0, .int 0, .int 0, .int 0, .int (-1), .int 0, .null, .int 0, .null]))] H := hP
  have hD : va_D A [(h0, .inr (3, [.null, .int 0, .int 0, .int 0, .int 0, .int (-1), .int 0, .null, .int 0, .null]))] := hD
  refine lv_aload_n hx hb dX3_init_34 rfl (lv_at hl 0 rfl) ?_
  refine lv_sipush (v := 160) hx hb dX3_init_35 rfl ?_
  refine y_newa (atype := .int) (ty := .int) (N' := 160) (a0 := (160, .inl (fun _ => 0))) hx hb (hts (.arrayClass .int) (List.mem_of_getElem? (i := 10) rfl)) rfl hK hP hD hS hA 0 rfl (fun _ => rfl) (by decide) rfl (Nat.le_of_ble_eq_true rfl) (Nat.le_of_ble_eq_true rfl) (Nat.le_of_ble_eq_true rfl) dX3_init_38 (fun q1 H hP hD hS => ?_)
  have hP : va_P (gD G) vwCl [(h0, .inr (3, [.null, .int 0, .int 0, .int 0, .int 0, .int (-1), .int 0, .null, .int 0, .null])), (q1, .inl (gC G 0, 160, .inl (fun _ => 0)))] H := hP
  have hD : va_D A [(h0, .inr (3, [.null, .int 0, .int 0, .int 0, .int 0, .int (-1), .int 0, .null, .int 0, .null])), (q1, .inl (gC G 0, 160, .inl (fun _ => 0)))] := hD
  refine W.widen (k := 1) (n := 160) (Nat.le_of_ble_eq_true rfl) (Nat.le_of_ble_eq_true rfl) ?_
  refine va_putF (D := gD G) (ci := 3) (v := .ref q1) (ty := .array .int) (C := RX3) (T := TX3) (N := 10) hx hb hts hiX3 tyX3 tyX3_ok nmX3 hown hK hP hD hS 0 rfl rfl 7 (Nat.le_of_ble_eq_true rfl) (hts (.fieldLink RX3 30 "MovesUp$Reader" "code" "[I") (List.mem_of_getElem? (i := 11) rfl)) (fun _ h9 => h9) rfl hin rfl (by decide +kernel) rfl rfl (Nat.le_of_ble_eq_true rfl) dX3_init_40 (fun H locs hP hD hS => ?_)
  have hP : va_P (gD G) vwCl [(h0, .inr (3, [.null, .int 0, .int 0, .int 0, .int 0, .int (-1), .int 0, .ref q1, .int 0, .null])), (q1, .inl (gC G 0, 160, .inl (fun _ => 0)))] H := hP
  have hD : va_D A [(h0, .inr (3, [.null, .int 0, .int 0, .int 0, .int 0, .int (-1), .int 0, .ref q1, .int 0, .null])), (q1, .inl (gC G 0, 160, .inl (fun _ => 0)))] := hD
  refine lv_aload_n hx hb dX3_init_43 rfl (lv_at hl 0 rfl) ?_
  refine lv_iconst (v := 0) hx hb dX3_init_44 rfl ?_
  refine va_put (D := gD G) (ci := 3) (v := .int 0) (ty := .int) (C := RX3) (T := TX3) (N := 10) hx hb hts hiX3 tyX3 tyX3_ok nmX3 hown hK hP hD hS 0 rfl rfl 8 (Nat.le_of_ble_eq_true rfl) (hts (.fieldLink RX3 34 "MovesUp$Reader" "length" "I") (List.mem_of_getElem? (i := 12) rfl)) (fun _ h9 => h9) rfl (by decide +kernel) rfl rfl (Nat.le_of_ble_eq_true rfl) dX3_init_45 (fun H locs hP hD hS => ?_)
  have hP : va_P (gD G) vwCl [(h0, .inr (3, [.null, .int 0, .int 0, .int 0, .int 0, .int (-1), .int 0, .ref q1, .int 0, .null])), (q1, .inl (gC G 0, 160, .inl (fun _ => 0)))] H := hP
  have hD : va_D A [(h0, .inr (3, [.null, .int 0, .int 0, .int 0, .int 0, .int (-1), .int 0, .ref q1, .int 0, .null])), (q1, .inl (gC G 0, 160, .inl (fun _ => 0)))] := hD
  refine lv_aload_n hx hb dX3_init_48 rfl (lv_at hl 0 rfl) ?_
  refine lv_iconst (v := 4) hx hb dX3_init_49 rfl ?_
  refine y_newa (atype := .int) (ty := .int) (N' := 4) (a0 := (4, .inl (fun _ => 0))) hx hb (hts (.arrayClass .int) (List.mem_of_getElem? (i := 10) rfl)) rfl hK hP hD hS hA 0 rfl (fun _ => rfl) (by decide) rfl (Nat.le_of_ble_eq_true rfl) (Nat.le_of_ble_eq_true rfl) (Nat.le_of_ble_eq_true rfl) dX3_init_50 (fun q2 H hP hD hS => ?_)
  have hP : va_P (gD G) vwCl [(h0, .inr (3, [.null, .int 0, .int 0, .int 0, .int 0, .int (-1), .int 0, .ref q1, .int 0, .null])), (q1, .inl (gC G 0, 160, .inl (fun _ => 0))), (q2, .inl (gC G 0, 4, .inl (fun _ => 0)))] H := hP
  have hD : va_D A [(h0, .inr (3, [.null, .int 0, .int 0, .int 0, .int 0, .int (-1), .int 0, .ref q1, .int 0, .null])), (q1, .inl (gC G 0, 160, .inl (fun _ => 0))), (q2, .inl (gC G 0, 4, .inl (fun _ => 0)))] := hD
  refine W.widen (k := 2) (n := 164) (Nat.le_of_ble_eq_true rfl) (Nat.le_of_ble_eq_true rfl) ?_
  refine va_putF (D := gD G) (ci := 3) (v := .ref q2) (ty := .array .int) (C := RX3) (T := TX3) (N := 10) hx hb hts hiX3 tyX3 tyX3_ok nmX3 hown hK hP hD hS 0 rfl rfl 9 (Nat.le_of_ble_eq_true rfl) (hts (.fieldLink RX3 37 "MovesUp$Reader" "starts" "[I") (List.mem_of_getElem? (i := 13) rfl)) (fun _ h9 => h9) rfl hin rfl (by decide +kernel) rfl rfl (Nat.le_of_ble_eq_true rfl) dX3_init_52 (fun H locs hP hD hS => ?_)
  have hP : va_P (gD G) vwCl [(h0, .inr (3, [.null, .int 0, .int 0, .int 0, .int 0, .int (-1), .int 0, .ref q1, .int 0, .ref q2])), (q1, .inl (gC G 0, 160, .inl (fun _ => 0))), (q2, .inl (gC G 0, 4, .inl (fun _ => 0)))] H := hP
  have hD : va_D A [(h0, .inr (3, [.null, .int 0, .int 0, .int 0, .int 0, .int (-1), .int 0, .ref q1, .int 0, .ref q2])), (q1, .inl (gC G 0, 160, .inl (fun _ => 0))), (q2, .inl (gC G 0, 4, .inl (fun _ => 0)))] := hD
  refine lv_aload_n hx hb dX3_init_55 rfl (lv_at hl 0 rfl) ?_
  refine lv_aload_n hx hb dX3_init_56 rfl (lv_at hl 1 rfl) ?_
  refine va_putF (D := gD G) (ci := 3) (v := .ref b1) (ty := .array .byte) (C := RX3) (T := TX3) (N := 10) hx hb hts hiX3 tyX3 tyX3_ok nmX3 hown hK hP hD hS 0 rfl rfl 0 (Nat.le_of_ble_eq_true rfl) (hts (.fieldLink RX3 40 "MovesUp$Reader" "bytes" "[B") (List.mem_of_getElem? (i := 14) rfl)) (fun _ h9 => h9) rfl hin rfl (by decide +kernel) rfl rfl (Nat.le_of_ble_eq_true rfl) dX3_init_57 (fun H locs hP hD hS => ?_)
  have hP : va_P (gD G) vwCl [(h0, .inr (3, [.ref b1, .int 0, .int 0, .int 0, .int 0, .int (-1), .int 0, .ref q1, .int 0, .ref q2])), (q1, .inl (gC G 0, 160, .inl (fun _ => 0))), (q2, .inl (gC G 0, 4, .inl (fun _ => 0)))] H := hP
  have hD : va_D A [(h0, .inr (3, [.ref b1, .int 0, .int 0, .int 0, .int 0, .int (-1), .int 0, .ref q1, .int 0, .ref q2])), (q1, .inl (gC G 0, 160, .inl (fun _ => 0))), (q2, .inl (gC G 0, 4, .inl (fun _ => 0)))] := hD
  exact W.vret hx hb hr (fun t ht hW => ⟨⟨(), rfl, trivial, q1, q2, by rw [ht]; exact hP, hD⟩, hS.F ht⟩) hS.2.2 dX3_init_60
