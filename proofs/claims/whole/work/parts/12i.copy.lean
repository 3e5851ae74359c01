/-! MAKERS: a row's copy -/
abbrev wP (G : GE) (sz : Nat) (ws : va_W) : State → Prop := fun U => U.heap.size = sz ∧ va_P (gD G) vwCl ws U.heap ∧ va_K (gD G) vwCl (tyl G) U ∧ va_D (fun _ => True) ws ∧ va_Nw (.castable "[I" "java/lang/Cloneable") U
theorem wN_pre {G : GE} {s : State} {H : Heap} {ws : va_W} {av : List Value} (hP : va_P (gD G) vwCl ws H) (hK : va_K (gD G) vwCl (tyl G) s) (hD : va_D (fun _ => True) ws) (hN : va_Nw (.castable "[I" "java/lang/Cloneable") s) : PreS s H (va_Pc av (wP G H.size ws)) av :=
  ⟨fun a U g mk q => by
    obtain ⟨q0, q1, qP, qK, qD, qN⟩ := q
    have hw : U.WarmedH (U.calling g mk a).vm := State.WarmedH.refl U
    exact ⟨q0, q1, qP, qK.moved (Vm.Alike.refl U.vm), qD, qN.warmC hw⟩, fun U hU hW => ⟨rfl, by rw [hU], by rw [hU]; exact hP, va_K.moved hW.alike hK, hD, hN.warmC hW⟩⟩
theorem cl_fit {cA : ClassId} {n : Nat} {f : Nat → Int32} {i : Nat} {v : Value} (h : (vp_cell cA (n, .inl f)).slots[i]? = some v) : fits .int v = true := by
  have h : (arrV cA n (fun j => .int (f j))).slots[i]? = some v := h
  have hl : i < n := by
    have h2 := (Array.getElem?_eq_some_iff.mp h).1
    rwa [arrV_size] at h2
  rw [arrV_read _ _ hl] at h
  cases h
  rfl
set_option maxHeartbeats 4000000 in
set_option maxRecDepth 100000 in
theorem m_J7_copyOf (l : Launch) (G : GE) (h0 sz : Nat) (f : Nat → Int32) (L : Nat) (hL : L ≤ 160) : Met l yJ7_copyOf_59c91 wsJ7_copyOf_59c91 { frames := 2, cells := 1, slots := 160, locals := 120 } (va_Pc [.ref h0, .int (nI L)] (wP G sz [(h0, .inl (gC G 0, 160, .inl f))]))
    (va_Qr (fun _ : Unit => True) (fun _ q t => ∃ g : Nat → Int32, (∀ i, i < L → g i = f i) ∧ va_P (gD G) vwCl [(h0, .inl (gC G 0, 160, .inl f)), (q, .inl (gC G 0, L, .inl g))] t.heap ∧ va_D (va_A [(h0, .inl (gC G 0, 160, .inl f))] sz) [(h0, .inl (gC G 0, 160, .inl f)), (q, .inl (gC G 0, L, .inl g))]) (va_A [(h0, .inl (gC G 0, 160, .inl f))] sz)) 1 160 (va_A [(h0, .inl (gC G 0, 160, .inl f))] sz) := by
  refine Met.ofW (cc := cJ7_copyOf_59c91) (maxL := 3) (ret := (some (.array .int))) (by decide) rfl ?_
  intro p e s m args below meth c s₁ B0 hml hv
  obtain ⟨rfl, hsz, hP, hK, hD0, hN⟩ := hv
  have hx := B0.exec
  have hb := B0.bytes
  have hr := B0.returns
  have hts := atoms_spec (ws := wsJ7_copyOf_59c91) B0.pre
  have hown : s.vm.findClass RJ7 = some m.cls := findClass_of_methodNamed B0.named
  have hlocks := B0.notSynchronized
  subst hsz
  have hD := hD0.self (sz := s.heap.size)
  generalize hAe : va_A [(h0, .inl (gC G 0, 160, .inl f))] s.heap.size = A at hD ⊢
  have hA : ∀ q : Nat, s.heap.size ≤ q → A q := fun q h => by rw [← hAe]; exact Or.inr h
  have hS : va_S A s.heap s.heap [] := va_S.rf
  have hl := lv_entry [.ref h0, .int (nI L)] (n := 3) (Nat.le_of_ble_eq_true rfl)
  rw [lg_entry_eq]
  generalize (lg_sl [.ref h0, .int (nI L)] ++ List.replicate (3 - (lg_sl [.ref h0, .int (nI L)]).length) Slot.unset).toArray = ls at hl ⊢
  have hl : lv_has ls 3 [(0, .ref h0), (1, .int (nI L))] := hl
  have hnm : s.vm.findClass "[I" = some (gC G 0) := va_nm_int (hK.2 0 _ rfl).2
  refine lv_iload_n hx hb dJ7_copyOf_59c91_0 rfl (lv_at hl 1 rfl) ?_
  refine lv_aload_n hx hb dJ7_copyOf_59c91_1 rfl (lv_at hl 0 rfl) ?_
  refine va_alen hx hb hK hP 0 0 rfl rfl (v := 160) rfl dJ7_copyOf_59c91_2 ?_
  refine lv_icmp_ne (tgt := 14) hx hb dJ7_copyOf_59c91_3 (by decide) (fun h => ?_) (fun h => ?_)
  · refine lv_iload_n hx hb dJ7_copyOf_59c91_14 rfl (lv_at hl 1 rfl) ?_
    refine y_newa (atype := .int) (ty := .int) (N' := L) (a0 := (L, .inl (fun _ => 0))) hx hb (hts (.arrayClass .int) (List.mem_of_getElem? (i := 7) rfl)) rfl hK hP hD hS hA 0 rfl (fun _ => rfl) (q_n0 (by omega)) (q_cl (by omega)) (by show L * 4 ≤ _; omega) (Nat.le_of_ble_eq_true rfl) (by show 0 + L ≤ 160; omega) dJ7_copyOf_59c91_15 (fun q H hP hD hS => ?_)
    have hP : va_P (gD G) vwCl [(h0, .inl (gC G 0, 160, .inl f)), (q, .inl (gC G 0, L, .inl (fun _ => 0)))] H := hP
    have hD : va_D A [(h0, .inl (gC G 0, 160, .inl f)), (q, .inl (gC G 0, L, .inl (fun _ => 0)))] := hD
    refine W.widen (k := 1) (n := 160) (Nat.le_of_ble_eq_true rfl) (by omega) ?_
    refine lv_astore_n (lv' := [(2, .ref q), (0, .ref h0), (1, .int (nI L))]) hx hb dJ7_copyOf_59c91_17 rfl hl (by decide) rfl (fun ls hl => ?_)
    refine lv_aload_n hx hb dJ7_copyOf_59c91_18 rfl (lv_at hl 1 rfl) ?_
    refine lv_iconst (v := 0) hx hb dJ7_copyOf_59c91_19 rfl ?_
    refine lv_aload_n hx hb dJ7_copyOf_59c91_20 rfl (lv_at hl 0 rfl) ?_
    refine lv_iconst (v := 0) hx hb dJ7_copyOf_59c91_21 rfl ?_
    refine lv_aload_n hx hb dJ7_copyOf_59c91_22 rfl (lv_at hl 1 rfl) ?_
    refine va_alen hx hb hK hP 0 0 rfl rfl (v := 160) rfl dJ7_copyOf_59c91_23 ?_
    refine lv_iload_n hx hb dJ7_copyOf_59c91_24 rfl (lv_at hl 2 rfl) ?_
    refine va_mmin hx hb (hml.trans hl.1.symm) hown (hts (.methodLink RJ7 304 Lib.Math.min.name) (List.mem_of_getElem? (i := 8) rfl)) (hts (.static Lib.Math.min.name) (List.mem_of_getElem? (i := 9) rfl)) (hts (.initialized "java/lang/Math") (List.mem_of_getElem? (i := 10) rfl)) (hts (.code Lib.Math.min.name Lib.Math.min.code 2 (some .int)) (List.mem_of_getElem? (i := 11) rfl)) (Nat.le_of_ble_eq_true rfl) (Nat.le_of_ble_eq_true rfl) (Nat.le_of_ble_eq_true rfl) (Nat.le_of_ble_eq_true rfl) dJ7_copyOf_59c91_25 ?_
    have hlt : (if nI L < (160 : Int32) then nI L else (160 : Int32)) = nI L := by
      by_cases z : nI L < (160 : Int32)
      · rw [if_pos z]
      · rw [if_neg z]
        rw [q_ltR 160 (by decide) (by omega)] at z
        have : L = 160 := by omega
        rw [this]
        rfl
    refine W.eq (g2 := F0 m 28 ls [.int (nI L), .int 0, .ref q, .int 0, .ref h0]) (by rw [hlt]) ?_
    refine va_copyi hx hb (hml.trans hl.1.symm) hown (hts (.methodLink RJ7 150 arraycopyName) (List.mem_of_getElem? (i := 12) rfl)) (hts (.native arraycopyName) (List.mem_of_getElem? (i := 13) rfl)) (hts (.static arraycopyName) (List.mem_of_getElem? (i := 14) rfl)) (hts (.initialized "java/lang/System") (List.mem_of_getElem? (i := 15) rfl)) hK hP hD hS 0 1 0 0 rfl rfl rfl rfl rfl (by decide) (by decide) (q_n0 (by omega)) (by rw [q_cl (by omega)]; show 0 + L ≤ 160; omega) (by rw [q_cl (by omega)]; show 0 + L ≤ L; omega) (fun _ _ => rfl) (Nat.le_of_ble_eq_true rfl) (Nat.le_of_ble_eq_true rfl) dJ7_copyOf_59c91_28 (fun H locs hP hD hS => ?_)
    have hP : va_P (gD G) vwCl [(h0, .inl (gC G 0, 160, .inl f)), (q, .inl (gC G 0, L, .inl (va_cpy f (fun _ => 0) (0 : Int32).toNatClampNeg (0 : Int32).toNatClampNeg (nI L).toNatClampNeg)))] H := hP
    have hD : va_D A [(h0, .inl (gC G 0, 160, .inl f)), (q, .inl (gC G 0, L, .inl (va_cpy f (fun _ => 0) (0 : Int32).toNatClampNeg (0 : Int32).toNatClampNeg (nI L).toNatClampNeg)))] := hD
    refine lv_aload_n hx hb dJ7_copyOf_59c91_31 rfl (lv_at hl 0 rfl) ?_
    exact W.aret hx hb hr (Or.inr ⟨_, rfl⟩) (Or.inr ⟨_, rfl⟩) (fun t ht hw => ⟨⟨(), q, rfl, trivial, _, fun i hi => by
      rw [q_cl (by omega)]
      show va_cpy f (fun _ => 0) 0 0 L i = f i
      unfold va_cpy
      rw [if_pos (by omega)]
      congr 1
      omega, by rw [ht]; exact hP, hD⟩, hS.F ht⟩) hS.2.2 dJ7_copyOf_59c91_32 hlocks
  · have hL2 : L = 160 := by
      have := (q_eqR 160 (by decide) (show L < 2147483648 by omega)).mp h
      exact this
    subst hL2
    refine lv_aload_n hx hb dJ7_copyOf_59c91_6 rfl (lv_at hl 0 rfl) ?_
    refine va_clone hx hb (hml.trans hl.1.symm) hown (hts (.methodLink RJ7 316 ⟨"[I", "clone", "()Ljava/lang/Object;"⟩) (List.mem_of_getElem? (i := 1) rfl)) (hts (.sameMethod "[I" "java/lang/Object" "clone" "()Ljava/lang/Object;") (List.mem_of_getElem? (i := 2) rfl)) (hts (.native ⟨"java/lang/Object", "clone", "()Ljava/lang/Object;"⟩) (List.mem_of_getElem? (i := 3) rfl)) (hts (.instanceMethod ⟨"java/lang/Object", "clone", "()Ljava/lang/Object;"⟩) (List.mem_of_getElem? (i := 4) rfl)) (hts (.selects "[I" ⟨"[I", "clone", "()Ljava/lang/Object;"⟩ ⟨"java/lang/Object", "clone", "()Ljava/lang/Object;"⟩) (List.mem_of_getElem? (i := 5) rfl)) hN hK hP hD hS hA 0 0 rfl rfl hnm (fun i v hv => cl_fit hv) (Nat.le_of_ble_eq_true rfl) (Nat.le_of_ble_eq_true rfl) (Nat.le_of_ble_eq_true rfl) (Nat.le_of_ble_eq_true rfl) dJ7_copyOf_59c91_7 (fun q H _ hP hD hS => ?_)
    have hP : va_P (gD G) vwCl [(h0, .inl (gC G 0, 160, .inl f)), (q, .inl (gC G 0, 160, .inl f))] H := hP
    have hD : va_D A [(h0, .inl (gC G 0, 160, .inl f)), (q, .inl (gC G 0, 160, .inl f))] := hD
    refine W.widen (k := 1) (n := 160) (Nat.le_of_ble_eq_true rfl) (Nat.le_of_ble_eq_true rfl) ?_
    refine va_castA hx hb hown (hts (.classLink RJ7 317 "[I") (List.mem_of_getElem? (i := 6) rfl)) hP 1 rfl hnm dJ7_copyOf_59c91_10 ?_
    exact W.aret hx hb hr (Or.inr ⟨_, rfl⟩) (Or.inr ⟨_, rfl⟩) (fun t ht hw => ⟨⟨(), q, rfl, trivial, f, fun _ _ => rfl, by rw [ht]; exact hP, hD⟩, hS.F ht⟩) hS.2.2 dJ7_copyOf_59c91_13 hlocks
