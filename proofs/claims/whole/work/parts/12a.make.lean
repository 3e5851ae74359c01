/-! MAKERS: rows for what makes cells -/
theorem ra_name {s : State} {cA : ClassId} {ty : FieldType} (h : va_RA s cA ty) : s.vm.findClass ("[" ++ ty.toString) = some cA := by
  cases ty with
  | object C =>
    obtain ⟨-, -, -, -, -, q⟩ := h
    exact q
  | _ => exact h
section MAKE
variable {p : Program} {l : Launch} {e : Env} {R : Room} {s : State} {m : MethodId} {args : Array Value} {below : List Frame} {meth : Method} {c : Code} {H : Heap} {locs : List Loc} {cells slots : Nat} {Q : State → Prop}
variable {cc : ByteArray} {pc : Nat} {ls : Array Slot} {rest st0 : List Value} {a : Nat} {G : GE} {B : Nat → Nat → Nat} {E : EN} {S S1 : ST} {K i : Nat} {A : Nat → Prop} {ws : va_W} {H0 : Heap}
theorem y_newa (hx : p.tables.exec = Jvm.exec) (hb : c.code = cc) {atype : ArrayType} (harr : (Cond.arrayClass (newarray.typeOf atype)).before args s = true) {ty : FieldType} (hty : newarray.typeOf atype = ty) (hK : va_K (gD G) vwCl (tyl G) s) (hP : va_P (gD G) vwCl ws H) (hD : va_D A ws) (hS : va_S A H0 H locs) (hA : ∀ q, H0.size ≤ q → A q)
    (t0 : Nat) (ht : (tyl G)[t0]? = some (gC G t0, ty)) {n : Int32} {N' : Nat} {a0 : vp_A} (ha : ∀ cA : ClassId, vp_cell cA a0 = arrV cA N' (fun _ => defaultValue ty)) (hn : ¬ n < 0) (hN : n.toNatClampNeg = N') (hbytes : N' * componentBytes ty ≤ 536870912) (hcells : cells + 1 ≤ R.cells) (hslots : slots + N' ≤ R.slots) (hdg : decode cc pc = .ok (.newarray atype, 2))
    (kk : ∀ (q : Nat) (H1 : Heap), va_P (gD G) vwCl (ws ++ [(q, .inl (gC G t0, a0))]) H1 → va_D A (ws ++ [(q, .inl (gC G t0, a0))]) → va_S A H0 H1 locs →
      W p l e R s m args below meth c H1 locs (cells + 1) (slots + N') Q (F0 m (pc + 2) ls (.ref q :: rest))) : W p l e R s m args below meth c H locs cells slots Q (F0 m pc ls (.int n :: rest)) := by
  refine va_newa hx hb harr hty hK hP hD hS hA ha hn hN hbytes hcells hslots hdg (fun q cA H1 k2 p2 d2 s2 => ?_)
  have e1 := ra_name ((k2.2 8 (cA, ty) rfl).2)
  have e2 := ra_name ((hK.2 t0 (gC G t0, ty) ht).2)
  have e3 : cA = gC G t0 := Option.some.inj (e1.symm.trans e2)
  subst e3
  exact kk q H1 p2 d2 s2
theorem y_newq (hx : p.tables.exec = Jvm.exec) (hb : c.code = cc) {own C : String} {index : Nat} (hown : s.vm.findClass own = some m.cls) (hclink : (Cond.classLink own index C).before args s = true) (hover : va_AO C s) (hK : va_K (gD G) vwCl (tyl G) s) (hP : va_P (gD G) vwCl ws H) (hD : va_D A ws) (hS : va_S A H0 H locs) (hA : ∀ q, H0.size ≤ q → A q)
    (t0 : Nat) (ht : (tyl G)[t0]? = some (gC G t0, .object C)) {n : Int32} {N' : Nat} (hn : ¬ n < 0) (hN : n.toNatClampNeg = N') (hbytes : N' * 4 ≤ 536870912) (hcells : cells + 1 ≤ R.cells) (hslots : slots + N' ≤ R.slots) (hdg : decode cc pc = .ok (.anewarray index, 3))
    (kk : ∀ (q : Nat) (H1 : Heap), va_P (gD G) vwCl (ws ++ [(q, .inl (gC G t0, N', .inr (.inr (.inr (.inr (fun _ => none))))))]) H1 → va_D A (ws ++ [(q, .inl (gC G t0, N', .inr (.inr (.inr (.inr (fun _ => none))))))]) → va_S A H0 H1 locs →
      W p l e R s m args below meth c H1 locs (cells + 1) (slots + N') Q (F0 m (pc + 3) ls (.ref q :: rest))) : W p l e R s m args below meth c H locs cells slots Q (F0 m pc ls (.int n :: rest)) := by
  refine va_newq hx hb hown hclink hover hK hP hD hS hA hn hN hbytes hcells hslots hdg (fun q cA H1 k2 p2 d2 s2 => ?_)
  have e1 := ra_name ((k2.2 8 (cA, .object C) rfl).2)
  have e2 := ra_name ((hK.2 t0 (gC G t0, .object C) ht).2)
  have e3 : cA = gC G t0 := Option.some.inj (e1.symm.trans e2)
  subst e3
  exact kk q H1 p2 d2 s2
end MAKE
/-- a row of cells that begins with the memory's cells holds the memory -/
theorem WH.of_P {G : GE} {B : Nat → Nat → Nat} {E : EN} {S : ST} {H H1 : Heap} {r : va_W} (h : WH G B E S H) (hP : va_P (gD G) vwCl (wl G B E S ++ r) H1) : WH G B E S H1 := by
  refine ⟨fun K i hi => ?_, h.2.1, h.2.2⟩
  obtain ⟨k, -, hk⟩ := wl_at (G := G) (B := B) (S := S) hi
  refine hP k _ ?_
  rw [List.getElem?_append_left (List.getElem?_eq_some_iff.mp hk).1]
  exact hk
/-- a list world's beginning of a method -/
theorem wp_blind {G : GE} {av : List Value} {sz : Nat} {ws : va_W} : FrameBlind (va_Pc av (fun U => U.heap.size = sz ∧ va_P (gD G) vwCl ws U.heap ∧ va_K (gD G) vwCl (tyl G) U ∧ va_D (fun _ => True) ws)) := fun a U g mk q => by
  obtain ⟨q0, q1, qP, qK, qD⟩ := q
  exact ⟨q0, q1, qP, va_K.moved (u := U) (U := U.calling g mk a) (Vm.Alike.refl U.vm) qK, qD⟩
theorem wp_pre {G : GE} {s : State} {H : Heap} {ws : va_W} {av : List Value} (hP : va_P (gD G) vwCl ws H) (hK : va_K (gD G) vwCl (tyl G) s) (hD : va_D (fun _ => True) ws) : PreS s H (va_Pc av (fun U => U.heap.size = H.size ∧ va_P (gD G) vwCl ws U.heap ∧ va_K (gD G) vwCl (tyl G) U ∧ va_D (fun _ => True) ws)) av :=
  ⟨wp_blind, fun U hU hW => ⟨rfl, by rw [hU], by rw [hU]; exact hP, va_K.moved hW.alike hK, hD⟩⟩
