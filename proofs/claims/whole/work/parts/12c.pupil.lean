/-! MAKERS: pupil -/
theorem cnt_p {a b b' c d K : Nat} (h : ¬ (K = 20 ∨ K = 21 ∨ K = 22)) : cnt (a, b, c, d) K = cnt (a, b', c, d) K := by
  unfold cnt
  rw [if_neg h, if_neg h]
theorem cnt_t {a b c c' d K : Nat} (h : ¬ (K = 30 ∨ K = 31 ∨ K = 32)) : cnt (a, b, c, d) K = cnt (a, b, c', d) K := by
  unfold cnt
  rw [if_neg h, if_neg h]
/-- the cells of one more pupil -/
def puF (k c so n : Int32) : Nat → Int32 := fun i => if i = 0 then k else if i = 1 then so else if i = 2 then n else if i = 3 then c else 0
def pu1 : Nat → Int32 := upd (fun _ => 0) 0 1
def pu0 : Nat → Int32 := fun _ => 0
def pupC (S : ST) (j : Nat) (k c so n : Int32) : ST := aI (aI (aI S 20 j (puF k c so n)) 21 j pu1) 22 j pu0
theorem pupC_o {S : ST} {j : Nat} {k c so n : Int32} (K i : Nat) (h : ¬ ((K = 20 ∨ K = 21 ∨ K = 22) ∧ i = j)) : (pupC S j k c so n).1 K i = S.1 K i ∧ (pupC S j k c so n).2.1 K i = S.2.1 K i ∧ (pupC S j k c so n).2.2 K i = S.2.2 K i := by
  refine ⟨?_, rfl, rfl⟩
  show ct (ct (ct S.1 20 j (puF k c so n)) 21 j pu1) 22 j pu0 K i = S.1 K i
  rw [ct_ne _ _ _ _ (by omega), ct_ne _ _ _ _ (by omega), ct_ne _ _ _ _ (by omega)]
theorem pupC_0 {S : ST} {j : Nat} {k c so n : Int32} : (pupC S j k c so n).1 20 j = puF k c so n := by
  show ct (ct (ct S.1 20 j (puF k c so n)) 21 j pu1) 22 j pu0 20 j = _
  rw [ct_ne _ _ _ _ (by omega), ct_ne _ _ _ _ (by omega), ct_at]
theorem pupC_1 {S : ST} {j : Nat} {k c so n : Int32} : (pupC S j k c so n).1 21 j = pu1 := by
  show ct (ct (ct S.1 20 j (puF k c so n)) 21 j pu1) 22 j pu0 21 j = _
  rw [ct_ne _ _ _ _ (by omega), ct_at]
theorem pupC_2 {S : ST} {j : Nat} {k c so n : Int32} : (pupC S j k c so n).1 22 j = pu0 := by
  show ct (ct (ct S.1 20 j (puF k c so n)) 21 j pu1) 22 j pu0 22 j = _
  rw [ct_at]
theorem WH.pupil {G : GE} {B : Nat → Nat → Nat} {E : EN} {S : ST} {H H1 : Heap} (h : WH G B E S H) {q q1 q2 : Nat} {k c so n : Int32}
    (hr : ∀ j x, S.2.2 3 0 j = some x → x < E.2.1) (hk : ∀ K i, i < cnt E K → H1[B K i]? = H[B K i]?)
    (hP : va_P (gD G) vwCl [(q, .inr (2, [.int k, .int so, .int n, .int c, .ref q1, .int 0, .ref q2])), (q1, .inl (gC G 0, 5, .inl (upd (fun _ => 0) 0 (1)))), (q2, .inl (gC G 0, 5, .inl (fun _ => 0)))] H1)
    (ha : q ≠ q1 ∧ q ≠ q2 ∧ q1 ≠ q2) (hb : ∀ K i, i < cnt E K → B K i ≠ q ∧ B K i ≠ q1 ∧ B K i ≠ q2) (hg : gB G ≤ q ∧ gB G ≤ q1 ∧ gB G ≤ q2) :
    WH G (b3 B 20 E.2.1 q q1 q2) (E.1, E.2.1 + 1, E.2.2) (pupC S E.2.1 k c so n) H1 := by
  obtain ⟨N, np, nt, nr⟩ := E
  refine h.grow (fun K i hi => ?_) (fun K hK => ?_) hk (fun K i hi => pupC_o K i (fun y => ?_)) (fun K i hi => ?_) ?_ ?_ ?_ ha hb hg
  · by_cases y : K = 20 ∨ K = 21 ∨ K = 22
    · have : i < np + 1 := by rcases y with rfl | rfl | rfl <;> exact hi
      by_cases z : i = np
      · exact Or.inr ⟨y, z⟩
      · refine Or.inl ?_
        have : i < np := by omega
        rcases y with rfl | rfl | rfl <;> exact this
    · exact Or.inl (by rw [cnt_p (b' := np + 1) y]; exact hi)
  · rcases hK with rfl | rfl | rfl <;> exact Nat.lt_irrefl np
  · obtain ⟨y, rfl⟩ := y
    rcases y with rfl | rfl | rfl <;> exact Nat.lt_irrefl _ hi
  · have nb : ∀ K2 i2, ¬ ((K2 = 20 ∨ K2 = 21 ∨ K2 = 22) ∧ i2 = np) → b3 B 20 np q q1 q2 K2 i2 = B K2 i2 := fun K2 i2 y => b3_n _ _ _ _ _ _ y
    refine entL_cong _ K i _ _ _ (fun K2 y0 y1 y2 _ _ _ => funext fun i2 => nb K2 i2 (by omega)) (fun e => ?_) (fun _ => ⟨nb _ _ (by omega), nb _ _ (by omega)⟩) (fun e j x hx => ?_) (fun _ _ x _ => nb _ _ (by omega)) (fun _ x _ => nb _ _ (by omega))
    · subst e
      have : i < np := hi
      exact ⟨nb _ _ (by omega), nb _ _ (by omega)⟩
    · subst e
      have hi0 : i < 1 := hi
      have : i = 0 := by omega
      subst this
      have := hr j x hx
      exact nb _ _ (fun y => by have : x < np := this; omega)
  · rw [e20, pupC_0]
    unfold fl20
    rw [b3_1 B 20, b3_2 B 20]
    exact hP 0 _ rfl
  · rw [show (20 + 1 : Nat) = 21 from rfl, e21, pupC_1]
    exact hP 1 _ rfl
  · rw [show (20 + 2 : Nat) = 22 from rfl, e22, pupC_2]
    exact hP 2 _ rfl
/-- B as it was, but pupils' and texts' cells -/
def BX (B B' : Nat → Nat → Nat) : Prop := ∀ K : Nat, (K < 20 ∨ 22 < K) → (K < 30 ∨ 32 < K) → B' K = B K
theorem BX.rf {B : Nat → Nat → Nat} : BX B B := fun _ _ _ => rfl
theorem BX.trans {B B1 B2 : Nat → Nat → Nat} (h : BX B B1) (h2 : BX B1 B2) : BX B B2 := fun K a b => (h2 K a b).trans (h K a b)
theorem BX.pupil {B : Nat → Nat → Nat} {j q q1 q2 : Nat} : BX B (b3 B 20 j q q1 q2) := fun K a b => funext fun i => b3_n _ _ _ _ _ _ (by omega)
section MAKE2
variable {p : Program} {l : Launch} {e : Env} {R : Room} {s : State} {m : MethodId} {args : Array Value} {below : List Frame} {meth : Method} {c : Code} {H : Heap} {locs : List Loc} {cells slots : Nat} {Q : State → Prop}
variable {cc : ByteArray} {pc : Nat} {ls : Array Slot} {rest st0 : List Value} {a : Nat} {G : GE} {B : Nat → Nat → Nat} {E : EN} {S S1 : ST} {K i K2 i2 : Nat}
/-- a reference into a row of references -/
theorem x_astR (hx : p.tables.exec = Jvm.exec) (hb : c.code = cc) (hK : va_K (gD G) vwCl (tyl G) s) (hW : WH G B E S H) (hS : va_S (AA G) s.heap H locs) (hd : i < cnt E K) (hd2 : i2 < cnt E K2) {n t0 ci : Nat} {r : vw_C} {vs : List Value} (ht : (tyl G)[t0]? = some (gC G t0, .object r.1))
    (he : ∀ rr, entL (gC G) B K i (S.1 K i) (S.2.1 K i) rr = .inl (gC G t0, n, .inr (.inr (.inr (.inr (fun j => (rr j).map (B K2))))))) (he2 : entL (gC G) B K2 i2 (S.1 K2 i2) (S.2.1 K2 i2) (S.2.2 K2 i2) = .inr (ci, vs)) (hc : vwCl[ci]? = some r) {j : Int32} (hin : vp_in j n) {jn : Nat} (hj : j.toNatClampNeg = jn)
    (eS : S1 = sR S K i jn (some i2)) (hdg : decode cc pc = .ok (.aastore, 1))
    (kk : ∀ (H : Heap) (locs : List Loc), WH G B E S1 H → va_S (AA G) s.heap H locs → W p l e R s m args below meth c H locs cells slots Q (F0 m (pc + 1) ls rest)) : W p l e R s m args below meth c H locs cells slots Q (F0 m pc ls (.ref (B K2 i2) :: .int j :: .ref (B K i) :: rest)) := by
  subst hj eS
  obtain ⟨q0, p0, g0⟩ := wl_at (G := G) (B := B) (S := S) hd
  obtain ⟨q1, -, g1⟩ := wl_at (G := G) (B := B) (S := S) hd2
  rw [he] at g0
  rw [he2] at g1
  refine va_astq hx hb hK (wl_P hW) (wl_D hW) hS q0 t0 q1 ci g0 ht g1 hc hin hdg (fun H1 locs1 hP1 _ hS1 => ?_)
  refine kk H1 locs1 ⟨fun K' i' h' => ?_, hW.2.1, hW.2.2⟩ hS1
  by_cases q : K' = K ∧ i' = i
  · obtain ⟨rfl, rfl⟩ := q
    have := hP1 q0 (B K' i', .inl (gC G t0, n, .inr (.inr (.inr (.inr (va_up (fun j => (S.2.2 K' i' j).map (B K2)) j.toNatClampNeg (some (B K2 i2)))))))) (by
      rw [List.getElem?_set, if_pos rfl, if_pos (List.getElem?_eq_some_iff.mp g0).1])
    show va_at (gD G) vwCl (B K' i', entL (gC G) B K' i' (S.1 K' i') (S.2.1 K' i') (ct S.2.2 K' i' (va_up (S.2.2 K' i') j.toNatClampNeg (some i2)) K' i')) H1
    rw [ct_at, he, show (fun j_1 => (va_up (S.2.2 K' i') j.toNatClampNeg (some i2) j_1).map (B K2)) = va_up (fun j => (S.2.2 K' i' j).map (B K2)) j.toNatClampNeg (some (B K2 i2)) from funext fun x => by
      unfold va_up
      split
      · rfl
      · rfl]
    exact this
  · obtain ⟨k', p', g'⟩ := wl_at (G := G) (B := B) (S := S) h'
    have hne : q0 ≠ k' := fun z => by
      subst z
      have := Option.some.inj (p0.symm.trans p')
      exact q ⟨(Prod.mk.inj this).1.symm, (Prod.mk.inj this).2.symm⟩
    obtain ⟨o1, o2, o3⟩ := aR_o (S := S) (f := va_up (S.2.2 K i) j.toNatClampNeg (some i2)) K' i' q
    rw [show (sR S K i j.toNatClampNeg (some i2)).1 K' i' = S.1 K' i' from o1, show (sR S K i j.toNatClampNeg (some i2)).2.1 K' i' = S.2.1 K' i' from o2, show (sR S K i j.toNatClampNeg (some i2)).2.2 K' i' = S.2.2 K' i' from o3]
    exact hP1 k' _ (by rw [List.getElem?_set, if_neg hne]; exact g')
end MAKE2
/-- a new cell is none of the memory's -/
theorem wl_new {G : GE} {B : Nat → Nat → Nat} {E : EN} {S : ST} {A : Nat → Prop} {q : Nat} {x : va_E} (h : va_D A (wl G B E S ++ [(q, x)])) {K i : Nat} (hi : i < cnt E K) : B K i ≠ q := fun e => by
  obtain ⟨k, -, hk⟩ := wl_at (G := G) (B := B) (S := S) hi
  have hl := (List.getElem?_eq_some_iff.mp hk).1
  have := h.1 k (wl G B E S).length _ _ (by rw [List.getElem?_append_left hl]; exact hk) (by rw [List.getElem?_append_right (Nat.le_refl _), Nat.sub_self]; rfl) e
  omega
theorem wl_last {G : GE} {B : Nat → Nat → Nat} {E : EN} {S : ST} {H : Heap} {q : Nat} {x : va_E} (h : va_P (gD G) vwCl (wl G B E S ++ [(q, x)]) H) : va_P (gD G) vwCl [(q, x)] H := fun k y hy => by
  match k, hy with
  | 0, hy =>
    cases hy
    exact h (wl G B E S).length _ (by rw [List.getElem?_append_right (Nat.le_refl _), Nat.sub_self]; rfl)
  | k + 1, hy => simp at hy
theorem wl_lastA {G : GE} {B : Nat → Nat → Nat} {E : EN} {S : ST} {A : Nat → Prop} {q : Nat} {x : va_E} (h : va_D A (wl G B E S ++ [(q, x)])) : A q :=
  h.2 (wl G B E S).length (q, x) (by rw [List.getElem?_append_right (Nat.le_refl _), Nat.sub_self]; rfl)
theorem one_D {q : Nat} {x : va_E} : va_D (fun _ => True) [(q, x)] := ⟨fun i j p q hi hj _ => by
  match i, j, hi, hj with
  | 0, 0, _, _ => rfl
  | i + 1, _, hi, _ => simp at hi
  | 0, j + 1, _, hj => simp at hj, fun _ _ _ => trivial⟩
theorem va_A1 {q sz x : Nat} {y : va_E} (h : va_A [(q, y)] sz x) : x = q ∨ sz ≤ x := by
  rcases h with ⟨k, e, h⟩ | h
  · match k, h with
    | 0, h => cases h; exact Or.inl rfl
    | k + 1, h => simp at h
  · exact Or.inr h
