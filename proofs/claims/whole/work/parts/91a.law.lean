/-! THE CLAIM OUT OF ONE WALK OF THE LAW'S BODY. Your part is whole_start (and what it stands on); all else here is the same for every law, but numbers. -/
def R_law : String := "MovesUpLaw"
def lw_P (b : Addr) (xs : List Int32) (args : Array Value) (s : State) : Prop := args = #[.ref b] ∧ s.IntsAt b xs ∧ xs.length ≤ 384 ∧ (Jvm.Cond.and given_1 narrow_1).before args s = true
def lw_Q (_ : Array Value) (s : State) (o : Outcome) (t : State) : Prop := o = .returned (some (.int 1)) ∧ Framed s o t [] 600000 7302250
def lw_Z (below : List Frame) (a : Array Value) (s : State) : State → Prop := fun t => ∃ o, t.status = .running ∧ Ended t below o ∧ lw_Q a s o t
/-- the law's own end, with 1 on the stack, nothing written that was there before, its room as the claim has it -/
theorem lw_ret {p : Program} {l : Launch} {e : Env} {s : State} {m : MethodId} {below : List Frame} {meth : Method} {c : Code} {b : Nat} (hx : p.tables.exec = Jvm.exec) (hb : c.code = code) (hr : meth.sig.returnType = ret) (hlocks : meth.locks = false) {pc : Nat} {H : Heap} {ls : Array Slot} (hdg : decode code pc = .ok (.ireturn, 1)) : W p l e room_1 s m #[Value.ref b] below meth c H [] 600000 7302250 (lw_Z below #[Value.ref b] s) (F0 m pc ls [.int 1]) := by
  intro T hT X
  obtain ⟨fs, hret, hrun, hended, hW, hframe⟩ := X.leave (v := some (.int 1)) (hlocks := hlocks) (fun h => by rw [hr] at h; cases h)
  have hmeth' : T.vm.method? m = some meth := X.method'
  refine ⟨T.setFrames fs, ?_, .returned (some (.int 1)), hrun, hended, rfl, ⟨_, rfl⟩, hW, hframe⟩
  jvm_step X.here [X.here.top, hx, hb, hdg, hmeth', hr, ret, narrow_b1]
  (try refine ⟨rfl, ?_⟩); (try refine ⟨rfl, ?_⟩)
  first | (intro acts; rw [hret _ acts rfl rfl rfl]) | rw [hret _ _ rfl rfl rfl]
  exact Steps.refl _
/-- what holds at the law's entry: the machine, the code, the tables' words (any of lw_tbl by 'hts w (by decide +kernel)'), the script of L ints xs at the cell b, what the Statement gives of the start (any of its parts by flat_of_before) -/
def lw_At (p : Program) (s : State) (m : MethodId) (meth : Method) (c : Code) (b L : Nat) (xs : Nat → Int32) : Prop :=
  p.tables.exec = Jvm.exec ∧ c.code = code ∧ meth.sig.returnType = ret ∧ c.maxLocals = 4 ∧ s.vm.findClass R_law = some m.cls ∧ (∀ w ∈ lw_tbl, w.before #[Value.ref b] s = true) ∧ va_X b L xs s s.heap ∧ b < s.heap.size ∧ meth.locks = false ∧ (Jvm.Cond.and given_1 narrow_1).before #[Value.ref b] s = true
/-! THE LAW: what its cases need -/
theorem lg_cmp_rf (x : Int64) : lg_cmp x x = 0 := by
  unfold lg_cmp
  simp
theorem x_in {k j L : Nat} (h : k + j < L) (hL : L ≤ 384) : vp_in (nI k + nI j) L := vp_in_iff.mpr (by rw [nI_add, nI_toInt (by omega)]; omega)
theorem REL.ci {E : EN} {S : ST} (h : REL E S) : CI E S := by
  obtain ⟨h8, hc, hm, hr, hp⟩ := h.1
  refine ⟨hc, h8, fun j x hx => ?_⟩
  have e : S.2.2 3 0 j = if j < E.2.1 then some j else none := hr j
  rw [e] at hx
  by_cases z : j < E.2.1
  · rw [if_pos z] at hx
    cases hx
    exact z
  · rw [if_neg z] at hx
    cases hx
theorem hd_X6_init : yX6_init.cls ≠ "java/lang/invoke/MethodHandle" ∧ yX6_init.cls ≠ "java/lang/invoke/VarHandle" ∧ (parseMethodDescriptor yX6_init.desc).map (fun d => d.parameters.length) = some 0 := ⟨by decide, by decide, by decide +kernel⟩
theorem hd_X7_init : yX7_init.cls ≠ "java/lang/invoke/MethodHandle" ∧ yX7_init.cls ≠ "java/lang/invoke/VarHandle" ∧ (parseMethodDescriptor yX7_init.desc).map (fun d => d.parameters.length) = some 0 := ⟨by decide, by decide, by decide +kernel⟩
theorem hd_X6_text : yX6_text.cls ≠ "java/lang/invoke/MethodHandle" ∧ yX6_text.cls ≠ "java/lang/invoke/VarHandle" ∧ (parseMethodDescriptor yX6_text.desc).map (fun d => d.parameters.length) = some 0 := ⟨by decide, by decide, by decide +kernel⟩
theorem hd_X6_pupils : yX6_pupils.cls ≠ "java/lang/invoke/MethodHandle" ∧ yX6_pupils.cls ≠ "java/lang/invoke/VarHandle" ∧ (parseMethodDescriptor yX6_pupils.desc).map (fun d => d.parameters.length) = some 4 := ⟨by decide, by decide, by decide +kernel⟩
/-- between two calls of the law: place k of the script -/
def LQ (G : GE) (s : State) (b : Nat) (B : Nat → Nat → Nat) (E : EN) (S : ST) (k : Nat) (H : Heap) (locs : List Loc) (ls : Array Slot) : Prop := E.1 = 20300 ∧ E.2.2.2 = 1 ∧ REL E S ∧ WH G B E S H ∧ va_S (AA G) s.heap H locs ∧ lv_has ls 4 [(3, .int (nI k)), (0, .ref b), (1, .ref (B 2 0)), (2, .ref (B 1 0))]
theorem j_textR {E : EN} {S : ST} (hN : 20300 ≤ E.1) (h : REL E S) : ∀ f S1, f_X3_read E S (gI S 2 0 6) = some (f, S1) → f < 0 → ∃ L, L ≤ 160 ∧ gI S1 8 0 8 = nI L := fun f S1 e hf => by
  obtain ⟨n, By, n160, t1, hB, hM⟩ := j_bytes h.2.2.2.1
  rw [t1] at e
  have F : Fm [(1, 7)] S (sI S 1 0 6 (nI 0)) := Fm.rf.sI rfl rfl
  rcases s_readText (E := E) (B := By) (n := n) (t := 0) (S := S) (T := sI S 1 0 6 (nI 0)) (by omega) n160 hB (hM.keep (F.ag rfl)) (by decide) (gI_same _ _ _ _ _) with ⟨f', S1', T1, hf', e1, -⟩ | ⟨l0, l1, l2, S1', T1, e1, -, -, -, -, -, -, b5, b6, -⟩
  · have := (Prod.mk.inj (Option.some.inj (e.symm.trans e1))).1
    rw [this] at hf
    exact absurd hf (q_n0 (by omega))
  · have := (Prod.mk.inj (Option.some.inj (e.symm.trans e1))).2
    rw [this]
    exact ⟨_, b5, b6⟩
