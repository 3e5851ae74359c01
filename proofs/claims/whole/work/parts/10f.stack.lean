/-! PURE PART: the tokens of a tape; the reference's stack of signs -/
def tX (B : Nat → Nat) (n : Nat) : Nat → Nat × Nat × Nat
  | 0 => lx B n 0
  | k + 1 => lx B n (tX B n k).2.2
abbrev tP (B : Nat → Nat) (n k : Nat) : Nat := (tX B n k).1
abbrev tT (B : Nat → Nat) (n k : Nat) : Nat := (tX B n k).2.1
abbrev tN (B : Nat → Nat) (n k : Nat) : Nat := (tX B n k).2.2
theorem tX_ok (B : Nat → Nat) (n : Nat) : ∀ k, tP B n k ≤ n ∧ tN B n k ≤ n ∧ tP B n k ≤ tN B n k ∧ (tT B n k = 0 ∨ tP B n k < tN B n k) ∧
    (tT B n k = 0 → tP B n k = n) ∧ (tT B n k = 0 ∨ tT B n k = 2 ∨ (isG (tT B n k) = true) ∨ (256 ≤ tT B n k ∧ tT B n k < 268) ∨ (1000 ≤ tT B n k ∧ tT B n k < 11000))
  | 0 => by
    obtain ⟨-, h2, h3, h4, h5, h6, h7⟩ := lx_ok (B := B) (n := n) (p := 0) (Nat.zero_le _)
    exact ⟨h2, h3, h4, h5, h6, h7⟩
  | k + 1 => by
    obtain ⟨-, h2, -⟩ := tX_ok B n k
    obtain ⟨-, h2, h3, h4, h5, h6, h7⟩ := lx_ok (B := B) (n := n) (p := tN B n k) h2
    exact ⟨h2, h3, h4, h5, h6, h7⟩
theorem tX_up (B : Nat → Nat) (n k : Nat) : tN B n k ≤ tP B n (k + 1) := (lx_ok (B := B) (n := n) (p := tN B n k) (tX_ok B n k).2.1).1
theorem tX_end (B : Nat → Nat) (n k : Nat) (h : tT B n k = 0) : tT B n (k + 1) = 0 := by
  obtain ⟨h1, h2, h3, h4, h5, h6⟩ := tX_ok B n k
  have e := h5 h
  have hn : tN B n k = n := by omega
  show (lx B n (tN B n k)).2.1 = 0
  rw [hn]
  unfold lx
  rw [run_e (fun y => absurd y.1 (by omega)), if_pos (Nat.le_refl _)]
theorem tX_lt (B : Nat → Nat) (n : Nat) : ∀ k, tT B n k ≠ 0 → k ≤ tP B n k ∧ tP B n k < n
  | 0, h => by
    obtain ⟨h1, h2, h3, h4, h5, h6⟩ := tX_ok B n 0
    have := h4.resolve_left h
    exact ⟨Nat.zero_le _, by omega⟩
  | k + 1, h => by
    obtain ⟨h1, h2, h3, h4, h5, h6⟩ := tX_ok B n (k + 1)
    have a := h4.resolve_left h
    have hk : tT B n k ≠ 0 := fun e => h (tX_end B n k e)
    obtain ⟨i1, i2⟩ := tX_lt B n k hk
    have b := (tX_ok B n k).2.2.2.1.resolve_left hk
    have u := tX_up B n k
    exact ⟨by omega, by omega⟩
def stg (x : Nat) : Nat := if x = 2 then 1 else if x = 3 then 2 else if x = 4 then 3 else if x = 5 then 4 else if x = 6 then 4 else if x = 7 then 5 else if x = 8 then 5 else if x = 9 then 6 else if x = 10 then 7 else 0
def op1 (x : Nat) : Nat := if x = 4 ∨ x = 10 ∨ x = 20 then 1 else 0
def opc : List Nat → Nat
  | [] => 0
  | x :: r => opc r + op1 x
/-- signs of strength L or more leave the stack -/
def stl (L : Nat) : List (Nat × Nat) → List Nat → List (Nat × Nat) × List Nat
  | out, [] => (out, [])
  | out, x :: r => if L ≤ stg x then stl L ((x, 0) :: out) r else (out, x :: r)
def tpI : List Nat → Int32
  | [] => -1
  | x :: _ => nI x
def tpS : List Nat → Nat
  | [] => 0
  | x :: _ => stg x
def OU (T : ST) (b : Nat) : List (Nat × Nat) → Prop
  | [] => True
  | x :: r => gI T 57 0 (b + r.length) = nI x.1 ∧ gI T 58 0 (b + r.length) = nI x.2 ∧ OU T b r
def SK (T : ST) : List Nat → Prop
  | [] => True
  | x :: r => gI T 60 0 r.length = nI x ∧ SK T r
theorem OU.keep {T T1 : ST} {b : Nat} : ∀ {l : List (Nat × Nat)}, (∀ j, j < b + l.length → gI T1 57 0 j = gI T 57 0 j ∧ gI T1 58 0 j = gI T 58 0 j) → OU T b l → OU T1 b l
  | [], _, _ => True.intro
  | x :: r, h, q => by
    have a := h (b + r.length) (by show b + r.length < b + (r.length + 1); omega)
    exact ⟨a.1.trans q.1, a.2.trans q.2.1, OU.keep (fun j hj => h j (by show j < b + (r.length + 1); omega)) q.2.2⟩
theorem SK.keep {T T1 : ST} : ∀ {l : List Nat}, (∀ j, j < l.length → gI T1 60 0 j = gI T 60 0 j) → SK T l → SK T1 l
  | [], _, _ => True.intro
  | x :: r, h, q => ⟨(h r.length (by show r.length < r.length + 1; omega)).trans q.1, SK.keep (fun j hj => h j (by show j < r.length + 1; omega)) q.2⟩
def wMR : List (Nat × Nat) := [(1, 10), (1, 11), (1, 12), (1, 13), (1, 14), (1, 15), (1, 16), (57, 0), (58, 0), (60, 0)]
/-- the reference at token k of an E, c of whose tokens are taken: what it put down, what waits -/
def MRc (B : Nat → Nat) (n : Nat) (Tb : ST) (b k0 : Nat) (T : ST) (k c : Nat) (out : List (Nat × Nat)) (wt : List Nat) : Prop :=
  BM B n T ∧ TkM T (tP B n k) (tT B n k) (tN B n k) ∧ Fm wMR Tb T ∧ (∀ j, j < b → gI T 57 0 j = gI Tb 57 0 j ∧ gI T 58 0 j = gI Tb 58 0 j) ∧
  (gI T 1 0 15 = nI (b + out.length) ∧ gI T 1 0 14 = nI wt.length ∧ gI T 1 0 13 = nI (opc wt)) ∧ (OU T b out ∧ SK T wt) ∧ (out.length + wt.length + k0 ≤ c ∧ c ≤ 160 ∧ b ≤ 2720) ∧ (∀ x, x ∈ wt → 2 ≤ x ∧ x ≤ 20) ∧ opc wt ≤ 5
section STK
variable {E : EN} {B : Nat → Nat} {n : Nat} {Tb : ST} {b k0 : Nat}
theorem s_strength {T : ST} {x : Nat} (h : x ≤ 20) : f_X7_strength E T (nI x) = some (nI (stg x)) := by
  have e : ∀ y, f_X7_strength E T y = f_X7_strength (0, 0, 0, 0) (fun _ _ _ => 0, fun _ _ _ => 0, fun _ _ _ => none) y := fun _ => rfl
  rw [e]
  have all : ∀ x, x < 21 → f_X7_strength (0, 0, 0, 0) (fun _ _ _ => 0, fun _ _ _ => 0, fun _ _ _ => none) (nI x) = some (nI (stg x)) := by decide +kernel
  exact all x (by omega)
theorem stg_le (x : Nat) : stg x ≤ 7 := by
  unfold stg
  repeat' split
  all_goals decide
theorem s_top {T : ST} {k c : Nat} {out : List (Nat × Nat)} {wt : List Nat} (h : MRc B n Tb b k0 T k c out wt) : f_X7_top E T = some (tpI wt) ∧ (bd_ (f_X7_top E T) fun r => f_X7_strength E T r) = some (nI (tpS wt)) := by
  obtain ⟨-, -, -, -, ⟨-, h14, -⟩, ⟨-, hs⟩, ⟨hl, hc, -⟩, hx, -⟩ := h
  have e : f_X7_top E T = some (tpI wt) := by
    unfold f_X7_top
    rw [h14]
    cases wt with
    | nil => rw [if_pos (by decide)]; rfl
    | cons x r =>
      have hl : out.length + (r.length + 1) + k0 ≤ c := hl
      rw [if_neg (show ¬ nI (x :: r).length ≤ 0 from nI_nle (by show 0 < r.length + 1; omega) (by show r.length + 1 < 2 ^ 31; omega)), show (x :: r).length = r.length + 1 from rfl, q_m1, ck_in (ib_nI (by omega) (by decide)), q_cl (by omega), hs.1]
      rfl
  refine ⟨e, ?_⟩
  rw [bd_some e]
  cases wt with
  | nil => rfl
  | cons x r => exact s_strength (hx x List.mem_cons_self).2
theorem s_put {T : ST} {m : Nat} {x y : Int32} (h15 : gI T 1 0 15 = nI m) (hm : m < 2880) : f_X7_put E T x y = some (sI (sI (sI T 57 0 m x) 58 0 m y) 1 0 15 (nI (m + 1))) := by
  unfold f_X7_put
  rw [h15, ck_in (ib_nI hm (by decide)), q_cl (by omega), lt_e, show gI (sI T 57 0 m x) 1 0 15 = nI m by rw [gI_ne (by omega)]; exact h15, ck_in (ib_nI hm (by decide)), q_cl (by omega), lt_e, show gI (sI (sI T 57 0 m x) 58 0 m y) 1 0 15 = nI m by rw [gI_ne (by omega), gI_ne (by omega)]; exact h15, nI_1, lt_e]
/-- one sign more is put down -/
theorem MRc.put {T : ST} {k c m : Nat} {out : List (Nat × Nat)} {wt wt' : List Nat} (h : MRc B n Tb b k0 T k c out wt) {x : Nat × Nat} {T1 : ST} {c' : Nat} (hT : Fm [(1, 14), (1, 15)] T T1) (h14 : gI T1 1 0 14 = nI wt'.length) (h13 : gI T1 1 0 13 = nI (opc wt')) (hs : SK T1 wt') (hm : m = b + out.length) (hc : out.length + 1 + wt'.length + k0 ≤ c') (hc' : c' ≤ 160) (hx : ∀ x, x ∈ wt' → 2 ≤ x ∧ x ≤ 20) (ho : opc wt' ≤ 5) :
    MRc B n Tb b k0 (sI (sI (sI T1 57 0 m (nI x.1)) 58 0 m (nI x.2)) 1 0 15 (nI (m + 1))) k c' (x :: out) wt' := by
  obtain ⟨p1, ⟨p21, p22, p23, p24, p25⟩, p3, p4, ⟨p5, p6, p7⟩, ⟨p8, p9⟩, ⟨p10, p11, p12⟩, p13, p14⟩ := h
  subst hm
  have F : Fm wMR T (sI (sI (sI T1 57 0 (b + out.length) (nI x.1)) 58 0 (b + out.length) (nI x.2)) 1 0 15 (nI (b + out.length + 1))) := (((hT.mono rfl).sI rfl rfl).sI rfl rfl).sI rfl rfl
  have F2 : Fm [(1, 14), (1, 15), (1, 16), (57, 0), (58, 0)] T (sI (sI (sI T1 57 0 (b + out.length) (nI x.1)) 58 0 (b + out.length) (nI x.2)) 1 0 15 (nI (b + out.length + 1))) := (((hT.mono rfl).sI rfl rfl).sI rfl rfl).sI rfl rfl
  have lo : ∀ j, j < b + out.length → gI (sI (sI (sI T1 57 0 (b + out.length) (nI x.1)) 58 0 (b + out.length) (nI x.2)) 1 0 15 (nI (b + out.length + 1))) 57 0 j = gI T 57 0 j ∧ gI (sI (sI (sI T1 57 0 (b + out.length) (nI x.1)) 58 0 (b + out.length) (nI x.2)) 1 0 15 (nI (b + out.length + 1))) 58 0 j = gI T 58 0 j := fun j hj =>
    ⟨by rw [gI_ne (by omega), gI_ne (by omega), gI_ne (by omega)]; exact hT.I rfl, by rw [gI_ne (by omega), gI_ne (by omega), gI_ne (by omega)]; exact hT.I rfl⟩
  refine ⟨p1.keep (F2.ag rfl), ⟨(F2.I rfl).trans p21, (F2.I rfl).trans p22, fun a c => (F2.I rfl).trans (p23 a c), fun a => (F2.I rfl).trans (p24 a), fun a => (F2.I rfl).trans (p25 a)⟩, p3.trans F, fun j hj => ?_, ⟨?_, ?_, ?_⟩, ⟨⟨?_, ?_, ?_⟩, ?_⟩, ⟨?_, hc', p12⟩, hx, ho⟩
  · obtain ⟨a1, a2⟩ := lo j (by omega)
    exact ⟨a1.trans (p4 j hj).1, a2.trans (p4 j hj).2⟩
  · rw [gI_same]
    rfl
  · rw [gI_ne (by omega), gI_ne (by omega), gI_ne (by omega)]
    exact h14
  · rw [gI_ne (by omega), gI_ne (by omega), gI_ne (by omega)]
    exact h13
  · rw [gI_ne (by omega), gI_ne (by omega), gI_same]
  · rw [gI_ne (by omega), gI_same]
  · exact p8.keep lo
  · exact hs.keep fun j hj => by rw [gI_ne (by omega), gI_ne (by omega), gI_ne (by omega)]
  · show out.length + 1 + wt'.length + k0 ≤ c'
    exact hc
theorem stl_le (L : Nat) : ∀ (wt : List Nat) (out : List (Nat × Nat)), (stl L out wt).1.length + (stl L out wt).2.length = out.length + wt.length ∧ opc (stl L out wt).2 ≤ opc wt
  | [], out => ⟨rfl, Nat.le_refl _⟩
  | x :: r, out => by
    show (if L ≤ stg x then stl L ((x, 0) :: out) r else (out, x :: r)).1.length + (if L ≤ stg x then stl L ((x, 0) :: out) r else (out, x :: r)).2.length = _ ∧ opc (if L ≤ stg x then stl L ((x, 0) :: out) r else (out, x :: r)).2 ≤ opc (x :: r)
    by_cases z : L ≤ stg x
    · rw [if_pos z]
      obtain ⟨h1, h2⟩ := stl_le L r ((x, 0) :: out)
      refine ⟨?_, Nat.le_trans h2 (Nat.le_add_right _ _)⟩
      rw [h1]
      show out.length + 1 + r.length = out.length + (r.length + 1)
      omega
    · rw [if_neg z]
      exact ⟨rfl, Nat.le_refl _⟩
theorem s_setM (hN : 300 ≤ E.1) {L : Nat} (hL : 1 ≤ L) (hL7 : L ≤ 7) {T : ST} {k c : Nat} {out : List (Nat × Nat)} {wt : List Nat} (h : MRc B n Tb b k0 T k c out wt) :
    ∃ T2, f_X7_settle E T (nI L) = some T2 ∧ MRc B n Tb b k0 T2 k c (stl L out wt).1 (stl L out wt).2 := by
  have main : ∀ (wt : List Nat) (m : Nat) (T : ST) (out : List (Nat × Nat)), wt.length < m → MRc B n Tb b k0 T k c out wt → ∃ T2, f_X7_settle_b0 E m T (nI L) = some T2 ∧ MRc B n Tb b k0 T2 k c (stl L out wt).1 (stl L out wt).2 := by
    intro wt
    induction wt with
    | nil =>
      intro m T out hm h
      obtain ⟨m, rfl⟩ : ∃ j, m = j + 1 := ⟨m - 1, by omega⟩
      refine ⟨T, ?_, h⟩
      rw [show f_X7_settle_b0 E (m + 1) = g_X7_settle_b0 E (f_X7_settle_b0 E m) from rfl]
      unfold g_X7_settle_b0
      rw [h.2.2.2.2.1.2.1, if_pos (by decide)]
    | cons x r ih =>
      intro m T out hm h
      have hm : r.length + 1 < m := hm
      obtain ⟨m, rfl⟩ : ∃ j, m = j + 1 := ⟨m - 1, by omega⟩
      obtain ⟨p1, p2, p3, p4, ⟨p5, p6, p7⟩, ⟨p8, p9⟩, ⟨p10, p11, p12⟩, p13, p14⟩ := id h
      have p10' : out.length + (r.length + 1) + k0 ≤ c := p10
      have hx := p13 x List.mem_cons_self
      have t1 := (s_top (E := E) h).1
      have sx := stg_le x
      rw [show f_X7_settle_b0 E (m + 1) = g_X7_settle_b0 E (f_X7_settle_b0 E m) from rfl]
      unfold g_X7_settle_b0
      rw [p6, if_neg (show ¬ nI (x :: r).length ≤ 0 from nI_nle (by show 0 < r.length + 1; omega) (by show r.length + 1 < 2 ^ 31; omega)), bd_some t1, bd_some (show f_X7_strength E T (tpI (x :: r)) = some (nI (stg x)) from s_strength hx.2)]
      by_cases z : L ≤ stg x
      · have e : stl L out (x :: r) = stl L ((x, 0) :: out) r := by
          show (if L ≤ stg x then stl L ((x, 0) :: out) r else (out, x :: r)) = _
          rw [if_pos z]
        have x20 : x ≠ 20 := fun q => by
          rw [q] at z
          have : stg 20 = 0 := by decide
          omega
        have f14 : gI (sI T 1 0 14 (nI r.length)) 1 0 14 = nI r.length := gI_same _ _ _ _ _
        have f13 : gI (sI T 1 0 14 (nI r.length)) 1 0 13 = nI (opc (x :: r)) := by rw [gI_ne (by omega)]; exact p7
        have f60 : gI (sI T 1 0 14 (nI r.length)) 60 0 r.length = nI x := by rw [gI_ne (by omega)]; exact p9.1
        rw [if_neg (by rw [q_lt (by omega) (by omega)]; omega), show nI (x :: r).length - (1 : Int32) = nI r.length from q_m1 _, lt_e, f14, ck_in (ib_nI (by omega) (by decide)), q_cl (by omega), f60, lt_e, f13, e]
        unfold f_X7_settle_b55 f_X7_settle_b60
        rw [lt_e, lt_e]
        have go : ∀ v, v = nI (opc r) → ∃ T2, (bd_ (f_X7_put E (sI (sI T 1 0 14 (nI r.length)) 1 0 13 v) (nI x) (0 : Int32)) fun S2 => f_X7_settle_b0 E m S2 (nI L)) = some T2 ∧ MRc B n Tb b k0 T2 k c (stl L ((x, 0) :: out) r).1 (stl L ((x, 0) :: out) r).2 := fun v hv => by
          rw [hv, bd_some (s_put (m := b + out.length) (by rw [gI_ne (by omega), gI_ne (by omega)]; exact p5) (by omega))]
          refine ih m _ ((x, 0) :: out) (by omega) ?_
          exact MRc.put (c' := c) (x := (x, 0)) (m := b + out.length) h ((Fm.rf.sI rfl rfl).sI rfl rfl) (by rw [gI_ne (by omega)]; exact f14) (gI_same _ _ _ _ _) (p9.2.keep fun j hj => by rw [gI_ne (by omega), gI_ne (by omega)]) rfl (by omega) p11 (fun y hy => p13 y (List.mem_cons_of_mem _ hy)) (Nat.le_trans (Nat.le_add_right _ _) p14)
        by_cases x4 : x = 4
        · rw [if_pos (show nI x = (4 : Int32) by rw [x4]; rfl)]
          refine go _ ?_
          show nI (opc r + op1 x) - 1 = _
          rw [show op1 x = 1 by unfold op1; rw [if_pos (Or.inl x4)], q_m1]
        · rw [if_neg (show ¬ nI x = (4 : Int32) by rw [q_eqR 4 (by decide) (by omega)]; exact x4)]
          by_cases x10 : x = 10
          · rw [if_pos (show nI x = (10 : Int32) by rw [x10]; rfl)]
            refine go _ ?_
            show nI (opc r + op1 x) - 1 = _
            rw [show op1 x = 1 by unfold op1; rw [if_pos (Or.inr (Or.inl x10))], q_m1]
          · rw [if_neg (show ¬ nI x = (10 : Int32) by rw [q_eqR 10 (by decide) (by omega)]; exact x10)]
            refine go _ ?_
            show nI (opc r + op1 x) - 0 = _
            rw [show op1 x = 0 by unfold op1; rw [if_neg (by omega)], Int32.sub_zero]
            rfl
      · have e : stl L out (x :: r) = (out, x :: r) := by
          show (if L ≤ stg x then stl L ((x, 0) :: out) r else (out, x :: r)) = _
          rw [if_neg z]
        rw [if_pos (by rw [q_lt (by omega) (by omega)]; omega), e]
        exact ⟨T, rfl, h⟩
  unfold f_X7_settle
  have hl : out.length + wt.length + k0 ≤ c := h.2.2.2.2.2.2.1.1
  have hc : c ≤ 160 := h.2.2.2.2.2.2.1.2.1
  exact main wt E.1 T out (by omega) h
/-- a sign waits -/
theorem s_pushM {T : ST} {k c : Nat} {out : List (Nat × Nat)} {wt : List Nat} {x : Nat} (h : MRc B n Tb b k0 T k c out wt) (hc : c < 160) {v : Int32} (hv : v = nI (opc (x :: wt))) (hx : 2 ≤ x ∧ x ≤ 20) (ho : opc (x :: wt) ≤ 5) : ∃ T2, f_X7_pushSign E (sI T 1 0 13 v) (nI x) = some T2 ∧ MRc B n Tb b k0 T2 k (c + 1) out (x :: wt) := by
  obtain ⟨p1, ⟨p21, p22, p23, p24, p25⟩, p3, p4, ⟨p5, p6, p7⟩, ⟨p8, p9⟩, ⟨p10, p11, p12⟩, p13, p14⟩ := h
  unfold f_X7_pushSign
  have g14 : gI (sI T 1 0 13 v) 1 0 14 = nI wt.length := by rw [gI_ne (by omega)]; exact p6
  rw [g14, ck_in (ib_nI (by omega) (by decide)), q_cl (by omega), lt_e, gI_ne (by omega), g14, nI_1, lt_e]
  have F : Fm [(1, 14), (60, 0), (1, 15)] T (sI (sI (sI T 1 0 13 v) 60 0 wt.length (nI x)) 1 0 14 (nI (wt.length + 1))) := ((Fm.rf.sI rfl rfl).sI rfl rfl).sI rfl rfl
  refine ⟨_, rfl, p1.keep (F.ag rfl), ⟨(F.I rfl).trans p21, (F.I rfl).trans p22, fun a c => (F.I rfl).trans (p23 a c), fun a => (F.I rfl).trans (p24 a), fun a => (F.I rfl).trans (p25 a)⟩, p3.trans (F.mono rfl), fun j hj => ⟨(F.I rfl).trans (p4 j hj).1, (F.I rfl).trans (p4 j hj).2⟩, ⟨(F.I rfl).trans p5, ?_, ?_⟩, ⟨p8.keep (fun j hj => ⟨F.I rfl, F.I rfl⟩), ?_, ?_⟩, ⟨?_, by omega, p12⟩, fun y hy => ?_, ho⟩
  · rw [gI_same]; rfl
  · rw [gI_ne (by omega), gI_ne (by omega), gI_same, hv]
  · rw [gI_ne (by omega), gI_same]
  · exact p9.keep fun j hj => by rw [gI_ne (by omega), gI_ne (by omega), gI_ne (by omega)]
  · show out.length + (wt.length + 1) + k0 ≤ c + 1
    omega
  · rcases List.mem_cons.mp hy with e | e
    · rw [e]; exact hx
    · exact p13 y e
end STK
