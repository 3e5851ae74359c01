/-! PURE PART: reader and stack side by side: a row of signs of one strength -/
theorem one_s (E : EN) (d : Nat) : f_X3_readOne E (d + 1) = b_X3_readOne E (f_X3_readOr E d) (f_X3_readAnd E d) (f_X3_readNot E d) (f_X3_readSum E d) (f_X3_readTerm E d) (f_X3_readOne E d) := rfl
theorem term_s (E : EN) (d : Nat) : f_X3_readTerm E (d + 1) = b_X3_readTerm E (f_X3_readOr E d) (f_X3_readAnd E d) (f_X3_readNot E d) (f_X3_readSum E d) (f_X3_readTerm E d) (f_X3_readOne E d) := rfl
theorem sum_s (E : EN) (d : Nat) : f_X3_readSum E (d + 1) = b_X3_readSum E (f_X3_readOr E d) (f_X3_readAnd E d) (f_X3_readNot E d) (f_X3_readSum E d) (f_X3_readTerm E d) (f_X3_readOne E d) := rfl
theorem not_s (E : EN) (d : Nat) : f_X3_readNot E (d + 1) = b_X3_readNot E (f_X3_readOr E d) (f_X3_readAnd E d) (f_X3_readNot E d) (f_X3_readSum E d) (f_X3_readTerm E d) (f_X3_readOne E d) := rfl
theorem and_s (E : EN) (d : Nat) : f_X3_readAnd E (d + 1) = b_X3_readAnd E (f_X3_readOr E d) (f_X3_readAnd E d) (f_X3_readNot E d) (f_X3_readSum E d) (f_X3_readTerm E d) (f_X3_readOne E d) := rfl
theorem or_s (E : EN) (d : Nat) : f_X3_readOr E (d + 1) = b_X3_readOr E (f_X3_readOr E d) (f_X3_readAnd E d) (f_X3_readNot E d) (f_X3_readSum E d) (f_X3_readTerm E d) (f_X3_readOne E d) := rfl
theorem stl_stl {a b : Nat} (h : a ≤ b) : ∀ (wt : List Nat) (out : List (Nat × Nat)), stl a (stl b out wt).1 (stl b out wt).2 = stl a out wt
  | [], out => rfl
  | x :: r, out => by
    have e : stl b out (x :: r) = if b ≤ stg x then stl b ((x, 0) :: out) r else (out, x :: r) := rfl
    rw [e]
    by_cases z : b ≤ stg x
    · rw [if_pos z, stl_stl h r ((x, 0) :: out), show stl a out (x :: r) = if a ≤ stg x then stl a ((x, 0) :: out) r else (out, x :: r) from rfl, if_pos (by omega)]
    · rw [if_neg z]
theorem stl_no {a : Nat} {wt : List Nat} {out : List (Nat × Nat)} (h : tpS wt < a) : stl a out wt = (out, wt) := by
  cases wt with
  | nil => rfl
  | cons x r =>
    have h : stg x < a := h
    show (if a ≤ stg x then stl a ((x, 0) :: out) r else (out, x :: r)) = _
    rw [if_neg (by omega)]
theorem stl_yes {a x : Nat} {wt : List Nat} {out : List (Nat × Nat)} (h : a ≤ stg x) : stl a out (x :: wt) = stl a ((x, 0) :: out) wt := by
  show (if a ≤ stg x then stl a ((x, 0) :: out) wt else (out, x :: wt)) = _
  rw [if_pos h]
/-- the same at a lower strength -/
theorem stl_dn {a b : Nat} (h : a ≤ b) {oR out : List (Nat × Nat)} {wt σ : List Nat} (e : stl b oR wt = stl b out σ) : stl a oR wt = stl a out σ := by
  rw [← stl_stl h wt oR, ← stl_stl h σ out, e]
theorem stl_ln {a : Nat} {oR out : List (Nat × Nat)} {wt σ : List Nat} (e : stl a oR wt = stl a out σ) : oR.length + wt.length = out.length + σ.length := by
  have h1 := (stl_le a wt oR).1
  have h2 := (stl_le a σ out).1
  rw [e] at h1
  omega
abbrev EXT : Type := Nat → List (Nat × Nat) → List Nat → Prop
/-- a part of an E read on both sides: it holds, or both give up at one token -/
def Res (E : EN) (B : Nat → Nat) (n : Nat) (Sb : ST) (bc : Nat) (Tb : ST) (b k0 : Nat) (fN : ST → Option ST) (L : Nat) (EX : EXT) (v0 : Int32) (S T : ST) (k : Nat) (σ : List Nat) (out : List (Nat × Nat)) (dh : Nat) (mn : Int32) : Prop :=
  (∃ (j : Nat) (S2 T2 : ST) (out2 oR : List (Nat × Nat)) (wt : List Nat) (mn2 : Int32), fN S = some S2 ∧ CL B n Sb bc S2 (k + j) out2 (opc σ) ∧ (∀ m, f_X7_takesE_b19 E (j + m) T v0 mn = f_X7_takesE_b19 E m T2 0 mn2) ∧ MR B n Tb b k0 T2 (k + j) oR wt ∧ stl L oR wt = stl L out2 σ ∧ EX (k + j) oR wt ∧ hL out2 = hL out + dh ∧ (okO out → okO out2)) ∨
  (∃ (j : Nat) (S2 T2 : ST) (kf : Nat), fN S = some S2 ∧ DD Sb S2 (tP B n kf) ∧ (∀ m, f_X7_takesE_b19 E (j + m) T v0 mn = some (0, T2)) ∧ FL B n Tb b T2 kf ∧ k + j ≤ kf + 1 ∧ kf ≤ 160)
section SIM
variable {E : EN} {B : Nat → Nat} {n : Nat} {Sb Tb : ST} {b k0 bc : Nat}
/-- the signs of one strength, and what stands between them -/
theorem s_loop (hN : 300 ≤ E.1) (hb : bc ≤ k0) {opP : Nat → Prop} {Lo L' : Nat} {EX : EXT} {rc : ST → Option ST} {lp : Nat → ST → Int32 → Option ST} {σ : List Nat}
    (hop : ∀ t, opP t → isB2 t ∧ lvO t = Lo ∧ t ≠ 60 ∧ t ≠ 61 ∧ nI (enc (sgO t, 0)) = tC t ∧ stg (sgO t) = Lo ∧ 2 ≤ sgO t ∧ sgO t ≤ 9 ∧ sgO t ≠ 4)
    (hLo : 1 ≤ Lo) (hLL : Lo ≤ L') (hσ : tpS σ < Lo)
    (e1 : ∀ (m i k : Nat) (S : ST), i < 160 → opP (tT B n k) → gI S 8 0 3 = tC (tT B n k) → lp (m + 1) S (nI i) = bd_ (f_X3_advance E S) fun S1 => bd_ (rc S1) fun S2 => bd_ (f_X3_emit E S2 (tC (tT B n k))) fun S3 => lp m S3 (nI (i + 1)))
    (e2 : ∀ (m i k : Nat) (S : ST), i ≤ 160 → ¬ opP (tT B n k) → gI S 8 0 3 = tC (tT B n k) → lp (m + 1) S (nI i) = some S)
    (e3 : ∀ (m i : Nat) (S : ST), i ≤ 160 → gI S 8 0 3 = -1 → lp (m + 1) S (nI i) = some S)
    (nx : ∀ (k s : Nat) (S T : ST) (out : List (Nat × Nat)) (mn : Int32), stg s = Lo → opc (s :: σ) = opc σ → CL B n Sb bc S k out (opc (s :: σ)) → MR B n Tb b k0 T k out (s :: σ) → (Lo = 6 ∨ Lo = 5 → mn = 0) → (Lo = 2 ∨ Lo = 1 → mn = 1) → Res E B n Sb bc Tb b k0 rc L' EX 1 S T k (s :: σ) out 1 mn)
    (wd : ∀ t, opP t → (Lo = 6 ∨ Lo = 5 → ¬ (256 ≤ t ∧ t < 268)) ∧ (Lo = 2 ∨ Lo = 1 → (256 ≤ t ∧ t < 268))) :
    ∀ (u k i m : Nat) (S T : ST) (out oR : List (Nat × Nat)) (wt : List Nat) (mn : Int32), 161 ≤ k + u → u ≤ m → i ≤ k → CL B n Sb bc S k out (opc σ) → MR B n Tb b k0 T k oR wt → stl Lo oR wt = (out, σ) → EX k oR wt → 1 ≤ hL out →
      Res E B n Sb bc Tb b k0 (fun S => lp m S (nI i)) Lo (fun k oR wt => EX k oR wt ∧ ¬ opP (tT B n k)) 0 S T k σ out 0 mn := by
  intro u
  induction u with
  | zero =>
    intro k i m S T out oR wt mn hu hm hi C M
    have := M.2.2.2.2.2.2.1.2.1
    omega
  | succ u ih =>
    intro k i m S T out oR wt mn hu hm hi C M es ex hh
    obtain ⟨m, rfl⟩ : ∃ q, m = q + 1 := ⟨m - 1, by omega⟩
    have k160 : k ≤ 160 := M.2.2.2.2.2.2.1.2.1
    by_cases z : opP (tT B n k)
    · obtain ⟨o1, o2, o3, o4, o5, o6, o7, o8, o9⟩ := hop _ z
      have h0 : tT B n k ≠ 0 := by unfold isB2 at o1; omega
      have kl := M.lt h0
      -- class: the sign
      obtain ⟨S1, a1, C1⟩ := s_advS (E := E) hN C
      -- reference: the sign
      obtain ⟨T2, r2, M2⟩ := (r_sign (E := E) (mn := mn) hN M o1).2 (fun y => y.1.elim o3 o4)
      rw [o2, es] at M2
      have eo : opc (sgO (tT B n k) :: σ) = opc σ := by
        show opc σ + op1 (sgO (tT B n k)) = opc σ
        unfold op1
        rw [if_neg (by omega)]
        rfl
      rcases nx (k + 1) (sgO (tT B n k)) S1 T2 out (if 256 ≤ tT B n k ∧ tT B n k < 268 then 1 else 0) o6 eo (by rw [eo]; exact C1) M2 (fun y => if_neg ((wd _ z).1 y)) (fun y => if_pos ((wd _ z).2 y)) with ⟨j, S3, T3, out3, oR3, wt3, mn3, f3, C3, r3, M3, es3, ex3, h3, ok3⟩ | ⟨j, S3, T3, kf, f3, D3, r3, L3, hk3, hk4⟩
      · rw [eo] at C3
        -- emission
        have ln := stl_ln es3
        have ln : oR3.length + wt3.length = out3.length + (σ.length + 1) := ln
        have mr := M3.2.2.2.2.2.2.1
        obtain ⟨S4, e4, C4⟩ := s_emitC (E := E) C3 (show bc + out3.length < 160 by omega) (sgO (tT B n k), 0) (v := tC (tT B n k)) o5.symm
        have es4 : stl Lo oR3 wt3 = ((sgO (tT B n k), 0) :: out3, σ) := by
          rw [stl_dn hLL es3, stl_yes (by omega), stl_no hσ]
        have hS4 : hL ((sgO (tT B n k), 0) :: out3) = hL out := by
          show hS (sgO (tT B n k), 0) (hL out3) = hL out
          unfold hS
          rw [if_neg (show ¬ (sgO (tT B n k) = 0 ∨ sgO (tT B n k) = 1) by omega)]
          by_cases y : sgO (tT B n k) = 4 ∨ sgO (tT B n k) = 10
          · omega
          · rw [if_neg (show ¬ (((sgO (tT B n k), 0) : Nat × Nat).1 = 4 ∨ ((sgO (tT B n k), 0) : Nat × Nat).1 = 10) from y)]
            omega
        have ok4 : okO out3 → okO ((sgO (tT B n k), 0) :: out3) := fun y => ⟨⟨show sgO (tT B n k) ≤ 10 by omega, show 0 ≤ 9999 by omega, fun w => by have : sgO (tT B n k) = 1 := w; omega, fun w => by rw [h3]; omega, Or.inr (Or.inr (Or.inr (Or.inr (by rw [h3]; omega))))⟩, y⟩
        rcases ih (k + 1 + j) (i + 1) m S4 T3 ((sgO (tT B n k), 0) :: out3) oR3 wt3 mn3 (by omega) (by omega) (by omega) C4 M3 es4 ex3 (by omega) with ⟨j', S5, T5, out5, oR5, wt5, mn5, f5, C5, r5, M5, es5, ex5, h5, ok5⟩ | ⟨j', S5, T5, kf, f5, D5, r5, L5, hk5, hk6⟩
        · refine Or.inl ⟨1 + j + j', S5, T5, out5, oR5, wt5, mn5, ?_, ?_, fun q => ?_, ?_, es5, ?_, by rw [h5, hS4], fun y => ok5 (ok4 (ok3 y))⟩
          · show lp (m + 1) S (nI i) = some S5
            rw [e1 m i k S (by omega) z C.2.1.2.1, bd_some a1, bd_some f3, bd_some e4]
            exact f5
          · rw [show k + (1 + j + j') = k + 1 + j + j' by omega]; exact C5
          · rw [show 1 + j + j' + q = (j + (j' + q)) + 1 by omega, r2, r3, r5]
          · rw [show k + (1 + j + j') = k + 1 + j + j' by omega]; exact M5
          · rw [show k + (1 + j + j') = k + 1 + j + j' by omega]; exact ex5
        · refine Or.inr ⟨1 + j + j', S5, T5, kf, ?_, D5, fun q => ?_, L5, by omega, hk6⟩
          · show lp (m + 1) S (nI i) = some S5
            rw [e1 m i k S (by omega) z C.2.1.2.1, bd_some a1, bd_some f3, bd_some e4]
            exact f5
          · rw [show 1 + j + j' + q = (j + (j' + q)) + 1 by omega, r2, r3, r5]
      · obtain ⟨S4, e4, D4⟩ := d_emit (E := E) D3 (tC (tT B n k))
        refine Or.inr ⟨1 + j, S4, T3, kf, ?_, D4, fun q => ?_, L3, by omega, hk4⟩
        · show lp (m + 1) S (nI i) = some S4
          obtain ⟨m', hm'⟩ : ∃ m', m = m' + 1 := ⟨m - 1, by omega⟩
          rw [e1 m i k S (by omega) z C.2.1.2.1, bd_some a1, bd_some f3, bd_some e4, hm', e3 m' (i + 1) S4 (by omega) D4.2.1]
        · rw [show 1 + j + q = (j + q) + 1 by omega, r2, r3]
    · refine Or.inl ⟨0, S, T, out, oR, wt, mn, e2 m i k S (by omega) z C.2.1.2.1, C, fun q => by rw [Nat.zero_add], M, ?_, ⟨ex, z⟩, rfl, fun y => y⟩
      rw [es, stl_no hσ]
/-- one, and the loop behind it -/
theorem s_chain (hN : 300 ≤ E.1) {L' Lo : Nat} {EX EX2 : EXT} {rc : ST → Option ST} {lp : ST → Option ST} {S T : ST} {k : Nat} {σ : List Nat} {out : List (Nat × Nat)} {mn : Int32} (hLL : Lo ≤ L') (hσ : tpS σ < Lo)
    (h1 : Res E B n Sb bc Tb b k0 rc L' EX 1 S T k σ out 1 mn)
    (h2 : ∀ (k : Nat) (S T : ST) (out oR : List (Nat × Nat)) (wt : List Nat) (mn : Int32), CL B n Sb bc S k out (opc σ) → MR B n Tb b k0 T k oR wt → stl Lo oR wt = (out, σ) → EX k oR wt → 1 ≤ hL out → Res E B n Sb bc Tb b k0 lp Lo EX2 0 S T k σ out 0 mn)
    (h3 : ∀ (S : ST) (f : Nat), DD Sb S f → lp S = some S) : Res E B n Sb bc Tb b k0 (fun S => bd_ (rc S) lp) Lo EX2 1 S T k σ out 1 mn := by
  rcases h1 with ⟨j, S3, T3, out3, oR3, wt3, mn3, f3, C3, r3, M3, es3, ex3, hh3, ok3⟩ | ⟨j, S3, T3, kf, f3, D3, r3, L3, hk3, hk4⟩
  · have es4 : stl Lo oR3 wt3 = (out3, σ) := by rw [stl_dn hLL es3, stl_no hσ]
    rcases h2 (k + j) S3 T3 out3 oR3 wt3 mn3 C3 M3 es4 ex3 (by omega) with ⟨j', S5, T5, out5, oR5, wt5, mn5, f5, C5, r5, M5, es5, ex5, h5, ok5⟩ | ⟨j', S5, T5, kf, f5, D5, r5, L5, hk5, hk6⟩
    · refine Or.inl ⟨j + j', S5, T5, out5, oR5, wt5, mn5, ?_, by rw [← Nat.add_assoc]; exact C5, fun q => by rw [Nat.add_assoc, r3, r5], by rw [← Nat.add_assoc]; exact M5, es5, by rw [← Nat.add_assoc]; exact ex5, by rw [h5, hh3], fun y => ok5 (ok3 y)⟩
      show bd_ (rc S) lp = some S5
      rw [bd_some f3, f5]
    · refine Or.inr ⟨j + j', S5, T5, kf, ?_, D5, fun q => by rw [Nat.add_assoc, r3, r5], L5, by omega, hk6⟩
      show bd_ (rc S) lp = some S5
      rw [bd_some f3, f5]
  · refine Or.inr ⟨j, S3, T3, kf, ?_, D3, r3, L3, hk3, hk4⟩
    show bd_ (rc S) lp = some S3
    rw [bd_some f3, h3 S3 _ D3]
end SIM
