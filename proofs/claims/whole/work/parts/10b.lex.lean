/-! PURE PART: the class reads a token -/
def wdC : List Nat := [108, 101, 97, 114, 110, 32, 114, 105, 103, 104, 116, 32, 101, 110, 100, 32, 111, 114, 32, 97, 110, 100, 32, 110, 111, 116, 32, 115, 116, 101, 112, 32, 99, 108, 97, 115, 115, 32, 119, 101, 101, 107, 32, 115, 111, 114, 116, 32, 109, 111, 118, 101, 100, 32, 108, 101, 102, 116, 32]
theorem s_len1 {E : EN} {S : ST} : f_J0_length_8abf5 E 1 S = some (nI 59) := by
  have e : f_J0_length_8abf5 E 1 S = some ((nI 59) >>> ((0 : Int32) &&& 31)) := rfl
  rw [e]
  decide
theorem s_char1 {E : EN} {S : ST} {i : Nat} (h : i < 59) : f_J0_charAt_5068e E 1 S (nI i) = some (nI (wdC.getD i 0)) := by
  have e : ∀ x, f_J0_charAt_5068e E 1 S x = f_J0_charAt_5068e (0, 0, 0, 0) 1 (fun _ _ _ => 0, fun _ _ _ => 0, fun _ _ _ => none) x := fun _ => rfl
  rw [e]
  have all : ∀ i, i < 59 → f_J0_charAt_5068e (0, 0, 0, 0) 1 (fun _ _ _ => 0, fun _ _ _ => 0, fun _ _ _ => none) (nI i) = some (nI (wdC.getD i 0)) := by decide +kernel
  exact all i h
/-- the class' way of spelling -/
def sp (B : Nat → Nat) (q e : Nat) : List Nat → Nat → Nat → Bool → Nat
  | [], _, _, _ => 2
  | c :: cs, f, p, al => if c = 32 then (if al = true ∧ p = e then f else sp B q e cs (f + 1) q true) else (if al = true ∧ p < e ∧ B p = c then sp B q e cs f (p + 1) true else sp B q e cs f p false)
theorem sp_no {B : Nat → Nat} {q e : Nat} {r : List Nat} {f : Nat} : ∀ (w : List Nat) (p : Nat), (∀ c, c ∈ w → c ≠ 32) → sp B q e (w ++ 32 :: r) f p false = sp B q e r (f + 1) q true
  | [], p, _ => by
    show (if (32 : Nat) = 32 then (if false = true ∧ p = e then f else sp B q e r (f + 1) q true) else _) = _
    rw [if_pos rfl, if_neg (fun h => Bool.false_ne_true h.1)]
  | c :: w, p, h => by
    show (if c = 32 then _ else (if false = true ∧ p < e ∧ B p = c then _ else sp B q e (w ++ 32 :: r) f p false)) = _
    rw [if_neg (h c List.mem_cons_self), if_neg (fun h => Bool.false_ne_true h.1)]
    exact sp_no w p (fun x hx => h x (List.mem_cons_of_mem _ hx))
theorem sp_yes {B : Nat → Nat} {q e : Nat} {r : List Nat} {f : Nat} : ∀ (w : List Nat) (p : Nat), (∀ c, c ∈ w → c ≠ 32) → p ≤ e → sp B q e (w ++ 32 :: r) f p true = if seg B p (e - p) = w then f else sp B q e r (f + 1) q true
  | [], p, _, hp => by
    show (if (32 : Nat) = 32 then (if true = true ∧ p = e then f else sp B q e r (f + 1) q true) else _) = _
    rw [if_pos rfl]
    by_cases z : p = e
    · rw [if_pos ⟨rfl, z⟩, z, Nat.sub_self, if_pos (show seg B e 0 = [] from rfl)]
    · rw [if_neg (fun h => z h.2), if_neg]
      rw [show e - p = (e - p - 1) + 1 by omega]
      intro h
      cases h
  | c :: w, p, h, hp => by
    show (if c = 32 then _ else (if true = true ∧ p < e ∧ B p = c then sp B q e (w ++ 32 :: r) f (p + 1) true else sp B q e (w ++ 32 :: r) f p false)) = _
    rw [if_neg (h c List.mem_cons_self)]
    have h' : ∀ x, x ∈ w → x ≠ 32 := fun x hx => h x (List.mem_cons_of_mem _ hx)
    by_cases z : p < e ∧ B p = c
    · rw [if_pos ⟨rfl, z.1, z.2⟩, sp_yes w (p + 1) h' (by omega), show e - p = (e - (p + 1)) + 1 by omega]
      show _ = if B p :: seg B (p + 1) (e - (p + 1)) = c :: w then f else _
      rw [z.2]
      by_cases y : seg B (p + 1) (e - (p + 1)) = w
      · rw [if_pos y, if_pos (by rw [y])]
      · rw [if_neg y, if_neg (fun x => y (List.cons.inj x).2)]
    · rw [if_neg (fun x => z x.2), sp_no w p h', if_neg]
      intro x
      by_cases y : p < e
      · rw [show e - p = (e - (p + 1)) + 1 by omega] at x
        exact z ⟨y, (List.cons.inj x).1⟩
      · rw [show e - p = 0 by omega] at x
        cases x
theorem sp_kw {B : Nat → Nat} {q e : Nat} (h : q ≤ e) : sp B q e wdC 256 q true = kw (seg B q (e - q)) := by
  have n32 : ∀ w, w ∈ wordsN → ∀ c, c ∈ w → c ≠ 32 := by decide
  have one : ∀ (w r : List Nat) (f : Nat), w ∈ wordsN → sp B q e (w ++ 32 :: r) f q true = if seg B q (e - q) = w then f else sp B q e r (f + 1) q true := fun w r f hw => sp_yes w q (n32 w hw) h
  have e0 : wdC = [108, 101, 97, 114, 110] ++ 32 :: ([114, 105, 103, 104, 116] ++ 32 :: ([101, 110, 100] ++ 32 :: ([111, 114] ++ 32 :: ([97, 110, 100] ++ 32 :: ([110, 111, 116] ++ 32 :: ([115, 116, 101, 112] ++ 32 :: ([99, 108, 97, 115, 115] ++ 32 :: ([119, 101, 101, 107] ++ 32 :: ([115, 111, 114, 116] ++ 32 :: ([109, 111, 118, 101, 100] ++ 32 :: ([108, 101, 102, 116] ++ 32 :: []))))))))))) := rfl
  rw [e0, one _ _ _ (by decide), one _ _ _ (by decide), one _ _ _ (by decide), one _ _ _ (by decide), one _ _ _ (by decide), one _ _ _ (by decide), one _ _ _ (by decide), one _ _ _ (by decide), one _ _ _ (by decide), one _ _ _ (by decide), one _ _ _ (by decide), one _ _ _ (by decide)]
  rfl
section LEXC
variable {E : EN} {B : Nat → Nat} {n : Nat}
/-- the class' bytes -/
def BY (B : Nat → Nat) (n : Nat) (S : ST) : Prop := n ≤ 160 ∧ gI S 8 0 1 = nI n ∧ ∀ j, j < n → B j < 256 ∧ gI S 5 0 j = sgn (B j)
theorem BY.keep {S S1 : ST} (h : BY B n S) (a : Ag [(8, 2), (5, 0)] S S1) : BY B n S1 := by
  obtain ⟨h1, h2, h3⟩ := h
  exact ⟨h1, (a.I rfl).trans h2, fun j hj => ⟨(h3 j hj).1, (a.I rfl).trans (h3 j hj).2⟩⟩
theorem s_spelt {S : ST} {q e : Nat} (hN : 300 ≤ E.1) (hb : BY B n S) (hq : q ≤ e) (he : e ≤ n) (h2 : gI S 8 0 2 = nI e) : f_X3_spelt E S (nI q) = some (tC (kw (seg B q (e - q)))) := by
  obtain ⟨n160, -, hB⟩ := hb
  have main : ∀ (u i m f p : Nat) (al : Bool), i + u = 59 → u < m → p ≤ e → q ≤ p → 256 ≤ f → f_X3_spelt_b12 E m S (nI q) (nI f) (nI p) (if al = true then 1 else 0) (nI i) = some (tC (sp B q e (wdC.drop i) f p al)) := by
    intro u
    induction u with
    | zero =>
      intro i m f p al hi hm hp hqp hf
      obtain ⟨m, rfl⟩ : ∃ j, m = j + 1 := ⟨m - 1, by omega⟩
      have ei : i = 59 := by omega
      subst ei
      rw [show f_X3_spelt_b12 E (m + 1) = g_X3_spelt_b12 E (f_X3_spelt_b12 E m) from rfl]
      unfold g_X3_spelt_b12
      rw [bd_some s_len1, if_pos (by rw [q_le (by decide) (by decide)]; omega)]
      rfl
    | succ u ih =>
      intro i m f p al hi hm hp hqp hf
      obtain ⟨m, rfl⟩ : ∃ j, m = j + 1 := ⟨m - 1, by omega⟩
      have hi59 : i < 59 := by omega
      have hd : ∀ i, i < 59 → wdC.drop i = wdC.getD i 0 :: wdC.drop (i + 1) := by decide +kernel
      have hc : ∀ i, i < 59 → wdC.getD i 0 < 128 := by decide +kernel
      have hci := hc i hi59
      rw [show f_X3_spelt_b12 E (m + 1) = g_X3_spelt_b12 E (f_X3_spelt_b12 E m) from rfl]
      unfold g_X3_spelt_b12 f_X3_spelt_b94 f_X3_spelt_b53 f_X3_spelt_b97
      rw [bd_some s_len1, if_neg (by rw [q_le (by decide) (by omega)]; omega), bd_some (s_char1 hi59), hd i hi59, h2]
      rw [show sp B q e (wdC.getD i 0 :: wdC.drop (i + 1)) f p al = if wdC.getD i 0 = 32 then (if al = true ∧ p = e then f else sp B q e (wdC.drop (i + 1)) (f + 1) q true) else (if al = true ∧ p < e ∧ B p = wdC.getD i 0 then sp B q e (wdC.drop (i + 1)) f (p + 1) true else sp B q e (wdC.drop (i + 1)) f p false) from rfl]
      have i1 := fun f p al => ih (i + 1) m f p al (by omega) (by omega)
      have nx : f_X3_spelt_b12 E m S (nI q) (nI (f + 1)) (nI q) (1 : Int32) (nI (i + 1)) = some (tC (sp B q e (wdC.drop (i + 1)) (f + 1) q true)) := i1 (f + 1) q true hq (Nat.le_refl _) (by omega)
      have no : f_X3_spelt_b12 E m S (nI q) (nI f) (nI p) (0 : Int32) (nI (i + 1)) = some (tC (sp B q e (wdC.drop (i + 1)) f p false)) := i1 f p false hp hqp (by omega)
      rw [lt_e, lt_e, lt_e, nI_1, nI_1]
      by_cases z : wdC.getD i 0 = 32
      · rw [if_pos (show nI (wdC.getD i 0) = (32 : Int32) by rw [z]; rfl), if_pos z]
        cases al with
        | false => rw [if_neg Bool.false_ne_true, if_pos rfl, if_neg (fun h => Bool.false_ne_true h.1), nx]
        | true =>
          rw [if_pos rfl, if_neg (show ¬ (1 : Int32) = 0 by decide)]
          by_cases y : p = e
          · rw [if_pos (show nI p = nI e by rw [y]), if_pos ⟨rfl, y⟩]
            unfold tC
            rw [if_neg (show ¬ f = 2 by omega)]
          · rw [if_neg (show ¬ nI p = nI e by rw [nI_eq (by omega) (by omega)]; exact y), if_neg (fun h => y h.2), nx]
      · rw [if_neg (show ¬ nI (wdC.getD i 0) = (32 : Int32) by rw [q_eqR 32 (by decide) (by omega)]; exact z), if_neg z]
        cases al with
        | false => rw [if_neg Bool.false_ne_true, if_pos rfl, if_neg (fun h => Bool.false_ne_true h.1), no]
        | true =>
          rw [if_pos rfl, if_neg (show ¬ (1 : Int32) = 0 by decide)]
          by_cases y : p < e
          · obtain ⟨b1, b2⟩ := hB p (by omega)
            rw [if_neg (by rw [q_le (by omega) (by omega)]; omega), ck_in (ib_nI (by omega) (by decide)), q_cl (by omega), b2]
            by_cases x : B p = wdC.getD i 0
            · rw [if_pos ((sg_eq b1 hci).mpr x), if_pos ⟨rfl, y, x⟩, nI_1]
              exact i1 f (p + 1) true (by omega) (by omega) (by omega)
            · rw [if_neg (fun h => x ((sg_eq b1 hci).mp h)), if_neg (fun h => x h.2.2), no]
          · rw [if_pos (by rw [q_le (by omega) (by omega)]; omega), if_neg (fun h => y h.2.1), no]
  unfold f_X3_spelt
  rw [← sp_kw hq]
  exact main 59 0 E.1 256 q true (by omega) (by omega) hq (Nat.le_refl _) (by omega)
end LEXC
