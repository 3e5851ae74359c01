/-! PURE PART: the reference reads a token -/
def rd : List Nat → Nat
  | [] => 0
  | c :: r => 32 * rd r + (c - 96)
theorem rd_inj : ∀ (a b : List Nat), (∀ c, c ∈ a → 97 ≤ c ∧ c ≤ 122) → (∀ c, c ∈ b → 97 ≤ c ∧ c ≤ 122) → rd a = rd b → a = b
  | [], [], _, _, _ => rfl
  | [], c :: r, _, hb, h => by
    have := hb c List.mem_cons_self
    have h : 0 = 32 * rd r + (c - 96) := h
    omega
  | c :: r, [], ha, _, h => by
    have := ha c List.mem_cons_self
    have h : 32 * rd r + (c - 96) = 0 := h
    omega
  | c :: r, d :: s, ha, hb, h => by
    have h1 := ha c List.mem_cons_self
    have h2 := hb d List.mem_cons_self
    have h : 32 * rd r + (c - 96) = 32 * rd s + (d - 96) := h
    have e1 : c = d := by omega
    have e2 : rd r = rd s := by omega
    rw [e1, rd_inj r s (fun x hx => ha x (List.mem_cons_of_mem _ hx)) (fun x hx => hb x (List.mem_cons_of_mem _ hx)) e2]
theorem rd_lt : ∀ (a : List Nat), (∀ c, c ∈ a → 97 ≤ c ∧ c ≤ 122) → rd a < 32 ^ a.length
  | [], _ => by decide
  | c :: r, h => by
    have h1 := h c List.mem_cons_self
    have ih := rd_lt r (fun x hx => h x (List.mem_cons_of_mem _ hx))
    show 32 * rd r + (c - 96) < 32 ^ (r.length + 1)
    rw [Nat.pow_succ]
    omega
/-- a word's number so far -/
def wvl : Nat → Nat → List Nat → Nat
  | _, v, [] => v
  | d, v, c :: r => wvl (d + 1) (if 6 ≤ d then 0 else 32 * v + c - 96) r
theorem wvl_rd : ∀ (l : List Nat) (s : List Nat), (∀ c, c ∈ l → 97 ≤ c ∧ c ≤ 122) → s.length + l.length ≤ 6 → wvl s.length (rd s) l = rd (l.reverse ++ s)
  | [], s, _, _ => rfl
  | c :: r, s, h, hl => by
    have h1 := h c List.mem_cons_self
    have hl : s.length + (r.length + 1) ≤ 6 := hl
    show wvl (s.length + 1) (if 6 ≤ s.length then 0 else 32 * rd s + c - 96) r = _
    rw [if_neg (by omega), show 32 * rd s + c - 96 = rd (c :: s) by show _ = 32 * rd s + (c - 96); omega]
    have := wvl_rd r (c :: s) (fun x hx => h x (List.mem_cons_of_mem _ hx)) (by show s.length + 1 + r.length ≤ 6; omega)
    rw [show s.length + 1 = (c :: s).length from rfl, this, List.reverse_cons, List.append_assoc]
    rfl
def wc (t : Nat) : Nat := if t = 256 then 12748366 else if t = 257 then 19176724 else if t = 258 then 5572 else if t = 259 then 498 else if t = 260 then 1476 else if t = 261 then 14836 else if t = 262 then 643248 else if t = 263 then 3540595 else if t = 264 then 758955 else if t = 265 then 638548 else if t = 266 then 14145700 else 398548
def tM (t : Nat) : Int32 := if t = 0 then -1 else if t = 2 then -2 else if t < 256 then nI t else if t < 1000 then 2 else 1
/-- a word's number tells which word it is -/
theorem wd_is {l : List Nat} (h : ∀ c, c ∈ l → 97 ≤ c ∧ c ≤ 122) (h6 : l.length ≤ 6) : ∀ (w : List Nat), w ∈ wordsN → (wvl 0 0 l = rd w.reverse ↔ l = w) := by
  intro w hw
  have hw' : ∀ w, w ∈ wordsN → ∀ c, c ∈ w → 97 ≤ c ∧ c ≤ 122 := by decide
  have e : wvl 0 0 l = rd l.reverse := by
    have := wvl_rd l [] h (by show 0 + l.length ≤ 6; omega)
    rw [List.append_nil] at this
    exact this
  rw [e]
  refine ⟨fun q => ?_, fun q => by rw [q]⟩
  have := rd_inj l.reverse w.reverse (fun c hc => h c (List.mem_reverse.mp hc)) (fun c hc => hw' w hw c (List.mem_reverse.mp hc)) q
  exact List.reverse_inj.mp this
theorem wd_lt {l : List Nat} (h : ∀ c, c ∈ l → 97 ≤ c ∧ c ≤ 122) (h6 : l.length ≤ 6) : wvl 0 0 l < 2147483648 := by
  have e : wvl 0 0 l = rd l.reverse := by
    have := wvl_rd l [] h (by show 0 + l.length ≤ 6; omega)
    rw [List.append_nil] at this
    exact this
  rw [e]
  have := rd_lt l.reverse (fun c hc => h c (List.mem_reverse.mp hc))
  rw [List.length_reverse] at this
  exact Nat.lt_of_lt_of_le this (Nat.le_trans (Nat.pow_le_pow_right (by decide) h6) (by decide))
theorem kw_long {l : List Nat} (h : 6 < l.length) : kw l = 2 := by
  have n : ∀ w, w ∈ wordsN → ¬ l = w := fun w hw e => by
    have all : ∀ w, w ∈ wordsN → w.length ≤ 6 := by decide
    have := all w hw
    rw [← e] at this
    omega
  have all : ∀ (ws : List (List Nat)) (i : Nat), (∀ w, w ∈ ws → ¬ l = w) → kwF ws l i = 2 := by
    intro ws
    induction ws with
    | nil => intro i _; rfl
    | cons w r ih =>
      intro i hn
      show (if l = w then i else kwF r l (i + 1)) = 2
      rw [if_neg (hn w List.mem_cons_self)]
      exact ih (i + 1) fun x hx => hn x (List.mem_cons_of_mem _ hx)
  exact all wordsN 256 n
section LEXM
variable {E : EN} {B : Nat → Nat} {n : Nat}
def BM (B : Nat → Nat) (n : Nat) (T : ST) : Prop := n ≤ 160 ∧ gI T 1 0 8 = nI n ∧ ∀ j, j < n → B j < 256 ∧ gI T 56 0 j = nI (B j)
theorem BM.keep {S S1 : ST} (h : BM B n S) (a : Ag [(1, 9), (56, 0)] S S1) : BM B n S1 := by
  obtain ⟨h1, h2, h3⟩ := h
  exact ⟨h1, (a.I rfl).trans h2, fun j hj => ⟨(h3 j hj).1, (a.I rfl).trans (h3 j hj).2⟩⟩
def btN (B : Nat → Nat) (n i : Nat) : Int32 := if i < n then nI (B i) else -1
theorem s_byteAt {T : ST} {i : Nat} (hb : BM B n T) (hi : i < 2147483648) : f_X7_byteAt E T (nI i) = some (btN B n i) := by
  have n160 := hb.1
  unfold f_X7_byteAt btN
  rw [hb.2.1]
  by_cases z : i < n
  · rw [if_neg (by rw [q_le (by omega) hi]; omega), ck_in (ib_nI (by omega) (by decide)), q_cl hi, (hb.2.2 i z).2, if_pos z]
  · rw [if_pos (by rw [q_le (by omega) hi]; omega), if_neg z]
theorem s_letM {T : ST} {i : Nat} (hb : BM B n T) : f_X7_isLetter E T (btN B n i) = some (if i < n ∧ isL (B i) = true then 1 else 0) := by
  unfold f_X7_isLetter btN
  by_cases z : i < n
  · rw [if_pos z, s_in]
    have all : ∀ b, b < 256 → (if nI b < (97 : Int32) ∨ (122 : Int32) < nI b then (0 : Int32) else 1) = if isL b = true then 1 else 0 := by decide +kernel
    rw [all _ (hb.2.2 i z).1]
    show ck_ (ob_ (if isL (B i) = true then 1 else 0)) _ = _
    by_cases y : isL (B i) = true
    · rw [if_pos y, if_pos ⟨z, y⟩]; rfl
    · rw [if_neg y, if_neg (fun x => y x.2)]; rfl
  · rw [if_neg z, if_neg (fun x => z x.1), s_in]
    rfl
theorem s_digM {T : ST} {i : Nat} (hb : BM B n T) : f_X7_isDigit E T (btN B n i) = some (if i < n ∧ isD (B i) = true then 1 else 0) := by
  unfold f_X7_isDigit btN
  by_cases z : i < n
  · rw [if_pos z, s_in]
    have all : ∀ b, b < 256 → (if nI b < (48 : Int32) ∨ (57 : Int32) < nI b then (0 : Int32) else 1) = if isD b = true then 1 else 0 := by decide +kernel
    rw [all _ (hb.2.2 i z).1]
    show ck_ (ob_ (if isD (B i) = true then 1 else 0)) _ = _
    by_cases y : isD (B i) = true
    · rw [if_pos y, if_pos ⟨z, y⟩]; rfl
    · rw [if_neg y, if_neg (fun x => y x.2)]; rfl
  · rw [if_neg z, if_neg (fun x => z x.1), s_in]
    rfl
theorem s_letM1 {T : ST} {i : Nat} (hb : BM B n T) (h1 : i < n) (h2 : isL (B i) = true) : f_X7_isLetter E T (btN B n i) = some 1 := by rw [s_letM hb, if_pos ⟨h1, h2⟩]
theorem s_letM0 {T : ST} {i : Nat} (hb : BM B n T) (h : ¬ (i < n ∧ isL (B i) = true)) : f_X7_isLetter E T (btN B n i) = some 0 := by rw [s_letM hb, if_neg h]
theorem s_digM1 {T : ST} {i : Nat} (hb : BM B n T) (h1 : i < n) (h2 : isD (B i) = true) : f_X7_isDigit E T (btN B n i) = some 1 := by rw [s_digM hb, if_pos ⟨h1, h2⟩]
theorem s_digM0 {T : ST} {i : Nat} (hb : BM B n T) (h : ¬ (i < n ∧ isD (B i) = true)) : f_X7_isDigit E T (btN B n i) = some 0 := by rw [s_digM hb, if_neg h]
def wWd : List (Nat × Nat) := [(1, 12), (1, 13)]
theorem s_wordM {T : ST} {q : Nat} (hN : 300 ≤ E.1) (hb : BM B n T) (hq : q ≤ n) (h9 : gI T 1 0 9 = nI q) (h11 : gI T 1 0 11 = nI 0) (h12 : gI T 1 0 12 = nI 0) :
    ∃ T2, f_X7_look_b186 E E.1 T = f_X7_look_b260 E T2 ∧ Fm wWd T T2 ∧ gI T2 1 0 12 = nI (run isL B n q - q) ∧ gI T2 1 0 11 = nI (wvl 0 0 (seg B q (run isL B n q - q))) := by
  have n160 := hb.1
  have main : ∀ (u d m v : Nat) (T1 : ST), q + d + u = n → u < m → Fm wWd T T1 → gI T1 1 0 12 = nI d → gI T1 1 0 11 = nI v → ∃ T2, f_X7_look_b186 E m T1 = f_X7_look_b260 E T2 ∧ Fm wWd T T2 ∧ gI T2 1 0 12 = nI (run isL B n (q + d) - q) ∧ gI T2 1 0 11 = nI (wvl d v (seg B (q + d) (run isL B n (q + d) - (q + d)))) := by
    intro u
    induction u with
    | zero =>
      intro d m v T1 hu hm F g12 g11
      obtain ⟨m, rfl⟩ : ∃ j, m = j + 1 := ⟨m - 1, by omega⟩
      have er : run isL B n (q + d) = q + d := run_e (fun y => absurd y.1 (by omega))
      refine ⟨T1, ?_, F, by rw [er, Nat.add_sub_cancel_left]; exact g12, by rw [er, Nat.sub_self]; exact g11⟩
      rw [show f_X7_look_b186 E (m + 1) = g_X7_look_b186 E (f_X7_look_b186 E m) from rfl]
      unfold g_X7_look_b186
      have bT : BM B n T1 := hb.keep (F.ag rfl)
      rw [F.I (j := 9) rfl, h9, g12, nI_add, bd_some (s_byteAt bT (by omega)), bd_some (s_letM0 bT (fun y => absurd y.1 (by omega))), if_pos rfl]
    | succ u ih =>
      intro d m v T1 hu hm F g12 g11
      obtain ⟨m, rfl⟩ : ∃ j, m = j + 1 := ⟨m - 1, by omega⟩
      have hpn : q + d < n := by omega
      have bT : BM B n T1 := hb.keep (F.ag rfl)
      rw [show f_X7_look_b186 E (m + 1) = g_X7_look_b186 E (f_X7_look_b186 E m) from rfl]
      unfold g_X7_look_b186 f_X7_look_b244
      rw [F.I (j := 9) rfl, h9, g12, nI_add, bd_some (s_byteAt bT (by omega))]
      by_cases z : isL (B (q + d)) = true
      · obtain ⟨i1, i2, -, -⟩ := run_ok (P := isL) (B := B) (n := n) (n - (q + (d + 1))) (q + (d + 1)) (by omega)
        obtain ⟨l1, l2⟩ := isL_122 z
        rw [bd_some (s_letM1 bT hpn z), if_neg (show ¬ (1 : Int32) = 0 by decide), run_s hpn z, show q + d + 1 = q + (d + 1) from rfl]
        rw [show run isL B n (q + (d + 1)) - (q + d) = (run isL B n (q + (d + 1)) - (q + (d + 1))) + 1 by omega]
        rw [show wvl d v (seg B (q + d) (run isL B n (q + (d + 1)) - (q + (d + 1)) + 1)) = wvl (d + 1) (if 6 ≤ d then 0 else 32 * v + B (q + d) - 96) (seg B (q + (d + 1)) (run isL B n (q + (d + 1)) - (q + (d + 1)))) from rfl]
        have e2 : gI (sI T1 1 0 11 (nI (if 6 ≤ d then 0 else 32 * v + B (q + d) - 96))) 1 0 12 = nI d := by rw [gI_ne (by omega)]; exact g12
        have fin : ∃ T2, f_X7_look_b186 E m (sI (sI T1 1 0 11 (nI (if 6 ≤ d then 0 else 32 * v + B (q + d) - 96))) 1 0 12 (nI (d + 1))) = f_X7_look_b260 E T2 ∧ Fm wWd T T2 ∧ gI T2 1 0 12 = nI (run isL B n (q + (d + 1)) - q) ∧ gI T2 1 0 11 = nI (wvl (d + 1) (if 6 ≤ d then 0 else 32 * v + B (q + d) - 96) (seg B (q + (d + 1)) (run isL B n (q + (d + 1)) - (q + (d + 1))))) :=
          ih (d + 1) m (if 6 ≤ d then 0 else 32 * v + B (q + d) - 96) _ (by omega) (by omega) ((F.sI rfl rfl).sI rfl rfl) (gI_same _ _ _ _ _) (by rw [gI_ne (by omega), gI_same])
        by_cases y : 6 ≤ d
        · rw [if_pos (by rw [q_leL 6 (by decide) (by omega)]; exact y), lt_e, lt_e]
          rw [if_pos y] at e2 fin ⊢
          rw [show (0 : Int32) = nI 0 from rfl, e2, nI_1]
          exact fin
        · rw [if_neg (by rw [q_leL 6 (by decide) (by omega)]; exact y), bd_some (s_byteAt bT (by omega)), lt_e, lt_e]
          rw [if_neg y] at e2 fin ⊢
          unfold btN
          rw [if_pos hpn, g11, show (32 : Int32) = nI 32 from rfl, pk_mul, nI_add, show (96 : Int32) = nI 96 from rfl, nI_subE (show 96 ≤ 32 * v + B (q + d) by omega), e2, nI_1]
          exact fin
      · have er : run isL B n (q + d) = q + d := run_e (fun y => z y.2)
        rw [bd_some (s_letM0 bT (fun y => z y.2)), if_pos rfl]
        exact ⟨T1, rfl, F, by rw [er, Nat.add_sub_cancel_left]; exact g12, by rw [er, Nat.sub_self]; exact g11⟩
  exact main (n - q) 0 E.1 0 T (by omega) (by omega) Fm.rf h12 h11
theorem s_numM {T : ST} {q : Nat} (hN : 300 ≤ E.1) (hb : BM B n T) (hq : q ≤ n) (h9 : gI T 1 0 9 = nI q) (h11 : gI T 1 0 11 = nI 0) (h12 : gI T 1 0 12 = nI 0) :
    ∃ T2, f_X7_look_b76 E E.1 T = f_X7_look_b152 E T2 ∧ Fm wWd T T2 ∧ gI T2 1 0 12 = nI (run isD B n q - q) ∧ gI T2 1 0 11 = nI (nvl 0 0 (seg B q (run isD B n q - q))) := by
  have n160 := hb.1
  have main : ∀ (u d m v : Nat) (T1 : ST), q + d + u = n → u < m → Fm wWd T T1 → gI T1 1 0 12 = nI d → gI T1 1 0 11 = nI v → ∃ T2, f_X7_look_b76 E m T1 = f_X7_look_b152 E T2 ∧ Fm wWd T T2 ∧ gI T2 1 0 12 = nI (run isD B n (q + d) - q) ∧ gI T2 1 0 11 = nI (nvl d v (seg B (q + d) (run isD B n (q + d) - (q + d)))) := by
    intro u
    induction u with
    | zero =>
      intro d m v T1 hu hm F g12 g11
      obtain ⟨m, rfl⟩ : ∃ j, m = j + 1 := ⟨m - 1, by omega⟩
      have er : run isD B n (q + d) = q + d := run_e (fun y => absurd y.1 (by omega))
      refine ⟨T1, ?_, F, by rw [er, Nat.add_sub_cancel_left]; exact g12, by rw [er, Nat.sub_self]; exact g11⟩
      rw [show f_X7_look_b76 E (m + 1) = g_X7_look_b76 E (f_X7_look_b76 E m) from rfl]
      unfold g_X7_look_b76
      have bT : BM B n T1 := hb.keep (F.ag rfl)
      rw [F.I (j := 9) rfl, h9, g12, nI_add, bd_some (s_byteAt bT (by omega)), bd_some (s_digM0 bT (fun y => absurd y.1 (by omega))), if_pos rfl]
    | succ u ih =>
      intro d m v T1 hu hm F g12 g11
      obtain ⟨m, rfl⟩ : ∃ j, m = j + 1 := ⟨m - 1, by omega⟩
      have hpn : q + d < n := by omega
      have bT : BM B n T1 := hb.keep (F.ag rfl)
      rw [show f_X7_look_b76 E (m + 1) = g_X7_look_b76 E (f_X7_look_b76 E m) from rfl]
      unfold g_X7_look_b76 f_X7_look_b136
      rw [F.I (j := 9) rfl, h9, g12, nI_add, bd_some (s_byteAt bT (by omega))]
      by_cases z : isD (B (q + d)) = true
      · obtain ⟨i1, i2, -, -⟩ := run_ok (P := isD) (B := B) (n := n) (n - (q + (d + 1))) (q + (d + 1)) (by omega)
        obtain ⟨l1, l2⟩ := isD_57 z
        rw [bd_some (s_digM1 bT hpn z), if_neg (show ¬ (1 : Int32) = 0 by decide), run_s hpn z, show q + d + 1 = q + (d + 1) from rfl]
        rw [show run isD B n (q + (d + 1)) - (q + d) = (run isD B n (q + (d + 1)) - (q + (d + 1))) + 1 by omega]
        rw [show nvl d v (seg B (q + d) (run isD B n (q + (d + 1)) - (q + (d + 1)) + 1)) = nvl (d + 1) (if 4 ≤ d then v else v * 10 + B (q + d) - 48) (seg B (q + (d + 1)) (run isD B n (q + (d + 1)) - (q + (d + 1)))) from rfl]
        have e2 : gI (sI T1 1 0 11 (nI (if 4 ≤ d then v else v * 10 + B (q + d) - 48))) 1 0 12 = nI d := by rw [gI_ne (by omega)]; exact g12
        have fin : ∃ T2, f_X7_look_b76 E m (sI (sI T1 1 0 11 (nI (if 4 ≤ d then v else v * 10 + B (q + d) - 48))) 1 0 12 (nI (d + 1))) = f_X7_look_b152 E T2 ∧ Fm wWd T T2 ∧ gI T2 1 0 12 = nI (run isD B n (q + (d + 1)) - q) ∧ gI T2 1 0 11 = nI (nvl (d + 1) (if 4 ≤ d then v else v * 10 + B (q + d) - 48) (seg B (q + (d + 1)) (run isD B n (q + (d + 1)) - (q + (d + 1))))) :=
          ih (d + 1) m (if 4 ≤ d then v else v * 10 + B (q + d) - 48) _ (by omega) (by omega) ((F.sI rfl rfl).sI rfl rfl) (gI_same _ _ _ _ _) (by rw [gI_ne (by omega), gI_same])
        by_cases y : 4 ≤ d
        · rw [if_pos (by rw [q_leL 4 (by decide) (by omega)]; exact y), lt_e, lt_e]
          rw [if_pos y] at e2 fin ⊢
          rw [g11, e2, nI_1]
          exact fin
        · rw [if_neg (by rw [q_leL 4 (by decide) (by omega)]; exact y), bd_some (s_byteAt bT (by omega)), lt_e, lt_e]
          rw [if_neg y] at e2 fin ⊢
          unfold btN
          rw [if_pos hpn, g11, show (10 : Int32) = nI 10 from rfl, pk_mul, nI_add, show (48 : Int32) = nI 48 from rfl, Nat.mul_comm 10 v, nI_subE (show 48 ≤ v * 10 + B (q + d) by omega), e2, nI_1]
          exact fin
      · have er : run isD B n (q + d) = q + d := run_e (fun y => z y.2)
        rw [bd_some (s_digM0 bT (fun y => z y.2)), if_pos rfl]
        exact ⟨T1, rfl, F, by rw [er, Nat.add_sub_cancel_left]; exact g12, by rw [er, Nat.sub_self]; exact g11⟩
  exact main (n - q) 0 E.1 0 T (by omega) (by omega) Fm.rf h12 h11
end LEXM
