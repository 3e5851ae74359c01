/-! PURE PART: the reference reads a token: all -/
def nmO (x : Int32) : Int32 := if x = (643248 : Int32) then 0 else if x = (3540595 : Int32) then 1 else if x = (758955 : Int32) then 2 else if x = (638548 : Int32) then 3 else if x = (14145700 : Int32) then 4 else if x = (398548 : Int32) then 5 else -1
def isK (x : Int32) : Int32 := if x = (12748366 : Int32) then 1 else if x = (19176724 : Int32) then 1 else if x = (5572 : Int32) then 1 else if x = (498 : Int32) then 1 else if x = (1476 : Int32) then 1 else if x = (14836 : Int32) then 1 else 0
theorem s_nmO {E : EN} {T : ST} (x : Int32) : f_X7_nameOf E T x = some (nmO x) := by
  unfold f_X7_nameOf nmO
  by_cases a : x = 643248
  · rw [if_pos a, if_pos a]
  rw [if_neg a, if_neg a]
  by_cases b : x = 3540595
  · rw [if_pos b, if_pos b]
  rw [if_neg b, if_neg b]
  by_cases c : x = 758955
  · rw [if_pos c, if_pos c]
  rw [if_neg c, if_neg c]
  by_cases d : x = 638548
  · rw [if_pos d, if_pos d]
  rw [if_neg d, if_neg d]
  by_cases e : x = 14145700
  · rw [if_pos e, if_pos e]
  rw [if_neg e, if_neg e]
  by_cases f : x = 398548
  · rw [if_pos f, if_pos f]
  rw [if_neg f, if_neg f]
theorem s_isK {E : EN} {T : ST} (x : Int32) : f_X7_isKey E T x = some (isK x) := by
  unfold f_X7_isKey f_X7_isKey_b40 isK
  by_cases a : x = 12748366
  · rw [if_pos a, if_pos a]
  rw [if_neg a, if_neg a]
  by_cases b : x = 19176724
  · rw [if_pos b, if_pos b]
  rw [if_neg b, if_neg b]
  by_cases c : x = 5572
  · rw [if_pos c, if_pos c]
  rw [if_neg c, if_neg c]
  by_cases d : x = 498
  · rw [if_pos d, if_pos d]
  rw [if_neg d, if_neg d]
  by_cases e : x = 1476
  · rw [if_pos e, if_pos e]
  rw [if_neg e, if_neg e]
  by_cases f : x = 14836
  · rw [if_pos f, if_pos f]
  rw [if_neg f, if_neg f]
theorem kwF_in : ∀ (ws : List (List Nat)) (l : List Nat) (i : Nat), l ∈ ws ∨ kwF ws l i = 2
  | [], _, _ => Or.inr rfl
  | w :: r, l, i => by
    by_cases z : l = w
    · exact Or.inl (by rw [z]; exact List.mem_cons_self)
    · rcases kwF_in r l (i + 1) with h | h
      · exact Or.inl (List.mem_cons_of_mem _ h)
      · refine Or.inr ?_
        show (if l = w then i else kwF r l (i + 1)) = 2
        rw [if_neg z]
        exact h
theorem wd_res {l : List Nat} (h : ∀ c, c ∈ l → 97 ≤ c ∧ c ≤ 122) (h6 : l.length ≤ 6) : (kw l = 2 ∧ ¬ 0 ≤ nmO (nI (wvl 0 0 l)) ∧ isK (nI (wvl 0 0 l)) = 0) ∨ (256 ≤ kw l ∧ kw l < 268 ∧ nI (wvl 0 0 l) = nI (wc (kw l)) ∧ (0 ≤ nmO (nI (wvl 0 0 l)) ∨ ¬ isK (nI (wvl 0 0 l)) = 0)) := by
  by_cases hl : l ∈ wordsN
  · have all : ∀ l, l ∈ wordsN → 256 ≤ kw l ∧ kw l < 268 ∧ nI (wvl 0 0 l) = nI (wc (kw l)) ∧ (0 ≤ nmO (nI (wvl 0 0 l)) ∨ ¬ isK (nI (wvl 0 0 l)) = 0) := by decide +kernel
    exact Or.inr (all l hl)
  · have k2 : kw l = 2 := (kwF_in wordsN l 256).resolve_left hl
    have hlt := wd_lt h h6
    have ne : ∀ (w : List Nat), w ∈ wordsN → ¬ nI (wvl 0 0 l) = nI (rd w.reverse) := fun w hw e => by
      have b : rd w.reverse < 2147483648 := by
        have all : ∀ w, w ∈ wordsN → rd w.reverse < 2147483648 := by decide +kernel
        exact all w hw
      rw [nI_eq (by omega) (by omega), wd_is h h6 w hw] at e
      exact hl (e ▸ hw)
    refine Or.inl ⟨k2, ?_, ?_⟩
    · unfold nmO
      rw [if_neg (show ¬ nI (wvl 0 0 l) = (643248 : Int32) from ne [115, 116, 101, 112] (by decide)), if_neg (show ¬ nI (wvl 0 0 l) = (3540595 : Int32) from ne [99, 108, 97, 115, 115] (by decide)), if_neg (show ¬ nI (wvl 0 0 l) = (758955 : Int32) from ne [119, 101, 101, 107] (by decide)), if_neg (show ¬ nI (wvl 0 0 l) = (638548 : Int32) from ne [115, 111, 114, 116] (by decide)), if_neg (show ¬ nI (wvl 0 0 l) = (14145700 : Int32) from ne [109, 111, 118, 101, 100] (by decide)), if_neg (show ¬ nI (wvl 0 0 l) = (398548 : Int32) from ne [108, 101, 102, 116] (by decide))]
      decide
    · unfold isK
      rw [if_neg (show ¬ nI (wvl 0 0 l) = (12748366 : Int32) from ne [108, 101, 97, 114, 110] (by decide)), if_neg (show ¬ nI (wvl 0 0 l) = (19176724 : Int32) from ne [114, 105, 103, 104, 116] (by decide)), if_neg (show ¬ nI (wvl 0 0 l) = (5572 : Int32) from ne [101, 110, 100] (by decide)), if_neg (show ¬ nI (wvl 0 0 l) = (498 : Int32) from ne [111, 114] (by decide)), if_neg (show ¬ nI (wvl 0 0 l) = (1476 : Int32) from ne [97, 110, 100] (by decide)), if_neg (show ¬ nI (wvl 0 0 l) = (14836 : Int32) from ne [110, 111, 116] (by decide))]
theorem seg_len (B : Nat → Nat) : ∀ (l p : Nat), (seg B p l).length = l
  | 0, _ => rfl
  | l + 1, p => by
    show (seg B (p + 1) l).length + 1 = l + 1
    rw [seg_len B l (p + 1)]
theorem if8 {x : Int32} {A Z : Option ST} : (if x = (40 : Int32) then A else if x = (41 : Int32) then A else if x = (59 : Int32) then A else if x = (43 : Int32) then A else if x = (45 : Int32) then A else if x = (42 : Int32) then A else if x = (60 : Int32) then A else if x = (61 : Int32) then A else Z) = if (x = 40 ∨ x = 41 ∨ x = 59 ∨ x = 43 ∨ x = 45 ∨ x = 42 ∨ x = 60 ∨ x = 61) then A else Z := by
  by_cases h : (x = 40 ∨ x = 41 ∨ x = 59 ∨ x = 43 ∨ x = 45 ∨ x = 42 ∨ x = 60 ∨ x = 61)
  · rw [if_pos h]
    rcases h with rfl | rfl | rfl | rfl | rfl | rfl | rfl | rfl <;> rfl
  · rw [if_neg h, if_neg (fun y => h (Or.inl y)), if_neg (fun y => h (Or.inr (Or.inl y))), if_neg (fun y => h (Or.inr (Or.inr (Or.inl y)))), if_neg (fun y => h (Or.inr (Or.inr (Or.inr (Or.inl y))))), if_neg (fun y => h (Or.inr (Or.inr (Or.inr (Or.inr (Or.inl y)))))), if_neg (fun y => h (Or.inr (Or.inr (Or.inr (Or.inr (Or.inr (Or.inl y))))))), if_neg (fun y => h (Or.inr (Or.inr (Or.inr (Or.inr (Or.inr (Or.inr (Or.inl y)))))))), if_neg (fun y => h (Or.inr (Or.inr (Or.inr (Or.inr (Or.inr (Or.inr (Or.inr y))))))))]
section LEXN
variable {E : EN} {B : Nat → Nat} {n : Nat}
def wLk : List (Nat × Nat) := [(1, 10), (1, 11), (1, 12), (1, 13)]
/-- the token that stands at a place, in the reference's memory -/
def TkM (T : ST) (pl t nx : Nat) : Prop := gI T 1 0 9 = nI pl ∧ gI T 1 0 10 = tM t ∧ (256 ≤ t → t < 268 → gI T 1 0 11 = nI (wc t)) ∧ (1000 ≤ t → gI T 1 0 11 = nI (t - 1000)) ∧ (t ≠ 0 → gI T 1 0 12 = nI (nx - pl))
theorem s_look {T : ST} {p : Nat} (hN : 300 ≤ E.1) (hb : BM B n T) (hp : p ≤ n) (h9 : gI T 1 0 9 = nI p) :
    ∃ T2, f_X7_look E T = some T2 ∧ Fm wLk T T2 ∧ TkM T2 (lx B n p).1 (lx B n p).2.1 (lx B n p).2.2 := by
  have n160 := hb.1
  have skip : ∀ (u p m : Nat) (T1 : ST), p + u = n → u < m → Fm [(1, 10)] T T1 → gI T1 1 0 9 = nI p → ∃ T2, f_X7_look_b0 E m T1 = f_X7_look_b39 E T2 ∧ Fm [(1, 10)] T T2 ∧ gI T2 1 0 9 = nI (run isZ B n p) := by
    intro u
    induction u with
    | zero =>
      intro p m T1 hu hm F h
      obtain ⟨m, rfl⟩ : ∃ j, m = j + 1 := ⟨m - 1, by omega⟩
      have bT : BM B n T1 := hb.keep (F.ag rfl)
      refine ⟨T1, ?_, F, by rw [run_e (fun y => absurd y.1 (by omega))]; exact h⟩
      rw [show f_X7_look_b0 E (m + 1) = g_X7_look_b0 E (f_X7_look_b0 E m) from rfl]
      unfold g_X7_look_b0
      rw [h, bd_some (s_byteAt bT (by omega)), show btN B n p = -1 by unfold btN; rw [if_neg (by omega)], if_neg (by decide), bd_some (s_byteAt bT (by omega)), show btN B n p = -1 by unfold btN; rw [if_neg (by omega)], if_neg (by decide)]
    | succ u ih =>
      intro p m T1 hu hm F h
      obtain ⟨m, rfl⟩ : ∃ j, m = j + 1 := ⟨m - 1, by omega⟩
      have hpn : p < n := by omega
      have bT : BM B n T1 := hb.keep (F.ag rfl)
      have b1 := (hb.2.2 p hpn).1
      rw [show f_X7_look_b0 E (m + 1) = g_X7_look_b0 E (f_X7_look_b0 E m) from rfl]
      unfold g_X7_look_b0 f_X7_look_b26
      rw [h, bd_some (s_byteAt bT (by omega)), bd_some (s_byteAt bT (by omega)), show btN B n p = nI (B p) by unfold btN; rw [if_pos hpn], lt_e, nI_1]
      by_cases z : B p = 32
      · rw [if_pos (show nI (B p) = (32 : Int32) by rw [z]; rfl), run_s hpn (decide_eq_true (Or.inl z))]
        exact ih (p + 1) m _ (by omega) (by omega) (F.sI rfl rfl) (gI_same _ _ _ _ _)
      · rw [if_neg (show ¬ nI (B p) = (32 : Int32) by rw [q_eqR 32 (by decide) (by omega)]; exact z)]
        by_cases y : B p = 10
        · rw [if_pos (show nI (B p) = (10 : Int32) by rw [y]; rfl), run_s hpn (decide_eq_true (Or.inr y))]
          exact ih (p + 1) m _ (by omega) (by omega) (F.sI rfl rfl) (gI_same _ _ _ _ _)
        · rw [if_neg (show ¬ nI (B p) = (10 : Int32) by rw [q_eqR 10 (by decide) (by omega)]; exact y)]
          exact ⟨T1, rfl, F, by rw [run_e (fun x => (of_decide_eq_true x.2).elim z y)]; exact h⟩
  obtain ⟨T1, e1, F1, g1⟩ := skip (n - p) p E.1 T (by omega) (by omega) Fm.rf h9
  obtain ⟨r1, r2, -, -⟩ := run_ok (P := isZ) (B := B) (n := n) (n - p) p (by omega)
  unfold f_X7_look
  rw [e1]
  unfold f_X7_look_b39 lx
  obtain ⟨q, hq⟩ : ∃ q, q = run isZ B n p := ⟨_, rfl⟩
  rw [← hq] at g1 r1 r2 ⊢
  have bT1 : BM B n T1 := hb.keep (F1.ag rfl)
  rw [g1, bd_some (s_byteAt bT1 (by omega)), lt_e, lt_e]
  have F2 : Fm wLk T (sI (sI T1 1 0 12 (1 : Int32)) 1 0 11 (0 : Int32)) := ((F1.mono rfl).sI rfl rfl).sI rfl rfl
  have a9 : gI (sI (sI T1 1 0 12 (1 : Int32)) 1 0 11 (0 : Int32)) 1 0 9 = nI q := by rw [gI_ne (by omega), gI_ne (by omega)]; exact g1
  have a11 : gI (sI (sI T1 1 0 12 (1 : Int32)) 1 0 11 (0 : Int32)) 1 0 11 = nI 0 := gI_same _ _ _ _ _
  have a12 : gI (sI (sI T1 1 0 12 (1 : Int32)) 1 0 11 (0 : Int32)) 1 0 12 = nI 1 := by rw [gI_ne (by omega), gI_same]; rfl
  generalize sI (sI T1 1 0 12 (1 : Int32)) 1 0 11 (0 : Int32) = T2 at F2 a9 a11 a12
  have bT2 : BM B n T2 := hb.keep (F2.ag rfl)
  by_cases z : n ≤ q
  · rw [bd_some (s_digM0 bT2 (fun y => absurd y.1 (by omega))), if_pos rfl, bd_some (s_letM0 bT2 (fun y => absurd y.1 (by omega))), if_pos rfl, if_pos z, show btN B n q = -1 by unfold btN; rw [if_neg (by omega)], if8, if_neg (by decide), if_neg (by decide)]
    show ∃ T2, _ = some T2 ∧ Fm wLk T T2 ∧ TkM T2 q 0 q
    unfold f_X7_look_b379
    rw [lt_e]
    exact ⟨_, rfl, F2.sI rfl rfl, by rw [gI_ne (by omega)]; exact a9, by rw [gI_same]; rfl, fun h => absurd h (by decide), fun h => absurd h (by decide), fun h => absurd rfl h⟩
  have hqn : q < n := by omega
  rw [if_neg z]
  by_cases y : isL (B q) = true
  · have nd : ¬ isD (B q) = true := fun x => by
      have := isL_122 y
      have := isD_57 x
      omega
    rw [bd_some (s_digM0 bT2 (fun x => nd x.2)), if_pos rfl, bd_some (s_letM1 bT2 hqn y), if_neg (show ¬ (1 : Int32) = 0 by decide), if_pos y, lt_e]
    show ∃ T2, _ = some T2 ∧ Fm wLk T T2 ∧ TkM T2 q (kw (seg B q (run isL B n q - q))) (run isL B n q)
    have F3 : Fm wLk T (sI T2 1 0 12 (0 : Int32)) := F2.sI rfl rfl
    obtain ⟨T4, e4, F4, g12, g11⟩ := s_wordM (E := E) (T := sI T2 1 0 12 (0 : Int32)) hN (hb.keep (F3.ag rfl)) r2 (by rw [gI_ne (by omega)]; exact a9) (by rw [gI_ne (by omega)]; exact a11) (gI_same _ _ _ _ _)
    obtain ⟨s1, s2, s3, -⟩ := run_ok (P := isL) (B := B) (n := n) (n - q) q (by omega)
    have hlet : ∀ c, c ∈ seg B q (run isL B n q - q) → 97 ≤ c ∧ c ≤ 122 := seg_mem (run isL B n q - q) q (fun c => 97 ≤ c ∧ c ≤ 122) (fun j h1 h2 => isL_122 (s3 j h1 (by omega)))
    have hlen : (seg B q (run isL B n q - q)).length = run isL B n q - q := seg_len B _ _
    rw [e4]
    unfold f_X7_look_b260 f_X7_look_b278
    have F5 : Fm wLk T T4 := F3.trans (F4.mono rfl)
    have g9 : gI T4 1 0 9 = nI q := (F4.I rfl).trans (by rw [gI_ne (by omega)]; exact a9)
    rw [g12]
    have fin2 : ∀ (W : Int32), ¬ 0 ≤ nmO W → isK W = 0 → kw (seg B q (run isL B n q - q)) = 2 → ∃ T5, (lt_ (sI T4 1 0 11 W) fun S4 => bd_ (f_X7_nameOf E S4 (gI S4 1 0 11)) fun r5 => (if 0 ≤ r5 then f_X7_look_b304 E S4 else bd_ (f_X7_isKey E S4 (gI S4 1 0 11)) fun r6 => (if r6 = 0 then f_X7_look_b310 E S4 (-2 : Int32) else f_X7_look_b304 E S4))) = some T5 ∧ Fm wLk T T5 ∧ TkM T5 q (kw (seg B q (run isL B n q - q))) (run isL B n q) := fun W w1 w2 hk => by
      rw [lt_e, gI_same, bd_some (s_nmO _), if_neg w1, bd_some (s_isK _), w2, if_pos rfl]
      unfold f_X7_look_b310
      rw [lt_e, hk]
      exact ⟨_, rfl, (F5.sI rfl rfl).sI rfl rfl, by rw [gI_ne (by omega), gI_ne (by omega)]; exact g9, by rw [gI_same]; rfl, fun h => absurd h (by decide), fun h => absurd h (by decide), fun _ => by rw [gI_ne (by omega), gI_ne (by omega)]; exact g12⟩
    by_cases h6 : run isL B n q - q ≤ 6
    · rw [if_pos (show nI (run isL B n q - q) ≤ (6 : Int32) by rw [q_leR 6 (by decide) (by omega)]; exact h6), g11]
      rcases wd_res hlet (by omega) with ⟨k1, k2, k3⟩ | ⟨k1, k2, k3, k4⟩
      · exact fin2 _ k2 k3 k1
      · have e5 : (lt_ (sI T4 1 0 11 (nI (wvl 0 0 (seg B q (run isL B n q - q))))) fun S4 => bd_ (f_X7_nameOf E S4 (gI S4 1 0 11)) fun r5 => (if 0 ≤ r5 then f_X7_look_b304 E S4 else bd_ (f_X7_isKey E S4 (gI S4 1 0 11)) fun r6 => (if r6 = 0 then f_X7_look_b310 E S4 (-2 : Int32) else f_X7_look_b304 E S4))) = some (sI (sI T4 1 0 11 (nI (wvl 0 0 (seg B q (run isL B n q - q))))) 1 0 10 (2 : Int32)) := by
          rw [lt_e, gI_same, bd_some (s_nmO _)]
          by_cases w : 0 ≤ nmO (nI (wvl 0 0 (seg B q (run isL B n q - q))))
          · rw [if_pos w]
            rfl
          · rw [if_neg w, bd_some (s_isK _), if_neg (k4.resolve_left w)]
            rfl
        refine ⟨_, e5, (F5.sI rfl rfl).sI rfl rfl, by rw [gI_ne (by omega), gI_ne (by omega)]; exact g9, ?_, fun _ _ => by rw [gI_ne (by omega), gI_same]; exact k3, fun h => absurd h (by omega), fun _ => by rw [gI_ne (by omega), gI_ne (by omega)]; exact g12⟩
        rw [gI_same]
        unfold tM
        rw [if_neg (by omega), if_neg (by omega), if_neg (by omega), if_pos (by omega)]
    · rw [if_neg (show ¬ nI (run isL B n q - q) ≤ (6 : Int32) by rw [q_leR 6 (by decide) (by omega)]; exact h6)]
      exact fin2 0 (by decide) (by decide) (kw_long (by omega))
  rw [if_neg y]
  by_cases x : isD (B q) = true
  · rw [bd_some (s_digM1 bT2 hqn x), if_neg (show ¬ (1 : Int32) = 0 by decide), if_pos x, lt_e, lt_e]
    show ∃ T2, _ = some T2 ∧ Fm wLk T T2 ∧ TkM T2 q (if run isD B n q - q ≤ 4 then 1000 + nvl 0 0 (seg B q (run isD B n q - q)) else 2) (run isD B n q)
    have F3 : Fm wLk T (sI (sI T2 1 0 10 (1 : Int32)) 1 0 12 (0 : Int32)) := (F2.sI rfl rfl).sI rfl rfl
    obtain ⟨T4, e4, F4, g12, g11⟩ := s_numM (E := E) (T := sI (sI T2 1 0 10 (1 : Int32)) 1 0 12 (0 : Int32)) hN (hb.keep (F3.ag rfl)) r2 (by rw [gI_ne (by omega), gI_ne (by omega)]; exact a9) (by rw [gI_ne (by omega), gI_ne (by omega)]; exact a11) (gI_same _ _ _ _ _)
    obtain ⟨s1, s2, s3, -⟩ := run_ok (P := isD) (B := B) (n := n) (n - q) q (by omega)
    have nb := nvl_lt (seg B q (run isD B n q - q)) 0 0 (fun c hc => (isD_57 (seg_mem (run isD B n q - q) q (fun c => isD c = true) (fun j h1 h2 => s3 j h1 (by omega)) c hc)).2) (by decide)
    rw [e4]
    unfold f_X7_look_b152 f_X7_look_b167
    have F5 : Fm wLk T T4 := F3.trans (F4.mono rfl)
    have g9 : gI T4 1 0 9 = nI q := (F4.I rfl).trans (by rw [gI_ne (by omega), gI_ne (by omega)]; exact a9)
    rw [g12, lt_e, lt_e]
    by_cases h4 : run isD B n q - q ≤ 4
    · rw [if_pos (show nI (run isD B n q - q) ≤ (4 : Int32) by rw [q_leR 4 (by decide) (by omega)]; exact h4), if_pos h4]
      refine ⟨_, rfl, F5.sI rfl rfl, by rw [gI_ne (by omega)]; exact g9, ?_, fun _ h => absurd h (by omega), fun _ => by rw [gI_ne (by omega), Nat.add_sub_cancel_left]; exact g11, fun _ => by rw [gI_ne (by omega)]; exact g12⟩
      rw [gI_same]
      unfold tM
      rw [if_neg (by omega), if_neg (by omega), if_neg (by omega), if_neg (by omega)]
    · rw [if_neg (show ¬ nI (run isD B n q - q) ≤ (4 : Int32) by rw [q_leR 4 (by decide) (by omega)]; exact h4), if_neg h4]
      exact ⟨_, rfl, F5.sI rfl rfl, by rw [gI_ne (by omega)]; exact g9, by rw [gI_same]; rfl, fun h => absurd h (by decide), fun h => absurd h (by decide), fun _ => by rw [gI_ne (by omega)]; exact g12⟩
  have b1 := (hb.2.2 q hqn).1
  rw [if_neg x, bd_some (s_digM0 bT2 (fun w => x w.2)), if_pos rfl, bd_some (s_letM0 bT2 (fun w => y w.2)), if_pos rfl, show btN B n q = nI (B q) by unfold btN; rw [if_pos hqn], if8]
  show ∃ T2, _ = some T2 ∧ Fm wLk T T2 ∧ TkM T2 q (if isG (B q) = true then B q else 2) (q + 1)
  have g8 : (nI (B q) = (40 : Int32) ∨ nI (B q) = 41 ∨ nI (B q) = 59 ∨ nI (B q) = 43 ∨ nI (B q) = 45 ∨ nI (B q) = 42 ∨ nI (B q) = 60 ∨ nI (B q) = 61) ↔ isG (B q) = true := by
    have all : ∀ b, b < 256 → ((nI b = (40 : Int32) ∨ nI b = 41 ∨ nI b = 59 ∨ nI b = 43 ∨ nI b = 45 ∨ nI b = 42 ∨ nI b = 60 ∨ nI b = 61) ↔ isG b = true) := by decide +kernel
    exact all _ b1
  by_cases w : isG (B q) = true
  · rw [if_pos (g8.mpr w), if_pos w]
    unfold f_X7_look_b365 f_X7_look_b379
    have hg : B q = 40 ∨ B q = 41 ∨ B q = 59 ∨ B q = 43 ∨ B q = 45 ∨ B q = 42 ∨ B q = 60 ∨ B q = 61 := of_decide_eq_true w
    rw [lt_e]
    refine ⟨_, rfl, F2.sI rfl rfl, by rw [gI_ne (by omega)]; exact a9, ?_, fun h => absurd h (by omega), fun h => absurd h (by omega), fun _ => by rw [gI_ne (by omega), Nat.add_sub_cancel_left]; exact a12⟩
    rw [gI_same]
    unfold tM
    rw [if_neg (by omega), if_neg (by omega), if_pos (by omega)]
  · rw [if_neg (fun v => w (g8.mp v)), if_neg w, if_pos (nI_pos' (by omega))]
    unfold f_X7_look_b379
    rw [lt_e]
    exact ⟨_, rfl, F2.sI rfl rfl, by rw [gI_ne (by omega)]; exact a9, by rw [gI_same]; rfl, fun h => absurd h (by decide), fun h => absurd h (by decide), fun _ => by rw [gI_ne (by omega), Nat.add_sub_cancel_left]; exact a12⟩
end LEXN
