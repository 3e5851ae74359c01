/-! PURE PART: the reference's steps over an E -/
/-- what a token may be -/
def vT (t : Nat) : Prop := t = 0 ∨ t = 2 ∨ isG t = true ∨ (256 ≤ t ∧ t < 268) ∨ (1000 ≤ t ∧ t < 11000)
theorem isG_8 {t : Nat} (h : isG t = true) : t = 40 ∨ t = 41 ∨ t = 59 ∨ t = 43 ∨ t = 45 ∨ t = 42 ∨ t = 60 ∨ t = 61 := of_decide_eq_true h
theorem tM_w {t : Nat} (h : 256 ≤ t) (h2 : t < 1000) : tM t = 2 := by
  unfold tM
  rw [if_neg (by omega), if_neg (by omega), if_neg (by omega), if_pos h2]
theorem tM_n {t : Nat} (h : 1000 ≤ t) : tM t = 1 := by
  unfold tM
  rw [if_neg (by omega), if_neg (by omega), if_neg (by omega), if_neg (by omega)]
theorem tM_sign {t s : Nat} (vt : vT t) (h1 : 40 ≤ s) (h2 : s < 62) : tM t = nI s ↔ t = s := by
  have all : ∀ t, t < 256 → ∀ s, s < 62 → 40 ≤ s → (tM t = nI s ↔ t = s) := by decide +kernel
  by_cases a : t < 256
  · exact all t a s h2 h1
  · have two : ∀ s, s < 62 → 40 ≤ s → ¬ (2 : Int32) = nI s ∧ ¬ (1 : Int32) = nI s := by decide
    by_cases b : t < 1000
    · rw [tM_w (by omega) b]
      exact ⟨fun e => absurd e (two s h2 h1).1, fun e => by omega⟩
    · rw [tM_n (by omega)]
      exact ⟨fun e => absurd e (two s h2 h1).2, fun e => by omega⟩
theorem tM_2 {t : Nat} (vt : vT t) : tM t = 2 ↔ (256 ≤ t ∧ t < 268) := by
  rcases vt with rfl | rfl | h | h | h
  · exact ⟨fun e => absurd e (by decide), fun e => by omega⟩
  · exact ⟨fun e => absurd e (by decide), fun e => by omega⟩
  · have := isG_8 h
    rcases this with rfl | rfl | rfl | rfl | rfl | rfl | rfl | rfl <;> exact ⟨fun e => absurd e (by decide), fun e => by omega⟩
  · exact ⟨fun _ => h, fun _ => tM_w h.1 (by omega)⟩
  · rw [tM_n h.1]
    exact ⟨fun e => absurd e (by decide), fun e => by omega⟩
theorem tM_1 {t : Nat} (vt : vT t) : tM t = 1 ↔ 1000 ≤ t := by
  rcases vt with rfl | rfl | h | h | h
  · exact ⟨fun e => absurd e (by decide), fun e => by omega⟩
  · exact ⟨fun e => absurd e (by decide), fun e => by omega⟩
  · have := isG_8 h
    rcases this with rfl | rfl | rfl | rfl | rfl | rfl | rfl | rfl <;> exact ⟨fun e => absurd e (by decide), fun e => by omega⟩
  · rw [tM_w h.1 (by omega)]
    exact ⟨fun e => absurd e (by decide), fun e => by omega⟩
  · exact ⟨fun _ => h.1, fun _ => tM_n h.1⟩
theorem tM_neg {t : Nat} (vt : vT t) : (0 : Int32) ≤ tM t ↔ ¬ (t = 0 ∨ t = 2) := by
  rcases vt with rfl | rfl | h | h | h
  · exact ⟨fun e => absurd e (by decide), fun e => absurd (Or.inl rfl) e⟩
  · exact ⟨fun e => absurd e (by decide), fun e => absurd (Or.inr rfl) e⟩
  · have := isG_8 h
    rcases this with rfl | rfl | rfl | rfl | rfl | rfl | rfl | rfl <;> exact ⟨fun _ => by decide, fun _ => by decide⟩
  · rw [tM_w h.1 (by omega)]
    exact ⟨fun _ => by omega, fun _ => by decide⟩
  · rw [tM_n h.1]
    exact ⟨fun _ => by omega, fun _ => by decide⟩
theorem s_isWord {E : EN} {T : ST} {pl t nx w : Nat} (vt : vT t) (h : TkM T pl t nx) (h1 : 256 ≤ w) (h2 : w < 268) : f_X7_isWord E T (nI (wc w)) = some (if t = w then 1 else 0) := by
  unfold f_X7_isWord
  rw [h.2.1]
  by_cases a : 256 ≤ t ∧ t < 268
  · rw [if_pos ((tM_2 vt).mpr a), h.2.2.1 a.1 a.2]
    have inj : ∀ i, i < 12 → ∀ j, j < 12 → (nI (wc (256 + i)) = nI (wc (256 + j)) ↔ 256 + i = 256 + j) := by decide +kernel
    have e := inj (t - 256) (by omega) (w - 256) (by omega)
    rw [show 256 + (t - 256) = t by omega, show 256 + (w - 256) = w by omega] at e
    by_cases z : t = w
    · rw [if_pos (e.mpr z), if_pos z]
    · rw [if_neg (fun y => z (e.mp y)), if_neg z]
  · rw [if_neg (fun y => a ((tM_2 vt).mp y)), if_neg (fun y => a (by omega))]
/-- what a NUMBER or a NAME puts down -/
def decT (t : Nat) : Nat × Nat := if 1000 ≤ t then (0, t - 1000) else (1, t - 262)
def sgO (t : Nat) : Nat := if t = 42 then 9 else if t = 43 then 7 else if t = 45 then 8 else if t = 60 then 5 else if t = 61 then 6 else if t = 260 then 3 else 2
def lvO (t : Nat) : Nat := if t = 60 ∨ t = 61 then 5 else stg (sgO t)
def isB2 (t : Nat) : Prop := t = 42 ∨ t = 43 ∨ t = 45 ∨ t = 60 ∨ t = 61 ∨ t = 260 ∨ t = 259
section STP
variable {E : EN} {B : Nat → Nat} {n : Nat} {Tb : ST} {b k0 : Nat}
theorem vT_k (B : Nat → Nat) (n k : Nat) : vT (tT B n k) := (tX_ok B n k).2.2.2.2.2
abbrev MR (B : Nat → Nat) (n : Nat) (Tb : ST) (b k0 : Nat) (T : ST) (k : Nat) (out : List (Nat × Nat)) (wt : List Nat) : Prop := MRc B n Tb b k0 T k k out wt
/-- the next token -/
theorem s_goOn (hN : 300 ≤ E.1) {T : ST} {k : Nat} {out : List (Nat × Nat)} {wt : List Nat} (h : MRc B n Tb b k0 T k (k + 1) out wt) (h0 : tT B n k ≠ 0) : ∃ T2, f_X7_goOn E T = some T2 ∧ MR B n Tb b k0 T2 (k + 1) out wt := by
  obtain ⟨p1, ⟨p21, p22, p23, p24, p25⟩, p3, p4, ⟨p5, p6, p7⟩, ⟨p8, p9⟩, p10, p13, p14⟩ := h
  obtain ⟨h1, h2, h3, h4, h5, h6⟩ := tX_ok B n k
  unfold f_X7_goOn
  rw [p21, p25 h0, nI_add, show tP B n k + (tN B n k - tP B n k) = tN B n k by omega, lt_e]
  have F1 : Fm [(1, 10)] T (sI T 1 0 9 (nI (tN B n k))) := Fm.rf.sI rfl rfl
  obtain ⟨T2, e2, F2, k2⟩ := s_look (E := E) (T := sI T 1 0 9 (nI (tN B n k))) hN (p1.keep (F1.ag rfl)) h2 (gI_same _ _ _ _ _)
  have F : Fm wLk T T2 := (F1.mono rfl).trans F2
  rw [bd_some e2]
  refine ⟨T2, rfl, p1.keep (F.ag rfl), k2, p3.trans (F.mono rfl), fun j hj => ⟨(F.I rfl).trans (p4 j hj).1, (F.I rfl).trans (p4 j hj).2⟩, ⟨(F.I rfl).trans p5, (F.I rfl).trans p6, (F.I rfl).trans p7⟩, ⟨p8.keep (fun j hj => ⟨F.I rfl, F.I rfl⟩), p9.keep (fun j hj => F.I rfl)⟩, p10, p13, p14⟩
theorem it1 {kh : ST → Int32 → Int32 → Option (Int32 × ST)} {T : ST} {pl t nx : Nat} {mn : Int32} (vt : vT t) (h : TkM T pl t nx) :
    g_X7_takesE_b19 E kh T 1 mn = bd2 (f_X7_takesOne E T mn) fun r T1 => if r = 0 then some (0, T1) else bd_ (f_X7_goOn E T1) fun T2 => kh T2 (if r = 1 then 1 else 0) (if t = 261 ∨ t = 40 then 1 else 0) := by
  unfold g_X7_takesE_b19 f_X7_takesE_b75 f_X7_takesE_b98 f_X7_takesE_b113 f_X7_takesE_b131 f_X7_takesE_b154 f_X7_takesE_b164 f_X7_takesE_b176
  have n1 : ¬ (1 : Int32) = 0 := by decide
  rw [if_neg n1, show (14836 : Int32) = nI (wc 261) from rfl, bd_some (s_isWord vt h (by decide) (by decide)), h.2.1]
  have e40 : tM t = 40 ↔ t = 40 := tM_sign vt (by decide) (by decide)
  by_cases a : t = 261
  · rw [if_neg (show ¬ tM t = 40 from fun y => by have := e40.mp y; omega), if_pos (show tM t = 2 from (tM_2 vt).mpr (by omega)), if_neg n1, if_pos a, if_pos (Or.inl a)]
    congr 1
    funext r T1
    by_cases r0 : r = 0
    · rw [if_pos r0, if_pos r0]
    · rw [if_neg r0, if_neg r0, if_neg n1, if_neg n1]
      by_cases r1 : r = 1
      · rw [if_pos r1, if_pos r1]
      · rw [if_neg r1, if_neg r1]
  · rw [if_neg a]
    have fin : ∀ (v : Int32), (if t = 40 then (1 : Int32) else 0) = v → ∀ (r : Int32) (T1 : ST), (if r = 0 then some (0, T1) else if (1 : Int32) = 0 then (if r = (1 : Int32) then bd_ (f_X7_goOn E T1) fun S1 => kh S1 1 (0 : Int32) else bd_ (f_X7_goOn E T1) fun S1 => kh S1 0 (0 : Int32)) else (if (0 : Int32) = 0 then (if v = 0 then (if r = (1 : Int32) then bd_ (f_X7_goOn E T1) fun S1 => kh S1 1 (0 : Int32) else bd_ (f_X7_goOn E T1) fun S1 => kh S1 0 (0 : Int32)) else (if r = (1 : Int32) then bd_ (f_X7_goOn E T1) fun S1 => kh S1 1 (1 : Int32) else bd_ (f_X7_goOn E T1) fun S1 => kh S1 0 (1 : Int32))) else (if r = (1 : Int32) then bd_ (f_X7_goOn E T1) fun S1 => kh S1 1 (1 : Int32) else bd_ (f_X7_goOn E T1) fun S1 => kh S1 0 (1 : Int32)))) = if r = 0 then some (0, T1) else bd_ (f_X7_goOn E T1) fun T2 => kh T2 (if r = 1 then 1 else 0) (if t = 261 ∨ t = 40 then 1 else 0) := fun v hv r T1 => by
      by_cases r0 : r = 0
      · rw [if_pos r0, if_pos r0]
      · rw [if_neg r0, if_neg r0, if_neg n1, if_pos rfl, ← hv]
        by_cases c : t = 40
        · rw [if_pos c, if_neg n1, if_pos (show t = 261 ∨ t = 40 from Or.inr c)]
          by_cases r1 : r = 1
          · rw [if_pos r1, if_pos r1]
          · rw [if_neg r1, if_neg r1]
        · rw [if_neg c, if_pos rfl, if_neg (show ¬ (t = 261 ∨ t = 40) from fun y => y.elim a c)]
          by_cases r1 : r = 1
          · rw [if_pos r1, if_pos r1]
          · rw [if_neg r1, if_neg r1]
    by_cases c : t = 40
    · rw [if_pos (e40.mpr c), if_neg (show ¬ tM t = 2 from fun y => by have := (tM_2 vt).mp y; omega), if_neg n1]
      congr 1
      funext r T1
      exact fin 1 (if_pos c) r T1
    · rw [if_neg (fun y => c (e40.mp y))]
      by_cases w : tM t = 2
      · rw [if_pos w, if_neg n1]
        congr 1
        funext r T1
        exact fin 0 (if_neg c) r T1
      · rw [if_neg w, if_neg n1]
        congr 1
        funext r T1
        exact fin 0 (if_neg c) r T1
theorem it0 {kh : ST → Int32 → Int32 → Option (Int32 × ST)} {T : ST} {pl t nx : Nat} {mn : Int32} (vt : vT t) (h : TkM T pl t nx) (ht : ¬ (t = 59 ∨ t = 0 ∨ t = 2)) :
    g_X7_takesE_b19 E kh T 0 mn = bd2 (f_X7_takesSign E T) fun r T1 => if r = 0 then some (0, T1) else bd_ (f_X7_goOn E T1) fun T2 => kh T2 (if r = 1 then 1 else 0) (if 256 ≤ t ∧ t < 268 then 1 else 0) := by
  have n1 : ¬ (1 : Int32) = 0 := by decide
  have all : g_X7_takesE_b19 E kh T 0 mn = f_X7_takesE_b75 E kh T 0 mn := by
    unfold g_X7_takesE_b19
    rw [if_pos rfl, h.2.1]
    by_cases c : tM t = 41
    · rw [if_pos c]
    · rw [if_neg c, if_neg (show ¬ tM t = 59 from fun y => ht (Or.inl ((tM_sign vt (by decide) (by decide)).mp y))), if_pos ((tM_neg vt).mpr fun y => ht (Or.inr y))]
  rw [all]
  unfold f_X7_takesE_b75 f_X7_takesE_b98 f_X7_takesE_b113 f_X7_takesE_b131 f_X7_takesE_b164 f_X7_takesE_b176
  rw [show (14836 : Int32) = nI (wc 261) from rfl, bd_some (s_isWord vt h (by decide) (by decide)), h.2.1]
  have fin : ∀ (v : Int32), (if 256 ≤ t ∧ t < 268 then (1 : Int32) else 0) = v → ∀ (r : Int32) (T1 : ST), (if r = (1 : Int32) then bd_ (f_X7_goOn E T1) fun S1 => kh S1 1 v else bd_ (f_X7_goOn E T1) fun S1 => kh S1 0 v) = bd_ (f_X7_goOn E T1) fun T2 => kh T2 (if r = 1 then 1 else 0) (if 256 ≤ t ∧ t < 268 then 1 else 0) := fun v hv r T1 => by
    rw [hv]
    by_cases r1 : r = 1
    · rw [if_pos r1, if_pos r1]
    · rw [if_neg r1, if_neg r1]
  have main : ∀ v, (if 256 ≤ t ∧ t < 268 then (1 : Int32) else 0) = v → (if (0 : Int32) = 0 then bd2 (f_X7_takesSign E T) fun r2 S3 => (if r2 = 0 then some ((0 : Int32), S3) else if (0 : Int32) = 0 then (if r2 = (1 : Int32) then bd_ (f_X7_goOn E S3) fun S1 => kh S1 1 v else bd_ (f_X7_goOn E S3) fun S1 => kh S1 0 v) else if r2 = 1 then none else none) else none) = bd2 (f_X7_takesSign E T) fun r T1 => if r = 0 then some (0, T1) else bd_ (f_X7_goOn E T1) fun T2 => kh T2 (if r = 1 then 1 else 0) (if 256 ≤ t ∧ t < 268 then 1 else 0) := fun v hv => by
    rw [if_pos rfl]
    congr 1
    funext r T1
    by_cases r0 : r = 0
    · rw [if_pos r0, if_pos r0]
    · rw [if_neg r0, if_neg r0, if_pos rfl]
      exact fin v hv r T1
  by_cases w : 256 ≤ t ∧ t < 268
  · have e2 : tM t = 2 := (tM_2 vt).mpr w
    by_cases c : tM t = 40
    · rw [e2] at c; exact absurd c (by decide)
    · rw [if_neg c, if_pos e2, if_pos rfl, if_pos w]
      have := main 1 (if_pos w)
      rw [if_pos rfl, if_pos w] at this
      rw [← this]
      congr 1
  · have e2 : ¬ tM t = 2 := fun y => w ((tM_2 vt).mp y)
    have := main 0 (if_neg w)
    rw [if_pos rfl, if_neg w] at this
    rw [if_neg w, ← this]
    by_cases c : tM t = 40
    · rw [if_pos c, if_neg e2, if_pos rfl]
      congr 1
    · rw [if_neg c, if_neg e2, if_pos rfl]
      congr 1
end STP
