/-! PURE PART: all marks of five weeks: sums over a tree -/
def endP (L : Nat → Nat → Nat → Nat → Nat → Nat) (c : CS) : Nat → Nat
  | 0 => 0
  | s + 1 => endP L c s + c.1 s * L 2 5 c.2.1 c.2.2.1 s
def endV (L : Nat → Nat → Nat → Nat → Nat → Nat) (c : CS) : Nat := endP L c 5
theorem endV_le {L : Nat → Nat → Nat → Nat → Nat → Nat} (hL : okL L) (c : CS) : endV L c ≤ 99 * smf c.1 0 := by
  have h := fun s => Nat.mul_le_mul_left (c.1 s) (hL 5 c.2.1 c.2.2.1 s).2.2
  have h0 := h 0
  have h1 := h 1
  have h2 := h 2
  have h3 := h 3
  have h4 := h 4
  rw [smf_0]
  show 0 + c.1 0 * L 2 5 c.2.1 c.2.2.1 0 + c.1 1 * L 2 5 c.2.1 c.2.2.1 1 + c.1 2 * L 2 5 c.2.1 c.2.2.1 2 + c.1 3 * L 2 5 c.2.1 c.2.2.1 3 + c.1 4 * L 2 5 c.2.1 c.2.2.1 4 ≤ _
  omega
/-- right and wrong together: a hundred times as many at most -/
theorem nxr_two {L : Nat → Nat → Nat → Nat → Nat → Nat} {w g m : Nat} {r : Nat → Nat} (h0 : ∀ s, L 0 w g m s ≤ 10) (h1 : ∀ s, L 1 w g m s ≤ 10) : smf (nxr L w g m 0 r) 0 + smf (nxr L w g m 1 r) 0 ≤ 100 * smf r 0 := by
  have k : ∀ s, nxr L w g m 0 r s + nxr L w g m 1 r s = (r s * (10 - L 0 w g m s) + (if s = 0 then 0 else r (s - 1) * L 0 w g m (s - 1))) * 10 := fun s => by
    unfold nxr
    rw [if_neg (show ¬ (0 : Nat) = 1 by decide), if_pos (rfl : (1 : Nat) = 1), ← Nat.mul_add]
    have := h1 s
    rw [show 10 - L 1 w g m s + L 1 w g m s = 10 by omega]
  have e : ∀ s, r s * (10 - L 0 w g m s) + r s * L 0 w g m s = r s * 10 := fun s => by
    have := h0 s
    rw [← Nat.mul_add, show 10 - L 0 w g m s + L 0 w g m s = 10 by omega]
  have k0 := k 0
  have k1 := k 1
  have k2 := k 2
  have k3 := k 3
  have k4 := k 4
  have e0 := e 0
  have e1 := e 1
  have e2 := e 2
  have e3 := e 3
  have e4 := e 4
  rw [smf_0, smf_0, smf_0]
  simp only [if_neg (show ¬ (1 : Nat) = 0 by decide), if_neg (show ¬ (2 : Nat) = 0 by decide), if_neg (show ¬ (3 : Nat) = 0 by decide), if_neg (show ¬ (4 : Nat) = 0 by decide), if_pos (show (0 : Nat) = 0 from rfl), if_true, show 1 - 1 = 0 from rfl, show 2 - 1 = 1 from rfl, show 3 - 1 = 2 from rfl, show 4 - 1 = 3 from rfl] at k0 k1 k2 k3 k4
  omega
/-- over the marks of q weeks more; o of the weeks ahead are right -/
def trG (L : Nat → Nat → Nat → Nat → Nat → Nat) (k n : Nat) (F : Nat → CS → Nat) : Nat → Nat → CS → Nat
  | 0, o, c => F o c
  | q + 1, o, c => trG L k n F q o (stp L k n (4 - q) c 0) + trG L k n F q (o + 1) (stp L k n (4 - q) c 1)
theorem trG_le {L : Nat → Nat → Nat → Nat → Nat → Nat} {k n B : Nat} {F : Nat → CS → Nat} (hL : okL L) (hF : ∀ o c, o ≤ 5 → F o c ≤ B * smf c.1 0) : ∀ q o c, o + q ≤ 5 → trG L k n F q o c ≤ B * 100 ^ q * smf c.1 0
  | 0, o, c, h => by
    rw [Nat.pow_zero, Nat.mul_one]
    exact hF o c (by omega)
  | q + 1, o, c, h => by
    have a := trG_le (k := k) (n := n) hL hF q o (stp L k n (4 - q) c 0) (by omega)
    have b := trG_le (k := k) (n := n) hL hF q (o + 1) (stp L k n (4 - q) c 1) (by omega)
    have t := nxr_two (L := L) (w := 4 - q) (g := c.2.1) (m := c.2.2.1) (r := c.1) (fun s => (hL _ _ _ s).1) (fun s => (hL _ _ _ s).2.1)
    have t2 := Nat.mul_le_mul_left (B * 100 ^ q) t
    rw [Nat.mul_add] at t2
    have e : B * 100 ^ (q + 1) * smf c.1 0 = B * 100 ^ q * (100 * smf c.1 0) := by rw [Nat.pow_succ, ← Nat.mul_assoc, ← Nat.mul_assoc]
    rw [e]
    exact Nat.le_trans (Nat.add_le_add a b) t2
/-- so many of the lowest q bits are set -/
def pcN : Nat → Nat → Nat
  | 0, _ => 0
  | q + 1, M => pcN q M + M / 2 ^ q % 2
def sumP (G : Nat → Nat) : Nat → Nat
  | 0 => 0
  | n + 1 => sumP G n + G n
theorem tr_sum (L : Nat → Nat → Nat → Nat → Nat → Nat) (k n g0 : Nat) (r0 : Nat → Nat) (F : Nat → CS → Nat) : sumP (fun M => F (pcN 5 M) (pth L k n g0 r0 M 5)) 32 = trG L k n F 5 0 (r0, g0, 0, 0, 0) := by
  have H : ∃ H : Nat → Nat → Nat → Nat → Nat → Nat, H = fun b0 b1 b2 b3 b4 => F (b0 + b1 + b2 + b3 + b4) (stp L k n 4 (stp L k n 3 (stp L k n 2 (stp L k n 1 (stp L k n 0 (r0, g0, 0, 0, 0) b0) b1) b2) b3) b4) := ⟨_, rfl⟩
  obtain ⟨H, hH⟩ := H
  have e : ∀ b0 b1 b2 b3 b4, F (b0 + b1 + b2 + b3 + b4) (stp L k n 4 (stp L k n 3 (stp L k n 2 (stp L k n 1 (stp L k n 0 (r0, g0, 0, 0, 0) b0) b1) b2) b3) b4) = H b0 b1 b2 b3 b4 := fun _ _ _ _ _ => by rw [hH]
  have p0 : (fun M => F (pcN 5 M) (pth L k n g0 r0 M 5)) 0 = H 0 0 0 0 0 := e 0 0 0 0 0
  have p1 : (fun M => F (pcN 5 M) (pth L k n g0 r0 M 5)) 1 = H 1 0 0 0 0 := e 1 0 0 0 0
  have p2 : (fun M => F (pcN 5 M) (pth L k n g0 r0 M 5)) 2 = H 0 1 0 0 0 := e 0 1 0 0 0
  have p3 : (fun M => F (pcN 5 M) (pth L k n g0 r0 M 5)) 3 = H 1 1 0 0 0 := e 1 1 0 0 0
  have p4 : (fun M => F (pcN 5 M) (pth L k n g0 r0 M 5)) 4 = H 0 0 1 0 0 := e 0 0 1 0 0
  have p5 : (fun M => F (pcN 5 M) (pth L k n g0 r0 M 5)) 5 = H 1 0 1 0 0 := e 1 0 1 0 0
  have p6 : (fun M => F (pcN 5 M) (pth L k n g0 r0 M 5)) 6 = H 0 1 1 0 0 := e 0 1 1 0 0
  have p7 : (fun M => F (pcN 5 M) (pth L k n g0 r0 M 5)) 7 = H 1 1 1 0 0 := e 1 1 1 0 0
  have p8 : (fun M => F (pcN 5 M) (pth L k n g0 r0 M 5)) 8 = H 0 0 0 1 0 := e 0 0 0 1 0
  have p9 : (fun M => F (pcN 5 M) (pth L k n g0 r0 M 5)) 9 = H 1 0 0 1 0 := e 1 0 0 1 0
  have p10 : (fun M => F (pcN 5 M) (pth L k n g0 r0 M 5)) 10 = H 0 1 0 1 0 := e 0 1 0 1 0
  have p11 : (fun M => F (pcN 5 M) (pth L k n g0 r0 M 5)) 11 = H 1 1 0 1 0 := e 1 1 0 1 0
  have p12 : (fun M => F (pcN 5 M) (pth L k n g0 r0 M 5)) 12 = H 0 0 1 1 0 := e 0 0 1 1 0
  have p13 : (fun M => F (pcN 5 M) (pth L k n g0 r0 M 5)) 13 = H 1 0 1 1 0 := e 1 0 1 1 0
  have p14 : (fun M => F (pcN 5 M) (pth L k n g0 r0 M 5)) 14 = H 0 1 1 1 0 := e 0 1 1 1 0
  have p15 : (fun M => F (pcN 5 M) (pth L k n g0 r0 M 5)) 15 = H 1 1 1 1 0 := e 1 1 1 1 0
  have p16 : (fun M => F (pcN 5 M) (pth L k n g0 r0 M 5)) 16 = H 0 0 0 0 1 := e 0 0 0 0 1
  have p17 : (fun M => F (pcN 5 M) (pth L k n g0 r0 M 5)) 17 = H 1 0 0 0 1 := e 1 0 0 0 1
  have p18 : (fun M => F (pcN 5 M) (pth L k n g0 r0 M 5)) 18 = H 0 1 0 0 1 := e 0 1 0 0 1
  have p19 : (fun M => F (pcN 5 M) (pth L k n g0 r0 M 5)) 19 = H 1 1 0 0 1 := e 1 1 0 0 1
  have p20 : (fun M => F (pcN 5 M) (pth L k n g0 r0 M 5)) 20 = H 0 0 1 0 1 := e 0 0 1 0 1
  have p21 : (fun M => F (pcN 5 M) (pth L k n g0 r0 M 5)) 21 = H 1 0 1 0 1 := e 1 0 1 0 1
  have p22 : (fun M => F (pcN 5 M) (pth L k n g0 r0 M 5)) 22 = H 0 1 1 0 1 := e 0 1 1 0 1
  have p23 : (fun M => F (pcN 5 M) (pth L k n g0 r0 M 5)) 23 = H 1 1 1 0 1 := e 1 1 1 0 1
  have p24 : (fun M => F (pcN 5 M) (pth L k n g0 r0 M 5)) 24 = H 0 0 0 1 1 := e 0 0 0 1 1
  have p25 : (fun M => F (pcN 5 M) (pth L k n g0 r0 M 5)) 25 = H 1 0 0 1 1 := e 1 0 0 1 1
  have p26 : (fun M => F (pcN 5 M) (pth L k n g0 r0 M 5)) 26 = H 0 1 0 1 1 := e 0 1 0 1 1
  have p27 : (fun M => F (pcN 5 M) (pth L k n g0 r0 M 5)) 27 = H 1 1 0 1 1 := e 1 1 0 1 1
  have p28 : (fun M => F (pcN 5 M) (pth L k n g0 r0 M 5)) 28 = H 0 0 1 1 1 := e 0 0 1 1 1
  have p29 : (fun M => F (pcN 5 M) (pth L k n g0 r0 M 5)) 29 = H 1 0 1 1 1 := e 1 0 1 1 1
  have p30 : (fun M => F (pcN 5 M) (pth L k n g0 r0 M 5)) 30 = H 0 1 1 1 1 := e 0 1 1 1 1
  have p31 : (fun M => F (pcN 5 M) (pth L k n g0 r0 M 5)) 31 = H 1 1 1 1 1 := e 1 1 1 1 1
  have t : trG L k n F 5 0 (r0, g0, 0, 0, 0) = (((((H 0 0 0 0 0 + H 0 0 0 0 1) + (H 0 0 0 1 0 + H 0 0 0 1 1)) + ((H 0 0 1 0 0 + H 0 0 1 0 1) + (H 0 0 1 1 0 + H 0 0 1 1 1))) + (((H 0 1 0 0 0 + H 0 1 0 0 1) + (H 0 1 0 1 0 + H 0 1 0 1 1)) + ((H 0 1 1 0 0 + H 0 1 1 0 1) + (H 0 1 1 1 0 + H 0 1 1 1 1)))) + ((((H 1 0 0 0 0 + H 1 0 0 0 1) + (H 1 0 0 1 0 + H 1 0 0 1 1)) + ((H 1 0 1 0 0 + H 1 0 1 0 1) + (H 1 0 1 1 0 + H 1 0 1 1 1))) + (((H 1 1 0 0 0 + H 1 1 0 0 1) + (H 1 1 0 1 0 + H 1 1 0 1 1)) + ((H 1 1 1 0 0 + H 1 1 1 0 1) + (H 1 1 1 1 0 + H 1 1 1 1 1))))) := by
    rw [hH]
    rfl
  rw [t]
  show 0 + (fun M => F (pcN 5 M) (pth L k n g0 r0 M 5)) 0 + (fun M => F (pcN 5 M) (pth L k n g0 r0 M 5)) 1 + (fun M => F (pcN 5 M) (pth L k n g0 r0 M 5)) 2 + (fun M => F (pcN 5 M) (pth L k n g0 r0 M 5)) 3 + (fun M => F (pcN 5 M) (pth L k n g0 r0 M 5)) 4 + (fun M => F (pcN 5 M) (pth L k n g0 r0 M 5)) 5 + (fun M => F (pcN 5 M) (pth L k n g0 r0 M 5)) 6 + (fun M => F (pcN 5 M) (pth L k n g0 r0 M 5)) 7 + (fun M => F (pcN 5 M) (pth L k n g0 r0 M 5)) 8 + (fun M => F (pcN 5 M) (pth L k n g0 r0 M 5)) 9 + (fun M => F (pcN 5 M) (pth L k n g0 r0 M 5)) 10 + (fun M => F (pcN 5 M) (pth L k n g0 r0 M 5)) 11 + (fun M => F (pcN 5 M) (pth L k n g0 r0 M 5)) 12 + (fun M => F (pcN 5 M) (pth L k n g0 r0 M 5)) 13 + (fun M => F (pcN 5 M) (pth L k n g0 r0 M 5)) 14 + (fun M => F (pcN 5 M) (pth L k n g0 r0 M 5)) 15 + (fun M => F (pcN 5 M) (pth L k n g0 r0 M 5)) 16 + (fun M => F (pcN 5 M) (pth L k n g0 r0 M 5)) 17 + (fun M => F (pcN 5 M) (pth L k n g0 r0 M 5)) 18 + (fun M => F (pcN 5 M) (pth L k n g0 r0 M 5)) 19 + (fun M => F (pcN 5 M) (pth L k n g0 r0 M 5)) 20 + (fun M => F (pcN 5 M) (pth L k n g0 r0 M 5)) 21 + (fun M => F (pcN 5 M) (pth L k n g0 r0 M 5)) 22 + (fun M => F (pcN 5 M) (pth L k n g0 r0 M 5)) 23 + (fun M => F (pcN 5 M) (pth L k n g0 r0 M 5)) 24 + (fun M => F (pcN 5 M) (pth L k n g0 r0 M 5)) 25 + (fun M => F (pcN 5 M) (pth L k n g0 r0 M 5)) 26 + (fun M => F (pcN 5 M) (pth L k n g0 r0 M 5)) 27 + (fun M => F (pcN 5 M) (pth L k n g0 r0 M 5)) 28 + (fun M => F (pcN 5 M) (pth L k n g0 r0 M 5)) 29 + (fun M => F (pcN 5 M) (pth L k n g0 r0 M 5)) 30 + (fun M => F (pcN 5 M) (pth L k n g0 r0 M 5)) 31 = _
  rw [p0, p1, p2, p3, p4, p5, p6, p7, p8, p9, p10, p11, p12, p13, p14, p15, p16, p17, p18, p19, p20, p21, p22, p23, p24, p25, p26, p27, p28, p29, p30, p31]
  omega
