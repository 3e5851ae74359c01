/-! THE LAW: its loop -/
theorem lw_gt {k L : Nat} (h : L ≤ k + 5) (hL : L ≤ 384) (hk : k ≤ 384) : Int32.ofNat L - 6 < nI k := by
  show nI L - 6 < nI k
  rw [Int32.lt_iff_toInt_lt, nI_toInt (by omega)]
  by_cases z : 6 ≤ L
  · rw [show (6 : Int32) = nI 6 from rfl, nI_subE z, nI_toInt (by omega)]
    omega
  · have : (nI L - 6).toInt < 0 := by
      match L, z with
      | 0, _ => decide
      | 1, _ => decide
      | 2, _ => decide
      | 3, _ => decide
      | 4, _ => decide
      | 5, _ => decide
      | n + 6, z => exact absurd (by omega) z
    omega
theorem lw_ng {k L : Nat} (h : k + 6 ≤ L) (hL : L ≤ 384) : ¬ Int32.ofNat L - 6 < nI k := by
  show ¬ nI L - 6 < nI k
  rw [Int32.lt_iff_toInt_lt, nI_toInt (by omega), show (6 : Int32) = nI 6 from rfl, nI_subE (by omega), nI_toInt (by omega)]
  omega
section LAWL
variable {p : Program} {l : Launch} {e : Env} {s : State} {m : MethodId} {below : List Frame} {meth : Method} {c : Code} {b L : Nat} {xs : Nat → Int32} {G : GE}
set_option maxHeartbeats 8000000 in
set_option maxRecDepth 100000 in
theorem law_loop (C0 : lw_At p s m meth c b L xs) (hF : WF G s) (hg : gB G = s.heap.size) (hL : L ≤ 384) : ∀ (u k : Nat) (cells slots : Nat) (B : Nat → Nat → Nat) (E : EN) (S : ST) (H : Heap) (locs : List Loc) (ls : Array Slot), L ≤ k + 6 * u + 5 → k ≤ 384 → cells + 24 * u ≤ 600000 → slots + 166 * u ≤ 7302250 → LQ G s b B E S k H locs ls →
    W p l e room_1 s m #[Value.ref b] below meth c H locs cells slots (lw_Z below #[Value.ref b] s) (F0 m 18 ls []) := by
  obtain ⟨hx, hb, hr, hml, hown, hts, hX, hbl, hlocks, hgv⟩ := id C0
  have hb : c.code = cL_law := hb
  have hbA : ¬ AA G b := by
    show ¬ gB G ≤ b
    omega
  have out : ∀ (k cells slots : Nat) (B : Nat → Nat → Nat) (E : EN) (S : ST) (H : Heap) (locs : List Loc) (ls : Array Slot), L ≤ k + 5 → k ≤ 384 → cells ≤ 600000 → slots ≤ 7302250 → LQ G s b B E S k H locs ls → W p l e room_1 s m #[Value.ref b] below meth c H locs cells slots (lw_Z below #[Value.ref b] s) (F0 m 18 ls []) := by
    intro k cells slots B E S H locs ls hk hk3 hc hs hq
    obtain ⟨hN, hE1, hR, hW, hS, hl⟩ := hq
    refine lv_iload_n hx hb dL_law_18 rfl (lv_at hl 0 rfl) ?_
    refine lv_aload_n hx hb dL_law_19 rfl (lv_at hl 1 rfl) ?_
    refine va_slen hx hb hX hbl hbA hS dL_law_20 ?_
    refine lv_bipush (v := 6) hx hb dL_law_21 (by decide) ?_
    refine lv_isub hx hb dL_law_23 ?_
    refine lv_icmp_gt (tgt := 1083) hx hb dL_law_24 (by decide) (fun _ => ?_) (fun h => absurd (lw_gt (by omega) hL hk3) h)
    refine lv_iconst (v := 1) hx hb dL_law_1083 rfl ?_
    refine W.widen (k := 600000) (n := 7302250) hc hs ?_
    refine va_forget (fun q hq => by have := hS.2.2 q hq; have this : gB G ≤ q.base := this; omega) ?_
    exact lw_ret hx hb hr hlocks dL_law_1084
  intro u
  induction u with
  | zero =>
    intro k cells slots B E S H locs ls hk hk3 hc hs hq
    exact out k cells slots B E S H locs ls (by omega) hk3 (by omega) (by omega) hq
  | succ u ih =>
    intro k cells slots B E S H locs ls hk hk3 hc hs hq
    by_cases hlt : k + 6 ≤ L
    rotate_left
    · exact out k cells slots B E S H locs ls (by omega) hk3 (by omega) (by omega) hq
    have hk : k + 6 ≤ L := hlt
    obtain ⟨hN, hE1, hR, hW, hS, hl⟩ := id hq
    have KK : ∀ (B2 : Nat → Nat → Nat) (E2 : EN) (S2 : ST) (H2 : Heap) (locs2 : List Loc) (ls2 : Array Slot), LQ G s b B2 E2 S2 k H2 locs2 ls2 → W p l e room_1 s m #[Value.ref b] below meth c H2 locs2 (cells + 24) (slots + 166) (lw_Z below #[Value.ref b] s) (F0 m 1077 ls2 []) := by
      intro B2 E2 S2 H2 locs2 ls2 hq2
      obtain ⟨hN, hE1, hR, hW, hS, hl⟩ := hq2
      refine lv_iinc (v := nI (k + 6)) (lv' := [(3, .int (nI (k + 6))), (0, .ref b), (1, .ref (B2 2 0)), (2, .ref (B2 1 0))]) hx hb dL_law_1077 hl (k := 0) rfl (nI_add k 6) (by decide) rfl (fun ls hl => ?_)
      refine lv_goto (tgt := 18) hx hb dL_law_1080 (by decide) ?_
      exact ih (k + 6) (cells + 24) (slots + 166) B2 E2 S2 H2 locs2 ls (by omega) (by omega) (by omega) (by omega) ⟨hN, hE1, hR, hW, hS, hl⟩
    refine lv_iload_n hx hb dL_law_18 rfl (lv_at hl 0 rfl) ?_
    refine lv_aload_n hx hb dL_law_19 rfl (lv_at hl 1 rfl) ?_
    refine va_slen hx hb hX hbl hbA hS dL_law_20 ?_
    refine lv_bipush (v := 6) hx hb dL_law_21 (by decide) ?_
    refine lv_isub hx hb dL_law_23 ?_
    refine lv_icmp_gt (tgt := 1083) hx hb dL_law_24 (by decide) (fun h => absurd h (lw_ng hk hL)) (fun _ => ?_)
    refine lv_aload_n hx hb dL_law_27 rfl (lv_at hl 1 rfl) ?_
    refine lv_iload_n hx hb dL_law_28 rfl (lv_at hl 0 rfl) ?_
    refine va_sld hx hb hX hbl hbA hS (vp_in_iff.mpr (by rw [nI_toInt (by omega)]; omega)) dL_law_29 ?_
    refine lv_bipush (v := 31) hx hb dL_law_30 (by decide) ?_
    refine lv_iand hx hb dL_law_32 ?_
    generalize xs (nI k).toNatClampNeg &&& 31 = z
    by_cases hz : z.toInt < 0 ∨ 24 < z.toInt
    · refine lv_tableOut (tgt := 1077) hx hb dL_law_33 hz (by decide) ?_
      refine W.widen (k := cells + 24) (n := slots + 166) (by omega) (by omega) ?_
      exact KK B E S H locs ls hq
    · obtain ⟨z0, hz0⟩ : ∃ z0 : Nat, z.toInt = (z0 : Int) := ⟨z.toInt.toNat, by omega⟩
      have hz25 : z0 < 25 := by omega
      match z0, hz25, hz0 with
      | 0, _, hz => exact lv_tableIn hx hb dL_law_33 (by rw [hz]; decide) (by rw [hz]; decide) (off := 115) (by rw [hz]; rfl) (tgt := 148) (by decide) (lc_pupil C0 hF hg hq hk hL (by omega) (by omega) KK)
      | 1, _, hz => exact lv_tableIn hx hb dL_law_33 (by rw [hz]; decide) (by rw [hz]; decide) (off := 148) (by rw [hz]; rfl) (tgt := 181) (by decide) (lc_weigh C0 hF hg hq hk hL (by omega) (by omega) KK)
      | 2, _, hz => exact lv_tableIn hx hb dL_law_33 (by rw [hz]; decide) (by rw [hz]; decide) (off := 181) (by rw [hz]; rfl) (tgt := 214) (by decide) (lc_told C0 hF hg hq hk hL (by omega) (by omega) KK)
      | 3, _, hz => exact lv_tableIn hx hb dL_law_33 (by rw [hz]; decide) (by rw [hz]; decide) (off := 214) (by rw [hz]; rfl) (tgt := 247) (by decide) (lc_feed C0 hF hg hq hk hL (by omega) (by omega) KK)
      | 4, _, hz => exact lv_tableIn hx hb dL_law_33 (by rw [hz]; decide) (by rw [hz]; decide) (off := 277) (by rw [hz]; rfl) (tgt := 310) (by decide) (lc_text C0 hF hg hq hk hL (by omega) (by omega) KK)
      | 5, _, hz => exact lv_tableIn hx hb dL_law_33 (by rw [hz]; decide) (by rw [hz]; decide) (off := 290) (by rw [hz]; rfl) (tgt := 323) (by decide) (lc_force C0 hF hg hq hk hL (by omega) (by omega) KK)
      | 6, _, hz => exact lv_tableIn hx hb dL_law_33 (by rw [hz]; decide) (by rw [hz]; decide) (off := 313) (by rw [hz]; rfl) (tgt := 346) (by decide) (lc_says C0 hF hg hq hk hL (by omega) (by omega) KK)
      | 7, _, hz => exact lv_tableIn hx hb dL_law_33 (by rw [hz]; decide) (by rw [hz]; decide) (off := 356) (by rw [hz]; rfl) (tgt := 389) (by decide) (lc_thought C0 hF hg hq hk hL (by omega) (by omega) KK)
      | 8, _, hz => exact lv_tableIn hx hb dL_law_33 (by rw [hz]; decide) (by rw [hz]; decide) (off := 410) (by rw [hz]; rfl) (tgt := 443) (by decide) (lc_moves C0 hF hg hq hk hL (by omega) (by omega) KK)
      | 9, _, hz => exact lv_tableIn hx hb dL_law_33 (by rw [hz]; decide) (by rw [hz]; decide) (off := 453) (by rw [hz]; rfl) (tgt := 486) (by decide) (lc_likely C0 hF hg hq hk hL (by omega) (by omega) KK)
      | 10, _, hz => exact lv_tableIn hx hb dL_law_33 (by rw [hz]; decide) (by rw [hz]; decide) (off := 497) (by rw [hz]; rfl) (tgt := 530) (by decide) (lc_mean C0 hF hg hq hk hL (by omega) (by omega) KK)
      | 11, _, hz => exact lv_tableIn hx hb dL_law_33 (by rw [hz]; decide) (by rw [hz]; decide) (off := 531) (by rw [hz]; rfl) (tgt := 564) (by decide) (lc_off C0 hF hg hq hk hL (by omega) (by omega) KK)
      | 12, _, hz => exact lv_tableIn hx hb dL_law_33 (by rw [hz]; decide) (by rw [hz]; decide) (off := 575) (by rw [hz]; rfl) (tgt := 608) (by decide) (lc_rule C0 hF hg hq hk hL (by omega) (by omega) KK)
      | 13, _, hz => exact lv_tableIn hx hb dL_law_33 (by rw [hz]; decide) (by rw [hz]; decide) (off := 608) (by rw [hz]; rfl) (tgt := 641) (by decide) (lc_room C0 hF hg hq hk hL (by omega) (by omega) KK)
      | 14, _, hz => exact lv_tableIn hx hb dL_law_33 (by rw [hz]; decide) (by rw [hz]; decide) (off := 651) (by rw [hz]; rfl) (tgt := 684) (by decide) (lc_summer C0 hF hg hq hk hL (by omega) (by omega) KK)
      | 15, _, hz => exact lv_tableIn hx hb dL_law_33 (by rw [hz]; decide) (by rw [hz]; decide) (off := 684) (by rw [hz]; rfl) (tgt := 717) (by decide) (lc_test C0 hF hg hq hk hL (by omega) (by omega) KK)
      | 16, _, hz => exact lv_tableIn hx hb dL_law_33 (by rw [hz]; decide) (by rw [hz]; decide) (off := 717) (by rw [hz]; rfl) (tgt := 750) (by decide) (lc_cut C0 hF hg hq hk hL (by omega) (by omega) KK)
      | 17, _, hz => exact lv_tableIn hx hb dL_law_33 (by rw [hz]; decide) (by rw [hz]; decide) (off := 760) (by rw [hz]; rfl) (tgt := 793) (by decide) (lc_image C0 hF hg hq hk hL (by omega) (by omega) KK)
      | 18, _, hz => exact lv_tableIn hx hb dL_law_33 (by rw [hz]; decide) (by rw [hz]; decide) (off := 773) (by rw [hz]; rfl) (tgt := 806) (by decide) (lc_back C0 hF hg hq hk hL (by omega) (by omega) KK)
      | 19, _, hz => exact lv_tableIn hx hb dL_law_33 (by rw [hz]; decide) (by rw [hz]; decide) (off := 786) (by rw [hz]; rfl) (tgt := 819) (by decide) (lc_count C0 hF hg hq hk hL (by omega) (by omega) KK)
      | 20, _, hz => exact lv_tableIn hx hb dL_law_33 (by rw [hz]; decide) (by rw [hz]; decide) (off := 809) (by rw [hz]; rfl) (tgt := 842) (by decide) (lc_sheet C0 hF hg hq hk hL (by omega) (by omega) KK)
      | 21, _, hz => exact lv_tableIn hx hb dL_law_33 (by rw [hz]; decide) (by rw [hz]; decide) (off := 852) (by rw [hz]; rfl) (tgt := 885) (by decide) (lc_cell C0 hF hg hq hk hL (by omega) (by omega) KK)
      | 22, _, hz => exact lv_tableIn hx hb dL_law_33 (by rw [hz]; decide) (by rw [hz]; decide) (off := 895) (by rw [hz]; rfl) (tgt := 928) (by decide) (lc_copy C0 hF hg hq hk hL (by omega) (by omega) KK)
      | 23, _, hz => exact lv_tableIn hx hb dL_law_33 (by rw [hz]; decide) (by rw [hz]; decide) (off := 958) (by rw [hz]; rfl) (tgt := 991) (by decide) (lc_pupils C0 hF hg hq hk hL (by omega) (by omega) KK)
      | 24, _, hz => exact lv_tableIn hx hb dL_law_33 (by rw [hz]; decide) (by rw [hz]; decide) (off := 1011) (by rw [hz]; rfl) (tgt := 1044) (by decide) (lc_taken C0 hF hg hq hk hL (by omega) (by omega) KK)
      | n + 25, h25, _ => exact absurd h25 (by omega)
end LAWL
