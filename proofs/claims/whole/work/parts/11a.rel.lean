/-! PURE PART: all relations together, call by call -/
/-- what holds of both objects between two calls -/
def REL (E : EN) (S : ST) : Prop := RP E S ∧ RS S ∧ RI E S ∧ RT S ∧ RR E S ∧ RC E S ∧ ∃ t, RU E S t
theorem RU.keep {E : EN} {S S1 : ST} {t : Nat} (h : RU E S t) (a : Ag [(2, 5), (1, 8)] S S1) : RU E S1 t := ⟨h.1, (a.I rfl).trans h.2.1, (a.I rfl).trans h.2.2⟩
section RLS
variable {E : EN} {S : ST}
theorem j_weigh (hN : 20300 ≤ E.1) (h : REL E S) (a : Int32) (b : Int32) : ∃ (r : Int32) (S1 S2 : ST), f_X6_weigh E S a b = some (r, S1) ∧ f_X7_weigh E S1 a b = some (r, S2) ∧ REL E S2 := by
  obtain ⟨hP, hS, hI, hT, hR, hC, t, hU⟩ := id h
  obtain ⟨r, S1, S2, e1, e2, q⟩ := k_weigh (E := E) (by omega) hP a b
  have F : Fm (ww_X6_weigh ++ ww_X7_weigh) S S2 := ((fr_X6_weigh _ _ _ _ _ _ e1).mono rfl).trans ((fr_X7_weigh _ _ _ _ _ _ e2).mono rfl)
  exact ⟨r, S1, S2, e1, e2, q, hS.keep (F.ag rfl), hI.keep (F.ag rfl), hT.keep (F.ag rfl), hR.keep (F.ag rfl), hC.keep (F.ag rfl), t, hU.keep (F.ag rfl)⟩
theorem j_told (hN : 20300 ≤ E.1) (h : REL E S) (a : Int32) (b : Int32) : ∃ r : Int32, f_X6_told E S a b = some r ∧ f_X7_told E S a b = some r := by
  obtain ⟨hP, hS, hI, hT, hR, hC, t, hU⟩ := id h
  exact s_told hP a b
theorem j_feed (hN : 20300 ≤ E.1) (h : REL E S) (a : Int32) (v : Int64) : ∃ (r : Int32) (S1 S2 : ST), f_X6_feed E S a v = some (r, S1) ∧ f_X7_feed E S1 a v = some (r, S2) ∧ REL E S2 := by
  obtain ⟨hP, hS, hI, hT, hR, hC, t, hU⟩ := id h
  obtain ⟨r, S1, S2, e1, e2, F, q⟩ := k_feed (E := E) (by omega) hT a v
  exact ⟨r, S1, S2, e1, e2, hP.keep (F.ag rfl), hS.keep (F.ag rfl), hI.keep (F.ag rfl), q, hR.keep (F.ag rfl), hC.keep (F.ag rfl), t, hU.keep (F.ag rfl)⟩
theorem j_force (hN : 20300 ≤ E.1) (h : REL E S) (a : Int32) : ∃ (r : Int32) (S1 S2 : ST), f_X6_force E S a = some (r, S1) ∧ f_X7_force E S1 a = some (r, S2) ∧ REL E S2 := by
  obtain ⟨hP, hS, hI, hT, hR, hC, t, hU⟩ := id h
  obtain ⟨r, S1, S2, e1, e2, F, rl, q1, q2, q3⟩ := k_force (E := E) hR.2.2.1 hR.2.2.2.1 hU.2.1 hU.2.2 hR.2.1 hU.1 a
  exact ⟨r, S1, S2, e1, e2, hP.keep (F.ag rfl), hS.keep (F.ag rfl), hI.keep (F.ag rfl), hT.keep (F.ag rfl), hR.keep (F.ag rfl), hC.keep (F.ag rfl), rl, q1, q2, q3⟩
theorem j_says (hN : 20300 ≤ E.1) (h : REL E S) (a : Int32) (b : Int32) (c : Int32) : ∃ (r : Int32) (S1 S2 : ST), f_X6_says E S a b c = some (r, S1) ∧ f_X7_says E S1 a b c = some (r, S2) ∧ REL E S2 := by
  obtain ⟨hP, hS, hI, hT, hR, hC, t, hU⟩ := id h
  obtain ⟨r, S1, S2, e1, e2, F, q⟩ := k_says (E := E) (by omega) hR hU hC a b c
  exact ⟨r, S1, S2, e1, e2, hP.keep (F.ag rfl), hS.keep (F.ag rfl), hI.keep (F.ag rfl), hT.keep (F.ag rfl), hR.keep (F.ag rfl), q, t, hU.keep (F.ag rfl)⟩
theorem j_thought (hN : 20300 ≤ E.1) (h : REL E S) (a : Int32) (b : Int32) (c : Int32) (d : Int32) : ∃ (r : Int64) (S1 S2 : ST), f_X6_thought E S a b c d = some (r, S1) ∧ f_X7_thought E S1 a b c d = some (r, S2) ∧ REL E S2 := by
  obtain ⟨hP, hS, hI, hT, hR, hC, t, hU⟩ := id h
  obtain ⟨r, S1, S2, e1, e2, F, q⟩ := k_thought (E := E) (by omega) hP hR hU hC a b c d
  exact ⟨r, S1, S2, e1, e2, hP.keep (F.ag rfl), hS.keep (F.ag rfl), hI.keep (F.ag rfl), hT.keep (F.ag rfl), hR.keep (F.ag rfl), q, t, hU.keep (F.ag rfl)⟩
theorem j_moves (hN : 20300 ≤ E.1) (h : REL E S) (a : Int32) (b : Int32) (c : Int32) : ∃ (r : Int32) (S1 S2 : ST), f_X6_moves E S a b c = some (r, S1) ∧ f_X7_moves E S1 a b c = some (r, S2) ∧ REL E S2 := by
  obtain ⟨hP, hS, hI, hT, hR, hC, t, hU⟩ := id h
  obtain ⟨r, S1, S2, e1, e2, F, q⟩ := k_moves (E := E) (by omega) hP hR hU hC a b c
  exact ⟨r, S1, S2, e1, e2, hP.keep (F.ag rfl), hS.keep (F.ag rfl), hI.keep (F.ag rfl), hT.keep (F.ag rfl), hR.keep (F.ag rfl), q, t, hU.keep (F.ag rfl)⟩
theorem j_likely (hN : 20300 ≤ E.1) (h : REL E S) (a : Int32) (b : Int32) (c : Int32) : ∃ (r : Int64) (S1 S2 : ST), f_X6_likely E S a b c = some (r, S1) ∧ f_X7_likely E S1 a b c = some (r, S2) ∧ REL E S2 := by
  obtain ⟨hP, hS, hI, hT, hR, hC, t, hU⟩ := id h
  obtain ⟨r, S1, S2, e1, e2, F, q⟩ := k_likely (E := E) (by omega) hP hR hU hC a b c
  exact ⟨r, S1, S2, e1, e2, hP.keep (F.ag rfl), hS.keep (F.ag rfl), hI.keep (F.ag rfl), hT.keep (F.ag rfl), hR.keep (F.ag rfl), q, t, hU.keep (F.ag rfl)⟩
theorem j_mean (hN : 20300 ≤ E.1) (h : REL E S) (a : Int32) (b : Int32) : ∃ (r : Int64) (S1 S2 : ST), f_X6_mean E S a b = some (r, S1) ∧ f_X7_mean E S1 a b = some (r, S2) ∧ REL E S2 := by
  obtain ⟨hP, hS, hI, hT, hR, hC, t, hU⟩ := id h
  obtain ⟨r, S1, S2, e1, e2, F, q⟩ := k_mean (E := E) (by omega) hP hR hU hC a b
  exact ⟨r, S1, S2, e1, e2, hP.keep (F.ag rfl), hS.keep (F.ag rfl), hI.keep (F.ag rfl), hT.keep (F.ag rfl), hR.keep (F.ag rfl), q, t, hU.keep (F.ag rfl)⟩
theorem j_off (hN : 20300 ≤ E.1) (h : REL E S) (a : Int32) (b : Int32) (c : Int32) : ∃ (r : Int64) (S1 S2 : ST), f_X6_off E S a b c = some (r, S1) ∧ f_X7_off E S1 a b c = some (r, S2) ∧ REL E S2 := by
  obtain ⟨hP, hS, hI, hT, hR, hC, t, hU⟩ := id h
  obtain ⟨r, S1, S2, e1, e2, F, q⟩ := k_off (E := E) (by omega) hP hR hU hC a b c
  exact ⟨r, S1, S2, e1, e2, hP.keep (F.ag rfl), hS.keep (F.ag rfl), hI.keep (F.ag rfl), hT.keep (F.ag rfl), hR.keep (F.ag rfl), q, t, hU.keep (F.ag rfl)⟩
theorem j_rule (hN : 20300 ≤ E.1) (h : REL E S) (a : Int32) (b : Int32) : ∃ (r : Int32) (S1 S2 : ST), f_X6_rule E S a b = some (r, S1) ∧ f_X7_rule E S1 a b = some (r, S2) ∧ REL E S2 := by
  obtain ⟨hP, hS, hI, hT, hR, hC, t, hU⟩ := id h
  obtain ⟨r, S1, S2, e1, e2, F, q⟩ := k_rule (E := E) (by omega) hP hR hU hC a b
  exact ⟨r, S1, S2, e1, e2, hP.keep (F.ag rfl), hS.keep (F.ag rfl), hI.keep (F.ag rfl), hT.keep (F.ag rfl), hR.keep (F.ag rfl), q, t, hU.keep (F.ag rfl)⟩
theorem j_room (hN : 20300 ≤ E.1) (h : REL E S) (a : Int32) (b : Int32) (c : Int32) : ∃ (r : Int32) (S1 S2 : ST), f_X6_room E S a b c = some (r, S1) ∧ f_X7_room E S1 a b c = some (r, S2) ∧ REL E S2 := by
  obtain ⟨hP, hS, hI, hT, hR, hC, t, hU⟩ := id h
  obtain ⟨r, S1, S2, e1, e2, F, q⟩ := k_room (E := E) (by omega) hP hS hR hU hC a b c
  exact ⟨r, S1, S2, e1, e2, hP.keep (F.ag rfl), hS.keep (F.ag rfl), hI.keep (F.ag rfl), hT.keep (F.ag rfl), hR.keep (F.ag rfl), q, t, hU.keep (F.ag rfl)⟩
theorem j_summer (hN : 20300 ≤ E.1) (h : REL E S) (a : Int32) (b : Int32) : ∃ (r : Int32) (S1 S2 : ST), f_X6_summer E S a b = some (r, S1) ∧ f_X7_summer E S1 a b = some (r, S2) ∧ REL E S2 := by
  obtain ⟨hP, hS, hI, hT, hR, hC, t, hU⟩ := id h
  obtain ⟨r, S1, S2, e1, e2, F, q⟩ := k_summer (E := E) (by omega) hP a b
  exact ⟨r, S1, S2, e1, e2, q, hS.keep (F.ag rfl), hI.keep (F.ag rfl), hT.keep (F.ag rfl), hR.keep (F.ag rfl), hC.keep (F.ag rfl), t, hU.keep (F.ag rfl)⟩
theorem j_test (hN : 20300 ≤ E.1) (h : REL E S) (a : Int32) (b : Int32) : ∃ (r : Int32) (S1 S2 : ST), f_X6_test E S a b = some (r, S1) ∧ f_X7_test E S1 a b = some (r, S2) ∧ REL E S2 := by
  obtain ⟨hP, hS, hI, hT, hR, hC, t, hU⟩ := id h
  obtain ⟨r, S1, S2, e1, e2, F, q, qc⟩ := k_test (E := E) (by omega) hP hR hU hC a b
  exact ⟨r, S1, S2, e1, e2, q, hS.keep (F.ag rfl), hI.keep (F.ag rfl), hT.keep (F.ag rfl), hR.keep (F.ag rfl), qc, t, hU.keep (F.ag rfl)⟩
theorem j_cut (hN : 20300 ≤ E.1) (h : REL E S) (a : Int32) (b : Int32) (c : Int32) : ∃ r : Int32, f_X6_cut E S a b c = some r ∧ f_X7_cut E S a b c = some r := by
  obtain ⟨hP, hS, hI, hT, hR, hC, t, hU⟩ := id h
  exact s_cut (by omega) hS a b c
theorem j_image (hN : 20300 ≤ E.1) (h : REL E S)  : ∃ (r : Int32) (S1 S2 : ST), f_X6_image E S  = some (r, S1) ∧ f_X7_image E S1  = some (r, S2) ∧ REL E S2 := by
  obtain ⟨hP, hS, hI, hT, hR, hC, t, hU⟩ := id h
  obtain ⟨r, S1, S2, e1, e2, F, q⟩ := k_image (E := E) (by omega) hP hU.1 hU.2.1 hU.2.2
  exact ⟨r, S1, S2, e1, e2, hP.keep (F.ag rfl), hS.keep (F.ag rfl), q, hT.keep (F.ag rfl), hR.keep (F.ag rfl), hC.keep (F.ag rfl), t, hU.keep (F.ag rfl)⟩
theorem j_back (hN : 20300 ≤ E.1) (h : REL E S)  : ∃ (r : Int32) (S1 S2 : ST), f_X6_back E S  = some (r, S1) ∧ f_X7_back E S1  = some (r, S2) ∧ REL E S2 := by
  obtain ⟨hP, hS, hI, hT, hR, hC, t, hU⟩ := id h
  obtain ⟨r, S1, S2, e1, e2, F, q, rl, q1, q2, q3⟩ := k_back (E := E) (by omega) hP hI hU.1 hU.2.1 hU.2.2
  exact ⟨r, S1, S2, e1, e2, q, hS.keep (F.ag rfl), hI.keep (F.ag rfl), hT.keep (F.ag rfl), hR.keep (F.ag rfl), hC.keep (F.ag rfl), rl, q1, q2, q3⟩
theorem j_count (hN : 20300 ≤ E.1) (h : REL E S) (a : Int32) : ∃ r : Int32, f_X6_count E S a = some r ∧ f_X7_count E S a = some r := by
  obtain ⟨hP, hS, hI, hT, hR, hC, t, hU⟩ := id h
  exact s_count (by omega) hP hT hR.2.2.1 hR.2.2.2.1 hU.2.1 hU.2.2 a
theorem j_sheet (hN : 20300 ≤ E.1) (h : REL E S) (a : Int32) (b : Int32) (c : Int32) : ∃ (r : Int32) (S1 S2 : ST), f_X6_sheet E S a b c = some (r, S1) ∧ f_X7_sheet E S1 a b c = some (r, S2) ∧ REL E S2 := by
  obtain ⟨hP, hS, hI, hT, hR, hC, t, hU⟩ := id h
  obtain ⟨r, S1, S2, e1, e2, q⟩ := k_sheet (E := E) (by omega) hS a b c
  have F : Fm (ww_X6_sheet ++ ww_X7_sheet) S S2 := ((fr_X6_sheet _ _ _ _ _ _ _ e1).mono rfl).trans ((fr_X7_sheet _ _ _ _ _ _ _ e2).mono rfl)
  exact ⟨r, S1, S2, e1, e2, hP.keep (F.ag rfl), q, hI.keep (F.ag rfl), hT.keep (F.ag rfl), hR.keep (F.ag rfl), hC.keep (F.ag rfl), t, hU.keep (F.ag rfl)⟩
theorem j_cell (hN : 20300 ≤ E.1) (h : REL E S) (a : Int32) (b : Int32) (c : Int32) : ∃ (r : Int32) (S1 S2 : ST), f_X6_cell E S a b c = some (r, S1) ∧ f_X7_cell E S1 a b c = some (r, S2) ∧ REL E S2 := by
  obtain ⟨hP, hS, hI, hT, hR, hC, t, hU⟩ := id h
  obtain ⟨r, S1, S2, e1, e2, q⟩ := k_cell (E := E) hS a b c
  have F : Fm (ww_X6_cell ++ ww_X7_cell) S S2 := ((fr_X6_cell _ _ _ _ _ _ _ e1).mono rfl).trans ((fr_X7_cell _ _ _ _ _ _ _ e2).mono rfl)
  exact ⟨r, S1, S2, e1, e2, hP.keep (F.ag rfl), q, hI.keep (F.ag rfl), hT.keep (F.ag rfl), hR.keep (F.ag rfl), hC.keep (F.ag rfl), t, hU.keep (F.ag rfl)⟩
theorem j_copy (hN : 20300 ≤ E.1) (h : REL E S) (a : Int32) (b : Int32) (c : Int32) (d : Int32) (e : Int32) : ∃ (r : Int32) (S1 S2 : ST), f_X6_copy E S a b c d e = some (r, S1) ∧ f_X7_copy E S1 a b c d e = some (r, S2) ∧ REL E S2 := by
  obtain ⟨hP, hS, hI, hT, hR, hC, t, hU⟩ := id h
  obtain ⟨r, S1, S2, e1, e2, q⟩ := k_copy (E := E) (by omega) hS a b c d e
  have F : Fm (ww_X6_copy ++ ww_X7_copy) S S2 := ((fr_X6_copy _ _ _ _ _ _ _ _ _ e1).mono rfl).trans ((fr_X7_copy _ _ _ _ _ _ _ _ _ e2).mono rfl)
  exact ⟨r, S1, S2, e1, e2, hP.keep (F.ag rfl), q, hI.keep (F.ag rfl), hT.keep (F.ag rfl), hR.keep (F.ag rfl), hC.keep (F.ag rfl), t, hU.keep (F.ag rfl)⟩
theorem j_taken (hN : 20300 ≤ E.1) (h : REL E S) (a : Int32) (b : Int32) : ∃ r : Int32, f_X6_taken E S a b = some r ∧ f_X7_taken E S a b = some r := by
  obtain ⟨hP, hS, hI, hT, hR, hC, t, hU⟩ := id h
  exact s_taken (by omega) hP a b
end RLS
