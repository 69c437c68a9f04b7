/-! bound, lose, press -/
theorem Gd.bnd {N : Nat → Int32} {R C c t T P D L : Nat} (g : Gd N R C c t T P D L) {k x : Nat} (hk : k < 4) (hx : (if k = 0 then 1 ≤ x ∧ x ≤ 200 else if k = 1 then 1 ≤ x ∧ x ≤ 64 else if k = 2 then x ≤ 14 else x ≤ 3)) : GdE (upd N (2 + k) (nI x)) := by
  obtain ⟨g1, ⟨t1, p1, hD, hL⟩, ⟨n0, n1, n2, n3, n4, n5, n8, n10⟩, hF, hS, hs, hw, hraw, hgr, hpk, hcon, htr⟩ := g
  have e : ∀ q, q ≠ 2 + k → upd N (2 + k) (nI x) q = N q := fun q hq => by simp [upd, hq]
  have e' : upd N (2 + k) (nI x) (2 + k) = nI x := by simp [upd]
  have hF' : ∃ F, F ≤ 9030 ∧ upd N (2 + k) (nI x) 6 = nI F ∧ ∃ z, z ≤ 6 * F ∧ upd N (2 + k) (nI x) 13 = nI z ∧ ∃ y : Nat → Nat, (∀ i, i < t → upd N (2 + k) (nI x) (280 + 6 * i) = nI (y i) ∧ y i < z) ∧ ∀ i j, i < j → j < t → y i < y j := by
    obtain ⟨F, f1, f2, z, f3, f4, y, f5, f6⟩ := hF
    exact ⟨F, f1, by rw [e 6 (by omega)]; exact f2, z, f3, by rw [e 13 (by omega)]; exact f4, y, fun i hi => by rw [e _ (by omega)]; exact f5 i hi, f6⟩
  have rest : (∃ S, S ≤ 5 ∧ upd N (2 + k) (nI x) 7 = nI S) ∧ (∃ s, s < 2 ^ R ∧ upd N (2 + k) (nI x) 14 = nI s) ∧ (∃ w, w ≤ 14 ∧ upd N (2 + k) (nI x) 17 = nI w) ∧
      (∀ q, q < 64 → ∃ x_1, x_1 ≤ 999 ∧ upd N (2 + k) (nI x) (18 + q) = nI x_1) ∧ (∀ q, q < 64 → ∃ x_1, x_1 ≤ 15984 ∧ upd N (2 + k) (nI x) (82 + q) = nI x_1) ∧
      (∀ q, q < 64 → upd N (2 + k) (nI x) (210 + q) = -1 ∨ (q < R * C ∧ (∃ p, p < R * C ∧ upd N (2 + k) (nI x) (210 + q) = nI p) ∧ ∃ x_1, 16 ≤ x_1 ∧ x_1 ≤ 15984 ∧ upd N (2 + k) (nI x) (146 + q) = nI x_1)) ∧
      (∀ i, i < c → ∃ p, p < R * C ∧ upd N (2 + k) (nI x) (274 + i) = nI p ∧ upd N (2 + k) (nI x) (210 + p) = nI p) ∧ (∀ j, j < t → ∃ p, p < R * C ∧ upd N (2 + k) (nI x) (281 + 6 * j) = nI p) := by
    refine ⟨by rw [e 7 (by omega)]; exact hS, by rw [e 14 (by omega)]; exact hs, by rw [e 17 (by omega)]; exact hw, fun q hq => by rw [e _ (by omega)]; exact hraw q hq, fun q hq => by rw [e _ (by omega)]; exact hgr q hq, fun q hq => by rw [e (210 + q) (by omega), e (146 + q) (by omega)]; exact hpk q hq, fun i hi => ?_, fun j hj => by rw [e _ (by omega)]; exact htr j hj⟩
    obtain ⟨p, h1, h2, h3⟩ := hcon i hi
    exact ⟨p, h1, by rw [e _ (by omega)]; exact h2, by rw [e _ (by omega)]; exact h3⟩
  have b0 : upd N (2 + k) (nI x) 0 = nI R := by rw [e 0 (by omega)]; exact n0
  have b1 : upd N (2 + k) (nI x) 1 = nI C := by rw [e 1 (by omega)]; exact n1
  have b8 : upd N (2 + k) (nI x) 8 = nI c := by rw [e 8 (by omega)]; exact n8
  have b10 : upd N (2 + k) (nI x) 10 = nI t := by rw [e 10 (by omega)]; exact n10
  rcases (show k = 0 ∨ k = 1 ∨ k = 2 ∨ k = 3 by omega) with rfl | rfl | rfl | rfl
  · exact ⟨R, C, c, t, x, P, D, L, g1, ⟨by simpa using hx, p1, hD, hL⟩, ⟨b0, b1, e', by rw [e 3 (by omega)]; exact n3, by rw [e 4 (by omega)]; exact n4, by rw [e 5 (by omega)]; exact n5, b8, b10⟩, hF', rest⟩
  · exact ⟨R, C, c, t, T, x, D, L, g1, ⟨t1, by simpa using hx, hD, hL⟩, ⟨b0, b1, by rw [e 2 (by omega)]; exact n2, e', by rw [e 4 (by omega)]; exact n4, by rw [e 5 (by omega)]; exact n5, b8, b10⟩, hF', rest⟩
  · exact ⟨R, C, c, t, T, P, x, L, g1, ⟨t1, p1, by simpa using hx, hL⟩, ⟨b0, b1, by rw [e 2 (by omega)]; exact n2, by rw [e 3 (by omega)]; exact n3, e', by rw [e 5 (by omega)]; exact n5, b8, b10⟩, hF', rest⟩
  · exact ⟨R, C, c, t, T, P, D, x, g1, ⟨t1, p1, hD, by simpa using hx⟩, ⟨b0, b1, by rw [e 2 (by omega)]; exact n2, by rw [e 3 (by omega)]; exact n3, by rw [e 4 (by omega)]; exact n4, e', b8, b10⟩, hF', rest⟩
theorem ec_bnd : ∀ k, k < 4 → ec (2 + k) = 1 ∧ ep (2 + k) = k := by decide
theorem step_bound {M : Mm} (hI : Inv M) (w v : Int32) : StepI kX6_bound kX7_bound [.int w, .int v] M := by
  obtain ⟨⟨hR, R, C, cc, t, T, P, D, L, g⟩, -⟩ := id hI
  obtain ⟨⟨⟨r1, r2⟩, ⟨c1, c2⟩, hcc, htt⟩, ⟨⟨t1, t2⟩, ⟨p1, p2⟩, hD, hL⟩, ⟨n0, n1, n2, n3, n4, n5, n8, n10⟩, hF, hSt, hs, hw, hraw, hgr, hpk, hcon, htr⟩ := id g
  have e30 : M.1 3 0 = nI R := (hR.lo (k := 0) (by omega)).trans n0
  have e31 : M.1 3 1 = nI C := (hR.lo (k := 1) (by omega)).trans n1
  have e81 : M.1 8 1 = nI cc := (hR.lo (k := 8) (by omega)).trans n8
  have e105 : M.1 10 5 = nI t := (hR.lo (k := 10) (by omega)).trans n10
  by_cases hw : 0 ≤ w ∧ w ≤ 3
  · obtain ⟨k, -, hk, rfl⟩ := in_nI (a := 0) (b := 3) (by omega) (by omega) hw.1 hw.2
    have hcl : (nI k).toNatClampNeg = k := nI_clamp (by omega)
    have hv4 : vp_in (nI k) 4 := vpn (by omega) (by decide)
    have hcl2 : (nI (2 + k)).toNatClampNeg = 2 + k := nI_clamp (by omega)
    have hv5 : vp_in (nI (2 + k)) 316 := vpn (by omega) (by decide)
    have rdk : M.1 2 k = M.1 52 (2 + k) := by
      have := hR.lo (k := 2 + k) (by omega)
      rwa [(ec_bnd k (by omega)).1, (ec_bnd k (by omega)).2] at this
    by_cases hv : lbv k ≤ v ∧ v ≤ mbv k
    · have hx : ∃ x : Nat, v = nI x ∧ (if k = 0 then 1 ≤ x ∧ x ≤ 200 else if k = 1 then 1 ≤ x ∧ x ≤ 64 else if k = 2 then x ≤ 14 else x ≤ 3) := by
        rcases (show k = 0 ∨ k = 1 ∨ k = 2 ∨ k = 3 by omega) with rfl | rfl | rfl | rfl
        · obtain ⟨x, a1, a2, rfl⟩ := in_nI (a := 1) (b := 200) (by omega) (by omega) hv.1 hv.2
          exact ⟨x, rfl, by simp; omega⟩
        · obtain ⟨x, a1, a2, rfl⟩ := in_nI (a := 1) (b := 64) (by omega) (by omega) hv.1 hv.2
          exact ⟨x, rfl, by simp; omega⟩
        · obtain ⟨x, a1, a2, rfl⟩ := in_nI (a := 0) (b := 14) (by omega) (by omega) hv.1 hv.2
          exact ⟨x, rfl, by simp; omega⟩
        · obtain ⟨x, a1, a2, rfl⟩ := in_nI (a := 0) (b := 3) (by omega) (by omega) hv.1 hv.2
          exact ⟨x, rfl, by simp; omega⟩
      obtain ⟨x, rfl, hx⟩ := hx
      refine combI hI qX6_bound qX7_bound (upd (M.1 52) (2 + k) (nI x)) (M.1 52 (2 + k)) (g.bnd (by omega) hx) (fun Q h => ?_) (fun M1 Q hM h => ?_)
      · simp only [eX6_bound_0, eX6_bound_1, eX6_bound_2, eX6_bound_3, eX6_bound_6, eX6_bound_9, eX6_bound_10, eX6_bound_13, eX6_bound_14, eX6_bound_15, eX6_bound_18, eX6_bound_19, eX6_bound_20, eX6_bound_23, eX6_bound_26, eX6_bound_28, eX6_bound_29, eX6_bound_30, eX6_bound_33, eX6_bound_36, eX6_bound_37, eX6_bound_38, eX6_bound_39, eX6_bound_40, eX6_bound_43, eX6_bound_46, eX6_bound_47, eX6_bound_48, eX6_bound_49, eX6_bound_50, eX6_bound_in, q_within, hw, hcl, hv4, hv, rdk, Option.toList_some, Option.toList_none, List.cons_append, List.nil_append, b2_0, Classical.not_not, false_implies, true_implies, implies_true, true_and, and_true, not_true_eq_false, not_false_eq_true]
        exact h _ (FrC.rf.set (by omega)) (hR.put (by rw [(ec_bnd k (by omega)).1]) (by rw [(ec_bnd k (by omega)).2]) (by omega) (by omega))
      · simp only [eX7_bound_0, eX7_bound_1, eX7_bound_2, eX7_bound_5, eX7_bound_6, eX7_bound_9, eX7_bound_10, eX7_bound_11, eX7_bound_12, eX7_bound_15, eX7_bound_18, eX7_bound_21, eX7_bound_22, eX7_bound_23, eX7_bound_26, eX7_bound_28, eX7_bound_31, eX7_bound_32, eX7_bound_33, eX7_bound_36, eX7_bound_38, eX7_bound_41, eX7_bound_42, eX7_bound_44, eX7_bound_45, eX7_bound_46, eX7_bound_47, eX7_bound_50, eX7_bound_53, eX7_bound_54, eX7_bound_55, eX7_bound_57, eX7_bound_60, eX7_bound_63, eX7_bound_65, eX7_bound_66, eX7_bound_67, eX7_bound_70, eX7_bound_71, eX7_bound_72, eX7_bound_73, eX7_bound_74, eX7_bound_76, eX7_bound_77, eX7_bound_80, eX7_bound_81, eX7_bound_82, eX7_bound_83, eX7_bound_84, eX7_bound_85, eX7_bound_87, eX7_bound_in, q_in, hw, hM, a2, hcl2, hv5, Option.toList_some, Option.toList_none, List.cons_append, List.nil_append, b2_0, Classical.not_not, false_implies, true_implies, implies_true, true_and, and_true, not_true_eq_false, not_false_eq_true]
        have hf := h _ (FrM.rf.set (a := 52) (p := 2 + k) (v := nI x) (by omega)) (by rw [setI_at, hM])
        rcases (show k = 0 ∨ k = 1 ∨ k = 2 ∨ k = 3 by omega) with rfl | rfl | rfl | rfl
        · have q : 1 ≤ nI x ∧ nI x ≤ 200 := hv
          simp (decide := true) [q, nI] at hf ⊢
          trace_state
          sorry
        · sorry
        · sorry
        · sorry
    · refine combN hI qX6_bound qX7_bound (-1000000002) (fun Q h => ?_) (fun M1 Q hM h => ?_)
      · simp only [eX6_bound_0, eX6_bound_1, eX6_bound_2, eX6_bound_3, eX6_bound_6, eX6_bound_9, eX6_bound_10, eX6_bound_13, eX6_bound_14, eX6_bound_15, eX6_bound_18, eX6_bound_19, eX6_bound_20, eX6_bound_23, eX6_bound_26, eX6_bound_28, eX6_bound_29, eX6_bound_30, eX6_bound_33, eX6_bound_36, eX6_bound_37, eX6_bound_38, eX6_bound_39, eX6_bound_40, eX6_bound_43, eX6_bound_46, eX6_bound_47, eX6_bound_48, eX6_bound_49, eX6_bound_50, eX6_bound_in, q_within, hw, hcl, hv4, hv, rdk, Option.toList_some, Option.toList_none, List.cons_append, List.nil_append, b2_0, Classical.not_not, false_implies, true_implies, implies_true, true_and, and_true, not_true_eq_false, not_false_eq_true]
        exact h
      · simp only [eX7_bound_0, eX7_bound_1, eX7_bound_2, eX7_bound_5, eX7_bound_6, eX7_bound_9, eX7_bound_10, eX7_bound_11, eX7_bound_12, eX7_bound_15, eX7_bound_18, eX7_bound_21, eX7_bound_22, eX7_bound_23, eX7_bound_26, eX7_bound_28, eX7_bound_31, eX7_bound_32, eX7_bound_33, eX7_bound_36, eX7_bound_38, eX7_bound_41, eX7_bound_42, eX7_bound_44, eX7_bound_45, eX7_bound_46, eX7_bound_47, eX7_bound_50, eX7_bound_53, eX7_bound_54, eX7_bound_55, eX7_bound_57, eX7_bound_60, eX7_bound_63, eX7_bound_65, eX7_bound_66, eX7_bound_67, eX7_bound_70, eX7_bound_71, eX7_bound_72, eX7_bound_73, eX7_bound_74, eX7_bound_76, eX7_bound_77, eX7_bound_80, eX7_bound_81, eX7_bound_82, eX7_bound_83, eX7_bound_84, eX7_bound_85, eX7_bound_87, eX7_bound_in, q_in, hw, hM, a2, hcl2, hv5, Option.toList_some, Option.toList_none, List.cons_append, List.nil_append, b2_0, Classical.not_not, false_implies, true_implies, implies_true, true_and, and_true, not_true_eq_false, not_false_eq_true]
        sorry
  · refine combN hI qX6_bound qX7_bound (-1000000002) (fun Q h => ?_) (fun M1 Q hM h => ?_)
    · simp only [eX6_bound_0, eX6_bound_1, eX6_bound_2, eX6_bound_3, eX6_bound_6, eX6_bound_9, eX6_bound_10, eX6_bound_13, eX6_bound_14, eX6_bound_15, eX6_bound_18, eX6_bound_19, eX6_bound_20, eX6_bound_23, eX6_bound_26, eX6_bound_28, eX6_bound_29, eX6_bound_30, eX6_bound_33, eX6_bound_36, eX6_bound_37, eX6_bound_38, eX6_bound_39, eX6_bound_40, eX6_bound_43, eX6_bound_46, eX6_bound_47, eX6_bound_48, eX6_bound_49, eX6_bound_50, eX6_bound_in, q_within, hw, Option.toList_some, Option.toList_none, List.cons_append, List.nil_append, b2_0, Classical.not_not, false_implies, true_implies, implies_true, true_and, and_true, not_true_eq_false, not_false_eq_true]
      exact h
    · simp only [eX7_bound_0, eX7_bound_1, eX7_bound_2, eX7_bound_5, eX7_bound_6, eX7_bound_9, eX7_bound_10, eX7_bound_11, eX7_bound_12, eX7_bound_15, eX7_bound_18, eX7_bound_21, eX7_bound_22, eX7_bound_23, eX7_bound_26, eX7_bound_28, eX7_bound_31, eX7_bound_32, eX7_bound_33, eX7_bound_36, eX7_bound_38, eX7_bound_41, eX7_bound_42, eX7_bound_44, eX7_bound_45, eX7_bound_46, eX7_bound_47, eX7_bound_50, eX7_bound_53, eX7_bound_54, eX7_bound_55, eX7_bound_57, eX7_bound_60, eX7_bound_63, eX7_bound_65, eX7_bound_66, eX7_bound_67, eX7_bound_70, eX7_bound_71, eX7_bound_72, eX7_bound_73, eX7_bound_74, eX7_bound_76, eX7_bound_77, eX7_bound_80, eX7_bound_81, eX7_bound_82, eX7_bound_83, eX7_bound_84, eX7_bound_85, eX7_bound_87, eX7_bound_in, q_in, hw, Option.toList_some, Option.toList_none, List.cons_append, List.nil_append, b2_0, Classical.not_not, false_implies, true_implies, implies_true, true_and, and_true, not_true_eq_false, not_false_eq_true]
      trace_state
      sorry
