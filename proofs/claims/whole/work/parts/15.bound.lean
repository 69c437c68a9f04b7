/-! bound, lose, press -/
theorem Gd.bnd {N : Nat → Int32} {R C c t T P D L : Nat} (g : Gd N R C c t T P D L) {k x : Nat} (hk : k < 4) (hx : (if k = 0 then 1 ≤ x ∧ x ≤ 200 else if k = 1 then 1 ≤ x ∧ x ≤ 64 else if k = 2 then x ≤ 14 else x ≤ 3)) : GdE (upd N (2 + k) (nI x)) := by
  obtain ⟨g1, ⟨t1, p1, hD, hL⟩, ⟨n0, n1, n2, n3, n4, n5, n8, n10⟩, hF, hS, hs, hw, hraw, hgr, hpk, hcon, htr⟩ := g
  have e : ∀ q, q ≠ 2 + k → upd N (2 + k) (nI x) q = N q := fun q hq => by simp [upd, hq]
  have e' : upd N (2 + k) (nI x) (2 + k) = nI x := by simp [upd]
  have hF' : ∃ F, F ≤ 9030 ∧ upd N (2 + k) (nI x) 6 = nI F ∧ ∃ z, z ≤ 6 * F ∧ upd N (2 + k) (nI x) 13 = nI z ∧ ∃ y : Nat → Nat, (∀ i, i < t → upd N (2 + k) (nI x) (280 + 6 * i) = nI (y i) ∧ y i < z) ∧ ∀ i j, i < j → j < t → y i < y j := by
    obtain ⟨F, f1, f2, z, f3, f4, y, f5, f6⟩ := hF
    exact ⟨F, f1, by rw [e 6 (by omega)]; exact f2, z, f3, by rw [e 13 (by omega)]; exact f4, y, fun i hi => by rw [e _ (by omega)]; exact f5 i hi, f6⟩
  have rest : (∃ S, S ≤ 5 ∧ upd N (2 + k) (nI x) 7 = nI S) ∧ (∃ s, s < 2 ^ R ∧ upd N (2 + k) (nI x) 14 = nI s) ∧ (∃ w, w ≤ 14 ∧ upd N (2 + k) (nI x) 17 = nI w) ∧
      (∀ q, q < 64 → ∃ x_1, x_1 ≤ 999 ∧ upd N (2 + k) (nI x) (18 + q) = nI x_1) ∧ (∀ q, q < 64 → ∃ x_1, x_1 ≤ 15984 ∧ upd N (2 + k) (nI x) (82 + q) = nI x_1) ∧
      (∀ q, q < 64 → upd N (2 + k) (nI x) (210 + q) = -1 ∨ (q < R * C ∧ (∃ p, p < R * C ∧ upd N (2 + k) (nI x) (210 + q) = nI p) ∧ ∃ x_1, 16 ≤ x_1 ∧ x_1 ≤ 15984 ∧ upd N (2 + k) (nI x) (146 + q) = nI x_1)) ∧
      (∀ i, i < c → ∃ p, p < R * C ∧ upd N (2 + k) (nI x) (274 + i) = nI p ∧ upd N (2 + k) (nI x) (210 + p) = nI p) ∧ (∀ j, j < t → ∃ p, p < R * C ∧ upd N (2 + k) (nI x) (281 + 6 * j) = nI p) := by
    refine ⟨by rw [e 7 (by omega)]; exact hS, by rw [e 14 (by omega)]; exact hs, by rw [e 17 (by omega)]; exact hw, fun q hq => by rw [e _ (by omega)]; exact hraw q hq, fun q hq => by rw [e _ (by omega)]; exact hgr q hq, fun q hq => by rw [e (210 + q) (by omega), e (146 + q) (by omega)]; exact hpk q hq, fun i hi => ?_, fun j hj => by rw [e _ (by omega)]; exact htr j hj⟩
    obtain ⟨p, h1, h2, h3⟩ := hcon i hi
    exact ⟨p, h1, by rw [e _ (by omega)]; exact h2, by rw [e _ (by omega)]; exact h3⟩
  have b0 : upd N (2 + k) (nI x) 0 = nI R := by rw [e 0 (by omega)]; exact n0
  have b1 : upd N (2 + k) (nI x) 1 = nI C := by rw [e 1 (by omega)]; exact n1
  have b8 : upd N (2 + k) (nI x) 8 = nI c := by rw [e 8 (by omega)]; exact n8
  have b10 : upd N (2 + k) (nI x) 10 = nI t := by rw [e 10 (by omega)]; exact n10
  rcases (show k = 0 ∨ k = 1 ∨ k = 2 ∨ k = 3 by omega) with rfl | rfl | rfl | rfl
  · exact ⟨R, C, c, t, x, P, D, L, g1, ⟨by simpa using hx, p1, hD, hL⟩, ⟨b0, b1, e', by rw [e 3 (by omega)]; exact n3, by rw [e 4 (by omega)]; exact n4, by rw [e 5 (by omega)]; exact n5, b8, b10⟩, hF', rest⟩
  · exact ⟨R, C, c, t, T, x, D, L, g1, ⟨t1, by simpa using hx, hD, hL⟩, ⟨b0, b1, by rw [e 2 (by omega)]; exact n2, e', by rw [e 4 (by omega)]; exact n4, by rw [e 5 (by omega)]; exact n5, b8, b10⟩, hF', rest⟩
  · exact ⟨R, C, c, t, T, P, x, L, g1, ⟨t1, p1, by simpa using hx, hL⟩, ⟨b0, b1, by rw [e 2 (by omega)]; exact n2, by rw [e 3 (by omega)]; exact n3, e', by rw [e 5 (by omega)]; exact n5, b8, b10⟩, hF', rest⟩
  · exact ⟨R, C, c, t, T, P, D, x, g1, ⟨t1, p1, hD, by simpa using hx⟩, ⟨b0, b1, by rw [e 2 (by omega)]; exact n2, by rw [e 3 (by omega)]; exact n3, by rw [e 4 (by omega)]; exact n4, e', b8, b10⟩, hF', rest⟩
theorem ec_bnd : ∀ k, k < 4 → ec (2 + k) = 1 ∧ ep (2 + k) = k := by decide
theorem step_bound {M : Mm} (hI : Inv M) (w v : Int32) : StepI kX6_bound kX7_bound [.int w, .int v] M := by
  obtain ⟨⟨hR, R, C, cc, t, T, P, D, L, g⟩, -⟩ := id hI
  obtain ⟨⟨⟨r1, r2⟩, ⟨c1, c2⟩, hcc, htt⟩, ⟨⟨t1, t2⟩, ⟨p1, p2⟩, hD, hL⟩, ⟨n0, n1, n2, n3, n4, n5, n8, n10⟩, hF, hSt, hs, hw, hraw, hgr, hpk, hcon, htr⟩ := id g
  have e30 : M.1 3 0 = nI R := (hR.lo (k := 0) (by omega)).trans n0
  have e31 : M.1 3 1 = nI C := (hR.lo (k := 1) (by omega)).trans n1
  have e81 : M.1 8 1 = nI cc := (hR.lo (k := 8) (by omega)).trans n8
  have e105 : M.1 10 5 = nI t := (hR.lo (k := 10) (by omega)).trans n10
  by_cases hw : 0 ≤ w ∧ w ≤ 3
  · obtain ⟨k, -, hk, rfl⟩ := in_nI (a := 0) (b := 3) (by omega) (by omega) hw.1 hw.2
    have hcl : (nI k).toNatClampNeg = k := nI_clamp (by omega)
    have hv4 : vp_in (nI k) 4 := vpn (by omega) (by decide)
    have hcl2 : (nI (2 + k)).toNatClampNeg = 2 + k := nI_clamp (by omega)
    have hv5 : vp_in (nI (2 + k)) 316 := vpn (by omega) (by decide)
    have rdk : M.1 2 k = M.1 52 (2 + k) := by
      have := hR.lo (k := 2 + k) (by omega)
      rwa [(ec_bnd k (by omega)).1, (ec_bnd k (by omega)).2] at this
    by_cases hv : lbv k ≤ v ∧ v ≤ mbv k
    · have hx : ∃ x : Nat, v = nI x ∧ (if k = 0 then 1 ≤ x ∧ x ≤ 200 else if k = 1 then 1 ≤ x ∧ x ≤ 64 else if k = 2 then x ≤ 14 else x ≤ 3) := by
        rcases (show k = 0 ∨ k = 1 ∨ k = 2 ∨ k = 3 by omega) with rfl | rfl | rfl | rfl
        · obtain ⟨x, a1, a2, rfl⟩ := in_nI (a := 1) (b := 200) (by omega) (by omega) hv.1 hv.2
          exact ⟨x, rfl, by simp; omega⟩
        · obtain ⟨x, a1, a2, rfl⟩ := in_nI (a := 1) (b := 64) (by omega) (by omega) hv.1 hv.2
          exact ⟨x, rfl, by simp; omega⟩
        · obtain ⟨x, a1, a2, rfl⟩ := in_nI (a := 0) (b := 14) (by omega) (by omega) hv.1 hv.2
          exact ⟨x, rfl, by simp; omega⟩
        · obtain ⟨x, a1, a2, rfl⟩ := in_nI (a := 0) (b := 3) (by omega) (by omega) hv.1 hv.2
          exact ⟨x, rfl, by simp; omega⟩
      obtain ⟨x, rfl, hx⟩ := hx
      refine combI hI qX6_bound qX7_bound (upd (M.1 52) (2 + k) (nI x)) (M.1 52 (2 + k)) (g.bnd (by omega) hx) (fun Q h => ?_) (fun M1 Q hM h => ?_)
      · simp only [eX6_bound_0, eX6_bound_1, eX6_bound_2, eX6_bound_3, eX6_bound_6, eX6_bound_9, eX6_bound_10, eX6_bound_13, eX6_bound_14, eX6_bound_15, eX6_bound_18, eX6_bound_19, eX6_bound_20, eX6_bound_23, eX6_bound_26, eX6_bound_28, eX6_bound_29, eX6_bound_30, eX6_bound_33, eX6_bound_36, eX6_bound_37, eX6_bound_38, eX6_bound_39, eX6_bound_40, eX6_bound_43, eX6_bound_46, eX6_bound_47, eX6_bound_48, eX6_bound_49, eX6_bound_50, eX6_bound_in, q_within, hw, hcl, hv4, hv, rdk, Option.toList_some, Option.toList_none, List.cons_append, List.nil_append, b2_0, Classical.not_not, false_implies, true_implies, implies_true, true_and, and_true, not_true_eq_false, not_false_eq_true]
        exact h _ (FrC.rf.set (by omega)) (hR.put (by rw [(ec_bnd k (by omega)).1]) (by rw [(ec_bnd k (by omega)).2]) (by omega) (by omega))
      · simp only [eX7_bound_0, eX7_bound_1, eX7_bound_2, eX7_bound_5, eX7_bound_6, eX7_bound_9, eX7_bound_10, eX7_bound_11, eX7_bound_12, eX7_bound_15, eX7_bound_18, eX7_bound_21, eX7_bound_22, eX7_bound_23, eX7_bound_26, eX7_bound_28, eX7_bound_31, eX7_bound_32, eX7_bound_33, eX7_bound_36, eX7_bound_38, eX7_bound_41, eX7_bound_42, eX7_bound_44, eX7_bound_45, eX7_bound_46, eX7_bound_47, eX7_bound_50, eX7_bound_53, eX7_bound_54, eX7_bound_55, eX7_bound_57, eX7_bound_60, eX7_bound_63, eX7_bound_65, eX7_bound_66, eX7_bound_67, eX7_bound_70, eX7_bound_71, eX7_bound_72, eX7_bound_73, eX7_bound_74, eX7_bound_76, eX7_bound_77, eX7_bound_80, eX7_bound_81, eX7_bound_82, eX7_bound_83, eX7_bound_84, eX7_bound_85, eX7_bound_87, eX7_bound_in, q_in, hw, hM, a2, hcl2, hv5, Option.toList_some, Option.toList_none, List.cons_append, List.nil_append, b2_0, Classical.not_not, false_implies, true_implies, implies_true, true_and, and_true, not_true_eq_false, not_false_eq_true]
        have hf := h _ (FrM.rf.set (a := 52) (p := 2 + k) (v := nI x) (by omega)) (by rw [setI_at, hM])
        rcases (show k = 0 ∨ k = 1 ∨ k = 2 ∨ k = 3 by omega) with rfl | rfl | rfl | rfl
        · have q : (1 ≤ nI x ∧ nI x ≤ 200) := hv
          have d0 : ((2 : Int32) ≤ nI 0) = False := eq_false (by decide)
          have d1 : (nI 0 = 0) = True := eq_true (by decide)
          have d2 : (nI 0 = 1) = False := eq_false (by decide)
          have d3 : (nI 0 = 2) = False := eq_false (by decide)
          simp only [q, d0, d1, d2, d3, Option.toList_some, Option.toList_none, List.cons_append, List.nil_append, b2_0, Classical.not_not, false_implies, true_implies, implies_true, true_and, and_true, not_true_eq_false, not_false_eq_true]
          exact hf
        · have q : (1 ≤ nI x ∧ nI x ≤ 64) := hv
          have d0 : ((2 : Int32) ≤ nI 1) = False := eq_false (by decide)
          have d1 : (nI 1 = 0) = False := eq_false (by decide)
          have d2 : (nI 1 = 1) = True := eq_true (by decide)
          have d3 : (nI 1 = 2) = False := eq_false (by decide)
          simp only [q, d0, d1, d2, d3, Option.toList_some, Option.toList_none, List.cons_append, List.nil_append, b2_0, Classical.not_not, false_implies, true_implies, implies_true, true_and, and_true, not_true_eq_false, not_false_eq_true]
          exact hf
        · have q : (0 ≤ nI x ∧ nI x ≤ 14) := hv
          have d0 : ((2 : Int32) ≤ nI 2) = True := eq_true (by decide)
          have d1 : (nI 2 = 0) = False := eq_false (by decide)
          have d2 : (nI 2 = 1) = False := eq_false (by decide)
          have d3 : (nI 2 = 2) = True := eq_true (by decide)
          simp only [q, d0, d1, d2, d3, Option.toList_some, Option.toList_none, List.cons_append, List.nil_append, b2_0, Classical.not_not, false_implies, true_implies, implies_true, true_and, and_true, not_true_eq_false, not_false_eq_true]
          exact hf
        · have q : (0 ≤ nI x ∧ nI x ≤ 3) := hv
          have d0 : ((2 : Int32) ≤ nI 3) = True := eq_true (by decide)
          have d1 : (nI 3 = 0) = False := eq_false (by decide)
          have d2 : (nI 3 = 1) = False := eq_false (by decide)
          have d3 : (nI 3 = 2) = False := eq_false (by decide)
          simp only [q, d0, d1, d2, d3, Option.toList_some, Option.toList_none, List.cons_append, List.nil_append, b2_0, Classical.not_not, false_implies, true_implies, implies_true, true_and, and_true, not_true_eq_false, not_false_eq_true]
          exact hf
    · refine combN hI qX6_bound qX7_bound (-1000000002) (fun Q h => ?_) (fun M1 Q hM h => ?_)
      · simp only [eX6_bound_0, eX6_bound_1, eX6_bound_2, eX6_bound_3, eX6_bound_6, eX6_bound_9, eX6_bound_10, eX6_bound_13, eX6_bound_14, eX6_bound_15, eX6_bound_18, eX6_bound_19, eX6_bound_20, eX6_bound_23, eX6_bound_26, eX6_bound_28, eX6_bound_29, eX6_bound_30, eX6_bound_33, eX6_bound_36, eX6_bound_37, eX6_bound_38, eX6_bound_39, eX6_bound_40, eX6_bound_43, eX6_bound_46, eX6_bound_47, eX6_bound_48, eX6_bound_49, eX6_bound_50, eX6_bound_in, q_within, hw, hcl, hv4, hv, rdk, Option.toList_some, Option.toList_none, List.cons_append, List.nil_append, b2_0, Classical.not_not, false_implies, true_implies, implies_true, true_and, and_true, not_true_eq_false, not_false_eq_true]
        exact h
      · simp only [eX7_bound_0, eX7_bound_1, eX7_bound_2, eX7_bound_5, eX7_bound_6, eX7_bound_9, eX7_bound_10, eX7_bound_11, eX7_bound_12, eX7_bound_15, eX7_bound_18, eX7_bound_21, eX7_bound_22, eX7_bound_23, eX7_bound_26, eX7_bound_28, eX7_bound_31, eX7_bound_32, eX7_bound_33, eX7_bound_36, eX7_bound_38, eX7_bound_41, eX7_bound_42, eX7_bound_44, eX7_bound_45, eX7_bound_46, eX7_bound_47, eX7_bound_50, eX7_bound_53, eX7_bound_54, eX7_bound_55, eX7_bound_57, eX7_bound_60, eX7_bound_63, eX7_bound_65, eX7_bound_66, eX7_bound_67, eX7_bound_70, eX7_bound_71, eX7_bound_72, eX7_bound_73, eX7_bound_74, eX7_bound_76, eX7_bound_77, eX7_bound_80, eX7_bound_81, eX7_bound_82, eX7_bound_83, eX7_bound_84, eX7_bound_85, eX7_bound_87, eX7_bound_in, q_in, hw, hM, a2, hcl2, hv5, Option.toList_some, Option.toList_none, List.cons_append, List.nil_append, b2_0, Classical.not_not, false_implies, true_implies, implies_true, true_and, and_true, not_true_eq_false, not_false_eq_true]
        rcases (show k = 0 ∨ k = 1 ∨ k = 2 ∨ k = 3 by omega) with rfl | rfl | rfl | rfl
        · have q : ¬ (1 ≤ v ∧ v ≤ 200) := hv
          have d0 : ((2 : Int32) ≤ nI 0) = False := eq_false (by decide)
          have d1 : (nI 0 = 0) = True := eq_true (by decide)
          have d2 : (nI 0 = 1) = False := eq_false (by decide)
          have d3 : (nI 0 = 2) = False := eq_false (by decide)
          simp only [q, d0, d1, d2, d3, Option.toList_some, Option.toList_none, List.cons_append, List.nil_append, b2_0, Classical.not_not, false_implies, true_implies, implies_true, true_and, and_true, not_true_eq_false, not_false_eq_true]
          exact h
        · have q : ¬ (1 ≤ v ∧ v ≤ 64) := hv
          have d0 : ((2 : Int32) ≤ nI 1) = False := eq_false (by decide)
          have d1 : (nI 1 = 0) = False := eq_false (by decide)
          have d2 : (nI 1 = 1) = True := eq_true (by decide)
          have d3 : (nI 1 = 2) = False := eq_false (by decide)
          simp only [q, d0, d1, d2, d3, Option.toList_some, Option.toList_none, List.cons_append, List.nil_append, b2_0, Classical.not_not, false_implies, true_implies, implies_true, true_and, and_true, not_true_eq_false, not_false_eq_true]
          exact h
        · have q : ¬ (0 ≤ v ∧ v ≤ 14) := hv
          have d0 : ((2 : Int32) ≤ nI 2) = True := eq_true (by decide)
          have d1 : (nI 2 = 0) = False := eq_false (by decide)
          have d2 : (nI 2 = 1) = False := eq_false (by decide)
          have d3 : (nI 2 = 2) = True := eq_true (by decide)
          simp only [q, d0, d1, d2, d3, Option.toList_some, Option.toList_none, List.cons_append, List.nil_append, b2_0, Classical.not_not, false_implies, true_implies, implies_true, true_and, and_true, not_true_eq_false, not_false_eq_true]
          exact h
        · have q : ¬ (0 ≤ v ∧ v ≤ 3) := hv
          have d0 : ((2 : Int32) ≤ nI 3) = True := eq_true (by decide)
          have d1 : (nI 3 = 0) = False := eq_false (by decide)
          have d2 : (nI 3 = 1) = False := eq_false (by decide)
          have d3 : (nI 3 = 2) = False := eq_false (by decide)
          simp only [q, d0, d1, d2, d3, Option.toList_some, Option.toList_none, List.cons_append, List.nil_append, b2_0, Classical.not_not, false_implies, true_implies, implies_true, true_and, and_true, not_true_eq_false, not_false_eq_true]
          exact h
  · refine combN hI qX6_bound qX7_bound (-1000000002) (fun Q h => ?_) (fun M1 Q hM h => ?_)
    · simp only [eX6_bound_0, eX6_bound_1, eX6_bound_2, eX6_bound_3, eX6_bound_6, eX6_bound_9, eX6_bound_10, eX6_bound_13, eX6_bound_14, eX6_bound_15, eX6_bound_18, eX6_bound_19, eX6_bound_20, eX6_bound_23, eX6_bound_26, eX6_bound_28, eX6_bound_29, eX6_bound_30, eX6_bound_33, eX6_bound_36, eX6_bound_37, eX6_bound_38, eX6_bound_39, eX6_bound_40, eX6_bound_43, eX6_bound_46, eX6_bound_47, eX6_bound_48, eX6_bound_49, eX6_bound_50, eX6_bound_in, q_within, hw, Option.toList_some, Option.toList_none, List.cons_append, List.nil_append, b2_0, Classical.not_not, false_implies, true_implies, implies_true, true_and, and_true, not_true_eq_false, not_false_eq_true]
      exact h
    · simp only [eX7_bound_0, eX7_bound_1, eX7_bound_2, eX7_bound_5, eX7_bound_6, eX7_bound_9, eX7_bound_10, eX7_bound_11, eX7_bound_12, eX7_bound_15, eX7_bound_18, eX7_bound_21, eX7_bound_22, eX7_bound_23, eX7_bound_26, eX7_bound_28, eX7_bound_31, eX7_bound_32, eX7_bound_33, eX7_bound_36, eX7_bound_38, eX7_bound_41, eX7_bound_42, eX7_bound_44, eX7_bound_45, eX7_bound_46, eX7_bound_47, eX7_bound_50, eX7_bound_53, eX7_bound_54, eX7_bound_55, eX7_bound_57, eX7_bound_60, eX7_bound_63, eX7_bound_65, eX7_bound_66, eX7_bound_67, eX7_bound_70, eX7_bound_71, eX7_bound_72, eX7_bound_73, eX7_bound_74, eX7_bound_76, eX7_bound_77, eX7_bound_80, eX7_bound_81, eX7_bound_82, eX7_bound_83, eX7_bound_84, eX7_bound_85, eX7_bound_87, eX7_bound_in, q_in, hw, Option.toList_some, Option.toList_none, List.cons_append, List.nil_append, b2_0, Classical.not_not, false_implies, true_implies, implies_true, true_and, and_true, not_true_eq_false, not_false_eq_true]
      exact ⟨fun _ => ⟨fun _ => ⟨fun _ => ⟨fun _ => h, fun _ => h⟩, fun _ => h⟩, fun _ => h⟩, fun _ => ⟨fun _ => ⟨fun _ => ⟨fun _ => h, fun _ => h⟩, fun _ => h⟩, fun _ => h⟩⟩
theorem lost_bit : ∀ s, s < 256 → ∀ r, r < 8 → ((nI s &&& ((1 : Int32) <<< (nI r &&& 31)) = 0) ↔ ¬ ((nI s >>> (nI r &&& 31)) &&& 1 = 1)) := by decide +kernel
theorem lost_or : ∀ s, s < 256 → ∀ r, r < 8 → nI s ||| ((1 : Int32) <<< (nI r &&& 31)) = nI (s ||| 2 ^ r) := by decide +kernel
theorem pow_R {R : Nat} (h : R ≤ 8) : 2 ^ R ≤ 256 := Nat.pow_le_pow_right (by omega) h
theorem Gd.lost {N N' : Nat → Int32} {R C c t T P D L : Nat} (g : Gd N R C c t T P D L) (h : ∀ k, k ≠ 14 → N' k = N k) {s : Nat} (hs : s < 2 ^ R) (h14 : N' 14 = nI s) : Gd N' R C c t T P D L := by
  obtain ⟨g1, g2, ⟨n0, n1, n2, n3, n4, n5, n8, n10⟩, hF, hS, -, hw, hraw, hgr, hpk, hcon, htr⟩ := g
  have e : ∀ k, k ≠ 14 → N' k = N k := h
  refine ⟨g1, g2, ⟨by rw [e 0 (by omega)]; exact n0, by rw [e 1 (by omega)]; exact n1, by rw [e 2 (by omega)]; exact n2, by rw [e 3 (by omega)]; exact n3, by rw [e 4 (by omega)]; exact n4, by rw [e 5 (by omega)]; exact n5, by rw [e 8 (by omega)]; exact n8, by rw [e 10 (by omega)]; exact n10⟩, ?_, by rw [e 7 (by omega)]; exact hS, ⟨s, hs, h14⟩, by rw [e 17 (by omega)]; exact hw, fun k hk => by rw [e (18 + k) (by omega)]; exact hraw k hk, fun k hk => by rw [e (82 + k) (by omega)]; exact hgr k hk, fun k hk => by rw [e (210 + k) (by omega), e (146 + k) (by omega)]; exact hpk k hk, fun i hi => ?_, fun j hj => by rw [e (281 + 6 * j) (by omega)]; exact htr j hj⟩
  · obtain ⟨F, f1, f2, x, f3, f4, y, f5, f6⟩ := hF
    exact ⟨F, f1, by rw [e 6 (by omega)]; exact f2, x, f3, by rw [e 13 (by omega)]; exact f4, y, fun i hi => by rw [e _ (by omega)]; exact f5 i hi, f6⟩
  · obtain ⟨p, h1, h2, h3⟩ := hcon i hi
    exact ⟨p, h1, by rw [e _ (by omega)]; exact h2, by rw [e _ (by omega)]; exact h3⟩
theorem rowCase {R : Nat} (hR1 : 1 ≤ R) (hR : R ≤ 8) (r : Int32) : (¬ (0 ≤ r ∧ r < nI R) ∧ ¬ (0 ≤ r ∧ r ≤ nI R - 1)) ∨ ∃ r' : Nat, r' < R ∧ r = nI r' ∧ (0 ≤ r ∧ r < nI R) ∧ (0 ≤ r ∧ r ≤ nI R - 1) := by
  rw [nI_p1 hR1]
  by_cases h : 0 ≤ r ∧ r < nI R
  · obtain ⟨r', q1, rfl⟩ := in_nI0 (by omega) h.1 h.2
    exact Or.inr ⟨r', q1, rfl, h, h.1, nI_le (by omega) (by omega)⟩
  · refine Or.inl ⟨h, ?_⟩
    rintro ⟨h1, h2⟩
    obtain ⟨r', -, q1, rfl⟩ := in_nI (a := 0) (by omega) (by omega) h1 h2
    exact h ⟨h1, nI_lt (by omega) (by omega)⟩
theorem step_lose {M : Mm} (hI : Inv M) (r : Int32) : StepI kX6_lose kX7_lose [.int r] M := by
  obtain ⟨⟨hR, R, C, cc, t, T, P, D, L, g⟩, -⟩ := id hI
  obtain ⟨⟨⟨r1, r2⟩, ⟨c1, c2⟩, hcc, htt⟩, ⟨⟨t1, t2⟩, ⟨p1, p2⟩, hD, hL⟩, ⟨n0, n1, n2, n3, n4, n5, n8, n10⟩, hF, hSt, hs, hw, hraw, hgr, hpk, hcon, htr⟩ := id g
  have e30 : M.1 3 0 = nI R := (hR.lo (k := 0) (by omega)).trans n0
  have e31 : M.1 3 1 = nI C := (hR.lo (k := 1) (by omega)).trans n1
  have e81 : M.1 8 1 = nI cc := (hR.lo (k := 8) (by omega)).trans n8
  have e105 : M.1 10 5 = nI t := (hR.lo (k := 10) (by omega)).trans n10
  obtain ⟨s, s1, s2⟩ := hs
  have sR := pow_R r2
  have e36 : M.1 3 6 = nI s := (hR.lo (k := 14) (by omega)).trans s2
  rcases rowCase (by omega) r2 r with ⟨h1, h2⟩ | ⟨r', hr, rfl, h1, h2⟩
  · refine combN hI qX6_lose qX7_lose (-1000000001) (fun Q h => ?_) (fun M1 Q hM h => ?_)
    · simp only [eX6_lose_0, eX6_lose_1, eX6_lose_4, eX6_lose_7, eX6_lose_8, eX6_lose_11, eX6_lose_14, eX6_lose_16, eX6_lose_17, eX6_lose_18, eX6_lose_21, eX6_lose_24, eX6_lose_25, eX6_lose_28, eX6_lose_31, eX6_lose_33, eX6_lose_34, eX6_lose_35, eX6_lose_38, eX6_lose_41, eX6_lose_42, eX6_lose_45, eX6_lose_46, eX6_lose_49, eX6_lose_52, eX6_lose_55, eX6_lose_in, q_hasRow, e30, h1, Option.toList_some, Option.toList_none, List.cons_append, List.nil_append, b2_0, Classical.not_not, false_implies, true_implies, implies_true, true_and, and_true, not_true_eq_false, not_false_eq_true]
      exact h
    · simp only [eX7_lose_0, eX7_lose_1, eX7_lose_2, eX7_lose_5, eX7_lose_8, eX7_lose_10, eX7_lose_11, eX7_lose_12, eX7_lose_15, eX7_lose_17, eX7_lose_18, eX7_lose_19, eX7_lose_22, eX7_lose_25, eX7_lose_27, eX7_lose_28, eX7_lose_29, eX7_lose_32, eX7_lose_34, eX7_lose_35, eX7_lose_36, eX7_lose_37, eX7_lose_38, eX7_lose_39, eX7_lose_40, eX7_lose_41, eX7_lose_42, eX7_lose_45, eX7_lose_47, eX7_lose_48, eX7_lose_in, q_isRow, hM, n0, h2, Option.toList_some, Option.toList_none, List.cons_append, List.nil_append, b2_0, Classical.not_not, false_implies, true_implies, implies_true, true_and, and_true, not_true_eq_false, not_false_eq_true]
      exact h
  · have lb := lost_bit s (by omega) r' (by omega)
    by_cases hb : nI s &&& ((1 : Int32) <<< (nI r' &&& 31)) = 0
    · have hb2 := lb.mp hb
      have ho := lost_or s (by omega) r' (by omega)
      refine combI hI qX6_lose qX7_lose (upd (M.1 52) 14 (nI (s ||| 2 ^ r'))) (nI (s ||| 2 ^ r')) ⟨R, C, cc, t, T, P, D, L, g.lost (fun k hk => by simp [upd, hk]) (s := s ||| 2 ^ r') (Nat.or_lt_two_pow s1 (Nat.pow_lt_pow_right (by omega) hr)) (by simp [upd])⟩ (fun Q h => ?_) (fun M1 Q hM h => ?_)
      · simp only [eX6_lose_0, eX6_lose_1, eX6_lose_4, eX6_lose_7, eX6_lose_8, eX6_lose_11, eX6_lose_14, eX6_lose_16, eX6_lose_17, eX6_lose_18, eX6_lose_21, eX6_lose_24, eX6_lose_25, eX6_lose_28, eX6_lose_31, eX6_lose_33, eX6_lose_34, eX6_lose_35, eX6_lose_38, eX6_lose_41, eX6_lose_42, eX6_lose_45, eX6_lose_46, eX6_lose_49, eX6_lose_52, eX6_lose_55, eX6_lose_in, q_hasRow, q_isLost, q_markLost, e30, e36, h1, hb, ho, Option.toList_some, Option.toList_none, List.cons_append, List.nil_append, b2_0, Classical.not_not, false_implies, true_implies, implies_true, true_and, and_true, not_true_eq_false, not_false_eq_true, setI_at]
        have := h _ (FrC.rf.set (a := 3) (p := 6) (v := nI (s ||| 2 ^ r')) (by omega)) (hR.put (e := 14) (by decide) (by decide) (by omega) (by omega))
        simpa [upd] using this
      · simp only [eX7_lose_0, eX7_lose_1, eX7_lose_2, eX7_lose_5, eX7_lose_8, eX7_lose_10, eX7_lose_11, eX7_lose_12, eX7_lose_15, eX7_lose_17, eX7_lose_18, eX7_lose_19, eX7_lose_22, eX7_lose_25, eX7_lose_27, eX7_lose_28, eX7_lose_29, eX7_lose_32, eX7_lose_34, eX7_lose_35, eX7_lose_36, eX7_lose_37, eX7_lose_38, eX7_lose_39, eX7_lose_40, eX7_lose_41, eX7_lose_42, eX7_lose_45, eX7_lose_47, eX7_lose_48, eX7_lose_in, q_isRow, q_mhas, hM, n0, v14, tn_14, s2, h2, hb2, ho, Option.toList_some, Option.toList_none, List.cons_append, List.nil_append, b2_0, Classical.not_not, false_implies, true_implies, implies_true, true_and, and_true, not_true_eq_false, not_false_eq_true, setI_at]
        have := h _ (FrM.rf.set (a := 52) (p := 14) (v := nI (s ||| 2 ^ r')) (by omega)) (by rw [setI_at, hM])
        simpa [upd] using this
    · have hb2 : (nI s >>> (nI r' &&& 31)) &&& 1 = 1 := Classical.byContradiction (fun z => hb (lb.mpr z))
      refine combN hI qX6_lose qX7_lose (-1000000003) (fun Q h => ?_) (fun M1 Q hM h => ?_)
      · simp only [eX6_lose_0, eX6_lose_1, eX6_lose_4, eX6_lose_7, eX6_lose_8, eX6_lose_11, eX6_lose_14, eX6_lose_16, eX6_lose_17, eX6_lose_18, eX6_lose_21, eX6_lose_24, eX6_lose_25, eX6_lose_28, eX6_lose_31, eX6_lose_33, eX6_lose_34, eX6_lose_35, eX6_lose_38, eX6_lose_41, eX6_lose_42, eX6_lose_45, eX6_lose_46, eX6_lose_49, eX6_lose_52, eX6_lose_55, eX6_lose_in, q_hasRow, q_isLost, q_markLost, e30, e36, h1, hb, Option.toList_some, Option.toList_none, List.cons_append, List.nil_append, b2_0, Classical.not_not, false_implies, true_implies, implies_true, true_and, and_true, not_true_eq_false, not_false_eq_true]
        exact h
      · simp only [eX7_lose_0, eX7_lose_1, eX7_lose_2, eX7_lose_5, eX7_lose_8, eX7_lose_10, eX7_lose_11, eX7_lose_12, eX7_lose_15, eX7_lose_17, eX7_lose_18, eX7_lose_19, eX7_lose_22, eX7_lose_25, eX7_lose_27, eX7_lose_28, eX7_lose_29, eX7_lose_32, eX7_lose_34, eX7_lose_35, eX7_lose_36, eX7_lose_37, eX7_lose_38, eX7_lose_39, eX7_lose_40, eX7_lose_41, eX7_lose_42, eX7_lose_45, eX7_lose_47, eX7_lose_48, eX7_lose_in, q_isRow, q_mhas, hM, n0, v14, tn_14, s2, h2, hb2, Option.toList_some, Option.toList_none, List.cons_append, List.nil_append, b2_0, Classical.not_not, false_implies, true_implies, implies_true, true_and, and_true, not_true_eq_false, not_false_eq_true]
        exact h
/-- one CELL more by v -/
def chN (N : Nat → Int32) (R C : Nat) (r c v : Int32) : Nat → Int32 := fun k => if (0 ≤ r ∧ r < nI R ∧ 0 ≤ c ∧ c < nI C) ∧ k = 18 + (r * nI C + c).toNatClampNeg then (if N k + v < 999 then N k + v else 999) else N k
theorem chN_no {N : Nat → Int32} {R C : Nat} {r c v : Int32} (h : ¬ (0 ≤ r ∧ r < nI R ∧ 0 ≤ c ∧ c < nI C)) : chN N R C r c v = N := by
  funext k
  simp only [chN]
  rw [if_neg (fun z => h z.1)]
theorem chN_yes {N : Nat → Int32} {R C r c : Nat} {v : Int32} (hr : r < R) (hc : c < C) (hR : R ≤ 8) (hC : C ≤ 8) : chN N R C (nI r) (nI c) v = upd N (18 + (r * C + c)) (if N (18 + (r * C + c)) + v < 999 then N (18 + (r * C + c)) + v else 999) := by
  have hi := idx_lt hr hc
  have hrc := rc_le hR hC
  funext k
  simp only [chN, upd]
  rw [pk_mul, nI_add, nI_clamp (by omega)]
  by_cases hk : k = 18 + (r * C + c)
  · subst hk
    rw [if_pos ⟨⟨nI0le _ (by omega), nI_lt (by omega) (by omega), nI0le _ (by omega), nI_lt (by omega) (by omega)⟩, rfl⟩, if_pos rfl]
  · rw [if_neg (fun z => hk z.2), if_neg hk]
theorem Gd.ch {N : Nat → Int32} {R C cc t T P D L : Nat} (g : Gd N R C cc t T P D L) {r c : Int32} {v : Nat} (hv : v ≤ 999) : Gd (chN N R C r c (nI v)) R C cc t T P D L := by
  obtain ⟨⟨⟨r1, r2⟩, ⟨c1, c2⟩, -, -⟩, -, -, -, -, -, -, hraw, -⟩ := id g
  rcases cellCase (by omega) (by omega) r2 c2 r c with ⟨h1, -⟩ | ⟨r', c', hr, hc, rfl, rfl, h1, h2⟩
  · rw [chN_no h1]
    exact g
  · have hi := idx_lt hr hc
    have hrc := rc_le r2 c2
    rw [chN_yes hr hc r2 c2]
    refine g.raw (fun k hk => ?_) (fun k hk => ?_)
    · simp only [upd]
      rw [if_neg (by omega)]
    · simp only [upd]
      split
      · obtain ⟨x, x1, x2⟩ := hraw (r' * C + c') (by omega)
        rw [x2, nI_add]
        split
        · rename_i hlt
          have := (nI_ltI (a := x + v) (b := 999) (by omega) (by omega)).mp hlt
          exact ⟨x + v, by omega, rfl⟩
        · exact ⟨999, by omega, rfl⟩
      · exact hraw k hk
theorem c_charge {Q : Qt} {M0 M : Mm} {N : Nat → Int32} {R C cc t T P D L : Nat} (hF : FrC M0 M) (hR : Re M.1 1 N) (g : Gd N R C cc t T P D L) {r c v : Int32} (hQ : ∀ M', FrC M0 M' → Re M'.1 1 (chN N R C r c v) → Q none M') : kX1_charge [.ref 3, .int r, .int c, .int v] M Q := by
  obtain ⟨⟨⟨r1, r2⟩, ⟨c1, c2⟩, -, -⟩, -, ⟨n0, n1, -⟩, -⟩ := id g
  have e30 : M.1 3 0 = nI R := (hR.lo (k := 0) (by omega)).trans n0
  have e31 : M.1 3 1 = nI C := (hR.lo (k := 1) (by omega)).trans n1
  rw [q_charge, e30, e31]
  rcases cellCase (by omega) (by omega) r2 c2 r c with ⟨h1, -⟩ | ⟨r', c', hr, hc, rfl, rfl, h1, h2⟩
  · rw [chN_no h1] at hQ
    exact ⟨fun _ => hQ M hF hR, fun z => absurd z h1⟩
  · have hi := idx_lt hr hc
    have hrc := rc_le r2 c2
    rw [chN_yes hr hc r2 c2] at hQ
    refine ⟨fun z => absurd h1 z, fun _ => ?_⟩
    rw [pk_mul, nI_add, nI_clamp (by omega), show M.1 4 (r' * C + c') = N (18 + (r' * C + c')) from hR.raw (by omega)]
    exact ⟨vpn (by omega) (by decide), hQ _ (hF.set (by omega)) (hR.put (by rw [(ec_raw (by omega)).1]) (by rw [(ec_raw (by omega)).2]) (by omega) (by omega))⟩
theorem gt_ite {x : Int32} {A B : Prop} (h1 : (if x < 999 then x else 999) = x → ¬ 999 < x → A) (h2 : (if x < 999 then x else 999) = 999 → 999 < x → B) : (x ≤ 999 → A) ∧ (¬ x ≤ 999 → B) := by
  refine ⟨fun z => h1 ?_ (Int32.not_lt.mpr z), fun z => h2 ?_ (Int32.not_le.mp z)⟩
  · split
    · rfl
    · rename_i hn
      exact Int32.le_antisymm (Int32.not_lt.mp hn) z
  · rw [if_neg (Int32.not_lt.mpr (Int32.le_of_lt (Int32.not_le.mp z)))]
theorem m_presses {Q : Qt} {M0 M : Mm} {N : Nat → Int32} {R C cc t T P D L : Nat} (hF : FrM M0 M) (hN : M.1 52 = N) (g : Gd N R C cc t T P D L) {r c v : Int32} (hQ : ∀ M', FrM M0 M' → M'.1 52 = chN N R C r c v → Q none M') : kX7_presses [.ref 51, .int r, .int c, .int v] M Q := by
  obtain ⟨⟨⟨r1, r2⟩, ⟨c1, c2⟩, -, -⟩, -, ⟨n0, n1, -⟩, -⟩ := id g
  rcases cellCase (by omega) (by omega) r2 c2 r c with ⟨h1, h2⟩ | ⟨r', c', hr, hc, rfl, rfl, h1, h2⟩
  · rw [chN_no h1] at hQ
    simp only [eX7_presses_0, eX7_presses_1, eX7_presses_2, eX7_presses_3, eX7_presses_6, eX7_presses_9, eX7_presses_11, eX7_presses_12, eX7_presses_13, eX7_presses_14, eX7_presses_17, eX7_presses_18, eX7_presses_20, eX7_presses_21, eX7_presses_24, eX7_presses_26, eX7_presses_27, eX7_presses_30, eX7_presses_32, eX7_presses_33, eX7_presses_34, eX7_presses_35, eX7_presses_38, eX7_presses_41, eX7_presses_44, eX7_presses_47, eX7_presses_48, eX7_presses_51, eX7_presses_53, eX7_presses_54, eX7_presses_55, eX7_presses_56, eX7_presses_57, eX7_presses_in, q_isCell, hN, n0, n1, h2, Option.toList_some, Option.toList_none, List.cons_append, List.nil_append, b2_0, Classical.not_not, false_implies, true_implies, implies_true, true_and, and_true, not_true_eq_false, not_false_eq_true]
    exact hQ M hF hN
  · have hi := idx_lt hr hc
    have hrc := rc_le r2 c2
    have hix2 : nI C * nI r' + nI c' = nI (r' * C + c') := by rw [pk_mul, nI_add, Nat.mul_comm]
    rw [chN_yes hr hc r2 c2] at hQ
    simp only [eX7_presses_0, eX7_presses_1, eX7_presses_2, eX7_presses_3, eX7_presses_6, eX7_presses_9, eX7_presses_11, eX7_presses_12, eX7_presses_13, eX7_presses_14, eX7_presses_17, eX7_presses_18, eX7_presses_20, eX7_presses_21, eX7_presses_24, eX7_presses_26, eX7_presses_27, eX7_presses_30, eX7_presses_32, eX7_presses_33, eX7_presses_34, eX7_presses_35, eX7_presses_38, eX7_presses_41, eX7_presses_44, eX7_presses_47, eX7_presses_48, eX7_presses_51, eX7_presses_53, eX7_presses_54, eX7_presses_55, eX7_presses_56, eX7_presses_57, eX7_presses_in, q_isCell, q_cellAt, hN, n0, n1, h2, hix2, a18, nI_clamp (show 18 + (r' * C + c') < 2 ^ 31 by omega), vpn (show 18 + (r' * C + c') < 316 by omega) (by decide : 316 < 2147483648), Option.toList_some, Option.toList_none, List.cons_append, List.nil_append, b2_0, Classical.not_not, false_implies, true_implies, implies_true, true_and, and_true, not_true_eq_false, not_false_eq_true]
    refine gt_ite (fun e _ => ?_) (fun e _ => ?_)
    · rw [e] at hQ
      exact hQ _ (hF.set (by omega)) (by rw [setI_at, hN])
    · rw [e] at hQ
      exact hQ _ (hF.set (by omega)) (by rw [setI_at, hN])
theorem step_press {M : Mm} (hI : Inv M) (r c v : Int32) : StepI kX6_press kX7_press [.int r, .int c, .int v] M := by
  obtain ⟨⟨hR, R, C, cc, t, T, P, D, L, g⟩, -⟩ := id hI
  obtain ⟨⟨⟨r1, r2⟩, ⟨c1, c2⟩, hcc, htt⟩, ⟨⟨t1, t2⟩, ⟨p1, p2⟩, hD, hL⟩, ⟨n0, n1, n2, n3, n4, n5, n8, n10⟩, hF, hSt, hs, hw, hraw, hgr, hpk, hcon, htr⟩ := id g
  have e30 : M.1 3 0 = nI R := (hR.lo (k := 0) (by omega)).trans n0
  have e31 : M.1 3 1 = nI C := (hR.lo (k := 1) (by omega)).trans n1
  have e81 : M.1 8 1 = nI cc := (hR.lo (k := 8) (by omega)).trans n8
  have e105 : M.1 10 5 = nI t := (hR.lo (k := 10) (by omega)).trans n10
  rcases cellCase (by omega) (by omega) r2 c2 r c with ⟨h1, h2⟩ | ⟨r', c', hr, hc, rfl, rfl, h1, h2⟩
  · refine combN hI qX6_press qX7_press (-1000000001) (fun Q h => ?_) (fun M1 Q hM h => ?_)
    · simp only [eX6_press_0, eX6_press_1, eX6_press_4, eX6_press_7, eX6_press_8, eX6_press_9, eX6_press_12, eX6_press_15, eX6_press_17, eX6_press_18, eX6_press_19, eX6_press_20, eX6_press_23, eX6_press_26, eX6_press_29, eX6_press_31, eX6_press_32, eX6_press_33, eX6_press_34, eX6_press_35, eX6_press_37, eX6_press_38, eX6_press_41, eX6_press_44, eX6_press_45, eX6_press_46, eX6_press_47, eX6_press_50, eX6_press_51, eX6_press_54, eX6_press_57, eX6_press_58, eX6_press_59, eX6_press_60, eX6_press_61, eX6_press_63, eX6_press_66, eX6_press_67, eX6_press_70, eX6_press_73, eX6_press_74, eX6_press_75, eX6_press_76, eX6_press_77, eX6_press_79, eX6_press_82, eX6_press_83, eX6_press_86, eX6_press_89, eX6_press_90, eX6_press_91, eX6_press_92, eX6_press_93, eX6_press_95, eX6_press_98, eX6_press_99, eX6_press_102, eX6_press_105, eX6_press_106, eX6_press_107, eX6_press_108, eX6_press_109, eX6_press_111, eX6_press_114, eX6_press_115, eX6_press_118, eX6_press_121, eX6_press_124, eX6_press_125, eX6_press_128, eX6_press_131, eX6_press_132, eX6_press_133, eX6_press_136, eX6_press_137, eX6_press_in, q_has, e30, e31, h1, Option.toList_some, Option.toList_none, List.cons_append, List.nil_append, b2_0, Classical.not_not, false_implies, true_implies, implies_true, true_and, and_true, not_true_eq_false, not_false_eq_true]
      exact h
    · simp only [eX7_press_0, eX7_press_1, eX7_press_2, eX7_press_3, eX7_press_6, eX7_press_9, eX7_press_11, eX7_press_12, eX7_press_13, eX7_press_14, eX7_press_17, eX7_press_20, eX7_press_23, eX7_press_25, eX7_press_26, eX7_press_27, eX7_press_28, eX7_press_29, eX7_press_30, eX7_press_33, eX7_press_34, eX7_press_35, eX7_press_36, eX7_press_37, eX7_press_38, eX7_press_39, eX7_press_40, eX7_press_41, eX7_press_44, eX7_press_45, eX7_press_46, eX7_press_47, eX7_press_48, eX7_press_49, eX7_press_50, eX7_press_51, eX7_press_52, eX7_press_55, eX7_press_56, eX7_press_57, eX7_press_58, eX7_press_59, eX7_press_60, eX7_press_61, eX7_press_62, eX7_press_63, eX7_press_66, eX7_press_67, eX7_press_68, eX7_press_69, eX7_press_70, eX7_press_71, eX7_press_72, eX7_press_73, eX7_press_74, eX7_press_77, eX7_press_78, eX7_press_81, eX7_press_83, eX7_press_84, eX7_press_85, eX7_press_86, eX7_press_89, eX7_press_90, eX7_press_91, eX7_press_in, q_isCell, hM, n0, n1, h2, Option.toList_some, Option.toList_none, List.cons_append, List.nil_append, b2_0, Classical.not_not, false_implies, true_implies, implies_true, true_and, and_true, not_true_eq_false, not_false_eq_true]
      exact h
  · have hi := idx_lt hr hc
    have hrc := rc_le r2 c2
    by_cases hv : 0 ≤ v ∧ v ≤ 999
    · obtain ⟨x, -, hx, rfl⟩ := in_nI (a := 0) (b := 999) (by omega) (by omega) hv.1 hv.2
      have hh : nI x / 2 = nI (x / 2) := pk_div (d := 2) (by omega) (by omega) (by omega)
      have h20 : ¬ ((2 : Int32) = 0) := by decide
      have hix : nI r' * nI C + nI c' = nI (r' * C + c') := by rw [pk_mul, nI_add]
      have hix2 : nI C * nI r' + nI c' = nI (r' * C + c') := by rw [pk_mul, nI_add, Nat.mul_comm]
      have hh2 : x / 2 ≤ 999 := by omega
      have g1 := g.ch (r := nI r') (c := nI c') hx
      have g2 := g1.ch (r := nI r' - 1) (c := nI c') hh2
      have g3 := g2.ch (r := nI r' + 1) (c := nI c') hh2
      have g4 := g3.ch (r := nI r') (c := nI c' - 1) hh2
      have g5 := g4.ch (r := nI r') (c := nI c' + 1) hh2
      have bd : ∀ {N : Nat → Int32} {M' : Mm}, Re M'.1 1 N → Gd N R C cc t T P D L → M'.1 3 1 = nI C := fun a b => (a.lo (k := 1) (by omega)).trans b.2.2.1.2.1
      refine combI hI qX6_press qX7_press _ (chN (chN (chN (chN (chN (M.1 52) R C (nI r') (nI c') (nI x)) R C (nI r' - 1) (nI c') (nI (x / 2))) R C (nI r' + 1) (nI c') (nI (x / 2))) R C (nI r') (nI c' - 1) (nI (x / 2))) R C (nI r') (nI c' + 1) (nI (x / 2)) (18 + (r' * C + c'))) ⟨R, C, cc, t, T, P, D, L, g5⟩ (fun Q h => ?_) (fun M1 Q hM h => ?_)
      · simp only [eX6_press_0, eX6_press_1, eX6_press_4, eX6_press_7, eX6_press_8, eX6_press_9, eX6_press_12, eX6_press_15, eX6_press_17, eX6_press_18, eX6_press_19, eX6_press_20, eX6_press_23, eX6_press_26, eX6_press_29, eX6_press_31, eX6_press_32, eX6_press_33, eX6_press_34, eX6_press_35, eX6_press_37, eX6_press_38, eX6_press_41, eX6_press_44, eX6_press_45, eX6_press_46, eX6_press_47, eX6_press_50, eX6_press_51, eX6_press_54, eX6_press_57, eX6_press_58, eX6_press_59, eX6_press_60, eX6_press_61, eX6_press_63, eX6_press_66, eX6_press_67, eX6_press_70, eX6_press_73, eX6_press_74, eX6_press_75, eX6_press_76, eX6_press_77, eX6_press_79, eX6_press_82, eX6_press_83, eX6_press_86, eX6_press_89, eX6_press_90, eX6_press_91, eX6_press_92, eX6_press_93, eX6_press_95, eX6_press_98, eX6_press_99, eX6_press_102, eX6_press_105, eX6_press_106, eX6_press_107, eX6_press_108, eX6_press_109, eX6_press_111, eX6_press_114, eX6_press_115, eX6_press_118, eX6_press_121, eX6_press_124, eX6_press_125, eX6_press_128, eX6_press_131, eX6_press_132, eX6_press_133, eX6_press_136, eX6_press_137, eX6_press_in, q_has, q_within, e30, e31, h1, hv, h20, hh, Option.toList_some, Option.toList_none, List.cons_append, List.nil_append, b2_0, Classical.not_not, false_implies, true_implies, implies_true, true_and, and_true, not_true_eq_false, not_false_eq_true]
        refine c_charge FrC.rf hR g (fun M1 F1 R1 => ?_)
        simp only [eX6_press_0, eX6_press_1, eX6_press_4, eX6_press_7, eX6_press_8, eX6_press_9, eX6_press_12, eX6_press_15, eX6_press_17, eX6_press_18, eX6_press_19, eX6_press_20, eX6_press_23, eX6_press_26, eX6_press_29, eX6_press_31, eX6_press_32, eX6_press_33, eX6_press_34, eX6_press_35, eX6_press_37, eX6_press_38, eX6_press_41, eX6_press_44, eX6_press_45, eX6_press_46, eX6_press_47, eX6_press_50, eX6_press_51, eX6_press_54, eX6_press_57, eX6_press_58, eX6_press_59, eX6_press_60, eX6_press_61, eX6_press_63, eX6_press_66, eX6_press_67, eX6_press_70, eX6_press_73, eX6_press_74, eX6_press_75, eX6_press_76, eX6_press_77, eX6_press_79, eX6_press_82, eX6_press_83, eX6_press_86, eX6_press_89, eX6_press_90, eX6_press_91, eX6_press_92, eX6_press_93, eX6_press_95, eX6_press_98, eX6_press_99, eX6_press_102, eX6_press_105, eX6_press_106, eX6_press_107, eX6_press_108, eX6_press_109, eX6_press_111, eX6_press_114, eX6_press_115, eX6_press_118, eX6_press_121, eX6_press_124, eX6_press_125, eX6_press_128, eX6_press_131, eX6_press_132, eX6_press_133, eX6_press_136, eX6_press_137, eX6_press_in, hh, Option.toList_some, Option.toList_none, List.cons_append, List.nil_append, b2_0, Classical.not_not, false_implies, true_implies, implies_true, true_and, and_true, not_true_eq_false, not_false_eq_true]
        refine c_charge F1 R1 g1 (fun M2 F2 R2 => ?_)
        simp only [eX6_press_0, eX6_press_1, eX6_press_4, eX6_press_7, eX6_press_8, eX6_press_9, eX6_press_12, eX6_press_15, eX6_press_17, eX6_press_18, eX6_press_19, eX6_press_20, eX6_press_23, eX6_press_26, eX6_press_29, eX6_press_31, eX6_press_32, eX6_press_33, eX6_press_34, eX6_press_35, eX6_press_37, eX6_press_38, eX6_press_41, eX6_press_44, eX6_press_45, eX6_press_46, eX6_press_47, eX6_press_50, eX6_press_51, eX6_press_54, eX6_press_57, eX6_press_58, eX6_press_59, eX6_press_60, eX6_press_61, eX6_press_63, eX6_press_66, eX6_press_67, eX6_press_70, eX6_press_73, eX6_press_74, eX6_press_75, eX6_press_76, eX6_press_77, eX6_press_79, eX6_press_82, eX6_press_83, eX6_press_86, eX6_press_89, eX6_press_90, eX6_press_91, eX6_press_92, eX6_press_93, eX6_press_95, eX6_press_98, eX6_press_99, eX6_press_102, eX6_press_105, eX6_press_106, eX6_press_107, eX6_press_108, eX6_press_109, eX6_press_111, eX6_press_114, eX6_press_115, eX6_press_118, eX6_press_121, eX6_press_124, eX6_press_125, eX6_press_128, eX6_press_131, eX6_press_132, eX6_press_133, eX6_press_136, eX6_press_137, eX6_press_in, hh, Option.toList_some, Option.toList_none, List.cons_append, List.nil_append, b2_0, Classical.not_not, false_implies, true_implies, implies_true, true_and, and_true, not_true_eq_false, not_false_eq_true]
        refine c_charge F2 R2 g2 (fun M3 F3 R3 => ?_)
        simp only [eX6_press_0, eX6_press_1, eX6_press_4, eX6_press_7, eX6_press_8, eX6_press_9, eX6_press_12, eX6_press_15, eX6_press_17, eX6_press_18, eX6_press_19, eX6_press_20, eX6_press_23, eX6_press_26, eX6_press_29, eX6_press_31, eX6_press_32, eX6_press_33, eX6_press_34, eX6_press_35, eX6_press_37, eX6_press_38, eX6_press_41, eX6_press_44, eX6_press_45, eX6_press_46, eX6_press_47, eX6_press_50, eX6_press_51, eX6_press_54, eX6_press_57, eX6_press_58, eX6_press_59, eX6_press_60, eX6_press_61, eX6_press_63, eX6_press_66, eX6_press_67, eX6_press_70, eX6_press_73, eX6_press_74, eX6_press_75, eX6_press_76, eX6_press_77, eX6_press_79, eX6_press_82, eX6_press_83, eX6_press_86, eX6_press_89, eX6_press_90, eX6_press_91, eX6_press_92, eX6_press_93, eX6_press_95, eX6_press_98, eX6_press_99, eX6_press_102, eX6_press_105, eX6_press_106, eX6_press_107, eX6_press_108, eX6_press_109, eX6_press_111, eX6_press_114, eX6_press_115, eX6_press_118, eX6_press_121, eX6_press_124, eX6_press_125, eX6_press_128, eX6_press_131, eX6_press_132, eX6_press_133, eX6_press_136, eX6_press_137, eX6_press_in, hh, Option.toList_some, Option.toList_none, List.cons_append, List.nil_append, b2_0, Classical.not_not, false_implies, true_implies, implies_true, true_and, and_true, not_true_eq_false, not_false_eq_true]
        refine c_charge F3 R3 g3 (fun M4 F4 R4 => ?_)
        simp only [eX6_press_0, eX6_press_1, eX6_press_4, eX6_press_7, eX6_press_8, eX6_press_9, eX6_press_12, eX6_press_15, eX6_press_17, eX6_press_18, eX6_press_19, eX6_press_20, eX6_press_23, eX6_press_26, eX6_press_29, eX6_press_31, eX6_press_32, eX6_press_33, eX6_press_34, eX6_press_35, eX6_press_37, eX6_press_38, eX6_press_41, eX6_press_44, eX6_press_45, eX6_press_46, eX6_press_47, eX6_press_50, eX6_press_51, eX6_press_54, eX6_press_57, eX6_press_58, eX6_press_59, eX6_press_60, eX6_press_61, eX6_press_63, eX6_press_66, eX6_press_67, eX6_press_70, eX6_press_73, eX6_press_74, eX6_press_75, eX6_press_76, eX6_press_77, eX6_press_79, eX6_press_82, eX6_press_83, eX6_press_86, eX6_press_89, eX6_press_90, eX6_press_91, eX6_press_92, eX6_press_93, eX6_press_95, eX6_press_98, eX6_press_99, eX6_press_102, eX6_press_105, eX6_press_106, eX6_press_107, eX6_press_108, eX6_press_109, eX6_press_111, eX6_press_114, eX6_press_115, eX6_press_118, eX6_press_121, eX6_press_124, eX6_press_125, eX6_press_128, eX6_press_131, eX6_press_132, eX6_press_133, eX6_press_136, eX6_press_137, eX6_press_in, hh, Option.toList_some, Option.toList_none, List.cons_append, List.nil_append, b2_0, Classical.not_not, false_implies, true_implies, implies_true, true_and, and_true, not_true_eq_false, not_false_eq_true]
        refine c_charge F4 R4 g4 (fun M5 F5 R5 => ?_)
        have rw5 : M5.1 4 (r' * C + c') = _ := R5.raw (k := r' * C + c') (by omega)
        simp only [eX6_press_0, eX6_press_1, eX6_press_4, eX6_press_7, eX6_press_8, eX6_press_9, eX6_press_12, eX6_press_15, eX6_press_17, eX6_press_18, eX6_press_19, eX6_press_20, eX6_press_23, eX6_press_26, eX6_press_29, eX6_press_31, eX6_press_32, eX6_press_33, eX6_press_34, eX6_press_35, eX6_press_37, eX6_press_38, eX6_press_41, eX6_press_44, eX6_press_45, eX6_press_46, eX6_press_47, eX6_press_50, eX6_press_51, eX6_press_54, eX6_press_57, eX6_press_58, eX6_press_59, eX6_press_60, eX6_press_61, eX6_press_63, eX6_press_66, eX6_press_67, eX6_press_70, eX6_press_73, eX6_press_74, eX6_press_75, eX6_press_76, eX6_press_77, eX6_press_79, eX6_press_82, eX6_press_83, eX6_press_86, eX6_press_89, eX6_press_90, eX6_press_91, eX6_press_92, eX6_press_93, eX6_press_95, eX6_press_98, eX6_press_99, eX6_press_102, eX6_press_105, eX6_press_106, eX6_press_107, eX6_press_108, eX6_press_109, eX6_press_111, eX6_press_114, eX6_press_115, eX6_press_118, eX6_press_121, eX6_press_124, eX6_press_125, eX6_press_128, eX6_press_131, eX6_press_132, eX6_press_133, eX6_press_136, eX6_press_137, eX6_press_in, q_at, bd R5 g5, hix, nI_clamp (show r' * C + c' < 2 ^ 31 by omega), vpn (show r' * C + c' < 64 by omega) (by decide : 64 < 2147483648), rw5, Option.toList_some, Option.toList_none, List.cons_append, List.nil_append, b2_0, Classical.not_not, false_implies, true_implies, implies_true, true_and, and_true, not_true_eq_false, not_false_eq_true]
        exact h M5 F5 R5
      · simp only [eX7_press_0, eX7_press_1, eX7_press_2, eX7_press_3, eX7_press_6, eX7_press_9, eX7_press_11, eX7_press_12, eX7_press_13, eX7_press_14, eX7_press_17, eX7_press_20, eX7_press_23, eX7_press_25, eX7_press_26, eX7_press_27, eX7_press_28, eX7_press_29, eX7_press_30, eX7_press_33, eX7_press_34, eX7_press_35, eX7_press_36, eX7_press_37, eX7_press_38, eX7_press_39, eX7_press_40, eX7_press_41, eX7_press_44, eX7_press_45, eX7_press_46, eX7_press_47, eX7_press_48, eX7_press_49, eX7_press_50, eX7_press_51, eX7_press_52, eX7_press_55, eX7_press_56, eX7_press_57, eX7_press_58, eX7_press_59, eX7_press_60, eX7_press_61, eX7_press_62, eX7_press_63, eX7_press_66, eX7_press_67, eX7_press_68, eX7_press_69, eX7_press_70, eX7_press_71, eX7_press_72, eX7_press_73, eX7_press_74, eX7_press_77, eX7_press_78, eX7_press_81, eX7_press_83, eX7_press_84, eX7_press_85, eX7_press_86, eX7_press_89, eX7_press_90, eX7_press_91, eX7_press_in, q_isCell, q_in, hM, n0, n1, h2, hv, h20, hh, Option.toList_some, Option.toList_none, List.cons_append, List.nil_append, b2_0, Classical.not_not, false_implies, true_implies, implies_true, true_and, and_true, not_true_eq_false, not_false_eq_true]
        refine m_presses FrM.rf hM g (fun M2 F1 R1 => ?_)
        simp only [eX7_press_0, eX7_press_1, eX7_press_2, eX7_press_3, eX7_press_6, eX7_press_9, eX7_press_11, eX7_press_12, eX7_press_13, eX7_press_14, eX7_press_17, eX7_press_20, eX7_press_23, eX7_press_25, eX7_press_26, eX7_press_27, eX7_press_28, eX7_press_29, eX7_press_30, eX7_press_33, eX7_press_34, eX7_press_35, eX7_press_36, eX7_press_37, eX7_press_38, eX7_press_39, eX7_press_40, eX7_press_41, eX7_press_44, eX7_press_45, eX7_press_46, eX7_press_47, eX7_press_48, eX7_press_49, eX7_press_50, eX7_press_51, eX7_press_52, eX7_press_55, eX7_press_56, eX7_press_57, eX7_press_58, eX7_press_59, eX7_press_60, eX7_press_61, eX7_press_62, eX7_press_63, eX7_press_66, eX7_press_67, eX7_press_68, eX7_press_69, eX7_press_70, eX7_press_71, eX7_press_72, eX7_press_73, eX7_press_74, eX7_press_77, eX7_press_78, eX7_press_81, eX7_press_83, eX7_press_84, eX7_press_85, eX7_press_86, eX7_press_89, eX7_press_90, eX7_press_91, eX7_press_in, hh, h20, Option.toList_some, Option.toList_none, List.cons_append, List.nil_append, b2_0, Classical.not_not, false_implies, true_implies, implies_true, true_and, and_true, not_true_eq_false, not_false_eq_true]
        refine m_presses F1 R1 g1 (fun M2 F2 R2 => ?_)
        simp only [eX7_press_0, eX7_press_1, eX7_press_2, eX7_press_3, eX7_press_6, eX7_press_9, eX7_press_11, eX7_press_12, eX7_press_13, eX7_press_14, eX7_press_17, eX7_press_20, eX7_press_23, eX7_press_25, eX7_press_26, eX7_press_27, eX7_press_28, eX7_press_29, eX7_press_30, eX7_press_33, eX7_press_34, eX7_press_35, eX7_press_36, eX7_press_37, eX7_press_38, eX7_press_39, eX7_press_40, eX7_press_41, eX7_press_44, eX7_press_45, eX7_press_46, eX7_press_47, eX7_press_48, eX7_press_49, eX7_press_50, eX7_press_51, eX7_press_52, eX7_press_55, eX7_press_56, eX7_press_57, eX7_press_58, eX7_press_59, eX7_press_60, eX7_press_61, eX7_press_62, eX7_press_63, eX7_press_66, eX7_press_67, eX7_press_68, eX7_press_69, eX7_press_70, eX7_press_71, eX7_press_72, eX7_press_73, eX7_press_74, eX7_press_77, eX7_press_78, eX7_press_81, eX7_press_83, eX7_press_84, eX7_press_85, eX7_press_86, eX7_press_89, eX7_press_90, eX7_press_91, eX7_press_in, hh, h20, Option.toList_some, Option.toList_none, List.cons_append, List.nil_append, b2_0, Classical.not_not, false_implies, true_implies, implies_true, true_and, and_true, not_true_eq_false, not_false_eq_true]
        refine m_presses F2 R2 g2 (fun M3 F3 R3 => ?_)
        simp only [eX7_press_0, eX7_press_1, eX7_press_2, eX7_press_3, eX7_press_6, eX7_press_9, eX7_press_11, eX7_press_12, eX7_press_13, eX7_press_14, eX7_press_17, eX7_press_20, eX7_press_23, eX7_press_25, eX7_press_26, eX7_press_27, eX7_press_28, eX7_press_29, eX7_press_30, eX7_press_33, eX7_press_34, eX7_press_35, eX7_press_36, eX7_press_37, eX7_press_38, eX7_press_39, eX7_press_40, eX7_press_41, eX7_press_44, eX7_press_45, eX7_press_46, eX7_press_47, eX7_press_48, eX7_press_49, eX7_press_50, eX7_press_51, eX7_press_52, eX7_press_55, eX7_press_56, eX7_press_57, eX7_press_58, eX7_press_59, eX7_press_60, eX7_press_61, eX7_press_62, eX7_press_63, eX7_press_66, eX7_press_67, eX7_press_68, eX7_press_69, eX7_press_70, eX7_press_71, eX7_press_72, eX7_press_73, eX7_press_74, eX7_press_77, eX7_press_78, eX7_press_81, eX7_press_83, eX7_press_84, eX7_press_85, eX7_press_86, eX7_press_89, eX7_press_90, eX7_press_91, eX7_press_in, hh, h20, Option.toList_some, Option.toList_none, List.cons_append, List.nil_append, b2_0, Classical.not_not, false_implies, true_implies, implies_true, true_and, and_true, not_true_eq_false, not_false_eq_true]
        refine m_presses F3 R3 g3 (fun M4 F4 R4 => ?_)
        simp only [eX7_press_0, eX7_press_1, eX7_press_2, eX7_press_3, eX7_press_6, eX7_press_9, eX7_press_11, eX7_press_12, eX7_press_13, eX7_press_14, eX7_press_17, eX7_press_20, eX7_press_23, eX7_press_25, eX7_press_26, eX7_press_27, eX7_press_28, eX7_press_29, eX7_press_30, eX7_press_33, eX7_press_34, eX7_press_35, eX7_press_36, eX7_press_37, eX7_press_38, eX7_press_39, eX7_press_40, eX7_press_41, eX7_press_44, eX7_press_45, eX7_press_46, eX7_press_47, eX7_press_48, eX7_press_49, eX7_press_50, eX7_press_51, eX7_press_52, eX7_press_55, eX7_press_56, eX7_press_57, eX7_press_58, eX7_press_59, eX7_press_60, eX7_press_61, eX7_press_62, eX7_press_63, eX7_press_66, eX7_press_67, eX7_press_68, eX7_press_69, eX7_press_70, eX7_press_71, eX7_press_72, eX7_press_73, eX7_press_74, eX7_press_77, eX7_press_78, eX7_press_81, eX7_press_83, eX7_press_84, eX7_press_85, eX7_press_86, eX7_press_89, eX7_press_90, eX7_press_91, eX7_press_in, hh, h20, Option.toList_some, Option.toList_none, List.cons_append, List.nil_append, b2_0, Classical.not_not, false_implies, true_implies, implies_true, true_and, and_true, not_true_eq_false, not_false_eq_true]
        refine m_presses F4 R4 g4 (fun M5 F5 R5 => ?_)
        have b5 : M5.1 52 1 = nI C := by rw [R5]; exact g5.2.2.1.2.1
        simp only [eX7_press_0, eX7_press_1, eX7_press_2, eX7_press_3, eX7_press_6, eX7_press_9, eX7_press_11, eX7_press_12, eX7_press_13, eX7_press_14, eX7_press_17, eX7_press_20, eX7_press_23, eX7_press_25, eX7_press_26, eX7_press_27, eX7_press_28, eX7_press_29, eX7_press_30, eX7_press_33, eX7_press_34, eX7_press_35, eX7_press_36, eX7_press_37, eX7_press_38, eX7_press_39, eX7_press_40, eX7_press_41, eX7_press_44, eX7_press_45, eX7_press_46, eX7_press_47, eX7_press_48, eX7_press_49, eX7_press_50, eX7_press_51, eX7_press_52, eX7_press_55, eX7_press_56, eX7_press_57, eX7_press_58, eX7_press_59, eX7_press_60, eX7_press_61, eX7_press_62, eX7_press_63, eX7_press_66, eX7_press_67, eX7_press_68, eX7_press_69, eX7_press_70, eX7_press_71, eX7_press_72, eX7_press_73, eX7_press_74, eX7_press_77, eX7_press_78, eX7_press_81, eX7_press_83, eX7_press_84, eX7_press_85, eX7_press_86, eX7_press_89, eX7_press_90, eX7_press_91, eX7_press_in, q_cellAt, b5, hix2, a18, nI_clamp (show 18 + (r' * C + c') < 2 ^ 31 by omega), vpn (show 18 + (r' * C + c') < 316 by omega) (by decide : 316 < 2147483648), Option.toList_some, Option.toList_none, List.cons_append, List.nil_append, b2_0, Classical.not_not, false_implies, true_implies, implies_true, true_and, and_true, not_true_eq_false, not_false_eq_true]
        rw [R5]
        exact h M5 F5 R5
    · refine combN hI qX6_press qX7_press (-1000000002) (fun Q h => ?_) (fun M1 Q hM h => ?_)
      · simp only [eX6_press_0, eX6_press_1, eX6_press_4, eX6_press_7, eX6_press_8, eX6_press_9, eX6_press_12, eX6_press_15, eX6_press_17, eX6_press_18, eX6_press_19, eX6_press_20, eX6_press_23, eX6_press_26, eX6_press_29, eX6_press_31, eX6_press_32, eX6_press_33, eX6_press_34, eX6_press_35, eX6_press_37, eX6_press_38, eX6_press_41, eX6_press_44, eX6_press_45, eX6_press_46, eX6_press_47, eX6_press_50, eX6_press_51, eX6_press_54, eX6_press_57, eX6_press_58, eX6_press_59, eX6_press_60, eX6_press_61, eX6_press_63, eX6_press_66, eX6_press_67, eX6_press_70, eX6_press_73, eX6_press_74, eX6_press_75, eX6_press_76, eX6_press_77, eX6_press_79, eX6_press_82, eX6_press_83, eX6_press_86, eX6_press_89, eX6_press_90, eX6_press_91, eX6_press_92, eX6_press_93, eX6_press_95, eX6_press_98, eX6_press_99, eX6_press_102, eX6_press_105, eX6_press_106, eX6_press_107, eX6_press_108, eX6_press_109, eX6_press_111, eX6_press_114, eX6_press_115, eX6_press_118, eX6_press_121, eX6_press_124, eX6_press_125, eX6_press_128, eX6_press_131, eX6_press_132, eX6_press_133, eX6_press_136, eX6_press_137, eX6_press_in, q_has, q_within, e30, e31, h1, hv, Option.toList_some, Option.toList_none, List.cons_append, List.nil_append, b2_0, Classical.not_not, false_implies, true_implies, implies_true, true_and, and_true, not_true_eq_false, not_false_eq_true]
        exact h
      · simp only [eX7_press_0, eX7_press_1, eX7_press_2, eX7_press_3, eX7_press_6, eX7_press_9, eX7_press_11, eX7_press_12, eX7_press_13, eX7_press_14, eX7_press_17, eX7_press_20, eX7_press_23, eX7_press_25, eX7_press_26, eX7_press_27, eX7_press_28, eX7_press_29, eX7_press_30, eX7_press_33, eX7_press_34, eX7_press_35, eX7_press_36, eX7_press_37, eX7_press_38, eX7_press_39, eX7_press_40, eX7_press_41, eX7_press_44, eX7_press_45, eX7_press_46, eX7_press_47, eX7_press_48, eX7_press_49, eX7_press_50, eX7_press_51, eX7_press_52, eX7_press_55, eX7_press_56, eX7_press_57, eX7_press_58, eX7_press_59, eX7_press_60, eX7_press_61, eX7_press_62, eX7_press_63, eX7_press_66, eX7_press_67, eX7_press_68, eX7_press_69, eX7_press_70, eX7_press_71, eX7_press_72, eX7_press_73, eX7_press_74, eX7_press_77, eX7_press_78, eX7_press_81, eX7_press_83, eX7_press_84, eX7_press_85, eX7_press_86, eX7_press_89, eX7_press_90, eX7_press_91, eX7_press_in, q_isCell, q_in, hM, n0, n1, h2, hv, Option.toList_some, Option.toList_none, List.cons_append, List.nil_append, b2_0, Classical.not_not, false_implies, true_implies, implies_true, true_and, and_true, not_true_eq_false, not_false_eq_true]
        exact h
