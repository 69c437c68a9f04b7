/-! the STATE turns -/
theorem ad15 : ∀ a, a < 15 → ∀ b, b < 15 → (if (0 : Int32) ≤ nI a - nI b then nI a - nI b else 0 - (nI a - nI b)) = nI (adf a b) := by decide +kernel
def wyR (N : Nat → Int32) (C n : Nat) : Nat := if n = 2 then wy C (N 281).toNatClampNeg (N 287).toNatClampNeg else 0
def stR (N : Nat → Int32) (C n : Nat) : Int32 := ruN (N 7) n (N 284) (nI (adf (wyR N C n) (N 17).toNatClampNeg))
def trR (N : Nat → Int32) (C n : Nat) : Nat → Int32 := upd (upd N 7 (stR N C n)) 17 (if stR N C n = 3 ∧ ¬ N 7 = 3 then nI (wyR N C n) else N 17)
theorem ru_0 {a c d c' d' : Int32} : ruN a 0 c d = ruN a 0 c' d' := by
  unfold ruN
  rw [if_pos rfl, if_pos rfl]
theorem ru_3 {n : Nat} (h : 3 ≤ n) {a c d : Int32} : ruN a n c d = 5 := by
  unfold ruN
  rw [if_neg (by omega), if_pos h]
section TRN
variable {Q : Qt} {M : Mm} {N : Nat → Int32} {R C n w : Nat} {pt : Nat → Nat}
theorem wyR_le (hR : R ≤ 8) (hC1 : 1 ≤ C) (hC : C ≤ 8) (hp : ∀ j, j < n → pt j < R * C ∧ N (281 + 6 * j) = nI (pt j)) : wyR N C n ≤ 14 := by
  unfold wyR
  by_cases h : n = 2
  · rw [if_pos h]
    have h64 := rc_le hR hC
    have a := hp 0 (by omega)
    have b := hp 1 (by omega)
    rw [show 281 = 281 + 6 * 0 by rfl, a.2, show 287 = 281 + 6 * 1 by rfl, b.2, nI_clamp (by omega), nI_clamp (by omega)]
    exact wy_le hR hC1 hC a.1 b.1
  · rw [if_neg h]
    omega
theorem c_turn {m : Nat} (hR : R ≤ 8) (hC1 : 1 ≤ C) (hC : C ≤ 8) (hn : n ≤ 6) (n1 : N 1 = nI C) (n10 : N 10 = nI n) (hw : w ≤ 14) (n17 : N 17 = nI w) (hp : ∀ j, j < n → pt j < R * C ∧ N (281 + 6 * j) = nI (pt j)) (hV : RV M.1 1 m n N) (hQ : ∀ M', FrD M M' → RV M'.1 1 m n (trR N C n) → Q none M') : kX4_changeState [.ref 1] M Q := by
  have h64 := rc_le hR hC
  have e105 : M.1 10 5 = nI n := (hV.lo (k := 10) (by omega)).trans n10
  have e31 : M.1 3 1 = nI C := (hV.lo (k := 1) (by omega)).trans n1
  have e15 : M.1 1 5 = N 7 := hV.lo (k := 7) (by omega)
  have e16 : M.1 1 6 = nI w := (hV.lo (k := 17) (by omega)).trans n17
  have wl := wyR_le hR hC1 hC hp
  have p0 : vp_in 0 6 ↔ True := vpl 0 rfl (by decide) (by decide)
  have p1 : vp_in 1 6 ↔ True := vpl 1 rfl (by decide) (by decide)
  have cw : (N 17).toNatClampNeg = w := by rw [n17, nI_clamp (by omega)]
  have ru : ruN (N 7) n (M.1 15 0) (nI (adf (wyR N C n) w)) = stR N C n := by
    unfold stR
    rw [cw]
    rcases Nat.eq_zero_or_pos n with rfl | h
    · exact ru_0
    · rw [show M.1 15 0 = N 284 from hV.trk (q := 4) h (by omega)]
  have go : V pgX4_changeState Q 43 [.ref 1, .null, .null] [.int (nI (wyR N C n))] M := by
    simp only [eX4_changeState_0, eX4_changeState_1, eX4_changeState_4, eX4_changeState_7, eX4_changeState_8, eX4_changeState_11, eX4_changeState_12, eX4_changeState_15, eX4_changeState_18, eX4_changeState_19, eX4_changeState_20, eX4_changeState_21, eX4_changeState_24, eX4_changeState_27, eX4_changeState_28, eX4_changeState_29, eX4_changeState_30, eX4_changeState_33, eX4_changeState_36, eX4_changeState_39, eX4_changeState_42, eX4_changeState_43, eX4_changeState_44, eX4_changeState_45, eX4_changeState_48, eX4_changeState_49, eX4_changeState_52, eX4_changeState_55, eX4_changeState_56, eX4_changeState_59, eX4_changeState_62, eX4_changeState_63, eX4_changeState_64, eX4_changeState_65, eX4_changeState_66, eX4_changeState_69, eX4_changeState_70, eX4_changeState_73, eX4_changeState_76, eX4_changeState_77, eX4_changeState_78, eX4_changeState_79, eX4_changeState_82, eX4_changeState_83, eX4_changeState_86, eX4_changeState_87, eX4_changeState_90, eX4_changeState_91, eX4_changeState_92, eX4_changeState_95, eX4_changeState_96, eX4_changeState_97, eX4_changeState_100, eX4_changeState_in, p0, tn_0, e15, e16, e105, ad15 _ (show wyR N C n < 15 by omega) _ (show w < 15 by omega), Option.toList_some, Option.toList_none, List.cons_append, List.nil_append, b2_0, Classical.not_not, false_implies, true_implies, implies_true, true_and, and_true, not_true_eq_false, not_false_eq_true]
    refine q_stateAfter (by omega) ?_
    rw [ru]
    have f7 : (RV (setI M 1 5 (stR N C n)).1 1 m n (upd N 7 (stR N C n))) := hV.put (e := 7) (by decide) (by decide)
    have same : ¬ (stR N C n = 3 ∧ ¬ N 7 = 3) → RV (setI M 1 5 (stR N C n)).1 1 m n (trR N C n) := fun h => by
      refine f7.eqv (fun k _ => ?_)
      unfold trR
      rw [if_neg h]
      by_cases e : k = 17
      · subst e
        rw [upd_at, upd_ne (by omega)]
      · rw [upd_ne e]
    simp only [eX4_changeState_0, eX4_changeState_1, eX4_changeState_4, eX4_changeState_7, eX4_changeState_8, eX4_changeState_11, eX4_changeState_12, eX4_changeState_15, eX4_changeState_18, eX4_changeState_19, eX4_changeState_20, eX4_changeState_21, eX4_changeState_24, eX4_changeState_27, eX4_changeState_28, eX4_changeState_29, eX4_changeState_30, eX4_changeState_33, eX4_changeState_36, eX4_changeState_39, eX4_changeState_42, eX4_changeState_43, eX4_changeState_44, eX4_changeState_45, eX4_changeState_48, eX4_changeState_49, eX4_changeState_52, eX4_changeState_55, eX4_changeState_56, eX4_changeState_59, eX4_changeState_62, eX4_changeState_63, eX4_changeState_64, eX4_changeState_65, eX4_changeState_66, eX4_changeState_69, eX4_changeState_70, eX4_changeState_73, eX4_changeState_76, eX4_changeState_77, eX4_changeState_78, eX4_changeState_79, eX4_changeState_82, eX4_changeState_83, eX4_changeState_86, eX4_changeState_87, eX4_changeState_90, eX4_changeState_91, eX4_changeState_92, eX4_changeState_95, eX4_changeState_96, eX4_changeState_97, eX4_changeState_100, eX4_changeState_in, e15, Option.toList_some, Option.toList_none, List.cons_append, List.nil_append, b2_0, Classical.not_not, false_implies, true_implies, implies_true, true_and, and_true, not_true_eq_false, not_false_eq_true]
    refine ⟨fun z => hQ _ (FrD.rf.set (by omega)) (same (fun u => z u.1)), fun z => ⟨fun y => hQ _ (FrD.rf.set (by omega)) (same (fun u => u.2 y)), fun y => hQ _ ((FrD.rf.set (by omega)).set (by omega)) ?_⟩⟩
    unfold trR
    rw [if_pos ⟨z, y⟩, upd_cm (by omega)]
    exact (hV.put (e := 17) (by decide) (by decide)).put (e := 7) (by decide) (by decide)
  have two : (nI n = 2) ↔ n = 2 := nI_eq (b := 2) (by omega) (by omega)
  simp only [eX4_changeState_0, eX4_changeState_1, eX4_changeState_4, eX4_changeState_7, eX4_changeState_8, eX4_changeState_11, eX4_changeState_12, eX4_changeState_15, eX4_changeState_18, eX4_changeState_19, eX4_changeState_20, eX4_changeState_21, eX4_changeState_24, eX4_changeState_27, eX4_changeState_28, eX4_changeState_29, eX4_changeState_30, eX4_changeState_33, eX4_changeState_36, eX4_changeState_39, eX4_changeState_42, eX4_changeState_44, eX4_changeState_45, eX4_changeState_48, eX4_changeState_49, eX4_changeState_52, eX4_changeState_55, eX4_changeState_56, eX4_changeState_59, eX4_changeState_62, eX4_changeState_63, eX4_changeState_64, eX4_changeState_65, eX4_changeState_66, eX4_changeState_69, eX4_changeState_70, eX4_changeState_73, eX4_changeState_76, eX4_changeState_77, eX4_changeState_78, eX4_changeState_79, eX4_changeState_82, eX4_changeState_83, eX4_changeState_86, eX4_changeState_87, eX4_changeState_90, eX4_changeState_91, eX4_changeState_92, eX4_changeState_95, eX4_changeState_96, eX4_changeState_97, eX4_changeState_100, eX4_changeState_in, e105, two, p0, p1, tn_0, tn_1, e31, Option.toList_some, Option.toList_none, List.cons_append, List.nil_append, b2_0, Classical.not_not, false_implies, true_implies, implies_true, true_and, and_true, not_true_eq_false, not_false_eq_true]
  refine ⟨fun z => ?_, fun z => ?_⟩
  · have : wyR N C n = 0 := by unfold wyR; rw [if_neg z]
    rw [this] at go
    exact go
  · have a := hp 0 (by omega)
    have b := hp 1 (by omega)
    rw [show M.1 12 0 = N (281 + 6 * 0) from hV.trk (q := 1) (by omega) (by omega), show M.1 12 1 = N (281 + 6 * 1) from hV.trk (j := 1) (q := 1) (by omega) (by omega), a.2, b.2]
    refine c_way hR hC1 hC a.1 b.1 ?_
    simp only [eX4_changeState_0, eX4_changeState_1, eX4_changeState_4, eX4_changeState_7, eX4_changeState_8, eX4_changeState_11, eX4_changeState_12, eX4_changeState_15, eX4_changeState_18, eX4_changeState_19, eX4_changeState_20, eX4_changeState_21, eX4_changeState_24, eX4_changeState_27, eX4_changeState_28, eX4_changeState_29, eX4_changeState_30, eX4_changeState_33, eX4_changeState_36, eX4_changeState_39, eX4_changeState_42, eX4_changeState_44, eX4_changeState_45, eX4_changeState_48, eX4_changeState_49, eX4_changeState_52, eX4_changeState_55, eX4_changeState_56, eX4_changeState_59, eX4_changeState_62, eX4_changeState_63, eX4_changeState_64, eX4_changeState_65, eX4_changeState_66, eX4_changeState_69, eX4_changeState_70, eX4_changeState_73, eX4_changeState_76, eX4_changeState_77, eX4_changeState_78, eX4_changeState_79, eX4_changeState_82, eX4_changeState_83, eX4_changeState_86, eX4_changeState_87, eX4_changeState_90, eX4_changeState_91, eX4_changeState_92, eX4_changeState_95, eX4_changeState_96, eX4_changeState_97, eX4_changeState_100, eX4_changeState_in, Option.toList_some, Option.toList_none, List.cons_append, List.nil_append, b2_0, Classical.not_not, false_implies, true_implies, implies_true, true_and, and_true, not_true_eq_false, not_false_eq_true]
    have : wyR N C n = wy C (pt 0) (pt 1) := by
      unfold wyR
      rw [if_pos z, show 281 = 281 + 6 * 0 by rfl, a.2, show 287 = 281 + 6 * 1 by rfl, b.2, nI_clamp (by omega), nI_clamp (by omega)]
    rw [this] at go
    exact go
theorem m_turn (hR : R ≤ 8) (hC1 : 1 ≤ C) (hC : C ≤ 8) (hn : n ≤ 6) (n1 : N 1 = nI C) (n10 : N 10 = nI n) (hw : w ≤ 14) (n17 : N 17 = nI w) (hp : ∀ j, j < n → pt j < R * C ∧ N (281 + 6 * j) = nI (pt j)) (hN : M.1 52 = N) (hQ : ∀ M', FrN M M' → M'.1 52 = trR N C n → Q none M') : kX7_turns [.ref 51] M Q := by
  have h64 := rc_le hR hC
  have cw : (N 17).toNatClampNeg = w := by rw [n17, nI_clamp (by omega)]
  have c281 : Int32.toNatClampNeg (280 + 6 * 0 + 1) = 281 := by decide
  have c287 : Int32.toNatClampNeg (280 + 6 * 1 + 1) = 287 := by decide
  have c284 : Int32.toNatClampNeg (280 + 6 * 0 + 4) = 284 := by decide
  have q281 : vp_in (280 + 6 * 0 + 1) 316 ↔ True := vpl 281 rfl (by decide) (by decide)
  have q287 : vp_in (280 + 6 * 1 + 1) 316 ↔ True := vpl 287 rfl (by decide) (by decide)
  have q284 : vp_in (280 + 6 * 0 + 4) 316 ↔ True := vpl 284 rfl (by decide) (by decide)
  have one : (nI n ≤ 1) ↔ n ≤ 1 := nI_leI (b := 1) (by omega) (by omega)
  have go : ∀ x, x ≤ 14 → (n ≤ 2 → x = wyR N C n) → V pgX7_turns Q 31 [.ref 51, .null, .null, .null] [.int (nI x)] M := by
    intro x hx hxe
    have d1 : nI x ≤ nI w → nI w - nI x = nI (adf x w) := fun h => by
      have : x ≤ w := (nI_leI (by omega) (by omega)).mp h
      rw [pk_sub this]
      unfold adf
      rw [if_pos this]
    have d2 : ¬ nI x ≤ nI w → nI x - nI w = nI (adf x w) := fun h => by
      have : ¬ x ≤ w := fun u => h ((nI_leI (by omega) (by omega)).mpr u)
      rw [pk_sub (by omega)]
      unfold adf
      rw [if_neg this]
    have ru : ruN (N 7) n (N 284) (nI (adf x w)) = stR N C n := by
      unfold stR
      rw [cw]
      by_cases h : n ≤ 2
      · rw [hxe h]
      · rw [ru_3 (by omega), ru_3 (by omega)]
    have go2 : V pgX7_turns Q 64 [.ref 51, .int (nI x), .null, .null] [.int (nI (adf x w))] M := by
      simp only [eX7_turns_0, eX7_turns_1, eX7_turns_4, eX7_turns_6, eX7_turns_7, eX7_turns_8, eX7_turns_11, eX7_turns_12, eX7_turns_13, eX7_turns_14, eX7_turns_15, eX7_turns_18, eX7_turns_19, eX7_turns_20, eX7_turns_21, eX7_turns_24, eX7_turns_27, eX7_turns_30, eX7_turns_31, eX7_turns_32, eX7_turns_33, eX7_turns_34, eX7_turns_37, eX7_turns_39, eX7_turns_40, eX7_turns_43, eX7_turns_44, eX7_turns_45, eX7_turns_48, eX7_turns_50, eX7_turns_51, eX7_turns_52, eX7_turns_55, eX7_turns_56, eX7_turns_59, eX7_turns_61, eX7_turns_62, eX7_turns_63, eX7_turns_64, eX7_turns_65, eX7_turns_66, eX7_turns_69, eX7_turns_71, eX7_turns_72, eX7_turns_73, eX7_turns_74, eX7_turns_77, eX7_turns_79, eX7_turns_80, eX7_turns_81, eX7_turns_84, eX7_turns_86, eX7_turns_87, eX7_turns_88, eX7_turns_89, eX7_turns_90, eX7_turns_93, eX7_turns_94, eX7_turns_97, eX7_turns_98, eX7_turns_99, eX7_turns_102, eX7_turns_104, eX7_turns_105, eX7_turns_108, eX7_turns_110, eX7_turns_111, eX7_turns_112, eX7_turns_115, eX7_turns_116, eX7_turns_117, eX7_turns_120, eX7_turns_121, eX7_turns_124, eX7_turns_125, eX7_turns_128, eX7_turns_130, eX7_turns_131, eX7_turns_132, eX7_turns_in, v7, tn_7, v10, tn_10, hN, n10, q_trackAt, q284, c284, Option.toList_some, Option.toList_none, List.cons_append, List.nil_append, b2_0, Classical.not_not, false_implies, true_implies, implies_true, true_and, and_true, not_true_eq_false, not_false_eq_true]
      refine q_ruled (by omega) ?_
      rw [ru]
      have a7 : (setI M 52 7 (stR N C n)).1 52 7 = stR N C n := by rw [setI_at, upd_at]
      have a17 : (setI M 52 7 (stR N C n)).1 52 17 = N 17 := by rw [setI_at, upd_ne (by omega), hN]
      simp only [eX7_turns_0, eX7_turns_1, eX7_turns_4, eX7_turns_6, eX7_turns_7, eX7_turns_8, eX7_turns_11, eX7_turns_12, eX7_turns_13, eX7_turns_14, eX7_turns_15, eX7_turns_18, eX7_turns_19, eX7_turns_20, eX7_turns_21, eX7_turns_24, eX7_turns_27, eX7_turns_30, eX7_turns_31, eX7_turns_32, eX7_turns_33, eX7_turns_34, eX7_turns_37, eX7_turns_39, eX7_turns_40, eX7_turns_43, eX7_turns_44, eX7_turns_45, eX7_turns_48, eX7_turns_50, eX7_turns_51, eX7_turns_52, eX7_turns_55, eX7_turns_56, eX7_turns_59, eX7_turns_61, eX7_turns_62, eX7_turns_63, eX7_turns_64, eX7_turns_65, eX7_turns_66, eX7_turns_69, eX7_turns_71, eX7_turns_72, eX7_turns_73, eX7_turns_74, eX7_turns_77, eX7_turns_79, eX7_turns_80, eX7_turns_81, eX7_turns_84, eX7_turns_86, eX7_turns_87, eX7_turns_88, eX7_turns_89, eX7_turns_90, eX7_turns_93, eX7_turns_94, eX7_turns_97, eX7_turns_98, eX7_turns_99, eX7_turns_102, eX7_turns_104, eX7_turns_105, eX7_turns_108, eX7_turns_110, eX7_turns_111, eX7_turns_112, eX7_turns_115, eX7_turns_116, eX7_turns_117, eX7_turns_120, eX7_turns_121, eX7_turns_124, eX7_turns_125, eX7_turns_128, eX7_turns_130, eX7_turns_131, eX7_turns_132, eX7_turns_in, v7, tn_7, v17, tn_17, a7, a17, Option.toList_some, Option.toList_none, List.cons_append, List.nil_append, b2_0, Classical.not_not, false_implies, true_implies, implies_true, true_and, and_true, not_true_eq_false, not_false_eq_true]
      have kp : ¬ (stR N C n = 3 ∧ ¬ N 7 = 3) → Q none (setI (setI M 52 7 (stR N C n)) 52 17 (N 17)) := fun h => by
        refine hQ _ ((FrN.rf.set (by omega)).set (by omega)) ?_
        rw [setI_at, setI_at, hN]
        unfold trR
        rw [if_neg h]
      refine ⟨fun z => kp (fun u => z u.1), fun z => ⟨fun y => kp (fun u => u.2 y), fun y => ?_⟩⟩
      refine hQ _ ((FrN.rf.set (by omega)).set (by omega)) ?_
      rw [setI_at, setI_at, hN]
      unfold trR
      rw [if_pos ⟨z, y⟩]
      have : n ≤ 2 := by
        apply Classical.byContradiction
        intro h
        rw [← ru, ru_3 (by omega)] at z
        exact absurd z (by decide)
      rw [hxe this]
    simp only [eX7_turns_0, eX7_turns_1, eX7_turns_4, eX7_turns_6, eX7_turns_7, eX7_turns_8, eX7_turns_11, eX7_turns_12, eX7_turns_13, eX7_turns_14, eX7_turns_15, eX7_turns_18, eX7_turns_19, eX7_turns_20, eX7_turns_21, eX7_turns_24, eX7_turns_27, eX7_turns_30, eX7_turns_31, eX7_turns_32, eX7_turns_33, eX7_turns_34, eX7_turns_37, eX7_turns_39, eX7_turns_40, eX7_turns_43, eX7_turns_44, eX7_turns_45, eX7_turns_48, eX7_turns_50, eX7_turns_51, eX7_turns_52, eX7_turns_55, eX7_turns_56, eX7_turns_59, eX7_turns_61, eX7_turns_62, eX7_turns_63, eX7_turns_65, eX7_turns_66, eX7_turns_69, eX7_turns_71, eX7_turns_72, eX7_turns_73, eX7_turns_74, eX7_turns_77, eX7_turns_79, eX7_turns_80, eX7_turns_81, eX7_turns_84, eX7_turns_86, eX7_turns_87, eX7_turns_88, eX7_turns_89, eX7_turns_90, eX7_turns_93, eX7_turns_94, eX7_turns_97, eX7_turns_98, eX7_turns_99, eX7_turns_102, eX7_turns_104, eX7_turns_105, eX7_turns_108, eX7_turns_110, eX7_turns_111, eX7_turns_112, eX7_turns_115, eX7_turns_116, eX7_turns_117, eX7_turns_120, eX7_turns_121, eX7_turns_124, eX7_turns_125, eX7_turns_128, eX7_turns_130, eX7_turns_131, eX7_turns_132, eX7_turns_in, v17, tn_17, hN, n17, Option.toList_some, Option.toList_none, List.cons_append, List.nil_append, b2_0, Classical.not_not, false_implies, true_implies, implies_true, true_and, and_true, not_true_eq_false, not_false_eq_true]
    refine ⟨fun z => ?_, fun z => ?_⟩
    · rw [d1 z]
      exact go2
    · rw [d2 z]
      exact go2
  simp only [eX7_turns_0, eX7_turns_1, eX7_turns_4, eX7_turns_6, eX7_turns_7, eX7_turns_8, eX7_turns_11, eX7_turns_12, eX7_turns_13, eX7_turns_14, eX7_turns_15, eX7_turns_18, eX7_turns_19, eX7_turns_20, eX7_turns_21, eX7_turns_24, eX7_turns_27, eX7_turns_30, eX7_turns_32, eX7_turns_33, eX7_turns_34, eX7_turns_37, eX7_turns_39, eX7_turns_40, eX7_turns_43, eX7_turns_44, eX7_turns_45, eX7_turns_48, eX7_turns_50, eX7_turns_51, eX7_turns_52, eX7_turns_55, eX7_turns_56, eX7_turns_59, eX7_turns_61, eX7_turns_62, eX7_turns_63, eX7_turns_64, eX7_turns_65, eX7_turns_66, eX7_turns_69, eX7_turns_71, eX7_turns_72, eX7_turns_73, eX7_turns_74, eX7_turns_77, eX7_turns_79, eX7_turns_80, eX7_turns_81, eX7_turns_84, eX7_turns_86, eX7_turns_87, eX7_turns_88, eX7_turns_89, eX7_turns_90, eX7_turns_93, eX7_turns_94, eX7_turns_97, eX7_turns_98, eX7_turns_99, eX7_turns_102, eX7_turns_104, eX7_turns_105, eX7_turns_108, eX7_turns_110, eX7_turns_111, eX7_turns_112, eX7_turns_115, eX7_turns_116, eX7_turns_117, eX7_turns_120, eX7_turns_121, eX7_turns_124, eX7_turns_125, eX7_turns_128, eX7_turns_130, eX7_turns_131, eX7_turns_132, eX7_turns_in, v10, tn_10, hN, n10, one, q_trackAt, q281, q287, c281, c287, Option.toList_some, Option.toList_none, List.cons_append, List.nil_append, b2_0, Classical.not_not, false_implies, true_implies, implies_true, true_and, and_true, not_true_eq_false, not_false_eq_true]
  refine ⟨fun z => ?_, fun z => ?_⟩
  · exact go 0 (by omega) (fun _ => by unfold wyR; rw [if_neg (by omega)])
  · have a := hp 0 (by omega)
    have b := hp 1 (by omega)
    rw [show N 281 = nI (pt 0) from a.2, show N 287 = nI (pt 1) from b.2]
    refine m_way hR hC1 hC a.1 b.1 (by rw [hN]; exact n1) ?_
    simp only [eX7_turns_0, eX7_turns_1, eX7_turns_4, eX7_turns_6, eX7_turns_7, eX7_turns_8, eX7_turns_11, eX7_turns_12, eX7_turns_13, eX7_turns_14, eX7_turns_15, eX7_turns_18, eX7_turns_19, eX7_turns_20, eX7_turns_21, eX7_turns_24, eX7_turns_27, eX7_turns_30, eX7_turns_32, eX7_turns_33, eX7_turns_34, eX7_turns_37, eX7_turns_39, eX7_turns_40, eX7_turns_43, eX7_turns_44, eX7_turns_45, eX7_turns_48, eX7_turns_50, eX7_turns_51, eX7_turns_52, eX7_turns_55, eX7_turns_56, eX7_turns_59, eX7_turns_61, eX7_turns_62, eX7_turns_63, eX7_turns_64, eX7_turns_65, eX7_turns_66, eX7_turns_69, eX7_turns_71, eX7_turns_72, eX7_turns_73, eX7_turns_74, eX7_turns_77, eX7_turns_79, eX7_turns_80, eX7_turns_81, eX7_turns_84, eX7_turns_86, eX7_turns_87, eX7_turns_88, eX7_turns_89, eX7_turns_90, eX7_turns_93, eX7_turns_94, eX7_turns_97, eX7_turns_98, eX7_turns_99, eX7_turns_102, eX7_turns_104, eX7_turns_105, eX7_turns_108, eX7_turns_110, eX7_turns_111, eX7_turns_112, eX7_turns_115, eX7_turns_116, eX7_turns_117, eX7_turns_120, eX7_turns_121, eX7_turns_124, eX7_turns_125, eX7_turns_128, eX7_turns_130, eX7_turns_131, eX7_turns_132, eX7_turns_in, Option.toList_some, Option.toList_none, List.cons_append, List.nil_append, b2_0, Classical.not_not, false_implies, true_implies, implies_true, true_and, and_true, not_true_eq_false, not_false_eq_true]
    refine go _ (wy_le hR hC1 hC a.1 b.1) (fun h => ?_)
    unfold wyR
    rw [if_pos (by omega), show 281 = 281 + 6 * 0 by rfl, a.2, show 287 = 281 + 6 * 1 by rfl, b.2, nI_clamp (by omega), nI_clamp (by omega)]
end TRN
