/-! images: one scene copied into another -/
def tcp (M : Mm) (d s i : Nat) : Mm := (fun a => if d + 10 ≤ a ∧ a ≤ d + 14 then (fun k => if k < i then M.1 (s + (a - d)) k else M.1 a k) else M.1 a, M.2)
theorem tcp_0 (M : Mm) (d s : Nat) : tcp M d s 0 = M := by
  unfold tcp
  ext a
  · simp
  · rfl
theorem upd_lt (f g : Nat → Int32) (i : Nat) : upd (fun k => if k < i then f k else g k) i (f i) = fun k => if k < i + 1 then f k else g k := by
  funext k
  simp only [upd]
  by_cases h : k = i
  · subst h
    rw [if_pos rfl, if_pos (by omega)]
  · rw [if_neg h]
    by_cases h2 : k < i
    · rw [if_pos h2, if_pos (by omega)]
    · rw [if_neg h2, if_neg (by omega)]
theorem cpy_all {f g : Nat → Int32} {n k : Nat} (h : k < n) : va_cpy f g 0 0 n k = f k := by
  rw [pk_cpy_in (Nat.zero_le _) (by omega)]
  congr 1
  omega
theorem tn_64 : Int32.toNatClampNeg 64 = 64 := rfl
def CpD (M M' : Mm) (d s : Nat) : Prop := (∀ a, ¬ (d ≤ a ∧ a ≤ d + 14) → M'.1 a = M.1 a) ∧ ∀ k, vld 6 6 k → enc M'.1 d k = enc M.1 s k
theorem setA_ne {M : Mm} {a b : Nat} {f : Nat → Int32} (h : b ≠ a) : (setA M a f).1 b = M.1 b := by simp [setA, h]
theorem setA_at {M : Mm} {a : Nat} {f : Nat → Int32} : (setA M a f).1 a = f := by simp [setA]
theorem tcp_ne {M : Mm} {d s i a : Nat} (h : ¬ (d + 10 ≤ a ∧ a ≤ d + 14)) : (tcp M d s i).1 a = M.1 a := by simp only [tcp, h, if_false]
theorem tcp_at {M : Mm} {d s i a k : Nat} (h : d + 10 ≤ a ∧ a ≤ d + 14) (hk : k < i) : (tcp M d s i).1 a k = M.1 (s + (a - d)) k := by simp only [tcp, h, hk, if_true, and_self]
theorem upd_at {f : Nat → Int32} {k : Nat} {x : Int32} : upd f k x k = x := by simp [upd]
theorem upd_ne {f : Nat → Int32} {k j : Nat} {x : Int32} (h : j ≠ k) : upd f k x j = f j := by simp [upd, h]
theorem l_tcopy_16_1 {Q : Qt} {M : Mm} (hQ : V pgX5_copyFrom Q 74 [.ref 25, .ref 10, .int 6] [] (tcp M 16 1 6)) : ∀ (n i : Nat), i + n = 6 → V pgX5_copyFrom Q 2 [.ref 25, .ref 10, .int (nI i)] [] (tcp M 16 1 i) := by
  intro n
  induction n with
  | zero =>
    intro i hi
    have : i = 6 := by omega
    subst this
    rw [eX5_copyFrom_25_10_2]
    simp only [eX5_copyFrom_25_10_0, eX5_copyFrom_25_10_1, eX5_copyFrom_25_10_3, eX5_copyFrom_25_10_5, eX5_copyFrom_25_10_8, eX5_copyFrom_25_10_9, eX5_copyFrom_25_10_12, eX5_copyFrom_25_10_13, eX5_copyFrom_25_10_14, eX5_copyFrom_25_10_17, eX5_copyFrom_25_10_18, eX5_copyFrom_25_10_19, eX5_copyFrom_25_10_20, eX5_copyFrom_25_10_21, eX5_copyFrom_25_10_24, eX5_copyFrom_25_10_25, eX5_copyFrom_25_10_26, eX5_copyFrom_25_10_29, eX5_copyFrom_25_10_30, eX5_copyFrom_25_10_31, eX5_copyFrom_25_10_32, eX5_copyFrom_25_10_33, eX5_copyFrom_25_10_36, eX5_copyFrom_25_10_37, eX5_copyFrom_25_10_38, eX5_copyFrom_25_10_41, eX5_copyFrom_25_10_42, eX5_copyFrom_25_10_43, eX5_copyFrom_25_10_44, eX5_copyFrom_25_10_45, eX5_copyFrom_25_10_48, eX5_copyFrom_25_10_49, eX5_copyFrom_25_10_50, eX5_copyFrom_25_10_53, eX5_copyFrom_25_10_54, eX5_copyFrom_25_10_55, eX5_copyFrom_25_10_56, eX5_copyFrom_25_10_57, eX5_copyFrom_25_10_60, eX5_copyFrom_25_10_61, eX5_copyFrom_25_10_62, eX5_copyFrom_25_10_65, eX5_copyFrom_25_10_66, eX5_copyFrom_25_10_67, eX5_copyFrom_25_10_68, eX5_copyFrom_25_10_71, eX5_copyFrom_25_10_75, eX5_copyFrom_25_10_76, eX5_copyFrom_25_10_79, eX5_copyFrom_25_10_82, eX5_copyFrom_25_10_83, eX5_copyFrom_25_10_84, eX5_copyFrom_25_10_87, eX5_copyFrom_25_10_90, eX5_copyFrom_25_10_91, eX5_copyFrom_25_10_92, eX5_copyFrom_25_10_95, eX5_copyFrom_25_10_98, eX5_copyFrom_25_10_99, eX5_copyFrom_25_10_100, eX5_copyFrom_25_10_103, eX5_copyFrom_25_10_106, eX5_copyFrom_25_10_in]
    exact ⟨fun _ => hQ, fun z => absurd (by decide) z⟩
  | succ n ih =>
    intro i hi
    have h1 : ¬ ((6 : Int32) ≤ nI i) := nI_ge (b := 6) (by omega) (by omega)
    have h2 : (nI i).toNatClampNeg = i := nI_clamp (by omega)
    have h3 : vp_in (nI i) 6 := vpn (by omega) (by decide)
    rw [eX5_copyFrom_25_10_2]
    simp only [eX5_copyFrom_25_10_0, eX5_copyFrom_25_10_1, eX5_copyFrom_25_10_3, eX5_copyFrom_25_10_5, eX5_copyFrom_25_10_8, eX5_copyFrom_25_10_9, eX5_copyFrom_25_10_12, eX5_copyFrom_25_10_13, eX5_copyFrom_25_10_14, eX5_copyFrom_25_10_17, eX5_copyFrom_25_10_18, eX5_copyFrom_25_10_19, eX5_copyFrom_25_10_20, eX5_copyFrom_25_10_21, eX5_copyFrom_25_10_24, eX5_copyFrom_25_10_25, eX5_copyFrom_25_10_26, eX5_copyFrom_25_10_29, eX5_copyFrom_25_10_30, eX5_copyFrom_25_10_31, eX5_copyFrom_25_10_32, eX5_copyFrom_25_10_33, eX5_copyFrom_25_10_36, eX5_copyFrom_25_10_37, eX5_copyFrom_25_10_38, eX5_copyFrom_25_10_41, eX5_copyFrom_25_10_42, eX5_copyFrom_25_10_43, eX5_copyFrom_25_10_44, eX5_copyFrom_25_10_45, eX5_copyFrom_25_10_48, eX5_copyFrom_25_10_49, eX5_copyFrom_25_10_50, eX5_copyFrom_25_10_53, eX5_copyFrom_25_10_54, eX5_copyFrom_25_10_55, eX5_copyFrom_25_10_56, eX5_copyFrom_25_10_57, eX5_copyFrom_25_10_60, eX5_copyFrom_25_10_61, eX5_copyFrom_25_10_62, eX5_copyFrom_25_10_65, eX5_copyFrom_25_10_66, eX5_copyFrom_25_10_67, eX5_copyFrom_25_10_68, eX5_copyFrom_25_10_71, eX5_copyFrom_25_10_75, eX5_copyFrom_25_10_76, eX5_copyFrom_25_10_79, eX5_copyFrom_25_10_82, eX5_copyFrom_25_10_83, eX5_copyFrom_25_10_84, eX5_copyFrom_25_10_87, eX5_copyFrom_25_10_90, eX5_copyFrom_25_10_91, eX5_copyFrom_25_10_92, eX5_copyFrom_25_10_95, eX5_copyFrom_25_10_98, eX5_copyFrom_25_10_99, eX5_copyFrom_25_10_100, eX5_copyFrom_25_10_103, eX5_copyFrom_25_10_106, eX5_copyFrom_25_10_in, h1, h2, h3, nI_1, Option.toList_some, Option.toList_none, List.cons_append, List.nil_append, b2_0, Classical.not_not, false_implies, true_implies, implies_true, true_and, and_true, not_true_eq_false, not_false_eq_true]
    have e : setI (setI (setI (setI (setI (tcp M 16 1 i) 26 i ((tcp M 16 1 i).1 11 i)) 27 i ((setI (tcp M 16 1 i) 26 i ((tcp M 16 1 i).1 11 i)).1 12 i)) 28 i ((setI (setI (tcp M 16 1 i) 26 i ((tcp M 16 1 i).1 11 i)) 27 i ((setI (tcp M 16 1 i) 26 i ((tcp M 16 1 i).1 11 i)).1 12 i)).1 13 i)) 29 i ((setI (setI (setI (tcp M 16 1 i) 26 i ((tcp M 16 1 i).1 11 i)) 27 i ((setI (tcp M 16 1 i) 26 i ((tcp M 16 1 i).1 11 i)).1 12 i)) 28 i ((setI (setI (tcp M 16 1 i) 26 i ((tcp M 16 1 i).1 11 i)) 27 i ((setI (tcp M 16 1 i) 26 i ((tcp M 16 1 i).1 11 i)).1 12 i)).1 13 i)).1 14 i)) 30 i ((setI (setI (setI (setI (tcp M 16 1 i) 26 i ((tcp M 16 1 i).1 11 i)) 27 i ((setI (tcp M 16 1 i) 26 i ((tcp M 16 1 i).1 11 i)).1 12 i)) 28 i ((setI (setI (tcp M 16 1 i) 26 i ((tcp M 16 1 i).1 11 i)) 27 i ((setI (tcp M 16 1 i) 26 i ((tcp M 16 1 i).1 11 i)).1 12 i)).1 13 i)) 29 i ((setI (setI (setI (tcp M 16 1 i) 26 i ((tcp M 16 1 i).1 11 i)) 27 i ((setI (tcp M 16 1 i) 26 i ((tcp M 16 1 i).1 11 i)).1 12 i)) 28 i ((setI (setI (tcp M 16 1 i) 26 i ((tcp M 16 1 i).1 11 i)) 27 i ((setI (tcp M 16 1 i) 26 i ((tcp M 16 1 i).1 11 i)).1 12 i)).1 13 i)).1 14 i)).1 15 i) = tcp M 16 1 (i + 1) := by
      ext a
      · rcases (show a = 26 ∨ a = 27 ∨ a = 28 ∨ a = 29 ∨ a = 30 ∨ ¬ (26 ≤ a ∧ a ≤ 30) by omega) with rfl | rfl | rfl | rfl | rfl | h
        · simp [setI, tcp, upd_lt]
        · simp [setI, tcp, upd_lt]
        · simp [setI, tcp, upd_lt]
        · simp [setI, tcp, upd_lt]
        · simp [setI, tcp, upd_lt]
        · have g0 : a ≠ 26 := by omega
          have g1 : a ≠ 27 := by omega
          have g2 : a ≠ 28 := by omega
          have g3 : a ≠ 29 := by omega
          have g4 : a ≠ 30 := by omega
          simp only [setI, tcp, g0, g1, g2, g3, g4, if_false, h]
      · rfl
    rw [e]
    exact ih (i + 1) (by omega)
theorem c_copy_16_1 {Q : Qt} {M : Mm} (hQ : ∀ M', CpD M M' 16 1 → Q none M') : kX4_copyFrom [.ref 16, .ref 1] M Q := by
  have n0 : ¬ ((0 : Int32) < 0) := by decide
  have n4 : ¬ ((Int32.ofNat 4) < 0) := by decide
  have n6 : ¬ ((6 : Int32) < 0) := by decide
  have n64 : ¬ ((64 : Int32) < 0) := by decide
  have t4 : (Int32.ofNat 4).toNatClampNeg = 4 := rfl
  have l4 : 0 + 4 ≤ 4 := by decide
  have l6 : 0 + 6 ≤ 6 := by decide
  have l64 : 0 + 64 ≤ 64 := by decide
  simp only [eX4_copyFrom_16_1_0, eX4_copyFrom_16_1_1, eX4_copyFrom_16_1_4, eX4_copyFrom_16_1_5, eX4_copyFrom_16_1_6, eX4_copyFrom_16_1_9, eX4_copyFrom_16_1_10, eX4_copyFrom_16_1_11, eX4_copyFrom_16_1_14, eX4_copyFrom_16_1_15, eX4_copyFrom_16_1_18, eX4_copyFrom_16_1_19, eX4_copyFrom_16_1_22, eX4_copyFrom_16_1_23, eX4_copyFrom_16_1_26, eX4_copyFrom_16_1_29, eX4_copyFrom_16_1_30, eX4_copyFrom_16_1_33, eX4_copyFrom_16_1_34, eX4_copyFrom_16_1_37, eX4_copyFrom_16_1_40, eX4_copyFrom_16_1_41, eX4_copyFrom_16_1_44, eX4_copyFrom_16_1_45, eX4_copyFrom_16_1_48, eX4_copyFrom_16_1_51, eX4_copyFrom_16_1_52, eX4_copyFrom_16_1_53, eX4_copyFrom_16_1_56, eX4_copyFrom_16_1_59, eX4_copyFrom_16_1_60, eX4_copyFrom_16_1_61, eX4_copyFrom_16_1_64, eX4_copyFrom_16_1_67, eX4_copyFrom_16_1_68, eX4_copyFrom_16_1_69, eX4_copyFrom_16_1_72, eX4_copyFrom_16_1_75, eX4_copyFrom_16_1_in, eX1_copyFrom_18_3_0, eX1_copyFrom_18_3_1, eX1_copyFrom_18_3_2, eX1_copyFrom_18_3_5, eX1_copyFrom_18_3_8, eX1_copyFrom_18_3_9, eX1_copyFrom_18_3_10, eX1_copyFrom_18_3_13, eX1_copyFrom_18_3_16, eX1_copyFrom_18_3_17, eX1_copyFrom_18_3_20, eX1_copyFrom_18_3_21, eX1_copyFrom_18_3_22, eX1_copyFrom_18_3_25, eX1_copyFrom_18_3_26, eX1_copyFrom_18_3_28, eX1_copyFrom_18_3_31, eX1_copyFrom_18_3_32, eX1_copyFrom_18_3_35, eX1_copyFrom_18_3_36, eX1_copyFrom_18_3_37, eX1_copyFrom_18_3_40, eX1_copyFrom_18_3_41, eX1_copyFrom_18_3_43, eX1_copyFrom_18_3_46, eX1_copyFrom_18_3_47, eX1_copyFrom_18_3_50, eX1_copyFrom_18_3_51, eX1_copyFrom_18_3_52, eX1_copyFrom_18_3_55, eX1_copyFrom_18_3_56, eX1_copyFrom_18_3_58, eX1_copyFrom_18_3_61, eX1_copyFrom_18_3_62, eX1_copyFrom_18_3_65, eX1_copyFrom_18_3_66, eX1_copyFrom_18_3_67, eX1_copyFrom_18_3_70, eX1_copyFrom_18_3_71, eX1_copyFrom_18_3_73, eX1_copyFrom_18_3_76, eX1_copyFrom_18_3_77, eX1_copyFrom_18_3_78, eX1_copyFrom_18_3_81, eX1_copyFrom_18_3_84, eX1_copyFrom_18_3_85, eX1_copyFrom_18_3_86, eX1_copyFrom_18_3_89, eX1_copyFrom_18_3_92, eX1_copyFrom_18_3_93, eX1_copyFrom_18_3_94, eX1_copyFrom_18_3_97, eX1_copyFrom_18_3_100, eX1_copyFrom_18_3_in, eX0_copyFrom_23_8_0, eX0_copyFrom_23_8_1, eX0_copyFrom_23_8_4, eX0_copyFrom_23_8_5, eX0_copyFrom_23_8_6, eX0_copyFrom_23_8_9, eX0_copyFrom_23_8_10, eX0_copyFrom_23_8_12, eX0_copyFrom_23_8_15, eX0_copyFrom_23_8_16, eX0_copyFrom_23_8_17, eX0_copyFrom_23_8_20, eX0_copyFrom_23_8_23, eX0_copyFrom_23_8_24, eX0_copyFrom_23_8_25, eX0_copyFrom_23_8_28, eX0_copyFrom_23_8_31, eX0_copyFrom_23_8_in, eX5_copyFrom_25_10_0, eX5_copyFrom_25_10_1, eX5_copyFrom_25_10_3, eX5_copyFrom_25_10_5, eX5_copyFrom_25_10_8, eX5_copyFrom_25_10_9, eX5_copyFrom_25_10_12, eX5_copyFrom_25_10_13, eX5_copyFrom_25_10_14, eX5_copyFrom_25_10_17, eX5_copyFrom_25_10_18, eX5_copyFrom_25_10_19, eX5_copyFrom_25_10_20, eX5_copyFrom_25_10_21, eX5_copyFrom_25_10_24, eX5_copyFrom_25_10_25, eX5_copyFrom_25_10_26, eX5_copyFrom_25_10_29, eX5_copyFrom_25_10_30, eX5_copyFrom_25_10_31, eX5_copyFrom_25_10_32, eX5_copyFrom_25_10_33, eX5_copyFrom_25_10_36, eX5_copyFrom_25_10_37, eX5_copyFrom_25_10_38, eX5_copyFrom_25_10_41, eX5_copyFrom_25_10_42, eX5_copyFrom_25_10_43, eX5_copyFrom_25_10_44, eX5_copyFrom_25_10_45, eX5_copyFrom_25_10_48, eX5_copyFrom_25_10_49, eX5_copyFrom_25_10_50, eX5_copyFrom_25_10_53, eX5_copyFrom_25_10_54, eX5_copyFrom_25_10_55, eX5_copyFrom_25_10_56, eX5_copyFrom_25_10_57, eX5_copyFrom_25_10_60, eX5_copyFrom_25_10_61, eX5_copyFrom_25_10_62, eX5_copyFrom_25_10_65, eX5_copyFrom_25_10_66, eX5_copyFrom_25_10_67, eX5_copyFrom_25_10_68, eX5_copyFrom_25_10_71, eX5_copyFrom_25_10_74, eX5_copyFrom_25_10_75, eX5_copyFrom_25_10_76, eX5_copyFrom_25_10_79, eX5_copyFrom_25_10_82, eX5_copyFrom_25_10_83, eX5_copyFrom_25_10_84, eX5_copyFrom_25_10_87, eX5_copyFrom_25_10_90, eX5_copyFrom_25_10_91, eX5_copyFrom_25_10_92, eX5_copyFrom_25_10_95, eX5_copyFrom_25_10_98, eX5_copyFrom_25_10_99, eX5_copyFrom_25_10_100, eX5_copyFrom_25_10_103, eX5_copyFrom_25_10_106, eX5_copyFrom_25_10_in, n0, n4, n6, n64, tn_0, tn_6, tn_64, t4, l4, l6, l64, Option.toList_some, Option.toList_none, List.cons_append, List.nil_append, b2_0, Classical.not_not, false_implies, true_implies, implies_true, true_and, and_true, not_true_eq_false, not_false_eq_true, ne_eq, Nat.reduceEqDiff, setI_ne, setA_ne, not_false_eq_true, reduceCtorEq, Nat.reduceEqDiff]
  rw [show (0 : Int32) = nI 0 from rfl]
  generalize hM1 : setI _ _ _ _ = M1
  rw [← tcp_0 M1 16 1]
  refine l_tcopy_16_1 ?_ 6 0 (by omega)
  simp only [eX4_copyFrom_16_1_0, eX4_copyFrom_16_1_1, eX4_copyFrom_16_1_4, eX4_copyFrom_16_1_5, eX4_copyFrom_16_1_6, eX4_copyFrom_16_1_9, eX4_copyFrom_16_1_10, eX4_copyFrom_16_1_11, eX4_copyFrom_16_1_14, eX4_copyFrom_16_1_15, eX4_copyFrom_16_1_18, eX4_copyFrom_16_1_19, eX4_copyFrom_16_1_22, eX4_copyFrom_16_1_23, eX4_copyFrom_16_1_26, eX4_copyFrom_16_1_29, eX4_copyFrom_16_1_30, eX4_copyFrom_16_1_33, eX4_copyFrom_16_1_34, eX4_copyFrom_16_1_37, eX4_copyFrom_16_1_40, eX4_copyFrom_16_1_41, eX4_copyFrom_16_1_44, eX4_copyFrom_16_1_45, eX4_copyFrom_16_1_48, eX4_copyFrom_16_1_51, eX4_copyFrom_16_1_52, eX4_copyFrom_16_1_53, eX4_copyFrom_16_1_56, eX4_copyFrom_16_1_59, eX4_copyFrom_16_1_60, eX4_copyFrom_16_1_61, eX4_copyFrom_16_1_64, eX4_copyFrom_16_1_67, eX4_copyFrom_16_1_68, eX4_copyFrom_16_1_69, eX4_copyFrom_16_1_72, eX4_copyFrom_16_1_75, eX4_copyFrom_16_1_in, eX5_copyFrom_25_10_0, eX5_copyFrom_25_10_1, eX5_copyFrom_25_10_3, eX5_copyFrom_25_10_5, eX5_copyFrom_25_10_8, eX5_copyFrom_25_10_9, eX5_copyFrom_25_10_12, eX5_copyFrom_25_10_13, eX5_copyFrom_25_10_14, eX5_copyFrom_25_10_17, eX5_copyFrom_25_10_18, eX5_copyFrom_25_10_19, eX5_copyFrom_25_10_20, eX5_copyFrom_25_10_21, eX5_copyFrom_25_10_24, eX5_copyFrom_25_10_25, eX5_copyFrom_25_10_26, eX5_copyFrom_25_10_29, eX5_copyFrom_25_10_30, eX5_copyFrom_25_10_31, eX5_copyFrom_25_10_32, eX5_copyFrom_25_10_33, eX5_copyFrom_25_10_36, eX5_copyFrom_25_10_37, eX5_copyFrom_25_10_38, eX5_copyFrom_25_10_41, eX5_copyFrom_25_10_42, eX5_copyFrom_25_10_43, eX5_copyFrom_25_10_44, eX5_copyFrom_25_10_45, eX5_copyFrom_25_10_48, eX5_copyFrom_25_10_49, eX5_copyFrom_25_10_50, eX5_copyFrom_25_10_53, eX5_copyFrom_25_10_54, eX5_copyFrom_25_10_55, eX5_copyFrom_25_10_56, eX5_copyFrom_25_10_57, eX5_copyFrom_25_10_60, eX5_copyFrom_25_10_61, eX5_copyFrom_25_10_62, eX5_copyFrom_25_10_65, eX5_copyFrom_25_10_66, eX5_copyFrom_25_10_67, eX5_copyFrom_25_10_68, eX5_copyFrom_25_10_71, eX5_copyFrom_25_10_74, eX5_copyFrom_25_10_75, eX5_copyFrom_25_10_76, eX5_copyFrom_25_10_79, eX5_copyFrom_25_10_82, eX5_copyFrom_25_10_83, eX5_copyFrom_25_10_84, eX5_copyFrom_25_10_87, eX5_copyFrom_25_10_90, eX5_copyFrom_25_10_91, eX5_copyFrom_25_10_92, eX5_copyFrom_25_10_95, eX5_copyFrom_25_10_98, eX5_copyFrom_25_10_99, eX5_copyFrom_25_10_100, eX5_copyFrom_25_10_103, eX5_copyFrom_25_10_106, eX5_copyFrom_25_10_in, Option.toList_some, Option.toList_none, List.cons_append, List.nil_append, b2_0, Classical.not_not, false_implies, true_implies, implies_true, true_and, and_true, not_true_eq_false, not_false_eq_true]
  subst hM1
  refine hQ _ ⟨?_, ?_⟩
  · intro a ha
    have hne : ∀ x, x ≤ 14 → a ≠ 16 + x := fun x hx => by omega
    have q0 := hne 0 (by omega)
    have q1 := hne 1 (by omega)
    have q2 := hne 2 (by omega)
    have q3 := hne 3 (by omega)
    have q4 := hne 4 (by omega)
    have q5 := hne 5 (by omega)
    have q6 := hne 6 (by omega)
    have q7 := hne 7 (by omega)
    have q8 := hne 8 (by omega)
    have q9 := hne 9 (by omega)
    have qt : ¬ (16 + 10 ≤ a ∧ a ≤ 16 + 14) := by omega
    simp only [Nat.reduceAdd] at q0 q1 q2 q3 q4 q5 q6 q7 q8 q9
    simp only [setI_ne q0, setI_ne q2, setI_ne q7, setI_ne q9, tcp_ne qt, setA_ne q1, setA_ne q3, setA_ne q4, setA_ne q5, setA_ne q6, setA_ne q8]
  · intro k hk
    unfold enc
    rcases Nat.lt_or_ge k 18 with z | z
    · rcases (show k = 0 ∨ k = 1 ∨ k = 2 ∨ k = 3 ∨ k = 4 ∨ k = 5 ∨ k = 6 ∨ k = 7 ∨ k = 8 ∨ k = 9 ∨ k = 10 ∨ k = 11 ∨ k = 12 ∨ k = 13 ∨ k = 14 ∨ k = 15 ∨ k = 16 ∨ k = 17 by omega) with rfl | rfl | rfl | rfl | rfl | rfl | rfl | rfl | rfl | rfl | rfl | rfl | rfl | rfl | rfl | rfl | rfl | rfl <;> simp [ec, ep, setI, setA, tcp, upd, va_cpy]
    · have y := ec_reg k z
      unfold vld at hk
      rcases y with ⟨y1, y2, y3⟩ | ⟨y0, y1, y2, y3⟩ | ⟨y0, y1, y2, y3⟩ | ⟨y0, y1, y2, y3⟩ | ⟨y0, y1, y2, y3⟩ | ⟨y0, y2, y3⟩
      · rw [y2, y3]
        simp [setI, setA, tcp, cpy_all (show k - 18 < 64 by omega)]
      · rw [y2, y3]
        simp [setI, setA, tcp, cpy_all (show k - 82 < 64 by omega)]
      · rw [y2, y3]
        simp [setI, setA, tcp, cpy_all (show k - 146 < 64 by omega)]
      · rw [y2, y3]
        simp [setI, setA, tcp, cpy_all (show k - 210 < 64 by omega)]
      · rw [y2, y3]
        simp [setI, setA, tcp, cpy_all (show k - 274 < 6 by omega)]
      · rw [y2, y3]
        have hw : (k - 280) % 6 < 5 := by omega
        have ht : (k - 280) / 6 < 6 := by omega
        generalize (k - 280) / 6 = j at *
        rcases (show (k - 280) % 6 = 0 ∨ (k - 280) % 6 = 1 ∨ (k - 280) % 6 = 2 ∨ (k - 280) % 6 = 3 ∨ (k - 280) % 6 = 4 by omega) with e | e | e | e | e <;> rw [e] <;> simp [setI, setA, tcp, ht]
theorem l_tcopy_31_1 {Q : Qt} {M : Mm} (hQ : V pgX5_copyFrom Q 74 [.ref 40, .ref 10, .int 6] [] (tcp M 31 1 6)) : ∀ (n i : Nat), i + n = 6 → V pgX5_copyFrom Q 2 [.ref 40, .ref 10, .int (nI i)] [] (tcp M 31 1 i) := by
  intro n
  induction n with
  | zero =>
    intro i hi
    have : i = 6 := by omega
    subst this
    rw [eX5_copyFrom_40_10_2]
    simp only [eX5_copyFrom_40_10_0, eX5_copyFrom_40_10_1, eX5_copyFrom_40_10_3, eX5_copyFrom_40_10_5, eX5_copyFrom_40_10_8, eX5_copyFrom_40_10_9, eX5_copyFrom_40_10_12, eX5_copyFrom_40_10_13, eX5_copyFrom_40_10_14, eX5_copyFrom_40_10_17, eX5_copyFrom_40_10_18, eX5_copyFrom_40_10_19, eX5_copyFrom_40_10_20, eX5_copyFrom_40_10_21, eX5_copyFrom_40_10_24, eX5_copyFrom_40_10_25, eX5_copyFrom_40_10_26, eX5_copyFrom_40_10_29, eX5_copyFrom_40_10_30, eX5_copyFrom_40_10_31, eX5_copyFrom_40_10_32, eX5_copyFrom_40_10_33, eX5_copyFrom_40_10_36, eX5_copyFrom_40_10_37, eX5_copyFrom_40_10_38, eX5_copyFrom_40_10_41, eX5_copyFrom_40_10_42, eX5_copyFrom_40_10_43, eX5_copyFrom_40_10_44, eX5_copyFrom_40_10_45, eX5_copyFrom_40_10_48, eX5_copyFrom_40_10_49, eX5_copyFrom_40_10_50, eX5_copyFrom_40_10_53, eX5_copyFrom_40_10_54, eX5_copyFrom_40_10_55, eX5_copyFrom_40_10_56, eX5_copyFrom_40_10_57, eX5_copyFrom_40_10_60, eX5_copyFrom_40_10_61, eX5_copyFrom_40_10_62, eX5_copyFrom_40_10_65, eX5_copyFrom_40_10_66, eX5_copyFrom_40_10_67, eX5_copyFrom_40_10_68, eX5_copyFrom_40_10_71, eX5_copyFrom_40_10_75, eX5_copyFrom_40_10_76, eX5_copyFrom_40_10_79, eX5_copyFrom_40_10_82, eX5_copyFrom_40_10_83, eX5_copyFrom_40_10_84, eX5_copyFrom_40_10_87, eX5_copyFrom_40_10_90, eX5_copyFrom_40_10_91, eX5_copyFrom_40_10_92, eX5_copyFrom_40_10_95, eX5_copyFrom_40_10_98, eX5_copyFrom_40_10_99, eX5_copyFrom_40_10_100, eX5_copyFrom_40_10_103, eX5_copyFrom_40_10_106, eX5_copyFrom_40_10_in]
    exact ⟨fun _ => hQ, fun z => absurd (by decide) z⟩
  | succ n ih =>
    intro i hi
    have h1 : ¬ ((6 : Int32) ≤ nI i) := nI_ge (b := 6) (by omega) (by omega)
    have h2 : (nI i).toNatClampNeg = i := nI_clamp (by omega)
    have h3 : vp_in (nI i) 6 := vpn (by omega) (by decide)
    rw [eX5_copyFrom_40_10_2]
    simp only [eX5_copyFrom_40_10_0, eX5_copyFrom_40_10_1, eX5_copyFrom_40_10_3, eX5_copyFrom_40_10_5, eX5_copyFrom_40_10_8, eX5_copyFrom_40_10_9, eX5_copyFrom_40_10_12, eX5_copyFrom_40_10_13, eX5_copyFrom_40_10_14, eX5_copyFrom_40_10_17, eX5_copyFrom_40_10_18, eX5_copyFrom_40_10_19, eX5_copyFrom_40_10_20, eX5_copyFrom_40_10_21, eX5_copyFrom_40_10_24, eX5_copyFrom_40_10_25, eX5_copyFrom_40_10_26, eX5_copyFrom_40_10_29, eX5_copyFrom_40_10_30, eX5_copyFrom_40_10_31, eX5_copyFrom_40_10_32, eX5_copyFrom_40_10_33, eX5_copyFrom_40_10_36, eX5_copyFrom_40_10_37, eX5_copyFrom_40_10_38, eX5_copyFrom_40_10_41, eX5_copyFrom_40_10_42, eX5_copyFrom_40_10_43, eX5_copyFrom_40_10_44, eX5_copyFrom_40_10_45, eX5_copyFrom_40_10_48, eX5_copyFrom_40_10_49, eX5_copyFrom_40_10_50, eX5_copyFrom_40_10_53, eX5_copyFrom_40_10_54, eX5_copyFrom_40_10_55, eX5_copyFrom_40_10_56, eX5_copyFrom_40_10_57, eX5_copyFrom_40_10_60, eX5_copyFrom_40_10_61, eX5_copyFrom_40_10_62, eX5_copyFrom_40_10_65, eX5_copyFrom_40_10_66, eX5_copyFrom_40_10_67, eX5_copyFrom_40_10_68, eX5_copyFrom_40_10_71, eX5_copyFrom_40_10_75, eX5_copyFrom_40_10_76, eX5_copyFrom_40_10_79, eX5_copyFrom_40_10_82, eX5_copyFrom_40_10_83, eX5_copyFrom_40_10_84, eX5_copyFrom_40_10_87, eX5_copyFrom_40_10_90, eX5_copyFrom_40_10_91, eX5_copyFrom_40_10_92, eX5_copyFrom_40_10_95, eX5_copyFrom_40_10_98, eX5_copyFrom_40_10_99, eX5_copyFrom_40_10_100, eX5_copyFrom_40_10_103, eX5_copyFrom_40_10_106, eX5_copyFrom_40_10_in, h1, h2, h3, nI_1, Option.toList_some, Option.toList_none, List.cons_append, List.nil_append, b2_0, Classical.not_not, false_implies, true_implies, implies_true, true_and, and_true, not_true_eq_false, not_false_eq_true]
    have e : setI (setI (setI (setI (setI (tcp M 31 1 i) 41 i ((tcp M 31 1 i).1 11 i)) 42 i ((setI (tcp M 31 1 i) 41 i ((tcp M 31 1 i).1 11 i)).1 12 i)) 43 i ((setI (setI (tcp M 31 1 i) 41 i ((tcp M 31 1 i).1 11 i)) 42 i ((setI (tcp M 31 1 i) 41 i ((tcp M 31 1 i).1 11 i)).1 12 i)).1 13 i)) 44 i ((setI (setI (setI (tcp M 31 1 i) 41 i ((tcp M 31 1 i).1 11 i)) 42 i ((setI (tcp M 31 1 i) 41 i ((tcp M 31 1 i).1 11 i)).1 12 i)) 43 i ((setI (setI (tcp M 31 1 i) 41 i ((tcp M 31 1 i).1 11 i)) 42 i ((setI (tcp M 31 1 i) 41 i ((tcp M 31 1 i).1 11 i)).1 12 i)).1 13 i)).1 14 i)) 45 i ((setI (setI (setI (setI (tcp M 31 1 i) 41 i ((tcp M 31 1 i).1 11 i)) 42 i ((setI (tcp M 31 1 i) 41 i ((tcp M 31 1 i).1 11 i)).1 12 i)) 43 i ((setI (setI (tcp M 31 1 i) 41 i ((tcp M 31 1 i).1 11 i)) 42 i ((setI (tcp M 31 1 i) 41 i ((tcp M 31 1 i).1 11 i)).1 12 i)).1 13 i)) 44 i ((setI (setI (setI (tcp M 31 1 i) 41 i ((tcp M 31 1 i).1 11 i)) 42 i ((setI (tcp M 31 1 i) 41 i ((tcp M 31 1 i).1 11 i)).1 12 i)) 43 i ((setI (setI (tcp M 31 1 i) 41 i ((tcp M 31 1 i).1 11 i)) 42 i ((setI (tcp M 31 1 i) 41 i ((tcp M 31 1 i).1 11 i)).1 12 i)).1 13 i)).1 14 i)).1 15 i) = tcp M 31 1 (i + 1) := by
      ext a
      · rcases (show a = 41 ∨ a = 42 ∨ a = 43 ∨ a = 44 ∨ a = 45 ∨ ¬ (41 ≤ a ∧ a ≤ 45) by omega) with rfl | rfl | rfl | rfl | rfl | h
        · simp [setI, tcp, upd_lt]
        · simp [setI, tcp, upd_lt]
        · simp [setI, tcp, upd_lt]
        · simp [setI, tcp, upd_lt]
        · simp [setI, tcp, upd_lt]
        · have g0 : a ≠ 41 := by omega
          have g1 : a ≠ 42 := by omega
          have g2 : a ≠ 43 := by omega
          have g3 : a ≠ 44 := by omega
          have g4 : a ≠ 45 := by omega
          simp only [setI, tcp, g0, g1, g2, g3, g4, if_false, h]
      · rfl
    rw [e]
    exact ih (i + 1) (by omega)
theorem c_copy_31_1 {Q : Qt} {M : Mm} (hQ : ∀ M', CpD M M' 31 1 → Q none M') : kX4_copyFrom [.ref 31, .ref 1] M Q := by
  have n0 : ¬ ((0 : Int32) < 0) := by decide
  have n4 : ¬ ((Int32.ofNat 4) < 0) := by decide
  have n6 : ¬ ((6 : Int32) < 0) := by decide
  have n64 : ¬ ((64 : Int32) < 0) := by decide
  have t4 : (Int32.ofNat 4).toNatClampNeg = 4 := rfl
  have l4 : 0 + 4 ≤ 4 := by decide
  have l6 : 0 + 6 ≤ 6 := by decide
  have l64 : 0 + 64 ≤ 64 := by decide
  simp only [eX4_copyFrom_31_1_0, eX4_copyFrom_31_1_1, eX4_copyFrom_31_1_4, eX4_copyFrom_31_1_5, eX4_copyFrom_31_1_6, eX4_copyFrom_31_1_9, eX4_copyFrom_31_1_10, eX4_copyFrom_31_1_11, eX4_copyFrom_31_1_14, eX4_copyFrom_31_1_15, eX4_copyFrom_31_1_18, eX4_copyFrom_31_1_19, eX4_copyFrom_31_1_22, eX4_copyFrom_31_1_23, eX4_copyFrom_31_1_26, eX4_copyFrom_31_1_29, eX4_copyFrom_31_1_30, eX4_copyFrom_31_1_33, eX4_copyFrom_31_1_34, eX4_copyFrom_31_1_37, eX4_copyFrom_31_1_40, eX4_copyFrom_31_1_41, eX4_copyFrom_31_1_44, eX4_copyFrom_31_1_45, eX4_copyFrom_31_1_48, eX4_copyFrom_31_1_51, eX4_copyFrom_31_1_52, eX4_copyFrom_31_1_53, eX4_copyFrom_31_1_56, eX4_copyFrom_31_1_59, eX4_copyFrom_31_1_60, eX4_copyFrom_31_1_61, eX4_copyFrom_31_1_64, eX4_copyFrom_31_1_67, eX4_copyFrom_31_1_68, eX4_copyFrom_31_1_69, eX4_copyFrom_31_1_72, eX4_copyFrom_31_1_75, eX4_copyFrom_31_1_in, eX1_copyFrom_33_3_0, eX1_copyFrom_33_3_1, eX1_copyFrom_33_3_2, eX1_copyFrom_33_3_5, eX1_copyFrom_33_3_8, eX1_copyFrom_33_3_9, eX1_copyFrom_33_3_10, eX1_copyFrom_33_3_13, eX1_copyFrom_33_3_16, eX1_copyFrom_33_3_17, eX1_copyFrom_33_3_20, eX1_copyFrom_33_3_21, eX1_copyFrom_33_3_22, eX1_copyFrom_33_3_25, eX1_copyFrom_33_3_26, eX1_copyFrom_33_3_28, eX1_copyFrom_33_3_31, eX1_copyFrom_33_3_32, eX1_copyFrom_33_3_35, eX1_copyFrom_33_3_36, eX1_copyFrom_33_3_37, eX1_copyFrom_33_3_40, eX1_copyFrom_33_3_41, eX1_copyFrom_33_3_43, eX1_copyFrom_33_3_46, eX1_copyFrom_33_3_47, eX1_copyFrom_33_3_50, eX1_copyFrom_33_3_51, eX1_copyFrom_33_3_52, eX1_copyFrom_33_3_55, eX1_copyFrom_33_3_56, eX1_copyFrom_33_3_58, eX1_copyFrom_33_3_61, eX1_copyFrom_33_3_62, eX1_copyFrom_33_3_65, eX1_copyFrom_33_3_66, eX1_copyFrom_33_3_67, eX1_copyFrom_33_3_70, eX1_copyFrom_33_3_71, eX1_copyFrom_33_3_73, eX1_copyFrom_33_3_76, eX1_copyFrom_33_3_77, eX1_copyFrom_33_3_78, eX1_copyFrom_33_3_81, eX1_copyFrom_33_3_84, eX1_copyFrom_33_3_85, eX1_copyFrom_33_3_86, eX1_copyFrom_33_3_89, eX1_copyFrom_33_3_92, eX1_copyFrom_33_3_93, eX1_copyFrom_33_3_94, eX1_copyFrom_33_3_97, eX1_copyFrom_33_3_100, eX1_copyFrom_33_3_in, eX0_copyFrom_38_8_0, eX0_copyFrom_38_8_1, eX0_copyFrom_38_8_4, eX0_copyFrom_38_8_5, eX0_copyFrom_38_8_6, eX0_copyFrom_38_8_9, eX0_copyFrom_38_8_10, eX0_copyFrom_38_8_12, eX0_copyFrom_38_8_15, eX0_copyFrom_38_8_16, eX0_copyFrom_38_8_17, eX0_copyFrom_38_8_20, eX0_copyFrom_38_8_23, eX0_copyFrom_38_8_24, eX0_copyFrom_38_8_25, eX0_copyFrom_38_8_28, eX0_copyFrom_38_8_31, eX0_copyFrom_38_8_in, eX5_copyFrom_40_10_0, eX5_copyFrom_40_10_1, eX5_copyFrom_40_10_3, eX5_copyFrom_40_10_5, eX5_copyFrom_40_10_8, eX5_copyFrom_40_10_9, eX5_copyFrom_40_10_12, eX5_copyFrom_40_10_13, eX5_copyFrom_40_10_14, eX5_copyFrom_40_10_17, eX5_copyFrom_40_10_18, eX5_copyFrom_40_10_19, eX5_copyFrom_40_10_20, eX5_copyFrom_40_10_21, eX5_copyFrom_40_10_24, eX5_copyFrom_40_10_25, eX5_copyFrom_40_10_26, eX5_copyFrom_40_10_29, eX5_copyFrom_40_10_30, eX5_copyFrom_40_10_31, eX5_copyFrom_40_10_32, eX5_copyFrom_40_10_33, eX5_copyFrom_40_10_36, eX5_copyFrom_40_10_37, eX5_copyFrom_40_10_38, eX5_copyFrom_40_10_41, eX5_copyFrom_40_10_42, eX5_copyFrom_40_10_43, eX5_copyFrom_40_10_44, eX5_copyFrom_40_10_45, eX5_copyFrom_40_10_48, eX5_copyFrom_40_10_49, eX5_copyFrom_40_10_50, eX5_copyFrom_40_10_53, eX5_copyFrom_40_10_54, eX5_copyFrom_40_10_55, eX5_copyFrom_40_10_56, eX5_copyFrom_40_10_57, eX5_copyFrom_40_10_60, eX5_copyFrom_40_10_61, eX5_copyFrom_40_10_62, eX5_copyFrom_40_10_65, eX5_copyFrom_40_10_66, eX5_copyFrom_40_10_67, eX5_copyFrom_40_10_68, eX5_copyFrom_40_10_71, eX5_copyFrom_40_10_74, eX5_copyFrom_40_10_75, eX5_copyFrom_40_10_76, eX5_copyFrom_40_10_79, eX5_copyFrom_40_10_82, eX5_copyFrom_40_10_83, eX5_copyFrom_40_10_84, eX5_copyFrom_40_10_87, eX5_copyFrom_40_10_90, eX5_copyFrom_40_10_91, eX5_copyFrom_40_10_92, eX5_copyFrom_40_10_95, eX5_copyFrom_40_10_98, eX5_copyFrom_40_10_99, eX5_copyFrom_40_10_100, eX5_copyFrom_40_10_103, eX5_copyFrom_40_10_106, eX5_copyFrom_40_10_in, n0, n4, n6, n64, tn_0, tn_6, tn_64, t4, l4, l6, l64, Option.toList_some, Option.toList_none, List.cons_append, List.nil_append, b2_0, Classical.not_not, false_implies, true_implies, implies_true, true_and, and_true, not_true_eq_false, not_false_eq_true, ne_eq, Nat.reduceEqDiff, setI_ne, setA_ne, not_false_eq_true, reduceCtorEq, Nat.reduceEqDiff]
  rw [show (0 : Int32) = nI 0 from rfl]
  generalize hM1 : setI _ _ _ _ = M1
  rw [← tcp_0 M1 31 1]
  refine l_tcopy_31_1 ?_ 6 0 (by omega)
  simp only [eX4_copyFrom_31_1_0, eX4_copyFrom_31_1_1, eX4_copyFrom_31_1_4, eX4_copyFrom_31_1_5, eX4_copyFrom_31_1_6, eX4_copyFrom_31_1_9, eX4_copyFrom_31_1_10, eX4_copyFrom_31_1_11, eX4_copyFrom_31_1_14, eX4_copyFrom_31_1_15, eX4_copyFrom_31_1_18, eX4_copyFrom_31_1_19, eX4_copyFrom_31_1_22, eX4_copyFrom_31_1_23, eX4_copyFrom_31_1_26, eX4_copyFrom_31_1_29, eX4_copyFrom_31_1_30, eX4_copyFrom_31_1_33, eX4_copyFrom_31_1_34, eX4_copyFrom_31_1_37, eX4_copyFrom_31_1_40, eX4_copyFrom_31_1_41, eX4_copyFrom_31_1_44, eX4_copyFrom_31_1_45, eX4_copyFrom_31_1_48, eX4_copyFrom_31_1_51, eX4_copyFrom_31_1_52, eX4_copyFrom_31_1_53, eX4_copyFrom_31_1_56, eX4_copyFrom_31_1_59, eX4_copyFrom_31_1_60, eX4_copyFrom_31_1_61, eX4_copyFrom_31_1_64, eX4_copyFrom_31_1_67, eX4_copyFrom_31_1_68, eX4_copyFrom_31_1_69, eX4_copyFrom_31_1_72, eX4_copyFrom_31_1_75, eX4_copyFrom_31_1_in, eX5_copyFrom_40_10_0, eX5_copyFrom_40_10_1, eX5_copyFrom_40_10_3, eX5_copyFrom_40_10_5, eX5_copyFrom_40_10_8, eX5_copyFrom_40_10_9, eX5_copyFrom_40_10_12, eX5_copyFrom_40_10_13, eX5_copyFrom_40_10_14, eX5_copyFrom_40_10_17, eX5_copyFrom_40_10_18, eX5_copyFrom_40_10_19, eX5_copyFrom_40_10_20, eX5_copyFrom_40_10_21, eX5_copyFrom_40_10_24, eX5_copyFrom_40_10_25, eX5_copyFrom_40_10_26, eX5_copyFrom_40_10_29, eX5_copyFrom_40_10_30, eX5_copyFrom_40_10_31, eX5_copyFrom_40_10_32, eX5_copyFrom_40_10_33, eX5_copyFrom_40_10_36, eX5_copyFrom_40_10_37, eX5_copyFrom_40_10_38, eX5_copyFrom_40_10_41, eX5_copyFrom_40_10_42, eX5_copyFrom_40_10_43, eX5_copyFrom_40_10_44, eX5_copyFrom_40_10_45, eX5_copyFrom_40_10_48, eX5_copyFrom_40_10_49, eX5_copyFrom_40_10_50, eX5_copyFrom_40_10_53, eX5_copyFrom_40_10_54, eX5_copyFrom_40_10_55, eX5_copyFrom_40_10_56, eX5_copyFrom_40_10_57, eX5_copyFrom_40_10_60, eX5_copyFrom_40_10_61, eX5_copyFrom_40_10_62, eX5_copyFrom_40_10_65, eX5_copyFrom_40_10_66, eX5_copyFrom_40_10_67, eX5_copyFrom_40_10_68, eX5_copyFrom_40_10_71, eX5_copyFrom_40_10_74, eX5_copyFrom_40_10_75, eX5_copyFrom_40_10_76, eX5_copyFrom_40_10_79, eX5_copyFrom_40_10_82, eX5_copyFrom_40_10_83, eX5_copyFrom_40_10_84, eX5_copyFrom_40_10_87, eX5_copyFrom_40_10_90, eX5_copyFrom_40_10_91, eX5_copyFrom_40_10_92, eX5_copyFrom_40_10_95, eX5_copyFrom_40_10_98, eX5_copyFrom_40_10_99, eX5_copyFrom_40_10_100, eX5_copyFrom_40_10_103, eX5_copyFrom_40_10_106, eX5_copyFrom_40_10_in, Option.toList_some, Option.toList_none, List.cons_append, List.nil_append, b2_0, Classical.not_not, false_implies, true_implies, implies_true, true_and, and_true, not_true_eq_false, not_false_eq_true]
  subst hM1
  refine hQ _ ⟨?_, ?_⟩
  · intro a ha
    have hne : ∀ x, x ≤ 14 → a ≠ 31 + x := fun x hx => by omega
    have q0 := hne 0 (by omega)
    have q1 := hne 1 (by omega)
    have q2 := hne 2 (by omega)
    have q3 := hne 3 (by omega)
    have q4 := hne 4 (by omega)
    have q5 := hne 5 (by omega)
    have q6 := hne 6 (by omega)
    have q7 := hne 7 (by omega)
    have q8 := hne 8 (by omega)
    have q9 := hne 9 (by omega)
    have qt : ¬ (31 + 10 ≤ a ∧ a ≤ 31 + 14) := by omega
    simp only [Nat.reduceAdd] at q0 q1 q2 q3 q4 q5 q6 q7 q8 q9
    simp only [setI_ne q0, setI_ne q2, setI_ne q7, setI_ne q9, tcp_ne qt, setA_ne q1, setA_ne q3, setA_ne q4, setA_ne q5, setA_ne q6, setA_ne q8]
  · intro k hk
    unfold enc
    rcases Nat.lt_or_ge k 18 with z | z
    · rcases (show k = 0 ∨ k = 1 ∨ k = 2 ∨ k = 3 ∨ k = 4 ∨ k = 5 ∨ k = 6 ∨ k = 7 ∨ k = 8 ∨ k = 9 ∨ k = 10 ∨ k = 11 ∨ k = 12 ∨ k = 13 ∨ k = 14 ∨ k = 15 ∨ k = 16 ∨ k = 17 by omega) with rfl | rfl | rfl | rfl | rfl | rfl | rfl | rfl | rfl | rfl | rfl | rfl | rfl | rfl | rfl | rfl | rfl | rfl <;> simp [ec, ep, setI, setA, tcp, upd, va_cpy]
    · have y := ec_reg k z
      unfold vld at hk
      rcases y with ⟨y1, y2, y3⟩ | ⟨y0, y1, y2, y3⟩ | ⟨y0, y1, y2, y3⟩ | ⟨y0, y1, y2, y3⟩ | ⟨y0, y1, y2, y3⟩ | ⟨y0, y2, y3⟩
      · rw [y2, y3]
        simp [setI, setA, tcp, cpy_all (show k - 18 < 64 by omega)]
      · rw [y2, y3]
        simp [setI, setA, tcp, cpy_all (show k - 82 < 64 by omega)]
      · rw [y2, y3]
        simp [setI, setA, tcp, cpy_all (show k - 146 < 64 by omega)]
      · rw [y2, y3]
        simp [setI, setA, tcp, cpy_all (show k - 210 < 64 by omega)]
      · rw [y2, y3]
        simp [setI, setA, tcp, cpy_all (show k - 274 < 6 by omega)]
      · rw [y2, y3]
        have hw : (k - 280) % 6 < 5 := by omega
        have ht : (k - 280) / 6 < 6 := by omega
        generalize (k - 280) / 6 = j at *
        rcases (show (k - 280) % 6 = 0 ∨ (k - 280) % 6 = 1 ∨ (k - 280) % 6 = 2 ∨ (k - 280) % 6 = 3 ∨ (k - 280) % 6 = 4 by omega) with e | e | e | e | e <;> rw [e] <;> simp [setI, setA, tcp, ht]
theorem l_tcopy_1_16 {Q : Qt} {M : Mm} (hQ : V pgX5_copyFrom Q 74 [.ref 10, .ref 25, .int 6] [] (tcp M 1 16 6)) : ∀ (n i : Nat), i + n = 6 → V pgX5_copyFrom Q 2 [.ref 10, .ref 25, .int (nI i)] [] (tcp M 1 16 i) := by
  intro n
  induction n with
  | zero =>
    intro i hi
    have : i = 6 := by omega
    subst this
    rw [eX5_copyFrom_10_25_2]
    simp only [eX5_copyFrom_10_25_0, eX5_copyFrom_10_25_1, eX5_copyFrom_10_25_3, eX5_copyFrom_10_25_5, eX5_copyFrom_10_25_8, eX5_copyFrom_10_25_9, eX5_copyFrom_10_25_12, eX5_copyFrom_10_25_13, eX5_copyFrom_10_25_14, eX5_copyFrom_10_25_17, eX5_copyFrom_10_25_18, eX5_copyFrom_10_25_19, eX5_copyFrom_10_25_20, eX5_copyFrom_10_25_21, eX5_copyFrom_10_25_24, eX5_copyFrom_10_25_25, eX5_copyFrom_10_25_26, eX5_copyFrom_10_25_29, eX5_copyFrom_10_25_30, eX5_copyFrom_10_25_31, eX5_copyFrom_10_25_32, eX5_copyFrom_10_25_33, eX5_copyFrom_10_25_36, eX5_copyFrom_10_25_37, eX5_copyFrom_10_25_38, eX5_copyFrom_10_25_41, eX5_copyFrom_10_25_42, eX5_copyFrom_10_25_43, eX5_copyFrom_10_25_44, eX5_copyFrom_10_25_45, eX5_copyFrom_10_25_48, eX5_copyFrom_10_25_49, eX5_copyFrom_10_25_50, eX5_copyFrom_10_25_53, eX5_copyFrom_10_25_54, eX5_copyFrom_10_25_55, eX5_copyFrom_10_25_56, eX5_copyFrom_10_25_57, eX5_copyFrom_10_25_60, eX5_copyFrom_10_25_61, eX5_copyFrom_10_25_62, eX5_copyFrom_10_25_65, eX5_copyFrom_10_25_66, eX5_copyFrom_10_25_67, eX5_copyFrom_10_25_68, eX5_copyFrom_10_25_71, eX5_copyFrom_10_25_75, eX5_copyFrom_10_25_76, eX5_copyFrom_10_25_79, eX5_copyFrom_10_25_82, eX5_copyFrom_10_25_83, eX5_copyFrom_10_25_84, eX5_copyFrom_10_25_87, eX5_copyFrom_10_25_90, eX5_copyFrom_10_25_91, eX5_copyFrom_10_25_92, eX5_copyFrom_10_25_95, eX5_copyFrom_10_25_98, eX5_copyFrom_10_25_99, eX5_copyFrom_10_25_100, eX5_copyFrom_10_25_103, eX5_copyFrom_10_25_106, eX5_copyFrom_10_25_in]
    exact ⟨fun _ => hQ, fun z => absurd (by decide) z⟩
  | succ n ih =>
    intro i hi
    have h1 : ¬ ((6 : Int32) ≤ nI i) := nI_ge (b := 6) (by omega) (by omega)
    have h2 : (nI i).toNatClampNeg = i := nI_clamp (by omega)
    have h3 : vp_in (nI i) 6 := vpn (by omega) (by decide)
    rw [eX5_copyFrom_10_25_2]
    simp only [eX5_copyFrom_10_25_0, eX5_copyFrom_10_25_1, eX5_copyFrom_10_25_3, eX5_copyFrom_10_25_5, eX5_copyFrom_10_25_8, eX5_copyFrom_10_25_9, eX5_copyFrom_10_25_12, eX5_copyFrom_10_25_13, eX5_copyFrom_10_25_14, eX5_copyFrom_10_25_17, eX5_copyFrom_10_25_18, eX5_copyFrom_10_25_19, eX5_copyFrom_10_25_20, eX5_copyFrom_10_25_21, eX5_copyFrom_10_25_24, eX5_copyFrom_10_25_25, eX5_copyFrom_10_25_26, eX5_copyFrom_10_25_29, eX5_copyFrom_10_25_30, eX5_copyFrom_10_25_31, eX5_copyFrom_10_25_32, eX5_copyFrom_10_25_33, eX5_copyFrom_10_25_36, eX5_copyFrom_10_25_37, eX5_copyFrom_10_25_38, eX5_copyFrom_10_25_41, eX5_copyFrom_10_25_42, eX5_copyFrom_10_25_43, eX5_copyFrom_10_25_44, eX5_copyFrom_10_25_45, eX5_copyFrom_10_25_48, eX5_copyFrom_10_25_49, eX5_copyFrom_10_25_50, eX5_copyFrom_10_25_53, eX5_copyFrom_10_25_54, eX5_copyFrom_10_25_55, eX5_copyFrom_10_25_56, eX5_copyFrom_10_25_57, eX5_copyFrom_10_25_60, eX5_copyFrom_10_25_61, eX5_copyFrom_10_25_62, eX5_copyFrom_10_25_65, eX5_copyFrom_10_25_66, eX5_copyFrom_10_25_67, eX5_copyFrom_10_25_68, eX5_copyFrom_10_25_71, eX5_copyFrom_10_25_75, eX5_copyFrom_10_25_76, eX5_copyFrom_10_25_79, eX5_copyFrom_10_25_82, eX5_copyFrom_10_25_83, eX5_copyFrom_10_25_84, eX5_copyFrom_10_25_87, eX5_copyFrom_10_25_90, eX5_copyFrom_10_25_91, eX5_copyFrom_10_25_92, eX5_copyFrom_10_25_95, eX5_copyFrom_10_25_98, eX5_copyFrom_10_25_99, eX5_copyFrom_10_25_100, eX5_copyFrom_10_25_103, eX5_copyFrom_10_25_106, eX5_copyFrom_10_25_in, h1, h2, h3, nI_1, Option.toList_some, Option.toList_none, List.cons_append, List.nil_append, b2_0, Classical.not_not, false_implies, true_implies, implies_true, true_and, and_true, not_true_eq_false, not_false_eq_true]
    have e : setI (setI (setI (setI (setI (tcp M 1 16 i) 11 i ((tcp M 1 16 i).1 26 i)) 12 i ((setI (tcp M 1 16 i) 11 i ((tcp M 1 16 i).1 26 i)).1 27 i)) 13 i ((setI (setI (tcp M 1 16 i) 11 i ((tcp M 1 16 i).1 26 i)) 12 i ((setI (tcp M 1 16 i) 11 i ((tcp M 1 16 i).1 26 i)).1 27 i)).1 28 i)) 14 i ((setI (setI (setI (tcp M 1 16 i) 11 i ((tcp M 1 16 i).1 26 i)) 12 i ((setI (tcp M 1 16 i) 11 i ((tcp M 1 16 i).1 26 i)).1 27 i)) 13 i ((setI (setI (tcp M 1 16 i) 11 i ((tcp M 1 16 i).1 26 i)) 12 i ((setI (tcp M 1 16 i) 11 i ((tcp M 1 16 i).1 26 i)).1 27 i)).1 28 i)).1 29 i)) 15 i ((setI (setI (setI (setI (tcp M 1 16 i) 11 i ((tcp M 1 16 i).1 26 i)) 12 i ((setI (tcp M 1 16 i) 11 i ((tcp M 1 16 i).1 26 i)).1 27 i)) 13 i ((setI (setI (tcp M 1 16 i) 11 i ((tcp M 1 16 i).1 26 i)) 12 i ((setI (tcp M 1 16 i) 11 i ((tcp M 1 16 i).1 26 i)).1 27 i)).1 28 i)) 14 i ((setI (setI (setI (tcp M 1 16 i) 11 i ((tcp M 1 16 i).1 26 i)) 12 i ((setI (tcp M 1 16 i) 11 i ((tcp M 1 16 i).1 26 i)).1 27 i)) 13 i ((setI (setI (tcp M 1 16 i) 11 i ((tcp M 1 16 i).1 26 i)) 12 i ((setI (tcp M 1 16 i) 11 i ((tcp M 1 16 i).1 26 i)).1 27 i)).1 28 i)).1 29 i)).1 30 i) = tcp M 1 16 (i + 1) := by
      ext a
      · rcases (show a = 11 ∨ a = 12 ∨ a = 13 ∨ a = 14 ∨ a = 15 ∨ ¬ (11 ≤ a ∧ a ≤ 15) by omega) with rfl | rfl | rfl | rfl | rfl | h
        · simp [setI, tcp, upd_lt]
        · simp [setI, tcp, upd_lt]
        · simp [setI, tcp, upd_lt]
        · simp [setI, tcp, upd_lt]
        · simp [setI, tcp, upd_lt]
        · have g0 : a ≠ 11 := by omega
          have g1 : a ≠ 12 := by omega
          have g2 : a ≠ 13 := by omega
          have g3 : a ≠ 14 := by omega
          have g4 : a ≠ 15 := by omega
          simp only [setI, tcp, g0, g1, g2, g3, g4, if_false, h]
      · rfl
    rw [e]
    exact ih (i + 1) (by omega)
theorem c_copy_1_16 {Q : Qt} {M : Mm} (hQ : ∀ M', CpD M M' 1 16 → Q none M') : kX4_copyFrom [.ref 1, .ref 16] M Q := by
  have n0 : ¬ ((0 : Int32) < 0) := by decide
  have n4 : ¬ ((Int32.ofNat 4) < 0) := by decide
  have n6 : ¬ ((6 : Int32) < 0) := by decide
  have n64 : ¬ ((64 : Int32) < 0) := by decide
  have t4 : (Int32.ofNat 4).toNatClampNeg = 4 := rfl
  have l4 : 0 + 4 ≤ 4 := by decide
  have l6 : 0 + 6 ≤ 6 := by decide
  have l64 : 0 + 64 ≤ 64 := by decide
  simp only [eX4_copyFrom_1_16_0, eX4_copyFrom_1_16_1, eX4_copyFrom_1_16_4, eX4_copyFrom_1_16_5, eX4_copyFrom_1_16_6, eX4_copyFrom_1_16_9, eX4_copyFrom_1_16_10, eX4_copyFrom_1_16_11, eX4_copyFrom_1_16_14, eX4_copyFrom_1_16_15, eX4_copyFrom_1_16_18, eX4_copyFrom_1_16_19, eX4_copyFrom_1_16_22, eX4_copyFrom_1_16_23, eX4_copyFrom_1_16_26, eX4_copyFrom_1_16_29, eX4_copyFrom_1_16_30, eX4_copyFrom_1_16_33, eX4_copyFrom_1_16_34, eX4_copyFrom_1_16_37, eX4_copyFrom_1_16_40, eX4_copyFrom_1_16_41, eX4_copyFrom_1_16_44, eX4_copyFrom_1_16_45, eX4_copyFrom_1_16_48, eX4_copyFrom_1_16_51, eX4_copyFrom_1_16_52, eX4_copyFrom_1_16_53, eX4_copyFrom_1_16_56, eX4_copyFrom_1_16_59, eX4_copyFrom_1_16_60, eX4_copyFrom_1_16_61, eX4_copyFrom_1_16_64, eX4_copyFrom_1_16_67, eX4_copyFrom_1_16_68, eX4_copyFrom_1_16_69, eX4_copyFrom_1_16_72, eX4_copyFrom_1_16_75, eX4_copyFrom_1_16_in, eX1_copyFrom_3_18_0, eX1_copyFrom_3_18_1, eX1_copyFrom_3_18_2, eX1_copyFrom_3_18_5, eX1_copyFrom_3_18_8, eX1_copyFrom_3_18_9, eX1_copyFrom_3_18_10, eX1_copyFrom_3_18_13, eX1_copyFrom_3_18_16, eX1_copyFrom_3_18_17, eX1_copyFrom_3_18_20, eX1_copyFrom_3_18_21, eX1_copyFrom_3_18_22, eX1_copyFrom_3_18_25, eX1_copyFrom_3_18_26, eX1_copyFrom_3_18_28, eX1_copyFrom_3_18_31, eX1_copyFrom_3_18_32, eX1_copyFrom_3_18_35, eX1_copyFrom_3_18_36, eX1_copyFrom_3_18_37, eX1_copyFrom_3_18_40, eX1_copyFrom_3_18_41, eX1_copyFrom_3_18_43, eX1_copyFrom_3_18_46, eX1_copyFrom_3_18_47, eX1_copyFrom_3_18_50, eX1_copyFrom_3_18_51, eX1_copyFrom_3_18_52, eX1_copyFrom_3_18_55, eX1_copyFrom_3_18_56, eX1_copyFrom_3_18_58, eX1_copyFrom_3_18_61, eX1_copyFrom_3_18_62, eX1_copyFrom_3_18_65, eX1_copyFrom_3_18_66, eX1_copyFrom_3_18_67, eX1_copyFrom_3_18_70, eX1_copyFrom_3_18_71, eX1_copyFrom_3_18_73, eX1_copyFrom_3_18_76, eX1_copyFrom_3_18_77, eX1_copyFrom_3_18_78, eX1_copyFrom_3_18_81, eX1_copyFrom_3_18_84, eX1_copyFrom_3_18_85, eX1_copyFrom_3_18_86, eX1_copyFrom_3_18_89, eX1_copyFrom_3_18_92, eX1_copyFrom_3_18_93, eX1_copyFrom_3_18_94, eX1_copyFrom_3_18_97, eX1_copyFrom_3_18_100, eX1_copyFrom_3_18_in, eX0_copyFrom_8_23_0, eX0_copyFrom_8_23_1, eX0_copyFrom_8_23_4, eX0_copyFrom_8_23_5, eX0_copyFrom_8_23_6, eX0_copyFrom_8_23_9, eX0_copyFrom_8_23_10, eX0_copyFrom_8_23_12, eX0_copyFrom_8_23_15, eX0_copyFrom_8_23_16, eX0_copyFrom_8_23_17, eX0_copyFrom_8_23_20, eX0_copyFrom_8_23_23, eX0_copyFrom_8_23_24, eX0_copyFrom_8_23_25, eX0_copyFrom_8_23_28, eX0_copyFrom_8_23_31, eX0_copyFrom_8_23_in, eX5_copyFrom_10_25_0, eX5_copyFrom_10_25_1, eX5_copyFrom_10_25_3, eX5_copyFrom_10_25_5, eX5_copyFrom_10_25_8, eX5_copyFrom_10_25_9, eX5_copyFrom_10_25_12, eX5_copyFrom_10_25_13, eX5_copyFrom_10_25_14, eX5_copyFrom_10_25_17, eX5_copyFrom_10_25_18, eX5_copyFrom_10_25_19, eX5_copyFrom_10_25_20, eX5_copyFrom_10_25_21, eX5_copyFrom_10_25_24, eX5_copyFrom_10_25_25, eX5_copyFrom_10_25_26, eX5_copyFrom_10_25_29, eX5_copyFrom_10_25_30, eX5_copyFrom_10_25_31, eX5_copyFrom_10_25_32, eX5_copyFrom_10_25_33, eX5_copyFrom_10_25_36, eX5_copyFrom_10_25_37, eX5_copyFrom_10_25_38, eX5_copyFrom_10_25_41, eX5_copyFrom_10_25_42, eX5_copyFrom_10_25_43, eX5_copyFrom_10_25_44, eX5_copyFrom_10_25_45, eX5_copyFrom_10_25_48, eX5_copyFrom_10_25_49, eX5_copyFrom_10_25_50, eX5_copyFrom_10_25_53, eX5_copyFrom_10_25_54, eX5_copyFrom_10_25_55, eX5_copyFrom_10_25_56, eX5_copyFrom_10_25_57, eX5_copyFrom_10_25_60, eX5_copyFrom_10_25_61, eX5_copyFrom_10_25_62, eX5_copyFrom_10_25_65, eX5_copyFrom_10_25_66, eX5_copyFrom_10_25_67, eX5_copyFrom_10_25_68, eX5_copyFrom_10_25_71, eX5_copyFrom_10_25_74, eX5_copyFrom_10_25_75, eX5_copyFrom_10_25_76, eX5_copyFrom_10_25_79, eX5_copyFrom_10_25_82, eX5_copyFrom_10_25_83, eX5_copyFrom_10_25_84, eX5_copyFrom_10_25_87, eX5_copyFrom_10_25_90, eX5_copyFrom_10_25_91, eX5_copyFrom_10_25_92, eX5_copyFrom_10_25_95, eX5_copyFrom_10_25_98, eX5_copyFrom_10_25_99, eX5_copyFrom_10_25_100, eX5_copyFrom_10_25_103, eX5_copyFrom_10_25_106, eX5_copyFrom_10_25_in, n0, n4, n6, n64, tn_0, tn_6, tn_64, t4, l4, l6, l64, Option.toList_some, Option.toList_none, List.cons_append, List.nil_append, b2_0, Classical.not_not, false_implies, true_implies, implies_true, true_and, and_true, not_true_eq_false, not_false_eq_true, ne_eq, Nat.reduceEqDiff, setI_ne, setA_ne, not_false_eq_true, reduceCtorEq, Nat.reduceEqDiff]
  rw [show (0 : Int32) = nI 0 from rfl]
  generalize hM1 : setI _ _ _ _ = M1
  rw [← tcp_0 M1 1 16]
  refine l_tcopy_1_16 ?_ 6 0 (by omega)
  simp only [eX4_copyFrom_1_16_0, eX4_copyFrom_1_16_1, eX4_copyFrom_1_16_4, eX4_copyFrom_1_16_5, eX4_copyFrom_1_16_6, eX4_copyFrom_1_16_9, eX4_copyFrom_1_16_10, eX4_copyFrom_1_16_11, eX4_copyFrom_1_16_14, eX4_copyFrom_1_16_15, eX4_copyFrom_1_16_18, eX4_copyFrom_1_16_19, eX4_copyFrom_1_16_22, eX4_copyFrom_1_16_23, eX4_copyFrom_1_16_26, eX4_copyFrom_1_16_29, eX4_copyFrom_1_16_30, eX4_copyFrom_1_16_33, eX4_copyFrom_1_16_34, eX4_copyFrom_1_16_37, eX4_copyFrom_1_16_40, eX4_copyFrom_1_16_41, eX4_copyFrom_1_16_44, eX4_copyFrom_1_16_45, eX4_copyFrom_1_16_48, eX4_copyFrom_1_16_51, eX4_copyFrom_1_16_52, eX4_copyFrom_1_16_53, eX4_copyFrom_1_16_56, eX4_copyFrom_1_16_59, eX4_copyFrom_1_16_60, eX4_copyFrom_1_16_61, eX4_copyFrom_1_16_64, eX4_copyFrom_1_16_67, eX4_copyFrom_1_16_68, eX4_copyFrom_1_16_69, eX4_copyFrom_1_16_72, eX4_copyFrom_1_16_75, eX4_copyFrom_1_16_in, eX5_copyFrom_10_25_0, eX5_copyFrom_10_25_1, eX5_copyFrom_10_25_3, eX5_copyFrom_10_25_5, eX5_copyFrom_10_25_8, eX5_copyFrom_10_25_9, eX5_copyFrom_10_25_12, eX5_copyFrom_10_25_13, eX5_copyFrom_10_25_14, eX5_copyFrom_10_25_17, eX5_copyFrom_10_25_18, eX5_copyFrom_10_25_19, eX5_copyFrom_10_25_20, eX5_copyFrom_10_25_21, eX5_copyFrom_10_25_24, eX5_copyFrom_10_25_25, eX5_copyFrom_10_25_26, eX5_copyFrom_10_25_29, eX5_copyFrom_10_25_30, eX5_copyFrom_10_25_31, eX5_copyFrom_10_25_32, eX5_copyFrom_10_25_33, eX5_copyFrom_10_25_36, eX5_copyFrom_10_25_37, eX5_copyFrom_10_25_38, eX5_copyFrom_10_25_41, eX5_copyFrom_10_25_42, eX5_copyFrom_10_25_43, eX5_copyFrom_10_25_44, eX5_copyFrom_10_25_45, eX5_copyFrom_10_25_48, eX5_copyFrom_10_25_49, eX5_copyFrom_10_25_50, eX5_copyFrom_10_25_53, eX5_copyFrom_10_25_54, eX5_copyFrom_10_25_55, eX5_copyFrom_10_25_56, eX5_copyFrom_10_25_57, eX5_copyFrom_10_25_60, eX5_copyFrom_10_25_61, eX5_copyFrom_10_25_62, eX5_copyFrom_10_25_65, eX5_copyFrom_10_25_66, eX5_copyFrom_10_25_67, eX5_copyFrom_10_25_68, eX5_copyFrom_10_25_71, eX5_copyFrom_10_25_74, eX5_copyFrom_10_25_75, eX5_copyFrom_10_25_76, eX5_copyFrom_10_25_79, eX5_copyFrom_10_25_82, eX5_copyFrom_10_25_83, eX5_copyFrom_10_25_84, eX5_copyFrom_10_25_87, eX5_copyFrom_10_25_90, eX5_copyFrom_10_25_91, eX5_copyFrom_10_25_92, eX5_copyFrom_10_25_95, eX5_copyFrom_10_25_98, eX5_copyFrom_10_25_99, eX5_copyFrom_10_25_100, eX5_copyFrom_10_25_103, eX5_copyFrom_10_25_106, eX5_copyFrom_10_25_in, Option.toList_some, Option.toList_none, List.cons_append, List.nil_append, b2_0, Classical.not_not, false_implies, true_implies, implies_true, true_and, and_true, not_true_eq_false, not_false_eq_true]
  subst hM1
  refine hQ _ ⟨?_, ?_⟩
  · intro a ha
    have hne : ∀ x, x ≤ 14 → a ≠ 1 + x := fun x hx => by omega
    have q0 := hne 0 (by omega)
    have q1 := hne 1 (by omega)
    have q2 := hne 2 (by omega)
    have q3 := hne 3 (by omega)
    have q4 := hne 4 (by omega)
    have q5 := hne 5 (by omega)
    have q6 := hne 6 (by omega)
    have q7 := hne 7 (by omega)
    have q8 := hne 8 (by omega)
    have q9 := hne 9 (by omega)
    have qt : ¬ (1 + 10 ≤ a ∧ a ≤ 1 + 14) := by omega
    simp only [Nat.reduceAdd] at q0 q1 q2 q3 q4 q5 q6 q7 q8 q9
    simp only [setI_ne q0, setI_ne q2, setI_ne q7, setI_ne q9, tcp_ne qt, setA_ne q1, setA_ne q3, setA_ne q4, setA_ne q5, setA_ne q6, setA_ne q8]
  · intro k hk
    unfold enc
    rcases Nat.lt_or_ge k 18 with z | z
    · rcases (show k = 0 ∨ k = 1 ∨ k = 2 ∨ k = 3 ∨ k = 4 ∨ k = 5 ∨ k = 6 ∨ k = 7 ∨ k = 8 ∨ k = 9 ∨ k = 10 ∨ k = 11 ∨ k = 12 ∨ k = 13 ∨ k = 14 ∨ k = 15 ∨ k = 16 ∨ k = 17 by omega) with rfl | rfl | rfl | rfl | rfl | rfl | rfl | rfl | rfl | rfl | rfl | rfl | rfl | rfl | rfl | rfl | rfl | rfl <;> simp [ec, ep, setI, setA, tcp, upd, va_cpy]
    · have y := ec_reg k z
      unfold vld at hk
      rcases y with ⟨y1, y2, y3⟩ | ⟨y0, y1, y2, y3⟩ | ⟨y0, y1, y2, y3⟩ | ⟨y0, y1, y2, y3⟩ | ⟨y0, y1, y2, y3⟩ | ⟨y0, y2, y3⟩
      · rw [y2, y3]
        simp [setI, setA, tcp, cpy_all (show k - 18 < 64 by omega)]
      · rw [y2, y3]
        simp [setI, setA, tcp, cpy_all (show k - 82 < 64 by omega)]
      · rw [y2, y3]
        simp [setI, setA, tcp, cpy_all (show k - 146 < 64 by omega)]
      · rw [y2, y3]
        simp [setI, setA, tcp, cpy_all (show k - 210 < 64 by omega)]
      · rw [y2, y3]
        simp [setI, setA, tcp, cpy_all (show k - 274 < 6 by omega)]
      · rw [y2, y3]
        have hw : (k - 280) % 6 < 5 := by omega
        have ht : (k - 280) / 6 < 6 := by omega
        generalize (k - 280) / 6 = j at *
        rcases (show (k - 280) % 6 = 0 ∨ (k - 280) % 6 = 1 ∨ (k - 280) % 6 = 2 ∨ (k - 280) % 6 = 3 ∨ (k - 280) % 6 = 4 by omega) with e | e | e | e | e <;> rw [e] <;> simp [setI, setA, tcp, ht]
theorem l_tcopy_1_31 {Q : Qt} {M : Mm} (hQ : V pgX5_copyFrom Q 74 [.ref 10, .ref 40, .int 6] [] (tcp M 1 31 6)) : ∀ (n i : Nat), i + n = 6 → V pgX5_copyFrom Q 2 [.ref 10, .ref 40, .int (nI i)] [] (tcp M 1 31 i) := by
  intro n
  induction n with
  | zero =>
    intro i hi
    have : i = 6 := by omega
    subst this
    rw [eX5_copyFrom_10_40_2]
    simp only [eX5_copyFrom_10_40_0, eX5_copyFrom_10_40_1, eX5_copyFrom_10_40_3, eX5_copyFrom_10_40_5, eX5_copyFrom_10_40_8, eX5_copyFrom_10_40_9, eX5_copyFrom_10_40_12, eX5_copyFrom_10_40_13, eX5_copyFrom_10_40_14, eX5_copyFrom_10_40_17, eX5_copyFrom_10_40_18, eX5_copyFrom_10_40_19, eX5_copyFrom_10_40_20, eX5_copyFrom_10_40_21, eX5_copyFrom_10_40_24, eX5_copyFrom_10_40_25, eX5_copyFrom_10_40_26, eX5_copyFrom_10_40_29, eX5_copyFrom_10_40_30, eX5_copyFrom_10_40_31, eX5_copyFrom_10_40_32, eX5_copyFrom_10_40_33, eX5_copyFrom_10_40_36, eX5_copyFrom_10_40_37, eX5_copyFrom_10_40_38, eX5_copyFrom_10_40_41, eX5_copyFrom_10_40_42, eX5_copyFrom_10_40_43, eX5_copyFrom_10_40_44, eX5_copyFrom_10_40_45, eX5_copyFrom_10_40_48, eX5_copyFrom_10_40_49, eX5_copyFrom_10_40_50, eX5_copyFrom_10_40_53, eX5_copyFrom_10_40_54, eX5_copyFrom_10_40_55, eX5_copyFrom_10_40_56, eX5_copyFrom_10_40_57, eX5_copyFrom_10_40_60, eX5_copyFrom_10_40_61, eX5_copyFrom_10_40_62, eX5_copyFrom_10_40_65, eX5_copyFrom_10_40_66, eX5_copyFrom_10_40_67, eX5_copyFrom_10_40_68, eX5_copyFrom_10_40_71, eX5_copyFrom_10_40_75, eX5_copyFrom_10_40_76, eX5_copyFrom_10_40_79, eX5_copyFrom_10_40_82, eX5_copyFrom_10_40_83, eX5_copyFrom_10_40_84, eX5_copyFrom_10_40_87, eX5_copyFrom_10_40_90, eX5_copyFrom_10_40_91, eX5_copyFrom_10_40_92, eX5_copyFrom_10_40_95, eX5_copyFrom_10_40_98, eX5_copyFrom_10_40_99, eX5_copyFrom_10_40_100, eX5_copyFrom_10_40_103, eX5_copyFrom_10_40_106, eX5_copyFrom_10_40_in]
    exact ⟨fun _ => hQ, fun z => absurd (by decide) z⟩
  | succ n ih =>
    intro i hi
    have h1 : ¬ ((6 : Int32) ≤ nI i) := nI_ge (b := 6) (by omega) (by omega)
    have h2 : (nI i).toNatClampNeg = i := nI_clamp (by omega)
    have h3 : vp_in (nI i) 6 := vpn (by omega) (by decide)
    rw [eX5_copyFrom_10_40_2]
    simp only [eX5_copyFrom_10_40_0, eX5_copyFrom_10_40_1, eX5_copyFrom_10_40_3, eX5_copyFrom_10_40_5, eX5_copyFrom_10_40_8, eX5_copyFrom_10_40_9, eX5_copyFrom_10_40_12, eX5_copyFrom_10_40_13, eX5_copyFrom_10_40_14, eX5_copyFrom_10_40_17, eX5_copyFrom_10_40_18, eX5_copyFrom_10_40_19, eX5_copyFrom_10_40_20, eX5_copyFrom_10_40_21, eX5_copyFrom_10_40_24, eX5_copyFrom_10_40_25, eX5_copyFrom_10_40_26, eX5_copyFrom_10_40_29, eX5_copyFrom_10_40_30, eX5_copyFrom_10_40_31, eX5_copyFrom_10_40_32, eX5_copyFrom_10_40_33, eX5_copyFrom_10_40_36, eX5_copyFrom_10_40_37, eX5_copyFrom_10_40_38, eX5_copyFrom_10_40_41, eX5_copyFrom_10_40_42, eX5_copyFrom_10_40_43, eX5_copyFrom_10_40_44, eX5_copyFrom_10_40_45, eX5_copyFrom_10_40_48, eX5_copyFrom_10_40_49, eX5_copyFrom_10_40_50, eX5_copyFrom_10_40_53, eX5_copyFrom_10_40_54, eX5_copyFrom_10_40_55, eX5_copyFrom_10_40_56, eX5_copyFrom_10_40_57, eX5_copyFrom_10_40_60, eX5_copyFrom_10_40_61, eX5_copyFrom_10_40_62, eX5_copyFrom_10_40_65, eX5_copyFrom_10_40_66, eX5_copyFrom_10_40_67, eX5_copyFrom_10_40_68, eX5_copyFrom_10_40_71, eX5_copyFrom_10_40_75, eX5_copyFrom_10_40_76, eX5_copyFrom_10_40_79, eX5_copyFrom_10_40_82, eX5_copyFrom_10_40_83, eX5_copyFrom_10_40_84, eX5_copyFrom_10_40_87, eX5_copyFrom_10_40_90, eX5_copyFrom_10_40_91, eX5_copyFrom_10_40_92, eX5_copyFrom_10_40_95, eX5_copyFrom_10_40_98, eX5_copyFrom_10_40_99, eX5_copyFrom_10_40_100, eX5_copyFrom_10_40_103, eX5_copyFrom_10_40_106, eX5_copyFrom_10_40_in, h1, h2, h3, nI_1, Option.toList_some, Option.toList_none, List.cons_append, List.nil_append, b2_0, Classical.not_not, false_implies, true_implies, implies_true, true_and, and_true, not_true_eq_false, not_false_eq_true]
    have e : setI (setI (setI (setI (setI (tcp M 1 31 i) 11 i ((tcp M 1 31 i).1 41 i)) 12 i ((setI (tcp M 1 31 i) 11 i ((tcp M 1 31 i).1 41 i)).1 42 i)) 13 i ((setI (setI (tcp M 1 31 i) 11 i ((tcp M 1 31 i).1 41 i)) 12 i ((setI (tcp M 1 31 i) 11 i ((tcp M 1 31 i).1 41 i)).1 42 i)).1 43 i)) 14 i ((setI (setI (setI (tcp M 1 31 i) 11 i ((tcp M 1 31 i).1 41 i)) 12 i ((setI (tcp M 1 31 i) 11 i ((tcp M 1 31 i).1 41 i)).1 42 i)) 13 i ((setI (setI (tcp M 1 31 i) 11 i ((tcp M 1 31 i).1 41 i)) 12 i ((setI (tcp M 1 31 i) 11 i ((tcp M 1 31 i).1 41 i)).1 42 i)).1 43 i)).1 44 i)) 15 i ((setI (setI (setI (setI (tcp M 1 31 i) 11 i ((tcp M 1 31 i).1 41 i)) 12 i ((setI (tcp M 1 31 i) 11 i ((tcp M 1 31 i).1 41 i)).1 42 i)) 13 i ((setI (setI (tcp M 1 31 i) 11 i ((tcp M 1 31 i).1 41 i)) 12 i ((setI (tcp M 1 31 i) 11 i ((tcp M 1 31 i).1 41 i)).1 42 i)).1 43 i)) 14 i ((setI (setI (setI (tcp M 1 31 i) 11 i ((tcp M 1 31 i).1 41 i)) 12 i ((setI (tcp M 1 31 i) 11 i ((tcp M 1 31 i).1 41 i)).1 42 i)) 13 i ((setI (setI (tcp M 1 31 i) 11 i ((tcp M 1 31 i).1 41 i)) 12 i ((setI (tcp M 1 31 i) 11 i ((tcp M 1 31 i).1 41 i)).1 42 i)).1 43 i)).1 44 i)).1 45 i) = tcp M 1 31 (i + 1) := by
      ext a
      · rcases (show a = 11 ∨ a = 12 ∨ a = 13 ∨ a = 14 ∨ a = 15 ∨ ¬ (11 ≤ a ∧ a ≤ 15) by omega) with rfl | rfl | rfl | rfl | rfl | h
        · simp [setI, tcp, upd_lt]
        · simp [setI, tcp, upd_lt]
        · simp [setI, tcp, upd_lt]
        · simp [setI, tcp, upd_lt]
        · simp [setI, tcp, upd_lt]
        · have g0 : a ≠ 11 := by omega
          have g1 : a ≠ 12 := by omega
          have g2 : a ≠ 13 := by omega
          have g3 : a ≠ 14 := by omega
          have g4 : a ≠ 15 := by omega
          simp only [setI, tcp, g0, g1, g2, g3, g4, if_false, h]
      · rfl
    rw [e]
    exact ih (i + 1) (by omega)
theorem c_copy_1_31 {Q : Qt} {M : Mm} (hQ : ∀ M', CpD M M' 1 31 → Q none M') : kX4_copyFrom [.ref 1, .ref 31] M Q := by
  have n0 : ¬ ((0 : Int32) < 0) := by decide
  have n4 : ¬ ((Int32.ofNat 4) < 0) := by decide
  have n6 : ¬ ((6 : Int32) < 0) := by decide
  have n64 : ¬ ((64 : Int32) < 0) := by decide
  have t4 : (Int32.ofNat 4).toNatClampNeg = 4 := rfl
  have l4 : 0 + 4 ≤ 4 := by decide
  have l6 : 0 + 6 ≤ 6 := by decide
  have l64 : 0 + 64 ≤ 64 := by decide
  simp only [eX4_copyFrom_1_31_0, eX4_copyFrom_1_31_1, eX4_copyFrom_1_31_4, eX4_copyFrom_1_31_5, eX4_copyFrom_1_31_6, eX4_copyFrom_1_31_9, eX4_copyFrom_1_31_10, eX4_copyFrom_1_31_11, eX4_copyFrom_1_31_14, eX4_copyFrom_1_31_15, eX4_copyFrom_1_31_18, eX4_copyFrom_1_31_19, eX4_copyFrom_1_31_22, eX4_copyFrom_1_31_23, eX4_copyFrom_1_31_26, eX4_copyFrom_1_31_29, eX4_copyFrom_1_31_30, eX4_copyFrom_1_31_33, eX4_copyFrom_1_31_34, eX4_copyFrom_1_31_37, eX4_copyFrom_1_31_40, eX4_copyFrom_1_31_41, eX4_copyFrom_1_31_44, eX4_copyFrom_1_31_45, eX4_copyFrom_1_31_48, eX4_copyFrom_1_31_51, eX4_copyFrom_1_31_52, eX4_copyFrom_1_31_53, eX4_copyFrom_1_31_56, eX4_copyFrom_1_31_59, eX4_copyFrom_1_31_60, eX4_copyFrom_1_31_61, eX4_copyFrom_1_31_64, eX4_copyFrom_1_31_67, eX4_copyFrom_1_31_68, eX4_copyFrom_1_31_69, eX4_copyFrom_1_31_72, eX4_copyFrom_1_31_75, eX4_copyFrom_1_31_in, eX1_copyFrom_3_33_0, eX1_copyFrom_3_33_1, eX1_copyFrom_3_33_2, eX1_copyFrom_3_33_5, eX1_copyFrom_3_33_8, eX1_copyFrom_3_33_9, eX1_copyFrom_3_33_10, eX1_copyFrom_3_33_13, eX1_copyFrom_3_33_16, eX1_copyFrom_3_33_17, eX1_copyFrom_3_33_20, eX1_copyFrom_3_33_21, eX1_copyFrom_3_33_22, eX1_copyFrom_3_33_25, eX1_copyFrom_3_33_26, eX1_copyFrom_3_33_28, eX1_copyFrom_3_33_31, eX1_copyFrom_3_33_32, eX1_copyFrom_3_33_35, eX1_copyFrom_3_33_36, eX1_copyFrom_3_33_37, eX1_copyFrom_3_33_40, eX1_copyFrom_3_33_41, eX1_copyFrom_3_33_43, eX1_copyFrom_3_33_46, eX1_copyFrom_3_33_47, eX1_copyFrom_3_33_50, eX1_copyFrom_3_33_51, eX1_copyFrom_3_33_52, eX1_copyFrom_3_33_55, eX1_copyFrom_3_33_56, eX1_copyFrom_3_33_58, eX1_copyFrom_3_33_61, eX1_copyFrom_3_33_62, eX1_copyFrom_3_33_65, eX1_copyFrom_3_33_66, eX1_copyFrom_3_33_67, eX1_copyFrom_3_33_70, eX1_copyFrom_3_33_71, eX1_copyFrom_3_33_73, eX1_copyFrom_3_33_76, eX1_copyFrom_3_33_77, eX1_copyFrom_3_33_78, eX1_copyFrom_3_33_81, eX1_copyFrom_3_33_84, eX1_copyFrom_3_33_85, eX1_copyFrom_3_33_86, eX1_copyFrom_3_33_89, eX1_copyFrom_3_33_92, eX1_copyFrom_3_33_93, eX1_copyFrom_3_33_94, eX1_copyFrom_3_33_97, eX1_copyFrom_3_33_100, eX1_copyFrom_3_33_in, eX0_copyFrom_8_38_0, eX0_copyFrom_8_38_1, eX0_copyFrom_8_38_4, eX0_copyFrom_8_38_5, eX0_copyFrom_8_38_6, eX0_copyFrom_8_38_9, eX0_copyFrom_8_38_10, eX0_copyFrom_8_38_12, eX0_copyFrom_8_38_15, eX0_copyFrom_8_38_16, eX0_copyFrom_8_38_17, eX0_copyFrom_8_38_20, eX0_copyFrom_8_38_23, eX0_copyFrom_8_38_24, eX0_copyFrom_8_38_25, eX0_copyFrom_8_38_28, eX0_copyFrom_8_38_31, eX0_copyFrom_8_38_in, eX5_copyFrom_10_40_0, eX5_copyFrom_10_40_1, eX5_copyFrom_10_40_3, eX5_copyFrom_10_40_5, eX5_copyFrom_10_40_8, eX5_copyFrom_10_40_9, eX5_copyFrom_10_40_12, eX5_copyFrom_10_40_13, eX5_copyFrom_10_40_14, eX5_copyFrom_10_40_17, eX5_copyFrom_10_40_18, eX5_copyFrom_10_40_19, eX5_copyFrom_10_40_20, eX5_copyFrom_10_40_21, eX5_copyFrom_10_40_24, eX5_copyFrom_10_40_25, eX5_copyFrom_10_40_26, eX5_copyFrom_10_40_29, eX5_copyFrom_10_40_30, eX5_copyFrom_10_40_31, eX5_copyFrom_10_40_32, eX5_copyFrom_10_40_33, eX5_copyFrom_10_40_36, eX5_copyFrom_10_40_37, eX5_copyFrom_10_40_38, eX5_copyFrom_10_40_41, eX5_copyFrom_10_40_42, eX5_copyFrom_10_40_43, eX5_copyFrom_10_40_44, eX5_copyFrom_10_40_45, eX5_copyFrom_10_40_48, eX5_copyFrom_10_40_49, eX5_copyFrom_10_40_50, eX5_copyFrom_10_40_53, eX5_copyFrom_10_40_54, eX5_copyFrom_10_40_55, eX5_copyFrom_10_40_56, eX5_copyFrom_10_40_57, eX5_copyFrom_10_40_60, eX5_copyFrom_10_40_61, eX5_copyFrom_10_40_62, eX5_copyFrom_10_40_65, eX5_copyFrom_10_40_66, eX5_copyFrom_10_40_67, eX5_copyFrom_10_40_68, eX5_copyFrom_10_40_71, eX5_copyFrom_10_40_74, eX5_copyFrom_10_40_75, eX5_copyFrom_10_40_76, eX5_copyFrom_10_40_79, eX5_copyFrom_10_40_82, eX5_copyFrom_10_40_83, eX5_copyFrom_10_40_84, eX5_copyFrom_10_40_87, eX5_copyFrom_10_40_90, eX5_copyFrom_10_40_91, eX5_copyFrom_10_40_92, eX5_copyFrom_10_40_95, eX5_copyFrom_10_40_98, eX5_copyFrom_10_40_99, eX5_copyFrom_10_40_100, eX5_copyFrom_10_40_103, eX5_copyFrom_10_40_106, eX5_copyFrom_10_40_in, n0, n4, n6, n64, tn_0, tn_6, tn_64, t4, l4, l6, l64, Option.toList_some, Option.toList_none, List.cons_append, List.nil_append, b2_0, Classical.not_not, false_implies, true_implies, implies_true, true_and, and_true, not_true_eq_false, not_false_eq_true, ne_eq, Nat.reduceEqDiff, setI_ne, setA_ne, not_false_eq_true, reduceCtorEq, Nat.reduceEqDiff]
  rw [show (0 : Int32) = nI 0 from rfl]
  generalize hM1 : setI _ _ _ _ = M1
  rw [← tcp_0 M1 1 31]
  refine l_tcopy_1_31 ?_ 6 0 (by omega)
  simp only [eX4_copyFrom_1_31_0, eX4_copyFrom_1_31_1, eX4_copyFrom_1_31_4, eX4_copyFrom_1_31_5, eX4_copyFrom_1_31_6, eX4_copyFrom_1_31_9, eX4_copyFrom_1_31_10, eX4_copyFrom_1_31_11, eX4_copyFrom_1_31_14, eX4_copyFrom_1_31_15, eX4_copyFrom_1_31_18, eX4_copyFrom_1_31_19, eX4_copyFrom_1_31_22, eX4_copyFrom_1_31_23, eX4_copyFrom_1_31_26, eX4_copyFrom_1_31_29, eX4_copyFrom_1_31_30, eX4_copyFrom_1_31_33, eX4_copyFrom_1_31_34, eX4_copyFrom_1_31_37, eX4_copyFrom_1_31_40, eX4_copyFrom_1_31_41, eX4_copyFrom_1_31_44, eX4_copyFrom_1_31_45, eX4_copyFrom_1_31_48, eX4_copyFrom_1_31_51, eX4_copyFrom_1_31_52, eX4_copyFrom_1_31_53, eX4_copyFrom_1_31_56, eX4_copyFrom_1_31_59, eX4_copyFrom_1_31_60, eX4_copyFrom_1_31_61, eX4_copyFrom_1_31_64, eX4_copyFrom_1_31_67, eX4_copyFrom_1_31_68, eX4_copyFrom_1_31_69, eX4_copyFrom_1_31_72, eX4_copyFrom_1_31_75, eX4_copyFrom_1_31_in, eX5_copyFrom_10_40_0, eX5_copyFrom_10_40_1, eX5_copyFrom_10_40_3, eX5_copyFrom_10_40_5, eX5_copyFrom_10_40_8, eX5_copyFrom_10_40_9, eX5_copyFrom_10_40_12, eX5_copyFrom_10_40_13, eX5_copyFrom_10_40_14, eX5_copyFrom_10_40_17, eX5_copyFrom_10_40_18, eX5_copyFrom_10_40_19, eX5_copyFrom_10_40_20, eX5_copyFrom_10_40_21, eX5_copyFrom_10_40_24, eX5_copyFrom_10_40_25, eX5_copyFrom_10_40_26, eX5_copyFrom_10_40_29, eX5_copyFrom_10_40_30, eX5_copyFrom_10_40_31, eX5_copyFrom_10_40_32, eX5_copyFrom_10_40_33, eX5_copyFrom_10_40_36, eX5_copyFrom_10_40_37, eX5_copyFrom_10_40_38, eX5_copyFrom_10_40_41, eX5_copyFrom_10_40_42, eX5_copyFrom_10_40_43, eX5_copyFrom_10_40_44, eX5_copyFrom_10_40_45, eX5_copyFrom_10_40_48, eX5_copyFrom_10_40_49, eX5_copyFrom_10_40_50, eX5_copyFrom_10_40_53, eX5_copyFrom_10_40_54, eX5_copyFrom_10_40_55, eX5_copyFrom_10_40_56, eX5_copyFrom_10_40_57, eX5_copyFrom_10_40_60, eX5_copyFrom_10_40_61, eX5_copyFrom_10_40_62, eX5_copyFrom_10_40_65, eX5_copyFrom_10_40_66, eX5_copyFrom_10_40_67, eX5_copyFrom_10_40_68, eX5_copyFrom_10_40_71, eX5_copyFrom_10_40_74, eX5_copyFrom_10_40_75, eX5_copyFrom_10_40_76, eX5_copyFrom_10_40_79, eX5_copyFrom_10_40_82, eX5_copyFrom_10_40_83, eX5_copyFrom_10_40_84, eX5_copyFrom_10_40_87, eX5_copyFrom_10_40_90, eX5_copyFrom_10_40_91, eX5_copyFrom_10_40_92, eX5_copyFrom_10_40_95, eX5_copyFrom_10_40_98, eX5_copyFrom_10_40_99, eX5_copyFrom_10_40_100, eX5_copyFrom_10_40_103, eX5_copyFrom_10_40_106, eX5_copyFrom_10_40_in, Option.toList_some, Option.toList_none, List.cons_append, List.nil_append, b2_0, Classical.not_not, false_implies, true_implies, implies_true, true_and, and_true, not_true_eq_false, not_false_eq_true]
  subst hM1
  refine hQ _ ⟨?_, ?_⟩
  · intro a ha
    have hne : ∀ x, x ≤ 14 → a ≠ 1 + x := fun x hx => by omega
    have q0 := hne 0 (by omega)
    have q1 := hne 1 (by omega)
    have q2 := hne 2 (by omega)
    have q3 := hne 3 (by omega)
    have q4 := hne 4 (by omega)
    have q5 := hne 5 (by omega)
    have q6 := hne 6 (by omega)
    have q7 := hne 7 (by omega)
    have q8 := hne 8 (by omega)
    have q9 := hne 9 (by omega)
    have qt : ¬ (1 + 10 ≤ a ∧ a ≤ 1 + 14) := by omega
    simp only [Nat.reduceAdd] at q0 q1 q2 q3 q4 q5 q6 q7 q8 q9
    simp only [setI_ne q0, setI_ne q2, setI_ne q7, setI_ne q9, tcp_ne qt, setA_ne q1, setA_ne q3, setA_ne q4, setA_ne q5, setA_ne q6, setA_ne q8]
  · intro k hk
    unfold enc
    rcases Nat.lt_or_ge k 18 with z | z
    · rcases (show k = 0 ∨ k = 1 ∨ k = 2 ∨ k = 3 ∨ k = 4 ∨ k = 5 ∨ k = 6 ∨ k = 7 ∨ k = 8 ∨ k = 9 ∨ k = 10 ∨ k = 11 ∨ k = 12 ∨ k = 13 ∨ k = 14 ∨ k = 15 ∨ k = 16 ∨ k = 17 by omega) with rfl | rfl | rfl | rfl | rfl | rfl | rfl | rfl | rfl | rfl | rfl | rfl | rfl | rfl | rfl | rfl | rfl | rfl <;> simp [ec, ep, setI, setA, tcp, upd, va_cpy]
    · have y := ec_reg k z
      unfold vld at hk
      rcases y with ⟨y1, y2, y3⟩ | ⟨y0, y1, y2, y3⟩ | ⟨y0, y1, y2, y3⟩ | ⟨y0, y1, y2, y3⟩ | ⟨y0, y1, y2, y3⟩ | ⟨y0, y2, y3⟩
      · rw [y2, y3]
        simp [setI, setA, tcp, cpy_all (show k - 18 < 64 by omega)]
      · rw [y2, y3]
        simp [setI, setA, tcp, cpy_all (show k - 82 < 64 by omega)]
      · rw [y2, y3]
        simp [setI, setA, tcp, cpy_all (show k - 146 < 64 by omega)]
      · rw [y2, y3]
        simp [setI, setA, tcp, cpy_all (show k - 210 < 64 by omega)]
      · rw [y2, y3]
        simp [setI, setA, tcp, cpy_all (show k - 274 < 6 by omega)]
      · rw [y2, y3]
        have hw : (k - 280) % 6 < 5 := by omega
        have ht : (k - 280) / 6 < 6 := by omega
        generalize (k - 280) / 6 = j at *
        rcases (show (k - 280) % 6 = 0 ∨ (k - 280) % 6 = 1 ∨ (k - 280) % 6 = 2 ∨ (k - 280) % 6 = 3 ∨ (k - 280) % 6 = 4 by omega) with e | e | e | e | e <;> rw [e] <;> simp [setI, setA, tcp, ht]
