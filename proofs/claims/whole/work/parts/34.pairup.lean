/-! the class pairs, whole; paired -/
section CPU
variable {R C n m D : Nat} {pt qk : Nat → Nat}
theorem PC.bd {M : Mm} (h : PC M R C n m D pt qk) : n ≤ 6 ∧ m ≤ 6 ∧ D ≤ 14 := ⟨h.1.2.2.2.1, h.1.2.2.2.2.1, h.1.2.2.2.2.2⟩
theorem LL.set {M : Mm} {w : Nat → Nat → Nat} {t a p : Nat} {v : Int32} (h : LL M w n m D t) (ha : a ≠ 48) : LL (setI M a p v) w n m D t := fun j s h1 h2 h3 h4 => by
  rw [setI_ne (by omega)]
  exact h j s h1 h2 h3 h4
theorem l_fl1 {Q : Qt} {M0 : Mm} {w : Nat → Nat → Nat} (hn : n ≤ 6) (hm : m ≤ 6) (hD : D ≤ 14) (hQ : ∀ M' : Mm, FrP M0 M' → HP M' w n m D → LL M' w n m D n → V pgX3_fillLeast Q 52 [.ref 46, .int (nI (D + 1)), .int (nI (2 ^ m)), .int (nI (2 ^ m)), .null] [] M') : ∀ (d s : Nat) (M : Mm), s + d = 2 ^ m → FrP M0 M → HP M w n m D → (∀ s', s' < s → M.1 48 (n * 64 + s') = nI (cst w n m D 0 s')) → V pgX3_fillLeast Q 16 [.ref 46, .int (nI (D + 1)), .int (nI (2 ^ m)), .int (nI s), .null] [] M := by
  have h64 : 2 ^ m ≤ 64 := (sh_m m (by omega)).2
  intro d
  induction d with
  | zero =>
    intro s M hs hF hH hc
    have : s = 2 ^ m := by omega
    subst this
    rw [eX3_fillLeast_16]
    simp only [eX3_fillLeast_0, eX3_fillLeast_1, eX3_fillLeast_4, eX3_fillLeast_5, eX3_fillLeast_6, eX3_fillLeast_7, eX3_fillLeast_8, eX3_fillLeast_9, eX3_fillLeast_12, eX3_fillLeast_13, eX3_fillLeast_14, eX3_fillLeast_15, eX3_fillLeast_17, eX3_fillLeast_18, eX3_fillLeast_21, eX3_fillLeast_22, eX3_fillLeast_25, eX3_fillLeast_26, eX3_fillLeast_29, eX3_fillLeast_31, eX3_fillLeast_32, eX3_fillLeast_33, eX3_fillLeast_34, eX3_fillLeast_35, eX3_fillLeast_36, eX3_fillLeast_39, eX3_fillLeast_40, eX3_fillLeast_43, eX3_fillLeast_44, eX3_fillLeast_45, eX3_fillLeast_46, eX3_fillLeast_49, eX3_fillLeast_53, eX3_fillLeast_56, eX3_fillLeast_57, eX3_fillLeast_58, eX3_fillLeast_60, eX3_fillLeast_63, eX3_fillLeast_64, eX3_fillLeast_68, eX3_fillLeast_69, eX3_fillLeast_72, eX3_fillLeast_74, eX3_fillLeast_77, eX3_fillLeast_78, eX3_fillLeast_81, eX3_fillLeast_82, eX3_fillLeast_85, eX3_fillLeast_86, eX3_fillLeast_88, eX3_fillLeast_89, eX3_fillLeast_91, eX3_fillLeast_92, eX3_fillLeast_93, eX3_fillLeast_94, eX3_fillLeast_96, eX3_fillLeast_99, eX3_fillLeast_100, eX3_fillLeast_103, eX3_fillLeast_106, eX3_fillLeast_109, eX3_fillLeast_112, eX3_fillLeast_in, Int32.le_refl, Option.toList_some, Option.toList_none, List.cons_append, List.nil_append, b2_0, Classical.not_not, false_implies, true_implies, implies_true, true_and, and_true, not_true_eq_false, not_false_eq_true]
    refine hQ M hF hH (fun j s h1 h2 h3 h4 => ?_)
    have : j = n := by omega
    rw [this, Nat.sub_self]
    exact hc s h3
  | succ d ih =>
    intro s M hs hF hH hc
    have pl := pc_m m (by omega) s (by omega)
    rw [eX3_fillLeast_16]
    simp only [eX3_fillLeast_0, eX3_fillLeast_1, eX3_fillLeast_4, eX3_fillLeast_5, eX3_fillLeast_6, eX3_fillLeast_7, eX3_fillLeast_8, eX3_fillLeast_9, eX3_fillLeast_12, eX3_fillLeast_13, eX3_fillLeast_14, eX3_fillLeast_15, eX3_fillLeast_17, eX3_fillLeast_18, eX3_fillLeast_21, eX3_fillLeast_22, eX3_fillLeast_25, eX3_fillLeast_26, eX3_fillLeast_29, eX3_fillLeast_31, eX3_fillLeast_32, eX3_fillLeast_33, eX3_fillLeast_34, eX3_fillLeast_35, eX3_fillLeast_36, eX3_fillLeast_39, eX3_fillLeast_40, eX3_fillLeast_43, eX3_fillLeast_44, eX3_fillLeast_45, eX3_fillLeast_46, eX3_fillLeast_49, eX3_fillLeast_53, eX3_fillLeast_56, eX3_fillLeast_57, eX3_fillLeast_58, eX3_fillLeast_60, eX3_fillLeast_63, eX3_fillLeast_64, eX3_fillLeast_68, eX3_fillLeast_69, eX3_fillLeast_72, eX3_fillLeast_74, eX3_fillLeast_77, eX3_fillLeast_78, eX3_fillLeast_81, eX3_fillLeast_82, eX3_fillLeast_85, eX3_fillLeast_86, eX3_fillLeast_88, eX3_fillLeast_89, eX3_fillLeast_91, eX3_fillLeast_92, eX3_fillLeast_93, eX3_fillLeast_94, eX3_fillLeast_96, eX3_fillLeast_99, eX3_fillLeast_100, eX3_fillLeast_103, eX3_fillLeast_106, eX3_fillLeast_109, eX3_fillLeast_112, eX3_fillLeast_in, nI_ge (show s < 2 ^ m by omega) (show 2 ^ m < 2 ^ 31 by omega), hH.1, hH.2.1, Option.toList_some, Option.toList_none, List.cons_append, List.nil_append, b2_0, Classical.not_not, false_implies, true_implies, implies_true, true_and, and_true, not_true_eq_false, not_false_eq_true]
    refine c_bitCount (by omega) ?_
    simp only [eX3_fillLeast_0, eX3_fillLeast_1, eX3_fillLeast_4, eX3_fillLeast_5, eX3_fillLeast_6, eX3_fillLeast_7, eX3_fillLeast_8, eX3_fillLeast_9, eX3_fillLeast_12, eX3_fillLeast_13, eX3_fillLeast_14, eX3_fillLeast_15, eX3_fillLeast_17, eX3_fillLeast_18, eX3_fillLeast_21, eX3_fillLeast_22, eX3_fillLeast_25, eX3_fillLeast_26, eX3_fillLeast_29, eX3_fillLeast_31, eX3_fillLeast_32, eX3_fillLeast_33, eX3_fillLeast_34, eX3_fillLeast_35, eX3_fillLeast_36, eX3_fillLeast_39, eX3_fillLeast_40, eX3_fillLeast_43, eX3_fillLeast_44, eX3_fillLeast_45, eX3_fillLeast_46, eX3_fillLeast_49, eX3_fillLeast_53, eX3_fillLeast_56, eX3_fillLeast_57, eX3_fillLeast_58, eX3_fillLeast_60, eX3_fillLeast_63, eX3_fillLeast_64, eX3_fillLeast_68, eX3_fillLeast_69, eX3_fillLeast_72, eX3_fillLeast_74, eX3_fillLeast_77, eX3_fillLeast_78, eX3_fillLeast_81, eX3_fillLeast_82, eX3_fillLeast_85, eX3_fillLeast_86, eX3_fillLeast_88, eX3_fillLeast_89, eX3_fillLeast_91, eX3_fillLeast_92, eX3_fillLeast_93, eX3_fillLeast_94, eX3_fillLeast_96, eX3_fillLeast_99, eX3_fillLeast_100, eX3_fillLeast_103, eX3_fillLeast_106, eX3_fillLeast_109, eX3_fillLeast_112, eX3_fillLeast_in, mt64, nI_add, nI_1, pk_sub pl, pk_mul, nI_clamp (show n * 64 + s < 2 ^ 31 by omega), vpn (show n * 64 + s < 448 by omega) (by decide : 448 < 2147483648), Option.toList_some, Option.toList_none, List.cons_append, List.nil_append, b2_0, Classical.not_not, false_implies, true_implies, implies_true, true_and, and_true, not_true_eq_false, not_false_eq_true]
    refine ih (s + 1) _ (by omega) (hF.set (by omega)) (hH.set (by omega)) (fun s' hs' => ?_)
    rw [setI_at]
    by_cases e : s' = s
    · subst e
      rw [upd_at]
      unfold cst
      rfl
    · rw [upd_ne (by omega)]
      exact hc s' (by omega)
theorem l_fl2 {Q : Qt} {M0 : Mm} {w : Nat → Nat → Nat} {t : Nat} (hn : n ≤ 6) (hm : m ≤ 6) (hD : D ≤ 14) (hw : ∀ t k, t < n → k < m → w t k ≤ 14) (ht : t < n) (hQ : ∀ M' : Mm, FrP M0 M' → HP M' w n m D → LL M' w n m D t → V pgX3_fillLeast Q 106 [.ref 46, .int (nI (D + 1)), .int (nI (2 ^ m)), .int (nI t), .int (nI (2 ^ m))] [] M') : ∀ (d s : Nat) (M : Mm), s + d = 2 ^ m → FrP M0 M → HP M w n m D → LL M w n m D (t + 1) → (∀ s', s' < s → pcn 8 s' ≤ t → M.1 48 (t * 64 + s') = nI (cst w n m D (n - t) s')) → V pgX3_fillLeast Q 66 [.ref 46, .int (nI (D + 1)), .int (nI (2 ^ m)), .int (nI t), .int (nI s)] [] M := by
  have h64 : 2 ^ m ≤ 64 := (sh_m m (by omega)).2
  intro d
  induction d with
  | zero =>
    intro s M hs hF hH hc hd
    have : s = 2 ^ m := by omega
    subst this
    rw [eX3_fillLeast_66]
    simp only [eX3_fillLeast_0, eX3_fillLeast_1, eX3_fillLeast_4, eX3_fillLeast_5, eX3_fillLeast_6, eX3_fillLeast_7, eX3_fillLeast_8, eX3_fillLeast_9, eX3_fillLeast_12, eX3_fillLeast_13, eX3_fillLeast_14, eX3_fillLeast_15, eX3_fillLeast_17, eX3_fillLeast_18, eX3_fillLeast_21, eX3_fillLeast_22, eX3_fillLeast_25, eX3_fillLeast_26, eX3_fillLeast_29, eX3_fillLeast_31, eX3_fillLeast_32, eX3_fillLeast_33, eX3_fillLeast_34, eX3_fillLeast_35, eX3_fillLeast_36, eX3_fillLeast_39, eX3_fillLeast_40, eX3_fillLeast_43, eX3_fillLeast_44, eX3_fillLeast_45, eX3_fillLeast_46, eX3_fillLeast_49, eX3_fillLeast_52, eX3_fillLeast_53, eX3_fillLeast_56, eX3_fillLeast_57, eX3_fillLeast_58, eX3_fillLeast_60, eX3_fillLeast_63, eX3_fillLeast_64, eX3_fillLeast_68, eX3_fillLeast_69, eX3_fillLeast_72, eX3_fillLeast_74, eX3_fillLeast_77, eX3_fillLeast_78, eX3_fillLeast_81, eX3_fillLeast_82, eX3_fillLeast_85, eX3_fillLeast_86, eX3_fillLeast_88, eX3_fillLeast_89, eX3_fillLeast_91, eX3_fillLeast_92, eX3_fillLeast_93, eX3_fillLeast_94, eX3_fillLeast_96, eX3_fillLeast_99, eX3_fillLeast_100, eX3_fillLeast_103, eX3_fillLeast_109, eX3_fillLeast_112, eX3_fillLeast_in, Int32.le_refl, Option.toList_some, Option.toList_none, List.cons_append, List.nil_append, b2_0, Classical.not_not, false_implies, true_implies, implies_true, true_and, and_true, not_true_eq_false, not_false_eq_true]
    refine hQ M hF hH (fun j s h1 h2 h3 h4 => ?_)
    by_cases e : j = t
    · subst e
      exact hd s h3 h4
    · exact hc j s (by omega) h2 h3 h4
  | succ d ih =>
    intro s M hs hF hH hc hd
    have p8 := pc_m m (by omega) s (by omega)
    have cmp : nI t < nI (pcn 8 s) ↔ t < pcn 8 s := nI_ltI (by omega) (by omega)
    rw [eX3_fillLeast_66]
    simp only [eX3_fillLeast_0, eX3_fillLeast_1, eX3_fillLeast_4, eX3_fillLeast_5, eX3_fillLeast_6, eX3_fillLeast_7, eX3_fillLeast_8, eX3_fillLeast_9, eX3_fillLeast_12, eX3_fillLeast_13, eX3_fillLeast_14, eX3_fillLeast_15, eX3_fillLeast_17, eX3_fillLeast_18, eX3_fillLeast_21, eX3_fillLeast_22, eX3_fillLeast_25, eX3_fillLeast_26, eX3_fillLeast_29, eX3_fillLeast_31, eX3_fillLeast_32, eX3_fillLeast_33, eX3_fillLeast_34, eX3_fillLeast_35, eX3_fillLeast_36, eX3_fillLeast_39, eX3_fillLeast_40, eX3_fillLeast_43, eX3_fillLeast_44, eX3_fillLeast_45, eX3_fillLeast_46, eX3_fillLeast_49, eX3_fillLeast_52, eX3_fillLeast_53, eX3_fillLeast_56, eX3_fillLeast_57, eX3_fillLeast_58, eX3_fillLeast_60, eX3_fillLeast_63, eX3_fillLeast_64, eX3_fillLeast_68, eX3_fillLeast_69, eX3_fillLeast_72, eX3_fillLeast_74, eX3_fillLeast_77, eX3_fillLeast_78, eX3_fillLeast_81, eX3_fillLeast_82, eX3_fillLeast_85, eX3_fillLeast_86, eX3_fillLeast_88, eX3_fillLeast_89, eX3_fillLeast_91, eX3_fillLeast_92, eX3_fillLeast_93, eX3_fillLeast_94, eX3_fillLeast_96, eX3_fillLeast_99, eX3_fillLeast_100, eX3_fillLeast_103, eX3_fillLeast_109, eX3_fillLeast_112, eX3_fillLeast_in, nI_ge (show s < 2 ^ m by omega) (show 2 ^ m < 2 ^ 31 by omega), Option.toList_some, Option.toList_none, List.cons_append, List.nil_append, b2_0, Classical.not_not, false_implies, true_implies, implies_true, true_and, and_true, not_true_eq_false, not_false_eq_true]
    refine c_bitCount (by omega) ?_
    simp only [eX3_fillLeast_0, eX3_fillLeast_1, eX3_fillLeast_4, eX3_fillLeast_5, eX3_fillLeast_6, eX3_fillLeast_7, eX3_fillLeast_8, eX3_fillLeast_9, eX3_fillLeast_12, eX3_fillLeast_13, eX3_fillLeast_14, eX3_fillLeast_15, eX3_fillLeast_17, eX3_fillLeast_18, eX3_fillLeast_21, eX3_fillLeast_22, eX3_fillLeast_25, eX3_fillLeast_26, eX3_fillLeast_29, eX3_fillLeast_31, eX3_fillLeast_32, eX3_fillLeast_33, eX3_fillLeast_34, eX3_fillLeast_35, eX3_fillLeast_36, eX3_fillLeast_39, eX3_fillLeast_40, eX3_fillLeast_43, eX3_fillLeast_44, eX3_fillLeast_45, eX3_fillLeast_46, eX3_fillLeast_49, eX3_fillLeast_52, eX3_fillLeast_53, eX3_fillLeast_56, eX3_fillLeast_57, eX3_fillLeast_58, eX3_fillLeast_60, eX3_fillLeast_63, eX3_fillLeast_64, eX3_fillLeast_68, eX3_fillLeast_69, eX3_fillLeast_72, eX3_fillLeast_74, eX3_fillLeast_77, eX3_fillLeast_78, eX3_fillLeast_81, eX3_fillLeast_82, eX3_fillLeast_85, eX3_fillLeast_86, eX3_fillLeast_88, eX3_fillLeast_89, eX3_fillLeast_91, eX3_fillLeast_92, eX3_fillLeast_93, eX3_fillLeast_94, eX3_fillLeast_96, eX3_fillLeast_99, eX3_fillLeast_100, eX3_fillLeast_103, eX3_fillLeast_109, eX3_fillLeast_112, eX3_fillLeast_in, cmp, nI_1, Option.toList_some, Option.toList_none, List.cons_append, List.nil_append, b2_0, Classical.not_not, false_implies, true_implies, implies_true, true_and, and_true, not_true_eq_false, not_false_eq_true]
    refine ⟨fun z => ih (s + 1) M (by omega) hF hH hc (fun s' hs' hp => ?_), fun z => ?_⟩
    · by_cases e : s' = s
      · subst e
        omega
      · exact hd s' (by omega) hp
    · refine c_least hn hm hD (fun k hk => hw t k ht hk) hH ht (by omega) (by omega) hc ?_
      simp only [eX3_fillLeast_0, eX3_fillLeast_1, eX3_fillLeast_4, eX3_fillLeast_5, eX3_fillLeast_6, eX3_fillLeast_7, eX3_fillLeast_8, eX3_fillLeast_9, eX3_fillLeast_12, eX3_fillLeast_13, eX3_fillLeast_14, eX3_fillLeast_15, eX3_fillLeast_17, eX3_fillLeast_18, eX3_fillLeast_21, eX3_fillLeast_22, eX3_fillLeast_25, eX3_fillLeast_26, eX3_fillLeast_29, eX3_fillLeast_31, eX3_fillLeast_32, eX3_fillLeast_33, eX3_fillLeast_34, eX3_fillLeast_35, eX3_fillLeast_36, eX3_fillLeast_39, eX3_fillLeast_40, eX3_fillLeast_43, eX3_fillLeast_44, eX3_fillLeast_45, eX3_fillLeast_46, eX3_fillLeast_49, eX3_fillLeast_52, eX3_fillLeast_53, eX3_fillLeast_56, eX3_fillLeast_57, eX3_fillLeast_58, eX3_fillLeast_60, eX3_fillLeast_63, eX3_fillLeast_64, eX3_fillLeast_68, eX3_fillLeast_69, eX3_fillLeast_72, eX3_fillLeast_74, eX3_fillLeast_77, eX3_fillLeast_78, eX3_fillLeast_81, eX3_fillLeast_82, eX3_fillLeast_85, eX3_fillLeast_86, eX3_fillLeast_88, eX3_fillLeast_89, eX3_fillLeast_91, eX3_fillLeast_92, eX3_fillLeast_93, eX3_fillLeast_94, eX3_fillLeast_96, eX3_fillLeast_99, eX3_fillLeast_100, eX3_fillLeast_103, eX3_fillLeast_109, eX3_fillLeast_112, eX3_fillLeast_in, mt64, nI_add, nI_1, nI_clamp (show t * 64 + s < 2 ^ 31 by omega), vpn (show t * 64 + s < 448 by omega) (by decide : 448 < 2147483648), Option.toList_some, Option.toList_none, List.cons_append, List.nil_append, b2_0, Classical.not_not, false_implies, true_implies, implies_true, true_and, and_true, not_true_eq_false, not_false_eq_true]
      refine ih (s + 1) _ (by omega) (hF.set (by omega)) (hH.set (by omega)) (fun j s' h1 h2 h3 h4 => ?_) (fun s' hs' hp => ?_)
      · rw [setI_at, upd_ne (by omega)]
        exact hc j s' h1 h2 h3 h4
      · rw [setI_at]
        by_cases e : s' = s
        · subst e
          rw [upd_at]
        · rw [upd_ne (by omega)]
          exact hd s' (by omega) hp
theorem l_fl3 {Q : Qt} {M0 : Mm} {w : Nat → Nat → Nat} (hn : n ≤ 6) (hm : m ≤ 6) (hD : D ≤ 14) (hw : ∀ t k, t < n → k < m → w t k ≤ 14) (hQ : ∀ M' : Mm, FrP M0 M' → HP M' w n m D → LL M' w n m D 0 → Q none M') : ∀ (t : Nat) (M : Mm) (l4 : Value), t ≤ n → FrP M0 M → HP M w n m D → LL M w n m D t → V pgX3_fillLeast Q 59 [.ref 46, .int (nI (D + 1)), .int (nI (2 ^ m)), .int (dI t), l4] [] M := by
  intro t
  induction t with
  | zero =>
    intro M l4 ht hF hH hc
    rw [eX3_fillLeast_59]
    simp only [eX3_fillLeast_0, eX3_fillLeast_1, eX3_fillLeast_4, eX3_fillLeast_5, eX3_fillLeast_6, eX3_fillLeast_7, eX3_fillLeast_8, eX3_fillLeast_9, eX3_fillLeast_12, eX3_fillLeast_13, eX3_fillLeast_14, eX3_fillLeast_15, eX3_fillLeast_17, eX3_fillLeast_18, eX3_fillLeast_21, eX3_fillLeast_22, eX3_fillLeast_25, eX3_fillLeast_26, eX3_fillLeast_29, eX3_fillLeast_31, eX3_fillLeast_32, eX3_fillLeast_33, eX3_fillLeast_34, eX3_fillLeast_35, eX3_fillLeast_36, eX3_fillLeast_39, eX3_fillLeast_40, eX3_fillLeast_43, eX3_fillLeast_44, eX3_fillLeast_45, eX3_fillLeast_46, eX3_fillLeast_49, eX3_fillLeast_52, eX3_fillLeast_53, eX3_fillLeast_56, eX3_fillLeast_57, eX3_fillLeast_58, eX3_fillLeast_60, eX3_fillLeast_63, eX3_fillLeast_64, eX3_fillLeast_68, eX3_fillLeast_69, eX3_fillLeast_72, eX3_fillLeast_74, eX3_fillLeast_77, eX3_fillLeast_78, eX3_fillLeast_81, eX3_fillLeast_82, eX3_fillLeast_85, eX3_fillLeast_86, eX3_fillLeast_88, eX3_fillLeast_89, eX3_fillLeast_91, eX3_fillLeast_92, eX3_fillLeast_93, eX3_fillLeast_94, eX3_fillLeast_96, eX3_fillLeast_99, eX3_fillLeast_100, eX3_fillLeast_103, eX3_fillLeast_106, eX3_fillLeast_109, eX3_fillLeast_112, eX3_fillLeast_in, dI_0, Option.toList_some, Option.toList_none, List.cons_append, List.nil_append, b2_0, Classical.not_not, false_implies, true_implies, implies_true, true_and, and_true, not_true_eq_false, not_false_eq_true]
    exact hQ M hF hH hc
  | succ t ih =>
    intro M l4 ht hF hH hc
    have z := nn0 (j := t) (by omega)
    rw [eX3_fillLeast_59]
    simp only [dI, eX3_fillLeast_0, eX3_fillLeast_1, eX3_fillLeast_4, eX3_fillLeast_5, eX3_fillLeast_6, eX3_fillLeast_7, eX3_fillLeast_8, eX3_fillLeast_9, eX3_fillLeast_12, eX3_fillLeast_13, eX3_fillLeast_14, eX3_fillLeast_15, eX3_fillLeast_17, eX3_fillLeast_18, eX3_fillLeast_21, eX3_fillLeast_22, eX3_fillLeast_25, eX3_fillLeast_26, eX3_fillLeast_29, eX3_fillLeast_31, eX3_fillLeast_32, eX3_fillLeast_33, eX3_fillLeast_34, eX3_fillLeast_35, eX3_fillLeast_36, eX3_fillLeast_39, eX3_fillLeast_40, eX3_fillLeast_43, eX3_fillLeast_44, eX3_fillLeast_45, eX3_fillLeast_46, eX3_fillLeast_49, eX3_fillLeast_52, eX3_fillLeast_53, eX3_fillLeast_56, eX3_fillLeast_57, eX3_fillLeast_58, eX3_fillLeast_60, eX3_fillLeast_63, eX3_fillLeast_64, eX3_fillLeast_68, eX3_fillLeast_69, eX3_fillLeast_72, eX3_fillLeast_74, eX3_fillLeast_77, eX3_fillLeast_78, eX3_fillLeast_81, eX3_fillLeast_82, eX3_fillLeast_85, eX3_fillLeast_86, eX3_fillLeast_88, eX3_fillLeast_89, eX3_fillLeast_91, eX3_fillLeast_92, eX3_fillLeast_93, eX3_fillLeast_94, eX3_fillLeast_96, eX3_fillLeast_99, eX3_fillLeast_100, eX3_fillLeast_103, eX3_fillLeast_106, eX3_fillLeast_109, eX3_fillLeast_112, eX3_fillLeast_in, z, Option.toList_some, Option.toList_none, List.cons_append, List.nil_append, b2_0, Classical.not_not, false_implies, true_implies, implies_true, true_and, and_true, not_true_eq_false, not_false_eq_true]
    refine l_fl2 (M0 := M0) hn hm hD hw (by omega) (fun M' F H c' => ?_) (2 ^ m) 0 M (by omega) hF hH hc (fun s' hs' => by omega)
    simp only [eX3_fillLeast_0, eX3_fillLeast_1, eX3_fillLeast_4, eX3_fillLeast_5, eX3_fillLeast_6, eX3_fillLeast_7, eX3_fillLeast_8, eX3_fillLeast_9, eX3_fillLeast_12, eX3_fillLeast_13, eX3_fillLeast_14, eX3_fillLeast_15, eX3_fillLeast_17, eX3_fillLeast_18, eX3_fillLeast_21, eX3_fillLeast_22, eX3_fillLeast_25, eX3_fillLeast_26, eX3_fillLeast_29, eX3_fillLeast_31, eX3_fillLeast_32, eX3_fillLeast_33, eX3_fillLeast_34, eX3_fillLeast_35, eX3_fillLeast_36, eX3_fillLeast_39, eX3_fillLeast_40, eX3_fillLeast_43, eX3_fillLeast_44, eX3_fillLeast_45, eX3_fillLeast_46, eX3_fillLeast_49, eX3_fillLeast_52, eX3_fillLeast_53, eX3_fillLeast_56, eX3_fillLeast_57, eX3_fillLeast_58, eX3_fillLeast_60, eX3_fillLeast_63, eX3_fillLeast_64, eX3_fillLeast_68, eX3_fillLeast_69, eX3_fillLeast_72, eX3_fillLeast_74, eX3_fillLeast_77, eX3_fillLeast_78, eX3_fillLeast_81, eX3_fillLeast_82, eX3_fillLeast_85, eX3_fillLeast_86, eX3_fillLeast_88, eX3_fillLeast_89, eX3_fillLeast_91, eX3_fillLeast_92, eX3_fillLeast_93, eX3_fillLeast_94, eX3_fillLeast_96, eX3_fillLeast_99, eX3_fillLeast_100, eX3_fillLeast_103, eX3_fillLeast_106, eX3_fillLeast_109, eX3_fillLeast_112, eX3_fillLeast_in, dI_b, Option.toList_some, Option.toList_none, List.cons_append, List.nil_append, b2_0, Classical.not_not, false_implies, true_implies, implies_true, true_and, and_true, not_true_eq_false, not_false_eq_true]
    exact ih M' _ (by omega) F H c'
theorem c_fill {Q : Qt} {M : Mm} {w : Nat → Nat → Nat} (hn : n ≤ 6) (hm : m ≤ 6) (hD : D ≤ 14) (hw : ∀ t k, t < n → k < m → w t k ≤ 14) (h : HP M w n m D) (hQ : ∀ M' : Mm, FrP M M' → HP M' w n m D → LL M' w n m D 0 → Q none M') : kX3_fillLeast [.ref 46] M Q := by
  have sh := (sh_m m (by omega)).1
  simp only [eX3_fillLeast_0, eX3_fillLeast_1, eX3_fillLeast_4, eX3_fillLeast_5, eX3_fillLeast_6, eX3_fillLeast_7, eX3_fillLeast_8, eX3_fillLeast_9, eX3_fillLeast_12, eX3_fillLeast_13, eX3_fillLeast_14, eX3_fillLeast_15, eX3_fillLeast_17, eX3_fillLeast_18, eX3_fillLeast_21, eX3_fillLeast_22, eX3_fillLeast_25, eX3_fillLeast_26, eX3_fillLeast_29, eX3_fillLeast_31, eX3_fillLeast_32, eX3_fillLeast_33, eX3_fillLeast_34, eX3_fillLeast_35, eX3_fillLeast_36, eX3_fillLeast_39, eX3_fillLeast_40, eX3_fillLeast_43, eX3_fillLeast_44, eX3_fillLeast_45, eX3_fillLeast_46, eX3_fillLeast_49, eX3_fillLeast_52, eX3_fillLeast_53, eX3_fillLeast_56, eX3_fillLeast_57, eX3_fillLeast_58, eX3_fillLeast_60, eX3_fillLeast_63, eX3_fillLeast_64, eX3_fillLeast_68, eX3_fillLeast_69, eX3_fillLeast_72, eX3_fillLeast_74, eX3_fillLeast_77, eX3_fillLeast_78, eX3_fillLeast_81, eX3_fillLeast_82, eX3_fillLeast_85, eX3_fillLeast_86, eX3_fillLeast_88, eX3_fillLeast_89, eX3_fillLeast_91, eX3_fillLeast_92, eX3_fillLeast_93, eX3_fillLeast_94, eX3_fillLeast_96, eX3_fillLeast_99, eX3_fillLeast_100, eX3_fillLeast_103, eX3_fillLeast_106, eX3_fillLeast_109, eX3_fillLeast_112, eX3_fillLeast_in, h.2.1, h.2.2.1, nI_1, sh, Option.toList_some, Option.toList_none, List.cons_append, List.nil_append, b2_0, Classical.not_not, false_implies, true_implies, implies_true, true_and, and_true, not_true_eq_false, not_false_eq_true]
  refine l_fl1 (M0 := M) hn hm hD (fun M1 F1 H1 c1 => ?_) (2 ^ m) 0 M (by omega) FrP.rf h (fun s' hs' => by omega)
  simp only [eX3_fillLeast_0, eX3_fillLeast_1, eX3_fillLeast_4, eX3_fillLeast_5, eX3_fillLeast_6, eX3_fillLeast_7, eX3_fillLeast_8, eX3_fillLeast_9, eX3_fillLeast_12, eX3_fillLeast_13, eX3_fillLeast_14, eX3_fillLeast_15, eX3_fillLeast_17, eX3_fillLeast_18, eX3_fillLeast_21, eX3_fillLeast_22, eX3_fillLeast_25, eX3_fillLeast_26, eX3_fillLeast_29, eX3_fillLeast_31, eX3_fillLeast_32, eX3_fillLeast_33, eX3_fillLeast_34, eX3_fillLeast_35, eX3_fillLeast_36, eX3_fillLeast_39, eX3_fillLeast_40, eX3_fillLeast_43, eX3_fillLeast_44, eX3_fillLeast_45, eX3_fillLeast_46, eX3_fillLeast_49, eX3_fillLeast_52, eX3_fillLeast_53, eX3_fillLeast_56, eX3_fillLeast_57, eX3_fillLeast_58, eX3_fillLeast_60, eX3_fillLeast_63, eX3_fillLeast_64, eX3_fillLeast_68, eX3_fillLeast_69, eX3_fillLeast_72, eX3_fillLeast_74, eX3_fillLeast_77, eX3_fillLeast_78, eX3_fillLeast_81, eX3_fillLeast_82, eX3_fillLeast_85, eX3_fillLeast_86, eX3_fillLeast_88, eX3_fillLeast_89, eX3_fillLeast_91, eX3_fillLeast_92, eX3_fillLeast_93, eX3_fillLeast_94, eX3_fillLeast_96, eX3_fillLeast_99, eX3_fillLeast_100, eX3_fillLeast_103, eX3_fillLeast_106, eX3_fillLeast_109, eX3_fillLeast_112, eX3_fillLeast_in, H1.1, dI_a, Option.toList_some, Option.toList_none, List.cons_append, List.nil_append, b2_0, Classical.not_not, false_implies, true_implies, implies_true, true_and, and_true, not_true_eq_false, not_false_eq_true]
  exact l_fl3 (M0 := M) hn hm hD hw hQ n M1 _ (Nat.le_refl _) F1 H1 c1
theorem c_first {Q : Qt} {M : Mm} {w : Nat → Nat → Nat} {t s : Nat} (hn : n ≤ 6) (hm : m ≤ 6) (hD : D ≤ 14) (hw : ∀ k, k < m → w t k ≤ 14) (h : HP M w n m D) (ht : t < n) (hs : s < 2 ^ m) (hp : pcn 8 s ≤ t) (hc : LL M w n m D 0) (h6 : M.1 46 6 = nI s) (hQ : Q (some (.int (bI (fsO (hit w n m D t s) m m)))) M) : kX3_firstOfLeast [.ref 46, .int (nI t)] M Q := by
  have h64 : 2 ^ m ≤ 64 := (sh_m m (by omega)).2
  have lp : ∀ d k, k + d = m → Q (some (.int (bI (fsO (hit w n m D t s) m d)))) M → V pgX3_firstOfLeast Q 2 [.ref 46, .int (nI t), .int (nI k)] [] M := by
    intro d
    induction d with
    | zero =>
      intro k hk hQ
      have : k = m := by omega
      subst this
      rw [eX3_firstOfLeast_2]
      simp only [eX3_firstOfLeast_0, eX3_firstOfLeast_1, eX3_firstOfLeast_3, eX3_firstOfLeast_4, eX3_firstOfLeast_7, eX3_firstOfLeast_10, eX3_firstOfLeast_11, eX3_firstOfLeast_12, eX3_firstOfLeast_13, eX3_firstOfLeast_14, eX3_firstOfLeast_17, eX3_firstOfLeast_20, eX3_firstOfLeast_21, eX3_firstOfLeast_24, eX3_firstOfLeast_25, eX3_firstOfLeast_27, eX3_firstOfLeast_28, eX3_firstOfLeast_29, eX3_firstOfLeast_32, eX3_firstOfLeast_33, eX3_firstOfLeast_34, eX3_firstOfLeast_37, eX3_firstOfLeast_38, eX3_firstOfLeast_39, eX3_firstOfLeast_42, eX3_firstOfLeast_45, eX3_firstOfLeast_46, eX3_firstOfLeast_in, h.2.1, Int32.le_refl, Option.toList_some, Option.toList_none, List.cons_append, List.nil_append, b2_0, Classical.not_not, false_implies, true_implies, implies_true, true_and, and_true, not_true_eq_false, not_false_eq_true]
      exact hQ
    | succ d ih =>
      intro k hk hQ
      have ce : (cvI w n m D t s k 1000000 = nI (cst w n m D (n - t) s)) ↔ hit w n m D t s k = true := cv_eq (n := n) (m := m) (D := D) w (t := t) (s := s) (k := k) (big := 1000000) hm hD hn (hw k (by omega)) (by omega) (by omega)
      rw [fsO, show m - d - 1 = k by omega] at hQ
      rw [eX3_firstOfLeast_2]
      simp only [eX3_firstOfLeast_0, eX3_firstOfLeast_1, eX3_firstOfLeast_3, eX3_firstOfLeast_4, eX3_firstOfLeast_7, eX3_firstOfLeast_10, eX3_firstOfLeast_11, eX3_firstOfLeast_12, eX3_firstOfLeast_13, eX3_firstOfLeast_14, eX3_firstOfLeast_17, eX3_firstOfLeast_20, eX3_firstOfLeast_21, eX3_firstOfLeast_24, eX3_firstOfLeast_25, eX3_firstOfLeast_27, eX3_firstOfLeast_28, eX3_firstOfLeast_29, eX3_firstOfLeast_32, eX3_firstOfLeast_33, eX3_firstOfLeast_34, eX3_firstOfLeast_37, eX3_firstOfLeast_38, eX3_firstOfLeast_39, eX3_firstOfLeast_42, eX3_firstOfLeast_45, eX3_firstOfLeast_46, eX3_firstOfLeast_in, h.2.1, h6, nI_ge (show k < m by omega) (show m < 2 ^ 31 by omega), Option.toList_some, Option.toList_none, List.cons_append, List.nil_append, b2_0, Classical.not_not, false_implies, true_implies, implies_true, true_and, and_true, not_true_eq_false, not_false_eq_true]
      refine c_cost hn hm hD (hw k (by omega)) h ht hs (by omega) hp (fun j s' h1 h2 h3 h4 => hc j s' (by omega) h2 h3 h4) ?_
      simp only [eX3_firstOfLeast_0, eX3_firstOfLeast_1, eX3_firstOfLeast_3, eX3_firstOfLeast_4, eX3_firstOfLeast_7, eX3_firstOfLeast_10, eX3_firstOfLeast_11, eX3_firstOfLeast_12, eX3_firstOfLeast_13, eX3_firstOfLeast_14, eX3_firstOfLeast_17, eX3_firstOfLeast_20, eX3_firstOfLeast_21, eX3_firstOfLeast_24, eX3_firstOfLeast_25, eX3_firstOfLeast_27, eX3_firstOfLeast_28, eX3_firstOfLeast_29, eX3_firstOfLeast_32, eX3_firstOfLeast_33, eX3_firstOfLeast_34, eX3_firstOfLeast_37, eX3_firstOfLeast_38, eX3_firstOfLeast_39, eX3_firstOfLeast_42, eX3_firstOfLeast_45, eX3_firstOfLeast_46, eX3_firstOfLeast_in, h6, mt64, nI_add, nI_1, nI_clamp (show t * 64 + s < 2 ^ 31 by omega), vpn (show t * 64 + s < 448 by omega) (by decide : 448 < 2147483648), hc t s (by omega) (by omega) hs hp, ce, Option.toList_some, Option.toList_none, List.cons_append, List.nil_append, b2_0, Classical.not_not, false_implies, true_implies, implies_true, true_and, and_true, not_true_eq_false, not_false_eq_true]
      refine ⟨fun z => ?_, fun z => ?_⟩
      · rw [if_neg z] at hQ
        exact ih (k + 1) (by omega) hQ
      · rw [if_pos z] at hQ
        exact hQ
  simp only [eX3_firstOfLeast_0, eX3_firstOfLeast_1, eX3_firstOfLeast_3, eX3_firstOfLeast_4, eX3_firstOfLeast_7, eX3_firstOfLeast_10, eX3_firstOfLeast_11, eX3_firstOfLeast_12, eX3_firstOfLeast_13, eX3_firstOfLeast_14, eX3_firstOfLeast_17, eX3_firstOfLeast_20, eX3_firstOfLeast_21, eX3_firstOfLeast_24, eX3_firstOfLeast_25, eX3_firstOfLeast_27, eX3_firstOfLeast_28, eX3_firstOfLeast_29, eX3_firstOfLeast_32, eX3_firstOfLeast_33, eX3_firstOfLeast_34, eX3_firstOfLeast_37, eX3_firstOfLeast_38, eX3_firstOfLeast_39, eX3_firstOfLeast_42, eX3_firstOfLeast_45, eX3_firstOfLeast_46, eX3_firstOfLeast_in, Option.toList_some, Option.toList_none, List.cons_append, List.nil_append, b2_0, Classical.not_not, false_implies, true_implies, implies_true, true_and, and_true, not_true_eq_false, not_false_eq_true]
  exact lp m 0 (by omega) hQ
theorem l_cf {Q : Qt} {M0 : Mm} {w : Nat → Nat → Nat} (hn : n ≤ 6) (hm : m ≤ 6) (hD : D ≤ 14) (hw : ∀ t k, t < n → k < m → w t k ≤ 14) (hQ : ∀ M' : Mm, FrP M0 M' → HP M' w n m D → M'.1 46 7 = M0.1 46 7 → M'.1 46 6 = nI (usd w n m D n) → PL M' 49 w n m D n → Q none M') : ∀ (d t : Nat) (M : Mm), t + d = n → FrP M0 M → HP M w n m D → LL M w n m D 0 → M.1 46 7 = M0.1 46 7 → M.1 46 6 = nI (usd w n m D t) → PL M 49 w n m D t → V pgX3_chooseFirst Q 17 [.ref 46, .int (nI t)] [] M := by
  have h64 : 2 ^ m ≤ 64 := (sh_m m (by omega)).2
  intro d
  induction d with
  | zero =>
    intro t M ht hF hH hc h7 h6 hp
    have : t = n := by omega
    subst this
    rw [eX3_chooseFirst_17]
    simp only [eX3_chooseFirst_0, eX3_chooseFirst_1, eX3_chooseFirst_2, eX3_chooseFirst_5, eX3_chooseFirst_6, eX3_chooseFirst_7, eX3_chooseFirst_10, eX3_chooseFirst_11, eX3_chooseFirst_12, eX3_chooseFirst_15, eX3_chooseFirst_16, eX3_chooseFirst_18, eX3_chooseFirst_19, eX3_chooseFirst_22, eX3_chooseFirst_25, eX3_chooseFirst_26, eX3_chooseFirst_29, eX3_chooseFirst_30, eX3_chooseFirst_31, eX3_chooseFirst_32, eX3_chooseFirst_35, eX3_chooseFirst_36, eX3_chooseFirst_37, eX3_chooseFirst_40, eX3_chooseFirst_41, eX3_chooseFirst_42, eX3_chooseFirst_43, eX3_chooseFirst_46, eX3_chooseFirst_47, eX3_chooseFirst_48, eX3_chooseFirst_51, eX3_chooseFirst_52, eX3_chooseFirst_53, eX3_chooseFirst_56, eX3_chooseFirst_57, eX3_chooseFirst_58, eX3_chooseFirst_59, eX3_chooseFirst_60, eX3_chooseFirst_63, eX3_chooseFirst_66, eX3_chooseFirst_69, eX3_chooseFirst_in, hH.1, Int32.le_refl, Option.toList_some, Option.toList_none, List.cons_append, List.nil_append, b2_0, Classical.not_not, false_implies, true_implies, implies_true, true_and, and_true, not_true_eq_false, not_false_eq_true]
    exact hQ M hF hH h7 h6 hp
  | succ d ih =>
    intro t M ht hF hH hc h7 h6 hp
    have us := usd_ok w n m D hm t
    rw [eX3_chooseFirst_17]
    simp only [eX3_chooseFirst_0, eX3_chooseFirst_1, eX3_chooseFirst_2, eX3_chooseFirst_5, eX3_chooseFirst_6, eX3_chooseFirst_7, eX3_chooseFirst_10, eX3_chooseFirst_11, eX3_chooseFirst_12, eX3_chooseFirst_15, eX3_chooseFirst_16, eX3_chooseFirst_18, eX3_chooseFirst_19, eX3_chooseFirst_22, eX3_chooseFirst_25, eX3_chooseFirst_26, eX3_chooseFirst_29, eX3_chooseFirst_30, eX3_chooseFirst_31, eX3_chooseFirst_32, eX3_chooseFirst_35, eX3_chooseFirst_36, eX3_chooseFirst_37, eX3_chooseFirst_40, eX3_chooseFirst_41, eX3_chooseFirst_42, eX3_chooseFirst_43, eX3_chooseFirst_46, eX3_chooseFirst_47, eX3_chooseFirst_48, eX3_chooseFirst_51, eX3_chooseFirst_52, eX3_chooseFirst_53, eX3_chooseFirst_56, eX3_chooseFirst_57, eX3_chooseFirst_58, eX3_chooseFirst_59, eX3_chooseFirst_60, eX3_chooseFirst_63, eX3_chooseFirst_66, eX3_chooseFirst_69, eX3_chooseFirst_in, hH.1, nI_ge (show t < n by omega) (show n < 2 ^ 31 by omega), Option.toList_some, Option.toList_none, List.cons_append, List.nil_append, b2_0, Classical.not_not, false_implies, true_implies, implies_true, true_and, and_true, not_true_eq_false, not_false_eq_true]
    refine c_first hn hm hD (fun k hk => hw t k (by omega) hk) hH (by omega) us.1 us.2 hc h6 ?_
    have ch : chs w n m D t = fsO (hit w n m D t (usd w n m D t)) m m := rfl
    rw [← ch]
    have p2 : PL (setI M 49 t (bI (chs w n m D t))) 49 w n m D (t + 1) := fun i hi => by
      rw [setI_at]
      by_cases e : i = t
      · rw [e, upd_at]
      · rw [upd_ne (by omega)]
        exact hp i (by omega)
    have at6 : (setI M 49 t (bI (chs w n m D t))).1 46 = M.1 46 := setI_ne (by omega)
    have at49 : (setI M 49 t (bI (chs w n m D t))).1 49 t = bI (chs w n m D t) := by rw [setI_at, upd_at]
    simp only [eX3_chooseFirst_0, eX3_chooseFirst_1, eX3_chooseFirst_2, eX3_chooseFirst_5, eX3_chooseFirst_6, eX3_chooseFirst_7, eX3_chooseFirst_10, eX3_chooseFirst_11, eX3_chooseFirst_12, eX3_chooseFirst_15, eX3_chooseFirst_16, eX3_chooseFirst_18, eX3_chooseFirst_19, eX3_chooseFirst_22, eX3_chooseFirst_25, eX3_chooseFirst_26, eX3_chooseFirst_29, eX3_chooseFirst_30, eX3_chooseFirst_31, eX3_chooseFirst_32, eX3_chooseFirst_35, eX3_chooseFirst_36, eX3_chooseFirst_37, eX3_chooseFirst_40, eX3_chooseFirst_41, eX3_chooseFirst_42, eX3_chooseFirst_43, eX3_chooseFirst_46, eX3_chooseFirst_47, eX3_chooseFirst_48, eX3_chooseFirst_51, eX3_chooseFirst_52, eX3_chooseFirst_53, eX3_chooseFirst_56, eX3_chooseFirst_57, eX3_chooseFirst_58, eX3_chooseFirst_59, eX3_chooseFirst_60, eX3_chooseFirst_63, eX3_chooseFirst_66, eX3_chooseFirst_69, eX3_chooseFirst_in, nI_clamp (show t < 2 ^ 31 by omega), vpn (show t < 6 by omega) (by decide : 6 < 2147483648), at49, at6, h6, nI_1, Option.toList_some, Option.toList_none, List.cons_append, List.nil_append, b2_0, Classical.not_not, false_implies, true_implies, implies_true, true_and, and_true, not_true_eq_false, not_false_eq_true]
    have us1 : usd w n m D (t + 1) = match chs w n m D t with
      | none => usd w n m D t
      | some k => usd w n m D t ||| 2 ^ k := rfl
    cases hk : chs w n m D t with
    | none =>
      rw [hk] at us1 p2
      simp only at us1
      refine ⟨fun z => ?_, fun z => absurd rfl z⟩
      exact ih (t + 1) _ (by omega) (hF.set (by omega)) (hH.set (by omega)) (hc.set (by omega)) (by rw [setI_ne (by omega)]; exact h7) (by rw [setI_ne (by omega), us1]; exact h6) p2
    | some k =>
      rw [hk] at us1 p2
      simp only at us1
      have kl := (chs_in hk).1
      refine ⟨fun z => absurd z (nI_nm1 (by omega)), fun z => ?_⟩
      simp only [bI] at p2 ⊢
      rw [(bt_or _ (by omega) k (by omega)).1]
      refine ih (t + 1) _ (by omega) ((hF.set (by omega)).set (by omega)) ((hH.set (by omega)).set (by omega)) ((hc.set (by omega)).set (by omega)) ?_ ?_ ?_
      · rw [setI_at, upd_ne (by omega), setI_ne (by omega)]
        exact h7
      · rw [setI_at, upd_at, us1]
      · intro i hi
        rw [setI_ne (by omega)]
        exact p2 i hi
theorem c_pairUp {Q : Qt} {M : Mm} (h : PC M R C n m D pt qk) (e31 : M.1 3 1 = nI C) (e22 : M.1 2 2 = nI D) (hQ : ∀ M' : Mm, FrP M M' → HP M' (wA C pt qk) n m D → M'.1 46 7 = nI (cst (wA C pt qk) n m D n 0) → M'.1 46 6 = nI (usd (wA C pt qk) n m D n) → PL M' 49 (wA C pt qk) n m D n → Q none M') : kX4_pairUp [.ref 1, .ref 46] M Q := by
  obtain ⟨hn, hm, hD⟩ := h.bd
  have hw : ∀ t k, t < n → k < m → wA C pt qk t k ≤ 14 := fun t k ht hk => h.w_le ht hk
  have v24 : vp_in 2 4 ↔ True := vpl 2 rfl (by decide) (by decide)
  have v48 : vp_in 0 448 ↔ True := vpl 0 rfl (by decide) (by decide)
  simp only [eX4_pairUp_0, eX4_pairUp_1, eX4_pairUp_2, eX4_pairUp_5, eX4_pairUp_6, eX4_pairUp_9, eX4_pairUp_10, eX4_pairUp_13, eX4_pairUp_16, eX4_pairUp_17, eX4_pairUp_20, eX4_pairUp_21, eX4_pairUp_22, eX4_pairUp_25, eX4_pairUp_26, eX4_pairUp_29, eX4_pairUp_30, eX4_pairUp_33, eX4_pairUp_in, v24, tn_2, e31, e22, Option.toList_some, Option.toList_none, List.cons_append, List.nil_append, b2_0, Classical.not_not, false_implies, true_implies, implies_true, true_and, and_true, not_true_eq_false, not_false_eq_true]
  refine c_measure h (fun M1 F1 H1 => ?_)
  simp only [eX4_pairUp_0, eX4_pairUp_1, eX4_pairUp_2, eX4_pairUp_5, eX4_pairUp_6, eX4_pairUp_9, eX4_pairUp_10, eX4_pairUp_13, eX4_pairUp_16, eX4_pairUp_17, eX4_pairUp_20, eX4_pairUp_21, eX4_pairUp_22, eX4_pairUp_25, eX4_pairUp_26, eX4_pairUp_29, eX4_pairUp_30, eX4_pairUp_33, eX4_pairUp_in, Option.toList_some, Option.toList_none, List.cons_append, List.nil_append, b2_0, Classical.not_not, false_implies, true_implies, implies_true, true_and, and_true, not_true_eq_false, not_false_eq_true]
  refine c_fill hn hm hD hw H1 (fun M2 F2 H2 L2 => ?_)
  simp only [eX4_pairUp_0, eX4_pairUp_1, eX4_pairUp_2, eX4_pairUp_5, eX4_pairUp_6, eX4_pairUp_9, eX4_pairUp_10, eX4_pairUp_13, eX4_pairUp_16, eX4_pairUp_17, eX4_pairUp_20, eX4_pairUp_21, eX4_pairUp_22, eX4_pairUp_25, eX4_pairUp_26, eX4_pairUp_29, eX4_pairUp_30, eX4_pairUp_33, eX4_pairUp_in, Option.toList_some, Option.toList_none, List.cons_append, List.nil_append, b2_0, Classical.not_not, false_implies, true_implies, implies_true, true_and, and_true, not_true_eq_false, not_false_eq_true]
  have z0 : M2.1 48 0 = nI (cst (wA C pt qk) n m D n 0) := L2 0 0 (by omega) (by omega) (Nat.two_pow_pos m) (by decide)
  have z1 : (setI M2 46 6 0).1 48 0 = nI (cst (wA C pt qk) n m D n 0) := by rw [setI_ne (by omega)]; exact z0
  simp only [eX3_chooseFirst_0, eX3_chooseFirst_1, eX3_chooseFirst_2, eX3_chooseFirst_5, eX3_chooseFirst_6, eX3_chooseFirst_7, eX3_chooseFirst_10, eX3_chooseFirst_11, eX3_chooseFirst_12, eX3_chooseFirst_15, eX3_chooseFirst_16, eX3_chooseFirst_18, eX3_chooseFirst_19, eX3_chooseFirst_22, eX3_chooseFirst_25, eX3_chooseFirst_26, eX3_chooseFirst_29, eX3_chooseFirst_30, eX3_chooseFirst_31, eX3_chooseFirst_32, eX3_chooseFirst_35, eX3_chooseFirst_36, eX3_chooseFirst_37, eX3_chooseFirst_40, eX3_chooseFirst_41, eX3_chooseFirst_42, eX3_chooseFirst_43, eX3_chooseFirst_46, eX3_chooseFirst_47, eX3_chooseFirst_48, eX3_chooseFirst_51, eX3_chooseFirst_52, eX3_chooseFirst_53, eX3_chooseFirst_56, eX3_chooseFirst_57, eX3_chooseFirst_58, eX3_chooseFirst_59, eX3_chooseFirst_60, eX3_chooseFirst_63, eX3_chooseFirst_66, eX3_chooseFirst_69, eX3_chooseFirst_in, v48, tn_0, z1, Option.toList_some, Option.toList_none, List.cons_append, List.nil_append, b2_0, Classical.not_not, false_implies, true_implies, implies_true, true_and, and_true, not_true_eq_false, not_false_eq_true]
  refine l_cf (M0 := setI (setI M2 46 6 0) 46 7 (nI (cst (wA C pt qk) n m D n 0))) hn hm hD hw (fun M3 F3 H3 a7 a6 p3 => ?_) n 0 _ (by omega) FrP.rf ((H2.set (by omega)).set (by omega)) ((L2.set (by omega)).set (by omega)) rfl ?_ (fun i hi => by omega)
  · simp only [eX4_pairUp_0, eX4_pairUp_1, eX4_pairUp_2, eX4_pairUp_5, eX4_pairUp_6, eX4_pairUp_9, eX4_pairUp_10, eX4_pairUp_13, eX4_pairUp_16, eX4_pairUp_17, eX4_pairUp_20, eX4_pairUp_21, eX4_pairUp_22, eX4_pairUp_25, eX4_pairUp_26, eX4_pairUp_29, eX4_pairUp_30, eX4_pairUp_33, eX4_pairUp_in, Option.toList_some, Option.toList_none, List.cons_append, List.nil_append, b2_0, Classical.not_not, false_implies, true_implies, implies_true, true_and, and_true, not_true_eq_false, not_false_eq_true]
    refine hQ M3 ⟨fun a ha => ?_, F3.2.trans (F2.2.trans F1.2)⟩ H3 ?_ a6 p3
    · rw [F3.1 a ha, setI_ne (by omega), setI_ne (by omega), F2.1 a ha, F1.1 a ha]
    · rw [a7, setI_at, upd_at]
  · rw [setI_at, upd_ne (by omega), setI_at, upd_at]
    rfl
end CPU
theorem q_contactOf {Q : Qt} {M : Mm} {x : Int32} : kX3_contactOf [.ref 46, .int x] M Q ↔ (¬ (0 ≤ x ∧ x ≤ M.1 46 3 - 1) → Q (some (.int (-1))) M) ∧ ((0 ≤ x ∧ x ≤ M.1 46 3 - 1) → vp_in x 6 ∧ Q (some (.int (M.1 49 x.toNatClampNeg))) M) := by
  simp only [eX3_contactOf_0, eX3_contactOf_1, eX3_contactOf_2, eX3_contactOf_3, eX3_contactOf_6, eX3_contactOf_7, eX3_contactOf_8, eX3_contactOf_11, eX3_contactOf_14, eX3_contactOf_15, eX3_contactOf_18, eX3_contactOf_19, eX3_contactOf_20, eX3_contactOf_23, eX3_contactOf_24, eX3_contactOf_in, q_within, Option.toList_some, Option.toList_none, List.cons_append, List.nil_append, b2_0, Classical.not_not, false_implies, true_implies, implies_true, true_and, and_true, not_true_eq_false, not_false_eq_true]
theorem pk_fn {N : Nat → Int32} {c a s x : Nat} (h : ∀ i, i < c → ∃ p, p < x ∧ N (a + s * i) = nI p) (hx : x ≤ 64) : ∀ i, i < c → (N (a + s * i)).toNatClampNeg < x ∧ N (a + s * i) = nI (N (a + s * i)).toNatClampNeg := fun i hi => by
  obtain ⟨p, h1, h2⟩ := h i hi
  rw [h2, nI_clamp (by omega)]
  exact ⟨h1, rfl⟩
def ptR (N : Nat → Int32) (j : Nat) : Nat := (N (281 + 6 * j)).toNatClampNeg
def qkR (N : Nat → Int32) (k : Nat) : Nat := (N (274 + k)).toNatClampNeg
theorem Gd.PA {N : Nat → Int32} {R C c t T P D L : Nat} (g : Gd N R C c t T P D L) : PA N R C t c D (ptR N) (qkR N) := by
  obtain ⟨⟨⟨r1, r2⟩, ⟨c1, c2⟩, hcc, htt⟩, ⟨-, -, hD, -⟩, ⟨n0, n1, n2, n3, n4, n5, n8, n10⟩, hF, hSt, hs, hw, hraw, hgr, hpk, hcon, htr⟩ := g
  have h64 := rc_le r2 c2
  refine ⟨⟨r2, by omega, c2, htt, hcc, hD⟩, ⟨n1, n4, n8, n10⟩, fun j hj => pk_fn htr h64 j hj, fun k hk => ?_⟩
  obtain ⟨p, h1, h2, -⟩ := hcon k hk
  unfold qkR
  rw [h2, nI_clamp (by omega)]
  exact ⟨h1, rfl⟩
theorem Re.PC {M : Mm} {N : Nat → Int32} {R C c t D : Nat} {pt qk : Nat → Nat} (hR : Re M.1 1 N) (p : PA N R C t c D pt qk) : PC M R C t c D pt qk := by
  obtain ⟨p1, ⟨n1, n4, n8, n10⟩, p3, p4⟩ := p
  obtain ⟨-, -, -, ht, hc, -⟩ := id p1
  refine ⟨p1, ⟨(hR.lo (k := 10) (by omega)).trans n10, (hR.lo (k := 8) (by omega)).trans n8⟩, fun j hj => ⟨(p3 j hj).1, ?_⟩, fun k hk => ⟨(p4 k hk).1, (hR.con hk hc n8).trans (p4 k hk).2⟩⟩
  have := hR.trk (w := 1) hj (by omega) ht n10
  rw [show 280 + 6 * j + 1 = 281 + 6 * j by omega, (p3 j hj).2] at this
  exact this
theorem FrP.FrD {M M' : Mm} (h : FrP M M') : FrD M M' := ⟨fun a h1 h2 => h.1 a (by omega), h.2⟩
theorem step_paired {M : Mm} (hI : Inv M) (x : Int32) : StepI kX6_paired kX7_paired [.int x] M := by
  obtain ⟨⟨hR, R, C, cc, t, T, P, D, L, g⟩, -⟩ := id hI
  obtain ⟨⟨⟨r1, r2⟩, ⟨c1, c2⟩, hcc, htt⟩, ⟨⟨t1, t2⟩, ⟨p1, p2⟩, hD, hL⟩, ⟨n0, n1, n2, n3, n4, n5, n8, n10⟩, hF, hSt, hs, hw, hraw, hgr, hpk, hcon, htr⟩ := id g
  have e31 : M.1 3 1 = nI C := (hR.lo (k := 1) (by omega)).trans n1
  have e22 : M.1 2 2 = nI D := (hR.lo (k := 4) (by omega)).trans n4
  have e105 : M.1 10 5 = nI t := (hR.lo (k := 10) (by omega)).trans n10
  have pa := g.PA
  have pc := hR.PC pa
  have v48 : vp_in 0 448 ↔ True := vpl 0 rfl (by decide) (by decide)
  have dle : (-1 : Int32) ≤ dI t := by
    cases t with
    | zero => decide
    | succ j => exact Int32.le_trans (by decide) (nI0le j (by omega))
  have m1 : ((-1 : Int32) ≤ -1) = True := eq_true (by decide)
  by_cases hx : x = -1
  · subst hx
    refine combI hI qX6_paired qX7_paired (M.1 52) (nI (cst (wA C (ptR (M.1 52)) (qkR (M.1 52))) t cc D t 0)) hI.1.2 (fun Q h => ?_) (fun M1 Q hM h => ?_)
    · simp only [eX6_paired_0, eX6_paired_1, eX6_paired_2, eX6_paired_5, eX6_paired_6, eX6_paired_9, eX6_paired_12, eX6_paired_13, eX6_paired_16, eX6_paired_19, eX6_paired_21, eX6_paired_22, eX6_paired_23, eX6_paired_26, eX6_paired_27, eX6_paired_30, eX6_paired_33, eX6_paired_34, eX6_paired_35, eX6_paired_38, eX6_paired_39, eX6_paired_42, eX6_paired_45, eX6_paired_48, eX6_paired_49, eX6_paired_52, eX6_paired_53, eX6_paired_56, eX6_paired_in, Option.toList_some, Option.toList_none, List.cons_append, List.nil_append, b2_0, Classical.not_not, false_implies, true_implies, implies_true, true_and, and_true, not_true_eq_false, not_false_eq_true]
      refine c_pairUp pc e31 e22 (fun M' F H a7 a6 p => ?_)
      simp only [eX6_paired_0, eX6_paired_1, eX6_paired_2, eX6_paired_5, eX6_paired_6, eX6_paired_9, eX6_paired_12, eX6_paired_13, eX6_paired_16, eX6_paired_19, eX6_paired_21, eX6_paired_22, eX6_paired_23, eX6_paired_26, eX6_paired_27, eX6_paired_30, eX6_paired_33, eX6_paired_34, eX6_paired_35, eX6_paired_38, eX6_paired_39, eX6_paired_42, eX6_paired_45, eX6_paired_48, eX6_paired_49, eX6_paired_52, eX6_paired_53, eX6_paired_56, eX6_paired_in, a7, Option.toList_some, Option.toList_none, List.cons_append, List.nil_append, b2_0, Classical.not_not, false_implies, true_implies, implies_true, true_and, and_true, not_true_eq_false, not_false_eq_true]
      exact h M' F.FrD.1 (hR.congr (fun a p q => F.1 a (by omega)))
    · have pa' : PA (M1.1 52) R C t cc D (ptR (M.1 52)) (qkR (M.1 52)) := by rw [hM]; exact pa
      simp only [eX7_paired_0, eX7_paired_1, eX7_paired_2, eX7_paired_3, eX7_paired_6, eX7_paired_8, eX7_paired_9, eX7_paired_10, eX7_paired_11, eX7_paired_14, eX7_paired_17, eX7_paired_19, eX7_paired_20, eX7_paired_21, eX7_paired_24, eX7_paired_25, eX7_paired_26, eX7_paired_29, eX7_paired_30, eX7_paired_33, eX7_paired_34, eX7_paired_35, eX7_paired_38, eX7_paired_39, eX7_paired_42, eX7_paired_43, eX7_paired_44, eX7_paired_in, q_in, hM, v10, tn_10, n10, dI_a, m1, dle, Option.toList_some, Option.toList_none, List.cons_append, List.nil_append, b2_0, Classical.not_not, false_implies, true_implies, implies_true, true_and, and_true, not_true_eq_false, not_false_eq_true]
      refine m_layPairs pa' (fun M' F N a0 p => ?_)
      simp only [eX7_paired_0, eX7_paired_1, eX7_paired_2, eX7_paired_3, eX7_paired_6, eX7_paired_8, eX7_paired_9, eX7_paired_10, eX7_paired_11, eX7_paired_14, eX7_paired_17, eX7_paired_19, eX7_paired_20, eX7_paired_21, eX7_paired_24, eX7_paired_25, eX7_paired_26, eX7_paired_29, eX7_paired_30, eX7_paired_33, eX7_paired_34, eX7_paired_35, eX7_paired_38, eX7_paired_39, eX7_paired_42, eX7_paired_43, eX7_paired_44, eX7_paired_in, v48, tn_0, a0, Option.toList_some, Option.toList_none, List.cons_append, List.nil_append, b2_0, Classical.not_not, false_implies, true_implies, implies_true, true_and, and_true, not_true_eq_false, not_false_eq_true]
      exact h M' F.1 (N.trans hM)
  · rcases natCase htt x with h1 | ⟨k, hk, rfl, h1⟩
    · have h2 : ¬ (-1 ≤ x ∧ x ≤ nI t - 1) := fun u => h1 ⟨by
        have a := Int32.le_iff_toInt_le.mp u.1
        have b : x.toInt ≠ (-1 : Int32).toInt := fun e => hx (Int32.toInt_inj.mp e)
        rw [show (-1 : Int32).toInt = -1 by decide] at a b
        exact Int32.le_iff_toInt_le.mpr (by rw [show (0 : Int32).toInt = 0 by decide]; omega), u.2⟩
      refine combN hI qX6_paired qX7_paired (-1000000001) (fun Q h => ?_) (fun M1 Q hM h => ?_)
      · simp only [eX6_paired_0, eX6_paired_1, eX6_paired_2, eX6_paired_5, eX6_paired_6, eX6_paired_9, eX6_paired_12, eX6_paired_13, eX6_paired_16, eX6_paired_19, eX6_paired_21, eX6_paired_22, eX6_paired_23, eX6_paired_26, eX6_paired_27, eX6_paired_30, eX6_paired_33, eX6_paired_34, eX6_paired_35, eX6_paired_38, eX6_paired_39, eX6_paired_42, eX6_paired_45, eX6_paired_48, eX6_paired_49, eX6_paired_52, eX6_paired_53, eX6_paired_56, eX6_paired_in, q_thas, e105, hx, h1, Option.toList_some, Option.toList_none, List.cons_append, List.nil_append, b2_0, Classical.not_not, false_implies, true_implies, implies_true, true_and, and_true, not_true_eq_false, not_false_eq_true]
        exact h
      · simp only [eX7_paired_0, eX7_paired_1, eX7_paired_2, eX7_paired_3, eX7_paired_6, eX7_paired_8, eX7_paired_9, eX7_paired_10, eX7_paired_11, eX7_paired_14, eX7_paired_17, eX7_paired_19, eX7_paired_20, eX7_paired_21, eX7_paired_24, eX7_paired_25, eX7_paired_26, eX7_paired_29, eX7_paired_30, eX7_paired_33, eX7_paired_34, eX7_paired_35, eX7_paired_38, eX7_paired_39, eX7_paired_42, eX7_paired_43, eX7_paired_44, eX7_paired_in, q_in, hM, v10, tn_10, n10, h2, Option.toList_some, Option.toList_none, List.cons_append, List.nil_append, b2_0, Classical.not_not, false_implies, true_implies, implies_true, true_and, and_true, not_true_eq_false, not_false_eq_true]
        exact h
    · have h2 : -1 ≤ nI k ∧ nI k ≤ nI t - 1 := ⟨Int32.le_trans (by decide) h1.1, h1.2⟩
      refine combI hI qX6_paired qX7_paired (M.1 52) (bI (chs (wA C (ptR (M.1 52)) (qkR (M.1 52))) t cc D k)) hI.1.2 (fun Q h => ?_) (fun M1 Q hM h => ?_)
      · simp only [eX6_paired_0, eX6_paired_1, eX6_paired_2, eX6_paired_5, eX6_paired_6, eX6_paired_9, eX6_paired_12, eX6_paired_13, eX6_paired_16, eX6_paired_19, eX6_paired_21, eX6_paired_22, eX6_paired_23, eX6_paired_26, eX6_paired_27, eX6_paired_30, eX6_paired_33, eX6_paired_34, eX6_paired_35, eX6_paired_38, eX6_paired_39, eX6_paired_42, eX6_paired_45, eX6_paired_48, eX6_paired_49, eX6_paired_52, eX6_paired_53, eX6_paired_56, eX6_paired_in, q_thas, e105, hx, h1, Option.toList_some, Option.toList_none, List.cons_append, List.nil_append, b2_0, Classical.not_not, false_implies, true_implies, implies_true, true_and, and_true, not_true_eq_false, not_false_eq_true]
        refine c_pairUp pc e31 e22 (fun M' F H a7 a6 p => ?_)
        simp only [eX6_paired_0, eX6_paired_1, eX6_paired_2, eX6_paired_5, eX6_paired_6, eX6_paired_9, eX6_paired_12, eX6_paired_13, eX6_paired_16, eX6_paired_19, eX6_paired_21, eX6_paired_22, eX6_paired_23, eX6_paired_26, eX6_paired_27, eX6_paired_30, eX6_paired_33, eX6_paired_34, eX6_paired_35, eX6_paired_38, eX6_paired_39, eX6_paired_42, eX6_paired_45, eX6_paired_48, eX6_paired_49, eX6_paired_52, eX6_paired_53, eX6_paired_56, eX6_paired_in, q_contactOf, H.1, h1, nI_clamp (show k < 2 ^ 31 by omega), vpn (show k < 6 by omega) (by decide : 6 < 2147483648), p k hk, hx, Option.toList_some, Option.toList_none, List.cons_append, List.nil_append, b2_0, Classical.not_not, false_implies, true_implies, implies_true, true_and, and_true, not_true_eq_false, not_false_eq_true]
        exact h M' F.FrD.1 (hR.congr (fun a p q => F.1 a (by omega)))
      · have pa' : PA (M1.1 52) R C t cc D (ptR (M.1 52)) (qkR (M.1 52)) := by rw [hM]; exact pa
        simp only [eX7_paired_0, eX7_paired_1, eX7_paired_2, eX7_paired_3, eX7_paired_6, eX7_paired_8, eX7_paired_9, eX7_paired_10, eX7_paired_11, eX7_paired_14, eX7_paired_17, eX7_paired_19, eX7_paired_20, eX7_paired_21, eX7_paired_24, eX7_paired_25, eX7_paired_26, eX7_paired_29, eX7_paired_30, eX7_paired_33, eX7_paired_34, eX7_paired_35, eX7_paired_38, eX7_paired_39, eX7_paired_42, eX7_paired_43, eX7_paired_44, eX7_paired_in, q_in, hM, v10, tn_10, n10, h2, Option.toList_some, Option.toList_none, List.cons_append, List.nil_append, b2_0, Classical.not_not, false_implies, true_implies, implies_true, true_and, and_true, not_true_eq_false, not_false_eq_true]
        refine m_layPairs pa' (fun M' F N a0 p => ?_)
        simp only [eX7_paired_0, eX7_paired_1, eX7_paired_2, eX7_paired_3, eX7_paired_6, eX7_paired_8, eX7_paired_9, eX7_paired_10, eX7_paired_11, eX7_paired_14, eX7_paired_17, eX7_paired_19, eX7_paired_20, eX7_paired_21, eX7_paired_24, eX7_paired_25, eX7_paired_26, eX7_paired_29, eX7_paired_30, eX7_paired_33, eX7_paired_34, eX7_paired_35, eX7_paired_38, eX7_paired_39, eX7_paired_42, eX7_paired_43, eX7_paired_44, eX7_paired_in, hx, nI_clamp (show k < 2 ^ 31 by omega), vpn (show k < 6 by omega) (by decide : 6 < 2147483648), p k hk, Option.toList_some, Option.toList_none, List.cons_append, List.nil_append, b2_0, Classical.not_not, false_implies, true_implies, implies_true, true_and, and_true, not_true_eq_false, not_false_eq_true]
        exact h M' F.1 (N.trans hM)
