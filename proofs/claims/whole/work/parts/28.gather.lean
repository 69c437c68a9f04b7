/-! the class gathers its CONTACTS -/
def GS (M : Mm) (t : Nat) (B : Nat → Int32) (c : Nat) (f : Nat → Nat) (pm : Nat) : Prop := RV M.1 1 0 t (upd (upd B 8 (nI c)) 9 (nI pm)) ∧ ∀ j, j < c → M.1 9 j = nI (f j)
theorem RV.con0 {M : Mm} {N : Nat → Int32} {t j : Nat} {v : Int32} (h : RV M.1 1 0 t N) (hj : j < 6) : RV (setI M 9 j v).1 1 0 t N := by
  refine RV.eqv (h.put (v := v) (a := 9) (p := j) (e := 274 + j) (by rw [(ec_con hj).1]) (by rw [(ec_con hj).2])) (fun k hk => ?_)
  simp only [upd]
  rw [if_neg]
  intro e
  unfold vld at hk
  omega
theorem b89 {B : Nat → Int32} {x y : Int32} {k : Nat} (h8 : k ≠ 8) (h9 : k ≠ 9) : upd (upd B 8 x) 9 y k = B k := by
  simp only [upd]
  rw [if_neg h9, if_neg h8]
theorem upd8 {B : Nat → Int32} {x y z : Int32} : upd (upd (upd B 8 x) 9 y) 8 z = upd (upd B 8 z) 9 y := by
  funext k
  simp only [upd]
  by_cases h8 : k = 8
  · subst h8
    simp
  · simp only [h8, if_false]
theorem upd9 {B : Nat → Int32} {x y z : Int32} : upd (upd (upd B 8 x) 9 y) 9 z = upd (upd B 8 x) 9 z := by
  funext k
  simp only [upd]
  by_cases h9 : k = 9
  · subst h9
    simp
  · simp only [h9, if_false]
theorem c_enter {Q : Qt} {M0 M : Mm} {B : Nat → Int32} {cd : Nat → Prop} {t c pm i : Nat} {f : Nat → Nat} (hi : i < 64) (hF : FrD M0 M) (hG : GS M t B c f pm) (hT : Tp B cd i c f) (hcd : cd i) (hQ : ∀ (M' : Mm) (c' : Nat) (f' : Nat → Nat), FrD M0 M' → GS M' t B c' f' pm → Tp B cd (i + 1) c' f' → Q none M') : kX0_enter [.ref 8, .ref 3, .int (nI i)] M Q := by
  obtain ⟨g1, g2⟩ := hG
  have hc6 := hT.1
  have e81 : M.1 8 1 = nI c := (g1.lo (k := 8) (by omega)).trans (by simp [upd])
  have flt : ∀ j, j < c → f j < 64 := fun j hj => by have := (hT.2.1 j hj).1; omega
  have sg : ∀ k, k < 64 → M.1 6 k = B (146 + k) := fun k hk => (g1.signal hk).trans (b89 (by omega) (by omega))
  have fin : ∀ p, p ≤ c → (∀ j, j < p → str B (f j) i) → (∀ j, p ≤ j → j < c → str B i (f j)) → V pgX0_enter Q 31 [.ref 8, .ref 3, .int (nI i), .int (nI p), .null] [] M := by
    intro p hp hw hs
    by_cases h6 : p < 6
    · have l6 : nI p < 6 := nI_lt (b := 6) h6 (by omega)
      have mn : (if nI (c + 1) < 6 then nI (c + 1) else (6 : Int32)) = nI (min 6 (c + 1)) := by
        by_cases q : c + 1 < 6
        · rw [if_pos (show nI (c + 1) < 6 from nI_lt (b := 6) q (by omega)), Nat.min_eq_right (by omega)]
        · rw [if_neg (show ¬ nI (c + 1) < 6 from nI_nlt (b := 6) (a := c + 1) (by omega) (by omega)), Nat.min_eq_left (by omega)]
          rfl
      have m1 : nI (min 6 (c + 1)) - 1 = nI (min 6 (c + 1) - 1) := nI_p1 (by omega)
      have hm : min 6 (c + 1) ≤ 6 ∧ min 6 (c + 1) ≤ c + 1 ∧ p < min 6 (c + 1) ∧ c ≤ min 6 (c + 1) := by omega
      generalize hcm : min 6 (c + 1) = cm at *
      have lp : ∀ d k (M1 : Mm), k = p + d → k < cm → FrD M0 M1 → RV M1.1 1 0 t (upd (upd B 8 (nI cm)) 9 (nI pm)) → (∀ j, k < j → j < cm → M1.1 9 j = nI (f (j - 1))) → (∀ j, j ≤ k → j < c → M1.1 9 j = nI (f j)) → V pgX0_enter Q 61 [.ref 8, .ref 3, .int (nI i), .int (nI p), .int (nI k)] [] M1 := by
        intro d
        induction d with
        | zero =>
          intro k M1 hk hkc hF1 hR1 ha hb
          have : k = p := by omega
          subst this
          rw [eX0_enter_61]
          simp only [eX0_enter_0, eX0_enter_1, eX0_enter_4, eX0_enter_6, eX0_enter_9, eX0_enter_10, eX0_enter_11, eX0_enter_12, eX0_enter_15, eX0_enter_16, eX0_enter_17, eX0_enter_18, eX0_enter_19, eX0_enter_22, eX0_enter_25, eX0_enter_28, eX0_enter_31, eX0_enter_32, eX0_enter_34, eX0_enter_37, eX0_enter_38, eX0_enter_39, eX0_enter_41, eX0_enter_42, eX0_enter_45, eX0_enter_46, eX0_enter_47, eX0_enter_50, eX0_enter_53, eX0_enter_54, eX0_enter_57, eX0_enter_58, eX0_enter_59, eX0_enter_63, eX0_enter_64, eX0_enter_67, eX0_enter_68, eX0_enter_71, eX0_enter_73, eX0_enter_74, eX0_enter_77, eX0_enter_79, eX0_enter_80, eX0_enter_81, eX0_enter_82, eX0_enter_83, eX0_enter_86, eX0_enter_89, eX0_enter_90, eX0_enter_93, eX0_enter_94, eX0_enter_95, eX0_enter_96, eX0_enter_in, Int32.le_refl, nI_clamp (show k < 2 ^ 31 by omega), vpn (show k < 6 by omega) (by decide : 6 < 2147483648), Option.toList_some, Option.toList_none, List.cons_append, List.nil_append, b2_0, Classical.not_not, false_implies, true_implies, implies_true, true_and, and_true, not_true_eq_false, not_false_eq_true]
          refine hQ _ cm (insX f k i) (hF1.set (by omega)) ⟨hR1.con0 (by omega), fun j hj => ?_⟩ (by rw [← hcm]; exact hT.insert_ hcd hp h6 hw hs)
          rw [setI_at]
          rcases Nat.lt_trichotomy j k with q | q | q
          · rw [upd_ne (by omega), hb j (by omega) (by omega)]
            simp [insX, q]
          · subst q
            rw [upd_at]
            simp [insX]
          · rw [upd_ne (by omega), ha j q hj]
            simp only [insX]
            rw [if_neg (by omega), if_neg (by omega)]
        | succ d ih =>
          intro k M1 hk hkc hF1 hR1 ha hb
          have k1 : nI k - 1 = nI (k - 1) := nI_p1 (by omega)
          have k2 : nI k + -1 = nI (k - 1) := sb_m1 (by omega)
          rw [eX0_enter_61]
          simp only [eX0_enter_0, eX0_enter_1, eX0_enter_4, eX0_enter_6, eX0_enter_9, eX0_enter_10, eX0_enter_11, eX0_enter_12, eX0_enter_15, eX0_enter_16, eX0_enter_17, eX0_enter_18, eX0_enter_19, eX0_enter_22, eX0_enter_25, eX0_enter_28, eX0_enter_31, eX0_enter_32, eX0_enter_34, eX0_enter_37, eX0_enter_38, eX0_enter_39, eX0_enter_41, eX0_enter_42, eX0_enter_45, eX0_enter_46, eX0_enter_47, eX0_enter_50, eX0_enter_53, eX0_enter_54, eX0_enter_57, eX0_enter_58, eX0_enter_59, eX0_enter_63, eX0_enter_64, eX0_enter_67, eX0_enter_68, eX0_enter_71, eX0_enter_73, eX0_enter_74, eX0_enter_77, eX0_enter_79, eX0_enter_80, eX0_enter_81, eX0_enter_82, eX0_enter_83, eX0_enter_86, eX0_enter_89, eX0_enter_90, eX0_enter_93, eX0_enter_94, eX0_enter_95, eX0_enter_96, eX0_enter_in, nI_ge (show p < k by omega) (show k < 2 ^ 31 by omega), k1, k2, nI_clamp (show k < 2 ^ 31 by omega), nI_clamp (show k - 1 < 2 ^ 31 by omega), vpn (show k < 6 by omega) (by decide : 6 < 2147483648), vpn (show k - 1 < 6 by omega) (by decide : 6 < 2147483648), hb (k - 1) (by omega) (by omega), Option.toList_some, Option.toList_none, List.cons_append, List.nil_append, b2_0, Classical.not_not, false_implies, true_implies, implies_true, true_and, and_true, not_true_eq_false, not_false_eq_true]
          refine ih (k - 1) _ (by omega) (by omega) (hF1.set (by omega)) (hR1.con0 (by omega)) (fun j h1 h2 => ?_) (fun j h1 h2 => ?_)
          · rw [setI_at]
            by_cases e : j = k
            · subst e
              rw [upd_at]
            · rw [upd_ne e]
              exact ha j (by omega) h2
          · rw [setI_at, upd_ne (by omega)]
            exact hb j (by omega) h2
      simp only [eX0_enter_0, eX0_enter_1, eX0_enter_4, eX0_enter_6, eX0_enter_9, eX0_enter_10, eX0_enter_11, eX0_enter_12, eX0_enter_15, eX0_enter_16, eX0_enter_17, eX0_enter_18, eX0_enter_19, eX0_enter_22, eX0_enter_25, eX0_enter_28, eX0_enter_31, eX0_enter_32, eX0_enter_34, eX0_enter_37, eX0_enter_38, eX0_enter_39, eX0_enter_41, eX0_enter_42, eX0_enter_45, eX0_enter_46, eX0_enter_47, eX0_enter_50, eX0_enter_53, eX0_enter_54, eX0_enter_57, eX0_enter_58, eX0_enter_59, eX0_enter_63, eX0_enter_64, eX0_enter_67, eX0_enter_68, eX0_enter_71, eX0_enter_73, eX0_enter_74, eX0_enter_77, eX0_enter_79, eX0_enter_80, eX0_enter_81, eX0_enter_82, eX0_enter_83, eX0_enter_86, eX0_enter_89, eX0_enter_90, eX0_enter_93, eX0_enter_94, eX0_enter_95, eX0_enter_96, eX0_enter_in, l6, e81, nI_1, mn, setI_at, upd_at, m1, Option.toList_some, Option.toList_none, List.cons_append, List.nil_append, b2_0, Classical.not_not, false_implies, true_implies, implies_true, true_and, and_true, not_true_eq_false, not_false_eq_true]
      refine lp (cm - 1 - p) (cm - 1) _ (by omega) (by omega) (hF.set (by omega)) ?_ (fun j h1 h2 => by omega) (fun j h1 h2 => ?_)
      · have := g1.put (a := 8) (p := 1) (e := 8) (v := nI cm) rfl rfl
        rw [upd8] at this
        exact this
      · rw [setI_ne (by decide)]
        exact g2 j h2
    · have l6 : ¬ (nI p < 6) := nI_nlt (b := 6) (a := p) (by omega) (by omega)
      simp only [eX0_enter_0, eX0_enter_1, eX0_enter_4, eX0_enter_6, eX0_enter_9, eX0_enter_10, eX0_enter_11, eX0_enter_12, eX0_enter_15, eX0_enter_16, eX0_enter_17, eX0_enter_18, eX0_enter_19, eX0_enter_22, eX0_enter_25, eX0_enter_28, eX0_enter_31, eX0_enter_32, eX0_enter_34, eX0_enter_37, eX0_enter_38, eX0_enter_39, eX0_enter_41, eX0_enter_42, eX0_enter_45, eX0_enter_46, eX0_enter_47, eX0_enter_50, eX0_enter_53, eX0_enter_54, eX0_enter_57, eX0_enter_58, eX0_enter_59, eX0_enter_63, eX0_enter_64, eX0_enter_67, eX0_enter_68, eX0_enter_71, eX0_enter_73, eX0_enter_74, eX0_enter_77, eX0_enter_79, eX0_enter_80, eX0_enter_81, eX0_enter_82, eX0_enter_83, eX0_enter_86, eX0_enter_89, eX0_enter_90, eX0_enter_93, eX0_enter_94, eX0_enter_95, eX0_enter_96, eX0_enter_in, l6, Option.toList_some, Option.toList_none, List.cons_append, List.nil_append, b2_0, Classical.not_not, false_implies, true_implies, implies_true, true_and, and_true, not_true_eq_false, not_false_eq_true]
      exact hQ M c f hF ⟨g1, g2⟩ (hT.full (by omega) (fun j hj => hw j (by omega)))
  have lp : ∀ q, q ≤ c → (∀ j, q ≤ j → j < c → str B i (f j)) → V pgX0_enter Q 5 [.ref 8, .ref 3, .int (nI i), .int (nI q), .null] [] M := by
    intro q
    induction q with
    | zero =>
      intro hq hs
      rw [eX0_enter_5]
      simp only [eX0_enter_0, eX0_enter_1, eX0_enter_4, eX0_enter_6, eX0_enter_9, eX0_enter_10, eX0_enter_11, eX0_enter_12, eX0_enter_15, eX0_enter_16, eX0_enter_17, eX0_enter_18, eX0_enter_19, eX0_enter_22, eX0_enter_25, eX0_enter_28, eX0_enter_32, eX0_enter_34, eX0_enter_37, eX0_enter_38, eX0_enter_39, eX0_enter_41, eX0_enter_42, eX0_enter_45, eX0_enter_46, eX0_enter_47, eX0_enter_50, eX0_enter_53, eX0_enter_54, eX0_enter_57, eX0_enter_58, eX0_enter_59, eX0_enter_63, eX0_enter_64, eX0_enter_67, eX0_enter_68, eX0_enter_71, eX0_enter_73, eX0_enter_74, eX0_enter_77, eX0_enter_79, eX0_enter_80, eX0_enter_81, eX0_enter_82, eX0_enter_83, eX0_enter_86, eX0_enter_89, eX0_enter_90, eX0_enter_93, eX0_enter_94, eX0_enter_95, eX0_enter_96, eX0_enter_in]
      exact ⟨fun _ => fin 0 (by omega) (fun j hj => by omega) hs, fun z => absurd (by decide) z⟩
    | succ q ih =>
      intro hq hs
      have k1 : nI (q + 1) - 1 = nI q := nI_pred q
      have k2 : nI (q + 1) + -1 = nI q := pk_m1 q
      have fq := flt q (by omega)
      have st : (B (146 + f q) < B (146 + i) ∨ (B (146 + i) = B (146 + f q) ∧ nI i < nI (f q))) ↔ str B i (f q) := stI hi fq
      rw [eX0_enter_5]
      simp only [eX0_enter_0, eX0_enter_1, eX0_enter_4, eX0_enter_6, eX0_enter_9, eX0_enter_10, eX0_enter_11, eX0_enter_12, eX0_enter_15, eX0_enter_16, eX0_enter_17, eX0_enter_18, eX0_enter_19, eX0_enter_22, eX0_enter_25, eX0_enter_28, eX0_enter_32, eX0_enter_34, eX0_enter_37, eX0_enter_38, eX0_enter_39, eX0_enter_41, eX0_enter_42, eX0_enter_45, eX0_enter_46, eX0_enter_47, eX0_enter_50, eX0_enter_53, eX0_enter_54, eX0_enter_57, eX0_enter_58, eX0_enter_59, eX0_enter_63, eX0_enter_64, eX0_enter_67, eX0_enter_68, eX0_enter_71, eX0_enter_73, eX0_enter_74, eX0_enter_77, eX0_enter_79, eX0_enter_80, eX0_enter_81, eX0_enter_82, eX0_enter_83, eX0_enter_86, eX0_enter_89, eX0_enter_90, eX0_enter_93, eX0_enter_94, eX0_enter_95, eX0_enter_96, eX0_enter_in, q_isStronger, nI_nle (show 0 < q + 1 by omega) (show q + 1 < 2 ^ 31 by omega), k1, k2, nI_clamp (show q < 2 ^ 31 by omega), vpn (show q < 6 by omega) (by decide : 6 < 2147483648), g2 q (by omega), nI_clamp (show i < 2 ^ 31 by omega), nI_clamp (show f q < 2 ^ 31 by omega), vpn hi (by decide : 64 < 2147483648), vpn fq (by decide : 64 < 2147483648), sg i hi, sg (f q) fq, st, Option.toList_some, Option.toList_none, List.cons_append, List.nil_append, b2_0, Classical.not_not, false_implies, true_implies, implies_true, true_and, and_true, not_true_eq_false, not_false_eq_true]
      refine ⟨fun z => ?_, fun z => ?_⟩
      · have hq' : str B (f q) i := by
          have := (hT.2.1 q (by omega)).1
          rcases str_tot (A := B) (show f q ≠ i by omega) with y | y
          · exact y
          · exact absurd y z
        refine fin (q + 1) hq (fun j hj => ?_) hs
        by_cases e : j = q
        · rw [e]
          exact hq'
        · exact str_tr (hT.2.2.1 j q (by omega) (by omega)) hq'
      · refine ih (by omega) (fun j h1 h2 => ?_)
        by_cases e : j = q
        · rw [e]
          exact z
        · exact hs j (by omega) h2
  simp only [eX0_enter_0, eX0_enter_1, eX0_enter_4, eX0_enter_6, eX0_enter_9, eX0_enter_10, eX0_enter_11, eX0_enter_12, eX0_enter_15, eX0_enter_16, eX0_enter_17, eX0_enter_18, eX0_enter_19, eX0_enter_22, eX0_enter_25, eX0_enter_28, eX0_enter_31, eX0_enter_32, eX0_enter_34, eX0_enter_37, eX0_enter_38, eX0_enter_39, eX0_enter_41, eX0_enter_42, eX0_enter_45, eX0_enter_46, eX0_enter_47, eX0_enter_50, eX0_enter_53, eX0_enter_54, eX0_enter_57, eX0_enter_58, eX0_enter_59, eX0_enter_63, eX0_enter_64, eX0_enter_67, eX0_enter_68, eX0_enter_71, eX0_enter_73, eX0_enter_74, eX0_enter_77, eX0_enter_79, eX0_enter_80, eX0_enter_81, eX0_enter_82, eX0_enter_83, eX0_enter_86, eX0_enter_89, eX0_enter_90, eX0_enter_93, eX0_enter_94, eX0_enter_95, eX0_enter_96, eX0_enter_in, e81, Option.toList_some, Option.toList_none, List.cons_append, List.nil_append, b2_0, Classical.not_not, false_implies, true_implies, implies_true, true_and, and_true, not_true_eq_false, not_false_eq_true]
  exact lp c (Nat.le_refl c) (fun j h1 h2 => by omega)
theorem c_gather {Q : Qt} {M : Mm} {B : Nat → Int32} {R C P cc t : Nat} (hR : R ≤ 8) (hC : C ≤ 8) (h0 : B 0 = nI R) (h1 : B 1 = nI C) (hP : P ≤ 64) (ht : t ≤ 6) (hB : RV M.1 1 cc t B) (hQ : ∀ M', FrD M M' → RV M'.1 1 (cF B (cdP B (R * C) P) (R * C)) t (conR B (R * C) P) → Q none M') : kX0_gather [.ref 8, .ref 3, .int (nI P)] M Q := by
  have h64 := rc_le hR hC
  have lp : ∀ d i (M1 : Mm) (c : Nat) (f : Nat → Nat), i + d = R * C → FrD M M1 → GS M1 t B c f (cnp (pmP B (R * C) P) i) → Tp B (cdP B (R * C) P) i c f → V pgX0_gather Q 12 [.ref 8, .ref 3, .int (nI P), .int (nI (R * C)), .int (nI i)] [] M1 := by
    intro d
    induction d with
    | zero =>
      intro i M1 c f hi hF hG hT
      have : i = R * C := by omega
      subst this
      rw [eX0_gather_12]
      simp only [eX0_gather_0, eX0_gather_1, eX0_gather_4, eX0_gather_5, eX0_gather_8, eX0_gather_9, eX0_gather_10, eX0_gather_14, eX0_gather_15, eX0_gather_18, eX0_gather_19, eX0_gather_22, eX0_gather_24, eX0_gather_25, eX0_gather_27, eX0_gather_30, eX0_gather_31, eX0_gather_33, eX0_gather_36, eX0_gather_37, eX0_gather_40, eX0_gather_41, eX0_gather_42, eX0_gather_45, eX0_gather_46, eX0_gather_47, eX0_gather_50, eX0_gather_53, eX0_gather_54, eX0_gather_55, eX0_gather_57, eX0_gather_60, eX0_gather_63, eX0_gather_66, eX0_gather_in, Int32.le_refl, Option.toList_some, Option.toList_none, List.cons_append, List.nil_append, b2_0, Classical.not_not, false_implies, true_implies, implies_true, true_and, and_true, not_true_eq_false, not_false_eq_true]
      refine hQ M1 hF ?_
      rw [← conR_of hT, show cF B (cdP B (R * C) P) (R * C) = c from (TpF B _ _).uc hT]
      intro k hk
      have hc6 := hT.1
      rcases (show k = 8 ∨ k = 9 ∨ (274 ≤ k ∧ k < 280 ∧ k < 274 + c) ∨ (k ≠ 8 ∧ k ≠ 9 ∧ ¬ (274 ≤ k ∧ k < 274 + c) ∧ vld 0 t k) by
        unfold vld at hk ⊢
        omega) with rfl | rfl | q | ⟨q1, q2, q3, q4⟩
      · have := hG.1 8 (Or.inl (by omega))
        rw [this]
        simp [upd, rw3]
      · have := hG.1 9 (Or.inl (by omega))
        rw [this]
        simp [upd, rw3]
      · have e := hG.2 (k - 274) (by omega)
        have ek := ec_con (k := k - 274) (by omega)
        rw [show 274 + (k - 274) = k by omega] at ek
        unfold enc
        rw [ek.1, ek.2]
        simp only [rw3]
        rw [if_neg (by omega), if_neg (by omega), if_pos (by omega)]
        exact e
      · have := hG.1 k q4
        rw [this, b89 q1 q2]
        simp only [rw3]
        rw [if_neg q1, if_neg q2, if_neg q3]
    | succ d ih =>
      intro i M1 c f hi hF hG hT
      have bl : ∀ k, k < 274 → k ≠ 8 → k ≠ 9 → M1.1 (1 + ec k) (ep k) = B k := fun k hk a b => (hG.1.lo hk).trans (b89 a b)
      have e30 : M1.1 3 0 = nI R := (bl 0 (by omega) (by omega) (by omega)).trans h0
      have e31 : M1.1 3 1 = nI C := (bl 1 (by omega) (by omega) (by omega)).trans h1
      have e82 : M1.1 8 2 = nI (cnp (pmP B (R * C) P) i) := (hG.1.lo (k := 9) (by omega)).trans (by simp [upd])
      have e7 : ∀ k, k < R * C → M1.1 7 k = B (210 + k) := fun k hk => (hG.1.peak (by omega)).trans (b89 (by omega) (by omega))
      have ea : ar (M1.1 7) (nI i) (R * C) = ar (fun j => B (210 + j)) (nI i) (R * C) := ar_congr _ e7
      have al := ar_le (fun j => B (210 + j)) (nI i) (R * C)
      have e1 : cnp (pmP B (R * C) P) (i + 1) = cnp (pmP B (R * C) P) i + @ite _ (pmP B (R * C) P i) (Classical.propDecidable _) 1 0 := rfl
      rw [eX0_gather_12]
      simp only [eX0_gather_0, eX0_gather_1, eX0_gather_4, eX0_gather_5, eX0_gather_8, eX0_gather_9, eX0_gather_10, eX0_gather_14, eX0_gather_15, eX0_gather_18, eX0_gather_19, eX0_gather_22, eX0_gather_24, eX0_gather_25, eX0_gather_27, eX0_gather_30, eX0_gather_31, eX0_gather_33, eX0_gather_36, eX0_gather_37, eX0_gather_40, eX0_gather_41, eX0_gather_42, eX0_gather_45, eX0_gather_46, eX0_gather_47, eX0_gather_50, eX0_gather_53, eX0_gather_54, eX0_gather_55, eX0_gather_57, eX0_gather_60, eX0_gather_63, eX0_gather_66, eX0_gather_in, nI_ge (show i < R * C by omega) (show R * C < 2 ^ 31 by omega), nI_clamp (show i < 2 ^ 31 by omega), vpn (show i < 64 by omega) (by decide : 64 < 2147483648), e7 i (by omega), nI_1, Option.toList_some, Option.toList_none, List.cons_append, List.nil_append, b2_0, Classical.not_not, false_implies, true_implies, implies_true, true_and, and_true, not_true_eq_false, not_false_eq_true]
      refine ⟨fun z => ?_, fun z => ?_⟩
      · have np : ¬ pmP B (R * C) P i := fun u => z u.1
        refine ih (i + 1) M1 c f (by omega) hF ?_ (hT.skip (fun u => z u.1))
        rw [e1, if_neg np]
        exact hG
      · refine c_areaOf e30 e31 rfl h64 ?_
        rw [ea]
        have cmp : nI (ar (fun j => B (210 + j)) (nI i) (R * C)) ≤ nI P ↔ ar (fun j => B (210 + j)) (nI i) (R * C) ≤ P := nI_leI (by omega) (by omega)
        simp only [eX0_gather_0, eX0_gather_1, eX0_gather_4, eX0_gather_5, eX0_gather_8, eX0_gather_9, eX0_gather_10, eX0_gather_14, eX0_gather_15, eX0_gather_18, eX0_gather_19, eX0_gather_22, eX0_gather_24, eX0_gather_25, eX0_gather_27, eX0_gather_30, eX0_gather_31, eX0_gather_33, eX0_gather_36, eX0_gather_37, eX0_gather_40, eX0_gather_41, eX0_gather_42, eX0_gather_45, eX0_gather_46, eX0_gather_47, eX0_gather_50, eX0_gather_53, eX0_gather_54, eX0_gather_55, eX0_gather_57, eX0_gather_60, eX0_gather_63, eX0_gather_66, eX0_gather_in, cmp, e82, nI_1, Option.toList_some, Option.toList_none, List.cons_append, List.nil_append, b2_0, Classical.not_not, false_implies, true_implies, implies_true, true_and, and_true, not_true_eq_false, not_false_eq_true]
        refine ⟨fun y => ?_, fun y => ?_⟩
        · have np : ¬ pmP B (R * C) P i := fun u => by
            have := u.2
            omega
          refine c_enter (cd := cdP B (R * C) P) (by omega) hF hG hT ⟨z, y⟩ (fun M2 c' f' F2 G2 T2 => ?_)
          simp only [eX0_gather_0, eX0_gather_1, eX0_gather_4, eX0_gather_5, eX0_gather_8, eX0_gather_9, eX0_gather_10, eX0_gather_14, eX0_gather_15, eX0_gather_18, eX0_gather_19, eX0_gather_22, eX0_gather_24, eX0_gather_25, eX0_gather_27, eX0_gather_30, eX0_gather_31, eX0_gather_33, eX0_gather_36, eX0_gather_37, eX0_gather_40, eX0_gather_41, eX0_gather_42, eX0_gather_45, eX0_gather_46, eX0_gather_47, eX0_gather_50, eX0_gather_53, eX0_gather_54, eX0_gather_55, eX0_gather_57, eX0_gather_60, eX0_gather_63, eX0_gather_66, eX0_gather_in, nI_1, Option.toList_some, Option.toList_none, List.cons_append, List.nil_append, b2_0, Classical.not_not, false_implies, true_implies, implies_true, true_and, and_true, not_true_eq_false, not_false_eq_true]
          refine ih (i + 1) M2 c' f' (by omega) F2 ?_ T2
          rw [e1, if_neg np]
          exact G2
        · have yp : pmP B (R * C) P i := ⟨z, by omega⟩
          refine ih (i + 1) _ c f (by omega) (hF.set (by omega)) ⟨?_, fun j hj => ?_⟩ (hT.skip (fun u => by
            have := u.2
            omega))
          · have := hG.1.put (a := 8) (p := 2) (e := 9) (v := nI (cnp (pmP B (R * C) P) i + 1)) rfl rfl
            rw [upd9] at this
            rw [e1, if_pos yp]
            exact this
          · rw [setI_ne (by decide)]
            exact hG.2 j hj
  have e30 : M.1 3 0 = nI R := (hB.lo (k := 0) (by omega)).trans h0
  have e31 : M.1 3 1 = nI C := (hB.lo (k := 1) (by omega)).trans h1
  have k1 : (setI (setI M 8 1 0) 8 2 0).1 3 0 = nI R := by rw [setI_ne (by decide), setI_ne (by decide)]; exact e30
  have k2 : (setI (setI M 8 1 0) 8 2 0).1 3 1 = nI C := by rw [setI_ne (by decide), setI_ne (by decide)]; exact e31
  simp only [eX0_gather_0, eX0_gather_1, eX0_gather_4, eX0_gather_5, eX0_gather_8, eX0_gather_9, eX0_gather_10, eX0_gather_14, eX0_gather_15, eX0_gather_18, eX0_gather_19, eX0_gather_22, eX0_gather_24, eX0_gather_25, eX0_gather_27, eX0_gather_30, eX0_gather_31, eX0_gather_33, eX0_gather_36, eX0_gather_37, eX0_gather_40, eX0_gather_41, eX0_gather_42, eX0_gather_45, eX0_gather_46, eX0_gather_47, eX0_gather_50, eX0_gather_53, eX0_gather_54, eX0_gather_55, eX0_gather_57, eX0_gather_60, eX0_gather_63, eX0_gather_66, eX0_gather_in, eX0_forget_0, eX0_forget_1, eX0_forget_2, eX0_forget_5, eX0_forget_6, eX0_forget_7, eX0_forget_10, eX0_forget_in, q_cells, k1, k2, pk_mul, Option.toList_some, Option.toList_none, List.cons_append, List.nil_append, b2_0, Classical.not_not, false_implies, true_implies, implies_true, true_and, and_true, not_true_eq_false, not_false_eq_true]
  refine lp (R * C) 0 _ 0 (fun _ => 0) (by omega) ((FrD.rf.set (by omega)).set (by omega)) ⟨?_, fun j hj => by omega⟩ (Tp.zero B _ _)
  exact ((hB.sub (c' := 0) (t' := t) (by omega) (by omega)).put (a := 8) (p := 1) (e := 8) (v := 0) rfl rfl).put (a := 8) (p := 2) (e := 9) (v := 0) rfl rfl
