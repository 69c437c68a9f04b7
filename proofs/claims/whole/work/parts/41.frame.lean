/-! frame -/
section FRAME
variable {N : Nat → Int32} {R C T P D L : Nat}
noncomputable def pas1 (N : Nat → Int32) (R C T P D L : Nat) : Nat → Int32 := pasR N R C (N 10).toNatClampNeg T P D L (N 14).toNatClampNeg
/-- ranges, with so many FRAMES -/
def GdX (N : Nat → Int32) (R C T P D L F : Nat) : Prop := (∃ c t, Gd N R C c t T P D L) ∧ N 6 = nI F
theorem GdX.pas {F : Nat} (h : GdX N R C T P D L F) (hF : F < 9030) : GdX (pas1 N R C T P D L) R C T P D L (F + 1) := by
  obtain ⟨⟨c, t, g⟩, n6⟩ := h
  obtain ⟨⟨-, -, -, htt⟩, -, ⟨-, -, -, -, -, -, -, n10⟩, -⟩ := id g
  have e10 : (N 10).toNatClampNeg = t := by rw [n10, nI_clamp (by omega)]
  unfold pas1
  rw [e10]
  obtain ⟨a, b⟩ := gd_pas (s := (N 14).toNatClampNeg) g hF n6
  exact ⟨⟨_, _, a⟩, b⟩
theorem c_take1 {Q : Qt} {M : Mm} {F : Nat} (h : GdX N R C T P D L F) (hF : F < 9030) (hR : Re M.1 1 N) (hQ : ∀ M', FrD M M' → Re M'.1 1 (pas1 N R C T P D L) → Q none M') : kX4_takeFrame [.ref 1, .ref 46] M Q := by
  have h1 := h.pas hF
  obtain ⟨⟨c, t, g⟩, n6⟩ := h
  obtain ⟨⟨⟨r1, r2⟩, -, hcc, htt⟩, -, ⟨-, -, -, -, -, -, n8, n10⟩, -, -, ⟨s, s1, s2⟩, -⟩ := id g
  have e10 : (N 10).toNatClampNeg = t := by rw [n10, nI_clamp (by omega)]
  have p8 := pow_R r2
  have e14 : (N 14).toNatClampNeg = s := by rw [s2, nI_clamp (by omega)]
  have gp := (gd_pas (s := s) g hF n6).1
  obtain ⟨⟨-, -, hcc', htt'⟩, -, ⟨-, -, -, -, -, -, n8', n10'⟩, -⟩ := id gp
  refine c_take g s1 s2 (hR.rv hcc htt n8 n10) (fun M' F V => hQ M' F ?_)
  unfold pas1
  rw [e10, e14]
  exact V.re hcc' htt' n8' n10'
theorem m_pas1 {Q : Qt} {M : Mm} {F : Nat} (h : GdX N R C T P D L F) (hN : M.1 52 = N) (hQ : ∀ M', FrN M M' → M'.1 52 = pas1 N R C T P D L → Q none M') : kX7_passes [.ref 51] M Q := by
  obtain ⟨⟨c, t, g⟩, n6⟩ := h
  obtain ⟨⟨⟨r1, r2⟩, -, hcc, htt⟩, -, ⟨-, -, -, -, -, -, n8, n10⟩, -, -, ⟨s, s1, s2⟩, -⟩ := id g
  have e10 : (N 10).toNatClampNeg = t := by rw [n10, nI_clamp (by omega)]
  have p8 := pow_R r2
  have e14 : (N 14).toNatClampNeg = s := by rw [s2, nI_clamp (by omega)]
  unfold pas1 at hQ
  rw [e10, e14] at hQ
  exact m_passes g s1 s2 hN hQ
noncomputable def frI (N : Nat → Int32) (R C T P D L : Nat) : Nat → Nat → Int32
  | 0 => N
  | i + 1 => pas1 (frI N R C T P D L i) R C T P D L
theorem GdX.fr {F : Nat} (h : GdX N R C T P D L F) (hF : F ≤ 9000) : ∀ i, i ≤ 30 → GdX (frI N R C T P D L i) R C T P D L (F + i)
  | 0, _ => h
  | i + 1, hi => (GdX.fr h hF i (by omega)).pas (by omega)
theorem l_cfr {Q : Qt} {M0 : Mm} {F n : Nat} (h : GdX N R C T P D L F) (hF : F ≤ 9000) (hn : n ≤ 30) (hQ : ∀ M', FrD M0 M' → Re M'.1 1 (frI N R C T P D L n) → V pgX6_frame Q 53 [.ref 0, .int (nI n), .int (nI n)] [] M') : ∀ (d i : Nat) (M : Mm), i + d = n → FrD M0 M → Re M.1 1 (frI N R C T P D L i) → V pgX6_frame Q 31 [.ref 0, .int (nI n), .int (nI i)] [] M := by
  intro d
  induction d with
  | zero =>
    intro i M hi hF' hR
    have : i = n := by omega
    subst this
    rw [eX6_frame_31]
    simp only [eX6_frame_0, eX6_frame_1, eX6_frame_2, eX6_frame_4, eX6_frame_7, eX6_frame_10, eX6_frame_12, eX6_frame_13, eX6_frame_14, eX6_frame_17, eX6_frame_20, eX6_frame_23, eX6_frame_26, eX6_frame_28, eX6_frame_29, eX6_frame_30, eX6_frame_32, eX6_frame_33, eX6_frame_36, eX6_frame_37, eX6_frame_40, eX6_frame_41, eX6_frame_44, eX6_frame_47, eX6_frame_50, eX6_frame_54, eX6_frame_57, eX6_frame_60, eX6_frame_in, Int32.le_refl, Option.toList_some, Option.toList_none, List.cons_append, List.nil_append, b2_0, Classical.not_not, false_implies, true_implies, implies_true, true_and, and_true, not_true_eq_false, not_false_eq_true]
    exact hQ M hF' hR
  | succ d ih =>
    intro i M hi hF' hR
    rw [eX6_frame_31]
    simp only [eX6_frame_0, eX6_frame_1, eX6_frame_2, eX6_frame_4, eX6_frame_7, eX6_frame_10, eX6_frame_12, eX6_frame_13, eX6_frame_14, eX6_frame_17, eX6_frame_20, eX6_frame_23, eX6_frame_26, eX6_frame_28, eX6_frame_29, eX6_frame_30, eX6_frame_32, eX6_frame_33, eX6_frame_36, eX6_frame_37, eX6_frame_40, eX6_frame_41, eX6_frame_44, eX6_frame_47, eX6_frame_50, eX6_frame_54, eX6_frame_57, eX6_frame_60, eX6_frame_in, nI_ge (show i < n by omega) (show n < 2 ^ 31 by omega), Option.toList_some, Option.toList_none, List.cons_append, List.nil_append, b2_0, Classical.not_not, false_implies, true_implies, implies_true, true_and, and_true, not_true_eq_false, not_false_eq_true]
    refine c_take1 (h.fr hF i (by omega)) (by omega) hR (fun M' F1 R1 => ?_)
    simp only [eX6_frame_0, eX6_frame_1, eX6_frame_2, eX6_frame_4, eX6_frame_7, eX6_frame_10, eX6_frame_12, eX6_frame_13, eX6_frame_14, eX6_frame_17, eX6_frame_20, eX6_frame_23, eX6_frame_26, eX6_frame_28, eX6_frame_29, eX6_frame_30, eX6_frame_32, eX6_frame_33, eX6_frame_36, eX6_frame_37, eX6_frame_40, eX6_frame_41, eX6_frame_44, eX6_frame_47, eX6_frame_50, eX6_frame_54, eX6_frame_57, eX6_frame_60, eX6_frame_in, nI_1, Option.toList_some, Option.toList_none, List.cons_append, List.nil_append, b2_0, Classical.not_not, false_implies, true_implies, implies_true, true_and, and_true, not_true_eq_false, not_false_eq_true]
    exact ih (i + 1) M' (by omega) (hF'.tr F1) R1
theorem l_mfr {Q : Qt} {M0 : Mm} {F n : Nat} (h : GdX N R C T P D L F) (hF : F ≤ 9000) (hn : n ≤ 30) (hQ : ∀ M', FrN M0 M' → M'.1 52 = frI N R C T P D L n → V pgX7_frame Q 46 [.ref 51, .int (nI n), .int (nI n)] [] M') : ∀ (d i : Nat) (M : Mm), i + d = n → FrN M0 M → M.1 52 = frI N R C T P D L i → V pgX7_frame Q 31 [.ref 51, .int (nI n), .int (nI i)] [] M := by
  intro d
  induction d with
  | zero =>
    intro i M hi hF' hR
    have : i = n := by omega
    subst this
    rw [eX7_frame_31]
    simp only [eX7_frame_0, eX7_frame_1, eX7_frame_2, eX7_frame_4, eX7_frame_7, eX7_frame_10, eX7_frame_12, eX7_frame_13, eX7_frame_14, eX7_frame_17, eX7_frame_19, eX7_frame_20, eX7_frame_23, eX7_frame_26, eX7_frame_28, eX7_frame_29, eX7_frame_30, eX7_frame_32, eX7_frame_33, eX7_frame_36, eX7_frame_37, eX7_frame_40, eX7_frame_43, eX7_frame_47, eX7_frame_50, eX7_frame_52, eX7_frame_53, eX7_frame_in, Int32.le_refl, Option.toList_some, Option.toList_none, List.cons_append, List.nil_append, b2_0, Classical.not_not, false_implies, true_implies, implies_true, true_and, and_true, not_true_eq_false, not_false_eq_true]
    exact hQ M hF' hR
  | succ d ih =>
    intro i M hi hF' hR
    rw [eX7_frame_31]
    simp only [eX7_frame_0, eX7_frame_1, eX7_frame_2, eX7_frame_4, eX7_frame_7, eX7_frame_10, eX7_frame_12, eX7_frame_13, eX7_frame_14, eX7_frame_17, eX7_frame_19, eX7_frame_20, eX7_frame_23, eX7_frame_26, eX7_frame_28, eX7_frame_29, eX7_frame_30, eX7_frame_32, eX7_frame_33, eX7_frame_36, eX7_frame_37, eX7_frame_40, eX7_frame_43, eX7_frame_47, eX7_frame_50, eX7_frame_52, eX7_frame_53, eX7_frame_in, nI_ge (show i < n by omega) (show n < 2 ^ 31 by omega), Option.toList_some, Option.toList_none, List.cons_append, List.nil_append, b2_0, Classical.not_not, false_implies, true_implies, implies_true, true_and, and_true, not_true_eq_false, not_false_eq_true]
    refine m_pas1 (h.fr hF i (by omega)) hR (fun M' F1 R1 => ?_)
    simp only [eX7_frame_0, eX7_frame_1, eX7_frame_2, eX7_frame_4, eX7_frame_7, eX7_frame_10, eX7_frame_12, eX7_frame_13, eX7_frame_14, eX7_frame_17, eX7_frame_19, eX7_frame_20, eX7_frame_23, eX7_frame_26, eX7_frame_28, eX7_frame_29, eX7_frame_30, eX7_frame_32, eX7_frame_33, eX7_frame_36, eX7_frame_37, eX7_frame_40, eX7_frame_43, eX7_frame_47, eX7_frame_50, eX7_frame_52, eX7_frame_53, eX7_frame_in, nI_1, Option.toList_some, Option.toList_none, List.cons_append, List.nil_append, b2_0, Classical.not_not, false_implies, true_implies, implies_true, true_and, and_true, not_true_eq_false, not_false_eq_true]
    exact ih (i + 1) M' (by omega) (hF'.tr F1) R1
end FRAME
theorem step_frame {M : Mm} (hI : Inv M) (x : Int32) : StepI kX6_frame kX7_frame [.int x] M := by
  obtain ⟨⟨hR, R, C, cc, t, T, P, D, L, g⟩, -⟩ := id hI
  obtain ⟨-, -, -, ⟨F, f1, f2, -⟩, -⟩ := id g
  have e14 : M.1 1 4 = nI F := (hR.lo (k := 6) (by omega)).trans f2
  have cmp : (nI F ≤ 9000) ↔ F ≤ 9000 := nI_leI (b := 9000) (by omega) (by omega)
  by_cases h1 : 1 ≤ x ∧ x ≤ 30
  · obtain ⟨n, n1, n2, rfl⟩ := in_nI (a := 1) (b := 30) (by omega) (by omega) h1.1 h1.2
    by_cases hF : F ≤ 9000
    · have gx : GdX (M.1 52) R C T P D L F := ⟨⟨cc, t, g⟩, f2⟩
      obtain ⟨⟨c', t', g'⟩, -⟩ := gx.fr hF n n2
      refine combI hI qX6_frame qX7_frame (frI (M.1 52) R C T P D L n) (frI (M.1 52) R C T P D L n 7) ⟨_, _, _, _, _, _, _, _, g'⟩ (fun Q h => ?_) (fun M1 Q hM h => ?_)
      · simp only [eX6_frame_0, eX6_frame_1, eX6_frame_2, eX6_frame_4, eX6_frame_7, eX6_frame_10, eX6_frame_12, eX6_frame_13, eX6_frame_14, eX6_frame_17, eX6_frame_20, eX6_frame_23, eX6_frame_26, eX6_frame_28, eX6_frame_29, eX6_frame_30, eX6_frame_32, eX6_frame_33, eX6_frame_36, eX6_frame_37, eX6_frame_40, eX6_frame_41, eX6_frame_44, eX6_frame_47, eX6_frame_50, eX6_frame_53, eX6_frame_54, eX6_frame_57, eX6_frame_60, eX6_frame_in, q_within, h1, e14, cmp, hF, Option.toList_some, Option.toList_none, List.cons_append, List.nil_append, b2_0, Classical.not_not, false_implies, true_implies, implies_true, true_and, and_true, not_true_eq_false, not_false_eq_true]
        refine l_cfr (M0 := M) gx hF n2 (fun M' F1 R1 => ?_) n 0 M (by omega) FrD.rf hR
        have e15 : M'.1 1 5 = frI (M.1 52) R C T P D L n 7 := R1.lo (k := 7) (by omega)
        simp only [eX6_frame_0, eX6_frame_1, eX6_frame_2, eX6_frame_4, eX6_frame_7, eX6_frame_10, eX6_frame_12, eX6_frame_13, eX6_frame_14, eX6_frame_17, eX6_frame_20, eX6_frame_23, eX6_frame_26, eX6_frame_28, eX6_frame_29, eX6_frame_30, eX6_frame_32, eX6_frame_33, eX6_frame_36, eX6_frame_37, eX6_frame_40, eX6_frame_41, eX6_frame_44, eX6_frame_47, eX6_frame_50, eX6_frame_53, eX6_frame_54, eX6_frame_57, eX6_frame_60, eX6_frame_in, e15, Option.toList_some, Option.toList_none, List.cons_append, List.nil_append, b2_0, Classical.not_not, false_implies, true_implies, implies_true, true_and, and_true, not_true_eq_false, not_false_eq_true]
        exact h M' F1.1 R1
      · simp only [eX7_frame_0, eX7_frame_1, eX7_frame_2, eX7_frame_4, eX7_frame_7, eX7_frame_10, eX7_frame_12, eX7_frame_13, eX7_frame_14, eX7_frame_17, eX7_frame_19, eX7_frame_20, eX7_frame_23, eX7_frame_26, eX7_frame_28, eX7_frame_29, eX7_frame_30, eX7_frame_32, eX7_frame_33, eX7_frame_36, eX7_frame_37, eX7_frame_40, eX7_frame_43, eX7_frame_46, eX7_frame_47, eX7_frame_50, eX7_frame_52, eX7_frame_53, eX7_frame_in, q_in, h1, hM, v6, tn_6, f2, cmp, hF, Option.toList_some, Option.toList_none, List.cons_append, List.nil_append, b2_0, Classical.not_not, false_implies, true_implies, implies_true, true_and, and_true, not_true_eq_false, not_false_eq_true]
        refine l_mfr (M0 := M1) gx hF n2 (fun M' F1 R1 => ?_) n 0 M1 (by omega) FrN.rf hM
        simp only [eX7_frame_0, eX7_frame_1, eX7_frame_2, eX7_frame_4, eX7_frame_7, eX7_frame_10, eX7_frame_12, eX7_frame_13, eX7_frame_14, eX7_frame_17, eX7_frame_19, eX7_frame_20, eX7_frame_23, eX7_frame_26, eX7_frame_28, eX7_frame_29, eX7_frame_30, eX7_frame_32, eX7_frame_33, eX7_frame_36, eX7_frame_37, eX7_frame_40, eX7_frame_43, eX7_frame_46, eX7_frame_47, eX7_frame_50, eX7_frame_52, eX7_frame_53, eX7_frame_in, v7, tn_7, R1, Option.toList_some, Option.toList_none, List.cons_append, List.nil_append, b2_0, Classical.not_not, false_implies, true_implies, implies_true, true_and, and_true, not_true_eq_false, not_false_eq_true]
        exact h M' F1.1 R1
    · refine combN hI qX6_frame qX7_frame (-1000000004) (fun Q h => ?_) (fun M1 Q hM h => ?_)
      · simp only [eX6_frame_0, eX6_frame_1, eX6_frame_2, eX6_frame_4, eX6_frame_7, eX6_frame_10, eX6_frame_12, eX6_frame_13, eX6_frame_14, eX6_frame_17, eX6_frame_20, eX6_frame_23, eX6_frame_26, eX6_frame_28, eX6_frame_29, eX6_frame_30, eX6_frame_32, eX6_frame_33, eX6_frame_36, eX6_frame_37, eX6_frame_40, eX6_frame_41, eX6_frame_44, eX6_frame_47, eX6_frame_50, eX6_frame_53, eX6_frame_54, eX6_frame_57, eX6_frame_60, eX6_frame_in, q_within, h1, e14, cmp, hF, Option.toList_some, Option.toList_none, List.cons_append, List.nil_append, b2_0, Classical.not_not, false_implies, true_implies, implies_true, true_and, and_true, not_true_eq_false, not_false_eq_true]
        exact h
      · simp only [eX7_frame_0, eX7_frame_1, eX7_frame_2, eX7_frame_4, eX7_frame_7, eX7_frame_10, eX7_frame_12, eX7_frame_13, eX7_frame_14, eX7_frame_17, eX7_frame_19, eX7_frame_20, eX7_frame_23, eX7_frame_26, eX7_frame_28, eX7_frame_29, eX7_frame_30, eX7_frame_32, eX7_frame_33, eX7_frame_36, eX7_frame_37, eX7_frame_40, eX7_frame_43, eX7_frame_46, eX7_frame_47, eX7_frame_50, eX7_frame_52, eX7_frame_53, eX7_frame_in, q_in, h1, hM, v6, tn_6, f2, cmp, hF, Option.toList_some, Option.toList_none, List.cons_append, List.nil_append, b2_0, Classical.not_not, false_implies, true_implies, implies_true, true_and, and_true, not_true_eq_false, not_false_eq_true]
        exact h
  · refine combN hI qX6_frame qX7_frame (-1000000002) (fun Q h => ?_) (fun M1 Q hM h => ?_)
    · simp only [eX6_frame_0, eX6_frame_1, eX6_frame_2, eX6_frame_4, eX6_frame_7, eX6_frame_10, eX6_frame_12, eX6_frame_13, eX6_frame_14, eX6_frame_17, eX6_frame_20, eX6_frame_23, eX6_frame_26, eX6_frame_28, eX6_frame_29, eX6_frame_30, eX6_frame_32, eX6_frame_33, eX6_frame_36, eX6_frame_37, eX6_frame_40, eX6_frame_41, eX6_frame_44, eX6_frame_47, eX6_frame_50, eX6_frame_53, eX6_frame_54, eX6_frame_57, eX6_frame_60, eX6_frame_in, q_within, h1, Option.toList_some, Option.toList_none, List.cons_append, List.nil_append, b2_0, Classical.not_not, false_implies, true_implies, implies_true, true_and, and_true, not_true_eq_false, not_false_eq_true]
      exact h
    · simp only [eX7_frame_0, eX7_frame_1, eX7_frame_2, eX7_frame_4, eX7_frame_7, eX7_frame_10, eX7_frame_12, eX7_frame_13, eX7_frame_14, eX7_frame_17, eX7_frame_19, eX7_frame_20, eX7_frame_23, eX7_frame_26, eX7_frame_28, eX7_frame_29, eX7_frame_30, eX7_frame_32, eX7_frame_33, eX7_frame_36, eX7_frame_37, eX7_frame_40, eX7_frame_43, eX7_frame_46, eX7_frame_47, eX7_frame_50, eX7_frame_52, eX7_frame_53, eX7_frame_in, q_in, h1, Option.toList_some, Option.toList_none, List.cons_append, List.nil_append, b2_0, Classical.not_not, false_implies, true_implies, implies_true, true_and, and_true, not_true_eq_false, not_false_eq_true]
      exact h
