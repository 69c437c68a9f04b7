/-! told, cell, track, rule, bound, lose -/
theorem vv {n N : Nat} (h : n < N) (hN : N < 2147483648) {x : Int32} (hx : x = nI n) : vp_in x N := hx ▸ vp_in_nI h hN
theorem v4_0 : vp_in 0 4 := vv (n := 0) (by decide) (by decide) rfl
theorem v4_1 : vp_in 1 4 := vv (n := 1) (by decide) (by decide) rfl
theorem v4_2 : vp_in 2 4 := vv (n := 2) (by decide) (by decide) rfl
theorem v4_3 : vp_in 3 4 := vv (n := 3) (by decide) (by decide) rfl
theorem step_told {M : Mm} (hI : Inv M) (w : Int32) : StepI kX6_told kX7_told [.int w] M := by
  obtain ⟨⟨hR, R, C, cc, t, T, P, D, L, g⟩, -⟩ := id hI
  obtain ⟨⟨⟨r1, r2⟩, ⟨c1, c2⟩, hcc, htt⟩, ⟨⟨t1, t2⟩, ⟨p1, p2⟩, hD, hL⟩, ⟨n0, n1, n2, n3, n4, n5, n8, n10⟩, hF, hSt, hs, hw, hraw, hgr, hpk, hcon, htr⟩ := id g
  have e30 : M.1 3 0 = nI R := (hR.lo (k := 0) (by omega)).trans n0
  have e31 : M.1 3 1 = nI C := (hR.lo (k := 1) (by omega)).trans n1
  have e81 : M.1 8 1 = nI cc := (hR.lo (k := 8) (by omega)).trans n8
  have e105 : M.1 10 5 = nI t := (hR.lo (k := 10) (by omega)).trans n10
  by_cases hw : 0 ≤ w ∧ w ≤ 16
  · obtain ⟨k, -, hk, rfl⟩ := in_nI (a := 0) (b := 16) (by omega) (by omega) hw.1 hw.2
    refine combN hI qX6_told qX7_told (M.1 52 k) (fun Q h => ?_) (fun M1 Q hM h => ?_)
    · have e := hR.lo (k := k) (by omega)
      rw [← e] at h
      simp only [eX6_told_0, eX6_told_1, eX6_told_84, eX6_told_85, eX6_told_88, eX6_told_91, eX6_told_94, eX6_told_95, eX6_told_96, eX6_told_99, eX6_told_102, eX6_told_105, eX6_told_106, eX6_told_107, eX6_told_110, eX6_told_113, eX6_told_114, eX6_told_115, eX6_told_116, eX6_told_117, eX6_told_120, eX6_told_123, eX6_told_124, eX6_told_125, eX6_told_126, eX6_told_127, eX6_told_130, eX6_told_133, eX6_told_134, eX6_told_135, eX6_told_136, eX6_told_137, eX6_told_140, eX6_told_143, eX6_told_144, eX6_told_145, eX6_told_146, eX6_told_147, eX6_told_150, eX6_told_153, eX6_told_154, eX6_told_155, eX6_told_158, eX6_told_161, eX6_told_162, eX6_told_163, eX6_told_166, eX6_told_169, eX6_told_172, eX6_told_173, eX6_told_174, eX6_told_177, eX6_told_180, eX6_told_183, eX6_told_184, eX6_told_185, eX6_told_188, eX6_told_191, eX6_told_194, eX6_told_195, eX6_told_196, eX6_told_199, eX6_told_202, eX6_told_205, eX6_told_206, eX6_told_207, eX6_told_210, eX6_told_213, eX6_told_216, eX6_told_217, eX6_told_218, eX6_told_221, eX6_told_224, eX6_told_227, eX6_told_228, eX6_told_229, eX6_told_232, eX6_told_235, eX6_told_238, eX6_told_239, eX6_told_240, eX6_told_243, eX6_told_246, eX6_told_249, eX6_told_250, eX6_told_251, eX6_told_254, eX6_told_257, eX6_told_260, eX6_told_261, eX6_told_263, eX6_told_in, v4_0, v4_1, v4_2, v4_3, tn_0, tn_1, tn_2, tn_3, true_and]
      rcases (show k = 0 ∨ k = 1 ∨ k = 2 ∨ k = 3 ∨ k = 4 ∨ k = 5 ∨ k = 6 ∨ k = 7 ∨ k = 8 ∨ k = 9 ∨ k = 10 ∨ k = 11 ∨ k = 12 ∨ k = 13 ∨ k = 14 ∨ k = 15 ∨ k = 16 by omega) with rfl | rfl | rfl | rfl | rfl | rfl | rfl | rfl | rfl | rfl | rfl | rfl | rfl | rfl | rfl | rfl | rfl
      · exact br_t rfl h
      · refine br_f (by decide) ?_
        exact br_t rfl h
      · refine br_f (by decide) ?_
        refine br_f (by decide) ?_
        exact br_t rfl h
      · refine br_f (by decide) ?_
        refine br_f (by decide) ?_
        refine br_f (by decide) ?_
        exact br_t rfl h
      · refine br_f (by decide) ?_
        refine br_f (by decide) ?_
        refine br_f (by decide) ?_
        refine br_f (by decide) ?_
        exact br_t rfl h
      · refine br_f (by decide) ?_
        refine br_f (by decide) ?_
        refine br_f (by decide) ?_
        refine br_f (by decide) ?_
        refine br_f (by decide) ?_
        exact br_t rfl h
      · refine br_f (by decide) ?_
        refine br_f (by decide) ?_
        refine br_f (by decide) ?_
        refine br_f (by decide) ?_
        refine br_f (by decide) ?_
        refine br_f (by decide) ?_
        exact br_t rfl h
      · refine br_f (by decide) ?_
        refine br_f (by decide) ?_
        refine br_f (by decide) ?_
        refine br_f (by decide) ?_
        refine br_f (by decide) ?_
        refine br_f (by decide) ?_
        refine br_f (by decide) ?_
        exact br_t rfl h
      · refine br_f (by decide) ?_
        refine br_f (by decide) ?_
        refine br_f (by decide) ?_
        refine br_f (by decide) ?_
        refine br_f (by decide) ?_
        refine br_f (by decide) ?_
        refine br_f (by decide) ?_
        refine br_f (by decide) ?_
        exact br_t rfl h
      · refine br_f (by decide) ?_
        refine br_f (by decide) ?_
        refine br_f (by decide) ?_
        refine br_f (by decide) ?_
        refine br_f (by decide) ?_
        refine br_f (by decide) ?_
        refine br_f (by decide) ?_
        refine br_f (by decide) ?_
        refine br_f (by decide) ?_
        exact br_t rfl h
      · refine br_f (by decide) ?_
        refine br_f (by decide) ?_
        refine br_f (by decide) ?_
        refine br_f (by decide) ?_
        refine br_f (by decide) ?_
        refine br_f (by decide) ?_
        refine br_f (by decide) ?_
        refine br_f (by decide) ?_
        refine br_f (by decide) ?_
        refine br_f (by decide) ?_
        exact br_t rfl h
      · refine br_f (by decide) ?_
        refine br_f (by decide) ?_
        refine br_f (by decide) ?_
        refine br_f (by decide) ?_
        refine br_f (by decide) ?_
        refine br_f (by decide) ?_
        refine br_f (by decide) ?_
        refine br_f (by decide) ?_
        refine br_f (by decide) ?_
        refine br_f (by decide) ?_
        refine br_f (by decide) ?_
        exact br_t rfl h
      · refine br_f (by decide) ?_
        refine br_f (by decide) ?_
        refine br_f (by decide) ?_
        refine br_f (by decide) ?_
        refine br_f (by decide) ?_
        refine br_f (by decide) ?_
        refine br_f (by decide) ?_
        refine br_f (by decide) ?_
        refine br_f (by decide) ?_
        refine br_f (by decide) ?_
        refine br_f (by decide) ?_
        refine br_f (by decide) ?_
        exact br_t rfl h
      · refine br_f (by decide) ?_
        refine br_f (by decide) ?_
        refine br_f (by decide) ?_
        refine br_f (by decide) ?_
        refine br_f (by decide) ?_
        refine br_f (by decide) ?_
        refine br_f (by decide) ?_
        refine br_f (by decide) ?_
        refine br_f (by decide) ?_
        refine br_f (by decide) ?_
        refine br_f (by decide) ?_
        refine br_f (by decide) ?_
        refine br_f (by decide) ?_
        exact br_t rfl h
      · refine br_f (by decide) ?_
        refine br_f (by decide) ?_
        refine br_f (by decide) ?_
        refine br_f (by decide) ?_
        refine br_f (by decide) ?_
        refine br_f (by decide) ?_
        refine br_f (by decide) ?_
        refine br_f (by decide) ?_
        refine br_f (by decide) ?_
        refine br_f (by decide) ?_
        refine br_f (by decide) ?_
        refine br_f (by decide) ?_
        refine br_f (by decide) ?_
        refine br_f (by decide) ?_
        exact br_t rfl h
      · refine br_f (by decide) ?_
        refine br_f (by decide) ?_
        refine br_f (by decide) ?_
        refine br_f (by decide) ?_
        refine br_f (by decide) ?_
        refine br_f (by decide) ?_
        refine br_f (by decide) ?_
        refine br_f (by decide) ?_
        refine br_f (by decide) ?_
        refine br_f (by decide) ?_
        refine br_f (by decide) ?_
        refine br_f (by decide) ?_
        refine br_f (by decide) ?_
        refine br_f (by decide) ?_
        refine br_f (by decide) ?_
        exact br_t rfl h
      · refine br_f (by decide) ?_
        refine br_f (by decide) ?_
        refine br_f (by decide) ?_
        refine br_f (by decide) ?_
        refine br_f (by decide) ?_
        refine br_f (by decide) ?_
        refine br_f (by decide) ?_
        refine br_f (by decide) ?_
        refine br_f (by decide) ?_
        refine br_f (by decide) ?_
        refine br_f (by decide) ?_
        refine br_f (by decide) ?_
        refine br_f (by decide) ?_
        refine br_f (by decide) ?_
        refine br_f (by decide) ?_
        refine br_f (by decide) ?_
        exact br_t rfl h
    · simp only [eX7_told_0, eX7_told_1, eX7_told_2, eX7_told_4, eX7_told_7, eX7_told_10, eX7_told_11, eX7_told_14, eX7_told_15, eX7_told_16, eX7_told_19, eX7_told_21, eX7_told_in, q_in, hw, hM, nI_clamp (show k < 2 ^ 31 by omega), vpn (show k < 316 by omega) (by decide : 316 < 2147483648), Option.toList_some, Option.toList_none, List.cons_append, List.nil_append, b2_0, Classical.not_not, false_implies, true_implies, implies_true, true_and, and_true, not_true_eq_false, not_false_eq_true]
      exact h
  · refine combN hI qX6_told qX7_told (-1000000002) (fun Q h => ?_) (fun M1 Q hM h => ?_)
    · simp only [eX6_told_0, eX6_told_1, eX6_told_84, eX6_told_85, eX6_told_88, eX6_told_91, eX6_told_94, eX6_told_95, eX6_told_96, eX6_told_99, eX6_told_102, eX6_told_105, eX6_told_106, eX6_told_107, eX6_told_110, eX6_told_113, eX6_told_114, eX6_told_115, eX6_told_116, eX6_told_117, eX6_told_120, eX6_told_123, eX6_told_124, eX6_told_125, eX6_told_126, eX6_told_127, eX6_told_130, eX6_told_133, eX6_told_134, eX6_told_135, eX6_told_136, eX6_told_137, eX6_told_140, eX6_told_143, eX6_told_144, eX6_told_145, eX6_told_146, eX6_told_147, eX6_told_150, eX6_told_153, eX6_told_154, eX6_told_155, eX6_told_158, eX6_told_161, eX6_told_162, eX6_told_163, eX6_told_166, eX6_told_169, eX6_told_172, eX6_told_173, eX6_told_174, eX6_told_177, eX6_told_180, eX6_told_183, eX6_told_184, eX6_told_185, eX6_told_188, eX6_told_191, eX6_told_194, eX6_told_195, eX6_told_196, eX6_told_199, eX6_told_202, eX6_told_205, eX6_told_206, eX6_told_207, eX6_told_210, eX6_told_213, eX6_told_216, eX6_told_217, eX6_told_218, eX6_told_221, eX6_told_224, eX6_told_227, eX6_told_228, eX6_told_229, eX6_told_232, eX6_told_235, eX6_told_238, eX6_told_239, eX6_told_240, eX6_told_243, eX6_told_246, eX6_told_249, eX6_told_250, eX6_told_251, eX6_told_254, eX6_told_257, eX6_told_260, eX6_told_261, eX6_told_263, eX6_told_in, v4_0, v4_1, v4_2, v4_3, tn_0, tn_1, tn_2, tn_3, true_and]
      refine br_f (fun z => hw (by rw [z]; decide)) ?_
      refine br_f (fun z => hw (by rw [z]; decide)) ?_
      refine br_f (fun z => hw (by rw [z]; decide)) ?_
      refine br_f (fun z => hw (by rw [z]; decide)) ?_
      refine br_f (fun z => hw (by rw [z]; decide)) ?_
      refine br_f (fun z => hw (by rw [z]; decide)) ?_
      refine br_f (fun z => hw (by rw [z]; decide)) ?_
      refine br_f (fun z => hw (by rw [z]; decide)) ?_
      refine br_f (fun z => hw (by rw [z]; decide)) ?_
      refine br_f (fun z => hw (by rw [z]; decide)) ?_
      refine br_f (fun z => hw (by rw [z]; decide)) ?_
      refine br_f (fun z => hw (by rw [z]; decide)) ?_
      refine br_f (fun z => hw (by rw [z]; decide)) ?_
      refine br_f (fun z => hw (by rw [z]; decide)) ?_
      refine br_f (fun z => hw (by rw [z]; decide)) ?_
      refine br_f (fun z => hw (by rw [z]; decide)) ?_
      refine br_f (fun z => hw (by rw [z]; decide)) ?_
      exact h
    · simp only [eX7_told_0, eX7_told_1, eX7_told_2, eX7_told_4, eX7_told_7, eX7_told_10, eX7_told_11, eX7_told_14, eX7_told_15, eX7_told_16, eX7_told_19, eX7_told_21, eX7_told_in, q_in, hw, Option.toList_some, Option.toList_none, List.cons_append, List.nil_append, b2_0, Classical.not_not, false_implies, true_implies, implies_true, true_and, and_true, not_true_eq_false, not_false_eq_true]
      exact h
theorem a18 (k : Nat) : (18 : Int32) + nI k = nI (18 + k) := nI_add 18 k
theorem a82 (k : Nat) : (82 : Int32) + nI k = nI (82 + k) := nI_add 82 k
theorem a146 (k : Nat) : (146 : Int32) + nI k = nI (146 + k) := nI_add 146 k
theorem a210 (k : Nat) : (210 : Int32) + nI k = nI (210 + k) := nI_add 210 k
theorem a274 (k : Nat) : (274 : Int32) + nI k = nI (274 + k) := nI_add 274 k
theorem a280 (k : Nat) : (280 : Int32) + nI k = nI (280 + k) := nI_add 280 k
theorem a2 (k : Nat) : (2 : Int32) + nI k = nI (2 + k) := nI_add 2 k
theorem m6 (k : Nat) : (6 : Int32) * nI k = nI (6 * k) := pk_mul 6 k
theorem step_rule {M : Mm} (hI : Inv M) (a b c d : Int32) : StepI kX6_rule kX7_rule [.int a, .int b, .int c, .int d] M := by
  by_cases hk : (0 ≤ a ∧ a ≤ 5) ∧ (0 ≤ b ∧ b ≤ 6) ∧ (0 ≤ c ∧ c ≤ 99) ∧ (0 ≤ d ∧ d ≤ 99)
  · obtain ⟨ha, hb, hc, hd⟩ := hk
    obtain ⟨n, -, hn, rfl⟩ := in_nI (a := 0) (b := 6) (by omega) (by omega) hb.1 hb.2
    refine combN hI qX6_rule qX7_rule (ruN a n c d) (fun Q h => ?_) (fun M1 Q hM h => ?_)
    · simp only [eX6_rule_0, eX6_rule_1, eX6_rule_2, eX6_rule_3, eX6_rule_6, eX6_rule_9, eX6_rule_10, eX6_rule_11, eX6_rule_13, eX6_rule_16, eX6_rule_19, eX6_rule_20, eX6_rule_21, eX6_rule_23, eX6_rule_26, eX6_rule_29, eX6_rule_31, eX6_rule_32, eX6_rule_34, eX6_rule_37, eX6_rule_40, eX6_rule_41, eX6_rule_44, eX6_rule_45, eX6_rule_47, eX6_rule_49, eX6_rule_52, eX6_rule_53, eX6_rule_54, eX6_rule_55, eX6_rule_57, eX6_rule_60, eX6_rule_63, eX6_rule_65, eX6_rule_in, q_within, ha, hb, hc, hd, Option.toList_some, Option.toList_none, List.cons_append, List.nil_append, b2_0, Classical.not_not, false_implies, true_implies, implies_true, true_and, and_true, not_true_eq_false, not_false_eq_true]
      refine ⟨fun z => absurd z (by decide), fun _ => q_stateAfter (n := n) (by omega) ?_⟩
      simp only [eX6_rule_0, eX6_rule_1, eX6_rule_2, eX6_rule_3, eX6_rule_6, eX6_rule_9, eX6_rule_10, eX6_rule_11, eX6_rule_13, eX6_rule_16, eX6_rule_19, eX6_rule_20, eX6_rule_21, eX6_rule_23, eX6_rule_26, eX6_rule_29, eX6_rule_31, eX6_rule_32, eX6_rule_34, eX6_rule_37, eX6_rule_40, eX6_rule_41, eX6_rule_44, eX6_rule_45, eX6_rule_47, eX6_rule_49, eX6_rule_52, eX6_rule_53, eX6_rule_54, eX6_rule_55, eX6_rule_57, eX6_rule_60, eX6_rule_63, eX6_rule_65, eX6_rule_in, Option.toList_some, Option.toList_none, List.cons_append, List.nil_append, b2_0, Classical.not_not, false_implies, true_implies, implies_true, true_and, and_true, not_true_eq_false, not_false_eq_true]
      exact h
    · simp only [eX7_rule_0, eX7_rule_1, eX7_rule_2, eX7_rule_3, eX7_rule_6, eX7_rule_9, eX7_rule_10, eX7_rule_11, eX7_rule_13, eX7_rule_16, eX7_rule_19, eX7_rule_20, eX7_rule_21, eX7_rule_23, eX7_rule_26, eX7_rule_29, eX7_rule_31, eX7_rule_32, eX7_rule_34, eX7_rule_37, eX7_rule_40, eX7_rule_41, eX7_rule_42, eX7_rule_43, eX7_rule_45, eX7_rule_48, eX7_rule_51, eX7_rule_53, eX7_rule_in, q_in, ha, hb, hc, hd, Option.toList_some, Option.toList_none, List.cons_append, List.nil_append, b2_0, Classical.not_not, false_implies, true_implies, implies_true, true_and, and_true, not_true_eq_false, not_false_eq_true]
      refine q_ruled (n := n) (by omega) ?_
      simp only [eX7_rule_0, eX7_rule_1, eX7_rule_2, eX7_rule_3, eX7_rule_6, eX7_rule_9, eX7_rule_10, eX7_rule_11, eX7_rule_13, eX7_rule_16, eX7_rule_19, eX7_rule_20, eX7_rule_21, eX7_rule_23, eX7_rule_26, eX7_rule_29, eX7_rule_31, eX7_rule_32, eX7_rule_34, eX7_rule_37, eX7_rule_40, eX7_rule_41, eX7_rule_42, eX7_rule_43, eX7_rule_45, eX7_rule_48, eX7_rule_51, eX7_rule_53, eX7_rule_in, Option.toList_some, Option.toList_none, List.cons_append, List.nil_append, b2_0, Classical.not_not, false_implies, true_implies, implies_true, true_and, and_true, not_true_eq_false, not_false_eq_true]
      exact h
  · refine combN hI qX6_rule qX7_rule (-1000000002) (fun Q h => ?_) (fun M1 Q hM h => ?_)
    · simp only [eX6_rule_0, eX6_rule_1, eX6_rule_2, eX6_rule_3, eX6_rule_6, eX6_rule_9, eX6_rule_10, eX6_rule_11, eX6_rule_13, eX6_rule_16, eX6_rule_19, eX6_rule_20, eX6_rule_21, eX6_rule_23, eX6_rule_26, eX6_rule_29, eX6_rule_31, eX6_rule_32, eX6_rule_34, eX6_rule_37, eX6_rule_40, eX6_rule_41, eX6_rule_44, eX6_rule_45, eX6_rule_47, eX6_rule_49, eX6_rule_52, eX6_rule_53, eX6_rule_54, eX6_rule_55, eX6_rule_57, eX6_rule_60, eX6_rule_63, eX6_rule_65, eX6_rule_in, q_within, Option.toList_some, Option.toList_none, List.cons_append, List.nil_append, b2_0, Classical.not_not, false_implies, true_implies, implies_true, true_and, and_true, not_true_eq_false, not_false_eq_true]
      exact ⟨fun _ => h, fun ha => ⟨fun _ => h, fun hb => ⟨fun _ => h, fun hc => ⟨fun _ => h, fun hd => absurd ⟨ha, hb, hc, hd⟩ hk⟩⟩⟩⟩
    · simp only [eX7_rule_0, eX7_rule_1, eX7_rule_2, eX7_rule_3, eX7_rule_6, eX7_rule_9, eX7_rule_10, eX7_rule_11, eX7_rule_13, eX7_rule_16, eX7_rule_19, eX7_rule_20, eX7_rule_21, eX7_rule_23, eX7_rule_26, eX7_rule_29, eX7_rule_31, eX7_rule_32, eX7_rule_34, eX7_rule_37, eX7_rule_40, eX7_rule_41, eX7_rule_42, eX7_rule_43, eX7_rule_45, eX7_rule_48, eX7_rule_51, eX7_rule_53, eX7_rule_in, q_in, Option.toList_some, Option.toList_none, List.cons_append, List.nil_append, b2_0, Classical.not_not, false_implies, true_implies, implies_true, true_and, and_true, not_true_eq_false, not_false_eq_true]
      exact ⟨fun _ => h, fun ha => ⟨fun _ => h, fun hb => ⟨fun _ => h, fun hc => ⟨fun _ => h, fun hd => absurd ⟨ha, hb, hc, hd⟩ hk⟩⟩⟩⟩
theorem step_cell {M : Mm} (hI : Inv M) (r c w : Int32) : StepI kX6_cell kX7_cell [.int r, .int c, .int w] M := by
  obtain ⟨⟨hR, R, C, cc, t, T, P, D, L, g⟩, -⟩ := id hI
  obtain ⟨⟨⟨r1, r2⟩, ⟨c1, c2⟩, hcc, htt⟩, ⟨⟨t1, t2⟩, ⟨p1, p2⟩, hD, hL⟩, ⟨n0, n1, n2, n3, n4, n5, n8, n10⟩, hF, hSt, hs, hw, hraw, hgr, hpk, hcon, htr⟩ := id g
  have e30 : M.1 3 0 = nI R := (hR.lo (k := 0) (by omega)).trans n0
  have e31 : M.1 3 1 = nI C := (hR.lo (k := 1) (by omega)).trans n1
  have e81 : M.1 8 1 = nI cc := (hR.lo (k := 8) (by omega)).trans n8
  have e105 : M.1 10 5 = nI t := (hR.lo (k := 10) (by omega)).trans n10
  rcases cellCase (by omega) (by omega) r2 c2 r c with ⟨h1, h2⟩ | ⟨r', c', hr, hc, rfl, rfl, h1, h2⟩
  · refine combN hI qX6_cell qX7_cell (-1000000001) (fun Q h => ?_) (fun M1 Q hM h => ?_)
    · simp only [eX6_cell_0, eX6_cell_1, eX6_cell_4, eX6_cell_7, eX6_cell_8, eX6_cell_9, eX6_cell_12, eX6_cell_15, eX6_cell_17, eX6_cell_18, eX6_cell_19, eX6_cell_22, eX6_cell_25, eX6_cell_26, eX6_cell_27, eX6_cell_30, eX6_cell_32, eX6_cell_33, eX6_cell_68, eX6_cell_69, eX6_cell_72, eX6_cell_75, eX6_cell_78, eX6_cell_80, eX6_cell_81, eX6_cell_82, eX6_cell_83, eX6_cell_86, eX6_cell_89, eX6_cell_92, eX6_cell_94, eX6_cell_95, eX6_cell_96, eX6_cell_97, eX6_cell_100, eX6_cell_103, eX6_cell_106, eX6_cell_108, eX6_cell_109, eX6_cell_110, eX6_cell_111, eX6_cell_114, eX6_cell_117, eX6_cell_119, eX6_cell_122, eX6_cell_125, eX6_cell_126, eX6_cell_129, eX6_cell_130, eX6_cell_131, eX6_cell_132, eX6_cell_135, eX6_cell_138, eX6_cell_141, eX6_cell_143, eX6_cell_144, eX6_cell_145, eX6_cell_147, eX6_cell_in, q_has, e30, e31, h1, Option.toList_some, Option.toList_none, List.cons_append, List.nil_append, b2_0, Classical.not_not, false_implies, true_implies, implies_true, true_and, and_true, not_true_eq_false, not_false_eq_true]
      exact h
    · simp only [eX7_cell_0, eX7_cell_1, eX7_cell_2, eX7_cell_3, eX7_cell_6, eX7_cell_9, eX7_cell_11, eX7_cell_14, eX7_cell_15, eX7_cell_16, eX7_cell_17, eX7_cell_20, eX7_cell_23, eX7_cell_24, eX7_cell_25, eX7_cell_26, eX7_cell_27, eX7_cell_30, eX7_cell_31, eX7_cell_34, eX7_cell_37, eX7_cell_39, eX7_cell_in, q_isCell, hM, n0, n1, h2, Option.toList_some, Option.toList_none, List.cons_append, List.nil_append, b2_0, Classical.not_not, false_implies, true_implies, implies_true, true_and, and_true, not_true_eq_false, not_false_eq_true]
      exact h
  · have hi := idx_lt hr hc
    have hrc := rc_le r2 c2
    have hix : nI r' * nI C + nI c' = nI (r' * C + c') := by rw [pk_mul, nI_add]
    have hix2 : nI C * nI r' + nI c' = nI (r' * C + c') := by rw [pk_mul, nI_add, Nat.mul_comm]
    generalize r' * C + c' = i at *
    have i64 : i < 64 := by omega
    have hcl : (nI i).toNatClampNeg = i := nI_clamp (by omega)
    have k1 : M.1 4 i = M.1 52 (18 + i) := hR.raw (by omega)
    have k2 : M.1 5 i = M.1 52 (82 + i) := hR.ground (by omega)
    have k3 : M.1 6 i = M.1 52 (146 + i) := hR.signal (by omega)
    have k4 : M.1 7 i = M.1 52 (210 + i) := hR.peak (by omega)
    have f1 : (nI (18 + i)).toNatClampNeg = 18 + i := nI_clamp (by omega)
    have f2 : (nI (82 + i)).toNatClampNeg = 82 + i := nI_clamp (by omega)
    have f3 : (nI (146 + i)).toNatClampNeg = 146 + i := nI_clamp (by omega)
    have f4 : (nI (210 + i)).toNatClampNeg = 210 + i := nI_clamp (by omega)
    by_cases hw : 0 ≤ w ∧ w ≤ 4
    · obtain ⟨k, -, hk, rfl⟩ := in_nI (a := 0) (b := 4) (by omega) (by omega) hw.1 hw.2
      refine combN hI qX6_cell qX7_cell (if k = 3 then b2 (¬ M.1 52 (210 + i) = -1) else M.1 52 ((if k = 4 then 210 else 18 + 64 * k) + i)) (fun Q h => ?_) (fun M1 Q hM h => ?_)
      · simp only [eX6_cell_0, eX6_cell_1, eX6_cell_4, eX6_cell_7, eX6_cell_8, eX6_cell_9, eX6_cell_12, eX6_cell_15, eX6_cell_17, eX6_cell_18, eX6_cell_19, eX6_cell_22, eX6_cell_25, eX6_cell_26, eX6_cell_27, eX6_cell_30, eX6_cell_32, eX6_cell_33, eX6_cell_68, eX6_cell_69, eX6_cell_72, eX6_cell_75, eX6_cell_78, eX6_cell_80, eX6_cell_81, eX6_cell_82, eX6_cell_83, eX6_cell_86, eX6_cell_89, eX6_cell_92, eX6_cell_94, eX6_cell_95, eX6_cell_96, eX6_cell_97, eX6_cell_100, eX6_cell_103, eX6_cell_106, eX6_cell_108, eX6_cell_109, eX6_cell_110, eX6_cell_111, eX6_cell_114, eX6_cell_117, eX6_cell_119, eX6_cell_122, eX6_cell_125, eX6_cell_126, eX6_cell_129, eX6_cell_130, eX6_cell_131, eX6_cell_132, eX6_cell_135, eX6_cell_138, eX6_cell_141, eX6_cell_143, eX6_cell_144, eX6_cell_145, eX6_cell_147, eX6_cell_in, q_has, q_at, q_isTouched, e30, e31, h1, hix, hcl, k1, k2, k3, k4, vpn i64 (by decide : 64 < 2147483648), Option.toList_some, Option.toList_none, List.cons_append, List.nil_append, b2_0, Classical.not_not, false_implies, true_implies, implies_true, true_and, and_true, not_true_eq_false, not_false_eq_true]
        rcases (show k = 0 ∨ k = 1 ∨ k = 2 ∨ k = 3 ∨ k = 4 by omega) with rfl | rfl | rfl | rfl | rfl
        · exact br_t rfl h
        · refine br_f (by decide) (br_t rfl h)
        · refine br_f (by decide) (br_f (by decide) (br_t rfl h))
        · refine br_f (by decide) (br_f (by decide) (br_f (by decide) (br_t rfl ⟨fun z => ?_, fun z => ?_⟩)))
          · rw [if_pos rfl, b2f (by simp [z])] at h; exact h
          · rw [if_pos rfl, b2t z] at h; exact h
        · refine br_f (by decide) (br_f (by decide) (br_f (by decide) (br_f (by decide) (br_t rfl h))))
      · simp only [eX7_cell_0, eX7_cell_1, eX7_cell_2, eX7_cell_3, eX7_cell_6, eX7_cell_9, eX7_cell_11, eX7_cell_14, eX7_cell_15, eX7_cell_16, eX7_cell_17, eX7_cell_20, eX7_cell_23, eX7_cell_24, eX7_cell_25, eX7_cell_26, eX7_cell_27, eX7_cell_30, eX7_cell_31, eX7_cell_34, eX7_cell_37, eX7_cell_39, eX7_cell_in, eX7_cellTells_0, eX7_cellTells_1, eX7_cellTells_32, eX7_cellTells_33, eX7_cellTells_36, eX7_cellTells_38, eX7_cellTells_39, eX7_cellTells_40, eX7_cellTells_41, eX7_cellTells_42, eX7_cellTells_43, eX7_cellTells_46, eX7_cellTells_48, eX7_cellTells_49, eX7_cellTells_50, eX7_cellTells_51, eX7_cellTells_52, eX7_cellTells_53, eX7_cellTells_56, eX7_cellTells_59, eX7_cellTells_60, eX7_cellTells_61, eX7_cellTells_62, eX7_cellTells_63, eX7_cellTells_64, eX7_cellTells_67, eX7_cellTells_70, eX7_cellTells_71, eX7_cellTells_72, eX7_cellTells_73, eX7_cellTells_74, eX7_cellTells_77, eX7_cellTells_78, eX7_cellTells_81, eX7_cellTells_82, eX7_cellTells_83, eX7_cellTells_84, eX7_cellTells_87, eX7_cellTells_90, eX7_cellTells_91, eX7_cellTells_92, eX7_cellTells_93, eX7_cellTells_in, q_isCell, q_in, q_cellAt, hM, n0, n1, h2, hw, hix2, a18, a82, a146, a210, f1, f2, f3, f4, vpn (show 18 + i < 316 by omega) (by decide : 316 < 2147483648), vpn (show 82 + i < 316 by omega) (by decide : 316 < 2147483648), vpn (show 146 + i < 316 by omega) (by decide : 316 < 2147483648), vpn (show 210 + i < 316 by omega) (by decide : 316 < 2147483648), Option.toList_some, Option.toList_none, List.cons_append, List.nil_append, b2_0, Classical.not_not, false_implies, true_implies, implies_true, true_and, and_true, not_true_eq_false, not_false_eq_true]
        rcases (show k = 0 ∨ k = 1 ∨ k = 2 ∨ k = 3 ∨ k = 4 by omega) with rfl | rfl | rfl | rfl | rfl
        · exact br_t rfl h
        · refine br_f (by decide) (br_t rfl h)
        · refine br_f (by decide) (br_f (by decide) (br_t rfl h))
        · refine br_f (by decide) (br_f (by decide) (br_f (by decide) (br_t rfl ⟨fun z => ?_, fun z => ?_⟩)))
          · rw [if_pos rfl, b2t z] at h; exact h
          · rw [if_pos rfl, b2f (by simp [z])] at h; exact h
        · refine br_f (by decide) (br_f (by decide) (br_f (by decide) (br_f (by decide) h)))
    · refine combN hI qX6_cell qX7_cell (-1000000002) (fun Q h => ?_) (fun M1 Q hM h => ?_)
      · simp only [eX6_cell_0, eX6_cell_1, eX6_cell_4, eX6_cell_7, eX6_cell_8, eX6_cell_9, eX6_cell_12, eX6_cell_15, eX6_cell_17, eX6_cell_18, eX6_cell_19, eX6_cell_22, eX6_cell_25, eX6_cell_26, eX6_cell_27, eX6_cell_30, eX6_cell_32, eX6_cell_33, eX6_cell_68, eX6_cell_69, eX6_cell_72, eX6_cell_75, eX6_cell_78, eX6_cell_80, eX6_cell_81, eX6_cell_82, eX6_cell_83, eX6_cell_86, eX6_cell_89, eX6_cell_92, eX6_cell_94, eX6_cell_95, eX6_cell_96, eX6_cell_97, eX6_cell_100, eX6_cell_103, eX6_cell_106, eX6_cell_108, eX6_cell_109, eX6_cell_110, eX6_cell_111, eX6_cell_114, eX6_cell_117, eX6_cell_119, eX6_cell_122, eX6_cell_125, eX6_cell_126, eX6_cell_129, eX6_cell_130, eX6_cell_131, eX6_cell_132, eX6_cell_135, eX6_cell_138, eX6_cell_141, eX6_cell_143, eX6_cell_144, eX6_cell_145, eX6_cell_147, eX6_cell_in, q_has, q_at, q_isTouched, e30, e31, h1, hix, hcl, k1, k2, k3, k4, vpn i64 (by decide : 64 < 2147483648), Option.toList_some, Option.toList_none, List.cons_append, List.nil_append, b2_0, Classical.not_not, false_implies, true_implies, implies_true, true_and, and_true, not_true_eq_false, not_false_eq_true]
        exact br_f (fun z => hw (by rw [z]; decide)) (br_f (fun z => hw (by rw [z]; decide)) (br_f (fun z => hw (by rw [z]; decide)) (br_f (fun z => hw (by rw [z]; decide)) (br_f (fun z => hw (by rw [z]; decide)) h))))
      · simp only [eX7_cell_0, eX7_cell_1, eX7_cell_2, eX7_cell_3, eX7_cell_6, eX7_cell_9, eX7_cell_11, eX7_cell_14, eX7_cell_15, eX7_cell_16, eX7_cell_17, eX7_cell_20, eX7_cell_23, eX7_cell_24, eX7_cell_25, eX7_cell_26, eX7_cell_27, eX7_cell_30, eX7_cell_31, eX7_cell_34, eX7_cell_37, eX7_cell_39, eX7_cell_in, q_isCell, q_in, q_cellAt, hM, n0, n1, h2, hw, hix2, Option.toList_some, Option.toList_none, List.cons_append, List.nil_append, b2_0, Classical.not_not, false_implies, true_implies, implies_true, true_and, and_true, not_true_eq_false, not_false_eq_true]
        exact h
theorem natCase {c : Nat} (hc : c ≤ 6) (k : Int32) : (¬ (0 ≤ k ∧ k ≤ nI c - 1)) ∨ ∃ k' : Nat, k' < c ∧ k = nI k' ∧ (0 ≤ k ∧ k ≤ nI c - 1) := by
  by_cases h : 0 ≤ k ∧ k ≤ nI c - 1
  · rcases Nat.eq_zero_or_pos c with rfl | hp
    · exact Or.inl (fun z => by
        have h1 : k ≤ -1 := z.2
        have := Int32.le_iff_toInt_le.mp (Int32.le_trans z.1 h1)
        exact absurd this (by decide))
    · have h2 := h.2
      rw [nI_p1 hp] at h2
      obtain ⟨j, -, hj, rfl⟩ := in_nI (a := 0) (by omega) (by omega) h.1 h2
      exact Or.inr ⟨j, by omega, rfl, h⟩
  · exact Or.inl h
theorem q_thas {Q : Qt} {M : Mm} {k : Int32} : kX5_has [.ref 10, .int k] M Q ↔ Q (some (.int (b2 (0 ≤ k ∧ k ≤ M.1 10 5 - 1)))) M := by
  simp only [eX5_has_0, eX5_has_1, eX5_has_2, eX5_has_3, eX5_has_6, eX5_has_7, eX5_has_8, eX5_has_11, eX5_has_in, q_within, Option.toList_some, List.cons_append, List.nil_append, b2_or, true_and]
theorem step_track {M : Mm} (hI : Inv M) (k w : Int32) : StepI kX6_track kX7_track [.int k, .int w] M := by
  obtain ⟨⟨hR, R, C, cc, t, T, P, D, L, g⟩, -⟩ := id hI
  obtain ⟨⟨⟨r1, r2⟩, ⟨c1, c2⟩, hcc, htt⟩, ⟨⟨t1, t2⟩, ⟨p1, p2⟩, hD, hL⟩, ⟨n0, n1, n2, n3, n4, n5, n8, n10⟩, hF, hSt, hs, hw, hraw, hgr, hpk, hcon, htr⟩ := id g
  have e30 : M.1 3 0 = nI R := (hR.lo (k := 0) (by omega)).trans n0
  have e31 : M.1 3 1 = nI C := (hR.lo (k := 1) (by omega)).trans n1
  have e81 : M.1 8 1 = nI cc := (hR.lo (k := 8) (by omega)).trans n8
  have e105 : M.1 10 5 = nI t := (hR.lo (k := 10) (by omega)).trans n10
  rcases natCase htt k with h1 | ⟨k', hk, rfl, h1⟩
  · refine combN hI qX6_track qX7_track (-1000000001) (fun Q h => ?_) (fun M1 Q hM h => ?_)
    · simp only [eX6_track_0, eX6_track_1, eX6_track_4, eX6_track_7, eX6_track_8, eX6_track_11, eX6_track_14, eX6_track_16, eX6_track_17, eX6_track_18, eX6_track_52, eX6_track_53, eX6_track_56, eX6_track_59, eX6_track_62, eX6_track_63, eX6_track_64, eX6_track_65, eX6_track_66, eX6_track_69, eX6_track_72, eX6_track_75, eX6_track_76, eX6_track_77, eX6_track_78, eX6_track_79, eX6_track_82, eX6_track_85, eX6_track_88, eX6_track_89, eX6_track_90, eX6_track_91, eX6_track_92, eX6_track_95, eX6_track_98, eX6_track_101, eX6_track_102, eX6_track_103, eX6_track_104, eX6_track_105, eX6_track_108, eX6_track_111, eX6_track_114, eX6_track_115, eX6_track_116, eX6_track_117, eX6_track_119, eX6_track_in, q_thas, e105, h1, Option.toList_some, Option.toList_none, List.cons_append, List.nil_append, b2_0, Classical.not_not, false_implies, true_implies, implies_true, true_and, and_true, not_true_eq_false, not_false_eq_true]
      exact h
    · simp only [eX7_track_0, eX7_track_1, eX7_track_2, eX7_track_3, eX7_track_6, eX7_track_8, eX7_track_9, eX7_track_10, eX7_track_11, eX7_track_14, eX7_track_17, eX7_track_19, eX7_track_22, eX7_track_23, eX7_track_24, eX7_track_25, eX7_track_28, eX7_track_31, eX7_track_32, eX7_track_33, eX7_track_34, eX7_track_37, eX7_track_40, eX7_track_42, eX7_track_in, q_in, hM, v10, tn_10, n10, h1, Option.toList_some, Option.toList_none, List.cons_append, List.nil_append, b2_0, Classical.not_not, false_implies, true_implies, implies_true, true_and, and_true, not_true_eq_false, not_false_eq_true]
      exact h
  · have hcl : (nI k').toNatClampNeg = k' := nI_clamp (by omega)
    have hvp : vp_in (nI k') 6 := vpn (by omega) (by decide)
    by_cases hw : 0 ≤ w ∧ w ≤ 4
    · obtain ⟨j, -, hj, rfl⟩ := in_nI (a := 0) (b := 4) (by omega) (by omega) hw.1 hw.2
      refine combN hI qX6_track qX7_track (M.1 52 (280 + 6 * k' + j)) (fun Q h => ?_) (fun M1 Q hM h => ?_)
      · have e := hR.trk (j := k') (w := j) hk (by omega) htt n10
        rw [← e] at h
        simp only [eX6_track_0, eX6_track_1, eX6_track_4, eX6_track_7, eX6_track_8, eX6_track_11, eX6_track_14, eX6_track_16, eX6_track_17, eX6_track_18, eX6_track_52, eX6_track_53, eX6_track_56, eX6_track_59, eX6_track_62, eX6_track_63, eX6_track_64, eX6_track_65, eX6_track_66, eX6_track_69, eX6_track_72, eX6_track_75, eX6_track_76, eX6_track_77, eX6_track_78, eX6_track_79, eX6_track_82, eX6_track_85, eX6_track_88, eX6_track_89, eX6_track_90, eX6_track_91, eX6_track_92, eX6_track_95, eX6_track_98, eX6_track_101, eX6_track_102, eX6_track_103, eX6_track_104, eX6_track_105, eX6_track_108, eX6_track_111, eX6_track_114, eX6_track_115, eX6_track_116, eX6_track_117, eX6_track_119, eX6_track_in, q_thas, e105, h1, hcl, hvp, Option.toList_some, Option.toList_none, List.cons_append, List.nil_append, b2_0, Classical.not_not, false_implies, true_implies, implies_true, true_and, and_true, not_true_eq_false, not_false_eq_true]
        rcases (show j = 0 ∨ j = 1 ∨ j = 2 ∨ j = 3 ∨ j = 4 by omega) with rfl | rfl | rfl | rfl | rfl
        · exact br_t rfl h
        · refine br_f (by decide) (br_t rfl h)
        · refine br_f (by decide) (br_f (by decide) (br_t rfl h))
        · refine br_f (by decide) (br_f (by decide) (br_f (by decide) (br_t rfl h)))
        · refine br_f (by decide) (br_f (by decide) (br_f (by decide) (br_f (by decide) (br_t rfl h))))
      · simp only [eX7_track_0, eX7_track_1, eX7_track_2, eX7_track_3, eX7_track_6, eX7_track_8, eX7_track_9, eX7_track_10, eX7_track_11, eX7_track_14, eX7_track_17, eX7_track_19, eX7_track_22, eX7_track_23, eX7_track_24, eX7_track_25, eX7_track_28, eX7_track_31, eX7_track_32, eX7_track_33, eX7_track_34, eX7_track_37, eX7_track_40, eX7_track_42, eX7_track_in, q_in, q_trackAt, hM, v10, tn_10, n10, h1, hw, m6, a280, nI_add, nI_clamp (show 280 + 6 * k' + j < 2 ^ 31 by omega), vpn (show 280 + 6 * k' + j < 316 by omega) (by decide : 316 < 2147483648), Option.toList_some, Option.toList_none, List.cons_append, List.nil_append, b2_0, Classical.not_not, false_implies, true_implies, implies_true, true_and, and_true, not_true_eq_false, not_false_eq_true]
        exact h
    · refine combN hI qX6_track qX7_track (-1000000002) (fun Q h => ?_) (fun M1 Q hM h => ?_)
      · simp only [eX6_track_0, eX6_track_1, eX6_track_4, eX6_track_7, eX6_track_8, eX6_track_11, eX6_track_14, eX6_track_16, eX6_track_17, eX6_track_18, eX6_track_52, eX6_track_53, eX6_track_56, eX6_track_59, eX6_track_62, eX6_track_63, eX6_track_64, eX6_track_65, eX6_track_66, eX6_track_69, eX6_track_72, eX6_track_75, eX6_track_76, eX6_track_77, eX6_track_78, eX6_track_79, eX6_track_82, eX6_track_85, eX6_track_88, eX6_track_89, eX6_track_90, eX6_track_91, eX6_track_92, eX6_track_95, eX6_track_98, eX6_track_101, eX6_track_102, eX6_track_103, eX6_track_104, eX6_track_105, eX6_track_108, eX6_track_111, eX6_track_114, eX6_track_115, eX6_track_116, eX6_track_117, eX6_track_119, eX6_track_in, q_thas, e105, h1, hcl, hvp, Option.toList_some, Option.toList_none, List.cons_append, List.nil_append, b2_0, Classical.not_not, false_implies, true_implies, implies_true, true_and, and_true, not_true_eq_false, not_false_eq_true]
        exact br_f (fun z => hw (by rw [z]; decide)) (br_f (fun z => hw (by rw [z]; decide)) (br_f (fun z => hw (by rw [z]; decide)) (br_f (fun z => hw (by rw [z]; decide)) (br_f (fun z => hw (by rw [z]; decide)) h))))
      · simp only [eX7_track_0, eX7_track_1, eX7_track_2, eX7_track_3, eX7_track_6, eX7_track_8, eX7_track_9, eX7_track_10, eX7_track_11, eX7_track_14, eX7_track_17, eX7_track_19, eX7_track_22, eX7_track_23, eX7_track_24, eX7_track_25, eX7_track_28, eX7_track_31, eX7_track_32, eX7_track_33, eX7_track_34, eX7_track_37, eX7_track_40, eX7_track_42, eX7_track_in, q_in, hM, v10, tn_10, n10, h1, hw, Option.toList_some, Option.toList_none, List.cons_append, List.nil_append, b2_0, Classical.not_not, false_implies, true_implies, implies_true, true_and, and_true, not_true_eq_false, not_false_eq_true]
        exact h
