/-! digest -/
theorem c_told {Q : Qt} {M : Mm} {N : Nat → Int32} (hR : Re M.1 1 N) {k : Nat} (hk : k ≤ 16) (h : Q (some (.int (N k))) M) : kX6_told [.ref 0, .int (nI k)] M Q := by
  have e := hR.lo (k := k) (by omega)
  rw [← e] at h
  simp only [eX6_told_0, eX6_told_1, eX6_told_84, eX6_told_85, eX6_told_88, eX6_told_91, eX6_told_94, eX6_told_95, eX6_told_96, eX6_told_99, eX6_told_102, eX6_told_105, eX6_told_106, eX6_told_107, eX6_told_110, eX6_told_113, eX6_told_114, eX6_told_115, eX6_told_116, eX6_told_117, eX6_told_120, eX6_told_123, eX6_told_124, eX6_told_125, eX6_told_126, eX6_told_127, eX6_told_130, eX6_told_133, eX6_told_134, eX6_told_135, eX6_told_136, eX6_told_137, eX6_told_140, eX6_told_143, eX6_told_144, eX6_told_145, eX6_told_146, eX6_told_147, eX6_told_150, eX6_told_153, eX6_told_154, eX6_told_155, eX6_told_158, eX6_told_161, eX6_told_162, eX6_told_163, eX6_told_166, eX6_told_169, eX6_told_172, eX6_told_173, eX6_told_174, eX6_told_177, eX6_told_180, eX6_told_183, eX6_told_184, eX6_told_185, eX6_told_188, eX6_told_191, eX6_told_194, eX6_told_195, eX6_told_196, eX6_told_199, eX6_told_202, eX6_told_205, eX6_told_206, eX6_told_207, eX6_told_210, eX6_told_213, eX6_told_216, eX6_told_217, eX6_told_218, eX6_told_221, eX6_told_224, eX6_told_227, eX6_told_228, eX6_told_229, eX6_told_232, eX6_told_235, eX6_told_238, eX6_told_239, eX6_told_240, eX6_told_243, eX6_told_246, eX6_told_249, eX6_told_250, eX6_told_251, eX6_told_254, eX6_told_257, eX6_told_260, eX6_told_261, eX6_told_263, eX6_told_in, v4_0, v4_1, v4_2, v4_3, tn_0, tn_1, tn_2, tn_3, true_and]
  rcases (show k = 0 ∨ k = 1 ∨ k = 2 ∨ k = 3 ∨ k = 4 ∨ k = 5 ∨ k = 6 ∨ k = 7 ∨ k = 8 ∨ k = 9 ∨ k = 10 ∨ k = 11 ∨ k = 12 ∨ k = 13 ∨ k = 14 ∨ k = 15 ∨ k = 16 by omega) with rfl | rfl | rfl | rfl | rfl | rfl | rfl | rfl | rfl | rfl | rfl | rfl | rfl | rfl | rfl | rfl | rfl
  · exact br_t rfl h
  · refine br_f (by decide) ?_
    exact br_t rfl h
  · refine br_f (by decide) ?_
    refine br_f (by decide) ?_
    exact br_t rfl h
  · refine br_f (by decide) ?_
    refine br_f (by decide) ?_
    refine br_f (by decide) ?_
    exact br_t rfl h
  · refine br_f (by decide) ?_
    refine br_f (by decide) ?_
    refine br_f (by decide) ?_
    refine br_f (by decide) ?_
    exact br_t rfl h
  · refine br_f (by decide) ?_
    refine br_f (by decide) ?_
    refine br_f (by decide) ?_
    refine br_f (by decide) ?_
    refine br_f (by decide) ?_
    exact br_t rfl h
  · refine br_f (by decide) ?_
    refine br_f (by decide) ?_
    refine br_f (by decide) ?_
    refine br_f (by decide) ?_
    refine br_f (by decide) ?_
    refine br_f (by decide) ?_
    exact br_t rfl h
  · refine br_f (by decide) ?_
    refine br_f (by decide) ?_
    refine br_f (by decide) ?_
    refine br_f (by decide) ?_
    refine br_f (by decide) ?_
    refine br_f (by decide) ?_
    refine br_f (by decide) ?_
    exact br_t rfl h
  · refine br_f (by decide) ?_
    refine br_f (by decide) ?_
    refine br_f (by decide) ?_
    refine br_f (by decide) ?_
    refine br_f (by decide) ?_
    refine br_f (by decide) ?_
    refine br_f (by decide) ?_
    refine br_f (by decide) ?_
    exact br_t rfl h
  · refine br_f (by decide) ?_
    refine br_f (by decide) ?_
    refine br_f (by decide) ?_
    refine br_f (by decide) ?_
    refine br_f (by decide) ?_
    refine br_f (by decide) ?_
    refine br_f (by decide) ?_
    refine br_f (by decide) ?_
    refine br_f (by decide) ?_
    exact br_t rfl h
  · refine br_f (by decide) ?_
    refine br_f (by decide) ?_
    refine br_f (by decide) ?_
    refine br_f (by decide) ?_
    refine br_f (by decide) ?_
    refine br_f (by decide) ?_
    refine br_f (by decide) ?_
    refine br_f (by decide) ?_
    refine br_f (by decide) ?_
    refine br_f (by decide) ?_
    exact br_t rfl h
  · refine br_f (by decide) ?_
    refine br_f (by decide) ?_
    refine br_f (by decide) ?_
    refine br_f (by decide) ?_
    refine br_f (by decide) ?_
    refine br_f (by decide) ?_
    refine br_f (by decide) ?_
    refine br_f (by decide) ?_
    refine br_f (by decide) ?_
    refine br_f (by decide) ?_
    refine br_f (by decide) ?_
    exact br_t rfl h
  · refine br_f (by decide) ?_
    refine br_f (by decide) ?_
    refine br_f (by decide) ?_
    refine br_f (by decide) ?_
    refine br_f (by decide) ?_
    refine br_f (by decide) ?_
    refine br_f (by decide) ?_
    refine br_f (by decide) ?_
    refine br_f (by decide) ?_
    refine br_f (by decide) ?_
    refine br_f (by decide) ?_
    refine br_f (by decide) ?_
    exact br_t rfl h
  · refine br_f (by decide) ?_
    refine br_f (by decide) ?_
    refine br_f (by decide) ?_
    refine br_f (by decide) ?_
    refine br_f (by decide) ?_
    refine br_f (by decide) ?_
    refine br_f (by decide) ?_
    refine br_f (by decide) ?_
    refine br_f (by decide) ?_
    refine br_f (by decide) ?_
    refine br_f (by decide) ?_
    refine br_f (by decide) ?_
    refine br_f (by decide) ?_
    exact br_t rfl h
  · refine br_f (by decide) ?_
    refine br_f (by decide) ?_
    refine br_f (by decide) ?_
    refine br_f (by decide) ?_
    refine br_f (by decide) ?_
    refine br_f (by decide) ?_
    refine br_f (by decide) ?_
    refine br_f (by decide) ?_
    refine br_f (by decide) ?_
    refine br_f (by decide) ?_
    refine br_f (by decide) ?_
    refine br_f (by decide) ?_
    refine br_f (by decide) ?_
    refine br_f (by decide) ?_
    exact br_t rfl h
  · refine br_f (by decide) ?_
    refine br_f (by decide) ?_
    refine br_f (by decide) ?_
    refine br_f (by decide) ?_
    refine br_f (by decide) ?_
    refine br_f (by decide) ?_
    refine br_f (by decide) ?_
    refine br_f (by decide) ?_
    refine br_f (by decide) ?_
    refine br_f (by decide) ?_
    refine br_f (by decide) ?_
    refine br_f (by decide) ?_
    refine br_f (by decide) ?_
    refine br_f (by decide) ?_
    refine br_f (by decide) ?_
    exact br_t rfl h
  · refine br_f (by decide) ?_
    refine br_f (by decide) ?_
    refine br_f (by decide) ?_
    refine br_f (by decide) ?_
    refine br_f (by decide) ?_
    refine br_f (by decide) ?_
    refine br_f (by decide) ?_
    refine br_f (by decide) ?_
    refine br_f (by decide) ?_
    refine br_f (by decide) ?_
    refine br_f (by decide) ?_
    refine br_f (by decide) ?_
    refine br_f (by decide) ?_
    refine br_f (by decide) ?_
    refine br_f (by decide) ?_
    refine br_f (by decide) ?_
    exact br_t rfl h
noncomputable def celN (N : Nat → Int32) (i k : Nat) : Int32 := if k = 3 then b2 (¬ N (210 + i) = -1) else N ((if k = 4 then 210 else 18 + 64 * k) + i)
theorem c_cell {Q : Qt} {M : Mm} {N : Nat → Int32} {R C c t T P D L : Nat} (hR : Re M.1 1 N) (g : Gd N R C c t T P D L) {r' c' k : Nat} (hr : r' < R) (hc : c' < C) (hk : k ≤ 4) (h : Q (some (.int (celN N (r' * C + c') k))) M) : kX6_cell [.ref 0, .int (nI r'), .int (nI c'), .int (nI k)] M Q := by
  obtain ⟨⟨⟨r1, r2⟩, ⟨c1, c2⟩, hcc, htt⟩, -, ⟨n0, n1, n2, n3, n4, n5, n8, n10⟩, -⟩ := id g
  have e30 : M.1 3 0 = nI R := (hR.lo (k := 0) (by omega)).trans n0
  have e31 : M.1 3 1 = nI C := (hR.lo (k := 1) (by omega)).trans n1
  have h1 : 0 ≤ nI r' ∧ nI r' < nI R ∧ 0 ≤ nI c' ∧ nI c' < nI C := ⟨nI0le _ (by omega), nI_lt hr (by omega), nI0le _ (by omega), nI_lt hc (by omega)⟩
  have hi := idx_lt hr hc
  have hrc := rc_le r2 c2
  have hix : nI r' * nI C + nI c' = nI (r' * C + c') := by rw [pk_mul, nI_add]
  generalize r' * C + c' = i at *
  have i64 : i < 64 := by omega
  have hcl : (nI i).toNatClampNeg = i := nI_clamp (by omega)
  have k1 : M.1 4 i = N (18 + i) := hR.raw (by omega)
  have k2 : M.1 5 i = N (82 + i) := hR.ground (by omega)
  have k3 : M.1 6 i = N (146 + i) := hR.signal (by omega)
  have k4 : M.1 7 i = N (210 + i) := hR.peak (by omega)
  simp only [eX6_cell_0, eX6_cell_1, eX6_cell_4, eX6_cell_7, eX6_cell_8, eX6_cell_9, eX6_cell_12, eX6_cell_15, eX6_cell_17, eX6_cell_18, eX6_cell_19, eX6_cell_22, eX6_cell_25, eX6_cell_26, eX6_cell_27, eX6_cell_30, eX6_cell_32, eX6_cell_33, eX6_cell_68, eX6_cell_69, eX6_cell_72, eX6_cell_75, eX6_cell_78, eX6_cell_80, eX6_cell_81, eX6_cell_82, eX6_cell_83, eX6_cell_86, eX6_cell_89, eX6_cell_92, eX6_cell_94, eX6_cell_95, eX6_cell_96, eX6_cell_97, eX6_cell_100, eX6_cell_103, eX6_cell_106, eX6_cell_108, eX6_cell_109, eX6_cell_110, eX6_cell_111, eX6_cell_114, eX6_cell_117, eX6_cell_119, eX6_cell_122, eX6_cell_125, eX6_cell_126, eX6_cell_129, eX6_cell_130, eX6_cell_131, eX6_cell_132, eX6_cell_135, eX6_cell_138, eX6_cell_141, eX6_cell_143, eX6_cell_144, eX6_cell_145, eX6_cell_147, eX6_cell_in, q_has, q_at, q_isTouched, e30, e31, h1, hix, hcl, k1, k2, k3, k4, vpn i64 (by decide : 64 < 2147483648), Option.toList_some, Option.toList_none, List.cons_append, List.nil_append, b2_0, Classical.not_not, false_implies, true_implies, implies_true, true_and, and_true, not_true_eq_false, not_false_eq_true]
  rcases (show k = 0 ∨ k = 1 ∨ k = 2 ∨ k = 3 ∨ k = 4 by omega) with rfl | rfl | rfl | rfl | rfl
  · exact br_t rfl h
  · refine br_f (by decide) (br_t rfl h)
  · refine br_f (by decide) (br_f (by decide) (br_t rfl h))
  · refine br_f (by decide) (br_f (by decide) (br_f (by decide) (br_t rfl ⟨fun z => ?_, fun z => ?_⟩)))
    · unfold celN at h
      rw [if_pos rfl, b2f (by simp [z])] at h
      exact h
    · unfold celN at h
      rw [if_pos rfl, b2t z] at h
      exact h
  · refine br_f (by decide) (br_f (by decide) (br_f (by decide) (br_f (by decide) (br_t rfl h))))
theorem m_cellTells {Q : Qt} {M : Mm} {i k : Nat} (hi : i < 64) (hk : k ≤ 4) (h : Q (some (.int (celN (M.1 52) i k))) M) : kX7_cellTells [.ref 51, .int (nI i), .int (nI k)] M Q := by
  have f1 : (nI (18 + i)).toNatClampNeg = 18 + i := nI_clamp (by omega)
  have f2 : (nI (82 + i)).toNatClampNeg = 82 + i := nI_clamp (by omega)
  have f3 : (nI (146 + i)).toNatClampNeg = 146 + i := nI_clamp (by omega)
  have f4 : (nI (210 + i)).toNatClampNeg = 210 + i := nI_clamp (by omega)
  simp only [eX7_cellTells_0, eX7_cellTells_1, eX7_cellTells_32, eX7_cellTells_33, eX7_cellTells_36, eX7_cellTells_38, eX7_cellTells_39, eX7_cellTells_40, eX7_cellTells_41, eX7_cellTells_42, eX7_cellTells_43, eX7_cellTells_46, eX7_cellTells_48, eX7_cellTells_49, eX7_cellTells_50, eX7_cellTells_51, eX7_cellTells_52, eX7_cellTells_53, eX7_cellTells_56, eX7_cellTells_59, eX7_cellTells_60, eX7_cellTells_61, eX7_cellTells_62, eX7_cellTells_63, eX7_cellTells_64, eX7_cellTells_67, eX7_cellTells_70, eX7_cellTells_71, eX7_cellTells_72, eX7_cellTells_73, eX7_cellTells_74, eX7_cellTells_77, eX7_cellTells_78, eX7_cellTells_81, eX7_cellTells_82, eX7_cellTells_83, eX7_cellTells_84, eX7_cellTells_87, eX7_cellTells_90, eX7_cellTells_91, eX7_cellTells_92, eX7_cellTells_93, eX7_cellTells_in, a18, a82, a146, a210, f1, f2, f3, f4, vpn (show 18 + i < 316 by omega) (by decide : 316 < 2147483648), vpn (show 82 + i < 316 by omega) (by decide : 316 < 2147483648), vpn (show 146 + i < 316 by omega) (by decide : 316 < 2147483648), vpn (show 210 + i < 316 by omega) (by decide : 316 < 2147483648), Option.toList_some, Option.toList_none, List.cons_append, List.nil_append, b2_0, Classical.not_not, false_implies, true_implies, implies_true, true_and, and_true, not_true_eq_false, not_false_eq_true]
  rcases (show k = 0 ∨ k = 1 ∨ k = 2 ∨ k = 3 ∨ k = 4 by omega) with rfl | rfl | rfl | rfl | rfl
  · exact br_t rfl h
  · refine br_f (by decide) (br_t rfl h)
  · refine br_f (by decide) (br_f (by decide) (br_t rfl h))
  · refine br_f (by decide) (br_f (by decide) (br_f (by decide) (br_t rfl ⟨fun z => ?_, fun z => ?_⟩)))
    · unfold celN at h
      rw [if_pos rfl, b2t z] at h
      exact h
    · unfold celN at h
      rw [if_pos rfl, b2f (by simp [z])] at h
      exact h
  · refine br_f (by decide) (br_f (by decide) (br_f (by decide) (br_f (by decide) h)))
theorem c_track {Q : Qt} {M : Mm} {N : Nat → Int32} {R C c t T P D L : Nat} (hR : Re M.1 1 N) (g : Gd N R C c t T P D L) {k j : Nat} (hk : k < t) (hj : j ≤ 4) (h : Q (some (.int (N (280 + 6 * k + j)))) M) : kX6_track [.ref 0, .int (nI k), .int (nI j)] M Q := by
  obtain ⟨⟨⟨r1, r2⟩, ⟨c1, c2⟩, hcc, htt⟩, -, ⟨n0, n1, n2, n3, n4, n5, n8, n10⟩, -⟩ := id g
  have e105 : M.1 10 5 = nI t := (hR.lo (k := 10) (by omega)).trans n10
  have h1 : 0 ≤ nI k ∧ nI k ≤ nI t - 1 := ⟨nI0le _ (by omega), by rw [nI_p1 (by omega)]; exact nI_le (by omega) (by omega)⟩
  have hcl : (nI k).toNatClampNeg = k := nI_clamp (by omega)
  have hvp : vp_in (nI k) 6 := vpn (by omega) (by decide)
  have e := hR.trk (j := k) (w := j) hk (by omega) htt n10
  rw [← e] at h
  simp only [eX6_track_0, eX6_track_1, eX6_track_4, eX6_track_7, eX6_track_8, eX6_track_11, eX6_track_14, eX6_track_16, eX6_track_17, eX6_track_18, eX6_track_52, eX6_track_53, eX6_track_56, eX6_track_59, eX6_track_62, eX6_track_63, eX6_track_64, eX6_track_65, eX6_track_66, eX6_track_69, eX6_track_72, eX6_track_75, eX6_track_76, eX6_track_77, eX6_track_78, eX6_track_79, eX6_track_82, eX6_track_85, eX6_track_88, eX6_track_89, eX6_track_90, eX6_track_91, eX6_track_92, eX6_track_95, eX6_track_98, eX6_track_101, eX6_track_102, eX6_track_103, eX6_track_104, eX6_track_105, eX6_track_108, eX6_track_111, eX6_track_114, eX6_track_115, eX6_track_116, eX6_track_117, eX6_track_119, eX6_track_in, q_thas, e105, h1, hcl, hvp, Option.toList_some, Option.toList_none, List.cons_append, List.nil_append, b2_0, Classical.not_not, false_implies, true_implies, implies_true, true_and, and_true, not_true_eq_false, not_false_eq_true]
  rcases (show j = 0 ∨ j = 1 ∨ j = 2 ∨ j = 3 ∨ j = 4 by omega) with rfl | rfl | rfl | rfl | rfl
  · exact br_t rfl h
  · refine br_f (by decide) (br_t rfl h)
  · refine br_f (by decide) (br_f (by decide) (br_t rfl h))
  · refine br_f (by decide) (br_f (by decide) (br_f (by decide) (br_t rfl h)))
  · refine br_f (by decide) (br_f (by decide) (br_f (by decide) (br_f (by decide) (br_t rfl h))))
def dw (f : Nat → Int32) (h : Int64) : Nat → Int64
  | 0 => h
  | w + 1 => 31 * dw f h w + (f w).toInt64
def dq (f : Nat → Nat → Int32) (h : Int64) : Nat → Int64
  | 0 => h
  | i + 1 => dw (f i) (dq f h i) 5
theorem c_digestCells {Q : Qt} {M : Mm} {N : Nat → Int32} {R C c t T P D L : Nat} (hR : Re M.1 1 N) (g : Gd N R C c t T P D L) {h : Int64} (hQ : Q (some (.long (dq (celN N) h (R * C)))) M) : kX6_digestCells [.ref 0, .long h] M Q := by
  obtain ⟨⟨⟨r1, r2⟩, ⟨c1, c2⟩, hcc, htt⟩, -, ⟨n0, n1, n2, n3, n4, n5, n8, n10⟩, -⟩ := id g
  have e30 : M.1 3 0 = nI R := (hR.lo (k := 0) (by omega)).trans n0
  have e31 : M.1 3 1 = nI C := (hR.lo (k := 1) (by omega)).trans n1
  have lw : ∀ r' c', r' < R → c' < C → (∀ l7 : Value, V pgX6_digestCells Q 23 [.ref 0, .long h, .null, .long (dq (celN N) h (r' * C + (c' + 1))), .null, .int (nI r'), .int (nI (c' + 1)), l7] [] M) → ∀ d w, w + d = 5 → V pgX6_digestCells Q 41 [.ref 0, .long h, .null, .long (dw (celN N (r' * C + c')) (dq (celN N) h (r' * C + c')) w), .null, .int (nI r'), .int (nI c'), .int (nI w)] [] M := by
    intro r' c' hr hc next d
    induction d with
    | zero =>
      intro w hw
      have : w = 5 := by omega
      subst this
      have q : (4 : Int32) < nI 5 := by decide
      rw [eX6_digestCells_41]
      simp only [eX6_digestCells_0, eX6_digestCells_1, eX6_digestCells_2, eX6_digestCells_3, eX6_digestCells_7, eX6_digestCells_8, eX6_digestCells_11, eX6_digestCells_14, eX6_digestCells_17, eX6_digestCells_20, eX6_digestCells_21, eX6_digestCells_25, eX6_digestCells_26, eX6_digestCells_29, eX6_digestCells_32, eX6_digestCells_35, eX6_digestCells_38, eX6_digestCells_39, eX6_digestCells_43, eX6_digestCells_44, eX6_digestCells_47, eX6_digestCells_50, eX6_digestCells_51, eX6_digestCells_52, eX6_digestCells_53, eX6_digestCells_55, eX6_digestCells_57, eX6_digestCells_59, eX6_digestCells_62, eX6_digestCells_63, eX6_digestCells_64, eX6_digestCells_65, eX6_digestCells_68, eX6_digestCells_71, eX6_digestCells_74, eX6_digestCells_77, eX6_digestCells_80, eX6_digestCells_83, eX6_digestCells_84, eX6_digestCells_in, q, nI_1, Option.toList_some, Option.toList_none, List.cons_append, List.nil_append, b2_0, Classical.not_not, false_implies, true_implies, implies_true, true_and, and_true, not_true_eq_false, not_false_eq_true]
      exact next _
    | succ d ih =>
      intro w hw
      have q : ¬ ((4 : Int32) < nI w) := nI_nlt (b := w) (a := 4) (by omega) (by omega)
      rw [eX6_digestCells_41]
      simp only [eX6_digestCells_0, eX6_digestCells_1, eX6_digestCells_2, eX6_digestCells_3, eX6_digestCells_7, eX6_digestCells_8, eX6_digestCells_11, eX6_digestCells_14, eX6_digestCells_17, eX6_digestCells_20, eX6_digestCells_21, eX6_digestCells_25, eX6_digestCells_26, eX6_digestCells_29, eX6_digestCells_32, eX6_digestCells_35, eX6_digestCells_38, eX6_digestCells_39, eX6_digestCells_43, eX6_digestCells_44, eX6_digestCells_47, eX6_digestCells_50, eX6_digestCells_51, eX6_digestCells_52, eX6_digestCells_53, eX6_digestCells_55, eX6_digestCells_57, eX6_digestCells_59, eX6_digestCells_62, eX6_digestCells_63, eX6_digestCells_64, eX6_digestCells_65, eX6_digestCells_68, eX6_digestCells_71, eX6_digestCells_74, eX6_digestCells_77, eX6_digestCells_80, eX6_digestCells_83, eX6_digestCells_84, eX6_digestCells_in, q, Option.toList_some, Option.toList_none, List.cons_append, List.nil_append, b2_0, Classical.not_not, false_implies, true_implies, implies_true, true_and, and_true, not_true_eq_false, not_false_eq_true]
      refine c_cell hR g hr hc (by omega) ?_
      simp only [eX6_digestCells_0, eX6_digestCells_1, eX6_digestCells_2, eX6_digestCells_3, eX6_digestCells_7, eX6_digestCells_8, eX6_digestCells_11, eX6_digestCells_14, eX6_digestCells_17, eX6_digestCells_20, eX6_digestCells_21, eX6_digestCells_25, eX6_digestCells_26, eX6_digestCells_29, eX6_digestCells_32, eX6_digestCells_35, eX6_digestCells_38, eX6_digestCells_39, eX6_digestCells_43, eX6_digestCells_44, eX6_digestCells_47, eX6_digestCells_50, eX6_digestCells_51, eX6_digestCells_52, eX6_digestCells_53, eX6_digestCells_55, eX6_digestCells_57, eX6_digestCells_59, eX6_digestCells_62, eX6_digestCells_63, eX6_digestCells_64, eX6_digestCells_65, eX6_digestCells_68, eX6_digestCells_71, eX6_digestCells_74, eX6_digestCells_77, eX6_digestCells_80, eX6_digestCells_83, eX6_digestCells_84, eX6_digestCells_in, nI_1, Option.toList_some, Option.toList_none, List.cons_append, List.nil_append, b2_0, Classical.not_not, false_implies, true_implies, implies_true, true_and, and_true, not_true_eq_false, not_false_eq_true]
      exact ih (w + 1) (by omega)
  have lc : ∀ r', r' < R → (∀ l6 l7 : Value, V pgX6_digestCells Q 5 [.ref 0, .long h, .null, .long (dq (celN N) h ((r' + 1) * C)), .null, .int (nI (r' + 1)), l6, l7] [] M) → ∀ d c' (l7 : Value), c' + d = C → V pgX6_digestCells Q 23 [.ref 0, .long h, .null, .long (dq (celN N) h (r' * C + c')), .null, .int (nI r'), .int (nI c'), l7] [] M := by
    intro r' hr next d
    induction d with
    | zero =>
      intro c' l7 hc
      have : c' = C := by omega
      subst this
      have e : r' * c' + c' = (r' + 1) * c' := by rw [Nat.add_mul, Nat.one_mul]
      rw [eX6_digestCells_23]
      simp only [eX6_digestCells_0, eX6_digestCells_1, eX6_digestCells_2, eX6_digestCells_3, eX6_digestCells_7, eX6_digestCells_8, eX6_digestCells_11, eX6_digestCells_14, eX6_digestCells_17, eX6_digestCells_20, eX6_digestCells_21, eX6_digestCells_25, eX6_digestCells_26, eX6_digestCells_29, eX6_digestCells_32, eX6_digestCells_35, eX6_digestCells_38, eX6_digestCells_39, eX6_digestCells_43, eX6_digestCells_44, eX6_digestCells_47, eX6_digestCells_50, eX6_digestCells_51, eX6_digestCells_52, eX6_digestCells_53, eX6_digestCells_55, eX6_digestCells_57, eX6_digestCells_59, eX6_digestCells_62, eX6_digestCells_63, eX6_digestCells_64, eX6_digestCells_65, eX6_digestCells_68, eX6_digestCells_71, eX6_digestCells_74, eX6_digestCells_77, eX6_digestCells_80, eX6_digestCells_83, eX6_digestCells_84, eX6_digestCells_in, e31, Int32.le_refl, nI_1, e, Option.toList_some, Option.toList_none, List.cons_append, List.nil_append, b2_0, Classical.not_not, false_implies, true_implies, implies_true, true_and, and_true, not_true_eq_false, not_false_eq_true]
      exact next _ _
    | succ d ih =>
      intro c' l7 hc
      rw [eX6_digestCells_23]
      simp only [eX6_digestCells_0, eX6_digestCells_1, eX6_digestCells_2, eX6_digestCells_3, eX6_digestCells_7, eX6_digestCells_8, eX6_digestCells_11, eX6_digestCells_14, eX6_digestCells_17, eX6_digestCells_20, eX6_digestCells_21, eX6_digestCells_25, eX6_digestCells_26, eX6_digestCells_29, eX6_digestCells_32, eX6_digestCells_35, eX6_digestCells_38, eX6_digestCells_39, eX6_digestCells_43, eX6_digestCells_44, eX6_digestCells_47, eX6_digestCells_50, eX6_digestCells_51, eX6_digestCells_52, eX6_digestCells_53, eX6_digestCells_55, eX6_digestCells_57, eX6_digestCells_59, eX6_digestCells_62, eX6_digestCells_63, eX6_digestCells_64, eX6_digestCells_65, eX6_digestCells_68, eX6_digestCells_71, eX6_digestCells_74, eX6_digestCells_77, eX6_digestCells_80, eX6_digestCells_83, eX6_digestCells_84, eX6_digestCells_in, e31, nI_ge (show c' < C by omega) (show C < 2 ^ 31 by omega), Option.toList_some, Option.toList_none, List.cons_append, List.nil_append, b2_0, Classical.not_not, false_implies, true_implies, implies_true, true_and, and_true, not_true_eq_false, not_false_eq_true]
      exact lw r' c' hr (by omega) (fun l7 => ih (c' + 1) l7 (by omega)) 5 0 (by omega)
  have lr : ∀ d r' (l6 l7 : Value), r' + d = R → V pgX6_digestCells Q 5 [.ref 0, .long h, .null, .long (dq (celN N) h (r' * C)), .null, .int (nI r'), l6, l7] [] M := by
    intro d
    induction d with
    | zero =>
      intro r' l6 l7 hr
      have : r' = R := by omega
      subst this
      rw [eX6_digestCells_5]
      simp only [eX6_digestCells_0, eX6_digestCells_1, eX6_digestCells_2, eX6_digestCells_3, eX6_digestCells_7, eX6_digestCells_8, eX6_digestCells_11, eX6_digestCells_14, eX6_digestCells_17, eX6_digestCells_20, eX6_digestCells_21, eX6_digestCells_25, eX6_digestCells_26, eX6_digestCells_29, eX6_digestCells_32, eX6_digestCells_35, eX6_digestCells_38, eX6_digestCells_39, eX6_digestCells_43, eX6_digestCells_44, eX6_digestCells_47, eX6_digestCells_50, eX6_digestCells_51, eX6_digestCells_52, eX6_digestCells_53, eX6_digestCells_55, eX6_digestCells_57, eX6_digestCells_59, eX6_digestCells_62, eX6_digestCells_63, eX6_digestCells_64, eX6_digestCells_65, eX6_digestCells_68, eX6_digestCells_71, eX6_digestCells_74, eX6_digestCells_77, eX6_digestCells_80, eX6_digestCells_83, eX6_digestCells_84, eX6_digestCells_in, e30, Int32.le_refl, Option.toList_some, Option.toList_none, List.cons_append, List.nil_append, b2_0, Classical.not_not, false_implies, true_implies, implies_true, true_and, and_true, not_true_eq_false, not_false_eq_true]
      exact hQ
    | succ d ih =>
      intro r' l6 l7 hr
      rw [eX6_digestCells_5]
      simp only [eX6_digestCells_0, eX6_digestCells_1, eX6_digestCells_2, eX6_digestCells_3, eX6_digestCells_7, eX6_digestCells_8, eX6_digestCells_11, eX6_digestCells_14, eX6_digestCells_17, eX6_digestCells_20, eX6_digestCells_21, eX6_digestCells_25, eX6_digestCells_26, eX6_digestCells_29, eX6_digestCells_32, eX6_digestCells_35, eX6_digestCells_38, eX6_digestCells_39, eX6_digestCells_43, eX6_digestCells_44, eX6_digestCells_47, eX6_digestCells_50, eX6_digestCells_51, eX6_digestCells_52, eX6_digestCells_53, eX6_digestCells_55, eX6_digestCells_57, eX6_digestCells_59, eX6_digestCells_62, eX6_digestCells_63, eX6_digestCells_64, eX6_digestCells_65, eX6_digestCells_68, eX6_digestCells_71, eX6_digestCells_74, eX6_digestCells_77, eX6_digestCells_80, eX6_digestCells_83, eX6_digestCells_84, eX6_digestCells_in, e30, nI_ge (show r' < R by omega) (show R < 2 ^ 31 by omega), Option.toList_some, Option.toList_none, List.cons_append, List.nil_append, b2_0, Classical.not_not, false_implies, true_implies, implies_true, true_and, and_true, not_true_eq_false, not_false_eq_true]
      exact lc r' (by omega) (fun l6 l7 => ih (r' + 1) l6 l7 (by omega)) C 0 l7 (by omega)
  simp only [eX6_digestCells_0, eX6_digestCells_1, eX6_digestCells_2, eX6_digestCells_3, eX6_digestCells_7, eX6_digestCells_8, eX6_digestCells_11, eX6_digestCells_14, eX6_digestCells_17, eX6_digestCells_20, eX6_digestCells_21, eX6_digestCells_25, eX6_digestCells_26, eX6_digestCells_29, eX6_digestCells_32, eX6_digestCells_35, eX6_digestCells_38, eX6_digestCells_39, eX6_digestCells_43, eX6_digestCells_44, eX6_digestCells_47, eX6_digestCells_50, eX6_digestCells_51, eX6_digestCells_52, eX6_digestCells_53, eX6_digestCells_55, eX6_digestCells_57, eX6_digestCells_59, eX6_digestCells_62, eX6_digestCells_63, eX6_digestCells_64, eX6_digestCells_65, eX6_digestCells_68, eX6_digestCells_71, eX6_digestCells_74, eX6_digestCells_77, eX6_digestCells_80, eX6_digestCells_83, eX6_digestCells_84, eX6_digestCells_in, Option.toList_some, Option.toList_none, List.cons_append, List.nil_append, b2_0, Classical.not_not, false_implies, true_implies, implies_true, true_and, and_true, not_true_eq_false, not_false_eq_true]
  have := lr R 0 .null .null (by omega)
  rw [Nat.zero_mul] at this
  exact this
noncomputable def digN (N : Nat → Int32) (R C c t : Nat) : Int64 := dq (fun k j => N (280 + 6 * k + j)) (dq (conN N R C) (dq (celN N) (dw (fun i => N (6 + i)) 17 8) (R * C)) c) t
theorem c_digest {Q : Qt} {M : Mm} {N : Nat → Int32} {R C c t T P D L : Nat} (hR : Re M.1 1 N) (g : Gd N R C c t T P D L) (hQ : Q (some (.long (digN N R C c t))) M) : kX6_digest [.ref 0] M Q := by
  obtain ⟨⟨⟨r1, r2⟩, ⟨c1, c2⟩, hcc, htt⟩, -, ⟨n0, n1, n2, n3, n4, n5, n8, n10⟩, -⟩ := id g
  have e81 : M.1 8 1 = nI c := (hR.lo (k := 8) (by omega)).trans n8
  have e105 : M.1 10 5 = nI t := (hR.lo (k := 10) (by omega)).trans n10
  have w_con : ∀ h i, i < c → (∀ l4 : Value, V pgX6_digest Q 40 [.ref 0, .long (dq (conN N R C) h (i + 1)), .null, .int (nI (i + 1)), l4] [] M) → ∀ d w, w + d = 5 → V pgX6_digest Q 57 [.ref 0, .long (dw ((conN N R C) i) (dq (conN N R C) h i) w), .null, .int (nI i), .int (nI w)] [] M := by
    intro h i hi next d
    induction d with
    | zero =>
      intro w hw
      have : w = 5 := by omega
      subst this
      have q : (4 : Int32) < nI 5 := by decide
      rw [eX6_digest_57]
      simp only [eX6_digest_0, eX6_digest_3, eX6_digest_4, eX6_digest_6, eX6_digest_8, eX6_digest_10, eX6_digest_13, eX6_digest_16, eX6_digest_17, eX6_digest_18, eX6_digest_19, eX6_digest_20, eX6_digest_23, eX6_digest_24, eX6_digest_25, eX6_digest_26, eX6_digest_29, eX6_digest_32, eX6_digest_33, eX6_digest_34, eX6_digest_37, eX6_digest_38, eX6_digest_39, eX6_digest_41, eX6_digest_42, eX6_digest_45, eX6_digest_48, eX6_digest_51, eX6_digest_54, eX6_digest_55, eX6_digest_59, eX6_digest_60, eX6_digest_63, eX6_digest_66, eX6_digest_67, eX6_digest_68, eX6_digest_69, eX6_digest_70, eX6_digest_72, eX6_digest_75, eX6_digest_76, eX6_digest_77, eX6_digest_78, eX6_digest_81, eX6_digest_84, eX6_digest_87, eX6_digest_90, eX6_digest_91, eX6_digest_93, eX6_digest_94, eX6_digest_97, eX6_digest_100, eX6_digest_103, eX6_digest_106, eX6_digest_107, eX6_digest_111, eX6_digest_112, eX6_digest_115, eX6_digest_118, eX6_digest_119, eX6_digest_120, eX6_digest_121, eX6_digest_122, eX6_digest_124, eX6_digest_127, eX6_digest_128, eX6_digest_129, eX6_digest_130, eX6_digest_133, eX6_digest_136, eX6_digest_139, eX6_digest_142, eX6_digest_143, eX6_digest_in, q, nI_1, Option.toList_some, Option.toList_none, List.cons_append, List.nil_append, b2_0, Classical.not_not, false_implies, true_implies, implies_true, true_and, and_true, not_true_eq_false, not_false_eq_true]
      exact next _
    | succ d ih =>
      intro w hw
      have q : ¬ ((4 : Int32) < nI w) := nI_nlt (b := w) (a := 4) (by omega) (by omega)
      rw [eX6_digest_57]
      simp only [eX6_digest_0, eX6_digest_3, eX6_digest_4, eX6_digest_6, eX6_digest_8, eX6_digest_10, eX6_digest_13, eX6_digest_16, eX6_digest_17, eX6_digest_18, eX6_digest_19, eX6_digest_20, eX6_digest_23, eX6_digest_24, eX6_digest_25, eX6_digest_26, eX6_digest_29, eX6_digest_32, eX6_digest_33, eX6_digest_34, eX6_digest_37, eX6_digest_38, eX6_digest_39, eX6_digest_41, eX6_digest_42, eX6_digest_45, eX6_digest_48, eX6_digest_51, eX6_digest_54, eX6_digest_55, eX6_digest_59, eX6_digest_60, eX6_digest_63, eX6_digest_66, eX6_digest_67, eX6_digest_68, eX6_digest_69, eX6_digest_70, eX6_digest_72, eX6_digest_75, eX6_digest_76, eX6_digest_77, eX6_digest_78, eX6_digest_81, eX6_digest_84, eX6_digest_87, eX6_digest_90, eX6_digest_91, eX6_digest_93, eX6_digest_94, eX6_digest_97, eX6_digest_100, eX6_digest_103, eX6_digest_106, eX6_digest_107, eX6_digest_111, eX6_digest_112, eX6_digest_115, eX6_digest_118, eX6_digest_119, eX6_digest_120, eX6_digest_121, eX6_digest_122, eX6_digest_124, eX6_digest_127, eX6_digest_128, eX6_digest_129, eX6_digest_130, eX6_digest_133, eX6_digest_136, eX6_digest_139, eX6_digest_142, eX6_digest_143, eX6_digest_in, q, Option.toList_some, Option.toList_none, List.cons_append, List.nil_append, b2_0, Classical.not_not, false_implies, true_implies, implies_true, true_and, and_true, not_true_eq_false, not_false_eq_true]
      refine c_contact hR g hi (by omega) ?_
      simp only [eX6_digest_0, eX6_digest_3, eX6_digest_4, eX6_digest_6, eX6_digest_8, eX6_digest_10, eX6_digest_13, eX6_digest_16, eX6_digest_17, eX6_digest_18, eX6_digest_19, eX6_digest_20, eX6_digest_23, eX6_digest_24, eX6_digest_25, eX6_digest_26, eX6_digest_29, eX6_digest_32, eX6_digest_33, eX6_digest_34, eX6_digest_37, eX6_digest_38, eX6_digest_39, eX6_digest_41, eX6_digest_42, eX6_digest_45, eX6_digest_48, eX6_digest_51, eX6_digest_54, eX6_digest_55, eX6_digest_59, eX6_digest_60, eX6_digest_63, eX6_digest_66, eX6_digest_67, eX6_digest_68, eX6_digest_69, eX6_digest_70, eX6_digest_72, eX6_digest_75, eX6_digest_76, eX6_digest_77, eX6_digest_78, eX6_digest_81, eX6_digest_84, eX6_digest_87, eX6_digest_90, eX6_digest_91, eX6_digest_93, eX6_digest_94, eX6_digest_97, eX6_digest_100, eX6_digest_103, eX6_digest_106, eX6_digest_107, eX6_digest_111, eX6_digest_112, eX6_digest_115, eX6_digest_118, eX6_digest_119, eX6_digest_120, eX6_digest_121, eX6_digest_122, eX6_digest_124, eX6_digest_127, eX6_digest_128, eX6_digest_129, eX6_digest_130, eX6_digest_133, eX6_digest_136, eX6_digest_139, eX6_digest_142, eX6_digest_143, eX6_digest_in, nI_1, Option.toList_some, Option.toList_none, List.cons_append, List.nil_append, b2_0, Classical.not_not, false_implies, true_implies, implies_true, true_and, and_true, not_true_eq_false, not_false_eq_true]
      exact ih (w + 1) (by omega)
  have o_con : ∀ h, (∀ l4 : Value, V pgX6_digest Q 90 [.ref 0, .long (dq (conN N R C) h (c)), .null, .int (nI (c)), l4] [] M) → ∀ d i (l4 : Value), i + d = c → V pgX6_digest Q 40 [.ref 0, .long (dq (conN N R C) h i), .null, .int (nI i), l4] [] M := by
    intro h next d
    induction d with
    | zero =>
      intro i l4 hi
      have : i = c := by omega
      subst this
      rw [eX6_digest_40]
      simp only [eX6_digest_0, eX6_digest_3, eX6_digest_4, eX6_digest_6, eX6_digest_8, eX6_digest_10, eX6_digest_13, eX6_digest_16, eX6_digest_17, eX6_digest_18, eX6_digest_19, eX6_digest_20, eX6_digest_23, eX6_digest_24, eX6_digest_25, eX6_digest_26, eX6_digest_29, eX6_digest_32, eX6_digest_33, eX6_digest_34, eX6_digest_37, eX6_digest_38, eX6_digest_39, eX6_digest_41, eX6_digest_42, eX6_digest_45, eX6_digest_48, eX6_digest_51, eX6_digest_54, eX6_digest_55, eX6_digest_59, eX6_digest_60, eX6_digest_63, eX6_digest_66, eX6_digest_67, eX6_digest_68, eX6_digest_69, eX6_digest_70, eX6_digest_72, eX6_digest_75, eX6_digest_76, eX6_digest_77, eX6_digest_78, eX6_digest_81, eX6_digest_84, eX6_digest_87, eX6_digest_91, eX6_digest_93, eX6_digest_94, eX6_digest_97, eX6_digest_100, eX6_digest_103, eX6_digest_106, eX6_digest_107, eX6_digest_111, eX6_digest_112, eX6_digest_115, eX6_digest_118, eX6_digest_119, eX6_digest_120, eX6_digest_121, eX6_digest_122, eX6_digest_124, eX6_digest_127, eX6_digest_128, eX6_digest_129, eX6_digest_130, eX6_digest_133, eX6_digest_136, eX6_digest_139, eX6_digest_142, eX6_digest_143, eX6_digest_in, e81, Int32.le_refl, Option.toList_some, Option.toList_none, List.cons_append, List.nil_append, b2_0, Classical.not_not, false_implies, true_implies, implies_true, true_and, and_true, not_true_eq_false, not_false_eq_true]
      exact next _
    | succ d ih =>
      intro i l4 hi
      rw [eX6_digest_40]
      simp only [eX6_digest_0, eX6_digest_3, eX6_digest_4, eX6_digest_6, eX6_digest_8, eX6_digest_10, eX6_digest_13, eX6_digest_16, eX6_digest_17, eX6_digest_18, eX6_digest_19, eX6_digest_20, eX6_digest_23, eX6_digest_24, eX6_digest_25, eX6_digest_26, eX6_digest_29, eX6_digest_32, eX6_digest_33, eX6_digest_34, eX6_digest_37, eX6_digest_38, eX6_digest_39, eX6_digest_41, eX6_digest_42, eX6_digest_45, eX6_digest_48, eX6_digest_51, eX6_digest_54, eX6_digest_55, eX6_digest_59, eX6_digest_60, eX6_digest_63, eX6_digest_66, eX6_digest_67, eX6_digest_68, eX6_digest_69, eX6_digest_70, eX6_digest_72, eX6_digest_75, eX6_digest_76, eX6_digest_77, eX6_digest_78, eX6_digest_81, eX6_digest_84, eX6_digest_87, eX6_digest_90, eX6_digest_91, eX6_digest_93, eX6_digest_94, eX6_digest_97, eX6_digest_100, eX6_digest_103, eX6_digest_106, eX6_digest_107, eX6_digest_111, eX6_digest_112, eX6_digest_115, eX6_digest_118, eX6_digest_119, eX6_digest_120, eX6_digest_121, eX6_digest_122, eX6_digest_124, eX6_digest_127, eX6_digest_128, eX6_digest_129, eX6_digest_130, eX6_digest_133, eX6_digest_136, eX6_digest_139, eX6_digest_142, eX6_digest_143, eX6_digest_in, e81, nI_ge (show i < c by omega) (show c < 2 ^ 31 by omega), Option.toList_some, Option.toList_none, List.cons_append, List.nil_append, b2_0, Classical.not_not, false_implies, true_implies, implies_true, true_and, and_true, not_true_eq_false, not_false_eq_true]
      exact w_con h i (by omega) (fun l4 => ih (i + 1) l4 (by omega)) 5 0 (by omega)
  have w_trk : ∀ h i, i < t → (∀ l4 : Value, V pgX6_digest Q 92 [.ref 0, .long (dq (fun k j => N (280 + 6 * k + j)) h (i + 1)), .null, .int (nI (i + 1)), l4] [] M) → ∀ d w, w + d = 5 → V pgX6_digest Q 109 [.ref 0, .long (dw ((fun k j => N (280 + 6 * k + j)) i) (dq (fun k j => N (280 + 6 * k + j)) h i) w), .null, .int (nI i), .int (nI w)] [] M := by
    intro h i hi next d
    induction d with
    | zero =>
      intro w hw
      have : w = 5 := by omega
      subst this
      have q : (4 : Int32) < nI 5 := by decide
      rw [eX6_digest_109]
      simp only [eX6_digest_0, eX6_digest_3, eX6_digest_4, eX6_digest_6, eX6_digest_8, eX6_digest_10, eX6_digest_13, eX6_digest_16, eX6_digest_17, eX6_digest_18, eX6_digest_19, eX6_digest_20, eX6_digest_23, eX6_digest_24, eX6_digest_25, eX6_digest_26, eX6_digest_29, eX6_digest_32, eX6_digest_33, eX6_digest_34, eX6_digest_37, eX6_digest_38, eX6_digest_39, eX6_digest_41, eX6_digest_42, eX6_digest_45, eX6_digest_48, eX6_digest_51, eX6_digest_54, eX6_digest_55, eX6_digest_59, eX6_digest_60, eX6_digest_63, eX6_digest_66, eX6_digest_67, eX6_digest_68, eX6_digest_69, eX6_digest_70, eX6_digest_72, eX6_digest_75, eX6_digest_76, eX6_digest_77, eX6_digest_78, eX6_digest_81, eX6_digest_84, eX6_digest_87, eX6_digest_90, eX6_digest_91, eX6_digest_93, eX6_digest_94, eX6_digest_97, eX6_digest_100, eX6_digest_103, eX6_digest_106, eX6_digest_107, eX6_digest_111, eX6_digest_112, eX6_digest_115, eX6_digest_118, eX6_digest_119, eX6_digest_120, eX6_digest_121, eX6_digest_122, eX6_digest_124, eX6_digest_127, eX6_digest_128, eX6_digest_129, eX6_digest_130, eX6_digest_133, eX6_digest_136, eX6_digest_139, eX6_digest_142, eX6_digest_143, eX6_digest_in, q, nI_1, Option.toList_some, Option.toList_none, List.cons_append, List.nil_append, b2_0, Classical.not_not, false_implies, true_implies, implies_true, true_and, and_true, not_true_eq_false, not_false_eq_true]
      exact next _
    | succ d ih =>
      intro w hw
      have q : ¬ ((4 : Int32) < nI w) := nI_nlt (b := w) (a := 4) (by omega) (by omega)
      rw [eX6_digest_109]
      simp only [eX6_digest_0, eX6_digest_3, eX6_digest_4, eX6_digest_6, eX6_digest_8, eX6_digest_10, eX6_digest_13, eX6_digest_16, eX6_digest_17, eX6_digest_18, eX6_digest_19, eX6_digest_20, eX6_digest_23, eX6_digest_24, eX6_digest_25, eX6_digest_26, eX6_digest_29, eX6_digest_32, eX6_digest_33, eX6_digest_34, eX6_digest_37, eX6_digest_38, eX6_digest_39, eX6_digest_41, eX6_digest_42, eX6_digest_45, eX6_digest_48, eX6_digest_51, eX6_digest_54, eX6_digest_55, eX6_digest_59, eX6_digest_60, eX6_digest_63, eX6_digest_66, eX6_digest_67, eX6_digest_68, eX6_digest_69, eX6_digest_70, eX6_digest_72, eX6_digest_75, eX6_digest_76, eX6_digest_77, eX6_digest_78, eX6_digest_81, eX6_digest_84, eX6_digest_87, eX6_digest_90, eX6_digest_91, eX6_digest_93, eX6_digest_94, eX6_digest_97, eX6_digest_100, eX6_digest_103, eX6_digest_106, eX6_digest_107, eX6_digest_111, eX6_digest_112, eX6_digest_115, eX6_digest_118, eX6_digest_119, eX6_digest_120, eX6_digest_121, eX6_digest_122, eX6_digest_124, eX6_digest_127, eX6_digest_128, eX6_digest_129, eX6_digest_130, eX6_digest_133, eX6_digest_136, eX6_digest_139, eX6_digest_142, eX6_digest_143, eX6_digest_in, q, Option.toList_some, Option.toList_none, List.cons_append, List.nil_append, b2_0, Classical.not_not, false_implies, true_implies, implies_true, true_and, and_true, not_true_eq_false, not_false_eq_true]
      refine c_track hR g hi (by omega) ?_
      simp only [eX6_digest_0, eX6_digest_3, eX6_digest_4, eX6_digest_6, eX6_digest_8, eX6_digest_10, eX6_digest_13, eX6_digest_16, eX6_digest_17, eX6_digest_18, eX6_digest_19, eX6_digest_20, eX6_digest_23, eX6_digest_24, eX6_digest_25, eX6_digest_26, eX6_digest_29, eX6_digest_32, eX6_digest_33, eX6_digest_34, eX6_digest_37, eX6_digest_38, eX6_digest_39, eX6_digest_41, eX6_digest_42, eX6_digest_45, eX6_digest_48, eX6_digest_51, eX6_digest_54, eX6_digest_55, eX6_digest_59, eX6_digest_60, eX6_digest_63, eX6_digest_66, eX6_digest_67, eX6_digest_68, eX6_digest_69, eX6_digest_70, eX6_digest_72, eX6_digest_75, eX6_digest_76, eX6_digest_77, eX6_digest_78, eX6_digest_81, eX6_digest_84, eX6_digest_87, eX6_digest_90, eX6_digest_91, eX6_digest_93, eX6_digest_94, eX6_digest_97, eX6_digest_100, eX6_digest_103, eX6_digest_106, eX6_digest_107, eX6_digest_111, eX6_digest_112, eX6_digest_115, eX6_digest_118, eX6_digest_119, eX6_digest_120, eX6_digest_121, eX6_digest_122, eX6_digest_124, eX6_digest_127, eX6_digest_128, eX6_digest_129, eX6_digest_130, eX6_digest_133, eX6_digest_136, eX6_digest_139, eX6_digest_142, eX6_digest_143, eX6_digest_in, nI_1, Option.toList_some, Option.toList_none, List.cons_append, List.nil_append, b2_0, Classical.not_not, false_implies, true_implies, implies_true, true_and, and_true, not_true_eq_false, not_false_eq_true]
      exact ih (w + 1) (by omega)
  have o_trk : ∀ h, (∀ l4 : Value, V pgX6_digest Q 142 [.ref 0, .long (dq (fun k j => N (280 + 6 * k + j)) h (t)), .null, .int (nI (t)), l4] [] M) → ∀ d i (l4 : Value), i + d = t → V pgX6_digest Q 92 [.ref 0, .long (dq (fun k j => N (280 + 6 * k + j)) h i), .null, .int (nI i), l4] [] M := by
    intro h next d
    induction d with
    | zero =>
      intro i l4 hi
      have : i = t := by omega
      subst this
      rw [eX6_digest_92]
      simp only [eX6_digest_0, eX6_digest_3, eX6_digest_4, eX6_digest_6, eX6_digest_8, eX6_digest_10, eX6_digest_13, eX6_digest_16, eX6_digest_17, eX6_digest_18, eX6_digest_19, eX6_digest_20, eX6_digest_23, eX6_digest_24, eX6_digest_25, eX6_digest_26, eX6_digest_29, eX6_digest_32, eX6_digest_33, eX6_digest_34, eX6_digest_37, eX6_digest_38, eX6_digest_39, eX6_digest_41, eX6_digest_42, eX6_digest_45, eX6_digest_48, eX6_digest_51, eX6_digest_54, eX6_digest_55, eX6_digest_59, eX6_digest_60, eX6_digest_63, eX6_digest_66, eX6_digest_67, eX6_digest_68, eX6_digest_69, eX6_digest_70, eX6_digest_72, eX6_digest_75, eX6_digest_76, eX6_digest_77, eX6_digest_78, eX6_digest_81, eX6_digest_84, eX6_digest_87, eX6_digest_90, eX6_digest_91, eX6_digest_93, eX6_digest_94, eX6_digest_97, eX6_digest_100, eX6_digest_103, eX6_digest_106, eX6_digest_107, eX6_digest_111, eX6_digest_112, eX6_digest_115, eX6_digest_118, eX6_digest_119, eX6_digest_120, eX6_digest_121, eX6_digest_122, eX6_digest_124, eX6_digest_127, eX6_digest_128, eX6_digest_129, eX6_digest_130, eX6_digest_133, eX6_digest_136, eX6_digest_139, eX6_digest_143, eX6_digest_in, e105, Int32.le_refl, Option.toList_some, Option.toList_none, List.cons_append, List.nil_append, b2_0, Classical.not_not, false_implies, true_implies, implies_true, true_and, and_true, not_true_eq_false, not_false_eq_true]
      exact next _
    | succ d ih =>
      intro i l4 hi
      rw [eX6_digest_92]
      simp only [eX6_digest_0, eX6_digest_3, eX6_digest_4, eX6_digest_6, eX6_digest_8, eX6_digest_10, eX6_digest_13, eX6_digest_16, eX6_digest_17, eX6_digest_18, eX6_digest_19, eX6_digest_20, eX6_digest_23, eX6_digest_24, eX6_digest_25, eX6_digest_26, eX6_digest_29, eX6_digest_32, eX6_digest_33, eX6_digest_34, eX6_digest_37, eX6_digest_38, eX6_digest_39, eX6_digest_41, eX6_digest_42, eX6_digest_45, eX6_digest_48, eX6_digest_51, eX6_digest_54, eX6_digest_55, eX6_digest_59, eX6_digest_60, eX6_digest_63, eX6_digest_66, eX6_digest_67, eX6_digest_68, eX6_digest_69, eX6_digest_70, eX6_digest_72, eX6_digest_75, eX6_digest_76, eX6_digest_77, eX6_digest_78, eX6_digest_81, eX6_digest_84, eX6_digest_87, eX6_digest_90, eX6_digest_91, eX6_digest_93, eX6_digest_94, eX6_digest_97, eX6_digest_100, eX6_digest_103, eX6_digest_106, eX6_digest_107, eX6_digest_111, eX6_digest_112, eX6_digest_115, eX6_digest_118, eX6_digest_119, eX6_digest_120, eX6_digest_121, eX6_digest_122, eX6_digest_124, eX6_digest_127, eX6_digest_128, eX6_digest_129, eX6_digest_130, eX6_digest_133, eX6_digest_136, eX6_digest_139, eX6_digest_142, eX6_digest_143, eX6_digest_in, e105, nI_ge (show i < t by omega) (show t < 2 ^ 31 by omega), Option.toList_some, Option.toList_none, List.cons_append, List.nil_append, b2_0, Classical.not_not, false_implies, true_implies, implies_true, true_and, and_true, not_true_eq_false, not_false_eq_true]
      exact w_trk h i (by omega) (fun l4 => ih (i + 1) l4 (by omega)) 5 0 (by omega)
  have l1 : ∀ d i, i + d = 8 → V pgX6_digest Q 7 [.ref 0, .long (dw (fun i => N (6 + i)) 17 i), .null, .int (nI (6 + i)), .null] [] M := by
    intro d
    induction d with
    | zero =>
      intro i hi
      have : i = 8 := by omega
      subst this
      have q : (13 : Int32) < nI (6 + 8) := by decide
      rw [eX6_digest_7]
      simp only [eX6_digest_0, eX6_digest_3, eX6_digest_4, eX6_digest_6, eX6_digest_8, eX6_digest_10, eX6_digest_13, eX6_digest_16, eX6_digest_17, eX6_digest_18, eX6_digest_19, eX6_digest_20, eX6_digest_23, eX6_digest_24, eX6_digest_25, eX6_digest_26, eX6_digest_29, eX6_digest_32, eX6_digest_33, eX6_digest_34, eX6_digest_37, eX6_digest_38, eX6_digest_39, eX6_digest_41, eX6_digest_42, eX6_digest_45, eX6_digest_48, eX6_digest_51, eX6_digest_54, eX6_digest_55, eX6_digest_59, eX6_digest_60, eX6_digest_63, eX6_digest_66, eX6_digest_67, eX6_digest_68, eX6_digest_69, eX6_digest_70, eX6_digest_72, eX6_digest_75, eX6_digest_76, eX6_digest_77, eX6_digest_78, eX6_digest_81, eX6_digest_84, eX6_digest_87, eX6_digest_90, eX6_digest_91, eX6_digest_93, eX6_digest_94, eX6_digest_97, eX6_digest_100, eX6_digest_103, eX6_digest_106, eX6_digest_107, eX6_digest_111, eX6_digest_112, eX6_digest_115, eX6_digest_118, eX6_digest_119, eX6_digest_120, eX6_digest_121, eX6_digest_122, eX6_digest_124, eX6_digest_127, eX6_digest_128, eX6_digest_129, eX6_digest_130, eX6_digest_133, eX6_digest_136, eX6_digest_139, eX6_digest_142, eX6_digest_143, eX6_digest_in, q, Option.toList_some, Option.toList_none, List.cons_append, List.nil_append, b2_0, Classical.not_not, false_implies, true_implies, implies_true, true_and, and_true, not_true_eq_false, not_false_eq_true]
      refine c_digestCells hR g ?_
      simp only [eX6_digest_0, eX6_digest_3, eX6_digest_4, eX6_digest_6, eX6_digest_8, eX6_digest_10, eX6_digest_13, eX6_digest_16, eX6_digest_17, eX6_digest_18, eX6_digest_19, eX6_digest_20, eX6_digest_23, eX6_digest_24, eX6_digest_25, eX6_digest_26, eX6_digest_29, eX6_digest_32, eX6_digest_33, eX6_digest_34, eX6_digest_37, eX6_digest_38, eX6_digest_39, eX6_digest_41, eX6_digest_42, eX6_digest_45, eX6_digest_48, eX6_digest_51, eX6_digest_54, eX6_digest_55, eX6_digest_59, eX6_digest_60, eX6_digest_63, eX6_digest_66, eX6_digest_67, eX6_digest_68, eX6_digest_69, eX6_digest_70, eX6_digest_72, eX6_digest_75, eX6_digest_76, eX6_digest_77, eX6_digest_78, eX6_digest_81, eX6_digest_84, eX6_digest_87, eX6_digest_90, eX6_digest_91, eX6_digest_93, eX6_digest_94, eX6_digest_97, eX6_digest_100, eX6_digest_103, eX6_digest_106, eX6_digest_107, eX6_digest_111, eX6_digest_112, eX6_digest_115, eX6_digest_118, eX6_digest_119, eX6_digest_120, eX6_digest_121, eX6_digest_122, eX6_digest_124, eX6_digest_127, eX6_digest_128, eX6_digest_129, eX6_digest_130, eX6_digest_133, eX6_digest_136, eX6_digest_139, eX6_digest_142, eX6_digest_143, eX6_digest_in, Option.toList_some, Option.toList_none, List.cons_append, List.nil_append, b2_0, Classical.not_not, false_implies, true_implies, implies_true, true_and, and_true, not_true_eq_false, not_false_eq_true]
      refine o_con _ (fun l4 => ?_) c 0 .null (by omega)
      simp only [eX6_digest_0, eX6_digest_3, eX6_digest_4, eX6_digest_6, eX6_digest_8, eX6_digest_10, eX6_digest_13, eX6_digest_16, eX6_digest_17, eX6_digest_18, eX6_digest_19, eX6_digest_20, eX6_digest_23, eX6_digest_24, eX6_digest_25, eX6_digest_26, eX6_digest_29, eX6_digest_32, eX6_digest_33, eX6_digest_34, eX6_digest_37, eX6_digest_38, eX6_digest_39, eX6_digest_41, eX6_digest_42, eX6_digest_45, eX6_digest_48, eX6_digest_51, eX6_digest_54, eX6_digest_55, eX6_digest_59, eX6_digest_60, eX6_digest_63, eX6_digest_66, eX6_digest_67, eX6_digest_68, eX6_digest_69, eX6_digest_70, eX6_digest_72, eX6_digest_75, eX6_digest_76, eX6_digest_77, eX6_digest_78, eX6_digest_81, eX6_digest_84, eX6_digest_87, eX6_digest_90, eX6_digest_91, eX6_digest_93, eX6_digest_94, eX6_digest_97, eX6_digest_100, eX6_digest_103, eX6_digest_106, eX6_digest_107, eX6_digest_111, eX6_digest_112, eX6_digest_115, eX6_digest_118, eX6_digest_119, eX6_digest_120, eX6_digest_121, eX6_digest_122, eX6_digest_124, eX6_digest_127, eX6_digest_128, eX6_digest_129, eX6_digest_130, eX6_digest_133, eX6_digest_136, eX6_digest_139, eX6_digest_142, eX6_digest_143, eX6_digest_in, Option.toList_some, Option.toList_none, List.cons_append, List.nil_append, b2_0, Classical.not_not, false_implies, true_implies, implies_true, true_and, and_true, not_true_eq_false, not_false_eq_true]
      refine o_trk _ (fun l4 => ?_) t 0 _ (by omega)
      simp only [eX6_digest_0, eX6_digest_3, eX6_digest_4, eX6_digest_6, eX6_digest_8, eX6_digest_10, eX6_digest_13, eX6_digest_16, eX6_digest_17, eX6_digest_18, eX6_digest_19, eX6_digest_20, eX6_digest_23, eX6_digest_24, eX6_digest_25, eX6_digest_26, eX6_digest_29, eX6_digest_32, eX6_digest_33, eX6_digest_34, eX6_digest_37, eX6_digest_38, eX6_digest_39, eX6_digest_41, eX6_digest_42, eX6_digest_45, eX6_digest_48, eX6_digest_51, eX6_digest_54, eX6_digest_55, eX6_digest_59, eX6_digest_60, eX6_digest_63, eX6_digest_66, eX6_digest_67, eX6_digest_68, eX6_digest_69, eX6_digest_70, eX6_digest_72, eX6_digest_75, eX6_digest_76, eX6_digest_77, eX6_digest_78, eX6_digest_81, eX6_digest_84, eX6_digest_87, eX6_digest_90, eX6_digest_91, eX6_digest_93, eX6_digest_94, eX6_digest_97, eX6_digest_100, eX6_digest_103, eX6_digest_106, eX6_digest_107, eX6_digest_111, eX6_digest_112, eX6_digest_115, eX6_digest_118, eX6_digest_119, eX6_digest_120, eX6_digest_121, eX6_digest_122, eX6_digest_124, eX6_digest_127, eX6_digest_128, eX6_digest_129, eX6_digest_130, eX6_digest_133, eX6_digest_136, eX6_digest_139, eX6_digest_142, eX6_digest_143, eX6_digest_in, Option.toList_some, Option.toList_none, List.cons_append, List.nil_append, b2_0, Classical.not_not, false_implies, true_implies, implies_true, true_and, and_true, not_true_eq_false, not_false_eq_true]
      exact hQ
    | succ d ih =>
      intro i hi
      have q : ¬ ((13 : Int32) < nI (6 + i)) := nI_nlt (b := 6 + i) (a := 13) (by omega) (by omega)
      rw [eX6_digest_7]
      simp only [eX6_digest_0, eX6_digest_3, eX6_digest_4, eX6_digest_6, eX6_digest_8, eX6_digest_10, eX6_digest_13, eX6_digest_16, eX6_digest_17, eX6_digest_18, eX6_digest_19, eX6_digest_20, eX6_digest_23, eX6_digest_24, eX6_digest_25, eX6_digest_26, eX6_digest_29, eX6_digest_32, eX6_digest_33, eX6_digest_34, eX6_digest_37, eX6_digest_38, eX6_digest_39, eX6_digest_41, eX6_digest_42, eX6_digest_45, eX6_digest_48, eX6_digest_51, eX6_digest_54, eX6_digest_55, eX6_digest_59, eX6_digest_60, eX6_digest_63, eX6_digest_66, eX6_digest_67, eX6_digest_68, eX6_digest_69, eX6_digest_70, eX6_digest_72, eX6_digest_75, eX6_digest_76, eX6_digest_77, eX6_digest_78, eX6_digest_81, eX6_digest_84, eX6_digest_87, eX6_digest_90, eX6_digest_91, eX6_digest_93, eX6_digest_94, eX6_digest_97, eX6_digest_100, eX6_digest_103, eX6_digest_106, eX6_digest_107, eX6_digest_111, eX6_digest_112, eX6_digest_115, eX6_digest_118, eX6_digest_119, eX6_digest_120, eX6_digest_121, eX6_digest_122, eX6_digest_124, eX6_digest_127, eX6_digest_128, eX6_digest_129, eX6_digest_130, eX6_digest_133, eX6_digest_136, eX6_digest_139, eX6_digest_142, eX6_digest_143, eX6_digest_in, q, Option.toList_some, Option.toList_none, List.cons_append, List.nil_append, b2_0, Classical.not_not, false_implies, true_implies, implies_true, true_and, and_true, not_true_eq_false, not_false_eq_true]
      refine c_told hR (by omega) ?_
      simp only [eX6_digest_0, eX6_digest_3, eX6_digest_4, eX6_digest_6, eX6_digest_8, eX6_digest_10, eX6_digest_13, eX6_digest_16, eX6_digest_17, eX6_digest_18, eX6_digest_19, eX6_digest_20, eX6_digest_23, eX6_digest_24, eX6_digest_25, eX6_digest_26, eX6_digest_29, eX6_digest_32, eX6_digest_33, eX6_digest_34, eX6_digest_37, eX6_digest_38, eX6_digest_39, eX6_digest_41, eX6_digest_42, eX6_digest_45, eX6_digest_48, eX6_digest_51, eX6_digest_54, eX6_digest_55, eX6_digest_59, eX6_digest_60, eX6_digest_63, eX6_digest_66, eX6_digest_67, eX6_digest_68, eX6_digest_69, eX6_digest_70, eX6_digest_72, eX6_digest_75, eX6_digest_76, eX6_digest_77, eX6_digest_78, eX6_digest_81, eX6_digest_84, eX6_digest_87, eX6_digest_90, eX6_digest_91, eX6_digest_93, eX6_digest_94, eX6_digest_97, eX6_digest_100, eX6_digest_103, eX6_digest_106, eX6_digest_107, eX6_digest_111, eX6_digest_112, eX6_digest_115, eX6_digest_118, eX6_digest_119, eX6_digest_120, eX6_digest_121, eX6_digest_122, eX6_digest_124, eX6_digest_127, eX6_digest_128, eX6_digest_129, eX6_digest_130, eX6_digest_133, eX6_digest_136, eX6_digest_139, eX6_digest_142, eX6_digest_143, eX6_digest_in, nI_1, Option.toList_some, Option.toList_none, List.cons_append, List.nil_append, b2_0, Classical.not_not, false_implies, true_implies, implies_true, true_and, and_true, not_true_eq_false, not_false_eq_true]
      exact ih (i + 1) (by omega)
  simp only [eX6_digest_0, eX6_digest_3, eX6_digest_4, eX6_digest_6, eX6_digest_8, eX6_digest_10, eX6_digest_13, eX6_digest_16, eX6_digest_17, eX6_digest_18, eX6_digest_19, eX6_digest_20, eX6_digest_23, eX6_digest_24, eX6_digest_25, eX6_digest_26, eX6_digest_29, eX6_digest_32, eX6_digest_33, eX6_digest_34, eX6_digest_37, eX6_digest_38, eX6_digest_39, eX6_digest_41, eX6_digest_42, eX6_digest_45, eX6_digest_48, eX6_digest_51, eX6_digest_54, eX6_digest_55, eX6_digest_59, eX6_digest_60, eX6_digest_63, eX6_digest_66, eX6_digest_67, eX6_digest_68, eX6_digest_69, eX6_digest_70, eX6_digest_72, eX6_digest_75, eX6_digest_76, eX6_digest_77, eX6_digest_78, eX6_digest_81, eX6_digest_84, eX6_digest_87, eX6_digest_90, eX6_digest_91, eX6_digest_93, eX6_digest_94, eX6_digest_97, eX6_digest_100, eX6_digest_103, eX6_digest_106, eX6_digest_107, eX6_digest_111, eX6_digest_112, eX6_digest_115, eX6_digest_118, eX6_digest_119, eX6_digest_120, eX6_digest_121, eX6_digest_122, eX6_digest_124, eX6_digest_127, eX6_digest_128, eX6_digest_129, eX6_digest_130, eX6_digest_133, eX6_digest_136, eX6_digest_139, eX6_digest_142, eX6_digest_143, eX6_digest_in, Option.toList_some, Option.toList_none, List.cons_append, List.nil_append, b2_0, Classical.not_not, false_implies, true_implies, implies_true, true_and, and_true, not_true_eq_false, not_false_eq_true]
  exact l1 8 0 (by omega)
theorem m_digest {Q : Qt} {M : Mm} {N : Nat → Int32} {R C c t T P D L : Nat} (hN : M.1 52 = N) (g : Gd N R C c t T P D L) (hQ : Q (some (.long (digN N R C c t))) M) : kX7_digest [.ref 51] M Q := by
  obtain ⟨⟨⟨r1, r2⟩, ⟨c1, c2⟩, hcc, htt⟩, -, ⟨n0, n1, n2, n3, n4, n5, n8, n10⟩, -⟩ := id g
  have hrc := rc_le r2 c2
  have w_cel : ∀ h i, i < R * C → (∀ l4 : Value, V pgX7_digest Q 35 [.ref 51, .long (dq (celN N) h (i + 1)), .null, .int (nI (i + 1)), l4] [] M) → ∀ d w, w + d = 5 → V pgX7_digest Q 46 [.ref 51, .long (dw ((celN N) i) (dq (celN N) h i) w), .null, .int (nI i), .int (nI w)] [] M := by
    intro h i hi next d
    induction d with
    | zero =>
      intro w hw
      have : w = 5 := by omega
      subst this
      have q : (5 : Int32) ≤ nI 5 := by decide
      rw [eX7_digest_46]
      simp only [eX7_digest_0, eX7_digest_3, eX7_digest_4, eX7_digest_6, eX7_digest_8, eX7_digest_10, eX7_digest_13, eX7_digest_16, eX7_digest_17, eX7_digest_18, eX7_digest_19, eX7_digest_22, eX7_digest_23, eX7_digest_24, eX7_digest_25, eX7_digest_26, eX7_digest_27, eX7_digest_30, eX7_digest_33, eX7_digest_34, eX7_digest_36, eX7_digest_37, eX7_digest_40, eX7_digest_43, eX7_digest_44, eX7_digest_48, eX7_digest_49, eX7_digest_52, eX7_digest_55, eX7_digest_56, eX7_digest_57, eX7_digest_58, eX7_digest_59, eX7_digest_61, eX7_digest_64, eX7_digest_65, eX7_digest_66, eX7_digest_67, eX7_digest_70, eX7_digest_73, eX7_digest_76, eX7_digest_79, eX7_digest_80, eX7_digest_82, eX7_digest_83, eX7_digest_86, eX7_digest_88, eX7_digest_89, eX7_digest_92, eX7_digest_93, eX7_digest_97, eX7_digest_98, eX7_digest_101, eX7_digest_104, eX7_digest_105, eX7_digest_106, eX7_digest_107, eX7_digest_108, eX7_digest_110, eX7_digest_113, eX7_digest_114, eX7_digest_115, eX7_digest_116, eX7_digest_119, eX7_digest_122, eX7_digest_125, eX7_digest_128, eX7_digest_129, eX7_digest_131, eX7_digest_132, eX7_digest_135, eX7_digest_137, eX7_digest_138, eX7_digest_141, eX7_digest_142, eX7_digest_146, eX7_digest_147, eX7_digest_150, eX7_digest_153, eX7_digest_154, eX7_digest_155, eX7_digest_156, eX7_digest_157, eX7_digest_159, eX7_digest_162, eX7_digest_163, eX7_digest_164, eX7_digest_165, eX7_digest_168, eX7_digest_171, eX7_digest_174, eX7_digest_177, eX7_digest_178, eX7_digest_in, q, nI_1, Option.toList_some, Option.toList_none, List.cons_append, List.nil_append, b2_0, Classical.not_not, false_implies, true_implies, implies_true, true_and, and_true, not_true_eq_false, not_false_eq_true]
      exact next _
    | succ d ih =>
      intro w hw
      have q : ¬ ((5 : Int32) ≤ nI w) := nI_ge (b := 5) (a := w) (by omega) (by omega)
      rw [eX7_digest_46]
      simp only [eX7_digest_0, eX7_digest_3, eX7_digest_4, eX7_digest_6, eX7_digest_8, eX7_digest_10, eX7_digest_13, eX7_digest_16, eX7_digest_17, eX7_digest_18, eX7_digest_19, eX7_digest_22, eX7_digest_23, eX7_digest_24, eX7_digest_25, eX7_digest_26, eX7_digest_27, eX7_digest_30, eX7_digest_33, eX7_digest_34, eX7_digest_36, eX7_digest_37, eX7_digest_40, eX7_digest_43, eX7_digest_44, eX7_digest_48, eX7_digest_49, eX7_digest_52, eX7_digest_55, eX7_digest_56, eX7_digest_57, eX7_digest_58, eX7_digest_59, eX7_digest_61, eX7_digest_64, eX7_digest_65, eX7_digest_66, eX7_digest_67, eX7_digest_70, eX7_digest_73, eX7_digest_76, eX7_digest_79, eX7_digest_80, eX7_digest_82, eX7_digest_83, eX7_digest_86, eX7_digest_88, eX7_digest_89, eX7_digest_92, eX7_digest_93, eX7_digest_97, eX7_digest_98, eX7_digest_101, eX7_digest_104, eX7_digest_105, eX7_digest_106, eX7_digest_107, eX7_digest_108, eX7_digest_110, eX7_digest_113, eX7_digest_114, eX7_digest_115, eX7_digest_116, eX7_digest_119, eX7_digest_122, eX7_digest_125, eX7_digest_128, eX7_digest_129, eX7_digest_131, eX7_digest_132, eX7_digest_135, eX7_digest_137, eX7_digest_138, eX7_digest_141, eX7_digest_142, eX7_digest_146, eX7_digest_147, eX7_digest_150, eX7_digest_153, eX7_digest_154, eX7_digest_155, eX7_digest_156, eX7_digest_157, eX7_digest_159, eX7_digest_162, eX7_digest_163, eX7_digest_164, eX7_digest_165, eX7_digest_168, eX7_digest_171, eX7_digest_174, eX7_digest_177, eX7_digest_178, eX7_digest_in, q, Option.toList_some, Option.toList_none, List.cons_append, List.nil_append, b2_0, Classical.not_not, false_implies, true_implies, implies_true, true_and, and_true, not_true_eq_false, not_false_eq_true]
      refine m_cellTells (by omega) (by omega) ?_
      rw [hN]
      simp only [eX7_digest_0, eX7_digest_3, eX7_digest_4, eX7_digest_6, eX7_digest_8, eX7_digest_10, eX7_digest_13, eX7_digest_16, eX7_digest_17, eX7_digest_18, eX7_digest_19, eX7_digest_22, eX7_digest_23, eX7_digest_24, eX7_digest_25, eX7_digest_26, eX7_digest_27, eX7_digest_30, eX7_digest_33, eX7_digest_34, eX7_digest_36, eX7_digest_37, eX7_digest_40, eX7_digest_43, eX7_digest_44, eX7_digest_48, eX7_digest_49, eX7_digest_52, eX7_digest_55, eX7_digest_56, eX7_digest_57, eX7_digest_58, eX7_digest_59, eX7_digest_61, eX7_digest_64, eX7_digest_65, eX7_digest_66, eX7_digest_67, eX7_digest_70, eX7_digest_73, eX7_digest_76, eX7_digest_79, eX7_digest_80, eX7_digest_82, eX7_digest_83, eX7_digest_86, eX7_digest_88, eX7_digest_89, eX7_digest_92, eX7_digest_93, eX7_digest_97, eX7_digest_98, eX7_digest_101, eX7_digest_104, eX7_digest_105, eX7_digest_106, eX7_digest_107, eX7_digest_108, eX7_digest_110, eX7_digest_113, eX7_digest_114, eX7_digest_115, eX7_digest_116, eX7_digest_119, eX7_digest_122, eX7_digest_125, eX7_digest_128, eX7_digest_129, eX7_digest_131, eX7_digest_132, eX7_digest_135, eX7_digest_137, eX7_digest_138, eX7_digest_141, eX7_digest_142, eX7_digest_146, eX7_digest_147, eX7_digest_150, eX7_digest_153, eX7_digest_154, eX7_digest_155, eX7_digest_156, eX7_digest_157, eX7_digest_159, eX7_digest_162, eX7_digest_163, eX7_digest_164, eX7_digest_165, eX7_digest_168, eX7_digest_171, eX7_digest_174, eX7_digest_177, eX7_digest_178, eX7_digest_in, nI_1, Option.toList_some, Option.toList_none, List.cons_append, List.nil_append, b2_0, Classical.not_not, false_implies, true_implies, implies_true, true_and, and_true, not_true_eq_false, not_false_eq_true]
      exact ih (w + 1) (by omega)
  have o_cel : ∀ h, (∀ l4 : Value, V pgX7_digest Q 79 [.ref 51, .long (dq (celN N) h (R * C)), .null, .int (nI (R * C)), l4] [] M) → ∀ d i (l4 : Value), i + d = R * C → V pgX7_digest Q 35 [.ref 51, .long (dq (celN N) h i), .null, .int (nI i), l4] [] M := by
    intro h next d
    induction d with
    | zero =>
      intro i l4 hi
      have : i = R * C := by omega
      subst this
      rw [eX7_digest_35]
      simp only [eX7_digest_0, eX7_digest_3, eX7_digest_4, eX7_digest_6, eX7_digest_8, eX7_digest_10, eX7_digest_13, eX7_digest_16, eX7_digest_17, eX7_digest_18, eX7_digest_19, eX7_digest_22, eX7_digest_23, eX7_digest_24, eX7_digest_25, eX7_digest_26, eX7_digest_27, eX7_digest_30, eX7_digest_33, eX7_digest_34, eX7_digest_36, eX7_digest_37, eX7_digest_40, eX7_digest_43, eX7_digest_44, eX7_digest_48, eX7_digest_49, eX7_digest_52, eX7_digest_55, eX7_digest_56, eX7_digest_57, eX7_digest_58, eX7_digest_59, eX7_digest_61, eX7_digest_64, eX7_digest_65, eX7_digest_66, eX7_digest_67, eX7_digest_70, eX7_digest_73, eX7_digest_76, eX7_digest_80, eX7_digest_82, eX7_digest_83, eX7_digest_86, eX7_digest_88, eX7_digest_89, eX7_digest_92, eX7_digest_93, eX7_digest_97, eX7_digest_98, eX7_digest_101, eX7_digest_104, eX7_digest_105, eX7_digest_106, eX7_digest_107, eX7_digest_108, eX7_digest_110, eX7_digest_113, eX7_digest_114, eX7_digest_115, eX7_digest_116, eX7_digest_119, eX7_digest_122, eX7_digest_125, eX7_digest_128, eX7_digest_129, eX7_digest_131, eX7_digest_132, eX7_digest_135, eX7_digest_137, eX7_digest_138, eX7_digest_141, eX7_digest_142, eX7_digest_146, eX7_digest_147, eX7_digest_150, eX7_digest_153, eX7_digest_154, eX7_digest_155, eX7_digest_156, eX7_digest_157, eX7_digest_159, eX7_digest_162, eX7_digest_163, eX7_digest_164, eX7_digest_165, eX7_digest_168, eX7_digest_171, eX7_digest_174, eX7_digest_177, eX7_digest_178, eX7_digest_in, q_mcells, hN, n0, n1, pk_mul, Int32.le_refl, Option.toList_some, Option.toList_none, List.cons_append, List.nil_append, b2_0, Classical.not_not, false_implies, true_implies, implies_true, true_and, and_true, not_true_eq_false, not_false_eq_true]
      exact next _
    | succ d ih =>
      intro i l4 hi
      rw [eX7_digest_35]
      simp only [eX7_digest_0, eX7_digest_3, eX7_digest_4, eX7_digest_6, eX7_digest_8, eX7_digest_10, eX7_digest_13, eX7_digest_16, eX7_digest_17, eX7_digest_18, eX7_digest_19, eX7_digest_22, eX7_digest_23, eX7_digest_24, eX7_digest_25, eX7_digest_26, eX7_digest_27, eX7_digest_30, eX7_digest_33, eX7_digest_34, eX7_digest_36, eX7_digest_37, eX7_digest_40, eX7_digest_43, eX7_digest_44, eX7_digest_48, eX7_digest_49, eX7_digest_52, eX7_digest_55, eX7_digest_56, eX7_digest_57, eX7_digest_58, eX7_digest_59, eX7_digest_61, eX7_digest_64, eX7_digest_65, eX7_digest_66, eX7_digest_67, eX7_digest_70, eX7_digest_73, eX7_digest_76, eX7_digest_79, eX7_digest_80, eX7_digest_82, eX7_digest_83, eX7_digest_86, eX7_digest_88, eX7_digest_89, eX7_digest_92, eX7_digest_93, eX7_digest_97, eX7_digest_98, eX7_digest_101, eX7_digest_104, eX7_digest_105, eX7_digest_106, eX7_digest_107, eX7_digest_108, eX7_digest_110, eX7_digest_113, eX7_digest_114, eX7_digest_115, eX7_digest_116, eX7_digest_119, eX7_digest_122, eX7_digest_125, eX7_digest_128, eX7_digest_129, eX7_digest_131, eX7_digest_132, eX7_digest_135, eX7_digest_137, eX7_digest_138, eX7_digest_141, eX7_digest_142, eX7_digest_146, eX7_digest_147, eX7_digest_150, eX7_digest_153, eX7_digest_154, eX7_digest_155, eX7_digest_156, eX7_digest_157, eX7_digest_159, eX7_digest_162, eX7_digest_163, eX7_digest_164, eX7_digest_165, eX7_digest_168, eX7_digest_171, eX7_digest_174, eX7_digest_177, eX7_digest_178, eX7_digest_in, q_mcells, hN, n0, n1, pk_mul, nI_ge (show i < R * C by omega) (show R * C < 2 ^ 31 by omega), Option.toList_some, Option.toList_none, List.cons_append, List.nil_append, b2_0, Classical.not_not, false_implies, true_implies, implies_true, true_and, and_true, not_true_eq_false, not_false_eq_true]
      exact w_cel h i (by omega) (fun l4 => ih (i + 1) l4 (by omega)) 5 0 (by omega)
  have w_con : ∀ h i, i < c → (∀ l4 : Value, V pgX7_digest Q 81 [.ref 51, .long (dq (conN N R C) h (i + 1)), .null, .int (nI (i + 1)), l4] [] M) → ∀ d w, w + d = 5 → V pgX7_digest Q 95 [.ref 51, .long (dw ((conN N R C) i) (dq (conN N R C) h i) w), .null, .int (nI i), .int (nI w)] [] M := by
    intro h i hi next d
    induction d with
    | zero =>
      intro w hw
      have : w = 5 := by omega
      subst this
      have q : (5 : Int32) ≤ nI 5 := by decide
      rw [eX7_digest_95]
      simp only [eX7_digest_0, eX7_digest_3, eX7_digest_4, eX7_digest_6, eX7_digest_8, eX7_digest_10, eX7_digest_13, eX7_digest_16, eX7_digest_17, eX7_digest_18, eX7_digest_19, eX7_digest_22, eX7_digest_23, eX7_digest_24, eX7_digest_25, eX7_digest_26, eX7_digest_27, eX7_digest_30, eX7_digest_33, eX7_digest_34, eX7_digest_36, eX7_digest_37, eX7_digest_40, eX7_digest_43, eX7_digest_44, eX7_digest_48, eX7_digest_49, eX7_digest_52, eX7_digest_55, eX7_digest_56, eX7_digest_57, eX7_digest_58, eX7_digest_59, eX7_digest_61, eX7_digest_64, eX7_digest_65, eX7_digest_66, eX7_digest_67, eX7_digest_70, eX7_digest_73, eX7_digest_76, eX7_digest_79, eX7_digest_80, eX7_digest_82, eX7_digest_83, eX7_digest_86, eX7_digest_88, eX7_digest_89, eX7_digest_92, eX7_digest_93, eX7_digest_97, eX7_digest_98, eX7_digest_101, eX7_digest_104, eX7_digest_105, eX7_digest_106, eX7_digest_107, eX7_digest_108, eX7_digest_110, eX7_digest_113, eX7_digest_114, eX7_digest_115, eX7_digest_116, eX7_digest_119, eX7_digest_122, eX7_digest_125, eX7_digest_128, eX7_digest_129, eX7_digest_131, eX7_digest_132, eX7_digest_135, eX7_digest_137, eX7_digest_138, eX7_digest_141, eX7_digest_142, eX7_digest_146, eX7_digest_147, eX7_digest_150, eX7_digest_153, eX7_digest_154, eX7_digest_155, eX7_digest_156, eX7_digest_157, eX7_digest_159, eX7_digest_162, eX7_digest_163, eX7_digest_164, eX7_digest_165, eX7_digest_168, eX7_digest_171, eX7_digest_174, eX7_digest_177, eX7_digest_178, eX7_digest_in, q, nI_1, Option.toList_some, Option.toList_none, List.cons_append, List.nil_append, b2_0, Classical.not_not, false_implies, true_implies, implies_true, true_and, and_true, not_true_eq_false, not_false_eq_true]
      exact next _
    | succ d ih =>
      intro w hw
      have q : ¬ ((5 : Int32) ≤ nI w) := nI_ge (b := 5) (a := w) (by omega) (by omega)
      rw [eX7_digest_95]
      simp only [eX7_digest_0, eX7_digest_3, eX7_digest_4, eX7_digest_6, eX7_digest_8, eX7_digest_10, eX7_digest_13, eX7_digest_16, eX7_digest_17, eX7_digest_18, eX7_digest_19, eX7_digest_22, eX7_digest_23, eX7_digest_24, eX7_digest_25, eX7_digest_26, eX7_digest_27, eX7_digest_30, eX7_digest_33, eX7_digest_34, eX7_digest_36, eX7_digest_37, eX7_digest_40, eX7_digest_43, eX7_digest_44, eX7_digest_48, eX7_digest_49, eX7_digest_52, eX7_digest_55, eX7_digest_56, eX7_digest_57, eX7_digest_58, eX7_digest_59, eX7_digest_61, eX7_digest_64, eX7_digest_65, eX7_digest_66, eX7_digest_67, eX7_digest_70, eX7_digest_73, eX7_digest_76, eX7_digest_79, eX7_digest_80, eX7_digest_82, eX7_digest_83, eX7_digest_86, eX7_digest_88, eX7_digest_89, eX7_digest_92, eX7_digest_93, eX7_digest_97, eX7_digest_98, eX7_digest_101, eX7_digest_104, eX7_digest_105, eX7_digest_106, eX7_digest_107, eX7_digest_108, eX7_digest_110, eX7_digest_113, eX7_digest_114, eX7_digest_115, eX7_digest_116, eX7_digest_119, eX7_digest_122, eX7_digest_125, eX7_digest_128, eX7_digest_129, eX7_digest_131, eX7_digest_132, eX7_digest_135, eX7_digest_137, eX7_digest_138, eX7_digest_141, eX7_digest_142, eX7_digest_146, eX7_digest_147, eX7_digest_150, eX7_digest_153, eX7_digest_154, eX7_digest_155, eX7_digest_156, eX7_digest_157, eX7_digest_159, eX7_digest_162, eX7_digest_163, eX7_digest_164, eX7_digest_165, eX7_digest_168, eX7_digest_171, eX7_digest_174, eX7_digest_177, eX7_digest_178, eX7_digest_in, q, Option.toList_some, Option.toList_none, List.cons_append, List.nil_append, b2_0, Classical.not_not, false_implies, true_implies, implies_true, true_and, and_true, not_true_eq_false, not_false_eq_true]
      refine m_contactTells hN g hi (by omega) ?_
      simp only [eX7_digest_0, eX7_digest_3, eX7_digest_4, eX7_digest_6, eX7_digest_8, eX7_digest_10, eX7_digest_13, eX7_digest_16, eX7_digest_17, eX7_digest_18, eX7_digest_19, eX7_digest_22, eX7_digest_23, eX7_digest_24, eX7_digest_25, eX7_digest_26, eX7_digest_27, eX7_digest_30, eX7_digest_33, eX7_digest_34, eX7_digest_36, eX7_digest_37, eX7_digest_40, eX7_digest_43, eX7_digest_44, eX7_digest_48, eX7_digest_49, eX7_digest_52, eX7_digest_55, eX7_digest_56, eX7_digest_57, eX7_digest_58, eX7_digest_59, eX7_digest_61, eX7_digest_64, eX7_digest_65, eX7_digest_66, eX7_digest_67, eX7_digest_70, eX7_digest_73, eX7_digest_76, eX7_digest_79, eX7_digest_80, eX7_digest_82, eX7_digest_83, eX7_digest_86, eX7_digest_88, eX7_digest_89, eX7_digest_92, eX7_digest_93, eX7_digest_97, eX7_digest_98, eX7_digest_101, eX7_digest_104, eX7_digest_105, eX7_digest_106, eX7_digest_107, eX7_digest_108, eX7_digest_110, eX7_digest_113, eX7_digest_114, eX7_digest_115, eX7_digest_116, eX7_digest_119, eX7_digest_122, eX7_digest_125, eX7_digest_128, eX7_digest_129, eX7_digest_131, eX7_digest_132, eX7_digest_135, eX7_digest_137, eX7_digest_138, eX7_digest_141, eX7_digest_142, eX7_digest_146, eX7_digest_147, eX7_digest_150, eX7_digest_153, eX7_digest_154, eX7_digest_155, eX7_digest_156, eX7_digest_157, eX7_digest_159, eX7_digest_162, eX7_digest_163, eX7_digest_164, eX7_digest_165, eX7_digest_168, eX7_digest_171, eX7_digest_174, eX7_digest_177, eX7_digest_178, eX7_digest_in, nI_1, Option.toList_some, Option.toList_none, List.cons_append, List.nil_append, b2_0, Classical.not_not, false_implies, true_implies, implies_true, true_and, and_true, not_true_eq_false, not_false_eq_true]
      exact ih (w + 1) (by omega)
  have o_con : ∀ h, (∀ l4 : Value, V pgX7_digest Q 128 [.ref 51, .long (dq (conN N R C) h (c)), .null, .int (nI (c)), l4] [] M) → ∀ d i (l4 : Value), i + d = c → V pgX7_digest Q 81 [.ref 51, .long (dq (conN N R C) h i), .null, .int (nI i), l4] [] M := by
    intro h next d
    induction d with
    | zero =>
      intro i l4 hi
      have : i = c := by omega
      subst this
      rw [eX7_digest_81]
      simp only [eX7_digest_0, eX7_digest_3, eX7_digest_4, eX7_digest_6, eX7_digest_8, eX7_digest_10, eX7_digest_13, eX7_digest_16, eX7_digest_17, eX7_digest_18, eX7_digest_19, eX7_digest_22, eX7_digest_23, eX7_digest_24, eX7_digest_25, eX7_digest_26, eX7_digest_27, eX7_digest_30, eX7_digest_33, eX7_digest_34, eX7_digest_36, eX7_digest_37, eX7_digest_40, eX7_digest_43, eX7_digest_44, eX7_digest_48, eX7_digest_49, eX7_digest_52, eX7_digest_55, eX7_digest_56, eX7_digest_57, eX7_digest_58, eX7_digest_59, eX7_digest_61, eX7_digest_64, eX7_digest_65, eX7_digest_66, eX7_digest_67, eX7_digest_70, eX7_digest_73, eX7_digest_76, eX7_digest_79, eX7_digest_80, eX7_digest_82, eX7_digest_83, eX7_digest_86, eX7_digest_88, eX7_digest_89, eX7_digest_92, eX7_digest_93, eX7_digest_97, eX7_digest_98, eX7_digest_101, eX7_digest_104, eX7_digest_105, eX7_digest_106, eX7_digest_107, eX7_digest_108, eX7_digest_110, eX7_digest_113, eX7_digest_114, eX7_digest_115, eX7_digest_116, eX7_digest_119, eX7_digest_122, eX7_digest_125, eX7_digest_129, eX7_digest_131, eX7_digest_132, eX7_digest_135, eX7_digest_137, eX7_digest_138, eX7_digest_141, eX7_digest_142, eX7_digest_146, eX7_digest_147, eX7_digest_150, eX7_digest_153, eX7_digest_154, eX7_digest_155, eX7_digest_156, eX7_digest_157, eX7_digest_159, eX7_digest_162, eX7_digest_163, eX7_digest_164, eX7_digest_165, eX7_digest_168, eX7_digest_171, eX7_digest_174, eX7_digest_177, eX7_digest_178, eX7_digest_in, hN, v8, tn_8, n8, Int32.le_refl, Option.toList_some, Option.toList_none, List.cons_append, List.nil_append, b2_0, Classical.not_not, false_implies, true_implies, implies_true, true_and, and_true, not_true_eq_false, not_false_eq_true]
      exact next _
    | succ d ih =>
      intro i l4 hi
      rw [eX7_digest_81]
      simp only [eX7_digest_0, eX7_digest_3, eX7_digest_4, eX7_digest_6, eX7_digest_8, eX7_digest_10, eX7_digest_13, eX7_digest_16, eX7_digest_17, eX7_digest_18, eX7_digest_19, eX7_digest_22, eX7_digest_23, eX7_digest_24, eX7_digest_25, eX7_digest_26, eX7_digest_27, eX7_digest_30, eX7_digest_33, eX7_digest_34, eX7_digest_36, eX7_digest_37, eX7_digest_40, eX7_digest_43, eX7_digest_44, eX7_digest_48, eX7_digest_49, eX7_digest_52, eX7_digest_55, eX7_digest_56, eX7_digest_57, eX7_digest_58, eX7_digest_59, eX7_digest_61, eX7_digest_64, eX7_digest_65, eX7_digest_66, eX7_digest_67, eX7_digest_70, eX7_digest_73, eX7_digest_76, eX7_digest_79, eX7_digest_80, eX7_digest_82, eX7_digest_83, eX7_digest_86, eX7_digest_88, eX7_digest_89, eX7_digest_92, eX7_digest_93, eX7_digest_97, eX7_digest_98, eX7_digest_101, eX7_digest_104, eX7_digest_105, eX7_digest_106, eX7_digest_107, eX7_digest_108, eX7_digest_110, eX7_digest_113, eX7_digest_114, eX7_digest_115, eX7_digest_116, eX7_digest_119, eX7_digest_122, eX7_digest_125, eX7_digest_128, eX7_digest_129, eX7_digest_131, eX7_digest_132, eX7_digest_135, eX7_digest_137, eX7_digest_138, eX7_digest_141, eX7_digest_142, eX7_digest_146, eX7_digest_147, eX7_digest_150, eX7_digest_153, eX7_digest_154, eX7_digest_155, eX7_digest_156, eX7_digest_157, eX7_digest_159, eX7_digest_162, eX7_digest_163, eX7_digest_164, eX7_digest_165, eX7_digest_168, eX7_digest_171, eX7_digest_174, eX7_digest_177, eX7_digest_178, eX7_digest_in, hN, v8, tn_8, n8, nI_ge (show i < c by omega) (show c < 2 ^ 31 by omega), Option.toList_some, Option.toList_none, List.cons_append, List.nil_append, b2_0, Classical.not_not, false_implies, true_implies, implies_true, true_and, and_true, not_true_eq_false, not_false_eq_true]
      exact w_con h i (by omega) (fun l4 => ih (i + 1) l4 (by omega)) 5 0 (by omega)
  have w_trk : ∀ h i, i < t → (∀ l4 : Value, V pgX7_digest Q 130 [.ref 51, .long (dq (fun k j => N (280 + 6 * k + j)) h (i + 1)), .null, .int (nI (i + 1)), l4] [] M) → ∀ d w, w + d = 5 → V pgX7_digest Q 144 [.ref 51, .long (dw ((fun k j => N (280 + 6 * k + j)) i) (dq (fun k j => N (280 + 6 * k + j)) h i) w), .null, .int (nI i), .int (nI w)] [] M := by
    intro h i hi next d
    induction d with
    | zero =>
      intro w hw
      have : w = 5 := by omega
      subst this
      have q : (5 : Int32) ≤ nI 5 := by decide
      rw [eX7_digest_144]
      simp only [eX7_digest_0, eX7_digest_3, eX7_digest_4, eX7_digest_6, eX7_digest_8, eX7_digest_10, eX7_digest_13, eX7_digest_16, eX7_digest_17, eX7_digest_18, eX7_digest_19, eX7_digest_22, eX7_digest_23, eX7_digest_24, eX7_digest_25, eX7_digest_26, eX7_digest_27, eX7_digest_30, eX7_digest_33, eX7_digest_34, eX7_digest_36, eX7_digest_37, eX7_digest_40, eX7_digest_43, eX7_digest_44, eX7_digest_48, eX7_digest_49, eX7_digest_52, eX7_digest_55, eX7_digest_56, eX7_digest_57, eX7_digest_58, eX7_digest_59, eX7_digest_61, eX7_digest_64, eX7_digest_65, eX7_digest_66, eX7_digest_67, eX7_digest_70, eX7_digest_73, eX7_digest_76, eX7_digest_79, eX7_digest_80, eX7_digest_82, eX7_digest_83, eX7_digest_86, eX7_digest_88, eX7_digest_89, eX7_digest_92, eX7_digest_93, eX7_digest_97, eX7_digest_98, eX7_digest_101, eX7_digest_104, eX7_digest_105, eX7_digest_106, eX7_digest_107, eX7_digest_108, eX7_digest_110, eX7_digest_113, eX7_digest_114, eX7_digest_115, eX7_digest_116, eX7_digest_119, eX7_digest_122, eX7_digest_125, eX7_digest_128, eX7_digest_129, eX7_digest_131, eX7_digest_132, eX7_digest_135, eX7_digest_137, eX7_digest_138, eX7_digest_141, eX7_digest_142, eX7_digest_146, eX7_digest_147, eX7_digest_150, eX7_digest_153, eX7_digest_154, eX7_digest_155, eX7_digest_156, eX7_digest_157, eX7_digest_159, eX7_digest_162, eX7_digest_163, eX7_digest_164, eX7_digest_165, eX7_digest_168, eX7_digest_171, eX7_digest_174, eX7_digest_177, eX7_digest_178, eX7_digest_in, q, nI_1, Option.toList_some, Option.toList_none, List.cons_append, List.nil_append, b2_0, Classical.not_not, false_implies, true_implies, implies_true, true_and, and_true, not_true_eq_false, not_false_eq_true]
      exact next _
    | succ d ih =>
      intro w hw
      have q : ¬ ((5 : Int32) ≤ nI w) := nI_ge (b := 5) (a := w) (by omega) (by omega)
      rw [eX7_digest_144]
      simp only [eX7_digest_0, eX7_digest_3, eX7_digest_4, eX7_digest_6, eX7_digest_8, eX7_digest_10, eX7_digest_13, eX7_digest_16, eX7_digest_17, eX7_digest_18, eX7_digest_19, eX7_digest_22, eX7_digest_23, eX7_digest_24, eX7_digest_25, eX7_digest_26, eX7_digest_27, eX7_digest_30, eX7_digest_33, eX7_digest_34, eX7_digest_36, eX7_digest_37, eX7_digest_40, eX7_digest_43, eX7_digest_44, eX7_digest_48, eX7_digest_49, eX7_digest_52, eX7_digest_55, eX7_digest_56, eX7_digest_57, eX7_digest_58, eX7_digest_59, eX7_digest_61, eX7_digest_64, eX7_digest_65, eX7_digest_66, eX7_digest_67, eX7_digest_70, eX7_digest_73, eX7_digest_76, eX7_digest_79, eX7_digest_80, eX7_digest_82, eX7_digest_83, eX7_digest_86, eX7_digest_88, eX7_digest_89, eX7_digest_92, eX7_digest_93, eX7_digest_97, eX7_digest_98, eX7_digest_101, eX7_digest_104, eX7_digest_105, eX7_digest_106, eX7_digest_107, eX7_digest_108, eX7_digest_110, eX7_digest_113, eX7_digest_114, eX7_digest_115, eX7_digest_116, eX7_digest_119, eX7_digest_122, eX7_digest_125, eX7_digest_128, eX7_digest_129, eX7_digest_131, eX7_digest_132, eX7_digest_135, eX7_digest_137, eX7_digest_138, eX7_digest_141, eX7_digest_142, eX7_digest_146, eX7_digest_147, eX7_digest_150, eX7_digest_153, eX7_digest_154, eX7_digest_155, eX7_digest_156, eX7_digest_157, eX7_digest_159, eX7_digest_162, eX7_digest_163, eX7_digest_164, eX7_digest_165, eX7_digest_168, eX7_digest_171, eX7_digest_174, eX7_digest_177, eX7_digest_178, eX7_digest_in, q, q_trackAt, m6, a280, nI_add, nI_clamp (show 280 + 6 * i + w < 2 ^ 31 by omega), vpn (show 280 + 6 * i + w < 316 by omega) (by decide : 316 < 2147483648), hN, Option.toList_some, Option.toList_none, List.cons_append, List.nil_append, b2_0, Classical.not_not, false_implies, true_implies, implies_true, true_and, and_true, not_true_eq_false, not_false_eq_true]
      skip
      simp only [eX7_digest_0, eX7_digest_3, eX7_digest_4, eX7_digest_6, eX7_digest_8, eX7_digest_10, eX7_digest_13, eX7_digest_16, eX7_digest_17, eX7_digest_18, eX7_digest_19, eX7_digest_22, eX7_digest_23, eX7_digest_24, eX7_digest_25, eX7_digest_26, eX7_digest_27, eX7_digest_30, eX7_digest_33, eX7_digest_34, eX7_digest_36, eX7_digest_37, eX7_digest_40, eX7_digest_43, eX7_digest_44, eX7_digest_48, eX7_digest_49, eX7_digest_52, eX7_digest_55, eX7_digest_56, eX7_digest_57, eX7_digest_58, eX7_digest_59, eX7_digest_61, eX7_digest_64, eX7_digest_65, eX7_digest_66, eX7_digest_67, eX7_digest_70, eX7_digest_73, eX7_digest_76, eX7_digest_79, eX7_digest_80, eX7_digest_82, eX7_digest_83, eX7_digest_86, eX7_digest_88, eX7_digest_89, eX7_digest_92, eX7_digest_93, eX7_digest_97, eX7_digest_98, eX7_digest_101, eX7_digest_104, eX7_digest_105, eX7_digest_106, eX7_digest_107, eX7_digest_108, eX7_digest_110, eX7_digest_113, eX7_digest_114, eX7_digest_115, eX7_digest_116, eX7_digest_119, eX7_digest_122, eX7_digest_125, eX7_digest_128, eX7_digest_129, eX7_digest_131, eX7_digest_132, eX7_digest_135, eX7_digest_137, eX7_digest_138, eX7_digest_141, eX7_digest_142, eX7_digest_146, eX7_digest_147, eX7_digest_150, eX7_digest_153, eX7_digest_154, eX7_digest_155, eX7_digest_156, eX7_digest_157, eX7_digest_159, eX7_digest_162, eX7_digest_163, eX7_digest_164, eX7_digest_165, eX7_digest_168, eX7_digest_171, eX7_digest_174, eX7_digest_177, eX7_digest_178, eX7_digest_in, nI_1, Option.toList_some, Option.toList_none, List.cons_append, List.nil_append, b2_0, Classical.not_not, false_implies, true_implies, implies_true, true_and, and_true, not_true_eq_false, not_false_eq_true]
      exact ih (w + 1) (by omega)
  have o_trk : ∀ h, (∀ l4 : Value, V pgX7_digest Q 177 [.ref 51, .long (dq (fun k j => N (280 + 6 * k + j)) h (t)), .null, .int (nI (t)), l4] [] M) → ∀ d i (l4 : Value), i + d = t → V pgX7_digest Q 130 [.ref 51, .long (dq (fun k j => N (280 + 6 * k + j)) h i), .null, .int (nI i), l4] [] M := by
    intro h next d
    induction d with
    | zero =>
      intro i l4 hi
      have : i = t := by omega
      subst this
      rw [eX7_digest_130]
      simp only [eX7_digest_0, eX7_digest_3, eX7_digest_4, eX7_digest_6, eX7_digest_8, eX7_digest_10, eX7_digest_13, eX7_digest_16, eX7_digest_17, eX7_digest_18, eX7_digest_19, eX7_digest_22, eX7_digest_23, eX7_digest_24, eX7_digest_25, eX7_digest_26, eX7_digest_27, eX7_digest_30, eX7_digest_33, eX7_digest_34, eX7_digest_36, eX7_digest_37, eX7_digest_40, eX7_digest_43, eX7_digest_44, eX7_digest_48, eX7_digest_49, eX7_digest_52, eX7_digest_55, eX7_digest_56, eX7_digest_57, eX7_digest_58, eX7_digest_59, eX7_digest_61, eX7_digest_64, eX7_digest_65, eX7_digest_66, eX7_digest_67, eX7_digest_70, eX7_digest_73, eX7_digest_76, eX7_digest_79, eX7_digest_80, eX7_digest_82, eX7_digest_83, eX7_digest_86, eX7_digest_88, eX7_digest_89, eX7_digest_92, eX7_digest_93, eX7_digest_97, eX7_digest_98, eX7_digest_101, eX7_digest_104, eX7_digest_105, eX7_digest_106, eX7_digest_107, eX7_digest_108, eX7_digest_110, eX7_digest_113, eX7_digest_114, eX7_digest_115, eX7_digest_116, eX7_digest_119, eX7_digest_122, eX7_digest_125, eX7_digest_128, eX7_digest_129, eX7_digest_131, eX7_digest_132, eX7_digest_135, eX7_digest_137, eX7_digest_138, eX7_digest_141, eX7_digest_142, eX7_digest_146, eX7_digest_147, eX7_digest_150, eX7_digest_153, eX7_digest_154, eX7_digest_155, eX7_digest_156, eX7_digest_157, eX7_digest_159, eX7_digest_162, eX7_digest_163, eX7_digest_164, eX7_digest_165, eX7_digest_168, eX7_digest_171, eX7_digest_174, eX7_digest_178, eX7_digest_in, hN, v10, tn_10, n10, Int32.le_refl, Option.toList_some, Option.toList_none, List.cons_append, List.nil_append, b2_0, Classical.not_not, false_implies, true_implies, implies_true, true_and, and_true, not_true_eq_false, not_false_eq_true]
      exact next _
    | succ d ih =>
      intro i l4 hi
      rw [eX7_digest_130]
      simp only [eX7_digest_0, eX7_digest_3, eX7_digest_4, eX7_digest_6, eX7_digest_8, eX7_digest_10, eX7_digest_13, eX7_digest_16, eX7_digest_17, eX7_digest_18, eX7_digest_19, eX7_digest_22, eX7_digest_23, eX7_digest_24, eX7_digest_25, eX7_digest_26, eX7_digest_27, eX7_digest_30, eX7_digest_33, eX7_digest_34, eX7_digest_36, eX7_digest_37, eX7_digest_40, eX7_digest_43, eX7_digest_44, eX7_digest_48, eX7_digest_49, eX7_digest_52, eX7_digest_55, eX7_digest_56, eX7_digest_57, eX7_digest_58, eX7_digest_59, eX7_digest_61, eX7_digest_64, eX7_digest_65, eX7_digest_66, eX7_digest_67, eX7_digest_70, eX7_digest_73, eX7_digest_76, eX7_digest_79, eX7_digest_80, eX7_digest_82, eX7_digest_83, eX7_digest_86, eX7_digest_88, eX7_digest_89, eX7_digest_92, eX7_digest_93, eX7_digest_97, eX7_digest_98, eX7_digest_101, eX7_digest_104, eX7_digest_105, eX7_digest_106, eX7_digest_107, eX7_digest_108, eX7_digest_110, eX7_digest_113, eX7_digest_114, eX7_digest_115, eX7_digest_116, eX7_digest_119, eX7_digest_122, eX7_digest_125, eX7_digest_128, eX7_digest_129, eX7_digest_131, eX7_digest_132, eX7_digest_135, eX7_digest_137, eX7_digest_138, eX7_digest_141, eX7_digest_142, eX7_digest_146, eX7_digest_147, eX7_digest_150, eX7_digest_153, eX7_digest_154, eX7_digest_155, eX7_digest_156, eX7_digest_157, eX7_digest_159, eX7_digest_162, eX7_digest_163, eX7_digest_164, eX7_digest_165, eX7_digest_168, eX7_digest_171, eX7_digest_174, eX7_digest_177, eX7_digest_178, eX7_digest_in, hN, v10, tn_10, n10, nI_ge (show i < t by omega) (show t < 2 ^ 31 by omega), Option.toList_some, Option.toList_none, List.cons_append, List.nil_append, b2_0, Classical.not_not, false_implies, true_implies, implies_true, true_and, and_true, not_true_eq_false, not_false_eq_true]
      exact w_trk h i (by omega) (fun l4 => ih (i + 1) l4 (by omega)) 5 0 (by omega)
  have l1 : ∀ d i, i + d = 8 → V pgX7_digest Q 7 [.ref 51, .long (dw (fun i => N (6 + i)) 17 i), .null, .int (nI (6 + i)), .null] [] M := by
    intro d
    induction d with
    | zero =>
      intro i hi
      have : i = 8 := by omega
      subst this
      have q : (13 : Int32) < nI (6 + 8) := by decide
      rw [eX7_digest_7]
      simp only [eX7_digest_0, eX7_digest_3, eX7_digest_4, eX7_digest_6, eX7_digest_8, eX7_digest_10, eX7_digest_13, eX7_digest_16, eX7_digest_17, eX7_digest_18, eX7_digest_19, eX7_digest_22, eX7_digest_23, eX7_digest_24, eX7_digest_25, eX7_digest_26, eX7_digest_27, eX7_digest_30, eX7_digest_33, eX7_digest_34, eX7_digest_36, eX7_digest_37, eX7_digest_40, eX7_digest_43, eX7_digest_44, eX7_digest_48, eX7_digest_49, eX7_digest_52, eX7_digest_55, eX7_digest_56, eX7_digest_57, eX7_digest_58, eX7_digest_59, eX7_digest_61, eX7_digest_64, eX7_digest_65, eX7_digest_66, eX7_digest_67, eX7_digest_70, eX7_digest_73, eX7_digest_76, eX7_digest_79, eX7_digest_80, eX7_digest_82, eX7_digest_83, eX7_digest_86, eX7_digest_88, eX7_digest_89, eX7_digest_92, eX7_digest_93, eX7_digest_97, eX7_digest_98, eX7_digest_101, eX7_digest_104, eX7_digest_105, eX7_digest_106, eX7_digest_107, eX7_digest_108, eX7_digest_110, eX7_digest_113, eX7_digest_114, eX7_digest_115, eX7_digest_116, eX7_digest_119, eX7_digest_122, eX7_digest_125, eX7_digest_128, eX7_digest_129, eX7_digest_131, eX7_digest_132, eX7_digest_135, eX7_digest_137, eX7_digest_138, eX7_digest_141, eX7_digest_142, eX7_digest_146, eX7_digest_147, eX7_digest_150, eX7_digest_153, eX7_digest_154, eX7_digest_155, eX7_digest_156, eX7_digest_157, eX7_digest_159, eX7_digest_162, eX7_digest_163, eX7_digest_164, eX7_digest_165, eX7_digest_168, eX7_digest_171, eX7_digest_174, eX7_digest_177, eX7_digest_178, eX7_digest_in, q, Option.toList_some, Option.toList_none, List.cons_append, List.nil_append, b2_0, Classical.not_not, false_implies, true_implies, implies_true, true_and, and_true, not_true_eq_false, not_false_eq_true]
      refine o_cel _ (fun l4 => ?_) (R * C) 0 .null (by omega)
      simp only [eX7_digest_0, eX7_digest_3, eX7_digest_4, eX7_digest_6, eX7_digest_8, eX7_digest_10, eX7_digest_13, eX7_digest_16, eX7_digest_17, eX7_digest_18, eX7_digest_19, eX7_digest_22, eX7_digest_23, eX7_digest_24, eX7_digest_25, eX7_digest_26, eX7_digest_27, eX7_digest_30, eX7_digest_33, eX7_digest_34, eX7_digest_36, eX7_digest_37, eX7_digest_40, eX7_digest_43, eX7_digest_44, eX7_digest_48, eX7_digest_49, eX7_digest_52, eX7_digest_55, eX7_digest_56, eX7_digest_57, eX7_digest_58, eX7_digest_59, eX7_digest_61, eX7_digest_64, eX7_digest_65, eX7_digest_66, eX7_digest_67, eX7_digest_70, eX7_digest_73, eX7_digest_76, eX7_digest_79, eX7_digest_80, eX7_digest_82, eX7_digest_83, eX7_digest_86, eX7_digest_88, eX7_digest_89, eX7_digest_92, eX7_digest_93, eX7_digest_97, eX7_digest_98, eX7_digest_101, eX7_digest_104, eX7_digest_105, eX7_digest_106, eX7_digest_107, eX7_digest_108, eX7_digest_110, eX7_digest_113, eX7_digest_114, eX7_digest_115, eX7_digest_116, eX7_digest_119, eX7_digest_122, eX7_digest_125, eX7_digest_128, eX7_digest_129, eX7_digest_131, eX7_digest_132, eX7_digest_135, eX7_digest_137, eX7_digest_138, eX7_digest_141, eX7_digest_142, eX7_digest_146, eX7_digest_147, eX7_digest_150, eX7_digest_153, eX7_digest_154, eX7_digest_155, eX7_digest_156, eX7_digest_157, eX7_digest_159, eX7_digest_162, eX7_digest_163, eX7_digest_164, eX7_digest_165, eX7_digest_168, eX7_digest_171, eX7_digest_174, eX7_digest_177, eX7_digest_178, eX7_digest_in, Option.toList_some, Option.toList_none, List.cons_append, List.nil_append, b2_0, Classical.not_not, false_implies, true_implies, implies_true, true_and, and_true, not_true_eq_false, not_false_eq_true]
      refine o_con _ (fun l4 => ?_) c 0 _ (by omega)
      simp only [eX7_digest_0, eX7_digest_3, eX7_digest_4, eX7_digest_6, eX7_digest_8, eX7_digest_10, eX7_digest_13, eX7_digest_16, eX7_digest_17, eX7_digest_18, eX7_digest_19, eX7_digest_22, eX7_digest_23, eX7_digest_24, eX7_digest_25, eX7_digest_26, eX7_digest_27, eX7_digest_30, eX7_digest_33, eX7_digest_34, eX7_digest_36, eX7_digest_37, eX7_digest_40, eX7_digest_43, eX7_digest_44, eX7_digest_48, eX7_digest_49, eX7_digest_52, eX7_digest_55, eX7_digest_56, eX7_digest_57, eX7_digest_58, eX7_digest_59, eX7_digest_61, eX7_digest_64, eX7_digest_65, eX7_digest_66, eX7_digest_67, eX7_digest_70, eX7_digest_73, eX7_digest_76, eX7_digest_79, eX7_digest_80, eX7_digest_82, eX7_digest_83, eX7_digest_86, eX7_digest_88, eX7_digest_89, eX7_digest_92, eX7_digest_93, eX7_digest_97, eX7_digest_98, eX7_digest_101, eX7_digest_104, eX7_digest_105, eX7_digest_106, eX7_digest_107, eX7_digest_108, eX7_digest_110, eX7_digest_113, eX7_digest_114, eX7_digest_115, eX7_digest_116, eX7_digest_119, eX7_digest_122, eX7_digest_125, eX7_digest_128, eX7_digest_129, eX7_digest_131, eX7_digest_132, eX7_digest_135, eX7_digest_137, eX7_digest_138, eX7_digest_141, eX7_digest_142, eX7_digest_146, eX7_digest_147, eX7_digest_150, eX7_digest_153, eX7_digest_154, eX7_digest_155, eX7_digest_156, eX7_digest_157, eX7_digest_159, eX7_digest_162, eX7_digest_163, eX7_digest_164, eX7_digest_165, eX7_digest_168, eX7_digest_171, eX7_digest_174, eX7_digest_177, eX7_digest_178, eX7_digest_in, Option.toList_some, Option.toList_none, List.cons_append, List.nil_append, b2_0, Classical.not_not, false_implies, true_implies, implies_true, true_and, and_true, not_true_eq_false, not_false_eq_true]
      refine o_trk _ (fun l4 => ?_) t 0 _ (by omega)
      simp only [eX7_digest_0, eX7_digest_3, eX7_digest_4, eX7_digest_6, eX7_digest_8, eX7_digest_10, eX7_digest_13, eX7_digest_16, eX7_digest_17, eX7_digest_18, eX7_digest_19, eX7_digest_22, eX7_digest_23, eX7_digest_24, eX7_digest_25, eX7_digest_26, eX7_digest_27, eX7_digest_30, eX7_digest_33, eX7_digest_34, eX7_digest_36, eX7_digest_37, eX7_digest_40, eX7_digest_43, eX7_digest_44, eX7_digest_48, eX7_digest_49, eX7_digest_52, eX7_digest_55, eX7_digest_56, eX7_digest_57, eX7_digest_58, eX7_digest_59, eX7_digest_61, eX7_digest_64, eX7_digest_65, eX7_digest_66, eX7_digest_67, eX7_digest_70, eX7_digest_73, eX7_digest_76, eX7_digest_79, eX7_digest_80, eX7_digest_82, eX7_digest_83, eX7_digest_86, eX7_digest_88, eX7_digest_89, eX7_digest_92, eX7_digest_93, eX7_digest_97, eX7_digest_98, eX7_digest_101, eX7_digest_104, eX7_digest_105, eX7_digest_106, eX7_digest_107, eX7_digest_108, eX7_digest_110, eX7_digest_113, eX7_digest_114, eX7_digest_115, eX7_digest_116, eX7_digest_119, eX7_digest_122, eX7_digest_125, eX7_digest_128, eX7_digest_129, eX7_digest_131, eX7_digest_132, eX7_digest_135, eX7_digest_137, eX7_digest_138, eX7_digest_141, eX7_digest_142, eX7_digest_146, eX7_digest_147, eX7_digest_150, eX7_digest_153, eX7_digest_154, eX7_digest_155, eX7_digest_156, eX7_digest_157, eX7_digest_159, eX7_digest_162, eX7_digest_163, eX7_digest_164, eX7_digest_165, eX7_digest_168, eX7_digest_171, eX7_digest_174, eX7_digest_177, eX7_digest_178, eX7_digest_in, Option.toList_some, Option.toList_none, List.cons_append, List.nil_append, b2_0, Classical.not_not, false_implies, true_implies, implies_true, true_and, and_true, not_true_eq_false, not_false_eq_true]
      exact hQ
    | succ d ih =>
      intro i hi
      have q : ¬ ((13 : Int32) < nI (6 + i)) := nI_nlt (b := 6 + i) (a := 13) (by omega) (by omega)
      rw [eX7_digest_7]
      simp only [eX7_digest_0, eX7_digest_3, eX7_digest_4, eX7_digest_6, eX7_digest_8, eX7_digest_10, eX7_digest_13, eX7_digest_16, eX7_digest_17, eX7_digest_18, eX7_digest_19, eX7_digest_22, eX7_digest_23, eX7_digest_24, eX7_digest_25, eX7_digest_26, eX7_digest_27, eX7_digest_30, eX7_digest_33, eX7_digest_34, eX7_digest_36, eX7_digest_37, eX7_digest_40, eX7_digest_43, eX7_digest_44, eX7_digest_48, eX7_digest_49, eX7_digest_52, eX7_digest_55, eX7_digest_56, eX7_digest_57, eX7_digest_58, eX7_digest_59, eX7_digest_61, eX7_digest_64, eX7_digest_65, eX7_digest_66, eX7_digest_67, eX7_digest_70, eX7_digest_73, eX7_digest_76, eX7_digest_79, eX7_digest_80, eX7_digest_82, eX7_digest_83, eX7_digest_86, eX7_digest_88, eX7_digest_89, eX7_digest_92, eX7_digest_93, eX7_digest_97, eX7_digest_98, eX7_digest_101, eX7_digest_104, eX7_digest_105, eX7_digest_106, eX7_digest_107, eX7_digest_108, eX7_digest_110, eX7_digest_113, eX7_digest_114, eX7_digest_115, eX7_digest_116, eX7_digest_119, eX7_digest_122, eX7_digest_125, eX7_digest_128, eX7_digest_129, eX7_digest_131, eX7_digest_132, eX7_digest_135, eX7_digest_137, eX7_digest_138, eX7_digest_141, eX7_digest_142, eX7_digest_146, eX7_digest_147, eX7_digest_150, eX7_digest_153, eX7_digest_154, eX7_digest_155, eX7_digest_156, eX7_digest_157, eX7_digest_159, eX7_digest_162, eX7_digest_163, eX7_digest_164, eX7_digest_165, eX7_digest_168, eX7_digest_171, eX7_digest_174, eX7_digest_177, eX7_digest_178, eX7_digest_in, q, hN, nI_clamp (show 6 + i < 2 ^ 31 by omega), vpn (show 6 + i < 316 by omega) (by decide : 316 < 2147483648), nI_1, Option.toList_some, Option.toList_none, List.cons_append, List.nil_append, b2_0, Classical.not_not, false_implies, true_implies, implies_true, true_and, and_true, not_true_eq_false, not_false_eq_true]
      exact ih (i + 1) (by omega)
  simp only [eX7_digest_0, eX7_digest_3, eX7_digest_4, eX7_digest_6, eX7_digest_8, eX7_digest_10, eX7_digest_13, eX7_digest_16, eX7_digest_17, eX7_digest_18, eX7_digest_19, eX7_digest_22, eX7_digest_23, eX7_digest_24, eX7_digest_25, eX7_digest_26, eX7_digest_27, eX7_digest_30, eX7_digest_33, eX7_digest_34, eX7_digest_36, eX7_digest_37, eX7_digest_40, eX7_digest_43, eX7_digest_44, eX7_digest_48, eX7_digest_49, eX7_digest_52, eX7_digest_55, eX7_digest_56, eX7_digest_57, eX7_digest_58, eX7_digest_59, eX7_digest_61, eX7_digest_64, eX7_digest_65, eX7_digest_66, eX7_digest_67, eX7_digest_70, eX7_digest_73, eX7_digest_76, eX7_digest_79, eX7_digest_80, eX7_digest_82, eX7_digest_83, eX7_digest_86, eX7_digest_88, eX7_digest_89, eX7_digest_92, eX7_digest_93, eX7_digest_97, eX7_digest_98, eX7_digest_101, eX7_digest_104, eX7_digest_105, eX7_digest_106, eX7_digest_107, eX7_digest_108, eX7_digest_110, eX7_digest_113, eX7_digest_114, eX7_digest_115, eX7_digest_116, eX7_digest_119, eX7_digest_122, eX7_digest_125, eX7_digest_128, eX7_digest_129, eX7_digest_131, eX7_digest_132, eX7_digest_135, eX7_digest_137, eX7_digest_138, eX7_digest_141, eX7_digest_142, eX7_digest_146, eX7_digest_147, eX7_digest_150, eX7_digest_153, eX7_digest_154, eX7_digest_155, eX7_digest_156, eX7_digest_157, eX7_digest_159, eX7_digest_162, eX7_digest_163, eX7_digest_164, eX7_digest_165, eX7_digest_168, eX7_digest_171, eX7_digest_174, eX7_digest_177, eX7_digest_178, eX7_digest_in, Option.toList_some, Option.toList_none, List.cons_append, List.nil_append, b2_0, Classical.not_not, false_implies, true_implies, implies_true, true_and, and_true, not_true_eq_false, not_false_eq_true]
  exact l1 8 0 (by omega)
theorem step_digest {M : Mm} (hI : Inv M) : StepL kX6_digest kX7_digest [] M := by
  obtain ⟨⟨hR, R, C, cc, t, T, P, D, L, g⟩, -⟩ := id hI
  obtain ⟨⟨⟨r1, r2⟩, ⟨c1, c2⟩, hcc, htt⟩, ⟨⟨t1, t2⟩, ⟨p1, p2⟩, hD, hL⟩, ⟨n0, n1, n2, n3, n4, n5, n8, n10⟩, hF, hSt, hs, hw, hraw, hgr, hpk, hcon, htr⟩ := id g
  have e30 : M.1 3 0 = nI R := (hR.lo (k := 0) (by omega)).trans n0
  have e31 : M.1 3 1 = nI C := (hR.lo (k := 1) (by omega)).trans n1
  have e81 : M.1 8 1 = nI cc := (hR.lo (k := 8) (by omega)).trans n8
  have e105 : M.1 10 5 = nI t := (hR.lo (k := 10) (by omega)).trans n10
  exact combL hI qX6_digest qX7_digest (digN (M.1 52) R C cc t) (fun Q h => c_digest hR g h) (fun M1 Q hM h => m_digest hM g h)
