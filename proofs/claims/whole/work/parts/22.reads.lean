/-! a FRAME, steps 1 to 3: what is read -/
theorem tb_m : ∀ s, s < 256 → ∀ r, r < 8 → (((nI s >>> (nI r &&& 31)) &&& 1 = 1) ↔ s.testBit r = true) := by decide +kernel
theorem tb_c : ∀ s, s < 256 → ∀ r, r < 8 → ((nI s &&& ((1 : Int32) <<< (nI r &&& 31)) = 0) ↔ ¬ s.testBit r = true) := by decide +kernel
def brP (R s r : Nat) : Prop := 0 < r ∧ r + 1 < R ∧ ¬ s.testBit (r - 1) = true ∧ ¬ s.testBit (r + 1) = true
noncomputable def rdF (N : Nat → Int32) (R C s k : Nat) : Option Nat := @ite _ (¬ s.testBit (k / C) = true) (Classical.propDecidable _) (some (16 * (N (18 + k)).toNatClampNeg)) (@ite _ (brP R s (k / C)) (Classical.propDecidable _) (some (8 * ((N (18 + (k - C))).toNatClampNeg + (N (18 + (k + C))).toNatClampNeg))) none)
noncomputable def sgF (N : Nat → Int32) (R C s k : Nat) : Int32 := match rdF N R C s k with
  | some x => nI x - N (82 + k)
  | none => -99999
def tcP (N : Nat → Int32) (R C s T k : Nat) : Prop := (rdF N R C s k).isSome = true ∧ ¬ sgF N R C s k < nI (16 * T)
def Up5 (A : Nat → Int32) (i : Nat) (s p g tc ms : Int32) : Nat → Int32 := fun j => if j = 146 + i then s else if j = 210 + i then p else if j = 82 + i then g else if j = 15 then tc else if j = 16 then ms else A j
noncomputable def rdN (N : Nat → Int32) (R C s T : Nat) : Nat → Nat → Int32
  | 0 => upd (upd N 15 0) 16 0
  | i + 1 => Up5 (rdN N R C s T i) i (sgF N R C s i) (@ite _ (tcP N R C s T i) (Classical.propDecidable _) (nI i) (-1)) (@ite _ (¬ tcP N R C s T i ∧ ¬ s.testBit (i / C) = true) (Classical.propDecidable _) (N (82 + i) + sgF N R C s i / 16) (N (82 + i))) (rdN N R C s T i 15 + @ite _ (tcP N R C s T i) (Classical.propDecidable _) 1 0) (rdN N R C s T i 16 + (if (rdF N R C s i).isSome = true then 0 else 1))
theorem rdN_low {N : Nat → Int32} {R C s T : Nat} : ∀ (i j : Nat), j ≠ 15 → j ≠ 16 → (∀ q, q < i → j ≠ 146 + q ∧ j ≠ 210 + q ∧ j ≠ 82 + q) → rdN N R C s T i j = N j
  | 0, j, h1, h2, _ => by simp [rdN, upd, h1, h2]
  | i + 1, j, h1, h2, h3 => by
    obtain ⟨a, b, c⟩ := h3 i (by omega)
    simp only [rdN, Up5]
    rw [if_neg a, if_neg b, if_neg c, if_neg h1, if_neg h2]
    exact rdN_low i j h1 h2 (fun q hq => h3 q (by omega))
theorem rdN_sig {N : Nat → Int32} {R C s T : Nat} : ∀ (i k : Nat), k < i → i ≤ 64 → rdN N R C s T i (146 + k) = sgF N R C s k
  | 0, _, h, _ => by omega
  | i + 1, k, h, h64 => by
    simp only [rdN, Up5]
    by_cases e : k = i
    · subst e
      rw [if_pos rfl]
    · rw [if_neg (by omega), if_neg (by omega), if_neg (by omega), if_neg (by omega), if_neg (by omega)]
      exact rdN_sig i k (by omega) (by omega)
theorem rdN_pk {N : Nat → Int32} {R C s T : Nat} : ∀ (i k : Nat), k < i → i ≤ 64 → rdN N R C s T i (210 + k) = @ite _ (tcP N R C s T k) (Classical.propDecidable _) (nI k) (-1)
  | 0, _, h, _ => by omega
  | i + 1, k, h, h64 => by
    simp only [rdN, Up5]
    by_cases e : k = i
    · subst e
      rw [if_neg (by omega), if_pos rfl]
    · rw [if_neg (by omega), if_neg (by omega), if_neg (by omega), if_neg (by omega), if_neg (by omega)]
      exact rdN_pk i k (by omega) (by omega)
theorem rdN_gr {N : Nat → Int32} {R C s T : Nat} : ∀ (i k : Nat), k < i → i ≤ 64 → rdN N R C s T i (82 + k) = @ite _ (¬ tcP N R C s T k ∧ ¬ s.testBit (k / C) = true) (Classical.propDecidable _) (N (82 + k) + sgF N R C s k / 16) (N (82 + k))
  | 0, _, h, _ => by omega
  | i + 1, k, h, h64 => by
    simp only [rdN, Up5]
    by_cases e : k = i
    · subst e
      rw [if_neg (by omega), if_neg (by omega), if_pos rfl]
    · rw [if_neg (by omega), if_neg (by omega), if_neg (by omega), if_neg (by omega), if_neg (by omega)]
      exact rdN_gr i k (by omega) (by omega)
theorem rdF_0 {N : Nat → Int32} {R C s k : Nat} (h : ¬ s.testBit (k / C) = true) : rdF N R C s k = some (16 * (N (18 + k)).toNatClampNeg) := by
  unfold rdF
  rw [if_pos h]
theorem rdF_1 {N : Nat → Int32} {R C s k : Nat} (h : s.testBit (k / C) = true) (hb : brP R s (k / C)) : rdF N R C s k = some (8 * ((N (18 + (k - C))).toNatClampNeg + (N (18 + (k + C))).toNatClampNeg)) := by
  unfold rdF
  rw [if_neg (fun z => z h), if_pos hb]
theorem rdF_2 {N : Nat → Int32} {R C s k : Nat} (h : s.testBit (k / C) = true) (hb : ¬ brP R s (k / C)) : rdF N R C s k = none := by
  unfold rdF
  rw [if_neg (fun z => z h), if_neg hb]
/-- what is read is small; a signal isn't the mark of a missing one -/
theorem rdF_le {N : Nat → Int32} {R C c t T P D L s k x : Nat} (g : Gd N R C c t T P D L) (hk : k < R * C) (h : rdF N R C s k = some x) : x ≤ 15984 := by
  obtain ⟨⟨⟨r1, r2⟩, ⟨c1, c2⟩, -, -⟩, -, -, -, -, -, -, hraw, -⟩ := id g
  have h64 := rc_le r2 c2
  have rw_ : ∀ q, q < 64 → (N (18 + q)).toNatClampNeg ≤ 999 := fun q hq => by
    obtain ⟨y, y1, y2⟩ := hraw q hq
    rw [y2, nI_clamp (by omega)]
    exact y1
  by_cases h1 : s.testBit (k / C) = true
  · by_cases h2 : brP R s (k / C)
    · rw [rdF_1 h1 h2] at h
      have hr : k / C + 1 < R := h2.2.1
      have hkc : k < (k / C + 1) * C := by
        have := Nat.div_add_mod k C
        have := Nat.mod_lt k (show 0 < C by omega)
        rw [Nat.add_mul, Nat.one_mul, Nat.mul_comm]
        omega
      have hle : (k / C + 1 + 1) * C ≤ R * C := Nat.mul_le_mul_right C (by omega)
      rw [Nat.add_mul, Nat.one_mul] at hle
      have a := rw_ (k - C) (by omega)
      have b := rw_ (k + C) (by omega)
      cases h
      omega
    · rw [rdF_2 h1 h2] at h
      cases h
  · rw [rdF_0 h1] at h
    have a := rw_ k (by omega)
    cases h
    omega
theorem sg_ne {x g : Nat} (hx : x ≤ 15984) (hg : g ≤ 15984) : ¬ (nI x - nI g = -99999) := by
  intro h
  have := congrArg Int32.toInt h
  rw [pk_sub_toInt (by omega) (by omega), show (-99999 : Int32).toInt = -99999 by decide] at this
  omega
theorem nI_ne_no {x : Nat} (hx : x ≤ 15984) : ¬ (nI x = -99999) := by
  intro h
  have := congrArg Int32.toInt h
  rw [nI_toInt (by omega), show (-99999 : Int32).toInt = -99999 by decide] at this
  omega
theorem m_readOf {Q : Qt} {M : Mm} {N A : Nat → Int32} {R C c t T P D L s k : Nat} (g : Gd N R C c t T P D L) (hs : s < 2 ^ R) (n14 : N 14 = nI s) (hk : k < R * C) (hA : M.1 52 = A) (hl : ∀ j, j < 82 → j ≠ 15 → j ≠ 16 → A j = N j) (hQ : Q (some (.int (match rdF N R C s k with | some x => nI x | none => -99999))) M) : kX7_readOf [.ref 51, .int (nI k)] M Q := by
  obtain ⟨⟨⟨r1, r2⟩, ⟨c1, c2⟩, -, -⟩, -, ⟨n0, n1, n2, n3, n4, n5, n8, n10⟩, -, -, -, -, hraw, -⟩ := id g
  have h64 := rc_le r2 c2
  have s8 := pow_R r2
  have a0 : A 0 = nI R := (hl 0 (by omega) (by omega) (by omega)).trans n0
  have a1 : A 1 = nI C := (hl 1 (by omega) (by omega) (by omega)).trans n1
  have a14 : A 14 = nI s := (hl 14 (by omega) (by omega) (by omega)).trans n14
  have rw_ : ∀ q, q < 64 → N (18 + q) = nI (N (18 + q)).toNatClampNeg := fun q hq => by
    obtain ⟨y, y1, y2⟩ := hraw q hq
    rw [y2, nI_clamp (by omega)]
  have c0 : ¬ (nI C = 0) := nI_ne0 (by omega) (by omega)
  have hd : nI k / nI C = nI (k / C) := pk_div (by omega) (by omega) (by omega)
  have hrow : k / C < R := Nat.div_lt_of_lt_mul (by rw [Nat.mul_comm]; exact hk)
  have tb := tb_m s (by omega) (k / C) (by omega)
  have e18 : ∀ q, q < 64 → A (18 + q) = nI (N (18 + q)).toNatClampNeg := fun q hq => (hl _ (by omega) (by omega) (by omega)).trans (rw_ q hq)
  by_cases h1 : s.testBit (k / C) = true
  · have t1 := tb.mpr h1
    by_cases h2 : brP R s (k / C)
    · obtain ⟨b1, b2, b3, b4⟩ := id h2
      rw [rdF_1 h1 h2] at hQ
      have tu : ¬ ((nI s >>> (nI (k / C - 1) &&& 31)) &&& 1 = 1) := fun z => b3 ((tb_m s (by omega) (k / C - 1) (by omega)).mp z)
      have td : ¬ ((nI s >>> (nI (k / C + 1) &&& 31)) &&& 1 = 1) := fun z => b4 ((tb_m s (by omega) (k / C + 1) (by omega)).mp z)
      have hkc : k < (k / C + 1) * C := by
        have := Nat.div_add_mod k C
        have := Nat.mod_lt k (show 0 < C by omega)
        rw [Nat.add_mul, Nat.one_mul, Nat.mul_comm]
        omega
      have hCk : C ≤ k := by
        have h3 : 1 * C ≤ k / C * C := Nat.mul_le_mul_right C b1
        have := Nat.div_mul_le_self k C
        omega
      have hle : (k / C + 1 + 1) * C ≤ R * C := Nat.mul_le_mul_right C (by omega)
      rw [Nat.add_mul, Nat.one_mul] at hle
      have p0 : ¬ (nI (k / C) ≤ 0) := nI_nle b1 (by omega)
      have p1 : nI (k / C) - 1 = nI (k / C - 1) := nI_p1 b1
      have p2 : 0 ≤ nI (k / C + 1) ∧ nI (k / C + 1) ≤ nI R - 1 := ⟨nI0le _ (by omega), by rw [nI_p1 (by omega)]; exact nI_le (by omega) (by omega)⟩
      have q1 : nI (18 + k) - nI C = nI (18 + (k - C)) := by rw [pk_sub (by omega)]; congr 1; omega
      have q2 : nI (18 + k) + nI C = nI (18 + (k + C)) := by rw [nI_add, Nat.add_assoc]
      have h10 : ¬ ((1 : Int32) = 0) := by decide
      simp only [eX7_readOf_0, eX7_readOf_1, eX7_readOf_2, eX7_readOf_5, eX7_readOf_6, eX7_readOf_7, eX7_readOf_8, eX7_readOf_9, eX7_readOf_10, eX7_readOf_13, eX7_readOf_15, eX7_readOf_16, eX7_readOf_17, eX7_readOf_20, eX7_readOf_23, eX7_readOf_25, eX7_readOf_26, eX7_readOf_29, eX7_readOf_31, eX7_readOf_32, eX7_readOf_33, eX7_readOf_34, eX7_readOf_35, eX7_readOf_36, eX7_readOf_37, eX7_readOf_40, eX7_readOf_41, eX7_readOf_42, eX7_readOf_43, eX7_readOf_44, eX7_readOf_47, eX7_readOf_50, eX7_readOf_51, eX7_readOf_54, eX7_readOf_56, eX7_readOf_57, eX7_readOf_58, eX7_readOf_59, eX7_readOf_60, eX7_readOf_63, eX7_readOf_66, eX7_readOf_67, eX7_readOf_70, eX7_readOf_72, eX7_readOf_73, eX7_readOf_74, eX7_readOf_75, eX7_readOf_76, eX7_readOf_79, eX7_readOf_82, eX7_readOf_83, eX7_readOf_86, eX7_readOf_87, eX7_readOf_88, eX7_readOf_89, eX7_readOf_92, eX7_readOf_94, eX7_readOf_95, eX7_readOf_98, eX7_readOf_100, eX7_readOf_101, eX7_readOf_102, eX7_readOf_103, eX7_readOf_106, eX7_readOf_107, eX7_readOf_108, eX7_readOf_109, eX7_readOf_110, eX7_readOf_111, eX7_readOf_114, eX7_readOf_116, eX7_readOf_117, eX7_readOf_118, eX7_readOf_119, eX7_readOf_122, eX7_readOf_123, eX7_readOf_124, eX7_readOf_125, eX7_readOf_126, eX7_readOf_127, eX7_readOf_128, eX7_readOf_131, eX7_readOf_133, eX7_readOf_in, q_mhas, q_isRow, hA, v0, v1, v14, tn_0, tn_1, tn_14, a0, a1, a14, c0, hd, t1, p0, p1, p2, nI_1, tu, td, a18, q1, q2, h10, nI_clamp (show 18 + (k - C) < 2 ^ 31 by omega), nI_clamp (show 18 + (k + C) < 2 ^ 31 by omega), vpn (show 18 + (k - C) < 316 by omega) (by decide : 316 < 2147483648), vpn (show 18 + (k + C) < 316 by omega) (by decide : 316 < 2147483648), e18 (k - C) (by omega), e18 (k + C) (by omega), Option.toList_some, Option.toList_none, List.cons_append, List.nil_append, b2_0, Classical.not_not, false_implies, true_implies, implies_true, true_and, and_true, not_true_eq_false, not_false_eq_true]
      rw [nI_add, show (8 : Int32) = nI 8 from rfl, pk_mul]
      exact hQ
    · rw [rdF_2 h1 h2] at hQ
      simp only [eX7_readOf_0, eX7_readOf_1, eX7_readOf_2, eX7_readOf_5, eX7_readOf_6, eX7_readOf_7, eX7_readOf_8, eX7_readOf_9, eX7_readOf_10, eX7_readOf_13, eX7_readOf_15, eX7_readOf_16, eX7_readOf_17, eX7_readOf_20, eX7_readOf_23, eX7_readOf_25, eX7_readOf_26, eX7_readOf_29, eX7_readOf_31, eX7_readOf_32, eX7_readOf_33, eX7_readOf_34, eX7_readOf_35, eX7_readOf_36, eX7_readOf_37, eX7_readOf_40, eX7_readOf_41, eX7_readOf_42, eX7_readOf_43, eX7_readOf_44, eX7_readOf_47, eX7_readOf_50, eX7_readOf_51, eX7_readOf_54, eX7_readOf_56, eX7_readOf_57, eX7_readOf_58, eX7_readOf_59, eX7_readOf_60, eX7_readOf_63, eX7_readOf_66, eX7_readOf_67, eX7_readOf_70, eX7_readOf_72, eX7_readOf_73, eX7_readOf_74, eX7_readOf_75, eX7_readOf_76, eX7_readOf_79, eX7_readOf_82, eX7_readOf_83, eX7_readOf_86, eX7_readOf_87, eX7_readOf_88, eX7_readOf_89, eX7_readOf_92, eX7_readOf_94, eX7_readOf_95, eX7_readOf_98, eX7_readOf_100, eX7_readOf_101, eX7_readOf_102, eX7_readOf_103, eX7_readOf_106, eX7_readOf_107, eX7_readOf_108, eX7_readOf_109, eX7_readOf_110, eX7_readOf_111, eX7_readOf_114, eX7_readOf_116, eX7_readOf_117, eX7_readOf_118, eX7_readOf_119, eX7_readOf_122, eX7_readOf_123, eX7_readOf_124, eX7_readOf_125, eX7_readOf_126, eX7_readOf_127, eX7_readOf_128, eX7_readOf_131, eX7_readOf_133, eX7_readOf_in, q_mhas, q_isRow, hA, v0, v1, v14, tn_0, tn_1, tn_14, a0, a1, a14, c0, hd, t1, nI_1, Option.toList_some, Option.toList_none, List.cons_append, List.nil_append, b2_0, Classical.not_not, false_implies, true_implies, implies_true, true_and, and_true, not_true_eq_false, not_false_eq_true]
      refine ⟨fun _ => hQ, fun z1 => ⟨fun _ => hQ, fun z2 => ⟨fun _ => hQ, fun z3 => ⟨fun _ => hQ, fun z4 => absurd ?_ h2⟩⟩⟩⟩
      have y1 : 0 < k / C := by
        rcases Nat.eq_zero_or_pos (k / C) with e | e
        · rw [e] at z1
          exact absurd (by decide) z1
        · exact e
      have y2 : k / C + 1 < R := by
        have := z2.2
        rw [nI_p1 (by omega)] at this
        have := (nI_leI (by omega) (by omega)).mp this
        omega
      rw [nI_p1 y1] at z3
      exact ⟨y1, y2, fun z => z3 ((tb_m s (by omega) (k / C - 1) (by omega)).mpr z), fun z => z4 ((tb_m s (by omega) (k / C + 1) (by omega)).mpr z)⟩
  · have t1 : ¬ ((nI s >>> (nI (k / C) &&& 31)) &&& 1 = 1) := fun z => h1 (tb.mp z)
    rw [rdF_0 h1] at hQ
    simp only [eX7_readOf_0, eX7_readOf_1, eX7_readOf_2, eX7_readOf_5, eX7_readOf_6, eX7_readOf_7, eX7_readOf_8, eX7_readOf_9, eX7_readOf_10, eX7_readOf_13, eX7_readOf_15, eX7_readOf_16, eX7_readOf_17, eX7_readOf_20, eX7_readOf_23, eX7_readOf_25, eX7_readOf_26, eX7_readOf_29, eX7_readOf_31, eX7_readOf_32, eX7_readOf_33, eX7_readOf_34, eX7_readOf_35, eX7_readOf_36, eX7_readOf_37, eX7_readOf_40, eX7_readOf_41, eX7_readOf_42, eX7_readOf_43, eX7_readOf_44, eX7_readOf_47, eX7_readOf_50, eX7_readOf_51, eX7_readOf_54, eX7_readOf_56, eX7_readOf_57, eX7_readOf_58, eX7_readOf_59, eX7_readOf_60, eX7_readOf_63, eX7_readOf_66, eX7_readOf_67, eX7_readOf_70, eX7_readOf_72, eX7_readOf_73, eX7_readOf_74, eX7_readOf_75, eX7_readOf_76, eX7_readOf_79, eX7_readOf_82, eX7_readOf_83, eX7_readOf_86, eX7_readOf_87, eX7_readOf_88, eX7_readOf_89, eX7_readOf_92, eX7_readOf_94, eX7_readOf_95, eX7_readOf_98, eX7_readOf_100, eX7_readOf_101, eX7_readOf_102, eX7_readOf_103, eX7_readOf_106, eX7_readOf_107, eX7_readOf_108, eX7_readOf_109, eX7_readOf_110, eX7_readOf_111, eX7_readOf_114, eX7_readOf_116, eX7_readOf_117, eX7_readOf_118, eX7_readOf_119, eX7_readOf_122, eX7_readOf_123, eX7_readOf_124, eX7_readOf_125, eX7_readOf_126, eX7_readOf_127, eX7_readOf_128, eX7_readOf_131, eX7_readOf_133, eX7_readOf_in, q_mhas, hA, v1, v14, tn_1, tn_14, a1, a14, c0, hd, t1, a18, nI_clamp (show 18 + k < 2 ^ 31 by omega), vpn (show 18 + k < 316 by omega) (by decide : 316 < 2147483648), e18 k (by omega), Option.toList_some, Option.toList_none, List.cons_append, List.nil_append, b2_0, Classical.not_not, false_implies, true_implies, implies_true, true_and, and_true, not_true_eq_false, not_false_eq_true]
    rw [show (16 : Int32) = nI 16 from rfl, pk_mul]
    exact hQ
theorem up_1 {A : Nat → Int32} {i : Nat} {s p : Int32} {tc ms : Int32} : upd (upd (upd (upd A (146 + i) s) (210 + i) p) 15 tc) 16 ms = Up5 A i s p (A (82 + i)) tc ms := by
  funext j
  simp only [upd, Up5]
  rcases (show j = 146 + i ∨ j = 210 + i ∨ j = 82 + i ∨ j = 15 ∨ j = 16 ∨ (j ≠ 146 + i ∧ j ≠ 210 + i ∧ j ≠ 82 + i ∧ j ≠ 15 ∧ j ≠ 16) by omega) with rfl | rfl | rfl | rfl | rfl | ⟨a, b, c, d, e⟩
  · rw [if_neg (by omega), if_neg (by omega), if_neg (by omega), if_pos rfl, if_pos rfl]
  · rw [if_neg (by omega), if_neg (by omega), if_pos rfl, if_neg (by omega), if_pos rfl]
  · rw [if_neg (by omega), if_neg (by omega), if_neg (by omega), if_neg (by omega), if_neg (by omega), if_neg (by omega), if_pos rfl]
  · rw [if_neg (by omega), if_pos rfl, if_neg (by omega), if_neg (by omega), if_neg (by omega), if_pos rfl]
  · rw [if_pos rfl, if_neg (by omega), if_neg (by omega), if_neg (by omega), if_neg (by omega), if_pos rfl]
  · simp only [a, b, c, d, e, if_false]
theorem up_g {A : Nat → Int32} {i : Nat} {s p g g' : Int32} {tc ms : Int32} : upd (Up5 A i s p g tc ms) (82 + i) g' = Up5 A i s p g' tc ms := by
  funext j
  simp only [upd, Up5]
  by_cases h : j = 82 + i
  · subst h
    rw [if_pos rfl, if_neg (by omega), if_neg (by omega), if_pos rfl]
  · simp only [h, if_false]
theorem rdN_s {N : Nat → Int32} {R C s T i : Nat} {sg p g tc ms : Int32} (h1 : sg = sgF N R C s i) (h2 : p = @ite _ (tcP N R C s T i) (Classical.propDecidable _) (nI i) (-1)) (h3 : g = @ite _ (¬ tcP N R C s T i ∧ ¬ s.testBit (i / C) = true) (Classical.propDecidable _) (N (82 + i) + sgF N R C s i / 16) (N (82 + i))) (h4 : tc = rdN N R C s T i 15 + @ite _ (tcP N R C s T i) (Classical.propDecidable _) 1 0) (h5 : ms = rdN N R C s T i 16 + (if (rdF N R C s i).isSome = true then 0 else 1)) : Up5 (rdN N R C s T i) i sg p g tc ms = rdN N R C s T (i + 1) := by
  rw [h1, h2, h3, h4, h5]
  rfl
theorem upd_lo {f : Nat → Int32} {k a i : Nat} {v : Int32} (h : k < a) : upd f (a + i) v k = f k := by
  simp only [upd]
  rw [if_neg (by omega)]
theorem upd_ai {f : Nat → Int32} {a b i : Nat} {v : Int32} (h : b ≠ a) : upd f (a + i) v (b + i) = f (b + i) := by
  simp only [upd]
  rw [if_neg (by omega)]
theorem upd_hi {f : Nat → Int32} {k a i : Nat} {v : Int32} (h : k < a) : upd f k v (a + i) = f (a + i) := by
  simp only [upd]
  rw [if_neg (by omega)]
theorem m_reads {Q : Qt} {M : Mm} {N : Nat → Int32} {R C c t T P D L s : Nat} (g : Gd N R C c t T P D L) (hs : s < 2 ^ R) (n14 : N 14 = nI s) (hN : M.1 52 = N) (hQ : ∀ M', FrN M M' → M'.1 52 = rdN N R C s T (R * C) → Q none M') : kX7_reads [.ref 51] M Q := by
  obtain ⟨⟨⟨r1, r2⟩, ⟨c1, c2⟩, -, -⟩, ⟨⟨t1, t2⟩, -⟩, ⟨n0, n1, n2, n3, n4, n5, n8, n10⟩, -, -, -, -, hraw, hgr, -⟩ := id g
  have h64 := rc_le r2 c2
  have s8 := pow_R r2
  have lp : ∀ d i (M1 : Mm) (l2 l3 l4 : Value), i + d = R * C → FrN M M1 → M1.1 52 = rdN N R C s T i → V pgX7_reads Q 18 [.ref 51, .int (nI i), l2, l3, l4] [] M1 := by
    intro d
    induction d with
    | zero =>
      intro i M1 l2 l3 l4 hi hF hA
      have : i = R * C := by omega
      subst this
      have a0 : rdN N R C s T (R * C) 0 = nI R := (rdN_low _ _ (by omega) (by omega) (fun q hq => by omega)).trans n0
      have a1 : rdN N R C s T (R * C) 1 = nI C := (rdN_low _ _ (by omega) (by omega) (fun q hq => by omega)).trans n1
      rw [eX7_reads_18]
      simp only [eX7_reads_0, eX7_reads_1, eX7_reads_4, eX7_reads_6, eX7_reads_7, eX7_reads_8, eX7_reads_9, eX7_reads_12, eX7_reads_14, eX7_reads_15, eX7_reads_16, eX7_reads_17, eX7_reads_19, eX7_reads_20, eX7_reads_23, eX7_reads_26, eX7_reads_27, eX7_reads_28, eX7_reads_31, eX7_reads_32, eX7_reads_33, eX7_reads_35, eX7_reads_38, eX7_reads_40, eX7_reads_43, eX7_reads_44, eX7_reads_45, eX7_reads_48, eX7_reads_50, eX7_reads_51, eX7_reads_52, eX7_reads_53, eX7_reads_54, eX7_reads_55, eX7_reads_56, eX7_reads_58, eX7_reads_61, eX7_reads_62, eX7_reads_64, eX7_reads_65, eX7_reads_68, eX7_reads_69, eX7_reads_70, eX7_reads_71, eX7_reads_74, eX7_reads_75, eX7_reads_78, eX7_reads_79, eX7_reads_81, eX7_reads_82, eX7_reads_85, eX7_reads_88, eX7_reads_89, eX7_reads_90, eX7_reads_91, eX7_reads_92, eX7_reads_93, eX7_reads_96, eX7_reads_99, eX7_reads_100, eX7_reads_101, eX7_reads_103, eX7_reads_106, eX7_reads_107, eX7_reads_110, eX7_reads_111, eX7_reads_112, eX7_reads_113, eX7_reads_116, eX7_reads_118, eX7_reads_119, eX7_reads_120, eX7_reads_122, eX7_reads_125, eX7_reads_126, eX7_reads_129, eX7_reads_130, eX7_reads_131, eX7_reads_132, eX7_reads_133, eX7_reads_136, eX7_reads_138, eX7_reads_139, eX7_reads_140, eX7_reads_141, eX7_reads_143, eX7_reads_146, eX7_reads_147, eX7_reads_150, eX7_reads_151, eX7_reads_152, eX7_reads_153, eX7_reads_155, eX7_reads_158, eX7_reads_159, eX7_reads_162, eX7_reads_164, eX7_reads_165, eX7_reads_166, eX7_reads_167, eX7_reads_170, eX7_reads_171, eX7_reads_172, eX7_reads_173, eX7_reads_176, eX7_reads_179, eX7_reads_180, eX7_reads_183, eX7_reads_185, eX7_reads_186, eX7_reads_187, eX7_reads_188, eX7_reads_189, eX7_reads_190, eX7_reads_192, eX7_reads_193, eX7_reads_194, eX7_reads_195, eX7_reads_198, eX7_reads_201, eX7_reads_in, q_mcells, hA, a0, a1, pk_mul, Int32.le_refl, Option.toList_some, Option.toList_none, List.cons_append, List.nil_append, b2_0, Classical.not_not, false_implies, true_implies, implies_true, true_and, and_true, not_true_eq_false, not_false_eq_true]
      exact hQ M1 hF hA
    | succ d ih =>
      intro i M1 l2 l3 l4 hi hF hA
      have lw : ∀ j, j ≠ 15 → j ≠ 16 → j < 82 ∨ j = 82 + i → rdN N R C s T i j = N j := fun j z1 z2 z3 => rdN_low i j z1 z2 (fun q hq => by omega)
      have a0 := (lw 0 (by omega) (by omega) (by omega)).trans n0
      have a1 := (lw 1 (by omega) (by omega) (by omega)).trans n1
      have a2' := (lw 2 (by omega) (by omega) (by omega)).trans n2
      have a14 := (lw 14 (by omega) (by omega) (by omega)).trans n14
      have a82' := lw (82 + i) (by omega) (by omega) (by omega)
      obtain ⟨y, y1, y2⟩ := hgr i (by omega)
      have c0 : ¬ (nI C = 0) := nI_ne0 (by omega) (by omega)
      have hd : nI i / nI C = nI (i / C) := pk_div (by omega) (by omega) (by omega)
      have hrow : i / C < R := Nat.div_lt_of_lt_mul (by rw [Nat.mul_comm]; omega)
      have tb := tb_m s (by omega) (i / C) (by omega)
      have h16 : ¬ ((16 : Int32) = 0) := by decide
      have h10 : ¬ ((1 : Int32) = 0) := by decide
      have e16T : (16 : Int32) * nI T = nI (16 * T) := pk_mul 16 T
      have zz : ∀ x : Int32, x + 0 = x := fun x => by simp
      have cl1 : (nI (146 + i)).toNatClampNeg = 146 + i := nI_clamp (by omega)
      have cl2 : (nI (210 + i)).toNatClampNeg = 210 + i := nI_clamp (by omega)
      have cl3 : (nI (82 + i)).toNatClampNeg = 82 + i := nI_clamp (by omega)
      have vp1 : vp_in (nI (146 + i)) 316 := vpn (by omega) (by decide)
      have vp2 : vp_in (nI (210 + i)) 316 := vpn (by omega) (by decide)
      have vp3 : vp_in (nI (82 + i)) 316 := vpn (by omega) (by decide)
      rw [eX7_reads_18]
      simp only [eX7_reads_0, eX7_reads_1, eX7_reads_4, eX7_reads_6, eX7_reads_7, eX7_reads_8, eX7_reads_9, eX7_reads_12, eX7_reads_14, eX7_reads_15, eX7_reads_16, eX7_reads_17, eX7_reads_19, eX7_reads_20, eX7_reads_23, eX7_reads_26, eX7_reads_27, eX7_reads_28, eX7_reads_31, eX7_reads_32, eX7_reads_33, eX7_reads_35, eX7_reads_38, eX7_reads_40, eX7_reads_43, eX7_reads_44, eX7_reads_45, eX7_reads_48, eX7_reads_50, eX7_reads_51, eX7_reads_52, eX7_reads_53, eX7_reads_54, eX7_reads_55, eX7_reads_56, eX7_reads_58, eX7_reads_61, eX7_reads_62, eX7_reads_64, eX7_reads_65, eX7_reads_68, eX7_reads_69, eX7_reads_70, eX7_reads_71, eX7_reads_74, eX7_reads_75, eX7_reads_78, eX7_reads_79, eX7_reads_81, eX7_reads_82, eX7_reads_85, eX7_reads_88, eX7_reads_89, eX7_reads_90, eX7_reads_91, eX7_reads_92, eX7_reads_93, eX7_reads_96, eX7_reads_99, eX7_reads_100, eX7_reads_101, eX7_reads_103, eX7_reads_106, eX7_reads_107, eX7_reads_110, eX7_reads_111, eX7_reads_112, eX7_reads_113, eX7_reads_116, eX7_reads_118, eX7_reads_119, eX7_reads_120, eX7_reads_122, eX7_reads_125, eX7_reads_126, eX7_reads_129, eX7_reads_130, eX7_reads_131, eX7_reads_132, eX7_reads_133, eX7_reads_136, eX7_reads_138, eX7_reads_139, eX7_reads_140, eX7_reads_141, eX7_reads_143, eX7_reads_146, eX7_reads_147, eX7_reads_150, eX7_reads_151, eX7_reads_152, eX7_reads_153, eX7_reads_155, eX7_reads_158, eX7_reads_159, eX7_reads_162, eX7_reads_164, eX7_reads_165, eX7_reads_166, eX7_reads_167, eX7_reads_170, eX7_reads_171, eX7_reads_172, eX7_reads_173, eX7_reads_176, eX7_reads_179, eX7_reads_180, eX7_reads_183, eX7_reads_185, eX7_reads_186, eX7_reads_187, eX7_reads_188, eX7_reads_189, eX7_reads_190, eX7_reads_192, eX7_reads_193, eX7_reads_194, eX7_reads_195, eX7_reads_198, eX7_reads_201, eX7_reads_in, q_mcells, hA, a0, a1, pk_mul, nI_ge (show i < R * C by omega) (show R * C < 2 ^ 31 by omega), Option.toList_some, Option.toList_none, List.cons_append, List.nil_append, b2_0, Classical.not_not, false_implies, true_implies, implies_true, true_and, and_true, not_true_eq_false, not_false_eq_true]
      refine m_readOf g hs n14 (by omega) hA (fun j z1 z2 z3 => lw j z2 z3 (by omega)) ?_
      have nx : ∀ (M2 : Mm) (l2 l3 l4 : Value), FrN M M2 → M2.1 52 = rdN N R C s T (i + 1) → V pgX7_reads Q 18 [.ref 51, .int (nI (i + 1)), l2, l3, l4] [] M2 := fun M2 l2 l3 l4 => ih (i + 1) M2 l2 l3 l4 (by omega)
      cases hr : rdF N R C s i with
      | none =>
        have hsg : sgF N R C s i = -99999 := by simp only [sgF, hr]
        have htc : ¬ tcP N R C s T i := fun z => by
          have := z.1
          rw [hr] at this
          cases this
        have hlost : s.testBit (i / C) = true := by
          apply Classical.byContradiction
          intro z
          rw [rdF_0 z] at hr
          cases hr
        have t1' := tb.mpr hlost
        simp only [eX7_reads_0, eX7_reads_1, eX7_reads_4, eX7_reads_6, eX7_reads_7, eX7_reads_8, eX7_reads_9, eX7_reads_12, eX7_reads_14, eX7_reads_15, eX7_reads_16, eX7_reads_17, eX7_reads_19, eX7_reads_20, eX7_reads_23, eX7_reads_26, eX7_reads_27, eX7_reads_28, eX7_reads_31, eX7_reads_32, eX7_reads_33, eX7_reads_35, eX7_reads_38, eX7_reads_40, eX7_reads_43, eX7_reads_44, eX7_reads_45, eX7_reads_48, eX7_reads_50, eX7_reads_51, eX7_reads_52, eX7_reads_53, eX7_reads_54, eX7_reads_55, eX7_reads_56, eX7_reads_58, eX7_reads_61, eX7_reads_62, eX7_reads_64, eX7_reads_65, eX7_reads_68, eX7_reads_69, eX7_reads_70, eX7_reads_71, eX7_reads_74, eX7_reads_75, eX7_reads_78, eX7_reads_79, eX7_reads_81, eX7_reads_82, eX7_reads_85, eX7_reads_88, eX7_reads_89, eX7_reads_90, eX7_reads_91, eX7_reads_92, eX7_reads_93, eX7_reads_96, eX7_reads_99, eX7_reads_100, eX7_reads_101, eX7_reads_103, eX7_reads_106, eX7_reads_107, eX7_reads_110, eX7_reads_111, eX7_reads_112, eX7_reads_113, eX7_reads_116, eX7_reads_118, eX7_reads_119, eX7_reads_120, eX7_reads_122, eX7_reads_125, eX7_reads_126, eX7_reads_129, eX7_reads_130, eX7_reads_131, eX7_reads_132, eX7_reads_133, eX7_reads_136, eX7_reads_138, eX7_reads_139, eX7_reads_140, eX7_reads_141, eX7_reads_143, eX7_reads_146, eX7_reads_147, eX7_reads_150, eX7_reads_151, eX7_reads_152, eX7_reads_153, eX7_reads_155, eX7_reads_158, eX7_reads_159, eX7_reads_162, eX7_reads_164, eX7_reads_165, eX7_reads_166, eX7_reads_167, eX7_reads_170, eX7_reads_171, eX7_reads_172, eX7_reads_173, eX7_reads_176, eX7_reads_179, eX7_reads_180, eX7_reads_183, eX7_reads_185, eX7_reads_186, eX7_reads_187, eX7_reads_188, eX7_reads_189, eX7_reads_190, eX7_reads_192, eX7_reads_193, eX7_reads_194, eX7_reads_195, eX7_reads_198, eX7_reads_201, eX7_reads_in, q_mhas, hA, setI_at, upd_at, upd_ne, upd_lo, upd_ai, upd_hi, ne_eq, Nat.reduceLT, Nat.reduceEqDiff, a0, a1, a14, a82',  a82, a146, a210, cl1, cl2, cl3, vp1, vp2, vp3, v1, v14, v15, v16, tn_1, tn_14, tn_15, tn_16, h10, hd, c0, nI_1, zz, Option.toList_some, Option.toList_none, List.cons_append, List.nil_append, b2_0, Classical.not_not, false_implies, true_implies, implies_true, true_and, and_true, not_true_eq_false, not_false_eq_true]
        have nr := nx (setI (setI (setI (setI M1 52 (146 + i) (-99999)) 52 (210 + i) (-1)) 52 15 (rdN N R C s T i 15)) 52 16 (rdN N R C s T i 16 + 1)) (.int (-99999)) (.int (-99999)) (.int 0) ((((hF.set (by omega)).set (by omega)).set (by omega)).set (by omega)) (by
          rw [setI_at, setI_at, setI_at, setI_at, hA, up_1]
          exact rdN_s hsg.symm (by rw [if_neg htc]) (by rw [if_neg (fun z => z.2 hlost)]; exact a82') (by rw [if_neg htc, zz]) (by rw [hr]; rfl))
        simp only [t1', Option.toList_some, Option.toList_none, List.cons_append, List.nil_append, b2_0, Classical.not_not, false_implies, true_implies, implies_true, true_and, and_true, not_true_eq_false, not_false_eq_true]
        exact nr
      | some x =>
        have hx := rdF_le g (by omega) hr
        have hsg : sgF N R C s i = nI x - nI y := by simp only [sgF, hr, y2]
        have hne := nI_ne_no hx
        have hne2 := sg_ne hx y1
        by_cases htc : nI x - nI y < nI (16 * T)
        · have hnt : ¬ tcP N R C s T i := fun z => z.2 (by rw [hsg]; exact htc)
          simp only [eX7_reads_0, eX7_reads_1, eX7_reads_4, eX7_reads_6, eX7_reads_7, eX7_reads_8, eX7_reads_9, eX7_reads_12, eX7_reads_14, eX7_reads_15, eX7_reads_16, eX7_reads_17, eX7_reads_19, eX7_reads_20, eX7_reads_23, eX7_reads_26, eX7_reads_27, eX7_reads_28, eX7_reads_31, eX7_reads_32, eX7_reads_33, eX7_reads_35, eX7_reads_38, eX7_reads_40, eX7_reads_43, eX7_reads_44, eX7_reads_45, eX7_reads_48, eX7_reads_50, eX7_reads_51, eX7_reads_52, eX7_reads_53, eX7_reads_54, eX7_reads_55, eX7_reads_56, eX7_reads_58, eX7_reads_61, eX7_reads_62, eX7_reads_64, eX7_reads_65, eX7_reads_68, eX7_reads_69, eX7_reads_70, eX7_reads_71, eX7_reads_74, eX7_reads_75, eX7_reads_78, eX7_reads_79, eX7_reads_81, eX7_reads_82, eX7_reads_85, eX7_reads_88, eX7_reads_89, eX7_reads_90, eX7_reads_91, eX7_reads_92, eX7_reads_93, eX7_reads_96, eX7_reads_99, eX7_reads_100, eX7_reads_101, eX7_reads_103, eX7_reads_106, eX7_reads_107, eX7_reads_110, eX7_reads_111, eX7_reads_112, eX7_reads_113, eX7_reads_116, eX7_reads_118, eX7_reads_119, eX7_reads_120, eX7_reads_122, eX7_reads_125, eX7_reads_126, eX7_reads_129, eX7_reads_130, eX7_reads_131, eX7_reads_132, eX7_reads_133, eX7_reads_136, eX7_reads_138, eX7_reads_139, eX7_reads_140, eX7_reads_141, eX7_reads_143, eX7_reads_146, eX7_reads_147, eX7_reads_150, eX7_reads_151, eX7_reads_152, eX7_reads_153, eX7_reads_155, eX7_reads_158, eX7_reads_159, eX7_reads_162, eX7_reads_164, eX7_reads_165, eX7_reads_166, eX7_reads_167, eX7_reads_170, eX7_reads_171, eX7_reads_172, eX7_reads_173, eX7_reads_176, eX7_reads_179, eX7_reads_180, eX7_reads_183, eX7_reads_185, eX7_reads_186, eX7_reads_187, eX7_reads_188, eX7_reads_189, eX7_reads_190, eX7_reads_192, eX7_reads_193, eX7_reads_194, eX7_reads_195, eX7_reads_198, eX7_reads_201, eX7_reads_in, q_mhas, hA, a2', v2, tn_2, e16T, a82', y2, hne, hne2, htc, setI_at, upd_at, upd_ne, upd_lo, upd_ai, upd_hi, ne_eq, Nat.reduceLT, Nat.reduceEqDiff, a0, a1, a14, a82',  a82, a146, a210, cl1, cl2, cl3, vp1, vp2, vp3, v1, v14, v15, v16, tn_1, tn_14, tn_15, tn_16, h10, h16, hd, c0, nI_1, zz, Option.toList_some, Option.toList_none, List.cons_append, List.nil_append, b2_0, Classical.not_not, false_implies, true_implies, implies_true, true_and, and_true, not_true_eq_false, not_false_eq_true]
          have up := @up_1 (rdN N R C s T i) i (nI x - nI y) (-1) (rdN N R C s T i 15) (rdN N R C s T i 16)
          by_cases hl : s.testBit (i / C) = true
          · have t1' := tb.mpr hl
            simp only [t1', Option.toList_some, Option.toList_none, List.cons_append, List.nil_append, b2_0, Classical.not_not, false_implies, true_implies, implies_true, true_and, and_true, not_true_eq_false, not_false_eq_true]
            refine nx _ _ _ _ ((((hF.set (by omega)).set (by omega)).set (by omega)).set (by omega)) ?_
            rw [setI_at, setI_at, setI_at, setI_at, hA, up]
            exact rdN_s hsg.symm (by rw [if_neg hnt]) (by rw [if_neg (fun z => z.2 hl)]; exact a82') (by rw [if_neg hnt, zz]) (by rw [hr]; exact (zz _).symm)
          · have t1' : ¬ ((nI s >>> (nI (i / C) &&& 31)) &&& 1 = 1) := fun z => hl (tb.mp z)
            simp only [t1', Option.toList_some, Option.toList_none, List.cons_append, List.nil_append, b2_0, Classical.not_not, false_implies, true_implies, implies_true, true_and, and_true, not_true_eq_false, not_false_eq_true]
            refine nx _ _ _ _ (((((hF.set (by omega)).set (by omega)).set (by omega)).set (by omega)).set (by omega)) ?_
            rw [setI_at, setI_at, setI_at, setI_at, setI_at, hA, up, up_g]
            exact rdN_s hsg.symm (by rw [if_neg hnt]) (by rw [if_pos ⟨hnt, hl⟩, hsg, y2]) (by rw [if_neg hnt, zz]) (by rw [hr]; exact (zz _).symm)
        · have hnt : tcP N R C s T i := ⟨by rw [hr]; rfl, by rw [hsg]; exact htc⟩
          simp only [eX7_reads_0, eX7_reads_1, eX7_reads_4, eX7_reads_6, eX7_reads_7, eX7_reads_8, eX7_reads_9, eX7_reads_12, eX7_reads_14, eX7_reads_15, eX7_reads_16, eX7_reads_17, eX7_reads_19, eX7_reads_20, eX7_reads_23, eX7_reads_26, eX7_reads_27, eX7_reads_28, eX7_reads_31, eX7_reads_32, eX7_reads_33, eX7_reads_35, eX7_reads_38, eX7_reads_40, eX7_reads_43, eX7_reads_44, eX7_reads_45, eX7_reads_48, eX7_reads_50, eX7_reads_51, eX7_reads_52, eX7_reads_53, eX7_reads_54, eX7_reads_55, eX7_reads_56, eX7_reads_58, eX7_reads_61, eX7_reads_62, eX7_reads_64, eX7_reads_65, eX7_reads_68, eX7_reads_69, eX7_reads_70, eX7_reads_71, eX7_reads_74, eX7_reads_75, eX7_reads_78, eX7_reads_79, eX7_reads_81, eX7_reads_82, eX7_reads_85, eX7_reads_88, eX7_reads_89, eX7_reads_90, eX7_reads_91, eX7_reads_92, eX7_reads_93, eX7_reads_96, eX7_reads_99, eX7_reads_100, eX7_reads_101, eX7_reads_103, eX7_reads_106, eX7_reads_107, eX7_reads_110, eX7_reads_111, eX7_reads_112, eX7_reads_113, eX7_reads_116, eX7_reads_118, eX7_reads_119, eX7_reads_120, eX7_reads_122, eX7_reads_125, eX7_reads_126, eX7_reads_129, eX7_reads_130, eX7_reads_131, eX7_reads_132, eX7_reads_133, eX7_reads_136, eX7_reads_138, eX7_reads_139, eX7_reads_140, eX7_reads_141, eX7_reads_143, eX7_reads_146, eX7_reads_147, eX7_reads_150, eX7_reads_151, eX7_reads_152, eX7_reads_153, eX7_reads_155, eX7_reads_158, eX7_reads_159, eX7_reads_162, eX7_reads_164, eX7_reads_165, eX7_reads_166, eX7_reads_167, eX7_reads_170, eX7_reads_171, eX7_reads_172, eX7_reads_173, eX7_reads_176, eX7_reads_179, eX7_reads_180, eX7_reads_183, eX7_reads_185, eX7_reads_186, eX7_reads_187, eX7_reads_188, eX7_reads_189, eX7_reads_190, eX7_reads_192, eX7_reads_193, eX7_reads_194, eX7_reads_195, eX7_reads_198, eX7_reads_201, eX7_reads_in, q_mhas, hA, a2', v2, tn_2, e16T, a82', y2, hne, hne2, htc, setI_at, upd_at, upd_ne, upd_lo, upd_ai, upd_hi, ne_eq, Nat.reduceLT, Nat.reduceEqDiff, a0, a1, a14, a82',  a82, a146, a210, cl1, cl2, cl3, vp1, vp2, vp3, v1, v14, v15, v16, tn_1, tn_14, tn_15, tn_16, h10, h16, hd, c0, nI_1, zz, Option.toList_some, Option.toList_none, List.cons_append, List.nil_append, b2_0, Classical.not_not, false_implies, true_implies, implies_true, true_and, and_true, not_true_eq_false, not_false_eq_true]
          refine nx _ _ _ _ ((((hF.set (by omega)).set (by omega)).set (by omega)).set (by omega)) ?_
          rw [setI_at, setI_at, setI_at, setI_at, hA, up_1]
          exact rdN_s hsg.symm (by rw [if_pos hnt]) (by rw [if_neg (fun z => z.1 hnt)]; exact a82') (by rw [if_pos hnt]) (by rw [hr]; exact (zz _).symm)
  simp only [eX7_reads_0, eX7_reads_1, eX7_reads_4, eX7_reads_6, eX7_reads_7, eX7_reads_8, eX7_reads_9, eX7_reads_12, eX7_reads_14, eX7_reads_15, eX7_reads_16, eX7_reads_17, eX7_reads_19, eX7_reads_20, eX7_reads_23, eX7_reads_26, eX7_reads_27, eX7_reads_28, eX7_reads_31, eX7_reads_32, eX7_reads_33, eX7_reads_35, eX7_reads_38, eX7_reads_40, eX7_reads_43, eX7_reads_44, eX7_reads_45, eX7_reads_48, eX7_reads_50, eX7_reads_51, eX7_reads_52, eX7_reads_53, eX7_reads_54, eX7_reads_55, eX7_reads_56, eX7_reads_58, eX7_reads_61, eX7_reads_62, eX7_reads_64, eX7_reads_65, eX7_reads_68, eX7_reads_69, eX7_reads_70, eX7_reads_71, eX7_reads_74, eX7_reads_75, eX7_reads_78, eX7_reads_79, eX7_reads_81, eX7_reads_82, eX7_reads_85, eX7_reads_88, eX7_reads_89, eX7_reads_90, eX7_reads_91, eX7_reads_92, eX7_reads_93, eX7_reads_96, eX7_reads_99, eX7_reads_100, eX7_reads_101, eX7_reads_103, eX7_reads_106, eX7_reads_107, eX7_reads_110, eX7_reads_111, eX7_reads_112, eX7_reads_113, eX7_reads_116, eX7_reads_118, eX7_reads_119, eX7_reads_120, eX7_reads_122, eX7_reads_125, eX7_reads_126, eX7_reads_129, eX7_reads_130, eX7_reads_131, eX7_reads_132, eX7_reads_133, eX7_reads_136, eX7_reads_138, eX7_reads_139, eX7_reads_140, eX7_reads_141, eX7_reads_143, eX7_reads_146, eX7_reads_147, eX7_reads_150, eX7_reads_151, eX7_reads_152, eX7_reads_153, eX7_reads_155, eX7_reads_158, eX7_reads_159, eX7_reads_162, eX7_reads_164, eX7_reads_165, eX7_reads_166, eX7_reads_167, eX7_reads_170, eX7_reads_171, eX7_reads_172, eX7_reads_173, eX7_reads_176, eX7_reads_179, eX7_reads_180, eX7_reads_183, eX7_reads_185, eX7_reads_186, eX7_reads_187, eX7_reads_188, eX7_reads_189, eX7_reads_190, eX7_reads_192, eX7_reads_193, eX7_reads_194, eX7_reads_195, eX7_reads_198, eX7_reads_201, eX7_reads_in, v15, v16, tn_15, tn_16, Option.toList_some, Option.toList_none, List.cons_append, List.nil_append, b2_0, Classical.not_not, false_implies, true_implies, implies_true, true_and, and_true, not_true_eq_false, not_false_eq_true]
  refine lp (R * C) 0 _ .null .null .null (by omega) ((FrN.rf.set (by omega)).set (by omega)) ?_
  rw [setI_at, setI_at, hN]
  rfl
