/-! climbing, both sides -/
def Sm (A B : Nat → Int32) (R C : Nat) : Prop := B 0 = nI R ∧ B 1 = nI C ∧ (∀ k, k < 64 → B (146 + k) = A (146 + k)) ∧ ∀ k, k < 64 → (B (210 + k) = -1 ↔ A (210 + k) = -1)
theorem pkr_no {A : Nat → Int32} {R C b : Nat} {r c : Int32} (h : ¬ (0 ≤ r ∧ r < nI R ∧ 0 ≤ c ∧ c < nI C)) : pkr A R C b r c = b := pick_n (fun z => h z.1.1)
theorem pkr_in {A : Nat → Int32} {R C b r c : Nat} (hr : r < R) (hc : c < C) (hR : R ≤ 8) (hC : C ≤ 8) : pkr A R C b (nI r) (nI c) = pick A (¬ A (210 + (r * C + c)) = -1) b (r * C + c) := by
  have hi := idx_lt hr hc
  have h64 := rc_le hR hC
  unfold pkr
  rw [pk_mul, nI_add, nI_clamp (by omega)]
  have h1 : (0 ≤ nI r ∧ nI r < nI R ∧ 0 ≤ nI c ∧ nI c < nI C) := ⟨nI0le _ (by omega), nI_lt hr (by omega), nI0le _ (by omega), nI_lt hc (by omega)⟩
  unfold pick
  congr 1
  rw [eq_iff_iff]
  exact ⟨fun z => ⟨z.1.2, z.2⟩, fun z => ⟨⟨h1, z.1⟩, z.2⟩⟩
theorem pkr_lt {A : Nat → Int32} {R C b : Nat} {r c : Int32} (hR1 : 1 ≤ R) (hC1 : 1 ≤ C) (hR : R ≤ 8) (hC : C ≤ 8) (hb : b < 64) : pkr A R C b r c < 64 := by
  have := rc_le hR hC
  rcases pkr_or (A := A) (b := b) (r := r) (c := c) hR1 hC1 hR hC with q | ⟨q1, -⟩
  · omega
  · omega
theorem stI {A : Nat → Int32} {a b : Nat} (ha : a < 64) (hb : b < 64) : (A (146 + b) < A (146 + a) ∨ (A (146 + a) = A (146 + b) ∧ nI a < nI b)) ↔ str A a b := by
  unfold str
  rw [nI_ltI (by omega) (by omega)]
theorem m_strongerOf {Q : Qt} {M : Mm} {A B : Nat → Int32} {R C b : Nat} {r c : Int32} (hR1 : 1 ≤ R) (hC1 : 1 ≤ C) (hR : R ≤ 8) (hC : C ≤ 8) (hB : M.1 52 = B) (hS : Sm A B R C) (hb : b < 64) (hQ : Q (some (.int (nI (pkr A R C b r c)))) M) : kX7_strongerOf [.ref 51, .int (nI b), .int r, .int c] M Q := by
  obtain ⟨s0, s1, s2, s3⟩ := hS
  have h64 := rc_le hR hC
  rcases cellCase hR1 hC1 hR hC r c with ⟨h1, h2⟩ | ⟨r', c', hr, hc, rfl, rfl, h1, h2⟩
  · rw [pkr_no h1] at hQ
    simp only [eX7_strongerOf_0, eX7_strongerOf_1, eX7_strongerOf_2, eX7_strongerOf_3, eX7_strongerOf_6, eX7_strongerOf_9, eX7_strongerOf_10, eX7_strongerOf_11, eX7_strongerOf_12, eX7_strongerOf_13, eX7_strongerOf_14, eX7_strongerOf_17, eX7_strongerOf_19, eX7_strongerOf_20, eX7_strongerOf_23, eX7_strongerOf_26, eX7_strongerOf_28, eX7_strongerOf_29, eX7_strongerOf_30, eX7_strongerOf_31, eX7_strongerOf_34, eX7_strongerOf_35, eX7_strongerOf_37, eX7_strongerOf_38, eX7_strongerOf_41, eX7_strongerOf_44, eX7_strongerOf_46, eX7_strongerOf_49, eX7_strongerOf_50, eX7_strongerOf_in, q_isCell, hB, s0, s1, h2, Option.toList_some, Option.toList_none, List.cons_append, List.nil_append, b2_0, Classical.not_not, false_implies, true_implies, implies_true, true_and, and_true, not_true_eq_false, not_false_eq_true]
    exact hQ
  · have hi := idx_lt hr hc
    rw [pkr_in hr hc hR hC] at hQ
    have hix2 : nI C * nI r' + nI c' = nI (r' * C + c') := by rw [pk_mul, nI_add, Nat.mul_comm]
    generalize r' * C + c' = o at *
    have t := s3 o (by omega)
    have st : (B (146 + b) < B (146 + o) ∨ (B (146 + o) = B (146 + b) ∧ nI o < nI b)) ↔ str A o b := by
      rw [s2 o (by omega), s2 b hb]
      exact stI (by omega) hb
    simp only [eX7_strongerOf_0, eX7_strongerOf_1, eX7_strongerOf_2, eX7_strongerOf_3, eX7_strongerOf_6, eX7_strongerOf_9, eX7_strongerOf_10, eX7_strongerOf_11, eX7_strongerOf_12, eX7_strongerOf_13, eX7_strongerOf_14, eX7_strongerOf_17, eX7_strongerOf_19, eX7_strongerOf_20, eX7_strongerOf_23, eX7_strongerOf_26, eX7_strongerOf_28, eX7_strongerOf_29, eX7_strongerOf_30, eX7_strongerOf_31, eX7_strongerOf_34, eX7_strongerOf_35, eX7_strongerOf_37, eX7_strongerOf_38, eX7_strongerOf_41, eX7_strongerOf_44, eX7_strongerOf_46, eX7_strongerOf_49, eX7_strongerOf_50, eX7_strongerOf_in, q_isCell, q_cellAt, q_misStronger, hB, s0, s1, h2, hix2, a210, a146, nI_clamp (show 210 + o < 2 ^ 31 by omega), nI_clamp (show 146 + o < 2 ^ 31 by omega), nI_clamp (show 146 + b < 2 ^ 31 by omega), vpn (show 210 + o < 316 by omega) (by decide : 316 < 2147483648), vpn (show 146 + o < 316 by omega) (by decide : 316 < 2147483648), vpn (show 146 + b < 316 by omega) (by decide : 316 < 2147483648), t, st, Option.toList_some, Option.toList_none, List.cons_append, List.nil_append, b2_0, Classical.not_not, false_implies, true_implies, implies_true, true_and, and_true, not_true_eq_false, not_false_eq_true]
    refine ⟨fun z => ?_, fun z => ⟨fun y => ?_, fun y => ?_⟩⟩
    · rw [pick_n (fun u => absurd z u.1)] at hQ
      exact hQ
    · rw [pick_n (fun u => y u.2)] at hQ
      exact hQ
    · rw [pick_y ⟨z, y⟩] at hQ
      exact hQ
theorem c_strongerOf {Q : Qt} {M : Mm} {A B : Nat → Int32} {R C b cc tt : Nat} {r c : Int32} (hR1 : 1 ≤ R) (hC1 : 1 ≤ C) (hR : R ≤ 8) (hC : C ≤ 8) (hB : RV M.1 1 cc tt B) (hS : Sm A B R C) (hb : b < 64) (hQ : Q (some (.int (nI (pkr A R C b r c)))) M) : kX1_strongerOf [.ref 3, .int (nI b), .int r, .int c] M Q := by
  obtain ⟨s0, s1, s2, s3⟩ := hS
  have h64 := rc_le hR hC
  have e30 : M.1 3 0 = nI R := (hB.lo (k := 0) (by omega)).trans s0
  have e31 : M.1 3 1 = nI C := (hB.lo (k := 1) (by omega)).trans s1
  rcases cellCase hR1 hC1 hR hC r c with ⟨h1, h2⟩ | ⟨r', c', hr, hc, rfl, rfl, h1, h2⟩
  · rw [pkr_no h1] at hQ
    simp only [eX1_strongerOf_0, eX1_strongerOf_1, eX1_strongerOf_2, eX1_strongerOf_3, eX1_strongerOf_6, eX1_strongerOf_9, eX1_strongerOf_10, eX1_strongerOf_11, eX1_strongerOf_12, eX1_strongerOf_13, eX1_strongerOf_14, eX1_strongerOf_17, eX1_strongerOf_19, eX1_strongerOf_20, eX1_strongerOf_22, eX1_strongerOf_25, eX1_strongerOf_28, eX1_strongerOf_29, eX1_strongerOf_31, eX1_strongerOf_32, eX1_strongerOf_35, eX1_strongerOf_38, eX1_strongerOf_40, eX1_strongerOf_43, eX1_strongerOf_44, eX1_strongerOf_in, q_has, e30, e31, h1, Option.toList_some, Option.toList_none, List.cons_append, List.nil_append, b2_0, Classical.not_not, false_implies, true_implies, implies_true, true_and, and_true, not_true_eq_false, not_false_eq_true]
    exact hQ
  · have hi := idx_lt hr hc
    rw [pkr_in hr hc hR hC] at hQ
    have hix : nI r' * nI C + nI c' = nI (r' * C + c') := by rw [pk_mul, nI_add]
    generalize r' * C + c' = o at *
    have e7 : M.1 7 o = B (210 + o) := hB.peak (by omega)
    have e6 : M.1 6 o = A (146 + o) := (hB.signal (by omega)).trans (s2 o (by omega))
    have e6b : M.1 6 b = A (146 + b) := (hB.signal hb).trans (s2 b hb)
    have t := s3 o (by omega)
    have st : (A (146 + b) < A (146 + o) ∨ (A (146 + o) = A (146 + b) ∧ nI o < nI b)) ↔ str A o b := stI (by omega) hb
    simp only [eX1_strongerOf_0, eX1_strongerOf_1, eX1_strongerOf_2, eX1_strongerOf_3, eX1_strongerOf_6, eX1_strongerOf_9, eX1_strongerOf_10, eX1_strongerOf_11, eX1_strongerOf_12, eX1_strongerOf_13, eX1_strongerOf_14, eX1_strongerOf_17, eX1_strongerOf_19, eX1_strongerOf_20, eX1_strongerOf_22, eX1_strongerOf_25, eX1_strongerOf_28, eX1_strongerOf_29, eX1_strongerOf_31, eX1_strongerOf_32, eX1_strongerOf_35, eX1_strongerOf_38, eX1_strongerOf_40, eX1_strongerOf_43, eX1_strongerOf_44, eX1_strongerOf_in, q_has, q_at, q_isTouched, q_isStronger, e30, e31, h1, hix, nI_clamp (show o < 2 ^ 31 by omega), nI_clamp (show b < 2 ^ 31 by omega), vpn (show o < 64 by omega) (by decide : 64 < 2147483648), vpn hb (by decide : 64 < 2147483648), e7, e6, e6b, t, st, Option.toList_some, Option.toList_none, List.cons_append, List.nil_append, b2_0, Classical.not_not, false_implies, true_implies, implies_true, true_and, and_true, not_true_eq_false, not_false_eq_true]
    refine ⟨fun z => ?_, fun z => ⟨fun y => ?_, fun y => ?_⟩⟩
    · rw [pick_n (fun u => absurd z u.1)] at hQ
      exact hQ
    · rw [pick_n (fun u => y u.2)] at hQ
      exact hQ
    · rw [pick_y ⟨z, y⟩] at hQ
      exact hQ
theorem m_leadOf {Q : Qt} {M : Mm} {A B : Nat → Int32} {R C k : Nat} (hR1 : 1 ≤ R) (hC1 : 1 ≤ C) (hR : R ≤ 8) (hC : C ≤ 8) (hB : M.1 52 = B) (hS : Sm A B R C) (hk : k < 64) (hQ : Q (some (.int (nI (ld A R C k)))) M) : kX7_leadOf [.ref 51, .int (nI k)] M Q := by
  have c0 : ¬ (nI C = 0) := nI_ne0 (by omega) (by omega)
  have hd : nI k / nI C = nI (k / C) := pk_div (by omega) (by omega) (by omega)
  have hm : nI k - nI (k / C) * nI C = nI (k % C) := by rw [← hd]; exact pk_rem (by omega) (by omega) (by omega)
  simp only [eX7_leadOf_0, eX7_leadOf_1, eX7_leadOf_2, eX7_leadOf_5, eX7_leadOf_6, eX7_leadOf_7, eX7_leadOf_8, eX7_leadOf_9, eX7_leadOf_10, eX7_leadOf_11, eX7_leadOf_14, eX7_leadOf_15, eX7_leadOf_16, eX7_leadOf_17, eX7_leadOf_18, eX7_leadOf_19, eX7_leadOf_20, eX7_leadOf_21, eX7_leadOf_22, eX7_leadOf_23, eX7_leadOf_24, eX7_leadOf_27, eX7_leadOf_29, eX7_leadOf_30, eX7_leadOf_32, eX7_leadOf_33, eX7_leadOf_34, eX7_leadOf_35, eX7_leadOf_36, eX7_leadOf_39, eX7_leadOf_41, eX7_leadOf_42, eX7_leadOf_44, eX7_leadOf_45, eX7_leadOf_46, eX7_leadOf_47, eX7_leadOf_48, eX7_leadOf_51, eX7_leadOf_53, eX7_leadOf_54, eX7_leadOf_56, eX7_leadOf_57, eX7_leadOf_58, eX7_leadOf_59, eX7_leadOf_60, eX7_leadOf_63, eX7_leadOf_in, hB, hS.2.1, v1, tn_1, c0, hd, hm, Option.toList_some, Option.toList_none, List.cons_append, List.nil_append, b2_0, Classical.not_not, false_implies, true_implies, implies_true, true_and, and_true, not_true_eq_false, not_false_eq_true]
  refine m_strongerOf hR1 hC1 hR hC hB hS hk ?_
  simp only [eX7_leadOf_0, eX7_leadOf_1, eX7_leadOf_2, eX7_leadOf_5, eX7_leadOf_6, eX7_leadOf_7, eX7_leadOf_8, eX7_leadOf_9, eX7_leadOf_10, eX7_leadOf_11, eX7_leadOf_14, eX7_leadOf_15, eX7_leadOf_16, eX7_leadOf_17, eX7_leadOf_18, eX7_leadOf_19, eX7_leadOf_20, eX7_leadOf_21, eX7_leadOf_22, eX7_leadOf_23, eX7_leadOf_24, eX7_leadOf_27, eX7_leadOf_29, eX7_leadOf_30, eX7_leadOf_32, eX7_leadOf_33, eX7_leadOf_34, eX7_leadOf_35, eX7_leadOf_36, eX7_leadOf_39, eX7_leadOf_41, eX7_leadOf_42, eX7_leadOf_44, eX7_leadOf_45, eX7_leadOf_46, eX7_leadOf_47, eX7_leadOf_48, eX7_leadOf_51, eX7_leadOf_53, eX7_leadOf_54, eX7_leadOf_56, eX7_leadOf_57, eX7_leadOf_58, eX7_leadOf_59, eX7_leadOf_60, eX7_leadOf_63, eX7_leadOf_in, hB, hS.2.1, Option.toList_some, Option.toList_none, List.cons_append, List.nil_append, b2_0, Classical.not_not, false_implies, true_implies, implies_true, true_and, and_true, not_true_eq_false, not_false_eq_true]
  refine m_strongerOf hR1 hC1 hR hC hB hS (pkr_lt hR1 hC1 hR hC hk) ?_
  simp only [eX7_leadOf_0, eX7_leadOf_1, eX7_leadOf_2, eX7_leadOf_5, eX7_leadOf_6, eX7_leadOf_7, eX7_leadOf_8, eX7_leadOf_9, eX7_leadOf_10, eX7_leadOf_11, eX7_leadOf_14, eX7_leadOf_15, eX7_leadOf_16, eX7_leadOf_17, eX7_leadOf_18, eX7_leadOf_19, eX7_leadOf_20, eX7_leadOf_21, eX7_leadOf_22, eX7_leadOf_23, eX7_leadOf_24, eX7_leadOf_27, eX7_leadOf_29, eX7_leadOf_30, eX7_leadOf_32, eX7_leadOf_33, eX7_leadOf_34, eX7_leadOf_35, eX7_leadOf_36, eX7_leadOf_39, eX7_leadOf_41, eX7_leadOf_42, eX7_leadOf_44, eX7_leadOf_45, eX7_leadOf_46, eX7_leadOf_47, eX7_leadOf_48, eX7_leadOf_51, eX7_leadOf_53, eX7_leadOf_54, eX7_leadOf_56, eX7_leadOf_57, eX7_leadOf_58, eX7_leadOf_59, eX7_leadOf_60, eX7_leadOf_63, eX7_leadOf_in, hB, hS.2.1, Option.toList_some, Option.toList_none, List.cons_append, List.nil_append, b2_0, Classical.not_not, false_implies, true_implies, implies_true, true_and, and_true, not_true_eq_false, not_false_eq_true]
  refine m_strongerOf hR1 hC1 hR hC hB hS (pkr_lt hR1 hC1 hR hC (pkr_lt hR1 hC1 hR hC hk)) ?_
  simp only [eX7_leadOf_0, eX7_leadOf_1, eX7_leadOf_2, eX7_leadOf_5, eX7_leadOf_6, eX7_leadOf_7, eX7_leadOf_8, eX7_leadOf_9, eX7_leadOf_10, eX7_leadOf_11, eX7_leadOf_14, eX7_leadOf_15, eX7_leadOf_16, eX7_leadOf_17, eX7_leadOf_18, eX7_leadOf_19, eX7_leadOf_20, eX7_leadOf_21, eX7_leadOf_22, eX7_leadOf_23, eX7_leadOf_24, eX7_leadOf_27, eX7_leadOf_29, eX7_leadOf_30, eX7_leadOf_32, eX7_leadOf_33, eX7_leadOf_34, eX7_leadOf_35, eX7_leadOf_36, eX7_leadOf_39, eX7_leadOf_41, eX7_leadOf_42, eX7_leadOf_44, eX7_leadOf_45, eX7_leadOf_46, eX7_leadOf_47, eX7_leadOf_48, eX7_leadOf_51, eX7_leadOf_53, eX7_leadOf_54, eX7_leadOf_56, eX7_leadOf_57, eX7_leadOf_58, eX7_leadOf_59, eX7_leadOf_60, eX7_leadOf_63, eX7_leadOf_in, hB, hS.2.1, Option.toList_some, Option.toList_none, List.cons_append, List.nil_append, b2_0, Classical.not_not, false_implies, true_implies, implies_true, true_and, and_true, not_true_eq_false, not_false_eq_true]
  refine m_strongerOf hR1 hC1 hR hC hB hS (pkr_lt hR1 hC1 hR hC (pkr_lt hR1 hC1 hR hC (pkr_lt hR1 hC1 hR hC hk))) ?_
  simp only [eX7_leadOf_0, eX7_leadOf_1, eX7_leadOf_2, eX7_leadOf_5, eX7_leadOf_6, eX7_leadOf_7, eX7_leadOf_8, eX7_leadOf_9, eX7_leadOf_10, eX7_leadOf_11, eX7_leadOf_14, eX7_leadOf_15, eX7_leadOf_16, eX7_leadOf_17, eX7_leadOf_18, eX7_leadOf_19, eX7_leadOf_20, eX7_leadOf_21, eX7_leadOf_22, eX7_leadOf_23, eX7_leadOf_24, eX7_leadOf_27, eX7_leadOf_29, eX7_leadOf_30, eX7_leadOf_32, eX7_leadOf_33, eX7_leadOf_34, eX7_leadOf_35, eX7_leadOf_36, eX7_leadOf_39, eX7_leadOf_41, eX7_leadOf_42, eX7_leadOf_44, eX7_leadOf_45, eX7_leadOf_46, eX7_leadOf_47, eX7_leadOf_48, eX7_leadOf_51, eX7_leadOf_53, eX7_leadOf_54, eX7_leadOf_56, eX7_leadOf_57, eX7_leadOf_58, eX7_leadOf_59, eX7_leadOf_60, eX7_leadOf_63, eX7_leadOf_in, Option.toList_some, Option.toList_none, List.cons_append, List.nil_append, b2_0, Classical.not_not, false_implies, true_implies, implies_true, true_and, and_true, not_true_eq_false, not_false_eq_true]
  exact hQ
/-- the peaks of the first i CELLS -/
noncomputable def pkN (A : Nat → Int32) (R C i : Nat) : Nat → Int32 := fun j => @ite _ ((210 ≤ j ∧ j < 210 + i) ∧ ¬ A j = -1) (Classical.propDecidable _) (nI (top A R C (j - 210))) (A j)
theorem pkN_0 (A : Nat → Int32) (R C : Nat) : pkN A R C 0 = A := by
  funext j
  simp only [pkN]
  rw [if_neg (by omega)]
theorem pkN_s {A : Nat → Int32} {R C i : Nat} (h : ¬ A (210 + i) = -1) : upd (pkN A R C i) (210 + i) (nI (top A R C i)) = pkN A R C (i + 1) := by
  funext j
  simp only [pkN, upd]
  by_cases e : j = 210 + i
  · subst e
    rw [if_pos rfl, if_pos ⟨by omega, h⟩, Nat.add_sub_cancel_left]
  · rw [if_neg e]
    by_cases h2 : (210 ≤ j ∧ j < 210 + i) ∧ ¬ A j = -1
    · rw [if_pos h2, if_pos ⟨by omega, h2.2⟩]
    · rw [if_neg h2, if_neg (fun z => h2 ⟨by omega, z.2⟩)]
theorem pkN_n {A : Nat → Int32} {R C i : Nat} (h : A (210 + i) = -1) : pkN A R C i = pkN A R C (i + 1) := by
  funext j
  simp only [pkN]
  by_cases h2 : (210 ≤ j ∧ j < 210 + i) ∧ ¬ A j = -1
  · rw [if_pos h2, if_pos ⟨by omega, h2.2⟩]
  · rw [if_neg h2, if_neg (fun z => h2 ⟨by
      have : j ≠ 210 + i := fun e => z.2 (by rw [e]; exact h)
      omega, z.2⟩)]
theorem pkN_lo {A : Nat → Int32} {R C i j : Nat} (h : j < 210 ∨ 210 + i ≤ j) : pkN A R C i j = A j := by
  simp only [pkN]
  rw [if_neg (by omega)]
theorem top_lt {A : Nat → Int32} {R C k : Nat} (hR1 : 1 ≤ R) (hC1 : 1 ≤ C) (hR : R ≤ 8) (hC : C ≤ 8) (hk : k < R * C) : top A R C k < R * C := itr_lt hR1 hC1 hR hC 64 k hk
theorem pkN_Sm {A : Nat → Int32} {R C i : Nat} (hR1 : 1 ≤ R) (hC1 : 1 ≤ C) (hR : R ≤ 8) (hC : C ≤ 8) (hi : i ≤ R * C) (h0 : A 0 = nI R) (h1 : A 1 = nI C) : Sm A (pkN A R C i) R C := by
  have h64 := rc_le hR hC
  refine ⟨by rw [pkN_lo (by omega)]; exact h0, by rw [pkN_lo (by omega)]; exact h1, fun k hk => pkN_lo (by omega), fun k hk => ?_⟩
  simp only [pkN]
  by_cases h2 : (210 ≤ 210 + k ∧ 210 + k < 210 + i) ∧ ¬ A (210 + k) = -1
  · rw [if_pos h2]
    have := top_lt (A := A) hR1 hC1 hR hC (k := k) (by omega)
    rw [Nat.add_sub_cancel_left]
    exact ⟨fun z => absurd z (nI_nm1 (by omega)), fun z => absurd z h2.2⟩
  · rw [if_neg h2]
theorem l_climb1 {Q : Qt} {M0 : Mm} {A : Nat → Int32} {R C : Nat} (hR1 : 1 ≤ R) (hC1 : 1 ≤ C) (hR : R ≤ 8) (hC : C ≤ 8) (h0 : A 0 = nI R) (h1 : A 1 = nI C) (hQ : ∀ (M' : Mm) (l2 : Value), FrN M0 M' → M'.1 52 = pkN A R C (R * C) → V pgX7_climbs Q 61 [.ref 51, .int (nI (R * C)), l2, .null, .null, .null] [] M') : ∀ (d i : Nat) (M : Mm) (l2 : Value), i + d = R * C → FrN M0 M → M.1 52 = pkN A R C i → V pgX7_climbs Q 2 [.ref 51, .int (nI i), l2, .null, .null, .null] [] M := by
  have h64 := rc_le hR hC
  intro d
  induction d with
  | zero =>
    intro i M l2 hi hF hN
    have : i = R * C := by omega
    subst this
    have sm := pkN_Sm (A := A) hR1 hC1 hR hC (Nat.le_refl (R * C)) h0 h1
    rw [eX7_climbs_2]
    simp only [eX7_climbs_0, eX7_climbs_1, eX7_climbs_3, eX7_climbs_4, eX7_climbs_7, eX7_climbs_10, eX7_climbs_11, eX7_climbs_14, eX7_climbs_17, eX7_climbs_18, eX7_climbs_19, eX7_climbs_20, eX7_climbs_21, eX7_climbs_24, eX7_climbs_25, eX7_climbs_27, eX7_climbs_28, eX7_climbs_31, eX7_climbs_32, eX7_climbs_35, eX7_climbs_36, eX7_climbs_37, eX7_climbs_40, eX7_climbs_41, eX7_climbs_44, eX7_climbs_45, eX7_climbs_48, eX7_climbs_51, eX7_climbs_52, eX7_climbs_53, eX7_climbs_54, eX7_climbs_55, eX7_climbs_58, eX7_climbs_62, eX7_climbs_65, eX7_climbs_67, eX7_climbs_68, eX7_climbs_69, eX7_climbs_70, eX7_climbs_73, eX7_climbs_75, eX7_climbs_76, eX7_climbs_77, eX7_climbs_78, eX7_climbs_80, eX7_climbs_81, eX7_climbs_84, eX7_climbs_87, eX7_climbs_88, eX7_climbs_91, eX7_climbs_94, eX7_climbs_95, eX7_climbs_96, eX7_climbs_97, eX7_climbs_98, eX7_climbs_101, eX7_climbs_102, eX7_climbs_103, eX7_climbs_106, eX7_climbs_107, eX7_climbs_110, eX7_climbs_111, eX7_climbs_112, eX7_climbs_115, eX7_climbs_116, eX7_climbs_119, eX7_climbs_121, eX7_climbs_122, eX7_climbs_123, eX7_climbs_124, eX7_climbs_125, eX7_climbs_126, eX7_climbs_129, eX7_climbs_132, eX7_climbs_133, eX7_climbs_134, eX7_climbs_135, eX7_climbs_137, eX7_climbs_139, eX7_climbs_142, eX7_climbs_143, eX7_climbs_144, eX7_climbs_145, eX7_climbs_149, eX7_climbs_150, eX7_climbs_153, eX7_climbs_156, eX7_climbs_157, eX7_climbs_160, eX7_climbs_163, eX7_climbs_165, eX7_climbs_166, eX7_climbs_167, eX7_climbs_169, eX7_climbs_172, eX7_climbs_173, eX7_climbs_175, eX7_climbs_178, eX7_climbs_179, eX7_climbs_182, eX7_climbs_183, eX7_climbs_184, eX7_climbs_187, eX7_climbs_188, eX7_climbs_189, eX7_climbs_192, eX7_climbs_193, eX7_climbs_194, eX7_climbs_196, eX7_climbs_199, eX7_climbs_202, eX7_climbs_203, eX7_climbs_206, eX7_climbs_207, eX7_climbs_209, eX7_climbs_211, eX7_climbs_214, eX7_climbs_215, eX7_climbs_216, eX7_climbs_219, eX7_climbs_220, eX7_climbs_222, eX7_climbs_223, eX7_climbs_226, eX7_climbs_229, eX7_climbs_231, eX7_climbs_234, eX7_climbs_235, eX7_climbs_236, eX7_climbs_239, eX7_climbs_242, eX7_climbs_243, eX7_climbs_244, eX7_climbs_247, eX7_climbs_248, eX7_climbs_249, eX7_climbs_252, eX7_climbs_255, eX7_climbs_256, eX7_climbs_257, eX7_climbs_258, eX7_climbs_259, eX7_climbs_260, eX7_climbs_263, eX7_climbs_265, eX7_climbs_266, eX7_climbs_267, eX7_climbs_268, eX7_climbs_269, eX7_climbs_270, eX7_climbs_271, eX7_climbs_272, eX7_climbs_275, eX7_climbs_278, eX7_climbs_in, q_mcells, hN, sm.1, sm.2.1, pk_mul, Int32.le_refl, Option.toList_some, Option.toList_none, List.cons_append, List.nil_append, b2_0, Classical.not_not, false_implies, true_implies, implies_true, true_and, and_true, not_true_eq_false, not_false_eq_true]
    exact hQ M l2 hF hN
  | succ d ih =>
    intro i M l2 hi hF hN
    have sm := pkN_Sm (A := A) hR1 hC1 hR hC (show i ≤ R * C by omega) h0 h1
    have cl : (nI (210 + i)).toNatClampNeg = 210 + i := nI_clamp (by omega)
    have vp : vp_in (nI (210 + i)) 316 := vpn (by omega) (by decide)
    have at_ : pkN A R C i (210 + i) = A (210 + i) := pkN_lo (by omega)
    rw [eX7_climbs_2]
    simp only [eX7_climbs_0, eX7_climbs_1, eX7_climbs_3, eX7_climbs_4, eX7_climbs_7, eX7_climbs_10, eX7_climbs_11, eX7_climbs_14, eX7_climbs_17, eX7_climbs_18, eX7_climbs_19, eX7_climbs_20, eX7_climbs_21, eX7_climbs_24, eX7_climbs_25, eX7_climbs_27, eX7_climbs_28, eX7_climbs_31, eX7_climbs_32, eX7_climbs_35, eX7_climbs_36, eX7_climbs_37, eX7_climbs_40, eX7_climbs_41, eX7_climbs_44, eX7_climbs_45, eX7_climbs_48, eX7_climbs_51, eX7_climbs_52, eX7_climbs_53, eX7_climbs_54, eX7_climbs_55, eX7_climbs_58, eX7_climbs_61, eX7_climbs_62, eX7_climbs_65, eX7_climbs_67, eX7_climbs_68, eX7_climbs_69, eX7_climbs_70, eX7_climbs_73, eX7_climbs_75, eX7_climbs_76, eX7_climbs_77, eX7_climbs_78, eX7_climbs_80, eX7_climbs_81, eX7_climbs_84, eX7_climbs_87, eX7_climbs_88, eX7_climbs_91, eX7_climbs_94, eX7_climbs_95, eX7_climbs_96, eX7_climbs_97, eX7_climbs_98, eX7_climbs_101, eX7_climbs_102, eX7_climbs_103, eX7_climbs_106, eX7_climbs_107, eX7_climbs_110, eX7_climbs_111, eX7_climbs_112, eX7_climbs_115, eX7_climbs_116, eX7_climbs_119, eX7_climbs_121, eX7_climbs_122, eX7_climbs_123, eX7_climbs_124, eX7_climbs_125, eX7_climbs_126, eX7_climbs_129, eX7_climbs_132, eX7_climbs_133, eX7_climbs_134, eX7_climbs_135, eX7_climbs_137, eX7_climbs_139, eX7_climbs_142, eX7_climbs_143, eX7_climbs_144, eX7_climbs_145, eX7_climbs_149, eX7_climbs_150, eX7_climbs_153, eX7_climbs_156, eX7_climbs_157, eX7_climbs_160, eX7_climbs_163, eX7_climbs_165, eX7_climbs_166, eX7_climbs_167, eX7_climbs_169, eX7_climbs_172, eX7_climbs_173, eX7_climbs_175, eX7_climbs_178, eX7_climbs_179, eX7_climbs_182, eX7_climbs_183, eX7_climbs_184, eX7_climbs_187, eX7_climbs_188, eX7_climbs_189, eX7_climbs_192, eX7_climbs_193, eX7_climbs_194, eX7_climbs_196, eX7_climbs_199, eX7_climbs_202, eX7_climbs_203, eX7_climbs_206, eX7_climbs_207, eX7_climbs_209, eX7_climbs_211, eX7_climbs_214, eX7_climbs_215, eX7_climbs_216, eX7_climbs_219, eX7_climbs_220, eX7_climbs_222, eX7_climbs_223, eX7_climbs_226, eX7_climbs_229, eX7_climbs_231, eX7_climbs_234, eX7_climbs_235, eX7_climbs_236, eX7_climbs_239, eX7_climbs_242, eX7_climbs_243, eX7_climbs_244, eX7_climbs_247, eX7_climbs_248, eX7_climbs_249, eX7_climbs_252, eX7_climbs_255, eX7_climbs_256, eX7_climbs_257, eX7_climbs_258, eX7_climbs_259, eX7_climbs_260, eX7_climbs_263, eX7_climbs_265, eX7_climbs_266, eX7_climbs_267, eX7_climbs_268, eX7_climbs_269, eX7_climbs_270, eX7_climbs_271, eX7_climbs_272, eX7_climbs_275, eX7_climbs_278, eX7_climbs_in, q_mcells, hN, sm.1, sm.2.1, pk_mul, nI_ge (show i < R * C by omega) (show R * C < 2 ^ 31 by omega), a210, cl, vp, at_, nI_1, Option.toList_some, Option.toList_none, List.cons_append, List.nil_append, b2_0, Classical.not_not, false_implies, true_implies, implies_true, true_and, and_true, not_true_eq_false, not_false_eq_true]
    refine ⟨fun z => ih (i + 1) M _ (by omega) hF (by rw [hN]; exact pkN_n z), fun z => ?_⟩
    have lp : ∀ n x, x < R * C → ld A R C (itr (ld A R C) n x) = itr (ld A R C) n x → itr (ld A R C) n x = top A R C i → V pgX7_climbs Q 26 [.ref 51, .int (nI i), .int (nI x), .null, .null, .null] [] M := by
      intro n
      induction n with
      | zero =>
        intro x hx hf ht
        have hf : ld A R C x = x := hf
        have ht : x = top A R C i := ht
        rw [eX7_climbs_26]
        simp only [eX7_climbs_0, eX7_climbs_1, eX7_climbs_3, eX7_climbs_4, eX7_climbs_7, eX7_climbs_10, eX7_climbs_11, eX7_climbs_14, eX7_climbs_17, eX7_climbs_18, eX7_climbs_19, eX7_climbs_20, eX7_climbs_21, eX7_climbs_24, eX7_climbs_25, eX7_climbs_27, eX7_climbs_28, eX7_climbs_31, eX7_climbs_32, eX7_climbs_35, eX7_climbs_36, eX7_climbs_37, eX7_climbs_40, eX7_climbs_41, eX7_climbs_44, eX7_climbs_45, eX7_climbs_48, eX7_climbs_51, eX7_climbs_52, eX7_climbs_53, eX7_climbs_54, eX7_climbs_55, eX7_climbs_58, eX7_climbs_61, eX7_climbs_62, eX7_climbs_65, eX7_climbs_67, eX7_climbs_68, eX7_climbs_69, eX7_climbs_70, eX7_climbs_73, eX7_climbs_75, eX7_climbs_76, eX7_climbs_77, eX7_climbs_78, eX7_climbs_80, eX7_climbs_81, eX7_climbs_84, eX7_climbs_87, eX7_climbs_88, eX7_climbs_91, eX7_climbs_94, eX7_climbs_95, eX7_climbs_96, eX7_climbs_97, eX7_climbs_98, eX7_climbs_101, eX7_climbs_102, eX7_climbs_103, eX7_climbs_106, eX7_climbs_107, eX7_climbs_110, eX7_climbs_111, eX7_climbs_112, eX7_climbs_115, eX7_climbs_116, eX7_climbs_119, eX7_climbs_121, eX7_climbs_122, eX7_climbs_123, eX7_climbs_124, eX7_climbs_125, eX7_climbs_126, eX7_climbs_129, eX7_climbs_132, eX7_climbs_133, eX7_climbs_134, eX7_climbs_135, eX7_climbs_137, eX7_climbs_139, eX7_climbs_142, eX7_climbs_143, eX7_climbs_144, eX7_climbs_145, eX7_climbs_149, eX7_climbs_150, eX7_climbs_153, eX7_climbs_156, eX7_climbs_157, eX7_climbs_160, eX7_climbs_163, eX7_climbs_165, eX7_climbs_166, eX7_climbs_167, eX7_climbs_169, eX7_climbs_172, eX7_climbs_173, eX7_climbs_175, eX7_climbs_178, eX7_climbs_179, eX7_climbs_182, eX7_climbs_183, eX7_climbs_184, eX7_climbs_187, eX7_climbs_188, eX7_climbs_189, eX7_climbs_192, eX7_climbs_193, eX7_climbs_194, eX7_climbs_196, eX7_climbs_199, eX7_climbs_202, eX7_climbs_203, eX7_climbs_206, eX7_climbs_207, eX7_climbs_209, eX7_climbs_211, eX7_climbs_214, eX7_climbs_215, eX7_climbs_216, eX7_climbs_219, eX7_climbs_220, eX7_climbs_222, eX7_climbs_223, eX7_climbs_226, eX7_climbs_229, eX7_climbs_231, eX7_climbs_234, eX7_climbs_235, eX7_climbs_236, eX7_climbs_239, eX7_climbs_242, eX7_climbs_243, eX7_climbs_244, eX7_climbs_247, eX7_climbs_248, eX7_climbs_249, eX7_climbs_252, eX7_climbs_255, eX7_climbs_256, eX7_climbs_257, eX7_climbs_258, eX7_climbs_259, eX7_climbs_260, eX7_climbs_263, eX7_climbs_265, eX7_climbs_266, eX7_climbs_267, eX7_climbs_268, eX7_climbs_269, eX7_climbs_270, eX7_climbs_271, eX7_climbs_272, eX7_climbs_275, eX7_climbs_278, eX7_climbs_in, Option.toList_some, Option.toList_none, List.cons_append, List.nil_append, b2_0, Classical.not_not, false_implies, true_implies, implies_true, true_and, and_true, not_true_eq_false, not_false_eq_true]
        refine m_leadOf hR1 hC1 hR hC hN sm (by omega) ?_
        rw [hf]
        simp only [eX7_climbs_0, eX7_climbs_1, eX7_climbs_3, eX7_climbs_4, eX7_climbs_7, eX7_climbs_10, eX7_climbs_11, eX7_climbs_14, eX7_climbs_17, eX7_climbs_18, eX7_climbs_19, eX7_climbs_20, eX7_climbs_21, eX7_climbs_24, eX7_climbs_25, eX7_climbs_27, eX7_climbs_28, eX7_climbs_31, eX7_climbs_32, eX7_climbs_35, eX7_climbs_36, eX7_climbs_37, eX7_climbs_40, eX7_climbs_41, eX7_climbs_44, eX7_climbs_45, eX7_climbs_48, eX7_climbs_51, eX7_climbs_52, eX7_climbs_53, eX7_climbs_54, eX7_climbs_55, eX7_climbs_58, eX7_climbs_61, eX7_climbs_62, eX7_climbs_65, eX7_climbs_67, eX7_climbs_68, eX7_climbs_69, eX7_climbs_70, eX7_climbs_73, eX7_climbs_75, eX7_climbs_76, eX7_climbs_77, eX7_climbs_78, eX7_climbs_80, eX7_climbs_81, eX7_climbs_84, eX7_climbs_87, eX7_climbs_88, eX7_climbs_91, eX7_climbs_94, eX7_climbs_95, eX7_climbs_96, eX7_climbs_97, eX7_climbs_98, eX7_climbs_101, eX7_climbs_102, eX7_climbs_103, eX7_climbs_106, eX7_climbs_107, eX7_climbs_110, eX7_climbs_111, eX7_climbs_112, eX7_climbs_115, eX7_climbs_116, eX7_climbs_119, eX7_climbs_121, eX7_climbs_122, eX7_climbs_123, eX7_climbs_124, eX7_climbs_125, eX7_climbs_126, eX7_climbs_129, eX7_climbs_132, eX7_climbs_133, eX7_climbs_134, eX7_climbs_135, eX7_climbs_137, eX7_climbs_139, eX7_climbs_142, eX7_climbs_143, eX7_climbs_144, eX7_climbs_145, eX7_climbs_149, eX7_climbs_150, eX7_climbs_153, eX7_climbs_156, eX7_climbs_157, eX7_climbs_160, eX7_climbs_163, eX7_climbs_165, eX7_climbs_166, eX7_climbs_167, eX7_climbs_169, eX7_climbs_172, eX7_climbs_173, eX7_climbs_175, eX7_climbs_178, eX7_climbs_179, eX7_climbs_182, eX7_climbs_183, eX7_climbs_184, eX7_climbs_187, eX7_climbs_188, eX7_climbs_189, eX7_climbs_192, eX7_climbs_193, eX7_climbs_194, eX7_climbs_196, eX7_climbs_199, eX7_climbs_202, eX7_climbs_203, eX7_climbs_206, eX7_climbs_207, eX7_climbs_209, eX7_climbs_211, eX7_climbs_214, eX7_climbs_215, eX7_climbs_216, eX7_climbs_219, eX7_climbs_220, eX7_climbs_222, eX7_climbs_223, eX7_climbs_226, eX7_climbs_229, eX7_climbs_231, eX7_climbs_234, eX7_climbs_235, eX7_climbs_236, eX7_climbs_239, eX7_climbs_242, eX7_climbs_243, eX7_climbs_244, eX7_climbs_247, eX7_climbs_248, eX7_climbs_249, eX7_climbs_252, eX7_climbs_255, eX7_climbs_256, eX7_climbs_257, eX7_climbs_258, eX7_climbs_259, eX7_climbs_260, eX7_climbs_263, eX7_climbs_265, eX7_climbs_266, eX7_climbs_267, eX7_climbs_268, eX7_climbs_269, eX7_climbs_270, eX7_climbs_271, eX7_climbs_272, eX7_climbs_275, eX7_climbs_278, eX7_climbs_in, a210, cl, vp, nI_1, Option.toList_some, Option.toList_none, List.cons_append, List.nil_append, b2_0, Classical.not_not, false_implies, true_implies, implies_true, true_and, and_true, not_true_eq_false, not_false_eq_true]
        refine ih (i + 1) _ _ (by omega) (hF.set (by omega)) ?_
        rw [setI_at, hN, ht]
        exact pkN_s z
      | succ n ihn =>
        intro x hx hf ht
        by_cases e : ld A R C x = x
        · refine ihn x hx ?_ ?_
          · rw [itr_fix e]
            exact e
          · rw [itr_fix e] at ht ⊢
            exact ht
        · have hl := ld_lt (A := A) hR1 hC1 hR hC hx
          have ne : ¬ (nI (ld A R C x) = nI x) := fun q => e ((nI_eq (by omega) (by omega)).mp q)
          rw [eX7_climbs_26]
          simp only [eX7_climbs_0, eX7_climbs_1, eX7_climbs_3, eX7_climbs_4, eX7_climbs_7, eX7_climbs_10, eX7_climbs_11, eX7_climbs_14, eX7_climbs_17, eX7_climbs_18, eX7_climbs_19, eX7_climbs_20, eX7_climbs_21, eX7_climbs_24, eX7_climbs_25, eX7_climbs_27, eX7_climbs_28, eX7_climbs_31, eX7_climbs_32, eX7_climbs_35, eX7_climbs_36, eX7_climbs_37, eX7_climbs_40, eX7_climbs_41, eX7_climbs_44, eX7_climbs_45, eX7_climbs_48, eX7_climbs_51, eX7_climbs_52, eX7_climbs_53, eX7_climbs_54, eX7_climbs_55, eX7_climbs_58, eX7_climbs_61, eX7_climbs_62, eX7_climbs_65, eX7_climbs_67, eX7_climbs_68, eX7_climbs_69, eX7_climbs_70, eX7_climbs_73, eX7_climbs_75, eX7_climbs_76, eX7_climbs_77, eX7_climbs_78, eX7_climbs_80, eX7_climbs_81, eX7_climbs_84, eX7_climbs_87, eX7_climbs_88, eX7_climbs_91, eX7_climbs_94, eX7_climbs_95, eX7_climbs_96, eX7_climbs_97, eX7_climbs_98, eX7_climbs_101, eX7_climbs_102, eX7_climbs_103, eX7_climbs_106, eX7_climbs_107, eX7_climbs_110, eX7_climbs_111, eX7_climbs_112, eX7_climbs_115, eX7_climbs_116, eX7_climbs_119, eX7_climbs_121, eX7_climbs_122, eX7_climbs_123, eX7_climbs_124, eX7_climbs_125, eX7_climbs_126, eX7_climbs_129, eX7_climbs_132, eX7_climbs_133, eX7_climbs_134, eX7_climbs_135, eX7_climbs_137, eX7_climbs_139, eX7_climbs_142, eX7_climbs_143, eX7_climbs_144, eX7_climbs_145, eX7_climbs_149, eX7_climbs_150, eX7_climbs_153, eX7_climbs_156, eX7_climbs_157, eX7_climbs_160, eX7_climbs_163, eX7_climbs_165, eX7_climbs_166, eX7_climbs_167, eX7_climbs_169, eX7_climbs_172, eX7_climbs_173, eX7_climbs_175, eX7_climbs_178, eX7_climbs_179, eX7_climbs_182, eX7_climbs_183, eX7_climbs_184, eX7_climbs_187, eX7_climbs_188, eX7_climbs_189, eX7_climbs_192, eX7_climbs_193, eX7_climbs_194, eX7_climbs_196, eX7_climbs_199, eX7_climbs_202, eX7_climbs_203, eX7_climbs_206, eX7_climbs_207, eX7_climbs_209, eX7_climbs_211, eX7_climbs_214, eX7_climbs_215, eX7_climbs_216, eX7_climbs_219, eX7_climbs_220, eX7_climbs_222, eX7_climbs_223, eX7_climbs_226, eX7_climbs_229, eX7_climbs_231, eX7_climbs_234, eX7_climbs_235, eX7_climbs_236, eX7_climbs_239, eX7_climbs_242, eX7_climbs_243, eX7_climbs_244, eX7_climbs_247, eX7_climbs_248, eX7_climbs_249, eX7_climbs_252, eX7_climbs_255, eX7_climbs_256, eX7_climbs_257, eX7_climbs_258, eX7_climbs_259, eX7_climbs_260, eX7_climbs_263, eX7_climbs_265, eX7_climbs_266, eX7_climbs_267, eX7_climbs_268, eX7_climbs_269, eX7_climbs_270, eX7_climbs_271, eX7_climbs_272, eX7_climbs_275, eX7_climbs_278, eX7_climbs_in, Option.toList_some, Option.toList_none, List.cons_append, List.nil_append, b2_0, Classical.not_not, false_implies, true_implies, implies_true, true_and, and_true, not_true_eq_false, not_false_eq_true]
          refine m_leadOf hR1 hC1 hR hC hN sm (by omega) ?_
          simp only [eX7_climbs_0, eX7_climbs_1, eX7_climbs_3, eX7_climbs_4, eX7_climbs_7, eX7_climbs_10, eX7_climbs_11, eX7_climbs_14, eX7_climbs_17, eX7_climbs_18, eX7_climbs_19, eX7_climbs_20, eX7_climbs_21, eX7_climbs_24, eX7_climbs_25, eX7_climbs_27, eX7_climbs_28, eX7_climbs_31, eX7_climbs_32, eX7_climbs_35, eX7_climbs_36, eX7_climbs_37, eX7_climbs_40, eX7_climbs_41, eX7_climbs_44, eX7_climbs_45, eX7_climbs_48, eX7_climbs_51, eX7_climbs_52, eX7_climbs_53, eX7_climbs_54, eX7_climbs_55, eX7_climbs_58, eX7_climbs_61, eX7_climbs_62, eX7_climbs_65, eX7_climbs_67, eX7_climbs_68, eX7_climbs_69, eX7_climbs_70, eX7_climbs_73, eX7_climbs_75, eX7_climbs_76, eX7_climbs_77, eX7_climbs_78, eX7_climbs_80, eX7_climbs_81, eX7_climbs_84, eX7_climbs_87, eX7_climbs_88, eX7_climbs_91, eX7_climbs_94, eX7_climbs_95, eX7_climbs_96, eX7_climbs_97, eX7_climbs_98, eX7_climbs_101, eX7_climbs_102, eX7_climbs_103, eX7_climbs_106, eX7_climbs_107, eX7_climbs_110, eX7_climbs_111, eX7_climbs_112, eX7_climbs_115, eX7_climbs_116, eX7_climbs_119, eX7_climbs_121, eX7_climbs_122, eX7_climbs_123, eX7_climbs_124, eX7_climbs_125, eX7_climbs_126, eX7_climbs_129, eX7_climbs_132, eX7_climbs_133, eX7_climbs_134, eX7_climbs_135, eX7_climbs_137, eX7_climbs_139, eX7_climbs_142, eX7_climbs_143, eX7_climbs_144, eX7_climbs_145, eX7_climbs_149, eX7_climbs_150, eX7_climbs_153, eX7_climbs_156, eX7_climbs_157, eX7_climbs_160, eX7_climbs_163, eX7_climbs_165, eX7_climbs_166, eX7_climbs_167, eX7_climbs_169, eX7_climbs_172, eX7_climbs_173, eX7_climbs_175, eX7_climbs_178, eX7_climbs_179, eX7_climbs_182, eX7_climbs_183, eX7_climbs_184, eX7_climbs_187, eX7_climbs_188, eX7_climbs_189, eX7_climbs_192, eX7_climbs_193, eX7_climbs_194, eX7_climbs_196, eX7_climbs_199, eX7_climbs_202, eX7_climbs_203, eX7_climbs_206, eX7_climbs_207, eX7_climbs_209, eX7_climbs_211, eX7_climbs_214, eX7_climbs_215, eX7_climbs_216, eX7_climbs_219, eX7_climbs_220, eX7_climbs_222, eX7_climbs_223, eX7_climbs_226, eX7_climbs_229, eX7_climbs_231, eX7_climbs_234, eX7_climbs_235, eX7_climbs_236, eX7_climbs_239, eX7_climbs_242, eX7_climbs_243, eX7_climbs_244, eX7_climbs_247, eX7_climbs_248, eX7_climbs_249, eX7_climbs_252, eX7_climbs_255, eX7_climbs_256, eX7_climbs_257, eX7_climbs_258, eX7_climbs_259, eX7_climbs_260, eX7_climbs_263, eX7_climbs_265, eX7_climbs_266, eX7_climbs_267, eX7_climbs_268, eX7_climbs_269, eX7_climbs_270, eX7_climbs_271, eX7_climbs_272, eX7_climbs_275, eX7_climbs_278, eX7_climbs_in, ne, Option.toList_some, Option.toList_none, List.cons_append, List.nil_append, b2_0, Classical.not_not, false_implies, true_implies, implies_true, true_and, and_true, not_true_eq_false, not_false_eq_true]
          refine m_leadOf hR1 hC1 hR hC hN sm (by omega) ?_
          simp only [eX7_climbs_0, eX7_climbs_1, eX7_climbs_3, eX7_climbs_4, eX7_climbs_7, eX7_climbs_10, eX7_climbs_11, eX7_climbs_14, eX7_climbs_17, eX7_climbs_18, eX7_climbs_19, eX7_climbs_20, eX7_climbs_21, eX7_climbs_24, eX7_climbs_25, eX7_climbs_27, eX7_climbs_28, eX7_climbs_31, eX7_climbs_32, eX7_climbs_35, eX7_climbs_36, eX7_climbs_37, eX7_climbs_40, eX7_climbs_41, eX7_climbs_44, eX7_climbs_45, eX7_climbs_48, eX7_climbs_51, eX7_climbs_52, eX7_climbs_53, eX7_climbs_54, eX7_climbs_55, eX7_climbs_58, eX7_climbs_61, eX7_climbs_62, eX7_climbs_65, eX7_climbs_67, eX7_climbs_68, eX7_climbs_69, eX7_climbs_70, eX7_climbs_73, eX7_climbs_75, eX7_climbs_76, eX7_climbs_77, eX7_climbs_78, eX7_climbs_80, eX7_climbs_81, eX7_climbs_84, eX7_climbs_87, eX7_climbs_88, eX7_climbs_91, eX7_climbs_94, eX7_climbs_95, eX7_climbs_96, eX7_climbs_97, eX7_climbs_98, eX7_climbs_101, eX7_climbs_102, eX7_climbs_103, eX7_climbs_106, eX7_climbs_107, eX7_climbs_110, eX7_climbs_111, eX7_climbs_112, eX7_climbs_115, eX7_climbs_116, eX7_climbs_119, eX7_climbs_121, eX7_climbs_122, eX7_climbs_123, eX7_climbs_124, eX7_climbs_125, eX7_climbs_126, eX7_climbs_129, eX7_climbs_132, eX7_climbs_133, eX7_climbs_134, eX7_climbs_135, eX7_climbs_137, eX7_climbs_139, eX7_climbs_142, eX7_climbs_143, eX7_climbs_144, eX7_climbs_145, eX7_climbs_149, eX7_climbs_150, eX7_climbs_153, eX7_climbs_156, eX7_climbs_157, eX7_climbs_160, eX7_climbs_163, eX7_climbs_165, eX7_climbs_166, eX7_climbs_167, eX7_climbs_169, eX7_climbs_172, eX7_climbs_173, eX7_climbs_175, eX7_climbs_178, eX7_climbs_179, eX7_climbs_182, eX7_climbs_183, eX7_climbs_184, eX7_climbs_187, eX7_climbs_188, eX7_climbs_189, eX7_climbs_192, eX7_climbs_193, eX7_climbs_194, eX7_climbs_196, eX7_climbs_199, eX7_climbs_202, eX7_climbs_203, eX7_climbs_206, eX7_climbs_207, eX7_climbs_209, eX7_climbs_211, eX7_climbs_214, eX7_climbs_215, eX7_climbs_216, eX7_climbs_219, eX7_climbs_220, eX7_climbs_222, eX7_climbs_223, eX7_climbs_226, eX7_climbs_229, eX7_climbs_231, eX7_climbs_234, eX7_climbs_235, eX7_climbs_236, eX7_climbs_239, eX7_climbs_242, eX7_climbs_243, eX7_climbs_244, eX7_climbs_247, eX7_climbs_248, eX7_climbs_249, eX7_climbs_252, eX7_climbs_255, eX7_climbs_256, eX7_climbs_257, eX7_climbs_258, eX7_climbs_259, eX7_climbs_260, eX7_climbs_263, eX7_climbs_265, eX7_climbs_266, eX7_climbs_267, eX7_climbs_268, eX7_climbs_269, eX7_climbs_270, eX7_climbs_271, eX7_climbs_272, eX7_climbs_275, eX7_climbs_278, eX7_climbs_in, Option.toList_some, Option.toList_none, List.cons_append, List.nil_append, b2_0, Classical.not_not, false_implies, true_implies, implies_true, true_and, and_true, not_true_eq_false, not_false_eq_true]
          exact ihn (ld A R C x) hl hf ht
    exact lp 64 i (by omega) (top_fix hR1 hC1 hR hC (by omega)) rfl
/-- the class: first where each leads, then its peak -/
noncomputable def pk1 (A : Nat → Int32) (R C i : Nat) : Nat → Int32 := fun j => @ite _ ((210 ≤ j ∧ j < 210 + i) ∧ ¬ A j = -1) (Classical.propDecidable _) (nI (ld A R C (j - 210))) (A j)
theorem pk1_0 (A : Nat → Int32) (R C : Nat) : pk1 A R C 0 = A := by
  funext j
  simp only [pk1]
  rw [if_neg (by omega)]
theorem pk1_s {A : Nat → Int32} {R C i : Nat} (h : ¬ A (210 + i) = -1) : upd (pk1 A R C i) (210 + i) (nI (ld A R C i)) = pk1 A R C (i + 1) := by
  funext j
  simp only [pk1, upd]
  by_cases e : j = 210 + i
  · subst e
    rw [if_pos rfl, if_pos ⟨by omega, h⟩, Nat.add_sub_cancel_left]
  · rw [if_neg e]
    by_cases h2 : (210 ≤ j ∧ j < 210 + i) ∧ ¬ A j = -1
    · rw [if_pos h2, if_pos ⟨by omega, h2.2⟩]
    · rw [if_neg h2, if_neg (fun z => h2 ⟨by omega, z.2⟩)]
theorem pk1_n {A : Nat → Int32} {R C i : Nat} (h : A (210 + i) = -1) : pk1 A R C i = pk1 A R C (i + 1) := by
  funext j
  simp only [pk1]
  by_cases h2 : (210 ≤ j ∧ j < 210 + i) ∧ ¬ A j = -1
  · rw [if_pos h2, if_pos ⟨by omega, h2.2⟩]
  · rw [if_neg h2, if_neg (fun z => h2 ⟨by
      have : j ≠ 210 + i := fun e => z.2 (by rw [e]; exact h)
      omega, z.2⟩)]
theorem pk1_lo {A : Nat → Int32} {R C i j : Nat} (h : j < 210 ∨ 210 + i ≤ j) : pk1 A R C i j = A j := by
  simp only [pk1]
  rw [if_neg (by omega)]
theorem pk1_Sm {A : Nat → Int32} {R C i : Nat} (hR1 : 1 ≤ R) (hC1 : 1 ≤ C) (hR : R ≤ 8) (hC : C ≤ 8) (hi : i ≤ R * C) (h0 : A 0 = nI R) (h1 : A 1 = nI C) : Sm A (pk1 A R C i) R C := by
  have h64 := rc_le hR hC
  refine ⟨by rw [pk1_lo (by omega)]; exact h0, by rw [pk1_lo (by omega)]; exact h1, fun k hk => pk1_lo (by omega), fun k hk => ?_⟩
  simp only [pk1]
  by_cases h2 : (210 ≤ 210 + k ∧ 210 + k < 210 + i) ∧ ¬ A (210 + k) = -1
  · rw [if_pos h2]
    have := ld_lt (A := A) hR1 hC1 hR hC (k := k) (by omega)
    rw [Nat.add_sub_cancel_left]
    exact ⟨fun z => absurd z (nI_nm1 (by omega)), fun z => absurd z h2.2⟩
  · rw [if_neg h2]
theorem c_lead {Q : Qt} {M0 M : Mm} {A : Nat → Int32} {R C cc tt r c : Nat} (hR1 : 1 ≤ R) (hC1 : 1 ≤ C) (hR : R ≤ 8) (hC : C ≤ 8) (h0 : A 0 = nI R) (h1 : A 1 = nI C) (hr : r < R) (hc : c < C) (hF : FrD M0 M) (hB : RV M.1 1 cc tt (pk1 A R C (r * C + c))) (hQ : ∀ M', FrD M0 M' → RV M'.1 1 cc tt (pk1 A R C (r * C + c + 1)) → Q none M') : kX1_lead [.ref 3, .int (nI r), .int (nI c)] M Q := by
  have hi := idx_lt hr hc
  have h64 := rc_le hR hC
  have hix : nI r * nI C + nI c = nI (r * C + c) := by rw [pk_mul, nI_add]
  obtain ⟨d1, d2⟩ := dm (r := r) hc
  have sm := pk1_Sm (A := A) hR1 hC1 hR hC (show r * C + c ≤ R * C by omega) h0 h1
  have lc := @ld_c A R C (r * C + c)
  rw [d1, d2] at lc
  generalize r * C + c = i at *
  have e31 : M.1 3 1 = nI C := (hB.lo (k := 1) (by omega)).trans sm.2.1
  have e7 : M.1 7 i = A (210 + i) := (hB.peak (by omega)).trans (pk1_lo (by omega))
  have cl : (nI i).toNatClampNeg = i := nI_clamp (by omega)
  have vp : vp_in (nI i) 64 := vpn (by omega) (by decide)
  simp only [eX1_lead_0, eX1_lead_1, eX1_lead_2, eX1_lead_3, eX1_lead_6, eX1_lead_7, eX1_lead_8, eX1_lead_9, eX1_lead_12, eX1_lead_15, eX1_lead_16, eX1_lead_17, eX1_lead_18, eX1_lead_19, eX1_lead_20, eX1_lead_21, eX1_lead_24, eX1_lead_26, eX1_lead_27, eX1_lead_29, eX1_lead_30, eX1_lead_31, eX1_lead_32, eX1_lead_33, eX1_lead_36, eX1_lead_38, eX1_lead_39, eX1_lead_41, eX1_lead_42, eX1_lead_43, eX1_lead_44, eX1_lead_45, eX1_lead_48, eX1_lead_50, eX1_lead_51, eX1_lead_54, eX1_lead_55, eX1_lead_56, eX1_lead_58, eX1_lead_59, eX1_lead_60, eX1_lead_61, eX1_lead_62, eX1_lead_65, eX1_lead_66, eX1_lead_in, q_at, q_isTouched, e31, hix, cl, vp, e7, Option.toList_some, Option.toList_none, List.cons_append, List.nil_append, b2_0, Classical.not_not, false_implies, true_implies, implies_true, true_and, and_true, not_true_eq_false, not_false_eq_true]
  refine ⟨fun z => hQ M hF (by rw [← pk1_n z]; exact hB), fun z => ?_⟩
  refine c_strongerOf hR1 hC1 hR hC hB sm (by omega) ?_
  simp only [eX1_lead_0, eX1_lead_1, eX1_lead_2, eX1_lead_3, eX1_lead_6, eX1_lead_7, eX1_lead_8, eX1_lead_9, eX1_lead_12, eX1_lead_15, eX1_lead_16, eX1_lead_17, eX1_lead_18, eX1_lead_19, eX1_lead_20, eX1_lead_21, eX1_lead_24, eX1_lead_26, eX1_lead_27, eX1_lead_29, eX1_lead_30, eX1_lead_31, eX1_lead_32, eX1_lead_33, eX1_lead_36, eX1_lead_38, eX1_lead_39, eX1_lead_41, eX1_lead_42, eX1_lead_43, eX1_lead_44, eX1_lead_45, eX1_lead_48, eX1_lead_50, eX1_lead_51, eX1_lead_54, eX1_lead_55, eX1_lead_56, eX1_lead_58, eX1_lead_59, eX1_lead_60, eX1_lead_61, eX1_lead_62, eX1_lead_65, eX1_lead_66, eX1_lead_in, Option.toList_some, Option.toList_none, List.cons_append, List.nil_append, b2_0, Classical.not_not, false_implies, true_implies, implies_true, true_and, and_true, not_true_eq_false, not_false_eq_true]
  refine c_strongerOf hR1 hC1 hR hC hB sm (pkr_lt hR1 hC1 hR hC (by omega)) ?_
  simp only [eX1_lead_0, eX1_lead_1, eX1_lead_2, eX1_lead_3, eX1_lead_6, eX1_lead_7, eX1_lead_8, eX1_lead_9, eX1_lead_12, eX1_lead_15, eX1_lead_16, eX1_lead_17, eX1_lead_18, eX1_lead_19, eX1_lead_20, eX1_lead_21, eX1_lead_24, eX1_lead_26, eX1_lead_27, eX1_lead_29, eX1_lead_30, eX1_lead_31, eX1_lead_32, eX1_lead_33, eX1_lead_36, eX1_lead_38, eX1_lead_39, eX1_lead_41, eX1_lead_42, eX1_lead_43, eX1_lead_44, eX1_lead_45, eX1_lead_48, eX1_lead_50, eX1_lead_51, eX1_lead_54, eX1_lead_55, eX1_lead_56, eX1_lead_58, eX1_lead_59, eX1_lead_60, eX1_lead_61, eX1_lead_62, eX1_lead_65, eX1_lead_66, eX1_lead_in, Option.toList_some, Option.toList_none, List.cons_append, List.nil_append, b2_0, Classical.not_not, false_implies, true_implies, implies_true, true_and, and_true, not_true_eq_false, not_false_eq_true]
  refine c_strongerOf hR1 hC1 hR hC hB sm (pkr_lt hR1 hC1 hR hC (pkr_lt hR1 hC1 hR hC (by omega))) ?_
  simp only [eX1_lead_0, eX1_lead_1, eX1_lead_2, eX1_lead_3, eX1_lead_6, eX1_lead_7, eX1_lead_8, eX1_lead_9, eX1_lead_12, eX1_lead_15, eX1_lead_16, eX1_lead_17, eX1_lead_18, eX1_lead_19, eX1_lead_20, eX1_lead_21, eX1_lead_24, eX1_lead_26, eX1_lead_27, eX1_lead_29, eX1_lead_30, eX1_lead_31, eX1_lead_32, eX1_lead_33, eX1_lead_36, eX1_lead_38, eX1_lead_39, eX1_lead_41, eX1_lead_42, eX1_lead_43, eX1_lead_44, eX1_lead_45, eX1_lead_48, eX1_lead_50, eX1_lead_51, eX1_lead_54, eX1_lead_55, eX1_lead_56, eX1_lead_58, eX1_lead_59, eX1_lead_60, eX1_lead_61, eX1_lead_62, eX1_lead_65, eX1_lead_66, eX1_lead_in, Option.toList_some, Option.toList_none, List.cons_append, List.nil_append, b2_0, Classical.not_not, false_implies, true_implies, implies_true, true_and, and_true, not_true_eq_false, not_false_eq_true]
  refine c_strongerOf hR1 hC1 hR hC hB sm (pkr_lt hR1 hC1 hR hC (pkr_lt hR1 hC1 hR hC (pkr_lt hR1 hC1 hR hC (by omega)))) ?_
  simp only [eX1_lead_0, eX1_lead_1, eX1_lead_2, eX1_lead_3, eX1_lead_6, eX1_lead_7, eX1_lead_8, eX1_lead_9, eX1_lead_12, eX1_lead_15, eX1_lead_16, eX1_lead_17, eX1_lead_18, eX1_lead_19, eX1_lead_20, eX1_lead_21, eX1_lead_24, eX1_lead_26, eX1_lead_27, eX1_lead_29, eX1_lead_30, eX1_lead_31, eX1_lead_32, eX1_lead_33, eX1_lead_36, eX1_lead_38, eX1_lead_39, eX1_lead_41, eX1_lead_42, eX1_lead_43, eX1_lead_44, eX1_lead_45, eX1_lead_48, eX1_lead_50, eX1_lead_51, eX1_lead_54, eX1_lead_55, eX1_lead_56, eX1_lead_58, eX1_lead_59, eX1_lead_60, eX1_lead_61, eX1_lead_62, eX1_lead_65, eX1_lead_66, eX1_lead_in, cl, vp, lc, Option.toList_some, Option.toList_none, List.cons_append, List.nil_append, b2_0, Classical.not_not, false_implies, true_implies, implies_true, true_and, and_true, not_true_eq_false, not_false_eq_true]
  refine hQ _ (hF.set (by omega)) ?_
  rw [← pk1_s z]
  exact hB.pp (by omega)
/-- behind the i-th place where each leads, ahead of it the peak -/
noncomputable def pk2 (A : Nat → Int32) (R C i : Nat) : Nat → Int32 := fun j => @ite _ ((210 ≤ j ∧ j < 210 + i) ∧ ¬ A j = -1) (Classical.propDecidable _) (nI (top A R C (j - 210))) (pk1 A R C (R * C) j)
theorem pk2_0 (A : Nat → Int32) (R C : Nat) : pk2 A R C 0 = pk1 A R C (R * C) := by
  funext j
  simp only [pk2]
  rw [if_neg (by omega)]
theorem pk2_e (A : Nat → Int32) (R C : Nat) : pk2 A R C (R * C) = pkN A R C (R * C) := by
  funext j
  simp only [pk2, pkN]
  by_cases h2 : (210 ≤ j ∧ j < 210 + R * C) ∧ ¬ A j = -1
  · rw [if_pos h2, if_pos h2]
  · rw [if_neg h2, if_neg h2]
    simp only [pk1]
    rw [if_neg h2]
theorem pk2_s {A : Nat → Int32} {R C i : Nat} {v : Int32} (h : v = @ite _ (¬ A (210 + i) = -1) (Classical.propDecidable _) (nI (top A R C i)) (-1)) : upd (pk2 A R C i) (210 + i) v = pk2 A R C (i + 1) := by
  funext j
  simp only [pk2, upd]
  by_cases e : j = 210 + i
  · subst e
    rw [if_pos rfl, h]
    by_cases z : A (210 + i) = -1
    · rw [if_neg (fun q => q z), if_neg (fun q => q.2 z)]
      simp only [pk1]
      rw [if_neg (fun q => q.2 z), z]
    · rw [if_pos z, if_pos ⟨by omega, z⟩, Nat.add_sub_cancel_left]
  · rw [if_neg e]
    by_cases h2 : (210 ≤ j ∧ j < 210 + i) ∧ ¬ A j = -1
    · rw [if_pos h2, if_pos ⟨by omega, h2.2⟩]
    · rw [if_neg h2, if_neg (fun z => h2 ⟨by omega, z.2⟩)]
theorem pk2_at {A : Nat → Int32} {R C i x : Nat} (hx : x < R * C) : pk2 A R C i (210 + x) = @ite _ (A (210 + x) = -1) (Classical.propDecidable _) (-1) (nI (if x < i then top A R C x else ld A R C x)) := by
  simp only [pk2, pk1]
  rw [Nat.add_sub_cancel_left]
  by_cases z : A (210 + x) = -1
  · rw [if_neg (fun q => q.2 z), if_neg (fun q => q.2 z), if_pos z, z]
  · rw [if_neg z]
    by_cases hxi : x < i
    · rw [if_pos ⟨by omega, z⟩, if_pos hxi]
    · rw [if_neg (fun q => by omega), if_pos ⟨by omega, z⟩, if_neg hxi]
theorem pk2_lo {A : Nat → Int32} {R C i j : Nat} (h : j < 210) : pk2 A R C i j = A j := by
  simp only [pk2, pk1]
  rw [if_neg (by omega), if_neg (by omega)]
theorem c_topFrom {Q : Qt} {M : Mm} {A : Nat → Int32} {R C cc tt i : Nat} (hR1 : 1 ≤ R) (hC1 : 1 ≤ C) (hR : R ≤ 8) (hC : C ≤ 8) (h0 : A 0 = nI R) (h1 : A 1 = nI C) (hi : i < R * C) (hB : RV M.1 1 cc tt (pk2 A R C i)) (hQ : Q (some (.int (@ite _ (¬ A (210 + i) = -1) (Classical.propDecidable _) (nI (top A R C i)) (-1)))) M) : kX1_topFrom [.ref 3, .int (nI i)] M Q := by
  have h64 := rc_le hR hC
  have e30 : M.1 3 0 = nI R := (hB.lo (k := 0) (by omega)).trans ((pk2_lo (by omega)).trans h0)
  have e31 : M.1 3 1 = nI C := (hB.lo (k := 1) (by omega)).trans ((pk2_lo (by omega)).trans h1)
  have pv : ∀ x, x < R * C → M.1 7 x = @ite _ (A (210 + x) = -1) (Classical.propDecidable _) (-1) (nI (if x < i then top A R C x else ld A R C x)) := fun x hx => (hB.peak (by omega)).trans (pk2_at hx)
  have cl : ∀ x, x < R * C → (nI x).toNatClampNeg = x := fun x hx => nI_clamp (by omega)
  have vp : ∀ x, x < R * C → vp_in (nI x) 64 := fun x hx => vpn (by omega) (by decide)
  simp only [eX1_topFrom_0, eX1_topFrom_1, eX1_topFrom_4, eX1_topFrom_5, eX1_topFrom_6, eX1_topFrom_7, eX1_topFrom_8, eX1_topFrom_10, eX1_topFrom_12, eX1_topFrom_15, eX1_topFrom_16, eX1_topFrom_17, eX1_topFrom_20, eX1_topFrom_23, eX1_topFrom_24, eX1_topFrom_27, eX1_topFrom_28, eX1_topFrom_29, eX1_topFrom_30, eX1_topFrom_33, eX1_topFrom_34, eX1_topFrom_37, eX1_topFrom_38, eX1_topFrom_39, eX1_topFrom_40, eX1_topFrom_43, eX1_topFrom_46, eX1_topFrom_47, eX1_topFrom_in, cl i hi, vp i hi, pv i hi, Option.toList_some, Option.toList_none, List.cons_append, List.nil_append, b2_0, Classical.not_not, false_implies, true_implies, implies_true, true_and, and_true, not_true_eq_false, not_false_eq_true]
  by_cases z : A (210 + i) = -1
  · rw [if_neg (fun q => q z)] at hQ
    rw [if_pos z, eX1_topFrom_9]
    have q : ¬ (0 ≤ (-1 : Int32) ∧ -1 < nI R * nI C) := fun u => absurd u.1 (by decide)
    have q2 : ¬ ((64 : Int32) ≤ 0) := by decide
    simp only [eX1_topFrom_0, eX1_topFrom_1, eX1_topFrom_4, eX1_topFrom_5, eX1_topFrom_6, eX1_topFrom_7, eX1_topFrom_8, eX1_topFrom_10, eX1_topFrom_12, eX1_topFrom_15, eX1_topFrom_16, eX1_topFrom_17, eX1_topFrom_20, eX1_topFrom_23, eX1_topFrom_24, eX1_topFrom_27, eX1_topFrom_28, eX1_topFrom_29, eX1_topFrom_30, eX1_topFrom_33, eX1_topFrom_34, eX1_topFrom_37, eX1_topFrom_38, eX1_topFrom_39, eX1_topFrom_40, eX1_topFrom_43, eX1_topFrom_46, eX1_topFrom_47, eX1_topFrom_in, q_hasCell, e30, e31, q, q2, Option.toList_some, Option.toList_none, List.cons_append, List.nil_append, b2_0, Classical.not_not, false_implies, true_implies, implies_true, true_and, and_true, not_true_eq_false, not_false_eq_true]
    exact hQ
  · rw [if_pos z] at hQ
    rw [if_neg z, if_neg (Nat.lt_irrefl i)]
    have lp : ∀ n x st, rk A (R * C) x ≤ n → x < R * C → ¬ A (210 + x) = -1 → top A R C x = top A R C i → rk A (R * C) x + st < 64 → V pgX1_topFrom Q 9 [.ref 3, .int (nI i), .int (nI x), .int (nI st)] [] M := by
      intro n
      induction n with
      | zero =>
        intro x st hn hx ht htop hst
        have hf : ld A R C x = x := by
          rcases ld_or (A := A) (k := x) hR1 hC1 hR hC with q | ⟨q1, q2, q3⟩
          · exact q
          · have := rk_lt q1 q3
            omega
        have hx' : x = top A R C i := by
          rw [← htop]
          exact (itr_fix hf 64).symm
        have hv : M.1 7 x = nI x := by
          rw [pv x hx, if_neg ht]
          split
          · rw [show top A R C x = x from itr_fix hf 64]
          · rw [hf]
        have g1 : ¬ ((64 : Int32) ≤ nI st) := nI_ge (b := 64) (by omega) (by omega)
        have g2 : 0 ≤ nI x ∧ nI x < nI (R * C) := ⟨nI0le _ (by omega), nI_lt hx (by omega)⟩
        rw [eX1_topFrom_9]
        simp only [eX1_topFrom_0, eX1_topFrom_1, eX1_topFrom_4, eX1_topFrom_5, eX1_topFrom_6, eX1_topFrom_7, eX1_topFrom_8, eX1_topFrom_10, eX1_topFrom_12, eX1_topFrom_15, eX1_topFrom_16, eX1_topFrom_17, eX1_topFrom_20, eX1_topFrom_23, eX1_topFrom_24, eX1_topFrom_27, eX1_topFrom_28, eX1_topFrom_29, eX1_topFrom_30, eX1_topFrom_33, eX1_topFrom_34, eX1_topFrom_37, eX1_topFrom_38, eX1_topFrom_39, eX1_topFrom_40, eX1_topFrom_43, eX1_topFrom_46, eX1_topFrom_47, eX1_topFrom_in, q_hasCell, e30, e31, pk_mul, g1, g2, cl x hx, vp x hx, hv, Option.toList_some, Option.toList_none, List.cons_append, List.nil_append, b2_0, Classical.not_not, false_implies, true_implies, implies_true, true_and, and_true, not_true_eq_false, not_false_eq_true]
        rw [hx']
        exact hQ
      | succ n ih =>
        intro x st hn hx ht htop hst
        have g1 : ¬ ((64 : Int32) ≤ nI st) := nI_ge (b := 64) (by omega) (by omega)
        have g2 : 0 ≤ nI x ∧ nI x < nI (R * C) := ⟨nI0le _ (by omega), nI_lt hx (by omega)⟩
        by_cases hf : ld A R C x = x
        · have hx' : x = top A R C i := by
            rw [← htop]
            exact (itr_fix hf 64).symm
          have hv : M.1 7 x = nI x := by
            rw [pv x hx, if_neg ht]
            split
            · rw [show top A R C x = x from itr_fix hf 64]
            · rw [hf]
          rw [eX1_topFrom_9]
          simp only [eX1_topFrom_0, eX1_topFrom_1, eX1_topFrom_4, eX1_topFrom_5, eX1_topFrom_6, eX1_topFrom_7, eX1_topFrom_8, eX1_topFrom_10, eX1_topFrom_12, eX1_topFrom_15, eX1_topFrom_16, eX1_topFrom_17, eX1_topFrom_20, eX1_topFrom_23, eX1_topFrom_24, eX1_topFrom_27, eX1_topFrom_28, eX1_topFrom_29, eX1_topFrom_30, eX1_topFrom_33, eX1_topFrom_34, eX1_topFrom_37, eX1_topFrom_38, eX1_topFrom_39, eX1_topFrom_40, eX1_topFrom_43, eX1_topFrom_46, eX1_topFrom_47, eX1_topFrom_in, q_hasCell, e30, e31, pk_mul, g1, g2, cl x hx, vp x hx, hv, Option.toList_some, Option.toList_none, List.cons_append, List.nil_append, b2_0, Classical.not_not, false_implies, true_implies, implies_true, true_and, and_true, not_true_eq_false, not_false_eq_true]
          rw [hx']
          exact hQ
        · obtain ⟨w, w1, w2, w3, w4, w5⟩ : ∃ w, M.1 7 x = nI w ∧ w < R * C ∧ ¬ A (210 + w) = -1 ∧ top A R C w = top A R C i ∧ str A w x := by
            by_cases hxi : x < i
            · refine ⟨top A R C x, by rw [pv x hx, if_neg ht, if_pos hxi], top_lt hR1 hC1 hR hC hx, itr_tch hR1 hC1 hR hC 64 x ht, ?_, ?_⟩
              · rw [← htop]
                exact itr_fix (top_fix hR1 hC1 hR hC hx) 64
              · rcases itr_str (A := A) hR1 hC1 hR hC 64 x with q | q
                · exact absurd (top_self hR1 hC1 hR hC q) hf
                · exact q
            · refine ⟨ld A R C x, by rw [pv x hx, if_neg ht, if_neg hxi], ld_lt hR1 hC1 hR hC hx, ld_tch hR1 hC1 hR hC ht, ?_, ?_⟩
              · rw [top_ld hR1 hC1 hR hC hx]
                exact htop
              · rcases ld_or (A := A) (k := x) hR1 hC1 hR hC with q | ⟨-, -, q⟩
                · exact absurd q hf
                · exact q
          have hrk := rk_lt w2 w5
          have ne : ¬ (nI w = nI x) := fun q => by
            have := (nI_eq (by omega) (by omega)).mp q
            rw [this] at w5
            exact str_ir w5
          rw [eX1_topFrom_9]
          simp only [eX1_topFrom_0, eX1_topFrom_1, eX1_topFrom_4, eX1_topFrom_5, eX1_topFrom_6, eX1_topFrom_7, eX1_topFrom_8, eX1_topFrom_10, eX1_topFrom_12, eX1_topFrom_15, eX1_topFrom_16, eX1_topFrom_17, eX1_topFrom_20, eX1_topFrom_23, eX1_topFrom_24, eX1_topFrom_27, eX1_topFrom_28, eX1_topFrom_29, eX1_topFrom_30, eX1_topFrom_33, eX1_topFrom_34, eX1_topFrom_37, eX1_topFrom_38, eX1_topFrom_39, eX1_topFrom_40, eX1_topFrom_43, eX1_topFrom_46, eX1_topFrom_47, eX1_topFrom_in, q_hasCell, e30, e31, pk_mul, g1, g2, cl x hx, vp x hx, w1, ne, nI_1, Option.toList_some, Option.toList_none, List.cons_append, List.nil_append, b2_0, Classical.not_not, false_implies, true_implies, implies_true, true_and, and_true, not_true_eq_false, not_false_eq_true]
          exact ih w (st + 1) (by omega) w2 w3 w4 (by omega)
    have hl := ld_lt (A := A) hR1 hC1 hR hC hi
    have := rk_max (A := A) hl
    exact lp 64 (ld A R C i) 0 (by omega) hl (ld_tch hR1 hC1 hR hC z) (top_ld hR1 hC1 hR hC hi) (by omega)
theorem c_climb {Q : Qt} {M : Mm} {A : Nat → Int32} {R C cc tt : Nat} (hR1 : 1 ≤ R) (hC1 : 1 ≤ C) (hR : R ≤ 8) (hC : C ≤ 8) (h0 : A 0 = nI R) (h1 : A 1 = nI C) (hB : RV M.1 1 cc tt A) (hQ : ∀ M', FrD M M' → RV M'.1 1 cc tt (pkN A R C (R * C)) → Q none M') : kX1_climb [.ref 3] M Q := by
  have h64 := rc_le hR hC
  have l2 : ∀ d i (M1 : Mm), i + d = R * C → FrD M M1 → RV M1.1 1 cc tt (pk2 A R C i) → V pgX1_climb Q 45 [.ref 3, .int (nI (R * C)), .int (nI i)] [] M1 := by
    intro d
    induction d with
    | zero =>
      intro i M1 hi hF hB1
      have : i = R * C := by omega
      subst this
      rw [eX1_climb_45]
      simp only [eX1_climb_0, eX1_climb_1, eX1_climb_3, eX1_climb_4, eX1_climb_7, eX1_climb_10, eX1_climb_11, eX1_climb_13, eX1_climb_14, eX1_climb_17, eX1_climb_20, eX1_climb_21, eX1_climb_22, eX1_climb_23, eX1_climb_26, eX1_climb_29, eX1_climb_32, eX1_climb_35, eX1_climb_38, eX1_climb_39, eX1_climb_42, eX1_climb_43, eX1_climb_44, eX1_climb_46, eX1_climb_47, eX1_climb_50, eX1_climb_51, eX1_climb_54, eX1_climb_55, eX1_climb_56, eX1_climb_57, eX1_climb_60, eX1_climb_61, eX1_climb_64, eX1_climb_67, eX1_climb_in, Int32.le_refl, Option.toList_some, Option.toList_none, List.cons_append, List.nil_append, b2_0, Classical.not_not, false_implies, true_implies, implies_true, true_and, and_true, not_true_eq_false, not_false_eq_true]
      exact hQ M1 hF (by rw [← pk2_e]; exact hB1)
    | succ d ih =>
      intro i M1 hi hF hB1
      rw [eX1_climb_45]
      simp only [eX1_climb_0, eX1_climb_1, eX1_climb_3, eX1_climb_4, eX1_climb_7, eX1_climb_10, eX1_climb_11, eX1_climb_13, eX1_climb_14, eX1_climb_17, eX1_climb_20, eX1_climb_21, eX1_climb_22, eX1_climb_23, eX1_climb_26, eX1_climb_29, eX1_climb_32, eX1_climb_35, eX1_climb_38, eX1_climb_39, eX1_climb_42, eX1_climb_43, eX1_climb_44, eX1_climb_46, eX1_climb_47, eX1_climb_50, eX1_climb_51, eX1_climb_54, eX1_climb_55, eX1_climb_56, eX1_climb_57, eX1_climb_60, eX1_climb_61, eX1_climb_64, eX1_climb_67, eX1_climb_in, nI_ge (show i < R * C by omega) (show R * C < 2 ^ 31 by omega), Option.toList_some, Option.toList_none, List.cons_append, List.nil_append, b2_0, Classical.not_not, false_implies, true_implies, implies_true, true_and, and_true, not_true_eq_false, not_false_eq_true]
      refine c_topFrom hR1 hC1 hR hC h0 h1 (by omega) hB1 ?_
      simp only [eX1_climb_0, eX1_climb_1, eX1_climb_3, eX1_climb_4, eX1_climb_7, eX1_climb_10, eX1_climb_11, eX1_climb_13, eX1_climb_14, eX1_climb_17, eX1_climb_20, eX1_climb_21, eX1_climb_22, eX1_climb_23, eX1_climb_26, eX1_climb_29, eX1_climb_32, eX1_climb_35, eX1_climb_38, eX1_climb_39, eX1_climb_42, eX1_climb_43, eX1_climb_44, eX1_climb_46, eX1_climb_47, eX1_climb_50, eX1_climb_51, eX1_climb_54, eX1_climb_55, eX1_climb_56, eX1_climb_57, eX1_climb_60, eX1_climb_61, eX1_climb_64, eX1_climb_67, eX1_climb_in, nI_clamp (show i < 2 ^ 31 by omega), vpn (show i < 64 by omega) (by decide : 64 < 2147483648), nI_1, Option.toList_some, Option.toList_none, List.cons_append, List.nil_append, b2_0, Classical.not_not, false_implies, true_implies, implies_true, true_and, and_true, not_true_eq_false, not_false_eq_true]
      refine ih (i + 1) _ (by omega) (hF.set (by omega)) ?_
      rw [← pk2_s rfl]
      exact hB1.pp (by omega)
  have lc : ∀ r, r < R → (∀ (M1 : Mm) (l2 : Value), FrD M M1 → RV M1.1 1 cc tt (pk1 A R C ((r + 1) * C)) → V pgX1_climb Q 2 [.ref 3, .int (nI (r + 1)), l2] [] M1) → ∀ d c (M1 : Mm), c + d = C → FrD M M1 → RV M1.1 1 cc tt (pk1 A R C (r * C + c)) → V pgX1_climb Q 12 [.ref 3, .int (nI r), .int (nI c)] [] M1 := by
    intro r hr next d
    induction d with
    | zero =>
      intro c M1 hc hF hB1
      have : c = C := by omega
      subst this
      have e31 : M1.1 3 1 = nI c := (hB1.lo (k := 1) (by omega)).trans ((pk1_lo (by omega)).trans h1)
      have e : r * c + c = (r + 1) * c := by rw [Nat.add_mul, Nat.one_mul]
      rw [eX1_climb_12]
      simp only [eX1_climb_0, eX1_climb_1, eX1_climb_3, eX1_climb_4, eX1_climb_7, eX1_climb_10, eX1_climb_11, eX1_climb_13, eX1_climb_14, eX1_climb_17, eX1_climb_20, eX1_climb_21, eX1_climb_22, eX1_climb_23, eX1_climb_26, eX1_climb_29, eX1_climb_32, eX1_climb_35, eX1_climb_38, eX1_climb_39, eX1_climb_42, eX1_climb_43, eX1_climb_44, eX1_climb_46, eX1_climb_47, eX1_climb_50, eX1_climb_51, eX1_climb_54, eX1_climb_55, eX1_climb_56, eX1_climb_57, eX1_climb_60, eX1_climb_61, eX1_climb_64, eX1_climb_67, eX1_climb_in, e31, Int32.le_refl, nI_1, Option.toList_some, Option.toList_none, List.cons_append, List.nil_append, b2_0, Classical.not_not, false_implies, true_implies, implies_true, true_and, and_true, not_true_eq_false, not_false_eq_true]
      exact next M1 _ hF (by rw [← e]; exact hB1)
    | succ d ih =>
      intro c M1 hc hF hB1
      have e31 : M1.1 3 1 = nI C := (hB1.lo (k := 1) (by omega)).trans ((pk1_lo (by omega)).trans h1)
      rw [eX1_climb_12]
      simp only [eX1_climb_0, eX1_climb_1, eX1_climb_3, eX1_climb_4, eX1_climb_7, eX1_climb_10, eX1_climb_11, eX1_climb_13, eX1_climb_14, eX1_climb_17, eX1_climb_20, eX1_climb_21, eX1_climb_22, eX1_climb_23, eX1_climb_26, eX1_climb_29, eX1_climb_32, eX1_climb_35, eX1_climb_38, eX1_climb_39, eX1_climb_42, eX1_climb_43, eX1_climb_44, eX1_climb_46, eX1_climb_47, eX1_climb_50, eX1_climb_51, eX1_climb_54, eX1_climb_55, eX1_climb_56, eX1_climb_57, eX1_climb_60, eX1_climb_61, eX1_climb_64, eX1_climb_67, eX1_climb_in, e31, nI_ge (show c < C by omega) (show C < 2 ^ 31 by omega), Option.toList_some, Option.toList_none, List.cons_append, List.nil_append, b2_0, Classical.not_not, false_implies, true_implies, implies_true, true_and, and_true, not_true_eq_false, not_false_eq_true]
      refine c_lead hR1 hC1 hR hC h0 h1 hr (by omega) hF hB1 (fun M2 F2 B2 => ?_)
      simp only [eX1_climb_0, eX1_climb_1, eX1_climb_3, eX1_climb_4, eX1_climb_7, eX1_climb_10, eX1_climb_11, eX1_climb_13, eX1_climb_14, eX1_climb_17, eX1_climb_20, eX1_climb_21, eX1_climb_22, eX1_climb_23, eX1_climb_26, eX1_climb_29, eX1_climb_32, eX1_climb_35, eX1_climb_38, eX1_climb_39, eX1_climb_42, eX1_climb_43, eX1_climb_44, eX1_climb_46, eX1_climb_47, eX1_climb_50, eX1_climb_51, eX1_climb_54, eX1_climb_55, eX1_climb_56, eX1_climb_57, eX1_climb_60, eX1_climb_61, eX1_climb_64, eX1_climb_67, eX1_climb_in, nI_1, Option.toList_some, Option.toList_none, List.cons_append, List.nil_append, b2_0, Classical.not_not, false_implies, true_implies, implies_true, true_and, and_true, not_true_eq_false, not_false_eq_true]
      exact ih (c + 1) M2 (by omega) F2 B2
  have lr : ∀ d r (M1 : Mm) (l2 : Value), r + d = R → FrD M M1 → RV M1.1 1 cc tt (pk1 A R C (r * C)) → V pgX1_climb Q 2 [.ref 3, .int (nI r), l2] [] M1 := by
    intro d
    induction d with
    | zero =>
      intro r M1 l2' hr hF hB1
      have : r = R := by omega
      subst this
      have e30 : M1.1 3 0 = nI r := (hB1.lo (k := 0) (by omega)).trans ((pk1_lo (by omega)).trans h0)
      have e31 : M1.1 3 1 = nI C := (hB1.lo (k := 1) (by omega)).trans ((pk1_lo (by omega)).trans h1)
      rw [eX1_climb_2]
      simp only [eX1_climb_0, eX1_climb_1, eX1_climb_3, eX1_climb_4, eX1_climb_7, eX1_climb_10, eX1_climb_11, eX1_climb_13, eX1_climb_14, eX1_climb_17, eX1_climb_20, eX1_climb_21, eX1_climb_22, eX1_climb_23, eX1_climb_26, eX1_climb_29, eX1_climb_32, eX1_climb_35, eX1_climb_38, eX1_climb_39, eX1_climb_42, eX1_climb_43, eX1_climb_44, eX1_climb_46, eX1_climb_47, eX1_climb_50, eX1_climb_51, eX1_climb_54, eX1_climb_55, eX1_climb_56, eX1_climb_57, eX1_climb_60, eX1_climb_61, eX1_climb_64, eX1_climb_67, eX1_climb_in, q_cells, e30, e31, pk_mul, Int32.le_refl, Option.toList_some, Option.toList_none, List.cons_append, List.nil_append, b2_0, Classical.not_not, false_implies, true_implies, implies_true, true_and, and_true, not_true_eq_false, not_false_eq_true]
      exact l2 (r * C) 0 M1 (by omega) hF (by rw [pk2_0]; exact hB1)
    | succ d ih =>
      intro r M1 l2' hr hF hB1
      have e30 : M1.1 3 0 = nI R := (hB1.lo (k := 0) (by omega)).trans ((pk1_lo (by omega)).trans h0)
      rw [eX1_climb_2]
      simp only [eX1_climb_0, eX1_climb_1, eX1_climb_3, eX1_climb_4, eX1_climb_7, eX1_climb_10, eX1_climb_11, eX1_climb_13, eX1_climb_14, eX1_climb_17, eX1_climb_20, eX1_climb_21, eX1_climb_22, eX1_climb_23, eX1_climb_26, eX1_climb_29, eX1_climb_32, eX1_climb_35, eX1_climb_38, eX1_climb_39, eX1_climb_42, eX1_climb_43, eX1_climb_44, eX1_climb_46, eX1_climb_47, eX1_climb_50, eX1_climb_51, eX1_climb_54, eX1_climb_55, eX1_climb_56, eX1_climb_57, eX1_climb_60, eX1_climb_61, eX1_climb_64, eX1_climb_67, eX1_climb_in, e30, nI_ge (show r < R by omega) (show R < 2 ^ 31 by omega), Option.toList_some, Option.toList_none, List.cons_append, List.nil_append, b2_0, Classical.not_not, false_implies, true_implies, implies_true, true_and, and_true, not_true_eq_false, not_false_eq_true]
      exact lc r (by omega) (fun M2 l F2 B2 => ih (r + 1) M2 l (by omega) F2 B2) C 0 M1 (by omega) hF hB1
  simp only [eX1_climb_0, eX1_climb_1, eX1_climb_3, eX1_climb_4, eX1_climb_7, eX1_climb_10, eX1_climb_11, eX1_climb_13, eX1_climb_14, eX1_climb_17, eX1_climb_20, eX1_climb_21, eX1_climb_22, eX1_climb_23, eX1_climb_26, eX1_climb_29, eX1_climb_32, eX1_climb_35, eX1_climb_38, eX1_climb_39, eX1_climb_42, eX1_climb_43, eX1_climb_44, eX1_climb_46, eX1_climb_47, eX1_climb_50, eX1_climb_51, eX1_climb_54, eX1_climb_55, eX1_climb_56, eX1_climb_57, eX1_climb_60, eX1_climb_61, eX1_climb_64, eX1_climb_67, eX1_climb_in, Option.toList_some, Option.toList_none, List.cons_append, List.nil_append, b2_0, Classical.not_not, false_implies, true_implies, implies_true, true_and, and_true, not_true_eq_false, not_false_eq_true]
  exact lr R 0 M .null (by omega) FrD.rf (by rw [Nat.zero_mul, pk1_0]; exact hB)
