/-! leaf methods that change nothing: what they answer -/
noncomputable def b2 (p : Prop) : Int32 := @ite _ p (Classical.propDecidable p) 1 0
theorem b2t {p : Prop} (h : p) : b2 p = 1 := by unfold b2; rw [if_pos h]
theorem b2f {p : Prop} (h : ¬ p) : b2 p = 0 := by unfold b2; rw [if_neg h]
theorem b2_0 {p : Prop} : b2 p = 0 ↔ ¬ p := by by_cases h : p <;> simp [b2t, b2f, h]
theorem b2_1 {p : Prop} : b2 p = 1 ↔ p := by by_cases h : p <;> simp [b2t, b2f, h]
theorem b2_or {p : Prop} : (b2 p = 0 ∨ b2 p = 1) ↔ True := by by_cases h : p <;> simp [b2t, b2f, h]
theorem iq1 {p : Prop} {Q : Qt} {M : Mm} : ((p → Q (some (.int 0)) M) ∧ (¬ p → Q (some (.int 1)) M)) ↔ Q (some (.int (b2 (¬ p)))) M := by by_cases h : p <;> simp [h, b2t, b2f]
theorem iq1' {p : Prop} {Q : Qt} {M : Mm} : ((p → Q (some (.int 1)) M) ∧ (¬ p → Q (some (.int 0)) M)) ↔ Q (some (.int (b2 p))) M := by by_cases h : p <;> simp [h, b2t, b2f]
theorem iq2 {p q : Prop} {Q : Qt} {M : Mm} : ((p → Q (some (.int 0)) M) ∧ (¬ p → Q (some (.int (b2 q))) M)) ↔ Q (some (.int (b2 (¬ p ∧ q)))) M := by by_cases h : p <;> simp [h, b2f]
theorem iq3 {p q : Prop} {Q : Qt} {M : Mm} : ((p → Q (some (.int (b2 q))) M) ∧ (¬ p → Q (some (.int 0)) M)) ↔ Q (some (.int (b2 (p ∧ q)))) M := by by_cases h : p <;> simp [h, b2f]
theorem iq4 {p q : Prop} {Q : Qt} {M : Mm} : ((p → Q (some (.int 1)) M) ∧ (¬ p → Q (some (.int (b2 q))) M)) ↔ Q (some (.int (b2 (p ∨ q)))) M := by by_cases h : p <;> simp [h, b2t]
theorem and_dup {a b c : Prop} : (a ∧ b ∧ (a ∧ c)) ↔ (a ∧ b ∧ c) := ⟨fun h => ⟨h.1, h.2.1, h.2.2.2⟩, fun h => ⟨h.1, h.2.1, h.1, h.2.2⟩⟩
-- numbers
theorem tn_0 : Int32.toNatClampNeg 0 = 0 := rfl
theorem tn_1 : Int32.toNatClampNeg 1 = 1 := rfl
theorem tn_2 : Int32.toNatClampNeg 2 = 2 := rfl
theorem tn_3 : Int32.toNatClampNeg 3 = 3 := rfl
theorem tn_4 : Int32.toNatClampNeg 4 = 4 := rfl
theorem tn_5 : Int32.toNatClampNeg 5 = 5 := rfl
theorem tn_6 : Int32.toNatClampNeg 6 = 6 := rfl
theorem tn_7 : Int32.toNatClampNeg 7 = 7 := rfl
theorem tn_8 : Int32.toNatClampNeg 8 = 8 := rfl
theorem tn_9 : Int32.toNatClampNeg 9 = 9 := rfl
theorem tn_10 : Int32.toNatClampNeg 10 = 10 := rfl
theorem tn_11 : Int32.toNatClampNeg 11 = 11 := rfl
theorem tn_12 : Int32.toNatClampNeg 12 = 12 := rfl
theorem tn_13 : Int32.toNatClampNeg 13 = 13 := rfl
theorem tn_14 : Int32.toNatClampNeg 14 = 14 := rfl
theorem tn_15 : Int32.toNatClampNeg 15 = 15 := rfl
theorem tn_16 : Int32.toNatClampNeg 16 = 16 := rfl
theorem tn_17 : Int32.toNatClampNeg 17 = 17 := rfl
theorem vpn {n N : Nat} (h : n < N) (hN : N < 2147483648) : vp_in (nI n) N := vp_in_nI h hN
theorem vpl (n : Nat) {N : Nat} {x : Int32} (hx : x = nI n) (h : n < N) (hN : N < 2147483648) : vp_in x N ↔ True := ⟨fun _ => trivial, fun _ => hx ▸ vp_in_nI h hN⟩
theorem v0 : vp_in 0 316 ↔ True := vpl 0 rfl (by decide) (by decide)
theorem v1 : vp_in 1 316 ↔ True := vpl 1 rfl (by decide) (by decide)
theorem v2 : vp_in 2 316 ↔ True := vpl 2 rfl (by decide) (by decide)
theorem v3 : vp_in 3 316 ↔ True := vpl 3 rfl (by decide) (by decide)
theorem v4 : vp_in 4 316 ↔ True := vpl 4 rfl (by decide) (by decide)
theorem v5 : vp_in 5 316 ↔ True := vpl 5 rfl (by decide) (by decide)
theorem v6 : vp_in 6 316 ↔ True := vpl 6 rfl (by decide) (by decide)
theorem v7 : vp_in 7 316 ↔ True := vpl 7 rfl (by decide) (by decide)
theorem v8 : vp_in 8 316 ↔ True := vpl 8 rfl (by decide) (by decide)
theorem v9 : vp_in 9 316 ↔ True := vpl 9 rfl (by decide) (by decide)
theorem v10 : vp_in 10 316 ↔ True := vpl 10 rfl (by decide) (by decide)
theorem v11 : vp_in 11 316 ↔ True := vpl 11 rfl (by decide) (by decide)
theorem v12 : vp_in 12 316 ↔ True := vpl 12 rfl (by decide) (by decide)
theorem v13 : vp_in 13 316 ↔ True := vpl 13 rfl (by decide) (by decide)
theorem v14 : vp_in 14 316 ↔ True := vpl 14 rfl (by decide) (by decide)
theorem v15 : vp_in 15 316 ↔ True := vpl 15 rfl (by decide) (by decide)
theorem v16 : vp_in 16 316 ↔ True := vpl 16 rfl (by decide) (by decide)
theorem v17 : vp_in 17 316 ↔ True := vpl 17 rfl (by decide) (by decide)
-- the class
theorem q_within {Q : Qt} {M : Mm} {v a b : Int32} : kX6_within [.int v, .int a, .int b] M Q ↔ Q (some (.int (b2 (a ≤ v ∧ v ≤ b)))) M := by
  simp only [eX6_within_0, eX6_within_1, eX6_within_2, eX6_within_5, eX6_within_6, eX6_within_7, eX6_within_10, eX6_within_11, eX6_within_14, eX6_within_15, eX6_within_in, true_and, iq1, iq2, eq_self, true_or, or_true]
  simp only [Int32.not_lt]
theorem q_cells {Q : Qt} {M : Mm} : kX1_cells [.ref 3] M Q ↔ Q (some (.int (M.1 3 0 * M.1 3 1))) M := by
  simp only [eX1_cells_0, eX1_cells_1, eX1_cells_4, eX1_cells_5, eX1_cells_8, eX1_cells_9, eX1_cells_in]
theorem q_hasRow {Q : Qt} {M : Mm} {r : Int32} : kX1_hasRow [.ref 3, .int r] M Q ↔ Q (some (.int (b2 (0 ≤ r ∧ r < M.1 3 0)))) M := by
  simp only [eX1_hasRow_0, eX1_hasRow_1, eX1_hasRow_4, eX1_hasRow_5, eX1_hasRow_6, eX1_hasRow_9, eX1_hasRow_12, eX1_hasRow_13, eX1_hasRow_16, eX1_hasRow_17, eX1_hasRow_in, true_and, iq1, iq2, eq_self, true_or, or_true]
  simp only [Int32.not_lt, Int32.not_le]
theorem q_has {Q : Qt} {M : Mm} {r c : Int32} : kX1_has [.ref 3, .int r, .int c] M Q ↔ Q (some (.int (b2 (0 ≤ r ∧ r < M.1 3 0 ∧ 0 ≤ c ∧ c < M.1 3 1)))) M := by
  simp only [eX1_has_0, eX1_has_1, eX1_has_4, eX1_has_5, eX1_has_6, eX1_has_9, eX1_has_12, eX1_has_13, eX1_has_16, eX1_has_17, eX1_has_18, eX1_has_21, eX1_has_24, eX1_has_25, eX1_has_28, eX1_has_29, eX1_has_in, true_and, iq1, iq2, eq_self, true_or, or_true]
  simp only [Int32.not_lt, Int32.not_le]
theorem q_hasCell {Q : Qt} {M : Mm} {a : Int32} : kX1_hasCell [.ref 3, .int a] M Q ↔ Q (some (.int (b2 (0 ≤ a ∧ a < M.1 3 0 * M.1 3 1)))) M := by
  simp only [eX1_hasCell_0, eX1_hasCell_1, eX1_hasCell_4, eX1_hasCell_5, eX1_hasCell_6, eX1_hasCell_9, eX1_hasCell_10, eX1_hasCell_13, eX1_hasCell_14, eX1_hasCell_17, eX1_hasCell_18, eX1_hasCell_21, eX1_hasCell_22, eX1_hasCell_in, true_and, iq1, iq2, eq_self, true_or, or_true]
  simp only [Int32.not_lt, Int32.not_le]
theorem q_at {Q : Qt} {M : Mm} {r c : Int32} : kX1_at [.ref 3, .int r, .int c] M Q ↔ Q (some (.int (r * M.1 3 1 + c))) M := by
  simp only [eX1_at_0, eX1_at_1, eX1_at_2, eX1_at_5, eX1_at_6, eX1_at_7, eX1_at_8, eX1_at_in]
theorem q_isTouched {Q : Qt} {M : Mm} {a : Int32} : kX1_isTouched [.ref 3, .int a] M Q ↔ vp_in a 64 ∧ Q (some (.int (b2 (¬ M.1 7 a.toNatClampNeg = -1)))) M := by
  simp only [eX1_isTouched_0, eX1_isTouched_1, eX1_isTouched_4, eX1_isTouched_5, eX1_isTouched_6, eX1_isTouched_7, eX1_isTouched_10, eX1_isTouched_11, eX1_isTouched_14, eX1_isTouched_15, eX1_isTouched_in, true_and, iq1, eq_self, true_or, or_true]
theorem q_isLost {Q : Qt} {M : Mm} {r : Int32} : kX1_isLost [.ref 3, .int r] M Q ↔ Q (some (.int (b2 (¬ M.1 3 6 &&& ((1 : Int32) <<< (r &&& 31)) = 0)))) M := by
  simp only [eX1_isLost_0, eX1_isLost_1, eX1_isLost_4, eX1_isLost_5, eX1_isLost_6, eX1_isLost_7, eX1_isLost_8, eX1_isLost_11, eX1_isLost_12, eX1_isLost_15, eX1_isLost_16, eX1_isLost_in, true_and, iq1, eq_self, true_or, or_true]
theorem q_markLost {Q : Qt} {M : Mm} {r : Int32} : kX1_markLost [.ref 3, .int r] M Q ↔ Q none (setI M 3 6 (M.1 3 6 ||| ((1 : Int32) <<< (r &&& 31)))) := by
  simp only [eX1_markLost_0, eX1_markLost_1, eX1_markLost_2, eX1_markLost_5, eX1_markLost_6, eX1_markLost_7, eX1_markLost_8, eX1_markLost_9, eX1_markLost_12, eX1_markLost_in]
theorem q_stands {Q : Qt} {M : Mm} {r : Int32} : kX1_stands [.ref 3, .int r] M Q ↔ Q (some (.int (b2 ((0 ≤ r ∧ r < M.1 3 0) ∧ M.1 3 6 &&& ((1 : Int32) <<< (r &&& 31)) = 0)))) M := by
  simp only [eX1_stands_0, eX1_stands_1, eX1_stands_2, eX1_stands_5, eX1_stands_8, eX1_stands_9, eX1_stands_10, eX1_stands_13, eX1_stands_16, eX1_stands_17, eX1_stands_20, eX1_stands_21, eX1_stands_in, q_hasRow, q_isLost, Option.toList_some, List.cons_append, List.nil_append, b2_0, true_and, iq1, iq1', iq2, iq3, eq_self, true_or, or_true]
  simp only [Classical.not_not]
theorem q_charge {Q : Qt} {M : Mm} {r c v : Int32} : kX1_charge [.ref 3, .int r, .int c, .int v] M Q ↔ (¬(0 ≤ r ∧ r < M.1 3 0 ∧ 0 ≤ c ∧ c < M.1 3 1) → Q none M) ∧ ((0 ≤ r ∧ r < M.1 3 0 ∧ 0 ≤ c ∧ c < M.1 3 1) → vp_in (r * M.1 3 1 + c) 64 ∧ Q none (setI M 4 (r * M.1 3 1 + c).toNatClampNeg (if M.1 4 (r * M.1 3 1 + c).toNatClampNeg + v < 999 then M.1 4 (r * M.1 3 1 + c).toNatClampNeg + v else 999))) := by
  simp only [eX1_charge_0, eX1_charge_1, eX1_charge_2, eX1_charge_3, eX1_charge_6, eX1_charge_9, eX1_charge_10, eX1_charge_11, eX1_charge_12, eX1_charge_15, eX1_charge_17, eX1_charge_18, eX1_charge_21, eX1_charge_23, eX1_charge_26, eX1_charge_27, eX1_charge_30, eX1_charge_32, eX1_charge_33, eX1_charge_34, eX1_charge_35, eX1_charge_38, eX1_charge_39, eX1_charge_in, q_has, q_at, Option.toList_some, List.cons_append, List.nil_append, b2_0, Classical.not_not, and_self_left]
theorem q_isStronger {Q : Qt} {M : Mm} {a b : Int32} : kX1_isStronger [.ref 3, .int a, .int b] M Q ↔ (vp_in a 64 ∧ vp_in b 64) ∧ Q (some (.int (b2 (M.1 6 b.toNatClampNeg < M.1 6 a.toNatClampNeg ∨ (M.1 6 a.toNatClampNeg = M.1 6 b.toNatClampNeg ∧ a < b))))) M := by
  have key : ∀ {A B p q : Prop} {X Y : Prop}, (A ∧ B ∧ (p → X) ∧ (¬ p → A ∧ B ∧ Y)) ↔ ((A ∧ B) ∧ ((p → X) ∧ (¬ p → Y))) := by
    intro A B p q X Y
    constructor
    · exact fun h => ⟨⟨h.1, h.2.1⟩, h.2.2.1, fun z => (h.2.2.2 z).2.2⟩
    · exact fun h => ⟨h.1.1, h.1.2, h.2.1, fun z => ⟨h.1.1, h.1.2, h.2.2 z⟩⟩
  simp only [eX1_isStronger_0, eX1_isStronger_1, eX1_isStronger_4, eX1_isStronger_5, eX1_isStronger_6, eX1_isStronger_7, eX1_isStronger_10, eX1_isStronger_11, eX1_isStronger_12, eX1_isStronger_15, eX1_isStronger_16, eX1_isStronger_19, eX1_isStronger_20, eX1_isStronger_21, eX1_isStronger_22, eX1_isStronger_25, eX1_isStronger_26, eX1_isStronger_27, eX1_isStronger_30, eX1_isStronger_31, eX1_isStronger_32, eX1_isStronger_35, eX1_isStronger_36, eX1_isStronger_39, eX1_isStronger_40, eX1_isStronger_in, true_and, iq1, iq1', iq2, iq3, eq_self, true_or, or_true]
  rw [key (q := True), iq4]
  simp only [Classical.not_not, Int32.not_le]
-- the model
theorem q_in {Q : Qt} {M : Mm} {v a b : Int32} : kX7_in [.int v, .int a, .int b] M Q ↔ Q (some (.int (b2 (a ≤ v ∧ v ≤ b)))) M := by
  simp only [eX7_in_0, eX7_in_1, eX7_in_2, eX7_in_5, eX7_in_6, eX7_in_7, eX7_in_10, eX7_in_11, eX7_in_14, eX7_in_15, eX7_in_in, true_and, iq1, iq2, eq_self, true_or, or_true]
  simp only [Int32.not_lt]
theorem q_mhas {Q : Qt} {M : Mm} {s k : Int32} : kX7_has [.int s, .int k] M Q ↔ Q (some (.int (b2 ((s >>> (k &&& 31)) &&& 1 = 1)))) M := by
  simp only [eX7_has_0, eX7_has_1, eX7_has_2, eX7_has_3, eX7_has_4, eX7_has_5, eX7_has_6, eX7_has_9, eX7_has_10, eX7_has_13, eX7_has_14, eX7_has_in, true_and, iq1, eq_self, true_or, or_true]
  simp only [Classical.not_not]
theorem q_mcells {Q : Qt} {M : Mm} : kX7_cells [.ref 51] M Q ↔ Q (some (.int (M.1 52 0 * M.1 52 1))) M := by
  simp only [eX7_cells_0, eX7_cells_1, eX7_cells_4, eX7_cells_5, eX7_cells_6, eX7_cells_7, eX7_cells_10, eX7_cells_11, eX7_cells_12, eX7_cells_13, eX7_cells_in, v0, v1, true_and, tn_0, tn_1]
theorem q_isRow {Q : Qt} {M : Mm} {r : Int32} : kX7_isRow [.ref 51, .int r] M Q ↔ Q (some (.int (b2 (0 ≤ r ∧ r ≤ M.1 52 0 - 1)))) M := by
  simp only [eX7_isRow_0, eX7_isRow_1, eX7_isRow_2, eX7_isRow_3, eX7_isRow_6, eX7_isRow_7, eX7_isRow_8, eX7_isRow_9, eX7_isRow_10, eX7_isRow_13, eX7_isRow_in, q_in, v0, true_and, tn_0, Option.toList_some, List.cons_append, List.nil_append, b2_or]
theorem q_isCell {Q : Qt} {M : Mm} {r c : Int32} : kX7_isCell [.ref 51, .int r, .int c] M Q ↔ Q (some (.int (b2 ((0 ≤ r ∧ r ≤ M.1 52 0 - 1) ∧ (0 ≤ c ∧ c ≤ M.1 52 1 - 1))))) M := by
  simp only [eX7_isCell_0, eX7_isCell_1, eX7_isCell_2, eX7_isCell_5, eX7_isCell_8, eX7_isCell_9, eX7_isCell_10, eX7_isCell_11, eX7_isCell_14, eX7_isCell_15, eX7_isCell_16, eX7_isCell_17, eX7_isCell_18, eX7_isCell_21, eX7_isCell_24, eX7_isCell_25, eX7_isCell_28, eX7_isCell_29, eX7_isCell_in, q_isRow, q_in, v0, v1, true_and, tn_0, tn_1, Option.toList_some, List.cons_append, List.nil_append, b2_0, iq1, iq1', iq2, iq3, eq_self, true_or, or_true]
  simp only [Classical.not_not]
theorem q_cellAt {Q : Qt} {M : Mm} {r c : Int32} : kX7_cellAt [.ref 51, .int r, .int c] M Q ↔ Q (some (.int (M.1 52 1 * r + c))) M := by
  simp only [eX7_cellAt_0, eX7_cellAt_1, eX7_cellAt_4, eX7_cellAt_5, eX7_cellAt_6, eX7_cellAt_7, eX7_cellAt_8, eX7_cellAt_9, eX7_cellAt_10, eX7_cellAt_in, v1, true_and, tn_1]
theorem q_misStronger {Q : Qt} {M : Mm} {a b : Int32} : kX7_isStronger [.ref 51, .int a, .int b] M Q ↔ (vp_in (146 + a) 316 ∧ vp_in (146 + b) 316) ∧ Q (some (.int (b2 (M.1 52 (146 + b).toNatClampNeg < M.1 52 (146 + a).toNatClampNeg ∨ (M.1 52 (146 + a).toNatClampNeg = M.1 52 (146 + b).toNatClampNeg ∧ a < b))))) M := by
  have key : ∀ {A B p q : Prop} {X Y : Prop}, (A ∧ B ∧ (p → X) ∧ (¬ p → A ∧ B ∧ Y)) ↔ ((A ∧ B) ∧ ((p → X) ∧ (¬ p → Y))) := by
    intro A B p q X Y
    constructor
    · exact fun h => ⟨⟨h.1, h.2.1⟩, h.2.2.1, fun z => (h.2.2.2 z).2.2⟩
    · exact fun h => ⟨h.1.1, h.1.2, h.2.1, fun z => ⟨h.1.1, h.1.2, h.2.2 z⟩⟩
  simp only [eX7_isStronger_0, eX7_isStronger_1, eX7_isStronger_4, eX7_isStronger_7, eX7_isStronger_8, eX7_isStronger_9, eX7_isStronger_10, eX7_isStronger_11, eX7_isStronger_14, eX7_isStronger_17, eX7_isStronger_18, eX7_isStronger_19, eX7_isStronger_20, eX7_isStronger_23, eX7_isStronger_24, eX7_isStronger_27, eX7_isStronger_30, eX7_isStronger_31, eX7_isStronger_32, eX7_isStronger_33, eX7_isStronger_34, eX7_isStronger_37, eX7_isStronger_40, eX7_isStronger_41, eX7_isStronger_42, eX7_isStronger_43, eX7_isStronger_46, eX7_isStronger_47, eX7_isStronger_48, eX7_isStronger_51, eX7_isStronger_52, eX7_isStronger_55, eX7_isStronger_56, eX7_isStronger_in, true_and, iq1, iq1', iq2, iq3, eq_self, true_or, or_true]
  rw [key (q := True), iq4]
  simp only [Classical.not_not, Int32.not_le]
theorem q_trackAt {Q : Qt} {M : Mm} {t w : Int32} : kX7_trackAt [.ref 51, .int t, .int w] M Q ↔ vp_in (280 + 6 * t + w) 316 ∧ Q (some (.int (M.1 52 (280 + 6 * t + w).toNatClampNeg))) M := by
  simp only [eX7_trackAt_0, eX7_trackAt_1, eX7_trackAt_4, eX7_trackAt_7, eX7_trackAt_9, eX7_trackAt_10, eX7_trackAt_11, eX7_trackAt_12, eX7_trackAt_13, eX7_trackAt_14, eX7_trackAt_15, eX7_trackAt_in]
/-- STATE: both writings of the rule -/
def ruN (a : Int32) (n : Nat) (c d : Int32) : Int32 := if n = 0 then 0 else if 3 ≤ n then 5 else if n = 1 then (if a = 1 then (if c < 2 then 1 else 2) else if a = 2 then 2 else if a = 4 then 2 else 1) else (if a = 3 then (if d < 2 then 3 else 4) else if a = 4 then 4 else 3)
theorem q_ruled {Q : Qt} {M : Mm} {a c d : Int32} {n : Nat} (hn : n < 2147483648) (h : Q (some (.int (ruN a n c d))) M) : kX7_ruled [.int a, .int (nI n), .int c, .int d] M Q := by
  simp only [eX7_ruled_0, eX7_ruled_1, eX7_ruled_4, eX7_ruled_5, eX7_ruled_6, eX7_ruled_7, eX7_ruled_8, eX7_ruled_11, eX7_ruled_12, eX7_ruled_13, eX7_ruled_14, eX7_ruled_48, eX7_ruled_49, eX7_ruled_50, eX7_ruled_53, eX7_ruled_54, eX7_ruled_57, eX7_ruled_58, eX7_ruled_59, eX7_ruled_60, eX7_ruled_61, eX7_ruled_64, eX7_ruled_65, eX7_ruled_68, eX7_ruled_69, eX7_ruled_70, eX7_ruled_73, eX7_ruled_74, eX7_ruled_77, eX7_ruled_78, eX7_ruled_79, eX7_ruled_80, eX7_ruled_81, eX7_ruled_84, eX7_ruled_85, eX7_ruled_88, eX7_ruled_89, eX7_ruled_90, eX7_ruled_91, eX7_ruled_92, eX7_ruled_95, eX7_ruled_96, eX7_ruled_99, eX7_ruled_100, eX7_ruled_101, eX7_ruled_104, eX7_ruled_105, eX7_ruled_108, eX7_ruled_109, eX7_ruled_110, eX7_ruled_111, eX7_ruled_112, eX7_ruled_115, eX7_ruled_116, eX7_ruled_119, eX7_ruled_120, eX7_ruled_121, eX7_ruled_122, eX7_ruled_123, eX7_ruled_126, eX7_ruled_127, eX7_ruled_130, eX7_ruled_131, eX7_ruled_in, Option.toList_some, List.cons_append, List.nil_append]
  unfold ruN at h
  rcases (show n = 0 ∨ n = 1 ∨ n = 2 ∨ 3 ≤ n by omega) with rfl | rfl | rfl | h3
  · simpa [nI] using h
  · simp only [show nI 1 = 1 from rfl] at h ⊢
    by_cases h1 : a = 1
    · subst h1; by_cases hc : c < 2 <;> simp_all [-Int32.not_lt, -Int32.not_le]
    · by_cases h2 : a = 2
      · subst h2; simp_all [-Int32.not_lt, -Int32.not_le]
      · by_cases h4 : a = 4
        · subst h4; simp_all [-Int32.not_lt, -Int32.not_le]
        · simp_all [-Int32.not_lt, -Int32.not_le]
  · simp only [show nI 2 = 2 from rfl] at h ⊢
    by_cases h1 : a = 3
    · subst h1; by_cases hc : d < 2 <;> simp_all [-Int32.not_lt, -Int32.not_le]
    · by_cases h4 : a = 4
      · subst h4; simp_all [-Int32.not_lt, -Int32.not_le]
      · simp_all [-Int32.not_lt, -Int32.not_le]
  · have e0 : ¬ nI n = 0 := nI_ne0 (by omega) hn
    have e2 : ¬ nI n ≤ 2 := nI_ge (a := 2) (by omega) hn
    have z0 : ¬ n = 0 := by omega
    simp_all [-Int32.not_lt, -Int32.not_le]
theorem q_stateAfter {Q : Qt} {M : Mm} {a c d : Int32} {n : Nat} (hn : n < 2147483648) (h : Q (some (.int (ruN a n c d))) M) : kX6_stateAfter [.int a, .int (nI n), .int c, .int d] M Q := by
  simp only [eX6_stateAfter_0, eX6_stateAfter_1, eX6_stateAfter_4, eX6_stateAfter_5, eX6_stateAfter_6, eX6_stateAfter_7, eX6_stateAfter_8, eX6_stateAfter_11, eX6_stateAfter_12, eX6_stateAfter_13, eX6_stateAfter_14, eX6_stateAfter_15, eX6_stateAfter_18, eX6_stateAfter_19, eX6_stateAfter_20, eX6_stateAfter_23, eX6_stateAfter_26, eX6_stateAfter_27, eX6_stateAfter_28, eX6_stateAfter_31, eX6_stateAfter_in, eX6_stateWithOne_0, eX6_stateWithOne_1, eX6_stateWithOne_32, eX6_stateWithOne_33, eX6_stateWithOne_34, eX6_stateWithOne_37, eX6_stateWithOne_38, eX6_stateWithOne_41, eX6_stateWithOne_42, eX6_stateWithOne_43, eX6_stateWithOne_44, eX6_stateWithOne_45, eX6_stateWithOne_46, eX6_stateWithOne_47, eX6_stateWithOne_48, eX6_stateWithOne_in, eX6_stateWithTwo_0, eX6_stateWithTwo_1, eX6_stateWithTwo_28, eX6_stateWithTwo_29, eX6_stateWithTwo_30, eX6_stateWithTwo_33, eX6_stateWithTwo_34, eX6_stateWithTwo_37, eX6_stateWithTwo_38, eX6_stateWithTwo_39, eX6_stateWithTwo_40, eX6_stateWithTwo_41, eX6_stateWithTwo_42, eX6_stateWithTwo_in, Option.toList_some, List.cons_append, List.nil_append]
  unfold ruN at h
  rcases (show n = 0 ∨ n = 1 ∨ n = 2 ∨ 3 ≤ n by omega) with rfl | rfl | rfl | h3
  · simpa [nI] using h
  · simp only [show nI 1 = 1 from rfl] at h ⊢
    by_cases h1 : a = 1
    · subst h1; by_cases hc : c < 2 <;> simp_all [-Int32.not_lt, -Int32.not_le]
    · by_cases h2 : a = 2
      · subst h2; simp_all [-Int32.not_lt, -Int32.not_le]
      · by_cases h4 : a = 4
        · subst h4; simp_all [-Int32.not_lt, -Int32.not_le]
        · simp_all [-Int32.not_lt, -Int32.not_le]
  · simp only [show nI 2 = 2 from rfl] at h ⊢
    by_cases h1 : a = 3
    · subst h1; by_cases hc : d < 2 <;> simp_all [-Int32.not_lt, -Int32.not_le]
    · by_cases h4 : a = 4
      · subst h4; simp_all [-Int32.not_lt, -Int32.not_le]
      · simp_all [-Int32.not_lt, -Int32.not_le]
  · have e0 : 0 < nI n := nI_lt (a := 0) (by omega) hn
    have e2 : ¬ nI n < 3 := nI_nlt (b := 3) (by omega) hn
    have z0 : ¬ n = 0 := by omega
    simp_all [-Int32.not_lt, -Int32.not_le]
