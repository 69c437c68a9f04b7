/-! areas, sums over a blob, contact -/
def ar (f : Nat → Int32) (p : Int32) : Nat → Nat
  | 0 => 0
  | i + 1 => ar f p i + (if f i = p then 1 else 0)
theorem ar_le (f : Nat → Int32) (p : Int32) : ∀ i, ar f p i ≤ i
  | 0 => Nat.le_refl _
  | i + 1 => by
    have := ar_le f p i
    simp only [ar]
    split <;> omega
theorem ar_congr {f g : Nat → Int32} {p : Int32} : ∀ n, (∀ j, j < n → f j = g j) → ar f p n = ar g p n
  | 0, _ => rfl
  | n + 1, h => by
    simp only [ar]
    rw [ar_congr n (fun j hj => h j (by omega)), h n (by omega)]
def hn (pk sg : Nat → Int32) (p : Int32) (b : Nat → Nat) : Nat → Nat
  | 0 => 0
  | i + 1 => hn pk sg p b i + (if pk i = p then (sg i).toNatClampNeg * b i else 0)
theorem hn_le {pk sg : Nat → Int32} {p : Int32} {b : Nat → Nat} : ∀ n, (∀ j, j < n → pk j = p → ∃ x, x ≤ 15984 ∧ sg j = nI x) → (∀ j, j < n → b j ≤ 7) → hn pk sg p b n ≤ n * 111888
  | 0, _, _ => Nat.zero_le _
  | n + 1, h, hb => by
    have h1 := hn_le n (fun j hj => h j (by omega)) (fun j hj => hb j (by omega))
    simp only [hn]
    split
    · rename_i hp
      obtain ⟨x, x1, x2⟩ := h n (by omega) hp
      rw [x2, nI_clamp (by omega)]
      have h2 : x * b n ≤ 111888 := Nat.mul_le_mul x1 (hb n (by omega))
      rw [Nat.add_mul, Nat.one_mul]
      exact Nat.add_le_add h1 h2
    · exact Nat.le_trans h1 (Nat.mul_le_mul_right _ (Nat.le_succ n))
theorem hn_pos {pk sg : Nat → Int32} {p : Int32} {q x : Nat} : ∀ n, q < n → pk q = p → sg q = nI x → 0 < x → x < 2147483648 → 0 < hn pk sg p (fun _ => 1) n
  | 0, h, _, _, _, _ => by omega
  | n + 1, h, h1, h2, h3, h4 => by
    simp only [hn]
    by_cases e : q = n
    · subst e
      rw [if_pos h1, h2, nI_clamp h4]
      omega
    · have := hn_pos n (by omega) h1 h2 h3 h4
      omega
theorem hn_congr {pk sg pk' sg' : Nat → Int32} {p : Int32} {b : Nat → Nat} : ∀ n, (∀ j, j < n → pk j = pk' j ∧ sg j = sg' j) → hn pk sg p b n = hn pk' sg' p b n
  | 0, _ => rfl
  | n + 1, h => by
    simp only [hn]
    rw [hn_congr n (fun j hj => h j (by omega)), (h n (by omega)).1, (h n (by omega)).2]
theorem c_areaOf {Q : Qt} {M : Mm} {n R C : Nat} {p : Int32} (h0 : M.1 3 0 = nI R) (h1 : M.1 3 1 = nI C) (hn : R * C = n) (h64 : n ≤ 64) (hQ : Q (some (.int (nI (ar (M.1 7) p n)))) M) : kX1_areaOf [.ref 3, .int p] M Q := by
  have lp : ∀ d i, i + d = n → V pgX1_areaOf Q 10 [.ref 3, .int p, .int (nI (ar (M.1 7) p i)), .int (nI n), .int (nI i)] [] M := by
    intro d
    induction d with
    | zero =>
      intro i hi
      have : i = n := by omega
      subst this
      rw [eX1_areaOf_10]
      simp only [eX1_areaOf_0, eX1_areaOf_1, eX1_areaOf_2, eX1_areaOf_3, eX1_areaOf_6, eX1_areaOf_7, eX1_areaOf_8, eX1_areaOf_12, eX1_areaOf_13, eX1_areaOf_16, eX1_areaOf_17, eX1_areaOf_20, eX1_areaOf_22, eX1_areaOf_23, eX1_areaOf_24, eX1_areaOf_27, eX1_areaOf_30, eX1_areaOf_33, eX1_areaOf_36, eX1_areaOf_37, eX1_areaOf_in, Int32.le_refl, Option.toList_some, Option.toList_none, List.cons_append, List.nil_append, b2_0, Classical.not_not, false_implies, true_implies, implies_true, true_and, and_true, not_true_eq_false, not_false_eq_true]
      exact hQ
    | succ d ih =>
      intro i hi
      have e1 : ar (M.1 7) p (i + 1) = ar (M.1 7) p i + (if M.1 7 i = p then 1 else 0) := rfl
      have := ih (i + 1) (by omega)
      rw [eX1_areaOf_10]
      simp only [eX1_areaOf_0, eX1_areaOf_1, eX1_areaOf_2, eX1_areaOf_3, eX1_areaOf_6, eX1_areaOf_7, eX1_areaOf_8, eX1_areaOf_12, eX1_areaOf_13, eX1_areaOf_16, eX1_areaOf_17, eX1_areaOf_20, eX1_areaOf_22, eX1_areaOf_23, eX1_areaOf_24, eX1_areaOf_27, eX1_areaOf_30, eX1_areaOf_33, eX1_areaOf_36, eX1_areaOf_37, eX1_areaOf_in, nI_ge (show i < n by omega) (show n < 2 ^ 31 by omega), nI_clamp (show i < 2 ^ 31 by omega), vpn (show i < 64 by omega) (by decide : 64 < 2147483648), nI_1, Option.toList_some, Option.toList_none, List.cons_append, List.nil_append, b2_0, Classical.not_not, false_implies, true_implies, implies_true, true_and, and_true, not_true_eq_false, not_false_eq_true]
      refine ⟨fun z => ?_, fun z => ?_⟩
      · rw [e1, if_neg z] at this
        exact this
      · rw [e1, if_pos z] at this
        exact this
  simp only [eX1_areaOf_0, eX1_areaOf_1, eX1_areaOf_2, eX1_areaOf_3, eX1_areaOf_6, eX1_areaOf_7, eX1_areaOf_8, eX1_areaOf_12, eX1_areaOf_13, eX1_areaOf_16, eX1_areaOf_17, eX1_areaOf_20, eX1_areaOf_22, eX1_areaOf_23, eX1_areaOf_24, eX1_areaOf_27, eX1_areaOf_30, eX1_areaOf_33, eX1_areaOf_36, eX1_areaOf_37, eX1_areaOf_in, q_cells, h0, h1, pk_mul, hn, Option.toList_some, Option.toList_none, List.cons_append, List.nil_append, b2_0, Classical.not_not, false_implies, true_implies, implies_true, true_and, and_true, not_true_eq_false, not_false_eq_true]
  exact lp n 0 (by omega)
theorem m_areaOf {Q : Qt} {M : Mm} {n R C : Nat} {p : Int32} (h0 : M.1 52 0 = nI R) (h1 : M.1 52 1 = nI C) (hn : R * C = n) (h64 : n ≤ 64) (hQ : Q (some (.int (nI (ar (fun j => M.1 52 (210 + j)) p n)))) M) : kX7_areaOf [.ref 51, .int p] M Q := by
  have lp : ∀ d i, i + d = n → V pgX7_areaOf Q 4 [.ref 51, .int p, .int (nI (ar (fun j => M.1 52 (210 + j)) p i)), .int (nI i)] [] M := by
    intro d
    induction d with
    | zero =>
      intro i hi
      have : i = n := by omega
      subst this
      rw [eX7_areaOf_4]
      simp only [eX7_areaOf_0, eX7_areaOf_1, eX7_areaOf_2, eX7_areaOf_3, eX7_areaOf_5, eX7_areaOf_6, eX7_areaOf_9, eX7_areaOf_12, eX7_areaOf_13, eX7_areaOf_14, eX7_areaOf_17, eX7_areaOf_20, eX7_areaOf_21, eX7_areaOf_22, eX7_areaOf_23, eX7_areaOf_24, eX7_areaOf_27, eX7_areaOf_28, eX7_areaOf_31, eX7_areaOf_32, eX7_areaOf_33, eX7_areaOf_34, eX7_areaOf_37, eX7_areaOf_40, eX7_areaOf_41, eX7_areaOf_in, q_mcells, h0, h1, pk_mul, hn, Int32.le_refl, Option.toList_some, Option.toList_none, List.cons_append, List.nil_append, b2_0, Classical.not_not, false_implies, true_implies, implies_true, true_and, and_true, not_true_eq_false, not_false_eq_true]
      exact hQ
    | succ d ih =>
      intro i hi
      have e1 : ar (fun j => M.1 52 (210 + j)) p (i + 1) = ar (fun j => M.1 52 (210 + j)) p i + (if M.1 52 (210 + i) = p then 1 else 0) := rfl
      have e2 : ∀ x, nI x + 0 = nI x := fun x => nI_add x 0
      have := ih (i + 1) (by omega)
      rw [eX7_areaOf_4]
      simp only [eX7_areaOf_0, eX7_areaOf_1, eX7_areaOf_2, eX7_areaOf_3, eX7_areaOf_5, eX7_areaOf_6, eX7_areaOf_9, eX7_areaOf_12, eX7_areaOf_13, eX7_areaOf_14, eX7_areaOf_17, eX7_areaOf_20, eX7_areaOf_21, eX7_areaOf_22, eX7_areaOf_23, eX7_areaOf_24, eX7_areaOf_27, eX7_areaOf_28, eX7_areaOf_31, eX7_areaOf_32, eX7_areaOf_33, eX7_areaOf_34, eX7_areaOf_37, eX7_areaOf_40, eX7_areaOf_41, eX7_areaOf_in, q_mcells, h0, h1, pk_mul, hn, a210, nI_ge (show i < n by omega) (show n < 2 ^ 31 by omega), nI_clamp (show 210 + i < 2 ^ 31 by omega), vpn (show 210 + i < 316 by omega) (by decide : 316 < 2147483648), nI_1, e2, Option.toList_some, Option.toList_none, List.cons_append, List.nil_append, b2_0, Classical.not_not, false_implies, true_implies, implies_true, true_and, and_true, not_true_eq_false, not_false_eq_true]
      refine ⟨fun z => ?_, fun z => ?_⟩
      · rw [e1, if_neg z] at this
        exact this
      · rw [e1, if_pos z] at this
        exact this
  simp only [eX7_areaOf_0, eX7_areaOf_1, eX7_areaOf_2, eX7_areaOf_3, eX7_areaOf_5, eX7_areaOf_6, eX7_areaOf_9, eX7_areaOf_12, eX7_areaOf_13, eX7_areaOf_14, eX7_areaOf_17, eX7_areaOf_20, eX7_areaOf_21, eX7_areaOf_22, eX7_areaOf_23, eX7_areaOf_24, eX7_areaOf_27, eX7_areaOf_28, eX7_areaOf_31, eX7_areaOf_32, eX7_areaOf_33, eX7_areaOf_34, eX7_areaOf_37, eX7_areaOf_40, eX7_areaOf_41, eX7_areaOf_in, Option.toList_some, Option.toList_none, List.cons_append, List.nil_append, b2_0, Classical.not_not, false_implies, true_implies, implies_true, true_and, and_true, not_true_eq_false, not_false_eq_true]
  exact lp n 0 (by omega)
theorem c_heavyOf {Q : Qt} {M : Mm} {n R C : Nat} {p : Int32} (h0 : M.1 3 0 = nI R) (h1 : M.1 3 1 = nI C) (hnn : R * C = n) (h64 : n ≤ 64) (hs : ∀ j, j < n → M.1 7 j = p → ∃ x, x ≤ 15984 ∧ M.1 6 j = nI x) (hQ : Q (some (.int (nI (hn (M.1 7) (M.1 6) p (fun _ => 1) n)))) M) : kX1_heavyOf [.ref 3, .int p] M Q := by
  have lp : ∀ d i, i + d = n → V pgX1_heavyOf Q 10 [.ref 3, .int p, .int (nI (hn (M.1 7) (M.1 6) p (fun _ => 1) i)), .int (nI n), .int (nI i)] [] M := by
    intro d
    induction d with
    | zero =>
      intro i hi
      have : i = n := by omega
      subst this
      rw [eX1_heavyOf_10]
      simp only [eX1_heavyOf_0, eX1_heavyOf_1, eX1_heavyOf_2, eX1_heavyOf_3, eX1_heavyOf_6, eX1_heavyOf_7, eX1_heavyOf_8, eX1_heavyOf_12, eX1_heavyOf_13, eX1_heavyOf_16, eX1_heavyOf_17, eX1_heavyOf_20, eX1_heavyOf_22, eX1_heavyOf_23, eX1_heavyOf_24, eX1_heavyOf_27, eX1_heavyOf_28, eX1_heavyOf_29, eX1_heavyOf_32, eX1_heavyOf_34, eX1_heavyOf_35, eX1_heavyOf_36, eX1_heavyOf_37, eX1_heavyOf_40, eX1_heavyOf_43, eX1_heavyOf_44, eX1_heavyOf_in, Int32.le_refl, Option.toList_some, Option.toList_none, List.cons_append, List.nil_append, b2_0, Classical.not_not, false_implies, true_implies, implies_true, true_and, and_true, not_true_eq_false, not_false_eq_true]
      exact hQ
    | succ d ih =>
      intro i hi
      have e1 : hn (M.1 7) (M.1 6) p (fun _ => 1) (i + 1) = hn (M.1 7) (M.1 6) p (fun _ => 1) i + (if M.1 7 i = p then (M.1 6 i).toNatClampNeg * 1 else 0) := rfl
      have := ih (i + 1) (by omega)
      rw [eX1_heavyOf_10]
      simp only [eX1_heavyOf_0, eX1_heavyOf_1, eX1_heavyOf_2, eX1_heavyOf_3, eX1_heavyOf_6, eX1_heavyOf_7, eX1_heavyOf_8, eX1_heavyOf_12, eX1_heavyOf_13, eX1_heavyOf_16, eX1_heavyOf_17, eX1_heavyOf_20, eX1_heavyOf_22, eX1_heavyOf_23, eX1_heavyOf_24, eX1_heavyOf_27, eX1_heavyOf_28, eX1_heavyOf_29, eX1_heavyOf_32, eX1_heavyOf_34, eX1_heavyOf_35, eX1_heavyOf_36, eX1_heavyOf_37, eX1_heavyOf_40, eX1_heavyOf_43, eX1_heavyOf_44, eX1_heavyOf_in, nI_ge (show i < n by omega) (show n < 2 ^ 31 by omega), nI_clamp (show i < 2 ^ 31 by omega), vpn (show i < 64 by omega) (by decide : 64 < 2147483648), nI_1, Option.toList_some, Option.toList_none, List.cons_append, List.nil_append, b2_0, Classical.not_not, false_implies, true_implies, implies_true, true_and, and_true, not_true_eq_false, not_false_eq_true]
      refine ⟨fun z => ?_, fun z => ?_⟩
      · rw [e1, if_neg z] at this
        exact this
      · obtain ⟨x, x1, x2⟩ := hs i (by omega) z
        rw [e1, if_pos z, x2, nI_clamp (by omega), Nat.mul_one] at this
        rw [x2, nI_add]
        exact this
  simp only [eX1_heavyOf_0, eX1_heavyOf_1, eX1_heavyOf_2, eX1_heavyOf_3, eX1_heavyOf_6, eX1_heavyOf_7, eX1_heavyOf_8, eX1_heavyOf_12, eX1_heavyOf_13, eX1_heavyOf_16, eX1_heavyOf_17, eX1_heavyOf_20, eX1_heavyOf_22, eX1_heavyOf_23, eX1_heavyOf_24, eX1_heavyOf_27, eX1_heavyOf_28, eX1_heavyOf_29, eX1_heavyOf_32, eX1_heavyOf_34, eX1_heavyOf_35, eX1_heavyOf_36, eX1_heavyOf_37, eX1_heavyOf_40, eX1_heavyOf_43, eX1_heavyOf_44, eX1_heavyOf_in, q_cells, h0, h1, pk_mul, hnn, Option.toList_some, Option.toList_none, List.cons_append, List.nil_append, b2_0, Classical.not_not, false_implies, true_implies, implies_true, true_and, and_true, not_true_eq_false, not_false_eq_true]
  exact lp n 0 (by omega)
theorem dm {r c C : Nat} (hc : c < C) : (r * C + c) / C = r ∧ (r * C + c) % C = c := by
  have hC : 0 < C := by omega
  constructor
  · rw [Nat.add_comm, Nat.add_mul_div_right _ _ hC, Nat.div_eq_of_lt hc, Nat.zero_add]
  · rw [Nat.add_comm, Nat.add_mul_mod_self_right, Nat.mod_eq_of_lt hc]
/-- by what a place counts: 0 plain, 1 its column, 2 its row -/
def by_ (C w : Nat) : Nat → Nat := fun j => if w = 0 then 1 else if w = 1 then j % C else j / C
theorem c_centreOf {Q : Qt} {M : Mm} {R C w : Nat} {p : Int32} (hw : w = 1 ∨ w = 2) (h0 : M.1 3 0 = nI R) (h1 : M.1 3 1 = nI C) (hR : R ≤ 8) (hC : C ≤ 8) (hC0 : 0 < C) (hs : ∀ j, j < R * C → M.1 7 j = p → ∃ x, x ≤ 15984 ∧ M.1 6 j = nI x) (hpos : 0 < hn (M.1 7) (M.1 6) p (fun _ => 1) (R * C)) (hQ : Q (some (.int (lN 256 * lN (hn (M.1 7) (M.1 6) p (by_ C w) (R * C)) / lN (hn (M.1 7) (M.1 6) p (fun _ => 1) (R * C))).toInt32)) M) : kX1_centreOf [.ref 3, .int p, .int (nI (w - 1))] M Q := by
  have h64 := rc_le hR hC
  have hle : hn (M.1 7) (M.1 6) p (fun _ => 1) (R * C) ≤ R * C * 111888 := hn_le _ hs (fun _ _ => by omega)
  have hH : hn (M.1 7) (M.1 6) p (fun _ => 1) (R * C) < 2147483648 := by omega
  have fin : ∀ l6 l7 : Value, V pgX1_centreOf Q 83 [.ref 3, .int p, .int (nI (w - 1)), .long (lN (hn (M.1 7) (M.1 6) p (by_ C w) (R * C))), .null, .int (nI R), l6, l7] [] M := by
    intro l6 l7
    simp only [eX1_centreOf_0, eX1_centreOf_1, eX1_centreOf_2, eX1_centreOf_3, eX1_centreOf_7, eX1_centreOf_8, eX1_centreOf_11, eX1_centreOf_14, eX1_centreOf_15, eX1_centreOf_19, eX1_centreOf_20, eX1_centreOf_23, eX1_centreOf_26, eX1_centreOf_27, eX1_centreOf_29, eX1_centreOf_31, eX1_centreOf_34, eX1_centreOf_36, eX1_centreOf_37, eX1_centreOf_40, eX1_centreOf_42, eX1_centreOf_43, eX1_centreOf_44, eX1_centreOf_47, eX1_centreOf_48, eX1_centreOf_49, eX1_centreOf_52, eX1_centreOf_54, eX1_centreOf_55, eX1_centreOf_56, eX1_centreOf_57, eX1_centreOf_60, eX1_centreOf_62, eX1_centreOf_65, eX1_centreOf_67, eX1_centreOf_68, eX1_centreOf_69, eX1_centreOf_70, eX1_centreOf_71, eX1_centreOf_74, eX1_centreOf_77, eX1_centreOf_80, eX1_centreOf_83, eX1_centreOf_84, eX1_centreOf_85, eX1_centreOf_88, eX1_centreOf_90, eX1_centreOf_92, eX1_centreOf_95, eX1_centreOf_96, eX1_centreOf_99, eX1_centreOf_102, eX1_centreOf_103, eX1_centreOf_104, eX1_centreOf_106, eX1_centreOf_107, eX1_centreOf_108, eX1_centreOf_109, eX1_centreOf_in, Option.toList_some, Option.toList_none, List.cons_append, List.nil_append, b2_0, Classical.not_not, false_implies, true_implies, implies_true, true_and, and_true, not_true_eq_false, not_false_eq_true]
    refine c_heavyOf h0 h1 rfl h64 hs ?_
    have z1 : ¬ (nI (hn (M.1 7) (M.1 6) p (fun _ => 1) (R * C)) = 0) := nI_ne0 hpos hH
    have z2 : ¬ (lN (hn (M.1 7) (M.1 6) p (fun _ => 1) (R * C)) = 0) := fun z => by
      have := (lN_eq (a := hn (M.1 7) (M.1 6) p (fun _ => 1) (R * C)) (b := 0) hH (by decide)).mp z
      omega
    simp only [eX1_centreOf_0, eX1_centreOf_1, eX1_centreOf_2, eX1_centreOf_3, eX1_centreOf_7, eX1_centreOf_8, eX1_centreOf_11, eX1_centreOf_14, eX1_centreOf_15, eX1_centreOf_19, eX1_centreOf_20, eX1_centreOf_23, eX1_centreOf_26, eX1_centreOf_27, eX1_centreOf_29, eX1_centreOf_31, eX1_centreOf_34, eX1_centreOf_36, eX1_centreOf_37, eX1_centreOf_40, eX1_centreOf_42, eX1_centreOf_43, eX1_centreOf_44, eX1_centreOf_47, eX1_centreOf_48, eX1_centreOf_49, eX1_centreOf_52, eX1_centreOf_54, eX1_centreOf_55, eX1_centreOf_56, eX1_centreOf_57, eX1_centreOf_60, eX1_centreOf_62, eX1_centreOf_65, eX1_centreOf_67, eX1_centreOf_68, eX1_centreOf_69, eX1_centreOf_70, eX1_centreOf_71, eX1_centreOf_74, eX1_centreOf_77, eX1_centreOf_80, eX1_centreOf_83, eX1_centreOf_84, eX1_centreOf_85, eX1_centreOf_88, eX1_centreOf_90, eX1_centreOf_92, eX1_centreOf_95, eX1_centreOf_96, eX1_centreOf_99, eX1_centreOf_102, eX1_centreOf_103, eX1_centreOf_104, eX1_centreOf_106, eX1_centreOf_107, eX1_centreOf_108, eX1_centreOf_109, eX1_centreOf_in, z1, nI_l hH, z2, Option.toList_some, Option.toList_none, List.cons_append, List.nil_append, b2_0, Classical.not_not, false_implies, true_implies, implies_true, true_and, and_true, not_true_eq_false, not_false_eq_true]
    exact hQ
  have inner : ∀ r, r < R → (∀ l6 l7 : Value, V pgX1_centreOf Q 5 [.ref 3, .int p, .int (nI (w - 1)), .long (lN (hn (M.1 7) (M.1 6) p (by_ C w) ((r + 1) * C))), .null, .int (nI (r + 1)), l6, l7] [] M) → ∀ d c (l7 : Value), c + d = C → V pgX1_centreOf Q 17 [.ref 3, .int p, .int (nI (w - 1)), .long (lN (hn (M.1 7) (M.1 6) p (by_ C w) (r * C + c))), .null, .int (nI r), .int (nI c), l7] [] M := by
    intro r hr next d
    induction d with
    | zero =>
      intro c l7 hc
      have : c = C := by omega
      subst this
      have e : r * c + c = (r + 1) * c := by rw [Nat.add_mul, Nat.one_mul]
      rw [eX1_centreOf_17]
      simp only [eX1_centreOf_0, eX1_centreOf_1, eX1_centreOf_2, eX1_centreOf_3, eX1_centreOf_7, eX1_centreOf_8, eX1_centreOf_11, eX1_centreOf_14, eX1_centreOf_15, eX1_centreOf_19, eX1_centreOf_20, eX1_centreOf_23, eX1_centreOf_26, eX1_centreOf_27, eX1_centreOf_29, eX1_centreOf_31, eX1_centreOf_34, eX1_centreOf_36, eX1_centreOf_37, eX1_centreOf_40, eX1_centreOf_42, eX1_centreOf_43, eX1_centreOf_44, eX1_centreOf_47, eX1_centreOf_48, eX1_centreOf_49, eX1_centreOf_52, eX1_centreOf_54, eX1_centreOf_55, eX1_centreOf_56, eX1_centreOf_57, eX1_centreOf_60, eX1_centreOf_62, eX1_centreOf_65, eX1_centreOf_67, eX1_centreOf_68, eX1_centreOf_69, eX1_centreOf_70, eX1_centreOf_71, eX1_centreOf_74, eX1_centreOf_77, eX1_centreOf_80, eX1_centreOf_83, eX1_centreOf_84, eX1_centreOf_85, eX1_centreOf_88, eX1_centreOf_90, eX1_centreOf_92, eX1_centreOf_95, eX1_centreOf_96, eX1_centreOf_99, eX1_centreOf_102, eX1_centreOf_103, eX1_centreOf_104, eX1_centreOf_106, eX1_centreOf_107, eX1_centreOf_108, eX1_centreOf_109, eX1_centreOf_in, h1, Int32.le_refl, nI_1, e, Option.toList_some, Option.toList_none, List.cons_append, List.nil_append, b2_0, Classical.not_not, false_implies, true_implies, implies_true, true_and, and_true, not_true_eq_false, not_false_eq_true]
      exact next _ _
    | succ d ih =>
      intro c l7 hc
      have hi := idx_lt hr (show c < C by omega)
      have hix : nI r * nI C + nI c = nI (r * C + c) := by rw [pk_mul, nI_add]
      obtain ⟨d1, d2⟩ := dm (r := r) (show c < C by omega)
      have e1 : hn (M.1 7) (M.1 6) p (by_ C w) (r * C + (c + 1)) = hn (M.1 7) (M.1 6) p (by_ C w) (r * C + c) + (if M.1 7 (r * C + c) = p then (M.1 6 (r * C + c)).toNatClampNeg * by_ C w (r * C + c) else 0) := rfl
      have := fun l => ih (c + 1) l (by omega)
      rw [eX1_centreOf_17]
      simp only [eX1_centreOf_0, eX1_centreOf_1, eX1_centreOf_2, eX1_centreOf_3, eX1_centreOf_7, eX1_centreOf_8, eX1_centreOf_11, eX1_centreOf_14, eX1_centreOf_15, eX1_centreOf_19, eX1_centreOf_20, eX1_centreOf_23, eX1_centreOf_26, eX1_centreOf_27, eX1_centreOf_29, eX1_centreOf_31, eX1_centreOf_34, eX1_centreOf_36, eX1_centreOf_37, eX1_centreOf_40, eX1_centreOf_42, eX1_centreOf_43, eX1_centreOf_44, eX1_centreOf_47, eX1_centreOf_48, eX1_centreOf_49, eX1_centreOf_52, eX1_centreOf_54, eX1_centreOf_55, eX1_centreOf_56, eX1_centreOf_57, eX1_centreOf_60, eX1_centreOf_62, eX1_centreOf_65, eX1_centreOf_67, eX1_centreOf_68, eX1_centreOf_69, eX1_centreOf_70, eX1_centreOf_71, eX1_centreOf_74, eX1_centreOf_77, eX1_centreOf_80, eX1_centreOf_83, eX1_centreOf_84, eX1_centreOf_85, eX1_centreOf_88, eX1_centreOf_90, eX1_centreOf_92, eX1_centreOf_95, eX1_centreOf_96, eX1_centreOf_99, eX1_centreOf_102, eX1_centreOf_103, eX1_centreOf_104, eX1_centreOf_106, eX1_centreOf_107, eX1_centreOf_108, eX1_centreOf_109, eX1_centreOf_in, q_at, h1, hix, nI_ge (show c < C by omega) (show C < 2 ^ 31 by omega), nI_clamp (show r * C + c < 2 ^ 31 by omega), vpn (show r * C + c < 64 by omega) (by decide : 64 < 2147483648), nI_1, nI_l (show r < 2 ^ 31 by omega), nI_l (show c < 2 ^ 31 by omega), Option.toList_some, Option.toList_none, List.cons_append, List.nil_append, b2_0, Classical.not_not, false_implies, true_implies, implies_true, true_and, and_true, not_true_eq_false, not_false_eq_true]
      refine ⟨fun z => ?_, fun z => ?_⟩
      · rw [e1, if_neg z] at this
        exact this _
      · obtain ⟨x, x1, x2⟩ := hs (r * C + c) (by omega) z
        rw [e1, if_pos z, x2, nI_clamp (by omega)] at this
        simp only [x2, nI_l (show x < 2 ^ 31 by omega), lN_mul, lN_add]
        rcases hw with rfl | rfl
        · have q : (nI (1 - 1) = 0) = True := eq_true (by decide)
          simp only [q, Option.toList_some, Option.toList_none, List.cons_append, List.nil_append, b2_0, Classical.not_not, false_implies, true_implies, implies_true, true_and, and_true, not_true_eq_false, not_false_eq_true]
          simp only [by_, d2] at this
          exact this _
        · have q : (nI (2 - 1) = 0) = False := eq_false (by decide)
          simp only [q, Option.toList_some, Option.toList_none, List.cons_append, List.nil_append, b2_0, Classical.not_not, false_implies, true_implies, implies_true, true_and, and_true, not_true_eq_false, not_false_eq_true]
          simp only [by_, d1] at this
          exact this _
  have outer : ∀ d r (l6 l7 : Value), r + d = R → V pgX1_centreOf Q 5 [.ref 3, .int p, .int (nI (w - 1)), .long (lN (hn (M.1 7) (M.1 6) p (by_ C w) (r * C))), .null, .int (nI r), l6, l7] [] M := by
    intro d
    induction d with
    | zero =>
      intro r l6 l7 hr
      have : r = R := by omega
      subst this
      rw [eX1_centreOf_5]
      simp only [eX1_centreOf_0, eX1_centreOf_1, eX1_centreOf_2, eX1_centreOf_3, eX1_centreOf_7, eX1_centreOf_8, eX1_centreOf_11, eX1_centreOf_14, eX1_centreOf_15, eX1_centreOf_19, eX1_centreOf_20, eX1_centreOf_23, eX1_centreOf_26, eX1_centreOf_27, eX1_centreOf_29, eX1_centreOf_31, eX1_centreOf_34, eX1_centreOf_36, eX1_centreOf_37, eX1_centreOf_40, eX1_centreOf_42, eX1_centreOf_43, eX1_centreOf_44, eX1_centreOf_47, eX1_centreOf_48, eX1_centreOf_49, eX1_centreOf_52, eX1_centreOf_54, eX1_centreOf_55, eX1_centreOf_56, eX1_centreOf_57, eX1_centreOf_60, eX1_centreOf_62, eX1_centreOf_65, eX1_centreOf_67, eX1_centreOf_68, eX1_centreOf_69, eX1_centreOf_70, eX1_centreOf_71, eX1_centreOf_74, eX1_centreOf_77, eX1_centreOf_80, eX1_centreOf_84, eX1_centreOf_85, eX1_centreOf_88, eX1_centreOf_90, eX1_centreOf_92, eX1_centreOf_95, eX1_centreOf_96, eX1_centreOf_99, eX1_centreOf_102, eX1_centreOf_103, eX1_centreOf_104, eX1_centreOf_106, eX1_centreOf_107, eX1_centreOf_108, eX1_centreOf_109, eX1_centreOf_in, h0, Int32.le_refl, Option.toList_some, Option.toList_none, List.cons_append, List.nil_append, b2_0, Classical.not_not, false_implies, true_implies, implies_true, true_and, and_true, not_true_eq_false, not_false_eq_true]
      exact fin _ _
    | succ d ih =>
      intro r l6 l7 hr
      have := inner r (by omega) (fun l6 l7 => ih (r + 1) l6 l7 (by omega)) C 0 l7 (by omega)
      rw [eX1_centreOf_5]
      simp only [eX1_centreOf_0, eX1_centreOf_1, eX1_centreOf_2, eX1_centreOf_3, eX1_centreOf_7, eX1_centreOf_8, eX1_centreOf_11, eX1_centreOf_14, eX1_centreOf_15, eX1_centreOf_19, eX1_centreOf_20, eX1_centreOf_23, eX1_centreOf_26, eX1_centreOf_27, eX1_centreOf_29, eX1_centreOf_31, eX1_centreOf_34, eX1_centreOf_36, eX1_centreOf_37, eX1_centreOf_40, eX1_centreOf_42, eX1_centreOf_43, eX1_centreOf_44, eX1_centreOf_47, eX1_centreOf_48, eX1_centreOf_49, eX1_centreOf_52, eX1_centreOf_54, eX1_centreOf_55, eX1_centreOf_56, eX1_centreOf_57, eX1_centreOf_60, eX1_centreOf_62, eX1_centreOf_65, eX1_centreOf_67, eX1_centreOf_68, eX1_centreOf_69, eX1_centreOf_70, eX1_centreOf_71, eX1_centreOf_74, eX1_centreOf_77, eX1_centreOf_80, eX1_centreOf_83, eX1_centreOf_84, eX1_centreOf_85, eX1_centreOf_88, eX1_centreOf_90, eX1_centreOf_92, eX1_centreOf_95, eX1_centreOf_96, eX1_centreOf_99, eX1_centreOf_102, eX1_centreOf_103, eX1_centreOf_104, eX1_centreOf_106, eX1_centreOf_107, eX1_centreOf_108, eX1_centreOf_109, eX1_centreOf_in, h0, nI_ge (show r < R by omega) (show R < 2 ^ 31 by omega), Option.toList_some, Option.toList_none, List.cons_append, List.nil_append, b2_0, Classical.not_not, false_implies, true_implies, implies_true, true_and, and_true, not_true_eq_false, not_false_eq_true]
      exact this
  simp only [eX1_centreOf_0, eX1_centreOf_1, eX1_centreOf_2, eX1_centreOf_3, eX1_centreOf_7, eX1_centreOf_8, eX1_centreOf_11, eX1_centreOf_14, eX1_centreOf_15, eX1_centreOf_19, eX1_centreOf_20, eX1_centreOf_23, eX1_centreOf_26, eX1_centreOf_27, eX1_centreOf_29, eX1_centreOf_31, eX1_centreOf_34, eX1_centreOf_36, eX1_centreOf_37, eX1_centreOf_40, eX1_centreOf_42, eX1_centreOf_43, eX1_centreOf_44, eX1_centreOf_47, eX1_centreOf_48, eX1_centreOf_49, eX1_centreOf_52, eX1_centreOf_54, eX1_centreOf_55, eX1_centreOf_56, eX1_centreOf_57, eX1_centreOf_60, eX1_centreOf_62, eX1_centreOf_65, eX1_centreOf_67, eX1_centreOf_68, eX1_centreOf_69, eX1_centreOf_70, eX1_centreOf_71, eX1_centreOf_74, eX1_centreOf_77, eX1_centreOf_80, eX1_centreOf_83, eX1_centreOf_84, eX1_centreOf_85, eX1_centreOf_88, eX1_centreOf_90, eX1_centreOf_92, eX1_centreOf_95, eX1_centreOf_96, eX1_centreOf_99, eX1_centreOf_102, eX1_centreOf_103, eX1_centreOf_104, eX1_centreOf_106, eX1_centreOf_107, eX1_centreOf_108, eX1_centreOf_109, eX1_centreOf_in, Option.toList_some, Option.toList_none, List.cons_append, List.nil_append, b2_0, Classical.not_not, false_implies, true_implies, implies_true, true_and, and_true, not_true_eq_false, not_false_eq_true]
  have := outer R 0 .null .null (by omega)
  rw [Nat.zero_mul] at this
  exact this
theorem m_heavyOf {Q : Qt} {M : Mm} {R C w : Nat} {p : Int32} (hw : w ≤ 2) (h0 : M.1 52 0 = nI R) (h1 : M.1 52 1 = nI C) (hR : R ≤ 8) (hC : C ≤ 8) (hC0 : 0 < C) (hs : ∀ j, j < R * C → M.1 52 (210 + j) = p → ∃ x, x ≤ 15984 ∧ M.1 52 (146 + j) = nI x) (hQ : Q (some (.int (nI (hn (fun j => M.1 52 (210 + j)) (fun j => M.1 52 (146 + j)) p (by_ C w) (R * C))))) M) : kX7_heavyOf [.ref 51, .int p, .int (nI w)] M Q := by
  have h64 := rc_le hR hC
  have c0 : ¬ (nI C = 0) := nI_ne0 hC0 (by omega)
  have lp : ∀ d i (l5 : Value), i + d = R * C → V pgX7_heavyOf Q 5 [.ref 51, .int p, .int (nI w), .int (nI (hn (fun j => M.1 52 (210 + j)) (fun j => M.1 52 (146 + j)) p (by_ C w) i)), .int (nI i), l5] [] M := by
    intro d
    induction d with
    | zero =>
      intro i l5 hi
      have : i = R * C := by omega
      subst this
      rw [eX7_heavyOf_5]
      simp only [eX7_heavyOf_0, eX7_heavyOf_1, eX7_heavyOf_2, eX7_heavyOf_3, eX7_heavyOf_7, eX7_heavyOf_8, eX7_heavyOf_11, eX7_heavyOf_14, eX7_heavyOf_15, eX7_heavyOf_18, eX7_heavyOf_19, eX7_heavyOf_22, eX7_heavyOf_23, eX7_heavyOf_24, eX7_heavyOf_27, eX7_heavyOf_29, eX7_heavyOf_30, eX7_heavyOf_33, eX7_heavyOf_34, eX7_heavyOf_35, eX7_heavyOf_36, eX7_heavyOf_39, eX7_heavyOf_41, eX7_heavyOf_42, eX7_heavyOf_45, eX7_heavyOf_46, eX7_heavyOf_47, eX7_heavyOf_48, eX7_heavyOf_50, eX7_heavyOf_51, eX7_heavyOf_52, eX7_heavyOf_55, eX7_heavyOf_58, eX7_heavyOf_60, eX7_heavyOf_61, eX7_heavyOf_62, eX7_heavyOf_63, eX7_heavyOf_66, eX7_heavyOf_67, eX7_heavyOf_70, eX7_heavyOf_73, eX7_heavyOf_75, eX7_heavyOf_76, eX7_heavyOf_77, eX7_heavyOf_79, eX7_heavyOf_80, eX7_heavyOf_83, eX7_heavyOf_84, eX7_heavyOf_85, eX7_heavyOf_86, eX7_heavyOf_89, eX7_heavyOf_92, eX7_heavyOf_93, eX7_heavyOf_in, q_mcells, h0, h1, pk_mul, Int32.le_refl, Option.toList_some, Option.toList_none, List.cons_append, List.nil_append, b2_0, Classical.not_not, false_implies, true_implies, implies_true, true_and, and_true, not_true_eq_false, not_false_eq_true]
      exact hQ
    | succ d ih =>
      intro i l5 hi
      have e1 : hn (fun j => M.1 52 (210 + j)) (fun j => M.1 52 (146 + j)) p (by_ C w) (i + 1) = hn (fun j => M.1 52 (210 + j)) (fun j => M.1 52 (146 + j)) p (by_ C w) i + (if M.1 52 (210 + i) = p then (M.1 52 (146 + i)).toNatClampNeg * by_ C w i else 0) := rfl
      have e2 : ∀ x, nI x + 0 = nI x := fun x => nI_add x 0
      have e3 : nI i - nI i / nI C * nI C = nI (i % C) := pk_rem (by omega) hC0 (by omega)
      have e4 : nI i / nI C = nI (i / C) := pk_div (by omega) hC0 (by omega)
      have e5 : nI i - nI (i / C * C) = nI (i % C) := by rw [← e3, e4, pk_mul]
      have := fun l => ih (i + 1) l (by omega)
      rw [eX7_heavyOf_5]
      simp only [eX7_heavyOf_0, eX7_heavyOf_1, eX7_heavyOf_2, eX7_heavyOf_3, eX7_heavyOf_7, eX7_heavyOf_8, eX7_heavyOf_11, eX7_heavyOf_14, eX7_heavyOf_15, eX7_heavyOf_18, eX7_heavyOf_19, eX7_heavyOf_22, eX7_heavyOf_23, eX7_heavyOf_24, eX7_heavyOf_27, eX7_heavyOf_29, eX7_heavyOf_30, eX7_heavyOf_33, eX7_heavyOf_34, eX7_heavyOf_35, eX7_heavyOf_36, eX7_heavyOf_39, eX7_heavyOf_41, eX7_heavyOf_42, eX7_heavyOf_45, eX7_heavyOf_46, eX7_heavyOf_47, eX7_heavyOf_48, eX7_heavyOf_50, eX7_heavyOf_51, eX7_heavyOf_52, eX7_heavyOf_55, eX7_heavyOf_58, eX7_heavyOf_60, eX7_heavyOf_61, eX7_heavyOf_62, eX7_heavyOf_63, eX7_heavyOf_66, eX7_heavyOf_67, eX7_heavyOf_70, eX7_heavyOf_73, eX7_heavyOf_75, eX7_heavyOf_76, eX7_heavyOf_77, eX7_heavyOf_79, eX7_heavyOf_80, eX7_heavyOf_83, eX7_heavyOf_84, eX7_heavyOf_85, eX7_heavyOf_86, eX7_heavyOf_89, eX7_heavyOf_92, eX7_heavyOf_93, eX7_heavyOf_in, q_mcells, h0, h1, v1, tn_1, pk_mul, c0, a210, a146, e3, e4, e5, nI_ge (show i < R * C by omega) (show R * C < 2 ^ 31 by omega), nI_clamp (show 210 + i < 2 ^ 31 by omega), nI_clamp (show 146 + i < 2 ^ 31 by omega), vpn (show 210 + i < 316 by omega) (by decide : 316 < 2147483648), vpn (show 146 + i < 316 by omega) (by decide : 316 < 2147483648), nI_1, e2, Option.toList_some, Option.toList_none, List.cons_append, List.nil_append, b2_0, Classical.not_not, false_implies, true_implies, implies_true, true_and, and_true, not_true_eq_false, not_false_eq_true]
      have key : ∀ b : Nat, b = by_ C w i → (¬ M.1 52 (210 + i) = p → V pgX7_heavyOf Q 5 [.ref 51, .int p, .int (nI w), .int (nI (hn (fun j => M.1 52 (210 + j)) (fun j => M.1 52 (146 + j)) p (by_ C w) i)), .int (nI (i + 1)), .int (nI b)] [] M) ∧ (M.1 52 (210 + i) = p → V pgX7_heavyOf Q 5 [.ref 51, .int p, .int (nI w), .int (nI (hn (fun j => M.1 52 (210 + j)) (fun j => M.1 52 (146 + j)) p (by_ C w) i) + M.1 52 (146 + i) * nI b), .int (nI (i + 1)), .int (nI b)] [] M) := by
        intro b hb
        refine ⟨fun z => ?_, fun z => ?_⟩
        · rw [e1, if_neg z] at this
          exact this _
        · obtain ⟨x, x1, x2⟩ := hs i (by omega) z
          rw [e1, if_pos z, x2, nI_clamp (by omega), ← hb] at this
          rw [x2, pk_mul, nI_add]
          exact this _
      rcases (show w = 0 ∨ w = 1 ∨ w = 2 by omega) with rfl | rfl | rfl
      · have q : (nI 0 = 0) = True := eq_true (by decide)
        simp only [q, Option.toList_some, Option.toList_none, List.cons_append, List.nil_append, b2_0, Classical.not_not, false_implies, true_implies, implies_true, true_and, and_true, not_true_eq_false, not_false_eq_true]
        exact key 1 rfl
      · have q : (nI 1 = 0) = False := eq_false (by decide)
        have q1 : (nI 1 = 1) = True := eq_true (by decide)
        simp only [q, q1, Option.toList_some, Option.toList_none, List.cons_append, List.nil_append, b2_0, Classical.not_not, false_implies, true_implies, implies_true, true_and, and_true, not_true_eq_false, not_false_eq_true]
        exact key (i % C) rfl
      · have q : (nI 2 = 0) = False := eq_false (by decide)
        have q1 : (nI 2 = 1) = False := eq_false (by decide)
        simp only [q, q1, Option.toList_some, Option.toList_none, List.cons_append, List.nil_append, b2_0, Classical.not_not, false_implies, true_implies, implies_true, true_and, and_true, not_true_eq_false, not_false_eq_true]
        exact key (i / C) rfl
  simp only [eX7_heavyOf_0, eX7_heavyOf_1, eX7_heavyOf_2, eX7_heavyOf_3, eX7_heavyOf_7, eX7_heavyOf_8, eX7_heavyOf_11, eX7_heavyOf_14, eX7_heavyOf_15, eX7_heavyOf_18, eX7_heavyOf_19, eX7_heavyOf_22, eX7_heavyOf_23, eX7_heavyOf_24, eX7_heavyOf_27, eX7_heavyOf_29, eX7_heavyOf_30, eX7_heavyOf_33, eX7_heavyOf_34, eX7_heavyOf_35, eX7_heavyOf_36, eX7_heavyOf_39, eX7_heavyOf_41, eX7_heavyOf_42, eX7_heavyOf_45, eX7_heavyOf_46, eX7_heavyOf_47, eX7_heavyOf_48, eX7_heavyOf_50, eX7_heavyOf_51, eX7_heavyOf_52, eX7_heavyOf_55, eX7_heavyOf_58, eX7_heavyOf_60, eX7_heavyOf_61, eX7_heavyOf_62, eX7_heavyOf_63, eX7_heavyOf_66, eX7_heavyOf_67, eX7_heavyOf_70, eX7_heavyOf_73, eX7_heavyOf_75, eX7_heavyOf_76, eX7_heavyOf_77, eX7_heavyOf_79, eX7_heavyOf_80, eX7_heavyOf_83, eX7_heavyOf_84, eX7_heavyOf_85, eX7_heavyOf_86, eX7_heavyOf_89, eX7_heavyOf_92, eX7_heavyOf_93, eX7_heavyOf_in, Option.toList_some, Option.toList_none, List.cons_append, List.nil_append, b2_0, Classical.not_not, false_implies, true_implies, implies_true, true_and, and_true, not_true_eq_false, not_false_eq_true]
  exact lp (R * C) 0 .null (by omega)
/-- what contact tells, of the row -/
noncomputable def conN (N : Nat → Int32) (R C k w : Nat) : Int32 := if w = 0 then N (274 + k) else if w = 1 then nI (ar (fun j => N (210 + j)) (N (274 + k)) (R * C)) else if w = 2 then nI (hn (fun j => N (210 + j)) (fun j => N (146 + j)) (N (274 + k)) (fun _ => 1) (R * C)) else (lN 256 * lN (hn (fun j => N (210 + j)) (fun j => N (146 + j)) (N (274 + k)) (by_ C (w - 2)) (R * C)) / lN (hn (fun j => N (210 + j)) (fun j => N (146 + j)) (N (274 + k)) (fun _ => 1) (R * C))).toInt32
/-- what a contact's blob is like -/
theorem Gd.blob {N : Nat → Int32} {R C c t T P D L : Nat} (g : Gd N R C c t T P D L) {k : Nat} (hk : k < c) : (∀ j, j < R * C → N (210 + j) = N (274 + k) → ∃ x, x ≤ 15984 ∧ N (146 + j) = nI x) ∧ 0 < hn (fun j => N (210 + j)) (fun j => N (146 + j)) (N (274 + k)) (fun _ => 1) (R * C) ∧ hn (fun j => N (210 + j)) (fun j => N (146 + j)) (N (274 + k)) (fun _ => 1) (R * C) < 2147483648 := by
  obtain ⟨⟨⟨r1, r2⟩, ⟨c1, c2⟩, hcc, htt⟩, -, -, -, -, -, -, -, -, hpk, hcon, -⟩ := id g
  have h64 := rc_le r2 c2
  obtain ⟨p, p1, p2, p3⟩ := hcon k hk
  have ne : ¬ (nI p = -1) := fun z => by
    have := congrArg Int32.toInt z
    rw [nI_toInt (by omega)] at this
    have h2 : (-1 : Int32).toInt = -1 := by decide
    omega
  have hs : ∀ j, j < R * C → N (210 + j) = N (274 + k) → ∃ x, x ≤ 15984 ∧ N (146 + j) = nI x := by
    intro j hj e
    rw [p2] at e
    rcases hpk j (by omega) with z | ⟨-, -, x, -, x2, x3⟩
    · exact absurd (e.symm.trans z) ne
    · exact ⟨x, x2, x3⟩
  refine ⟨hs, ?_, ?_⟩
  · rcases hpk p (by omega) with z | ⟨-, -, x, x1, x2, x3⟩
    · exact absurd (p3.symm.trans z) ne
    · exact hn_pos (q := p) (x := x) _ p1 (by rw [p2]; exact p3) x3 (by omega) (by omega)
  · have := hn_le (pk := fun j => N (210 + j)) (sg := fun j => N (146 + j)) (p := N (274 + k)) (b := fun _ => 1) (R * C) hs (fun _ _ => by omega)
    omega
theorem c_contact {Q : Qt} {M : Mm} {N : Nat → Int32} {R C c t T P D L : Nat} (hR : Re M.1 1 N) (g : Gd N R C c t T P D L) {k w : Nat} (hk : k < c) (hw : w ≤ 4) (hQ : Q (some (.int (conN N R C k w))) M) : kX6_contact [.ref 0, .int (nI k), .int (nI w)] M Q := by
  obtain ⟨⟨⟨r1, r2⟩, ⟨c1, c2⟩, hcc, htt⟩, -, ⟨n0, n1, n2, n3, n4, n5, n8, n10⟩, -, -, -, -, -, -, hpk, hcon, -⟩ := id g
  have h64 := rc_le r2 c2
  have e30 : M.1 3 0 = nI R := (hR.lo (k := 0) (by omega)).trans n0
  have e31 : M.1 3 1 = nI C := (hR.lo (k := 1) (by omega)).trans n1
  have e81 : M.1 8 1 = nI c := (hR.lo (k := 8) (by omega)).trans n8
  have e9 : M.1 9 k = N (274 + k) := hR.con hk hcc n8
  obtain ⟨b1, b2', b3⟩ := g.blob hk
  have pk : ∀ j, j < R * C → M.1 7 j = N (210 + j) := fun j hj => hR.peak (by omega)
  have sg : ∀ j, j < R * C → M.1 6 j = N (146 + j) := fun j hj => hR.signal (by omega)
  have w0 : 0 ≤ nI w ∧ nI w ≤ 4 := ⟨nI0le _ (by omega), nI_le (b := 4) (by omega) (by omega)⟩
  have k0 : 0 ≤ nI k ∧ nI k ≤ nI c - 1 := ⟨nI0le _ (by omega), by rw [nI_p1 (by omega)]; exact nI_le (by omega) (by omega)⟩
  have hsC : ∀ j, j < R * C → M.1 7 j = N (274 + k) → ∃ x, x ≤ 15984 ∧ M.1 6 j = nI x := fun j hj e => by
    rw [sg j hj]
    exact b1 j hj (by rw [← pk j hj]; exact e)
  have ea : ar (M.1 7) (N (274 + k)) (R * C) = ar (fun j => N (210 + j)) (N (274 + k)) (R * C) := ar_congr _ pk
  have eh : ∀ b, hn (M.1 7) (M.1 6) (N (274 + k)) b (R * C) = hn (fun j => N (210 + j)) (fun j => N (146 + j)) (N (274 + k)) b (R * C) := fun b => hn_congr _ (fun j hj => ⟨pk j hj, sg j hj⟩)
  simp only [eX6_contact_0, eX6_contact_1, eX6_contact_2, eX6_contact_3, eX6_contact_6, eX6_contact_9, eX6_contact_11, eX6_contact_12, eX6_contact_13, eX6_contact_14, eX6_contact_15, eX6_contact_18, eX6_contact_21, eX6_contact_24, eX6_contact_25, eX6_contact_26, eX6_contact_29, eX6_contact_32, eX6_contact_33, eX6_contact_34, eX6_contact_35, eX6_contact_38, eX6_contact_41, eX6_contact_44, eX6_contact_45, eX6_contact_46, eX6_contact_47, eX6_contact_48, eX6_contact_80, eX6_contact_81, eX6_contact_82, eX6_contact_83, eX6_contact_86, eX6_contact_89, eX6_contact_90, eX6_contact_93, eX6_contact_94, eX6_contact_95, eX6_contact_98, eX6_contact_101, eX6_contact_102, eX6_contact_105, eX6_contact_106, eX6_contact_107, eX6_contact_110, eX6_contact_113, eX6_contact_114, eX6_contact_115, eX6_contact_118, eX6_contact_119, eX6_contact_120, eX6_contact_123, eX6_contact_126, eX6_contact_127, eX6_contact_128, eX6_contact_131, eX6_contact_in, q_within, w0, k0, e81, nI_clamp (show k < 2 ^ 31 by omega), vpn (show k < 6 by omega) (by decide : 6 < 2147483648), e9, Option.toList_some, Option.toList_none, List.cons_append, List.nil_append, b2_0, Classical.not_not, false_implies, true_implies, implies_true, true_and, and_true, not_true_eq_false, not_false_eq_true]
  rcases (show w = 0 ∨ w = 1 ∨ w = 2 ∨ w = 3 ∨ w = 4 by omega) with rfl | rfl | rfl | rfl | rfl
  · exact br_t rfl hQ
  · refine br_f (by decide) (br_t rfl ?_)
    refine c_areaOf e30 e31 rfl h64 ?_
    simp only [eX6_contact_0, eX6_contact_1, eX6_contact_2, eX6_contact_3, eX6_contact_6, eX6_contact_9, eX6_contact_11, eX6_contact_12, eX6_contact_13, eX6_contact_14, eX6_contact_15, eX6_contact_18, eX6_contact_21, eX6_contact_24, eX6_contact_25, eX6_contact_26, eX6_contact_29, eX6_contact_32, eX6_contact_33, eX6_contact_34, eX6_contact_35, eX6_contact_38, eX6_contact_41, eX6_contact_44, eX6_contact_45, eX6_contact_46, eX6_contact_47, eX6_contact_48, eX6_contact_80, eX6_contact_81, eX6_contact_82, eX6_contact_83, eX6_contact_86, eX6_contact_89, eX6_contact_90, eX6_contact_93, eX6_contact_94, eX6_contact_95, eX6_contact_98, eX6_contact_101, eX6_contact_102, eX6_contact_105, eX6_contact_106, eX6_contact_107, eX6_contact_110, eX6_contact_113, eX6_contact_114, eX6_contact_115, eX6_contact_118, eX6_contact_119, eX6_contact_120, eX6_contact_123, eX6_contact_126, eX6_contact_127, eX6_contact_128, eX6_contact_131, eX6_contact_in, Option.toList_some, Option.toList_none, List.cons_append, List.nil_append, b2_0, Classical.not_not, false_implies, true_implies, implies_true, true_and, and_true, not_true_eq_false, not_false_eq_true]
    rw [ea]
    exact hQ
  · refine br_f (by decide) (br_f (by decide) (br_t rfl ?_))
    refine c_heavyOf e30 e31 rfl h64 hsC ?_
    simp only [eX6_contact_0, eX6_contact_1, eX6_contact_2, eX6_contact_3, eX6_contact_6, eX6_contact_9, eX6_contact_11, eX6_contact_12, eX6_contact_13, eX6_contact_14, eX6_contact_15, eX6_contact_18, eX6_contact_21, eX6_contact_24, eX6_contact_25, eX6_contact_26, eX6_contact_29, eX6_contact_32, eX6_contact_33, eX6_contact_34, eX6_contact_35, eX6_contact_38, eX6_contact_41, eX6_contact_44, eX6_contact_45, eX6_contact_46, eX6_contact_47, eX6_contact_48, eX6_contact_80, eX6_contact_81, eX6_contact_82, eX6_contact_83, eX6_contact_86, eX6_contact_89, eX6_contact_90, eX6_contact_93, eX6_contact_94, eX6_contact_95, eX6_contact_98, eX6_contact_101, eX6_contact_102, eX6_contact_105, eX6_contact_106, eX6_contact_107, eX6_contact_110, eX6_contact_113, eX6_contact_114, eX6_contact_115, eX6_contact_118, eX6_contact_119, eX6_contact_120, eX6_contact_123, eX6_contact_126, eX6_contact_127, eX6_contact_128, eX6_contact_131, eX6_contact_in, Option.toList_some, Option.toList_none, List.cons_append, List.nil_append, b2_0, Classical.not_not, false_implies, true_implies, implies_true, true_and, and_true, not_true_eq_false, not_false_eq_true]
    rw [eh]
    exact hQ
  · refine br_f (by decide) (br_f (by decide) (br_f (by decide) (br_t rfl ?_)))
    refine c_centreOf (w := 1) (Or.inl rfl) e30 e31 r2 c2 (by omega) hsC (by rw [eh]; exact b2') ?_
    simp only [eX6_contact_0, eX6_contact_1, eX6_contact_2, eX6_contact_3, eX6_contact_6, eX6_contact_9, eX6_contact_11, eX6_contact_12, eX6_contact_13, eX6_contact_14, eX6_contact_15, eX6_contact_18, eX6_contact_21, eX6_contact_24, eX6_contact_25, eX6_contact_26, eX6_contact_29, eX6_contact_32, eX6_contact_33, eX6_contact_34, eX6_contact_35, eX6_contact_38, eX6_contact_41, eX6_contact_44, eX6_contact_45, eX6_contact_46, eX6_contact_47, eX6_contact_48, eX6_contact_80, eX6_contact_81, eX6_contact_82, eX6_contact_83, eX6_contact_86, eX6_contact_89, eX6_contact_90, eX6_contact_93, eX6_contact_94, eX6_contact_95, eX6_contact_98, eX6_contact_101, eX6_contact_102, eX6_contact_105, eX6_contact_106, eX6_contact_107, eX6_contact_110, eX6_contact_113, eX6_contact_114, eX6_contact_115, eX6_contact_118, eX6_contact_119, eX6_contact_120, eX6_contact_123, eX6_contact_126, eX6_contact_127, eX6_contact_128, eX6_contact_131, eX6_contact_in, Option.toList_some, Option.toList_none, List.cons_append, List.nil_append, b2_0, Classical.not_not, false_implies, true_implies, implies_true, true_and, and_true, not_true_eq_false, not_false_eq_true]
    rw [eh, eh]
    exact hQ
  · refine br_f (by decide) (br_f (by decide) (br_f (by decide) (br_f (by decide) ?_)))
    refine c_centreOf (w := 2) (Or.inr rfl) e30 e31 r2 c2 (by omega) hsC (by rw [eh]; exact b2') ?_
    simp only [eX6_contact_0, eX6_contact_1, eX6_contact_2, eX6_contact_3, eX6_contact_6, eX6_contact_9, eX6_contact_11, eX6_contact_12, eX6_contact_13, eX6_contact_14, eX6_contact_15, eX6_contact_18, eX6_contact_21, eX6_contact_24, eX6_contact_25, eX6_contact_26, eX6_contact_29, eX6_contact_32, eX6_contact_33, eX6_contact_34, eX6_contact_35, eX6_contact_38, eX6_contact_41, eX6_contact_44, eX6_contact_45, eX6_contact_46, eX6_contact_47, eX6_contact_48, eX6_contact_80, eX6_contact_81, eX6_contact_82, eX6_contact_83, eX6_contact_86, eX6_contact_89, eX6_contact_90, eX6_contact_93, eX6_contact_94, eX6_contact_95, eX6_contact_98, eX6_contact_101, eX6_contact_102, eX6_contact_105, eX6_contact_106, eX6_contact_107, eX6_contact_110, eX6_contact_113, eX6_contact_114, eX6_contact_115, eX6_contact_118, eX6_contact_119, eX6_contact_120, eX6_contact_123, eX6_contact_126, eX6_contact_127, eX6_contact_128, eX6_contact_131, eX6_contact_in, Option.toList_some, Option.toList_none, List.cons_append, List.nil_append, b2_0, Classical.not_not, false_implies, true_implies, implies_true, true_and, and_true, not_true_eq_false, not_false_eq_true]
    rw [eh, eh]
    exact hQ
theorem by0 (C : Nat) : by_ C 0 = fun _ => 1 := by
  funext j
  simp [by_]
theorem m_contactTells {Q : Qt} {M : Mm} {N : Nat → Int32} {R C c t T P D L : Nat} (hN : M.1 52 = N) (g : Gd N R C c t T P D L) {k w : Nat} (hk : k < c) (hw : w ≤ 4) (hQ : Q (some (.int (conN N R C k w))) M) : kX7_contactTells [.ref 51, .int (nI k), .int (nI w)] M Q := by
  obtain ⟨⟨⟨r1, r2⟩, ⟨c1, c2⟩, hcc, htt⟩, -, ⟨n0, n1, n2, n3, n4, n5, n8, n10⟩, -⟩ := id g
  subst hN
  have h64 := rc_le r2 c2
  obtain ⟨b1, b2', b3⟩ := g.blob hk
  have z2 : ¬ (lN (hn (fun j => M.1 52 (210 + j)) (fun j => M.1 52 (146 + j)) (M.1 52 (274 + k)) (fun _ => 1) (R * C)) = 0) := fun z => by
    have := (lN_eq (b := 0) b3 (by decide)).mp z
    omega
  have hl : ∀ b, (∀ j, j < R * C → b j ≤ 7) → hn (fun j => M.1 52 (210 + j)) (fun j => M.1 52 (146 + j)) (M.1 52 (274 + k)) b (R * C) < 2147483648 := fun b hb => by
    have := hn_le (pk := fun j => M.1 52 (210 + j)) (sg := fun j => M.1 52 (146 + j)) (p := M.1 52 (274 + k)) (b := b) (R * C) b1 hb
    omega
  have l1 : ∀ j, j < R * C → by_ C 1 j ≤ 7 := fun j _ => by
    have := Nat.mod_lt j (show 0 < C by omega)
    simp only [by_]
    simp
    omega
  have l2 : ∀ j, j < R * C → by_ C 2 j ≤ 7 := fun j hj => by
    have := Nat.div_lt_of_lt_mul (show j < C * R by rw [Nat.mul_comm]; exact hj)
    simp only [by_]
    simp
    omega
  simp only [eX7_contactTells_0, eX7_contactTells_1, eX7_contactTells_4, eX7_contactTells_7, eX7_contactTells_8, eX7_contactTells_9, eX7_contactTells_10, eX7_contactTells_11, eX7_contactTells_12, eX7_contactTells_40, eX7_contactTells_41, eX7_contactTells_42, eX7_contactTells_43, eX7_contactTells_44, eX7_contactTells_47, eX7_contactTells_48, eX7_contactTells_49, eX7_contactTells_50, eX7_contactTells_51, eX7_contactTells_54, eX7_contactTells_55, eX7_contactTells_58, eX7_contactTells_59, eX7_contactTells_60, eX7_contactTells_61, eX7_contactTells_62, eX7_contactTells_63, eX7_contactTells_66, eX7_contactTells_67, eX7_contactTells_68, eX7_contactTells_69, eX7_contactTells_70, eX7_contactTells_71, eX7_contactTells_74, eX7_contactTells_75, eX7_contactTells_76, eX7_contactTells_77, eX7_contactTells_in, a274, nI_clamp (show 274 + k < 2 ^ 31 by omega), vpn (show 274 + k < 316 by omega) (by decide : 316 < 2147483648), Option.toList_some, Option.toList_none, List.cons_append, List.nil_append, b2_0, Classical.not_not, false_implies, true_implies, implies_true, true_and, and_true, not_true_eq_false, not_false_eq_true]
  have h0' := m_heavyOf (Q := Q) (M := M) (w := 0) (p := M.1 52 (274 + k)) (by omega) n0 n1 r2 c2 (by omega) b1
  rcases (show w = 0 ∨ w = 1 ∨ w = 2 ∨ w = 3 ∨ w = 4 by omega) with rfl | rfl | rfl | rfl | rfl
  · exact br_t rfl hQ
  · refine br_f (by decide) (br_t rfl ?_)
    refine m_areaOf n0 n1 rfl h64 ?_
    simp only [eX7_contactTells_0, eX7_contactTells_1, eX7_contactTells_4, eX7_contactTells_7, eX7_contactTells_8, eX7_contactTells_9, eX7_contactTells_10, eX7_contactTells_11, eX7_contactTells_12, eX7_contactTells_40, eX7_contactTells_41, eX7_contactTells_42, eX7_contactTells_43, eX7_contactTells_44, eX7_contactTells_47, eX7_contactTells_48, eX7_contactTells_49, eX7_contactTells_50, eX7_contactTells_51, eX7_contactTells_54, eX7_contactTells_55, eX7_contactTells_58, eX7_contactTells_59, eX7_contactTells_60, eX7_contactTells_61, eX7_contactTells_62, eX7_contactTells_63, eX7_contactTells_66, eX7_contactTells_67, eX7_contactTells_68, eX7_contactTells_69, eX7_contactTells_70, eX7_contactTells_71, eX7_contactTells_74, eX7_contactTells_75, eX7_contactTells_76, eX7_contactTells_77, eX7_contactTells_in, Option.toList_some, Option.toList_none, List.cons_append, List.nil_append, b2_0, Classical.not_not, false_implies, true_implies, implies_true, true_and, and_true, not_true_eq_false, not_false_eq_true]
    exact hQ
  · refine br_f (by decide) (br_f (by decide) (br_t rfl ?_))
    refine m_heavyOf (w := 0) (by omega) n0 n1 r2 c2 (by omega) b1 ?_
    simp only [eX7_contactTells_0, eX7_contactTells_1, eX7_contactTells_4, eX7_contactTells_7, eX7_contactTells_8, eX7_contactTells_9, eX7_contactTells_10, eX7_contactTells_11, eX7_contactTells_12, eX7_contactTells_40, eX7_contactTells_41, eX7_contactTells_42, eX7_contactTells_43, eX7_contactTells_44, eX7_contactTells_47, eX7_contactTells_48, eX7_contactTells_49, eX7_contactTells_50, eX7_contactTells_51, eX7_contactTells_54, eX7_contactTells_55, eX7_contactTells_58, eX7_contactTells_59, eX7_contactTells_60, eX7_contactTells_61, eX7_contactTells_62, eX7_contactTells_63, eX7_contactTells_66, eX7_contactTells_67, eX7_contactTells_68, eX7_contactTells_69, eX7_contactTells_70, eX7_contactTells_71, eX7_contactTells_74, eX7_contactTells_75, eX7_contactTells_76, eX7_contactTells_77, eX7_contactTells_in, by0, Option.toList_some, Option.toList_none, List.cons_append, List.nil_append, b2_0, Classical.not_not, false_implies, true_implies, implies_true, true_and, and_true, not_true_eq_false, not_false_eq_true]
    exact hQ
  · refine br_f (by decide) (br_f (by decide) (br_f (by decide) ?_))
    refine m_heavyOf (w := 1) (by omega) n0 n1 r2 c2 (by omega) b1 ?_
    simp only [eX7_contactTells_0, eX7_contactTells_1, eX7_contactTells_4, eX7_contactTells_7, eX7_contactTells_8, eX7_contactTells_9, eX7_contactTells_10, eX7_contactTells_11, eX7_contactTells_12, eX7_contactTells_40, eX7_contactTells_41, eX7_contactTells_42, eX7_contactTells_43, eX7_contactTells_44, eX7_contactTells_47, eX7_contactTells_48, eX7_contactTells_49, eX7_contactTells_50, eX7_contactTells_51, eX7_contactTells_54, eX7_contactTells_55, eX7_contactTells_58, eX7_contactTells_59, eX7_contactTells_60, eX7_contactTells_61, eX7_contactTells_62, eX7_contactTells_63, eX7_contactTells_66, eX7_contactTells_67, eX7_contactTells_68, eX7_contactTells_69, eX7_contactTells_70, eX7_contactTells_71, eX7_contactTells_74, eX7_contactTells_75, eX7_contactTells_76, eX7_contactTells_77, eX7_contactTells_in, Option.toList_some, Option.toList_none, List.cons_append, List.nil_append, b2_0, Classical.not_not, false_implies, true_implies, implies_true, true_and, and_true, not_true_eq_false, not_false_eq_true]
    refine m_heavyOf (w := 0) (by omega) n0 n1 r2 c2 (by omega) b1 ?_
    simp only [eX7_contactTells_0, eX7_contactTells_1, eX7_contactTells_4, eX7_contactTells_7, eX7_contactTells_8, eX7_contactTells_9, eX7_contactTells_10, eX7_contactTells_11, eX7_contactTells_12, eX7_contactTells_40, eX7_contactTells_41, eX7_contactTells_42, eX7_contactTells_43, eX7_contactTells_44, eX7_contactTells_47, eX7_contactTells_48, eX7_contactTells_49, eX7_contactTells_50, eX7_contactTells_51, eX7_contactTells_54, eX7_contactTells_55, eX7_contactTells_58, eX7_contactTells_59, eX7_contactTells_60, eX7_contactTells_61, eX7_contactTells_62, eX7_contactTells_63, eX7_contactTells_66, eX7_contactTells_67, eX7_contactTells_68, eX7_contactTells_69, eX7_contactTells_70, eX7_contactTells_71, eX7_contactTells_74, eX7_contactTells_75, eX7_contactTells_76, eX7_contactTells_77, eX7_contactTells_in, by0, nI_l b3, nI_l (hl _ l1), z2, Option.toList_some, Option.toList_none, List.cons_append, List.nil_append, b2_0, Classical.not_not, false_implies, true_implies, implies_true, true_and, and_true, not_true_eq_false, not_false_eq_true]
    exact hQ
  · refine br_f (by decide) (br_f (by decide) (br_f (by decide) ?_))
    refine m_heavyOf (w := 2) (by omega) n0 n1 r2 c2 (by omega) b1 ?_
    simp only [eX7_contactTells_0, eX7_contactTells_1, eX7_contactTells_4, eX7_contactTells_7, eX7_contactTells_8, eX7_contactTells_9, eX7_contactTells_10, eX7_contactTells_11, eX7_contactTells_12, eX7_contactTells_40, eX7_contactTells_41, eX7_contactTells_42, eX7_contactTells_43, eX7_contactTells_44, eX7_contactTells_47, eX7_contactTells_48, eX7_contactTells_49, eX7_contactTells_50, eX7_contactTells_51, eX7_contactTells_54, eX7_contactTells_55, eX7_contactTells_58, eX7_contactTells_59, eX7_contactTells_60, eX7_contactTells_61, eX7_contactTells_62, eX7_contactTells_63, eX7_contactTells_66, eX7_contactTells_67, eX7_contactTells_68, eX7_contactTells_69, eX7_contactTells_70, eX7_contactTells_71, eX7_contactTells_74, eX7_contactTells_75, eX7_contactTells_76, eX7_contactTells_77, eX7_contactTells_in, Option.toList_some, Option.toList_none, List.cons_append, List.nil_append, b2_0, Classical.not_not, false_implies, true_implies, implies_true, true_and, and_true, not_true_eq_false, not_false_eq_true]
    refine m_heavyOf (w := 0) (by omega) n0 n1 r2 c2 (by omega) b1 ?_
    simp only [eX7_contactTells_0, eX7_contactTells_1, eX7_contactTells_4, eX7_contactTells_7, eX7_contactTells_8, eX7_contactTells_9, eX7_contactTells_10, eX7_contactTells_11, eX7_contactTells_12, eX7_contactTells_40, eX7_contactTells_41, eX7_contactTells_42, eX7_contactTells_43, eX7_contactTells_44, eX7_contactTells_47, eX7_contactTells_48, eX7_contactTells_49, eX7_contactTells_50, eX7_contactTells_51, eX7_contactTells_54, eX7_contactTells_55, eX7_contactTells_58, eX7_contactTells_59, eX7_contactTells_60, eX7_contactTells_61, eX7_contactTells_62, eX7_contactTells_63, eX7_contactTells_66, eX7_contactTells_67, eX7_contactTells_68, eX7_contactTells_69, eX7_contactTells_70, eX7_contactTells_71, eX7_contactTells_74, eX7_contactTells_75, eX7_contactTells_76, eX7_contactTells_77, eX7_contactTells_in, by0, nI_l b3, nI_l (hl _ l2), z2, Option.toList_some, Option.toList_none, List.cons_append, List.nil_append, b2_0, Classical.not_not, false_implies, true_implies, implies_true, true_and, and_true, not_true_eq_false, not_false_eq_true]
    exact hQ
theorem step_contact {M : Mm} (hI : Inv M) (k w : Int32) : StepI kX6_contact kX7_contact [.int k, .int w] M := by
  obtain ⟨⟨hR, R, C, cc, t, T, P, D, L, g⟩, -⟩ := id hI
  obtain ⟨⟨⟨r1, r2⟩, ⟨c1, c2⟩, hcc, htt⟩, ⟨⟨t1, t2⟩, ⟨p1, p2⟩, hD, hL⟩, ⟨n0, n1, n2, n3, n4, n5, n8, n10⟩, hF, hSt, hs, hw, hraw, hgr, hpk, hcon, htr⟩ := id g
  have e30 : M.1 3 0 = nI R := (hR.lo (k := 0) (by omega)).trans n0
  have e31 : M.1 3 1 = nI C := (hR.lo (k := 1) (by omega)).trans n1
  have e81 : M.1 8 1 = nI cc := (hR.lo (k := 8) (by omega)).trans n8
  have e105 : M.1 10 5 = nI t := (hR.lo (k := 10) (by omega)).trans n10
  by_cases hw : 0 ≤ w ∧ w ≤ 4
  · rcases natCase hcc k with h1 | ⟨k', hk, rfl, h1⟩
    · refine combN hI qX6_contact qX7_contact (-1) (fun Q h => ?_) (fun M1 Q hM h => ?_)
      · simp only [eX6_contact_0, eX6_contact_1, eX6_contact_2, eX6_contact_3, eX6_contact_6, eX6_contact_9, eX6_contact_11, eX6_contact_12, eX6_contact_13, eX6_contact_14, eX6_contact_15, eX6_contact_18, eX6_contact_21, eX6_contact_24, eX6_contact_25, eX6_contact_26, eX6_contact_29, eX6_contact_32, eX6_contact_33, eX6_contact_34, eX6_contact_35, eX6_contact_38, eX6_contact_41, eX6_contact_44, eX6_contact_45, eX6_contact_46, eX6_contact_47, eX6_contact_48, eX6_contact_80, eX6_contact_81, eX6_contact_82, eX6_contact_83, eX6_contact_86, eX6_contact_89, eX6_contact_90, eX6_contact_93, eX6_contact_94, eX6_contact_95, eX6_contact_98, eX6_contact_101, eX6_contact_102, eX6_contact_105, eX6_contact_106, eX6_contact_107, eX6_contact_110, eX6_contact_113, eX6_contact_114, eX6_contact_115, eX6_contact_118, eX6_contact_119, eX6_contact_120, eX6_contact_123, eX6_contact_126, eX6_contact_127, eX6_contact_128, eX6_contact_131, eX6_contact_in, q_within, hw, e81, h1, Option.toList_some, Option.toList_none, List.cons_append, List.nil_append, b2_0, Classical.not_not, false_implies, true_implies, implies_true, true_and, and_true, not_true_eq_false, not_false_eq_true]
        exact h
      · simp only [eX7_contact_0, eX7_contact_1, eX7_contact_2, eX7_contact_3, eX7_contact_6, eX7_contact_9, eX7_contact_11, eX7_contact_14, eX7_contact_15, eX7_contact_16, eX7_contact_17, eX7_contact_20, eX7_contact_22, eX7_contact_23, eX7_contact_24, eX7_contact_25, eX7_contact_28, eX7_contact_31, eX7_contact_32, eX7_contact_33, eX7_contact_34, eX7_contact_37, eX7_contact_40, eX7_contact_41, eX7_contact_in, q_in, hw, hM, v8, tn_8, n8, h1, Option.toList_some, Option.toList_none, List.cons_append, List.nil_append, b2_0, Classical.not_not, false_implies, true_implies, implies_true, true_and, and_true, not_true_eq_false, not_false_eq_true]
        exact h
    · obtain ⟨j, -, hj, rfl⟩ := in_nI (a := 0) (b := 4) (by omega) (by omega) hw.1 hw.2
      refine combN hI qX6_contact qX7_contact (conN (M.1 52) R C k' j) (fun Q h => ?_) (fun M1 Q hM h => ?_)
      · exact c_contact hR g hk hj h
      · simp only [eX7_contact_0, eX7_contact_1, eX7_contact_2, eX7_contact_3, eX7_contact_6, eX7_contact_9, eX7_contact_11, eX7_contact_14, eX7_contact_15, eX7_contact_16, eX7_contact_17, eX7_contact_20, eX7_contact_22, eX7_contact_23, eX7_contact_24, eX7_contact_25, eX7_contact_28, eX7_contact_31, eX7_contact_32, eX7_contact_33, eX7_contact_34, eX7_contact_37, eX7_contact_40, eX7_contact_41, eX7_contact_in, q_in, hw, hM, v8, tn_8, n8, h1, Option.toList_some, Option.toList_none, List.cons_append, List.nil_append, b2_0, Classical.not_not, false_implies, true_implies, implies_true, true_and, and_true, not_true_eq_false, not_false_eq_true]
        refine m_contactTells hM g hk hj ?_
        simp only [eX7_contact_0, eX7_contact_1, eX7_contact_2, eX7_contact_3, eX7_contact_6, eX7_contact_9, eX7_contact_11, eX7_contact_14, eX7_contact_15, eX7_contact_16, eX7_contact_17, eX7_contact_20, eX7_contact_22, eX7_contact_23, eX7_contact_24, eX7_contact_25, eX7_contact_28, eX7_contact_31, eX7_contact_32, eX7_contact_33, eX7_contact_34, eX7_contact_37, eX7_contact_40, eX7_contact_41, eX7_contact_in, Option.toList_some, Option.toList_none, List.cons_append, List.nil_append, b2_0, Classical.not_not, false_implies, true_implies, implies_true, true_and, and_true, not_true_eq_false, not_false_eq_true]
        exact h
  · refine combN hI qX6_contact qX7_contact (-1000000002) (fun Q h => ?_) (fun M1 Q hM h => ?_)
    · simp only [eX6_contact_0, eX6_contact_1, eX6_contact_2, eX6_contact_3, eX6_contact_6, eX6_contact_9, eX6_contact_11, eX6_contact_12, eX6_contact_13, eX6_contact_14, eX6_contact_15, eX6_contact_18, eX6_contact_21, eX6_contact_24, eX6_contact_25, eX6_contact_26, eX6_contact_29, eX6_contact_32, eX6_contact_33, eX6_contact_34, eX6_contact_35, eX6_contact_38, eX6_contact_41, eX6_contact_44, eX6_contact_45, eX6_contact_46, eX6_contact_47, eX6_contact_48, eX6_contact_80, eX6_contact_81, eX6_contact_82, eX6_contact_83, eX6_contact_86, eX6_contact_89, eX6_contact_90, eX6_contact_93, eX6_contact_94, eX6_contact_95, eX6_contact_98, eX6_contact_101, eX6_contact_102, eX6_contact_105, eX6_contact_106, eX6_contact_107, eX6_contact_110, eX6_contact_113, eX6_contact_114, eX6_contact_115, eX6_contact_118, eX6_contact_119, eX6_contact_120, eX6_contact_123, eX6_contact_126, eX6_contact_127, eX6_contact_128, eX6_contact_131, eX6_contact_in, q_within, hw, Option.toList_some, Option.toList_none, List.cons_append, List.nil_append, b2_0, Classical.not_not, false_implies, true_implies, implies_true, true_and, and_true, not_true_eq_false, not_false_eq_true]
      exact h
    · simp only [eX7_contact_0, eX7_contact_1, eX7_contact_2, eX7_contact_3, eX7_contact_6, eX7_contact_9, eX7_contact_11, eX7_contact_14, eX7_contact_15, eX7_contact_16, eX7_contact_17, eX7_contact_20, eX7_contact_22, eX7_contact_23, eX7_contact_24, eX7_contact_25, eX7_contact_28, eX7_contact_31, eX7_contact_32, eX7_contact_33, eX7_contact_34, eX7_contact_37, eX7_contact_40, eX7_contact_41, eX7_contact_in, q_in, hw, Option.toList_some, Option.toList_none, List.cons_append, List.nil_append, b2_0, Classical.not_not, false_implies, true_implies, implies_true, true_and, and_true, not_true_eq_false, not_false_eq_true]
      exact h
