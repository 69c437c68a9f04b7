/-! wipe, named -/
def FrD (M M' : Mm) : Prop := FrC M M' ∧ M'.2 = M.2
def FrN (M M' : Mm) : Prop := FrM M M' ∧ M'.2 = M.2
theorem FrD.rf {M : Mm} : FrD M M := ⟨FrC.rf, rfl⟩
theorem FrN.rf {M : Mm} : FrN M M := ⟨FrM.rf, rfl⟩
theorem FrD.set {M M' : Mm} (h : FrD M M') {a p : Nat} {v : Int32} (ha : (1 ≤ a ∧ a ≤ 15) ∨ (46 ≤ a ∧ a ≤ 50)) : FrD M (setI M' a p v) := ⟨h.1.set ha, h.2⟩
theorem FrN.set {M M' : Mm} (h : FrN M M') {a p : Nat} {v : Int32} (ha : 52 ≤ a ∧ a ≤ 54) : FrN M (setI M' a p v) := ⟨h.1.set ha, h.2⟩
theorem FrD.tr {M M' M'' : Mm} (h : FrD M M') (h' : FrD M' M'') : FrD M M'' := ⟨fun a p q => (h'.1 a p q).trans (h.1 a p q), h'.2.trans h.2⟩
theorem FrN.tr {M M' M'' : Mm} (h : FrN M M') (h' : FrN M' M'') : FrN M M'' := ⟨fun a p => (h'.1 a p).trans (h.1 a p), h'.2.trans h.2⟩
def cn (N : Nat → Int32) : Nat → Nat
  | 0 => 0
  | i + 1 => cn N i + (if N (18 + i) = 0 then 0 else 1)
theorem cn_le (N : Nat → Int32) : ∀ i, cn N i ≤ i
  | 0 => Nat.le_refl _
  | i + 1 => by
    have := cn_le N i
    simp only [cn]
    split <;> omega
def zr (N : Nat → Int32) (n : Nat) : Nat → Int32 := fun k => if 18 ≤ k ∧ k < 18 + n then 0 else N k
theorem zr_0 (N : Nat → Int32) : zr N 0 = N := by
  funext k
  simp only [zr]
  rw [if_neg (by omega)]
theorem zr_s (N : Nat → Int32) (i : Nat) : upd (zr N i) (18 + i) 0 = zr N (i + 1) := by
  funext k
  simp only [zr, upd]
  by_cases h : k = 18 + i
  · rw [if_pos h, if_pos (by omega)]
  · rw [if_neg h]
    by_cases h2 : 18 ≤ k ∧ k < 18 + i
    · rw [if_pos h2, if_pos (by omega)]
    · rw [if_neg h2, if_neg (by omega)]
theorem zr_at (N : Nat → Int32) (i : Nat) : zr N i (18 + i) = N (18 + i) := by
  simp only [zr]
  rw [if_neg (by omega)]
theorem Gd.zro {N : Nat → Int32} {R C c t T P D L : Nat} (g : Gd N R C c t T P D L) (n : Nat) (hn : n ≤ 64) : Gd (zr N n) R C c t T P D L := by
  refine g.raw (fun k hk => ?_) (fun k hk => ?_)
  · simp only [zr]
    rw [if_neg (by omega)]
  · simp only [zr]
    split
    · exact ⟨0, by omega, rfl⟩
    · exact g.2.2.2.2.2.2.2.1 k hk
theorem l_clearRaw {Q : Qt} {M0 : Mm} {N : Nat → Int32} {n : Nat} (hn : n ≤ 64) (hQ : ∀ M', FrD M0 M' → Re M'.1 1 (zr N n) → Q (some (.int (nI (cn N n)))) M') : ∀ (d i : Nat) (M : Mm), i + d = n → FrD M0 M → Re M.1 1 (zr N i) → V pgX1_clearRaw Q 9 [.ref 3, .int (nI (cn N i)), .int (nI n), .int (nI i)] [] M := by
  intro d
  induction d with
  | zero =>
    intro i M hi hF hR
    have : i = n := by omega
    subst this
    have h1 : nI i ≤ nI i := Int32.le_refl _
    rw [eX1_clearRaw_9]
    simp only [eX1_clearRaw_0, eX1_clearRaw_1, eX1_clearRaw_2, eX1_clearRaw_3, eX1_clearRaw_6, eX1_clearRaw_7, eX1_clearRaw_8, eX1_clearRaw_10, eX1_clearRaw_11, eX1_clearRaw_14, eX1_clearRaw_15, eX1_clearRaw_18, eX1_clearRaw_19, eX1_clearRaw_20, eX1_clearRaw_23, eX1_clearRaw_26, eX1_clearRaw_27, eX1_clearRaw_30, eX1_clearRaw_31, eX1_clearRaw_32, eX1_clearRaw_33, eX1_clearRaw_36, eX1_clearRaw_39, eX1_clearRaw_40, eX1_clearRaw_in, h1, Option.toList_some, Option.toList_none, List.cons_append, List.nil_append, b2_0, Classical.not_not, false_implies, true_implies, implies_true, true_and, and_true, not_true_eq_false, not_false_eq_true]
    exact hQ M hF hR
  | succ d ih =>
    intro i M hi hF hR
    have h1 : ¬ nI n ≤ nI i := nI_ge (by omega) (by omega)
    have h2 : (nI i).toNatClampNeg = i := nI_clamp (by omega)
    have h3 : vp_in (nI i) 64 := vpn (by omega) (by decide)
    have h4 : M.1 4 i = N (18 + i) := (hR.raw (by omega)).trans (zr_at N i)
    have hR' := hR.put (v := 0) (a := 4) (p := i) (e := 18 + i) (by rw [(ec_raw (by omega)).1]) (by rw [(ec_raw (by omega)).2]) (by omega) (by omega)
    rw [zr_s] at hR'
    have hF' : FrD M0 (setI M 4 i 0) := hF.set (by omega)
    have e1 : cn N (i + 1) = cn N i + (if N (18 + i) = 0 then 0 else 1) := rfl
    rw [eX1_clearRaw_9]
    simp only [eX1_clearRaw_0, eX1_clearRaw_1, eX1_clearRaw_2, eX1_clearRaw_3, eX1_clearRaw_6, eX1_clearRaw_7, eX1_clearRaw_8, eX1_clearRaw_10, eX1_clearRaw_11, eX1_clearRaw_14, eX1_clearRaw_15, eX1_clearRaw_18, eX1_clearRaw_19, eX1_clearRaw_20, eX1_clearRaw_23, eX1_clearRaw_26, eX1_clearRaw_27, eX1_clearRaw_30, eX1_clearRaw_31, eX1_clearRaw_32, eX1_clearRaw_33, eX1_clearRaw_36, eX1_clearRaw_39, eX1_clearRaw_40, eX1_clearRaw_in, h1, h2, h3, h4, nI_1, Option.toList_some, Option.toList_none, List.cons_append, List.nil_append, b2_0, Classical.not_not, false_implies, true_implies, implies_true, true_and, and_true, not_true_eq_false, not_false_eq_true]
    refine ⟨fun z => ?_, fun z => ?_⟩
    · have := ih (i + 1) _ (by omega) hF' hR'
      rw [e1, if_pos z] at this
      exact this
    · have := ih (i + 1) _ (by omega) hF' hR'
      rw [e1, if_neg z] at this
      exact this
theorem c_clearRaw {Q : Qt} {M : Mm} {N : Nat → Int32} {R C c t T P D L : Nat} (hR : Re M.1 1 N) (g : Gd N R C c t T P D L) (hQ : ∀ M', FrD M M' → Re M'.1 1 (zr N (R * C)) → Q (some (.int (nI (cn N (R * C))))) M') : kX1_clearRaw [.ref 3] M Q := by
  obtain ⟨⟨⟨r1, r2⟩, ⟨c1, c2⟩, -, -⟩, -, ⟨n0, n1, -⟩, -⟩ := id g
  have e30 : M.1 3 0 = nI R := (hR.lo (k := 0) (by omega)).trans n0
  have e31 : M.1 3 1 = nI C := (hR.lo (k := 1) (by omega)).trans n1
  simp only [eX1_clearRaw_0, eX1_clearRaw_1, eX1_clearRaw_2, eX1_clearRaw_3, eX1_clearRaw_6, eX1_clearRaw_7, eX1_clearRaw_8, eX1_clearRaw_10, eX1_clearRaw_11, eX1_clearRaw_14, eX1_clearRaw_15, eX1_clearRaw_18, eX1_clearRaw_19, eX1_clearRaw_20, eX1_clearRaw_23, eX1_clearRaw_26, eX1_clearRaw_27, eX1_clearRaw_30, eX1_clearRaw_31, eX1_clearRaw_32, eX1_clearRaw_33, eX1_clearRaw_36, eX1_clearRaw_39, eX1_clearRaw_40, eX1_clearRaw_in, q_cells, e30, e31, pk_mul, Option.toList_some, Option.toList_none, List.cons_append, List.nil_append, b2_0, Classical.not_not, false_implies, true_implies, implies_true, true_and, and_true, not_true_eq_false, not_false_eq_true]
  exact l_clearRaw (rc_le r2 c2) hQ (R * C) 0 M (by omega) FrD.rf (by rw [zr_0]; exact hR)
theorem l_wipe {Q : Qt} {M0 : Mm} {N : Nat → Int32} {R C : Nat} (h0 : N 0 = nI R) (h1 : N 1 = nI C) (hn : R * C ≤ 64) (hQ : ∀ M', FrN M0 M' → M'.1 52 = zr N (R * C) → Q (some (.int (nI (cn N (R * C))))) M') : ∀ (d i : Nat) (M : Mm), i + d = R * C → FrN M0 M → M.1 52 = zr N i → V pgX7_wipe Q 4 [.ref 51, .int (nI (cn N i)), .int (nI i)] [] M := by
  intro d
  have z0 : ∀ i, zr N i 0 = nI R := fun i => by simp only [zr]; rw [if_neg (by omega)]; exact h0
  have z1 : ∀ i, zr N i 1 = nI C := fun i => by simp only [zr]; rw [if_neg (by omega)]; exact h1
  induction d with
  | zero =>
    intro i M hi hF hR
    have h1 : nI (R * C) ≤ nI i := nI_le (by omega) (by omega)
    have : i = R * C := by omega
    rw [eX7_wipe_4]
    simp only [eX7_wipe_0, eX7_wipe_1, eX7_wipe_2, eX7_wipe_3, eX7_wipe_5, eX7_wipe_6, eX7_wipe_9, eX7_wipe_12, eX7_wipe_13, eX7_wipe_14, eX7_wipe_17, eX7_wipe_19, eX7_wipe_20, eX7_wipe_21, eX7_wipe_22, eX7_wipe_25, eX7_wipe_26, eX7_wipe_29, eX7_wipe_30, eX7_wipe_31, eX7_wipe_32, eX7_wipe_33, eX7_wipe_36, eX7_wipe_38, eX7_wipe_39, eX7_wipe_40, eX7_wipe_41, eX7_wipe_42, eX7_wipe_45, eX7_wipe_48, eX7_wipe_49, eX7_wipe_in, q_mcells, hR, z0, z1, pk_mul, h1, Option.toList_some, Option.toList_none, List.cons_append, List.nil_append, b2_0, Classical.not_not, false_implies, true_implies, implies_true, true_and, and_true, not_true_eq_false, not_false_eq_true]
    subst this
    exact hQ M hF hR
  | succ d ih =>
    intro i M hi hF hR
    have h1 : ¬ nI (R * C) ≤ nI i := nI_ge (by omega) (by omega)
    have h2 : (nI (18 + i)).toNatClampNeg = 18 + i := nI_clamp (by omega)
    have h3 : vp_in (nI (18 + i)) 316 := vpn (by omega) (by decide)
    have h4 : zr N i (18 + i) = N (18 + i) := zr_at N i
    have hR' : (setI M 52 (18 + i) 0).1 52 = zr N (i + 1) := by rw [setI_at, hR, zr_s]
    have hF' : FrN M0 (setI M 52 (18 + i) 0) := hF.set (by omega)
    have e1 : cn N (i + 1) = cn N i + (if N (18 + i) = 0 then 0 else 1) := rfl
    have e2 : nI (cn N i) + 0 = nI (cn N i) := nI_add (cn N i) 0
    rw [eX7_wipe_4]
    simp only [eX7_wipe_0, eX7_wipe_1, eX7_wipe_2, eX7_wipe_3, eX7_wipe_5, eX7_wipe_6, eX7_wipe_9, eX7_wipe_12, eX7_wipe_13, eX7_wipe_14, eX7_wipe_17, eX7_wipe_19, eX7_wipe_20, eX7_wipe_21, eX7_wipe_22, eX7_wipe_25, eX7_wipe_26, eX7_wipe_29, eX7_wipe_30, eX7_wipe_31, eX7_wipe_32, eX7_wipe_33, eX7_wipe_36, eX7_wipe_38, eX7_wipe_39, eX7_wipe_40, eX7_wipe_41, eX7_wipe_42, eX7_wipe_45, eX7_wipe_48, eX7_wipe_49, eX7_wipe_in, q_mcells, hR, z0, z1, pk_mul, a18, h1, h2, h3, h4, nI_1, e2, Option.toList_some, Option.toList_none, List.cons_append, List.nil_append, b2_0, Classical.not_not, false_implies, true_implies, implies_true, true_and, and_true, not_true_eq_false, not_false_eq_true]
    refine ⟨fun z => ?_, fun z => ?_⟩
    · have := ih (i + 1) _ (by omega) hF' hR'
      rw [e1, if_pos z] at this
      exact this
    · have := ih (i + 1) _ (by omega) hF' hR'
      rw [e1, if_neg z] at this
      exact this
theorem m_wipe {Q : Qt} {M : Mm} {N : Nat → Int32} {R C c t T P D L : Nat} (hN : M.1 52 = N) (g : Gd N R C c t T P D L) (hQ : ∀ M', FrN M M' → M'.1 52 = zr N (R * C) → Q (some (.int (nI (cn N (R * C))))) M') : kX7_wipe [.ref 51] M Q := by
  obtain ⟨⟨⟨r1, r2⟩, ⟨c1, c2⟩, -, -⟩, -, ⟨n0, n1, -⟩, -⟩ := id g
  simp only [eX7_wipe_0, eX7_wipe_1, eX7_wipe_2, eX7_wipe_3, eX7_wipe_5, eX7_wipe_6, eX7_wipe_9, eX7_wipe_12, eX7_wipe_13, eX7_wipe_14, eX7_wipe_17, eX7_wipe_19, eX7_wipe_20, eX7_wipe_21, eX7_wipe_22, eX7_wipe_25, eX7_wipe_26, eX7_wipe_29, eX7_wipe_30, eX7_wipe_31, eX7_wipe_32, eX7_wipe_33, eX7_wipe_36, eX7_wipe_38, eX7_wipe_39, eX7_wipe_40, eX7_wipe_41, eX7_wipe_42, eX7_wipe_45, eX7_wipe_48, eX7_wipe_49, eX7_wipe_in, Option.toList_some, Option.toList_none, List.cons_append, List.nil_append, b2_0, Classical.not_not, false_implies, true_implies, implies_true, true_and, and_true, not_true_eq_false, not_false_eq_true]
  exact l_wipe n0 n1 (rc_le r2 c2) hQ (R * C) 0 M (by omega) FrN.rf (by rw [zr_0]; exact hN)
theorem step_wipe {M : Mm} (hI : Inv M) : StepI kX6_wipe kX7_wipe [] M := by
  obtain ⟨⟨hR, R, C, cc, t, T, P, D, L, g⟩, -⟩ := id hI
  obtain ⟨⟨⟨r1, r2⟩, ⟨c1, c2⟩, hcc, htt⟩, ⟨⟨t1, t2⟩, ⟨p1, p2⟩, hD, hL⟩, ⟨n0, n1, n2, n3, n4, n5, n8, n10⟩, hF, hSt, hs, hw, hraw, hgr, hpk, hcon, htr⟩ := id g
  have e30 : M.1 3 0 = nI R := (hR.lo (k := 0) (by omega)).trans n0
  have e31 : M.1 3 1 = nI C := (hR.lo (k := 1) (by omega)).trans n1
  have e81 : M.1 8 1 = nI cc := (hR.lo (k := 8) (by omega)).trans n8
  have e105 : M.1 10 5 = nI t := (hR.lo (k := 10) (by omega)).trans n10
  refine combI hI qX6_wipe qX7_wipe (zr (M.1 52) (R * C)) (nI (cn (M.1 52) (R * C))) ⟨R, C, cc, t, T, P, D, L, g.zro _ (rc_le r2 c2)⟩ (fun Q h => ?_) (fun M1 Q hM h => ?_)
  · simp only [eX6_wipe_0, eX6_wipe_1, eX6_wipe_4, eX6_wipe_7, eX6_wipe_10, eX6_wipe_in]
    refine c_clearRaw hR g (fun M' f r => ?_)
    simp only [eX6_wipe_0, eX6_wipe_1, eX6_wipe_4, eX6_wipe_7, eX6_wipe_10, eX6_wipe_in, Option.toList_some, Option.toList_none, List.cons_append, List.nil_append, b2_0, Classical.not_not, false_implies, true_implies, implies_true, true_and, and_true, not_true_eq_false, not_false_eq_true]
    exact h M' f.1 r
  · exact m_wipe hM g (fun M' f r => h M' f.1 r)
theorem step_named {M : Mm} (hI : Inv M) (x : Int32) : StepI kX6_named kX7_named [.int x] M := by
  obtain ⟨⟨hR, R, C, cc, t, T, P, D, L, g⟩, -⟩ := id hI
  obtain ⟨⟨⟨r1, r2⟩, ⟨c1, c2⟩, hcc, htt⟩, ⟨⟨t1, t2⟩, ⟨p1, p2⟩, hD, hL⟩, ⟨n0, n1, n2, n3, n4, n5, n8, n10⟩, hF, hSt, hs, hw, hraw, hgr, hpk, hcon, htr⟩ := id g
  have e30 : M.1 3 0 = nI R := (hR.lo (k := 0) (by omega)).trans n0
  have e31 : M.1 3 1 = nI C := (hR.lo (k := 1) (by omega)).trans n1
  have e81 : M.1 8 1 = nI cc := (hR.lo (k := 8) (by omega)).trans n8
  have e105 : M.1 10 5 = nI t := (hR.lo (k := 10) (by omega)).trans n10
  obtain ⟨F, f1, f2, nx, f3, f4, y, f5, f6⟩ := hF
  have rd : ∀ i, i < t → M.1 11 i = nI (y i) := fun i hi => (hR.trk (j := i) (w := 0) hi (by omega) htt n10).trans (f5 i hi).1
  have hy : ∀ i, i < t → y i < 2147483648 := fun i hi => by have := (f5 i hi).2; omega
  by_cases hx : ∃ j, j < t ∧ x = nI (y j)
  · obtain ⟨j, hj, rfl⟩ := hx
    refine combN hI qX6_named qX7_named (nI j) (fun Q h => ?_) (fun M1 Q hM h => ?_)
    · have lp : ∀ d i, i + d = j → V pgX6_named Q 2 [.ref 0, .int (nI (y j)), .int (nI i)] [] M := by
        intro d
        induction d with
        | zero =>
          intro i hi
          have : i = j := by omega
          subst this
          rw [eX6_named_2]
          simp only [eX6_named_0, eX6_named_1, eX6_named_3, eX6_named_4, eX6_named_7, eX6_named_10, eX6_named_13, eX6_named_16, eX6_named_17, eX6_named_20, eX6_named_23, eX6_named_26, eX6_named_27, eX6_named_28, eX6_named_29, eX6_named_32, eX6_named_33, eX6_named_34, eX6_named_37, eX6_named_40, eX6_named_41, eX6_named_in, e105, nI_ge hj (show t < 2 ^ 31 by omega), nI_clamp (show i < 2 ^ 31 by omega), vpn (show i < 6 by omega) (by decide : 6 < 2147483648), rd i hj, Option.toList_some, Option.toList_none, List.cons_append, List.nil_append, b2_0, Classical.not_not, false_implies, true_implies, implies_true, true_and, and_true, not_true_eq_false, not_false_eq_true]
          exact h
        | succ d ih =>
          intro i hi
          have ne : ¬ nI (y i) = nI (y j) := fun z => by
            have := (nI_eq (hy i (by omega)) (hy j hj)).mp z
            have := f6 i j (by omega) hj
            omega
          rw [eX6_named_2]
          simp only [eX6_named_0, eX6_named_1, eX6_named_3, eX6_named_4, eX6_named_7, eX6_named_10, eX6_named_13, eX6_named_16, eX6_named_17, eX6_named_20, eX6_named_23, eX6_named_26, eX6_named_27, eX6_named_28, eX6_named_29, eX6_named_32, eX6_named_33, eX6_named_34, eX6_named_37, eX6_named_40, eX6_named_41, eX6_named_in, e105, nI_ge (show i < t by omega) (show t < 2 ^ 31 by omega), nI_clamp (show i < 2 ^ 31 by omega), vpn (show i < 6 by omega) (by decide : 6 < 2147483648), rd i (by omega), ne, nI_1, Option.toList_some, Option.toList_none, List.cons_append, List.nil_append, b2_0, Classical.not_not, false_implies, true_implies, implies_true, true_and, and_true, not_true_eq_false, not_false_eq_true]
          exact ih (i + 1) (by omega)
      simp only [eX6_named_0, eX6_named_1, eX6_named_3, eX6_named_4, eX6_named_7, eX6_named_10, eX6_named_13, eX6_named_16, eX6_named_17, eX6_named_20, eX6_named_23, eX6_named_26, eX6_named_27, eX6_named_28, eX6_named_29, eX6_named_32, eX6_named_33, eX6_named_34, eX6_named_37, eX6_named_40, eX6_named_41, eX6_named_in, Option.toList_some, Option.toList_none, List.cons_append, List.nil_append, b2_0, Classical.not_not, false_implies, true_implies, implies_true, true_and, and_true, not_true_eq_false, not_false_eq_true]
      exact lp j 0 (by omega)
    · have lp : ∀ d i wh, i + d = t → (i ≤ j ∨ wh = nI j) → V pgX7_named Q 4 [.ref 51, .int (nI (y j)), .int wh, .int (nI i)] [] M1 := by
        intro d
        induction d with
        | zero =>
          intro i wh hi hz
          have : i = t := by omega
          subst this
          have hz : wh = nI j := by rcases hz with z | z <;> first | exact z | omega
          subst hz
          rw [eX7_named_4]
          simp only [eX7_named_0, eX7_named_1, eX7_named_2, eX7_named_3, eX7_named_5, eX7_named_6, eX7_named_9, eX7_named_11, eX7_named_12, eX7_named_15, eX7_named_16, eX7_named_17, eX7_named_18, eX7_named_21, eX7_named_22, eX7_named_25, eX7_named_26, eX7_named_29, eX7_named_30, eX7_named_31, eX7_named_34, eX7_named_37, eX7_named_38, eX7_named_in, hM, v10, tn_10, n10, Int32.le_refl, Option.toList_some, Option.toList_none, List.cons_append, List.nil_append, b2_0, Classical.not_not, false_implies, true_implies, implies_true, true_and, and_true, not_true_eq_false, not_false_eq_true]
          exact h
        | succ d ih =>
          intro i wh hi hz
          rw [eX7_named_4]
          simp only [eX7_named_0, eX7_named_1, eX7_named_2, eX7_named_3, eX7_named_5, eX7_named_6, eX7_named_9, eX7_named_11, eX7_named_12, eX7_named_15, eX7_named_16, eX7_named_17, eX7_named_18, eX7_named_21, eX7_named_22, eX7_named_25, eX7_named_26, eX7_named_29, eX7_named_30, eX7_named_31, eX7_named_34, eX7_named_37, eX7_named_38, eX7_named_in, q_trackAt, hM, v10, tn_10, n10, nI_ge (show i < t by omega) (show t < 2 ^ 31 by omega), m6, a280, show ((0 : Int32)) = nI 0 from rfl, nI_add, Nat.add_zero, nI_clamp (show 280 + 6 * i < 2 ^ 31 by omega), vpn (show 280 + 6 * i < 316 by omega) (by decide : 316 < 2147483648), (f5 i (by omega)).1, nI_1, Option.toList_some, Option.toList_none, List.cons_append, List.nil_append, b2_0, Classical.not_not, false_implies, true_implies, implies_true, true_and, and_true, not_true_eq_false, not_false_eq_true]
          by_cases hij : i = j
          · subst hij
            exact ⟨fun z => absurd rfl z, fun _ => ih (i + 1) _ (by omega) (Or.inr rfl)⟩
          · have ne : ¬ nI (y i) = nI (y j) := fun z => by
              have := (nI_eq (hy i (by omega)) (hy j hj)).mp z
              rcases Nat.lt_or_gt_of_ne hij with q | q
              · have := f6 i j q hj
                omega
              · have := f6 j i q (by omega)
                omega
            exact ⟨fun _ => ih (i + 1) _ (by omega) (by rcases hz with z | z <;> first | (left; omega) | (right; exact z)), fun z => absurd z ne⟩
      simp only [eX7_named_0, eX7_named_1, eX7_named_2, eX7_named_3, eX7_named_5, eX7_named_6, eX7_named_9, eX7_named_11, eX7_named_12, eX7_named_15, eX7_named_16, eX7_named_17, eX7_named_18, eX7_named_21, eX7_named_22, eX7_named_25, eX7_named_26, eX7_named_29, eX7_named_30, eX7_named_31, eX7_named_34, eX7_named_37, eX7_named_38, eX7_named_in, Option.toList_some, Option.toList_none, List.cons_append, List.nil_append, b2_0, Classical.not_not, false_implies, true_implies, implies_true, true_and, and_true, not_true_eq_false, not_false_eq_true]
      exact lp t 0 _ (by omega) (Or.inl (by omega))
  · have ne : ∀ i, i < t → ¬ nI (y i) = x := fun i hi z => hx ⟨i, hi, z.symm⟩
    refine combN hI qX6_named qX7_named (-1) (fun Q h => ?_) (fun M1 Q hM h => ?_)
    · have lp : ∀ d i, i + d = t → V pgX6_named Q 2 [.ref 0, .int x, .int (nI i)] [] M := by
        intro d
        induction d with
        | zero =>
          intro i hi
          have : i = t := by omega
          subst this
          rw [eX6_named_2]
          simp only [eX6_named_0, eX6_named_1, eX6_named_3, eX6_named_4, eX6_named_7, eX6_named_10, eX6_named_13, eX6_named_16, eX6_named_17, eX6_named_20, eX6_named_23, eX6_named_26, eX6_named_27, eX6_named_28, eX6_named_29, eX6_named_32, eX6_named_33, eX6_named_34, eX6_named_37, eX6_named_40, eX6_named_41, eX6_named_in, e105, Int32.le_refl, Option.toList_some, Option.toList_none, List.cons_append, List.nil_append, b2_0, Classical.not_not, false_implies, true_implies, implies_true, true_and, and_true, not_true_eq_false, not_false_eq_true]
          exact h
        | succ d ih =>
          intro i hi
          rw [eX6_named_2]
          simp only [eX6_named_0, eX6_named_1, eX6_named_3, eX6_named_4, eX6_named_7, eX6_named_10, eX6_named_13, eX6_named_16, eX6_named_17, eX6_named_20, eX6_named_23, eX6_named_26, eX6_named_27, eX6_named_28, eX6_named_29, eX6_named_32, eX6_named_33, eX6_named_34, eX6_named_37, eX6_named_40, eX6_named_41, eX6_named_in, e105, nI_ge (show i < t by omega) (show t < 2 ^ 31 by omega), nI_clamp (show i < 2 ^ 31 by omega), vpn (show i < 6 by omega) (by decide : 6 < 2147483648), rd i (by omega), ne i (by omega), nI_1, Option.toList_some, Option.toList_none, List.cons_append, List.nil_append, b2_0, Classical.not_not, false_implies, true_implies, implies_true, true_and, and_true, not_true_eq_false, not_false_eq_true]
          exact ih (i + 1) (by omega)
      simp only [eX6_named_0, eX6_named_1, eX6_named_3, eX6_named_4, eX6_named_7, eX6_named_10, eX6_named_13, eX6_named_16, eX6_named_17, eX6_named_20, eX6_named_23, eX6_named_26, eX6_named_27, eX6_named_28, eX6_named_29, eX6_named_32, eX6_named_33, eX6_named_34, eX6_named_37, eX6_named_40, eX6_named_41, eX6_named_in, Option.toList_some, Option.toList_none, List.cons_append, List.nil_append, b2_0, Classical.not_not, false_implies, true_implies, implies_true, true_and, and_true, not_true_eq_false, not_false_eq_true]
      exact lp t 0 (by omega)
    · have lp : ∀ d i, i + d = t → V pgX7_named Q 4 [.ref 51, .int x, .int (-1), .int (nI i)] [] M1 := by
        intro d
        induction d with
        | zero =>
          intro i hi
          have : i = t := by omega
          subst this
          rw [eX7_named_4]
          simp only [eX7_named_0, eX7_named_1, eX7_named_2, eX7_named_3, eX7_named_5, eX7_named_6, eX7_named_9, eX7_named_11, eX7_named_12, eX7_named_15, eX7_named_16, eX7_named_17, eX7_named_18, eX7_named_21, eX7_named_22, eX7_named_25, eX7_named_26, eX7_named_29, eX7_named_30, eX7_named_31, eX7_named_34, eX7_named_37, eX7_named_38, eX7_named_in, hM, v10, tn_10, n10, Int32.le_refl, Option.toList_some, Option.toList_none, List.cons_append, List.nil_append, b2_0, Classical.not_not, false_implies, true_implies, implies_true, true_and, and_true, not_true_eq_false, not_false_eq_true]
          exact h
        | succ d ih =>
          intro i hi
          rw [eX7_named_4]
          simp only [eX7_named_0, eX7_named_1, eX7_named_2, eX7_named_3, eX7_named_5, eX7_named_6, eX7_named_9, eX7_named_11, eX7_named_12, eX7_named_15, eX7_named_16, eX7_named_17, eX7_named_18, eX7_named_21, eX7_named_22, eX7_named_25, eX7_named_26, eX7_named_29, eX7_named_30, eX7_named_31, eX7_named_34, eX7_named_37, eX7_named_38, eX7_named_in, q_trackAt, hM, v10, tn_10, n10, nI_ge (show i < t by omega) (show t < 2 ^ 31 by omega), m6, a280, show ((0 : Int32)) = nI 0 from rfl, nI_add, Nat.add_zero, nI_clamp (show 280 + 6 * i < 2 ^ 31 by omega), vpn (show 280 + 6 * i < 316 by omega) (by decide : 316 < 2147483648), (f5 i (by omega)).1, ne i (by omega), nI_1, Option.toList_some, Option.toList_none, List.cons_append, List.nil_append, b2_0, Classical.not_not, false_implies, true_implies, implies_true, true_and, and_true, not_true_eq_false, not_false_eq_true]
          exact ih (i + 1) (by omega)
      simp only [eX7_named_0, eX7_named_1, eX7_named_2, eX7_named_3, eX7_named_5, eX7_named_6, eX7_named_9, eX7_named_11, eX7_named_12, eX7_named_15, eX7_named_16, eX7_named_17, eX7_named_18, eX7_named_21, eX7_named_22, eX7_named_25, eX7_named_26, eX7_named_29, eX7_named_30, eX7_named_31, eX7_named_34, eX7_named_37, eX7_named_38, eX7_named_in, Option.toList_some, Option.toList_none, List.cons_append, List.nil_append, b2_0, Classical.not_not, false_implies, true_implies, implies_true, true_and, and_true, not_true_eq_false, not_false_eq_true]
      exact lp t 0 (by omega)
