theorem up5_s {A : Nat → Int32} {i : Nat} {s p g tc ms : Int32} : Up5 A i s p g tc ms (146 + i) = s := by simp [Up5]
theorem up5_p {A : Nat → Int32} {i : Nat} {s p g tc ms : Int32} : Up5 A i s p g tc ms (210 + i) = p := by simp [Up5]
theorem up5_g {A : Nat → Int32} {i : Nat} {s p g tc ms : Int32} : Up5 A i s p g tc ms (82 + i) = g := by simp [Up5]
theorem nI_nm1 {k : Nat} (h : k < 2147483648) : ¬ (nI k = -1) := by
  intro z
  have := congrArg Int32.toInt z
  rw [nI_toInt h, show (-1 : Int32).toInt = -1 by decide] at this
  omega
theorem c_readRow {Q : Qt} {M0 : Mm} {N : Nat → Int32} {R C cc tt T P D L s r c t : Nat} (g : Gd N R C cc tt T P D L) (hr : r < R) (hQ : ∀ M', FrD M0 M' → RV M'.1 1 c t (rdN N R C s T (r * C + C)) → Q none M') (hl : ¬ s.testBit r = true) {M : Mm} (hF0 : FrD M0 M) (hR0 : RV M.1 1 c t (rdN N R C s T (r * C))) : kX1_readRow [.ref 3, .int (nI r), .int (nI (16 * T))] M Q := by
  obtain ⟨⟨⟨r1, r2⟩, ⟨c1, c2⟩, -, -⟩, ⟨⟨t1, t2⟩, -⟩, ⟨n0, n1, n2, n3, n4, n5, n8, n10⟩, -, -, -, -, hraw, hgr, -⟩ := id g
  have h64 := rc_le r2 c2
  have s8 := pow_R r2
  have hrC : (r + 1) * C ≤ R * C := Nat.mul_le_mul_right C (by omega)
  rw [Nat.add_mul, Nat.one_mul] at hrC
  have zz : ∀ x : Int32, x + 0 = x := fun x => by simp
  have h16 : ¬ ((16 : Int32) = 0) := by decide
  have h20 : ¬ ((2 : Int32) = 0) := by decide
  have lp : ∀ d q (M1 : Mm), q + d = C → FrD M0 M1 → RV M1.1 1 c t (rdN N R C s T (r * C + q)) → V pgX1_readRow Q 18 [.ref 3, .int (nI r), .int (nI (16 * T)), .int (nI (r * C + C)), .int (nI (r * C + q))] [] M1 := by
    intro d
    induction d with
    | zero =>
      intro q M1 hq hF hR
      have : q = C := by omega
      subst this
      rw [eX1_readRow_18]
      simp only [eX1_readRow_0, eX1_readRow_1, eX1_readRow_2, eX1_readRow_3, eX1_readRow_6, eX1_readRow_9, eX1_readRow_10, eX1_readRow_11, eX1_readRow_12, eX1_readRow_13, eX1_readRow_16, eX1_readRow_20, eX1_readRow_21, eX1_readRow_24, eX1_readRow_25, eX1_readRow_27, eX1_readRow_29, eX1_readRow_30, eX1_readRow_33, eX1_readRow_35, eX1_readRow_36, eX1_readRow_37, eX1_readRow_38, eX1_readRow_41, eX1_readRow_42, eX1_readRow_44, eX1_readRow_47, eX1_readRow_50, eX1_readRow_51, eX1_readRow_54, eX1_readRow_56, eX1_readRow_57, eX1_readRow_58, eX1_readRow_59, eX1_readRow_62, eX1_readRow_64, eX1_readRow_65, eX1_readRow_67, eX1_readRow_68, eX1_readRow_69, eX1_readRow_70, eX1_readRow_73, eX1_readRow_76, eX1_readRow_in, Int32.le_refl, Option.toList_some, Option.toList_none, List.cons_append, List.nil_append, b2_0, Classical.not_not, false_implies, true_implies, implies_true, true_and, and_true, not_true_eq_false, not_false_eq_true]
      exact hQ M1 hF hR
    | succ d ih =>
      intro q M1 hq hF hR
      have hi : r * C + q < R * C := by omega
      have hdiv : (r * C + q) / C = r := (dm (show q < C by omega)).1
      have nx : ∀ M2 : Mm, FrD M0 M2 → RV M2.1 1 c t (rdN N R C s T (r * C + q + 1)) → V pgX1_readRow Q 18 [.ref 3, .int (nI r), .int (nI (16 * T)), .int (nI (r * C + C)), .int (nI (r * C + (q + 1)))] [] M2 := fun M2 => ih (q + 1) M2 (by omega)
      have hge : ¬ (nI (r * C + C) ≤ nI (r * C + q)) := nI_ge (by omega) (by omega)
      have e1 : nI (r * C + q) + 1 = nI (r * C + (q + 1)) := by rw [nI_1, Nat.add_assoc]
      generalize hii : r * C + q = i at *
      have lw : ∀ j, j ≠ 15 → j ≠ 16 → j < 82 ∨ j = 82 + i → rdN N R C s T i j = N j := fun j z1 z2 z3 => rdN_low i j z1 z2 (fun q hq => by omega)
      have a82' := lw (82 + i) (by omega) (by omega) (by omega)
      have a1 := (lw 1 (by omega) (by omega) (by omega)).trans n1
      have e31 : M1.1 3 1 = nI C := (hR.lo (k := 1) (by omega)).trans a1
      have e4 : ∀ k, k < 64 → M1.1 4 k = N (18 + k) := fun k hk => (hR.raw hk).trans (lw (18 + k) (by omega) (by omega) (by omega))
      obtain ⟨y, y1, y2⟩ := hgr i (by omega)
      have cl : (nI i).toNatClampNeg = i := nI_clamp (by omega)
      have vp : vp_in (nI i) 64 := vpn (by omega) (by decide)
      rw [eX1_readRow_18]
      obtain ⟨x, x1, x2⟩ := hraw i (by omega)
      have hl' : ¬ s.testBit (i / C) = true := by rw [hdiv]; exact hl
      have hrd : rdF N R C s i = some (16 * x) := by rw [rdF_0 hl', x2, nI_clamp (by omega)]
      have hsg : sgF N R C s i = nI (16 * x) - rdN N R C s T i (82 + i) := by simp only [sgF, hrd, a82']
      have e16 : (16 : Int32) * nI x = nI (16 * x) := pk_mul 16 x
      simp only [eX1_readRow_0, eX1_readRow_1, eX1_readRow_2, eX1_readRow_3, eX1_readRow_6, eX1_readRow_9, eX1_readRow_10, eX1_readRow_11, eX1_readRow_12, eX1_readRow_13, eX1_readRow_16, eX1_readRow_20, eX1_readRow_21, eX1_readRow_24, eX1_readRow_25, eX1_readRow_27, eX1_readRow_29, eX1_readRow_30, eX1_readRow_33, eX1_readRow_35, eX1_readRow_36, eX1_readRow_37, eX1_readRow_38, eX1_readRow_41, eX1_readRow_42, eX1_readRow_44, eX1_readRow_47, eX1_readRow_50, eX1_readRow_51, eX1_readRow_54, eX1_readRow_56, eX1_readRow_57, eX1_readRow_58, eX1_readRow_59, eX1_readRow_62, eX1_readRow_64, eX1_readRow_65, eX1_readRow_67, eX1_readRow_68, eX1_readRow_69, eX1_readRow_70, eX1_readRow_73, eX1_readRow_76, eX1_readRow_in, hge, cl, vp, e4 i (by omega), x2, e16, Option.toList_some, Option.toList_none, List.cons_append, List.nil_append, b2_0, Classical.not_not, false_implies, true_implies, implies_true, true_and, and_true, not_true_eq_false, not_false_eq_true]
      refine c_feel hF hR (by omega) (fun z M2 F2 R2 => ?_) (fun z M2 F2 R2 => ?_)
      · have htc : tcP N R C s T i := ⟨by rw [hrd]; rfl, by rw [hsg]; exact z⟩
        have p7 : M2.1 7 i = nI i := (R2.peak (by omega)).trans up5_p
        simp only [eX1_readRow_0, eX1_readRow_1, eX1_readRow_2, eX1_readRow_3, eX1_readRow_6, eX1_readRow_9, eX1_readRow_10, eX1_readRow_11, eX1_readRow_12, eX1_readRow_13, eX1_readRow_16, eX1_readRow_20, eX1_readRow_21, eX1_readRow_24, eX1_readRow_25, eX1_readRow_27, eX1_readRow_29, eX1_readRow_30, eX1_readRow_33, eX1_readRow_35, eX1_readRow_36, eX1_readRow_37, eX1_readRow_38, eX1_readRow_41, eX1_readRow_42, eX1_readRow_44, eX1_readRow_47, eX1_readRow_50, eX1_readRow_51, eX1_readRow_54, eX1_readRow_56, eX1_readRow_57, eX1_readRow_58, eX1_readRow_59, eX1_readRow_62, eX1_readRow_64, eX1_readRow_65, eX1_readRow_67, eX1_readRow_68, eX1_readRow_69, eX1_readRow_70, eX1_readRow_73, eX1_readRow_76, eX1_readRow_in, q_isTouched, cl, vp, p7, nI_nm1 (show i < 2147483648 by omega), e1, Option.toList_some, Option.toList_none, List.cons_append, List.nil_append, b2_0, Classical.not_not, false_implies, true_implies, implies_true, true_and, and_true, not_true_eq_false, not_false_eq_true]
        refine nx M2 F2 ?_
        rw [← rdN_s hsg.symm (show nI i = _ by rw [if_pos htc]) (show rdN N R C s T i (82 + i) = _ by rw [if_neg (fun z => z.1 htc)]; exact a82') (show rdN N R C s T i 15 + 1 = _ by rw [if_pos htc]) (show rdN N R C s T i 16 = _ by rw [hrd]; exact (zz _).symm)]
        exact R2
      · have htc : ¬ tcP N R C s T i := fun u => u.2 (by rw [hsg]; exact z)
        have p7 : M2.1 7 i = -1 := (R2.peak (by omega)).trans up5_p
        have p6 : M2.1 6 i = nI (16 * x) - rdN N R C s T i (82 + i) := (R2.signal (by omega)).trans up5_s
        have p5 : M2.1 5 i = rdN N R C s T i (82 + i) := (R2.ground (by omega)).trans up5_g
        simp only [eX1_readRow_0, eX1_readRow_1, eX1_readRow_2, eX1_readRow_3, eX1_readRow_6, eX1_readRow_9, eX1_readRow_10, eX1_readRow_11, eX1_readRow_12, eX1_readRow_13, eX1_readRow_16, eX1_readRow_20, eX1_readRow_21, eX1_readRow_24, eX1_readRow_25, eX1_readRow_27, eX1_readRow_29, eX1_readRow_30, eX1_readRow_33, eX1_readRow_35, eX1_readRow_36, eX1_readRow_37, eX1_readRow_38, eX1_readRow_41, eX1_readRow_42, eX1_readRow_44, eX1_readRow_47, eX1_readRow_50, eX1_readRow_51, eX1_readRow_54, eX1_readRow_56, eX1_readRow_57, eX1_readRow_58, eX1_readRow_59, eX1_readRow_62, eX1_readRow_64, eX1_readRow_65, eX1_readRow_67, eX1_readRow_68, eX1_readRow_69, eX1_readRow_70, eX1_readRow_73, eX1_readRow_76, eX1_readRow_in, q_isTouched, cl, vp, p7, p6, p5, h16, e1, Option.toList_some, Option.toList_none, List.cons_append, List.nil_append, b2_0, Classical.not_not, false_implies, true_implies, implies_true, true_and, and_true, not_true_eq_false, not_false_eq_true]
        refine nx _ (F2.set (by omega)) ?_
        rw [← rdN_s hsg.symm (show -1 = _ by rw [if_neg htc]) (show rdN N R C s T i (82 + i) + (nI (16 * x) - rdN N R C s T i (82 + i)) / 16 = _ by rw [if_pos ⟨htc, hl'⟩, hsg, a82']) (show rdN N R C s T i 15 = _ by rw [if_neg htc, zz]) (show rdN N R C s T i 16 = _ by rw [hrd]; exact (zz _).symm), ← up_g (g := rdN N R C s T i (82 + i))]
        exact R2.pg (by omega)
  have e31 : M.1 3 1 = nI C := by
    refine (hR0.lo (k := 1) (by omega)).trans ((rdN_low _ _ (by omega) (by omega) (fun q hq => by omega)).trans n1)
  have ix1 : nI r * nI C + nI C = nI (r * C + C) := by rw [pk_mul, nI_add]
  have ix2 : nI r * nI C + 0 = nI (r * C + 0) := by rw [pk_mul]; exact nI_add _ 0
  simp only [eX1_readRow_0, eX1_readRow_1, eX1_readRow_2, eX1_readRow_3, eX1_readRow_6, eX1_readRow_9, eX1_readRow_10, eX1_readRow_11, eX1_readRow_12, eX1_readRow_13, eX1_readRow_16, eX1_readRow_20, eX1_readRow_21, eX1_readRow_24, eX1_readRow_25, eX1_readRow_27, eX1_readRow_29, eX1_readRow_30, eX1_readRow_33, eX1_readRow_35, eX1_readRow_36, eX1_readRow_37, eX1_readRow_38, eX1_readRow_41, eX1_readRow_42, eX1_readRow_44, eX1_readRow_47, eX1_readRow_50, eX1_readRow_51, eX1_readRow_54, eX1_readRow_56, eX1_readRow_57, eX1_readRow_58, eX1_readRow_59, eX1_readRow_62, eX1_readRow_64, eX1_readRow_65, eX1_readRow_67, eX1_readRow_68, eX1_readRow_69, eX1_readRow_70, eX1_readRow_73, eX1_readRow_76, eX1_readRow_in, q_at, e31, ix1, ix2, Option.toList_some, Option.toList_none, List.cons_append, List.nil_append, b2_0, Classical.not_not, false_implies, true_implies, implies_true, true_and, and_true, not_true_eq_false, not_false_eq_true]
  exact lp C 0 M (by omega) hF0 hR0
theorem c_bridgeRow {Q : Qt} {M0 : Mm} {N : Nat → Int32} {R C cc tt T P D L s r c t : Nat} (g : Gd N R C cc tt T P D L) (hr : r < R) (hQ : ∀ M', FrD M0 M' → RV M'.1 1 c t (rdN N R C s T (r * C + C)) → Q none M') (hl : s.testBit r = true) (hb : brP R s r) {M : Mm} (hF0 : FrD M0 M) (hR0 : RV M.1 1 c t (rdN N R C s T (r * C))) : kX1_bridgeRow [.ref 3, .int (nI r), .int (nI (16 * T))] M Q := by
  obtain ⟨⟨⟨r1, r2⟩, ⟨c1, c2⟩, -, -⟩, ⟨⟨t1, t2⟩, -⟩, ⟨n0, n1, n2, n3, n4, n5, n8, n10⟩, -, -, -, -, hraw, hgr, -⟩ := id g
  have h64 := rc_le r2 c2
  have s8 := pow_R r2
  have hrC : (r + 1) * C ≤ R * C := Nat.mul_le_mul_right C (by omega)
  rw [Nat.add_mul, Nat.one_mul] at hrC
  have zz : ∀ x : Int32, x + 0 = x := fun x => by simp
  have h16 : ¬ ((16 : Int32) = 0) := by decide
  have h20 : ¬ ((2 : Int32) = 0) := by decide
  have hr1 : r + 1 < R := hb.2.1
  have hr0 : 0 < r := hb.1
  have hrC2 : (r + 1 + 1) * C ≤ R * C := Nat.mul_le_mul_right C (by omega)
  rw [Nat.add_mul, Nat.add_mul, Nat.one_mul] at hrC2
  have hC1 : 1 * C ≤ r * C := Nat.mul_le_mul_right C hr0
  have lp : ∀ d q (M1 : Mm), q + d = C → FrD M0 M1 → RV M1.1 1 c t (rdN N R C s T (r * C + q)) → V pgX1_bridgeRow Q 18 [.ref 3, .int (nI r), .int (nI (16 * T)), .int (nI (r * C + C)), .int (nI (r * C + q))] [] M1 := by
    intro d
    induction d with
    | zero =>
      intro q M1 hq hF hR
      have : q = C := by omega
      subst this
      rw [eX1_bridgeRow_18]
      simp only [eX1_bridgeRow_0, eX1_bridgeRow_1, eX1_bridgeRow_2, eX1_bridgeRow_3, eX1_bridgeRow_6, eX1_bridgeRow_9, eX1_bridgeRow_10, eX1_bridgeRow_11, eX1_bridgeRow_12, eX1_bridgeRow_13, eX1_bridgeRow_16, eX1_bridgeRow_20, eX1_bridgeRow_21, eX1_bridgeRow_24, eX1_bridgeRow_25, eX1_bridgeRow_27, eX1_bridgeRow_29, eX1_bridgeRow_30, eX1_bridgeRow_33, eX1_bridgeRow_35, eX1_bridgeRow_36, eX1_bridgeRow_39, eX1_bridgeRow_40, eX1_bridgeRow_41, eX1_bridgeRow_42, eX1_bridgeRow_45, eX1_bridgeRow_47, eX1_bridgeRow_48, eX1_bridgeRow_51, eX1_bridgeRow_52, eX1_bridgeRow_53, eX1_bridgeRow_54, eX1_bridgeRow_55, eX1_bridgeRow_56, eX1_bridgeRow_57, eX1_bridgeRow_58, eX1_bridgeRow_61, eX1_bridgeRow_64, eX1_bridgeRow_67, eX1_bridgeRow_in, Int32.le_refl, Option.toList_some, Option.toList_none, List.cons_append, List.nil_append, b2_0, Classical.not_not, false_implies, true_implies, implies_true, true_and, and_true, not_true_eq_false, not_false_eq_true]
      exact hQ M1 hF hR
    | succ d ih =>
      intro q M1 hq hF hR
      have hi : r * C + q < R * C := by omega
      have hdiv : (r * C + q) / C = r := (dm (show q < C by omega)).1
      have nx : ∀ M2 : Mm, FrD M0 M2 → RV M2.1 1 c t (rdN N R C s T (r * C + q + 1)) → V pgX1_bridgeRow Q 18 [.ref 3, .int (nI r), .int (nI (16 * T)), .int (nI (r * C + C)), .int (nI (r * C + (q + 1)))] [] M2 := fun M2 => ih (q + 1) M2 (by omega)
      have hge : ¬ (nI (r * C + C) ≤ nI (r * C + q)) := nI_ge (by omega) (by omega)
      have e1 : nI (r * C + q) + 1 = nI (r * C + (q + 1)) := by rw [nI_1, Nat.add_assoc]
      generalize hii : r * C + q = i at *
      have lw : ∀ j, j ≠ 15 → j ≠ 16 → j < 82 ∨ j = 82 + i → rdN N R C s T i j = N j := fun j z1 z2 z3 => rdN_low i j z1 z2 (fun q hq => by omega)
      have a82' := lw (82 + i) (by omega) (by omega) (by omega)
      have a1 := (lw 1 (by omega) (by omega) (by omega)).trans n1
      have e31 : M1.1 3 1 = nI C := (hR.lo (k := 1) (by omega)).trans a1
      have e4 : ∀ k, k < 64 → M1.1 4 k = N (18 + k) := fun k hk => (hR.raw hk).trans (lw (18 + k) (by omega) (by omega) (by omega))
      obtain ⟨y, y1, y2⟩ := hgr i (by omega)
      have cl : (nI i).toNatClampNeg = i := nI_clamp (by omega)
      have vp : vp_in (nI i) 64 := vpn (by omega) (by decide)
      rw [eX1_bridgeRow_18]
      have hl' : s.testBit (i / C) = true := by rw [hdiv]; exact hl
      have hb' : brP R s (i / C) := by rw [hdiv]; exact hb
      obtain ⟨x, x1, x2⟩ := hraw (i - C) (by omega)
      obtain ⟨u, u1, u2⟩ := hraw (i + C) (by omega)
      have hrd : rdF N R C s i = some (8 * (x + u)) := by rw [rdF_1 hl' hb', x2, u2, nI_clamp (by omega), nI_clamp (by omega)]
      have hsg : sgF N R C s i = nI (8 * (x + u)) - rdN N R C s T i (82 + i) := by simp only [sgF, hrd, a82']
      have ia : nI i - nI C = nI (i - C) := pk_sub (by omega)
      have ib : nI i + nI C = nI (i + C) := nI_add _ _
      have e16 : (16 : Int32) * nI (x + u) / 2 = nI (8 * (x + u)) := by
        rw [show (16 : Int32) = nI 16 from rfl, pk_mul, show (2 : Int32) = nI 2 from rfl, pk_div (by omega) (by omega) (by omega)]
        congr 1
        omega
      simp only [eX1_bridgeRow_0, eX1_bridgeRow_1, eX1_bridgeRow_2, eX1_bridgeRow_3, eX1_bridgeRow_6, eX1_bridgeRow_9, eX1_bridgeRow_10, eX1_bridgeRow_11, eX1_bridgeRow_12, eX1_bridgeRow_13, eX1_bridgeRow_16, eX1_bridgeRow_20, eX1_bridgeRow_21, eX1_bridgeRow_24, eX1_bridgeRow_25, eX1_bridgeRow_27, eX1_bridgeRow_29, eX1_bridgeRow_30, eX1_bridgeRow_33, eX1_bridgeRow_35, eX1_bridgeRow_36, eX1_bridgeRow_39, eX1_bridgeRow_40, eX1_bridgeRow_41, eX1_bridgeRow_42, eX1_bridgeRow_45, eX1_bridgeRow_47, eX1_bridgeRow_48, eX1_bridgeRow_51, eX1_bridgeRow_52, eX1_bridgeRow_53, eX1_bridgeRow_54, eX1_bridgeRow_55, eX1_bridgeRow_56, eX1_bridgeRow_57, eX1_bridgeRow_58, eX1_bridgeRow_61, eX1_bridgeRow_64, eX1_bridgeRow_67, eX1_bridgeRow_in, hge, e31, ia, ib, nI_clamp (show i - C < 2 ^ 31 by omega), nI_clamp (show i + C < 2 ^ 31 by omega), vpn (show i - C < 64 by omega) (by decide : 64 < 2147483648), vpn (show i + C < 64 by omega) (by decide : 64 < 2147483648), e4 (i - C) (by omega), e4 (i + C) (by omega), x2, u2, nI_add, e16, h20, Option.toList_some, Option.toList_none, List.cons_append, List.nil_append, b2_0, Classical.not_not, false_implies, true_implies, implies_true, true_and, and_true, not_true_eq_false, not_false_eq_true]
      refine c_feel hF hR (by omega) (fun z M2 F2 R2 => ?_) (fun z M2 F2 R2 => ?_)
      · have htc : tcP N R C s T i := ⟨by rw [hrd]; rfl, by rw [hsg]; exact z⟩
        simp only [eX1_bridgeRow_0, eX1_bridgeRow_1, eX1_bridgeRow_2, eX1_bridgeRow_3, eX1_bridgeRow_6, eX1_bridgeRow_9, eX1_bridgeRow_10, eX1_bridgeRow_11, eX1_bridgeRow_12, eX1_bridgeRow_13, eX1_bridgeRow_16, eX1_bridgeRow_20, eX1_bridgeRow_21, eX1_bridgeRow_24, eX1_bridgeRow_25, eX1_bridgeRow_27, eX1_bridgeRow_29, eX1_bridgeRow_30, eX1_bridgeRow_33, eX1_bridgeRow_35, eX1_bridgeRow_36, eX1_bridgeRow_39, eX1_bridgeRow_40, eX1_bridgeRow_41, eX1_bridgeRow_42, eX1_bridgeRow_45, eX1_bridgeRow_47, eX1_bridgeRow_48, eX1_bridgeRow_51, eX1_bridgeRow_52, eX1_bridgeRow_53, eX1_bridgeRow_54, eX1_bridgeRow_55, eX1_bridgeRow_56, eX1_bridgeRow_57, eX1_bridgeRow_58, eX1_bridgeRow_61, eX1_bridgeRow_64, eX1_bridgeRow_67, eX1_bridgeRow_in, e1, Option.toList_some, Option.toList_none, List.cons_append, List.nil_append, b2_0, Classical.not_not, false_implies, true_implies, implies_true, true_and, and_true, not_true_eq_false, not_false_eq_true]
        refine nx M2 F2 ?_
        rw [← rdN_s hsg.symm (show nI i = _ by rw [if_pos htc]) (show rdN N R C s T i (82 + i) = _ by rw [if_neg (fun z => z.1 htc)]; exact a82') (show rdN N R C s T i 15 + 1 = _ by rw [if_pos htc]) (show rdN N R C s T i 16 = _ by rw [hrd]; exact (zz _).symm)]
        exact R2
      · have htc : ¬ tcP N R C s T i := fun u => u.2 (by rw [hsg]; exact z)
        simp only [eX1_bridgeRow_0, eX1_bridgeRow_1, eX1_bridgeRow_2, eX1_bridgeRow_3, eX1_bridgeRow_6, eX1_bridgeRow_9, eX1_bridgeRow_10, eX1_bridgeRow_11, eX1_bridgeRow_12, eX1_bridgeRow_13, eX1_bridgeRow_16, eX1_bridgeRow_20, eX1_bridgeRow_21, eX1_bridgeRow_24, eX1_bridgeRow_25, eX1_bridgeRow_27, eX1_bridgeRow_29, eX1_bridgeRow_30, eX1_bridgeRow_33, eX1_bridgeRow_35, eX1_bridgeRow_36, eX1_bridgeRow_39, eX1_bridgeRow_40, eX1_bridgeRow_41, eX1_bridgeRow_42, eX1_bridgeRow_45, eX1_bridgeRow_47, eX1_bridgeRow_48, eX1_bridgeRow_51, eX1_bridgeRow_52, eX1_bridgeRow_53, eX1_bridgeRow_54, eX1_bridgeRow_55, eX1_bridgeRow_56, eX1_bridgeRow_57, eX1_bridgeRow_58, eX1_bridgeRow_61, eX1_bridgeRow_64, eX1_bridgeRow_67, eX1_bridgeRow_in, e1, Option.toList_some, Option.toList_none, List.cons_append, List.nil_append, b2_0, Classical.not_not, false_implies, true_implies, implies_true, true_and, and_true, not_true_eq_false, not_false_eq_true]
        refine nx M2 F2 ?_
        rw [← rdN_s hsg.symm (show -1 = _ by rw [if_neg htc]) (show rdN N R C s T i (82 + i) = _ by rw [if_neg (fun z => z.2 hl')]; exact a82') (show rdN N R C s T i 15 = _ by rw [if_neg htc, zz]) (show rdN N R C s T i 16 = _ by rw [hrd]; exact (zz _).symm)]
        exact R2
  have e31 : M.1 3 1 = nI C := by
    refine (hR0.lo (k := 1) (by omega)).trans ((rdN_low _ _ (by omega) (by omega) (fun q hq => by omega)).trans n1)
  have ix1 : nI r * nI C + nI C = nI (r * C + C) := by rw [pk_mul, nI_add]
  have ix2 : nI r * nI C + 0 = nI (r * C + 0) := by rw [pk_mul]; exact nI_add _ 0
  simp only [eX1_bridgeRow_0, eX1_bridgeRow_1, eX1_bridgeRow_2, eX1_bridgeRow_3, eX1_bridgeRow_6, eX1_bridgeRow_9, eX1_bridgeRow_10, eX1_bridgeRow_11, eX1_bridgeRow_12, eX1_bridgeRow_13, eX1_bridgeRow_16, eX1_bridgeRow_20, eX1_bridgeRow_21, eX1_bridgeRow_24, eX1_bridgeRow_25, eX1_bridgeRow_27, eX1_bridgeRow_29, eX1_bridgeRow_30, eX1_bridgeRow_33, eX1_bridgeRow_35, eX1_bridgeRow_36, eX1_bridgeRow_39, eX1_bridgeRow_40, eX1_bridgeRow_41, eX1_bridgeRow_42, eX1_bridgeRow_45, eX1_bridgeRow_47, eX1_bridgeRow_48, eX1_bridgeRow_51, eX1_bridgeRow_52, eX1_bridgeRow_53, eX1_bridgeRow_54, eX1_bridgeRow_55, eX1_bridgeRow_56, eX1_bridgeRow_57, eX1_bridgeRow_58, eX1_bridgeRow_61, eX1_bridgeRow_64, eX1_bridgeRow_67, eX1_bridgeRow_in, q_at, e31, ix1, ix2, Option.toList_some, Option.toList_none, List.cons_append, List.nil_append, b2_0, Classical.not_not, false_implies, true_implies, implies_true, true_and, and_true, not_true_eq_false, not_false_eq_true]
  exact lp C 0 M (by omega) hF0 hR0
theorem c_missRow {Q : Qt} {M0 : Mm} {N : Nat → Int32} {R C cc tt T P D L s r c t : Nat} (g : Gd N R C cc tt T P D L) (hr : r < R) (hQ : ∀ M', FrD M0 M' → RV M'.1 1 c t (rdN N R C s T (r * C + C)) → Q none M') (hl : s.testBit r = true) (hb : ¬ brP R s r) {M : Mm} (hF0 : FrD M0 M) (hR0 : RV M.1 1 c t (rdN N R C s T (r * C))) : kX1_missRow [.ref 3, .int (nI r)] M Q := by
  obtain ⟨⟨⟨r1, r2⟩, ⟨c1, c2⟩, -, -⟩, ⟨⟨t1, t2⟩, -⟩, ⟨n0, n1, n2, n3, n4, n5, n8, n10⟩, -, -, -, -, hraw, hgr, -⟩ := id g
  have h64 := rc_le r2 c2
  have s8 := pow_R r2
  have hrC : (r + 1) * C ≤ R * C := Nat.mul_le_mul_right C (by omega)
  rw [Nat.add_mul, Nat.one_mul] at hrC
  have zz : ∀ x : Int32, x + 0 = x := fun x => by simp
  have h16 : ¬ ((16 : Int32) = 0) := by decide
  have h20 : ¬ ((2 : Int32) = 0) := by decide
  have lp : ∀ d q (M1 : Mm), q + d = C → FrD M0 M1 → RV M1.1 1 c t (rdN N R C s T (r * C + q)) → V pgX1_missRow Q 17 [.ref 3, .int (nI r), .int (nI (r * C + C)), .int (nI (r * C + q))] [] M1 := by
    intro d
    induction d with
    | zero =>
      intro q M1 hq hF hR
      have : q = C := by omega
      subst this
      rw [eX1_missRow_17]
      simp only [eX1_missRow_0, eX1_missRow_1, eX1_missRow_2, eX1_missRow_3, eX1_missRow_6, eX1_missRow_9, eX1_missRow_10, eX1_missRow_11, eX1_missRow_12, eX1_missRow_13, eX1_missRow_16, eX1_missRow_18, eX1_missRow_19, eX1_missRow_22, eX1_missRow_23, eX1_missRow_26, eX1_missRow_27, eX1_missRow_29, eX1_missRow_30, eX1_missRow_31, eX1_missRow_34, eX1_missRow_35, eX1_missRow_36, eX1_missRow_37, eX1_missRow_38, eX1_missRow_39, eX1_missRow_42, eX1_missRow_43, eX1_missRow_44, eX1_missRow_47, eX1_missRow_50, eX1_missRow_53, eX1_missRow_in, Int32.le_refl, Option.toList_some, Option.toList_none, List.cons_append, List.nil_append, b2_0, Classical.not_not, false_implies, true_implies, implies_true, true_and, and_true, not_true_eq_false, not_false_eq_true]
      exact hQ M1 hF hR
    | succ d ih =>
      intro q M1 hq hF hR
      have hi : r * C + q < R * C := by omega
      have hdiv : (r * C + q) / C = r := (dm (show q < C by omega)).1
      have nx : ∀ M2 : Mm, FrD M0 M2 → RV M2.1 1 c t (rdN N R C s T (r * C + q + 1)) → V pgX1_missRow Q 17 [.ref 3, .int (nI r), .int (nI (r * C + C)), .int (nI (r * C + (q + 1)))] [] M2 := fun M2 => ih (q + 1) M2 (by omega)
      have hge : ¬ (nI (r * C + C) ≤ nI (r * C + q)) := nI_ge (by omega) (by omega)
      have e1 : nI (r * C + q) + 1 = nI (r * C + (q + 1)) := by rw [nI_1, Nat.add_assoc]
      generalize hii : r * C + q = i at *
      have lw : ∀ j, j ≠ 15 → j ≠ 16 → j < 82 ∨ j = 82 + i → rdN N R C s T i j = N j := fun j z1 z2 z3 => rdN_low i j z1 z2 (fun q hq => by omega)
      have a82' := lw (82 + i) (by omega) (by omega) (by omega)
      have a1 := (lw 1 (by omega) (by omega) (by omega)).trans n1
      have e31 : M1.1 3 1 = nI C := (hR.lo (k := 1) (by omega)).trans a1
      have e4 : ∀ k, k < 64 → M1.1 4 k = N (18 + k) := fun k hk => (hR.raw hk).trans (lw (18 + k) (by omega) (by omega) (by omega))
      obtain ⟨y, y1, y2⟩ := hgr i (by omega)
      have cl : (nI i).toNatClampNeg = i := nI_clamp (by omega)
      have vp : vp_in (nI i) 64 := vpn (by omega) (by decide)
      rw [eX1_missRow_17]
      have hl' : s.testBit (i / C) = true := by rw [hdiv]; exact hl
      have hb' : ¬ brP R s (i / C) := by rw [hdiv]; exact hb
      have hrd : rdF N R C s i = none := rdF_2 hl' hb'
      have hsg : sgF N R C s i = -99999 := by simp only [sgF, hrd]
      have htc : ¬ tcP N R C s T i := fun z => by
        have := z.1
        rw [hrd] at this
        cases this
      have e38 : M1.1 3 8 = rdN N R C s T i 16 := hR.lo (k := 16) (by omega)
      simp only [eX1_missRow_0, eX1_missRow_1, eX1_missRow_2, eX1_missRow_3, eX1_missRow_6, eX1_missRow_9, eX1_missRow_10, eX1_missRow_11, eX1_missRow_12, eX1_missRow_13, eX1_missRow_16, eX1_missRow_18, eX1_missRow_19, eX1_missRow_22, eX1_missRow_23, eX1_missRow_26, eX1_missRow_27, eX1_missRow_29, eX1_missRow_30, eX1_missRow_31, eX1_missRow_34, eX1_missRow_35, eX1_missRow_36, eX1_missRow_37, eX1_missRow_38, eX1_missRow_39, eX1_missRow_42, eX1_missRow_43, eX1_missRow_44, eX1_missRow_47, eX1_missRow_50, eX1_missRow_53, eX1_missRow_in, hge, cl, vp, setI_ne, ne_eq, Nat.reduceEqDiff, e38, e1, Option.toList_some, Option.toList_none, List.cons_append, List.nil_append, b2_0, Classical.not_not, false_implies, true_implies, implies_true, true_and, and_true, not_true_eq_false, not_false_eq_true]
      refine nx _ (((hF.set (by omega)).set (by omega)).set (by omega)) ?_
      rw [← rdN_s hsg.symm (show -1 = _ by rw [if_neg htc]) (show rdN N R C s T i (82 + i) = _ by rw [if_neg (fun z => z.2 hl')]; exact a82') (show rdN N R C s T i 15 = _ by rw [if_neg htc, zz]) (show rdN N R C s T i 16 + 1 = _ by rw [hrd]; rfl), ← up_m]
      exact ((hR.ps (by omega)).pp (by omega)).put (a := 3) (p := 8) (e := 16) rfl rfl
  have e31 : M.1 3 1 = nI C := by
    refine (hR0.lo (k := 1) (by omega)).trans ((rdN_low _ _ (by omega) (by omega) (fun q hq => by omega)).trans n1)
  have ix1 : nI r * nI C + nI C = nI (r * C + C) := by rw [pk_mul, nI_add]
  have ix2 : nI r * nI C + 0 = nI (r * C + 0) := by rw [pk_mul]; exact nI_add _ 0
  simp only [eX1_missRow_0, eX1_missRow_1, eX1_missRow_2, eX1_missRow_3, eX1_missRow_6, eX1_missRow_9, eX1_missRow_10, eX1_missRow_11, eX1_missRow_12, eX1_missRow_13, eX1_missRow_16, eX1_missRow_18, eX1_missRow_19, eX1_missRow_22, eX1_missRow_23, eX1_missRow_26, eX1_missRow_27, eX1_missRow_29, eX1_missRow_30, eX1_missRow_31, eX1_missRow_34, eX1_missRow_35, eX1_missRow_36, eX1_missRow_37, eX1_missRow_38, eX1_missRow_39, eX1_missRow_42, eX1_missRow_43, eX1_missRow_44, eX1_missRow_47, eX1_missRow_50, eX1_missRow_53, eX1_missRow_in, q_at, e31, ix1, ix2, Option.toList_some, Option.toList_none, List.cons_append, List.nil_append, b2_0, Classical.not_not, false_implies, true_implies, implies_true, true_and, and_true, not_true_eq_false, not_false_eq_true]
  exact lp C 0 M (by omega) hF0 hR0
theorem c_read {Q : Qt} {M : Mm} {N : Nat → Int32} {R C cc tt T P D L s : Nat} (g : Gd N R C cc tt T P D L) (hs : s < 2 ^ R) (n14 : N 14 = nI s) {c t : Nat} (hR0 : RV M.1 1 c t N) (hQ : ∀ M', FrD M M' → RV M'.1 1 c t (rdN N R C s T (R * C)) → Q none M') : kX1_read [.ref 3, .int (nI T)] M Q := by
  obtain ⟨⟨⟨r1, r2⟩, ⟨c1, c2⟩, -, -⟩, ⟨⟨t1, t2⟩, -⟩, ⟨n0, n1, n2, n3, n4, n5, n8, n10⟩, -⟩ := id g
  have s8 := pow_R r2
  have e16T : (16 : Int32) * nI T = nI (16 * T) := pk_mul 16 T
  have lp : ∀ d r (M1 : Mm), r + d = R → FrD M M1 → RV M1.1 1 c t (rdN N R C s T (r * C)) → V pgX1_read Q 12 [.ref 3, .int (nI T), .int (nI r)] [] M1 := by
    intro d
    induction d with
    | zero =>
      intro r M1 hr hF hR
      have : r = R := by omega
      subst this
      have e30 : M1.1 3 0 = nI r := (hR.lo (k := 0) (by omega)).trans ((rdN_low _ _ (by omega) (by omega) (fun q hq => by omega)).trans n0)
      rw [eX1_read_12]
      simp only [eX1_read_0, eX1_read_1, eX1_read_2, eX1_read_5, eX1_read_6, eX1_read_7, eX1_read_10, eX1_read_11, eX1_read_13, eX1_read_14, eX1_read_17, eX1_read_20, eX1_read_21, eX1_read_22, eX1_read_25, eX1_read_28, eX1_read_29, eX1_read_30, eX1_read_32, eX1_read_33, eX1_read_34, eX1_read_37, eX1_read_40, eX1_read_41, eX1_read_42, eX1_read_43, eX1_read_44, eX1_read_47, eX1_read_50, eX1_read_51, eX1_read_52, eX1_read_53, eX1_read_54, eX1_read_57, eX1_read_60, eX1_read_61, eX1_read_62, eX1_read_64, eX1_read_65, eX1_read_66, eX1_read_69, eX1_read_72, eX1_read_73, eX1_read_74, eX1_read_77, eX1_read_80, eX1_read_83, eX1_read_in, e30, Int32.le_refl, Option.toList_some, Option.toList_none, List.cons_append, List.nil_append, b2_0, Classical.not_not, false_implies, true_implies, implies_true, true_and, and_true, not_true_eq_false, not_false_eq_true]
      exact hQ M1 hF hR
    | succ d ih =>
      intro r M1 hr hF hR
      have e30 : M1.1 3 0 = nI R := (hR.lo (k := 0) (by omega)).trans ((rdN_low _ _ (by omega) (by omega) (fun q hq => by omega)).trans n0)
      have e36 : M1.1 3 6 = nI s := (hR.lo (k := 14) (by omega)).trans ((rdN_low _ _ (by omega) (by omega) (fun q hq => by omega)).trans n14)
      have tb := tb_c s (by omega) r (by omega)
      have nx : ∀ M2 : Mm, FrD M M2 → RV M2.1 1 c t (rdN N R C s T (r * C + C)) → V pgX1_read Q 12 [.ref 3, .int (nI T), .int (nI r + 1)] [] M2 := fun M2 f2 h2 => by
        rw [nI_1]
        exact ih (r + 1) M2 (by omega) f2 (by rw [Nat.add_mul, Nat.one_mul]; exact h2)
      rw [eX1_read_12]
      by_cases hl : s.testBit r = true
      · have b1 : ¬ (nI s &&& ((1 : Int32) <<< (nI r &&& 31)) = 0) := fun z => tb.mp z hl
        simp only [eX1_read_0, eX1_read_1, eX1_read_2, eX1_read_5, eX1_read_6, eX1_read_7, eX1_read_10, eX1_read_11, eX1_read_13, eX1_read_14, eX1_read_17, eX1_read_20, eX1_read_21, eX1_read_22, eX1_read_25, eX1_read_28, eX1_read_29, eX1_read_30, eX1_read_32, eX1_read_33, eX1_read_34, eX1_read_37, eX1_read_40, eX1_read_41, eX1_read_42, eX1_read_43, eX1_read_44, eX1_read_47, eX1_read_50, eX1_read_51, eX1_read_52, eX1_read_53, eX1_read_54, eX1_read_57, eX1_read_60, eX1_read_61, eX1_read_62, eX1_read_64, eX1_read_65, eX1_read_66, eX1_read_69, eX1_read_72, eX1_read_73, eX1_read_74, eX1_read_77, eX1_read_80, eX1_read_83, eX1_read_in, q_isLost, q_stands, e30, e36, b1, nI_ge (show r < R by omega) (show R < 2 ^ 31 by omega), e16T, Option.toList_some, Option.toList_none, List.cons_append, List.nil_append, b2_0, Classical.not_not, false_implies, true_implies, implies_true, true_and, and_true, not_true_eq_false, not_false_eq_true]
        by_cases hb : brP R s r
        · obtain ⟨y1, y2, y3, y4⟩ := id hb
          have p1 : nI r - 1 = nI (r - 1) := nI_p1 y1
          have u1 := (tb_c s (by omega) (r - 1) (by omega)).mpr y3
          have u2 := (tb_c s (by omega) (r + 1) (by omega)).mpr y4
          have u3 : (0 : Int32) ≤ nI (r - 1) ∧ nI (r - 1) < nI R := ⟨nI0le _ (by omega), nI_lt (by omega) (by omega)⟩
          have u4 : (0 : Int32) ≤ nI (r + 1) ∧ nI (r + 1) < nI R := ⟨nI0le _ (by omega), nI_lt (by omega) (by omega)⟩
          simp only [p1, nI_1, u1, u2, u3, u4, Option.toList_some, Option.toList_none, List.cons_append, List.nil_append, b2_0, Classical.not_not, false_implies, true_implies, implies_true, true_and, and_true, not_true_eq_false, not_false_eq_true]
          refine c_bridgeRow g (by omega) (M0 := M) (c := c) (t := t) (fun M2 f2 h2 => ?_) hl hb hF hR
          simp only [eX1_read_0, eX1_read_1, eX1_read_2, eX1_read_5, eX1_read_6, eX1_read_7, eX1_read_10, eX1_read_11, eX1_read_13, eX1_read_14, eX1_read_17, eX1_read_20, eX1_read_21, eX1_read_22, eX1_read_25, eX1_read_28, eX1_read_29, eX1_read_30, eX1_read_32, eX1_read_33, eX1_read_34, eX1_read_37, eX1_read_40, eX1_read_41, eX1_read_42, eX1_read_43, eX1_read_44, eX1_read_47, eX1_read_50, eX1_read_51, eX1_read_52, eX1_read_53, eX1_read_54, eX1_read_57, eX1_read_60, eX1_read_61, eX1_read_62, eX1_read_64, eX1_read_65, eX1_read_66, eX1_read_69, eX1_read_72, eX1_read_73, eX1_read_74, eX1_read_77, eX1_read_80, eX1_read_83, eX1_read_in, Option.toList_some, Option.toList_none, List.cons_append, List.nil_append, b2_0, Classical.not_not, false_implies, true_implies, implies_true, true_and, and_true, not_true_eq_false, not_false_eq_true]
          exact nx M2 f2 h2
        · have ms : kX1_missRow [.ref 3, .int (nI r)] M1 (fun x M2 => V pgX1_read Q 77 [.ref 3, .int (nI T), .int (nI r)] (x.toList ++ []) M2) := by
            refine c_missRow g (by omega) (M0 := M) (c := c) (t := t) (fun M2 f2 h2 => ?_) hl hb hF hR
            simp only [eX1_read_0, eX1_read_1, eX1_read_2, eX1_read_5, eX1_read_6, eX1_read_7, eX1_read_10, eX1_read_11, eX1_read_13, eX1_read_14, eX1_read_17, eX1_read_20, eX1_read_21, eX1_read_22, eX1_read_25, eX1_read_28, eX1_read_29, eX1_read_30, eX1_read_32, eX1_read_33, eX1_read_34, eX1_read_37, eX1_read_40, eX1_read_41, eX1_read_42, eX1_read_43, eX1_read_44, eX1_read_47, eX1_read_50, eX1_read_51, eX1_read_52, eX1_read_53, eX1_read_54, eX1_read_57, eX1_read_60, eX1_read_61, eX1_read_62, eX1_read_64, eX1_read_65, eX1_read_66, eX1_read_69, eX1_read_72, eX1_read_73, eX1_read_74, eX1_read_77, eX1_read_80, eX1_read_83, eX1_read_in, Option.toList_some, Option.toList_none, List.cons_append, List.nil_append, b2_0, Classical.not_not, false_implies, true_implies, implies_true, true_and, and_true, not_true_eq_false, not_false_eq_true]
            exact nx M2 f2 h2
          refine ⟨fun _ => ms, fun z1 => ⟨fun _ => ms, fun z2 => absurd ?_ hb⟩⟩
          obtain ⟨⟨q1, q2⟩, q3⟩ := z1
          obtain ⟨⟨q4, q5⟩, q6⟩ := z2
          rw [nI_1] at q5 q6
          have y2 : r + 1 < R := (nI_ltI (by omega) (by omega)).mp q5
          have y1 : 0 < r := by
            rcases Nat.eq_zero_or_pos r with e | e
            · rw [e] at q1
              exact absurd q1 (by decide)
            · exact e
          rw [nI_p1 y1] at q3
          exact ⟨y1, y2, (tb_c s (by omega) (r - 1) (by omega)).mp q3, (tb_c s (by omega) (r + 1) (by omega)).mp q6⟩
      · have b1 : nI s &&& ((1 : Int32) <<< (nI r &&& 31)) = 0 := tb.mpr hl
        simp only [eX1_read_0, eX1_read_1, eX1_read_2, eX1_read_5, eX1_read_6, eX1_read_7, eX1_read_10, eX1_read_11, eX1_read_13, eX1_read_14, eX1_read_17, eX1_read_20, eX1_read_21, eX1_read_22, eX1_read_25, eX1_read_28, eX1_read_29, eX1_read_30, eX1_read_32, eX1_read_33, eX1_read_34, eX1_read_37, eX1_read_40, eX1_read_41, eX1_read_42, eX1_read_43, eX1_read_44, eX1_read_47, eX1_read_50, eX1_read_51, eX1_read_52, eX1_read_53, eX1_read_54, eX1_read_57, eX1_read_60, eX1_read_61, eX1_read_62, eX1_read_64, eX1_read_65, eX1_read_66, eX1_read_69, eX1_read_72, eX1_read_73, eX1_read_74, eX1_read_77, eX1_read_80, eX1_read_83, eX1_read_in, q_isLost, e30, e36, b1, nI_ge (show r < R by omega) (show R < 2 ^ 31 by omega), e16T, Option.toList_some, Option.toList_none, List.cons_append, List.nil_append, b2_0, Classical.not_not, false_implies, true_implies, implies_true, true_and, and_true, not_true_eq_false, not_false_eq_true]
        refine c_readRow g (by omega) (M0 := M) (c := c) (t := t) (fun M2 f2 h2 => ?_) hl hF hR
        simp only [eX1_read_0, eX1_read_1, eX1_read_2, eX1_read_5, eX1_read_6, eX1_read_7, eX1_read_10, eX1_read_11, eX1_read_13, eX1_read_14, eX1_read_17, eX1_read_20, eX1_read_21, eX1_read_22, eX1_read_25, eX1_read_28, eX1_read_29, eX1_read_30, eX1_read_32, eX1_read_33, eX1_read_34, eX1_read_37, eX1_read_40, eX1_read_41, eX1_read_42, eX1_read_43, eX1_read_44, eX1_read_47, eX1_read_50, eX1_read_51, eX1_read_52, eX1_read_53, eX1_read_54, eX1_read_57, eX1_read_60, eX1_read_61, eX1_read_62, eX1_read_64, eX1_read_65, eX1_read_66, eX1_read_69, eX1_read_72, eX1_read_73, eX1_read_74, eX1_read_77, eX1_read_80, eX1_read_83, eX1_read_in, Option.toList_some, Option.toList_none, List.cons_append, List.nil_append, b2_0, Classical.not_not, false_implies, true_implies, implies_true, true_and, and_true, not_true_eq_false, not_false_eq_true]
        exact nx M2 f2 h2
  simp only [eX1_read_0, eX1_read_1, eX1_read_2, eX1_read_5, eX1_read_6, eX1_read_7, eX1_read_10, eX1_read_11, eX1_read_13, eX1_read_14, eX1_read_17, eX1_read_20, eX1_read_21, eX1_read_22, eX1_read_25, eX1_read_28, eX1_read_29, eX1_read_30, eX1_read_32, eX1_read_33, eX1_read_34, eX1_read_37, eX1_read_40, eX1_read_41, eX1_read_42, eX1_read_43, eX1_read_44, eX1_read_47, eX1_read_50, eX1_read_51, eX1_read_52, eX1_read_53, eX1_read_54, eX1_read_57, eX1_read_60, eX1_read_61, eX1_read_62, eX1_read_64, eX1_read_65, eX1_read_66, eX1_read_69, eX1_read_72, eX1_read_73, eX1_read_74, eX1_read_77, eX1_read_80, eX1_read_83, eX1_read_in, Option.toList_some, Option.toList_none, List.cons_append, List.nil_append, b2_0, Classical.not_not, false_implies, true_implies, implies_true, true_and, and_true, not_true_eq_false, not_false_eq_true]
  refine lp R 0 _ (by omega) ((FrD.rf.set (by omega)).set (by omega)) ?_
  rw [Nat.zero_mul]
  exact (hR0.put (a := 3) (p := 7) (e := 15) rfl rfl).put (a := 3) (p := 8) (e := 16) rfl rfl
