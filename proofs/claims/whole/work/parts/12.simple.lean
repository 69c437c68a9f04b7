/-! the simple calls -/
theorem nI_p1 {n : Nat} (h : 1 ≤ n) : nI n - 1 = nI (n - 1) := pk_sub (b := 1) h
theorem Gd.raw {N N' : Nat → Int32} {R C c t T P D L : Nat} (g : Gd N R C c t T P D L) (h : ∀ k, ¬ (18 ≤ k ∧ k < 82) → N' k = N k) (hr : ∀ k, k < 64 → ∃ x, x ≤ 999 ∧ N' (18 + k) = nI x) : Gd N' R C c t T P D L := by
  obtain ⟨g1, g2, ⟨n0, n1, n2, n3, n4, n5, n8, n10⟩, hF, hS, hs, hw, hraw, hgr, hpk, hcon, htr⟩ := g
  have e : ∀ k, ¬ (18 ≤ k ∧ k < 82) → N' k = N k := h
  refine ⟨g1, g2, ⟨by rw [e 0 (by omega)]; exact n0, by rw [e 1 (by omega)]; exact n1, by rw [e 2 (by omega)]; exact n2, by rw [e 3 (by omega)]; exact n3, by rw [e 4 (by omega)]; exact n4, by rw [e 5 (by omega)]; exact n5, by rw [e 8 (by omega)]; exact n8, by rw [e 10 (by omega)]; exact n10⟩, ?_, by rw [e 7 (by omega)]; exact hS, by rw [e 14 (by omega)]; exact hs, by rw [e 17 (by omega)]; exact hw, hr, fun k hk => by rw [e (82 + k) (by omega)]; exact hgr k hk, fun k hk => by rw [e (210 + k) (by omega), e (146 + k) (by omega)]; exact hpk k hk, fun i hi => ?_, fun j hj => by rw [e (281 + 6 * j) (by omega)]; exact htr j hj⟩
  · obtain ⟨F, f1, f2, x, f3, f4, y, f5, f6⟩ := hF
    exact ⟨F, f1, by rw [e 6 (by omega)]; exact f2, x, f3, by rw [e 13 (by omega)]; exact f4, y, fun i hi => by rw [e _ (by omega)]; exact f5 i hi, f6⟩
  · obtain ⟨p, h1, h2, h3⟩ := hcon i hi
    exact ⟨p, h1, by rw [e _ (by omega)]; exact h2, by rw [e _ (by omega)]; exact h3⟩
theorem Re.put {M : Mm} {N : Nat → Int32} {a p e : Nat} {v : Int32} (h : Re M.1 1 N) (ha : a = 1 + ec e) (hp : p = ep e) (h8 : e ≠ 8) (h10 : e ≠ 10) : Re (setI M a p v).1 1 (upd N e v) := by
  intro k hk
  rw [enc_set ha hp]
  have e8 : upd N e v 8 = N 8 := by simp [upd, Ne.symm h8]
  have e10 : upd N e v 10 = N 10 := by simp [upd, Ne.symm h10]
  rw [e8, e10] at hk
  simp only [upd]
  by_cases hz : k = e
  · rw [if_pos hz, if_pos hz]
  · rw [if_neg hz, if_neg hz]
    exact h k hk
theorem FrC.rf {M : Mm} : FrC M M := fun _ _ _ => rfl
theorem FrM.rf {M : Mm} : FrM M M := fun _ _ => rfl
theorem FrC.set {M M' : Mm} (h : FrC M M') {a p : Nat} {v : Int32} (ha : (1 ≤ a ∧ a ≤ 15) ∨ (46 ≤ a ∧ a ≤ 50)) : FrC M (setI M' a p v) := by
  intro q h1 h2
  simp only [setI]
  rw [if_neg (by omega)]
  exact h q h1 h2
theorem FrM.set {M M' : Mm} (h : FrM M M') {a p : Nat} {v : Int32} (ha : 52 ≤ a ∧ a ≤ 54) : FrM M (setI M' a p v) := by
  intro q h1
  simp only [setI]
  rw [if_neg (by omega)]
  exact h q h1
theorem setI_at {M : Mm} {a p : Nat} {v : Int32} : (setI M a p v).1 a = upd (M.1 a) p v := by simp [setI]
theorem setI_ne {M : Mm} {a b p : Nat} {v : Int32} (h : b ≠ a) : (setI M a p v).1 b = M.1 b := by simp [setI, h]
/-- a call at both sides -/
def StepI (kC kM : List Value → Mm → Qt → Prop) (av : List Value) (M : Mm) : Prop := kC (.ref 0 :: av) M (fun x M1 => (∃ a : Int32, x = some (.int a)) ∧ kM (.ref 51 :: av) M1 (fun x2 M2 => x2 = x ∧ (∃ a : Int32, x = some (.int a)) ∧ Inv M2))
theorem combI {M : Mm} (hI : Inv M) {kC kM : List Value → Mm → Qt → Prop} {av : List Value} (mC : monC kC) (mM : monC kM) (N' : Nat → Int32) (ans : Int32) (hG : GdE N') (hC : ∀ Q : Qt, (∀ M', FrC M M' → Re M'.1 1 N' → Q (some (.int ans)) M') → kC (.ref 0 :: av) M Q) (hM : ∀ (M1 : Mm) (Q : Qt), M1.1 52 = M.1 52 → (∀ M', FrM M1 M' → M'.1 52 = N' → Q (some (.int ans)) M') → kM (.ref 51 :: av) M1 Q) : StepI kC kM av M :=
  mC _ _ _ _ (fun x M1 h => ⟨⟨ans, h.1⟩, mM _ _ _ _ (fun x2 M2 h2 => ⟨h2.1, ⟨ans, h2.2.1⟩, h2.2.2⟩) h.2⟩) (comb hI (kC := kC (.ref 0 :: av)) (kM := kM (.ref 51 :: av)) hC hM hG)
theorem combN {M : Mm} (hI : Inv M) {kC kM : List Value → Mm → Qt → Prop} {av : List Value} (mC : monC kC) (mM : monC kM) (ans : Int32) (hC : ∀ Q : Qt, Q (some (.int ans)) M → kC (.ref 0 :: av) M Q) (hM : ∀ (M1 : Mm) (Q : Qt), M1.1 52 = M.1 52 → Q (some (.int ans)) M1 → kM (.ref 51 :: av) M1 Q) : StepI kC kM av M :=
  combI hI mC mM (M.1 52) ans hI.1.2 (fun Q h => hC Q (h M FrC.rf hI.1.1)) (fun M1 Q h1 h => hM M1 Q h1 (h M1 FrM.rf h1))
/-- where a row and a column are, or are not -/
theorem cellCase {R C : Nat} (hR1 : 1 ≤ R) (hC1 : 1 ≤ C) (hR : R ≤ 8) (hC : C ≤ 8) (r c : Int32) : (¬ (0 ≤ r ∧ r < nI R ∧ 0 ≤ c ∧ c < nI C) ∧ ¬ ((0 ≤ r ∧ r ≤ nI R - 1) ∧ (0 ≤ c ∧ c ≤ nI C - 1))) ∨ ∃ r' c' : Nat, r' < R ∧ c' < C ∧ r = nI r' ∧ c = nI c' ∧ (0 ≤ r ∧ r < nI R ∧ 0 ≤ c ∧ c < nI C) ∧ ((0 ≤ r ∧ r ≤ nI R - 1) ∧ (0 ≤ c ∧ c ≤ nI C - 1)) := by
  rw [nI_p1 hR1, nI_p1 hC1]
  by_cases h : 0 ≤ r ∧ r < nI R ∧ 0 ≤ c ∧ c < nI C
  · obtain ⟨h1, h2, h3, h4⟩ := h
    obtain ⟨r', q1, rfl⟩ := in_nI0 (by omega) h1 h2
    obtain ⟨c', q2, rfl⟩ := in_nI0 (by omega) h3 h4
    exact Or.inr ⟨r', c', q1, q2, rfl, rfl, ⟨h1, h2, h3, h4⟩, ⟨h1, nI_le (by omega) (by omega)⟩, h3, nI_le (by omega) (by omega)⟩
  · refine Or.inl ⟨h, ?_⟩
    rintro ⟨⟨h1, h2⟩, h3, h4⟩
    obtain ⟨r', -, q1, rfl⟩ := in_nI (a := 0) (by omega) (by omega) h1 h2
    obtain ⟨c', -, q2, rfl⟩ := in_nI (a := 0) (by omega) (by omega) h3 h4
    exact h ⟨h1, nI_lt (by omega) (by omega), h3, nI_lt (by omega) (by omega)⟩
theorem step_set {M : Mm} (hI : Inv M) (r c v : Int32) : StepI kX6_set kX7_set [.int r, .int c, .int v] M := by
  obtain ⟨⟨hR, R, C, cc, t, T, P, D, L, g⟩, -⟩ := id hI
  obtain ⟨⟨⟨r1, r2⟩, ⟨c1, c2⟩, -, -⟩, -, ⟨n0, n1, -, -, -, -, -, -⟩, -⟩ := id g
  have e30 : M.1 3 0 = nI R := (hR.lo (k := 0) (by omega)).trans n0
  have e31 : M.1 3 1 = nI C := (hR.lo (k := 1) (by omega)).trans n1
  rcases cellCase (by omega) (by omega) r2 c2 r c with ⟨h1, h2⟩ | ⟨r', c', hr, hc, rfl, rfl, h1, h2⟩
  · refine combN hI qX6_set qX7_set (-1000000001) (fun Q h => ?_) (fun M1 Q hM h => ?_)
    · simp only [eX6_set_0, eX6_set_1, eX6_set_4, eX6_set_7, eX6_set_8, eX6_set_9, eX6_set_12, eX6_set_15, eX6_set_17, eX6_set_18, eX6_set_19, eX6_set_20, eX6_set_23, eX6_set_26, eX6_set_29, eX6_set_31, eX6_set_32, eX6_set_33, eX6_set_36, eX6_set_39, eX6_set_40, eX6_set_41, eX6_set_44, eX6_set_46, eX6_set_47, eX6_set_50, eX6_set_53, eX6_set_56, eX6_set_58, eX6_set_59, eX6_set_61, eX6_set_62, eX6_set_65, eX6_set_68, eX6_set_71, eX6_set_73, eX6_set_74, eX6_set_75, eX6_set_77, eX6_set_in, q_has, q_within, q_at, e30, e31, h1, Option.toList_some, Option.toList_none, List.cons_append, List.nil_append, b2_0, Classical.not_not, false_implies, true_implies, implies_true, true_and, and_true, not_true_eq_false, not_false_eq_true]
      exact h
    · simp only [eX7_set_0, eX7_set_1, eX7_set_2, eX7_set_3, eX7_set_6, eX7_set_9, eX7_set_11, eX7_set_12, eX7_set_13, eX7_set_14, eX7_set_17, eX7_set_20, eX7_set_23, eX7_set_25, eX7_set_26, eX7_set_28, eX7_set_29, eX7_set_30, eX7_set_31, eX7_set_34, eX7_set_35, eX7_set_37, eX7_set_38, eX7_set_41, eX7_set_43, eX7_set_44, eX7_set_46, eX7_set_47, eX7_set_50, eX7_set_52, eX7_set_53, eX7_set_54, eX7_set_56, eX7_set_in, q_isCell, q_in, q_cellAt, hM, n0, n1, h2, Option.toList_some, Option.toList_none, List.cons_append, List.nil_append, b2_0, Classical.not_not, false_implies, true_implies, implies_true, true_and, and_true, not_true_eq_false, not_false_eq_true]
      exact h
  · have hi := idx_lt hr hc
    have hrc := rc_le r2 c2
    by_cases hv : 0 ≤ v ∧ v ≤ 999
    · have hcl : (nI (r' * C + c')).toNatClampNeg = r' * C + c' := nI_clamp (by omega)
      have hcl2 : (nI (18 + (C * r' + c'))).toNatClampNeg = 18 + (r' * C + c') := by rw [Nat.mul_comm C r']; exact nI_clamp (by omega)
      obtain ⟨x, -, hx, rfl⟩ := in_nI (a := 0) (b := 999) (by omega) (by omega) hv.1 hv.2
      refine combI hI qX6_set qX7_set (upd (M.1 52) (18 + (r' * C + c')) (nI x)) (M.1 52 (18 + (r' * C + c'))) ⟨R, C, cc, t, T, P, D, L, g.raw ?_ ?_⟩ (fun Q h => ?_) (fun M1 Q hM h => ?_)
      · intro k hk
        simp only [upd]
        rw [if_neg (by omega)]
      · intro k hk
        simp only [upd]
        split
        · exact ⟨x, hx, rfl⟩
        · exact g.2.2.2.2.2.2.2.1 k hk
      · simp only [eX6_set_0, eX6_set_1, eX6_set_4, eX6_set_7, eX6_set_8, eX6_set_9, eX6_set_12, eX6_set_15, eX6_set_17, eX6_set_18, eX6_set_19, eX6_set_20, eX6_set_23, eX6_set_26, eX6_set_29, eX6_set_31, eX6_set_32, eX6_set_33, eX6_set_36, eX6_set_39, eX6_set_40, eX6_set_41, eX6_set_44, eX6_set_46, eX6_set_47, eX6_set_50, eX6_set_53, eX6_set_56, eX6_set_58, eX6_set_59, eX6_set_61, eX6_set_62, eX6_set_65, eX6_set_68, eX6_set_71, eX6_set_73, eX6_set_74, eX6_set_75, eX6_set_77, eX6_set_in, q_has, q_within, q_at, e30, e31, h1, hv, pk_mul, nI_add, hcl, vpn (show r' * C + c' < 64 by omega) (by decide : 64 < 2147483648), Option.toList_some, Option.toList_none, List.cons_append, List.nil_append, b2_0, Classical.not_not, false_implies, true_implies, implies_true, true_and, and_true, not_true_eq_false, not_false_eq_true]
        rw [show M.1 4 (r' * C + c') = M.1 52 (18 + (r' * C + c')) from hR.raw (by omega)]
        exact h _ (FrC.rf.set (by omega)) (hR.put (by rw [(ec_raw (by omega)).1]) (by rw [(ec_raw (by omega)).2]) (by omega) (by omega))
      · simp only [eX7_set_0, eX7_set_1, eX7_set_2, eX7_set_3, eX7_set_6, eX7_set_9, eX7_set_11, eX7_set_12, eX7_set_13, eX7_set_14, eX7_set_17, eX7_set_20, eX7_set_23, eX7_set_25, eX7_set_26, eX7_set_28, eX7_set_29, eX7_set_30, eX7_set_31, eX7_set_34, eX7_set_35, eX7_set_37, eX7_set_38, eX7_set_41, eX7_set_43, eX7_set_44, eX7_set_46, eX7_set_47, eX7_set_50, eX7_set_52, eX7_set_53, eX7_set_54, eX7_set_56, eX7_set_in, q_isCell, q_in, q_cellAt, hM, n0, n1, h2, hv, nlit 18, pk_mul, nI_add, hcl2, vpn (show 18 + (C * r' + c') < 316 by rw [Nat.mul_comm C r']; omega) (by decide : 316 < 2147483648), Option.toList_some, Option.toList_none, List.cons_append, List.nil_append, b2_0, Classical.not_not, false_implies, true_implies, implies_true, true_and, and_true, not_true_eq_false, not_false_eq_true]
        exact h _ (FrM.rf.set (by omega)) (by rw [setI_at, hM])
    · refine combN hI qX6_set qX7_set (-1000000002) (fun Q h => ?_) (fun M1 Q hM h => ?_)
      · simp only [eX6_set_0, eX6_set_1, eX6_set_4, eX6_set_7, eX6_set_8, eX6_set_9, eX6_set_12, eX6_set_15, eX6_set_17, eX6_set_18, eX6_set_19, eX6_set_20, eX6_set_23, eX6_set_26, eX6_set_29, eX6_set_31, eX6_set_32, eX6_set_33, eX6_set_36, eX6_set_39, eX6_set_40, eX6_set_41, eX6_set_44, eX6_set_46, eX6_set_47, eX6_set_50, eX6_set_53, eX6_set_56, eX6_set_58, eX6_set_59, eX6_set_61, eX6_set_62, eX6_set_65, eX6_set_68, eX6_set_71, eX6_set_73, eX6_set_74, eX6_set_75, eX6_set_77, eX6_set_in, q_has, q_within, q_at, e30, e31, h1, hv, Option.toList_some, Option.toList_none, List.cons_append, List.nil_append, b2_0, Classical.not_not, false_implies, true_implies, implies_true, true_and, and_true, not_true_eq_false, not_false_eq_true]
        exact h
      · simp only [eX7_set_0, eX7_set_1, eX7_set_2, eX7_set_3, eX7_set_6, eX7_set_9, eX7_set_11, eX7_set_12, eX7_set_13, eX7_set_14, eX7_set_17, eX7_set_20, eX7_set_23, eX7_set_25, eX7_set_26, eX7_set_28, eX7_set_29, eX7_set_30, eX7_set_31, eX7_set_34, eX7_set_35, eX7_set_37, eX7_set_38, eX7_set_41, eX7_set_43, eX7_set_44, eX7_set_46, eX7_set_47, eX7_set_50, eX7_set_52, eX7_set_53, eX7_set_54, eX7_set_56, eX7_set_in, q_isCell, q_in, q_cellAt, hM, n0, n1, h2, hv, Option.toList_some, Option.toList_none, List.cons_append, List.nil_append, b2_0, Classical.not_not, false_implies, true_implies, implies_true, true_and, and_true, not_true_eq_false, not_false_eq_true]
        exact h
