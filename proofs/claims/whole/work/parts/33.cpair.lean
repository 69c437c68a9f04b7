/-! the class pairs -/
def FrP (M M' : Mm) : Prop := (∀ a, ¬ (46 ≤ a ∧ a ≤ 49) → M'.1 a = M.1 a) ∧ M'.2 = M.2
theorem FrP.rf {M : Mm} : FrP M M := ⟨fun _ _ => rfl, rfl⟩
theorem FrP.set {M M' : Mm} (h : FrP M M') {a p : Nat} {v : Int32} (ha : 46 ≤ a ∧ a ≤ 49) : FrP M (setI M' a p v) := by
  refine ⟨?_, h.2⟩
  intro q h1
  simp only [setI]
  rw [if_neg (by omega)]
  exact h.1 q h1
section CPR
variable {R C n m D : Nat} {pt qk : Nat → Nat}
def PC (M : Mm) (R C n m D : Nat) (pt qk : Nat → Nat) : Prop := (R ≤ 8 ∧ 1 ≤ C ∧ C ≤ 8 ∧ n ≤ 6 ∧ m ≤ 6 ∧ D ≤ 14) ∧ (M.1 10 5 = nI n ∧ M.1 8 1 = nI m) ∧ (∀ j, j < n → pt j < R * C ∧ M.1 12 j = nI (pt j)) ∧ ∀ k, k < m → qk k < R * C ∧ M.1 9 k = nI (qk k)
theorem PC.w_le {M : Mm} (h : PC M R C n m D pt qk) {t k : Nat} (ht : t < n) (hk : k < m) : wA C pt qk t k ≤ 14 := by
  obtain ⟨⟨a, b, c, -⟩, -, p, q⟩ := h
  exact wy_le a b c (p t ht).1 (q k hk).1
theorem PC.fr {M M' : Mm} (h : PC M R C n m D pt qk) (f : FrP M M') : PC M' R C n m D pt qk := by
  unfold PC at h ⊢
  rw [f.1 10 (by omega), f.1 8 (by omega), f.1 12 (by omega), f.1 9 (by omega)]
  exact h
/-- what the pairing holds once measured -/
def HP (M : Mm) (w : Nat → Nat → Nat) (n m D : Nat) : Prop := M.1 46 3 = nI n ∧ M.1 46 4 = nI m ∧ M.1 46 5 = nI D ∧ ∀ t k, t < n → k < m → M.1 47 (t * 6 + k) = nI (w t k)
theorem HP.set {M : Mm} {w : Nat → Nat → Nat} {a p : Nat} {v : Int32} (h : HP M w n m D) (ha : a = 48 ∨ a = 49 ∨ (a = 46 ∧ 6 ≤ p)) : HP (setI M a p v) w n m D := by
  obtain ⟨h1, h2, h3, h4⟩ := h
  have e47 : (setI M a p v).1 47 = M.1 47 := setI_ne (by omega)
  have e46 : ∀ j, j < 6 → (setI M a p v).1 46 j = M.1 46 j := fun j hj => by
    by_cases z : a = 46
    · subst z
      rw [setI_at, upd_ne (by omega)]
    · rw [setI_ne (by omega)]
  refine ⟨by rw [e46 3 (by omega)]; exact h1, by rw [e46 4 (by omega)]; exact h2, by rw [e46 5 (by omega)]; exact h3, ?_⟩
  rw [e47]
  exact h4
theorem l_ms1 {Q : Qt} {M0 : Mm} {t : Nat} {xD : Int32} (h : PC M0 R C n m D pt qk) (ht : t < n) (hQ : ∀ M' : Mm, FrP M0 M' → M'.1 46 = M0.1 46 → (∀ i k, i < t + 1 → k < m → M'.1 47 (i * 6 + k) = nI (wA C pt qk i k)) → V pgX3_measure Q 83 [.ref 46, .ref 10, .ref 8, .int (nI C), .int xD, .int (nI t), .int (nI m)] [] M') (h4 : M0.1 46 4 = nI m) : ∀ (d k : Nat) (M : Mm), k + d = m → FrP M0 M → M.1 46 = M0.1 46 → (∀ i k, i < t → k < m → M.1 47 (i * 6 + k) = nI (wA C pt qk i k)) → (∀ k', k' < k → M.1 47 (t * 6 + k') = nI (wA C pt qk t k')) → V pgX3_measure Q 37 [.ref 46, .ref 10, .ref 8, .int (nI C), .int xD, .int (nI t), .int (nI k)] [] M := by
  intro d
  induction d with
  | zero =>
    intro k M hk hF hN hw hv
    have : k = m := by omega
    subst this
    have e4 : M.1 46 4 = nI k := by rw [hN]; exact h4
    rw [eX3_measure_37]
    simp only [eX3_measure_0, eX3_measure_1, eX3_measure_2, eX3_measure_5, eX3_measure_8, eX3_measure_9, eX3_measure_10, eX3_measure_13, eX3_measure_16, eX3_measure_17, eX3_measure_19, eX3_measure_22, eX3_measure_23, eX3_measure_27, eX3_measure_28, eX3_measure_31, eX3_measure_34, eX3_measure_35, eX3_measure_39, eX3_measure_40, eX3_measure_43, eX3_measure_46, eX3_measure_47, eX3_measure_50, eX3_measure_52, eX3_measure_54, eX3_measure_55, eX3_measure_57, eX3_measure_58, eX3_measure_59, eX3_measure_62, eX3_measure_64, eX3_measure_65, eX3_measure_66, eX3_measure_69, eX3_measure_71, eX3_measure_72, eX3_measure_73, eX3_measure_76, eX3_measure_77, eX3_measure_80, eX3_measure_86, eX3_measure_89, eX3_measure_in, e4, Int32.le_refl, Option.toList_some, Option.toList_none, List.cons_append, List.nil_append, b2_0, Classical.not_not, false_implies, true_implies, implies_true, true_and, and_true, not_true_eq_false, not_false_eq_true]
    refine hQ M hF hN (fun i k' hi hk' => ?_)
    by_cases e : i = t
    · rw [e]; exact hv k' hk'
    · exact hw i k' (by omega) hk'
  | succ d ih =>
    intro k M hk hF hN hw hv
    have e4 : M.1 46 4 = nI m := by rw [hN]; exact h4
    obtain ⟨⟨a, b, c, hn, hm, hD⟩, -, p, q⟩ := h.fr hF
    rw [eX3_measure_37]
    simp only [eX3_measure_0, eX3_measure_1, eX3_measure_2, eX3_measure_5, eX3_measure_8, eX3_measure_9, eX3_measure_10, eX3_measure_13, eX3_measure_16, eX3_measure_17, eX3_measure_19, eX3_measure_22, eX3_measure_23, eX3_measure_27, eX3_measure_28, eX3_measure_31, eX3_measure_34, eX3_measure_35, eX3_measure_39, eX3_measure_40, eX3_measure_43, eX3_measure_46, eX3_measure_47, eX3_measure_50, eX3_measure_52, eX3_measure_54, eX3_measure_55, eX3_measure_57, eX3_measure_58, eX3_measure_59, eX3_measure_62, eX3_measure_64, eX3_measure_65, eX3_measure_66, eX3_measure_69, eX3_measure_71, eX3_measure_72, eX3_measure_73, eX3_measure_76, eX3_measure_77, eX3_measure_80, eX3_measure_86, eX3_measure_89, eX3_measure_in, e4, nI_ge (show k < m by omega) (show m < 2 ^ 31 by omega), nI_clamp (show t < 2 ^ 31 by omega), nI_clamp (show k < 2 ^ 31 by omega), vpn (show t < 6 by omega) (by decide : 6 < 2147483648), vpn (show k < 6 by omega) (by decide : 6 < 2147483648), (p t ht).2, (q k (by omega)).2, Option.toList_some, Option.toList_none, List.cons_append, List.nil_append, b2_0, Classical.not_not, false_implies, true_implies, implies_true, true_and, and_true, not_true_eq_false, not_false_eq_true]
    refine c_way a b c (p t ht).1 (q k (by omega)).1 ?_
    simp only [eX3_measure_0, eX3_measure_1, eX3_measure_2, eX3_measure_5, eX3_measure_8, eX3_measure_9, eX3_measure_10, eX3_measure_13, eX3_measure_16, eX3_measure_17, eX3_measure_19, eX3_measure_22, eX3_measure_23, eX3_measure_27, eX3_measure_28, eX3_measure_31, eX3_measure_34, eX3_measure_35, eX3_measure_39, eX3_measure_40, eX3_measure_43, eX3_measure_46, eX3_measure_47, eX3_measure_50, eX3_measure_52, eX3_measure_54, eX3_measure_55, eX3_measure_57, eX3_measure_58, eX3_measure_59, eX3_measure_62, eX3_measure_64, eX3_measure_65, eX3_measure_66, eX3_measure_69, eX3_measure_71, eX3_measure_72, eX3_measure_73, eX3_measure_76, eX3_measure_77, eX3_measure_80, eX3_measure_86, eX3_measure_89, eX3_measure_in, mt6, nI_add, nI_1, nI_clamp (show t * 6 + k < 2 ^ 31 by omega), vpn (show t * 6 + k < 36 by omega) (by decide : 36 < 2147483648), Option.toList_some, Option.toList_none, List.cons_append, List.nil_append, b2_0, Classical.not_not, false_implies, true_implies, implies_true, true_and, and_true, not_true_eq_false, not_false_eq_true]
    refine ih (k + 1) _ (by omega) (hF.set (by omega)) (by rw [setI_ne (by omega)]; exact hN) (fun i k' hi hk' => by rw [setI_at, upd_ne (by omega)]; exact hw i k' hi hk') (fun k' hk' => ?_)
    rw [setI_at]
    by_cases e : k' = k
    · subst e
      rw [upd_at]
      rfl
    · rw [upd_ne (by omega)]
      exact hv k' (by omega)
theorem l_ms2 {Q : Qt} {M0 : Mm} {xD : Int32} (h : PC M0 R C n m D pt qk) (h3 : M0.1 46 3 = nI n) (h4 : M0.1 46 4 = nI m) (hQ : ∀ M' : Mm, FrP M0 M' → M'.1 46 = M0.1 46 → (∀ i k, i < n → k < m → M'.1 47 (i * 6 + k) = nI (wA C pt qk i k)) → Q none M') : ∀ (d t : Nat) (M : Mm) (l6 : Value), t + d = n → FrP M0 M → M.1 46 = M0.1 46 → (∀ i k, i < t → k < m → M.1 47 (i * 6 + k) = nI (wA C pt qk i k)) → V pgX3_measure Q 25 [.ref 46, .ref 10, .ref 8, .int (nI C), .int xD, .int (nI t), l6] [] M := by
  obtain ⟨⟨-, -, -, hn, -, -⟩, -, -, -⟩ := id h
  intro d
  induction d with
  | zero =>
    intro t M l6 ht hF hN hw
    have : t = n := by omega
    subst this
    have e3 : M.1 46 3 = nI t := by rw [hN]; exact h3
    rw [eX3_measure_25]
    simp only [eX3_measure_0, eX3_measure_1, eX3_measure_2, eX3_measure_5, eX3_measure_8, eX3_measure_9, eX3_measure_10, eX3_measure_13, eX3_measure_16, eX3_measure_17, eX3_measure_19, eX3_measure_22, eX3_measure_23, eX3_measure_27, eX3_measure_28, eX3_measure_31, eX3_measure_34, eX3_measure_35, eX3_measure_39, eX3_measure_40, eX3_measure_43, eX3_measure_46, eX3_measure_47, eX3_measure_50, eX3_measure_52, eX3_measure_54, eX3_measure_55, eX3_measure_57, eX3_measure_58, eX3_measure_59, eX3_measure_62, eX3_measure_64, eX3_measure_65, eX3_measure_66, eX3_measure_69, eX3_measure_71, eX3_measure_72, eX3_measure_73, eX3_measure_76, eX3_measure_77, eX3_measure_80, eX3_measure_83, eX3_measure_86, eX3_measure_89, eX3_measure_in, e3, Int32.le_refl, Option.toList_some, Option.toList_none, List.cons_append, List.nil_append, b2_0, Classical.not_not, false_implies, true_implies, implies_true, true_and, and_true, not_true_eq_false, not_false_eq_true]
    exact hQ M hF hN hw
  | succ d ih =>
    intro t M l6 ht hF hN hw
    have e3 : M.1 46 3 = nI n := by rw [hN]; exact h3
    rw [eX3_measure_25]
    simp only [eX3_measure_0, eX3_measure_1, eX3_measure_2, eX3_measure_5, eX3_measure_8, eX3_measure_9, eX3_measure_10, eX3_measure_13, eX3_measure_16, eX3_measure_17, eX3_measure_19, eX3_measure_22, eX3_measure_23, eX3_measure_27, eX3_measure_28, eX3_measure_31, eX3_measure_34, eX3_measure_35, eX3_measure_39, eX3_measure_40, eX3_measure_43, eX3_measure_46, eX3_measure_47, eX3_measure_50, eX3_measure_52, eX3_measure_54, eX3_measure_55, eX3_measure_57, eX3_measure_58, eX3_measure_59, eX3_measure_62, eX3_measure_64, eX3_measure_65, eX3_measure_66, eX3_measure_69, eX3_measure_71, eX3_measure_72, eX3_measure_73, eX3_measure_76, eX3_measure_77, eX3_measure_80, eX3_measure_83, eX3_measure_86, eX3_measure_89, eX3_measure_in, e3, nI_ge (show t < n by omega) (show n < 2 ^ 31 by omega), Option.toList_some, Option.toList_none, List.cons_append, List.nil_append, b2_0, Classical.not_not, false_implies, true_implies, implies_true, true_and, and_true, not_true_eq_false, not_false_eq_true]
    refine l_ms1 (M0 := M0) h (by omega) (fun M' F N w' => ?_) h4 m 0 M (by omega) hF hN hw (fun k' hk' => by omega)
    simp only [eX3_measure_0, eX3_measure_1, eX3_measure_2, eX3_measure_5, eX3_measure_8, eX3_measure_9, eX3_measure_10, eX3_measure_13, eX3_measure_16, eX3_measure_17, eX3_measure_19, eX3_measure_22, eX3_measure_23, eX3_measure_27, eX3_measure_28, eX3_measure_31, eX3_measure_34, eX3_measure_35, eX3_measure_39, eX3_measure_40, eX3_measure_43, eX3_measure_46, eX3_measure_47, eX3_measure_50, eX3_measure_52, eX3_measure_54, eX3_measure_55, eX3_measure_57, eX3_measure_58, eX3_measure_59, eX3_measure_62, eX3_measure_64, eX3_measure_65, eX3_measure_66, eX3_measure_69, eX3_measure_71, eX3_measure_72, eX3_measure_73, eX3_measure_76, eX3_measure_77, eX3_measure_80, eX3_measure_83, eX3_measure_86, eX3_measure_89, eX3_measure_in, nI_1, Option.toList_some, Option.toList_none, List.cons_append, List.nil_append, b2_0, Classical.not_not, false_implies, true_implies, implies_true, true_and, and_true, not_true_eq_false, not_false_eq_true]
    exact ih (t + 1) M' _ (by omega) F N w'
theorem c_measure {Q : Qt} {M : Mm} (h : PC M R C n m D pt qk) (hQ : ∀ M' : Mm, FrP M M' → HP M' (wA C pt qk) n m D → Q none M') : kX3_measure [.ref 46, .ref 10, .ref 8, .int (nI C), .int (nI D)] M Q := by
  obtain ⟨-, ⟨t1, t2⟩, -, -⟩ := id h
  have s1 : (setI M 46 3 (nI n)).1 8 1 = nI m := by rw [setI_ne (by omega)]; exact t2
  simp only [eX3_measure_0, eX3_measure_1, eX3_measure_2, eX3_measure_5, eX3_measure_8, eX3_measure_9, eX3_measure_10, eX3_measure_13, eX3_measure_16, eX3_measure_17, eX3_measure_19, eX3_measure_22, eX3_measure_23, eX3_measure_27, eX3_measure_28, eX3_measure_31, eX3_measure_34, eX3_measure_35, eX3_measure_39, eX3_measure_40, eX3_measure_43, eX3_measure_46, eX3_measure_47, eX3_measure_50, eX3_measure_52, eX3_measure_54, eX3_measure_55, eX3_measure_57, eX3_measure_58, eX3_measure_59, eX3_measure_62, eX3_measure_64, eX3_measure_65, eX3_measure_66, eX3_measure_69, eX3_measure_71, eX3_measure_72, eX3_measure_73, eX3_measure_76, eX3_measure_77, eX3_measure_80, eX3_measure_83, eX3_measure_86, eX3_measure_89, eX3_measure_in, t1, s1, Option.toList_some, Option.toList_none, List.cons_append, List.nil_append, b2_0, Classical.not_not, false_implies, true_implies, implies_true, true_and, and_true, not_true_eq_false, not_false_eq_true]
  have F1 : FrP M (setI (setI (setI M 46 3 (nI n)) 46 4 (nI m)) 46 5 (nI D)) := ((FrP.rf.set (by omega)).set (by omega)).set (by omega)
  have x3 : (setI (setI (setI M 46 3 (nI n)) 46 4 (nI m)) 46 5 (nI D)).1 46 3 = nI n := by simp only [setI_at]; rw [upd_ne (by omega), upd_ne (by omega), upd_at]
  have x4 : (setI (setI (setI M 46 3 (nI n)) 46 4 (nI m)) 46 5 (nI D)).1 46 4 = nI m := by simp only [setI_at]; rw [upd_ne (by omega), upd_at]
  have x5 : (setI (setI (setI M 46 3 (nI n)) 46 4 (nI m)) 46 5 (nI D)).1 46 5 = nI D := by simp only [setI_at]; rw [upd_at]
  refine l_ms2 (h.fr F1) x3 x4 (fun M' F N w' => hQ M' ⟨fun a ha => (F.1 a ha).trans (F1.1 a ha), F.2.trans F1.2⟩ ⟨by rw [N]; exact x3, by rw [N]; exact x4, by rw [N]; exact x5, w'⟩) n 0 _ _ (by omega) FrP.rf rfl (fun i k hi => by omega)
/-- the least costs from TRACK t on, where they are asked for -/
def LL (M : Mm) (w : Nat → Nat → Nat) (n m D t : Nat) : Prop := ∀ j s, t ≤ j → j ≤ n → s < 2 ^ m → pcn 8 s ≤ j → M.1 48 (j * 64 + s) = nI (cst w n m D (n - j) s)
theorem c_cost {Q : Qt} {M : Mm} {w : Nat → Nat → Nat} {t s k : Nat} (hn : n ≤ 6) (hm : m ≤ 6) (hD : D ≤ 14) (hw : w t k ≤ 14) (h : HP M w n m D) (ht : t < n) (hs : s < 2 ^ m) (hk : k < m) (hp : pcn 8 s ≤ t) (hc : LL M w n m D (t + 1)) (hQ : Q (some (.int (cvI w n m D t s k 1000000))) M) : kX3_costWith [.ref 46, .int (nI t), .int (nI k), .int (nI s)] M Q := by
  have h64 : 2 ^ m ≤ 64 := (sh_m m (by omega)).2
  obtain ⟨h3, h4, h5, h6⟩ := h
  have lt := or_lt m (by omega) s hs k hk
  have eo := (bt_or s (by omega) k (by omega)).1
  have bc := bt_c s (by omega) k (by omega)
  have wle : nI (w t k) ≤ nI D ↔ w t k ≤ D := nI_leI (by omega) (by omega)
  simp only [eX3_costWith_0, eX3_costWith_1, eX3_costWith_4, eX3_costWith_5, eX3_costWith_7, eX3_costWith_8, eX3_costWith_9, eX3_costWith_10, eX3_costWith_11, eX3_costWith_13, eX3_costWith_14, eX3_costWith_15, eX3_costWith_16, eX3_costWith_17, eX3_costWith_18, eX3_costWith_21, eX3_costWith_23, eX3_costWith_24, eX3_costWith_27, eX3_costWith_30, eX3_costWith_32, eX3_costWith_33, eX3_costWith_35, eX3_costWith_36, eX3_costWith_39, eX3_costWith_40, eX3_costWith_41, eX3_costWith_42, eX3_costWith_44, eX3_costWith_45, eX3_costWith_46, eX3_costWith_47, eX3_costWith_48, eX3_costWith_49, eX3_costWith_50, eX3_costWith_51, eX3_costWith_52, eX3_costWith_53, eX3_costWith_in, mt6, mt64, nI_add, nI_1, nI_clamp (show t * 6 + k < 2 ^ 31 by omega), vpn (show t * 6 + k < 36 by omega) (by decide : 36 < 2147483648), h6 t k ht hk, bc, h5, wle, eo, nI_clamp (show (t + 1) * 64 + (s ||| 2 ^ k) < 2 ^ 31 by omega), vpn (show (t + 1) * 64 + (s ||| 2 ^ k) < 448 by omega) (by decide : 448 < 2147483648), Option.toList_some, Option.toList_none, List.cons_append, List.nil_append, b2_0, Classical.not_not, false_implies, true_implies, implies_true, true_and, and_true, not_true_eq_false, not_false_eq_true]
  unfold cvI at hQ
  refine ⟨fun z => ?_, fun z => ⟨fun y => ?_, fun y => ?_⟩⟩
  · rw [if_neg (fun u => z ((vl_iff (w := w) (t := t) (k := k)).mp u).1)] at hQ
    exact hQ
  · have z' : bt s k = false := by simpa using z
    rw [if_pos ((vl_iff (w := w) (t := t) (k := k)).mpr ⟨z', y⟩)] at hQ
    rw [hc (t + 1) _ (by omega) (by omega) lt (by rw [bt_pc s (by omega) k (by omega) z']; omega), ← Nat.sub_sub, nI_add]
    exact hQ
  · rw [if_neg (fun u => y ((vl_iff (w := w) (t := t) (k := k)).mp u).2)] at hQ
    exact hQ
theorem c_least {Q : Qt} {M : Mm} {w : Nat → Nat → Nat} {t s : Nat} (hn : n ≤ 6) (hm : m ≤ 6) (hD : D ≤ 14) (hw : ∀ k, k < m → w t k ≤ 14) (h : HP M w n m D) (ht : t < n) (hs : s < 2 ^ m) (hp : pcn 8 s ≤ t) (hc : LL M w n m D (t + 1)) (hQ : Q (some (.int (nI (cst w n m D (n - t) s)))) M) : kX3_leastFrom [.ref 46, .int (nI t), .int (nI s)] M Q := by
  have h64 : 2 ^ m ≤ 64 := (sh_m m (by omega)).2
  obtain ⟨h3, h4, h5, h6⟩ := id h
  have e0 := hc (t + 1) s (by omega) (by omega) hs (by omega)
  rw [← Nat.sub_sub] at e0
  have cl := cst_le w n m D hm hD (n - t - 1) s
  have lp : ∀ d k, k + d = m → V pgX3_leastFrom Q 24 [.ref 46, .int (nI t), .int (nI s), .int (nI (lwst (vl w D t s) (fun k => w t k + cst w n m D (n - t - 1) (s ||| 2 ^ k)) (D + 1 + cst w n m D (n - t - 1) s) k)), .int (nI k)] [] M := by
    intro d
    induction d with
    | zero =>
      intro k hk
      have : k = m := by omega
      subst this
      rw [eX3_leastFrom_24]
      simp only [eX3_leastFrom_0, eX3_leastFrom_1, eX3_leastFrom_4, eX3_leastFrom_5, eX3_leastFrom_6, eX3_leastFrom_7, eX3_leastFrom_10, eX3_leastFrom_11, eX3_leastFrom_12, eX3_leastFrom_13, eX3_leastFrom_15, eX3_leastFrom_16, eX3_leastFrom_17, eX3_leastFrom_18, eX3_leastFrom_19, eX3_leastFrom_20, eX3_leastFrom_21, eX3_leastFrom_22, eX3_leastFrom_26, eX3_leastFrom_27, eX3_leastFrom_30, eX3_leastFrom_33, eX3_leastFrom_34, eX3_leastFrom_35, eX3_leastFrom_36, eX3_leastFrom_38, eX3_leastFrom_39, eX3_leastFrom_42, eX3_leastFrom_45, eX3_leastFrom_46, eX3_leastFrom_49, eX3_leastFrom_52, eX3_leastFrom_53, eX3_leastFrom_in, h4, Int32.le_refl, Option.toList_some, Option.toList_none, List.cons_append, List.nil_append, b2_0, Classical.not_not, false_implies, true_implies, implies_true, true_and, and_true, not_true_eq_false, not_false_eq_true]
      have e : n - t = (n - t - 1) + 1 := by omega
      rw [e] at hQ
      unfold cst at hQ
      rw [show n - (n - t - 1) - 1 = t by omega] at hQ
      exact hQ
    | succ d ih =>
      intro k hk
      have ll := lwst_le (vl w D t s) (fun k => w t k + cst w n m D (n - t - 1) (s ||| 2 ^ k)) (D + 1 + cst w n m D (n - t - 1) s) k
      have st : ∀ x, x = nI (lwst (vl w D t s) (fun k => w t k + cst w n m D (n - t - 1) (s ||| 2 ^ k)) (D + 1 + cst w n m D (n - t - 1) s) (k + 1)) → V pgX3_leastFrom Q 24 [.ref 46, .int (nI t), .int (nI s), .int x, .int (nI (k + 1))] [] M := fun x e => by
        rw [e]
        exact ih (k + 1) (by omega)
      have cc : nI (lwst (vl w D t s) (fun k => w t k + cst w n m D (n - t - 1) (s ||| 2 ^ k)) (D + 1 + cst w n m D (n - t - 1) s) k) ≤ cvI w n m D t s k 1000000 ↔ _ := cv_cmp (n := n) (m := m) (D := D) w (t := t) (s := s) (k := k) (big := 1000000) hm hD hn (hw k (by omega)) (by omega) (by omega) (by omega)
      rw [eX3_leastFrom_24]
      simp only [eX3_leastFrom_0, eX3_leastFrom_1, eX3_leastFrom_4, eX3_leastFrom_5, eX3_leastFrom_6, eX3_leastFrom_7, eX3_leastFrom_10, eX3_leastFrom_11, eX3_leastFrom_12, eX3_leastFrom_13, eX3_leastFrom_15, eX3_leastFrom_16, eX3_leastFrom_17, eX3_leastFrom_18, eX3_leastFrom_19, eX3_leastFrom_20, eX3_leastFrom_21, eX3_leastFrom_22, eX3_leastFrom_26, eX3_leastFrom_27, eX3_leastFrom_30, eX3_leastFrom_33, eX3_leastFrom_34, eX3_leastFrom_35, eX3_leastFrom_36, eX3_leastFrom_38, eX3_leastFrom_39, eX3_leastFrom_42, eX3_leastFrom_45, eX3_leastFrom_46, eX3_leastFrom_49, eX3_leastFrom_52, eX3_leastFrom_53, eX3_leastFrom_in, h4, nI_ge (show k < m by omega) (show m < 2 ^ 31 by omega), Option.toList_some, Option.toList_none, List.cons_append, List.nil_append, b2_0, Classical.not_not, false_implies, true_implies, implies_true, true_and, and_true, not_true_eq_false, not_false_eq_true]
      refine c_cost hn hm hD (hw k (by omega)) h ht hs (by omega) hp hc ?_
      simp only [eX3_leastFrom_0, eX3_leastFrom_1, eX3_leastFrom_4, eX3_leastFrom_5, eX3_leastFrom_6, eX3_leastFrom_7, eX3_leastFrom_10, eX3_leastFrom_11, eX3_leastFrom_12, eX3_leastFrom_13, eX3_leastFrom_15, eX3_leastFrom_16, eX3_leastFrom_17, eX3_leastFrom_18, eX3_leastFrom_19, eX3_leastFrom_20, eX3_leastFrom_21, eX3_leastFrom_22, eX3_leastFrom_26, eX3_leastFrom_27, eX3_leastFrom_30, eX3_leastFrom_33, eX3_leastFrom_34, eX3_leastFrom_35, eX3_leastFrom_36, eX3_leastFrom_38, eX3_leastFrom_39, eX3_leastFrom_42, eX3_leastFrom_45, eX3_leastFrom_46, eX3_leastFrom_49, eX3_leastFrom_52, eX3_leastFrom_53, eX3_leastFrom_in, nI_1, Option.toList_some, Option.toList_none, List.cons_append, List.nil_append, b2_0, Classical.not_not, false_implies, true_implies, implies_true, true_and, and_true, not_true_eq_false, not_false_eq_true]
      refine st _ ?_
      rw [lwst]
      by_cases z : vl w D t s k = true ∧ w t k + cst w n m D (n - t - 1) (s ||| 2 ^ k) < lwst (vl w D t s) (fun k => w t k + cst w n m D (n - t - 1) (s ||| 2 ^ k)) (D + 1 + cst w n m D (n - t - 1) s) k
      · have e : cvI w n m D t s k 1000000 = nI (w t k + cst w n m D (n - t - 1) (s ||| 2 ^ k)) := if_pos z.1
        rw [if_pos z, if_pos (Int32.not_le.mp (fun u => cc.mp u z)), e]
      · rw [if_neg z, if_neg (Int32.not_lt.mpr (cc.mpr z))]
  simp only [eX3_leastFrom_0, eX3_leastFrom_1, eX3_leastFrom_4, eX3_leastFrom_5, eX3_leastFrom_6, eX3_leastFrom_7, eX3_leastFrom_10, eX3_leastFrom_11, eX3_leastFrom_12, eX3_leastFrom_13, eX3_leastFrom_15, eX3_leastFrom_16, eX3_leastFrom_17, eX3_leastFrom_18, eX3_leastFrom_19, eX3_leastFrom_20, eX3_leastFrom_21, eX3_leastFrom_22, eX3_leastFrom_26, eX3_leastFrom_27, eX3_leastFrom_30, eX3_leastFrom_33, eX3_leastFrom_34, eX3_leastFrom_35, eX3_leastFrom_36, eX3_leastFrom_38, eX3_leastFrom_39, eX3_leastFrom_42, eX3_leastFrom_45, eX3_leastFrom_46, eX3_leastFrom_49, eX3_leastFrom_52, eX3_leastFrom_53, eX3_leastFrom_in, h5, mt64, nI_add, nI_1, nI_clamp (show (t + 1) * 64 + s < 2 ^ 31 by omega), vpn (show (t + 1) * 64 + s < 448 by omega) (by decide : 448 < 2147483648), e0, Option.toList_some, Option.toList_none, List.cons_append, List.nil_append, b2_0, Classical.not_not, false_implies, true_implies, implies_true, true_and, and_true, not_true_eq_false, not_false_eq_true]
  exact lp m 0 (by omega)
end CPR
