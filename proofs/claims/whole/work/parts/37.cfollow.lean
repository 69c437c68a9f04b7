/-! the class follows its TRACKS -/
def FrT (M M' : Mm) : Prop := (∀ a, ¬ (10 ≤ a ∧ a ≤ 15) → M'.1 a = M.1 a) ∧ M'.2 = M.2
theorem FrT.rf {M : Mm} : FrT M M := ⟨fun _ _ => rfl, rfl⟩
theorem FrT.set {M M' : Mm} (h : FrT M M') {a p : Nat} {v : Int32} (ha : 10 ≤ a ∧ a ≤ 15) : FrT M (setI M' a p v) := by
  refine ⟨?_, h.2⟩
  intro q h1
  simp only [setI]
  rw [if_neg (by omega)]
  exact h.1 q h1
theorem RV.con {f : Nat → Nat → Int32} {b c t k : Nat} {N : Nat → Int32} (h : RV f b c t N) (hk : k < c) (hc : c ≤ 6) : f (b + 8) k = N (274 + k) := by
  have := h (274 + k) (Or.inr (Or.inl ⟨by omega, by omega, by omega⟩))
  unfold enc at this
  rwa [(ec_con (by omega)).1, (ec_con (by omega)).2] at this
theorem RV.trk {f : Nat → Nat → Int32} {b c t j q : Nat} {N : Nat → Int32} (h : RV f b c t N) (hj : j < t) (hq : q < 5) : f (b + 10 + q) j = N (280 + 6 * j + q) := by
  have := h (280 + 6 * j + q) (Or.inr (Or.inr ⟨by omega, by omega, by omega⟩))
  unfold enc at this
  rw [(ec_trk (by omega)).1, (ec_trk (by omega)).2] at this
  rw [← this, Nat.add_assoc]
theorem RV.ext {f : Nat → Nat → Int32} {b c l : Nat} {N : Nat → Int32} (h : RV f b c l N) (he : ∀ q, q < 5 → f (b + 10 + q) l = N (280 + 6 * l + q)) : RV f b c (l + 1) N := by
  intro k hk
  by_cases z : 280 ≤ k ∧ (k - 280) / 6 = l
  · have hq : (k - 280) % 6 < 5 := by
      unfold vld at hk
      omega
    have e : k = 280 + 6 * l + (k - 280) % 6 := by omega
    have x := he ((k - 280) % 6) hq
    rw [e]
    unfold enc
    rw [(ec_trk (by omega)).1, (ec_trk (by omega)).2, ← Nat.add_assoc]
    exact x
  · exact h k (by unfold vld at hk ⊢; omega)
theorem RV.pt {M : Mm} {N : Nat → Int32} {c t j q : Nat} {v : Int32} (h : RV M.1 1 c t N) (hq : q < 6) : RV (setI M (11 + q) j v).1 1 c t (upd N (280 + 6 * j + q) v) := h.put (by rw [(ec_trk hq).1]; omega) (by rw [(ec_trk hq).2])
theorem upd_some' {B : Nat → Int32} {t c x : Nat} {w : Nat → Nat} (hx : x = w c) : upd (upd (upd (upd B (280 + 6 * t + 1) (B (274 + c))) (280 + 6 * t + 2) (B (280 + 6 * t + 2) + 1)) (280 + 6 * t + 3) 0) (280 + 6 * t + 4) (B (280 + 6 * t + 4) + nI x) = fwU B t (some c) w := by
  subst hx
  funext j
  unfold upd fwU
  simp only
  by_cases h1 : j = 280 + 6 * t + 1
  · subst h1
    rw [if_neg (by omega), if_neg (by omega), if_neg (by omega), if_pos rfl, if_pos rfl]
  · by_cases h2 : j = 280 + 6 * t + 2
    · subst h2
      rw [if_neg (by omega), if_neg (by omega), if_pos rfl, if_neg (by omega), if_pos rfl]
    · by_cases h3 : j = 280 + 6 * t + 3
      · subst h3
        rw [if_neg (by omega), if_pos rfl, if_neg (by omega), if_neg (by omega), if_pos rfl]
      · by_cases h4 : j = 280 + 6 * t + 4
        · subst h4
          rw [if_pos rfl, if_neg (by omega), if_neg (by omega), if_neg (by omega)]
          simp
        · rw [if_neg h4, if_neg h3, if_neg h2, if_neg h1, if_neg h1, if_neg h2, if_neg h3, if_neg h4]
def prw (A : Nat → Int32) (ch : Nat → Option Nat) (w : Nat → Nat → Nat) : Nat → Nat → Int32
  | 0 => A
  | t + 1 => fwU (prw A ch w t) t (ch t) (w t)
theorem prw_ok {A : Nat → Int32} {ch : Nat → Option Nat} {w : Nat → Nat → Nat} (hc : ∀ t k, ch t = some k → k < 6) : ∀ t, (∀ k, k < 280 → prw A ch w t k = A k) ∧ (∀ j q, t ≤ j → q < 6 → prw A ch w t (280 + 6 * j + q) = A (280 + 6 * j + q)) ∧ ∀ j q, j < t → q < 6 → prw A ch w t (280 + 6 * j + q) = fwU A j (ch j) (w j) (280 + 6 * j + q)
  | 0 => ⟨fun _ _ => rfl, fun _ _ _ _ => rfl, fun j q h => by omega⟩
  | t + 1 => by
    obtain ⟨h1, h2, h3⟩ := prw_ok (A := A) (w := w) hc t
    refine ⟨fun k hk => (fwU_lo hk).trans (h1 k hk), fun j q hj hq => (fwU_ne (by omega) hq).trans (h2 j q (by omega) hq), fun j q hj hq => ?_⟩
    by_cases e : j = t
    · subst e
      exact fwU_cg (fun k a b => h1 k b) (fun q hq => h2 j q (Nat.le_refl _) hq) (fun c hc' => hc j c hc') q hq
    · exact (fwU_ne e hq).trans (h3 j q (by omega) hq)
section CFW
variable {n m D : Nat} {A : Nat → Int32} {w : Nat → Nat → Nat} {L : Int32}
theorem q_goOn {Q : Qt} {M : Mm} {t : Nat} {p x : Int32} (ht : t < 6) (hQ : Q none (setI (setI (setI (setI M 12 t p) 13 t (M.1 13 t + 1)) 14 t 0) 15 t (M.1 15 t + x))) : kX5_goOn [.ref 10, .int (nI t), .int p, .int x] M Q := by
  have ne : ∀ (M : Mm) (a b j : Nat) (v : Int32), b ≠ a → (setI M a j v).1 b = M.1 b := fun M a b j v h => setI_ne h
  simp only [eX5_goOn_0, eX5_goOn_1, eX5_goOn_4, eX5_goOn_5, eX5_goOn_6, eX5_goOn_7, eX5_goOn_8, eX5_goOn_11, eX5_goOn_12, eX5_goOn_13, eX5_goOn_14, eX5_goOn_15, eX5_goOn_16, eX5_goOn_17, eX5_goOn_18, eX5_goOn_21, eX5_goOn_22, eX5_goOn_23, eX5_goOn_24, eX5_goOn_25, eX5_goOn_28, eX5_goOn_29, eX5_goOn_30, eX5_goOn_31, eX5_goOn_32, eX5_goOn_33, eX5_goOn_34, eX5_goOn_in, nI_clamp (show t < 2 ^ 31 by omega), vpn ht (by decide : 6 < 2147483648), ne _ 12 13 _ _ (by decide), ne _ 12 15 _ _ (by decide), ne _ 13 15 _ _ (by decide), ne _ 14 15 _ _ (by decide), Option.toList_some, Option.toList_none, List.cons_append, List.nil_append, b2_0, Classical.not_not, false_implies, true_implies, implies_true, true_and, and_true, not_true_eq_false, not_false_eq_true]
  exact hQ
theorem l_fo1 {Q : Qt} {M0 : Mm} (hn : n ≤ 6) (hm : m ≤ 6) (hD : D ≤ 14) (hH : HP M0 w n m D) (hP : PL M0 49 w n m D n) (n8 : A 8 = nI m) (n10 : A 10 = nI n) (hQ : ∀ (M' : Mm) (l5 : Value), FrT M0 M' → RV M'.1 1 m n (prw A (chs w n m D) w n) → V pgX5_follow Q 76 [.ref 10, .ref 8, .ref 46, .int L, .int (nI n), l5] [] M') : ∀ (d t : Nat) (M : Mm) (l5 : Value), t + d = n → FrT M0 M → RV M.1 1 m n (prw A (chs w n m D) w t) → V pgX5_follow Q 3 [.ref 10, .ref 8, .ref 46, .int L, .int (nI t), l5] [] M := by
  have pok := prw_ok (A := A) (w := w) (ch := chs w n m D) (fun t k h => by have := (chs_in h).1; omega)
  intro d
  induction d with
  | zero =>
    intro t M l5 ht hF hR
    have : t = n := by omega
    subst this
    have e105 : M.1 10 5 = nI t := ((hR.lo (k := 10) (by omega)).trans ((pok t).1 10 (by omega))).trans n10
    rw [eX5_follow_3]
    simp only [eX5_follow_0, eX5_follow_1, eX5_follow_5, eX5_follow_6, eX5_follow_9, eX5_follow_12, eX5_follow_13, eX5_follow_15, eX5_follow_18, eX5_follow_20, eX5_follow_22, eX5_follow_23, eX5_follow_24, eX5_follow_27, eX5_follow_28, eX5_follow_29, eX5_follow_32, eX5_follow_35, eX5_follow_36, eX5_follow_38, eX5_follow_39, eX5_follow_42, eX5_follow_44, eX5_follow_45, eX5_follow_46, eX5_follow_48, eX5_follow_50, eX5_follow_53, eX5_follow_56, eX5_follow_59, eX5_follow_60, eX5_follow_63, eX5_follow_65, eX5_follow_66, eX5_follow_67, eX5_follow_68, eX5_follow_69, eX5_follow_70, eX5_follow_73, eX5_follow_77, eX5_follow_78, eX5_follow_81, eX5_follow_82, eX5_follow_86, eX5_follow_87, eX5_follow_90, eX5_follow_93, eX5_follow_94, eX5_follow_96, eX5_follow_99, eX5_follow_102, eX5_follow_103, eX5_follow_104, eX5_follow_107, eX5_follow_109, eX5_follow_110, eX5_follow_113, eX5_follow_116, eX5_follow_119, eX5_follow_in, e105, Int32.le_refl, Option.toList_some, Option.toList_none, List.cons_append, List.nil_append, b2_0, Classical.not_not, false_implies, true_implies, implies_true, true_and, and_true, not_true_eq_false, not_false_eq_true]
    exact hQ M _ hF hR
  | succ d ih =>
    intro t M l5 ht hF hR
    have e105 : M.1 10 5 = nI n := ((hR.lo (k := 10) (by omega)).trans ((pok t).1 10 (by omega))).trans n10
    have e81 : M.1 8 1 = nI m := ((hR.lo (k := 8) (by omega)).trans ((pok t).1 8 (by omega))).trans n8
    have e463 : M.1 46 3 = nI n := by rw [hF.1 46 (by omega)]; exact hH.1
    have ex : M.1 49 t = bI (chs w n m D t) := by rw [hF.1 49 (by omega)]; exact hP t (by omega)
    have tin : (0 : Int32) ≤ nI t ∧ nI t ≤ nI n - 1 := ⟨nI0le t (by omega), by rw [nI_p1 (by omega)]; exact nI_le (by omega) (by omega)⟩
    have ih' := fun M' l5 => ih (t + 1) M' l5 (by omega)
    have pw : prw A (chs w n m D) w (t + 1) = fwU (prw A (chs w n m D) w t) t (chs w n m D t) (w t) := rfl
    rw [pw] at ih'
    rw [eX5_follow_3]
    simp only [eX5_follow_0, eX5_follow_1, eX5_follow_5, eX5_follow_6, eX5_follow_9, eX5_follow_12, eX5_follow_13, eX5_follow_15, eX5_follow_18, eX5_follow_20, eX5_follow_22, eX5_follow_23, eX5_follow_24, eX5_follow_27, eX5_follow_28, eX5_follow_29, eX5_follow_32, eX5_follow_35, eX5_follow_36, eX5_follow_38, eX5_follow_39, eX5_follow_42, eX5_follow_44, eX5_follow_45, eX5_follow_46, eX5_follow_48, eX5_follow_50, eX5_follow_53, eX5_follow_56, eX5_follow_59, eX5_follow_60, eX5_follow_63, eX5_follow_65, eX5_follow_66, eX5_follow_67, eX5_follow_68, eX5_follow_69, eX5_follow_70, eX5_follow_73, eX5_follow_77, eX5_follow_78, eX5_follow_81, eX5_follow_82, eX5_follow_86, eX5_follow_87, eX5_follow_90, eX5_follow_93, eX5_follow_94, eX5_follow_96, eX5_follow_99, eX5_follow_102, eX5_follow_103, eX5_follow_104, eX5_follow_107, eX5_follow_109, eX5_follow_110, eX5_follow_113, eX5_follow_116, eX5_follow_119, eX5_follow_in, e105, nI_ge (show t < n by omega) (show n < 2 ^ 31 by omega), q_contactOf, e463, tin, nI_clamp (show t < 2 ^ 31 by omega), vpn (show t < 6 by omega) (by decide : 6 < 2147483648), ex, q_within, e81, Option.toList_some, Option.toList_none, List.cons_append, List.nil_append, b2_0, Classical.not_not, false_implies, true_implies, implies_true, true_and, and_true, not_true_eq_false, not_false_eq_true]
    have t13 : M.1 13 t = prw A (chs w n m D) w t (280 + 6 * t + 2) := hR.trk (q := 2) (by omega) (by omega)
    have t14 : M.1 14 t = prw A (chs w n m D) w t (280 + 6 * t + 3) := hR.trk (q := 3) (by omega) (by omega)
    have t15 : M.1 15 t = prw A (chs w n m D) w t (280 + 6 * t + 4) := hR.trk (q := 4) (by omega) (by omega)
    cases hk : chs w n m D t with
    | none =>
      rw [hk] at ih'
      have z : ((0 : Int32) ≤ bI none) = False := eq_false (by decide)
      simp only [z, false_and, Option.toList_some, Option.toList_none, List.cons_append, List.nil_append, b2_0, Classical.not_not, false_implies, true_implies, implies_true, true_and, and_true, not_true_eq_false, not_false_eq_true]
      simp only [eX5_follow_0, eX5_follow_1, eX5_follow_5, eX5_follow_6, eX5_follow_9, eX5_follow_12, eX5_follow_13, eX5_follow_15, eX5_follow_18, eX5_follow_20, eX5_follow_22, eX5_follow_23, eX5_follow_24, eX5_follow_27, eX5_follow_28, eX5_follow_29, eX5_follow_32, eX5_follow_35, eX5_follow_36, eX5_follow_38, eX5_follow_39, eX5_follow_42, eX5_follow_44, eX5_follow_45, eX5_follow_46, eX5_follow_48, eX5_follow_50, eX5_follow_53, eX5_follow_56, eX5_follow_59, eX5_follow_60, eX5_follow_63, eX5_follow_65, eX5_follow_66, eX5_follow_67, eX5_follow_68, eX5_follow_69, eX5_follow_70, eX5_follow_73, eX5_follow_77, eX5_follow_78, eX5_follow_81, eX5_follow_82, eX5_follow_86, eX5_follow_87, eX5_follow_90, eX5_follow_93, eX5_follow_94, eX5_follow_96, eX5_follow_99, eX5_follow_102, eX5_follow_103, eX5_follow_104, eX5_follow_107, eX5_follow_109, eX5_follow_110, eX5_follow_113, eX5_follow_116, eX5_follow_119, eX5_follow_in, nI_clamp (show t < 2 ^ 31 by omega), vpn (show t < 6 by omega) (by decide : 6 < 2147483648), nI_1, Option.toList_some, Option.toList_none, List.cons_append, List.nil_append, b2_0, Classical.not_not, false_implies, true_implies, implies_true, true_and, and_true, not_true_eq_false, not_false_eq_true]
      refine ih' _ _ (hF.set (by omega)) ?_
      rw [← upd_none, t14]
      exact hR.pt (q := 3) (by omega)
    | some k =>
      rw [hk] at ih'
      have kl := (chs_in hk).1
      have z : (0 : Int32) ≤ bI (some k) ∧ bI (some k) ≤ nI m - 1 := ⟨nI0le k (by omega), by rw [nI_p1 (by omega)]; exact nI_le (by omega) (by omega)⟩
      have e9 : M.1 9 k = prw A (chs w n m D) w t (274 + k) := hR.con kl hm
      have e47 : M.1 47 (t * 6 + k) = nI (w t k) := by rw [hF.1 47 (by omega)]; exact hH.2.2.2 t k (by omega) kl
      simp only [z, Option.toList_some, Option.toList_none, List.cons_append, List.nil_append, b2_0, Classical.not_not, false_implies, true_implies, implies_true, true_and, and_true, not_true_eq_false, not_false_eq_true]
      simp only [eX5_follow_0, eX5_follow_1, eX5_follow_5, eX5_follow_6, eX5_follow_9, eX5_follow_12, eX5_follow_13, eX5_follow_15, eX5_follow_18, eX5_follow_20, eX5_follow_22, eX5_follow_23, eX5_follow_24, eX5_follow_27, eX5_follow_28, eX5_follow_29, eX5_follow_32, eX5_follow_35, eX5_follow_36, eX5_follow_38, eX5_follow_39, eX5_follow_42, eX5_follow_44, eX5_follow_45, eX5_follow_46, eX5_follow_48, eX5_follow_50, eX5_follow_53, eX5_follow_56, eX5_follow_59, eX5_follow_60, eX5_follow_63, eX5_follow_65, eX5_follow_66, eX5_follow_67, eX5_follow_68, eX5_follow_69, eX5_follow_70, eX5_follow_73, eX5_follow_77, eX5_follow_78, eX5_follow_81, eX5_follow_82, eX5_follow_86, eX5_follow_87, eX5_follow_90, eX5_follow_93, eX5_follow_94, eX5_follow_96, eX5_follow_99, eX5_follow_102, eX5_follow_103, eX5_follow_104, eX5_follow_107, eX5_follow_109, eX5_follow_110, eX5_follow_113, eX5_follow_116, eX5_follow_119, eX5_follow_in, eX3_wayOf_0, eX3_wayOf_1, eX3_wayOf_4, eX3_wayOf_5, eX3_wayOf_7, eX3_wayOf_8, eX3_wayOf_9, eX3_wayOf_10, eX3_wayOf_11, eX3_wayOf_in, bI, nI_clamp (show k < 2 ^ 31 by omega), vpn (show k < 6 by omega) (by decide : 6 < 2147483648), mt6, nI_add, nI_clamp (show t * 6 + k < 2 ^ 31 by omega), vpn (show t * 6 + k < 36 by omega) (by decide : 36 < 2147483648), e47, e9, Option.toList_some, Option.toList_none, List.cons_append, List.nil_append, b2_0, Classical.not_not, false_implies, true_implies, implies_true, true_and, and_true, not_true_eq_false, not_false_eq_true]
      refine q_goOn (by omega) ?_
      simp only [eX5_follow_0, eX5_follow_1, eX5_follow_5, eX5_follow_6, eX5_follow_9, eX5_follow_12, eX5_follow_13, eX5_follow_15, eX5_follow_18, eX5_follow_20, eX5_follow_22, eX5_follow_23, eX5_follow_24, eX5_follow_27, eX5_follow_28, eX5_follow_29, eX5_follow_32, eX5_follow_35, eX5_follow_36, eX5_follow_38, eX5_follow_39, eX5_follow_42, eX5_follow_44, eX5_follow_45, eX5_follow_46, eX5_follow_48, eX5_follow_50, eX5_follow_53, eX5_follow_56, eX5_follow_59, eX5_follow_60, eX5_follow_63, eX5_follow_65, eX5_follow_66, eX5_follow_67, eX5_follow_68, eX5_follow_69, eX5_follow_70, eX5_follow_73, eX5_follow_77, eX5_follow_78, eX5_follow_81, eX5_follow_82, eX5_follow_86, eX5_follow_87, eX5_follow_90, eX5_follow_93, eX5_follow_94, eX5_follow_96, eX5_follow_99, eX5_follow_102, eX5_follow_103, eX5_follow_104, eX5_follow_107, eX5_follow_109, eX5_follow_110, eX5_follow_113, eX5_follow_116, eX5_follow_119, eX5_follow_in, nI_1, Option.toList_some, Option.toList_none, List.cons_append, List.nil_append, b2_0, Classical.not_not, false_implies, true_implies, implies_true, true_and, and_true, not_true_eq_false, not_false_eq_true]
      refine ih' _ _ ((((hF.set (by omega)).set (by omega)).set (by omega)).set (by omega)) ?_
      rw [← upd_some' (x := w t k) rfl, t13, t15]
      exact (((hR.pt (q := 1) (by omega)).pt (q := 2) (by omega)).pt (q := 3) (by omega)).pt (q := 4) (by omega)
theorem q_countEnd {Q : Qt} {M : Mm} {t : Nat} (ht : t < 6) : kX5_countEnd [.ref 10, .int (nI t)] M Q ↔ (3 < M.1 13 t → Q none (setI M 10 8 (M.1 10 8 + 1))) ∧ (¬ 3 < M.1 13 t → (1 < M.1 15 t → Q none (setI M 10 8 (M.1 10 8 + 1))) ∧ (¬ 1 < M.1 15 t → Q none (setI M 10 7 (M.1 10 7 + 1)))) := by
  simp only [eX5_countEnd_0, eX5_countEnd_1, eX5_countEnd_4, eX5_countEnd_5, eX5_countEnd_6, eX5_countEnd_7, eX5_countEnd_10, eX5_countEnd_11, eX5_countEnd_14, eX5_countEnd_15, eX5_countEnd_16, eX5_countEnd_17, eX5_countEnd_20, eX5_countEnd_21, eX5_countEnd_22, eX5_countEnd_25, eX5_countEnd_26, eX5_countEnd_27, eX5_countEnd_30, eX5_countEnd_33, eX5_countEnd_34, eX5_countEnd_35, eX5_countEnd_38, eX5_countEnd_39, eX5_countEnd_40, eX5_countEnd_43, eX5_countEnd_in, nI_clamp (show t < 2 ^ 31 by omega), vpn ht (by decide : 6 < 2147483648), Option.toList_some, Option.toList_none, List.cons_append, List.nil_append, b2_0, Classical.not_not, false_implies, true_implies, implies_true, true_and, and_true, not_true_eq_false, not_false_eq_true]
theorem q_moveDown {Q : Qt} {M : Mm} {t l : Nat} (ht : t < 6) (hl : l < 6) (hQ : Q none (setI (setI (setI (setI (setI M 11 l (M.1 11 t)) 12 l (M.1 12 t)) 13 l (M.1 13 t)) 14 l (M.1 14 t)) 15 l (M.1 15 t))) : kX5_moveDown [.ref 10, .int (nI t), .int (nI l)] M Q := by
  have ne : ∀ (M : Mm) (a b j : Nat) (v : Int32), b ≠ a → (setI M a j v).1 b = M.1 b := fun M a b j v h => setI_ne h
  simp only [eX5_moveDown_0, eX5_moveDown_1, eX5_moveDown_4, eX5_moveDown_5, eX5_moveDown_6, eX5_moveDown_9, eX5_moveDown_10, eX5_moveDown_11, eX5_moveDown_12, eX5_moveDown_13, eX5_moveDown_16, eX5_moveDown_17, eX5_moveDown_18, eX5_moveDown_21, eX5_moveDown_22, eX5_moveDown_23, eX5_moveDown_24, eX5_moveDown_25, eX5_moveDown_28, eX5_moveDown_29, eX5_moveDown_30, eX5_moveDown_33, eX5_moveDown_34, eX5_moveDown_35, eX5_moveDown_36, eX5_moveDown_37, eX5_moveDown_40, eX5_moveDown_41, eX5_moveDown_42, eX5_moveDown_45, eX5_moveDown_46, eX5_moveDown_47, eX5_moveDown_48, eX5_moveDown_49, eX5_moveDown_52, eX5_moveDown_53, eX5_moveDown_54, eX5_moveDown_57, eX5_moveDown_58, eX5_moveDown_59, eX5_moveDown_60, eX5_moveDown_in, nI_clamp (show t < 2 ^ 31 by omega), vpn ht (by decide : 6 < 2147483648), nI_clamp (show l < 2 ^ 31 by omega), vpn hl (by decide : 6 < 2147483648), ne _ 11 12 _ _ (by decide), ne _ 11 13 _ _ (by decide), ne _ 11 14 _ _ (by decide), ne _ 11 15 _ _ (by decide), ne _ 12 13 _ _ (by decide), ne _ 12 14 _ _ (by decide), ne _ 12 15 _ _ (by decide), ne _ 13 14 _ _ (by decide), ne _ 13 15 _ _ (by decide), ne _ 14 15 _ _ (by decide), Option.toList_some, Option.toList_none, List.cons_append, List.nil_append, b2_0, Classical.not_not, false_implies, true_implies, implies_true, true_and, and_true, not_true_eq_false, not_false_eq_true]
  exact hQ
theorem mv5 {U : Nat → Int32} {l t : Nat} : upd (upd (upd (upd (upd U (280 + 6 * l + 0) (U (280 + 6 * t + 0))) (280 + 6 * l + 1) (U (280 + 6 * t + 1))) (280 + 6 * l + 2) (U (280 + 6 * t + 2))) (280 + 6 * l + 3) (U (280 + 6 * t + 3))) (280 + 6 * l + 4) (U (280 + 6 * t + 4)) = mvR U l t 5 := by
  have e : ∀ q, q < 5 → upd (mvR U l t q) (280 + 6 * l + q) (U (280 + 6 * t + q)) = mvR U l t (q + 1) := fun q hq => by
    rw [← mvR_s hq]
    congr 1
    unfold mvR
    rw [if_neg (by omega)]
  have e0 := e 0 (by omega)
  rw [mvR_0] at e0
  rw [e0, e 1 (by omega), e 2 (by omega), e 3 (by omega), e 4 (by omega)]
theorem setI5 {M : Mm} {l q j : Nat} {x0 x1 x2 x3 x4 : Int32} (hq : q < 5) : (setI (setI (setI (setI (setI M 11 l x0) 12 l x1) 13 l x2) 14 l x3) 15 l x4).1 (11 + q) j = if j = l then (if q = 0 then x0 else if q = 1 then x1 else if q = 2 then x2 else if q = 3 then x3 else x4) else M.1 (11 + q) j := by
  have hc : q = 0 ∨ q = 1 ∨ q = 2 ∨ q = 3 ∨ q = 4 := by omega
  rcases hc with rfl | rfl | rfl | rfl | rfl <;> simp [setI, upd]
theorem l_en {Q : Qt} {M0 : Mm} {ch : Nat → Option Nat} (hn : n ≤ 6) (hc : ∀ t k, ch t = some k → k < 6) (n10 : A 10 = nI n) (hQ : ∀ M' : Mm, FrT M0 M' → RV M'.1 1 m (fwd A ch w L n).2 (fwd A ch w L n).1 → V pgX5_endThoseGone Q 45 [.ref 10, .int L, .int (nI (fwd A ch w L n).2), .int (nI n)] [] M') : ∀ (d t : Nat) (M : Mm), t + d = n → FrT M0 M → RV M.1 1 m (fwd A ch w L t).2 (fwd A ch w L t).1 → (∀ j q, t ≤ j → j < n → q < 5 → M.1 (11 + q) j = fwU A j (ch j) (w j) (280 + 6 * j + q)) → V pgX5_endThoseGone Q 4 [.ref 10, .int L, .int (nI (fwd A ch w L t).2), .int (nI t)] [] M := by
  intro d
  induction d with
  | zero =>
    intro t M ht hF hR hT
    have : t = n := by omega
    subst this
    have e105 : M.1 10 5 = nI t := ((hR.lo (k := 10) (by omega)).trans ((fwd_ok t).2.1 10 (by omega) (by omega) (by omega))).trans n10
    rw [eX5_endThoseGone_4]
    simp only [eX5_endThoseGone_0, eX5_endThoseGone_1, eX5_endThoseGone_2, eX5_endThoseGone_3, eX5_endThoseGone_5, eX5_endThoseGone_6, eX5_endThoseGone_9, eX5_endThoseGone_12, eX5_endThoseGone_13, eX5_endThoseGone_16, eX5_endThoseGone_17, eX5_endThoseGone_18, eX5_endThoseGone_19, eX5_endThoseGone_22, eX5_endThoseGone_23, eX5_endThoseGone_24, eX5_endThoseGone_27, eX5_endThoseGone_30, eX5_endThoseGone_31, eX5_endThoseGone_32, eX5_endThoseGone_33, eX5_endThoseGone_36, eX5_endThoseGone_39, eX5_endThoseGone_42, eX5_endThoseGone_46, eX5_endThoseGone_47, eX5_endThoseGone_50, eX5_endThoseGone_in, e105, Int32.le_refl, Option.toList_some, Option.toList_none, List.cons_append, List.nil_append, b2_0, Classical.not_not, false_implies, true_implies, implies_true, true_and, and_true, not_true_eq_false, not_false_eq_true]
    exact hQ M hF hR
  | succ d ih =>
    intro t M ht hF hR hT
    have ok := fwd_ok (A := A) (ch := ch) (w := w) (L := L) t
    have e105 : M.1 10 5 = nI n := ((hR.lo (k := 10) (by omega)).trans (ok.2.1 10 (by omega) (by omega) (by omega))).trans n10
    have cg : ∀ q, q < 6 → fwU (fwd A ch w L t).1 t (ch t) (w t) (280 + 6 * t + q) = fwU A t (ch t) (w t) (280 + 6 * t + q) := fwU_cg (fun k a b => ok.2.1 k b (by omega) (by omega)) (fun q hq => ok.2.2 t q (Nat.le_refl _) hq) (fun c h => hc t c h)
    have hT0 : ∀ q, q < 5 → M.1 (11 + q) t = fwU (fwd A ch w L t).1 t (ch t) (w t) (280 + 6 * t + q) := fun q hq => (hT t q (Nat.le_refl _) (by omega) hq).trans (cg q (by omega)).symm
    have fw1 : fwd A ch w L (t + 1) = fwS (fwd A ch w L t).1 (fwd A ch w L t).2 t (ch t) (w t) L := rfl
    have ih' := fun M' => ih (t + 1) M' (by omega)
    rw [fw1] at ih'
    unfold fwS at ih'
    have hRU : RV M.1 1 m (fwd A ch w L t).2 (fwU (fwd A ch w L t).1 t (ch t) (w t)) := hR.eqv (fun k hk => by
      by_cases z : k < 280
      · exact fwU_lo z
      · have e : k = 280 + 6 * ((k - 280) / 6) + (k - 280) % 6 := by omega
        rw [e]
        exact fwU_ne (by unfold vld at hk; omega) (by omega))
    generalize hU : fwU (fwd A ch w L t).1 t (ch t) (w t) = U at *
    generalize hl : (fwd A ch w L t).2 = l at *
    have x14 : M.1 14 t = U (280 + 6 * t + 3) := hT0 3 (by omega)
    have x13 : M.1 13 t = U (280 + 6 * t + 2) := hT0 2 (by omega)
    have x15 : M.1 15 t = U (280 + 6 * t + 4) := hT0 4 (by omega)
    have x11 : M.1 11 t = U (280 + 6 * t + 0) := hT0 0 (by omega)
    have x12 : M.1 12 t = U (280 + 6 * t + 1) := hT0 1 (by omega)
    have u11 : M.1 10 7 = U 11 := hRU.lo (k := 11) (by omega)
    have u12 : M.1 10 8 = U 12 := hRU.lo (k := 12) (by omega)
    have p11 : RV (setI M 10 7 (U 11 + 1)).1 1 m l (upd U 11 (U 11 + 1)) := hRU.put (e := 11) (by decide) (by decide)
    have p12 : RV (setI M 10 8 (U 12 + 1)).1 1 m l (upd U 12 (U 12 + 1)) := hRU.put (e := 12) (by decide) (by decide)
    have tT : ∀ (p : Nat) (v : Int32) (j q : Nat), t + 1 ≤ j → j < n → q < 5 → (setI M 10 p v).1 (11 + q) j = fwU A j (ch j) (w j) (280 + 6 * j + q) := fun p v j q h1 h2 h3 => by
      rw [setI_ne (by omega)]
      exact hT j q (by omega) h2 h3
    rw [eX5_endThoseGone_4]
    simp only [eX5_endThoseGone_0, eX5_endThoseGone_1, eX5_endThoseGone_2, eX5_endThoseGone_3, eX5_endThoseGone_5, eX5_endThoseGone_6, eX5_endThoseGone_9, eX5_endThoseGone_12, eX5_endThoseGone_13, eX5_endThoseGone_16, eX5_endThoseGone_17, eX5_endThoseGone_18, eX5_endThoseGone_19, eX5_endThoseGone_22, eX5_endThoseGone_23, eX5_endThoseGone_24, eX5_endThoseGone_27, eX5_endThoseGone_30, eX5_endThoseGone_31, eX5_endThoseGone_32, eX5_endThoseGone_33, eX5_endThoseGone_36, eX5_endThoseGone_39, eX5_endThoseGone_42, eX5_endThoseGone_46, eX5_endThoseGone_47, eX5_endThoseGone_50, eX5_endThoseGone_in, e105, nI_ge (show t < n by omega) (show n < 2 ^ 31 by omega), nI_clamp (show t < 2 ^ 31 by omega), vpn (show t < 6 by omega) (by decide : 6 < 2147483648), x14, q_countEnd (show t < 6 by omega), x13, x15, u11, u12, nI_1, Option.toList_some, Option.toList_none, List.cons_append, List.nil_append, b2_0, Classical.not_not, false_implies, true_implies, implies_true, true_and, and_true, not_true_eq_false, not_false_eq_true]
    refine ⟨fun z => ?_, fun z => ?_⟩
    · rw [if_pos z] at ih'
      refine q_moveDown (by omega) (by omega) ?_
      simp only [eX5_endThoseGone_0, eX5_endThoseGone_1, eX5_endThoseGone_2, eX5_endThoseGone_3, eX5_endThoseGone_5, eX5_endThoseGone_6, eX5_endThoseGone_9, eX5_endThoseGone_12, eX5_endThoseGone_13, eX5_endThoseGone_16, eX5_endThoseGone_17, eX5_endThoseGone_18, eX5_endThoseGone_19, eX5_endThoseGone_22, eX5_endThoseGone_23, eX5_endThoseGone_24, eX5_endThoseGone_27, eX5_endThoseGone_30, eX5_endThoseGone_31, eX5_endThoseGone_32, eX5_endThoseGone_33, eX5_endThoseGone_36, eX5_endThoseGone_39, eX5_endThoseGone_42, eX5_endThoseGone_46, eX5_endThoseGone_47, eX5_endThoseGone_50, eX5_endThoseGone_in, nI_1, Option.toList_some, Option.toList_none, List.cons_append, List.nil_append, b2_0, Classical.not_not, false_implies, true_implies, implies_true, true_and, and_true, not_true_eq_false, not_false_eq_true]
      rw [x11, x12, x13, x14, x15]
      refine ih' _ (((((hF.set (by omega)).set (by omega)).set (by omega)).set (by omega)).set (by omega)) ?_ ?_
      · refine RV.ext ?_ (fun q hq => ?_)
        · rw [← mv5]
          exact ((((hRU.pt (q := 0) (by omega)).pt (q := 1) (by omega)).pt (q := 2) (by omega)).pt (q := 3) (by omega)).pt (q := 4) (by omega)
        · have mq : mvR U l t 5 (280 + 6 * l + q) = U (280 + 6 * t + q) := by
            unfold mvR
            rw [if_pos (by omega), show 280 + 6 * l + q - (280 + 6 * l) = q by omega]
          rw [show 1 + 10 + q = 11 + q by omega, setI5 hq, if_pos rfl]
          refine Eq.trans ?_ mq.symm
          have hc : q = 0 ∨ q = 1 ∨ q = 2 ∨ q = 3 ∨ q = 4 := by omega
          rcases hc with rfl | rfl | rfl | rfl | rfl <;> simp
      · intro j q h1 h2 h3
        rw [setI5 h3, if_neg (by omega)]
        exact hT j q (by omega) h2 h3
    · rw [if_neg z] at ih'
      unfold enR at ih'
      refine ⟨fun y => ?_, fun y => ⟨fun x => ?_, fun x => ?_⟩⟩
      · rw [if_neg (fun u => u.1 y)] at ih'
        exact ih' _ (hF.set (by omega)) p12 (tT _ _)
      · rw [if_neg (fun u => u.2 x)] at ih'
        exact ih' _ (hF.set (by omega)) p12 (tT _ _)
      · rw [if_pos ⟨y, x⟩] at ih'
        exact ih' _ (hF.set (by omega)) p11 (tT _ _)
theorem q_isTaken {Q : Qt} {M : Mm} {x : Int32} : kX3_isTaken [.ref 46, .int x] M Q ↔ Q (some (.int (b2 (¬ M.1 46 6 &&& ((1 : Int32) <<< (x &&& 31)) = 0)))) M := by
  by_cases h : M.1 46 6 &&& ((1 : Int32) <<< (x &&& 31)) = 0
  · simp [eX3_isTaken_0, eX3_isTaken_1, eX3_isTaken_4, eX3_isTaken_5, eX3_isTaken_6, eX3_isTaken_7, eX3_isTaken_8, eX3_isTaken_11, eX3_isTaken_12, eX3_isTaken_15, eX3_isTaken_16, eX3_isTaken_in, h, b2f]
  · simp [eX3_isTaken_0, eX3_isTaken_1, eX3_isTaken_4, eX3_isTaken_5, eX3_isTaken_6, eX3_isTaken_7, eX3_isTaken_8, eX3_isTaken_11, eX3_isTaken_12, eX3_isTaken_15, eX3_isTaken_16, eX3_isTaken_in, h, b2t]
theorem upd_cm {f : Nat → Int32} {a b : Nat} {x y : Int32} (h : a ≠ b) : upd (upd f a x) b y = upd (upd f b y) a x := by
  funext j
  unfold upd
  by_cases h1 : j = a
  · subst h1
    rw [if_neg h, if_pos rfl, if_pos rfl]
  · rw [if_neg h1, if_neg h1]
theorem c_begin {Q : Qt} {M : Mm} {B : Nat → Int32} {l c : Nat} {p : Int32} (hl : l ≤ 6) (hR : RV M.1 1 m l B) (h10 : B 10 = nI l) (hp : p = B (274 + c)) (h6 : 6 ≤ l → Q none M) (hQ : ∀ M', FrT M M' → RV M'.1 1 m (l + 1) (bgU B l c) → l < 6 → Q none M') : kX5_begin [.ref 10, .int p] M Q := by
  have e105 : M.1 10 5 = nI l := (hR.lo (k := 10) (by omega)).trans h10
  have e106 : M.1 10 6 = B 13 := hR.lo (k := 13) (by omega)
  have c6 : ((6 : Int32) ≤ nI l) ↔ 6 ≤ l := nI_leI (a := 6) (by omega) (by omega)
  have ne : ∀ (M : Mm) (a b j : Nat) (v : Int32), b ≠ a → (setI M a j v).1 b = M.1 b := fun M a b j v h => setI_ne h
  simp only [eX5_begin_0, eX5_begin_1, eX5_begin_4, eX5_begin_6, eX5_begin_10, eX5_begin_13, eX5_begin_14, eX5_begin_17, eX5_begin_18, eX5_begin_21, eX5_begin_22, eX5_begin_23, eX5_begin_26, eX5_begin_27, eX5_begin_30, eX5_begin_31, eX5_begin_32, eX5_begin_33, eX5_begin_36, eX5_begin_37, eX5_begin_40, eX5_begin_41, eX5_begin_42, eX5_begin_43, eX5_begin_46, eX5_begin_47, eX5_begin_50, eX5_begin_51, eX5_begin_52, eX5_begin_53, eX5_begin_56, eX5_begin_57, eX5_begin_60, eX5_begin_61, eX5_begin_62, eX5_begin_63, eX5_begin_64, eX5_begin_67, eX5_begin_68, eX5_begin_69, eX5_begin_72, eX5_begin_73, eX5_begin_74, eX5_begin_77, eX5_begin_78, eX5_begin_79, eX5_begin_82, eX5_begin_in, e105, c6, Option.toList_some, Option.toList_none, List.cons_append, List.nil_append, b2_0, Classical.not_not, false_implies, true_implies, implies_true, true_and, and_true, not_true_eq_false, not_false_eq_true]
  refine ⟨fun z => h6 z, fun z => ?_⟩
  have u6 : ∀ (X : Nat → Int32) (v : Int32), upd X 5 v 6 = X 6 := fun X v => upd_ne (by omega)
  simp only [eX5_begin_0, eX5_begin_1, eX5_begin_4, eX5_begin_6, eX5_begin_9, eX5_begin_10, eX5_begin_13, eX5_begin_14, eX5_begin_17, eX5_begin_18, eX5_begin_21, eX5_begin_22, eX5_begin_23, eX5_begin_26, eX5_begin_27, eX5_begin_30, eX5_begin_31, eX5_begin_32, eX5_begin_33, eX5_begin_36, eX5_begin_37, eX5_begin_40, eX5_begin_41, eX5_begin_42, eX5_begin_43, eX5_begin_46, eX5_begin_47, eX5_begin_50, eX5_begin_51, eX5_begin_52, eX5_begin_53, eX5_begin_56, eX5_begin_57, eX5_begin_60, eX5_begin_61, eX5_begin_62, eX5_begin_63, eX5_begin_64, eX5_begin_67, eX5_begin_68, eX5_begin_69, eX5_begin_72, eX5_begin_73, eX5_begin_74, eX5_begin_77, eX5_begin_78, eX5_begin_79, eX5_begin_82, eX5_begin_in, e105, e106, nI_clamp (show l < 2 ^ 31 by omega), vpn (show l < 6 by omega) (by decide : 6 < 2147483648), ne _ 11 10 _ _ (by decide), ne _ 12 10 _ _ (by decide), ne _ 13 10 _ _ (by decide), ne _ 14 10 _ _ (by decide), ne _ 15 10 _ _ (by decide), setI_at, u6, Option.toList_some, Option.toList_none, List.cons_append, List.nil_append, b2_0, Classical.not_not, false_implies, true_implies, implies_true, true_and, and_true, not_true_eq_false, not_false_eq_true]
  refine hQ _ (((((((FrT.rf.set (by omega)).set (by omega)).set (by omega)).set (by omega)).set (by omega)).set (by omega)).set (by omega)) ?_ (by omega)
  subst hp
  have q := ((((((hR.pt (j := l) (q := 0) (v := B 13) (by omega)).pt (j := l) (q := 1) (v := B (274 + c)) (by omega)).pt (j := l) (q := 2) (v := 1) (by omega)).pt (j := l) (q := 3) (v := 0) (by omega)).pt (j := l) (q := 4) (v := 0) (by omega)).put (a := 10) (p := 5) (e := 10) (v := nI l + 1) (by decide) (by decide)).put (a := 10) (p := 6) (e := 13) (v := B 13 + 1) (by decide) (by decide)
  rw [upd_cm (by omega), Nat.add_zero (280 + 6 * l), bg_upd h10] at q
  refine RV.ext q (fun q hq => ?_)
  rw [show 1 + 10 + q = 11 + q by omega, setI_ne (by omega), setI_ne (by omega), setI5 hq, if_pos rfl]
  unfold bgU
  have hc : q = 0 ∨ q = 1 ∨ q = 2 ∨ q = 3 ∨ q = 4 := by omega
  rcases hc with rfl | rfl | rfl | rfl | rfl <;> simp
theorem l_fo3 {Q : Qt} {M0 : Mm} {B : Nat → Int32} {l s : Nat} {l5 : Value} (hl : l ≤ 6) (hm : m ≤ 6) (hs : s < 64) (h10 : B 10 = nI l) (h8 : B 8 = nI m) (h46 : M0.1 46 6 = nI s) (hQ : ∀ M' : Mm, FrT M0 M' → RV M'.1 1 m (bgn B l s m).2 (bgn B l s m).1 → Q none M') : ∀ (d c : Nat) (M : Mm), c + d = m → FrT M0 M → RV M.1 1 m (bgn B l s c).2 (bgn B l s c).1 → V pgX5_follow Q 84 [.ref 10, .ref 8, .ref 46, .int L, .int (nI c), l5] [] M := by
  intro d
  induction d with
  | zero =>
    intro c M hc hF hR
    have : c = m := by omega
    subst this
    have ok := bgn_ok (s := s) hl h10 c
    have e81 : M.1 8 1 = nI c := ((hR.lo (k := 8) (by omega)).trans (ok.2.2.2 8 (by omega) (by omega) (by omega))).trans h8
    rw [eX5_follow_84]
    simp only [eX5_follow_0, eX5_follow_1, eX5_follow_5, eX5_follow_6, eX5_follow_9, eX5_follow_12, eX5_follow_13, eX5_follow_15, eX5_follow_18, eX5_follow_20, eX5_follow_22, eX5_follow_23, eX5_follow_24, eX5_follow_27, eX5_follow_28, eX5_follow_29, eX5_follow_32, eX5_follow_35, eX5_follow_36, eX5_follow_38, eX5_follow_39, eX5_follow_42, eX5_follow_44, eX5_follow_45, eX5_follow_46, eX5_follow_48, eX5_follow_50, eX5_follow_53, eX5_follow_56, eX5_follow_59, eX5_follow_60, eX5_follow_63, eX5_follow_65, eX5_follow_66, eX5_follow_67, eX5_follow_68, eX5_follow_69, eX5_follow_70, eX5_follow_73, eX5_follow_76, eX5_follow_77, eX5_follow_78, eX5_follow_81, eX5_follow_82, eX5_follow_86, eX5_follow_87, eX5_follow_90, eX5_follow_93, eX5_follow_94, eX5_follow_96, eX5_follow_99, eX5_follow_102, eX5_follow_103, eX5_follow_104, eX5_follow_107, eX5_follow_109, eX5_follow_110, eX5_follow_113, eX5_follow_116, eX5_follow_119, eX5_follow_in, e81, Int32.le_refl, Option.toList_some, Option.toList_none, List.cons_append, List.nil_append, b2_0, Classical.not_not, false_implies, true_implies, implies_true, true_and, and_true, not_true_eq_false, not_false_eq_true]
    exact hQ M hF hR
  | succ d ih =>
    intro c M hc hF hR
    have ok := bgn_ok (s := s) hl h10 c
    have e81 : M.1 8 1 = nI m := ((hR.lo (k := 8) (by omega)).trans (ok.2.2.2 8 (by omega) (by omega) (by omega))).trans h8
    have e466 : M.1 46 6 = nI s := by rw [hF.1 46 (by omega)]; exact h46
    have bc := bt_c s hs c (by omega)
    have e9 : M.1 9 c = (bgn B l s c).1 (274 + c) := hR.con (by omega) hm
    have ih' := fun M' => ih (c + 1) M' (by omega)
    rw [bgn] at ih'
    rw [eX5_follow_84]
    simp only [eX5_follow_0, eX5_follow_1, eX5_follow_5, eX5_follow_6, eX5_follow_9, eX5_follow_12, eX5_follow_13, eX5_follow_15, eX5_follow_18, eX5_follow_20, eX5_follow_22, eX5_follow_23, eX5_follow_24, eX5_follow_27, eX5_follow_28, eX5_follow_29, eX5_follow_32, eX5_follow_35, eX5_follow_36, eX5_follow_38, eX5_follow_39, eX5_follow_42, eX5_follow_44, eX5_follow_45, eX5_follow_46, eX5_follow_48, eX5_follow_50, eX5_follow_53, eX5_follow_56, eX5_follow_59, eX5_follow_60, eX5_follow_63, eX5_follow_65, eX5_follow_66, eX5_follow_67, eX5_follow_68, eX5_follow_69, eX5_follow_70, eX5_follow_73, eX5_follow_76, eX5_follow_77, eX5_follow_78, eX5_follow_81, eX5_follow_82, eX5_follow_86, eX5_follow_87, eX5_follow_90, eX5_follow_93, eX5_follow_94, eX5_follow_96, eX5_follow_99, eX5_follow_102, eX5_follow_103, eX5_follow_104, eX5_follow_107, eX5_follow_109, eX5_follow_110, eX5_follow_113, eX5_follow_116, eX5_follow_119, eX5_follow_in, e81, nI_ge (show c < m by omega) (show m < 2 ^ 31 by omega), q_isTaken, e466, bc, nI_clamp (show c < 2 ^ 31 by omega), vpn (show c < 6 by omega) (by decide : 6 < 2147483648), e9, nI_1, Option.toList_some, Option.toList_none, List.cons_append, List.nil_append, b2_0, Classical.not_not, false_implies, true_implies, implies_true, true_and, and_true, not_true_eq_false, not_false_eq_true]
    refine ⟨fun z => ?_, fun z => ?_⟩
    · rw [if_neg (fun u => z u.1)] at ih'
      exact ih' M hF hR
    · refine c_begin ok.1 hR ok.2.2.1 rfl (fun y => ?_) (fun M' F R' y => ?_)
      · simp only [eX5_follow_0, eX5_follow_1, eX5_follow_5, eX5_follow_6, eX5_follow_9, eX5_follow_12, eX5_follow_13, eX5_follow_15, eX5_follow_18, eX5_follow_20, eX5_follow_22, eX5_follow_23, eX5_follow_24, eX5_follow_27, eX5_follow_28, eX5_follow_29, eX5_follow_32, eX5_follow_35, eX5_follow_36, eX5_follow_38, eX5_follow_39, eX5_follow_42, eX5_follow_44, eX5_follow_45, eX5_follow_46, eX5_follow_48, eX5_follow_50, eX5_follow_53, eX5_follow_56, eX5_follow_59, eX5_follow_60, eX5_follow_63, eX5_follow_65, eX5_follow_66, eX5_follow_67, eX5_follow_68, eX5_follow_69, eX5_follow_70, eX5_follow_73, eX5_follow_76, eX5_follow_77, eX5_follow_78, eX5_follow_81, eX5_follow_82, eX5_follow_86, eX5_follow_87, eX5_follow_90, eX5_follow_93, eX5_follow_94, eX5_follow_96, eX5_follow_99, eX5_follow_102, eX5_follow_103, eX5_follow_104, eX5_follow_107, eX5_follow_109, eX5_follow_110, eX5_follow_113, eX5_follow_116, eX5_follow_119, eX5_follow_in, nI_1, Option.toList_some, Option.toList_none, List.cons_append, List.nil_append, b2_0, Classical.not_not, false_implies, true_implies, implies_true, true_and, and_true, not_true_eq_false, not_false_eq_true]
        rw [if_neg (fun u => by have := u.2; omega)] at ih'
        exact ih' M hF hR
      · simp only [eX5_follow_0, eX5_follow_1, eX5_follow_5, eX5_follow_6, eX5_follow_9, eX5_follow_12, eX5_follow_13, eX5_follow_15, eX5_follow_18, eX5_follow_20, eX5_follow_22, eX5_follow_23, eX5_follow_24, eX5_follow_27, eX5_follow_28, eX5_follow_29, eX5_follow_32, eX5_follow_35, eX5_follow_36, eX5_follow_38, eX5_follow_39, eX5_follow_42, eX5_follow_44, eX5_follow_45, eX5_follow_46, eX5_follow_48, eX5_follow_50, eX5_follow_53, eX5_follow_56, eX5_follow_59, eX5_follow_60, eX5_follow_63, eX5_follow_65, eX5_follow_66, eX5_follow_67, eX5_follow_68, eX5_follow_69, eX5_follow_70, eX5_follow_73, eX5_follow_76, eX5_follow_77, eX5_follow_78, eX5_follow_81, eX5_follow_82, eX5_follow_86, eX5_follow_87, eX5_follow_90, eX5_follow_93, eX5_follow_94, eX5_follow_96, eX5_follow_99, eX5_follow_102, eX5_follow_103, eX5_follow_104, eX5_follow_107, eX5_follow_109, eX5_follow_110, eX5_follow_113, eX5_follow_116, eX5_follow_119, eX5_follow_in, nI_1, Option.toList_some, Option.toList_none, List.cons_append, List.nil_append, b2_0, Classical.not_not, false_implies, true_implies, implies_true, true_and, and_true, not_true_eq_false, not_false_eq_true]
        rw [if_pos ⟨z, y⟩] at ih'
        exact ih' M' ⟨fun a ha => (F.1 a ha).trans (hF.1 a ha), F.2.trans hF.2⟩ R'
theorem c_follow {Q : Qt} {M : Mm} (hn : n ≤ 6) (hm : m ≤ 6) (hD : D ≤ 14) (hH : HP M w n m D) (hP : PL M 49 w n m D n) (h6 : M.1 46 6 = nI (usd w n m D n)) (n8 : A 8 = nI m) (n10 : A 10 = nI n) (hR : RV M.1 1 m n A) (hQ : ∀ M' : Mm, FrT M M' → RV M'.1 1 m (folR A (chs w n m D) w L n m (usd w n m D n)).2 (folR A (chs w n m D) w L n m (usd w n m D n)).1 → Q none M') : kX5_follow [.ref 10, .ref 8, .ref 46, .int L] M Q := by
  have hch : ∀ t k, chs w n m D t = some k → k < 6 := fun t k h => by have := (chs_in h).1; omega
  have h64 : 2 ^ m ≤ 64 := (sh_m m (by omega)).2
  have us := usd_ok w n m D hm n
  have ok := fwd_ok (A := A) (ch := chs w n m D) (w := w) (L := L) n
  have pok := prw_ok (A := A) (w := w) hch n
  simp only [eX5_follow_0, eX5_follow_1, eX5_follow_5, eX5_follow_6, eX5_follow_9, eX5_follow_12, eX5_follow_13, eX5_follow_15, eX5_follow_18, eX5_follow_20, eX5_follow_22, eX5_follow_23, eX5_follow_24, eX5_follow_27, eX5_follow_28, eX5_follow_29, eX5_follow_32, eX5_follow_35, eX5_follow_36, eX5_follow_38, eX5_follow_39, eX5_follow_42, eX5_follow_44, eX5_follow_45, eX5_follow_46, eX5_follow_48, eX5_follow_50, eX5_follow_53, eX5_follow_56, eX5_follow_59, eX5_follow_60, eX5_follow_63, eX5_follow_65, eX5_follow_66, eX5_follow_67, eX5_follow_68, eX5_follow_69, eX5_follow_70, eX5_follow_73, eX5_follow_76, eX5_follow_77, eX5_follow_78, eX5_follow_81, eX5_follow_82, eX5_follow_86, eX5_follow_87, eX5_follow_90, eX5_follow_93, eX5_follow_94, eX5_follow_96, eX5_follow_99, eX5_follow_102, eX5_follow_103, eX5_follow_104, eX5_follow_107, eX5_follow_109, eX5_follow_110, eX5_follow_113, eX5_follow_116, eX5_follow_119, eX5_follow_in, Option.toList_some, Option.toList_none, List.cons_append, List.nil_append, b2_0, Classical.not_not, false_implies, true_implies, implies_true, true_and, and_true, not_true_eq_false, not_false_eq_true]
  refine l_fo1 (M0 := M) (A := A) hn hm hD hH hP n8 n10 (fun M1 l5 F1 R1 => ?_) n 0 M _ (by omega) FrT.rf hR
  simp only [eX5_follow_0, eX5_follow_1, eX5_follow_5, eX5_follow_6, eX5_follow_9, eX5_follow_12, eX5_follow_13, eX5_follow_15, eX5_follow_18, eX5_follow_20, eX5_follow_22, eX5_follow_23, eX5_follow_24, eX5_follow_27, eX5_follow_28, eX5_follow_29, eX5_follow_32, eX5_follow_35, eX5_follow_36, eX5_follow_38, eX5_follow_39, eX5_follow_42, eX5_follow_44, eX5_follow_45, eX5_follow_46, eX5_follow_48, eX5_follow_50, eX5_follow_53, eX5_follow_56, eX5_follow_59, eX5_follow_60, eX5_follow_63, eX5_follow_65, eX5_follow_66, eX5_follow_67, eX5_follow_68, eX5_follow_69, eX5_follow_70, eX5_follow_73, eX5_follow_76, eX5_follow_77, eX5_follow_78, eX5_follow_81, eX5_follow_82, eX5_follow_86, eX5_follow_87, eX5_follow_90, eX5_follow_93, eX5_follow_94, eX5_follow_96, eX5_follow_99, eX5_follow_102, eX5_follow_103, eX5_follow_104, eX5_follow_107, eX5_follow_109, eX5_follow_110, eX5_follow_113, eX5_follow_116, eX5_follow_119, eX5_follow_in, Option.toList_some, Option.toList_none, List.cons_append, List.nil_append, b2_0, Classical.not_not, false_implies, true_implies, implies_true, true_and, and_true, not_true_eq_false, not_false_eq_true]
  simp only [eX5_endThoseGone_0, eX5_endThoseGone_1, eX5_endThoseGone_2, eX5_endThoseGone_3, eX5_endThoseGone_5, eX5_endThoseGone_6, eX5_endThoseGone_9, eX5_endThoseGone_12, eX5_endThoseGone_13, eX5_endThoseGone_16, eX5_endThoseGone_17, eX5_endThoseGone_18, eX5_endThoseGone_19, eX5_endThoseGone_22, eX5_endThoseGone_23, eX5_endThoseGone_24, eX5_endThoseGone_27, eX5_endThoseGone_30, eX5_endThoseGone_31, eX5_endThoseGone_32, eX5_endThoseGone_33, eX5_endThoseGone_36, eX5_endThoseGone_39, eX5_endThoseGone_42, eX5_endThoseGone_45, eX5_endThoseGone_46, eX5_endThoseGone_47, eX5_endThoseGone_50, eX5_endThoseGone_in, Option.toList_some, Option.toList_none, List.cons_append, List.nil_append, b2_0, Classical.not_not, false_implies, true_implies, implies_true, true_and, and_true, not_true_eq_false, not_false_eq_true]
  refine l_en (M0 := M) (m := m) (A := A) (ch := chs w n m D) (w := w) (L := L) hn hch n10 (fun M2 F2 R2 => ?_) n 0 M1 (by omega) F1 ?_ (fun j q h1 h2 h3 => ?_)
  · simp only [eX5_endThoseGone_0, eX5_endThoseGone_1, eX5_endThoseGone_2, eX5_endThoseGone_3, eX5_endThoseGone_5, eX5_endThoseGone_6, eX5_endThoseGone_9, eX5_endThoseGone_12, eX5_endThoseGone_13, eX5_endThoseGone_16, eX5_endThoseGone_17, eX5_endThoseGone_18, eX5_endThoseGone_19, eX5_endThoseGone_22, eX5_endThoseGone_23, eX5_endThoseGone_24, eX5_endThoseGone_27, eX5_endThoseGone_30, eX5_endThoseGone_31, eX5_endThoseGone_32, eX5_endThoseGone_33, eX5_endThoseGone_36, eX5_endThoseGone_39, eX5_endThoseGone_42, eX5_endThoseGone_45, eX5_endThoseGone_46, eX5_endThoseGone_47, eX5_endThoseGone_50, eX5_endThoseGone_in, Option.toList_some, Option.toList_none, List.cons_append, List.nil_append, b2_0, Classical.not_not, false_implies, true_implies, implies_true, true_and, and_true, not_true_eq_false, not_false_eq_true]
    simp only [eX5_follow_0, eX5_follow_1, eX5_follow_5, eX5_follow_6, eX5_follow_9, eX5_follow_12, eX5_follow_13, eX5_follow_15, eX5_follow_18, eX5_follow_20, eX5_follow_22, eX5_follow_23, eX5_follow_24, eX5_follow_27, eX5_follow_28, eX5_follow_29, eX5_follow_32, eX5_follow_35, eX5_follow_36, eX5_follow_38, eX5_follow_39, eX5_follow_42, eX5_follow_44, eX5_follow_45, eX5_follow_46, eX5_follow_48, eX5_follow_50, eX5_follow_53, eX5_follow_56, eX5_follow_59, eX5_follow_60, eX5_follow_63, eX5_follow_65, eX5_follow_66, eX5_follow_67, eX5_follow_68, eX5_follow_69, eX5_follow_70, eX5_follow_73, eX5_follow_76, eX5_follow_77, eX5_follow_78, eX5_follow_81, eX5_follow_82, eX5_follow_86, eX5_follow_87, eX5_follow_90, eX5_follow_93, eX5_follow_94, eX5_follow_96, eX5_follow_99, eX5_follow_102, eX5_follow_103, eX5_follow_104, eX5_follow_107, eX5_follow_109, eX5_follow_110, eX5_follow_113, eX5_follow_116, eX5_follow_119, eX5_follow_in, Option.toList_some, Option.toList_none, List.cons_append, List.nil_append, b2_0, Classical.not_not, false_implies, true_implies, implies_true, true_and, and_true, not_true_eq_false, not_false_eq_true]
    refine l_fo3 (M0 := M) (B := upd (fwd A (chs w n m D) w L n).1 10 (nI (fwd A (chs w n m D) w L n).2)) (by omega) hm (by omega) upd_at ?_ h6 hQ m 0 _ (by omega) (F2.set (by omega)) ?_
    · rw [upd_ne (by omega), ok.2.1 8 (by omega) (by omega) (by omega)]
      exact n8
    · exact R2.put (e := 10) (by decide) (by decide)
  · refine (R1.sub (Nat.le_refl _) (Nat.zero_le _)).eqv (fun k hk => ?_)
    exact (pok.1 k (by unfold vld at hk; omega)).symm
  · rw [← pok.2.2 j q h2 (by omega), show 11 + q = 1 + 10 + q by omega]
    exact R1.trk h2 h3
end CFW
