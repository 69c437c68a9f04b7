/-! panel -/
def RV (f : Nat → Nat → Int32) (b c t : Nat) (N : Nat → Int32) : Prop := ∀ k, vld c t k → enc f b k = N k
theorem RV.put {M : Mm} {N : Nat → Int32} {c t a p e : Nat} {v : Int32} (h : RV M.1 1 c t N) (ha : a = 1 + ec e) (hp : p = ep e) : RV (setI M a p v).1 1 c t (upd N e v) := by
  intro k hk
  rw [enc_set ha hp]
  simp only [upd]
  by_cases hz : k = e
  · rw [if_pos hz, if_pos hz]
  · rw [if_neg hz, if_neg hz]
    exact h k hk
theorem RV.off {M : Mm} {N : Nat → Int32} {c t a p : Nat} {v : Int32} (h : RV M.1 1 c t N) (ha : a = 0 ∨ 17 ≤ a) : RV (setI M a p v).1 1 c t N := by
  intro k hk
  rw [enc_off ha]
  exact h k hk
theorem RV.sub {f : Nat → Nat → Int32} {b c t c' t' : Nat} {N : Nat → Int32} (h : RV f b c t N) (hc : c' ≤ c) (ht : t' ≤ t) : RV f b c' t' N := fun k hk => h k (by unfold vld at hk ⊢; omega)
theorem RV.eqv {f : Nat → Nat → Int32} {b c t : Nat} {N N' : Nat → Int32} (h : RV f b c t N) (e : ∀ k, vld c t k → N' k = N k) : RV f b c t N' := fun k hk => (h k hk).trans (e k hk).symm
theorem Re.rv {f : Nat → Nat → Int32} {b c t : Nat} {N : Nat → Int32} (h : Re f b N) (hc : c ≤ 6) (ht : t ≤ 6) (h8 : N 8 = nI c) (h10 : N 10 = nI t) : RV f b c t N := fun k hk => h k (by rw [h8, h10, nI_clamp (by omega), nI_clamp (by omega)]; exact hk)
theorem RV.re {f : Nat → Nat → Int32} {b c t : Nat} {N : Nat → Int32} (h : RV f b c t N) (hc : c ≤ 6) (ht : t ≤ 6) (h8 : N 8 = nI c) (h10 : N 10 = nI t) : Re f b N := fun k hk => h k (by rw [h8, h10, nI_clamp (by omega), nI_clamp (by omega)] at hk; exact hk)
def fll (f : Nat → Int32) (s i : Nat) (v : Int32) : Nat → Int32 := fun k => if s ≤ k ∧ k < s + i then v else f k
theorem fll_0 (f : Nat → Int32) (s : Nat) (v : Int32) : fll f s 0 v = f := by
  funext k
  simp only [fll]
  rw [if_neg (by omega)]
theorem fll_s (f : Nat → Int32) (s i : Nat) (v : Int32) : upd (fll f s i v) (s + i) v = fll f s (i + 1) v := by
  funext k
  simp only [fll, upd]
  by_cases h : k = s + i
  · rw [if_pos h, if_pos (by omega)]
  · rw [if_neg h]
    by_cases h2 : s ≤ k ∧ k < s + i
    · rw [if_pos h2, if_pos (by omega)]
    · rw [if_neg h2, if_neg (by omega)]
theorem l_fill_4 {Q : Qt} {M0 : Mm} {N : Nat → Int32} {c t : Nat} {v : Int32} (hQ : ∀ M', FrC M0 M' → RV M'.1 1 c t (fll N 18 64 v) → Q none M') : ∀ (n i : Nat) (M : Mm), i + n = 64 → FrC M0 M → RV M.1 1 c t (fll N 18 i v) → V pgJ7_fill_53178 Q 5 [.ref 4, .int v, .int (nI i), .int 64] [] M := by
  intro n
  induction n with
  | zero =>
    intro i M hi hF hR
    have : i = 64 := by omega
    subst this
    rw [eJ7_fill_53178_4_5]
    simp only [eJ7_fill_53178_4_0, eJ7_fill_53178_4_1, eJ7_fill_53178_4_2, eJ7_fill_53178_4_3, eJ7_fill_53178_4_4, eJ7_fill_53178_4_6, eJ7_fill_53178_4_7, eJ7_fill_53178_4_10, eJ7_fill_53178_4_11, eJ7_fill_53178_4_12, eJ7_fill_53178_4_13, eJ7_fill_53178_4_14, eJ7_fill_53178_4_17, eJ7_fill_53178_4_20, eJ7_fill_53178_4_in]
    exact ⟨fun _ => hQ M hF hR, fun z => absurd (by decide) z⟩
  | succ n ih =>
    intro i M hi hF hR
    have h1 : ¬ ((64 : Int32) ≤ nI i) := nI_ge (b := 64) (by omega) (by omega)
    have h2 : (nI i).toNatClampNeg = i := nI_clamp (by omega)
    have h3 : vp_in (nI i) 64 := vpn (by omega) (by decide)
    rw [eJ7_fill_53178_4_5]
    simp only [eJ7_fill_53178_4_0, eJ7_fill_53178_4_1, eJ7_fill_53178_4_2, eJ7_fill_53178_4_3, eJ7_fill_53178_4_4, eJ7_fill_53178_4_6, eJ7_fill_53178_4_7, eJ7_fill_53178_4_10, eJ7_fill_53178_4_11, eJ7_fill_53178_4_12, eJ7_fill_53178_4_13, eJ7_fill_53178_4_14, eJ7_fill_53178_4_17, eJ7_fill_53178_4_20, eJ7_fill_53178_4_in, h1, h2, h3, nI_1, Option.toList_some, Option.toList_none, List.cons_append, List.nil_append, b2_0, Classical.not_not, false_implies, true_implies, implies_true, true_and, and_true, not_true_eq_false, not_false_eq_true]
    have hR' := hR.put (v := v) (a := 4) (p := i) (e := 18 + i) (by rw [(ec_raw (by omega)).1]) (by rw [(ec_raw (by omega)).2])
    rw [fll_s] at hR'
    exact ih (i + 1) _ (by omega) (hF.set (by omega)) hR'
theorem c_fill_4 {Q : Qt} {M0 M : Mm} {N : Nat → Int32} {c t : Nat} {v : Int32} (hF : FrC M0 M) (hR : RV M.1 1 c t N) (hQ : ∀ M', FrC M0 M' → RV M'.1 1 c t (fll N 18 64 v) → Q none M') : kJ7_fill_53178 [.ref 4, .int v] M Q := by
  simp only [eJ7_fill_53178_4_0, eJ7_fill_53178_4_1, eJ7_fill_53178_4_2, eJ7_fill_53178_4_3, eJ7_fill_53178_4_4, eJ7_fill_53178_4_6, eJ7_fill_53178_4_7, eJ7_fill_53178_4_10, eJ7_fill_53178_4_11, eJ7_fill_53178_4_12, eJ7_fill_53178_4_13, eJ7_fill_53178_4_14, eJ7_fill_53178_4_17, eJ7_fill_53178_4_20, eJ7_fill_53178_4_in]
  exact l_fill_4 hQ 64 0 M (by omega) hF (by rw [fll_0]; exact hR)
theorem l_fill_5 {Q : Qt} {M0 : Mm} {N : Nat → Int32} {c t : Nat} {v : Int32} (hQ : ∀ M', FrC M0 M' → RV M'.1 1 c t (fll N 82 64 v) → Q none M') : ∀ (n i : Nat) (M : Mm), i + n = 64 → FrC M0 M → RV M.1 1 c t (fll N 82 i v) → V pgJ7_fill_53178 Q 5 [.ref 5, .int v, .int (nI i), .int 64] [] M := by
  intro n
  induction n with
  | zero =>
    intro i M hi hF hR
    have : i = 64 := by omega
    subst this
    rw [eJ7_fill_53178_5_5]
    simp only [eJ7_fill_53178_5_0, eJ7_fill_53178_5_1, eJ7_fill_53178_5_2, eJ7_fill_53178_5_3, eJ7_fill_53178_5_4, eJ7_fill_53178_5_6, eJ7_fill_53178_5_7, eJ7_fill_53178_5_10, eJ7_fill_53178_5_11, eJ7_fill_53178_5_12, eJ7_fill_53178_5_13, eJ7_fill_53178_5_14, eJ7_fill_53178_5_17, eJ7_fill_53178_5_20, eJ7_fill_53178_5_in]
    exact ⟨fun _ => hQ M hF hR, fun z => absurd (by decide) z⟩
  | succ n ih =>
    intro i M hi hF hR
    have h1 : ¬ ((64 : Int32) ≤ nI i) := nI_ge (b := 64) (by omega) (by omega)
    have h2 : (nI i).toNatClampNeg = i := nI_clamp (by omega)
    have h3 : vp_in (nI i) 64 := vpn (by omega) (by decide)
    rw [eJ7_fill_53178_5_5]
    simp only [eJ7_fill_53178_5_0, eJ7_fill_53178_5_1, eJ7_fill_53178_5_2, eJ7_fill_53178_5_3, eJ7_fill_53178_5_4, eJ7_fill_53178_5_6, eJ7_fill_53178_5_7, eJ7_fill_53178_5_10, eJ7_fill_53178_5_11, eJ7_fill_53178_5_12, eJ7_fill_53178_5_13, eJ7_fill_53178_5_14, eJ7_fill_53178_5_17, eJ7_fill_53178_5_20, eJ7_fill_53178_5_in, h1, h2, h3, nI_1, Option.toList_some, Option.toList_none, List.cons_append, List.nil_append, b2_0, Classical.not_not, false_implies, true_implies, implies_true, true_and, and_true, not_true_eq_false, not_false_eq_true]
    have hR' := hR.put (v := v) (a := 5) (p := i) (e := 82 + i) (by rw [(ec_ground (by omega)).1]) (by rw [(ec_ground (by omega)).2])
    rw [fll_s] at hR'
    exact ih (i + 1) _ (by omega) (hF.set (by omega)) hR'
theorem c_fill_5 {Q : Qt} {M0 M : Mm} {N : Nat → Int32} {c t : Nat} {v : Int32} (hF : FrC M0 M) (hR : RV M.1 1 c t N) (hQ : ∀ M', FrC M0 M' → RV M'.1 1 c t (fll N 82 64 v) → Q none M') : kJ7_fill_53178 [.ref 5, .int v] M Q := by
  simp only [eJ7_fill_53178_5_0, eJ7_fill_53178_5_1, eJ7_fill_53178_5_2, eJ7_fill_53178_5_3, eJ7_fill_53178_5_4, eJ7_fill_53178_5_6, eJ7_fill_53178_5_7, eJ7_fill_53178_5_10, eJ7_fill_53178_5_11, eJ7_fill_53178_5_12, eJ7_fill_53178_5_13, eJ7_fill_53178_5_14, eJ7_fill_53178_5_17, eJ7_fill_53178_5_20, eJ7_fill_53178_5_in]
  exact l_fill_5 hQ 64 0 M (by omega) hF (by rw [fll_0]; exact hR)
theorem l_fill_6 {Q : Qt} {M0 : Mm} {N : Nat → Int32} {c t : Nat} {v : Int32} (hQ : ∀ M', FrC M0 M' → RV M'.1 1 c t (fll N 146 64 v) → Q none M') : ∀ (n i : Nat) (M : Mm), i + n = 64 → FrC M0 M → RV M.1 1 c t (fll N 146 i v) → V pgJ7_fill_53178 Q 5 [.ref 6, .int v, .int (nI i), .int 64] [] M := by
  intro n
  induction n with
  | zero =>
    intro i M hi hF hR
    have : i = 64 := by omega
    subst this
    rw [eJ7_fill_53178_6_5]
    simp only [eJ7_fill_53178_6_0, eJ7_fill_53178_6_1, eJ7_fill_53178_6_2, eJ7_fill_53178_6_3, eJ7_fill_53178_6_4, eJ7_fill_53178_6_6, eJ7_fill_53178_6_7, eJ7_fill_53178_6_10, eJ7_fill_53178_6_11, eJ7_fill_53178_6_12, eJ7_fill_53178_6_13, eJ7_fill_53178_6_14, eJ7_fill_53178_6_17, eJ7_fill_53178_6_20, eJ7_fill_53178_6_in]
    exact ⟨fun _ => hQ M hF hR, fun z => absurd (by decide) z⟩
  | succ n ih =>
    intro i M hi hF hR
    have h1 : ¬ ((64 : Int32) ≤ nI i) := nI_ge (b := 64) (by omega) (by omega)
    have h2 : (nI i).toNatClampNeg = i := nI_clamp (by omega)
    have h3 : vp_in (nI i) 64 := vpn (by omega) (by decide)
    rw [eJ7_fill_53178_6_5]
    simp only [eJ7_fill_53178_6_0, eJ7_fill_53178_6_1, eJ7_fill_53178_6_2, eJ7_fill_53178_6_3, eJ7_fill_53178_6_4, eJ7_fill_53178_6_6, eJ7_fill_53178_6_7, eJ7_fill_53178_6_10, eJ7_fill_53178_6_11, eJ7_fill_53178_6_12, eJ7_fill_53178_6_13, eJ7_fill_53178_6_14, eJ7_fill_53178_6_17, eJ7_fill_53178_6_20, eJ7_fill_53178_6_in, h1, h2, h3, nI_1, Option.toList_some, Option.toList_none, List.cons_append, List.nil_append, b2_0, Classical.not_not, false_implies, true_implies, implies_true, true_and, and_true, not_true_eq_false, not_false_eq_true]
    have hR' := hR.put (v := v) (a := 6) (p := i) (e := 146 + i) (by rw [(ec_signal (by omega)).1]) (by rw [(ec_signal (by omega)).2])
    rw [fll_s] at hR'
    exact ih (i + 1) _ (by omega) (hF.set (by omega)) hR'
theorem c_fill_6 {Q : Qt} {M0 M : Mm} {N : Nat → Int32} {c t : Nat} {v : Int32} (hF : FrC M0 M) (hR : RV M.1 1 c t N) (hQ : ∀ M', FrC M0 M' → RV M'.1 1 c t (fll N 146 64 v) → Q none M') : kJ7_fill_53178 [.ref 6, .int v] M Q := by
  simp only [eJ7_fill_53178_6_0, eJ7_fill_53178_6_1, eJ7_fill_53178_6_2, eJ7_fill_53178_6_3, eJ7_fill_53178_6_4, eJ7_fill_53178_6_6, eJ7_fill_53178_6_7, eJ7_fill_53178_6_10, eJ7_fill_53178_6_11, eJ7_fill_53178_6_12, eJ7_fill_53178_6_13, eJ7_fill_53178_6_14, eJ7_fill_53178_6_17, eJ7_fill_53178_6_20, eJ7_fill_53178_6_in]
  exact l_fill_6 hQ 64 0 M (by omega) hF (by rw [fll_0]; exact hR)
theorem l_fill_7 {Q : Qt} {M0 : Mm} {N : Nat → Int32} {c t : Nat} {v : Int32} (hQ : ∀ M', FrC M0 M' → RV M'.1 1 c t (fll N 210 64 v) → Q none M') : ∀ (n i : Nat) (M : Mm), i + n = 64 → FrC M0 M → RV M.1 1 c t (fll N 210 i v) → V pgJ7_fill_53178 Q 5 [.ref 7, .int v, .int (nI i), .int 64] [] M := by
  intro n
  induction n with
  | zero =>
    intro i M hi hF hR
    have : i = 64 := by omega
    subst this
    rw [eJ7_fill_53178_7_5]
    simp only [eJ7_fill_53178_7_0, eJ7_fill_53178_7_1, eJ7_fill_53178_7_2, eJ7_fill_53178_7_3, eJ7_fill_53178_7_4, eJ7_fill_53178_7_6, eJ7_fill_53178_7_7, eJ7_fill_53178_7_10, eJ7_fill_53178_7_11, eJ7_fill_53178_7_12, eJ7_fill_53178_7_13, eJ7_fill_53178_7_14, eJ7_fill_53178_7_17, eJ7_fill_53178_7_20, eJ7_fill_53178_7_in]
    exact ⟨fun _ => hQ M hF hR, fun z => absurd (by decide) z⟩
  | succ n ih =>
    intro i M hi hF hR
    have h1 : ¬ ((64 : Int32) ≤ nI i) := nI_ge (b := 64) (by omega) (by omega)
    have h2 : (nI i).toNatClampNeg = i := nI_clamp (by omega)
    have h3 : vp_in (nI i) 64 := vpn (by omega) (by decide)
    rw [eJ7_fill_53178_7_5]
    simp only [eJ7_fill_53178_7_0, eJ7_fill_53178_7_1, eJ7_fill_53178_7_2, eJ7_fill_53178_7_3, eJ7_fill_53178_7_4, eJ7_fill_53178_7_6, eJ7_fill_53178_7_7, eJ7_fill_53178_7_10, eJ7_fill_53178_7_11, eJ7_fill_53178_7_12, eJ7_fill_53178_7_13, eJ7_fill_53178_7_14, eJ7_fill_53178_7_17, eJ7_fill_53178_7_20, eJ7_fill_53178_7_in, h1, h2, h3, nI_1, Option.toList_some, Option.toList_none, List.cons_append, List.nil_append, b2_0, Classical.not_not, false_implies, true_implies, implies_true, true_and, and_true, not_true_eq_false, not_false_eq_true]
    have hR' := hR.put (v := v) (a := 7) (p := i) (e := 210 + i) (by rw [(ec_peak (by omega)).1]) (by rw [(ec_peak (by omega)).2])
    rw [fll_s] at hR'
    exact ih (i + 1) _ (by omega) (hF.set (by omega)) hR'
theorem c_fill_7 {Q : Qt} {M0 M : Mm} {N : Nat → Int32} {c t : Nat} {v : Int32} (hF : FrC M0 M) (hR : RV M.1 1 c t N) (hQ : ∀ M', FrC M0 M' → RV M'.1 1 c t (fll N 210 64 v) → Q none M') : kJ7_fill_53178 [.ref 7, .int v] M Q := by
  simp only [eJ7_fill_53178_7_0, eJ7_fill_53178_7_1, eJ7_fill_53178_7_2, eJ7_fill_53178_7_3, eJ7_fill_53178_7_4, eJ7_fill_53178_7_6, eJ7_fill_53178_7_7, eJ7_fill_53178_7_10, eJ7_fill_53178_7_11, eJ7_fill_53178_7_12, eJ7_fill_53178_7_13, eJ7_fill_53178_7_14, eJ7_fill_53178_7_17, eJ7_fill_53178_7_20, eJ7_fill_53178_7_in]
  exact l_fill_7 hQ 64 0 M (by omega) hF (by rw [fll_0]; exact hR)
theorem l_beg1 {Q : Qt} {M0 : Mm} {N : Nat → Int32} {a b : Int32} (hQ : ∀ M', FrM M0 M' → M'.1 52 = fll N 6 310 0 → V pgX7_begins Q 23 [.ref 51, .int a, .int b, .int 316] [] M') : ∀ (n i : Nat) (M : Mm), i + n = 310 → FrM M0 M → M.1 52 = fll N 6 i 0 → V pgX7_begins Q 3 [.ref 51, .int a, .int b, .int (nI (6 + i))] [] M := by
  intro n
  induction n with
  | zero =>
    intro i M hi hF hR
    have : i = 310 := by omega
    subst this
    rw [eX7_begins_3]
    simp only [eX7_begins_0, eX7_begins_2, eX7_begins_4, eX7_begins_7, eX7_begins_10, eX7_begins_11, eX7_begins_14, eX7_begins_15, eX7_begins_16, eX7_begins_17, eX7_begins_20, eX7_begins_24, eX7_begins_27, eX7_begins_28, eX7_begins_29, eX7_begins_30, eX7_begins_31, eX7_begins_34, eX7_begins_35, eX7_begins_36, eX7_begins_37, eX7_begins_38, eX7_begins_40, eX7_begins_42, eX7_begins_45, eX7_begins_46, eX7_begins_49, eX7_begins_52, eX7_begins_53, eX7_begins_54, eX7_begins_55, eX7_begins_56, eX7_begins_59, eX7_begins_62, eX7_begins_in]
    exact ⟨fun _ => hQ M hF hR, fun z => absurd (by decide) z⟩
  | succ n ih =>
    intro i M hi hF hR
    have h1 : ¬ ((316 : Int32) ≤ nI (6 + i)) := nI_ge (b := 316) (by omega) (by omega)
    have h2 : (nI (6 + i)).toNatClampNeg = 6 + i := nI_clamp (by omega)
    have h3 : vp_in (nI (6 + i)) 316 := vpn (by omega) (by decide)
    rw [eX7_begins_3]
    simp only [eX7_begins_0, eX7_begins_2, eX7_begins_4, eX7_begins_7, eX7_begins_10, eX7_begins_11, eX7_begins_14, eX7_begins_15, eX7_begins_16, eX7_begins_17, eX7_begins_20, eX7_begins_24, eX7_begins_27, eX7_begins_28, eX7_begins_29, eX7_begins_30, eX7_begins_31, eX7_begins_34, eX7_begins_35, eX7_begins_36, eX7_begins_37, eX7_begins_38, eX7_begins_40, eX7_begins_42, eX7_begins_45, eX7_begins_46, eX7_begins_49, eX7_begins_52, eX7_begins_53, eX7_begins_54, eX7_begins_55, eX7_begins_56, eX7_begins_59, eX7_begins_62, eX7_begins_in, h1, h2, h3, nI_1, Option.toList_some, Option.toList_none, List.cons_append, List.nil_append, b2_0, Classical.not_not, false_implies, true_implies, implies_true, true_and, and_true, not_true_eq_false, not_false_eq_true]
    exact ih (i + 1) _ (by omega) (hF.set (by omega)) (by rw [setI_at, hR, fll_s])
theorem l_beg2 {Q : Qt} {M0 : Mm} {N : Nat → Int32} {a b : Int32} (hQ : ∀ M', FrM M0 M' → M'.1 52 = fll N 210 64 (-1) → Q none M') : ∀ (n i : Nat) (M : Mm), i + n = 64 → FrM M0 M → M.1 52 = fll N 210 i (-1) → V pgX7_begins Q 39 [.ref 51, .int a, .int b, .int (nI i)] [] M := by
  intro n
  induction n with
  | zero =>
    intro i M hi hF hR
    have : i = 64 := by omega
    subst this
    rw [eX7_begins_39]
    simp only [eX7_begins_0, eX7_begins_2, eX7_begins_4, eX7_begins_7, eX7_begins_10, eX7_begins_11, eX7_begins_14, eX7_begins_15, eX7_begins_16, eX7_begins_17, eX7_begins_20, eX7_begins_23, eX7_begins_24, eX7_begins_27, eX7_begins_28, eX7_begins_29, eX7_begins_30, eX7_begins_31, eX7_begins_34, eX7_begins_35, eX7_begins_36, eX7_begins_37, eX7_begins_38, eX7_begins_40, eX7_begins_42, eX7_begins_45, eX7_begins_46, eX7_begins_49, eX7_begins_52, eX7_begins_53, eX7_begins_54, eX7_begins_55, eX7_begins_56, eX7_begins_59, eX7_begins_62, eX7_begins_in]
    exact ⟨fun _ => hQ M hF hR, fun z => absurd (by decide) z⟩
  | succ n ih =>
    intro i M hi hF hR
    have h1 : ¬ ((64 : Int32) ≤ nI i) := nI_ge (b := 64) (by omega) (by omega)
    have h2 : (nI (210 + i)).toNatClampNeg = 210 + i := nI_clamp (by omega)
    have h3 : vp_in (nI (210 + i)) 316 := vpn (by omega) (by decide)
    rw [eX7_begins_39]
    simp only [eX7_begins_0, eX7_begins_2, eX7_begins_4, eX7_begins_7, eX7_begins_10, eX7_begins_11, eX7_begins_14, eX7_begins_15, eX7_begins_16, eX7_begins_17, eX7_begins_20, eX7_begins_23, eX7_begins_24, eX7_begins_27, eX7_begins_28, eX7_begins_29, eX7_begins_30, eX7_begins_31, eX7_begins_34, eX7_begins_35, eX7_begins_36, eX7_begins_37, eX7_begins_38, eX7_begins_40, eX7_begins_42, eX7_begins_45, eX7_begins_46, eX7_begins_49, eX7_begins_52, eX7_begins_53, eX7_begins_54, eX7_begins_55, eX7_begins_56, eX7_begins_59, eX7_begins_62, eX7_begins_in, a210, h1, h2, h3, nI_1, Option.toList_some, Option.toList_none, List.cons_append, List.nil_append, b2_0, Classical.not_not, false_implies, true_implies, implies_true, true_and, and_true, not_true_eq_false, not_false_eq_true]
    exact ih (i + 1) _ (by omega) (hF.set (by omega)) (by rw [setI_at, hR, fll_s])
/-- the row anew -/
def newN (N : Nat → Int32) (a b : Int32) : Nat → Int32 := fll (upd (upd (fll N 6 310 0) 0 a) 1 b) 210 64 (-1)
theorem m_begins {Q : Qt} {M : Mm} {N : Nat → Int32} {a b : Int32} (hN : M.1 52 = N) (hQ : ∀ M', FrM M M' → M'.1 52 = newN N a b → Q none M') : kX7_begins [.ref 51, .int a, .int b] M Q := by
  simp only [eX7_begins_0, eX7_begins_2, eX7_begins_4, eX7_begins_7, eX7_begins_10, eX7_begins_11, eX7_begins_14, eX7_begins_15, eX7_begins_16, eX7_begins_17, eX7_begins_20, eX7_begins_23, eX7_begins_24, eX7_begins_27, eX7_begins_28, eX7_begins_29, eX7_begins_30, eX7_begins_31, eX7_begins_34, eX7_begins_35, eX7_begins_36, eX7_begins_37, eX7_begins_38, eX7_begins_40, eX7_begins_42, eX7_begins_45, eX7_begins_46, eX7_begins_49, eX7_begins_52, eX7_begins_53, eX7_begins_54, eX7_begins_55, eX7_begins_56, eX7_begins_59, eX7_begins_62, eX7_begins_in]
  refine l_beg1 (N := N) (fun M1 F1 R1 => ?_) 310 0 M (by omega) FrM.rf (by rw [fll_0]; exact hN)
  simp only [eX7_begins_0, eX7_begins_2, eX7_begins_4, eX7_begins_7, eX7_begins_10, eX7_begins_11, eX7_begins_14, eX7_begins_15, eX7_begins_16, eX7_begins_17, eX7_begins_20, eX7_begins_23, eX7_begins_24, eX7_begins_27, eX7_begins_28, eX7_begins_29, eX7_begins_30, eX7_begins_31, eX7_begins_34, eX7_begins_35, eX7_begins_36, eX7_begins_37, eX7_begins_38, eX7_begins_40, eX7_begins_42, eX7_begins_45, eX7_begins_46, eX7_begins_49, eX7_begins_52, eX7_begins_53, eX7_begins_54, eX7_begins_55, eX7_begins_56, eX7_begins_59, eX7_begins_62, eX7_begins_in, v0, v1, tn_0, tn_1, Option.toList_some, Option.toList_none, List.cons_append, List.nil_append, b2_0, Classical.not_not, false_implies, true_implies, implies_true, true_and, and_true, not_true_eq_false, not_false_eq_true]
  refine l_beg2 (M0 := M) (N := upd (upd (fll N 6 310 0) 0 a) 1 b) hQ 64 0 _ (by omega) ((F1.set (by omega)).set (by omega)) ?_
  rw [fll_0, setI_at, setI_at, R1]
theorem newN_at (N : Nat → Int32) (a b : Int32) : newN N a b 0 = a ∧ newN N a b 1 = b ∧ (∀ k, 2 ≤ k → k < 6 → newN N a b k = N k) ∧ (∀ k, 6 ≤ k → k < 210 → newN N a b k = 0) ∧ (∀ k, 210 ≤ k → k < 274 → newN N a b k = -1) ∧ (∀ k, 274 ≤ k → k < 316 → newN N a b k = 0) := by
  refine ⟨?_, ?_, fun k h1 h2 => ?_, fun k h1 h2 => ?_, fun k h1 h2 => ?_, fun k h1 h2 => ?_⟩
  · simp [newN, fll, upd]
  · simp [newN, fll, upd]
  · simp only [newN, fll, upd]
    rw [if_neg (by omega), if_neg (by omega), if_neg (by omega), if_neg (by omega)]
  · simp only [newN, fll, upd]
    rw [if_neg (by omega), if_neg (by omega), if_neg (by omega), if_pos (by omega)]
  · simp only [newN, fll, upd]
    rw [if_pos (by omega)]
  · simp only [newN, fll, upd]
    rw [if_neg (by omega), if_neg (by omega), if_neg (by omega), if_pos (by omega)]
theorem newN_gd {N : Nat → Int32} {R C c t T P D L : Nat} (g : Gd N R C c t T P D L) {R' C' : Nat} (hR : 2 ≤ R' ∧ R' ≤ 8) (hC : 2 ≤ C' ∧ C' ≤ 8) : Gd (newN N (nI R') (nI C')) R' C' 0 0 T P D L := by
  obtain ⟨z0, z1, zb, z6, zp, zc⟩ := newN_at N (nI R') (nI C')
  obtain ⟨g1, g2, ⟨n0, n1, n2, n3, n4, n5, n8, n10⟩, -⟩ := g
  have z : nI 0 = 0 := rfl
  refine ⟨⟨hR, hC, by omega, by omega⟩, g2, ⟨z0, z1, by rw [zb 2 (by omega) (by omega)]; exact n2, by rw [zb 3 (by omega) (by omega)]; exact n3, by rw [zb 4 (by omega) (by omega)]; exact n4, by rw [zb 5 (by omega) (by omega)]; exact n5, z6 8 (by omega) (by omega), z6 10 (by omega) (by omega)⟩, ⟨0, by omega, z6 6 (by omega) (by omega), 0, by omega, z6 13 (by omega) (by omega), fun _ => 0, fun i hi => by omega, fun i j h1 h2 => by omega⟩, ⟨0, by omega, z6 7 (by omega) (by omega)⟩, ⟨0, Nat.two_pow_pos _, z6 14 (by omega) (by omega)⟩, ⟨0, by omega, z6 17 (by omega) (by omega)⟩, fun k hk => ⟨0, by omega, z6 _ (by omega) (by omega)⟩, fun k hk => ⟨0, by omega, z6 _ (by omega) (by omega)⟩, fun k hk => Or.inl (zp _ (by omega) (by omega)), fun i hi => by omega, fun j hj => by omega⟩
theorem step_panel {M : Mm} (hI : Inv M) (a b : Int32) : StepI kX6_panel kX7_panel [.int a, .int b] M := by
  obtain ⟨⟨hR, R, C, cc, t, T, P, D, L, g⟩, -⟩ := id hI
  obtain ⟨⟨⟨r1, r2⟩, ⟨c1, c2⟩, hcc, htt⟩, ⟨⟨t1, t2⟩, ⟨p1, p2⟩, hD, hL⟩, ⟨n0, n1, n2, n3, n4, n5, n8, n10⟩, hF, hSt, hs, hw, hraw, hgr, hpk, hcon, htr⟩ := id g
  have e30 : M.1 3 0 = nI R := (hR.lo (k := 0) (by omega)).trans n0
  have e31 : M.1 3 1 = nI C := (hR.lo (k := 1) (by omega)).trans n1
  have e81 : M.1 8 1 = nI cc := (hR.lo (k := 8) (by omega)).trans n8
  have e105 : M.1 10 5 = nI t := (hR.lo (k := 10) (by omega)).trans n10
  by_cases ha : 2 ≤ a ∧ a ≤ 8
  · by_cases hb : 2 ≤ b ∧ b ≤ 8
    · obtain ⟨R', q1, q2, rfl⟩ := in_nI (a := 2) (b := 8) (by omega) (by omega) ha.1 ha.2
      obtain ⟨C', q3, q4, rfl⟩ := in_nI (a := 2) (b := 8) (by omega) (by omega) hb.1 hb.2
      have gN := newN_gd g ⟨q1, q2⟩ ⟨q3, q4⟩
      refine combI hI qX6_panel qX7_panel (newN (M.1 52) (nI R') (nI C')) (nI R' * nI C') ⟨_, _, _, _, _, _, _, _, gN⟩ (fun Q h => ?_) (fun M1 Q hM h => ?_)
      · simp only [eX6_panel_0, eX6_panel_1, eX6_panel_2, eX6_panel_4, eX6_panel_7, eX6_panel_10, eX6_panel_11, eX6_panel_12, eX6_panel_14, eX6_panel_17, eX6_panel_20, eX6_panel_22, eX6_panel_23, eX6_panel_24, eX6_panel_27, eX6_panel_28, eX6_panel_29, eX6_panel_32, eX6_panel_33, eX6_panel_36, eX6_panel_39, eX6_panel_42, eX6_panel_in, eX4_beginAnew_0, eX4_beginAnew_1, eX4_beginAnew_4, eX4_beginAnew_5, eX4_beginAnew_6, eX4_beginAnew_9, eX4_beginAnew_10, eX4_beginAnew_13, eX4_beginAnew_16, eX4_beginAnew_17, eX4_beginAnew_20, eX4_beginAnew_23, eX4_beginAnew_24, eX4_beginAnew_25, eX4_beginAnew_28, eX4_beginAnew_29, eX4_beginAnew_30, eX4_beginAnew_33, eX4_beginAnew_34, eX4_beginAnew_35, eX4_beginAnew_38, eX4_beginAnew_in, eX1_beginAnew_0, eX1_beginAnew_1, eX1_beginAnew_2, eX1_beginAnew_5, eX1_beginAnew_6, eX1_beginAnew_7, eX1_beginAnew_10, eX1_beginAnew_11, eX1_beginAnew_14, eX1_beginAnew_15, eX1_beginAnew_18, eX1_beginAnew_19, eX1_beginAnew_22, eX1_beginAnew_23, eX1_beginAnew_26, eX1_beginAnew_27, eX1_beginAnew_30, eX1_beginAnew_31, eX1_beginAnew_34, eX1_beginAnew_35, eX1_beginAnew_38, eX1_beginAnew_39, eX1_beginAnew_42, eX1_beginAnew_43, eX1_beginAnew_44, eX1_beginAnew_47, eX1_beginAnew_48, eX1_beginAnew_49, eX1_beginAnew_52, eX1_beginAnew_53, eX1_beginAnew_54, eX1_beginAnew_57, eX1_beginAnew_in, q_within, ha, hb, Option.toList_some, Option.toList_none, List.cons_append, List.nil_append, b2_0, Classical.not_not, false_implies, true_implies, implies_true, true_and, and_true, not_true_eq_false, not_false_eq_true]
        have r0 : RV M.1 1 0 0 (M.1 52) := (hR.rv hcc htt n8 n10).sub (by omega) (by omega)
        have r1 := (r0.put (a := 3) (p := 0) (e := 0) (v := nI R') rfl rfl).put (a := 3) (p := 1) (e := 1) (v := nI C') rfl rfl
        refine c_fill_4 ((FrC.rf.set (by omega)).set (by omega)) r1 (fun M2 F2 R2 => ?_)
        simp only [eX1_beginAnew_0, eX1_beginAnew_1, eX1_beginAnew_2, eX1_beginAnew_5, eX1_beginAnew_6, eX1_beginAnew_7, eX1_beginAnew_10, eX1_beginAnew_11, eX1_beginAnew_14, eX1_beginAnew_15, eX1_beginAnew_18, eX1_beginAnew_19, eX1_beginAnew_22, eX1_beginAnew_23, eX1_beginAnew_26, eX1_beginAnew_27, eX1_beginAnew_30, eX1_beginAnew_31, eX1_beginAnew_34, eX1_beginAnew_35, eX1_beginAnew_38, eX1_beginAnew_39, eX1_beginAnew_42, eX1_beginAnew_43, eX1_beginAnew_44, eX1_beginAnew_47, eX1_beginAnew_48, eX1_beginAnew_49, eX1_beginAnew_52, eX1_beginAnew_53, eX1_beginAnew_54, eX1_beginAnew_57, eX1_beginAnew_in, Option.toList_some, Option.toList_none, List.cons_append, List.nil_append, b2_0, Classical.not_not, false_implies, true_implies, implies_true, true_and, and_true, not_true_eq_false, not_false_eq_true]
        refine c_fill_5 F2 R2 (fun M3 F3 R3 => ?_)
        simp only [eX1_beginAnew_0, eX1_beginAnew_1, eX1_beginAnew_2, eX1_beginAnew_5, eX1_beginAnew_6, eX1_beginAnew_7, eX1_beginAnew_10, eX1_beginAnew_11, eX1_beginAnew_14, eX1_beginAnew_15, eX1_beginAnew_18, eX1_beginAnew_19, eX1_beginAnew_22, eX1_beginAnew_23, eX1_beginAnew_26, eX1_beginAnew_27, eX1_beginAnew_30, eX1_beginAnew_31, eX1_beginAnew_34, eX1_beginAnew_35, eX1_beginAnew_38, eX1_beginAnew_39, eX1_beginAnew_42, eX1_beginAnew_43, eX1_beginAnew_44, eX1_beginAnew_47, eX1_beginAnew_48, eX1_beginAnew_49, eX1_beginAnew_52, eX1_beginAnew_53, eX1_beginAnew_54, eX1_beginAnew_57, eX1_beginAnew_in, Option.toList_some, Option.toList_none, List.cons_append, List.nil_append, b2_0, Classical.not_not, false_implies, true_implies, implies_true, true_and, and_true, not_true_eq_false, not_false_eq_true]
        refine c_fill_6 F3 R3 (fun M4 F4 R4 => ?_)
        simp only [eX1_beginAnew_0, eX1_beginAnew_1, eX1_beginAnew_2, eX1_beginAnew_5, eX1_beginAnew_6, eX1_beginAnew_7, eX1_beginAnew_10, eX1_beginAnew_11, eX1_beginAnew_14, eX1_beginAnew_15, eX1_beginAnew_18, eX1_beginAnew_19, eX1_beginAnew_22, eX1_beginAnew_23, eX1_beginAnew_26, eX1_beginAnew_27, eX1_beginAnew_30, eX1_beginAnew_31, eX1_beginAnew_34, eX1_beginAnew_35, eX1_beginAnew_38, eX1_beginAnew_39, eX1_beginAnew_42, eX1_beginAnew_43, eX1_beginAnew_44, eX1_beginAnew_47, eX1_beginAnew_48, eX1_beginAnew_49, eX1_beginAnew_52, eX1_beginAnew_53, eX1_beginAnew_54, eX1_beginAnew_57, eX1_beginAnew_in, Option.toList_some, Option.toList_none, List.cons_append, List.nil_append, b2_0, Classical.not_not, false_implies, true_implies, implies_true, true_and, and_true, not_true_eq_false, not_false_eq_true]
        refine c_fill_7 F4 R4 (fun M5 F5 R5 => ?_)
        simp only [eX6_panel_0, eX6_panel_1, eX6_panel_2, eX6_panel_4, eX6_panel_7, eX6_panel_10, eX6_panel_11, eX6_panel_12, eX6_panel_14, eX6_panel_17, eX6_panel_20, eX6_panel_22, eX6_panel_23, eX6_panel_24, eX6_panel_27, eX6_panel_28, eX6_panel_29, eX6_panel_32, eX6_panel_33, eX6_panel_36, eX6_panel_39, eX6_panel_42, eX6_panel_in, eX4_beginAnew_0, eX4_beginAnew_1, eX4_beginAnew_4, eX4_beginAnew_5, eX4_beginAnew_6, eX4_beginAnew_9, eX4_beginAnew_10, eX4_beginAnew_13, eX4_beginAnew_16, eX4_beginAnew_17, eX4_beginAnew_20, eX4_beginAnew_23, eX4_beginAnew_24, eX4_beginAnew_25, eX4_beginAnew_28, eX4_beginAnew_29, eX4_beginAnew_30, eX4_beginAnew_33, eX4_beginAnew_34, eX4_beginAnew_35, eX4_beginAnew_38, eX4_beginAnew_in, eX1_beginAnew_0, eX1_beginAnew_1, eX1_beginAnew_2, eX1_beginAnew_5, eX1_beginAnew_6, eX1_beginAnew_7, eX1_beginAnew_10, eX1_beginAnew_11, eX1_beginAnew_14, eX1_beginAnew_15, eX1_beginAnew_18, eX1_beginAnew_19, eX1_beginAnew_22, eX1_beginAnew_23, eX1_beginAnew_26, eX1_beginAnew_27, eX1_beginAnew_30, eX1_beginAnew_31, eX1_beginAnew_34, eX1_beginAnew_35, eX1_beginAnew_38, eX1_beginAnew_39, eX1_beginAnew_42, eX1_beginAnew_43, eX1_beginAnew_44, eX1_beginAnew_47, eX1_beginAnew_48, eX1_beginAnew_49, eX1_beginAnew_52, eX1_beginAnew_53, eX1_beginAnew_54, eX1_beginAnew_57, eX1_beginAnew_in, eX0_forget_0, eX0_forget_1, eX0_forget_2, eX0_forget_5, eX0_forget_6, eX0_forget_7, eX0_forget_10, eX0_forget_in, eX5_forget_0, eX5_forget_1, eX5_forget_2, eX5_forget_5, eX5_forget_6, eX5_forget_7, eX5_forget_10, eX5_forget_11, eX5_forget_12, eX5_forget_15, eX5_forget_16, eX5_forget_17, eX5_forget_20, eX5_forget_in, q_cells, Option.toList_some, Option.toList_none, List.cons_append, List.nil_append, b2_0, Classical.not_not, false_implies, true_implies, implies_true, true_and, and_true, not_true_eq_false, not_false_eq_true]
        have R6 := ((((((((((((R5.put (a := 3) (p := 6) (e := 14) (v := 0) rfl rfl).put (a := 3) (p := 7) (e := 15) (v := 0) rfl rfl).put (a := 3) (p := 8) (e := 16) (v := 0) rfl rfl).put (a := 8) (p := 1) (e := 8) (v := 0) rfl rfl).put (a := 8) (p := 2) (e := 9) (v := 0) rfl rfl).put (a := 10) (p := 5) (e := 10) (v := 0) rfl rfl).put (a := 10) (p := 6) (e := 13) (v := 0) rfl rfl).put (a := 10) (p := 7) (e := 11) (v := 0) rfl rfl).put (a := 10) (p := 8) (e := 12) (v := 0) rfl rfl).put (a := 1) (p := 4) (e := 6) (v := 0) rfl rfl).put (a := 1) (p := 5) (e := 7) (v := 0) rfl rfl).put (a := 1) (p := 6) (e := 17) (v := 0) rfl rfl)
        have F6 := ((((((((((((F5.set (a := 3) (p := 6) (v := 0) (by omega)).set (a := 3) (p := 7) (v := 0) (by omega)).set (a := 3) (p := 8) (v := 0) (by omega)).set (a := 8) (p := 1) (v := 0) (by omega)).set (a := 8) (p := 2) (v := 0) (by omega)).set (a := 10) (p := 5) (v := 0) (by omega)).set (a := 10) (p := 6) (v := 0) (by omega)).set (a := 10) (p := 7) (v := 0) (by omega)).set (a := 10) (p := 8) (v := 0) (by omega)).set (a := 1) (p := 4) (v := 0) (by omega)).set (a := 1) (p := 5) (v := 0) (by omega)).set (a := 1) (p := 6) (v := 0) (by omega))
        generalize setI _ 1 6 0 = M6 at R6 F6 ⊢
        have R7 : RV M6.1 1 0 0 (newN (M.1 52) (nI R') (nI C')) := by
          refine R6.eqv (fun k hk => ?_)
          have hk : k < 274 := by
            unfold vld at hk
            omega
          rcases Nat.lt_or_ge k 18 with z | z
          · rcases (show k = 0 ∨ k = 1 ∨ k = 2 ∨ k = 3 ∨ k = 4 ∨ k = 5 ∨ k = 6 ∨ k = 7 ∨ k = 8 ∨ k = 9 ∨ k = 10 ∨ k = 11 ∨ k = 12 ∨ k = 13 ∨ k = 14 ∨ k = 15 ∨ k = 16 ∨ k = 17 by omega) with rfl | rfl | rfl | rfl | rfl | rfl | rfl | rfl | rfl | rfl | rfl | rfl | rfl | rfl | rfl | rfl | rfl | rfl <;> simp [newN, fll, upd]
          · obtain ⟨-, -, -, z6, zp, -⟩ := newN_at (M.1 52) (nI R') (nI C')
            rw [upd_ne (by omega), upd_ne (by omega), upd_ne (by omega), upd_ne (by omega), upd_ne (by omega), upd_ne (by omega), upd_ne (by omega), upd_ne (by omega), upd_ne (by omega), upd_ne (by omega), upd_ne (by omega), upd_ne (by omega)]
            rcases Nat.lt_or_ge k 210 with y | y
            · rw [z6 k (by omega) y]
              simp only [fll]
              rw [if_neg (by omega)]
              rcases Nat.lt_or_ge k 146 with x | x
              · rw [if_neg (by omega)]
                rcases Nat.lt_or_ge k 82 with u | u
                · rw [if_neg (by omega), if_pos (by omega)]
                · rw [if_pos (by omega)]
              · rw [if_pos (by omega)]
            · rw [zp k y hk]
              simp only [fll]
              rw [if_pos (by omega)]
        have s0 : M6.1 3 0 = nI R' := (R7 0 (Or.inl (by omega))).trans (newN_at (M.1 52) (nI R') (nI C')).1
        have s1 : M6.1 3 1 = nI C' := (R7 1 (Or.inl (by omega))).trans (newN_at (M.1 52) (nI R') (nI C')).2.1
        rw [s0, s1]
        exact h M6 F6 (R7.re (by omega) (by omega) gN.2.2.1.2.2.2.2.2.2.1 gN.2.2.1.2.2.2.2.2.2.2)
      · simp only [eX7_panel_0, eX7_panel_1, eX7_panel_2, eX7_panel_4, eX7_panel_7, eX7_panel_10, eX7_panel_11, eX7_panel_12, eX7_panel_14, eX7_panel_17, eX7_panel_20, eX7_panel_22, eX7_panel_23, eX7_panel_24, eX7_panel_25, eX7_panel_26, eX7_panel_29, eX7_panel_30, eX7_panel_31, eX7_panel_32, eX7_panel_in, q_in, ha, hb, Option.toList_some, Option.toList_none, List.cons_append, List.nil_append, b2_0, Classical.not_not, false_implies, true_implies, implies_true, true_and, and_true, not_true_eq_false, not_false_eq_true]
        refine m_begins hM (fun M2 F2 R2 => ?_)
        simp only [eX7_panel_0, eX7_panel_1, eX7_panel_2, eX7_panel_4, eX7_panel_7, eX7_panel_10, eX7_panel_11, eX7_panel_12, eX7_panel_14, eX7_panel_17, eX7_panel_20, eX7_panel_22, eX7_panel_23, eX7_panel_24, eX7_panel_25, eX7_panel_26, eX7_panel_29, eX7_panel_30, eX7_panel_31, eX7_panel_32, eX7_panel_in, Option.toList_some, Option.toList_none, List.cons_append, List.nil_append, b2_0, Classical.not_not, false_implies, true_implies, implies_true, true_and, and_true, not_true_eq_false, not_false_eq_true]
        exact h M2 F2 R2
    · refine combN hI qX6_panel qX7_panel (-1000000002) (fun Q h => ?_) (fun M1 Q hM h => ?_)
      · simp only [eX6_panel_0, eX6_panel_1, eX6_panel_2, eX6_panel_4, eX6_panel_7, eX6_panel_10, eX6_panel_11, eX6_panel_12, eX6_panel_14, eX6_panel_17, eX6_panel_20, eX6_panel_22, eX6_panel_23, eX6_panel_24, eX6_panel_27, eX6_panel_28, eX6_panel_29, eX6_panel_32, eX6_panel_33, eX6_panel_36, eX6_panel_39, eX6_panel_42, eX6_panel_in, q_within, ha, hb, Option.toList_some, Option.toList_none, List.cons_append, List.nil_append, b2_0, Classical.not_not, false_implies, true_implies, implies_true, true_and, and_true, not_true_eq_false, not_false_eq_true]
        exact h
      · simp only [eX7_panel_0, eX7_panel_1, eX7_panel_2, eX7_panel_4, eX7_panel_7, eX7_panel_10, eX7_panel_11, eX7_panel_12, eX7_panel_14, eX7_panel_17, eX7_panel_20, eX7_panel_22, eX7_panel_23, eX7_panel_24, eX7_panel_25, eX7_panel_26, eX7_panel_29, eX7_panel_30, eX7_panel_31, eX7_panel_32, eX7_panel_in, q_in, ha, hb, Option.toList_some, Option.toList_none, List.cons_append, List.nil_append, b2_0, Classical.not_not, false_implies, true_implies, implies_true, true_and, and_true, not_true_eq_false, not_false_eq_true]
        exact h
  · refine combN hI qX6_panel qX7_panel (-1000000002) (fun Q h => ?_) (fun M1 Q hM h => ?_)
    · simp only [eX6_panel_0, eX6_panel_1, eX6_panel_2, eX6_panel_4, eX6_panel_7, eX6_panel_10, eX6_panel_11, eX6_panel_12, eX6_panel_14, eX6_panel_17, eX6_panel_20, eX6_panel_22, eX6_panel_23, eX6_panel_24, eX6_panel_27, eX6_panel_28, eX6_panel_29, eX6_panel_32, eX6_panel_33, eX6_panel_36, eX6_panel_39, eX6_panel_42, eX6_panel_in, q_within, ha, Option.toList_some, Option.toList_none, List.cons_append, List.nil_append, b2_0, Classical.not_not, false_implies, true_implies, implies_true, true_and, and_true, not_true_eq_false, not_false_eq_true]
      exact h
    · simp only [eX7_panel_0, eX7_panel_1, eX7_panel_2, eX7_panel_4, eX7_panel_7, eX7_panel_10, eX7_panel_11, eX7_panel_12, eX7_panel_14, eX7_panel_17, eX7_panel_20, eX7_panel_22, eX7_panel_23, eX7_panel_24, eX7_panel_25, eX7_panel_26, eX7_panel_29, eX7_panel_30, eX7_panel_31, eX7_panel_32, eX7_panel_in, q_in, ha, Option.toList_some, Option.toList_none, List.cons_append, List.nil_append, b2_0, Classical.not_not, false_implies, true_implies, implies_true, true_and, and_true, not_true_eq_false, not_false_eq_true]
      exact h
