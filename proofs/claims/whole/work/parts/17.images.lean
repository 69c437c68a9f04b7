/-! keep, goBack -/
theorem Gd.ext {N N' : Nat → Int32} {R C c t T P D L : Nat} (g : Gd N R C c t T P D L) (e : ∀ k, k < 316 → N' k = N k) : Gd N' R C c t T P D L := by
  obtain ⟨g1, g2, ⟨n0, n1, n2, n3, n4, n5, n8, n10⟩, hF, hS, hs, hw, hraw, hgr, hpk, hcon, htr⟩ := g
  have hrc : R * C ≤ 64 := rc_le g1.1.2 g1.2.1.2
  have h6 : t ≤ 6 := g1.2.2.2
  have c6 : c ≤ 6 := g1.2.2.1
  refine ⟨g1, g2, ⟨by rw [e 0 (by omega)]; exact n0, by rw [e 1 (by omega)]; exact n1, by rw [e 2 (by omega)]; exact n2, by rw [e 3 (by omega)]; exact n3, by rw [e 4 (by omega)]; exact n4, by rw [e 5 (by omega)]; exact n5, by rw [e 8 (by omega)]; exact n8, by rw [e 10 (by omega)]; exact n10⟩, ?_, by rw [e 7 (by omega)]; exact hS, by rw [e 14 (by omega)]; exact hs, by rw [e 17 (by omega)]; exact hw, fun k hk => by rw [e (18 + k) (by omega)]; exact hraw k hk, fun k hk => by rw [e (82 + k) (by omega)]; exact hgr k hk, fun k hk => by rw [e (210 + k) (by omega), e (146 + k) (by omega)]; exact hpk k hk, fun i hi => ?_, fun j hj => by rw [e (281 + 6 * j) (by omega)]; exact htr j hj⟩
  · obtain ⟨F, f1, f2, x, f3, f4, y, f5, f6⟩ := hF
    exact ⟨F, f1, by rw [e 6 (by omega)]; exact f2, x, f3, by rw [e 13 (by omega)]; exact f4, y, fun i hi => by rw [e _ (by omega)]; exact f5 i hi, f6⟩
  · obtain ⟨p, h1, h2, h3⟩ := hcon i hi
    exact ⟨p, h1, by rw [e _ (by omega)]; exact h2, by rw [e _ (by omega)]; exact h3⟩
theorem GdE.ext {N N' : Nat → Int32} (g : GdE N) (e : ∀ k, k < 316 → N' k = N k) : GdE N' := by
  obtain ⟨R, C, c, t, T, P, D, L, g⟩ := g
  exact ⟨R, C, c, t, T, P, D, L, g.ext e⟩
theorem GdE.ct {N : Nat → Int32} (g : GdE N) : (N 8).toNatClampNeg ≤ 6 ∧ (N 10).toNatClampNeg ≤ 6 := by
  obtain ⟨R, C, c, t, T, P, D, L, ⟨-, -, h1, h2⟩, -, ⟨-, -, -, -, -, -, n8, n10⟩, -⟩ := g
  rw [n8, n10, nI_clamp (by omega), nI_clamp (by omega)]
  exact ⟨h1, h2⟩
theorem vld_lt {c t k : Nat} (ht : t ≤ 6) (h : vld c t k) : k < 316 := by
  unfold vld at h
  omega
theorem vld_66 {c t k : Nat} (ht : t ≤ 6) (h : vld c t k) : vld 6 6 k := by
  unfold vld at h ⊢
  omega
theorem Re.ext {f : Nat → Nat → Int32} {b : Nat} {N N' : Nat → Int32} (h : Re f b N) (g : GdE N) (e : ∀ k, k < 316 → N' k = N k) : Re f b N' := by
  intro k hk
  rw [e 8 (by omega), e 10 (by omega)] at hk
  rw [h k hk, e k (vld_lt g.ct.2 hk)]
theorem Re.cp {M M' : Mm} {d s : Nat} {N : Nat → Int32} (h : Re M.1 s N) (g : GdE N) (hc : CpD M M' d s) : Re M'.1 d N := by
  intro k hk
  rw [hc.2 k (vld_66 g.ct.2 hk)]
  exact h k hk
def blk (f g : Nat → Int32) (j i : Nat) : Nat → Int32 := fun k => if 316 * j ≤ k ∧ k < 316 * j + i then g (k - 316 * j) else f k
theorem blk_0 (f g : Nat → Int32) (j : Nat) : blk f g j 0 = f := by
  funext k
  simp only [blk]
  rw [if_neg (by omega)]
theorem blk_s (f g : Nat → Int32) (j i : Nat) : upd (blk f g j i) (316 * j + i) (g i) = blk f g j (i + 1) := by
  funext k
  simp only [blk, upd]
  by_cases h : k = 316 * j + i
  · rw [if_pos h, if_pos (by omega)]
    congr 1
    omega
  · rw [if_neg h]
    by_cases h2 : 316 * j ≤ k ∧ k < 316 * j + i
    · rw [if_pos h2, if_pos (by omega)]
    · rw [if_neg h2, if_neg (by omega)]
theorem setI_setI {M : Mm} {a p : Nat} {f : Nat → Int32} {v : Int32} : setI (setA M a f) a p v = setA M a (upd f p v) := by
  unfold setI setA
  ext q
  · by_cases h : q = a
    · subst h
      simp
    · simp [h]
  · rfl
theorem setA_self {M : Mm} {a : Nat} : setA M a (M.1 a) = M := by
  unfold setA
  ext q
  · by_cases h : q = a
    · subst h
      simp
    · simp [h]
  · rfl
theorem l_keep {Q : Qt} {M : Mm} {j : Nat} (hj : j < 2) (hQ : Q (some (.int 1)) (setA M 56 (blk (M.1 56) (M.1 52) j 316))) : ∀ (n i : Nat), i + n = 316 → V pgX7_keep Q 21 [.ref 51, .int (nI j), .int (nI i)] [] (setA M 56 (blk (M.1 56) (M.1 52) j i)) := by
  intro n
  induction n with
  | zero =>
    intro i hi
    have : i = 316 := by omega
    subst this
    rw [eX7_keep_21]
    simp only [eX7_keep_0, eX7_keep_1, eX7_keep_2, eX7_keep_3, eX7_keep_6, eX7_keep_9, eX7_keep_11, eX7_keep_12, eX7_keep_13, eX7_keep_16, eX7_keep_17, eX7_keep_18, eX7_keep_19, eX7_keep_20, eX7_keep_22, eX7_keep_25, eX7_keep_28, eX7_keep_29, eX7_keep_32, eX7_keep_35, eX7_keep_36, eX7_keep_37, eX7_keep_38, eX7_keep_39, eX7_keep_40, eX7_keep_43, eX7_keep_44, eX7_keep_45, eX7_keep_46, eX7_keep_49, eX7_keep_52, eX7_keep_53, eX7_keep_in]
    exact ⟨fun _ => hQ, fun z => absurd (by decide) z⟩
  | succ n ih =>
    intro i hi
    have h1 : ¬ ((316 : Int32) ≤ nI i) := nI_ge (b := 316) (by omega) (by omega)
    have h2 : (nI i).toNatClampNeg = i := nI_clamp (by omega)
    have h3 : vp_in (nI i) 316 := vpn (by omega) (by decide)
    have h4 : (316 : Int32) * nI j + nI i = nI (316 * j + i) := by rw [show (316 : Int32) = nI 316 from rfl, pk_mul, nI_add]
    have h5 : (nI (316 * j + i)).toNatClampNeg = 316 * j + i := nI_clamp (by omega)
    have h6 : vp_in (nI (316 * j + i)) 632 := vpn (by omega) (by decide)
    have h7 : (setA M 56 (blk (M.1 56) (M.1 52) j i)).1 52 = M.1 52 := setA_ne (by decide)
    rw [eX7_keep_21]
    simp only [eX7_keep_0, eX7_keep_1, eX7_keep_2, eX7_keep_3, eX7_keep_6, eX7_keep_9, eX7_keep_11, eX7_keep_12, eX7_keep_13, eX7_keep_16, eX7_keep_17, eX7_keep_18, eX7_keep_19, eX7_keep_20, eX7_keep_22, eX7_keep_25, eX7_keep_28, eX7_keep_29, eX7_keep_32, eX7_keep_35, eX7_keep_36, eX7_keep_37, eX7_keep_38, eX7_keep_39, eX7_keep_40, eX7_keep_43, eX7_keep_44, eX7_keep_45, eX7_keep_46, eX7_keep_49, eX7_keep_52, eX7_keep_53, eX7_keep_in, h1, h2, h3, h4, h5, h6, h7, nI_1, Option.toList_some, Option.toList_none, List.cons_append, List.nil_append, b2_0, Classical.not_not, false_implies, true_implies, implies_true, true_and, and_true, not_true_eq_false, not_false_eq_true]
    rw [setI_setI, blk_s]
    exact ih (i + 1) (by omega)
theorem l_goBack {Q : Qt} {M : Mm} {j : Nat} (hj : j < 2) (hQ : Q (some (.int 1)) (setA M 52 (blk (M.1 52) (fun k => M.1 56 (316 * j + k)) 0 316))) : ∀ (n i : Nat), i + n = 316 → V pgX7_goBack Q 26 [.ref 51, .int (nI j), .int (nI i)] [] (setA M 52 (blk (M.1 52) (fun k => M.1 56 (316 * j + k)) 0 i)) := by
  intro n
  induction n with
  | zero =>
    intro i hi
    have : i = 316 := by omega
    subst this
    rw [eX7_goBack_26]
    simp only [eX7_goBack_0, eX7_goBack_1, eX7_goBack_2, eX7_goBack_3, eX7_goBack_6, eX7_goBack_9, eX7_goBack_11, eX7_goBack_12, eX7_goBack_13, eX7_goBack_16, eX7_goBack_17, eX7_goBack_18, eX7_goBack_21, eX7_goBack_23, eX7_goBack_24, eX7_goBack_25, eX7_goBack_27, eX7_goBack_30, eX7_goBack_33, eX7_goBack_34, eX7_goBack_37, eX7_goBack_38, eX7_goBack_39, eX7_goBack_42, eX7_goBack_45, eX7_goBack_46, eX7_goBack_47, eX7_goBack_48, eX7_goBack_49, eX7_goBack_50, eX7_goBack_51, eX7_goBack_54, eX7_goBack_57, eX7_goBack_58, eX7_goBack_in]
    exact ⟨fun _ => hQ, fun z => absurd (by decide) z⟩
  | succ n ih =>
    intro i hi
    have h1 : ¬ ((316 : Int32) ≤ nI i) := nI_ge (b := 316) (by omega) (by omega)
    have h2 : (nI i).toNatClampNeg = i := nI_clamp (by omega)
    have h3 : vp_in (nI i) 316 := vpn (by omega) (by decide)
    have h4 : (316 : Int32) * nI j + nI i = nI (316 * j + i) := by rw [show (316 : Int32) = nI 316 from rfl, pk_mul, nI_add]
    have h5 : (nI (316 * j + i)).toNatClampNeg = 316 * j + i := nI_clamp (by omega)
    have h6 : vp_in (nI (316 * j + i)) 632 := vpn (by omega) (by decide)
    have h7 : (setA M 52 (blk (M.1 52) (fun k => M.1 56 (316 * j + k)) 0 i)).1 56 = M.1 56 := setA_ne (by decide)
    rw [eX7_goBack_26]
    simp only [eX7_goBack_0, eX7_goBack_1, eX7_goBack_2, eX7_goBack_3, eX7_goBack_6, eX7_goBack_9, eX7_goBack_11, eX7_goBack_12, eX7_goBack_13, eX7_goBack_16, eX7_goBack_17, eX7_goBack_18, eX7_goBack_21, eX7_goBack_23, eX7_goBack_24, eX7_goBack_25, eX7_goBack_27, eX7_goBack_30, eX7_goBack_33, eX7_goBack_34, eX7_goBack_37, eX7_goBack_38, eX7_goBack_39, eX7_goBack_42, eX7_goBack_45, eX7_goBack_46, eX7_goBack_47, eX7_goBack_48, eX7_goBack_49, eX7_goBack_50, eX7_goBack_51, eX7_goBack_54, eX7_goBack_57, eX7_goBack_58, eX7_goBack_in, h1, h2, h3, h4, h5, h6, h7, nI_1, Option.toList_some, Option.toList_none, List.cons_append, List.nil_append, b2_0, Classical.not_not, false_implies, true_implies, implies_true, true_and, and_true, not_true_eq_false, not_false_eq_true]
    have e := blk_s (M.1 52) (fun k => M.1 56 (316 * j + k)) 0 i
    simp only [Nat.mul_zero, Nat.zero_add] at e
    rw [setI_setI, e]
    exact ih (i + 1) (by omega)
theorem ob16 : isObj 16 4 := ⟨_, rfl⟩
theorem ob31 : isObj 31 4 := ⟨_, rfl⟩
theorem ob1 : isObj 1 4 := ⟨_, rfl⟩
theorem kept_or : ∀ k0, k0 < 2 → ∀ k1, k1 < 2 → nI (k0 + 2 * k1) ||| ((1 : Int32) <<< (nI 0 &&& 31)) = nI (1 + 2 * k1) ∧ nI (k0 + 2 * k1) ||| ((1 : Int32) <<< (nI 1 &&& 31)) = nI (k0 + 2 * 1) := by decide
theorem kept_and : ∀ k0, k0 < 2 → ∀ k1, k1 < 2 → (nI (k0 + 2 * k1) &&& ((1 : Int32) <<< (nI 0 &&& 31)) = 0 ↔ k0 = 0) ∧ (nI (k0 + 2 * k1) &&& ((1 : Int32) <<< (nI 1 &&& 31)) = 0 ↔ k1 = 0) := by decide
theorem nar1 : vp_nar .boolean 1 = 1 := rfl
theorem keep_0 {M : Mm} (hI : Inv M) : StepI kX6_keep kX7_keep [.int (nI 0)] M := by
  have hw : 0 ≤ nI 0 ∧ nI 0 ≤ 1 := by decide
  have hz : (nI 0 = 0) = True := eq_true (by decide)
  unfold StepI
  simp only [eX6_keep_0, eX6_keep_1, eX6_keep_2, eX6_keep_3, eX6_keep_6, eX6_keep_9, eX6_keep_11, eX6_keep_12, eX6_keep_13, eX6_keep_14, eX6_keep_17, eX6_keep_18, eX6_keep_21, eX6_keep_24, eX6_keep_25, eX6_keep_26, eX6_keep_29, eX6_keep_30, eX6_keep_31, eX6_keep_32, eX6_keep_33, eX6_keep_36, eX6_keep_37, eX6_keep_in, eX6_imageAt_0, eX6_imageAt_1, eX6_imageAt_4, eX6_imageAt_5, eX6_imageAt_8, eX6_imageAt_11, eX6_imageAt_12, eX6_imageAt_15, eX6_imageAt_in, q_within, hw, hz, ob16, Option.toList_some, Option.toList_none, List.cons_append, List.nil_append, b2_0, Classical.not_not, false_implies, true_implies, implies_true, true_and, and_true, not_true_eq_false, not_false_eq_true]
  refine c_copy_16_1 (fun M1 hc => ?_)
  simp only [eX6_keep_0, eX6_keep_1, eX6_keep_2, eX6_keep_3, eX6_keep_6, eX6_keep_9, eX6_keep_11, eX6_keep_12, eX6_keep_13, eX6_keep_14, eX6_keep_17, eX6_keep_18, eX6_keep_21, eX6_keep_24, eX6_keep_25, eX6_keep_26, eX6_keep_29, eX6_keep_30, eX6_keep_31, eX6_keep_32, eX6_keep_33, eX6_keep_36, eX6_keep_37, eX6_keep_in, eX7_keep_0, eX7_keep_1, eX7_keep_2, eX7_keep_3, eX7_keep_6, eX7_keep_9, eX7_keep_11, eX7_keep_12, eX7_keep_13, eX7_keep_16, eX7_keep_17, eX7_keep_18, eX7_keep_19, eX7_keep_20, eX7_keep_22, eX7_keep_25, eX7_keep_28, eX7_keep_29, eX7_keep_32, eX7_keep_35, eX7_keep_36, eX7_keep_37, eX7_keep_38, eX7_keep_39, eX7_keep_40, eX7_keep_43, eX7_keep_44, eX7_keep_45, eX7_keep_46, eX7_keep_49, eX7_keep_52, eX7_keep_53, eX7_keep_in, q_in, hw, nI_clamp (show 0 < 2 ^ 31 by decide), vpn (show 0 < 2 by decide) (by decide : 2 < 2147483648), nar1, Option.toList_some, Option.toList_none, List.cons_append, List.nil_append, b2_0, Classical.not_not, false_implies, true_implies, implies_true, true_and, and_true, not_true_eq_false, not_false_eq_true]
  refine ⟨⟨_, rfl⟩, ?_⟩
  obtain ⟨⟨hR, gE⟩, k0, k1, h0, h1, e0, e1, e2, i0, i1⟩ := hI
  have c0 := hc.1 0 (by omega)
  have c52 := hc.1 52 (by omega)
  have c55 := hc.1 55 (by omega)
  have c56 := hc.1 56 (by omega)
  generalize hMa : setI (setI M1 0 5 _) 55 0 1 = Ma
  have a52 : Ma.1 52 = M.1 52 := by rw [← hMa, setI_ne (by decide), setI_ne (by decide), c52]
  have a56 : Ma.1 56 = M.1 56 := by rw [← hMa, setI_ne (by decide), setI_ne (by decide), c56]
  have alow : ∀ q, 1 ≤ q → q ≤ 50 → ¬ (16 ≤ q ∧ q ≤ 30) → Ma.1 q = M.1 q := fun q z1 z2 z3 => by rw [← hMa, setI_ne (by omega), setI_ne (by omega), hc.1 q (by omega)]
  have aim : ∀ q, 16 ≤ q → q ≤ 30 → Ma.1 q = M1.1 q := fun q z1 z2 => by rw [← hMa, setI_ne (by omega), setI_ne (by omega)]
  have hs : setA Ma 56 (blk (Ma.1 56) (Ma.1 52) 0 0) = Ma := by rw [blk_0, setA_self]
  have lp := l_keep (Q := fun x2 M2 => x2 = some (.int 1) ∧ (∃ a : Int32, some (Value.int 1) = some (.int a)) ∧ Inv M2) (M := Ma) (j := 0) (by decide) ⟨rfl, ⟨1, rfl⟩, ?_⟩ 316 0 (by omega)
  · rw [hs] at lp
    exact lp
  have f52 : (setA Ma 56 (blk (Ma.1 56) (Ma.1 52) 0 316)).1 52 = M.1 52 := by rw [setA_ne (by decide), a52]
  have f56 : (setA Ma 56 (blk (Ma.1 56) (Ma.1 52) 0 316)).1 56 = blk (M.1 56) (M.1 52) 0 316 := by rw [setA_at, a52, a56]
  have fq : ∀ q, q ≠ 56 → (setA Ma 56 (blk (Ma.1 56) (Ma.1 52) 0 316)).1 q = Ma.1 q := fun q z => setA_ne z
  have n0 : Ma.1 0 5 = nI (1 + 2 * k1) := by
    rw [← hMa, setI_ne (by decide), setI_at, upd_at, c0, e0]
    exact (kept_or k0 h0 k1 h1).1
  have n55 : Ma.1 55 0 = nI 1 ∧ Ma.1 55 1 = M.1 55 1 := by
    rw [← hMa, setI_at, upd_at, upd_ne (by decide), setI_ne (by decide), c55]
    exact ⟨rfl, rfl⟩
  refine ⟨⟨by rw [f52]; exact hR.congr (fun a z1 z2 => by rw [fq a (by omega)]; exact alow a z1 (by omega) (by omega)), by rw [f52]; exact gE⟩, 1, k1, by omega, h1, by rw [fq 0 (by decide)]; exact n0, by rw [fq 55 (by decide)]; exact n55.1, by rw [fq 55 (by decide)]; exact n55.2.trans e2, fun z => ?_, fun z => ?_⟩
  · rw [f56]
    have ex : ∀ k, k < 316 → blk (M.1 56) (M.1 52) 0 316 k = M.1 52 k := fun k hk => by
      simp only [blk]
      rw [if_pos (by omega)]
      exact congrArg (M.1 52) (by omega)
    exact ⟨(((hR.cp gE hc).congr (fun a z1 z2 => by rw [fq a (by omega)]; exact aim a z1 z2)).ext gE ex), gE.ext ex⟩
  · rw [f56]
    have ex : ∀ k, k < 316 → (fun k => blk (M.1 56) (M.1 52) 0 316 (316 + k)) k = (fun k => M.1 56 (316 + k)) k := fun k hk => by
      simp only [blk]
      rw [if_neg (by omega)]
    exact ⟨(((i1 z).1.congr (fun a z1 z2 => by rw [fq a (by omega)]; exact alow a (by omega) (by omega) (by omega))).ext (i1 z).2 ex), (i1 z).2.ext ex⟩
theorem goBack_0 {M : Mm} (hI : Inv M) : StepI kX6_goBack kX7_goBack [.int (nI 0)] M := by
  have hw : 0 ≤ nI 0 ∧ nI 0 ≤ 1 := by decide
  have hz : (nI 0 = 0) = True := eq_true (by decide)
  obtain ⟨⟨hR, gE⟩, k0, k1, h0, h1, e0, e1, e2, i0, i1⟩ := id hI
  have ka := (kept_and k0 h0 k1 h1).1
  have e55 : M.1 55 0 = nI k0 := e1
  unfold StepI
  by_cases hk : k0 = 0
  · have e5 : (nI k0 = 0) = True := eq_true (by rw [hk]; rfl)
    simp only [eX6_goBack_0, eX6_goBack_1, eX6_goBack_2, eX6_goBack_3, eX6_goBack_6, eX6_goBack_9, eX6_goBack_11, eX6_goBack_12, eX6_goBack_13, eX6_goBack_16, eX6_goBack_17, eX6_goBack_18, eX6_goBack_19, eX6_goBack_20, eX6_goBack_23, eX6_goBack_25, eX6_goBack_26, eX6_goBack_27, eX6_goBack_30, eX6_goBack_31, eX6_goBack_32, eX6_goBack_35, eX6_goBack_38, eX6_goBack_39, eX6_goBack_in, eX7_goBack_0, eX7_goBack_1, eX7_goBack_2, eX7_goBack_3, eX7_goBack_6, eX7_goBack_9, eX7_goBack_11, eX7_goBack_12, eX7_goBack_13, eX7_goBack_16, eX7_goBack_17, eX7_goBack_18, eX7_goBack_21, eX7_goBack_23, eX7_goBack_24, eX7_goBack_25, eX7_goBack_27, eX7_goBack_30, eX7_goBack_33, eX7_goBack_34, eX7_goBack_37, eX7_goBack_38, eX7_goBack_39, eX7_goBack_42, eX7_goBack_45, eX7_goBack_46, eX7_goBack_47, eX7_goBack_48, eX7_goBack_49, eX7_goBack_50, eX7_goBack_51, eX7_goBack_54, eX7_goBack_57, eX7_goBack_58, eX7_goBack_in, q_within, q_in, hw, e0, ka.mpr hk, nI_clamp (show 0 < 2 ^ 31 by decide), vpn (show 0 < 2 by decide) (by decide : 2 < 2147483648), e55, e5, Option.toList_some, Option.toList_none, List.cons_append, List.nil_append, b2_0, Classical.not_not, false_implies, true_implies, implies_true, true_and, and_true, not_true_eq_false, not_false_eq_true]
    exact ⟨⟨_, rfl⟩, ⟨_, rfl⟩, hI⟩
  · have hk1 : k0 = 1 := by omega
    have e5 : (nI k0 = 0) = False := eq_false (by rw [hk1]; decide)
    have kan : ¬ (nI (k0 + 2 * k1) &&& ((1 : Int32) <<< (nI 0 &&& 31)) = 0) := fun z => hk (ka.mp z)
    simp only [eX6_goBack_0, eX6_goBack_1, eX6_goBack_2, eX6_goBack_3, eX6_goBack_6, eX6_goBack_9, eX6_goBack_11, eX6_goBack_12, eX6_goBack_13, eX6_goBack_16, eX6_goBack_17, eX6_goBack_18, eX6_goBack_19, eX6_goBack_20, eX6_goBack_23, eX6_goBack_25, eX6_goBack_26, eX6_goBack_27, eX6_goBack_30, eX6_goBack_31, eX6_goBack_32, eX6_goBack_35, eX6_goBack_38, eX6_goBack_39, eX6_goBack_in, eX6_imageAt_0, eX6_imageAt_1, eX6_imageAt_4, eX6_imageAt_5, eX6_imageAt_8, eX6_imageAt_11, eX6_imageAt_12, eX6_imageAt_15, eX6_imageAt_in, q_within, hw, hz, e0, kan, ob16, ob1, Option.toList_some, Option.toList_none, List.cons_append, List.nil_append, b2_0, Classical.not_not, false_implies, true_implies, implies_true, true_and, and_true, not_true_eq_false, not_false_eq_true]
    refine c_copy_1_16 (fun M1 hc => ?_)
    have c55 := hc.1 55 (by omega)
    have c56 := hc.1 56 (by omega)
    simp only [eX6_goBack_0, eX6_goBack_1, eX6_goBack_2, eX6_goBack_3, eX6_goBack_6, eX6_goBack_9, eX6_goBack_11, eX6_goBack_12, eX6_goBack_13, eX6_goBack_16, eX6_goBack_17, eX6_goBack_18, eX6_goBack_19, eX6_goBack_20, eX6_goBack_23, eX6_goBack_25, eX6_goBack_26, eX6_goBack_27, eX6_goBack_30, eX6_goBack_31, eX6_goBack_32, eX6_goBack_35, eX6_goBack_38, eX6_goBack_39, eX6_goBack_in, eX7_goBack_0, eX7_goBack_1, eX7_goBack_2, eX7_goBack_3, eX7_goBack_6, eX7_goBack_9, eX7_goBack_11, eX7_goBack_12, eX7_goBack_13, eX7_goBack_16, eX7_goBack_17, eX7_goBack_18, eX7_goBack_21, eX7_goBack_23, eX7_goBack_24, eX7_goBack_25, eX7_goBack_27, eX7_goBack_30, eX7_goBack_33, eX7_goBack_34, eX7_goBack_37, eX7_goBack_38, eX7_goBack_39, eX7_goBack_42, eX7_goBack_45, eX7_goBack_46, eX7_goBack_47, eX7_goBack_48, eX7_goBack_49, eX7_goBack_50, eX7_goBack_51, eX7_goBack_54, eX7_goBack_57, eX7_goBack_58, eX7_goBack_in, q_in, hw, nI_clamp (show 0 < 2 ^ 31 by decide), vpn (show 0 < 2 by decide) (by decide : 2 < 2147483648), c55, e55, e5, Option.toList_some, Option.toList_none, List.cons_append, List.nil_append, b2_0, Classical.not_not, false_implies, true_implies, implies_true, true_and, and_true, not_true_eq_false, not_false_eq_true]
    refine ⟨⟨_, rfl⟩, ?_⟩
    obtain ⟨ri, gi⟩ := i0 hk1
    have hs : setA M1 52 (blk (M1.1 52) (fun k => M1.1 56 (316 * 0 + k)) 0 0) = M1 := by rw [blk_0, setA_self]
    have lp := l_goBack (Q := fun x2 M2 => x2 = some (.int 1) ∧ (∃ a : Int32, some (Value.int 1) = some (.int a)) ∧ Inv M2) (M := M1) (j := 0) (by decide) ⟨rfl, ⟨1, rfl⟩, ?_⟩ 316 0 (by omega)
    · rw [hs] at lp
      exact lp
    have fq : ∀ q, q ≠ 52 → (setA M1 52 (blk (M1.1 52) (fun k => M1.1 56 (316 * 0 + k)) 0 316)).1 q = M1.1 q := fun q z => setA_ne z
    have ex : ∀ k, k < 316 → (setA M1 52 (blk (M1.1 52) (fun k => M1.1 56 (316 * 0 + k)) 0 316)).1 52 k = M.1 56 k := fun k hk => by
      rw [setA_at, c56]
      simp only [blk]
      rw [if_pos (by omega)]
      exact congrArg (M.1 56) (by omega)
    generalize setA M1 52 (blk (M1.1 52) (fun k => M1.1 56 (316 * 0 + k)) 0 316) = Mf at fq ex ⊢
    refine ⟨⟨(((ri.cp gi hc).congr (fun a z1 z2 => fq a (by omega))).ext gi ex), gi.ext ex⟩, k0, k1, h0, h1, by rw [fq 0 (by decide), hc.1 0 (by omega)]; exact e0, by rw [fq 55 (by decide), c55]; exact e1, by rw [fq 55 (by decide), c55]; exact e2, fun z => ?_, fun z => ?_⟩
    · rw [fq 56 (by decide), c56]
      exact ⟨(i0 z).1.congr (fun a z1 z2 => by rw [fq a (by omega), hc.1 a (by omega)]), (i0 z).2⟩
    · rw [fq 56 (by decide), c56]
      exact ⟨(i1 z).1.congr (fun a z1 z2 => by rw [fq a (by omega), hc.1 a (by omega)]), (i1 z).2⟩
theorem keep_1 {M : Mm} (hI : Inv M) : StepI kX6_keep kX7_keep [.int (nI 1)] M := by
  have hw : 0 ≤ nI 1 ∧ nI 1 ≤ 1 := by decide
  have hz : (nI 1 = 0) = False := eq_false (by decide)
  unfold StepI
  simp only [eX6_keep_0, eX6_keep_1, eX6_keep_2, eX6_keep_3, eX6_keep_6, eX6_keep_9, eX6_keep_11, eX6_keep_12, eX6_keep_13, eX6_keep_14, eX6_keep_17, eX6_keep_18, eX6_keep_21, eX6_keep_24, eX6_keep_25, eX6_keep_26, eX6_keep_29, eX6_keep_30, eX6_keep_31, eX6_keep_32, eX6_keep_33, eX6_keep_36, eX6_keep_37, eX6_keep_in, eX6_imageAt_0, eX6_imageAt_1, eX6_imageAt_4, eX6_imageAt_5, eX6_imageAt_8, eX6_imageAt_11, eX6_imageAt_12, eX6_imageAt_15, eX6_imageAt_in, q_within, hw, hz, ob31, Option.toList_some, Option.toList_none, List.cons_append, List.nil_append, b2_0, Classical.not_not, false_implies, true_implies, implies_true, true_and, and_true, not_true_eq_false, not_false_eq_true]
  refine c_copy_31_1 (fun M1 hc => ?_)
  simp only [eX6_keep_0, eX6_keep_1, eX6_keep_2, eX6_keep_3, eX6_keep_6, eX6_keep_9, eX6_keep_11, eX6_keep_12, eX6_keep_13, eX6_keep_14, eX6_keep_17, eX6_keep_18, eX6_keep_21, eX6_keep_24, eX6_keep_25, eX6_keep_26, eX6_keep_29, eX6_keep_30, eX6_keep_31, eX6_keep_32, eX6_keep_33, eX6_keep_36, eX6_keep_37, eX6_keep_in, eX7_keep_0, eX7_keep_1, eX7_keep_2, eX7_keep_3, eX7_keep_6, eX7_keep_9, eX7_keep_11, eX7_keep_12, eX7_keep_13, eX7_keep_16, eX7_keep_17, eX7_keep_18, eX7_keep_19, eX7_keep_20, eX7_keep_22, eX7_keep_25, eX7_keep_28, eX7_keep_29, eX7_keep_32, eX7_keep_35, eX7_keep_36, eX7_keep_37, eX7_keep_38, eX7_keep_39, eX7_keep_40, eX7_keep_43, eX7_keep_44, eX7_keep_45, eX7_keep_46, eX7_keep_49, eX7_keep_52, eX7_keep_53, eX7_keep_in, q_in, hw, nI_clamp (show 1 < 2 ^ 31 by decide), vpn (show 1 < 2 by decide) (by decide : 2 < 2147483648), nar1, Option.toList_some, Option.toList_none, List.cons_append, List.nil_append, b2_0, Classical.not_not, false_implies, true_implies, implies_true, true_and, and_true, not_true_eq_false, not_false_eq_true]
  refine ⟨⟨_, rfl⟩, ?_⟩
  obtain ⟨⟨hR, gE⟩, k0, k1, h0, h1, e0, e1, e2, i0, i1⟩ := hI
  have c0 := hc.1 0 (by omega)
  have c52 := hc.1 52 (by omega)
  have c55 := hc.1 55 (by omega)
  have c56 := hc.1 56 (by omega)
  generalize hMa : setI (setI M1 0 5 _) 55 1 1 = Ma
  have a52 : Ma.1 52 = M.1 52 := by rw [← hMa, setI_ne (by decide), setI_ne (by decide), c52]
  have a56 : Ma.1 56 = M.1 56 := by rw [← hMa, setI_ne (by decide), setI_ne (by decide), c56]
  have alow : ∀ q, 1 ≤ q → q ≤ 50 → ¬ (31 ≤ q ∧ q ≤ 45) → Ma.1 q = M.1 q := fun q z1 z2 z3 => by rw [← hMa, setI_ne (by omega), setI_ne (by omega), hc.1 q (by omega)]
  have aim : ∀ q, 31 ≤ q → q ≤ 45 → Ma.1 q = M1.1 q := fun q z1 z2 => by rw [← hMa, setI_ne (by omega), setI_ne (by omega)]
  have hs : setA Ma 56 (blk (Ma.1 56) (Ma.1 52) 1 0) = Ma := by rw [blk_0, setA_self]
  have lp := l_keep (Q := fun x2 M2 => x2 = some (.int 1) ∧ (∃ a : Int32, some (Value.int 1) = some (.int a)) ∧ Inv M2) (M := Ma) (j := 1) (by decide) ⟨rfl, ⟨1, rfl⟩, ?_⟩ 316 0 (by omega)
  · rw [hs] at lp
    exact lp
  have f52 : (setA Ma 56 (blk (Ma.1 56) (Ma.1 52) 1 316)).1 52 = M.1 52 := by rw [setA_ne (by decide), a52]
  have f56 : (setA Ma 56 (blk (Ma.1 56) (Ma.1 52) 1 316)).1 56 = blk (M.1 56) (M.1 52) 1 316 := by rw [setA_at, a52, a56]
  have fq : ∀ q, q ≠ 56 → (setA Ma 56 (blk (Ma.1 56) (Ma.1 52) 1 316)).1 q = Ma.1 q := fun q z => setA_ne z
  have n0 : Ma.1 0 5 = nI (k0 + 2 * 1) := by
    rw [← hMa, setI_ne (by decide), setI_at, upd_at, c0, e0]
    exact (kept_or k0 h0 k1 h1).2
  have n55 : Ma.1 55 1 = nI 1 ∧ Ma.1 55 0 = M.1 55 0 := by
    rw [← hMa, setI_at, upd_at, upd_ne (by decide), setI_ne (by decide), c55]
    exact ⟨rfl, rfl⟩
  refine ⟨⟨by rw [f52]; exact hR.congr (fun a z1 z2 => by rw [fq a (by omega)]; exact alow a z1 (by omega) (by omega)), by rw [f52]; exact gE⟩, k0, 1, h0, by omega, by rw [fq 0 (by decide)]; exact n0, by rw [fq 55 (by decide)]; exact n55.2.trans e1, by rw [fq 55 (by decide)]; exact n55.1, fun z => ?_, fun z => ?_⟩
  · rw [f56]
    have ex : ∀ k, k < 316 → blk (M.1 56) (M.1 52) 1 316 k = M.1 56 k := fun k hk => by
      simp only [blk]
      rw [if_neg (by omega)]
    exact ⟨(((i0 z).1.congr (fun a z1 z2 => by rw [fq a (by omega)]; exact alow a (by omega) (by omega) (by omega))).ext (i0 z).2 ex), (i0 z).2.ext ex⟩
  · rw [f56]
    have ex : ∀ k, k < 316 → (fun k => blk (M.1 56) (M.1 52) 1 316 (316 + k)) k = M.1 52 k := fun k hk => by
      simp only [blk]
      rw [if_pos (by omega)]
      exact congrArg (M.1 52) (by omega)
    exact ⟨(((hR.cp gE hc).congr (fun a z1 z2 => by rw [fq a (by omega)]; exact aim a z1 z2)).ext gE ex), gE.ext ex⟩
theorem goBack_1 {M : Mm} (hI : Inv M) : StepI kX6_goBack kX7_goBack [.int (nI 1)] M := by
  have hw : 0 ≤ nI 1 ∧ nI 1 ≤ 1 := by decide
  have hz : (nI 1 = 0) = False := eq_false (by decide)
  obtain ⟨⟨hR, gE⟩, k0, k1, h0, h1, e0, e1, e2, i0, i1⟩ := id hI
  have ka := (kept_and k0 h0 k1 h1).2
  have e55 : M.1 55 1 = nI k1 := e2
  unfold StepI
  by_cases hk : k1 = 0
  · have e5 : (nI k1 = 0) = True := eq_true (by rw [hk]; rfl)
    simp only [eX6_goBack_0, eX6_goBack_1, eX6_goBack_2, eX6_goBack_3, eX6_goBack_6, eX6_goBack_9, eX6_goBack_11, eX6_goBack_12, eX6_goBack_13, eX6_goBack_16, eX6_goBack_17, eX6_goBack_18, eX6_goBack_19, eX6_goBack_20, eX6_goBack_23, eX6_goBack_25, eX6_goBack_26, eX6_goBack_27, eX6_goBack_30, eX6_goBack_31, eX6_goBack_32, eX6_goBack_35, eX6_goBack_38, eX6_goBack_39, eX6_goBack_in, eX7_goBack_0, eX7_goBack_1, eX7_goBack_2, eX7_goBack_3, eX7_goBack_6, eX7_goBack_9, eX7_goBack_11, eX7_goBack_12, eX7_goBack_13, eX7_goBack_16, eX7_goBack_17, eX7_goBack_18, eX7_goBack_21, eX7_goBack_23, eX7_goBack_24, eX7_goBack_25, eX7_goBack_27, eX7_goBack_30, eX7_goBack_33, eX7_goBack_34, eX7_goBack_37, eX7_goBack_38, eX7_goBack_39, eX7_goBack_42, eX7_goBack_45, eX7_goBack_46, eX7_goBack_47, eX7_goBack_48, eX7_goBack_49, eX7_goBack_50, eX7_goBack_51, eX7_goBack_54, eX7_goBack_57, eX7_goBack_58, eX7_goBack_in, q_within, q_in, hw, e0, ka.mpr hk, nI_clamp (show 1 < 2 ^ 31 by decide), vpn (show 1 < 2 by decide) (by decide : 2 < 2147483648), e55, e5, Option.toList_some, Option.toList_none, List.cons_append, List.nil_append, b2_0, Classical.not_not, false_implies, true_implies, implies_true, true_and, and_true, not_true_eq_false, not_false_eq_true]
    exact ⟨⟨_, rfl⟩, ⟨_, rfl⟩, hI⟩
  · have hk1 : k1 = 1 := by omega
    have e5 : (nI k1 = 0) = False := eq_false (by rw [hk1]; decide)
    have kan : ¬ (nI (k0 + 2 * k1) &&& ((1 : Int32) <<< (nI 1 &&& 31)) = 0) := fun z => hk (ka.mp z)
    simp only [eX6_goBack_0, eX6_goBack_1, eX6_goBack_2, eX6_goBack_3, eX6_goBack_6, eX6_goBack_9, eX6_goBack_11, eX6_goBack_12, eX6_goBack_13, eX6_goBack_16, eX6_goBack_17, eX6_goBack_18, eX6_goBack_19, eX6_goBack_20, eX6_goBack_23, eX6_goBack_25, eX6_goBack_26, eX6_goBack_27, eX6_goBack_30, eX6_goBack_31, eX6_goBack_32, eX6_goBack_35, eX6_goBack_38, eX6_goBack_39, eX6_goBack_in, eX6_imageAt_0, eX6_imageAt_1, eX6_imageAt_4, eX6_imageAt_5, eX6_imageAt_8, eX6_imageAt_11, eX6_imageAt_12, eX6_imageAt_15, eX6_imageAt_in, q_within, hw, hz, e0, kan, ob31, ob1, Option.toList_some, Option.toList_none, List.cons_append, List.nil_append, b2_0, Classical.not_not, false_implies, true_implies, implies_true, true_and, and_true, not_true_eq_false, not_false_eq_true]
    refine c_copy_1_31 (fun M1 hc => ?_)
    have c55 := hc.1 55 (by omega)
    have c56 := hc.1 56 (by omega)
    simp only [eX6_goBack_0, eX6_goBack_1, eX6_goBack_2, eX6_goBack_3, eX6_goBack_6, eX6_goBack_9, eX6_goBack_11, eX6_goBack_12, eX6_goBack_13, eX6_goBack_16, eX6_goBack_17, eX6_goBack_18, eX6_goBack_19, eX6_goBack_20, eX6_goBack_23, eX6_goBack_25, eX6_goBack_26, eX6_goBack_27, eX6_goBack_30, eX6_goBack_31, eX6_goBack_32, eX6_goBack_35, eX6_goBack_38, eX6_goBack_39, eX6_goBack_in, eX7_goBack_0, eX7_goBack_1, eX7_goBack_2, eX7_goBack_3, eX7_goBack_6, eX7_goBack_9, eX7_goBack_11, eX7_goBack_12, eX7_goBack_13, eX7_goBack_16, eX7_goBack_17, eX7_goBack_18, eX7_goBack_21, eX7_goBack_23, eX7_goBack_24, eX7_goBack_25, eX7_goBack_27, eX7_goBack_30, eX7_goBack_33, eX7_goBack_34, eX7_goBack_37, eX7_goBack_38, eX7_goBack_39, eX7_goBack_42, eX7_goBack_45, eX7_goBack_46, eX7_goBack_47, eX7_goBack_48, eX7_goBack_49, eX7_goBack_50, eX7_goBack_51, eX7_goBack_54, eX7_goBack_57, eX7_goBack_58, eX7_goBack_in, q_in, hw, nI_clamp (show 1 < 2 ^ 31 by decide), vpn (show 1 < 2 by decide) (by decide : 2 < 2147483648), c55, e55, e5, Option.toList_some, Option.toList_none, List.cons_append, List.nil_append, b2_0, Classical.not_not, false_implies, true_implies, implies_true, true_and, and_true, not_true_eq_false, not_false_eq_true]
    refine ⟨⟨_, rfl⟩, ?_⟩
    obtain ⟨ri, gi⟩ := i1 hk1
    have hs : setA M1 52 (blk (M1.1 52) (fun k => M1.1 56 (316 * 1 + k)) 0 0) = M1 := by rw [blk_0, setA_self]
    have lp := l_goBack (Q := fun x2 M2 => x2 = some (.int 1) ∧ (∃ a : Int32, some (Value.int 1) = some (.int a)) ∧ Inv M2) (M := M1) (j := 1) (by decide) ⟨rfl, ⟨1, rfl⟩, ?_⟩ 316 0 (by omega)
    · rw [hs] at lp
      exact lp
    have fq : ∀ q, q ≠ 52 → (setA M1 52 (blk (M1.1 52) (fun k => M1.1 56 (316 * 1 + k)) 0 316)).1 q = M1.1 q := fun q z => setA_ne z
    have ex : ∀ k, k < 316 → (setA M1 52 (blk (M1.1 52) (fun k => M1.1 56 (316 * 1 + k)) 0 316)).1 52 k = (fun k => M.1 56 (316 + k)) k := fun k hk => by
      rw [setA_at, c56]
      simp only [blk]
      rw [if_pos (by omega)]
      exact congrArg (M.1 56) (by omega)
    generalize setA M1 52 (blk (M1.1 52) (fun k => M1.1 56 (316 * 1 + k)) 0 316) = Mf at fq ex ⊢
    refine ⟨⟨(((ri.cp gi hc).congr (fun a z1 z2 => fq a (by omega))).ext gi ex), gi.ext ex⟩, k0, k1, h0, h1, by rw [fq 0 (by decide), hc.1 0 (by omega)]; exact e0, by rw [fq 55 (by decide), c55]; exact e1, by rw [fq 55 (by decide), c55]; exact e2, fun z => ?_, fun z => ?_⟩
    · rw [fq 56 (by decide), c56]
      exact ⟨(i0 z).1.congr (fun a z1 z2 => by rw [fq a (by omega), hc.1 a (by omega)]), (i0 z).2⟩
    · rw [fq 56 (by decide), c56]
      exact ⟨(i1 z).1.congr (fun a z1 z2 => by rw [fq a (by omega), hc.1 a (by omega)]), (i1 z).2⟩
theorem step_keep {M : Mm} (hI : Inv M) (i : Int32) : StepI kX6_keep kX7_keep [.int i] M := by
  by_cases hw : 0 ≤ i ∧ i ≤ 1
  · obtain ⟨j, -, hj, rfl⟩ := in_nI (a := 0) (b := 1) (by omega) (by omega) hw.1 hw.2
    rcases (show j = 0 ∨ j = 1 by omega) with rfl | rfl
    · exact keep_0 hI
    · exact keep_1 hI
  · refine combN hI qX6_keep qX7_keep (-1000000001) (fun Q h => ?_) (fun M1 Q hM h => ?_)
    · simp only [eX6_keep_0, eX6_keep_1, eX6_keep_2, eX6_keep_3, eX6_keep_6, eX6_keep_9, eX6_keep_11, eX6_keep_12, eX6_keep_13, eX6_keep_14, eX6_keep_17, eX6_keep_18, eX6_keep_21, eX6_keep_24, eX6_keep_25, eX6_keep_26, eX6_keep_29, eX6_keep_30, eX6_keep_31, eX6_keep_32, eX6_keep_33, eX6_keep_36, eX6_keep_37, eX6_keep_in, q_within, hw, Option.toList_some, Option.toList_none, List.cons_append, List.nil_append, b2_0, Classical.not_not, false_implies, true_implies, implies_true, true_and, and_true, not_true_eq_false, not_false_eq_true]
      exact h
    · simp only [eX7_keep_0, eX7_keep_1, eX7_keep_2, eX7_keep_3, eX7_keep_6, eX7_keep_9, eX7_keep_11, eX7_keep_12, eX7_keep_13, eX7_keep_16, eX7_keep_17, eX7_keep_18, eX7_keep_19, eX7_keep_20, eX7_keep_22, eX7_keep_25, eX7_keep_28, eX7_keep_29, eX7_keep_32, eX7_keep_35, eX7_keep_36, eX7_keep_37, eX7_keep_38, eX7_keep_39, eX7_keep_40, eX7_keep_43, eX7_keep_44, eX7_keep_45, eX7_keep_46, eX7_keep_49, eX7_keep_52, eX7_keep_53, eX7_keep_in, q_in, hw, Option.toList_some, Option.toList_none, List.cons_append, List.nil_append, b2_0, Classical.not_not, false_implies, true_implies, implies_true, true_and, and_true, not_true_eq_false, not_false_eq_true]
      exact h
theorem step_goBack {M : Mm} (hI : Inv M) (i : Int32) : StepI kX6_goBack kX7_goBack [.int i] M := by
  by_cases hw : 0 ≤ i ∧ i ≤ 1
  · obtain ⟨j, -, hj, rfl⟩ := in_nI (a := 0) (b := 1) (by omega) (by omega) hw.1 hw.2
    rcases (show j = 0 ∨ j = 1 by omega) with rfl | rfl
    · exact goBack_0 hI
    · exact goBack_1 hI
  · refine combN hI qX6_goBack qX7_goBack (-1000000001) (fun Q h => ?_) (fun M1 Q hM h => ?_)
    · simp only [eX6_goBack_0, eX6_goBack_1, eX6_goBack_2, eX6_goBack_3, eX6_goBack_6, eX6_goBack_9, eX6_goBack_11, eX6_goBack_12, eX6_goBack_13, eX6_goBack_16, eX6_goBack_17, eX6_goBack_18, eX6_goBack_19, eX6_goBack_20, eX6_goBack_23, eX6_goBack_25, eX6_goBack_26, eX6_goBack_27, eX6_goBack_30, eX6_goBack_31, eX6_goBack_32, eX6_goBack_35, eX6_goBack_38, eX6_goBack_39, eX6_goBack_in, q_within, hw, Option.toList_some, Option.toList_none, List.cons_append, List.nil_append, b2_0, Classical.not_not, false_implies, true_implies, implies_true, true_and, and_true, not_true_eq_false, not_false_eq_true]
      exact h
    · simp only [eX7_goBack_0, eX7_goBack_1, eX7_goBack_2, eX7_goBack_3, eX7_goBack_6, eX7_goBack_9, eX7_goBack_11, eX7_goBack_12, eX7_goBack_13, eX7_goBack_16, eX7_goBack_17, eX7_goBack_18, eX7_goBack_21, eX7_goBack_23, eX7_goBack_24, eX7_goBack_25, eX7_goBack_27, eX7_goBack_30, eX7_goBack_33, eX7_goBack_34, eX7_goBack_37, eX7_goBack_38, eX7_goBack_39, eX7_goBack_42, eX7_goBack_45, eX7_goBack_46, eX7_goBack_47, eX7_goBack_48, eX7_goBack_49, eX7_goBack_50, eX7_goBack_51, eX7_goBack_54, eX7_goBack_57, eX7_goBack_58, eX7_goBack_in, q_in, hw, Option.toList_some, Option.toList_none, List.cons_append, List.nil_append, b2_0, Classical.not_not, false_implies, true_implies, implies_true, true_and, and_true, not_true_eq_false, not_false_eq_true]
      exact h
