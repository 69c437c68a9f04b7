/-! the class' reading -/
section RVS
variable {f : Nat → Nat → Int32} {b c t : Nat} {N : Nat → Int32}
theorem RV.lo (h : RV f b c t N) {k : Nat} (hk : k < 274) : f (b + ec k) (ep k) = N k := h k (Or.inl hk)
theorem RV.raw (h : RV f b c t N) {k : Nat} (hk : k < 64) : f (b + 3) k = N (18 + k) := by
  have := h.lo (k := 18 + k) (by omega)
  rwa [(ec_raw hk).1, (ec_raw hk).2] at this
theorem RV.ground (h : RV f b c t N) {k : Nat} (hk : k < 64) : f (b + 4) k = N (82 + k) := by
  have := h.lo (k := 82 + k) (by omega)
  rwa [(ec_ground hk).1, (ec_ground hk).2] at this
theorem RV.signal (h : RV f b c t N) {k : Nat} (hk : k < 64) : f (b + 5) k = N (146 + k) := by
  have := h.lo (k := 146 + k) (by omega)
  rwa [(ec_signal hk).1, (ec_signal hk).2] at this
theorem RV.peak (h : RV f b c t N) {k : Nat} (hk : k < 64) : f (b + 6) k = N (210 + k) := by
  have := h.lo (k := 210 + k) (by omega)
  rwa [(ec_peak hk).1, (ec_peak hk).2] at this
end RVS
theorem RV.ps {M : Mm} {N : Nat → Int32} {c t k : Nat} {v : Int32} (h : RV M.1 1 c t N) (hk : k < 64) : RV (setI M 6 k v).1 1 c t (upd N (146 + k) v) := h.put (by rw [(ec_signal hk).1]) (by rw [(ec_signal hk).2])
theorem RV.pp {M : Mm} {N : Nat → Int32} {c t k : Nat} {v : Int32} (h : RV M.1 1 c t N) (hk : k < 64) : RV (setI M 7 k v).1 1 c t (upd N (210 + k) v) := h.put (by rw [(ec_peak hk).1]) (by rw [(ec_peak hk).2])
theorem RV.pg {M : Mm} {N : Nat → Int32} {c t k : Nat} {v : Int32} (h : RV M.1 1 c t N) (hk : k < 64) : RV (setI M 5 k v).1 1 c t (upd N (82 + k) v) := h.put (by rw [(ec_ground hk).1]) (by rw [(ec_ground hk).2])
theorem up_n {A : Nat → Int32} {i : Nat} {s : Int32} : upd (upd A (146 + i) s) (210 + i) (-1) = Up5 A i s (-1) (A (82 + i)) (A 15) (A 16) := by
  rw [← up_1]
  funext j
  simp only [upd]
  by_cases h : j = 16
  · subst h
    rw [if_pos rfl, if_neg (by omega), if_neg (by omega)]
  · rw [if_neg h]
    by_cases h2 : j = 15
    · subst h2
      rw [if_pos rfl, if_neg (by omega), if_neg (by omega)]
    · rw [if_neg h2]
theorem up_t {A : Nat → Int32} {i : Nat} {s p tc : Int32} : upd (upd (upd (upd A (146 + i) s) (210 + i) (-1)) (210 + i) p) 15 tc = Up5 A i s p (A (82 + i)) tc (A 16) := by
  rw [← up_1]
  funext j
  simp only [upd]
  by_cases h : j = 16
  · subst h
    rw [if_pos rfl, if_neg (by omega), if_neg (by omega), if_neg (by omega), if_neg (by omega)]
  · rw [if_neg h]
    by_cases h2 : j = 15
    · rw [if_pos h2, if_pos h2]
    · rw [if_neg h2, if_neg h2]
      by_cases h3 : j = 210 + i
      · rw [if_pos h3, if_pos h3]
      · rw [if_neg h3, if_neg h3, if_neg h3]
theorem up_m {A : Nat → Int32} {i : Nat} {s ms : Int32} : upd (upd (upd A (146 + i) s) (210 + i) (-1)) 16 ms = Up5 A i s (-1) (A (82 + i)) (A 15) ms := by
  rw [← up_1]
  funext j
  simp only [upd]
  by_cases h : j = 16
  · rw [if_pos h, if_pos h]
  · rw [if_neg h, if_neg h]
    by_cases h2 : j = 15
    · subst h2
      rw [if_pos rfl, if_neg (by omega), if_neg (by omega)]
    · rw [if_neg h2]
theorem c_feel {Q : Qt} {M0 M : Mm} {A : Nat → Int32} {c t k : Nat} {x l : Int32} (hF : FrD M0 M) (hR : RV M.1 1 c t A) (hk : k < 64) (h1 : ¬ (x - A (82 + k) < l) → ∀ M', FrD M0 M' → RV M'.1 1 c t (Up5 A k (x - A (82 + k)) (nI k) (A (82 + k)) (A 15 + 1) (A 16)) → Q none M') (h2 : x - A (82 + k) < l → ∀ M', FrD M0 M' → RV M'.1 1 c t (Up5 A k (x - A (82 + k)) (-1) (A (82 + k)) (A 15) (A 16)) → Q none M') : kX1_feel [.ref 3, .int (nI k), .int x, .int l] M Q := by
  have e5 : M.1 5 k = A (82 + k) := hR.ground hk
  have e37 : M.1 3 7 = A 15 := hR.lo (k := 15) (by omega)
  have cl : (nI k).toNatClampNeg = k := nI_clamp (by omega)
  have vp : vp_in (nI k) 64 := vpn hk (by decide)
  have s1 := hR.ps (v := x - A (82 + k)) hk
  have s2 := s1.pp (v := -1) hk
  simp only [eX1_feel_0, eX1_feel_1, eX1_feel_4, eX1_feel_5, eX1_feel_6, eX1_feel_7, eX1_feel_10, eX1_feel_11, eX1_feel_12, eX1_feel_13, eX1_feel_14, eX1_feel_15, eX1_feel_18, eX1_feel_19, eX1_feel_20, eX1_feel_21, eX1_feel_22, eX1_feel_25, eX1_feel_26, eX1_feel_27, eX1_feel_28, eX1_feel_31, eX1_feel_32, eX1_feel_35, eX1_feel_36, eX1_feel_37, eX1_feel_38, eX1_feel_39, eX1_feel_40, eX1_feel_43, eX1_feel_44, eX1_feel_45, eX1_feel_48, eX1_feel_in, cl, vp, e5, setI_at, upd_at, setI_ne, ne_eq, Nat.reduceEqDiff, e37, Option.toList_some, Option.toList_none, List.cons_append, List.nil_append, b2_0, Classical.not_not, false_implies, true_implies, implies_true, true_and, and_true, not_true_eq_false, not_false_eq_true]
  refine ⟨fun z => h2 z _ ((hF.set (by omega)).set (by omega)) (by rw [← up_n]; exact s2), fun z => h1 z _ ((((hF.set (by omega)).set (by omega)).set (by omega)).set (by omega)) ?_⟩
  rw [← up_t]
  exact (s2.pp (v := nI k) hk).put (a := 3) (p := 7) (e := 15) rfl rfl
