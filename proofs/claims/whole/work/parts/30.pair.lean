/-! pairing: costs -/
def adf (a b : Nat) : Nat := if a ≤ b then b - a else a - b
def wy (C p q : Nat) : Nat := adf (p / C) (q / C) + adf (p % C) (q % C)
theorem ad_abs : ∀ a, a < 8 → ∀ b, b < 8 → (if (0 : Int32) ≤ nI a - nI b then nI a - nI b else 0 - (nI a - nI b)) = nI (adf a b) := by decide +kernel
theorem ad_neg : ∀ a, a < 8 → ∀ b, b < 8 → ¬ ((0 : Int32) ≤ nI a - nI b) → -(nI a - nI b) = nI (adf a b) := by decide +kernel
theorem ad_pos : ∀ a, a < 8 → ∀ b, b < 8 → ((0 : Int32) ≤ nI a - nI b) → nI a - nI b = nI (adf a b) := by decide +kernel
theorem adf_le {a b : Nat} (ha : a < 8) (hb : b < 8) : adf a b ≤ 7 := by
  unfold adf
  split <;> omega
theorem div8 {R C p : Nat} (hR : R ≤ 8) (hp : p < R * C) : p / C < 8 := by
  have : p / C < R := Nat.div_lt_of_lt_mul (by rw [Nat.mul_comm]; exact hp)
  omega
theorem mod8 {C p : Nat} (h1 : 1 ≤ C) (hC : C ≤ 8) : p % C < 8 := Nat.lt_of_lt_of_le (Nat.mod_lt _ (by omega)) hC
theorem wy_le {R C p q : Nat} (hR : R ≤ 8) (h1 : 1 ≤ C) (hC : C ≤ 8) (hp : p < R * C) (hq : q < R * C) : wy C p q ≤ 14 := by
  have a := adf_le (div8 hR hp) (div8 hR hq)
  have b := adf_le (mod8 (p := p) h1 hC) (mod8 (p := q) h1 hC)
  unfold wy
  omega
theorem c_way {Q : Qt} {M : Mm} {R C p q : Nat} (hR : R ≤ 8) (h1 : 1 ≤ C) (hC : C ≤ 8) (hp : p < R * C) (hq : q < R * C) (hQ : Q (some (.int (nI (wy C p q)))) M) : kX6_wayBetween [.int (nI p), .int (nI q), .int (nI C)] M Q := by
  have h64 := rc_le hR hC
  have z1 : ((1 : Int32) ≤ nI C) = True := eq_true (nI_le (a := 1) (by omega) (by omega))
  have z0 : (nI C = 0) = False := eq_false (fun e => by have := (nI_eq (b := 0) (by omega) (by omega)).mp e; omega)
  simp only [eX6_wayBetween_0, eX6_wayBetween_1, eX6_wayBetween_2, eX6_wayBetween_5, eX6_wayBetween_6, eX6_wayBetween_7, eX6_wayBetween_8, eX6_wayBetween_9, eX6_wayBetween_10, eX6_wayBetween_11, eX6_wayBetween_12, eX6_wayBetween_13, eX6_wayBetween_14, eX6_wayBetween_17, eX6_wayBetween_18, eX6_wayBetween_19, eX6_wayBetween_20, eX6_wayBetween_21, eX6_wayBetween_22, eX6_wayBetween_23, eX6_wayBetween_24, eX6_wayBetween_27, eX6_wayBetween_28, eX6_wayBetween_in, z1, z0, pk_div (show p < 2 ^ 31 by omega) h1 (show C < 2 ^ 31 by omega), pk_div (show q < 2 ^ 31 by omega) h1 (show C < 2 ^ 31 by omega), Option.toList_some, Option.toList_none, List.cons_append, List.nil_append, b2_0, Classical.not_not, false_implies, true_implies, implies_true, true_and, and_true, not_true_eq_false, not_false_eq_true]
  have e1 := pk_rem (d := C) (show p < 2 ^ 31 by omega) h1 (by omega)
  have e2 := pk_rem (d := C) (show q < 2 ^ 31 by omega) h1 (by omega)
  rw [pk_div (by omega) h1 (by omega)] at e1 e2
  rw [e1, e2, ad_abs _ (div8 hR hp) _ (div8 hR hq), ad_abs _ (mod8 h1 hC) _ (mod8 h1 hC), nI_add]
  exact hQ
theorem m_way {Q : Qt} {M : Mm} {R C p q : Nat} (hR : R ≤ 8) (h1 : 1 ≤ C) (hC : C ≤ 8) (hp : p < R * C) (hq : q < R * C) (n1 : M.1 52 1 = nI C) (hQ : Q (some (.int (nI (wy C p q)))) M) : kX7_wayOf [.ref 51, .int (nI p), .int (nI q)] M Q := by
  have h64 := rc_le hR hC
  have z0 : (nI C = 0) = False := eq_false (fun e => by have := (nI_eq (b := 0) (by omega) (by omega)).mp e; omega)
  have e1 := pk_rem (d := C) (show p < 2 ^ 31 by omega) h1 (by omega)
  have e2 := pk_rem (d := C) (show q < 2 ^ 31 by omega) h1 (by omega)
  rw [pk_div (by omega) h1 (by omega)] at e1 e2
  have r1 := ad_pos _ (div8 hR hp) _ (div8 hR hq)
  have r2 := ad_neg _ (div8 hR hp) _ (div8 hR hq)
  have r3 := ad_pos _ (mod8 (p := p) h1 hC) _ (mod8 (p := q) h1 hC)
  have r4 := ad_neg _ (mod8 (p := p) h1 hC) _ (mod8 (p := q) h1 hC)
  simp only [eX7_wayOf_0, eX7_wayOf_1, eX7_wayOf_2, eX7_wayOf_5, eX7_wayOf_6, eX7_wayOf_7, eX7_wayOf_8, eX7_wayOf_9, eX7_wayOf_10, eX7_wayOf_13, eX7_wayOf_14, eX7_wayOf_15, eX7_wayOf_16, eX7_wayOf_17, eX7_wayOf_18, eX7_wayOf_19, eX7_wayOf_20, eX7_wayOf_23, eX7_wayOf_24, eX7_wayOf_25, eX7_wayOf_26, eX7_wayOf_27, eX7_wayOf_28, eX7_wayOf_31, eX7_wayOf_32, eX7_wayOf_33, eX7_wayOf_34, eX7_wayOf_35, eX7_wayOf_37, eX7_wayOf_38, eX7_wayOf_41, eX7_wayOf_42, eX7_wayOf_43, eX7_wayOf_46, eX7_wayOf_49, eX7_wayOf_52, eX7_wayOf_54, eX7_wayOf_55, eX7_wayOf_58, eX7_wayOf_60, eX7_wayOf_61, eX7_wayOf_in, v1, tn_1, n1, z0, pk_div (show p < 2 ^ 31 by omega) h1 (show C < 2 ^ 31 by omega), pk_div (show q < 2 ^ 31 by omega) h1 (show C < 2 ^ 31 by omega), e1, e2, Option.toList_some, Option.toList_none, List.cons_append, List.nil_append, b2_0, Classical.not_not, false_implies, true_implies, implies_true, true_and, and_true, not_true_eq_false, not_false_eq_true]
  have fin : V pgX7_wayOf Q 47 [.ref 51, .int (nI p), .int (nI q), .int (nI (p / C) - nI (q / C)), .int (nI (p % C) - nI (q % C))] [.int (nI (adf (p / C) (q / C)))] M := by
    simp only [eX7_wayOf_0, eX7_wayOf_1, eX7_wayOf_2, eX7_wayOf_5, eX7_wayOf_6, eX7_wayOf_7, eX7_wayOf_8, eX7_wayOf_9, eX7_wayOf_10, eX7_wayOf_13, eX7_wayOf_14, eX7_wayOf_15, eX7_wayOf_16, eX7_wayOf_17, eX7_wayOf_18, eX7_wayOf_19, eX7_wayOf_20, eX7_wayOf_23, eX7_wayOf_24, eX7_wayOf_25, eX7_wayOf_26, eX7_wayOf_27, eX7_wayOf_28, eX7_wayOf_31, eX7_wayOf_32, eX7_wayOf_33, eX7_wayOf_34, eX7_wayOf_35, eX7_wayOf_37, eX7_wayOf_38, eX7_wayOf_41, eX7_wayOf_42, eX7_wayOf_43, eX7_wayOf_46, eX7_wayOf_47, eX7_wayOf_49, eX7_wayOf_52, eX7_wayOf_54, eX7_wayOf_55, eX7_wayOf_58, eX7_wayOf_60, eX7_wayOf_61, eX7_wayOf_in, Option.toList_some, Option.toList_none, List.cons_append, List.nil_append, b2_0, Classical.not_not, false_implies, true_implies, implies_true, true_and, and_true, not_true_eq_false, not_false_eq_true]
    refine ⟨fun z => ?_, fun z => ?_⟩
    · rw [r3 z, nI_add]
      exact hQ
    · rw [r4 z, nI_add]
      exact hQ
  refine ⟨fun z => ?_, fun z => ?_⟩
  · rw [show (Value.int (nI (p / C) - nI (q / C)) :: ([] : List Value)) = [.int (nI (adf (p / C) (q / C)))] by rw [r1 z]]
    exact fin
  · rw [r2 z]
    exact fin
/-- bit k of a set -/
def bt (s k : Nat) : Bool := s / 2 ^ k % 2 == 1
theorem bt_c : ∀ s, s < 64 → ∀ k, k < 6 → ((nI s &&& ((1 : Int32) <<< (nI k &&& 31)) = 0) ↔ bt s k = false) := by decide +kernel
theorem bt_m : ∀ s, s < 64 → ∀ k, k < 6 → (((nI s >>> (nI k &&& 31)) &&& 1 = 1) ↔ bt s k = true) := by decide +kernel
theorem bt_or : ∀ s, s < 64 → ∀ k, k < 6 → nI s ||| ((1 : Int32) <<< (nI k &&& 31)) = nI (s ||| 2 ^ k) ∧ s ||| 2 ^ k < 64 := by decide +kernel
theorem bt_pc : ∀ s, s < 64 → ∀ k, k < 6 → bt s k = false → pcn 8 (s ||| 2 ^ k) = pcn 8 s + 1 := by decide +kernel
theorem or_lt : ∀ m, m < 7 → ∀ s, s < 2 ^ m → ∀ k, k < m → s ||| 2 ^ k < 2 ^ m := by decide +kernel
theorem sh_m : ∀ m, m < 7 → (1 : Int32) <<< (nI m &&& 31) = nI (2 ^ m) ∧ 2 ^ m ≤ 64 := by decide +kernel
theorem pc_m : ∀ m, m < 7 → ∀ s, s < 2 ^ m → pcn 8 s ≤ m := by decide +kernel
/-- the least of a and of the f k that may be, k < j -/
def lwst (v : Nat → Bool) (f : Nat → Nat) (a : Nat) : Nat → Nat
  | 0 => a
  | k + 1 => if v k = true ∧ f k < lwst v f a k then f k else lwst v f a k
theorem lwst_le (v : Nat → Bool) (f : Nat → Nat) (a : Nat) : ∀ j, lwst v f a j ≤ a
  | 0 => Nat.le_refl _
  | k + 1 => by
    have := lwst_le v f a k
    unfold lwst
    split <;> omega
/-- the cost of the last d of n TRACKS, with a set of CONTACTS taken -/
def cst (w : Nat → Nat → Nat) (n m D : Nat) : Nat → Nat → Nat
  | 0, s => (D + 1) * (m - pcn 8 s)
  | d + 1, s => lwst (fun k => !(bt s k) && decide (w (n - d - 1) k ≤ D)) (fun k => w (n - d - 1) k + cst w n m D d (s ||| 2 ^ k)) (D + 1 + cst w n m D d s) m
theorem cst_le (w : Nat → Nat → Nat) (n m D : Nat) (hm : m ≤ 6) (hD : D ≤ 14) : ∀ d s, cst w n m D d s ≤ 90 + 15 * d
  | 0, s => by
    have : (D + 1) * (m - pcn 8 s) ≤ 15 * 6 := Nat.mul_le_mul (by omega) (by omega)
    unfold cst
    omega
  | d + 1, s => by
    have a := cst_le w n m D hm hD d s
    have b := lwst_le (fun k => !(bt s k) && decide (w (n - d - 1) k ≤ D)) (fun k => w (n - d - 1) k + cst w n m D d (s ||| 2 ^ k)) (D + 1 + cst w n m D d s) m
    unfold cst
    omega
/-- may TRACK n - d - 1 take k, and is that a least cost? -/
def vl (w : Nat → Nat → Nat) (D t s k : Nat) : Bool := !(bt s k) && decide (w t k ≤ D)
def hit (w : Nat → Nat → Nat) (n m D t s k : Nat) : Bool := vl w D t s k && (w t k + cst w n m D (n - t - 1) (s ||| 2 ^ k) == cst w n m D (n - t) s)
def fsO (p : Nat → Bool) (m : Nat) : Nat → Option Nat
  | 0 => none
  | d + 1 => if p (m - d - 1) = true then some (m - d - 1) else fsO p m d
theorem fsO_in {p : Nat → Bool} {m : Nat} : ∀ {d k : Nat}, d ≤ m → fsO p m d = some k → k < m ∧ p k = true
  | 0, k, _, h => by simp [fsO] at h
  | d + 1, k, hd, h => by
    unfold fsO at h
    by_cases z : p (m - d - 1) = true
    · rw [if_pos z] at h
      have : m - d - 1 = k := Option.some.inj h
      subst this
      exact ⟨by omega, z⟩
    · rw [if_neg z] at h
      exact fsO_in (by omega) h
/-- what is taken ahead of TRACK t, and which it takes -/
def usd (w : Nat → Nat → Nat) (n m D : Nat) : Nat → Nat
  | 0 => 0
  | t + 1 => match fsO (hit w n m D t (usd w n m D t)) m m with
    | none => usd w n m D t
    | some k => usd w n m D t ||| 2 ^ k
def chs (w : Nat → Nat → Nat) (n m D t : Nat) : Option Nat := fsO (hit w n m D t (usd w n m D t)) m m
theorem usd_ok (w : Nat → Nat → Nat) (n m D : Nat) (hm : m ≤ 6) : ∀ t, usd w n m D t < 2 ^ m ∧ pcn 8 (usd w n m D t) ≤ t
  | 0 => ⟨Nat.two_pow_pos m, Nat.le_of_eq (by unfold usd; rfl)⟩
  | t + 1 => by
    have ⟨a, b⟩ := usd_ok w n m D hm t
    have h64 : 2 ^ m ≤ 64 := (sh_m m (by omega)).2
    unfold usd
    cases h : fsO (hit w n m D t (usd w n m D t)) m m with
    | none => exact ⟨a, by simp only; omega⟩
    | some k =>
      have ⟨c, d⟩ := fsO_in (Nat.le_refl _) h
      have e : bt (usd w n m D t) k = false := by
        unfold hit vl at d
        simp only [Bool.and_eq_true, Bool.not_eq_true'] at d
        exact d.1.1
      exact ⟨or_lt m (by omega) _ a k c, by simp only; rw [bt_pc _ (by omega) k (by omega) e]; omega⟩
theorem chs_in {w : Nat → Nat → Nat} {n m D t k : Nat} (h : chs w n m D t = some k) : k < m ∧ hit w n m D t (usd w n m D t) k = true := fsO_in (Nat.le_refl _) h
/-- what the pairing is asked about -/
def PA (A : Nat → Int32) (R C n m D : Nat) (pt qk : Nat → Nat) : Prop := (R ≤ 8 ∧ 1 ≤ C ∧ C ≤ 8 ∧ n ≤ 6 ∧ m ≤ 6 ∧ D ≤ 14) ∧ (A 1 = nI C ∧ A 4 = nI D ∧ A 8 = nI m ∧ A 10 = nI n) ∧ (∀ j, j < n → pt j < R * C ∧ A (281 + 6 * j) = nI (pt j)) ∧ ∀ k, k < m → qk k < R * C ∧ A (274 + k) = nI (qk k)
def wA (C : Nat) (pt qk : Nat → Nat) (t k : Nat) : Nat := wy C (pt t) (qk k)
