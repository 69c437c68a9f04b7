/-! BY LOTS: numbers -/
def lQ (n : Nat) : Int64 := Int64.ofNat n
theorem lQ_toInt {x : Nat} (h : x < 9223372036854775808) : (lQ x).toInt = (x : Int) := Int64.toInt_ofNat_of_lt h
theorem lQ_mul (a b : Nat) : lQ a * lQ b = lQ (a * b) := (Int64.ofNat_mul a b).symm
theorem lQ_add (a b : Nat) : lQ a + lQ b = lQ (a + b) := (Int64.ofNat_add a b).symm
theorem lQ_sub {a b : Nat} (h : b ≤ a) : lQ a - lQ b = lQ (a - b) := by
  have e : lQ a = lQ (a - b) + lQ b := by rw [lQ_add, Nat.sub_add_cancel h]
  rw [e, Int64.add_sub_cancel]
theorem lQ_div {a b : Nat} (ha : a < 9223372036854775808) (hb : b < 9223372036854775808) : lQ a / lQ b = lQ (a / b) := by
  apply Int64.toInt_inj.mp
  have hd : a / b < 9223372036854775808 := Nat.lt_of_le_of_lt (Nat.div_le_self a b) ha
  rw [Int64.toInt_div_of_ne_right _ _ (fun e => by
    have := congrArg Int64.toInt e
    rw [lQ_toInt hb, show (-1 : Int64).toInt = -1 by decide] at this
    omega), lQ_toInt ha, lQ_toInt hb, lQ_toInt hd]
  exact (Int.ofNat_tdiv a b).symm
theorem lQ_ne0 {a : Nat} (h1 : 0 < a) (h : a < 9223372036854775808) : ¬ (lQ a = 0) := fun e => by
  have := congrArg Int64.toInt e
  rw [lQ_toInt h, show (0 : Int64).toInt = 0 by decide] at this
  omega
theorem lQ_rem {a b : Nat} (ha : a < 9223372036854775808) (hb : b < 9223372036854775808) : lQ a - lQ a / lQ b * lQ b = lQ (a % b) := by
  rw [lQ_div ha hb, lQ_mul, lQ_sub (Nat.div_mul_le_self a b)]
  congr 1
  have := Nat.div_add_mod a b
  rw [Nat.mul_comm] at this
  omega
def nx (x : Nat) : Nat := x * 16807 % 2147483647
theorem nx_lt (x : Nat) : nx x < 2147483647 := Nat.mod_lt _ (by decide)
theorem nx_ok {x : Nat} (h : x < 2147483647) : lQ x * 16807 - lQ x * 16807 / 2147483647 * 2147483647 = lQ (nx x) := by
  rw [show (16807 : Int64) = lQ 16807 by rfl, show (2147483647 : Int64) = lQ 2147483647 by rfl, lQ_mul, lQ_rem (by omega) (by omega)]
  rfl
theorem lQ_nI {v : Nat} (h : v < 2147483648) : (nI v).toInt64 = lQ v := by
  apply Int64.toInt_inj.mp
  rw [Int32.toInt_toInt64, nI_toInt h, lQ_toInt (by omega)]
theorem lQ_32 {v : Nat} (h : v < 2147483648) : (lQ v).toInt32 = nI v := by
  apply Int32.toInt_inj.mp
  rw [Int64.toInt_toInt32, nI_toInt h, lQ_toInt (by omega), Int.bmod_eq_of_le (by omega) (by omega)]
theorem lv_ok {x v : Nat} (h : x < 2147483647) (h1 : 0 < v) (hv : v < 2147483648) : (lQ x - lQ x / (nI v).toInt64 * (nI v).toInt64).toInt32 = nI (x % v) := by
  rw [lQ_nI hv, lQ_rem (by omega) (by omega), lQ_32 (by have := Nat.mod_le x v; omega)]
theorem setL_at {M : Mm} {a : Nat} {x : Int64} : (setL M a x).2 a = x := by simp [setL]
theorem setL_1 {M : Mm} {a : Nat} {x : Int64} : (setL M a x).1 = M.1 := rfl
theorem c_next {Q : Qt} {M : Mm} {x v : Nat} (h1 : 0 < v) (hv : v < 2147483648) (hx : x < 2147483647) (hm : M.2 50 = lQ x) (hQ : ∀ M', M'.1 = M.1 → M'.2 50 = lQ (nx x) → Q (some (.int (nI (nx x % v)))) M') : kX2_next [.ref 50, .int (nI v)] M Q := by
  have z0 : ((2147483647 : Int64) = 0) = False := eq_false (by decide)
  have zv : ((nI v).toInt64 = 0) = False := eq_false (by rw [lQ_nI hv]; exact lQ_ne0 h1 (by omega))
  have zp : (nI v ≤ 0) = False := eq_false (nI_ge (a := 0) h1 (by omega))
  simp only [eX2_next_0, eX2_next_1, eX2_next_2, eX2_next_5, eX2_next_8, eX2_next_9, eX2_next_12, eX2_next_13, eX2_next_16, eX2_next_17, eX2_next_20, eX2_next_21, eX2_next_24, eX2_next_25, eX2_next_26, eX2_next_27, eX2_next_28, eX2_next_31, eX2_next_32, eX2_next_in, hm, z0, zv, zp, nx_ok hx, setL_at, lv_ok (nx_lt x) h1 hv, Option.toList_some, Option.toList_none, List.cons_append, List.nil_append, b2_0, Classical.not_not, false_implies, true_implies, implies_true, true_and, and_true, not_true_eq_false, not_false_eq_true]
  exact hQ _ setL_1 setL_at
theorem m_lot {Q : Qt} {M : Mm} {x v : Nat} (h1 : 0 < v) (hv : v < 2147483648) (hx : x < 2147483647) (hm : M.2 51 = lQ x) (hQ : ∀ M', M'.1 = M.1 → M'.2 51 = lQ (nx x) → Q (some (.int (nI (nx x % v)))) M') : kX7_lotOf [.ref 51, .int (nI v)] M Q := by
  have z0 : ((2147483647 : Int64) = 0) = False := eq_false (by decide)
  have zv : ((nI v).toInt64 = 0) = False := eq_false (by rw [lQ_nI hv]; exact lQ_ne0 h1 (by omega))
  simp only [eX7_lotOf_0, eX7_lotOf_1, eX7_lotOf_2, eX7_lotOf_5, eX7_lotOf_8, eX7_lotOf_9, eX7_lotOf_12, eX7_lotOf_13, eX7_lotOf_16, eX7_lotOf_17, eX7_lotOf_20, eX7_lotOf_21, eX7_lotOf_22, eX7_lotOf_23, eX7_lotOf_24, eX7_lotOf_in, hm, z0, zv, nx_ok hx, setL_at, lv_ok (nx_lt x) h1 hv, Option.toList_some, Option.toList_none, List.cons_append, List.nil_append, b2_0, Classical.not_not, false_implies, true_implies, implies_true, true_and, and_true, not_true_eq_false, not_false_eq_true]
  exact hQ _ setL_1 setL_at
