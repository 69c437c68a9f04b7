/-! numbers -/
theorem nlit (n : Nat) : (OfNat.ofNat n : Int32) = nI n := rfl
theorem idx_lt {r c R C : Nat} (hr : r < R) (hc : c < C) : r * C + c < R * C := by
  have h1 : (r + 1) * C ≤ R * C := Nat.mul_le_mul_right C hr
  rw [Nat.add_mul, Nat.one_mul] at h1
  omega
theorem rc_le {R C : Nat} (hR : R ≤ 8) (hC : C ≤ 8) : R * C ≤ 64 := Nat.mul_le_mul hR hC
theorem rc_ge {R C : Nat} (hR : 2 ≤ R) (hC : 2 ≤ C) : 4 ≤ R * C := Nat.mul_le_mul hR hC
/-- an int within two naturals is one -/
theorem in_nI {x : Int32} {a b : Nat} (ha : a < 2147483648) (hb : b < 2147483648) (h1 : nI a ≤ x) (h2 : x ≤ nI b) : ∃ j : Nat, a ≤ j ∧ j ≤ b ∧ x = nI j := by
  have hx2 : x.toInt ≤ (b : Int) := by
    have := Int32.le_iff_toInt_le.mp h2
    rwa [nI_toInt hb] at this
  have hx1 : (a : Int) ≤ x.toInt := by
    have := Int32.le_iff_toInt_le.mp h1
    rwa [nI_toInt ha] at this
  refine ⟨x.toInt.toNat, by omega, by omega, Int32.toInt_inj.mp ?_⟩
  rw [nI_toInt (by omega)]
  omega
theorem in_nI0 {x : Int32} {b : Nat} (hb : b < 2147483648) (h1 : 0 ≤ x) (h2 : x < nI b) : ∃ j : Nat, j < b ∧ x = nI j := by
  have hx2 : x.toInt < (b : Int) := by
    have := Int32.lt_iff_toInt_lt.mp h2
    rwa [nI_toInt hb] at this
  have hx1 : (0 : Int) ≤ x.toInt := by simpa using Int32.le_iff_toInt_le.mp h1
  refine ⟨x.toInt.toNat, by omega, Int32.toInt_inj.mp ?_⟩
  rw [nI_toInt (by omega)]
  omega
theorem nI0le (n : Nat) (h : n < 2147483648) : (0 : Int32) ≤ nI n := nI_pos' h
/-! the class' state read as the model's row -/
def enc (f : Nat → Nat → Int32) (b k : Nat) : Int32 :=
  if k < 18 then
    (if k = 0 then f (b + 2) 0 else if k = 1 then f (b + 2) 1 else if k < 6 then f (b + 1) (k - 2) else if k = 6 then f b 4 else if k = 7 then f b 5 else if k = 8 then f (b + 7) 1 else if k = 9 then f (b + 7) 2 else if k = 10 then f (b + 9) 5 else if k = 11 then f (b + 9) 7 else if k = 12 then f (b + 9) 8 else if k = 13 then f (b + 9) 6 else if k = 14 then f (b + 2) 6 else if k = 15 then f (b + 2) 7 else if k = 16 then f (b + 2) 8 else f b 6)
  else if k < 82 then f (b + 3) (k - 18) else if k < 146 then f (b + 4) (k - 82) else if k < 210 then f (b + 5) (k - 146) else if k < 274 then f (b + 6) (k - 210) else if k < 280 then f (b + 8) (k - 274) else f (b + 10 + (k - 280) % 6) ((k - 280) / 6)
/-- the places of the row that mean something, with c contacts and t tracks -/
def vld (c t k : Nat) : Prop := k < 274 ∨ (274 ≤ k ∧ k < 274 + c) ∨ (280 ≤ k ∧ (k - 280) / 6 < t ∧ (k - 280) % 6 < 5)
/-- ranges of a row -/
def Gd (N : Nat → Int32) (R C c t T P D L : Nat) : Prop :=
  ((2 ≤ R ∧ R ≤ 8) ∧ (2 ≤ C ∧ C ≤ 8) ∧ c ≤ 6 ∧ t ≤ 6) ∧ ((1 ≤ T ∧ T ≤ 200) ∧ (1 ≤ P ∧ P ≤ 64) ∧ D ≤ 14 ∧ L ≤ 3) ∧
  (N 0 = nI R ∧ N 1 = nI C ∧ N 2 = nI T ∧ N 3 = nI P ∧ N 4 = nI D ∧ N 5 = nI L ∧ N 8 = nI c ∧ N 10 = nI t) ∧
  (∃ F, F ≤ 9030 ∧ N 6 = nI F) ∧ (∃ S, S ≤ 5 ∧ N 7 = nI S) ∧ (∃ s, s < 2 ^ R ∧ N 14 = nI s) ∧ (∃ w, w ≤ 14 ∧ N 17 = nI w) ∧
  (∀ k, k < 64 → ∃ x, x ≤ 999 ∧ N (18 + k) = nI x) ∧ (∀ k, k < 64 → ∃ x, x ≤ 15984 ∧ N (82 + k) = nI x) ∧
  (∀ k, k < 64 → N (210 + k) = -1 ∨ (k < R * C ∧ (∃ p, p < R * C ∧ N (210 + k) = nI p) ∧ ∃ x, 16 ≤ x ∧ x ≤ 15984 ∧ N (146 + k) = nI x)) ∧
  (∀ i, i < c → ∃ p, p < R * C ∧ N (274 + i) = nI p ∧ N (210 + p) = nI p) ∧ (∀ j, j < t → ∃ p, p < R * C ∧ N (281 + 6 * j) = nI p)
def Re (f : Nat → Nat → Int32) (b : Nat) (N : Nat → Int32) : Prop := ∀ k, vld (N 8).toNatClampNeg (N 10).toNatClampNeg k → enc f b k = N k
def GdE (N : Nat → Int32) : Prop := ∃ R C c t T P D L, Gd N R C c t T P D L
/-- what holds between the calls -/
def Inv (M : Mm) : Prop := (Re M.1 1 (M.1 52) ∧ GdE (M.1 52)) ∧ ∃ k0 k1 : Nat, k0 < 2 ∧ k1 < 2 ∧ M.1 0 5 = nI (k0 + 2 * k1) ∧ M.1 55 0 = nI k0 ∧ M.1 55 1 = nI k1 ∧ (k0 = 1 → Re M.1 16 (M.1 56) ∧ GdE (M.1 56)) ∧ (k1 = 1 → Re M.1 31 (fun k => M.1 56 (316 + k)) ∧ GdE (fun k => M.1 56 (316 + k)))
