/-! the start: what holds of a new panel and a new model -/
theorem row0 : (∀ k, k < 6 → M00.1 52 k = [0, 0, 10, 9, 3, 1].getD k 0) := by decide
theorem gd00 : Gd (newN (M00.1 52) 4 4) 4 4 0 0 10 9 3 1 := by
  obtain ⟨z0, z1, zb, z6, zp, zc⟩ := newN_at (M00.1 52) 4 4
  refine ⟨⟨by omega, by omega, by omega, by omega⟩, ⟨by omega, by omega, by omega, by omega⟩, ⟨z0, z1, ?_, ?_, ?_, ?_, ?_, ?_⟩, ⟨0, by omega, ?_, 0, by omega, ?_, fun _ => 0, fun i h => absurd h (Nat.not_lt_zero i), fun i j h1 h2 => absurd h2 (Nat.not_lt_zero j)⟩, ⟨0, by omega, ?_⟩, ⟨0, by omega, ?_⟩, ⟨0, by omega, ?_⟩, fun k hk => ⟨0, by omega, ?_⟩, fun k hk => ⟨0, by omega, ?_⟩, fun k hk => Or.inl (zp _ (by omega) (by omega)), fun i h => absurd h (Nat.not_lt_zero i), fun i h => absurd h (Nat.not_lt_zero i)⟩
  · exact (zb 2 (by omega) (by omega)).trans (row0 2 (by omega))
  · exact (zb 3 (by omega) (by omega)).trans (row0 3 (by omega))
  · exact (zb 4 (by omega) (by omega)).trans (row0 4 (by omega))
  · exact (zb 5 (by omega) (by omega)).trans (row0 5 (by omega))
  · exact z6 8 (by omega) (by omega)
  · exact z6 10 (by omega) (by omega)
  · exact z6 6 (by omega) (by omega)
  · exact z6 13 (by omega) (by omega)
  · exact z6 7 (by omega) (by omega)
  · exact z6 14 (by omega) (by omega)
  · exact z6 17 (by omega) (by omega)
  · exact z6 (18 + k) (by omega) (by omega)
  · exact z6 (82 + k) (by omega) (by omega)
theorem enc18 : ∀ k, k < 18 → enc M00.1 1 k = [4, 4, 10, 9, 3, 1, 0, 0, 0, 0, 0, 0, 0, 0, 0, 0, 0, 0].getD k 0 := by decide
theorem z_reg {j : Nat} (h : j = 4 ∨ j = 5 ∨ j = 6) (k : Nat) : M00.1 j k = 0 := by
  rcases h with rfl | rfl | rfl <;> rfl
theorem inv00 {M : Mm} (hf : FrM M00 M) (hr : M.1 52 = newN (M00.1 52) 4 4) : Inv M := by
  obtain ⟨z0, z1, zb, z6, zp, zc⟩ := newN_at (M00.1 52) 4 4
  refine ⟨⟨?_, by rw [hr]; exact ⟨_, _, _, _, _, _, _, _, gd00⟩⟩, 0, 0, by omega, by omega, ?_, ?_, ?_, fun h => by omega, fun h => by omega⟩
  · rw [hr]
    intro k hk
    have h8 : newN (M00.1 52) 4 4 8 = 0 := z6 8 (by omega) (by omega)
    have h10 : newN (M00.1 52) 4 4 10 = 0 := z6 10 (by omega) (by omega)
    rw [h8, h10] at hk
    have hk : k < 274 := by
      rcases hk with h | ⟨h1, h2, h3⟩ | ⟨h1, h2, h3⟩
      · exact h
      · have : (0 : Int32).toNatClampNeg = 0 := rfl
        omega
      · have : (0 : Int32).toNatClampNeg = 0 := rfl
        omega
    have he : enc M.1 1 k = enc M00.1 1 k := by
      unfold enc
      have := ec_le k
      rw [hf (1 + ec k) (by omega)]
    rw [he]
    rcases Nat.lt_or_ge k 18 with h | h
    · rw [enc18 k h]
      rcases Nat.lt_or_ge k 6 with h6 | h6
      · rcases (show k = 0 ∨ k = 1 ∨ k = 2 ∨ k = 3 ∨ k = 4 ∨ k = 5 by omega) with rfl | rfl | rfl | rfl | rfl | rfl
        · exact z0.symm
        · exact z1.symm
        · exact ((zb 2 (by omega) (by omega)).trans (row0 2 (by omega))).symm
        · exact ((zb 3 (by omega) (by omega)).trans (row0 3 (by omega))).symm
        · exact ((zb 4 (by omega) (by omega)).trans (row0 4 (by omega))).symm
        · exact ((zb 5 (by omega) (by omega)).trans (row0 5 (by omega))).symm
      · rw [z6 k h6 (by omega)]
        rcases (show k = 6 ∨ k = 7 ∨ k = 8 ∨ k = 9 ∨ k = 10 ∨ k = 11 ∨ k = 12 ∨ k = 13 ∨ k = 14 ∨ k = 15 ∨ k = 16 ∨ k = 17 by omega) with rfl | rfl | rfl | rfl | rfl | rfl | rfl | rfl | rfl | rfl | rfl | rfl <;> rfl
    · unfold enc
      rcases ec_reg k h with ⟨a1, a2, a3⟩ | ⟨a0, a1, a2, a3⟩ | ⟨a0, a1, a2, a3⟩ | ⟨a0, a1, a2, a3⟩ | ⟨a0, a1, a2, a3⟩ | ⟨a0, a2, a3⟩
      · rw [a2, z_reg (by omega), z6 k (by omega) (by omega)]
      · rw [a2, z_reg (by omega), z6 k (by omega) (by omega)]
      · rw [a2, z_reg (by omega), z6 k (by omega) (by omega)]
      · rw [a2, zp k (by omega) (by omega)]
        rfl
      · omega
      · omega
  · rw [hf 0 (by omega)]
    rfl
  · rw [hf 55 (by omega)]
    rfl
  · rw [hf 55 (by omega)]
    rfl
