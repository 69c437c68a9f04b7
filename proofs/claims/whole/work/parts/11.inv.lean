/-! numbers -/
theorem nlit (n : Nat) : (OfNat.ofNat n : Int32) = nI n := rfl
theorem idx_lt {r c R C : Nat} (hr : r < R) (hc : c < C) : r * C + c < R * C := by
  have h1 : (r + 1) * C ≤ R * C := Nat.mul_le_mul_right C hr
  rw [Nat.add_mul, Nat.one_mul] at h1
  omega
theorem rc_le {R C : Nat} (hR : R ≤ 8) (hC : C ≤ 8) : R * C ≤ 64 := Nat.mul_le_mul hR hC
theorem rc_ge {R C : Nat} (hR : 2 ≤ R) (hC : 2 ≤ C) : 4 ≤ R * C := Nat.mul_le_mul hR hC
/-- an int within two naturals is one -/
theorem in_nI {x : Int32} {a b : Nat} (ha : a < 2147483648) (hb : b < 2147483648) (h1 : nI a ≤ x) (h2 : x ≤ nI b) : ∃ j : Nat, a ≤ j ∧ j ≤ b ∧ x = nI j := by
  have hx2 : x.toInt ≤ (b : Int) := by
    have := Int32.le_iff_toInt_le.mp h2
    rwa [nI_toInt hb] at this
  have hx1 : (a : Int) ≤ x.toInt := by
    have := Int32.le_iff_toInt_le.mp h1
    rwa [nI_toInt ha] at this
  refine ⟨x.toInt.toNat, by omega, by omega, Int32.toInt_inj.mp ?_⟩
  rw [nI_toInt (by omega)]
  omega
theorem in_nI0 {x : Int32} {b : Nat} (hb : b < 2147483648) (h1 : 0 ≤ x) (h2 : x < nI b) : ∃ j : Nat, j < b ∧ x = nI j := by
  have hx2 : x.toInt < (b : Int) := by
    have := Int32.lt_iff_toInt_lt.mp h2
    rwa [nI_toInt hb] at this
  have hx1 : (0 : Int) ≤ x.toInt := by simpa using Int32.le_iff_toInt_le.mp h1
  refine ⟨x.toInt.toNat, by omega, Int32.toInt_inj.mp ?_⟩
  rw [nI_toInt (by omega)]
  omega
theorem nI0le (n : Nat) (h : n < 2147483648) : (0 : Int32) ≤ nI n := nI_pos' h
/-! the class' state read as the model's row: place k of the row is place ep k of cell b + ec k -/
def ec (k : Nat) : Nat := if k < 18 then [2, 2, 1, 1, 1, 1, 0, 0, 7, 7, 9, 9, 9, 9, 2, 2, 2, 0].getD k 0 else if k < 82 then 3 else if k < 146 then 4 else if k < 210 then 5 else if k < 274 then 6 else if k < 280 then 8 else 10 + (k - 280) % 6
def ep (k : Nat) : Nat := if k < 18 then [0, 1, 0, 1, 2, 3, 4, 5, 1, 2, 5, 7, 8, 6, 6, 7, 8, 6].getD k 0 else if k < 82 then k - 18 else if k < 146 then k - 82 else if k < 210 then k - 146 else if k < 274 then k - 210 else if k < 280 then k - 274 else (k - 280) / 6
def enc (f : Nat → Nat → Int32) (b k : Nat) : Int32 := f (b + ec k) (ep k)
theorem ec_lo : ∀ k, k < 18 → ec k = 0 ∨ ec k = 1 ∨ ec k = 2 ∨ ec k = 7 ∨ ec k = 9 := by decide
theorem ec_le (k : Nat) : ec k ≤ 15 := by
  rcases Nat.lt_or_ge k 18 with h | h
  · rcases ec_lo k h with q | q | q | q | q <;> omega
  · unfold ec
    rw [if_neg (by omega)]
    repeat' split
    all_goals omega
theorem ec_ge (k : Nat) (h : 18 ≤ k) : ec k = 3 ∨ ec k = 4 ∨ ec k = 5 ∨ ec k = 6 ∨ ec k = 8 ∨ 10 ≤ ec k := by
  unfold ec
  rw [if_neg (by omega)]
  repeat' split
  all_goals omega
theorem ec_inj18 : ∀ k, k < 18 → ∀ e, e < 18 → ec k = ec e → ep k = ep e → k = e := by decide
theorem ec_reg (k : Nat) (h : 18 ≤ k) : (k < 82 ∧ ec k = 3 ∧ ep k = k - 18) ∨ (82 ≤ k ∧ k < 146 ∧ ec k = 4 ∧ ep k = k - 82) ∨ (146 ≤ k ∧ k < 210 ∧ ec k = 5 ∧ ep k = k - 146) ∨ (210 ≤ k ∧ k < 274 ∧ ec k = 6 ∧ ep k = k - 210) ∨ (274 ≤ k ∧ k < 280 ∧ ec k = 8 ∧ ep k = k - 274) ∨ (280 ≤ k ∧ ec k = 10 + (k - 280) % 6 ∧ ep k = (k - 280) / 6) := by
  have h0 : ¬ k < 18 := by omega
  rcases Nat.lt_or_ge k 82 with a | a
  · have e1 : ec k = 3 := by unfold ec; rw [if_neg h0, if_pos a]
    have e2 : ep k = k - 18 := by unfold ep; rw [if_neg h0, if_pos a]
    omega
  · skip
    rcases Nat.lt_or_ge k 146 with b | b
    · have e1 : ec k = 4 := by unfold ec; rw [if_neg h0, if_neg (Nat.not_lt.mpr a), if_pos b]
      have e2 : ep k = k - 82 := by unfold ep; rw [if_neg h0, if_neg (Nat.not_lt.mpr a), if_pos b]
      omega
    · skip
      rcases Nat.lt_or_ge k 210 with c | c
      · have e1 : ec k = 5 := by unfold ec; rw [if_neg h0, if_neg (Nat.not_lt.mpr a), if_neg (Nat.not_lt.mpr b), if_pos c]
        have e2 : ep k = k - 146 := by unfold ep; rw [if_neg h0, if_neg (Nat.not_lt.mpr a), if_neg (Nat.not_lt.mpr b), if_pos c]
        omega
      · skip
        rcases Nat.lt_or_ge k 274 with d | d
        · have e1 : ec k = 6 := by unfold ec; rw [if_neg h0, if_neg (Nat.not_lt.mpr a), if_neg (Nat.not_lt.mpr b), if_neg (Nat.not_lt.mpr c), if_pos d]
          have e2 : ep k = k - 210 := by unfold ep; rw [if_neg h0, if_neg (Nat.not_lt.mpr a), if_neg (Nat.not_lt.mpr b), if_neg (Nat.not_lt.mpr c), if_pos d]
          omega
        · skip
          rcases Nat.lt_or_ge k 280 with e | e
          · have e1 : ec k = 8 := by unfold ec; rw [if_neg h0, if_neg (Nat.not_lt.mpr a), if_neg (Nat.not_lt.mpr b), if_neg (Nat.not_lt.mpr c), if_neg (Nat.not_lt.mpr d), if_pos e]
            have e2 : ep k = k - 274 := by unfold ep; rw [if_neg h0, if_neg (Nat.not_lt.mpr a), if_neg (Nat.not_lt.mpr b), if_neg (Nat.not_lt.mpr c), if_neg (Nat.not_lt.mpr d), if_pos e]
            omega
          · skip
            have e1 : ec k = 10 + (k - 280) % 6 := by unfold ec; rw [if_neg h0, if_neg (Nat.not_lt.mpr a), if_neg (Nat.not_lt.mpr b), if_neg (Nat.not_lt.mpr c), if_neg (Nat.not_lt.mpr d), if_neg (Nat.not_lt.mpr e)]
            have e2 : ep k = (k - 280) / 6 := by unfold ep; rw [if_neg h0, if_neg (Nat.not_lt.mpr a), if_neg (Nat.not_lt.mpr b), if_neg (Nat.not_lt.mpr c), if_neg (Nat.not_lt.mpr d), if_neg (Nat.not_lt.mpr e)]
            omega
theorem ec_inj {k e : Nat} (h1 : ec k = ec e) (h2 : ep k = ep e) : k = e := by
  rcases Nat.lt_or_ge k 18 with hk | hk <;> rcases Nat.lt_or_ge e 18 with he | he
  · exact ec_inj18 k hk e he h1 h2
  · have a := ec_lo k hk
    have b := ec_ge e he
    omega
  · have a := ec_lo e he
    have b := ec_ge k hk
    omega
  · have a := ec_reg k hk
    have b := ec_reg e he
    omega
theorem enc_set {M : Mm} {a p e : Nat} {v : Int32} (ha : a = 1 + ec e) (hp : p = ep e) : enc (setI M a p v).1 1 = upd (enc M.1 1) e v := by
  funext k
  subst ha
  subst hp
  simp only [enc, setI, upd]
  by_cases h : k = e
  · subst h
    simp [upd]
  · rw [if_neg h]
    by_cases h1 : ec k = ec e
    · have h2 : ¬ ep k = ep e := fun z => h (ec_inj h1 z)
      simp [h1, h2, upd]
    · have h2 : ¬ (1 + ec k = 1 + ec e) := by omega
      rw [if_neg h2]
theorem enc_off {M : Mm} {a p : Nat} {v : Int32} (ha : a = 0 ∨ 17 ≤ a) : enc (setI M a p v).1 1 = enc M.1 1 := by
  funext k
  simp only [enc, setI]
  have := ec_le k
  rw [if_neg (by omega)]
theorem ec_raw {k : Nat} (h : k < 64) : ec (18 + k) = 3 ∧ ep (18 + k) = k := by
  refine ⟨?_, ?_⟩
  · unfold ec
    rw [if_neg (by omega), if_pos (by omega)]
  · unfold ep
    rw [if_neg (by omega), if_pos (by omega)]
    omega
theorem ec_ground {k : Nat} (h : k < 64) : ec (82 + k) = 4 ∧ ep (82 + k) = k := by
  refine ⟨?_, ?_⟩
  · unfold ec
    rw [if_neg (by omega), if_neg (by omega), if_pos (by omega)]
  · unfold ep
    rw [if_neg (by omega), if_neg (by omega), if_pos (by omega)]
    omega
theorem ec_signal {k : Nat} (h : k < 64) : ec (146 + k) = 5 ∧ ep (146 + k) = k := by
  refine ⟨?_, ?_⟩
  · unfold ec
    rw [if_neg (by omega), if_neg (by omega), if_neg (by omega), if_pos (by omega)]
  · unfold ep
    rw [if_neg (by omega), if_neg (by omega), if_neg (by omega), if_pos (by omega)]
    omega
theorem ec_peak {k : Nat} (h : k < 64) : ec (210 + k) = 6 ∧ ep (210 + k) = k := by
  refine ⟨?_, ?_⟩
  · unfold ec
    rw [if_neg (by omega), if_neg (by omega), if_neg (by omega), if_neg (by omega), if_pos (by omega)]
  · unfold ep
    rw [if_neg (by omega), if_neg (by omega), if_neg (by omega), if_neg (by omega), if_pos (by omega)]
    omega
theorem ec_con {k : Nat} (h : k < 6) : ec (274 + k) = 8 ∧ ep (274 + k) = k := by
  refine ⟨?_, ?_⟩
  · unfold ec
    rw [if_neg (by omega), if_neg (by omega), if_neg (by omega), if_neg (by omega), if_neg (by omega), if_pos (by omega)]
  · unfold ep
    rw [if_neg (by omega), if_neg (by omega), if_neg (by omega), if_neg (by omega), if_neg (by omega), if_pos (by omega)]
    omega
theorem ec_trk {t w : Nat} (h : w < 6) : ec (280 + 6 * t + w) = 10 + w ∧ ep (280 + 6 * t + w) = t := by
  refine ⟨?_, ?_⟩
  · unfold ec
    rw [if_neg (by omega), if_neg (by omega), if_neg (by omega), if_neg (by omega), if_neg (by omega), if_neg (by omega)]
    omega
  · unfold ep
    rw [if_neg (by omega), if_neg (by omega), if_neg (by omega), if_neg (by omega), if_neg (by omega), if_neg (by omega)]
    omega
/-- the places of the row that mean something, with c contacts and t tracks -/
def vld (c t k : Nat) : Prop := k < 274 ∨ (274 ≤ k ∧ k < 280 ∧ k < 274 + c) ∨ (280 ≤ k ∧ (k - 280) / 6 < t ∧ (k - 280) % 6 < 5)
/-- ranges of a row -/
def Gd (N : Nat → Int32) (R C c t T P D L : Nat) : Prop :=
  ((2 ≤ R ∧ R ≤ 8) ∧ (2 ≤ C ∧ C ≤ 8) ∧ c ≤ 6 ∧ t ≤ 6) ∧ ((1 ≤ T ∧ T ≤ 200) ∧ (1 ≤ P ∧ P ≤ 64) ∧ D ≤ 14 ∧ L ≤ 3) ∧
  (N 0 = nI R ∧ N 1 = nI C ∧ N 2 = nI T ∧ N 3 = nI P ∧ N 4 = nI D ∧ N 5 = nI L ∧ N 8 = nI c ∧ N 10 = nI t) ∧
  (∃ F, F ≤ 9030 ∧ N 6 = nI F ∧ ∃ x, x ≤ 6 * F ∧ N 13 = nI x ∧ ∃ y : Nat → Nat, (∀ i, i < t → N (280 + 6 * i) = nI (y i) ∧ y i < x) ∧ ∀ i j, i < j → j < t → y i < y j) ∧ (∃ S, S ≤ 5 ∧ N 7 = nI S) ∧ (∃ s, s < 2 ^ R ∧ N 14 = nI s) ∧ (∃ w, w ≤ 14 ∧ N 17 = nI w) ∧
  (∀ k, k < 64 → ∃ x, x ≤ 999 ∧ N (18 + k) = nI x) ∧ (∀ k, k < 64 → ∃ x, x ≤ 15984 ∧ N (82 + k) = nI x) ∧
  (∀ k, k < 64 → N (210 + k) = -1 ∨ (k < R * C ∧ (∃ p, p < R * C ∧ N (210 + k) = nI p) ∧ ∃ x, 16 ≤ x ∧ x ≤ 15984 ∧ N (146 + k) = nI x)) ∧
  (∀ i, i < c → ∃ p, p < R * C ∧ N (274 + i) = nI p ∧ N (210 + p) = nI p) ∧ (∀ j, j < t → ∃ p, p < R * C ∧ N (281 + 6 * j) = nI p)
def Re (f : Nat → Nat → Int32) (b : Nat) (N : Nat → Int32) : Prop := ∀ k, vld (N 8).toNatClampNeg (N 10).toNatClampNeg k → enc f b k = N k
def GdE (N : Nat → Int32) : Prop := ∃ R C c t T P D L, Gd N R C c t T P D L
/-- what holds between the calls -/
def Inv (M : Mm) : Prop := (Re M.1 1 (M.1 52) ∧ GdE (M.1 52)) ∧ ∃ k0 k1 : Nat, k0 < 2 ∧ k1 < 2 ∧ M.1 0 5 = nI (k0 + 2 * k1) ∧ M.1 55 0 = nI k0 ∧ M.1 55 1 = nI k1 ∧ (k0 = 1 → Re M.1 16 (M.1 56) ∧ GdE (M.1 56)) ∧ (k1 = 1 → Re M.1 31 (fun k => M.1 56 (316 + k)) ∧ GdE (fun k => M.1 56 (316 + k)))
section RDS
variable {f : Nat → Nat → Int32} {b : Nat} {N : Nat → Int32}
theorem Re.lo (h : Re f b N) {k : Nat} (hk : k < 274) : f (b + ec k) (ep k) = N k := h k (Or.inl hk)
theorem Re.raw (h : Re f b N) {k : Nat} (hk : k < 64) : f (b + 3) k = N (18 + k) := by
  have := h.lo (k := 18 + k) (by omega)
  rwa [(ec_raw hk).1, (ec_raw hk).2] at this
theorem Re.ground (h : Re f b N) {k : Nat} (hk : k < 64) : f (b + 4) k = N (82 + k) := by
  have := h.lo (k := 82 + k) (by omega)
  rwa [(ec_ground hk).1, (ec_ground hk).2] at this
theorem Re.signal (h : Re f b N) {k : Nat} (hk : k < 64) : f (b + 5) k = N (146 + k) := by
  have := h.lo (k := 146 + k) (by omega)
  rwa [(ec_signal hk).1, (ec_signal hk).2] at this
theorem Re.peak (h : Re f b N) {k : Nat} (hk : k < 64) : f (b + 6) k = N (210 + k) := by
  have := h.lo (k := 210 + k) (by omega)
  rwa [(ec_peak hk).1, (ec_peak hk).2] at this
theorem Re.con (h : Re f b N) {k c : Nat} (hk : k < c) (hc : c ≤ 6) (hN : N 8 = nI c) : f (b + 8) k = N (274 + k) := by
  have := h (274 + k) (Or.inr (Or.inl ⟨by omega, by omega, by rw [hN, nI_clamp (by omega)]; omega⟩))
  unfold enc at this
  rwa [(ec_con (by omega)).1, (ec_con (by omega)).2] at this
theorem Re.trk (h : Re f b N) {j w t : Nat} (hj : j < t) (hw : w < 5) (ht : t ≤ 6) (hN : N 10 = nI t) : f (b + 10 + w) j = N (280 + 6 * j + w) := by
  have := h (280 + 6 * j + w) (Or.inr (Or.inr ⟨by omega, by rw [hN, nI_clamp (by omega)]; omega, by omega⟩))
  unfold enc at this
  rw [(ec_trk (by omega)).1, (ec_trk (by omega)).2] at this
  rw [← this, Nat.add_assoc]
end RDS
/-- what a call of the class, of the model, leaves alone -/
def FrC (M M' : Mm) : Prop := ∀ a, ¬ (1 ≤ a ∧ a ≤ 15) → ¬ (46 ≤ a ∧ a ≤ 50) → M'.1 a = M.1 a
def FrM (M M' : Mm) : Prop := ∀ a, ¬ (52 ≤ a ∧ a ≤ 54) → M'.1 a = M.1 a
theorem Re.congr {f g : Nat → Nat → Int32} {b : Nat} {N : Nat → Int32} (h : Re f b N) (he : ∀ a, b ≤ a → a ≤ b + 14 → g a = f a) : Re g b N := by
  intro k hk
  rw [← h k hk]
  unfold enc
  have h1 : ec k ≤ 14 := by
    rcases Nat.lt_or_ge k 18 with z | z
    · rcases ec_lo k z with y | y | y | y | y <;> omega
    · have a := ec_reg k z
      unfold vld at hk
      omega
  rw [he _ (by omega) (by omega)]
theorem comb {M : Mm} (hI : Inv M) {kC kM : Mm → Qt → Prop} {N' : Nat → Int32} {ans : Value} (hC : ∀ Q : Qt, (∀ M', FrC M M' → Re M'.1 1 N' → Q (some ans) M') → kC M Q) (hM : ∀ (M1 : Mm) (Q : Qt), M1.1 52 = M.1 52 → (∀ M', FrM M1 M' → M'.1 52 = N' → Q (some ans) M') → kM M1 Q) (hG : GdE N') : kC M (fun r M1 => r = some ans ∧ kM M1 (fun r2 M2 => r2 = r ∧ r = some ans ∧ Inv M2)) := by
  obtain ⟨-, k0, k1, h0, h1, e0, e1, e2, i0, i1⟩ := hI
  refine hC _ (fun M1 f1 r1 => ⟨rfl, hM M1 _ (f1 52 (by omega) (by omega)) (fun M2 f2 n2 => ⟨rfl, rfl, ?_⟩)⟩)
  have both : ∀ a, ¬ (1 ≤ a ∧ a ≤ 15) → ¬ (46 ≤ a ∧ a ≤ 50) → ¬ (52 ≤ a ∧ a ≤ 54) → M2.1 a = M.1 a := fun a p q s => (f2 a s).trans (f1 a p q)
  refine ⟨⟨?_, by rw [n2]; exact hG⟩, k0, k1, h0, h1, by rw [both 0 (by omega) (by omega) (by omega)]; exact e0, by rw [both 55 (by omega) (by omega) (by omega)]; exact e1, by rw [both 55 (by omega) (by omega) (by omega)]; exact e2, fun z => ?_, fun z => ?_⟩
  · rw [n2]
    exact r1.congr (fun a p q => f2 a (by omega))
  · rw [both 56 (by omega) (by omega) (by omega)]
    exact ⟨(i0 z).1.congr (fun a p q => both a (by omega) (by omega) (by omega)), (i0 z).2⟩
  · rw [both 56 (by omega) (by omega) (by omega)]
    exact ⟨(i1 z).1.congr (fun a p q => both a (by omega) (by omega) (by omega)), (i1 z).2⟩
