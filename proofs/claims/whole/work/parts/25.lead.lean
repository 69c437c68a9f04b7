/-! a FRAME, step 4: which CELL leads where -/
def str (A : Nat → Int32) (a b : Nat) : Prop := A (146 + b) < A (146 + a) ∨ (A (146 + a) = A (146 + b) ∧ a < b)
theorem str_iff {A : Nat → Int32} {a b : Nat} : str A a b ↔ (A (146 + b)).toInt < (A (146 + a)).toInt ∨ ((A (146 + a)).toInt = (A (146 + b)).toInt ∧ a < b) := by
  unfold str
  rw [Int32.lt_iff_toInt_lt, ← Int32.toInt_inj]
theorem str_tr {A : Nat → Int32} {a b c : Nat} (h1 : str A a b) (h2 : str A b c) : str A a c := by
  rw [str_iff] at *
  omega
theorem str_as {A : Nat → Int32} {a b : Nat} (h1 : str A a b) (h2 : str A b a) : False := by
  rw [str_iff] at *
  omega
theorem str_tot {A : Nat → Int32} {a b : Nat} (h : a ≠ b) : str A a b ∨ str A b a := by
  rw [str_iff, str_iff]
  omega
theorem str_ir {A : Nat → Int32} {a : Nat} (h : str A a a) : False := str_as h h
noncomputable def pick (A : Nat → Int32) (v : Prop) (b o : Nat) : Nat := @ite _ (v ∧ str A o b) (Classical.propDecidable _) o b
theorem pick_y {A : Nat → Int32} {v : Prop} {b o : Nat} (h : v ∧ str A o b) : pick A v b o = o := by unfold pick; rw [if_pos h]
theorem pick_n {A : Nat → Int32} {v : Prop} {b o : Nat} (h : ¬ (v ∧ str A o b)) : pick A v b o = b := by unfold pick; rw [if_neg h]
theorem pick_or (A : Nat → Int32) (v : Prop) (b o : Nat) : (pick A v b o = b) ∨ (pick A v b o = o ∧ v ∧ str A o b) := by
  by_cases h : v ∧ str A o b
  · exact Or.inr ⟨pick_y h, h⟩
  · exact Or.inl (pick_n h)
theorem pick_comm (A : Nat → Int32) (v1 v2 : Prop) (b o1 o2 : Nat) : pick A v2 (pick A v1 b o1) o2 = pick A v1 (pick A v2 b o2) o1 := by
  by_cases h1 : v1 ∧ str A o1 b
  · rw [pick_y h1]
    by_cases h2 : v2 ∧ str A o2 b
    · rw [pick_y h2]
      by_cases h3 : str A o2 o1
      · rw [pick_y ⟨h2.1, h3⟩, pick_n (fun z => str_as z.2 h3)]
      · rw [pick_n (fun z => h3 z.2)]
        by_cases h4 : str A o1 o2
        · rw [pick_y ⟨h1.1, h4⟩]
        · rw [pick_n (fun z => h4 z.2)]
          apply Classical.byContradiction
          intro z
          rcases str_tot (A := A) z with q | q
          · exact h4 q
          · exact h3 q
    · rw [pick_n h2, pick_y h1, pick_n (fun z => h2 ⟨z.1, str_tr z.2 h1.2⟩)]
  · rw [pick_n h1]
    by_cases h2 : v2 ∧ str A o2 b
    · rw [pick_y h2, pick_n (fun z => h1 ⟨z.1, str_tr z.2 h2.2⟩)]
    · rw [pick_n h2, pick_n h1]
/-- the one at a row and a column, if it is there and TOUCHED and STRONGER, else b -/
noncomputable def pkr (A : Nat → Int32) (R C b : Nat) (r c : Int32) : Nat := pick A ((0 ≤ r ∧ r < nI R ∧ 0 ≤ c ∧ c < nI C) ∧ ¬ A (210 + (r * nI C + c).toNatClampNeg) = -1) b (r * nI C + c).toNatClampNeg
noncomputable def ld (A : Nat → Int32) (R C k : Nat) : Nat := pkr A R C (pkr A R C (pkr A R C (pkr A R C k (nI (k / C) - 1) (nI (k % C))) (nI (k / C) + 1) (nI (k % C))) (nI (k / C)) (nI (k % C) - 1)) (nI (k / C)) (nI (k % C) + 1)
theorem ld_c {A : Nat → Int32} {R C k : Nat} : pkr A R C (pkr A R C (pkr A R C (pkr A R C k (nI (k / C) - 1) (nI (k % C))) (nI (k / C)) (nI (k % C) - 1)) (nI (k / C)) (nI (k % C) + 1)) (nI (k / C) + 1) (nI (k % C)) = ld A R C k := by
  unfold ld pkr
  rw [pick_comm A _ _ (pick A _ (pick A _ k _) _) _ _, pick_comm A _ _ (pick A _ k _) _ _]
theorem pkr_or {A : Nat → Int32} {R C b : Nat} {r c : Int32} (hR1 : 1 ≤ R) (hC1 : 1 ≤ C) (hR : R ≤ 8) (hC : C ≤ 8) : pkr A R C b r c = b ∨ (pkr A R C b r c < R * C ∧ ¬ A (210 + pkr A R C b r c) = -1 ∧ str A (pkr A R C b r c) b) := by
  rcases pick_or A ((0 ≤ r ∧ r < nI R ∧ 0 ≤ c ∧ c < nI C) ∧ ¬ A (210 + (r * nI C + c).toNatClampNeg) = -1) b (r * nI C + c).toNatClampNeg with h | ⟨h, h1, h2⟩
  · exact Or.inl h
  · right
    have h' : pkr A R C b r c = (r * nI C + c).toNatClampNeg := h
    rw [h']
    refine ⟨?_, h1.2, h2⟩
    rcases cellCase hR1 hC1 hR hC r c with ⟨z, -⟩ | ⟨r', c', q1, q2, rfl, rfl, -, -⟩
    · exact absurd h1.1 z
    · have := idx_lt q1 q2
      have := rc_le hR hC
      rw [pk_mul, nI_add, nI_clamp (by omega)]
      omega
/-- where it leads: itself, or a TOUCHED and STRONGER one -/
theorem ld_or {A : Nat → Int32} {R C k : Nat} (hR1 : 1 ≤ R) (hC1 : 1 ≤ C) (hR : R ≤ 8) (hC : C ≤ 8) : ld A R C k = k ∨ (ld A R C k < R * C ∧ ¬ A (210 + ld A R C k) = -1 ∧ str A (ld A R C k) k) := by
  unfold ld
  have go : ∀ {b : Nat} (r c : Int32), (b = k ∨ (b < R * C ∧ ¬ A (210 + b) = -1 ∧ str A b k)) → (pkr A R C b r c = k ∨ (pkr A R C b r c < R * C ∧ ¬ A (210 + pkr A R C b r c) = -1 ∧ str A (pkr A R C b r c) k)) := by
    intro b r c h
    rcases pkr_or (A := A) (b := b) (r := r) (c := c) hR1 hC1 hR hC with q | ⟨q1, q2, q3⟩
    · rw [q]
      exact h
    · right
      rcases h with h | ⟨h1, h2, h3⟩
      · rw [h] at q1 q2 q3 ⊢
        exact ⟨q1, q2, q3⟩
      · exact ⟨q1, q2, str_tr q3 h3⟩
  exact go _ _ (go _ _ (go _ _ (go _ _ (Or.inl rfl))))
def itr (f : Nat → Nat) : Nat → Nat → Nat
  | 0, x => x
  | n + 1, x => itr f n (f x)
theorem itr_fix {f : Nat → Nat} {x : Nat} (h : f x = x) : ∀ n, itr f n x = x
  | 0 => rfl
  | n + 1 => by
    simp only [itr]
    rw [h]
    exact itr_fix h n
theorem itr_s {f : Nat → Nat} : ∀ n x, itr f (n + 1) x = f (itr f n x)
  | 0, _ => rfl
  | n + 1, x => by
    show itr f (n + 1) (f x) = f (itr f n (f x))
    exact itr_s n (f x)
/-- how many are STRONGER -/
noncomputable def cnp (p : Nat → Prop) : Nat → Nat
  | 0 => 0
  | n + 1 => cnp p n + @ite _ (p n) (Classical.propDecidable _) 1 0
theorem cnp_le (p : Nat → Prop) : ∀ n, cnp p n ≤ n
  | 0 => Nat.le_refl _
  | n + 1 => by
    have := cnp_le p n
    simp only [cnp]
    split <;> omega
theorem cnp_mono {p q : Nat → Prop} : ∀ n, (∀ y, y < n → p y → q y) → cnp p n ≤ cnp q n
  | 0, _ => Nat.le_refl _
  | n + 1, h => by
    have h1 := cnp_mono n (fun y hy => h y (by omega))
    simp only [cnp]
    by_cases hp : p n
    · rw [if_pos hp, if_pos (h n (by omega) hp)]
      omega
    · rw [if_neg hp]
      omega
theorem cnp_lt {p q : Nat → Prop} {z : Nat} : ∀ n, (∀ y, y < n → p y → q y) → z < n → q z → ¬ p z → cnp p n < cnp q n
  | 0, _, h, _, _ => by omega
  | n + 1, h, hz, h1, h2 => by
    simp only [cnp]
    by_cases e : z = n
    · subst e
      have := cnp_mono z (fun y hy => h y (by omega))
      rw [if_neg h2, if_pos h1]
      omega
    · have := cnp_lt n (fun y hy => h y (by omega)) (by omega) h1 h2
      by_cases hp : p n
      · rw [if_pos hp, if_pos (h n (by omega) hp)]
        omega
      · rw [if_neg hp]
        omega
noncomputable def rk (A : Nat → Int32) (n x : Nat) : Nat := cnp (fun y => str A y x) n
theorem rk_lt {A : Nat → Int32} {n x y : Nat} (hy : y < n) (h : str A y x) : rk A n y < rk A n x := cnp_lt n (fun z _ hz => str_tr hz h) hy h str_ir
theorem rk_max {A : Nat → Int32} {n x : Nat} (hx : x < n) : rk A n x < n := by
  have h : rk A n x < cnp (fun _ => True) n := cnp_lt n (fun _ _ _ => trivial) hx trivial str_ir
  have := cnp_le (fun _ => True) n
  omega
section TOP
variable {A : Nat → Int32} {R C : Nat} (hR1 : 1 ≤ R) (hC1 : 1 ≤ C) (hR : R ≤ 8) (hC : C ≤ 8)
theorem ld_lt (hR1 : 1 ≤ R) (hC1 : 1 ≤ C) (hR : R ≤ 8) (hC : C ≤ 8) {k : Nat} (hk : k < R * C) : ld A R C k < R * C := by
  rcases ld_or (A := A) (k := k) hR1 hC1 hR hC with h | h
  · rw [h]
    exact hk
  · exact h.1
theorem ld_tch (hR1 : 1 ≤ R) (hC1 : 1 ≤ C) (hR : R ≤ 8) (hC : C ≤ 8) {k : Nat} (hk : ¬ A (210 + k) = -1) : ¬ A (210 + ld A R C k) = -1 := by
  rcases ld_or (A := A) (k := k) hR1 hC1 hR hC with h | h
  · rw [h]
    exact hk
  · exact h.2.1
theorem itr_stop (hR1 : 1 ≤ R) (hC1 : 1 ≤ C) (hR : R ≤ 8) (hC : C ≤ 8) : ∀ n k, k < R * C → rk A (R * C) k ≤ n → ld A R C (itr (ld A R C) n k) = itr (ld A R C) n k
  | 0, k, hk, h => by
    show ld A R C k = k
    rcases ld_or (A := A) (k := k) hR1 hC1 hR hC with q | ⟨q1, q2, q3⟩
    · exact q
    · have := rk_lt q1 q3
      omega
  | n + 1, k, hk, h => by
    show ld A R C (itr (ld A R C) n (ld A R C k)) = itr (ld A R C) n (ld A R C k)
    rcases ld_or (A := A) (k := k) hR1 hC1 hR hC with q | ⟨q1, q2, q3⟩
    · rw [q, itr_fix q, q]
    · have := rk_lt q1 q3
      exact itr_stop hR1 hC1 hR hC n _ q1 (by omega)
end TOP
noncomputable def top (A : Nat → Int32) (R C k : Nat) : Nat := itr (ld A R C) 64 k
section TOP2
variable {A : Nat → Int32} {R C : Nat}
theorem top_fix (hR1 : 1 ≤ R) (hC1 : 1 ≤ C) (hR : R ≤ 8) (hC : C ≤ 8) {k : Nat} (hk : k < R * C) : ld A R C (top A R C k) = top A R C k := by
  have := rk_max (A := A) hk
  have := rc_le hR hC
  exact itr_stop hR1 hC1 hR hC 64 k hk (by omega)
theorem top_ld (hR1 : 1 ≤ R) (hC1 : 1 ≤ C) (hR : R ≤ 8) (hC : C ≤ 8) {k : Nat} (hk : k < R * C) : top A R C (ld A R C k) = top A R C k := by
  have := top_fix (A := A) hR1 hC1 hR hC hk
  unfold top at this ⊢
  exact (itr_s (f := ld A R C) 64 k).trans this
theorem itr_lt (hR1 : 1 ≤ R) (hC1 : 1 ≤ C) (hR : R ≤ 8) (hC : C ≤ 8) : ∀ n k, k < R * C → itr (ld A R C) n k < R * C
  | 0, k, hk => hk
  | n + 1, k, hk => itr_lt hR1 hC1 hR hC n _ (ld_lt hR1 hC1 hR hC hk)
theorem itr_tch (hR1 : 1 ≤ R) (hC1 : 1 ≤ C) (hR : R ≤ 8) (hC : C ≤ 8) : ∀ n k, ¬ A (210 + k) = -1 → ¬ A (210 + itr (ld A R C) n k) = -1
  | 0, k, hk => hk
  | n + 1, k, hk => itr_tch hR1 hC1 hR hC n _ (ld_tch hR1 hC1 hR hC hk)
theorem itr_str (hR1 : 1 ≤ R) (hC1 : 1 ≤ C) (hR : R ≤ 8) (hC : C ≤ 8) : ∀ n k, itr (ld A R C) n k = k ∨ str A (itr (ld A R C) n k) k
  | 0, k => Or.inl rfl
  | n + 1, k => by
    show itr (ld A R C) n (ld A R C k) = k ∨ str A (itr (ld A R C) n (ld A R C k)) k
    rcases ld_or (A := A) (k := k) hR1 hC1 hR hC with q | ⟨q1, q2, q3⟩
    · rw [q, itr_fix q]
      exact Or.inl rfl
    · rcases itr_str hR1 hC1 hR hC n (ld A R C k) with z | z
      · rw [z]
        exact Or.inr q3
      · exact Or.inr (str_tr z q3)
theorem top_self (hR1 : 1 ≤ R) (hC1 : 1 ≤ C) (hR : R ≤ 8) (hC : C ≤ 8) {k : Nat} (h : top A R C k = k) : ld A R C k = k := by
  rcases ld_or (A := A) (k := k) hR1 hC1 hR hC with q | ⟨q1, q2, q3⟩
  · exact q
  · exfalso
    have h' : itr (ld A R C) 63 (ld A R C k) = k := h
    rcases itr_str (A := A) hR1 hC1 hR hC 63 (ld A R C k) with z | z
    · rw [h'] at z
      rw [← z] at q3
      exact str_ir q3
    · rw [h'] at z
      exact str_as z q3
end TOP2
theorem str_congr {A B : Nat → Int32} (h : ∀ k, k < 64 → A (146 + k) = B (146 + k)) {a b : Nat} (ha : a < 64) (hb : b < 64) : str A a b ↔ str B a b := by
  unfold str
  rw [h a ha, h b hb]
