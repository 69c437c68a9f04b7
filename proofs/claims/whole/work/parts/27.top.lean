/-! the six STRONGEST -/
def Tp (B : Nat → Int32) (cd : Nat → Prop) (n c : Nat) (f : Nat → Nat) : Prop := c ≤ 6 ∧ (∀ j, j < c → f j < n ∧ cd (f j)) ∧ (∀ i j, i < j → j < c → str B (f i) (f j)) ∧ ∀ y, y < n → cd y → (∃ j, j < c ∧ f j = y) ∨ (c = 6 ∧ str B (f 5) y)
def insX (f : Nat → Nat) (p x : Nat) : Nat → Nat := fun j => if j < p then f j else if j = p then x else f (j - 1)
theorem Tp.zero (B : Nat → Int32) (cd : Nat → Prop) (f : Nat → Nat) : Tp B cd 0 0 f := ⟨by omega, fun j h => by omega, fun i j h1 h2 => by omega, fun y h => by omega⟩
theorem Tp.skip {B : Nat → Int32} {cd : Nat → Prop} {n c : Nat} {f : Nat → Nat} (h : Tp B cd n c f) (hn : ¬ cd n) : Tp B cd (n + 1) c f := by
  obtain ⟨h1, h2, h3, h4⟩ := h
  refine ⟨h1, fun j hj => ⟨by have := (h2 j hj).1; omega, (h2 j hj).2⟩, h3, fun y hy hc => h4 y ?_ hc⟩
  have : y ≠ n := fun e => hn (e ▸ hc)
  omega
theorem Tp.full {B : Nat → Int32} {cd : Nat → Prop} {n c : Nat} {f : Nat → Nat} (h : Tp B cd n c f) (hp : 6 ≤ c) (hw : ∀ j, j < 6 → str B (f j) n) : Tp B cd (n + 1) c f := by
  obtain ⟨h1, h2, h3, h4⟩ := h
  refine ⟨h1, fun j hj => ⟨by have := (h2 j hj).1; omega, (h2 j hj).2⟩, h3, fun y hy hc => ?_⟩
  by_cases e : y = n
  · subst e
    exact Or.inr ⟨by omega, hw 5 (by omega)⟩
  · exact h4 y (by omega) hc
theorem Tp.insert_ {B : Nat → Int32} {cd : Nat → Prop} {n c p : Nat} {f : Nat → Nat} (h : Tp B cd n c f) (hn : cd n) (hpc : p ≤ c) (hp : p < 6) (hw : ∀ j, j < p → str B (f j) n) (hs : ∀ j, p ≤ j → j < c → str B n (f j)) : Tp B cd (n + 1) (min 6 (c + 1)) (insX f p n) := by
  obtain ⟨h1, h2, h3, h4⟩ := h
  have iL : ∀ j, j < p → insX f p n j = f j := fun j hj => by simp [insX, hj]
  have iE : insX f p n p = n := by simp [insX]
  have iR : ∀ j, p < j → insX f p n j = f (j - 1) := fun j hj => by
    simp only [insX]
    rw [if_neg (by omega), if_neg (by omega)]
  have hm : min 6 (c + 1) ≤ 6 ∧ min 6 (c + 1) ≤ c + 1 := ⟨Nat.min_le_left _ _, Nat.min_le_right _ _⟩
  have hm2 : min 6 (c + 1) = 6 ∨ min 6 (c + 1) = c + 1 := by omega
  refine ⟨by omega, fun j hj => ?_, fun i j hij hj => ?_, fun y hy hc => ?_⟩
  · rcases Nat.lt_trichotomy j p with q | q | q
    · rw [iL j q]
      have := h2 j (by omega)
      exact ⟨by omega, this.2⟩
    · rw [q, iE]
      exact ⟨by omega, hn⟩
    · rw [iR j q]
      have := h2 (j - 1) (by omega)
      exact ⟨by omega, this.2⟩
  · rcases Nat.lt_trichotomy i p with q | q | q
    · rw [iL i q]
      rcases Nat.lt_trichotomy j p with z | z | z
      · rw [iL j z]
        exact h3 i j hij (by omega)
      · rw [z, iE]
        exact hw i q
      · rw [iR j z]
        exact h3 i (j - 1) (by omega) (by omega)
    · rw [q, iE, iR j (by omega)]
      exact hs (j - 1) (by omega) (by omega)
    · rw [iR i q, iR j (by omega)]
      exact h3 (i - 1) (j - 1) (by omega) (by omega)
  · by_cases e : y = n
    · subst e
      exact Or.inl ⟨p, by omega, iE⟩
    · have last : c = 6 → str B (insX f p n 5) (f 5) := by
        intro hc6
        rcases Nat.lt_trichotomy 5 p with q | q | q
        · omega
        · rw [← q]
          have : insX f 5 n 5 = n := by simp [insX]
          rw [this]
          exact hs 5 (by omega) (by omega)
        · rw [iR 5 q]
          exact h3 4 5 (by omega) (by omega)
      rcases h4 y (by omega) hc with ⟨j, hj, rfl⟩ | ⟨hc6, hy6⟩
      · by_cases hjp : j < p
        · exact Or.inl ⟨j, by omega, iL j hjp⟩
        · by_cases hj1 : j + 1 < min 6 (c + 1)
          · exact Or.inl ⟨j + 1, hj1, by rw [iR (j + 1) (by omega)]; rfl⟩
          · have hj5 : j = 5 := by omega
            subst hj5
            exact Or.inr ⟨by omega, last (by omega)⟩
      · exact Or.inr ⟨by omega, str_tr (last hc6) hy6⟩
/-- where a new one goes -/
theorem Tp.place {B : Nat → Int32} {cd : Nat → Prop} {n c : Nat} {f : Nat → Nat} (h : Tp B cd n c f) : ∀ q, q ≤ c → (∀ j, q ≤ j → j < c → str B n (f j)) → ∃ p, p ≤ c ∧ (∀ j, j < p → str B (f j) n) ∧ ∀ j, p ≤ j → j < c → str B n (f j)
  | 0, _, hs => ⟨0, by omega, fun j hj => by omega, hs⟩
  | q + 1, hq, hs => by
    by_cases z : str B n (f q)
    · refine Tp.place h q (by omega) (fun j h1 h2 => ?_)
      by_cases e : j = q
      · rw [e]
        exact z
      · exact hs j (by omega) h2
    · have hq' : str B (f q) n := by
        have := (h.2.1 q (by omega)).1
        rcases str_tot (A := B) (show f q ≠ n by omega) with y | y
        · exact y
        · exact absurd y z
      refine ⟨q + 1, hq, fun j hj => ?_, hs⟩
      by_cases e : j = q
      · rw [e]
        exact hq'
      · exact str_tr (h.2.2.1 j q (by omega) (by omega)) hq'
theorem Tp.ex (B : Nat → Int32) (cd : Nat → Prop) : ∀ n, ∃ c f, Tp B cd n c f
  | 0 => ⟨0, fun _ => 0, Tp.zero B cd _⟩
  | n + 1 => by
    obtain ⟨c, f, h⟩ := Tp.ex B cd n
    by_cases hn : cd n
    · obtain ⟨p, p1, p2, p3⟩ := h.place c (Nat.le_refl c) (fun j h1 h2 => by omega)
      by_cases hp : p < 6
      · exact ⟨_, _, h.insert_ hn p1 hp p2 p3⟩
      · have := h.1
        exact ⟨c, f, h.full (by omega) (fun j hj => p2 j (by omega))⟩
    · exact ⟨c, f, h.skip hn⟩
theorem Tp.inj {B : Nat → Int32} {cd : Nat → Prop} {n c : Nat} {f : Nat → Nat} (h : Tp B cd n c f) {i j : Nat} (hi : i < c) (hj : j < c) (e : f i = f j) : i = j := by
  apply Classical.byContradiction
  intro z
  rcases Nat.lt_or_gt_of_ne z with q | q
  · have := h.2.2.1 i j q hj
    rw [e] at this
    exact str_ir this
  · have := h.2.2.1 j i q hi
    rw [e] at this
    exact str_ir this
theorem Tp.half {B : Nat → Int32} {cd : Nat → Prop} {n c c' : Nat} {f f' : Nat → Nat} (h : Tp B cd n c f) (h' : Tp B cd n c' f') {j : Nat} (hj : j < c) (hj' : j < c') (ih : ∀ i, i < j → f i = f' i) (hs : str B (f j) (f' j)) : False := by
  rcases h'.2.2.2 (f j) (h.2.1 j hj).1 (h.2.1 j hj).2 with ⟨i, hi, e⟩ | ⟨c6, e⟩
  · rcases Nat.lt_trichotomy i j with q | q | q
    · have := ih i q
      have := h.inj (i := i) (j := j) (by omega) hj (by rw [this, e])
      omega
    · rw [q] at e
      rw [e] at hs
      exact str_ir hs
    · have := h'.2.2.1 j i q hi
      rw [e] at this
      exact str_as this hs
  · by_cases j5 : j = 5
    · rw [← j5] at e
      exact str_as e hs
    · have := h'.2.2.1 j 5 (by omega) (by omega)
      exact str_as (str_tr this e) hs
theorem Tp.uq {B : Nat → Int32} {cd : Nat → Prop} {n c c' : Nat} {f f' : Nat → Nat} (h : Tp B cd n c f) (h' : Tp B cd n c' f') : ∀ m j, j < m → j < c → j < c' → f j = f' j
  | 0, j, hm, _, _ => by omega
  | m + 1, j, hm, hj, hj' => by
    have ih : ∀ i, i < j → f i = f' i := fun i hi => Tp.uq h h' m i (by omega) (by omega) (by omega)
    apply Classical.byContradiction
    intro z
    rcases str_tot (A := B) z with q | q
    · exact h.half h' hj hj' ih q
    · exact h'.half h hj' hj (fun i hi => (ih i hi).symm) q
theorem Tp.uc {B : Nat → Int32} {cd : Nat → Prop} {n c c' : Nat} {f f' : Nat → Nat} (h : Tp B cd n c f) (h' : Tp B cd n c' f') : c = c' := by
  have go : ∀ {c c' : Nat} {f f' : Nat → Nat}, Tp B cd n c f → Tp B cd n c' f' → ¬ c < c' := by
    intro c c' f f' h h' hlt
    rcases h.2.2.2 (f' c) (h'.2.1 c hlt).1 (h'.2.1 c hlt).2 with ⟨i, hi, e⟩ | ⟨c6, -⟩
    · have := Tp.uq h h' (i + 1) i (by omega) hi (by omega)
      have := h'.inj (i := i) (j := c) (by omega) hlt (by rw [← this, e])
      omega
    · have := h'.1
      omega
  have a := go h h'
  have b := go h' h
  omega
noncomputable def cF (B : Nat → Int32) (cd : Nat → Prop) (n : Nat) : Nat := Classical.choose (Tp.ex B cd n)
noncomputable def fF (B : Nat → Int32) (cd : Nat → Prop) (n : Nat) : Nat → Nat := Classical.choose (Classical.choose_spec (Tp.ex B cd n))
theorem TpF (B : Nat → Int32) (cd : Nat → Prop) (n : Nat) : Tp B cd n (cF B cd n) (fF B cd n) := Classical.choose_spec (Classical.choose_spec (Tp.ex B cd n))
/-- which may be a CONTACT -/
def cdP (B : Nat → Int32) (n P k : Nat) : Prop := B (210 + k) = nI k ∧ ar (fun j => B (210 + j)) (nI k) n ≤ P
def pmP (B : Nat → Int32) (n P k : Nat) : Prop := B (210 + k) = nI k ∧ P < ar (fun j => B (210 + j)) (nI k) n
/-- the row with its CONTACTS -/
noncomputable def rw3 (B : Nat → Int32) (c : Nat) (f : Nat → Nat) (pm : Nat) : Nat → Int32 := fun j => if j = 8 then nI c else if j = 9 then nI pm else if 274 ≤ j ∧ j < 274 + c then nI (f (j - 274)) else B j
noncomputable def conR (B : Nat → Int32) (n P : Nat) : Nat → Int32 := rw3 B (cF B (cdP B n P) n) (fF B (cdP B n P) n) (cnp (pmP B n P) n)
theorem rw3_congr {B : Nat → Int32} {c pm : Nat} {f f' : Nat → Nat} (h : ∀ j, j < c → f j = f' j) : rw3 B c f pm = rw3 B c f' pm := by
  funext j
  simp only [rw3]
  by_cases h1 : 274 ≤ j ∧ j < 274 + c
  · rw [if_pos h1, if_pos h1, h (j - 274) (by omega)]
  · rw [if_neg h1, if_neg h1]
theorem conR_of {B : Nat → Int32} {n P c : Nat} {f : Nat → Nat} (h : Tp B (cdP B n P) n c f) : rw3 B c f (cnp (pmP B n P) n) = conR B n P := by
  have hF := TpF B (cdP B n P) n
  have hc := h.uc hF
  unfold conR
  rw [← hc] at hF ⊢
  exact rw3_congr (fun j hj => h.uq hF c j hj hj hj)
