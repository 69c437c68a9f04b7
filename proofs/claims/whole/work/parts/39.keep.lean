/-! ranges after a FRAME -/
theorem grd_ok {x g : Nat} (hx : x ≤ 15984) (hg : g ≤ 15984) : ∃ y, y ≤ 15984 ∧ nI g + (nI x - nI g) / 16 = nI y := by
  rcases Nat.le_total g x with h | h
  · refine ⟨g + (x - g) / 16, by omega, ?_⟩
    rw [pk_sub h, show nI (x - g) / 16 = nI ((x - g) / 16) from pk_div (d := 16) (by omega) (by omega) (by omega), nI_add]
  · refine ⟨g - (g - x) / 16, by omega, ?_⟩
    apply Int32.toInt_inj.mp
    have d : ((nI x - nI g) / 16 : Int32).toInt = -(((g - x) / 16 : Nat) : Int) := by
      rw [Int32.toInt_div_of_ne_right _ _ (by decide), pk_sub_toInt (by omega) (by omega), show (16 : Int32).toInt = 16 by decide]
      have e : (x : Int) - (g : Int) = -((g - x : Nat) : Int) := by omega
      rw [e, Int.neg_tdiv, Int.tdiv_eq_ediv_of_nonneg (by omega)]
      omega
    rw [Int32.toInt_add, d, nI_toInt (by omega), nI_toInt (by omega), Int.bmod_eq_of_le (by omega) (by omega)]
    omega
section KEEP
variable {N : Nat → Int32} {R C c t T P D L s : Nat}
theorem rd_k (h64 : R * C ≤ 64) {j : Nat} (h1 : j ≠ 15) (h2 : j ≠ 16) (h : j < 82 ∨ 274 ≤ j) : rdN N R C s T (R * C) j = N j := rdN_low _ _ h1 h2 (fun q hq => by omega)
theorem rd_hi {j k : Nat} (h64 : R * C ≤ 64) (hk : R * C ≤ k) (hk' : k < 64) (h : j = 82 + k ∨ j = 146 + k ∨ j = 210 + k) : rdN N R C s T (R * C) j = N j := rdN_low _ _ (by omega) (by omega) (fun q hq => by omega)
theorem gd_sg (g : Gd N R C c t T P D L) {k : Nat} (hk : k < R * C) (h : tcP N R C s T k) : ∃ x, 16 ≤ x ∧ x ≤ 15984 ∧ sgF N R C s k = nI x := by
  obtain ⟨⟨⟨r1, r2⟩, ⟨c1, c2⟩, -, -⟩, ⟨⟨t1, t2⟩, -⟩, -, -, -, -, -, hraw, hgr, -⟩ := id g
  have h64 := rc_le r2 c2
  obtain ⟨u, v⟩ := h
  unfold sgF at v ⊢
  cases hx : rdF N R C s k with
  | none => rw [hx] at u; cases u
  | some x =>
    rw [hx] at v
    simp only at v ⊢
    have xl := rdF_le g hk hx
    obtain ⟨y, y1, y2⟩ := hgr k (by omega)
    rw [y2] at v ⊢
    have b : (16 * T : Nat) ≤ (x : Int) - y := by
      have := Int32.not_lt.mp v
      have := Int32.le_iff_toInt_le.mp this
      rw [nI_toInt (by omega), pk_sub_toInt (by omega) (by omega)] at this
      exact this
    exact ⟨x - y, by omega, by omega, pk_sub (by omega)⟩
theorem gd_rd_g (g : Gd N R C c t T P D L) {k : Nat} (hk : k < 64) : ∃ x, x ≤ 15984 ∧ rdN N R C s T (R * C) (82 + k) = nI x := by
  obtain ⟨⟨⟨r1, r2⟩, ⟨c1, c2⟩, -, -⟩, -, -, -, -, -, -, hraw, hgr, -⟩ := id g
  have h64 := rc_le r2 c2
  by_cases z : k < R * C
  · rw [rdN_gr _ k z h64]
    by_cases y : ¬ tcP N R C s T k ∧ ¬ s.testBit (k / C) = true
    · rw [if_pos y]
      obtain ⟨gg, g1, g2⟩ := hgr k hk
      have hx := rdF_0 (N := N) (R := R) y.2
      have xl := rdF_le g z hx
      unfold sgF
      rw [hx, g2]
      exact grd_ok xl g1
    · rw [if_neg y]
      exact hgr k hk
  · rw [rd_hi h64 (by omega) hk (Or.inl rfl)]
    exact hgr k hk
theorem gd_rd_p (g : Gd N R C c t T P D L) {k : Nat} (hk : k < 64) : rdN N R C s T (R * C) (210 + k) = -1 ∨ (k < R * C ∧ ∃ x, 16 ≤ x ∧ x ≤ 15984 ∧ rdN N R C s T (R * C) (146 + k) = nI x) := by
  obtain ⟨⟨⟨r1, r2⟩, ⟨c1, c2⟩, -, -⟩, -, -, -, -, -, -, hraw, hgr, hpk, -⟩ := id g
  have h64 := rc_le r2 c2
  by_cases z : k < R * C
  · rw [rdN_pk _ k z h64, rdN_sig _ k z h64]
    by_cases y : tcP N R C s T k
    · exact Or.inr ⟨z, gd_sg g z y⟩
    · rw [if_neg y]
      exact Or.inl rfl
  · rw [rd_hi h64 (by omega) hk (Or.inr (Or.inr rfl))]
    rcases hpk k hk with u | u
    · exact Or.inl u
    · exact absurd u.1 z
noncomputable def con3 (N : Nat → Int32) (R C T P s : Nat) : Nat → Int32 := conR (pkN (rdN N R C s T (R * C)) R C (R * C)) (R * C) P
noncomputable def con3c (N : Nat → Int32) (R C T P s : Nat) : Nat := cF (pkN (rdN N R C s T (R * C)) R C (R * C)) (cdP (pkN (rdN N R C s T (R * C)) R C (R * C)) (R * C) P) (R * C)
/-- the row with its CONTACTS keeps the ranges -/
theorem gd_con (g : Gd N R C c t T P D L) : Gd (con3 N R C T P s) R C (con3c N R C T P s) t T P D L := by
  obtain ⟨⟨⟨r1, r2⟩, ⟨c1, c2⟩, hcc, htt⟩, hb, ⟨n0, n1, n2, n3, n4, n5, n8, n10⟩, hF, hSt, hs, hw, hraw, hgr, hpk, hcon, htr⟩ := id g
  have h64 := rc_le r2 c2
  have tp := TpF (pkN (rdN N R C s T (R * C)) R C (R * C)) (cdP (pkN (rdN N R C s T (R * C)) R C (R * C)) (R * C) P) (R * C)
  have c6 : con3c N R C T P s ≤ 6 := tp.1
  have hi : ∀ j, 280 ≤ j → con3 N R C T P s j = N j := fun j hj => by
    unfold con3 conR rw3
    rw [if_neg (by omega), if_neg (by omega), if_neg (by unfold con3c at c6; omega), pkN_lo (by omega), rd_k h64 (by omega) (by omega) (by omega)]
  have lo : ∀ j, j ≠ 8 → j ≠ 9 → j < 274 → con3 N R C T P s j = pkN (rdN N R C s T (R * C)) R C (R * C) j := fun j a b d => rw3_lo a b d
  have l2 : ∀ j, j ≠ 8 → j ≠ 9 → j ≠ 15 → j ≠ 16 → j < 82 → con3 N R C T P s j = N j := fun j a b d e f => by
    rw [lo j a b (by omega), pkN_lo (by omega), rd_k h64 d e (by omega)]
  have at8 : con3 N R C T P s 8 = nI (con3c N R C T P s) := by
    unfold con3 conR rw3
    rw [if_pos rfl]
    rfl
  have pk : ∀ k, k < 64 → con3 N R C T P s (210 + k) = -1 ∨ (k < R * C ∧ (∃ p, p < R * C ∧ con3 N R C T P s (210 + k) = nI p) ∧ ∃ x, 16 ≤ x ∧ x ≤ 15984 ∧ con3 N R C T P s (146 + k) = nI x) := by
    intro k hk
    rw [lo (210 + k) (by omega) (by omega) (by omega), lo (146 + k) (by omega) (by omega) (by omega), pkN_lo (j := 146 + k) (by omega)]
    rcases gd_rd_p (s := s) g hk with u | u
    · left
      unfold pkN
      rw [if_neg (fun z => z.2 u)]
      exact u
    · by_cases y : rdN N R C s T (R * C) (210 + k) = -1
      · left
        unfold pkN
        rw [if_neg (fun z => z.2 y)]
        exact y
      · refine Or.inr ⟨u.1, ⟨top (rdN N R C s T (R * C)) R C k, top_lt (by omega) (by omega) r2 c2 u.1, ?_⟩, u.2⟩
        unfold pkN
        rw [if_pos ⟨by omega, y⟩, show 210 + k - 210 = k by omega]
  refine ⟨⟨⟨r1, r2⟩, ⟨c1, c2⟩, c6, htt⟩, hb, ⟨by rw [l2 0 (by omega) (by omega) (by omega) (by omega) (by omega)]; exact n0, by rw [l2 1 (by omega) (by omega) (by omega) (by omega) (by omega)]; exact n1, by rw [l2 2 (by omega) (by omega) (by omega) (by omega) (by omega)]; exact n2, by rw [l2 3 (by omega) (by omega) (by omega) (by omega) (by omega)]; exact n3, by rw [l2 4 (by omega) (by omega) (by omega) (by omega) (by omega)]; exact n4, by rw [l2 5 (by omega) (by omega) (by omega) (by omega) (by omega)]; exact n5, at8, by rw [l2 10 (by omega) (by omega) (by omega) (by omega) (by omega)]; exact n10⟩, ?_, by rw [l2 7 (by omega) (by omega) (by omega) (by omega) (by omega)]; exact hSt, by rw [l2 14 (by omega) (by omega) (by omega) (by omega) (by omega)]; exact hs, by rw [l2 17 (by omega) (by omega) (by omega) (by omega) (by omega)]; exact hw, fun k hk => ?_, fun k hk => ?_, pk, fun i hi' => ?_, fun j hj => ?_⟩
  · obtain ⟨F, f1, f2, x, f3, f4, y, f5, f6⟩ := hF
    exact ⟨F, f1, by rw [l2 6 (by omega) (by omega) (by omega) (by omega) (by omega)]; exact f2, x, f3, by rw [l2 13 (by omega) (by omega) (by omega) (by omega) (by omega)]; exact f4, y, fun i hi' => by rw [hi _ (by omega)]; exact f5 i hi', f6⟩
  · rw [l2 (18 + k) (by omega) (by omega) (by omega) (by omega) (by omega)]
    exact hraw k hk
  · rw [lo (82 + k) (by omega) (by omega) (by omega), pkN_lo (by omega)]
    exact gd_rd_g g hk
  · obtain ⟨a, b⟩ := tp.2.1 i hi'
    refine ⟨_, a, ?_, ?_⟩
    · unfold con3 conR rw3
      rw [if_neg (by omega), if_neg (by omega), if_pos (by unfold con3c at hi'; omega), show 274 + i - 274 = i by omega]
    · have bl := rc_le r2 c2
      rw [lo _ (by omega) (by omega) (by omega)]
      exact b.1
  · rw [hi _ (by omega)]
    exact htr j hj
end KEEP
/-- names and peaks of the TRACKS -/
def nmP (B : Nat → Int32) (n x R C : Nat) : Prop := (∃ y : Nat → Nat, (∀ i, i < n → B (280 + 6 * i) = nI (y i) ∧ y i < x) ∧ ∀ i j, i < j → j < n → y i < y j) ∧ ∀ j, j < n → ∃ p, p < R * C ∧ B (281 + 6 * j) = nI p
theorem fwU_nm {B : Nat → Int32} {t j : Nat} {o : Option Nat} {w : Nat → Nat} : fwU B t o w (280 + 6 * j) = B (280 + 6 * j) := by
  unfold fwU
  cases o with
  | none => simp only; rw [if_neg (by omega)]
  | some c => simp only; rw [if_neg (by omega), if_neg (by omega), if_neg (by omega), if_neg (by omega)]
theorem fwU_pk {B : Nat → Int32} {t j R C : Nat} {o : Option Nat} {w : Nat → Nat} (h : ∃ p, p < R * C ∧ B (281 + 6 * j) = nI p) (ho : ∀ c, o = some c → ∃ p, p < R * C ∧ B (274 + c) = nI p) : ∃ p, p < R * C ∧ fwU B t o w (281 + 6 * j) = nI p := by
  unfold fwU
  cases o with
  | none => simp only; rw [if_neg (by omega)]; exact h
  | some c =>
    simp only
    by_cases e : j = t
    · rw [if_pos (by omega)]
      exact ho c rfl
    · rw [if_neg (by omega), if_neg (by omega), if_neg (by omega), if_neg (by omega)]
      exact h
theorem fwd_nm {A : Nat → Int32} {ch : Nat → Option Nat} {w : Nat → Nat → Nat} {L : Int32} {n x R C : Nat} {y : Nat → Nat} (hy : ∀ i, i < n → A (280 + 6 * i) = nI (y i) ∧ y i < x) (hi : ∀ i j, i < j → j < n → y i < y j) (hp : ∀ j, j < n → ∃ p, p < R * C ∧ A (281 + 6 * j) = nI p) (ho : ∀ t c, ch t = some c → c < 6 ∧ ∃ p, p < R * C ∧ A (274 + c) = nI p) : ∀ t, t ≤ n → (∃ y' : Nat → Nat, (∀ j, j < (fwd A ch w L t).2 → (fwd A ch w L t).1 (280 + 6 * j) = nI (y' j) ∧ y' j < x ∧ ∀ i, t ≤ i → i < n → y' j < y i) ∧ ∀ i j, i < j → j < (fwd A ch w L t).2 → y' i < y' j) ∧ ∀ j, j < (fwd A ch w L t).2 → ∃ p, p < R * C ∧ (fwd A ch w L t).1 (281 + 6 * j) = nI p
  | 0, _ => ⟨⟨fun _ => 0, fun j h => absurd h (Nat.not_lt_zero _), fun i j _ h => absurd h (Nat.not_lt_zero _)⟩, fun j h => absurd h (Nat.not_lt_zero _)⟩
  | t + 1, ht => by
    obtain ⟨⟨y', y1, y2⟩, p1⟩ := fwd_nm (w := w) (L := L) hy hi hp ho t (by omega)
    have ok := fwd_ok (A := A) (ch := ch) (w := w) (L := L) t
    have hU0 : ∀ j, fwU (fwd A ch w L t).1 t (ch t) (w t) (280 + 6 * j) = (fwd A ch w L t).1 (280 + 6 * j) := fun j => fwU_nm
    have hUt : (fwd A ch w L t).1 (280 + 6 * t) = nI (y t) := by
      have := ok.2.2 t 0 (Nat.le_refl _) (by omega)
      rw [Nat.add_zero] at this
      rw [this]
      exact (hy t (by omega)).1
    have hUp : ∀ j, (∃ p, p < R * C ∧ (fwd A ch w L t).1 (281 + 6 * j) = nI p) → ∃ p, p < R * C ∧ fwU (fwd A ch w L t).1 t (ch t) (w t) (281 + 6 * j) = nI p := fun j h => fwU_pk h (fun c hc => by
      obtain ⟨a, p, b, d⟩ := ho t c hc
      exact ⟨p, b, by rw [ok.2.1 (274 + c) (by omega) (by omega) (by omega)]; exact d⟩)
    have ht1 : ∃ p, p < R * C ∧ (fwd A ch w L t).1 (281 + 6 * t) = nI p := by
      obtain ⟨p, b, d⟩ := hp t (by omega)
      have := ok.2.2 t 1 (Nat.le_refl _) (by omega)
      rw [show 280 + 6 * t + 1 = 281 + 6 * t by omega] at this
      exact ⟨p, b, by rw [this]; exact d⟩
    unfold fwd fwS
    by_cases z : fwU (fwd A ch w L t).1 t (ch t) (w t) (280 + 6 * t + 3) ≤ L
    · rw [if_pos z]
      generalize hl : (fwd A ch w L t).2 = l at *
      have ol := ok.1
      refine ⟨⟨fun j => if j < l then y' j else y t, fun j hj => ?_, fun i j h1 h2 => ?_⟩, fun j hj => ?_⟩
      · simp only at hj ⊢
        by_cases e : j < l
        · rw [if_pos e]
          obtain ⟨a, b, d⟩ := y1 j e
          refine ⟨?_, b, fun i h1 h2 => d i (by omega) h2⟩
          unfold mvR
          rw [if_neg (by omega), hU0]
          exact a
        · rw [if_neg e]
          have : j = l := by omega
          subst this
          refine ⟨?_, (hy t (by omega)).2, fun i h1 h2 => hi t i (by omega) h2⟩
          unfold mvR
          rw [if_pos (by omega), Nat.sub_self, Nat.add_zero, hU0]
          exact hUt
      · simp only at h2 ⊢
        rw [if_pos (by omega)]
        by_cases e : j < l
        · rw [if_pos e]
          exact y2 i j h1 e
        · rw [if_neg e]
          exact (y1 i (by omega)).2.2 t (Nat.le_refl _) (by omega)
      · simp only at hj ⊢
        by_cases e : j < l
        · obtain ⟨p, b, d⟩ := hUp j (p1 j e)
          refine ⟨p, b, ?_⟩
          unfold mvR
          rw [if_neg (by omega)]
          exact d
        · have : j = l := by omega
          subst this
          obtain ⟨p, b, d⟩ := hUp t ht1
          refine ⟨p, b, ?_⟩
          unfold mvR
          rw [if_pos (by omega), show 280 + 6 * t + (281 + 6 * j - (280 + 6 * j)) = 281 + 6 * t by omega]
          exact d
    · rw [if_neg z]
      refine ⟨⟨y', fun j hj => ?_, y2⟩, fun j hj => ?_⟩
      · obtain ⟨a, b, d⟩ := y1 j hj
        refine ⟨?_, b, fun i h1 h2 => d i (by omega) h2⟩
        simp only
        rw [enR_k (by omega) (by omega), hU0]
        exact a
      · obtain ⟨p, b, d⟩ := hUp j (p1 j hj)
        refine ⟨p, b, ?_⟩
        simp only
        rw [enR_k (by omega) (by omega)]
        exact d
theorem bgn_nm {B : Nat → Int32} {n s x R C m : Nat} (hn : n ≤ 6) (h10 : B 10 = nI n) (h13 : B 13 = nI x) (h : nmP B n x R C) (hc : ∀ k, k < m → ∃ p, p < R * C ∧ B (274 + k) = nI p) : ∀ c, c ≤ m → c ≤ 6 → ∃ x', x' ≤ x + c ∧ (bgn B n s c).1 13 = nI x' ∧ nmP (bgn B n s c).1 (bgn B n s c).2 x' R C
  | 0, _, _ => ⟨x, Nat.le_refl _, h13, h⟩
  | c + 1, hcm, hc6 => by
    obtain ⟨x', x1, x2, ⟨y, y1, y2⟩, p1⟩ := bgn_nm (s := s) (m := m) hn h10 h13 h hc c (by omega) (by omega)
    have ok := bgn_ok (s := s) hn h10 c
    unfold bgn
    by_cases z : bt s c = false ∧ (bgn B n s c).2 < 6
    · rw [if_pos z]
      generalize hl : (bgn B n s c).2 = l at *
      generalize hA : (bgn B n s c).1 = A at *
      refine ⟨x' + 1, by omega, ?_, ⟨fun j => if j < l then y j else x', fun i hi => ?_, fun i j h1 h2 => ?_⟩, fun j hj => ?_⟩
      · simp only [bgU]
        rw [if_neg (by omega), if_neg (by omega), if_neg (by omega), if_neg (by omega), if_neg (by omega), if_pos trivial, x2, nI_1]
      · simp only at hi ⊢
        by_cases e : i < l
        · rw [if_pos e]
          obtain ⟨a, b⟩ := y1 i e
          refine ⟨?_, by omega⟩
          unfold bgU
          rw [if_neg (by omega), if_neg (by omega), if_neg (by omega), if_neg (by omega), if_neg (by omega), if_neg (by omega), if_neg (by omega)]
          exact a
        · rw [if_neg e]
          have : i = l := by omega
          subst this
          refine ⟨?_, by omega⟩
          unfold bgU
          rw [if_pos rfl]
          exact x2
      · simp only at h2 ⊢
        rw [if_pos (by omega)]
        by_cases e : j < l
        · rw [if_pos e]
          exact y2 i j h1 e
        · rw [if_neg e]
          exact (y1 i (by omega)).2
      · simp only at hj ⊢
        by_cases e : j < l
        · obtain ⟨p, b, d⟩ := p1 j e
          refine ⟨p, b, ?_⟩
          unfold bgU
          rw [if_neg (by omega), if_neg (by omega), if_neg (by omega), if_neg (by omega), if_neg (by omega), if_neg (by omega), if_neg (by omega)]
          exact d
        · have : j = l := by omega
          subst this
          obtain ⟨p, b, d⟩ := hc c (by omega)
          refine ⟨p, b, ?_⟩
          unfold bgU
          rw [if_neg (by omega), if_pos (by omega), ok.2.2.2 (274 + c) (by omega) (by omega) (by omega)]
          exact d
    · rw [if_neg z]
      exact ⟨x', by omega, x2, ⟨y, y1, y2⟩, p1⟩
