/-! TRACKS go on, end and begin: the model's row -/
def fwU (B : Nat → Int32) (t : Nat) (o : Option Nat) (w : Nat → Nat) (k : Nat) : Int32 := match o with
  | none => if k = 280 + 6 * t + 3 then B k + 1 else B k
  | some c => if k = 280 + 6 * t + 1 then B (274 + c) else if k = 280 + 6 * t + 2 then B k + 1 else if k = 280 + 6 * t + 3 then 0 else if k = 280 + 6 * t + 4 then B k + nI (w c) else B k
def mvR (U : Nat → Int32) (l t n k : Nat) : Int32 := if 280 + 6 * l ≤ k ∧ k < 280 + 6 * l + n then U (280 + 6 * t + (k - (280 + 6 * l))) else U k
def enR (U : Nat → Int32) (t : Nat) : Nat → Int32 := if ¬ (3 < U (280 + 6 * t + 2)) ∧ ¬ (1 < U (280 + 6 * t + 4)) then upd U 11 (U 11 + 1) else upd U 12 (U 12 + 1)
def fwS (B : Nat → Int32) (l t : Nat) (o : Option Nat) (w : Nat → Nat) (L : Int32) : (Nat → Int32) × Nat := if fwU B t o w (280 + 6 * t + 3) ≤ L then (mvR (fwU B t o w) l t 5, l + 1) else (enR (fwU B t o w) t, l)
def fwd (A : Nat → Int32) (ch : Nat → Option Nat) (w : Nat → Nat → Nat) (L : Int32) : Nat → (Nat → Int32) × Nat
  | 0 => (A, 0)
  | t + 1 => fwS (fwd A ch w L t).1 (fwd A ch w L t).2 t (ch t) (w t) L
def bgU (B : Nat → Int32) (n c k : Nat) : Int32 := if k = 280 + 6 * n then B 13 else if k = 280 + 6 * n + 1 then B (274 + c) else if k = 280 + 6 * n + 2 then 1 else if k = 280 + 6 * n + 3 then 0 else if k = 280 + 6 * n + 4 then 0 else if k = 13 then B 13 + 1 else if k = 10 then nI (n + 1) else B k
def bgn (B : Nat → Int32) (n s : Nat) : Nat → (Nat → Int32) × Nat
  | 0 => (B, n)
  | c + 1 => if bt s c = false ∧ (bgn B n s c).2 < 6 then (bgU (bgn B n s c).1 (bgn B n s c).2 c, (bgn B n s c).2 + 1) else bgn B n s c
/-- the row once TRACKS have gone on, ended and begun -/
def folR (A : Nat → Int32) (ch : Nat → Option Nat) (w : Nat → Nat → Nat) (L : Int32) (n m s : Nat) : (Nat → Int32) × Nat := bgn (upd (fwd A ch w L n).1 10 (nI (fwd A ch w L n).2)) (fwd A ch w L n).2 s m
theorem fwU_lo {B : Nat → Int32} {t k : Nat} {o : Option Nat} {w : Nat → Nat} (h : k < 280) : fwU B t o w k = B k := by
  unfold fwU
  cases o with
  | none => simp only; rw [if_neg (by omega)]
  | some c => simp only; rw [if_neg (by omega), if_neg (by omega), if_neg (by omega), if_neg (by omega)]
theorem fwU_ne {B : Nat → Int32} {t j q : Nat} {o : Option Nat} {w : Nat → Nat} (h : j ≠ t) (hq : q < 6) : fwU B t o w (280 + 6 * j + q) = B (280 + 6 * j + q) := by
  unfold fwU
  cases o with
  | none => simp only; rw [if_neg (by omega)]
  | some c => simp only; rw [if_neg (by omega), if_neg (by omega), if_neg (by omega), if_neg (by omega)]
theorem fwU_cg {A B : Nat → Int32} {t : Nat} {o : Option Nat} {w : Nat → Nat} (hc : ∀ k, 274 ≤ k → k < 280 → A k = B k) (h : ∀ q, q < 6 → A (280 + 6 * t + q) = B (280 + 6 * t + q)) (ho : ∀ c, o = some c → c < 6) : ∀ q, q < 6 → fwU A t o w (280 + 6 * t + q) = fwU B t o w (280 + 6 * t + q) := by
  intro q hq
  unfold fwU
  cases o with
  | none => simp only; rw [h q hq]
  | some c =>
    have := ho c rfl
    simp only
    rw [h q hq, hc (274 + c) (by omega) (by omega)]
theorem mvR_s {U : Nat → Int32} {l t q : Nat} (hq : q < 5) : upd (mvR U l t q) (280 + 6 * l + q) (mvR U l t q (280 + 6 * t + q)) = mvR U l t (q + 1) := by
  have e : mvR U l t q (280 + 6 * t + q) = U (280 + 6 * t + q) := by
    unfold mvR
    rw [if_neg (by omega)]
  rw [e]
  funext k
  unfold upd
  by_cases h : k = 280 + 6 * l + q
  · subst h
    unfold mvR
    rw [if_pos rfl, if_pos (by omega)]
    congr 1
    omega
  · rw [if_neg h]
    unfold mvR
    by_cases z : 280 + 6 * l ≤ k ∧ k < 280 + 6 * l + q
    · rw [if_pos z, if_pos (by omega)]
    · rw [if_neg z, if_neg (by omega)]
theorem mvR_0 {U : Nat → Int32} {l t : Nat} : mvR U l t 0 = U := by
  funext k
  unfold mvR
  rw [if_neg (by omega)]
theorem enR_k {U : Nat → Int32} {t k : Nat} (h1 : k ≠ 11) (h2 : k ≠ 12) : enR U t k = U k := by
  unfold enR
  split
  · exact upd_ne h1
  · exact upd_ne h2
/-- what stays so while TRACKS go on and end -/
theorem fwd_ok {A : Nat → Int32} {ch : Nat → Option Nat} {w : Nat → Nat → Nat} {L : Int32} : ∀ t, (fwd A ch w L t).2 ≤ t ∧ (∀ k, k < 280 → k ≠ 11 → k ≠ 12 → (fwd A ch w L t).1 k = A k) ∧ ∀ j q, t ≤ j → q < 6 → (fwd A ch w L t).1 (280 + 6 * j + q) = A (280 + 6 * j + q)
  | 0 => ⟨Nat.le_refl _, fun _ _ _ _ => rfl, fun _ _ _ _ => rfl⟩
  | t + 1 => by
    obtain ⟨h1, h2, h3⟩ := fwd_ok (A := A) (ch := ch) (w := w) (L := L) t
    unfold fwd fwS
    by_cases z : fwU (fwd A ch w L t).1 t (ch t) (w t) (280 + 6 * t + 3) ≤ L
    · rw [if_pos z]
      refine ⟨by simp only; omega, fun k hk a b => ?_, fun j q hj hq => ?_⟩
      · simp only [mvR]
        rw [if_neg (by omega), fwU_lo hk]
        exact h2 k hk a b
      · simp only [mvR]
        rw [if_neg (by omega), fwU_ne (by omega) hq]
        exact h3 j q (by omega) hq
    · rw [if_neg z]
      refine ⟨by simp only; omega, fun k hk a b => ?_, fun j q hj hq => ?_⟩
      · simp only
        rw [enR_k a b, fwU_lo hk]
        exact h2 k hk a b
      · simp only
        rw [enR_k (by omega) (by omega), fwU_ne (by omega) hq]
        exact h3 j q (by omega) hq
theorem bgU_k {B : Nat → Int32} {n c k : Nat} (hk : k < 280) (h1 : k ≠ 13) (h2 : k ≠ 10) : bgU B n c k = B k := by
  unfold bgU
  rw [if_neg (by omega), if_neg (by omega), if_neg (by omega), if_neg (by omega), if_neg (by omega), if_neg h1, if_neg h2]
theorem bgU_10 {B : Nat → Int32} {n c : Nat} : bgU B n c 10 = nI (n + 1) := by
  unfold bgU
  rw [if_neg (by omega), if_neg (by omega), if_neg (by omega), if_neg (by omega), if_neg (by omega), if_neg (by omega), if_pos rfl]
theorem bgn_ok {B : Nat → Int32} {n s : Nat} (hn : n ≤ 6) (h10 : B 10 = nI n) : ∀ c, (bgn B n s c).2 ≤ 6 ∧ n ≤ (bgn B n s c).2 ∧ (bgn B n s c).1 10 = nI (bgn B n s c).2 ∧ ∀ k, k < 280 → k ≠ 13 → k ≠ 10 → (bgn B n s c).1 k = B k
  | 0 => ⟨hn, Nat.le_refl _, h10, fun _ _ _ _ => rfl⟩
  | c + 1 => by
    obtain ⟨h1, h2, h3, h4⟩ := bgn_ok (s := s) hn h10 c
    unfold bgn
    by_cases z : bt s c = false ∧ (bgn B n s c).2 < 6
    · rw [if_pos z]
      have := z.2
      refine ⟨by simp only; omega, by simp only; omega, bgU_10, fun k a b d => ?_⟩
      simp only
      rw [bgU_k a b d]
      exact h4 k a b d
    · rw [if_neg z]
      exact ⟨h1, h2, h3, h4⟩
