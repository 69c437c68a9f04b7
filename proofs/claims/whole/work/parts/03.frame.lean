/-! THE ABSTRACT MACHINE. Cells have numbers (places in 'lay'), ad gives the address of each; M holds what is in them: M.1 cell place (ints), M.2 cell (the one long of a cell).
A method is a table pg : pc ↦ what the instruction there asks (Tx); V pg Q pc al st M: the table, from pc with locals al and stack st, comes to an end with Q. -/
abbrev Mm : Type := (Nat → Nat → Int32) × (Nat → Int64)
abbrev Qt : Type := Option Value → Mm → Prop
abbrev Kt : Type := Nat → List Value → List Value → Mm → Prop
abbrev Tx : Type := Qt → Kt → Kt
abbrev Sh : Type := (Nat × Nat) ⊕ (Nat × List Nat)
abbrev Gt : Type := Launch × va_G × (Nat → Nat) × ClassId × ClassId × Nat
abbrev Mi : Type := String × ByteArray × Nat × Option FieldType × List Cond × Room
def laySc (b : Nat) : List Sh := [.inr (4, [b + 3, b + 4, b + 9, b + 11, 0, 0, 0]), .inl (0, 4), .inr (1, [0, 0, b + 5, b + 6, b + 7, b + 8, 0, 0, 0]), .inl (0, 64), .inl (0, 64), .inl (0, 64), .inl (0, 64), .inr (0, [b + 10, 0, 0]), .inl (0, 6), .inr (5, [b + 12, b + 13, b + 14, b + 15, b + 16, 0, 0, 0, 0]), .inl (0, 6), .inl (0, 6), .inl (0, 6), .inl (0, 6), .inl (0, 6)]
/-- 0 the panel; 1 now, 16 image 0, 31 image 1 (fifteen cells each: scene, bounds, grid, raw, ground, signal, peak, contacts, peaks, tracks, name, peak, age, missed, moved); 46 pairing, 47 ways, 48 least, 49 chosen; 50 lots; 51 the model, 52 now, 53 costs, 54 pairs, 55 isKept, 56 kept -/
def lay : List Sh := [.inr (6, [3, 18, 33, 48, 52, 0])] ++ laySc 1 ++ laySc 16 ++ laySc 31 ++ [.inr (3, [49, 50, 51, 0, 0, 0, 0, 0]), .inl (0, 36), .inl (0, 448), .inl (0, 6), .inr (2, [1]), .inr (7, [54, 55, 56, 1, 57, 58]), .inl (0, 316), .inl (0, 448), .inl (0, 6), .inl (1, 2), .inl (0, 632)]
def cv (ad : Nat → Nat) : Value → Value
  | .ref i => .ref (ad i)
  | v => v
def fv (ad : Nat → Nat) (M : Mm) (i k : Nat) : Nat → Value
  | 0 => .int (M.1 i k)
  | 1 => .long (M.2 i)
  | j + 2 => .ref (ad j)
def mkE (ad : Nat → Nat) (cI cZ : ClassId) (M : Mm) (i : Nat) : Sh → va_E
  | .inl (0, n) => .inl (cI, n, .inl (M.1 i))
  | .inl (_ + 1, n) => .inl (cZ, n, .inl (M.1 i))
  | .inr (ci, ks) => .inr (ci, ks.mapIdx (fun k q => fv ad M i k q))
def wd (ad : Nat → Nat) (cI cZ : ClassId) (M : Mm) : va_W := lay.mapIdx (fun i sh => (ad i, mkE ad cI cZ M i sh))
def setI (M : Mm) (a k : Nat) (x : Int32) : Mm := (fun i => if i = a then upd (M.1 i) k x else M.1 i, M.2)
def setL (M : Mm) (a : Nat) (x : Int64) : Mm := (M.1, fun i => if i = a then x else M.2 i)
def setA (M : Mm) (a : Nat) (f : Nat → Int32) : Mm := (fun i => if i = a then f else M.1 i, M.2)
/-- what a field is: 0 an int, 1 a long, j + 2 the cell j -/
def fldAt (a ci k : Nat) : Option Nat := match lay[a]? with
  | some (.inr (c, ks)) => if c = ci then ks[k]? else none
  | _ => none
def arrAt (a : Nat) : Option (Nat × Nat) := match lay[a]? with
  | some (.inl x) => some x
  | _ => none
def isObj (a ci : Nat) : Prop := ∃ ks, lay[a]? = some (.inr (ci, ks))
theorem cv_cat (ad : Nat → Nat) (v : Value) : (cv ad v).category = v.category := by cases v <;> rfl
theorem fld_spec {a ci k q : Nat} (h : fldAt a ci k = some q) : ∃ ks : List Nat, lay[a]? = some (.inr (ci, ks)) ∧ ks[k]? = some q := by
  unfold fldAt at h
  split at h
  · rename_i c ks hl
    split at h
    · rename_i hc
      subst hc
      exact ⟨ks, hl, h⟩
    · cases h
  · cases h
theorem arr_spec {a : Nat} {x : Nat × Nat} (h : arrAt a = some x) : lay[a]? = some (.inl x) := by
  unfold arrAt at h
  split at h
  · rename_i y hl
    rw [hl, Option.some.inj h]
  · cases h
section WD
variable {ad : Nat → Nat} {cI cZ : ClassId} {M : Mm}
theorem wd_at {i : Nat} {sh : Sh} (h : lay[i]? = some sh) : (wd ad cI cZ M)[i]? = some (ad i, mkE ad cI cZ M i sh) := by
  simp only [wd, List.getElem?_mapIdx, h, Option.map_some]
theorem wd_set {M' : Mm} {a : Nat} {sh : Sh} (h : lay[a]? = some sh) (ho : ∀ i, i ≠ a → M'.1 i = M.1 i ∧ M'.2 i = M.2 i) : (wd ad cI cZ M).set a (ad a, mkE ad cI cZ M' a sh) = wd ad cI cZ M' := by
  apply List.ext_getElem?
  intro i
  rw [List.getElem?_set]
  by_cases hi : a = i
  · subst hi
    have hlt : a < (wd ad cI cZ M).length := by
      have := (List.getElem?_eq_some_iff.mp h).1
      simpa [wd] using this
    rw [if_pos rfl, if_pos hlt, wd_at h]
  · rw [if_neg hi]
    simp only [wd, List.getElem?_mapIdx]
    cases hl : lay[i]? with
    | none => rfl
    | some s2 =>
      obtain ⟨h1, h2⟩ := ho i (fun e => hi e.symm)
      have e1 : mkE ad cI cZ M i s2 = mkE ad cI cZ M' i s2 := by
        rcases s2 with ⟨q, n⟩ | ⟨ci, ks⟩
        · cases q with
          | zero => simp [mkE, h1]
          | succ q => simp [mkE, h1]
        · simp only [mkE]
          congr 2
          apply List.ext_getElem?
          intro j
          simp only [List.getElem?_mapIdx]
          cases ks[j]? with
          | none => rfl
          | some q =>
            cases q with
            | zero => simp [fv, h1]
            | succ q => cases q with
              | zero => simp [fv, h2]
              | succ q => simp [fv]
      simp [e1]
theorem setI_o {a k : Nat} {x : Int32} : ∀ i, i ≠ a → (setI M a k x).1 i = M.1 i ∧ (setI M a k x).2 i = M.2 i := fun i h => by simp [setI, h]
theorem setL_o {a : Nat} {x : Int64} : ∀ i, i ≠ a → (setL M a x).1 i = M.1 i ∧ (setL M a x).2 i = M.2 i := fun i h => by simp [setL, h]
theorem setA_o {a : Nat} {f : Nat → Int32} : ∀ i, i ≠ a → (setA M a f).1 i = M.1 i ∧ (setA M a f).2 i = M.2 i := fun i h => by simp [setA, h]
theorem fs_setI {a k0 : Nat} {x : Int32} {ks : List Nat} (h : ks[k0]? = some 0) : (ks.mapIdx (fun k q => fv ad M a k q)).set k0 (.int x) = ks.mapIdx (fun k q => fv ad (setI M a k0 x) a k q) := by
  apply List.ext_getElem?
  intro j
  rw [List.getElem?_set]
  by_cases hj : k0 = j
  · subst hj
    have hlt := (List.getElem?_eq_some_iff.mp h).1
    rw [if_pos rfl, if_pos (by simpa using hlt)]
    simp [h, fv, setI, upd]
  · rw [if_neg hj]
    simp only [List.getElem?_mapIdx]
    cases ks[j]? with
    | none => rfl
    | some q =>
      cases q with
      | zero =>
        have hj' : ¬ j = k0 := fun e => hj e.symm
        simp [fv, setI, upd, hj']
      | succ q => cases q with
        | zero => simp [fv, setI]
        | succ q => simp [fv]
theorem fs_setL {a k0 : Nat} {x : Int64} {ks : List Nat} (h : ks[k0]? = some 1) (hu : ∀ j, ks[j]? = some 1 → j = k0) : (ks.mapIdx (fun k q => fv ad M a k q)).set k0 (.long x) = ks.mapIdx (fun k q => fv ad (setL M a x) a k q) := by
  apply List.ext_getElem?
  intro j
  rw [List.getElem?_set]
  by_cases hj : k0 = j
  · subst hj
    have hlt := (List.getElem?_eq_some_iff.mp h).1
    rw [if_pos rfl, if_pos (by simpa using hlt)]
    simp [h, fv, setL]
  · rw [if_neg hj]
    simp only [List.getElem?_mapIdx]
    cases hk : ks[j]? with
    | none => rfl
    | some q =>
      cases q with
      | zero => simp [fv, setL]
      | succ q => cases q with
        | zero => exact absurd (hu j hk).symm hj
        | succ q => simp [fv]
end WD
/-! the locals -/
def LR (ad : Nat → Nat) (ls : Array Slot) (nL : Nat) (al : List Value) : Prop := ls.size = nL ∧ lv_wf ls ∧ ∀ (i : Nat) (v : Value), al[i]? = some v → v = .null ∨ ls[i]? = some (.val (cv ad v))
def prevOk (al : List Value) : Nat → Prop
  | 0 => True
  | k + 1 => match al[k]? with
    | some (.long _) => False
    | some (.double _) => False
    | _ => True
def ascL (ad : Nat → Nat) (al : List Value) : List (Nat × Value) := (al.mapIdx (fun j v => (j, v))).filterMap (fun q => if q.2 = .null then none else some (q.1, cv ad q.2))
section LRS
variable {ad : Nat → Nat} {ls : Array Slot} {nL : Nat} {al : List Value}
theorem LR.get (h : LR ad ls nL al) {i : Nat} {v : Value} (hi : al[i]? = some v) (hn : v ≠ .null) : ls[i]? = some (.val (cv ad v)) := (h.2.2 i v hi).resolve_left hn
theorem asc_mem {q : Nat × Value} : q ∈ ascL ad al ↔ ∃ v, al[q.1]? = some v ∧ v ≠ .null ∧ q.2 = cv ad v := by
  obtain ⟨i, w⟩ := q
  simp only [ascL, List.mem_filterMap, List.mem_mapIdx, Prod.exists]
  constructor
  · rintro ⟨a, b, ⟨j, hj, e⟩, hs⟩
    cases e
    split at hs
    · cases hs
    · rename_i hne
      cases hs
      exact ⟨_, List.getElem?_eq_getElem hj, hne, rfl⟩
  · rintro ⟨v, hv, hne, rfl⟩
    obtain ⟨hl, e⟩ := List.getElem?_eq_some_iff.mp hv
    exact ⟨i, v, ⟨i, hl, by rw [e]⟩, by simp [hne]⟩
theorem LR.has (h : LR ad ls nL al) : lv_has ls nL (ascL ad al) := by
  refine ⟨h.1, h.2.1, fun q hq => ?_⟩
  obtain ⟨v, h1, h2, h3⟩ := asc_mem.mp hq
  rw [h3]
  exact h.get h1 h2
theorem LR.st1 {i : Nat} {v : Value} {ls' : Array Slot} (hc : v.category = 1) (hp : prevOk al i) (h' : lv_has ls' nL ((i, cv ad v) :: (ascL ad al).filter (fun q => !(q.1 == i) && !(q.1 + 1 == i && q.2.category == 2)))) : LR ad ls' nL (al.set i v) := by
  refine ⟨h'.1, h'.2.1, fun j w hw => ?_⟩
  rw [List.getElem?_set] at hw
  by_cases hj : i = j
  · subst hj
    rw [if_pos rfl] at hw
    split at hw
    · cases hw
      exact Or.inr (h'.2.2 _ List.mem_cons_self)
    · cases hw
  · rw [if_neg hj] at hw
    by_cases hn : w = .null
    · exact Or.inl hn
    · refine Or.inr (h'.2.2 (j, cv ad w) (List.mem_cons_of_mem _ (List.mem_filter.mpr ⟨asc_mem.mpr ⟨w, hw, hn, rfl⟩, ?_⟩)))
      have h1 : (j == i) = false := by simp; exact fun e => hj e.symm
      have h2 : ¬ (j + 1 = i ∧ (cv ad w).category = 2) := by
        rintro ⟨rfl, hcat⟩
        simp only [prevOk, hw] at hp
        rw [cv_cat] at hcat
        cases w <;> simp [Value.category] at hcat hp
      simp only [h1, Bool.not_false, Bool.true_and, Bool.not_eq_true', Bool.and_eq_false_iff]
      by_cases h3 : j + 1 = i
      · right
        simp
        exact fun e => h2 ⟨h3, e⟩
      · left
        simp [h3]
theorem LR.st2 {i : Nat} {v : Value} {ls' : Array Slot} (hc : v.category = 2) (hp : prevOk al i) (h' : lv_has ls' nL ((i, cv ad v) :: (ascL ad al).filter (fun q => !(q.1 == i) && (!(q.1 == i + 1) && !(q.1 + 1 == i && q.2.category == 2))))) : LR ad ls' nL ((al.set i v).set (i + 1) .null) := by
  refine ⟨h'.1, h'.2.1, fun j w hw => ?_⟩
  rw [List.getElem?_set] at hw
  by_cases hk : i + 1 = j
  · subst hk
    rw [if_pos rfl] at hw
    split at hw
    · cases hw
      exact Or.inl rfl
    · cases hw
  · rw [if_neg hk, List.getElem?_set] at hw
    by_cases hj : i = j
    · subst hj
      rw [if_pos rfl] at hw
      split at hw
      · cases hw
        exact Or.inr (h'.2.2 _ List.mem_cons_self)
      · cases hw
    · rw [if_neg hj] at hw
      by_cases hn : w = .null
      · exact Or.inl hn
      · refine Or.inr (h'.2.2 (j, cv ad w) (List.mem_cons_of_mem _ (List.mem_filter.mpr ⟨asc_mem.mpr ⟨w, hw, hn, rfl⟩, ?_⟩)))
        have h1 : (j == i) = false := by simp; exact fun e => hj e.symm
        have h1' : (j == i + 1) = false := by simp; exact fun e => hk e.symm
        have h2 : ¬ (j + 1 = i ∧ (cv ad w).category = 2) := by
          rintro ⟨rfl, hcat⟩
          simp only [prevOk, hw] at hp
          rw [cv_cat] at hcat
          cases w <;> simp [Value.category] at hcat hp
        simp only [h1, h1', Bool.not_false, Bool.true_and, Bool.not_eq_true', Bool.and_eq_false_iff]
        by_cases h3 : j + 1 = i
        · right
          simp
          exact fun e => h2 ⟨h3, e⟩
        · left
          simp [h3]
end LRS
