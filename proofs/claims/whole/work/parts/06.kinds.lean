section TXM
variable {G : Gt} {mi : Mi} {pc : Nat}
def fldR (a ci k : Nat) : Nat := match fldAt a ci k with
  | some (j + 2) => j
  | _ => 0
def hasR (a ci k : Nat) : Prop := ∃ j, fldAt a ci k = some (j + 2)
theorem hasR.eq {a ci k : Nat} (h : hasR a ci k) : fldAt a ci k = some (fldR a ci k + 2) := by
  obtain ⟨j, hj⟩ := h
  simp [fldR, hj]
/-- what the tables must say of a field -/
def okF (mi : Mi) (ci k idx : Nat) : Prop := ∃ (C : String) (T : u_T) (N : Nat), vwCl[ci]? = some (C, T, N) ∧ k < N ∧ (∀ w ∈ u_ws C T N, w ∈ mi.2.2.2.2.1) ∧ Cond.fieldLink mi.1 idx (T k).1 (T k).2.1 (T k).2.2.1 ∈ mi.2.2.2.2.1
def okP (mi : Mi) (ci k idx : Nat) (ty : FieldType) : Prop := ∃ (C : String) (T : u_T) (N : Nat) (ty0 : Nat → FieldType), vwCl[ci]? = some (C, T, N) ∧ k < N ∧ (∀ w ∈ u_ws C T N, w ∈ mi.2.2.2.2.1) ∧ Cond.fieldLink mi.1 idx (T k).1 (T k).2.1 (T k).2.2.1 ∈ mi.2.2.2.2.1 ∧ (∀ k, k < N → parseFieldDescriptor (T k).2.2.1 = some (ty0 k)) ∧ (∀ a, a < N → ∀ b, b < N → a ≠ b → (T a).2.1 ≠ (T b).2.1) ∧ (T k).2.2.2 = false ∧ ty0 k = ty
def tGetI (ci k : Nat) : Tx := fun _ P pc al st M => match st with
  | .ref a :: st' => fldAt a ci k = some 0 ∧ P (pc + 3) al (.int (M.1 a k) :: st') M
  | _ => False
theorem mGetI {ci k : Nat} : mono (tGetI ci k) := by
  intro Q P P' h pc al st M ht
  unfold tGetI at ht ⊢
  split at ht
  · exact ⟨ht.1, h _ _ _ _ ht.2⟩
  · exact ht.elim
theorem ok_getI {ci k idx : Nat} (hdg : decode mi.2.1 pc = .ok (.getfield idx, 3)) (hF : okF mi ci k idx) : okT G mi pc (tGetI ci k) := by
  intro Q P hP al st M ht p e s m args below meth c H locs ls hf hr hlk hC hW hS hL
  unfold tGetI at ht
  split at ht
  · rename_i a st'
    obtain ⟨C, T, N, hc, hk, hin, hl⟩ := hF
    obtain ⟨ks, h1, h2⟩ := fld_spec (ht.1)
    exact va_get (ci := ci) (C := C) (T := T) (N := N) hf.1 hf.2.1 hf.2.2.2.2 hin hf.2.2.2.1 hC.1 hW.1 a (wd_at h1) hc k hk (hf.2.2.2.2 _ hl) (fun _ h9 => h9) (by simp only [List.getElem?_mapIdx, h2]; rfl) hdg (hP _ _ _ _ ht.2 p e s m args below meth c H locs ls hf hr hlk hC hW hS hL)
  · exact ht.elim
def tGetL (ci k : Nat) : Tx := fun _ P pc al st M => match st with
  | .ref a :: st' => fldAt a ci k = some 1 ∧ P (pc + 3) al (.long (M.2 a) :: st') M
  | _ => False
theorem mGetL {ci k : Nat} : mono (tGetL ci k) := by
  intro Q P P' h pc al st M ht
  unfold tGetL at ht ⊢
  split at ht
  · exact ⟨ht.1, h _ _ _ _ ht.2⟩
  · exact ht.elim
theorem ok_getL {ci k idx : Nat} (hdg : decode mi.2.1 pc = .ok (.getfield idx, 3)) (hF : okF mi ci k idx) : okT G mi pc (tGetL ci k) := by
  intro Q P hP al st M ht p e s m args below meth c H locs ls hf hr hlk hC hW hS hL
  unfold tGetL at ht
  split at ht
  · rename_i a st'
    obtain ⟨C, T, N, hc, hk, hin, hl⟩ := hF
    obtain ⟨ks, h1, h2⟩ := fld_spec (ht.1)
    exact va_get (ci := ci) (C := C) (T := T) (N := N) hf.1 hf.2.1 hf.2.2.2.2 hin hf.2.2.2.1 hC.1 hW.1 a (wd_at h1) hc k hk (hf.2.2.2.2 _ hl) (fun _ h9 => h9) (by simp only [List.getElem?_mapIdx, h2]; rfl) hdg (hP _ _ _ _ ht.2 p e s m args below meth c H locs ls hf hr hlk hC hW hS hL)
  · exact ht.elim
def tGetR (ci k : Nat) : Tx := fun _ P pc al st M => match st with
  | .ref a :: st' => hasR a ci k ∧ P (pc + 3) al (.ref (fldR a ci k) :: st') M
  | _ => False
theorem mGetR {ci k : Nat} : mono (tGetR ci k) := by
  intro Q P P' h pc al st M ht
  unfold tGetR at ht ⊢
  split at ht
  · exact ⟨ht.1, h _ _ _ _ ht.2⟩
  · exact ht.elim
theorem ok_getR {ci k idx : Nat} (hdg : decode mi.2.1 pc = .ok (.getfield idx, 3)) (hF : okF mi ci k idx) : okT G mi pc (tGetR ci k) := by
  intro Q P hP al st M ht p e s m args below meth c H locs ls hf hr hlk hC hW hS hL
  unfold tGetR at ht
  split at ht
  · rename_i a st'
    obtain ⟨C, T, N, hc, hk, hin, hl⟩ := hF
    obtain ⟨ks, h1, h2⟩ := fld_spec (ht.1.eq)
    exact va_get (ci := ci) (C := C) (T := T) (N := N) hf.1 hf.2.1 hf.2.2.2.2 hin hf.2.2.2.1 hC.1 hW.1 a (wd_at h1) hc k hk (hf.2.2.2.2 _ hl) (fun _ h9 => h9) (by simp only [List.getElem?_mapIdx, h2]; rfl) hdg (hP _ _ _ _ ht.2 p e s m args below meth c H locs ls hf hr hlk hC hW hS hL)
  · exact ht.elim
def tPutI (ci k : Nat) : Tx := fun _ P pc al st M => match st with
  | .int x :: .ref a :: st' => fldAt a ci k = some 0 ∧ P (pc + 3) al st' (setI M a k x)
  | _ => False
theorem mPutI {ci k : Nat} : mono (tPutI ci k) := by
  intro Q P P' h pc al st M ht
  unfold tPutI at ht ⊢
  split at ht
  · exact ⟨ht.1, h _ _ _ _ ht.2⟩
  · exact ht.elim
theorem ok_putI {ci k idx : Nat} (hdg : decode mi.2.1 pc = .ok (.putfield idx, 3)) (hF : okP mi ci k idx .int) : okT G mi pc (tPutI ci k) := by
  intro Q P hP al st M ht p e s m args below meth c H locs ls hf hr hlk hC hW hS hL
  unfold tPutI at ht
  split at ht
  · rename_i x a st'
    obtain ⟨C, T, N, ty0, hc, hk, hin, hl, hty, hnm, hfin, hti⟩ := hF
    obtain ⟨ks, h1, h2⟩ := fld_spec ht.1
    refine va_put (ci := ci) (C := C) (T := T) (N := N) (ty := .int) (v := .int x) hf.1 hf.2.1 hf.2.2.2.2 hin ty0 hty hnm hf.2.2.2.1 hC.1 hW.1 hW.2 hS a (wd_at h1) hc k hk (hf.2.2.2.2 _ hl) (fun _ h9 => h9) hfin (by rw [hty k hk, hti]) rfl rfl (by simpa using (List.getElem?_eq_some_iff.mp h2).1) hdg (fun H1 locs1 hP1 hD1 hS1 => ?_)
    rw [fs_setI h2] at hP1 hD1
    have hw := wd_set (ad := G.2.2.1) (cI := G.2.2.2.1) (cZ := G.2.2.2.2.1) (M := M) (M' := setI M a k x) h1 setI_o
    simp only [mkE] at hw
    rw [hw] at hP1 hD1
    exact hP _ _ _ _ ht.2 p e s m args below meth c H1 locs1 ls hf hr hlk hC ⟨hP1, hD1⟩ hS1 hL
  · exact ht.elim
def tPutL (ci k : Nat) : Tx := fun _ P pc al st M => match st with
  | .long x :: .ref a :: st' => (fldAt a ci k = some 1 ∧ ∀ j, fldAt a ci j = some 1 → j = k) ∧ P (pc + 3) al st' (setL M a x)
  | _ => False
theorem mPutL {ci k : Nat} : mono (tPutL ci k) := by
  intro Q P P' h pc al st M ht
  unfold tPutL at ht ⊢
  split at ht
  · exact ⟨ht.1, h _ _ _ _ ht.2⟩
  · exact ht.elim
theorem ok_putL {ci k idx : Nat} (hdg : decode mi.2.1 pc = .ok (.putfield idx, 3)) (hF : okP mi ci k idx .long) : okT G mi pc (tPutL ci k) := by
  intro Q P hP al st M ht p e s m args below meth c H locs ls hf hr hlk hC hW hS hL
  unfold tPutL at ht
  split at ht
  · rename_i x a st'
    obtain ⟨C, T, N, ty0, hc, hk, hin, hl, hty, hnm, hfin, hti⟩ := hF
    obtain ⟨ks, h1, h2⟩ := fld_spec ht.1.1
    have hu : ∀ j, ks[j]? = some 1 → j = k := fun j hj => ht.1.2 j (by simp [fldAt, h1, hj])
    refine va_put (ci := ci) (C := C) (T := T) (N := N) (ty := .long) (v := .long x) hf.1 hf.2.1 hf.2.2.2.2 hin ty0 hty hnm hf.2.2.2.1 hC.1 hW.1 hW.2 hS a (wd_at h1) hc k hk (hf.2.2.2.2 _ hl) (fun _ h9 => h9) hfin (by rw [hty k hk, hti]) rfl rfl (by simpa using (List.getElem?_eq_some_iff.mp h2).1) hdg (fun H1 locs1 hP1 hD1 hS1 => ?_)
    rw [fs_setL h2 hu] at hP1 hD1
    have hw := wd_set (ad := G.2.2.1) (cI := G.2.2.2.1) (cZ := G.2.2.2.2.1) (M := M) (M' := setL M a x) h1 setL_o
    simp only [mkE] at hw
    rw [hw] at hP1 hD1
    exact hP _ _ _ _ ht.2 p e s m args below meth c H1 locs1 ls hf hr hlk hC ⟨hP1, hD1⟩ hS1 hL
  · exact ht.elim
def tIald : Tx := fun _ P pc al st M => match st with
  | .int i :: .ref a :: st' => ∃ n, arrAt a = some (0, n) ∧ vp_in i n ∧ P (pc + 1) al (.int (M.1 a i.toNatClampNeg) :: st') M
  | _ => False
theorem mIald : mono tIald := by
  intro Q P P' h pc al st M ht
  unfold tIald at ht ⊢
  split at ht
  · obtain ⟨n, h1, h2, h3⟩ := ht
    exact ⟨n, h1, h2, h _ _ _ _ h3⟩
  · exact ht.elim
theorem ok_iald (hdg : decode mi.2.1 pc = .ok (.iaload, 1)) : okT G mi pc tIald := by
  intro Q P hP al st M ht p e s m args below meth c H locs ls hf hr hlk hC hW hS hL
  unfold tIald at ht
  split at ht
  · rename_i i a st'
    obtain ⟨n, h1, h2, h3⟩ := ht
    exact va_iald (t0 := 0) hf.1 hf.2.1 hC.1 hW.1 a (wd_at (arr_spec h1)) rfl h2 hdg (hP _ _ _ _ h3 p e s m args below meth c H locs ls hf hr hlk hC hW hS hL)
  · exact ht.elim
def tIast : Tx := fun _ P pc al st M => match st with
  | .int x :: .int i :: .ref a :: st' => ∃ n, arrAt a = some (0, n) ∧ vp_in i n ∧ P (pc + 1) al st' (setI M a i.toNatClampNeg x)
  | _ => False
theorem mIast : mono tIast := by
  intro Q P P' h pc al st M ht
  unfold tIast at ht ⊢
  split at ht
  · obtain ⟨n, h1, h2, h3⟩ := ht
    exact ⟨n, h1, h2, h _ _ _ _ h3⟩
  · exact ht.elim
theorem ok_iast (hdg : decode mi.2.1 pc = .ok (.iastore, 1)) : okT G mi pc tIast := by
  intro Q P hP al st M ht p e s m args below meth c H locs ls hf hr hlk hC hW hS hL
  unfold tIast at ht
  split at ht
  · rename_i x i a st'
    obtain ⟨n, h1, h2, h3⟩ := ht
    refine va_iast (t0 := 0) hf.1 hf.2.1 hC.1 hW.1 hW.2 hS a (wd_at (arr_spec h1)) rfl h2 hdg (fun H1 locs1 hP1 hD1 hS1 => ?_)
    have hw := wd_set (ad := G.2.2.1) (cI := G.2.2.2.1) (cZ := G.2.2.2.2.1) (M := M) (M' := setI M a i.toNatClampNeg x) (arr_spec h1) setI_o
    simp only [mkE, setI, if_true] at hw
    rw [hw] at hP1 hD1
    exact hP _ _ _ _ h3 p e s m args below meth c H1 locs1 ls hf hr hlk hC ⟨hP1, hD1⟩ hS1 hL
  · exact ht.elim
def tZald : Tx := fun _ P pc al st M => match st with
  | .int i :: .ref a :: st' => ∃ n, arrAt a = some (1, n) ∧ vp_in i n ∧ P (pc + 1) al (.int (M.1 a i.toNatClampNeg) :: st') M
  | _ => False
theorem mZald : mono tZald := by
  intro Q P P' h pc al st M ht
  unfold tZald at ht ⊢
  split at ht
  · obtain ⟨n, h1, h2, h3⟩ := ht
    exact ⟨n, h1, h2, h _ _ _ _ h3⟩
  · exact ht.elim
theorem ok_zald (hdg : decode mi.2.1 pc = .ok (.baload, 1)) : okT G mi pc tZald := by
  intro Q P hP al st M ht p e s m args below meth c H locs ls hf hr hlk hC hW hS hL
  unfold tZald at ht
  split at ht
  · rename_i i a st'
    obtain ⟨n, h1, h2, h3⟩ := ht
    exact va_zald (t0 := 1) hf.1 hf.2.1 hC.1 hW.1 a (wd_at (arr_spec h1)) rfl h2 hdg (hP _ _ _ _ h3 p e s m args below meth c H locs ls hf hr hlk hC hW hS hL)
  · exact ht.elim
def tZast : Tx := fun _ P pc al st M => match st with
  | .int x :: .int i :: .ref a :: st' => ∃ n, arrAt a = some (1, n) ∧ vp_in i n ∧ P (pc + 1) al st' (setI M a i.toNatClampNeg (vp_nar .boolean x))
  | _ => False
theorem mZast : mono tZast := by
  intro Q P P' h pc al st M ht
  unfold tZast at ht ⊢
  split at ht
  · obtain ⟨n, h1, h2, h3⟩ := ht
    exact ⟨n, h1, h2, h _ _ _ _ h3⟩
  · exact ht.elim
theorem ok_zast (hdg : decode mi.2.1 pc = .ok (.bastore, 1)) : okT G mi pc tZast := by
  intro Q P hP al st M ht p e s m args below meth c H locs ls hf hr hlk hC hW hS hL
  unfold tZast at ht
  split at ht
  · rename_i x i a st'
    obtain ⟨n, h1, h2, h3⟩ := ht
    refine va_zast (t0 := 1) hf.1 hf.2.1 hC.1 hW.1 hW.2 hS a (wd_at (arr_spec h1)) rfl h2 hdg (fun H1 locs1 hP1 hD1 hS1 => ?_)
    have hw := wd_set (ad := G.2.2.1) (cI := G.2.2.2.1) (cZ := G.2.2.2.2.1) (M := M) (M' := setI M a i.toNatClampNeg (vp_nar .boolean x)) (arr_spec h1) setI_o
    simp only [mkE, setI, if_true] at hw
    rw [hw] at hP1 hD1
    exact hP _ _ _ _ h3 p e s m args below meth c H1 locs1 ls hf hr hlk hC ⟨hP1, hD1⟩ hS1 hL
  · exact ht.elim
/-- the array's length -/
def tAlen : Tx := fun _ P pc al st M => match st with
  | .ref a :: st' => ∃ n, arrAt a = some (0, n) ∧ P (pc + 1) al (.int (Int32.ofNat n) :: st') M
  | _ => False
theorem mAlen : mono tAlen := by
  intro Q P P' h pc al st M ht
  unfold tAlen at ht ⊢
  split at ht
  · obtain ⟨n, h1, h3⟩ := ht
    exact ⟨n, h1, h _ _ _ _ h3⟩
  · exact ht.elim
theorem ok_alen (hdg : decode mi.2.1 pc = .ok (.arraylength, 1)) : okT G mi pc tAlen := by
  intro Q P hP al st M ht p e s m args below meth c H locs ls hf hr hlk hC hW hS hL
  unfold tAlen at ht
  split at ht
  · rename_i a st'
    obtain ⟨n, h1, h3⟩ := ht
    exact va_alen (t0 := 0) hf.1 hf.2.1 hC.1 hW.1 a (wd_at (arr_spec h1)) rfl rfl hdg (hP _ _ _ _ h3 p e s m args below meth c H locs ls hf hr hlk hC hW hS hL)
  · exact ht.elim
/-- the two static arrays that are only read: cells 60 and 61 -/
def tGets (j : Nat) : Tx := fun _ P pc al st M => P (pc + 3) al (.ref j :: st) M
theorem mGets {j : Nat} : mono (tGets j) := fun _ _ _ h _ _ _ _ ht => h _ _ _ _ ht
theorem ok_gets60 {idx : Nat} (hdg : decode mi.2.1 pc = .ok (.getstatic idx, 3)) (hl : Cond.fieldLink mi.1 idx RX6 "LEAST_BOUNDS" "[I" ∈ mi.2.2.2.2.1) : okT G mi pc (tGets 60) := by
  intro Q P hP al st M ht p e s m args below meth c H locs ls hf hr hlk hC hW hS hL
  exact va_gets hf.1 hf.2.1 hC.2.2.1.1 hS hf.2.2.2.1 (hf.2.2.2.2 _ hl) (fun _ h => h) hdg (hP _ _ _ _ ht p e s m args below meth c H locs ls hf hr hlk hC hW hS hL)
theorem ok_gets61 {idx : Nat} (hdg : decode mi.2.1 pc = .ok (.getstatic idx, 3)) (hl : Cond.fieldLink mi.1 idx RX6 "MOST_BOUNDS" "[I" ∈ mi.2.2.2.2.1) : okT G mi pc (tGets 61) := by
  intro Q P hP al st M ht p e s m args below meth c H locs ls hf hr hlk hC hW hS hL
  exact va_gets hf.1 hf.2.1 hC.2.2.2.1 hS hf.2.2.2.1 (hf.2.2.2.2 _ hl) (fun _ h => h) hdg (hP _ _ _ _ ht p e s m args below meth c H locs ls hf hr hlk hC hW hS hL)
def tRld (j : Nat) : Tx := fun _ P pc al st M => match st with
  | .int i :: .ref a :: st' => a = j ∧ vp_in i 4 ∧ P (pc + 1) al (.int ((if j = 60 then lbv else mbv) i.toNatClampNeg) :: st') M
  | _ => False
theorem mRld {j : Nat} : mono (tRld j) := by
  intro Q P P' h pc al st M ht
  unfold tRld at ht ⊢
  split at ht
  · exact ⟨ht.1, ht.2.1, h _ _ _ _ ht.2.2⟩
  · exact ht.elim
theorem ok_rld60 (hdg : decode mi.2.1 pc = .ok (.iaload, 1)) : okT G mi pc (tRld 60) := by
  intro Q P hP al st M ht p e s m args below meth c H locs ls hf hr hlk hC hW hS hL
  unfold tRld at ht
  split at ht
  · rename_i i a st'
    obtain ⟨rfl, h2, h3⟩ := ht
    exact va_sld hf.1 hf.2.1 hC.2.2.1.2.1 hC.2.2.1.2.2.1 hC.2.2.1.2.2.2 hS h2 hdg (hP _ _ _ _ h3 p e s m args below meth c H locs ls hf hr hlk hC hW hS hL)
  · exact ht.elim
theorem ok_rld61 (hdg : decode mi.2.1 pc = .ok (.iaload, 1)) : okT G mi pc (tRld 61) := by
  intro Q P hP al st M ht p e s m args below meth c H locs ls hf hr hlk hC hW hS hL
  unfold tRld at ht
  split at ht
  · rename_i i a st'
    obtain ⟨rfl, h2, h3⟩ := ht
    exact va_sld hf.1 hf.2.1 hC.2.2.2.2.1 hC.2.2.2.2.2.1 hC.2.2.2.2.2.2 hS h2 hdg (hP _ _ _ _ h3 p e s m args below meth c H locs ls hf hr hlk hC hW hS hL)
  · exact ht.elim
def tIret : Tx := fun Q _ _ _ st M => match st with
  | [.int v] => Q (some (.int v)) M
  | _ => False
theorem mIret : mono tIret := fun _ _ _ _ _ _ _ _ ht => ht
theorem ok_iret (hdg : decode mi.2.1 pc = .ok (.ireturn, 1)) (hty : mi.2.2.2.1 = some .int) : okT G mi pc tIret := by
  intro Q P hP al st M ht p e s m args below meth c H locs ls hf hr hlk hC hW hS hL
  unfold tIret at ht
  split at ht
  · rename_i v
    exact W.iret (v := v) hf.1 hf.2.1 (hr.trans hty) (fun t h1 h2 => ⟨⟨some (.int v), M, rfl, ht, by rw [h1]; exact hW⟩, hS.F h1⟩) hS.2.2 hdg hlk
  · exact ht.elim
def tZret : Tx := fun Q _ _ _ st M => match st with
  | [.int v] => (v = 0 ∨ v = 1) ∧ Q (some (.int v)) M
  | _ => False
theorem mZret : mono tZret := fun _ _ _ _ _ _ _ _ ht => ht
theorem ok_zret (hdg : decode mi.2.1 pc = .ok (.ireturn, 1)) (hty : mi.2.2.2.1 = some .boolean) : okT G mi pc tZret := by
  intro Q P hP al st M ht p e s m args below meth c H locs ls hf hr hlk hC hW hS hL
  unfold tZret at ht
  split at ht
  · rename_i v
    exact W.zret (v := v) hf.1 hf.2.1 (hr.trans hty) (by rcases ht.1 with h | h <;> subst h <;> rfl) (fun t h1 h2 => ⟨⟨some (.int v), M, rfl, ht.2, by rw [h1]; exact hW⟩, hS.F h1⟩) hS.2.2 hdg hlk
  · exact ht.elim
def tLret : Tx := fun Q _ _ _ st M => match st with
  | [.long v] => Q (some (.long v)) M
  | _ => False
theorem mLret : mono tLret := fun _ _ _ _ _ _ _ _ ht => ht
theorem ok_lret (hdg : decode mi.2.1 pc = .ok (.lreturn, 1)) (hty : mi.2.2.2.1 = some .long) : okT G mi pc tLret := by
  intro Q P hP al st M ht p e s m args below meth c H locs ls hf hr hlk hC hW hS hL
  unfold tLret at ht
  split at ht
  · rename_i v
    exact W.lret (v := v) hf.1 hf.2.1 (hr.trans hty) (fun t h1 h2 => ⟨⟨some (.long v), M, rfl, ht, by rw [h1]; exact hW⟩, hS.F h1⟩) hS.2.2 hdg hlk
  · exact ht.elim
def tAret : Tx := fun Q _ _ _ st M => match st with
  | [.ref v] => Q (some (.ref v)) M
  | _ => False
theorem mAret : mono tAret := fun _ _ _ _ _ _ _ _ ht => ht
theorem ok_aret {n : String} (hdg : decode mi.2.1 pc = .ok (.areturn, 1)) (hty : mi.2.2.2.1 = some (.object n)) : okT G mi pc tAret := by
  intro Q P hP al st M ht p e s m args below meth c H locs ls hf hr hlk hC hW hS hL
  unfold tAret at ht
  split at ht
  · rename_i v
    exact W.aret (v := .ref (G.2.2.1 v)) hf.1 hf.2.1 (hr.trans hty) (Or.inl ⟨n, rfl⟩) (Or.inr ⟨_, rfl⟩) (fun t h1 h2 => ⟨⟨some (.ref v), M, rfl, ht, by rw [h1]; exact hW⟩, hS.F h1⟩) hS.2.2 hdg hlk
  · exact ht.elim
def tVret : Tx := fun Q _ _ _ st M => match st with
  | [] => Q none M
  | _ => False
theorem mVret : mono tVret := fun _ _ _ _ _ _ _ _ ht => ht
theorem ok_vret (hdg : decode mi.2.1 pc = .ok (.return_, 1)) (hty : mi.2.2.2.1 = none) : okT G mi pc tVret := by
  intro Q P hP al st M ht p e s m args below meth c H locs ls hf hr hlk hC hW hS hL
  unfold tVret at ht
  split at ht
  · exact W.vret hf.1 hf.2.1 (hr.trans hty) (fun t h1 h2 => ⟨⟨none, M, rfl, ht, by rw [h1]; exact hW⟩, hS.F h1⟩) hS.2.2 hdg hlk
  · exact ht.elim
def tNo : Tx := fun _ _ _ _ _ _ => False
theorem ok_no : okT G mi pc tNo := fun _ _ _ _ _ _ ht => ht.elim
/-- the categories on the stack below a call -/
def catS (st : List Value) : Nat := (st.map fun v => v.category).sum
theorem catS_cv (ad : Nat → Nat) (st : List Value) : ((st.map (cv ad)).map fun v => v.category).sum = catS st := by
  unfold catS
  rw [List.map_map]
  congr 1
  apply List.map_congr_left
  intro v _
  exact cv_cat ad v
theorem callQ {p : Program} {l : Launch} {e : Env} {R : Room} {s : State} {m : MethodId} {args : Array Value} {below : List Frame} {meth : Method} {c : Code} {H : Heap} {locs : List Loc} {Z : State → Prop} {pc : Nat} {ls : Array Slot} {rest st0 : List Value} {a : Array Value} {Q : Qt} {H0 : Heap}
    (hr : va_Run p l e R s m args below meth c H locs 0 0 0 0 (F0 m pc ls st0) rest (QC G Q a) (Asb G.2.2.2.2.2)) (hS : va_S (Asb G.2.2.2.2.2) H0 H locs)
    (kk : ∀ (r : Option Value) (M' : Mm) (H1 : Heap) (locs1 : List Loc), Q r M' → Wo G M' H1 → va_S (Asb G.2.2.2.2.2) H0 H1 locs1 → W p l e R s m args below meth c H1 locs1 0 0 Z (F0 m (pc + 3) ls ((r.map (cv G.2.2.1)).toList ++ rest))) : W p l e R s m args below meth c H locs 0 0 Z (F0 m pc ls st0) := by
  intro T hT X
  obtain ⟨v, st₀, t, T', L, h0, X', hL, e1, e2, ⟨⟨r, M', hv, hp, hb⟩, hz, hk⟩, st⟩ := hr T hT X
  cases hv
  rw [h0] at hz hk
  obtain ⟨t2, a1, b1⟩ := kk r M' T'.heap (locs ++ L) hp (by rw [e1]; exact hb)
    ⟨Nat.le_trans hS.1 (by rw [e1]; exact hz), fun q h1 h2 => by rw [e1, hk q (Nat.lt_of_lt_of_le h1 hS.1) h2]; exact hS.2.1 q h1 h2, fun q hq => by
      rcases List.mem_append.mp hq with h | h
      · exact hS.2.2 q h
      · exact hL q h⟩ T' rfl X'
  exact ⟨t2, st t2 a1, b1⟩
/-- a method that is called, with n arguments beside the receiver; cal: what it asks -/
def tCallV (cal : List Value → Mm → Qt → Prop) (n ci : Nat) : Tx := fun _ P pc al st M => match st.drop n with
  | .ref a :: rest => ((st.take n).length = n ∧ isObj a ci ∧ catS rest ≤ 8) ∧ cal (.ref a :: (st.take n).reverse) M (fun r M' => P (pc + 3) al (r.toList ++ rest) M')
  | _ => False
def tCallS (cal : List Value → Mm → Qt → Prop) (n : Nat) : Tx := fun _ P pc al st M => ((st.take n).length = n ∧ catS (st.drop n) ≤ 8) ∧ cal (st.take n).reverse M (fun r M' => P (pc + 3) al (r.toList ++ st.drop n) M')
def monC (cal : List Value → Mm → Qt → Prop) : Prop := ∀ av M (Q Q' : Qt), (∀ r M, Q r M → Q' r M) → cal av M Q → cal av M Q'
theorem mCallV {cal : List Value → Mm → Qt → Prop} {n ci : Nat} (hm : monC cal) : mono (tCallV cal n ci) := by
  intro Q P P' h pc al st M ht
  unfold tCallV at ht ⊢
  split at ht
  · exact ⟨ht.1, hm _ _ _ _ (fun r M' q => h _ _ _ _ q) ht.2⟩
  · exact ht.elim
theorem mCallS {cal : List Value → Mm → Qt → Prop} {n : Nat} (hm : monC cal) : mono (tCallS cal n) := by
  intro Q P P' h pc al st M ht
  exact ⟨ht.1, hm _ _ _ _ (fun r M' q => h _ _ _ _ q) ht.2⟩
theorem monV {pg : Nat → Tx} (hm : ∀ pc Q Q' P, (∀ r M, Q r M → Q' r M) → ∀ al st M, pg pc Q P pc al st M → pg pc Q' P pc al st M) {Q Q' : Qt} (h : ∀ r M, Q r M → Q' r M) {pc : Nat} {al st : List Value} {M : Mm} (hV : V pg Q pc al st M) : V pg Q' pc al st M := by
  intro S hS
  exact hV S (fun P pc al st M hP hg => hS P pc al st M hP (hm pc Q Q' P h al st M hg))
theorem pop_stack {ad : Nat → Nat} {st rest : List Value} {n a : Nat} (h : st.drop n = .ref a :: rest) : st.map (cv ad) = ((st.take n).reverse.map (cv ad)).reverse ++ .ref (ad a) :: rest.map (cv ad) := by
  have h1 : st = st.take n ++ st.drop n := (List.take_append_drop n st).symm
  rw [h] at h1
  conv => lhs; rw [h1]
  simp [cv]
theorem toList_cv (ad : Nat → Nat) (r : Option Value) (rest : List Value) : (r.map (cv ad)).toList ++ rest.map (cv ad) = (r.toList ++ rest).map (cv ad) := by
  cases r <;> simp
theorem ok_callV {cal : List Value → Mm → Qt → Prop} {n ci idx : Nat} {y : MethodName} {bytes : ByteArray} {maxL : Nat} {ret : Option FieldType} {ws ws' : List Cond} {rm : Room} {T : u_T} {N : Nat} (hdg : decode mi.2.1 pc = .ok (.invokevirtual idx, 3)) (hcal : ∀ av M Q, cal av M Q → Cn G y ws rm av M Q)
    (hG : GoodIn mi.2.2.2.2.1 (wsV mi.1 idx y.cls y ws)) (hw : ws = Cond.code y bytes maxL ret :: ws') (hrc : rm.cells = 0) (hrs : rm.slots = 0) (hc : vwCl[ci]? = some (y.cls, T, N)) (hd : y.cls ≠ "java/lang/invoke/MethodHandle" ∧ y.cls ≠ "java/lang/invoke/VarHandle" ∧ (parseMethodDescriptor y.desc).map (fun d => d.parameters.length) = some n) (hR : rm.frames + 1 ≤ mi.2.2.2.2.2.frames ∧ 8 + (maxL + 11) + rm.locals ≤ mi.2.2.2.2.2.locals) : okT G mi pc (tCallV cal n ci) := by
  intro Q P hP al st M ht p e s m args below meth c H locs ls hf hr hlk hC hW hS hL
  unfold tCallV at ht
  split at ht
  · rename_i a rest hst
    obtain ⟨⟨hn, ⟨ks, ho⟩, hcat⟩, hk⟩ := ht
    have hM := hcal _ _ _ hk
    rw [pop_stack hst]
    refine callQ (va_runV (As := (st.take n).reverse.map (cv G.2.2.1)) (rest := rest.map (cv G.2.2.1)) (b := G.2.2.1 a) (ret := ret) (bytes := bytes) (maxL := maxL) hf hM (cwV n hf.2.2.2.2 hG hw hrc hrs ⟨rfl, hd⟩ hR) ⟨Pre.blind, ?_, ?_⟩ rfl (by simp at hn ⊢; omega) hL.1 rfl (lv_room (by rw [catS_cv]; exact hcat)) hdg ⟨Nat.zero_le _, Nat.zero_le _⟩) hS ?_
    · exact va_recv hC.1 hW.1 hc (wd_at ho)
    · intro U hU hWm
      exact ⟨rfl, by rw [hU]; exact hW, hC.at hS hU hWm⟩
    · intro r M' H1 locs1 hq hW1 hS1
      rw [toList_cv]
      exact hP _ _ _ _ hq p e s m args below meth c H1 locs1 ls hf hr hlk hC hW1 hS1 hL
  · exact ht.elim
theorem pop_stackS {ad : Nat → Nat} {st : List Value} {n : Nat} : st.map (cv ad) = ((st.take n).reverse.map (cv ad)).reverse ++ (st.drop n).map (cv ad) := by
  conv => lhs; rw [(List.take_append_drop n st).symm]
  simp [-List.take_append_drop]
theorem ok_callS {cal : List Value → Mm → Qt → Prop} {n idx : Nat} {y : MethodName} {bytes : ByteArray} {maxL : Nat} {ret : Option FieldType} {ws ws' : List Cond} {rm : Room} (hdg : decode mi.2.1 pc = .ok (.invokestatic idx, 3)) (hcal : ∀ av M Q, cal av M Q → Cn G y ws rm av M Q)
    (hG : GoodIn mi.2.2.2.2.1 ws) (hml : Cond.methodLink mi.1 idx y ∈ mi.2.2.2.2.1) (hstt : Cond.static y ∈ mi.2.2.2.2.1) (hini : Cond.initialized y.cls ∈ mi.2.2.2.2.1) (hw : ws = Cond.code y bytes maxL ret :: ws') (hrc : rm.cells = 0) (hrs : rm.slots = 0) (hd : y.cls ≠ "java/lang/invoke/MethodHandle" ∧ y.cls ≠ "java/lang/invoke/VarHandle" ∧ (parseMethodDescriptor y.desc).map (fun d => d.parameters.length) = some n) (hR : rm.frames + 1 ≤ mi.2.2.2.2.2.frames ∧ 8 + (maxL + 11) + rm.locals ≤ mi.2.2.2.2.2.locals) : okT G mi pc (tCallS cal n) := by
  intro Q P hP al st M ht p e s m args below meth c H locs ls hf hr hlk hC hW hS hL
  obtain ⟨⟨hn, hcat⟩, hk⟩ := ht
  have hM := hcal _ _ _ hk
  rw [pop_stackS (n := n)]
  refine callQ (va_runS (As := (st.take n).reverse.map (cv G.2.2.1)) (rest := (st.drop n).map (cv G.2.2.1)) (ret := ret) (bytes := bytes) (maxL := maxL) hf hM ⟨callB_of n hf.2.2.2.2 hG hw hrc hrs (hf.2.2.2.2 _ hini) (hf.2.2.2.2 _ hml) hd hR, hf.2.2.2.2 _ hstt⟩ ⟨Pre.blind, ?_⟩ rfl (by simp at hn ⊢; omega) hL.1 rfl (lv_room (by rw [catS_cv]; exact hcat)) hdg ⟨Nat.zero_le _, Nat.zero_le _⟩) hS ?_
  · intro U hU hWm
    exact ⟨rfl, by rw [hU]; exact hW, hC.at hS hU hWm⟩
  · intro r M' H1 locs1 hq hW1 hS1
    rw [toList_cv]
    exact hP _ _ _ _ hq p e s m args below meth c H1 locs1 ls hf hr hlk hC hW1 hS1 hL
theorem ok_callSN {cal : List Value → Mm → Qt → Prop} {n idx : Nat} {y : MethodName} {bytes : ByteArray} {maxL : Nat} {ret : Option FieldType} {ws ws' : List Cond} {rm : Room} (hdg : decode mi.2.1 pc = .ok (.invokestatic idx, 3)) (hcal : ∀ av M Q, cal av M Q → Cn G y ws rm av M Q)
    (hG : GoodIn mi.2.2.2.2.1 ws) (hml : ∀ s : State, NW s → va_Nw (.methodLinkNest mi.1 idx y RX6) s) (hstt : Cond.static y ∈ mi.2.2.2.2.1) (hini : Cond.initialized y.cls ∈ mi.2.2.2.2.1) (hw : ws = Cond.code y bytes maxL ret :: ws') (hrc : rm.cells = 0) (hrs : rm.slots = 0) (hd : y.cls ≠ "java/lang/invoke/MethodHandle" ∧ y.cls ≠ "java/lang/invoke/VarHandle" ∧ (parseMethodDescriptor y.desc).map (fun d => d.parameters.length) = some n) (hR : rm.frames + 1 ≤ mi.2.2.2.2.2.frames ∧ 8 + (maxL + 11) + rm.locals ≤ mi.2.2.2.2.2.locals) : okT G mi pc (tCallS cal n) := by
  intro Q P hP al st M ht p e s m args below meth c H locs ls hf hr hlk hC hW hS hL
  obtain ⟨⟨hn, hcat⟩, hk⟩ := ht
  have hM := hcal _ _ _ hk
  rw [pop_stackS (n := n)]
  refine callQ (va_runSN (As := (st.take n).reverse.map (cv G.2.2.1)) (rest := (st.drop n).map (cv G.2.2.1)) (ret := ret) (bytes := bytes) (maxL := maxL) (host := RX6) hf hM ⟨va_cnB n hf.2.2.2.2 hG hw hrc hrs (hml s hC.2.1) (hf.2.2.2.2 _ hini) hd hR, hf.2.2.2.2 _ hstt, trivial⟩ ⟨Pre.blind, ?_⟩ rfl (by simp at hn ⊢; omega) hL.1 rfl (lv_room (by rw [catS_cv]; exact hcat)) hdg ⟨Nat.zero_le _, Nat.zero_le _⟩) hS ?_
  · intro U hU hWm
    exact ⟨rfl, by rw [hU]; exact hW, hC.at hS hU hWm⟩
  · intro r M' H1 locs1 hq hW1 hS1
    rw [toList_cv]
    exact hP _ _ _ _ hq p e s m args below meth c H1 locs1 ls hf hr hlk hC hW1 hS1 hL
/-- Math.min, Math.abs, System.arraycopy -/
def tMin : Tx := fun _ P pc al st M => match st with
  | .int y :: .int x :: st' => catS st' ≤ 8 ∧ P (pc + 3) al (.int (if y < x then y else x) :: st') M
  | _ => False
theorem mMin : mono tMin := by
  intro Q P P' h pc al st M ht
  unfold tMin at ht ⊢
  split at ht
  · exact ⟨ht.1, h _ _ _ _ ht.2⟩
  · exact ht.elim
theorem ok_min {idx : Nat} (hdg : decode mi.2.1 pc = .ok (.invokestatic idx, 3)) (h1 : Cond.methodLink mi.1 idx Lib.Math.min.name ∈ mi.2.2.2.2.1) (h2 : Cond.static Lib.Math.min.name ∈ mi.2.2.2.2.1) (h3 : Cond.initialized "java/lang/Math" ∈ mi.2.2.2.2.1) (h4 : Cond.code Lib.Math.min.name Lib.Math.min.code 2 (some .int) ∈ mi.2.2.2.2.1) (hR : 1 ≤ mi.2.2.2.2.2.frames ∧ 21 ≤ mi.2.2.2.2.2.locals) : okT G mi pc tMin := by
  intro Q P hP al st M ht p e s m args below meth c H locs ls hf hr hlk hC hW hS hL
  unfold tMin at ht
  split at ht
  · exact va_mmin hf.1 hf.2.1 (hf.2.2.1.trans hL.1.symm) hf.2.2.2.1 (hf.2.2.2.2 _ h1) (hf.2.2.2.2 _ h2) (hf.2.2.2.2 _ h3) (hf.2.2.2.2 _ h4) hR.1 (by rw [catS_cv]; omega) (Nat.zero_le _) (Nat.zero_le _) hdg (hP _ _ _ _ ht.2 p e s m args below meth c H locs ls hf hr hlk hC hW hS hL)
  · exact ht.elim
def tAbs : Tx := fun _ P pc al st M => match st with
  | .int x :: st' => catS st' ≤ 8 ∧ P (pc + 3) al (.int (if 0 ≤ x then x else 0 - x) :: st') M
  | _ => False
theorem mAbs : mono tAbs := by
  intro Q P P' h pc al st M ht
  unfold tAbs at ht ⊢
  split at ht
  · exact ⟨ht.1, h _ _ _ _ ht.2⟩
  · exact ht.elim
theorem ok_abs {idx : Nat} (hdg : decode mi.2.1 pc = .ok (.invokestatic idx, 3)) (h1 : Cond.methodLink mi.1 idx Lib.Math.abs.name ∈ mi.2.2.2.2.1) (h2 : Cond.static Lib.Math.abs.name ∈ mi.2.2.2.2.1) (h3 : Cond.initialized "java/lang/Math" ∈ mi.2.2.2.2.1) (h4 : Cond.code Lib.Math.abs.name Lib.Math.abs.code 1 (some .int) ∈ mi.2.2.2.2.1) (hR : 1 ≤ mi.2.2.2.2.2.frames ∧ 21 ≤ mi.2.2.2.2.2.locals) : okT G mi pc tAbs := by
  intro Q P hP al st M ht p e s m args below meth c H locs ls hf hr hlk hC hW hS hL
  unfold tAbs at ht
  split at ht
  · exact va_mabs hf.1 hf.2.1 (hf.2.2.1.trans hL.1.symm) hf.2.2.2.1 (hf.2.2.2.2 _ h1) (hf.2.2.2.2 _ h2) (hf.2.2.2.2 _ h3) (hf.2.2.2.2 _ h4) hR.1 (by rw [catS_cv]; omega) (Nat.zero_le _) (Nat.zero_le _) hdg (hP _ _ _ _ ht.2 p e s m args below meth c H locs ls hf hr hlk hC hW hS hL)
  · exact ht.elim
def tCopy : Tx := fun _ P pc al st M => match st with
  | .int n :: .int dp :: .ref b :: .int sp :: .ref a :: st' => ∃ n0 n1, arrAt a = some (0, n0) ∧ arrAt b = some (0, n1) ∧ (¬ sp < 0 ∧ ¬ dp < 0 ∧ ¬ n < 0 ∧ sp.toNatClampNeg + n.toNatClampNeg ≤ n0 ∧ dp.toNatClampNeg + n.toNatClampNeg ≤ n1 ∧ catS st' = 0) ∧ P (pc + 3) al st' (setA M b (va_cpy (M.1 a) (M.1 b) sp.toNatClampNeg dp.toNatClampNeg n.toNatClampNeg))
  | _ => False
theorem mCopy : mono tCopy := by
  intro Q P P' h pc al st M ht
  unfold tCopy at ht ⊢
  split at ht
  · obtain ⟨n0, n1, h1, h2, h3, h4⟩ := ht
    exact ⟨n0, n1, h1, h2, h3, h _ _ _ _ h4⟩
  · exact ht.elim
theorem ok_copy {idx : Nat} (hdg : decode mi.2.1 pc = .ok (.invokestatic idx, 3)) (h1 : Cond.methodLink mi.1 idx arraycopyName ∈ mi.2.2.2.2.1) (h2 : Cond.native arraycopyName ∈ mi.2.2.2.2.1) (h3 : Cond.static arraycopyName ∈ mi.2.2.2.2.1) (h4 : Cond.initialized "java/lang/System" ∈ mi.2.2.2.2.1) (hR : 1 ≤ mi.2.2.2.2.2.frames ∧ nativeFrameWords "java/lang/System" "arraycopy" 5 + 11 ≤ mi.2.2.2.2.2.locals) : okT G mi pc tCopy := by
  intro Q P hP al st M ht p e s m args below meth c H locs ls hf hr hlk hC hW hS hL
  unfold tCopy at ht
  split at ht
  · rename_i n dp b sp a st'
    obtain ⟨n0, n1, g1, g2, ⟨g3, g4, g5, g6, g7, g8⟩, g9⟩ := ht
    refine va_copyi (t0 := 0) (t1 := 0) (ty := .int) hf.1 hf.2.1 (hf.2.2.1.trans hL.1.symm) hf.2.2.2.1 (hf.2.2.2.2 _ h1) (hf.2.2.2.2 _ h2) (hf.2.2.2.2 _ h3) (hf.2.2.2.2 _ h4) hC.1 hW.1 hW.2 hS a b (wd_at (arr_spec g1)) (wd_at (arr_spec g2)) rfl rfl rfl g3 g4 g5 g6 g7 (fun _ _ => rfl) hR.1 (by rw [catS_cv, g8]; omega) hdg (fun H1 locs1 hP1 hD1 hS1 => ?_)
    have hw := wd_set (ad := G.2.2.1) (cI := G.2.2.2.1) (cZ := G.2.2.2.2.1) (M := M) (M' := setA M b (va_cpy (M.1 a) (M.1 b) sp.toNatClampNeg dp.toNatClampNeg n.toNatClampNeg)) (arr_spec g2) setA_o
    simp only [mkE, setA, if_true] at hw
    rw [hw] at hP1 hD1
    exact hP _ _ _ _ g9 p e s m args below meth c H1 locs1 ls hf hr hlk hC ⟨hP1, hD1⟩ hS1 hL
  · exact ht.elim
/-- a switch: its keys in order, else d -/
def sw (x : Int32) (P : Nat → Prop) (d : Nat) : List (Int32 × Nat) → Prop
  | [] => P d
  | (k, t) :: r => (x = k → P t) ∧ (¬ x = k → sw x P d r)
theorem sw.mono {x : Int32} {P P' : Nat → Prop} {d : Nat} (h : ∀ t, P t → P' t) : ∀ ks, sw x P d ks → sw x P' d ks
  | [], q => h _ q
  | (k, t) :: r, q => ⟨fun e => h _ (q.1 e), fun e => sw.mono h r (q.2 e)⟩
theorem sw.spec {x : Int32} {P : Nat → Prop} {d : Nat} : ∀ ks, sw x P d ks → (∃ q ∈ ks, x = q.1 ∧ P q.2) ∨ ((∀ q ∈ ks, ¬ x = q.1) ∧ P d)
  | [], q => Or.inr ⟨fun _ h => absurd h List.not_mem_nil, q⟩
  | (k, t) :: r, q => by
    by_cases h : x = k
    · exact Or.inl ⟨(k, t), List.mem_cons_self, h, q.1 h⟩
    · rcases sw.spec r (q.2 h) with ⟨z, h1, h2, h3⟩ | ⟨h1, h2⟩
      · exact Or.inl ⟨z, List.mem_cons_of_mem _ h1, h2, h3⟩
      · refine Or.inr ⟨fun z hz => ?_, h2⟩
        rcases List.mem_cons.mp hz with rfl | hz
        · exact h
        · exact h1 z hz
def tSw (ks : List (Int32 × Nat)) (d : Nat) : Tx := fun _ P _ al st M => match st with
  | .int x :: st' => sw x (fun t => P t al st' M) d ks
  | _ => False
theorem mSw {ks : List (Int32 × Nat)} {d : Nat} : mono (tSw ks d) := by
  intro Q P P' h pc al st M ht
  unfold tSw at ht ⊢
  split at ht
  · exact sw.mono (fun t q => h _ _ _ _ q) _ ht
  · exact ht.elim
theorem ok_tab {ks : List (Int32 × Nat)} {d len : Nat} {dflt lo hi : Int} {offs : Array Int} (hdg : decode mi.2.1 pc = .ok (.tableswitch dflt lo hi offs, len)) (hk : ∀ q ∈ ks, ¬ q.1.toInt < lo ∧ ¬ hi < q.1.toInt ∧ (offs[(q.1.toInt - lo).toNat]?).map (fun o => (pc : Int) + o) = some (q.2 : Int)) (hcov : ∀ j ∈ List.range (hi - lo + 1).toNat, ∃ q ∈ ks, q.1.toInt = lo + (j : Int)) (hd : (pc : Int) + dflt = (d : Int)) : okT G mi pc (tSw ks d) := by
  intro Q P hP al st M ht p e s m args below meth c H locs ls hf hr hlk hC hW hS hL
  unfold tSw at ht
  split at ht
  · rename_i x st'
    rcases sw.spec _ ht with ⟨q, h1, h2, h3⟩ | ⟨h1, h2⟩
    · obtain ⟨g1, g2, g3⟩ := hk q h1
      rw [← h2] at g1 g2 g3
      cases ho : offs[(x.toInt - lo).toNat]? with
      | none => rw [ho] at g3; cases g3
      | some o =>
        rw [ho] at g3
        exact lv_tableIn hf.1 hf.2.1 hdg g1 g2 ho (Option.some.inj g3) (hP _ _ _ _ h3 p e s m args below meth c H locs ls hf hr hlk hC hW hS hL)
    · refine lv_tableOut hf.1 hf.2.1 hdg ?_ hd (hP _ _ _ _ h2 p e s m args below meth c H locs ls hf hr hlk hC hW hS hL)
      apply Classical.byContradiction
      intro hn
      have hn' : ¬ x.toInt < lo ∧ ¬ hi < x.toInt := ⟨fun z => hn (Or.inl z), fun z => hn (Or.inr z)⟩
      obtain ⟨q, q1, q2⟩ := hcov (x.toInt - lo).toNat (List.mem_range.mpr (by omega))
      refine h1 q q1 (Int32.toInt_inj.mp ?_)
      rw [q2]
      omega
  · exact ht.elim
theorem ok_look2 {k1 k2 : Int32} {t1 t2 d len : Nat} {dflt a1 a2 o1 o2 : Int} (hdg : decode mi.2.1 pc = .ok (.lookupswitch dflt #[(a1, o1), (a2, o2)], len)) (hlt : a1 < a2) (hk1 : k1.toInt = a1) (hk2 : k2.toInt = a2) (h1 : (pc : Int) + o1 = (t1 : Int)) (h2 : (pc : Int) + o2 = (t2 : Int)) (hd : (pc : Int) + dflt = (d : Int)) : okT G mi pc (tSw [(k1, t1), (k2, t2)] d) := by
  intro Q P hP al st M ht p e s m args below meth c H locs ls hf hr hlk hC hW hS hL
  unfold tSw at ht
  split at ht
  · rename_i x st'
    have hp : ((#[(a1, o1), (a2, o2)] : Array (Int × Int)).toList.zip ((#[(a1, o1), (a2, o2)] : Array (Int × Int)).toList.drop 1)).all (fun (a, next) => a.1 < next.1) = true := by simp [hlt]
    by_cases e1 : x = k1
    · refine lv_lookup hf.1 hf.2.1 hdg hp (off := o1) ?_ h1 (hP _ _ _ _ (ht.1 e1) p e s m args below meth c H locs ls hf hr hlk hC hW hS hL)
      show Op.lookupswitch.offset ((a1, o1) :: (a2, o2) :: []) dflt x.toInt = o1
      rw [Op.lookupswitch.offset_cons, if_pos (by rw [e1, hk1])]
    · by_cases e2 : x = k2
      · refine lv_lookup hf.1 hf.2.1 hdg hp (off := o2) ?_ h2 (hP _ _ _ _ ((ht.2 e1).1 e2) p e s m args below meth c H locs ls hf hr hlk hC hW hS hL)
        show Op.lookupswitch.offset ((a1, o1) :: (a2, o2) :: []) dflt x.toInt = o2
        rw [lv_osw e1 hk1, Op.lookupswitch.offset_cons, if_pos (by rw [e2, hk2])]
      · refine lv_lookup hf.1 hf.2.1 hdg hp (off := dflt) ?_ hd (hP _ _ _ _ ((ht.2 e1).2 e2) p e s m args below meth c H locs ls hf hr hlk hC hW hS hL)
        show Op.lookupswitch.offset ((a1, o1) :: (a2, o2) :: []) dflt x.toInt = dflt
        rw [lv_osw e1 hk1, lv_osw e2 hk2]
        rfl
  · exact ht.elim
end TXM
