/-! the kinds of instruction: what each asks (t..), that it is monotone (m..), that it is sound (ok..) -/
section TXS
variable {G : Gt} {mi : Mi} {pc : Nat}
def tPush (v : Int32) (n : Nat) : Tx := fun _ P pc al st M => P (pc + n) al (.int v :: st) M
theorem mPush {v : Int32} {n : Nat} : mono (tPush v n) := fun _ _ _ h _ _ _ _ ht => h _ _ _ _ ht
theorem ok_iconst {v : Int32} {i : Int} (hdg : decode mi.2.1 pc = .ok (.iconst i, 1)) (hv : Int32.ofInt i = v) : okT G mi pc (tPush v 1) := by
  intro Q P hP al st M ht p e s m args below meth c H locs ls hf hr hlk hC hW hS hL
  exact lv_iconst hf.1 hf.2.1 hdg hv (hP _ _ _ _ ht p e s m args below meth c H locs ls hf hr hlk hC hW hS hL)
theorem ok_bipush {v : Int32} {i : Int} (hdg : decode mi.2.1 pc = .ok (.bipush i, 2)) (hv : (Int8.ofInt i).toInt32 = v) : okT G mi pc (tPush v 2) := by
  intro Q P hP al st M ht p e s m args below meth c H locs ls hf hr hlk hC hW hS hL
  exact lv_bipush hf.1 hf.2.1 hdg hv (hP _ _ _ _ ht p e s m args below meth c H locs ls hf hr hlk hC hW hS hL)
theorem ok_sipush {v : Int32} {i : Int} (hdg : decode mi.2.1 pc = .ok (.sipush i, 3)) (hv : (Int16.ofInt i).toInt32 = v) : okT G mi pc (tPush v 3) := by
  intro Q P hP al st M ht p e s m args below meth c H locs ls hf hr hlk hC hW hS hL
  exact lv_sipush hf.1 hf.2.1 hdg hv (hP _ _ _ _ ht p e s m args below meth c H locs ls hf hr hlk hC hW hS hL)
theorem ok_ldc {v : Int32} {i : Nat} (hdg : decode mi.2.1 pc = .ok (.ldc i, 2)) (hc : Cond.constant mi.1 i v ∈ mi.2.2.2.2.1) : okT G mi pc (tPush v 2) := by
  intro Q P hP al st M ht p e s m args below meth c H locs ls hf hr hlk hC hW hS hL
  exact lv_ldc hf.1 hf.2.1 hf.2.2.2.1 (hf.2.2.2.2 _ hc) hdg (hP _ _ _ _ ht p e s m args below meth c H locs ls hf hr hlk hC hW hS hL)
theorem ok_ldcw {v : Int32} {i : Nat} (hdg : decode mi.2.1 pc = .ok (.ldc_w i, 3)) (hc : Cond.constant mi.1 i v ∈ mi.2.2.2.2.1) : okT G mi pc (tPush v 3) := by
  intro Q P hP al st M ht p e s m args below meth c H locs ls hf hr hlk hC hW hS hL
  exact lv_ldcw hf.1 hf.2.1 hf.2.2.2.1 (hf.2.2.2.2 _ hc) hdg (hP _ _ _ _ ht p e s m args below meth c H locs ls hf hr hlk hC hW hS hL)
def tPushL (v : Int64) (n : Nat) : Tx := fun _ P pc al st M => P (pc + n) al (.long v :: st) M
theorem mPushL {v : Int64} {n : Nat} : mono (tPushL v n) := fun _ _ _ h _ _ _ _ ht => h _ _ _ _ ht
theorem ok_lconst {v : Int64} {i : Fin 2} (hdg : decode mi.2.1 pc = .ok (.lconst i, 1)) (hv : Int64.ofNat (i : Nat) = v) : okT G mi pc (tPushL v 1) := by
  intro Q P hP al st M ht p e s m args below meth c H locs ls hf hr hlk hC hW hS hL
  exact lv_lconst hf.1 hf.2.1 hdg hv (hP _ _ _ _ ht p e s m args below meth c H locs ls hf hr hlk hC hW hS hL)
theorem ok_ldc2 {v : Int64} {i : Nat} (hdg : decode mi.2.1 pc = .ok (.ldc2_w i, 3)) (hc : Cond.constantLong mi.1 i v ∈ mi.2.2.2.2.1) : okT G mi pc (tPushL v 3) := by
  intro Q P hP al st M ht p e s m args below meth c H locs ls hf hr hlk hC hW hS hL
  exact lv_ldc2 hf.1 hf.2.1 hf.2.2.2.1 (hf.2.2.2.2 _ hc) hdg (hP _ _ _ _ ht p e s m args below meth c H locs ls hf hr hlk hC hW hS hL)
def tIload (i n : Nat) : Tx := fun _ P pc al st M => match al[i]? with
  | some (.int x) => P (pc + n) al (.int x :: st) M
  | _ => False
theorem mIload {i n : Nat} : mono (tIload i n) := by
  intro Q P P' h pc al st M ht
  unfold tIload at ht ⊢
  split at ht
  · exact h _ _ _ _ ht
  · exact ht.elim
theorem ok_iload_n {k : Fin 4} {i : Nat} (hdg : decode mi.2.1 pc = .ok (.iload_n k, 1)) (hi : (k : Nat) = i) : okT G mi pc (tIload i 1) := by
  intro Q P hP al st M ht p e s m args below meth c H locs ls hf hr hlk hC hW hS hL
  unfold tIload at ht
  split at ht
  · rename_i x hx
    exact lv_iload_n hf.1 hf.2.1 hdg hi (hL.get hx (by simp)) (hP _ _ _ _ ht p e s m args below meth c H locs ls hf hr hlk hC hW hS hL)
  · exact ht.elim
theorem ok_iload {i : Nat} (hdg : decode mi.2.1 pc = .ok (.iload i, 2)) : okT G mi pc (tIload i 2) := by
  intro Q P hP al st M ht p e s m args below meth c H locs ls hf hr hlk hC hW hS hL
  unfold tIload at ht
  split at ht
  · rename_i x hx
    exact lv_iload hf.1 hf.2.1 hdg (hL.get hx (by simp)) (hP _ _ _ _ ht p e s m args below meth c H locs ls hf hr hlk hC hW hS hL)
  · exact ht.elim
def tLload (i n : Nat) : Tx := fun _ P pc al st M => match al[i]? with
  | some (.long x) => P (pc + n) al (.long x :: st) M
  | _ => False
theorem mLload {i n : Nat} : mono (tLload i n) := by
  intro Q P P' h pc al st M ht
  unfold tLload at ht ⊢
  split at ht
  · exact h _ _ _ _ ht
  · exact ht.elim
theorem ok_lload_n {k : Fin 4} {i : Nat} (hdg : decode mi.2.1 pc = .ok (.lload_n k, 1)) (hi : (k : Nat) = i) : okT G mi pc (tLload i 1) := by
  intro Q P hP al st M ht p e s m args below meth c H locs ls hf hr hlk hC hW hS hL
  unfold tLload at ht
  split at ht
  · rename_i x hx
    exact lv_lload_n hf.1 hf.2.1 hdg hi (hL.get hx (by simp)) (hP _ _ _ _ ht p e s m args below meth c H locs ls hf hr hlk hC hW hS hL)
  · exact ht.elim
theorem ok_lload {i : Nat} (hdg : decode mi.2.1 pc = .ok (.lload i, 2)) : okT G mi pc (tLload i 2) := by
  intro Q P hP al st M ht p e s m args below meth c H locs ls hf hr hlk hC hW hS hL
  unfold tLload at ht
  split at ht
  · rename_i x hx
    exact lv_lload hf.1 hf.2.1 hdg (hL.get hx (by simp)) (hP _ _ _ _ ht p e s m args below meth c H locs ls hf hr hlk hC hW hS hL)
  · exact ht.elim
def tAload (i n : Nat) : Tx := fun _ P pc al st M => match al[i]? with
  | some (.ref x) => P (pc + n) al (.ref x :: st) M
  | _ => False
theorem mAload {i n : Nat} : mono (tAload i n) := by
  intro Q P P' h pc al st M ht
  unfold tAload at ht ⊢
  split at ht
  · exact h _ _ _ _ ht
  · exact ht.elim
theorem ok_aload_n {k : Fin 4} {i : Nat} (hdg : decode mi.2.1 pc = .ok (.aload_n k, 1)) (hi : (k : Nat) = i) : okT G mi pc (tAload i 1) := by
  intro Q P hP al st M ht p e s m args below meth c H locs ls hf hr hlk hC hW hS hL
  unfold tAload at ht
  split at ht
  · rename_i x hx
    exact lv_aload_n hf.1 hf.2.1 hdg hi (hL.get hx (by simp)) (hP _ _ _ _ ht p e s m args below meth c H locs ls hf hr hlk hC hW hS hL)
  · exact ht.elim
theorem ok_aload {i : Nat} (hdg : decode mi.2.1 pc = .ok (.aload i, 2)) : okT G mi pc (tAload i 2) := by
  intro Q P hP al st M ht p e s m args below meth c H locs ls hf hr hlk hC hW hS hL
  unfold tAload at ht
  split at ht
  · rename_i x hx
    exact lv_aload hf.1 hf.2.1 hdg (hL.get hx (by simp)) (hP _ _ _ _ ht p e s m args below meth c H locs ls hf hr hlk hC hW hS hL)
  · exact ht.elim
def tIstore (i n : Nat) : Tx := fun _ P pc al st M => match st with
  | .int x :: st' => prevOk al i ∧ P (pc + n) (al.set i (.int x)) st' M
  | _ => False
theorem mIstore {i n : Nat} : mono (tIstore i n) := by
  intro Q P P' h pc al st M ht
  unfold tIstore at ht ⊢
  split at ht
  · exact ⟨ht.1, h _ _ _ _ ht.2⟩
  · exact ht.elim
theorem ok_istore_n {k : Fin 4} {i : Nat} (hdg : decode mi.2.1 pc = .ok (.istore_n k, 1)) (hi : (k : Nat) = i) (hn : i < mi.2.2.1) : okT G mi pc (tIstore i 1) := by
  intro Q P hP al st M ht p e s m args below meth c H locs ls hf hr hlk hC hW hS hL
  unfold tIstore at ht
  split at ht
  · rename_i x st'
    exact lv_istore_n hf.1 hf.2.1 hdg hi hL.has hn rfl (fun ls' h' => hP _ _ _ _ ht.2 p e s m args below meth c H locs ls' hf hr hlk hC hW hS (LR.st1 (v := .int x) rfl ht.1 h'))
  · exact ht.elim
theorem ok_istore {i : Nat} (hdg : decode mi.2.1 pc = .ok (.istore i, 2)) (hn : i < mi.2.2.1) : okT G mi pc (tIstore i 2) := by
  intro Q P hP al st M ht p e s m args below meth c H locs ls hf hr hlk hC hW hS hL
  unfold tIstore at ht
  split at ht
  · rename_i x st'
    exact lv_istore hf.1 hf.2.1 hdg hL.has hn rfl (fun ls' h' => hP _ _ _ _ ht.2 p e s m args below meth c H locs ls' hf hr hlk hC hW hS (LR.st1 (v := .int x) rfl ht.1 h'))
  · exact ht.elim
def tLstore (i n : Nat) : Tx := fun _ P pc al st M => match st with
  | .long x :: st' => prevOk al i ∧ P (pc + n) ((al.set i (.long x)).set (i + 1) .null) st' M
  | _ => False
theorem mLstore {i n : Nat} : mono (tLstore i n) := by
  intro Q P P' h pc al st M ht
  unfold tLstore at ht ⊢
  split at ht
  · exact ⟨ht.1, h _ _ _ _ ht.2⟩
  · exact ht.elim
theorem ok_lstore_n {k : Fin 4} {i : Nat} (hdg : decode mi.2.1 pc = .ok (.lstore_n k, 1)) (hi : (k : Nat) = i) (hn : i + 1 < mi.2.2.1) : okT G mi pc (tLstore i 1) := by
  intro Q P hP al st M ht p e s m args below meth c H locs ls hf hr hlk hC hW hS hL
  unfold tLstore at ht
  split at ht
  · rename_i x st'
    exact lv_lstore_n hf.1 hf.2.1 hdg hi hL.has hn rfl (fun ls' h' => hP _ _ _ _ ht.2 p e s m args below meth c H locs ls' hf hr hlk hC hW hS (LR.st2 (v := .long x) rfl ht.1 h'))
  · exact ht.elim
theorem ok_lstore {i : Nat} (hdg : decode mi.2.1 pc = .ok (.lstore i, 2)) (hn : i + 1 < mi.2.2.1) : okT G mi pc (tLstore i 2) := by
  intro Q P hP al st M ht p e s m args below meth c H locs ls hf hr hlk hC hW hS hL
  unfold tLstore at ht
  split at ht
  · rename_i x st'
    exact lv_lstore hf.1 hf.2.1 hdg hL.has hn rfl (fun ls' h' => hP _ _ _ _ ht.2 p e s m args below meth c H locs ls' hf hr hlk hC hW hS (LR.st2 (v := .long x) rfl ht.1 h'))
  · exact ht.elim
def tIinc (i : Nat) (v : Int32) : Tx := fun _ P pc al st M => match al[i]? with
  | some (.int x) => prevOk al i ∧ P (pc + 3) (al.set i (.int (x + v))) st M
  | _ => False
theorem mIinc {i : Nat} {v : Int32} : mono (tIinc i v) := by
  intro Q P P' h pc al st M ht
  unfold tIinc at ht ⊢
  split at ht
  · exact ⟨ht.1, h _ _ _ _ ht.2⟩
  · exact ht.elim
theorem ok_iinc {i : Nat} {n : Int} {v : Int32} (hdg : decode mi.2.1 pc = .ok (.iinc i n, 3)) (hv : Int32.ofInt n = v) (hn : i < mi.2.2.1) : okT G mi pc (tIinc i v) := by
  intro Q P hP al st M ht p e s m args below meth c H locs ls hf hr hlk hC hW hS hL
  subst hv
  unfold tIinc at ht
  split at ht
  · rename_i x hx
    obtain ⟨k, hk⟩ := List.getElem?_of_mem (asc_mem (ad := G.2.2.1) (q := (i, Value.int x)) |>.mpr ⟨.int x, hx, by simp, rfl⟩)
    exact lv_iinc hf.1 hf.2.1 hdg hL.has hk rfl hn rfl (fun ls' h' => hP _ _ _ _ ht.2 p e s m args below meth c H locs ls' hf hr hlk hC hW hS (LR.st1 (v := .int (x + Int32.ofInt n)) rfl ht.1 h'))
  · exact ht.elim
def tBin (f : Int32 → Int32 → Int32) : Tx := fun _ P pc al st M => match st with
  | .int y :: .int x :: st' => P (pc + 1) al (.int (f x y) :: st') M
  | _ => False
theorem mBin {f : Int32 → Int32 → Int32} : mono (tBin f) := by
  intro Q P P' h pc al st M ht
  unfold tBin at ht ⊢
  split at ht
  · exact h _ _ _ _ ht
  · exact ht.elim
theorem ok_iadd (hdg : decode mi.2.1 pc = .ok (.iadd, 1)) : okT G mi pc (tBin (fun x y => x + y)) := by
  intro Q P hP al st M ht p e s m args below meth c H locs ls hf hr hlk hC hW hS hL
  unfold tBin at ht
  split at ht
  · exact lv_iadd hf.1 hf.2.1 hdg (hP _ _ _ _ ht p e s m args below meth c H locs ls hf hr hlk hC hW hS hL)
  · exact ht.elim
theorem ok_isub (hdg : decode mi.2.1 pc = .ok (.isub, 1)) : okT G mi pc (tBin (fun x y => x - y)) := by
  intro Q P hP al st M ht p e s m args below meth c H locs ls hf hr hlk hC hW hS hL
  unfold tBin at ht
  split at ht
  · exact lv_isub hf.1 hf.2.1 hdg (hP _ _ _ _ ht p e s m args below meth c H locs ls hf hr hlk hC hW hS hL)
  · exact ht.elim
theorem ok_imul (hdg : decode mi.2.1 pc = .ok (.imul, 1)) : okT G mi pc (tBin (fun x y => x * y)) := by
  intro Q P hP al st M ht p e s m args below meth c H locs ls hf hr hlk hC hW hS hL
  unfold tBin at ht
  split at ht
  · exact lv_imul hf.1 hf.2.1 hdg (hP _ _ _ _ ht p e s m args below meth c H locs ls hf hr hlk hC hW hS hL)
  · exact ht.elim
theorem ok_iand (hdg : decode mi.2.1 pc = .ok (.iand, 1)) : okT G mi pc (tBin (fun x y => x &&& y)) := by
  intro Q P hP al st M ht p e s m args below meth c H locs ls hf hr hlk hC hW hS hL
  unfold tBin at ht
  split at ht
  · exact lv_iand hf.1 hf.2.1 hdg (hP _ _ _ _ ht p e s m args below meth c H locs ls hf hr hlk hC hW hS hL)
  · exact ht.elim
theorem ok_ior (hdg : decode mi.2.1 pc = .ok (.ior, 1)) : okT G mi pc (tBin (fun x y => x ||| y)) := by
  intro Q P hP al st M ht p e s m args below meth c H locs ls hf hr hlk hC hW hS hL
  unfold tBin at ht
  split at ht
  · exact lv_ior hf.1 hf.2.1 hdg (hP _ _ _ _ ht p e s m args below meth c H locs ls hf hr hlk hC hW hS hL)
  · exact ht.elim
theorem ok_ishl (hdg : decode mi.2.1 pc = .ok (.ishl, 1)) : okT G mi pc (tBin (fun x y => x <<< (y &&& 31))) := by
  intro Q P hP al st M ht p e s m args below meth c H locs ls hf hr hlk hC hW hS hL
  unfold tBin at ht
  split at ht
  · exact lv_ishl hf.1 hf.2.1 hdg (hP _ _ _ _ ht p e s m args below meth c H locs ls hf hr hlk hC hW hS hL)
  · exact ht.elim
theorem ok_ishr (hdg : decode mi.2.1 pc = .ok (.ishr, 1)) : okT G mi pc (tBin (fun x y => x >>> (y &&& 31))) := by
  intro Q P hP al st M ht p e s m args below meth c H locs ls hf hr hlk hC hW hS hL
  unfold tBin at ht
  split at ht
  · exact lv_ishr hf.1 hf.2.1 hdg (hP _ _ _ _ ht p e s m args below meth c H locs ls hf hr hlk hC hW hS hL)
  · exact ht.elim
theorem ok_iushr (hdg : decode mi.2.1 pc = .ok (.iushr, 1)) : okT G mi pc (tBin (fun x y => (x.toUInt32 >>> (y.toUInt32 &&& Int32.toUInt32 31)).toInt32)) := by
  intro Q P hP al st M ht p e s m args below meth c H locs ls hf hr hlk hC hW hS hL
  unfold tBin at ht
  split at ht
  · exact lv_iushr hf.1 hf.2.1 hdg rfl (hP _ _ _ _ ht p e s m args below meth c H locs ls hf hr hlk hC hW hS hL)
  · exact ht.elim
def tDiv (f : Int32 → Int32 → Int32) : Tx := fun _ P pc al st M => match st with
  | .int y :: .int x :: st' => ¬ y = 0 ∧ P (pc + 1) al (.int (f x y) :: st') M
  | _ => False
theorem mDiv {f : Int32 → Int32 → Int32} : mono (tDiv f) := by
  intro Q P P' h pc al st M ht
  unfold tDiv at ht ⊢
  split at ht
  · exact ⟨ht.1, h _ _ _ _ ht.2⟩
  · exact ht.elim
theorem ok_idiv (hdg : decode mi.2.1 pc = .ok (.idiv, 1)) : okT G mi pc (tDiv (fun x y => x / y)) := by
  intro Q P hP al st M ht p e s m args below meth c H locs ls hf hr hlk hC hW hS hL
  unfold tDiv at ht
  split at ht
  · exact lv_idiv hf.1 hf.2.1 hdg ht.1 (hP _ _ _ _ ht.2 p e s m args below meth c H locs ls hf hr hlk hC hW hS hL)
  · exact ht.elim
theorem ok_irem (hdg : decode mi.2.1 pc = .ok (.irem, 1)) : okT G mi pc (tDiv (fun x y => x - x / y * y)) := by
  intro Q P hP al st M ht p e s m args below meth c H locs ls hf hr hlk hC hW hS hL
  unfold tDiv at ht
  split at ht
  · exact lv_irem hf.1 hf.2.1 hdg ht.1 (hP _ _ _ _ ht.2 p e s m args below meth c H locs ls hf hr hlk hC hW hS hL)
  · exact ht.elim
def tBinL (f : Int64 → Int64 → Int64) : Tx := fun _ P pc al st M => match st with
  | .long y :: .long x :: st' => P (pc + 1) al (.long (f x y) :: st') M
  | _ => False
theorem mBinL {f : Int64 → Int64 → Int64} : mono (tBinL f) := by
  intro Q P P' h pc al st M ht
  unfold tBinL at ht ⊢
  split at ht
  · exact h _ _ _ _ ht
  · exact ht.elim
theorem ok_ladd (hdg : decode mi.2.1 pc = .ok (.ladd, 1)) : okT G mi pc (tBinL (fun x y => x + y)) := by
  intro Q P hP al st M ht p e s m args below meth c H locs ls hf hr hlk hC hW hS hL
  unfold tBinL at ht
  split at ht
  · exact lv_ladd hf.1 hf.2.1 hdg (hP _ _ _ _ ht p e s m args below meth c H locs ls hf hr hlk hC hW hS hL)
  · exact ht.elim
theorem ok_lmul (hdg : decode mi.2.1 pc = .ok (.lmul, 1)) : okT G mi pc (tBinL (fun x y => x * y)) := by
  intro Q P hP al st M ht p e s m args below meth c H locs ls hf hr hlk hC hW hS hL
  unfold tBinL at ht
  split at ht
  · exact lv_lmul hf.1 hf.2.1 hdg (hP _ _ _ _ ht p e s m args below meth c H locs ls hf hr hlk hC hW hS hL)
  · exact ht.elim
def tDivL (f : Int64 → Int64 → Int64) : Tx := fun _ P pc al st M => match st with
  | .long y :: .long x :: st' => ¬ y = 0 ∧ P (pc + 1) al (.long (f x y) :: st') M
  | _ => False
theorem mDivL {f : Int64 → Int64 → Int64} : mono (tDivL f) := by
  intro Q P P' h pc al st M ht
  unfold tDivL at ht ⊢
  split at ht
  · exact ⟨ht.1, h _ _ _ _ ht.2⟩
  · exact ht.elim
theorem ok_ldiv (hdg : decode mi.2.1 pc = .ok (.ldiv, 1)) : okT G mi pc (tDivL (fun x y => x / y)) := by
  intro Q P hP al st M ht p e s m args below meth c H locs ls hf hr hlk hC hW hS hL
  unfold tDivL at ht
  split at ht
  · exact lv_ldiv hf.1 hf.2.1 hdg ht.1 (hP _ _ _ _ ht.2 p e s m args below meth c H locs ls hf hr hlk hC hW hS hL)
  · exact ht.elim
theorem ok_lrem (hdg : decode mi.2.1 pc = .ok (.lrem, 1)) : okT G mi pc (tDivL (fun x y => x - x / y * y)) := by
  intro Q P hP al st M ht p e s m args below meth c H locs ls hf hr hlk hC hW hS hL
  unfold tDivL at ht
  split at ht
  · exact lv_lrem hf.1 hf.2.1 hdg ht.1 (hP _ _ _ _ ht.2 p e s m args below meth c H locs ls hf hr hlk hC hW hS hL)
  · exact ht.elim
def tIneg : Tx := fun _ P pc al st M => match st with
  | .int x :: st' => P (pc + 1) al (.int (-x) :: st') M
  | _ => False
theorem mIneg : mono tIneg := by
  intro Q P P' h pc al st M ht
  unfold tIneg at ht ⊢
  split at ht
  · exact h _ _ _ _ ht
  · exact ht.elim
theorem ok_ineg (hdg : decode mi.2.1 pc = .ok (.ineg, 1)) : okT G mi pc tIneg := by
  intro Q P hP al st M ht p e s m args below meth c H locs ls hf hr hlk hC hW hS hL
  unfold tIneg at ht
  split at ht
  · exact lv_ineg hf.1 hf.2.1 hdg (hP _ _ _ _ ht p e s m args below meth c H locs ls hf hr hlk hC hW hS hL)
  · exact ht.elim
def tLneg : Tx := fun _ P pc al st M => match st with
  | .long x :: st' => P (pc + 1) al (.long (-x) :: st') M
  | _ => False
theorem mLneg : mono tLneg := by
  intro Q P P' h pc al st M ht
  unfold tLneg at ht ⊢
  split at ht
  · exact h _ _ _ _ ht
  · exact ht.elim
theorem ok_lneg (hdg : decode mi.2.1 pc = .ok (.lneg, 1)) : okT G mi pc tLneg := by
  intro Q P hP al st M ht p e s m args below meth c H locs ls hf hr hlk hC hW hS hL
  unfold tLneg at ht
  split at ht
  · exact lv_lneg hf.1 hf.2.1 hdg (hP _ _ _ _ ht p e s m args below meth c H locs ls hf hr hlk hC hW hS hL)
  · exact ht.elim
def tI2l : Tx := fun _ P pc al st M => match st with
  | .int x :: st' => P (pc + 1) al (.long x.toInt64 :: st') M
  | _ => False
theorem mI2l : mono tI2l := by
  intro Q P P' h pc al st M ht
  unfold tI2l at ht ⊢
  split at ht
  · exact h _ _ _ _ ht
  · exact ht.elim
theorem ok_i2l (hdg : decode mi.2.1 pc = .ok (.i2l, 1)) : okT G mi pc tI2l := by
  intro Q P hP al st M ht p e s m args below meth c H locs ls hf hr hlk hC hW hS hL
  unfold tI2l at ht
  split at ht
  · exact lv_i2l hf.1 hf.2.1 hdg rfl (hP _ _ _ _ ht p e s m args below meth c H locs ls hf hr hlk hC hW hS hL)
  · exact ht.elim
def tL2i : Tx := fun _ P pc al st M => match st with
  | .long x :: st' => P (pc + 1) al (.int x.toInt32 :: st') M
  | _ => False
theorem mL2i : mono tL2i := by
  intro Q P P' h pc al st M ht
  unfold tL2i at ht ⊢
  split at ht
  · exact h _ _ _ _ ht
  · exact ht.elim
theorem ok_l2i (hdg : decode mi.2.1 pc = .ok (.l2i, 1)) : okT G mi pc tL2i := by
  intro Q P hP al st M ht p e s m args below meth c H locs ls hf hr hlk hC hW hS hL
  unfold tL2i at ht
  split at ht
  · exact lv_l2i hf.1 hf.2.1 hdg rfl (hP _ _ _ _ ht p e s m args below meth c H locs ls hf hr hlk hC hW hS hL)
  · exact ht.elim
def tLcmp : Tx := fun _ P pc al st M => match st with
  | .long y :: .long x :: st' => P (pc + 1) al (.int (lg_cmp x y) :: st') M
  | _ => False
theorem mLcmp : mono tLcmp := by
  intro Q P P' h pc al st M ht
  unfold tLcmp at ht ⊢
  split at ht
  · exact h _ _ _ _ ht
  · exact ht.elim
theorem ok_lcmp (hdg : decode mi.2.1 pc = .ok (.lcmp, 1)) : okT G mi pc tLcmp := by
  intro Q P hP al st M ht p e s m args below meth c H locs ls hf hr hlk hC hW hS hL
  unfold tLcmp at ht
  split at ht
  · exact W.lcmp hf.1 hf.2.1 hdg (hP _ _ _ _ ht p e s m args below meth c H locs ls hf hr hlk hC hW hS hL)
  · exact ht.elim
def tDup : Tx := fun _ P pc al st M => match st with
  | v :: st' => v.category = 1 ∧ P (pc + 1) al (v :: v :: st') M
  | _ => False
theorem mDup : mono tDup := by
  intro Q P P' h pc al st M ht
  unfold tDup at ht ⊢
  split at ht
  · exact ⟨ht.1, h _ _ _ _ ht.2⟩
  · exact ht.elim
theorem ok_dup (hdg : decode mi.2.1 pc = .ok (.dup, 1)) : okT G mi pc tDup := by
  intro Q P hP al st M ht p e s m args below meth c H locs ls hf hr hlk hC hW hS hL
  unfold tDup at ht
  split at ht
  · exact lv_dup hf.1 hf.2.1 hdg (by rw [cv_cat]; exact ht.1) (hP _ _ _ _ ht.2 p e s m args below meth c H locs ls hf hr hlk hC hW hS hL)
  · exact ht.elim
def tPop : Tx := fun _ P pc al st M => match st with
  | v :: st' => v.category = 1 ∧ P (pc + 1) al st' M
  | _ => False
theorem mPop : mono tPop := by
  intro Q P P' h pc al st M ht
  unfold tPop at ht ⊢
  split at ht
  · exact ⟨ht.1, h _ _ _ _ ht.2⟩
  · exact ht.elim
theorem ok_pop (hdg : decode mi.2.1 pc = .ok (.pop, 1)) : okT G mi pc tPop := by
  intro Q P hP al st M ht p e s m args below meth c H locs ls hf hr hlk hC hW hS hL
  unfold tPop at ht
  split at ht
  · exact lv_pop hf.1 hf.2.1 hdg (by rw [cv_cat]; exact ht.1) (hP _ _ _ _ ht.2 p e s m args below meth c H locs ls hf hr hlk hC hW hS hL)
  · exact ht.elim
def tDup2 : Tx := fun _ P pc al st M => match st with
  | v :: w :: st' => (v.category = 1 ∧ w.category = 1) ∧ P (pc + 1) al (v :: w :: v :: w :: st') M
  | _ => False
theorem mDup2 : mono tDup2 := by
  intro Q P P' h pc al st M ht
  unfold tDup2 at ht ⊢
  split at ht
  · exact ⟨ht.1, h _ _ _ _ ht.2⟩
  · exact ht.elim
theorem ok_dup2 (hdg : decode mi.2.1 pc = .ok (.dup2, 1)) : okT G mi pc tDup2 := by
  intro Q P hP al st M ht p e s m args below meth c H locs ls hf hr hlk hC hW hS hL
  unfold tDup2 at ht
  split at ht
  · exact lv_dup2_11 hf.1 hf.2.1 hdg (by rw [cv_cat]; exact ht.1.1) (by rw [cv_cat]; exact ht.1.2) (hP _ _ _ _ ht.2 p e s m args below meth c H locs ls hf hr hlk hC hW hS hL)
  · exact ht.elim
def tIf (f : Int32 → Prop) (t : Nat) : Tx := fun _ P pc al st M => match st with
  | .int x :: st' => (f x → P t al st' M) ∧ (¬ f x → P (pc + 3) al st' M)
  | _ => False
theorem mIf {f : Int32 → Prop} {t : Nat} : mono (tIf f t) := by
  intro Q P P' h pc al st M ht
  unfold tIf at ht ⊢
  split at ht
  · exact ⟨fun q => h _ _ _ _ (ht.1 q), fun q => h _ _ _ _ (ht.2 q)⟩
  · exact ht.elim
theorem ok_if_eq {off : Int} {t : Nat} (hdg : decode mi.2.1 pc = .ok (.ifCond .eq off, 3)) (htg : (pc : Int) + off = (t : Int)) : okT G mi pc (tIf (fun x => x = 0) t) := by
  intro Q P hP al st M ht p e s m args below meth c H locs ls hf hr hlk hC hW hS hL
  unfold tIf at ht
  split at ht
  · exact lv_if_eq hf.1 hf.2.1 hdg htg (fun q => hP _ _ _ _ (ht.1 q) p e s m args below meth c H locs ls hf hr hlk hC hW hS hL) (fun q => hP _ _ _ _ (ht.2 q) p e s m args below meth c H locs ls hf hr hlk hC hW hS hL)
  · exact ht.elim
theorem ok_if_ne {off : Int} {t : Nat} (hdg : decode mi.2.1 pc = .ok (.ifCond .ne off, 3)) (htg : (pc : Int) + off = (t : Int)) : okT G mi pc (tIf (fun x => ¬ x = 0) t) := by
  intro Q P hP al st M ht p e s m args below meth c H locs ls hf hr hlk hC hW hS hL
  unfold tIf at ht
  split at ht
  · exact lv_if_ne hf.1 hf.2.1 hdg htg (fun q => hP _ _ _ _ (ht.1 q) p e s m args below meth c H locs ls hf hr hlk hC hW hS hL) (fun q => hP _ _ _ _ (ht.2 (fun z => z q)) p e s m args below meth c H locs ls hf hr hlk hC hW hS hL)
  · exact ht.elim
theorem ok_if_lt {off : Int} {t : Nat} (hdg : decode mi.2.1 pc = .ok (.ifCond .lt off, 3)) (htg : (pc : Int) + off = (t : Int)) : okT G mi pc (tIf (fun x => x < 0) t) := by
  intro Q P hP al st M ht p e s m args below meth c H locs ls hf hr hlk hC hW hS hL
  unfold tIf at ht
  split at ht
  · exact lv_if_lt hf.1 hf.2.1 hdg htg (fun q => hP _ _ _ _ (ht.1 q) p e s m args below meth c H locs ls hf hr hlk hC hW hS hL) (fun q => hP _ _ _ _ (ht.2 q) p e s m args below meth c H locs ls hf hr hlk hC hW hS hL)
  · exact ht.elim
theorem ok_if_ge {off : Int} {t : Nat} (hdg : decode mi.2.1 pc = .ok (.ifCond .ge off, 3)) (htg : (pc : Int) + off = (t : Int)) : okT G mi pc (tIf (fun x => 0 ≤ x) t) := by
  intro Q P hP al st M ht p e s m args below meth c H locs ls hf hr hlk hC hW hS hL
  unfold tIf at ht
  split at ht
  · exact lv_if_ge hf.1 hf.2.1 hdg htg (fun q => hP _ _ _ _ (ht.1 q) p e s m args below meth c H locs ls hf hr hlk hC hW hS hL) (fun q => hP _ _ _ _ (ht.2 q) p e s m args below meth c H locs ls hf hr hlk hC hW hS hL)
  · exact ht.elim
theorem ok_if_gt {off : Int} {t : Nat} (hdg : decode mi.2.1 pc = .ok (.ifCond .gt off, 3)) (htg : (pc : Int) + off = (t : Int)) : okT G mi pc (tIf (fun x => 0 < x) t) := by
  intro Q P hP al st M ht p e s m args below meth c H locs ls hf hr hlk hC hW hS hL
  unfold tIf at ht
  split at ht
  · exact lv_if_gt hf.1 hf.2.1 hdg htg (fun q => hP _ _ _ _ (ht.1 q) p e s m args below meth c H locs ls hf hr hlk hC hW hS hL) (fun q => hP _ _ _ _ (ht.2 q) p e s m args below meth c H locs ls hf hr hlk hC hW hS hL)
  · exact ht.elim
theorem ok_if_le {off : Int} {t : Nat} (hdg : decode mi.2.1 pc = .ok (.ifCond .le off, 3)) (htg : (pc : Int) + off = (t : Int)) : okT G mi pc (tIf (fun x => x ≤ 0) t) := by
  intro Q P hP al st M ht p e s m args below meth c H locs ls hf hr hlk hC hW hS hL
  unfold tIf at ht
  split at ht
  · exact lv_if_le hf.1 hf.2.1 hdg htg (fun q => hP _ _ _ _ (ht.1 q) p e s m args below meth c H locs ls hf hr hlk hC hW hS hL) (fun q => hP _ _ _ _ (ht.2 q) p e s m args below meth c H locs ls hf hr hlk hC hW hS hL)
  · exact ht.elim
def tIc (f : Int32 → Int32 → Prop) (t : Nat) : Tx := fun _ P pc al st M => match st with
  | .int y :: .int x :: st' => (f x y → P t al st' M) ∧ (¬ f x y → P (pc + 3) al st' M)
  | _ => False
theorem mIc {f : Int32 → Int32 → Prop} {t : Nat} : mono (tIc f t) := by
  intro Q P P' h pc al st M ht
  unfold tIc at ht ⊢
  split at ht
  · exact ⟨fun q => h _ _ _ _ (ht.1 q), fun q => h _ _ _ _ (ht.2 q)⟩
  · exact ht.elim
theorem ok_icmp_eq {off : Int} {t : Nat} (hdg : decode mi.2.1 pc = .ok (.if_icmp .eq off, 3)) (htg : (pc : Int) + off = (t : Int)) : okT G mi pc (tIc (fun x y => x = y) t) := by
  intro Q P hP al st M ht p e s m args below meth c H locs ls hf hr hlk hC hW hS hL
  unfold tIc at ht
  split at ht
  · exact lv_icmp_eq hf.1 hf.2.1 hdg htg (fun q => hP _ _ _ _ (ht.1 q) p e s m args below meth c H locs ls hf hr hlk hC hW hS hL) (fun q => hP _ _ _ _ (ht.2 q) p e s m args below meth c H locs ls hf hr hlk hC hW hS hL)
  · exact ht.elim
theorem ok_icmp_ne {off : Int} {t : Nat} (hdg : decode mi.2.1 pc = .ok (.if_icmp .ne off, 3)) (htg : (pc : Int) + off = (t : Int)) : okT G mi pc (tIc (fun x y => ¬ x = y) t) := by
  intro Q P hP al st M ht p e s m args below meth c H locs ls hf hr hlk hC hW hS hL
  unfold tIc at ht
  split at ht
  · exact lv_icmp_ne hf.1 hf.2.1 hdg htg (fun q => hP _ _ _ _ (ht.1 q) p e s m args below meth c H locs ls hf hr hlk hC hW hS hL) (fun q => hP _ _ _ _ (ht.2 (fun z => z q)) p e s m args below meth c H locs ls hf hr hlk hC hW hS hL)
  · exact ht.elim
theorem ok_icmp_lt {off : Int} {t : Nat} (hdg : decode mi.2.1 pc = .ok (.if_icmp .lt off, 3)) (htg : (pc : Int) + off = (t : Int)) : okT G mi pc (tIc (fun x y => x < y) t) := by
  intro Q P hP al st M ht p e s m args below meth c H locs ls hf hr hlk hC hW hS hL
  unfold tIc at ht
  split at ht
  · exact lv_icmp_lt hf.1 hf.2.1 hdg htg (fun q => hP _ _ _ _ (ht.1 q) p e s m args below meth c H locs ls hf hr hlk hC hW hS hL) (fun q => hP _ _ _ _ (ht.2 q) p e s m args below meth c H locs ls hf hr hlk hC hW hS hL)
  · exact ht.elim
theorem ok_icmp_ge {off : Int} {t : Nat} (hdg : decode mi.2.1 pc = .ok (.if_icmp .ge off, 3)) (htg : (pc : Int) + off = (t : Int)) : okT G mi pc (tIc (fun x y => y ≤ x) t) := by
  intro Q P hP al st M ht p e s m args below meth c H locs ls hf hr hlk hC hW hS hL
  unfold tIc at ht
  split at ht
  · exact lv_icmp_ge hf.1 hf.2.1 hdg htg (fun q => hP _ _ _ _ (ht.1 q) p e s m args below meth c H locs ls hf hr hlk hC hW hS hL) (fun q => hP _ _ _ _ (ht.2 q) p e s m args below meth c H locs ls hf hr hlk hC hW hS hL)
  · exact ht.elim
theorem ok_icmp_gt {off : Int} {t : Nat} (hdg : decode mi.2.1 pc = .ok (.if_icmp .gt off, 3)) (htg : (pc : Int) + off = (t : Int)) : okT G mi pc (tIc (fun x y => y < x) t) := by
  intro Q P hP al st M ht p e s m args below meth c H locs ls hf hr hlk hC hW hS hL
  unfold tIc at ht
  split at ht
  · exact lv_icmp_gt hf.1 hf.2.1 hdg htg (fun q => hP _ _ _ _ (ht.1 q) p e s m args below meth c H locs ls hf hr hlk hC hW hS hL) (fun q => hP _ _ _ _ (ht.2 q) p e s m args below meth c H locs ls hf hr hlk hC hW hS hL)
  · exact ht.elim
theorem ok_icmp_le {off : Int} {t : Nat} (hdg : decode mi.2.1 pc = .ok (.if_icmp .le off, 3)) (htg : (pc : Int) + off = (t : Int)) : okT G mi pc (tIc (fun x y => x ≤ y) t) := by
  intro Q P hP al st M ht p e s m args below meth c H locs ls hf hr hlk hC hW hS hL
  unfold tIc at ht
  split at ht
  · exact lv_icmp_le hf.1 hf.2.1 hdg htg (fun q => hP _ _ _ _ (ht.1 q) p e s m args below meth c H locs ls hf hr hlk hC hW hS hL) (fun q => hP _ _ _ _ (ht.2 q) p e s m args below meth c H locs ls hf hr hlk hC hW hS hL)
  · exact ht.elim
def tGoto (t : Nat) : Tx := fun _ P _ al st M => P t al st M
theorem mGoto {t : Nat} : mono (tGoto t) := fun _ _ _ h _ _ _ _ ht => h _ _ _ _ ht
theorem ok_goto {off : Int} {t : Nat} (hdg : decode mi.2.1 pc = .ok (.goto off, 3)) (htg : (pc : Int) + off = (t : Int)) : okT G mi pc (tGoto t) := by
  intro Q P hP al st M ht p e s m args below meth c H locs ls hf hr hlk hC hW hS hL
  exact lv_goto hf.1 hf.2.1 hdg htg (hP _ _ _ _ ht p e s m args below meth c H locs ls hf hr hlk hC hW hS hL)
end TXS
