/-! the constructors of the class: what each makes -/
def mkX2 (a : Nat → Nat) : va_W := [(a 0, .inr (2, [.long 1]))]
def mkX0 (cI : ClassId) (a : Nat → Nat) : va_W := [(a 0, .inr (0, [.ref (a 1), .int 0, .int 0])), (a 1, .inl (cI, 6, .inl (fun _ => 0)))]
def mkX5 (cI : ClassId) (a : Nat → Nat) : va_W := [(a 0, .inr (5, [.ref (a 1), .ref (a 2), .ref (a 3), .ref (a 4), .ref (a 5), .int 0, .int 0, .int 0, .int 0])), (a 1, .inl (cI, 6, .inl (fun _ => 0))), (a 2, .inl (cI, 6, .inl (fun _ => 0))), (a 3, .inl (cI, 6, .inl (fun _ => 0))), (a 4, .inl (cI, 6, .inl (fun _ => 0))), (a 5, .inl (cI, 6, .inl (fun _ => 0)))]
def mkX3 (cI : ClassId) (a : Nat → Nat) : va_W := [(a 0, .inr (3, [.ref (a 1), .ref (a 2), .ref (a 3), .int 0, .int 0, .int 0, .int 0, .int 0])), (a 1, .inl (cI, 36, .inl (fun _ => 0))), (a 2, .inl (cI, 448, .inl (fun _ => 0))), (a 3, .inl (cI, 6, .inl (fun _ => 0)))]
def mkX1 (cI : ClassId) (a : Nat → Nat) : va_W := [(a 0, .inr (1, [.int 4, .int 4, .ref (a 1), .ref (a 2), .ref (a 3), .ref (a 4), .int 0, .int 0, .int 0])), (a 1, .inl (cI, 64, .inl (fun _ => 0))), (a 2, .inl (cI, 64, .inl (fun _ => 0))), (a 3, .inl (cI, 64, .inl (fun _ => 0))), (a 4, .inl (cI, 64, .inl (fun _ => -1)))]
def mkX4 (cI : ClassId) (a : Nat → Nat) : va_W := [(a 0, .inr (4, [.ref (a 1), .ref (a 2), .ref (a 7), .ref (a 9), .int 0, .int 0, .int 0])), (a 1, .inl (cI, 4, .inl fbv))] ++ mkX1 cI (fun j => a (j + 2)) ++ mkX0 cI (fun j => a (j + 7)) ++ mkX5 cI (fun j => a (j + 9))
def mkX6 (cI : ClassId) (a : Nat → Nat) : va_W := [(a 0, .inr (6, [.ref (a 1), .ref (a 16), .ref (a 31), .ref (a 46), .ref (a 50), .int 0]))] ++ mkX4 cI (fun j => a (j + 1)) ++ mkX4 cI (fun j => a (j + 16)) ++ mkX4 cI (fun j => a (j + 31)) ++ mkX3 cI (fun j => a (j + 46)) ++ mkX2 (fun j => a (j + 50))
theorem fillPerm (o x0 x1 x2 x3 : Nat × va_E) (ws : va_W) : (o :: x0 :: x1 :: x2 :: x3 :: ws).Perm (x3 :: o :: x0 :: x1 :: x2 :: ws) := List.perm_middle (l₁ := [o, x0, x1, x2]) (a := x3) (l₂ := ws)
section CFILL
variable {G : Gt} {p : Program} {e : Env} {R : Room} {s : State} {m : MethodId} {args : Array Value} {below : List Frame} {meth : Method} {c : Code} {H : Heap} {locs : List Loc} {cells slots : Nat} {Q : State → Prop} {cc : ByteArray} {pc : Nat} {ls : Array Slot} {rest : List Value} {L : va_W}
theorem cFill {nL : Nat} {y : MethodName} {q N : Nat} {f : Nat → Int32} {v : Int32} (hf : CallFix p m c cc nL s args (uws y cc nL none) RX1) (hK : Kc G s) (hP : PD G ((q, .inl (G.2.2.2.1, N, .inl f)) :: L) H) (hS : va_S (Asb G.2.2.2.2.2) s.heap H locs) (hN : N ≤ 1000) (hfr : 1 ≤ R.frames) (hlo : 23 ≤ R.locals) (hls : ls.size = nL) (hcat : (rest.map fun v => v.category).sum ≤ 8) (hroom : cells ≤ R.cells ∧ slots ≤ R.slots) (hdg : decode cc pc = .ok (.invokestatic 40, 3))
    (kk : ∀ (H1 : Heap) (locs1 : List Loc), PD G ((q, .inl (G.2.2.2.1, N, .inl (fun _ => v))) :: L) H1 → va_S (Asb G.2.2.2.2.2) s.heap H1 locs1 → W p G.1 e R s m args below meth c H1 locs1 cells slots Q (F0 m (pc + 3) ls rest)) : W p G.1 e R s m args below meth c H locs cells slots Q (F0 m pc ls (.int v :: .ref q :: rest)) := by
  have hU : ∀ w ∈ UW, w.before args s = true := fun w h => hf.2.2.2.2 w (List.mem_cons_of_mem _ h)
  refine va_callv (va_runS (As := [.ref q, .int v]) (rest := rest) (bytes := cJ7_fill_53178) (maxL := 4) (n := 2) hf (i_fill G q N f v L hN) ⟨callB_of 2 hf.2.2.2.2 (goodU u_1_44) rfl rfl rfl (hU _ u_1_4) (hU _ u_1_42) (by decide +kernel) ⟨hfr, hlo⟩, hU _ u_1_43⟩ ⟨fun a U g mk h => ⟨h.1, h.2.1, h.2.2.blind⟩, fun U hUh hW => ⟨rfl, by show PD G _ U.heap; rw [hUh]; exact hP, hK.at hS hUh hW⟩⟩ rfl rfl hls rfl (lv_room hcat) hdg hroom) hS (fun _ _ h => h) (fun _ h => h) (fun u t H1 locs1 ht hvm hw hB hz1 hk1 hS1 => ?_)
  refine kk H1 locs1 ?_ hS1
  rw [← ht]
  exact hB
end CFILL
theorem fsX2 : ∀ j, j < 1 → defaultValue (tyX2 j) = vp_V [.long 0] j := by
  intro j hj
  match j, hj with
  | 0, _ => rfl
set_option maxHeartbeats 4000000 in
set_option maxRecDepth 100000 in
theorem i_X2 (G : Gt) : Ct G yX2_init cX2_init { frames := 1, cells := 0, slots := 0, locals := 12 } 2 [.long 0] (mkX2) := by
  intro ws h0
  refine Met.ofW (cc := cX2_init) (maxL := 1) (ret := none) (by decide) rfl ?_
  intro p e s m args below meth c s₁ B hml hv
  obtain ⟨rfl, hP, hK⟩ := hv
  have hx := B.exec
  have hb := B.bytes
  have hr := B.returns
  have hts := atoms_spec (ws := uws yX2_init cX2_init 1 none) B.pre
  have hU : ∀ w ∈ UW, w.before #[Value.ref h0] s = true := fun w h => hts w (List.mem_cons_of_mem _ h)
  have hown : s.vm.findClass RX2 = some m.cls := findClass_of_methodNamed B.named
  have hin : meth.name = "<init>" := (name_of_methodNamed B.named B.method).1
  have hlk : meth.locks = false := B.notSynchronized
  have hS : va_S (Asb G.2.2.2.2.2) s.heap s.heap [] := va_S.rf
  have hl := lv_entry ([.ref h0]) (n := 1) (Nat.le_of_ble_eq_true rfl)
  rw [lg_entry_eq]
  generalize (lg_sl ([.ref h0]) ++ List.replicate (1 - (lg_sl ([.ref h0])).length) Slot.unset).toArray = ls at hl ⊢
  have hl : lv_has ls 1 [(0, .ref h0)] := hl
  refine lv_aload_n hx hb dX2_init_0 rfl (lv_at hl 0 rfl) ?_
  refine W.objInit hx hb hown (hU (.methodLink RX2 1 objectInit) (mU (by decide +kernel) rfl)) (hU (.instanceMethod objectInit) (mU (by decide +kernel) rfl)) (hU (.code objectInit ⟨#[0xb1]⟩ 1 none) (mU (by decide +kernel) rfl)) rfl (by rw [hml]; exact hl.1) rfl dX2_init_1 (Nat.le_of_ble_eq_true rfl) (Nat.le_of_ble_eq_true rfl) ?_
  refine W.eq (g2 := F0 m 4 ls []) rfl ?_
  refine lv_aload_n hx hb dX2_init_4 rfl (lv_at hl 0 rfl) ?_
  refine lv_lconst (v := 1) hx hb dX2_init_5 (by decide) ?_
  refine cPut hx hb hU (C := RX2) (T := TX2) (N := 1) (ci := 2) (own := RX2) inUX2 tyX2 tyX2_ok nmX2 hown rfl hK hP hS 0 (by decide) (mU (by decide +kernel) rfl) (Or.inl rfl) (ty := .long) (v := .long 1) (by decide +kernel) rfl rfl (Nat.le_of_ble_eq_true rfl) dX2_init_6 (fun H locs hP hS => ?_)
  have hP : PD G ((h0, .inr (2, [.long 1])) :: (([]) ++ ws)) _ := hP
  refine W.widen (k := 0) (n := 0) (Nat.le_refl _) (Nat.le_refl _) ?_
  exact W.vret hx hb hr (fun t ht hW => ⟨⟨fun j => [h0].getD j 0, rfl, rfl, by show PD G _ t.heap; rw [ht]; exact hP⟩, hS.F ht⟩) hS.2.2 dX2_init_9
theorem fsX0 : ∀ j, j < 3 → defaultValue (tyX0 j) = vp_V [.null, .int 0, .int 0] j := by
  intro j hj
  match j, hj with
  | 0, _ => rfl
  | 1, _ => rfl
  | 2, _ => rfl
set_option maxHeartbeats 4000000 in
set_option maxRecDepth 100000 in
theorem i_X0 (G : Gt) : Ct G yX0_init cX0_init { frames := 1, cells := 1, slots := 6, locals := 12 } 0 [.null, .int 0, .int 0] (mkX0 G.2.2.2.1) := by
  intro ws h0
  refine Met.ofW (cc := cX0_init) (maxL := 1) (ret := none) (by decide) rfl ?_
  intro p e s m args below meth c s₁ B hml hv
  obtain ⟨rfl, hP, hK⟩ := hv
  have hx := B.exec
  have hb := B.bytes
  have hr := B.returns
  have hts := atoms_spec (ws := uws yX0_init cX0_init 1 none) B.pre
  have hU : ∀ w ∈ UW, w.before #[Value.ref h0] s = true := fun w h => hts w (List.mem_cons_of_mem _ h)
  have hown : s.vm.findClass RX0 = some m.cls := findClass_of_methodNamed B.named
  have hin : meth.name = "<init>" := (name_of_methodNamed B.named B.method).1
  have hlk : meth.locks = false := B.notSynchronized
  have hS : va_S (Asb G.2.2.2.2.2) s.heap s.heap [] := va_S.rf
  have hl := lv_entry ([.ref h0]) (n := 1) (Nat.le_of_ble_eq_true rfl)
  rw [lg_entry_eq]
  generalize (lg_sl ([.ref h0]) ++ List.replicate (1 - (lg_sl ([.ref h0])).length) Slot.unset).toArray = ls at hl ⊢
  have hl : lv_has ls 1 [(0, .ref h0)] := hl
  refine lv_aload_n hx hb dX0_init_0 rfl (lv_at hl 0 rfl) ?_
  refine W.objInit hx hb hown (hU (.methodLink RX0 3 objectInit) (mU (by decide +kernel) rfl)) (hU (.instanceMethod objectInit) (mU (by decide +kernel) rfl)) (hU (.code objectInit ⟨#[0xb1]⟩ 1 none) (mU (by decide +kernel) rfl)) rfl (by rw [hml]; exact hl.1) rfl dX0_init_1 (Nat.le_of_ble_eq_true rfl) (Nat.le_of_ble_eq_true rfl) ?_
  refine W.eq (g2 := F0 m 4 ls []) rfl ?_
  refine lv_aload_n hx hb dX0_init_4 rfl (lv_at hl 0 rfl) ?_
  refine lv_bipush (v := 6) hx hb dX0_init_5 (by decide) ?_
  have hP : PD G (((h0, .inr (0, [.null, .int 0, .int 0])) :: ([])) ++ ws) _ := hP
  refine cNewI hx hb (hU (.arrayClass .int) (mU (by decide +kernel) rfl)) hK hP hS 6 (by decide) (by decide) (by decide) (Nat.le_of_ble_eq_true rfl) (Nat.le_of_ble_eq_true rfl) dX0_init_7 (fun q0 H hP hS => ?_)
  have hP : PD G ((h0, .inr (0, [.null, .int 0, .int 0])) :: (([(q0, .inl (G.2.2.2.1, 6, .inl (fun _ => 0)))]) ++ ws)) _ := hP
  refine cPut hx hb hU (C := RX0) (T := TX0) (N := 3) (ci := 0) (own := RX0) inUX0 tyX0 tyX0_ok nmX0 hown rfl hK hP hS 0 (by decide) (mU (by decide +kernel) rfl) (Or.inr ⟨rfl, hin, rfl⟩) (ty := .array .int) (v := .ref q0) (by decide +kernel) rfl rfl (Nat.le_of_ble_eq_true rfl) dX0_init_9 (fun H locs hP hS => ?_)
  have hP : PD G ((h0, .inr (0, [.ref q0, .int 0, .int 0])) :: (([(q0, .inl (G.2.2.2.1, 6, .inl (fun _ => 0)))]) ++ ws)) _ := hP
  refine lv_aload_n hx hb dX0_init_12 rfl (lv_at hl 0 rfl) ?_
  refine lv_iconst (v := 0) hx hb dX0_init_13 (by decide) ?_
  refine cPut hx hb hU (C := RX0) (T := TX0) (N := 3) (ci := 0) (own := RX0) inUX0 tyX0 tyX0_ok nmX0 hown rfl hK hP hS 1 (by decide) (mU (by decide +kernel) rfl) (Or.inl rfl) (ty := .int) (v := .int 0) (by decide +kernel) rfl rfl (Nat.le_of_ble_eq_true rfl) dX0_init_14 (fun H locs hP hS => ?_)
  have hP : PD G ((h0, .inr (0, [.ref q0, .int 0, .int 0])) :: (([(q0, .inl (G.2.2.2.1, 6, .inl (fun _ => 0)))]) ++ ws)) _ := hP
  refine lv_aload_n hx hb dX0_init_17 rfl (lv_at hl 0 rfl) ?_
  refine lv_iconst (v := 0) hx hb dX0_init_18 (by decide) ?_
  refine cPut hx hb hU (C := RX0) (T := TX0) (N := 3) (ci := 0) (own := RX0) inUX0 tyX0 tyX0_ok nmX0 hown rfl hK hP hS 2 (by decide) (mU (by decide +kernel) rfl) (Or.inl rfl) (ty := .int) (v := .int 0) (by decide +kernel) rfl rfl (Nat.le_of_ble_eq_true rfl) dX0_init_19 (fun H locs hP hS => ?_)
  have hP : PD G ((h0, .inr (0, [.ref q0, .int 0, .int 0])) :: (([(q0, .inl (G.2.2.2.1, 6, .inl (fun _ => 0)))]) ++ ws)) _ := hP
  refine W.widen (k := 1) (n := 6) (Nat.le_refl _) (Nat.le_refl _) ?_
  exact W.vret hx hb hr (fun t ht hW => ⟨⟨fun j => [h0, q0].getD j 0, rfl, rfl, by show PD G _ t.heap; rw [ht]; exact hP⟩, hS.F ht⟩) hS.2.2 dX0_init_22
theorem fsX5 : ∀ j, j < 9 → defaultValue (tyX5 j) = vp_V [.null, .null, .null, .null, .null, .int 0, .int 0, .int 0, .int 0] j := by
  intro j hj
  match j, hj with
  | 0, _ => rfl
  | 1, _ => rfl
  | 2, _ => rfl
  | 3, _ => rfl
  | 4, _ => rfl
  | 5, _ => rfl
  | 6, _ => rfl
  | 7, _ => rfl
  | 8, _ => rfl
set_option maxHeartbeats 4000000 in
set_option maxRecDepth 100000 in
theorem i_X5 (G : Gt) : Ct G yX5_init cX5_init { frames := 1, cells := 5, slots := 30, locals := 12 } 5 [.null, .null, .null, .null, .null, .int 0, .int 0, .int 0, .int 0] (mkX5 G.2.2.2.1) := by
  intro ws h0
  refine Met.ofW (cc := cX5_init) (maxL := 1) (ret := none) (by decide) rfl ?_
  intro p e s m args below meth c s₁ B hml hv
  obtain ⟨rfl, hP, hK⟩ := hv
  have hx := B.exec
  have hb := B.bytes
  have hr := B.returns
  have hts := atoms_spec (ws := uws yX5_init cX5_init 1 none) B.pre
  have hU : ∀ w ∈ UW, w.before #[Value.ref h0] s = true := fun w h => hts w (List.mem_cons_of_mem _ h)
  have hown : s.vm.findClass RX5 = some m.cls := findClass_of_methodNamed B.named
  have hin : meth.name = "<init>" := (name_of_methodNamed B.named B.method).1
  have hlk : meth.locks = false := B.notSynchronized
  have hS : va_S (Asb G.2.2.2.2.2) s.heap s.heap [] := va_S.rf
  have hl := lv_entry ([.ref h0]) (n := 1) (Nat.le_of_ble_eq_true rfl)
  rw [lg_entry_eq]
  generalize (lg_sl ([.ref h0]) ++ List.replicate (1 - (lg_sl ([.ref h0])).length) Slot.unset).toArray = ls at hl ⊢
  have hl : lv_has ls 1 [(0, .ref h0)] := hl
  refine lv_aload_n hx hb dX5_init_0 rfl (lv_at hl 0 rfl) ?_
  refine W.objInit hx hb hown (hU (.methodLink RX5 3 objectInit) (mU (by decide +kernel) rfl)) (hU (.instanceMethod objectInit) (mU (by decide +kernel) rfl)) (hU (.code objectInit ⟨#[0xb1]⟩ 1 none) (mU (by decide +kernel) rfl)) rfl (by rw [hml]; exact hl.1) rfl dX5_init_1 (Nat.le_of_ble_eq_true rfl) (Nat.le_of_ble_eq_true rfl) ?_
  refine W.eq (g2 := F0 m 4 ls []) rfl ?_
  refine lv_aload_n hx hb dX5_init_4 rfl (lv_at hl 0 rfl) ?_
  refine lv_bipush (v := 6) hx hb dX5_init_5 (by decide) ?_
  have hP : PD G (((h0, .inr (5, [.null, .null, .null, .null, .null, .int 0, .int 0, .int 0, .int 0])) :: ([])) ++ ws) _ := hP
  refine cNewI hx hb (hU (.arrayClass .int) (mU (by decide +kernel) rfl)) hK hP hS 6 (by decide) (by decide) (by decide) (Nat.le_of_ble_eq_true rfl) (Nat.le_of_ble_eq_true rfl) dX5_init_7 (fun q0 H hP hS => ?_)
  have hP : PD G ((h0, .inr (5, [.null, .null, .null, .null, .null, .int 0, .int 0, .int 0, .int 0])) :: (([(q0, .inl (G.2.2.2.1, 6, .inl (fun _ => 0)))]) ++ ws)) _ := hP
  refine cPut hx hb hU (C := RX5) (T := TX5) (N := 9) (ci := 5) (own := RX5) inUX5 tyX5 tyX5_ok nmX5 hown rfl hK hP hS 0 (by decide) (mU (by decide +kernel) rfl) (Or.inr ⟨rfl, hin, rfl⟩) (ty := .array .int) (v := .ref q0) (by decide +kernel) rfl rfl (Nat.le_of_ble_eq_true rfl) dX5_init_9 (fun H locs hP hS => ?_)
  have hP : PD G ((h0, .inr (5, [.ref q0, .null, .null, .null, .null, .int 0, .int 0, .int 0, .int 0])) :: (([(q0, .inl (G.2.2.2.1, 6, .inl (fun _ => 0)))]) ++ ws)) _ := hP
  refine lv_aload_n hx hb dX5_init_12 rfl (lv_at hl 0 rfl) ?_
  refine lv_bipush (v := 6) hx hb dX5_init_13 (by decide) ?_
  have hP : PD G (((h0, .inr (5, [.ref q0, .null, .null, .null, .null, .int 0, .int 0, .int 0, .int 0])) :: ([(q0, .inl (G.2.2.2.1, 6, .inl (fun _ => 0)))])) ++ ws) _ := hP
  refine cNewI hx hb (hU (.arrayClass .int) (mU (by decide +kernel) rfl)) hK hP hS 6 (by decide) (by decide) (by decide) (Nat.le_of_ble_eq_true rfl) (Nat.le_of_ble_eq_true rfl) dX5_init_15 (fun q1 H hP hS => ?_)
  have hP : PD G ((h0, .inr (5, [.ref q0, .null, .null, .null, .null, .int 0, .int 0, .int 0, .int 0])) :: (([(q0, .inl (G.2.2.2.1, 6, .inl (fun _ => 0)))] ++ [(q1, .inl (G.2.2.2.1, 6, .inl (fun _ => 0)))]) ++ ws)) _ := hP
  refine cPut hx hb hU (C := RX5) (T := TX5) (N := 9) (ci := 5) (own := RX5) inUX5 tyX5 tyX5_ok nmX5 hown rfl hK hP hS 1 (by decide) (mU (by decide +kernel) rfl) (Or.inr ⟨rfl, hin, rfl⟩) (ty := .array .int) (v := .ref q1) (by decide +kernel) rfl rfl (Nat.le_of_ble_eq_true rfl) dX5_init_17 (fun H locs hP hS => ?_)
  have hP : PD G ((h0, .inr (5, [.ref q0, .ref q1, .null, .null, .null, .int 0, .int 0, .int 0, .int 0])) :: (([(q0, .inl (G.2.2.2.1, 6, .inl (fun _ => 0)))] ++ [(q1, .inl (G.2.2.2.1, 6, .inl (fun _ => 0)))]) ++ ws)) _ := hP
  refine lv_aload_n hx hb dX5_init_20 rfl (lv_at hl 0 rfl) ?_
  refine lv_bipush (v := 6) hx hb dX5_init_21 (by decide) ?_
  have hP : PD G (((h0, .inr (5, [.ref q0, .ref q1, .null, .null, .null, .int 0, .int 0, .int 0, .int 0])) :: ([(q0, .inl (G.2.2.2.1, 6, .inl (fun _ => 0)))] ++ [(q1, .inl (G.2.2.2.1, 6, .inl (fun _ => 0)))])) ++ ws) _ := hP
  refine cNewI hx hb (hU (.arrayClass .int) (mU (by decide +kernel) rfl)) hK hP hS 6 (by decide) (by decide) (by decide) (Nat.le_of_ble_eq_true rfl) (Nat.le_of_ble_eq_true rfl) dX5_init_23 (fun q2 H hP hS => ?_)
  have hP : PD G ((h0, .inr (5, [.ref q0, .ref q1, .null, .null, .null, .int 0, .int 0, .int 0, .int 0])) :: (([(q0, .inl (G.2.2.2.1, 6, .inl (fun _ => 0)))] ++ [(q1, .inl (G.2.2.2.1, 6, .inl (fun _ => 0)))] ++ [(q2, .inl (G.2.2.2.1, 6, .inl (fun _ => 0)))]) ++ ws)) _ := hP
  refine cPut hx hb hU (C := RX5) (T := TX5) (N := 9) (ci := 5) (own := RX5) inUX5 tyX5 tyX5_ok nmX5 hown rfl hK hP hS 2 (by decide) (mU (by decide +kernel) rfl) (Or.inr ⟨rfl, hin, rfl⟩) (ty := .array .int) (v := .ref q2) (by decide +kernel) rfl rfl (Nat.le_of_ble_eq_true rfl) dX5_init_25 (fun H locs hP hS => ?_)
  have hP : PD G ((h0, .inr (5, [.ref q0, .ref q1, .ref q2, .null, .null, .int 0, .int 0, .int 0, .int 0])) :: (([(q0, .inl (G.2.2.2.1, 6, .inl (fun _ => 0)))] ++ [(q1, .inl (G.2.2.2.1, 6, .inl (fun _ => 0)))] ++ [(q2, .inl (G.2.2.2.1, 6, .inl (fun _ => 0)))]) ++ ws)) _ := hP
  refine lv_aload_n hx hb dX5_init_28 rfl (lv_at hl 0 rfl) ?_
  refine lv_bipush (v := 6) hx hb dX5_init_29 (by decide) ?_
  have hP : PD G (((h0, .inr (5, [.ref q0, .ref q1, .ref q2, .null, .null, .int 0, .int 0, .int 0, .int 0])) :: ([(q0, .inl (G.2.2.2.1, 6, .inl (fun _ => 0)))] ++ [(q1, .inl (G.2.2.2.1, 6, .inl (fun _ => 0)))] ++ [(q2, .inl (G.2.2.2.1, 6, .inl (fun _ => 0)))])) ++ ws) _ := hP
  refine cNewI hx hb (hU (.arrayClass .int) (mU (by decide +kernel) rfl)) hK hP hS 6 (by decide) (by decide) (by decide) (Nat.le_of_ble_eq_true rfl) (Nat.le_of_ble_eq_true rfl) dX5_init_31 (fun q3 H hP hS => ?_)
  have hP : PD G ((h0, .inr (5, [.ref q0, .ref q1, .ref q2, .null, .null, .int 0, .int 0, .int 0, .int 0])) :: (([(q0, .inl (G.2.2.2.1, 6, .inl (fun _ => 0)))] ++ [(q1, .inl (G.2.2.2.1, 6, .inl (fun _ => 0)))] ++ [(q2, .inl (G.2.2.2.1, 6, .inl (fun _ => 0)))] ++ [(q3, .inl (G.2.2.2.1, 6, .inl (fun _ => 0)))]) ++ ws)) _ := hP
  refine cPut hx hb hU (C := RX5) (T := TX5) (N := 9) (ci := 5) (own := RX5) inUX5 tyX5 tyX5_ok nmX5 hown rfl hK hP hS 3 (by decide) (mU (by decide +kernel) rfl) (Or.inr ⟨rfl, hin, rfl⟩) (ty := .array .int) (v := .ref q3) (by decide +kernel) rfl rfl (Nat.le_of_ble_eq_true rfl) dX5_init_33 (fun H locs hP hS => ?_)
  have hP : PD G ((h0, .inr (5, [.ref q0, .ref q1, .ref q2, .ref q3, .null, .int 0, .int 0, .int 0, .int 0])) :: (([(q0, .inl (G.2.2.2.1, 6, .inl (fun _ => 0)))] ++ [(q1, .inl (G.2.2.2.1, 6, .inl (fun _ => 0)))] ++ [(q2, .inl (G.2.2.2.1, 6, .inl (fun _ => 0)))] ++ [(q3, .inl (G.2.2.2.1, 6, .inl (fun _ => 0)))]) ++ ws)) _ := hP
  refine lv_aload_n hx hb dX5_init_36 rfl (lv_at hl 0 rfl) ?_
  refine lv_bipush (v := 6) hx hb dX5_init_37 (by decide) ?_
  have hP : PD G (((h0, .inr (5, [.ref q0, .ref q1, .ref q2, .ref q3, .null, .int 0, .int 0, .int 0, .int 0])) :: ([(q0, .inl (G.2.2.2.1, 6, .inl (fun _ => 0)))] ++ [(q1, .inl (G.2.2.2.1, 6, .inl (fun _ => 0)))] ++ [(q2, .inl (G.2.2.2.1, 6, .inl (fun _ => 0)))] ++ [(q3, .inl (G.2.2.2.1, 6, .inl (fun _ => 0)))])) ++ ws) _ := hP
  refine cNewI hx hb (hU (.arrayClass .int) (mU (by decide +kernel) rfl)) hK hP hS 6 (by decide) (by decide) (by decide) (Nat.le_of_ble_eq_true rfl) (Nat.le_of_ble_eq_true rfl) dX5_init_39 (fun q4 H hP hS => ?_)
  have hP : PD G ((h0, .inr (5, [.ref q0, .ref q1, .ref q2, .ref q3, .null, .int 0, .int 0, .int 0, .int 0])) :: (([(q0, .inl (G.2.2.2.1, 6, .inl (fun _ => 0)))] ++ [(q1, .inl (G.2.2.2.1, 6, .inl (fun _ => 0)))] ++ [(q2, .inl (G.2.2.2.1, 6, .inl (fun _ => 0)))] ++ [(q3, .inl (G.2.2.2.1, 6, .inl (fun _ => 0)))] ++ [(q4, .inl (G.2.2.2.1, 6, .inl (fun _ => 0)))]) ++ ws)) _ := hP
  refine cPut hx hb hU (C := RX5) (T := TX5) (N := 9) (ci := 5) (own := RX5) inUX5 tyX5 tyX5_ok nmX5 hown rfl hK hP hS 4 (by decide) (mU (by decide +kernel) rfl) (Or.inr ⟨rfl, hin, rfl⟩) (ty := .array .int) (v := .ref q4) (by decide +kernel) rfl rfl (Nat.le_of_ble_eq_true rfl) dX5_init_41 (fun H locs hP hS => ?_)
  have hP : PD G ((h0, .inr (5, [.ref q0, .ref q1, .ref q2, .ref q3, .ref q4, .int 0, .int 0, .int 0, .int 0])) :: (([(q0, .inl (G.2.2.2.1, 6, .inl (fun _ => 0)))] ++ [(q1, .inl (G.2.2.2.1, 6, .inl (fun _ => 0)))] ++ [(q2, .inl (G.2.2.2.1, 6, .inl (fun _ => 0)))] ++ [(q3, .inl (G.2.2.2.1, 6, .inl (fun _ => 0)))] ++ [(q4, .inl (G.2.2.2.1, 6, .inl (fun _ => 0)))]) ++ ws)) _ := hP
  refine lv_aload_n hx hb dX5_init_44 rfl (lv_at hl 0 rfl) ?_
  refine lv_iconst (v := 0) hx hb dX5_init_45 (by decide) ?_
  refine cPut hx hb hU (C := RX5) (T := TX5) (N := 9) (ci := 5) (own := RX5) inUX5 tyX5 tyX5_ok nmX5 hown rfl hK hP hS 5 (by decide) (mU (by decide +kernel) rfl) (Or.inl rfl) (ty := .int) (v := .int 0) (by decide +kernel) rfl rfl (Nat.le_of_ble_eq_true rfl) dX5_init_46 (fun H locs hP hS => ?_)
  have hP : PD G ((h0, .inr (5, [.ref q0, .ref q1, .ref q2, .ref q3, .ref q4, .int 0, .int 0, .int 0, .int 0])) :: (([(q0, .inl (G.2.2.2.1, 6, .inl (fun _ => 0)))] ++ [(q1, .inl (G.2.2.2.1, 6, .inl (fun _ => 0)))] ++ [(q2, .inl (G.2.2.2.1, 6, .inl (fun _ => 0)))] ++ [(q3, .inl (G.2.2.2.1, 6, .inl (fun _ => 0)))] ++ [(q4, .inl (G.2.2.2.1, 6, .inl (fun _ => 0)))]) ++ ws)) _ := hP
  refine lv_aload_n hx hb dX5_init_49 rfl (lv_at hl 0 rfl) ?_
  refine lv_iconst (v := 0) hx hb dX5_init_50 (by decide) ?_
  refine cPut hx hb hU (C := RX5) (T := TX5) (N := 9) (ci := 5) (own := RX5) inUX5 tyX5 tyX5_ok nmX5 hown rfl hK hP hS 6 (by decide) (mU (by decide +kernel) rfl) (Or.inl rfl) (ty := .int) (v := .int 0) (by decide +kernel) rfl rfl (Nat.le_of_ble_eq_true rfl) dX5_init_51 (fun H locs hP hS => ?_)
  have hP : PD G ((h0, .inr (5, [.ref q0, .ref q1, .ref q2, .ref q3, .ref q4, .int 0, .int 0, .int 0, .int 0])) :: (([(q0, .inl (G.2.2.2.1, 6, .inl (fun _ => 0)))] ++ [(q1, .inl (G.2.2.2.1, 6, .inl (fun _ => 0)))] ++ [(q2, .inl (G.2.2.2.1, 6, .inl (fun _ => 0)))] ++ [(q3, .inl (G.2.2.2.1, 6, .inl (fun _ => 0)))] ++ [(q4, .inl (G.2.2.2.1, 6, .inl (fun _ => 0)))]) ++ ws)) _ := hP
  refine lv_aload_n hx hb dX5_init_54 rfl (lv_at hl 0 rfl) ?_
  refine lv_iconst (v := 0) hx hb dX5_init_55 (by decide) ?_
  refine cPut hx hb hU (C := RX5) (T := TX5) (N := 9) (ci := 5) (own := RX5) inUX5 tyX5 tyX5_ok nmX5 hown rfl hK hP hS 7 (by decide) (mU (by decide +kernel) rfl) (Or.inl rfl) (ty := .int) (v := .int 0) (by decide +kernel) rfl rfl (Nat.le_of_ble_eq_true rfl) dX5_init_56 (fun H locs hP hS => ?_)
  have hP : PD G ((h0, .inr (5, [.ref q0, .ref q1, .ref q2, .ref q3, .ref q4, .int 0, .int 0, .int 0, .int 0])) :: (([(q0, .inl (G.2.2.2.1, 6, .inl (fun _ => 0)))] ++ [(q1, .inl (G.2.2.2.1, 6, .inl (fun _ => 0)))] ++ [(q2, .inl (G.2.2.2.1, 6, .inl (fun _ => 0)))] ++ [(q3, .inl (G.2.2.2.1, 6, .inl (fun _ => 0)))] ++ [(q4, .inl (G.2.2.2.1, 6, .inl (fun _ => 0)))]) ++ ws)) _ := hP
  refine lv_aload_n hx hb dX5_init_59 rfl (lv_at hl 0 rfl) ?_
  refine lv_iconst (v := 0) hx hb dX5_init_60 (by decide) ?_
  refine cPut hx hb hU (C := RX5) (T := TX5) (N := 9) (ci := 5) (own := RX5) inUX5 tyX5 tyX5_ok nmX5 hown rfl hK hP hS 8 (by decide) (mU (by decide +kernel) rfl) (Or.inl rfl) (ty := .int) (v := .int 0) (by decide +kernel) rfl rfl (Nat.le_of_ble_eq_true rfl) dX5_init_61 (fun H locs hP hS => ?_)
  have hP : PD G ((h0, .inr (5, [.ref q0, .ref q1, .ref q2, .ref q3, .ref q4, .int 0, .int 0, .int 0, .int 0])) :: (([(q0, .inl (G.2.2.2.1, 6, .inl (fun _ => 0)))] ++ [(q1, .inl (G.2.2.2.1, 6, .inl (fun _ => 0)))] ++ [(q2, .inl (G.2.2.2.1, 6, .inl (fun _ => 0)))] ++ [(q3, .inl (G.2.2.2.1, 6, .inl (fun _ => 0)))] ++ [(q4, .inl (G.2.2.2.1, 6, .inl (fun _ => 0)))]) ++ ws)) _ := hP
  refine W.widen (k := 5) (n := 30) (Nat.le_refl _) (Nat.le_refl _) ?_
  exact W.vret hx hb hr (fun t ht hW => ⟨⟨fun j => [h0, q0, q1, q2, q3, q4].getD j 0, rfl, rfl, by show PD G _ t.heap; rw [ht]; exact hP⟩, hS.F ht⟩) hS.2.2 dX5_init_64
theorem fsX3 : ∀ j, j < 8 → defaultValue (tyX3 j) = vp_V [.null, .null, .null, .int 0, .int 0, .int 0, .int 0, .int 0] j := by
  intro j hj
  match j, hj with
  | 0, _ => rfl
  | 1, _ => rfl
  | 2, _ => rfl
  | 3, _ => rfl
  | 4, _ => rfl
  | 5, _ => rfl
  | 6, _ => rfl
  | 7, _ => rfl
set_option maxHeartbeats 4000000 in
set_option maxRecDepth 100000 in
theorem i_X3 (G : Gt) : Ct G yX3_init cX3_init { frames := 1, cells := 3, slots := 490, locals := 12 } 3 [.null, .null, .null, .int 0, .int 0, .int 0, .int 0, .int 0] (mkX3 G.2.2.2.1) := by
  intro ws h0
  refine Met.ofW (cc := cX3_init) (maxL := 1) (ret := none) (by decide) rfl ?_
  intro p e s m args below meth c s₁ B hml hv
  obtain ⟨rfl, hP, hK⟩ := hv
  have hx := B.exec
  have hb := B.bytes
  have hr := B.returns
  have hts := atoms_spec (ws := uws yX3_init cX3_init 1 none) B.pre
  have hU : ∀ w ∈ UW, w.before #[Value.ref h0] s = true := fun w h => hts w (List.mem_cons_of_mem _ h)
  have hown : s.vm.findClass RX3 = some m.cls := findClass_of_methodNamed B.named
  have hin : meth.name = "<init>" := (name_of_methodNamed B.named B.method).1
  have hlk : meth.locks = false := B.notSynchronized
  have hS : va_S (Asb G.2.2.2.2.2) s.heap s.heap [] := va_S.rf
  have hl := lv_entry ([.ref h0]) (n := 1) (Nat.le_of_ble_eq_true rfl)
  rw [lg_entry_eq]
  generalize (lg_sl ([.ref h0]) ++ List.replicate (1 - (lg_sl ([.ref h0])).length) Slot.unset).toArray = ls at hl ⊢
  have hl : lv_has ls 1 [(0, .ref h0)] := hl
  refine lv_aload_n hx hb dX3_init_0 rfl (lv_at hl 0 rfl) ?_
  refine W.objInit hx hb hown (hU (.methodLink RX3 3 objectInit) (mU (by decide +kernel) rfl)) (hU (.instanceMethod objectInit) (mU (by decide +kernel) rfl)) (hU (.code objectInit ⟨#[0xb1]⟩ 1 none) (mU (by decide +kernel) rfl)) rfl (by rw [hml]; exact hl.1) rfl dX3_init_1 (Nat.le_of_ble_eq_true rfl) (Nat.le_of_ble_eq_true rfl) ?_
  refine W.eq (g2 := F0 m 4 ls []) rfl ?_
  refine lv_aload_n hx hb dX3_init_4 rfl (lv_at hl 0 rfl) ?_
  refine lv_bipush (v := 36) hx hb dX3_init_5 (by decide) ?_
  have hP : PD G (((h0, .inr (3, [.null, .null, .null, .int 0, .int 0, .int 0, .int 0, .int 0])) :: ([])) ++ ws) _ := hP
  refine cNewI hx hb (hU (.arrayClass .int) (mU (by decide +kernel) rfl)) hK hP hS 36 (by decide) (by decide) (by decide) (Nat.le_of_ble_eq_true rfl) (Nat.le_of_ble_eq_true rfl) dX3_init_7 (fun q0 H hP hS => ?_)
  have hP : PD G ((h0, .inr (3, [.null, .null, .null, .int 0, .int 0, .int 0, .int 0, .int 0])) :: (([(q0, .inl (G.2.2.2.1, 36, .inl (fun _ => 0)))]) ++ ws)) _ := hP
  refine cPut hx hb hU (C := RX3) (T := TX3) (N := 8) (ci := 3) (own := RX3) inUX3 tyX3 tyX3_ok nmX3 hown rfl hK hP hS 0 (by decide) (mU (by decide +kernel) rfl) (Or.inr ⟨rfl, hin, rfl⟩) (ty := .array .int) (v := .ref q0) (by decide +kernel) rfl rfl (Nat.le_of_ble_eq_true rfl) dX3_init_9 (fun H locs hP hS => ?_)
  have hP : PD G ((h0, .inr (3, [.ref q0, .null, .null, .int 0, .int 0, .int 0, .int 0, .int 0])) :: (([(q0, .inl (G.2.2.2.1, 36, .inl (fun _ => 0)))]) ++ ws)) _ := hP
  refine lv_aload_n hx hb dX3_init_12 rfl (lv_at hl 0 rfl) ?_
  refine lv_sipush (v := 448) hx hb dX3_init_13 (by decide) ?_
  have hP : PD G (((h0, .inr (3, [.ref q0, .null, .null, .int 0, .int 0, .int 0, .int 0, .int 0])) :: ([(q0, .inl (G.2.2.2.1, 36, .inl (fun _ => 0)))])) ++ ws) _ := hP
  refine cNewI hx hb (hU (.arrayClass .int) (mU (by decide +kernel) rfl)) hK hP hS 448 (by decide) (by decide) (by decide) (Nat.le_of_ble_eq_true rfl) (Nat.le_of_ble_eq_true rfl) dX3_init_16 (fun q1 H hP hS => ?_)
  have hP : PD G ((h0, .inr (3, [.ref q0, .null, .null, .int 0, .int 0, .int 0, .int 0, .int 0])) :: (([(q0, .inl (G.2.2.2.1, 36, .inl (fun _ => 0)))] ++ [(q1, .inl (G.2.2.2.1, 448, .inl (fun _ => 0)))]) ++ ws)) _ := hP
  refine cPut hx hb hU (C := RX3) (T := TX3) (N := 8) (ci := 3) (own := RX3) inUX3 tyX3 tyX3_ok nmX3 hown rfl hK hP hS 1 (by decide) (mU (by decide +kernel) rfl) (Or.inr ⟨rfl, hin, rfl⟩) (ty := .array .int) (v := .ref q1) (by decide +kernel) rfl rfl (Nat.le_of_ble_eq_true rfl) dX3_init_18 (fun H locs hP hS => ?_)
  have hP : PD G ((h0, .inr (3, [.ref q0, .ref q1, .null, .int 0, .int 0, .int 0, .int 0, .int 0])) :: (([(q0, .inl (G.2.2.2.1, 36, .inl (fun _ => 0)))] ++ [(q1, .inl (G.2.2.2.1, 448, .inl (fun _ => 0)))]) ++ ws)) _ := hP
  refine lv_aload_n hx hb dX3_init_21 rfl (lv_at hl 0 rfl) ?_
  refine lv_bipush (v := 6) hx hb dX3_init_22 (by decide) ?_
  have hP : PD G (((h0, .inr (3, [.ref q0, .ref q1, .null, .int 0, .int 0, .int 0, .int 0, .int 0])) :: ([(q0, .inl (G.2.2.2.1, 36, .inl (fun _ => 0)))] ++ [(q1, .inl (G.2.2.2.1, 448, .inl (fun _ => 0)))])) ++ ws) _ := hP
  refine cNewI hx hb (hU (.arrayClass .int) (mU (by decide +kernel) rfl)) hK hP hS 6 (by decide) (by decide) (by decide) (Nat.le_of_ble_eq_true rfl) (Nat.le_of_ble_eq_true rfl) dX3_init_24 (fun q2 H hP hS => ?_)
  have hP : PD G ((h0, .inr (3, [.ref q0, .ref q1, .null, .int 0, .int 0, .int 0, .int 0, .int 0])) :: (([(q0, .inl (G.2.2.2.1, 36, .inl (fun _ => 0)))] ++ [(q1, .inl (G.2.2.2.1, 448, .inl (fun _ => 0)))] ++ [(q2, .inl (G.2.2.2.1, 6, .inl (fun _ => 0)))]) ++ ws)) _ := hP
  refine cPut hx hb hU (C := RX3) (T := TX3) (N := 8) (ci := 3) (own := RX3) inUX3 tyX3 tyX3_ok nmX3 hown rfl hK hP hS 2 (by decide) (mU (by decide +kernel) rfl) (Or.inr ⟨rfl, hin, rfl⟩) (ty := .array .int) (v := .ref q2) (by decide +kernel) rfl rfl (Nat.le_of_ble_eq_true rfl) dX3_init_26 (fun H locs hP hS => ?_)
  have hP : PD G ((h0, .inr (3, [.ref q0, .ref q1, .ref q2, .int 0, .int 0, .int 0, .int 0, .int 0])) :: (([(q0, .inl (G.2.2.2.1, 36, .inl (fun _ => 0)))] ++ [(q1, .inl (G.2.2.2.1, 448, .inl (fun _ => 0)))] ++ [(q2, .inl (G.2.2.2.1, 6, .inl (fun _ => 0)))]) ++ ws)) _ := hP
  refine lv_aload_n hx hb dX3_init_29 rfl (lv_at hl 0 rfl) ?_
  refine lv_iconst (v := 0) hx hb dX3_init_30 (by decide) ?_
  refine cPut hx hb hU (C := RX3) (T := TX3) (N := 8) (ci := 3) (own := RX3) inUX3 tyX3 tyX3_ok nmX3 hown rfl hK hP hS 3 (by decide) (mU (by decide +kernel) rfl) (Or.inl rfl) (ty := .int) (v := .int 0) (by decide +kernel) rfl rfl (Nat.le_of_ble_eq_true rfl) dX3_init_31 (fun H locs hP hS => ?_)
  have hP : PD G ((h0, .inr (3, [.ref q0, .ref q1, .ref q2, .int 0, .int 0, .int 0, .int 0, .int 0])) :: (([(q0, .inl (G.2.2.2.1, 36, .inl (fun _ => 0)))] ++ [(q1, .inl (G.2.2.2.1, 448, .inl (fun _ => 0)))] ++ [(q2, .inl (G.2.2.2.1, 6, .inl (fun _ => 0)))]) ++ ws)) _ := hP
  refine lv_aload_n hx hb dX3_init_34 rfl (lv_at hl 0 rfl) ?_
  refine lv_iconst (v := 0) hx hb dX3_init_35 (by decide) ?_
  refine cPut hx hb hU (C := RX3) (T := TX3) (N := 8) (ci := 3) (own := RX3) inUX3 tyX3 tyX3_ok nmX3 hown rfl hK hP hS 4 (by decide) (mU (by decide +kernel) rfl) (Or.inl rfl) (ty := .int) (v := .int 0) (by decide +kernel) rfl rfl (Nat.le_of_ble_eq_true rfl) dX3_init_36 (fun H locs hP hS => ?_)
  have hP : PD G ((h0, .inr (3, [.ref q0, .ref q1, .ref q2, .int 0, .int 0, .int 0, .int 0, .int 0])) :: (([(q0, .inl (G.2.2.2.1, 36, .inl (fun _ => 0)))] ++ [(q1, .inl (G.2.2.2.1, 448, .inl (fun _ => 0)))] ++ [(q2, .inl (G.2.2.2.1, 6, .inl (fun _ => 0)))]) ++ ws)) _ := hP
  refine lv_aload_n hx hb dX3_init_39 rfl (lv_at hl 0 rfl) ?_
  refine lv_iconst (v := 0) hx hb dX3_init_40 (by decide) ?_
  refine cPut hx hb hU (C := RX3) (T := TX3) (N := 8) (ci := 3) (own := RX3) inUX3 tyX3 tyX3_ok nmX3 hown rfl hK hP hS 5 (by decide) (mU (by decide +kernel) rfl) (Or.inl rfl) (ty := .int) (v := .int 0) (by decide +kernel) rfl rfl (Nat.le_of_ble_eq_true rfl) dX3_init_41 (fun H locs hP hS => ?_)
  have hP : PD G ((h0, .inr (3, [.ref q0, .ref q1, .ref q2, .int 0, .int 0, .int 0, .int 0, .int 0])) :: (([(q0, .inl (G.2.2.2.1, 36, .inl (fun _ => 0)))] ++ [(q1, .inl (G.2.2.2.1, 448, .inl (fun _ => 0)))] ++ [(q2, .inl (G.2.2.2.1, 6, .inl (fun _ => 0)))]) ++ ws)) _ := hP
  refine lv_aload_n hx hb dX3_init_44 rfl (lv_at hl 0 rfl) ?_
  refine lv_iconst (v := 0) hx hb dX3_init_45 (by decide) ?_
  refine cPut hx hb hU (C := RX3) (T := TX3) (N := 8) (ci := 3) (own := RX3) inUX3 tyX3 tyX3_ok nmX3 hown rfl hK hP hS 6 (by decide) (mU (by decide +kernel) rfl) (Or.inl rfl) (ty := .int) (v := .int 0) (by decide +kernel) rfl rfl (Nat.le_of_ble_eq_true rfl) dX3_init_46 (fun H locs hP hS => ?_)
  have hP : PD G ((h0, .inr (3, [.ref q0, .ref q1, .ref q2, .int 0, .int 0, .int 0, .int 0, .int 0])) :: (([(q0, .inl (G.2.2.2.1, 36, .inl (fun _ => 0)))] ++ [(q1, .inl (G.2.2.2.1, 448, .inl (fun _ => 0)))] ++ [(q2, .inl (G.2.2.2.1, 6, .inl (fun _ => 0)))]) ++ ws)) _ := hP
  refine lv_aload_n hx hb dX3_init_49 rfl (lv_at hl 0 rfl) ?_
  refine lv_iconst (v := 0) hx hb dX3_init_50 (by decide) ?_
  refine cPut hx hb hU (C := RX3) (T := TX3) (N := 8) (ci := 3) (own := RX3) inUX3 tyX3 tyX3_ok nmX3 hown rfl hK hP hS 7 (by decide) (mU (by decide +kernel) rfl) (Or.inl rfl) (ty := .int) (v := .int 0) (by decide +kernel) rfl rfl (Nat.le_of_ble_eq_true rfl) dX3_init_51 (fun H locs hP hS => ?_)
  have hP : PD G ((h0, .inr (3, [.ref q0, .ref q1, .ref q2, .int 0, .int 0, .int 0, .int 0, .int 0])) :: (([(q0, .inl (G.2.2.2.1, 36, .inl (fun _ => 0)))] ++ [(q1, .inl (G.2.2.2.1, 448, .inl (fun _ => 0)))] ++ [(q2, .inl (G.2.2.2.1, 6, .inl (fun _ => 0)))]) ++ ws)) _ := hP
  refine W.widen (k := 3) (n := 490) (Nat.le_refl _) (Nat.le_refl _) ?_
  exact W.vret hx hb hr (fun t ht hW => ⟨⟨fun j => [h0, q0, q1, q2].getD j 0, rfl, rfl, by show PD G _ t.heap; rw [ht]; exact hP⟩, hS.F ht⟩) hS.2.2 dX3_init_54
theorem fsX1 : ∀ j, j < 9 → defaultValue (tyX1 j) = vp_V [.int 0, .int 0, .null, .null, .null, .null, .int 0, .int 0, .int 0] j := by
  intro j hj
  match j, hj with
  | 0, _ => rfl
  | 1, _ => rfl
  | 2, _ => rfl
  | 3, _ => rfl
  | 4, _ => rfl
  | 5, _ => rfl
  | 6, _ => rfl
  | 7, _ => rfl
  | 8, _ => rfl
set_option maxHeartbeats 4000000 in
set_option maxRecDepth 100000 in
theorem i_X1 (G : Gt) : Ct G yX1_init cX1_init { frames := 1, cells := 4, slots := 256, locals := 23 } 1 [.int 0, .int 0, .null, .null, .null, .null, .int 0, .int 0, .int 0] (mkX1 G.2.2.2.1) := by
  intro ws h0
  refine Met.ofW (cc := cX1_init) (maxL := 1) (ret := none) (by decide) rfl ?_
  intro p e s m args below meth c s₁ B hml hv
  obtain ⟨rfl, hP, hK⟩ := hv
  have hx := B.exec
  have hb := B.bytes
  have hr := B.returns
  have hts := atoms_spec (ws := uws yX1_init cX1_init 1 none) B.pre
  have hU : ∀ w ∈ UW, w.before #[Value.ref h0] s = true := fun w h => hts w (List.mem_cons_of_mem _ h)
  have hown : s.vm.findClass RX1 = some m.cls := findClass_of_methodNamed B.named
  have hin : meth.name = "<init>" := (name_of_methodNamed B.named B.method).1
  have hlk : meth.locks = false := B.notSynchronized
  have hS : va_S (Asb G.2.2.2.2.2) s.heap s.heap [] := va_S.rf
  have hl := lv_entry ([.ref h0]) (n := 1) (Nat.le_of_ble_eq_true rfl)
  rw [lg_entry_eq]
  generalize (lg_sl ([.ref h0]) ++ List.replicate (1 - (lg_sl ([.ref h0])).length) Slot.unset).toArray = ls at hl ⊢
  have hl : lv_has ls 1 [(0, .ref h0)] := hl
  refine lv_aload_n hx hb dX1_init_0 rfl (lv_at hl 0 rfl) ?_
  refine W.objInit hx hb hown (hU (.methodLink RX1 3 objectInit) (mU (by decide +kernel) rfl)) (hU (.instanceMethod objectInit) (mU (by decide +kernel) rfl)) (hU (.code objectInit ⟨#[0xb1]⟩ 1 none) (mU (by decide +kernel) rfl)) rfl (by rw [hml]; exact hl.1) rfl dX1_init_1 (Nat.le_of_ble_eq_true rfl) (Nat.le_of_ble_eq_true rfl) ?_
  refine W.eq (g2 := F0 m 4 ls []) rfl ?_
  refine lv_aload_n hx hb dX1_init_4 rfl (lv_at hl 0 rfl) ?_
  refine lv_iconst (v := 4) hx hb dX1_init_5 (by decide) ?_
  refine cPut hx hb hU (C := RX1) (T := TX1) (N := 9) (ci := 1) (own := RX1) inUX1 tyX1 tyX1_ok nmX1 hown rfl hK hP hS 0 (by decide) (mU (by decide +kernel) rfl) (Or.inl rfl) (ty := .int) (v := .int 4) (by decide +kernel) rfl rfl (Nat.le_of_ble_eq_true rfl) dX1_init_6 (fun H locs hP hS => ?_)
  have hP : PD G ((h0, .inr (1, [.int 4, .int 0, .null, .null, .null, .null, .int 0, .int 0, .int 0])) :: (([]) ++ ws)) _ := hP
  refine lv_aload_n hx hb dX1_init_9 rfl (lv_at hl 0 rfl) ?_
  refine lv_iconst (v := 4) hx hb dX1_init_10 (by decide) ?_
  refine cPut hx hb hU (C := RX1) (T := TX1) (N := 9) (ci := 1) (own := RX1) inUX1 tyX1 tyX1_ok nmX1 hown rfl hK hP hS 1 (by decide) (mU (by decide +kernel) rfl) (Or.inl rfl) (ty := .int) (v := .int 4) (by decide +kernel) rfl rfl (Nat.le_of_ble_eq_true rfl) dX1_init_11 (fun H locs hP hS => ?_)
  have hP : PD G ((h0, .inr (1, [.int 4, .int 4, .null, .null, .null, .null, .int 0, .int 0, .int 0])) :: (([]) ++ ws)) _ := hP
  refine lv_aload_n hx hb dX1_init_14 rfl (lv_at hl 0 rfl) ?_
  refine lv_bipush (v := 64) hx hb dX1_init_15 (by decide) ?_
  have hP : PD G (((h0, .inr (1, [.int 4, .int 4, .null, .null, .null, .null, .int 0, .int 0, .int 0])) :: ([])) ++ ws) _ := hP
  refine cNewI hx hb (hU (.arrayClass .int) (mU (by decide +kernel) rfl)) hK hP hS 64 (by decide) (by decide) (by decide) (Nat.le_of_ble_eq_true rfl) (Nat.le_of_ble_eq_true rfl) dX1_init_17 (fun q0 H hP hS => ?_)
  have hP : PD G ((h0, .inr (1, [.int 4, .int 4, .null, .null, .null, .null, .int 0, .int 0, .int 0])) :: (([(q0, .inl (G.2.2.2.1, 64, .inl (fun _ => 0)))]) ++ ws)) _ := hP
  refine cPut hx hb hU (C := RX1) (T := TX1) (N := 9) (ci := 1) (own := RX1) inUX1 tyX1 tyX1_ok nmX1 hown rfl hK hP hS 2 (by decide) (mU (by decide +kernel) rfl) (Or.inr ⟨rfl, hin, rfl⟩) (ty := .array .int) (v := .ref q0) (by decide +kernel) rfl rfl (Nat.le_of_ble_eq_true rfl) dX1_init_19 (fun H locs hP hS => ?_)
  have hP : PD G ((h0, .inr (1, [.int 4, .int 4, .ref q0, .null, .null, .null, .int 0, .int 0, .int 0])) :: (([(q0, .inl (G.2.2.2.1, 64, .inl (fun _ => 0)))]) ++ ws)) _ := hP
  refine lv_aload_n hx hb dX1_init_22 rfl (lv_at hl 0 rfl) ?_
  refine lv_bipush (v := 64) hx hb dX1_init_23 (by decide) ?_
  have hP : PD G (((h0, .inr (1, [.int 4, .int 4, .ref q0, .null, .null, .null, .int 0, .int 0, .int 0])) :: ([(q0, .inl (G.2.2.2.1, 64, .inl (fun _ => 0)))])) ++ ws) _ := hP
  refine cNewI hx hb (hU (.arrayClass .int) (mU (by decide +kernel) rfl)) hK hP hS 64 (by decide) (by decide) (by decide) (Nat.le_of_ble_eq_true rfl) (Nat.le_of_ble_eq_true rfl) dX1_init_25 (fun q1 H hP hS => ?_)
  have hP : PD G ((h0, .inr (1, [.int 4, .int 4, .ref q0, .null, .null, .null, .int 0, .int 0, .int 0])) :: (([(q0, .inl (G.2.2.2.1, 64, .inl (fun _ => 0)))] ++ [(q1, .inl (G.2.2.2.1, 64, .inl (fun _ => 0)))]) ++ ws)) _ := hP
  refine cPut hx hb hU (C := RX1) (T := TX1) (N := 9) (ci := 1) (own := RX1) inUX1 tyX1 tyX1_ok nmX1 hown rfl hK hP hS 3 (by decide) (mU (by decide +kernel) rfl) (Or.inr ⟨rfl, hin, rfl⟩) (ty := .array .int) (v := .ref q1) (by decide +kernel) rfl rfl (Nat.le_of_ble_eq_true rfl) dX1_init_27 (fun H locs hP hS => ?_)
  have hP : PD G ((h0, .inr (1, [.int 4, .int 4, .ref q0, .ref q1, .null, .null, .int 0, .int 0, .int 0])) :: (([(q0, .inl (G.2.2.2.1, 64, .inl (fun _ => 0)))] ++ [(q1, .inl (G.2.2.2.1, 64, .inl (fun _ => 0)))]) ++ ws)) _ := hP
  refine lv_aload_n hx hb dX1_init_30 rfl (lv_at hl 0 rfl) ?_
  refine lv_bipush (v := 64) hx hb dX1_init_31 (by decide) ?_
  have hP : PD G (((h0, .inr (1, [.int 4, .int 4, .ref q0, .ref q1, .null, .null, .int 0, .int 0, .int 0])) :: ([(q0, .inl (G.2.2.2.1, 64, .inl (fun _ => 0)))] ++ [(q1, .inl (G.2.2.2.1, 64, .inl (fun _ => 0)))])) ++ ws) _ := hP
  refine cNewI hx hb (hU (.arrayClass .int) (mU (by decide +kernel) rfl)) hK hP hS 64 (by decide) (by decide) (by decide) (Nat.le_of_ble_eq_true rfl) (Nat.le_of_ble_eq_true rfl) dX1_init_33 (fun q2 H hP hS => ?_)
  have hP : PD G ((h0, .inr (1, [.int 4, .int 4, .ref q0, .ref q1, .null, .null, .int 0, .int 0, .int 0])) :: (([(q0, .inl (G.2.2.2.1, 64, .inl (fun _ => 0)))] ++ [(q1, .inl (G.2.2.2.1, 64, .inl (fun _ => 0)))] ++ [(q2, .inl (G.2.2.2.1, 64, .inl (fun _ => 0)))]) ++ ws)) _ := hP
  refine cPut hx hb hU (C := RX1) (T := TX1) (N := 9) (ci := 1) (own := RX1) inUX1 tyX1 tyX1_ok nmX1 hown rfl hK hP hS 4 (by decide) (mU (by decide +kernel) rfl) (Or.inr ⟨rfl, hin, rfl⟩) (ty := .array .int) (v := .ref q2) (by decide +kernel) rfl rfl (Nat.le_of_ble_eq_true rfl) dX1_init_35 (fun H locs hP hS => ?_)
  have hP : PD G ((h0, .inr (1, [.int 4, .int 4, .ref q0, .ref q1, .ref q2, .null, .int 0, .int 0, .int 0])) :: (([(q0, .inl (G.2.2.2.1, 64, .inl (fun _ => 0)))] ++ [(q1, .inl (G.2.2.2.1, 64, .inl (fun _ => 0)))] ++ [(q2, .inl (G.2.2.2.1, 64, .inl (fun _ => 0)))]) ++ ws)) _ := hP
  refine lv_aload_n hx hb dX1_init_38 rfl (lv_at hl 0 rfl) ?_
  refine lv_bipush (v := 64) hx hb dX1_init_39 (by decide) ?_
  have hP : PD G (((h0, .inr (1, [.int 4, .int 4, .ref q0, .ref q1, .ref q2, .null, .int 0, .int 0, .int 0])) :: ([(q0, .inl (G.2.2.2.1, 64, .inl (fun _ => 0)))] ++ [(q1, .inl (G.2.2.2.1, 64, .inl (fun _ => 0)))] ++ [(q2, .inl (G.2.2.2.1, 64, .inl (fun _ => 0)))])) ++ ws) _ := hP
  refine cNewI hx hb (hU (.arrayClass .int) (mU (by decide +kernel) rfl)) hK hP hS 64 (by decide) (by decide) (by decide) (Nat.le_of_ble_eq_true rfl) (Nat.le_of_ble_eq_true rfl) dX1_init_41 (fun q3 H hP hS => ?_)
  have hP : PD G ((h0, .inr (1, [.int 4, .int 4, .ref q0, .ref q1, .ref q2, .null, .int 0, .int 0, .int 0])) :: (([(q0, .inl (G.2.2.2.1, 64, .inl (fun _ => 0)))] ++ [(q1, .inl (G.2.2.2.1, 64, .inl (fun _ => 0)))] ++ [(q2, .inl (G.2.2.2.1, 64, .inl (fun _ => 0)))] ++ [(q3, .inl (G.2.2.2.1, 64, .inl (fun _ => 0)))]) ++ ws)) _ := hP
  refine cPut hx hb hU (C := RX1) (T := TX1) (N := 9) (ci := 1) (own := RX1) inUX1 tyX1 tyX1_ok nmX1 hown rfl hK hP hS 5 (by decide) (mU (by decide +kernel) rfl) (Or.inr ⟨rfl, hin, rfl⟩) (ty := .array .int) (v := .ref q3) (by decide +kernel) rfl rfl (Nat.le_of_ble_eq_true rfl) dX1_init_43 (fun H locs hP hS => ?_)
  have hP : PD G ((h0, .inr (1, [.int 4, .int 4, .ref q0, .ref q1, .ref q2, .ref q3, .int 0, .int 0, .int 0])) :: (([(q0, .inl (G.2.2.2.1, 64, .inl (fun _ => 0)))] ++ [(q1, .inl (G.2.2.2.1, 64, .inl (fun _ => 0)))] ++ [(q2, .inl (G.2.2.2.1, 64, .inl (fun _ => 0)))] ++ [(q3, .inl (G.2.2.2.1, 64, .inl (fun _ => 0)))]) ++ ws)) _ := hP
  refine lv_aload_n hx hb dX1_init_46 rfl (lv_at hl 0 rfl) ?_
  refine lv_iconst (v := 0) hx hb dX1_init_47 (by decide) ?_
  refine cPut hx hb hU (C := RX1) (T := TX1) (N := 9) (ci := 1) (own := RX1) inUX1 tyX1 tyX1_ok nmX1 hown rfl hK hP hS 6 (by decide) (mU (by decide +kernel) rfl) (Or.inl rfl) (ty := .int) (v := .int 0) (by decide +kernel) rfl rfl (Nat.le_of_ble_eq_true rfl) dX1_init_48 (fun H locs hP hS => ?_)
  have hP : PD G ((h0, .inr (1, [.int 4, .int 4, .ref q0, .ref q1, .ref q2, .ref q3, .int 0, .int 0, .int 0])) :: (([(q0, .inl (G.2.2.2.1, 64, .inl (fun _ => 0)))] ++ [(q1, .inl (G.2.2.2.1, 64, .inl (fun _ => 0)))] ++ [(q2, .inl (G.2.2.2.1, 64, .inl (fun _ => 0)))] ++ [(q3, .inl (G.2.2.2.1, 64, .inl (fun _ => 0)))]) ++ ws)) _ := hP
  refine lv_aload_n hx hb dX1_init_51 rfl (lv_at hl 0 rfl) ?_
  refine lv_iconst (v := 0) hx hb dX1_init_52 (by decide) ?_
  refine cPut hx hb hU (C := RX1) (T := TX1) (N := 9) (ci := 1) (own := RX1) inUX1 tyX1 tyX1_ok nmX1 hown rfl hK hP hS 7 (by decide) (mU (by decide +kernel) rfl) (Or.inl rfl) (ty := .int) (v := .int 0) (by decide +kernel) rfl rfl (Nat.le_of_ble_eq_true rfl) dX1_init_53 (fun H locs hP hS => ?_)
  have hP : PD G ((h0, .inr (1, [.int 4, .int 4, .ref q0, .ref q1, .ref q2, .ref q3, .int 0, .int 0, .int 0])) :: (([(q0, .inl (G.2.2.2.1, 64, .inl (fun _ => 0)))] ++ [(q1, .inl (G.2.2.2.1, 64, .inl (fun _ => 0)))] ++ [(q2, .inl (G.2.2.2.1, 64, .inl (fun _ => 0)))] ++ [(q3, .inl (G.2.2.2.1, 64, .inl (fun _ => 0)))]) ++ ws)) _ := hP
  refine lv_aload_n hx hb dX1_init_56 rfl (lv_at hl 0 rfl) ?_
  refine lv_iconst (v := 0) hx hb dX1_init_57 (by decide) ?_
  refine cPut hx hb hU (C := RX1) (T := TX1) (N := 9) (ci := 1) (own := RX1) inUX1 tyX1 tyX1_ok nmX1 hown rfl hK hP hS 8 (by decide) (mU (by decide +kernel) rfl) (Or.inl rfl) (ty := .int) (v := .int 0) (by decide +kernel) rfl rfl (Nat.le_of_ble_eq_true rfl) dX1_init_58 (fun H locs hP hS => ?_)
  have hP : PD G ((h0, .inr (1, [.int 4, .int 4, .ref q0, .ref q1, .ref q2, .ref q3, .int 0, .int 0, .int 0])) :: (([(q0, .inl (G.2.2.2.1, 64, .inl (fun _ => 0)))] ++ [(q1, .inl (G.2.2.2.1, 64, .inl (fun _ => 0)))] ++ [(q2, .inl (G.2.2.2.1, 64, .inl (fun _ => 0)))] ++ [(q3, .inl (G.2.2.2.1, 64, .inl (fun _ => 0)))]) ++ ws)) _ := hP
  refine lv_aload_n hx hb dX1_init_61 rfl (lv_at hl 0 rfl) ?_
  refine va_get (D := G.2.1) hx hb hU inUX1 hown hK.1.1 hP.1 0 rfl rfl 5 (by decide) (hU (.fieldLink RX1 28 "TouchPanel$Grid" "peak" "[I") (mU (by decide +kernel) rfl)) (fun _ h9 => h9) rfl dX1_init_62 ?_
  refine lv_iconst (v := -1) hx hb dX1_init_65 (by decide) ?_
  have hP := hP.perm (fillPerm (h0, .inr (1, [.int 4, .int 4, .ref q0, .ref q1, .ref q2, .ref q3, .int 0, .int 0, .int 0])) (q0, .inl (G.2.2.2.1, 64, .inl (fun _ => 0))) (q1, .inl (G.2.2.2.1, 64, .inl (fun _ => 0))) (q2, .inl (G.2.2.2.1, 64, .inl (fun _ => 0))) (q3, .inl (G.2.2.2.1, 64, .inl (fun _ => 0))) ws)
  refine cFill (q := q3) (v := -1) (N := 64) ⟨hx, hb, hml, hown, hts⟩ hK hP hS (by decide) (Nat.le_of_ble_eq_true rfl) (Nat.le_of_ble_eq_true rfl) hl.1 (Nat.le_of_ble_eq_true rfl) ⟨Nat.le_of_ble_eq_true rfl, Nat.le_of_ble_eq_true rfl⟩ dX1_init_66 (fun H locs hP hS => ?_)
  have hP := hP.perm (fillPerm (h0, .inr (1, [.int 4, .int 4, .ref q0, .ref q1, .ref q2, .ref q3, .int 0, .int 0, .int 0])) (q0, .inl (G.2.2.2.1, 64, .inl (fun _ => 0))) (q1, .inl (G.2.2.2.1, 64, .inl (fun _ => 0))) (q2, .inl (G.2.2.2.1, 64, .inl (fun _ => 0))) (q3, .inl (G.2.2.2.1, 64, .inl (fun _ => -1))) ws).symm
  refine W.widen (k := 4) (n := 256) (Nat.le_refl _) (Nat.le_refl _) ?_
  exact W.vret hx hb hr (fun t ht hW => ⟨⟨fun j => [h0, q0, q1, q2, q3].getD j 0, rfl, rfl, by show PD G _ t.heap; rw [ht]; exact hP⟩, hS.F ht⟩) hS.2.2 dX1_init_69
theorem fsX4 : ∀ j, j < 7 → defaultValue (tyX4 j) = vp_V [.null, .null, .null, .null, .int 0, .int 0, .int 0] j := by
  intro j hj
  match j, hj with
  | 0, _ => rfl
  | 1, _ => rfl
  | 2, _ => rfl
  | 3, _ => rfl
  | 4, _ => rfl
  | 5, _ => rfl
  | 6, _ => rfl
set_option maxHeartbeats 4000000 in
set_option maxRecDepth 100000 in
theorem i_X4 (G : Gt) : Ct G yX4_init cX4_init { frames := 2, cells := 14, slots := 317, locals := 43 } 4 [.null, .null, .null, .null, .int 0, .int 0, .int 0] (mkX4 G.2.2.2.1) := by
  intro ws h0
  refine Met.ofW (cc := cX4_init) (maxL := 1) (ret := none) (by decide) rfl ?_
  intro p e s m args below meth c s₁ B hml hv
  obtain ⟨rfl, hP, hK⟩ := hv
  have hx := B.exec
  have hb := B.bytes
  have hr := B.returns
  have hts := atoms_spec (ws := uws yX4_init cX4_init 1 none) B.pre
  have hU : ∀ w ∈ UW, w.before #[Value.ref h0] s = true := fun w h => hts w (List.mem_cons_of_mem _ h)
  have hown : s.vm.findClass RX4 = some m.cls := findClass_of_methodNamed B.named
  have hin : meth.name = "<init>" := (name_of_methodNamed B.named B.method).1
  have hlk : meth.locks = false := B.notSynchronized
  have hS : va_S (Asb G.2.2.2.2.2) s.heap s.heap [] := va_S.rf
  have hl := lv_entry ([.ref h0]) (n := 1) (Nat.le_of_ble_eq_true rfl)
  rw [lg_entry_eq]
  generalize (lg_sl ([.ref h0]) ++ List.replicate (1 - (lg_sl ([.ref h0])).length) Slot.unset).toArray = ls at hl ⊢
  have hl : lv_has ls 1 [(0, .ref h0)] := hl
  refine lv_aload_n hx hb dX4_init_0 rfl (lv_at hl 0 rfl) ?_
  refine W.objInit hx hb hown (hU (.methodLink RX4 3 objectInit) (mU (by decide +kernel) rfl)) (hU (.instanceMethod objectInit) (mU (by decide +kernel) rfl)) (hU (.code objectInit ⟨#[0xb1]⟩ 1 none) (mU (by decide +kernel) rfl)) rfl (by rw [hml]; exact hl.1) rfl dX4_init_1 (Nat.le_of_ble_eq_true rfl) (Nat.le_of_ble_eq_true rfl) ?_
  refine W.eq (g2 := F0 m 4 ls []) rfl ?_
  refine lv_aload_n hx hb dX4_init_4 rfl (lv_at hl 0 rfl) ?_
  have hP : PD G (((h0, .inr (4, [.null, .null, .null, .null, .int 0, .int 0, .int 0])) :: ([])) ++ ws) _ := hP
  refine cClone hx hb hU (by rw [hml]; exact hl.1.symm) hown hK hP hS (Nat.le_of_ble_eq_true rfl) (Nat.le_of_ble_eq_true rfl) (Nat.le_of_ble_eq_true rfl) (Nat.le_of_ble_eq_true rfl) dX4_init_5 dX4_init_8 dX4_init_11 (fun q0 H hP hS => ?_)
  have hP : PD G ((h0, .inr (4, [.null, .null, .null, .null, .int 0, .int 0, .int 0])) :: (([(q0, .inl (G.2.2.2.1, 4, .inl fbv))]) ++ ws)) _ := hP
  refine cPut hx hb hU (C := RX4) (T := TX4) (N := 7) (ci := 4) (own := RX4) inUX4 tyX4 tyX4_ok nmX4 hown rfl hK hP hS 0 (by decide) (mU (by decide +kernel) rfl) (Or.inr ⟨rfl, hin, rfl⟩) (ty := .array .int) (v := .ref q0) (by decide +kernel) rfl rfl (Nat.le_of_ble_eq_true rfl) dX4_init_14 (fun H locs hP hS => ?_)
  have hP : PD G ((h0, .inr (4, [.ref q0, .null, .null, .null, .int 0, .int 0, .int 0])) :: (([(q0, .inl (G.2.2.2.1, 4, .inl fbv))]) ++ ws)) _ := hP
  refine lv_aload_n hx hb dX4_init_17 rfl (lv_at hl 0 rfl) ?_
  have hP : PD G (((h0, .inr (4, [.ref q0, .null, .null, .null, .int 0, .int 0, .int 0])) :: ([(q0, .inl (G.2.2.2.1, 4, .inl fbv))])) ++ ws) _ := hP
  refine cMake (ws := ws) (Ts := uws yX4_init cX4_init 1 none) (C := RX1) (T := TX1) (N := 9) (own := RX4) (idxN := 23) (idxI := 25) ⟨hx, hb, hml, hown, hts⟩ (fun w h => List.mem_cons_of_mem _ h) hK (i_X1 G) hP hS (mU (by decide +kernel) rfl) (mU (by decide +kernel) rfl) (mU (by decide +kernel) rfl) inUX1 tyX1 tyX1_ok rfl fsX1 rfl rfl (by decide +kernel) (Or.inl (mU (by decide +kernel) rfl)) (mU (by decide +kernel) rfl) (mU (by decide +kernel) rfl) (Nat.le_of_ble_eq_true rfl) (Nat.le_of_ble_eq_true rfl) ⟨Nat.le_of_ble_eq_true rfl, Nat.le_of_ble_eq_true rfl⟩ hl.1 (Nat.le_of_ble_eq_true rfl) dX4_init_18 dX4_init_21 dX4_init_22 (fun a1 H locs hP hS => ?_)
  have hP : PD G ((h0, .inr (4, [.ref q0, .null, .null, .null, .int 0, .int 0, .int 0])) :: (([(q0, .inl (G.2.2.2.1, 4, .inl fbv))] ++ mkX1 G.2.2.2.1 a1) ++ ws)) _ := hP
  refine cPut hx hb hU (C := RX4) (T := TX4) (N := 7) (ci := 4) (own := RX4) inUX4 tyX4 tyX4_ok nmX4 hown rfl hK hP hS 1 (by decide) (mU (by decide +kernel) rfl) (Or.inr ⟨rfl, hin, rfl⟩) (ty := .object "TouchPanel$Grid") (v := .ref (a1 0)) (by decide +kernel) rfl rfl (Nat.le_of_ble_eq_true rfl) dX4_init_25 (fun H locs hP hS => ?_)
  have hP : PD G ((h0, .inr (4, [.ref q0, .ref (a1 0), .null, .null, .int 0, .int 0, .int 0])) :: (([(q0, .inl (G.2.2.2.1, 4, .inl fbv))] ++ mkX1 G.2.2.2.1 a1) ++ ws)) _ := hP
  refine lv_aload_n hx hb dX4_init_28 rfl (lv_at hl 0 rfl) ?_
  have hP : PD G (((h0, .inr (4, [.ref q0, .ref (a1 0), .null, .null, .int 0, .int 0, .int 0])) :: ([(q0, .inl (G.2.2.2.1, 4, .inl fbv))] ++ mkX1 G.2.2.2.1 a1)) ++ ws) _ := hP
  refine cMake (ws := ws) (Ts := uws yX4_init cX4_init 1 none) (C := RX0) (T := TX0) (N := 3) (own := RX4) (idxN := 30) (idxI := 32) ⟨hx, hb, hml, hown, hts⟩ (fun w h => List.mem_cons_of_mem _ h) hK (i_X0 G) hP hS (mU (by decide +kernel) rfl) (mU (by decide +kernel) rfl) (mU (by decide +kernel) rfl) inUX0 tyX0 tyX0_ok rfl fsX0 rfl rfl (by decide +kernel) (Or.inr hK.2.1.2.1) (mU (by decide +kernel) rfl) (mU (by decide +kernel) rfl) (Nat.le_of_ble_eq_true rfl) (Nat.le_of_ble_eq_true rfl) ⟨Nat.le_of_ble_eq_true rfl, Nat.le_of_ble_eq_true rfl⟩ hl.1 (Nat.le_of_ble_eq_true rfl) dX4_init_29 dX4_init_32 dX4_init_33 (fun a2 H locs hP hS => ?_)
  have hP : PD G ((h0, .inr (4, [.ref q0, .ref (a1 0), .null, .null, .int 0, .int 0, .int 0])) :: (([(q0, .inl (G.2.2.2.1, 4, .inl fbv))] ++ mkX1 G.2.2.2.1 a1 ++ mkX0 G.2.2.2.1 a2) ++ ws)) _ := hP
  refine cPut hx hb hU (C := RX4) (T := TX4) (N := 7) (ci := 4) (own := RX4) inUX4 tyX4 tyX4_ok nmX4 hown rfl hK hP hS 2 (by decide) (mU (by decide +kernel) rfl) (Or.inr ⟨rfl, hin, rfl⟩) (ty := .object "TouchPanel$Contacts") (v := .ref (a2 0)) (by decide +kernel) rfl rfl (Nat.le_of_ble_eq_true rfl) dX4_init_36 (fun H locs hP hS => ?_)
  have hP : PD G ((h0, .inr (4, [.ref q0, .ref (a1 0), .ref (a2 0), .null, .int 0, .int 0, .int 0])) :: (([(q0, .inl (G.2.2.2.1, 4, .inl fbv))] ++ mkX1 G.2.2.2.1 a1 ++ mkX0 G.2.2.2.1 a2) ++ ws)) _ := hP
  refine lv_aload_n hx hb dX4_init_39 rfl (lv_at hl 0 rfl) ?_
  have hP : PD G (((h0, .inr (4, [.ref q0, .ref (a1 0), .ref (a2 0), .null, .int 0, .int 0, .int 0])) :: ([(q0, .inl (G.2.2.2.1, 4, .inl fbv))] ++ mkX1 G.2.2.2.1 a1 ++ mkX0 G.2.2.2.1 a2)) ++ ws) _ := hP
  refine cMake (ws := ws) (Ts := uws yX4_init cX4_init 1 none) (C := RX5) (T := TX5) (N := 9) (own := RX4) (idxN := 37) (idxI := 39) ⟨hx, hb, hml, hown, hts⟩ (fun w h => List.mem_cons_of_mem _ h) hK (i_X5 G) hP hS (mU (by decide +kernel) rfl) (mU (by decide +kernel) rfl) (mU (by decide +kernel) rfl) inUX5 tyX5 tyX5_ok rfl fsX5 rfl rfl (by decide +kernel) (Or.inr hK.2.1.2.2.1) (mU (by decide +kernel) rfl) (mU (by decide +kernel) rfl) (Nat.le_of_ble_eq_true rfl) (Nat.le_of_ble_eq_true rfl) ⟨Nat.le_of_ble_eq_true rfl, Nat.le_of_ble_eq_true rfl⟩ hl.1 (Nat.le_of_ble_eq_true rfl) dX4_init_40 dX4_init_43 dX4_init_44 (fun a3 H locs hP hS => ?_)
  have hP : PD G ((h0, .inr (4, [.ref q0, .ref (a1 0), .ref (a2 0), .null, .int 0, .int 0, .int 0])) :: (([(q0, .inl (G.2.2.2.1, 4, .inl fbv))] ++ mkX1 G.2.2.2.1 a1 ++ mkX0 G.2.2.2.1 a2 ++ mkX5 G.2.2.2.1 a3) ++ ws)) _ := hP
  refine cPut hx hb hU (C := RX4) (T := TX4) (N := 7) (ci := 4) (own := RX4) inUX4 tyX4 tyX4_ok nmX4 hown rfl hK hP hS 3 (by decide) (mU (by decide +kernel) rfl) (Or.inr ⟨rfl, hin, rfl⟩) (ty := .object "TouchPanel$Tracks") (v := .ref (a3 0)) (by decide +kernel) rfl rfl (Nat.le_of_ble_eq_true rfl) dX4_init_47 (fun H locs hP hS => ?_)
  have hP : PD G ((h0, .inr (4, [.ref q0, .ref (a1 0), .ref (a2 0), .ref (a3 0), .int 0, .int 0, .int 0])) :: (([(q0, .inl (G.2.2.2.1, 4, .inl fbv))] ++ mkX1 G.2.2.2.1 a1 ++ mkX0 G.2.2.2.1 a2 ++ mkX5 G.2.2.2.1 a3) ++ ws)) _ := hP
  refine lv_aload_n hx hb dX4_init_50 rfl (lv_at hl 0 rfl) ?_
  refine lv_iconst (v := 0) hx hb dX4_init_51 (by decide) ?_
  refine cPut hx hb hU (C := RX4) (T := TX4) (N := 7) (ci := 4) (own := RX4) inUX4 tyX4 tyX4_ok nmX4 hown rfl hK hP hS 4 (by decide) (mU (by decide +kernel) rfl) (Or.inl rfl) (ty := .int) (v := .int 0) (by decide +kernel) rfl rfl (Nat.le_of_ble_eq_true rfl) dX4_init_52 (fun H locs hP hS => ?_)
  have hP : PD G ((h0, .inr (4, [.ref q0, .ref (a1 0), .ref (a2 0), .ref (a3 0), .int 0, .int 0, .int 0])) :: (([(q0, .inl (G.2.2.2.1, 4, .inl fbv))] ++ mkX1 G.2.2.2.1 a1 ++ mkX0 G.2.2.2.1 a2 ++ mkX5 G.2.2.2.1 a3) ++ ws)) _ := hP
  refine lv_aload_n hx hb dX4_init_55 rfl (lv_at hl 0 rfl) ?_
  refine lv_iconst (v := 0) hx hb dX4_init_56 (by decide) ?_
  refine cPut hx hb hU (C := RX4) (T := TX4) (N := 7) (ci := 4) (own := RX4) inUX4 tyX4 tyX4_ok nmX4 hown rfl hK hP hS 5 (by decide) (mU (by decide +kernel) rfl) (Or.inl rfl) (ty := .int) (v := .int 0) (by decide +kernel) rfl rfl (Nat.le_of_ble_eq_true rfl) dX4_init_57 (fun H locs hP hS => ?_)
  have hP : PD G ((h0, .inr (4, [.ref q0, .ref (a1 0), .ref (a2 0), .ref (a3 0), .int 0, .int 0, .int 0])) :: (([(q0, .inl (G.2.2.2.1, 4, .inl fbv))] ++ mkX1 G.2.2.2.1 a1 ++ mkX0 G.2.2.2.1 a2 ++ mkX5 G.2.2.2.1 a3) ++ ws)) _ := hP
  refine lv_aload_n hx hb dX4_init_60 rfl (lv_at hl 0 rfl) ?_
  refine lv_iconst (v := 0) hx hb dX4_init_61 (by decide) ?_
  refine cPut hx hb hU (C := RX4) (T := TX4) (N := 7) (ci := 4) (own := RX4) inUX4 tyX4 tyX4_ok nmX4 hown rfl hK hP hS 6 (by decide) (mU (by decide +kernel) rfl) (Or.inl rfl) (ty := .int) (v := .int 0) (by decide +kernel) rfl rfl (Nat.le_of_ble_eq_true rfl) dX4_init_62 (fun H locs hP hS => ?_)
  have hP : PD G ((h0, .inr (4, [.ref q0, .ref (a1 0), .ref (a2 0), .ref (a3 0), .int 0, .int 0, .int 0])) :: (([(q0, .inl (G.2.2.2.1, 4, .inl fbv))] ++ mkX1 G.2.2.2.1 a1 ++ mkX0 G.2.2.2.1 a2 ++ mkX5 G.2.2.2.1 a3) ++ ws)) _ := hP
  refine W.widen (k := 14) (n := 317) (Nat.le_refl _) (Nat.le_refl _) ?_
  exact W.vret hx hb hr (fun t ht hW => ⟨⟨fun j => [h0, q0, a1 0, a1 1, a1 2, a1 3, a1 4, a2 0, a2 1, a3 0, a3 1, a3 2, a3 3, a3 4, a3 5].getD j 0, rfl, rfl, by show PD G _ t.heap; rw [ht]; exact hP⟩, hS.F ht⟩) hS.2.2 dX4_init_65
theorem fsX6 : ∀ j, j < 6 → defaultValue (tyX6 j) = vp_V [.null, .null, .null, .null, .null, .int 0] j := by
  intro j hj
  match j, hj with
  | 0, _ => rfl
  | 1, _ => rfl
  | 2, _ => rfl
  | 3, _ => rfl
  | 4, _ => rfl
  | 5, _ => rfl
set_option maxHeartbeats 4000000 in
set_option maxRecDepth 100000 in
theorem i_X6 (G : Gt) : Ct G yX6_init cX6_init { frames := 3, cells := 50, slots := 1471, locals := 63 } 6 [.null, .null, .null, .null, .null, .int 0] (mkX6 G.2.2.2.1) := by
  intro ws h0
  refine Met.ofW (cc := cX6_init) (maxL := 1) (ret := none) (by decide) rfl ?_
  intro p e s m args below meth c s₁ B hml hv
  obtain ⟨rfl, hP, hK⟩ := hv
  have hx := B.exec
  have hb := B.bytes
  have hr := B.returns
  have hts := atoms_spec (ws := uws yX6_init cX6_init 1 none) B.pre
  have hU : ∀ w ∈ UW, w.before #[Value.ref h0] s = true := fun w h => hts w (List.mem_cons_of_mem _ h)
  have hown : s.vm.findClass RX6 = some m.cls := findClass_of_methodNamed B.named
  have hin : meth.name = "<init>" := (name_of_methodNamed B.named B.method).1
  have hlk : meth.locks = false := B.notSynchronized
  have hS : va_S (Asb G.2.2.2.2.2) s.heap s.heap [] := va_S.rf
  have hl := lv_entry ([.ref h0]) (n := 1) (Nat.le_of_ble_eq_true rfl)
  rw [lg_entry_eq]
  generalize (lg_sl ([.ref h0]) ++ List.replicate (1 - (lg_sl ([.ref h0])).length) Slot.unset).toArray = ls at hl ⊢
  have hl : lv_has ls 1 [(0, .ref h0)] := hl
  refine lv_aload_n hx hb dX6_init_0 rfl (lv_at hl 0 rfl) ?_
  refine W.objInit hx hb hown (hU (.methodLink RX6 3 objectInit) (mU (by decide +kernel) rfl)) (hU (.instanceMethod objectInit) (mU (by decide +kernel) rfl)) (hU (.code objectInit ⟨#[0xb1]⟩ 1 none) (mU (by decide +kernel) rfl)) rfl (by rw [hml]; exact hl.1) rfl dX6_init_1 (Nat.le_of_ble_eq_true rfl) (Nat.le_of_ble_eq_true rfl) ?_
  refine W.eq (g2 := F0 m 4 ls []) rfl ?_
  refine lv_aload_n hx hb dX6_init_4 rfl (lv_at hl 0 rfl) ?_
  have hP : PD G (((h0, .inr (6, [.null, .null, .null, .null, .null, .int 0])) :: ([])) ++ ws) _ := hP
  refine cMake (ws := ws) (Ts := uws yX6_init cX6_init 1 none) (C := RX4) (T := TX4) (N := 7) (own := RX6) (idxN := 9) (idxI := 11) ⟨hx, hb, hml, hown, hts⟩ (fun w h => List.mem_cons_of_mem _ h) hK (i_X4 G) hP hS (mU (by decide +kernel) rfl) (mU (by decide +kernel) rfl) (mU (by decide +kernel) rfl) inUX4 tyX4 tyX4_ok rfl fsX4 rfl rfl (by decide +kernel) (Or.inr hK.2.1.1) (mU (by decide +kernel) rfl) (mU (by decide +kernel) rfl) (Nat.le_of_ble_eq_true rfl) (Nat.le_of_ble_eq_true rfl) ⟨Nat.le_of_ble_eq_true rfl, Nat.le_of_ble_eq_true rfl⟩ hl.1 (Nat.le_of_ble_eq_true rfl) dX6_init_5 dX6_init_8 dX6_init_9 (fun a0 H locs hP hS => ?_)
  have hP : PD G ((h0, .inr (6, [.null, .null, .null, .null, .null, .int 0])) :: ((mkX4 G.2.2.2.1 a0) ++ ws)) _ := hP
  refine cPut hx hb hU (C := RX6) (T := TX6) (N := 6) (ci := 6) (own := RX6) inUX6 tyX6 tyX6_ok nmX6 hown rfl hK hP hS 0 (by decide) (mU (by decide +kernel) rfl) (Or.inr ⟨rfl, hin, rfl⟩) (ty := .object "TouchPanel$Scene") (v := .ref (a0 0)) (by decide +kernel) rfl rfl (Nat.le_of_ble_eq_true rfl) dX6_init_12 (fun H locs hP hS => ?_)
  have hP : PD G ((h0, .inr (6, [.ref (a0 0), .null, .null, .null, .null, .int 0])) :: ((mkX4 G.2.2.2.1 a0) ++ ws)) _ := hP
  refine lv_aload_n hx hb dX6_init_15 rfl (lv_at hl 0 rfl) ?_
  have hP : PD G (((h0, .inr (6, [.ref (a0 0), .null, .null, .null, .null, .int 0])) :: (mkX4 G.2.2.2.1 a0)) ++ ws) _ := hP
  refine cMake (ws := ws) (Ts := uws yX6_init cX6_init 1 none) (C := RX4) (T := TX4) (N := 7) (own := RX6) (idxN := 9) (idxI := 11) ⟨hx, hb, hml, hown, hts⟩ (fun w h => List.mem_cons_of_mem _ h) hK (i_X4 G) hP hS (mU (by decide +kernel) rfl) (mU (by decide +kernel) rfl) (mU (by decide +kernel) rfl) inUX4 tyX4 tyX4_ok rfl fsX4 rfl rfl (by decide +kernel) (Or.inr hK.2.1.1) (mU (by decide +kernel) rfl) (mU (by decide +kernel) rfl) (Nat.le_of_ble_eq_true rfl) (Nat.le_of_ble_eq_true rfl) ⟨Nat.le_of_ble_eq_true rfl, Nat.le_of_ble_eq_true rfl⟩ hl.1 (Nat.le_of_ble_eq_true rfl) dX6_init_16 dX6_init_19 dX6_init_20 (fun a1 H locs hP hS => ?_)
  have hP : PD G ((h0, .inr (6, [.ref (a0 0), .null, .null, .null, .null, .int 0])) :: ((mkX4 G.2.2.2.1 a0 ++ mkX4 G.2.2.2.1 a1) ++ ws)) _ := hP
  refine cPut hx hb hU (C := RX6) (T := TX6) (N := 6) (ci := 6) (own := RX6) inUX6 tyX6 tyX6_ok nmX6 hown rfl hK hP hS 1 (by decide) (mU (by decide +kernel) rfl) (Or.inr ⟨rfl, hin, rfl⟩) (ty := .object "TouchPanel$Scene") (v := .ref (a1 0)) (by decide +kernel) rfl rfl (Nat.le_of_ble_eq_true rfl) dX6_init_23 (fun H locs hP hS => ?_)
  have hP : PD G ((h0, .inr (6, [.ref (a0 0), .ref (a1 0), .null, .null, .null, .int 0])) :: ((mkX4 G.2.2.2.1 a0 ++ mkX4 G.2.2.2.1 a1) ++ ws)) _ := hP
  refine lv_aload_n hx hb dX6_init_26 rfl (lv_at hl 0 rfl) ?_
  have hP : PD G (((h0, .inr (6, [.ref (a0 0), .ref (a1 0), .null, .null, .null, .int 0])) :: (mkX4 G.2.2.2.1 a0 ++ mkX4 G.2.2.2.1 a1)) ++ ws) _ := hP
  refine cMake (ws := ws) (Ts := uws yX6_init cX6_init 1 none) (C := RX4) (T := TX4) (N := 7) (own := RX6) (idxN := 9) (idxI := 11) ⟨hx, hb, hml, hown, hts⟩ (fun w h => List.mem_cons_of_mem _ h) hK (i_X4 G) hP hS (mU (by decide +kernel) rfl) (mU (by decide +kernel) rfl) (mU (by decide +kernel) rfl) inUX4 tyX4 tyX4_ok rfl fsX4 rfl rfl (by decide +kernel) (Or.inr hK.2.1.1) (mU (by decide +kernel) rfl) (mU (by decide +kernel) rfl) (Nat.le_of_ble_eq_true rfl) (Nat.le_of_ble_eq_true rfl) ⟨Nat.le_of_ble_eq_true rfl, Nat.le_of_ble_eq_true rfl⟩ hl.1 (Nat.le_of_ble_eq_true rfl) dX6_init_27 dX6_init_30 dX6_init_31 (fun a2 H locs hP hS => ?_)
  have hP : PD G ((h0, .inr (6, [.ref (a0 0), .ref (a1 0), .null, .null, .null, .int 0])) :: ((mkX4 G.2.2.2.1 a0 ++ mkX4 G.2.2.2.1 a1 ++ mkX4 G.2.2.2.1 a2) ++ ws)) _ := hP
  refine cPut hx hb hU (C := RX6) (T := TX6) (N := 6) (ci := 6) (own := RX6) inUX6 tyX6 tyX6_ok nmX6 hown rfl hK hP hS 2 (by decide) (mU (by decide +kernel) rfl) (Or.inr ⟨rfl, hin, rfl⟩) (ty := .object "TouchPanel$Scene") (v := .ref (a2 0)) (by decide +kernel) rfl rfl (Nat.le_of_ble_eq_true rfl) dX6_init_34 (fun H locs hP hS => ?_)
  have hP : PD G ((h0, .inr (6, [.ref (a0 0), .ref (a1 0), .ref (a2 0), .null, .null, .int 0])) :: ((mkX4 G.2.2.2.1 a0 ++ mkX4 G.2.2.2.1 a1 ++ mkX4 G.2.2.2.1 a2) ++ ws)) _ := hP
  refine lv_aload_n hx hb dX6_init_37 rfl (lv_at hl 0 rfl) ?_
  have hP : PD G (((h0, .inr (6, [.ref (a0 0), .ref (a1 0), .ref (a2 0), .null, .null, .int 0])) :: (mkX4 G.2.2.2.1 a0 ++ mkX4 G.2.2.2.1 a1 ++ mkX4 G.2.2.2.1 a2)) ++ ws) _ := hP
  refine cMake (ws := ws) (Ts := uws yX6_init cX6_init 1 none) (C := RX3) (T := TX3) (N := 8) (own := RX6) (idxN := 22) (idxI := 24) ⟨hx, hb, hml, hown, hts⟩ (fun w h => List.mem_cons_of_mem _ h) hK (i_X3 G) hP hS (mU (by decide +kernel) rfl) (mU (by decide +kernel) rfl) (mU (by decide +kernel) rfl) inUX3 tyX3 tyX3_ok rfl fsX3 rfl rfl (by decide +kernel) (Or.inr hK.2.1.2.2.2.1) (mU (by decide +kernel) rfl) (mU (by decide +kernel) rfl) (Nat.le_of_ble_eq_true rfl) (Nat.le_of_ble_eq_true rfl) ⟨Nat.le_of_ble_eq_true rfl, Nat.le_of_ble_eq_true rfl⟩ hl.1 (Nat.le_of_ble_eq_true rfl) dX6_init_38 dX6_init_41 dX6_init_42 (fun a3 H locs hP hS => ?_)
  have hP : PD G ((h0, .inr (6, [.ref (a0 0), .ref (a1 0), .ref (a2 0), .null, .null, .int 0])) :: ((mkX4 G.2.2.2.1 a0 ++ mkX4 G.2.2.2.1 a1 ++ mkX4 G.2.2.2.1 a2 ++ mkX3 G.2.2.2.1 a3) ++ ws)) _ := hP
  refine cPut hx hb hU (C := RX6) (T := TX6) (N := 6) (ci := 6) (own := RX6) inUX6 tyX6 tyX6_ok nmX6 hown rfl hK hP hS 3 (by decide) (mU (by decide +kernel) rfl) (Or.inr ⟨rfl, hin, rfl⟩) (ty := .object "TouchPanel$Pairing") (v := .ref (a3 0)) (by decide +kernel) rfl rfl (Nat.le_of_ble_eq_true rfl) dX6_init_45 (fun H locs hP hS => ?_)
  have hP : PD G ((h0, .inr (6, [.ref (a0 0), .ref (a1 0), .ref (a2 0), .ref (a3 0), .null, .int 0])) :: ((mkX4 G.2.2.2.1 a0 ++ mkX4 G.2.2.2.1 a1 ++ mkX4 G.2.2.2.1 a2 ++ mkX3 G.2.2.2.1 a3) ++ ws)) _ := hP
  refine lv_aload_n hx hb dX6_init_48 rfl (lv_at hl 0 rfl) ?_
  have hP : PD G (((h0, .inr (6, [.ref (a0 0), .ref (a1 0), .ref (a2 0), .ref (a3 0), .null, .int 0])) :: (mkX4 G.2.2.2.1 a0 ++ mkX4 G.2.2.2.1 a1 ++ mkX4 G.2.2.2.1 a2 ++ mkX3 G.2.2.2.1 a3)) ++ ws) _ := hP
  refine cMake (ws := ws) (Ts := uws yX6_init cX6_init 1 none) (C := RX2) (T := TX2) (N := 1) (own := RX6) (idxN := 29) (idxI := 31) ⟨hx, hb, hml, hown, hts⟩ (fun w h => List.mem_cons_of_mem _ h) hK (i_X2 G) hP hS (mU (by decide +kernel) rfl) (mU (by decide +kernel) rfl) (mU (by decide +kernel) rfl) inUX2 tyX2 tyX2_ok rfl fsX2 rfl rfl (by decide +kernel) (Or.inr hK.2.1.2.2.2.2.1) (mU (by decide +kernel) rfl) (mU (by decide +kernel) rfl) (Nat.le_of_ble_eq_true rfl) (Nat.le_of_ble_eq_true rfl) ⟨Nat.le_of_ble_eq_true rfl, Nat.le_of_ble_eq_true rfl⟩ hl.1 (Nat.le_of_ble_eq_true rfl) dX6_init_49 dX6_init_52 dX6_init_53 (fun a4 H locs hP hS => ?_)
  have hP : PD G ((h0, .inr (6, [.ref (a0 0), .ref (a1 0), .ref (a2 0), .ref (a3 0), .null, .int 0])) :: ((mkX4 G.2.2.2.1 a0 ++ mkX4 G.2.2.2.1 a1 ++ mkX4 G.2.2.2.1 a2 ++ mkX3 G.2.2.2.1 a3 ++ mkX2 a4) ++ ws)) _ := hP
  refine cPut hx hb hU (C := RX6) (T := TX6) (N := 6) (ci := 6) (own := RX6) inUX6 tyX6 tyX6_ok nmX6 hown rfl hK hP hS 4 (by decide) (mU (by decide +kernel) rfl) (Or.inr ⟨rfl, hin, rfl⟩) (ty := .object "TouchPanel$Lots") (v := .ref (a4 0)) (by decide +kernel) rfl rfl (Nat.le_of_ble_eq_true rfl) dX6_init_56 (fun H locs hP hS => ?_)
  have hP : PD G ((h0, .inr (6, [.ref (a0 0), .ref (a1 0), .ref (a2 0), .ref (a3 0), .ref (a4 0), .int 0])) :: ((mkX4 G.2.2.2.1 a0 ++ mkX4 G.2.2.2.1 a1 ++ mkX4 G.2.2.2.1 a2 ++ mkX3 G.2.2.2.1 a3 ++ mkX2 a4) ++ ws)) _ := hP
  refine lv_aload_n hx hb dX6_init_59 rfl (lv_at hl 0 rfl) ?_
  refine lv_iconst (v := 0) hx hb dX6_init_60 (by decide) ?_
  refine cPut hx hb hU (C := RX6) (T := TX6) (N := 6) (ci := 6) (own := RX6) inUX6 tyX6 tyX6_ok nmX6 hown rfl hK hP hS 5 (by decide) (mU (by decide +kernel) rfl) (Or.inl rfl) (ty := .int) (v := .int 0) (by decide +kernel) rfl rfl (Nat.le_of_ble_eq_true rfl) dX6_init_61 (fun H locs hP hS => ?_)
  have hP : PD G ((h0, .inr (6, [.ref (a0 0), .ref (a1 0), .ref (a2 0), .ref (a3 0), .ref (a4 0), .int 0])) :: ((mkX4 G.2.2.2.1 a0 ++ mkX4 G.2.2.2.1 a1 ++ mkX4 G.2.2.2.1 a2 ++ mkX3 G.2.2.2.1 a3 ++ mkX2 a4) ++ ws)) _ := hP
  refine W.widen (k := 50) (n := 1471) (Nat.le_refl _) (Nat.le_refl _) ?_
  exact W.vret hx hb hr (fun t ht hW => ⟨⟨fun j => [h0, a0 0, a0 1, a0 2, a0 3, a0 4, a0 5, a0 6, a0 7, a0 8, a0 9, a0 10, a0 11, a0 12, a0 13, a0 14, a1 0, a1 1, a1 2, a1 3, a1 4, a1 5, a1 6, a1 7, a1 8, a1 9, a1 10, a1 11, a1 12, a1 13, a1 14, a2 0, a2 1, a2 2, a2 3, a2 4, a2 5, a2 6, a2 7, a2 8, a2 9, a2 10, a2 11, a2 12, a2 13, a2 14, a3 0, a3 1, a3 2, a3 3, a4 0].getD j 0, rfl, rfl, by show PD G _ t.heap; rw [ht]; exact hP⟩, hS.F ht⟩) hS.2.2 dX6_init_64
