/-! constructors: a world that grows -/
def PD (G : Gt) (ws : va_W) (H : Heap) : Prop := va_P G.2.1 vwCl ws H ∧ va_D (Asb G.2.2.2.2.2) ws
theorem va_D_pw {A : Nat → Prop} {ws : va_W} : va_D A ws ↔ ws.Pairwise (fun x y => x.1 ≠ y.1) ∧ ∀ q ∈ ws, A q.1 := by
  constructor
  · intro h
    refine ⟨?_, fun q hq => ?_⟩
    · rw [List.pairwise_iff_getElem]
      intro i j hi hj hij e
      have := h.1 i j _ _ (List.getElem?_eq_getElem hi) (List.getElem?_eq_getElem hj) e
      omega
    · obtain ⟨k, hk⟩ := List.getElem?_of_mem hq
      exact h.2 k q hk
  · intro h
    refine ⟨fun i j x y hi hj e => ?_, fun k q hk => h.2 q (List.mem_of_getElem? hk)⟩
    obtain ⟨li, rfl⟩ := List.getElem?_eq_some_iff.mp hi
    obtain ⟨lj, rfl⟩ := List.getElem?_eq_some_iff.mp hj
    have hp := List.pairwise_iff_getElem.mp h.1
    rcases Nat.lt_trichotomy i j with h1 | h1 | h1
    · exact absurd e (hp i j li lj h1)
    · exact h1
    · exact absurd e.symm (hp j i lj li h1)
theorem PD.perm {G : Gt} {ws ws' : va_W} {H : Heap} (h : PD G ws H) (hp : ws.Perm ws') : PD G ws' H := by
  refine ⟨fun k q hk => ?_, ?_⟩
  · obtain ⟨i, hi⟩ := List.getElem?_of_mem (hp.mem_iff.mpr (List.mem_of_getElem? hk))
    exact h.1 i q hi
  · have h2 := va_D_pw.mp h.2
    exact va_D_pw.mpr ⟨(hp.pairwise_iff (fun e => Ne.symm e)).mp h2.1, fun q hq => h2.2 q (hp.mem_iff.mpr hq)⟩
def fbv : Nat → Int32 := fun k => if k = 0 then 10 else if k = 1 then 9 else if k = 2 then 3 else 1
def NC (U : State) : Prop := va_Nw (.methodLinkNest RX6 11 yX4_init RX6) U ∧ va_Nw (.methodLinkNest RX4 32 yX0_init RX6) U ∧ va_Nw (.methodLinkNest RX4 39 yX5_init RX6) U ∧ va_Nw (.methodLinkNest RX6 24 yX3_init RX6) U ∧ va_Nw (.methodLinkNest RX6 31 yX2_init RX6) U ∧ va_Nw (.fieldLinkNest RX4 9 RX6 "FIRST_BOUNDS" "[I" RX6) U ∧ va_Nw (.castable "[I" "java/lang/Cloneable") U
theorem NC.warm {s U : State} (hW : s.WarmedH U.vm) (h : NC s) : NC U := ⟨va_Nw.warmM hW h.1, va_Nw.warmM hW h.2.1, va_Nw.warmM hW h.2.2.1, va_Nw.warmM hW h.2.2.2.1, va_Nw.warmM hW h.2.2.2.2.1, va_Nw.warmF hW h.2.2.2.2.2.1, va_Nw.warmC hW h.2.2.2.2.2.2⟩
theorem NC.same {u U : State} (h : u.vm = U.vm) (hZ : NC u) : NC U := ⟨va_Nw.same rfl h hZ.1, va_Nw.same rfl h hZ.2.1, va_Nw.same rfl h hZ.2.2.1, va_Nw.same rfl h hZ.2.2.2.1, va_Nw.same rfl h hZ.2.2.2.2.1, va_Nw.same rfl h hZ.2.2.2.2.2.1, va_Nw.same rfl h hZ.2.2.2.2.2.2⟩
/-- what a constructor may use -/
def Kc (G : Gt) (U : State) : Prop := Cx G U ∧ NC U ∧ RO1 "FIRST_BOUNDS" fbv (G.2.2.1 62) G.2.2.2.2.2 U ∧ (∃ cell : Cell, U.heap[G.2.2.1 62]? = some cell ∧ cell.vm.isStatics = false ∧ U.vm.findClass "[I" = some cell.cls) ∧ G.2.2.2.2.2 ≤ U.heap.size
theorem Kc.at {G : Gt} {s U : State} {H : Heap} {locs : List Loc} (h : Kc G s) (hS : va_S (Asb G.2.2.2.2.2) s.heap H locs) (hU : U.heap = H) (hW : s.WarmedH U.vm) : Kc G U := by
  obtain ⟨h1, h2, h3, ⟨cell, h4, h4', h5⟩, h6⟩ := h
  refine ⟨h1.at hS hU hW, h2.warm hW, h3.at hS hU hW.alike, ⟨cell, ?_, h4', ?_⟩, ?_⟩
  · rw [hU, hS.2.1 _ h3.2.2.1 h3.2.2.2]; exact h4
  · rw [hW.alike.findClass]; exact h5
  · rw [hU]; exact Nat.le_trans h6 hS.1
theorem Kc.blind {G : Gt} {U : State} {g : JFrame} {mk : MethodId} {a : Array Value} (h : Kc G U) : Kc G (U.calling g mk a) := by
  obtain ⟨⟨hK, hN, ⟨a1, a2, a3, a4⟩, ⟨b1, b2, b3, b4⟩⟩, h2, ⟨c1, c2, c3, c4⟩, h4, h6⟩ := h
  exact ⟨⟨va_K.moved (u := U) (U := U.calling g mk a) (Vm.Alike.refl U.vm) hK, NW.same (u := U) (U := U.calling g mk a) rfl hN, ⟨va_Z.moved (u := U) (U := U.calling g mk a) (Vm.Alike.refl U.vm) a1, va_X.moved (u := U) (U := U.calling g mk a) (Vm.Alike.refl U.vm) a2, a3, a4⟩, ⟨va_Z.moved (u := U) (U := U.calling g mk a) (Vm.Alike.refl U.vm) b1, va_X.moved (u := U) (U := U.calling g mk a) (Vm.Alike.refl U.vm) b2, b3, b4⟩⟩, NC.same (u := U) (U := U.calling g mk a) rfl h2, ⟨va_Z.moved (u := U) (U := U.calling g mk a) (Vm.Alike.refl U.vm) c1, va_X.moved (u := U) (U := U.calling g mk a) (Vm.Alike.refl U.vm) c2, c3, c4⟩, h4, h6⟩
def CtP (G : Gt) (ci : Nat) (fs : List Value) (ws : va_W) (h0 : Nat) : Array Value → State → Prop := va_Pc [.ref h0] (fun U => PD G ((h0, .inr (ci, fs)) :: ws) U.heap ∧ Kc G U)
abbrev CtQ (G : Gt) (mk : (Nat → Nat) → va_W) (ws : va_W) (h0 : Nat) : Array Value → State → Outcome → State → Prop := va_Qv (fun a : Nat → Nat => a 0 = h0) (fun a t => PD G (mk a ++ ws) t.heap) (Asb G.2.2.2.2.2)
def Ct (G : Gt) (y : MethodName) (cc : ByteArray) (rm : Room) (ci : Nat) (fs : List Value) (mk : (Nat → Nat) → va_W) : Prop := ∀ (ws : va_W) (h0 : Nat), Met G.1 y (uws y cc 1 none) rm (CtP G ci fs ws h0) (CtQ G mk ws h0) rm.cells rm.slots (Asb G.2.2.2.2.2)
theorem CtP.blind {G : Gt} {ci : Nat} {fs : List Value} {ws : va_W} {h0 : Nat} : FrameBlind (CtP G ci fs ws h0) := by
  intro a U g mk h
  exact ⟨h.1, h.2.1, h.2.2.blind⟩
theorem newI (cA : ClassId) (n : Nat) : vp_cell cA (n, .inl (fun _ => 0)) = arrV cA n (fun _ => defaultValue .int) := vp_cell_i cA n (fun _ => 0)
theorem newZ (cA : ClassId) (n : Nat) : vp_cell cA (n, .inl (fun _ => 0)) = arrV cA n (fun _ => defaultValue .boolean) := vp_cell_i cA n (fun _ => 0)
section CT
variable {G : Gt} {p : Program} {e : Env} {R : Room} {s : State} {m : MethodId} {args : Array Value} {below : List Frame} {meth : Method} {c : Code} {H : Heap} {locs : List Loc} {cells slots : Nat} {Q : State → Prop} {cc : ByteArray} {pc : Nat} {ls : Array Slot} {rest : List Value} {L ws : va_W}
theorem asbAll (hK : Kc G s) : ∀ q, s.heap.size ≤ q → Asb G.2.2.2.2.2 q := fun q h => Nat.le_trans hK.2.2.2.2 h
theorem cNewI (hx : p.tables.exec = Jvm.exec) (hb : c.code = cc) (harr : (Cond.arrayClass .int).before args s = true) (hK : Kc G s) (hP : PD G (L ++ ws) H) (hS : va_S (Asb G.2.2.2.2.2) s.heap H locs)
    {n : Int32} (N : Nat) (hn : ¬ n < 0) (hN : n.toNatClampNeg = N) (hN2 : N ≤ 1000) (hcells : cells + 1 ≤ R.cells) (hslots : slots + N ≤ R.slots) (hdg : decode cc pc = .ok (.newarray .int, 2))
    (kk : ∀ (q : Nat) (H1 : Heap), PD G ((L ++ [(q, .inl (G.2.2.2.1, N, .inl (fun _ => 0)))]) ++ ws) H1 → va_S (Asb G.2.2.2.2.2) s.heap H1 locs → W p G.1 e R s m args below meth c H1 locs (cells + 1) (slots + N) Q (F0 m (pc + 2) ls (.ref q :: rest))) : W p G.1 e R s m args below meth c H locs cells slots Q (F0 m pc ls (.int n :: rest)) := by
  refine va_newa hx hb (atype := .int) harr (ty := .int) rfl hK.1.1 hP.1 hP.2 hS (asbAll hK) (N' := N) (a0 := (N, .inl (fun _ => 0))) (fun cA => newI cA N) hn hN (Nat.le_trans (Nat.mul_le_mul_right 4 hN2) (by decide)) hcells hslots hdg (fun q cA H1 hK9 hP1 hD1 hS1 => ?_)
  have ec : cA = G.2.2.2.1 := Option.some.inj ((va_nm_int (hK9.2 2 _ rfl).2).symm.trans (va_nm_int (hK9.2 0 _ rfl).2))
  subst ec
  refine kk q H1 (PD.perm (ws := (L ++ ws) ++ [(q, .inl (G.2.2.2.1, N, .inl (fun _ => 0)))]) ⟨hP1, hD1⟩ ?_) hS1
  rw [List.append_assoc, List.append_assoc]
  exact List.Perm.append_left L List.perm_append_comm
theorem cNewZ (hx : p.tables.exec = Jvm.exec) (hb : c.code = cc) (harr : (Cond.arrayClass .boolean).before args s = true) (hK : Kc G s) (hP : PD G (L ++ ws) H) (hS : va_S (Asb G.2.2.2.2.2) s.heap H locs)
    {n : Int32} (N : Nat) (hn : ¬ n < 0) (hN : n.toNatClampNeg = N) (hN2 : N ≤ 1000) (hcells : cells + 1 ≤ R.cells) (hslots : slots + N ≤ R.slots) (hdg : decode cc pc = .ok (.newarray .boolean, 2))
    (kk : ∀ (q : Nat) (H1 : Heap), PD G ((L ++ [(q, .inl (G.2.2.2.2.1, N, .inl (fun _ => 0)))]) ++ ws) H1 → va_S (Asb G.2.2.2.2.2) s.heap H1 locs → W p G.1 e R s m args below meth c H1 locs (cells + 1) (slots + N) Q (F0 m (pc + 2) ls (.ref q :: rest))) : W p G.1 e R s m args below meth c H locs cells slots Q (F0 m pc ls (.int n :: rest)) := by
  refine va_newa hx hb (atype := .boolean) harr (ty := .boolean) rfl hK.1.1 hP.1 hP.2 hS (asbAll hK) (N' := N) (a0 := (N, .inl (fun _ => 0))) (fun cA => newZ cA N) hn hN (Nat.le_trans (Nat.mul_le_mul_right 1 hN2) (by decide)) hcells hslots hdg (fun q cA H1 hK9 hP1 hD1 hS1 => ?_)
  have ec : cA = G.2.2.2.2.1 := Option.some.inj ((hK9.2 2 _ rfl).2.symm.trans (hK9.2 1 _ rfl).2)
  subst ec
  refine kk q H1 (PD.perm (ws := (L ++ ws) ++ [(q, .inl (G.2.2.2.2.1, N, .inl (fun _ => 0)))]) ⟨hP1, hD1⟩ ?_) hS1
  rw [List.append_assoc, List.append_assoc]
  exact List.Perm.append_left L List.perm_append_comm
end CT
section CT2
variable {G : Gt} {p : Program} {e : Env} {R : Room} {s : State} {m : MethodId} {args : Array Value} {below : List Frame} {meth : Method} {c : Code} {H : Heap} {locs : List Loc} {cells slots : Nat} {Q : State → Prop} {cc : ByteArray} {pc : Nat} {ls : Array Slot} {rest : List Value} {L ws : va_W}
theorem cPut (hx : p.tables.exec = Jvm.exec) (hb : c.code = cc) (hU : ∀ w ∈ UW, w.before args s = true) {own C : String} {T : u_T} {N ci index h0 : Nat} {fs : List Value} (hin : ∀ w ∈ u_ws C T N, w ∈ UW) (ty0 : Nat → FieldType) (hty : ∀ k, k < N → parseFieldDescriptor (T k).2.2.1 = some (ty0 k)) (hnm : ∀ a, a < N → ∀ b, b < N → a ≠ b → (T a).2.1 ≠ (T b).2.1) (hown : s.vm.findClass own = some m.cls) (hc : vwCl[ci]? = some (C, T, N)) (hK : Kc G s) (hP : PD G ((h0, .inr (ci, fs)) :: ws) H) (hS : va_S (Asb G.2.2.2.2.2) s.heap H locs)
    (k : Nat) (hk : k < N) (hlink : Cond.fieldLink own index (T k).1 (T k).2.1 (T k).2.2.1 ∈ UW) (hfin : (T k).2.2.2 = false ∨ ((T k).2.2.2 = true ∧ meth.name = "<init>" ∧ (T k).1 = own)) {ty : FieldType} {v : Value} (hd : parseFieldDescriptor (T k).2.2.1 = some ty) (hn : narrow ty v = v) (hfit : fits ty v = true) (hl : k < fs.length) (hdg : decode cc pc = .ok (.putfield index, 3))
    (kk : ∀ (H1 : Heap) (locs1 : List Loc), PD G ((h0, .inr (ci, fs.set k v)) :: ws) H1 → va_S (Asb G.2.2.2.2.2) s.heap H1 locs1 → W p G.1 e R s m args below meth c H1 locs1 cells slots Q (F0 m (pc + 3) ls rest)) : W p G.1 e R s m args below meth c H locs cells slots Q (F0 m pc ls (v :: .ref h0 :: rest)) := by
  rcases hfin with hfin | ⟨hfin, hin2, hdecl⟩
  · exact va_put (D := G.2.1) hx hb hU hin ty0 hty hnm hown hK.1.1 hP.1 hP.2 hS 0 rfl hc k hk (hU _ hlink) (fun _ h9 => h9) hfin hd hn hfit hl hdg (fun H1 locs1 a1 a2 a3 => kk H1 locs1 ⟨a1, a2⟩ a3)
  · exact va_putF (D := G.2.1) hx hb hU hin ty0 hty hnm hown hK.1.1 hP.1 hP.2 hS 0 rfl hc k hk (hU _ hlink) (fun _ h9 => h9) hfin hin2 hdecl hd hn hfit hl hdg (fun H1 locs1 a1 a2 a3 => kk H1 locs1 ⟨a1, a2⟩ a3)
theorem cMake {nL : Nat} {own C : String} {T : u_T} {N ci idxN idxI : Nat} {fs : List Value} {y : MethodName} {cc' : ByteArray} {rm : Room} {mk : (Nat → Nat) → va_W} {Ts : List Cond} (hf : CallFix p m c cc nL s args Ts own) (hTs : ∀ w ∈ UW, w ∈ Ts) (hK : Kc G s) (hM : Ct G y cc' rm ci fs mk) (hP : PD G (L ++ ws) H) (hS : va_S (Asb G.2.2.2.2.2) s.heap H locs)
    (hcl : Cond.classLink own idxN C ∈ UW) (hinst : Cond.instantiable C N ∈ UW) (hini : Cond.initialized C ∈ UW) (hin : ∀ w ∈ u_ws C T N, w ∈ UW) (ty0 : Nat → FieldType) (hty : ∀ k, k < N → parseFieldDescriptor (T k).2.2.1 = some (ty0 k)) (hc : vwCl[ci]? = some (C, T, N)) (hfs : ∀ j, j < N → defaultValue (ty0 j) = vp_V fs j)
    (hyc : y.cls = C) (hyn : y.name = "<init>") (hyd : y.cls ≠ "java/lang/invoke/MethodHandle" ∧ y.cls ≠ "java/lang/invoke/VarHandle" ∧ (parseMethodDescriptor y.desc).map (fun d => d.parameters.length) = some 0)
    (hlk : Cond.methodLink own idxI y ∈ UW ∨ va_Nw (.methodLinkNest own idxI y RX6) s) (him : Cond.instanceMethod y ∈ UW) (hcd : Cond.code y cc' 1 none ∈ UW)
    (hcells : cells + 1 + rm.cells ≤ R.cells) (hslots : slots + N + rm.slots ≤ R.slots) (hR : rm.frames + 1 ≤ R.frames ∧ 8 + (1 + 11) + rm.locals ≤ R.locals) (hls : ls.size = nL) (hcat : ((Value.ref 0 :: rest).map fun v => v.category).sum ≤ 8)
    (hd1 : decode cc pc = .ok (.new idxN, 3)) (hd2 : decode cc (pc + 3) = .ok (.dup, 1)) (hd3 : decode cc (pc + 4) = .ok (.invokespecial idxI, 3))
    (kk : ∀ (a : Nat → Nat) (H1 : Heap) (locs1 : List Loc), PD G (L ++ (mk a ++ ws)) H1 → va_S (Asb G.2.2.2.2.2) s.heap H1 locs1 → W p G.1 e R s m args below meth c H1 locs1 (cells + 1 + rm.cells) (slots + N + rm.slots) Q (F0 m (pc + 7) ls (.ref (a 0) :: rest))) : W p G.1 e R s m args below meth c H locs cells slots Q (F0 m pc ls rest) := by
  obtain ⟨hx, hb, hml, hown, hts⟩ := hf
  have hU : ∀ w ∈ UW, w.before args s = true := fun w h => hts w (hTs w h)
  refine va_new (D := G.2.1) (fs := fs) hx hb hU hin ty0 hty hown (hU _ hcl) (hU _ hinst) (hU _ hini) hK.1.1 hP.1 hP.2 hS (asbAll hK) hc hfs (by omega) (by omega) hd1 (fun q H1 hP1 hD1 hS1 => ?_)
  have hPc : PD G ((q, .inr (ci, fs)) :: (L ++ ws)) H1 := PD.perm ⟨hP1, hD1⟩ (List.perm_append_comm (l₂ := [(q, Sum.inr (ci, fs))]))
  refine lv_dup hx hb hd2 rfl ?_
  have hG : GoodIn Ts (uws y cc' 1 none) := by
    intro w hw
    rcases List.mem_cons.mp hw with rfl | hw
    · exact ⟨hTs _ hcd, goodUW hcd⟩
    · exact ⟨hTs _ hw, goodUW hw⟩
  have hps : PreS s H1 (CtP G ci fs (L ++ ws) q) [.ref q] := ⟨CtP.blind, fun U hUh hW => ⟨rfl, by rw [hUh]; exact hPc, hK.at hS1 hUh hW⟩⟩
  have hroom : ((Value.ref q :: rest).map fun v => v.category).sum ≤ 8 := hcat
  have hrun : va_Run p G.1 e R s m args below meth c H1 locs (cells + 1) (slots + N) rm.cells rm.slots (F0 m (pc + 3 + 1) ls (.ref q :: .ref q :: rest)) (.ref q :: rest) (CtQ G mk (L ++ ws) q #[.ref q]) (Asb G.2.2.2.2.2) := by
    rcases hlk with h | h
    · exact va_runI (As := []) (rest := .ref q :: rest) (y := y) (bytes := cc') (maxL := 1) (n := 0) ⟨hx, hb, hml, hown, hts⟩ (hM (L ++ ws) q) (cwI 0 hts hG rfl rfl rfl (by rw [hyc]; exact hU _ hini) (hU _ h) (hU _ him) hyn hyd hR) hps rfl rfl hls rfl (lv_room hroom) hd3 ⟨by omega, by omega⟩
    · exact va_runIN (As := []) (rest := .ref q :: rest) (y := y) (bytes := cc') (maxL := 1) (n := 0) (host := RX6) ⟨hx, hb, hml, hown, hts⟩ (hM (L ++ ws) q) ⟨va_cnB 0 hts hG rfl rfl rfl h (by rw [hyc]; exact hU _ hini) hyd hR, hyn, hU _ him⟩ hps rfl rfl hls rfl (lv_room hroom) hd3 ⟨by omega, by omega⟩
  refine va_callv hrun hS1 (fun _ _ h => h) (fun _ h => h) (fun a t H2 locs2 ht hvm hw hB hz1 hk1 hS2 => ?_)
  rw [ht] at hB
  subst hw
  refine kk a H2 locs2 (hB.perm ?_) hS2
  rw [← List.append_assoc, ← List.append_assoc]
  exact List.Perm.append_right ws List.perm_append_comm
end CT2
