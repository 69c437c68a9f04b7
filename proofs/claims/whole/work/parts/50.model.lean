/-! the model's constructor: behind it the world is whole -/
def adW (G : Gt) (a b : Nat → Nat) : Nat → Nat := fun j => if j < 51 then a j else if j < 57 then b (j - 51) else G.2.2.1 j
def Gw (G : Gt) (a b : Nat → Nat) : Gt := (G.1, G.2.1, adW G a b, G.2.2.2)
def M00 : Mm := (fun i => if i = 2 ∨ i = 17 ∨ i = 32 then fbv else if i = 3 ∨ i = 18 ∨ i = 33 then (fun k => if k < 2 then 4 else 0) else if i = 7 ∨ i = 22 ∨ i = 37 then (fun _ => -1) else if i = 52 then (upd (upd (upd (upd (fun _ => 0) 2 10) 3 9) 4 3) 5 1) else fun _ => 0, fun i => if i = 50 then 1 else 0)
def mkX7 (cI cZ : ClassId) (b : Nat → Nat) : va_W := [(b 0, .inr (7, [.ref (b 1), .ref (b 2), .ref (b 3), .long 0, .ref (b 4), .ref (b 5)])), (b 1, .inl (cI, 316, .inl (upd (upd (upd (upd (fun _ => 0) 2 10) 3 9) 4 3) 5 1))), (b 2, .inl (cI, 448, .inl (fun _ => 0))), (b 3, .inl (cI, 6, .inl (fun _ => 0))), (b 4, .inl (cZ, 2, .inl (fun _ => 0))), (b 5, .inl (cI, 632, .inl (fun _ => 0)))]
def mIx {α β : Type} (f : Nat → α → β) : Nat → List α → List β
  | _, [] => []
  | n, x :: l => f n x :: mIx f (n + 1) l
theorem mapIdx_rec' {α β : Type} : ∀ (l : List α) (n : Nat) (f : Nat → α → β), l.mapIdx (fun i => f (n + i)) = mIx f n l
  | [], _, _ => rfl
  | x :: l, n, f => by
    rw [List.mapIdx_cons, mIx, ← mapIdx_rec' l (n + 1) f]
    simp [Nat.add_assoc, Nat.add_comm 1]
theorem mapIdx_rec {α β : Type} (l : List α) (f : Nat → α → β) : l.mapIdx f = mIx f 0 l := by
  rw [← mapIdx_rec' l 0 f]
  simp
def mkE' (ad : Nat → Nat) (cI cZ : ClassId) (M : Mm) (i : Nat) : Sh → va_E
  | .inl (0, n) => .inl (cI, n, .inl (M.1 i))
  | .inl (_ + 1, n) => .inl (cZ, n, .inl (M.1 i))
  | .inr (ci, ks) => .inr (ci, mIx (fun k q => fv ad M i k q) 0 ks)
theorem mkE_eq : mkE = mkE' := by
  funext ad cI cZ M i sh
  rcases sh with ⟨q, n⟩ | ⟨ci, ks⟩
  · cases q <;> rfl
  · simp only [mkE, mkE', mapIdx_rec]
set_option maxRecDepth 100000 in
theorem wd00 (G : Gt) (a b : Nat → Nat) : mkX6 G.2.2.2.1 a ++ mkX7 G.2.2.2.1 G.2.2.2.2.1 b = wd (adW G a b) G.2.2.2.1 G.2.2.2.2.1 M00 := by
  unfold wd
  rw [mapIdx_rec, mkE_eq]
  rfl
theorem PD.wo {G : Gt} {a b : Nat → Nat} {H : Heap} (h : PD G (mkX6 G.2.2.2.1 a ++ mkX7 G.2.2.2.1 G.2.2.2.2.1 b) H) : Wo (Gw G a b) M00 H := by
  rw [wd00] at h
  exact h
/-- a method of a class of ours calls a method of the cell a -/
theorem ccall {G : Gt} {p : Program} {e : Env} {R : Room} {s : State} {m : MethodId} {args : Array Value} {below : List Frame} {meth : Method} {c : Code} {H : Heap} {locs : List Loc} {cells slots : Nat} {Z : State → Prop} {pc nL : Nat} {cc : ByteArray} {own : String} {Ts : List Cond} {ls : Array Slot} {rest av : List Value} {M : Mm} {Q : Qt} {n ci a idx : Nat} {y : MethodName} {bytes : ByteArray} {maxL : Nat} {ret : Option FieldType} {rm : Room} {T : u_T} {N : Nat} {ks : List Nat}
    (hf : CallFix p m c cc nL s args Ts own) (hC : Cx G s) (hW : Wo G M H) (hS : va_S (Asb G.2.2.2.2.2) s.heap H locs) (hsz : ls.size = nL) (hdg : decode cc pc = .ok (.invokevirtual idx, 3)) (hM : Cn G y (uws y bytes maxL ret) rm (.ref a :: av) M Q)
    (hG : GoodIn Ts (wsV own idx y.cls y (uws y bytes maxL ret))) (hrc : rm.cells = 0) (hrs : rm.slots = 0) (hc : vwCl[ci]? = some (y.cls, T, N)) (ho : lay[a]? = some (.inr (ci, ks))) (hd : y.cls ≠ "java/lang/invoke/MethodHandle" ∧ y.cls ≠ "java/lang/invoke/VarHandle" ∧ (parseMethodDescriptor y.desc).map (fun d => d.parameters.length) = some n) (hR : rm.frames + 1 ≤ R.frames ∧ 8 + (maxL + 11) + rm.locals ≤ R.locals) (hn : av.length = n) (hcat : (rest.map fun v => v.category).sum ≤ 8) (hcl : cells ≤ R.cells) (hsl : slots ≤ R.slots)
    (kk : ∀ (r : Option Value) (M' : Mm) (H1 : Heap) (locs1 : List Loc), Q r M' → Wo G M' H1 → va_S (Asb G.2.2.2.2.2) s.heap H1 locs1 → W p G.1 e R s m args below meth c H1 locs1 cells slots Z (F0 m (pc + 3) ls ((r.map (cv G.2.2.1)).toList ++ rest))) : W p G.1 e R s m args below meth c H locs cells slots Z (F0 m pc ls ((av.map (cv G.2.2.1)).reverse ++ .ref (G.2.2.1 a) :: rest)) := by
  refine callG (va_runV (As := av.map (cv G.2.2.1)) (rest := rest) (b := G.2.2.1 a) (ret := ret) (bytes := bytes) (maxL := maxL) hf hM (cwV n hf.2.2.2.2 hG rfl hrc hrs ⟨rfl, hd⟩ hR) ⟨Pre.blind, ?_, ?_⟩ rfl (by simp [hn]) hsz rfl (lv_room hcat) hdg ⟨hcl, hsl⟩) hS kk
  · exact va_recv hC.1 hW.1 hc (wd_at ho)
  · intro U hU hWm
    exact ⟨rfl, by rw [hU]; exact hW, hC.at hS hU hWm⟩
abbrev Q7 (G : Gt) (a : Nat → Nat) (h0 : Nat) : Array Value → State → Outcome → State → Prop := va_Qv (fun u : (Nat → Nat) × Mm => u.1 0 = h0 ∧ FrM M00 u.2 ∧ u.2.1 52 = newN (M00.1 52) 4 4) (fun u t => Wo (Gw G a u.1) u.2 t.heap) (Asb G.2.2.2.2.2)

theorem fsX7 : ∀ j, j < 6 → defaultValue (tyX7 j) = vp_V [.null, .null, .null, .long 0, .null, .null] j := by
  intro j hj
  match j, hj with
  | 0, _ => rfl
  | 1, _ => rfl
  | 2, _ => rfl
  | 3, _ => rfl
  | 4, _ => rfl
  | 5, _ => rfl
set_option maxHeartbeats 4000000 in
set_option maxRecDepth 100000 in
theorem i_X7 (G : Gt) (a : Nat → Nat) (h0 : Nat) : Met G.1 yX7_init (uws yX7_init cX7_init 1 none) { frames := 1, cells := 5, slots := 1404, locals := 23 } (CtP G 7 [.null, .null, .null, .long 0, .null, .null] (mkX6 G.2.2.2.1 a) h0) (Q7 G a h0) 5 1404 (Asb G.2.2.2.2.2) := by
  generalize hws : mkX6 G.2.2.2.1 a = ws
  refine Met.ofW (cc := cX7_init) (maxL := 1) (ret := none) (by decide) rfl ?_
  intro p e s m args below meth c s₁ B hml hv
  obtain ⟨rfl, hP, hK⟩ := hv
  have hx := B.exec
  have hb := B.bytes
  have hr := B.returns
  have hts := atoms_spec (ws := uws yX7_init cX7_init 1 none) B.pre
  have hU : ∀ w ∈ UW, w.before #[Value.ref h0] s = true := fun w h => hts w (List.mem_cons_of_mem _ h)
  have hown : s.vm.findClass RX7 = some m.cls := findClass_of_methodNamed B.named
  have hin : meth.name = "<init>" := (name_of_methodNamed B.named B.method).1
  have hlk : meth.locks = false := B.notSynchronized
  have hS : va_S (Asb G.2.2.2.2.2) s.heap s.heap [] := va_S.rf
  have hl := lv_entry ([.ref h0]) (n := 1) (Nat.le_of_ble_eq_true rfl)
  rw [lg_entry_eq]
  generalize (lg_sl ([.ref h0]) ++ List.replicate (1 - (lg_sl ([.ref h0])).length) Slot.unset).toArray = ls at hl ⊢
  have hl : lv_has ls 1 [(0, .ref h0)] := hl
  refine lv_aload_n hx hb dX7_init_0 rfl (lv_at hl 0 rfl) ?_
  refine W.objInit hx hb hown (hU (.methodLink RX7 1 objectInit) (mU (by decide +kernel) rfl)) (hU (.instanceMethod objectInit) (mU (by decide +kernel) rfl)) (hU (.code objectInit ⟨#[0xb1]⟩ 1 none) (mU (by decide +kernel) rfl)) rfl (by rw [hml]; exact hl.1) rfl dX7_init_1 (Nat.le_of_ble_eq_true rfl) (Nat.le_of_ble_eq_true rfl) ?_
  refine W.eq (g2 := F0 m 4 ls []) rfl ?_
  refine lv_aload_n hx hb dX7_init_4 rfl (lv_at hl 0 rfl) ?_
  refine lv_sipush (v := 316) hx hb dX7_init_5 (by decide) ?_
  have hP : PD G (((h0, .inr (7, [.null, .null, .null, .long 0, .null, .null])) :: []) ++ ws) _ := hP
  refine cNewI hx hb (hU (.arrayClass .int) (mU (by decide +kernel) rfl)) hK hP hS 316 (by decide) (by decide) (by decide) (Nat.le_of_ble_eq_true rfl) (Nat.le_of_ble_eq_true rfl) dX7_init_8 (fun q0 H hP hS => ?_)
  have hP : PD G ((h0, .inr (7, [.null, .null, .null, .long 0, .null, .null])) :: ([(q0, .inl (G.2.2.2.1, 316, .inl (fun _ => 0)))] ++ ws)) _ := hP
  refine cPut hx hb hU (C := RX7) (T := TX7) (N := 6) (ci := 7) (own := RX7) inUX7 tyX7 tyX7_ok nmX7 hown rfl hK hP hS 0 (by decide) (mU (by decide +kernel) rfl) (Or.inr ⟨rfl, hin, rfl⟩) (ty := .array .int) (v := .ref q0) (by decide +kernel) rfl rfl (Nat.le_of_ble_eq_true rfl) dX7_init_10 (fun H locs hP hS => ?_)
  have hP : PD G ((h0, .inr (7, [.ref q0, .null, .null, .long 0, .null, .null])) :: ([(q0, .inl (G.2.2.2.1, 316, .inl (fun _ => 0)))] ++ ws)) _ := hP
  refine lv_aload_n hx hb dX7_init_13 rfl (lv_at hl 0 rfl) ?_
  refine lv_sipush (v := 448) hx hb dX7_init_14 (by decide) ?_
  have hP : PD G (((h0, .inr (7, [.ref q0, .null, .null, .long 0, .null, .null])) :: [(q0, .inl (G.2.2.2.1, 316, .inl (fun _ => 0)))]) ++ ws) _ := hP
  refine cNewI hx hb (hU (.arrayClass .int) (mU (by decide +kernel) rfl)) hK hP hS 448 (by decide) (by decide) (by decide) (Nat.le_of_ble_eq_true rfl) (Nat.le_of_ble_eq_true rfl) dX7_init_17 (fun q1 H hP hS => ?_)
  have hP : PD G ((h0, .inr (7, [.ref q0, .null, .null, .long 0, .null, .null])) :: ([(q0, .inl (G.2.2.2.1, 316, .inl (fun _ => 0))), (q1, .inl (G.2.2.2.1, 448, .inl (fun _ => 0)))] ++ ws)) _ := hP
  refine cPut hx hb hU (C := RX7) (T := TX7) (N := 6) (ci := 7) (own := RX7) inUX7 tyX7 tyX7_ok nmX7 hown rfl hK hP hS 1 (by decide) (mU (by decide +kernel) rfl) (Or.inr ⟨rfl, hin, rfl⟩) (ty := .array .int) (v := .ref q1) (by decide +kernel) rfl rfl (Nat.le_of_ble_eq_true rfl) dX7_init_19 (fun H locs hP hS => ?_)
  have hP : PD G ((h0, .inr (7, [.ref q0, .ref q1, .null, .long 0, .null, .null])) :: ([(q0, .inl (G.2.2.2.1, 316, .inl (fun _ => 0))), (q1, .inl (G.2.2.2.1, 448, .inl (fun _ => 0)))] ++ ws)) _ := hP
  refine lv_aload_n hx hb dX7_init_22 rfl (lv_at hl 0 rfl) ?_
  refine lv_bipush (v := 6) hx hb dX7_init_23 (by decide) ?_
  have hP : PD G (((h0, .inr (7, [.ref q0, .ref q1, .null, .long 0, .null, .null])) :: [(q0, .inl (G.2.2.2.1, 316, .inl (fun _ => 0))), (q1, .inl (G.2.2.2.1, 448, .inl (fun _ => 0)))]) ++ ws) _ := hP
  refine cNewI hx hb (hU (.arrayClass .int) (mU (by decide +kernel) rfl)) hK hP hS 6 (by decide) (by decide) (by decide) (Nat.le_of_ble_eq_true rfl) (Nat.le_of_ble_eq_true rfl) dX7_init_25 (fun q2 H hP hS => ?_)
  have hP : PD G ((h0, .inr (7, [.ref q0, .ref q1, .null, .long 0, .null, .null])) :: ([(q0, .inl (G.2.2.2.1, 316, .inl (fun _ => 0))), (q1, .inl (G.2.2.2.1, 448, .inl (fun _ => 0))), (q2, .inl (G.2.2.2.1, 6, .inl (fun _ => 0)))] ++ ws)) _ := hP
  refine cPut hx hb hU (C := RX7) (T := TX7) (N := 6) (ci := 7) (own := RX7) inUX7 tyX7 tyX7_ok nmX7 hown rfl hK hP hS 2 (by decide) (mU (by decide +kernel) rfl) (Or.inr ⟨rfl, hin, rfl⟩) (ty := .array .int) (v := .ref q2) (by decide +kernel) rfl rfl (Nat.le_of_ble_eq_true rfl) dX7_init_27 (fun H locs hP hS => ?_)
  have hP : PD G ((h0, .inr (7, [.ref q0, .ref q1, .ref q2, .long 0, .null, .null])) :: ([(q0, .inl (G.2.2.2.1, 316, .inl (fun _ => 0))), (q1, .inl (G.2.2.2.1, 448, .inl (fun _ => 0))), (q2, .inl (G.2.2.2.1, 6, .inl (fun _ => 0)))] ++ ws)) _ := hP
  refine lv_aload_n hx hb dX7_init_30 rfl (lv_at hl 0 rfl) ?_
  refine lv_iconst (v := 2) hx hb dX7_init_31 (by decide) ?_
  have hP : PD G (((h0, .inr (7, [.ref q0, .ref q1, .ref q2, .long 0, .null, .null])) :: [(q0, .inl (G.2.2.2.1, 316, .inl (fun _ => 0))), (q1, .inl (G.2.2.2.1, 448, .inl (fun _ => 0))), (q2, .inl (G.2.2.2.1, 6, .inl (fun _ => 0)))]) ++ ws) _ := hP
  refine cNewZ hx hb (hU (.arrayClass .boolean) (mU (by decide +kernel) rfl)) hK hP hS 2 (by decide) (by decide) (by decide) (Nat.le_of_ble_eq_true rfl) (Nat.le_of_ble_eq_true rfl) dX7_init_32 (fun q3 H hP hS => ?_)
  have hP : PD G ((h0, .inr (7, [.ref q0, .ref q1, .ref q2, .long 0, .null, .null])) :: ([(q0, .inl (G.2.2.2.1, 316, .inl (fun _ => 0))), (q1, .inl (G.2.2.2.1, 448, .inl (fun _ => 0))), (q2, .inl (G.2.2.2.1, 6, .inl (fun _ => 0))), (q3, .inl (G.2.2.2.2.1, 2, .inl (fun _ => 0)))] ++ ws)) _ := hP
  refine cPut hx hb hU (C := RX7) (T := TX7) (N := 6) (ci := 7) (own := RX7) inUX7 tyX7 tyX7_ok nmX7 hown rfl hK hP hS 4 (by decide) (mU (by decide +kernel) rfl) (Or.inr ⟨rfl, hin, rfl⟩) (ty := .array .boolean) (v := .ref q3) (by decide +kernel) rfl rfl (Nat.le_of_ble_eq_true rfl) dX7_init_34 (fun H locs hP hS => ?_)
  have hP : PD G ((h0, .inr (7, [.ref q0, .ref q1, .ref q2, .long 0, .ref q3, .null])) :: ([(q0, .inl (G.2.2.2.1, 316, .inl (fun _ => 0))), (q1, .inl (G.2.2.2.1, 448, .inl (fun _ => 0))), (q2, .inl (G.2.2.2.1, 6, .inl (fun _ => 0))), (q3, .inl (G.2.2.2.2.1, 2, .inl (fun _ => 0)))] ++ ws)) _ := hP
  refine lv_aload_n hx hb dX7_init_37 rfl (lv_at hl 0 rfl) ?_
  refine lv_sipush (v := 632) hx hb dX7_init_38 (by decide) ?_
  have hP : PD G (((h0, .inr (7, [.ref q0, .ref q1, .ref q2, .long 0, .ref q3, .null])) :: [(q0, .inl (G.2.2.2.1, 316, .inl (fun _ => 0))), (q1, .inl (G.2.2.2.1, 448, .inl (fun _ => 0))), (q2, .inl (G.2.2.2.1, 6, .inl (fun _ => 0))), (q3, .inl (G.2.2.2.2.1, 2, .inl (fun _ => 0)))]) ++ ws) _ := hP
  refine cNewI hx hb (hU (.arrayClass .int) (mU (by decide +kernel) rfl)) hK hP hS 632 (by decide) (by decide) (by decide) (Nat.le_of_ble_eq_true rfl) (Nat.le_of_ble_eq_true rfl) dX7_init_41 (fun q4 H hP hS => ?_)
  have hP : PD G ((h0, .inr (7, [.ref q0, .ref q1, .ref q2, .long 0, .ref q3, .null])) :: ([(q0, .inl (G.2.2.2.1, 316, .inl (fun _ => 0))), (q1, .inl (G.2.2.2.1, 448, .inl (fun _ => 0))), (q2, .inl (G.2.2.2.1, 6, .inl (fun _ => 0))), (q3, .inl (G.2.2.2.2.1, 2, .inl (fun _ => 0))), (q4, .inl (G.2.2.2.1, 632, .inl (fun _ => 0)))] ++ ws)) _ := hP
  refine cPut hx hb hU (C := RX7) (T := TX7) (N := 6) (ci := 7) (own := RX7) inUX7 tyX7 tyX7_ok nmX7 hown rfl hK hP hS 5 (by decide) (mU (by decide +kernel) rfl) (Or.inr ⟨rfl, hin, rfl⟩) (ty := .array .int) (v := .ref q4) (by decide +kernel) rfl rfl (Nat.le_of_ble_eq_true rfl) dX7_init_43 (fun H locs hP hS => ?_)
  have hP : PD G ((h0, .inr (7, [.ref q0, .ref q1, .ref q2, .long 0, .ref q3, .ref q4])) :: ([(q0, .inl (G.2.2.2.1, 316, .inl (fun _ => 0))), (q1, .inl (G.2.2.2.1, 448, .inl (fun _ => 0))), (q2, .inl (G.2.2.2.1, 6, .inl (fun _ => 0))), (q3, .inl (G.2.2.2.2.1, 2, .inl (fun _ => 0))), (q4, .inl (G.2.2.2.1, 632, .inl (fun _ => 0)))] ++ ws)) _ := hP
  refine lv_aload_n hx hb dX7_init_46 rfl (lv_at hl 0 rfl) ?_
  refine va_get (D := G.2.1) hx hb hU inUX7 hown hK.1.1 hP.1 0 rfl rfl 0 (by decide) (hU (.fieldLink RX7 7 "TouchPanelModel" "now" "[I") (mU (by decide +kernel) rfl)) (fun _ h9 => h9) rfl dX7_init_47 ?_
  refine lv_iconst (v := 2) hx hb dX7_init_50 (by decide) ?_
  refine lv_bipush (v := 10) hx hb dX7_init_51 (by decide) ?_
  refine va_iast (D := G.2.1) hx hb hK.1.1 hP.1 hP.2 hS 1 0 rfl rfl (vp_in_nI (n := 2) (by decide) (by decide)) dX7_init_53 (fun H locs hP1 hD1 hS => ?_)
  have hP : PD G ((h0, .inr (7, [.ref q0, .ref q1, .ref q2, .long 0, .ref q3, .ref q4])) :: ([(q0, .inl (G.2.2.2.1, 316, .inl (upd (fun _ => 0) 2 10))), (q1, .inl (G.2.2.2.1, 448, .inl (fun _ => 0))), (q2, .inl (G.2.2.2.1, 6, .inl (fun _ => 0))), (q3, .inl (G.2.2.2.2.1, 2, .inl (fun _ => 0))), (q4, .inl (G.2.2.2.1, 632, .inl (fun _ => 0)))] ++ ws)) _ := ⟨hP1, hD1⟩
  refine lv_aload_n hx hb dX7_init_54 rfl (lv_at hl 0 rfl) ?_
  refine va_get (D := G.2.1) hx hb hU inUX7 hown hK.1.1 hP.1 0 rfl rfl 0 (by decide) (hU (.fieldLink RX7 7 "TouchPanelModel" "now" "[I") (mU (by decide +kernel) rfl)) (fun _ h9 => h9) rfl dX7_init_55 ?_
  refine lv_iconst (v := 3) hx hb dX7_init_58 (by decide) ?_
  refine lv_bipush (v := 9) hx hb dX7_init_59 (by decide) ?_
  refine va_iast (D := G.2.1) hx hb hK.1.1 hP.1 hP.2 hS 1 0 rfl rfl (vp_in_nI (n := 3) (by decide) (by decide)) dX7_init_61 (fun H locs hP1 hD1 hS => ?_)
  have hP : PD G ((h0, .inr (7, [.ref q0, .ref q1, .ref q2, .long 0, .ref q3, .ref q4])) :: ([(q0, .inl (G.2.2.2.1, 316, .inl (upd (upd (fun _ => 0) 2 10) 3 9))), (q1, .inl (G.2.2.2.1, 448, .inl (fun _ => 0))), (q2, .inl (G.2.2.2.1, 6, .inl (fun _ => 0))), (q3, .inl (G.2.2.2.2.1, 2, .inl (fun _ => 0))), (q4, .inl (G.2.2.2.1, 632, .inl (fun _ => 0)))] ++ ws)) _ := ⟨hP1, hD1⟩
  refine lv_aload_n hx hb dX7_init_62 rfl (lv_at hl 0 rfl) ?_
  refine va_get (D := G.2.1) hx hb hU inUX7 hown hK.1.1 hP.1 0 rfl rfl 0 (by decide) (hU (.fieldLink RX7 7 "TouchPanelModel" "now" "[I") (mU (by decide +kernel) rfl)) (fun _ h9 => h9) rfl dX7_init_63 ?_
  refine lv_iconst (v := 4) hx hb dX7_init_66 (by decide) ?_
  refine lv_iconst (v := 3) hx hb dX7_init_67 (by decide) ?_
  refine va_iast (D := G.2.1) hx hb hK.1.1 hP.1 hP.2 hS 1 0 rfl rfl (vp_in_nI (n := 4) (by decide) (by decide)) dX7_init_68 (fun H locs hP1 hD1 hS => ?_)
  have hP : PD G ((h0, .inr (7, [.ref q0, .ref q1, .ref q2, .long 0, .ref q3, .ref q4])) :: ([(q0, .inl (G.2.2.2.1, 316, .inl (upd (upd (upd (fun _ => 0) 2 10) 3 9) 4 3))), (q1, .inl (G.2.2.2.1, 448, .inl (fun _ => 0))), (q2, .inl (G.2.2.2.1, 6, .inl (fun _ => 0))), (q3, .inl (G.2.2.2.2.1, 2, .inl (fun _ => 0))), (q4, .inl (G.2.2.2.1, 632, .inl (fun _ => 0)))] ++ ws)) _ := ⟨hP1, hD1⟩
  refine lv_aload_n hx hb dX7_init_69 rfl (lv_at hl 0 rfl) ?_
  refine va_get (D := G.2.1) hx hb hU inUX7 hown hK.1.1 hP.1 0 rfl rfl 0 (by decide) (hU (.fieldLink RX7 7 "TouchPanelModel" "now" "[I") (mU (by decide +kernel) rfl)) (fun _ h9 => h9) rfl dX7_init_70 ?_
  refine lv_iconst (v := 5) hx hb dX7_init_73 (by decide) ?_
  refine lv_iconst (v := 1) hx hb dX7_init_74 (by decide) ?_
  refine va_iast (D := G.2.1) hx hb hK.1.1 hP.1 hP.2 hS 1 0 rfl rfl (vp_in_nI (n := 5) (by decide) (by decide)) dX7_init_75 (fun H locs hP1 hD1 hS => ?_)
  have hP : PD G ((h0, .inr (7, [.ref q0, .ref q1, .ref q2, .long 0, .ref q3, .ref q4])) :: ([(q0, .inl (G.2.2.2.1, 316, .inl (upd (upd (upd (upd (fun _ => 0) 2 10) 3 9) 4 3) 5 1))), (q1, .inl (G.2.2.2.1, 448, .inl (fun _ => 0))), (q2, .inl (G.2.2.2.1, 6, .inl (fun _ => 0))), (q3, .inl (G.2.2.2.2.1, 2, .inl (fun _ => 0))), (q4, .inl (G.2.2.2.1, 632, .inl (fun _ => 0)))] ++ ws)) _ := ⟨hP1, hD1⟩
  refine lv_aload_n hx hb dX7_init_76 rfl (lv_at hl 0 rfl) ?_
  refine lv_iconst (v := 4) hx hb dX7_init_77 (by decide) ?_
  refine lv_iconst (v := 4) hx hb dX7_init_78 (by decide) ?_
  subst hws
  have hPW : PD G (mkX6 G.2.2.2.1 a ++ mkX7 G.2.2.2.1 G.2.2.2.2.1 (fun j => [h0, q0, q1, q2, q3, q4].getD j 0)) _ := PD.perm (ws := mkX7 G.2.2.2.1 G.2.2.2.2.1 (fun j => [h0, q0, q1, q2, q3, q4].getD j 0) ++ mkX6 G.2.2.2.1 a) hP List.perm_append_comm
  have hWo : Wo (Gw G a (fun j => [h0, q0, q1, q2, q3, q4].getD j 0)) M00 _ := PD.wo hPW
  refine ccall (G := Gw G a (fun j => [h0, q0, q1, q2, q3, q4].getD j 0)) (M := M00) (ks := [54, 55, 56, 1, 57, 58]) (rest := []) (av := [.int 4, .int 4]) (a := 51) (ci := 7) (T := TX7) (N := 6) (y := yX7_begins) ⟨hx, hb, hml, hown, hts⟩ hK.1 hWo hS hl.1 dX7_init_79 (nX7_begins _ _ _ _ (m_begins (Q := fun r M' => r = none ∧ FrM M00 M' ∧ M'.1 52 = newN (M00.1 52) 4 4) rfl (fun M' h1 h2 => ⟨rfl, h1, h2⟩))) (goodV u_3_171 u_3_173 u_s23 u_1_9 u_3_174) rfl rfl rfl rfl (by decide +kernel) ⟨Nat.le_of_ble_eq_true rfl, Nat.le_of_ble_eq_true rfl⟩ rfl (Nat.zero_le _) (Nat.le_of_ble_eq_true rfl) (Nat.le_of_ble_eq_true rfl) (fun r M' H locs hq hW hS => ?_)
  obtain ⟨rfl, hq1, hq2⟩ := hq
  refine W.widen (k := 5) (n := 1404) (Nat.le_refl _) (Nat.le_refl _) ?_
  exact W.vret hx hb hr (fun t ht hW9 => ⟨⟨(fun j => [h0, q0, q1, q2, q3, q4].getD j 0, M'), rfl, ⟨rfl, hq1, hq2⟩, by show Wo _ M' t.heap; rw [ht]; exact hW⟩, hS.F ht⟩) hS.2.2 dX7_init_82
