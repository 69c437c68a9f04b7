/-! Arrays.fill over one array -/
theorem vcell_congr (cA : ClassId) (N : Nat) {f g : Nat → Int32} (h : ∀ k, k < N → f k = g k) : vp_cell cA (N, .inl f) = vp_cell cA (N, .inl g) := by
  rw [vp_cell_i, vp_cell_i]
  simp only [arrV]
  congr 1
  congr 1
  funext j
  rw [h j.1 j.2]
theorem PD.arr {G : Gt} {q N : Nat} {cA : ClassId} {f g : Nat → Int32} {L : va_W} {H : Heap} (h : PD G ((q, .inl (cA, N, .inl f)) :: L) H) (hfg : ∀ k, k < N → f k = g k) : PD G ((q, .inl (cA, N, .inl g)) :: L) H := by
  refine ⟨fun k x hk => ?_, va_D_pw.mpr ?_⟩
  · cases k with
    | zero =>
      cases Option.some.inj hk
      have := h.1 0 _ rfl
      show H[q]? = some (vp_cell cA (N, .inl g))
      rw [← vcell_congr cA N hfg]
      exact this
    | succ k => exact h.1 (k + 1) x hk
  · have h2 := va_D_pw.mp h.2
    refine ⟨List.pairwise_cons.mpr ⟨(List.pairwise_cons.mp h2.1).1, (List.pairwise_cons.mp h2.1).2⟩, fun x hx => ?_⟩
    rcases List.mem_cons.mp hx with rfl | hx
    · exact h2.2 (q, .inl (cA, N, .inl f)) List.mem_cons_self
    · exact h2.2 x (List.mem_cons_of_mem _ hx)
def fil (f : Nat → Int32) (v : Int32) (i : Nat) : Nat → Int32 := fun k => if k < i then v else f k
theorem fil_s (f : Nat → Int32) (v : Int32) (i : Nat) : upd (fil f v i) i v = fil f v (i + 1) := by
  funext k
  simp only [upd, fil]
  by_cases h : k = i
  · subst h; simp
  · rw [if_neg h]
    by_cases h2 : k < i
    · rw [if_pos h2, if_pos (by omega)]
    · rw [if_neg h2, if_neg (by omega)]
abbrev fillP (G : Gt) (q N : Nat) (f : Nat → Int32) (v : Int32) (L : va_W) : Array Value → State → Prop := va_Pc [.ref q, .int v] (fun U => PD G ((q, .inl (G.2.2.2.1, N, .inl f)) :: L) U.heap ∧ Kc G U)
abbrev fillQ (G : Gt) (q N : Nat) (v : Int32) (L : va_W) : Array Value → State → Outcome → State → Prop := va_Qv (fun _ : Unit => True) (fun _ t => PD G ((q, .inl (G.2.2.2.1, N, .inl (fun _ => v))) :: L) t.heap) (Asb G.2.2.2.2.2)
theorem fill_loop {G : Gt} {p : Program} {e : Env} {R : Room} {s : State} {m : MethodId} {args : Array Value} {below : List Frame} {meth : Method} {c : Code} {q N : Nat} {f : Nat → Int32} {v : Int32} {L : va_W} (hx : p.tables.exec = Jvm.exec) (hb : c.code = cJ7_fill_53178) (hr : meth.sig.returnType = none) (hlk : meth.locks = false) (hK : Kc G s) (hN : N ≤ 1000) : ∀ (n i : Nat) (H : Heap) (locs : List Loc) (ls : Array Slot), i + n = N → PD G ((q, .inl (G.2.2.2.1, N, .inl (fil f v i))) :: L) H → va_S (Asb G.2.2.2.2.2) s.heap H locs → lv_has ls 4 [(0, .ref q), (1, .int v), (2, .int (nI i)), (3, .int (nI N))] →
    W p G.1 e R s m args below meth c H locs 0 0 (MQ below (fillQ G q N v L) args s 0 0 (Asb G.2.2.2.2.2)) (F0 m 5 ls []) := by
  intro n
  induction n with
  | zero =>
    intro i H locs ls hi hP hS hl
    refine lv_iload_n hx hb dJ7_fill_53178_5 rfl (lv_at hl 2 rfl) ?_
    refine lv_iload_n hx hb dJ7_fill_53178_6 rfl (lv_at hl 3 rfl) ?_
    refine lv_icmp_ge hx hb (tgt := 20) dJ7_fill_53178_7 (by decide) (fun _ => ?_) (fun h => ?_)
    · have hi : i = N := by omega
      subst hi
      have hP := hP.arr (g := fun _ => v) (fun k hk => by simp only [fil]; rw [if_pos hk])
      exact W.vret hx hb hr (fun t ht hW => ⟨⟨(), rfl, trivial, by show PD G _ t.heap; rw [ht]; exact hP⟩, hS.F ht⟩) hS.2.2 dJ7_fill_53178_20
    · have hi : i = N := by omega
      subst hi
      exact absurd (Int32.le_refl _) h
  | succ n ih =>
    intro i H locs ls hi hP hS hl
    have hlt : ¬ (nI N ≤ nI i) := by
      rw [Int32.not_le]
      exact nI_lt (by omega) (by omega)
    refine lv_iload_n hx hb dJ7_fill_53178_5 rfl (lv_at hl 2 rfl) ?_
    refine lv_iload_n hx hb dJ7_fill_53178_6 rfl (lv_at hl 3 rfl) ?_
    refine lv_icmp_ge hx hb (tgt := 20) dJ7_fill_53178_7 (by decide) (fun h => absurd h hlt) (fun _ => ?_)
    refine lv_aload_n hx hb dJ7_fill_53178_10 rfl (lv_at hl 0 rfl) ?_
    refine lv_iload_n hx hb dJ7_fill_53178_11 rfl (lv_at hl 2 rfl) ?_
    refine lv_iload_n hx hb dJ7_fill_53178_12 rfl (lv_at hl 1 rfl) ?_
    refine va_iast hx hb hK.1.1 hP.1 hP.2 hS 0 0 rfl rfl (vp_in_nI (by omega) (by omega)) dJ7_fill_53178_13 (fun H1 locs1 hP1 hD1 hS1 => ?_)
    have hPn : PD G ((q, .inl (G.2.2.2.1, N, .inl (upd (fil f v i) (nI i).toNatClampNeg v))) :: L) H1 := ⟨hP1, hD1⟩
    rw [nI_clamp (by omega), fil_s] at hPn
    refine lv_iinc (k := 2) (v := nI (i + 1)) (lv' := [(2, .int (nI (i + 1))), (0, .ref q), (1, .int v), (3, .int (nI N))]) hx hb dJ7_fill_53178_14 hl rfl (nI_succ i).symm (by decide) rfl (fun ls hl => ?_)
    refine lv_goto hx hb (tgt := 5) dJ7_fill_53178_17 (by decide) ?_
    exact ih (i + 1) H1 locs1 ls (by omega) hPn hS1 (lv_sub hl [1, 2, 0, 3] rfl)
theorem i_fill (G : Gt) (q N : Nat) (f : Nat → Int32) (v : Int32) (L : va_W) (hN : N ≤ 1000) : Met G.1 yJ7_fill_53178 (uws yJ7_fill_53178 cJ7_fill_53178 4 none) rmJ7_fill_53178 (fillP G q N f v L) (fillQ G q N v L) 0 0 (Asb G.2.2.2.2.2) := by
  refine Met.ofW (cc := cJ7_fill_53178) (maxL := 4) (ret := none) (by decide) rfl ?_
  intro p e s m args below meth c s₁ B hml hv
  obtain ⟨rfl, hP, hK⟩ := hv
  have hx := B.exec
  have hb := B.bytes
  have hr := B.returns
  have hS : va_S (Asb G.2.2.2.2.2) s.heap s.heap [] := va_S.rf
  have hl := lv_entry ([.ref q, .int v]) (n := 4) (Nat.le_of_ble_eq_true rfl)
  rw [lg_entry_eq]
  generalize (lg_sl ([.ref q, .int v]) ++ List.replicate (4 - (lg_sl ([.ref q, .int v])).length) Slot.unset).toArray = ls at hl ⊢
  have hl : lv_has ls 4 [(0, .ref q), (1, .int v)] := hl
  refine lv_iconst (v := 0) hx hb dJ7_fill_53178_0 (by decide) ?_
  refine lv_istore_n (lv' := [(2, .int 0), (0, .ref q), (1, .int v)]) hx hb dJ7_fill_53178_1 rfl hl (by decide) rfl (fun ls hl => ?_)
  refine lv_aload_n hx hb dJ7_fill_53178_2 rfl (lv_at hl 1 rfl) ?_
  refine va_alen hx hb hK.1.1 hP.1 0 0 rfl rfl (v := nI N) rfl dJ7_fill_53178_3 ?_
  refine lv_istore_n (lv' := [(3, .int (nI N)), (2, .int 0), (0, .ref q), (1, .int v)]) hx hb dJ7_fill_53178_4 rfl hl (by decide) rfl (fun ls hl => ?_)
  exact fill_loop (f := f) hx hb hr B.notSynchronized hK hN N 0 s.heap [] ls (by omega) (hP.arr (fun k _ => by simp [fil])) hS (lv_sub hl [2, 3, 1, 0] rfl)
/-! FIRST_BOUNDS.clone() -/
section CL
variable {G : Gt} {p : Program} {e : Env} {R : Room} {s : State} {m : MethodId} {args : Array Value} {below : List Frame} {meth : Method} {c : Code} {H : Heap} {locs : List Loc} {cells slots : Nat} {Q : State → Prop} {cc : ByteArray} {pc : Nat} {ls : Array Slot} {rest : List Value} {L ws : va_W}
theorem arr_of {scr : Cell} {N : Nat} {xs : Nat → Int32} (hz : scr.slots.size = N) (hv : ∀ j : Nat, j < N → scr.slots[j]? = some (.int (xs j))) : ({ cls := scr.cls, slots := scr.slots } : Cell) = vp_cell scr.cls (N, .inl xs) := by
  rw [vp_cell_i]
  simp only [arrV]
  congr 1
  apply Array.ext_getElem?
  intro i
  by_cases hi : i < N
  · rw [hv i hi, Array.getElem?_ofFn]
    simp [hi]
  · rw [Array.getElem?_eq_none (by omega), Array.getElem?_eq_none (by rw [Array.size_ofFn]; omega)]
theorem cClone (hx : p.tables.exec = Jvm.exec) (hb : c.code = cc) (hU : ∀ w ∈ UW, w.before args s = true) (hml : c.maxLocals = ls.size) (hown : s.vm.findClass RX4 = some m.cls) (hK : Kc G s) (hP : PD G (L ++ ws) H) (hS : va_S (Asb G.2.2.2.2.2) s.heap H locs)
    (hframes : 1 ≤ R.frames) (hlocals : (rest.map fun v => v.category).sum + 14 ≤ R.locals) (hcells : cells + 1 ≤ R.cells) (hslots : slots + 4 ≤ R.slots)
    (hd1 : decode cc pc = .ok (.getstatic 9, 3)) (hd2 : decode cc (pc + 3) = .ok (.invokevirtual 13, 3)) (hd3 : decode cc (pc + 3 + 3) = .ok (.checkcast 14, 3))
    (kk : ∀ (q : Nat) (H1 : Heap), PD G ((L ++ [(q, .inl (G.2.2.2.1, 4, .inl fbv))]) ++ ws) H1 → va_S (Asb G.2.2.2.2.2) s.heap H1 locs → W p G.1 e R s m args below meth c H1 locs (cells + 1) (slots + 4) Q (F0 m (pc + 3 + 3 + 3) ls (.ref q :: rest))) : W p G.1 e R s m args below meth c H locs cells slots Q (F0 m pc ls rest) := by
  obtain ⟨hCx, ⟨-, -, -, -, -, hFN, hcast⟩, ⟨hZ, hXs, hlt, hnA⟩, ⟨cb, hcb, hcbs, hnm⟩, hbs⟩ := id hK
  have hst : ∀ {H1 : Heap}, W p G.1 e R s m args below meth c H locs cells slots Q (F0 m (pc + 3) ls (.ref (G.2.2.1 62) :: rest)) → W p G.1 e R s m args below meth c H locs cells slots Q (F0 m pc ls rest) := by
    intro _ k2
    obtain ⟨cf, kf, fi, f, a, cell, h1, h2, h3, h4, h5, h6, h7, h8⟩ := hZ
    intro T hT X
    obtain ⟨vm', X', st⟩ := X.getstaticNest hx hown (va_Nw.use rfl hFN) h1 h2 h3 h4 (by rw [hT, hS.2.1 a (Array.getElem?_eq_some_iff.mp h5).1 h8]; exact h5) (fun e => by rw [e] at h6; cases h6) h7 (g := F0 m pc ls rest) rfl (by rw [hb]; exact hd1)
    obtain ⟨t, a1, b1⟩ := k2 (T.setVm vm') hT X'
    exact ⟨t, st t a1, b1⟩
  refine hst (H1 := H) ?_
  obtain ⟨scr, hs1, ⟨hs2, kA, hkA, comp, hkind⟩, hs3, hs4, hs5⟩ := hXs
  have ecb : cb = scr := Option.some.inj (hcb.symm.trans hs1)
  subst ecb
  have hcI : cb.cls = G.2.2.2.1 := Option.some.inj (hnm.symm.trans (va_nm_int (hCx.1.2 0 _ rfl).2))
  obtain ⟨c0, t0, f1, f2, f3⟩ := Cond.castable_spec (va_Nw.use (A := args) rfl hcast)
  cases hnm.symm.trans f1
  have hHb : H[G.2.2.1 62]? = some cb := by rw [hS.2.1 _ hlt hnA]; exact hs1
  have hcellE : ({ cls := cb.cls, slots := cb.slots } : Cell) = vp_cell cb.cls (4, .inl fbv) := arr_of hs4 hs5
  generalize hH1 : H.push (vp_cell cb.cls (4, .inl fbv)) = H1
  have z1 : H1.size = H.size + 1 := by rw [← hH1, Array.size_push]
  have e1 : H1[H.size]? = some (vp_cell cb.cls (4, .inl fbv)) := by rw [← hH1, Array.getElem?_push_size]
  have o1 : ∀ q : Nat, q < H.size → H1[q]? = H[q]? := fun q hq => by rw [← hH1, Array.getElem?_push, if_neg (Nat.ne_of_lt hq)]
  have hk : ∀ (k : Nat) (y : Nat × va_E), (L ++ ws)[k]? = some y → H1[y.1]? = H[y.1]? := fun k y hy => o1 y.1 ((hP.1 k y hy).lt)
  have hP1 : PD G ((L ++ ws) ++ [(H.size, .inl (cb.cls, 4, .inl fbv))]) H1 := ⟨(hP.1.kept hk).app (fun k y hy => by
      have hz : k < 1 := (List.getElem?_eq_some_iff.mp hy).1
      rw [show k = 0 by omega] at hy
      cases hy
      exact e1), hP.2.push hP.1 rfl (asbAll hK _ hS.1)⟩
  have hS1 : va_S (Asb G.2.2.2.2.2) s.heap H1 locs := ⟨Nat.le_trans hS.1 (by omega), fun x h1 h2 => (o1 x (Nat.lt_of_lt_of_le h1 hS.1)).trans (hS.2.1 x h1 h2), hS.2.2⟩
  have hk2 : W p G.1 e R s m args below meth c H1 locs (cells + 1) (slots + 4) Q (F0 m (pc + 3 + 3) ls (.ref H.size :: rest)) := by
    have hPk : PD G ((L ++ [(H.size, .inl (G.2.2.2.1, 4, .inl fbv))]) ++ ws) H1 := by
      rw [← hcI]
      refine hP1.perm ?_
      rw [List.append_assoc, List.append_assoc]
      exact List.Perm.append_left L List.perm_append_comm
    refine va_castA (D := G.2.1) hx hb (nm := "[I") hown (hU (.classLink RX4 14 "[I") (mU (by decide +kernel) rfl)) hPk.1 L.length (x := (4, .inl fbv)) (cA := G.2.2.2.1) ?_ (by rw [hnm, hcI]) hd3 (kk H.size H1 hPk hS1)
    rw [List.getElem?_append_left (by simp), List.getElem?_append_right (Nat.le_refl _)]
    simp
  intro T hT X
  obtain ⟨vm', X', st⟩ := X.cloneArray hx hown (hU (.methodLink RX4 13 ⟨"[I", "clone", "()Ljava/lang/Object;"⟩) (mU (by decide +kernel) rfl)) (hU (.sameMethod "[I" "java/lang/Object" "clone" "()Ljava/lang/Object;") (mU (by decide +kernel) rfl)) (hU (.native ⟨"java/lang/Object", "clone", "()Ljava/lang/Object;"⟩) (mU (by decide +kernel) rfl)) (hU (.instanceMethod ⟨"java/lang/Object", "clone", "()Ljava/lang/Object;"⟩) (mU (by decide +kernel) rfl)) (hU (.selects "[I" ⟨"[I", "clone", "()Ljava/lang/Object;"⟩ ⟨"java/lang/Object", "clone", "()Ljava/lang/Object;"⟩) (mU (by decide +kernel) rfl)) (a := G.2.2.1 62) (cell := cb) (by rw [hT]; exact hHb) hs2 hs3 hnm f2 f3
    (fun i v hv => by
      have hi : i < 4 := by rw [← hs4]; exact (Array.getElem?_eq_some_iff.mp hv).1
      rw [hs5 i hi] at hv
      cases hv
      obtain ⟨-, k', hk', comp', hkind'⟩ := State.isArrayOf_alike X.warmed.alike (s := s) (c := cb) (t := .int) ⟨hs2, kA, hkA, comp, hkind⟩
      have hk' : T.vm.classes[cb.cls]? = some k' := hk'
      have hfit : fits .int (.int (fbv i)) = true := rfl
      simpa [State.fitsSlot, State.slotType?, hk', hkind'] using hfit)
    (g := F0 m (pc + 3) ls (.ref (G.2.2.1 62) :: rest)) rfl (by rw [hml]) rfl (by rw [hb]; exact hd2) hframes (by show 2 * 0 + _ + 14 ≤ _; omega) hcells (by rw [hs4]; exact hslots) (hloader := Vm.clonesLoader_of_array hkA hkind)
  rw [hcellE, hs4] at X'
  obtain ⟨t, a1, b1⟩ := hk2 ((T.setVm vm').pushCell (vp_cell cb.cls (4, .inl fbv))) (by rw [← hH1, ← hT]; rfl) X'
  refine ⟨t, st t ?_, b1⟩
  rw [hcellE]
  have : T.heap.size = H.size := by rw [hT]
  simpa [this] using a1
end CL
