/-! what the statement gives at the start: the three bounds' rows, the classes, the links -/
theorem ro_of {s : State} {args : Array Value} {n : String} {xs : Nat → Int32} (hl : (Cond.laysStatic RX6 n "[I").before args s = true) (hini : (Cond.initialized RX6).before args s = true) (harr : (Cond.arrayOf (.static RX6 n "[I") .int).before args s = true) (hlen : (Cond.eq (.length (.static RX6 n "[I")) (.int 4)).before args s = true)
    (hel : ∀ j : Nat, j < 4 → (Cond.eq (.elem (.static RX6 n "[I") (.int (Int32.ofNat j))) (.int (xs j))).before args s = true) : ∃ b : Nat, (Term.static RX6 n "[I").eval args s none [] s = some (.ref b) ∧ RO1 n xs b s.heap.size s := by
  have hA : ∀ a : Nat, a < s.heap.size → ¬ Asb s.heap.size a := fun a h => Nat.not_le.mpr h
  have e4 := va_eqt hlen
  obtain ⟨t, ht, cell, h1, h2, h3, h4, h5, h6, h7⟩ := va_Tof (A := Asb s.heap.size) (N := 4) (f := fun j => .int (xs j)) (by decide) harr e4 (fun j hj => va_eqt (hel j hj)) hA
  have hlt : t < s.heap.size := (Array.getElem?_eq_some_iff.mp h1).1
  refine ⟨t, ht, va_Zof hl hini ht hA, ⟨cell, h1, h2, h3, ?_, h6⟩, hlt, hA t hlt⟩
  simp only [Term.eval] at e4 ht
  rw [ht] at e4
  cases hc : s.arrayAt? t with
  | none => simp [hc] at e4
  | some c2 =>
    have e1 := (State.arrayAt?_spec hc).1
    have e2 : c2 = cell := Option.some.inj (e1.symm.trans h1)
    subst e2
    simp [hc] at e4
    obtain ⟨z1, z2⟩ := e4
    have hz := congrArg Int32.toInt z2
    have h9 : (c2.slots.size.toInt32).toInt = (c2.slots.size : Int) := nI_toInt z1
    rw [h9] at hz
    have : (4 : Int32).toInt = 4 := rfl
    omega
theorem kc_of {p : Program} {s : State} {m : MethodId} {meth : Method} {c : Code} {b L : Nat} {xs : Nat → Int32} (l : Launch) (C0 : lw_At p s m meth c b L xs) : ∃ G : Gt, G.1 = l ∧ G.2.2.2.2.2 = s.heap.size ∧ Kc G s := by
  obtain ⟨hx, hb, hr, hml, hown, hts, hX, hbl, hlocks, hgv⟩ := C0
  have hg := flat_of_before _ hgv
  have inT : ∀ {C : String} {T : u_T} {N : Nat}, (∀ w ∈ u_ws C T N, w ∈ UW) → ∀ w ∈ u_ws C T N, w ∈ lw_tbl := fun h w hw => (List.mem_filter.mp (h w hw)).1
  obtain ⟨c0, i0, k0⟩ := u_known (C := RX0) (T := TX0) (N := 3) (n := 3) hts (inT inUX0) (hts (.instantiable RX0 3) (by decide +kernel))
  obtain ⟨c1, i1, k1⟩ := u_known (C := RX1) (T := TX1) (N := 9) (n := 9) hts (inT inUX1) (hts (.instantiable RX1 9) (by decide +kernel))
  obtain ⟨c2, i2, k2⟩ := u_known (C := RX2) (T := TX2) (N := 1) (n := 1) hts (inT inUX2) (hts (.instantiable RX2 1) (by decide +kernel))
  obtain ⟨c3, i3, k3⟩ := u_known (C := RX3) (T := TX3) (N := 8) (n := 8) hts (inT inUX3) (hts (.instantiable RX3 8) (by decide +kernel))
  obtain ⟨c4, i4, k4⟩ := u_known (C := RX4) (T := TX4) (N := 7) (n := 7) hts (inT inUX4) (hts (.instantiable RX4 7) (by decide +kernel))
  obtain ⟨c5, i5, k5⟩ := u_known (C := RX5) (T := TX5) (N := 9) (n := 9) hts (inT inUX5) (hts (.instantiable RX5 9) (by decide +kernel))
  obtain ⟨c6, i6, k6⟩ := u_known (C := RX6) (T := TX6) (N := 6) (n := 6) hts (inT inUX6) (hts (.instantiable RX6 6) (by decide +kernel))
  obtain ⟨c7, i7, k7⟩ := u_known (C := RX7) (T := TX7) (N := 6) (n := 6) hts (inT inUX7) (hts (.instantiable RX7 6) (by decide +kernel))
  obtain ⟨cI, kI, comI, f1, f2, f3⟩ := Cond.arrayClass_spec (hts (.arrayClass .int) (by decide +kernel))
  obtain ⟨cZ, kZ, comZ, g1, g2, g3⟩ := Cond.arrayClass_spec (hts (.arrayClass .boolean) (by decide +kernel))
  have hini : (Cond.initialized RX6).before #[Value.ref b] s = true := hts _ (by decide +kernel)
  obtain ⟨b0, v0, r0⟩ := ro_of (n := "FIRST_BOUNDS") (xs := fbv) (hts _ (by decide +kernel)) hini (hg _ (by decide +kernel)) (hg _ (by decide +kernel)) (fun j hj => by
    match j, hj with
    | 0, _ => exact hg (.eq (.elem (.static RX6 "FIRST_BOUNDS" "[I") (.int 0)) (.int 10)) (by decide +kernel)
    | 1, _ => exact hg (.eq (.elem (.static RX6 "FIRST_BOUNDS" "[I") (.int 1)) (.int 9)) (by decide +kernel)
    | 2, _ => exact hg (.eq (.elem (.static RX6 "FIRST_BOUNDS" "[I") (.int 2)) (.int 3)) (by decide +kernel)
    | 3, _ => exact hg (.eq (.elem (.static RX6 "FIRST_BOUNDS" "[I") (.int 3)) (.int 1)) (by decide +kernel))
  obtain ⟨b1, v1, r1⟩ := ro_of (n := "LEAST_BOUNDS") (xs := lbv) (hts _ (by decide +kernel)) hini (hg _ (by decide +kernel)) (hg _ (by decide +kernel)) (fun j hj => by
    match j, hj with
    | 0, _ => exact hg (.eq (.elem (.static RX6 "LEAST_BOUNDS" "[I") (.int 0)) (.int 1)) (by decide +kernel)
    | 1, _ => exact hg (.eq (.elem (.static RX6 "LEAST_BOUNDS" "[I") (.int 1)) (.int 1)) (by decide +kernel)
    | 2, _ => exact hg (.eq (.elem (.static RX6 "LEAST_BOUNDS" "[I") (.int 2)) (.int 0)) (by decide +kernel)
    | 3, _ => exact hg (.eq (.elem (.static RX6 "LEAST_BOUNDS" "[I") (.int 3)) (.int 0)) (by decide +kernel))
  obtain ⟨b2, v2, r2⟩ := ro_of (n := "MOST_BOUNDS") (xs := mbv) (hts _ (by decide +kernel)) hini (hg _ (by decide +kernel)) (hg _ (by decide +kernel)) (fun j hj => by
    match j, hj with
    | 0, _ => exact hg (.eq (.elem (.static RX6 "MOST_BOUNDS" "[I") (.int 0)) (.int 200)) (by decide +kernel)
    | 1, _ => exact hg (.eq (.elem (.static RX6 "MOST_BOUNDS" "[I") (.int 1)) (.int 64)) (by decide +kernel)
    | 2, _ => exact hg (.eq (.elem (.static RX6 "MOST_BOUNDS" "[I") (.int 2)) (.int 14)) (by decide +kernel)
    | 3, _ => exact hg (.eq (.elem (.static RX6 "MOST_BOUNDS" "[I") (.int 3)) (.int 3)) (by decide +kernel))
  obtain ⟨a, cc, cell, kk, y1, y2, y3, y4, y5, y6, -⟩ := Cond.exactly_spec (hg (.exactly (.static RX6 "FIRST_BOUNDS" "[I") "[I") (by decide +kernel))
  have ea : a = b0 := Value.ref.inj (Option.some.inj (y1.symm.trans v0))
  subst ea
  refine ⟨(l, (fun k => [c0, c1, c2, c3, c4, c5, c6, c7].getD k 0, fun k => [i0, i1, i2, i3, i4, i5, i6, i7].getD k (fun _ => 0)), fun k => if k = 60 then b1 else if k = 61 then b2 else a, cI, cZ, s.heap.size), rfl, rfl, ⟨⟨fun k q hq => ?_, fun k q hq => ?_⟩, ?_, r1, r2⟩, ?_, r0, ⟨cell, y3, y5, by rw [y6]; exact y2⟩, Nat.le_refl _⟩
  · match k, hq with
    | 0, hq => cases hq; exact k0
    | 1, hq => cases hq; exact k1
    | 2, hq => cases hq; exact k2
    | 3, hq => cases hq; exact k3
    | 4, hq => cases hq; exact k4
    | 5, hq => cases hq; exact k5
    | 6, hq => cases hq; exact k6
    | 7, hq => cases hq; exact k7
    | k + 8, hq => simp at hq
  · match k, hq with
    | 0, hq => cases hq; exact ⟨fun n z => ⟨fun k h => (by cases h), kI, f2, comI, f3⟩, f1⟩
    | 1, hq => cases hq; exact ⟨fun n z => ⟨fun k h => (by cases h), kZ, g2, comZ, g3⟩, g1⟩
    | k + 2, hq => simp at hq
  · exact ⟨va_Nw.of rfl (hts _ (by decide +kernel)), va_Nw.of rfl (hts _ (by decide +kernel)), va_Nw.of rfl (hts _ (by decide +kernel)), va_Nw.of rfl (hts _ (by decide +kernel)), va_Nw.of rfl (hts _ (by decide +kernel))⟩
  · exact ⟨va_Nw.of rfl (hts _ (by decide +kernel)), va_Nw.of rfl (hts _ (by decide +kernel)), va_Nw.of rfl (hts _ (by decide +kernel)), va_Nw.of rfl (hts _ (by decide +kernel)), va_Nw.of rfl (hts _ (by decide +kernel)), va_Nw.of rfl (hts _ (by decide +kernel)), va_Nw.of rfl (hts _ (by decide +kernel))⟩
