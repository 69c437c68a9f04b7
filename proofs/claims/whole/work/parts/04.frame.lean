/-! what a method's context and world are, and what a place of its table means over the machine -/
def Asb (bs : Nat) : Nat → Prop := fun q => bs ≤ q
abbrev tys2 (cI cZ : ClassId) : List (ClassId × FieldType) := [(cI, .int), (cZ, .boolean)]
def lbv : Nat → Int32 := fun k => if k < 2 then 1 else 0
def mbv : Nat → Int32 := fun k => if k = 0 then 200 else if k = 1 then 64 else if k = 2 then 14 else 3
def NW (U : State) : Prop := va_Nw (.methodLinkNest RX3 37 yX6_within RX6) U ∧ va_Nw (.methodLinkNest RX3 55 yX6_wayBetween RX6) U ∧ va_Nw (.methodLinkNest RX4 124 yX6_wayBetween RX6) U ∧ va_Nw (.methodLinkNest RX4 137 yX6_stateAfter RX6) U ∧ va_Nw (.methodLinkNest RX5 40 yX6_within RX6) U
theorem NW.warm {s U : State} (hW : s.WarmedH U.vm) (h : NW s) : NW U := ⟨va_Nw.warmM hW h.1, va_Nw.warmM hW h.2.1, va_Nw.warmM hW h.2.2.1, va_Nw.warmM hW h.2.2.2.1, va_Nw.warmM hW h.2.2.2.2⟩
theorem NW.same {u U : State} (h : u.vm = U.vm) (hZ : NW u) : NW U := ⟨va_Nw.same rfl h hZ.1, va_Nw.same rfl h hZ.2.1, va_Nw.same rfl h hZ.2.2.1, va_Nw.same rfl h hZ.2.2.2.1, va_Nw.same rfl h hZ.2.2.2.2⟩
def RO1 (n : String) (xs : Nat → Int32) (b bs : Nat) (U : State) : Prop := va_Z RX6 n "[I" (.ref b) (Asb bs) U U.heap ∧ va_X b 4 xs U U.heap ∧ b < U.heap.size ∧ ¬ Asb bs b
def RO (G : Gt) (U : State) : Prop := RO1 "LEAST_BOUNDS" lbv (G.2.2.1 60) G.2.2.2.2.2 U ∧ RO1 "MOST_BOUNDS" mbv (G.2.2.1 61) G.2.2.2.2.2 U
theorem RO1.at {n : String} {xs : Nat → Int32} {b bs : Nat} {s U : State} {H : Heap} {locs : List Loc} (h : RO1 n xs b bs s) (hS : va_S (Asb bs) s.heap H locs) (hU : U.heap = H) (hW : s.vm.Alike U.vm) : RO1 n xs b bs U := by
  obtain ⟨h1, h2, h3, h4⟩ := h
  subst hU
  exact ⟨va_Z.moved hW (h1.kept (fun a q1 q2 => hS.2.1 a q1 q2)), va_X.moved hW (h2.kept (hS.2.1 b h3 h4)), Nat.lt_of_lt_of_le h3 hS.1, h4⟩
def Cx (G : Gt) (U : State) : Prop := va_K G.2.1 vwCl (tys2 G.2.2.2.1 G.2.2.2.2.1) U ∧ NW U ∧ RO G U
theorem Cx.at {G : Gt} {s U : State} {H : Heap} {locs : List Loc} (h : Cx G s) (hS : va_S (Asb G.2.2.2.2.2) s.heap H locs) (hU : U.heap = H) (hW : s.WarmedH U.vm) : Cx G U := ⟨va_K.moved hW.alike h.1, h.2.1.warm hW, h.2.2.1.at hS hU hW.alike, h.2.2.2.at hS hU hW.alike⟩
def Wo (G : Gt) (M : Mm) (H : Heap) : Prop := va_P G.2.1 vwCl (wd G.2.2.1 G.2.2.2.1 G.2.2.2.2.1 M) H ∧ va_D (Asb G.2.2.2.2.2) (wd G.2.2.1 G.2.2.2.1 G.2.2.2.2.1 M)
def QC (G : Gt) (Q : Qt) : Array Value → State → Outcome → State → Prop := fun _ st o t => (∃ (r : Option Value) (M' : Mm), o = .returned (r.map (cv G.2.2.1)) ∧ Q r M' ∧ Wo G M' t.heap) ∧ va_F (Asb G.2.2.2.2.2) st t
def Pre (G : Gt) (av : List Value) (M : Mm) : Array Value → State → Prop := va_Pc (av.map (cv G.2.2.1)) (fun U => Wo G M U.heap ∧ Cx G U)
theorem Pre.blind {G : Gt} {av : List Value} {M : Mm} : FrameBlind (Pre G av M) := by
  intro a U g mk h
  obtain ⟨h1, hW, hK, hN, ⟨a1, a2, a3, a4⟩, ⟨b1, b2, b3, b4⟩⟩ := h
  exact ⟨h1, hW, va_K.moved (u := U) (U := U.calling g mk a) (Vm.Alike.refl U.vm) hK, NW.same (u := U) (U := U.calling g mk a) rfl hN, ⟨va_Z.moved (u := U) (U := U.calling g mk a) (Vm.Alike.refl U.vm) a1, va_X.moved (u := U) (U := U.calling g mk a) (Vm.Alike.refl U.vm) a2, a3, a4⟩, ⟨va_Z.moved (u := U) (U := U.calling g mk a) (Vm.Alike.refl U.vm) b1, va_X.moved (u := U) (U := U.calling g mk a) (Vm.Alike.refl U.vm) b2, b3, b4⟩⟩
/-- a method's contract at arguments and a memory -/
def Cn (G : Gt) (y : MethodName) (ws : List Cond) (rm : Room) (av : List Value) (M : Mm) (Q : Qt) : Prop := Met G.1 y ws rm (Pre G av M) (QC G Q) 0 0 (Asb G.2.2.2.2.2)
def Sem (G : Gt) (mi : Mi) (Q : Qt) : Kt := fun pc al st M =>
  ∀ (p : Program) (e : Env) (s : State) (m : MethodId) (args : Array Value) (below : List Frame) (meth : Method) (c : Code) (H : Heap) (locs : List Loc) (ls : Array Slot),
    CallFix p m c mi.2.1 mi.2.2.1 s args mi.2.2.2.2.1 mi.1 → meth.sig.returnType = mi.2.2.2.1 → meth.locks = false →
    Cx G s → Wo G M H → va_S (Asb G.2.2.2.2.2) s.heap H locs → LR G.2.2.1 ls mi.2.2.1 al →
    W p G.1 e mi.2.2.2.2.2 s m args below meth c H locs 0 0 (MQ below (QC G Q) args s 0 0 (Asb G.2.2.2.2.2)) (F0 m pc ls (st.map (cv G.2.2.1)))
def okT (G : Gt) (mi : Mi) (pc : Nat) (t : Tx) : Prop := ∀ (Q : Qt) (P : Kt), (∀ pc al st M, P pc al st M → Sem G mi Q pc al st M) → ∀ al st M, t Q P pc al st M → Sem G mi Q pc al st M
def V (pg : Nat → Tx) (Q : Qt) : Kt := fun pc al st M => ∀ S : Kt, (∀ (P : Kt) (pc : Nat) (al st : List Value) (M : Mm), (∀ a b c d, P a b c d → S a b c d) → pg pc Q P pc al st M → S pc al st M) → S pc al st M
def mono (t : Tx) : Prop := ∀ (Q : Qt) (P P' : Kt), (∀ a b c d, P a b c d → P' a b c d) → ∀ pc al st M, t Q P pc al st M → t Q P' pc al st M
theorem V.closed {pg : Nat → Tx} {Q : Qt} {P : Kt} {pc : Nat} {al st : List Value} {M : Mm} (hP : ∀ a b c d, P a b c d → V pg Q a b c d) (h : pg pc Q P pc al st M) : V pg Q pc al st M := fun S hS => hS P pc al st M (fun a b c d x => hP a b c d x S hS) h
theorem V.eq {pg : Nat → Tx} {Q : Qt} {pc : Nat} {t : Tx} (hp : pg pc = t) (hm : mono t) {al st : List Value} {M : Mm} : V pg Q pc al st M ↔ t Q (V pg Q) pc al st M := by
  subst hp
  constructor
  · intro h
    refine (h (fun pc' al st M => V pg Q pc' al st M ∧ (pc' = pc → pg pc' Q (V pg Q) pc' al st M)) ?_).2 rfl
    intro P pc' al' st' M' hP hg
    refine ⟨V.closed (fun a b c d x => (hP a b c d x).1) hg, ?_⟩
    intro e
    subst e
    exact hm Q P (V pg Q) (fun a b c d x => (hP a b c d x).1) _ _ _ _ hg
  · exact V.closed (fun _ _ _ _ x => x)
theorem V.sem {G : Gt} {mi : Mi} {pg : Nat → Tx} (h : ∀ pc, okT G mi pc (pg pc)) {Q : Qt} {pc : Nat} {al st : List Value} {M : Mm} (hV : V pg Q pc al st M) : Sem G mi Q pc al st M := hV (Sem G mi Q) (fun P pc al st M hP ht => h pc Q P hP al st M ht)
def enL : List Value → List Value
  | [] => []
  | v :: vs => if v.category = 2 then v :: .null :: enL vs else v :: enL vs
def al0 (av : List Value) (nL : Nat) : List Value := enL av ++ List.replicate (nL - (enL av).length) .null
theorem lgsl_cv (ad : Nat → Nat) (av : List Value) : (lg_sl (av.map (cv ad))).length = (enL av).length := by
  induction av with
  | nil => rfl
  | cons v vs ih =>
    simp only [lg_sl, enL, List.map_cons, List.flatMap_cons, List.length_append, cv_cat] at ih ⊢
    split <;> simp_all <;> omega
theorem al0_mem {ad : Nat → Nat} : ∀ (av : List Value) (k i : Nat) (v : Value), (enL av)[i]? = some v → v = .null ∨ (k + i, cv ad v) ∈ lv_args k (av.map (cv ad))
  | [], _, _, _, h => by simp [enL] at h
  | w :: vs, k, i, v, h => by
    simp only [enL] at h
    simp only [List.map_cons, lv_args, cv_cat]
    by_cases hc : w.category = 2
    · rw [if_pos hc] at h
      rw [if_pos hc]
      match i, h with
      | 0, h => cases h; exact Or.inr (List.mem_cons_self)
      | 1, h => cases h; exact Or.inl rfl
      | i + 2, h =>
        rcases al0_mem vs (k + 2) i v (by simpa using h) with q | q
        · exact Or.inl q
        · exact Or.inr (List.mem_cons_of_mem _ (by rw [show k + (i + 2) = k + 2 + i by omega]; exact q))
    · rw [if_neg hc] at h
      rw [if_neg hc]
      match i, h with
      | 0, h => cases h; exact Or.inr (List.mem_cons_self)
      | i + 1, h =>
        rcases al0_mem vs (k + 1) i v (by simpa using h) with q | q
        · exact Or.inl q
        · exact Or.inr (List.mem_cons_of_mem _ (by rw [show k + (i + 1) = k + 1 + i by omega]; exact q))
/-- a method out of its table -/
theorem met_of {G : Gt} {y : MethodName} {cc : ByteArray} {nL : Nat} {ret : Option FieldType} {ws ws' : List Cond} {rm : Room} {pg : Nat → Tx} (hw : ws = Cond.code y cc nL ret :: ws') (hy : plainName y.cls = true) (h : ∀ pc, okT G (y.cls, cc, nL, ret, ws, rm) pc (pg pc)) {av : List Value} {M : Mm} {Q : Qt} (hn : (enL av).length ≤ nL) (hV : V pg Q 0 (al0 av nL) [] M) : Cn G y ws rm av M Q := by
  refine Met.ofW (cc := cc) (maxL := nL) (ret := ret) hy hw ?_
  intro p e s m args below meth c s₁ B hml hv
  obtain ⟨rfl, hW, hC⟩ := hv
  have hts := atoms_spec (ws := ws) B.pre
  have hown : s.vm.findClass y.cls = some m.cls := findClass_of_methodNamed B.named
  have hl := lv_entry (av.map (cv G.2.2.1)) (n := nL) (by rw [lgsl_cv]; exact hn)
  rw [lg_entry_eq]
  refine V.sem h hV p e s m _ below meth c s.heap [] _ ⟨B.exec, B.bytes, hml, hown, hts⟩ B.returns B.notSynchronized hC hW va_S.rf ?_
  refine ⟨hl.1, hl.2.1, fun i v hi => ?_⟩
  unfold al0 at hi
  rcases Nat.lt_or_ge i (enL av).length with q | q
  · rw [List.getElem?_append_left q] at hi
    rcases al0_mem (ad := G.2.2.1) av 0 i v hi with z | z
    · exact Or.inl z
    · rw [Nat.zero_add] at z
      exact Or.inr (hl.2.2 _ z)
  · rw [List.getElem?_append_right q] at hi
    exact Or.inl (List.eq_of_mem_replicate (List.mem_of_getElem? hi))
