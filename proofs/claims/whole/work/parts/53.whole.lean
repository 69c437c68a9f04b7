/-! the law from its entry -/
set_option maxHeartbeats 4000000 in
set_option maxRecDepth 100000 in
theorem whole_start {p : Program} {e : Env} {s : State} {m : MethodId} {below : List Frame} {meth : Method} {c : Code} (l : Launch) (hflags : l.flags = flags0) {b L : Nat} {xs : Nat → Int32} (hL : L ≤ 2560) (C0 : lw_At p s m meth c b L xs) : W p l e room_1 s m #[Value.ref b] below meth c s.heap [] 0 0 (lw_Z below #[Value.ref b] s) (entryFrame m ([Value.ref b] : List Value).toArray 4) := by
  obtain ⟨G, rfl, hbs, hK⟩ := kc_of l C0
  obtain ⟨hx, hb, hr, hml, hown, hts, hX, hbl, hlocks, hgv⟩ := id C0
  have hUT : ∀ w ∈ UW, w ∈ lw_tbl := fun w h => (List.mem_filter.mp h).1
  have hU : ∀ w ∈ UW, w.before #[Value.ref b] s = true := fun w h => hts w (hUT w h)
  have hS : va_S (Asb G.2.2.2.2.2) s.heap s.heap [] := va_S.rf
  have hl := lv_entry ([.ref b]) (n := 4) (Nat.le_of_ble_eq_true rfl)
  rw [lg_entry_eq]
  generalize (lg_sl ([.ref b]) ++ List.replicate (4 - (lg_sl ([.ref b])).length) Slot.unset).toArray = ls at hl ⊢
  have hl : lv_has ls 4 [(0, .ref b)] := hl
  have hP : PD G ([] ++ []) s.heap := ⟨fun k q h => by simp at h, fun i j p q h => by simp at h, fun k q h => by simp at h⟩
  refine cMake (ws := []) (Ts := lw_tbl) (C := RX6) (T := TX6) (N := 6) (own := RL) (idxN := 7) (idxI := 9) ⟨hx, hb, hml, hown, hts⟩ hUT hK (i_X6 G) hP hS (mU (by decide +kernel) rfl) (mU (by decide +kernel) rfl) (mU (by decide +kernel) rfl) inUX6 tyX6 tyX6_ok rfl fsX6 rfl rfl (by decide +kernel) (Or.inl (mU (by decide +kernel) rfl)) (mU (by decide +kernel) rfl) (mU (by decide +kernel) rfl) (Nat.le_of_ble_eq_true rfl) (Nat.le_of_ble_eq_true rfl) ⟨Nat.le_of_ble_eq_true rfl, Nat.le_of_ble_eq_true rfl⟩ hl.1 (Nat.le_of_ble_eq_true rfl) dL_law_0 dL_law_3 dL_law_4 (fun a H locs hP hS => ?_)
  rw [List.nil_append, List.append_nil] at hP
  refine W.widen (k := 51) (n := 1477) (Nat.le_of_ble_eq_true rfl) (Nat.le_of_ble_eq_true rfl) ?_
  refine lv_astore_n (lv' := [(1, .ref (a 0)), (0, .ref b)]) hx hb dL_law_7 rfl hl (by decide) rfl (fun ls hl => ?_)
  refine va_new (D := G.2.1) (ci := 7) (fs := [.null, .null, .null, .long 0, .null, .null]) (C := RX7) (T := TX7) (N := 6) hx hb hU inUX7 tyX7 tyX7_ok hown (hU (.classLink RL 10 RX7) (mU (by decide +kernel) rfl)) (hU (.instantiable RX7 6) (mU (by decide +kernel) rfl)) (hU (.initialized RX7) (mU (by decide +kernel) rfl)) hK.1.1 hP.1 hP.2 hS (asbAll hK) rfl fsX7 (Nat.le_of_ble_eq_true rfl) (Nat.le_of_ble_eq_true rfl) dL_law_8 (fun q H hP1 hD1 hS => ?_)
  have hPc : PD G ((q, .inr (7, [.null, .null, .null, .long 0, .null, .null])) :: mkX6 G.2.2.2.1 a) H := PD.perm ⟨hP1, hD1⟩ (List.perm_append_comm (l₁ := mkX6 G.2.2.2.1 a) (l₂ := [(q, Sum.inr (7, [.null, .null, .null, .long 0, .null, .null]))]))
  refine lv_dup hx hb dL_law_11 rfl ?_
  have hcd : Cond.code yX7_init cX7_init 1 none ∈ UW := mU (by decide +kernel) rfl
  have hG : GoodIn lw_tbl (uws yX7_init cX7_init 1 none) := by
    intro w hw
    rcases List.mem_cons.mp hw with rfl | hw
    · exact ⟨hUT _ hcd, goodUW hcd⟩
    · exact ⟨hUT _ hw, goodUW hw⟩
  have hps : PreS s H (CtP G 7 [.null, .null, .null, .long 0, .null, .null] (mkX6 G.2.2.2.1 a) q) [.ref q] := ⟨CtP.blind, fun U hUh hW => ⟨rfl, by rw [hUh]; exact hPc, hK.at hS hUh hW⟩⟩
  refine va_callv (va_runI (As := []) (rest := [.ref q]) (y := yX7_init) (bytes := cX7_init) (maxL := 1) (n := 0) (index := 12) (own := RL) ⟨hx, hb, hml, hown, hts⟩ (i_X7 G a q) (cwI 0 hts hG rfl rfl rfl (hU (.initialized RX7) (mU (by decide +kernel) rfl)) (hU (.methodLink RL 12 yX7_init) (mU (by decide +kernel) rfl)) (hU (.instanceMethod yX7_init) (mU (by decide +kernel) rfl)) rfl (by decide +kernel) ⟨Nat.le_of_ble_eq_true rfl, Nat.le_of_ble_eq_true rfl⟩) hps rfl rfl hl.1 rfl (lv_room (Nat.le_of_ble_eq_true rfl)) dL_law_12 ⟨Nat.le_of_ble_eq_true rfl, Nat.le_of_ble_eq_true rfl⟩) hS (fun _ _ h => h) (fun _ h => h) (fun u t H2 locs2 ht hvm hw hB hz1 hk1 hS2 => ?_)
  obtain ⟨b7, M7⟩ := u
  obtain ⟨hw0, hw1, hw2⟩ := hw
  have hW : Wo (Gw G a b7) M7 H2 := by rw [← ht]; exact hB
  have hw0 : b7 0 = q := hw0
  subst hw0
  refine W.widen (k := 57) (n := 2887) (Nat.le_of_ble_eq_true rfl) (Nat.le_of_ble_eq_true rfl) ?_
  refine lv_astore_n (lv' := [(2, .ref (b7 0)), (1, .ref (a 0)), (0, .ref b)]) hx hb dL_law_15 rfl hl (by decide) rfl (fun ls hl => ?_)
  refine lv_iconst (v := 0) hx hb dL_law_16 (by decide) ?_
  refine lv_istore_n (lv' := [(3, .int 0), (2, .ref (b7 0)), (1, .ref (a 0)), (0, .ref b)]) hx hb dL_law_17 rfl hl (by decide) rfl (fun ls hl => ?_)
  have hl : lv_has ls 4 [(0, .ref b), (1, .ref ((Gw G a b7).2.2.1 0)), (2, .ref ((Gw G a b7).2.2.1 51)), (3, .int (nI 0))] := lv_sub hl [3, 2, 1, 0] rfl
  have hC : Cx (Gw G a b7) s := hK.1
  exact law_loop (G := Gw G a b7) C0 hC hbs hL (by decide) (by decide) (L + 1) 0 M7 H2 locs2 ls (Nat.zero_le _) (by omega) (inv00 hw1 hw2) hW hS2 hl
