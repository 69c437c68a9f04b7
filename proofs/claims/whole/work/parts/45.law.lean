/-! the arms of the law's switch: WRITTEN BY wip/whole/lawgen.py -/
set_option maxRecDepth 100000 in
theorem la_digest {G : Gt} {p : Program} {e : Env} {s : State} {m : MethodId} {below : List Frame} {meth : Method} {c : Code} {b L : Nat} {xs : Nat → Int32} {H : Heap} {locs : List Loc} {cells slots : Nat} {Z : State → Prop} {ls : Array Slot} {M : Mm} {i : Nat} (C0 : lw_At p s m meth c b L xs) (hC : Cx G s) (hbs : G.2.2.2.2.2 = s.heap.size) (hL : L ≤ 2560) (hi : i + 5 ≤ L) (hl : lv_has ls 4 [(0, .ref b), (1, .ref (G.2.2.1 0)), (2, .ref (G.2.2.1 51)), (3, .int (nI i))]) (hI : Inv M) (hW : Wo G M H) (hS : va_S (Asb G.2.2.2.2.2) s.heap H locs) (hcl : cells ≤ room_1.cells) (hsl : slots ≤ room_1.slots) (kk : ∀ (M' : Mm) (H1 : Heap) (locs1 : List Loc), Inv M' → Wo G M' H1 → va_S (Asb G.2.2.2.2.2) s.heap H1 locs1 → W p G.1 e room_1 s m #[Value.ref b] below meth c H1 locs1 cells slots Z (F0 m 703 ls [])) : W p G.1 e room_1 s m #[Value.ref b] below meth c H locs cells slots Z (F0 m 643 ls []) := by
  obtain ⟨hx, hb, hr, hml, hown, hts, hX, hbl, hlocks, hgv⟩ := C0
  have hbA : ¬ Asb G.2.2.2.2.2 b := by unfold Asb; rw [hbs]; exact Nat.not_le.mpr hbl
  have hf : CallFix p m c cL_law 4 s #[Value.ref b] lw_tbl RL := ⟨hx, hb, hml, hown, hts⟩
  refine lv_aload_n hx hb dL_law_643 rfl (lv_at hl 1 rfl) ?_
  refine lcall (a := 0) (ci := 6) (n := 0) (ks := [3, 18, 33, 48, 52, 0]) (T := TX6) (N := 6) (bytes := cX6_digest) (maxL := 5) (ret := some .long) (av := []) (rest := []) hf hC hW hS hl.1 dL_law_644 (nX6_digest G _ _ _ (step_digest hI )) (goodL (mU (by decide +kernel) rfl) (mU (by decide +kernel) rfl) (mU (by decide +kernel) rfl) (mU (by decide +kernel) rfl) (mU (by decide +kernel) rfl)) rfl rfl rfl rfl (by decide +kernel) ⟨Nat.le_of_ble_eq_true rfl, Nat.le_of_ble_eq_true rfl⟩ rfl (Nat.le_of_ble_eq_true rfl) hcl hsl (fun r1 M1 H1 locs1 hq1 hW1 hS1 => ?_)
  obtain ⟨⟨a0, rfl⟩, hk⟩ := hq1
  refine W.eq (g2 := F0 m 647 ls [.long a0]) rfl ?_
  have hS := hS1
  refine lv_aload_n hx hb dL_law_647 rfl (lv_at hl 2 rfl) ?_
  refine lcall (a := 51) (ci := 7) (n := 0) (ks := [54, 55, 56, 1, 57, 58]) (T := TX7) (N := 6) (bytes := cX7_digest) (maxL := 5) (ret := some .long) (av := []) (rest := [.long a0]) hf hC hW1 hS1 hl.1 dL_law_648 (nX7_digest G _ _ _ hk) (goodL (mU (by decide +kernel) rfl) (mU (by decide +kernel) rfl) (mU (by decide +kernel) rfl) (mU (by decide +kernel) rfl) (mU (by decide +kernel) rfl)) rfl rfl rfl rfl (by decide +kernel) ⟨Nat.le_of_ble_eq_true rfl, Nat.le_of_ble_eq_true rfl⟩ rfl (Nat.le_of_ble_eq_true rfl) hcl hsl (fun r2 M2 H2 locs2 hq2 hW2 hS2 => ?_)
  obtain ⟨rfl, -, hI2⟩ := hq2
  refine W.eq (g2 := F0 m 651 ls [.long a0, .long a0]) rfl ?_
  refine W.lcmp hx hb dL_law_651 ?_
  exact lv_if_eq (tgt := 703) hx hb dL_law_652 (by decide) (fun _ => kk M2 H2 locs2 hI2 hW2 hS2) (fun h => absurd (by simp [lg_cmp]) h)
