/-! the arms of the law's switch: WRITTEN BY wip/whole/lawgen.py -/
set_option maxRecDepth 100000 in
theorem la_panel {G : Gt} {p : Program} {e : Env} {s : State} {m : MethodId} {below : List Frame} {meth : Method} {c : Code} {b L : Nat} {xs : Nat → Int32} {H : Heap} {locs : List Loc} {cells slots : Nat} {Z : State → Prop} {ls : Array Slot} {M : Mm} {i : Nat} (C0 : lw_At p s m meth c b L xs) (hC : Cx G s) (hbs : G.2.2.2.2.2 = s.heap.size) (hL : L ≤ 2560) (hi : i + 5 ≤ L) (hl : lv_has ls 4 [(0, .ref b), (1, .ref (G.2.2.1 0)), (2, .ref (G.2.2.1 51)), (3, .int (nI i))]) (hI : Inv M) (hW : Wo G M H) (hS : va_S (Asb G.2.2.2.2.2) s.heap H locs) (hcl : cells ≤ room_1.cells) (hsl : slots ≤ room_1.slots) (kk : ∀ (M' : Mm) (H1 : Heap) (locs1 : List Loc), Inv M' → Wo G M' H1 → va_S (Asb G.2.2.2.2.2) s.heap H1 locs1 → W p G.1 e room_1 s m #[Value.ref b] below meth c H1 locs1 cells slots Z (F0 m 703 ls [])) : W p G.1 e room_1 s m #[Value.ref b] below meth c H locs cells slots Z (F0 m 124 ls []) := by
  obtain ⟨hx, hb, hr, hml, hown, hts, hX, hbl, hlocks, hgv⟩ := C0
  have hbA : ¬ Asb G.2.2.2.2.2 b := by unfold Asb; rw [hbs]; exact Nat.not_le.mpr hbl
  have hf : CallFix p m c cL_law 4 s #[Value.ref b] lw_tbl RL := ⟨hx, hb, hml, hown, hts⟩
  have i1 : vp_in (nI i + 1) L := by rw [show nI i + 1 = nI (i + 1) from nI_add i 1]; exact vp_in_nI (by omega) (by omega)
  have i2 : vp_in (nI i + 2) L := by rw [show nI i + 2 = nI (i + 2) from nI_add i 2]; exact vp_in_nI (by omega) (by omega)
  refine lv_aload_n hx hb dL_law_124 rfl (lv_at hl 1 rfl) ?_
  refine lv_aload_n hx hb dL_law_125 rfl (lv_at hl 0 rfl) ?_
  refine lv_iload_n hx hb dL_law_126 rfl (lv_at hl 3 rfl) ?_
  refine lv_iconst (v := 1) hx hb dL_law_127 (by decide) ?_
  refine lv_iadd hx hb dL_law_128 ?_
  refine va_sld hx hb hX hbl hbA hS i1 dL_law_129 ?_
  refine lv_aload_n hx hb dL_law_130 rfl (lv_at hl 0 rfl) ?_
  refine lv_iload_n hx hb dL_law_131 rfl (lv_at hl 3 rfl) ?_
  refine lv_iconst (v := 2) hx hb dL_law_132 (by decide) ?_
  refine lv_iadd hx hb dL_law_133 ?_
  refine va_sld hx hb hX hbl hbA hS i2 dL_law_134 ?_
  refine lcall (a := 0) (ci := 6) (n := 2) (ks := [3, 18, 33, 48, 52, 0]) (T := TX6) (N := 6) (bytes := cX6_panel) (maxL := 3) (ret := some .int) (av := [.int (xs (nI i + 1).toNatClampNeg), .int (xs (nI i + 2).toNatClampNeg)]) (rest := []) hf hC hW hS hl.1 dL_law_135 (nX6_panel G _ _ _ (step_panel hI (xs (nI i + 1).toNatClampNeg) (xs (nI i + 2).toNatClampNeg))) (goodL (mU (by decide +kernel) rfl) (mU (by decide +kernel) rfl) (mU (by decide +kernel) rfl) (mU (by decide +kernel) rfl) (mU (by decide +kernel) rfl)) rfl rfl rfl rfl (by decide +kernel) ⟨Nat.le_of_ble_eq_true rfl, Nat.le_of_ble_eq_true rfl⟩ rfl (Nat.le_of_ble_eq_true rfl) hcl hsl (fun r1 M1 H1 locs1 hq1 hW1 hS1 => ?_)
  obtain ⟨⟨a0, rfl⟩, hk⟩ := hq1
  refine W.eq (g2 := F0 m 138 ls [.int a0]) rfl ?_
  have hS := hS1
  refine lv_aload_n hx hb dL_law_138 rfl (lv_at hl 2 rfl) ?_
  refine lv_aload_n hx hb dL_law_139 rfl (lv_at hl 0 rfl) ?_
  refine lv_iload_n hx hb dL_law_140 rfl (lv_at hl 3 rfl) ?_
  refine lv_iconst (v := 1) hx hb dL_law_141 (by decide) ?_
  refine lv_iadd hx hb dL_law_142 ?_
  refine va_sld hx hb hX hbl hbA hS i1 dL_law_143 ?_
  refine lv_aload_n hx hb dL_law_144 rfl (lv_at hl 0 rfl) ?_
  refine lv_iload_n hx hb dL_law_145 rfl (lv_at hl 3 rfl) ?_
  refine lv_iconst (v := 2) hx hb dL_law_146 (by decide) ?_
  refine lv_iadd hx hb dL_law_147 ?_
  refine va_sld hx hb hX hbl hbA hS i2 dL_law_148 ?_
  refine lcall (a := 51) (ci := 7) (n := 2) (ks := [54, 55, 56, 1, 57, 58]) (T := TX7) (N := 6) (bytes := cX7_panel) (maxL := 3) (ret := some .int) (av := [.int (xs (nI i + 1).toNatClampNeg), .int (xs (nI i + 2).toNatClampNeg)]) (rest := [.int a0]) hf hC hW1 hS1 hl.1 dL_law_149 (nX7_panel G _ _ _ hk) (goodL (mU (by decide +kernel) rfl) (mU (by decide +kernel) rfl) (mU (by decide +kernel) rfl) (mU (by decide +kernel) rfl) (mU (by decide +kernel) rfl)) rfl rfl rfl rfl (by decide +kernel) ⟨Nat.le_of_ble_eq_true rfl, Nat.le_of_ble_eq_true rfl⟩ rfl (Nat.le_of_ble_eq_true rfl) hcl hsl (fun r2 M2 H2 locs2 hq2 hW2 hS2 => ?_)
  obtain ⟨rfl, -, hI2⟩ := hq2
  refine W.eq (g2 := F0 m 152 ls [.int a0, .int a0]) rfl ?_
  exact lv_icmp_eq (tgt := 703) hx hb dL_law_152 (by decide) (fun _ => kk M2 H2 locs2 hI2 hW2 hS2) (fun h => absurd rfl h)
set_option maxRecDepth 100000 in
theorem la_told {G : Gt} {p : Program} {e : Env} {s : State} {m : MethodId} {below : List Frame} {meth : Method} {c : Code} {b L : Nat} {xs : Nat → Int32} {H : Heap} {locs : List Loc} {cells slots : Nat} {Z : State → Prop} {ls : Array Slot} {M : Mm} {i : Nat} (C0 : lw_At p s m meth c b L xs) (hC : Cx G s) (hbs : G.2.2.2.2.2 = s.heap.size) (hL : L ≤ 2560) (hi : i + 5 ≤ L) (hl : lv_has ls 4 [(0, .ref b), (1, .ref (G.2.2.1 0)), (2, .ref (G.2.2.1 51)), (3, .int (nI i))]) (hI : Inv M) (hW : Wo G M H) (hS : va_S (Asb G.2.2.2.2.2) s.heap H locs) (hcl : cells ≤ room_1.cells) (hsl : slots ≤ room_1.slots) (kk : ∀ (M' : Mm) (H1 : Heap) (locs1 : List Loc), Inv M' → Wo G M' H1 → va_S (Asb G.2.2.2.2.2) s.heap H1 locs1 → W p G.1 e room_1 s m #[Value.ref b] below meth c H1 locs1 cells slots Z (F0 m 703 ls [])) : W p G.1 e room_1 s m #[Value.ref b] below meth c H locs cells slots Z (F0 m 368 ls []) := by
  obtain ⟨hx, hb, hr, hml, hown, hts, hX, hbl, hlocks, hgv⟩ := C0
  have hbA : ¬ Asb G.2.2.2.2.2 b := by unfold Asb; rw [hbs]; exact Nat.not_le.mpr hbl
  have hf : CallFix p m c cL_law 4 s #[Value.ref b] lw_tbl RL := ⟨hx, hb, hml, hown, hts⟩
  have i1 : vp_in (nI i + 1) L := by rw [show nI i + 1 = nI (i + 1) from nI_add i 1]; exact vp_in_nI (by omega) (by omega)
  refine lv_aload_n hx hb dL_law_368 rfl (lv_at hl 1 rfl) ?_
  refine lv_aload_n hx hb dL_law_369 rfl (lv_at hl 0 rfl) ?_
  refine lv_iload_n hx hb dL_law_370 rfl (lv_at hl 3 rfl) ?_
  refine lv_iconst (v := 1) hx hb dL_law_371 (by decide) ?_
  refine lv_iadd hx hb dL_law_372 ?_
  refine va_sld hx hb hX hbl hbA hS i1 dL_law_373 ?_
  refine lcall (a := 0) (ci := 6) (n := 1) (ks := [3, 18, 33, 48, 52, 0]) (T := TX6) (N := 6) (bytes := cX6_told) (maxL := 2) (ret := some .int) (av := [.int (xs (nI i + 1).toNatClampNeg)]) (rest := []) hf hC hW hS hl.1 dL_law_374 (nX6_told G _ _ _ (step_told hI (xs (nI i + 1).toNatClampNeg))) (goodL (mU (by decide +kernel) rfl) (mU (by decide +kernel) rfl) (mU (by decide +kernel) rfl) (mU (by decide +kernel) rfl) (mU (by decide +kernel) rfl)) rfl rfl rfl rfl (by decide +kernel) ⟨Nat.le_of_ble_eq_true rfl, Nat.le_of_ble_eq_true rfl⟩ rfl (Nat.le_of_ble_eq_true rfl) hcl hsl (fun r1 M1 H1 locs1 hq1 hW1 hS1 => ?_)
  obtain ⟨⟨a0, rfl⟩, hk⟩ := hq1
  refine W.eq (g2 := F0 m 377 ls [.int a0]) rfl ?_
  have hS := hS1
  refine lv_aload_n hx hb dL_law_377 rfl (lv_at hl 2 rfl) ?_
  refine lv_aload_n hx hb dL_law_378 rfl (lv_at hl 0 rfl) ?_
  refine lv_iload_n hx hb dL_law_379 rfl (lv_at hl 3 rfl) ?_
  refine lv_iconst (v := 1) hx hb dL_law_380 (by decide) ?_
  refine lv_iadd hx hb dL_law_381 ?_
  refine va_sld hx hb hX hbl hbA hS i1 dL_law_382 ?_
  refine lcall (a := 51) (ci := 7) (n := 1) (ks := [54, 55, 56, 1, 57, 58]) (T := TX7) (N := 6) (bytes := cX7_told) (maxL := 2) (ret := some .int) (av := [.int (xs (nI i + 1).toNatClampNeg)]) (rest := [.int a0]) hf hC hW1 hS1 hl.1 dL_law_383 (nX7_told G _ _ _ hk) (goodL (mU (by decide +kernel) rfl) (mU (by decide +kernel) rfl) (mU (by decide +kernel) rfl) (mU (by decide +kernel) rfl) (mU (by decide +kernel) rfl)) rfl rfl rfl rfl (by decide +kernel) ⟨Nat.le_of_ble_eq_true rfl, Nat.le_of_ble_eq_true rfl⟩ rfl (Nat.le_of_ble_eq_true rfl) hcl hsl (fun r2 M2 H2 locs2 hq2 hW2 hS2 => ?_)
  obtain ⟨rfl, -, hI2⟩ := hq2
  refine W.eq (g2 := F0 m 386 ls [.int a0, .int a0]) rfl ?_
  exact lv_icmp_eq (tgt := 703) hx hb dL_law_386 (by decide) (fun _ => kk M2 H2 locs2 hI2 hW2 hS2) (fun h => absurd rfl h)
