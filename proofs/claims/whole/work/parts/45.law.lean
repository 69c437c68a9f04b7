/-! the arms of the law's switch: WRITTEN BY wip/whole/lawgen.py -/
set_option maxRecDepth 100000 in
theorem la_panel {G : Gt} {p : Program} {e : Env} {s : State} {m : MethodId} {below : List Frame} {meth : Method} {c : Code} {b L : Nat} {xs : Nat → Int32} {H : Heap} {locs : List Loc} {cells slots : Nat} {Z : State → Prop} {ls : Array Slot} {M : Mm} {i : Nat} (C0 : lw_At p s m meth c b L xs) (hC : Cx G s) (hbs : G.2.2.2.2.2 = s.heap.size) (hL : L ≤ 2560) (hi : i + 5 ≤ L) (hl : lv_has ls 4 [(0, .ref b), (1, .ref (G.2.2.1 0)), (2, .ref (G.2.2.1 51)), (3, .int (nI i))]) (hI : Inv M) (hW : Wo G M H) (hS : va_S (Asb G.2.2.2.2.2) s.heap H locs) (hcl : cells ≤ room_1.cells) (hsl : slots ≤ room_1.slots) (kk : ∀ (M' : Mm) (H1 : Heap) (locs1 : List Loc), Inv M' → Wo G M' H1 → va_S (Asb G.2.2.2.2.2) s.heap H1 locs1 → W p G.1 e room_1 s m #[Value.ref b] below meth c H1 locs1 cells slots Z (F0 m 703 ls [])) : W p G.1 e room_1 s m #[Value.ref b] below meth c H locs cells slots Z (F0 m 124 ls []) := by
  obtain ⟨hx, hb, hr, hml, hown, hts, hX, hbl, hlocks, hgv⟩ := C0
  have hbA : ¬ Asb G.2.2.2.2.2 b := by unfold Asb; rw [hbs]; exact Nat.not_le.mpr hbl
  have hf : CallFix p m c cL_law 4 s #[Value.ref b] lw_tbl RL := ⟨hx, hb, hml, hown, hts⟩
  have i1 : vp_in (nI i + 1) L := by rw [show nI i + 1 = nI (i + 1) from nI_add i 1]; exact vp_in_nI (by omega) (by omega)
  have i2 : vp_in (nI i + 2) L := by rw [show nI i + 2 = nI (i + 2) from nI_add i 2]; exact vp_in_nI (by omega) (by omega)
  refine lv_aload_n hx hb dL_law_124 rfl (lv_at hl 1 rfl) ?_
  refine lv_aload_n hx hb dL_law_125 rfl (lv_at hl 0 rfl) ?_
  refine lv_iload_n hx hb dL_law_126 rfl (lv_at hl 3 rfl) ?_
  refine lv_iconst (v := 1) hx hb dL_law_127 (by decide) ?_
  refine lv_iadd hx hb dL_law_128 ?_
  refine va_sld hx hb hX hbl hbA hS i1 dL_law_129 ?_
  refine lv_aload_n hx hb dL_law_130 rfl (lv_at hl 0 rfl) ?_
  refine lv_iload_n hx hb dL_law_131 rfl (lv_at hl 3 rfl) ?_
  refine lv_iconst (v := 2) hx hb dL_law_132 (by decide) ?_
  refine lv_iadd hx hb dL_law_133 ?_
  refine va_sld hx hb hX hbl hbA hS i2 dL_law_134 ?_
  refine lcall (a := 0) (ci := 6) (n := 2) (ks := [3, 18, 33, 48, 52, 0]) (T := TX6) (N := 6) (bytes := cX6_panel) (maxL := 3) (ret := some .int) (av := [.int (xs (nI i + 1).toNatClampNeg), .int (xs (nI i + 2).toNatClampNeg)]) (rest := []) hf hC hW hS hl.1 dL_law_135 (nX6_panel G _ _ _ (step_panel hI (xs (nI i + 1).toNatClampNeg) (xs (nI i + 2).toNatClampNeg))) (goodL (mU (by decide +kernel) rfl) (mU (by decide +kernel) rfl) (mU (by decide +kernel) rfl) (mU (by decide +kernel) rfl) (mU (by decide +kernel) rfl)) rfl rfl rfl rfl (by decide +kernel) ⟨Nat.le_of_ble_eq_true rfl, Nat.le_of_ble_eq_true rfl⟩ rfl (Nat.le_of_ble_eq_true rfl) hcl hsl (fun r1 M1 H1 locs1 hq1 hW1 hS1 => ?_)
  obtain ⟨⟨a0, rfl⟩, hk⟩ := hq1
  refine W.eq (g2 := F0 m 138 ls [.int a0]) rfl ?_
  have hS := hS1
  refine lv_aload_n hx hb dL_law_138 rfl (lv_at hl 2 rfl) ?_
  refine lv_aload_n hx hb dL_law_139 rfl (lv_at hl 0 rfl) ?_
  refine lv_iload_n hx hb dL_law_140 rfl (lv_at hl 3 rfl) ?_
  refine lv_iconst (v := 1) hx hb dL_law_141 (by decide) ?_
  refine lv_iadd hx hb dL_law_142 ?_
  refine va_sld hx hb hX hbl hbA hS i1 dL_law_143 ?_
  refine lv_aload_n hx hb dL_law_144 rfl (lv_at hl 0 rfl) ?_
  refine lv_iload_n hx hb dL_law_145 rfl (lv_at hl 3 rfl) ?_
  refine lv_iconst (v := 2) hx hb dL_law_146 (by decide) ?_
  refine lv_iadd hx hb dL_law_147 ?_
  refine va_sld hx hb hX hbl hbA hS i2 dL_law_148 ?_
  refine lcall (a := 51) (ci := 7) (n := 2) (ks := [54, 55, 56, 1, 57, 58]) (T := TX7) (N := 6) (bytes := cX7_panel) (maxL := 3) (ret := some .int) (av := [.int (xs (nI i + 1).toNatClampNeg), .int (xs (nI i + 2).toNatClampNeg)]) (rest := [.int a0]) hf hC hW1 hS1 hl.1 dL_law_149 (nX7_panel G _ _ _ hk) (goodL (mU (by decide +kernel) rfl) (mU (by decide +kernel) rfl) (mU (by decide +kernel) rfl) (mU (by decide +kernel) rfl) (mU (by decide +kernel) rfl)) rfl rfl rfl rfl (by decide +kernel) ⟨Nat.le_of_ble_eq_true rfl, Nat.le_of_ble_eq_true rfl⟩ rfl (Nat.le_of_ble_eq_true rfl) hcl hsl (fun r2 M2 H2 locs2 hq2 hW2 hS2 => ?_)
  obtain ⟨rfl, -, hI2⟩ := hq2
  refine W.eq (g2 := F0 m 152 ls [.int a0, .int a0]) rfl ?_
  exact lv_icmp_eq (tgt := 703) hx hb dL_law_152 (by decide) (fun _ => kk M2 H2 locs2 hI2 hW2 hS2) (fun h => absurd rfl h)
set_option maxRecDepth 100000 in
theorem la_bound {G : Gt} {p : Program} {e : Env} {s : State} {m : MethodId} {below : List Frame} {meth : Method} {c : Code} {b L : Nat} {xs : Nat → Int32} {H : Heap} {locs : List Loc} {cells slots : Nat} {Z : State → Prop} {ls : Array Slot} {M : Mm} {i : Nat} (C0 : lw_At p s m meth c b L xs) (hC : Cx G s) (hbs : G.2.2.2.2.2 = s.heap.size) (hL : L ≤ 2560) (hi : i + 5 ≤ L) (hl : lv_has ls 4 [(0, .ref b), (1, .ref (G.2.2.1 0)), (2, .ref (G.2.2.1 51)), (3, .int (nI i))]) (hI : Inv M) (hW : Wo G M H) (hS : va_S (Asb G.2.2.2.2.2) s.heap H locs) (hcl : cells ≤ room_1.cells) (hsl : slots ≤ room_1.slots) (kk : ∀ (M' : Mm) (H1 : Heap) (locs1 : List Loc), Inv M' → Wo G M' H1 → va_S (Asb G.2.2.2.2.2) s.heap H1 locs1 → W p G.1 e room_1 s m #[Value.ref b] below meth c H1 locs1 cells slots Z (F0 m 703 ls [])) : W p G.1 e room_1 s m #[Value.ref b] below meth c H locs cells slots Z (F0 m 157 ls []) := by
  obtain ⟨hx, hb, hr, hml, hown, hts, hX, hbl, hlocks, hgv⟩ := C0
  have hbA : ¬ Asb G.2.2.2.2.2 b := by unfold Asb; rw [hbs]; exact Nat.not_le.mpr hbl
  have hf : CallFix p m c cL_law 4 s #[Value.ref b] lw_tbl RL := ⟨hx, hb, hml, hown, hts⟩
  have i1 : vp_in (nI i + 1) L := by rw [show nI i + 1 = nI (i + 1) from nI_add i 1]; exact vp_in_nI (by omega) (by omega)
  have i2 : vp_in (nI i + 2) L := by rw [show nI i + 2 = nI (i + 2) from nI_add i 2]; exact vp_in_nI (by omega) (by omega)
  refine lv_aload_n hx hb dL_law_157 rfl (lv_at hl 1 rfl) ?_
  refine lv_aload_n hx hb dL_law_158 rfl (lv_at hl 0 rfl) ?_
  refine lv_iload_n hx hb dL_law_159 rfl (lv_at hl 3 rfl) ?_
  refine lv_iconst (v := 1) hx hb dL_law_160 (by decide) ?_
  refine lv_iadd hx hb dL_law_161 ?_
  refine va_sld hx hb hX hbl hbA hS i1 dL_law_162 ?_
  refine lv_aload_n hx hb dL_law_163 rfl (lv_at hl 0 rfl) ?_
  refine lv_iload_n hx hb dL_law_164 rfl (lv_at hl 3 rfl) ?_
  refine lv_iconst (v := 2) hx hb dL_law_165 (by decide) ?_
  refine lv_iadd hx hb dL_law_166 ?_
  refine va_sld hx hb hX hbl hbA hS i2 dL_law_167 ?_
  refine lcall (a := 0) (ci := 6) (n := 2) (ks := [3, 18, 33, 48, 52, 0]) (T := TX6) (N := 6) (bytes := cX6_bound) (maxL := 4) (ret := some .int) (av := [.int (xs (nI i + 1).toNatClampNeg), .int (xs (nI i + 2).toNatClampNeg)]) (rest := []) hf hC hW hS hl.1 dL_law_168 (nX6_bound G _ _ _ (step_bound hI (xs (nI i + 1).toNatClampNeg) (xs (nI i + 2).toNatClampNeg))) (goodL (mU (by decide +kernel) rfl) (mU (by decide +kernel) rfl) (mU (by decide +kernel) rfl) (mU (by decide +kernel) rfl) (mU (by decide +kernel) rfl)) rfl rfl rfl rfl (by decide +kernel) ⟨Nat.le_of_ble_eq_true rfl, Nat.le_of_ble_eq_true rfl⟩ rfl (Nat.le_of_ble_eq_true rfl) hcl hsl (fun r1 M1 H1 locs1 hq1 hW1 hS1 => ?_)
  obtain ⟨⟨a0, rfl⟩, hk⟩ := hq1
  refine W.eq (g2 := F0 m 171 ls [.int a0]) rfl ?_
  have hS := hS1
  refine lv_aload_n hx hb dL_law_171 rfl (lv_at hl 2 rfl) ?_
  refine lv_aload_n hx hb dL_law_172 rfl (lv_at hl 0 rfl) ?_
  refine lv_iload_n hx hb dL_law_173 rfl (lv_at hl 3 rfl) ?_
  refine lv_iconst (v := 1) hx hb dL_law_174 (by decide) ?_
  refine lv_iadd hx hb dL_law_175 ?_
  refine va_sld hx hb hX hbl hbA hS i1 dL_law_176 ?_
  refine lv_aload_n hx hb dL_law_177 rfl (lv_at hl 0 rfl) ?_
  refine lv_iload_n hx hb dL_law_178 rfl (lv_at hl 3 rfl) ?_
  refine lv_iconst (v := 2) hx hb dL_law_179 (by decide) ?_
  refine lv_iadd hx hb dL_law_180 ?_
  refine va_sld hx hb hX hbl hbA hS i2 dL_law_181 ?_
  refine lcall (a := 51) (ci := 7) (n := 2) (ks := [54, 55, 56, 1, 57, 58]) (T := TX7) (N := 6) (bytes := cX7_bound) (maxL := 6) (ret := some .int) (av := [.int (xs (nI i + 1).toNatClampNeg), .int (xs (nI i + 2).toNatClampNeg)]) (rest := [.int a0]) hf hC hW1 hS1 hl.1 dL_law_182 (nX7_bound G _ _ _ hk) (goodL (mU (by decide +kernel) rfl) (mU (by decide +kernel) rfl) (mU (by decide +kernel) rfl) (mU (by decide +kernel) rfl) (mU (by decide +kernel) rfl)) rfl rfl rfl rfl (by decide +kernel) ⟨Nat.le_of_ble_eq_true rfl, Nat.le_of_ble_eq_true rfl⟩ rfl (Nat.le_of_ble_eq_true rfl) hcl hsl (fun r2 M2 H2 locs2 hq2 hW2 hS2 => ?_)
  obtain ⟨rfl, -, hI2⟩ := hq2
  refine W.eq (g2 := F0 m 185 ls [.int a0, .int a0]) rfl ?_
  exact lv_icmp_eq (tgt := 703) hx hb dL_law_185 (by decide) (fun _ => kk M2 H2 locs2 hI2 hW2 hS2) (fun h => absurd rfl h)
set_option maxRecDepth 100000 in
theorem la_set {G : Gt} {p : Program} {e : Env} {s : State} {m : MethodId} {below : List Frame} {meth : Method} {c : Code} {b L : Nat} {xs : Nat → Int32} {H : Heap} {locs : List Loc} {cells slots : Nat} {Z : State → Prop} {ls : Array Slot} {M : Mm} {i : Nat} (C0 : lw_At p s m meth c b L xs) (hC : Cx G s) (hbs : G.2.2.2.2.2 = s.heap.size) (hL : L ≤ 2560) (hi : i + 5 ≤ L) (hl : lv_has ls 4 [(0, .ref b), (1, .ref (G.2.2.1 0)), (2, .ref (G.2.2.1 51)), (3, .int (nI i))]) (hI : Inv M) (hW : Wo G M H) (hS : va_S (Asb G.2.2.2.2.2) s.heap H locs) (hcl : cells ≤ room_1.cells) (hsl : slots ≤ room_1.slots) (kk : ∀ (M' : Mm) (H1 : Heap) (locs1 : List Loc), Inv M' → Wo G M' H1 → va_S (Asb G.2.2.2.2.2) s.heap H1 locs1 → W p G.1 e room_1 s m #[Value.ref b] below meth c H1 locs1 cells slots Z (F0 m 703 ls [])) : W p G.1 e room_1 s m #[Value.ref b] below meth c H locs cells slots Z (F0 m 190 ls []) := by
  obtain ⟨hx, hb, hr, hml, hown, hts, hX, hbl, hlocks, hgv⟩ := C0
  have hbA : ¬ Asb G.2.2.2.2.2 b := by unfold Asb; rw [hbs]; exact Nat.not_le.mpr hbl
  have hf : CallFix p m c cL_law 4 s #[Value.ref b] lw_tbl RL := ⟨hx, hb, hml, hown, hts⟩
  have i1 : vp_in (nI i + 1) L := by rw [show nI i + 1 = nI (i + 1) from nI_add i 1]; exact vp_in_nI (by omega) (by omega)
  have i2 : vp_in (nI i + 2) L := by rw [show nI i + 2 = nI (i + 2) from nI_add i 2]; exact vp_in_nI (by omega) (by omega)
  have i3 : vp_in (nI i + 3) L := by rw [show nI i + 3 = nI (i + 3) from nI_add i 3]; exact vp_in_nI (by omega) (by omega)
  refine lv_aload_n hx hb dL_law_190 rfl (lv_at hl 1 rfl) ?_
  refine lv_aload_n hx hb dL_law_191 rfl (lv_at hl 0 rfl) ?_
  refine lv_iload_n hx hb dL_law_192 rfl (lv_at hl 3 rfl) ?_
  refine lv_iconst (v := 1) hx hb dL_law_193 (by decide) ?_
  refine lv_iadd hx hb dL_law_194 ?_
  refine va_sld hx hb hX hbl hbA hS i1 dL_law_195 ?_
  refine lv_aload_n hx hb dL_law_196 rfl (lv_at hl 0 rfl) ?_
  refine lv_iload_n hx hb dL_law_197 rfl (lv_at hl 3 rfl) ?_
  refine lv_iconst (v := 2) hx hb dL_law_198 (by decide) ?_
  refine lv_iadd hx hb dL_law_199 ?_
  refine va_sld hx hb hX hbl hbA hS i2 dL_law_200 ?_
  refine lv_aload_n hx hb dL_law_201 rfl (lv_at hl 0 rfl) ?_
  refine lv_iload_n hx hb dL_law_202 rfl (lv_at hl 3 rfl) ?_
  refine lv_iconst (v := 3) hx hb dL_law_203 (by decide) ?_
  refine lv_iadd hx hb dL_law_204 ?_
  refine va_sld hx hb hX hbl hbA hS i3 dL_law_205 ?_
  refine lcall (a := 0) (ci := 6) (n := 3) (ks := [3, 18, 33, 48, 52, 0]) (T := TX6) (N := 6) (bytes := cX6_set) (maxL := 6) (ret := some .int) (av := [.int (xs (nI i + 1).toNatClampNeg), .int (xs (nI i + 2).toNatClampNeg), .int (xs (nI i + 3).toNatClampNeg)]) (rest := []) hf hC hW hS hl.1 dL_law_206 (nX6_set G _ _ _ (step_set hI (xs (nI i + 1).toNatClampNeg) (xs (nI i + 2).toNatClampNeg) (xs (nI i + 3).toNatClampNeg))) (goodL (mU (by decide +kernel) rfl) (mU (by decide +kernel) rfl) (mU (by decide +kernel) rfl) (mU (by decide +kernel) rfl) (mU (by decide +kernel) rfl)) rfl rfl rfl rfl (by decide +kernel) ⟨Nat.le_of_ble_eq_true rfl, Nat.le_of_ble_eq_true rfl⟩ rfl (Nat.le_of_ble_eq_true rfl) hcl hsl (fun r1 M1 H1 locs1 hq1 hW1 hS1 => ?_)
  obtain ⟨⟨a0, rfl⟩, hk⟩ := hq1
  refine W.eq (g2 := F0 m 209 ls [.int a0]) rfl ?_
  have hS := hS1
  refine lv_aload_n hx hb dL_law_209 rfl (lv_at hl 2 rfl) ?_
  refine lv_aload_n hx hb dL_law_210 rfl (lv_at hl 0 rfl) ?_
  refine lv_iload_n hx hb dL_law_211 rfl (lv_at hl 3 rfl) ?_
  refine lv_iconst (v := 1) hx hb dL_law_212 (by decide) ?_
  refine lv_iadd hx hb dL_law_213 ?_
  refine va_sld hx hb hX hbl hbA hS i1 dL_law_214 ?_
  refine lv_aload_n hx hb dL_law_215 rfl (lv_at hl 0 rfl) ?_
  refine lv_iload_n hx hb dL_law_216 rfl (lv_at hl 3 rfl) ?_
  refine lv_iconst (v := 2) hx hb dL_law_217 (by decide) ?_
  refine lv_iadd hx hb dL_law_218 ?_
  refine va_sld hx hb hX hbl hbA hS i2 dL_law_219 ?_
  refine lv_aload_n hx hb dL_law_220 rfl (lv_at hl 0 rfl) ?_
  refine lv_iload_n hx hb dL_law_221 rfl (lv_at hl 3 rfl) ?_
  refine lv_iconst (v := 3) hx hb dL_law_222 (by decide) ?_
  refine lv_iadd hx hb dL_law_223 ?_
  refine va_sld hx hb hX hbl hbA hS i3 dL_law_224 ?_
  refine lcall (a := 51) (ci := 7) (n := 3) (ks := [54, 55, 56, 1, 57, 58]) (T := TX7) (N := 6) (bytes := cX7_set) (maxL := 6) (ret := some .int) (av := [.int (xs (nI i + 1).toNatClampNeg), .int (xs (nI i + 2).toNatClampNeg), .int (xs (nI i + 3).toNatClampNeg)]) (rest := [.int a0]) hf hC hW1 hS1 hl.1 dL_law_225 (nX7_set G _ _ _ hk) (goodL (mU (by decide +kernel) rfl) (mU (by decide +kernel) rfl) (mU (by decide +kernel) rfl) (mU (by decide +kernel) rfl) (mU (by decide +kernel) rfl)) rfl rfl rfl rfl (by decide +kernel) ⟨Nat.le_of_ble_eq_true rfl, Nat.le_of_ble_eq_true rfl⟩ rfl (Nat.le_of_ble_eq_true rfl) hcl hsl (fun r2 M2 H2 locs2 hq2 hW2 hS2 => ?_)
  obtain ⟨rfl, -, hI2⟩ := hq2
  refine W.eq (g2 := F0 m 228 ls [.int a0, .int a0]) rfl ?_
  exact lv_icmp_eq (tgt := 703) hx hb dL_law_228 (by decide) (fun _ => kk M2 H2 locs2 hI2 hW2 hS2) (fun h => absurd rfl h)
set_option maxRecDepth 100000 in
theorem la_press {G : Gt} {p : Program} {e : Env} {s : State} {m : MethodId} {below : List Frame} {meth : Method} {c : Code} {b L : Nat} {xs : Nat → Int32} {H : Heap} {locs : List Loc} {cells slots : Nat} {Z : State → Prop} {ls : Array Slot} {M : Mm} {i : Nat} (C0 : lw_At p s m meth c b L xs) (hC : Cx G s) (hbs : G.2.2.2.2.2 = s.heap.size) (hL : L ≤ 2560) (hi : i + 5 ≤ L) (hl : lv_has ls 4 [(0, .ref b), (1, .ref (G.2.2.1 0)), (2, .ref (G.2.2.1 51)), (3, .int (nI i))]) (hI : Inv M) (hW : Wo G M H) (hS : va_S (Asb G.2.2.2.2.2) s.heap H locs) (hcl : cells ≤ room_1.cells) (hsl : slots ≤ room_1.slots) (kk : ∀ (M' : Mm) (H1 : Heap) (locs1 : List Loc), Inv M' → Wo G M' H1 → va_S (Asb G.2.2.2.2.2) s.heap H1 locs1 → W p G.1 e room_1 s m #[Value.ref b] below meth c H1 locs1 cells slots Z (F0 m 703 ls [])) : W p G.1 e room_1 s m #[Value.ref b] below meth c H locs cells slots Z (F0 m 233 ls []) := by
  obtain ⟨hx, hb, hr, hml, hown, hts, hX, hbl, hlocks, hgv⟩ := C0
  have hbA : ¬ Asb G.2.2.2.2.2 b := by unfold Asb; rw [hbs]; exact Nat.not_le.mpr hbl
  have hf : CallFix p m c cL_law 4 s #[Value.ref b] lw_tbl RL := ⟨hx, hb, hml, hown, hts⟩
  have i1 : vp_in (nI i + 1) L := by rw [show nI i + 1 = nI (i + 1) from nI_add i 1]; exact vp_in_nI (by omega) (by omega)
  have i2 : vp_in (nI i + 2) L := by rw [show nI i + 2 = nI (i + 2) from nI_add i 2]; exact vp_in_nI (by omega) (by omega)
  have i3 : vp_in (nI i + 3) L := by rw [show nI i + 3 = nI (i + 3) from nI_add i 3]; exact vp_in_nI (by omega) (by omega)
  refine lv_aload_n hx hb dL_law_233 rfl (lv_at hl 1 rfl) ?_
  refine lv_aload_n hx hb dL_law_234 rfl (lv_at hl 0 rfl) ?_
  refine lv_iload_n hx hb dL_law_235 rfl (lv_at hl 3 rfl) ?_
  refine lv_iconst (v := 1) hx hb dL_law_236 (by decide) ?_
  refine lv_iadd hx hb dL_law_237 ?_
  refine va_sld hx hb hX hbl hbA hS i1 dL_law_238 ?_
  refine lv_aload_n hx hb dL_law_239 rfl (lv_at hl 0 rfl) ?_
  refine lv_iload_n hx hb dL_law_240 rfl (lv_at hl 3 rfl) ?_
  refine lv_iconst (v := 2) hx hb dL_law_241 (by decide) ?_
  refine lv_iadd hx hb dL_law_242 ?_
  refine va_sld hx hb hX hbl hbA hS i2 dL_law_243 ?_
  refine lv_aload_n hx hb dL_law_244 rfl (lv_at hl 0 rfl) ?_
  refine lv_iload_n hx hb dL_law_245 rfl (lv_at hl 3 rfl) ?_
  refine lv_iconst (v := 3) hx hb dL_law_246 (by decide) ?_
  refine lv_iadd hx hb dL_law_247 ?_
  refine va_sld hx hb hX hbl hbA hS i3 dL_law_248 ?_
  refine lcall (a := 0) (ci := 6) (n := 3) (ks := [3, 18, 33, 48, 52, 0]) (T := TX6) (N := 6) (bytes := cX6_press) (maxL := 5) (ret := some .int) (av := [.int (xs (nI i + 1).toNatClampNeg), .int (xs (nI i + 2).toNatClampNeg), .int (xs (nI i + 3).toNatClampNeg)]) (rest := []) hf hC hW hS hl.1 dL_law_249 (nX6_press G _ _ _ (step_press hI (xs (nI i + 1).toNatClampNeg) (xs (nI i + 2).toNatClampNeg) (xs (nI i + 3).toNatClampNeg))) (goodL (mU (by decide +kernel) rfl) (mU (by decide +kernel) rfl) (mU (by decide +kernel) rfl) (mU (by decide +kernel) rfl) (mU (by decide +kernel) rfl)) rfl rfl rfl rfl (by decide +kernel) ⟨Nat.le_of_ble_eq_true rfl, Nat.le_of_ble_eq_true rfl⟩ rfl (Nat.le_of_ble_eq_true rfl) hcl hsl (fun r1 M1 H1 locs1 hq1 hW1 hS1 => ?_)
  obtain ⟨⟨a0, rfl⟩, hk⟩ := hq1
  refine W.eq (g2 := F0 m 252 ls [.int a0]) rfl ?_
  have hS := hS1
  refine lv_aload_n hx hb dL_law_252 rfl (lv_at hl 2 rfl) ?_
  refine lv_aload_n hx hb dL_law_253 rfl (lv_at hl 0 rfl) ?_
  refine lv_iload_n hx hb dL_law_254 rfl (lv_at hl 3 rfl) ?_
  refine lv_iconst (v := 1) hx hb dL_law_255 (by decide) ?_
  refine lv_iadd hx hb dL_law_256 ?_
  refine va_sld hx hb hX hbl hbA hS i1 dL_law_257 ?_
  refine lv_aload_n hx hb dL_law_258 rfl (lv_at hl 0 rfl) ?_
  refine lv_iload_n hx hb dL_law_259 rfl (lv_at hl 3 rfl) ?_
  refine lv_iconst (v := 2) hx hb dL_law_260 (by decide) ?_
  refine lv_iadd hx hb dL_law_261 ?_
  refine va_sld hx hb hX hbl hbA hS i2 dL_law_262 ?_
  refine lv_aload_n hx hb dL_law_263 rfl (lv_at hl 0 rfl) ?_
  refine lv_iload_n hx hb dL_law_264 rfl (lv_at hl 3 rfl) ?_
  refine lv_iconst (v := 3) hx hb dL_law_265 (by decide) ?_
  refine lv_iadd hx hb dL_law_266 ?_
  refine va_sld hx hb hX hbl hbA hS i3 dL_law_267 ?_
  refine lcall (a := 51) (ci := 7) (n := 3) (ks := [54, 55, 56, 1, 57, 58]) (T := TX7) (N := 6) (bytes := cX7_press) (maxL := 4) (ret := some .int) (av := [.int (xs (nI i + 1).toNatClampNeg), .int (xs (nI i + 2).toNatClampNeg), .int (xs (nI i + 3).toNatClampNeg)]) (rest := [.int a0]) hf hC hW1 hS1 hl.1 dL_law_268 (nX7_press G _ _ _ hk) (goodL (mU (by decide +kernel) rfl) (mU (by decide +kernel) rfl) (mU (by decide +kernel) rfl) (mU (by decide +kernel) rfl) (mU (by decide +kernel) rfl)) rfl rfl rfl rfl (by decide +kernel) ⟨Nat.le_of_ble_eq_true rfl, Nat.le_of_ble_eq_true rfl⟩ rfl (Nat.le_of_ble_eq_true rfl) hcl hsl (fun r2 M2 H2 locs2 hq2 hW2 hS2 => ?_)
  obtain ⟨rfl, -, hI2⟩ := hq2
  refine W.eq (g2 := F0 m 271 ls [.int a0, .int a0]) rfl ?_
  exact lv_icmp_eq (tgt := 703) hx hb dL_law_271 (by decide) (fun _ => kk M2 H2 locs2 hI2 hW2 hS2) (fun h => absurd rfl h)
set_option maxRecDepth 100000 in
theorem la_wipe {G : Gt} {p : Program} {e : Env} {s : State} {m : MethodId} {below : List Frame} {meth : Method} {c : Code} {b L : Nat} {xs : Nat → Int32} {H : Heap} {locs : List Loc} {cells slots : Nat} {Z : State → Prop} {ls : Array Slot} {M : Mm} {i : Nat} (C0 : lw_At p s m meth c b L xs) (hC : Cx G s) (hbs : G.2.2.2.2.2 = s.heap.size) (hL : L ≤ 2560) (hi : i + 5 ≤ L) (hl : lv_has ls 4 [(0, .ref b), (1, .ref (G.2.2.1 0)), (2, .ref (G.2.2.1 51)), (3, .int (nI i))]) (hI : Inv M) (hW : Wo G M H) (hS : va_S (Asb G.2.2.2.2.2) s.heap H locs) (hcl : cells ≤ room_1.cells) (hsl : slots ≤ room_1.slots) (kk : ∀ (M' : Mm) (H1 : Heap) (locs1 : List Loc), Inv M' → Wo G M' H1 → va_S (Asb G.2.2.2.2.2) s.heap H1 locs1 → W p G.1 e room_1 s m #[Value.ref b] below meth c H1 locs1 cells slots Z (F0 m 703 ls [])) : W p G.1 e room_1 s m #[Value.ref b] below meth c H locs cells slots Z (F0 m 276 ls []) := by
  obtain ⟨hx, hb, hr, hml, hown, hts, hX, hbl, hlocks, hgv⟩ := C0
  have hbA : ¬ Asb G.2.2.2.2.2 b := by unfold Asb; rw [hbs]; exact Nat.not_le.mpr hbl
  have hf : CallFix p m c cL_law 4 s #[Value.ref b] lw_tbl RL := ⟨hx, hb, hml, hown, hts⟩
  refine lv_aload_n hx hb dL_law_276 rfl (lv_at hl 1 rfl) ?_
  refine lcall (a := 0) (ci := 6) (n := 0) (ks := [3, 18, 33, 48, 52, 0]) (T := TX6) (N := 6) (bytes := cX6_wipe) (maxL := 1) (ret := some .int) (av := []) (rest := []) hf hC hW hS hl.1 dL_law_277 (nX6_wipe G _ _ _ (step_wipe hI )) (goodL (mU (by decide +kernel) rfl) (mU (by decide +kernel) rfl) (mU (by decide +kernel) rfl) (mU (by decide +kernel) rfl) (mU (by decide +kernel) rfl)) rfl rfl rfl rfl (by decide +kernel) ⟨Nat.le_of_ble_eq_true rfl, Nat.le_of_ble_eq_true rfl⟩ rfl (Nat.le_of_ble_eq_true rfl) hcl hsl (fun r1 M1 H1 locs1 hq1 hW1 hS1 => ?_)
  obtain ⟨⟨a0, rfl⟩, hk⟩ := hq1
  refine W.eq (g2 := F0 m 280 ls [.int a0]) rfl ?_
  have hS := hS1
  refine lv_aload_n hx hb dL_law_280 rfl (lv_at hl 2 rfl) ?_
  refine lcall (a := 51) (ci := 7) (n := 0) (ks := [54, 55, 56, 1, 57, 58]) (T := TX7) (N := 6) (bytes := cX7_wipe) (maxL := 3) (ret := some .int) (av := []) (rest := [.int a0]) hf hC hW1 hS1 hl.1 dL_law_281 (nX7_wipe G _ _ _ hk) (goodL (mU (by decide +kernel) rfl) (mU (by decide +kernel) rfl) (mU (by decide +kernel) rfl) (mU (by decide +kernel) rfl) (mU (by decide +kernel) rfl)) rfl rfl rfl rfl (by decide +kernel) ⟨Nat.le_of_ble_eq_true rfl, Nat.le_of_ble_eq_true rfl⟩ rfl (Nat.le_of_ble_eq_true rfl) hcl hsl (fun r2 M2 H2 locs2 hq2 hW2 hS2 => ?_)
  obtain ⟨rfl, -, hI2⟩ := hq2
  refine W.eq (g2 := F0 m 284 ls [.int a0, .int a0]) rfl ?_
  exact lv_icmp_eq (tgt := 703) hx hb dL_law_284 (by decide) (fun _ => kk M2 H2 locs2 hI2 hW2 hS2) (fun h => absurd rfl h)
set_option maxRecDepth 100000 in
theorem la_lose {G : Gt} {p : Program} {e : Env} {s : State} {m : MethodId} {below : List Frame} {meth : Method} {c : Code} {b L : Nat} {xs : Nat → Int32} {H : Heap} {locs : List Loc} {cells slots : Nat} {Z : State → Prop} {ls : Array Slot} {M : Mm} {i : Nat} (C0 : lw_At p s m meth c b L xs) (hC : Cx G s) (hbs : G.2.2.2.2.2 = s.heap.size) (hL : L ≤ 2560) (hi : i + 5 ≤ L) (hl : lv_has ls 4 [(0, .ref b), (1, .ref (G.2.2.1 0)), (2, .ref (G.2.2.1 51)), (3, .int (nI i))]) (hI : Inv M) (hW : Wo G M H) (hS : va_S (Asb G.2.2.2.2.2) s.heap H locs) (hcl : cells ≤ room_1.cells) (hsl : slots ≤ room_1.slots) (kk : ∀ (M' : Mm) (H1 : Heap) (locs1 : List Loc), Inv M' → Wo G M' H1 → va_S (Asb G.2.2.2.2.2) s.heap H1 locs1 → W p G.1 e room_1 s m #[Value.ref b] below meth c H1 locs1 cells slots Z (F0 m 703 ls [])) : W p G.1 e room_1 s m #[Value.ref b] below meth c H locs cells slots Z (F0 m 289 ls []) := by
  obtain ⟨hx, hb, hr, hml, hown, hts, hX, hbl, hlocks, hgv⟩ := C0
  have hbA : ¬ Asb G.2.2.2.2.2 b := by unfold Asb; rw [hbs]; exact Nat.not_le.mpr hbl
  have hf : CallFix p m c cL_law 4 s #[Value.ref b] lw_tbl RL := ⟨hx, hb, hml, hown, hts⟩
  have i1 : vp_in (nI i + 1) L := by rw [show nI i + 1 = nI (i + 1) from nI_add i 1]; exact vp_in_nI (by omega) (by omega)
  refine lv_aload_n hx hb dL_law_289 rfl (lv_at hl 1 rfl) ?_
  refine lv_aload_n hx hb dL_law_290 rfl (lv_at hl 0 rfl) ?_
  refine lv_iload_n hx hb dL_law_291 rfl (lv_at hl 3 rfl) ?_
  refine lv_iconst (v := 1) hx hb dL_law_292 (by decide) ?_
  refine lv_iadd hx hb dL_law_293 ?_
  refine va_sld hx hb hX hbl hbA hS i1 dL_law_294 ?_
  refine lcall (a := 0) (ci := 6) (n := 1) (ks := [3, 18, 33, 48, 52, 0]) (T := TX6) (N := 6) (bytes := cX6_lose) (maxL := 2) (ret := some .int) (av := [.int (xs (nI i + 1).toNatClampNeg)]) (rest := []) hf hC hW hS hl.1 dL_law_295 (nX6_lose G _ _ _ (step_lose hI (xs (nI i + 1).toNatClampNeg))) (goodL (mU (by decide +kernel) rfl) (mU (by decide +kernel) rfl) (mU (by decide +kernel) rfl) (mU (by decide +kernel) rfl) (mU (by decide +kernel) rfl)) rfl rfl rfl rfl (by decide +kernel) ⟨Nat.le_of_ble_eq_true rfl, Nat.le_of_ble_eq_true rfl⟩ rfl (Nat.le_of_ble_eq_true rfl) hcl hsl (fun r1 M1 H1 locs1 hq1 hW1 hS1 => ?_)
  obtain ⟨⟨a0, rfl⟩, hk⟩ := hq1
  refine W.eq (g2 := F0 m 298 ls [.int a0]) rfl ?_
  have hS := hS1
  refine lv_aload_n hx hb dL_law_298 rfl (lv_at hl 2 rfl) ?_
  refine lv_aload_n hx hb dL_law_299 rfl (lv_at hl 0 rfl) ?_
  refine lv_iload_n hx hb dL_law_300 rfl (lv_at hl 3 rfl) ?_
  refine lv_iconst (v := 1) hx hb dL_law_301 (by decide) ?_
  refine lv_iadd hx hb dL_law_302 ?_
  refine va_sld hx hb hX hbl hbA hS i1 dL_law_303 ?_
  refine lcall (a := 51) (ci := 7) (n := 1) (ks := [54, 55, 56, 1, 57, 58]) (T := TX7) (N := 6) (bytes := cX7_lose) (maxL := 2) (ret := some .int) (av := [.int (xs (nI i + 1).toNatClampNeg)]) (rest := [.int a0]) hf hC hW1 hS1 hl.1 dL_law_304 (nX7_lose G _ _ _ hk) (goodL (mU (by decide +kernel) rfl) (mU (by decide +kernel) rfl) (mU (by decide +kernel) rfl) (mU (by decide +kernel) rfl) (mU (by decide +kernel) rfl)) rfl rfl rfl rfl (by decide +kernel) ⟨Nat.le_of_ble_eq_true rfl, Nat.le_of_ble_eq_true rfl⟩ rfl (Nat.le_of_ble_eq_true rfl) hcl hsl (fun r2 M2 H2 locs2 hq2 hW2 hS2 => ?_)
  obtain ⟨rfl, -, hI2⟩ := hq2
  refine W.eq (g2 := F0 m 307 ls [.int a0, .int a0]) rfl ?_
  exact lv_icmp_eq (tgt := 703) hx hb dL_law_307 (by decide) (fun _ => kk M2 H2 locs2 hI2 hW2 hS2) (fun h => absurd rfl h)
set_option maxRecDepth 100000 in
theorem la_frame {G : Gt} {p : Program} {e : Env} {s : State} {m : MethodId} {below : List Frame} {meth : Method} {c : Code} {b L : Nat} {xs : Nat → Int32} {H : Heap} {locs : List Loc} {cells slots : Nat} {Z : State → Prop} {ls : Array Slot} {M : Mm} {i : Nat} (C0 : lw_At p s m meth c b L xs) (hC : Cx G s) (hbs : G.2.2.2.2.2 = s.heap.size) (hL : L ≤ 2560) (hi : i + 5 ≤ L) (hl : lv_has ls 4 [(0, .ref b), (1, .ref (G.2.2.1 0)), (2, .ref (G.2.2.1 51)), (3, .int (nI i))]) (hI : Inv M) (hW : Wo G M H) (hS : va_S (Asb G.2.2.2.2.2) s.heap H locs) (hcl : cells ≤ room_1.cells) (hsl : slots ≤ room_1.slots) (kk : ∀ (M' : Mm) (H1 : Heap) (locs1 : List Loc), Inv M' → Wo G M' H1 → va_S (Asb G.2.2.2.2.2) s.heap H1 locs1 → W p G.1 e room_1 s m #[Value.ref b] below meth c H1 locs1 cells slots Z (F0 m 703 ls [])) : W p G.1 e room_1 s m #[Value.ref b] below meth c H locs cells slots Z (F0 m 312 ls []) := by
  obtain ⟨hx, hb, hr, hml, hown, hts, hX, hbl, hlocks, hgv⟩ := C0
  have hbA : ¬ Asb G.2.2.2.2.2 b := by unfold Asb; rw [hbs]; exact Nat.not_le.mpr hbl
  have hf : CallFix p m c cL_law 4 s #[Value.ref b] lw_tbl RL := ⟨hx, hb, hml, hown, hts⟩
  have i1 : vp_in (nI i + 1) L := by rw [show nI i + 1 = nI (i + 1) from nI_add i 1]; exact vp_in_nI (by omega) (by omega)
  refine lv_aload_n hx hb dL_law_312 rfl (lv_at hl 1 rfl) ?_
  refine lv_aload_n hx hb dL_law_313 rfl (lv_at hl 0 rfl) ?_
  refine lv_iload_n hx hb dL_law_314 rfl (lv_at hl 3 rfl) ?_
  refine lv_iconst (v := 1) hx hb dL_law_315 (by decide) ?_
  refine lv_iadd hx hb dL_law_316 ?_
  refine va_sld hx hb hX hbl hbA hS i1 dL_law_317 ?_
  refine lcall (a := 0) (ci := 6) (n := 1) (ks := [3, 18, 33, 48, 52, 0]) (T := TX6) (N := 6) (bytes := cX6_frame) (maxL := 3) (ret := some .int) (av := [.int (xs (nI i + 1).toNatClampNeg)]) (rest := []) hf hC hW hS hl.1 dL_law_318 (nX6_frame G _ _ _ (step_frame hI (xs (nI i + 1).toNatClampNeg))) (goodL (mU (by decide +kernel) rfl) (mU (by decide +kernel) rfl) (mU (by decide +kernel) rfl) (mU (by decide +kernel) rfl) (mU (by decide +kernel) rfl)) rfl rfl rfl rfl (by decide +kernel) ⟨Nat.le_of_ble_eq_true rfl, Nat.le_of_ble_eq_true rfl⟩ rfl (Nat.le_of_ble_eq_true rfl) hcl hsl (fun r1 M1 H1 locs1 hq1 hW1 hS1 => ?_)
  obtain ⟨⟨a0, rfl⟩, hk⟩ := hq1
  refine W.eq (g2 := F0 m 321 ls [.int a0]) rfl ?_
  have hS := hS1
  refine lv_aload_n hx hb dL_law_321 rfl (lv_at hl 2 rfl) ?_
  refine lv_aload_n hx hb dL_law_322 rfl (lv_at hl 0 rfl) ?_
  refine lv_iload_n hx hb dL_law_323 rfl (lv_at hl 3 rfl) ?_
  refine lv_iconst (v := 1) hx hb dL_law_324 (by decide) ?_
  refine lv_iadd hx hb dL_law_325 ?_
  refine va_sld hx hb hX hbl hbA hS i1 dL_law_326 ?_
  refine lcall (a := 51) (ci := 7) (n := 1) (ks := [54, 55, 56, 1, 57, 58]) (T := TX7) (N := 6) (bytes := cX7_frame) (maxL := 3) (ret := some .int) (av := [.int (xs (nI i + 1).toNatClampNeg)]) (rest := [.int a0]) hf hC hW1 hS1 hl.1 dL_law_327 (nX7_frame G _ _ _ hk) (goodL (mU (by decide +kernel) rfl) (mU (by decide +kernel) rfl) (mU (by decide +kernel) rfl) (mU (by decide +kernel) rfl) (mU (by decide +kernel) rfl)) rfl rfl rfl rfl (by decide +kernel) ⟨Nat.le_of_ble_eq_true rfl, Nat.le_of_ble_eq_true rfl⟩ rfl (Nat.le_of_ble_eq_true rfl) hcl hsl (fun r2 M2 H2 locs2 hq2 hW2 hS2 => ?_)
  obtain ⟨rfl, -, hI2⟩ := hq2
  refine W.eq (g2 := F0 m 330 ls [.int a0, .int a0]) rfl ?_
  exact lv_icmp_eq (tgt := 703) hx hb dL_law_330 (by decide) (fun _ => kk M2 H2 locs2 hI2 hW2 hS2) (fun h => absurd rfl h)
set_option maxRecDepth 100000 in
theorem la_drift {G : Gt} {p : Program} {e : Env} {s : State} {m : MethodId} {below : List Frame} {meth : Method} {c : Code} {b L : Nat} {xs : Nat → Int32} {H : Heap} {locs : List Loc} {cells slots : Nat} {Z : State → Prop} {ls : Array Slot} {M : Mm} {i : Nat} (C0 : lw_At p s m meth c b L xs) (hC : Cx G s) (hbs : G.2.2.2.2.2 = s.heap.size) (hL : L ≤ 2560) (hi : i + 5 ≤ L) (hl : lv_has ls 4 [(0, .ref b), (1, .ref (G.2.2.1 0)), (2, .ref (G.2.2.1 51)), (3, .int (nI i))]) (hI : Inv M) (hW : Wo G M H) (hS : va_S (Asb G.2.2.2.2.2) s.heap H locs) (hcl : cells ≤ room_1.cells) (hsl : slots ≤ room_1.slots) (kk : ∀ (M' : Mm) (H1 : Heap) (locs1 : List Loc), Inv M' → Wo G M' H1 → va_S (Asb G.2.2.2.2.2) s.heap H1 locs1 → W p G.1 e room_1 s m #[Value.ref b] below meth c H1 locs1 cells slots Z (F0 m 703 ls [])) : W p G.1 e room_1 s m #[Value.ref b] below meth c H locs cells slots Z (F0 m 335 ls []) := by
  obtain ⟨hx, hb, hr, hml, hown, hts, hX, hbl, hlocks, hgv⟩ := C0
  have hbA : ¬ Asb G.2.2.2.2.2 b := by unfold Asb; rw [hbs]; exact Nat.not_le.mpr hbl
  have hf : CallFix p m c cL_law 4 s #[Value.ref b] lw_tbl RL := ⟨hx, hb, hml, hown, hts⟩
  have i1 : vp_in (nI i + 1) L := by rw [show nI i + 1 = nI (i + 1) from nI_add i 1]; exact vp_in_nI (by omega) (by omega)
  have i2 : vp_in (nI i + 2) L := by rw [show nI i + 2 = nI (i + 2) from nI_add i 2]; exact vp_in_nI (by omega) (by omega)
  refine lv_aload_n hx hb dL_law_335 rfl (lv_at hl 1 rfl) ?_
  refine lv_aload_n hx hb dL_law_336 rfl (lv_at hl 0 rfl) ?_
  refine lv_iload_n hx hb dL_law_337 rfl (lv_at hl 3 rfl) ?_
  refine lv_iconst (v := 1) hx hb dL_law_338 (by decide) ?_
  refine lv_iadd hx hb dL_law_339 ?_
  refine va_sld hx hb hX hbl hbA hS i1 dL_law_340 ?_
  refine lv_aload_n hx hb dL_law_341 rfl (lv_at hl 0 rfl) ?_
  refine lv_iload_n hx hb dL_law_342 rfl (lv_at hl 3 rfl) ?_
  refine lv_iconst (v := 2) hx hb dL_law_343 (by decide) ?_
  refine lv_iadd hx hb dL_law_344 ?_
  refine va_sld hx hb hX hbl hbA hS i2 dL_law_345 ?_
  refine lcall (a := 0) (ci := 6) (n := 2) (ks := [3, 18, 33, 48, 52, 0]) (T := TX6) (N := 6) (bytes := cX6_drift) (maxL := 4) (ret := some .int) (av := [.int (xs (nI i + 1).toNatClampNeg), .int (xs (nI i + 2).toNatClampNeg)]) (rest := []) hf hC hW hS hl.1 dL_law_346 (nX6_drift G _ _ _ (step_drift hI (xs (nI i + 1).toNatClampNeg) (xs (nI i + 2).toNatClampNeg))) (goodL (mU (by decide +kernel) rfl) (mU (by decide +kernel) rfl) (mU (by decide +kernel) rfl) (mU (by decide +kernel) rfl) (mU (by decide +kernel) rfl)) rfl rfl rfl rfl (by decide +kernel) ⟨Nat.le_of_ble_eq_true rfl, Nat.le_of_ble_eq_true rfl⟩ rfl (Nat.le_of_ble_eq_true rfl) hcl hsl (fun r1 M1 H1 locs1 hq1 hW1 hS1 => ?_)
  obtain ⟨⟨a0, rfl⟩, hk⟩ := hq1
  refine W.eq (g2 := F0 m 349 ls [.int a0]) rfl ?_
  have hS := hS1
  refine lv_aload_n hx hb dL_law_349 rfl (lv_at hl 2 rfl) ?_
  refine lv_aload_n hx hb dL_law_350 rfl (lv_at hl 0 rfl) ?_
  refine lv_iload_n hx hb dL_law_351 rfl (lv_at hl 3 rfl) ?_
  refine lv_iconst (v := 1) hx hb dL_law_352 (by decide) ?_
  refine lv_iadd hx hb dL_law_353 ?_
  refine va_sld hx hb hX hbl hbA hS i1 dL_law_354 ?_
  refine lv_aload_n hx hb dL_law_355 rfl (lv_at hl 0 rfl) ?_
  refine lv_iload_n hx hb dL_law_356 rfl (lv_at hl 3 rfl) ?_
  refine lv_iconst (v := 2) hx hb dL_law_357 (by decide) ?_
  refine lv_iadd hx hb dL_law_358 ?_
  refine va_sld hx hb hX hbl hbA hS i2 dL_law_359 ?_
  refine lcall (a := 51) (ci := 7) (n := 2) (ks := [54, 55, 56, 1, 57, 58]) (T := TX7) (N := 6) (bytes := cX7_drift) (maxL := 6) (ret := some .int) (av := [.int (xs (nI i + 1).toNatClampNeg), .int (xs (nI i + 2).toNatClampNeg)]) (rest := [.int a0]) hf hC hW1 hS1 hl.1 dL_law_360 (nX7_drift G _ _ _ hk) (goodL (mU (by decide +kernel) rfl) (mU (by decide +kernel) rfl) (mU (by decide +kernel) rfl) (mU (by decide +kernel) rfl) (mU (by decide +kernel) rfl)) rfl rfl rfl rfl (by decide +kernel) ⟨Nat.le_of_ble_eq_true rfl, Nat.le_of_ble_eq_true rfl⟩ rfl (Nat.le_of_ble_eq_true rfl) hcl hsl (fun r2 M2 H2 locs2 hq2 hW2 hS2 => ?_)
  obtain ⟨rfl, -, hI2⟩ := hq2
  refine W.eq (g2 := F0 m 363 ls [.int a0, .int a0]) rfl ?_
  exact lv_icmp_eq (tgt := 703) hx hb dL_law_363 (by decide) (fun _ => kk M2 H2 locs2 hI2 hW2 hS2) (fun h => absurd rfl h)
set_option maxRecDepth 100000 in
theorem la_told {G : Gt} {p : Program} {e : Env} {s : State} {m : MethodId} {below : List Frame} {meth : Method} {c : Code} {b L : Nat} {xs : Nat → Int32} {H : Heap} {locs : List Loc} {cells slots : Nat} {Z : State → Prop} {ls : Array Slot} {M : Mm} {i : Nat} (C0 : lw_At p s m meth c b L xs) (hC : Cx G s) (hbs : G.2.2.2.2.2 = s.heap.size) (hL : L ≤ 2560) (hi : i + 5 ≤ L) (hl : lv_has ls 4 [(0, .ref b), (1, .ref (G.2.2.1 0)), (2, .ref (G.2.2.1 51)), (3, .int (nI i))]) (hI : Inv M) (hW : Wo G M H) (hS : va_S (Asb G.2.2.2.2.2) s.heap H locs) (hcl : cells ≤ room_1.cells) (hsl : slots ≤ room_1.slots) (kk : ∀ (M' : Mm) (H1 : Heap) (locs1 : List Loc), Inv M' → Wo G M' H1 → va_S (Asb G.2.2.2.2.2) s.heap H1 locs1 → W p G.1 e room_1 s m #[Value.ref b] below meth c H1 locs1 cells slots Z (F0 m 703 ls [])) : W p G.1 e room_1 s m #[Value.ref b] below meth c H locs cells slots Z (F0 m 368 ls []) := by
  obtain ⟨hx, hb, hr, hml, hown, hts, hX, hbl, hlocks, hgv⟩ := C0
  have hbA : ¬ Asb G.2.2.2.2.2 b := by unfold Asb; rw [hbs]; exact Nat.not_le.mpr hbl
  have hf : CallFix p m c cL_law 4 s #[Value.ref b] lw_tbl RL := ⟨hx, hb, hml, hown, hts⟩
  have i1 : vp_in (nI i + 1) L := by rw [show nI i + 1 = nI (i + 1) from nI_add i 1]; exact vp_in_nI (by omega) (by omega)
  refine lv_aload_n hx hb dL_law_368 rfl (lv_at hl 1 rfl) ?_
  refine lv_aload_n hx hb dL_law_369 rfl (lv_at hl 0 rfl) ?_
  refine lv_iload_n hx hb dL_law_370 rfl (lv_at hl 3 rfl) ?_
  refine lv_iconst (v := 1) hx hb dL_law_371 (by decide) ?_
  refine lv_iadd hx hb dL_law_372 ?_
  refine va_sld hx hb hX hbl hbA hS i1 dL_law_373 ?_
  refine lcall (a := 0) (ci := 6) (n := 1) (ks := [3, 18, 33, 48, 52, 0]) (T := TX6) (N := 6) (bytes := cX6_told) (maxL := 2) (ret := some .int) (av := [.int (xs (nI i + 1).toNatClampNeg)]) (rest := []) hf hC hW hS hl.1 dL_law_374 (nX6_told G _ _ _ (step_told hI (xs (nI i + 1).toNatClampNeg))) (goodL (mU (by decide +kernel) rfl) (mU (by decide +kernel) rfl) (mU (by decide +kernel) rfl) (mU (by decide +kernel) rfl) (mU (by decide +kernel) rfl)) rfl rfl rfl rfl (by decide +kernel) ⟨Nat.le_of_ble_eq_true rfl, Nat.le_of_ble_eq_true rfl⟩ rfl (Nat.le_of_ble_eq_true rfl) hcl hsl (fun r1 M1 H1 locs1 hq1 hW1 hS1 => ?_)
  obtain ⟨⟨a0, rfl⟩, hk⟩ := hq1
  refine W.eq (g2 := F0 m 377 ls [.int a0]) rfl ?_
  have hS := hS1
  refine lv_aload_n hx hb dL_law_377 rfl (lv_at hl 2 rfl) ?_
  refine lv_aload_n hx hb dL_law_378 rfl (lv_at hl 0 rfl) ?_
  refine lv_iload_n hx hb dL_law_379 rfl (lv_at hl 3 rfl) ?_
  refine lv_iconst (v := 1) hx hb dL_law_380 (by decide) ?_
  refine lv_iadd hx hb dL_law_381 ?_
  refine va_sld hx hb hX hbl hbA hS i1 dL_law_382 ?_
  refine lcall (a := 51) (ci := 7) (n := 1) (ks := [54, 55, 56, 1, 57, 58]) (T := TX7) (N := 6) (bytes := cX7_told) (maxL := 2) (ret := some .int) (av := [.int (xs (nI i + 1).toNatClampNeg)]) (rest := [.int a0]) hf hC hW1 hS1 hl.1 dL_law_383 (nX7_told G _ _ _ hk) (goodL (mU (by decide +kernel) rfl) (mU (by decide +kernel) rfl) (mU (by decide +kernel) rfl) (mU (by decide +kernel) rfl) (mU (by decide +kernel) rfl)) rfl rfl rfl rfl (by decide +kernel) ⟨Nat.le_of_ble_eq_true rfl, Nat.le_of_ble_eq_true rfl⟩ rfl (Nat.le_of_ble_eq_true rfl) hcl hsl (fun r2 M2 H2 locs2 hq2 hW2 hS2 => ?_)
  obtain ⟨rfl, -, hI2⟩ := hq2
  refine W.eq (g2 := F0 m 386 ls [.int a0, .int a0]) rfl ?_
  exact lv_icmp_eq (tgt := 703) hx hb dL_law_386 (by decide) (fun _ => kk M2 H2 locs2 hI2 hW2 hS2) (fun h => absurd rfl h)
set_option maxRecDepth 100000 in
theorem la_cell {G : Gt} {p : Program} {e : Env} {s : State} {m : MethodId} {below : List Frame} {meth : Method} {c : Code} {b L : Nat} {xs : Nat → Int32} {H : Heap} {locs : List Loc} {cells slots : Nat} {Z : State → Prop} {ls : Array Slot} {M : Mm} {i : Nat} (C0 : lw_At p s m meth c b L xs) (hC : Cx G s) (hbs : G.2.2.2.2.2 = s.heap.size) (hL : L ≤ 2560) (hi : i + 5 ≤ L) (hl : lv_has ls 4 [(0, .ref b), (1, .ref (G.2.2.1 0)), (2, .ref (G.2.2.1 51)), (3, .int (nI i))]) (hI : Inv M) (hW : Wo G M H) (hS : va_S (Asb G.2.2.2.2.2) s.heap H locs) (hcl : cells ≤ room_1.cells) (hsl : slots ≤ room_1.slots) (kk : ∀ (M' : Mm) (H1 : Heap) (locs1 : List Loc), Inv M' → Wo G M' H1 → va_S (Asb G.2.2.2.2.2) s.heap H1 locs1 → W p G.1 e room_1 s m #[Value.ref b] below meth c H1 locs1 cells slots Z (F0 m 703 ls [])) : W p G.1 e room_1 s m #[Value.ref b] below meth c H locs cells slots Z (F0 m 391 ls []) := by
  obtain ⟨hx, hb, hr, hml, hown, hts, hX, hbl, hlocks, hgv⟩ := C0
  have hbA : ¬ Asb G.2.2.2.2.2 b := by unfold Asb; rw [hbs]; exact Nat.not_le.mpr hbl
  have hf : CallFix p m c cL_law 4 s #[Value.ref b] lw_tbl RL := ⟨hx, hb, hml, hown, hts⟩
  have i1 : vp_in (nI i + 1) L := by rw [show nI i + 1 = nI (i + 1) from nI_add i 1]; exact vp_in_nI (by omega) (by omega)
  have i2 : vp_in (nI i + 2) L := by rw [show nI i + 2 = nI (i + 2) from nI_add i 2]; exact vp_in_nI (by omega) (by omega)
  have i3 : vp_in (nI i + 3) L := by rw [show nI i + 3 = nI (i + 3) from nI_add i 3]; exact vp_in_nI (by omega) (by omega)
  refine lv_aload_n hx hb dL_law_391 rfl (lv_at hl 1 rfl) ?_
  refine lv_aload_n hx hb dL_law_392 rfl (lv_at hl 0 rfl) ?_
  refine lv_iload_n hx hb dL_law_393 rfl (lv_at hl 3 rfl) ?_
  refine lv_iconst (v := 1) hx hb dL_law_394 (by decide) ?_
  refine lv_iadd hx hb dL_law_395 ?_
  refine va_sld hx hb hX hbl hbA hS i1 dL_law_396 ?_
  refine lv_aload_n hx hb dL_law_397 rfl (lv_at hl 0 rfl) ?_
  refine lv_iload_n hx hb dL_law_398 rfl (lv_at hl 3 rfl) ?_
  refine lv_iconst (v := 2) hx hb dL_law_399 (by decide) ?_
  refine lv_iadd hx hb dL_law_400 ?_
  refine va_sld hx hb hX hbl hbA hS i2 dL_law_401 ?_
  refine lv_aload_n hx hb dL_law_402 rfl (lv_at hl 0 rfl) ?_
  refine lv_iload_n hx hb dL_law_403 rfl (lv_at hl 3 rfl) ?_
  refine lv_iconst (v := 3) hx hb dL_law_404 (by decide) ?_
  refine lv_iadd hx hb dL_law_405 ?_
  refine va_sld hx hb hX hbl hbA hS i3 dL_law_406 ?_
  refine lcall (a := 0) (ci := 6) (n := 3) (ks := [3, 18, 33, 48, 52, 0]) (T := TX6) (N := 6) (bytes := cX6_cell) (maxL := 5) (ret := some .int) (av := [.int (xs (nI i + 1).toNatClampNeg), .int (xs (nI i + 2).toNatClampNeg), .int (xs (nI i + 3).toNatClampNeg)]) (rest := []) hf hC hW hS hl.1 dL_law_407 (nX6_cell G _ _ _ (step_cell hI (xs (nI i + 1).toNatClampNeg) (xs (nI i + 2).toNatClampNeg) (xs (nI i + 3).toNatClampNeg))) (goodL (mU (by decide +kernel) rfl) (mU (by decide +kernel) rfl) (mU (by decide +kernel) rfl) (mU (by decide +kernel) rfl) (mU (by decide +kernel) rfl)) rfl rfl rfl rfl (by decide +kernel) ⟨Nat.le_of_ble_eq_true rfl, Nat.le_of_ble_eq_true rfl⟩ rfl (Nat.le_of_ble_eq_true rfl) hcl hsl (fun r1 M1 H1 locs1 hq1 hW1 hS1 => ?_)
  obtain ⟨⟨a0, rfl⟩, hk⟩ := hq1
  refine W.eq (g2 := F0 m 410 ls [.int a0]) rfl ?_
  have hS := hS1
  refine lv_aload_n hx hb dL_law_410 rfl (lv_at hl 2 rfl) ?_
  refine lv_aload_n hx hb dL_law_411 rfl (lv_at hl 0 rfl) ?_
  refine lv_iload_n hx hb dL_law_412 rfl (lv_at hl 3 rfl) ?_
  refine lv_iconst (v := 1) hx hb dL_law_413 (by decide) ?_
  refine lv_iadd hx hb dL_law_414 ?_
  refine va_sld hx hb hX hbl hbA hS i1 dL_law_415 ?_
  refine lv_aload_n hx hb dL_law_416 rfl (lv_at hl 0 rfl) ?_
  refine lv_iload_n hx hb dL_law_417 rfl (lv_at hl 3 rfl) ?_
  refine lv_iconst (v := 2) hx hb dL_law_418 (by decide) ?_
  refine lv_iadd hx hb dL_law_419 ?_
  refine va_sld hx hb hX hbl hbA hS i2 dL_law_420 ?_
  refine lv_aload_n hx hb dL_law_421 rfl (lv_at hl 0 rfl) ?_
  refine lv_iload_n hx hb dL_law_422 rfl (lv_at hl 3 rfl) ?_
  refine lv_iconst (v := 3) hx hb dL_law_423 (by decide) ?_
  refine lv_iadd hx hb dL_law_424 ?_
  refine va_sld hx hb hX hbl hbA hS i3 dL_law_425 ?_
  refine lcall (a := 51) (ci := 7) (n := 3) (ks := [54, 55, 56, 1, 57, 58]) (T := TX7) (N := 6) (bytes := cX7_cell) (maxL := 4) (ret := some .int) (av := [.int (xs (nI i + 1).toNatClampNeg), .int (xs (nI i + 2).toNatClampNeg), .int (xs (nI i + 3).toNatClampNeg)]) (rest := [.int a0]) hf hC hW1 hS1 hl.1 dL_law_426 (nX7_cell G _ _ _ hk) (goodL (mU (by decide +kernel) rfl) (mU (by decide +kernel) rfl) (mU (by decide +kernel) rfl) (mU (by decide +kernel) rfl) (mU (by decide +kernel) rfl)) rfl rfl rfl rfl (by decide +kernel) ⟨Nat.le_of_ble_eq_true rfl, Nat.le_of_ble_eq_true rfl⟩ rfl (Nat.le_of_ble_eq_true rfl) hcl hsl (fun r2 M2 H2 locs2 hq2 hW2 hS2 => ?_)
  obtain ⟨rfl, -, hI2⟩ := hq2
  refine W.eq (g2 := F0 m 429 ls [.int a0, .int a0]) rfl ?_
  exact lv_icmp_eq (tgt := 703) hx hb dL_law_429 (by decide) (fun _ => kk M2 H2 locs2 hI2 hW2 hS2) (fun h => absurd rfl h)
set_option maxRecDepth 100000 in
theorem la_contact {G : Gt} {p : Program} {e : Env} {s : State} {m : MethodId} {below : List Frame} {meth : Method} {c : Code} {b L : Nat} {xs : Nat → Int32} {H : Heap} {locs : List Loc} {cells slots : Nat} {Z : State → Prop} {ls : Array Slot} {M : Mm} {i : Nat} (C0 : lw_At p s m meth c b L xs) (hC : Cx G s) (hbs : G.2.2.2.2.2 = s.heap.size) (hL : L ≤ 2560) (hi : i + 5 ≤ L) (hl : lv_has ls 4 [(0, .ref b), (1, .ref (G.2.2.1 0)), (2, .ref (G.2.2.1 51)), (3, .int (nI i))]) (hI : Inv M) (hW : Wo G M H) (hS : va_S (Asb G.2.2.2.2.2) s.heap H locs) (hcl : cells ≤ room_1.cells) (hsl : slots ≤ room_1.slots) (kk : ∀ (M' : Mm) (H1 : Heap) (locs1 : List Loc), Inv M' → Wo G M' H1 → va_S (Asb G.2.2.2.2.2) s.heap H1 locs1 → W p G.1 e room_1 s m #[Value.ref b] below meth c H1 locs1 cells slots Z (F0 m 703 ls [])) : W p G.1 e room_1 s m #[Value.ref b] below meth c H locs cells slots Z (F0 m 434 ls []) := by
  obtain ⟨hx, hb, hr, hml, hown, hts, hX, hbl, hlocks, hgv⟩ := C0
  have hbA : ¬ Asb G.2.2.2.2.2 b := by unfold Asb; rw [hbs]; exact Nat.not_le.mpr hbl
  have hf : CallFix p m c cL_law 4 s #[Value.ref b] lw_tbl RL := ⟨hx, hb, hml, hown, hts⟩
  have i1 : vp_in (nI i + 1) L := by rw [show nI i + 1 = nI (i + 1) from nI_add i 1]; exact vp_in_nI (by omega) (by omega)
  have i2 : vp_in (nI i + 2) L := by rw [show nI i + 2 = nI (i + 2) from nI_add i 2]; exact vp_in_nI (by omega) (by omega)
  refine lv_aload_n hx hb dL_law_434 rfl (lv_at hl 1 rfl) ?_
  refine lv_aload_n hx hb dL_law_435 rfl (lv_at hl 0 rfl) ?_
  refine lv_iload_n hx hb dL_law_436 rfl (lv_at hl 3 rfl) ?_
  refine lv_iconst (v := 1) hx hb dL_law_437 (by decide) ?_
  refine lv_iadd hx hb dL_law_438 ?_
  refine va_sld hx hb hX hbl hbA hS i1 dL_law_439 ?_
  refine lv_aload_n hx hb dL_law_440 rfl (lv_at hl 0 rfl) ?_
  refine lv_iload_n hx hb dL_law_441 rfl (lv_at hl 3 rfl) ?_
  refine lv_iconst (v := 2) hx hb dL_law_442 (by decide) ?_
  refine lv_iadd hx hb dL_law_443 ?_
  refine va_sld hx hb hX hbl hbA hS i2 dL_law_444 ?_
  refine lcall (a := 0) (ci := 6) (n := 2) (ks := [3, 18, 33, 48, 52, 0]) (T := TX6) (N := 6) (bytes := cX6_contact) (maxL := 4) (ret := some .int) (av := [.int (xs (nI i + 1).toNatClampNeg), .int (xs (nI i + 2).toNatClampNeg)]) (rest := []) hf hC hW hS hl.1 dL_law_445 (nX6_contact G _ _ _ (step_contact hI (xs (nI i + 1).toNatClampNeg) (xs (nI i + 2).toNatClampNeg))) (goodL (mU (by decide +kernel) rfl) (mU (by decide +kernel) rfl) (mU (by decide +kernel) rfl) (mU (by decide +kernel) rfl) (mU (by decide +kernel) rfl)) rfl rfl rfl rfl (by decide +kernel) ⟨Nat.le_of_ble_eq_true rfl, Nat.le_of_ble_eq_true rfl⟩ rfl (Nat.le_of_ble_eq_true rfl) hcl hsl (fun r1 M1 H1 locs1 hq1 hW1 hS1 => ?_)
  obtain ⟨⟨a0, rfl⟩, hk⟩ := hq1
  refine W.eq (g2 := F0 m 448 ls [.int a0]) rfl ?_
  have hS := hS1
  refine lv_aload_n hx hb dL_law_448 rfl (lv_at hl 2 rfl) ?_
  refine lv_aload_n hx hb dL_law_449 rfl (lv_at hl 0 rfl) ?_
  refine lv_iload_n hx hb dL_law_450 rfl (lv_at hl 3 rfl) ?_
  refine lv_iconst (v := 1) hx hb dL_law_451 (by decide) ?_
  refine lv_iadd hx hb dL_law_452 ?_
  refine va_sld hx hb hX hbl hbA hS i1 dL_law_453 ?_
  refine lv_aload_n hx hb dL_law_454 rfl (lv_at hl 0 rfl) ?_
  refine lv_iload_n hx hb dL_law_455 rfl (lv_at hl 3 rfl) ?_
  refine lv_iconst (v := 2) hx hb dL_law_456 (by decide) ?_
  refine lv_iadd hx hb dL_law_457 ?_
  refine va_sld hx hb hX hbl hbA hS i2 dL_law_458 ?_
  refine lcall (a := 51) (ci := 7) (n := 2) (ks := [54, 55, 56, 1, 57, 58]) (T := TX7) (N := 6) (bytes := cX7_contact) (maxL := 3) (ret := some .int) (av := [.int (xs (nI i + 1).toNatClampNeg), .int (xs (nI i + 2).toNatClampNeg)]) (rest := [.int a0]) hf hC hW1 hS1 hl.1 dL_law_459 (nX7_contact G _ _ _ hk) (goodL (mU (by decide +kernel) rfl) (mU (by decide +kernel) rfl) (mU (by decide +kernel) rfl) (mU (by decide +kernel) rfl) (mU (by decide +kernel) rfl)) rfl rfl rfl rfl (by decide +kernel) ⟨Nat.le_of_ble_eq_true rfl, Nat.le_of_ble_eq_true rfl⟩ rfl (Nat.le_of_ble_eq_true rfl) hcl hsl (fun r2 M2 H2 locs2 hq2 hW2 hS2 => ?_)
  obtain ⟨rfl, -, hI2⟩ := hq2
  refine W.eq (g2 := F0 m 462 ls [.int a0, .int a0]) rfl ?_
  exact lv_icmp_eq (tgt := 703) hx hb dL_law_462 (by decide) (fun _ => kk M2 H2 locs2 hI2 hW2 hS2) (fun h => absurd rfl h)
set_option maxRecDepth 100000 in
theorem la_track {G : Gt} {p : Program} {e : Env} {s : State} {m : MethodId} {below : List Frame} {meth : Method} {c : Code} {b L : Nat} {xs : Nat → Int32} {H : Heap} {locs : List Loc} {cells slots : Nat} {Z : State → Prop} {ls : Array Slot} {M : Mm} {i : Nat} (C0 : lw_At p s m meth c b L xs) (hC : Cx G s) (hbs : G.2.2.2.2.2 = s.heap.size) (hL : L ≤ 2560) (hi : i + 5 ≤ L) (hl : lv_has ls 4 [(0, .ref b), (1, .ref (G.2.2.1 0)), (2, .ref (G.2.2.1 51)), (3, .int (nI i))]) (hI : Inv M) (hW : Wo G M H) (hS : va_S (Asb G.2.2.2.2.2) s.heap H locs) (hcl : cells ≤ room_1.cells) (hsl : slots ≤ room_1.slots) (kk : ∀ (M' : Mm) (H1 : Heap) (locs1 : List Loc), Inv M' → Wo G M' H1 → va_S (Asb G.2.2.2.2.2) s.heap H1 locs1 → W p G.1 e room_1 s m #[Value.ref b] below meth c H1 locs1 cells slots Z (F0 m 703 ls [])) : W p G.1 e room_1 s m #[Value.ref b] below meth c H locs cells slots Z (F0 m 467 ls []) := by
  obtain ⟨hx, hb, hr, hml, hown, hts, hX, hbl, hlocks, hgv⟩ := C0
  have hbA : ¬ Asb G.2.2.2.2.2 b := by unfold Asb; rw [hbs]; exact Nat.not_le.mpr hbl
  have hf : CallFix p m c cL_law 4 s #[Value.ref b] lw_tbl RL := ⟨hx, hb, hml, hown, hts⟩
  have i1 : vp_in (nI i + 1) L := by rw [show nI i + 1 = nI (i + 1) from nI_add i 1]; exact vp_in_nI (by omega) (by omega)
  have i2 : vp_in (nI i + 2) L := by rw [show nI i + 2 = nI (i + 2) from nI_add i 2]; exact vp_in_nI (by omega) (by omega)
  refine lv_aload_n hx hb dL_law_467 rfl (lv_at hl 1 rfl) ?_
  refine lv_aload_n hx hb dL_law_468 rfl (lv_at hl 0 rfl) ?_
  refine lv_iload_n hx hb dL_law_469 rfl (lv_at hl 3 rfl) ?_
  refine lv_iconst (v := 1) hx hb dL_law_470 (by decide) ?_
  refine lv_iadd hx hb dL_law_471 ?_
  refine va_sld hx hb hX hbl hbA hS i1 dL_law_472 ?_
  refine lv_aload_n hx hb dL_law_473 rfl (lv_at hl 0 rfl) ?_
  refine lv_iload_n hx hb dL_law_474 rfl (lv_at hl 3 rfl) ?_
  refine lv_iconst (v := 2) hx hb dL_law_475 (by decide) ?_
  refine lv_iadd hx hb dL_law_476 ?_
  refine va_sld hx hb hX hbl hbA hS i2 dL_law_477 ?_
  refine lcall (a := 0) (ci := 6) (n := 2) (ks := [3, 18, 33, 48, 52, 0]) (T := TX6) (N := 6) (bytes := cX6_track) (maxL := 3) (ret := some .int) (av := [.int (xs (nI i + 1).toNatClampNeg), .int (xs (nI i + 2).toNatClampNeg)]) (rest := []) hf hC hW hS hl.1 dL_law_478 (nX6_track G _ _ _ (step_track hI (xs (nI i + 1).toNatClampNeg) (xs (nI i + 2).toNatClampNeg))) (goodL (mU (by decide +kernel) rfl) (mU (by decide +kernel) rfl) (mU (by decide +kernel) rfl) (mU (by decide +kernel) rfl) (mU (by decide +kernel) rfl)) rfl rfl rfl rfl (by decide +kernel) ⟨Nat.le_of_ble_eq_true rfl, Nat.le_of_ble_eq_true rfl⟩ rfl (Nat.le_of_ble_eq_true rfl) hcl hsl (fun r1 M1 H1 locs1 hq1 hW1 hS1 => ?_)
  obtain ⟨⟨a0, rfl⟩, hk⟩ := hq1
  refine W.eq (g2 := F0 m 481 ls [.int a0]) rfl ?_
  have hS := hS1
  refine lv_aload_n hx hb dL_law_481 rfl (lv_at hl 2 rfl) ?_
  refine lv_aload_n hx hb dL_law_482 rfl (lv_at hl 0 rfl) ?_
  refine lv_iload_n hx hb dL_law_483 rfl (lv_at hl 3 rfl) ?_
  refine lv_iconst (v := 1) hx hb dL_law_484 (by decide) ?_
  refine lv_iadd hx hb dL_law_485 ?_
  refine va_sld hx hb hX hbl hbA hS i1 dL_law_486 ?_
  refine lv_aload_n hx hb dL_law_487 rfl (lv_at hl 0 rfl) ?_
  refine lv_iload_n hx hb dL_law_488 rfl (lv_at hl 3 rfl) ?_
  refine lv_iconst (v := 2) hx hb dL_law_489 (by decide) ?_
  refine lv_iadd hx hb dL_law_490 ?_
  refine va_sld hx hb hX hbl hbA hS i2 dL_law_491 ?_
  refine lcall (a := 51) (ci := 7) (n := 2) (ks := [54, 55, 56, 1, 57, 58]) (T := TX7) (N := 6) (bytes := cX7_track) (maxL := 3) (ret := some .int) (av := [.int (xs (nI i + 1).toNatClampNeg), .int (xs (nI i + 2).toNatClampNeg)]) (rest := [.int a0]) hf hC hW1 hS1 hl.1 dL_law_492 (nX7_track G _ _ _ hk) (goodL (mU (by decide +kernel) rfl) (mU (by decide +kernel) rfl) (mU (by decide +kernel) rfl) (mU (by decide +kernel) rfl) (mU (by decide +kernel) rfl)) rfl rfl rfl rfl (by decide +kernel) ⟨Nat.le_of_ble_eq_true rfl, Nat.le_of_ble_eq_true rfl⟩ rfl (Nat.le_of_ble_eq_true rfl) hcl hsl (fun r2 M2 H2 locs2 hq2 hW2 hS2 => ?_)
  obtain ⟨rfl, -, hI2⟩ := hq2
  refine W.eq (g2 := F0 m 495 ls [.int a0, .int a0]) rfl ?_
  exact lv_icmp_eq (tgt := 703) hx hb dL_law_495 (by decide) (fun _ => kk M2 H2 locs2 hI2 hW2 hS2) (fun h => absurd rfl h)
set_option maxRecDepth 100000 in
theorem la_named {G : Gt} {p : Program} {e : Env} {s : State} {m : MethodId} {below : List Frame} {meth : Method} {c : Code} {b L : Nat} {xs : Nat → Int32} {H : Heap} {locs : List Loc} {cells slots : Nat} {Z : State → Prop} {ls : Array Slot} {M : Mm} {i : Nat} (C0 : lw_At p s m meth c b L xs) (hC : Cx G s) (hbs : G.2.2.2.2.2 = s.heap.size) (hL : L ≤ 2560) (hi : i + 5 ≤ L) (hl : lv_has ls 4 [(0, .ref b), (1, .ref (G.2.2.1 0)), (2, .ref (G.2.2.1 51)), (3, .int (nI i))]) (hI : Inv M) (hW : Wo G M H) (hS : va_S (Asb G.2.2.2.2.2) s.heap H locs) (hcl : cells ≤ room_1.cells) (hsl : slots ≤ room_1.slots) (kk : ∀ (M' : Mm) (H1 : Heap) (locs1 : List Loc), Inv M' → Wo G M' H1 → va_S (Asb G.2.2.2.2.2) s.heap H1 locs1 → W p G.1 e room_1 s m #[Value.ref b] below meth c H1 locs1 cells slots Z (F0 m 703 ls [])) : W p G.1 e room_1 s m #[Value.ref b] below meth c H locs cells slots Z (F0 m 500 ls []) := by
  obtain ⟨hx, hb, hr, hml, hown, hts, hX, hbl, hlocks, hgv⟩ := C0
  have hbA : ¬ Asb G.2.2.2.2.2 b := by unfold Asb; rw [hbs]; exact Nat.not_le.mpr hbl
  have hf : CallFix p m c cL_law 4 s #[Value.ref b] lw_tbl RL := ⟨hx, hb, hml, hown, hts⟩
  have i1 : vp_in (nI i + 1) L := by rw [show nI i + 1 = nI (i + 1) from nI_add i 1]; exact vp_in_nI (by omega) (by omega)
  refine lv_aload_n hx hb dL_law_500 rfl (lv_at hl 1 rfl) ?_
  refine lv_aload_n hx hb dL_law_501 rfl (lv_at hl 0 rfl) ?_
  refine lv_iload_n hx hb dL_law_502 rfl (lv_at hl 3 rfl) ?_
  refine lv_iconst (v := 1) hx hb dL_law_503 (by decide) ?_
  refine lv_iadd hx hb dL_law_504 ?_
  refine va_sld hx hb hX hbl hbA hS i1 dL_law_505 ?_
  refine lcall (a := 0) (ci := 6) (n := 1) (ks := [3, 18, 33, 48, 52, 0]) (T := TX6) (N := 6) (bytes := cX6_named) (maxL := 3) (ret := some .int) (av := [.int (xs (nI i + 1).toNatClampNeg)]) (rest := []) hf hC hW hS hl.1 dL_law_506 (nX6_named G _ _ _ (step_named hI (xs (nI i + 1).toNatClampNeg))) (goodL (mU (by decide +kernel) rfl) (mU (by decide +kernel) rfl) (mU (by decide +kernel) rfl) (mU (by decide +kernel) rfl) (mU (by decide +kernel) rfl)) rfl rfl rfl rfl (by decide +kernel) ⟨Nat.le_of_ble_eq_true rfl, Nat.le_of_ble_eq_true rfl⟩ rfl (Nat.le_of_ble_eq_true rfl) hcl hsl (fun r1 M1 H1 locs1 hq1 hW1 hS1 => ?_)
  obtain ⟨⟨a0, rfl⟩, hk⟩ := hq1
  refine W.eq (g2 := F0 m 509 ls [.int a0]) rfl ?_
  have hS := hS1
  refine lv_aload_n hx hb dL_law_509 rfl (lv_at hl 2 rfl) ?_
  refine lv_aload_n hx hb dL_law_510 rfl (lv_at hl 0 rfl) ?_
  refine lv_iload_n hx hb dL_law_511 rfl (lv_at hl 3 rfl) ?_
  refine lv_iconst (v := 1) hx hb dL_law_512 (by decide) ?_
  refine lv_iadd hx hb dL_law_513 ?_
  refine va_sld hx hb hX hbl hbA hS i1 dL_law_514 ?_
  refine lcall (a := 51) (ci := 7) (n := 1) (ks := [54, 55, 56, 1, 57, 58]) (T := TX7) (N := 6) (bytes := cX7_named) (maxL := 4) (ret := some .int) (av := [.int (xs (nI i + 1).toNatClampNeg)]) (rest := [.int a0]) hf hC hW1 hS1 hl.1 dL_law_515 (nX7_named G _ _ _ hk) (goodL (mU (by decide +kernel) rfl) (mU (by decide +kernel) rfl) (mU (by decide +kernel) rfl) (mU (by decide +kernel) rfl) (mU (by decide +kernel) rfl)) rfl rfl rfl rfl (by decide +kernel) ⟨Nat.le_of_ble_eq_true rfl, Nat.le_of_ble_eq_true rfl⟩ rfl (Nat.le_of_ble_eq_true rfl) hcl hsl (fun r2 M2 H2 locs2 hq2 hW2 hS2 => ?_)
  obtain ⟨rfl, -, hI2⟩ := hq2
  refine W.eq (g2 := F0 m 518 ls [.int a0, .int a0]) rfl ?_
  exact lv_icmp_eq (tgt := 703) hx hb dL_law_518 (by decide) (fun _ => kk M2 H2 locs2 hI2 hW2 hS2) (fun h => absurd rfl h)
set_option maxRecDepth 100000 in
theorem la_paired {G : Gt} {p : Program} {e : Env} {s : State} {m : MethodId} {below : List Frame} {meth : Method} {c : Code} {b L : Nat} {xs : Nat → Int32} {H : Heap} {locs : List Loc} {cells slots : Nat} {Z : State → Prop} {ls : Array Slot} {M : Mm} {i : Nat} (C0 : lw_At p s m meth c b L xs) (hC : Cx G s) (hbs : G.2.2.2.2.2 = s.heap.size) (hL : L ≤ 2560) (hi : i + 5 ≤ L) (hl : lv_has ls 4 [(0, .ref b), (1, .ref (G.2.2.1 0)), (2, .ref (G.2.2.1 51)), (3, .int (nI i))]) (hI : Inv M) (hW : Wo G M H) (hS : va_S (Asb G.2.2.2.2.2) s.heap H locs) (hcl : cells ≤ room_1.cells) (hsl : slots ≤ room_1.slots) (kk : ∀ (M' : Mm) (H1 : Heap) (locs1 : List Loc), Inv M' → Wo G M' H1 → va_S (Asb G.2.2.2.2.2) s.heap H1 locs1 → W p G.1 e room_1 s m #[Value.ref b] below meth c H1 locs1 cells slots Z (F0 m 703 ls [])) : W p G.1 e room_1 s m #[Value.ref b] below meth c H locs cells slots Z (F0 m 523 ls []) := by
  obtain ⟨hx, hb, hr, hml, hown, hts, hX, hbl, hlocks, hgv⟩ := C0
  have hbA : ¬ Asb G.2.2.2.2.2 b := by unfold Asb; rw [hbs]; exact Nat.not_le.mpr hbl
  have hf : CallFix p m c cL_law 4 s #[Value.ref b] lw_tbl RL := ⟨hx, hb, hml, hown, hts⟩
  have i1 : vp_in (nI i + 1) L := by rw [show nI i + 1 = nI (i + 1) from nI_add i 1]; exact vp_in_nI (by omega) (by omega)
  refine lv_aload_n hx hb dL_law_523 rfl (lv_at hl 1 rfl) ?_
  refine lv_aload_n hx hb dL_law_524 rfl (lv_at hl 0 rfl) ?_
  refine lv_iload_n hx hb dL_law_525 rfl (lv_at hl 3 rfl) ?_
  refine lv_iconst (v := 1) hx hb dL_law_526 (by decide) ?_
  refine lv_iadd hx hb dL_law_527 ?_
  refine va_sld hx hb hX hbl hbA hS i1 dL_law_528 ?_
  refine lcall (a := 0) (ci := 6) (n := 1) (ks := [3, 18, 33, 48, 52, 0]) (T := TX6) (N := 6) (bytes := cX6_paired) (maxL := 2) (ret := some .int) (av := [.int (xs (nI i + 1).toNatClampNeg)]) (rest := []) hf hC hW hS hl.1 dL_law_529 (nX6_paired G _ _ _ (step_paired hI (xs (nI i + 1).toNatClampNeg))) (goodL (mU (by decide +kernel) rfl) (mU (by decide +kernel) rfl) (mU (by decide +kernel) rfl) (mU (by decide +kernel) rfl) (mU (by decide +kernel) rfl)) rfl rfl rfl rfl (by decide +kernel) ⟨Nat.le_of_ble_eq_true rfl, Nat.le_of_ble_eq_true rfl⟩ rfl (Nat.le_of_ble_eq_true rfl) hcl hsl (fun r1 M1 H1 locs1 hq1 hW1 hS1 => ?_)
  obtain ⟨⟨a0, rfl⟩, hk⟩ := hq1
  refine W.eq (g2 := F0 m 532 ls [.int a0]) rfl ?_
  have hS := hS1
  refine lv_aload_n hx hb dL_law_532 rfl (lv_at hl 2 rfl) ?_
  refine lv_aload_n hx hb dL_law_533 rfl (lv_at hl 0 rfl) ?_
  refine lv_iload_n hx hb dL_law_534 rfl (lv_at hl 3 rfl) ?_
  refine lv_iconst (v := 1) hx hb dL_law_535 (by decide) ?_
  refine lv_iadd hx hb dL_law_536 ?_
  refine va_sld hx hb hX hbl hbA hS i1 dL_law_537 ?_
  refine lcall (a := 51) (ci := 7) (n := 1) (ks := [54, 55, 56, 1, 57, 58]) (T := TX7) (N := 6) (bytes := cX7_paired) (maxL := 2) (ret := some .int) (av := [.int (xs (nI i + 1).toNatClampNeg)]) (rest := [.int a0]) hf hC hW1 hS1 hl.1 dL_law_538 (nX7_paired G _ _ _ hk) (goodL (mU (by decide +kernel) rfl) (mU (by decide +kernel) rfl) (mU (by decide +kernel) rfl) (mU (by decide +kernel) rfl) (mU (by decide +kernel) rfl)) rfl rfl rfl rfl (by decide +kernel) ⟨Nat.le_of_ble_eq_true rfl, Nat.le_of_ble_eq_true rfl⟩ rfl (Nat.le_of_ble_eq_true rfl) hcl hsl (fun r2 M2 H2 locs2 hq2 hW2 hS2 => ?_)
  obtain ⟨rfl, -, hI2⟩ := hq2
  refine W.eq (g2 := F0 m 541 ls [.int a0, .int a0]) rfl ?_
  exact lv_icmp_eq (tgt := 703) hx hb dL_law_541 (by decide) (fun _ => kk M2 H2 locs2 hI2 hW2 hS2) (fun h => absurd rfl h)
set_option maxRecDepth 100000 in
theorem la_rule {G : Gt} {p : Program} {e : Env} {s : State} {m : MethodId} {below : List Frame} {meth : Method} {c : Code} {b L : Nat} {xs : Nat → Int32} {H : Heap} {locs : List Loc} {cells slots : Nat} {Z : State → Prop} {ls : Array Slot} {M : Mm} {i : Nat} (C0 : lw_At p s m meth c b L xs) (hC : Cx G s) (hbs : G.2.2.2.2.2 = s.heap.size) (hL : L ≤ 2560) (hi : i + 5 ≤ L) (hl : lv_has ls 4 [(0, .ref b), (1, .ref (G.2.2.1 0)), (2, .ref (G.2.2.1 51)), (3, .int (nI i))]) (hI : Inv M) (hW : Wo G M H) (hS : va_S (Asb G.2.2.2.2.2) s.heap H locs) (hcl : cells ≤ room_1.cells) (hsl : slots ≤ room_1.slots) (kk : ∀ (M' : Mm) (H1 : Heap) (locs1 : List Loc), Inv M' → Wo G M' H1 → va_S (Asb G.2.2.2.2.2) s.heap H1 locs1 → W p G.1 e room_1 s m #[Value.ref b] below meth c H1 locs1 cells slots Z (F0 m 703 ls [])) : W p G.1 e room_1 s m #[Value.ref b] below meth c H locs cells slots Z (F0 m 546 ls []) := by
  obtain ⟨hx, hb, hr, hml, hown, hts, hX, hbl, hlocks, hgv⟩ := C0
  have hbA : ¬ Asb G.2.2.2.2.2 b := by unfold Asb; rw [hbs]; exact Nat.not_le.mpr hbl
  have hf : CallFix p m c cL_law 4 s #[Value.ref b] lw_tbl RL := ⟨hx, hb, hml, hown, hts⟩
  have i1 : vp_in (nI i + 1) L := by rw [show nI i + 1 = nI (i + 1) from nI_add i 1]; exact vp_in_nI (by omega) (by omega)
  have i2 : vp_in (nI i + 2) L := by rw [show nI i + 2 = nI (i + 2) from nI_add i 2]; exact vp_in_nI (by omega) (by omega)
  have i3 : vp_in (nI i + 3) L := by rw [show nI i + 3 = nI (i + 3) from nI_add i 3]; exact vp_in_nI (by omega) (by omega)
  have i4 : vp_in (nI i + 4) L := by rw [show nI i + 4 = nI (i + 4) from nI_add i 4]; exact vp_in_nI (by omega) (by omega)
  refine lv_aload_n hx hb dL_law_546 rfl (lv_at hl 1 rfl) ?_
  refine lv_aload_n hx hb dL_law_547 rfl (lv_at hl 0 rfl) ?_
  refine lv_iload_n hx hb dL_law_548 rfl (lv_at hl 3 rfl) ?_
  refine lv_iconst (v := 1) hx hb dL_law_549 (by decide) ?_
  refine lv_iadd hx hb dL_law_550 ?_
  refine va_sld hx hb hX hbl hbA hS i1 dL_law_551 ?_
  refine lv_aload_n hx hb dL_law_552 rfl (lv_at hl 0 rfl) ?_
  refine lv_iload_n hx hb dL_law_553 rfl (lv_at hl 3 rfl) ?_
  refine lv_iconst (v := 2) hx hb dL_law_554 (by decide) ?_
  refine lv_iadd hx hb dL_law_555 ?_
  refine va_sld hx hb hX hbl hbA hS i2 dL_law_556 ?_
  refine lv_aload_n hx hb dL_law_557 rfl (lv_at hl 0 rfl) ?_
  refine lv_iload_n hx hb dL_law_558 rfl (lv_at hl 3 rfl) ?_
  refine lv_iconst (v := 3) hx hb dL_law_559 (by decide) ?_
  refine lv_iadd hx hb dL_law_560 ?_
  refine va_sld hx hb hX hbl hbA hS i3 dL_law_561 ?_
  refine lv_aload_n hx hb dL_law_562 rfl (lv_at hl 0 rfl) ?_
  refine lv_iload_n hx hb dL_law_563 rfl (lv_at hl 3 rfl) ?_
  refine lv_iconst (v := 4) hx hb dL_law_564 (by decide) ?_
  refine lv_iadd hx hb dL_law_565 ?_
  refine va_sld hx hb hX hbl hbA hS i4 dL_law_566 ?_
  refine lcall (a := 0) (ci := 6) (n := 4) (ks := [3, 18, 33, 48, 52, 0]) (T := TX6) (N := 6) (bytes := cX6_rule) (maxL := 6) (ret := some .int) (av := [.int (xs (nI i + 1).toNatClampNeg), .int (xs (nI i + 2).toNatClampNeg), .int (xs (nI i + 3).toNatClampNeg), .int (xs (nI i + 4).toNatClampNeg)]) (rest := []) hf hC hW hS hl.1 dL_law_567 (nX6_rule G _ _ _ (step_rule hI (xs (nI i + 1).toNatClampNeg) (xs (nI i + 2).toNatClampNeg) (xs (nI i + 3).toNatClampNeg) (xs (nI i + 4).toNatClampNeg))) (goodL (mU (by decide +kernel) rfl) (mU (by decide +kernel) rfl) (mU (by decide +kernel) rfl) (mU (by decide +kernel) rfl) (mU (by decide +kernel) rfl)) rfl rfl rfl rfl (by decide +kernel) ⟨Nat.le_of_ble_eq_true rfl, Nat.le_of_ble_eq_true rfl⟩ rfl (Nat.le_of_ble_eq_true rfl) hcl hsl (fun r1 M1 H1 locs1 hq1 hW1 hS1 => ?_)
  obtain ⟨⟨a0, rfl⟩, hk⟩ := hq1
  refine W.eq (g2 := F0 m 570 ls [.int a0]) rfl ?_
  have hS := hS1
  refine lv_aload_n hx hb dL_law_570 rfl (lv_at hl 2 rfl) ?_
  refine lv_aload_n hx hb dL_law_571 rfl (lv_at hl 0 rfl) ?_
  refine lv_iload_n hx hb dL_law_572 rfl (lv_at hl 3 rfl) ?_
  refine lv_iconst (v := 1) hx hb dL_law_573 (by decide) ?_
  refine lv_iadd hx hb dL_law_574 ?_
  refine va_sld hx hb hX hbl hbA hS i1 dL_law_575 ?_
  refine lv_aload_n hx hb dL_law_576 rfl (lv_at hl 0 rfl) ?_
  refine lv_iload_n hx hb dL_law_577 rfl (lv_at hl 3 rfl) ?_
  refine lv_iconst (v := 2) hx hb dL_law_578 (by decide) ?_
  refine lv_iadd hx hb dL_law_579 ?_
  refine va_sld hx hb hX hbl hbA hS i2 dL_law_580 ?_
  refine lv_aload_n hx hb dL_law_581 rfl (lv_at hl 0 rfl) ?_
  refine lv_iload_n hx hb dL_law_582 rfl (lv_at hl 3 rfl) ?_
  refine lv_iconst (v := 3) hx hb dL_law_583 (by decide) ?_
  refine lv_iadd hx hb dL_law_584 ?_
  refine va_sld hx hb hX hbl hbA hS i3 dL_law_585 ?_
  refine lv_aload_n hx hb dL_law_586 rfl (lv_at hl 0 rfl) ?_
  refine lv_iload_n hx hb dL_law_587 rfl (lv_at hl 3 rfl) ?_
  refine lv_iconst (v := 4) hx hb dL_law_588 (by decide) ?_
  refine lv_iadd hx hb dL_law_589 ?_
  refine va_sld hx hb hX hbl hbA hS i4 dL_law_590 ?_
  refine lcall (a := 51) (ci := 7) (n := 4) (ks := [54, 55, 56, 1, 57, 58]) (T := TX7) (N := 6) (bytes := cX7_rule) (maxL := 5) (ret := some .int) (av := [.int (xs (nI i + 1).toNatClampNeg), .int (xs (nI i + 2).toNatClampNeg), .int (xs (nI i + 3).toNatClampNeg), .int (xs (nI i + 4).toNatClampNeg)]) (rest := [.int a0]) hf hC hW1 hS1 hl.1 dL_law_591 (nX7_rule G _ _ _ hk) (goodL (mU (by decide +kernel) rfl) (mU (by decide +kernel) rfl) (mU (by decide +kernel) rfl) (mU (by decide +kernel) rfl) (mU (by decide +kernel) rfl)) rfl rfl rfl rfl (by decide +kernel) ⟨Nat.le_of_ble_eq_true rfl, Nat.le_of_ble_eq_true rfl⟩ rfl (Nat.le_of_ble_eq_true rfl) hcl hsl (fun r2 M2 H2 locs2 hq2 hW2 hS2 => ?_)
  obtain ⟨rfl, -, hI2⟩ := hq2
  refine W.eq (g2 := F0 m 594 ls [.int a0, .int a0]) rfl ?_
  exact lv_icmp_eq (tgt := 703) hx hb dL_law_594 (by decide) (fun _ => kk M2 H2 locs2 hI2 hW2 hS2) (fun h => absurd rfl h)
set_option maxRecDepth 100000 in
theorem la_ghosts {G : Gt} {p : Program} {e : Env} {s : State} {m : MethodId} {below : List Frame} {meth : Method} {c : Code} {b L : Nat} {xs : Nat → Int32} {H : Heap} {locs : List Loc} {cells slots : Nat} {Z : State → Prop} {ls : Array Slot} {M : Mm} {i : Nat} (C0 : lw_At p s m meth c b L xs) (hC : Cx G s) (hbs : G.2.2.2.2.2 = s.heap.size) (hL : L ≤ 2560) (hi : i + 5 ≤ L) (hl : lv_has ls 4 [(0, .ref b), (1, .ref (G.2.2.1 0)), (2, .ref (G.2.2.1 51)), (3, .int (nI i))]) (hI : Inv M) (hW : Wo G M H) (hS : va_S (Asb G.2.2.2.2.2) s.heap H locs) (hcl : cells ≤ room_1.cells) (hsl : slots ≤ room_1.slots) (kk : ∀ (M' : Mm) (H1 : Heap) (locs1 : List Loc), Inv M' → Wo G M' H1 → va_S (Asb G.2.2.2.2.2) s.heap H1 locs1 → W p G.1 e room_1 s m #[Value.ref b] below meth c H1 locs1 cells slots Z (F0 m 703 ls [])) : W p G.1 e room_1 s m #[Value.ref b] below meth c H locs cells slots Z (F0 m 599 ls []) := by
  obtain ⟨hx, hb, hr, hml, hown, hts, hX, hbl, hlocks, hgv⟩ := C0
  have hbA : ¬ Asb G.2.2.2.2.2 b := by unfold Asb; rw [hbs]; exact Nat.not_le.mpr hbl
  have hf : CallFix p m c cL_law 4 s #[Value.ref b] lw_tbl RL := ⟨hx, hb, hml, hown, hts⟩
  have i1 : vp_in (nI i + 1) L := by rw [show nI i + 1 = nI (i + 1) from nI_add i 1]; exact vp_in_nI (by omega) (by omega)
  have i2 : vp_in (nI i + 2) L := by rw [show nI i + 2 = nI (i + 2) from nI_add i 2]; exact vp_in_nI (by omega) (by omega)
  have i3 : vp_in (nI i + 3) L := by rw [show nI i + 3 = nI (i + 3) from nI_add i 3]; exact vp_in_nI (by omega) (by omega)
  refine lv_aload_n hx hb dL_law_599 rfl (lv_at hl 1 rfl) ?_
  refine lv_aload_n hx hb dL_law_600 rfl (lv_at hl 0 rfl) ?_
  refine lv_iload_n hx hb dL_law_601 rfl (lv_at hl 3 rfl) ?_
  refine lv_iconst (v := 1) hx hb dL_law_602 (by decide) ?_
  refine lv_iadd hx hb dL_law_603 ?_
  refine va_sld hx hb hX hbl hbA hS i1 dL_law_604 ?_
  refine lv_aload_n hx hb dL_law_605 rfl (lv_at hl 0 rfl) ?_
  refine lv_iload_n hx hb dL_law_606 rfl (lv_at hl 3 rfl) ?_
  refine lv_iconst (v := 2) hx hb dL_law_607 (by decide) ?_
  refine lv_iadd hx hb dL_law_608 ?_
  refine va_sld hx hb hX hbl hbA hS i2 dL_law_609 ?_
  refine lv_aload_n hx hb dL_law_610 rfl (lv_at hl 0 rfl) ?_
  refine lv_iload_n hx hb dL_law_611 rfl (lv_at hl 3 rfl) ?_
  refine lv_iconst (v := 3) hx hb dL_law_612 (by decide) ?_
  refine lv_iadd hx hb dL_law_613 ?_
  refine va_sld hx hb hX hbl hbA hS i3 dL_law_614 ?_
  refine lcall (a := 0) (ci := 6) (n := 3) (ks := [3, 18, 33, 48, 52, 0]) (T := TX6) (N := 6) (bytes := cX6_ghosts) (maxL := 5) (ret := some .long) (av := [.int (xs (nI i + 1).toNatClampNeg), .int (xs (nI i + 2).toNatClampNeg), .int (xs (nI i + 3).toNatClampNeg)]) (rest := []) hf hC hW hS hl.1 dL_law_615 (nX6_ghosts G _ _ _ (step_ghosts hI (xs (nI i + 1).toNatClampNeg) (xs (nI i + 2).toNatClampNeg) (xs (nI i + 3).toNatClampNeg))) (goodL (mU (by decide +kernel) rfl) (mU (by decide +kernel) rfl) (mU (by decide +kernel) rfl) (mU (by decide +kernel) rfl) (mU (by decide +kernel) rfl)) rfl rfl rfl rfl (by decide +kernel) ⟨Nat.le_of_ble_eq_true rfl, Nat.le_of_ble_eq_true rfl⟩ rfl (Nat.le_of_ble_eq_true rfl) hcl hsl (fun r1 M1 H1 locs1 hq1 hW1 hS1 => ?_)
  obtain ⟨⟨a0, rfl⟩, hk⟩ := hq1
  refine W.eq (g2 := F0 m 618 ls [.long a0]) rfl ?_
  have hS := hS1
  refine lv_aload_n hx hb dL_law_618 rfl (lv_at hl 2 rfl) ?_
  refine lv_aload_n hx hb dL_law_619 rfl (lv_at hl 0 rfl) ?_
  refine lv_iload_n hx hb dL_law_620 rfl (lv_at hl 3 rfl) ?_
  refine lv_iconst (v := 1) hx hb dL_law_621 (by decide) ?_
  refine lv_iadd hx hb dL_law_622 ?_
  refine va_sld hx hb hX hbl hbA hS i1 dL_law_623 ?_
  refine lv_aload_n hx hb dL_law_624 rfl (lv_at hl 0 rfl) ?_
  refine lv_iload_n hx hb dL_law_625 rfl (lv_at hl 3 rfl) ?_
  refine lv_iconst (v := 2) hx hb dL_law_626 (by decide) ?_
  refine lv_iadd hx hb dL_law_627 ?_
  refine va_sld hx hb hX hbl hbA hS i2 dL_law_628 ?_
  refine lv_aload_n hx hb dL_law_629 rfl (lv_at hl 0 rfl) ?_
  refine lv_iload_n hx hb dL_law_630 rfl (lv_at hl 3 rfl) ?_
  refine lv_iconst (v := 3) hx hb dL_law_631 (by decide) ?_
  refine lv_iadd hx hb dL_law_632 ?_
  refine va_sld hx hb hX hbl hbA hS i3 dL_law_633 ?_
  refine lcall (a := 51) (ci := 7) (n := 3) (ks := [54, 55, 56, 1, 57, 58]) (T := TX7) (N := 6) (bytes := cX7_ghosts) (maxL := 12) (ret := some .long) (av := [.int (xs (nI i + 1).toNatClampNeg), .int (xs (nI i + 2).toNatClampNeg), .int (xs (nI i + 3).toNatClampNeg)]) (rest := [.long a0]) hf hC hW1 hS1 hl.1 dL_law_634 (nX7_ghosts G _ _ _ hk) (goodL (mU (by decide +kernel) rfl) (mU (by decide +kernel) rfl) (mU (by decide +kernel) rfl) (mU (by decide +kernel) rfl) (mU (by decide +kernel) rfl)) rfl rfl rfl rfl (by decide +kernel) ⟨Nat.le_of_ble_eq_true rfl, Nat.le_of_ble_eq_true rfl⟩ rfl (Nat.le_of_ble_eq_true rfl) hcl hsl (fun r2 M2 H2 locs2 hq2 hW2 hS2 => ?_)
  obtain ⟨rfl, -, hI2⟩ := hq2
  refine W.eq (g2 := F0 m 637 ls [.long a0, .long a0]) rfl ?_
  refine W.lcmp hx hb dL_law_637 ?_
  exact lv_if_eq (tgt := 703) hx hb dL_law_638 (by decide) (fun _ => kk M2 H2 locs2 hI2 hW2 hS2) (fun h => absurd (by simp [lg_cmp]) h)
set_option maxRecDepth 100000 in
theorem la_digest {G : Gt} {p : Program} {e : Env} {s : State} {m : MethodId} {below : List Frame} {meth : Method} {c : Code} {b L : Nat} {xs : Nat → Int32} {H : Heap} {locs : List Loc} {cells slots : Nat} {Z : State → Prop} {ls : Array Slot} {M : Mm} {i : Nat} (C0 : lw_At p s m meth c b L xs) (hC : Cx G s) (hbs : G.2.2.2.2.2 = s.heap.size) (hL : L ≤ 2560) (hi : i + 5 ≤ L) (hl : lv_has ls 4 [(0, .ref b), (1, .ref (G.2.2.1 0)), (2, .ref (G.2.2.1 51)), (3, .int (nI i))]) (hI : Inv M) (hW : Wo G M H) (hS : va_S (Asb G.2.2.2.2.2) s.heap H locs) (hcl : cells ≤ room_1.cells) (hsl : slots ≤ room_1.slots) (kk : ∀ (M' : Mm) (H1 : Heap) (locs1 : List Loc), Inv M' → Wo G M' H1 → va_S (Asb G.2.2.2.2.2) s.heap H1 locs1 → W p G.1 e room_1 s m #[Value.ref b] below meth c H1 locs1 cells slots Z (F0 m 703 ls [])) : W p G.1 e room_1 s m #[Value.ref b] below meth c H locs cells slots Z (F0 m 643 ls []) := by
  obtain ⟨hx, hb, hr, hml, hown, hts, hX, hbl, hlocks, hgv⟩ := C0
  have hbA : ¬ Asb G.2.2.2.2.2 b := by unfold Asb; rw [hbs]; exact Nat.not_le.mpr hbl
  have hf : CallFix p m c cL_law 4 s #[Value.ref b] lw_tbl RL := ⟨hx, hb, hml, hown, hts⟩
  refine lv_aload_n hx hb dL_law_643 rfl (lv_at hl 1 rfl) ?_
  refine lcall (a := 0) (ci := 6) (n := 0) (ks := [3, 18, 33, 48, 52, 0]) (T := TX6) (N := 6) (bytes := cX6_digest) (maxL := 5) (ret := some .long) (av := []) (rest := []) hf hC hW hS hl.1 dL_law_644 (nX6_digest G _ _ _ (step_digest hI )) (goodL (mU (by decide +kernel) rfl) (mU (by decide +kernel) rfl) (mU (by decide +kernel) rfl) (mU (by decide +kernel) rfl) (mU (by decide +kernel) rfl)) rfl rfl rfl rfl (by decide +kernel) ⟨Nat.le_of_ble_eq_true rfl, Nat.le_of_ble_eq_true rfl⟩ rfl (Nat.le_of_ble_eq_true rfl) hcl hsl (fun r1 M1 H1 locs1 hq1 hW1 hS1 => ?_)
  obtain ⟨⟨a0, rfl⟩, hk⟩ := hq1
  refine W.eq (g2 := F0 m 647 ls [.long a0]) rfl ?_
  have hS := hS1
  refine lv_aload_n hx hb dL_law_647 rfl (lv_at hl 2 rfl) ?_
  refine lcall (a := 51) (ci := 7) (n := 0) (ks := [54, 55, 56, 1, 57, 58]) (T := TX7) (N := 6) (bytes := cX7_digest) (maxL := 5) (ret := some .long) (av := []) (rest := [.long a0]) hf hC hW1 hS1 hl.1 dL_law_648 (nX7_digest G _ _ _ hk) (goodL (mU (by decide +kernel) rfl) (mU (by decide +kernel) rfl) (mU (by decide +kernel) rfl) (mU (by decide +kernel) rfl) (mU (by decide +kernel) rfl)) rfl rfl rfl rfl (by decide +kernel) ⟨Nat.le_of_ble_eq_true rfl, Nat.le_of_ble_eq_true rfl⟩ rfl (Nat.le_of_ble_eq_true rfl) hcl hsl (fun r2 M2 H2 locs2 hq2 hW2 hS2 => ?_)
  obtain ⟨rfl, -, hI2⟩ := hq2
  refine W.eq (g2 := F0 m 651 ls [.long a0, .long a0]) rfl ?_
  refine W.lcmp hx hb dL_law_651 ?_
  exact lv_if_eq (tgt := 703) hx hb dL_law_652 (by decide) (fun _ => kk M2 H2 locs2 hI2 hW2 hS2) (fun h => absurd (by simp [lg_cmp]) h)
set_option maxRecDepth 100000 in
theorem la_keep {G : Gt} {p : Program} {e : Env} {s : State} {m : MethodId} {below : List Frame} {meth : Method} {c : Code} {b L : Nat} {xs : Nat → Int32} {H : Heap} {locs : List Loc} {cells slots : Nat} {Z : State → Prop} {ls : Array Slot} {M : Mm} {i : Nat} (C0 : lw_At p s m meth c b L xs) (hC : Cx G s) (hbs : G.2.2.2.2.2 = s.heap.size) (hL : L ≤ 2560) (hi : i + 5 ≤ L) (hl : lv_has ls 4 [(0, .ref b), (1, .ref (G.2.2.1 0)), (2, .ref (G.2.2.1 51)), (3, .int (nI i))]) (hI : Inv M) (hW : Wo G M H) (hS : va_S (Asb G.2.2.2.2.2) s.heap H locs) (hcl : cells ≤ room_1.cells) (hsl : slots ≤ room_1.slots) (kk : ∀ (M' : Mm) (H1 : Heap) (locs1 : List Loc), Inv M' → Wo G M' H1 → va_S (Asb G.2.2.2.2.2) s.heap H1 locs1 → W p G.1 e room_1 s m #[Value.ref b] below meth c H1 locs1 cells slots Z (F0 m 703 ls [])) : W p G.1 e room_1 s m #[Value.ref b] below meth c H locs cells slots Z (F0 m 657 ls []) := by
  obtain ⟨hx, hb, hr, hml, hown, hts, hX, hbl, hlocks, hgv⟩ := C0
  have hbA : ¬ Asb G.2.2.2.2.2 b := by unfold Asb; rw [hbs]; exact Nat.not_le.mpr hbl
  have hf : CallFix p m c cL_law 4 s #[Value.ref b] lw_tbl RL := ⟨hx, hb, hml, hown, hts⟩
  have i1 : vp_in (nI i + 1) L := by rw [show nI i + 1 = nI (i + 1) from nI_add i 1]; exact vp_in_nI (by omega) (by omega)
  refine lv_aload_n hx hb dL_law_657 rfl (lv_at hl 1 rfl) ?_
  refine lv_aload_n hx hb dL_law_658 rfl (lv_at hl 0 rfl) ?_
  refine lv_iload_n hx hb dL_law_659 rfl (lv_at hl 3 rfl) ?_
  refine lv_iconst (v := 1) hx hb dL_law_660 (by decide) ?_
  refine lv_iadd hx hb dL_law_661 ?_
  refine va_sld hx hb hX hbl hbA hS i1 dL_law_662 ?_
  refine lcall (a := 0) (ci := 6) (n := 1) (ks := [3, 18, 33, 48, 52, 0]) (T := TX6) (N := 6) (bytes := cX6_keep) (maxL := 2) (ret := some .int) (av := [.int (xs (nI i + 1).toNatClampNeg)]) (rest := []) hf hC hW hS hl.1 dL_law_663 (nX6_keep G _ _ _ (step_keep hI (xs (nI i + 1).toNatClampNeg))) (goodL (mU (by decide +kernel) rfl) (mU (by decide +kernel) rfl) (mU (by decide +kernel) rfl) (mU (by decide +kernel) rfl) (mU (by decide +kernel) rfl)) rfl rfl rfl rfl (by decide +kernel) ⟨Nat.le_of_ble_eq_true rfl, Nat.le_of_ble_eq_true rfl⟩ rfl (Nat.le_of_ble_eq_true rfl) hcl hsl (fun r1 M1 H1 locs1 hq1 hW1 hS1 => ?_)
  obtain ⟨⟨a0, rfl⟩, hk⟩ := hq1
  refine W.eq (g2 := F0 m 666 ls [.int a0]) rfl ?_
  have hS := hS1
  refine lv_aload_n hx hb dL_law_666 rfl (lv_at hl 2 rfl) ?_
  refine lv_aload_n hx hb dL_law_667 rfl (lv_at hl 0 rfl) ?_
  refine lv_iload_n hx hb dL_law_668 rfl (lv_at hl 3 rfl) ?_
  refine lv_iconst (v := 1) hx hb dL_law_669 (by decide) ?_
  refine lv_iadd hx hb dL_law_670 ?_
  refine va_sld hx hb hX hbl hbA hS i1 dL_law_671 ?_
  refine lcall (a := 51) (ci := 7) (n := 1) (ks := [54, 55, 56, 1, 57, 58]) (T := TX7) (N := 6) (bytes := cX7_keep) (maxL := 3) (ret := some .int) (av := [.int (xs (nI i + 1).toNatClampNeg)]) (rest := [.int a0]) hf hC hW1 hS1 hl.1 dL_law_672 (nX7_keep G _ _ _ hk) (goodL (mU (by decide +kernel) rfl) (mU (by decide +kernel) rfl) (mU (by decide +kernel) rfl) (mU (by decide +kernel) rfl) (mU (by decide +kernel) rfl)) rfl rfl rfl rfl (by decide +kernel) ⟨Nat.le_of_ble_eq_true rfl, Nat.le_of_ble_eq_true rfl⟩ rfl (Nat.le_of_ble_eq_true rfl) hcl hsl (fun r2 M2 H2 locs2 hq2 hW2 hS2 => ?_)
  obtain ⟨rfl, -, hI2⟩ := hq2
  refine W.eq (g2 := F0 m 675 ls [.int a0, .int a0]) rfl ?_
  exact lv_icmp_eq (tgt := 703) hx hb dL_law_675 (by decide) (fun _ => kk M2 H2 locs2 hI2 hW2 hS2) (fun h => absurd rfl h)
set_option maxRecDepth 100000 in
theorem la_goBack {G : Gt} {p : Program} {e : Env} {s : State} {m : MethodId} {below : List Frame} {meth : Method} {c : Code} {b L : Nat} {xs : Nat → Int32} {H : Heap} {locs : List Loc} {cells slots : Nat} {Z : State → Prop} {ls : Array Slot} {M : Mm} {i : Nat} (C0 : lw_At p s m meth c b L xs) (hC : Cx G s) (hbs : G.2.2.2.2.2 = s.heap.size) (hL : L ≤ 2560) (hi : i + 5 ≤ L) (hl : lv_has ls 4 [(0, .ref b), (1, .ref (G.2.2.1 0)), (2, .ref (G.2.2.1 51)), (3, .int (nI i))]) (hI : Inv M) (hW : Wo G M H) (hS : va_S (Asb G.2.2.2.2.2) s.heap H locs) (hcl : cells ≤ room_1.cells) (hsl : slots ≤ room_1.slots) (kk : ∀ (M' : Mm) (H1 : Heap) (locs1 : List Loc), Inv M' → Wo G M' H1 → va_S (Asb G.2.2.2.2.2) s.heap H1 locs1 → W p G.1 e room_1 s m #[Value.ref b] below meth c H1 locs1 cells slots Z (F0 m 703 ls [])) : W p G.1 e room_1 s m #[Value.ref b] below meth c H locs cells slots Z (F0 m 680 ls []) := by
  obtain ⟨hx, hb, hr, hml, hown, hts, hX, hbl, hlocks, hgv⟩ := C0
  have hbA : ¬ Asb G.2.2.2.2.2 b := by unfold Asb; rw [hbs]; exact Nat.not_le.mpr hbl
  have hf : CallFix p m c cL_law 4 s #[Value.ref b] lw_tbl RL := ⟨hx, hb, hml, hown, hts⟩
  have i1 : vp_in (nI i + 1) L := by rw [show nI i + 1 = nI (i + 1) from nI_add i 1]; exact vp_in_nI (by omega) (by omega)
  refine lv_aload_n hx hb dL_law_680 rfl (lv_at hl 1 rfl) ?_
  refine lv_aload_n hx hb dL_law_681 rfl (lv_at hl 0 rfl) ?_
  refine lv_iload_n hx hb dL_law_682 rfl (lv_at hl 3 rfl) ?_
  refine lv_iconst (v := 1) hx hb dL_law_683 (by decide) ?_
  refine lv_iadd hx hb dL_law_684 ?_
  refine va_sld hx hb hX hbl hbA hS i1 dL_law_685 ?_
  refine lcall (a := 0) (ci := 6) (n := 1) (ks := [3, 18, 33, 48, 52, 0]) (T := TX6) (N := 6) (bytes := cX6_goBack) (maxL := 2) (ret := some .int) (av := [.int (xs (nI i + 1).toNatClampNeg)]) (rest := []) hf hC hW hS hl.1 dL_law_686 (nX6_goBack G _ _ _ (step_goBack hI (xs (nI i + 1).toNatClampNeg))) (goodL (mU (by decide +kernel) rfl) (mU (by decide +kernel) rfl) (mU (by decide +kernel) rfl) (mU (by decide +kernel) rfl) (mU (by decide +kernel) rfl)) rfl rfl rfl rfl (by decide +kernel) ⟨Nat.le_of_ble_eq_true rfl, Nat.le_of_ble_eq_true rfl⟩ rfl (Nat.le_of_ble_eq_true rfl) hcl hsl (fun r1 M1 H1 locs1 hq1 hW1 hS1 => ?_)
  obtain ⟨⟨a0, rfl⟩, hk⟩ := hq1
  refine W.eq (g2 := F0 m 689 ls [.int a0]) rfl ?_
  have hS := hS1
  refine lv_aload_n hx hb dL_law_689 rfl (lv_at hl 2 rfl) ?_
  refine lv_aload_n hx hb dL_law_690 rfl (lv_at hl 0 rfl) ?_
  refine lv_iload_n hx hb dL_law_691 rfl (lv_at hl 3 rfl) ?_
  refine lv_iconst (v := 1) hx hb dL_law_692 (by decide) ?_
  refine lv_iadd hx hb dL_law_693 ?_
  refine va_sld hx hb hX hbl hbA hS i1 dL_law_694 ?_
  refine lcall (a := 51) (ci := 7) (n := 1) (ks := [54, 55, 56, 1, 57, 58]) (T := TX7) (N := 6) (bytes := cX7_goBack) (maxL := 3) (ret := some .int) (av := [.int (xs (nI i + 1).toNatClampNeg)]) (rest := [.int a0]) hf hC hW1 hS1 hl.1 dL_law_695 (nX7_goBack G _ _ _ hk) (goodL (mU (by decide +kernel) rfl) (mU (by decide +kernel) rfl) (mU (by decide +kernel) rfl) (mU (by decide +kernel) rfl) (mU (by decide +kernel) rfl)) rfl rfl rfl rfl (by decide +kernel) ⟨Nat.le_of_ble_eq_true rfl, Nat.le_of_ble_eq_true rfl⟩ rfl (Nat.le_of_ble_eq_true rfl) hcl hsl (fun r2 M2 H2 locs2 hq2 hW2 hS2 => ?_)
  obtain ⟨rfl, -, hI2⟩ := hq2
  refine W.eq (g2 := F0 m 698 ls [.int a0, .int a0]) rfl ?_
  exact lv_icmp_eq (tgt := 703) hx hb dL_law_698 (by decide) (fun _ => kk M2 H2 locs2 hI2 hW2 hS2) (fun h => absurd rfl h)
