/-! the law's loop -/
set_option maxRecDepth 100000 in
theorem law_loop {G : Gt} {p : Program} {e : Env} {s : State} {m : MethodId} {below : List Frame} {meth : Method} {c : Code} {b L : Nat} {xs : Nat → Int32} {cells slots : Nat} (C0 : lw_At p s m meth c b L xs) (hC : Cx G s) (hbs : G.2.2.2.2.2 = s.heap.size) (hL : L ≤ 2560) (hcl : cells ≤ 600000) (hsl : slots ≤ 7302250) : ∀ (n i : Nat) (M : Mm) (H : Heap) (locs : List Loc) (ls : Array Slot), i ≤ L → L + 1 ≤ i + n → Inv M → Wo G M H → va_S (Asb G.2.2.2.2.2) s.heap H locs → lv_has ls 4 [(0, .ref b), (1, .ref (G.2.2.1 0)), (2, .ref (G.2.2.1 51)), (3, .int (nI i))] → W p G.1 e room_1 s m #[Value.ref b] below meth c H locs cells slots (lw_Z below #[Value.ref b] s) (F0 m 18 ls []) := by
  obtain ⟨hx, hb, hr, hml, hown, hts, hX, hbl, hlocks, hgv⟩ := id C0
  have hbA : ¬ Asb G.2.2.2.2.2 b := by unfold Asb; rw [hbs]; exact Nat.not_le.mpr hbl
  intro n
  induction n with
  | zero =>
    intro i M H locs ls h1 h2
    exact absurd h2 (by omega)
  | succ n ih =>
    intro i M H locs ls hiL hin hI hW hS hl
    refine lv_iload_n hx hb dL_law_18 rfl (lv_at hl 3 rfl) ?_
    refine lv_aload_n hx hb dL_law_19 rfl (lv_at hl 0 rfl) ?_
    refine va_slen hx hb hX hbl hbA hS dL_law_20 ?_
    refine lv_iconst (v := 5) hx hb dL_law_21 (by decide) ?_
    refine lv_isub hx hb dL_law_22 ?_
    refine lv_icmp_gt (tgt := 709) hx hb dL_law_23 (by decide) (fun hgt => ?_) (fun hgt => ?_)
    · refine lv_iconst (v := 1) hx hb dL_law_709 (by decide) ?_
      refine va_forget (fun q hq => by have := hS.2.2 q hq; unfold Asb at this; rw [hbs] at this; exact this) ?_
      refine W.widen (k := 600000) (n := 7302250) hcl hsl ?_
      exact lw_ret hx hb hr hlocks dL_law_710
    · have hi : i + 5 ≤ L := by
        have h1 : ¬ ((Int32.ofNat L - 5).toInt < (nI i).toInt) := fun u => hgt (Int32.lt_iff_toInt_lt.mpr u)
        rw [show (Int32.ofNat L - 5).toInt = (L : Int) - (5 : Nat) from pk_sub_toInt (b := 5) (by omega) (by omega), nI_toInt (by omega)] at h1
        omega
      have i0 : vp_in (nI i) L := vp_in_nI (by omega) (by omega)
      have nxt : ∀ (M' : Mm) (H1 : Heap) (locs1 : List Loc), Inv M' → Wo G M' H1 → va_S (Asb G.2.2.2.2.2) s.heap H1 locs1 → W p G.1 e room_1 s m #[Value.ref b] below meth c H1 locs1 cells slots (lw_Z below #[Value.ref b] s) (F0 m 703 ls []) := by
        intro M' H1 locs1 hI' hW' hS'
        refine lv_iinc (v := nI (i + 5)) (lv' := [(3, .int (nI (i + 5))), (0, .ref b), (1, .ref (G.2.2.1 0)), (2, .ref (G.2.2.1 51))]) hx hb dL_law_703 hl (k := 3) rfl (nI_add i 5) (by decide) rfl (fun ls hl => ?_)
        refine lv_goto (tgt := 18) hx hb dL_law_706 (by decide) ?_
        exact ih (i + 5) M' H1 locs1 ls (by omega) (by omega) hI' hW' hS' (lv_sub hl [1, 2, 3, 0] rfl)
      refine lv_aload_n hx hb dL_law_26 rfl (lv_at hl 0 rfl) ?_
      refine lv_iload_n hx hb dL_law_27 rfl (lv_at hl 3 rfl) ?_
      refine va_sld hx hb hX hbl hbA hS i0 dL_law_28 ?_
      refine lv_bipush (v := 31) hx hb dL_law_29 (by decide) ?_
      refine lv_iand hx hb dL_law_31 ?_
      generalize xs (nI i).toNatClampNeg &&& 31 = k
      by_cases ho : k.toInt < 0 ∨ 18 < k.toInt
      · exact lv_tableOut (tgt := 703) hx hb dL_law_32 ho (by decide) (nxt M H locs hI hW hS)
      · have h1 : ¬ k.toInt < 0 := fun u => ho (Or.inl u)
        have h2 : ¬ 18 < k.toInt := fun u => ho (Or.inr u)
        obtain ⟨j, hj, e1⟩ : ∃ j : Nat, j < 19 ∧ k.toInt = (j : Int) := ⟨k.toInt.toNat, by omega, by omega⟩
        have hc : j = 0 ∨ j = 1 ∨ j = 2 ∨ j = 3 ∨ j = 4 ∨ j = 5 ∨ j = 6 ∨ j = 7 ∨ j = 8 ∨ j = 9 ∨ j = 10 ∨ j = 11 ∨ j = 12 ∨ j = 13 ∨ j = 14 ∨ j = 15 ∨ j = 16 ∨ j = 17 ∨ j = 18 := by omega
        rcases hc with rfl | rfl | rfl | rfl | rfl | rfl | rfl | rfl | rfl | rfl | rfl | rfl | rfl | rfl | rfl | rfl | rfl | rfl | rfl
        · exact lv_tableIn (off := 92) (tgt := 124) hx hb dL_law_32 h1 h2 (by rw [e1]; rfl) (by decide) (la_panel C0 hC hbs hL hi hl hI hW hS hcl hsl nxt)
        · exact lv_tableIn (off := 125) (tgt := 157) hx hb dL_law_32 h1 h2 (by rw [e1]; rfl) (by decide) (la_bound C0 hC hbs hL hi hl hI hW hS hcl hsl nxt)
        · exact lv_tableIn (off := 158) (tgt := 190) hx hb dL_law_32 h1 h2 (by rw [e1]; rfl) (by decide) (la_set C0 hC hbs hL hi hl hI hW hS hcl hsl nxt)
        · exact lv_tableIn (off := 201) (tgt := 233) hx hb dL_law_32 h1 h2 (by rw [e1]; rfl) (by decide) (la_press C0 hC hbs hL hi hl hI hW hS hcl hsl nxt)
        · exact lv_tableIn (off := 244) (tgt := 276) hx hb dL_law_32 h1 h2 (by rw [e1]; rfl) (by decide) (la_wipe C0 hC hbs hL hi hl hI hW hS hcl hsl nxt)
        · exact lv_tableIn (off := 257) (tgt := 289) hx hb dL_law_32 h1 h2 (by rw [e1]; rfl) (by decide) (la_lose C0 hC hbs hL hi hl hI hW hS hcl hsl nxt)
        · exact lv_tableIn (off := 280) (tgt := 312) hx hb dL_law_32 h1 h2 (by rw [e1]; rfl) (by decide) (la_frame C0 hC hbs hL hi hl hI hW hS hcl hsl nxt)
        · exact lv_tableIn (off := 303) (tgt := 335) hx hb dL_law_32 h1 h2 (by rw [e1]; rfl) (by decide) (la_drift C0 hC hbs hL hi hl hI hW hS hcl hsl nxt)
        · exact lv_tableIn (off := 336) (tgt := 368) hx hb dL_law_32 h1 h2 (by rw [e1]; rfl) (by decide) (la_told C0 hC hbs hL hi hl hI hW hS hcl hsl nxt)
        · exact lv_tableIn (off := 359) (tgt := 391) hx hb dL_law_32 h1 h2 (by rw [e1]; rfl) (by decide) (la_cell C0 hC hbs hL hi hl hI hW hS hcl hsl nxt)
        · exact lv_tableIn (off := 402) (tgt := 434) hx hb dL_law_32 h1 h2 (by rw [e1]; rfl) (by decide) (la_contact C0 hC hbs hL hi hl hI hW hS hcl hsl nxt)
        · exact lv_tableIn (off := 435) (tgt := 467) hx hb dL_law_32 h1 h2 (by rw [e1]; rfl) (by decide) (la_track C0 hC hbs hL hi hl hI hW hS hcl hsl nxt)
        · exact lv_tableIn (off := 468) (tgt := 500) hx hb dL_law_32 h1 h2 (by rw [e1]; rfl) (by decide) (la_named C0 hC hbs hL hi hl hI hW hS hcl hsl nxt)
        · exact lv_tableIn (off := 491) (tgt := 523) hx hb dL_law_32 h1 h2 (by rw [e1]; rfl) (by decide) (la_paired C0 hC hbs hL hi hl hI hW hS hcl hsl nxt)
        · exact lv_tableIn (off := 514) (tgt := 546) hx hb dL_law_32 h1 h2 (by rw [e1]; rfl) (by decide) (la_rule C0 hC hbs hL hi hl hI hW hS hcl hsl nxt)
        · exact lv_tableIn (off := 567) (tgt := 599) hx hb dL_law_32 h1 h2 (by rw [e1]; rfl) (by decide) (la_ghosts C0 hC hbs hL hi hl hI hW hS hcl hsl nxt)
        · exact lv_tableIn (off := 611) (tgt := 643) hx hb dL_law_32 h1 h2 (by rw [e1]; rfl) (by decide) (la_digest C0 hC hbs hL hi hl hI hW hS hcl hsl nxt)
        · exact lv_tableIn (off := 625) (tgt := 657) hx hb dL_law_32 h1 h2 (by rw [e1]; rfl) (by decide) (la_keep C0 hC hbs hL hi hl hI hW hS hcl hsl nxt)
        · exact lv_tableIn (off := 648) (tgt := 680) hx hb dL_law_32 h1 h2 (by rw [e1]; rfl) (by decide) (la_goBack C0 hC hbs hL hi hl hI hW hS hcl hsl nxt)
