/-! a FRAME, whole -/
section PASS
variable {N : Nat → Int32} {R C c t T P D L s : Nat}
noncomputable def wP (N : Nat → Int32) (R C T P s : Nat) : Nat → Nat → Nat := wA C (ptR (con3 N R C T P s)) (qkR (con3 N R C T P s))
noncomputable def folP (N : Nat → Int32) (R C t T P D L s : Nat) : (Nat → Int32) × Nat := folR (con3 N R C T P s) (chs (wP N R C T P s) t (con3c N R C T P s) D) (wP N R C T P s) (nI L) t (con3c N R C T P s) (usd (wP N R C T P s) t (con3c N R C T P s) D t)
noncomputable def trnP (N : Nat → Int32) (R C t T P D L s : Nat) : Nat → Int32 := trR (folP N R C t T P D L s).1 C (folP N R C t T P D L s).2
noncomputable def pasR (N : Nat → Int32) (R C t T P D L s : Nat) : Nat → Int32 := upd (upd (trnP N R C t T P D L s) 6 (trnP N R C t T P D L s 6 + 1)) 14 0
/-- what following keeps -/
theorem fol_ok (g : Gd N R C c t T P D L) : (folP N R C t T P D L s).2 ≤ 6 ∧ (folP N R C t T P D L s).1 10 = nI (folP N R C t T P D L s).2 ∧ (∀ k, k < 280 → k ≠ 10 → k ≠ 11 → k ≠ 12 → k ≠ 13 → (folP N R C t T P D L s).1 k = con3 N R C T P s k) ∧ ∃ F x, F ≤ 9030 ∧ con3 N R C T P s 6 = nI F ∧ x ≤ 6 * F + 6 ∧ (folP N R C t T P D L s).1 13 = nI x ∧ nmP (folP N R C t T P D L s).1 (folP N R C t T P D L s).2 x R C := by
  have g3 := gd_con (s := s) g
  obtain ⟨⟨⟨r1, r2⟩, ⟨c1, c2⟩, hcc, htt⟩, hb, ⟨n0, n1, n2, n3, n4, n5, n8, n10⟩, ⟨F, f1, f2, x, f3, f4, y, f5, f6⟩, hSt, hs, hw, hraw, hgr, hpk, hcon, htr⟩ := id g3
  have hch : ∀ i k, chs (wP N R C T P s) t (con3c N R C T P s) D i = some k → k < 6 ∧ ∃ p, p < R * C ∧ con3 N R C T P s (274 + k) = nI p := fun i k h => by
    have := (chs_in h).1
    obtain ⟨p, a, b, -⟩ := hcon k this
    exact ⟨by omega, p, a, b⟩
  have ok := fwd_ok (A := con3 N R C T P s) (ch := chs (wP N R C T P s) t (con3c N R C T P s) D) (w := wP N R C T P s) (L := nI L) t
  obtain ⟨⟨y', y1, y2⟩, p1⟩ := fwd_nm (A := con3 N R C T P s) (w := wP N R C T P s) (L := nI L) (R := R) (C := C) f5 f6 htr hch t (Nat.le_refl _)
  unfold folP folR
  generalize hl : (fwd (con3 N R C T P s) (chs (wP N R C T P s) t (con3c N R C T P s) D) (wP N R C T P s) (nI L) t).2 = l at *
  generalize hA : (fwd (con3 N R C T P s) (chs (wP N R C T P s) t (con3c N R C T P s) D) (wP N R C T P s) (nI L) t).1 = A at *
  generalize hu : usd (wP N R C T P s) t (con3c N R C T P s) D t = u at *
  have l6 : l ≤ 6 := by have := ok.1; omega
  have B10 : upd A 10 (nI l) 10 = nI l := upd_at
  have bo := bgn_ok (s := u) l6 B10 (con3c N R C T P s)
  have B13 : upd A 10 (nI l) 13 = nI x := by rw [upd_ne (by omega), ok.2.1 13 (by omega) (by omega) (by omega)]; exact f4
  obtain ⟨x', x1, x2, x3⟩ := bgn_nm (B := upd A 10 (nI l)) (s := u) (R := R) (C := C) (m := con3c N R C T P s) l6 B10 B13 ⟨⟨y', fun i hi => ⟨by rw [upd_ne (by omega)]; exact (y1 i hi).1, (y1 i hi).2.1⟩, y2⟩, fun j hj => by rw [upd_ne (by omega)]; exact p1 j hj⟩ (fun k hk => by
    obtain ⟨p, a, b, -⟩ := hcon k hk
    exact ⟨p, a, by rw [upd_ne (by omega), ok.2.1 (274 + k) (by omega) (by omega) (by omega)]; exact b⟩) _ (Nat.le_refl _) hcc
  refine ⟨bo.1, bo.2.2.1, fun k a b d e f => ?_, F, x', f1, f2, by omega, x2, x3⟩
  rw [bo.2.2.2 k a f b, upd_ne b, ok.2.1 k a d e]
theorem ru_S {a c d : Int32} {n : Nat} : ∃ S, S ≤ 5 ∧ ruN a n c d = nI S := by
  unfold ruN
  split
  · exact ⟨0, by omega, rfl⟩
  · split
    · exact ⟨5, by omega, rfl⟩
    · split
      · split
        · split
          · exact ⟨1, by omega, rfl⟩
          · exact ⟨2, by omega, rfl⟩
        · split
          · exact ⟨2, by omega, rfl⟩
          · split
            · exact ⟨2, by omega, rfl⟩
            · exact ⟨1, by omega, rfl⟩
      · split
        · split
          · exact ⟨3, by omega, rfl⟩
          · exact ⟨4, by omega, rfl⟩
        · split
          · exact ⟨4, by omega, rfl⟩
          · exact ⟨3, by omega, rfl⟩
theorem fol_pt (g : Gd N R C c t T P D L) : ∀ j, j < (folP N R C t T P D L s).2 → ptR (folP N R C t T P D L s).1 j < R * C ∧ (folP N R C t T P D L s).1 (281 + 6 * j) = nI (ptR (folP N R C t T P D L s).1 j) := fun j hj => by
  obtain ⟨-, -, -, F, x, -, -, -, -, -, h⟩ := fol_ok (s := s) g
  have h64 := rc_le g.1.1.2 g.1.2.1.2
  exact pk_fn h h64 j hj
/-- the row after a FRAME keeps the ranges -/
theorem gd_pas (g : Gd N R C c t T P D L) {F : Nat} (hF : F < 9030) (n6 : N 6 = nI F) : Gd (pasR N R C t T P D L s) R C (con3c N R C T P s) (folP N R C t T P D L s).2 T P D L ∧ pasR N R C t T P D L s 6 = nI (F + 1) := by
  have g3 := gd_con (s := s) g
  have h64 := rc_le g.1.1.2 g.1.2.1.2
  obtain ⟨f1, f2, f3, F', x, g1, g2, g3', g4, g5⟩ := fol_ok (s := s) g
  have pt := fol_pt (s := s) g
  obtain ⟨⟨⟨r1, r2⟩, ⟨c1, c2⟩, hcc, htt⟩, hb, ⟨n0, n1, n2, n3, n4, n5, n8, n10⟩, -, hSt, hs, ⟨w, w1, w2⟩, hraw, hgr, hpk, hcon, htr⟩ := id g3
  have c6 : con3 N R C T P s 6 = nI F := by
    rw [← n6]
    unfold con3 conR
    rw [rw3_lo (by omega) (by omega) (by omega), pkN_lo (by omega), rd_k h64 (by omega) (by omega) (by omega)]
  have FF : F' = F := (nI_eq (by omega) (by omega)).mp (g2.symm.trans c6)
  subst FF
  have wl : wyR (folP N R C t T P D L s).1 C (folP N R C t T P D L s).2 ≤ 14 := wyR_le r2 (by omega) c2 pt
  have tr : ∀ k, k ≠ 7 → k ≠ 17 → trnP N R C t T P D L s k = (folP N R C t T P D L s).1 k := fun k a b => by
    unfold trnP trR
    rw [upd_ne b, upd_ne a]
  have t6 : trnP N R C t T P D L s 6 = nI F' := by rw [tr 6 (by omega) (by omega), f3 6 (by omega) (by omega) (by omega) (by omega) (by omega)]; exact g2
  have e6 : pasR N R C t T P D L s 6 = nI (F' + 1) := by
    unfold pasR
    rw [upd_ne (by omega), upd_at, t6, nI_1]
  have e : ∀ k, k ≠ 6 → k ≠ 7 → k ≠ 14 → k ≠ 17 → pasR N R C t T P D L s k = (folP N R C t T P D L s).1 k := fun k a b d f => by
    unfold pasR
    rw [upd_ne d, upd_ne a, tr k b f]
  have e3 : ∀ k, k < 280 → k ≠ 6 → k ≠ 7 → k ≠ 14 → k ≠ 17 → k ≠ 10 → k ≠ 11 → k ≠ 12 → k ≠ 13 → pasR N R C t T P D L s k = con3 N R C T P s k := fun k h0 a b d f g h i j => by
    rw [e k a b d f, f3 k h0 g h i j]
  have q : ∀ k, k < 6 → pasR N R C t T P D L s k = con3 N R C T P s k := fun k hk => e3 k (by omega) (by omega) (by omega) (by omega) (by omega) (by omega) (by omega) (by omega) (by omega)
  have q2 : ∀ k, 18 ≤ k → k < 280 → pasR N R C t T P D L s k = con3 N R C T P s k := fun k hk hk' => e3 k (by omega) (by omega) (by omega) (by omega) (by omega) (by omega) (by omega) (by omega) (by omega)
  obtain ⟨⟨y, y1, y2⟩, pp⟩ := g5
  refine ⟨⟨⟨⟨r1, r2⟩, ⟨c1, c2⟩, hcc, f1⟩, hb, ⟨by rw [q 0 (by omega)]; exact n0, by rw [q 1 (by omega)]; exact n1, by rw [q 2 (by omega)]; exact n2, by rw [q 3 (by omega)]; exact n3, by rw [q 4 (by omega)]; exact n4, by rw [q 5 (by omega)]; exact n5, by rw [e3 8 (by omega) (by omega) (by omega) (by omega) (by omega) (by omega) (by omega) (by omega) (by omega)]; exact n8, by rw [e 10 (by omega) (by omega) (by omega) (by omega)]; exact f2⟩, ⟨F' + 1, by omega, e6, x, by omega, by rw [e 13 (by omega) (by omega) (by omega) (by omega)]; exact g4, y, fun i hi => by rw [e _ (by omega) (by omega) (by omega) (by omega)]; exact y1 i hi, y2⟩, ?_, ⟨0, Nat.two_pow_pos R, ?_⟩, ?_, fun k hk => ?_, fun k hk => ?_, fun k hk => ?_, fun i hi => ?_, fun j hj => ?_⟩, e6⟩
  · obtain ⟨S, s1, s2⟩ := ru_S (a := (folP N R C t T P D L s).1 7) (n := (folP N R C t T P D L s).2) (c := (folP N R C t T P D L s).1 284) (d := nI (adf (wyR (folP N R C t T P D L s).1 C (folP N R C t T P D L s).2) ((folP N R C t T P D L s).1 17).toNatClampNeg))
    refine ⟨S, s1, ?_⟩
    unfold pasR
    rw [upd_ne (by omega), upd_ne (by omega)]
    unfold trnP trR
    rw [upd_ne (by omega), upd_at]
    exact s2
  · unfold pasR
    rw [upd_at]
    rfl
  · have e17 : (folP N R C t T P D L s).1 17 = nI w := by rw [f3 17 (by omega) (by omega) (by omega) (by omega) (by omega)]; exact w2
    unfold pasR
    rw [upd_ne (by omega), upd_ne (by omega)]
    unfold trnP trR
    rw [upd_at]
    split
    · exact ⟨_, wl, rfl⟩
    · exact ⟨w, w1, e17⟩
  · rw [q2 _ (by omega) (by omega)]
    exact hraw k hk
  · rw [q2 _ (by omega) (by omega)]
    exact hgr k hk
  · rw [q2 (210 + k) (by omega) (by omega), q2 (146 + k) (by omega) (by omega)]
    exact hpk k hk
  · obtain ⟨p, a, b, d⟩ := hcon i hi
    exact ⟨p, a, by rw [q2 _ (by omega) (by omega)]; exact b, by rw [q2 _ (by omega) (by omega)]; exact d⟩
  · rw [e _ (by omega) (by omega) (by omega) (by omega)]
    exact pp j hj
theorem m_passes {Q : Qt} {M : Mm} (g : Gd N R C c t T P D L) (hs : s < 2 ^ R) (n14 : N 14 = nI s) (hN : M.1 52 = N) (hQ : ∀ M', FrN M M' → M'.1 52 = pasR N R C t T P D L s → Q none M') : kX7_passes [.ref 51] M Q := by
  have g3 := gd_con (s := s) g
  obtain ⟨⟨⟨r1, r2⟩, ⟨c1, c2⟩, hcc, htt⟩, ⟨-, ⟨p1, p2⟩, -, -⟩, ⟨n0, n1, n2, n3, n4, n5, n8, n10⟩, -, -, -, ⟨w, w1, w2⟩, -⟩ := id g3
  obtain ⟨-, -, ⟨m0, m1, m2, m3, -⟩, -⟩ := id g
  have h64 := rc_le r2 c2
  have r0 : rdN N R C s T (R * C) 0 = nI R := (rd_k h64 (by omega) (by omega) (by omega)).trans m0
  have r1' : rdN N R C s T (R * C) 1 = nI C := (rd_k h64 (by omega) (by omega) (by omega)).trans m1
  have r3 : rdN N R C s T (R * C) 3 = nI P := (rd_k h64 (by omega) (by omega) (by omega)).trans m3
  simp only [eX7_passes_0, eX7_passes_1, eX7_passes_4, eX7_passes_5, eX7_passes_8, eX7_passes_9, eX7_passes_12, eX7_passes_13, eX7_passes_16, eX7_passes_17, eX7_passes_20, eX7_passes_22, eX7_passes_23, eX7_passes_24, eX7_passes_25, eX7_passes_26, eX7_passes_27, eX7_passes_28, eX7_passes_31, eX7_passes_33, eX7_passes_34, eX7_passes_35, eX7_passes_in, Option.toList_some, Option.toList_none, List.cons_append, List.nil_append, b2_0, Classical.not_not, false_implies, true_implies, implies_true, true_and, and_true, not_true_eq_false, not_false_eq_true]
  refine m_reads g hs n14 hN (fun M1 F1 N1 => ?_)
  simp only [eX7_passes_0, eX7_passes_1, eX7_passes_4, eX7_passes_5, eX7_passes_8, eX7_passes_9, eX7_passes_12, eX7_passes_13, eX7_passes_16, eX7_passes_17, eX7_passes_20, eX7_passes_22, eX7_passes_23, eX7_passes_24, eX7_passes_25, eX7_passes_26, eX7_passes_27, eX7_passes_28, eX7_passes_31, eX7_passes_33, eX7_passes_34, eX7_passes_35, eX7_passes_in, Option.toList_some, Option.toList_none, List.cons_append, List.nil_append, b2_0, Classical.not_not, false_implies, true_implies, implies_true, true_and, and_true, not_true_eq_false, not_false_eq_true]
  refine m_climbs (by omega) (by omega) r2 c2 r0 r1' r3 p2 N1 (fun M2 F2 N2 => ?_)
  simp only [eX7_passes_0, eX7_passes_1, eX7_passes_4, eX7_passes_5, eX7_passes_8, eX7_passes_9, eX7_passes_12, eX7_passes_13, eX7_passes_16, eX7_passes_17, eX7_passes_20, eX7_passes_22, eX7_passes_23, eX7_passes_24, eX7_passes_25, eX7_passes_26, eX7_passes_27, eX7_passes_28, eX7_passes_31, eX7_passes_33, eX7_passes_34, eX7_passes_35, eX7_passes_in, Option.toList_some, Option.toList_none, List.cons_append, List.nil_append, b2_0, Classical.not_not, false_implies, true_implies, implies_true, true_and, and_true, not_true_eq_false, not_false_eq_true]
  refine m_follows g3.PA N2 n5 (fun M3 F3 N3 => ?_)
  simp only [eX7_passes_0, eX7_passes_1, eX7_passes_4, eX7_passes_5, eX7_passes_8, eX7_passes_9, eX7_passes_12, eX7_passes_13, eX7_passes_16, eX7_passes_17, eX7_passes_20, eX7_passes_22, eX7_passes_23, eX7_passes_24, eX7_passes_25, eX7_passes_26, eX7_passes_27, eX7_passes_28, eX7_passes_31, eX7_passes_33, eX7_passes_34, eX7_passes_35, eX7_passes_in, Option.toList_some, Option.toList_none, List.cons_append, List.nil_append, b2_0, Classical.not_not, false_implies, true_implies, implies_true, true_and, and_true, not_true_eq_false, not_false_eq_true]
  obtain ⟨f1, f2, f3, -⟩ := fol_ok (s := s) g
  refine m_turn (N := (folP N R C t T P D L s).1) (n := (folP N R C t T P D L s).2) (pt := ptR (folP N R C t T P D L s).1) (w := w) r2 (by omega) c2 f1 ?_ f2 w1 ?_ (fol_pt g) N3 (fun M4 F4 N4 => ?_)
  · rw [f3 1 (by omega) (by omega) (by omega) (by omega) (by omega)]
    exact n1
  · rw [f3 17 (by omega) (by omega) (by omega) (by omega) (by omega)]
    exact w2
  · simp only [eX7_passes_0, eX7_passes_1, eX7_passes_4, eX7_passes_5, eX7_passes_8, eX7_passes_9, eX7_passes_12, eX7_passes_13, eX7_passes_16, eX7_passes_17, eX7_passes_20, eX7_passes_22, eX7_passes_23, eX7_passes_24, eX7_passes_25, eX7_passes_26, eX7_passes_27, eX7_passes_28, eX7_passes_31, eX7_passes_33, eX7_passes_34, eX7_passes_35, eX7_passes_in, v6, tn_6, v14, tn_14, Option.toList_some, Option.toList_none, List.cons_append, List.nil_append, b2_0, Classical.not_not, false_implies, true_implies, implies_true, true_and, and_true, not_true_eq_false, not_false_eq_true]
    refine hQ _ ((((F1.tr F2).tr F3).tr F4).set (by omega) |>.set (by omega)) ?_
    rw [setI_at, setI_at, N4]
    rfl
theorem c_take {Q : Qt} {M : Mm} (g : Gd N R C c t T P D L) (hs : s < 2 ^ R) (n14 : N 14 = nI s) (hR : RV M.1 1 c t N) (hQ : ∀ M', FrD M M' → RV M'.1 1 (con3c N R C T P s) (folP N R C t T P D L s).2 (pasR N R C t T P D L s) → Q none M') : kX4_takeFrame [.ref 1, .ref 46] M Q := by
  have g3 := gd_con (s := s) g
  obtain ⟨⟨⟨r1, r2⟩, ⟨c1, c2⟩, hcc, htt⟩, ⟨-, ⟨p1, p2⟩, hD, -⟩, ⟨n0, n1, n2, n3, n4, n5, n8, n10⟩, -, -, -, ⟨w, w1, w2⟩, -⟩ := id g3
  obtain ⟨-, -, ⟨m0, m1, m2, m3, -⟩, -⟩ := id g
  have h64 := rc_le r2 c2
  have r0 : rdN N R C s T (R * C) 0 = nI R := (rd_k h64 (by omega) (by omega) (by omega)).trans m0
  have r1' : rdN N R C s T (R * C) 1 = nI C := (rd_k h64 (by omega) (by omega) (by omega)).trans m1
  have r3 : rdN N R C s T (R * C) 3 = nI P := (rd_k h64 (by omega) (by omega) (by omega)).trans m3
  have b0 : vp_in 0 4 ↔ True := vpl 0 rfl (by decide) (by decide)
  have b1 : vp_in 1 4 ↔ True := vpl 1 rfl (by decide) (by decide)
  have b3 : vp_in 3 4 ↔ True := vpl 3 rfl (by decide) (by decide)
  have e20 : M.1 2 0 = nI T := (hR.lo (k := 2) (by omega)).trans m2
  simp only [eX4_takeFrame_0, eX4_takeFrame_1, eX4_takeFrame_4, eX4_takeFrame_5, eX4_takeFrame_8, eX4_takeFrame_9, eX4_takeFrame_10, eX4_takeFrame_13, eX4_takeFrame_14, eX4_takeFrame_17, eX4_takeFrame_20, eX4_takeFrame_21, eX4_takeFrame_24, eX4_takeFrame_25, eX4_takeFrame_28, eX4_takeFrame_29, eX4_takeFrame_32, eX4_takeFrame_33, eX4_takeFrame_34, eX4_takeFrame_37, eX4_takeFrame_38, eX4_takeFrame_39, eX4_takeFrame_42, eX4_takeFrame_43, eX4_takeFrame_46, eX4_takeFrame_47, eX4_takeFrame_50, eX4_takeFrame_51, eX4_takeFrame_52, eX4_takeFrame_55, eX4_takeFrame_56, eX4_takeFrame_57, eX4_takeFrame_60, eX4_takeFrame_61, eX4_takeFrame_64, eX4_takeFrame_65, eX4_takeFrame_66, eX4_takeFrame_69, eX4_takeFrame_70, eX4_takeFrame_71, eX4_takeFrame_74, eX4_takeFrame_75, eX4_takeFrame_78, eX4_takeFrame_79, eX4_takeFrame_82, eX4_takeFrame_in, b0, tn_0, e20, Option.toList_some, Option.toList_none, List.cons_append, List.nil_append, b2_0, Classical.not_not, false_implies, true_implies, implies_true, true_and, and_true, not_true_eq_false, not_false_eq_true]
  refine c_read g hs n14 hR (fun M1 F1 V1 => ?_)
  simp only [eX4_takeFrame_0, eX4_takeFrame_1, eX4_takeFrame_4, eX4_takeFrame_5, eX4_takeFrame_8, eX4_takeFrame_9, eX4_takeFrame_10, eX4_takeFrame_13, eX4_takeFrame_14, eX4_takeFrame_17, eX4_takeFrame_20, eX4_takeFrame_21, eX4_takeFrame_24, eX4_takeFrame_25, eX4_takeFrame_28, eX4_takeFrame_29, eX4_takeFrame_32, eX4_takeFrame_33, eX4_takeFrame_34, eX4_takeFrame_37, eX4_takeFrame_38, eX4_takeFrame_39, eX4_takeFrame_42, eX4_takeFrame_43, eX4_takeFrame_46, eX4_takeFrame_47, eX4_takeFrame_50, eX4_takeFrame_51, eX4_takeFrame_52, eX4_takeFrame_55, eX4_takeFrame_56, eX4_takeFrame_57, eX4_takeFrame_60, eX4_takeFrame_61, eX4_takeFrame_64, eX4_takeFrame_65, eX4_takeFrame_66, eX4_takeFrame_69, eX4_takeFrame_70, eX4_takeFrame_71, eX4_takeFrame_74, eX4_takeFrame_75, eX4_takeFrame_78, eX4_takeFrame_79, eX4_takeFrame_82, eX4_takeFrame_in, Option.toList_some, Option.toList_none, List.cons_append, List.nil_append, b2_0, Classical.not_not, false_implies, true_implies, implies_true, true_and, and_true, not_true_eq_false, not_false_eq_true]
  refine c_climb (by omega) (by omega) r2 c2 r0 r1' V1 (fun M2 F2 V2 => ?_)
  have e21 : M2.1 2 1 = nI P := (V2.lo (k := 3) (by omega)).trans ((pkN_lo (by omega)).trans r3)
  simp only [eX4_takeFrame_0, eX4_takeFrame_1, eX4_takeFrame_4, eX4_takeFrame_5, eX4_takeFrame_8, eX4_takeFrame_9, eX4_takeFrame_10, eX4_takeFrame_13, eX4_takeFrame_14, eX4_takeFrame_17, eX4_takeFrame_20, eX4_takeFrame_21, eX4_takeFrame_24, eX4_takeFrame_25, eX4_takeFrame_28, eX4_takeFrame_29, eX4_takeFrame_32, eX4_takeFrame_33, eX4_takeFrame_34, eX4_takeFrame_37, eX4_takeFrame_38, eX4_takeFrame_39, eX4_takeFrame_42, eX4_takeFrame_43, eX4_takeFrame_46, eX4_takeFrame_47, eX4_takeFrame_50, eX4_takeFrame_51, eX4_takeFrame_52, eX4_takeFrame_55, eX4_takeFrame_56, eX4_takeFrame_57, eX4_takeFrame_60, eX4_takeFrame_61, eX4_takeFrame_64, eX4_takeFrame_65, eX4_takeFrame_66, eX4_takeFrame_69, eX4_takeFrame_70, eX4_takeFrame_71, eX4_takeFrame_74, eX4_takeFrame_75, eX4_takeFrame_78, eX4_takeFrame_79, eX4_takeFrame_82, eX4_takeFrame_in, b1, tn_1, e21, Option.toList_some, Option.toList_none, List.cons_append, List.nil_append, b2_0, Classical.not_not, false_implies, true_implies, implies_true, true_and, and_true, not_true_eq_false, not_false_eq_true]
  refine c_gather r2 c2 ((pkN_lo (by omega)).trans r0) ((pkN_lo (by omega)).trans r1') p2 htt V2 (fun M3 F3 V3 => ?_)
  simp only [eX4_takeFrame_0, eX4_takeFrame_1, eX4_takeFrame_4, eX4_takeFrame_5, eX4_takeFrame_8, eX4_takeFrame_9, eX4_takeFrame_10, eX4_takeFrame_13, eX4_takeFrame_14, eX4_takeFrame_17, eX4_takeFrame_20, eX4_takeFrame_21, eX4_takeFrame_24, eX4_takeFrame_25, eX4_takeFrame_28, eX4_takeFrame_29, eX4_takeFrame_32, eX4_takeFrame_33, eX4_takeFrame_34, eX4_takeFrame_37, eX4_takeFrame_38, eX4_takeFrame_39, eX4_takeFrame_42, eX4_takeFrame_43, eX4_takeFrame_46, eX4_takeFrame_47, eX4_takeFrame_50, eX4_takeFrame_51, eX4_takeFrame_52, eX4_takeFrame_55, eX4_takeFrame_56, eX4_takeFrame_57, eX4_takeFrame_60, eX4_takeFrame_61, eX4_takeFrame_64, eX4_takeFrame_65, eX4_takeFrame_66, eX4_takeFrame_69, eX4_takeFrame_70, eX4_takeFrame_71, eX4_takeFrame_74, eX4_takeFrame_75, eX4_takeFrame_78, eX4_takeFrame_79, eX4_takeFrame_82, eX4_takeFrame_in, Option.toList_some, Option.toList_none, List.cons_append, List.nil_append, b2_0, Classical.not_not, false_implies, true_implies, implies_true, true_and, and_true, not_true_eq_false, not_false_eq_true]
  have V3' : RV M3.1 1 (con3c N R C T P s) t (con3 N R C T P s) := V3
  have e31 : M3.1 3 1 = nI C := (V3'.lo (k := 1) (by omega)).trans n1
  have e22 : M3.1 2 2 = nI D := (V3'.lo (k := 4) (by omega)).trans n4
  have pc := (V3'.re hcc htt n8 n10).PC g3.PA
  refine c_pairUp pc e31 e22 (fun M4 F4 H4 _ a6 P4 => ?_)
  have V4 : RV M4.1 1 (con3c N R C T P s) t (con3 N R C T P s) := ((V3'.re hcc htt n8 n10).congr (fun a p q => F4.1 a (by omega))).rv hcc htt n8 n10
  have e23 : M4.1 2 3 = nI L := (V4.lo (k := 5) (by omega)).trans n5
  simp only [eX4_takeFrame_0, eX4_takeFrame_1, eX4_takeFrame_4, eX4_takeFrame_5, eX4_takeFrame_8, eX4_takeFrame_9, eX4_takeFrame_10, eX4_takeFrame_13, eX4_takeFrame_14, eX4_takeFrame_17, eX4_takeFrame_20, eX4_takeFrame_21, eX4_takeFrame_24, eX4_takeFrame_25, eX4_takeFrame_28, eX4_takeFrame_29, eX4_takeFrame_32, eX4_takeFrame_33, eX4_takeFrame_34, eX4_takeFrame_37, eX4_takeFrame_38, eX4_takeFrame_39, eX4_takeFrame_42, eX4_takeFrame_43, eX4_takeFrame_46, eX4_takeFrame_47, eX4_takeFrame_50, eX4_takeFrame_51, eX4_takeFrame_52, eX4_takeFrame_55, eX4_takeFrame_56, eX4_takeFrame_57, eX4_takeFrame_60, eX4_takeFrame_61, eX4_takeFrame_64, eX4_takeFrame_65, eX4_takeFrame_66, eX4_takeFrame_69, eX4_takeFrame_70, eX4_takeFrame_71, eX4_takeFrame_74, eX4_takeFrame_75, eX4_takeFrame_78, eX4_takeFrame_79, eX4_takeFrame_82, eX4_takeFrame_in, b3, tn_3, e23, Option.toList_some, Option.toList_none, List.cons_append, List.nil_append, b2_0, Classical.not_not, false_implies, true_implies, implies_true, true_and, and_true, not_true_eq_false, not_false_eq_true]
  refine c_follow (A := con3 N R C T P s) htt hcc hD H4 P4 a6 n8 n10 V4 (fun M5 F5 V5 => ?_)
  simp only [eX4_takeFrame_0, eX4_takeFrame_1, eX4_takeFrame_4, eX4_takeFrame_5, eX4_takeFrame_8, eX4_takeFrame_9, eX4_takeFrame_10, eX4_takeFrame_13, eX4_takeFrame_14, eX4_takeFrame_17, eX4_takeFrame_20, eX4_takeFrame_21, eX4_takeFrame_24, eX4_takeFrame_25, eX4_takeFrame_28, eX4_takeFrame_29, eX4_takeFrame_32, eX4_takeFrame_33, eX4_takeFrame_34, eX4_takeFrame_37, eX4_takeFrame_38, eX4_takeFrame_39, eX4_takeFrame_42, eX4_takeFrame_43, eX4_takeFrame_46, eX4_takeFrame_47, eX4_takeFrame_50, eX4_takeFrame_51, eX4_takeFrame_52, eX4_takeFrame_55, eX4_takeFrame_56, eX4_takeFrame_57, eX4_takeFrame_60, eX4_takeFrame_61, eX4_takeFrame_64, eX4_takeFrame_65, eX4_takeFrame_66, eX4_takeFrame_69, eX4_takeFrame_70, eX4_takeFrame_71, eX4_takeFrame_74, eX4_takeFrame_75, eX4_takeFrame_78, eX4_takeFrame_79, eX4_takeFrame_82, eX4_takeFrame_in, Option.toList_some, Option.toList_none, List.cons_append, List.nil_append, b2_0, Classical.not_not, false_implies, true_implies, implies_true, true_and, and_true, not_true_eq_false, not_false_eq_true]
  obtain ⟨f1, f2, f3, -⟩ := fol_ok (s := s) g
  have F5' : FrD M4 M5 := ⟨fun a h1 h2 => F5.1 a (by omega), F5.2⟩
  refine c_turn (N := (folP N R C t T P D L s).1) (n := (folP N R C t T P D L s).2) (pt := ptR (folP N R C t T P D L s).1) (w := w) r2 (by omega) c2 f1 ?_ f2 w1 ?_ (fol_pt g) V5 (fun M6 F6 V6 => ?_)
  · rw [f3 1 (by omega) (by omega) (by omega) (by omega) (by omega)]
    exact n1
  · rw [f3 17 (by omega) (by omega) (by omega) (by omega) (by omega)]
    exact w2
  · have e14 : M6.1 1 4 = trnP N R C t T P D L s 6 := V6.lo (k := 6) (by omega)
    simp only [eX4_takeFrame_0, eX4_takeFrame_1, eX4_takeFrame_4, eX4_takeFrame_5, eX4_takeFrame_8, eX4_takeFrame_9, eX4_takeFrame_10, eX4_takeFrame_13, eX4_takeFrame_14, eX4_takeFrame_17, eX4_takeFrame_20, eX4_takeFrame_21, eX4_takeFrame_24, eX4_takeFrame_25, eX4_takeFrame_28, eX4_takeFrame_29, eX4_takeFrame_32, eX4_takeFrame_33, eX4_takeFrame_34, eX4_takeFrame_37, eX4_takeFrame_38, eX4_takeFrame_39, eX4_takeFrame_42, eX4_takeFrame_43, eX4_takeFrame_46, eX4_takeFrame_47, eX4_takeFrame_50, eX4_takeFrame_51, eX4_takeFrame_52, eX4_takeFrame_55, eX4_takeFrame_56, eX4_takeFrame_57, eX4_takeFrame_60, eX4_takeFrame_61, eX4_takeFrame_64, eX4_takeFrame_65, eX4_takeFrame_66, eX4_takeFrame_69, eX4_takeFrame_70, eX4_takeFrame_71, eX4_takeFrame_74, eX4_takeFrame_75, eX4_takeFrame_78, eX4_takeFrame_79, eX4_takeFrame_82, eX4_takeFrame_in, e14, Option.toList_some, Option.toList_none, List.cons_append, List.nil_append, b2_0, Classical.not_not, false_implies, true_implies, implies_true, true_and, and_true, not_true_eq_false, not_false_eq_true]
    refine hQ _ (((((((F1.tr F2).tr F3).tr F4.FrD).tr F5').tr F6).set (by omega)).set (by omega)) ?_
    exact (V6.put (e := 6) (by decide) (by decide)).put (e := 14) (by decide) (by decide)
end PASS
