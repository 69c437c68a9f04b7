/-! the words of the tables that a contract may carry, and where they stand -/
def UW : List Cond := lw_tbl.filter goodWord
theorem mU {w : Cond} (h : w ∈ lw_tbl) (hg : goodWord w = true) : w ∈ UW := List.mem_filter.mpr ⟨h, hg⟩
theorem mU1 {w : Cond} (i : Nat) (h : tables_1_1[i]? = some w) (hg : goodWord w = true) : w ∈ UW := mU (List.mem_append_right _ (by have h := List.mem_of_getElem? h; exact List.mem_append_left _ h)) hg
theorem mU2 {w : Cond} (i : Nat) (h : tables_1_2[i]? = some w) (hg : goodWord w = true) : w ∈ UW := mU (List.mem_append_right _ (by have h := List.mem_of_getElem? h; exact List.mem_append_right _ (List.mem_append_left _ h))) hg
theorem mU3 {w : Cond} (i : Nat) (h : tables_1_3[i]? = some w) (hg : goodWord w = true) : w ∈ UW := mU (List.mem_append_right _ (by have h := List.mem_of_getElem? h; exact List.mem_append_right _ (List.mem_append_right _ (List.mem_append_left _ h)))) hg
theorem mU4 {w : Cond} (i : Nat) (h : tables_1_4[i]? = some w) (hg : goodWord w = true) : w ∈ UW := mU (List.mem_append_right _ (by have h := List.mem_of_getElem? h; exact List.mem_append_right _ (List.mem_append_right _ (List.mem_append_right _ h)))) hg
theorem mUS {y : MethodName} (i : Nat) {n : Nat} (h : lw_privs[i]? = some (y, n)) (hg : goodWord (Cond.selects y.cls y y) = true) : Cond.selects y.cls y y ∈ UW := mU (List.mem_append_left _ (List.mem_map.mpr ⟨(y, n), List.mem_of_getElem? h, rfl⟩)) hg
def uws (y : MethodName) (cc : ByteArray) (nL : Nat) (ret : Option FieldType) : List Cond := Cond.code y cc nL ret :: UW
theorem goodUW {w : Cond} (h : w ∈ UW) : (w.onTables && w.keeps) = true ∨ ∃ ty, w = .arrayClass ty := good_of_word (List.mem_filter.mp h).2
theorem goodU {y y' : MethodName} {cc cc' : ByteArray} {nL nL' : Nat} {ret ret' : Option FieldType} (h : Cond.code y' cc' nL' ret' ∈ UW) : GoodIn (uws y cc nL ret) (uws y' cc' nL' ret') := by
  intro w hw
  rcases List.mem_cons.mp hw with rfl | hw
  · exact ⟨List.mem_cons_of_mem _ h, goodUW h⟩
  · exact ⟨List.mem_cons_of_mem _ hw, goodUW hw⟩
theorem goodV {own C : String} {idx : Nat} {y y' : MethodName} {cc cc' : ByteArray} {nL nL' : Nat} {ret ret' : Option FieldType} (h1 : Cond.methodLink own idx y' ∈ UW) (h2 : Cond.instanceMethod y' ∈ UW) (h3 : Cond.selects C y' y' ∈ UW) (h4 : Cond.initialized C ∈ UW) (h : Cond.code y' cc' nL' ret' ∈ UW) : GoodIn (uws y cc nL ret) (wsV own idx C y' (uws y' cc' nL' ret')) := by
  intro w hw
  unfold wsV at hw
  rcases List.mem_append.mp hw with hw | hw
  · simp only [List.mem_cons, List.not_mem_nil, or_false] at hw
    rcases hw with rfl | rfl | rfl | rfl
    · exact ⟨List.mem_cons_of_mem _ h1, goodUW h1⟩
    · exact ⟨List.mem_cons_of_mem _ h2, goodUW h2⟩
    · exact ⟨List.mem_cons_of_mem _ h3, goodUW h3⟩
    · exact ⟨List.mem_cons_of_mem _ h4, goodUW h4⟩
  · exact goodU h w hw
theorem okF_of {own : String} {cc : ByteArray} {nL : Nat} {ret : Option FieldType} {y : MethodName} {rm : Room} {ci k idx : Nat} {C : String} {T : u_T} {N : Nat} (hc : vwCl[ci]? = some (C, T, N)) (hk : k < N) (hin : ∀ w ∈ u_ws C T N, w ∈ UW) (hl : Cond.fieldLink own idx (T k).1 (T k).2.1 (T k).2.2.1 ∈ UW) : okF (own, cc, nL, ret, uws y cc nL ret, rm) ci k idx := ⟨C, T, N, hc, hk, fun w h => List.mem_cons_of_mem _ (hin w h), List.mem_cons_of_mem _ hl⟩
theorem okP_of {own : String} {cc : ByteArray} {nL : Nat} {ret : Option FieldType} {y : MethodName} {rm : Room} {ci k idx : Nat} {C : String} {T : u_T} {N : Nat} {ty0 : Nat → FieldType} {ty : FieldType} (hc : vwCl[ci]? = some (C, T, N)) (hk : k < N) (hin : ∀ w ∈ u_ws C T N, w ∈ UW) (hl : Cond.fieldLink own idx (T k).1 (T k).2.1 (T k).2.2.1 ∈ UW) (hty : ∀ k, k < N → parseFieldDescriptor (T k).2.2.1 = some (ty0 k)) (hnm : ∀ a, a < N → ∀ b, b < N → a ≠ b → (T a).2.1 ≠ (T b).2.1) (hfin : (T k).2.2.2 = false) (hti : ty0 k = ty) : okP (own, cc, nL, ret, uws y cc nL ret, rm) ci k idx ty := ⟨C, T, N, ty0, hc, hk, fun w h => List.mem_cons_of_mem _ (hin w h), List.mem_cons_of_mem _ hl, hty, hnm, hfin, hti⟩
/-! tables as trees -/
def lf (k : Nat) (t : Tx) : Nat → Tx := fun pc => bif Nat.beq pc k then t else tNo
def nd (k : Nat) (a b : Nat → Tx) : Nat → Tx := fun pc => bif Nat.blt pc k then a pc else b pc
theorem ok_lf {G : Gt} {mi : Mi} {k : Nat} {t : Tx} (h : okT G mi k t) : ∀ pc, okT G mi pc (lf k t pc) := by
  intro pc
  unfold lf
  cases he : Nat.beq pc k with
  | true => rw [Nat.eq_of_beq_eq_true he]; exact h
  | false => exact ok_no
theorem ok_nd {G : Gt} {mi : Mi} {k : Nat} {a b : Nat → Tx} (ha : ∀ pc, okT G mi pc (a pc)) (hb : ∀ pc, okT G mi pc (b pc)) : ∀ pc, okT G mi pc (nd k a b pc) := by
  intro pc
  unfold nd
  cases Nat.blt pc k with
  | true => exact ha pc
  | false => exact hb pc
def mQ (t : Tx) (pc : Nat) : Prop := ∀ (Q Q' : Qt) (P : Kt), (∀ r M, Q r M → Q' r M) → ∀ al st M, t Q P pc al st M → t Q' P pc al st M
theorem q_lf {k : Nat} {t : Tx} (h : ∀ (Q Q' : Qt) (P : Kt), (∀ r M, Q r M → Q' r M) → ∀ al st M, t Q P k al st M → t Q' P k al st M) : ∀ (pc : Nat) (Q Q' : Qt) (P : Kt), (∀ r M, Q r M → Q' r M) → ∀ al st M, lf k t pc Q P pc al st M → lf k t pc Q' P pc al st M := by
  intro pc
  unfold lf
  cases he : Nat.beq pc k with
  | true => rw [Nat.eq_of_beq_eq_true he]; exact h
  | false => exact fun _ _ _ _ _ _ _ z => z
theorem q_nd {k : Nat} {a b : Nat → Tx} (ha : ∀ (pc : Nat) (Q Q' : Qt) (P : Kt), (∀ r M, Q r M → Q' r M) → ∀ al st M, a pc Q P pc al st M → a pc Q' P pc al st M) (hb : ∀ (pc : Nat) (Q Q' : Qt) (P : Kt), (∀ r M, Q r M → Q' r M) → ∀ al st M, b pc Q P pc al st M → b pc Q' P pc al st M) : ∀ (pc : Nat) (Q Q' : Qt) (P : Kt), (∀ r M, Q r M → Q' r M) → ∀ al st M, nd k a b pc Q P pc al st M → nd k a b pc Q' P pc al st M := by
  intro pc
  unfold nd
  cases Nat.blt pc k with
  | true => exact ha pc
  | false => exact hb pc
theorem qIret {k : Nat} (Q Q' : Qt) (P : Kt) (h : ∀ r M, Q r M → Q' r M) (al st : List Value) (M : Mm) (ht : tIret Q P k al st M) : tIret Q' P k al st M := by
  unfold tIret at ht ⊢
  split at ht
  · exact h _ _ ht
  · exact ht.elim
theorem qZret {k : Nat} (Q Q' : Qt) (P : Kt) (h : ∀ r M, Q r M → Q' r M) (al st : List Value) (M : Mm) (ht : tZret Q P k al st M) : tZret Q' P k al st M := by
  unfold tZret at ht ⊢
  split at ht
  · exact ⟨ht.1, h _ _ ht.2⟩
  · exact ht.elim
theorem qLret {k : Nat} (Q Q' : Qt) (P : Kt) (h : ∀ r M, Q r M → Q' r M) (al st : List Value) (M : Mm) (ht : tLret Q P k al st M) : tLret Q' P k al st M := by
  unfold tLret at ht ⊢
  split at ht
  · exact h _ _ ht
  · exact ht.elim
theorem qAret {k : Nat} (Q Q' : Qt) (P : Kt) (h : ∀ r M, Q r M → Q' r M) (al st : List Value) (M : Mm) (ht : tAret Q P k al st M) : tAret Q' P k al st M := by
  unfold tAret at ht ⊢
  split at ht
  · exact h _ _ ht
  · exact ht.elim
theorem qVret {k : Nat} (Q Q' : Qt) (P : Kt) (h : ∀ r M, Q r M → Q' r M) (al st : List Value) (M : Mm) (ht : tVret Q P k al st M) : tVret Q' P k al st M := by
  unfold tVret at ht ⊢
  split at ht
  · exact h _ _ ht
  · exact ht.elim
theorem and_t {a b : Prop} (h : a) : (a ∧ b) ↔ b := ⟨fun q => q.2, fun q => ⟨h, q⟩⟩
theorem and_o {a o c b : Prop} (h : a) (hc : c) : ((a ∧ o ∧ c) ∧ b) ↔ (o ∧ b) := ⟨fun q => ⟨q.1.2.1, q.2⟩, fun q => ⟨⟨h, q.1, hc⟩, q.2⟩⟩
theorem ex_t {a q k : Nat} {x : Int32} {b : Prop} (h : arrAt a = some (q, k)) : (∃ n, arrAt a = some (q, n) ∧ vp_in x n ∧ b) ↔ (vp_in x k ∧ b) := by
  constructor
  · rintro ⟨n, h1, h2⟩
    rw [h] at h1
    cases h1
    exact h2
  · exact fun z => ⟨k, h, z⟩
theorem ex_t2 {a k : Nat} {f : Nat → Prop} (h : arrAt a = some (0, k)) : (∃ n, arrAt a = some (0, n) ∧ f n) ↔ f k := by
  constructor
  · rintro ⟨n, h1, h2⟩
    rw [h] at h1
    cases h1
    exact h2
  · exact fun z => ⟨k, h, z⟩
theorem ex_c {a b ka kb z1 z2 z3 cS : Nat} {p1 p2 p3 X : Prop} (h1 : arrAt a = some (0, ka)) (h2 : arrAt b = some (0, kb)) (h3 : cS = 0) : (∃ n0 n1, arrAt a = some (0, n0) ∧ arrAt b = some (0, n1) ∧ (p1 ∧ p2 ∧ p3 ∧ z1 + z3 ≤ n0 ∧ z2 + z3 ≤ n1 ∧ cS = 0) ∧ X) ↔ ((p1 ∧ p2 ∧ p3 ∧ z1 + z3 ≤ ka ∧ z2 + z3 ≤ kb) ∧ X) := by
  constructor
  · rintro ⟨n0, n1, g1, g2, ⟨q1, q2, q3, q4, q5, q6⟩, q7⟩
    rw [h1] at g1
    rw [h2] at g2
    cases g1
    cases g2
    exact ⟨⟨q1, q2, q3, q4, q5⟩, q7⟩
  · rintro ⟨⟨q1, q2, q3, q4, q5⟩, q7⟩
    exact ⟨ka, kb, h1, h2, ⟨q1, q2, q3, q4, q5, h3⟩, q7⟩
theorem oneL_50 : ∀ j, fldAt 50 2 j = some 1 → j = 0 := by
  intro j h
  obtain ⟨ks, h1, h2⟩ := fld_spec h
  cases h1
  match j, h2 with
  | 0, _ => rfl
  | j + 1, h => cases h
theorem oneL_51 : ∀ j, fldAt 51 7 j = some 1 → j = 3 := by
  intro j h
  obtain ⟨ks, h1, h2⟩ := fld_spec h
  cases h1
  match j, h2 with
  | 0, h => cases h
  | 1, h => cases h
  | 2, h => cases h
  | 3, _ => rfl
  | 4, h => cases h
  | 5, h => cases h
  | j + 6, h => cases h
theorem u_1_45 : Cond.fieldLink RX1 9 RX1 "rows" "I" ∈ UW := mU1 45 (by decide +kernel) rfl
theorem u_1_48 : Cond.fieldLink RX1 15 RX1 "columns" "I" ∈ UW := mU1 48 (by decide +kernel) rfl
theorem u_1_51 : Cond.fieldLink RX1 18 RX1 "raw" "[I" ∈ UW := mU1 51 (by decide +kernel) rfl
theorem u_1_44 : Cond.code yJ7_fill_53178 cJ7_fill_53178 4 none ∈ UW := mU1 44 rfl rfl
theorem u_1_43 : Cond.static yJ7_fill_53178 ∈ UW := mU1 43 (by decide +kernel) rfl
theorem u_1_4 : Cond.initialized RJ7 ∈ UW := mU1 4 (by decide +kernel) rfl
theorem u_1_42 : Cond.methodLink RX1 40 yJ7_fill_53178 ∈ UW := mU1 42 (by decide +kernel) rfl
theorem u_1_54 : Cond.fieldLink RX1 22 RX1 "ground" "[I" ∈ UW := mU1 54 (by decide +kernel) rfl
theorem u_1_56 : Cond.fieldLink RX1 25 RX1 "signal" "[I" ∈ UW := mU1 56 (by decide +kernel) rfl
theorem u_1_58 : Cond.fieldLink RX1 28 RX1 "peak" "[I" ∈ UW := mU1 58 (by decide +kernel) rfl
theorem u_1_61 : Cond.fieldLink RX1 31 RX1 "lostRows" "I" ∈ UW := mU1 61 (by decide +kernel) rfl
theorem u_1_64 : Cond.fieldLink RX1 34 RX1 "touched" "I" ∈ UW := mU1 64 (by decide +kernel) rfl
theorem u_1_66 : Cond.fieldLink RX1 37 RX1 "missing" "I" ∈ UW := mU1 66 (by decide +kernel) rfl
theorem u_1_98 : Cond.fieldLink RX0 15 RX0 "count" "I" ∈ UW := mU1 98 (by decide +kernel) rfl
theorem u_1_102 : Cond.fieldLink RX0 19 RX0 "palms" "I" ∈ UW := mU1 102 (by decide +kernel) rfl
theorem u_1_130 : Cond.fieldLink RX5 27 RX5 "count" "I" ∈ UW := mU1 130 (by decide +kernel) rfl
theorem u_1_134 : Cond.fieldLink RX5 31 RX5 "nextName" "I" ∈ UW := mU1 134 (by decide +kernel) rfl
theorem u_1_136 : Cond.fieldLink RX5 34 RX5 "taps" "I" ∈ UW := mU1 136 (by decide +kernel) rfl
theorem u_1_138 : Cond.fieldLink RX5 37 RX5 "lifts" "I" ∈ UW := mU1 138 (by decide +kernel) rfl
theorem u_1_161 : Cond.fieldLink RX4 26 RX4 "grid" "LTouchPanel$Grid;" ∈ UW := mU1 161 (by decide +kernel) rfl
theorem u_2_24 : Cond.code yX1_beginAnew cX1_beginAnew 3 none ∈ UW := mU2 24 rfl rfl
theorem u_2_21 : Cond.methodLink RX4 54 yX1_beginAnew ∈ UW := mU2 21 (by decide +kernel) rfl
theorem u_2_22 : Cond.instanceMethod yX1_beginAnew ∈ UW := mU2 22 (by decide +kernel) rfl
theorem u_2_23 : Cond.selects RX1 yX1_beginAnew yX1_beginAnew ∈ UW := mU2 23 (by decide +kernel) rfl
theorem u_1_3 : Cond.initialized RX1 ∈ UW := mU1 3 (by decide +kernel) rfl
theorem u_1_163 : Cond.fieldLink RX4 33 RX4 "contacts" "LTouchPanel$Contacts;" ∈ UW := mU1 163 (by decide +kernel) rfl
theorem u_2_28 : Cond.code yX0_forget cX0_forget 1 none ∈ UW := mU2 28 rfl rfl
theorem u_2_25 : Cond.methodLink RX4 58 yX0_forget ∈ UW := mU2 25 (by decide +kernel) rfl
theorem u_2_26 : Cond.instanceMethod yX0_forget ∈ UW := mU2 26 (by decide +kernel) rfl
theorem u_2_27 : Cond.selects RX0 yX0_forget yX0_forget ∈ UW := mU2 27 (by decide +kernel) rfl
theorem u_1_5 : Cond.initialized RX0 ∈ UW := mU1 5 (by decide +kernel) rfl
theorem u_1_165 : Cond.fieldLink RX4 40 RX4 "tracks" "LTouchPanel$Tracks;" ∈ UW := mU1 165 (by decide +kernel) rfl
theorem u_2_32 : Cond.code yX5_forget cX5_forget 1 none ∈ UW := mU2 32 rfl rfl
theorem u_2_29 : Cond.methodLink RX4 61 yX5_forget ∈ UW := mU2 29 (by decide +kernel) rfl
theorem u_2_30 : Cond.instanceMethod yX5_forget ∈ UW := mU2 30 (by decide +kernel) rfl
theorem u_2_31 : Cond.selects RX5 yX5_forget yX5_forget ∈ UW := mU2 31 (by decide +kernel) rfl
theorem u_1_6 : Cond.initialized RX5 ∈ UW := mU1 6 (by decide +kernel) rfl
theorem u_1_167 : Cond.fieldLink RX4 44 RX4 "frames" "I" ∈ UW := mU1 167 (by decide +kernel) rfl
theorem u_1_169 : Cond.fieldLink RX4 48 RX4 "state" "I" ∈ UW := mU1 169 (by decide +kernel) rfl
theorem u_1_171 : Cond.fieldLink RX4 51 RX4 "wayAtThree" "I" ∈ UW := mU1 171 (by decide +kernel) rfl
theorem u_2_15 : Cond.code yX6_within cX6_within 3 (some .boolean) ∈ UW := mU2 15 rfl rfl
theorem u_2_14 : Cond.static yX6_within ∈ UW := mU2 14 (by decide +kernel) rfl
theorem u_1_1 : Cond.initialized RX6 ∈ UW := mU1 1 (by decide +kernel) rfl
theorem u_2_13 : Cond.methodLink RX6 40 yX6_within ∈ UW := mU2 13 (by decide +kernel) rfl
theorem u_2_16 : Cond.constant RX6 44 (-1000000002) ∈ UW := mU2 16 (by decide +kernel) rfl
theorem u_1_230 : Cond.fieldLink RX6 12 RX6 "now" "LTouchPanel$Scene;" ∈ UW := mU1 230 (by decide +kernel) rfl
theorem u_2_20 : Cond.code yX4_beginAnew cX4_beginAnew 3 none ∈ UW := mU2 20 rfl rfl
theorem u_2_17 : Cond.methodLink RX6 45 yX4_beginAnew ∈ UW := mU2 17 (by decide +kernel) rfl
theorem u_2_18 : Cond.instanceMethod yX4_beginAnew ∈ UW := mU2 18 (by decide +kernel) rfl
theorem u_2_19 : Cond.selects RX4 yX4_beginAnew yX4_beginAnew ∈ UW := mU2 19 (by decide +kernel) rfl
theorem u_1_2 : Cond.initialized RX4 ∈ UW := mU1 2 (by decide +kernel) rfl
theorem u_1_162 : Cond.fieldLink RX6 49 RX4 "grid" "LTouchPanel$Grid;" ∈ UW := mU1 162 (by decide +kernel) rfl
theorem u_2_36 : Cond.code yX1_cells cX1_cells 1 (some .int) ∈ UW := mU2 36 rfl rfl
theorem u_2_33 : Cond.methodLink RX6 53 yX1_cells ∈ UW := mU2 33 (by decide +kernel) rfl
theorem u_2_34 : Cond.instanceMethod yX1_cells ∈ UW := mU2 34 (by decide +kernel) rfl
theorem u_2_35 : Cond.selects RX1 yX1_cells yX1_cells ∈ UW := mU2 35 (by decide +kernel) rfl
theorem u_3_175 : Cond.fieldLink RX7 7 RX7 "now" "[I" ∈ UW := mU3 175 (by decide +kernel) rfl
theorem u_3_201 : Cond.code yX7_in cX7_in 3 (some .boolean) ∈ UW := mU3 201 rfl rfl
theorem u_3_200 : Cond.static yX7_in ∈ UW := mU3 200 (by decide +kernel) rfl
theorem u_1_9 : Cond.initialized RX7 ∈ UW := mU1 9 (by decide +kernel) rfl
theorem u_3_199 : Cond.methodLink RX7 30 yX7_in ∈ UW := mU3 199 (by decide +kernel) rfl
theorem u_3_202 : Cond.constant RX7 38 (-1000000002) ∈ UW := mU3 202 (by decide +kernel) rfl
theorem u_3_174 : Cond.code yX7_begins cX7_begins 4 none ∈ UW := mU3 174 rfl rfl
theorem u_3_171 : Cond.methodLink RX7 26 yX7_begins ∈ UW := mU3 171 (by decide +kernel) rfl
theorem u_3_173 : Cond.instanceMethod yX7_begins ∈ UW := mU3 173 (by decide +kernel) rfl
theorem u_s23 : Cond.selects RX7 yX7_begins yX7_begins ∈ UW := mUS (y := yX7_begins) (n := 6) 23 (by decide +kernel) rfl
theorem u_2_41 : Cond.fieldLink RX6 59 RX6 "LEAST_BOUNDS" "[I" ∈ UW := mU2 41 (by decide +kernel) rfl
theorem u_2_43 : Cond.fieldLink RX6 63 RX6 "MOST_BOUNDS" "[I" ∈ UW := mU2 43 (by decide +kernel) rfl
theorem u_1_160 : Cond.fieldLink RX6 66 RX4 "bounds" "[I" ∈ UW := mU1 160 (by decide +kernel) rfl
theorem u_2_52 : Cond.code yX1_has cX1_has 3 (some .boolean) ∈ UW := mU2 52 rfl rfl
theorem u_2_49 : Cond.methodLink RX6 69 yX1_has ∈ UW := mU2 49 (by decide +kernel) rfl
theorem u_2_50 : Cond.instanceMethod yX1_has ∈ UW := mU2 50 (by decide +kernel) rfl
theorem u_2_51 : Cond.selects RX1 yX1_has yX1_has ∈ UW := mU2 51 (by decide +kernel) rfl
theorem u_2_53 : Cond.constant RX6 73 (-1000000001) ∈ UW := mU2 53 (by decide +kernel) rfl
theorem u_2_57 : Cond.code yX1_at cX1_at 3 (some .int) ∈ UW := mU2 57 rfl rfl
theorem u_2_54 : Cond.methodLink RX6 74 yX1_at ∈ UW := mU2 54 (by decide +kernel) rfl
theorem u_2_55 : Cond.instanceMethod yX1_at ∈ UW := mU2 55 (by decide +kernel) rfl
theorem u_2_56 : Cond.selects RX1 yX1_at yX1_at ∈ UW := mU2 56 (by decide +kernel) rfl
theorem u_1_53 : Cond.fieldLink RX6 78 RX1 "raw" "[I" ∈ UW := mU1 53 (by decide +kernel) rfl
theorem u_3_218 : Cond.code yX7_isRow cX7_isRow 2 (some .boolean) ∈ UW := mU3 218 rfl rfl
theorem u_3_215 : Cond.methodLink RX7 34 yX7_isRow ∈ UW := mU3 215 (by decide +kernel) rfl
theorem u_3_217 : Cond.instanceMethod yX7_isRow ∈ UW := mU3 217 (by decide +kernel) rfl
theorem u_s25 : Cond.selects RX7 yX7_isRow yX7_isRow ∈ UW := mUS (y := yX7_isRow) (n := 6) 25 (by decide +kernel) rfl
theorem u_3_214 : Cond.code yX7_isCell cX7_isCell 3 (some .boolean) ∈ UW := mU3 214 rfl rfl
theorem u_3_211 : Cond.methodLink RX7 39 yX7_isCell ∈ UW := mU3 211 (by decide +kernel) rfl
theorem u_3_213 : Cond.instanceMethod yX7_isCell ∈ UW := mU3 213 (by decide +kernel) rfl
theorem u_s24 : Cond.selects RX7 yX7_isCell yX7_isCell ∈ UW := mUS (y := yX7_isCell) (n := 6) 24 (by decide +kernel) rfl
theorem u_3_219 : Cond.constant RX7 43 (-1000000001) ∈ UW := mU3 219 (by decide +kernel) rfl
theorem u_3_223 : Cond.code yX7_cellAt cX7_cellAt 3 (some .int) ∈ UW := mU3 223 rfl rfl
theorem u_3_220 : Cond.methodLink RX7 44 yX7_cellAt ∈ UW := mU3 220 (by decide +kernel) rfl
theorem u_3_222 : Cond.instanceMethod yX7_cellAt ∈ UW := mU3 222 (by decide +kernel) rfl
theorem u_s26 : Cond.selects RX7 yX7_cellAt yX7_cellAt ∈ UW := mUS (y := yX7_cellAt) (n := 6) 26 (by decide +kernel) rfl
theorem u_2_66 : Cond.methodLink RX1 59 yX1_has ∈ UW := mU2 66 (by decide +kernel) rfl
theorem u_2_67 : Cond.methodLink RX1 63 yX1_at ∈ UW := mU2 67 (by decide +kernel) rfl
theorem u_2_68 : Cond.methodLink RX1 67 Lib.Math.min.name ∈ UW := mU2 68 (by decide +kernel) rfl
theorem u_2_69 : Cond.static Lib.Math.min.name ∈ UW := mU2 69 (by decide +kernel) rfl
theorem u_1_10 : Cond.initialized RJ9 ∈ UW := mU1 10 (by decide +kernel) rfl
theorem u_2_70 : Cond.code Lib.Math.min.name Lib.Math.min.code 2 (some .int) ∈ UW := mU2 70 rfl rfl
theorem u_2_65 : Cond.code yX1_charge cX1_charge 5 none ∈ UW := mU2 65 rfl rfl
theorem u_2_62 : Cond.methodLink RX6 81 yX1_charge ∈ UW := mU2 62 (by decide +kernel) rfl
theorem u_2_63 : Cond.instanceMethod yX1_charge ∈ UW := mU2 63 (by decide +kernel) rfl
theorem u_2_64 : Cond.selects RX1 yX1_charge yX1_charge ∈ UW := mU2 64 (by decide +kernel) rfl
theorem u_3_231 : Cond.code yX7_presses cX7_presses 5 none ∈ UW := mU3 231 rfl rfl
theorem u_3_228 : Cond.methodLink RX7 48 yX7_presses ∈ UW := mU3 228 (by decide +kernel) rfl
theorem u_3_230 : Cond.instanceMethod yX7_presses ∈ UW := mU3 230 (by decide +kernel) rfl
theorem u_s27 : Cond.selects RX7 yX7_presses yX7_presses ∈ UW := mUS (y := yX7_presses) (n := 6) 27 (by decide +kernel) rfl
theorem u_2_79 : Cond.methodLink RX1 72 yX1_cells ∈ UW := mU2 79 (by decide +kernel) rfl
theorem u_2_78 : Cond.code yX1_clearRaw cX1_clearRaw 4 (some .int) ∈ UW := mU2 78 rfl rfl
theorem u_2_75 : Cond.methodLink RX6 85 yX1_clearRaw ∈ UW := mU2 75 (by decide +kernel) rfl
theorem u_2_76 : Cond.instanceMethod yX1_clearRaw ∈ UW := mU2 76 (by decide +kernel) rfl
theorem u_2_77 : Cond.selects RX1 yX1_clearRaw yX1_clearRaw ∈ UW := mU2 77 (by decide +kernel) rfl
theorem u_3_239 : Cond.code yX7_cells cX7_cells 1 (some .int) ∈ UW := mU3 239 rfl rfl
theorem u_3_236 : Cond.methodLink RX7 52 yX7_cells ∈ UW := mU3 236 (by decide +kernel) rfl
theorem u_3_238 : Cond.instanceMethod yX7_cells ∈ UW := mU3 238 (by decide +kernel) rfl
theorem u_s28 : Cond.selects RX7 yX7_cells yX7_cells ∈ UW := mUS (y := yX7_cells) (n := 6) 28 (by decide +kernel) rfl
theorem u_2_87 : Cond.code yX1_hasRow cX1_hasRow 2 (some .boolean) ∈ UW := mU2 87 rfl rfl
theorem u_2_84 : Cond.methodLink RX6 88 yX1_hasRow ∈ UW := mU2 84 (by decide +kernel) rfl
theorem u_2_85 : Cond.instanceMethod yX1_hasRow ∈ UW := mU2 85 (by decide +kernel) rfl
theorem u_2_86 : Cond.selects RX1 yX1_hasRow yX1_hasRow ∈ UW := mU2 86 (by decide +kernel) rfl
theorem u_2_91 : Cond.code yX1_isLost cX1_isLost 2 (some .boolean) ∈ UW := mU2 91 rfl rfl
theorem u_2_88 : Cond.methodLink RX6 92 yX1_isLost ∈ UW := mU2 88 (by decide +kernel) rfl
theorem u_2_89 : Cond.instanceMethod yX1_isLost ∈ UW := mU2 89 (by decide +kernel) rfl
theorem u_2_90 : Cond.selects RX1 yX1_isLost yX1_isLost ∈ UW := mU2 90 (by decide +kernel) rfl
theorem u_2_92 : Cond.constant RX6 95 (-1000000003) ∈ UW := mU2 92 (by decide +kernel) rfl
theorem u_2_96 : Cond.code yX1_markLost cX1_markLost 2 none ∈ UW := mU2 96 rfl rfl
theorem u_2_93 : Cond.methodLink RX6 96 yX1_markLost ∈ UW := mU2 93 (by decide +kernel) rfl
theorem u_2_94 : Cond.instanceMethod yX1_markLost ∈ UW := mU2 94 (by decide +kernel) rfl
theorem u_2_95 : Cond.selects RX1 yX1_markLost yX1_markLost ∈ UW := mU2 95 (by decide +kernel) rfl
theorem u_1_63 : Cond.fieldLink RX6 100 RX1 "lostRows" "I" ∈ UW := mU1 63 (by decide +kernel) rfl
theorem u_4_6 : Cond.code yX7_has cX7_has 2 (some .boolean) ∈ UW := mU4 6 rfl rfl
theorem u_4_5 : Cond.static yX7_has ∈ UW := mU4 5 (by decide +kernel) rfl
theorem u_4_4 : Cond.methodLink RX7 56 yX7_has ∈ UW := mU4 4 (by decide +kernel) rfl
theorem u_4_7 : Cond.constant RX7 59 (-1000000003) ∈ UW := mU4 7 (by decide +kernel) rfl
theorem u_2_118 : Cond.code yX1_feel cX1_feel 4 none ∈ UW := mU2 118 rfl rfl
theorem u_2_115 : Cond.methodLink RX1 90 yX1_feel ∈ UW := mU2 115 (by decide +kernel) rfl
theorem u_2_117 : Cond.instanceMethod yX1_feel ∈ UW := mU2 117 (by decide +kernel) rfl
theorem u_s1 : Cond.selects RX1 yX1_feel yX1_feel ∈ UW := mUS (y := yX1_feel) (n := 9) 1 (by decide +kernel) rfl
theorem u_2_122 : Cond.code yX1_isTouched cX1_isTouched 2 (some .boolean) ∈ UW := mU2 122 rfl rfl
theorem u_2_119 : Cond.methodLink RX1 94 yX1_isTouched ∈ UW := mU2 119 (by decide +kernel) rfl
theorem u_2_120 : Cond.instanceMethod yX1_isTouched ∈ UW := mU2 120 (by decide +kernel) rfl
theorem u_2_121 : Cond.selects RX1 yX1_isTouched yX1_isTouched ∈ UW := mU2 121 (by decide +kernel) rfl
theorem u_2_127 : Cond.methodLink RX1 52 yX1_hasRow ∈ UW := mU2 127 (by decide +kernel) rfl
theorem u_2_110 : Cond.methodLink RX1 56 yX1_isLost ∈ UW := mU2 110 (by decide +kernel) rfl
theorem u_2_136 : Cond.constant RX1 97 (-99999) ∈ UW := mU2 136 (by decide +kernel) rfl
theorem u_2_114 : Cond.code yX1_readRow cX1_readRow 5 none ∈ UW := mU2 114 rfl rfl
theorem u_2_111 : Cond.methodLink RX1 76 yX1_readRow ∈ UW := mU2 111 (by decide +kernel) rfl
theorem u_2_113 : Cond.instanceMethod yX1_readRow ∈ UW := mU2 113 (by decide +kernel) rfl
theorem u_s0 : Cond.selects RX1 yX1_readRow yX1_readRow ∈ UW := mUS (y := yX1_readRow) (n := 9) 0 (by decide +kernel) rfl
theorem u_2_126 : Cond.code yX1_stands cX1_stands 2 (some .boolean) ∈ UW := mU2 126 rfl rfl
theorem u_2_123 : Cond.methodLink RX1 80 yX1_stands ∈ UW := mU2 123 (by decide +kernel) rfl
theorem u_2_125 : Cond.instanceMethod yX1_stands ∈ UW := mU2 125 (by decide +kernel) rfl
theorem u_s2 : Cond.selects RX1 yX1_stands yX1_stands ∈ UW := mUS (y := yX1_stands) (n := 9) 2 (by decide +kernel) rfl
theorem u_2_131 : Cond.code yX1_bridgeRow cX1_bridgeRow 5 none ∈ UW := mU2 131 rfl rfl
theorem u_2_128 : Cond.methodLink RX1 83 yX1_bridgeRow ∈ UW := mU2 128 (by decide +kernel) rfl
theorem u_2_130 : Cond.instanceMethod yX1_bridgeRow ∈ UW := mU2 130 (by decide +kernel) rfl
theorem u_s3 : Cond.selects RX1 yX1_bridgeRow yX1_bridgeRow ∈ UW := mUS (y := yX1_bridgeRow) (n := 9) 3 (by decide +kernel) rfl
theorem u_2_135 : Cond.code yX1_missRow cX1_missRow 4 none ∈ UW := mU2 135 rfl rfl
theorem u_2_132 : Cond.methodLink RX1 86 yX1_missRow ∈ UW := mU2 132 (by decide +kernel) rfl
theorem u_2_134 : Cond.instanceMethod yX1_missRow ∈ UW := mU2 134 (by decide +kernel) rfl
theorem u_s4 : Cond.selects RX1 yX1_missRow yX1_missRow ∈ UW := mUS (y := yX1_missRow) (n := 9) 4 (by decide +kernel) rfl
theorem u_2_152 : Cond.code yX1_isStronger cX1_isStronger 3 (some .boolean) ∈ UW := mU2 152 rfl rfl
theorem u_2_149 : Cond.methodLink RX1 109 yX1_isStronger ∈ UW := mU2 149 (by decide +kernel) rfl
theorem u_2_150 : Cond.instanceMethod yX1_isStronger ∈ UW := mU2 150 (by decide +kernel) rfl
theorem u_2_151 : Cond.selects RX1 yX1_isStronger yX1_isStronger ∈ UW := mU2 151 (by decide +kernel) rfl
theorem u_2_148 : Cond.code yX1_strongerOf cX1_strongerOf 5 (some .int) ∈ UW := mU2 148 rfl rfl
theorem u_2_145 : Cond.methodLink RX1 105 yX1_strongerOf ∈ UW := mU2 145 (by decide +kernel) rfl
theorem u_2_147 : Cond.instanceMethod yX1_strongerOf ∈ UW := mU2 147 (by decide +kernel) rfl
theorem u_s6 : Cond.selects RX1 yX1_strongerOf yX1_strongerOf ∈ UW := mUS (y := yX1_strongerOf) (n := 9) 6 (by decide +kernel) rfl
theorem u_2_160 : Cond.code yX1_hasCell cX1_hasCell 2 (some .boolean) ∈ UW := mU2 160 rfl rfl
theorem u_2_157 : Cond.methodLink RX1 112 yX1_hasCell ∈ UW := mU2 157 (by decide +kernel) rfl
theorem u_2_158 : Cond.instanceMethod yX1_hasCell ∈ UW := mU2 158 (by decide +kernel) rfl
theorem u_2_159 : Cond.selects RX1 yX1_hasCell yX1_hasCell ∈ UW := mU2 159 (by decide +kernel) rfl
theorem u_2_144 : Cond.code yX1_lead cX1_lead 5 none ∈ UW := mU2 144 rfl rfl
theorem u_2_141 : Cond.methodLink RX1 98 yX1_lead ∈ UW := mU2 141 (by decide +kernel) rfl
theorem u_2_143 : Cond.instanceMethod yX1_lead ∈ UW := mU2 143 (by decide +kernel) rfl
theorem u_s5 : Cond.selects RX1 yX1_lead yX1_lead ∈ UW := mUS (y := yX1_lead) (n := 9) 5 (by decide +kernel) rfl
theorem u_2_156 : Cond.code yX1_topFrom cX1_topFrom 4 (some .int) ∈ UW := mU2 156 rfl rfl
theorem u_2_153 : Cond.methodLink RX1 101 yX1_topFrom ∈ UW := mU2 153 (by decide +kernel) rfl
theorem u_2_155 : Cond.instanceMethod yX1_topFrom ∈ UW := mU2 155 (by decide +kernel) rfl
theorem u_s7 : Cond.selects RX1 yX1_topFrom yX1_topFrom ∈ UW := mUS (y := yX1_topFrom) (n := 9) 7 (by decide +kernel) rfl
theorem u_1_94 : Cond.fieldLink RX0 9 RX0 "peaks" "[I" ∈ UW := mU1 94 (by decide +kernel) rfl
theorem u_2_175 : Cond.methodLink RX0 48 yX1_isStronger ∈ UW := mU2 175 (by decide +kernel) rfl
theorem u_2_176 : Cond.methodLink RX0 52 Lib.Math.min.name ∈ UW := mU2 176 (by decide +kernel) rfl
theorem u_2_165 : Cond.methodLink RX0 28 yX0_forget ∈ UW := mU2 165 (by decide +kernel) rfl
theorem u_2_166 : Cond.methodLink RX0 31 yX1_cells ∈ UW := mU2 166 (by decide +kernel) rfl
theorem u_1_59 : Cond.fieldLink RX0 37 RX1 "peak" "[I" ∈ UW := mU1 59 (by decide +kernel) rfl
theorem u_2_170 : Cond.code yX1_areaOf cX1_areaOf 5 (some .int) ∈ UW := mU2 170 rfl rfl
theorem u_2_167 : Cond.methodLink RX0 40 yX1_areaOf ∈ UW := mU2 167 (by decide +kernel) rfl
theorem u_2_168 : Cond.instanceMethod yX1_areaOf ∈ UW := mU2 168 (by decide +kernel) rfl
theorem u_2_169 : Cond.selects RX1 yX1_areaOf yX1_areaOf ∈ UW := mU2 169 (by decide +kernel) rfl
theorem u_2_174 : Cond.code yX0_enter cX0_enter 5 none ∈ UW := mU2 174 rfl rfl
theorem u_2_171 : Cond.methodLink RX0 44 yX0_enter ∈ UW := mU2 171 (by decide +kernel) rfl
theorem u_2_173 : Cond.instanceMethod yX0_enter ∈ UW := mU2 173 (by decide +kernel) rfl
theorem u_s8 : Cond.selects RX0 yX0_enter yX0_enter ∈ UW := mUS (y := yX0_enter) (n := 3) 8 (by decide +kernel) rfl
theorem u_2_188 : Cond.methodLink RX6 267 Lib.Math.abs.name ∈ UW := mU2 188 (by decide +kernel) rfl
theorem u_2_189 : Cond.static Lib.Math.abs.name ∈ UW := mU2 189 (by decide +kernel) rfl
theorem u_2_190 : Cond.code Lib.Math.abs.name Lib.Math.abs.code 1 (some .int) ∈ UW := mU2 190 rfl rfl
theorem u_1_131 : Cond.fieldLink RX3 41 RX5 "count" "I" ∈ UW := mU1 131 (by decide +kernel) rfl
theorem u_1_196 : Cond.fieldLink RX3 21 RX3 "trackCount" "I" ∈ UW := mU1 196 (by decide +kernel) rfl
theorem u_1_99 : Cond.fieldLink RX3 46 RX0 "count" "I" ∈ UW := mU1 99 (by decide +kernel) rfl
theorem u_1_197 : Cond.fieldLink RX3 25 RX3 "contactCount" "I" ∈ UW := mU1 197 (by decide +kernel) rfl
theorem u_1_198 : Cond.fieldLink RX3 28 RX3 "farBound" "I" ∈ UW := mU1 198 (by decide +kernel) rfl
theorem u_1_193 : Cond.fieldLink RX3 9 RX3 "ways" "[I" ∈ UW := mU1 193 (by decide +kernel) rfl
theorem u_1_120 : Cond.fieldLink RX3 49 RX5 "peak" "[I" ∈ UW := mU1 120 (by decide +kernel) rfl
theorem u_1_96 : Cond.fieldLink RX3 52 RX0 "peaks" "[I" ∈ UW := mU1 96 (by decide +kernel) rfl
theorem u_2_187 : Cond.code yX6_wayBetween cX6_wayBetween 3 (some .int) ∈ UW := mU2 187 rfl rfl
theorem u_2_186 : Cond.static yX6_wayBetween ∈ UW := mU2 186 (by decide +kernel) rfl
theorem u_2_198 : Cond.constant RJ6 265 (1431655765) ∈ UW := mU2 198 (by decide +kernel) rfl
theorem u_2_199 : Cond.constant RJ6 266 (858993459) ∈ UW := mU2 199 (by decide +kernel) rfl
theorem u_2_200 : Cond.constant RJ6 267 (252645135) ∈ UW := mU2 200 (by decide +kernel) rfl
theorem u_2_209 : Cond.constant RX3 77 (1000000) ∈ UW := mU2 209 (by decide +kernel) rfl
theorem u_1_194 : Cond.fieldLink RX3 15 RX3 "least" "[I" ∈ UW := mU1 194 (by decide +kernel) rfl
theorem u_2_208 : Cond.code yX3_costWith cX3_costWith 5 (some .int) ∈ UW := mU2 208 rfl rfl
theorem u_2_205 : Cond.methodLink RX3 69 yX3_costWith ∈ UW := mU2 205 (by decide +kernel) rfl
theorem u_2_207 : Cond.instanceMethod yX3_costWith ∈ UW := mU2 207 (by decide +kernel) rfl
theorem u_s10 : Cond.selects RX3 yX3_costWith yX3_costWith ∈ UW := mUS (y := yX3_costWith) (n := 8) 10 (by decide +kernel) rfl
theorem u_1_7 : Cond.initialized RX3 ∈ UW := mU1 7 (by decide +kernel) rfl
theorem u_2_210 : Cond.methodLink RX3 72 Lib.Math.min.name ∈ UW := mU2 210 (by decide +kernel) rfl
theorem u_2_197 : Cond.code yJ6_bitCount_0f7a4 cJ6_bitCount_0f7a4 1 (some .int) ∈ UW := mU2 197 rfl rfl
theorem u_2_196 : Cond.static yJ6_bitCount_0f7a4 ∈ UW := mU2 196 (by decide +kernel) rfl
theorem u_1_11 : Cond.initialized RJ6 ∈ UW := mU1 11 (by decide +kernel) rfl
theorem u_2_195 : Cond.methodLink RX3 59 yJ6_bitCount_0f7a4 ∈ UW := mU2 195 (by decide +kernel) rfl
theorem u_2_204 : Cond.code yX3_leastFrom cX3_leastFrom 5 (some .int) ∈ UW := mU2 204 rfl rfl
theorem u_2_201 : Cond.methodLink RX3 65 yX3_leastFrom ∈ UW := mU2 201 (by decide +kernel) rfl
theorem u_2_203 : Cond.instanceMethod yX3_leastFrom ∈ UW := mU2 203 (by decide +kernel) rfl
theorem u_s9 : Cond.selects RX3 yX3_leastFrom yX3_leastFrom ∈ UW := mUS (y := yX3_leastFrom) (n := 8) 9 (by decide +kernel) rfl
theorem u_1_199 : Cond.fieldLink RX3 31 RX3 "taken" "I" ∈ UW := mU1 199 (by decide +kernel) rfl
theorem u_1_200 : Cond.fieldLink RX3 34 RX3 "total" "I" ∈ UW := mU1 200 (by decide +kernel) rfl
theorem u_1_195 : Cond.fieldLink RX3 18 RX3 "chosen" "[I" ∈ UW := mU1 195 (by decide +kernel) rfl
theorem u_2_218 : Cond.code yX3_firstOfLeast cX3_firstOfLeast 3 (some .int) ∈ UW := mU2 218 rfl rfl
theorem u_2_215 : Cond.methodLink RX3 78 yX3_firstOfLeast ∈ UW := mU2 215 (by decide +kernel) rfl
theorem u_2_217 : Cond.instanceMethod yX3_firstOfLeast ∈ UW := mU2 217 (by decide +kernel) rfl
theorem u_s11 : Cond.selects RX3 yX3_firstOfLeast yX3_firstOfLeast ∈ UW := mUS (y := yX3_firstOfLeast) (n := 8) 11 (by decide +kernel) rfl
theorem u_1_49 : Cond.fieldLink RX4 103 RX1 "columns" "I" ∈ UW := mU1 49 (by decide +kernel) rfl
theorem u_1_159 : Cond.fieldLink RX4 18 RX4 "bounds" "[I" ∈ UW := mU1 159 (by decide +kernel) rfl
theorem u_2_184 : Cond.code yX3_measure cX3_measure 7 none ∈ UW := mU2 184 rfl rfl
theorem u_2_181 : Cond.methodLink RX4 106 yX3_measure ∈ UW := mU2 181 (by decide +kernel) rfl
theorem u_2_182 : Cond.instanceMethod yX3_measure ∈ UW := mU2 182 (by decide +kernel) rfl
theorem u_2_183 : Cond.selects RX3 yX3_measure yX3_measure ∈ UW := mU2 183 (by decide +kernel) rfl
theorem u_2_194 : Cond.code yX3_fillLeast cX3_fillLeast 5 none ∈ UW := mU2 194 rfl rfl
theorem u_2_191 : Cond.methodLink RX4 112 yX3_fillLeast ∈ UW := mU2 191 (by decide +kernel) rfl
theorem u_2_192 : Cond.instanceMethod yX3_fillLeast ∈ UW := mU2 192 (by decide +kernel) rfl
theorem u_2_193 : Cond.selects RX3 yX3_fillLeast yX3_fillLeast ∈ UW := mU2 193 (by decide +kernel) rfl
theorem u_2_214 : Cond.code yX3_chooseFirst cX3_chooseFirst 2 none ∈ UW := mU2 214 rfl rfl
theorem u_2_211 : Cond.methodLink RX4 115 yX3_chooseFirst ∈ UW := mU2 211 (by decide +kernel) rfl
theorem u_2_212 : Cond.instanceMethod yX3_chooseFirst ∈ UW := mU2 212 (by decide +kernel) rfl
theorem u_2_213 : Cond.selects RX3 yX3_chooseFirst yX3_chooseFirst ∈ UW := mU2 213 (by decide +kernel) rfl
theorem u_1_119 : Cond.fieldLink RX5 15 RX5 "peak" "[I" ∈ UW := mU1 119 (by decide +kernel) rfl
theorem u_1_123 : Cond.fieldLink RX5 18 RX5 "age" "[I" ∈ UW := mU1 123 (by decide +kernel) rfl
theorem u_1_125 : Cond.fieldLink RX5 21 RX5 "missed" "[I" ∈ UW := mU1 125 (by decide +kernel) rfl
theorem u_1_127 : Cond.fieldLink RX5 24 RX5 "moved" "[I" ∈ UW := mU1 127 (by decide +kernel) rfl
theorem u_1_117 : Cond.fieldLink RX5 9 RX5 "name" "[I" ∈ UW := mU1 117 (by decide +kernel) rfl
theorem u_3_4 : Cond.code yX5_countEnd cX5_countEnd 2 none ∈ UW := mU3 4 rfl rfl
theorem u_3_1 : Cond.methodLink RX5 75 yX5_countEnd ∈ UW := mU3 1 (by decide +kernel) rfl
theorem u_3_3 : Cond.instanceMethod yX5_countEnd ∈ UW := mU3 3 (by decide +kernel) rfl
theorem u_s14 : Cond.selects RX5 yX5_countEnd yX5_countEnd ∈ UW := mUS (y := yX5_countEnd) (n := 9) 14 (by decide +kernel) rfl
theorem u_3_8 : Cond.code yX5_moveDown cX5_moveDown 3 none ∈ UW := mU3 8 rfl rfl
theorem u_3_5 : Cond.methodLink RX5 78 yX5_moveDown ∈ UW := mU3 5 (by decide +kernel) rfl
theorem u_3_7 : Cond.instanceMethod yX5_moveDown ∈ UW := mU3 7 (by decide +kernel) rfl
theorem u_s15 : Cond.selects RX5 yX5_moveDown yX5_moveDown ∈ UW := mUS (y := yX5_moveDown) (n := 9) 15 (by decide +kernel) rfl
theorem u_2_226 : Cond.code yX3_contactOf cX3_contactOf 2 (some .int) ∈ UW := mU2 226 rfl rfl
theorem u_2_223 : Cond.methodLink RX5 44 yX3_contactOf ∈ UW := mU2 223 (by decide +kernel) rfl
theorem u_2_224 : Cond.instanceMethod yX3_contactOf ∈ UW := mU2 224 (by decide +kernel) rfl
theorem u_2_225 : Cond.selects RX3 yX3_contactOf yX3_contactOf ∈ UW := mU2 225 (by decide +kernel) rfl
theorem u_1_100 : Cond.fieldLink RX5 50 RX0 "count" "I" ∈ UW := mU1 100 (by decide +kernel) rfl
theorem u_1_95 : Cond.fieldLink RX5 53 RX0 "peaks" "[I" ∈ UW := mU1 95 (by decide +kernel) rfl
theorem u_2_232 : Cond.code yX3_wayOf cX3_wayOf 3 (some .int) ∈ UW := mU2 232 rfl rfl
theorem u_2_229 : Cond.methodLink RX5 56 yX3_wayOf ∈ UW := mU2 229 (by decide +kernel) rfl
theorem u_2_230 : Cond.instanceMethod yX3_wayOf ∈ UW := mU2 230 (by decide +kernel) rfl
theorem u_2_231 : Cond.selects RX3 yX3_wayOf yX3_wayOf ∈ UW := mU2 231 (by decide +kernel) rfl
theorem u_2_236 : Cond.code yX5_goOn cX5_goOn 4 none ∈ UW := mU2 236 rfl rfl
theorem u_2_233 : Cond.methodLink RX5 60 yX5_goOn ∈ UW := mU2 233 (by decide +kernel) rfl
theorem u_2_235 : Cond.instanceMethod yX5_goOn ∈ UW := mU2 235 (by decide +kernel) rfl
theorem u_s12 : Cond.selects RX5 yX5_goOn yX5_goOn ∈ UW := mUS (y := yX5_goOn) (n := 9) 12 (by decide +kernel) rfl
theorem u_3_0 : Cond.code yX5_endThoseGone cX5_endThoseGone 4 none ∈ UW := mU3 0 rfl rfl
theorem u_2_237 : Cond.methodLink RX5 64 yX5_endThoseGone ∈ UW := mU2 237 (by decide +kernel) rfl
theorem u_2_239 : Cond.instanceMethod yX5_endThoseGone ∈ UW := mU2 239 (by decide +kernel) rfl
theorem u_s13 : Cond.selects RX5 yX5_endThoseGone yX5_endThoseGone ∈ UW := mUS (y := yX5_endThoseGone) (n := 9) 13 (by decide +kernel) rfl
theorem u_3_12 : Cond.code yX3_isTaken cX3_isTaken 2 (some .boolean) ∈ UW := mU3 12 rfl rfl
theorem u_3_9 : Cond.methodLink RX5 68 yX3_isTaken ∈ UW := mU3 9 (by decide +kernel) rfl
theorem u_3_10 : Cond.instanceMethod yX3_isTaken ∈ UW := mU3 10 (by decide +kernel) rfl
theorem u_3_11 : Cond.selects RX3 yX3_isTaken yX3_isTaken ∈ UW := mU3 11 (by decide +kernel) rfl
theorem u_3_16 : Cond.code yX5_begin cX5_begin 2 none ∈ UW := mU3 16 rfl rfl
theorem u_3_13 : Cond.methodLink RX5 72 yX5_begin ∈ UW := mU3 13 (by decide +kernel) rfl
theorem u_3_15 : Cond.instanceMethod yX5_begin ∈ UW := mU3 15 (by decide +kernel) rfl
theorem u_s16 : Cond.selects RX5 yX5_begin yX5_begin ∈ UW := mUS (y := yX5_begin) (n := 9) 16 (by decide +kernel) rfl
theorem u_3_28 : Cond.code yX6_stateWithOne cX6_stateWithOne 2 (some .int) ∈ UW := mU3 28 rfl rfl
theorem u_3_27 : Cond.static yX6_stateWithOne ∈ UW := mU3 27 (by decide +kernel) rfl
theorem u_3_26 : Cond.methodLink RX6 257 yX6_stateWithOne ∈ UW := mU3 26 (by decide +kernel) rfl
theorem u_3_31 : Cond.code yX6_stateWithTwo cX6_stateWithTwo 2 (some .int) ∈ UW := mU3 31 rfl rfl
theorem u_3_30 : Cond.static yX6_stateWithTwo ∈ UW := mU3 30 (by decide +kernel) rfl
theorem u_3_29 : Cond.methodLink RX6 260 yX6_stateWithTwo ∈ UW := mU3 29 (by decide +kernel) rfl
theorem u_1_132 : Cond.fieldLink RX4 118 RX5 "count" "I" ∈ UW := mU1 132 (by decide +kernel) rfl
theorem u_1_121 : Cond.fieldLink RX4 121 RX5 "peak" "[I" ∈ UW := mU1 121 (by decide +kernel) rfl
theorem u_1_128 : Cond.fieldLink RX4 128 RX5 "moved" "[I" ∈ UW := mU1 128 (by decide +kernel) rfl
theorem u_3_22 : Cond.methodLink RX4 131 Lib.Math.abs.name ∈ UW := mU3 22 (by decide +kernel) rfl
theorem u_3_25 : Cond.code yX6_stateAfter cX6_stateAfter 4 (some .int) ∈ UW := mU3 25 rfl rfl
theorem u_3_24 : Cond.static yX6_stateAfter ∈ UW := mU3 24 (by decide +kernel) rfl
theorem u_2_109 : Cond.code yX1_read cX1_read 3 none ∈ UW := mU2 109 rfl rfl
theorem u_2_106 : Cond.methodLink RX4 78 yX1_read ∈ UW := mU2 106 (by decide +kernel) rfl
theorem u_2_107 : Cond.instanceMethod yX1_read ∈ UW := mU2 107 (by decide +kernel) rfl
theorem u_2_108 : Cond.selects RX1 yX1_read yX1_read ∈ UW := mU2 108 (by decide +kernel) rfl
theorem u_2_140 : Cond.code yX1_climb cX1_climb 3 none ∈ UW := mU2 140 rfl rfl
theorem u_2_137 : Cond.methodLink RX4 82 yX1_climb ∈ UW := mU2 137 (by decide +kernel) rfl
theorem u_2_138 : Cond.instanceMethod yX1_climb ∈ UW := mU2 138 (by decide +kernel) rfl
theorem u_2_139 : Cond.selects RX1 yX1_climb yX1_climb ∈ UW := mU2 139 (by decide +kernel) rfl
theorem u_2_164 : Cond.code yX0_gather cX0_gather 5 none ∈ UW := mU2 164 rfl rfl
theorem u_2_161 : Cond.methodLink RX4 85 yX0_gather ∈ UW := mU2 161 (by decide +kernel) rfl
theorem u_2_162 : Cond.instanceMethod yX0_gather ∈ UW := mU2 162 (by decide +kernel) rfl
theorem u_2_163 : Cond.selects RX0 yX0_gather yX0_gather ∈ UW := mU2 163 (by decide +kernel) rfl
theorem u_2_180 : Cond.code yX4_pairUp cX4_pairUp 2 none ∈ UW := mU2 180 rfl rfl
theorem u_2_177 : Cond.methodLink RX4 89 yX4_pairUp ∈ UW := mU2 177 (by decide +kernel) rfl
theorem u_2_178 : Cond.instanceMethod yX4_pairUp ∈ UW := mU2 178 (by decide +kernel) rfl
theorem u_2_179 : Cond.selects RX4 yX4_pairUp yX4_pairUp ∈ UW := mU2 179 (by decide +kernel) rfl
theorem u_2_222 : Cond.code yX5_follow cX5_follow 6 none ∈ UW := mU2 222 rfl rfl
theorem u_2_219 : Cond.methodLink RX4 93 yX5_follow ∈ UW := mU2 219 (by decide +kernel) rfl
theorem u_2_220 : Cond.instanceMethod yX5_follow ∈ UW := mU2 220 (by decide +kernel) rfl
theorem u_2_221 : Cond.selects RX5 yX5_follow yX5_follow ∈ UW := mU2 221 (by decide +kernel) rfl
theorem u_3_20 : Cond.code yX4_changeState cX4_changeState 3 none ∈ UW := mU3 20 rfl rfl
theorem u_3_17 : Cond.methodLink RX4 97 yX4_changeState ∈ UW := mU3 17 (by decide +kernel) rfl
theorem u_3_19 : Cond.instanceMethod yX4_changeState ∈ UW := mU3 19 (by decide +kernel) rfl
theorem u_s17 : Cond.selects RX4 yX4_changeState yX4_changeState ∈ UW := mUS (y := yX4_changeState) (n := 7) 17 (by decide +kernel) rfl
theorem u_1_62 : Cond.fieldLink RX4 100 RX1 "lostRows" "I" ∈ UW := mU1 62 (by decide +kernel) rfl
theorem u_1_168 : Cond.fieldLink RX6 103 RX4 "frames" "I" ∈ UW := mU1 168 (by decide +kernel) rfl
theorem u_2_101 : Cond.constant RX6 106 (-1000000004) ∈ UW := mU2 101 (by decide +kernel) rfl
theorem u_1_233 : Cond.fieldLink RX6 25 RX6 "pairing" "LTouchPanel$Pairing;" ∈ UW := mU1 233 (by decide +kernel) rfl
theorem u_2_105 : Cond.code yX4_takeFrame cX4_takeFrame 2 none ∈ UW := mU2 105 rfl rfl
theorem u_2_102 : Cond.methodLink RX6 107 yX4_takeFrame ∈ UW := mU2 102 (by decide +kernel) rfl
theorem u_2_103 : Cond.instanceMethod yX4_takeFrame ∈ UW := mU2 103 (by decide +kernel) rfl
theorem u_2_104 : Cond.selects RX4 yX4_takeFrame yX4_takeFrame ∈ UW := mU2 104 (by decide +kernel) rfl
theorem u_1_170 : Cond.fieldLink RX6 111 RX4 "state" "I" ∈ UW := mU1 170 (by decide +kernel) rfl
theorem u_4_25 : Cond.constant RX7 60 (-99999) ∈ UW := mU4 25 (by decide +kernel) rfl
theorem u_4_24 : Cond.code yX7_readOf cX7_readOf 4 (some .int) ∈ UW := mU4 24 rfl rfl
theorem u_4_21 : Cond.methodLink RX7 61 yX7_readOf ∈ UW := mU4 21 (by decide +kernel) rfl
theorem u_4_23 : Cond.instanceMethod yX7_readOf ∈ UW := mU4 23 (by decide +kernel) rfl
theorem u_s31 : Cond.selects RX7 yX7_readOf yX7_readOf ∈ UW := mUS (y := yX7_readOf) (n := 6) 31 (by decide +kernel) rfl
theorem u_4_41 : Cond.code yX7_isStronger cX7_isStronger 3 (some .boolean) ∈ UW := mU4 41 rfl rfl
theorem u_4_38 : Cond.methodLink RX7 65 yX7_isStronger ∈ UW := mU4 38 (by decide +kernel) rfl
theorem u_4_40 : Cond.instanceMethod yX7_isStronger ∈ UW := mU4 40 (by decide +kernel) rfl
theorem u_s35 : Cond.selects RX7 yX7_isStronger yX7_isStronger ∈ UW := mUS (y := yX7_isStronger) (n := 6) 35 (by decide +kernel) rfl
theorem u_4_37 : Cond.code yX7_strongerOf cX7_strongerOf 5 (some .int) ∈ UW := mU4 37 rfl rfl
theorem u_4_34 : Cond.methodLink RX7 68 yX7_strongerOf ∈ UW := mU4 34 (by decide +kernel) rfl
theorem u_4_36 : Cond.instanceMethod yX7_strongerOf ∈ UW := mU4 36 (by decide +kernel) rfl
theorem u_s34 : Cond.selects RX7 yX7_strongerOf yX7_strongerOf ∈ UW := mUS (y := yX7_strongerOf) (n := 6) 34 (by decide +kernel) rfl
theorem u_4_33 : Cond.code yX7_leadOf cX7_leadOf 5 (some .int) ∈ UW := mU4 33 rfl rfl
theorem u_4_30 : Cond.methodLink RX7 72 yX7_leadOf ∈ UW := mU4 30 (by decide +kernel) rfl
theorem u_4_32 : Cond.instanceMethod yX7_leadOf ∈ UW := mU4 32 (by decide +kernel) rfl
theorem u_s33 : Cond.selects RX7 yX7_leadOf yX7_leadOf ∈ UW := mUS (y := yX7_leadOf) (n := 6) 33 (by decide +kernel) rfl
theorem u_4_45 : Cond.code yX7_areaOf cX7_areaOf 4 (some .int) ∈ UW := mU4 45 rfl rfl
theorem u_4_42 : Cond.methodLink RX7 75 yX7_areaOf ∈ UW := mU4 42 (by decide +kernel) rfl
theorem u_4_44 : Cond.instanceMethod yX7_areaOf ∈ UW := mU4 44 (by decide +kernel) rfl
theorem u_s36 : Cond.selects RX7 yX7_areaOf yX7_areaOf ∈ UW := mUS (y := yX7_areaOf) (n := 6) 36 (by decide +kernel) rfl
theorem u_3_176 : Cond.fieldLink RX7 13 RX7 "costs" "[I" ∈ UW := mU3 176 (by decide +kernel) rfl
theorem u_4_68 : Cond.code yX7_trackAt cX7_trackAt 3 (some .int) ∈ UW := mU4 68 rfl rfl
theorem u_4_65 : Cond.methodLink RX7 78 yX7_trackAt ∈ UW := mU4 65 (by decide +kernel) rfl
theorem u_4_67 : Cond.instanceMethod yX7_trackAt ∈ UW := mU4 67 (by decide +kernel) rfl
theorem u_s41 : Cond.selects RX7 yX7_trackAt yX7_trackAt ∈ UW := mUS (y := yX7_trackAt) (n := 6) 41 (by decide +kernel) rfl
theorem u_4_72 : Cond.code yX7_wayOf cX7_wayOf 5 (some .int) ∈ UW := mU4 72 rfl rfl
theorem u_4_69 : Cond.methodLink RX7 81 yX7_wayOf ∈ UW := mU4 69 (by decide +kernel) rfl
theorem u_4_71 : Cond.instanceMethod yX7_wayOf ∈ UW := mU4 71 (by decide +kernel) rfl
theorem u_s42 : Cond.selects RX7 yX7_wayOf yX7_wayOf ∈ UW := mUS (y := yX7_wayOf) (n := 6) 42 (by decide +kernel) rfl
theorem u_4_56 : Cond.code yX7_bits cX7_bits 3 (some .int) ∈ UW := mU4 56 rfl rfl
theorem u_4_55 : Cond.static yX7_bits ∈ UW := mU4 55 (by decide +kernel) rfl
theorem u_4_54 : Cond.methodLink RX7 84 yX7_bits ∈ UW := mU4 54 (by decide +kernel) rfl
theorem u_4_60 : Cond.code yX7_noneCost cX7_noneCost 3 (some .int) ∈ UW := mU4 60 rfl rfl
theorem u_4_57 : Cond.methodLink RX7 87 yX7_noneCost ∈ UW := mU4 57 (by decide +kernel) rfl
theorem u_4_59 : Cond.instanceMethod yX7_noneCost ∈ UW := mU4 59 (by decide +kernel) rfl
theorem u_s39 : Cond.selects RX7 yX7_noneCost yX7_noneCost ∈ UW := mUS (y := yX7_noneCost) (n := 6) 39 (by decide +kernel) rfl
theorem u_4_64 : Cond.code yX7_costOf cX7_costOf 5 (some .int) ∈ UW := mU4 64 rfl rfl
theorem u_4_61 : Cond.methodLink RX7 90 yX7_costOf ∈ UW := mU4 61 (by decide +kernel) rfl
theorem u_4_63 : Cond.instanceMethod yX7_costOf ∈ UW := mU4 63 (by decide +kernel) rfl
theorem u_s40 : Cond.selects RX7 yX7_costOf yX7_costOf ∈ UW := mUS (y := yX7_costOf) (n := 6) 40 (by decide +kernel) rfl
theorem u_3_177 : Cond.fieldLink RX7 16 RX7 "pairs" "[I" ∈ UW := mU3 177 (by decide +kernel) rfl
theorem u_4_53 : Cond.code yX7_layPairs cX7_layPairs 7 none ∈ UW := mU4 53 rfl rfl
theorem u_4_50 : Cond.methodLink RX7 93 yX7_layPairs ∈ UW := mU4 50 (by decide +kernel) rfl
theorem u_4_52 : Cond.instanceMethod yX7_layPairs ∈ UW := mU4 52 (by decide +kernel) rfl
theorem u_s38 : Cond.selects RX7 yX7_layPairs yX7_layPairs ∈ UW := mUS (y := yX7_layPairs) (n := 6) 38 (by decide +kernel) rfl
theorem u_4_79 : Cond.code yX7_ruled cX7_ruled 4 (some .int) ∈ UW := mU4 79 rfl rfl
theorem u_4_78 : Cond.static yX7_ruled ∈ UW := mU4 78 (by decide +kernel) rfl
theorem u_4_77 : Cond.methodLink RX7 96 yX7_ruled ∈ UW := mU4 77 (by decide +kernel) rfl
theorem u_4_20 : Cond.code yX7_reads cX7_reads 5 none ∈ UW := mU4 20 rfl rfl
theorem u_4_17 : Cond.methodLink RX7 100 yX7_reads ∈ UW := mU4 17 (by decide +kernel) rfl
theorem u_4_19 : Cond.instanceMethod yX7_reads ∈ UW := mU4 19 (by decide +kernel) rfl
theorem u_s30 : Cond.selects RX7 yX7_reads yX7_reads ∈ UW := mUS (y := yX7_reads) (n := 6) 30 (by decide +kernel) rfl
theorem u_4_29 : Cond.code yX7_climbs cX7_climbs 6 none ∈ UW := mU4 29 rfl rfl
theorem u_4_26 : Cond.methodLink RX7 103 yX7_climbs ∈ UW := mU4 26 (by decide +kernel) rfl
theorem u_4_28 : Cond.instanceMethod yX7_climbs ∈ UW := mU4 28 (by decide +kernel) rfl
theorem u_s32 : Cond.selects RX7 yX7_climbs yX7_climbs ∈ UW := mUS (y := yX7_climbs) (n := 6) 32 (by decide +kernel) rfl
theorem u_4_49 : Cond.code yX7_follows cX7_follows 6 none ∈ UW := mU4 49 rfl rfl
theorem u_4_46 : Cond.methodLink RX7 106 yX7_follows ∈ UW := mU4 46 (by decide +kernel) rfl
theorem u_4_48 : Cond.instanceMethod yX7_follows ∈ UW := mU4 48 (by decide +kernel) rfl
theorem u_s37 : Cond.selects RX7 yX7_follows yX7_follows ∈ UW := mUS (y := yX7_follows) (n := 6) 37 (by decide +kernel) rfl
theorem u_4_76 : Cond.code yX7_turns cX7_turns 4 none ∈ UW := mU4 76 rfl rfl
theorem u_4_73 : Cond.methodLink RX7 109 yX7_turns ∈ UW := mU4 73 (by decide +kernel) rfl
theorem u_4_75 : Cond.instanceMethod yX7_turns ∈ UW := mU4 75 (by decide +kernel) rfl
theorem u_s43 : Cond.selects RX7 yX7_turns yX7_turns ∈ UW := mUS (y := yX7_turns) (n := 6) 43 (by decide +kernel) rfl
theorem u_4_12 : Cond.constant RX7 112 (-1000000004) ∈ UW := mU4 12 (by decide +kernel) rfl
theorem u_4_16 : Cond.code yX7_passes cX7_passes 1 none ∈ UW := mU4 16 rfl rfl
theorem u_4_13 : Cond.methodLink RX7 113 yX7_passes ∈ UW := mU4 13 (by decide +kernel) rfl
theorem u_4_15 : Cond.instanceMethod yX7_passes ∈ UW := mU4 15 (by decide +kernel) rfl
theorem u_s29 : Cond.selects RX7 yX7_passes yX7_passes ∈ UW := mUS (y := yX7_passes) (n := 6) 29 (by decide +kernel) rfl
theorem u_1_225 : Cond.fieldLink RX2 7 RX2 "x" "J" ∈ UW := mU1 225 (by decide +kernel) rfl
theorem u_3_45 : Cond.constantLong RX2 13 (16807) ∈ UW := mU3 45 (by decide +kernel) rfl
theorem u_3_46 : Cond.constantLong RX2 15 (2147483647) ∈ UW := mU3 46 (by decide +kernel) rfl
theorem u_3_52 : Cond.methodLink RX2 42 yX1_cells ∈ UW := mU3 52 (by decide +kernel) rfl
theorem u_3_44 : Cond.code yX2_next cX2_next 2 (some .int) ∈ UW := mU3 44 rfl rfl
theorem u_3_41 : Cond.methodLink RX2 17 yX2_next ∈ UW := mU3 41 (by decide +kernel) rfl
theorem u_3_43 : Cond.instanceMethod yX2_next ∈ UW := mU3 43 (by decide +kernel) rfl
theorem u_s18 : Cond.selects RX2 yX2_next yX2_next ∈ UW := mUS (y := yX2_next) (n := 1) 18 (by decide +kernel) rfl
theorem u_1_8 : Cond.initialized RX2 ∈ UW := mU1 8 (by decide +kernel) rfl
theorem u_3_53 : Cond.methodLink RX2 45 yX1_hasCell ∈ UW := mU3 53 (by decide +kernel) rfl
theorem u_1_52 : Cond.fieldLink RX2 49 RX1 "raw" "[I" ∈ UW := mU1 52 (by decide +kernel) rfl
theorem u_3_47 : Cond.methodLink RX2 21 yX1_clearRaw ∈ UW := mU3 47 (by decide +kernel) rfl
theorem u_3_51 : Cond.code yX2_chargeOne cX2_chargeOne 4 none ∈ UW := mU3 51 rfl rfl
theorem u_3_48 : Cond.methodLink RX2 27 yX2_chargeOne ∈ UW := mU3 48 (by decide +kernel) rfl
theorem u_3_50 : Cond.instanceMethod yX2_chargeOne ∈ UW := mU3 50 (by decide +kernel) rfl
theorem u_s19 : Cond.selects RX2 yX2_chargeOne yX2_chargeOne ∈ UW := mUS (y := yX2_chargeOne) (n := 1) 19 (by decide +kernel) rfl
theorem u_1_46 : Cond.fieldLink RX2 31 RX1 "rows" "I" ∈ UW := mU1 46 (by decide +kernel) rfl
theorem u_3_54 : Cond.methodLink RX2 35 yX1_markLost ∈ UW := mU3 54 (by decide +kernel) rfl
theorem u_3_58 : Cond.code yX2_makeNoise cX2_makeNoise 4 none ∈ UW := mU3 58 rfl rfl
theorem u_3_55 : Cond.methodLink RX2 39 yX2_makeNoise ∈ UW := mU3 55 (by decide +kernel) rfl
theorem u_3_57 : Cond.instanceMethod yX2_makeNoise ∈ UW := mU3 57 (by decide +kernel) rfl
theorem u_s20 : Cond.selects RX2 yX2_makeNoise yX2_makeNoise ∈ UW := mUS (y := yX2_makeNoise) (n := 1) 20 (by decide +kernel) rfl
theorem u_3_36 : Cond.constant RX6 114 (999999) ∈ UW := mU3 36 (by decide +kernel) rfl
theorem u_1_234 : Cond.fieldLink RX6 32 RX6 "lots" "LTouchPanel$Lots;" ∈ UW := mU1 234 (by decide +kernel) rfl
theorem u_1_226 : Cond.fieldLink RX6 115 RX2 "x" "J" ∈ UW := mU1 226 (by decide +kernel) rfl
theorem u_3_40 : Cond.code yX2_castOn cX2_castOn 2 none ∈ UW := mU3 40 rfl rfl
theorem u_3_37 : Cond.methodLink RX6 119 yX2_castOn ∈ UW := mU3 37 (by decide +kernel) rfl
theorem u_3_38 : Cond.instanceMethod yX2_castOn ∈ UW := mU3 38 (by decide +kernel) rfl
theorem u_3_39 : Cond.selects RX2 yX2_castOn yX2_castOn ∈ UW := mU3 39 (by decide +kernel) rfl
theorem u_3_178 : Cond.fieldLink RX7 116 RX7 "lot" "J" ∈ UW := mU3 178 (by decide +kernel) rfl
theorem u_4_89 : Cond.constantLong RX7 120 (16807) ∈ UW := mU4 89 (by decide +kernel) rfl
theorem u_4_90 : Cond.constantLong RX7 122 (2147483647) ∈ UW := mU4 90 (by decide +kernel) rfl
theorem u_4_84 : Cond.constant RX7 124 (999999) ∈ UW := mU4 84 (by decide +kernel) rfl
theorem u_4_88 : Cond.code yX7_lotOf cX7_lotOf 2 (some .int) ∈ UW := mU4 88 rfl rfl
theorem u_4_85 : Cond.methodLink RX7 125 yX7_lotOf ∈ UW := mU4 85 (by decide +kernel) rfl
theorem u_4_87 : Cond.instanceMethod yX7_lotOf ∈ UW := mU4 87 (by decide +kernel) rfl
theorem u_s44 : Cond.selects RX7 yX7_lotOf yX7_lotOf ∈ UW := mUS (y := yX7_lotOf) (n := 6) 44 (by decide +kernel) rfl
theorem u_3_235 : Cond.code yX7_wipe cX7_wipe 3 (some .int) ∈ UW := mU3 235 rfl rfl
theorem u_4_91 : Cond.methodLink RX7 128 yX7_wipe ∈ UW := mU4 91 (by decide +kernel) rfl
theorem u_3_233 : Cond.instanceMethod yX7_wipe ∈ UW := mU3 233 (by decide +kernel) rfl
theorem u_3_234 : Cond.selects RX7 yX7_wipe yX7_wipe ∈ UW := mU3 234 (by decide +kernel) rfl
theorem u_1_47 : Cond.fieldLink RX6 123 RX1 "rows" "I" ∈ UW := mU1 47 (by decide +kernel) rfl
theorem u_1_50 : Cond.fieldLink RX6 126 RX1 "columns" "I" ∈ UW := mU1 50 (by decide +kernel) rfl
theorem u_1_164 : Cond.fieldLink RX6 129 RX4 "contacts" "LTouchPanel$Contacts;" ∈ UW := mU1 164 (by decide +kernel) rfl
theorem u_1_101 : Cond.fieldLink RX6 133 RX0 "count" "I" ∈ UW := mU1 101 (by decide +kernel) rfl
theorem u_1_103 : Cond.fieldLink RX6 138 RX0 "palms" "I" ∈ UW := mU1 103 (by decide +kernel) rfl
theorem u_1_166 : Cond.fieldLink RX6 141 RX4 "tracks" "LTouchPanel$Tracks;" ∈ UW := mU1 166 (by decide +kernel) rfl
theorem u_1_133 : Cond.fieldLink RX6 145 RX5 "count" "I" ∈ UW := mU1 133 (by decide +kernel) rfl
theorem u_1_137 : Cond.fieldLink RX6 148 RX5 "taps" "I" ∈ UW := mU1 137 (by decide +kernel) rfl
theorem u_1_139 : Cond.fieldLink RX6 151 RX5 "lifts" "I" ∈ UW := mU1 139 (by decide +kernel) rfl
theorem u_1_135 : Cond.fieldLink RX6 154 RX5 "nextName" "I" ∈ UW := mU1 135 (by decide +kernel) rfl
theorem u_1_65 : Cond.fieldLink RX6 157 RX1 "touched" "I" ∈ UW := mU1 65 (by decide +kernel) rfl
theorem u_1_67 : Cond.fieldLink RX6 160 RX1 "missing" "I" ∈ UW := mU1 67 (by decide +kernel) rfl
theorem u_1_55 : Cond.fieldLink RX6 163 RX1 "ground" "[I" ∈ UW := mU1 55 (by decide +kernel) rfl
theorem u_1_57 : Cond.fieldLink RX6 166 RX1 "signal" "[I" ∈ UW := mU1 57 (by decide +kernel) rfl
theorem u_3_67 : Cond.methodLink RX6 169 yX1_isTouched ∈ UW := mU3 67 (by decide +kernel) rfl
theorem u_1_60 : Cond.fieldLink RX6 172 RX1 "peak" "[I" ∈ UW := mU1 60 (by decide +kernel) rfl
theorem u_4_103 : Cond.code yX7_cellTells cX7_cellTells 3 (some .int) ∈ UW := mU4 103 rfl rfl
theorem u_4_100 : Cond.methodLink RX7 131 yX7_cellTells ∈ UW := mU4 100 (by decide +kernel) rfl
theorem u_4_102 : Cond.instanceMethod yX7_cellTells ∈ UW := mU4 102 (by decide +kernel) rfl
theorem u_s45 : Cond.selects RX7 yX7_cellTells yX7_cellTells ∈ UW := mUS (y := yX7_cellTells) (n := 6) 45 (by decide +kernel) rfl
theorem u_3_76 : Cond.code yX1_heavyOf cX1_heavyOf 5 (some .int) ∈ UW := mU3 76 rfl rfl
theorem u_3_81 : Cond.methodLink RX1 115 yX1_heavyOf ∈ UW := mU3 81 (by decide +kernel) rfl
theorem u_3_74 : Cond.instanceMethod yX1_heavyOf ∈ UW := mU3 74 (by decide +kernel) rfl
theorem u_3_75 : Cond.selects RX1 yX1_heavyOf yX1_heavyOf ∈ UW := mU3 75 (by decide +kernel) rfl
theorem u_3_82 : Cond.constantLong RX1 118 (256) ∈ UW := mU3 82 (by decide +kernel) rfl
theorem u_1_97 : Cond.fieldLink RX6 175 RX0 "peaks" "[I" ∈ UW := mU1 97 (by decide +kernel) rfl
theorem u_3_72 : Cond.methodLink RX6 178 yX1_areaOf ∈ UW := mU3 72 (by decide +kernel) rfl
theorem u_3_73 : Cond.methodLink RX6 182 yX1_heavyOf ∈ UW := mU3 73 (by decide +kernel) rfl
theorem u_3_80 : Cond.code yX1_centreOf cX1_centreOf 8 (some .int) ∈ UW := mU3 80 rfl rfl
theorem u_3_77 : Cond.methodLink RX6 185 yX1_centreOf ∈ UW := mU3 77 (by decide +kernel) rfl
theorem u_3_78 : Cond.instanceMethod yX1_centreOf ∈ UW := mU3 78 (by decide +kernel) rfl
theorem u_3_79 : Cond.selects RX1 yX1_centreOf yX1_centreOf ∈ UW := mU3 79 (by decide +kernel) rfl
theorem u_4_115 : Cond.code yX7_heavyOf cX7_heavyOf 6 (some .int) ∈ UW := mU4 115 rfl rfl
theorem u_4_112 : Cond.methodLink RX7 134 yX7_heavyOf ∈ UW := mU4 112 (by decide +kernel) rfl
theorem u_4_114 : Cond.instanceMethod yX7_heavyOf ∈ UW := mU4 114 (by decide +kernel) rfl
theorem u_s47 : Cond.selects RX7 yX7_heavyOf yX7_heavyOf ∈ UW := mUS (y := yX7_heavyOf) (n := 6) 47 (by decide +kernel) rfl
theorem u_4_116 : Cond.constantLong RX7 137 (256) ∈ UW := mU4 116 (by decide +kernel) rfl
theorem u_4_111 : Cond.code yX7_contactTells cX7_contactTells 4 (some .int) ∈ UW := mU4 111 rfl rfl
theorem u_4_108 : Cond.methodLink RX7 139 yX7_contactTells ∈ UW := mU4 108 (by decide +kernel) rfl
theorem u_4_110 : Cond.instanceMethod yX7_contactTells ∈ UW := mU4 110 (by decide +kernel) rfl
theorem u_s46 : Cond.selects RX7 yX7_contactTells yX7_contactTells ∈ UW := mUS (y := yX7_contactTells) (n := 6) 46 (by decide +kernel) rfl
theorem u_3_90 : Cond.code yX5_has cX5_has 2 (some .boolean) ∈ UW := mU3 90 rfl rfl
theorem u_3_87 : Cond.methodLink RX6 189 yX5_has ∈ UW := mU3 87 (by decide +kernel) rfl
theorem u_3_88 : Cond.instanceMethod yX5_has ∈ UW := mU3 88 (by decide +kernel) rfl
theorem u_3_89 : Cond.selects RX5 yX5_has yX5_has ∈ UW := mU3 89 (by decide +kernel) rfl
theorem u_1_118 : Cond.fieldLink RX6 191 RX5 "name" "[I" ∈ UW := mU1 118 (by decide +kernel) rfl
theorem u_1_122 : Cond.fieldLink RX6 194 RX5 "peak" "[I" ∈ UW := mU1 122 (by decide +kernel) rfl
theorem u_1_124 : Cond.fieldLink RX6 195 RX5 "age" "[I" ∈ UW := mU1 124 (by decide +kernel) rfl
theorem u_1_126 : Cond.fieldLink RX6 198 RX5 "missed" "[I" ∈ UW := mU1 126 (by decide +kernel) rfl
theorem u_1_129 : Cond.fieldLink RX6 201 RX5 "moved" "[I" ∈ UW := mU1 129 (by decide +kernel) rfl
theorem u_3_99 : Cond.methodLink RX6 204 yX4_pairUp ∈ UW := mU3 99 (by decide +kernel) rfl
theorem u_1_201 : Cond.fieldLink RX6 207 RX3 "total" "I" ∈ UW := mU1 201 (by decide +kernel) rfl
theorem u_3_100 : Cond.methodLink RX6 210 yX3_contactOf ∈ UW := mU3 100 (by decide +kernel) rfl
theorem u_3_105 : Cond.methodLink RX6 213 yX6_stateAfter ∈ UW := mU3 105 (by decide +kernel) rfl
theorem u_3_116 : Cond.code yX6_choose cX6_choose 5 (some .long) ∈ UW := mU3 116 rfl rfl
theorem u_3_115 : Cond.static yX6_choose ∈ UW := mU3 115 (by decide +kernel) rfl
theorem u_3_114 : Cond.methodLink RX6 263 yX6_choose ∈ UW := mU3 114 (by decide +kernel) rfl
theorem u_3_110 : Cond.methodLink RX6 217 yJ6_bitCount_0f7a4 ∈ UW := mU3 110 (by decide +kernel) rfl
theorem u_3_113 : Cond.code yX6_waysToCover cX6_waysToCover 9 (some .long) ∈ UW := mU3 113 rfl rfl
theorem u_3_112 : Cond.static yX6_waysToCover ∈ UW := mU3 112 (by decide +kernel) rfl
theorem u_3_111 : Cond.methodLink RX6 222 yX6_waysToCover ∈ UW := mU3 111 (by decide +kernel) rfl
theorem u_3_117 : Cond.constantLong RX6 226 (-1000000002) ∈ UW := mU3 117 (by decide +kernel) rfl
theorem u_4_137 : Cond.constantLong RX7 142 (-1000000002) ∈ UW := mU4 137 (by decide +kernel) rfl
theorem u_4_140 : Cond.code yX7_choose cX7_choose 5 (some .long) ∈ UW := mU4 140 rfl rfl
theorem u_4_139 : Cond.static yX7_choose ∈ UW := mU4 139 (by decide +kernel) rfl
theorem u_4_138 : Cond.methodLink RX7 144 yX7_choose ∈ UW := mU4 138 (by decide +kernel) rfl
theorem u_3_123 : Cond.constantLong RX6 230 (31) ∈ UW := mU3 123 (by decide +kernel) rfl
theorem u_3_66 : Cond.code yX6_cell cX6_cell 5 (some .int) ∈ UW := mU3 66 rfl rfl
theorem u_3_129 : Cond.methodLink RX6 253 yX6_cell ∈ UW := mU3 129 (by decide +kernel) rfl
theorem u_3_64 : Cond.instanceMethod yX6_cell ∈ UW := mU3 64 (by decide +kernel) rfl
theorem u_3_65 : Cond.selects RX6 yX6_cell yX6_cell ∈ UW := mU3 65 (by decide +kernel) rfl
theorem u_3_122 : Cond.constantLong RX6 228 (17) ∈ UW := mU3 122 (by decide +kernel) rfl
theorem u_3_62 : Cond.code yX6_told cX6_told 2 (some .int) ∈ UW := mU3 62 rfl rfl
theorem u_3_124 : Cond.methodLink RX6 232 yX6_told ∈ UW := mU3 124 (by decide +kernel) rfl
theorem u_3_60 : Cond.instanceMethod yX6_told ∈ UW := mU3 60 (by decide +kernel) rfl
theorem u_3_61 : Cond.selects RX6 yX6_told yX6_told ∈ UW := mU3 61 (by decide +kernel) rfl
theorem u_3_128 : Cond.code yX6_digestCells cX6_digestCells 8 (some .long) ∈ UW := mU3 128 rfl rfl
theorem u_3_125 : Cond.methodLink RX6 235 yX6_digestCells ∈ UW := mU3 125 (by decide +kernel) rfl
theorem u_3_127 : Cond.instanceMethod yX6_digestCells ∈ UW := mU3 127 (by decide +kernel) rfl
theorem u_s21 : Cond.selects RX6 yX6_digestCells yX6_digestCells ∈ UW := mUS (y := yX6_digestCells) (n := 6) 21 (by decide +kernel) rfl
theorem u_3_71 : Cond.code yX6_contact cX6_contact 4 (some .int) ∈ UW := mU3 71 rfl rfl
theorem u_3_130 : Cond.methodLink RX6 239 yX6_contact ∈ UW := mU3 130 (by decide +kernel) rfl
theorem u_3_69 : Cond.instanceMethod yX6_contact ∈ UW := mU3 69 (by decide +kernel) rfl
theorem u_3_70 : Cond.selects RX6 yX6_contact yX6_contact ∈ UW := mU3 70 (by decide +kernel) rfl
theorem u_3_86 : Cond.code yX6_track cX6_track 3 (some .int) ∈ UW := mU3 86 rfl rfl
theorem u_3_131 : Cond.methodLink RX6 242 yX6_track ∈ UW := mU3 131 (by decide +kernel) rfl
theorem u_3_84 : Cond.instanceMethod yX6_track ∈ UW := mU3 84 (by decide +kernel) rfl
theorem u_3_85 : Cond.selects RX6 yX6_track yX6_track ∈ UW := mU3 85 (by decide +kernel) rfl
theorem u_4_145 : Cond.constantLong RX7 148 (17) ∈ UW := mU4 145 (by decide +kernel) rfl
theorem u_4_146 : Cond.constantLong RX7 150 (31) ∈ UW := mU4 146 (by decide +kernel) rfl
theorem u_1_231 : Cond.fieldLink RX6 16 RX6 "imageZero" "LTouchPanel$Scene;" ∈ UW := mU1 231 (by decide +kernel) rfl
theorem u_1_232 : Cond.fieldLink RX6 19 RX6 "imageOne" "LTouchPanel$Scene;" ∈ UW := mU1 232 (by decide +kernel) rfl
theorem u_3_151 : Cond.methodLink RX1 46 arraycopyName ∈ UW := mU3 151 (by decide +kernel) rfl
theorem u_3_146 : Cond.native arraycopyName ∈ UW := mU3 146 (by decide +kernel) rfl
theorem u_3_145 : Cond.static arraycopyName ∈ UW := mU3 145 (by decide +kernel) rfl
theorem u_1_12 : Cond.initialized RJ10 ∈ UW := mU1 12 (by decide +kernel) rfl
theorem u_3_156 : Cond.methodLink RX0 22 arraycopyName ∈ UW := mU3 156 (by decide +kernel) rfl
theorem u_3_144 : Cond.methodLink RX4 62 arraycopyName ∈ UW := mU3 144 (by decide +kernel) rfl
theorem u_3_150 : Cond.code yX1_copyFrom cX1_copyFrom 2 none ∈ UW := mU3 150 rfl rfl
theorem u_3_147 : Cond.methodLink RX4 68 yX1_copyFrom ∈ UW := mU3 147 (by decide +kernel) rfl
theorem u_3_148 : Cond.instanceMethod yX1_copyFrom ∈ UW := mU3 148 (by decide +kernel) rfl
theorem u_3_149 : Cond.selects RX1 yX1_copyFrom yX1_copyFrom ∈ UW := mU3 149 (by decide +kernel) rfl
theorem u_3_155 : Cond.code yX0_copyFrom cX0_copyFrom 2 none ∈ UW := mU3 155 rfl rfl
theorem u_3_152 : Cond.methodLink RX4 72 yX0_copyFrom ∈ UW := mU3 152 (by decide +kernel) rfl
theorem u_3_153 : Cond.instanceMethod yX0_copyFrom ∈ UW := mU3 153 (by decide +kernel) rfl
theorem u_3_154 : Cond.selects RX0 yX0_copyFrom yX0_copyFrom ∈ UW := mU3 154 (by decide +kernel) rfl
theorem u_3_160 : Cond.code yX5_copyFrom cX5_copyFrom 3 none ∈ UW := mU3 160 rfl rfl
theorem u_3_157 : Cond.methodLink RX4 75 yX5_copyFrom ∈ UW := mU3 157 (by decide +kernel) rfl
theorem u_3_158 : Cond.instanceMethod yX5_copyFrom ∈ UW := mU3 158 (by decide +kernel) rfl
theorem u_3_159 : Cond.selects RX5 yX5_copyFrom yX5_copyFrom ∈ UW := mU3 159 (by decide +kernel) rfl
theorem u_3_139 : Cond.code yX6_imageAt cX6_imageAt 2 (some (.object "TouchPanel$Scene")) ∈ UW := mU3 139 rfl rfl
theorem u_3_136 : Cond.methodLink RX6 245 yX6_imageAt ∈ UW := mU3 136 (by decide +kernel) rfl
theorem u_3_138 : Cond.instanceMethod yX6_imageAt ∈ UW := mU3 138 (by decide +kernel) rfl
theorem u_s22 : Cond.selects RX6 yX6_imageAt yX6_imageAt ∈ UW := mUS (y := yX6_imageAt) (n := 6) 22 (by decide +kernel) rfl
theorem u_3_143 : Cond.code yX4_copyFrom cX4_copyFrom 2 none ∈ UW := mU3 143 rfl rfl
theorem u_3_140 : Cond.methodLink RX6 249 yX4_copyFrom ∈ UW := mU3 140 (by decide +kernel) rfl
theorem u_3_141 : Cond.instanceMethod yX4_copyFrom ∈ UW := mU3 141 (by decide +kernel) rfl
theorem u_3_142 : Cond.selects RX4 yX4_copyFrom yX4_copyFrom ∈ UW := mU3 142 (by decide +kernel) rfl
theorem u_1_235 : Cond.fieldLink RX6 36 RX6 "keptImages" "I" ∈ UW := mU1 235 (by decide +kernel) rfl
theorem u_3_179 : Cond.fieldLink RX7 19 RX7 "isKept" "[Z" ∈ UW := mU3 179 (by decide +kernel) rfl
theorem u_3_180 : Cond.fieldLink RX7 23 RX7 "kept" "[I" ∈ UW := mU3 180 (by decide +kernel) rfl
theorem u_1_104 : Cond.laysFinal RX0 RX0 "peaks" "[I" ∈ UW := mU1 104 (by decide +kernel) rfl
theorem u_1_106 : Cond.lays RX0 RX0 "count" "I" ∈ UW := mU1 106 (by decide +kernel) rfl
theorem u_1_108 : Cond.lays RX0 RX0 "palms" "I" ∈ UW := mU1 108 (by decide +kernel) rfl
theorem u_1_68 : Cond.lays RX1 RX1 "rows" "I" ∈ UW := mU1 68 (by decide +kernel) rfl
theorem u_1_70 : Cond.lays RX1 RX1 "columns" "I" ∈ UW := mU1 70 (by decide +kernel) rfl
theorem u_1_72 : Cond.laysFinal RX1 RX1 "raw" "[I" ∈ UW := mU1 72 (by decide +kernel) rfl
theorem u_1_74 : Cond.laysFinal RX1 RX1 "ground" "[I" ∈ UW := mU1 74 (by decide +kernel) rfl
theorem u_1_76 : Cond.laysFinal RX1 RX1 "signal" "[I" ∈ UW := mU1 76 (by decide +kernel) rfl
theorem u_1_78 : Cond.laysFinal RX1 RX1 "peak" "[I" ∈ UW := mU1 78 (by decide +kernel) rfl
theorem u_1_80 : Cond.lays RX1 RX1 "lostRows" "I" ∈ UW := mU1 80 (by decide +kernel) rfl
theorem u_1_82 : Cond.lays RX1 RX1 "touched" "I" ∈ UW := mU1 82 (by decide +kernel) rfl
theorem u_1_84 : Cond.lays RX1 RX1 "missing" "I" ∈ UW := mU1 84 (by decide +kernel) rfl
theorem u_1_227 : Cond.lays RX2 RX2 "x" "J" ∈ UW := mU1 227 (by decide +kernel) rfl
theorem u_1_202 : Cond.laysFinal RX3 RX3 "ways" "[I" ∈ UW := mU1 202 (by decide +kernel) rfl
theorem u_1_204 : Cond.laysFinal RX3 RX3 "least" "[I" ∈ UW := mU1 204 (by decide +kernel) rfl
theorem u_1_206 : Cond.laysFinal RX3 RX3 "chosen" "[I" ∈ UW := mU1 206 (by decide +kernel) rfl
theorem u_1_208 : Cond.lays RX3 RX3 "trackCount" "I" ∈ UW := mU1 208 (by decide +kernel) rfl
theorem u_1_210 : Cond.lays RX3 RX3 "contactCount" "I" ∈ UW := mU1 210 (by decide +kernel) rfl
theorem u_1_212 : Cond.lays RX3 RX3 "farBound" "I" ∈ UW := mU1 212 (by decide +kernel) rfl
theorem u_1_214 : Cond.lays RX3 RX3 "taken" "I" ∈ UW := mU1 214 (by decide +kernel) rfl
theorem u_1_216 : Cond.lays RX3 RX3 "total" "I" ∈ UW := mU1 216 (by decide +kernel) rfl
theorem u_1_172 : Cond.laysFinal RX4 RX4 "bounds" "[I" ∈ UW := mU1 172 (by decide +kernel) rfl
theorem u_1_174 : Cond.laysFinal RX4 RX4 "grid" "LTouchPanel$Grid;" ∈ UW := mU1 174 (by decide +kernel) rfl
theorem u_1_176 : Cond.laysFinal RX4 RX4 "contacts" "LTouchPanel$Contacts;" ∈ UW := mU1 176 (by decide +kernel) rfl
theorem u_1_178 : Cond.laysFinal RX4 RX4 "tracks" "LTouchPanel$Tracks;" ∈ UW := mU1 178 (by decide +kernel) rfl
theorem u_1_180 : Cond.lays RX4 RX4 "frames" "I" ∈ UW := mU1 180 (by decide +kernel) rfl
theorem u_1_182 : Cond.lays RX4 RX4 "state" "I" ∈ UW := mU1 182 (by decide +kernel) rfl
theorem u_1_184 : Cond.lays RX4 RX4 "wayAtThree" "I" ∈ UW := mU1 184 (by decide +kernel) rfl
theorem u_1_140 : Cond.laysFinal RX5 RX5 "name" "[I" ∈ UW := mU1 140 (by decide +kernel) rfl
theorem u_1_142 : Cond.laysFinal RX5 RX5 "peak" "[I" ∈ UW := mU1 142 (by decide +kernel) rfl
theorem u_1_144 : Cond.laysFinal RX5 RX5 "age" "[I" ∈ UW := mU1 144 (by decide +kernel) rfl
theorem u_1_146 : Cond.laysFinal RX5 RX5 "missed" "[I" ∈ UW := mU1 146 (by decide +kernel) rfl
theorem u_1_148 : Cond.laysFinal RX5 RX5 "moved" "[I" ∈ UW := mU1 148 (by decide +kernel) rfl
theorem u_1_150 : Cond.lays RX5 RX5 "count" "I" ∈ UW := mU1 150 (by decide +kernel) rfl
theorem u_1_152 : Cond.lays RX5 RX5 "nextName" "I" ∈ UW := mU1 152 (by decide +kernel) rfl
theorem u_1_154 : Cond.lays RX5 RX5 "taps" "I" ∈ UW := mU1 154 (by decide +kernel) rfl
theorem u_1_156 : Cond.lays RX5 RX5 "lifts" "I" ∈ UW := mU1 156 (by decide +kernel) rfl
theorem u_1_236 : Cond.laysFinal RX6 RX6 "now" "LTouchPanel$Scene;" ∈ UW := mU1 236 (by decide +kernel) rfl
theorem u_1_238 : Cond.laysFinal RX6 RX6 "imageZero" "LTouchPanel$Scene;" ∈ UW := mU1 238 (by decide +kernel) rfl
theorem u_2_0 : Cond.laysFinal RX6 RX6 "imageOne" "LTouchPanel$Scene;" ∈ UW := mU2 0 (by decide +kernel) rfl
theorem u_2_2 : Cond.laysFinal RX6 RX6 "pairing" "LTouchPanel$Pairing;" ∈ UW := mU2 2 (by decide +kernel) rfl
theorem u_2_4 : Cond.laysFinal RX6 RX6 "lots" "LTouchPanel$Lots;" ∈ UW := mU2 4 (by decide +kernel) rfl
theorem u_2_6 : Cond.lays RX6 RX6 "keptImages" "I" ∈ UW := mU2 6 (by decide +kernel) rfl
theorem u_3_181 : Cond.laysFinal RX7 RX7 "now" "[I" ∈ UW := mU3 181 (by decide +kernel) rfl
theorem u_3_183 : Cond.laysFinal RX7 RX7 "costs" "[I" ∈ UW := mU3 183 (by decide +kernel) rfl
theorem u_3_185 : Cond.laysFinal RX7 RX7 "pairs" "[I" ∈ UW := mU3 185 (by decide +kernel) rfl
theorem u_3_187 : Cond.lays RX7 RX7 "lot" "J" ∈ UW := mU3 187 (by decide +kernel) rfl
theorem u_3_189 : Cond.laysFinal RX7 RX7 "isKept" "[Z" ∈ UW := mU3 189 (by decide +kernel) rfl
theorem u_3_191 : Cond.laysFinal RX7 RX7 "kept" "[I" ∈ UW := mU3 191 (by decide +kernel) rfl
theorem inUX0 : ∀ w ∈ u_ws RX0 TX0 3, w ∈ UW := List.forall_mem_cons.mpr ⟨u_1_104, List.forall_mem_cons.mpr ⟨u_1_106, List.forall_mem_cons.mpr ⟨u_1_108, fun _ h => absurd h List.not_mem_nil⟩⟩⟩
theorem inUX1 : ∀ w ∈ u_ws RX1 TX1 9, w ∈ UW := List.forall_mem_cons.mpr ⟨u_1_68, List.forall_mem_cons.mpr ⟨u_1_70, List.forall_mem_cons.mpr ⟨u_1_72, List.forall_mem_cons.mpr ⟨u_1_74, List.forall_mem_cons.mpr ⟨u_1_76, List.forall_mem_cons.mpr ⟨u_1_78, List.forall_mem_cons.mpr ⟨u_1_80, List.forall_mem_cons.mpr ⟨u_1_82, List.forall_mem_cons.mpr ⟨u_1_84, fun _ h => absurd h List.not_mem_nil⟩⟩⟩⟩⟩⟩⟩⟩⟩
theorem inUX2 : ∀ w ∈ u_ws RX2 TX2 1, w ∈ UW := List.forall_mem_cons.mpr ⟨u_1_227, fun _ h => absurd h List.not_mem_nil⟩
theorem inUX3 : ∀ w ∈ u_ws RX3 TX3 8, w ∈ UW := List.forall_mem_cons.mpr ⟨u_1_202, List.forall_mem_cons.mpr ⟨u_1_204, List.forall_mem_cons.mpr ⟨u_1_206, List.forall_mem_cons.mpr ⟨u_1_208, List.forall_mem_cons.mpr ⟨u_1_210, List.forall_mem_cons.mpr ⟨u_1_212, List.forall_mem_cons.mpr ⟨u_1_214, List.forall_mem_cons.mpr ⟨u_1_216, fun _ h => absurd h List.not_mem_nil⟩⟩⟩⟩⟩⟩⟩⟩
theorem inUX4 : ∀ w ∈ u_ws RX4 TX4 7, w ∈ UW := List.forall_mem_cons.mpr ⟨u_1_172, List.forall_mem_cons.mpr ⟨u_1_174, List.forall_mem_cons.mpr ⟨u_1_176, List.forall_mem_cons.mpr ⟨u_1_178, List.forall_mem_cons.mpr ⟨u_1_180, List.forall_mem_cons.mpr ⟨u_1_182, List.forall_mem_cons.mpr ⟨u_1_184, fun _ h => absurd h List.not_mem_nil⟩⟩⟩⟩⟩⟩⟩
theorem inUX5 : ∀ w ∈ u_ws RX5 TX5 9, w ∈ UW := List.forall_mem_cons.mpr ⟨u_1_140, List.forall_mem_cons.mpr ⟨u_1_142, List.forall_mem_cons.mpr ⟨u_1_144, List.forall_mem_cons.mpr ⟨u_1_146, List.forall_mem_cons.mpr ⟨u_1_148, List.forall_mem_cons.mpr ⟨u_1_150, List.forall_mem_cons.mpr ⟨u_1_152, List.forall_mem_cons.mpr ⟨u_1_154, List.forall_mem_cons.mpr ⟨u_1_156, fun _ h => absurd h List.not_mem_nil⟩⟩⟩⟩⟩⟩⟩⟩⟩
theorem inUX6 : ∀ w ∈ u_ws RX6 TX6 6, w ∈ UW := List.forall_mem_cons.mpr ⟨u_1_236, List.forall_mem_cons.mpr ⟨u_1_238, List.forall_mem_cons.mpr ⟨u_2_0, List.forall_mem_cons.mpr ⟨u_2_2, List.forall_mem_cons.mpr ⟨u_2_4, List.forall_mem_cons.mpr ⟨u_2_6, fun _ h => absurd h List.not_mem_nil⟩⟩⟩⟩⟩⟩
theorem inUX7 : ∀ w ∈ u_ws RX7 TX7 6, w ∈ UW := List.forall_mem_cons.mpr ⟨u_3_181, List.forall_mem_cons.mpr ⟨u_3_183, List.forall_mem_cons.mpr ⟨u_3_185, List.forall_mem_cons.mpr ⟨u_3_187, List.forall_mem_cons.mpr ⟨u_3_189, List.forall_mem_cons.mpr ⟨u_3_191, fun _ h => absurd h List.not_mem_nil⟩⟩⟩⟩⟩⟩
