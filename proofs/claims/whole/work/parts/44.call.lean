/-! a call out of the law -/
theorem callG {G : Gt} {p : Program} {l : Launch} {e : Env} {R : Room} {s : State} {m : MethodId} {args : Array Value} {below : List Frame} {meth : Method} {c : Code} {H : Heap} {locs : List Loc} {cells slots : Nat} {Z : State → Prop} {pc : Nat} {ls : Array Slot} {rest st0 : List Value} {a : Array Value} {Q : Qt} {H0 : Heap}
    (hr : va_Run p l e R s m args below meth c H locs cells slots 0 0 (F0 m pc ls st0) rest (QC G Q a) (Asb G.2.2.2.2.2)) (hS : va_S (Asb G.2.2.2.2.2) H0 H locs)
    (kk : ∀ (r : Option Value) (M' : Mm) (H1 : Heap) (locs1 : List Loc), Q r M' → Wo G M' H1 → va_S (Asb G.2.2.2.2.2) H0 H1 locs1 → W p l e R s m args below meth c H1 locs1 cells slots Z (F0 m (pc + 3) ls ((r.map (cv G.2.2.1)).toList ++ rest))) : W p l e R s m args below meth c H locs cells slots Z (F0 m pc ls st0) := by
  intro T hT X
  obtain ⟨v, st₀, t, T', L, h0, X', hL, e1, e2, ⟨⟨r, M', hv, hp, hb⟩, hz, hk⟩, st⟩ := hr T hT X
  cases hv
  rw [h0] at hz hk
  obtain ⟨t2, a1, b1⟩ := kk r M' T'.heap (locs ++ L) hp (by rw [e1]; exact hb)
    ⟨Nat.le_trans hS.1 (by rw [e1]; exact hz), fun q h1 h2 => by rw [e1, hk q (Nat.lt_of_lt_of_le h1 hS.1) h2]; exact hS.2.1 q h1 h2, fun q hq => by
      rcases List.mem_append.mp hq with h | h
      · exact hS.2.2 q h
      · exact hL q h⟩ T' rfl X'
  exact ⟨t2, st t2 a1, b1⟩
theorem goodL {C : String} {idx : Nat} {y' : MethodName} {cc' : ByteArray} {nL' : Nat} {ret' : Option FieldType} (h1 : Cond.methodLink RL idx y' ∈ UW) (h2 : Cond.instanceMethod y' ∈ UW) (h3 : Cond.selects C y' y' ∈ UW) (h4 : Cond.initialized C ∈ UW) (h : Cond.code y' cc' nL' ret' ∈ UW) : GoodIn lw_tbl (wsV RL idx C y' (uws y' cc' nL' ret')) := by
  have inT : ∀ w, w ∈ UW → w ∈ lw_tbl := fun w hw => (List.mem_filter.mp hw).1
  intro w hw
  unfold wsV at hw
  rcases List.mem_append.mp hw with hw | hw
  · simp only [List.mem_cons, List.not_mem_nil, or_false] at hw
    rcases hw with rfl | rfl | rfl | rfl
    · exact ⟨inT _ h1, goodUW h1⟩
    · exact ⟨inT _ h2, goodUW h2⟩
    · exact ⟨inT _ h3, goodUW h3⟩
    · exact ⟨inT _ h4, goodUW h4⟩
  · rcases List.mem_cons.mp hw with rfl | hw
    · exact ⟨inT _ h, goodUW h⟩
    · exact ⟨inT _ hw, goodUW hw⟩
/-- the law calls a method of the cell a -/
theorem lcall {G : Gt} {p : Program} {e : Env} {s : State} {m : MethodId} {args : Array Value} {below : List Frame} {meth : Method} {c : Code} {H : Heap} {locs : List Loc} {cells slots : Nat} {Z : State → Prop} {pc : Nat} {ls : Array Slot} {rest av : List Value} {M : Mm} {Q : Qt} {n ci a idx : Nat} {y : MethodName} {bytes : ByteArray} {maxL : Nat} {ret : Option FieldType} {rm : Room} {T : u_T} {N : Nat} {ks : List Nat}
    (hf : CallFix p m c cL_law 4 s args lw_tbl RL) (hC : Cx G s) (hW : Wo G M H) (hS : va_S (Asb G.2.2.2.2.2) s.heap H locs) (hsz : ls.size = 4) (hdg : decode cL_law pc = .ok (.invokevirtual idx, 3)) (hM : Cn G y (uws y bytes maxL ret) rm (.ref a :: av) M Q)
    (hG : GoodIn lw_tbl (wsV RL idx y.cls y (uws y bytes maxL ret))) (hrc : rm.cells = 0) (hrs : rm.slots = 0) (hc : vwCl[ci]? = some (y.cls, T, N)) (ho : lay[a]? = some (.inr (ci, ks))) (hd : y.cls ≠ "java/lang/invoke/MethodHandle" ∧ y.cls ≠ "java/lang/invoke/VarHandle" ∧ (parseMethodDescriptor y.desc).map (fun d => d.parameters.length) = some n) (hR : rm.frames + 1 ≤ room_1.frames ∧ 8 + (maxL + 11) + rm.locals ≤ room_1.locals) (hn : av.length = n) (hcat : (rest.map fun v => v.category).sum ≤ 8) (hcl : cells ≤ room_1.cells) (hsl : slots ≤ room_1.slots)
    (kk : ∀ (r : Option Value) (M' : Mm) (H1 : Heap) (locs1 : List Loc), Q r M' → Wo G M' H1 → va_S (Asb G.2.2.2.2.2) s.heap H1 locs1 → W p G.1 e room_1 s m args below meth c H1 locs1 cells slots Z (F0 m (pc + 3) ls ((r.map (cv G.2.2.1)).toList ++ rest))) : W p G.1 e room_1 s m args below meth c H locs cells slots Z (F0 m pc ls ((av.map (cv G.2.2.1)).reverse ++ .ref (G.2.2.1 a) :: rest)) := by
  refine callG (va_runV (As := av.map (cv G.2.2.1)) (rest := rest) (b := G.2.2.1 a) (ret := ret) (bytes := bytes) (maxL := maxL) hf hM (cwV n hf.2.2.2.2 hG rfl hrc hrs ⟨rfl, hd⟩ hR) ⟨Pre.blind, ?_, ?_⟩ rfl (by simp [hn]) hsz rfl (lv_room hcat) hdg ⟨hcl, hsl⟩) hS kk
  · exact va_recv hC.1 hW.1 hc (wd_at ho)
  · intro U hU hWm
    exact ⟨rfl, by rw [hU]; exact hW, hC.at hS hU hWm⟩
