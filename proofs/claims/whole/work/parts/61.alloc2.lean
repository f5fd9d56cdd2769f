/-! The walk that makes cells: arrays of inserts, calls -/
theorem ea_sz {G : cx_G} {w : List va_E} {p : Program} {l : Launch} {e : Env} {R : Room} {s : State} {m : MethodId} {args : Array Value} {below : List Frame} {meth : Method} {c : Code} {T : State} {locs locs' : List Loc} {k n : Nat} {H : Heap} (hg : ga G) (h0 : cxa G 0 ≤ s.heap.size) (hz : s.heap.size + k = cxa G w.length) (X : Stand p l e R s m args below meth c T locs k n) (hT : T.heap = H) (hP : va_P (cxD G) vwCl (cx_lay G w) H) (hS : va_S (aA G) s.heap H locs') : H.size = cxa G w.length := by
  have h1 := X.heapSize
  rw [hT] at h1
  have h2 := hS.1
  have h3 := hg w.length
  by_cases e : w.length = 0
  · rw [e] at h3 hz ⊢
    omega
  · have hin : (cx_lay G w)[w.length - 1]? = some (cxa G (w.length - 1), w[w.length - 1]'(by omega)) := cx_lay_get (List.getElem?_eq_getElem (by omega))
    have h4 : cxa G (w.length - 1) < H.size := (hP _ _ hin).lt
    have h5 := hg (w.length - 1)
    omega
theorem ea_go {G : cx_G} {pc : Nat} {st S : List Value} {w1 : List va_E} {k n mc ms : Nat} {p : Program} {l : Launch} {e : Env} {R : Room} {s : State} {m : MethodId} {args : Array Value} {below : List Frame} {meth : Method} {c : Code} {H : Heap} {locs : List Loc} {Q : State → Prop} {ls : Array Slot} {a : Array Value} (hr : va_Run p l e R s m args below meth c H locs k n mc ms (F0 m pc ls st) S (ea_Q G w1 a) (aA G)) (hS : va_S (aA G) s.heap H locs)
    (kk : ∀ (H1 : Heap) (locs1 : List Loc), va_P (cxD G) vwCl (cx_lay G w1) H1 → va_S (aA G) s.heap H1 locs1 → W p l e R s m args below meth c H1 locs1 (k + mc) (n + ms) Q (F0 m (pc + 3) ls S)) : W p l e R s m args below meth c H locs k n Q (F0 m pc ls st) := by
  intro T hT X
  obtain ⟨v, st₀, t, T', L, h0, X', hL, e1, e2, ⟨⟨hv, hPt⟩, hz, hk⟩, st⟩ := hr T hT X
  cases hv
  rw [h0] at hz hk
  obtain ⟨t2, a1, b1⟩ := kk T'.heap (locs ++ L) (by rw [e1]; exact hPt)
    ⟨Nat.le_trans hS.1 (by rw [e1]; exact hz), fun q h1 h2 => by rw [e1, hk q (Nat.lt_of_lt_of_le h1 hS.1) h2]; exact hS.2.1 q h1 h2, fun q hq => by
      rcases List.mem_append.mp hq with h | h
      · exact hS.2.2 q h
      · exact hL q h⟩ T' rfl X'
  exact ⟨t2, st t2 a1, b1⟩
def cx_kI (own : String) (M' : cx_M) (idx nA : Nat) : Prop := cx_k0 M' nA ∧ Cond.methodLink own idx (My M') ∈ WS ∧ Cond.instanceMethod (My M') ∈ WS ∧ (My M').name = "<init>" ∧ Mr M' = none
def cx_kIN (own : String) (M' : cx_M) (idx nA : Nat) : Prop := cx_k0 M' nA ∧ (∃ host, Cond.methodLinkNest own idx (My M') host ∈ cx_nest) ∧ Cond.instanceMethod (My M') ∈ WS ∧ (My M').name = "<init>" ∧ Mr M' = none
section Al2
variable {G : cx_G} {M M' : cx_M} {pc : Nat} {L : List (Option Value)} {S st : List Value} {w w1 : List va_E} {R : Room} {k n : Nat} {Q : Array Value → List Frame → State → State → Prop}
theorem Ea.anew {N' : Nat} {x : Int32} {index : Nat} (hg : ga G) (d : decode (Mc M) pc = .ok (.anewarray index, 3)) (hcl : Cond.classLink (Mo M) index "TurnedBar$Insert" ∈ WS) (hn : ¬ x < 0) (hN : x.toNatClampNeg = N') (hb : N' * 4 ≤ 536870912) (hcells : k + 1 ≤ R.cells) (hslots : n + N' ≤ R.slots)
    (kk : Ea G M (pc + 3) L (.ref (cxa G w.length) :: S) (w ++ [.inl (cxC G 2, N', .inr (.inr (.inr (.inr (fun _ => none)))))]) (R, k + 1, n + N', Q)) : Ea G M pc L (.int x :: S) w (R, k, n, Q) := by
  intro p l e s m args below meth c H locs ls hC hz hP hS hL
  refine va_newq (C := "TurnedBar$Insert") (N' := N') hC.1 hC.2.1 hC.2.2.2.2.1 (hC.2.2.2.2.2.2.1 _ hcl) hC.2.2.2.2.2.2.2.1.2.2.2 hC.2.2.2.2.2.2.2.1.1 hP (ea_D hg w) hS (fun q hq => Nat.le_trans hC.2.2.2.2.2.2.2.2.1 hq) hn hN hb hcells hslots d (fun q cA H1 hK1 hP1 hD1 hS1 T1 hT1 X1 => ?_)
  have hz : s.heap.size + k = cxa G w.length := hz
  have hcA : cA = cxC G 2 := by
    obtain ⟨_, _, _, _, _, h1⟩ := (hK1.2 3 (cA, .object "TurnedBar$Insert") rfl).2
    obtain ⟨_, _, _, _, _, h2⟩ := (hC.2.2.2.2.2.2.2.1.1.2 2 (cxC G 2, .object cx_El) rfl).2
    exact Option.some.inj (h1.symm.trans h2)
  subst hcA
  have ea := ea_adr hg hz X1 (by rw [hT1]; exact hP1) hD1
  subst ea
  rw [cx_lay_app] at hP1
  refine kk p l e s m args below meth c H1 locs ls hC ?_ hP1 hS1 hL T1 hT1 X1
  show s.heap.size + (k + 1) = cxa G (w ++ [_]).length
  rw [List.length_append, List.length_singleton, hg (w.length + 1)]
  have := hg w.length
  omega
theorem Ea.aast {E : cx_E} {N' q0 qk j : Nat} {x : Int32} {vs : List Value} {f : Nat → Option Nat} (hg : ga G) (d : decode (Mc M) pc = .ok (.aastore, 1)) (ha : w[q0]? = some (.inl (cxC G 2, N', .inr (.inr (.inr (.inr f)))))) (hv : w[qk]? = some (.inr (1, vs))) (hj : x.toNatClampNeg = j) (hin : vp_in x N')
    (kk : Ea G M (pc + 1) L S (w.set q0 (.inl (cxC G 2, N', .inr (.inr (.inr (.inr (va_up f j (some (cxa G qk))))))))) E) : Ea G M pc L (.ref (cxa G qk) :: .int x :: .ref (cxa G q0) :: S) w E := by
  intro p l e s m args below meth c H locs ls hC hz hP hS hL
  subst hj
  refine va_astq (r := (RI, FI, 3)) hC.1 hC.2.1 hC.2.2.2.2.2.2.2.1.1 hP (ea_D hg w) hS q0 2 qk 1 (cx_lay_get ha) rfl (cx_lay_get hv) rfl hin d (fun H1 locs1 hP1 _ hS1 => ?_)
  rw [cx_lay_set] at hP1
  exact kk p l e s m args below meth c H1 locs1 ls hC (by rw [List.length_set]; exact hz) hP1 hS1 hL
theorem Ea.callI {idx nA b mc ms : Nat} {As : List Value} (hg : ga G) (d : decode (Mc M) pc = .ok (.invokespecial idx, 3)) (lk : cx_kI (Mo M) M' idx nA) (hR : cx_kR R M') (hc : Ci G M' (.ref b :: As) w w1 mc ms) (hw : w1.length = w.length + mc) (hA : As.length = nA) (hst : st = As.reverse ++ .ref b :: st.drop (nA + 1)) (h8 : ((st.drop (nA + 1)).map fun v => v.category).sum ≤ 8) (hf : k + mc ≤ R.cells ∧ n + ms ≤ R.slots)
    (kk : Ea G M (pc + 3) L (st.drop (nA + 1)) w1 (R, k + mc, n + ms, Q)) : Ea G M pc L st w (R, k, n, Q) := by
  intro p l e s m args below meth c H locs ls hC hz hP hS hL T hT X
  have hz : s.heap.size + k = cxa G w.length := hz
  have hsz := ea_sz hg hC.2.2.2.2.2.2.2.2.1 hz X hT hP hS
  obtain ⟨k0, hl, hi, hin, hr⟩ := lk
  have cb : CallB R s args (Mo M) idx (My M') (Mc M') (Ml M') (Mr M') (Mw M') (ea_rm M' mc ms) mc ms nA := callB_of nA hC.2.2.2.2.2.2.1 (ws_good k0.1) rfl rfl rfl (hC.2.2.2.2.2.2.1 _ k0.2.1) (hC.2.2.2.2.2.2.1 _ hl) k0.2.2 hR
  rw [hr] at cb
  refine ea_go (w1 := w1) (va_runI (As := As) (rest := st.drop (nA + 1)) ⟨hC.1, hC.2.1, hC.2.2.2.1, hC.2.2.2.2.1, hC.2.2.2.2.2.2.1⟩ (hc l) ⟨cb, hin, hC.2.2.2.2.2.2.1 _ hi⟩ ⟨ea_blind, fun U hU hW => ⟨rfl, ea_to hC hsz hP hS U hU hW⟩⟩ rfl hA hL.1 hst (lv_room h8) d hf) hS (fun H1 locs1 h1 h2 => ?_) T hT X
  refine kk p l e s m args below meth c H1 locs1 ls hC ?_ h1 h2 hL
  show s.heap.size + (k + mc) = cxa G w1.length
  rw [hw, hg (w.length + mc)]
  have := hg w.length
  omega
theorem Ea.callIN {idx nA b mc ms : Nat} {As : List Value} (hg : ga G) (d : decode (Mc M) pc = .ok (.invokespecial idx, 3)) (lk : cx_kIN (Mo M) M' idx nA) (hR : cx_kR R M') (hc : Ci G M' (.ref b :: As) w w1 mc ms) (hw : w1.length = w.length + mc) (hA : As.length = nA) (hst : st = As.reverse ++ .ref b :: st.drop (nA + 1)) (h8 : ((st.drop (nA + 1)).map fun v => v.category).sum ≤ 8) (hf : k + mc ≤ R.cells ∧ n + ms ≤ R.slots)
    (kk : Ea G M (pc + 3) L (st.drop (nA + 1)) w1 (R, k + mc, n + ms, Q)) : Ea G M pc L st w (R, k, n, Q) := by
  intro p l e s m args below meth c H locs ls hC hz hP hS hL T hT X
  have hz : s.heap.size + k = cxa G w.length := hz
  have hsz := ea_sz hg hC.2.2.2.2.2.2.2.2.1 hz X hT hP hS
  obtain ⟨k0, ⟨host, hn⟩, hi, hin, hr⟩ := lk
  have cb : va_CN R s args (Mo M) idx (My M') host (Mc M') (Ml M') (Mr M') (Mw M') (ea_rm M' mc ms) mc ms nA := va_cnB nA hC.2.2.2.2.2.2.1 (ws_good k0.1) rfl rfl rfl (hC.2.2.2.2.2.2.2.1.2.1 _ hn) (hC.2.2.2.2.2.2.1 _ k0.2.1) k0.2.2 hR
  rw [hr] at cb
  refine ea_go (w1 := w1) (va_runIN (As := As) (rest := st.drop (nA + 1)) ⟨hC.1, hC.2.1, hC.2.2.2.1, hC.2.2.2.2.1, hC.2.2.2.2.2.2.1⟩ (hc l) ⟨cb, hin, hC.2.2.2.2.2.2.1 _ hi⟩ ⟨ea_blind, fun U hU hW => ⟨rfl, ea_to hC hsz hP hS U hU hW⟩⟩ rfl hA hL.1 hst (lv_room h8) d hf) hS (fun H1 locs1 h1 h2 => ?_) T hT X
  refine kk p l e s m args below meth c H1 locs1 ls hC ?_ h1 h2 hL
  show s.heap.size + (k + mc) = cxa G w1.length
  rw [hw, hg (w.length + mc)]
  have := hg w.length
  omega
/-- as many cells as there are -/
def gN (G : cx_G) (n : Nat) : cx_G := (G.1, G.2.1, G.2.2.1, n, G.2.2.2.2)
theorem gN_A {n : Nat} (hg : ga G) {q : Nat} (h : cx_A (gN G n) q) : aA G q := by
  obtain ⟨k, -, rfl⟩ := h
  show cxa G 0 ≤ cxa G k
  rw [hg k]
  omega
theorem gN_inj {n : Nat} (hg : ga G) : cx_inj (gN G n) := fun i j _ _ e => by
  have e : cxa G i = cxa G j := e
  rw [hg i, hg j] at e
  omega
theorem gN_St {n : Nat} (hg : ga G) {U : State} {H : Heap} (h : ea_St G U H) : cx_St (gN G n) U H := fun q hq => by
  obtain ⟨⟨cf, kf, fi, f, a, cell, h1, h2, h3, h4, h5, h6, h7, h8⟩, ⟨cell', g1, g2, g3, g4, g5, g6, g7⟩⟩ := h q hq
  exact ⟨⟨cf, kf, fi, f, a, cell, h1, h2, h3, h4, h5, h6, h7, fun e => h8 (gN_A hg e)⟩, ⟨cell', g1, g2, g3, g4, g5, g6, fun e => g7 (gN_A hg e)⟩⟩
theorem Ea.callV {post1 : Option Value → List va_E → Prop} {C : String} {idx q ci nA : Nat} {fs As : List Value} {cq : vw_C} (hg : ga G) (d : decode (Mc M) pc = .ok (.invokevirtual idx, 3)) (lk : cx_kV (Mo M) M' C idx nA) (hR : cx_kR R M') (hE : k ≤ R.cells ∧ n ≤ R.slots) (he : w[q]? = some (.inr (ci, fs))) (hq : vwCl[ci]? = some cq) (hcC : cq.1 = C) (hc : Ct (gN G w.length) M' (.ref (cxa G q) :: As) w post1) (hA : As.length = nA) (hst : st = As.reverse ++ .ref (cxa G q) :: st.drop (nA + 1)) (h8 : ((st.drop (nA + 1)).map fun v => v.category).sum ≤ 8)
    (kk : ∀ r w', w'.length = w.length → post1 r w' → Ea G M (pc + 3) L (r.toList ++ st.drop (nA + 1)) w' (R, k, n, Q)) : Ea G M pc L st w (R, k, n, Q) := by
  intro p l e s m args below meth c H locs ls hC hz hP hS hL T hT X
  subst hcC
  obtain ⟨hK, hN, hSt, hAO⟩ := hC.2.2.2.2.2.2.2.1
  have pre : ∀ U : State, U.heap = H → s.WarmedH U.vm → cx_pre (gN G w.length) w U := fun U hU hW => by
    refine ⟨rfl, by rw [hU]; exact hP, ⟨va_K.moved hW.alike hK, gN_inj hg, cx_N.warm cx_nest_ok hW hN⟩, gN_St hg ?_⟩
    rw [hU]
    exact ea_St.kept (ea_St.moved hW.alike hSt) hS.2.1
  have run := va_runV (As := As) (rest := st.drop (nA + 1)) ⟨hC.1, hC.2.1, hC.2.2.2.1, hC.2.2.2.2.1, hC.2.2.2.2.2.2.1⟩ (hc l) ⟨cx_kB hC.2.2.2.2.2.2.1 lk.1 lk.2.2.1 hR, hC.2.2.2.2.2.2.1 _ lk.2.2.2.1, hC.2.2.2.2.2.2.1 _ lk.2.2.2.2⟩ ⟨cx_blind, va_recv hK hP hq (cx_lay_get he), fun U hU hW => ⟨rfl, pre U hU hW⟩⟩ (g := F0 m pc ls st) rfl hA hL.1 hst (lv_room h8) d (locs := locs) (l := l) (e := e) (below := below) (meth := meth) (cells := k) (slots := n) hE T hT X
  obtain ⟨v, st₀, t, T', L', h0, X', hL', e1, e2, ⟨⟨r, w', hv, hp, hn, hPt⟩, hz', hk⟩, st'⟩ := run
  cases hv
  rw [h0] at hz' hk
  have hn : w'.length = w.length := hn
  obtain ⟨t2, a1, b1⟩ := kk v w' hn hp p l e s m args below meth c T'.heap (locs ++ L') ls hC (by rw [hn]; exact hz) (by rw [e1]; exact hPt)
    ⟨Nat.le_trans hS.1 (by rw [e1]; exact hz'), fun q h1 h2 => by rw [e1, hk q (Nat.lt_of_lt_of_le h1 hS.1) (fun e => h2 (gN_A hg e))]; exact hS.2.1 q h1 h2, fun q hq => by
      rcases List.mem_append.mp hq with h | h
      · exact hS.2.2 q h
      · exact gN_A hg (hL' q h)⟩ hL T' rfl X'
  exact ⟨t2, st' t2 a1, b1⟩
end Al2
