/-! A walk that makes cells: the cell that is made as the k-th lies at the address cxa G k; 'Ea' (the machine at a pc, over the cells made so far) and 'Ci' (a constructor's contract) -/
def aA (G : cx_G) : Nat → Prop := fun q => cxa G 0 ≤ q
def ga (G : cx_G) : Prop := ∀ k, cxa G k = cxa G 0 + k
def ea_St (G : cx_G) (U : State) (H : Heap) : Prop := ∀ q, q < 2 → va_Z "TurnedBar" (cx_stn q) "[I" (.ref (cxt G q)) (aA G) U H ∧ va_T .int (cxt G q) 4 (fun j => .int (cx_stp q j)) (aA G) U H
theorem ea_St.moved {G : cx_G} {u U : State} {H : Heap} (hvm : u.vm.Alike U.vm) (h : ea_St G u H) : ea_St G U H := fun q hq => ⟨va_Z.moved hvm (h q hq).1, va_T.moved hvm (h q hq).2⟩
theorem ea_St.kept {G : cx_G} {U : State} {H H1 : Heap} (h : ea_St G U H) (hq : ∀ a : Nat, a < H.size → ¬ aA G a → H1[a]? = H[a]?) : ea_St G U H1 := fun q h2 => ⟨va_Z.kept (h q h2).1 hq, va_T.kept (h q h2).2 hq⟩
def ea_Y (G : cx_G) (U : State) : Prop := va_K (cxD G) vwCl (cx_tys G) U ∧ cx_N U ∧ ea_St G U U.heap ∧ va_AO "TurnedBar$Insert" U
def ea_pre (G : cx_G) (w : List va_E) (U : State) : Prop := U.heap.size = cxa G w.length ∧ va_P (cxD G) vwCl (cx_lay G w) U.heap ∧ ea_Y G U
def ea_Q (G : cx_G) (w' : List va_E) : Array Value → State → Outcome → State → Prop := fun _ st oc t => (oc = .returned none ∧ va_P (cxD G) vwCl (cx_lay G w') t.heap) ∧ va_F (aA G) st t
def ea_rm (M : cx_M) (mc ms : Nat) : Room := { frames := Mf M, cells := mc, slots := ms, locals := Mk M }
def Ci (G : cx_G) (M : cx_M) (av : List Value) (w w' : List va_E) (mc ms : Nat) : Prop := ∀ l : Launch, Met l (My M) (Mw M) (ea_rm M mc ms) (va_Pc av (ea_pre G w)) (ea_Q G w') mc ms (aA G)
def ea_C (G : cx_G) (M : cx_M) (p : Program) (s : State) (m : MethodId) (args : Array Value) (meth : Method) (c : Code) : Prop :=
  p.tables.exec = Jvm.exec ∧ c.code = Mc M ∧ meth.sig.returnType = Mr M ∧ c.maxLocals = Ml M ∧ s.vm.findClass (Mo M) = some m.cls ∧ meth.locks = false ∧ (∀ w ∈ WS, w.before args s = true) ∧ ea_Y G s ∧ cxa G 0 ≤ s.heap.size ∧ ((My M).name = "<init>" → meth.name = "<init>")
def Ea (G : cx_G) (M : cx_M) (pc : Nat) (L : List (Option Value)) (S : List Value) (w : List va_E) (E : cx_E) : Prop :=
  ∀ (p : Program) (l : Launch) (e : Env) (s : State) (m : MethodId) (args : Array Value) (below : List Frame) (meth : Method) (c : Code) (H : Heap) (locs : List Loc) (ls : Array Slot),
    ea_C G M p s m args meth c → s.heap.size + E.2.1 = cxa G w.length → va_P (cxD G) vwCl (cx_lay G w) H → va_S (aA G) s.heap H locs → cx_L ls (Ml M) L →
    W p l e E.1 s m args below meth c H locs E.2.1 E.2.2.1 (E.2.2.2 args below s) (F0 m pc ls S)
theorem ea_D {G : cx_G} (h : ga G) (w : List va_E) : va_D (aA G) (cx_lay G w) := by
  refine ⟨fun i j p q hp hq e => ?_, fun k q hk => ?_⟩
  · obtain ⟨a1, a2⟩ := cx_lay_of hp
    obtain ⟨b1, b2⟩ := cx_lay_of hq
    rw [a2, b2, h i, h j] at e
    omega
  · obtain ⟨a1, a2⟩ := cx_lay_of hk
    show cxa G 0 ≤ q.1
    rw [a2, h k]
    omega
theorem cx_lay_app {G : cx_G} {w : List va_E} {x : va_E} : cx_lay G w ++ [(cxa G w.length, x)] = cx_lay G (w ++ [x]) := by
  simp [cx_lay, List.mapIdx_append]
theorem ea_to {G : cx_G} {M : cx_M} {p : Program} {s : State} {m : MethodId} {args : Array Value} {meth : Method} {c : Code} {H : Heap} {locs : List Loc} {w : List va_E} (hC : ea_C G M p s m args meth c) (hz : H.size = cxa G w.length) (hP : va_P (cxD G) vwCl (cx_lay G w) H) (hS : va_S (aA G) s.heap H locs) (U : State) (hU : U.heap = H) (hW : s.WarmedH U.vm) : ea_pre G w U := by
  obtain ⟨hK, hN, hSt, hAO⟩ := hC.2.2.2.2.2.2.2.1
  refine ⟨by rw [hU]; exact hz, by rw [hU]; exact hP, va_K.moved hW.alike hK, cx_N.warm cx_nest_ok hW hN, ?_, va_AO.moved hW.alike hAO⟩
  rw [hU]
  exact ea_St.kept (ea_St.moved hW.alike hSt) hS.2.1
theorem ea_blind {G : cx_G} {av : List Value} {w : List va_E} : FrameBlind (va_Pc av (ea_pre G w)) := fun a U g mk q => by
  obtain ⟨q0, hz, hP, hK, hN, hSt, hAO⟩ := q
  exact ⟨q0, hz, hP, va_K.moved (u := U) (U := U.calling g mk a) (Vm.Alike.refl U.vm) hK, cx_N.same (s := U) (U := U.calling g mk a) cx_nest_ok rfl hN, ea_St.moved (u := U) (U := U.calling g mk a) (Vm.Alike.refl U.vm) hSt, va_AO.moved (u := U) (U := U.calling g mk a) (Vm.Alike.refl U.vm) hAO⟩
def ea_e (G : cx_G) (w' : List va_E) (M : cx_M) (mc ms k n : Nat) : cx_E := (ea_rm M mc ms, k, n, fun args below s => MQ below (ea_Q G w') args s mc ms (aA G))
theorem ar_int : Cond.arrayClass .int ∈ WS := ws_at 45 (by decide +kernel) rfl
theorem ar_bool : Cond.arrayClass .boolean ∈ WS := ws_at 117 (by decide +kernel) rfl
theorem oi_inst : Cond.instanceMethod Lib.objectInit ∈ WS := ws_at 20 (by decide +kernel) rfl
theorem oi_code : Cond.code Lib.objectInit ⟨#[0xb1]⟩ 1 none ∈ WS := ws_at 21 (by decide +kernel) rfl
section Al
variable {G : cx_G} {M M' : cx_M} {pc : Nat} {L : List (Option Value)} {S : List Value} {w : List va_E} {E : cx_E}
theorem Ea.aload_n {j : Fin 4} {i : Nat} {x : Nat} (d : decode (Mc M) pc = .ok (.aload_n j, 1)) (hi : (j : Nat) = i) (hl : L[i]? = some (some (.ref x))) (k : Ea G M (pc + 1) L (.ref x :: S) w E) : Ea G M pc L S w E := by
  intro p l e s m args below meth c H locs ls hC hz hP hS hL
  exact lv_aload_n hC.1 hC.2.1 d hi (hL.2.2 _ _ hl).1 (k p l e s m args below meth c H locs ls hC hz hP hS hL)
theorem Ea.aload {j : Nat} {x : Nat} (d : decode (Mc M) pc = .ok (.aload j, 2)) (hl : L[j]? = some (some (.ref x))) (k : Ea G M (pc + 2) L (.ref x :: S) w E) : Ea G M pc L S w E := by
  intro p l e s m args below meth c H locs ls hC hz hP hS hL
  exact lv_aload hC.1 hC.2.1 d (hL.2.2 _ _ hl).1 (k p l e s m args below meth c H locs ls hC hz hP hS hL)
theorem Ea.astore_n {j : Fin 4} {i : Nat} {x : Nat} (d : decode (Mc M) pc = .ok (.astore_n j, 1)) (hi : (j : Nat) = i) (hn : i < Ml M) (k : Ea G M (pc + 1) (L.set i (some (.ref x))) S w E) : Ea G M pc L (.ref x :: S) w E := by
  intro p l e s m args below meth c H locs ls hC hz hP hS hL
  exact lv_astore_n hC.1 hC.2.1 d hi hL.has hn rfl (fun ls' h' => k p l e s m args below meth c H locs ls' hC hz hP hS (hL.put rfl h'))
theorem Ea.istore_n {j : Fin 4} {i : Nat} {x : Int32} (d : decode (Mc M) pc = .ok (.istore_n j, 1)) (hi : (j : Nat) = i) (hn : i < Ml M) (k : Ea G M (pc + 1) (L.set i (some (.int x))) S w E) : Ea G M pc L (.int x :: S) w E := by
  intro p l e s m args below meth c H locs ls hC hz hP hS hL
  exact lv_istore_n hC.1 hC.2.1 d hi hL.has hn rfl (fun ls' h' => k p l e s m args below meth c H locs ls' hC hz hP hS (hL.put rfl h'))
theorem Ea.dup {v : Value} (d : decode (Mc M) pc = .ok (.dup, 1)) (hv : v.category = 1) (k : Ea G M (pc + 1) L (v :: v :: S) w E) : Ea G M pc L (v :: S) w E := by
  intro p l e s m args below meth c H locs ls hC hz hP hS hL
  exact lv_dup hC.1 hC.2.1 d hv (k p l e s m args below meth c H locs ls hC hz hP hS hL)
theorem Ea.iconst {n : Int} {v : Int32} (d : decode (Mc M) pc = .ok (.iconst n, 1)) (hv : Int32.ofInt n = v) (k : Ea G M (pc + 1) L (.int v :: S) w E) : Ea G M pc L S w E := by
  intro p l e s m args below meth c H locs ls hC hz hP hS hL
  exact lv_iconst hC.1 hC.2.1 d hv (k p l e s m args below meth c H locs ls hC hz hP hS hL)
theorem Ea.bipush {n : Int} {v : Int32} (d : decode (Mc M) pc = .ok (.bipush n, 2)) (hv : (Int8.ofInt n).toInt32 = v) (k : Ea G M (pc + 2) L (.int v :: S) w E) : Ea G M pc L S w E := by
  intro p l e s m args below meth c H locs ls hC hz hP hS hL
  exact lv_bipush hC.1 hC.2.1 d hv (k p l e s m args below meth c H locs ls hC hz hP hS hL)
theorem Ea.sipush {n : Int} {v : Int32} (d : decode (Mc M) pc = .ok (.sipush n, 3)) (hv : (Int16.ofInt n).toInt32 = v) (k : Ea G M (pc + 3) L (.int v :: S) w E) : Ea G M pc L S w E := by
  intro p l e s m args below meth c H locs ls hC hz hP hS hL
  exact lv_sipush hC.1 hC.2.1 d hv (k p l e s m args below meth c H locs ls hC hz hP hS hL)
theorem Ea.getfield {index ci f q : Nat} {fs : List Value} {v : Value} (d : decode (Mc M) pc = .ok (.getfield index, 3)) (hf : cx_fl (Mo M) index ci f) (he : w[q]? = some (.inr (ci, fs))) (hv : fs[f]? = some v) (k : Ea G M (pc + 3) L (v :: S) w E) : Ea G M pc L (.ref (cxa G q) :: S) w E := by
  intro p l e s m args below meth c H locs ls hC hz hP hS hL
  obtain ⟨C, T, N, h1, h2, h3, h4⟩ := hf
  exact va_get (D := cxD G) (ci := ci) (v := v) (C := C) (T := T) (N := N) hC.1 hC.2.1 hC.2.2.2.2.2.2.1 h3 hC.2.2.2.2.1 hC.2.2.2.2.2.2.2.1.1 hP q (cx_lay_get he) h1 f h2 (hC.2.2.2.2.2.2.1 _ h4) (fun _ h9 => h9) hv d (k p l e s m args below meth c H locs ls hC hz hP hS hL)
theorem Ea.putfield {index ci f q : Nat} {fs : List Value} {v : Value} (hg0 : ga G) (ty : FieldType) (d : decode (Mc M) pc = .ok (.putfield index, 3)) (hf : cx_fl (Mo M) index ci f) (hg : cx_fp ci f ty) (he : w[q]? = some (.inr (ci, fs))) (hn : narrow ty v = v) (ht : fits ty v = true) (hl : f < fs.length) (k : Ea G M (pc + 3) L S (w.set q (.inr (ci, fs.set f v))) E) : Ea G M pc L (v :: .ref (cxa G q) :: S) w E := by
  intro p l e s m args below meth c H locs ls hC hz hP hS hL
  obtain ⟨C, T, N, h1, h2, h3, h4⟩ := hf
  obtain ⟨C', T', N', t, g1, g2, g3, g4, g5⟩ := hg
  cases h1.symm.trans g1
  refine va_put (D := cxD G) (ci := ci) (v := v) (ty := ty) (C := C) (T := T) (N := N) hC.1 hC.2.1 hC.2.2.2.2.2.2.1 h3 t g2 g3 hC.2.2.2.2.1 hC.2.2.2.2.2.2.2.1.1 hP (ea_D hg0 w) hS q (cx_lay_get he) h1 f h2 (hC.2.2.2.2.2.2.1 _ h4) (fun _ h9 => h9) g4 g5 hn ht hl d (fun H1 locs1 hP1 _ hS1 => ?_)
  rw [cx_lay_set] at hP1
  exact k p l e s m args below meth c H1 locs1 ls hC (by rw [List.length_set]; exact hz) hP1 hS1 hL
/-- a final field, written by its own class's constructor -/
def cx_ff (ci f : Nat) (own : String) (ty : FieldType) : Prop := ∃ (C : String) (T : u_T) (N : Nat) (t : Nat → FieldType), vwCl[ci]? = some (C, T, N) ∧ (∀ k, k < N → parseFieldDescriptor (T k).2.2.1 = some (t k)) ∧ (∀ a, a < N → ∀ b, b < N → a ≠ b → (T a).2.1 ≠ (T b).2.1) ∧ (T f).2.2.2 = true ∧ (T f).1 = own ∧ parseFieldDescriptor (T f).2.2.1 = some ty
theorem Ea.putfin {index ci f q : Nat} {fs : List Value} {v : Value} (hg0 : ga G) (ty : FieldType) (hi : (My M).name = "<init>") (d : decode (Mc M) pc = .ok (.putfield index, 3)) (hf : cx_fl (Mo M) index ci f) (hg : cx_ff ci f (Mo M) ty) (he : w[q]? = some (.inr (ci, fs))) (hn : narrow ty v = v) (ht : fits ty v = true) (hl : f < fs.length) (k : Ea G M (pc + 3) L S (w.set q (.inr (ci, fs.set f v))) E) : Ea G M pc L (v :: .ref (cxa G q) :: S) w E := by
  intro p l e s m args below meth c H locs ls hC hz hP hS hL
  obtain ⟨C, T, N, h1, h2, h3, h4⟩ := hf
  obtain ⟨C', T', N', t, g1, g2, g3, g4, g6, g5⟩ := hg
  cases h1.symm.trans g1
  refine va_putF (D := cxD G) (ci := ci) (v := v) (ty := ty) (C := C) (T := T) (N := N) hC.1 hC.2.1 hC.2.2.2.2.2.2.1 h3 t g2 g3 hC.2.2.2.2.1 hC.2.2.2.2.2.2.2.1.1 hP (ea_D hg0 w) hS q (cx_lay_get he) h1 f h2 (hC.2.2.2.2.2.2.1 _ h4) (fun _ h9 => h9) g4 (hC.2.2.2.2.2.2.2.2.2 hi) g6 g5 hn ht hl d (fun H1 locs1 hP1 _ hS1 => ?_)
  rw [cx_lay_set] at hP1
  exact k p l e s m args below meth c H1 locs1 ls hC (by rw [List.length_set]; exact hz) hP1 hS1 hL
/-- a new cell's address -/
theorem ea_adr {p : Program} {l : Launch} {e : Env} {R : Room} {s : State} {m : MethodId} {args : Array Value} {below : List Frame} {meth : Method} {c : Code} {T : State} {locs : List Loc} {k n q : Nat} {x : va_E} (hg : ga G) (hz : s.heap.size + k = cxa G w.length) (X : Stand p l e R s m args below meth c T locs (k + 1) n) (hP : va_P (cxD G) vwCl (cx_lay G w ++ [(q, x)]) T.heap) (hD : va_D (aA G) (cx_lay G w ++ [(q, x)])) : q = cxa G w.length := by
  have hlen : (cx_lay G w).length = w.length := by simp [cx_lay]
  have hlast : (cx_lay G w ++ [(q, x)])[w.length]? = some (q, x) := by rw [List.getElem?_append_right (by omega), hlen]; simp
  have h1 : q < T.heap.size := (hP _ _ hlast).lt
  have h2 := X.heapSize
  have h3 : cxa G 0 ≤ q := hD.2 _ _ hlast
  have h4 := hg w.length
  by_cases e : q = cxa G w.length
  · exact e
  · obtain ⟨i, hi⟩ : ∃ i, q = cxa G 0 + i := ⟨q - cxa G 0, by omega⟩
    have hil : i < w.length := by omega
    have hin : (cx_lay G w ++ [(q, x)])[i]? = some (cxa G i, w[i]) := by
      rw [List.getElem?_append_left (by omega)]
      exact cx_lay_get (by simp [hil])
    have := hD.1 i w.length _ _ hin hlast (by show cxa G i = q; rw [hg i, hi])
    omega
theorem Ea.new {R : Room} {k n : Nat} {Q : Array Value → List Frame → State → State → Prop} {C : String} {T : u_T} {N ci index : Nat} (ty : Nat → FieldType) {fs : List Value} (hg : ga G) (d : decode (Mc M) pc = .ok (.new index, 3)) (hin : ∀ w ∈ u_ws C T N, w ∈ WS) (hty : ∀ k, k < N → parseFieldDescriptor (T k).2.2.1 = some (ty k)) (hcl : Cond.classLink (Mo M) index C ∈ WS) (hinst : Cond.instantiable C N ∈ WS) (hini : Cond.initialized C ∈ WS) (hc : vwCl[ci]? = some (C, T, N)) (hfs : ∀ j, j < N → defaultValue (ty j) = vp_V fs j) (hcells : k + 1 ≤ R.cells) (hslots : n + N ≤ R.slots)
    (kk : Ea G M (pc + 3) L (.ref (cxa G w.length) :: S) (w ++ [.inr (ci, fs)]) (R, k + 1, n + N, Q)) : Ea G M pc L S w (R, k, n, Q) := by
  intro p l e s m args below meth c H locs ls hC hz hP hS hL
  refine va_new (ci := ci) (fs := fs) (C := C) (T := T) (N := N) hC.1 hC.2.1 hC.2.2.2.2.2.2.1 hin ty hty hC.2.2.2.2.1 (hC.2.2.2.2.2.2.1 _ hcl) (hC.2.2.2.2.2.2.1 _ hinst) (hC.2.2.2.2.2.2.1 _ hini) hC.2.2.2.2.2.2.2.1.1 hP (ea_D hg w) hS (fun q hq => Nat.le_trans hC.2.2.2.2.2.2.2.2.1 hq) hc hfs hcells hslots d (fun q H1 hP1 hD1 hS1 T1 hT1 X1 => ?_)
  have hz : s.heap.size + k = cxa G w.length := hz
  have ea := ea_adr hg hz X1 (by rw [hT1]; exact hP1) hD1
  subst ea
  rw [cx_lay_app] at hP1
  refine kk p l e s m args below meth c H1 locs ls hC ?_ hP1 hS1 hL T1 hT1 X1
  show s.heap.size + (k + 1) = cxa G (w ++ [_]).length
  rw [List.length_append, List.length_singleton, hg (w.length + 1)]
  have := hg w.length
  omega
theorem Ea.newI {R : Room} {k n N' : Nat} {Q : Array Value → List Frame → State → State → Prop} {x : Int32} (hg : ga G) (d : decode (Mc M) pc = .ok (.newarray .int, 2)) (hn : ¬ x < 0) (hN : x.toNatClampNeg = N') (hb : N' * 4 ≤ 536870912) (hcells : k + 1 ≤ R.cells) (hslots : n + N' ≤ R.slots)
    (kk : Ea G M (pc + 2) L (.ref (cxa G w.length) :: S) (w ++ [.inl (cxC G 0, N', .inl (fun _ => 0))]) (R, k + 1, n + N', Q)) : Ea G M pc L (.int x :: S) w (R, k, n, Q) := by
  intro p l e s m args below meth c H locs ls hC hz hP hS hL
  refine va_newa (atype := .int) (ty := .int) (N' := N') (a0 := (N', .inl (fun _ => 0))) hC.1 hC.2.1 (hC.2.2.2.2.2.2.1 _ ar_int) rfl hC.2.2.2.2.2.2.2.1.1 hP (ea_D hg w) hS (fun q hq => Nat.le_trans hC.2.2.2.2.2.2.2.2.1 hq) (fun _ => rfl) hn hN hb hcells hslots d (fun q cA H1 hK1 hP1 hD1 hS1 T1 hT1 X1 => ?_)
  have hz : s.heap.size + k = cxa G w.length := hz
  have hcA : cA = cxC G 0 := by
    have h1 : s.vm.findClass ("[" ++ FieldType.int.toString) = some cA := (hK1.2 3 (cA, .int) rfl).2
    have h2 : s.vm.findClass ("[" ++ FieldType.int.toString) = some (cxC G 0) := (hC.2.2.2.2.2.2.2.1.1.2 0 (cxC G 0, .int) rfl).2
    exact Option.some.inj (h1.symm.trans h2)
  subst hcA
  have ea := ea_adr hg hz X1 (by rw [hT1]; exact hP1) hD1
  subst ea
  rw [cx_lay_app] at hP1
  refine kk p l e s m args below meth c H1 locs ls hC ?_ hP1 hS1 hL T1 hT1 X1
  show s.heap.size + (k + 1) = cxa G (w ++ [_]).length
  rw [List.length_append, List.length_singleton, hg (w.length + 1)]
  have := hg w.length
  omega
theorem Ea.newB {R : Room} {k n N' : Nat} {Q : Array Value → List Frame → State → State → Prop} {x : Int32} (hg : ga G) (d : decode (Mc M) pc = .ok (.newarray .boolean, 2)) (hn : ¬ x < 0) (hN : x.toNatClampNeg = N') (hb : N' * 1 ≤ 536870912) (hcells : k + 1 ≤ R.cells) (hslots : n + N' ≤ R.slots)
    (kk : Ea G M (pc + 2) L (.ref (cxa G w.length) :: S) (w ++ [.inl (cxC G 1, N', .inl (fun _ => bI false))]) (R, k + 1, n + N', Q)) : Ea G M pc L (.int x :: S) w (R, k, n, Q) := by
  intro p l e s m args below meth c H locs ls hC hz hP hS hL
  refine va_newa (atype := .boolean) (ty := .boolean) (N' := N') (a0 := (N', .inl (fun _ => bI false))) hC.1 hC.2.1 (hC.2.2.2.2.2.2.1 _ ar_bool) rfl hC.2.2.2.2.2.2.2.1.1 hP (ea_D hg w) hS (fun q hq => Nat.le_trans hC.2.2.2.2.2.2.2.2.1 hq) (fun _ => rfl) hn hN hb hcells hslots d (fun q cA H1 hK1 hP1 hD1 hS1 T1 hT1 X1 => ?_)
  have hz : s.heap.size + k = cxa G w.length := hz
  have hcA : cA = cxC G 1 := by
    have h1 : s.vm.findClass ("[" ++ FieldType.boolean.toString) = some cA := (hK1.2 3 (cA, .boolean) rfl).2
    have h2 : s.vm.findClass ("[" ++ FieldType.boolean.toString) = some (cxC G 1) := (hC.2.2.2.2.2.2.2.1.1.2 1 (cxC G 1, .boolean) rfl).2
    exact Option.some.inj (h1.symm.trans h2)
  subst hcA
  have ea := ea_adr hg hz X1 (by rw [hT1]; exact hP1) hD1
  subst ea
  rw [cx_lay_app] at hP1
  refine kk p l e s m args below meth c H1 locs ls hC ?_ hP1 hS1 hL T1 hT1 X1
  show s.heap.size + (k + 1) = cxa G (w ++ [_]).length
  rw [List.length_append, List.length_singleton, hg (w.length + 1)]
  have := hg w.length
  omega
theorem Ea.objInit {idx : Nat} {a : Nat} (d : decode (Mc M) pc = .ok (.invokespecial idx, 3)) (h1 : Cond.methodLink (Mo M) idx Lib.objectInit ∈ WS) (h8 : (S.map fun v => v.category).sum ≤ 8) (hR : 1 ≤ E.1.frames ∧ 20 ≤ E.1.locals) (kk : Ea G M (pc + 3) L S w E) : Ea G M pc L (.ref a :: S) w E := by
  intro p l e s m args below meth c H locs ls hC hz hP hS hL
  refine W.objInit hC.1 hC.2.1 hC.2.2.2.2.1 (hC.2.2.2.2.2.2.1 _ h1) (hC.2.2.2.2.2.2.1 _ oi_inst) (hC.2.2.2.2.2.2.1 _ oi_code) rfl (by rw [hC.2.2.2.1]; exact hL.1) rfl d hR.1 ?_ (kk p l e s m args below meth c H locs ls hC hz hP hS hL)
  have h0 : (F0 m pc ls (Value.ref a :: S)).monitorRoom = 0 := rfl
  omega
theorem Ea.vret {w' : List va_E} {mc ms : Nat} (d : decode (Mc M) pc = .ok (.return_, 1)) (hr : Mr M = none) (hw : w = w') : Ea G M pc L [] w (ea_e G w' M mc ms mc ms) := by
  intro p l e s m args below meth c H locs ls hC hz hP hS hL
  have hlocks := hC.2.2.2.2.2.1
  subst hw
  exact W.vret hC.1 hC.2.1 (hC.2.2.1.trans hr) (fun t ht hW => ⟨⟨rfl, by rw [ht]; exact hP⟩, hS.F ht⟩) hS.2.2 d
theorem Ci.of {av : List Value} {w' : List va_E} {mc ms : Nat} (hg : ga G) (hy : plainName (My M).cls = true) (ho : (My M).cls = Mo M) (hav : av.all (fun v => v.category == 1) = true) (hlen : av.length ≤ Ml M)
    (k : Ea G M 0 (av.map some ++ List.replicate (Ml M - av.length) none) [] w (ea_e G w' M mc ms 0 0)) : Ci G M av w w' mc ms := by
  intro l
  refine Met.ofW (cc := Mc M) (maxL := Ml M) (ret := Mr M) hy rfl ?_
  intro p e s m args below meth c s₁ B hml hv
  obtain ⟨rfl, hz, hP, hY⟩ := hv
  have hown : s.vm.findClass (Mo M) = some m.cls := by rw [← ho]; exact findClass_of_methodNamed B.named
  rw [lg_entry_eq]
  exact k p l e s m _ below meth c s.heap [] _ ⟨B.exec, B.bytes, B.returns, hml, hown, B.notSynchronized, fun w hw => atoms_spec (ws := Mw M) B.pre w (List.mem_cons_of_mem _ hw), hY, by rw [hz]; have := hg w.length; omega, fun h => by rw [← h]; exact (name_of_methodNamed B.named B.method).1⟩ hz hP va_S.rf (cx_L.entry av hav hlen)
end Al
