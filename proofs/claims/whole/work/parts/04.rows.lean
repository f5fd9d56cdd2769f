/-! one row an instruction -/
def bI : Bool → Int32
  | true => 1
  | false => 0
theorem cx_blind {G : cx_G} {av : List Value} {w : List va_E} : FrameBlind (va_Pc av (cx_pre G w)) := fun a U g mk q => by
  obtain ⟨q0, hn, hP, ⟨hK, hi, hN⟩, hSt⟩ := q
  exact ⟨q0, hn, hP, ⟨va_K.moved (u := U) (U := U.calling g mk a) (Vm.Alike.refl U.vm) hK, hi, cx_N.same (s := U) (U := U.calling g mk a) cx_nest_ok rfl hN⟩, cx_St.moved (u := U) (U := U.calling g mk a) (Vm.Alike.refl U.vm) hSt⟩
theorem i0_z : (0 : Int32).toInt = 0 := by decide
theorem i0_eq (x : Int32) : x.toInt = 0 ↔ x = 0 := by rw [← i0_z]; exact Int32.toInt_inj
theorem i0_ne (x : Int32) : x.toInt = 0 ↔ x = 0 := i0_eq x
theorem i0_lt (x : Int32) : x.toInt < 0 ↔ x < 0 := by rw [← i0_z]; exact Int32.lt_iff_toInt_lt.symm
theorem i0_ge (x : Int32) : 0 ≤ x.toInt ↔ 0 ≤ x := by rw [← i0_z]; exact Int32.le_iff_toInt_le.symm
theorem i0_gt (x : Int32) : 0 < x.toInt ↔ 0 < x := by rw [← i0_z]; exact Int32.lt_iff_toInt_lt.symm
theorem i0_le (x : Int32) : x.toInt ≤ 0 ↔ x ≤ 0 := by rw [← i0_z]; exact Int32.le_iff_toInt_le.symm
section EvRows
variable {G : cx_G} {M M' : cx_M} {pc : Nat} {L : List (Option Value)} {S st : List Value} {w w' : List va_E} {post post1 : Option Value → List va_E → Prop} {E : cx_E}
theorem Ev.world (h : w = w') (k : Ev G M pc L S w' E) : Ev G M pc L S w E := h ▸ k
theorem Ev.mono {post' : Option Value → List va_E → Prop} (k : Ev G M pc L S w (cx_e G M post')) (hi : ∀ r w', post' r w' → post r w') : Ev G M pc L S w (cx_e G M post) := by
  intro p l e s m args below meth c H locs ls hE hC hw hP hS hL T hT X
  obtain ⟨t, h0, o, h1, h2, ⟨⟨r, w', a1, a2, a3, a4⟩, a5⟩, a6⟩ := k p l e s m args below meth c H locs ls hE hC hw hP hS hL T hT X
  exact ⟨t, h0, o, h1, h2, ⟨⟨r, w', a1, hi r w' a2, a3, a4⟩, a5⟩, a6⟩
theorem Ev.iconst {n : Int} {v : Int32} (d : decode (Mc M) pc = .ok (.iconst n, 1)) (hv : Int32.ofInt n = v) (k : Ev G M (pc + 1) L (.int v :: S) w E) : Ev G M pc L S w E := by
  intro p l e s m args below meth c H locs ls hE hC hw hP hS hL
  exact lv_iconst hC.1 hC.2.1 d hv (k p l e s m args below meth c H locs ls hE hC hw hP hS hL)
theorem Ev.bipush {n : Int} {v : Int32} (d : decode (Mc M) pc = .ok (.bipush n, 2)) (hv : (Int8.ofInt n).toInt32 = v) (k : Ev G M (pc + 2) L (.int v :: S) w E) : Ev G M pc L S w E := by
  intro p l e s m args below meth c H locs ls hE hC hw hP hS hL
  exact lv_bipush hC.1 hC.2.1 d hv (k p l e s m args below meth c H locs ls hE hC hw hP hS hL)
theorem Ev.sipush {n : Int} {v : Int32} (d : decode (Mc M) pc = .ok (.sipush n, 3)) (hv : (Int16.ofInt n).toInt32 = v) (k : Ev G M (pc + 3) L (.int v :: S) w E) : Ev G M pc L S w E := by
  intro p l e s m args below meth c H locs ls hE hC hw hP hS hL
  exact lv_sipush hC.1 hC.2.1 d hv (k p l e s m args below meth c H locs ls hE hC hw hP hS hL)
theorem Ev.ldc {index : Nat} {v : Int32} (d : decode (Mc M) pc = .ok (.ldc index, 2)) (hc : Cond.constant (Mo M) index v ∈ WS) (k : Ev G M (pc + 2) L (.int v :: S) w E) : Ev G M pc L S w E := by
  intro p l e s m args below meth c H locs ls hE hC hw hP hS hL
  exact lv_ldc hC.1 hC.2.1 hC.2.2.2.2.1 (hC.2.2.2.2.2.2.1 _ hc) d (k p l e s m args below meth c H locs ls hE hC hw hP hS hL)
theorem Ev.iload_n {j : Fin 4} {i : Nat} {x : Int32} (d : decode (Mc M) pc = .ok (.iload_n j, 1)) (hi : (j : Nat) = i) (hl : L[i]? = some (some (.int x))) (k : Ev G M (pc + 1) L (.int x :: S) w E) : Ev G M pc L S w E := by
  intro p l e s m args below meth c H locs ls hE hC hw hP hS hL
  exact lv_iload_n hC.1 hC.2.1 d hi (hL.2.2 _ _ hl).1 (k p l e s m args below meth c H locs ls hE hC hw hP hS hL)
theorem Ev.iload {j : Nat} {x : Int32} (d : decode (Mc M) pc = .ok (.iload j, 2)) (hl : L[j]? = some (some (.int x))) (k : Ev G M (pc + 2) L (.int x :: S) w E) : Ev G M pc L S w E := by
  intro p l e s m args below meth c H locs ls hE hC hw hP hS hL
  exact lv_iload hC.1 hC.2.1 d (hL.2.2 _ _ hl).1 (k p l e s m args below meth c H locs ls hE hC hw hP hS hL)
theorem Ev.aload_n {j : Fin 4} {i : Nat} {x : Nat} (d : decode (Mc M) pc = .ok (.aload_n j, 1)) (hi : (j : Nat) = i) (hl : L[i]? = some (some (.ref x))) (k : Ev G M (pc + 1) L (.ref x :: S) w E) : Ev G M pc L S w E := by
  intro p l e s m args below meth c H locs ls hE hC hw hP hS hL
  exact lv_aload_n hC.1 hC.2.1 d hi (hL.2.2 _ _ hl).1 (k p l e s m args below meth c H locs ls hE hC hw hP hS hL)
theorem Ev.aload {j : Nat} {x : Nat} (d : decode (Mc M) pc = .ok (.aload j, 2)) (hl : L[j]? = some (some (.ref x))) (k : Ev G M (pc + 2) L (.ref x :: S) w E) : Ev G M pc L S w E := by
  intro p l e s m args below meth c H locs ls hE hC hw hP hS hL
  exact lv_aload hC.1 hC.2.1 d (hL.2.2 _ _ hl).1 (k p l e s m args below meth c H locs ls hE hC hw hP hS hL)
theorem Ev.istore_n {j : Fin 4} {i : Nat} {x : Int32} (d : decode (Mc M) pc = .ok (.istore_n j, 1)) (hi : (j : Nat) = i) (hn : i < Ml M) (k : Ev G M (pc + 1) (L.set i (some (.int x))) S w E) : Ev G M pc L (.int x :: S) w E := by
  intro p l e s m args below meth c H locs ls hE hC hw hP hS hL
  exact lv_istore_n hC.1 hC.2.1 d hi hL.has hn rfl (fun ls' h' => k p l e s m args below meth c H locs ls' hE hC hw hP hS (hL.put rfl h'))
theorem Ev.istore {j : Nat} {x : Int32} (d : decode (Mc M) pc = .ok (.istore j, 2)) (hn : j < Ml M) (k : Ev G M (pc + 2) (L.set j (some (.int x))) S w E) : Ev G M pc L (.int x :: S) w E := by
  intro p l e s m args below meth c H locs ls hE hC hw hP hS hL
  exact lv_istore hC.1 hC.2.1 d hL.has hn rfl (fun ls' h' => k p l e s m args below meth c H locs ls' hE hC hw hP hS (hL.put rfl h'))
theorem Ev.astore_n {j : Fin 4} {i : Nat} {x : Nat} (d : decode (Mc M) pc = .ok (.astore_n j, 1)) (hi : (j : Nat) = i) (hn : i < Ml M) (k : Ev G M (pc + 1) (L.set i (some (.ref x))) S w E) : Ev G M pc L (.ref x :: S) w E := by
  intro p l e s m args below meth c H locs ls hE hC hw hP hS hL
  exact lv_astore_n hC.1 hC.2.1 d hi hL.has hn rfl (fun ls' h' => k p l e s m args below meth c H locs ls' hE hC hw hP hS (hL.put rfl h'))
theorem Ev.astore {j : Nat} {x : Nat} (d : decode (Mc M) pc = .ok (.astore j, 2)) (hn : j < Ml M) (k : Ev G M (pc + 2) (L.set j (some (.ref x))) S w E) : Ev G M pc L (.ref x :: S) w E := by
  intro p l e s m args below meth c H locs ls hE hC hw hP hS hL
  exact lv_astore hC.1 hC.2.1 d hL.has hn rfl (fun ls' h' => k p l e s m args below meth c H locs ls' hE hC hw hP hS (hL.put rfl h'))
theorem Ev.iinc {j : Nat} {n : Int} {x v : Int32} (d : decode (Mc M) pc = .ok (.iinc j n, 3)) (hl : L[j]? = some (some (.int x))) (hv : x + Int32.ofInt n = v) (hn : j < Ml M) (k : Ev G M (pc + 3) (L.set j (some (.int v))) S w E) : Ev G M pc L S w E := by
  intro p l e s m args below meth c H locs ls hE hC hw hP hS hL
  obtain ⟨q, hq⟩ := List.getElem?_of_mem ((cx_as_mem (L := L) (q := (j, Value.int x))).mpr hl)
  exact lv_iinc hC.1 hC.2.1 d hL.has hq hv hn rfl (fun ls' h' => k p l e s m args below meth c H locs ls' hE hC hw hP hS (hL.put rfl h'))
theorem Ev.iadd {x y : Int32} (d : decode (Mc M) pc = .ok (.iadd, 1)) (k : Ev G M (pc + 1) L (.int (x + y) :: S) w E) : Ev G M pc L (.int y :: .int x :: S) w E := by
  intro p l e s m args below meth c H locs ls hE hC hw hP hS hL
  exact lv_iadd hC.1 hC.2.1 d (k p l e s m args below meth c H locs ls hE hC hw hP hS hL)
theorem Ev.isub {x y : Int32} (d : decode (Mc M) pc = .ok (.isub, 1)) (k : Ev G M (pc + 1) L (.int (x - y) :: S) w E) : Ev G M pc L (.int y :: .int x :: S) w E := by
  intro p l e s m args below meth c H locs ls hE hC hw hP hS hL
  exact lv_isub hC.1 hC.2.1 d (k p l e s m args below meth c H locs ls hE hC hw hP hS hL)
theorem Ev.imul {x y : Int32} (d : decode (Mc M) pc = .ok (.imul, 1)) (k : Ev G M (pc + 1) L (.int (x * y) :: S) w E) : Ev G M pc L (.int y :: .int x :: S) w E := by
  intro p l e s m args below meth c H locs ls hE hC hw hP hS hL
  exact lv_imul hC.1 hC.2.1 d (k p l e s m args below meth c H locs ls hE hC hw hP hS hL)
theorem Ev.iand {x y : Int32} (d : decode (Mc M) pc = .ok (.iand, 1)) (k : Ev G M (pc + 1) L (.int (x &&& y) :: S) w E) : Ev G M pc L (.int y :: .int x :: S) w E := by
  intro p l e s m args below meth c H locs ls hE hC hw hP hS hL
  exact lv_iand hC.1 hC.2.1 d (k p l e s m args below meth c H locs ls hE hC hw hP hS hL)
theorem Ev.ior {x y : Int32} (d : decode (Mc M) pc = .ok (.ior, 1)) (k : Ev G M (pc + 1) L (.int (x ||| y) :: S) w E) : Ev G M pc L (.int y :: .int x :: S) w E := by
  intro p l e s m args below meth c H locs ls hE hC hw hP hS hL
  exact lv_ior hC.1 hC.2.1 d (k p l e s m args below meth c H locs ls hE hC hw hP hS hL)
theorem Ev.ishl {x y : Int32} (d : decode (Mc M) pc = .ok (.ishl, 1)) (k : Ev G M (pc + 1) L (.int (x <<< (y &&& 31)) :: S) w E) : Ev G M pc L (.int y :: .int x :: S) w E := by
  intro p l e s m args below meth c H locs ls hE hC hw hP hS hL
  exact lv_ishl hC.1 hC.2.1 d (k p l e s m args below meth c H locs ls hE hC hw hP hS hL)
theorem Ev.ishr {x y : Int32} (d : decode (Mc M) pc = .ok (.ishr, 1)) (k : Ev G M (pc + 1) L (.int (x >>> (y &&& 31)) :: S) w E) : Ev G M pc L (.int y :: .int x :: S) w E := by
  intro p l e s m args below meth c H locs ls hE hC hw hP hS hL
  exact lv_ishr hC.1 hC.2.1 d (k p l e s m args below meth c H locs ls hE hC hw hP hS hL)
theorem Ev.idiv {x y : Int32} (d : decode (Mc M) pc = .ok (.idiv, 1)) (hne : ¬ y = 0) (k : Ev G M (pc + 1) L (.int (x / y) :: S) w E) : Ev G M pc L (.int y :: .int x :: S) w E := by
  intro p l e s m args below meth c H locs ls hE hC hw hP hS hL
  exact lv_idiv hC.1 hC.2.1 d hne (k p l e s m args below meth c H locs ls hE hC hw hP hS hL)
theorem Ev.irem {x y : Int32} (d : decode (Mc M) pc = .ok (.irem, 1)) (hne : ¬ y = 0) (k : Ev G M (pc + 1) L (.int (x - x / y * y) :: S) w E) : Ev G M pc L (.int y :: .int x :: S) w E := by
  intro p l e s m args below meth c H locs ls hE hC hw hP hS hL
  exact lv_irem hC.1 hC.2.1 d hne (k p l e s m args below meth c H locs ls hE hC hw hP hS hL)
theorem Ev.topi {x y : Int32} (h : x = y) (k : Ev G M pc L (.int y :: S) w E) : Ev G M pc L (.int x :: S) w E := h ▸ k
theorem Ev.dup {v : Value} (d : decode (Mc M) pc = .ok (.dup, 1)) (hv : v.category = 1) (k : Ev G M (pc + 1) L (v :: v :: S) w E) : Ev G M pc L (v :: S) w E := by
  intro p l e s m args below meth c H locs ls hE hC hw hP hS hL
  exact lv_dup hC.1 hC.2.1 d hv (k p l e s m args below meth c H locs ls hE hC hw hP hS hL)
theorem Ev.pop {v : Value} (d : decode (Mc M) pc = .ok (.pop, 1)) (hv : v.category = 1) (k : Ev G M (pc + 1) L S w E) : Ev G M pc L (v :: S) w E := by
  intro p l e s m args below meth c H locs ls hE hC hw hP hS hL
  exact lv_pop hC.1 hC.2.1 d hv (k p l e s m args below meth c H locs ls hE hC hw hP hS hL)
theorem Ev.dup_x1 {v u : Value} (d : decode (Mc M) pc = .ok (.dup_x1, 1)) (hv : v.category = 1) (hu : u.category = 1) (k : Ev G M (pc + 1) L (v :: u :: v :: S) w E) : Ev G M pc L (v :: u :: S) w E := by
  intro p l e s m args below meth c H locs ls hE hC hw hP hS hL
  exact lv_dup_x1 hC.1 hC.2.1 d hv hu (k p l e s m args below meth c H locs ls hE hC hw hP hS hL)
theorem Ev.dup_x2 {v u t : Value} (d : decode (Mc M) pc = .ok (.dup_x2, 1)) (hv : v.category = 1) (hu : u.category = 1) (ht : t.category = 1) (k : Ev G M (pc + 1) L (v :: u :: t :: v :: S) w E) : Ev G M pc L (v :: u :: t :: S) w E := by
  intro p l e s m args below meth c H locs ls hE hC hw hP hS hL
  exact lv_dup_x2 hC.1 hC.2.1 d hv hu ht (k p l e s m args below meth c H locs ls hE hC hw hP hS hL)
theorem Ev.dup2 {v u : Value} (d : decode (Mc M) pc = .ok (.dup2, 1)) (hv : v.category = 1) (hu : u.category = 1) (k : Ev G M (pc + 1) L (v :: u :: v :: u :: S) w E) : Ev G M pc L (v :: u :: S) w E := by
  intro p l e s m args below meth c H locs ls hE hC hw hP hS hL
  exact lv_dup2_11 hC.1 hC.2.1 d hv hu (k p l e s m args below meth c H locs ls hE hC hw hP hS hL)
theorem Ev.if_eq {x : Int32} {off : Int} {tgt : Nat} (d : decode (Mc M) pc = .ok (.ifCond .eq off, 3)) (ht : (pc : Int) + off = (tgt : Int)) (kt : x.toInt = 0 → Ev G M tgt L S w E) (kf : ¬ x.toInt = 0 → Ev G M (pc + 3) L S w E) : Ev G M pc L (.int x :: S) w E := by
  intro p l e s m args below meth c H locs ls hE hC hw hP hS hL
  exact lv_if_eq hC.1 hC.2.1 d ht (fun h => kt ((i0_eq x).mpr h) p l e s m args below meth c H locs ls hE hC hw hP hS hL) (fun h => kf (fun q => h ((i0_eq x).mp q)) p l e s m args below meth c H locs ls hE hC hw hP hS hL)
theorem Ev.icmp_eq {x y : Int32} {off : Int} {tgt : Nat} (d : decode (Mc M) pc = .ok (.if_icmp .eq off, 3)) (ht : (pc : Int) + off = (tgt : Int)) (kt : x.toInt = y.toInt → Ev G M tgt L S w E) (kf : ¬ x.toInt = y.toInt → Ev G M (pc + 3) L S w E) : Ev G M pc L (.int y :: .int x :: S) w E := by
  intro p l e s m args below meth c H locs ls hE hC hw hP hS hL
  exact lv_icmp_eq hC.1 hC.2.1 d ht (fun h => kt ((show x.toInt = y.toInt ↔ x = y from Int32.toInt_inj).mpr h) p l e s m args below meth c H locs ls hE hC hw hP hS hL) (fun h => kf (fun q => h ((show x.toInt = y.toInt ↔ x = y from Int32.toInt_inj).mp q)) p l e s m args below meth c H locs ls hE hC hw hP hS hL)
theorem Ev.if_ne {x : Int32} {off : Int} {tgt : Nat} (d : decode (Mc M) pc = .ok (.ifCond .ne off, 3)) (ht : (pc : Int) + off = (tgt : Int)) (kt : ¬ x.toInt = 0 → Ev G M tgt L S w E) (kf : x.toInt = 0 → Ev G M (pc + 3) L S w E) : Ev G M pc L (.int x :: S) w E := by
  intro p l e s m args below meth c H locs ls hE hC hw hP hS hL
  exact lv_if_ne hC.1 hC.2.1 d ht (fun h => kt (fun q => h ((i0_ne x).mp q)) p l e s m args below meth c H locs ls hE hC hw hP hS hL) (fun h => kf ((i0_ne x).mpr h) p l e s m args below meth c H locs ls hE hC hw hP hS hL)
theorem Ev.icmp_ne {x y : Int32} {off : Int} {tgt : Nat} (d : decode (Mc M) pc = .ok (.if_icmp .ne off, 3)) (ht : (pc : Int) + off = (tgt : Int)) (kt : ¬ x.toInt = y.toInt → Ev G M tgt L S w E) (kf : x.toInt = y.toInt → Ev G M (pc + 3) L S w E) : Ev G M pc L (.int y :: .int x :: S) w E := by
  intro p l e s m args below meth c H locs ls hE hC hw hP hS hL
  exact lv_icmp_ne hC.1 hC.2.1 d ht (fun h => kt (fun q => h ((show x.toInt = y.toInt ↔ x = y from Int32.toInt_inj).mp q)) p l e s m args below meth c H locs ls hE hC hw hP hS hL) (fun h => kf ((show x.toInt = y.toInt ↔ x = y from Int32.toInt_inj).mpr h) p l e s m args below meth c H locs ls hE hC hw hP hS hL)
theorem Ev.if_lt {x : Int32} {off : Int} {tgt : Nat} (d : decode (Mc M) pc = .ok (.ifCond .lt off, 3)) (ht : (pc : Int) + off = (tgt : Int)) (kt : x.toInt < 0 → Ev G M tgt L S w E) (kf : ¬ x.toInt < 0 → Ev G M (pc + 3) L S w E) : Ev G M pc L (.int x :: S) w E := by
  intro p l e s m args below meth c H locs ls hE hC hw hP hS hL
  exact lv_if_lt hC.1 hC.2.1 d ht (fun h => kt ((i0_lt x).mpr h) p l e s m args below meth c H locs ls hE hC hw hP hS hL) (fun h => kf (fun q => h ((i0_lt x).mp q)) p l e s m args below meth c H locs ls hE hC hw hP hS hL)
theorem Ev.icmp_lt {x y : Int32} {off : Int} {tgt : Nat} (d : decode (Mc M) pc = .ok (.if_icmp .lt off, 3)) (ht : (pc : Int) + off = (tgt : Int)) (kt : x.toInt < y.toInt → Ev G M tgt L S w E) (kf : ¬ x.toInt < y.toInt → Ev G M (pc + 3) L S w E) : Ev G M pc L (.int y :: .int x :: S) w E := by
  intro p l e s m args below meth c H locs ls hE hC hw hP hS hL
  exact lv_icmp_lt hC.1 hC.2.1 d ht (fun h => kt ((show x.toInt < y.toInt ↔ x < y from Int32.lt_iff_toInt_lt.symm).mpr h) p l e s m args below meth c H locs ls hE hC hw hP hS hL) (fun h => kf (fun q => h ((show x.toInt < y.toInt ↔ x < y from Int32.lt_iff_toInt_lt.symm).mp q)) p l e s m args below meth c H locs ls hE hC hw hP hS hL)
theorem Ev.if_ge {x : Int32} {off : Int} {tgt : Nat} (d : decode (Mc M) pc = .ok (.ifCond .ge off, 3)) (ht : (pc : Int) + off = (tgt : Int)) (kt : 0 ≤ x.toInt → Ev G M tgt L S w E) (kf : ¬ 0 ≤ x.toInt → Ev G M (pc + 3) L S w E) : Ev G M pc L (.int x :: S) w E := by
  intro p l e s m args below meth c H locs ls hE hC hw hP hS hL
  exact lv_if_ge hC.1 hC.2.1 d ht (fun h => kt ((i0_ge x).mpr h) p l e s m args below meth c H locs ls hE hC hw hP hS hL) (fun h => kf (fun q => h ((i0_ge x).mp q)) p l e s m args below meth c H locs ls hE hC hw hP hS hL)
theorem Ev.icmp_ge {x y : Int32} {off : Int} {tgt : Nat} (d : decode (Mc M) pc = .ok (.if_icmp .ge off, 3)) (ht : (pc : Int) + off = (tgt : Int)) (kt : y.toInt ≤ x.toInt → Ev G M tgt L S w E) (kf : ¬ y.toInt ≤ x.toInt → Ev G M (pc + 3) L S w E) : Ev G M pc L (.int y :: .int x :: S) w E := by
  intro p l e s m args below meth c H locs ls hE hC hw hP hS hL
  exact lv_icmp_ge hC.1 hC.2.1 d ht (fun h => kt ((show y.toInt ≤ x.toInt ↔ y ≤ x from Int32.le_iff_toInt_le.symm).mpr h) p l e s m args below meth c H locs ls hE hC hw hP hS hL) (fun h => kf (fun q => h ((show y.toInt ≤ x.toInt ↔ y ≤ x from Int32.le_iff_toInt_le.symm).mp q)) p l e s m args below meth c H locs ls hE hC hw hP hS hL)
theorem Ev.if_gt {x : Int32} {off : Int} {tgt : Nat} (d : decode (Mc M) pc = .ok (.ifCond .gt off, 3)) (ht : (pc : Int) + off = (tgt : Int)) (kt : 0 < x.toInt → Ev G M tgt L S w E) (kf : ¬ 0 < x.toInt → Ev G M (pc + 3) L S w E) : Ev G M pc L (.int x :: S) w E := by
  intro p l e s m args below meth c H locs ls hE hC hw hP hS hL
  exact lv_if_gt hC.1 hC.2.1 d ht (fun h => kt ((i0_gt x).mpr h) p l e s m args below meth c H locs ls hE hC hw hP hS hL) (fun h => kf (fun q => h ((i0_gt x).mp q)) p l e s m args below meth c H locs ls hE hC hw hP hS hL)
theorem Ev.icmp_gt {x y : Int32} {off : Int} {tgt : Nat} (d : decode (Mc M) pc = .ok (.if_icmp .gt off, 3)) (ht : (pc : Int) + off = (tgt : Int)) (kt : y.toInt < x.toInt → Ev G M tgt L S w E) (kf : ¬ y.toInt < x.toInt → Ev G M (pc + 3) L S w E) : Ev G M pc L (.int y :: .int x :: S) w E := by
  intro p l e s m args below meth c H locs ls hE hC hw hP hS hL
  exact lv_icmp_gt hC.1 hC.2.1 d ht (fun h => kt ((show y.toInt < x.toInt ↔ y < x from Int32.lt_iff_toInt_lt.symm).mpr h) p l e s m args below meth c H locs ls hE hC hw hP hS hL) (fun h => kf (fun q => h ((show y.toInt < x.toInt ↔ y < x from Int32.lt_iff_toInt_lt.symm).mp q)) p l e s m args below meth c H locs ls hE hC hw hP hS hL)
theorem Ev.if_le {x : Int32} {off : Int} {tgt : Nat} (d : decode (Mc M) pc = .ok (.ifCond .le off, 3)) (ht : (pc : Int) + off = (tgt : Int)) (kt : x.toInt ≤ 0 → Ev G M tgt L S w E) (kf : ¬ x.toInt ≤ 0 → Ev G M (pc + 3) L S w E) : Ev G M pc L (.int x :: S) w E := by
  intro p l e s m args below meth c H locs ls hE hC hw hP hS hL
  exact lv_if_le hC.1 hC.2.1 d ht (fun h => kt ((i0_le x).mpr h) p l e s m args below meth c H locs ls hE hC hw hP hS hL) (fun h => kf (fun q => h ((i0_le x).mp q)) p l e s m args below meth c H locs ls hE hC hw hP hS hL)
theorem Ev.icmp_le {x y : Int32} {off : Int} {tgt : Nat} (d : decode (Mc M) pc = .ok (.if_icmp .le off, 3)) (ht : (pc : Int) + off = (tgt : Int)) (kt : x.toInt ≤ y.toInt → Ev G M tgt L S w E) (kf : ¬ x.toInt ≤ y.toInt → Ev G M (pc + 3) L S w E) : Ev G M pc L (.int y :: .int x :: S) w E := by
  intro p l e s m args below meth c H locs ls hE hC hw hP hS hL
  exact lv_icmp_le hC.1 hC.2.1 d ht (fun h => kt ((show x.toInt ≤ y.toInt ↔ x ≤ y from Int32.le_iff_toInt_le.symm).mpr h) p l e s m args below meth c H locs ls hE hC hw hP hS hL) (fun h => kf (fun q => h ((show x.toInt ≤ y.toInt ↔ x ≤ y from Int32.le_iff_toInt_le.symm).mp q)) p l e s m args below meth c H locs ls hE hC hw hP hS hL)
theorem bI_eq {b : Bool} : (bI b).toInt = 0 ↔ b = false := by cases b <;> decide
theorem Ev.if_eqB {b : Bool} {off : Int} {tgt : Nat} (d : decode (Mc M) pc = .ok (.ifCond .eq off, 3)) (ht : (pc : Int) + off = (tgt : Int)) (kt : b = false → Ev G M tgt L S w E) (kf : b = true → Ev G M (pc + 3) L S w E) : Ev G M pc L (.int (bI b) :: S) w E :=
  Ev.if_eq d ht (fun h => kt (bI_eq.mp h)) (fun h => kf (by cases b; exact absurd (bI_eq.mpr rfl) h; rfl))
theorem Ev.if_neB {b : Bool} {off : Int} {tgt : Nat} (d : decode (Mc M) pc = .ok (.ifCond .ne off, 3)) (ht : (pc : Int) + off = (tgt : Int)) (kt : b = true → Ev G M tgt L S w E) (kf : b = false → Ev G M (pc + 3) L S w E) : Ev G M pc L (.int (bI b) :: S) w E :=
  Ev.if_ne d ht (fun h => kt (by cases b; exact absurd (bI_eq.mpr rfl) h; rfl)) (fun h => kf (bI_eq.mp h))
theorem Ev.goto {off : Int} {tgt : Nat} (d : decode (Mc M) pc = .ok (.goto off, 3)) (ht : (pc : Int) + off = (tgt : Int)) (k : Ev G M tgt L S w E) : Ev G M pc L S w E := by
  intro p l e s m args below meth c H locs ls hE hC hw hP hS hL
  exact lv_goto hC.1 hC.2.1 d ht (k p l e s m args below meth c H locs ls hE hC hw hP hS hL)
theorem Ev.tableOut {dflt lo hi : Int} {offs : Array Int} {len : Nat} {x : Int32} {tgt : Nat} (d : decode (Mc M) pc = .ok (.tableswitch dflt lo hi offs, len)) (h : x.toInt < lo ∨ hi < x.toInt) (ht : (pc : Int) + dflt = (tgt : Int)) (k : Ev G M tgt L S w E) : Ev G M pc L (.int x :: S) w E := by
  intro p l e s m args below meth c H locs ls hE hC hw hP hS hL
  exact lv_tableOut hC.1 hC.2.1 d h ht (k p l e s m args below meth c H locs ls hE hC hw hP hS hL)
theorem Ev.tableIn {dflt lo hi off : Int} {offs : Array Int} {len : Nat} {x : Int32} {tgt : Nat} (d : decode (Mc M) pc = .ok (.tableswitch dflt lo hi offs, len)) (j : Nat) (hj : x.toInt = lo + j) (h2 : lo + j ≤ hi) (ho : offs[j]? = some off) (ht : (pc : Int) + off = (tgt : Int)) (k : Ev G M tgt L S w E) : Ev G M pc L (.int x :: S) w E := by
  intro p l e s m args below meth c H locs ls hE hC hw hP hS hL
  exact lv_tableIn hC.1 hC.2.1 d (by omega) (by omega) (by rw [show (x.toInt - lo).toNat = j by omega]; exact ho) ht (k p l e s m args below meth c H locs ls hE hC hw hP hS hL)
theorem Ev.lookup {dflt off : Int} {ps : Array (Int × Int)} {len : Nat} {x : Int32} {tgt : Nat} (d : decode (Mc M) pc = .ok (.lookupswitch dflt ps, len)) (hp : (ps.toList.zip (ps.toList.drop 1)).all (fun (a, next) => a.1 < next.1) = true) (ho : Op.lookupswitch.offset ps.toList dflt x.toInt = off) (ht : (pc : Int) + off = (tgt : Int)) (k : Ev G M tgt L S w E) : Ev G M pc L (.int x :: S) w E := by
  intro p l e s m args below meth c H locs ls hE hC hw hP hS hL
  exact lv_lookup hC.1 hC.2.1 d hp ho ht (k p l e s m args below meth c H locs ls hE hC hw hP hS hL)
/-! fields and arrays -/
/-- a field of a class of ours, read or written by a method of M: place ci in vwCl, slot f -/
def cx_fl (own : String) (index ci f : Nat) : Prop := ∃ (C : String) (T : u_T) (N : Nat), vwCl[ci]? = some (C, T, N) ∧ f < N ∧ (∀ w ∈ u_ws C T N, w ∈ WS) ∧ Cond.fieldLink own index (T f).1 (T f).2.1 (T f).2.2.1 ∈ WS
/-- and it may be written: its type, not final -/
def cx_fp (ci f : Nat) (ty : FieldType) : Prop := ∃ (C : String) (T : u_T) (N : Nat) (t : Nat → FieldType), vwCl[ci]? = some (C, T, N) ∧ (∀ k, k < N → parseFieldDescriptor (T k).2.2.1 = some (t k)) ∧ (∀ a, a < N → ∀ b, b < N → a ≠ b → (T a).2.1 ≠ (T b).2.1) ∧ (T f).2.2.2 = false ∧ parseFieldDescriptor (T f).2.2.1 = some ty
theorem Ev.getfield {index ci f q : Nat} {fs : List Value} {v : Value} (d : decode (Mc M) pc = .ok (.getfield index, 3)) (hf : cx_fl (Mo M) index ci f) (he : w[q]? = some (.inr (ci, fs))) (hv : fs[f]? = some v) (k : Ev G M (pc + 3) L (v :: S) w E) : Ev G M pc L (.ref (cxa G q) :: S) w E := by
  intro p l e s m args below meth c H locs ls hE hC hw hP hS hL
  obtain ⟨C, T, N, h1, h2, h3, h4⟩ := hf
  exact va_get (D := cxD G) (ci := ci) (v := v) (C := C) (T := T) (N := N) hC.1 hC.2.1 hC.2.2.2.2.2.2.1 h3 hC.2.2.2.2.1 hC.2.2.2.2.2.2.2.1.1 hP q (cx_lay_get he) h1 f h2 (hC.2.2.2.2.2.2.1 _ h4) (fun _ h9 => h9) hv d (k p l e s m args below meth c H locs ls hE hC hw hP hS hL)
theorem Ev.putfield {index ci f q : Nat} {fs : List Value} {v : Value} (ty : FieldType) (d : decode (Mc M) pc = .ok (.putfield index, 3)) (hf : cx_fl (Mo M) index ci f) (hg : cx_fp ci f ty) (he : w[q]? = some (.inr (ci, fs))) (hn : narrow ty v = v) (ht : fits ty v = true) (hl : f < fs.length) (k : Ev G M (pc + 3) L S (w.set q (.inr (ci, fs.set f v))) E) : Ev G M pc L (v :: .ref (cxa G q) :: S) w E := by
  intro p l e s m args below meth c H locs ls hE hC hw hP hS hL
  obtain ⟨C, T, N, h1, h2, h3, h4⟩ := hf
  obtain ⟨C', T', N', t, g1, g2, g3, g4, g5⟩ := hg
  cases h1.symm.trans g1
  refine va_put (D := cxD G) (ci := ci) (v := v) (ty := ty) (C := C) (T := T) (N := N) hC.1 hC.2.1 hC.2.2.2.2.2.2.1 h3 t g2 g3 hC.2.2.2.2.1 hC.2.2.2.2.2.2.2.1.1 hP (cx_D hw hC.2.2.2.2.2.2.2.1.2.1) hS q (cx_lay_get he) h1 f h2 (hC.2.2.2.2.2.2.1 _ h4) (fun _ h9 => h9) g4 g5 hn ht hl d (fun H1 locs1 hP1 _ hS1 => ?_)
  rw [cx_lay_set] at hP1
  exact k p l e s m args below meth c H1 locs1 ls hE hC (by rw [List.length_set]; exact hw) hP1 hS1 hL
theorem Ev.iaload {q n : Nat} {f : Nat → Int32} {i : Int32} (d : decode (Mc M) pc = .ok (.iaload, 1)) (he : w[q]? = some (.inl (cxC G 0, n, .inl f))) (j : Nat) (hi : i = nI j) (hj : j < n) (hn : n < 2 ^ 31) (k : Ev G M (pc + 1) L (.int (f j) :: S) w E) : Ev G M pc L (.int i :: .ref (cxa G q) :: S) w E := by
  intro p l e s m args below meth c H locs ls hE hC hw hP hS hL
  subst hi
  refine va_iald hC.1 hC.2.1 hC.2.2.2.2.2.2.2.1.1 hP q 0 (cx_lay_get he) rfl (vp_in_nI hj hn) d ?_
  rw [nI_clamp (Nat.lt_trans hj hn)]
  exact (k p l e s m args below meth c H locs ls hE hC hw hP hS hL)
theorem Ev.baload {q n : Nat} {f : Nat → Bool} {i : Int32} (d : decode (Mc M) pc = .ok (.baload, 1)) (he : w[q]? = some (.inl (cxC G 1, n, .inl (fun j => bI (f j))))) (j : Nat) (hi : i = nI j) (hj : j < n) (hn : n < 2 ^ 31) (k : Ev G M (pc + 1) L (.int (bI (f j)) :: S) w E) : Ev G M pc L (.int i :: .ref (cxa G q) :: S) w E := by
  intro p l e s m args below meth c H locs ls hE hC hw hP hS hL
  subst hi
  refine va_zald hC.1 hC.2.1 hC.2.2.2.2.2.2.2.1.1 hP q 1 (cx_lay_get he) rfl (vp_in_nI hj hn) d ?_
  rw [nI_clamp (Nat.lt_trans hj hn)]
  exact (k p l e s m args below meth c H locs ls hE hC hw hP hS hL)
theorem Ev.aaload {q n a : Nat} {f : Nat → Option Nat} {i : Int32} (d : decode (Mc M) pc = .ok (.aaload, 1)) (he : w[q]? = some (.inl (cxC G 2, n, .inr (.inr (.inr (.inr f)))))) (j : Nat) (hi : i = nI j) (hj : j < n) (hn : n < 2 ^ 31) (ha : f j = some a) (k : Ev G M (pc + 1) L (.ref a :: S) w E) : Ev G M pc L (.int i :: .ref (cxa G q) :: S) w E := by
  intro p l e s m args below meth c H locs ls hE hC hw hP hS hL
  subst hi
  refine va_aldq hC.1 hC.2.1 hC.2.2.2.2.2.2.2.1.1 hP q 2 (cx_lay_get he) rfl (vp_in_nI hj hn) d ?_
  rw [nI_clamp (Nat.lt_trans hj hn), ha]
  exact (k p l e s m args below meth c H locs ls hE hC hw hP hS hL)
theorem Ev.iastore {q n : Nat} {f : Nat → Int32} {i x : Int32} (d : decode (Mc M) pc = .ok (.iastore, 1)) (he : w[q]? = some (.inl (cxC G 0, n, .inl f))) (j : Nat) (hi : i = nI j) (hj : j < n) (hn : n < 2 ^ 31) (k : Ev G M (pc + 1) L S (w.set q (.inl (cxC G 0, n, .inl (va_up f j x)))) E) : Ev G M pc L (.int x :: .int i :: .ref (cxa G q) :: S) w E := by
  intro p l e s m args below meth c H locs ls hE hC hw hP hS hL
  subst hi
  refine va_iast hC.1 hC.2.1 hC.2.2.2.2.2.2.2.1.1 hP (cx_D hw hC.2.2.2.2.2.2.2.1.2.1) hS q 0 (cx_lay_get he) rfl (vp_in_nI hj hn) d (fun H1 locs1 hP1 _ hS1 => ?_)
  rw [nI_clamp (Nat.lt_trans hj hn), cx_lay_set] at hP1
  exact k p l e s m args below meth c H1 locs1 ls hE hC (by rw [List.length_set]; exact hw) hP1 hS1 hL
theorem vp_nar_bI (b : Bool) : vp_nar .boolean (bI b) = bI b := by cases b <;> rfl
theorem Ev.bastore {q n : Nat} {f : Nat → Bool} {i : Int32} {b : Bool} (d : decode (Mc M) pc = .ok (.bastore, 1)) (he : w[q]? = some (.inl (cxC G 1, n, .inl (fun j => bI (f j))))) (j : Nat) (hi : i = nI j) (hj : j < n) (hn : n < 2 ^ 31) (k : Ev G M (pc + 1) L S (w.set q (.inl (cxC G 1, n, .inl (fun z => bI (va_up f j b z))))) E) : Ev G M pc L (.int (bI b) :: .int i :: .ref (cxa G q) :: S) w E := by
  intro p l e s m args below meth c H locs ls hE hC hw hP hS hL
  subst hi
  refine va_zast hC.1 hC.2.1 hC.2.2.2.2.2.2.2.1.1 hP (cx_D hw hC.2.2.2.2.2.2.2.1.2.1) hS q 1 (cx_lay_get he) rfl (vp_in_nI hj hn) d (fun H1 locs1 hP1 _ hS1 => ?_)
  have hf : upd (fun z => bI (f z)) j (vp_nar .boolean (bI b)) = fun z => bI (va_up f j b z) := by
    funext z
    by_cases hz : z = j
    · simp [upd, va_up, hz, vp_nar_bI]
    · simp [upd, va_up, hz]
  rw [nI_clamp (Nat.lt_trans hj hn), hf, cx_lay_set] at hP1
  exact k p l e s m args below meth c H1 locs1 ls hE hC (by rw [List.length_set]; exact hw) hP1 hS1 hL
theorem Ev.alen {q n : Nat} {f : Nat → Int32} (d : decode (Mc M) pc = .ok (.arraylength, 1)) (he : w[q]? = some (.inl (cxC G 0, n, .inl f))) (k : Ev G M (pc + 1) L (.int (nI n) :: S) w E) : Ev G M pc L (.ref (cxa G q) :: S) w E := by
  intro p l e s m args below meth c H locs ls hE hC hw hP hS hL
  exact va_alen hC.1 hC.2.1 hC.2.2.2.2.2.2.2.1.1 hP q 0 (cx_lay_get he) rfl rfl d (k p l e s m args below meth c H locs ls hE hC hw hP hS hL)
/-! the static tables -/
def cx_sl (own : String) (index q : Nat) : Prop := ∃ host, Cond.fieldLinkNest own index "TurnedBar" (cx_stn q) "[I" host ∈ cx_nest
theorem Ev.getstatic {index : Nat} (q : Nat) (hq : q < 2) (d : decode (Mc M) pc = .ok (.getstatic index, 3)) (hf : cx_sl (Mo M) index q) (k : Ev G M (pc + 3) L (.ref (cxt G q) :: S) w E) : Ev G M pc L S w E := by
  intro p l e s m args below meth c H locs ls hE hC hw hP hS hL
  obtain ⟨host, h4⟩ := hf
  exact va_getsN hC.1 hC.2.1 (hC.2.2.2.2.2.2.2.2 q hq).1 hS hC.2.2.2.2.1 (va_Nw.use rfl (hC.2.2.2.2.2.2.2.1.2.2 _ h4)) (fun _ h9 => h9) d (k p l e s m args below meth c H locs ls hE hC hw hP hS hL)
theorem Ev.tload {q : Nat} {i : Int32} (d : decode (Mc M) pc = .ok (.iaload, 1)) (hq : q < 2) (j : Nat) (hi : i = nI j) (hj : j < 4) (k : Ev G M (pc + 1) L (.int (cx_stp q j) :: S) w E) : Ev G M pc L (.int i :: .ref (cxt G q) :: S) w E := by
  intro p l e s m args below meth c H locs ls hE hC hw hP hS hL
  subst hi
  exact va_ti hC.1 hC.2.1 (hC.2.2.2.2.2.2.2.2 q hq).2 hS (vp_in_nI hj (by decide)) (by rw [nI_clamp (Nat.lt_trans hj (by decide))]) d (k p l e s m args below meth c H locs ls hE hC hw hP hS hL)
/-! returns -/
theorem Ev.ireturn {v : Int32} (ty : FieldType) (d : decode (Mc M) pc = .ok (.ireturn, 1)) (hr : Mr M = some ty) (hn : narrow ty (.int v) = .int v) (k : post (some (.int v)) w) : Ev G M pc L [.int v] w (cx_e G M post) := by
  intro p l e s m args below meth c H locs ls hE hC hw hP hS hL
  have hlocks := hC.2.2.2.2.2.1
  exact W.zret hC.1 hC.2.1 (hC.2.2.1.trans hr) hn (fun t ht hW => ⟨⟨_, w, rfl, k, hw, by rw [ht]; exact hP⟩, hS.F ht⟩) hS.2.2 d
theorem nar_bI (b : Bool) : narrow .boolean (.int (bI b)) = .int (bI b) := by cases b <;> rfl
theorem Ev.zreturn {b : Bool} (d : decode (Mc M) pc = .ok (.ireturn, 1)) (hr : Mr M = some .boolean) (k : post (some (.int (bI b))) w) : Ev G M pc L [.int (bI b)] w (cx_e G M post) := Ev.ireturn .boolean d hr (nar_bI b) k
theorem Ev.areturn {a : Nat} (C : String) (d : decode (Mc M) pc = .ok (.areturn, 1)) (hr : Mr M = some (.object C)) (k : post (some (.ref a)) w) : Ev G M pc L [.ref a] w (cx_e G M post) := by
  intro p l e s m args below meth c H locs ls hE hC hw hP hS hL
  have hlocks := hC.2.2.2.2.2.1
  exact W.aret hC.1 hC.2.1 (hC.2.2.1.trans hr) (Or.inl ⟨C, rfl⟩) (Or.inr ⟨a, rfl⟩) (fun t ht hW => ⟨⟨_, w, rfl, k, hw, by rw [ht]; exact hP⟩, hS.F ht⟩) hS.2.2 d
theorem Ev.vreturn (d : decode (Mc M) pc = .ok (.return_, 1)) (hr : Mr M = none) (k : post none w) : Ev G M pc L [] w (cx_e G M post) := by
  intro p l e s m args below meth c H locs ls hE hC hw hP hS hL
  have hlocks := hC.2.2.2.2.2.1
  exact W.vret hC.1 hC.2.1 (hC.2.2.1.trans hr) (fun t ht hW => ⟨⟨_, w, rfl, k, hw, by rw [ht]; exact hP⟩, hS.F ht⟩) hS.2.2 d
/-! calls -/
theorem cx_go {cs ss : Nat} {p : Program} {l : Launch} {e : Env} {R : Room} {s : State} {m : MethodId} {args : Array Value} {below : List Frame} {meth : Method} {c : Code} {H : Heap} {locs : List Loc} {Q : State → Prop} {ls : Array Slot} {a : Array Value} (hr : va_Run p l e R s m args below meth c H locs cs ss 0 0 (F0 m pc ls st) S (cx_Q G post1 a) (cx_A G)) (hS : va_S (cx_A G) s.heap H locs)
    (kk : ∀ (r : Option Value) (w' : List va_E) (H1 : Heap) (locs1 : List Loc), post1 r w' → w'.length = cxn G → va_P (cxD G) vwCl (cx_lay G w') H1 → va_S (cx_A G) s.heap H1 locs1 → W p l e R s m args below meth c H1 locs1 cs ss Q (F0 m (pc + 3) ls (r.toList ++ S))) : W p l e R s m args below meth c H locs cs ss Q (F0 m pc ls st) := by
  intro T hT X
  obtain ⟨v, st₀, t, T', L, h0, X', hL, e1, e2, ⟨⟨r, w', hv, hp, hn, hPt⟩, hz, hk⟩, st⟩ := hr T hT X
  cases hv
  rw [h0] at hz hk
  obtain ⟨t2, a1, b1⟩ := kk v w' T'.heap (locs ++ L) hp hn (by rw [e1]; exact hPt)
    ⟨Nat.le_trans hS.1 (by rw [e1]; exact hz), fun q h1 h2 => by rw [e1, hk q (Nat.lt_of_lt_of_le h1 hS.1) h2]; exact hS.2.1 q h1 h2, fun q hq => by
      rcases List.mem_append.mp hq with h | h
      · exact hS.2.2 q h
      · exact hL q h⟩ T' rfl X'
  exact ⟨t2, st t2 a1, b1⟩
theorem cx_to {p : Program} {s : State} {m : MethodId} {args : Array Value} {meth : Method} {c : Code} {H : Heap} {locs : List Loc} (hC : cx_C G M p s m args meth c) (hw : w.length = cxn G) (hP : va_P (cxD G) vwCl (cx_lay G w) H) (hS : va_S (cx_A G) s.heap H locs) (U : State) (hU : U.heap = H) (hW : s.WarmedH U.vm) : cx_pre G w U := by
  obtain ⟨hK, hi, hN⟩ := hC.2.2.2.2.2.2.2.1
  refine ⟨hw, by rw [hU]; exact hP, ⟨va_K.moved hW.alike hK, hi, cx_N.warm cx_nest_ok hW hN⟩, ?_⟩
  rw [hU]
  exact cx_St.kept (cx_St.moved hW.alike hC.2.2.2.2.2.2.2.2) hS.2.1
theorem ws_at {w : Cond} (i : Nat) (h : tables_1[i]? = some w) (hg : goodWord w = true) : w ∈ WS := List.mem_filter.mpr ⟨List.mem_append_right _ (List.mem_of_getElem? h), hg⟩
theorem ws_good {M' : cx_M} (h : Cond.code (My M') (Mc M') (Ml M') (Mr M') ∈ WS) : GoodIn WS (Mw M') := fun w hw => by
  have hw' : w ∈ WS := by
    rcases List.mem_cons.mp hw with rfl | h1
    · exact h
    · exact h1
  exact ⟨hw', good_of_word (List.mem_filter.mp hw').2⟩
def cx_k0 (M' : cx_M) (nA : Nat) : Prop := Cond.code (My M') (Mc M') (Ml M') (Mr M') ∈ WS ∧ Cond.initialized (My M').cls ∈ WS ∧ (My M').cls ≠ "java/lang/invoke/MethodHandle" ∧ (My M').cls ≠ "java/lang/invoke/VarHandle" ∧ (parseMethodDescriptor (My M').desc).map (fun d => d.parameters.length) = some nA
def cx_kV (own : String) (M' : cx_M) (C : String) (idx nA : Nat) : Prop := cx_k0 M' nA ∧ (My M').cls = C ∧ Cond.methodLink own idx (My M') ∈ WS ∧ Cond.instanceMethod (My M') ∈ WS ∧ Cond.selects C (My M') (My M') ∈ WS
def cx_kS (own : String) (M' : cx_M) (idx nA : Nat) : Prop := cx_k0 M' nA ∧ Cond.methodLink own idx (My M') ∈ WS ∧ Cond.static (My M') ∈ WS
def cx_kN (own : String) (M' : cx_M) (idx nA : Nat) : Prop := cx_k0 M' nA ∧ (∃ host, Cond.methodLinkNest own idx (My M') host ∈ cx_nest) ∧ Cond.static (My M') ∈ WS
/-- the callee's room is in the caller's -/
def cx_kR (R : Room) (M' : cx_M) : Prop := Mf M' + 1 ≤ R.frames ∧ 8 + (Ml M' + 11) + Mk M' ≤ R.locals
theorem cx_kB {R : Room} {s : State} {args : Array Value} {own : String} {idx nA : Nat} (hts : ∀ w ∈ WS, w.before args s = true) (k0 : cx_k0 M' nA) (hl : Cond.methodLink own idx (My M') ∈ WS) (hR : cx_kR R M') : CallB R s args own idx (My M') (Mc M') (Ml M') (Mr M') (Mw M') (cx_rm M') 0 0 nA :=
  callB_of nA hts (ws_good k0.1) rfl rfl rfl (hts _ k0.2.1) (hts _ hl) k0.2.2 hR
theorem Ev.callV {C : String} {idx q ci nA : Nat} {fs As : List Value} {cq : vw_C} (d : decode (Mc M) pc = .ok (.invokevirtual idx, 3)) (lk : cx_kV (Mo M) M' C idx nA) (hR : cx_kR E.1 M') (he : w[q]? = some (.inr (ci, fs))) (hq : vwCl[ci]? = some cq) (hcC : cq.1 = C) (hc : Ct G M' (.ref (cxa G q) :: As) w post1) (hA : As.length = nA) (hst : st = As.reverse ++ .ref (cxa G q) :: st.drop (nA + 1)) (h8 : ((st.drop (nA + 1)).map fun v => v.category).sum ≤ 8)
    (k : ∀ r w', post1 r w' → Ev G M (pc + 3) L (r.toList ++ st.drop (nA + 1)) w' E) : Ev G M pc L st w E := by
  intro p l e s m args below meth c H locs ls hE hC hw hP hS hL
  subst hcC
  refine cx_go (post1 := post1) (va_runV (As := As) (rest := st.drop (nA + 1)) ⟨hC.1, hC.2.1, hC.2.2.2.1, hC.2.2.2.2.1, hC.2.2.2.2.2.2.1⟩ (hc l) ⟨cx_kB hC.2.2.2.2.2.2.1 lk.1 lk.2.2.1 hR, hC.2.2.2.2.2.2.1 _ lk.2.2.2.1, hC.2.2.2.2.2.2.1 _ lk.2.2.2.2⟩ ⟨cx_blind, va_recv hC.2.2.2.2.2.2.2.1.1 hP hq (cx_lay_get he), fun U hU hW => ⟨rfl, cx_to hC hw hP hS U hU hW⟩⟩ rfl hA hL.1 hst (lv_room h8) d hE) hS (fun r w' H1 locs1 h1 h2 h3 h4 => ?_)
  exact k r w' h1 p l e s m args below meth c H1 locs1 ls hE hC h2 h3 h4 hL
theorem Ev.callS {idx nA : Nat} {As : List Value} (d : decode (Mc M) pc = .ok (.invokestatic idx, 3)) (lk : cx_kS (Mo M) M' idx nA) (hR : cx_kR E.1 M') (hc : Ct G M' As w post1) (hA : As.length = nA) (hst : st = As.reverse ++ st.drop nA) (h8 : ((st.drop nA).map fun v => v.category).sum ≤ 8)
    (k : ∀ r w', post1 r w' → Ev G M (pc + 3) L (r.toList ++ st.drop nA) w' E) : Ev G M pc L st w E := by
  intro p l e s m args below meth c H locs ls hE hC hw hP hS hL
  refine cx_go (post1 := post1) (va_runS (As := As) (rest := st.drop nA) ⟨hC.1, hC.2.1, hC.2.2.2.1, hC.2.2.2.2.1, hC.2.2.2.2.2.2.1⟩ (hc l) ⟨cx_kB hC.2.2.2.2.2.2.1 lk.1 lk.2.1 hR, hC.2.2.2.2.2.2.1 _ lk.2.2⟩ ⟨cx_blind, fun U hU hW => ⟨rfl, cx_to hC hw hP hS U hU hW⟩⟩ rfl hA hL.1 hst (lv_room h8) d hE) hS (fun r w' H1 locs1 h1 h2 h3 h4 => ?_)
  exact k r w' h1 p l e s m args below meth c H1 locs1 ls hE hC h2 h3 h4 hL
theorem Ev.callN {idx nA : Nat} {As : List Value} (d : decode (Mc M) pc = .ok (.invokestatic idx, 3)) (lk : cx_kN (Mo M) M' idx nA) (hR : cx_kR E.1 M') (hc : Ct G M' As w post1) (hA : As.length = nA) (hst : st = As.reverse ++ st.drop nA) (h8 : ((st.drop nA).map fun v => v.category).sum ≤ 8)
    (k : ∀ r w', post1 r w' → Ev G M (pc + 3) L (r.toList ++ st.drop nA) w' E) : Ev G M pc L st w E := by
  intro p l e s m args below meth c H locs ls hE hC hw hP hS hL
  obtain ⟨k0, ⟨host, hn⟩, hs⟩ := lk
  have hcn : va_CN E.1 s args (Mo M) idx (My M') host (Mc M') (Ml M') (Mr M') (Mw M') (cx_rm M') 0 0 nA := va_cnB nA hC.2.2.2.2.2.2.1 (ws_good k0.1) rfl rfl rfl (hC.2.2.2.2.2.2.2.1.2.2 _ hn) (hC.2.2.2.2.2.2.1 _ k0.2.1) k0.2.2 hR
  refine cx_go (post1 := post1) (va_runSN (As := As) (rest := st.drop nA) ⟨hC.1, hC.2.1, hC.2.2.2.1, hC.2.2.2.2.1, hC.2.2.2.2.2.2.1⟩ (hc l) ⟨hcn, hC.2.2.2.2.2.2.1 _ hs, trivial⟩ ⟨cx_blind, fun U hU hW => ⟨rfl, cx_to hC hw hP hS U hU hW⟩⟩ rfl hA hL.1 hst (lv_room h8) d hE) hS (fun r w' H1 locs1 h1 h2 h3 h4 => ?_)
  exact k r w' h1 p l e s m args below meth c H1 locs1 ls hE hC h2 h3 h4 hL
/-! Math.min and System.arraycopy -/
def cx_kMin (R : Room) (M : cx_M) (idx : Nat) : Prop := Cond.methodLink (Mo M) idx Lib.Math.min.name ∈ WS ∧ Cond.static Lib.Math.min.name ∈ WS ∧ Cond.initialized "java/lang/Math" ∈ WS ∧ Cond.code Lib.Math.min.name Lib.Math.min.code 2 (some .int) ∈ WS ∧ 1 ≤ R.frames ∧ 21 ≤ R.locals
theorem Ev.min {idx : Nat} {x y : Int32} (d : decode (Mc M) pc = .ok (.invokestatic idx, 3)) (lk : cx_kMin E.1 M idx) (h8 : (S.map fun v => v.category).sum ≤ 8) (k : Ev G M (pc + 3) L (.int (if y.toInt < x.toInt then y else x) :: S) w E) : Ev G M pc L (.int y :: .int x :: S) w E := by
  intro p l e s m args below meth c H locs ls hE hC hw hP hS hL
  have hts := hC.2.2.2.2.2.2.1
  have e1 : (if y < x then y else x) = (if y.toInt < x.toInt then y else x) := by
    by_cases h : y < x
    · rw [if_pos h, if_pos (Int32.lt_iff_toInt_lt.mp h)]
    · rw [if_neg h, if_neg (fun q => h (Int32.lt_iff_toInt_lt.mpr q))]
  refine va_mmin hC.1 hC.2.1 (hC.2.2.2.1.trans hL.1.symm) hC.2.2.2.2.1 (hts _ lk.1) (hts _ lk.2.1) (hts _ lk.2.2.1) (hts _ lk.2.2.2.1) lk.2.2.2.2.1 (by have := lk.2.2.2.2.2; show _ + 13 ≤ E.1.locals; omega) hE.1 hE.2 d ?_
  rw [e1]
  exact (k p l e s m args below meth c H locs ls hE hC hw hP hS hL)
def cx_kCpy (R : Room) (M : cx_M) (idx : Nat) : Prop := Cond.methodLink (Mo M) idx arraycopyName ∈ WS ∧ Cond.native arraycopyName ∈ WS ∧ Cond.static arraycopyName ∈ WS ∧ Cond.initialized "java/lang/System" ∈ WS ∧ 1 ≤ R.frames ∧ nativeFrameWords "java/lang/System" "arraycopy" 5 + 19 ≤ R.locals
theorem Ev.copy {idx q0 q1 n0 n1 : Nat} {f g : Nat → Int32} {x y z : Int32} (d : decode (Mc M) pc = .ok (.invokestatic idx, 3)) (lk : cx_kCpy E.1 M idx) (he0 : w[q0]? = some (.inl (cxC G 0, n0, .inl f))) (he1 : w[q1]? = some (.inl (cxC G 0, n1, .inl g))) (j : Nat) (hx : x = nI 0) (hy : y = nI 0) (hz : z = nI j) (h0 : j ≤ n0) (h1 : j ≤ n1) (hn : n0 < 2 ^ 31) (h8 : (S.map fun v => v.category).sum ≤ 8)
    (k : Ev G M (pc + 3) L S (w.set q1 (.inl (cxC G 0, n1, .inl (va_cpy f g 0 0 j)))) E) : Ev G M pc L (.int z :: .int y :: .ref (cxa G q1) :: .int x :: .ref (cxa G q0) :: S) w E := by
  intro p l e s m args below meth c H locs ls hE hC hw hP hS hL
  have hts := hC.2.2.2.2.2.2.1
  subst hx; subst hy; subst hz
  have hj : j < 2 ^ 31 := Nat.lt_of_le_of_lt h0 hn
  have c0 : (nI 0).toNatClampNeg = 0 := nI_clamp (by decide)
  have cj : (nI j).toNatClampNeg = j := nI_clamp hj
  refine va_copyi hC.1 hC.2.1 (hC.2.2.2.1.trans hL.1.symm) hC.2.2.2.2.1 (hts _ lk.1) (hts _ lk.2.1) (hts _ lk.2.2.1) (hts _ lk.2.2.2.1) hC.2.2.2.2.2.2.2.1.1 hP (cx_D hw hC.2.2.2.2.2.2.2.1.2.1) hS q0 q1 0 0 (cx_lay_get he0) (cx_lay_get he1) rfl rfl rfl (nI_pos (by decide)) (nI_pos (by decide)) (nI_pos hj) (by rw [c0, cj]; omega) (by rw [c0, cj]; omega) (fun _ _ => rfl) lk.2.2.2.2.1 (by have := lk.2.2.2.2.2; show _ + _ ≤ E.1.locals; omega) d (fun H1 locs1 hP1 _ hS1 => ?_)
  rw [c0, cj, cx_lay_set] at hP1
  exact k p l e s m args below meth c H1 locs1 ls hE hC (by rw [List.length_set]; exact hw) hP1 hS1 hL
end EvRows
