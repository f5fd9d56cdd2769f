/-! The walk of a method that makes no cell, over a fixed list of cells: 'Ev' (the machine at a pc, over a world) and 'Ct' (a contract), with one row an instruction. A world is a list of cells w; cell k lies at the address cxa G k; nobody makes cells. -/
/-- D; the classes of int[], boolean[], Insert[]; the cells' addresses; how many cells; the addresses of the static tables -/
abbrev cx_G : Type := va_G × (Nat → ClassId) × (Nat → Nat) × Nat × (Nat → Nat)
abbrev cxD (G : cx_G) : va_G := G.1
abbrev cxC (G : cx_G) : Nat → ClassId := G.2.1
abbrev cxa (G : cx_G) : Nat → Nat := G.2.2.1
abbrev cxn (G : cx_G) : Nat := G.2.2.2.1
abbrev cxt (G : cx_G) : Nat → Nat := G.2.2.2.2
def cx_tys (G : cx_G) : List (ClassId × FieldType) := [(cxC G 0, .int), (cxC G 1, .boolean), (cxC G 2, .object cx_El)]
def cx_lay (G : cx_G) (w : List va_E) : va_W := w.mapIdx (fun k e => (cxa G k, e))
theorem cx_lay_get {G : cx_G} {w : List va_E} {k : Nat} {e : va_E} (h : w[k]? = some e) : (cx_lay G w)[k]? = some (cxa G k, e) := by
  simp [cx_lay, h]
theorem cx_lay_of {G : cx_G} {w : List va_E} {k : Nat} {q : Nat × va_E} (h : (cx_lay G w)[k]? = some q) : w[k]? = some q.2 ∧ q.1 = cxa G k := by
  simp only [cx_lay, List.getElem?_mapIdx, Option.map_eq_some_iff] at h
  obtain ⟨e, h1, rfl⟩ := h
  exact ⟨h1, rfl⟩
theorem cx_lay_set {G : cx_G} {w : List va_E} {k : Nat} {e : va_E} : (cx_lay G w).set k (cxa G k, e) = cx_lay G (w.set k e) := by
  apply List.ext_getElem?
  intro i
  simp only [cx_lay, List.getElem?_set, List.getElem?_mapIdx, List.length_mapIdx]
  by_cases h : k = i
  · subst h
    by_cases h2 : k < w.length
    · simp [h2]
    · simp [h2]
  · simp [h]
def cx_A (G : cx_G) : Nat → Prop := fun q => ∃ k, k < cxn G ∧ q = cxa G k
def cx_inj (G : cx_G) : Prop := ∀ i j, i < cxn G → j < cxn G → cxa G i = cxa G j → i = j
theorem cx_D {G : cx_G} {w : List va_E} (hn : w.length = cxn G) (hi : cx_inj G) : va_D (cx_A G) (cx_lay G w) := by
  refine ⟨fun i j p q hp hq e => ?_, fun k q hk => ?_⟩
  · obtain ⟨a1, a2⟩ := cx_lay_of hp
    obtain ⟨b1, b2⟩ := cx_lay_of hq
    have l1 := (List.getElem?_eq_some_iff.mp a1).1
    have l2 := (List.getElem?_eq_some_iff.mp b1).1
    exact hi i j (by omega) (by omega) (by rw [← a2, ← b2]; exact e)
  · obtain ⟨a1, a2⟩ := cx_lay_of hk
    have l1 := (List.getElem?_eq_some_iff.mp a1).1
    exact ⟨k, by omega, a2⟩
/-- the static tables STEP_Z and STEP_R -/
def cx_stp (q j : Nat) : Int32 := match q, j with
  | 0, 0 => 1
  | 0, 1 => -1
  | 1, 2 => -1
  | 1, 3 => 1
  | _, _ => 0
def cx_stn (q : Nat) : String := match q with
  | 0 => "STEP_Z"
  | _ => "STEP_R"
def cx_St (G : cx_G) (U : State) (H : Heap) : Prop := ∀ q, q < 2 → va_Z "TurnedBar" (cx_stn q) "[I" (.ref (cxt G q)) (cx_A G) U H ∧ va_T .int (cxt G q) 4 (fun j => .int (cx_stp q j)) (cx_A G) U H
theorem cx_St.moved {G : cx_G} {u U : State} {H : Heap} (hvm : u.vm.Alike U.vm) (h : cx_St G u H) : cx_St G U H := fun q hq => ⟨va_Z.moved hvm (h q hq).1, va_T.moved hvm (h q hq).2⟩
theorem cx_St.kept {G : cx_G} {U : State} {H H1 : Heap} (h : cx_St G U H) (hq : ∀ a : Nat, a < H.size → ¬ cx_A G a → H1[a]? = H[a]?) : cx_St G U H1 := fun q h2 => ⟨va_Z.kept (h q h2).1 hq, va_T.kept (h q h2).2 hq⟩
/-- nest mates' links: they aren't among a method's words -/
def cx_N (U : State) : Prop := ∀ w ∈ cx_nest, va_Nw w U
def cx_isN (w : Cond) : Prop := (∃ a i b n d h, w = .fieldLinkNest a i b n d h) ∨ ∃ a i x h, w = .methodLinkNest a i x h
theorem cx_nest_ok : ∀ w ∈ cx_nest, cx_isN w := by
  have h : ∀ w ∈ cx_nest, (match w with | .fieldLinkNest .. => true | .methodLinkNest .. => true | _ => false) = true := by decide +kernel
  intro w hw
  have h1 := h w hw
  cases w <;> first | exact Or.inl ⟨_, _, _, _, _, _, rfl⟩ | exact Or.inr ⟨_, _, _, _, rfl⟩ | cases h1
theorem cx_N.warm {s U : State} (hn : ∀ w ∈ cx_nest, cx_isN w) (hW : s.WarmedH U.vm) (h : cx_N s) : cx_N U := fun w hw => by
  rcases hn w hw with ⟨a, i, b, n, d, q, rfl⟩ | ⟨a, i, x, q, rfl⟩
  · exact va_Nw.warmF hW (h _ hw)
  · exact va_Nw.warmM hW (h _ hw)
theorem cx_N.same {s U : State} (hn : ∀ w ∈ cx_nest, cx_isN w) (e : s.vm = U.vm) (h : cx_N s) : cx_N U := fun w hw => by
  rcases hn w hw with ⟨a, i, b, n, d, q, rfl⟩ | ⟨a, i, x, q, rfl⟩
  · exact va_Nw.same rfl e (h _ hw)
  · exact va_Nw.same rfl e (h _ hw)
def cx_Y (G : cx_G) (U : State) : Prop := va_K (cxD G) vwCl (cx_tys G) U ∧ cx_inj G ∧ cx_N U
def cx_pre (G : cx_G) (w : List va_E) (U : State) : Prop := w.length = cxn G ∧ va_P (cxD G) vwCl (cx_lay G w) U.heap ∧ cx_Y G U ∧ cx_St G U U.heap
def cx_Q (G : cx_G) (post : Option Value → List va_E → Prop) : Array Value → State → Outcome → State → Prop := fun _ st oc t =>
  (∃ (r : Option Value) (w' : List va_E), oc = .returned r ∧ post r w' ∧ w'.length = cxn G ∧ va_P (cxD G) vwCl (cx_lay G w') t.heap) ∧ va_F (cx_A G) st t
/-- a method: name, its place's name, code, maxLocals, return type, frames, words of locals -/
abbrev cx_M : Type := MethodName × String × ByteArray × Nat × Option FieldType × Nat × Nat
abbrev My (M : cx_M) : MethodName := M.1
abbrev Mo (M : cx_M) : String := M.2.1
abbrev Mc (M : cx_M) : ByteArray := M.2.2.1
abbrev Ml (M : cx_M) : Nat := M.2.2.2.1
abbrev Mr (M : cx_M) : Option FieldType := M.2.2.2.2.1
abbrev Mf (M : cx_M) : Nat := M.2.2.2.2.2.1
abbrev Mk (M : cx_M) : Nat := M.2.2.2.2.2.2
abbrev Mw (M : cx_M) : List Cond := Cond.code (My M) (Mc M) (Ml M) (Mr M) :: WS
abbrev cx_rm (M : cx_M) : Room := { frames := Mf M, cells := 0, slots := 0, locals := Mk M }
def Ct (G : cx_G) (M : cx_M) (av : List Value) (w : List va_E) (post : Option Value → List va_E → Prop) : Prop :=
  ∀ l : Launch, Met l (My M) (Mw M) (cx_rm M) (va_Pc av (cx_pre G w)) (cx_Q G post) 0 0 (cx_A G)
def cx_L (ls : Array Slot) (nL : Nat) (L : List (Option Value)) : Prop := ls.size = nL ∧ lv_wf ls ∧ ∀ (i : Nat) (v : Value), L[i]? = some (some v) → ls[i]? = some (.val v) ∧ v.category = 1
def cx_C (G : cx_G) (M : cx_M) (p : Program) (s : State) (m : MethodId) (args : Array Value) (meth : Method) (c : Code) : Prop :=
  p.tables.exec = Jvm.exec ∧ c.code = Mc M ∧ meth.sig.returnType = Mr M ∧ c.maxLocals = Ml M ∧ s.vm.findClass (Mo M) = some m.cls ∧ meth.locks = false ∧ (∀ w ∈ WS, w.before args s = true) ∧ cx_Y G s ∧ cx_St G s s.heap
/-- an end: room, cells and slots made so far, what is to hold behind -/
abbrev cx_E : Type := Room × Nat × Nat × (Array Value → List Frame → State → State → Prop)
def cx_ok (E : cx_E) : Prop := E.2.1 ≤ E.1.cells ∧ E.2.2.1 ≤ E.1.slots
/-- a method's end -/
def cx_e (G : cx_G) (M : cx_M) (post : Option Value → List va_E → Prop) : cx_E := (cx_rm M, 0, 0, fun args below s => MQ below (cx_Q G post) args s 0 0 (cx_A G))
def Ev (G : cx_G) (M : cx_M) (pc : Nat) (L : List (Option Value)) (S : List Value) (w : List va_E) (E : cx_E) : Prop :=
  ∀ (p : Program) (l : Launch) (e : Env) (s : State) (m : MethodId) (args : Array Value) (below : List Frame) (meth : Method) (c : Code) (H : Heap) (locs : List Loc) (ls : Array Slot),
    cx_ok E → cx_C G M p s m args meth c → w.length = cxn G → va_P (cxD G) vwCl (cx_lay G w) H → va_S (cx_A G) s.heap H locs → cx_L ls (Ml M) L →
    W p l e E.1 s m args below meth c H locs E.2.1 E.2.2.1 (E.2.2.2 args below s) (F0 m pc ls S)
/-! locals by their places -/
def cx_as (L : List (Option Value)) : List (Nat × Value) := (List.range L.length).filterMap (fun j => (L[j]?.getD none).map (fun v => (j, v)))
theorem cx_as_mem {L : List (Option Value)} {q : Nat × Value} : q ∈ cx_as L ↔ L[q.1]? = some (some q.2) := by
  obtain ⟨i, v⟩ := q
  simp only [cx_as, List.mem_filterMap, List.mem_range, Option.map_eq_some_iff, Prod.mk.injEq]
  constructor
  · rintro ⟨j, hj, u, hu, rfl, rfl⟩
    rw [List.getElem?_eq_getElem hj] at hu ⊢
    simpa using hu
  · intro h
    exact ⟨i, (List.getElem?_eq_some_iff.mp h).1, v, by rw [h]; rfl, rfl, rfl⟩
theorem cx_L.has {ls : Array Slot} {nL : Nat} {L : List (Option Value)} (h : cx_L ls nL L) : lv_has ls nL (cx_as L) :=
  ⟨h.1, h.2.1, fun q hq => (h.2.2 q.1 q.2 (cx_as_mem.mp hq)).1⟩
theorem cx_L.put {ls ls' : Array Slot} {nL i : Nat} {v : Value} {L : List (Option Value)} (h : cx_L ls nL L) (hv : v.category = 1)
    (h' : lv_has ls' nL ((i, v) :: (cx_as L).filter (fun q => !(q.1 == i) && !(q.1 + 1 == i && q.2.category == 2)))) : cx_L ls' nL (L.set i (some v)) := by
  refine ⟨h'.1, h'.2.1, fun j u hj => ?_⟩
  rw [List.getElem?_set] at hj
  by_cases e : i = j
  · subst e
    rw [if_pos rfl] at hj
    by_cases e2 : i < L.length
    · rw [if_pos e2] at hj
      have : v = u := by simpa using hj
      subst this
      exact ⟨h'.2.2 (i, v) List.mem_cons_self, hv⟩
    · rw [if_neg e2] at hj
      cases hj
  · rw [if_neg e] at hj
    have hc := (h.2.2 j u hj).2
    refine ⟨h'.2.2 (j, u) (List.mem_cons_of_mem _ (List.mem_filter.mpr ⟨cx_as_mem.mpr hj, ?_⟩)), hc⟩
    have e' : ¬ j = i := fun q => e q.symm
    simp [e', hc]
theorem cx_L.entry (vs : List Value) {n : Nat} (hc : vs.all (fun v => v.category == 1) = true) (h : vs.length ≤ n) : cx_L ((lg_sl vs ++ List.replicate (n - (lg_sl vs).length) Slot.unset).toArray) n (vs.map some ++ List.replicate (n - vs.length) none) := by
  have hsl : lg_sl vs = vs.map Slot.val := by
    clear h
    induction vs with
    | nil => rfl
    | cons v vs ih =>
      rw [List.all_cons, Bool.and_eq_true] at hc
      have h1 : ¬ v.category = 2 := by have := hc.1; simp at this; omega
      have h2 := ih hc.2
      simp only [lg_sl] at h2
      simp [lg_sl, h1, h2]
  have hl : (lg_sl vs).length ≤ n := by rw [hsl]; simpa using h
  have h0 := lv_entry vs hl
  refine ⟨h0.1, h0.2.1, fun i v hi => ?_⟩
  by_cases hlt : i < vs.length
  · rw [List.getElem?_append_left (by simpa using hlt)] at hi
    simp only [List.getElem?_map, Option.map_eq_some_iff, Option.some.injEq] at hi
    obtain ⟨u, hu, rfl⟩ := hi
    refine ⟨?_, ?_⟩
    · simp only [List.getElem?_toArray]
      rw [List.getElem?_append_left (by rw [hsl]; simpa using hlt), hsl]
      simp [hu]
    · have := List.all_eq_true.mp hc u (List.mem_of_getElem? hu)
      simpa using this
  · rw [List.getElem?_append_right (by simpa using hlt)] at hi
    have := List.eq_of_mem_replicate (List.mem_of_getElem? hi)
    cases this
/-! a method's beginning -/
theorem Ct.of {G : cx_G} {M : cx_M} {av : List Value} {w : List va_E} {post : Option Value → List va_E → Prop} (hy : plainName (My M).cls = true) (ho : (My M).cls = Mo M) (hav : av.all (fun v => v.category == 1) = true) (hlen : av.length ≤ Ml M)
    (k : Ev G M 0 (av.map some ++ List.replicate (Ml M - av.length) none) [] w (cx_e G M post)) : Ct G M av w post := by
  intro l
  refine Met.ofW (cc := Mc M) (maxL := Ml M) (ret := Mr M) hy rfl ?_
  intro p e s m args below meth c s₁ B hml hv
  obtain ⟨rfl, hn, hP, hY, hSt⟩ := hv
  have hown : s.vm.findClass (Mo M) = some m.cls := by rw [← ho]; exact findClass_of_methodNamed B.named
  rw [lg_entry_eq]
  exact k p l e s m _ below meth c s.heap [] _ ⟨Nat.le_refl _, Nat.le_refl _⟩ ⟨B.exec, B.bytes, B.returns, hml, hown, B.notSynchronized, fun w hw => atoms_spec (ws := Mw M) B.pre w (List.mem_cons_of_mem _ hw), hY, hSt⟩ hn hP va_S.rf (cx_L.entry av hav hlen)
theorem Ct.mono {G : cx_G} {M : cx_M} {av : List Value} {w : List va_E} {post post' : Option Value → List va_E → Prop} (h : Ct G M av w post) (hi : ∀ r w', post r w' → post' r w') : Ct G M av w post' := by
  intro l p e ha hc hk s m args below hf happ hP hK
  obtain ⟨t, o, h1, h2, h3, ⟨⟨r, w', a1, a2, a3, a4⟩, a5⟩, a6⟩ := h l p e ha hc hk s m args below hf happ hP hK
  exact ⟨t, o, h1, h2, h3, ⟨⟨r, w', a1, hi r w' a2, a3, a4⟩, a5⟩, a6⟩
