/-! The law from its entry -/
theorem whole_K {s : State} {args : Array Value} (hWS : ∀ w ∈ WS, w.before args s = true) (hts : ∀ w ∈ lw_tbl, w.before args s = true) (hgv : (Jvm.Cond.and given_1 narrow_1).before args s = true) : ∃ G : cx_G, cxa G = (fun k => s.heap.size + k) ∧ cxn G = 47 ∧ ea_Y G s := by
  obtain ⟨cB, iB, kB⟩ := u_known (n := 4) hWS inB (hWS _ (ws_at 23 (by decide +kernel) rfl))
  obtain ⟨cI, iI, kI⟩ := u_known (n := 3) hWS inI (hWS _ (ws_at 48 (by decide +kernel) rfl))
  obtain ⟨cJ, iJ, kJ⟩ := u_known (n := 3) hWS inJ (hWS _ (ws_at 71 (by decide +kernel) rfl))
  obtain ⟨cM, iM, kM⟩ := u_known (n := 2) hWS inM (hWS _ (ws_at 90 (by decide +kernel) rfl))
  obtain ⟨cP, iP, kP⟩ := u_known (n := 6) hWS inP (hWS _ (ws_at 141 (by decide +kernel) rfl))
  obtain ⟨cR, iR, kR⟩ := u_known (n := 7) hWS inR (hWS _ (ws_at 166 (by decide +kernel) rfl))
  obtain ⟨cS, iS, kS⟩ := u_known (n := 1) hWS inS (hWS _ (ws_at 108 (by decide +kernel) rfl))
  obtain ⟨cW, iW, kW⟩ := u_known (n := 5) hWS inW (hWS _ (ws_at 119 (by decide +kernel) rfl))
  obtain ⟨cT, iT, kT⟩ := u_known (n := 12) hWS inT (hWS _ (ws_at 15 (by decide +kernel) rfl))
  obtain ⟨cD, iD, kD⟩ := u_known (n := 28) hWS inD (hWS _ (ws_at 523 (by decide +kernel) rfl))
  obtain ⟨aI, qI, oI, e1, e2, e3⟩ := Cond.arrayClass_spec (hWS _ ar_int)
  obtain ⟨aB, qB, oB, f1, f2, f3⟩ := Cond.arrayClass_spec (hWS _ ar_bool)
  have hAO : va_AO "TurnedBar$Insert" s := va_AO.of (hts (Cond.arrayOver (.object "TurnedBar$Insert")) (List.mem_append_right _ (List.mem_of_getElem? (i := 47) (by decide +kernel))))
  obtain ⟨oA, aA', qA, g1, g2, g3, g4, g5⟩ := Cond.arrayOver_spec hAO
  have hs := flat_of_before _ hgv
  have hA : ∀ a : Nat, a < s.heap.size → ¬ (fun q => s.heap.size ≤ q) a := fun a ha h => by
    have h : s.heap.size ≤ a := h
    omega
  obtain ⟨tz, ez, hTz⟩ := va_Tof (N := 4) (f := fun j => .int (cx_stp 0 j)) (A := fun q => s.heap.size ≤ q) (tm := .static "TurnedBar" "STEP_Z" "[I") (ty := .int) (by decide) (hs _ (by decide +kernel)) (va_eqt (z := 4) (hs (Cond.eq (.length (.static "TurnedBar" "STEP_Z" "[I")) (.int 4)) (by decide +kernel))) (fun j hj => by
    match j, hj with
    | 0, _ => exact va_eqt (z := 1) (hs (Cond.eq (.elem (.static "TurnedBar" "STEP_Z" "[I") (.int 0)) (.int 1)) (by decide +kernel))
    | 1, _ => exact va_eqt (z := -1) (hs (Cond.eq (.elem (.static "TurnedBar" "STEP_Z" "[I") (.int 1)) (.int (-1))) (by decide +kernel))
    | 2, _ => exact va_eqt (z := 0) (hs (Cond.eq (.elem (.static "TurnedBar" "STEP_Z" "[I") (.int 2)) (.int 0)) (by decide +kernel))
    | 3, _ => exact va_eqt (z := 0) (hs (Cond.eq (.elem (.static "TurnedBar" "STEP_Z" "[I") (.int 3)) (.int 0)) (by decide +kernel))
    | n + 4, h => exact absurd h (by omega)) hA
  obtain ⟨tr, er, hTr⟩ := va_Tof (N := 4) (f := fun j => .int (cx_stp 1 j)) (A := fun q => s.heap.size ≤ q) (tm := .static "TurnedBar" "STEP_R" "[I") (ty := .int) (by decide) (hs _ (by decide +kernel)) (va_eqt (z := 4) (hs (Cond.eq (.length (.static "TurnedBar" "STEP_R" "[I")) (.int 4)) (by decide +kernel))) (fun j hj => by
    match j, hj with
    | 0, _ => exact va_eqt (z := 0) (hs (Cond.eq (.elem (.static "TurnedBar" "STEP_R" "[I") (.int 0)) (.int 0)) (by decide +kernel))
    | 1, _ => exact va_eqt (z := 0) (hs (Cond.eq (.elem (.static "TurnedBar" "STEP_R" "[I") (.int 1)) (.int 0)) (by decide +kernel))
    | 2, _ => exact va_eqt (z := -1) (hs (Cond.eq (.elem (.static "TurnedBar" "STEP_R" "[I") (.int 2)) (.int (-1))) (by decide +kernel))
    | 3, _ => exact va_eqt (z := 1) (hs (Cond.eq (.elem (.static "TurnedBar" "STEP_R" "[I") (.int 3)) (.int 1)) (by decide +kernel))
    | n + 4, h => exact absurd h (by omega)) hA
  have hZz := va_Zref (A := fun q => s.heap.size ≤ q) (hts (Cond.laysStatic "TurnedBar" "STEP_Z" "[I") (List.mem_append_right _ (by decide +kernel))) (hWS _ (ws_at 1 (by decide +kernel) rfl)) ez hA
  have hZr := va_Zref (A := fun q => s.heap.size ≤ q) (hts (Cond.laysStatic "TurnedBar" "STEP_R" "[I") (List.mem_append_right _ (by decide +kernel))) (hWS _ (ws_at 1 (by decide +kernel) rfl)) er hA
  refine ⟨((fun c => match c with
    | 0 => cB
    | 1 => cI
    | 2 => cJ
    | 3 => cM
    | 4 => cP
    | 5 => cR
    | 6 => cS
    | 7 => cW
    | 8 => cT
    | _ => cD, fun c => match c with
    | 0 => iB
    | 1 => iI
    | 2 => iJ
    | 3 => iM
    | 4 => iP
    | 5 => iR
    | 6 => iS
    | 7 => iW
    | 8 => iT
    | _ => iD), (fun k => match k with
    | 0 => aI
    | 1 => aB
    | _ => aA'), fun k => s.heap.size + k, 47, fun q => match q with
    | 0 => tz
    | _ => tr), rfl, rfl, ⟨fun c q hc => ?_, fun k q hk => ?_⟩, fun w hw => ?_, fun q hq => ?_, hAO⟩
  · match c, hc with
    | 0, hc => cases hc; exact kB
    | 1, hc => cases hc; exact kI
    | 2, hc => cases hc; exact kJ
    | 3, hc => cases hc; exact kM
    | 4, hc => cases hc; exact kP
    | 5, hc => cases hc; exact kR
    | 6, hc => cases hc; exact kS
    | 7, hc => cases hc; exact kW
    | 8, hc => cases hc; exact kT
    | 9, hc => cases hc; exact kD
    | n + 10, hc => simp at hc
  · match k, hk with
    | 0, hk => cases hk; exact ⟨fun n z => ⟨fun k h => (by cases h), qI, e2, oI, e3⟩, e1⟩
    | 1, hk => cases hk; exact ⟨fun n z => ⟨fun k h => (by cases h), qB, f2, oB, f3⟩, f1⟩
    | 2, hk => cases hk; exact ⟨fun n z => ⟨fun k h => (by cases h), qA, g3, oA, g4⟩, qA, oA, g3, g4, g1, g5⟩
    | n + 3, hk => simp [cx_tys] at hk
  · have h1 := hts w (List.mem_append_right _ (cx_nest_in w hw))
    rcases cx_nest_ok w hw with ⟨a, i, b, n, d, q, rfl⟩ | ⟨a, i, x, q, rfl⟩
    · exact va_Nw.of rfl h1
    · exact va_Nw.of rfl h1
  · match q, hq with
    | 0, _ => exact ⟨hZz, hTz⟩
    | 1, _ => exact ⟨hZr, hTr⟩
    | n + 2, h => exact absurd h (by omega)
/-- from the entry, for every script of at most 2560 ints, the law comes to its end with true -/
theorem whole_start {p : Program} {e : Env} {s : State} {m : MethodId} {below : List Frame} {meth : Method} {c : Code} (l : Launch) {b L : Nat} {xs : Nat → Int32} (hL : L ≤ 2560) (C0 : lw_At p s m meth c b L xs) : W p l e room_1 s m #[Value.ref b] below meth c s.heap [] 0 0 (lw_Z below #[Value.ref b] s) (entryFrame m ([Value.ref b] : List Value).toArray 4) := by
  obtain ⟨hx, hb, hr, hml, hown, hts, hX, hbl, hlocks, hgv⟩ := C0
  have hWS : ∀ w ∈ WS, w.before #[Value.ref b] s = true := fun w hw => hts w (List.mem_filter.mp hw).1
  obtain ⟨G, hG, hn, hY⟩ := whole_K hWS hts hgv
  have hg : ga G := fun k => by rw [hG]; show s.heap.size + k = s.heap.size + 0 + k; omega
  have h0 : cxa G 0 = s.heap.size := by rw [hG]; rfl
  rw [lg_entry_eq]
  have K := law_ea (G := G) (b := b) (L := L) (xs := xs) hg hn hL p l e s m #[Value.ref b] below meth c s.heap [] _ ⟨hx, hb.trans code_law, hr.trans rfl, hml.trans rfl, hown, hlocks, hWS, hY, by rw [h0]; exact Nat.le_refl _, fun h => absurd h (by decide)⟩ (by show s.heap.size + 0 = cxa G 0; rw [h0]; rfl) (fun k q hk => by simp [cx_lay] at hk) va_S.rf (cx_L.entry [Value.ref b] rfl (Nat.le_of_ble_eq_true rfl))
  intro T hT X
  obtain ⟨t, a1, q⟩ := K T hT X
  exact ⟨t, a1, q ⟨hX, hbl, rfl, fun k _ => by rw [hG]; show s.heap.size ≤ s.heap.size + k; omega⟩⟩
