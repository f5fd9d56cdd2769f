/-! The law's start -/
def v0 (p : Nat) : Nat → Int32 := match p with
  | 1 => fun k => match k with
    | 0 => 1
    | 1 => 1
    | 2 => 12
    | _ => 0
  | 29 => fun k => match k with
    | 6 => -1
    | _ => 0
  | 30 => fun k => match k with
    | 0 => 1
    | 1 => 1
    | 2 => 12
    | _ => 0
  | _ => fun _ => 0
def b0 (p : Nat) : Nat → Bool := match p with
  | 20 => fillM 1 1 (fun _ => false) 96
  | _ => fun _ => false
def S0 : Sg := ((1, 1, 12, fun _ => 0), fun _ => (0, fun _ => 0, fun _ => 0), (0, fun _ => 0), none, fillM 1 1 (fun _ => false) 96)
theorem gd_0 : gd S0 := ⟨by decide, fun z _ => by show 0 ≤ (0 : Int32).toInt ∧ (0 : Int32).toInt ≤ 8; decide, fun j _ => ⟨Nat.zero_le _, fun i hi => absurd hi (by show ¬ i < 0; omega)⟩, ⟨Nat.zero_le _, fun k hk => absurd hk (by show ¬ k < 0; omega)⟩, fun n p t l e => (by cases e)⟩
theorem cls_0 : cls v0 b0 S0 := by
  refine ⟨⟨rfl, rfl, rfl, rfl⟩, fun j hj => ?_, ⟨Nat.zero_le _, rfl, fun a ha => absurd ha (by show ¬ a < 0; omega)⟩, rfl, fun n p t l e => (by cases e), rfl⟩
  match j, hj with
  | 0, _ => exact ⟨rfl, Nat.zero_le _, rfl, rfl⟩
  | 1, _ => exact ⟨rfl, Nat.zero_le _, rfl, rfl⟩
  | 2, _ => exact ⟨rfl, Nat.zero_le _, rfl, rfl⟩
  | n + 3, h => exact absurd h (by omega)
theorem mdl_0 : mdl v0 b0 S0 := ⟨⟨rfl, rfl, rfl, fun z _ => rfl⟩, fun j _ => ⟨rfl, Nat.zero_le _, fun i hi => absurd hi (by show ¬ i < 0; omega)⟩, ⟨rfl, fun k hk => absurd hk (by show ¬ k < 0; omega)⟩, rfl, fun _ => rfl, fun n p t l e => (by cases e), fun e => (by cases e), fun _ => fill_eqX.sy⟩
theorem Ea.toL {G : cx_G} {M : cx_M} {pc : Nat} {L L' : List (Option Value)} {S : List Value} {w : List va_E} {E : cx_E} (hL : L = L') (k : Ea G M pc L' S w E) : Ea G M pc L S w E := by
  subst hL
  exact k
theorem Ea.ev {G : cx_G} {M : cx_M} {pc : Nat} {L : List (Option Value)} {S : List Value} {w : List va_E} {E : cx_E} (hg : ga G) (hn : w.length = cxn G) (hE : cx_ok E) (h0 : E.2.1 = w.length) (k : Ev G M pc L S w E) : Ea G M pc L S w E := by
  intro p l e s m args below meth c H locs ls hC hz hP hS hL
  obtain ⟨hK, hN, hSt, hAO⟩ := hC.2.2.2.2.2.2.2.1
  have hb := hg w.length
  have hbase : s.heap.size = cxa G 0 := by omega
  refine va_forget (fun q hq => ?_) ?_
  · have h1 : cxa G 0 ≤ q.base := hS.2.2 q hq
    omega
  · exact k p l e s m args below meth c H [] ls hE ⟨hC.1, hC.2.1, hC.2.2.1, hC.2.2.2.1, hC.2.2.2.2.1, hC.2.2.2.2.2.1, hC.2.2.2.2.2.2.1, ⟨hK, gN_inj (n := cxn G) hg, hN⟩, gN_St (n := cxn G) hg hSt⟩ hn hP ⟨hS.1, fun q h1 h2 => hS.2.1 q h1 (by show ¬ cxa G 0 ≤ q; omega), fun _ h => absurd h List.not_mem_nil⟩ hL
theorem Ea.cell {G : cx_G} {M : cx_M} {pc : Nat} {L : List (Option Value)} {S : List Value} {w : List va_E} {E : cx_E} {q n : Nat} {cA : ClassId} {f f' : Nat → Option Nat} (he : w[q]? = some (.inl (cA, n, .inr (.inr (.inr (.inr f)))))) (hf : ∀ j, j < n → f j = f' j) (k : Ea G M pc L S (w.set q (.inl (cA, n, .inr (.inr (.inr (.inr f')))))) E) : Ea G M pc L S w E := by
  intro p l e s m args below meth c H locs ls hC hz hP hS hL
  refine k p l e s m args below meth c H locs ls hC (by rw [List.length_set]; exact hz) ?_ hS hL
  rw [← cx_lay_set]
  intro i x hx
  rw [List.getElem?_set] at hx
  by_cases e : q = i
  · subst e
    rw [if_pos rfl] at hx
    split at hx
    · cases hx
      have h1 : H[cxa G q]? = some (vp_cell cA (n, .inr (.inr (.inr (.inr f))))) := hP q _ (cx_lay_get he)
      show H[cxa G q]? = some (vp_cell cA (n, .inr (.inr (.inr (.inr f')))))
      rw [h1]
      have h2 : (fun j : Fin n => va_rf (f j.val)) = fun j : Fin n => va_rf (f' j.val) := by
        funext j
        rw [hf j.val j.isLt]
      show some (arrV cA n (fun j => va_rf (f j))) = some (arrV cA n (fun j => va_rf (f' j)))
      unfold arrV
      rw [h2]
    · cases hx
  · rw [if_neg e] at hx
    exact hP i x hx
section St
variable {G : cx_G} {b L : Nat} {xs : Nat → Int32}
set_option maxHeartbeats 8000000 in
set_option maxRecDepth 100000 in
theorem law_ea (hg : ga G) (hn : cxn G = 47) (hL : L ≤ 2560) : Ea G mL_law 0 [some (.ref b), none, none, none] [] [] (room_1, 0, 0, (lwE G b L xs).2.2.2) := by
  refine Ea.new (pc := 0) (C := RT) (T := FT) (N := 12) (ci := 8) (fs := [.null, .null, .null, .null, .null, .null, .null, .null, .null, .null, .int 0, .int 0]) tT hg dL_law_0 inT tT_ok (ws_at 14 (by decide +kernel) rfl) (ws_at 15 (by decide +kernel) rfl) (ws_at 1 (by decide +kernel) rfl) rfl (fun j hj => by
      match j, hj with
      | 0, _ => rfl
      | 1, _ => rfl
      | 2, _ => rfl
      | 3, _ => rfl
      | 4, _ => rfl
      | 5, _ => rfl
      | 6, _ => rfl
      | 7, _ => rfl
      | 8, _ => rfl
      | 9, _ => rfl
      | 10, _ => rfl
      | 11, _ => rfl
      | n + 12, h => exact absurd h (by omega)) (Nat.le_of_ble_eq_true rfl) (Nat.le_of_ble_eq_true rfl) ?_
  refine Ea.to (S' := [.ref (cxa G 0)]) (w' := [.inr (8, [.null, .null, .null, .null, .null, .null, .null, .null, .null, .null, .int 0, .int 0])]) rfl rfl ?_
  refine Ea.dup (pc := 3) dL_law_3 rfl ?_
  refine Ea.callI (pc := 4) (mc := 29) (ms := 5578) hg dL_law_4 ⟨k0_T_init, (ws_at 16 (by decide +kernel) rfl), (ws_at 17 (by decide +kernel) rfl), rfl, rfl⟩ ⟨(Nat.le_of_ble_eq_true rfl), (Nat.le_of_ble_eq_true rfl)⟩ (ci_T_init_0 hg) rfl rfl rfl (Nat.le_of_ble_eq_true rfl) ⟨(Nat.le_of_ble_eq_true rfl), (Nat.le_of_ble_eq_true rfl)⟩ ?_
  refine Ea.to (S' := [.ref (cxa G 0)]) (w' := [.inr (8, [.ref (cxa G 1), .ref (cxa G 3), .ref (cxa G 13), .ref (cxa G 15), .ref (cxa G 17), .ref (cxa G 19), .ref (cxa G 21), .ref (cxa G 23), .ref (cxa G 27), .ref (cxa G 29), .int 0, .int 0]), .inr (0, [.int 1, .int 1, .int 12, .ref (cxa G 2)]), .inl (cxC G 0, 12, .inl (fun _ => 0)), .inl (cxC G 2, 3, .inr (.inr (.inr (.inr (va_up (va_up (va_up (fun _ => none) 0 (some (cxa G 4))) 1 (some (cxa G 7))) 2 (some (cxa G 10))))))), .inr (1, [.int 0, .ref (cxa G 5), .ref (cxa G 6)]), .inl (cxC G 0, 8, .inl (fun _ => 0)), .inl (cxC G 0, 8, .inl (fun _ => 0)), .inr (1, [.int 0, .ref (cxa G 8), .ref (cxa G 9)]), .inl (cxC G 0, 8, .inl (fun _ => 0)), .inl (cxC G 0, 8, .inl (fun _ => 0)), .inr (1, [.int 0, .ref (cxa G 11), .ref (cxa G 12)]), .inl (cxC G 0, 8, .inl (fun _ => 0)), .inl (cxC G 0, 8, .inl (fun _ => 0)), .inr (2, [.ref (cxa G 3), .ref (cxa G 14), .int 0]), .inl (cxC G 0, 3, .inl (fun _ => 0)), .inr (3, [.ref (cxa G 16), .int 0]), .inl (cxC G 0, 2000, .inl (fun _ => 0)), .inr (3, [.ref (cxa G 18), .int 0]), .inl (cxC G 0, 2000, .inl (fun _ => 0)), .inr (6, [.ref (cxa G 20)]), .inl (cxC G 1, 96, .inl (fun j => bI (fillM 1 1 (fun _ => false) 96 j))), .inr (6, [.ref (cxa G 22)]), .inl (cxC G 1, 96, .inl (fun _ => bI false)), .inr (7, [.ref (cxa G 1), .ref (cxa G 24), .ref (cxa G 25), .ref (cxa G 26), .int 0]), .inl (cxC G 0, 320, .inl (fun _ => 0)), .inl (cxC G 0, 320, .inl (fun _ => 0)), .inl (cxC G 0, 320, .inl (fun _ => 0)), .inr (4, [.ref (cxa G 1), .ref (cxa G 13), .ref (cxa G 23), .ref (cxa G 21), .ref (cxa G 15), .ref (cxa G 28)]), .inl (cxC G 0, 320, .inl (fun _ => 0)), .inr (5, [.ref (cxa G 1), .ref (cxa G 13), .int 0, .int 0, .int 0, .int 0, .int (-1)])]) rfl rfl ?_
  refine Ea.astore_n (pc := 7) (i := 1) dL_law_7 rfl (Nat.le_of_ble_eq_true rfl) ?_
  refine Ea.new (pc := 8) (C := RD) (T := FD) (N := 28) (ci := 9) (fs := [.int 0, .int 0, .int 0, .null, .null, .null, .null, .int 0, .null, .int 0, .int 0, .null, .null, .null, .null, .null, .null, .int 0, .int 0, .null, .null, .null, .null, .null, .int 0, .int 0, .int 0, .int 0]) tD hg dL_law_8 inD tD_ok (ws_at 522 (by decide +kernel) rfl) (ws_at 523 (by decide +kernel) rfl) (ws_at 10 (by decide +kernel) rfl) rfl (fun j hj => by
      match j, hj with
      | 0, _ => rfl
      | 1, _ => rfl
      | 2, _ => rfl
      | 3, _ => rfl
      | 4, _ => rfl
      | 5, _ => rfl
      | 6, _ => rfl
      | 7, _ => rfl
      | 8, _ => rfl
      | 9, _ => rfl
      | 10, _ => rfl
      | 11, _ => rfl
      | 12, _ => rfl
      | 13, _ => rfl
      | 14, _ => rfl
      | 15, _ => rfl
      | 16, _ => rfl
      | 17, _ => rfl
      | 18, _ => rfl
      | 19, _ => rfl
      | 20, _ => rfl
      | 21, _ => rfl
      | 22, _ => rfl
      | 23, _ => rfl
      | 24, _ => rfl
      | 25, _ => rfl
      | 26, _ => rfl
      | 27, _ => rfl
      | n + 28, h => exact absurd h (by omega)) (Nat.le_of_ble_eq_true rfl) (Nat.le_of_ble_eq_true rfl) ?_
  refine Ea.to (S' := [.ref (cxa G 30)]) (w' := [.inr (8, [.ref (cxa G 1), .ref (cxa G 3), .ref (cxa G 13), .ref (cxa G 15), .ref (cxa G 17), .ref (cxa G 19), .ref (cxa G 21), .ref (cxa G 23), .ref (cxa G 27), .ref (cxa G 29), .int 0, .int 0]), .inr (0, [.int 1, .int 1, .int 12, .ref (cxa G 2)]), .inl (cxC G 0, 12, .inl (fun _ => 0)), .inl (cxC G 2, 3, .inr (.inr (.inr (.inr (va_up (va_up (va_up (fun _ => none) 0 (some (cxa G 4))) 1 (some (cxa G 7))) 2 (some (cxa G 10))))))), .inr (1, [.int 0, .ref (cxa G 5), .ref (cxa G 6)]), .inl (cxC G 0, 8, .inl (fun _ => 0)), .inl (cxC G 0, 8, .inl (fun _ => 0)), .inr (1, [.int 0, .ref (cxa G 8), .ref (cxa G 9)]), .inl (cxC G 0, 8, .inl (fun _ => 0)), .inl (cxC G 0, 8, .inl (fun _ => 0)), .inr (1, [.int 0, .ref (cxa G 11), .ref (cxa G 12)]), .inl (cxC G 0, 8, .inl (fun _ => 0)), .inl (cxC G 0, 8, .inl (fun _ => 0)), .inr (2, [.ref (cxa G 3), .ref (cxa G 14), .int 0]), .inl (cxC G 0, 3, .inl (fun _ => 0)), .inr (3, [.ref (cxa G 16), .int 0]), .inl (cxC G 0, 2000, .inl (fun _ => 0)), .inr (3, [.ref (cxa G 18), .int 0]), .inl (cxC G 0, 2000, .inl (fun _ => 0)), .inr (6, [.ref (cxa G 20)]), .inl (cxC G 1, 96, .inl (fun j => bI (fillM 1 1 (fun _ => false) 96 j))), .inr (6, [.ref (cxa G 22)]), .inl (cxC G 1, 96, .inl (fun _ => bI false)), .inr (7, [.ref (cxa G 1), .ref (cxa G 24), .ref (cxa G 25), .ref (cxa G 26), .int 0]), .inl (cxC G 0, 320, .inl (fun _ => 0)), .inl (cxC G 0, 320, .inl (fun _ => 0)), .inl (cxC G 0, 320, .inl (fun _ => 0)), .inr (4, [.ref (cxa G 1), .ref (cxa G 13), .ref (cxa G 23), .ref (cxa G 21), .ref (cxa G 15), .ref (cxa G 28)]), .inl (cxC G 0, 320, .inl (fun _ => 0)), .inr (5, [.ref (cxa G 1), .ref (cxa G 13), .int 0, .int 0, .int 0, .int 0, .int (-1)]), .inr (9, [.int 0, .int 0, .int 0, .null, .null, .null, .null, .int 0, .null, .int 0, .int 0, .null, .null, .null, .null, .null, .null, .int 0, .int 0, .null, .null, .null, .null, .null, .int 0, .int 0, .int 0, .int 0])]) rfl rfl ?_
  refine Ea.dup (pc := 11) dL_law_11 rfl ?_
  refine Ea.callI (pc := 12) (mc := 16) (ms := 13218) hg dL_law_12 ⟨k0_D_init, (ws_at 524 (by decide +kernel) rfl), (ws_at 525 (by decide +kernel) rfl), rfl, rfl⟩ ⟨(Nat.le_of_ble_eq_true rfl), (Nat.le_of_ble_eq_true rfl)⟩ (ci_D_init_30 hg) rfl rfl rfl (Nat.le_of_ble_eq_true rfl) ⟨(Nat.le_of_ble_eq_true rfl), (Nat.le_of_ble_eq_true rfl)⟩ ?_
  refine Ea.to (S' := [.ref (cxa G 30)]) (w' := [.inr (8, [.ref (cxa G 1), .ref (cxa G 3), .ref (cxa G 13), .ref (cxa G 15), .ref (cxa G 17), .ref (cxa G 19), .ref (cxa G 21), .ref (cxa G 23), .ref (cxa G 27), .ref (cxa G 29), .int 0, .int 0]), .inr (0, [.int 1, .int 1, .int 12, .ref (cxa G 2)]), .inl (cxC G 0, 12, .inl (fun _ => 0)), .inl (cxC G 2, 3, .inr (.inr (.inr (.inr (va_up (va_up (va_up (fun _ => none) 0 (some (cxa G 4))) 1 (some (cxa G 7))) 2 (some (cxa G 10))))))), .inr (1, [.int 0, .ref (cxa G 5), .ref (cxa G 6)]), .inl (cxC G 0, 8, .inl (fun _ => 0)), .inl (cxC G 0, 8, .inl (fun _ => 0)), .inr (1, [.int 0, .ref (cxa G 8), .ref (cxa G 9)]), .inl (cxC G 0, 8, .inl (fun _ => 0)), .inl (cxC G 0, 8, .inl (fun _ => 0)), .inr (1, [.int 0, .ref (cxa G 11), .ref (cxa G 12)]), .inl (cxC G 0, 8, .inl (fun _ => 0)), .inl (cxC G 0, 8, .inl (fun _ => 0)), .inr (2, [.ref (cxa G 3), .ref (cxa G 14), .int 0]), .inl (cxC G 0, 3, .inl (fun _ => 0)), .inr (3, [.ref (cxa G 16), .int 0]), .inl (cxC G 0, 2000, .inl (fun _ => 0)), .inr (3, [.ref (cxa G 18), .int 0]), .inl (cxC G 0, 2000, .inl (fun _ => 0)), .inr (6, [.ref (cxa G 20)]), .inl (cxC G 1, 96, .inl (fun j => bI (fillM 1 1 (fun _ => false) 96 j))), .inr (6, [.ref (cxa G 22)]), .inl (cxC G 1, 96, .inl (fun _ => bI false)), .inr (7, [.ref (cxa G 1), .ref (cxa G 24), .ref (cxa G 25), .ref (cxa G 26), .int 0]), .inl (cxC G 0, 320, .inl (fun _ => 0)), .inl (cxC G 0, 320, .inl (fun _ => 0)), .inl (cxC G 0, 320, .inl (fun _ => 0)), .inr (4, [.ref (cxa G 1), .ref (cxa G 13), .ref (cxa G 23), .ref (cxa G 21), .ref (cxa G 15), .ref (cxa G 28)]), .inl (cxC G 0, 320, .inl (fun _ => 0)), .inr (5, [.ref (cxa G 1), .ref (cxa G 13), .int 0, .int 0, .int 0, .int 0, .int (-1)]), .inr (9, [.int 1, .int 1, .int 12, .ref (cxa G 31), .ref (cxa G 32), .ref (cxa G 33), .ref (cxa G 34), .int 0, .ref (cxa G 35), .int 0, .int 0, .ref (cxa G 36), .ref (cxa G 37), .ref (cxa G 38), .ref (cxa G 39), .ref (cxa G 40), .ref (cxa G 41), .int 0, .int 0, .ref (cxa G 42), .ref (cxa G 43), .ref (cxa G 44), .ref (cxa G 45), .ref (cxa G 46), .int 0, .int 0, .int 0, .int 0]), .inl (cxC G 0, 12, .inl (fun _ => 0)), .inl (cxC G 0, 3, .inl (fun _ => 0)), .inl (cxC G 0, 24, .inl (fun _ => 0)), .inl (cxC G 0, 24, .inl (fun _ => 0)), .inl (cxC G 0, 3, .inl (fun _ => 0)), .inl (cxC G 0, 2000, .inl (fun _ => 0)), .inl (cxC G 0, 2000, .inl (fun _ => 0)), .inl (cxC G 0, 2000, .inl (fun _ => 0)), .inl (cxC G 0, 2000, .inl (fun _ => 0)), .inl (cxC G 0, 2000, .inl (fun _ => 0)), .inl (cxC G 0, 2000, .inl (fun _ => 0)), .inl (cxC G 1, 96, .inl (fun _ => bI false)), .inl (cxC G 1, 96, .inl (fun _ => bI false)), .inl (cxC G 1, 320, .inl (fun _ => bI false)), .inl (cxC G 0, 320, .inl (fun _ => 0)), .inl (cxC G 0, 320, .inl (fun _ => 0))]) rfl rfl ?_
  refine Ea.astore_n (pc := 15) (i := 2) dL_law_15 rfl (Nat.le_of_ble_eq_true rfl) ?_
  refine Ea.iconst (pc := 16) (v := 0) dL_law_16 (by decide) ?_
  refine Ea.istore_n (pc := 17) (i := 3) dL_law_17 rfl (Nat.le_of_ble_eq_true rfl) ?_
  refine Ea.toL (L' := [some (.ref b), some (.ref (cxa G 0)), some (.ref (cxa G 30)), some (.int (nI 0))]) rfl ?_
  refine Ea.cell (q := 3) (n := 3) (cA := cxC G 2) (f' := fun j => some (cxa G (4 + 3 * j))) rfl (fun j hj => ?_) ?_
  · match j, hj with
    | 0, _ => rfl
    | 1, _ => rfl
    | 2, _ => rfl
    | n + 3, h => exact absurd h (by omega)
  refine Ea.to (S' := []) (w' := wl G v0 b0) rfl rfl ?_
  exact Ea.ev (E := lwE G b L xs) hg (by rw [hn]; rfl) ⟨Nat.le_of_ble_eq_true rfl, Nat.le_of_ble_eq_true rfl⟩ rfl (law_loop hL L 0 v0 b0 S0 (by omega) (by omega) gd_0 cls_0 mdl_0)
end St
