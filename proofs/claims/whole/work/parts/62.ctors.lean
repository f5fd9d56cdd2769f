/-! The constructors -/
theorem Ea.to {G : cx_G} {M : cx_M} {pc : Nat} {L : List (Option Value)} {S S' : List Value} {w w' : List va_E} {E : cx_E} (hS : S = S') (hw : w = w') (k : Ea G M pc L S' w' E) : Ea G M pc L S w E := by
  subst hS
  subst hw
  exact k
theorem k0_B_init : cx_k0 mB_init 0 := ⟨(ws_at 26 (by decide +kernel) rfl), (ws_at 2 (by decide +kernel) rfl), by decide, by decide, by decide +kernel⟩
theorem k0_I_init : cx_k0 mI_init 0 := ⟨(ws_at 51 (by decide +kernel) rfl), (ws_at 3 (by decide +kernel) rfl), by decide, by decide, by decide +kernel⟩
theorem k0_J_init : cx_k0 mJ_init 1 := ⟨(ws_at 74 (by decide +kernel) rfl), (ws_at 4 (by decide +kernel) rfl), by decide, by decide, by decide +kernel⟩
theorem k0_M_init : cx_k0 mM_init 0 := ⟨(ws_at 93 (by decide +kernel) rfl), (ws_at 5 (by decide +kernel) rfl), by decide, by decide, by decide +kernel⟩
theorem k0_S_init : cx_k0 mS_init 0 := ⟨(ws_at 111 (by decide +kernel) rfl), (ws_at 6 (by decide +kernel) rfl), by decide, by decide, by decide +kernel⟩
theorem k0_W_init : cx_k0 mW_init 1 := ⟨(ws_at 122 (by decide +kernel) rfl), (ws_at 7 (by decide +kernel) rfl), by decide, by decide, by decide +kernel⟩
theorem k0_P_init : cx_k0 mP_init 5 := ⟨(ws_at 144 (by decide +kernel) rfl), (ws_at 8 (by decide +kernel) rfl), by decide, by decide, by decide +kernel⟩
theorem k0_R_init : cx_k0 mR_init 2 := ⟨(ws_at 169 (by decide +kernel) rfl), (ws_at 9 (by decide +kernel) rfl), by decide, by decide, by decide +kernel⟩
theorem k0_T_init : cx_k0 mT_init 0 := ⟨(ws_at 18 (by decide +kernel) rfl), (ws_at 1 (by decide +kernel) rfl), by decide, by decide, by decide +kernel⟩
theorem k0_D_init : cx_k0 mD_init 0 := ⟨(ws_at 526 (by decide +kernel) rfl), (ws_at 10 (by decide +kernel) rfl), by decide, by decide, by decide +kernel⟩
section Ct
variable {G : cx_G}
set_option maxHeartbeats 4000000 in
set_option maxRecDepth 100000 in
theorem ci_B_init_1 {x0 : va_E} (hg : ga G) : Ci G mB_init [.ref (cxa G 1)] [x0, .inr (0, [.int 0, .int 0, .int 0, .null])] [x0, .inr (0, [.int 1, .int 1, .int 12, .ref (cxa G 2)]), .inl (cxC G 0, 12, .inl (fun _ => 0))] 1 12 := by
  refine Ci.of hg (by decide) rfl rfl (Nat.le_of_ble_eq_true rfl) ?_
  refine Ea.aload_n (pc := 0) (i := 0) dB_init_0 rfl rfl ?_
  refine Ea.objInit (pc := 1) dB_init_1 (ws_at 27 (by decide +kernel) rfl) (Nat.le_of_ble_eq_true rfl) ⟨(Nat.le_of_ble_eq_true rfl), (Nat.le_of_ble_eq_true rfl)⟩ ?_
  refine Ea.to (S' := []) (w' := [x0, .inr (0, [.int 0, .int 0, .int 0, .null])]) rfl rfl ?_
  refine Ea.aload_n (pc := 4) (i := 0) dB_init_4 rfl rfl ?_
  refine Ea.iconst (pc := 5) (v := 1) dB_init_5 (by decide) ?_
  refine Ea.putfield (pc := 6) (q := 1) hg .int dB_init_6 fl_B_9 ⟨RB, FB, 4, tB, rfl, tB_ok, nB_ok, rfl, by decide +kernel⟩ rfl rfl rfl (Nat.le_of_ble_eq_true rfl) ?_
  refine Ea.to (S' := []) (w' := [x0, .inr (0, [.int 1, .int 0, .int 0, .null])]) rfl rfl ?_
  refine Ea.aload_n (pc := 9) (i := 0) dB_init_9 rfl rfl ?_
  refine Ea.iconst (pc := 10) (v := 1) dB_init_10 (by decide) ?_
  refine Ea.putfield (pc := 11) (q := 1) hg .int dB_init_11 fl_B_15 ⟨RB, FB, 4, tB, rfl, tB_ok, nB_ok, rfl, by decide +kernel⟩ rfl rfl rfl (Nat.le_of_ble_eq_true rfl) ?_
  refine Ea.to (S' := []) (w' := [x0, .inr (0, [.int 1, .int 1, .int 0, .null])]) rfl rfl ?_
  refine Ea.aload_n (pc := 14) (i := 0) dB_init_14 rfl rfl ?_
  refine Ea.bipush (pc := 15) (v := 12) dB_init_15 (by decide) ?_
  refine Ea.putfield (pc := 17) (q := 1) hg .int dB_init_17 fl_B_18 ⟨RB, FB, 4, tB, rfl, tB_ok, nB_ok, rfl, by decide +kernel⟩ rfl rfl rfl (Nat.le_of_ble_eq_true rfl) ?_
  refine Ea.to (S' := []) (w' := [x0, .inr (0, [.int 1, .int 1, .int 12, .null])]) rfl rfl ?_
  refine Ea.aload_n (pc := 20) (i := 0) dB_init_20 rfl rfl ?_
  refine Ea.bipush (pc := 21) (v := 12) dB_init_21 (by decide) ?_
  refine Ea.newI (pc := 23) (N' := 12) hg dB_init_23 (by decide) rfl (by decide) (Nat.le_of_ble_eq_true rfl) (Nat.le_of_ble_eq_true rfl) ?_
  refine Ea.to (S' := [.ref (cxa G 2), .ref (cxa G 1)]) (w' := [x0, .inr (0, [.int 1, .int 1, .int 12, .null]), .inl (cxC G 0, 12, .inl (fun _ => 0))]) rfl rfl ?_
  refine Ea.putfin (pc := 25) (q := 1) hg (.array .int) rfl dB_init_25 fl_B_21 ⟨RB, FB, 4, tB, rfl, tB_ok, nB_ok, rfl, rfl, by decide +kernel⟩ rfl rfl rfl (Nat.le_of_ble_eq_true rfl) ?_
  refine Ea.to (S' := []) (w' := [x0, .inr (0, [.int 1, .int 1, .int 12, .ref (cxa G 2)]), .inl (cxC G 0, 12, .inl (fun _ => 0))]) rfl rfl ?_
  exact Ea.vret dB_init_28 rfl rfl
set_option maxHeartbeats 4000000 in
set_option maxRecDepth 100000 in
theorem ci_I_init_4 {x0 x1 x2 x3 : va_E} (hg : ga G) : Ci G mI_init [.ref (cxa G 4)] [x0, x1, x2, x3, .inr (1, [.int 0, .null, .null])] [x0, x1, x2, x3, .inr (1, [.int 0, .ref (cxa G 5), .ref (cxa G 6)]), .inl (cxC G 0, 8, .inl (fun _ => 0)), .inl (cxC G 0, 8, .inl (fun _ => 0))] 2 16 := by
  refine Ci.of hg (by decide) rfl rfl (Nat.le_of_ble_eq_true rfl) ?_
  refine Ea.aload_n (pc := 0) (i := 0) dI_init_0 rfl rfl ?_
  refine Ea.objInit (pc := 1) dI_init_1 (ws_at 52 (by decide +kernel) rfl) (Nat.le_of_ble_eq_true rfl) ⟨(Nat.le_of_ble_eq_true rfl), (Nat.le_of_ble_eq_true rfl)⟩ ?_
  refine Ea.to (S' := []) (w' := [x0, x1, x2, x3, .inr (1, [.int 0, .null, .null])]) rfl rfl ?_
  refine Ea.aload_n (pc := 4) (i := 0) dI_init_4 rfl rfl ?_
  refine Ea.iconst (pc := 5) (v := 0) dI_init_5 (by decide) ?_
  refine Ea.putfield (pc := 6) (q := 4) hg .int dI_init_6 fl_I_9 ⟨RI, FI, 3, tI, rfl, tI_ok, nI_ok, rfl, by decide +kernel⟩ rfl rfl rfl (Nat.le_of_ble_eq_true rfl) ?_
  refine Ea.to (S' := []) (w' := [x0, x1, x2, x3, .inr (1, [.int 0, .null, .null])]) rfl rfl ?_
  refine Ea.aload_n (pc := 9) (i := 0) dI_init_9 rfl rfl ?_
  refine Ea.bipush (pc := 10) (v := 8) dI_init_10 (by decide) ?_
  refine Ea.newI (pc := 12) (N' := 8) hg dI_init_12 (by decide) rfl (by decide) (Nat.le_of_ble_eq_true rfl) (Nat.le_of_ble_eq_true rfl) ?_
  refine Ea.to (S' := [.ref (cxa G 5), .ref (cxa G 4)]) (w' := [x0, x1, x2, x3, .inr (1, [.int 0, .null, .null]), .inl (cxC G 0, 8, .inl (fun _ => 0))]) rfl rfl ?_
  refine Ea.putfin (pc := 14) (q := 4) hg (.array .int) rfl dI_init_14 fl_I_15 ⟨RI, FI, 3, tI, rfl, tI_ok, nI_ok, rfl, rfl, by decide +kernel⟩ rfl rfl rfl (Nat.le_of_ble_eq_true rfl) ?_
  refine Ea.to (S' := []) (w' := [x0, x1, x2, x3, .inr (1, [.int 0, .ref (cxa G 5), .null]), .inl (cxC G 0, 8, .inl (fun _ => 0))]) rfl rfl ?_
  refine Ea.aload_n (pc := 17) (i := 0) dI_init_17 rfl rfl ?_
  refine Ea.bipush (pc := 18) (v := 8) dI_init_18 (by decide) ?_
  refine Ea.newI (pc := 20) (N' := 8) hg dI_init_20 (by decide) rfl (by decide) (Nat.le_of_ble_eq_true rfl) (Nat.le_of_ble_eq_true rfl) ?_
  refine Ea.to (S' := [.ref (cxa G 6), .ref (cxa G 4)]) (w' := [x0, x1, x2, x3, .inr (1, [.int 0, .ref (cxa G 5), .null]), .inl (cxC G 0, 8, .inl (fun _ => 0)), .inl (cxC G 0, 8, .inl (fun _ => 0))]) rfl rfl ?_
  refine Ea.putfin (pc := 22) (q := 4) hg (.array .int) rfl dI_init_22 fl_I_19 ⟨RI, FI, 3, tI, rfl, tI_ok, nI_ok, rfl, rfl, by decide +kernel⟩ rfl rfl rfl (Nat.le_of_ble_eq_true rfl) ?_
  refine Ea.to (S' := []) (w' := [x0, x1, x2, x3, .inr (1, [.int 0, .ref (cxa G 5), .ref (cxa G 6)]), .inl (cxC G 0, 8, .inl (fun _ => 0)), .inl (cxC G 0, 8, .inl (fun _ => 0))]) rfl rfl ?_
  exact Ea.vret dI_init_25 rfl rfl
set_option maxHeartbeats 4000000 in
set_option maxRecDepth 100000 in
theorem ci_I_init_7 {x0 x1 x2 x3 x4 x5 x6 : va_E} (hg : ga G) : Ci G mI_init [.ref (cxa G 7)] [x0, x1, x2, x3, x4, x5, x6, .inr (1, [.int 0, .null, .null])] [x0, x1, x2, x3, x4, x5, x6, .inr (1, [.int 0, .ref (cxa G 8), .ref (cxa G 9)]), .inl (cxC G 0, 8, .inl (fun _ => 0)), .inl (cxC G 0, 8, .inl (fun _ => 0))] 2 16 := by
  refine Ci.of hg (by decide) rfl rfl (Nat.le_of_ble_eq_true rfl) ?_
  refine Ea.aload_n (pc := 0) (i := 0) dI_init_0 rfl rfl ?_
  refine Ea.objInit (pc := 1) dI_init_1 (ws_at 52 (by decide +kernel) rfl) (Nat.le_of_ble_eq_true rfl) ⟨(Nat.le_of_ble_eq_true rfl), (Nat.le_of_ble_eq_true rfl)⟩ ?_
  refine Ea.to (S' := []) (w' := [x0, x1, x2, x3, x4, x5, x6, .inr (1, [.int 0, .null, .null])]) rfl rfl ?_
  refine Ea.aload_n (pc := 4) (i := 0) dI_init_4 rfl rfl ?_
  refine Ea.iconst (pc := 5) (v := 0) dI_init_5 (by decide) ?_
  refine Ea.putfield (pc := 6) (q := 7) hg .int dI_init_6 fl_I_9 ⟨RI, FI, 3, tI, rfl, tI_ok, nI_ok, rfl, by decide +kernel⟩ rfl rfl rfl (Nat.le_of_ble_eq_true rfl) ?_
  refine Ea.to (S' := []) (w' := [x0, x1, x2, x3, x4, x5, x6, .inr (1, [.int 0, .null, .null])]) rfl rfl ?_
  refine Ea.aload_n (pc := 9) (i := 0) dI_init_9 rfl rfl ?_
  refine Ea.bipush (pc := 10) (v := 8) dI_init_10 (by decide) ?_
  refine Ea.newI (pc := 12) (N' := 8) hg dI_init_12 (by decide) rfl (by decide) (Nat.le_of_ble_eq_true rfl) (Nat.le_of_ble_eq_true rfl) ?_
  refine Ea.to (S' := [.ref (cxa G 8), .ref (cxa G 7)]) (w' := [x0, x1, x2, x3, x4, x5, x6, .inr (1, [.int 0, .null, .null]), .inl (cxC G 0, 8, .inl (fun _ => 0))]) rfl rfl ?_
  refine Ea.putfin (pc := 14) (q := 7) hg (.array .int) rfl dI_init_14 fl_I_15 ⟨RI, FI, 3, tI, rfl, tI_ok, nI_ok, rfl, rfl, by decide +kernel⟩ rfl rfl rfl (Nat.le_of_ble_eq_true rfl) ?_
  refine Ea.to (S' := []) (w' := [x0, x1, x2, x3, x4, x5, x6, .inr (1, [.int 0, .ref (cxa G 8), .null]), .inl (cxC G 0, 8, .inl (fun _ => 0))]) rfl rfl ?_
  refine Ea.aload_n (pc := 17) (i := 0) dI_init_17 rfl rfl ?_
  refine Ea.bipush (pc := 18) (v := 8) dI_init_18 (by decide) ?_
  refine Ea.newI (pc := 20) (N' := 8) hg dI_init_20 (by decide) rfl (by decide) (Nat.le_of_ble_eq_true rfl) (Nat.le_of_ble_eq_true rfl) ?_
  refine Ea.to (S' := [.ref (cxa G 9), .ref (cxa G 7)]) (w' := [x0, x1, x2, x3, x4, x5, x6, .inr (1, [.int 0, .ref (cxa G 8), .null]), .inl (cxC G 0, 8, .inl (fun _ => 0)), .inl (cxC G 0, 8, .inl (fun _ => 0))]) rfl rfl ?_
  refine Ea.putfin (pc := 22) (q := 7) hg (.array .int) rfl dI_init_22 fl_I_19 ⟨RI, FI, 3, tI, rfl, tI_ok, nI_ok, rfl, rfl, by decide +kernel⟩ rfl rfl rfl (Nat.le_of_ble_eq_true rfl) ?_
  refine Ea.to (S' := []) (w' := [x0, x1, x2, x3, x4, x5, x6, .inr (1, [.int 0, .ref (cxa G 8), .ref (cxa G 9)]), .inl (cxC G 0, 8, .inl (fun _ => 0)), .inl (cxC G 0, 8, .inl (fun _ => 0))]) rfl rfl ?_
  exact Ea.vret dI_init_25 rfl rfl
set_option maxHeartbeats 4000000 in
set_option maxRecDepth 100000 in
theorem ci_I_init_10 {x0 x1 x2 x3 x4 x5 x6 x7 x8 x9 : va_E} (hg : ga G) : Ci G mI_init [.ref (cxa G 10)] [x0, x1, x2, x3, x4, x5, x6, x7, x8, x9, .inr (1, [.int 0, .null, .null])] [x0, x1, x2, x3, x4, x5, x6, x7, x8, x9, .inr (1, [.int 0, .ref (cxa G 11), .ref (cxa G 12)]), .inl (cxC G 0, 8, .inl (fun _ => 0)), .inl (cxC G 0, 8, .inl (fun _ => 0))] 2 16 := by
  refine Ci.of hg (by decide) rfl rfl (Nat.le_of_ble_eq_true rfl) ?_
  refine Ea.aload_n (pc := 0) (i := 0) dI_init_0 rfl rfl ?_
  refine Ea.objInit (pc := 1) dI_init_1 (ws_at 52 (by decide +kernel) rfl) (Nat.le_of_ble_eq_true rfl) ⟨(Nat.le_of_ble_eq_true rfl), (Nat.le_of_ble_eq_true rfl)⟩ ?_
  refine Ea.to (S' := []) (w' := [x0, x1, x2, x3, x4, x5, x6, x7, x8, x9, .inr (1, [.int 0, .null, .null])]) rfl rfl ?_
  refine Ea.aload_n (pc := 4) (i := 0) dI_init_4 rfl rfl ?_
  refine Ea.iconst (pc := 5) (v := 0) dI_init_5 (by decide) ?_
  refine Ea.putfield (pc := 6) (q := 10) hg .int dI_init_6 fl_I_9 ⟨RI, FI, 3, tI, rfl, tI_ok, nI_ok, rfl, by decide +kernel⟩ rfl rfl rfl (Nat.le_of_ble_eq_true rfl) ?_
  refine Ea.to (S' := []) (w' := [x0, x1, x2, x3, x4, x5, x6, x7, x8, x9, .inr (1, [.int 0, .null, .null])]) rfl rfl ?_
  refine Ea.aload_n (pc := 9) (i := 0) dI_init_9 rfl rfl ?_
  refine Ea.bipush (pc := 10) (v := 8) dI_init_10 (by decide) ?_
  refine Ea.newI (pc := 12) (N' := 8) hg dI_init_12 (by decide) rfl (by decide) (Nat.le_of_ble_eq_true rfl) (Nat.le_of_ble_eq_true rfl) ?_
  refine Ea.to (S' := [.ref (cxa G 11), .ref (cxa G 10)]) (w' := [x0, x1, x2, x3, x4, x5, x6, x7, x8, x9, .inr (1, [.int 0, .null, .null]), .inl (cxC G 0, 8, .inl (fun _ => 0))]) rfl rfl ?_
  refine Ea.putfin (pc := 14) (q := 10) hg (.array .int) rfl dI_init_14 fl_I_15 ⟨RI, FI, 3, tI, rfl, tI_ok, nI_ok, rfl, rfl, by decide +kernel⟩ rfl rfl rfl (Nat.le_of_ble_eq_true rfl) ?_
  refine Ea.to (S' := []) (w' := [x0, x1, x2, x3, x4, x5, x6, x7, x8, x9, .inr (1, [.int 0, .ref (cxa G 11), .null]), .inl (cxC G 0, 8, .inl (fun _ => 0))]) rfl rfl ?_
  refine Ea.aload_n (pc := 17) (i := 0) dI_init_17 rfl rfl ?_
  refine Ea.bipush (pc := 18) (v := 8) dI_init_18 (by decide) ?_
  refine Ea.newI (pc := 20) (N' := 8) hg dI_init_20 (by decide) rfl (by decide) (Nat.le_of_ble_eq_true rfl) (Nat.le_of_ble_eq_true rfl) ?_
  refine Ea.to (S' := [.ref (cxa G 12), .ref (cxa G 10)]) (w' := [x0, x1, x2, x3, x4, x5, x6, x7, x8, x9, .inr (1, [.int 0, .ref (cxa G 11), .null]), .inl (cxC G 0, 8, .inl (fun _ => 0)), .inl (cxC G 0, 8, .inl (fun _ => 0))]) rfl rfl ?_
  refine Ea.putfin (pc := 22) (q := 10) hg (.array .int) rfl dI_init_22 fl_I_19 ⟨RI, FI, 3, tI, rfl, tI_ok, nI_ok, rfl, rfl, by decide +kernel⟩ rfl rfl rfl (Nat.le_of_ble_eq_true rfl) ?_
  refine Ea.to (S' := []) (w' := [x0, x1, x2, x3, x4, x5, x6, x7, x8, x9, .inr (1, [.int 0, .ref (cxa G 11), .ref (cxa G 12)]), .inl (cxC G 0, 8, .inl (fun _ => 0)), .inl (cxC G 0, 8, .inl (fun _ => 0))]) rfl rfl ?_
  exact Ea.vret dI_init_25 rfl rfl
set_option maxHeartbeats 4000000 in
set_option maxRecDepth 100000 in
theorem ci_J_init_13 {x0 x1 x2 x3 x4 x5 x6 x7 x8 x9 x10 x11 x12 : va_E} (hg : ga G) : Ci G mJ_init [.ref (cxa G 13), .ref (cxa G 3)] [x0, x1, x2, x3, x4, x5, x6, x7, x8, x9, x10, x11, x12, .inr (2, [.null, .null, .int 0])] [x0, x1, x2, x3, x4, x5, x6, x7, x8, x9, x10, x11, x12, .inr (2, [.ref (cxa G 3), .ref (cxa G 14), .int 0]), .inl (cxC G 0, 3, .inl (fun _ => 0))] 1 3 := by
  refine Ci.of hg (by decide) rfl rfl (Nat.le_of_ble_eq_true rfl) ?_
  refine Ea.aload_n (pc := 0) (i := 0) dJ_init_0 rfl rfl ?_
  refine Ea.objInit (pc := 1) dJ_init_1 (ws_at 75 (by decide +kernel) rfl) (Nat.le_of_ble_eq_true rfl) ⟨(Nat.le_of_ble_eq_true rfl), (Nat.le_of_ble_eq_true rfl)⟩ ?_
  refine Ea.to (S' := []) (w' := [x0, x1, x2, x3, x4, x5, x6, x7, x8, x9, x10, x11, x12, .inr (2, [.null, .null, .int 0])]) rfl rfl ?_
  refine Ea.aload_n (pc := 4) (i := 0) dJ_init_4 rfl rfl ?_
  refine Ea.iconst (pc := 5) (v := 3) dJ_init_5 (by decide) ?_
  refine Ea.newI (pc := 6) (N' := 3) hg dJ_init_6 (by decide) rfl (by decide) (Nat.le_of_ble_eq_true rfl) (Nat.le_of_ble_eq_true rfl) ?_
  refine Ea.to (S' := [.ref (cxa G 14), .ref (cxa G 13)]) (w' := [x0, x1, x2, x3, x4, x5, x6, x7, x8, x9, x10, x11, x12, .inr (2, [.null, .null, .int 0]), .inl (cxC G 0, 3, .inl (fun _ => 0))]) rfl rfl ?_
  refine Ea.putfin (pc := 8) (q := 13) hg (.array .int) rfl dJ_init_8 fl_J_9 ⟨RJ, FJ, 3, tJ, rfl, tJ_ok, nJ_ok, rfl, rfl, by decide +kernel⟩ rfl rfl rfl (Nat.le_of_ble_eq_true rfl) ?_
  refine Ea.to (S' := []) (w' := [x0, x1, x2, x3, x4, x5, x6, x7, x8, x9, x10, x11, x12, .inr (2, [.null, .ref (cxa G 14), .int 0]), .inl (cxC G 0, 3, .inl (fun _ => 0))]) rfl rfl ?_
  refine Ea.aload_n (pc := 11) (i := 0) dJ_init_11 rfl rfl ?_
  refine Ea.iconst (pc := 12) (v := 0) dJ_init_12 (by decide) ?_
  refine Ea.putfield (pc := 13) (q := 13) hg .int dJ_init_13 fl_J_15 ⟨RJ, FJ, 3, tJ, rfl, tJ_ok, nJ_ok, rfl, by decide +kernel⟩ rfl rfl rfl (Nat.le_of_ble_eq_true rfl) ?_
  refine Ea.to (S' := []) (w' := [x0, x1, x2, x3, x4, x5, x6, x7, x8, x9, x10, x11, x12, .inr (2, [.null, .ref (cxa G 14), .int 0]), .inl (cxC G 0, 3, .inl (fun _ => 0))]) rfl rfl ?_
  refine Ea.aload_n (pc := 16) (i := 0) dJ_init_16 rfl rfl ?_
  refine Ea.aload_n (pc := 17) (i := 1) dJ_init_17 rfl rfl ?_
  refine Ea.putfin (pc := 18) (q := 13) hg (.array (.object "TurnedBar$Insert")) rfl dJ_init_18 fl_J_19 ⟨RJ, FJ, 3, tJ, rfl, tJ_ok, nJ_ok, rfl, rfl, by decide +kernel⟩ rfl rfl rfl (Nat.le_of_ble_eq_true rfl) ?_
  refine Ea.to (S' := []) (w' := [x0, x1, x2, x3, x4, x5, x6, x7, x8, x9, x10, x11, x12, .inr (2, [.ref (cxa G 3), .ref (cxa G 14), .int 0]), .inl (cxC G 0, 3, .inl (fun _ => 0))]) rfl rfl ?_
  exact Ea.vret dJ_init_21 rfl rfl
set_option maxHeartbeats 4000000 in
set_option maxRecDepth 100000 in
theorem ci_M_init_15 {x0 x1 x2 x3 x4 x5 x6 x7 x8 x9 x10 x11 x12 x13 x14 : va_E} (hg : ga G) : Ci G mM_init [.ref (cxa G 15)] [x0, x1, x2, x3, x4, x5, x6, x7, x8, x9, x10, x11, x12, x13, x14, .inr (3, [.null, .int 0])] [x0, x1, x2, x3, x4, x5, x6, x7, x8, x9, x10, x11, x12, x13, x14, .inr (3, [.ref (cxa G 16), .int 0]), .inl (cxC G 0, 2000, .inl (fun _ => 0))] 1 2000 := by
  refine Ci.of hg (by decide) rfl rfl (Nat.le_of_ble_eq_true rfl) ?_
  refine Ea.aload_n (pc := 0) (i := 0) dM_init_0 rfl rfl ?_
  refine Ea.objInit (pc := 1) dM_init_1 (ws_at 94 (by decide +kernel) rfl) (Nat.le_of_ble_eq_true rfl) ⟨(Nat.le_of_ble_eq_true rfl), (Nat.le_of_ble_eq_true rfl)⟩ ?_
  refine Ea.to (S' := []) (w' := [x0, x1, x2, x3, x4, x5, x6, x7, x8, x9, x10, x11, x12, x13, x14, .inr (3, [.null, .int 0])]) rfl rfl ?_
  refine Ea.aload_n (pc := 4) (i := 0) dM_init_4 rfl rfl ?_
  refine Ea.sipush (pc := 5) (v := 2000) dM_init_5 (by decide) ?_
  refine Ea.newI (pc := 8) (N' := 2000) hg dM_init_8 (by decide) rfl (by decide) (Nat.le_of_ble_eq_true rfl) (Nat.le_of_ble_eq_true rfl) ?_
  refine Ea.to (S' := [.ref (cxa G 16), .ref (cxa G 15)]) (w' := [x0, x1, x2, x3, x4, x5, x6, x7, x8, x9, x10, x11, x12, x13, x14, .inr (3, [.null, .int 0]), .inl (cxC G 0, 2000, .inl (fun _ => 0))]) rfl rfl ?_
  refine Ea.putfin (pc := 10) (q := 15) hg (.array .int) rfl dM_init_10 fl_M_9 ⟨RM, FM, 2, tM, rfl, tM_ok, nM_ok, rfl, rfl, by decide +kernel⟩ rfl rfl rfl (Nat.le_of_ble_eq_true rfl) ?_
  refine Ea.to (S' := []) (w' := [x0, x1, x2, x3, x4, x5, x6, x7, x8, x9, x10, x11, x12, x13, x14, .inr (3, [.ref (cxa G 16), .int 0]), .inl (cxC G 0, 2000, .inl (fun _ => 0))]) rfl rfl ?_
  refine Ea.aload_n (pc := 13) (i := 0) dM_init_13 rfl rfl ?_
  refine Ea.iconst (pc := 14) (v := 0) dM_init_14 (by decide) ?_
  refine Ea.putfield (pc := 15) (q := 15) hg .int dM_init_15 fl_M_15 ⟨RM, FM, 2, tM, rfl, tM_ok, nM_ok, rfl, by decide +kernel⟩ rfl rfl rfl (Nat.le_of_ble_eq_true rfl) ?_
  refine Ea.to (S' := []) (w' := [x0, x1, x2, x3, x4, x5, x6, x7, x8, x9, x10, x11, x12, x13, x14, .inr (3, [.ref (cxa G 16), .int 0]), .inl (cxC G 0, 2000, .inl (fun _ => 0))]) rfl rfl ?_
  exact Ea.vret dM_init_18 rfl rfl
set_option maxHeartbeats 4000000 in
set_option maxRecDepth 100000 in
theorem ci_M_init_17 {x0 x1 x2 x3 x4 x5 x6 x7 x8 x9 x10 x11 x12 x13 x14 x15 x16 : va_E} (hg : ga G) : Ci G mM_init [.ref (cxa G 17)] [x0, x1, x2, x3, x4, x5, x6, x7, x8, x9, x10, x11, x12, x13, x14, x15, x16, .inr (3, [.null, .int 0])] [x0, x1, x2, x3, x4, x5, x6, x7, x8, x9, x10, x11, x12, x13, x14, x15, x16, .inr (3, [.ref (cxa G 18), .int 0]), .inl (cxC G 0, 2000, .inl (fun _ => 0))] 1 2000 := by
  refine Ci.of hg (by decide) rfl rfl (Nat.le_of_ble_eq_true rfl) ?_
  refine Ea.aload_n (pc := 0) (i := 0) dM_init_0 rfl rfl ?_
  refine Ea.objInit (pc := 1) dM_init_1 (ws_at 94 (by decide +kernel) rfl) (Nat.le_of_ble_eq_true rfl) ⟨(Nat.le_of_ble_eq_true rfl), (Nat.le_of_ble_eq_true rfl)⟩ ?_
  refine Ea.to (S' := []) (w' := [x0, x1, x2, x3, x4, x5, x6, x7, x8, x9, x10, x11, x12, x13, x14, x15, x16, .inr (3, [.null, .int 0])]) rfl rfl ?_
  refine Ea.aload_n (pc := 4) (i := 0) dM_init_4 rfl rfl ?_
  refine Ea.sipush (pc := 5) (v := 2000) dM_init_5 (by decide) ?_
  refine Ea.newI (pc := 8) (N' := 2000) hg dM_init_8 (by decide) rfl (by decide) (Nat.le_of_ble_eq_true rfl) (Nat.le_of_ble_eq_true rfl) ?_
  refine Ea.to (S' := [.ref (cxa G 18), .ref (cxa G 17)]) (w' := [x0, x1, x2, x3, x4, x5, x6, x7, x8, x9, x10, x11, x12, x13, x14, x15, x16, .inr (3, [.null, .int 0]), .inl (cxC G 0, 2000, .inl (fun _ => 0))]) rfl rfl ?_
  refine Ea.putfin (pc := 10) (q := 17) hg (.array .int) rfl dM_init_10 fl_M_9 ⟨RM, FM, 2, tM, rfl, tM_ok, nM_ok, rfl, rfl, by decide +kernel⟩ rfl rfl rfl (Nat.le_of_ble_eq_true rfl) ?_
  refine Ea.to (S' := []) (w' := [x0, x1, x2, x3, x4, x5, x6, x7, x8, x9, x10, x11, x12, x13, x14, x15, x16, .inr (3, [.ref (cxa G 18), .int 0]), .inl (cxC G 0, 2000, .inl (fun _ => 0))]) rfl rfl ?_
  refine Ea.aload_n (pc := 13) (i := 0) dM_init_13 rfl rfl ?_
  refine Ea.iconst (pc := 14) (v := 0) dM_init_14 (by decide) ?_
  refine Ea.putfield (pc := 15) (q := 17) hg .int dM_init_15 fl_M_15 ⟨RM, FM, 2, tM, rfl, tM_ok, nM_ok, rfl, by decide +kernel⟩ rfl rfl rfl (Nat.le_of_ble_eq_true rfl) ?_
  refine Ea.to (S' := []) (w' := [x0, x1, x2, x3, x4, x5, x6, x7, x8, x9, x10, x11, x12, x13, x14, x15, x16, .inr (3, [.ref (cxa G 18), .int 0]), .inl (cxC G 0, 2000, .inl (fun _ => 0))]) rfl rfl ?_
  exact Ea.vret dM_init_18 rfl rfl
set_option maxHeartbeats 4000000 in
set_option maxRecDepth 100000 in
theorem ci_S_init_19 {x0 x1 x2 x3 x4 x5 x6 x7 x8 x9 x10 x11 x12 x13 x14 x15 x16 x17 x18 : va_E} (hg : ga G) : Ci G mS_init [.ref (cxa G 19)] [x0, x1, x2, x3, x4, x5, x6, x7, x8, x9, x10, x11, x12, x13, x14, x15, x16, x17, x18, .inr (6, [.null])] [x0, x1, x2, x3, x4, x5, x6, x7, x8, x9, x10, x11, x12, x13, x14, x15, x16, x17, x18, .inr (6, [.ref (cxa G 20)]), .inl (cxC G 1, 96, .inl (fun _ => bI false))] 1 96 := by
  refine Ci.of hg (by decide) rfl rfl (Nat.le_of_ble_eq_true rfl) ?_
  refine Ea.aload_n (pc := 0) (i := 0) dS_init_0 rfl rfl ?_
  refine Ea.objInit (pc := 1) dS_init_1 (ws_at 112 (by decide +kernel) rfl) (Nat.le_of_ble_eq_true rfl) ⟨(Nat.le_of_ble_eq_true rfl), (Nat.le_of_ble_eq_true rfl)⟩ ?_
  refine Ea.to (S' := []) (w' := [x0, x1, x2, x3, x4, x5, x6, x7, x8, x9, x10, x11, x12, x13, x14, x15, x16, x17, x18, .inr (6, [.null])]) rfl rfl ?_
  refine Ea.aload_n (pc := 4) (i := 0) dS_init_4 rfl rfl ?_
  refine Ea.bipush (pc := 5) (v := 96) dS_init_5 (by decide) ?_
  refine Ea.newB (pc := 7) (N' := 96) hg dS_init_7 (by decide) rfl (by decide) (Nat.le_of_ble_eq_true rfl) (Nat.le_of_ble_eq_true rfl) ?_
  refine Ea.to (S' := [.ref (cxa G 20), .ref (cxa G 19)]) (w' := [x0, x1, x2, x3, x4, x5, x6, x7, x8, x9, x10, x11, x12, x13, x14, x15, x16, x17, x18, .inr (6, [.null]), .inl (cxC G 1, 96, .inl (fun _ => bI false))]) rfl rfl ?_
  refine Ea.putfin (pc := 9) (q := 19) hg (.array .boolean) rfl dS_init_9 fl_S_9 ⟨RS, FS, 1, tS, rfl, tS_ok, nS_ok, rfl, rfl, by decide +kernel⟩ rfl rfl rfl (Nat.le_of_ble_eq_true rfl) ?_
  refine Ea.to (S' := []) (w' := [x0, x1, x2, x3, x4, x5, x6, x7, x8, x9, x10, x11, x12, x13, x14, x15, x16, x17, x18, .inr (6, [.ref (cxa G 20)]), .inl (cxC G 1, 96, .inl (fun _ => bI false))]) rfl rfl ?_
  exact Ea.vret dS_init_12 rfl rfl
set_option maxHeartbeats 4000000 in
set_option maxRecDepth 100000 in
theorem ci_S_init_21 {x0 x1 x2 x3 x4 x5 x6 x7 x8 x9 x10 x11 x12 x13 x14 x15 x16 x17 x18 x19 x20 : va_E} (hg : ga G) : Ci G mS_init [.ref (cxa G 21)] [x0, x1, x2, x3, x4, x5, x6, x7, x8, x9, x10, x11, x12, x13, x14, x15, x16, x17, x18, x19, x20, .inr (6, [.null])] [x0, x1, x2, x3, x4, x5, x6, x7, x8, x9, x10, x11, x12, x13, x14, x15, x16, x17, x18, x19, x20, .inr (6, [.ref (cxa G 22)]), .inl (cxC G 1, 96, .inl (fun _ => bI false))] 1 96 := by
  refine Ci.of hg (by decide) rfl rfl (Nat.le_of_ble_eq_true rfl) ?_
  refine Ea.aload_n (pc := 0) (i := 0) dS_init_0 rfl rfl ?_
  refine Ea.objInit (pc := 1) dS_init_1 (ws_at 112 (by decide +kernel) rfl) (Nat.le_of_ble_eq_true rfl) ⟨(Nat.le_of_ble_eq_true rfl), (Nat.le_of_ble_eq_true rfl)⟩ ?_
  refine Ea.to (S' := []) (w' := [x0, x1, x2, x3, x4, x5, x6, x7, x8, x9, x10, x11, x12, x13, x14, x15, x16, x17, x18, x19, x20, .inr (6, [.null])]) rfl rfl ?_
  refine Ea.aload_n (pc := 4) (i := 0) dS_init_4 rfl rfl ?_
  refine Ea.bipush (pc := 5) (v := 96) dS_init_5 (by decide) ?_
  refine Ea.newB (pc := 7) (N' := 96) hg dS_init_7 (by decide) rfl (by decide) (Nat.le_of_ble_eq_true rfl) (Nat.le_of_ble_eq_true rfl) ?_
  refine Ea.to (S' := [.ref (cxa G 22), .ref (cxa G 21)]) (w' := [x0, x1, x2, x3, x4, x5, x6, x7, x8, x9, x10, x11, x12, x13, x14, x15, x16, x17, x18, x19, x20, .inr (6, [.null]), .inl (cxC G 1, 96, .inl (fun _ => bI false))]) rfl rfl ?_
  refine Ea.putfin (pc := 9) (q := 21) hg (.array .boolean) rfl dS_init_9 fl_S_9 ⟨RS, FS, 1, tS, rfl, tS_ok, nS_ok, rfl, rfl, by decide +kernel⟩ rfl rfl rfl (Nat.le_of_ble_eq_true rfl) ?_
  refine Ea.to (S' := []) (w' := [x0, x1, x2, x3, x4, x5, x6, x7, x8, x9, x10, x11, x12, x13, x14, x15, x16, x17, x18, x19, x20, .inr (6, [.ref (cxa G 22)]), .inl (cxC G 1, 96, .inl (fun _ => bI false))]) rfl rfl ?_
  exact Ea.vret dS_init_12 rfl rfl
set_option maxHeartbeats 4000000 in
set_option maxRecDepth 100000 in
theorem ci_W_init_23 {x0 x1 x2 x3 x4 x5 x6 x7 x8 x9 x10 x11 x12 x13 x14 x15 x16 x17 x18 x19 x20 x21 x22 : va_E} (hg : ga G) : Ci G mW_init [.ref (cxa G 23), .ref (cxa G 1)] [x0, x1, x2, x3, x4, x5, x6, x7, x8, x9, x10, x11, x12, x13, x14, x15, x16, x17, x18, x19, x20, x21, x22, .inr (7, [.null, .null, .null, .null, .int 0])] [x0, x1, x2, x3, x4, x5, x6, x7, x8, x9, x10, x11, x12, x13, x14, x15, x16, x17, x18, x19, x20, x21, x22, .inr (7, [.ref (cxa G 1), .ref (cxa G 24), .ref (cxa G 25), .ref (cxa G 26), .int 0]), .inl (cxC G 0, 320, .inl (fun _ => 0)), .inl (cxC G 0, 320, .inl (fun _ => 0)), .inl (cxC G 0, 320, .inl (fun _ => 0))] 3 960 := by
  refine Ci.of hg (by decide) rfl rfl (Nat.le_of_ble_eq_true rfl) ?_
  refine Ea.aload_n (pc := 0) (i := 0) dW_init_0 rfl rfl ?_
  refine Ea.objInit (pc := 1) dW_init_1 (ws_at 123 (by decide +kernel) rfl) (Nat.le_of_ble_eq_true rfl) ⟨(Nat.le_of_ble_eq_true rfl), (Nat.le_of_ble_eq_true rfl)⟩ ?_
  refine Ea.to (S' := []) (w' := [x0, x1, x2, x3, x4, x5, x6, x7, x8, x9, x10, x11, x12, x13, x14, x15, x16, x17, x18, x19, x20, x21, x22, .inr (7, [.null, .null, .null, .null, .int 0])]) rfl rfl ?_
  refine Ea.aload_n (pc := 4) (i := 0) dW_init_4 rfl rfl ?_
  refine Ea.sipush (pc := 5) (v := 320) dW_init_5 (by decide) ?_
  refine Ea.newI (pc := 8) (N' := 320) hg dW_init_8 (by decide) rfl (by decide) (Nat.le_of_ble_eq_true rfl) (Nat.le_of_ble_eq_true rfl) ?_
  refine Ea.to (S' := [.ref (cxa G 24), .ref (cxa G 23)]) (w' := [x0, x1, x2, x3, x4, x5, x6, x7, x8, x9, x10, x11, x12, x13, x14, x15, x16, x17, x18, x19, x20, x21, x22, .inr (7, [.null, .null, .null, .null, .int 0]), .inl (cxC G 0, 320, .inl (fun _ => 0))]) rfl rfl ?_
  refine Ea.putfin (pc := 10) (q := 23) hg (.array .int) rfl dW_init_10 fl_W_9 ⟨RW, FW, 5, tW, rfl, tW_ok, nW_ok, rfl, rfl, by decide +kernel⟩ rfl rfl rfl (Nat.le_of_ble_eq_true rfl) ?_
  refine Ea.to (S' := []) (w' := [x0, x1, x2, x3, x4, x5, x6, x7, x8, x9, x10, x11, x12, x13, x14, x15, x16, x17, x18, x19, x20, x21, x22, .inr (7, [.null, .ref (cxa G 24), .null, .null, .int 0]), .inl (cxC G 0, 320, .inl (fun _ => 0))]) rfl rfl ?_
  refine Ea.aload_n (pc := 13) (i := 0) dW_init_13 rfl rfl ?_
  refine Ea.sipush (pc := 14) (v := 320) dW_init_14 (by decide) ?_
  refine Ea.newI (pc := 17) (N' := 320) hg dW_init_17 (by decide) rfl (by decide) (Nat.le_of_ble_eq_true rfl) (Nat.le_of_ble_eq_true rfl) ?_
  refine Ea.to (S' := [.ref (cxa G 25), .ref (cxa G 23)]) (w' := [x0, x1, x2, x3, x4, x5, x6, x7, x8, x9, x10, x11, x12, x13, x14, x15, x16, x17, x18, x19, x20, x21, x22, .inr (7, [.null, .ref (cxa G 24), .null, .null, .int 0]), .inl (cxC G 0, 320, .inl (fun _ => 0)), .inl (cxC G 0, 320, .inl (fun _ => 0))]) rfl rfl ?_
  refine Ea.putfin (pc := 19) (q := 23) hg (.array .int) rfl dW_init_19 fl_W_15 ⟨RW, FW, 5, tW, rfl, tW_ok, nW_ok, rfl, rfl, by decide +kernel⟩ rfl rfl rfl (Nat.le_of_ble_eq_true rfl) ?_
  refine Ea.to (S' := []) (w' := [x0, x1, x2, x3, x4, x5, x6, x7, x8, x9, x10, x11, x12, x13, x14, x15, x16, x17, x18, x19, x20, x21, x22, .inr (7, [.null, .ref (cxa G 24), .ref (cxa G 25), .null, .int 0]), .inl (cxC G 0, 320, .inl (fun _ => 0)), .inl (cxC G 0, 320, .inl (fun _ => 0))]) rfl rfl ?_
  refine Ea.aload_n (pc := 22) (i := 0) dW_init_22 rfl rfl ?_
  refine Ea.sipush (pc := 23) (v := 320) dW_init_23 (by decide) ?_
  refine Ea.newI (pc := 26) (N' := 320) hg dW_init_26 (by decide) rfl (by decide) (Nat.le_of_ble_eq_true rfl) (Nat.le_of_ble_eq_true rfl) ?_
  refine Ea.to (S' := [.ref (cxa G 26), .ref (cxa G 23)]) (w' := [x0, x1, x2, x3, x4, x5, x6, x7, x8, x9, x10, x11, x12, x13, x14, x15, x16, x17, x18, x19, x20, x21, x22, .inr (7, [.null, .ref (cxa G 24), .ref (cxa G 25), .null, .int 0]), .inl (cxC G 0, 320, .inl (fun _ => 0)), .inl (cxC G 0, 320, .inl (fun _ => 0)), .inl (cxC G 0, 320, .inl (fun _ => 0))]) rfl rfl ?_
  refine Ea.putfin (pc := 28) (q := 23) hg (.array .int) rfl dW_init_28 fl_W_18 ⟨RW, FW, 5, tW, rfl, tW_ok, nW_ok, rfl, rfl, by decide +kernel⟩ rfl rfl rfl (Nat.le_of_ble_eq_true rfl) ?_
  refine Ea.to (S' := []) (w' := [x0, x1, x2, x3, x4, x5, x6, x7, x8, x9, x10, x11, x12, x13, x14, x15, x16, x17, x18, x19, x20, x21, x22, .inr (7, [.null, .ref (cxa G 24), .ref (cxa G 25), .ref (cxa G 26), .int 0]), .inl (cxC G 0, 320, .inl (fun _ => 0)), .inl (cxC G 0, 320, .inl (fun _ => 0)), .inl (cxC G 0, 320, .inl (fun _ => 0))]) rfl rfl ?_
  refine Ea.aload_n (pc := 31) (i := 0) dW_init_31 rfl rfl ?_
  refine Ea.iconst (pc := 32) (v := 0) dW_init_32 (by decide) ?_
  refine Ea.putfield (pc := 33) (q := 23) hg .int dW_init_33 fl_W_21 ⟨RW, FW, 5, tW, rfl, tW_ok, nW_ok, rfl, by decide +kernel⟩ rfl rfl rfl (Nat.le_of_ble_eq_true rfl) ?_
  refine Ea.to (S' := []) (w' := [x0, x1, x2, x3, x4, x5, x6, x7, x8, x9, x10, x11, x12, x13, x14, x15, x16, x17, x18, x19, x20, x21, x22, .inr (7, [.null, .ref (cxa G 24), .ref (cxa G 25), .ref (cxa G 26), .int 0]), .inl (cxC G 0, 320, .inl (fun _ => 0)), .inl (cxC G 0, 320, .inl (fun _ => 0)), .inl (cxC G 0, 320, .inl (fun _ => 0))]) rfl rfl ?_
  refine Ea.aload_n (pc := 36) (i := 0) dW_init_36 rfl rfl ?_
  refine Ea.aload_n (pc := 37) (i := 1) dW_init_37 rfl rfl ?_
  refine Ea.putfin (pc := 38) (q := 23) hg (.object "TurnedBar$Blank") rfl dW_init_38 fl_W_25 ⟨RW, FW, 5, tW, rfl, tW_ok, nW_ok, rfl, rfl, by decide +kernel⟩ rfl rfl rfl (Nat.le_of_ble_eq_true rfl) ?_
  refine Ea.to (S' := []) (w' := [x0, x1, x2, x3, x4, x5, x6, x7, x8, x9, x10, x11, x12, x13, x14, x15, x16, x17, x18, x19, x20, x21, x22, .inr (7, [.ref (cxa G 1), .ref (cxa G 24), .ref (cxa G 25), .ref (cxa G 26), .int 0]), .inl (cxC G 0, 320, .inl (fun _ => 0)), .inl (cxC G 0, 320, .inl (fun _ => 0)), .inl (cxC G 0, 320, .inl (fun _ => 0))]) rfl rfl ?_
  exact Ea.vret dW_init_41 rfl rfl
set_option maxHeartbeats 4000000 in
set_option maxRecDepth 100000 in
theorem ci_P_init_27 {x0 x1 x2 x3 x4 x5 x6 x7 x8 x9 x10 x11 x12 x13 x14 x15 x16 x17 x18 x19 x20 x21 x22 x23 x24 x25 x26 : va_E} (hg : ga G) : Ci G mP_init [.ref (cxa G 27), .ref (cxa G 1), .ref (cxa G 13), .ref (cxa G 23), .ref (cxa G 21), .ref (cxa G 15)] [x0, x1, x2, x3, x4, x5, x6, x7, x8, x9, x10, x11, x12, x13, x14, x15, x16, x17, x18, x19, x20, x21, x22, x23, x24, x25, x26, .inr (4, [.null, .null, .null, .null, .null, .null])] [x0, x1, x2, x3, x4, x5, x6, x7, x8, x9, x10, x11, x12, x13, x14, x15, x16, x17, x18, x19, x20, x21, x22, x23, x24, x25, x26, .inr (4, [.ref (cxa G 1), .ref (cxa G 13), .ref (cxa G 23), .ref (cxa G 21), .ref (cxa G 15), .ref (cxa G 28)]), .inl (cxC G 0, 320, .inl (fun _ => 0))] 1 320 := by
  refine Ci.of hg (by decide) rfl rfl (Nat.le_of_ble_eq_true rfl) ?_
  refine Ea.aload_n (pc := 0) (i := 0) dP_init_0 rfl rfl ?_
  refine Ea.objInit (pc := 1) dP_init_1 (ws_at 145 (by decide +kernel) rfl) (Nat.le_of_ble_eq_true rfl) ⟨(Nat.le_of_ble_eq_true rfl), (Nat.le_of_ble_eq_true rfl)⟩ ?_
  refine Ea.to (S' := []) (w' := [x0, x1, x2, x3, x4, x5, x6, x7, x8, x9, x10, x11, x12, x13, x14, x15, x16, x17, x18, x19, x20, x21, x22, x23, x24, x25, x26, .inr (4, [.null, .null, .null, .null, .null, .null])]) rfl rfl ?_
  refine Ea.aload_n (pc := 4) (i := 0) dP_init_4 rfl rfl ?_
  refine Ea.sipush (pc := 5) (v := 320) dP_init_5 (by decide) ?_
  refine Ea.newI (pc := 8) (N' := 320) hg dP_init_8 (by decide) rfl (by decide) (Nat.le_of_ble_eq_true rfl) (Nat.le_of_ble_eq_true rfl) ?_
  refine Ea.to (S' := [.ref (cxa G 28), .ref (cxa G 27)]) (w' := [x0, x1, x2, x3, x4, x5, x6, x7, x8, x9, x10, x11, x12, x13, x14, x15, x16, x17, x18, x19, x20, x21, x22, x23, x24, x25, x26, .inr (4, [.null, .null, .null, .null, .null, .null]), .inl (cxC G 0, 320, .inl (fun _ => 0))]) rfl rfl ?_
  refine Ea.putfin (pc := 10) (q := 27) hg (.array .int) rfl dP_init_10 fl_P_9 ⟨RP, FP, 6, tP, rfl, tP_ok, nP_ok, rfl, rfl, by decide +kernel⟩ rfl rfl rfl (Nat.le_of_ble_eq_true rfl) ?_
  refine Ea.to (S' := []) (w' := [x0, x1, x2, x3, x4, x5, x6, x7, x8, x9, x10, x11, x12, x13, x14, x15, x16, x17, x18, x19, x20, x21, x22, x23, x24, x25, x26, .inr (4, [.null, .null, .null, .null, .null, .ref (cxa G 28)]), .inl (cxC G 0, 320, .inl (fun _ => 0))]) rfl rfl ?_
  refine Ea.aload_n (pc := 13) (i := 0) dP_init_13 rfl rfl ?_
  refine Ea.aload_n (pc := 14) (i := 1) dP_init_14 rfl rfl ?_
  refine Ea.putfin (pc := 15) (q := 27) hg (.object "TurnedBar$Blank") rfl dP_init_15 fl_P_15 ⟨RP, FP, 6, tP, rfl, tP_ok, nP_ok, rfl, rfl, by decide +kernel⟩ rfl rfl rfl (Nat.le_of_ble_eq_true rfl) ?_
  refine Ea.to (S' := []) (w' := [x0, x1, x2, x3, x4, x5, x6, x7, x8, x9, x10, x11, x12, x13, x14, x15, x16, x17, x18, x19, x20, x21, x22, x23, x24, x25, x26, .inr (4, [.ref (cxa G 1), .null, .null, .null, .null, .ref (cxa G 28)]), .inl (cxC G 0, 320, .inl (fun _ => 0))]) rfl rfl ?_
  refine Ea.aload_n (pc := 18) (i := 0) dP_init_18 rfl rfl ?_
  refine Ea.aload_n (pc := 19) (i := 2) dP_init_19 rfl rfl ?_
  refine Ea.putfin (pc := 20) (q := 27) hg (.object "TurnedBar$Job") rfl dP_init_20 fl_P_19 ⟨RP, FP, 6, tP, rfl, tP_ok, nP_ok, rfl, rfl, by decide +kernel⟩ rfl rfl rfl (Nat.le_of_ble_eq_true rfl) ?_
  refine Ea.to (S' := []) (w' := [x0, x1, x2, x3, x4, x5, x6, x7, x8, x9, x10, x11, x12, x13, x14, x15, x16, x17, x18, x19, x20, x21, x22, x23, x24, x25, x26, .inr (4, [.ref (cxa G 1), .ref (cxa G 13), .null, .null, .null, .ref (cxa G 28)]), .inl (cxC G 0, 320, .inl (fun _ => 0))]) rfl rfl ?_
  refine Ea.aload_n (pc := 23) (i := 0) dP_init_23 rfl rfl ?_
  refine Ea.aload_n (pc := 24) (i := 3) dP_init_24 rfl rfl ?_
  refine Ea.putfin (pc := 25) (q := 27) hg (.object "TurnedBar$Ways") rfl dP_init_25 fl_P_23 ⟨RP, FP, 6, tP, rfl, tP_ok, nP_ok, rfl, rfl, by decide +kernel⟩ rfl rfl rfl (Nat.le_of_ble_eq_true rfl) ?_
  refine Ea.to (S' := []) (w' := [x0, x1, x2, x3, x4, x5, x6, x7, x8, x9, x10, x11, x12, x13, x14, x15, x16, x17, x18, x19, x20, x21, x22, x23, x24, x25, x26, .inr (4, [.ref (cxa G 1), .ref (cxa G 13), .ref (cxa G 23), .null, .null, .ref (cxa G 28)]), .inl (cxC G 0, 320, .inl (fun _ => 0))]) rfl rfl ?_
  refine Ea.aload_n (pc := 28) (i := 0) dP_init_28 rfl rfl ?_
  refine Ea.aload (pc := 29) dP_init_29 rfl ?_
  refine Ea.putfin (pc := 31) (q := 27) hg (.object "TurnedBar$Stock") rfl dP_init_31 fl_P_27 ⟨RP, FP, 6, tP, rfl, tP_ok, nP_ok, rfl, rfl, by decide +kernel⟩ rfl rfl rfl (Nat.le_of_ble_eq_true rfl) ?_
  refine Ea.to (S' := []) (w' := [x0, x1, x2, x3, x4, x5, x6, x7, x8, x9, x10, x11, x12, x13, x14, x15, x16, x17, x18, x19, x20, x21, x22, x23, x24, x25, x26, .inr (4, [.ref (cxa G 1), .ref (cxa G 13), .ref (cxa G 23), .ref (cxa G 21), .null, .ref (cxa G 28)]), .inl (cxC G 0, 320, .inl (fun _ => 0))]) rfl rfl ?_
  refine Ea.aload_n (pc := 34) (i := 0) dP_init_34 rfl rfl ?_
  refine Ea.aload (pc := 35) dP_init_35 rfl ?_
  refine Ea.putfin (pc := 37) (q := 27) hg (.object "TurnedBar$Moves") rfl dP_init_37 fl_P_31 ⟨RP, FP, 6, tP, rfl, tP_ok, nP_ok, rfl, rfl, by decide +kernel⟩ rfl rfl rfl (Nat.le_of_ble_eq_true rfl) ?_
  refine Ea.to (S' := []) (w' := [x0, x1, x2, x3, x4, x5, x6, x7, x8, x9, x10, x11, x12, x13, x14, x15, x16, x17, x18, x19, x20, x21, x22, x23, x24, x25, x26, .inr (4, [.ref (cxa G 1), .ref (cxa G 13), .ref (cxa G 23), .ref (cxa G 21), .ref (cxa G 15), .ref (cxa G 28)]), .inl (cxC G 0, 320, .inl (fun _ => 0))]) rfl rfl ?_
  exact Ea.vret dP_init_40 rfl rfl
set_option maxHeartbeats 4000000 in
set_option maxRecDepth 100000 in
theorem ci_R_init_29 {x0 x1 x2 x3 x4 x5 x6 x7 x8 x9 x10 x11 x12 x13 x14 x15 x16 x17 x18 x19 x20 x21 x22 x23 x24 x25 x26 x27 x28 : va_E} (hg : ga G) : Ci G mR_init [.ref (cxa G 29), .ref (cxa G 1), .ref (cxa G 13)] [x0, x1, x2, x3, x4, x5, x6, x7, x8, x9, x10, x11, x12, x13, x14, x15, x16, x17, x18, x19, x20, x21, x22, x23, x24, x25, x26, x27, x28, .inr (5, [.null, .null, .int 0, .int 0, .int 0, .int 0, .int 0])] [x0, x1, x2, x3, x4, x5, x6, x7, x8, x9, x10, x11, x12, x13, x14, x15, x16, x17, x18, x19, x20, x21, x22, x23, x24, x25, x26, x27, x28, .inr (5, [.ref (cxa G 1), .ref (cxa G 13), .int 0, .int 0, .int 0, .int 0, .int (-1)])] 0 0 := by
  refine Ci.of hg (by decide) rfl rfl (Nat.le_of_ble_eq_true rfl) ?_
  refine Ea.aload_n (pc := 0) (i := 0) dR_init_0 rfl rfl ?_
  refine Ea.objInit (pc := 1) dR_init_1 (ws_at 170 (by decide +kernel) rfl) (Nat.le_of_ble_eq_true rfl) ⟨(Nat.le_of_ble_eq_true rfl), (Nat.le_of_ble_eq_true rfl)⟩ ?_
  refine Ea.to (S' := []) (w' := [x0, x1, x2, x3, x4, x5, x6, x7, x8, x9, x10, x11, x12, x13, x14, x15, x16, x17, x18, x19, x20, x21, x22, x23, x24, x25, x26, x27, x28, .inr (5, [.null, .null, .int 0, .int 0, .int 0, .int 0, .int 0])]) rfl rfl ?_
  refine Ea.aload_n (pc := 4) (i := 0) dR_init_4 rfl rfl ?_
  refine Ea.iconst (pc := 5) (v := 0) dR_init_5 (by decide) ?_
  refine Ea.putfield (pc := 6) (q := 29) hg .int dR_init_6 fl_R_9 ⟨RR, FR, 7, tR, rfl, tR_ok, nR_ok, rfl, by decide +kernel⟩ rfl rfl rfl (Nat.le_of_ble_eq_true rfl) ?_
  refine Ea.to (S' := []) (w' := [x0, x1, x2, x3, x4, x5, x6, x7, x8, x9, x10, x11, x12, x13, x14, x15, x16, x17, x18, x19, x20, x21, x22, x23, x24, x25, x26, x27, x28, .inr (5, [.null, .null, .int 0, .int 0, .int 0, .int 0, .int 0])]) rfl rfl ?_
  refine Ea.aload_n (pc := 9) (i := 0) dR_init_9 rfl rfl ?_
  refine Ea.iconst (pc := 10) (v := 0) dR_init_10 (by decide) ?_
  refine Ea.putfield (pc := 11) (q := 29) hg .int dR_init_11 fl_R_15 ⟨RR, FR, 7, tR, rfl, tR_ok, nR_ok, rfl, by decide +kernel⟩ rfl rfl rfl (Nat.le_of_ble_eq_true rfl) ?_
  refine Ea.to (S' := []) (w' := [x0, x1, x2, x3, x4, x5, x6, x7, x8, x9, x10, x11, x12, x13, x14, x15, x16, x17, x18, x19, x20, x21, x22, x23, x24, x25, x26, x27, x28, .inr (5, [.null, .null, .int 0, .int 0, .int 0, .int 0, .int 0])]) rfl rfl ?_
  refine Ea.aload_n (pc := 14) (i := 0) dR_init_14 rfl rfl ?_
  refine Ea.iconst (pc := 15) (v := 0) dR_init_15 (by decide) ?_
  refine Ea.putfield (pc := 16) (q := 29) hg .int dR_init_16 fl_R_18 ⟨RR, FR, 7, tR, rfl, tR_ok, nR_ok, rfl, by decide +kernel⟩ rfl rfl rfl (Nat.le_of_ble_eq_true rfl) ?_
  refine Ea.to (S' := []) (w' := [x0, x1, x2, x3, x4, x5, x6, x7, x8, x9, x10, x11, x12, x13, x14, x15, x16, x17, x18, x19, x20, x21, x22, x23, x24, x25, x26, x27, x28, .inr (5, [.null, .null, .int 0, .int 0, .int 0, .int 0, .int 0])]) rfl rfl ?_
  refine Ea.aload_n (pc := 19) (i := 0) dR_init_19 rfl rfl ?_
  refine Ea.iconst (pc := 20) (v := 0) dR_init_20 (by decide) ?_
  refine Ea.putfield (pc := 21) (q := 29) hg .int dR_init_21 fl_R_21 ⟨RR, FR, 7, tR, rfl, tR_ok, nR_ok, rfl, by decide +kernel⟩ rfl rfl rfl (Nat.le_of_ble_eq_true rfl) ?_
  refine Ea.to (S' := []) (w' := [x0, x1, x2, x3, x4, x5, x6, x7, x8, x9, x10, x11, x12, x13, x14, x15, x16, x17, x18, x19, x20, x21, x22, x23, x24, x25, x26, x27, x28, .inr (5, [.null, .null, .int 0, .int 0, .int 0, .int 0, .int 0])]) rfl rfl ?_
  refine Ea.aload_n (pc := 24) (i := 0) dR_init_24 rfl rfl ?_
  refine Ea.iconst (pc := 25) (v := (-1)) dR_init_25 (by decide) ?_
  refine Ea.putfield (pc := 26) (q := 29) hg .int dR_init_26 fl_R_24 ⟨RR, FR, 7, tR, rfl, tR_ok, nR_ok, rfl, by decide +kernel⟩ rfl rfl rfl (Nat.le_of_ble_eq_true rfl) ?_
  refine Ea.to (S' := []) (w' := [x0, x1, x2, x3, x4, x5, x6, x7, x8, x9, x10, x11, x12, x13, x14, x15, x16, x17, x18, x19, x20, x21, x22, x23, x24, x25, x26, x27, x28, .inr (5, [.null, .null, .int 0, .int 0, .int 0, .int 0, .int (-1)])]) rfl rfl ?_
  refine Ea.aload_n (pc := 29) (i := 0) dR_init_29 rfl rfl ?_
  refine Ea.aload_n (pc := 30) (i := 1) dR_init_30 rfl rfl ?_
  refine Ea.putfin (pc := 31) (q := 29) hg (.object "TurnedBar$Blank") rfl dR_init_31 fl_R_27 ⟨RR, FR, 7, tR, rfl, tR_ok, nR_ok, rfl, rfl, by decide +kernel⟩ rfl rfl rfl (Nat.le_of_ble_eq_true rfl) ?_
  refine Ea.to (S' := []) (w' := [x0, x1, x2, x3, x4, x5, x6, x7, x8, x9, x10, x11, x12, x13, x14, x15, x16, x17, x18, x19, x20, x21, x22, x23, x24, x25, x26, x27, x28, .inr (5, [.ref (cxa G 1), .null, .int 0, .int 0, .int 0, .int 0, .int (-1)])]) rfl rfl ?_
  refine Ea.aload_n (pc := 34) (i := 0) dR_init_34 rfl rfl ?_
  refine Ea.aload_n (pc := 35) (i := 2) dR_init_35 rfl rfl ?_
  refine Ea.putfin (pc := 36) (q := 29) hg (.object "TurnedBar$Job") rfl dR_init_36 fl_R_31 ⟨RR, FR, 7, tR, rfl, tR_ok, nR_ok, rfl, rfl, by decide +kernel⟩ rfl rfl rfl (Nat.le_of_ble_eq_true rfl) ?_
  refine Ea.to (S' := []) (w' := [x0, x1, x2, x3, x4, x5, x6, x7, x8, x9, x10, x11, x12, x13, x14, x15, x16, x17, x18, x19, x20, x21, x22, x23, x24, x25, x26, x27, x28, .inr (5, [.ref (cxa G 1), .ref (cxa G 13), .int 0, .int 0, .int 0, .int 0, .int (-1)])]) rfl rfl ?_
  exact Ea.vret dR_init_39 rfl rfl
end Ct
