/-! the smallest methods -/
theorem cellB_iff {z r : Int32} : cellB z r = true ↔ 0 ≤ z.toInt ∧ z.toInt < 12 ∧ 0 ≤ r.toInt ∧ r.toInt < 8 := by
  simp [cellB, and_assoc]
theorem posB_iff {z r : Int32} : posB z r = true ↔ -4 ≤ z.toInt ∧ z.toInt < 16 ∧ 0 ≤ r.toInt ∧ r.toInt < 16 := by
  simp [posB, and_assoc]
def insB (i : Int32) : Bool := decide (0 ≤ i.toInt) && decide (i.toInt < 3)
theorem insB_iff {i : Int32} : insB i = true ↔ 0 ≤ i.toInt ∧ i.toInt < 3 := by simp [insB]
theorem barB_iff {Rd Ln z r : Int32} : barB Rd Ln z r = true ↔ cellB z r = true ∧ z.toInt < Ln.toInt ∧ r.toInt < Rd.toInt := by
  simp [barB, and_assoc]
theorem wasteB_iff {Rd Ln z r : Int32} {sy : Nat → Int32} : wasteB Rd Ln sy z r = true ↔ barB Rd Ln z r = true ∧ (sy z.toInt.toNat).toInt ≤ r.toInt := by
  simp [wasteB]
theorem freeB_iff {C z r : Int32} {sy : Nat → Int32} : freeB C sy z r = true ↔ z.toInt < C.toInt ∧ (z.toInt < 0 ∨ 12 ≤ z.toInt ∨ (sy z.toInt.toNat).toInt ≤ r.toInt) := by
  simp [freeB, or_assoc]
section Leaf
variable {G : cx_G} {w : List va_E} {v : Nat → Nat → Int32} {b : Nat → Nat → Bool}
set_option maxHeartbeats 4000000 in
set_option maxRecDepth 100000 in
theorem ct_T_isCell (z r : Int32) : Ct G mT_isCell [.int z, .int r] w (fun x w' => w' = w ∧ x = some (.int (bI (cellB z r)))) := by
  refine Ct.of (by decide) rfl rfl (Nat.le_of_ble_eq_true rfl) ?_
  refine Ev.iload_n (pc := 0) (i := 0) dT_isCell_0 rfl rfl ?_
  refine Ev.cif_lt (rfl) (pc := 1) (tgt := 24) dT_isCell_1 rfl (fun h1 => ?_) (fun h1 => ?_)
  · refine Ev.iconst (pc := 24) (v := 0) dT_isCell_24 (by decide) ?_
    exact Ev.zreturn (b := false) dT_isCell_25 rfl (⟨rfl, ret_f (bf (by rw [cellB_iff]; omega))⟩)
  refine Ev.iload_n (pc := 4) (i := 0) dT_isCell_4 rfl rfl ?_
  refine Ev.bipush (pc := 5) (v := 12) dT_isCell_5 (by decide) ?_
  refine Ev.cicmp_ge (rfl) ((show (12 : Int32).toInt = 12 from by decide)) (pc := 7) (tgt := 24) dT_isCell_7 rfl (fun h2 => ?_) (fun h2 => ?_)
  · refine Ev.iconst (pc := 24) (v := 0) dT_isCell_24 (by decide) ?_
    exact Ev.zreturn (b := false) dT_isCell_25 rfl (⟨rfl, ret_f (bf (by rw [cellB_iff]; omega))⟩)
  refine Ev.iload_n (pc := 10) (i := 1) dT_isCell_10 rfl rfl ?_
  refine Ev.cif_lt (rfl) (pc := 11) (tgt := 24) dT_isCell_11 rfl (fun h3 => ?_) (fun h3 => ?_)
  · refine Ev.iconst (pc := 24) (v := 0) dT_isCell_24 (by decide) ?_
    exact Ev.zreturn (b := false) dT_isCell_25 rfl (⟨rfl, ret_f (bf (by rw [cellB_iff]; omega))⟩)
  refine Ev.iload_n (pc := 14) (i := 1) dT_isCell_14 rfl rfl ?_
  refine Ev.bipush (pc := 15) (v := 8) dT_isCell_15 (by decide) ?_
  refine Ev.cicmp_ge (rfl) ((show (8 : Int32).toInt = 8 from by decide)) (pc := 17) (tgt := 24) dT_isCell_17 rfl (fun h4 => ?_) (fun h4 => ?_)
  · refine Ev.iconst (pc := 24) (v := 0) dT_isCell_24 (by decide) ?_
    exact Ev.zreturn (b := false) dT_isCell_25 rfl (⟨rfl, ret_f (bf (by rw [cellB_iff]; omega))⟩)
  refine Ev.iconst (pc := 20) (v := 1) dT_isCell_20 (by decide) ?_
  refine Ev.goto (pc := 21) (tgt := 25) dT_isCell_21 rfl ?_
  exact Ev.zreturn (b := true) dT_isCell_25 rfl (⟨rfl, ret_t (by rw [cellB_iff]; omega)⟩)
set_option maxHeartbeats 4000000 in
set_option maxRecDepth 100000 in
theorem ct_T_isPosition (z r : Int32) : Ct G mT_isPosition [.int z, .int r] w (fun x w' => w' = w ∧ x = some (.int (bI (posB z r)))) := by
  refine Ct.of (by decide) rfl rfl (Nat.le_of_ble_eq_true rfl) ?_
  refine Ev.iload_n (pc := 0) (i := 0) dT_isPosition_0 rfl rfl ?_
  refine Ev.bipush (pc := 1) (v := (-4)) dT_isPosition_1 (by decide) ?_
  refine Ev.cicmp_lt (rfl) ((show (-4 : Int32).toInt = -4 from by decide)) (pc := 3) (tgt := 26) dT_isPosition_3 rfl (fun h1 => ?_) (fun h1 => ?_)
  · refine Ev.iconst (pc := 26) (v := 0) dT_isPosition_26 (by decide) ?_
    exact Ev.zreturn (b := false) dT_isPosition_27 rfl (⟨rfl, ret_f (bf (by rw [posB_iff]; omega))⟩)
  refine Ev.iload_n (pc := 6) (i := 0) dT_isPosition_6 rfl rfl ?_
  refine Ev.bipush (pc := 7) (v := 16) dT_isPosition_7 (by decide) ?_
  refine Ev.cicmp_ge (rfl) ((show (16 : Int32).toInt = 16 from by decide)) (pc := 9) (tgt := 26) dT_isPosition_9 rfl (fun h2 => ?_) (fun h2 => ?_)
  · refine Ev.iconst (pc := 26) (v := 0) dT_isPosition_26 (by decide) ?_
    exact Ev.zreturn (b := false) dT_isPosition_27 rfl (⟨rfl, ret_f (bf (by rw [posB_iff]; omega))⟩)
  refine Ev.iload_n (pc := 12) (i := 1) dT_isPosition_12 rfl rfl ?_
  refine Ev.cif_lt (rfl) (pc := 13) (tgt := 26) dT_isPosition_13 rfl (fun h3 => ?_) (fun h3 => ?_)
  · refine Ev.iconst (pc := 26) (v := 0) dT_isPosition_26 (by decide) ?_
    exact Ev.zreturn (b := false) dT_isPosition_27 rfl (⟨rfl, ret_f (bf (by rw [posB_iff]; omega))⟩)
  refine Ev.iload_n (pc := 16) (i := 1) dT_isPosition_16 rfl rfl ?_
  refine Ev.bipush (pc := 17) (v := 16) dT_isPosition_17 (by decide) ?_
  refine Ev.cicmp_ge (rfl) ((show (16 : Int32).toInt = 16 from by decide)) (pc := 19) (tgt := 26) dT_isPosition_19 rfl (fun h4 => ?_) (fun h4 => ?_)
  · refine Ev.iconst (pc := 26) (v := 0) dT_isPosition_26 (by decide) ?_
    exact Ev.zreturn (b := false) dT_isPosition_27 rfl (⟨rfl, ret_f (bf (by rw [posB_iff]; omega))⟩)
  refine Ev.iconst (pc := 22) (v := 1) dT_isPosition_22 (by decide) ?_
  refine Ev.goto (pc := 23) (tgt := 27) dT_isPosition_23 rfl ?_
  exact Ev.zreturn (b := true) dT_isPosition_27 rfl (⟨rfl, ret_t (by rw [posB_iff]; omega)⟩)
set_option maxHeartbeats 4000000 in
set_option maxRecDepth 100000 in
theorem ct_T_isInsert (i : Int32) : Ct G mT_isInsert [.int i] w (fun x w' => w' = w ∧ x = some (.int (bI (insB i)))) := by
  refine Ct.of (by decide) rfl rfl (Nat.le_of_ble_eq_true rfl) ?_
  refine Ev.iload_n (pc := 0) (i := 0) dT_isInsert_0 rfl rfl ?_
  refine Ev.cif_lt (rfl) (pc := 1) (tgt := 13) dT_isInsert_1 rfl (fun h1 => ?_) (fun h1 => ?_)
  · refine Ev.iconst (pc := 13) (v := 0) dT_isInsert_13 (by decide) ?_
    exact Ev.zreturn (b := false) dT_isInsert_14 rfl (⟨rfl, ret_f (bf (by rw [insB_iff]; omega))⟩)
  refine Ev.iload_n (pc := 4) (i := 0) dT_isInsert_4 rfl rfl ?_
  refine Ev.iconst (pc := 5) (v := 3) dT_isInsert_5 (by decide) ?_
  refine Ev.cicmp_ge (rfl) ((show (3 : Int32).toInt = 3 from by decide)) (pc := 6) (tgt := 13) dT_isInsert_6 rfl (fun h2 => ?_) (fun h2 => ?_)
  · refine Ev.iconst (pc := 13) (v := 0) dT_isInsert_13 (by decide) ?_
    exact Ev.zreturn (b := false) dT_isInsert_14 rfl (⟨rfl, ret_f (bf (by rw [insB_iff]; omega))⟩)
  refine Ev.iconst (pc := 9) (v := 1) dT_isInsert_9 (by decide) ?_
  refine Ev.goto (pc := 10) (tgt := 14) dT_isInsert_10 rfl ?_
  exact Ev.zreturn (b := true) dT_isInsert_14 rfl (⟨rfl, ret_t (by rw [insB_iff]; omega)⟩)
set_option maxHeartbeats 4000000 in
set_option maxRecDepth 100000 in
theorem ct_T_positionOf (z r : Int32) : Ct G mT_positionOf [.int z, .int r] w (fun x w' => w' = w ∧ x = some (.int ((z - (-4)) * 16 + r))) := by
  refine Ct.of (by decide) rfl rfl (Nat.le_of_ble_eq_true rfl) ?_
  refine Ev.iload_n (pc := 0) (i := 0) dT_positionOf_0 rfl rfl ?_
  refine Ev.bipush (pc := 1) (v := (-4)) dT_positionOf_1 (by decide) ?_
  refine Ev.isub (pc := 3) dT_positionOf_3 ?_
  refine Ev.bipush (pc := 4) (v := 16) dT_positionOf_4 (by decide) ?_
  refine Ev.imul (pc := 6) dT_positionOf_6 ?_
  refine Ev.iload_n (pc := 7) (i := 1) dT_positionOf_7 rfl rfl ?_
  refine Ev.iadd (pc := 8) dT_positionOf_8 ?_
  exact Ev.ireturn .int dT_positionOf_9 rfl rfl (⟨rfl, rfl⟩)
theorem zP_cls (p : Nat) (h : p < 320) : nI p / 16 + (-4) = zP p := by
  have e : (16 : Int32) = nI 16 := by decide
  have h4 : (-4 : Int32).toInt = -4 := by decide
  have h5 : (nI (p / 16)).toInt = ((p / 16 : Nat) : Int) := nI_toInt (by omega)
  rw [e, pk_div (by omega) (by decide) (by decide)]
  exact Int32.toInt_inj.mp (by rw [i3_add (by omega) (by omega) (by omega) (by omega), zP_toInt h]; omega)
theorem rP_cls (p : Nat) (h : p < 320) : nI p - nI p / 16 * 16 = rP p := by
  have e : (16 : Int32) = nI 16 := by decide
  rw [e, pk_rem (by omega) (by decide) (by decide)]
  rfl
set_option maxHeartbeats 4000000 in
set_option maxRecDepth 100000 in
theorem ct_T_zOf (p : Nat) (h : p < 320) : Ct G mT_zOf [.int (nI p)] w (fun x w' => w' = w ∧ x = some (.int (zP p))) := by
  refine Ct.of (by decide) rfl rfl (Nat.le_of_ble_eq_true rfl) ?_
  refine Ev.iload_n (pc := 0) (i := 0) dT_zOf_0 rfl rfl ?_
  refine Ev.bipush (pc := 1) (v := 16) dT_zOf_1 (by decide) ?_
  refine Ev.idiv (pc := 3) dT_zOf_3 (by decide) ?_
  refine Ev.bipush (pc := 4) (v := (-4)) dT_zOf_4 (by decide) ?_
  refine Ev.iadd (pc := 6) dT_zOf_6 ?_
  exact Ev.ireturn .int dT_zOf_7 rfl rfl (⟨rfl, by rw [zP_cls p h]⟩)
set_option maxHeartbeats 4000000 in
set_option maxRecDepth 100000 in
theorem ct_T_rOf (p : Nat) (h : p < 320) : Ct G mT_rOf [.int (nI p)] w (fun x w' => w' = w ∧ x = some (.int (rP p))) := by
  refine Ct.of (by decide) rfl rfl (Nat.le_of_ble_eq_true rfl) ?_
  refine Ev.iload_n (pc := 0) (i := 0) dT_rOf_0 rfl rfl ?_
  refine Ev.bipush (pc := 1) (v := 16) dT_rOf_1 (by decide) ?_
  refine Ev.irem (pc := 3) dT_rOf_3 (by decide) ?_
  exact Ev.ireturn .int dT_rOf_4 rfl rfl (⟨rfl, by rw [rP_cls p h]⟩)
set_option maxHeartbeats 4000000 in
set_option maxRecDepth 100000 in
theorem ct_B_isOfBar {rd ln ch : Int32} (hw : w[1]? = some (.inr (0, [.int rd, .int ln, .int ch, .ref (cxa G 2)]))) (z r : Int32) : Ct G mB_isOfBar [.ref (cxa G 1), .int z, .int r] w (fun x w' => w' = w ∧ x = some (.int (bI (barB rd ln z r)))) := by
  refine Ct.of (by decide) rfl rfl (Nat.le_of_ble_eq_true rfl) ?_
  refine Ev.iload_n (pc := 0) (i := 1) dB_isOfBar_0 rfl rfl ?_
  refine Ev.iload_n (pc := 1) (i := 2) dB_isOfBar_1 rfl rfl ?_
  refine Ev.callN (pc := 2) dB_isOfBar_2 kn_B_25 ⟨Nat.le_of_ble_eq_true rfl, Nat.le_of_ble_eq_true rfl⟩ (ct_T_isCell z r) rfl rfl (Nat.le_of_ble_eq_true rfl) ?_
  rintro _ _ ⟨rfl, rfl⟩
  refine Ev.if_eqB (pc := 5) (tgt := 28) dB_isOfBar_5 rfl (fun h1 => ?_) (fun h1 => ?_)
  · refine Ev.iconst (pc := 28) (v := 0) dB_isOfBar_28 (by decide) ?_
    exact Ev.zreturn (b := false) dB_isOfBar_29 rfl (⟨rfl, ret_f (bf (by rw [barB_iff]; rintro ⟨q1, q2, q3⟩; first | (rw [h1] at q1; cases q1; done) | omega))⟩)
  refine Ev.iload_n (pc := 8) (i := 1) dB_isOfBar_8 rfl rfl ?_
  refine Ev.aload_n (pc := 9) (i := 0) dB_isOfBar_9 rfl rfl ?_
  refine Ev.getfield (pc := 10) dB_isOfBar_10 fl_B_15 (hw) rfl ?_
  refine Ev.cicmp_ge (rfl) (rfl) (pc := 13) (tgt := 28) dB_isOfBar_13 rfl (fun h2 => ?_) (fun h2 => ?_)
  · refine Ev.iconst (pc := 28) (v := 0) dB_isOfBar_28 (by decide) ?_
    exact Ev.zreturn (b := false) dB_isOfBar_29 rfl (⟨rfl, ret_f (bf (by rw [barB_iff]; rintro ⟨q1, q2, q3⟩; first | (rw [h1] at q1; cases q1; done) | omega))⟩)
  refine Ev.iload_n (pc := 16) (i := 2) dB_isOfBar_16 rfl rfl ?_
  refine Ev.aload_n (pc := 17) (i := 0) dB_isOfBar_17 rfl rfl ?_
  refine Ev.getfield (pc := 18) dB_isOfBar_18 fl_B_9 (hw) rfl ?_
  refine Ev.cicmp_ge (rfl) (rfl) (pc := 21) (tgt := 28) dB_isOfBar_21 rfl (fun h3 => ?_) (fun h3 => ?_)
  · refine Ev.iconst (pc := 28) (v := 0) dB_isOfBar_28 (by decide) ?_
    exact Ev.zreturn (b := false) dB_isOfBar_29 rfl (⟨rfl, ret_f (bf (by rw [barB_iff]; rintro ⟨q1, q2, q3⟩; first | (rw [h1] at q1; cases q1; done) | omega))⟩)
  refine Ev.iconst (pc := 24) (v := 1) dB_isOfBar_24 (by decide) ?_
  refine Ev.goto (pc := 25) (tgt := 29) dB_isOfBar_25 rfl ?_
  exact Ev.zreturn (b := true) dB_isOfBar_29 rfl (⟨rfl, ret_t (by rw [barB_iff]; exact ⟨h1, by omega, by omega⟩)⟩)
set_option maxHeartbeats 4000000 in
set_option maxRecDepth 100000 in
theorem ct_B_isWaste (z r : Int32) : Ct G mB_isWaste [.ref (cxa G 1), .int z, .int r] (wl G v b) (fun x w' => w' = wl G v b ∧ x = some (.int (bI (wasteB (v 1 0) (v 1 1) (v 2) z r)))) := by
  refine Ct.of (by decide) rfl rfl (Nat.le_of_ble_eq_true rfl) ?_
  refine Ev.aload_n (pc := 0) (i := 0) dB_isWaste_0 rfl rfl ?_
  refine Ev.iload_n (pc := 1) (i := 1) dB_isWaste_1 rfl rfl ?_
  refine Ev.iload_n (pc := 2) (i := 2) dB_isWaste_2 rfl rfl ?_
  refine Ev.callV (pc := 3) dB_isWaste_3 kv_B_29 ⟨Nat.le_of_ble_eq_true rfl, Nat.le_of_ble_eq_true rfl⟩ (wl_at (by decide) rfl) rfl rfl (ct_B_isOfBar (wl_at (by decide) rfl) z r) rfl rfl (Nat.le_of_ble_eq_true rfl) ?_
  rintro _ _ ⟨rfl, rfl⟩
  refine Ev.if_eqB (pc := 6) (tgt := 23) dB_isWaste_6 rfl (fun h1 => ?_) (fun h1 => ?_)
  · refine Ev.iconst (pc := 23) (v := 0) dB_isWaste_23 (by decide) ?_
    exact Ev.zreturn (b := false) dB_isWaste_24 rfl (⟨rfl, ret_f (bf (by rw [wasteB_iff, h1]; simp))⟩)
  have hz := (cellB_iff.mp (barB_iff.mp h1).1)
  refine Ev.iload_n (pc := 9) (i := 2) dB_isWaste_9 rfl rfl ?_
  refine Ev.aload_n (pc := 10) (i := 0) dB_isWaste_10 rfl rfl ?_
  refine Ev.gf (pc := 11) dB_isWaste_11 fl_B_21 (by omega) (rfl) rfl ?_
  refine Ev.iload_n (pc := 14) (i := 1) dB_isWaste_14 rfl rfl ?_
  refine Ev.aldx (pc := 15) dB_isWaste_15 (by omega) (by first | exact fun _ _ => rfl | exact cell_dz hj | exact cell_dr hj | exact cell_mr hk | exact cell_sr hk) (by omega) (by omega) (by decide) ?_
  refine Ev.cicmp_lt (rfl) (rfl) (pc := 16) (tgt := 23) dB_isWaste_16 rfl (fun h2 => ?_) (fun h2 => ?_)
  · refine Ev.iconst (pc := 23) (v := 0) dB_isWaste_23 (by decide) ?_
    exact Ev.zreturn (b := false) dB_isWaste_24 rfl (⟨rfl, ret_f (bf (by rw [wasteB_iff]; omega))⟩)
  refine Ev.iconst (pc := 19) (v := 1) dB_isWaste_19 (by decide) ?_
  refine Ev.goto (pc := 20) (tgt := 24) dB_isWaste_20 rfl ?_
  exact Ev.zreturn (b := true) dB_isWaste_24 rfl (⟨rfl, ret_t (by rw [wasteB_iff]; exact ⟨h1, by omega⟩)⟩)
set_option maxHeartbeats 4000000 in
set_option maxRecDepth 100000 in
theorem ct_B_isFreeFromOn (z r : Int32) : Ct G mB_isFreeFromOn [.ref (cxa G 1), .int z, .int r] (wl G v b) (fun x w' => w' = wl G v b ∧ x = some (.int (bI (freeB (v 1 2) (v 2) z r)))) := by
  refine Ct.of (by decide) rfl rfl (Nat.le_of_ble_eq_true rfl) ?_
  refine Ev.iload_n (pc := 0) (i := 1) dB_isFreeFromOn_0 rfl rfl ?_
  refine Ev.aload_n (pc := 1) (i := 0) dB_isFreeFromOn_1 rfl rfl ?_
  refine Ev.gf (pc := 2) dB_isFreeFromOn_2 fl_B_18 (by omega) (rfl) rfl ?_
  refine Ev.cicmp_lt (rfl) (rfl) (pc := 5) (tgt := 10) dB_isFreeFromOn_5 rfl (fun h1 => ?_) (fun h1 => ?_)
  · refine Ev.iload_n (pc := 10) (i := 1) dB_isFreeFromOn_10 rfl rfl ?_
    refine Ev.cif_lt (rfl) (pc := 11) (tgt := 30) dB_isFreeFromOn_11 rfl (fun h2 => ?_) (fun h2 => ?_)
    · refine Ev.iconst (pc := 30) (v := 1) dB_isFreeFromOn_30 (by decide) ?_
      refine Ev.goto (pc := 31) (tgt := 35) dB_isFreeFromOn_31 rfl ?_
      exact Ev.zreturn (b := true) dB_isFreeFromOn_35 rfl (⟨rfl, ret_t (by rw [freeB_iff]; omega)⟩)
    refine Ev.iload_n (pc := 14) (i := 1) dB_isFreeFromOn_14 rfl rfl ?_
    refine Ev.bipush (pc := 15) (v := 12) dB_isFreeFromOn_15 (by decide) ?_
    refine Ev.cicmp_ge (rfl) ((show (12 : Int32).toInt = 12 from by decide)) (pc := 17) (tgt := 30) dB_isFreeFromOn_17 rfl (fun h3 => ?_) (fun h3 => ?_)
    · refine Ev.iconst (pc := 30) (v := 1) dB_isFreeFromOn_30 (by decide) ?_
      refine Ev.goto (pc := 31) (tgt := 35) dB_isFreeFromOn_31 rfl ?_
      exact Ev.zreturn (b := true) dB_isFreeFromOn_35 rfl (⟨rfl, ret_t (by rw [freeB_iff]; omega)⟩)
    refine Ev.iload_n (pc := 20) (i := 2) dB_isFreeFromOn_20 rfl rfl ?_
    refine Ev.aload_n (pc := 21) (i := 0) dB_isFreeFromOn_21 rfl rfl ?_
    refine Ev.gf (pc := 22) dB_isFreeFromOn_22 fl_B_21 (by omega) (rfl) rfl ?_
    refine Ev.iload_n (pc := 25) (i := 1) dB_isFreeFromOn_25 rfl rfl ?_
    refine Ev.aldx (pc := 26) dB_isFreeFromOn_26 (by omega) (by first | exact fun _ _ => rfl | exact cell_dz hj | exact cell_dr hj | exact cell_mr hk | exact cell_sr hk) (by omega) (by omega) (by decide) ?_
    refine Ev.cicmp_lt (rfl) (rfl) (pc := 27) (tgt := 34) dB_isFreeFromOn_27 rfl (fun h4 => ?_) (fun h4 => ?_)
    · refine Ev.iconst (pc := 34) (v := 0) dB_isFreeFromOn_34 (by decide) ?_
      exact Ev.zreturn (b := false) dB_isFreeFromOn_35 rfl (⟨rfl, ret_f (bf (by rw [freeB_iff]; omega))⟩)
    refine Ev.iconst (pc := 30) (v := 1) dB_isFreeFromOn_30 (by decide) ?_
    refine Ev.goto (pc := 31) (tgt := 35) dB_isFreeFromOn_31 rfl ?_
    exact Ev.zreturn (b := true) dB_isFreeFromOn_35 rfl (⟨rfl, ret_t (by rw [freeB_iff]; omega)⟩)
  refine Ev.iconst (pc := 8) (v := 0) dB_isFreeFromOn_8 (by decide) ?_
  exact Ev.zreturn (b := false) dB_isFreeFromOn_9 rfl (⟨rfl, ret_f (bf (by rw [freeB_iff]; omega))⟩)
end Leaf
