/-! The reference: its smallest methods -/
def nxI (p d : Nat) : Int32 := match nxt p d with
  | some q => nI q
  | none => -1
/-- insert j of the reference is I; the bar's chuck and profile are C and sy -/
def mi (v : Nat → Nat → Int32) (j : Nat) (I : Ins) : Prop := v 32 j = nI I.1 ∧ I.1 ≤ 8 ∧ ∀ i, i < I.1 → v 33 (8 * j + i) = I.2.1 i ∧ v 34 (8 * j + i) = I.2.2 i
def mb (v : Nat → Nat → Int32) (C : Int32) (sy : Nat → Int32) : Prop := v 30 2 = C ∧ ∀ z, z < 12 → v 31 z = sy z
theorem m8 (j : Nat) : (8 : Int32) * nI j = nI (8 * j) := by
  rw [show (8 : Int32) = nI 8 by decide, pk_mul]
theorem num_i {z r : Int32} (h : posB z r = true) : (16 : Int32) * (z + 4) + r = nI (pnum z r) := by
  obtain ⟨-, -, -, h4⟩ := posB_nat h
  rw [← h4]
  have e : z - (-4) = z + 4 := by rw [Int32.sub_eq_add_neg]; rfl
  rw [e, Int32.mul_comm]
section Md
variable {G : cx_G} {w : List va_E} {v : Nat → Nat → Int32} {b : Nat → Nat → Bool}
set_option maxHeartbeats 4000000 in
set_option maxRecDepth 100000 in
theorem ct_D_drop : Ct G mD_drop [.ref (cxa G 30)] (wl G v b) (fun x w' => w' = wl G (sv v 30 10 0) (sb (sb b 30 9 false) 30 18 false) ∧ x = none) := by
  refine Ct.of (by decide) rfl rfl (Nat.le_of_ble_eq_true rfl) ?_
  refine Ev.aload_n (pc := 0) (i := 0) dD_drop_0 rfl rfl ?_
  refine Ev.iconst (pc := 1) (v := 0) dD_drop_1 (by decide) ?_
  refine Ev.putb (pc := 2) (x := false) dD_drop_2 fl_D_69 fp_D_planned (by omega) (rfl) rfl (Nat.le_of_ble_eq_true rfl) ?_
  refine Ev.aload_n (pc := 5) (i := 0) dD_drop_5 rfl rfl ?_
  refine Ev.iconst (pc := 6) (v := 0) dD_drop_6 (by decide) ?_
  refine Ev.putb (pc := 7) (x := false) dD_drop_7 fl_D_73 fp_D_simulated (by omega) (rfl) rfl (Nat.le_of_ble_eq_true rfl) ?_
  refine Ev.aload_n (pc := 10) (i := 0) dD_drop_10 rfl rfl ?_
  refine Ev.iconst (pc := 11) (v := 0) dD_drop_11 (by decide) ?_
  refine Ev.puti (pc := 12) dD_drop_12 fl_D_76 fp_D_moves (by omega) (rfl) rfl (Nat.le_of_ble_eq_true rfl) ?_
  exact Ev.vreturn dD_drop_15 rfl ⟨rfl, rfl⟩
set_option maxHeartbeats 4000000 in
set_option maxRecDepth 100000 in
theorem ct_D_isCell (z r : Int32) : Ct G mD_isCell [.int z, .int r] w (fun x w' => w' = w ∧ x = some (.int (bI (cellB z r)))) := by
  refine Ct.of (by decide) rfl rfl (Nat.le_of_ble_eq_true rfl) ?_
  refine Ev.iload_n (pc := 0) (i := 0) dD_isCell_0 rfl rfl ?_
  refine Ev.cif_lt (rfl) (pc := 1) (tgt := 24) dD_isCell_1 rfl (fun h1 => ?_) (fun h1 => ?_)
  · refine Ev.iconst (pc := 24) (v := 0) dD_isCell_24 (by decide) ?_
    exact Ev.zreturn (b := false) dD_isCell_25 rfl (⟨rfl, ret_f (bf (by rw [cellB_iff]; omega))⟩)
  refine Ev.iload_n (pc := 4) (i := 0) dD_isCell_4 rfl rfl ?_
  refine Ev.bipush (pc := 5) (v := 12) dD_isCell_5 (by decide) ?_
  refine Ev.cicmp_ge (rfl) ((show (12 : Int32).toInt = 12 from by decide)) (pc := 7) (tgt := 24) dD_isCell_7 rfl (fun h2 => ?_) (fun h2 => ?_)
  · refine Ev.iconst (pc := 24) (v := 0) dD_isCell_24 (by decide) ?_
    exact Ev.zreturn (b := false) dD_isCell_25 rfl (⟨rfl, ret_f (bf (by rw [cellB_iff]; omega))⟩)
  refine Ev.iload_n (pc := 10) (i := 1) dD_isCell_10 rfl rfl ?_
  refine Ev.cif_lt (rfl) (pc := 11) (tgt := 24) dD_isCell_11 rfl (fun h3 => ?_) (fun h3 => ?_)
  · refine Ev.iconst (pc := 24) (v := 0) dD_isCell_24 (by decide) ?_
    exact Ev.zreturn (b := false) dD_isCell_25 rfl (⟨rfl, ret_f (bf (by rw [cellB_iff]; omega))⟩)
  refine Ev.iload_n (pc := 14) (i := 1) dD_isCell_14 rfl rfl ?_
  refine Ev.bipush (pc := 15) (v := 8) dD_isCell_15 (by decide) ?_
  refine Ev.cicmp_ge (rfl) ((show (8 : Int32).toInt = 8 from by decide)) (pc := 17) (tgt := 24) dD_isCell_17 rfl (fun h4 => ?_) (fun h4 => ?_)
  · refine Ev.iconst (pc := 24) (v := 0) dD_isCell_24 (by decide) ?_
    exact Ev.zreturn (b := false) dD_isCell_25 rfl (⟨rfl, ret_f (bf (by rw [cellB_iff]; omega))⟩)
  refine Ev.iconst (pc := 20) (v := 1) dD_isCell_20 (by decide) ?_
  refine Ev.goto (pc := 21) (tgt := 25) dD_isCell_21 rfl ?_
  exact Ev.zreturn (b := true) dD_isCell_25 rfl (⟨rfl, ret_t (by rw [cellB_iff]; omega)⟩)
set_option maxHeartbeats 4000000 in
set_option maxRecDepth 100000 in
theorem ct_D_isPosition (z r : Int32) : Ct G mD_isPosition [.int z, .int r] w (fun x w' => w' = w ∧ x = some (.int (bI (posB z r)))) := by
  refine Ct.of (by decide) rfl rfl (Nat.le_of_ble_eq_true rfl) ?_
  refine Ev.iload_n (pc := 0) (i := 0) dD_isPosition_0 rfl rfl ?_
  refine Ev.bipush (pc := 1) (v := (-4)) dD_isPosition_1 (by decide) ?_
  refine Ev.cicmp_lt (rfl) ((show (-4 : Int32).toInt = -4 from by decide)) (pc := 3) (tgt := 26) dD_isPosition_3 rfl (fun h1 => ?_) (fun h1 => ?_)
  · refine Ev.iconst (pc := 26) (v := 0) dD_isPosition_26 (by decide) ?_
    exact Ev.zreturn (b := false) dD_isPosition_27 rfl (⟨rfl, ret_f (bf (by rw [posB_iff]; omega))⟩)
  refine Ev.iload_n (pc := 6) (i := 0) dD_isPosition_6 rfl rfl ?_
  refine Ev.bipush (pc := 7) (v := 15) dD_isPosition_7 (by decide) ?_
  refine Ev.cicmp_gt (rfl) ((show (15 : Int32).toInt = 15 from by decide)) (pc := 9) (tgt := 26) dD_isPosition_9 rfl (fun h2 => ?_) (fun h2 => ?_)
  · refine Ev.iconst (pc := 26) (v := 0) dD_isPosition_26 (by decide) ?_
    exact Ev.zreturn (b := false) dD_isPosition_27 rfl (⟨rfl, ret_f (bf (by rw [posB_iff]; omega))⟩)
  refine Ev.iload_n (pc := 12) (i := 1) dD_isPosition_12 rfl rfl ?_
  refine Ev.cif_lt (rfl) (pc := 13) (tgt := 26) dD_isPosition_13 rfl (fun h3 => ?_) (fun h3 => ?_)
  · refine Ev.iconst (pc := 26) (v := 0) dD_isPosition_26 (by decide) ?_
    exact Ev.zreturn (b := false) dD_isPosition_27 rfl (⟨rfl, ret_f (bf (by rw [posB_iff]; omega))⟩)
  refine Ev.iload_n (pc := 16) (i := 1) dD_isPosition_16 rfl rfl ?_
  refine Ev.bipush (pc := 17) (v := 15) dD_isPosition_17 (by decide) ?_
  refine Ev.cicmp_gt (rfl) ((show (15 : Int32).toInt = 15 from by decide)) (pc := 19) (tgt := 26) dD_isPosition_19 rfl (fun h4 => ?_) (fun h4 => ?_)
  · refine Ev.iconst (pc := 26) (v := 0) dD_isPosition_26 (by decide) ?_
    exact Ev.zreturn (b := false) dD_isPosition_27 rfl (⟨rfl, ret_f (bf (by rw [posB_iff]; omega))⟩)
  refine Ev.iconst (pc := 22) (v := 1) dD_isPosition_22 (by decide) ?_
  refine Ev.goto (pc := 23) (tgt := 27) dD_isPosition_23 rfl ?_
  exact Ev.zreturn (b := true) dD_isPosition_27 rfl (⟨rfl, ret_t (by rw [posB_iff]; omega)⟩)
set_option maxHeartbeats 4000000 in
set_option maxRecDepth 100000 in
theorem ct_D_isInsert (i : Int32) : Ct G mD_isInsert [.int i] w (fun x w' => w' = w ∧ x = some (.int (bI (insB i)))) := by
  refine Ct.of (by decide) rfl rfl (Nat.le_of_ble_eq_true rfl) ?_
  refine Ev.iload_n (pc := 0) (i := 0) dD_isInsert_0 rfl rfl ?_
  refine Ev.cif_lt (rfl) (pc := 1) (tgt := 13) dD_isInsert_1 rfl (fun h1 => ?_) (fun h1 => ?_)
  · refine Ev.iconst (pc := 13) (v := 0) dD_isInsert_13 (by decide) ?_
    exact Ev.zreturn (b := false) dD_isInsert_14 rfl (⟨rfl, ret_f (bf (by rw [insB_iff]; omega))⟩)
  refine Ev.iload_n (pc := 4) (i := 0) dD_isInsert_4 rfl rfl ?_
  refine Ev.iconst (pc := 5) (v := 3) dD_isInsert_5 (by decide) ?_
  refine Ev.cicmp_ge (rfl) ((show (3 : Int32).toInt = 3 from by decide)) (pc := 6) (tgt := 13) dD_isInsert_6 rfl (fun h2 => ?_) (fun h2 => ?_)
  · refine Ev.iconst (pc := 13) (v := 0) dD_isInsert_13 (by decide) ?_
    exact Ev.zreturn (b := false) dD_isInsert_14 rfl (⟨rfl, ret_f (bf (by rw [insB_iff]; omega))⟩)
  refine Ev.iconst (pc := 9) (v := 1) dD_isInsert_9 (by decide) ?_
  refine Ev.goto (pc := 10) (tgt := 14) dD_isInsert_10 rfl ?_
  exact Ev.zreturn (b := true) dD_isInsert_14 rfl (⟨rfl, ret_t (by rw [insB_iff]; omega)⟩)
set_option maxHeartbeats 4000000 in
set_option maxRecDepth 100000 in
theorem ct_D_number {z r : Int32} (h : posB z r = true) : Ct G mD_number [.int z, .int r] w (fun x w' => w' = w ∧ x = some (.int (nI (pnum z r)))) := by
  refine Ct.of (by decide) rfl rfl (Nat.le_of_ble_eq_true rfl) ?_
  refine Ev.bipush (pc := 0) (v := 16) dD_number_0 (by decide) ?_
  refine Ev.iload_n (pc := 2) (i := 0) dD_number_2 rfl rfl ?_
  refine Ev.iconst (pc := 3) (v := 4) dD_number_3 (by decide) ?_
  refine Ev.iadd (pc := 4) dD_number_4 ?_
  refine Ev.imul (pc := 5) dD_number_5 ?_
  refine Ev.iload_n (pc := 6) (i := 1) dD_number_6 rfl rfl ?_
  refine Ev.iadd (pc := 7) dD_number_7 ?_
  exact Ev.ireturn .int dD_number_8 rfl rfl (⟨rfl, by rw [num_i h]⟩)
theorem zP_mdl (p : Nat) (h : p < 320) : nI p / 16 - 4 = zP p := by
  have e : (16 : Int32) = nI 16 := by decide
  rw [e, pk_div (by omega) (by decide) (by decide)]
  rfl
set_option maxHeartbeats 4000000 in
set_option maxRecDepth 100000 in
theorem ct_D_zOf (p : Nat) (h : p < 320) : Ct G mD_zOf [.int (nI p)] w (fun x w' => w' = w ∧ x = some (.int (zP p))) := by
  refine Ct.of (by decide) rfl rfl (Nat.le_of_ble_eq_true rfl) ?_
  refine Ev.iload_n (pc := 0) (i := 0) dD_zOf_0 rfl rfl ?_
  refine Ev.bipush (pc := 1) (v := 16) dD_zOf_1 (by decide) ?_
  refine Ev.idiv (pc := 3) dD_zOf_3 (by decide) ?_
  refine Ev.iconst (pc := 4) (v := 4) dD_zOf_4 (by decide) ?_
  refine Ev.isub (pc := 5) dD_zOf_5 ?_
  exact Ev.ireturn .int dD_zOf_6 rfl rfl (⟨rfl, by rw [zP_mdl p h]⟩)
set_option maxHeartbeats 4000000 in
set_option maxRecDepth 100000 in
theorem ct_D_rOf (p : Nat) (h : p < 320) : Ct G mD_rOf [.int (nI p)] w (fun x w' => w' = w ∧ x = some (.int (rP p))) := by
  refine Ct.of (by decide) rfl rfl (Nat.le_of_ble_eq_true rfl) ?_
  refine Ev.iload_n (pc := 0) (i := 0) dD_rOf_0 rfl rfl ?_
  refine Ev.bipush (pc := 1) (v := 16) dD_rOf_1 (by decide) ?_
  refine Ev.irem (pc := 3) dD_rOf_3 (by decide) ?_
  exact Ev.ireturn .int dD_rOf_4 rfl rfl (⟨rfl, by rw [rP_cls p h]⟩)
theorem pnum_P {q : Nat} (h : q < 320) : pnum (zP q) (rP q) = q := by
  unfold pnum
  rw [zP_toInt h, rP_toInt]
  omega
set_option maxHeartbeats 4000000 in
set_option maxRecDepth 100000 in
theorem ct_D_next {p d : Nat} (hp : p < 320) (hd : d < 4) : Ct G mD_next [.int (nI p), .int (nI d)] w (fun x w' => w' = w ∧ x = some (.int (nxI p d))) := by
  have hdI : (nI d).toInt = (d : Int) := nI_toInt (by omega)
  have last : Ev G mD_next 47 [some (.int (nI p)), some (.int (nI d)), some (.int (zP p + cx_stp 0 d)), none] [.int (cx_stp 1 d), .int (rP p)] w (cx_e G mD_next (fun x w' => w' = w ∧ x = some (.int (nxI p d)))) := by
    refine Ev.iadd (pc := 47) dD_next_47 ?_
    refine Ev.istore_n (pc := 48) (i := 3) dD_next_48 rfl (Nat.le_of_ble_eq_true rfl) ?_
    refine Ev.iload_n (pc := 49) (i := 2) dD_next_49 rfl rfl ?_
    refine Ev.iload_n (pc := 50) (i := 3) dD_next_50 rfl rfl ?_
    cases hn : nxt p d with
    | none =>
      have e : nxI p d = -1 := by unfold nxI; rw [hn]
      rw [e]
      refine Ev.callS (pc := 51) dD_next_51 ks_D_96 ⟨Nat.le_of_ble_eq_true rfl, Nat.le_of_ble_eq_true rfl⟩ (ct_D_isPosition _ _) rfl rfl (Nat.le_of_ble_eq_true rfl) ?_
      rintro _ _ ⟨rfl, rfl⟩
      refine Ev.if_eqB (pc := 54) (tgt := 65) dD_next_54 rfl (fun h1 => ?_) (fun h1 => ?_)
      · refine Ev.iconst (pc := 65) (v := (-1)) dD_next_65 (by decide) ?_
        exact Ev.ireturn .int dD_next_66 rfl rfl (⟨rfl, rfl⟩)
      · rw [step_none hp hd hn] at h1; cases h1
    | some q =>
      have e : nxI p d = nI q := by unfold nxI; rw [hn]
      obtain ⟨e1, e2, e3⟩ := step_some hn
      rw [e, e1, e2]
      refine Ev.callS (pc := 51) dD_next_51 ks_D_96 ⟨Nat.le_of_ble_eq_true rfl, Nat.le_of_ble_eq_true rfl⟩ (ct_D_isPosition _ _) rfl rfl (Nat.le_of_ble_eq_true rfl) ?_
      rintro _ _ ⟨rfl, rfl⟩
      refine Ev.if_eqB (pc := 54) (tgt := 65) dD_next_54 rfl (fun h1 => ?_) (fun h1 => ?_)
      · rw [e3] at h1; cases h1
      refine Ev.iload_n (pc := 57) (i := 2) dD_next_57 rfl rfl ?_
      refine Ev.iload_n (pc := 58) (i := 3) dD_next_58 rfl rfl ?_
      refine Ev.callS (pc := 59) dD_next_59 ks_D_100 ⟨Nat.le_of_ble_eq_true rfl, Nat.le_of_ble_eq_true rfl⟩ (ct_D_number e3) rfl rfl (Nat.le_of_ble_eq_true rfl) ?_
      rintro _ _ ⟨rfl, rfl⟩
      refine Ev.goto (pc := 62) (tgt := 66) dD_next_62 rfl ?_
      exact Ev.ireturn .int dD_next_66 rfl rfl (⟨rfl, by rw [pnum_P (nxt_lt hn).2.1]⟩)
  have mid : Ev G mD_next 22 [some (.int (nI p)), some (.int (nI d)), none, none] [.int (cx_stp 0 d), .int (zP p)] w (cx_e G mD_next (fun x w' => w' = w ∧ x = some (.int (nxI p d)))) := by
    refine Ev.iadd (pc := 22) dD_next_22 ?_
    refine Ev.istore_n (pc := 23) (i := 2) dD_next_23 rfl (Nat.le_of_ble_eq_true rfl) ?_
    refine Ev.iload_n (pc := 24) (i := 0) dD_next_24 rfl rfl ?_
    refine Ev.callS (pc := 25) dD_next_25 ks_D_93 ⟨Nat.le_of_ble_eq_true rfl, Nat.le_of_ble_eq_true rfl⟩ (ct_D_rOf _ hp) rfl rfl (Nat.le_of_ble_eq_true rfl) ?_
    rintro _ _ ⟨rfl, rfl⟩
    refine Ev.iload_n (pc := 28) (i := 1) dD_next_28 rfl rfl ?_
    refine Ev.iconst (pc := 29) (v := 2) dD_next_29 (by decide) ?_
    refine Ev.cicmp_ne (hdI) ((show (2 : Int32).toInt = 2 from by decide)) (pc := 30) (tgt := 37) dD_next_30 rfl (fun h1 => ?_) (fun h1 => ?_)
    · refine Ev.iload_n (pc := 37) (i := 1) dD_next_37 rfl rfl ?_
      refine Ev.iconst (pc := 38) (v := 3) dD_next_38 (by decide) ?_
      refine Ev.cicmp_ne (hdI) ((show (3 : Int32).toInt = 3 from by decide)) (pc := 39) (tgt := 46) dD_next_39 rfl (fun h2 => ?_) (fun h2 => ?_)
      · refine Ev.iconst (pc := 46) (v := 0) dD_next_46 (by decide) ?_
        refine Ev.topi (y := cx_stp 1 d) (by rcases (by omega : d = 0 ∨ d = 1) with rfl | rfl <;> rfl) ?_
        exact last
      · refine Ev.iconst (pc := 42) (v := 1) dD_next_42 (by decide) ?_
        refine Ev.goto (pc := 43) (tgt := 47) dD_next_43 rfl ?_
        refine Ev.topi (y := cx_stp 1 d) (by rw [show d = 3 by omega]; rfl) ?_
        exact last
    · refine Ev.iconst (pc := 33) (v := (-1)) dD_next_33 (by decide) ?_
      refine Ev.goto (pc := 34) (tgt := 47) dD_next_34 rfl ?_
      refine Ev.topi (y := cx_stp 1 d) (by rw [show d = 2 by omega]; rfl) ?_
      exact last
  refine Ct.of (by decide) rfl rfl (Nat.le_of_ble_eq_true rfl) ?_
  refine Ev.iload_n (pc := 0) (i := 0) dD_next_0 rfl rfl ?_
  refine Ev.callS (pc := 1) dD_next_1 ks_D_89 ⟨Nat.le_of_ble_eq_true rfl, Nat.le_of_ble_eq_true rfl⟩ (ct_D_zOf _ hp) rfl rfl (Nat.le_of_ble_eq_true rfl) ?_
  rintro _ _ ⟨rfl, rfl⟩
  refine Ev.iload_n (pc := 4) (i := 1) dD_next_4 rfl rfl ?_
  refine Ev.cif_ne (hdI) (pc := 5) (tgt := 12) dD_next_5 rfl (fun h1 => ?_) (fun h1 => ?_)
  · refine Ev.iload_n (pc := 12) (i := 1) dD_next_12 rfl rfl ?_
    refine Ev.iconst (pc := 13) (v := 1) dD_next_13 (by decide) ?_
    refine Ev.cicmp_ne (hdI) ((show (1 : Int32).toInt = 1 from by decide)) (pc := 14) (tgt := 21) dD_next_14 rfl (fun h2 => ?_) (fun h2 => ?_)
    · refine Ev.iconst (pc := 21) (v := 0) dD_next_21 (by decide) ?_
      refine Ev.topi (y := cx_stp 0 d) (by rcases (by omega : d = 2 ∨ d = 3) with rfl | rfl <;> rfl) ?_
      exact mid
    · refine Ev.iconst (pc := 17) (v := (-1)) dD_next_17 (by decide) ?_
      refine Ev.goto (pc := 18) (tgt := 22) dD_next_18 rfl ?_
      refine Ev.topi (y := cx_stp 0 d) (by rw [show d = 1 by omega]; rfl) ?_
      exact mid
  · refine Ev.iconst (pc := 8) (v := 1) dD_next_8 (by decide) ?_
    refine Ev.goto (pc := 9) (tgt := 22) dD_next_9 rfl ?_
    refine Ev.topi (y := cx_stp 0 d) (by rw [show d = 0 by omega]; rfl) ?_
    exact mid
set_option maxHeartbeats 4000000 in
set_option maxRecDepth 100000 in
theorem ct_D_isBar (z r : Int32) : Ct G mD_isBar [.ref (cxa G 30), .int z, .int r] (wl G v b) (fun x w' => w' = wl G v b ∧ x = some (.int (bI (barB (v 30 0) (v 30 1) z r)))) := by
  refine Ct.of (by decide) rfl rfl (Nat.le_of_ble_eq_true rfl) ?_
  refine Ev.iload_n (pc := 0) (i := 1) dD_isBar_0 rfl rfl ?_
  refine Ev.iload_n (pc := 1) (i := 2) dD_isBar_1 rfl rfl ?_
  refine Ev.callS (pc := 2) dD_isBar_2 ks_D_104 ⟨Nat.le_of_ble_eq_true rfl, Nat.le_of_ble_eq_true rfl⟩ (ct_D_isCell z r) rfl rfl (Nat.le_of_ble_eq_true rfl) ?_
  rintro _ _ ⟨rfl, rfl⟩
  refine Ev.if_eqB (pc := 5) (tgt := 28) dD_isBar_5 rfl (fun h1 => ?_) (fun h1 => ?_)
  · refine Ev.iconst (pc := 28) (v := 0) dD_isBar_28 (by decide) ?_
    exact Ev.zreturn (b := false) dD_isBar_29 rfl (⟨rfl, ret_f (bf (by rw [barB_iff]; rintro ⟨q1, q2, q3⟩; first | (rw [h1] at q1; cases q1; done) | omega))⟩)
  refine Ev.iload_n (pc := 8) (i := 2) dD_isBar_8 rfl rfl ?_
  refine Ev.aload_n (pc := 9) (i := 0) dD_isBar_9 rfl rfl ?_
  refine Ev.gf (pc := 10) dD_isBar_10 fl_D_7 (by omega) (rfl) rfl ?_
  refine Ev.cicmp_ge (rfl) (rfl) (pc := 13) (tgt := 28) dD_isBar_13 rfl (fun h2 => ?_) (fun h2 => ?_)
  · refine Ev.iconst (pc := 28) (v := 0) dD_isBar_28 (by decide) ?_
    exact Ev.zreturn (b := false) dD_isBar_29 rfl (⟨rfl, ret_f (bf (by rw [barB_iff]; rintro ⟨q1, q2, q3⟩; first | (rw [h1] at q1; cases q1; done) | omega))⟩)
  refine Ev.iload_n (pc := 16) (i := 1) dD_isBar_16 rfl rfl ?_
  refine Ev.aload_n (pc := 17) (i := 0) dD_isBar_17 rfl rfl ?_
  refine Ev.gf (pc := 18) dD_isBar_18 fl_D_13 (by omega) (rfl) rfl ?_
  refine Ev.cicmp_ge (rfl) (rfl) (pc := 21) (tgt := 28) dD_isBar_21 rfl (fun h3 => ?_) (fun h3 => ?_)
  · refine Ev.iconst (pc := 28) (v := 0) dD_isBar_28 (by decide) ?_
    exact Ev.zreturn (b := false) dD_isBar_29 rfl (⟨rfl, ret_f (bf (by rw [barB_iff]; rintro ⟨q1, q2, q3⟩; first | (rw [h1] at q1; cases q1; done) | omega))⟩)
  refine Ev.iconst (pc := 24) (v := 1) dD_isBar_24 (by decide) ?_
  refine Ev.goto (pc := 25) (tgt := 29) dD_isBar_25 rfl ?_
  exact Ev.zreturn (b := true) dD_isBar_29 rfl (⟨rfl, ret_t (by rw [barB_iff]; exact ⟨h1, by omega, by omega⟩)⟩)
set_option maxHeartbeats 4000000 in
set_option maxRecDepth 100000 in
theorem ct_D_fill : Ct G mD_fill [.ref (cxa G 30)] (wl G v b) (fun x w' => w' = wl G v (va_up b 43 (fillM (v 30 0) (v 30 1) (b 43) 96)) ∧ x = none) := by
  refine Ct.of (by decide) rfl rfl (Nat.le_of_ble_eq_true rfl) ?_
  refine Ev.iconst (pc := 0) (v := 0) dD_fill_0 (by decide) ?_
  refine Ev.istore_n (pc := 1) (i := 1) dD_fill_1 rfl (Nat.le_of_ble_eq_true rfl) ?_
  have loop : ∀ i, i ≤ 96 → Ev G mD_fill 2 [some (.ref (cxa G 30)), some (.int (nI i))] [] (wl G v (va_up b 43 (fillM (v 30 0) (v 30 1) (b 43) i))) (cx_e G mD_fill (fun x w' => w' = wl G v (va_up b 43 (fillM (v 30 0) (v 30 1) (b 43) 96)) ∧ x = none)) := by
    refine loopN (fun i hi ih => ?_)
    refine Ev.iload_n (pc := 2) (i := 1) dD_fill_2 rfl rfl ?_
    refine Ev.bipush (pc := 3) (v := 96) dD_fill_3 (by decide) ?_
    refine Ev.cicmp_ge (nI_toInt (by omega)) ((show (96 : Int32).toInt = 96 from by decide)) (pc := 5) (tgt := 32) dD_fill_5 rfl (fun h => ?_) (fun h => ?_)
    · have e : i = 96 := by omega
      subst e
      exact Ev.vreturn dD_fill_32 rfl ⟨rfl, rfl⟩
    have hlt : i < 96 := by omega
    refine Ev.aload_n (pc := 8) (i := 0) dD_fill_8 rfl rfl ?_
    refine Ev.gf (pc := 9) dD_fill_9 fl_D_57 (by omega) (rfl) rfl ?_
    refine Ev.iload_n (pc := 12) (i := 1) dD_fill_12 rfl rfl ?_
    refine Ev.aload_n (pc := 13) (i := 0) dD_fill_13 rfl rfl ?_
    refine Ev.iload_n (pc := 14) (i := 1) dD_fill_14 rfl rfl ?_
    refine Ev.bipush (pc := 15) (v := 8) dD_fill_15 (by decide) ?_
    refine Ev.idiv (pc := 17) dD_fill_17 (by decide) ?_
    refine Ev.topi (c8_div hlt) ?_
    refine Ev.iload_n (pc := 18) (i := 1) dD_fill_18 rfl rfl ?_
    refine Ev.bipush (pc := 19) (v := 8) dD_fill_19 (by decide) ?_
    refine Ev.irem (pc := 21) dD_fill_21 (by decide) ?_
    refine Ev.topi (c8_rem hlt) ?_
    refine Ev.callV (pc := 22) dD_fill_22 kv_D_107 ⟨Nat.le_of_ble_eq_true rfl, Nat.le_of_ble_eq_true rfl⟩ (wl_at (by decide) rfl) rfl rfl (ct_D_isBar _ _) rfl rfl (Nat.le_of_ble_eq_true rfl) ?_
    rintro _ _ ⟨rfl, rfl⟩
    refine Ev.astb (pc := 25) dD_fill_25 (by omega) (by first | exact fun _ _ => rfl | exact cell_dz hj | exact cell_dr hj | exact cell_mr hk | exact cell_sr hk) _ (rfl) (by omega) (by decide) ?_
    refine Ev.iinc (pc := 26) dD_fill_26 rfl (cx_inc _) (Nat.le_of_ble_eq_true rfl) ?_
    refine Ev.goto (pc := 29) (tgt := 2) dD_fill_29 rfl ?_
    refine Ev.world ?_ (ih hlt)
    congr 1
    rw [sb, up_up, up_at, ← fillM_s]
    rfl
  have := loop 0 (Nat.zero_le _)
  rw [fillM_0, up_self] at this
  exact this
end Md
