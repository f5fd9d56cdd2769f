/-! Insert, Job -/
theorem loopN {P : Nat → Prop} {n : Nat} (hs : ∀ i, i ≤ n → (i < n → P (i + 1)) → P i) : ∀ i, i ≤ n → P i := by
  have key : ∀ k i, i + k = n → P i := by
    intro k
    induction k with
    | zero => intro i hi; exact hs i (by omega) (fun h => absurd h (by omega))
    | succ k ih => intro i hi; exact hs i (by omega) (fun _ => ih (i + 1) (by omega))
  exact fun i hi => key (n - i) i (by omega)
def spotB (dz dr : Nat → Int32) (x y : Int32) (i : Nat) : Bool := decide ((dz i).toInt = x.toInt) && decide ((dr i).toInt = y.toInt)
theorem spotB_iff {dz dr : Nat → Int32} {x y : Int32} {i : Nat} : spotB dz dr x y i = true ↔ (dz i).toInt = x.toInt ∧ (dr i).toInt = y.toInt := by simp [spotB]
theorem anyB_not {n : Nat} {f : Nat → Bool} (h : ∀ i, i < n → f i = false) : anyB n f = false := anyB_false.mpr h
theorem snoc_all {p : Nat → Prop} {i : Nat} (h : ∀ a, a < i → p a) (hi : p i) : ∀ a, a < i + 1 → p a := fun a ha => by
  by_cases e : a = i
  · rw [e]; exact hi
  · exact h a (by omega)
section Ins
variable {G : cx_G} {v : Nat → Nat → Int32} {b : Nat → Nat → Bool}
set_option maxHeartbeats 4000000 in
set_option maxRecDepth 100000 in
theorem ct_I_isSafe {j n : Nat} (hj : j < 3) (hn : v (4 + 3 * j) 0 = nI n) (h8 : n ≤ 8) (z r : Int32) : Ct G mI_isSafe [.ref (cxa G (4 + 3 * j)), .ref (cxa G 1), .int z, .int r] (wl G v b) (fun x w' => w' = wl G v b ∧ x = some (.int (bI (safeB (v 1 2) (v 2) n (v (5 + 3 * j)) (v (6 + 3 * j)) z r)))) := by
  have hnI : (v (4 + 3 * j) 0).toInt = (n : Int) := by rw [hn]; exact nI_toInt (by omega)
  refine Ct.of (by decide) rfl rfl (Nat.le_of_ble_eq_true rfl) ?_
  refine Ev.iconst (pc := 0) (v := 0) dI_isSafe_0 (by decide) ?_
  refine Ev.istore (pc := 1) dI_isSafe_1 (Nat.le_of_ble_eq_true rfl) ?_
  have loop : ∀ i, i ≤ n → (∀ a, a < i → (fun i => freeB (v 1 2) (v 2) (z + v (5 + 3 * j) i) (r + v (6 + 3 * j) i)) a = true) → Ev G mI_isSafe 3 [some (.ref (cxa G (4 + 3 * j))), some (.ref (cxa G 1)), some (.int z), some (.int r), some (.int (nI i))] [] (wl G v b) (cx_e G mI_isSafe (fun x w' => w' = wl G v b ∧ x = some (.int (bI (safeB (v 1 2) (v 2) n (v (5 + 3 * j)) (v (6 + 3 * j)) z r))))) := by
    refine loopN (fun i hi ih hinv => ?_)
    refine Ev.iload (pc := 3) dI_isSafe_3 rfl ?_
    refine Ev.aload_n (pc := 5) (i := 0) dI_isSafe_5 rfl rfl ?_
    refine Ev.gf (pc := 6) dI_isSafe_6 fl_I_9 (by omega) (cell_ins hj _ _) rfl ?_
    refine Ev.cicmp_ge (nI_toInt (by omega)) (hnI) (pc := 9) (tgt := 45) dI_isSafe_9 rfl (fun h => ?_) (fun h => ?_)
    · refine Ev.iconst (pc := 45) (v := 1) dI_isSafe_45 (by decide) ?_
      exact Ev.zreturn (b := true) dI_isSafe_46 rfl (⟨rfl, ret_t (allB_iff.mpr (fun a ha => hinv a (by omega)))⟩)
    refine Ev.aload_n (pc := 12) (i := 1) dI_isSafe_12 rfl rfl ?_
    refine Ev.iload_n (pc := 13) (i := 2) dI_isSafe_13 rfl rfl ?_
    refine Ev.aload_n (pc := 14) (i := 0) dI_isSafe_14 rfl rfl ?_
    refine Ev.gf (pc := 15) dI_isSafe_15 fl_I_15 (by omega) (cell_ins hj _ _) rfl ?_
    refine Ev.iload (pc := 18) dI_isSafe_18 rfl ?_
    refine Ev.aldi (pc := 20) dI_isSafe_20 (by omega) (by first | exact fun _ _ => rfl | exact cell_dz hj | exact cell_dr hj | exact cell_mr hk | exact cell_sr hk) _ (rfl) (by omega) (by decide) ?_
    refine Ev.iadd (pc := 21) dI_isSafe_21 ?_
    refine Ev.iload_n (pc := 22) (i := 3) dI_isSafe_22 rfl rfl ?_
    refine Ev.aload_n (pc := 23) (i := 0) dI_isSafe_23 rfl rfl ?_
    refine Ev.gf (pc := 24) dI_isSafe_24 fl_I_19 (by omega) (cell_ins hj _ _) rfl ?_
    refine Ev.iload (pc := 27) dI_isSafe_27 rfl ?_
    refine Ev.aldi (pc := 29) dI_isSafe_29 (by omega) (by first | exact fun _ _ => rfl | exact cell_dz hj | exact cell_dr hj | exact cell_mr hk | exact cell_sr hk) _ (rfl) (by omega) (by decide) ?_
    refine Ev.iadd (pc := 30) dI_isSafe_30 ?_
    refine Ev.callV (pc := 31) dI_isSafe_31 kv_I_26 ⟨Nat.le_of_ble_eq_true rfl, Nat.le_of_ble_eq_true rfl⟩ (wl_at (by decide) rfl) rfl rfl (ct_B_isFreeFromOn _ _) rfl rfl (Nat.le_of_ble_eq_true rfl) ?_
    rintro _ _ ⟨rfl, rfl⟩
    refine Ev.if_neB (pc := 34) (tgt := 39) dI_isSafe_34 rfl (fun h2 => ?_) (fun h2 => ?_)
    · refine Ev.iinc (pc := 39) dI_isSafe_39 rfl (cx_inc _) (Nat.le_of_ble_eq_true rfl) ?_
      refine Ev.goto (pc := 42) (tgt := 3) dI_isSafe_42 rfl ?_
      exact ih (by omega) (snoc_all hinv h2)
    · refine Ev.iconst (pc := 37) (v := 0) dI_isSafe_37 (by decide) ?_
      exact Ev.zreturn (b := false) dI_isSafe_38 rfl (⟨rfl, ret_f (bf (fun q => by have := allB_iff.mp q i (by omega); rw [h2] at this; cases this))⟩)
  exact loop 0 (Nat.zero_le _) (fun a ha => absurd ha (by omega))
set_option maxHeartbeats 4000000 in
set_option maxRecDepth 100000 in
theorem ct_I_coversWaste {j n : Nat} (hj : j < 3) (hn : v (4 + 3 * j) 0 = nI n) (h8 : n ≤ 8) (z r : Int32) : Ct G mI_coversWaste [.ref (cxa G (4 + 3 * j)), .ref (cxa G 1), .int z, .int r] (wl G v b) (fun x w' => w' = wl G v b ∧ x = some (.int (bI (anyB n (fun i => wasteB (v 1 0) (v 1 1) (v 2) (z + v (5 + 3 * j) i) (r + v (6 + 3 * j) i)))))) := by
  have hnI : (v (4 + 3 * j) 0).toInt = (n : Int) := by rw [hn]; exact nI_toInt (by omega)
  refine Ct.of (by decide) rfl rfl (Nat.le_of_ble_eq_true rfl) ?_
  refine Ev.iconst (pc := 0) (v := 0) dI_coversWaste_0 (by decide) ?_
  refine Ev.istore (pc := 1) dI_coversWaste_1 (Nat.le_of_ble_eq_true rfl) ?_
  have loop : ∀ i, i ≤ n → (∀ a, a < i → (fun i => wasteB (v 1 0) (v 1 1) (v 2) (z + v (5 + 3 * j) i) (r + v (6 + 3 * j) i)) a = false) → Ev G mI_coversWaste 3 [some (.ref (cxa G (4 + 3 * j))), some (.ref (cxa G 1)), some (.int z), some (.int r), some (.int (nI i))] [] (wl G v b) (cx_e G mI_coversWaste (fun x w' => w' = wl G v b ∧ x = some (.int (bI (anyB n (fun i => wasteB (v 1 0) (v 1 1) (v 2) (z + v (5 + 3 * j) i) (r + v (6 + 3 * j) i))))))) := by
    refine loopN (fun i hi ih hinv => ?_)
    refine Ev.iload (pc := 3) dI_coversWaste_3 rfl ?_
    refine Ev.aload_n (pc := 5) (i := 0) dI_coversWaste_5 rfl rfl ?_
    refine Ev.gf (pc := 6) dI_coversWaste_6 fl_I_9 (by omega) (cell_ins hj _ _) rfl ?_
    refine Ev.cicmp_ge (nI_toInt (by omega)) (hnI) (pc := 9) (tgt := 45) dI_coversWaste_9 rfl (fun h => ?_) (fun h => ?_)
    · refine Ev.iconst (pc := 45) (v := 0) dI_coversWaste_45 (by decide) ?_
      exact Ev.zreturn (b := false) dI_coversWaste_46 rfl (⟨rfl, ret_f (anyB_not (fun a ha => hinv a (by omega)))⟩)
    refine Ev.aload_n (pc := 12) (i := 1) dI_coversWaste_12 rfl rfl ?_
    refine Ev.iload_n (pc := 13) (i := 2) dI_coversWaste_13 rfl rfl ?_
    refine Ev.aload_n (pc := 14) (i := 0) dI_coversWaste_14 rfl rfl ?_
    refine Ev.gf (pc := 15) dI_coversWaste_15 fl_I_15 (by omega) (cell_ins hj _ _) rfl ?_
    refine Ev.iload (pc := 18) dI_coversWaste_18 rfl ?_
    refine Ev.aldi (pc := 20) dI_coversWaste_20 (by omega) (by first | exact fun _ _ => rfl | exact cell_dz hj | exact cell_dr hj | exact cell_mr hk | exact cell_sr hk) _ (rfl) (by omega) (by decide) ?_
    refine Ev.iadd (pc := 21) dI_coversWaste_21 ?_
    refine Ev.iload_n (pc := 22) (i := 3) dI_coversWaste_22 rfl rfl ?_
    refine Ev.aload_n (pc := 23) (i := 0) dI_coversWaste_23 rfl rfl ?_
    refine Ev.gf (pc := 24) dI_coversWaste_24 fl_I_19 (by omega) (cell_ins hj _ _) rfl ?_
    refine Ev.iload (pc := 27) dI_coversWaste_27 rfl ?_
    refine Ev.aldi (pc := 29) dI_coversWaste_29 (by omega) (by first | exact fun _ _ => rfl | exact cell_dz hj | exact cell_dr hj | exact cell_mr hk | exact cell_sr hk) _ (rfl) (by omega) (by decide) ?_
    refine Ev.iadd (pc := 30) dI_coversWaste_30 ?_
    refine Ev.callV (pc := 31) dI_coversWaste_31 kv_I_31 ⟨Nat.le_of_ble_eq_true rfl, Nat.le_of_ble_eq_true rfl⟩ (wl_at (by decide) rfl) rfl rfl (ct_B_isWaste _ _) rfl rfl (Nat.le_of_ble_eq_true rfl) ?_
    rintro _ _ ⟨rfl, rfl⟩
    refine Ev.if_eqB (pc := 34) (tgt := 39) dI_coversWaste_34 rfl (fun h2 => ?_) (fun h2 => ?_)
    · refine Ev.iinc (pc := 39) dI_coversWaste_39 rfl (cx_inc _) (Nat.le_of_ble_eq_true rfl) ?_
      refine Ev.goto (pc := 42) (tgt := 3) dI_coversWaste_42 rfl ?_
      exact ih (by omega) (snoc_all hinv h2)
    · refine Ev.iconst (pc := 37) (v := 1) dI_coversWaste_37 (by decide) ?_
      exact Ev.zreturn (b := true) dI_coversWaste_38 rfl (⟨rfl, ret_t (anyB_iff.mpr ⟨i, by omega, h2⟩)⟩)
  exact loop 0 (Nat.zero_le _) (fun a ha => absurd ha (by omega))
set_option maxHeartbeats 4000000 in
set_option maxRecDepth 100000 in
theorem ct_I_hasSpot {j n : Nat} (hj : j < 3) (hn : v (4 + 3 * j) 0 = nI n) (h8 : n ≤ 8) (dz dr : Int32) : Ct G mI_hasSpot [.ref (cxa G (4 + 3 * j)), .int dz, .int dr] (wl G v b) (fun x w' => w' = wl G v b ∧ x = some (.int (bI (anyB n (spotB (v (5 + 3 * j)) (v (6 + 3 * j)) dz dr))))) := by
  have hnI : (v (4 + 3 * j) 0).toInt = (n : Int) := by rw [hn]; exact nI_toInt (by omega)
  refine Ct.of (by decide) rfl rfl (Nat.le_of_ble_eq_true rfl) ?_
  refine Ev.iconst (pc := 0) (v := 0) dI_hasSpot_0 (by decide) ?_
  refine Ev.istore_n (pc := 1) (i := 3) dI_hasSpot_1 rfl (Nat.le_of_ble_eq_true rfl) ?_
  have loop : ∀ i, i ≤ n → (∀ a, a < i → (spotB (v (5 + 3 * j)) (v (6 + 3 * j)) dz dr) a = false) → Ev G mI_hasSpot 2 [some (.ref (cxa G (4 + 3 * j))), some (.int dz), some (.int dr), some (.int (nI i))] [] (wl G v b) (cx_e G mI_hasSpot (fun x w' => w' = wl G v b ∧ x = some (.int (bI (anyB n (spotB (v (5 + 3 * j)) (v (6 + 3 * j)) dz dr)))))) := by
    refine loopN (fun i hi ih hinv => ?_)
    refine Ev.iload_n (pc := 2) (i := 3) dI_hasSpot_2 rfl rfl ?_
    refine Ev.aload_n (pc := 3) (i := 0) dI_hasSpot_3 rfl rfl ?_
    refine Ev.gf (pc := 4) dI_hasSpot_4 fl_I_9 (by omega) (cell_ins hj _ _) rfl ?_
    refine Ev.cicmp_ge (nI_toInt (by omega)) (hnI) (pc := 7) (tgt := 38) dI_hasSpot_7 rfl (fun h => ?_) (fun h => ?_)
    · refine Ev.iconst (pc := 38) (v := 0) dI_hasSpot_38 (by decide) ?_
      exact Ev.zreturn (b := false) dI_hasSpot_39 rfl (⟨rfl, ret_f (anyB_not (fun a ha => hinv a (by omega)))⟩)
    refine Ev.aload_n (pc := 10) (i := 0) dI_hasSpot_10 rfl rfl ?_
    refine Ev.gf (pc := 11) dI_hasSpot_11 fl_I_15 (by omega) (cell_ins hj _ _) rfl ?_
    refine Ev.iload_n (pc := 14) (i := 3) dI_hasSpot_14 rfl rfl ?_
    refine Ev.aldi (pc := 15) dI_hasSpot_15 (by omega) (by first | exact fun _ _ => rfl | exact cell_dz hj | exact cell_dr hj | exact cell_mr hk | exact cell_sr hk) _ (rfl) (by omega) (by decide) ?_
    refine Ev.iload_n (pc := 16) (i := 1) dI_hasSpot_16 rfl rfl ?_
    refine Ev.cicmp_ne (rfl) (rfl) (pc := 17) (tgt := 32) dI_hasSpot_17 rfl (fun h2 => ?_) (fun h2 => ?_)
    · refine Ev.iinc (pc := 32) dI_hasSpot_32 rfl (cx_inc _) (Nat.le_of_ble_eq_true rfl) ?_
      refine Ev.goto (pc := 35) (tgt := 2) dI_hasSpot_35 rfl ?_
      exact ih (by omega) (snoc_all hinv (bf (fun q => h2 (spotB_iff.mp q).1)))
    refine Ev.aload_n (pc := 20) (i := 0) dI_hasSpot_20 rfl rfl ?_
    refine Ev.gf (pc := 21) dI_hasSpot_21 fl_I_19 (by omega) (cell_ins hj _ _) rfl ?_
    refine Ev.iload_n (pc := 24) (i := 3) dI_hasSpot_24 rfl rfl ?_
    refine Ev.aldi (pc := 25) dI_hasSpot_25 (by omega) (by first | exact fun _ _ => rfl | exact cell_dz hj | exact cell_dr hj | exact cell_mr hk | exact cell_sr hk) _ (rfl) (by omega) (by decide) ?_
    refine Ev.iload_n (pc := 26) (i := 2) dI_hasSpot_26 rfl rfl ?_
    refine Ev.cicmp_ne (rfl) (rfl) (pc := 27) (tgt := 32) dI_hasSpot_27 rfl (fun h3 => ?_) (fun h3 => ?_)
    · refine Ev.iinc (pc := 32) dI_hasSpot_32 rfl (cx_inc _) (Nat.le_of_ble_eq_true rfl) ?_
      refine Ev.goto (pc := 35) (tgt := 2) dI_hasSpot_35 rfl ?_
      exact ih (by omega) (snoc_all hinv (bf (fun q => h3 (spotB_iff.mp q).2)))
    refine Ev.iconst (pc := 30) (v := 1) dI_hasSpot_30 (by decide) ?_
    exact Ev.zreturn (b := true) dI_hasSpot_31 rfl (⟨rfl, ret_t (anyB_iff.mpr ⟨i, by omega, spotB_iff.mpr ⟨h2, h3⟩⟩)⟩)
  exact loop 0 (Nat.zero_le _) (fun a ha => absurd ha (by omega))
set_option maxHeartbeats 4000000 in
set_option maxRecDepth 100000 in
theorem ct_I_addSpot_no {j n : Nat} (hj : j < 3) (hn : v (4 + 3 * j) 0 = nI n) (h8 : n ≤ 8) (dz dr : Int32) (hno : n = 8 ∨ anyB n (spotB (v (5 + 3 * j)) (v (6 + 3 * j)) dz dr) = true) : Ct G mI_addSpot [.ref (cxa G (4 + 3 * j)), .int dz, .int dr] (wl G v b) (fun x w' => w' = wl G v b ∧ x = some (.int (bI false))) := by
  have hnI : (v (4 + 3 * j) 0).toInt = (n : Int) := by rw [hn]; exact nI_toInt (by omega)
  refine Ct.of (by decide) rfl rfl (Nat.le_of_ble_eq_true rfl) ?_
  refine Ev.aload_n (pc := 0) (i := 0) dI_addSpot_0 rfl rfl ?_
  refine Ev.gf (pc := 1) dI_addSpot_1 fl_I_9 (by omega) (cell_ins hj _ _) rfl ?_
  refine Ev.bipush (pc := 4) (v := 8) dI_addSpot_4 (by decide) ?_
  refine Ev.cicmp_ge (hnI) ((show (8 : Int32).toInt = 8 from by decide)) (pc := 6) (tgt := 18) dI_addSpot_6 rfl (fun h => ?_) (fun h => ?_)
  · refine Ev.iconst (pc := 18) (v := 0) dI_addSpot_18 (by decide) ?_
    exact Ev.zreturn (b := false) dI_addSpot_19 rfl (⟨rfl, rfl⟩)
  refine Ev.aload_n (pc := 9) (i := 0) dI_addSpot_9 rfl rfl ?_
  refine Ev.iload_n (pc := 10) (i := 1) dI_addSpot_10 rfl rfl ?_
  refine Ev.iload_n (pc := 11) (i := 2) dI_addSpot_11 rfl rfl ?_
  refine Ev.callV (pc := 12) dI_addSpot_12 kv_I_22 ⟨Nat.le_of_ble_eq_true rfl, Nat.le_of_ble_eq_true rfl⟩ (wl_ins hj) rfl rfl (ct_I_hasSpot hj hn h8 dz dr) rfl rfl (Nat.le_of_ble_eq_true rfl) ?_
  rintro _ _ ⟨rfl, rfl⟩
  refine Ev.if_eqB (pc := 15) (tgt := 20) dI_addSpot_15 rfl (fun h2 => ?_) (fun h2 => ?_)
  · rcases hno with h3 | h3
    · omega
    · rw [h2] at h3; cases h3
  refine Ev.iconst (pc := 18) (v := 0) dI_addSpot_18 (by decide) ?_
  exact Ev.zreturn (b := false) dI_addSpot_19 rfl (⟨rfl, rfl⟩)
set_option maxHeartbeats 4000000 in
set_option maxRecDepth 100000 in
theorem ct_I_addSpot_yes {j n : Nat} (hj : j < 3) (hn : v (4 + 3 * j) 0 = nI n) (h8 : n < 8) (dz dr : Int32) (hno : anyB n (spotB (v (5 + 3 * j)) (v (6 + 3 * j)) dz dr) = false) : Ct G mI_addSpot [.ref (cxa G (4 + 3 * j)), .int dz, .int dr] (wl G v b) (fun x w' => w' = wl G (sv (sv (sv v (5 + 3 * j) n dz) (6 + 3 * j) n dr) (4 + 3 * j) 0 (nI (n + 1))) b ∧ x = some (.int (bI true))) := by
  have hnI : (v (4 + 3 * j) 0).toInt = (n : Int) := by rw [hn]; exact nI_toInt (by omega)
  refine Ct.of (by decide) rfl rfl (Nat.le_of_ble_eq_true rfl) ?_
  refine Ev.aload_n (pc := 0) (i := 0) dI_addSpot_0 rfl rfl ?_
  refine Ev.gf (pc := 1) dI_addSpot_1 fl_I_9 (by omega) (cell_ins hj _ _) rfl ?_
  refine Ev.bipush (pc := 4) (v := 8) dI_addSpot_4 (by decide) ?_
  refine Ev.cicmp_ge (hnI) ((show (8 : Int32).toInt = 8 from by decide)) (pc := 6) (tgt := 18) dI_addSpot_6 rfl (fun h => ?_) (fun h => ?_)
  · omega
  refine Ev.aload_n (pc := 9) (i := 0) dI_addSpot_9 rfl rfl ?_
  refine Ev.iload_n (pc := 10) (i := 1) dI_addSpot_10 rfl rfl ?_
  refine Ev.iload_n (pc := 11) (i := 2) dI_addSpot_11 rfl rfl ?_
  refine Ev.callV (pc := 12) dI_addSpot_12 kv_I_22 ⟨Nat.le_of_ble_eq_true rfl, Nat.le_of_ble_eq_true rfl⟩ (wl_ins hj) rfl rfl (ct_I_hasSpot hj hn (by omega) dz dr) rfl rfl (Nat.le_of_ble_eq_true rfl) ?_
  rintro _ _ ⟨rfl, rfl⟩
  refine Ev.if_eqB (pc := 15) (tgt := 20) dI_addSpot_15 rfl (fun h2 => ?_) (fun h2 => ?_)
  · refine Ev.aload_n (pc := 20) (i := 0) dI_addSpot_20 rfl rfl ?_
    refine Ev.gf (pc := 21) dI_addSpot_21 fl_I_15 (by omega) (cell_ins hj _ _) rfl ?_
    refine Ev.aload_n (pc := 24) (i := 0) dI_addSpot_24 rfl rfl ?_
    refine Ev.gf (pc := 25) dI_addSpot_25 fl_I_9 (by omega) (cell_ins hj _ _) rfl ?_
    refine Ev.iload_n (pc := 28) (i := 1) dI_addSpot_28 rfl rfl ?_
    refine Ev.asti (pc := 29) dI_addSpot_29 (by omega) (by first | exact fun _ _ => rfl | exact cell_dz hj | exact cell_dr hj | exact cell_mr hk | exact cell_sr hk) _ (hn) (by omega) (by decide) ?_
    refine Ev.aload_n (pc := 30) (i := 0) dI_addSpot_30 rfl rfl ?_
    refine Ev.gf (pc := 31) dI_addSpot_31 fl_I_19 (by omega) (cell_ins hj _ _) rfl ?_
    refine Ev.aload_n (pc := 34) (i := 0) dI_addSpot_34 rfl rfl ?_
    refine Ev.gf (pc := 35) dI_addSpot_35 fl_I_9 (by omega) (cell_ins hj _ _) rfl ?_
    refine Ev.iload_n (pc := 38) (i := 2) dI_addSpot_38 rfl rfl ?_
    refine Ev.asti (pc := 39) dI_addSpot_39 (by omega) (by first | exact fun _ _ => rfl | exact cell_dz hj | exact cell_dr hj | exact cell_mr hk | exact cell_sr hk) _ ((by rw [sv_p (by omega)]; exact hn)) (by omega) (by decide) ?_
    refine Ev.aload_n (pc := 40) (i := 0) dI_addSpot_40 rfl rfl ?_
    refine Ev.dup (pc := 41) dI_addSpot_41 rfl ?_
    refine Ev.gf (pc := 42) dI_addSpot_42 fl_I_9 (by omega) (cell_ins hj _ _) rfl ?_
    refine Ev.iconst (pc := 45) (v := 1) dI_addSpot_45 (by decide) ?_
    refine Ev.iadd (pc := 46) dI_addSpot_46 ?_
    refine Ev.topi (y := nI (n + 1)) (by rw [sv_p (by omega), sv_p (by omega), hn]; exact (nI_succ n).symm) ?_
    refine Ev.puti (pc := 47) dI_addSpot_47 fl_I_9 fp_I_spots (by omega) (cell_ins hj _ _) (by rw [cell_ins hj]; rfl) (Nat.le_of_ble_eq_true rfl) ?_
    refine Ev.iconst (pc := 50) (v := 1) dI_addSpot_50 (by decide) ?_
    exact Ev.zreturn (b := true) dI_addSpot_51 rfl ⟨rfl, rfl⟩
  · rw [h2] at hno; cases hno
set_option maxHeartbeats 4000000 in
set_option maxRecDepth 100000 in
theorem ct_J_append {c : Nat} (hc : v 13 2 = nI c) (h3 : c < 3) (i : Int32) : Ct G mJ_append [.ref (cxa G 13), .int i] (wl G v b) (fun x w' => w' = wl G (sv (sv v 14 c i) 13 2 (nI (c + 1))) b ∧ x = none) := by
  refine Ct.of (by decide) rfl rfl (Nat.le_of_ble_eq_true rfl) ?_
  refine Ev.aload_n (pc := 0) (i := 0) dJ_append_0 rfl rfl ?_
  refine Ev.gf (pc := 1) dJ_append_1 fl_J_9 (by omega) (rfl) rfl ?_
  refine Ev.aload_n (pc := 4) (i := 0) dJ_append_4 rfl rfl ?_
  refine Ev.gf (pc := 5) dJ_append_5 fl_J_15 (by omega) (rfl) rfl ?_
  refine Ev.iload_n (pc := 8) (i := 1) dJ_append_8 rfl rfl ?_
  refine Ev.asti (pc := 9) dJ_append_9 (by omega) (by first | exact fun _ _ => rfl | exact cell_dz hj | exact cell_dr hj | exact cell_mr hk | exact cell_sr hk) _ (hc) (by omega) (by decide) ?_
  refine Ev.aload_n (pc := 10) (i := 0) dJ_append_10 rfl rfl ?_
  refine Ev.dup (pc := 11) dJ_append_11 rfl ?_
  refine Ev.gf (pc := 12) dJ_append_12 fl_J_15 (by omega) (rfl) rfl ?_
  refine Ev.iconst (pc := 15) (v := 1) dJ_append_15 (by decide) ?_
  refine Ev.iadd (pc := 16) dJ_append_16 ?_
  refine Ev.topi (y := nI (c + 1)) (by rw [sv_p (by omega), hc]; exact (nI_succ c).symm) ?_
  refine Ev.puti (pc := 17) dJ_append_17 fl_J_15 fp_J_chosen (by omega) (rfl) rfl (Nat.le_of_ble_eq_true rfl) ?_
  exact Ev.vreturn dJ_append_20 rfl ⟨rfl, rfl⟩
set_option maxHeartbeats 4000000 in
set_option maxRecDepth 100000 in
theorem ct_J_insertAt {k j : Nat} (hk : k < 3) (hr : v 14 k = nI j) (hj : j < 3) : Ct G mJ_insertAt [.ref (cxa G 13), .int (nI k)] (wl G v b) (fun x w' => w' = wl G v b ∧ x = some (.ref (cxa G (4 + 3 * j)))) := by
  refine Ct.of (by decide) rfl rfl (Nat.le_of_ble_eq_true rfl) ?_
  refine Ev.aload_n (pc := 0) (i := 0) dJ_insertAt_0 rfl rfl ?_
  refine Ev.gf (pc := 1) dJ_insertAt_1 fl_J_19 (by omega) (rfl) rfl ?_
  refine Ev.aload_n (pc := 4) (i := 0) dJ_insertAt_4 rfl rfl ?_
  refine Ev.gf (pc := 5) dJ_insertAt_5 fl_J_9 (by omega) (rfl) rfl ?_
  refine Ev.iload_n (pc := 8) (i := 1) dJ_insertAt_8 rfl rfl ?_
  refine Ev.aldi (pc := 9) dJ_insertAt_9 (by omega) (by first | exact fun _ _ => rfl | exact cell_dz hj | exact cell_dr hj | exact cell_mr hk | exact cell_sr hk) _ (rfl) (by omega) (by decide) ?_
  refine Ev.aaload (pc := 10) dJ_insertAt_10 (wl_at (by decide) rfl) _ (hr) (by omega) (by decide) rfl ?_
  exact Ev.areturn _ dJ_insertAt_11 rfl (⟨rfl, rfl⟩)
/-- what is known of the inserts, of the job -/
def insOK (v : Nat → Nat → Int32) (N : Nat → Nat) : Prop := ∀ j, j < 3 → N j ≤ 8 ∧ v (4 + 3 * j) 0 = nI (N j)
def jobOK (v : Nat → Nat → Int32) (c : Nat) (J : Nat → Nat) : Prop := c ≤ 3 ∧ v 13 2 = nI c ∧ ∀ k, k < c → J k < 3 ∧ v 14 k = nI (J k)
set_option maxHeartbeats 4000000 in
set_option maxRecDepth 100000 in
theorem ct_J_isReady {c : Nat} {N J : Nat → Nat} (hI : insOK v N) (hJ : jobOK v c J) : Ct G mJ_isReady [.ref (cxa G 13)] (wl G v b) (fun x w' => w' = wl G v b ∧ x = some (.int (bI (allB c (fun k => decide (N (J k) ≠ 0)) && decide (0 < c))))) := by
  obtain ⟨hc3, hc, hJ⟩ := hJ
  have hcI : (v 13 2).toInt = (c : Int) := by rw [hc]; exact nI_toInt (by omega)
  refine Ct.of (by decide) rfl rfl (Nat.le_of_ble_eq_true rfl) ?_
  refine Ev.iconst (pc := 0) (v := 0) dJ_isReady_0 (by decide) ?_
  refine Ev.istore_n (pc := 1) (i := 1) dJ_isReady_1 rfl (Nat.le_of_ble_eq_true rfl) ?_
  have loop : ∀ i, i ≤ c → (∀ a, a < i → (fun k => decide (N (J k) ≠ 0)) a = true) → Ev G mJ_isReady 2 [some (.ref (cxa G 13)), some (.int (nI i))] [] (wl G v b) (cx_e G mJ_isReady (fun x w' => w' = wl G v b ∧ x = some (.int (bI (allB c (fun k => decide (N (J k) ≠ 0)) && decide (0 < c)))))) := by
    refine loopN (fun i hi ih hinv => ?_)
    refine Ev.iload_n (pc := 2) (i := 1) dJ_isReady_2 rfl rfl ?_
    refine Ev.aload_n (pc := 3) (i := 0) dJ_isReady_3 rfl rfl ?_
    refine Ev.gf (pc := 4) dJ_isReady_4 fl_J_15 (by omega) (rfl) rfl ?_
    refine Ev.cicmp_ge (nI_toInt (by omega)) (hcI) (pc := 7) (tgt := 29) dJ_isReady_7 rfl (fun h => ?_) (fun h => ?_)
    · refine Ev.aload_n (pc := 29) (i := 0) dJ_isReady_29 rfl rfl ?_
      refine Ev.gf (pc := 30) dJ_isReady_30 fl_J_15 (by omega) (rfl) rfl ?_
      refine Ev.cif_le (hcI) (pc := 33) (tgt := 40) dJ_isReady_33 rfl (fun h2 => ?_) (fun h2 => ?_)
      · refine Ev.iconst (pc := 40) (v := 0) dJ_isReady_40 (by decide) ?_
        exact Ev.zreturn (b := false) dJ_isReady_41 rfl (⟨rfl, ret_f (bf (by simp; omega))⟩)
      · refine Ev.iconst (pc := 36) (v := 1) dJ_isReady_36 (by decide) ?_
        refine Ev.goto (pc := 37) (tgt := 41) dJ_isReady_37 rfl ?_
        exact Ev.zreturn (b := true) dJ_isReady_41 rfl (⟨rfl, ret_t (by rw [Bool.and_eq_true]; exact ⟨allB_iff.mpr (fun a ha => hinv a (by omega)), by simp; omega⟩)⟩)
    have hlt : i < c := by omega
    obtain ⟨hj, hr⟩ := hJ i hlt
    obtain ⟨h8, hn⟩ := hI _ hj
    refine Ev.aload_n (pc := 10) (i := 0) dJ_isReady_10 rfl rfl ?_
    refine Ev.iload_n (pc := 11) (i := 1) dJ_isReady_11 rfl rfl ?_
    refine Ev.callV (pc := 12) dJ_isReady_12 kv_J_23 ⟨Nat.le_of_ble_eq_true rfl, Nat.le_of_ble_eq_true rfl⟩ (wl_at (by decide) rfl) rfl rfl (ct_J_insertAt (by omega) hr hj) rfl rfl (Nat.le_of_ble_eq_true rfl) ?_
    rintro _ _ ⟨rfl, rfl⟩
    refine Ev.gf (pc := 15) dJ_isReady_15 fl_J_27 (by omega) (cell_ins hj _ _) rfl ?_
    have hnI : (v (4 + 3 * J i) 0).toInt = (N (J i) : Int) := by rw [hn]; exact nI_toInt (by omega)
    refine Ev.cif_ne (hnI) (pc := 18) (tgt := 23) dJ_isReady_18 rfl (fun h2 => ?_) (fun h2 => ?_)
    · refine Ev.iinc (pc := 23) dJ_isReady_23 rfl (cx_inc _) (Nat.le_of_ble_eq_true rfl) ?_
      refine Ev.goto (pc := 26) (tgt := 2) dJ_isReady_26 rfl ?_
      exact ih (by omega) (snoc_all hinv (by simp; omega))
    · refine Ev.iconst (pc := 21) (v := 0) dJ_isReady_21 (by decide) ?_
      exact Ev.zreturn (b := false) dJ_isReady_22 rfl (⟨rfl, ret_f (bf (fun q => by rw [Bool.and_eq_true] at q; have := allB_iff.mp q.1 i hlt; simp at this; omega))⟩)
  exact loop 0 (Nat.zero_le _) (fun a ha => absurd ha (by omega))
end Ins
