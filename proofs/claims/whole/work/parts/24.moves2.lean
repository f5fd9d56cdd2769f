/-! Moves: copying, counting -/
def sumN : Nat → (Nat → Nat) → Nat
  | 0, _ => 0
  | n + 1, f => sumN n f + f n
section Mvs2
variable {G : cx_G} {w : List va_E} {v : Nat → Nat → Int32} {b : Nat → Nat → Bool}
set_option maxHeartbeats 4000000 in
set_option maxRecDepth 100000 in
theorem ct_M_copyFrom {n : Nat} (hn : v 15 1 = nI n) (h : n ≤ 2000) : Ct G mM_copyFrom [.ref (cxa G 17), .ref (cxa G 15)] (wl G v b) (fun x w' => w' = wl G (sv (va_up v 18 (va_cpy (v 16) (v 18) 0 0 n)) 17 1 (nI n)) b ∧ x = none) := by
  refine Ct.of (by decide) rfl rfl (Nat.le_of_ble_eq_true rfl) ?_
  refine Ev.aload_n (pc := 0) (i := 1) dM_copyFrom_0 rfl rfl ?_
  refine Ev.gf (pc := 1) dM_copyFrom_1 fl_M_9 (by omega) (rfl) rfl ?_
  refine Ev.iconst (pc := 4) (v := 0) dM_copyFrom_4 (by decide) ?_
  refine Ev.aload_n (pc := 5) (i := 0) dM_copyFrom_5 rfl rfl ?_
  refine Ev.gf (pc := 6) dM_copyFrom_6 fl_M_9 (by omega) (rfl) rfl ?_
  refine Ev.iconst (pc := 9) (v := 0) dM_copyFrom_9 (by decide) ?_
  refine Ev.aload_n (pc := 10) (i := 1) dM_copyFrom_10 rfl rfl ?_
  refine Ev.gf (pc := 11) dM_copyFrom_11 fl_M_15 (by omega) (rfl) rfl ?_
  refine Ev.copy (pc := 14) dM_copyFrom_14 ⟨kcpy_M_37.1, kcpy_M_37.2.1, kcpy_M_37.2.2.1, kcpy_M_37.2.2.2, Nat.le_of_ble_eq_true rfl, Nat.le_of_ble_eq_true rfl⟩ (wl_at (by decide) rfl) (wl_at (by decide) rfl) n rfl rfl hn h h (by decide) (Nat.le_of_ble_eq_true rfl) ?_
  refine Ev.world (wl_setv (f := va_cpy (v 16) (v 18) 0 0 n) (by decide) rfl) ?_
  refine Ev.aload_n (pc := 17) (i := 0) dM_copyFrom_17 rfl rfl ?_
  refine Ev.aload_n (pc := 18) (i := 1) dM_copyFrom_18 rfl rfl ?_
  refine Ev.gf (pc := 19) dM_copyFrom_19 fl_M_15 (by omega) (rfl) rfl ?_
  refine Ev.topi (y := nI n) (by rw [up_ne (by decide)]; exact hn) ?_
  refine Ev.puti (pc := 22) dM_copyFrom_22 fl_M_15 fp_M_size (by omega) (rfl) rfl (Nat.le_of_ble_eq_true rfl) ?_
  exact Ev.vreturn dM_copyFrom_25 rfl ⟨rfl, rfl⟩
set_option maxHeartbeats 4000000 in
set_option maxRecDepth 100000 in
theorem ct_M_countDifferent {n : Nat} (hn : v 15 1 = nI n) (hn2 : v 17 1 = nI n) (h : n ≤ 2000) : Ct G mM_countDifferent [.ref (cxa G 17), .ref (cxa G 15)] (wl G v b) (fun x w' => w' = wl G v b ∧ x = some (.int (nI (cntB n (fun i => !decide ((v 18 i).toInt = (v 16 i).toInt)))))) := by
  have hI : (v 15 1).toInt = (n : Int) := by rw [hn]; exact nI_toInt (by omega)
  have hI2 : (v 17 1).toInt = (n : Int) := by rw [hn2]; exact nI_toInt (by omega)
  refine Ct.of (by decide) rfl rfl (Nat.le_of_ble_eq_true rfl) ?_
  refine Ev.iconst (pc := 0) (v := 0) dM_countDifferent_0 (by decide) ?_
  refine Ev.istore_n (pc := 1) (i := 2) dM_countDifferent_1 rfl (Nat.le_of_ble_eq_true rfl) ?_
  refine Ev.iconst (pc := 2) (v := 0) dM_countDifferent_2 (by decide) ?_
  refine Ev.istore_n (pc := 3) (i := 3) dM_countDifferent_3 rfl (Nat.le_of_ble_eq_true rfl) ?_
  have loop : ∀ i, i ≤ n → Ev G mM_countDifferent 4 [some (.ref (cxa G 17)), some (.ref (cxa G 15)), some (.int (nI (cntB i (fun i => !decide ((v 18 i).toInt = (v 16 i).toInt))))), some (.int (nI i))] [] (wl G v b) (cx_e G mM_countDifferent (fun x w' => w' = wl G v b ∧ x = some (.int (nI (cntB n (fun i => !decide ((v 18 i).toInt = (v 16 i).toInt))))))) := by
    refine loopN (fun i hi ih => ?_)
    refine Ev.iload_n (pc := 4) (i := 3) dM_countDifferent_4 rfl rfl ?_
    refine Ev.aload_n (pc := 5) (i := 0) dM_countDifferent_5 rfl rfl ?_
    refine Ev.gf (pc := 6) dM_countDifferent_6 fl_M_15 (by omega) (rfl) rfl ?_
    refine Ev.cicmp_ge (nI_toInt (by omega)) (hI2) (pc := 9) (tgt := 44) dM_countDifferent_9 rfl (fun h1 => ?_) (fun h1 => ?_)
    · have e : i = n := by omega
      subst e
      refine Ev.iload_n (pc := 44) (i := 2) dM_countDifferent_44 rfl rfl ?_
      exact Ev.ireturn .int dM_countDifferent_45 rfl rfl (⟨rfl, rfl⟩)
    refine Ev.iload_n (pc := 12) (i := 3) dM_countDifferent_12 rfl rfl ?_
    refine Ev.aload_n (pc := 13) (i := 1) dM_countDifferent_13 rfl rfl ?_
    refine Ev.gf (pc := 14) dM_countDifferent_14 fl_M_15 (by omega) (rfl) rfl ?_
    refine Ev.cicmp_ge (nI_toInt (by omega)) (hI) (pc := 17) (tgt := 44) dM_countDifferent_17 rfl (fun h2 => ?_) (fun h2 => ?_)
    · omega
    have ih := ih (by omega)
    refine Ev.aload_n (pc := 20) (i := 0) dM_countDifferent_20 rfl rfl ?_
    refine Ev.gf (pc := 21) dM_countDifferent_21 fl_M_9 (by omega) (rfl) rfl ?_
    refine Ev.iload_n (pc := 24) (i := 3) dM_countDifferent_24 rfl rfl ?_
    refine Ev.aldi (pc := 25) dM_countDifferent_25 (by omega) (by first | exact fun _ _ => rfl | exact cell_dz hj | exact cell_dr hj | exact cell_mr hk | exact cell_sr hk) _ (rfl) (by omega) (by decide) ?_
    refine Ev.aload_n (pc := 26) (i := 1) dM_countDifferent_26 rfl rfl ?_
    refine Ev.gf (pc := 27) dM_countDifferent_27 fl_M_9 (by omega) (rfl) rfl ?_
    refine Ev.iload_n (pc := 30) (i := 3) dM_countDifferent_30 rfl rfl ?_
    refine Ev.aldi (pc := 31) dM_countDifferent_31 (by omega) (by first | exact fun _ _ => rfl | exact cell_dz hj | exact cell_dr hj | exact cell_mr hk | exact cell_sr hk) _ (rfl) (by omega) (by decide) ?_
    refine Ev.cicmp_eq (rfl) (rfl) (pc := 32) (tgt := 38) dM_countDifferent_32 rfl (fun h3 => ?_) (fun h3 => ?_)
    · refine Ev.iinc (pc := 38) dM_countDifferent_38 rfl (cx_inc _) (Nat.le_of_ble_eq_true rfl) ?_
      refine Ev.goto (pc := 41) (tgt := 4) dM_countDifferent_41 rfl ?_
      rw [cntB, if_neg (by simp [h3])] at ih
      exact ih
    · refine Ev.iinc (pc := 35) dM_countDifferent_35 rfl (cx_inc _) (Nat.le_of_ble_eq_true rfl) ?_
      refine Ev.iinc (pc := 38) dM_countDifferent_38 rfl (cx_inc _) (Nat.le_of_ble_eq_true rfl) ?_
      refine Ev.goto (pc := 41) (tgt := 4) dM_countDifferent_41 rfl ?_
      rw [cntB, if_pos (by simp [h3])] at ih
      exact ih
  exact loop 0 (Nat.zero_le _)
set_option maxHeartbeats 4000000 in
set_option maxRecDepth 100000 in
theorem ct_M_countSteps {B : Nat} {m : Pm} (h : mvOK v 17 m) (ho : okP B m) (hB : B < 900000) {k : Nat} (hk : k < 2) : Ct G mM_countSteps [.ref (cxa G 17), .int (nI k)] (wl G v b) (fun x w' => w' = wl G v b ∧ x = some (.int (nI (sumN m.1 (fun i => if (m.2 i).1 = k then (m.2 i).2.2 else 0))))) := by
  have hle := h.2.1
  have hI : (v 17 1).toInt = (m.1 : Int) := by rw [h.1]; exact nI_toInt (by omega)
  refine Ct.of (by decide) rfl rfl (Nat.le_of_ble_eq_true rfl) ?_
  refine Ev.iconst (pc := 0) (v := 0) dM_countSteps_0 (by decide) ?_
  refine Ev.istore_n (pc := 1) (i := 2) dM_countSteps_1 rfl (Nat.le_of_ble_eq_true rfl) ?_
  refine Ev.iconst (pc := 2) (v := 0) dM_countSteps_2 (by decide) ?_
  refine Ev.istore_n (pc := 3) (i := 3) dM_countSteps_3 rfl (Nat.le_of_ble_eq_true rfl) ?_
  have loop : ∀ i, i ≤ m.1 → Ev G mM_countSteps 4 [some (.ref (cxa G 17)), some (.int (nI k)), some (.int (nI (sumN i (fun i => if (m.2 i).1 = k then (m.2 i).2.2 else 0)))), some (.int (nI i))] [] (wl G v b) (cx_e G mM_countSteps (fun x w' => w' = wl G v b ∧ x = some (.int (nI (sumN m.1 (fun i => if (m.2 i).1 = k then (m.2 i).2.2 else 0)))))) := by
    refine loopN (fun i hi ih => ?_)
    refine Ev.iload_n (pc := 4) (i := 3) dM_countSteps_4 rfl rfl ?_
    refine Ev.aload_n (pc := 5) (i := 0) dM_countSteps_5 rfl rfl ?_
    refine Ev.gf (pc := 6) dM_countSteps_6 fl_M_15 (by omega) (rfl) rfl ?_
    refine Ev.cicmp_ge (nI_toInt (by omega)) (hI) (pc := 9) (tgt := 43) dM_countSteps_9 rfl (fun h1 => ?_) (fun h1 => ?_)
    · have e : i = m.1 := by omega
      subst e
      refine Ev.iload_n (pc := 43) (i := 2) dM_countSteps_43 rfl rfl ?_
      exact Ev.ireturn .int dM_countSteps_44 rfl rfl (⟨rfl, rfl⟩)
    have hlt : i < m.1 := by omega
    have ih := ih hlt
    have hq := h.2.2 i hlt
    obtain ⟨b1, b2, b3, b4⟩ := (ho i hlt).lt (by omega)
    refine Ev.aload_n (pc := 12) (i := 0) dM_countSteps_12 rfl rfl ?_
    refine Ev.gf (pc := 13) dM_countSteps_13 fl_M_9 (by omega) (rfl) rfl ?_
    refine Ev.iload_n (pc := 16) (i := 3) dM_countSteps_16 rfl rfl ?_
    refine Ev.aldi (pc := 17) dM_countSteps_17 (by omega) (by first | exact fun _ _ => rfl | exact cell_dz hj | exact cell_dr hj | exact cell_mr hk | exact cell_sr hk) _ (rfl) (by omega) (by decide) ?_
    refine Ev.topi hq ?_
    refine Ev.callS (pc := 18) dM_countSteps_18 ks_M_27 ⟨Nat.le_of_ble_eq_true rfl, Nat.le_of_ble_eq_true rfl⟩ (ct_M_kindOf (by omega)) rfl rfl (Nat.le_of_ble_eq_true rfl) ?_
    rintro _ _ ⟨rfl, rfl⟩
    refine Ev.topi (congrArg nI (pk3_k b1)) ?_
    refine Ev.iload_n (pc := 21) (i := 1) dM_countSteps_21 rfl rfl ?_
    refine Ev.cicmp_ne (nI_toInt (by omega)) (nI_toInt (by omega)) (pc := 22) (tgt := 37) dM_countSteps_22 rfl (fun h2 => ?_) (fun h2 => ?_)
    · refine Ev.iinc (pc := 37) dM_countSteps_37 rfl (cx_inc _) (Nat.le_of_ble_eq_true rfl) ?_
      refine Ev.goto (pc := 40) (tgt := 4) dM_countSteps_40 rfl ?_
      rw [sumN, if_neg (by omega)] at ih
      exact ih
    refine Ev.iload_n (pc := 25) (i := 2) dM_countSteps_25 rfl rfl ?_
    refine Ev.aload_n (pc := 26) (i := 0) dM_countSteps_26 rfl rfl ?_
    refine Ev.gf (pc := 27) dM_countSteps_27 fl_M_9 (by omega) (rfl) rfl ?_
    refine Ev.iload_n (pc := 30) (i := 3) dM_countSteps_30 rfl rfl ?_
    refine Ev.aldi (pc := 31) dM_countSteps_31 (by omega) (by first | exact fun _ _ => rfl | exact cell_dz hj | exact cell_dr hj | exact cell_mr hk | exact cell_sr hk) _ (rfl) (by omega) (by decide) ?_
    refine Ev.topi hq ?_
    refine Ev.callS (pc := 32) dM_countSteps_32 ks_M_34 ⟨Nat.le_of_ble_eq_true rfl, Nat.le_of_ble_eq_true rfl⟩ (ct_M_stepsOf (by omega)) rfl rfl (Nat.le_of_ble_eq_true rfl) ?_
    rintro _ _ ⟨rfl, rfl⟩
    refine Ev.topi (congrArg nI (pk3_s b1 b2)) ?_
    refine Ev.iadd (pc := 35) dM_countSteps_35 ?_
    refine Ev.topi (nI_add _ _) ?_
    refine Ev.istore_n (pc := 36) (i := 2) dM_countSteps_36 rfl (Nat.le_of_ble_eq_true rfl) ?_
    refine Ev.iinc (pc := 37) dM_countSteps_37 rfl (cx_inc _) (Nat.le_of_ble_eq_true rfl) ?_
    refine Ev.goto (pc := 40) (tgt := 4) dM_countSteps_40 rfl ?_
    rw [sumN, if_pos (by omega)] at ih
    exact ih
  exact loop 0 (Nat.zero_le _)
end Mvs2
