/-! The face: at, reach, plan, the trial -/
theorem gd.C0 {S : Sg} (h : gd S) : 0 ≤ (sC S).toInt := h.1.2.2.2.2.1
theorem gd.sy8 {S : Sg} (h : gd S) : ∀ j, j < 12 → (sSy S j).toInt ≤ 8 := fun j hj => (h.2.1 j hj).2
theorem cls.w {v v' : Nat → Nat → Int32} {b : Nat → Nat → Bool} {S : Sg} (h : cls v b S) (hw : wFr v v') : cls v' b S := h.cg (fun p hp => hw p (by omega) (by omega) (by omega) (by omega)) rfl rfl
section Face2
variable {G : cx_G} {v : Nat → Nat → Int32} {b : Nat → Nat → Bool}
set_option maxHeartbeats 4000000 in
set_option maxRecDepth 100000 in
theorem ct_T_isInReach {S : Sg} (hg : gd S) (h : cls v b S) {j : Nat} (hj : j < 3) {z r : Int32} (hp : posB z r = true) : Ct G mT_isInReach [.ref (cxa G 0), .ref (cxa G (4 + 3 * j)), .int z, .int r] (wl G v b) (fun x w' => ∃ v', w' = wl G v' b ∧ wFr v v' ∧ x = some (.int (bI (okI (sC S) (sSy S) (sK S j) (pnum z r))))) := by
  obtain ⟨p1, p2, p3, p4⟩ := posB_nat hp
  refine Ct.of (by decide) rfl rfl (Nat.le_of_ble_eq_true rfl) ?_
  refine Ev.aload_n (pc := 0) (i := 0) dT_isInReach_0 rfl rfl ?_
  refine Ev.gf (pc := 1) dT_isInReach_1 fl_T_57 (by omega) (rfl) rfl ?_
  refine Ev.aload_n (pc := 4) (i := 1) dT_isInReach_4 rfl rfl ?_
  refine Ev.callV (pc := 5) dT_isInReach_5 kv_T_141 ⟨Nat.le_of_ble_eq_true rfl, Nat.le_of_ble_eq_true rfl⟩ (wl_at (by decide) rfl) rfl rfl (ct_W_exploreFromHome hj (h.2.1 j hj) h.1.2.2.1 h.1.2.2.2 hg.C0 (hg.2.2.1 j hj).2 hg.sy8) rfl rfl (Nat.le_of_ble_eq_true rfl) ?_
  rintro _ _ ⟨rfl, v1, rfl, hF, hall⟩
  refine Ev.aload_n (pc := 8) (i := 0) dT_isInReach_8 rfl rfl ?_
  refine Ev.gf (pc := 9) dT_isInReach_9 fl_T_57 (by omega) (rfl) rfl ?_
  refine Ev.iload_n (pc := 12) (i := 2) dT_isInReach_12 rfl rfl ?_
  refine Ev.iload_n (pc := 13) (i := 3) dT_isInReach_13 rfl rfl ?_
  refine Ev.callS (pc := 14) dT_isInReach_14 ks_T_151 ⟨Nat.le_of_ble_eq_true rfl, Nat.le_of_ble_eq_true rfl⟩ (ct_T_positionOf z r) rfl rfl (Nat.le_of_ble_eq_true rfl) ?_
  rintro _ _ ⟨rfl, rfl⟩
  refine Ev.topi p4 ?_
  refine Ev.callV (pc := 17) dT_isInReach_17 kv_T_155 ⟨Nat.le_of_ble_eq_true rfl, Nat.le_of_ble_eq_true rfl⟩ (wl_at (by decide) rfl) rfl rfl (ct_W_isFound p3) rfl rfl (Nat.le_of_ble_eq_true rfl) ?_
  rintro _ _ ⟨rfl, rfl⟩
  rw [hall _ p3]
  exact Ev.zreturn dT_isInReach_20 rfl ⟨v1, rfl, hF, rfl⟩
set_option maxHeartbeats 4000000 in
set_option maxRecDepth 100000 in
theorem ct_T_at {S : Sg} (hg : gd S) (h : cls v b S) (i z r w : Int32) : Ct G mT_at [.ref (cxa G 0), .int i, .int z, .int r, .int w] (wl G v b) (clQ G v b (some (.int (bI (aAt S i z r w)))) S) := by
  refine Ct.of (by decide) rfl rfl (Nat.le_of_ble_eq_true rfl) ?_
  refine Ev.iload_n (pc := 0) (i := 1) dT_at_0 rfl rfl ?_
  refine Ev.callS (pc := 1) dT_at_1 ks_T_106 ⟨Nat.le_of_ble_eq_true rfl, Nat.le_of_ble_eq_true rfl⟩ (ct_T_isInsert i) rfl rfl (Nat.le_of_ble_eq_true rfl) ?_
  rintro _ _ ⟨rfl, rfl⟩
  refine Ev.if_eqB (pc := 4) (tgt := 15) dT_at_4 rfl (fun h1 => ?_) (fun h1 => ?_)
  · refine Ev.iconst (pc := 15) (v := 0) dT_at_15 (by decide) ?_
    exact Ev.zreturn (b := false) dT_at_16 rfl (⟨v, b, rfl, ret_f (by simp [aAt, h1]), h, fun _ _ => ⟨rfl, rfl⟩⟩)
  refine Ev.iload_n (pc := 7) (i := 2) dT_at_7 rfl rfl ?_
  refine Ev.iload_n (pc := 8) (i := 3) dT_at_8 rfl rfl ?_
  refine Ev.callS (pc := 9) dT_at_9 ks_T_124 ⟨Nat.le_of_ble_eq_true rfl, Nat.le_of_ble_eq_true rfl⟩ (ct_T_isPosition z r) rfl rfl (Nat.le_of_ble_eq_true rfl) ?_
  rintro _ _ ⟨rfl, rfl⟩
  refine Ev.if_neB (pc := 12) (tgt := 17) dT_at_12 rfl (fun h2 => ?_) (fun h2 => ?_)
  · obtain ⟨ei, hj⟩ := insB_nat h1
    obtain ⟨p1, p2, p3, p4⟩ := posB_nat h2
    have ha : aAt S i z r w = (if w.toInt = 0 then okI (sC S) (sSy S) (sK S i.toInt.toNat) (pnum z r) else if w.toInt = 1 then decide (0 < (sK S i.toInt.toNat).1) && okI (sC S) (sSy S) (sK S i.toInt.toNat) (pnum z r) else if w.toInt = 2 then anyB (sK S i.toInt.toNat).1 (fun a => wasteB (sRd S) (sLn S) (sSy S) (zP (pnum z r) + (sK S i.toInt.toNat).2.1 a) (rP (pnum z r) + (sK S i.toInt.toNat).2.2 a)) else false) := by
      unfold aAt
      rw [h1, h2]
      rfl
    rw [ha]
    clear ha
    generalize hje : i.toInt.toNat = j at ei hj
    have hI := h.2.1 j hj
    have hnI : (v (4 + 3 * j) 0).toInt = ((sK S j).1 : Int) := by rw [hI.1]; exact nI_toInt (by have := hI.2.1; omega)
    refine Ev.aload_n (pc := 17) (i := 0) dT_at_17 rfl rfl ?_
    refine Ev.gf (pc := 18) dT_at_18 fl_T_19 (by omega) (rfl) rfl ?_
    refine Ev.iload_n (pc := 21) (i := 1) dT_at_21 rfl rfl ?_
    refine Ev.aaload (pc := 22) dT_at_22 (wl_at (by decide) rfl) _ (ei) (by omega) (by decide) rfl ?_
    refine Ev.astore (pc := 23) dT_at_23 (Nat.le_of_ble_eq_true rfl) ?_
    refine Ev.iload (pc := 25) dT_at_25 rfl ?_
    by_cases c0 : w.toInt = 0
    · rw [if_pos c0]
      refine Ev.tableIn (pc := 27) (tgt := 52) dT_at_27 0 (by omega) (by decide) rfl rfl ?_
      refine Ev.aload (pc := 52) dT_at_52 rfl ?_
      refine Ev.aload_n (pc := 54) (i := 0) dT_at_54 rfl rfl ?_
      refine Ev.gf (pc := 55) dT_at_55 fl_T_12 (by omega) (rfl) rfl ?_
      refine Ev.iload_n (pc := 58) (i := 2) dT_at_58 rfl rfl ?_
      refine Ev.iload_n (pc := 59) (i := 3) dT_at_59 rfl rfl ?_
      refine Ev.callV (pc := 60) dT_at_60 kv_T_127 ⟨Nat.le_of_ble_eq_true rfl, Nat.le_of_ble_eq_true rfl⟩ (wl_ins hj) rfl rfl (ct_I_isSafe hj hI.1 hI.2.1 z r) rfl rfl (Nat.le_of_ble_eq_true rfl) ?_
      rintro _ _ ⟨rfl, rfl⟩
      refine Ev.zreturn dT_at_63 rfl ⟨v, b, rfl, ?_, h, fun _ _ => ⟨rfl, rfl⟩⟩
      rw [h.1.2.2.1, h.1.2.2.2, hI.2.2.1, hI.2.2.2]
      unfold okI safeP
      rw [← p1, ← p2]
    rw [if_neg c0]
    by_cases c1 : w.toInt = 1
    · rw [if_pos c1]
      refine Ev.tableIn (pc := 27) (tgt := 64) dT_at_27 1 (by omega) (by decide) rfl rfl ?_
      refine Ev.aload (pc := 64) dT_at_64 rfl ?_
      refine Ev.gf (pc := 66) dT_at_66 fl_T_114 (by omega) (cell_ins hj _ _) rfl ?_
      refine Ev.cif_le (hnI) (pc := 69) (tgt := 87) dT_at_69 rfl (fun h3 => ?_) (fun h3 => ?_)
      · refine Ev.iconst (pc := 87) (v := 0) dT_at_87 (by decide) ?_
        exact Ev.zreturn (b := false) dT_at_88 rfl (⟨v, b, rfl, ret_f (by rw [decide_eq_false (by omega)]; rfl), h, fun _ _ => ⟨rfl, rfl⟩⟩)
      refine Ev.aload_n (pc := 72) (i := 0) dT_at_72 rfl rfl ?_
      refine Ev.aload (pc := 73) dT_at_73 rfl ?_
      refine Ev.iload_n (pc := 75) (i := 2) dT_at_75 rfl rfl ?_
      refine Ev.iload_n (pc := 76) (i := 3) dT_at_76 rfl rfl ?_
      refine Ev.callV (pc := 77) dT_at_77 kv_T_131 ⟨Nat.le_of_ble_eq_true rfl, Nat.le_of_ble_eq_true rfl⟩ (wl_at (by decide) rfl) rfl rfl (ct_T_isInReach hg h hj h2) rfl rfl (Nat.le_of_ble_eq_true rfl) ?_
      rintro _ _ ⟨v1, rfl, hF, rfl⟩
      have hd : decide (0 < (sK S j).1) = true := decide_eq_true (by omega)
      rw [hd]
      refine Ev.if_eqB (pc := 80) (tgt := 87) dT_at_80 rfl (fun h4 => ?_) (fun h4 => ?_)
      · refine Ev.iconst (pc := 87) (v := 0) dT_at_87 (by decide) ?_
        exact Ev.zreturn (b := false) dT_at_88 rfl (⟨v1, b, rfl, ret_f (by rw [h4]; rfl), h.w hF, fun p hp => ⟨hF p (by omega) (by omega) (by omega) (by omega), rfl⟩⟩)
      · refine Ev.iconst (pc := 83) (v := 1) dT_at_83 (by decide) ?_
        refine Ev.goto (pc := 84) (tgt := 88) dT_at_84 rfl ?_
        exact Ev.zreturn (b := true) dT_at_88 rfl (⟨v1, b, rfl, ret_t (by rw [h4]; rfl), h.w hF, fun p hp => ⟨hF p (by omega) (by omega) (by omega) (by omega), rfl⟩⟩)
    rw [if_neg c1]
    by_cases c2 : w.toInt = 2
    · rw [if_pos c2]
      refine Ev.tableIn (pc := 27) (tgt := 89) dT_at_27 2 (by omega) (by decide) rfl rfl ?_
      refine Ev.aload (pc := 89) dT_at_89 rfl ?_
      refine Ev.aload_n (pc := 91) (i := 0) dT_at_91 rfl rfl ?_
      refine Ev.gf (pc := 92) dT_at_92 fl_T_12 (by omega) (rfl) rfl ?_
      refine Ev.iload_n (pc := 95) (i := 2) dT_at_95 rfl rfl ?_
      refine Ev.iload_n (pc := 96) (i := 3) dT_at_96 rfl rfl ?_
      refine Ev.callV (pc := 97) dT_at_97 kv_T_135 ⟨Nat.le_of_ble_eq_true rfl, Nat.le_of_ble_eq_true rfl⟩ (wl_ins hj) rfl rfl (ct_I_coversWaste hj hI.1 hI.2.1 z r) rfl rfl (Nat.le_of_ble_eq_true rfl) ?_
      rintro _ _ ⟨rfl, rfl⟩
      refine Ev.zreturn dT_at_100 rfl ⟨v, b, rfl, ?_, h, fun _ _ => ⟨rfl, rfl⟩⟩
      rw [h.1.1, h.1.2.1, h.1.2.2.2, hI.2.2.1, hI.2.2.2, ← p1, ← p2]
    rw [if_neg c2]
    refine Ev.tableOut (pc := 27) (tgt := 101) dT_at_27 (by omega) rfl ?_
    refine Ev.iconst (pc := 101) (v := 0) dT_at_101 (by decide) ?_
    exact Ev.zreturn (b := false) dT_at_102 rfl (⟨v, b, rfl, rfl, h, fun _ _ => ⟨rfl, rfl⟩⟩)
  · refine Ev.iconst (pc := 15) (v := 0) dT_at_15 (by decide) ?_
    exact Ev.zreturn (b := false) dT_at_16 rfl (⟨v, b, rfl, ret_f (by simp [aAt, h2]), h, fun _ _ => ⟨rfl, rfl⟩⟩)
set_option maxHeartbeats 4000000 in
set_option maxRecDepth 100000 in
theorem ct_T_reach {S : Sg} (hg : gd S) (h : cls v b S) (i z r : Int32) : Ct G mT_reach [.ref (cxa G 0), .int i, .int z, .int r] (wl G v b) (clQ G v b (some (.int (bI (aRea S i z r)))) S) := by
  refine Ct.of (by decide) rfl rfl (Nat.le_of_ble_eq_true rfl) ?_
  refine Ev.iload_n (pc := 0) (i := 1) dT_reach_0 rfl rfl ?_
  refine Ev.callS (pc := 1) dT_reach_1 ks_T_106 ⟨Nat.le_of_ble_eq_true rfl, Nat.le_of_ble_eq_true rfl⟩ (ct_T_isInsert i) rfl rfl (Nat.le_of_ble_eq_true rfl) ?_
  rintro _ _ ⟨rfl, rfl⟩
  refine Ev.if_eqB (pc := 4) (tgt := 15) dT_reach_4 rfl (fun h1 => ?_) (fun h1 => ?_)
  · refine Ev.iconst (pc := 15) (v := 0) dT_reach_15 (by decide) ?_
    exact Ev.zreturn (b := false) dT_reach_16 rfl (⟨v, b, rfl, ret_f (by simp [aRea, h1]), h, fun _ _ => ⟨rfl, rfl⟩⟩)
  refine Ev.iload_n (pc := 7) (i := 2) dT_reach_7 rfl rfl ?_
  refine Ev.iload_n (pc := 8) (i := 3) dT_reach_8 rfl rfl ?_
  refine Ev.callS (pc := 9) dT_reach_9 ks_T_138 ⟨Nat.le_of_ble_eq_true rfl, Nat.le_of_ble_eq_true rfl⟩ (ct_T_isCell z r) rfl rfl (Nat.le_of_ble_eq_true rfl) ?_
  rintro _ _ ⟨rfl, rfl⟩
  refine Ev.if_neB (pc := 12) (tgt := 17) dT_reach_12 rfl (fun h2 => ?_) (fun h2 => ?_)
  · obtain ⟨ei, hj⟩ := insB_nat h1
    have ha : aRea S i z r = anyB (sK S i.toInt.toNat).1 (fun a => posB (z - (sK S i.toInt.toNat).2.1 a) (r - (sK S i.toInt.toNat).2.2 a) && okI (sC S) (sSy S) (sK S i.toInt.toNat) (pnum (z - (sK S i.toInt.toNat).2.1 a) (r - (sK S i.toInt.toNat).2.2 a))) := by
      unfold aRea
      rw [h1, h2]
      rfl
    rw [ha]
    clear ha
    generalize hje : i.toInt.toNat = j at ei hj
    refine Ev.aload_n (pc := 17) (i := 0) dT_reach_17 rfl rfl ?_
    refine Ev.gf (pc := 18) dT_reach_18 fl_T_19 (by omega) (rfl) rfl ?_
    refine Ev.iload_n (pc := 21) (i := 1) dT_reach_21 rfl rfl ?_
    refine Ev.aaload (pc := 22) dT_reach_22 (wl_at (by decide) rfl) _ (ei) (by omega) (by decide) rfl ?_
    refine Ev.astore (pc := 23) dT_reach_23 (Nat.le_of_ble_eq_true rfl) ?_
    refine Ev.aload_n (pc := 25) (i := 0) dT_reach_25 rfl rfl ?_
    refine Ev.gf (pc := 26) dT_reach_26 fl_T_57 (by omega) (rfl) rfl ?_
    refine Ev.aload (pc := 29) dT_reach_29 rfl ?_
    refine Ev.callV (pc := 31) dT_reach_31 kv_T_141 ⟨Nat.le_of_ble_eq_true rfl, Nat.le_of_ble_eq_true rfl⟩ (wl_at (by decide) rfl) rfl rfl (ct_W_exploreFromHome hj (h.2.1 j hj) h.1.2.2.1 h.1.2.2.2 hg.C0 (hg.2.2.1 j hj).2 hg.sy8) rfl rfl (Nat.le_of_ble_eq_true rfl) ?_
    rintro _ _ ⟨rfl, v1, rfl, hF, hall⟩
    have h' := h.w hF
    have hI := h'.2.1 j hj
    have h8 := hI.2.1
    have hnI : (v1 (4 + 3 * j) 0).toInt = ((sK S j).1 : Int) := by rw [hI.1]; exact nI_toInt (by omega)
    refine Ev.iconst (pc := 34) (v := 0) dT_reach_34 (by decide) ?_
    refine Ev.istore (pc := 35) dT_reach_35 (Nat.le_of_ble_eq_true rfl) ?_
    have loop : ∀ a, a ≤ (sK S j).1 → ∀ l6 l7 : Option Value, (∀ c, c < a → (fun a => posB (z - (sK S j).2.1 a) (r - (sK S j).2.2 a) && okI (sC S) (sSy S) (sK S j) (pnum (z - (sK S j).2.1 a) (r - (sK S j).2.2 a))) c = false) → Ev G mT_reach 37 [some (.ref (cxa G 0)), some (.int i), some (.int z), some (.int r), some (.ref (cxa G (4 + 3 * j))), some (.int (nI a)), l6, l7] [] (wl G v1 b) (cx_e G mT_reach (clQ G v b (some (.int (bI (anyB (sK S j).1 (fun a => posB (z - (sK S j).2.1 a) (r - (sK S j).2.2 a) && okI (sC S) (sSy S) (sK S j) (pnum (z - (sK S j).2.1 a) (r - (sK S j).2.2 a))))))) S)) := by
      refine loopN (fun a hia ih l6 l7 hinv => ?_)
      refine Ev.iload (pc := 37) dT_reach_37 rfl ?_
      refine Ev.aload (pc := 39) dT_reach_39 rfl ?_
      refine Ev.gf (pc := 41) dT_reach_41 fl_T_114 (by omega) (cell_ins hj _ _) rfl ?_
      refine Ev.cicmp_ge (nI_toInt (by omega)) (hnI) (pc := 44) (tgt := 106) dT_reach_44 rfl (fun h3 => ?_) (fun h3 => ?_)
      · refine Ev.iconst (pc := 106) (v := 0) dT_reach_106 (by decide) ?_
        exact Ev.zreturn (b := false) dT_reach_107 rfl (⟨v1, b, rfl, ret_f (anyB_not (fun c hc => hinv c (by omega))), h', fun p hp => ⟨hF p (by omega) (by omega) (by omega) (by omega), rfl⟩⟩)
      have hlt : a < (sK S j).1 := by omega
      refine Ev.iload_n (pc := 47) (i := 2) dT_reach_47 rfl rfl ?_
      refine Ev.aload (pc := 48) dT_reach_48 rfl ?_
      refine Ev.gf (pc := 50) dT_reach_50 fl_T_145 (by omega) (cell_ins hj _ _) rfl ?_
      refine Ev.iload (pc := 53) dT_reach_53 rfl ?_
      refine Ev.aldi (pc := 55) dT_reach_55 (by omega) (by first | exact fun _ _ => rfl | exact cell_dz hj | exact cell_dr hj | exact cell_mr hk | exact cell_sr hk) _ (rfl) (by omega) (by decide) ?_
      refine Ev.isub (pc := 56) dT_reach_56 ?_
      refine Ev.istore (pc := 57) dT_reach_57 (Nat.le_of_ble_eq_true rfl) ?_
      refine Ev.iload_n (pc := 59) (i := 3) dT_reach_59 rfl rfl ?_
      refine Ev.aload (pc := 60) dT_reach_60 rfl ?_
      refine Ev.gf (pc := 62) dT_reach_62 fl_T_148 (by omega) (cell_ins hj _ _) rfl ?_
      refine Ev.iload (pc := 65) dT_reach_65 rfl ?_
      refine Ev.aldi (pc := 67) dT_reach_67 (by omega) (by first | exact fun _ _ => rfl | exact cell_dz hj | exact cell_dr hj | exact cell_mr hk | exact cell_sr hk) _ (rfl) (by omega) (by decide) ?_
      refine Ev.isub (pc := 68) dT_reach_68 ?_
      refine Ev.istore (pc := 69) dT_reach_69 (Nat.le_of_ble_eq_true rfl) ?_
      refine Ev.iload (pc := 71) dT_reach_71 rfl ?_
      refine Ev.iload (pc := 73) dT_reach_73 rfl ?_
      refine Ev.callS (pc := 75) dT_reach_75 ks_T_124 ⟨Nat.le_of_ble_eq_true rfl, Nat.le_of_ble_eq_true rfl⟩ (ct_T_isPosition _ _) rfl rfl (Nat.le_of_ble_eq_true rfl) ?_
      rintro _ _ ⟨rfl, rfl⟩
      rw [hI.2.2.1, hI.2.2.2]
      refine Ev.if_eqB (pc := 78) (tgt := 100) dT_reach_78 rfl (fun h4 => ?_) (fun h4 => ?_)
      · refine Ev.iinc (pc := 100) dT_reach_100 rfl (cx_inc _) (Nat.le_of_ble_eq_true rfl) ?_
        refine Ev.goto (pc := 103) (tgt := 37) dT_reach_103 rfl ?_
        exact ih hlt _ _ (snoc_all hinv (by show (_ && _) = false; rw [h4]; rfl))
      obtain ⟨p1, p2, p3, p4⟩ := posB_nat h4
      refine Ev.aload_n (pc := 81) (i := 0) dT_reach_81 rfl rfl ?_
      refine Ev.gf (pc := 82) dT_reach_82 fl_T_57 (by omega) (rfl) rfl ?_
      refine Ev.iload (pc := 85) dT_reach_85 rfl ?_
      refine Ev.iload (pc := 87) dT_reach_87 rfl ?_
      refine Ev.callS (pc := 89) dT_reach_89 ks_T_151 ⟨Nat.le_of_ble_eq_true rfl, Nat.le_of_ble_eq_true rfl⟩ (ct_T_positionOf _ _) rfl rfl (Nat.le_of_ble_eq_true rfl) ?_
      rintro _ _ ⟨rfl, rfl⟩
      refine Ev.topi p4 ?_
      refine Ev.callV (pc := 92) dT_reach_92 kv_T_155 ⟨Nat.le_of_ble_eq_true rfl, Nat.le_of_ble_eq_true rfl⟩ (wl_at (by decide) rfl) rfl rfl (ct_W_isFound p3) rfl rfl (Nat.le_of_ble_eq_true rfl) ?_
      rintro _ _ ⟨rfl, rfl⟩
      rw [hall _ p3]
      refine Ev.if_eqB (pc := 95) (tgt := 100) dT_reach_95 rfl (fun h5 => ?_) (fun h5 => ?_)
      · refine Ev.iinc (pc := 100) dT_reach_100 rfl (cx_inc _) (Nat.le_of_ble_eq_true rfl) ?_
        refine Ev.goto (pc := 103) (tgt := 37) dT_reach_103 rfl ?_
        exact ih hlt _ _ (snoc_all hinv (by show (_ && _) = false; rw [h4, h5]; rfl))
      · refine Ev.iconst (pc := 98) (v := 1) dT_reach_98 (by decide) ?_
        exact Ev.zreturn (b := true) dT_reach_99 rfl (⟨v1, b, rfl, ret_t (anyB_iff.mpr ⟨a, hlt, by show (_ && _) = true; rw [h4, h5]; rfl⟩), h', fun p hp => ⟨hF p (by omega) (by omega) (by omega) (by omega), rfl⟩⟩)
    exact loop 0 (Nat.zero_le _) none none (fun c hc => absurd hc (by omega))
  · refine Ev.iconst (pc := 15) (v := 0) dT_reach_15 (by decide) ?_
    exact Ev.zreturn (b := false) dT_reach_16 rfl (⟨v, b, rfl, ret_f (by simp [aRea, h2]), h, fun _ _ => ⟨rfl, rfl⟩⟩)
end Face2
