/-! The reference's face: at, reach, move, edit, undo, stock, left, steps -/
theorem mdl.cgb {v : Nat → Nat → Int32} {b b' : Nat → Nat → Bool} {S : Sg} (h : mdl v b S) (h1 : b' 30 = b 30) (h2 : b' 42 = b 42) : mdl v b' S := ⟨h.1, h.2.1, h.2.2.1, by rw [h1]; exact h.2.2.2.1, h.2.2.2.2.1, h.2.2.2.2.2.1, by rw [h1, h2]; exact h.2.2.2.2.2.2.1, by rw [h1]; exact h.2.2.2.2.2.2.2⟩
theorem cix_dm {z r : Int32} (h : cellB z r = true) : nI (cix z r / 8) = z ∧ nI (cix z r % 8) = r := by
  have hc := cellB_iff.mp h
  have e1 : cix z r / 8 = z.toInt.toNat := by unfold cix; omega
  have e2 : cix z r % 8 = r.toInt.toNat := by unfold cix; omega
  rw [e1, e2]
  exact ⟨(nI_nat hc.1).symm, (nI_nat hc.2.2.1).symm⟩
section Mf2
variable {G : cx_G} {v : Nat → Nat → Int32} {b : Nat → Nat → Bool}
theorem waste_eq {S : Sg} {j p : Nat} : anyB 96 (fun c => barB (sRd S) (sLn S) (nI (c / 8)) (nI (c % 8)) && decide ((sSy S (c / 8)).toInt ≤ (nI (c % 8)).toInt) && anyB (sK S j).1 (fun a => decide ((zP p + (sK S j).2.1 a).toInt = (nI (c / 8)).toInt) && decide ((rP p + (sK S j).2.2 a).toInt = (nI (c % 8)).toInt))) = anyB (sK S j).1 (fun a => wasteB (sRd S) (sLn S) (sSy S) (zP p + (sK S j).2.1 a) (rP p + (sK S j).2.2 a)) := by
  have key : anyB 96 (fun c => barB (sRd S) (sLn S) (nI (c / 8)) (nI (c % 8)) && decide ((sSy S (c / 8)).toInt ≤ (nI (c % 8)).toInt) && anyB (sK S j).1 (fun a => decide ((zP p + (sK S j).2.1 a).toInt = (nI (c / 8)).toInt) && decide ((rP p + (sK S j).2.2 a).toInt = (nI (c % 8)).toInt))) = true ↔ anyB (sK S j).1 (fun a => wasteB (sRd S) (sLn S) (sSy S) (zP p + (sK S j).2.1 a) (rP p + (sK S j).2.2 a)) = true := by
    rw [anyB_iff, anyB_iff]
    constructor
    · rintro ⟨c, hc, h⟩
      simp only [Bool.and_eq_true, decide_eq_true_eq] at h
      obtain ⟨⟨h1, h2⟩, h3⟩ := h
      obtain ⟨a, ha, h4⟩ := anyB_iff.mp h3
      simp only [Bool.and_eq_true, decide_eq_true_eq] at h4
      have e1 := Int32.toInt_inj.mp h4.1
      have e2 := Int32.toInt_inj.mp h4.2
      refine ⟨a, ha, wasteB_iff.mpr ?_⟩
      rw [e1, e2]
      refine ⟨h1, ?_⟩
      rw [nI_toInt (n := c / 8) (by omega)]
      exact h2
    · rintro ⟨a, ha, h⟩
      obtain ⟨h1, h2⟩ := wasteB_iff.mp h
      have hcell := (barB_iff.mp h1).1
      obtain ⟨e1, e2⟩ := cix_dm hcell
      refine ⟨cix (zP p + (sK S j).2.1 a) (rP p + (sK S j).2.2 a), (cix_i hcell).2, ?_⟩
      have e3 : cix (zP p + (sK S j).2.1 a) (rP p + (sK S j).2.2 a) / 8 = (zP p + (sK S j).2.1 a).toInt.toNat := by have := cellB_iff.mp hcell; unfold cix; omega
      simp only [Bool.and_eq_true, decide_eq_true_eq]
      rw [e1, e2, e3]
      exact ⟨⟨h1, h2⟩, anyB_iff.mpr ⟨a, ha, by simp⟩⟩
  cases h1 : anyB (sK S j).1 (fun a => wasteB (sRd S) (sLn S) (sSy S) (zP p + (sK S j).2.1 a) (rP p + (sK S j).2.2 a)) with
  | true => exact key.mpr h1
  | false => exact bf (fun q => by rw [key.mp q] at h1; cases h1)
theorem reach_eq {S : Sg} {j : Nat} {z r : Int32} : anyB 320 (fun p => inRF (sC S) (sSy S) (sK S j) p && anyB (sK S j).1 (fun a => decide ((zP p + (sK S j).2.1 a).toInt = z.toInt) && decide ((rP p + (sK S j).2.2 a).toInt = r.toInt))) = anyB (sK S j).1 (fun a => posB (z - (sK S j).2.1 a) (r - (sK S j).2.2 a) && okI (sC S) (sSy S) (sK S j) (pnum (z - (sK S j).2.1 a) (r - (sK S j).2.2 a))) := by
  have key : anyB 320 (fun p => inRF (sC S) (sSy S) (sK S j) p && anyB (sK S j).1 (fun a => decide ((zP p + (sK S j).2.1 a).toInt = z.toInt) && decide ((rP p + (sK S j).2.2 a).toInt = r.toInt))) = true ↔ anyB (sK S j).1 (fun a => posB (z - (sK S j).2.1 a) (r - (sK S j).2.2 a) && okI (sC S) (sSy S) (sK S j) (pnum (z - (sK S j).2.1 a) (r - (sK S j).2.2 a))) = true := by
    rw [anyB_iff, anyB_iff]
    constructor
    · rintro ⟨p, hp, h⟩
      simp only [Bool.and_eq_true, inRF] at h
      obtain ⟨⟨h1, h2⟩, h3⟩ := h
      obtain ⟨a, ha, h4⟩ := anyB_iff.mp h3
      simp only [Bool.and_eq_true, decide_eq_true_eq] at h4
      have e1 : z - (sK S j).2.1 a = zP p := by rw [← Int32.toInt_inj.mp h4.1]; simp
      have e2 : r - (sK S j).2.2 a = rP p := by rw [← Int32.toInt_inj.mp h4.2]; simp
      refine ⟨a, ha, ?_⟩
      simp only [Bool.and_eq_true]
      rw [e1, e2, pnum_P hp]
      refine ⟨posB_iff.mpr ?_, h2⟩
      have := zP_b hp
      have := rP_b p
      omega
    · rintro ⟨a, ha, h⟩
      simp only [Bool.and_eq_true] at h
      obtain ⟨h1, h2⟩ := h
      obtain ⟨p1, p2, p3, p4⟩ := posB_nat h1
      refine ⟨_, p3, ?_⟩
      simp only [Bool.and_eq_true, inRF, decide_eq_true_eq]
      refine ⟨⟨by omega, h2⟩, anyB_iff.mpr ⟨a, ha, ?_⟩⟩
      rw [← p1, ← p2]
      simp
  cases h1 : anyB (sK S j).1 (fun a => posB (z - (sK S j).2.1 a) (r - (sK S j).2.2 a) && okI (sC S) (sSy S) (sK S j) (pnum (z - (sK S j).2.1 a) (r - (sK S j).2.2 a))) with
  | true => exact key.mpr h1
  | false => exact bf (fun q => by rw [key.mp q] at h1; cases h1)
set_option maxHeartbeats 4000000 in
set_option maxRecDepth 100000 in
theorem ct_D_at {S : Sg} (hg : gd S) (h : mdl v b S) (i z r w : Int32) : Ct G mD_at [.ref (cxa G 30), .int i, .int z, .int r, .int w] (wl G v b) (mdQ G v b (some (.int (bI (aAt S i z r w)))) S) := by
  have no : aAt S i z r w = false → Ev G mD_at 26 [some (.ref (cxa G 30)), some (.int i), some (.int z), some (.int r), some (.int w), none, none, none] [] (wl G v b) (cx_e G mD_at (mdQ G v b (some (.int (bI (aAt S i z r w)))) S)) := by
    intro hq
    refine Ev.iconst (pc := 26) (v := 0) dD_at_26 (by decide) ?_
    exact Ev.zreturn (b := false) dD_at_27 rfl (⟨v, b, rfl, ret_f hq, h, fun _ _ => ⟨rfl, rfl⟩⟩)
  refine Ct.of (by decide) rfl rfl (Nat.le_of_ble_eq_true rfl) ?_
  refine Ev.iload_n (pc := 0) (i := 1) dD_at_0 rfl rfl ?_
  refine Ev.callS (pc := 1) dD_at_1 ks_D_82 ⟨Nat.le_of_ble_eq_true rfl, Nat.le_of_ble_eq_true rfl⟩ (ct_D_isInsert i) rfl rfl (Nat.le_of_ble_eq_true rfl) ?_
  rintro _ _ ⟨rfl, rfl⟩
  refine Ev.if_eqB (pc := 4) (tgt := 26) dD_at_4 rfl (fun h1 => ?_) (fun h1 => ?_)
  · exact no (by simp [aAt, h1])
  refine Ev.iload_n (pc := 7) (i := 2) dD_at_7 rfl rfl ?_
  refine Ev.iload_n (pc := 8) (i := 3) dD_at_8 rfl rfl ?_
  refine Ev.callS (pc := 9) dD_at_9 ks_D_96 ⟨Nat.le_of_ble_eq_true rfl, Nat.le_of_ble_eq_true rfl⟩ (ct_D_isPosition z r) rfl rfl (Nat.le_of_ble_eq_true rfl) ?_
  rintro _ _ ⟨rfl, rfl⟩
  refine Ev.if_eqB (pc := 12) (tgt := 26) dD_at_12 rfl (fun h2 => ?_) (fun h2 => ?_)
  · exact no (by simp [aAt, h2])
  obtain ⟨ei, hj⟩ := insB_nat h1
  obtain ⟨p1, p2, p3, p4⟩ := posB_nat h2
  have ha : aAt S i z r w = (if w.toInt = 0 then okI (sC S) (sSy S) (sK S i.toInt.toNat) (pnum z r) else if w.toInt = 1 then decide (0 < (sK S i.toInt.toNat).1) && okI (sC S) (sSy S) (sK S i.toInt.toNat) (pnum z r) else if w.toInt = 2 then anyB (sK S i.toInt.toNat).1 (fun a => wasteB (sRd S) (sLn S) (sSy S) (zP (pnum z r) + (sK S i.toInt.toNat).2.1 a) (rP (pnum z r) + (sK S i.toInt.toNat).2.2 a)) else false) := by
    unfold aAt
    rw [h1, h2]
    rfl
  refine Ev.iload (pc := 15) dD_at_15 rfl ?_
  refine Ev.cif_lt (rfl) (pc := 17) (tgt := 26) dD_at_17 rfl (fun h3 => ?_) (fun h3 => ?_)
  · exact no (by rw [ha, if_neg (by omega), if_neg (by omega), if_neg (by omega)])
  refine Ev.iload (pc := 20) dD_at_20 rfl ?_
  refine Ev.iconst (pc := 22) (v := 2) dD_at_22 (by decide) ?_
  refine Ev.cicmp_le (rfl) ((show (2 : Int32).toInt = 2 from by decide)) (pc := 23) (tgt := 28) dD_at_23 rfl (fun h4 => ?_) (fun h4 => ?_)
  · clear no
    rw [ha]
    clear ha
    generalize hje : i.toInt.toNat = j at ei hj
    subst ei
    generalize hpe : pnum z r = p at p1 p2 p3 p4
    have hI := h.2.1 j hj
    refine Ev.iload_n (pc := 28) (i := 2) dD_at_28 rfl rfl ?_
    refine Ev.iload_n (pc := 29) (i := 3) dD_at_29 rfl rfl ?_
    refine Ev.callS (pc := 30) dD_at_30 ks_D_100 ⟨Nat.le_of_ble_eq_true rfl, Nat.le_of_ble_eq_true rfl⟩ (ct_D_number h2) rfl rfl (Nat.le_of_ble_eq_true rfl) ?_
    rintro _ _ ⟨rfl, rfl⟩
    rw [hpe]
    refine Ev.istore (pc := 33) dD_at_33 (Nat.le_of_ble_eq_true rfl) ?_
    refine Ev.iload (pc := 35) dD_at_35 rfl ?_
    refine Ev.cif_ne (rfl) (pc := 37) (tgt := 48) dD_at_37 rfl (fun h5 => ?_) (fun h5 => ?_)
    · refine Ev.iload (pc := 48) dD_at_48 rfl ?_
      refine Ev.iconst (pc := 50) (v := 1) dD_at_50 (by decide) ?_
      rw [if_neg h5]
      refine Ev.cicmp_ne (rfl) ((show (1 : Int32).toInt = 1 from by decide)) (pc := 51) (tgt := 67) dD_at_51 rfl (fun h6 => ?_) (fun h6 => ?_)
      · rw [if_neg h6, if_pos (by omega), ← waste_eq]
        refine Ev.iconst (pc := 67) (v := 0) dD_at_67 (by decide) ?_
        refine Ev.istore (pc := 68) dD_at_68 (Nat.le_of_ble_eq_true rfl) ?_
        refine Ev.iconst (pc := 70) (v := 0) dD_at_70 (by decide) ?_
        refine Ev.istore (pc := 71) dD_at_71 (Nat.le_of_ble_eq_true rfl) ?_
        have loop : ∀ i, i ≤ 96 → Ev G mD_at 73 [some (.ref (cxa G 30)), some (.int (nI j)), some (.int z), some (.int r), some (.int w), some (.int (nI p)), some (.int (bI (anyB i (fun c => barB (sRd S) (sLn S) (nI (c / 8)) (nI (c % 8)) && decide ((sSy S (c / 8)).toInt ≤ (nI (c % 8)).toInt) && anyB (sK S j).1 (fun a => decide ((zP p + (sK S j).2.1 a).toInt = (nI (c / 8)).toInt) && decide ((rP p + (sK S j).2.2 a).toInt = (nI (c % 8)).toInt)))))), some (.int (nI i))] [] (wl G v b) (cx_e G mD_at (mdQ G v b (some (.int (bI (anyB 96 (fun c => barB (sRd S) (sLn S) (nI (c / 8)) (nI (c % 8)) && decide ((sSy S (c / 8)).toInt ≤ (nI (c % 8)).toInt) && anyB (sK S j).1 (fun a => decide ((zP p + (sK S j).2.1 a).toInt = (nI (c / 8)).toInt) && decide ((rP p + (sK S j).2.2 a).toInt = (nI (c % 8)).toInt))))))) S)) := by
          refine loopN (fun i hi ih => ?_)
          refine Ev.iload (pc := 73) dD_at_73 rfl ?_
          refine Ev.bipush (pc := 75) (v := 96) dD_at_75 (by decide) ?_
          refine Ev.cicmp_ge (nI_toInt (by omega)) ((show (96 : Int32).toInt = 96 from by decide)) (pc := 77) (tgt := 153) dD_at_77 rfl (fun h7 => ?_) (fun h7 => ?_)
          · have e : i = 96 := by omega
            subst e
            refine Ev.iload (pc := 153) dD_at_153 rfl ?_
            exact Ev.zreturn dD_at_155 rfl ⟨v, b, rfl, rfl, h, fun _ _ => ⟨rfl, rfl⟩⟩
          have hlt : i < 96 := by omega
          have ih := ih hlt
          have fin : ∀ q : Bool, (anyB i (fun c => barB (sRd S) (sLn S) (nI (c / 8)) (nI (c % 8)) && decide ((sSy S (c / 8)).toInt ≤ (nI (c % 8)).toInt) && anyB (sK S j).1 (fun a => decide ((zP p + (sK S j).2.1 a).toInt = (nI (c / 8)).toInt) && decide ((rP p + (sK S j).2.2 a).toInt = (nI (c % 8)).toInt))) || (barB (sRd S) (sLn S) (nI (i / 8)) (nI (i % 8)) && decide ((sSy S (i / 8)).toInt ≤ (nI (i % 8)).toInt) && anyB (sK S j).1 (fun a => decide ((zP p + (sK S j).2.1 a).toInt = (nI (i / 8)).toInt) && decide ((rP p + (sK S j).2.2 a).toInt = (nI (i % 8)).toInt)))) = q → Ev G mD_at 145 [some (.ref (cxa G 30)), some (.int (nI j)), some (.int z), some (.int r), some (.int w), some (.int (nI p)), some (.int (bI (anyB i (fun c => barB (sRd S) (sLn S) (nI (c / 8)) (nI (c % 8)) && decide ((sSy S (c / 8)).toInt ≤ (nI (c % 8)).toInt) && anyB (sK S j).1 (fun a => decide ((zP p + (sK S j).2.1 a).toInt = (nI (c / 8)).toInt) && decide ((rP p + (sK S j).2.2 a).toInt = (nI (c % 8)).toInt)))))), some (.int (nI i))] [.int (bI q)] (wl G v b) (cx_e G mD_at (mdQ G v b (some (.int (bI (anyB 96 (fun c => barB (sRd S) (sLn S) (nI (c / 8)) (nI (c % 8)) && decide ((sSy S (c / 8)).toInt ≤ (nI (c % 8)).toInt) && anyB (sK S j).1 (fun a => decide ((zP p + (sK S j).2.1 a).toInt = (nI (c / 8)).toInt) && decide ((rP p + (sK S j).2.2 a).toInt = (nI (c % 8)).toInt))))))) S)) := by
            intro q hx
            rw [anyB, hx] at ih
            refine Ev.istore (pc := 145) dD_at_145 (Nat.le_of_ble_eq_true rfl) ?_
            refine Ev.iinc (pc := 147) dD_at_147 rfl (cx_inc _) (Nat.le_of_ble_eq_true rfl) ?_
            refine Ev.goto (pc := 150) (tgt := 73) dD_at_150 rfl ?_
            exact ih
          refine Ev.iload (pc := 80) dD_at_80 rfl ?_
          refine Ev.if_neB (pc := 82) (tgt := 140) dD_at_82 rfl (fun h8 => ?_) (fun h8 => ?_)
          · refine Ev.iconst (pc := 140) (v := 1) dD_at_140 (by decide) ?_
            refine Ev.goto (pc := 141) (tgt := 145) dD_at_141 rfl ?_
            exact fin true (by rw [h8]; rfl)
          refine Ev.aload_n (pc := 85) (i := 0) dD_at_85 rfl rfl ?_
          refine Ev.iload (pc := 86) dD_at_86 rfl ?_
          refine Ev.bipush (pc := 88) (v := 8) dD_at_88 (by decide) ?_
          refine Ev.idiv (pc := 90) dD_at_90 (by decide) ?_
          refine Ev.topi (c8_div hlt) ?_
          refine Ev.iload (pc := 91) dD_at_91 rfl ?_
          refine Ev.bipush (pc := 93) (v := 8) dD_at_93 (by decide) ?_
          refine Ev.irem (pc := 95) dD_at_95 (by decide) ?_
          refine Ev.topi (c8_rem hlt) ?_
          refine Ev.callV (pc := 96) dD_at_96 kv_D_107 ⟨Nat.le_of_ble_eq_true rfl, Nat.le_of_ble_eq_true rfl⟩ (wl_at (by decide) rfl) rfl rfl (ct_D_isBar _ _) rfl rfl (Nat.le_of_ble_eq_true rfl) ?_
          rintro _ _ ⟨rfl, rfl⟩
          rw [h.1.1, h.1.2.1]
          refine Ev.if_eqB (pc := 99) (tgt := 144) dD_at_99 rfl (fun h9 => ?_) (fun h9 => ?_)
          · refine Ev.iconst (pc := 144) (v := 0) dD_at_144 (by decide) ?_
            exact fin false (by rw [h8, h9]; rfl)
          refine Ev.iload (pc := 102) dD_at_102 rfl ?_
          refine Ev.bipush (pc := 104) (v := 8) dD_at_104 (by decide) ?_
          refine Ev.irem (pc := 106) dD_at_106 (by decide) ?_
          refine Ev.topi (c8_rem hlt) ?_
          refine Ev.aload_n (pc := 107) (i := 0) dD_at_107 rfl rfl ?_
          refine Ev.gf (pc := 108) dD_at_108 fl_D_19 (by omega) (rfl) rfl ?_
          refine Ev.iload (pc := 111) dD_at_111 rfl ?_
          refine Ev.bipush (pc := 113) (v := 8) dD_at_113 (by decide) ?_
          refine Ev.idiv (pc := 115) dD_at_115 (by decide) ?_
          refine Ev.topi (c8_div hlt) ?_
          refine Ev.aldi (pc := 116) dD_at_116 (by omega) (by first | exact fun _ _ => rfl | exact cell_dz hj | exact cell_dr hj | exact cell_mr hk | exact cell_sr hk) _ (rfl) (by omega) (by decide) ?_
          refine Ev.topi (h.1.2.2.2 _ (by omega)) ?_
          refine Ev.cicmp_lt (rfl) (rfl) (pc := 117) (tgt := 144) dD_at_117 rfl (fun h10 => ?_) (fun h10 => ?_)
          · refine Ev.iconst (pc := 144) (v := 0) dD_at_144 (by decide) ?_
            exact fin false (by rw [h8, h9, decide_eq_false (p := (sSy S (i / 8)).toInt ≤ (nI (i % 8)).toInt) (by omega)]; rfl)
          have hd10 : decide ((sSy S (i / 8)).toInt ≤ (nI (i % 8)).toInt) = true := decide_eq_true (by omega)
          refine Ev.aload_n (pc := 120) (i := 0) dD_at_120 rfl rfl ?_
          refine Ev.iload_n (pc := 121) (i := 1) dD_at_121 rfl rfl ?_
          refine Ev.iload (pc := 122) dD_at_122 rfl ?_
          refine Ev.iload (pc := 124) dD_at_124 rfl ?_
          refine Ev.bipush (pc := 126) (v := 8) dD_at_126 (by decide) ?_
          refine Ev.idiv (pc := 128) dD_at_128 (by decide) ?_
          refine Ev.topi (c8_div hlt) ?_
          refine Ev.iload (pc := 129) dD_at_129 rfl ?_
          refine Ev.bipush (pc := 131) (v := 8) dD_at_131 (by decide) ?_
          refine Ev.irem (pc := 133) dD_at_133 (by decide) ?_
          refine Ev.topi (c8_rem hlt) ?_
          refine Ev.callV (pc := 134) dD_at_134 kv_D_120 ⟨Nat.le_of_ble_eq_true rfl, Nat.le_of_ble_eq_true rfl⟩ (wl_at (by decide) rfl) rfl rfl (ct_D_covers hj hI p3 _ _) rfl rfl (Nat.le_of_ble_eq_true rfl) ?_
          rintro _ _ ⟨rfl, rfl⟩
          refine Ev.if_eqB (pc := 137) (tgt := 144) dD_at_137 rfl (fun h11 => ?_) (fun h11 => ?_)
          · refine Ev.iconst (pc := 144) (v := 0) dD_at_144 (by decide) ?_
            exact fin false (by rw [h8, h9, hd10, h11]; rfl)
          · refine Ev.iconst (pc := 140) (v := 1) dD_at_140 (by decide) ?_
            refine Ev.goto (pc := 141) (tgt := 145) dD_at_141 rfl ?_
            exact fin true (by rw [h8, h9, hd10, h11]; rfl)
        exact loop 0 (Nat.zero_le _)
      · rw [if_pos h6]
        refine Ev.aload_n (pc := 54) (i := 0) dD_at_54 rfl rfl ?_
        refine Ev.iload_n (pc := 55) (i := 1) dD_at_55 rfl rfl ?_
        refine Ev.callV (pc := 56) dD_at_56 kv_D_116 ⟨Nat.le_of_ble_eq_true rfl, Nat.le_of_ble_eq_true rfl⟩ (wl_at (by decide) rfl) rfl rfl (ct_D_findReach hj hI h.1.2.2 hg.C0 (hg.2.2.1 j hj).2 hg.sy8) rfl rfl (Nat.le_of_ble_eq_true rfl) ?_
        rintro _ _ ⟨b1, rfl, rfl, hF, hall⟩
        refine Ev.aload_n (pc := 59) (i := 0) dD_at_59 rfl rfl ?_
        refine Ev.gf (pc := 60) dD_at_60 fl_D_60 (by omega) (rfl) rfl ?_
        refine Ev.iload (pc := 63) dD_at_63 rfl ?_
        refine Ev.aldb (pc := 65) dD_at_65 (by omega) (by first | exact fun _ _ => rfl | exact cell_dz hj | exact cell_dr hj | exact cell_mr hk | exact cell_sr hk) _ (rfl) (by omega) (by decide) ?_
        rw [hall p p3]
        exact Ev.zreturn dD_at_66 rfl ⟨v, b1, rfl, rfl, h.cgb (hF 30 (by decide)) (hF 42 (by decide)), fun q hq => ⟨rfl, hF q (by omega)⟩⟩
    · rw [if_pos h5]
      refine Ev.aload_n (pc := 40) (i := 0) dD_at_40 rfl rfl ?_
      refine Ev.iload_n (pc := 41) (i := 1) dD_at_41 rfl rfl ?_
      refine Ev.iload (pc := 42) dD_at_42 rfl ?_
      refine Ev.callV (pc := 44) dD_at_44 kv_D_113 ⟨Nat.le_of_ble_eq_true rfl, Nat.le_of_ble_eq_true rfl⟩ (wl_at (by decide) rfl) rfl rfl (ct_D_isSafe hj hI h.1.2.2 p3) rfl rfl (Nat.le_of_ble_eq_true rfl) ?_
      rintro _ _ ⟨rfl, rfl⟩
      exact Ev.zreturn dD_at_47 rfl ⟨v, b, rfl, rfl, h, fun _ _ => ⟨rfl, rfl⟩⟩
  · exact no (by rw [ha, if_neg (by omega), if_neg (by omega), if_neg (by omega)])
set_option maxHeartbeats 4000000 in
set_option maxRecDepth 100000 in
theorem ct_D_reach {S : Sg} (hg : gd S) (h : mdl v b S) (i z r : Int32) : Ct G mD_reach [.ref (cxa G 30), .int i, .int z, .int r] (wl G v b) (mdQ G v b (some (.int (bI (aRea S i z r)))) S) := by
  refine Ct.of (by decide) rfl rfl (Nat.le_of_ble_eq_true rfl) ?_
  refine Ev.iload_n (pc := 0) (i := 1) dD_reach_0 rfl rfl ?_
  refine Ev.callS (pc := 1) dD_reach_1 ks_D_82 ⟨Nat.le_of_ble_eq_true rfl, Nat.le_of_ble_eq_true rfl⟩ (ct_D_isInsert i) rfl rfl (Nat.le_of_ble_eq_true rfl) ?_
  rintro _ _ ⟨rfl, rfl⟩
  refine Ev.if_eqB (pc := 4) (tgt := 15) dD_reach_4 rfl (fun h1 => ?_) (fun h1 => ?_)
  · refine Ev.iconst (pc := 15) (v := 0) dD_reach_15 (by decide) ?_
    exact Ev.zreturn (b := false) dD_reach_16 rfl (⟨v, b, rfl, ret_f (by simp [aRea, h1]), h, fun _ _ => ⟨rfl, rfl⟩⟩)
  refine Ev.iload_n (pc := 7) (i := 2) dD_reach_7 rfl rfl ?_
  refine Ev.iload_n (pc := 8) (i := 3) dD_reach_8 rfl rfl ?_
  refine Ev.callS (pc := 9) dD_reach_9 ks_D_104 ⟨Nat.le_of_ble_eq_true rfl, Nat.le_of_ble_eq_true rfl⟩ (ct_D_isCell z r) rfl rfl (Nat.le_of_ble_eq_true rfl) ?_
  rintro _ _ ⟨rfl, rfl⟩
  refine Ev.if_neB (pc := 12) (tgt := 17) dD_reach_12 rfl (fun h2 => ?_) (fun h2 => ?_)
  · obtain ⟨ei, hj⟩ := insB_nat h1
    have ha : aRea S i z r = anyB (sK S i.toInt.toNat).1 (fun a => posB (z - (sK S i.toInt.toNat).2.1 a) (r - (sK S i.toInt.toNat).2.2 a) && okI (sC S) (sSy S) (sK S i.toInt.toNat) (pnum (z - (sK S i.toInt.toNat).2.1 a) (r - (sK S i.toInt.toNat).2.2 a))) := by
      unfold aRea
      rw [h1, h2]
      rfl
    rw [ha]
    clear ha
    generalize hje : i.toInt.toNat = j at ei hj
    subst ei
    rw [← reach_eq]
    refine Ev.aload_n (pc := 17) (i := 0) dD_reach_17 rfl rfl ?_
    refine Ev.iload_n (pc := 18) (i := 1) dD_reach_18 rfl rfl ?_
    refine Ev.callV (pc := 19) dD_reach_19 kv_D_116 ⟨Nat.le_of_ble_eq_true rfl, Nat.le_of_ble_eq_true rfl⟩ (wl_at (by decide) rfl) rfl rfl (ct_D_findReach hj (h.2.1 j hj) h.1.2.2 hg.C0 (hg.2.2.1 j hj).2 hg.sy8) rfl rfl (Nat.le_of_ble_eq_true rfl) ?_
    rintro _ _ ⟨b1, rfl, rfl, hF, hall⟩
    have h' := h.cgb (hF 30 (by decide)) (hF 42 (by decide))
    refine Ev.iconst (pc := 22) (v := 0) dD_reach_22 (by decide) ?_
    refine Ev.istore (pc := 23) dD_reach_23 (Nat.le_of_ble_eq_true rfl) ?_
    refine Ev.iconst (pc := 25) (v := 0) dD_reach_25 (by decide) ?_
    refine Ev.istore (pc := 26) dD_reach_26 (Nat.le_of_ble_eq_true rfl) ?_
    have loop : ∀ i, i ≤ 320 → Ev G mD_reach 28 [some (.ref (cxa G 30)), some (.int (nI j)), some (.int z), some (.int r), some (.int (bI (anyB i (fun p => inRF (sC S) (sSy S) (sK S j) p && anyB (sK S j).1 (fun a => decide ((zP p + (sK S j).2.1 a).toInt = z.toInt) && decide ((rP p + (sK S j).2.2 a).toInt = r.toInt)))))), some (.int (nI i))] [] (wl G v b1) (cx_e G mD_reach (mdQ G v b (some (.int (bI (anyB 320 (fun p => inRF (sC S) (sSy S) (sK S j) p && anyB (sK S j).1 (fun a => decide ((zP p + (sK S j).2.1 a).toInt = z.toInt) && decide ((rP p + (sK S j).2.2 a).toInt = r.toInt))))))) S)) := by
      refine loopN (fun i hi ih => ?_)
      refine Ev.iload (pc := 28) dD_reach_28 rfl ?_
      refine Ev.sipush (pc := 30) (v := 320) dD_reach_30 (by decide) ?_
      refine Ev.cicmp_ge (nI_toInt (by omega)) ((show (320 : Int32).toInt = 320 from by decide)) (pc := 33) (tgt := 76) dD_reach_33 rfl (fun h3 => ?_) (fun h3 => ?_)
      · have e : i = 320 := by omega
        subst e
        refine Ev.iload (pc := 76) dD_reach_76 rfl ?_
        exact Ev.zreturn dD_reach_78 rfl ⟨v, b1, rfl, rfl, h', fun q hq => ⟨rfl, hF q (by omega)⟩⟩
      have hlt : i < 320 := by omega
      have ih := ih hlt
      have fin : ∀ q : Bool, (anyB i (fun p => inRF (sC S) (sSy S) (sK S j) p && anyB (sK S j).1 (fun a => decide ((zP p + (sK S j).2.1 a).toInt = z.toInt) && decide ((rP p + (sK S j).2.2 a).toInt = r.toInt))) || (inRF (sC S) (sSy S) (sK S j) i && anyB (sK S j).1 (fun a => decide ((zP i + (sK S j).2.1 a).toInt = z.toInt) && decide ((rP i + (sK S j).2.2 a).toInt = r.toInt)))) = q → Ev G mD_reach 68 [some (.ref (cxa G 30)), some (.int (nI j)), some (.int z), some (.int r), some (.int (bI (anyB i (fun p => inRF (sC S) (sSy S) (sK S j) p && anyB (sK S j).1 (fun a => decide ((zP p + (sK S j).2.1 a).toInt = z.toInt) && decide ((rP p + (sK S j).2.2 a).toInt = r.toInt)))))), some (.int (nI i))] [.int (bI q)] (wl G v b1) (cx_e G mD_reach (mdQ G v b (some (.int (bI (anyB 320 (fun p => inRF (sC S) (sSy S) (sK S j) p && anyB (sK S j).1 (fun a => decide ((zP p + (sK S j).2.1 a).toInt = z.toInt) && decide ((rP p + (sK S j).2.2 a).toInt = r.toInt))))))) S)) := by
        intro q hx
        rw [anyB, hx] at ih
        refine Ev.istore (pc := 68) dD_reach_68 (Nat.le_of_ble_eq_true rfl) ?_
        refine Ev.iinc (pc := 70) dD_reach_70 rfl (cx_inc _) (Nat.le_of_ble_eq_true rfl) ?_
        refine Ev.goto (pc := 73) (tgt := 28) dD_reach_73 rfl ?_
        exact ih
      refine Ev.iload (pc := 36) dD_reach_36 rfl ?_
      refine Ev.if_neB (pc := 38) (tgt := 63) dD_reach_38 rfl (fun h4 => ?_) (fun h4 => ?_)
      · refine Ev.iconst (pc := 63) (v := 1) dD_reach_63 (by decide) ?_
        refine Ev.goto (pc := 64) (tgt := 68) dD_reach_64 rfl ?_
        exact fin true (by rw [h4]; rfl)
      refine Ev.aload_n (pc := 41) (i := 0) dD_reach_41 rfl rfl ?_
      refine Ev.gf (pc := 42) dD_reach_42 fl_D_60 (by omega) (rfl) rfl ?_
      refine Ev.iload (pc := 45) dD_reach_45 rfl ?_
      refine Ev.aldb (pc := 47) dD_reach_47 (by omega) (by first | exact fun _ _ => rfl | exact cell_dz hj | exact cell_dr hj | exact cell_mr hk | exact cell_sr hk) _ (rfl) (by omega) (by decide) ?_
      rw [hall i hlt]
      refine Ev.if_eqB (pc := 48) (tgt := 67) dD_reach_48 rfl (fun h5 => ?_) (fun h5 => ?_)
      · refine Ev.iconst (pc := 67) (v := 0) dD_reach_67 (by decide) ?_
        exact fin false (by rw [h4, h5]; rfl)
      refine Ev.aload_n (pc := 51) (i := 0) dD_reach_51 rfl rfl ?_
      refine Ev.iload_n (pc := 52) (i := 1) dD_reach_52 rfl rfl ?_
      refine Ev.iload (pc := 53) dD_reach_53 rfl ?_
      refine Ev.iload_n (pc := 55) (i := 2) dD_reach_55 rfl rfl ?_
      refine Ev.iload_n (pc := 56) (i := 3) dD_reach_56 rfl rfl ?_
      refine Ev.callV (pc := 57) dD_reach_57 kv_D_120 ⟨Nat.le_of_ble_eq_true rfl, Nat.le_of_ble_eq_true rfl⟩ (wl_at (by decide) rfl) rfl rfl (ct_D_covers hj (h.2.1 j hj) hlt z r) rfl rfl (Nat.le_of_ble_eq_true rfl) ?_
      rintro _ _ ⟨rfl, rfl⟩
      refine Ev.if_eqB (pc := 60) (tgt := 67) dD_reach_60 rfl (fun h6 => ?_) (fun h6 => ?_)
      · refine Ev.iconst (pc := 67) (v := 0) dD_reach_67 (by decide) ?_
        exact fin false (by rw [h4, h5, h6]; rfl)
      · refine Ev.iconst (pc := 63) (v := 1) dD_reach_63 (by decide) ?_
        refine Ev.goto (pc := 64) (tgt := 68) dD_reach_64 rfl ?_
        exact fin true (by rw [h4, h5, h6]; rfl)
    exact loop 0 (Nat.zero_le _)
  · refine Ev.iconst (pc := 15) (v := 0) dD_reach_15 (by decide) ?_
    exact Ev.zreturn (b := false) dD_reach_16 rfl (⟨v, b, rfl, ret_f (by simp [aRea, h2]), h, fun _ _ => ⟨rfl, rfl⟩⟩)
end Mf2
