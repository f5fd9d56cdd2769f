/-! The face of the system: what each call answers, and what it leaves -/
theorem insB_nat {i : Int32} (h : insB i = true) : i = nI i.toInt.toNat ∧ i.toInt.toNat < 3 := by
  have := insB_iff.mp h
  exact ⟨nI_nat this.1, by omega⟩
theorem posB_nat {z r : Int32} (h : posB z r = true) : z = zP (pnum z r) ∧ r = rP (pnum z r) ∧ pnum z r < 320 ∧ (z - (-4)) * 16 + r = nI (pnum z r) := by
  have h1 := posB_iff.mp h
  have hp : pnum z r < 320 := by unfold pnum; omega
  have ez : z = zP (pnum z r) := Int32.toInt_inj.mp (by rw [zP_toInt hp]; unfold pnum; omega)
  have er : r = rP (pnum z r) := Int32.toInt_inj.mp (by rw [rP_toInt]; unfold pnum; omega)
  refine ⟨ez, er, hp, ?_⟩
  have := pos_i hp
  rw [← ez, ← er] at this
  exact this
theorem insOK_of {v : Nat → Nat → Int32} {b : Nat → Nat → Bool} {S : Sg} (h : cls v b S) : insOK v (fun j => (sK S j).1) := fun j hj => ⟨(h.2.1 j hj).2.1, (h.2.1 j hj).1⟩
theorem insV.cg {v v' : Nat → Nat → Int32} {j : Nat} {I : Ins} (h : insV v j I) (a : v' (4 + 3 * j) = v (4 + 3 * j)) (b : v' (5 + 3 * j) = v (5 + 3 * j)) (c : v' (6 + 3 * j) = v (6 + 3 * j)) : insV v' j I := ⟨by rw [a]; exact h.1, h.2.1, by rw [b]; exact h.2.2.1, by rw [c]; exact h.2.2.2⟩
theorem jobOK.cg {v v' : Nat → Nat → Int32} {c : Nat} {J : Nat → Nat} (h : jobOK v c J) (a : v' 13 = v 13) (b : v' 14 = v 14) : jobOK v' c J := ⟨h.1, by rw [a]; exact h.2.1, fun k hk => by rw [b]; exact h.2.2 k hk⟩
theorem mvOK.cg {v v' : Nat → Nat → Int32} {p : Nat} {m : Pm} (h : mvOK v p m) (a : v' p = v p) (b : v' (p + 1) = v (p + 1)) : mvOK v' p m := ⟨by rw [a]; exact h.1, h.2.1, fun i hi => by rw [b]; exact h.2.2 i hi⟩
/-- cells that a state doesn't speak of -/
theorem cls.cg {v v' : Nat → Nat → Int32} {b b' : Nat → Nat → Bool} {S : Sg} (h : cls v b S) (hv : ∀ p, p < 19 → v' p = v p) (h0 : b' 0 = b 0) (h2 : b' 20 = b 20) : cls v' b' S :=
  ⟨⟨by rw [hv 1 (by decide)]; exact h.1.1, by rw [hv 1 (by decide)]; exact h.1.2.1, by rw [hv 1 (by decide)]; exact h.1.2.2.1, by rw [hv 2 (by decide)]; exact h.1.2.2.2⟩, fun j hj => (h.2.1 j hj).cg (hv _ (by omega)) (hv _ (by omega)) (hv _ (by omega)), h.2.2.1.cg (hv 13 (by decide)) (hv 14 (by decide)), by rw [h0]; exact h.2.2.2.1, fun n p t l e => ⟨(h.2.2.2.2.1 n p t l e).1.cg (hv 15 (by decide)) (hv 16 (by decide)), (h.2.2.2.2.1 n p t l e).2.1.cg (hv 17 (by decide)) (hv 18 (by decide)), by rw [hv 0 (by decide)]; exact (h.2.2.2.2.1 n p t l e).2.2⟩, by rw [h2]; exact h.2.2.2.2.2⟩
theorem if_f {α : Type} {c : Bool} (h : c = false) (x y : α) : (if c = true then x else y) = y := by rw [h]; rfl
theorem if_t {α : Type} {c : Bool} (h : c = true) (x y : α) : (if c = true then x else y) = x := by rw [h]; rfl
/-- the state behind dropPlan -/
theorem cls_drop {v : Nat → Nat → Int32} {b : Nat → Nat → Bool} {S : Sg} (h1 : v 1 0 = sRd S ∧ v 1 1 = sLn S ∧ v 1 2 = sC S ∧ v 2 = sSy S) (h2 : ∀ j, j < 3 → insV v j (sK S j)) (h3 : jobOK v (sc S) (sJ S)) (h4 : b 20 = sX S) : cls v (va_up (sb b 0 10 false) 20 (fillM (v 1 0) (v 1 1) ((sb b 0 10 false) 20) 96)) (drp S) :=
  ⟨h1, h2, h3, by rw [up_ne (by decide), sb_eq]; rfl, fun n p t l e => (by cases e), by rw [up_at, sb_p (by decide), h4, h1.1, h1.2.1]; rfl⟩
section Face
variable {G : cx_G} {v : Nat → Nat → Int32} {b : Nat → Nat → Bool}
set_option maxHeartbeats 4000000 in
set_option maxRecDepth 100000 in
theorem ct_T_dropPlan : Ct G mT_dropPlan [.ref (cxa G 0)] (wl G v b) (fun x w' => w' = wl G v (va_up (sb b 0 10 false) 20 (fillM (v 1 0) (v 1 1) ((sb b 0 10 false) 20) 96)) ∧ x = none) := by
  refine Ct.of (by decide) rfl rfl (Nat.le_of_ble_eq_true rfl) ?_
  refine Ev.aload_n (pc := 0) (i := 0) dT_dropPlan_0 rfl rfl ?_
  refine Ev.iconst (pc := 1) (v := 0) dT_dropPlan_1 (by decide) ?_
  refine Ev.putb (pc := 2) (x := false) dT_dropPlan_2 fl_T_79 fp_T_hasPlan (by omega) (rfl) rfl (Nat.le_of_ble_eq_true rfl) ?_
  refine Ev.aload_n (pc := 5) (i := 0) dT_dropPlan_5 rfl rfl ?_
  refine Ev.gf (pc := 6) dT_dropPlan_6 fl_T_45 (by omega) (rfl) rfl ?_
  refine Ev.aload_n (pc := 9) (i := 0) dT_dropPlan_9 rfl rfl ?_
  refine Ev.gf (pc := 10) dT_dropPlan_10 fl_T_12 (by omega) (rfl) rfl ?_
  refine Ev.callV (pc := 13) dT_dropPlan_13 kv_T_87 ⟨Nat.le_of_ble_eq_true rfl, Nat.le_of_ble_eq_true rfl⟩ (wl_at (by decide) rfl) rfl rfl (ct_S_fill (k := 0) (by decide)) rfl rfl (Nat.le_of_ble_eq_true rfl) ?_
  rintro _ _ ⟨rfl, rfl⟩
  exact Ev.vreturn dT_dropPlan_16 rfl ⟨rfl, rfl⟩
theorem DB_fr {p : Nat} (hp : 30 ≤ p) : (va_up (sb b 0 10 false) 20 (fillM (v 1 0) (v 1 1) ((sb b 0 10 false) 20) 96)) p = b p := by rw [up_ne (by omega), sb_p (by omega)]
set_option maxHeartbeats 4000000 in
set_option maxRecDepth 100000 in
theorem ct_T_bar {S : Sg} (h : cls v b S) (r l c : Int32) : Ct G mT_bar [.ref (cxa G 0), .int r, .int l, .int c] (wl G v b) (clQ G v b (some (.int (bI (barQ r l c)))) (oBar S r l c)) := by
  have no : barQ r l c = false → Ev G mT_bar 32 [some (.ref (cxa G 0)), some (.int r), some (.int l), some (.int c)] [] (wl G v b) (cx_e G mT_bar (clQ G v b (some (.int (bI (barQ r l c)))) (oBar S r l c))) := by
    intro hq
    refine Ev.iconst (pc := 32) (v := 0) dT_bar_32 (by decide) ?_
    exact Ev.zreturn (b := false) dT_bar_33 rfl (⟨v, b, rfl, by rw [hq], by rw [oBar, if_f hq]; exact h, fun _ _ => ⟨rfl, rfl⟩⟩)
  have yes : barQ r l c = true → Ev G mT_bar 34 [some (.ref (cxa G 0)), some (.int r), some (.int l), some (.int c)] [] (wl G v b) (cx_e G mT_bar (clQ G v b (some (.int (bI (barQ r l c)))) (oBar S r l c))) := by
    intro hq
    refine Ev.aload_n (pc := 34) (i := 0) dT_bar_34 rfl rfl ?_
    refine Ev.gf (pc := 35) dT_bar_35 fl_T_12 (by omega) (rfl) rfl ?_
    refine Ev.iload_n (pc := 38) (i := 1) dT_bar_38 rfl rfl ?_
    refine Ev.puti (pc := 39) dT_bar_39 fl_T_90 fp_B_radius (by omega) (rfl) rfl (Nat.le_of_ble_eq_true rfl) ?_
    refine Ev.aload_n (pc := 42) (i := 0) dT_bar_42 rfl rfl ?_
    refine Ev.gf (pc := 43) dT_bar_43 fl_T_12 (by omega) (rfl) rfl ?_
    refine Ev.iload_n (pc := 46) (i := 2) dT_bar_46 rfl rfl ?_
    refine Ev.puti (pc := 47) dT_bar_47 fl_T_93 fp_B_length (by omega) (rfl) rfl (Nat.le_of_ble_eq_true rfl) ?_
    refine Ev.aload_n (pc := 50) (i := 0) dT_bar_50 rfl rfl ?_
    refine Ev.gf (pc := 51) dT_bar_51 fl_T_12 (by omega) (rfl) rfl ?_
    refine Ev.iload_n (pc := 54) (i := 3) dT_bar_54 rfl rfl ?_
    refine Ev.puti (pc := 55) dT_bar_55 fl_T_96 fp_B_chuck (by omega) (rfl) rfl (Nat.le_of_ble_eq_true rfl) ?_
    refine Ev.aload_n (pc := 58) (i := 0) dT_bar_58 rfl rfl ?_
    refine Ev.callV (pc := 59) dT_bar_59 kv_T_99 ⟨Nat.le_of_ble_eq_true rfl, Nat.le_of_ble_eq_true rfl⟩ (wl_at (by decide) rfl) rfl rfl (ct_T_dropPlan) rfl rfl (Nat.le_of_ble_eq_true rfl) ?_
    rintro _ _ ⟨rfl, rfl⟩
    refine Ev.iconst (pc := 62) (v := 1) dT_bar_62 (by decide) ?_
    refine Ev.zreturn (b := true) dT_bar_63 rfl ⟨_, _, rfl, by rw [hq], ?_, fun p hp => ⟨by rw [sv_p (by omega), sv_p (by omega), sv_p (by omega)], DB_fr hp⟩⟩
    rw [oBar, if_t hq]
    exact cls_drop ⟨by rw [sv_k (by decide), sv_k (by decide), sv_eq], by rw [sv_k (by decide), sv_eq], by rw [sv_eq], by rw [sv_p (by decide), sv_p (by decide), sv_p (by decide)]; exact h.1.2.2.2⟩ (fun j hj => (h.2.1 j hj).cg (by rw [sv_p (by omega), sv_p (by omega), sv_p (by omega)]) (by rw [sv_p (by omega), sv_p (by omega), sv_p (by omega)]) (by rw [sv_p (by omega), sv_p (by omega), sv_p (by omega)])) (h.2.2.1.cg (by rw [sv_p (by decide), sv_p (by decide), sv_p (by decide)]) (by rw [sv_p (by decide), sv_p (by decide), sv_p (by decide)])) h.2.2.2.2.2
  refine Ct.of (by decide) rfl rfl (Nat.le_of_ble_eq_true rfl) ?_
  refine Ev.iload_n (pc := 0) (i := 1) dT_bar_0 rfl rfl ?_
  refine Ev.iconst (pc := 1) (v := 1) dT_bar_1 (by decide) ?_
  refine Ev.cicmp_lt (rfl) ((show (1 : Int32).toInt = 1 from by decide)) (pc := 2) (tgt := 32) dT_bar_2 rfl (fun h1 => ?_) (fun h1 => ?_)
  · exact no (bf (fun q => by have := of_decide_eq_true q; omega))
  refine Ev.iload_n (pc := 5) (i := 1) dT_bar_5 rfl rfl ?_
  refine Ev.bipush (pc := 6) (v := 8) dT_bar_6 (by decide) ?_
  refine Ev.cicmp_gt (rfl) ((show (8 : Int32).toInt = 8 from by decide)) (pc := 8) (tgt := 32) dT_bar_8 rfl (fun h2 => ?_) (fun h2 => ?_)
  · exact no (bf (fun q => by have := of_decide_eq_true q; omega))
  refine Ev.iload_n (pc := 11) (i := 2) dT_bar_11 rfl rfl ?_
  refine Ev.iconst (pc := 12) (v := 1) dT_bar_12 (by decide) ?_
  refine Ev.cicmp_lt (rfl) ((show (1 : Int32).toInt = 1 from by decide)) (pc := 13) (tgt := 32) dT_bar_13 rfl (fun h3 => ?_) (fun h3 => ?_)
  · exact no (bf (fun q => by have := of_decide_eq_true q; omega))
  refine Ev.iload_n (pc := 16) (i := 2) dT_bar_16 rfl rfl ?_
  refine Ev.bipush (pc := 17) (v := 12) dT_bar_17 (by decide) ?_
  refine Ev.cicmp_gt (rfl) ((show (12 : Int32).toInt = 12 from by decide)) (pc := 19) (tgt := 32) dT_bar_19 rfl (fun h4 => ?_) (fun h4 => ?_)
  · exact no (bf (fun q => by have := of_decide_eq_true q; omega))
  refine Ev.iload_n (pc := 22) (i := 3) dT_bar_22 rfl rfl ?_
  refine Ev.cif_lt (rfl) (pc := 23) (tgt := 32) dT_bar_23 rfl (fun h5 => ?_) (fun h5 => ?_)
  · exact no (bf (fun q => by have := of_decide_eq_true q; omega))
  refine Ev.iload_n (pc := 26) (i := 3) dT_bar_26 rfl rfl ?_
  refine Ev.bipush (pc := 27) (v := 12) dT_bar_27 (by decide) ?_
  refine Ev.cicmp_le (rfl) ((show (12 : Int32).toInt = 12 from by decide)) (pc := 29) (tgt := 34) dT_bar_29 rfl (fun h6 => ?_) (fun h6 => ?_)
  · exact yes (decide_eq_true (by omega))
  exact no (bf (fun q => by have := of_decide_eq_true q; omega))
set_option maxHeartbeats 4000000 in
set_option maxRecDepth 100000 in
theorem ct_T_profile {S : Sg} (h : cls v b S) (z r : Int32) : Ct G mT_profile [.ref (cxa G 0), .int z, .int r] (wl G v b) (clQ G v b (some (.int (bI (proQ z r)))) (oPro S z r)) := by
  have no : proQ z r = false → Ev G mT_profile 20 [some (.ref (cxa G 0)), some (.int z), some (.int r)] [] (wl G v b) (cx_e G mT_profile (clQ G v b (some (.int (bI (proQ z r)))) (oPro S z r))) := by
    intro hq
    refine Ev.iconst (pc := 20) (v := 0) dT_profile_20 (by decide) ?_
    exact Ev.zreturn (b := false) dT_profile_21 rfl (⟨v, b, rfl, by rw [hq], by rw [oPro, if_f hq]; exact h, fun _ _ => ⟨rfl, rfl⟩⟩)
  have yes : proQ z r = true → Ev G mT_profile 22 [some (.ref (cxa G 0)), some (.int z), some (.int r)] [] (wl G v b) (cx_e G mT_profile (clQ G v b (some (.int (bI (proQ z r)))) (oPro S z r))) := by
    intro hq
    have hz := of_decide_eq_true hq
    refine Ev.aload_n (pc := 22) (i := 0) dT_profile_22 rfl rfl ?_
    refine Ev.gf (pc := 23) dT_profile_23 fl_T_12 (by omega) (rfl) rfl ?_
    refine Ev.gf (pc := 26) dT_profile_26 fl_T_102 (by omega) (rfl) rfl ?_
    refine Ev.iload_n (pc := 29) (i := 1) dT_profile_29 rfl rfl ?_
    refine Ev.iload_n (pc := 30) (i := 2) dT_profile_30 rfl rfl ?_
    refine Ev.astx (pc := 31) dT_profile_31 (by omega) (by first | exact fun _ _ => rfl | exact cell_dz hj | exact cell_dr hj | exact cell_mr hk | exact cell_sr hk) (by omega) (by omega) (by decide) ?_
    refine Ev.aload_n (pc := 32) (i := 0) dT_profile_32 rfl rfl ?_
    refine Ev.callV (pc := 33) dT_profile_33 kv_T_99 ⟨Nat.le_of_ble_eq_true rfl, Nat.le_of_ble_eq_true rfl⟩ (wl_at (by decide) rfl) rfl rfl (ct_T_dropPlan) rfl rfl (Nat.le_of_ble_eq_true rfl) ?_
    rintro _ _ ⟨rfl, rfl⟩
    refine Ev.iconst (pc := 36) (v := 1) dT_profile_36 (by decide) ?_
    refine Ev.zreturn (b := true) dT_profile_37 rfl ⟨_, _, rfl, by rw [hq], ?_, fun p hp => ⟨by rw [sv_p (by omega)], DB_fr hp⟩⟩
    rw [oPro, if_t hq]
    exact cls_drop ⟨by rw [sv_p (by decide)]; exact h.1.1, by rw [sv_p (by decide)]; exact h.1.2.1, by rw [sv_p (by decide)]; exact h.1.2.2.1, by rw [sv, up_at, h.1.2.2.2]⟩ (fun j hj => (h.2.1 j hj).cg (by rw [sv_p (by omega)]) (by rw [sv_p (by omega)]) (by rw [sv_p (by omega)])) (h.2.2.1.cg (by rw [sv_p (by decide)]) (by rw [sv_p (by decide)])) h.2.2.2.2.2
  refine Ct.of (by decide) rfl rfl (Nat.le_of_ble_eq_true rfl) ?_
  refine Ev.iload_n (pc := 0) (i := 1) dT_profile_0 rfl rfl ?_
  refine Ev.cif_lt (rfl) (pc := 1) (tgt := 20) dT_profile_1 rfl (fun h1 => ?_) (fun h1 => ?_)
  · exact no (bf (fun q => by have := of_decide_eq_true q; omega))
  refine Ev.iload_n (pc := 4) (i := 1) dT_profile_4 rfl rfl ?_
  refine Ev.bipush (pc := 5) (v := 12) dT_profile_5 (by decide) ?_
  refine Ev.cicmp_ge (rfl) ((show (12 : Int32).toInt = 12 from by decide)) (pc := 7) (tgt := 20) dT_profile_7 rfl (fun h2 => ?_) (fun h2 => ?_)
  · exact no (bf (fun q => by have := of_decide_eq_true q; omega))
  refine Ev.iload_n (pc := 10) (i := 2) dT_profile_10 rfl rfl ?_
  refine Ev.cif_lt (rfl) (pc := 11) (tgt := 20) dT_profile_11 rfl (fun h3 => ?_) (fun h3 => ?_)
  · exact no (bf (fun q => by have := of_decide_eq_true q; omega))
  refine Ev.iload_n (pc := 14) (i := 2) dT_profile_14 rfl rfl ?_
  refine Ev.bipush (pc := 15) (v := 8) dT_profile_15 (by decide) ?_
  refine Ev.cicmp_le (rfl) ((show (8 : Int32).toInt = 8 from by decide)) (pc := 17) (tgt := 22) dT_profile_17 rfl (fun h4 => ?_) (fun h4 => ?_)
  · exact yes (decide_eq_true (by omega))
  exact no (bf (fun q => by have := of_decide_eq_true q; omega))
theorem spoQ_iff {S : Sg} {i x y : Int32} : spoQ S i x y = true ↔ insB i = true ∧ (-2 ≤ x.toInt ∧ x.toInt ≤ 2 ∧ 0 ≤ y.toInt ∧ y.toInt ≤ 4) ∧ (sK S i.toInt.toNat).1 < 8 ∧ anyB (sK S i.toInt.toNat).1 (spotB (sK S i.toInt.toNat).2.1 (sK S i.toInt.toNat).2.2 x y) = false := by
  simp only [spoQ, Bool.and_eq_true, decide_eq_true_eq, Bool.not_eq_true', and_assoc]
set_option maxHeartbeats 4000000 in
set_option maxRecDepth 100000 in
theorem ct_T_spot {S : Sg} (h : cls v b S) (i x y : Int32) : Ct G mT_spot [.ref (cxa G 0), .int i, .int x, .int y] (wl G v b) (clQ G v b (some (.int (bI (spoQ S i x y)))) (oSpo S i x y)) := by
  have no : spoQ S i x y = false → Ev G mT_spot 27 [some (.ref (cxa G 0)), some (.int i), some (.int x), some (.int y)] [] (wl G v b) (cx_e G mT_spot (clQ G v b (some (.int (bI (spoQ S i x y)))) (oSpo S i x y))) := by
    intro hq
    refine Ev.iconst (pc := 27) (v := 0) dT_spot_27 (by decide) ?_
    exact Ev.zreturn (b := false) dT_spot_28 rfl (⟨v, b, rfl, by rw [hq], by rw [oSpo, if_f hq]; exact h, fun _ _ => ⟨rfl, rfl⟩⟩)
  have mid : insB i = true → (-2 ≤ x.toInt ∧ x.toInt ≤ 2 ∧ 0 ≤ y.toInt ∧ y.toInt ≤ 4) → Ev G mT_spot 29 [some (.ref (cxa G 0)), some (.int i), some (.int x), some (.int y)] [] (wl G v b) (cx_e G mT_spot (clQ G v b (some (.int (bI (spoQ S i x y)))) (oSpo S i x y))) := by
    intro hi hb
    obtain ⟨ei, hj⟩ := insB_nat hi
    generalize hje : i.toInt.toNat = j at ei hj
    have hI := h.2.1 j hj
    refine Ev.aload_n (pc := 29) (i := 0) dT_spot_29 rfl rfl ?_
    refine Ev.gf (pc := 30) dT_spot_30 fl_T_19 (by omega) (rfl) rfl ?_
    refine Ev.iload_n (pc := 33) (i := 1) dT_spot_33 rfl rfl ?_
    refine Ev.aaload (pc := 34) dT_spot_34 (wl_at (by decide) rfl) _ (ei) (by omega) (by decide) rfl ?_
    refine Ev.iload_n (pc := 35) (i := 2) dT_spot_35 rfl rfl ?_
    refine Ev.iload_n (pc := 36) (i := 3) dT_spot_36 rfl rfl ?_
    by_cases hq : spoQ S i x y = true
    · obtain ⟨-, -, q3, q4⟩ := spoQ_iff.mp hq
      rw [hje] at q3 q4
      refine Ev.callV (pc := 37) dT_spot_37 kv_T_110 ⟨Nat.le_of_ble_eq_true rfl, Nat.le_of_ble_eq_true rfl⟩ (wl_ins hj) rfl rfl (ct_I_addSpot_yes hj hI.1 q3 x y (by rw [hI.2.2.1, hI.2.2.2]; exact q4)) rfl rfl (Nat.le_of_ble_eq_true rfl) ?_
      rintro _ _ ⟨rfl, rfl⟩
      refine Ev.if_neB (pc := 40) (tgt := 45) dT_spot_40 rfl (fun h9 => ?_) (fun h9 => ?_)
      · refine Ev.aload_n (pc := 45) (i := 0) dT_spot_45 rfl rfl ?_
        refine Ev.callV (pc := 46) dT_spot_46 kv_T_99 ⟨Nat.le_of_ble_eq_true rfl, Nat.le_of_ble_eq_true rfl⟩ (wl_at (by decide) rfl) rfl rfl (ct_T_dropPlan) rfl rfl (Nat.le_of_ble_eq_true rfl) ?_
        rintro _ _ ⟨rfl, rfl⟩
        refine Ev.iconst (pc := 49) (v := 1) dT_spot_49 (by decide) ?_
        refine Ev.zreturn (b := true) dT_spot_50 rfl ⟨_, _, rfl, by rw [hq], ?_, fun p hp => ⟨by rw [sv_p (by omega), sv_p (by omega), sv_p (by omega)], DB_fr hp⟩⟩
        rw [oSpo, if_t hq, hje]
        refine cls_drop ⟨by rw [sv_p (by omega), sv_p (by omega), sv_p (by omega)]; exact h.1.1, by rw [sv_p (by omega), sv_p (by omega), sv_p (by omega)]; exact h.1.2.1, by rw [sv_p (by omega), sv_p (by omega), sv_p (by omega)]; exact h.1.2.2.1, by rw [sv_p (by omega), sv_p (by omega), sv_p (by omega)]; exact h.1.2.2.2⟩ (fun j' hj' => ?_) (h.2.2.1.cg (by rw [sv_p (by omega), sv_p (by omega), sv_p (by omega)]) (by rw [sv_p (by omega), sv_p (by omega), sv_p (by omega)])) h.2.2.2.2.2
        show insV _ j' (va_up (sK S) j (addI (sK S j) x y) j')
        by_cases e : j' = j
        · subst e
          rw [up_at]
          refine ⟨by rw [sv_eq]; rfl, by show (sK S j').1 + 1 ≤ 8; omega, ?_, ?_⟩
          · rw [sv_p (by omega), sv_p (by omega), sv, up_at, hI.2.2.1]; rfl
          · rw [sv_p (by omega), sv, up_at, sv_p (by omega), hI.2.2.2]; rfl
        · rw [up_ne e]
          exact (h.2.1 j' hj').cg (by rw [sv_p (by omega), sv_p (by omega), sv_p (by omega)]) (by rw [sv_p (by omega), sv_p (by omega), sv_p (by omega)]) (by rw [sv_p (by omega), sv_p (by omega), sv_p (by omega)])
      · cases h9
    · have hno : (sK S j).1 = 8 ∨ anyB (sK S j).1 (spotB (v (5 + 3 * j)) (v (6 + 3 * j)) x y) = true := by
        rw [hI.2.2.1, hI.2.2.2]
        by_cases c1 : (sK S j).1 = 8
        · exact Or.inl c1
        · refine Or.inr ?_
          cases c2 : anyB (sK S j).1 (spotB (sK S j).2.1 (sK S j).2.2 x y) with
          | true => rfl
          | false =>
            have := hI.2.1
            exact absurd (spoQ_iff.mpr ⟨hi, hb, by rw [hje]; omega, by rw [hje]; exact c2⟩) hq
      refine Ev.callV (pc := 37) dT_spot_37 kv_T_110 ⟨Nat.le_of_ble_eq_true rfl, Nat.le_of_ble_eq_true rfl⟩ (wl_ins hj) rfl rfl (ct_I_addSpot_no hj hI.1 hI.2.1 x y hno) rfl rfl (Nat.le_of_ble_eq_true rfl) ?_
      rintro _ _ ⟨rfl, rfl⟩
      refine Ev.if_neB (pc := 40) (tgt := 45) dT_spot_40 rfl (fun h9 => ?_) (fun h9 => ?_)
      · cases h9
      · refine Ev.iconst (pc := 43) (v := 0) dT_spot_43 (by decide) ?_
        exact Ev.zreturn (b := false) dT_spot_44 rfl (⟨v, b, rfl, by rw [bf hq], by rw [oSpo, if_f (bf hq)]; exact h, fun _ _ => ⟨rfl, rfl⟩⟩)
  refine Ct.of (by decide) rfl rfl (Nat.le_of_ble_eq_true rfl) ?_
  refine Ev.iload_n (pc := 0) (i := 1) dT_spot_0 rfl rfl ?_
  refine Ev.callS (pc := 1) dT_spot_1 ks_T_106 ⟨Nat.le_of_ble_eq_true rfl, Nat.le_of_ble_eq_true rfl⟩ (ct_T_isInsert i) rfl rfl (Nat.le_of_ble_eq_true rfl) ?_
  rintro _ _ ⟨rfl, rfl⟩
  refine Ev.if_eqB (pc := 4) (tgt := 27) dT_spot_4 rfl (fun h1 => ?_) (fun h1 => ?_)
  · exact no (bf (fun q => by have := spoQ_iff.mp q; rw [this.1] at h1; first | (cases h1; done) | omega))
  refine Ev.iload_n (pc := 7) (i := 2) dT_spot_7 rfl rfl ?_
  refine Ev.bipush (pc := 8) (v := (-2)) dT_spot_8 (by decide) ?_
  refine Ev.cicmp_lt (rfl) ((show (-2 : Int32).toInt = -2 from by decide)) (pc := 10) (tgt := 27) dT_spot_10 rfl (fun h2 => ?_) (fun h2 => ?_)
  · exact no (bf (fun q => by have := spoQ_iff.mp q; rw [this.1] at h1; first | (cases h1; done) | omega))
  refine Ev.iload_n (pc := 13) (i := 2) dT_spot_13 rfl rfl ?_
  refine Ev.iconst (pc := 14) (v := 2) dT_spot_14 (by decide) ?_
  refine Ev.cicmp_gt (rfl) ((show (2 : Int32).toInt = 2 from by decide)) (pc := 15) (tgt := 27) dT_spot_15 rfl (fun h3 => ?_) (fun h3 => ?_)
  · exact no (bf (fun q => by have := spoQ_iff.mp q; rw [this.1] at h1; first | (cases h1; done) | omega))
  refine Ev.iload_n (pc := 18) (i := 3) dT_spot_18 rfl rfl ?_
  refine Ev.cif_lt (rfl) (pc := 19) (tgt := 27) dT_spot_19 rfl (fun h4 => ?_) (fun h4 => ?_)
  · exact no (bf (fun q => by have := spoQ_iff.mp q; rw [this.1] at h1; first | (cases h1; done) | omega))
  refine Ev.iload_n (pc := 22) (i := 3) dT_spot_22 rfl rfl ?_
  refine Ev.iconst (pc := 23) (v := 4) dT_spot_23 (by decide) ?_
  refine Ev.cicmp_le (rfl) ((show (4 : Int32).toInt = 4 from by decide)) (pc := 24) (tgt := 29) dT_spot_24 rfl (fun h5 => ?_) (fun h5 => ?_)
  · exact mid h1 (by omega)
  exact no (bf (fun q => by have := spoQ_iff.mp q; rw [this.1] at h1; first | (cases h1; done) | omega))
set_option maxHeartbeats 4000000 in
set_option maxRecDepth 100000 in
theorem ct_T_clear {S : Sg} (h : cls v b S) (i : Int32) : Ct G mT_clear [.ref (cxa G 0), .int i] (wl G v b) (clQ G v b (some (.int (aClr S i))) (oClr S i)) := by
  refine Ct.of (by decide) rfl rfl (Nat.le_of_ble_eq_true rfl) ?_
  refine Ev.iload_n (pc := 0) (i := 1) dT_clear_0 rfl rfl ?_
  refine Ev.callS (pc := 1) dT_clear_1 ks_T_106 ⟨Nat.le_of_ble_eq_true rfl, Nat.le_of_ble_eq_true rfl⟩ (ct_T_isInsert i) rfl rfl (Nat.le_of_ble_eq_true rfl) ?_
  rintro _ _ ⟨rfl, rfl⟩
  refine Ev.if_neB (pc := 4) (tgt := 9) dT_clear_4 rfl (fun h1 => ?_) (fun h1 => ?_)
  · obtain ⟨ei, hj⟩ := insB_nat h1
    rw [aClr, if_t h1, oClr, if_t h1]
    generalize hje : i.toInt.toNat = j at ei hj
    have hI := h.2.1 j hj
    refine Ev.aload_n (pc := 9) (i := 0) dT_clear_9 rfl rfl ?_
    refine Ev.gf (pc := 10) dT_clear_10 fl_T_19 (by omega) (rfl) rfl ?_
    refine Ev.iload_n (pc := 13) (i := 1) dT_clear_13 rfl rfl ?_
    refine Ev.aaload (pc := 14) dT_clear_14 (wl_at (by decide) rfl) _ (ei) (by omega) (by decide) rfl ?_
    refine Ev.gf (pc := 15) dT_clear_15 fl_T_114 (by omega) (cell_ins hj _ _) rfl ?_
    refine Ev.istore_n (pc := 18) (i := 2) dT_clear_18 rfl (Nat.le_of_ble_eq_true rfl) ?_
    refine Ev.aload_n (pc := 19) (i := 0) dT_clear_19 rfl rfl ?_
    refine Ev.gf (pc := 20) dT_clear_20 fl_T_19 (by omega) (rfl) rfl ?_
    refine Ev.iload_n (pc := 23) (i := 1) dT_clear_23 rfl rfl ?_
    refine Ev.aaload (pc := 24) dT_clear_24 (wl_at (by decide) rfl) _ (ei) (by omega) (by decide) rfl ?_
    refine Ev.iconst (pc := 25) (v := 0) dT_clear_25 (by decide) ?_
    refine Ev.puti (pc := 26) dT_clear_26 fl_T_114 fp_I_spots (by omega) (cell_ins hj _ _) (by rw [cell_ins hj]; rfl) (Nat.le_of_ble_eq_true rfl) ?_
    refine Ev.aload_n (pc := 29) (i := 0) dT_clear_29 rfl rfl ?_
    refine Ev.callV (pc := 30) dT_clear_30 kv_T_99 ⟨Nat.le_of_ble_eq_true rfl, Nat.le_of_ble_eq_true rfl⟩ (wl_at (by decide) rfl) rfl rfl (ct_T_dropPlan) rfl rfl (Nat.le_of_ble_eq_true rfl) ?_
    rintro _ _ ⟨rfl, rfl⟩
    refine Ev.iload_n (pc := 33) (i := 2) dT_clear_33 rfl rfl ?_
    refine Ev.ireturn .int dT_clear_34 rfl rfl ⟨_, _, rfl, by rw [hI.1], ?_, fun p hp => ⟨by rw [sv_p (by omega)], DB_fr hp⟩⟩
    refine cls_drop ⟨by rw [sv_p (by omega)]; exact h.1.1, by rw [sv_p (by omega)]; exact h.1.2.1, by rw [sv_p (by omega)]; exact h.1.2.2.1, by rw [sv_p (by omega)]; exact h.1.2.2.2⟩ (fun j' hj' => ?_) (h.2.2.1.cg (by rw [sv_p (by omega)]) (by rw [sv_p (by omega)])) h.2.2.2.2.2
    show insV _ j' (va_up (sK S) j (0, (sK S j).2) j')
    by_cases e : j' = j
    · subst e
      rw [up_at]
      exact ⟨by rw [sv_eq]; rfl, Nat.zero_le _, by rw [sv_p (by omega)]; exact hI.2.2.1, by rw [sv_p (by omega)]; exact hI.2.2.2⟩
    · rw [up_ne e]
      exact (h.2.1 j' hj').cg (by rw [sv_p (by omega)]) (by rw [sv_p (by omega)]) (by rw [sv_p (by omega)])
  · refine Ev.iconst (pc := 7) (v := (-1)) dT_clear_7 (by decide) ?_
    exact Ev.ireturn .int dT_clear_8 rfl rfl (⟨v, b, rfl, by rw [aClr, if_f h1], by rw [oClr, if_f h1]; exact h, fun _ _ => ⟨rfl, rfl⟩⟩)
theorem choQ_iff {S : Sg} {i : Int32} : choQ S i = true ↔ insB i = true ∧ (sK S i.toInt.toNat).1 ≠ 0 ∧ sc S < 3 := by
  simp only [choQ, Bool.and_eq_true, decide_eq_true_eq, and_assoc]
set_option maxHeartbeats 4000000 in
set_option maxRecDepth 100000 in
theorem ct_T_choose {S : Sg} (h : cls v b S) (i : Int32) : Ct G mT_choose [.ref (cxa G 0), .int i] (wl G v b) (clQ G v b (some (.int (aCho S i))) (oCho S i)) := by
  have hc := h.2.2.1.2.1
  have hc3 := h.2.2.1.1
  have hcI : (v 13 2).toInt = (sc S : Int) := by rw [hc]; exact nI_toInt (by omega)
  have no : choQ S i = false → Ev G mT_choose 30 [some (.ref (cxa G 0)), some (.int i)] [] (wl G v b) (cx_e G mT_choose (clQ G v b (some (.int (aCho S i))) (oCho S i))) := by
    intro hq
    refine Ev.iconst (pc := 30) (v := (-1)) dT_choose_30 (by decide) ?_
    exact Ev.ireturn .int dT_choose_31 rfl rfl (⟨v, b, rfl, by rw [aCho, if_f hq], by rw [oCho, if_f hq]; exact h, fun _ _ => ⟨rfl, rfl⟩⟩)
  refine Ct.of (by decide) rfl rfl (Nat.le_of_ble_eq_true rfl) ?_
  refine Ev.iload_n (pc := 0) (i := 1) dT_choose_0 rfl rfl ?_
  refine Ev.callS (pc := 1) dT_choose_1 ks_T_106 ⟨Nat.le_of_ble_eq_true rfl, Nat.le_of_ble_eq_true rfl⟩ (ct_T_isInsert i) rfl rfl (Nat.le_of_ble_eq_true rfl) ?_
  rintro _ _ ⟨rfl, rfl⟩
  refine Ev.if_eqB (pc := 4) (tgt := 30) dT_choose_4 rfl (fun h1 => ?_) (fun h1 => ?_)
  · exact no (bf (fun q => by have := choQ_iff.mp q; rw [this.1] at h1; cases h1))
  obtain ⟨ei, hj⟩ := insB_nat h1
  generalize hje : i.toInt.toNat = j at ei hj
  have hI := h.2.1 j hj
  have hnI : (v (4 + 3 * j) 0).toInt = ((sK S j).1 : Int) := by rw [hI.1]; exact nI_toInt (by have := hI.2.1; omega)
  refine Ev.aload_n (pc := 7) (i := 0) dT_choose_7 rfl rfl ?_
  refine Ev.gf (pc := 8) dT_choose_8 fl_T_19 (by omega) (rfl) rfl ?_
  refine Ev.iload_n (pc := 11) (i := 1) dT_choose_11 rfl rfl ?_
  refine Ev.aaload (pc := 12) dT_choose_12 (wl_at (by decide) rfl) _ (ei) (by omega) (by decide) rfl ?_
  refine Ev.gf (pc := 13) dT_choose_13 fl_T_114 (by omega) (cell_ins hj _ _) rfl ?_
  refine Ev.cif_eq (hnI) (pc := 16) (tgt := 30) dT_choose_16 rfl (fun h2 => ?_) (fun h2 => ?_)
  · exact no (bf (fun q => by have := choQ_iff.mp q; rw [hje] at this; omega))
  refine Ev.aload_n (pc := 19) (i := 0) dT_choose_19 rfl rfl ?_
  refine Ev.gf (pc := 20) dT_choose_20 fl_T_28 (by omega) (rfl) rfl ?_
  refine Ev.gf (pc := 23) dT_choose_23 fl_T_117 (by omega) (rfl) rfl ?_
  refine Ev.iconst (pc := 26) (v := 3) dT_choose_26 (by decide) ?_
  refine Ev.cicmp_lt (hcI) ((show (3 : Int32).toInt = 3 from by decide)) (pc := 27) (tgt := 32) dT_choose_27 rfl (fun h3 => ?_) (fun h3 => ?_)
  · have hq : choQ S i = true := choQ_iff.mpr ⟨h1, by rw [hje]; omega, by omega⟩
    refine Ev.aload_n (pc := 32) (i := 0) dT_choose_32 rfl rfl ?_
    refine Ev.gf (pc := 33) dT_choose_33 fl_T_28 (by omega) (rfl) rfl ?_
    refine Ev.iload_n (pc := 36) (i := 1) dT_choose_36 rfl rfl ?_
    refine Ev.callV (pc := 37) dT_choose_37 kv_T_120 ⟨Nat.le_of_ble_eq_true rfl, Nat.le_of_ble_eq_true rfl⟩ (wl_at (by decide) rfl) rfl rfl (ct_J_append hc (by omega) i) rfl rfl (Nat.le_of_ble_eq_true rfl) ?_
    rintro _ _ ⟨rfl, rfl⟩
    refine Ev.aload_n (pc := 40) (i := 0) dT_choose_40 rfl rfl ?_
    refine Ev.callV (pc := 41) dT_choose_41 kv_T_99 ⟨Nat.le_of_ble_eq_true rfl, Nat.le_of_ble_eq_true rfl⟩ (wl_at (by decide) rfl) rfl rfl (ct_T_dropPlan) rfl rfl (Nat.le_of_ble_eq_true rfl) ?_
    rintro _ _ ⟨rfl, rfl⟩
    refine Ev.aload_n (pc := 44) (i := 0) dT_choose_44 rfl rfl ?_
    refine Ev.gf (pc := 45) dT_choose_45 fl_T_28 (by omega) (rfl) rfl ?_
    refine Ev.gf (pc := 48) dT_choose_48 fl_T_117 (by omega) (rfl) rfl ?_
    refine Ev.ireturn .int dT_choose_51 rfl rfl ⟨_, _, rfl, by rw [aCho, if_t hq, sv_eq], ?_, fun p hp => ⟨by rw [sv_p (by omega), sv_p (by omega)], DB_fr hp⟩⟩
    rw [oCho, if_t hq, hje]
    refine cls_drop ⟨by rw [sv_p (by omega), sv_p (by omega)]; exact h.1.1, by rw [sv_p (by omega), sv_p (by omega)]; exact h.1.2.1, by rw [sv_p (by omega), sv_p (by omega)]; exact h.1.2.2.1, by rw [sv_p (by omega), sv_p (by omega)]; exact h.1.2.2.2⟩ (fun j' hj' => (h.2.1 j' hj').cg (by rw [sv_p (by omega), sv_p (by omega)]) (by rw [sv_p (by omega), sv_p (by omega)]) (by rw [sv_p (by omega), sv_p (by omega)])) ?_ h.2.2.2.2.2
    refine ⟨by show sc S + 1 ≤ 3; omega, by rw [sv_eq], fun k hk => ?_⟩
    show va_up (sJ S) (sc S) j k < 3 ∧ _ = nI (va_up (sJ S) (sc S) j k)
    rw [sv_p (by omega)]
    by_cases e : k = sc S
    · subst e
      rw [up_at, sv_eq]
      exact ⟨hj, ei⟩
    · rw [up_ne e, sv_k e]
      exact h.2.2.1.2.2 k (by have : k < sc S + 1 := hk; omega)
  · exact no (bf (fun q => by have := choQ_iff.mp q; omega))
set_option maxHeartbeats 4000000 in
set_option maxRecDepth 100000 in
theorem ct_T_restart {S : Sg} (h : cls v b S) : Ct G mT_restart [.ref (cxa G 0)] (wl G v b) (clQ G v b (some (.int (nI (sc S)))) (oRes S)) := by
  refine Ct.of (by decide) rfl rfl (Nat.le_of_ble_eq_true rfl) ?_
  refine Ev.aload_n (pc := 0) (i := 0) dT_restart_0 rfl rfl ?_
  refine Ev.gf (pc := 1) dT_restart_1 fl_T_28 (by omega) (rfl) rfl ?_
  refine Ev.gf (pc := 4) dT_restart_4 fl_T_117 (by omega) (rfl) rfl ?_
  refine Ev.istore_n (pc := 7) (i := 1) dT_restart_7 rfl (Nat.le_of_ble_eq_true rfl) ?_
  refine Ev.aload_n (pc := 8) (i := 0) dT_restart_8 rfl rfl ?_
  refine Ev.gf (pc := 9) dT_restart_9 fl_T_28 (by omega) (rfl) rfl ?_
  refine Ev.iconst (pc := 12) (v := 0) dT_restart_12 (by decide) ?_
  refine Ev.puti (pc := 13) dT_restart_13 fl_T_117 fp_J_chosen (by omega) (rfl) rfl (Nat.le_of_ble_eq_true rfl) ?_
  refine Ev.aload_n (pc := 16) (i := 0) dT_restart_16 rfl rfl ?_
  refine Ev.callV (pc := 17) dT_restart_17 kv_T_99 ⟨Nat.le_of_ble_eq_true rfl, Nat.le_of_ble_eq_true rfl⟩ (wl_at (by decide) rfl) rfl rfl (ct_T_dropPlan) rfl rfl (Nat.le_of_ble_eq_true rfl) ?_
  rintro _ _ ⟨rfl, rfl⟩
  refine Ev.iload_n (pc := 20) (i := 1) dT_restart_20 rfl rfl ?_
  refine Ev.ireturn .int dT_restart_21 rfl rfl ⟨_, _, rfl, by rw [h.2.2.1.2.1], ?_, fun p hp => ⟨by rw [sv_p (by omega)], DB_fr hp⟩⟩
  exact cls_drop ⟨by rw [sv_p (by decide)]; exact h.1.1, by rw [sv_p (by decide)]; exact h.1.2.1, by rw [sv_p (by decide)]; exact h.1.2.2.1, by rw [sv_p (by decide)]; exact h.1.2.2.2⟩ (fun j hj => (h.2.1 j hj).cg (by rw [sv_p (by omega)]) (by rw [sv_p (by omega)]) (by rw [sv_p (by omega)])) ⟨Nat.zero_le _, by rw [sv_eq]; rfl, fun k hk => absurd hk (by show ¬ k < 0; omega)⟩ h.2.2.2.2.2
end Face
