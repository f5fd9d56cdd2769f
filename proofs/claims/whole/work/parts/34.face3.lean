/-! The face: plan, move, edit, undo, simulate, stock, fault, left, steps -/
theorem cls.cg0 {v v' : Nat → Nat → Int32} {b b' : Nat → Nat → Bool} {S : Sg} (h : cls v b S) (hn : sP S = none) (hv : ∀ p, p < 15 → v' p = v p) (h0 : b' 0 = b 0) (h2 : b' 20 = b 20) : cls v' b' S :=
  ⟨⟨by rw [hv 1 (by decide)]; exact h.1.1, by rw [hv 1 (by decide)]; exact h.1.2.1, by rw [hv 1 (by decide)]; exact h.1.2.2.1, by rw [hv 2 (by decide)]; exact h.1.2.2.2⟩, fun j hj => (h.2.1 j hj).cg (hv _ (by omega)) (hv _ (by omega)) (hv _ (by omega)), h.2.2.1.cg (hv 13 (by decide)) (hv 14 (by decide)), by rw [h0]; exact h.2.2.2.1, fun n p t l e => (by rw [hn] at e; cases e), by rw [h2]; exact h.2.2.2.2.2⟩
theorem cntB_eq {n : Nat} {f g : Nat → Bool} (h : ∀ i, i < n → f i = g i) : nI (cntB n f) = nI (cntB n g) := by rw [cntB_congr h]
section Face3
variable {G : cx_G} {v : Nat → Nat → Int32} {b : Nat → Nat → Bool}
set_option maxHeartbeats 4000000 in
set_option maxRecDepth 100000 in
theorem ct_T_plan {S : Sg} (h : cls v b S) : Ct G mT_plan [.ref (cxa G 0)] (wl G v b) (fun x w' => clQ G v b (some (.int (aPln S))) (oPln S) x w' ∧ (plnQ S = true → okP 92160 (plnR S).1)) := by
  have hd : cls v (va_up (sb b 0 10 false) 20 (fillM (v 1 0) (v 1 1) ((sb b 0 10 false) 20) 96)) (drp S) := cls_drop h.1 h.2.1 h.2.2.1 h.2.2.2.2.2
  refine Ct.of (by decide) rfl rfl (Nat.le_of_ble_eq_true rfl) ?_
  refine Ev.aload_n (pc := 0) (i := 0) dT_plan_0 rfl rfl ?_
  refine Ev.callV (pc := 1) dT_plan_1 kv_T_99 ⟨Nat.le_of_ble_eq_true rfl, Nat.le_of_ble_eq_true rfl⟩ (wl_at (by decide) rfl) rfl rfl (ct_T_dropPlan) rfl rfl (Nat.le_of_ble_eq_true rfl) ?_
  rintro _ _ ⟨rfl, rfl⟩
  refine Ev.aload_n (pc := 4) (i := 0) dT_plan_4 rfl rfl ?_
  refine Ev.gf (pc := 5) dT_plan_5 fl_T_28 (by omega) (rfl) rfl ?_
  refine Ev.callV (pc := 8) dT_plan_8 kv_T_158 ⟨Nat.le_of_ble_eq_true rfl, Nat.le_of_ble_eq_true rfl⟩ (wl_at (by decide) rfl) rfl rfl (ct_J_isReady (insOK_of h) h.2.2.1) rfl rfl (Nat.le_of_ble_eq_true rfl) ?_
  rintro _ _ ⟨rfl, rfl⟩
  refine Ev.if_eqB (pc := 11) (tgt := 24) dT_plan_11 rfl (fun h1 => ?_) (fun h1 => ?_)
  · have hq : plnQ S = false := by unfold plnQ rdy; rw [h1]; rfl
    refine Ev.iconst (pc := 24) (v := (-1)) dT_plan_24 (by decide) ?_
    exact Ev.ireturn .int dT_plan_25 rfl rfl (⟨⟨v, _, rfl, by rw [aPln, if_f hq], by rw [oPln, if_f hq]; exact hd, fun p hp => ⟨rfl, DB_fr hp⟩⟩, fun q => by rw [hq] at q; cases q⟩)
  refine Ev.aload_n (pc := 14) (i := 0) dT_plan_14 rfl rfl ?_
  refine Ev.gf (pc := 15) dT_plan_15 fl_T_66 (by omega) (rfl) rfl ?_
  refine Ev.callV (pc := 18) dT_plan_18 kv_T_162 ⟨Nat.le_of_ble_eq_true rfl, Nat.le_of_ble_eq_true rfl⟩ (wl_at (by decide) rfl) rfl rfl (ct_P_make (fun j hj => h.2.1 j hj) h.1.2.2.1 h.1.2.2.2 h.2.2.1) rfl rfl (Nat.le_of_ble_eq_true rfl) ?_
  rintro _ _ ⟨v2, b2, ok, rfl, rfl, hF, hFb, ht, hf⟩
  have hX : eqX (fillM (v 1 0) (v 1 1) ((va_up (sb b 0 10 false) 20 (fillM (v 1 0) (v 1 1) ((sb b 0 10 false) 20) 96)) 22) 96) (fillB (sRd S) (sLn S)) := by rw [h.1.1, h.1.2.1]; exact fill_eqX
  obtain ⟨m1, m2⟩ := mkF_eqX (C := sC S) (sy := sSy S) (Js := fun k => sK S (sJ S k)) hX (sc S)
  have m1 : (mkF (sC S) (sSy S) (fun k => sK S (sJ S k)) (fillM (v 1 0) (v 1 1) ((va_up (sb b 0 10 false) 20 (fillM (v 1 0) (v 1 1) ((sb b 0 10 false) 20) 96)) 22) 96) (sc S)).1 = (plnR S).1 := m1
  rw [m1] at ht hf
  have hfr : ∀ p, 30 ≤ p → v2 p = v p ∧ b2 p = b p := fun p hp => ⟨hF p (by omega), by rw [hFb p (by omega), DB_fr hp]⟩
  refine Ev.if_neB (pc := 21) (tgt := 26) dT_plan_21 rfl (fun h2 => ?_) (fun h2 => ?_)
  · obtain ⟨t1, t2, t3⟩ := ht h2
    have hlen := t1.2.1
    have hq : plnQ S = true := by unfold plnQ rdy; rw [h1, decide_eq_true hlen]; rfl
    refine Ev.aload_n (pc := 26) (i := 0) dT_plan_26 rfl rfl ?_
    refine Ev.aload_n (pc := 27) (i := 0) dT_plan_27 rfl rfl ?_
    refine Ev.gf (pc := 28) dT_plan_28 fl_T_49 (by omega) (rfl) rfl ?_
    refine Ev.aload_n (pc := 31) (i := 0) dT_plan_31 rfl rfl ?_
    refine Ev.gf (pc := 32) dT_plan_32 fl_T_12 (by omega) (rfl) rfl ?_
    refine Ev.callV (pc := 35) dT_plan_35 kv_T_165 ⟨Nat.le_of_ble_eq_true rfl, Nat.le_of_ble_eq_true rfl⟩ (wl_at (by decide) rfl) rfl rfl (ct_S_countWaste (k := 1) (by decide)) rfl rfl (Nat.le_of_ble_eq_true rfl) ?_
    rintro _ _ ⟨rfl, rfl⟩
    refine Ev.topi (y := nI (plnL S)) (cntB_eq (fun c hc => by
      show (b2 22 c && _) = _
      rw [t3, m2 c hc, hF 1 (by omega), hF 2 (by omega), h.1.1, h.1.2.1, h.1.2.2.2]
      rfl)) ?_
    refine Ev.puti (pc := 38) dT_plan_38 fl_T_83 fp_T_leftByPlan (by omega) (rfl) rfl (Nat.le_of_ble_eq_true rfl) ?_
    refine Ev.aload_n (pc := 41) (i := 0) dT_plan_41 rfl rfl ?_
    refine Ev.gf (pc := 42) dT_plan_42 fl_T_39 (by omega) (rfl) rfl ?_
    refine Ev.aload_n (pc := 45) (i := 0) dT_plan_45 rfl rfl ?_
    refine Ev.gf (pc := 46) dT_plan_46 fl_T_35 (by omega) (rfl) rfl ?_
    refine Ev.callV (pc := 49) dT_plan_49 kv_T_169 ⟨Nat.le_of_ble_eq_true rfl, Nat.le_of_ble_eq_true rfl⟩ (wl_at (by decide) rfl) rfl rfl (ct_M_copyFrom (n := (plnR S).1.1) (by rw [sv_p (by decide)]; exact t1.1) hlen) rfl rfl (Nat.le_of_ble_eq_true rfl) ?_
    rintro _ _ ⟨rfl, rfl⟩
    refine Ev.aload_n (pc := 52) (i := 0) dT_plan_52 rfl rfl ?_
    refine Ev.iconst (pc := 53) (v := 1) dT_plan_53 (by decide) ?_
    refine Ev.putb (pc := 54) (x := true) dT_plan_54 fl_T_79 fp_T_hasPlan (by omega) (rfl) rfl (Nat.le_of_ble_eq_true rfl) ?_
    refine Ev.aload_n (pc := 57) (i := 0) dT_plan_57 rfl rfl ?_
    refine Ev.gf (pc := 58) dT_plan_58 fl_T_35 (by omega) (rfl) rfl ?_
    refine Ev.gf (pc := 61) dT_plan_61 fl_T_173 (by omega) (rfl) rfl ?_
    refine Ev.ireturn .int dT_plan_64 rfl rfl ⟨⟨_, _, rfl, ?_, ?_, fun p hp => ⟨?_, ?_⟩⟩, fun _ => t2⟩
    · rw [aPln, if_t hq, sv_p (by decide), up_ne (by decide), sv_p (by decide), t1.1]
    · rw [oPln, if_t hq]
      have hv : ∀ p, 0 < p → p < 15 → sv (va_up (sv v2 0 11 (nI (plnL S))) 18 (va_cpy (sv v2 0 11 (nI (plnL S)) 16) (sv v2 0 11 (nI (plnL S)) 18) 0 0 (plnR S).1.1)) 17 1 (nI (plnR S).1.1) p = v p := fun p h0 hp => by rw [sv_p (by omega), up_ne (by omega), sv_p (by omega)]; exact hF p (by omega)
      refine ⟨⟨by rw [hv 1 (by decide) (by decide)]; exact h.1.1, by rw [hv 1 (by decide) (by decide)]; exact h.1.2.1, by rw [hv 1 (by decide) (by decide)]; exact h.1.2.2.1, by rw [hv 2 (by decide) (by decide)]; exact h.1.2.2.2⟩, fun j hj => (h.2.1 j hj).cg (hv _ (by omega) (by omega)) (hv _ (by omega) (by omega)) (hv _ (by omega) (by omega)), h.2.2.1.cg (hv 13 (by decide) (by decide)) (hv 14 (by decide) (by decide)), by rw [sb_eq]; rfl, fun n p t l e => ?_, ?_⟩
      · cases e
        refine ⟨?_, ⟨by rw [sv_eq], hlen, fun i hi => ?_⟩, ?_⟩
        · exact t1.cg (by rw [sv_p (by decide), up_ne (by decide), sv_p (by decide)]) (by rw [sv_p (by decide), up_ne (by decide), sv_p (by decide)])
        · rw [sv_p (by decide), up_at, pk_cpy_in (Nat.zero_le _) (by omega), sv_p (by decide), Nat.zero_add, Nat.sub_zero]
          exact t1.2.2 i hi
        · rw [sv_p (by decide), up_ne (by decide), sv_eq]
      · show sb b2 0 10 true 20 = fillM (sRd S) (sLn S) (sX S) 96
        rw [sb_p (by decide), hFb 20 (by decide)]
        exact hd.2.2.2.2.2
    · rw [sv_p (by omega), up_ne (by omega), sv_p (by omega)]
      exact (hfr p hp).1
    · rw [sb_p (by omega)]
      exact (hfr p hp).2
  · have hl := hf h2
    have hq : plnQ S = false := by unfold plnQ; rw [decide_eq_false (by omega)]; simp
    refine Ev.iconst (pc := 24) (v := (-1)) dT_plan_24 (by decide) ?_
    exact Ev.ireturn .int dT_plan_25 rfl rfl (⟨⟨v2, b2, rfl, by rw [aPln, if_f hq], by rw [oPln, if_f hq]; exact hd.cg0 rfl (fun p hp => hF p (by omega)) (hFb 0 (by decide)) (hFb 20 (by decide)), hfr⟩, fun q => by rw [hq] at q; cases q⟩)
set_option maxHeartbeats 4000000 in
set_option maxRecDepth 100000 in
theorem ct_T_isMove {S : Sg} (h : cls v b S) (i : Int32) : Ct G mT_isMove [.ref (cxa G 0), .int i] (wl G v b) (fun x w' => w' = wl G v b ∧ x = some (.int (bI (isM S i)))) := by
  have hb := h.2.2.2.1
  refine Ct.of (by decide) rfl rfl (Nat.le_of_ble_eq_true rfl) ?_
  refine Ev.aload_n (pc := 0) (i := 0) dT_isMove_0 rfl rfl ?_
  refine Ev.gf (pc := 1) dT_isMove_1 fl_T_79 (by omega) (rfl) rfl ?_
  cases hP : sP S with
  | none =>
    have e : isM S i = false := by unfold isM; rw [hP]
    rw [hP] at hb
    refine Ev.if_eqB (pc := 4) (tgt := 26) dT_isMove_4 rfl (fun h1 => ?_) (fun h1 => ?_)
    · refine Ev.iconst (pc := 26) (v := 0) dT_isMove_26 (by decide) ?_
      exact Ev.zreturn (b := false) dT_isMove_27 rfl (⟨rfl, ret_f e⟩)
    · rw [hb] at h1; cases h1
  | some q =>
    obtain ⟨n, p, t, l⟩ := q
    obtain ⟨-, m2, -⟩ := h.2.2.2.2.1 n p t l hP
    have hle : n ≤ 2000 := m2.2.1
    have e : isM S i = decide (0 ≤ i.toInt ∧ i.toInt < n) := by unfold isM; rw [hP]
    have hnI : (v 17 1).toInt = (n : Int) := by rw [m2.1]; exact nI_toInt (by show n < _; omega)
    rw [hP] at hb
    rw [e]
    refine Ev.if_eqB (pc := 4) (tgt := 26) dT_isMove_4 rfl (fun h1 => ?_) (fun h1 => ?_)
    · rw [hb] at h1; cases h1
    refine Ev.iload_n (pc := 7) (i := 1) dT_isMove_7 rfl rfl ?_
    refine Ev.cif_lt (rfl) (pc := 8) (tgt := 26) dT_isMove_8 rfl (fun h2 => ?_) (fun h2 => ?_)
    · refine Ev.iconst (pc := 26) (v := 0) dT_isMove_26 (by decide) ?_
      exact Ev.zreturn (b := false) dT_isMove_27 rfl (⟨rfl, ret_f (decide_eq_false (by omega))⟩)
    refine Ev.iload_n (pc := 11) (i := 1) dT_isMove_11 rfl rfl ?_
    refine Ev.aload_n (pc := 12) (i := 0) dT_isMove_12 rfl rfl ?_
    refine Ev.gf (pc := 13) dT_isMove_13 fl_T_39 (by omega) (rfl) rfl ?_
    refine Ev.gf (pc := 16) dT_isMove_16 fl_T_173 (by omega) (rfl) rfl ?_
    refine Ev.cicmp_ge (rfl) (hnI) (pc := 19) (tgt := 26) dT_isMove_19 rfl (fun h3 => ?_) (fun h3 => ?_)
    · refine Ev.iconst (pc := 26) (v := 0) dT_isMove_26 (by decide) ?_
      exact Ev.zreturn (b := false) dT_isMove_27 rfl (⟨rfl, ret_f (decide_eq_false (by omega))⟩)
    · refine Ev.iconst (pc := 22) (v := 1) dT_isMove_22 (by decide) ?_
      refine Ev.goto (pc := 23) (tgt := 27) dT_isMove_23 rfl ?_
      exact Ev.zreturn (b := true) dT_isMove_27 rfl (⟨rfl, ret_t (decide_eq_true (by omega))⟩)
theorem isM_some {S : Sg} {i : Int32} (h : isM S i = true) : ∃ n p t l, sP S = some (n, p, t, l) ∧ 0 ≤ i.toInt ∧ i.toInt < n := by
  unfold isM at h
  cases hP : sP S with
  | none => rw [hP] at h; cases h
  | some q =>
    obtain ⟨n, p, t, l⟩ := q
    rw [hP] at h
    have := of_decide_eq_true h
    exact ⟨n, p, t, l, rfl, this.1, this.2⟩
set_option maxHeartbeats 4000000 in
set_option maxRecDepth 100000 in
theorem ct_T_move {S : Sg} (hg : gd S) (h : cls v b S) (i w : Int32) : Ct G mT_move [.ref (cxa G 0), .int i, .int w] (wl G v b) (clQ G v b (some (.int (aMov S i w))) S) := by
  refine Ct.of (by decide) rfl rfl (Nat.le_of_ble_eq_true rfl) ?_
  refine Ev.aload_n (pc := 0) (i := 0) dT_move_0 rfl rfl ?_
  refine Ev.iload_n (pc := 1) (i := 1) dT_move_1 rfl rfl ?_
  refine Ev.callV (pc := 2) dT_move_2 kv_T_176 ⟨Nat.le_of_ble_eq_true rfl, Nat.le_of_ble_eq_true rfl⟩ (wl_at (by decide) rfl) rfl rfl (ct_T_isMove h i) rfl rfl (Nat.le_of_ble_eq_true rfl) ?_
  rintro _ _ ⟨rfl, rfl⟩
  refine Ev.if_neB (pc := 5) (tgt := 10) dT_move_5 rfl (fun h1 => ?_) (fun h1 => ?_)
  · obtain ⟨n, p, t, l, hP, i0, i1⟩ := isM_some h1
    obtain ⟨-, m2, -⟩ := h.2.2.2.2.1 n p t l hP
    obtain ⟨g1, g2, g3⟩ := hg.2.2.2.2 n p t l hP
    have hin : i.toInt.toNat < n := by omega
    have etr : trM S i.toInt.toNat = t i.toInt.toNat := by unfold trM; rw [hP]
    obtain ⟨b1, b2, b3, b4⟩ := (g3 _ hin).lt (by decide)
    rw [aMov, if_t h1, etr]
    refine Ev.aload_n (pc := 10) (i := 0) dT_move_10 rfl rfl ?_
    refine Ev.gf (pc := 11) dT_move_11 fl_T_39 (by omega) (rfl) rfl ?_
    refine Ev.gf (pc := 14) dT_move_14 fl_T_179 (by omega) (rfl) rfl ?_
    refine Ev.iload_n (pc := 17) (i := 1) dT_move_17 rfl rfl ?_
    refine Ev.aldx (pc := 18) dT_move_18 (by omega) (by first | exact fun _ _ => rfl | exact cell_dz hj | exact cell_dr hj | exact cell_mr hk | exact cell_sr hk) (by omega) (by omega) (by decide) ?_
    refine Ev.topi (m2.2.2 _ hin) ?_
    refine Ev.istore_n (pc := 19) (i := 3) dT_move_19 rfl (Nat.le_of_ble_eq_true rfl) ?_
    refine Ev.iload_n (pc := 20) (i := 2) dT_move_20 rfl rfl ?_
    by_cases c0 : w.toInt = 0
    · rw [if_pos c0]
      refine Ev.tableIn (pc := 21) (tgt := 48) dT_move_21 0 (by omega) (by decide) rfl rfl ?_
      refine Ev.iload_n (pc := 48) (i := 3) dT_move_48 rfl rfl ?_
      refine Ev.callS (pc := 49) dT_move_49 ks_T_182 ⟨Nat.le_of_ble_eq_true rfl, Nat.le_of_ble_eq_true rfl⟩ (ct_M_kindOf (by omega)) rfl rfl (Nat.le_of_ble_eq_true rfl) ?_
      rintro _ _ ⟨rfl, rfl⟩
      exact Ev.ireturn .int dT_move_52 rfl rfl ⟨v, b, rfl, by rw [pk3_k b1], h, fun _ _ => ⟨rfl, rfl⟩⟩
    rw [if_neg c0]
    by_cases c1 : w.toInt = 1
    · rw [if_pos c1]
      refine Ev.tableIn (pc := 21) (tgt := 53) dT_move_21 1 (by omega) (by decide) rfl rfl ?_
      refine Ev.iload_n (pc := 53) (i := 3) dT_move_53 rfl rfl ?_
      refine Ev.callS (pc := 54) dT_move_54 ks_T_186 ⟨Nat.le_of_ble_eq_true rfl, Nat.le_of_ble_eq_true rfl⟩ (ct_M_directionOf (by omega)) rfl rfl (Nat.le_of_ble_eq_true rfl) ?_
      rintro _ _ ⟨rfl, rfl⟩
      exact Ev.ireturn .int dT_move_57 rfl rfl ⟨v, b, rfl, by rw [pk3_d b1 b2], h, fun _ _ => ⟨rfl, rfl⟩⟩
    rw [if_neg c1]
    by_cases c2 : w.toInt = 2
    · rw [if_pos c2]
      refine Ev.tableIn (pc := 21) (tgt := 58) dT_move_21 2 (by omega) (by decide) rfl rfl ?_
      refine Ev.iload_n (pc := 58) (i := 3) dT_move_58 rfl rfl ?_
      refine Ev.callS (pc := 59) dT_move_59 ks_T_189 ⟨Nat.le_of_ble_eq_true rfl, Nat.le_of_ble_eq_true rfl⟩ (ct_M_stepsOf (by omega)) rfl rfl (Nat.le_of_ble_eq_true rfl) ?_
      rintro _ _ ⟨rfl, rfl⟩
      exact Ev.ireturn .int dT_move_62 rfl rfl ⟨v, b, rfl, by rw [pk3_s b1 b2], h, fun _ _ => ⟨rfl, rfl⟩⟩
    rw [if_neg c2]
    refine Ev.tableOut (pc := 21) (tgt := 63) dT_move_21 (by omega) rfl ?_
    refine Ev.iconst (pc := 63) (v := (-1)) dT_move_63 (by decide) ?_
    exact Ev.ireturn .int dT_move_64 rfl rfl (⟨v, b, rfl, rfl, h, fun _ _ => ⟨rfl, rfl⟩⟩)
  · refine Ev.iconst (pc := 8) (v := (-1)) dT_move_8 (by decide) ?_
    exact Ev.ireturn .int dT_move_9 rfl rfl (⟨v, b, rfl, by rw [aMov, if_f h1], h, fun _ _ => ⟨rfl, rfl⟩⟩)
theorem ediQ_iff {S : Sg} {i k d s : Int32} : ediQ S i k d s = true ↔ isM S i = true ∧ (k.toInt = 2 ∨ ((k.toInt = 0 ∨ k.toInt = 1) ∧ 0 ≤ d.toInt ∧ d.toInt < 4 ∧ 1 ≤ s.toInt ∧ s.toInt ≤ 40)) := by
  simp only [ediQ, Bool.and_eq_true, Bool.or_eq_true, decide_eq_true_eq]
theorem cls_edit {S : Sg} (h : cls v b S) {n : Nat} {p t : Nat → Mv} {l : Nat} (hP : sP S = some (n, p, t, l)) {i : Nat} (hi : i < n) (q : Mv) : cls (sv v 18 i (nI (pk3 q))) b (S.1, S.2.1, S.2.2.1, (sP S).map (fun q' => (q'.1, q'.2.1, va_up q'.2.2.1 i q, q'.2.2.2)), sX S) := by
  obtain ⟨m1, m2, m3⟩ := h.2.2.2.2.1 n p t l hP
  have hv : ∀ a, a ≠ 18 → sv v 18 i (nI (pk3 q)) a = v a := fun a ha => sv_p ha
  refine ⟨⟨by rw [hv 1 (by decide)]; exact h.1.1, by rw [hv 1 (by decide)]; exact h.1.2.1, by rw [hv 1 (by decide)]; exact h.1.2.2.1, by rw [hv 2 (by decide)]; exact h.1.2.2.2⟩, fun j hj => (h.2.1 j hj).cg (hv _ (by omega)) (hv _ (by omega)) (hv _ (by omega)), h.2.2.1.cg (hv 13 (by decide)) (hv 14 (by decide)), by rw [h.2.2.2.1, hP]; rfl, fun n' p' t' l' e => ?_, h.2.2.2.2.2⟩
  rw [show sP (S.1, S.2.1, S.2.2.1, (sP S).map (fun q' => (q'.1, q'.2.1, va_up q'.2.2.1 i q, q'.2.2.2)), sX S) = some (n, p, va_up t i q, l) by rw [hP]; rfl] at e
  cases e
  refine ⟨m1.cg (hv _ (by decide)) (hv _ (by decide)), ⟨by rw [hv 17 (by decide)]; exact m2.1, m2.2.1, fun a ha => ?_⟩, by rw [hv 0 (by decide)]; exact m3⟩
  by_cases e : a = i
  · subst e
    show sv v 18 a (nI (pk3 q)) 18 a = nI (pk3 (va_up t a q a))
    rw [sv_eq, up_at]
  · show sv v 18 i (nI (pk3 q)) 18 a = nI (pk3 (va_up t i q a))
    rw [sv_k e, up_ne e]
    exact m2.2.2 a ha
set_option maxHeartbeats 4000000 in
set_option maxRecDepth 100000 in
theorem ct_T_edit {S : Sg} (hg : gd S) (h : cls v b S) (i k d s : Int32) : Ct G mT_edit [.ref (cxa G 0), .int i, .int k, .int d, .int s] (wl G v b) (clQ G v b (some (.int (bI (ediQ S i k d s)))) (oEdi S i k d s)) := by
  refine Ct.of (by decide) rfl rfl (Nat.le_of_ble_eq_true rfl) ?_
  refine Ev.aload_n (pc := 0) (i := 0) dT_edit_0 rfl rfl ?_
  refine Ev.iload_n (pc := 1) (i := 1) dT_edit_1 rfl rfl ?_
  refine Ev.callV (pc := 2) dT_edit_2 kv_T_176 ⟨Nat.le_of_ble_eq_true rfl, Nat.le_of_ble_eq_true rfl⟩ (wl_at (by decide) rfl) rfl rfl (ct_T_isMove h i) rfl rfl (Nat.le_of_ble_eq_true rfl) ?_
  rintro _ _ ⟨rfl, rfl⟩
  refine Ev.if_neB (pc := 5) (tgt := 10) dT_edit_5 rfl (fun h1 => ?_) (fun h1 => ?_)
  · obtain ⟨n, p, t, l, hP, i0, i1⟩ := isM_some h1
    have hle := (hg.2.2.2.2 n p t l hP).1
    have hin : i.toInt.toNat < n := by omega
    refine Ev.iload_n (pc := 10) (i := 2) dT_edit_10 rfl rfl ?_
    refine Ev.iconst (pc := 11) (v := 2) dT_edit_11 (by decide) ?_
    refine Ev.cicmp_ne (rfl) ((show (2 : Int32).toInt = 2 from by decide)) (pc := 12) (tgt := 32) dT_edit_12 rfl (fun h2 => ?_) (fun h2 => ?_)
    · have no : ediQ S i k d s = false → ∀ pc, (pc = 41 ∨ pc = 65) → Ev G mT_edit pc [some (.ref (cxa G 0)), some (.int i), some (.int k), some (.int d), some (.int s)] [] (wl G v b) (cx_e G mT_edit (clQ G v b (some (.int (bI (ediQ S i k d s)))) (oEdi S i k d s))) := by
        intro hq pc hpc
        rcases hpc with rfl | rfl
        · refine Ev.iconst (pc := 41) (v := 0) dT_edit_41 (by decide) ?_
          exact Ev.zreturn (b := false) dT_edit_42 rfl (⟨v, b, rfl, by rw [hq], by rw [oEdi, if_f hq]; exact h, fun _ _ => ⟨rfl, rfl⟩⟩)
        · refine Ev.iconst (pc := 65) (v := 0) dT_edit_65 (by decide) ?_
          exact Ev.zreturn (b := false) dT_edit_66 rfl (⟨v, b, rfl, by rw [hq], by rw [oEdi, if_f hq]; exact h, fun _ _ => ⟨rfl, rfl⟩⟩)
      have mid : (k.toInt = 0 ∨ k.toInt = 1) → Ev G mT_edit 43 [some (.ref (cxa G 0)), some (.int i), some (.int k), some (.int d), some (.int s)] [] (wl G v b) (cx_e G mT_edit (clQ G v b (some (.int (bI (ediQ S i k d s)))) (oEdi S i k d s))) := by
        intro hk
        have yes : (0 ≤ d.toInt ∧ d.toInt < 4 ∧ 1 ≤ s.toInt ∧ s.toInt ≤ 40) → Ev G mT_edit 67 [some (.ref (cxa G 0)), some (.int i), some (.int k), some (.int d), some (.int s)] [] (wl G v b) (cx_e G mT_edit (clQ G v b (some (.int (bI (ediQ S i k d s)))) (oEdi S i k d s))) := by
          intro hb
          have hq : ediQ S i k d s = true := ediQ_iff.mpr ⟨h1, Or.inr ⟨hk, hb⟩⟩
          have ek : k = nI k.toInt.toNat := nI_nat (by omega)
          have ed : d = nI d.toInt.toNat := nI_nat (by omega)
          have es : s = nI s.toInt.toNat := nI_nat (by omega)
          have em : ediM k d s = (k.toInt.toNat, d.toInt.toNat, s.toInt.toNat) := if_neg (by omega)
          refine Ev.aload_n (pc := 67) (i := 0) dT_edit_67 rfl rfl ?_
          refine Ev.gf (pc := 68) dT_edit_68 fl_T_39 (by omega) (rfl) rfl ?_
          refine Ev.gf (pc := 71) dT_edit_71 fl_T_179 (by omega) (rfl) rfl ?_
          refine Ev.iload_n (pc := 74) (i := 1) dT_edit_74 rfl rfl ?_
          refine Ev.iload_n (pc := 75) (i := 2) dT_edit_75 rfl rfl ?_
          refine Ev.topi ek ?_
          refine Ev.iload_n (pc := 76) (i := 3) dT_edit_76 rfl rfl ?_
          refine Ev.topi ed ?_
          refine Ev.iload (pc := 77) dT_edit_77 rfl ?_
          refine Ev.topi es ?_
          refine Ev.callS (pc := 79) dT_edit_79 ks_T_192 ⟨Nat.le_of_ble_eq_true rfl, Nat.le_of_ble_eq_true rfl⟩ (ct_M_packed (k := k.toInt.toNat) (d := d.toInt.toNat) (s := s.toInt.toNat) (by omega) (by omega) (by omega)) rfl rfl (Nat.le_of_ble_eq_true rfl) ?_
          rintro _ _ ⟨rfl, rfl⟩
          refine Ev.astx (pc := 82) dT_edit_82 (by omega) (by first | exact fun _ _ => rfl | exact cell_dz hj | exact cell_dr hj | exact cell_mr hk | exact cell_sr hk) (by omega) (by omega) (by decide) ?_
          refine Ev.iconst (pc := 83) (v := 1) dT_edit_83 (by decide) ?_
          refine Ev.zreturn (b := true) dT_edit_84 rfl ⟨_, b, rfl, by rw [hq], ?_, fun p hp => ⟨sv_p (by omega), rfl⟩⟩
          rw [oEdi, if_t hq, em]
          exact cls_edit h hP hin _
        refine Ev.iload_n (pc := 43) (i := 3) dT_edit_43 rfl rfl ?_
        refine Ev.cif_lt (rfl) (pc := 44) (tgt := 65) dT_edit_44 rfl (fun h11 => ?_) (fun h11 => ?_)
        · exact no (bf (fun q => by have := ediQ_iff.mp q; omega)) 65 (Or.inr rfl)
        refine Ev.iload_n (pc := 47) (i := 3) dT_edit_47 rfl rfl ?_
        refine Ev.iconst (pc := 48) (v := 4) dT_edit_48 (by decide) ?_
        refine Ev.cicmp_ge (rfl) ((show (4 : Int32).toInt = 4 from by decide)) (pc := 49) (tgt := 65) dT_edit_49 rfl (fun h12 => ?_) (fun h12 => ?_)
        · exact no (bf (fun q => by have := ediQ_iff.mp q; omega)) 65 (Or.inr rfl)
        refine Ev.iload (pc := 52) dT_edit_52 rfl ?_
        refine Ev.iconst (pc := 54) (v := 1) dT_edit_54 (by decide) ?_
        refine Ev.cicmp_lt (rfl) ((show (1 : Int32).toInt = 1 from by decide)) (pc := 55) (tgt := 65) dT_edit_55 rfl (fun h13 => ?_) (fun h13 => ?_)
        · exact no (bf (fun q => by have := ediQ_iff.mp q; omega)) 65 (Or.inr rfl)
        refine Ev.iload (pc := 58) dT_edit_58 rfl ?_
        refine Ev.bipush (pc := 60) (v := 40) dT_edit_60 (by decide) ?_
        refine Ev.cicmp_le (rfl) ((show (40 : Int32).toInt = 40 from by decide)) (pc := 62) (tgt := 67) dT_edit_62 rfl (fun h14 => ?_) (fun h14 => ?_)
        · exact yes (by omega)
        exact no (bf (fun q => by have := ediQ_iff.mp q; omega)) 65 (Or.inr rfl)
      refine Ev.iload_n (pc := 32) (i := 2) dT_edit_32 rfl rfl ?_
      refine Ev.cif_eq (rfl) (pc := 33) (tgt := 43) dT_edit_33 rfl (fun h3 => ?_) (fun h3 => ?_)
      · exact mid (by omega)
      refine Ev.iload_n (pc := 36) (i := 2) dT_edit_36 rfl rfl ?_
      refine Ev.iconst (pc := 37) (v := 1) dT_edit_37 (by decide) ?_
      refine Ev.cicmp_eq (rfl) ((show (1 : Int32).toInt = 1 from by decide)) (pc := 38) (tgt := 43) dT_edit_38 rfl (fun h4 => ?_) (fun h4 => ?_)
      · exact mid (by omega)
      · exact no (bf (fun q => by have := ediQ_iff.mp q; omega)) 41 (Or.inl rfl)
    · have hq : ediQ S i k d s = true := ediQ_iff.mpr ⟨h1, Or.inl h2⟩
      have em : ediM k d s = (2, 0, 0) := if_pos h2
      refine Ev.aload_n (pc := 15) (i := 0) dT_edit_15 rfl rfl ?_
      refine Ev.gf (pc := 16) dT_edit_16 fl_T_39 (by omega) (rfl) rfl ?_
      refine Ev.gf (pc := 19) dT_edit_19 fl_T_179 (by omega) (rfl) rfl ?_
      refine Ev.iload_n (pc := 22) (i := 1) dT_edit_22 rfl rfl ?_
      refine Ev.iconst (pc := 23) (v := 2) dT_edit_23 (by decide) ?_
      refine Ev.iconst (pc := 24) (v := 0) dT_edit_24 (by decide) ?_
      refine Ev.iconst (pc := 25) (v := 0) dT_edit_25 (by decide) ?_
      refine Ev.callS (pc := 26) dT_edit_26 ks_T_192 ⟨Nat.le_of_ble_eq_true rfl, Nat.le_of_ble_eq_true rfl⟩ (ct_M_packed (k := 2) (d := 0) (s := 0) (by decide) (by decide) (by decide)) rfl rfl (Nat.le_of_ble_eq_true rfl) ?_
      rintro _ _ ⟨rfl, rfl⟩
      refine Ev.astx (pc := 29) dT_edit_29 (by omega) (by first | exact fun _ _ => rfl | exact cell_dz hj | exact cell_dr hj | exact cell_mr hk | exact cell_sr hk) (by omega) (by omega) (by decide) ?_
      refine Ev.iconst (pc := 30) (v := 1) dT_edit_30 (by decide) ?_
      refine Ev.zreturn (b := true) dT_edit_31 rfl ⟨_, b, rfl, by rw [hq], ?_, fun p hp => ⟨sv_p (by omega), rfl⟩⟩
      rw [oEdi, if_t hq, em]
      exact cls_edit h hP hin _
  · have hq : ediQ S i k d s = false := bf (fun q => by have := (ediQ_iff.mp q).1; rw [h1] at this; cases this)
    refine Ev.iconst (pc := 8) (v := 0) dT_edit_8 (by decide) ?_
    exact Ev.zreturn (b := false) dT_edit_9 rfl (⟨v, b, rfl, by rw [hq], by rw [oEdi, if_f hq]; exact h, fun _ _ => ⟨rfl, rfl⟩⟩)
set_option maxHeartbeats 4000000 in
set_option maxRecDepth 100000 in
theorem ct_T_undo {S : Sg} (hg : gd S) (h : cls v b S) : Ct G mT_undo [.ref (cxa G 0)] (wl G v b) (clQ G v b (some (.int (aUnd S))) (oUnd S)) := by
  have hb := h.2.2.2.1
  refine Ct.of (by decide) rfl rfl (Nat.le_of_ble_eq_true rfl) ?_
  refine Ev.aload_n (pc := 0) (i := 0) dT_undo_0 rfl rfl ?_
  refine Ev.gf (pc := 1) dT_undo_1 fl_T_79 (by omega) (rfl) rfl ?_
  cases hP : sP S with
  | none =>
    rw [hP] at hb
    refine Ev.if_neB (pc := 4) (tgt := 9) dT_undo_4 rfl (fun h1 => ?_) (fun h1 => ?_)
    · rw [hb] at h1; cases h1
    · refine Ev.iconst (pc := 7) (v := 0) dT_undo_7 (by decide) ?_
      exact Ev.ireturn .int dT_undo_8 rfl rfl (⟨v, b, rfl, by unfold aUnd; rw [hP], ⟨h.1, h.2.1, h.2.2.1, by rw [hb]; show false = Option.isSome ((sP S).map _); rw [hP]; rfl, fun n p t l e => (by rw [show sP (oUnd S) = (sP S).map (fun q => (q.1, q.2.1, q.2.1, q.2.2.2)) from rfl, hP] at e; cases e), h.2.2.2.2.2⟩, fun _ _ => ⟨rfl, rfl⟩⟩)
  | some q =>
    obtain ⟨n, p, t, l⟩ := q
    obtain ⟨m1, m2, m3⟩ := h.2.2.2.2.1 n p t l hP
    obtain ⟨g1, g2, g3⟩ := hg.2.2.2.2 n p t l hP
    rw [hP] at hb
    refine Ev.if_neB (pc := 4) (tgt := 9) dT_undo_4 rfl (fun h1 => ?_) (fun h1 => ?_)
    · refine Ev.aload_n (pc := 9) (i := 0) dT_undo_9 rfl rfl ?_
      refine Ev.gf (pc := 10) dT_undo_10 fl_T_39 (by omega) (rfl) rfl ?_
      refine Ev.aload_n (pc := 13) (i := 0) dT_undo_13 rfl rfl ?_
      refine Ev.gf (pc := 14) dT_undo_14 fl_T_35 (by omega) (rfl) rfl ?_
      refine Ev.callV (pc := 17) dT_undo_17 kv_T_196 ⟨Nat.le_of_ble_eq_true rfl, Nat.le_of_ble_eq_true rfl⟩ (wl_at (by decide) rfl) rfl rfl (ct_M_countDifferent (n := n) m1.1 m2.1 g1) rfl rfl (Nat.le_of_ble_eq_true rfl) ?_
      rintro _ _ ⟨rfl, rfl⟩
      refine Ev.istore_n (pc := 20) (i := 1) dT_undo_20 rfl (Nat.le_of_ble_eq_true rfl) ?_
      refine Ev.aload_n (pc := 21) (i := 0) dT_undo_21 rfl rfl ?_
      refine Ev.gf (pc := 22) dT_undo_22 fl_T_39 (by omega) (rfl) rfl ?_
      refine Ev.aload_n (pc := 25) (i := 0) dT_undo_25 rfl rfl ?_
      refine Ev.gf (pc := 26) dT_undo_26 fl_T_35 (by omega) (rfl) rfl ?_
      refine Ev.callV (pc := 29) dT_undo_29 kv_T_169 ⟨Nat.le_of_ble_eq_true rfl, Nat.le_of_ble_eq_true rfl⟩ (wl_at (by decide) rfl) rfl rfl (ct_M_copyFrom (n := n) m1.1 g1) rfl rfl (Nat.le_of_ble_eq_true rfl) ?_
      rintro _ _ ⟨rfl, rfl⟩
      refine Ev.iload_n (pc := 32) (i := 1) dT_undo_32 rfl rfl ?_
      refine Ev.ireturn .int dT_undo_33 rfl rfl ⟨_, b, rfl, ?_, ?_, fun p hp => ⟨by rw [sv_p (by omega), up_ne (by omega)], rfl⟩⟩
      · unfold aUnd
        rw [hP]
        refine congrArg (fun z => some (Value.int z)) (cntB_eq (fun i hi => ?_))
        have x1 : pk3 (t i) < 2 ^ 30 := ((g3 i hi).lt (by decide)).2.2.2
        have x2 : pk3 (p i) < 2 ^ 30 := ((g2 i hi).lt (by decide)).2.2.2
        have e1 : (v 18 i).toInt = (pk3 (t i) : Int) := by rw [m2.2.2 i hi]; exact nI_toInt (by show pk3 (t i) < _; omega)
        have e2 : (v 16 i).toInt = (pk3 (p i) : Int) := by rw [m1.2.2 i hi]; exact nI_toInt (by show pk3 (p i) < _; omega)
        rw [e1, e2]
        by_cases c : pk3 (t i) = pk3 (p i)
        · rw [decide_eq_true (by omega), decide_eq_true c]
        · rw [decide_eq_false (by omega), decide_eq_false c]
      · have hv : ∀ a, a < 17 → sv (va_up v 18 (va_cpy (v 16) (v 18) 0 0 n)) 17 1 (nI n) a = v a := fun a ha => by rw [sv_p (by omega), up_ne (by omega)]
        refine ⟨⟨by rw [hv 1 (by decide)]; exact h.1.1, by rw [hv 1 (by decide)]; exact h.1.2.1, by rw [hv 1 (by decide)]; exact h.1.2.2.1, by rw [hv 2 (by decide)]; exact h.1.2.2.2⟩, fun j hj => (h.2.1 j hj).cg (hv _ (by omega)) (hv _ (by omega)) (hv _ (by omega)), h.2.2.1.cg (hv 13 (by decide)) (hv 14 (by decide)), by rw [hb]; show true = Option.isSome ((sP S).map _); rw [hP]; rfl, fun n' p' t' l' e => ?_, h.2.2.2.2.2⟩
        rw [show sP (oUnd S) = (sP S).map (fun q => (q.1, q.2.1, q.2.1, q.2.2.2)) from rfl, hP] at e
        cases e
        refine ⟨m1.cg (hv _ (by decide)) (hv _ (by decide)), ⟨by rw [sv_eq], g1, fun i hi => ?_⟩, by rw [hv 0 (by decide)]; exact m3⟩
        rw [sv_p (by decide), up_at, pk_cpy_in (Nat.zero_le _) (by show i < 0 + n; have : i < n := hi; omega), Nat.zero_add, Nat.sub_zero]
        exact m1.2.2 i hi
    · rw [hb] at h1; cases h1
set_option maxHeartbeats 4000000 in
set_option maxRecDepth 100000 in
theorem ct_T_simulate {S : Sg} (hg : gd S) (h : cls v b S) (n : Int32) : Ct G mT_simulate [.ref (cxa G 0), .int n] (wl G v b) (clQ G v b (some (.int (aSim S n))) (oSim S n)) := by
  have hb := h.2.2.2.1
  refine Ct.of (by decide) rfl rfl (Nat.le_of_ble_eq_true rfl) ?_
  refine Ev.iload_n (pc := 0) (i := 1) dT_simulate_0 rfl rfl ?_
  refine Ev.cif_lt (rfl) (pc := 1) (tgt := 11) dT_simulate_1 rfl (fun h0 => ?_) (fun h0 => ?_)
  · have e1 : aSim S n = -1 := by
      unfold aSim
      split
      · rfl
      · exact if_pos h0
    have e2 : oSim S n = S := by
      unfold oSim
      split
      · rfl
      · exact if_pos h0
    refine Ev.iconst (pc := 11) (v := (-1)) dT_simulate_11 (by decide) ?_
    exact Ev.ireturn .int dT_simulate_12 rfl rfl (⟨v, b, rfl, by rw [e1], by rw [e2]; exact h, fun _ _ => ⟨rfl, rfl⟩⟩)
  refine Ev.aload_n (pc := 4) (i := 0) dT_simulate_4 rfl rfl ?_
  refine Ev.gf (pc := 5) dT_simulate_5 fl_T_79 (by omega) (rfl) rfl ?_
  cases hP : sP S with
  | none =>
    rw [hP] at hb
    refine Ev.if_neB (pc := 8) (tgt := 13) dT_simulate_8 rfl (fun h1 => ?_) (fun h1 => ?_)
    · rw [hb] at h1; cases h1
    · refine Ev.iconst (pc := 11) (v := (-1)) dT_simulate_11 (by decide) ?_
      exact Ev.ireturn .int dT_simulate_12 rfl rfl (⟨v, b, rfl, by unfold aSim; rw [hP], by unfold oSim; rw [hP]; exact h, fun _ _ => ⟨rfl, rfl⟩⟩)
  | some q =>
    obtain ⟨m, p, t, l⟩ := q
    obtain ⟨m1, m2, m3⟩ := h.2.2.2.2.1 m p t l hP
    obtain ⟨g1, g2, g3⟩ := hg.2.2.2.2 m p t l hP
    have e1 : aSim S n = (smR S (m, p, t, l) n.toInt.toNat (fillM (sRd S) (sLn S) (sX S) 96)).2.2.2.1 := by unfold aSim; rw [hP]; exact if_neg h0
    have e2 : oSim S n = (S.1, S.2.1, S.2.2.1, S.2.2.2.1, (smR S (m, p, t, l) n.toInt.toNat (fillM (sRd S) (sLn S) (sX S) 96)).2.2.2.2) := by unfold oSim; rw [hP]; exact if_neg h0
    rw [hP] at hb
    rw [e1, e2]
    refine Ev.if_neB (pc := 8) (tgt := 13) dT_simulate_8 rfl (fun h1 => ?_) (fun h1 => ?_)
    · have en : n = nI n.toInt.toNat := nI_nat (by omega)
      have hlt := n.toInt_lt
      refine Ev.aload_n (pc := 13) (i := 0) dT_simulate_13 rfl rfl ?_
      refine Ev.gf (pc := 14) dT_simulate_14 fl_T_75 (by omega) (rfl) rfl ?_
      refine Ev.aload_n (pc := 17) (i := 0) dT_simulate_17 rfl rfl ?_
      refine Ev.gf (pc := 18) dT_simulate_18 fl_T_39 (by omega) (rfl) rfl ?_
      refine Ev.iload_n (pc := 21) (i := 1) dT_simulate_21 rfl rfl ?_
      refine Ev.topi en ?_
      refine Ev.aload_n (pc := 22) (i := 0) dT_simulate_22 rfl rfl ?_
      refine Ev.gf (pc := 23) dT_simulate_23 fl_T_45 (by omega) (rfl) rfl ?_
      refine Ev.callV (pc := 26) dT_simulate_26 kv_T_200 ⟨Nat.le_of_ble_eq_true rfl, Nat.le_of_ble_eq_true rfl⟩ (wl_at (by decide) rfl) rfl rfl (ct_R_goThrough (k := 0) (nn := n.toInt.toNat) (by decide) (fun j hj => h.2.1 j hj) h.1.2.2.1 h.1.2.2.2 h.2.2.1 m2 g3 (by decide) (by omega)) rfl rfl (Nat.le_of_ble_eq_true rfl) ?_
      rintro _ _ ⟨v2, b2, rfl, rfl, hF, hFb, r6, r5, rX⟩
      rw [h.1.1, h.1.2.1, show b (20 + 2 * 0) = sX S from h.2.2.2.2.2] at r5 rX
      refine Ev.aload_n (pc := 29) (i := 0) dT_simulate_29 rfl rfl ?_
      refine Ev.gf (pc := 30) dT_simulate_30 fl_T_75 (by omega) (rfl) rfl ?_
      refine Ev.gf (pc := 33) dT_simulate_33 fl_T_204 (by omega) (rfl) rfl ?_
      refine Ev.ireturn .int dT_simulate_36 rfl rfl ⟨v2, b2, rfl, by rw [r5]; rfl, ?_, fun p hp => ⟨hF p (by omega), hFb p (by omega)⟩⟩
      have hc := h.cg (v' := v2) (b' := b) (fun p hp => hF p (by omega)) rfl rfl
      exact ⟨hc.1, hc.2.1, hc.2.2.1, by rw [hFb 0 (by decide)]; exact hc.2.2.2.1, hc.2.2.2.2.1, rX⟩
    · rw [hb] at h1; cases h1
set_option maxHeartbeats 4000000 in
set_option maxRecDepth 100000 in
theorem ct_T_stock {S : Sg} (h : cls v b S) (z r : Int32) : Ct G mT_stock [.ref (cxa G 0), .int z, .int r] (wl G v b) (clQ G v b (some (.int (bI (hasB (sX S) z r)))) S) := by
  refine Ct.of (by decide) rfl rfl (Nat.le_of_ble_eq_true rfl) ?_
  refine Ev.aload_n (pc := 0) (i := 0) dT_stock_0 rfl rfl ?_
  refine Ev.gf (pc := 1) dT_stock_1 fl_T_45 (by omega) (rfl) rfl ?_
  refine Ev.iload_n (pc := 4) (i := 1) dT_stock_4 rfl rfl ?_
  refine Ev.iload_n (pc := 5) (i := 2) dT_stock_5 rfl rfl ?_
  refine Ev.callV (pc := 6) dT_stock_6 kv_T_207 ⟨Nat.le_of_ble_eq_true rfl, Nat.le_of_ble_eq_true rfl⟩ (wl_at (by decide) rfl) rfl rfl (ct_S_has (k := 0) (by decide) z r) rfl rfl (Nat.le_of_ble_eq_true rfl) ?_
  rintro _ _ ⟨rfl, rfl⟩
  rw [show b (20 + 2 * 0) = sX S from h.2.2.2.2.2]
  exact Ev.zreturn dT_stock_9 rfl ⟨v, b, rfl, rfl, h, fun _ _ => ⟨rfl, rfl⟩⟩
set_option maxHeartbeats 4000000 in
set_option maxRecDepth 100000 in
theorem ct_T_fault {S : Sg} (hg : gd S) (h : cls v b S) : Ct G mT_fault [.ref (cxa G 0)] (wl G v b) (clQ G v b (some (.int (aFau S))) S) := by
  have hb := h.2.2.2.1
  refine Ct.of (by decide) rfl rfl (Nat.le_of_ble_eq_true rfl) ?_
  refine Ev.aload_n (pc := 0) (i := 0) dT_fault_0 rfl rfl ?_
  refine Ev.gf (pc := 1) dT_fault_1 fl_T_79 (by omega) (rfl) rfl ?_
  cases hP : sP S with
  | none =>
    rw [hP] at hb
    refine Ev.if_neB (pc := 4) (tgt := 9) dT_fault_4 rfl (fun h1 => ?_) (fun h1 => ?_)
    · rw [hb] at h1; cases h1
    · refine Ev.iconst (pc := 7) (v := (-1)) dT_fault_7 (by decide) ?_
      exact Ev.ireturn .int dT_fault_8 rfl rfl (⟨v, b, rfl, by unfold aFau; rw [hP], h, fun _ _ => ⟨rfl, rfl⟩⟩)
  | some q =>
    obtain ⟨m, p, t, l⟩ := q
    obtain ⟨m1, m2, m3⟩ := h.2.2.2.2.1 m p t l hP
    obtain ⟨g1, g2, g3⟩ := hg.2.2.2.2 m p t l hP
    have e1 : aFau S = ftI (smR S (m, p, t, l) m (fillB (sRd S) (sLn S))).1 := by unfold aFau; rw [hP]
    rw [hP] at hb
    rw [e1]
    refine Ev.if_neB (pc := 4) (tgt := 9) dT_fault_4 rfl (fun h1 => ?_) (fun h1 => ?_)
    · refine Ev.aload_n (pc := 9) (i := 0) dT_fault_9 rfl rfl ?_
      refine Ev.gf (pc := 10) dT_fault_10 fl_T_75 (by omega) (rfl) rfl ?_
      refine Ev.aload_n (pc := 13) (i := 0) dT_fault_13 rfl rfl ?_
      refine Ev.gf (pc := 14) dT_fault_14 fl_T_39 (by omega) (rfl) rfl ?_
      refine Ev.aload_n (pc := 17) (i := 0) dT_fault_17 rfl rfl ?_
      refine Ev.gf (pc := 18) dT_fault_18 fl_T_39 (by omega) (rfl) rfl ?_
      refine Ev.gf (pc := 21) dT_fault_21 fl_T_173 (by omega) (rfl) rfl ?_
      refine Ev.topi m2.1 ?_
      refine Ev.aload_n (pc := 24) (i := 0) dT_fault_24 rfl rfl ?_
      refine Ev.gf (pc := 25) dT_fault_25 fl_T_49 (by omega) (rfl) rfl ?_
      refine Ev.callV (pc := 28) dT_fault_28 kv_T_200 ⟨Nat.le_of_ble_eq_true rfl, Nat.le_of_ble_eq_true rfl⟩ (wl_at (by decide) rfl) rfl rfl (ct_R_goThrough (k := 1) (nn := m) (by decide) (fun j hj => h.2.1 j hj) h.1.2.2.1 h.1.2.2.2 h.2.2.1 m2 g3 (by decide) (by omega)) rfl rfl (Nat.le_of_ble_eq_true rfl) ?_
      rintro _ _ ⟨v2, b2, rfl, rfl, hF, hFb, r6, r5, rX⟩
      refine Ev.aload_n (pc := 31) (i := 0) dT_fault_31 rfl rfl ?_
      refine Ev.gf (pc := 32) dT_fault_32 fl_T_75 (by omega) (rfl) rfl ?_
      refine Ev.gf (pc := 35) dT_fault_35 fl_T_210 (by omega) (rfl) rfl ?_
      refine Ev.ireturn .int dT_fault_38 rfl rfl ⟨v2, b2, rfl, ?_, h.cg (fun p hp => hF p (by omega)) (hFb 0 (by decide)) (hFb 20 (by decide)), fun p hp => ⟨hF p (by omega), hFb p (by omega)⟩⟩
      have := (smA_eqX (C := sC S) (sy := sSy S) (ns := sc S) (J := fun a => sK S (sJ S a)) (mv := t) (if m < m then m else m) 0 (x := (0, 15, 0, fillM (v 1 0) (v 1 1) (b (20 + 2 * 1)) 96)) (y := (0, 15, 0, fillB (sRd S) (sLn S))) rfl ⟨rfl, rfl, by rw [h.1.1, h.1.2.1]; exact fill_eqX⟩).1
      rw [r6]
      show some (Value.int (ftI (smA _ _ _ _ _ _ _ _).1)) = _
      rw [this]
      rfl
    · rw [hb] at h1; cases h1
set_option maxHeartbeats 4000000 in
set_option maxRecDepth 100000 in
theorem ct_T_left {S : Sg} (h : cls v b S) : Ct G mT_left [.ref (cxa G 0)] (wl G v b) (clQ G v b (some (.int (aLef S))) S) := by
  have hb := h.2.2.2.1
  refine Ct.of (by decide) rfl rfl (Nat.le_of_ble_eq_true rfl) ?_
  refine Ev.aload_n (pc := 0) (i := 0) dT_left_0 rfl rfl ?_
  refine Ev.gf (pc := 1) dT_left_1 fl_T_79 (by omega) (rfl) rfl ?_
  cases hP : sP S with
  | none =>
    rw [hP] at hb
    refine Ev.if_eqB (pc := 4) (tgt := 14) dT_left_4 rfl (fun h1 => ?_) (fun h1 => ?_)
    · refine Ev.iconst (pc := 14) (v := (-1)) dT_left_14 (by decide) ?_
      exact Ev.ireturn .int dT_left_15 rfl rfl (⟨v, b, rfl, by unfold aLef; rw [hP], h, fun _ _ => ⟨rfl, rfl⟩⟩)
    · rw [hb] at h1; cases h1
  | some q =>
    obtain ⟨m, p, t, l⟩ := q
    obtain ⟨m1, m2, m3⟩ := h.2.2.2.2.1 m p t l hP
    rw [hP] at hb
    refine Ev.if_eqB (pc := 4) (tgt := 14) dT_left_4 rfl (fun h1 => ?_) (fun h1 => ?_)
    · rw [hb] at h1; cases h1
    · refine Ev.aload_n (pc := 7) (i := 0) dT_left_7 rfl rfl ?_
      refine Ev.gf (pc := 8) dT_left_8 fl_T_83 (by omega) (rfl) rfl ?_
      refine Ev.goto (pc := 11) (tgt := 15) dT_left_11 rfl ?_
      exact Ev.ireturn .int dT_left_15 rfl rfl (⟨v, b, rfl, by unfold aLef; rw [hP, m3], h, fun _ _ => ⟨rfl, rfl⟩⟩)
set_option maxHeartbeats 4000000 in
set_option maxRecDepth 100000 in
theorem ct_T_steps {S : Sg} (hg : gd S) (h : cls v b S) (k : Int32) : Ct G mT_steps [.ref (cxa G 0), .int k] (wl G v b) (clQ G v b (some (.int (aSte S k))) S) := by
  have hb := h.2.2.2.1
  refine Ct.of (by decide) rfl rfl (Nat.le_of_ble_eq_true rfl) ?_
  refine Ev.aload_n (pc := 0) (i := 0) dT_steps_0 rfl rfl ?_
  refine Ev.gf (pc := 1) dT_steps_1 fl_T_79 (by omega) (rfl) rfl ?_
  cases hP : sP S with
  | none =>
    rw [hP] at hb
    refine Ev.if_eqB (pc := 4) (tgt := 16) dT_steps_4 rfl (fun h1 => ?_) (fun h1 => ?_)
    · refine Ev.iconst (pc := 16) (v := 0) dT_steps_16 (by decide) ?_
      exact Ev.ireturn .int dT_steps_17 rfl rfl (⟨v, b, rfl, by unfold aSte; rw [hP], h, fun _ _ => ⟨rfl, rfl⟩⟩)
    · rw [hb] at h1; cases h1
  | some q =>
    obtain ⟨m, p, t, l⟩ := q
    obtain ⟨m1, m2, m3⟩ := h.2.2.2.2.1 m p t l hP
    obtain ⟨g1, g2, g3⟩ := hg.2.2.2.2 m p t l hP
    rw [hP] at hb
    have e1 : aSte S k = if k.toInt = 0 ∨ k.toInt = 1 then nI (sumN m (fun i => if (t i).1 = k.toInt.toNat then (t i).2.2 else 0)) else 0 := by unfold aSte; rw [hP]
    rw [e1]
    have yes : (k.toInt = 0 ∨ k.toInt = 1) → Ev G mT_steps 18 [some (.ref (cxa G 0)), some (.int k)] [] (wl G v b) (cx_e G mT_steps (clQ G v b (some (.int (if k.toInt = 0 ∨ k.toInt = 1 then nI (sumN m (fun i => if (t i).1 = k.toInt.toNat then (t i).2.2 else 0)) else 0))) S)) := by
      intro hk
      rw [if_pos hk]
      have ek : k = nI k.toInt.toNat := nI_nat (by omega)
      refine Ev.aload_n (pc := 18) (i := 0) dT_steps_18 rfl rfl ?_
      refine Ev.gf (pc := 19) dT_steps_19 fl_T_39 (by omega) (rfl) rfl ?_
      refine Ev.iload_n (pc := 22) (i := 1) dT_steps_22 rfl rfl ?_
      refine Ev.topi ek ?_
      refine Ev.callV (pc := 23) dT_steps_23 kv_T_213 ⟨Nat.le_of_ble_eq_true rfl, Nat.le_of_ble_eq_true rfl⟩ (wl_at (by decide) rfl) rfl rfl (ct_M_countSteps (k := k.toInt.toNat) m2 g3 (by decide) (by omega)) rfl rfl (Nat.le_of_ble_eq_true rfl) ?_
      rintro _ _ ⟨rfl, rfl⟩
      exact Ev.ireturn .int dT_steps_26 rfl rfl ⟨v, b, rfl, rfl, h, fun _ _ => ⟨rfl, rfl⟩⟩
    refine Ev.if_eqB (pc := 4) (tgt := 16) dT_steps_4 rfl (fun h1 => ?_) (fun h1 => ?_)
    · rw [hb] at h1; cases h1
    refine Ev.iload_n (pc := 7) (i := 1) dT_steps_7 rfl rfl ?_
    refine Ev.cif_eq (rfl) (pc := 8) (tgt := 18) dT_steps_8 rfl (fun h2 => ?_) (fun h2 => ?_)
    · exact yes (Or.inl h2)
    refine Ev.iload_n (pc := 11) (i := 1) dT_steps_11 rfl rfl ?_
    refine Ev.iconst (pc := 12) (v := 1) dT_steps_12 (by decide) ?_
    refine Ev.cicmp_eq (rfl) ((show (1 : Int32).toInt = 1 from by decide)) (pc := 13) (tgt := 18) dT_steps_13 rfl (fun h3 => ?_) (fun h3 => ?_)
    · exact yes (Or.inr h3)
    · refine Ev.iconst (pc := 16) (v := 0) dT_steps_16 (by decide) ?_
      exact Ev.ireturn .int dT_steps_17 rfl rfl (⟨v, b, rfl, by rw [if_neg (by omega)], h, fun _ _ => ⟨rfl, rfl⟩⟩)
end Face3
