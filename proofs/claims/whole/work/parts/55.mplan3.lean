/-! The reference: plan, the whole of it -/
section Mp3
variable {G : cx_G} {v : Nat → Nat → Int32} {b : Nat → Nat → Bool}
set_option maxHeartbeats 4000000 in
set_option maxRecDepth 100000 in
theorem ct_D_plan {S : Sg} (hg : gd S) (h : mdl v b S) : Ct G mD_plan [.ref (cxa G 30)] (wl G v b) (mdQ G v b (some (.int (aPln S))) (oPln S)) := by
  have m0 := md_drop (b := b) h.1 h.2.1 h.2.2.1
  have f0 : pfr v (sv v 30 10 0) := ⟨fun p a _ _ _ _ _ => sv_p a, fun k hk => sv_k hk⟩
  refine Ct.of (by decide) rfl rfl (Nat.le_of_ble_eq_true rfl) ?_
  refine Ev.aload_n (pc := 0) (i := 0) dD_plan_0 rfl rfl ?_
  refine Ev.callV (pc := 1) dD_plan_1 kv_D_79 ⟨Nat.le_of_ble_eq_true rfl, Nat.le_of_ble_eq_true rfl⟩ (wl_at (by decide) rfl) rfl rfl (ct_D_drop) rfl rfl (Nat.le_of_ble_eq_true rfl) ?_
  rintro _ _ ⟨rfl, rfl⟩
  refine Ev.aload_n (pc := 4) (i := 0) dD_plan_4 rfl rfl ?_
  refine Ev.callV (pc := 5) dD_plan_5 kv_D_140 ⟨Nat.le_of_ble_eq_true rfl, Nat.le_of_ble_eq_true rfl⟩ (wl_at (by decide) rfl) rfl rfl (ct_D_isJob hg (fun j hj => (h.2.1 j hj).pf f0) (h.2.2.1.pf f0)) rfl rfl (Nat.le_of_ble_eq_true rfl) ?_
  rintro _ _ ⟨rfl, rfl⟩
  refine Ev.if_neB (pc := 8) (tgt := 13) dD_plan_8 rfl (fun h1 => ?_) (fun h1 => ?_)
  rotate_left
  · have hq : plnQ S = false := by
      unfold plnQ
      rw [h1]
      rfl
    refine Ev.iconst (pc := 11) (v := (-1)) dD_plan_11 (by decide) ?_
    exact Ev.ireturn .int dD_plan_12 rfl rfl ⟨_, _, rfl, by rw [aPln, if_f hq], by rw [oPln, if_f hq]; exact m0, fun p hp => ⟨dv_fr hp, db_fr hp⟩⟩
  have hne : ∀ k, k < sc S → 0 < (sK S (sJ S k)).1 := by
    intro k hk
    unfold rdy at h1
    rw [Bool.and_eq_true] at h1
    have := of_decide_eq_true (allB_iff.mp h1.1 k hk)
    omega
  refine Ev.aload_n (pc := 13) (i := 0) dD_plan_13 rfl rfl ?_
  refine Ev.callV (pc := 14) dD_plan_14 kv_D_144 ⟨Nat.le_of_ble_eq_true rfl, Nat.le_of_ble_eq_true rfl⟩ (wl_at (by decide) rfl) rfl rfl (ct_D_fill) rfl rfl (Nat.le_of_ble_eq_true rfl) ?_
  rintro _ _ ⟨rfl, rfl⟩
  generalize hX0 : fillM ((sv v 30 10 0) 30 0) ((sv v 30 10 0) 30 1) ((sb (sb b 30 9 false) 30 18 false) 43) 96 = X0
  have hX : eqX X0 (fillB (sRd S) (sLn S)) := by
    rw [← hX0, sv_k (by decide), sv_k (by decide), h.1.1, h.1.2.1]
    exact fill_eqX
  refine Ev.iconst (pc := 17) (v := 0) dD_plan_17 (by decide) ?_
  refine Ev.istore_n (pc := 18) (i := 1) dD_plan_18 rfl (Nat.le_of_ble_eq_true rfl) ?_
  have loop : ∀ k, k ≤ sc S → ∀ (v' : Nat → Nat → Int32) (b' : Nat → Nat → Bool) (l2 l3 l4 : Option Value), pfr (sv v 30 10 0) v' → (∀ p, p ≠ 43 → p ≠ 44 → b' p = (sb (sb b 30 9 false) 30 18 false) p) → ma v' (mkF (sC S) (sSy S) (sJs S) X0 k).1 (2000 + 40000 * k) → ((mkF (sC S) (sSy S) (sJs S) X0 k).1.1 ≤ 2000 → okP (40000 * k) (mkF (sC S) (sSy S) (sJs S) X0 k).1 ∧ b' 43 = (mkF (sC S) (sSy S) (sJs S) X0 k).2) → Ev G mD_plan 19 [some (.ref (cxa G 30)), some (.int (nI k)), l2, l3, l4] [] (wl G v' b') (cx_e G mD_plan (mdQ G v b (some (.int (aPln S))) (oPln S))) := by
    refine loopN (fun k hk ih v1 b1 l2 l3 l4 hF hFb hm hex => ?_)
    have hc3 := hg.2.2.2.1.1
    have hc : v1 30 7 = nI (sc S) := by rw [hF.2 7 (by decide), sv_k (by decide)]; exact h.2.2.1.1
    refine Ev.iload_n (pc := 19) (i := 1) dD_plan_19 rfl rfl ?_
    refine Ev.aload_n (pc := 20) (i := 0) dD_plan_20 rfl rfl ?_
    refine Ev.gf (pc := 21) dD_plan_21 fl_D_86 (by omega) (rfl) rfl ?_
    refine Ev.topi hc ?_
    refine Ev.cicmp_ge (nI_toInt (by omega)) (nI_toInt (by omega)) (pc := 24) (tgt := 122) dD_plan_24 rfl (fun h2 => ?_) (fun h2 => ?_)
    · have e : k = sc S := by omega
      subst e
      exact plan_end hg h h1 hX hF hFb (z := 2000 + 40000 * sc S) (by omega) (by omega) hm (fun e => (hex e).2)
    have hlt : k < sc S := by omega
    have ih := ih hlt
    have hj := hg.2.2.2.1.2 k hlt
    have hI1 : ∀ j, j < 3 → mi v1 j (sK S j) := fun j hj => ((h.2.1 j hj).pf f0).pf hF
    have hsm := (hg.2.2.1 _ hj).2
    refine Ev.aload_n (pc := 27) (i := 0) dD_plan_27 rfl rfl ?_
    refine Ev.gf (pc := 28) dD_plan_28 fl_D_32 (by omega) (rfl) rfl ?_
    refine Ev.iload_n (pc := 31) (i := 1) dD_plan_31 rfl rfl ?_
    refine Ev.aldi (pc := 32) dD_plan_32 (by omega) (by first | exact fun _ _ => rfl | exact cell_dz hj | exact cell_dr hj | exact cell_mr hk | exact cell_sr hk) _ (rfl) (by omega) (by decide) ?_
    refine Ev.topi (y := nI (sJ S k)) (by rw [hF.1 35 (by decide) (by decide) (by decide) (by decide) (by decide) (by decide), sv_p (by decide)]; exact h.2.2.1.2 k hlt) ?_
    refine Ev.istore_n (pc := 33) (i := 2) dD_plan_33 rfl (Nat.le_of_ble_eq_true rfl) ?_
    refine Ev.aload_n (pc := 34) (i := 0) dD_plan_34 rfl rfl ?_
    refine Ev.iconst (pc := 35) (v := 2) dD_plan_35 (by decide) ?_
    refine Ev.iconst (pc := 36) (v := 0) dD_plan_36 (by decide) ?_
    refine Ev.callV (pc := 37) dD_plan_37 kv_D_136 ⟨Nat.le_of_ble_eq_true rfl, Nat.le_of_ble_eq_true rfl⟩ (wl_at (by decide) rfl) rfl rfl (ct_D_addC (z := 2000 + 40000 * k) (by omega) (by omega) hm) rfl rfl (Nat.le_of_ble_eq_true rfl) ?_
    rintro _ _ ⟨v2, rfl, rfl, hF2, hm2⟩
    have hF3 := hF.tr hF2.p
    refine Ev.aload_n (pc := 40) (i := 0) dD_plan_40 rfl rfl ?_
    refine Ev.iload_n (pc := 41) (i := 2) dD_plan_41 rfl rfl ?_
    refine Ev.callV (pc := 42) dD_plan_42 kv_D_116 ⟨Nat.le_of_ble_eq_true rfl, Nat.le_of_ble_eq_true rfl⟩ (wl_at (by decide) rfl) rfl rfl (ct_D_findReach hj ((hI1 _ hj).pf hF2.p) ((h.1.2.2.pf f0).pf hF3) hg.C0 hsm hg.sy8) rfl rfl (Nat.le_of_ble_eq_true rfl) ?_
    rintro _ _ ⟨b2, rfl, rfl, hFb2, hall⟩
    have h44 : ∀ q, q < 320 → b2 44 q = (okI (sC S) (sSy S) (sK S (sJ S k))) q := by
      intro q hq
      rw [hall q hq]
      unfold inRF
      rw [decide_eq_true (hne k hlt)]
      rfl
    have hFb3 : ∀ p, p ≠ 43 → p ≠ 44 → b2 p = (sb (sb b 30 9 false) 30 18 false) p := fun p a1 a2 => (hFb2 p a2).trans (hFb p a1 a2)
    refine Ev.bipush (pc := 45) (v := (-4)) dD_plan_45 (by decide) ?_
    refine Ev.bipush (pc := 47) (v := 15) dD_plan_47 (by decide) ?_
    refine Ev.callS (pc := 49) dD_plan_49 ks_D_100 ⟨Nat.le_of_ble_eq_true rfl, Nat.le_of_ble_eq_true rfl⟩ (ct_D_number (z := -4) (r := 15) (by decide)) rfl rfl (Nat.le_of_ble_eq_true rfl) ?_
    rintro _ _ ⟨rfl, rfl⟩
    refine Ev.topi (y := nI 15) rfl ?_
    refine Ev.istore_n (pc := 52) (i := 3) dD_plan_52 rfl (Nat.le_of_ble_eq_true rfl) ?_
    refine Ev.aload_n (pc := 53) (i := 0) dD_plan_53 rfl rfl ?_
    refine Ev.aload_n (pc := 54) (i := 0) dD_plan_54 rfl rfl ?_
    refine Ev.gf (pc := 55) dD_plan_55 fl_D_63 (by omega) (rfl) rfl ?_
    refine Ev.iload_n (pc := 58) (i := 2) dD_plan_58 rfl rfl ?_
    refine Ev.iload_n (pc := 59) (i := 3) dD_plan_59 rfl rfl ?_
    refine Ev.callV (pc := 60) dD_plan_60 kv_D_129 ⟨Nat.le_of_ble_eq_true rfl, Nat.le_of_ble_eq_true rfl⟩ (wl_at (by decide) rfl) rfl rfl (ct_D_measure_45 (g := 15) hj ((hI1 _ hj).pf hF2.p) (by decide) (ok := (okI (sC S) (sSy S) (sK S (sJ S k)))) h44) rfl rfl (Nat.le_of_ble_eq_true rfl) ?_
    rintro _ _ ⟨v3, t3, rfl, rfl, hF4, hT3, hB3, hdk3⟩
    rw [ex_s (home_cov hsm)] at hdk3
    have hF5 := hF3.tr (pfr_45 hF4)
    have hm3 := hm2.cg (hF4 30 (by decide)) (hF4 36 (by decide)) (hF4 37 (by decide)) (hF4 38 (by decide))
    refine Ev.aload_n (pc := 63) (i := 0) dD_plan_63 rfl rfl ?_
    refine Ev.iload_n (pc := 64) (i := 2) dD_plan_64 rfl rfl ?_
    refine Ev.callV (pc := 65) dD_plan_65 kv_D_147 ⟨Nat.le_of_ble_eq_true rfl, Nat.le_of_ble_eq_true rfl⟩ (wl_at (by decide) rfl) rfl rfl (ct_D_target hj (((h.2.1 _ hj).pf f0).pf hF5) (ok := (okI (sC S) (sSy S) (sK S (sJ S k)))) h44 hT3 hB3) rfl rfl (Nat.le_of_ble_eq_true rfl) ?_
    rintro _ _ ⟨rfl, r3, rfl, hb3⟩
    refine Ev.istore (pc := 68) dD_plan_68 (Nat.le_of_ble_eq_true rfl) ?_
    have leave : ∀ (v' : Nat → Nat → Int32) (b' : Nat → Nat → Bool) (l3 l4 : Option Value), pfr (sv v 30 10 0) v' → (∀ p, p ≠ 43 → p ≠ 44 → b' p = (sb (sb b 30 9 false) 30 18 false) p) → ma v' (mkF (sC S) (sSy S) (sJs S) X0 (k + 1)).1 (2000 + 40000 * (k + 1)) → ((mkF (sC S) (sSy S) (sJs S) X0 (k + 1)).1.1 ≤ 2000 → okP (40000 * (k + 1)) (mkF (sC S) (sSy S) (sJs S) X0 (k + 1)).1 ∧ b' 43 = (mkF (sC S) (sSy S) (sJs S) X0 (k + 1)).2) → Ev G mD_plan 116 [some (.ref (cxa G 30)), some (.int (nI k)), some (.int (nI (sJ S k))), l3, l4] [] (wl G v' b') (cx_e G mD_plan (mdQ G v b (some (.int (aPln S))) (oPln S))) := by
      intro v' b' l3 l4 g1 g2 g3 g4
      refine Ev.iinc (pc := 116) dD_plan_116 rfl (cx_inc _) (Nat.le_of_ble_eq_true rfl) ?_
      refine Ev.goto (pc := 119) (tgt := 19) dD_plan_119 rfl ?_
      exact ih v' b' _ _ _ g1 g2 g3 g4
    have emk : mkF (sC S) (sSy S) (sJs S) X0 (k + 1) = rdF (sC S) (sSy S) (sK S (sJ S k)) 96 (pmC (mkF (sC S) (sSy S) (sJs S) X0 k).1, (mkF (sC S) (sSy S) (sJs S) X0 k).2, 15) := rfl
    by_cases hov : (pmC (mkF (sC S) (sSy S) (sJs S) X0 k).1).1 ≤ 2000
    · have hle : (mkF (sC S) (sSy S) (sJs S) X0 k).1.1 ≤ 2000 := by
        have : (mkF (sC S) (sSy S) (sJs S) X0 k).1.1 + 1 ≤ 2000 := hov
        omega
      obtain ⟨x1, x2⟩ := hex hle
      have e43 : b2 43 = (mkF (sC S) (sSy S) (sJs S) X0 k).2 := by rw [hFb2 43 (by decide)]; exact x2
      refine plan_legs (v := (sv v 30 10 0)) (b := (sb (sb b 30 9 false) 30 18 false)) (Z := 2000 + 40000 * (k + 1)) (BB := 40000 * (k + 1)) hg (fun j hj => (h.2.1 j hj).pf f0) hlt (by omega) (by omega) leave 96 v3 b2 (pmC (mkF (sC S) (sSy S) (sJs S) X0 k).1) 15 r3 t3 (2000 + 40000 * k + 1) (40000 * k) hF5 hFb3 h44 hT3 hB3 hdk3 hb3 (by decide) (home_ok hg.C0 hsm) (home_cov hsm) hm3 (by omega) (by omega) (okP_C x1) (by omega) cntB_le (by rw [e43, emk])
    · have hlen := rdF_len (C := sC S) (sy := sSy S) (I := (sK S (sJ S k))) 96 (pmC (mkF (sC S) (sSy S) (sJs S) X0 k).1, (mkF (sC S) (sSy S) (sJs S) X0 k).2, 15)
      rw [← emk] at hlen
      have hlen : (pmC (mkF (sC S) (sSy S) (sJs S) X0 k).1).1 ≤ (mkF (sC S) (sSy S) (sJs S) X0 (k + 1)).1.1 := hlen
      rcases hm3 with ⟨y1, -⟩ | ⟨y1, c, y2, y3, y4⟩
      · omega
      have out := leave v3 b2 (some (.int (nI 15))) (some (.int (bxI r3))) hF5 hFb3 (Or.inr ⟨by omega, c, y2, y3, by omega⟩) (fun e => by omega)
      refine Ev.iload (pc := 70) dD_plan_70 rfl ?_
      refine Ev.cif_lt (rfl) (pc := 72) (tgt := 116) dD_plan_72 rfl (fun h5 => ?_) (fun h5 => ?_)
      · exact out
      refine Ev.aload_n (pc := 75) (i := 0) dD_plan_75 rfl rfl ?_
      refine Ev.gf (pc := 76) dD_plan_76 fl_D_76 (by omega) (rfl) rfl ?_
      refine Ev.topi y2 ?_
      refine Ev.sipush (pc := 79) (v := 2000) dD_plan_79 (by decide) ?_
      refine Ev.cicmp_gt (nI_toInt (by omega)) ((show (2000 : Int32).toInt = 2000 from by decide)) (pc := 82) (tgt := 116) dD_plan_82 rfl (fun h6 => ?_) (fun h6 => ?_)
      · exact out
      · omega
  exact loop 0 (Nat.zero_le _) _ _ _ _ _ ⟨fun _ _ _ _ _ _ _ => rfl, fun _ _ => rfl⟩ (fun p a1 _ => up_ne a1) (Or.inl ⟨Nat.zero_le _, by rw [sv_eq]; rfl, fun i hi => absurd hi (by show ¬ i < 0; omega)⟩) (fun _ => ⟨fun i hi => absurd hi (by show ¬ i < 0; omega), up_at _ _ _⟩)
end Mp3
