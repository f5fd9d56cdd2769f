/-! Run: changes, moves, all -/
theorem wrI_0 {n : Nat} (h : n < 1000) : (wrI n).toInt = -1 ↔ n = 0 := by
  unfold wrI
  by_cases e : n = 0
  · rw [if_pos e]
    exact ⟨fun _ => e, fun _ => by decide⟩
  · rw [if_neg e, nI_toInt (by omega)]
    omega
section Rn2
variable {G : cx_G} {v : Nat → Nat → Int32} {b : Nat → Nat → Bool}
set_option maxHeartbeats 4000000 in
set_option maxRecDepth 100000 in
theorem ct_R_goChange {C : Int32} {sy : Nat → Int32} {Js : Nat → Ins} {k ch c : Nat} {x : Sm} {q : Mv} (hq : q.1 = 2) (hch : ch ≤ 3) (hc3 : c ≤ 3) (hc : v 13 2 = nI c) (hR : rnV v b k ch x) : Ct G mR_goChange [.ref (cxa G 29)] (wl G v b) (fun y w' => ∃ (v' : Nat → Nat → Int32) (b' : Nat → Nat → Bool), w' = wl G v' b' ∧ y = some (.int (wrI (smM C sy c Js q (ch, x)).1)) ∧ rFr v v' b b' k ∧ rnV v' b' k (smM C sy c Js q (ch, x)).2.1 (smM C sy c Js q (ch, x)).2.2) := by
  have hcI : (v 13 2).toInt = (c : Int) := by rw [hc]; exact nI_toInt (by omega)
  have hhI : (v 29 2).toInt = (ch : Int) := by rw [hR.1]; exact nI_toInt (by omega)
  refine Ct.of (by decide) rfl rfl (Nat.le_of_ble_eq_true rfl) ?_
  refine Ev.aload_n (pc := 0) (i := 0) dR_goChange_0 rfl rfl ?_
  refine Ev.gf (pc := 1) dR_goChange_1 fl_R_9 (by omega) (rfl) rfl ?_
  refine Ev.aload_n (pc := 4) (i := 0) dR_goChange_4 rfl rfl ?_
  refine Ev.gf (pc := 5) dR_goChange_5 fl_R_31 (by omega) (rfl) rfl ?_
  refine Ev.gf (pc := 8) dR_goChange_8 fl_R_78 (by omega) (rfl) rfl ?_
  refine Ev.cicmp_lt (hhI) (hcI) (pc := 11) (tgt := 16) dR_goChange_11 rfl (fun h => ?_) (fun h => ?_)
  · have e : (smM C sy c Js q (ch, x)) = (0, ch + 1, 15, x.2) := by
      unfold smM
      rw [if_pos hq, if_neg (by show ¬ c ≤ ch; omega)]
    refine Ev.aload_n (pc := 16) (i := 0) dR_goChange_16 rfl rfl ?_
    refine Ev.dup (pc := 17) dR_goChange_17 rfl ?_
    refine Ev.gf (pc := 18) dR_goChange_18 fl_R_9 (by omega) (rfl) rfl ?_
    refine Ev.iconst (pc := 21) (v := 1) dR_goChange_21 (by decide) ?_
    refine Ev.iadd (pc := 22) dR_goChange_22 ?_
    refine Ev.topi (y := nI (ch + 1)) (by rw [hR.1]; exact (nI_succ ch).symm) ?_
    refine Ev.puti (pc := 23) dR_goChange_23 fl_R_9 fp_R_changes (by omega) (rfl) rfl (Nat.le_of_ble_eq_true rfl) ?_
    refine Ev.aload_n (pc := 26) (i := 0) dR_goChange_26 rfl rfl ?_
    refine Ev.bipush (pc := 27) (v := 15) dR_goChange_27 (by decide) ?_
    refine Ev.callN (pc := 29) dR_goChange_29 kn_R_83 ⟨Nat.le_of_ble_eq_true rfl, Nat.le_of_ble_eq_true rfl⟩ (ct_T_zOf 15 (by decide)) rfl rfl (Nat.le_of_ble_eq_true rfl) ?_
    rintro _ _ ⟨rfl, rfl⟩
    refine Ev.puti (pc := 32) dR_goChange_32 fl_R_15 fp_R_z (by omega) (rfl) rfl (Nat.le_of_ble_eq_true rfl) ?_
    refine Ev.aload_n (pc := 35) (i := 0) dR_goChange_35 rfl rfl ?_
    refine Ev.bipush (pc := 36) (v := 15) dR_goChange_36 (by decide) ?_
    refine Ev.callN (pc := 38) dR_goChange_38 kn_R_86 ⟨Nat.le_of_ble_eq_true rfl, Nat.le_of_ble_eq_true rfl⟩ (ct_T_rOf 15 (by decide)) rfl rfl (Nat.le_of_ble_eq_true rfl) ?_
    rintro _ _ ⟨rfl, rfl⟩
    refine Ev.puti (pc := 41) dR_goChange_41 fl_R_18 fp_R_r (by omega) (rfl) rfl (Nat.le_of_ble_eq_true rfl) ?_
    refine Ev.iconst (pc := 44) (v := (-1)) dR_goChange_44 (by decide) ?_
    refine Ev.ireturn .int dR_goChange_45 rfl rfl ⟨_, b, rfl, by rw [e]; rfl, ⟨fun p a => by rw [sv_p a, sv_p a, sv_p a], fun _ _ => rfl, by rw [sv_k (by decide), sv_k (by decide), sv_k (by decide)]⟩, ?_⟩
    rw [e]
    exact ⟨by rw [sv_k (by decide), sv_k (by decide), sv_eq], fun _ => ⟨by rw [sv_k (by decide), sv_eq], by rw [sv_eq], by show 15 < 320; decide⟩, by rw [sv_k (by decide), sv_k (by decide), sv_k (by decide)]; exact hR.2.2.1, hR.2.2.2⟩
  · have e : (smM C sy c Js q (ch, x)) = (4, ch, x) := by
      unfold smM
      rw [if_pos hq, if_pos (by show c ≤ ch; omega)]
    refine Ev.iconst (pc := 14) (v := 4) dR_goChange_14 (by decide) ?_
    exact Ev.ireturn .int dR_goChange_15 rfl rfl (⟨v, b, rfl, by rw [e]; rfl, ⟨fun _ _ => rfl, fun _ _ => rfl, rfl⟩, by rw [e]; exact hR⟩)
set_option maxHeartbeats 4000000 in
set_option maxRecDepth 100000 in
theorem ct_R_goMove {C : Int32} {sy : Nat → Int32} {Is : Nat → Ins} {J : Nat → Nat} {k ch c B : Nat} {x : Sm} {q : Mv} (hk : k < 2) (hI : ∀ j, j < 3 → insV v j (Is j)) (hC : v 1 2 = C) (hsy : v 2 = sy) (hJ : jobOK v c J) (hch : ch ≤ c) (hq : okMv B q) (hB : B < 900000) (hR : rnV v b k ch x) : Ct G mR_goMove [.ref (cxa G 29), .int (nI (pk3 q)), .ref (cxa G (19 + 2 * k))] (wl G v b) (fun y w' => ∃ (v' : Nat → Nat → Int32) (b' : Nat → Nat → Bool), w' = wl G v' b' ∧ y = some (.int (wrI (smM C sy c (fun a => Is (J a)) q (ch, x)).1)) ∧ rFr v v' b b' k ∧ rnV v' b' k (smM C sy c (fun a => Is (J a)) q (ch, x)).2.1 (smM C sy c (fun a => Is (J a)) q (ch, x)).2.2) := by
  obtain ⟨b1, b2, b3, b4⟩ := hq.lt (by omega)
  have hc3 := hJ.1
  refine Ct.of (by decide) rfl rfl (Nat.le_of_ble_eq_true rfl) ?_
  refine Ev.iload_n (pc := 0) (i := 1) dR_goMove_0 rfl rfl ?_
  refine Ev.callS (pc := 1) dR_goMove_1 ks_R_60 ⟨Nat.le_of_ble_eq_true rfl, Nat.le_of_ble_eq_true rfl⟩ (ct_M_kindOf (by omega)) rfl rfl (Nat.le_of_ble_eq_true rfl) ?_
  rintro _ _ ⟨rfl, rfl⟩
  refine Ev.topi (congrArg nI (pk3_k b1)) ?_
  refine Ev.istore_n (pc := 4) (i := 3) dR_goMove_4 rfl (Nat.le_of_ble_eq_true rfl) ?_
  refine Ev.iload_n (pc := 5) (i := 3) dR_goMove_5 rfl rfl ?_
  refine Ev.iconst (pc := 6) (v := 2) dR_goMove_6 (by decide) ?_
  refine Ev.cicmp_ne (nI_toInt (by omega)) ((show (2 : Int32).toInt = 2 from by decide)) (pc := 7) (tgt := 15) dR_goMove_7 rfl (fun h => ?_) (fun h => ?_)
  · have hne : ¬ q.1 = 2 := by omega
    have hkd : q.1 < 2 := by
      rcases hq with h1 | h1
      · exact h1.1
      · rw [h1] at hne; exact absurd rfl hne
    have hhI : (v 29 2).toInt = (ch : Int) := by rw [hR.1]; exact nI_toInt (by omega)
    refine Ev.aload_n (pc := 15) (i := 0) dR_goMove_15 rfl rfl ?_
    refine Ev.gf (pc := 16) dR_goMove_16 fl_R_9 (by omega) (rfl) rfl ?_
    refine Ev.cif_ne (hhI) (pc := 19) (tgt := 24) dR_goMove_19 rfl (fun h2 => ?_) (fun h2 => ?_)
    · obtain ⟨c1, hc1⟩ : ∃ c1, ch = c1 + 1 := ⟨ch - 1, by omega⟩
      subst hc1
      obtain ⟨j3, jr⟩ := hJ.2.2 c1 (by omega)
      have e : (smM C sy c (fun a => Is (J a)) q (c1 + 1, x)) = ((smC C sy (Is (J c1)) q.1 q.2.1 q.2.2 x).1, c1 + 1, (smC C sy (Is (J c1)) q.1 q.2.1 q.2.2 x).2) := by
        unfold smM
        rw [if_neg hne, if_neg (by show ¬ c1 + 1 = 0; omega)]
        rfl
      refine Ev.iload_n (pc := 24) (i := 1) dR_goMove_24 rfl rfl ?_
      refine Ev.callS (pc := 25) dR_goMove_25 ks_R_68 ⟨Nat.le_of_ble_eq_true rfl, Nat.le_of_ble_eq_true rfl⟩ (ct_M_stepsOf (by omega)) rfl rfl (Nat.le_of_ble_eq_true rfl) ?_
      rintro _ _ ⟨rfl, rfl⟩
      refine Ev.topi (congrArg nI (pk3_s b1 b2)) ?_
      refine Ev.istore (pc := 28) dR_goMove_28 (Nat.le_of_ble_eq_true rfl) ?_
      refine Ev.iconst (pc := 30) (v := 0) dR_goMove_30 (by decide) ?_
      refine Ev.istore (pc := 31) dR_goMove_31 (Nat.le_of_ble_eq_true rfl) ?_
      have loop : ∀ i, i ≤ q.2.2 → ∀ (v' : Nat → Nat → Int32) (b' : Nat → Nat → Bool) (x' : Sm) (l6 : Option Value), rFr v v' b b' k → rnV v' b' k (c1 + 1) x' → smC C sy (Is (J c1)) q.1 q.2.1 (q.2.2 - i) x' = smC C sy (Is (J c1)) q.1 q.2.1 q.2.2 x → Ev G mR_goMove 33 [some (.ref (cxa G 29)), some (.int (nI (pk3 q))), some (.ref (cxa G (19 + 2 * k))), some (.int (nI q.1)), some (.int (nI q.2.2)), some (.int (nI i)), l6] [] (wl G v' b') (cx_e G mR_goMove (fun y w' => ∃ (v' : Nat → Nat → Int32) (b' : Nat → Nat → Bool), w' = wl G v' b' ∧ y = some (.int (wrI (smM C sy c (fun a => Is (J a)) q (c1 + 1, x)).1)) ∧ rFr v v' b b' k ∧ rnV v' b' k (smM C sy c (fun a => Is (J a)) q (c1 + 1, x)).2.1 (smM C sy c (fun a => Is (J a)) q (c1 + 1, x)).2.2)) := by
        refine loopN (fun i hi ih v' b' x' l6 hF hR' he => ?_)
        refine Ev.iload (pc := 33) dR_goMove_33 rfl ?_
        refine Ev.iload (pc := 35) dR_goMove_35 rfl ?_
        refine Ev.cicmp_ge (nI_toInt (by omega)) (nI_toInt (by omega)) (pc := 37) (tgt := 67) dR_goMove_37 rfl (fun h3 => ?_) (fun h3 => ?_)
        · have e0 : q.2.2 - i = 0 := by omega
          rw [e0] at he
          have he : (0, x') = smC C sy (Is (J c1)) q.1 q.2.1 q.2.2 x := he
          refine Ev.iconst (pc := 67) (v := (-1)) dR_goMove_67 (by decide) ?_
          exact Ev.ireturn .int dR_goMove_68 rfl rfl (⟨v', b', rfl, by rw [e, ← he]; rfl, hF, by rw [e, ← he]; exact hR'⟩)
        have hlt : i < q.2.2 := by omega
        obtain ⟨n, hn⟩ : ∃ n, q.2.2 - i = n + 1 := ⟨q.2.2 - i - 1, by omega⟩
        rw [hn] at he
        simp only [smC] at he
        refine Ev.aload_n (pc := 40) (i := 0) dR_goMove_40 rfl rfl ?_
        refine Ev.iload_n (pc := 41) (i := 3) dR_goMove_41 rfl rfl ?_
        refine Ev.iload_n (pc := 42) (i := 1) dR_goMove_42 rfl rfl ?_
        refine Ev.callS (pc := 43) dR_goMove_43 ks_R_71 ⟨Nat.le_of_ble_eq_true rfl, Nat.le_of_ble_eq_true rfl⟩ (ct_M_directionOf (by omega)) rfl rfl (Nat.le_of_ble_eq_true rfl) ?_
        rintro _ _ ⟨rfl, rfl⟩
        refine Ev.topi (congrArg nI (pk3_d b1 b2)) ?_
        refine Ev.aload_n (pc := 46) (i := 2) dR_goMove_46 rfl rfl ?_
        refine Ev.callV (pc := 47) dR_goMove_47 kv_R_74 ⟨Nat.le_of_ble_eq_true rfl, Nat.le_of_ble_eq_true rfl⟩ (wl_at (by decide) rfl) rfl rfl (ct_R_goStep (C := C) (sy := sy) hk j3 ((hI _ j3).rf j3 hF.1) (by rw [hF.1 1 (by decide)]; exact hC) (by rw [hF.1 2 (by decide)]; exact hsy) (by omega) (by rw [hF.1 14 (by decide)]; exact jr) hR' hkd b2) rfl rfl (Nat.le_of_ble_eq_true rfl) ?_
        rintro _ _ ⟨v2, bb2, rfl, rfl, hF2, hR2⟩
        refine Ev.istore (pc := 50) dR_goMove_50 (Nat.le_of_ble_eq_true rfl) ?_
        refine Ev.iload (pc := 52) dR_goMove_52 rfl ?_
        refine Ev.iconst (pc := 54) (v := (-1)) dR_goMove_54 (by decide) ?_
        refine Ev.cicmp_eq rfl (show (-1 : Int32).toInt = -1 from by decide) (pc := 55) (tgt := 61) dR_goMove_55 rfl (fun h4 => ?_) (fun h4 => ?_)
        · have h4 := (wrI_0 (by have := smS_le (C := C) (sy := sy) (I := Is (J c1)) (k := q.1) (d := q.2.1) (x := x'); omega)).mp h4
          rw [if_pos h4] at he
          refine Ev.iinc (pc := 61) dR_goMove_61 rfl (cx_inc _) (Nat.le_of_ble_eq_true rfl) ?_
          refine Ev.goto (pc := 64) (tgt := 33) dR_goMove_64 rfl ?_
          exact ih hlt v2 bb2 _ _ (hF.tr hF2) hR2 (by rw [show q.2.2 - (i + 1) = n by omega]; exact he)
        · have h4 : ¬ (smS C sy (Is (J c1)) q.1 q.2.1 x').1 = 0 := fun q0 => h4 ((wrI_0 (by rw [q0]; decide)).mpr q0)
          rw [if_neg h4] at he
          refine Ev.iload (pc := 58) dR_goMove_58 rfl ?_
          exact Ev.ireturn .int dR_goMove_60 rfl rfl (⟨v2, bb2, rfl, by rw [e, ← he], hF.tr hF2, by rw [e, ← he]; exact hR2⟩)
      exact loop 0 (Nat.zero_le _) v b x none ⟨fun _ _ => rfl, fun _ _ => rfl, rfl⟩ hR rfl
    · have e : (smM C sy c (fun a => Is (J a)) q (ch, x)) = (3, ch, x) := by
        unfold smM
        rw [if_neg hne, if_pos (by show ch = 0; omega)]
      refine Ev.iconst (pc := 22) (v := 3) dR_goMove_22 (by decide) ?_
      exact Ev.ireturn .int dR_goMove_23 rfl rfl (⟨v, b, rfl, by rw [e]; rfl, ⟨fun _ _ => rfl, fun _ _ => rfl, rfl⟩, by rw [e]; exact hR⟩)
  · refine Ev.aload_n (pc := 10) (i := 0) dR_goMove_10 rfl rfl ?_
    refine Ev.callV (pc := 11) dR_goMove_11 kv_R_64 ⟨Nat.le_of_ble_eq_true rfl, Nat.le_of_ble_eq_true rfl⟩ (wl_at (by decide) rfl) rfl rfl (ct_R_goChange (C := C) (sy := sy) (Js := fun a => Is (J a)) (q := q) (by omega) (by omega) hc3 hJ.2.1 hR) rfl rfl (Nat.le_of_ble_eq_true rfl) ?_
    rintro _ _ ⟨v2, bb2, rfl, rfl, hF2, hR2⟩
    exact Ev.ireturn .int dR_goMove_14 rfl rfl ⟨v2, bb2, rfl, rfl, hF2, hR2⟩
theorem smM_ch {C : Int32} {sy : Nat → Int32} {c : Nat} {Js : Nat → Ins} {q : Mv} {x : Nat × Sm} (h : x.1 ≤ c) : (smM C sy c Js q x).2.1 ≤ c := by
  unfold smM
  split
  · split
    · exact h
    · show x.1 + 1 ≤ c; omega
  · split <;> exact h
def ftI (o : Option Nat) : Int32 := match o with
  | none => -1
  | some f => nI f
set_option maxHeartbeats 4000000 in
set_option maxRecDepth 100000 in
theorem ct_R_goThrough {C : Int32} {sy : Nat → Int32} {Is : Nat → Ins} {J : Nat → Nat} {k c B nn : Nat} {m : Pm} (hk : k < 2) (hI : ∀ j, j < 3 → insV v j (Is j)) (hC : v 1 2 = C) (hsy : v 2 = sy) (hJ : jobOK v c J) (hm : mvOK v 17 m) (hq : okP B m) (hB : B < 900000) (hnn : nn < 2 ^ 31) : Ct G mR_goThrough [.ref (cxa G 29), .ref (cxa G 17), .int (nI nn), .ref (cxa G (19 + 2 * k))] (wl G v b) (fun y w' => ∃ (v' : Nat → Nat → Int32) (b' : Nat → Nat → Bool), w' = wl G v' b' ∧ y = none ∧ (∀ p, p ≠ 29 → v' p = v p) ∧ (∀ p, p ≠ 20 + 2 * k → b' p = b p) ∧ v' 29 6 = ftI (smA C sy c (fun a => Is (J a)) m.2 0 (if m.1 < nn then m.1 else nn) (0, 15, 0, (fillM (v 1 0) (v 1 1) (b (20 + 2 * k)) 96))).1 ∧ v' 29 5 = (smA C sy c (fun a => Is (J a)) m.2 0 (if m.1 < nn then m.1 else nn) (0, 15, 0, (fillM (v 1 0) (v 1 1) (b (20 + 2 * k)) 96))).2.2.2.1 ∧ b' (20 + 2 * k) = (smA C sy c (fun a => Is (J a)) m.2 0 (if m.1 < nn then m.1 else nn) (0, 15, 0, (fillM (v 1 0) (v 1 1) (b (20 + 2 * k)) 96))).2.2.2.2) := by
  have hm2 := hm.2.1
  refine Ct.of (by decide) rfl rfl (Nat.le_of_ble_eq_true rfl) ?_
  refine Ev.aload_n (pc := 0) (i := 3) dR_goThrough_0 rfl rfl ?_
  refine Ev.aload_n (pc := 1) (i := 0) dR_goThrough_1 rfl rfl ?_
  refine Ev.gf (pc := 2) dR_goThrough_2 fl_R_27 (by omega) (rfl) rfl ?_
  refine Ev.callV (pc := 5) dR_goThrough_5 kv_R_35 ⟨Nat.le_of_ble_eq_true rfl, Nat.le_of_ble_eq_true rfl⟩ (wl_st hk) rfl rfl (ct_S_fill hk) rfl rfl (Nat.le_of_ble_eq_true rfl) ?_
  rintro _ _ ⟨rfl, rfl⟩
  refine Ev.aload_n (pc := 8) (i := 0) dR_goThrough_8 rfl rfl ?_
  refine Ev.iconst (pc := 9) (v := 0) dR_goThrough_9 (by decide) ?_
  refine Ev.puti (pc := 10) dR_goThrough_10 fl_R_9 fp_R_changes (by omega) (rfl) rfl (Nat.le_of_ble_eq_true rfl) ?_
  refine Ev.aload_n (pc := 13) (i := 0) dR_goThrough_13 rfl rfl ?_
  refine Ev.iconst (pc := 14) (v := 0) dR_goThrough_14 (by decide) ?_
  refine Ev.puti (pc := 15) dR_goThrough_15 fl_R_21 fp_R_cells (by omega) (rfl) rfl (Nat.le_of_ble_eq_true rfl) ?_
  refine Ev.aload_n (pc := 18) (i := 0) dR_goThrough_18 rfl rfl ?_
  refine Ev.iconst (pc := 19) (v := (-1)) dR_goThrough_19 (by decide) ?_
  refine Ev.puti (pc := 20) dR_goThrough_20 fl_R_24 fp_R_firstFault (by omega) (rfl) rfl (Nat.le_of_ble_eq_true rfl) ?_
  refine Ev.iload_n (pc := 23) (i := 2) dR_goThrough_23 rfl rfl ?_
  refine Ev.aload_n (pc := 24) (i := 1) dR_goThrough_24 rfl rfl ?_
  refine Ev.gf (pc := 25) dR_goThrough_25 fl_R_41 (by omega) (rfl) rfl ?_
  refine Ev.topi (y := nI m.1) (by rw [sv_p (by decide), sv_p (by decide), sv_p (by decide)]; exact hm.1) ?_
  refine Ev.min (pc := 28) dR_goThrough_28 ⟨kmin_R_46.1, kmin_R_46.2.1, kmin_R_46.2.2.1, kmin_R_46.2.2.2, Nat.le_of_ble_eq_true rfl, Nat.le_of_ble_eq_true rfl⟩ (Nat.le_of_ble_eq_true rfl) ?_
  refine Ev.topi (y := nI (if m.1 < nn then m.1 else nn)) (by
    rw [nI_toInt (by omega), nI_toInt hnn]
    by_cases hlt : m.1 < nn
    · rw [if_pos (by omega), if_pos hlt]
    · rw [if_neg (by omega), if_neg hlt]) ?_
  generalize hcnt : (if m.1 < nn then m.1 else nn) = cnt
  have hcm : cnt ≤ m.1 := by rw [← hcnt]; split <;> omega
  refine Ev.istore (pc := 31) dR_goThrough_31 (Nat.le_of_ble_eq_true rfl) ?_
  refine Ev.iconst (pc := 33) (v := 0) dR_goThrough_33 (by decide) ?_
  refine Ev.istore (pc := 34) dR_goThrough_34 (Nat.le_of_ble_eq_true rfl) ?_
  have loop : ∀ i, i ≤ cnt → ∀ (v' : Nat → Nat → Int32) (b' : Nat → Nat → Bool) (ch : Nat) (x : Sm) (l6 : Option Value), (∀ p, p ≠ 29 → v' p = v p) → (∀ p, p ≠ 20 + 2 * k → b' p = b p) → v' 29 6 = -1 → ch ≤ c → rnV v' b' k ch x → smA C sy c (fun a => Is (J a)) m.2 i (cnt - i) (ch, x) = smA C sy c (fun a => Is (J a)) m.2 0 cnt (0, 15, 0, (fillM (v 1 0) (v 1 1) (b (20 + 2 * k)) 96)) → Ev G mR_goThrough 36 [some (.ref (cxa G 29)), some (.ref (cxa G 17)), some (.int (nI nn)), some (.ref (cxa G (19 + 2 * k))), some (.int (nI cnt)), some (.int (nI i)), l6] [] (wl G v' b') (cx_e G mR_goThrough (fun y w' => ∃ (v' : Nat → Nat → Int32) (b' : Nat → Nat → Bool), w' = wl G v' b' ∧ y = none ∧ (∀ p, p ≠ 29 → v' p = v p) ∧ (∀ p, p ≠ 20 + 2 * k → b' p = b p) ∧ v' 29 6 = ftI (smA C sy c (fun a => Is (J a)) m.2 0 cnt (0, 15, 0, (fillM (v 1 0) (v 1 1) (b (20 + 2 * k)) 96))).1 ∧ v' 29 5 = (smA C sy c (fun a => Is (J a)) m.2 0 cnt (0, 15, 0, (fillM (v 1 0) (v 1 1) (b (20 + 2 * k)) 96))).2.2.2.1 ∧ b' (20 + 2 * k) = (smA C sy c (fun a => Is (J a)) m.2 0 cnt (0, 15, 0, (fillM (v 1 0) (v 1 1) (b (20 + 2 * k)) 96))).2.2.2.2)) := by
    refine loopN (fun i hi ih v' b' ch x l6 hF hFb h6 hch hR he => ?_)
    refine Ev.iload (pc := 36) dR_goThrough_36 rfl ?_
    refine Ev.iload (pc := 38) dR_goThrough_38 rfl ?_
    refine Ev.cicmp_ge (nI_toInt (by omega)) (nI_toInt (by omega)) (pc := 40) (tgt := 89) dR_goThrough_40 rfl (fun h => ?_) (fun h => ?_)
    · have e0 : cnt - i = 0 := by omega
      rw [e0] at he
      have he : (none, ch, x) = smA C sy c (fun a => Is (J a)) m.2 0 cnt (0, 15, 0, (fillM (v 1 0) (v 1 1) (b (20 + 2 * k)) 96)) := he
      exact Ev.vreturn dR_goThrough_89 rfl ⟨v', b', rfl, rfl, hF, hFb, by rw [← he]; exact h6, by rw [← he]; exact hR.2.2.1, by rw [← he]; exact hR.2.2.2⟩
    have hlt : i < cnt := by omega
    have h6I : (v' 29 6).toInt = -1 := by rw [h6]; decide
    refine Ev.aload_n (pc := 43) (i := 0) dR_goThrough_43 rfl rfl ?_
    refine Ev.gf (pc := 44) dR_goThrough_44 fl_R_24 (by omega) (rfl) rfl ?_
    refine Ev.iconst (pc := 47) (v := (-1)) dR_goThrough_47 (by decide) ?_
    refine Ev.cicmp_ne (h6I) ((show (-1 : Int32).toInt = -1 from by decide)) (pc := 48) (tgt := 89) dR_goThrough_48 rfl (fun h2 => ?_) (fun h2 => ?_)
    · exact absurd rfl h2
    obtain ⟨n, hn⟩ : ∃ n, cnt - i = n + 1 := ⟨cnt - i - 1, by omega⟩
    rw [hn] at he
    simp only [smA] at he
    have hle := smM_le (C := C) (sy := sy) (ns := c) (J := fun a => Is (J a)) (q := m.2 i) (x := (ch, x))
    refine Ev.aload_n (pc := 51) (i := 0) dR_goThrough_51 rfl rfl ?_
    refine Ev.aload_n (pc := 52) (i := 1) dR_goThrough_52 rfl rfl ?_
    refine Ev.gf (pc := 53) dR_goThrough_53 fl_R_52 (by omega) (rfl) rfl ?_
    refine Ev.iload (pc := 56) dR_goThrough_56 rfl ?_
    refine Ev.aldi (pc := 58) dR_goThrough_58 (by omega) (by first | exact fun _ _ => rfl | exact cell_dz hj | exact cell_dr hj | exact cell_mr hk | exact cell_sr hk) _ (rfl) (by omega) (by decide) ?_
    refine Ev.topi (y := nI (pk3 (m.2 i))) (by rw [hF 18 (by decide)]; exact hm.2.2 i (by omega)) ?_
    refine Ev.aload_n (pc := 59) (i := 3) dR_goThrough_59 rfl rfl ?_
    refine Ev.callV (pc := 60) dR_goThrough_60 kv_R_56 ⟨Nat.le_of_ble_eq_true rfl, Nat.le_of_ble_eq_true rfl⟩ (wl_at (by decide) rfl) rfl rfl (ct_R_goMove (C := C) (sy := sy) (Is := Is) (J := J) (B := B) hk (fun j hj => (hI j hj).rf hj hF) (by rw [hF 1 (by decide)]; exact hC) (by rw [hF 2 (by decide)]; exact hsy) ⟨hJ.1, by rw [hF 13 (by decide)]; exact hJ.2.1, fun a ha => by rw [hF 14 (by decide)]; exact hJ.2.2 a ha⟩ hch (hq i (by omega)) hB hR) rfl rfl (Nat.le_of_ble_eq_true rfl) ?_
    rintro _ _ ⟨v2, bb2, rfl, rfl, hF2, hR2⟩
    have hFa : ∀ p, p ≠ 29 → v2 p = v p := fun p a => (hF2.1 p a).trans (hF p a)
    have hFba : ∀ p, p ≠ 20 + 2 * k → bb2 p = b p := fun p a => (hF2.2.1 p a).trans (hFb p a)
    refine Ev.istore (pc := 63) dR_goThrough_63 (Nat.le_of_ble_eq_true rfl) ?_
    refine Ev.iload (pc := 65) dR_goThrough_65 rfl ?_
    refine Ev.iconst (pc := 67) (v := (-1)) dR_goThrough_67 (by decide) ?_
    refine Ev.cicmp_eq rfl (show (-1 : Int32).toInt = -1 from by decide) (pc := 68) (tgt := 83) dR_goThrough_68 rfl (fun h4 => ?_) (fun h4 => ?_)
    · have h4 := (wrI_0 (by omega)).mp h4
      rw [if_pos h4] at he
      refine Ev.iinc (pc := 83) dR_goThrough_83 rfl (cx_inc _) (Nat.le_of_ble_eq_true rfl) ?_
      refine Ev.goto (pc := 86) (tgt := 36) dR_goThrough_86 rfl ?_
      exact ih hlt v2 bb2 _ _ _ hFa hFba (hF2.2.2.trans h6) (smM_ch hch) hR2 (by rw [show cnt - (i + 1) = n by omega]; exact he)
    · have h4 : ¬ (smM C sy c (fun a => Is (J a)) (m.2 i) (ch, x)).1 = 0 := fun q0 => h4 ((wrI_0 (by omega)).mpr q0)
      rw [if_neg h4] at he
      have ew : wrI (smM C sy c (fun a => Is (J a)) (m.2 i) (ch, x)).1 = nI (smM C sy c (fun a => Is (J a)) (m.2 i) (ch, x)).1 := if_neg h4
      have e10 : (10 : Int32) * nI i + wrI (smM C sy c (fun a => Is (J a)) (m.2 i) (ch, x)).1 = nI (10 * i + (smM C sy c (fun a => Is (J a)) (m.2 i) (ch, x)).1) := by
        rw [ew, show (10 : Int32) = nI 10 by decide, pk_mul, nI_add]
      refine Ev.aload_n (pc := 71) (i := 0) dR_goThrough_71 rfl rfl ?_
      refine Ev.bipush (pc := 72) (v := 10) dR_goThrough_72 (by decide) ?_
      refine Ev.iload (pc := 74) dR_goThrough_74 rfl ?_
      refine Ev.imul (pc := 76) dR_goThrough_76 ?_
      refine Ev.iload (pc := 77) dR_goThrough_77 rfl ?_
      refine Ev.iadd (pc := 79) dR_goThrough_79 ?_
      refine Ev.topi e10 ?_
      refine Ev.puti (pc := 80) dR_goThrough_80 fl_R_24 fp_R_firstFault (by omega) (rfl) rfl (Nat.le_of_ble_eq_true rfl) ?_
      refine Ev.iinc (pc := 83) dR_goThrough_83 rfl (cx_inc _) (Nat.le_of_ble_eq_true rfl) ?_
      refine Ev.goto (pc := 86) (tgt := 36) dR_goThrough_86 rfl ?_
      have fin : (fun y w' => ∃ (v' : Nat → Nat → Int32) (b' : Nat → Nat → Bool), w' = wl G v' b' ∧ y = none ∧ (∀ p, p ≠ 29 → v' p = v p) ∧ (∀ p, p ≠ 20 + 2 * k → b' p = b p) ∧ v' 29 6 = ftI (smA C sy c (fun a => Is (J a)) m.2 0 cnt (0, 15, 0, (fillM (v 1 0) (v 1 1) (b (20 + 2 * k)) 96))).1 ∧ v' 29 5 = (smA C sy c (fun a => Is (J a)) m.2 0 cnt (0, 15, 0, (fillM (v 1 0) (v 1 1) (b (20 + 2 * k)) 96))).2.2.2.1 ∧ b' (20 + 2 * k) = (smA C sy c (fun a => Is (J a)) m.2 0 cnt (0, 15, 0, (fillM (v 1 0) (v 1 1) (b (20 + 2 * k)) 96))).2.2.2.2) (none : Option Value) (wl G (sv v2 29 6 (nI (10 * i + (smM C sy c (fun a => Is (J a)) (m.2 i) (ch, x)).1))) bb2) := by
        refine ⟨_, bb2, rfl, rfl, fun p a => by rw [sv_p a]; exact hFa p a, hFba, ?_, ?_, ?_⟩
        · rw [← he, sv_eq]; rfl
        · rw [← he, sv_k (by decide)]; exact hR2.2.2.1
        · rw [← he]; exact hR2.2.2.2
      refine Ev.iload (pc := 36) dR_goThrough_36 rfl ?_
      refine Ev.iload (pc := 38) dR_goThrough_38 rfl ?_
      refine Ev.cicmp_ge (nI_toInt (by omega)) (nI_toInt (by omega)) (pc := 40) (tgt := 89) dR_goThrough_40 rfl (fun h7 => ?_) (fun h7 => ?_)
      · exact Ev.vreturn dR_goThrough_89 rfl fin
      refine Ev.aload_n (pc := 43) (i := 0) dR_goThrough_43 rfl rfl ?_
      refine Ev.gf (pc := 44) dR_goThrough_44 fl_R_24 (by omega) (rfl) rfl ?_
      refine Ev.iconst (pc := 47) (v := (-1)) dR_goThrough_47 (by decide) ?_
      have hfI : (sv v2 29 6 (nI (10 * i + (smM C sy c (fun a => Is (J a)) (m.2 i) (ch, x)).1)) 29 6).toInt = ((10 * i + (smM C sy c (fun a => Is (J a)) (m.2 i) (ch, x)).1 : Nat) : Int) := by rw [sv_eq]; exact nI_toInt (by omega)
      refine Ev.cicmp_ne (hfI) ((show (-1 : Int32).toInt = -1 from by decide)) (pc := 48) (tgt := 89) dR_goThrough_48 rfl (fun h8 => ?_) (fun h8 => ?_)
      · exact Ev.vreturn dR_goThrough_89 rfl fin
      · omega
  exact loop 0 (Nat.zero_le _) _ _ 0 (15, 0, (fillM (v 1 0) (v 1 1) (b (20 + 2 * k)) 96)) none (fun p a => by rw [sv_p a, sv_p a, sv_p a]) (fun p a => by rw [up_ne a]) (by rw [sv_eq]) (Nat.zero_le _) ⟨by rw [sv_k (by decide), sv_k (by decide), sv_eq]; rfl, fun h => absurd h (by decide), by rw [sv_k (by decide), sv_eq], up_at _ _ _⟩ rfl
end Rn2
