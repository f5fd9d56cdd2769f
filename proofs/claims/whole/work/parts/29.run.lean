/-! Run -/
/-- where a run stands: ch changes made; behind the first of them a position; cells cut; stock -/
def rnV (v : Nat → Nat → Int32) (b : Nat → Nat → Bool) (k ch : Nat) (x : Sm) : Prop := v 29 2 = nI ch ∧ (0 < ch → v 29 3 = zP x.1 ∧ v 29 4 = rP x.1 ∧ x.1 < 320) ∧ v 29 5 = x.2.1 ∧ b (20 + 2 * k) = x.2.2
/-- what a run doesn't touch -/
def rFr (v v' : Nat → Nat → Int32) (b b' : Nat → Nat → Bool) (k : Nat) : Prop := (∀ p, p ≠ 29 → v' p = v p) ∧ (∀ p, p ≠ 20 + 2 * k → b' p = b p) ∧ v' 29 6 = v 29 6
theorem rFr.tr {v v' v2 : Nat → Nat → Int32} {b b' b2 : Nat → Nat → Bool} {k : Nat} (h : rFr v v' b b' k) (h2 : rFr v' v2 b' b2 k) : rFr v v2 b b2 k :=
  ⟨fun p a => (h2.1 p a).trans (h.1 p a), fun p a => (h2.2.1 p a).trans (h.2.1 p a), h2.2.2.trans h.2.2⟩
def wrI (n : Nat) : Int32 := if n = 0 then -1 else nI n
theorem insV.rf {v v' : Nat → Nat → Int32} {j : Nat} {I : Ins} (h : insV v j I) (hj : j < 3) (hf : ∀ p, p ≠ 29 → v' p = v p) : insV v' j I :=
  ⟨by rw [hf _ (by omega)]; exact h.1, h.2.1, by rw [hf _ (by omega)]; exact h.2.2.1, by rw [hf _ (by omega)]; exact h.2.2.2⟩
theorem smS_le {C : Int32} {sy : Nat → Int32} {I : Ins} {k d : Nat} {x : Sm} : (smS C sy I k d x).1 ≤ 2 := by
  unfold smS
  split
  · exact Nat.le_succ 1
  · split
    · split
      · exact Nat.le_refl _
      · split <;> exact Nat.zero_le _
    · exact Nat.le_succ 1
theorem smC_le {C : Int32} {sy : Nat → Int32} {I : Ins} {k d : Nat} : ∀ (c : Nat) (x : Sm), (smC C sy I k d c x).1 ≤ 2
  | 0, _ => Nat.zero_le _
  | c + 1, x => by
    simp only [smC]
    split
    · exact smC_le c _
    · exact smS_le
theorem smM_le {C : Int32} {sy : Nat → Int32} {ns : Nat} {J : Nat → Ins} {q : Mv} {x : Nat × Sm} : (smM C sy ns J q x).1 ≤ 4 := by
  unfold smM
  split
  · split
    · exact Nat.le_refl _
    · exact Nat.zero_le _
  · split
    · exact Nat.le_succ 3
    · exact Nat.le_trans (smC_le _ _) (by decide)
section Rn
variable {G : cx_G} {v : Nat → Nat → Int32} {b : Nat → Nat → Bool}
set_option maxHeartbeats 4000000 in
set_option maxRecDepth 100000 in
theorem ct_R_goStep {C : Int32} {sy : Nat → Int32} {I : Ins} {j k ch kd d : Nat} {x : Sm} (hk : k < 2) (hj : j < 3) (hI : insV v j I) (hC : v 1 2 = C) (hsy : v 2 = sy) (hch : ch < 3) (hr : v 14 ch = nI j) (hR : rnV v b k (ch + 1) x) (hkd : kd < 2) (hd : d < 4) : Ct G mR_goStep [.ref (cxa G 29), .int (nI kd), .int (nI d), .ref (cxa G (19 + 2 * k))] (wl G v b) (fun y w' => ∃ (v' : Nat → Nat → Int32) (b' : Nat → Nat → Bool), w' = wl G v' b' ∧ y = some (.int (wrI (smS C sy I kd d x).1)) ∧ rFr v v' b b' k ∧ rnV v' b' k (ch + 1) (smS C sy I kd d x).2) := by
  obtain ⟨r1, r2, r5, r6⟩ := hR
  obtain ⟨rz, rr, rp⟩ := r2 (by omega)
  have hR : rnV v b k (ch + 1) x := ⟨r1, r2, r5, r6⟩
  have hkI : (nI kd).toInt = (kd : Int) := nI_toInt (by omega)
  refine Ct.of (by decide) rfl rfl (Nat.le_of_ble_eq_true rfl) ?_
  refine Ev.aload_n (pc := 0) (i := 0) dR_goStep_0 rfl rfl ?_
  refine Ev.gf (pc := 1) dR_goStep_1 fl_R_31 (by omega) (rfl) rfl ?_
  refine Ev.aload_n (pc := 4) (i := 0) dR_goStep_4 rfl rfl ?_
  refine Ev.gf (pc := 5) dR_goStep_5 fl_R_9 (by omega) (rfl) rfl ?_
  refine Ev.iconst (pc := 8) (v := 1) dR_goStep_8 (by decide) ?_
  refine Ev.isub (pc := 9) dR_goStep_9 ?_
  refine Ev.topi (y := nI ch) (by rw [r1]; exact nI_pred ch) ?_
  refine Ev.callV (pc := 10) dR_goStep_10 kv_R_89 ⟨Nat.le_of_ble_eq_true rfl, Nat.le_of_ble_eq_true rfl⟩ (wl_at (by decide) rfl) rfl rfl (ct_J_insertAt hch hr hj) rfl rfl (Nat.le_of_ble_eq_true rfl) ?_
  rintro _ _ ⟨rfl, rfl⟩
  refine Ev.astore (pc := 13) dR_goStep_13 (Nat.le_of_ble_eq_true rfl) ?_
  refine Ev.aload_n (pc := 15) (i := 0) dR_goStep_15 rfl rfl ?_
  refine Ev.gf (pc := 16) dR_goStep_16 fl_R_15 (by omega) (rfl) rfl ?_
  refine Ev.topi rz ?_
  refine Ev.getstatic (pc := 19) 0 (by decide) dR_goStep_19 sl_R_93 ?_
  refine Ev.iload_n (pc := 22) (i := 2) dR_goStep_22 rfl rfl ?_
  refine Ev.tload (pc := 23) dR_goStep_23 (by decide) _ rfl (by omega) ?_
  refine Ev.iadd (pc := 24) dR_goStep_24 ?_
  refine Ev.istore (pc := 25) dR_goStep_25 (Nat.le_of_ble_eq_true rfl) ?_
  refine Ev.aload_n (pc := 27) (i := 0) dR_goStep_27 rfl rfl ?_
  refine Ev.gf (pc := 28) dR_goStep_28 fl_R_18 (by omega) (rfl) rfl ?_
  refine Ev.topi rr ?_
  refine Ev.getstatic (pc := 31) 1 (by decide) dR_goStep_31 sl_R_96 ?_
  refine Ev.iload_n (pc := 34) (i := 2) dR_goStep_34 rfl rfl ?_
  refine Ev.tload (pc := 35) dR_goStep_35 (by decide) _ rfl (by omega) ?_
  refine Ev.iadd (pc := 36) dR_goStep_36 ?_
  refine Ev.istore (pc := 37) dR_goStep_37 (Nat.le_of_ble_eq_true rfl) ?_
  refine Ev.iload (pc := 39) dR_goStep_39 rfl ?_
  refine Ev.iload (pc := 41) dR_goStep_41 rfl ?_
  cases hn : nxt x.1 d with
  | none =>
    have e : (smS C sy I kd d x) = (1, x) := by unfold smS; rw [hn]
    refine Ev.callN (pc := 43) dR_goStep_43 kn_R_99 ⟨Nat.le_of_ble_eq_true rfl, Nat.le_of_ble_eq_true rfl⟩ (ct_T_isPosition _ _) rfl rfl (Nat.le_of_ble_eq_true rfl) ?_
    rintro _ _ ⟨rfl, rfl⟩
    refine Ev.if_eqB (pc := 46) (tgt := 65) dR_goStep_46 rfl (fun h1 => ?_) (fun h1 => ?_)
    · refine Ev.iconst (pc := 65) (v := 1) dR_goStep_65 (by decide) ?_
      exact Ev.ireturn .int dR_goStep_66 rfl rfl (⟨v, b, rfl, by rw [e]; rfl, ⟨fun _ _ => rfl, fun _ _ => rfl, rfl⟩, by rw [e]; exact hR⟩)
    · rw [step_none rp hd hn] at h1; cases h1
  | some q =>
    obtain ⟨e1, e2, e3⟩ := step_some hn
    have hq := (nxt_lt hn).2.1
    rw [e1, e2]
    refine Ev.callN (pc := 43) dR_goStep_43 kn_R_99 ⟨Nat.le_of_ble_eq_true rfl, Nat.le_of_ble_eq_true rfl⟩ (ct_T_isPosition _ _) rfl rfl (Nat.le_of_ble_eq_true rfl) ?_
    rintro _ _ ⟨rfl, rfl⟩
    refine Ev.if_eqB (pc := 46) (tgt := 65) dR_goStep_46 rfl (fun h1 => ?_) (fun h1 => ?_)
    · rw [e3] at h1; cases h1
    refine Ev.aload (pc := 49) dR_goStep_49 rfl ?_
    refine Ev.aload_n (pc := 51) (i := 0) dR_goStep_51 rfl rfl ?_
    refine Ev.gf (pc := 52) dR_goStep_52 fl_R_27 (by omega) (rfl) rfl ?_
    refine Ev.iload (pc := 55) dR_goStep_55 rfl ?_
    refine Ev.iload (pc := 57) dR_goStep_57 rfl ?_
    refine Ev.callV (pc := 59) dR_goStep_59 kv_R_103 ⟨Nat.le_of_ble_eq_true rfl, Nat.le_of_ble_eq_true rfl⟩ (wl_ins hj) rfl rfl (ct_I_isSafe hj hI.1 hI.2.1 _ _) rfl rfl (Nat.le_of_ble_eq_true rfl) ?_
    rintro _ _ ⟨rfl, rfl⟩
    rw [hC, hsy, hI.2.2.1, hI.2.2.2]
    have hend : ∀ (v2 : Nat → Nat → Int32) (b2 : Nat → Nat → Bool), rFr v v2 b b2 k → v2 29 2 = nI (ch + 1) → (smS C sy I kd d x) = (0, q, v2 29 5, b2 (20 + 2 * k)) → Ev G mR_goStep 110 [some (.ref (cxa G 29)), some (.int (nI kd)), some (.int (nI d)), some (.ref (cxa G (19 + 2 * k))), some (.ref (cxa G (4 + 3 * j))), some (.int (zP q)), some (.int (rP q))] [] (wl G v2 b2) (cx_e G mR_goStep (fun y w' => ∃ (v' : Nat → Nat → Int32) (b' : Nat → Nat → Bool), w' = wl G v' b' ∧ y = some (.int (wrI (smS C sy I kd d x).1)) ∧ rFr v v' b b' k ∧ rnV v' b' k (ch + 1) (smS C sy I kd d x).2)) := by
      intro v2 b2 hF2 hc2 hS
      refine Ev.aload_n (pc := 110) (i := 0) dR_goStep_110 rfl rfl ?_
      refine Ev.iload (pc := 111) dR_goStep_111 rfl ?_
      refine Ev.puti (pc := 113) dR_goStep_113 fl_R_15 fp_R_z (by omega) (rfl) rfl (Nat.le_of_ble_eq_true rfl) ?_
      refine Ev.aload_n (pc := 116) (i := 0) dR_goStep_116 rfl rfl ?_
      refine Ev.iload (pc := 117) dR_goStep_117 rfl ?_
      refine Ev.puti (pc := 119) dR_goStep_119 fl_R_18 fp_R_r (by omega) (rfl) rfl (Nat.le_of_ble_eq_true rfl) ?_
      refine Ev.iconst (pc := 122) (v := (-1)) dR_goStep_122 (by decide) ?_
      refine Ev.ireturn .int dR_goStep_123 rfl rfl ⟨_, _, rfl, by rw [hS]; rfl, ⟨fun p a => by rw [sv_p a, sv_p a]; exact hF2.1 p a, hF2.2.1, by rw [sv_k (by decide), sv_k (by decide)]; exact hF2.2.2⟩, ?_⟩
      rw [hS]
      exact ⟨by rw [sv_k (by decide), sv_k (by decide)]; exact hc2, fun _ => ⟨by rw [sv_k (by decide), sv_eq], by rw [sv_eq], hq⟩, by rw [sv_k (by decide), sv_k (by decide)], rfl⟩
    refine Ev.if_neB (pc := 62) (tgt := 67) dR_goStep_62 rfl (fun h2 => ?_) (fun h2 => ?_)
    · have ho : okI C sy I q = true := h2
      have hfe : ((smS C sy I kd d x) = if kd = 0 ∧ cvI x.2.2 I q = true then (2, x) else if kd = 1 then (0, q, x.2.1 + nI (ctI x.2.2 I q).1, (ctI x.2.2 I q).2) else (0, q, x.2.1, x.2.2)) := by
        unfold smS
        rw [hn]
        exact if_pos ho
      refine Ev.iload_n (pc := 67) (i := 1) dR_goStep_67 rfl rfl ?_
      have hcut : kd = 1 → Ev G mR_goStep 91 [some (.ref (cxa G 29)), some (.int (nI kd)), some (.int (nI d)), some (.ref (cxa G (19 + 2 * k))), some (.ref (cxa G (4 + 3 * j))), some (.int (zP q)), some (.int (rP q))] [] (wl G v b) (cx_e G mR_goStep (fun y w' => ∃ (v' : Nat → Nat → Int32) (b' : Nat → Nat → Bool), w' = wl G v' b' ∧ y = some (.int (wrI (smS C sy I kd d x).1)) ∧ rFr v v' b b' k ∧ rnV v' b' k (ch + 1) (smS C sy I kd d x).2)) := by
        intro hk1
        refine Ev.aload_n (pc := 91) (i := 0) dR_goStep_91 rfl rfl ?_
        refine Ev.dup (pc := 92) dR_goStep_92 rfl ?_
        refine Ev.gf (pc := 93) dR_goStep_93 fl_R_21 (by omega) (rfl) rfl ?_
        refine Ev.aload_n (pc := 96) (i := 3) dR_goStep_96 rfl rfl ?_
        refine Ev.aload (pc := 97) dR_goStep_97 rfl ?_
        refine Ev.iload (pc := 99) dR_goStep_99 rfl ?_
        refine Ev.iload (pc := 101) dR_goStep_101 rfl ?_
        refine Ev.callV (pc := 103) dR_goStep_103 kv_R_113 ⟨Nat.le_of_ble_eq_true rfl, Nat.le_of_ble_eq_true rfl⟩ (wl_st hk) rfl rfl (ct_S_cutBy hk hj hI.1 hI.2.1 _ _) rfl rfl (Nat.le_of_ble_eq_true rfl) ?_
        rintro _ _ ⟨rfl, rfl⟩
        refine Ev.iadd (pc := 106) dR_goStep_106 ?_
        refine Ev.puti (pc := 107) dR_goStep_107 fl_R_21 fp_R_cells (by omega) (rfl) rfl (Nat.le_of_ble_eq_true rfl) ?_
        refine hend _ _ ⟨fun p a => by rw [sv_p a], fun p a => by rw [up_ne a], by rw [sv_k (by decide)]⟩ (by rw [sv_k (by decide)]; exact r1) ?_
        rw [hfe, if_neg (by omega), if_pos hk1, sv_eq, up_at, r5, r6, hI.2.2.1, hI.2.2.2]
        rfl
      refine Ev.cif_ne (hkI) (pc := 68) (tgt := 86) dR_goStep_68 rfl (fun h3 => ?_) (fun h3 => ?_)
      · refine Ev.iload_n (pc := 86) (i := 1) dR_goStep_86 rfl rfl ?_
        refine Ev.iconst (pc := 87) (v := 1) dR_goStep_87 (by decide) ?_
        refine Ev.cicmp_ne (hkI) ((show (1 : Int32).toInt = 1 from by decide)) (pc := 88) (tgt := 110) dR_goStep_88 rfl (fun h4 => ?_) (fun h4 => ?_)
        · omega
        · exact hcut (by omega)
      · refine Ev.aload_n (pc := 71) (i := 3) dR_goStep_71 rfl rfl ?_
        refine Ev.aload (pc := 72) dR_goStep_72 rfl ?_
        refine Ev.iload (pc := 74) dR_goStep_74 rfl ?_
        refine Ev.iload (pc := 76) dR_goStep_76 rfl ?_
        refine Ev.callV (pc := 78) dR_goStep_78 kv_R_109 ⟨Nat.le_of_ble_eq_true rfl, Nat.le_of_ble_eq_true rfl⟩ (wl_st hk) rfl rfl (ct_S_isCoveredBy hk hj hI.1 hI.2.1 _ _) rfl rfl (Nat.le_of_ble_eq_true rfl) ?_
        rintro _ _ ⟨rfl, rfl⟩
        rw [r6, hI.2.2.1, hI.2.2.2]
        refine Ev.if_eqB (pc := 81) (tgt := 86) dR_goStep_81 rfl (fun h5 => ?_) (fun h5 => ?_)
        · have h5 : cvI x.2.2 I q = false := h5
          refine Ev.iload_n (pc := 86) (i := 1) dR_goStep_86 rfl rfl ?_
          refine Ev.iconst (pc := 87) (v := 1) dR_goStep_87 (by decide) ?_
          refine Ev.cicmp_ne (hkI) ((show (1 : Int32).toInt = 1 from by decide)) (pc := 88) (tgt := 110) dR_goStep_88 rfl (fun h4 => ?_) (fun h4 => ?_)
          · refine hend v b ⟨fun _ _ => rfl, fun _ _ => rfl, rfl⟩ r1 ?_
            rw [hfe, if_neg (by rw [h5]; simp), if_neg (by omega), r5, r6]
          · omega
        · have h5 : cvI x.2.2 I q = true := h5
          have e : (smS C sy I kd d x) = (2, x) := by rw [hfe, if_pos ⟨by omega, h5⟩]
          refine Ev.iconst (pc := 84) (v := 2) dR_goStep_84 (by decide) ?_
          exact Ev.ireturn .int dR_goStep_85 rfl rfl (⟨v, b, rfl, by rw [e]; rfl, ⟨fun _ _ => rfl, fun _ _ => rfl, rfl⟩, by rw [e]; exact hR⟩)
    · have e : (smS C sy I kd d x) = (1, x) := by
        unfold smS
        rw [hn]
        exact if_neg (by rw [show okI C sy I q = false from h2]; decide)
      refine Ev.iconst (pc := 65) (v := 1) dR_goStep_65 (by decide) ?_
      exact Ev.ireturn .int dR_goStep_66 rfl rfl (⟨v, b, rfl, by rw [e]; rfl, ⟨fun _ _ => rfl, fun _ _ => rfl, rfl⟩, by rw [e]; exact hR⟩)
end Rn
