/-! The reference goes through a plan -/
def mfr (v v' : Nat → Nat → Int32) (b b' : Nat → Nat → Bool) : Prop := (∀ p, p ≠ 30 → v' p = v p) ∧ (∀ k, k < 24 ∨ 27 < k → v' 30 k = v 30 k) ∧ ∀ p, p ≠ 43 → b' p = b p
theorem mfr.rf {v : Nat → Nat → Int32} {b : Nat → Nat → Bool} : mfr v v b b := ⟨fun _ _ => rfl, fun _ _ => rfl, fun _ _ => rfl⟩
theorem mfr.tr {v v' v'' : Nat → Nat → Int32} {b b' b'' : Nat → Nat → Bool} (h : mfr v v' b b') (h2 : mfr v' v'' b' b'') : mfr v v'' b b'' := ⟨fun p hp => (h2.1 p hp).trans (h.1 p hp), fun k hk => (h2.2.1 k hk).trans (h.2.1 k hk), fun p hp => (h2.2.2 p hp).trans (h.2.2 p hp)⟩
theorem mfr.up {v v' : Nat → Nat → Int32} {b b' : Nat → Nat → Bool} (h : mfr v v' b b') {k : Nat} (hk : 24 ≤ k ∧ k ≤ 27) (x : Int32) : mfr v (sv v' 30 k x) b b' := ⟨fun p hp => (sv_p hp).trans (h.1 p hp), fun a ha => (sv_k (by omega)).trans (h.2.1 a ha), h.2.2⟩
theorem mfr.ub {v v' : Nat → Nat → Int32} {b b' : Nat → Nat → Bool} (h : mfr v v' b b') (X : Nat → Bool) : mfr v v' b (va_up b' 43 X) := ⟨h.1, h.2.1, fun p hp => (up_ne hp).trans (h.2.2 p hp)⟩
theorem mi.fr {v v' : Nat → Nat → Int32} {b b' : Nat → Nat → Bool} {j : Nat} {I : Ins} (h : mi v j I) (hf : mfr v v' b b') : mi v' j I := h.cg (hf.1 32 (by decide)) (hf.1 33 (by decide)) (hf.1 34 (by decide))
theorem mb.fr {v v' : Nat → Nat → Int32} {b b' : Nat → Nat → Bool} {C : Int32} {sy : Nat → Int32} (h : mb v C sy) (hf : mfr v v' b b') : mb v' C sy := ⟨by rw [hf.2.1 2 (by decide)]; exact h.1, fun z hz => by rw [hf.1 31 (by decide)]; exact h.2 z hz⟩
/-- the place of a run -/
def mpx (v : Nat → Nat → Int32) (b : Nat → Nat → Bool) (x : Sm) : Prop := v 30 27 = x.2.1 ∧ b 43 = x.2.2 ∧ x.1 < 320
def mrn (v : Nat → Nat → Int32) (b : Nat → Nat → Bool) (J : Nat → Nat) (ch : Nat) (x : Sm) : Prop := v 30 25 = nI ch ∧ (ch = 0 → v 30 24 = -1) ∧ (0 < ch → v 30 24 = nI (J (ch - 1)) ∧ v 30 26 = nI x.1) ∧ mpx v b x
theorem cntB_any {n : Nat} {f : Nat → Bool} : 0 < cntB n f ↔ anyB n f = true := by
  induction n with
  | zero => simp [cntB, anyB]
  | succ n ih =>
    simp only [cntB, anyB, Bool.or_eq_true]
    rw [← ih]
    by_cases e : f n = true
    · rw [if_pos e]
      simp [e]
    · rw [if_neg e]
      simp [e]
section Mru
variable {G : cx_G} {v : Nat → Nat → Int32} {b : Nat → Nat → Bool}
set_option maxHeartbeats 4000000 in
set_option maxRecDepth 100000 in
theorem ct_D_step {C : Int32} {sy : Nat → Int32} {I : Ins} {j k d : Nat} {x : Sm} (hj : j < 3) (hI : mi v j I) (hB : mb v C sy) (hk : k < 2) (hd : d < 4) (h24 : v 30 24 = nI j) (h26 : v 30 26 = nI x.1) (hx : mpx v b x) : Ct G mD_step [.ref (cxa G 30), .int (nI k), .int (nI d)] (wl G v b) (fun y w' => ∃ (v' : Nat → Nat → Int32) (b' : Nat → Nat → Bool), w' = wl G v' b' ∧ y = some (.int (nI (smS C sy I k d x).1)) ∧ mfr v v' b b' ∧ v' 30 24 = v 30 24 ∧ v' 30 25 = v 30 25 ∧ v' 30 26 = nI (smS C sy I k d x).2.1 ∧ mpx v' b' (smS C sy I k d x).2) := by
  obtain ⟨h27, h43, hp⟩ := hx
  have h8 := hI.2.1
  refine Ct.of (by decide) rfl rfl (Nat.le_of_ble_eq_true rfl) ?_
  refine Ev.aload_n (pc := 0) (i := 0) dD_step_0 rfl rfl ?_
  refine Ev.gf (pc := 1) dD_step_1 fl_D_160 (by omega) (rfl) rfl ?_
  refine Ev.topi h24 ?_
  refine Ev.cif_ge (nI_toInt (by omega)) (pc := 4) (tgt := 9) dD_step_4 rfl (fun h1 => ?_) (fun h1 => ?_)
  · refine Ev.aload_n (pc := 9) (i := 0) dD_step_9 rfl rfl ?_
    refine Ev.gf (pc := 10) dD_step_10 fl_D_163 (by omega) (rfl) rfl ?_
    refine Ev.topi h26 ?_
    refine Ev.iload_n (pc := 13) (i := 2) dD_step_13 rfl rfl ?_
    refine Ev.callS (pc := 14) dD_step_14 ks_D_110 ⟨Nat.le_of_ble_eq_true rfl, Nat.le_of_ble_eq_true rfl⟩ (ct_D_next hp hd) rfl rfl (Nat.le_of_ble_eq_true rfl) ?_
    rintro _ _ ⟨rfl, rfl⟩
    have bad : ∀ l3 : Int32, smS C sy I k d x = (1, x) → Ev G mD_step 34 [some (.ref (cxa G 30)), some (.int (nI k)), some (.int (nI d)), some (.int l3)] [] (wl G v b) (cx_e G mD_step (fun y w' => ∃ (v' : Nat → Nat → Int32) (b' : Nat → Nat → Bool), w' = wl G v' b' ∧ y = some (.int (nI (smS C sy I k d x).1)) ∧ mfr v v' b b' ∧ v' 30 24 = v 30 24 ∧ v' 30 25 = v 30 25 ∧ v' 30 26 = nI (smS C sy I k d x).2.1 ∧ mpx v' b' (smS C sy I k d x).2)) := by
      intro l3 hq
      rw [hq]
      refine Ev.iconst (pc := 34) (v := 1) dD_step_34 (by decide) ?_
      exact Ev.ireturn .int dD_step_35 rfl rfl ⟨v, b, rfl, rfl, mfr.rf, rfl, rfl, h26, h27, h43, hp⟩
    cases hn : nxt x.1 d with
    | none =>
      have e1 : nxI x.1 d = -1 := by unfold nxI; rw [hn]
      rw [e1]
      refine Ev.istore_n (pc := 17) (i := 3) dD_step_17 rfl (Nat.le_of_ble_eq_true rfl) ?_
      refine Ev.iload_n (pc := 18) (i := 3) dD_step_18 rfl rfl ?_
      refine Ev.cif_lt (rfl) (pc := 19) (tgt := 34) dD_step_19 rfl (fun h2 => ?_) (fun h2 => ?_)
      · exact bad _ (by unfold smS; rw [hn])
      · exact absurd h2 (by decide)
    | some q =>
      have e1 : nxI x.1 d = nI q := by unfold nxI; rw [hn]
      have hq := (nxt_lt hn).2.1
      rw [e1]
      refine Ev.istore_n (pc := 17) (i := 3) dD_step_17 rfl (Nat.le_of_ble_eq_true rfl) ?_
      refine Ev.iload_n (pc := 18) (i := 3) dD_step_18 rfl rfl ?_
      refine Ev.cif_lt (nI_toInt (by omega)) (pc := 19) (tgt := 34) dD_step_19 rfl (fun h2 => ?_) (fun h2 => ?_)
      · omega
      refine Ev.aload_n (pc := 22) (i := 0) dD_step_22 rfl rfl ?_
      refine Ev.aload_n (pc := 23) (i := 0) dD_step_23 rfl rfl ?_
      refine Ev.gf (pc := 24) dD_step_24 fl_D_160 (by omega) (rfl) rfl ?_
      refine Ev.topi h24 ?_
      refine Ev.iload_n (pc := 27) (i := 3) dD_step_27 rfl rfl ?_
      refine Ev.callV (pc := 28) dD_step_28 kv_D_113 ⟨Nat.le_of_ble_eq_true rfl, Nat.le_of_ble_eq_true rfl⟩ (wl_at (by decide) rfl) rfl rfl (ct_D_isSafe hj hI hB hq) rfl rfl (Nat.le_of_ble_eq_true rfl) ?_
      rintro _ _ ⟨rfl, rfl⟩
      refine Ev.if_neB (pc := 31) (tgt := 36) dD_step_31 rfl (fun h3 => ?_) (fun h3 => ?_)
      rotate_left
      · exact bad _ (by unfold smS; rw [hn]; show (if okI C sy I q = true then _ else _) = _; rw [if_f h3])
      have go : ¬ (k = 0 ∧ cvI x.2.2 I q = true) → Ev G mD_step 55 [some (.ref (cxa G 30)), some (.int (nI k)), some (.int (nI d)), some (.int (nI q))] [] (wl G v b) (cx_e G mD_step (fun y w' => ∃ (v' : Nat → Nat → Int32) (b' : Nat → Nat → Bool), w' = wl G v' b' ∧ y = some (.int (nI (smS C sy I k d x).1)) ∧ mfr v v' b b' ∧ v' 30 24 = v 30 24 ∧ v' 30 25 = v 30 25 ∧ v' 30 26 = nI (smS C sy I k d x).2.1 ∧ mpx v' b' (smS C sy I k d x).2)) := by
        intro h5
        refine Ev.aload_n (pc := 55) (i := 0) dD_step_55 rfl rfl ?_
        refine Ev.iload_n (pc := 56) (i := 3) dD_step_56 rfl rfl ?_
        refine Ev.puti (pc := 57) dD_step_57 fl_D_163 fp_D_where (by omega) (rfl) rfl (Nat.le_of_ble_eq_true rfl) ?_
        refine Ev.aload_n (pc := 60) (i := 0) dD_step_60 rfl rfl ?_
        refine Ev.iload_n (pc := 61) (i := 1) dD_step_61 rfl rfl ?_
        refine Ev.iconst (pc := 62) (v := 1) dD_step_62 (by decide) ?_
        refine Ev.cicmp_ne (nI_toInt (by omega)) ((show (1 : Int32).toInt = 1 from by decide)) (pc := 63) (tgt := 84) dD_step_63 rfl (fun h6 => ?_) (fun h6 => ?_)
        · have es : smS C sy I k d x = (0, q, x.2.1, x.2.2) := by
            unfold smS
            rw [hn]
            show (if okI C sy I q = true then _ else _) = _
            rw [if_t h3, if_neg h5, if_neg (by omega)]
          rw [es]
          refine Ev.aload_n (pc := 84) (i := 0) dD_step_84 rfl rfl ?_
          refine Ev.gf (pc := 85) dD_step_85 fl_D_166 (by omega) (rfl) rfl ?_
          refine Ev.puti (pc := 88) dD_step_88 fl_D_166 fp_D_cut (by omega) (rfl) rfl (Nat.le_of_ble_eq_true rfl) ?_
          refine Ev.iconst (pc := 91) (v := 0) dD_step_91 (by decide) ?_
          refine Ev.ireturn .int dD_step_92 rfl rfl ⟨_, b, rfl, rfl, (mfr.rf.up (by decide) _).up (by decide) _, by rw [sv_k (by decide), sv_k (by decide)], by rw [sv_k (by decide), sv_k (by decide)], by rw [sv_k (by decide), sv_eq], by rw [sv_eq, sv_k (by decide)]; exact h27, h43, hq⟩
        · have hk1 : k = 1 := by omega
          have es : smS C sy I k d x = (0, q, x.2.1 + nI (ctI x.2.2 I q).1, (ctI x.2.2 I q).2) := by
            unfold smS
            rw [hn]
            show (if okI C sy I q = true then _ else _) = _
            rw [if_t h3, if_neg h5, if_pos hk1]
          rw [es]
          refine Ev.aload_n (pc := 66) (i := 0) dD_step_66 rfl rfl ?_
          refine Ev.gf (pc := 67) dD_step_67 fl_D_166 (by omega) (rfl) rfl ?_
          refine Ev.aload_n (pc := 70) (i := 0) dD_step_70 rfl rfl ?_
          refine Ev.aload_n (pc := 71) (i := 0) dD_step_71 rfl rfl ?_
          refine Ev.gf (pc := 72) dD_step_72 fl_D_160 (by omega) (rfl) rfl ?_
          refine Ev.topi (y := nI j) (by rw [sv_k (by decide)]; exact h24) ?_
          refine Ev.iload_n (pc := 75) (i := 3) dD_step_75 rfl rfl ?_
          refine Ev.iconst (pc := 76) (v := 1) dD_step_76 (by decide) ?_
          refine Ev.callV (pc := 77) dD_step_77 kv_D_125 ⟨Nat.le_of_ble_eq_true rfl, Nat.le_of_ble_eq_true rfl⟩ (wl_at (by decide) rfl) rfl rfl (ct_D_stockAt_1 hj (hI.fr (b := b) (mfr.rf.up (by decide) _)) hq) rfl rfl (Nat.le_of_ble_eq_true rfl) ?_
          rintro _ _ ⟨rfl, rfl⟩
          refine Ev.iadd (pc := 80) dD_step_80 ?_
          refine Ev.goto (pc := 81) (tgt := 88) dD_step_81 rfl ?_
          refine Ev.puti (pc := 88) dD_step_88 fl_D_166 fp_D_cut (by omega) (rfl) rfl (Nat.le_of_ble_eq_true rfl) ?_
          refine Ev.iconst (pc := 91) (v := 0) dD_step_91 (by decide) ?_
          refine Ev.ireturn .int dD_step_92 rfl rfl ⟨_, _, rfl, rfl, ((mfr.rf.up (by decide) _).up (by decide) _).ub _, by rw [sv_k (by decide), sv_k (by decide)], by rw [sv_k (by decide), sv_k (by decide)], by rw [sv_k (by decide), sv_eq], ?_, ?_, hq⟩
          · rw [sv_eq, sv_k (by decide), h27, h43]; rfl
          · rw [up_at, h43]; rfl
      refine Ev.iload_n (pc := 36) (i := 1) dD_step_36 rfl rfl ?_
      refine Ev.cif_ne (nI_toInt (by omega)) (pc := 37) (tgt := 55) dD_step_37 rfl (fun h4 => ?_) (fun h4 => ?_)
      · exact go (by omega)
      refine Ev.aload_n (pc := 40) (i := 0) dD_step_40 rfl rfl ?_
      refine Ev.aload_n (pc := 41) (i := 0) dD_step_41 rfl rfl ?_
      refine Ev.gf (pc := 42) dD_step_42 fl_D_160 (by omega) (rfl) rfl ?_
      refine Ev.topi h24 ?_
      refine Ev.iload_n (pc := 45) (i := 3) dD_step_45 rfl rfl ?_
      refine Ev.iconst (pc := 46) (v := 0) dD_step_46 (by decide) ?_
      refine Ev.callV (pc := 47) dD_step_47 kv_D_125 ⟨Nat.le_of_ble_eq_true rfl, Nat.le_of_ble_eq_true rfl⟩ (wl_at (by decide) rfl) rfl rfl (ct_D_stockAt_0 hj hI hq) rfl rfl (Nat.le_of_ble_eq_true rfl) ?_
      rintro _ _ ⟨rfl, rfl⟩
      have hle : cntB I.1 (fun i => hasB (b 43) (zP q + I.2.1 i) (rP q + I.2.2 i)) ≤ I.1 := cntB_le
      have hc : cvI x.2.2 I q = true ↔ 0 < cntB I.1 (fun i => hasB (b 43) (zP q + I.2.1 i) (rP q + I.2.2 i)) := by
        rw [cntB_any, h43]
        exact Iff.rfl
      refine Ev.cif_le (nI_toInt (by omega)) (pc := 50) (tgt := 55) dD_step_50 rfl (fun h5 => ?_) (fun h5 => ?_)
      · exact go (fun e => by have := hc.mp e.2; omega)
      · have es : smS C sy I k d x = (2, x) := by
          unfold smS
          rw [hn]
          show (if okI C sy I q = true then _ else _) = _
          rw [if_t h3, if_pos ⟨by omega, hc.mpr (by omega)⟩]
        rw [es]
        refine Ev.iconst (pc := 53) (v := 2) dD_step_53 (by decide) ?_
        exact Ev.ireturn .int dD_step_54 rfl rfl ⟨v, b, rfl, rfl, mfr.rf, rfl, rfl, h26, h27, h43, hp⟩
  · omega
set_option maxHeartbeats 4000000 in
set_option maxRecDepth 100000 in
theorem ct_D_step_0 {k d : Nat} (h24 : v 30 24 = -1) : Ct G mD_step [.ref (cxa G 30), .int (nI k), .int (nI d)] (wl G v b) (fun y w' => w' = wl G v b ∧ y = some (.int (nI 3))) := by
  refine Ct.of (by decide) rfl rfl (Nat.le_of_ble_eq_true rfl) ?_
  refine Ev.aload_n (pc := 0) (i := 0) dD_step_0 rfl rfl ?_
  refine Ev.gf (pc := 1) dD_step_1 fl_D_160 (by omega) (rfl) rfl ?_
  refine Ev.topi h24 ?_
  refine Ev.cif_ge (rfl) (pc := 4) (tgt := 9) dD_step_4 rfl (fun h1 => ?_) (fun h1 => ?_)
  · exact absurd h1 (by decide)
  refine Ev.iconst (pc := 7) (v := 3) dD_step_7 (by decide) ?_
  exact Ev.ireturn .int dD_step_8 rfl rfl ⟨rfl, rfl⟩
end Mru
