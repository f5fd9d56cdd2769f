/-! The reference goes through a plan: a pass, the whole, simulate, fault -/
theorem mdl.fr {v v' : Nat → Nat → Int32} {b b' : Nat → Nat → Bool} {S : Sg} (h : mdl v b S) (f : mfr v v' b b') : mdl v' b' S := by
  refine ⟨⟨by rw [f.2.1 0 (by decide)]; exact h.1.1, by rw [f.2.1 1 (by decide)]; exact h.1.2.1, h.1.2.2.fr f⟩, fun j hj => (h.2.1 j hj).fr f, ⟨by rw [f.2.1 7 (by decide)]; exact h.2.2.1.1, fun k hk => by rw [f.1 35 (by decide)]; exact h.2.2.1.2 k hk⟩, by rw [f.2.2 30 (by decide)]; exact h.2.2.2.1, fun e => by rw [f.2.1 10 (by decide)]; exact h.2.2.2.2.1 e, fun n p t l e => ?_, by rw [f.2.2 30 (by decide), f.2.2 42 (by decide)]; exact h.2.2.2.2.2.2.1, by rw [f.2.2 30 (by decide)]; exact h.2.2.2.2.2.2.2⟩
  have m := h.2.2.2.2.2.1 n p t l e
  exact ⟨by rw [f.2.1 10 (by decide)]; exact m.1, by rw [f.2.1 17 (by decide)]; exact m.2.1, fun i hi => by rw [f.1 36 (by decide), f.1 37 (by decide), f.1 38 (by decide)]; exact m.2.2.1 i hi, fun i hi => by rw [f.1 39 (by decide), f.1 40 (by decide), f.1 41 (by decide)]; exact m.2.2.2 i hi⟩
section Mr2
variable {G : cx_G} {v : Nat → Nat → Int32} {b : Nat → Nat → Bool}
set_option maxHeartbeats 4000000 in
set_option maxRecDepth 100000 in
theorem ct_D_pass {C : Int32} {sy : Nat → Int32} {Is : Nat → Ins} {J : Nat → Nat} {c ch B a : Nat} {x : Sm} {q : Mv} (hI : ∀ j, j < 3 → mi v j (Is j)) (hB : mb v C sy) (hc3 : c ≤ 3) (hc : v 30 7 = nI c) (hJ : ∀ k, k < c → v 35 k = nI (J k)) (hJ3 : ∀ k, k < c → J k < 3) (ha : a < 2000) (h39 : v 39 a = nI q.1) (h40 : v 40 a = nI q.2.1) (h41 : v 41 a = nI q.2.2) (hq : okMv B q) (hBB : B < 900000) (hch : ch ≤ c) (hR : mrn v b J ch x) : Ct G mD_pass [.ref (cxa G 30), .int (nI a)] (wl G v b) (fun y w' => ∃ (v' : Nat → Nat → Int32) (b' : Nat → Nat → Bool), w' = wl G v' b' ∧ y = some (.int (nI (smM C sy c (fun a => Is (J a)) q (ch, x)).1)) ∧ mfr v v' b b' ∧ mrn v' b' J (smM C sy c (fun a => Is (J a)) q (ch, x)).2.1 (smM C sy c (fun a => Is (J a)) q (ch, x)).2.2) := by
  obtain ⟨r25, r0, r1, rx⟩ := hR
  obtain ⟨b1, b2, b3, b4⟩ := hq.lt (by omega)
  have hcI : (v 30 7).toInt = (c : Int) := by rw [hc]; exact nI_toInt (by omega)
  have hrI : (v 30 25).toInt = (ch : Int) := by rw [r25]; exact nI_toInt (by omega)
  refine Ct.of (by decide) rfl rfl (Nat.le_of_ble_eq_true rfl) ?_
  refine Ev.aload_n (pc := 0) (i := 0) dD_pass_0 rfl rfl ?_
  refine Ev.gf (pc := 1) dD_pass_1 fl_D_44 (by omega) (rfl) rfl ?_
  refine Ev.iload_n (pc := 4) (i := 1) dD_pass_4 rfl rfl ?_
  refine Ev.aldi (pc := 5) dD_pass_5 (by omega) (by first | exact fun _ _ => rfl | exact cell_dz hj | exact cell_dr hj | exact cell_mr hk | exact cell_sr hk) _ (rfl) (by omega) (by decide) ?_
  refine Ev.topi h39 ?_
  refine Ev.iconst (pc := 6) (v := 2) dD_pass_6 (by decide) ?_
  refine Ev.cicmp_ne (nI_toInt (by omega)) ((show (2 : Int32).toInt = 2 from by decide)) (pc := 7) (tgt := 59) dD_pass_7 rfl (fun h1 => ?_) (fun h1 => ?_)
  · have h1' : ¬ q.1 = 2 := by omega
    have hq1 : q.1 < 2 ∧ q.2.1 < 4 ∧ 1 ≤ q.2.2 ∧ q.2.2 ≤ B := by
      rcases hq with h | h
      · exact h
      · exact absurd (by rw [h]) h1'
    have out : ∀ (v' : Nat → Nat → Int32) (b' : Nat → Nat → Bool) (i e : Nat), v' 41 = v 41 → i ≤ q.2.2 → e < 10 → e ≠ 0 → ((fun y w' => ∃ (v' : Nat → Nat → Int32) (b' : Nat → Nat → Bool), w' = wl G v' b' ∧ y = some (.int (nI (smM C sy c (fun a => Is (J a)) q (ch, x)).1)) ∧ mfr v v' b b' ∧ mrn v' b' J (smM C sy c (fun a => Is (J a)) q (ch, x)).2.1 (smM C sy c (fun a => Is (J a)) q (ch, x)).2.2) : Option Value → List va_E → Prop) (some (.int (nI e))) (wl G v' b') → Ev G mD_pass 63 [some (.ref (cxa G 30)), some (.int (nI a)), some (.int (nI e)), some (.int (nI i))] [] (wl G v' b') (cx_e G mD_pass (fun y w' => ∃ (v' : Nat → Nat → Int32) (b' : Nat → Nat → Bool), w' = wl G v' b' ∧ y = some (.int (nI (smM C sy c (fun a => Is (J a)) q (ch, x)).1)) ∧ mfr v v' b b' ∧ mrn v' b' J (smM C sy c (fun a => Is (J a)) q (ch, x)).2.1 (smM C sy c (fun a => Is (J a)) q (ch, x)).2.2)) := by
      intro v' b' i e hv hi he he0 hp
      refine Ev.iload_n (pc := 63) (i := 3) dD_pass_63 rfl rfl ?_
      refine Ev.aload_n (pc := 64) (i := 0) dD_pass_64 rfl rfl ?_
      refine Ev.gf (pc := 65) dD_pass_65 fl_D_50 (by omega) (rfl) rfl ?_
      refine Ev.iload_n (pc := 68) (i := 1) dD_pass_68 rfl rfl ?_
      refine Ev.aldi (pc := 69) dD_pass_69 (by omega) (by first | exact fun _ _ => rfl | exact cell_dz hj | exact cell_dr hj | exact cell_mr hk | exact cell_sr hk) _ (rfl) (by omega) (by decide) ?_
      refine Ev.topi (y := nI q.2.2) (by rw [hv]; exact h41) ?_
      refine Ev.cicmp_ge (nI_toInt (by omega)) (nI_toInt (by omega)) (pc := 70) (tgt := 100) dD_pass_70 rfl (fun h2 => ?_) (fun h2 => ?_)
      · refine Ev.iload_n (pc := 100) (i := 2) dD_pass_100 rfl rfl ?_
        exact Ev.ireturn .int dD_pass_101 rfl rfl hp
      refine Ev.iload_n (pc := 73) (i := 2) dD_pass_73 rfl rfl ?_
      refine Ev.cif_ne (nI_toInt (by omega)) (pc := 74) (tgt := 100) dD_pass_74 rfl (fun h3 => ?_) (fun h3 => ?_)
      · refine Ev.iload_n (pc := 100) (i := 2) dD_pass_100 rfl rfl ?_
        exact Ev.ireturn .int dD_pass_101 rfl rfl hp
      · omega
    refine Ev.iconst (pc := 59) (v := 0) dD_pass_59 (by decide) ?_
    refine Ev.istore_n (pc := 60) (i := 2) dD_pass_60 rfl (Nat.le_of_ble_eq_true rfl) ?_
    refine Ev.iconst (pc := 61) (v := 0) dD_pass_61 (by decide) ?_
    refine Ev.istore_n (pc := 62) (i := 3) dD_pass_62 rfl (Nat.le_of_ble_eq_true rfl) ?_
    by_cases hz : ch = 0
    · have es : (smM C sy c (fun a => Is (J a)) q (ch, x)) = (3, ch, x) := by
        unfold smM
        rw [if_neg h1']
        show (if ch = 0 then _ else _) = _
        rw [if_pos hz]
      refine Ev.iload_n (pc := 63) (i := 3) dD_pass_63 rfl rfl ?_
      refine Ev.aload_n (pc := 64) (i := 0) dD_pass_64 rfl rfl ?_
      refine Ev.gf (pc := 65) dD_pass_65 fl_D_50 (by omega) (rfl) rfl ?_
      refine Ev.iload_n (pc := 68) (i := 1) dD_pass_68 rfl rfl ?_
      refine Ev.aldi (pc := 69) dD_pass_69 (by omega) (by first | exact fun _ _ => rfl | exact cell_dz hj | exact cell_dr hj | exact cell_mr hk | exact cell_sr hk) _ (rfl) (by omega) (by decide) ?_
      refine Ev.topi h41 ?_
      refine Ev.cicmp_ge (rfl) (nI_toInt (by omega)) (pc := 70) (tgt := 100) dD_pass_70 rfl (fun h2 => ?_) (fun h2 => ?_)
      · exact absurd h2 (by rw [show (0 : Int32).toInt = 0 by decide]; omega)
      refine Ev.iload_n (pc := 73) (i := 2) dD_pass_73 rfl rfl ?_
      refine Ev.cif_ne (rfl) (pc := 74) (tgt := 100) dD_pass_74 rfl (fun h3 => ?_) (fun h3 => ?_)
      · exact absurd rfl h3
      refine Ev.aload_n (pc := 77) (i := 0) dD_pass_77 rfl rfl ?_
      refine Ev.aload_n (pc := 78) (i := 0) dD_pass_78 rfl rfl ?_
      refine Ev.gf (pc := 79) dD_pass_79 fl_D_44 (by omega) (rfl) rfl ?_
      refine Ev.iload_n (pc := 82) (i := 1) dD_pass_82 rfl rfl ?_
      refine Ev.aldi (pc := 83) dD_pass_83 (by omega) (by first | exact fun _ _ => rfl | exact cell_dz hj | exact cell_dr hj | exact cell_mr hk | exact cell_sr hk) _ (rfl) (by omega) (by decide) ?_
      refine Ev.topi h39 ?_
      refine Ev.aload_n (pc := 84) (i := 0) dD_pass_84 rfl rfl ?_
      refine Ev.gf (pc := 85) dD_pass_85 fl_D_47 (by omega) (rfl) rfl ?_
      refine Ev.iload_n (pc := 88) (i := 1) dD_pass_88 rfl rfl ?_
      refine Ev.aldi (pc := 89) dD_pass_89 (by omega) (by first | exact fun _ _ => rfl | exact cell_dz hj | exact cell_dr hj | exact cell_mr hk | exact cell_sr hk) _ (rfl) (by omega) (by decide) ?_
      refine Ev.topi h40 ?_
      refine Ev.callV (pc := 90) dD_pass_90 kv_D_172 ⟨Nat.le_of_ble_eq_true rfl, Nat.le_of_ble_eq_true rfl⟩ (wl_at (by decide) rfl) rfl rfl (ct_D_step_0 (k := q.1) (d := q.2.1) (r0 hz)) rfl rfl (Nat.le_of_ble_eq_true rfl) ?_
      rintro _ _ ⟨rfl, rfl⟩
      refine Ev.istore_n (pc := 93) (i := 2) dD_pass_93 rfl (Nat.le_of_ble_eq_true rfl) ?_
      refine Ev.iinc (pc := 94) dD_pass_94 rfl (cx_inc _) (Nat.le_of_ble_eq_true rfl) ?_
      refine Ev.goto (pc := 97) (tgt := 63) dD_pass_97 rfl ?_
      exact out v b 1 3 rfl (by omega) (by decide) (by decide) ⟨v, b, rfl, by rw [es], mfr.rf, by rw [es]; exact ⟨r25, r0, r1, rx⟩⟩
    · obtain ⟨h24, h26⟩ := r1 (by omega)
      have hj : J (ch - 1) < 3 := hJ3 _ (by omega)
      have es : (smM C sy c (fun a => Is (J a)) q (ch, x)) = ((smC C sy (Is (J (ch - 1))) q.1 q.2.1 q.2.2 x).1, ch, (smC C sy (Is (J (ch - 1))) q.1 q.2.1 q.2.2 x).2) := by
        unfold smM
        rw [if_neg h1']
        show (if ch = 0 then _ else _) = _
        rw [if_neg hz]
      have mk : ∀ (v' : Nat → Nat → Int32) (b' : Nat → Nat → Bool) (x' : Sm), mfr v v' b b' → v' 30 24 = v 30 24 → v' 30 25 = v 30 25 → v' 30 26 = nI x'.1 → mpx v' b' x' → mrn v' b' J ch x' := fun v' b' x' _ f1 f2 f3 f4 => ⟨by rw [f2]; exact r25, fun e => absurd e hz, fun _ => ⟨by rw [f1]; exact h24, f3⟩, f4⟩
      have loop : ∀ i, i ≤ q.2.2 → ∀ (v' : Nat → Nat → Int32) (b' : Nat → Nat → Bool) (x' : Sm), mfr v v' b b' → v' 30 24 = v 30 24 → v' 30 25 = v 30 25 → v' 30 26 = nI x'.1 → mpx v' b' x' → smC C sy (Is (J (ch - 1))) q.1 q.2.1 (q.2.2 - i) x' = smC C sy (Is (J (ch - 1))) q.1 q.2.1 q.2.2 x → Ev G mD_pass 63 [some (.ref (cxa G 30)), some (.int (nI a)), some (.int (nI 0)), some (.int (nI i))] [] (wl G v' b') (cx_e G mD_pass (fun y w' => ∃ (v' : Nat → Nat → Int32) (b' : Nat → Nat → Bool), w' = wl G v' b' ∧ y = some (.int (nI (smM C sy c (fun a => Is (J a)) q (ch, x)).1)) ∧ mfr v v' b b' ∧ mrn v' b' J (smM C sy c (fun a => Is (J a)) q (ch, x)).2.1 (smM C sy c (fun a => Is (J a)) q (ch, x)).2.2)) := by
        refine loopN (fun i hi ih v' b' x' hF f1 f2 f3 f4 he => ?_)
        refine Ev.iload_n (pc := 63) (i := 3) dD_pass_63 rfl rfl ?_
        refine Ev.aload_n (pc := 64) (i := 0) dD_pass_64 rfl rfl ?_
        refine Ev.gf (pc := 65) dD_pass_65 fl_D_50 (by omega) (rfl) rfl ?_
        refine Ev.iload_n (pc := 68) (i := 1) dD_pass_68 rfl rfl ?_
        refine Ev.aldi (pc := 69) dD_pass_69 (by omega) (by first | exact fun _ _ => rfl | exact cell_dz hj | exact cell_dr hj | exact cell_mr hk | exact cell_sr hk) _ (rfl) (by omega) (by decide) ?_
        refine Ev.topi (y := nI q.2.2) (by rw [hF.1 41 (by decide)]; exact h41) ?_
        refine Ev.cicmp_ge (nI_toInt (by omega)) (nI_toInt (by omega)) (pc := 70) (tgt := 100) dD_pass_70 rfl (fun h2 => ?_) (fun h2 => ?_)
        · have e0 : q.2.2 - i = 0 := by omega
          rw [e0] at he
          have he : (0, x') = smC C sy (Is (J (ch - 1))) q.1 q.2.1 q.2.2 x := he
          refine Ev.iload_n (pc := 100) (i := 2) dD_pass_100 rfl rfl ?_
          exact Ev.ireturn .int dD_pass_101 rfl rfl ⟨v', b', rfl, by rw [es, ← he], hF, by rw [es, ← he]; exact mk v' b' x' hF f1 f2 f3 f4⟩
        refine Ev.iload_n (pc := 73) (i := 2) dD_pass_73 rfl rfl ?_
        refine Ev.cif_ne (rfl) (pc := 74) (tgt := 100) dD_pass_74 rfl (fun h3 => ?_) (fun h3 => ?_)
        · exact absurd rfl h3
        obtain ⟨n, hn⟩ : ∃ n, q.2.2 - i = n + 1 := ⟨q.2.2 - i - 1, by omega⟩
        rw [hn] at he
        simp only [smC] at he
        refine Ev.aload_n (pc := 77) (i := 0) dD_pass_77 rfl rfl ?_
        refine Ev.aload_n (pc := 78) (i := 0) dD_pass_78 rfl rfl ?_
        refine Ev.gf (pc := 79) dD_pass_79 fl_D_44 (by omega) (rfl) rfl ?_
        refine Ev.iload_n (pc := 82) (i := 1) dD_pass_82 rfl rfl ?_
        refine Ev.aldi (pc := 83) dD_pass_83 (by omega) (by first | exact fun _ _ => rfl | exact cell_dz hj | exact cell_dr hj | exact cell_mr hk | exact cell_sr hk) _ (rfl) (by omega) (by decide) ?_
        refine Ev.topi (y := nI q.1) (by rw [hF.1 39 (by decide)]; exact h39) ?_
        refine Ev.aload_n (pc := 84) (i := 0) dD_pass_84 rfl rfl ?_
        refine Ev.gf (pc := 85) dD_pass_85 fl_D_47 (by omega) (rfl) rfl ?_
        refine Ev.iload_n (pc := 88) (i := 1) dD_pass_88 rfl rfl ?_
        refine Ev.aldi (pc := 89) dD_pass_89 (by omega) (by first | exact fun _ _ => rfl | exact cell_dz hj | exact cell_dr hj | exact cell_mr hk | exact cell_sr hk) _ (rfl) (by omega) (by decide) ?_
        refine Ev.topi (y := nI q.2.1) (by rw [hF.1 40 (by decide)]; exact h40) ?_
        refine Ev.callV (pc := 90) dD_pass_90 kv_D_172 ⟨Nat.le_of_ble_eq_true rfl, Nat.le_of_ble_eq_true rfl⟩ (wl_at (by decide) rfl) rfl rfl (ct_D_step (k := q.1) (d := q.2.1) hj ((hI _ hj).fr hF) (hB.fr hF) hq1.1 hq1.2.1 (f1.trans h24) f3 f4) rfl rfl (Nat.le_of_ble_eq_true rfl) ?_
        rintro _ _ ⟨v2, bb2, rfl, rfl, g, g1, g2, g3, g4⟩
        have hle := smS_le (C := C) (sy := sy) (I := Is (J (ch - 1))) (k := q.1) (d := q.2.1) (x := x')
        refine Ev.istore_n (pc := 93) (i := 2) dD_pass_93 rfl (Nat.le_of_ble_eq_true rfl) ?_
        refine Ev.iinc (pc := 94) dD_pass_94 rfl (cx_inc _) (Nat.le_of_ble_eq_true rfl) ?_
        refine Ev.goto (pc := 97) (tgt := 63) dD_pass_97 rfl ?_
        by_cases e : (smS C sy (Is (J (ch - 1))) q.1 q.2.1 x').1 = 0
        · rw [if_pos e] at he
          rw [e]
          exact ih (by omega) v2 bb2 _ (hF.tr g) (g1.trans f1) (g2.trans f2) g3 g4 (by rw [show q.2.2 - (i + 1) = n by omega]; exact he)
        · rw [if_neg e] at he
          exact out v2 bb2 (i + 1) _ ((hF.tr g).1 41 (by decide)) (by omega) (by omega) e ⟨v2, bb2, rfl, by rw [es, ← he], hF.tr g, by rw [es, ← he]; exact mk v2 bb2 _ (hF.tr g) (g1.trans f1) (g2.trans f2) g3 g4⟩
      exact loop 0 (Nat.zero_le _) v b x mfr.rf rfl rfl h26 rx rfl
  · have hq2 : q.1 = 2 := by omega
    refine Ev.aload_n (pc := 10) (i := 0) dD_pass_10 rfl rfl ?_
    refine Ev.gf (pc := 11) dD_pass_11 fl_D_169 (by omega) (rfl) rfl ?_
    refine Ev.aload_n (pc := 14) (i := 0) dD_pass_14 rfl rfl ?_
    refine Ev.gf (pc := 15) dD_pass_15 fl_D_86 (by omega) (rfl) rfl ?_
    refine Ev.cicmp_ne (hrI) (hcI) (pc := 18) (tgt := 23) dD_pass_18 rfl (fun h2 => ?_) (fun h2 => ?_)
    · have es : (smM C sy c (fun a => Is (J a)) q (ch, x)) = (0, ch + 1, 15, x.2) := by
        unfold smM
        rw [if_pos hq2]
        show (if c ≤ ch then _ else _) = _
        rw [if_neg (by omega)]
      refine Ev.aload_n (pc := 23) (i := 0) dD_pass_23 rfl rfl ?_
      refine Ev.aload_n (pc := 24) (i := 0) dD_pass_24 rfl rfl ?_
      refine Ev.gf (pc := 25) dD_pass_25 fl_D_32 (by omega) (rfl) rfl ?_
      refine Ev.aload_n (pc := 28) (i := 0) dD_pass_28 rfl rfl ?_
      refine Ev.gf (pc := 29) dD_pass_29 fl_D_169 (by omega) (rfl) rfl ?_
      refine Ev.topi r25 ?_
      refine Ev.aldi (pc := 32) dD_pass_32 (by omega) (by first | exact fun _ _ => rfl | exact cell_dz hj | exact cell_dr hj | exact cell_mr hk | exact cell_sr hk) _ (rfl) (by omega) (by decide) ?_
      refine Ev.topi (hJ ch (by omega)) ?_
      refine Ev.puti (pc := 33) dD_pass_33 fl_D_160 fp_D_insert (by omega) (rfl) rfl (Nat.le_of_ble_eq_true rfl) ?_
      refine Ev.aload_n (pc := 36) (i := 0) dD_pass_36 rfl rfl ?_
      refine Ev.aload_n (pc := 37) (i := 0) dD_pass_37 rfl rfl ?_
      refine Ev.gf (pc := 38) dD_pass_38 fl_D_169 (by omega) (rfl) rfl ?_
      refine Ev.topi (y := nI ch) (by rw [sv_k (by decide)]; exact r25) ?_
      refine Ev.iconst (pc := 41) (v := 1) dD_pass_41 (by decide) ?_
      refine Ev.iadd (pc := 42) dD_pass_42 ?_
      refine Ev.topi (nI_succ _).symm ?_
      refine Ev.puti (pc := 43) dD_pass_43 fl_D_169 fp_D_row (by omega) (rfl) rfl (Nat.le_of_ble_eq_true rfl) ?_
      refine Ev.aload_n (pc := 46) (i := 0) dD_pass_46 rfl rfl ?_
      refine Ev.bipush (pc := 47) (v := (-4)) dD_pass_47 (by decide) ?_
      refine Ev.bipush (pc := 49) (v := 15) dD_pass_49 (by decide) ?_
      refine Ev.callS (pc := 51) dD_pass_51 ks_D_100 ⟨Nat.le_of_ble_eq_true rfl, Nat.le_of_ble_eq_true rfl⟩ (ct_D_number (z := -4) (r := 15) (by decide)) rfl rfl (Nat.le_of_ble_eq_true rfl) ?_
      rintro _ _ ⟨rfl, rfl⟩
      refine Ev.puti (pc := 54) dD_pass_54 fl_D_163 fp_D_where (by omega) (rfl) rfl (Nat.le_of_ble_eq_true rfl) ?_
      refine Ev.iconst (pc := 57) (v := 0) dD_pass_57 (by decide) ?_
      refine Ev.ireturn .int dD_pass_58 rfl rfl ⟨_, b, rfl, by rw [es]; rfl, ((mfr.rf.up (by decide) _).up (by decide) _).up (by decide) _, ?_⟩
      rw [es]
      refine ⟨by rw [sv_k (by decide), sv_eq], fun e => absurd e (by show ¬ ch + 1 = 0; omega), fun _ => ⟨by rw [sv_k (by decide), sv_k (by decide), sv_eq]; rfl, by rw [sv_eq]; rfl⟩, by rw [sv_k (by decide), sv_k (by decide), sv_k (by decide)]; exact rx.1, rx.2.1, by show 15 < 320; decide⟩
    · have es : (smM C sy c (fun a => Is (J a)) q (ch, x)) = (4, ch, x) := by
        unfold smM
        rw [if_pos hq2]
        show (if c ≤ ch then _ else _) = _
        rw [if_pos (by omega)]
      refine Ev.iconst (pc := 21) (v := 4) dD_pass_21 (by decide) ?_
      exact Ev.ireturn .int dD_pass_22 rfl rfl ⟨v, b, rfl, by rw [es]; rfl, mfr.rf, by rw [es]; exact ⟨r25, r0, r1, rx⟩⟩
set_option maxHeartbeats 4000000 in
set_option maxRecDepth 100000 in
theorem ct_D_through {C : Int32} {sy : Nat → Int32} {Is : Nat → Ins} {J : Nat → Nat} {c B n nn : Nat} {t : Nat → Mv} (hI : ∀ j, j < 3 → mi v j (Is j)) (hB : mb v C sy) (hc3 : c ≤ 3) (hc : v 30 7 = nI c) (hJ : ∀ k, k < c → v 35 k = nI (J k)) (hJ3 : ∀ k, k < c → J k < 3) (hn : n ≤ 2000) (hm : v 30 10 = nI n) (ht : ∀ i, i < n → v 39 i = nI (t i).1 ∧ v 40 i = nI (t i).2.1 ∧ v 41 i = nI (t i).2.2) (hq : okP B (n, t)) (hBB : B < 900000) (hnn : nn < 2 ^ 31) : Ct G mD_through [.ref (cxa G 30), .int (nI nn)] (wl G v b) (fun y w' => ∃ (v' : Nat → Nat → Int32) (b' : Nat → Nat → Bool), w' = wl G v' b' ∧ y = some (.int (ftI (smA C sy c (fun a => Is (J a)) t 0 (if n < nn then n else nn) (0, 15, 0, (fillM (v 30 0) (v 30 1) (b 43) 96))).1)) ∧ mfr v v' b b' ∧ v' 30 27 = (smA C sy c (fun a => Is (J a)) t 0 (if n < nn then n else nn) (0, 15, 0, (fillM (v 30 0) (v 30 1) (b 43) 96))).2.2.2.1 ∧ b' 43 = (smA C sy c (fun a => Is (J a)) t 0 (if n < nn then n else nn) (0, 15, 0, (fillM (v 30 0) (v 30 1) (b 43) 96))).2.2.2.2) := by
  generalize hcnt : (if n < nn then n else nn) = cnt
  have hcn : cnt ≤ n := by rw [← hcnt]; split <;> omega
  have hcn2 : cnt ≤ nn := by rw [← hcnt]; split <;> omega
  have hcmin : cnt = n ∨ cnt = nn := by rw [← hcnt]; split <;> omega
  refine Ct.of (by decide) rfl rfl (Nat.le_of_ble_eq_true rfl) ?_
  refine Ev.aload_n (pc := 0) (i := 0) dD_through_0 rfl rfl ?_
  refine Ev.callV (pc := 1) dD_through_1 kv_D_144 ⟨Nat.le_of_ble_eq_true rfl, Nat.le_of_ble_eq_true rfl⟩ (wl_at (by decide) rfl) rfl rfl (ct_D_fill) rfl rfl (Nat.le_of_ble_eq_true rfl) ?_
  rintro _ _ ⟨rfl, rfl⟩
  refine Ev.aload_n (pc := 4) (i := 0) dD_through_4 rfl rfl ?_
  refine Ev.iconst (pc := 5) (v := (-1)) dD_through_5 (by decide) ?_
  refine Ev.puti (pc := 6) dD_through_6 fl_D_160 fp_D_insert (by omega) (rfl) rfl (Nat.le_of_ble_eq_true rfl) ?_
  refine Ev.aload_n (pc := 9) (i := 0) dD_through_9 rfl rfl ?_
  refine Ev.iconst (pc := 10) (v := 0) dD_through_10 (by decide) ?_
  refine Ev.puti (pc := 11) dD_through_11 fl_D_169 fp_D_row (by omega) (rfl) rfl (Nat.le_of_ble_eq_true rfl) ?_
  refine Ev.aload_n (pc := 14) (i := 0) dD_through_14 rfl rfl ?_
  refine Ev.iconst (pc := 15) (v := 0) dD_through_15 (by decide) ?_
  refine Ev.puti (pc := 16) dD_through_16 fl_D_166 fp_D_cut (by omega) (rfl) rfl (Nat.le_of_ble_eq_true rfl) ?_
  refine Ev.iconst (pc := 19) (v := 0) dD_through_19 (by decide) ?_
  refine Ev.istore_n (pc := 20) (i := 2) dD_through_20 rfl (Nat.le_of_ble_eq_true rfl) ?_
  have loop : ∀ i, i ≤ cnt → ∀ (v' : Nat → Nat → Int32) (b' : Nat → Nat → Bool) (ch : Nat) (x : Sm) (l3 : Option Value), mfr v v' b b' → ch ≤ c → mrn v' b' J ch x → smA C sy c (fun a => Is (J a)) t i (cnt - i) (ch, x) = (smA C sy c (fun a => Is (J a)) t 0 cnt (0, 15, 0, (fillM (v 30 0) (v 30 1) (b 43) 96))) → Ev G mD_through 21 [some (.ref (cxa G 30)), some (.int (nI nn)), some (.int (nI i)), l3] [] (wl G v' b') (cx_e G mD_through (fun y w' => ∃ (v' : Nat → Nat → Int32) (b' : Nat → Nat → Bool), w' = wl G v' b' ∧ y = some (.int (ftI (smA C sy c (fun a => Is (J a)) t 0 cnt (0, 15, 0, (fillM (v 30 0) (v 30 1) (b 43) 96))).1)) ∧ mfr v v' b b' ∧ v' 30 27 = (smA C sy c (fun a => Is (J a)) t 0 cnt (0, 15, 0, (fillM (v 30 0) (v 30 1) (b 43) 96))).2.2.2.1 ∧ b' 43 = (smA C sy c (fun a => Is (J a)) t 0 cnt (0, 15, 0, (fillM (v 30 0) (v 30 1) (b 43) 96))).2.2.2.2)) := by
    refine loopN (fun i hi ih v' b' ch x l3 hF hch hR he => ?_)
    have ret : cnt - i = 0 → Ev G mD_through 57 [some (.ref (cxa G 30)), some (.int (nI nn)), some (.int (nI i)), l3] [] (wl G v' b') (cx_e G mD_through (fun y w' => ∃ (v' : Nat → Nat → Int32) (b' : Nat → Nat → Bool), w' = wl G v' b' ∧ y = some (.int (ftI (smA C sy c (fun a => Is (J a)) t 0 cnt (0, 15, 0, (fillM (v 30 0) (v 30 1) (b 43) 96))).1)) ∧ mfr v v' b b' ∧ v' 30 27 = (smA C sy c (fun a => Is (J a)) t 0 cnt (0, 15, 0, (fillM (v 30 0) (v 30 1) (b 43) 96))).2.2.2.1 ∧ b' 43 = (smA C sy c (fun a => Is (J a)) t 0 cnt (0, 15, 0, (fillM (v 30 0) (v 30 1) (b 43) 96))).2.2.2.2)) := by
      intro e0
      rw [e0] at he
      have he : (none, ch, x) = (smA C sy c (fun a => Is (J a)) t 0 cnt (0, 15, 0, (fillM (v 30 0) (v 30 1) (b 43) 96))) := he
      refine Ev.iconst (pc := 57) (v := (-1)) dD_through_57 (by decide) ?_
      exact Ev.ireturn .int dD_through_58 rfl rfl ⟨v', b', rfl, by rw [← he]; rfl, hF, by rw [← he]; exact hR.2.2.2.1, by rw [← he]; exact hR.2.2.2.2.1⟩
    refine Ev.iload_n (pc := 21) (i := 2) dD_through_21 rfl rfl ?_
    refine Ev.aload_n (pc := 22) (i := 0) dD_through_22 rfl rfl ?_
    refine Ev.gf (pc := 23) dD_through_23 fl_D_76 (by omega) (rfl) rfl ?_
    refine Ev.topi (y := nI n) (by rw [hF.2.1 10 (by decide)]; exact hm) ?_
    refine Ev.cicmp_ge (nI_toInt (by omega)) (nI_toInt (by omega)) (pc := 26) (tgt := 57) dD_through_26 rfl (fun h1 => ?_) (fun h1 => ?_)
    · exact ret (by omega)
    refine Ev.iload_n (pc := 29) (i := 2) dD_through_29 rfl rfl ?_
    refine Ev.iload_n (pc := 30) (i := 1) dD_through_30 rfl rfl ?_
    refine Ev.cicmp_ge (nI_toInt (by omega)) (nI_toInt (by omega)) (pc := 31) (tgt := 57) dD_through_31 rfl (fun h2 => ?_) (fun h2 => ?_)
    · exact ret (by omega)
    have hlt : i < cnt := by omega
    obtain ⟨k, hk⟩ : ∃ k, cnt - i = k + 1 := ⟨cnt - i - 1, by omega⟩
    rw [hk] at he
    simp only [smA] at he
    have hle := smM_le (C := C) (sy := sy) (ns := c) (J := fun a => Is (J a)) (q := t i) (x := (ch, x))
    obtain ⟨t1, t2, t3⟩ := ht i (by omega)
    refine Ev.aload_n (pc := 34) (i := 0) dD_through_34 rfl rfl ?_
    refine Ev.iload_n (pc := 35) (i := 2) dD_through_35 rfl rfl ?_
    refine Ev.callV (pc := 36) dD_through_36 kv_D_175 ⟨Nat.le_of_ble_eq_true rfl, Nat.le_of_ble_eq_true rfl⟩ (wl_at (by decide) rfl) rfl rfl (ct_D_pass (C := C) (sy := sy) (Is := Is) (J := J) (c := c) (B := B) (q := t i) (fun j hj => (hI j hj).fr hF) (hB.fr hF) hc3 (by rw [hF.2.1 7 (by decide)]; exact hc) (fun a ha => by rw [hF.1 35 (by decide)]; exact hJ a ha) hJ3 (by omega) (by rw [hF.1 39 (by decide)]; exact t1) (by rw [hF.1 40 (by decide)]; exact t2) (by rw [hF.1 41 (by decide)]; exact t3) (hq i (by show i < n; omega)) hBB hch hR) rfl rfl (Nat.le_of_ble_eq_true rfl) ?_
    rintro _ _ ⟨v2, bb2, rfl, rfl, g, g2⟩
    refine Ev.istore_n (pc := 39) (i := 3) dD_through_39 rfl (Nat.le_of_ble_eq_true rfl) ?_
    refine Ev.iload_n (pc := 40) (i := 3) dD_through_40 rfl rfl ?_
    refine Ev.cif_le (nI_toInt (by omega)) (pc := 41) (tgt := 51) dD_through_41 rfl (fun h3 => ?_) (fun h3 => ?_)
    · have h4 : (smM C sy c (fun a => Is (J a)) (t i) (ch, x)).1 = 0 := by omega
      rw [if_pos h4] at he
      refine Ev.iinc (pc := 51) dD_through_51 rfl (cx_inc _) (Nat.le_of_ble_eq_true rfl) ?_
      refine Ev.goto (pc := 54) (tgt := 21) dD_through_54 rfl ?_
      exact ih hlt v2 bb2 _ _ _ (hF.tr g) (smM_ch hch) g2 (by rw [show cnt - (i + 1) = k by omega]; exact he)
    · have h4 : ¬ (smM C sy c (fun a => Is (J a)) (t i) (ch, x)).1 = 0 := by omega
      rw [if_neg h4] at he
      have e10 : (10 : Int32) * nI i + nI (smM C sy c (fun a => Is (J a)) (t i) (ch, x)).1 = nI (10 * i + (smM C sy c (fun a => Is (J a)) (t i) (ch, x)).1) := by
        rw [show (10 : Int32) = nI 10 by decide, pk_mul, nI_add]
      refine Ev.bipush (pc := 44) (v := 10) dD_through_44 (by decide) ?_
      refine Ev.iload_n (pc := 46) (i := 2) dD_through_46 rfl rfl ?_
      refine Ev.imul (pc := 47) dD_through_47 ?_
      refine Ev.iload_n (pc := 48) (i := 3) dD_through_48 rfl rfl ?_
      refine Ev.iadd (pc := 49) dD_through_49 ?_
      refine Ev.topi e10 ?_
      exact Ev.ireturn .int dD_through_50 rfl rfl ⟨v2, bb2, rfl, by rw [← he]; rfl, hF.tr g, by rw [← he]; exact g2.2.2.2.1, by rw [← he]; exact g2.2.2.2.2.1⟩
  exact loop 0 (Nat.zero_le _) _ _ 0 (15, 0, (fillM (v 30 0) (v 30 1) (b 43) 96)) none ((((mfr.rf.ub _).up (by decide) _).up (by decide) _).up (by decide) _) (Nat.zero_le _) ⟨by rw [sv_k (by decide), sv_eq]; rfl, fun _ => by rw [sv_k (by decide), sv_k (by decide), sv_eq], fun h => absurd h (by decide), by rw [sv_eq], up_at _ _ _, by show 15 < 320; decide⟩ rfl
end Mr2
