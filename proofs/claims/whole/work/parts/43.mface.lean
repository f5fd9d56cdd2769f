/-! The reference's cells hold a state; its face: bar to restart -/
def mpl (v : Nat → Nat → Int32) (n : Nat) (p t : Nat → Mv) (l : Nat) : Prop := v 30 10 = nI n ∧ v 30 17 = nI l ∧ (∀ i, i < n → v 36 i = nI (p i).1 ∧ v 37 i = nI (p i).2.1 ∧ v 38 i = nI (p i).2.2) ∧ ∀ i, i < n → v 39 i = nI (t i).1 ∧ v 40 i = nI (t i).2.1 ∧ v 41 i = nI (t i).2.2
def mbk (v : Nat → Nat → Int32) (S : Sg) : Prop := v 30 0 = sRd S ∧ v 30 1 = sLn S ∧ mb v (sC S) (sSy S)
def mjb (v : Nat → Nat → Int32) (S : Sg) : Prop := v 30 7 = nI (sc S) ∧ ∀ k, k < sc S → v 35 k = nI (sJ S k)
def mdl (v : Nat → Nat → Int32) (b : Nat → Nat → Bool) (S : Sg) : Prop := mbk v S ∧ (∀ j, j < 3 → mi v j (sK S j)) ∧ mjb v S ∧ b 30 9 = (sP S).isSome ∧ (sP S = none → v 30 10 = 0) ∧ (∀ n p t l, sP S = some (n, p, t, l) → mpl v n p t l) ∧ (b 30 18 = true → eqX (b 42) (sX S)) ∧ (b 30 18 = false → eqX (fillB (sRd S) (sLn S)) (sX S))
def mdQ (G : cx_G) (v : Nat → Nat → Int32) (b : Nat → Nat → Bool) (a : Option Value) (S : Sg) : Option Value → List va_E → Prop := fun x w' =>
  ∃ (v' : Nat → Nat → Int32) (b' : Nat → Nat → Bool), w' = wl G v' b' ∧ x = a ∧ mdl v' b' S ∧ ∀ p, p < 30 → v' p = v p ∧ b' p = b p
theorem mi.cg {v v' : Nat → Nat → Int32} {j : Nat} {I : Ins} (h : mi v j I) (h1 : v' 32 = v 32) (h2 : v' 33 = v 33) (h3 : v' 34 = v 34) : mi v' j I := ⟨by rw [h1]; exact h.1, h.2.1, fun i hi => by rw [h2, h3]; exact h.2.2 i hi⟩
theorem md_drop {v : Nat → Nat → Int32} {b : Nat → Nat → Bool} {S : Sg} (h1 : mbk v S) (h2 : ∀ j, j < 3 → mi v j (sK S j)) (h3 : mjb v S) : mdl (sv v 30 10 0) (sb (sb b 30 9 false) 30 18 false) (drp S) := by
  refine ⟨⟨by rw [sv_k (by decide)]; exact h1.1, by rw [sv_k (by decide)]; exact h1.2.1, by rw [sv_k (by decide)]; exact h1.2.2.1, fun z hz => by rw [sv_p (by decide)]; exact h1.2.2.2 z hz⟩, fun j hj => (h2 j hj).cg (sv_p (by decide)) (sv_p (by decide)) (sv_p (by decide)), ⟨by rw [sv_k (by decide)]; exact h3.1, fun k hk => by rw [sv_p (by decide)]; exact h3.2 k hk⟩, ?_, fun _ => sv_eq, fun n p t l e => (by cases e), fun e => ?_, fun _ => fill_eqX.sy⟩
  · rw [sb_k (by decide), sb_eq]; rfl
  · rw [sb_eq] at e; cases e
section Mf
variable {G : cx_G} {v : Nat → Nat → Int32} {b : Nat → Nat → Bool}
theorem dv_fr {p : Nat} (hp : p < 30) : sv v 30 10 0 p = v p := sv_p (by omega)
theorem db_fr {p : Nat} (hp : p < 30) : sb (sb b 30 9 false) 30 18 false p = b p := by rw [sb_p (by omega), sb_p (by omega)]
set_option maxHeartbeats 4000000 in
set_option maxRecDepth 100000 in
theorem ct_D_bar {S : Sg} (h : mdl v b S) (r l c : Int32) : Ct G mD_bar [.ref (cxa G 30), .int r, .int l, .int c] (wl G v b) (mdQ G v b (some (.int (bI (barQ r l c)))) (oBar S r l c)) := by
  have no : barQ r l c = false → Ev G mD_bar 32 [some (.ref (cxa G 30)), some (.int r), some (.int l), some (.int c)] [] (wl G v b) (cx_e G mD_bar (mdQ G v b (some (.int (bI (barQ r l c)))) (oBar S r l c))) := by
    intro hq
    refine Ev.iconst (pc := 32) (v := 0) dD_bar_32 (by decide) ?_
    exact Ev.zreturn (b := false) dD_bar_33 rfl (⟨v, b, rfl, by rw [hq], by rw [oBar, if_f hq]; exact h, fun _ _ => ⟨rfl, rfl⟩⟩)
  have yes : barQ r l c = true → Ev G mD_bar 34 [some (.ref (cxa G 30)), some (.int r), some (.int l), some (.int c)] [] (wl G v b) (cx_e G mD_bar (mdQ G v b (some (.int (bI (barQ r l c)))) (oBar S r l c))) := by
    intro hq
    refine Ev.aload_n (pc := 34) (i := 0) dD_bar_34 rfl rfl ?_
    refine Ev.iload_n (pc := 35) (i := 1) dD_bar_35 rfl rfl ?_
    refine Ev.puti (pc := 36) dD_bar_36 fl_D_7 fp_D_radius (by omega) (rfl) rfl (Nat.le_of_ble_eq_true rfl) ?_
    refine Ev.aload_n (pc := 39) (i := 0) dD_bar_39 rfl rfl ?_
    refine Ev.iload_n (pc := 40) (i := 2) dD_bar_40 rfl rfl ?_
    refine Ev.puti (pc := 41) dD_bar_41 fl_D_13 fp_D_length (by omega) (rfl) rfl (Nat.le_of_ble_eq_true rfl) ?_
    refine Ev.aload_n (pc := 44) (i := 0) dD_bar_44 rfl rfl ?_
    refine Ev.iload_n (pc := 45) (i := 3) dD_bar_45 rfl rfl ?_
    refine Ev.puti (pc := 46) dD_bar_46 fl_D_16 fp_D_chuck (by omega) (rfl) rfl (Nat.le_of_ble_eq_true rfl) ?_
    refine Ev.aload_n (pc := 49) (i := 0) dD_bar_49 rfl rfl ?_
    refine Ev.callV (pc := 50) dD_bar_50 kv_D_79 ⟨Nat.le_of_ble_eq_true rfl, Nat.le_of_ble_eq_true rfl⟩ (wl_at (by decide) rfl) rfl rfl (ct_D_drop) rfl rfl (Nat.le_of_ble_eq_true rfl) ?_
    rintro _ _ ⟨rfl, rfl⟩
    refine Ev.iconst (pc := 53) (v := 1) dD_bar_53 (by decide) ?_
    refine Ev.zreturn (b := true) dD_bar_54 rfl ⟨_, _, rfl, by rw [hq], ?_, fun p hp => ⟨by rw [dv_fr hp, sv_p (by omega), sv_p (by omega), sv_p (by omega)], db_fr hp⟩⟩
    rw [oBar, if_t hq]
    exact md_drop ⟨by rw [sv_k (by decide), sv_k (by decide), sv_eq], by rw [sv_k (by decide), sv_eq], by rw [sv_eq], fun z hz => by rw [sv_p (by decide), sv_p (by decide), sv_p (by decide)]; exact h.1.2.2.2 z hz⟩ (fun j hj => (h.2.1 j hj).cg (by rw [sv_p (by decide), sv_p (by decide), sv_p (by decide)]) (by rw [sv_p (by decide), sv_p (by decide), sv_p (by decide)]) (by rw [sv_p (by decide), sv_p (by decide), sv_p (by decide)])) ⟨by rw [sv_k (by decide), sv_k (by decide), sv_k (by decide)]; exact h.2.2.1.1, fun k hk => by rw [sv_p (by decide), sv_p (by decide), sv_p (by decide)]; exact h.2.2.1.2 k hk⟩
  refine Ct.of (by decide) rfl rfl (Nat.le_of_ble_eq_true rfl) ?_
  refine Ev.iload_n (pc := 0) (i := 1) dD_bar_0 rfl rfl ?_
  refine Ev.iconst (pc := 1) (v := 1) dD_bar_1 (by decide) ?_
  refine Ev.cicmp_lt (rfl) ((show (1 : Int32).toInt = 1 from by decide)) (pc := 2) (tgt := 32) dD_bar_2 rfl (fun h1 => ?_) (fun h1 => ?_)
  · exact no (bf (fun q => by have := of_decide_eq_true q; omega))
  refine Ev.iload_n (pc := 5) (i := 1) dD_bar_5 rfl rfl ?_
  refine Ev.bipush (pc := 6) (v := 8) dD_bar_6 (by decide) ?_
  refine Ev.cicmp_gt (rfl) ((show (8 : Int32).toInt = 8 from by decide)) (pc := 8) (tgt := 32) dD_bar_8 rfl (fun h2 => ?_) (fun h2 => ?_)
  · exact no (bf (fun q => by have := of_decide_eq_true q; omega))
  refine Ev.iload_n (pc := 11) (i := 2) dD_bar_11 rfl rfl ?_
  refine Ev.iconst (pc := 12) (v := 1) dD_bar_12 (by decide) ?_
  refine Ev.cicmp_lt (rfl) ((show (1 : Int32).toInt = 1 from by decide)) (pc := 13) (tgt := 32) dD_bar_13 rfl (fun h3 => ?_) (fun h3 => ?_)
  · exact no (bf (fun q => by have := of_decide_eq_true q; omega))
  refine Ev.iload_n (pc := 16) (i := 2) dD_bar_16 rfl rfl ?_
  refine Ev.bipush (pc := 17) (v := 12) dD_bar_17 (by decide) ?_
  refine Ev.cicmp_gt (rfl) ((show (12 : Int32).toInt = 12 from by decide)) (pc := 19) (tgt := 32) dD_bar_19 rfl (fun h4 => ?_) (fun h4 => ?_)
  · exact no (bf (fun q => by have := of_decide_eq_true q; omega))
  refine Ev.iload_n (pc := 22) (i := 3) dD_bar_22 rfl rfl ?_
  refine Ev.cif_lt (rfl) (pc := 23) (tgt := 32) dD_bar_23 rfl (fun h5 => ?_) (fun h5 => ?_)
  · exact no (bf (fun q => by have := of_decide_eq_true q; omega))
  refine Ev.iload_n (pc := 26) (i := 3) dD_bar_26 rfl rfl ?_
  refine Ev.bipush (pc := 27) (v := 12) dD_bar_27 (by decide) ?_
  refine Ev.cicmp_le (rfl) ((show (12 : Int32).toInt = 12 from by decide)) (pc := 29) (tgt := 34) dD_bar_29 rfl (fun h6 => ?_) (fun h6 => ?_)
  · exact yes (decide_eq_true (by omega))
  exact no (bf (fun q => by have := of_decide_eq_true q; omega))
set_option maxHeartbeats 4000000 in
set_option maxRecDepth 100000 in
theorem ct_D_profile {S : Sg} (h : mdl v b S) (z r : Int32) : Ct G mD_profile [.ref (cxa G 30), .int z, .int r] (wl G v b) (mdQ G v b (some (.int (bI (proQ z r)))) (oPro S z r)) := by
  have no : proQ z r = false → Ev G mD_profile 20 [some (.ref (cxa G 30)), some (.int z), some (.int r)] [] (wl G v b) (cx_e G mD_profile (mdQ G v b (some (.int (bI (proQ z r)))) (oPro S z r))) := by
    intro hq
    refine Ev.iconst (pc := 20) (v := 0) dD_profile_20 (by decide) ?_
    exact Ev.zreturn (b := false) dD_profile_21 rfl (⟨v, b, rfl, by rw [hq], by rw [oPro, if_f hq]; exact h, fun _ _ => ⟨rfl, rfl⟩⟩)
  have yes : proQ z r = true → Ev G mD_profile 22 [some (.ref (cxa G 30)), some (.int z), some (.int r)] [] (wl G v b) (cx_e G mD_profile (mdQ G v b (some (.int (bI (proQ z r)))) (oPro S z r))) := by
    intro hq
    have hz := of_decide_eq_true hq
    refine Ev.aload_n (pc := 22) (i := 0) dD_profile_22 rfl rfl ?_
    refine Ev.gf (pc := 23) dD_profile_23 fl_D_19 (by omega) (rfl) rfl ?_
    refine Ev.iload_n (pc := 26) (i := 1) dD_profile_26 rfl rfl ?_
    refine Ev.iload_n (pc := 27) (i := 2) dD_profile_27 rfl rfl ?_
    refine Ev.astx (pc := 28) dD_profile_28 (by omega) (by first | exact fun _ _ => rfl | exact cell_dz hj | exact cell_dr hj | exact cell_mr hk | exact cell_sr hk) (by omega) (by omega) (by decide) ?_
    refine Ev.aload_n (pc := 29) (i := 0) dD_profile_29 rfl rfl ?_
    refine Ev.callV (pc := 30) dD_profile_30 kv_D_79 ⟨Nat.le_of_ble_eq_true rfl, Nat.le_of_ble_eq_true rfl⟩ (wl_at (by decide) rfl) rfl rfl (ct_D_drop) rfl rfl (Nat.le_of_ble_eq_true rfl) ?_
    rintro _ _ ⟨rfl, rfl⟩
    refine Ev.iconst (pc := 33) (v := 1) dD_profile_33 (by decide) ?_
    refine Ev.zreturn (b := true) dD_profile_34 rfl ⟨_, _, rfl, by rw [hq], ?_, fun p hp => ⟨by rw [dv_fr hp, sv_p (by omega)], db_fr hp⟩⟩
    rw [oPro, if_t hq]
    refine md_drop ⟨by rw [sv_p (by decide)]; exact h.1.1, by rw [sv_p (by decide)]; exact h.1.2.1, by rw [sv_p (by decide)]; exact h.1.2.2.1, fun a ha => ?_⟩ (fun j hj => (h.2.1 j hj).cg (sv_p (by decide)) (sv_p (by decide)) (sv_p (by decide))) ⟨by rw [sv_p (by decide)]; exact h.2.2.1.1, fun k hk => by rw [sv_p (by decide)]; exact h.2.2.1.2 k hk⟩
    show sv v 31 z.toInt.toNat r 31 a = va_up (sSy S) z.toInt.toNat r a
    by_cases e : a = z.toInt.toNat
    · rw [e, sv_eq, up_at]
    · rw [sv_k e, up_ne e]
      exact h.1.2.2.2 a ha
  refine Ct.of (by decide) rfl rfl (Nat.le_of_ble_eq_true rfl) ?_
  refine Ev.iload_n (pc := 0) (i := 1) dD_profile_0 rfl rfl ?_
  refine Ev.cif_lt (rfl) (pc := 1) (tgt := 20) dD_profile_1 rfl (fun h1 => ?_) (fun h1 => ?_)
  · exact no (bf (fun q => by have := of_decide_eq_true q; omega))
  refine Ev.iload_n (pc := 4) (i := 1) dD_profile_4 rfl rfl ?_
  refine Ev.bipush (pc := 5) (v := 11) dD_profile_5 (by decide) ?_
  refine Ev.cicmp_gt (rfl) ((show (11 : Int32).toInt = 11 from by decide)) (pc := 7) (tgt := 20) dD_profile_7 rfl (fun h2 => ?_) (fun h2 => ?_)
  · exact no (bf (fun q => by have := of_decide_eq_true q; omega))
  refine Ev.iload_n (pc := 10) (i := 2) dD_profile_10 rfl rfl ?_
  refine Ev.cif_lt (rfl) (pc := 11) (tgt := 20) dD_profile_11 rfl (fun h3 => ?_) (fun h3 => ?_)
  · exact no (bf (fun q => by have := of_decide_eq_true q; omega))
  refine Ev.iload_n (pc := 14) (i := 2) dD_profile_14 rfl rfl ?_
  refine Ev.bipush (pc := 15) (v := 8) dD_profile_15 (by decide) ?_
  refine Ev.cicmp_le (rfl) ((show (8 : Int32).toInt = 8 from by decide)) (pc := 17) (tgt := 22) dD_profile_17 rfl (fun h4 => ?_) (fun h4 => ?_)
  · exact yes (decide_eq_true (by omega))
  exact no (bf (fun q => by have := of_decide_eq_true q; omega))
set_option maxHeartbeats 4000000 in
set_option maxRecDepth 100000 in
theorem ct_D_spot {S : Sg} (h : mdl v b S) (i x y : Int32) : Ct G mD_spot [.ref (cxa G 30), .int i, .int x, .int y] (wl G v b) (mdQ G v b (some (.int (bI (spoQ S i x y)))) (oSpo S i x y)) := by
  have no : spoQ S i x y = false → Ev G mD_spot 38 [some (.ref (cxa G 30)), some (.int i), some (.int x), some (.int y), none, none] [] (wl G v b) (cx_e G mD_spot (mdQ G v b (some (.int (bI (spoQ S i x y)))) (oSpo S i x y))) := by
    intro hq
    refine Ev.iconst (pc := 38) (v := 0) dD_spot_38 (by decide) ?_
    exact Ev.zreturn (b := false) dD_spot_39 rfl (⟨v, b, rfl, by rw [hq], by rw [oSpo, if_f hq]; exact h, fun _ _ => ⟨rfl, rfl⟩⟩)
  have mid : insB i = true → (-2 ≤ x.toInt ∧ x.toInt ≤ 2 ∧ 0 ≤ y.toInt ∧ y.toInt ≤ 4) → Ev G mD_spot 27 [some (.ref (cxa G 30)), some (.int i), some (.int x), some (.int y), none, none] [] (wl G v b) (cx_e G mD_spot (mdQ G v b (some (.int (bI (spoQ S i x y)))) (oSpo S i x y))) := by
    intro hi hb
    obtain ⟨ei, hj⟩ := insB_nat hi
    generalize hje : i.toInt.toNat = j at ei hj
    subst ei
    obtain ⟨hn, h8, hd⟩ := h.2.1 j hj
    have hnI : (v 32 j).toInt = ((sK S j).1 : Int) := by rw [hn]; exact nI_toInt (by omega)
    refine Ev.aload_n (pc := 27) (i := 0) dD_spot_27 rfl rfl ?_
    refine Ev.gf (pc := 28) dD_spot_28 fl_D_23 (by omega) (rfl) rfl ?_
    refine Ev.iload_n (pc := 31) (i := 1) dD_spot_31 rfl rfl ?_
    refine Ev.aldi (pc := 32) dD_spot_32 (by omega) (by first | exact fun _ _ => rfl | exact cell_dz hj | exact cell_dr hj | exact cell_mr hk | exact cell_sr hk) _ (rfl) (by omega) (by decide) ?_
    refine Ev.bipush (pc := 33) (v := 8) dD_spot_33 (by decide) ?_
    refine Ev.cicmp_ne (hnI) ((show (8 : Int32).toInt = 8 from by decide)) (pc := 35) (tgt := 40) dD_spot_35 rfl (fun h1 => ?_) (fun h1 => ?_)
    · have h8' : (sK S j).1 < 8 := by omega
      refine Ev.iconst (pc := 40) (v := 0) dD_spot_40 (by decide) ?_
      refine Ev.istore (pc := 41) dD_spot_41 (Nat.le_of_ble_eq_true rfl) ?_
      refine Ev.bipush (pc := 43) (v := 8) dD_spot_43 (by decide) ?_
      refine Ev.iload_n (pc := 45) (i := 1) dD_spot_45 rfl rfl ?_
      refine Ev.imul (pc := 46) dD_spot_46 ?_
      refine Ev.topi (m8 j) ?_
      refine Ev.istore (pc := 47) dD_spot_47 (Nat.le_of_ble_eq_true rfl) ?_
      have hq0 : spoQ S (nI j) x y = !anyB (sK S j).1 (spotB (sK S j).2.1 (sK S j).2.2 x y) := by
        unfold spoQ
        rw [hje, hi, decide_eq_true hb, decide_eq_true h8']
        rfl
      have loop : ∀ a, a ≤ (sK S j).1 → Ev G mD_spot 49 [some (.ref (cxa G 30)), some (.int (nI j)), some (.int x), some (.int y), some (.int (bI (anyB a (spotB (sK S j).2.1 (sK S j).2.2 x y)))), some (.int (nI (8 * j + a)))] [] (wl G v b) (cx_e G mD_spot (mdQ G v b (some (.int (bI (spoQ S (nI j) x y)))) (oSpo S (nI j) x y))) := by
        refine loopN (fun a ha ih => ?_)
        refine Ev.iload (pc := 49) dD_spot_49 rfl ?_
        refine Ev.bipush (pc := 51) (v := 8) dD_spot_51 (by decide) ?_
        refine Ev.iload_n (pc := 53) (i := 1) dD_spot_53 rfl rfl ?_
        refine Ev.imul (pc := 54) dD_spot_54 ?_
        refine Ev.topi (m8 j) ?_
        refine Ev.aload_n (pc := 55) (i := 0) dD_spot_55 rfl rfl ?_
        refine Ev.gf (pc := 56) dD_spot_56 fl_D_23 (by omega) (rfl) rfl ?_
        refine Ev.iload_n (pc := 59) (i := 1) dD_spot_59 rfl rfl ?_
        refine Ev.aldi (pc := 60) dD_spot_60 (by omega) (by first | exact fun _ _ => rfl | exact cell_dz hj | exact cell_dr hj | exact cell_mr hk | exact cell_sr hk) _ (rfl) (by omega) (by decide) ?_
        refine Ev.topi hn ?_
        refine Ev.iadd (pc := 61) dD_spot_61 ?_
        refine Ev.topi (nI_add _ _) ?_
        refine Ev.cicmp_ge (nI_toInt (by omega)) (nI_toInt (by omega)) (pc := 62) (tgt := 105) dD_spot_62 rfl (fun h2 => ?_) (fun h2 => ?_)
        · have e : a = (sK S j).1 := by omega
          subst e
          refine Ev.iload (pc := 105) dD_spot_105 rfl ?_
          refine Ev.if_eqB (pc := 107) (tgt := 112) dD_spot_107 rfl (fun h3 => ?_) (fun h3 => ?_)
          · have hq : spoQ S (nI j) x y = true := by rw [hq0, h3]; rfl
            refine Ev.aload_n (pc := 112) (i := 0) dD_spot_112 rfl rfl ?_
            refine Ev.gf (pc := 113) dD_spot_113 fl_D_26 (by omega) (rfl) rfl ?_
            refine Ev.bipush (pc := 116) (v := 8) dD_spot_116 (by decide) ?_
            refine Ev.iload_n (pc := 118) (i := 1) dD_spot_118 rfl rfl ?_
            refine Ev.imul (pc := 119) dD_spot_119 ?_
            refine Ev.topi (m8 j) ?_
            refine Ev.aload_n (pc := 120) (i := 0) dD_spot_120 rfl rfl ?_
            refine Ev.gf (pc := 121) dD_spot_121 fl_D_23 (by omega) (rfl) rfl ?_
            refine Ev.iload_n (pc := 124) (i := 1) dD_spot_124 rfl rfl ?_
            refine Ev.aldi (pc := 125) dD_spot_125 (by omega) (by first | exact fun _ _ => rfl | exact cell_dz hj | exact cell_dr hj | exact cell_mr hk | exact cell_sr hk) _ (rfl) (by omega) (by decide) ?_
            refine Ev.topi hn ?_
            refine Ev.iadd (pc := 126) dD_spot_126 ?_
            refine Ev.topi (nI_add _ _) ?_
            refine Ev.iload_n (pc := 127) (i := 2) dD_spot_127 rfl rfl ?_
            refine Ev.asti (pc := 128) dD_spot_128 (by omega) (by first | exact fun _ _ => rfl | exact cell_dz hj | exact cell_dr hj | exact cell_mr hk | exact cell_sr hk) _ (rfl) (by omega) (by decide) ?_
            refine Ev.aload_n (pc := 129) (i := 0) dD_spot_129 rfl rfl ?_
            refine Ev.gf (pc := 130) dD_spot_130 fl_D_29 (by omega) (rfl) rfl ?_
            refine Ev.bipush (pc := 133) (v := 8) dD_spot_133 (by decide) ?_
            refine Ev.iload_n (pc := 135) (i := 1) dD_spot_135 rfl rfl ?_
            refine Ev.imul (pc := 136) dD_spot_136 ?_
            refine Ev.topi (m8 j) ?_
            refine Ev.aload_n (pc := 137) (i := 0) dD_spot_137 rfl rfl ?_
            refine Ev.gf (pc := 138) dD_spot_138 fl_D_23 (by omega) (rfl) rfl ?_
            refine Ev.iload_n (pc := 141) (i := 1) dD_spot_141 rfl rfl ?_
            refine Ev.aldi (pc := 142) dD_spot_142 (by omega) (by first | exact fun _ _ => rfl | exact cell_dz hj | exact cell_dr hj | exact cell_mr hk | exact cell_sr hk) _ (rfl) (by omega) (by decide) ?_
            refine Ev.topi (y := nI (sK S j).1) (by rw [sv_p (by decide)]; exact hn) ?_
            refine Ev.iadd (pc := 143) dD_spot_143 ?_
            refine Ev.topi (nI_add _ _) ?_
            refine Ev.iload_n (pc := 144) (i := 3) dD_spot_144 rfl rfl ?_
            refine Ev.asti (pc := 145) dD_spot_145 (by omega) (by first | exact fun _ _ => rfl | exact cell_dz hj | exact cell_dr hj | exact cell_mr hk | exact cell_sr hk) _ (rfl) (by omega) (by decide) ?_
            refine Ev.aload_n (pc := 146) (i := 0) dD_spot_146 rfl rfl ?_
            refine Ev.gf (pc := 147) dD_spot_147 fl_D_23 (by omega) (rfl) rfl ?_
            refine Ev.iload_n (pc := 150) (i := 1) dD_spot_150 rfl rfl ?_
            refine Ev.aload_n (pc := 151) (i := 0) dD_spot_151 rfl rfl ?_
            refine Ev.gf (pc := 152) dD_spot_152 fl_D_23 (by omega) (rfl) rfl ?_
            refine Ev.iload_n (pc := 155) (i := 1) dD_spot_155 rfl rfl ?_
            refine Ev.aldi (pc := 156) dD_spot_156 (by omega) (by first | exact fun _ _ => rfl | exact cell_dz hj | exact cell_dr hj | exact cell_mr hk | exact cell_sr hk) _ (rfl) (by omega) (by decide) ?_
            refine Ev.topi (y := nI (sK S j).1) (by rw [sv_p (by decide), sv_p (by decide)]; exact hn) ?_
            refine Ev.iconst (pc := 157) (v := 1) dD_spot_157 (by decide) ?_
            refine Ev.iadd (pc := 158) dD_spot_158 ?_
            refine Ev.topi (nI_succ _).symm ?_
            refine Ev.asti (pc := 159) dD_spot_159 (by omega) (by first | exact fun _ _ => rfl | exact cell_dz hj | exact cell_dr hj | exact cell_mr hk | exact cell_sr hk) _ (rfl) (by omega) (by decide) ?_
            refine Ev.aload_n (pc := 160) (i := 0) dD_spot_160 rfl rfl ?_
            refine Ev.callV (pc := 161) dD_spot_161 kv_D_79 ⟨Nat.le_of_ble_eq_true rfl, Nat.le_of_ble_eq_true rfl⟩ (wl_at (by decide) rfl) rfl rfl (ct_D_drop) rfl rfl (Nat.le_of_ble_eq_true rfl) ?_
            rintro _ _ ⟨rfl, rfl⟩
            refine Ev.iconst (pc := 164) (v := 1) dD_spot_164 (by decide) ?_
            refine Ev.zreturn (b := true) dD_spot_165 rfl ⟨_, _, rfl, by rw [hq], ?_, fun p hp => ⟨by rw [dv_fr hp, sv_p (by omega), sv_p (by omega), sv_p (by omega)], db_fr hp⟩⟩
            rw [oSpo, if_t hq, hje]
            refine md_drop ⟨by rw [sv_p (by decide), sv_p (by decide), sv_p (by decide)]; exact h.1.1, by rw [sv_p (by decide), sv_p (by decide), sv_p (by decide)]; exact h.1.2.1, by rw [sv_p (by decide), sv_p (by decide), sv_p (by decide)]; exact h.1.2.2.1, fun a ha => by rw [sv_p (by decide), sv_p (by decide), sv_p (by decide)]; exact h.1.2.2.2 a ha⟩ (fun j' hj' => ?_) ⟨by rw [sv_p (by decide), sv_p (by decide), sv_p (by decide)]; exact h.2.2.1.1, fun k hk => by rw [sv_p (by decide), sv_p (by decide), sv_p (by decide)]; exact h.2.2.1.2 k hk⟩
            have f33 : sv (sv (sv v 33 (8 * j + (sK S j).1) x) 34 (8 * j + (sK S j).1) y) 32 j (nI ((sK S j).1 + 1)) 33 = va_up (v 33) (8 * j + (sK S j).1) x := by rw [sv_p (by decide), sv_p (by decide), sv, up_at]
            have f34 : sv (sv (sv v 33 (8 * j + (sK S j).1) x) 34 (8 * j + (sK S j).1) y) 32 j (nI ((sK S j).1 + 1)) 34 = va_up (v 34) (8 * j + (sK S j).1) y := by rw [sv_p (by decide), sv, up_at, sv_p (by decide)]
            show mi _ j' (va_up (sK S) j (addI (sK S j) x y) j')
            obtain ⟨hn', h8'', hd'⟩ := h.2.1 j' hj'
            by_cases e : j' = j
            · subst e
              rw [up_at]
              refine ⟨by rw [sv_eq]; rfl, by show (sK S j').1 + 1 ≤ 8; omega, fun a ha => ?_⟩
              have ha : a < (sK S j').1 + 1 := ha
              rw [f33, f34]
              show va_up (v 33) (8 * j' + (sK S j').1) x (8 * j' + a) = va_up (sK S j').2.1 (sK S j').1 x a ∧ va_up (v 34) (8 * j' + (sK S j').1) y (8 * j' + a) = va_up (sK S j').2.2 (sK S j').1 y a
              by_cases ea : a = (sK S j').1
              · rw [ea, up_at, up_at, up_at, up_at]
                exact ⟨rfl, rfl⟩
              · rw [up_ne ea, up_ne ea, up_ne (by omega), up_ne (by omega)]
                exact hd' a (by omega)
            · rw [up_ne e]
              refine ⟨by rw [sv_k e, sv_p (by decide), sv_p (by decide)]; exact hn', h8'', fun a ha => ?_⟩
              rw [f33, f34, up_ne (by omega), up_ne (by omega)]
              exact hd' a ha
          · have hq : spoQ S (nI j) x y = false := by rw [hq0, h3]; rfl
            refine Ev.iconst (pc := 110) (v := 0) dD_spot_110 (by decide) ?_
            exact Ev.zreturn (b := false) dD_spot_111 rfl (⟨v, b, rfl, by rw [hq], by rw [oSpo, if_f hq]; exact h, fun _ _ => ⟨rfl, rfl⟩⟩)
        have hlt : a < (sK S j).1 := by omega
        have ih := ih hlt
        obtain ⟨d1, d2⟩ := hd a hlt
        have fin : ∀ q : Bool, (anyB a (spotB (sK S j).2.1 (sK S j).2.2 x y) || (spotB (sK S j).2.1 (sK S j).2.2 x y) a) = q → Ev G mD_spot 97 [some (.ref (cxa G 30)), some (.int (nI j)), some (.int x), some (.int y), some (.int (bI (anyB a (spotB (sK S j).2.1 (sK S j).2.2 x y)))), some (.int (nI (8 * j + a)))] [.int (bI q)] (wl G v b) (cx_e G mD_spot (mdQ G v b (some (.int (bI (spoQ S (nI j) x y)))) (oSpo S (nI j) x y))) := by
          intro q hx
          rw [anyB, hx] at ih
          refine Ev.istore (pc := 97) dD_spot_97 (Nat.le_of_ble_eq_true rfl) ?_
          refine Ev.iinc (pc := 99) dD_spot_99 rfl (cx_inc _) (Nat.le_of_ble_eq_true rfl) ?_
          refine Ev.goto (pc := 102) (tgt := 49) dD_spot_102 rfl ?_
          exact ih
        refine Ev.iload (pc := 65) dD_spot_65 rfl ?_
        refine Ev.if_neB (pc := 67) (tgt := 92) dD_spot_67 rfl (fun h3 => ?_) (fun h3 => ?_)
        · refine Ev.iconst (pc := 92) (v := 1) dD_spot_92 (by decide) ?_
          refine Ev.goto (pc := 93) (tgt := 97) dD_spot_93 rfl ?_
          exact fin true (by rw [h3]; rfl)
        refine Ev.aload_n (pc := 70) (i := 0) dD_spot_70 rfl rfl ?_
        refine Ev.gf (pc := 71) dD_spot_71 fl_D_26 (by omega) (rfl) rfl ?_
        refine Ev.iload (pc := 74) dD_spot_74 rfl ?_
        refine Ev.aldi (pc := 76) dD_spot_76 (by omega) (by first | exact fun _ _ => rfl | exact cell_dz hj | exact cell_dr hj | exact cell_mr hk | exact cell_sr hk) _ (rfl) (by omega) (by decide) ?_
        refine Ev.topi d1 ?_
        refine Ev.iload_n (pc := 77) (i := 2) dD_spot_77 rfl rfl ?_
        refine Ev.cicmp_ne (rfl) (rfl) (pc := 78) (tgt := 96) dD_spot_78 rfl (fun h4 => ?_) (fun h4 => ?_)
        · refine Ev.iconst (pc := 96) (v := 0) dD_spot_96 (by decide) ?_
          exact fin false (by rw [h3, bf (e := spotB _ _ x y a) (fun q => h4 (spotB_iff.mp q).1)]; rfl)
        refine Ev.aload_n (pc := 81) (i := 0) dD_spot_81 rfl rfl ?_
        refine Ev.gf (pc := 82) dD_spot_82 fl_D_29 (by omega) (rfl) rfl ?_
        refine Ev.iload (pc := 85) dD_spot_85 rfl ?_
        refine Ev.aldi (pc := 87) dD_spot_87 (by omega) (by first | exact fun _ _ => rfl | exact cell_dz hj | exact cell_dr hj | exact cell_mr hk | exact cell_sr hk) _ (rfl) (by omega) (by decide) ?_
        refine Ev.topi d2 ?_
        refine Ev.iload_n (pc := 88) (i := 3) dD_spot_88 rfl rfl ?_
        refine Ev.cicmp_ne (rfl) (rfl) (pc := 89) (tgt := 96) dD_spot_89 rfl (fun h5 => ?_) (fun h5 => ?_)
        · refine Ev.iconst (pc := 96) (v := 0) dD_spot_96 (by decide) ?_
          exact fin false (by rw [h3, bf (e := spotB _ _ x y a) (fun q => h5 (spotB_iff.mp q).2)]; rfl)
        · refine Ev.iconst (pc := 92) (v := 1) dD_spot_92 (by decide) ?_
          refine Ev.goto (pc := 93) (tgt := 97) dD_spot_93 rfl ?_
          exact fin true (by rw [h3, spotB_iff.mpr ⟨h4, h5⟩]; rfl)
      exact loop 0 (Nat.zero_le _)
    · exact no (bf (fun q => by have := (spoQ_iff.mp q).2.2.1; rw [hje] at this; omega))
  refine Ct.of (by decide) rfl rfl (Nat.le_of_ble_eq_true rfl) ?_
  refine Ev.iload_n (pc := 0) (i := 1) dD_spot_0 rfl rfl ?_
  refine Ev.callS (pc := 1) dD_spot_1 ks_D_82 ⟨Nat.le_of_ble_eq_true rfl, Nat.le_of_ble_eq_true rfl⟩ (ct_D_isInsert i) rfl rfl (Nat.le_of_ble_eq_true rfl) ?_
  rintro _ _ ⟨rfl, rfl⟩
  refine Ev.if_eqB (pc := 4) (tgt := 38) dD_spot_4 rfl (fun h1 => ?_) (fun h1 => ?_)
  · exact no (bf (fun q => by have := spoQ_iff.mp q; rw [this.1] at h1; first | (cases h1; done) | omega))
  refine Ev.iload_n (pc := 7) (i := 2) dD_spot_7 rfl rfl ?_
  refine Ev.bipush (pc := 8) (v := (-2)) dD_spot_8 (by decide) ?_
  refine Ev.cicmp_lt (rfl) ((show (-2 : Int32).toInt = -2 from by decide)) (pc := 10) (tgt := 38) dD_spot_10 rfl (fun h2 => ?_) (fun h2 => ?_)
  · exact no (bf (fun q => by have := spoQ_iff.mp q; rw [this.1] at h1; first | (cases h1; done) | omega))
  refine Ev.iload_n (pc := 13) (i := 2) dD_spot_13 rfl rfl ?_
  refine Ev.iconst (pc := 14) (v := 2) dD_spot_14 (by decide) ?_
  refine Ev.cicmp_gt (rfl) ((show (2 : Int32).toInt = 2 from by decide)) (pc := 15) (tgt := 38) dD_spot_15 rfl (fun h3 => ?_) (fun h3 => ?_)
  · exact no (bf (fun q => by have := spoQ_iff.mp q; rw [this.1] at h1; first | (cases h1; done) | omega))
  refine Ev.iload_n (pc := 18) (i := 3) dD_spot_18 rfl rfl ?_
  refine Ev.cif_lt (rfl) (pc := 19) (tgt := 38) dD_spot_19 rfl (fun h4 => ?_) (fun h4 => ?_)
  · exact no (bf (fun q => by have := spoQ_iff.mp q; rw [this.1] at h1; first | (cases h1; done) | omega))
  refine Ev.iload_n (pc := 22) (i := 3) dD_spot_22 rfl rfl ?_
  refine Ev.iconst (pc := 23) (v := 4) dD_spot_23 (by decide) ?_
  refine Ev.cicmp_gt (rfl) ((show (4 : Int32).toInt = 4 from by decide)) (pc := 24) (tgt := 38) dD_spot_24 rfl (fun h5 => ?_) (fun h5 => ?_)
  · exact no (bf (fun q => by have := spoQ_iff.mp q; rw [this.1] at h1; first | (cases h1; done) | omega))
  exact mid h1 (by omega)
set_option maxHeartbeats 4000000 in
set_option maxRecDepth 100000 in
theorem ct_D_clear {S : Sg} (h : mdl v b S) (i : Int32) : Ct G mD_clear [.ref (cxa G 30), .int i] (wl G v b) (mdQ G v b (some (.int (aClr S i))) (oClr S i)) := by
  refine Ct.of (by decide) rfl rfl (Nat.le_of_ble_eq_true rfl) ?_
  refine Ev.iload_n (pc := 0) (i := 1) dD_clear_0 rfl rfl ?_
  refine Ev.callS (pc := 1) dD_clear_1 ks_D_82 ⟨Nat.le_of_ble_eq_true rfl, Nat.le_of_ble_eq_true rfl⟩ (ct_D_isInsert i) rfl rfl (Nat.le_of_ble_eq_true rfl) ?_
  rintro _ _ ⟨rfl, rfl⟩
  refine Ev.if_neB (pc := 4) (tgt := 9) dD_clear_4 rfl (fun h1 => ?_) (fun h1 => ?_)
  · obtain ⟨ei, hj⟩ := insB_nat h1
    rw [aClr, if_t h1, oClr, if_t h1]
    generalize hje : i.toInt.toNat = j at ei hj
    subst ei
    obtain ⟨hn, h8, hd⟩ := h.2.1 j hj
    refine Ev.aload_n (pc := 9) (i := 0) dD_clear_9 rfl rfl ?_
    refine Ev.gf (pc := 10) dD_clear_10 fl_D_23 (by omega) (rfl) rfl ?_
    refine Ev.iload_n (pc := 13) (i := 1) dD_clear_13 rfl rfl ?_
    refine Ev.aldi (pc := 14) dD_clear_14 (by omega) (by first | exact fun _ _ => rfl | exact cell_dz hj | exact cell_dr hj | exact cell_mr hk | exact cell_sr hk) _ (rfl) (by omega) (by decide) ?_
    refine Ev.istore_n (pc := 15) (i := 2) dD_clear_15 rfl (Nat.le_of_ble_eq_true rfl) ?_
    refine Ev.aload_n (pc := 16) (i := 0) dD_clear_16 rfl rfl ?_
    refine Ev.gf (pc := 17) dD_clear_17 fl_D_23 (by omega) (rfl) rfl ?_
    refine Ev.iload_n (pc := 20) (i := 1) dD_clear_20 rfl rfl ?_
    refine Ev.iconst (pc := 21) (v := 0) dD_clear_21 (by decide) ?_
    refine Ev.asti (pc := 22) dD_clear_22 (by omega) (by first | exact fun _ _ => rfl | exact cell_dz hj | exact cell_dr hj | exact cell_mr hk | exact cell_sr hk) _ (rfl) (by omega) (by decide) ?_
    refine Ev.aload_n (pc := 23) (i := 0) dD_clear_23 rfl rfl ?_
    refine Ev.callV (pc := 24) dD_clear_24 kv_D_79 ⟨Nat.le_of_ble_eq_true rfl, Nat.le_of_ble_eq_true rfl⟩ (wl_at (by decide) rfl) rfl rfl (ct_D_drop) rfl rfl (Nat.le_of_ble_eq_true rfl) ?_
    rintro _ _ ⟨rfl, rfl⟩
    refine Ev.iload_n (pc := 27) (i := 2) dD_clear_27 rfl rfl ?_
    refine Ev.ireturn .int dD_clear_28 rfl rfl ⟨_, _, rfl, by rw [hn], ?_, fun p hp => ⟨by rw [dv_fr hp, sv_p (by omega)], db_fr hp⟩⟩
    refine md_drop ⟨by rw [sv_p (by decide)]; exact h.1.1, by rw [sv_p (by decide)]; exact h.1.2.1, by rw [sv_p (by decide)]; exact h.1.2.2.1, fun a ha => by rw [sv_p (by decide)]; exact h.1.2.2.2 a ha⟩ (fun j' hj' => ?_) ⟨by rw [sv_p (by decide)]; exact h.2.2.1.1, fun k hk => by rw [sv_p (by decide)]; exact h.2.2.1.2 k hk⟩
    show mi _ j' (va_up (sK S) j (0, (sK S j).2) j')
    by_cases e : j' = j
    · subst e
      rw [up_at]
      exact ⟨by rw [sv_eq]; rfl, Nat.zero_le _, fun a ha => absurd ha (by show ¬ a < 0; omega)⟩
    · rw [up_ne e]
      obtain ⟨hn', h8', hd'⟩ := h.2.1 j' hj'
      exact ⟨by rw [sv_k e]; exact hn', h8', fun a ha => by rw [sv_p (by decide), sv_p (by decide)]; exact hd' a ha⟩
  · refine Ev.iconst (pc := 7) (v := (-1)) dD_clear_7 (by decide) ?_
    exact Ev.ireturn .int dD_clear_8 rfl rfl (⟨v, b, rfl, by rw [aClr, if_f h1], by rw [oClr, if_f h1]; exact h, fun _ _ => ⟨rfl, rfl⟩⟩)
set_option maxHeartbeats 4000000 in
set_option maxRecDepth 100000 in
theorem ct_D_choose {S : Sg} (hg : gd S) (h : mdl v b S) (i : Int32) : Ct G mD_choose [.ref (cxa G 30), .int i] (wl G v b) (mdQ G v b (some (.int (aCho S i))) (oCho S i)) := by
  have hc := h.2.2.1.1
  have hc3 := hg.2.2.2.1.1
  have hcI : (v 30 7).toInt = (sc S : Int) := by rw [hc]; exact nI_toInt (by omega)
  have no : choQ S i = false → Ev G mD_choose 24 [some (.ref (cxa G 30)), some (.int i)] [] (wl G v b) (cx_e G mD_choose (mdQ G v b (some (.int (aCho S i))) (oCho S i))) := by
    intro hq
    refine Ev.iconst (pc := 24) (v := (-1)) dD_choose_24 (by decide) ?_
    exact Ev.ireturn .int dD_choose_25 rfl rfl (⟨v, b, rfl, by rw [aCho, if_f hq], by rw [oCho, if_f hq]; exact h, fun _ _ => ⟨rfl, rfl⟩⟩)
  refine Ct.of (by decide) rfl rfl (Nat.le_of_ble_eq_true rfl) ?_
  refine Ev.iload_n (pc := 0) (i := 1) dD_choose_0 rfl rfl ?_
  refine Ev.callS (pc := 1) dD_choose_1 ks_D_82 ⟨Nat.le_of_ble_eq_true rfl, Nat.le_of_ble_eq_true rfl⟩ (ct_D_isInsert i) rfl rfl (Nat.le_of_ble_eq_true rfl) ?_
  rintro _ _ ⟨rfl, rfl⟩
  refine Ev.if_eqB (pc := 4) (tgt := 24) dD_choose_4 rfl (fun h1 => ?_) (fun h1 => ?_)
  · exact no (bf (fun q => by have := choQ_iff.mp q; rw [this.1] at h1; cases h1))
  obtain ⟨ei, hj⟩ := insB_nat h1
  have ht : i.toInt.toNat < 3 := hj
  have hI := h.2.1 _ hj
  have hnI : (v 32 i.toInt.toNat).toInt = ((sK S i.toInt.toNat).1 : Int) := by rw [hI.1]; exact nI_toInt (by have := hI.2.1; omega)
  refine Ev.aload_n (pc := 7) (i := 0) dD_choose_7 rfl rfl ?_
  refine Ev.gf (pc := 8) dD_choose_8 fl_D_23 (by omega) (rfl) rfl ?_
  refine Ev.iload_n (pc := 11) (i := 1) dD_choose_11 rfl rfl ?_
  refine Ev.aldi (pc := 12) dD_choose_12 (by omega) (by first | exact fun _ _ => rfl | exact cell_dz hj | exact cell_dr hj | exact cell_mr hk | exact cell_sr hk) _ (ei) (by omega) (by decide) ?_
  refine Ev.cif_eq (hnI) (pc := 13) (tgt := 24) dD_choose_13 rfl (fun h2 => ?_) (fun h2 => ?_)
  · exact no (bf (fun q => by have := choQ_iff.mp q; omega))
  refine Ev.aload_n (pc := 16) (i := 0) dD_choose_16 rfl rfl ?_
  refine Ev.gf (pc := 17) dD_choose_17 fl_D_86 (by omega) (rfl) rfl ?_
  refine Ev.iconst (pc := 20) (v := 3) dD_choose_20 (by decide) ?_
  refine Ev.cicmp_ne (hcI) ((show (3 : Int32).toInt = 3 from by decide)) (pc := 21) (tgt := 26) dD_choose_21 rfl (fun h3 => ?_) (fun h3 => ?_)
  · have hq : choQ S i = true := choQ_iff.mpr ⟨h1, by omega, by omega⟩
    refine Ev.aload_n (pc := 26) (i := 0) dD_choose_26 rfl rfl ?_
    refine Ev.gf (pc := 27) dD_choose_27 fl_D_32 (by omega) (rfl) rfl ?_
    refine Ev.aload_n (pc := 30) (i := 0) dD_choose_30 rfl rfl ?_
    refine Ev.gf (pc := 31) dD_choose_31 fl_D_86 (by omega) (rfl) rfl ?_
    refine Ev.iload_n (pc := 34) (i := 1) dD_choose_34 rfl rfl ?_
    refine Ev.asti (pc := 35) dD_choose_35 (by omega) (by first | exact fun _ _ => rfl | exact cell_dz hj | exact cell_dr hj | exact cell_mr hk | exact cell_sr hk) _ (hc) (by omega) (by decide) ?_
    refine Ev.aload_n (pc := 36) (i := 0) dD_choose_36 rfl rfl ?_
    refine Ev.aload_n (pc := 37) (i := 0) dD_choose_37 rfl rfl ?_
    refine Ev.gf (pc := 38) dD_choose_38 fl_D_86 (by omega) (rfl) rfl ?_
    refine Ev.iconst (pc := 41) (v := 1) dD_choose_41 (by decide) ?_
    refine Ev.iadd (pc := 42) dD_choose_42 ?_
    refine Ev.topi (y := nI (sc S + 1)) (by rw [sv_p (by decide), hc]; exact (nI_succ _).symm) ?_
    refine Ev.puti (pc := 43) dD_choose_43 fl_D_86 fp_D_chosen (by omega) (rfl) rfl (Nat.le_of_ble_eq_true rfl) ?_
    refine Ev.aload_n (pc := 46) (i := 0) dD_choose_46 rfl rfl ?_
    refine Ev.callV (pc := 47) dD_choose_47 kv_D_79 ⟨Nat.le_of_ble_eq_true rfl, Nat.le_of_ble_eq_true rfl⟩ (wl_at (by decide) rfl) rfl rfl (ct_D_drop) rfl rfl (Nat.le_of_ble_eq_true rfl) ?_
    rintro _ _ ⟨rfl, rfl⟩
    refine Ev.aload_n (pc := 50) (i := 0) dD_choose_50 rfl rfl ?_
    refine Ev.gf (pc := 51) dD_choose_51 fl_D_86 (by omega) (rfl) rfl ?_
    refine Ev.ireturn .int dD_choose_54 rfl rfl ⟨_, _, rfl, by rw [aCho, if_t hq, sv_k (by decide), sv_eq], ?_, fun p hp => ⟨by rw [dv_fr hp, sv_p (by omega), sv_p (by omega)], db_fr hp⟩⟩
    rw [oCho, if_t hq]
    refine md_drop ⟨by rw [sv_k (by decide), sv_p (by decide)]; exact h.1.1, by rw [sv_k (by decide), sv_p (by decide)]; exact h.1.2.1, by rw [sv_k (by decide), sv_p (by decide)]; exact h.1.2.2.1, fun a ha => by rw [sv_p (by decide), sv_p (by decide)]; exact h.1.2.2.2 a ha⟩ (fun j' hj' => (h.2.1 j' hj').cg (by rw [sv_p (by decide), sv_p (by decide)]) (by rw [sv_p (by decide), sv_p (by decide)]) (by rw [sv_p (by decide), sv_p (by decide)])) ⟨by rw [sv_eq], fun k hk => ?_⟩
    show _ = nI (va_up (sJ S) (sc S) i.toInt.toNat k)
    rw [sv_p (by decide)]
    by_cases e : k = sc S
    · subst e
      rw [up_at, sv_eq]
      exact ei
    · rw [up_ne e, sv_k e]
      exact h.2.2.1.2 k (by have : k < sc S + 1 := hk; omega)
  · exact no (bf (fun q => by have := choQ_iff.mp q; omega))
set_option maxHeartbeats 4000000 in
set_option maxRecDepth 100000 in
theorem ct_D_restart {S : Sg} (h : mdl v b S) : Ct G mD_restart [.ref (cxa G 30)] (wl G v b) (mdQ G v b (some (.int (nI (sc S)))) (oRes S)) := by
  refine Ct.of (by decide) rfl rfl (Nat.le_of_ble_eq_true rfl) ?_
  refine Ev.aload_n (pc := 0) (i := 0) dD_restart_0 rfl rfl ?_
  refine Ev.gf (pc := 1) dD_restart_1 fl_D_86 (by omega) (rfl) rfl ?_
  refine Ev.istore_n (pc := 4) (i := 1) dD_restart_4 rfl (Nat.le_of_ble_eq_true rfl) ?_
  refine Ev.aload_n (pc := 5) (i := 0) dD_restart_5 rfl rfl ?_
  refine Ev.iconst (pc := 6) (v := 0) dD_restart_6 (by decide) ?_
  refine Ev.puti (pc := 7) dD_restart_7 fl_D_86 fp_D_chosen (by omega) (rfl) rfl (Nat.le_of_ble_eq_true rfl) ?_
  refine Ev.aload_n (pc := 10) (i := 0) dD_restart_10 rfl rfl ?_
  refine Ev.callV (pc := 11) dD_restart_11 kv_D_79 ⟨Nat.le_of_ble_eq_true rfl, Nat.le_of_ble_eq_true rfl⟩ (wl_at (by decide) rfl) rfl rfl (ct_D_drop) rfl rfl (Nat.le_of_ble_eq_true rfl) ?_
  rintro _ _ ⟨rfl, rfl⟩
  refine Ev.iload_n (pc := 14) (i := 1) dD_restart_14 rfl rfl ?_
  refine Ev.ireturn .int dD_restart_15 rfl rfl ⟨_, _, rfl, by rw [h.2.2.1.1], ?_, fun p hp => ⟨by rw [dv_fr hp, sv_p (by omega)], db_fr hp⟩⟩
  exact md_drop ⟨by rw [sv_k (by decide)]; exact h.1.1, by rw [sv_k (by decide)]; exact h.1.2.1, by rw [sv_k (by decide)]; exact h.1.2.2.1, fun a ha => by rw [sv_p (by decide)]; exact h.1.2.2.2 a ha⟩ (fun j hj => (h.2.1 j hj).cg (sv_p (by decide)) (sv_p (by decide)) (sv_p (by decide))) ⟨by rw [sv_eq]; rfl, fun k hk => absurd hk (by show ¬ k < 0; omega)⟩
end Mf
