/-! Ways: spreading, exploring -/
def insV (v : Nat → Nat → Int32) (j : Nat) (I : Ins) : Prop := v (4 + 3 * j) 0 = nI I.1 ∧ I.1 ≤ 8 ∧ v (5 + 3 * j) = I.2.1 ∧ v (6 + 3 * j) = I.2.2
theorem insV.fr {v v' : Nat → Nat → Int32} {j : Nat} {I : Ins} (h : insV v j I) (hj : j < 3) (hf : wFr v v') : insV v' j I :=
  ⟨by rw [hf _ (by omega) (by omega) (by omega) (by omega)]; exact h.1, h.2.1, by rw [hf _ (by omega) (by omega) (by omega) (by omega)]; exact h.2.2.1, by rw [hf _ (by omega) (by omega) (by omega) (by omega)]; exact h.2.2.2⟩
/-- all of a queue's growth -/
def spQ (G : cx_G) (v : Nat → Nat → Int32) (b : Nat → Nat → Bool) (ok ex : Nat → Bool) (s f i : Nat) (pos par dr : Nat → Nat) (w' : List va_E) : Prop :=
  ∃ (v' : Nat → Nat → Int32) (f' : Nat) (pos' par' dr' : Nat → Nat), w' = wl G v' b ∧ wFr v v' ∧ bq v' f' pos' par' dr' ∧ qg nxt ok ex s f' (i + 1) 0 pos' par' dr' ∧ f ≤ f' ∧ ∀ k, k < f → pos' k = pos k ∧ par' k = par k ∧ dr' k = dr k
section Spr
variable {G : cx_G} {v : Nat → Nat → Int32} {b : Nat → Nat → Bool}
set_option maxHeartbeats 4000000 in
set_option maxRecDepth 100000 in
theorem ct_W_spread {C : Int32} {sy : Nat → Int32} {I : Ins} {j s f i : Nat} {pos par dr : Nat → Nat} {ex : Nat → Bool} (hj : j < 3) (hI : insV v j I) (hC : v 1 2 = C) (hsy : v 2 = sy) (hb : bq v f pos par dr) (hg : qg nxt (okI C sy I) ex s f i 0 pos par dr) (hi : i < f) (he : ex (pos i) = true) : Ct G mW_spread [.ref (cxa G 23), .ref (cxa G (4 + 3 * j)), .int (nI (pos i))] (wl G v b) (fun x w' => x = none ∧ spQ G v b (okI C sy I) ex s f i pos par dr w') := by
  have hpi : pos i < 320 := (hb.2.2.1 i hi).1
  refine Ct.of (by decide) rfl rfl (Nat.le_of_ble_eq_true rfl) ?_
  refine Ev.iconst (pc := 0) (v := 0) dW_spread_0 (by decide) ?_
  refine Ev.istore_n (pc := 1) (i := 3) dW_spread_1 rfl (Nat.le_of_ble_eq_true rfl) ?_
  have loop : ∀ d, d ≤ 4 → ∀ (v' : Nat → Nat → Int32) (f' : Nat) (pos' par' dr' : Nat → Nat) (l4 l5 l6 : Option Value), wFr v v' → bq v' f' pos' par' dr' → qg nxt (okI C sy I) ex s f' i d pos' par' dr' → f ≤ f' → (∀ k, k < f → pos' k = pos k ∧ par' k = par k ∧ dr' k = dr k) → Ev G mW_spread 2 [some (.ref (cxa G 23)), some (.ref (cxa G (4 + 3 * j))), some (.int (nI (pos i))), some (.int (nI d)), l4, l5, l6] [] (wl G v' b) (cx_e G mW_spread (fun x w' => x = none ∧ spQ G v b (okI C sy I) ex s f i pos par dr w')) := by
    refine loopN (fun d hd ih v' f' pos' par' dr' l4 l5 l6 hF hb' hg' hff hag => ?_)
    have hpe : pos' i = pos i := (hag i hi).1
    have hI' := hI.fr hj hF
    have hC' : v' 1 2 = C := by rw [hF 1 (by decide) (by decide) (by decide) (by decide)]; exact hC
    have hsy' : v' 2 = sy := by rw [hF 2 (by decide) (by decide) (by decide) (by decide)]; exact hsy
    refine Ev.iload_n (pc := 2) (i := 3) dW_spread_2 rfl rfl ?_
    refine Ev.iconst (pc := 3) (v := 4) dW_spread_3 (by decide) ?_
    refine Ev.cicmp_ge (nI_toInt (by omega)) ((show (4 : Int32).toInt = 4 from by decide)) (pc := 4) (tgt := 129) dW_spread_4 rfl (fun h => ?_) (fun h => ?_)
    · have e : d = 4 := by omega
      subst e
      exact Ev.vreturn dW_spread_129 rfl ⟨rfl, v', f', pos', par', dr', rfl, hF, hb', hg'.turn (fun p d' q hq => (nxt_lt hq).2.2), hff, hag⟩
    have hd4 : d < 4 := by omega
    have ih := ih hd4
    refine Ev.iload_n (pc := 7) (i := 2) dW_spread_7 rfl rfl ?_
    refine Ev.callN (pc := 8) dW_spread_8 kn_W_37 ⟨Nat.le_of_ble_eq_true rfl, Nat.le_of_ble_eq_true rfl⟩ (ct_T_zOf _ hpi) rfl rfl (Nat.le_of_ble_eq_true rfl) ?_
    rintro _ _ ⟨rfl, rfl⟩
    refine Ev.getstatic (pc := 11) 0 (by decide) dW_spread_11 sl_W_56 ?_
    refine Ev.iload_n (pc := 14) (i := 3) dW_spread_14 rfl rfl ?_
    refine Ev.tload (pc := 15) dW_spread_15 (by decide) _ rfl (by omega) ?_
    refine Ev.iadd (pc := 16) dW_spread_16 ?_
    refine Ev.istore (pc := 17) dW_spread_17 (Nat.le_of_ble_eq_true rfl) ?_
    refine Ev.iload_n (pc := 19) (i := 2) dW_spread_19 rfl rfl ?_
    refine Ev.callN (pc := 20) dW_spread_20 kn_W_41 ⟨Nat.le_of_ble_eq_true rfl, Nat.le_of_ble_eq_true rfl⟩ (ct_T_rOf _ hpi) rfl rfl (Nat.le_of_ble_eq_true rfl) ?_
    rintro _ _ ⟨rfl, rfl⟩
    refine Ev.getstatic (pc := 23) 1 (by decide) dW_spread_23 sl_W_59 ?_
    refine Ev.iload_n (pc := 26) (i := 3) dW_spread_26 rfl rfl ?_
    refine Ev.tload (pc := 27) dW_spread_27 (by decide) _ rfl (by omega) ?_
    refine Ev.iadd (pc := 28) dW_spread_28 ?_
    refine Ev.istore (pc := 29) dW_spread_29 (Nat.le_of_ble_eq_true rfl) ?_
    refine Ev.iload (pc := 31) dW_spread_31 rfl ?_
    refine Ev.iload (pc := 33) dW_spread_33 rfl ?_
    cases hn : nxt (pos i) d with
    | none =>
      refine Ev.callN (pc := 35) dW_spread_35 kn_W_71 ⟨Nat.le_of_ble_eq_true rfl, Nat.le_of_ble_eq_true rfl⟩ (ct_T_isPosition _ _) rfl rfl (Nat.le_of_ble_eq_true rfl) ?_
      rintro _ _ ⟨rfl, rfl⟩
      refine Ev.if_eqB (pc := 38) (tgt := 123) dW_spread_38 rfl (fun h1 => ?_) (fun h1 => ?_)
      · refine Ev.iinc (pc := 123) dW_spread_123 rfl (cx_inc _) (Nat.le_of_ble_eq_true rfl) ?_
        refine Ev.goto (pc := 126) (tgt := 2) dW_spread_126 rfl ?_
        exact ih _ _ _ _ _ _ _ _ hF hb' (hg'.skip (fun q hq => by rw [hpe, hn] at hq; cases hq)) hff hag
      · rw [step_none hpi hd4 hn] at h1; cases h1
    | some q =>
      obtain ⟨e1, e2, e3⟩ := step_some hn
      have hq := (nxt_lt hn).2.1
      rw [e1, e2]
      refine Ev.callN (pc := 35) dW_spread_35 kn_W_71 ⟨Nat.le_of_ble_eq_true rfl, Nat.le_of_ble_eq_true rfl⟩ (ct_T_isPosition _ _) rfl rfl (Nat.le_of_ble_eq_true rfl) ?_
      rintro _ _ ⟨rfl, rfl⟩
      refine Ev.if_eqB (pc := 38) (tgt := 123) dW_spread_38 rfl (fun h1 => ?_) (fun h1 => ?_)
      · rw [e3] at h1; cases h1
      refine Ev.aload_n (pc := 41) (i := 0) dW_spread_41 rfl rfl ?_
      refine Ev.iload (pc := 42) dW_spread_42 rfl ?_
      refine Ev.iload (pc := 44) dW_spread_44 rfl ?_
      refine Ev.callN (pc := 46) dW_spread_46 kn_W_62 ⟨Nat.le_of_ble_eq_true rfl, Nat.le_of_ble_eq_true rfl⟩ (ct_T_positionOf _ _) rfl rfl (Nat.le_of_ble_eq_true rfl) ?_
      rintro _ _ ⟨rfl, rfl⟩
      refine Ev.topi (pos_i hq) ?_
      refine Ev.callV (pc := 49) dW_spread_49 kv_W_75 ⟨Nat.le_of_ble_eq_true rfl, Nat.le_of_ble_eq_true rfl⟩ (wl_at (by decide) rfl) rfl rfl (ct_W_isFound hq) rfl rfl (Nat.le_of_ble_eq_true rfl) ?_
      rintro _ _ ⟨rfl, rfl⟩
      refine Ev.if_neB (pc := 52) (tgt := 123) dW_spread_52 rfl (fun h2 => ?_) (fun h2 => ?_)
      · refine Ev.iinc (pc := 123) dW_spread_123 rfl (cx_inc _) (Nat.le_of_ble_eq_true rfl) ?_
        refine Ev.goto (pc := 126) (tgt := 2) dW_spread_126 rfl ?_
        refine ih _ _ _ _ _ _ _ _ hF hb' (hg'.skip (fun z hz _ => ?_)) hff hag
        rw [hpe, hn] at hz
        cases hz
        exact hb'.found hq h2
      refine Ev.aload_n (pc := 55) (i := 1) dW_spread_55 rfl rfl ?_
      refine Ev.aload_n (pc := 56) (i := 0) dW_spread_56 rfl rfl ?_
      refine Ev.gf (pc := 57) dW_spread_57 fl_W_25 (by omega) (rfl) rfl ?_
      refine Ev.iload (pc := 60) dW_spread_60 rfl ?_
      refine Ev.iload (pc := 62) dW_spread_62 rfl ?_
      refine Ev.callV (pc := 64) dW_spread_64 kv_W_79 ⟨Nat.le_of_ble_eq_true rfl, Nat.le_of_ble_eq_true rfl⟩ (wl_ins hj) rfl rfl (ct_I_isSafe hj hI'.1 hI'.2.1 _ _) rfl rfl (Nat.le_of_ble_eq_true rfl) ?_
      rintro _ _ ⟨rfl, rfl⟩
      rw [hC', hsy', hI'.2.2.1, hI'.2.2.2]
      refine Ev.if_eqB (pc := 67) (tgt := 123) dW_spread_67 rfl (fun h3 => ?_) (fun h3 => ?_)
      · refine Ev.iinc (pc := 123) dW_spread_123 rfl (cx_inc _) (Nat.le_of_ble_eq_true rfl) ?_
        refine Ev.goto (pc := 126) (tgt := 2) dW_spread_126 rfl ?_
        refine ih _ _ _ _ _ _ _ _ hF hb' (hg'.skip (fun z hz ho => ?_)) hff hag
        rw [hpe, hn] at hz
        cases hz
        rw [show okI C sy I q = false from h3] at ho
        cases ho
      have hno : ∀ k, k < f' → pos' k ≠ q := fun k hk e => by
        have := hb'.yes hk
        rw [e, h2] at this
        cases this
      have hnew := hg'.new (by omega) (by rw [hpe]; exact he) (by rw [hpe]; exact hn) h3 hno
      have hf' : f' + 1 ≤ 320 := pigeon 320 (f' + 1) (va_up pos' f' q) (fun k hk => by
        by_cases e : k = f'
        · rw [e, up_at]; exact hq
        · rw [up_ne e]; exact (hb'.2.2.1 k (by omega)).1) hnew.inj
      have hlen := (hb'.2.2.1 i (by omega)).2.2
      rw [hpe] at hlen
      refine Ev.iload (pc := 70) dW_spread_70 rfl ?_
      refine Ev.iload (pc := 72) dW_spread_72 rfl ?_
      refine Ev.callN (pc := 74) dW_spread_74 kn_W_62 ⟨Nat.le_of_ble_eq_true rfl, Nat.le_of_ble_eq_true rfl⟩ (ct_T_positionOf _ _) rfl rfl (Nat.le_of_ble_eq_true rfl) ?_
      rintro _ _ ⟨rfl, rfl⟩
      refine Ev.topi (pos_i hq) ?_
      refine Ev.istore (pc := 77) dW_spread_77 (Nat.le_of_ble_eq_true rfl) ?_
      refine Ev.aload_n (pc := 79) (i := 0) dW_spread_79 rfl rfl ?_
      refine Ev.gf (pc := 80) dW_spread_80 fl_W_15 (by omega) (rfl) rfl ?_
      refine Ev.iload (pc := 83) dW_spread_83 rfl ?_
      refine Ev.aload_n (pc := 85) (i := 0) dW_spread_85 rfl rfl ?_
      refine Ev.gf (pc := 86) dW_spread_86 fl_W_15 (by omega) (rfl) rfl ?_
      refine Ev.iload_n (pc := 89) (i := 2) dW_spread_89 rfl rfl ?_
      refine Ev.aldi (pc := 90) dW_spread_90 (by omega) (by first | exact fun _ _ => rfl | exact cell_dz hj | exact cell_dr hj | exact cell_mr hk | exact cell_sr hk) _ (rfl) (by omega) (by decide) ?_
      refine Ev.topi hlen ?_
      refine Ev.iconst (pc := 91) (v := 1) dW_spread_91 (by decide) ?_
      refine Ev.iadd (pc := 92) dW_spread_92 ?_
      refine Ev.topi (nI_succ _).symm ?_
      refine Ev.asti (pc := 93) dW_spread_93 (by omega) (by first | exact fun _ _ => rfl | exact cell_dz hj | exact cell_dr hj | exact cell_mr hk | exact cell_sr hk) _ (rfl) (by omega) (by decide) ?_
      refine Ev.aload_n (pc := 94) (i := 0) dW_spread_94 rfl rfl ?_
      refine Ev.gf (pc := 95) dW_spread_95 fl_W_18 (by omega) (rfl) rfl ?_
      refine Ev.iload (pc := 98) dW_spread_98 rfl ?_
      refine Ev.iload_n (pc := 100) (i := 3) dW_spread_100 rfl rfl ?_
      refine Ev.asti (pc := 101) dW_spread_101 (by omega) (by first | exact fun _ _ => rfl | exact cell_dz hj | exact cell_dr hj | exact cell_mr hk | exact cell_sr hk) _ (rfl) (by omega) (by decide) ?_
      refine Ev.aload_n (pc := 102) (i := 0) dW_spread_102 rfl rfl ?_
      refine Ev.gf (pc := 103) dW_spread_103 fl_W_9 (by omega) (rfl) rfl ?_
      refine Ev.aload_n (pc := 106) (i := 0) dW_spread_106 rfl rfl ?_
      refine Ev.gf (pc := 107) dW_spread_107 fl_W_21 (by omega) (rfl) rfl ?_
      refine Ev.iload (pc := 110) dW_spread_110 rfl ?_
      refine Ev.asti (pc := 112) dW_spread_112 (by omega) (fun _ _ => rfl) f' (by rw [sv_p (by decide), sv_p (by decide)]; exact hb'.1) (by omega) (by decide) ?_
      refine Ev.aload_n (pc := 113) (i := 0) dW_spread_113 rfl rfl ?_
      refine Ev.dup (pc := 114) dW_spread_114 rfl ?_
      refine Ev.gf (pc := 115) dW_spread_115 fl_W_21 (by omega) (rfl) rfl ?_
      refine Ev.iconst (pc := 118) (v := 1) dW_spread_118 (by decide) ?_
      refine Ev.iadd (pc := 119) dW_spread_119 ?_
      refine Ev.topi (y := nI (f' + 1)) (by rw [sv_p (by decide), sv_p (by decide), sv_p (by decide), hb'.1]; exact (nI_succ f').symm) ?_
      refine Ev.puti (pc := 120) dW_spread_120 fl_W_21 fp_W_found (by omega) (rfl) rfl (Nat.le_of_ble_eq_true rfl) ?_
      refine Ev.iinc (pc := 123) dW_spread_123 rfl (cx_inc _) (Nat.le_of_ble_eq_true rfl) ?_
      refine Ev.goto (pc := 126) (tgt := 2) dW_spread_126 rfl ?_
      refine ih _ _ _ _ _ _ _ _ ?_ (bq_new hb' (fun k h0 hk => (hg'.2.2.1 k h0 hk).1) hg'.1 (by omega) (by omega) hq hno) hnew (by omega) (fun k hk => ?_)
      · intro p a1 a2 a3 a4
        rw [sv_p a1, sv_p a2, sv_p a4, sv_p a3]
        exact hF p a1 a2 a3 a4
      · rw [up_ne (by omega), up_ne (by omega), up_ne (by omega)]
        exact hag k hk
  exact loop 0 (by decide) v f pos par dr none none none (fun _ _ _ _ _ => rfl) hb hg (Nat.le_refl _) (fun k _ => ⟨rfl, rfl, rfl⟩)
theorem home_ok {C : Int32} {sy : Nat → Int32} {I : Ins} (hC : 0 ≤ C.toInt) (hs : smallI I.1 I.2.1 I.2.2) : okI C sy I 15 = true := by
  refine allB_iff.mpr (fun i hi => ?_)
  obtain ⟨s1, s2, s3, s4⟩ := hs i hi
  have z := zP_toInt (p := 15) (by decide)
  have a : (zP 15 + I.2.1 i).toInt = (zP 15).toInt + (I.2.1 i).toInt := i3_add (by omega) (by omega) (by omega) (by omega)
  rw [freeB_iff, a]
  omega
set_option maxHeartbeats 4000000 in
set_option maxRecDepth 100000 in
theorem ct_W_exploreFromHome {C : Int32} {sy : Nat → Int32} {I : Ins} {j : Nat} (hj : j < 3) (hI : insV v j I) (hC : v 1 2 = C) (hsy : v 2 = sy) (hC0 : 0 ≤ C.toInt) (hs : smallI I.1 I.2.1 I.2.2) (hy : ∀ j, j < 12 → (sy j).toInt ≤ 8) : Ct G mW_exploreFromHome [.ref (cxa G 23), .ref (cxa G (4 + 3 * j))] (wl G v b) (fun x w' => x = none ∧ ∃ v', w' = wl G v' b ∧ wFr v v' ∧ ∀ q, q < 320 → fB v' q = okI C sy I q) := by
  refine Ct.of (by decide) rfl rfl (Nat.le_of_ble_eq_true rfl) ?_
  refine Ev.aload_n (pc := 0) (i := 0) dW_exploreFromHome_0 rfl rfl ?_
  refine Ev.bipush (pc := 1) (v := 15) dW_exploreFromHome_1 (by decide) ?_
  refine Ev.callV (pc := 3) dW_exploreFromHome_3 kv_W_29 ⟨Nat.le_of_ble_eq_true rfl, Nat.le_of_ble_eq_true rfl⟩ (wl_at (by decide) rfl) rfl rfl (ct_W_begin (s := 15) (by decide)) rfl rfl (Nat.le_of_ble_eq_true rfl) ?_
  rintro _ _ ⟨v1, rfl, rfl, hF1, hb1⟩
  refine Ev.iconst (pc := 6) (v := 0) dW_exploreFromHome_6 (by decide) ?_
  refine Ev.istore_n (pc := 7) (i := 2) dW_exploreFromHome_7 rfl (Nat.le_of_ble_eq_true rfl) ?_
  have loop : ∀ i, i ≤ 320 → ∀ (v' : Nat → Nat → Int32) (f : Nat) (pos par dr : Nat → Nat), wFr v v' → bq v' f pos par dr → qg nxt (okI C sy I) (fun _ => true) 15 f i 0 pos par dr → i ≤ f → Ev G mW_exploreFromHome 8 [some (.ref (cxa G 23)), some (.ref (cxa G (4 + 3 * j))), some (.int (nI i))] [] (wl G v' b) (cx_e G mW_exploreFromHome (fun x w' => x = none ∧ ∃ v', w' = wl G v' b ∧ wFr v v' ∧ ∀ q, q < 320 → fB v' q = okI C sy I q)) := by
    refine loopN (fun i hi ih v' f pos par dr hF hb hg hif => ?_)
    have hfI : (v' 23 4).toInt = (f : Int) := by rw [hb.1]; exact nI_toInt (by have := hb.2.1; omega)
    refine Ev.iload_n (pc := 8) (i := 2) dW_exploreFromHome_8 rfl rfl ?_
    refine Ev.aload_n (pc := 9) (i := 0) dW_exploreFromHome_9 rfl rfl ?_
    refine Ev.gf (pc := 10) dW_exploreFromHome_10 fl_W_21 (by omega) (rfl) rfl ?_
    refine Ev.cicmp_ge (nI_toInt (by omega)) (hfI) (pc := 13) (tgt := 40) dW_exploreFromHome_13 rfl (fun h => ?_) (fun h => ?_)
    · have e : i = f := by omega
      subst e
      refine Ev.vreturn dW_exploreFromHome_40 rfl ⟨rfl, v', rfl, hF, fun q hq => ?_⟩
      have all := reach_all (ok := okI C sy I) (F := fB v') (fun p hp ho hr => safeP_up hs p hp ho hr) (fun p hp hr ho h16 => safeP_left hs hy p hp hr ho h16) (by
        have := hb.yes hg.1
        rw [hg.2.1] at this
        exact this) (fun p d q hp hn ho => by
        obtain ⟨k, k1, k2⟩ := hb.found (nxt_lt hn).1 hp
        obtain ⟨k', c1, c2, -⟩ := hg.2.2.2.2.1 k d (Or.inl k1) q (by rw [k2]; exact hn) ho
        rw [← c2]
        exact hb.yes c1)
      cases ho : okI C sy I q with
      | true => exact all q hq ho
      | false =>
        cases hf : fB v' q with
        | false => rfl
        | true =>
          obtain ⟨k, k1, k2⟩ := hb.found hq hf
          by_cases h0 : k = 0
          · subst h0
            rw [hg.2.1] at k2
            subst k2
            rw [home_ok hC0 hs] at ho
            cases ho
          · have := (hg.2.2.1 k (by omega) k1).2.2.2
            rw [k2, ho] at this
            cases this
    refine Ev.iload_n (pc := 16) (i := 2) dW_exploreFromHome_16 rfl rfl ?_
    refine Ev.sipush (pc := 17) (v := 320) dW_exploreFromHome_17 (by decide) ?_
    refine Ev.cicmp_ge (nI_toInt (by omega)) ((show (320 : Int32).toInt = 320 from by decide)) (pc := 20) (tgt := 40) dW_exploreFromHome_20 rfl (fun h2 => ?_) (fun h2 => ?_)
    · have := hb.2.1; omega
    have hlt : i < f := by omega
    have h320 := hb.2.1
    refine Ev.aload_n (pc := 23) (i := 0) dW_exploreFromHome_23 rfl rfl ?_
    refine Ev.aload_n (pc := 24) (i := 1) dW_exploreFromHome_24 rfl rfl ?_
    refine Ev.aload_n (pc := 25) (i := 0) dW_exploreFromHome_25 rfl rfl ?_
    refine Ev.gf (pc := 26) dW_exploreFromHome_26 fl_W_9 (by omega) (rfl) rfl ?_
    refine Ev.iload_n (pc := 29) (i := 2) dW_exploreFromHome_29 rfl rfl ?_
    refine Ev.aldi (pc := 30) dW_exploreFromHome_30 (by omega) (by first | exact fun _ _ => rfl | exact cell_dz hj | exact cell_dr hj | exact cell_mr hk | exact cell_sr hk) _ (rfl) (by omega) (by decide) ?_
    refine Ev.topi (hb.2.2.1 i hlt).2.1 ?_
    refine Ev.callV (pc := 31) dW_exploreFromHome_31 kv_W_33 ⟨Nat.le_of_ble_eq_true rfl, Nat.le_of_ble_eq_true rfl⟩ (wl_at (by decide) rfl) rfl rfl (ct_W_spread hj (hI.fr hj hF) (by rw [hF 1 (by decide) (by decide) (by decide) (by decide)]; exact hC) (by rw [hF 2 (by decide) (by decide) (by decide) (by decide)]; exact hsy) hb hg hlt rfl) rfl rfl (Nat.le_of_ble_eq_true rfl) ?_
    rintro _ _ ⟨rfl, v2, f2, pos2, par2, dr2, rfl, hF2, hb2, hg2, hff, -⟩
    refine Ev.iinc (pc := 34) dW_exploreFromHome_34 rfl (cx_inc _) (Nat.le_of_ble_eq_true rfl) ?_
    refine Ev.goto (pc := 37) (tgt := 8) dW_exploreFromHome_37 rfl ?_
    exact ih (by omega) v2 f2 pos2 par2 dr2 (hF.tr hF2) hb2 hg2 (by omega)
  exact loop 0 (by decide) v1 1 _ _ _ hF1 hb1 (qg_0 rfl) (by decide)
end Spr
