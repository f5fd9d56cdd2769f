/-! Ways: telling a way, finding the nearest stock -/
/-- a found place and its way, as the cells tell it -/
def wayV (v : Nat → Nat → Int32) (g : Nat) (π : List Nat) : Prop :=
  ∃ (f : Nat) (pos par dr : Nat → Nat) (k : Nat), bq v f pos par dr ∧ (∀ k, 0 < k → k < f → par k < k ∧ nxt (pos (par k)) (dr k) = some (pos k)) ∧ k < f ∧ pos k = g ∧ π = pth par dr k k
theorem sub1 {L : Nat} (h : L < 1000000) : (nI L - 1).toInt = (L : Int) - 1 := by
  have e : (1 : Int32) = nI 1 := by decide
  rw [e, pk_sub_toInt (by omega) (by decide)]
  rfl
section Fnd
variable {G : cx_G} {v : Nat → Nat → Int32} {b : Nat → Nat → Bool}
set_option maxHeartbeats 4000000 in
set_option maxRecDepth 100000 in
theorem ct_W_tellWay {g : Nat} {π : List Nat} (hw : wayV v g π) : Ct G mW_tellWay [.ref (cxa G 23), .int (nI g), .ref (cxa G 28)] (wl G v b) (fun x w' => ∃ v', w' = wl G v' b ∧ (∀ p, p ≠ 28 → v' p = v p) ∧ x = some (.int (nI π.length)) ∧ ∀ i d, π[i]? = some d → v' 28 i = nI d) := by
  obtain ⟨f, pos, par, dr, k0, hb, hp, hk0, hg0, hπ⟩ := hw
  have hf := hb.2.1
  have hlen : ∀ k, k < f → (pth par dr k k).length < 320 := fun k hk => by have := pth_len par dr k k; omega
  have hd0 := (hb.2.2.1 k0 hk0).2.2
  rw [hg0, ← hπ] at hd0
  have hgl : g < 320 := by rw [← hg0]; exact (hb.2.2.1 k0 hk0).1
  refine Ct.of (by decide) rfl rfl (Nat.le_of_ble_eq_true rfl) ?_
  refine Ev.aload_n (pc := 0) (i := 0) dW_tellWay_0 rfl rfl ?_
  refine Ev.gf (pc := 1) dW_tellWay_1 fl_W_15 (by omega) (rfl) rfl ?_
  refine Ev.iload_n (pc := 4) (i := 1) dW_tellWay_4 rfl rfl ?_
  refine Ev.aldi (pc := 5) dW_tellWay_5 (by omega) (by first | exact fun _ _ => rfl | exact cell_dz hj | exact cell_dr hj | exact cell_mr hk | exact cell_sr hk) _ (rfl) (by omega) (by decide) ?_
  refine Ev.topi hd0 ?_
  refine Ev.istore_n (pc := 6) (i := 3) dW_tellWay_6 rfl (Nat.le_of_ble_eq_true rfl) ?_
  refine Ev.iload_n (pc := 7) (i := 1) dW_tellWay_7 rfl rfl ?_
  refine Ev.istore (pc := 8) dW_tellWay_8 (Nat.le_of_ble_eq_true rfl) ?_
  refine Ev.iload_n (pc := 10) (i := 3) dW_tellWay_10 rfl rfl ?_
  refine Ev.iconst (pc := 11) (v := 1) dW_tellWay_11 (by decide) ?_
  refine Ev.isub (pc := 12) dW_tellWay_12 ?_
  refine Ev.istore (pc := 13) dW_tellWay_13 (Nat.le_of_ble_eq_true rfl) ?_
  have loop : ∀ k, k < f → ∀ (rest : List Nat) (v' : Nat → Nat → Int32) (l6 : Option Value), π = pth par dr k k ++ rest → (∀ p, p ≠ 28 → v' p = v p) → (∀ i d, (pth par dr k k).length ≤ i → π[i]? = some d → v' 28 i = nI d) → Ev G mW_tellWay 15 [some (.ref (cxa G 23)), some (.int (nI g)), some (.ref (cxa G 28)), some (.int (nI π.length)), some (.int (nI (pos k))), some (.int (nI (pth par dr k k).length - 1)), l6] [] (wl G v' b) (cx_e G mW_tellWay (fun x w' => ∃ v', w' = wl G v' b ∧ (∀ p, p ≠ 28 → v' p = v p) ∧ x = some (.int (nI π.length)) ∧ ∀ i d, π[i]? = some d → v' 28 i = nI d)) := by
    intro k
    induction k using Nat.strongRecOn with
    | ind k ih =>
      intro hk rest v' l6 hr hF hst
      have hl := hlen k hk
      refine Ev.iload (pc := 15) dW_tellWay_15 rfl ?_
      refine Ev.cif_lt (sub1 (by omega)) (pc := 17) (tgt := 70) dW_tellWay_17 rfl (fun h => ?_) (fun h => ?_)
      · refine Ev.iload_n (pc := 70) (i := 3) dW_tellWay_70 rfl rfl ?_
        exact Ev.ireturn .int dW_tellWay_71 rfl rfl (⟨v', rfl, hF, rfl, fun i d hd => hst i d (by omega) hd⟩)
      have h0 : 0 < k := by
        rcases Nat.eq_zero_or_pos k with e | e
        · subst e; simp [pth] at h
        · exact e
      obtain ⟨p1, p2⟩ := hp k h0 hk
      have hs := pth_step (dr := dr) (fun k a b => (hp k a b).1) h0 hk
      have hL : (pth par dr k k).length = (pth par dr (par k) (par k)).length + 1 := by rw [hs]; simp
      obtain ⟨n1, n2, n3⟩ := nxt_lt p2
      have hcb := hb.2.2.2.2 k h0 hk
      rw [hL, show nI ((pth par dr (par k) (par k)).length + 1) - 1 = nI (pth par dr (par k) (par k)).length from nI_pred _]
      have hl2 := hlen (par k) (by omega)
      refine Ev.aload_n (pc := 20) (i := 0) dW_tellWay_20 rfl rfl ?_
      refine Ev.gf (pc := 21) dW_tellWay_21 fl_W_18 (by omega) (rfl) rfl ?_
      refine Ev.iload (pc := 24) dW_tellWay_24 rfl ?_
      refine Ev.aldi (pc := 26) dW_tellWay_26 (by omega) (by first | exact fun _ _ => rfl | exact cell_dz hj | exact cell_dr hj | exact cell_mr hk | exact cell_sr hk) _ (rfl) (by omega) (by decide) ?_
      refine Ev.topi (y := nI (dr k)) (by rw [hF 26 (by decide)]; exact hcb) ?_
      refine Ev.istore (pc := 27) dW_tellWay_27 (Nat.le_of_ble_eq_true rfl) ?_
      refine Ev.aload_n (pc := 29) (i := 2) dW_tellWay_29 rfl rfl ?_
      refine Ev.iload (pc := 30) dW_tellWay_30 rfl ?_
      refine Ev.iload (pc := 32) dW_tellWay_32 rfl ?_
      refine Ev.asti (pc := 34) dW_tellWay_34 (by omega) (by first | exact fun _ _ => rfl | exact cell_dz hj | exact cell_dr hj | exact cell_mr hk | exact cell_sr hk) _ (rfl) (by omega) (by decide) ?_
      refine Ev.iload (pc := 35) dW_tellWay_35 rfl ?_
      refine Ev.callN (pc := 37) dW_tellWay_37 kn_W_37 ⟨Nat.le_of_ble_eq_true rfl, Nat.le_of_ble_eq_true rfl⟩ (ct_T_zOf _ n2) rfl rfl (Nat.le_of_ble_eq_true rfl) ?_
      rintro _ _ ⟨rfl, rfl⟩
      refine Ev.getstatic (pc := 40) 0 (by decide) dW_tellWay_40 sl_W_56 ?_
      refine Ev.iload (pc := 43) dW_tellWay_43 rfl ?_
      refine Ev.tload (pc := 45) dW_tellWay_45 (by decide) _ rfl (by omega) ?_
      refine Ev.isub (pc := 46) dW_tellWay_46 ?_
      refine Ev.iload (pc := 47) dW_tellWay_47 rfl ?_
      refine Ev.callN (pc := 49) dW_tellWay_49 kn_W_41 ⟨Nat.le_of_ble_eq_true rfl, Nat.le_of_ble_eq_true rfl⟩ (ct_T_rOf _ n2) rfl rfl (Nat.le_of_ble_eq_true rfl) ?_
      rintro _ _ ⟨rfl, rfl⟩
      refine Ev.getstatic (pc := 52) 1 (by decide) dW_tellWay_52 sl_W_59 ?_
      refine Ev.iload (pc := 55) dW_tellWay_55 rfl ?_
      refine Ev.tload (pc := 57) dW_tellWay_57 (by decide) _ rfl (by omega) ?_
      refine Ev.isub (pc := 58) dW_tellWay_58 ?_
      obtain ⟨b1, b2⟩ := step_back p2
      rw [b1, b2]
      refine Ev.callN (pc := 59) dW_tellWay_59 kn_W_62 ⟨Nat.le_of_ble_eq_true rfl, Nat.le_of_ble_eq_true rfl⟩ (ct_T_positionOf _ _) rfl rfl (Nat.le_of_ble_eq_true rfl) ?_
      rintro _ _ ⟨rfl, rfl⟩
      refine Ev.topi (pos_i n1) ?_
      refine Ev.istore (pc := 62) dW_tellWay_62 (Nat.le_of_ble_eq_true rfl) ?_
      refine Ev.iinc (pc := 64) (v := nI (pth par dr (par k) (par k)).length - 1) dW_tellWay_64 rfl (by rw [Int32.sub_eq_add_neg]; rfl) (Nat.le_of_ble_eq_true rfl) ?_
      refine Ev.goto (pc := 67) (tgt := 15) dW_tellWay_67 rfl ?_
      refine ih (par k) p1 (by omega) (dr k :: rest) (sv v' 28 (pth par dr (par k) (par k)).length (nI (dr k))) _ (by rw [hr, hs]; simp) (fun p hp => by rw [sv_p hp]; exact hF p hp) (fun i d hi hd => ?_)
      by_cases e : i = (pth par dr (par k) (par k)).length
      · subst e
        rw [sv_eq]
        rw [hr, hs, List.append_assoc, List.getElem?_append_right (Nat.le_refl _)] at hd
        simp at hd
        rw [hd]
      · rw [sv_k e]
        exact hst i d (by omega) hd
  have := loop k0 hk0 [] v none (by rw [hπ]; simp) (fun _ _ => rfl) (fun i d hi hd => by
    rw [← hπ] at hi
    have := (List.getElem?_eq_some_iff.mp hd).1
    omega)
  rw [← hπ, hg0] at this
  exact this
/-- what finding the nearest stock answers -/
def fnQ (G : cx_G) (v : Nat → Nat → Int32) (b : Nat → Nat → Bool) (ok cov : Nat → Bool) (s : Nat) : Option Value → List va_E → Prop := fun x w' =>
  ∃ v', w' = wl G v' b ∧ wFr v v' ∧ ((legS nxt ok cov s none ∧ x = some (.int (-1))) ∨ ∃ g π, legS nxt ok cov s (some (g, π)) ∧ x = some (.int (nI g)) ∧ g < 320 ∧ wayV v' g π)
set_option maxHeartbeats 4000000 in
set_option maxRecDepth 100000 in
theorem find_2 {C : Int32} {sy : Nat → Int32} {I : Ins} {j k s f i0 : Nat} {pos par dr : Nat → Nat} {v' : Nat → Nat → Int32} (hj : j < 3) (hk : k < 2) (hI : insV v' j I) (hF : wFr v v') (hb : bq v' f pos par dr) (hg : qg nxt (okI C sy I) (fun p => !cvI (b (20 + 2 * k)) I p) s f i0 0 pos par dr) (hi0 : i0 < f) (hno : ∀ a, a < i0 → cvI (b (20 + 2 * k)) I (pos a) = false) :
    ∀ i, i ≤ f → ∀ (t : Nat) (l6 : Option Value), i0 ≤ t → t < i → cvI (b (20 + 2 * k)) I (pos t) = true → (∀ a, i0 ≤ a → a < i → (pth par dr a a).length = (pth par dr i0 i0).length ∧ (cvI (b (20 + 2 * k)) I (pos a) = true → pos t ≤ pos a)) → Ev G mW_findNearestStock 11 [some (.ref (cxa G 23)), some (.ref (cxa G (4 + 3 * j))), some (.ref (cxa G (19 + 2 * k))), some (.int (nI s)), some (.int (nI (pos t))), some (.int (nI i)), l6] [] (wl G v' b) (cx_e G mW_findNearestStock (fnQ G v b (okI C sy I) (cvI (b (20 + 2 * k)) I) s)) := by
  have hf := hb.2.1
  have hfI : (v' 23 4).toInt = (f : Int) := by rw [hb.1]; exact nI_toInt (by omega)
  have hlen : ∀ a, a < f → (pth par dr a a).length < 320 := fun a ha => by have := pth_len par dr a a; omega
  have fin : ∀ i t, i0 ≤ t → t < i → i ≤ f → cvI (b (20 + 2 * k)) I (pos t) = true → (∀ a, i0 ≤ a → a < i → (pth par dr a a).length = (pth par dr i0 i0).length ∧ (cvI (b (20 + 2 * k)) I (pos a) = true → pos t ≤ pos a)) → (i = f ∨ (i < f ∧ (pth par dr i0 i0).length < (pth par dr i i).length)) → legS nxt (okI C sy I) (cvI (b (20 + 2 * k)) I) s (some (pos t, pth par dr t t)) := by
    intro i t ht1 ht2 hif hc hall hend
    have hq := hg.all
    have htl : (pth par dr t t).length = (pth par dr i0 i0).length := (hall t ht1 ht2).1
    refine qk_some hq hg.inj (by omega) hc (fun a ha hla => ?_) (fun a ha hla hca => ?_)
    · have hai : a < i0 := by
        rcases Nat.lt_or_ge a i0 with h | h
        · exact h
        · have := hq.len h ha; omega
      exact ⟨hai, hno a hai⟩
    · have hai : i0 ≤ a := by
        rcases Nat.lt_or_ge a i0 with h | h
        · rw [hno a h] at hca; cases hca
        · exact h
      rcases Nat.lt_or_ge a i with h | h
      · exact (hall a hai h).2 hca
      · rcases hend with e | ⟨e1, e2⟩
        · omega
        · have := hq.len h ha; omega
  have way : ∀ t, t < f → wayV v' (pos t) (pth par dr t t) := fun t ht => ⟨f, pos, par, dr, t, hb, fun a h0 ha => ⟨(hg.2.2.1 a h0 ha).1, (hg.2.2.1 a h0 ha).2.2.1⟩, ht, rfl, rfl⟩
  refine loopN (fun i hi ih t l6 ht1 ht2 hc hall => ?_)
  have htf : t < f := by omega
  obtain ⟨p1, p2, p3⟩ := hb.2.2.1 t htf
  have hbest : (nI (pos t)).toInt = (pos t : Int) := nI_toInt (by omega)
  refine Ev.iload (pc := 11) dW_findNearestStock_11 rfl ?_
  refine Ev.aload_n (pc := 13) (i := 0) dW_findNearestStock_13 rfl rfl ?_
  refine Ev.gf (pc := 14) dW_findNearestStock_14 fl_W_21 (by omega) (rfl) rfl ?_
  refine Ev.cicmp_ge (nI_toInt (by omega)) (hfI) (pc := 17) (tgt := 123) dW_findNearestStock_17 rfl (fun h => ?_) (fun h => ?_)
  · refine Ev.iload (pc := 123) dW_findNearestStock_123 rfl ?_
    exact Ev.ireturn .int dW_findNearestStock_125 rfl rfl (⟨v', rfl, hF, Or.inr ⟨_, _, fin i t ht1 ht2 hi hc hall (Or.inl (by omega)), rfl, p1, way t htf⟩⟩)
  refine Ev.iload (pc := 20) dW_findNearestStock_20 rfl ?_
  refine Ev.sipush (pc := 22) (v := 320) dW_findNearestStock_22 (by decide) ?_
  refine Ev.cicmp_ge (nI_toInt (by omega)) ((show (320 : Int32).toInt = 320 from by decide)) (pc := 25) (tgt := 123) dW_findNearestStock_25 rfl (fun h2 => ?_) (fun h2 => ?_)
  · omega
  have hif : i < f := by omega
  obtain ⟨q1, q2, q3⟩ := hb.2.2.1 i hif
  refine Ev.aload_n (pc := 28) (i := 0) dW_findNearestStock_28 rfl rfl ?_
  refine Ev.gf (pc := 29) dW_findNearestStock_29 fl_W_9 (by omega) (rfl) rfl ?_
  refine Ev.iload (pc := 32) dW_findNearestStock_32 rfl ?_
  refine Ev.aldi (pc := 34) dW_findNearestStock_34 (by omega) (by first | exact fun _ _ => rfl | exact cell_dz hj | exact cell_dr hj | exact cell_mr hk | exact cell_sr hk) _ (rfl) (by omega) (by decide) ?_
  refine Ev.topi q2 ?_
  refine Ev.istore (pc := 35) dW_findNearestStock_35 (Nat.le_of_ble_eq_true rfl) ?_
  refine Ev.iload (pc := 37) dW_findNearestStock_37 rfl ?_
  refine Ev.iconst (pc := 39) (v := (-1)) dW_findNearestStock_39 (by decide) ?_
  refine Ev.cicmp_eq (hbest) ((show (-1 : Int32).toInt = -1 from by decide)) (pc := 40) (tgt := 63) dW_findNearestStock_40 rfl (fun h3 => ?_) (fun h3 => ?_)
  · omega
  refine Ev.aload_n (pc := 43) (i := 0) dW_findNearestStock_43 rfl rfl ?_
  refine Ev.gf (pc := 44) dW_findNearestStock_44 fl_W_15 (by omega) (rfl) rfl ?_
  refine Ev.iload (pc := 47) dW_findNearestStock_47 rfl ?_
  refine Ev.aldi (pc := 49) dW_findNearestStock_49 (by omega) (by first | exact fun _ _ => rfl | exact cell_dz hj | exact cell_dr hj | exact cell_mr hk | exact cell_sr hk) _ (rfl) (by omega) (by decide) ?_
  refine Ev.aload_n (pc := 50) (i := 0) dW_findNearestStock_50 rfl rfl ?_
  refine Ev.gf (pc := 51) dW_findNearestStock_51 fl_W_15 (by omega) (rfl) rfl ?_
  refine Ev.iload (pc := 54) dW_findNearestStock_54 rfl ?_
  refine Ev.aldi (pc := 56) dW_findNearestStock_56 (by omega) (by first | exact fun _ _ => rfl | exact cell_dz hj | exact cell_dr hj | exact cell_mr hk | exact cell_sr hk) _ (rfl) (by omega) (by decide) ?_
  have l1 := hlen i hif
  have l2 := hlen t htf
  have hD : (v' 25 (pos i)).toInt = ((pth par dr i i).length : Int) := by rw [q3]; exact nI_toInt (by omega)
  have hDt : (v' 25 (pos t)).toInt = ((pth par dr t t).length : Int) := by rw [p3]; exact nI_toInt (by omega)
  have htl := (hall t ht1 ht2).1
  have hmono := hg.all.len (j := i0) (k := i) (by omega) hif
  refine Ev.cicmp_le (hD) (hDt) (pc := 57) (tgt := 63) dW_findNearestStock_57 rfl (fun h4 => ?_) (fun h4 => ?_)
  · have hli : (pth par dr i i).length = (pth par dr i0 i0).length := by omega
    refine Ev.aload_n (pc := 63) (i := 2) dW_findNearestStock_63 rfl rfl ?_
    refine Ev.aload_n (pc := 64) (i := 1) dW_findNearestStock_64 rfl rfl ?_
    refine Ev.iload (pc := 65) dW_findNearestStock_65 rfl ?_
    refine Ev.callN (pc := 67) dW_findNearestStock_67 kn_W_37 ⟨Nat.le_of_ble_eq_true rfl, Nat.le_of_ble_eq_true rfl⟩ (ct_T_zOf _ q1) rfl rfl (Nat.le_of_ble_eq_true rfl) ?_
    rintro _ _ ⟨rfl, rfl⟩
    refine Ev.iload (pc := 70) dW_findNearestStock_70 rfl ?_
    refine Ev.callN (pc := 72) dW_findNearestStock_72 kn_W_41 ⟨Nat.le_of_ble_eq_true rfl, Nat.le_of_ble_eq_true rfl⟩ (ct_T_rOf _ q1) rfl rfl (Nat.le_of_ble_eq_true rfl) ?_
    rintro _ _ ⟨rfl, rfl⟩
    refine Ev.callV (pc := 75) dW_findNearestStock_75 kv_W_44 ⟨Nat.le_of_ble_eq_true rfl, Nat.le_of_ble_eq_true rfl⟩ (wl_st hk) rfl rfl (ct_S_isCoveredBy hk hj hI.1 hI.2.1 _ _) rfl rfl (Nat.le_of_ble_eq_true rfl) ?_
    rintro _ _ ⟨rfl, rfl⟩
    rw [hI.2.2.1, hI.2.2.2]
    refine Ev.if_eqB (pc := 78) (tgt := 104) dW_findNearestStock_78 rfl (fun h5 => ?_) (fun h5 => ?_)
    · refine Ev.iload (pc := 104) dW_findNearestStock_104 rfl ?_
      refine Ev.iconst (pc := 106) (v := (-1)) dW_findNearestStock_106 (by decide) ?_
      refine Ev.cicmp_ne (hbest) ((show (-1 : Int32).toInt = -1 from by decide)) (pc := 107) (tgt := 117) dW_findNearestStock_107 rfl (fun h6 => ?_) (fun h6 => ?_)
      · refine Ev.iinc (pc := 117) dW_findNearestStock_117 rfl (cx_inc _) (Nat.le_of_ble_eq_true rfl) ?_
        refine Ev.goto (pc := 120) (tgt := 11) dW_findNearestStock_120 rfl ?_
        refine ih hif t _ ht1 (by omega) hc (fun a a1 a2 => ?_)
        by_cases e : a = i
        · subst e
          exact ⟨hli, fun h => by rw [show cvI (b (20 + 2 * k)) I (pos a) = false from h5] at h; cases h⟩
        · exact hall a a1 (by omega)
      · omega
    · refine Ev.iload (pc := 81) dW_findNearestStock_81 rfl ?_
      refine Ev.iconst (pc := 83) (v := (-1)) dW_findNearestStock_83 (by decide) ?_
      refine Ev.cicmp_ne (hbest) ((show (-1 : Int32).toInt = -1 from by decide)) (pc := 84) (tgt := 92) dW_findNearestStock_84 rfl (fun h6 => ?_) (fun h6 => ?_)
      · refine Ev.iload (pc := 92) dW_findNearestStock_92 rfl ?_
        refine Ev.iload (pc := 94) dW_findNearestStock_94 rfl ?_
        refine Ev.min (pc := 96) dW_findNearestStock_96 ⟨kmin_W_50.1, kmin_W_50.2.1, kmin_W_50.2.2.1, kmin_W_50.2.2.2, Nat.le_of_ble_eq_true rfl, Nat.le_of_ble_eq_true rfl⟩ (Nat.le_of_ble_eq_true rfl) ?_
        rw [hbest, nI_toInt (n := pos i) (by omega)]
        by_cases hlt : (pos i : Int) < (pos t : Int)
        · rw [if_pos hlt]
          refine Ev.istore (pc := 99) dW_findNearestStock_99 (Nat.le_of_ble_eq_true rfl) ?_
          refine Ev.goto (pc := 101) (tgt := 117) dW_findNearestStock_101 rfl ?_
          refine Ev.iinc (pc := 117) dW_findNearestStock_117 rfl (cx_inc _) (Nat.le_of_ble_eq_true rfl) ?_
          refine Ev.goto (pc := 120) (tgt := 11) dW_findNearestStock_120 rfl ?_
          refine ih hif i _ (by omega) (by omega) h5 (fun a a1 a2 => ?_)
          by_cases e : a = i
          · subst e
            exact ⟨hli, fun _ => Nat.le_refl _⟩
          · exact ⟨(hall a a1 (by omega)).1, fun h => by have := (hall a a1 (by omega)).2 h; omega⟩
        · rw [if_neg hlt]
          refine Ev.istore (pc := 99) dW_findNearestStock_99 (Nat.le_of_ble_eq_true rfl) ?_
          refine Ev.goto (pc := 101) (tgt := 117) dW_findNearestStock_101 rfl ?_
          refine Ev.iinc (pc := 117) dW_findNearestStock_117 rfl (cx_inc _) (Nat.le_of_ble_eq_true rfl) ?_
          refine Ev.goto (pc := 120) (tgt := 11) dW_findNearestStock_120 rfl ?_
          refine ih hif t _ ht1 (by omega) hc (fun a a1 a2 => ?_)
          by_cases e : a = i
          · subst e
            exact ⟨hli, fun _ => by omega⟩
          · exact hall a a1 (by omega)
      · omega
  · refine Ev.iload (pc := 60) dW_findNearestStock_60 rfl ?_
    exact Ev.ireturn .int dW_findNearestStock_62 rfl rfl (⟨v', rfl, hF, Or.inr ⟨_, _, fin i t ht1 ht2 hi hc hall (Or.inr ⟨hif, by omega⟩), rfl, p1, way t htf⟩⟩)
set_option maxHeartbeats 4000000 in
set_option maxRecDepth 100000 in
theorem ct_W_findNearestStock {C : Int32} {sy : Nat → Int32} {I : Ins} {j k s : Nat} (hj : j < 3) (hk : k < 2) (hI : insV v j I) (hC : v 1 2 = C) (hsy : v 2 = sy) (hs : s < 320) : Ct G mW_findNearestStock [.ref (cxa G 23), .ref (cxa G (4 + 3 * j)), .ref (cxa G (19 + 2 * k)), .int (nI s)] (wl G v b) (fnQ G v b (okI C sy I) (cvI (b (20 + 2 * k)) I) s) := by
  refine Ct.of (by decide) rfl rfl (Nat.le_of_ble_eq_true rfl) ?_
  refine Ev.aload_n (pc := 0) (i := 0) dW_findNearestStock_0 rfl rfl ?_
  refine Ev.iload_n (pc := 1) (i := 3) dW_findNearestStock_1 rfl rfl ?_
  refine Ev.callV (pc := 2) dW_findNearestStock_2 kv_W_29 ⟨Nat.le_of_ble_eq_true rfl, Nat.le_of_ble_eq_true rfl⟩ (wl_at (by decide) rfl) rfl rfl (ct_W_begin hs) rfl rfl (Nat.le_of_ble_eq_true rfl) ?_
  rintro _ _ ⟨v1, rfl, rfl, hF1, hb1⟩
  refine Ev.iconst (pc := 5) (v := (-1)) dW_findNearestStock_5 (by decide) ?_
  refine Ev.istore (pc := 6) dW_findNearestStock_6 (Nat.le_of_ble_eq_true rfl) ?_
  refine Ev.iconst (pc := 8) (v := 0) dW_findNearestStock_8 (by decide) ?_
  refine Ev.istore (pc := 9) dW_findNearestStock_9 (Nat.le_of_ble_eq_true rfl) ?_
  have loop : ∀ i, i ≤ 320 → ∀ (v' : Nat → Nat → Int32) (f : Nat) (pos par dr : Nat → Nat) (l6 : Option Value), wFr v v' → bq v' f pos par dr → qg nxt (okI C sy I) (fun p => !cvI (b (20 + 2 * k)) I p) s f i 0 pos par dr → i ≤ f → (∀ a, a < i → cvI (b (20 + 2 * k)) I (pos a) = false) → Ev G mW_findNearestStock 11 [some (.ref (cxa G 23)), some (.ref (cxa G (4 + 3 * j))), some (.ref (cxa G (19 + 2 * k))), some (.int (nI s)), some (.int (-1)), some (.int (nI i)), l6] [] (wl G v' b) (cx_e G mW_findNearestStock (fnQ G v b (okI C sy I) (cvI (b (20 + 2 * k)) I) s)) := by
    refine loopN (fun i hi ih v' f pos par dr l6 hF hb hg hif hno => ?_)
    have hf := hb.2.1
    have hfI : (v' 23 4).toInt = (f : Int) := by rw [hb.1]; exact nI_toInt (by omega)
    have hI' := hI.fr hj hF
    refine Ev.iload (pc := 11) dW_findNearestStock_11 rfl ?_
    refine Ev.aload_n (pc := 13) (i := 0) dW_findNearestStock_13 rfl rfl ?_
    refine Ev.gf (pc := 14) dW_findNearestStock_14 fl_W_21 (by omega) (rfl) rfl ?_
    refine Ev.cicmp_ge (nI_toInt (by omega)) (hfI) (pc := 17) (tgt := 123) dW_findNearestStock_17 rfl (fun h => ?_) (fun h => ?_)
    · have e : i = f := by omega
      subst e
      refine Ev.iload (pc := 123) dW_findNearestStock_123 rfl ?_
      exact Ev.ireturn .int dW_findNearestStock_125 rfl rfl (⟨v', rfl, hF, Or.inl ⟨qk_none hg.all hno, rfl⟩⟩)
    refine Ev.iload (pc := 20) dW_findNearestStock_20 rfl ?_
    refine Ev.sipush (pc := 22) (v := 320) dW_findNearestStock_22 (by decide) ?_
    refine Ev.cicmp_ge (nI_toInt (by omega)) ((show (320 : Int32).toInt = 320 from by decide)) (pc := 25) (tgt := 123) dW_findNearestStock_25 rfl (fun h2 => ?_) (fun h2 => ?_)
    · omega
    have hlt : i < f := by omega
    obtain ⟨q1, q2, q3⟩ := hb.2.2.1 i hlt
    have hm1 : (-1 : Int32).toInt = -1 := by decide
    refine Ev.aload_n (pc := 28) (i := 0) dW_findNearestStock_28 rfl rfl ?_
    refine Ev.gf (pc := 29) dW_findNearestStock_29 fl_W_9 (by omega) (rfl) rfl ?_
    refine Ev.iload (pc := 32) dW_findNearestStock_32 rfl ?_
    refine Ev.aldi (pc := 34) dW_findNearestStock_34 (by omega) (by first | exact fun _ _ => rfl | exact cell_dz hj | exact cell_dr hj | exact cell_mr hk | exact cell_sr hk) _ (rfl) (by omega) (by decide) ?_
    refine Ev.topi q2 ?_
    refine Ev.istore (pc := 35) dW_findNearestStock_35 (Nat.le_of_ble_eq_true rfl) ?_
    refine Ev.iload (pc := 37) dW_findNearestStock_37 rfl ?_
    refine Ev.iconst (pc := 39) (v := (-1)) dW_findNearestStock_39 (by decide) ?_
    refine Ev.cicmp_eq (hm1) ((show (-1 : Int32).toInt = -1 from by decide)) (pc := 40) (tgt := 63) dW_findNearestStock_40 rfl (fun h3 => ?_) (fun h3 => ?_)
    · refine Ev.aload_n (pc := 63) (i := 2) dW_findNearestStock_63 rfl rfl ?_
      refine Ev.aload_n (pc := 64) (i := 1) dW_findNearestStock_64 rfl rfl ?_
      refine Ev.iload (pc := 65) dW_findNearestStock_65 rfl ?_
      refine Ev.callN (pc := 67) dW_findNearestStock_67 kn_W_37 ⟨Nat.le_of_ble_eq_true rfl, Nat.le_of_ble_eq_true rfl⟩ (ct_T_zOf _ q1) rfl rfl (Nat.le_of_ble_eq_true rfl) ?_
      rintro _ _ ⟨rfl, rfl⟩
      refine Ev.iload (pc := 70) dW_findNearestStock_70 rfl ?_
      refine Ev.callN (pc := 72) dW_findNearestStock_72 kn_W_41 ⟨Nat.le_of_ble_eq_true rfl, Nat.le_of_ble_eq_true rfl⟩ (ct_T_rOf _ q1) rfl rfl (Nat.le_of_ble_eq_true rfl) ?_
      rintro _ _ ⟨rfl, rfl⟩
      refine Ev.callV (pc := 75) dW_findNearestStock_75 kv_W_44 ⟨Nat.le_of_ble_eq_true rfl, Nat.le_of_ble_eq_true rfl⟩ (wl_st hk) rfl rfl (ct_S_isCoveredBy hk hj hI'.1 hI'.2.1 _ _) rfl rfl (Nat.le_of_ble_eq_true rfl) ?_
      rintro _ _ ⟨rfl, rfl⟩
      rw [hI'.2.2.1, hI'.2.2.2]
      refine Ev.if_eqB (pc := 78) (tgt := 104) dW_findNearestStock_78 rfl (fun h5 => ?_) (fun h5 => ?_)
      · refine Ev.iload (pc := 104) dW_findNearestStock_104 rfl ?_
        refine Ev.iconst (pc := 106) (v := (-1)) dW_findNearestStock_106 (by decide) ?_
        refine Ev.cicmp_ne (hm1) ((show (-1 : Int32).toInt = -1 from by decide)) (pc := 107) (tgt := 117) dW_findNearestStock_107 rfl (fun h6 => ?_) (fun h6 => ?_)
        · omega
        refine Ev.aload_n (pc := 110) (i := 0) dW_findNearestStock_110 rfl rfl ?_
        refine Ev.aload_n (pc := 111) (i := 1) dW_findNearestStock_111 rfl rfl ?_
        refine Ev.iload (pc := 112) dW_findNearestStock_112 rfl ?_
        refine Ev.callV (pc := 114) dW_findNearestStock_114 kv_W_33 ⟨Nat.le_of_ble_eq_true rfl, Nat.le_of_ble_eq_true rfl⟩ (wl_at (by decide) rfl) rfl rfl (ct_W_spread hj hI' (by rw [hF 1 (by decide) (by decide) (by decide) (by decide)]; exact hC) (by rw [hF 2 (by decide) (by decide) (by decide) (by decide)]; exact hsy) hb hg hlt (by show (!cvI (b (20 + 2 * k)) I (pos i)) = true; rw [show cvI (b (20 + 2 * k)) I (pos i) = false from h5]; rfl)) rfl rfl (Nat.le_of_ble_eq_true rfl) ?_
        rintro _ _ ⟨rfl, v2, f2, pos2, par2, dr2, rfl, hF2, hb2, hg2, hff, hag⟩
        refine Ev.iinc (pc := 117) dW_findNearestStock_117 rfl (cx_inc _) (Nat.le_of_ble_eq_true rfl) ?_
        refine Ev.goto (pc := 120) (tgt := 11) dW_findNearestStock_120 rfl ?_
        refine ih (by omega) v2 f2 pos2 par2 dr2 _ (hF.tr hF2) hb2 hg2 (by omega) (fun a ha => ?_)
        rw [(hag a (by omega)).1]
        by_cases e : a = i
        · rw [e]; exact h5
        · exact hno a (by omega)
      · refine Ev.iload (pc := 81) dW_findNearestStock_81 rfl ?_
        refine Ev.iconst (pc := 83) (v := (-1)) dW_findNearestStock_83 (by decide) ?_
        refine Ev.cicmp_ne (hm1) ((show (-1 : Int32).toInt = -1 from by decide)) (pc := 84) (tgt := 92) dW_findNearestStock_84 rfl (fun h6 => ?_) (fun h6 => ?_)
        · omega
        refine Ev.iload (pc := 87) dW_findNearestStock_87 rfl ?_
        refine Ev.goto (pc := 89) (tgt := 99) dW_findNearestStock_89 rfl ?_
        refine Ev.istore (pc := 99) dW_findNearestStock_99 (Nat.le_of_ble_eq_true rfl) ?_
        refine Ev.goto (pc := 101) (tgt := 117) dW_findNearestStock_101 rfl ?_
        refine Ev.iinc (pc := 117) dW_findNearestStock_117 rfl (cx_inc _) (Nat.le_of_ble_eq_true rfl) ?_
        refine Ev.goto (pc := 120) (tgt := 11) dW_findNearestStock_120 rfl ?_
        exact find_2 hj hk hI' hF hb hg hlt hno (i + 1) (by omega) i _ (Nat.le_refl _) (by omega) h5 (fun a a1 a2 => by
          have e : a = i := by omega
          subst e
          exact ⟨rfl, fun _ => Nat.le_refl _⟩)
    · omega
  exact loop 0 (by decide) v1 1 _ _ _ none hF1 hb1 (qg_0 rfl) (by decide) (fun a ha => absurd ha (by omega))
end Fnd
