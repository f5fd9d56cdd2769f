/-! Planner -/
theorem wk_dirs {ok ex : Nat → Bool} : ∀ (u : List Nat) (s g : Nat), wk nxt ok ex s u = some g → ∀ d ∈ u, d < 4
  | [], _, _, _, d, hd => by cases hd
  | e :: u, s, g, h, d, hd => by
    obtain ⟨h1, q, h2, h3, h4⟩ := wk_cons.mp h
    rcases List.mem_cons.mp hd with rfl | hd
    · exact (nxt_lt h2).2.2
    · exact wk_dirs u q g h4 d hd
theorem wayV.len {v : Nat → Nat → Int32} {g : Nat} {π : List Nat} (h : wayV v g π) : π.length < 320 := by
  obtain ⟨f, pos, par, dr, k, hb, -, hk, -, rfl⟩ := h
  have := pth_len par dr k k
  have := hb.2.1
  omega
noncomputable def rdF (C : Int32) (sy : Nat → Int32) (I : Ins) : Nat → Pm × (Nat → Bool) × Nat → Pm × (Nat → Bool)
  | 0, x => (x.1, x.2.1)
  | n + 1, x => match leg nxt (okI C sy I) (cvI x.2.1 I) x.2.2 with
    | none => (x.1, x.2.1)
    | some y => rdF C sy I n (pmW x.1 y.2, (ctI x.2.1 I y.1).2, y.1)
theorem rdF_none {C : Int32} {sy : Nat → Int32} {I : Ins} {n : Nat} {m : Pm} {X : Nat → Bool} {p : Nat} (h : legS nxt (okI C sy I) (cvI X I) p none) : rdF C sy I n (m, X, p) = (m, X) := by
  cases n with
  | zero => rfl
  | succ n => simp only [rdF]; rw [leg_eq _ _ _ h]
theorem rdF_some {C : Int32} {sy : Nat → Int32} {I : Ins} {n : Nat} {m : Pm} {X : Nat → Bool} {p g : Nat} {π : List Nat} (h : legS nxt (okI C sy I) (cvI X I) p (some (g, π))) : rdF C sy I (n + 1) (m, X, p) = rdF C sy I n (pmW m π, (ctI X I g).2, g) := by
  simp only [rdF]; rw [leg_eq _ _ _ h]
theorem rdF_len {C : Int32} {sy : Nat → Int32} {I : Ins} : ∀ (n : Nat) (x : Pm × (Nat → Bool) × Nat), x.1.1 ≤ (rdF C sy I n x).1.1 := by
  intro n
  induction n with
  | zero => intro x; exact Nat.le_refl _
  | succ n ih =>
    intro x
    simp only [rdF]
    split
    · exact Nat.le_refl _
    · refine Nat.le_trans ?_ (ih _)
      exact pmW_len _ _
noncomputable def mkF (C : Int32) (sy : Nat → Int32) (Js : Nat → Ins) (X : Nat → Bool) : Nat → Pm × (Nat → Bool)
  | 0 => ((0, fun _ => (0, 0, 0)), X)
  | k + 1 => rdF C sy (Js k) 96 (pmC (mkF C sy Js X k).1, (mkF C sy Js X k).2, 15)
theorem mkF_len {C : Int32} {sy : Nat → Int32} {Js : Nat → Ins} {X : Nat → Bool} {k n : Nat} (h : k ≤ n) : (mkF C sy Js X k).1.1 ≤ (mkF C sy Js X n).1.1 := by
  induction n with
  | zero => rw [show k = 0 by omega]; exact Nat.le_refl _
  | succ n ih =>
    by_cases e : k = n + 1
    · rw [e]; exact Nat.le_refl _
    · refine Nat.le_trans (ih (by omega)) ?_
      exact Nat.le_trans (by show _ ≤ (pmC (mkF C sy Js X n).1).1; unfold pmC; simp) (rdF_len 96 _)
def pFr (v v' : Nat → Nat → Int32) : Prop := ∀ p, (p < 15 ∨ (16 < p ∧ p < 23) ∨ p = 27 ∨ 28 < p) → v' p = v p
theorem pFr.tr {v v' v2 : Nat → Nat → Int32} (h : pFr v v') (h2 : pFr v' v2) : pFr v v2 := fun p a => (h2 p a).trans (h p a)
theorem wFr.p {v v' : Nat → Nat → Int32} (h : wFr v v') : pFr v v' := fun p a => h p (by omega) (by omega) (by omega) (by omega)
theorem insV.pf {v v' : Nat → Nat → Int32} {j : Nat} {I : Ins} (h : insV v j I) (hj : j < 3) (hf : pFr v v') : insV v' j I :=
  ⟨by rw [hf _ (by omega)]; exact h.1, h.2.1, by rw [hf _ (by omega)]; exact h.2.2.1, by rw [hf _ (by omega)]; exact h.2.2.2⟩
theorem mvOK.fr {v v' : Nat → Nat → Int32} {m : Pm} (h : mvOK v 15 m) (h1 : v' 15 = v 15) (h2 : v' 16 = v 16) : mvOK v' 15 m :=
  ⟨by rw [h1]; exact h.1, h.2.1, fun i hi => by rw [h2]; exact h.2.2 i hi⟩
section Pln
variable {G : cx_G} {v : Nat → Nat → Int32} {b : Nat → Nat → Bool}
set_option maxHeartbeats 4000000 in
set_option maxRecDepth 100000 in
theorem ct_P_addWay {g B : Nat} {π : List Nat} {m : Pm} (hw : wayV v g π) (h4 : ∀ d ∈ π, d < 4) (hm : mvOK v 15 m) (ho : okP B m) (hB : B < 800000) : Ct G mP_addWay [.ref (cxa G 27), .int (nI g)] (wl G v b) (fun x w' => ∃ (v' : Nat → Nat → Int32) (ok : Bool), w' = wl G v' b ∧ x = some (.int (bI ok)) ∧ (∀ p, p ≠ 15 → p ≠ 16 → p ≠ 28 → v' p = v p) ∧ (ok = true → mvOK v' 15 (pmW m π) ∧ okP (B + π.length) (pmW m π)) ∧ (ok = false → 2000 < (pmW m π).1)) := by
  have hl := hw.len
  refine Ct.of (by decide) rfl rfl (Nat.le_of_ble_eq_true rfl) ?_
  refine Ev.aload_n (pc := 0) (i := 0) dP_addWay_0 rfl rfl ?_
  refine Ev.gf (pc := 1) dP_addWay_1 fl_P_23 (by omega) (rfl) rfl ?_
  refine Ev.iload_n (pc := 4) (i := 1) dP_addWay_4 rfl rfl ?_
  refine Ev.aload_n (pc := 5) (i := 0) dP_addWay_5 rfl rfl ?_
  refine Ev.gf (pc := 6) dP_addWay_6 fl_P_9 (by omega) (rfl) rfl ?_
  refine Ev.callV (pc := 9) dP_addWay_9 kv_P_85 ⟨Nat.le_of_ble_eq_true rfl, Nat.le_of_ble_eq_true rfl⟩ (wl_at (by decide) rfl) rfl rfl (ct_W_tellWay hw) rfl rfl (Nat.le_of_ble_eq_true rfl) ?_
  rintro _ _ ⟨v1, rfl, hF1, rfl, hd1⟩
  refine Ev.istore_n (pc := 12) (i := 2) dP_addWay_12 rfl (Nat.le_of_ble_eq_true rfl) ?_
  refine Ev.iconst (pc := 13) (v := 0) dP_addWay_13 (by decide) ?_
  refine Ev.istore_n (pc := 14) (i := 3) dP_addWay_14 rfl (Nat.le_of_ble_eq_true rfl) ?_
  have loop : ∀ i, i ≤ π.length → ∀ (v' : Nat → Nat → Int32) (m' : Pm) (l4 : Option Value), (∀ p, p ≠ 15 → p ≠ 16 → p ≠ 28 → v' p = v p) → (∀ i d, π[i]? = some d → v' 28 i = nI d) → mvOK v' 15 m' → okP (B + i) m' → pmW m' (π.drop i) = pmW m π → Ev G mP_addWay 15 [some (.ref (cxa G 27)), some (.int (nI g)), some (.int (nI π.length)), some (.int (nI i)), l4] [] (wl G v' b) (cx_e G mP_addWay (fun x w' => ∃ (v' : Nat → Nat → Int32) (ok : Bool), w' = wl G v' b ∧ x = some (.int (bI ok)) ∧ (∀ p, p ≠ 15 → p ≠ 16 → p ≠ 28 → v' p = v p) ∧ (ok = true → mvOK v' 15 (pmW m π) ∧ okP (B + π.length) (pmW m π)) ∧ (ok = false → 2000 < (pmW m π).1))) := by
    refine loopN (fun i hi ih v' m' l4 hF hd hm' ho' he => ?_)
    refine Ev.iload_n (pc := 15) (i := 3) dP_addWay_15 rfl rfl ?_
    refine Ev.iload_n (pc := 16) (i := 2) dP_addWay_16 rfl rfl ?_
    refine Ev.cicmp_ge (nI_toInt (by omega)) (nI_toInt (by omega)) (pc := 17) (tgt := 60) dP_addWay_17 rfl (fun h => ?_) (fun h => ?_)
    · have e : i = π.length := by omega
      subst e
      rw [List.drop_length] at he
      have he : m' = pmW m π := he
      refine Ev.iconst (pc := 60) (v := 1) dP_addWay_60 (by decide) ?_
      exact Ev.zreturn (b := true) dP_addWay_61 rfl ⟨v', true, rfl, rfl, hF, fun _ => by rw [← he]; exact ⟨hm', ho'⟩, fun e => (by cases e)⟩
    have hlt : i < π.length := by omega
    have hget : π[i]? = some π[i] := List.getElem?_eq_getElem hlt
    have hdi := hd i _ hget
    have hd4 : π[i] < 4 := h4 _ (List.getElem_mem hlt)
    have hdrop : π.drop i = π[i] :: π.drop (i + 1) := List.drop_eq_getElem_cons hlt
    rw [hdrop] at he
    have he : pmW (pmS m' (if π.drop (i + 1) = [] then 1 else 0) π[i]) (π.drop (i + 1)) = pmW m π := he
    have hsub : (nI π.length - 1).toInt = (π.length : Int) - 1 := sub1 (by omega)
    have fin : ∀ k, k < 2 → (if π.drop (i + 1) = [] then 1 else 0) = k → Ev G mP_addWay 32 [some (.ref (cxa G 27)), some (.int (nI g)), some (.int (nI π.length)), some (.int (nI i)), l4] [.int (nI k)] (wl G v' b) (cx_e G mP_addWay (fun x w' => ∃ (v' : Nat → Nat → Int32) (ok : Bool), w' = wl G v' b ∧ x = some (.int (bI ok)) ∧ (∀ p, p ≠ 15 → p ≠ 16 → p ≠ 28 → v' p = v p) ∧ (ok = true → mvOK v' 15 (pmW m π) ∧ okP (B + π.length) (pmW m π)) ∧ (ok = false → 2000 < (pmW m π).1))) := by
      intro k hk hke
      rw [hke] at he
      refine Ev.istore (pc := 32) dP_addWay_32 (Nat.le_of_ble_eq_true rfl) ?_
      refine Ev.aload_n (pc := 34) (i := 0) dP_addWay_34 rfl rfl ?_
      refine Ev.gf (pc := 35) dP_addWay_35 fl_P_31 (by omega) (rfl) rfl ?_
      refine Ev.iload (pc := 38) dP_addWay_38 rfl ?_
      refine Ev.aload_n (pc := 40) (i := 0) dP_addWay_40 rfl rfl ?_
      refine Ev.gf (pc := 41) dP_addWay_41 fl_P_9 (by omega) (rfl) rfl ?_
      refine Ev.iload_n (pc := 44) (i := 3) dP_addWay_44 rfl rfl ?_
      refine Ev.aldi (pc := 45) dP_addWay_45 (by omega) (by first | exact fun _ _ => rfl | exact cell_dz hj | exact cell_dr hj | exact cell_mr hk | exact cell_sr hk) _ (rfl) (by omega) (by decide) ?_
      refine Ev.topi hdi ?_
      refine Ev.callV (pc := 46) dP_addWay_46 kv_P_89 ⟨Nat.le_of_ble_eq_true rfl, Nat.le_of_ble_eq_true rfl⟩ (wl_at (by decide) rfl) rfl rfl (ct_M_addStep hm' ho' (by omega) hk hd4) rfl rfl (Nat.le_of_ble_eq_true rfl) ?_
      rintro _ _ ⟨v2, ok, rfl, rfl, hF2, ht, hf⟩
      refine Ev.if_neB (pc := 49) (tgt := 54) dP_addWay_49 rfl (fun h3 => ?_) (fun h3 => ?_)
      · refine Ev.iinc (pc := 54) dP_addWay_54 rfl (cx_inc _) (Nat.le_of_ble_eq_true rfl) ?_
        refine Ev.goto (pc := 57) (tgt := 15) dP_addWay_57 rfl ?_
        refine ih hlt v2 _ _ (fun p a1 a2 a3 => by rw [hF2 p a1 a2]; exact hF p a1 a2 a3) (fun t d ht => by rw [hF2 28 (by decide) (by decide)]; exact hd t d ht) (ht h3) ?_ he
        exact okP_S ho' hk hd4
      · refine Ev.iconst (pc := 52) (v := 0) dP_addWay_52 (by decide) ?_
        refine Ev.zreturn (b := false) dP_addWay_53 rfl ⟨v2, false, rfl, rfl, fun p a1 a2 a3 => by rw [hF2 p a1 a2]; exact hF p a1 a2 a3, fun e => (by cases e), fun _ => ?_⟩
        rw [← he]
        exact Nat.lt_of_lt_of_le (hf h3) (pmW_len _ _)
    refine Ev.iload_n (pc := 20) (i := 3) dP_addWay_20 rfl rfl ?_
    refine Ev.iload_n (pc := 21) (i := 2) dP_addWay_21 rfl rfl ?_
    refine Ev.iconst (pc := 22) (v := 1) dP_addWay_22 (by decide) ?_
    refine Ev.isub (pc := 23) dP_addWay_23 ?_
    refine Ev.cicmp_ne (nI_toInt (by omega)) (hsub) (pc := 24) (tgt := 31) dP_addWay_24 rfl (fun h2 => ?_) (fun h2 => ?_)
    · refine Ev.iconst (pc := 31) (v := 0) dP_addWay_31 (by decide) ?_
      exact fin 0 (by decide) (if_neg (fun e => by have := List.drop_eq_nil_iff.mp e; omega))
    · refine Ev.iconst (pc := 27) (v := 1) dP_addWay_27 (by decide) ?_
      refine Ev.goto (pc := 28) (tgt := 32) dP_addWay_28 rfl ?_
      exact fin 1 (by decide) (if_pos (List.drop_eq_nil_iff.mpr (by omega)))
  exact loop 0 (Nat.zero_le _) v1 m none (fun p _ _ a => hF1 p a) hd1 (hm.fr (hF1 15 (by decide)) (hF1 16 (by decide))) ho rfl
set_option maxHeartbeats 4000000 in
set_option maxRecDepth 100000 in
theorem ct_P_useInsert {C : Int32} {sy : Nat → Int32} {I : Ins} {j B : Nat} {m : Pm} (hj : j < 3) (hI : insV v j I) (hC : v 1 2 = C) (hsy : v 2 = sy) (hm : mvOK v 15 m) (ho : okP B m) (hB : B < 700000) : Ct G mP_useInsert [.ref (cxa G 27), .ref (cxa G (4 + 3 * j))] (wl G v b) (fun x w' => ∃ (v' : Nat → Nat → Int32) (b' : Nat → Nat → Bool) (ok : Bool), w' = wl G v' b' ∧ x = some (.int (bI ok)) ∧ pFr v v' ∧ (∀ p, p ≠ 22 → b' p = b p) ∧ (ok = true → mvOK v' 15 (rdF C sy I 96 (m, b 22, 15)).1 ∧ okP (B + 30720) (rdF C sy I 96 (m, b 22, 15)).1 ∧ b' 22 = (rdF C sy I 96 (m, b 22, 15)).2) ∧ (ok = false → 2000 < (rdF C sy I 96 (m, b 22, 15)).1.1)) := by
  refine Ct.of (by decide) rfl rfl (Nat.le_of_ble_eq_true rfl) ?_
  refine Ev.bipush (pc := 0) (v := 15) dP_useInsert_0 (by decide) ?_
  refine Ev.istore_n (pc := 2) (i := 2) dP_useInsert_2 rfl (Nat.le_of_ble_eq_true rfl) ?_
  refine Ev.iconst (pc := 3) (v := 0) dP_useInsert_3 (by decide) ?_
  refine Ev.istore_n (pc := 4) (i := 3) dP_useInsert_4 rfl (Nat.le_of_ble_eq_true rfl) ?_
  have loop : ∀ i, i ≤ 96 → ∀ (v' : Nat → Nat → Int32) (b' : Nat → Nat → Bool) (m' : Pm) (p : Nat) (l4 : Option Value), pFr v v' → (∀ p, p ≠ 22 → b' p = b p) → mvOK v' 15 m' → okP (B + i * 320) m' → p < 320 → rdF C sy I (96 - i) (m', b' 22, p) = rdF C sy I 96 (m, b 22, 15) → Ev G mP_useInsert 5 [some (.ref (cxa G 27)), some (.ref (cxa G (4 + 3 * j))), some (.int (nI p)), some (.int (nI i)), l4] [] (wl G v' b') (cx_e G mP_useInsert (fun x w' => ∃ (v' : Nat → Nat → Int32) (b' : Nat → Nat → Bool) (ok : Bool), w' = wl G v' b' ∧ x = some (.int (bI ok)) ∧ pFr v v' ∧ (∀ p, p ≠ 22 → b' p = b p) ∧ (ok = true → mvOK v' 15 (rdF C sy I 96 (m, b 22, 15)).1 ∧ okP (B + 30720) (rdF C sy I 96 (m, b 22, 15)).1 ∧ b' 22 = (rdF C sy I 96 (m, b 22, 15)).2) ∧ (ok = false → 2000 < (rdF C sy I 96 (m, b 22, 15)).1.1))) := by
    refine loopN (fun i hi ih v' b' m' p l4 hF hFb hm' ho' hp he => ?_)
    have hI' := hI.pf hj hF
    have hC' : v' 1 2 = C := by rw [hF 1 (by omega)]; exact hC
    have hsy' : v' 2 = sy := by rw [hF 2 (by omega)]; exact hsy
    refine Ev.iload_n (pc := 5) (i := 3) dP_useInsert_5 rfl rfl ?_
    refine Ev.bipush (pc := 6) (v := 96) dP_useInsert_6 (by decide) ?_
    refine Ev.cicmp_ge (nI_toInt (by omega)) ((show (96 : Int32).toInt = 96 from by decide)) (pc := 8) (tgt := 73) dP_useInsert_8 rfl (fun h => ?_) (fun h => ?_)
    · have e : i = 96 := by omega
      subst e
      have he : (m', b' 22) = rdF C sy I 96 (m, b 22, 15) := he
      refine Ev.iconst (pc := 73) (v := 1) dP_useInsert_73 (by decide) ?_
      exact Ev.zreturn (b := true) dP_useInsert_74 rfl ⟨v', b', true, rfl, rfl, hF, hFb, fun _ => by rw [← he]; exact ⟨hm', ho', rfl⟩, fun e => (by cases e)⟩
    have hlt : i < 96 := by omega
    refine Ev.aload_n (pc := 11) (i := 0) dP_useInsert_11 rfl rfl ?_
    refine Ev.gf (pc := 12) dP_useInsert_12 fl_P_23 (by omega) (rfl) rfl ?_
    refine Ev.aload_n (pc := 15) (i := 1) dP_useInsert_15 rfl rfl ?_
    refine Ev.aload_n (pc := 16) (i := 0) dP_useInsert_16 rfl rfl ?_
    refine Ev.gf (pc := 17) dP_useInsert_17 fl_P_27 (by omega) (rfl) rfl ?_
    refine Ev.iload_n (pc := 20) (i := 2) dP_useInsert_20 rfl rfl ?_
    refine Ev.callV (pc := 21) dP_useInsert_21 kv_P_64 ⟨Nat.le_of_ble_eq_true rfl, Nat.le_of_ble_eq_true rfl⟩ (wl_at (by decide) rfl) rfl rfl (ct_W_findNearestStock (k := 1) hj (by decide) hI' hC' hsy' hp) rfl rfl (Nat.le_of_ble_eq_true rfl) ?_
    rintro _ _ ⟨v1, rfl, hF1, ⟨hl, rfl⟩ | ⟨g, π, hl, rfl, hg, hway⟩⟩
    · refine Ev.istore (pc := 24) dP_useInsert_24 (Nat.le_of_ble_eq_true rfl) ?_
      refine Ev.iload (pc := 26) dP_useInsert_26 rfl ?_
      refine Ev.iconst (pc := 28) (v := (-1)) dP_useInsert_28 (by decide) ?_
      refine Ev.cicmp_ne (show (-1 : Int32).toInt = -1 from by decide) (show (-1 : Int32).toInt = -1 from by decide) (pc := 29) (tgt := 34) dP_useInsert_29 rfl (fun h => absurd rfl h) (fun _ => ?_)
      refine Ev.iconst (pc := 32) (v := 1) dP_useInsert_32 (by decide) ?_
      have e2 : rdF C sy I (96 - i) (m', b' 22, p) = (m', b' 22) := rdF_none hl
      rw [e2] at he
      exact Ev.zreturn (b := true) dP_useInsert_33 rfl ⟨v1, b', true, rfl, rfl, hF.tr hF1.p, hFb, fun _ => by rw [← he]; exact ⟨hm'.fr (hF1 15 (by decide) (by decide) (by decide) (by decide)) (hF1 16 (by decide) (by decide) (by decide) (by decide)), ho'.mono (by omega), rfl⟩, fun e => (by cases e)⟩
    · have hm1 : mvOK v1 15 m' := hm'.fr (hF1 15 (by decide) (by decide) (by decide) (by decide)) (hF1 16 (by decide) (by decide) (by decide) (by decide))
      have hπ := hway.len
      obtain ⟨n, hn⟩ : ∃ n, 96 - i = n + 1 := ⟨95 - i, by omega⟩
      have e2 : rdF C sy I (96 - i) (m', b' 22, p) = rdF C sy I n (pmW m' π, (ctI (b' 22) I g).2, g) := by rw [hn]; exact rdF_some hl
      rw [e2] at he
      refine Ev.istore (pc := 24) dP_useInsert_24 (Nat.le_of_ble_eq_true rfl) ?_
      refine Ev.iload (pc := 26) dP_useInsert_26 rfl ?_
      refine Ev.iconst (pc := 28) (v := (-1)) dP_useInsert_28 (by decide) ?_
      refine Ev.cicmp_ne (nI_toInt (by omega)) ((show (-1 : Int32).toInt = -1 from by decide)) (pc := 29) (tgt := 34) dP_useInsert_29 rfl (fun h2 => ?_) (fun h2 => ?_)
      · refine Ev.aload_n (pc := 34) (i := 0) dP_useInsert_34 rfl rfl ?_
        refine Ev.iload (pc := 35) dP_useInsert_35 rfl ?_
        refine Ev.callV (pc := 37) dP_useInsert_37 kv_P_70 ⟨Nat.le_of_ble_eq_true rfl, Nat.le_of_ble_eq_true rfl⟩ (wl_at (by decide) rfl) rfl rfl (ct_P_addWay hway (wk_dirs π _ _ hl.2.1) hm1 ho' (by omega)) rfl rfl (Nat.le_of_ble_eq_true rfl) ?_
        rintro _ _ ⟨v2, ok, rfl, rfl, hF2, ht, hf⟩
        have hF2p : pFr v1 v2 := fun p a => hF2 p (by omega) (by omega) (by omega)
        have hFa : pFr v v2 := (hF.tr hF1.p).tr hF2p
        have hI2 := hI.pf hj hFa
        refine Ev.if_neB (pc := 40) (tgt := 45) dP_useInsert_40 rfl (fun h3 => ?_) (fun h3 => ?_)
        · obtain ⟨hm2, ho2⟩ := ht h3
          refine Ev.aload_n (pc := 45) (i := 0) dP_useInsert_45 rfl rfl ?_
          refine Ev.gf (pc := 46) dP_useInsert_46 fl_P_27 (by omega) (rfl) rfl ?_
          refine Ev.aload_n (pc := 49) (i := 1) dP_useInsert_49 rfl rfl ?_
          refine Ev.iload (pc := 50) dP_useInsert_50 rfl ?_
          refine Ev.callN (pc := 52) dP_useInsert_52 kn_P_74 ⟨Nat.le_of_ble_eq_true rfl, Nat.le_of_ble_eq_true rfl⟩ (ct_T_zOf _ hg) rfl rfl (Nat.le_of_ble_eq_true rfl) ?_
          rintro _ _ ⟨rfl, rfl⟩
          refine Ev.iload (pc := 55) dP_useInsert_55 rfl ?_
          refine Ev.callN (pc := 57) dP_useInsert_57 kn_P_78 ⟨Nat.le_of_ble_eq_true rfl, Nat.le_of_ble_eq_true rfl⟩ (ct_T_rOf _ hg) rfl rfl (Nat.le_of_ble_eq_true rfl) ?_
          rintro _ _ ⟨rfl, rfl⟩
          refine Ev.callV (pc := 60) dP_useInsert_60 kv_P_81 ⟨Nat.le_of_ble_eq_true rfl, Nat.le_of_ble_eq_true rfl⟩ (wl_at (by decide) rfl) rfl rfl (ct_S_cutBy (k := 1) (by decide) hj hI2.1 hI2.2.1 _ _) rfl rfl (Nat.le_of_ble_eq_true rfl) ?_
          rintro _ _ ⟨rfl, rfl⟩
          rw [hI2.2.2.1, hI2.2.2.2]
          refine Ev.pop (pc := 63) dP_useInsert_63 rfl ?_
          refine Ev.iload (pc := 64) dP_useInsert_64 rfl ?_
          refine Ev.istore_n (pc := 66) (i := 2) dP_useInsert_66 rfl (Nat.le_of_ble_eq_true rfl) ?_
          refine Ev.iinc (pc := 67) dP_useInsert_67 rfl (cx_inc _) (Nat.le_of_ble_eq_true rfl) ?_
          refine Ev.goto (pc := 70) (tgt := 5) dP_useInsert_70 rfl ?_
          refine ih hlt v2 _ _ g _ hFa (fun q hq => by rw [up_ne (by omega)]; exact hFb q hq) hm2 (ho2.mono (by omega)) hg ?_
          rw [show 96 - (i + 1) = n by omega, ← he, up_at]
          rfl
        · refine Ev.iconst (pc := 43) (v := 0) dP_useInsert_43 (by decide) ?_
          refine Ev.zreturn (b := false) dP_useInsert_44 rfl ⟨v2, b', false, rfl, rfl, hFa, hFb, fun e => (by cases e), fun _ => ?_⟩
          rw [← he]
          exact Nat.lt_of_lt_of_le (hf h3) (rdF_len n (pmW m' π, (ctI (b' 22) I g).2, g))
      · omega
  exact loop 0 (Nat.zero_le _) v b m 15 none (fun _ _ => rfl) (fun _ _ => rfl) hm ho (by decide) rfl
set_option maxHeartbeats 4000000 in
set_option maxRecDepth 100000 in
theorem ct_S_fill {k : Nat} (hk : k < 2) : Ct G mS_fillFrom [.ref (cxa G (19 + 2 * k)), .ref (cxa G 1)] (wl G v b) (fun x w' => w' = wl G v (va_up b (20 + 2 * k) (fillM (v 1 0) (v 1 1) (b (20 + 2 * k)) 96)) ∧ x = none) := by
  refine Ct.mono (ct_S_fillFrom (wl_at (p := 1) (by decide) rfl) (wl_st hk) (wl_sr hk) (by omega) (by omega)) (fun r w' h => ⟨?_, h.2⟩)
  rw [h.1]
  exact wl_setb (by omega) (cell_sr hk _ _).symm
set_option maxHeartbeats 4000000 in
set_option maxRecDepth 100000 in
theorem ct_P_make {C : Int32} {sy : Nat → Int32} {Is : Nat → Ins} {c : Nat} {J : Nat → Nat} (hI : ∀ j, j < 3 → insV v j (Is j)) (hC : v 1 2 = C) (hsy : v 2 = sy) (hJ : jobOK v c J) : Ct G mP_make [.ref (cxa G 27)] (wl G v b) (fun x w' => ∃ (v' : Nat → Nat → Int32) (b' : Nat → Nat → Bool) (ok : Bool), w' = wl G v' b' ∧ x = some (.int (bI ok)) ∧ pFr v v' ∧ (∀ p, p ≠ 22 → b' p = b p) ∧ (ok = true → mvOK v' 15 (mkF C sy (fun k => Is (J k)) (fillM (v 1 0) (v 1 1) (b 22) 96) c).1 ∧ okP 92160 (mkF C sy (fun k => Is (J k)) (fillM (v 1 0) (v 1 1) (b 22) 96) c).1 ∧ b' 22 = (mkF C sy (fun k => Is (J k)) (fillM (v 1 0) (v 1 1) (b 22) 96) c).2) ∧ (ok = false → 2000 < (mkF C sy (fun k => Is (J k)) (fillM (v 1 0) (v 1 1) (b 22) 96) c).1.1)) := by
  obtain ⟨hc3, hc, hJ⟩ := hJ
  have hcI : (v 13 2).toInt = (c : Int) := by rw [hc]; exact nI_toInt (by omega)
  refine Ct.of (by decide) rfl rfl (Nat.le_of_ble_eq_true rfl) ?_
  refine Ev.aload_n (pc := 0) (i := 0) dP_make_0 rfl rfl ?_
  refine Ev.gf (pc := 1) dP_make_1 fl_P_27 (by omega) (rfl) rfl ?_
  refine Ev.aload_n (pc := 4) (i := 0) dP_make_4 rfl rfl ?_
  refine Ev.gf (pc := 5) dP_make_5 fl_P_15 (by omega) (rfl) rfl ?_
  refine Ev.callV (pc := 8) dP_make_8 kv_P_35 ⟨Nat.le_of_ble_eq_true rfl, Nat.le_of_ble_eq_true rfl⟩ (wl_at (by decide) rfl) rfl rfl (ct_S_fill (k := 1) (by decide)) rfl rfl (Nat.le_of_ble_eq_true rfl) ?_
  rintro _ _ ⟨rfl, rfl⟩
  refine Ev.aload_n (pc := 11) (i := 0) dP_make_11 rfl rfl ?_
  refine Ev.gf (pc := 12) dP_make_12 fl_P_31 (by omega) (rfl) rfl ?_
  refine Ev.iconst (pc := 15) (v := 0) dP_make_15 (by decide) ?_
  refine Ev.puti (pc := 16) dP_make_16 fl_P_41 fp_M_size (by omega) (rfl) rfl (Nat.le_of_ble_eq_true rfl) ?_
  refine Ev.iconst (pc := 19) (v := 0) dP_make_19 (by decide) ?_
  refine Ev.istore_n (pc := 20) (i := 1) dP_make_20 rfl (Nat.le_of_ble_eq_true rfl) ?_
  have loop : ∀ i, i ≤ c → ∀ (v' : Nat → Nat → Int32) (b' : Nat → Nat → Bool), pFr v v' → (∀ p, p ≠ 22 → b' p = b p) → mvOK v' 15 (mkF C sy (fun k => Is (J k)) (fillM (v 1 0) (v 1 1) (b 22) 96) i).1 → okP (i * 30720) (mkF C sy (fun k => Is (J k)) (fillM (v 1 0) (v 1 1) (b 22) 96) i).1 → b' 22 = (mkF C sy (fun k => Is (J k)) (fillM (v 1 0) (v 1 1) (b 22) 96) i).2 → Ev G mP_make 21 [some (.ref (cxa G 27)), some (.int (nI i))] [] (wl G v' b') (cx_e G mP_make (fun x w' => ∃ (v' : Nat → Nat → Int32) (b' : Nat → Nat → Bool) (ok : Bool), w' = wl G v' b' ∧ x = some (.int (bI ok)) ∧ pFr v v' ∧ (∀ p, p ≠ 22 → b' p = b p) ∧ (ok = true → mvOK v' 15 (mkF C sy (fun k => Is (J k)) (fillM (v 1 0) (v 1 1) (b 22) 96) c).1 ∧ okP 92160 (mkF C sy (fun k => Is (J k)) (fillM (v 1 0) (v 1 1) (b 22) 96) c).1 ∧ b' 22 = (mkF C sy (fun k => Is (J k)) (fillM (v 1 0) (v 1 1) (b 22) 96) c).2) ∧ (ok = false → 2000 < (mkF C sy (fun k => Is (J k)) (fillM (v 1 0) (v 1 1) (b 22) 96) c).1.1))) := by
    refine loopN (fun i hi ih v' b' hF hFb hm ho hX => ?_)
    have hcI' : (v' 13 2).toInt = (c : Int) := by rw [hF 13 (by omega)]; exact hcI
    refine Ev.iload_n (pc := 21) (i := 1) dP_make_21 rfl rfl ?_
    refine Ev.aload_n (pc := 22) (i := 0) dP_make_22 rfl rfl ?_
    refine Ev.gf (pc := 23) dP_make_23 fl_P_19 (by omega) (rfl) rfl ?_
    refine Ev.gf (pc := 26) dP_make_26 fl_P_47 (by omega) (rfl) rfl ?_
    refine Ev.cicmp_ge (nI_toInt (by omega)) (hcI') (pc := 29) (tgt := 65) dP_make_29 rfl (fun h => ?_) (fun h => ?_)
    · have e : i = c := by omega
      subst e
      refine Ev.iconst (pc := 65) (v := 1) dP_make_65 (by decide) ?_
      exact Ev.zreturn (b := true) dP_make_66 rfl ⟨v', b', true, rfl, rfl, hF, hFb, fun _ => ⟨hm, ho.mono (by omega), hX⟩, fun e => (by cases e)⟩
    have hlt : i < c := by omega
    obtain ⟨j3, jr⟩ := hJ i hlt
    refine Ev.aload_n (pc := 32) (i := 0) dP_make_32 rfl rfl ?_
    refine Ev.gf (pc := 33) dP_make_33 fl_P_31 (by omega) (rfl) rfl ?_
    refine Ev.callV (pc := 36) dP_make_36 kv_P_52 ⟨Nat.le_of_ble_eq_true rfl, Nat.le_of_ble_eq_true rfl⟩ (wl_at (by decide) rfl) rfl rfl (ct_M_addChange hm) rfl rfl (Nat.le_of_ble_eq_true rfl) ?_
    rintro _ _ ⟨v2, ok, rfl, rfl, hF2, ht, hf⟩
    have hF2p : pFr v v2 := hF.tr (fun p a => hF2 p (by omega) (by omega))
    have hsucc : (mkF C sy (fun k => Is (J k)) (fillM (v 1 0) (v 1 1) (b 22) 96) (i + 1)) = rdF C sy (Is (J i)) 96 (pmC (mkF C sy (fun k => Is (J k)) (fillM (v 1 0) (v 1 1) (b 22) 96) i).1, (mkF C sy (fun k => Is (J k)) (fillM (v 1 0) (v 1 1) (b 22) 96) i).2, 15) := rfl
    refine Ev.if_eqB (pc := 39) (tgt := 57) dP_make_39 rfl (fun h2 => ?_) (fun h2 => ?_)
    · refine Ev.iconst (pc := 57) (v := 0) dP_make_57 (by decide) ?_
      refine Ev.zreturn (b := false) dP_make_58 rfl ⟨v2, b', false, rfl, rfl, hF2p, hFb, fun e => (by cases e), fun _ => ?_⟩
      refine Nat.lt_of_lt_of_le (hf h2) (Nat.le_trans ?_ (mkF_len (k := i + 1) (by omega)))
      rw [hsucc]
      exact rdF_len 96 (pmC (mkF C sy (fun k => Is (J k)) (fillM (v 1 0) (v 1 1) (b 22) 96) i).1, (mkF C sy (fun k => Is (J k)) (fillM (v 1 0) (v 1 1) (b 22) 96) i).2, 15)
    refine Ev.aload_n (pc := 42) (i := 0) dP_make_42 rfl rfl ?_
    refine Ev.aload_n (pc := 43) (i := 0) dP_make_43 rfl rfl ?_
    refine Ev.gf (pc := 44) dP_make_44 fl_P_19 (by omega) (rfl) rfl ?_
    refine Ev.iload_n (pc := 47) (i := 1) dP_make_47 rfl rfl ?_
    refine Ev.callV (pc := 48) dP_make_48 kv_P_56 ⟨Nat.le_of_ble_eq_true rfl, Nat.le_of_ble_eq_true rfl⟩ (wl_at (by decide) rfl) rfl rfl (ct_J_insertAt (by omega) (by rw [hF2p 14 (by omega)]; exact jr) j3) rfl rfl (Nat.le_of_ble_eq_true rfl) ?_
    rintro _ _ ⟨rfl, rfl⟩
    refine Ev.callV (pc := 51) dP_make_51 kv_P_60 ⟨Nat.le_of_ble_eq_true rfl, Nat.le_of_ble_eq_true rfl⟩ (wl_at (by decide) rfl) rfl rfl (ct_P_useInsert (C := C) (sy := sy) (B := i * 30720) j3 ((hI _ j3).pf j3 hF2p) (by rw [hF2p 1 (by omega)]; exact hC) (by rw [hF2p 2 (by omega)]; exact hsy) (ht h2) (okP_C ho) (by omega)) rfl rfl (Nat.le_of_ble_eq_true rfl) ?_
    rintro _ _ ⟨v3, b3, ok3, rfl, rfl, hF3, hFb3, ht3, hf3⟩
    rw [hX, ← hsucc] at ht3 hf3
    refine Ev.if_neB (pc := 54) (tgt := 59) dP_make_54 rfl (fun h3 => ?_) (fun h3 => ?_)
    · obtain ⟨m3, o3, x3⟩ := ht3 h3
      refine Ev.iinc (pc := 59) dP_make_59 rfl (cx_inc _) (Nat.le_of_ble_eq_true rfl) ?_
      refine Ev.goto (pc := 62) (tgt := 21) dP_make_62 rfl ?_
      exact ih hlt v3 b3 (hF2p.tr hF3) (fun p hp => by rw [hFb3 p hp]; exact hFb p hp) m3 (o3.mono (by omega)) x3
    · refine Ev.iconst (pc := 57) (v := 0) dP_make_57 (by decide) ?_
      exact Ev.zreturn (b := false) dP_make_58 rfl ⟨v3, b3, false, rfl, rfl, hF2p.tr hF3, fun p hp => by rw [hFb3 p hp]; exact hFb p hp, fun e => (by cases e), fun _ => Nat.lt_of_lt_of_le (hf3 h3) (mkF_len (by omega))⟩
  refine loop 0 (Nat.zero_le _) _ _ (fun p a => by rw [sv_p (by omega)]) (fun p hp => by rw [up_ne (by omega)]) ⟨by rw [sv_eq]; rfl, by show 0 ≤ 2000; omega, fun i hi => absurd hi (by show ¬ i < 0; omega)⟩ (fun i hi => absurd hi (by show ¬ i < 0; omega)) ?_
  exact up_at _ _ _
end Pln
