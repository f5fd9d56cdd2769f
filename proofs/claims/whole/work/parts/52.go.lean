/-! The reference: a leg gone; what a cut does -/
theorem leastN {P : Nat → Prop} : (∃ n, P n) → ∃ n, P n ∧ ∀ m, m < n → ¬ P m := by
  rintro ⟨n, h⟩
  induction n using Nat.strongRecOn with
  | _ n ih =>
    by_cases e : ∃ m, m < n ∧ P m
    · obtain ⟨m, h1, h2⟩ := e
      exact ih m h1 h2
    · exact ⟨n, h, fun m h1 h2 => e ⟨m, h1, h2⟩⟩
theorem gr_ex {ok ex : Nat → Bool} {g : Nat} {t : Nat → Nat} (hg : ok g = true) (h : dk nxt ok (fun q => q == g || ex q) g t) : ∀ n p, t p = n → n < 100000 → ∃ π, gr nxt ok ex g t p π := by
  intro n
  induction n with
  | zero =>
    intro p hp hn
    by_cases e : p = g
    · exact ⟨[], e⟩
    · have := (dk.turn (op := opp) nxt_opp hg h e (by omega)).1
      omega
  | succ n ih =>
    intro p hp hn
    by_cases e : p = g
    · exact ⟨[], e⟩
    · obtain ⟨d, ⟨q, h1, h2⟩, h3⟩ := leastN (P := fun d => ∃ q, nxt p d = some q ∧ gon ok ex g t q (t p - 1)) (dk.turn (op := opp) nxt_opp hg h e (by omega)).2
      obtain ⟨π, hπ⟩ := ih q (by rw [h2.2.1, hp]; rfl) (by omega)
      exact ⟨d :: π, e, q, h1, h2, fun d' q' hd' hn' hg' => h3 d' hd' ⟨q', hn', hg'⟩, hπ⟩
theorem onB_iff {ok cov : Nat → Bool} {t : Nat → Nat} {g q m : Nat} : onB ok cov t g q m = true ↔ gon ok (fun p => !cov p) g t q m := by
  unfold onB gon
  simp only [Bool.and_eq_true, Bool.or_eq_true, decide_eq_true_eq, beq_iff_eq]
  exact and_assoc
theorem cut_sub {X : Nat → Bool} {dz dr : Nat → Int32} {z r : Int32} {c : Nat} : ∀ k, (cutF X dz dr z r k).2 c = true → X c = true
  | 0, h => h
  | k + 1, h => by
    simp only [cutF] at h
    split at h
    · by_cases e : c = cix (z + dz k) (r + dr k)
      · have h : va_up (cutF X dz dr z r k).2 (cix (z + dz k) (r + dr k)) false c = true := h
        rw [e, up_at] at h
        cases h
      · have h : va_up (cutF X dz dr z r k).2 (cix (z + dz k) (r + dr k)) false c = true := h
        rw [up_ne e] at h
        exact cut_sub k h
    · exact cut_sub k h
theorem cut_clear {X : Nat → Bool} {dz dr : Nat → Int32} {z r : Int32} {i : Nat} : ∀ k, i < k → hasB (cutF X dz dr z r k).2 (z + dz i) (r + dr i) = false
  | 0, h => absurd h (by omega)
  | k + 1, h => by
    have key : hasB (cutF X dz dr z r k).2 (z + dz i) (r + dr i) = false ∨ i = k := by
      by_cases e : i = k
      · exact Or.inr e
      · exact Or.inl (cut_clear k (by omega))
    simp only [cutF]
    split
    · rename_i e
      show hasB (va_up (cutF X dz dr z r k).2 (cix (z + dz k) (r + dr k)) false) (z + dz i) (r + dr i) = false
      unfold hasB
      by_cases e2 : cix (z + dz i) (r + dr i) = cix (z + dz k) (r + dr k)
      · rw [e2, up_at]
        simp
      · rw [up_ne e2]
        rcases key with k1 | k1
        · exact k1
        · rw [k1] at e2
          exact absurd rfl e2
    · rename_i e
      rcases key with k1 | k1
      · exact k1
      · rw [k1]
        exact bf e
theorem cut_lt {X : Nat → Bool} {I : Ins} {p : Nat} (h : cvI X I p = true) : cntB 96 (ctI X I p).2 < cntB 96 X := by
  obtain ⟨i, hi, h1⟩ := anyB_iff.mp h
  have h2 := cut_clear (X := X) (dz := I.2.1) (dr := I.2.2) (z := zP p) (r := rP p) (i := i) I.1 hi
  unfold hasB at h1 h2
  simp only [Bool.and_eq_true] at h1
  rw [h1.1, Bool.true_and] at h2
  exact (cntB_l2 96 (fun c _ hc => cut_sub I.1 hc)).2 _ (cix_i h1.1).2 h1.2 h2
theorem cut_cov {X : Nat → Bool} {I : Ins} {p : Nat} : cvI (ctI X I p).2 I p = false := anyB_false.mpr (fun _ hi => cut_clear I.1 hi)
theorem home_cov {X : Nat → Bool} {I : Ins} (hs : smallI I.1 I.2.1 I.2.2) : cvI X I 15 = false := by
  refine anyB_false.mpr (fun i hi => ?_)
  obtain ⟨h1, h2, h3, h4⟩ := hs i hi
  have hz : (zP 15).toInt = -4 := by decide
  have e : (zP 15 + I.2.1 i).toInt = -4 + (I.2.1 i).toInt := by rw [i3_add (by omega) (by omega) (by omega) (by omega), hz]
  unfold hasB
  rw [bf (e := cellB _ _) (fun q => by have := cellB_iff.mp q; omega)]
  rfl
theorem rd_sub {C : Int32} {sy : Nat → Int32} {I : Ins} {c : Nat} : ∀ (n : Nat) (x : Pm × (Nat → Bool) × Nat), (rdF C sy I n x).2 c = true → x.2.1 c = true
  | 0, _, h => h
  | n + 1, x, h => by
    simp only [rdF] at h
    split at h
    · exact h
    · exact cut_sub _ (rd_sub n _ h)
theorem mk_sub {C : Int32} {sy : Nat → Int32} {Js : Nat → Ins} {X : Nat → Bool} {c : Nat} : ∀ k, (mkF C sy Js X k).2 c = true → X c = true
  | 0, h => h
  | k + 1, h => mk_sub k (rd_sub 96 _ h)
theorem okP_W : ∀ (π : List Nat) (m : Pm) (B : Nat), (∀ d ∈ π, d < 4) → okP B m → okP (B + π.length) (pmW m π)
  | [], _, _, _, h => h
  | d :: ds, m, B, h4, h => by
    have h1 := okP_S (k := if ds = [] then 1 else 0) (d := d) h (by split <;> decide) (h4 d (by simp))
    have h2 := okP_W ds _ _ (fun d hd => h4 d (by simp [hd])) h1
    simp only [pmW, List.length_cons]
    rw [show B + (ds.length + 1) = B + 1 + ds.length by omega]
    exact h2
theorem gr_dirs {ok ex : Nat → Bool} {g : Nat} {t : Nat → Nat} : ∀ (u : List Nat) (p : Nat), gr nxt ok ex g t p u → ∀ d ∈ u, d < 4
  | [], _, _ => by simp
  | d :: ds, p, h => by
    obtain ⟨_, q, h1, _, _, h4⟩ := h
    intro e he
    rcases List.mem_cons.mp he with rfl | he
    · exact (nxt_lt h1).2.2
    · exact gr_dirs ds q h4 e he
def gfr (v v' : Nat → Nat → Int32) : Prop := (∀ p, p ≠ 30 → p ≠ 36 → p ≠ 37 → p ≠ 38 → p ≠ 46 → v' p = v p) ∧ ∀ k, k ≠ 10 → v' 30 k = v 30 k
section Go
variable {G : cx_G} {v : Nat → Nat → Int32} {b : Nat → Nat → Bool}
set_option maxHeartbeats 4000000 in
set_option maxRecDepth 100000 in
theorem ct_D_go {I : Ins} {j s g z B : Nat} {m : Pm} {ok : Nat → Bool} (hj : j < 3) (hI : mi v j I) (hr : ∀ q, q < 320 → b 44 q = ok q) (hs : s < 320) (hg : g < 320) (hog : ok g = true) (hos : ok s = true) (hcs : (cvI (b 43) I) s = false) (hw : ∃ u, wk nxt ok (fun p => !cvI (b 43) I p) s u = some g) (hz : 2000 ≤ z) (hz2 : z < 800000) (hm : ma v m z) (ho : okP B m) (hB : B < 800000) : Ct G mD_go [.ref (cxa G 30), .int (nI j), .int (nI s), .int (nI g)] (wl G v b) (fun y w' => ∃ (v' : Nat → Nat → Int32) (t : Nat → Nat) (π : List Nat), w' = wl G v' (va_up b 43 (ctI (b 43) I g).2) ∧ y = none ∧ gfr v v' ∧ dk nxt ok (fun q => q == g || !cvI (b 43) I q) g t ∧ gr nxt ok (fun p => !cvI (b 43) I p) g t s π ∧ π.length ≤ 320 ∧ ma v' (pmW m π) (z + 320)) := by
  refine Ct.of (by decide) rfl rfl (Nat.le_of_ble_eq_true rfl) ?_
  refine Ev.aload_n (pc := 0) (i := 0) dD_go_0 rfl rfl ?_
  refine Ev.aload_n (pc := 1) (i := 0) dD_go_1 rfl rfl ?_
  refine Ev.gf (pc := 2) dD_go_2 fl_D_66 (by omega) (rfl) rfl ?_
  refine Ev.iload_n (pc := 5) (i := 1) dD_go_5 rfl rfl ?_
  refine Ev.iload_n (pc := 6) (i := 3) dD_go_6 rfl rfl ?_
  refine Ev.callV (pc := 7) dD_go_7 kv_D_129 ⟨Nat.le_of_ble_eq_true rfl, Nat.le_of_ble_eq_true rfl⟩ (wl_at (by decide) rfl) rfl rfl (ct_D_measure_46 hj hI hg hr) rfl rfl (Nat.le_of_ble_eq_true rfl) ?_
  rintro _ _ ⟨v1, t, rfl, rfl, hF1, hT1, hB1, hdk⟩
  have hts : t s ≠ 100000 := by
    obtain ⟨u, hu⟩ := hw
    obtain ⟨u', -, hw'⟩ := wk_back (ex := (fun p => !cvI (b 43) I p)) (op := opp) nxt_opp u s hos hu
    exact (hdk.2 u' s hw').2
  obtain ⟨π, hπ⟩ := gr_ex (ex := (fun p => !cvI (b 43) I p)) hog hdk (t s) s rfl (by have := hB1 s; omega)
  have hlen : π.length = t s := (gr.spec (op := opp) (ex := (fun p => !cvI (b 43) I p)) nxt_opp hdk π s hos (Or.inr (by rw [hcs]; rfl)) hts hπ).1
  have hlen2 : π.length ≤ 320 := by have := hB1 s; omega
  have hgfr1 : gfr v v1 := ⟨fun p _ _ _ _ a => hF1 p a, fun k _ => by rw [hF1 30 (by decide)]⟩
  have hm1 : ma v1 m z := by
    unfold ma
    rw [hF1 30 (by decide), hF1 36 (by decide), hF1 37 (by decide), hF1 38 (by decide)]
    exact hm
  have loop : ∀ (u : List Nat) (p : Nat) (m' : Pm) (z' B' : Nat) (v' : Nat → Nat → Int32) (l5 : Option Value), gfr v v' → tb v' 46 t → p < 320 → t p ≠ 100000 → gr nxt ok (fun p => !cvI (b 43) I p) g t p u → pmW m' u = pmW m π → ma v' m' z' → z' + u.length ≤ z + 320 → 2000 ≤ z' → okP B' m' → B' + u.length ≤ B + 320 → Ev G mD_go 13 [some (.ref (cxa G 30)), some (.int (nI j)), some (.int (nI s)), some (.int (nI g)), some (.int (nI p)), l5] [] (wl G v' b) (cx_e G mD_go (fun y w' => ∃ (v' : Nat → Nat → Int32) (t : Nat → Nat) (π : List Nat), w' = wl G v' (va_up b 43 (ctI (b 43) I g).2) ∧ y = none ∧ gfr v v' ∧ dk nxt ok (fun q => q == g || !cvI (b 43) I q) g t ∧ gr nxt ok (fun p => !cvI (b 43) I p) g t s π ∧ π.length ≤ 320 ∧ ma v' (pmW m π) (z + 320))) := by
    intro u
    induction u with
    | nil =>
      intro p m' z' B' v' l5 hF hT hp htp hu he hm hzz hz0 ho' hBB
      have hpg : p = g := hu
      have he : m' = pmW m π := he
      refine Ev.iload (pc := 13) dD_go_13 rfl ?_
      refine Ev.iload_n (pc := 15) (i := 3) dD_go_15 rfl rfl ?_
      refine Ev.cicmp_eq (nI_toInt (by omega)) (nI_toInt (by omega)) (pc := 16) (tgt := 85) dD_go_16 rfl (fun h1 => ?_) (fun h1 => ?_)
      · refine Ev.aload_n (pc := 85) (i := 0) dD_go_85 rfl rfl ?_
        refine Ev.iload_n (pc := 86) (i := 1) dD_go_86 rfl rfl ?_
        refine Ev.iload_n (pc := 87) (i := 3) dD_go_87 rfl rfl ?_
        refine Ev.iconst (pc := 88) (v := 1) dD_go_88 (by decide) ?_
        refine Ev.callV (pc := 89) dD_go_89 kv_D_125 ⟨Nat.le_of_ble_eq_true rfl, Nat.le_of_ble_eq_true rfl⟩ (wl_at (by decide) rfl) rfl rfl (ct_D_stockAt_1 hj (hI.cg (hF.1 32 (by decide) (by decide) (by decide) (by decide) (by decide)) (hF.1 33 (by decide) (by decide) (by decide) (by decide) (by decide)) (hF.1 34 (by decide) (by decide) (by decide) (by decide) (by decide))) hg) rfl rfl (Nat.le_of_ble_eq_true rfl) ?_
        rintro _ _ ⟨rfl, rfl⟩
        refine Ev.pop (pc := 92) dD_go_92 rfl ?_
        refine Ev.vreturn dD_go_93 rfl ⟨v', t, π, rfl, rfl, hF, hdk, hπ, hlen2, ?_⟩
        rw [← he]
        rcases hm with h | ⟨h, k, k1, k2, k3⟩
        · exact Or.inl h
        · exact Or.inr ⟨h, k, k1, k2, by simp only [List.length_nil] at hzz; omega⟩
      · omega
    | cons d ds ih =>
      intro p m' z' B' v' l5 hF hT hp htp hu he hm hzz hz0 ho' hBB
      obtain ⟨hpg, q, hnx, hgon, hmin, hds⟩ := hu
      have hd4 := (nxt_lt hnx).2.2
      have hq := (nxt_lt hnx).2.1
      have hbp := hB1 p
      have hpos := (dk.turn (op := opp) (ex := (fun p => !cvI (b 43) I p)) nxt_opp hog hdk hpg htp).1
      simp only [List.length_cons] at hzz hBB
      have hIv : mi v' j I := hI.cg (hF.1 32 (by decide) (by decide) (by decide) (by decide) (by decide)) (hF.1 33 (by decide) (by decide) (by decide) (by decide) (by decide)) (hF.1 34 (by decide) (by decide) (by decide) (by decide) (by decide))
      have exit : Ev G mD_go 56 [some (.ref (cxa G 30)), some (.int (nI j)), some (.int (nI s)), some (.int (nI g)), some (.int (nI p)), some (.int (nI d))] [] (wl G v' b) (cx_e G mD_go (fun y w' => ∃ (v' : Nat → Nat → Int32) (t : Nat → Nat) (π : List Nat), w' = wl G v' (va_up b 43 (ctI (b 43) I g).2) ∧ y = none ∧ gfr v v' ∧ dk nxt ok (fun q => q == g || !cvI (b 43) I q) g t ∧ gr nxt ok (fun p => !cvI (b 43) I p) g t s π ∧ π.length ≤ 320 ∧ ma v' (pmW m π) (z + 320))) := by
        have fin : ∀ k : Nat, k = (if ds = [] then 1 else 0) → Ev G mD_go 77 [some (.ref (cxa G 30)), some (.int (nI j)), some (.int (nI s)), some (.int (nI g)), some (.int (nI q)), some (.int (nI d))] [.int (nI k), .ref (cxa G 30)] (wl G v' b) (cx_e G mD_go (fun y w' => ∃ (v' : Nat → Nat → Int32) (t : Nat → Nat) (π : List Nat), w' = wl G v' (va_up b 43 (ctI (b 43) I g).2) ∧ y = none ∧ gfr v v' ∧ dk nxt ok (fun q => q == g || !cvI (b 43) I q) g t ∧ gr nxt ok (fun p => !cvI (b 43) I p) g t s π ∧ π.length ≤ 320 ∧ ma v' (pmW m π) (z + 320))) := by
          intro k hk
          have hk2 : k < 2 := by rw [hk]; split <;> decide
          refine Ev.iload (pc := 77) dD_go_77 rfl ?_
          refine Ev.callV (pc := 79) dD_go_79 kv_D_136 ⟨Nat.le_of_ble_eq_true rfl, Nat.le_of_ble_eq_true rfl⟩ (wl_at (by decide) rfl) rfl rfl (ct_D_addS hk2 hd4 hz0 (by omega) hm ho' (by omega)) rfl rfl (Nat.le_of_ble_eq_true rfl) ?_
          rintro _ _ ⟨v2, rfl, rfl, hF2, hm2⟩
          refine Ev.goto (pc := 82) (tgt := 13) dD_go_82 rfl ?_
          refine ih q _ (z' + 1) (B' + 1) v2 _ ⟨fun p a1 a2 a3 a4 a5 => (hF2.1 p a1 a2 a3 a4).trans (hF.1 p a1 a2 a3 a4 a5), fun a ha => (hF2.2 a ha).trans (hF.2 a ha)⟩ ?_ hq ?_ hds ?_ hm2 (by omega) (by omega) (okP_S ho' hk2 hd4) (by omega)
          · unfold tb
            rw [hF2.1 46 (by decide) (by decide) (by decide) (by decide)]
            exact hT
          · rw [hgon.2.1]; omega
          · rw [← he, hk]; rfl
        refine Ev.iload (pc := 56) dD_go_56 rfl ?_
        refine Ev.iload (pc := 58) dD_go_58 rfl ?_
        refine Ev.callS (pc := 60) dD_go_60 ks_D_110 ⟨Nat.le_of_ble_eq_true rfl, Nat.le_of_ble_eq_true rfl⟩ (ct_D_next hp hd4) rfl rfl (Nat.le_of_ble_eq_true rfl) ?_
        rintro _ _ ⟨rfl, rfl⟩
        have e1 : nxI p d = nI q := by unfold nxI; rw [hnx]
        rw [e1]
        refine Ev.istore (pc := 63) dD_go_63 (Nat.le_of_ble_eq_true rfl) ?_
        refine Ev.aload_n (pc := 65) (i := 0) dD_go_65 rfl rfl ?_
        refine Ev.iload (pc := 66) dD_go_66 rfl ?_
        refine Ev.iload_n (pc := 68) (i := 3) dD_go_68 rfl rfl ?_
        refine Ev.cicmp_ne (nI_toInt (by omega)) (nI_toInt (by omega)) (pc := 69) (tgt := 76) dD_go_69 rfl (fun h1 => ?_) (fun h1 => ?_)
        · refine Ev.iconst (pc := 76) (v := 0) dD_go_76 (by decide) ?_
          refine fin 0 ?_
          rw [if_neg]
          intro e
          rw [e] at hds
          have hds : q = g := hds
          omega
        · refine Ev.iconst (pc := 72) (v := 1) dD_go_72 (by decide) ?_
          refine Ev.goto (pc := 73) (tgt := 77) dD_go_73 rfl ?_
          refine fin 1 ?_
          rw [if_pos]
          cases ds with
          | nil => rfl
          | cons d2 ds2 => exact absurd (by omega) hds.1
      refine Ev.iload (pc := 13) dD_go_13 rfl ?_
      refine Ev.iload_n (pc := 15) (i := 3) dD_go_15 rfl rfl ?_
      refine Ev.cicmp_eq (nI_toInt (by omega)) (nI_toInt (by omega)) (pc := 16) (tgt := 85) dD_go_16 rfl (fun h1 => ?_) (fun h1 => ?_)
      · omega
      refine Ev.iconst (pc := 19) (v := 0) dD_go_19 (by decide) ?_
      refine Ev.istore (pc := 20) dD_go_20 (Nat.le_of_ble_eq_true rfl) ?_
      have inner : ∀ e, e ≤ d → Ev G mD_go 22 [some (.ref (cxa G 30)), some (.int (nI j)), some (.int (nI s)), some (.int (nI g)), some (.int (nI p)), some (.int (nI e))] [] (wl G v' b) (cx_e G mD_go (fun y w' => ∃ (v' : Nat → Nat → Int32) (t : Nat → Nat) (π : List Nat), w' = wl G v' (va_up b 43 (ctI (b 43) I g).2) ∧ y = none ∧ gfr v v' ∧ dk nxt ok (fun q => q == g || !cvI (b 43) I q) g t ∧ gr nxt ok (fun p => !cvI (b 43) I p) g t s π ∧ π.length ≤ 320 ∧ ma v' (pmW m π) (z + 320))) := by
        refine loopN (fun e hed ihe => ?_)
        refine Ev.aload_n (pc := 22) (i := 0) dD_go_22 rfl rfl ?_
        refine Ev.iload_n (pc := 23) (i := 1) dD_go_23 rfl rfl ?_
        refine Ev.iload (pc := 24) dD_go_24 rfl ?_
        refine Ev.iload (pc := 26) dD_go_26 rfl ?_
        refine Ev.callS (pc := 28) dD_go_28 ks_D_110 ⟨Nat.le_of_ble_eq_true rfl, Nat.le_of_ble_eq_true rfl⟩ (ct_D_next hp (by omega)) rfl rfl (Nat.le_of_ble_eq_true rfl) ?_
        rintro _ _ ⟨rfl, rfl⟩
        refine Ev.iload_n (pc := 31) (i := 3) dD_go_31 rfl rfl ?_
        refine Ev.aload_n (pc := 32) (i := 0) dD_go_32 rfl rfl ?_
        refine Ev.gf (pc := 33) dD_go_33 fl_D_66 (by omega) (rfl) rfl ?_
        refine Ev.iload (pc := 36) dD_go_36 rfl ?_
        refine Ev.aldi (pc := 38) dD_go_38 (by omega) (by first | exact fun _ _ => rfl | exact cell_dz hj | exact cell_dr hj | exact cell_mr hk | exact cell_sr hk) _ (rfl) (by omega) (by decide) ?_
        refine Ev.topi (hT p hp) ?_
        refine Ev.iconst (pc := 39) (v := 1) dD_go_39 (by decide) ?_
        refine Ev.isub (pc := 40) dD_go_40 ?_
        refine Ev.topi (nI_pr1 hpos) ?_
        have next : e ≠ d → Ev G mD_go 47 [some (.ref (cxa G 30)), some (.int (nI j)), some (.int (nI s)), some (.int (nI g)), some (.int (nI p)), some (.int (nI e))] [] (wl G v' b) (cx_e G mD_go (fun y w' => ∃ (v' : Nat → Nat → Int32) (t : Nat → Nat) (π : List Nat), w' = wl G v' (va_up b 43 (ctI (b 43) I g).2) ∧ y = none ∧ gfr v v' ∧ dk nxt ok (fun q => q == g || !cvI (b 43) I q) g t ∧ gr nxt ok (fun p => !cvI (b 43) I p) g t s π ∧ π.length ≤ 320 ∧ ma v' (pmW m π) (z + 320))) := by
          intro hne
          refine Ev.iload (pc := 47) dD_go_47 rfl ?_
          refine Ev.iconst (pc := 49) (v := 1) dD_go_49 (by decide) ?_
          refine Ev.iadd (pc := 50) dD_go_50 ?_
          refine Ev.topi (nI_succ _).symm ?_
          refine Ev.istore (pc := 51) dD_go_51 (Nat.le_of_ble_eq_true rfl) ?_
          refine Ev.goto (pc := 53) (tgt := 22) dD_go_53 rfl ?_
          exact ihe (by omega)
        cases hne : nxt p e with
        | none =>
          have e1 : nxI p e = -1 := by unfold nxI; rw [hne]
          rw [e1]
          refine Ev.callV (pc := 41) dD_go_41 kv_D_133 ⟨Nat.le_of_ble_eq_true rfl, Nat.le_of_ble_eq_true rfl⟩ (wl_at (by decide) rfl) rfl rfl (ct_D_isOn_no (j := j) (g := g) (nI (t p - 1))) rfl rfl (Nat.le_of_ble_eq_true rfl) ?_
          rintro _ _ ⟨rfl, rfl⟩
          refine Ev.if_neB (pc := 44) (tgt := 56) dD_go_44 rfl (fun h2 => ?_) (fun h2 => ?_)
          · cases h2
          · exact next (fun e' => by rw [e', hnx] at hne; cases hne)
        | some q' =>
          have e1 : nxI p e = nI q' := by unfold nxI; rw [hne]
          rw [e1]
          refine Ev.callV (pc := 41) dD_go_41 kv_D_133 ⟨Nat.le_of_ble_eq_true rfl, Nat.le_of_ble_eq_true rfl⟩ (wl_at (by decide) rfl) rfl rfl (ct_D_isOn (m := t p - 1) hj hIv hr hT hB1 (nxt_lt hne).2.1 hg (by omega)) rfl rfl (Nat.le_of_ble_eq_true rfl) ?_
          rintro _ _ ⟨rfl, rfl⟩
          refine Ev.if_neB (pc := 44) (tgt := 56) dD_go_44 rfl (fun h2 => ?_) (fun h2 => ?_)
          · have e2 : e = d := by
              by_cases e3 : e = d
              · exact e3
              · exact absurd (onB_iff.mp h2) (hmin e q' (by omega) hne)
            rw [e2]
            exact exit
          · refine next (fun e' => ?_)
            rw [e', hnx] at hne
            cases hne
            rw [onB_iff.mpr hgon] at h2
            cases h2
      exact inner 0 (Nat.zero_le _)
  refine Ev.iload_n (pc := 10) (i := 2) dD_go_10 rfl rfl ?_
  refine Ev.istore (pc := 11) dD_go_11 (Nat.le_of_ble_eq_true rfl) ?_
  exact loop π s m z B v1 none hgfr1 hT1 hs hts hπ rfl hm1 (by omega) hz ho (by omega)
set_option maxHeartbeats 4000000 in
set_option maxRecDepth 100000 in
theorem ct_D_isJob {S : Sg} (hg : gd S) (hI : ∀ j, j < 3 → mi v j (sK S j)) (hJ : mjb v S) : Ct G mD_isJob [.ref (cxa G 30)] (wl G v b) (fun y w' => w' = wl G v b ∧ y = some (.int (bI (rdy S)))) := by
  have hc3 := hg.2.2.2.1.1
  have hcI : (v 30 7).toInt = (sc S : Int) := by rw [hJ.1]; exact nI_toInt (by omega)
  have loop : ∀ k, k ≤ sc S → Ev G mD_isJob 15 [some (.ref (cxa G 30)), some (.int (bI (allB k (fun k => decide ((sK S (sJ S k)).1 ≠ 0)) && decide (0 < sc S)))), some (.int (nI k))] [] (wl G v b) (cx_e G mD_isJob (fun y w' => w' = wl G v b ∧ y = some (.int (bI (rdy S))))) := by
    refine loopN (fun k hk ih => ?_)
    refine Ev.iload_n (pc := 15) (i := 2) dD_isJob_15 rfl rfl ?_
    refine Ev.aload_n (pc := 16) (i := 0) dD_isJob_16 rfl rfl ?_
    refine Ev.gf (pc := 17) dD_isJob_17 fl_D_86 (by omega) (rfl) rfl ?_
    refine Ev.cicmp_ge (nI_toInt (by omega)) (hcI) (pc := 20) (tgt := 53) dD_isJob_20 rfl (fun h1 => ?_) (fun h1 => ?_)
    · have e : k = sc S := by omega
      rw [e]
      refine Ev.iload_n (pc := 53) (i := 1) dD_isJob_53 rfl rfl ?_
      exact Ev.zreturn dD_isJob_54 rfl ⟨rfl, rfl⟩
    have hlt : k < sc S := by omega
    have ih := ih hlt
    have hj := hg.2.2.2.1.2 k hlt
    obtain ⟨i1, i2, -⟩ := hI _ hj
    have fin : ∀ q : Bool, q = (allB (k + 1) (fun k => decide ((sK S (sJ S k)).1 ≠ 0)) && decide (0 < sc S)) → Ev G mD_isJob 46 [some (.ref (cxa G 30)), some (.int (bI (allB k (fun k => decide ((sK S (sJ S k)).1 ≠ 0)) && decide (0 < sc S)))), some (.int (nI k))] [.int (bI q)] (wl G v b) (cx_e G mD_isJob (fun y w' => w' = wl G v b ∧ y = some (.int (bI (rdy S))))) := by
      intro q hq
      rw [← hq] at ih
      refine Ev.istore_n (pc := 46) (i := 1) dD_isJob_46 rfl (Nat.le_of_ble_eq_true rfl) ?_
      refine Ev.iinc (pc := 47) dD_isJob_47 rfl (cx_inc _) (Nat.le_of_ble_eq_true rfl) ?_
      refine Ev.goto (pc := 50) (tgt := 15) dD_isJob_50 rfl ?_
      exact ih
    refine Ev.iload_n (pc := 23) (i := 1) dD_isJob_23 rfl rfl ?_
    refine Ev.if_eqB (pc := 24) (tgt := 45) dD_isJob_24 rfl (fun h2 => ?_) (fun h2 => ?_)
    · refine Ev.iconst (pc := 45) (v := 0) dD_isJob_45 (by decide) ?_
      refine fin false ?_
      simp only [allB]
      rw [Bool.and_eq_false_iff] at h2
      rcases h2 with h2 | h2
      · rw [h2]; rfl
      · rw [h2, Bool.and_false]
    refine Ev.aload_n (pc := 27) (i := 0) dD_isJob_27 rfl rfl ?_
    refine Ev.gf (pc := 28) dD_isJob_28 fl_D_23 (by omega) (rfl) rfl ?_
    refine Ev.aload_n (pc := 31) (i := 0) dD_isJob_31 rfl rfl ?_
    refine Ev.gf (pc := 32) dD_isJob_32 fl_D_32 (by omega) (rfl) rfl ?_
    refine Ev.iload_n (pc := 35) (i := 2) dD_isJob_35 rfl rfl ?_
    refine Ev.aldi (pc := 36) dD_isJob_36 (by omega) (by first | exact fun _ _ => rfl | exact cell_dz hj | exact cell_dr hj | exact cell_mr hk | exact cell_sr hk) _ (rfl) (by omega) (by decide) ?_
    refine Ev.topi (hJ.2 k hlt) ?_
    refine Ev.aldi (pc := 37) dD_isJob_37 (by omega) (by first | exact fun _ _ => rfl | exact cell_dz hj | exact cell_dr hj | exact cell_mr hk | exact cell_sr hk) _ (rfl) (by omega) (by decide) ?_
    refine Ev.topi i1 ?_
    simp only [Bool.and_eq_true] at h2
    refine Ev.cif_le (nI_toInt (by omega)) (pc := 38) (tgt := 45) dD_isJob_38 rfl (fun h3 => ?_) (fun h3 => ?_)
    · refine Ev.iconst (pc := 45) (v := 0) dD_isJob_45 (by decide) ?_
      refine fin false ?_
      simp only [allB]
      rw [decide_eq_false (p := (sK S (sJ S k)).1 ≠ 0) (by omega)]
      simp
    · refine Ev.iconst (pc := 41) (v := 1) dD_isJob_41 (by decide) ?_
      refine Ev.goto (pc := 42) (tgt := 46) dD_isJob_42 rfl ?_
      refine fin true ?_
      simp only [allB]
      rw [decide_eq_true (p := (sK S (sJ S k)).1 ≠ 0) (by omega), h2.1, h2.2]
      rfl
  have l0 := loop 0 (Nat.zero_le _)
  refine Ct.of (by decide) rfl rfl (Nat.le_of_ble_eq_true rfl) ?_
  refine Ev.aload_n (pc := 0) (i := 0) dD_isJob_0 rfl rfl ?_
  refine Ev.gf (pc := 1) dD_isJob_1 fl_D_86 (by omega) (rfl) rfl ?_
  refine Ev.cif_le (hcI) (pc := 4) (tgt := 11) dD_isJob_4 rfl (fun h1 => ?_) (fun h1 => ?_)
  · have e : (allB 0 (fun k => decide ((sK S (sJ S k)).1 ≠ 0)) && decide (0 < sc S)) = false := by rw [decide_eq_false (by omega)]; rfl
    rw [e] at l0
    refine Ev.iconst (pc := 11) (v := 0) dD_isJob_11 (by decide) ?_
    refine Ev.istore_n (pc := 12) (i := 1) dD_isJob_12 rfl (Nat.le_of_ble_eq_true rfl) ?_
    refine Ev.iconst (pc := 13) (v := 0) dD_isJob_13 (by decide) ?_
    refine Ev.istore_n (pc := 14) (i := 2) dD_isJob_14 rfl (Nat.le_of_ble_eq_true rfl) ?_
    exact l0
  · have e : (allB 0 (fun k => decide ((sK S (sJ S k)).1 ≠ 0)) && decide (0 < sc S)) = true := by rw [decide_eq_true (by omega)]; rfl
    rw [e] at l0
    refine Ev.iconst (pc := 7) (v := 1) dD_isJob_7 (by decide) ?_
    refine Ev.goto (pc := 8) (tgt := 12) dD_isJob_8 rfl ?_
    refine Ev.istore_n (pc := 12) (i := 1) dD_isJob_12 rfl (Nat.le_of_ble_eq_true rfl) ?_
    refine Ev.iconst (pc := 13) (v := 0) dD_isJob_13 (by decide) ?_
    refine Ev.istore_n (pc := 14) (i := 2) dD_isJob_14 rfl (Nat.le_of_ble_eq_true rfl) ?_
    exact l0
end Go
