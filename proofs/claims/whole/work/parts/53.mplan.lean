/-! The reference: plan -/
def pfr (v v' : Nat → Nat → Int32) : Prop := (∀ p, p ≠ 30 → p ≠ 36 → p ≠ 37 → p ≠ 38 → p ≠ 45 → p ≠ 46 → v' p = v p) ∧ ∀ k, k ≠ 10 → v' 30 k = v 30 k
theorem pfr.tr {v v' v2 : Nat → Nat → Int32} (h : pfr v v') (h2 : pfr v' v2) : pfr v v2 := ⟨fun p a1 a2 a3 a4 a5 a6 => (h2.1 p a1 a2 a3 a4 a5 a6).trans (h.1 p a1 a2 a3 a4 a5 a6), fun k hk => (h2.2 k hk).trans (h.2 k hk)⟩
theorem gfr.p {v v' : Nat → Nat → Int32} (h : gfr v v') : pfr v v' := ⟨fun p a1 a2 a3 a4 _ a6 => h.1 p a1 a2 a3 a4 a6, h.2⟩
theorem afr.p {v v' : Nat → Nat → Int32} (h : afr v v') : pfr v v' := ⟨fun p a1 a2 a3 a4 _ _ => h.1 p a1 a2 a3 a4, h.2⟩
theorem pfr_45 {v v' : Nat → Nat → Int32} (h : ∀ p, p ≠ 45 → v' p = v p) : pfr v v' := ⟨fun p _ _ _ _ a5 _ => h p a5, fun k _ => by rw [h 30 (by decide)]⟩
theorem mi.pf {v v' : Nat → Nat → Int32} {j : Nat} {I : Ins} (h : mi v j I) (f : pfr v v') : mi v' j I := h.cg (f.1 32 (by decide) (by decide) (by decide) (by decide) (by decide) (by decide)) (f.1 33 (by decide) (by decide) (by decide) (by decide) (by decide) (by decide)) (f.1 34 (by decide) (by decide) (by decide) (by decide) (by decide) (by decide))
theorem mb.pf {v v' : Nat → Nat → Int32} {C : Int32} {sy : Nat → Int32} (h : mb v C sy) (f : pfr v v') : mb v' C sy := ⟨by rw [f.2 2 (by decide)]; exact h.1, fun z hz => by rw [f.1 31 (by decide) (by decide) (by decide) (by decide) (by decide) (by decide)]; exact h.2 z hz⟩
theorem mbk.pf {v v' : Nat → Nat → Int32} {S : Sg} (h : mbk v S) (f : pfr v v') : mbk v' S := ⟨by rw [f.2 0 (by decide)]; exact h.1, by rw [f.2 1 (by decide)]; exact h.2.1, h.2.2.pf f⟩
theorem mjb.pf {v v' : Nat → Nat → Int32} {S : Sg} (h : mjb v S) (f : pfr v v') : mjb v' S := ⟨by rw [f.2 7 (by decide)]; exact h.1, fun k hk => by rw [f.1 35 (by decide) (by decide) (by decide) (by decide) (by decide) (by decide)]; exact h.2 k hk⟩
theorem ma.cg {v v' : Nat → Nat → Int32} {m : Pm} {z : Nat} (h : ma v m z) (h1 : v' 30 = v 30) (h2 : v' 36 = v 36) (h3 : v' 37 = v 37) (h4 : v' 38 = v 38) : ma v' m z := by
  unfold ma
  rw [h1, h2, h3, h4]
  exact h
theorem ma.over {v : Nat → Nat → Int32} {m m' : Pm} {z : Nat} (h : ma v m z) (hm : 2000 < m.1) (hm' : m.1 ≤ m'.1) : ma v m' z := by
  rcases h with ⟨h1, -⟩ | ⟨-, h2⟩
  · omega
  · exact Or.inr ⟨by omega, h2⟩
theorem dk_in {ok ex : Nat → Bool} {s : Nat} {t : Nat → Nat} (h : dk nxt ok ex s t) (hs : s < 320) (hos : ok s = true) {q : Nat} (hq : t q ≠ 100000) : q < 320 ∧ ok q = true := by
  obtain ⟨u, -, hw⟩ := h.1 q hq
  rcases nil_or_snoc u with rfl | ⟨u', d, rfl⟩
  · simp only [wk, Option.some.injEq] at hw
    rw [← hw]
    exact ⟨hs, hos⟩
  · obtain ⟨y, -, -, w3, w4⟩ := wk_snoc.mp hw
    exact ⟨(nxt_lt w3).2.1, w4⟩
theorem ex_s {cov : Nat → Bool} {s : Nat} (h : cov s = false) : (fun q => q == s || !cov q) = fun q => !cov q := by
  funext q
  by_cases e : q = s
  · subst e
    simp [h]
  · simp [e]
section Mpl
variable {G : cx_G} {v : Nat → Nat → Int32} {b : Nat → Nat → Bool}
set_option maxHeartbeats 4000000 in
set_option maxRecDepth 100000 in
theorem plan_legs {S : Sg} {k Z BB : Nat} {M : Pm × (Nat → Bool)} {E : Option Value → List va_E → Prop} (hg : gd S) (hI : ∀ j, j < 3 → mi v j (sK S j)) (hk : k < sc S) (hZ : Z < 700000) (hBB : BB < 700000)
    (leave : ∀ (v' : Nat → Nat → Int32) (b' : Nat → Nat → Bool) (l3 l4 : Option Value), pfr v v' → (∀ p, p ≠ 43 → p ≠ 44 → b' p = b p) → ma v' M.1 Z → (M.1.1 ≤ 2000 → okP BB M.1 ∧ b' 43 = M.2) → Ev G mD_plan 116 [some (.ref (cxa G 30)), some (.int (nI k)), some (.int (nI (sJ S k))), l3, l4] [] (wl G v' b') (cx_e G mD_plan E)) :
    ∀ (n : Nat) (v' : Nat → Nat → Int32) (b' : Nat → Nat → Bool) (m : Pm) (s : Nat) (rr : Option Nat) (t : Nat → Nat) (z B : Nat), pfr v v' → (∀ p, p ≠ 43 → p ≠ 44 → b' p = b p) → (∀ q, q < 320 → b' 44 q = (okI (sC S) (sSy S) (sK S (sJ S k))) q) → tb v' 45 t → (∀ q, t q ≤ 320 ∨ t q = 100000) → dk nxt (okI (sC S) (sSy S) (sK S (sJ S k))) (fun p => !cvI (b' 43) (sK S (sJ S k)) p) s t → bst (okI (sC S) (sSy S) (sK S (sJ S k))) (cvI (b' 43) (sK S (sJ S k))) t 320 rr → s < 320 → (okI (sC S) (sSy S) (sK S (sJ S k))) s = true → cvI (b' 43) (sK S (sJ S k)) s = false → ma v' m z → 2000 ≤ z → z + 320 * n ≤ Z → okP B m → B + 320 * n ≤ BB → cntB 96 (b' 43) ≤ n → rdF (sC S) (sSy S) (sK S (sJ S k)) n (m, b' 43, s) = M → Ev G mD_plan 70 [some (.ref (cxa G 30)), some (.int (nI k)), some (.int (nI (sJ S k))), some (.int (nI s)), some (.int (bxI rr))] [] (wl G v' b') (cx_e G mD_plan E) := by
  have hj := hg.2.2.2.1.2 k hk
  intro n
  induction n with
  | zero =>
    intro v' b' m s rr t z B hF hFb h44 hT hTb hdk hb hs hos hcs hm hz hzz ho hoB hcnt hrd
    cases rr with
    | none =>
      refine Ev.iload (pc := 70) dD_plan_70 rfl ?_
      refine Ev.cif_lt (rfl) (pc := 72) (tgt := 116) dD_plan_72 rfl (fun h1 => ?_) (fun h1 => ?_)
      · have hleg := dk_none hdk (fun q hq => by
          by_cases e : t q = 100000
          · exact e
          · exact hb q (dk_in hdk hs hos e).1 (dk_in hdk hs hos e).2 hq)
        rw [rdF_none hleg] at hrd
        rw [← hrd] at leave
        refine leave v' b' _ _ hF hFb ?_ (fun _ => ⟨ho.mono (by omega), rfl⟩)
        rcases hm with h | ⟨h, c, c1, c2, c3⟩
        · exact Or.inl h
        · exact Or.inr ⟨h, c, c1, c2, by omega⟩
      · exact absurd (show (-1 : Int32).toInt < 0 by decide) h1
    | some g =>
      have := cut_lt hb.2.2.1
      omega
  | succ n ih =>
    intro v' b' m s rr t z B hF hFb h44 hT hTb hdk hb hs hos hcs hm hz hzz ho hoB hcnt hrd
    cases rr with
    | none =>
      refine Ev.iload (pc := 70) dD_plan_70 rfl ?_
      refine Ev.cif_lt (rfl) (pc := 72) (tgt := 116) dD_plan_72 rfl (fun h1 => ?_) (fun h1 => ?_)
      · have hleg := dk_none hdk (fun q hq => by
          by_cases e : t q = 100000
          · exact e
          · exact hb q (dk_in hdk hs hos e).1 (dk_in hdk hs hos e).2 hq)
        rw [rdF_none hleg] at hrd
        rw [← hrd] at leave
        refine leave v' b' _ _ hF hFb ?_ (fun _ => ⟨ho.mono (by omega), rfl⟩)
        rcases hm with h | ⟨h, c, c1, c2, c3⟩
        · exact Or.inl h
        · exact Or.inr ⟨h, c, c1, c2, by omega⟩
      · exact absurd (show (-1 : Int32).toInt < 0 by decide) h1
    | some g =>
      obtain ⟨hg3, hog, hcg, htg, hmin⟩ := hb
      have hbx : bxI (some g) = nI g := rfl
      rw [hbx]
      refine Ev.iload (pc := 70) dD_plan_70 rfl ?_
      refine Ev.cif_lt (nI_toInt (by omega)) (pc := 72) (tgt := 116) dD_plan_72 rfl (fun h1 => ?_) (fun h1 => ?_)
      · omega
      obtain ⟨c, hc, hcz, hc1, hc2⟩ := hm.lt hz
      refine Ev.aload_n (pc := 75) (i := 0) dD_plan_75 rfl rfl ?_
      refine Ev.gf (pc := 76) dD_plan_76 fl_D_76 (by omega) (rfl) rfl ?_
      refine Ev.topi hc ?_
      refine Ev.sipush (pc := 79) (v := 2000) dD_plan_79 (by decide) ?_
      refine Ev.cicmp_gt (nI_toInt (by omega)) ((show (2000 : Int32).toInt = 2000 from by decide)) (pc := 82) (tgt := 116) dD_plan_82 rfl (fun h2 => ?_) (fun h2 => ?_)
      · have hover : 2000 < m.1 := hc2.mp (by omega)
        have hlen := rdF_len (C := sC S) (sy := sSy S) (I := (sK S (sJ S k))) (n + 1) (m, b' 43, s)
        rw [hrd] at hlen
        have hlen : m.1 ≤ M.1.1 := hlen
        refine leave v' b' _ _ hF hFb ?_ (fun e => by omega)
        rcases hm with ⟨h, -⟩ | ⟨h, c, c1, c2, c3⟩
        · omega
        · exact Or.inr ⟨by omega, c, c1, c2, by omega⟩
      refine Ev.aload_n (pc := 85) (i := 0) dD_plan_85 rfl rfl ?_
      refine Ev.iload_n (pc := 86) (i := 2) dD_plan_86 rfl rfl ?_
      refine Ev.iload_n (pc := 87) (i := 3) dD_plan_87 rfl rfl ?_
      refine Ev.iload (pc := 88) dD_plan_88 rfl ?_
      refine Ev.callV (pc := 90) dD_plan_90 kv_D_150 ⟨Nat.le_of_ble_eq_true rfl, Nat.le_of_ble_eq_true rfl⟩ (wl_at (by decide) rfl) rfl rfl (ct_D_go hj ((hI _ hj).pf hF) h44 hs hg3 hog hos hcs (by obtain ⟨u, -, hu⟩ := hdk.1 g htg; exact ⟨u, hu⟩) hz (by omega) hm ho (by omega)) rfl rfl (Nat.le_of_ble_eq_true rfl) ?_
      rintro _ _ ⟨v2, tb2, π, rfl, rfl, hF2, hdk2, hgr, hlen, hm2⟩
      have hleg : legS nxt (okI (sC S) (sSy S) (sK S (sJ S k))) (cvI (b' 43) (sK S (sJ S k))) s (some (g, π)) := dk_some (op := opp) nxt_opp hdk hcg htg (fun q hq e => hmin q (dk_in hdk hs hos e).1 (dk_in hdk hs hos e).2 hq e) hdk2 hos hcs hgr
      rw [rdF_some hleg] at hrd
      have hcl := cut_lt hcg
      have e43 : va_up b' 43 (ctI (b' 43) (sK S (sJ S k)) g).2 43 = (ctI (b' 43) (sK S (sJ S k)) g).2 := up_at _ _ _
      have e44 : va_up b' 43 (ctI (b' 43) (sK S (sJ S k)) g).2 44 = b' 44 := up_ne (by decide)
      have hF3 := hF.tr hF2.p
      refine Ev.iload (pc := 93) dD_plan_93 rfl ?_
      refine Ev.istore_n (pc := 95) (i := 3) dD_plan_95 rfl (Nat.le_of_ble_eq_true rfl) ?_
      refine Ev.aload_n (pc := 96) (i := 0) dD_plan_96 rfl rfl ?_
      refine Ev.aload_n (pc := 97) (i := 0) dD_plan_97 rfl rfl ?_
      refine Ev.gf (pc := 98) dD_plan_98 fl_D_63 (by omega) (rfl) rfl ?_
      refine Ev.iload_n (pc := 101) (i := 2) dD_plan_101 rfl rfl ?_
      refine Ev.iload_n (pc := 102) (i := 3) dD_plan_102 rfl rfl ?_
      refine Ev.callV (pc := 103) dD_plan_103 kv_D_129 ⟨Nat.le_of_ble_eq_true rfl, Nat.le_of_ble_eq_true rfl⟩ (wl_at (by decide) rfl) rfl rfl (ct_D_measure_45 hj ((hI _ hj).pf hF3) hg3 (ok := (okI (sC S) (sSy S) (sK S (sJ S k)))) (fun q hq => by rw [e44]; exact h44 q hq)) rfl rfl (Nat.le_of_ble_eq_true rfl) ?_
      rintro _ _ ⟨v3, t3, rfl, rfl, hF4, hT3, hB3, hdk3⟩
      rw [e43] at hdk3
      rw [ex_s cut_cov] at hdk3
      have hF5 := hF3.tr (pfr_45 hF4)
      refine Ev.aload_n (pc := 106) (i := 0) dD_plan_106 rfl rfl ?_
      refine Ev.iload_n (pc := 107) (i := 2) dD_plan_107 rfl rfl ?_
      refine Ev.callV (pc := 108) dD_plan_108 kv_D_147 ⟨Nat.le_of_ble_eq_true rfl, Nat.le_of_ble_eq_true rfl⟩ (wl_at (by decide) rfl) rfl rfl (ct_D_target hj ((hI _ hj).pf hF5) (ok := (okI (sC S) (sSy S) (sK S (sJ S k)))) (fun q hq => by rw [e44]; exact h44 q hq) hT3 hB3) rfl rfl (Nat.le_of_ble_eq_true rfl) ?_
      rintro _ _ ⟨rfl, r3, rfl, hb3⟩
      rw [e43] at hb3
      refine Ev.istore (pc := 111) dD_plan_111 (Nat.le_of_ble_eq_true rfl) ?_
      refine Ev.goto (pc := 113) (tgt := 70) dD_plan_113 rfl ?_
      refine ih v3 _ (pmW m π) g r3 t3 (z + 320) (B + 320) hF5 (fun p a1 a2 => by rw [up_ne a1]; exact hFb p a1 a2) (fun q hq => by rw [e44]; exact h44 q hq) hT3 hB3 (by rw [e43]; exact hdk3) (by rw [e43]; exact hb3) hg3 hog (by rw [e43]; exact cut_cov) (hm2.cg (hF4 30 (by decide)) (hF4 36 (by decide)) (hF4 37 (by decide)) (hF4 38 (by decide))) (by omega) (by omega) ((okP_W π m B (gr_dirs π s hgr) ho).mono (by omega)) (by omega) (by rw [e43]; omega) (by rw [e43]; exact hrd)
end Mpl
