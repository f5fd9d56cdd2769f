/-! The reference: the nearest target, a move more, a step on the way back -/
def bst (ok cov : Nat → Bool) (t : Nat → Nat) (i : Nat) : Option Nat → Prop
  | none => ∀ q, q < i → ok q = true → cov q = true → t q = 100000
  | some g => g < i ∧ ok g = true ∧ cov g = true ∧ t g ≠ 100000 ∧ ∀ q, q < i → ok q = true → cov q = true → t q ≠ 100000 → t g < t q ∨ (t g = t q ∧ g ≤ q)
def bxI : Option Nat → Int32
  | none => -1
  | some g => nI g
theorem bst.skip {ok cov : Nat → Bool} {t : Nat → Nat} {i : Nat} {r : Option Nat} (h : bst ok cov t i r) (hn : ok i = true → cov i = true → t i ≠ 100000 → ∃ g, r = some g ∧ (t g < t i ∨ (t g = t i ∧ g ≤ i))) : bst ok cov t (i + 1) r := by
  cases r with
  | none =>
    intro q hq h1 h2
    by_cases e : q = i
    · subst e
      by_cases e2 : t q = 100000
      · exact e2
      · obtain ⟨g, hg, -⟩ := hn h1 h2 e2
        cases hg
    · exact h q (by omega) h1 h2
  | some g =>
    obtain ⟨h1, h2, h3, h4, h5⟩ := h
    refine ⟨by omega, h2, h3, h4, fun q hq a1 a2 a3 => ?_⟩
    by_cases e : q = i
    · subst e
      obtain ⟨g', hg, h6⟩ := hn a1 a2 a3
      cases hg
      exact h6
    · exact h5 q (by omega) a1 a2 a3
theorem bst.take {ok cov : Nat → Bool} {t : Nat → Nat} {i : Nat} {r : Option Nat} (h : bst ok cov t i r) (h1 : ok i = true) (h2 : cov i = true) (h3 : t i ≠ 100000) (hr : ∀ g, r = some g → t i < t g) : bst ok cov t (i + 1) (some i) := by
  refine ⟨by omega, h1, h2, h3, fun q hq a1 a2 a3 => ?_⟩
  by_cases e : q = i
  · subst e
    exact Or.inr ⟨rfl, Nat.le_refl _⟩
  · cases r with
    | none => exact absurd (h q (by omega) a1 a2) a3
    | some g =>
      have := hr g rfl
      rcases h.2.2.2.2 q (by omega) a1 a2 a3 with h6 | h6 <;> exact Or.inl (by omega)
theorem nI_pr1 {n : Nat} (h : 0 < n) : nI n - 1 = nI (n - 1) := by
  obtain ⟨k, rfl⟩ : ∃ k, n = k + 1 := ⟨n - 1, by omega⟩
  exact nI_pred k
section Tg
variable {G : cx_G} {v : Nat → Nat → Int32} {b : Nat → Nat → Bool}
set_option maxHeartbeats 4000000 in
set_option maxRecDepth 100000 in
theorem ct_D_target {I : Ins} {j : Nat} {ok : Nat → Bool} {t : Nat → Nat} (hj : j < 3) (hI : mi v j I) (hr : ∀ q, q < 320 → b 44 q = ok q) (hT : tb v 45 t) (hB : ∀ q, t q ≤ 320 ∨ t q = 100000) : Ct G mD_target [.ref (cxa G 30), .int (nI j)] (wl G v b) (fun y w' => w' = wl G v b ∧ ∃ r, y = some (.int (bxI r)) ∧ bst ok (cvI (b 43) I) t 320 r) := by
  have h8 := hI.2.1
  refine Ct.of (by decide) rfl rfl (Nat.le_of_ble_eq_true rfl) ?_
  refine Ev.iconst (pc := 0) (v := (-1)) dD_target_0 (by decide) ?_
  refine Ev.istore_n (pc := 1) (i := 2) dD_target_1 rfl (Nat.le_of_ble_eq_true rfl) ?_
  refine Ev.iconst (pc := 2) (v := 0) dD_target_2 (by decide) ?_
  refine Ev.istore_n (pc := 3) (i := 3) dD_target_3 rfl (Nat.le_of_ble_eq_true rfl) ?_
  have loop : ∀ i, i ≤ 320 → ∀ (r : Option Nat) (l4 : Option Value), bst ok (cvI (b 43) I) t i r → Ev G mD_target 4 [some (.ref (cxa G 30)), some (.int (nI j)), some (.int (bxI r)), some (.int (nI i)), l4] [] (wl G v b) (cx_e G mD_target (fun y w' => w' = wl G v b ∧ ∃ r, y = some (.int (bxI r)) ∧ bst ok (cvI (b 43) I) t 320 r)) := by
    refine loopN (fun i hi ih r l4 hb => ?_)
    refine Ev.iload_n (pc := 4) (i := 3) dD_target_4 rfl rfl ?_
    refine Ev.sipush (pc := 5) (v := 320) dD_target_5 (by decide) ?_
    refine Ev.cicmp_ge (nI_toInt (by omega)) ((show (320 : Int32).toInt = 320 from by decide)) (pc := 8) (tgt := 84) dD_target_8 rfl (fun h1 => ?_) (fun h1 => ?_)
    · have e : i = 320 := by omega
      subst e
      refine Ev.iload_n (pc := 84) (i := 2) dD_target_84 rfl rfl ?_
      exact Ev.ireturn .int dD_target_85 rfl rfl ⟨rfl, r, rfl, hb⟩
    have hlt : i < 320 := by omega
    have ih := ih hlt
    have hbi := hB i
    have no : ¬ (ok i = true ∧ (cvI (b 43) I) i = true ∧ t i ≠ 100000) → Ev G mD_target 45 [some (.ref (cxa G 30)), some (.int (nI j)), some (.int (bxI r)), some (.int (nI i)), l4] [] (wl G v b) (cx_e G mD_target (fun y w' => w' = wl G v b ∧ ∃ r, y = some (.int (bxI r)) ∧ bst ok (cvI (b 43) I) t 320 r)) := by
      intro hn
      refine Ev.iconst (pc := 45) (v := 0) dD_target_45 (by decide) ?_
      refine Ev.istore (pc := 46) (x := bI false) dD_target_46 (Nat.le_of_ble_eq_true rfl) ?_
      refine Ev.iload (pc := 48) dD_target_48 rfl ?_
      refine Ev.if_eqB (pc := 50) (tgt := 76) dD_target_50 rfl (fun h9 => ?_) (fun h9 => ?_)
      · refine Ev.iload_n (pc := 76) (i := 2) dD_target_76 rfl rfl ?_
        refine Ev.istore_n (pc := 77) (i := 2) dD_target_77 rfl (Nat.le_of_ble_eq_true rfl) ?_
        refine Ev.iinc (pc := 78) dD_target_78 rfl (cx_inc _) (Nat.le_of_ble_eq_true rfl) ?_
        refine Ev.goto (pc := 81) (tgt := 4) dD_target_81 rfl ?_
        exact ih r _ (hb.skip (fun a1 a2 a3 => absurd ⟨a1, a2, a3⟩ hn))
      · cases h9
    refine Ev.aload_n (pc := 11) (i := 0) dD_target_11 rfl rfl ?_
    refine Ev.gf (pc := 12) dD_target_12 fl_D_60 (by omega) (rfl) rfl ?_
    refine Ev.iload_n (pc := 15) (i := 3) dD_target_15 rfl rfl ?_
    refine Ev.aldb (pc := 16) dD_target_16 (by omega) (by first | exact fun _ _ => rfl | exact cell_dz hj | exact cell_dr hj | exact cell_mr hk | exact cell_sr hk) _ (rfl) (by omega) (by decide) ?_
    rw [hr i hlt]
    refine Ev.if_eqB (pc := 17) (tgt := 45) dD_target_17 rfl (fun h2 => ?_) (fun h2 => ?_)
    · exact no (fun e => by rw [h2] at e; cases e.1)
    refine Ev.aload_n (pc := 20) (i := 0) dD_target_20 rfl rfl ?_
    refine Ev.gf (pc := 21) dD_target_21 fl_D_63 (by omega) (rfl) rfl ?_
    refine Ev.iload_n (pc := 24) (i := 3) dD_target_24 rfl rfl ?_
    refine Ev.aldi (pc := 25) dD_target_25 (by omega) (by first | exact fun _ _ => rfl | exact cell_dz hj | exact cell_dr hj | exact cell_mr hk | exact cell_sr hk) _ (rfl) (by omega) (by decide) ?_
    refine Ev.topi (hT i hlt) ?_
    refine Ev.ldc (pc := 26) dD_target_26 kc_D_124 ?_
    refine Ev.cicmp_ge (nI_toInt (by omega)) ((show (100000 : Int32).toInt = 100000 from by decide)) (pc := 28) (tgt := 45) dD_target_28 rfl (fun h3 => ?_) (fun h3 => ?_)
    · exact no (fun e => by have := e.2.2; omega)
    refine Ev.aload_n (pc := 31) (i := 0) dD_target_31 rfl rfl ?_
    refine Ev.iload_n (pc := 32) (i := 1) dD_target_32 rfl rfl ?_
    refine Ev.iload_n (pc := 33) (i := 3) dD_target_33 rfl rfl ?_
    refine Ev.iconst (pc := 34) (v := 0) dD_target_34 (by decide) ?_
    refine Ev.callV (pc := 35) dD_target_35 kv_D_125 ⟨Nat.le_of_ble_eq_true rfl, Nat.le_of_ble_eq_true rfl⟩ (wl_at (by decide) rfl) rfl rfl (ct_D_stockAt_0 hj hI hlt) rfl rfl (Nat.le_of_ble_eq_true rfl) ?_
    rintro _ _ ⟨rfl, rfl⟩
    have hle : cntB I.1 (fun a => hasB (b 43) (zP i + I.2.1 a) (rP i + I.2.2 a)) ≤ I.1 := cntB_le
    have hc : cvI (b 43) I i = true ↔ 0 < cntB I.1 (fun a => hasB (b 43) (zP i + I.2.1 a) (rP i + I.2.2 a)) := cntB_any.symm
    refine Ev.cif_le (nI_toInt (by omega)) (pc := 38) (tgt := 45) dD_target_38 rfl (fun h4 => ?_) (fun h4 => ?_)
    · exact no (fun e => by have := hc.mp e.2.1; omega)
    have hcv := hc.mpr (by omega)
    clear no
    refine Ev.iconst (pc := 41) (v := 1) dD_target_41 (by decide) ?_
    refine Ev.goto (pc := 42) (tgt := 46) dD_target_42 rfl ?_
    refine Ev.istore (pc := 46) (x := bI true) dD_target_46 (Nat.le_of_ble_eq_true rfl) ?_
    refine Ev.iload (pc := 48) dD_target_48 rfl ?_
    refine Ev.if_eqB (pc := 50) (tgt := 76) dD_target_50 rfl (fun h9 => ?_) (fun h9 => ?_)
    · cases h9
    cases r with
    | none =>
      refine Ev.iload_n (pc := 53) (i := 2) dD_target_53 rfl rfl ?_
      refine Ev.cif_lt (rfl) (pc := 54) (tgt := 72) dD_target_54 rfl (fun h5 => ?_) (fun h5 => ?_)
      · refine Ev.iload_n (pc := 72) (i := 3) dD_target_72 rfl rfl ?_
        refine Ev.goto (pc := 73) (tgt := 77) dD_target_73 rfl ?_
        refine Ev.istore_n (pc := 77) (i := 2) dD_target_77 rfl (Nat.le_of_ble_eq_true rfl) ?_
        refine Ev.iinc (pc := 78) dD_target_78 rfl (cx_inc _) (Nat.le_of_ble_eq_true rfl) ?_
        refine Ev.goto (pc := 81) (tgt := 4) dD_target_81 rfl ?_
        exact ih (some i) _ (hb.take h2 hcv (by omega) (fun g e => by cases e))
      · exact absurd (show (-1 : Int32).toInt < 0 by decide) h5
    | some g =>
      have hgi : g < i := hb.1
      have hbg := hB g
      have hbx : bxI (some g) = nI g := rfl
      rw [hbx]
      refine Ev.iload_n (pc := 53) (i := 2) dD_target_53 rfl rfl ?_
      refine Ev.cif_lt (nI_toInt (by omega)) (pc := 54) (tgt := 72) dD_target_54 rfl (fun h5 => ?_) (fun h5 => ?_)
      · omega
      refine Ev.aload_n (pc := 57) (i := 0) dD_target_57 rfl rfl ?_
      refine Ev.gf (pc := 58) dD_target_58 fl_D_63 (by omega) (rfl) rfl ?_
      refine Ev.iload_n (pc := 61) (i := 3) dD_target_61 rfl rfl ?_
      refine Ev.aldi (pc := 62) dD_target_62 (by omega) (by first | exact fun _ _ => rfl | exact cell_dz hj | exact cell_dr hj | exact cell_mr hk | exact cell_sr hk) _ (rfl) (by omega) (by decide) ?_
      refine Ev.topi (hT i hlt) ?_
      refine Ev.aload_n (pc := 63) (i := 0) dD_target_63 rfl rfl ?_
      refine Ev.gf (pc := 64) dD_target_64 fl_D_63 (by omega) (rfl) rfl ?_
      refine Ev.iload_n (pc := 67) (i := 2) dD_target_67 rfl rfl ?_
      refine Ev.aldi (pc := 68) dD_target_68 (by omega) (by first | exact fun _ _ => rfl | exact cell_dz hj | exact cell_dr hj | exact cell_mr hk | exact cell_sr hk) _ (rfl) (by omega) (by decide) ?_
      refine Ev.topi (hT g (by omega)) ?_
      refine Ev.cicmp_ge (nI_toInt (by omega)) (nI_toInt (by omega)) (pc := 69) (tgt := 76) dD_target_69 rfl (fun h6 => ?_) (fun h6 => ?_)
      · refine Ev.iload_n (pc := 76) (i := 2) dD_target_76 rfl rfl ?_
        refine Ev.istore_n (pc := 77) (i := 2) dD_target_77 rfl (Nat.le_of_ble_eq_true rfl) ?_
        refine Ev.iinc (pc := 78) dD_target_78 rfl (cx_inc _) (Nat.le_of_ble_eq_true rfl) ?_
        refine Ev.goto (pc := 81) (tgt := 4) dD_target_81 rfl ?_
        exact ih (some g) _ (hb.skip (fun _ _ _ => ⟨g, rfl, by omega⟩))
      · refine Ev.iload_n (pc := 72) (i := 3) dD_target_72 rfl rfl ?_
        refine Ev.goto (pc := 73) (tgt := 77) dD_target_73 rfl ?_
        refine Ev.istore_n (pc := 77) (i := 2) dD_target_77 rfl (Nat.le_of_ble_eq_true rfl) ?_
        refine Ev.iinc (pc := 78) dD_target_78 rfl (cx_inc _) (Nat.le_of_ble_eq_true rfl) ?_
        refine Ev.goto (pc := 81) (tgt := 4) dD_target_81 rfl ?_
        exact ih (some i) _ (hb.take h2 hcv (by omega) (fun g' e => by cases e; omega))
  exact loop 0 (Nat.zero_le _) none none (fun q hq => absurd hq (by omega))
/-! a move more -/
def ma (v : Nat → Nat → Int32) (m : Pm) (z : Nat) : Prop := (m.1 ≤ 2000 ∧ v 30 10 = nI m.1 ∧ ∀ i, i < m.1 → v 36 i = nI (m.2 i).1 ∧ v 37 i = nI (m.2 i).2.1 ∧ v 38 i = nI (m.2 i).2.2) ∨ (2000 < m.1 ∧ ∃ k, v 30 10 = nI k ∧ 2000 < k ∧ k ≤ z)
def afr (v v' : Nat → Nat → Int32) : Prop := (∀ p, p ≠ 30 → p ≠ 36 → p ≠ 37 → p ≠ 38 → v' p = v p) ∧ ∀ k, k ≠ 10 → v' 30 k = v 30 k
theorem ma.lt {v : Nat → Nat → Int32} {m : Pm} {z : Nat} (h : ma v m z) (hz : 2000 ≤ z) : ∃ k, v 30 10 = nI k ∧ k ≤ z ∧ (k ≤ 2000 → k = m.1) ∧ (2000 < k ↔ 2000 < m.1) := by
  rcases h with ⟨h1, h2, -⟩ | ⟨h1, k, h2, h3, h4⟩
  · exact ⟨m.1, h2, by omega, fun _ => rfl, Iff.rfl⟩
  · exact ⟨k, h2, h4, fun e => by omega, by omega⟩
set_option maxHeartbeats 4000000 in
set_option maxRecDepth 100000 in
theorem add_app {k d z : Nat} {m : Pm} (hk : k < 3) (hz : 2000 ≤ z) (hz2 : z < 900000) (h : ma v m z) {post : Option Value → List va_E → Prop} (hp : ∀ y w', (fun y w' => ∃ v', w' = wl G v' b ∧ y = none ∧ afr v v' ∧ ma v' (m.1 + 1, va_up m.2 m.1 (k, d, if k < 2 then 1 else 0)) (z + 1)) y w' → post y w') : Ev G mD_add 56 [some (.ref (cxa G 30)), some (.int (nI k)), some (.int (nI d)), none] [] (wl G v b) (cx_e G mD_add post) := by
  refine Ev.iconst (pc := 56) (v := 0) dD_add_56 (by decide) ?_
  refine Ev.istore_n (pc := 57) (i := 3) (x := bI false) dD_add_57 rfl (Nat.le_of_ble_eq_true rfl) ?_
  refine Ev.iload_n (pc := 58) (i := 3) dD_add_58 rfl rfl ?_
  refine Ev.if_eqB (pc := 59) (tgt := 87) dD_add_59 rfl (fun h9 => ?_) (fun h9 => ?_)
  rotate_left
  · cases h9
  have tail : ∀ v' : Nat → Nat → Int32, afr v v' → (∀ x : Int32, v' 30 10 + 1 = x → ma (sv v' 30 10 x) (m.1 + 1, va_up m.2 m.1 (k, d, if k < 2 then 1 else 0)) (z + 1)) → Ev G mD_add 136 [some (.ref (cxa G 30)), some (.int (nI k)), some (.int (nI d)), some (.int (bI false))] [] (wl G v' b) (cx_e G mD_add post) := by
    intro v' hF hm
    refine Ev.aload_n (pc := 136) (i := 0) dD_add_136 rfl rfl ?_
    refine Ev.aload_n (pc := 137) (i := 0) dD_add_137 rfl rfl ?_
    refine Ev.gf (pc := 138) dD_add_138 fl_D_76 (by omega) (rfl) rfl ?_
    refine Ev.iconst (pc := 141) (v := 1) dD_add_141 (by decide) ?_
    refine Ev.iadd (pc := 142) dD_add_142 ?_
    refine Ev.puti (pc := 143) dD_add_143 fl_D_76 fp_D_moves (by omega) (rfl) rfl (Nat.le_of_ble_eq_true rfl) ?_
    exact Ev.vreturn dD_add_146 rfl (hp _ _ ⟨_, rfl, rfl, ⟨fun p a1 a2 a3 a4 => by rw [sv_p a1]; exact hF.1 p a1 a2 a3 a4, fun a ha => by rw [sv_k ha]; exact hF.2 a ha⟩, hm _ rfl⟩)
  obtain ⟨c, hc, hcz, hc1, hc2⟩ := h.lt hz
  refine Ev.aload_n (pc := 87) (i := 0) dD_add_87 rfl rfl ?_
  refine Ev.gf (pc := 88) dD_add_88 fl_D_76 (by omega) (rfl) rfl ?_
  refine Ev.topi hc ?_
  refine Ev.sipush (pc := 91) (v := 2000) dD_add_91 (by decide) ?_
  refine Ev.cicmp_ge (nI_toInt (by omega)) ((show (2000 : Int32).toInt = 2000 from by decide)) (pc := 94) (tgt := 136) dD_add_94 rfl (fun h1 => ?_) (fun h1 => ?_)
  · refine tail v ⟨fun _ _ _ _ _ => rfl, fun _ _ => rfl⟩ (fun x hx => ?_)
    refine Or.inr ⟨?_, c + 1, ?_, by omega, by omega⟩
    · show 2000 < m.1 + 1
      by_cases e : c ≤ 2000
      · have := hc1 e; omega
      · have := hc2.mp (by omega); omega
    · rw [sv_eq, ← hx, hc, nI_succ]
  have ecm : c = m.1 := hc1 (by omega)
  subst ecm
  rcases h with ⟨h1', h2, h3⟩ | ⟨h1', -⟩
  rotate_left
  · omega
  have fin : ∀ x : Int32, x = nI (if k < 2 then 1 else 0) → Ev G mD_add 135 [some (.ref (cxa G 30)), some (.int (nI k)), some (.int (nI d)), some (.int (bI false))] [.int x, .int (nI m.1), .ref (cxa G 38)] (wl G (sv (sv v 36 m.1 (nI k)) 37 m.1 (nI d)) b) (cx_e G mD_add post) := by
    intro x hx
    refine Ev.asti (pc := 135) dD_add_135 (by omega) (by first | exact fun _ _ => rfl | exact cell_dz hj | exact cell_dr hj | exact cell_mr hk | exact cell_sr hk) _ (rfl) (by omega) (by decide) ?_
    refine tail _ ⟨fun p a1 a2 a3 a4 => by rw [sv_p a4, sv_p a3, sv_p a2], fun a ha => by rw [sv_p (by decide), sv_p (by decide), sv_p (by decide)]⟩ (fun y hy => Or.inl ⟨by show m.1 + 1 ≤ 2000; omega, ?_, fun i hi => ?_⟩)
    · rw [sv_eq, ← hy, sv_p (by decide), sv_p (by decide), sv_p (by decide), h2]
      exact (nI_succ _).symm
    · have hi : i < m.1 + 1 := hi
      show sv _ 30 10 y 36 i = nI (va_up m.2 m.1 (k, d, if k < 2 then 1 else 0) i).1 ∧ sv _ 30 10 y 37 i = nI (va_up m.2 m.1 (k, d, if k < 2 then 1 else 0) i).2.1 ∧ sv _ 30 10 y 38 i = nI (va_up m.2 m.1 (k, d, if k < 2 then 1 else 0) i).2.2
      by_cases e : i = m.1
      · rw [e, up_at]
        exact ⟨by rw [sv_p (by decide), sv_p (by decide), sv_p (by decide), sv_eq], by rw [sv_p (by decide), sv_p (by decide), sv_eq], by rw [sv_p (by decide), sv_eq]; exact hx⟩
      · rw [up_ne e]
        obtain ⟨u1, u2, u3⟩ := h3 i (by omega)
        exact ⟨by rw [sv_p (by decide), sv_p (by decide), sv_p (by decide), sv_k e]; exact u1, by rw [sv_p (by decide), sv_p (by decide), sv_k e, sv_p (by decide)]; exact u2, by rw [sv_p (by decide), sv_k e, sv_p (by decide), sv_p (by decide)]; exact u3⟩
  refine Ev.aload_n (pc := 97) (i := 0) dD_add_97 rfl rfl ?_
  refine Ev.gf (pc := 98) dD_add_98 fl_D_35 (by omega) (rfl) rfl ?_
  refine Ev.aload_n (pc := 101) (i := 0) dD_add_101 rfl rfl ?_
  refine Ev.gf (pc := 102) dD_add_102 fl_D_76 (by omega) (rfl) rfl ?_
  refine Ev.topi hc ?_
  refine Ev.iload_n (pc := 105) (i := 1) dD_add_105 rfl rfl ?_
  refine Ev.asti (pc := 106) dD_add_106 (by omega) (by first | exact fun _ _ => rfl | exact cell_dz hj | exact cell_dr hj | exact cell_mr hk | exact cell_sr hk) _ (rfl) (by omega) (by decide) ?_
  refine Ev.aload_n (pc := 107) (i := 0) dD_add_107 rfl rfl ?_
  refine Ev.gf (pc := 108) dD_add_108 fl_D_38 (by omega) (rfl) rfl ?_
  refine Ev.aload_n (pc := 111) (i := 0) dD_add_111 rfl rfl ?_
  refine Ev.gf (pc := 112) dD_add_112 fl_D_76 (by omega) (rfl) rfl ?_
  refine Ev.topi (y := nI m.1) (by rw [sv_p (by decide)]; exact hc) ?_
  refine Ev.iload_n (pc := 115) (i := 2) dD_add_115 rfl rfl ?_
  refine Ev.asti (pc := 116) dD_add_116 (by omega) (by first | exact fun _ _ => rfl | exact cell_dz hj | exact cell_dr hj | exact cell_mr hk | exact cell_sr hk) _ (rfl) (by omega) (by decide) ?_
  refine Ev.aload_n (pc := 117) (i := 0) dD_add_117 rfl rfl ?_
  refine Ev.gf (pc := 118) dD_add_118 fl_D_41 (by omega) (rfl) rfl ?_
  refine Ev.aload_n (pc := 121) (i := 0) dD_add_121 rfl rfl ?_
  refine Ev.gf (pc := 122) dD_add_122 fl_D_76 (by omega) (rfl) rfl ?_
  refine Ev.topi (y := nI m.1) (by rw [sv_p (by decide), sv_p (by decide)]; exact hc) ?_
  refine Ev.iload_n (pc := 125) (i := 1) dD_add_125 rfl rfl ?_
  refine Ev.iconst (pc := 126) (v := 2) dD_add_126 (by decide) ?_
  refine Ev.cicmp_ge (nI_toInt (by omega)) ((show (2 : Int32).toInt = 2 from by decide)) (pc := 127) (tgt := 134) dD_add_127 rfl (fun h4 => ?_) (fun h4 => ?_)
  · refine Ev.iconst (pc := 134) (v := 0) dD_add_134 (by decide) ?_
    exact fin _ (by rw [if_neg (by omega)]; rfl)
  · refine Ev.iconst (pc := 130) (v := 1) dD_add_130 (by decide) ?_
    refine Ev.goto (pc := 131) (tgt := 135) dD_add_131 rfl ?_
    exact fin _ (by rw [if_pos (by omega)]; rfl)
set_option maxHeartbeats 4000000 in
set_option maxRecDepth 100000 in
theorem ct_D_addC {z : Nat} {m : Pm} (hz : 2000 ≤ z) (hz2 : z < 900000) (h : ma v m z) : Ct G mD_add [.ref (cxa G 30), .int (nI 2), .int (nI 0)] (wl G v b) (fun y w' => ∃ v', w' = wl G v' b ∧ y = none ∧ afr v v' ∧ ma v' (pmC m) (z + 1)) := by
  have app := add_app (G := G) (b := b) (k := 2) (d := 0) (by decide) hz hz2 h (post := fun y w' => ∃ v', w' = wl G v' b ∧ y = none ∧ afr v v' ∧ ma v' (pmC m) (z + 1)) (fun y w' q => q)
  obtain ⟨c, hc, hcz, hc1, hc2⟩ := h.lt hz
  refine Ct.of (by decide) rfl rfl (Nat.le_of_ble_eq_true rfl) ?_
  refine Ev.aload_n (pc := 0) (i := 0) dD_add_0 rfl rfl ?_
  refine Ev.gf (pc := 1) dD_add_1 fl_D_76 (by omega) (rfl) rfl ?_
  refine Ev.topi hc ?_
  refine Ev.cif_le (nI_toInt (by omega)) (pc := 4) (tgt := 56) dD_add_4 rfl (fun h1 => ?_) (fun h1 => ?_)
  · exact app
  refine Ev.iload_n (pc := 7) (i := 1) dD_add_7 rfl rfl ?_
  refine Ev.iconst (pc := 8) (v := 2) dD_add_8 (by decide) ?_
  refine Ev.cicmp_ge (rfl) ((show (2 : Int32).toInt = 2 from by decide)) (pc := 9) (tgt := 56) dD_add_9 rfl (fun h2 => ?_) (fun h2 => ?_)
  · exact app
  · exact absurd (show (2 : Int32).toInt ≤ (nI 2).toInt by decide) h2
set_option maxHeartbeats 4000000 in
set_option maxRecDepth 100000 in
theorem ct_D_addS {z B k d : Nat} {m : Pm} (hk : k < 2) (hd : d < 4) (hz : 2000 ≤ z) (hz2 : z < 900000) (h : ma v m z) (ho : okP B m) (hB : B < 900000) : Ct G mD_add [.ref (cxa G 30), .int (nI k), .int (nI d)] (wl G v b) (fun y w' => ∃ v', w' = wl G v' b ∧ y = none ∧ afr v v' ∧ ma v' (pmS m k d) (z + 1)) := by
  have app : (2000 < m.1 ∨ pmS m k d = (m.1 + 1, va_up m.2 m.1 (k, d, 1))) → Ev G mD_add 56 [some (.ref (cxa G 30)), some (.int (nI k)), some (.int (nI d)), none] [] (wl G v b) (cx_e G mD_add (fun y w' => ∃ v', w' = wl G v' b ∧ y = none ∧ afr v v' ∧ ma v' (pmS m k d) (z + 1))) := by
    intro hq
    refine add_app (by omega) hz hz2 h (fun y w' q => ?_)
    obtain ⟨v', e1, e2, e3, e4⟩ := q
    refine ⟨v', e1, e2, e3, ?_⟩
    rw [if_pos hk] at e4
    rcases hq with hq | hq
    · rcases e4 with ⟨f1, -⟩ | ⟨f1, f2⟩
      · have f1 : m.1 + 1 ≤ 2000 := f1
        omega
      · have := (pmS_len m k d).1
        exact Or.inr ⟨by omega, f2⟩
    · rw [hq]; exact e4
  obtain ⟨c, hc, hcz, hc1, hc2⟩ := h.lt hz
  refine Ct.of (by decide) rfl rfl (Nat.le_of_ble_eq_true rfl) ?_
  refine Ev.aload_n (pc := 0) (i := 0) dD_add_0 rfl rfl ?_
  refine Ev.gf (pc := 1) dD_add_1 fl_D_76 (by omega) (rfl) rfl ?_
  refine Ev.topi hc ?_
  refine Ev.cif_le (nI_toInt (by omega)) (pc := 4) (tgt := 56) dD_add_4 rfl (fun h1 => ?_) (fun h1 => ?_)
  · exact app (Or.inr (by unfold pmS; rw [if_neg (fun e => by have := hc1 (by omega); omega)]))
  refine Ev.iload_n (pc := 7) (i := 1) dD_add_7 rfl rfl ?_
  refine Ev.iconst (pc := 8) (v := 2) dD_add_8 (by decide) ?_
  refine Ev.cicmp_ge (nI_toInt (by omega)) ((show (2 : Int32).toInt = 2 from by decide)) (pc := 9) (tgt := 56) dD_add_9 rfl (fun h2 => ?_) (fun h2 => ?_)
  · omega
  refine Ev.aload_n (pc := 12) (i := 0) dD_add_12 rfl rfl ?_
  refine Ev.gf (pc := 13) dD_add_13 fl_D_76 (by omega) (rfl) rfl ?_
  refine Ev.topi hc ?_
  refine Ev.sipush (pc := 16) (v := 2000) dD_add_16 (by decide) ?_
  refine Ev.cicmp_gt (nI_toInt (by omega)) ((show (2000 : Int32).toInt = 2000 from by decide)) (pc := 19) (tgt := 56) dD_add_19 rfl (fun h3 => ?_) (fun h3 => ?_)
  · exact app (Or.inl (hc2.mp (by omega)))
  have ecm : c = m.1 := hc1 (by omega)
  subst ecm
  rcases h with ⟨h1', hm, ha⟩ | ⟨h1', -⟩
  rotate_left
  · omega
  obtain ⟨u1, u2, u3⟩ := ha (m.1 - 1) (by omega)
  obtain ⟨b1, b2, b3, b4⟩ := (ho (m.1 - 1) (by omega)).lt (by omega)
  have ep : v 30 10 - 1 = nI (m.1 - 1) := by rw [hm]; exact nI_pr1 (by omega)
  refine Ev.aload_n (pc := 22) (i := 0) dD_add_22 rfl rfl ?_
  refine Ev.gf (pc := 23) dD_add_23 fl_D_35 (by omega) (rfl) rfl ?_
  refine Ev.aload_n (pc := 26) (i := 0) dD_add_26 rfl rfl ?_
  refine Ev.gf (pc := 27) dD_add_27 fl_D_76 (by omega) (rfl) rfl ?_
  refine Ev.iconst (pc := 30) (v := 1) dD_add_30 (by decide) ?_
  refine Ev.isub (pc := 31) dD_add_31 ?_
  refine Ev.topi ep ?_
  refine Ev.aldi (pc := 32) dD_add_32 (by omega) (by first | exact fun _ _ => rfl | exact cell_dz hj | exact cell_dr hj | exact cell_mr hk | exact cell_sr hk) _ (rfl) (by omega) (by decide) ?_
  refine Ev.topi u1 ?_
  refine Ev.iload_n (pc := 33) (i := 1) dD_add_33 rfl rfl ?_
  refine Ev.cicmp_ne (nI_toInt (by omega)) (nI_toInt (by omega)) (pc := 34) (tgt := 56) dD_add_34 rfl (fun h4 => ?_) (fun h4 => ?_)
  · exact app (Or.inr (by unfold pmS; rw [if_neg (fun e => by have := e.2.1; omega)]))
  refine Ev.aload_n (pc := 37) (i := 0) dD_add_37 rfl rfl ?_
  refine Ev.gf (pc := 38) dD_add_38 fl_D_38 (by omega) (rfl) rfl ?_
  refine Ev.aload_n (pc := 41) (i := 0) dD_add_41 rfl rfl ?_
  refine Ev.gf (pc := 42) dD_add_42 fl_D_76 (by omega) (rfl) rfl ?_
  refine Ev.iconst (pc := 45) (v := 1) dD_add_45 (by decide) ?_
  refine Ev.isub (pc := 46) dD_add_46 ?_
  refine Ev.topi ep ?_
  refine Ev.aldi (pc := 47) dD_add_47 (by omega) (by first | exact fun _ _ => rfl | exact cell_dz hj | exact cell_dr hj | exact cell_mr hk | exact cell_sr hk) _ (rfl) (by omega) (by decide) ?_
  refine Ev.topi u2 ?_
  refine Ev.iload_n (pc := 48) (i := 2) dD_add_48 rfl rfl ?_
  refine Ev.cicmp_ne (nI_toInt (by omega)) (nI_toInt (by omega)) (pc := 49) (tgt := 56) dD_add_49 rfl (fun h5 => ?_) (fun h5 => ?_)
  · exact app (Or.inr (by unfold pmS; rw [if_neg (fun e => by have := e.2.2; omega)]))
  clear app
  have es : pmS m k d = (m.1, va_up m.2 (m.1 - 1) (k, d, (m.2 (m.1 - 1)).2.2 + 1)) := by unfold pmS; rw [if_pos ⟨by omega, by omega, by omega⟩]
  rw [es]
  refine Ev.iconst (pc := 52) (v := 1) dD_add_52 (by decide) ?_
  refine Ev.goto (pc := 53) (tgt := 57) dD_add_53 rfl ?_
  refine Ev.istore_n (pc := 57) (i := 3) (x := bI true) dD_add_57 rfl (Nat.le_of_ble_eq_true rfl) ?_
  refine Ev.iload_n (pc := 58) (i := 3) dD_add_58 rfl rfl ?_
  refine Ev.if_eqB (pc := 59) (tgt := 87) dD_add_59 rfl (fun h9 => ?_) (fun h9 => ?_)
  · cases h9
  refine Ev.aload_n (pc := 62) (i := 0) dD_add_62 rfl rfl ?_
  refine Ev.gf (pc := 63) dD_add_63 fl_D_41 (by omega) (rfl) rfl ?_
  refine Ev.aload_n (pc := 66) (i := 0) dD_add_66 rfl rfl ?_
  refine Ev.gf (pc := 67) dD_add_67 fl_D_76 (by omega) (rfl) rfl ?_
  refine Ev.iconst (pc := 70) (v := 1) dD_add_70 (by decide) ?_
  refine Ev.isub (pc := 71) dD_add_71 ?_
  refine Ev.topi ep ?_
  refine Ev.aload_n (pc := 72) (i := 0) dD_add_72 rfl rfl ?_
  refine Ev.gf (pc := 73) dD_add_73 fl_D_41 (by omega) (rfl) rfl ?_
  refine Ev.aload_n (pc := 76) (i := 0) dD_add_76 rfl rfl ?_
  refine Ev.gf (pc := 77) dD_add_77 fl_D_76 (by omega) (rfl) rfl ?_
  refine Ev.iconst (pc := 80) (v := 1) dD_add_80 (by decide) ?_
  refine Ev.isub (pc := 81) dD_add_81 ?_
  refine Ev.topi ep ?_
  refine Ev.aldi (pc := 82) dD_add_82 (by omega) (by first | exact fun _ _ => rfl | exact cell_dz hj | exact cell_dr hj | exact cell_mr hk | exact cell_sr hk) _ (rfl) (by omega) (by decide) ?_
  refine Ev.topi u3 ?_
  refine Ev.iconst (pc := 83) (v := 1) dD_add_83 (by decide) ?_
  refine Ev.iadd (pc := 84) dD_add_84 ?_
  refine Ev.topi (nI_succ _).symm ?_
  refine Ev.asti (pc := 85) dD_add_85 (by omega) (by first | exact fun _ _ => rfl | exact cell_dz hj | exact cell_dr hj | exact cell_mr hk | exact cell_sr hk) _ (rfl) (by omega) (by decide) ?_
  refine Ev.vreturn dD_add_86 rfl ⟨_, rfl, rfl, ⟨fun p a1 a2 a3 a4 => by rw [sv_p a4], fun a ha => by rw [sv_p (by decide)]⟩, Or.inl ⟨h1', by rw [sv_p (by decide)]; exact hm, fun i hi => ?_⟩⟩
  have hi : i < m.1 := hi
  show sv v 38 _ _ 36 i = nI (va_up m.2 (m.1 - 1) (k, d, (m.2 (m.1 - 1)).2.2 + 1) i).1 ∧ sv v 38 _ _ 37 i = nI (va_up m.2 (m.1 - 1) (k, d, (m.2 (m.1 - 1)).2.2 + 1) i).2.1 ∧ sv v 38 _ _ 38 i = nI (va_up m.2 (m.1 - 1) (k, d, (m.2 (m.1 - 1)).2.2 + 1) i).2.2
  rw [show sv v 38 (m.1 - 1) (nI ((m.2 (m.1 - 1)).2.2 + 1)) 36 = v 36 from sv_p (by decide), show sv v 38 (m.1 - 1) (nI ((m.2 (m.1 - 1)).2.2 + 1)) 37 = v 37 from sv_p (by decide)]
  by_cases e : i = m.1 - 1
  · rw [e, up_at, sv_eq, u1, u2, show (m.2 (m.1 - 1)).1 = k by omega, show (m.2 (m.1 - 1)).2.1 = d by omega]
    exact ⟨rfl, rfl, rfl⟩
  · rw [up_ne e, sv_k e]
    exact ha i hi
/-! a step on the way back -/
def onB (ok cov : Nat → Bool) (t : Nat → Nat) (g q m : Nat) : Bool := ok q && decide (t q = m) && (q == g || !cov q)
set_option maxHeartbeats 4000000 in
set_option maxRecDepth 100000 in
theorem ct_D_isOn_no {j g : Nat} (y : Int32) : Ct G mD_isOn [.ref (cxa G 30), .int (nI j), .int (-1), .int (nI g), .int y] (wl G v b) (fun x w' => w' = wl G v b ∧ x = some (.int (bI false))) := by
  refine Ct.of (by decide) rfl rfl (Nat.le_of_ble_eq_true rfl) ?_
  refine Ev.iload_n (pc := 0) (i := 2) dD_isOn_0 rfl rfl ?_
  refine Ev.cif_lt (rfl) (pc := 1) (tgt := 43) dD_isOn_1 rfl (fun h1 => ?_) (fun h1 => ?_)
  · refine Ev.iconst (pc := 43) (v := 0) dD_isOn_43 (by decide) ?_
    exact Ev.zreturn (b := false) dD_isOn_44 rfl (⟨rfl, rfl⟩)
  · exact absurd (show (-1 : Int32).toInt < 0 by decide) h1
set_option maxHeartbeats 4000000 in
set_option maxRecDepth 100000 in
theorem ct_D_isOn {I : Ins} {j g q m : Nat} {ok : Nat → Bool} {t : Nat → Nat} (hj : j < 3) (hI : mi v j I) (hr : ∀ q, q < 320 → b 44 q = ok q) (hT : tb v 46 t) (hB : ∀ q, t q ≤ 320 ∨ t q = 100000) (hq : q < 320) (hg : g < 320) (hm : m ≤ 100000) : Ct G mD_isOn [.ref (cxa G 30), .int (nI j), .int (nI q), .int (nI g), .int (nI m)] (wl G v b) (fun x w' => w' = wl G v b ∧ x = some (.int (bI (onB ok (cvI (b 43) I) t g q m)))) := by
  have h8 := hI.2.1
  have hbq := hB q
  have no : onB ok (cvI (b 43) I) t g q m = false → Ev G mD_isOn 43 [some (.ref (cxa G 30)), some (.int (nI j)), some (.int (nI q)), some (.int (nI g)), some (.int (nI m))] [] (wl G v b) (cx_e G mD_isOn (fun x w' => w' = wl G v b ∧ x = some (.int (bI (onB ok (cvI (b 43) I) t g q m))))) := by
    intro e
    rw [e]
    refine Ev.iconst (pc := 43) (v := 0) dD_isOn_43 (by decide) ?_
    exact Ev.zreturn (b := false) dD_isOn_44 rfl (⟨rfl, rfl⟩)
  have yes : onB ok (cvI (b 43) I) t g q m = true → Ev G mD_isOn 39 [some (.ref (cxa G 30)), some (.int (nI j)), some (.int (nI q)), some (.int (nI g)), some (.int (nI m))] [] (wl G v b) (cx_e G mD_isOn (fun x w' => w' = wl G v b ∧ x = some (.int (bI (onB ok (cvI (b 43) I) t g q m))))) := by
    intro e
    rw [e]
    refine Ev.iconst (pc := 39) (v := 1) dD_isOn_39 (by decide) ?_
    refine Ev.goto (pc := 40) (tgt := 44) dD_isOn_40 rfl ?_
    exact Ev.zreturn (b := true) dD_isOn_44 rfl (⟨rfl, rfl⟩)
  refine Ct.of (by decide) rfl rfl (Nat.le_of_ble_eq_true rfl) ?_
  refine Ev.iload_n (pc := 0) (i := 2) dD_isOn_0 rfl rfl ?_
  refine Ev.cif_lt (nI_toInt (by omega)) (pc := 1) (tgt := 43) dD_isOn_1 rfl (fun h1 => ?_) (fun h1 => ?_)
  · omega
  refine Ev.aload_n (pc := 4) (i := 0) dD_isOn_4 rfl rfl ?_
  refine Ev.gf (pc := 5) dD_isOn_5 fl_D_60 (by omega) (rfl) rfl ?_
  refine Ev.iload_n (pc := 8) (i := 2) dD_isOn_8 rfl rfl ?_
  refine Ev.aldb (pc := 9) dD_isOn_9 (by omega) (by first | exact fun _ _ => rfl | exact cell_dz hj | exact cell_dr hj | exact cell_mr hk | exact cell_sr hk) _ (rfl) (by omega) (by decide) ?_
  rw [hr q hq]
  refine Ev.if_eqB (pc := 10) (tgt := 43) dD_isOn_10 rfl (fun h2 => ?_) (fun h2 => ?_)
  · exact no (by unfold onB; rw [h2]; rfl)
  refine Ev.aload_n (pc := 13) (i := 0) dD_isOn_13 rfl rfl ?_
  refine Ev.gf (pc := 14) dD_isOn_14 fl_D_66 (by omega) (rfl) rfl ?_
  refine Ev.iload_n (pc := 17) (i := 2) dD_isOn_17 rfl rfl ?_
  refine Ev.aldi (pc := 18) dD_isOn_18 (by omega) (by first | exact fun _ _ => rfl | exact cell_dz hj | exact cell_dr hj | exact cell_mr hk | exact cell_sr hk) _ (rfl) (by omega) (by decide) ?_
  refine Ev.topi (hT q hq) ?_
  refine Ev.iload (pc := 19) dD_isOn_19 rfl ?_
  refine Ev.cicmp_ne (nI_toInt (by omega)) (nI_toInt (by omega)) (pc := 21) (tgt := 43) dD_isOn_21 rfl (fun h3 => ?_) (fun h3 => ?_)
  · exact no (by unfold onB; rw [decide_eq_false (p := t q = m) (by omega)]; simp)
  have htm : t q = m := by omega
  refine Ev.iload_n (pc := 24) (i := 2) dD_isOn_24 rfl rfl ?_
  refine Ev.iload_n (pc := 25) (i := 3) dD_isOn_25 rfl rfl ?_
  refine Ev.cicmp_eq (nI_toInt (by omega)) (nI_toInt (by omega)) (pc := 26) (tgt := 39) dD_isOn_26 rfl (fun h4 => ?_) (fun h4 => ?_)
  · exact yes (by unfold onB; rw [h2, decide_eq_true htm, show q = g by omega]; simp)
  refine Ev.aload_n (pc := 29) (i := 0) dD_isOn_29 rfl rfl ?_
  refine Ev.iload_n (pc := 30) (i := 1) dD_isOn_30 rfl rfl ?_
  refine Ev.iload_n (pc := 31) (i := 2) dD_isOn_31 rfl rfl ?_
  refine Ev.iconst (pc := 32) (v := 0) dD_isOn_32 (by decide) ?_
  refine Ev.callV (pc := 33) dD_isOn_33 kv_D_125 ⟨Nat.le_of_ble_eq_true rfl, Nat.le_of_ble_eq_true rfl⟩ (wl_at (by decide) rfl) rfl rfl (ct_D_stockAt_0 hj hI hq) rfl rfl (Nat.le_of_ble_eq_true rfl) ?_
  rintro _ _ ⟨rfl, rfl⟩
  have hle : cntB I.1 (fun a => hasB (b 43) (zP q + I.2.1 a) (rP q + I.2.2 a)) ≤ I.1 := cntB_le
  have hc : cvI (b 43) I q = true ↔ 0 < cntB I.1 (fun a => hasB (b 43) (zP q + I.2.1 a) (rP q + I.2.2 a)) := cntB_any.symm
  refine Ev.cif_ne (nI_toInt (by omega)) (pc := 36) (tgt := 43) dD_isOn_36 rfl (fun h5 => ?_) (fun h5 => ?_)
  · refine no ?_
    unfold onB
    rw [hc.mpr (by omega), show (q == g) = false from by simp; omega]
    simp
  · refine yes ?_
    unfold onB
    rw [bf (e := cvI (b 43) I q) (fun e => by have := hc.mp e; omega), h2, decide_eq_true htm]
    simp
end Tg
