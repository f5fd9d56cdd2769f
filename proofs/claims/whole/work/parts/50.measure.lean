/-! The reference: a table of distances -/
section Ps
variable {ok ex : Nat → Bool} {n p d : Nat} {t t' : Nat → Nat}
/-- within pass n: all before place p, turn d is done -/
def ps (ok ex : Nat → Bool) (n : Nat) (t t' : Nat → Nat) (p d : Nat) : Prop :=
  (∀ q, t q ≠ 100000 → t' q = t q) ∧ (∀ q, t q = 100000 → t' q = 100000 ∨ (t' q = n + 1 ∧ ok q = true ∧ ∃ p d, t p = n ∧ ex p = true ∧ nxt p d = some q)) ∧
  (∀ p' d' q, (p' < p ∨ (p' = p ∧ d' < d)) → t p' = n → ex p' = true → nxt p' d' = some q → ok q = true → t' q ≠ 100000)
theorem ps_0 : ps ok ex n t t 0 0 := ⟨fun _ _ => rfl, fun _ h => Or.inl h, fun p' d' q h => absurd h (by omega)⟩
theorem ps.skip (h : ps ok ex n t t' p d) (hq : ∀ q, nxt p d = some q → t p = n → ex p = true → ok q = true → t' q ≠ 100000) : ps ok ex n t t' p (d + 1) := by
  refine ⟨h.1, h.2.1, fun p' d' q hp e1 e2 e3 e4 => ?_⟩
  by_cases e : p' = p ∧ d' = d
  · obtain ⟨rfl, rfl⟩ := e
    exact hq q e3 e1 e2 e4
  · exact h.2.2 p' d' q (by omega) e1 e2 e3 e4
theorem ps.set (h : ps ok ex n t t' p d) (hn : n < 90000) (h1 : t p = n) (h2 : ex p = true) {q : Nat} (h3 : nxt p d = some q) (h4 : ok q = true) (h5 : t' q = 100000) : ps ok ex n t (va_up t' q (n + 1)) p (d + 1) := by
  have htq : t q = 100000 := by
    by_cases e : t q = 100000
    · exact e
    · rw [← h.1 q e]; exact h5
  refine ⟨fun a ha => ?_, fun a ha => ?_, fun p' d' a hp e1 e2 e3 e4 => ?_⟩
  · rw [up_ne (by rintro rfl; exact ha htq)]
    exact h.1 a ha
  · by_cases e : a = q
    · subst e
      rw [up_at]
      exact Or.inr ⟨rfl, h4, p, d, h1, h2, h3⟩
    · rw [up_ne e]
      exact h.2.1 a ha
  · by_cases e : a = q
    · subst e
      rw [up_at]
      omega
    · rw [up_ne e]
      by_cases e' : p' = p ∧ d' = d
      · obtain ⟨rfl, rfl⟩ := e'
        rw [h3] at e3
        cases e3
        exact absurd rfl e
      · exact h.2.2 p' d' a (by omega) e1 e2 e3 e4
theorem ps.turn (h : ps ok ex n t t' p d) (hd : d < 4 → ¬ (t p = n ∧ ex p = true)) : ps ok ex n t t' (p + 1) 0 := by
  refine ⟨h.1, h.2.1, fun p' d' q hp e1 e2 e3 e4 => ?_⟩
  have hd4 := (nxt_lt e3).2.2
  by_cases e : p' = p
  · subst e
    by_cases e' : d' < d
    · exact h.2.2 p' d' q (by omega) e1 e2 e3 e4
    · exact absurd ⟨e1, e2⟩ (hd (by omega))
  · exact h.2.2 p' d' q (by omega) e1 e2 e3 e4
theorem ps.tp (h : ps ok ex n t t' 320 0) : tp nxt ok ex n t t' := ⟨h.1, h.2.1, fun p d q e1 e2 e3 e4 => h.2.2 p d q (Or.inl (nxt_lt e3).1) e1 e2 e3 e4⟩
theorem ps.eqn (h : ps ok ex n t t' p d) (hn : n < 90000) (a : Nat) : t' a = n ↔ t a = n := by
  by_cases e : t a = 100000
  · rcases h.2.1 a e with h1 | ⟨h1, -⟩ <;> omega
  · rw [h.1 a e]
theorem cntB_l2 {f g : Nat → Bool} : ∀ m, (∀ i, i < m → g i = true → f i = true) → cntB m g ≤ cntB m f ∧ ∀ i, i < m → f i = true → g i = false → cntB m g < cntB m f
  | 0, _ => ⟨Nat.le_refl _, fun i hi => absurd hi (by omega)⟩
  | m + 1, h => by
    obtain ⟨h1, h2⟩ := cntB_l2 (f := f) (g := g) m (fun i hi => h i (by omega))
    have h3 := h m (by omega)
    simp only [cntB]
    refine ⟨?_, fun i hi hf hg => ?_⟩
    · split
      · rename_i e
        rw [if_pos (h3 e)]
        omega
      · split <;> omega
    · by_cases e : i = m
      · subst e
        rw [if_pos hf, if_neg (by rw [hg]; decide)]
        omega
      · have := h2 i (by omega) hf hg
        split
        · rename_i e
          rw [if_pos (h3 e)]
          omega
        · split <;> omega
/-- how many places have no distance yet -/
def unk (t : Nat → Nat) : Nat := cntB 320 (fun q => decide (t q = 100000))
theorem ps.fewer (h : ps ok ex n t t' p d) {q : Nat} (hq : q < 320) (h1 : t q = 100000) (h2 : t' q ≠ 100000) : unk t' < unk t := by
  refine (cntB_l2 320 (fun i _ e => ?_)).2 q hq (decide_eq_true h1) (decide_eq_false h2)
  have e := of_decide_eq_true e
  refine decide_eq_true ?_
  by_cases e' : t i = 100000
  · exact e'
  · rw [← h.1 i e']; exact e
end Ps
def tb (v : Nat → Nat → Int32) (a : Nat) (t : Nat → Nat) : Prop := ∀ q, q < 320 → v a q = nI (t q)
theorem i100000 : (100000 : Int32) = nI 100000 := by decide
section Ms
variable {G : cx_G} {v : Nat → Nat → Int32} {b : Nat → Nat → Bool}
set_option maxHeartbeats 4000000 in
set_option maxRecDepth 100000 in
theorem ct_D_measure_45 {I : Ins} {j g : Nat} {ok : Nat → Bool} (hj : j < 3) (hI : mi v j I) (hg : g < 320) (hr : ∀ q, q < 320 → b 44 q = ok q) : Ct G mD_measure [.ref (cxa G 30), .ref (cxa G 45), .int (nI j), .int (nI g)] (wl G v b) (fun y w' => ∃ (v' : Nat → Nat → Int32) (t : Nat → Nat), w' = wl G v' b ∧ y = none ∧ (∀ p, p ≠ 45 → v' p = v p) ∧ tb v' 45 t ∧ (∀ q, t q ≤ 320 ∨ t q = 100000) ∧ dk nxt ok (fun q => q == g || !cvI (b 43) I q) g t) := by
  have h8 := hI.2.1
  have outer : ∀ n, n ≤ 320 → ∀ (v' : Nat → Nat → Int32) (t : Nat → Nat) (c : Bool) (l6 l7 l8 l9 : Option Value), (∀ p, p ≠ 45 → v' p = v p) → tb v' 45 t → (∀ q, t q ≤ 320 ∨ t q = 100000) → (c = true → tk nxt ok (fun q => q == g || !cvI (b 43) I q) g n t ∧ unk t + n ≤ 319) → (c = false → dk nxt ok (fun q => q == g || !cvI (b 43) I q) g t) → Ev G mD_measure 39 [some (.ref (cxa G 30)), some (.ref (cxa G 45)), some (.int (nI j)), some (.int (nI g)), some (.int (bI c)), some (.int (nI n)), l6, l7, l8, l9] [] (wl G v' b) (cx_e G mD_measure (fun y w' => ∃ (v' : Nat → Nat → Int32) (t : Nat → Nat), w' = wl G v' b ∧ y = none ∧ (∀ p, p ≠ 45 → v' p = v p) ∧ tb v' 45 t ∧ (∀ q, t q ≤ 320 ∨ t q = 100000) ∧ dk nxt ok (fun q => q == g || !cvI (b 43) I q) g t)) := by
    refine loopN (fun n hn ih v0 t c l6 l7 l8 l9 hF0 hT0 hB0 hc1 hc2 => ?_)
    refine Ev.iload (pc := 39) dD_measure_39 rfl ?_
    refine Ev.if_eqB (pc := 41) (tgt := 167) dD_measure_41 rfl (fun h1 => ?_) (fun h1 => ?_)
    · exact Ev.vreturn dD_measure_167 rfl ⟨v0, t, rfl, rfl, hF0, hT0, hB0, hc2 h1⟩
    obtain ⟨htk, hun⟩ := hc1 h1
    have hn2 : n < 320 := by omega
    have ih := ih hn2
    clear hc1 hc2
    have scan : ∀ p, p ≤ 320 → ∀ (v' : Nat → Nat → Int32) (t' : Nat → Nat) (c : Bool) (l7 l8 l9 : Option Value), (∀ p, p ≠ 45 → v' p = v p) → tb v' 45 t' → ps ok (fun q => q == g || !cvI (b 43) I q) n t t' p 0 → (c = false → ∀ q, t' q = t q) → (c = true → ∃ q, q < 320 ∧ t q = 100000 ∧ t' q ≠ 100000) → Ev G mD_measure 50 [some (.ref (cxa G 30)), some (.ref (cxa G 45)), some (.int (nI j)), some (.int (nI g)), some (.int (bI c)), some (.int (nI n)), some (.int (nI p)), l7, l8, l9] [] (wl G v' b) (cx_e G mD_measure (fun y w' => ∃ (v' : Nat → Nat → Int32) (t : Nat → Nat), w' = wl G v' b ∧ y = none ∧ (∀ p, p ≠ 45 → v' p = v p) ∧ tb v' 45 t ∧ (∀ q, t q ≤ 320 ∨ t q = 100000) ∧ dk nxt ok (fun q => q == g || !cvI (b 43) I q) g t)) := by
      refine loopN (fun p hp ihp v' t' c l7 l8 l9 hF hT hps hc1 hc2 => ?_)
      have hbd : ∀ q, t' q ≤ n + 1 ∨ t' q = 100000 := by
        intro q
        by_cases e : t q = 100000
        · rcases hps.2.1 q e with h | ⟨h, -⟩
          · exact Or.inr h
          · exact Or.inl (by omega)
        · rw [hps.1 q e]
          rcases htk.1 q with h | h
          · exact Or.inl (by omega)
          · exact absurd h e
      refine Ev.iload (pc := 50) dD_measure_50 rfl ?_
      refine Ev.sipush (pc := 52) (v := 320) dD_measure_52 (by decide) ?_
      refine Ev.cicmp_ge (nI_toInt (by omega)) ((show (320 : Int32).toInt = 320 from by decide)) (pc := 55) (tgt := 161) dD_measure_55 rfl (fun h2 => ?_) (fun h2 => ?_)
      · have e : p = 320 := by omega
        subst e
        refine Ev.iinc (pc := 161) dD_measure_161 rfl (cx_inc _) (Nat.le_of_ble_eq_true rfl) ?_
        refine Ev.goto (pc := 164) (tgt := 39) dD_measure_164 rfl ?_
        refine ih v' t' c _ _ _ _ hF hT (fun q => by have := hbd q; omega) (fun e => ?_) (fun e => ?_)
        · obtain ⟨q, q1, q2, q3⟩ := hc2 e
          have := hps.fewer q1 q2 q3
          exact ⟨htk.next (by omega) hps.tp, by omega⟩
        · have et : t' = t := funext (hc1 e)
          rw [et] at hps ⊢
          exact htk.done (by omega) hps.tp
      have hp2 : p < 320 := by omega
      have ihp := ihp hp2
      have eqn := hps.eqn (by omega) p
      have hbp := hbd p
      have no : ¬ (t p = n ∧ (fun q => q == g || !cvI (b 43) I q) p = true) → Ev G mD_measure 88 [some (.ref (cxa G 30)), some (.ref (cxa G 45)), some (.int (nI j)), some (.int (nI g)), some (.int (bI c)), some (.int (nI n)), some (.int (nI p)), l7, l8, l9] [] (wl G v' b) (cx_e G mD_measure (fun y w' => ∃ (v' : Nat → Nat → Int32) (t : Nat → Nat), w' = wl G v' b ∧ y = none ∧ (∀ p, p ≠ 45 → v' p = v p) ∧ tb v' 45 t ∧ (∀ q, t q ≤ 320 ∨ t q = 100000) ∧ dk nxt ok (fun q => q == g || !cvI (b 43) I q) g t)) := by
        intro hno
        refine Ev.iconst (pc := 88) (v := 0) dD_measure_88 (by decide) ?_
        refine Ev.istore (pc := 89) (x := bI false) dD_measure_89 (Nat.le_of_ble_eq_true rfl) ?_
        refine Ev.iconst (pc := 91) (v := 0) dD_measure_91 (by decide) ?_
        refine Ev.istore (pc := 92) dD_measure_92 (Nat.le_of_ble_eq_true rfl) ?_
        refine Ev.iload (pc := 94) dD_measure_94 rfl ?_
        refine Ev.iconst (pc := 96) (v := 4) dD_measure_96 (by decide) ?_
        refine Ev.cicmp_ge (rfl) ((show (4 : Int32).toInt = 4 from by decide)) (pc := 97) (tgt := 155) dD_measure_97 rfl (fun h3 => ?_) (fun h3 => ?_)
        · exact absurd h3 (by decide)
        refine Ev.iload (pc := 100) dD_measure_100 rfl ?_
        refine Ev.if_eqB (pc := 102) (tgt := 155) dD_measure_102 rfl (fun h4 => ?_) (fun h4 => ?_)
        · refine Ev.iinc (pc := 155) dD_measure_155 rfl (cx_inc _) (Nat.le_of_ble_eq_true rfl) ?_
          refine Ev.goto (pc := 158) (tgt := 50) dD_measure_158 rfl ?_
          exact ihp v' t' c _ _ _ hF hT (hps.turn (fun _ => hno)) hc1 hc2
        · cases h4
      have yes : t p = n → (fun q => q == g || !cvI (b 43) I q) p = true → Ev G mD_measure 84 [some (.ref (cxa G 30)), some (.ref (cxa G 45)), some (.int (nI j)), some (.int (nI g)), some (.int (bI c)), some (.int (nI n)), some (.int (nI p)), l7, l8, l9] [] (wl G v' b) (cx_e G mD_measure (fun y w' => ∃ (v' : Nat → Nat → Int32) (t : Nat → Nat), w' = wl G v' b ∧ y = none ∧ (∀ p, p ≠ 45 → v' p = v p) ∧ tb v' 45 t ∧ (∀ q, t q ≤ 320 ∨ t q = 100000) ∧ dk nxt ok (fun q => q == g || !cvI (b 43) I q) g t)) := by
        intro y1 y2
        clear no
        refine Ev.iconst (pc := 84) (v := 1) dD_measure_84 (by decide) ?_
        refine Ev.goto (pc := 85) (tgt := 89) dD_measure_85 rfl ?_
        refine Ev.istore (pc := 89) (x := bI true) dD_measure_89 (Nat.le_of_ble_eq_true rfl) ?_
        refine Ev.iconst (pc := 91) (v := 0) dD_measure_91 (by decide) ?_
        refine Ev.istore (pc := 92) dD_measure_92 (Nat.le_of_ble_eq_true rfl) ?_
        have inner : ∀ d, d ≤ 4 → ∀ (v' : Nat → Nat → Int32) (t' : Nat → Nat) (c : Bool) (l9 : Option Value), (∀ p, p ≠ 45 → v' p = v p) → tb v' 45 t' → ps ok (fun q => q == g || !cvI (b 43) I q) n t t' p d → (c = false → ∀ q, t' q = t q) → (c = true → ∃ q, q < 320 ∧ t q = 100000 ∧ t' q ≠ 100000) → Ev G mD_measure 94 [some (.ref (cxa G 30)), some (.ref (cxa G 45)), some (.int (nI j)), some (.int (nI g)), some (.int (bI c)), some (.int (nI n)), some (.int (nI p)), some (.int (bI true)), some (.int (nI d)), l9] [] (wl G v' b) (cx_e G mD_measure (fun y w' => ∃ (v' : Nat → Nat → Int32) (t : Nat → Nat), w' = wl G v' b ∧ y = none ∧ (∀ p, p ≠ 45 → v' p = v p) ∧ tb v' 45 t ∧ (∀ q, t q ≤ 320 ∨ t q = 100000) ∧ dk nxt ok (fun q => q == g || !cvI (b 43) I q) g t)) := by
          refine loopN (fun d hd ihd v' t' c l9 hF hT hps hc1 hc2 => ?_)
          have hbd : ∀ q, t' q ≤ n + 1 ∨ t' q = 100000 := by
            intro q
            by_cases e : t q = 100000
            · rcases hps.2.1 q e with h | ⟨h, -⟩
              · exact Or.inr h
              · exact Or.inl (by omega)
            · rw [hps.1 q e]
              rcases htk.1 q with h | h
              · exact Or.inl (by omega)
              · exact absurd h e
          refine Ev.iload (pc := 94) dD_measure_94 rfl ?_
          refine Ev.iconst (pc := 96) (v := 4) dD_measure_96 (by decide) ?_
          refine Ev.cicmp_ge (nI_toInt (by omega)) ((show (4 : Int32).toInt = 4 from by decide)) (pc := 97) (tgt := 155) dD_measure_97 rfl (fun h3 => ?_) (fun h3 => ?_)
          · refine Ev.iinc (pc := 155) dD_measure_155 rfl (cx_inc _) (Nat.le_of_ble_eq_true rfl) ?_
            refine Ev.goto (pc := 158) (tgt := 50) dD_measure_158 rfl ?_
            exact ihp v' t' c _ _ _ hF hT (hps.turn (fun _ => by omega)) hc1 hc2
          have hd4 : d < 4 := by omega
          have ihd := ihd hd4
          refine Ev.iload (pc := 100) dD_measure_100 rfl ?_
          refine Ev.if_eqB (pc := 102) (tgt := 155) dD_measure_102 rfl (fun h4 => ?_) (fun h4 => ?_)
          · cases h4
          refine Ev.iload (pc := 105) dD_measure_105 rfl ?_
          refine Ev.iload (pc := 107) dD_measure_107 rfl ?_
          refine Ev.callS (pc := 109) dD_measure_109 ks_D_110 ⟨Nat.le_of_ble_eq_true rfl, Nat.le_of_ble_eq_true rfl⟩ (ct_D_next hp2 hd4) rfl rfl (Nat.le_of_ble_eq_true rfl) ?_
          rintro _ _ ⟨rfl, rfl⟩
          have skip : ∀ x : Int32, (∀ q, nxt p d = some q → ok q = true → t' q ≠ 100000) → Ev G mD_measure 149 [some (.ref (cxa G 30)), some (.ref (cxa G 45)), some (.int (nI j)), some (.int (nI g)), some (.int (bI c)), some (.int (nI n)), some (.int (nI p)), some (.int (bI true)), some (.int (nI d)), some (.int x)] [] (wl G v' b) (cx_e G mD_measure (fun y w' => ∃ (v' : Nat → Nat → Int32) (t : Nat → Nat), w' = wl G v' b ∧ y = none ∧ (∀ p, p ≠ 45 → v' p = v p) ∧ tb v' 45 t ∧ (∀ q, t q ≤ 320 ∨ t q = 100000) ∧ dk nxt ok (fun q => q == g || !cvI (b 43) I q) g t)) := by
            intro x hx
            refine Ev.iinc (pc := 149) dD_measure_149 rfl (cx_inc _) (Nat.le_of_ble_eq_true rfl) ?_
            refine Ev.goto (pc := 152) (tgt := 94) dD_measure_152 rfl ?_
            exact ihd v' t' c _ hF hT (hps.skip (fun q e1 _ _ e4 => hx q e1 e4)) hc1 hc2
          cases hnx : nxt p d with
          | none =>
            have e1 : nxI p d = -1 := by unfold nxI; rw [hnx]
            rw [e1]
            refine Ev.istore (pc := 112) dD_measure_112 (Nat.le_of_ble_eq_true rfl) ?_
            refine Ev.iload (pc := 114) dD_measure_114 rfl ?_
            refine Ev.cif_lt (rfl) (pc := 116) (tgt := 149) dD_measure_116 rfl (fun h5 => ?_) (fun h5 => ?_)
            · exact skip _ (fun q e => by rw [hnx] at e; cases e)
            · exact absurd h5 (by decide)
          | some q =>
            have e1 : nxI p d = nI q := by unfold nxI; rw [hnx]
            have hq := (nxt_lt hnx).2.1
            have hbq := hbd q
            rw [e1]
            refine Ev.istore (pc := 112) dD_measure_112 (Nat.le_of_ble_eq_true rfl) ?_
            refine Ev.iload (pc := 114) dD_measure_114 rfl ?_
            refine Ev.cif_lt (nI_toInt (by omega)) (pc := 116) (tgt := 149) dD_measure_116 rfl (fun h5 => ?_) (fun h5 => ?_)
            · omega
            refine Ev.aload_n (pc := 119) (i := 0) dD_measure_119 rfl rfl ?_
            refine Ev.gf (pc := 120) dD_measure_120 fl_D_60 (by omega) (rfl) rfl ?_
            refine Ev.iload (pc := 123) dD_measure_123 rfl ?_
            refine Ev.aldb (pc := 125) dD_measure_125 (by omega) (by first | exact fun _ _ => rfl | exact cell_dz hj | exact cell_dr hj | exact cell_mr hk | exact cell_sr hk) _ (rfl) (by omega) (by decide) ?_
            rw [hr q hq]
            refine Ev.if_eqB (pc := 126) (tgt := 149) dD_measure_126 rfl (fun h6 => ?_) (fun h6 => ?_)
            · exact skip _ (fun q' e e2 => by rw [hnx] at e; cases e; rw [h6] at e2; cases e2)
            refine Ev.aload_n (pc := 129) (i := 1) dD_measure_129 rfl rfl ?_
            refine Ev.iload (pc := 130) dD_measure_130 rfl ?_
            refine Ev.aldi (pc := 132) dD_measure_132 (by omega) (by first | exact fun _ _ => rfl | exact cell_dz hj | exact cell_dr hj | exact cell_mr hk | exact cell_sr hk) _ (rfl) (by omega) (by decide) ?_
            refine Ev.topi (hT q hq) ?_
            refine Ev.ldc (pc := 133) dD_measure_133 kc_D_124 ?_
            refine Ev.cicmp_ne (nI_toInt (by omega)) ((show (100000 : Int32).toInt = 100000 from by decide)) (pc := 135) (tgt := 149) dD_measure_135 rfl (fun h7 => ?_) (fun h7 => ?_)
            · exact skip _ (fun q' e _ => by rw [hnx] at e; cases e; exact fun e' => h7 (by omega))
            have h7 : t' q = 100000 := by omega
            refine Ev.aload_n (pc := 138) (i := 1) dD_measure_138 rfl rfl ?_
            refine Ev.iload (pc := 139) dD_measure_139 rfl ?_
            refine Ev.iload (pc := 141) dD_measure_141 rfl ?_
            refine Ev.iconst (pc := 143) (v := 1) dD_measure_143 (by decide) ?_
            refine Ev.iadd (pc := 144) dD_measure_144 ?_
            refine Ev.topi (nI_succ _).symm ?_
            refine Ev.asti (pc := 145) dD_measure_145 (by omega) (by first | exact fun _ _ => rfl | exact cell_dz hj | exact cell_dr hj | exact cell_mr hk | exact cell_sr hk) _ (rfl) (by omega) (by decide) ?_
            refine Ev.iconst (pc := 146) (v := 1) dD_measure_146 (by decide) ?_
            refine Ev.istore (pc := 147) dD_measure_147 (Nat.le_of_ble_eq_true rfl) ?_
            refine Ev.iinc (pc := 149) dD_measure_149 rfl (cx_inc _) (Nat.le_of_ble_eq_true rfl) ?_
            refine Ev.goto (pc := 152) (tgt := 94) dD_measure_152 rfl ?_
            refine ihd _ (va_up t' q (n + 1)) true _ (fun p hp => by rw [sv_p hp]; exact hF p hp) (fun a ha => ?_) (hps.set (by omega) y1 y2 hnx h6 h7) (fun e => by cases e) (fun _ => ⟨q, hq, ?_, by rw [up_at]; omega⟩)
            · by_cases e : a = q
              · subst e
                rw [sv_eq, up_at]
              · rw [sv_k e, up_ne e]
                exact hT a ha
            · by_cases e : t q = 100000
              · exact e
              · rw [← hps.1 q e]; exact h7
        exact inner 0 (Nat.zero_le _) v' t' c _ hF hT hps hc1 hc2
      refine Ev.aload_n (pc := 58) (i := 1) dD_measure_58 rfl rfl ?_
      refine Ev.iload (pc := 59) dD_measure_59 rfl ?_
      refine Ev.aldi (pc := 61) dD_measure_61 (by omega) (by first | exact fun _ _ => rfl | exact cell_dz hj | exact cell_dr hj | exact cell_mr hk | exact cell_sr hk) _ (rfl) (by omega) (by decide) ?_
      refine Ev.topi (hT p hp2) ?_
      refine Ev.iload (pc := 62) dD_measure_62 rfl ?_
      refine Ev.cicmp_ne (nI_toInt (by omega)) (nI_toInt (by omega)) (pc := 64) (tgt := 88) dD_measure_64 rfl (fun h3 => ?_) (fun h3 => ?_)
      · exact no (fun e => h3 (by omega))
      have htn : t p = n := eqn.mp (by omega)
      refine Ev.iload (pc := 67) dD_measure_67 rfl ?_
      refine Ev.iload_n (pc := 69) (i := 3) dD_measure_69 rfl rfl ?_
      refine Ev.cicmp_eq (nI_toInt (by omega)) (nI_toInt (by omega)) (pc := 70) (tgt := 84) dD_measure_70 rfl (fun h4 => ?_) (fun h4 => ?_)
      · exact yes htn (by simp; exact Or.inl (by omega))
      refine Ev.aload_n (pc := 73) (i := 0) dD_measure_73 rfl rfl ?_
      refine Ev.iload_n (pc := 74) (i := 2) dD_measure_74 rfl rfl ?_
      refine Ev.iload (pc := 75) dD_measure_75 rfl ?_
      refine Ev.iconst (pc := 77) (v := 0) dD_measure_77 (by decide) ?_
      refine Ev.callV (pc := 78) dD_measure_78 kv_D_125 ⟨Nat.le_of_ble_eq_true rfl, Nat.le_of_ble_eq_true rfl⟩ (wl_at (by decide) rfl) rfl rfl (ct_D_stockAt_0 hj (hI.cg (hF 32 (by decide)) (hF 33 (by decide)) (hF 34 (by decide))) hp2) rfl rfl (Nat.le_of_ble_eq_true rfl) ?_
      rintro _ _ ⟨rfl, rfl⟩
      have hle : cntB I.1 (fun i => hasB (b 43) (zP p + I.2.1 i) (rP p + I.2.2 i)) ≤ I.1 := cntB_le
      have hc : cvI (b 43) I p = true ↔ 0 < cntB I.1 (fun i => hasB (b 43) (zP p + I.2.1 i) (rP p + I.2.2 i)) := cntB_any.symm
      refine Ev.cif_ne (nI_toInt (by omega)) (pc := 81) (tgt := 88) dD_measure_81 rfl (fun h5 => ?_) (fun h5 => ?_)
      · refine no (fun e => ?_)
        have e2 : (p == g || !cvI (b 43) I p) = true := e.2
        rw [hc.mpr (by omega)] at e2
        simp at e2
        omega
      · refine yes htn ?_
        show (p == g || !cvI (b 43) I p) = true
        rw [bf (e := cvI (b 43) I p) (fun e => by have := hc.mp e; omega)]
        simp
    refine Ev.iconst (pc := 44) (v := 0) dD_measure_44 (by decide) ?_
    refine Ev.istore (pc := 45) (x := bI false) dD_measure_45 (Nat.le_of_ble_eq_true rfl) ?_
    refine Ev.iconst (pc := 47) (v := 0) dD_measure_47 (by decide) ?_
    refine Ev.istore (pc := 48) dD_measure_48 (Nat.le_of_ble_eq_true rfl) ?_
    exact scan 0 (Nat.zero_le _) v0 t false _ _ _ hF0 hT0 ps_0 (fun _ _ => rfl) (fun e => by cases e)
  refine Ct.of (by decide) rfl rfl (Nat.le_of_ble_eq_true rfl) ?_
  refine Ev.iconst (pc := 0) (v := 0) dD_measure_0 (by decide) ?_
  refine Ev.istore (pc := 1) dD_measure_1 (Nat.le_of_ble_eq_true rfl) ?_
  have init : ∀ i, i ≤ 320 → ∀ v' : Nat → Nat → Int32, (∀ p, p ≠ 45 → v' p = v p) → (∀ k, k < i → v' 45 k = nI (if k = g then 0 else 100000)) → Ev G mD_measure 3 [some (.ref (cxa G 30)), some (.ref (cxa G 45)), some (.int (nI j)), some (.int (nI g)), some (.int (nI i)), none, none, none, none, none] [] (wl G v' b) (cx_e G mD_measure (fun y w' => ∃ (v' : Nat → Nat → Int32) (t : Nat → Nat), w' = wl G v' b ∧ y = none ∧ (∀ p, p ≠ 45 → v' p = v p) ∧ tb v' 45 t ∧ (∀ q, t q ≤ 320 ∨ t q = 100000) ∧ dk nxt ok (fun q => q == g || !cvI (b 43) I q) g t)) := by
    refine loopN (fun i hi ih v' hF hk => ?_)
    refine Ev.iload (pc := 3) dD_measure_3 rfl ?_
    refine Ev.sipush (pc := 5) (v := 320) dD_measure_5 (by decide) ?_
    refine Ev.cicmp_ge (nI_toInt (by omega)) ((show (320 : Int32).toInt = 320 from by decide)) (pc := 8) (tgt := 33) dD_measure_8 rfl (fun h1 => ?_) (fun h1 => ?_)
    · have e : i = 320 := by omega
      subst e
      refine Ev.iconst (pc := 33) (v := 1) dD_measure_33 (by decide) ?_
      refine Ev.istore (pc := 34) (x := bI true) dD_measure_34 (Nat.le_of_ble_eq_true rfl) ?_
      refine Ev.iconst (pc := 36) (v := 0) dD_measure_36 (by decide) ?_
      refine Ev.istore (pc := 37) dD_measure_37 (Nat.le_of_ble_eq_true rfl) ?_
      refine outer 0 (Nat.zero_le _) v' (fun p => if p = g then 0 else 100000) true _ _ _ _ hF hk (fun q => ?_) (fun _ => ⟨tk_0, ?_⟩) (fun e => by cases e)
      · show (if q = g then 0 else 100000) ≤ 320 ∨ (if q = g then 0 else 100000) = 100000
        split <;> omega
      · have := (cntB_l2 (f := fun _ => true) (g := fun q => decide ((if q = g then 0 else 100000) = 100000)) 320 (fun _ _ _ => rfl)).2 g hg rfl (by simp)
        have h3 : cntB 320 (fun _ => true) ≤ 320 := cntB_le
        show cntB 320 (fun q => decide ((if q = g then 0 else 100000) = 100000)) + 0 ≤ 319
        omega
    have hlt : i < 320 := by omega
    have ih := ih hlt
    have fin : ∀ x : Int32, x = nI (if i = g then 0 else 100000) → Ev G mD_measure 26 [some (.ref (cxa G 30)), some (.ref (cxa G 45)), some (.int (nI j)), some (.int (nI g)), some (.int (nI i)), none, none, none, none, none] [.int x, .int (nI i), .ref (cxa G 45)] (wl G v' b) (cx_e G mD_measure (fun y w' => ∃ (v' : Nat → Nat → Int32) (t : Nat → Nat), w' = wl G v' b ∧ y = none ∧ (∀ p, p ≠ 45 → v' p = v p) ∧ tb v' 45 t ∧ (∀ q, t q ≤ 320 ∨ t q = 100000) ∧ dk nxt ok (fun q => q == g || !cvI (b 43) I q) g t)) := by
      intro x hx
      refine Ev.asti (pc := 26) dD_measure_26 (by omega) (by first | exact fun _ _ => rfl | exact cell_dz hj | exact cell_dr hj | exact cell_mr hk | exact cell_sr hk) _ (rfl) (by omega) (by decide) ?_
      refine Ev.iinc (pc := 27) dD_measure_27 rfl (cx_inc _) (Nat.le_of_ble_eq_true rfl) ?_
      refine Ev.goto (pc := 30) (tgt := 3) dD_measure_30 rfl ?_
      refine ih _ (fun p hp => by rw [sv_p hp]; exact hF p hp) (fun k hk' => ?_)
      by_cases e : k = i
      · subst e
        rw [sv_eq]
        exact hx
      · rw [sv_k e]
        exact hk k (by omega)
    refine Ev.aload_n (pc := 11) (i := 1) dD_measure_11 rfl rfl ?_
    refine Ev.iload (pc := 12) dD_measure_12 rfl ?_
    refine Ev.iload (pc := 14) dD_measure_14 rfl ?_
    refine Ev.iload_n (pc := 16) (i := 3) dD_measure_16 rfl rfl ?_
    refine Ev.cicmp_ne (nI_toInt (by omega)) (nI_toInt (by omega)) (pc := 17) (tgt := 24) dD_measure_17 rfl (fun h2 => ?_) (fun h2 => ?_)
    · refine Ev.ldc (pc := 24) dD_measure_24 kc_D_124 ?_
      exact fin _ (by rw [if_neg (by omega)]; exact i100000)
    · refine Ev.iconst (pc := 20) (v := 0) dD_measure_20 (by decide) ?_
      refine Ev.goto (pc := 21) (tgt := 26) dD_measure_21 rfl ?_
      exact fin _ (by rw [if_pos (by omega)]; rfl)
  exact init 0 (Nat.zero_le _) v (fun _ _ => rfl) (fun k hk => absurd hk (by omega))
set_option maxHeartbeats 4000000 in
set_option maxRecDepth 100000 in
theorem ct_D_measure_46 {I : Ins} {j g : Nat} {ok : Nat → Bool} (hj : j < 3) (hI : mi v j I) (hg : g < 320) (hr : ∀ q, q < 320 → b 44 q = ok q) : Ct G mD_measure [.ref (cxa G 30), .ref (cxa G 46), .int (nI j), .int (nI g)] (wl G v b) (fun y w' => ∃ (v' : Nat → Nat → Int32) (t : Nat → Nat), w' = wl G v' b ∧ y = none ∧ (∀ p, p ≠ 46 → v' p = v p) ∧ tb v' 46 t ∧ (∀ q, t q ≤ 320 ∨ t q = 100000) ∧ dk nxt ok (fun q => q == g || !cvI (b 43) I q) g t) := by
  have h8 := hI.2.1
  have outer : ∀ n, n ≤ 320 → ∀ (v' : Nat → Nat → Int32) (t : Nat → Nat) (c : Bool) (l6 l7 l8 l9 : Option Value), (∀ p, p ≠ 46 → v' p = v p) → tb v' 46 t → (∀ q, t q ≤ 320 ∨ t q = 100000) → (c = true → tk nxt ok (fun q => q == g || !cvI (b 43) I q) g n t ∧ unk t + n ≤ 319) → (c = false → dk nxt ok (fun q => q == g || !cvI (b 43) I q) g t) → Ev G mD_measure 39 [some (.ref (cxa G 30)), some (.ref (cxa G 46)), some (.int (nI j)), some (.int (nI g)), some (.int (bI c)), some (.int (nI n)), l6, l7, l8, l9] [] (wl G v' b) (cx_e G mD_measure (fun y w' => ∃ (v' : Nat → Nat → Int32) (t : Nat → Nat), w' = wl G v' b ∧ y = none ∧ (∀ p, p ≠ 46 → v' p = v p) ∧ tb v' 46 t ∧ (∀ q, t q ≤ 320 ∨ t q = 100000) ∧ dk nxt ok (fun q => q == g || !cvI (b 43) I q) g t)) := by
    refine loopN (fun n hn ih v0 t c l6 l7 l8 l9 hF0 hT0 hB0 hc1 hc2 => ?_)
    refine Ev.iload (pc := 39) dD_measure_39 rfl ?_
    refine Ev.if_eqB (pc := 41) (tgt := 167) dD_measure_41 rfl (fun h1 => ?_) (fun h1 => ?_)
    · exact Ev.vreturn dD_measure_167 rfl ⟨v0, t, rfl, rfl, hF0, hT0, hB0, hc2 h1⟩
    obtain ⟨htk, hun⟩ := hc1 h1
    have hn2 : n < 320 := by omega
    have ih := ih hn2
    clear hc1 hc2
    have scan : ∀ p, p ≤ 320 → ∀ (v' : Nat → Nat → Int32) (t' : Nat → Nat) (c : Bool) (l7 l8 l9 : Option Value), (∀ p, p ≠ 46 → v' p = v p) → tb v' 46 t' → ps ok (fun q => q == g || !cvI (b 43) I q) n t t' p 0 → (c = false → ∀ q, t' q = t q) → (c = true → ∃ q, q < 320 ∧ t q = 100000 ∧ t' q ≠ 100000) → Ev G mD_measure 50 [some (.ref (cxa G 30)), some (.ref (cxa G 46)), some (.int (nI j)), some (.int (nI g)), some (.int (bI c)), some (.int (nI n)), some (.int (nI p)), l7, l8, l9] [] (wl G v' b) (cx_e G mD_measure (fun y w' => ∃ (v' : Nat → Nat → Int32) (t : Nat → Nat), w' = wl G v' b ∧ y = none ∧ (∀ p, p ≠ 46 → v' p = v p) ∧ tb v' 46 t ∧ (∀ q, t q ≤ 320 ∨ t q = 100000) ∧ dk nxt ok (fun q => q == g || !cvI (b 43) I q) g t)) := by
      refine loopN (fun p hp ihp v' t' c l7 l8 l9 hF hT hps hc1 hc2 => ?_)
      have hbd : ∀ q, t' q ≤ n + 1 ∨ t' q = 100000 := by
        intro q
        by_cases e : t q = 100000
        · rcases hps.2.1 q e with h | ⟨h, -⟩
          · exact Or.inr h
          · exact Or.inl (by omega)
        · rw [hps.1 q e]
          rcases htk.1 q with h | h
          · exact Or.inl (by omega)
          · exact absurd h e
      refine Ev.iload (pc := 50) dD_measure_50 rfl ?_
      refine Ev.sipush (pc := 52) (v := 320) dD_measure_52 (by decide) ?_
      refine Ev.cicmp_ge (nI_toInt (by omega)) ((show (320 : Int32).toInt = 320 from by decide)) (pc := 55) (tgt := 161) dD_measure_55 rfl (fun h2 => ?_) (fun h2 => ?_)
      · have e : p = 320 := by omega
        subst e
        refine Ev.iinc (pc := 161) dD_measure_161 rfl (cx_inc _) (Nat.le_of_ble_eq_true rfl) ?_
        refine Ev.goto (pc := 164) (tgt := 39) dD_measure_164 rfl ?_
        refine ih v' t' c _ _ _ _ hF hT (fun q => by have := hbd q; omega) (fun e => ?_) (fun e => ?_)
        · obtain ⟨q, q1, q2, q3⟩ := hc2 e
          have := hps.fewer q1 q2 q3
          exact ⟨htk.next (by omega) hps.tp, by omega⟩
        · have et : t' = t := funext (hc1 e)
          rw [et] at hps ⊢
          exact htk.done (by omega) hps.tp
      have hp2 : p < 320 := by omega
      have ihp := ihp hp2
      have eqn := hps.eqn (by omega) p
      have hbp := hbd p
      have no : ¬ (t p = n ∧ (fun q => q == g || !cvI (b 43) I q) p = true) → Ev G mD_measure 88 [some (.ref (cxa G 30)), some (.ref (cxa G 46)), some (.int (nI j)), some (.int (nI g)), some (.int (bI c)), some (.int (nI n)), some (.int (nI p)), l7, l8, l9] [] (wl G v' b) (cx_e G mD_measure (fun y w' => ∃ (v' : Nat → Nat → Int32) (t : Nat → Nat), w' = wl G v' b ∧ y = none ∧ (∀ p, p ≠ 46 → v' p = v p) ∧ tb v' 46 t ∧ (∀ q, t q ≤ 320 ∨ t q = 100000) ∧ dk nxt ok (fun q => q == g || !cvI (b 43) I q) g t)) := by
        intro hno
        refine Ev.iconst (pc := 88) (v := 0) dD_measure_88 (by decide) ?_
        refine Ev.istore (pc := 89) (x := bI false) dD_measure_89 (Nat.le_of_ble_eq_true rfl) ?_
        refine Ev.iconst (pc := 91) (v := 0) dD_measure_91 (by decide) ?_
        refine Ev.istore (pc := 92) dD_measure_92 (Nat.le_of_ble_eq_true rfl) ?_
        refine Ev.iload (pc := 94) dD_measure_94 rfl ?_
        refine Ev.iconst (pc := 96) (v := 4) dD_measure_96 (by decide) ?_
        refine Ev.cicmp_ge (rfl) ((show (4 : Int32).toInt = 4 from by decide)) (pc := 97) (tgt := 155) dD_measure_97 rfl (fun h3 => ?_) (fun h3 => ?_)
        · exact absurd h3 (by decide)
        refine Ev.iload (pc := 100) dD_measure_100 rfl ?_
        refine Ev.if_eqB (pc := 102) (tgt := 155) dD_measure_102 rfl (fun h4 => ?_) (fun h4 => ?_)
        · refine Ev.iinc (pc := 155) dD_measure_155 rfl (cx_inc _) (Nat.le_of_ble_eq_true rfl) ?_
          refine Ev.goto (pc := 158) (tgt := 50) dD_measure_158 rfl ?_
          exact ihp v' t' c _ _ _ hF hT (hps.turn (fun _ => hno)) hc1 hc2
        · cases h4
      have yes : t p = n → (fun q => q == g || !cvI (b 43) I q) p = true → Ev G mD_measure 84 [some (.ref (cxa G 30)), some (.ref (cxa G 46)), some (.int (nI j)), some (.int (nI g)), some (.int (bI c)), some (.int (nI n)), some (.int (nI p)), l7, l8, l9] [] (wl G v' b) (cx_e G mD_measure (fun y w' => ∃ (v' : Nat → Nat → Int32) (t : Nat → Nat), w' = wl G v' b ∧ y = none ∧ (∀ p, p ≠ 46 → v' p = v p) ∧ tb v' 46 t ∧ (∀ q, t q ≤ 320 ∨ t q = 100000) ∧ dk nxt ok (fun q => q == g || !cvI (b 43) I q) g t)) := by
        intro y1 y2
        clear no
        refine Ev.iconst (pc := 84) (v := 1) dD_measure_84 (by decide) ?_
        refine Ev.goto (pc := 85) (tgt := 89) dD_measure_85 rfl ?_
        refine Ev.istore (pc := 89) (x := bI true) dD_measure_89 (Nat.le_of_ble_eq_true rfl) ?_
        refine Ev.iconst (pc := 91) (v := 0) dD_measure_91 (by decide) ?_
        refine Ev.istore (pc := 92) dD_measure_92 (Nat.le_of_ble_eq_true rfl) ?_
        have inner : ∀ d, d ≤ 4 → ∀ (v' : Nat → Nat → Int32) (t' : Nat → Nat) (c : Bool) (l9 : Option Value), (∀ p, p ≠ 46 → v' p = v p) → tb v' 46 t' → ps ok (fun q => q == g || !cvI (b 43) I q) n t t' p d → (c = false → ∀ q, t' q = t q) → (c = true → ∃ q, q < 320 ∧ t q = 100000 ∧ t' q ≠ 100000) → Ev G mD_measure 94 [some (.ref (cxa G 30)), some (.ref (cxa G 46)), some (.int (nI j)), some (.int (nI g)), some (.int (bI c)), some (.int (nI n)), some (.int (nI p)), some (.int (bI true)), some (.int (nI d)), l9] [] (wl G v' b) (cx_e G mD_measure (fun y w' => ∃ (v' : Nat → Nat → Int32) (t : Nat → Nat), w' = wl G v' b ∧ y = none ∧ (∀ p, p ≠ 46 → v' p = v p) ∧ tb v' 46 t ∧ (∀ q, t q ≤ 320 ∨ t q = 100000) ∧ dk nxt ok (fun q => q == g || !cvI (b 43) I q) g t)) := by
          refine loopN (fun d hd ihd v' t' c l9 hF hT hps hc1 hc2 => ?_)
          have hbd : ∀ q, t' q ≤ n + 1 ∨ t' q = 100000 := by
            intro q
            by_cases e : t q = 100000
            · rcases hps.2.1 q e with h | ⟨h, -⟩
              · exact Or.inr h
              · exact Or.inl (by omega)
            · rw [hps.1 q e]
              rcases htk.1 q with h | h
              · exact Or.inl (by omega)
              · exact absurd h e
          refine Ev.iload (pc := 94) dD_measure_94 rfl ?_
          refine Ev.iconst (pc := 96) (v := 4) dD_measure_96 (by decide) ?_
          refine Ev.cicmp_ge (nI_toInt (by omega)) ((show (4 : Int32).toInt = 4 from by decide)) (pc := 97) (tgt := 155) dD_measure_97 rfl (fun h3 => ?_) (fun h3 => ?_)
          · refine Ev.iinc (pc := 155) dD_measure_155 rfl (cx_inc _) (Nat.le_of_ble_eq_true rfl) ?_
            refine Ev.goto (pc := 158) (tgt := 50) dD_measure_158 rfl ?_
            exact ihp v' t' c _ _ _ hF hT (hps.turn (fun _ => by omega)) hc1 hc2
          have hd4 : d < 4 := by omega
          have ihd := ihd hd4
          refine Ev.iload (pc := 100) dD_measure_100 rfl ?_
          refine Ev.if_eqB (pc := 102) (tgt := 155) dD_measure_102 rfl (fun h4 => ?_) (fun h4 => ?_)
          · cases h4
          refine Ev.iload (pc := 105) dD_measure_105 rfl ?_
          refine Ev.iload (pc := 107) dD_measure_107 rfl ?_
          refine Ev.callS (pc := 109) dD_measure_109 ks_D_110 ⟨Nat.le_of_ble_eq_true rfl, Nat.le_of_ble_eq_true rfl⟩ (ct_D_next hp2 hd4) rfl rfl (Nat.le_of_ble_eq_true rfl) ?_
          rintro _ _ ⟨rfl, rfl⟩
          have skip : ∀ x : Int32, (∀ q, nxt p d = some q → ok q = true → t' q ≠ 100000) → Ev G mD_measure 149 [some (.ref (cxa G 30)), some (.ref (cxa G 46)), some (.int (nI j)), some (.int (nI g)), some (.int (bI c)), some (.int (nI n)), some (.int (nI p)), some (.int (bI true)), some (.int (nI d)), some (.int x)] [] (wl G v' b) (cx_e G mD_measure (fun y w' => ∃ (v' : Nat → Nat → Int32) (t : Nat → Nat), w' = wl G v' b ∧ y = none ∧ (∀ p, p ≠ 46 → v' p = v p) ∧ tb v' 46 t ∧ (∀ q, t q ≤ 320 ∨ t q = 100000) ∧ dk nxt ok (fun q => q == g || !cvI (b 43) I q) g t)) := by
            intro x hx
            refine Ev.iinc (pc := 149) dD_measure_149 rfl (cx_inc _) (Nat.le_of_ble_eq_true rfl) ?_
            refine Ev.goto (pc := 152) (tgt := 94) dD_measure_152 rfl ?_
            exact ihd v' t' c _ hF hT (hps.skip (fun q e1 _ _ e4 => hx q e1 e4)) hc1 hc2
          cases hnx : nxt p d with
          | none =>
            have e1 : nxI p d = -1 := by unfold nxI; rw [hnx]
            rw [e1]
            refine Ev.istore (pc := 112) dD_measure_112 (Nat.le_of_ble_eq_true rfl) ?_
            refine Ev.iload (pc := 114) dD_measure_114 rfl ?_
            refine Ev.cif_lt (rfl) (pc := 116) (tgt := 149) dD_measure_116 rfl (fun h5 => ?_) (fun h5 => ?_)
            · exact skip _ (fun q e => by rw [hnx] at e; cases e)
            · exact absurd h5 (by decide)
          | some q =>
            have e1 : nxI p d = nI q := by unfold nxI; rw [hnx]
            have hq := (nxt_lt hnx).2.1
            have hbq := hbd q
            rw [e1]
            refine Ev.istore (pc := 112) dD_measure_112 (Nat.le_of_ble_eq_true rfl) ?_
            refine Ev.iload (pc := 114) dD_measure_114 rfl ?_
            refine Ev.cif_lt (nI_toInt (by omega)) (pc := 116) (tgt := 149) dD_measure_116 rfl (fun h5 => ?_) (fun h5 => ?_)
            · omega
            refine Ev.aload_n (pc := 119) (i := 0) dD_measure_119 rfl rfl ?_
            refine Ev.gf (pc := 120) dD_measure_120 fl_D_60 (by omega) (rfl) rfl ?_
            refine Ev.iload (pc := 123) dD_measure_123 rfl ?_
            refine Ev.aldb (pc := 125) dD_measure_125 (by omega) (by first | exact fun _ _ => rfl | exact cell_dz hj | exact cell_dr hj | exact cell_mr hk | exact cell_sr hk) _ (rfl) (by omega) (by decide) ?_
            rw [hr q hq]
            refine Ev.if_eqB (pc := 126) (tgt := 149) dD_measure_126 rfl (fun h6 => ?_) (fun h6 => ?_)
            · exact skip _ (fun q' e e2 => by rw [hnx] at e; cases e; rw [h6] at e2; cases e2)
            refine Ev.aload_n (pc := 129) (i := 1) dD_measure_129 rfl rfl ?_
            refine Ev.iload (pc := 130) dD_measure_130 rfl ?_
            refine Ev.aldi (pc := 132) dD_measure_132 (by omega) (by first | exact fun _ _ => rfl | exact cell_dz hj | exact cell_dr hj | exact cell_mr hk | exact cell_sr hk) _ (rfl) (by omega) (by decide) ?_
            refine Ev.topi (hT q hq) ?_
            refine Ev.ldc (pc := 133) dD_measure_133 kc_D_124 ?_
            refine Ev.cicmp_ne (nI_toInt (by omega)) ((show (100000 : Int32).toInt = 100000 from by decide)) (pc := 135) (tgt := 149) dD_measure_135 rfl (fun h7 => ?_) (fun h7 => ?_)
            · exact skip _ (fun q' e _ => by rw [hnx] at e; cases e; exact fun e' => h7 (by omega))
            have h7 : t' q = 100000 := by omega
            refine Ev.aload_n (pc := 138) (i := 1) dD_measure_138 rfl rfl ?_
            refine Ev.iload (pc := 139) dD_measure_139 rfl ?_
            refine Ev.iload (pc := 141) dD_measure_141 rfl ?_
            refine Ev.iconst (pc := 143) (v := 1) dD_measure_143 (by decide) ?_
            refine Ev.iadd (pc := 144) dD_measure_144 ?_
            refine Ev.topi (nI_succ _).symm ?_
            refine Ev.asti (pc := 145) dD_measure_145 (by omega) (by first | exact fun _ _ => rfl | exact cell_dz hj | exact cell_dr hj | exact cell_mr hk | exact cell_sr hk) _ (rfl) (by omega) (by decide) ?_
            refine Ev.iconst (pc := 146) (v := 1) dD_measure_146 (by decide) ?_
            refine Ev.istore (pc := 147) dD_measure_147 (Nat.le_of_ble_eq_true rfl) ?_
            refine Ev.iinc (pc := 149) dD_measure_149 rfl (cx_inc _) (Nat.le_of_ble_eq_true rfl) ?_
            refine Ev.goto (pc := 152) (tgt := 94) dD_measure_152 rfl ?_
            refine ihd _ (va_up t' q (n + 1)) true _ (fun p hp => by rw [sv_p hp]; exact hF p hp) (fun a ha => ?_) (hps.set (by omega) y1 y2 hnx h6 h7) (fun e => by cases e) (fun _ => ⟨q, hq, ?_, by rw [up_at]; omega⟩)
            · by_cases e : a = q
              · subst e
                rw [sv_eq, up_at]
              · rw [sv_k e, up_ne e]
                exact hT a ha
            · by_cases e : t q = 100000
              · exact e
              · rw [← hps.1 q e]; exact h7
        exact inner 0 (Nat.zero_le _) v' t' c _ hF hT hps hc1 hc2
      refine Ev.aload_n (pc := 58) (i := 1) dD_measure_58 rfl rfl ?_
      refine Ev.iload (pc := 59) dD_measure_59 rfl ?_
      refine Ev.aldi (pc := 61) dD_measure_61 (by omega) (by first | exact fun _ _ => rfl | exact cell_dz hj | exact cell_dr hj | exact cell_mr hk | exact cell_sr hk) _ (rfl) (by omega) (by decide) ?_
      refine Ev.topi (hT p hp2) ?_
      refine Ev.iload (pc := 62) dD_measure_62 rfl ?_
      refine Ev.cicmp_ne (nI_toInt (by omega)) (nI_toInt (by omega)) (pc := 64) (tgt := 88) dD_measure_64 rfl (fun h3 => ?_) (fun h3 => ?_)
      · exact no (fun e => h3 (by omega))
      have htn : t p = n := eqn.mp (by omega)
      refine Ev.iload (pc := 67) dD_measure_67 rfl ?_
      refine Ev.iload_n (pc := 69) (i := 3) dD_measure_69 rfl rfl ?_
      refine Ev.cicmp_eq (nI_toInt (by omega)) (nI_toInt (by omega)) (pc := 70) (tgt := 84) dD_measure_70 rfl (fun h4 => ?_) (fun h4 => ?_)
      · exact yes htn (by simp; exact Or.inl (by omega))
      refine Ev.aload_n (pc := 73) (i := 0) dD_measure_73 rfl rfl ?_
      refine Ev.iload_n (pc := 74) (i := 2) dD_measure_74 rfl rfl ?_
      refine Ev.iload (pc := 75) dD_measure_75 rfl ?_
      refine Ev.iconst (pc := 77) (v := 0) dD_measure_77 (by decide) ?_
      refine Ev.callV (pc := 78) dD_measure_78 kv_D_125 ⟨Nat.le_of_ble_eq_true rfl, Nat.le_of_ble_eq_true rfl⟩ (wl_at (by decide) rfl) rfl rfl (ct_D_stockAt_0 hj (hI.cg (hF 32 (by decide)) (hF 33 (by decide)) (hF 34 (by decide))) hp2) rfl rfl (Nat.le_of_ble_eq_true rfl) ?_
      rintro _ _ ⟨rfl, rfl⟩
      have hle : cntB I.1 (fun i => hasB (b 43) (zP p + I.2.1 i) (rP p + I.2.2 i)) ≤ I.1 := cntB_le
      have hc : cvI (b 43) I p = true ↔ 0 < cntB I.1 (fun i => hasB (b 43) (zP p + I.2.1 i) (rP p + I.2.2 i)) := cntB_any.symm
      refine Ev.cif_ne (nI_toInt (by omega)) (pc := 81) (tgt := 88) dD_measure_81 rfl (fun h5 => ?_) (fun h5 => ?_)
      · refine no (fun e => ?_)
        have e2 : (p == g || !cvI (b 43) I p) = true := e.2
        rw [hc.mpr (by omega)] at e2
        simp at e2
        omega
      · refine yes htn ?_
        show (p == g || !cvI (b 43) I p) = true
        rw [bf (e := cvI (b 43) I p) (fun e => by have := hc.mp e; omega)]
        simp
    refine Ev.iconst (pc := 44) (v := 0) dD_measure_44 (by decide) ?_
    refine Ev.istore (pc := 45) (x := bI false) dD_measure_45 (Nat.le_of_ble_eq_true rfl) ?_
    refine Ev.iconst (pc := 47) (v := 0) dD_measure_47 (by decide) ?_
    refine Ev.istore (pc := 48) dD_measure_48 (Nat.le_of_ble_eq_true rfl) ?_
    exact scan 0 (Nat.zero_le _) v0 t false _ _ _ hF0 hT0 ps_0 (fun _ _ => rfl) (fun e => by cases e)
  refine Ct.of (by decide) rfl rfl (Nat.le_of_ble_eq_true rfl) ?_
  refine Ev.iconst (pc := 0) (v := 0) dD_measure_0 (by decide) ?_
  refine Ev.istore (pc := 1) dD_measure_1 (Nat.le_of_ble_eq_true rfl) ?_
  have init : ∀ i, i ≤ 320 → ∀ v' : Nat → Nat → Int32, (∀ p, p ≠ 46 → v' p = v p) → (∀ k, k < i → v' 46 k = nI (if k = g then 0 else 100000)) → Ev G mD_measure 3 [some (.ref (cxa G 30)), some (.ref (cxa G 46)), some (.int (nI j)), some (.int (nI g)), some (.int (nI i)), none, none, none, none, none] [] (wl G v' b) (cx_e G mD_measure (fun y w' => ∃ (v' : Nat → Nat → Int32) (t : Nat → Nat), w' = wl G v' b ∧ y = none ∧ (∀ p, p ≠ 46 → v' p = v p) ∧ tb v' 46 t ∧ (∀ q, t q ≤ 320 ∨ t q = 100000) ∧ dk nxt ok (fun q => q == g || !cvI (b 43) I q) g t)) := by
    refine loopN (fun i hi ih v' hF hk => ?_)
    refine Ev.iload (pc := 3) dD_measure_3 rfl ?_
    refine Ev.sipush (pc := 5) (v := 320) dD_measure_5 (by decide) ?_
    refine Ev.cicmp_ge (nI_toInt (by omega)) ((show (320 : Int32).toInt = 320 from by decide)) (pc := 8) (tgt := 33) dD_measure_8 rfl (fun h1 => ?_) (fun h1 => ?_)
    · have e : i = 320 := by omega
      subst e
      refine Ev.iconst (pc := 33) (v := 1) dD_measure_33 (by decide) ?_
      refine Ev.istore (pc := 34) (x := bI true) dD_measure_34 (Nat.le_of_ble_eq_true rfl) ?_
      refine Ev.iconst (pc := 36) (v := 0) dD_measure_36 (by decide) ?_
      refine Ev.istore (pc := 37) dD_measure_37 (Nat.le_of_ble_eq_true rfl) ?_
      refine outer 0 (Nat.zero_le _) v' (fun p => if p = g then 0 else 100000) true _ _ _ _ hF hk (fun q => ?_) (fun _ => ⟨tk_0, ?_⟩) (fun e => by cases e)
      · show (if q = g then 0 else 100000) ≤ 320 ∨ (if q = g then 0 else 100000) = 100000
        split <;> omega
      · have := (cntB_l2 (f := fun _ => true) (g := fun q => decide ((if q = g then 0 else 100000) = 100000)) 320 (fun _ _ _ => rfl)).2 g hg rfl (by simp)
        have h3 : cntB 320 (fun _ => true) ≤ 320 := cntB_le
        show cntB 320 (fun q => decide ((if q = g then 0 else 100000) = 100000)) + 0 ≤ 319
        omega
    have hlt : i < 320 := by omega
    have ih := ih hlt
    have fin : ∀ x : Int32, x = nI (if i = g then 0 else 100000) → Ev G mD_measure 26 [some (.ref (cxa G 30)), some (.ref (cxa G 46)), some (.int (nI j)), some (.int (nI g)), some (.int (nI i)), none, none, none, none, none] [.int x, .int (nI i), .ref (cxa G 46)] (wl G v' b) (cx_e G mD_measure (fun y w' => ∃ (v' : Nat → Nat → Int32) (t : Nat → Nat), w' = wl G v' b ∧ y = none ∧ (∀ p, p ≠ 46 → v' p = v p) ∧ tb v' 46 t ∧ (∀ q, t q ≤ 320 ∨ t q = 100000) ∧ dk nxt ok (fun q => q == g || !cvI (b 43) I q) g t)) := by
      intro x hx
      refine Ev.asti (pc := 26) dD_measure_26 (by omega) (by first | exact fun _ _ => rfl | exact cell_dz hj | exact cell_dr hj | exact cell_mr hk | exact cell_sr hk) _ (rfl) (by omega) (by decide) ?_
      refine Ev.iinc (pc := 27) dD_measure_27 rfl (cx_inc _) (Nat.le_of_ble_eq_true rfl) ?_
      refine Ev.goto (pc := 30) (tgt := 3) dD_measure_30 rfl ?_
      refine ih _ (fun p hp => by rw [sv_p hp]; exact hF p hp) (fun k hk' => ?_)
      by_cases e : k = i
      · subst e
        rw [sv_eq]
        exact hx
      · rw [sv_k e]
        exact hk k (by omega)
    refine Ev.aload_n (pc := 11) (i := 1) dD_measure_11 rfl rfl ?_
    refine Ev.iload (pc := 12) dD_measure_12 rfl ?_
    refine Ev.iload (pc := 14) dD_measure_14 rfl ?_
    refine Ev.iload_n (pc := 16) (i := 3) dD_measure_16 rfl rfl ?_
    refine Ev.cicmp_ne (nI_toInt (by omega)) (nI_toInt (by omega)) (pc := 17) (tgt := 24) dD_measure_17 rfl (fun h2 => ?_) (fun h2 => ?_)
    · refine Ev.ldc (pc := 24) dD_measure_24 kc_D_124 ?_
      exact fin _ (by rw [if_neg (by omega)]; exact i100000)
    · refine Ev.iconst (pc := 20) (v := 0) dD_measure_20 (by decide) ?_
      refine Ev.goto (pc := 21) (tgt := 26) dD_measure_21 rfl ?_
      exact fin _ (by rw [if_pos (by omega)]; rfl)
  exact init 0 (Nat.zero_le _) v (fun _ _ => rfl) (fun k hk => absurd hk (by omega))
end Ms
