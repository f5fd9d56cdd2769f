/-! The reference: simulate, fault -/
section Mr3
variable {G : cx_G} {v : Nat → Nat → Int32} {b : Nat → Nat → Bool}
set_option maxHeartbeats 4000000 in
set_option maxRecDepth 100000 in
theorem ct_D_simulate {S : Sg} (hg : gd S) (h : mdl v b S) (a : Int32) : Ct G mD_simulate [.ref (cxa G 30), .int a] (wl G v b) (mdQ G v b (some (.int (aSim S a))) (oSim S a)) := by
  have no : aSim S a = -1 → oSim S a = S → Ev G mD_simulate 11 [some (.ref (cxa G 30)), some (.int a), none] [] (wl G v b) (cx_e G mD_simulate (mdQ G v b (some (.int (aSim S a))) (oSim S a))) := by
    intro h1 h2
    rw [h1, h2]
    refine Ev.iconst (pc := 11) (v := (-1)) dD_simulate_11 (by decide) ?_
    exact Ev.ireturn .int dD_simulate_12 rfl rfl (⟨v, b, rfl, rfl, h, fun _ _ => ⟨rfl, rfl⟩⟩)
  have hb := h.2.2.2.1
  refine Ct.of (by decide) rfl rfl (Nat.le_of_ble_eq_true rfl) ?_
  refine Ev.iload_n (pc := 0) (i := 1) dD_simulate_0 rfl rfl ?_
  refine Ev.cif_lt (rfl) (pc := 1) (tgt := 11) dD_simulate_1 rfl (fun h1 => ?_) (fun h1 => ?_)
  · cases hP : sP S with
    | none => exact no (by unfold aSim; rw [hP]) (by unfold oSim; rw [hP])
    | some q => exact no (by unfold aSim; rw [hP]; exact if_pos h1) (by unfold oSim; rw [hP]; exact if_pos h1)
  refine Ev.aload_n (pc := 4) (i := 0) dD_simulate_4 rfl rfl ?_
  refine Ev.gf (pc := 5) dD_simulate_5 fl_D_69 (by omega) (rfl) rfl ?_
  cases hP : sP S with
  | none =>
    rw [hP] at hb
    refine Ev.if_neB (pc := 8) (tgt := 13) dD_simulate_8 rfl (fun h2 => ?_) (fun h2 => ?_)
    · rw [hb] at h2; cases h2
    · exact no (by unfold aSim; rw [hP]) (by unfold oSim; rw [hP])
  | some q =>
    obtain ⟨n, p, t, l⟩ := q
    rw [hP] at hb
    have m := h.2.2.2.2.2.1 n p t l hP
    obtain ⟨g1, g2, g3⟩ := hg.2.2.2.2 n p t l hP
    refine Ev.if_neB (pc := 8) (tgt := 13) dD_simulate_8 rfl (fun h2 => ?_) (fun h2 => ?_)
    rotate_left
    · rw [hb] at h2; cases h2
    have ea : a = nI a.toInt.toNat := nI_nat (by omega)
    have hlt : a.toInt.toNat < 2 ^ 31 := by have := Int32.toInt_lt a; omega
    have eA : aSim S a = (smR S (n, p, t, l) a.toInt.toNat (fillM (sRd S) (sLn S) (sX S) 96)).2.2.2.1 := by unfold aSim; rw [hP]; exact if_neg h1
    have eO : oSim S a = (S.1, S.2.1, S.2.2.1, some (n, p, t, l), (smR S (n, p, t, l) a.toInt.toNat (fillM (sRd S) (sLn S) (sX S) 96)).2.2.2.2) := by
      unfold oSim
      rw [hP]
      show (if a.toInt < 0 then S else (S.1, S.2.1, S.2.2.1, sP S, (smR S (n, p, t, l) a.toInt.toNat (fillM (sRd S) (sLn S) (sX S) 96)).2.2.2.2)) = _
      rw [if_neg h1, hP]
    have q0 := smA_eqX (C := sC S) (sy := sSy S) (ns := sc S) (J := sJs S) (mv := t) (if n < a.toInt.toNat then n else a.toInt.toNat) 0 (x := (0, 15, 0, fillM (v 30 0) (v 30 1) (b 43) 96)) (y := (0, 15, 0, fillM (sRd S) (sLn S) (sX S) 96)) rfl ⟨rfl, rfl, by rw [h.1.1, h.1.2.1]; exact fill_eqX.tr fill_eqX.sy⟩
    rw [eA, eO]
    refine Ev.aload_n (pc := 13) (i := 0) dD_simulate_13 rfl rfl ?_
    refine Ev.iload_n (pc := 14) (i := 1) dD_simulate_14 rfl rfl ?_
    refine Ev.topi ea ?_
    refine Ev.callV (pc := 15) dD_simulate_15 kv_D_178 ⟨Nat.le_of_ble_eq_true rfl, Nat.le_of_ble_eq_true rfl⟩ (wl_at (by decide) rfl) rfl rfl (ct_D_through (C := sC S) (sy := sSy S) (Is := sK S) (J := sJ S) (c := sc S) (B := 92160) (n := n) (t := t) h.2.1 h.1.2.2 hg.2.2.2.1.1 h.2.2.1.1 h.2.2.1.2 hg.2.2.2.1.2 g1 m.1 m.2.2.2 g3 (by decide) hlt) rfl rfl (Nat.le_of_ble_eq_true rfl) ?_
    rintro _ _ ⟨v1, b1, rfl, rfl, hF, f1, f2⟩
    refine Ev.pop (pc := 18) dD_simulate_18 rfl ?_
    refine Ev.aload_n (pc := 19) (i := 0) dD_simulate_19 rfl rfl ?_
    refine Ev.iconst (pc := 20) (v := 1) dD_simulate_20 (by decide) ?_
    refine Ev.putb (pc := 21) (x := true) dD_simulate_21 fl_D_73 fp_D_simulated (by omega) (rfl) rfl (Nat.le_of_ble_eq_true rfl) ?_
    refine Ev.iconst (pc := 24) (v := 0) dD_simulate_24 (by decide) ?_
    refine Ev.istore_n (pc := 25) (i := 2) dD_simulate_25 rfl (Nat.le_of_ble_eq_true rfl) ?_
    have hm1 := h.fr hF
    have hx0 : v1 30 27 = (smR S (n, p, t, l) a.toInt.toNat (fillM (sRd S) (sLn S) (sX S) 96)).2.2.2.1 := f1.trans q0.2.2.1
    have hx1 : eqX (b1 43) (smR S (n, p, t, l) a.toInt.toNat (fillM (sRd S) (sLn S) (sX S) 96)).2.2.2.2 := by rw [f2]; exact q0.2.2.2
    have loop : ∀ i, i ≤ 96 → ∀ b' : Nat → Nat → Bool, (∀ p, p ≠ 42 → b' p = sb b1 30 18 true p) → (∀ k, k < i → b' 42 k = b1 43 k) → Ev G mD_simulate 26 [some (.ref (cxa G 30)), some (.int a), some (.int (nI i))] [] (wl G v1 b') (cx_e G mD_simulate (mdQ G v b (some (.int (smR S (n, p, t, l) a.toInt.toNat (fillM (sRd S) (sLn S) (sX S) 96)).2.2.2.1)) (S.1, S.2.1, S.2.2.1, some (n, p, t, l), (smR S (n, p, t, l) a.toInt.toNat (fillM (sRd S) (sLn S) (sX S) 96)).2.2.2.2))) := by
      refine loopN (fun i hi ih b' hb1 hb2 => ?_)
      have e43 : b' 43 = b1 43 := by rw [hb1 43 (by decide), sb_p (by decide)]
      refine Ev.iload_n (pc := 26) (i := 2) dD_simulate_26 rfl rfl ?_
      refine Ev.bipush (pc := 27) (v := 96) dD_simulate_27 (by decide) ?_
      refine Ev.cicmp_ge (nI_toInt (by omega)) ((show (96 : Int32).toInt = 96 from by decide)) (pc := 29) (tgt := 50) dD_simulate_29 rfl (fun h3 => ?_) (fun h3 => ?_)
      · have e : i = 96 := by omega
        subst e
        refine Ev.aload_n (pc := 50) (i := 0) dD_simulate_50 rfl rfl ?_
        refine Ev.gf (pc := 51) dD_simulate_51 fl_D_166 (by omega) (rfl) rfl ?_
        refine Ev.ireturn .int dD_simulate_54 rfl rfl ⟨v1, b', rfl, by rw [hx0], ⟨hm1.1, hm1.2.1, hm1.2.2.1, ?_, fun e => (by cases e), fun n' p' t' l' e => ?_, fun _ => fun c hc => (hb2 c hc).trans (hx1 c hc), fun e => ?_⟩, fun p hp => ⟨hF.1 p (by omega), by rw [hb1 p (by omega), sb_p (by omega)]; exact hF.2.2 p (by omega)⟩⟩
        · rw [hb1 30 (by decide), sb_k (by decide), hF.2.2 30 (by decide)]
          exact hb
        · cases e
          exact hm1.2.2.2.2.2.1 n p t l hP
        · rw [hb1 30 (by decide), sb_eq] at e
          cases e
      · refine Ev.aload_n (pc := 32) (i := 0) dD_simulate_32 rfl rfl ?_
        refine Ev.gf (pc := 33) dD_simulate_33 fl_D_53 (by omega) (rfl) rfl ?_
        refine Ev.iload_n (pc := 36) (i := 2) dD_simulate_36 rfl rfl ?_
        refine Ev.aload_n (pc := 37) (i := 0) dD_simulate_37 rfl rfl ?_
        refine Ev.gf (pc := 38) dD_simulate_38 fl_D_57 (by omega) (rfl) rfl ?_
        refine Ev.iload_n (pc := 41) (i := 2) dD_simulate_41 rfl rfl ?_
        refine Ev.aldb (pc := 42) dD_simulate_42 (by omega) (by first | exact fun _ _ => rfl | exact cell_dz hj | exact cell_dr hj | exact cell_mr hk | exact cell_sr hk) _ (rfl) (by omega) (by decide) ?_
        refine Ev.astb (pc := 43) dD_simulate_43 (by omega) (by first | exact fun _ _ => rfl | exact cell_dz hj | exact cell_dr hj | exact cell_mr hk | exact cell_sr hk) _ (rfl) (by omega) (by decide) ?_
        refine Ev.iinc (pc := 44) dD_simulate_44 rfl (cx_inc _) (Nat.le_of_ble_eq_true rfl) ?_
        refine Ev.goto (pc := 47) (tgt := 26) dD_simulate_47 rfl ?_
        refine ih (by omega) _ (fun p hp => by rw [sb_p hp]; exact hb1 p hp) (fun k hk => ?_)
        by_cases e : k = i
        · rw [e, sb_eq, e43]
        · rw [sb_k e]
          exact hb2 k (by omega)
    exact loop 0 (Nat.zero_le _) _ (fun _ _ => rfl) (fun k hk => absurd hk (by omega))
set_option maxHeartbeats 4000000 in
set_option maxRecDepth 100000 in
theorem ct_D_fault {S : Sg} (hg : gd S) (h : mdl v b S) : Ct G mD_fault [.ref (cxa G 30)] (wl G v b) (mdQ G v b (some (.int (aFau S))) S) := by
  have hb := h.2.2.2.1
  refine Ct.of (by decide) rfl rfl (Nat.le_of_ble_eq_true rfl) ?_
  refine Ev.aload_n (pc := 0) (i := 0) dD_fault_0 rfl rfl ?_
  refine Ev.gf (pc := 1) dD_fault_1 fl_D_69 (by omega) (rfl) rfl ?_
  cases hP : sP S with
  | none =>
    rw [hP] at hb
    refine Ev.if_eqB (pc := 4) (tgt := 17) dD_fault_4 rfl (fun h2 => ?_) (fun h2 => ?_)
    · refine Ev.iconst (pc := 17) (v := (-1)) dD_fault_17 (by decide) ?_
      exact Ev.ireturn .int dD_fault_18 rfl rfl (⟨v, b, rfl, by unfold aFau; rw [hP], h, fun _ _ => ⟨rfl, rfl⟩⟩)
    · rw [hb] at h2; cases h2
  | some q =>
    obtain ⟨n, p, t, l⟩ := q
    rw [hP] at hb
    have m := h.2.2.2.2.2.1 n p t l hP
    obtain ⟨g1, g2, g3⟩ := hg.2.2.2.2 n p t l hP
    refine Ev.if_eqB (pc := 4) (tgt := 17) dD_fault_4 rfl (fun h2 => ?_) (fun h2 => ?_)
    · rw [hb] at h2; cases h2
    have eA : aFau S = ftI (smR S (n, p, t, l) n (fillB (sRd S) (sLn S))).1 := by unfold aFau; rw [hP]
    have q0 := smA_eqX (C := sC S) (sy := sSy S) (ns := sc S) (J := sJs S) (mv := t) (if n < 2000 then n else 2000) 0 (x := (0, 15, 0, fillM (v 30 0) (v 30 1) (b 43) 96)) (y := (0, 15, 0, fillB (sRd S) (sLn S))) rfl ⟨rfl, rfl, by rw [h.1.1, h.1.2.1]; exact fill_eqX⟩
    have en : (if n < 2000 then n else 2000) = (if n < n then n else n) := by split <;> split <;> omega
    refine Ev.aload_n (pc := 7) (i := 0) dD_fault_7 rfl rfl ?_
    refine Ev.sipush (pc := 8) (v := 2000) dD_fault_8 (by decide) ?_
    refine Ev.callV (pc := 11) dD_fault_11 kv_D_178 ⟨Nat.le_of_ble_eq_true rfl, Nat.le_of_ble_eq_true rfl⟩ (wl_at (by decide) rfl) rfl rfl (ct_D_through (C := sC S) (sy := sSy S) (Is := sK S) (J := sJ S) (c := sc S) (B := 92160) (n := n) (nn := 2000) (t := t) h.2.1 h.1.2.2 hg.2.2.2.1.1 h.2.2.1.1 h.2.2.1.2 hg.2.2.2.1.2 g1 m.1 m.2.2.2 g3 (by decide) (by decide)) rfl rfl (Nat.le_of_ble_eq_true rfl) ?_
    rintro _ _ ⟨v1, b1, rfl, rfl, hF, f1, f2⟩
    refine Ev.goto (pc := 14) (tgt := 18) dD_fault_14 rfl ?_
    refine Ev.ireturn .int dD_fault_18 rfl rfl ⟨v1, b1, rfl, ?_, h.fr hF, fun p hp => ⟨hF.1 p (by omega), hF.2.2 p (by omega)⟩⟩
    rw [eA]
    refine congrArg (fun e => some (Value.int (ftI e))) (q0.1.trans ?_)
    rw [en]
    rfl
end Mr3
