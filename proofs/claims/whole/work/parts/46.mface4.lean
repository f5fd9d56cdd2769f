/-! The reference's face: undo, steps -/
def undI (v v' : Nat → Nat → Int32) (i : Nat) : Prop := (∀ a, a ≠ 39 → a ≠ 40 → a ≠ 41 → v' a = v a) ∧ (∀ k, i ≤ k → v' 39 k = v 39 k ∧ v' 40 k = v 40 k ∧ v' 41 k = v 41 k) ∧ (∀ k, k < i → v' 39 k = v 36 k ∧ v' 40 k = v 37 k ∧ v' 41 k = v 38 k)
theorem undI.step {v v' : Nat → Nat → Int32} {i : Nat} (h : undI v v' i) : undI v (sv (sv (sv v' 39 i (v' 36 i)) 40 i (v' 37 i)) 41 i (v' 38 i)) (i + 1) := by
  refine ⟨fun a a1 a2 a3 => by rw [sv_p a3, sv_p a2, sv_p a1]; exact h.1 a a1 a2 a3, fun k hk => ?_, fun k hk => ?_⟩
  · obtain ⟨h1, h2, h3⟩ := h.2.1 k (by omega)
    exact ⟨by rw [sv_p (by decide), sv_p (by decide), sv_k (by omega)]; exact h1, by rw [sv_p (by decide), sv_k (by omega), sv_p (by decide)]; exact h2, by rw [sv_k (by omega), sv_p (by decide), sv_p (by decide)]; exact h3⟩
  · by_cases e : k = i
    · subst e
      exact ⟨by rw [sv_p (by decide), sv_p (by decide), sv_eq, h.1 36 (by decide) (by decide) (by decide)], by rw [sv_p (by decide), sv_eq, h.1 37 (by decide) (by decide) (by decide)], by rw [sv_eq, h.1 38 (by decide) (by decide) (by decide)]⟩
    · obtain ⟨h1, h2, h3⟩ := h.2.2 k (by omega)
      exact ⟨by rw [sv_p (by decide), sv_p (by decide), sv_k e]; exact h1, by rw [sv_p (by decide), sv_k e, sv_p (by decide)]; exact h2, by rw [sv_k e, sv_p (by decide), sv_p (by decide)]; exact h3⟩
section Mf4
variable {G : cx_G} {v : Nat → Nat → Int32} {b : Nat → Nat → Bool}
set_option maxHeartbeats 4000000 in
set_option maxRecDepth 100000 in
theorem ct_D_undo {S : Sg} (hg : gd S) (h : mdl v b S) : Ct G mD_undo [.ref (cxa G 30)] (wl G v b) (mdQ G v b (some (.int (aUnd S))) (oUnd S)) := by
  refine Ct.of (by decide) rfl rfl (Nat.le_of_ble_eq_true rfl) ?_
  refine Ev.iconst (pc := 0) (v := 0) dD_undo_0 (by decide) ?_
  refine Ev.istore_n (pc := 1) (i := 1) dD_undo_1 rfl (Nat.le_of_ble_eq_true rfl) ?_
  refine Ev.iconst (pc := 2) (v := 0) dD_undo_2 (by decide) ?_
  refine Ev.istore_n (pc := 3) (i := 2) dD_undo_3 rfl (Nat.le_of_ble_eq_true rfl) ?_
  cases hP : sP S with
  | none =>
    have e0 := h.2.2.2.2.1 hP
    have eo : oUnd S = S := by
      obtain ⟨a1, a2, a3, a4, a5⟩ := S
      have e : a4 = none := hP
      subst e
      rfl
    have ea : aUnd S = 0 := by unfold aUnd; rw [hP]
    refine Ev.iload_n (pc := 4) (i := 2) dD_undo_4 rfl rfl ?_
    refine Ev.aload_n (pc := 5) (i := 0) dD_undo_5 rfl rfl ?_
    refine Ev.gf (pc := 6) dD_undo_6 fl_D_76 (by omega) (rfl) rfl ?_
    refine Ev.topi e0 ?_
    refine Ev.cicmp_ge (rfl) (rfl) (pc := 9) (tgt := 86) dD_undo_9 rfl (fun h1 => ?_) (fun h1 => ?_)
    · rw [eo, ea]
      refine Ev.iload_n (pc := 86) (i := 1) dD_undo_86 rfl rfl ?_
      exact Ev.ireturn .int dD_undo_87 rfl rfl (⟨v, b, rfl, rfl, h, fun _ _ => ⟨rfl, rfl⟩⟩)
    · exact absurd h1 (by decide)
  | some q =>
    obtain ⟨n, p, t, l⟩ := q
    have m := h.2.2.2.2.2.1 n p t l hP
    obtain ⟨g1, g2, g3⟩ := hg.2.2.2.2 n p t l hP
    have eo : oUnd S = (S.1, S.2.1, S.2.2.1, some (n, p, p, l), sX S) := by
      unfold oUnd
      rw [hP]
      rfl
    have ea : aUnd S = nI (cntB n (fun i => !decide (pk3 (t i) = pk3 (p i)))) := by unfold aUnd; rw [hP]
    have loop : ∀ i, i ≤ n → ∀ (v' : Nat → Nat → Int32) (l3 : Option Value), undI v v' i → Ev G mD_undo 4 [some (.ref (cxa G 30)), some (.int (nI (cntB i (fun i => !decide (pk3 (t i) = pk3 (p i)))))), some (.int (nI i)), l3] [] (wl G v' b) (cx_e G mD_undo (mdQ G v b (some (.int (aUnd S))) (oUnd S))) := by
      refine loopN (fun i hi ih v' l3 hv => ?_)
      have e10 : v' 30 10 = nI n := by rw [hv.1 30 (by decide) (by decide) (by decide)]; exact m.1
      refine Ev.iload_n (pc := 4) (i := 2) dD_undo_4 rfl rfl ?_
      refine Ev.aload_n (pc := 5) (i := 0) dD_undo_5 rfl rfl ?_
      refine Ev.gf (pc := 6) dD_undo_6 fl_D_76 (by omega) (rfl) rfl ?_
      refine Ev.topi e10 ?_
      refine Ev.cicmp_ge (nI_toInt (by omega)) (nI_toInt (by omega)) (pc := 9) (tgt := 86) dD_undo_9 rfl (fun h1 => ?_) (fun h1 => ?_)
      · have e : i = n := by omega
        subst e
        rw [eo, ea]
        refine Ev.iload_n (pc := 86) (i := 1) dD_undo_86 rfl rfl ?_
        refine Ev.ireturn .int dD_undo_87 rfl rfl ⟨v', b, rfl, rfl, h.tri hv.1 hP (fun a ha => ?_), fun p hp => ⟨hv.1 p (by omega) (by omega) (by omega), rfl⟩⟩
        obtain ⟨u1, u2, u3⟩ := hv.2.2 a ha
        rw [u1, u2, u3]
        exact m.2.2.1 a ha
      have hlt : i < n := by omega
      have ih := ih hlt _ (some (.int (bI (decide (pk3 (t i) = pk3 (p i)))))) hv.step
      obtain ⟨t1, t2, t3, t4⟩ := (g3 i hlt).lt (by decide)
      obtain ⟨p1, p2, p3, p4⟩ := (g2 i hlt).lt (by decide)
      have t1 : (t i).1 < 4 := t1
      have t2 : (t i).2.1 < 4 := t2
      have t3 : (t i).2.2 ≤ 92160 := t3
      have p1 : (p i).1 < 4 := p1
      have p2 : (p i).2.1 < 4 := p2
      have p3 : (p i).2.2 ≤ 92160 := p3
      obtain ⟨u1, u2, u3⟩ := hv.2.1 i (Nat.le_refl _)
      obtain ⟨a1, a2, a3⟩ := m.2.2.1 i hlt
      obtain ⟨c1, c2, c3⟩ := m.2.2.2 i hlt
      have fin : ∀ q : Bool, decide (pk3 (t i) = pk3 (p i)) = q → Ev G mD_undo 62 [some (.ref (cxa G 30)), some (.int (nI (cntB i (fun i => !decide (pk3 (t i) = pk3 (p i)))))), some (.int (nI i)), l3] [.int (bI q)] (wl G v' b) (cx_e G mD_undo (mdQ G v b (some (.int (aUnd S))) (oUnd S))) := by
        intro q hq
        have ec : cntB (i + 1) (fun i => !decide (pk3 (t i) = pk3 (p i))) = cntB i (fun i => !decide (pk3 (t i) = pk3 (p i))) + (if q = false then 1 else 0) := by rw [← hq, cntB]; simp
        rw [hq, ec] at ih
        refine Ev.istore_n (pc := 62) (i := 3) dD_undo_62 rfl (Nat.le_of_ble_eq_true rfl) ?_
        refine Ev.iload_n (pc := 63) (i := 3) dD_undo_63 rfl rfl ?_
        refine Ev.if_eqB (pc := 64) (tgt := 71) dD_undo_64 rfl (fun h9 => ?_) (fun h9 => ?_)
        · subst h9
          rw [if_pos rfl] at ih
          refine Ev.iload_n (pc := 71) (i := 1) dD_undo_71 rfl rfl ?_
          refine Ev.iconst (pc := 72) (v := 1) dD_undo_72 (by decide) ?_
          refine Ev.iadd (pc := 73) dD_undo_73 ?_
          refine Ev.topi (nI_succ _).symm ?_
          refine Ev.istore_n (pc := 74) (i := 1) dD_undo_74 rfl (Nat.le_of_ble_eq_true rfl) ?_
          refine Ev.aload_n (pc := 75) (i := 0) dD_undo_75 rfl rfl ?_
          refine Ev.iload_n (pc := 76) (i := 2) dD_undo_76 rfl rfl ?_
          refine Ev.callV (pc := 77) dD_undo_77 kv_D_157 ⟨Nat.le_of_ble_eq_true rfl, Nat.le_of_ble_eq_true rfl⟩ (wl_at (by decide) rfl) rfl rfl (ct_D_copyBack (k := i) (by omega)) rfl rfl (Nat.le_of_ble_eq_true rfl) ?_
          rintro _ _ ⟨rfl, rfl⟩
          refine Ev.iinc (pc := 80) dD_undo_80 rfl (cx_inc _) (Nat.le_of_ble_eq_true rfl) ?_
          refine Ev.goto (pc := 83) (tgt := 4) dD_undo_83 rfl ?_
          exact ih
        · subst h9
          rw [if_neg (by decide), Nat.add_zero] at ih
          refine Ev.iload_n (pc := 67) (i := 1) dD_undo_67 rfl rfl ?_
          refine Ev.goto (pc := 68) (tgt := 74) dD_undo_68 rfl ?_
          refine Ev.istore_n (pc := 74) (i := 1) dD_undo_74 rfl (Nat.le_of_ble_eq_true rfl) ?_
          refine Ev.aload_n (pc := 75) (i := 0) dD_undo_75 rfl rfl ?_
          refine Ev.iload_n (pc := 76) (i := 2) dD_undo_76 rfl rfl ?_
          refine Ev.callV (pc := 77) dD_undo_77 kv_D_157 ⟨Nat.le_of_ble_eq_true rfl, Nat.le_of_ble_eq_true rfl⟩ (wl_at (by decide) rfl) rfl rfl (ct_D_copyBack (k := i) (by omega)) rfl rfl (Nat.le_of_ble_eq_true rfl) ?_
          rintro _ _ ⟨rfl, rfl⟩
          refine Ev.iinc (pc := 80) dD_undo_80 rfl (cx_inc _) (Nat.le_of_ble_eq_true rfl) ?_
          refine Ev.goto (pc := 83) (tgt := 4) dD_undo_83 rfl ?_
          exact ih
      refine Ev.aload_n (pc := 12) (i := 0) dD_undo_12 rfl rfl ?_
      refine Ev.gf (pc := 13) dD_undo_13 fl_D_44 (by omega) (rfl) rfl ?_
      refine Ev.iload_n (pc := 16) (i := 2) dD_undo_16 rfl rfl ?_
      refine Ev.aldi (pc := 17) dD_undo_17 (by omega) (by first | exact fun _ _ => rfl | exact cell_dz hj | exact cell_dr hj | exact cell_mr hk | exact cell_sr hk) _ (rfl) (by omega) (by decide) ?_
      refine Ev.topi (u1.trans c1) ?_
      refine Ev.aload_n (pc := 18) (i := 0) dD_undo_18 rfl rfl ?_
      refine Ev.gf (pc := 19) dD_undo_19 fl_D_35 (by omega) (rfl) rfl ?_
      refine Ev.iload_n (pc := 22) (i := 2) dD_undo_22 rfl rfl ?_
      refine Ev.aldi (pc := 23) dD_undo_23 (by omega) (by first | exact fun _ _ => rfl | exact cell_dz hj | exact cell_dr hj | exact cell_mr hk | exact cell_sr hk) _ (rfl) (by omega) (by decide) ?_
      refine Ev.topi (y := nI (p i).1) (by rw [hv.1 36 (by decide) (by decide) (by decide)]; exact a1) ?_
      refine Ev.cicmp_ne (nI_toInt (by omega)) (nI_toInt (by omega)) (pc := 24) (tgt := 61) dD_undo_24 rfl (fun h2 => ?_) (fun h2 => ?_)
      · refine Ev.iconst (pc := 61) (v := 0) dD_undo_61 (by decide) ?_
        exact fin false (decide_eq_false (fun e => h2 (by rw [pk3_inj t1 t2 p1 p2 e])))
      refine Ev.aload_n (pc := 27) (i := 0) dD_undo_27 rfl rfl ?_
      refine Ev.gf (pc := 28) dD_undo_28 fl_D_47 (by omega) (rfl) rfl ?_
      refine Ev.iload_n (pc := 31) (i := 2) dD_undo_31 rfl rfl ?_
      refine Ev.aldi (pc := 32) dD_undo_32 (by omega) (by first | exact fun _ _ => rfl | exact cell_dz hj | exact cell_dr hj | exact cell_mr hk | exact cell_sr hk) _ (rfl) (by omega) (by decide) ?_
      refine Ev.topi (u2.trans c2) ?_
      refine Ev.aload_n (pc := 33) (i := 0) dD_undo_33 rfl rfl ?_
      refine Ev.gf (pc := 34) dD_undo_34 fl_D_38 (by omega) (rfl) rfl ?_
      refine Ev.iload_n (pc := 37) (i := 2) dD_undo_37 rfl rfl ?_
      refine Ev.aldi (pc := 38) dD_undo_38 (by omega) (by first | exact fun _ _ => rfl | exact cell_dz hj | exact cell_dr hj | exact cell_mr hk | exact cell_sr hk) _ (rfl) (by omega) (by decide) ?_
      refine Ev.topi (y := nI (p i).2.1) (by rw [hv.1 37 (by decide) (by decide) (by decide)]; exact a2) ?_
      refine Ev.cicmp_ne (nI_toInt (by omega)) (nI_toInt (by omega)) (pc := 39) (tgt := 61) dD_undo_39 rfl (fun h3 => ?_) (fun h3 => ?_)
      · refine Ev.iconst (pc := 61) (v := 0) dD_undo_61 (by decide) ?_
        exact fin false (decide_eq_false (fun e => h3 (by rw [pk3_inj t1 t2 p1 p2 e])))
      refine Ev.aload_n (pc := 42) (i := 0) dD_undo_42 rfl rfl ?_
      refine Ev.gf (pc := 43) dD_undo_43 fl_D_50 (by omega) (rfl) rfl ?_
      refine Ev.iload_n (pc := 46) (i := 2) dD_undo_46 rfl rfl ?_
      refine Ev.aldi (pc := 47) dD_undo_47 (by omega) (by first | exact fun _ _ => rfl | exact cell_dz hj | exact cell_dr hj | exact cell_mr hk | exact cell_sr hk) _ (rfl) (by omega) (by decide) ?_
      refine Ev.topi (u3.trans c3) ?_
      refine Ev.aload_n (pc := 48) (i := 0) dD_undo_48 rfl rfl ?_
      refine Ev.gf (pc := 49) dD_undo_49 fl_D_41 (by omega) (rfl) rfl ?_
      refine Ev.iload_n (pc := 52) (i := 2) dD_undo_52 rfl rfl ?_
      refine Ev.aldi (pc := 53) dD_undo_53 (by omega) (by first | exact fun _ _ => rfl | exact cell_dz hj | exact cell_dr hj | exact cell_mr hk | exact cell_sr hk) _ (rfl) (by omega) (by decide) ?_
      refine Ev.topi (y := nI (p i).2.2) (by rw [hv.1 38 (by decide) (by decide) (by decide)]; exact a3) ?_
      refine Ev.cicmp_ne (nI_toInt (by omega)) (nI_toInt (by omega)) (pc := 54) (tgt := 61) dD_undo_54 rfl (fun h4 => ?_) (fun h4 => ?_)
      · refine Ev.iconst (pc := 61) (v := 0) dD_undo_61 (by decide) ?_
        exact fin false (decide_eq_false (fun e => h4 (by rw [pk3_inj t1 t2 p1 p2 e])))
      · refine Ev.iconst (pc := 57) (v := 1) dD_undo_57 (by decide) ?_
        refine Ev.goto (pc := 58) (tgt := 62) dD_undo_58 rfl ?_
        exact fin true (decide_eq_true (by unfold pk3; omega))
    exact loop 0 (Nat.zero_le _) v _ ⟨fun _ _ _ _ => rfl, fun _ _ => ⟨rfl, rfl, rfl⟩, fun k hk => absurd hk (by omega)⟩
def stS (k : Int32) (t : Nat → Mv) (i : Nat) : Int32 := if k.toInt = 0 ∨ k.toInt = 1 then nI (sumN i (fun i => if (t i).1 = k.toInt.toNat then (t i).2.2 else 0)) else 0
set_option maxHeartbeats 4000000 in
set_option maxRecDepth 100000 in
theorem ct_D_steps {S : Sg} (hg : gd S) (h : mdl v b S) (k : Int32) : Ct G mD_steps [.ref (cxa G 30), .int k] (wl G v b) (mdQ G v b (some (.int (aSte S k))) S) := by
  refine Ct.of (by decide) rfl rfl (Nat.le_of_ble_eq_true rfl) ?_
  refine Ev.iconst (pc := 0) (v := 0) dD_steps_0 (by decide) ?_
  refine Ev.istore_n (pc := 1) (i := 2) dD_steps_1 rfl (Nat.le_of_ble_eq_true rfl) ?_
  refine Ev.iconst (pc := 2) (v := 0) dD_steps_2 (by decide) ?_
  refine Ev.istore_n (pc := 3) (i := 3) dD_steps_3 rfl (Nat.le_of_ble_eq_true rfl) ?_
  cases hP : sP S with
  | none =>
    have e0 := h.2.2.2.2.1 hP
    have ea : aSte S k = 0 := by unfold aSte; rw [hP]
    refine Ev.iload_n (pc := 4) (i := 3) dD_steps_4 rfl rfl ?_
    refine Ev.aload_n (pc := 5) (i := 0) dD_steps_5 rfl rfl ?_
    refine Ev.gf (pc := 6) dD_steps_6 fl_D_76 (by omega) (rfl) rfl ?_
    refine Ev.topi e0 ?_
    refine Ev.cicmp_ge (rfl) (rfl) (pc := 9) (tgt := 46) dD_steps_9 rfl (fun h1 => ?_) (fun h1 => ?_)
    · rw [ea]
      refine Ev.iload_n (pc := 46) (i := 2) dD_steps_46 rfl rfl ?_
      exact Ev.ireturn .int dD_steps_47 rfl rfl (⟨v, b, rfl, rfl, h, fun _ _ => ⟨rfl, rfl⟩⟩)
    · exact absurd h1 (by decide)
  | some q =>
    obtain ⟨n, p, t, l⟩ := q
    have m := h.2.2.2.2.2.1 n p t l hP
    obtain ⟨g1, g2, g3⟩ := hg.2.2.2.2 n p t l hP
    have ea : aSte S k = stS k t n := by unfold aSte; rw [hP]; rfl
    have loop : ∀ i, i ≤ n → Ev G mD_steps 4 [some (.ref (cxa G 30)), some (.int k), some (.int (stS k t i)), some (.int (nI i))] [] (wl G v b) (cx_e G mD_steps (mdQ G v b (some (.int (aSte S k))) S)) := by
      refine loopN (fun i hi ih => ?_)
      refine Ev.iload_n (pc := 4) (i := 3) dD_steps_4 rfl rfl ?_
      refine Ev.aload_n (pc := 5) (i := 0) dD_steps_5 rfl rfl ?_
      refine Ev.gf (pc := 6) dD_steps_6 fl_D_76 (by omega) (rfl) rfl ?_
      refine Ev.topi m.1 ?_
      refine Ev.cicmp_ge (nI_toInt (by omega)) (nI_toInt (by omega)) (pc := 9) (tgt := 46) dD_steps_9 rfl (fun h1 => ?_) (fun h1 => ?_)
      · have e : i = n := by omega
        subst e
        rw [ea]
        refine Ev.iload_n (pc := 46) (i := 2) dD_steps_46 rfl rfl ?_
        exact Ev.ireturn .int dD_steps_47 rfl rfl (⟨v, b, rfl, rfl, h, fun _ _ => ⟨rfl, rfl⟩⟩)
      have hlt : i < n := by omega
      have ih := ih hlt
      obtain ⟨t1, t2, t3, t4⟩ := (g3 i hlt).lt (by decide)
      have t1 : (t i).1 < 4 := t1
      obtain ⟨c1, c2, c3⟩ := m.2.2.2 i hlt
      have same : ¬ ((k.toInt = 0 ∨ k.toInt = 1) ∧ (t i).1 = k.toInt.toNat) → stS k t (i + 1) = stS k t i := by
        intro hq
        unfold stS
        split
        · rename_i e
          rw [sumN, if_neg (fun e' => hq ⟨e, e'⟩)]
          rfl
        · rfl
      refine Ev.aload_n (pc := 12) (i := 0) dD_steps_12 rfl rfl ?_
      refine Ev.gf (pc := 13) dD_steps_13 fl_D_44 (by omega) (rfl) rfl ?_
      refine Ev.iload_n (pc := 16) (i := 3) dD_steps_16 rfl rfl ?_
      refine Ev.aldi (pc := 17) dD_steps_17 (by omega) (by first | exact fun _ _ => rfl | exact cell_dz hj | exact cell_dr hj | exact cell_mr hk | exact cell_sr hk) _ (rfl) (by omega) (by decide) ?_
      refine Ev.topi c1 ?_
      refine Ev.iload_n (pc := 18) (i := 1) dD_steps_18 rfl rfl ?_
      refine Ev.cicmp_ne (nI_toInt (by omega)) (rfl) (pc := 19) (tgt := 38) dD_steps_19 rfl (fun h2 => ?_) (fun h2 => ?_)
      · rw [same (by omega)] at ih
        refine Ev.iload_n (pc := 38) (i := 2) dD_steps_38 rfl rfl ?_
        refine Ev.istore_n (pc := 39) (i := 2) dD_steps_39 rfl (Nat.le_of_ble_eq_true rfl) ?_
        refine Ev.iinc (pc := 40) dD_steps_40 rfl (cx_inc _) (Nat.le_of_ble_eq_true rfl) ?_
        refine Ev.goto (pc := 43) (tgt := 4) dD_steps_43 rfl ?_
        exact ih
      refine Ev.iload_n (pc := 22) (i := 1) dD_steps_22 rfl rfl ?_
      refine Ev.iconst (pc := 23) (v := 2) dD_steps_23 (by decide) ?_
      refine Ev.cicmp_ge (rfl) ((show (2 : Int32).toInt = 2 from by decide)) (pc := 24) (tgt := 38) dD_steps_24 rfl (fun h3 => ?_) (fun h3 => ?_)
      · rw [same (by omega)] at ih
        refine Ev.iload_n (pc := 38) (i := 2) dD_steps_38 rfl rfl ?_
        refine Ev.istore_n (pc := 39) (i := 2) dD_steps_39 rfl (Nat.le_of_ble_eq_true rfl) ?_
        refine Ev.iinc (pc := 40) dD_steps_40 rfl (cx_inc _) (Nat.le_of_ble_eq_true rfl) ?_
        refine Ev.goto (pc := 43) (tgt := 4) dD_steps_43 rfl ?_
        exact ih
      have e1 : stS k t (i + 1) = stS k t i + nI (t i).2.2 := by
        unfold stS
        rw [if_pos (by omega), if_pos (by omega), sumN, if_pos (by omega), nI_add]
      rw [e1] at ih
      refine Ev.iload_n (pc := 27) (i := 2) dD_steps_27 rfl rfl ?_
      refine Ev.aload_n (pc := 28) (i := 0) dD_steps_28 rfl rfl ?_
      refine Ev.gf (pc := 29) dD_steps_29 fl_D_50 (by omega) (rfl) rfl ?_
      refine Ev.iload_n (pc := 32) (i := 3) dD_steps_32 rfl rfl ?_
      refine Ev.aldi (pc := 33) dD_steps_33 (by omega) (by first | exact fun _ _ => rfl | exact cell_dz hj | exact cell_dr hj | exact cell_mr hk | exact cell_sr hk) _ (rfl) (by omega) (by decide) ?_
      refine Ev.topi c3 ?_
      refine Ev.iadd (pc := 34) dD_steps_34 ?_
      refine Ev.goto (pc := 35) (tgt := 39) dD_steps_35 rfl ?_
      refine Ev.istore_n (pc := 39) (i := 2) dD_steps_39 rfl (Nat.le_of_ble_eq_true rfl) ?_
      refine Ev.iinc (pc := 40) dD_steps_40 rfl (cx_inc _) (Nat.le_of_ble_eq_true rfl) ?_
      refine Ev.goto (pc := 43) (tgt := 4) dD_steps_43 rfl ?_
      exact ih
    have e0 : stS k t 0 = 0 := by unfold stS; split <;> rfl
    have l0 := loop 0 (Nat.zero_le _)
    rw [e0] at l0
    exact l0
end Mf4
