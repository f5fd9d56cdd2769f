/-! The reference's face: move, edit, undo, stock, left, steps -/
theorem mpl.cg {v v' : Nat → Nat → Int32} {n : Nat} {p t : Nat → Mv} {l : Nat} (h : mpl v n p t l) (hv : ∀ a, (a = 30 ∨ (36 ≤ a ∧ a ≤ 41)) → v' a = v a) : mpl v' n p t l :=
  ⟨by rw [hv 30 (by omega)]; exact h.1, by rw [hv 30 (by omega)]; exact h.2.1, fun i hi => by rw [hv 36 (by omega), hv 37 (by omega), hv 38 (by omega)]; exact h.2.2.1 i hi, fun i hi => by rw [hv 39 (by omega), hv 40 (by omega), hv 41 (by omega)]; exact h.2.2.2 i hi⟩
theorem mdl.mv {v : Nat → Nat → Int32} {b : Nat → Nat → Bool} {S : Sg} (hg : gd S) (h : mdl v b S) : ∃ n, n ≤ 2000 ∧ v 30 10 = nI n ∧ (sP S = none → n = 0) ∧ ∀ q, sP S = some q → n = q.1 := by
  cases hP : sP S with
  | none => exact ⟨0, by decide, h.2.2.2.2.1 hP, fun _ => rfl, fun q e => by cases e⟩
  | some q =>
    obtain ⟨n, p, t, l⟩ := q
    exact ⟨n, (hg.2.2.2.2 n p t l hP).1, (h.2.2.2.2.2.1 n p t l hP).1, fun e => (by cases e), fun q e => (by cases e; rfl)⟩
/-- the trial's cells are written anew, all else stays -/
theorem mdl.tri {v v' : Nat → Nat → Int32} {b : Nat → Nat → Bool} {S : Sg} (h : mdl v b S) (hv : ∀ a, a ≠ 39 → a ≠ 40 → a ≠ 41 → v' a = v a) {n : Nat} {p t t' : Nat → Mv} {l : Nat} (hP : sP S = some (n, p, t, l)) (ht : ∀ i, i < n → v' 39 i = nI (t' i).1 ∧ v' 40 i = nI (t' i).2.1 ∧ v' 41 i = nI (t' i).2.2) : mdl v' b (S.1, S.2.1, S.2.2.1, some (n, p, t', l), sX S) := by
  have m := h.2.2.2.2.2.1 n p t l hP
  refine ⟨⟨by rw [hv 30 (by decide) (by decide) (by decide)]; exact h.1.1, by rw [hv 30 (by decide) (by decide) (by decide)]; exact h.1.2.1, by rw [hv 30 (by decide) (by decide) (by decide)]; exact h.1.2.2.1, fun a ha => by rw [hv 31 (by decide) (by decide) (by decide)]; exact h.1.2.2.2 a ha⟩, fun j hj => (h.2.1 j hj).cg (hv 32 (by decide) (by decide) (by decide)) (hv 33 (by decide) (by decide) (by decide)) (hv 34 (by decide) (by decide) (by decide)), ⟨by rw [hv 30 (by decide) (by decide) (by decide)]; exact h.2.2.1.1, fun k hk => by rw [hv 35 (by decide) (by decide) (by decide)]; exact h.2.2.1.2 k hk⟩, by rw [h.2.2.2.1, hP]; rfl, fun e => (by cases e), fun n' p' t2 l' e => ?_, h.2.2.2.2.2.2⟩
  cases e
  exact ⟨by rw [hv 30 (by decide) (by decide) (by decide)]; exact m.1, by rw [hv 30 (by decide) (by decide) (by decide)]; exact m.2.1, fun i hi => by rw [hv 36 (by decide) (by decide) (by decide), hv 37 (by decide) (by decide) (by decide), hv 38 (by decide) (by decide) (by decide)]; exact m.2.2.1 i hi, ht⟩
section Mf3
variable {G : cx_G} {v : Nat → Nat → Int32} {b : Nat → Nat → Bool}
set_option maxHeartbeats 4000000 in
set_option maxRecDepth 100000 in
theorem ct_D_move {S : Sg} (hg : gd S) (h : mdl v b S) (i w : Int32) : Ct G mD_move [.ref (cxa G 30), .int i, .int w] (wl G v b) (mdQ G v b (some (.int (aMov S i w))) S) := by
  obtain ⟨n, hn, hm, hnone, hsome⟩ := h.mv hg
  have hnI : (v 30 10).toInt = (n : Int) := by rw [hm]; exact nI_toInt (by omega)
  have hM : isM S i = decide (0 ≤ i.toInt ∧ i.toInt < n) := by
    unfold isM
    split
    · rename_i e
      rw [decide_eq_false]
      rw [hnone e]
      omega
    · rename_i q e
      rw [hsome q e]
  have no : aMov S i w = -1 → Ev G mD_move 21 [some (.ref (cxa G 30)), some (.int i), some (.int w)] [] (wl G v b) (cx_e G mD_move (mdQ G v b (some (.int (aMov S i w))) S)) := by
    intro hq
    rw [hq]
    refine Ev.iconst (pc := 21) (v := (-1)) dD_move_21 (by decide) ?_
    exact Ev.ireturn .int dD_move_22 rfl rfl (⟨v, b, rfl, rfl, h, fun _ _ => ⟨rfl, rfl⟩⟩)
  have nomove : ¬ (0 ≤ i.toInt ∧ i.toInt < n) → aMov S i w = -1 := fun q => by unfold aMov; rw [hM, decide_eq_false q]; rfl
  have nowhat : ¬ (0 ≤ w.toInt ∧ w.toInt ≤ 2) → aMov S i w = -1 := fun q => by
    unfold aMov
    split
    · rw [if_neg (by omega), if_neg (by omega), if_neg (by omega)]
    · rfl
  refine Ct.of (by decide) rfl rfl (Nat.le_of_ble_eq_true rfl) ?_
  refine Ev.iload_n (pc := 0) (i := 1) dD_move_0 rfl rfl ?_
  refine Ev.cif_lt (rfl) (pc := 1) (tgt := 21) dD_move_1 rfl (fun h1 => ?_) (fun h1 => ?_)
  · exact no (nomove (by omega))
  refine Ev.iload_n (pc := 4) (i := 1) dD_move_4 rfl rfl ?_
  refine Ev.aload_n (pc := 5) (i := 0) dD_move_5 rfl rfl ?_
  refine Ev.gf (pc := 6) dD_move_6 fl_D_76 (by omega) (rfl) rfl ?_
  refine Ev.cicmp_ge (rfl) (hnI) (pc := 9) (tgt := 21) dD_move_9 rfl (fun h2 => ?_) (fun h2 => ?_)
  · exact no (nomove (by omega))
  refine Ev.iload_n (pc := 12) (i := 2) dD_move_12 rfl rfl ?_
  refine Ev.cif_lt (rfl) (pc := 13) (tgt := 21) dD_move_13 rfl (fun h3 => ?_) (fun h3 => ?_)
  · exact no (nowhat (by omega))
  refine Ev.iload_n (pc := 16) (i := 2) dD_move_16 rfl rfl ?_
  refine Ev.iconst (pc := 17) (v := 2) dD_move_17 (by decide) ?_
  refine Ev.cicmp_le (rfl) ((show (2 : Int32).toInt = 2 from by decide)) (pc := 18) (tgt := 23) dD_move_18 rfl (fun h4 => ?_) (fun h4 => ?_)
  · clear no
    have hT : isM S i = true := by rw [hM]; exact decide_eq_true (by omega)
    obtain ⟨n', p, t, l, hP, -, -⟩ := isM_some hT
    have en := hsome _ hP
    have en : n = n' := en
    subst en
    have m := h.2.2.2.2.2.1 n p t l hP
    have hin : i.toInt.toNat < n := by omega
    have etr : trM S i.toInt.toNat = t i.toInt.toNat := by unfold trM; rw [hP]
    obtain ⟨t1, t2, t3⟩ := m.2.2.2 _ hin
    rw [aMov, if_t hT, etr]
    refine Ev.iload_n (pc := 23) (i := 2) dD_move_23 rfl rfl ?_
    refine Ev.cif_ne (rfl) (pc := 24) (tgt := 36) dD_move_24 rfl (fun h5 => ?_) (fun h5 => ?_)
    · rw [if_neg h5]
      refine Ev.iload_n (pc := 36) (i := 2) dD_move_36 rfl rfl ?_
      refine Ev.iconst (pc := 37) (v := 1) dD_move_37 (by decide) ?_
      refine Ev.cicmp_ne (rfl) ((show (1 : Int32).toInt = 1 from by decide)) (pc := 38) (tgt := 50) dD_move_38 rfl (fun h6 => ?_) (fun h6 => ?_)
      · rw [if_neg h6, if_pos (by omega)]
        refine Ev.aload_n (pc := 50) (i := 0) dD_move_50 rfl rfl ?_
        refine Ev.gf (pc := 51) dD_move_51 fl_D_50 (by omega) (rfl) rfl ?_
        refine Ev.iload_n (pc := 54) (i := 1) dD_move_54 rfl rfl ?_
        refine Ev.aldx (pc := 55) dD_move_55 (by omega) (by first | exact fun _ _ => rfl | exact cell_dz hj | exact cell_dr hj | exact cell_mr hk | exact cell_sr hk) (by omega) (by omega) (by decide) ?_
        exact Ev.ireturn .int dD_move_56 rfl rfl ⟨v, b, rfl, by rw [t3], h, fun _ _ => ⟨rfl, rfl⟩⟩
      · rw [if_pos h6]
        refine Ev.aload_n (pc := 41) (i := 0) dD_move_41 rfl rfl ?_
        refine Ev.gf (pc := 42) dD_move_42 fl_D_47 (by omega) (rfl) rfl ?_
        refine Ev.iload_n (pc := 45) (i := 1) dD_move_45 rfl rfl ?_
        refine Ev.aldx (pc := 46) dD_move_46 (by omega) (by first | exact fun _ _ => rfl | exact cell_dz hj | exact cell_dr hj | exact cell_mr hk | exact cell_sr hk) (by omega) (by omega) (by decide) ?_
        refine Ev.goto (pc := 47) (tgt := 56) dD_move_47 rfl ?_
        exact Ev.ireturn .int dD_move_56 rfl rfl ⟨v, b, rfl, by rw [t2], h, fun _ _ => ⟨rfl, rfl⟩⟩
    · rw [if_pos h5]
      refine Ev.aload_n (pc := 27) (i := 0) dD_move_27 rfl rfl ?_
      refine Ev.gf (pc := 28) dD_move_28 fl_D_44 (by omega) (rfl) rfl ?_
      refine Ev.iload_n (pc := 31) (i := 1) dD_move_31 rfl rfl ?_
      refine Ev.aldx (pc := 32) dD_move_32 (by omega) (by first | exact fun _ _ => rfl | exact cell_dz hj | exact cell_dr hj | exact cell_mr hk | exact cell_sr hk) (by omega) (by omega) (by decide) ?_
      refine Ev.goto (pc := 33) (tgt := 56) dD_move_33 rfl ?_
      exact Ev.ireturn .int dD_move_56 rfl rfl ⟨v, b, rfl, by rw [t1], h, fun _ _ => ⟨rfl, rfl⟩⟩
  · exact no (nowhat (by omega))
set_option maxHeartbeats 4000000 in
set_option maxRecDepth 100000 in
theorem ct_D_edit {S : Sg} (hg : gd S) (h : mdl v b S) (i k d s : Int32) : Ct G mD_edit [.ref (cxa G 30), .int i, .int k, .int d, .int s] (wl G v b) (mdQ G v b (some (.int (bI (ediQ S i k d s)))) (oEdi S i k d s)) := by
  obtain ⟨n, hn, hm, hnone, hsome⟩ := h.mv hg
  have hnI : (v 30 10).toInt = (n : Int) := by rw [hm]; exact nI_toInt (by omega)
  have hM : isM S i = decide (0 ≤ i.toInt ∧ i.toInt < n) := by
    unfold isM
    split
    · rename_i e
      rw [decide_eq_false]
      rw [hnone e]
      omega
    · rename_i q e
      rw [hsome q e]
  have hQ : ediQ S i k d s = true ↔ (0 ≤ i.toInt ∧ i.toInt < n) ∧ (k.toInt = 2 ∨ ((k.toInt = 0 ∨ k.toInt = 1) ∧ 0 ≤ d.toInt ∧ d.toInt < 4 ∧ 1 ≤ s.toInt ∧ s.toInt ≤ 40)) := by rw [ediQ_iff, hM, decide_eq_true_eq]
  have no : ediQ S i k d s = false → Ev G mD_edit 65 [some (.ref (cxa G 30)), some (.int i), some (.int k), some (.int d), some (.int s), some (.int (bI true))] [.int (bI false)] (wl G v b) (cx_e G mD_edit (mdQ G v b (some (.int (bI (ediQ S i k d s)))) (oEdi S i k d s))) ∧ Ev G mD_edit 65 [some (.ref (cxa G 30)), some (.int i), some (.int k), some (.int d), some (.int s), some (.int (bI false))] [.int (bI false)] (wl G v b) (cx_e G mD_edit (mdQ G v b (some (.int (bI (ediQ S i k d s)))) (oEdi S i k d s))) := by
    intro hq
    refine ⟨?_, ?_⟩
    · refine Ev.istore (pc := 65) dD_edit_65 (Nat.le_of_ble_eq_true rfl) ?_
      refine Ev.iload (pc := 67) dD_edit_67 rfl ?_
      refine Ev.if_eqB (pc := 69) (tgt := 112) dD_edit_69 rfl (fun h9 => ?_) (fun h9 => ?_)
      · refine Ev.iload (pc := 112) dD_edit_112 rfl ?_
        exact Ev.zreturn dD_edit_114 rfl ⟨v, b, rfl, by rw [hq], by rw [oEdi, if_f hq]; exact h, fun _ _ => ⟨rfl, rfl⟩⟩
      · cases h9
    · refine Ev.istore (pc := 65) dD_edit_65 (Nat.le_of_ble_eq_true rfl) ?_
      refine Ev.iload (pc := 67) dD_edit_67 rfl ?_
      refine Ev.if_eqB (pc := 69) (tgt := 112) dD_edit_69 rfl (fun h9 => ?_) (fun h9 => ?_)
      · refine Ev.iload (pc := 112) dD_edit_112 rfl ?_
        exact Ev.zreturn dD_edit_114 rfl ⟨v, b, rfl, by rw [hq], by rw [oEdi, if_f hq]; exact h, fun _ _ => ⟨rfl, rfl⟩⟩
      · cases h9
  have nogood : ediQ S i k d s = false → Ev G mD_edit 25 [some (.ref (cxa G 30)), some (.int i), some (.int k), some (.int d), some (.int s), none] [] (wl G v b) (cx_e G mD_edit (mdQ G v b (some (.int (bI (ediQ S i k d s)))) (oEdi S i k d s))) := by
    intro hq
    refine Ev.iconst (pc := 25) (v := 0) dD_edit_25 (by decide) ?_
    refine Ev.istore (pc := 26) (x := bI false) dD_edit_26 (Nat.le_of_ble_eq_true rfl) ?_
    refine Ev.iload (pc := 28) dD_edit_28 rfl ?_
    refine Ev.if_eqB (pc := 30) (tgt := 64) dD_edit_30 rfl (fun h9 => ?_) (fun h9 => ?_)
    · refine Ev.iconst (pc := 64) (v := 0) dD_edit_64 (by decide) ?_
      exact (no hq).2
    · cases h9
  have yes : ediQ S i k d s = true → Ev G mD_edit 60 [some (.ref (cxa G 30)), some (.int i), some (.int k), some (.int d), some (.int s), some (.int (bI true))] [] (wl G v b) (cx_e G mD_edit (mdQ G v b (some (.int (bI (ediQ S i k d s)))) (oEdi S i k d s))) := by
    intro hq
    have hq' := hQ.mp hq
    have hT : isM S i = true := by rw [hM]; exact decide_eq_true hq'.1
    obtain ⟨n', p, t, l, hP, -, -⟩ := isM_some hT
    have en := hsome _ hP
    have en : n = n' := en
    subst en
    have m := h.2.2.2.2.2.1 n p t l hP
    have eo : oEdi S i k d s = (S.1, S.2.1, S.2.2.1, some (n, p, va_up t i.toInt.toNat (ediM k d s), l), sX S) := by
      rw [oEdi, if_t hq, hP]
      rfl
    have end_ : ∀ x y : Int32, x = nI (ediM k d s).2.1 → y = nI (ediM k d s).2.2 → k = nI (ediM k d s).1 → mdl (sv (sv (sv v 39 i.toInt.toNat k) 40 i.toInt.toNat x) 41 i.toInt.toNat y) b (oEdi S i k d s) := by
      intro x y hx hy hk
      rw [eo]
      refine h.tri (fun a a1 a2 a3 => by rw [sv_p a3, sv_p a2, sv_p a1]) hP (fun a ha => ?_)
      rw [sv_p (p := 41) (by decide), sv_p (p := 40) (by decide), sv_p (p := 41) (by decide)]
      by_cases e : a = i.toInt.toNat
      · rw [e, sv_eq, sv_eq, sv_eq, up_at]
        exact ⟨hk, hx, hy⟩
      · rw [sv_k e, sv_k e, sv_k e, up_ne e, sv_p (by decide), sv_p (by decide), sv_p (by decide)]
        exact m.2.2.2 a ha
    refine Ev.iconst (pc := 60) (v := 1) dD_edit_60 (by decide) ?_
    refine Ev.goto (pc := 61) (tgt := 65) dD_edit_61 rfl ?_
    refine Ev.istore (pc := 65) (x := bI true) dD_edit_65 (Nat.le_of_ble_eq_true rfl) ?_
    refine Ev.iload (pc := 67) dD_edit_67 rfl ?_
    refine Ev.if_eqB (pc := 69) (tgt := 112) dD_edit_69 rfl (fun h9 => ?_) (fun h9 => ?_)
    · cases h9
    refine Ev.aload_n (pc := 72) (i := 0) dD_edit_72 rfl rfl ?_
    refine Ev.gf (pc := 73) dD_edit_73 fl_D_44 (by omega) (rfl) rfl ?_
    refine Ev.iload_n (pc := 76) (i := 1) dD_edit_76 rfl rfl ?_
    refine Ev.iload_n (pc := 77) (i := 2) dD_edit_77 rfl rfl ?_
    refine Ev.astx (pc := 78) dD_edit_78 (by omega) (by first | exact fun _ _ => rfl | exact cell_dz hj | exact cell_dr hj | exact cell_mr hk | exact cell_sr hk) (by omega) (by omega) (by decide) ?_
    refine Ev.aload_n (pc := 79) (i := 0) dD_edit_79 rfl rfl ?_
    refine Ev.gf (pc := 80) dD_edit_80 fl_D_47 (by omega) (rfl) rfl ?_
    refine Ev.iload_n (pc := 83) (i := 1) dD_edit_83 rfl rfl ?_
    refine Ev.iload_n (pc := 84) (i := 2) dD_edit_84 rfl rfl ?_
    refine Ev.iconst (pc := 85) (v := 2) dD_edit_85 (by decide) ?_
    refine Ev.cicmp_ne (rfl) ((show (2 : Int32).toInt = 2 from by decide)) (pc := 86) (tgt := 93) dD_edit_86 rfl (fun h3 => ?_) (fun h3 => ?_)
    · have em : ediM k d s = (k.toInt.toNat, d.toInt.toNat, s.toInt.toNat) := if_neg h3
      refine Ev.iload_n (pc := 93) (i := 3) dD_edit_93 rfl rfl ?_
      refine Ev.astx (pc := 94) dD_edit_94 (by omega) (by first | exact fun _ _ => rfl | exact cell_dz hj | exact cell_dr hj | exact cell_mr hk | exact cell_sr hk) (by omega) (by omega) (by decide) ?_
      refine Ev.aload_n (pc := 95) (i := 0) dD_edit_95 rfl rfl ?_
      refine Ev.gf (pc := 96) dD_edit_96 fl_D_50 (by omega) (rfl) rfl ?_
      refine Ev.iload_n (pc := 99) (i := 1) dD_edit_99 rfl rfl ?_
      refine Ev.iload_n (pc := 100) (i := 2) dD_edit_100 rfl rfl ?_
      refine Ev.iconst (pc := 101) (v := 2) dD_edit_101 (by decide) ?_
      refine Ev.cicmp_ne (rfl) ((show (2 : Int32).toInt = 2 from by decide)) (pc := 102) (tgt := 109) dD_edit_102 rfl (fun h4 => ?_) (fun h4 => ?_)
      · refine Ev.iload (pc := 109) dD_edit_109 rfl ?_
        refine Ev.astx (pc := 111) dD_edit_111 (by omega) (by first | exact fun _ _ => rfl | exact cell_dz hj | exact cell_dr hj | exact cell_mr hk | exact cell_sr hk) (by omega) (by omega) (by decide) ?_
        refine Ev.iload (pc := 112) dD_edit_112 rfl ?_
        exact Ev.zreturn dD_edit_114 rfl ⟨_, b, rfl, by rw [hq], end_ d s (by rw [em]; exact nI_nat (by omega)) (by rw [em]; exact nI_nat (by omega)) (by rw [em]; exact nI_nat (by omega)), fun p hp => ⟨by rw [sv_p (by omega), sv_p (by omega), sv_p (by omega)], rfl⟩⟩
      · exact absurd h4 h3
    · have em : ediM k d s = (2, 0, 0) := if_pos h3
      refine Ev.iconst (pc := 89) (v := 0) dD_edit_89 (by decide) ?_
      refine Ev.goto (pc := 90) (tgt := 94) dD_edit_90 rfl ?_
      refine Ev.astx (pc := 94) dD_edit_94 (by omega) (by first | exact fun _ _ => rfl | exact cell_dz hj | exact cell_dr hj | exact cell_mr hk | exact cell_sr hk) (by omega) (by omega) (by decide) ?_
      refine Ev.aload_n (pc := 95) (i := 0) dD_edit_95 rfl rfl ?_
      refine Ev.gf (pc := 96) dD_edit_96 fl_D_50 (by omega) (rfl) rfl ?_
      refine Ev.iload_n (pc := 99) (i := 1) dD_edit_99 rfl rfl ?_
      refine Ev.iload_n (pc := 100) (i := 2) dD_edit_100 rfl rfl ?_
      refine Ev.iconst (pc := 101) (v := 2) dD_edit_101 (by decide) ?_
      refine Ev.cicmp_ne (rfl) ((show (2 : Int32).toInt = 2 from by decide)) (pc := 102) (tgt := 109) dD_edit_102 rfl (fun h4 => ?_) (fun h4 => ?_)
      · exact absurd h3 h4
      · refine Ev.iconst (pc := 105) (v := 0) dD_edit_105 (by decide) ?_
        refine Ev.goto (pc := 106) (tgt := 111) dD_edit_106 rfl ?_
        refine Ev.astx (pc := 111) dD_edit_111 (by omega) (by first | exact fun _ _ => rfl | exact cell_dz hj | exact cell_dr hj | exact cell_mr hk | exact cell_sr hk) (by omega) (by omega) (by decide) ?_
        refine Ev.iload (pc := 112) dD_edit_112 rfl ?_
        exact Ev.zreturn dD_edit_114 rfl ⟨_, b, rfl, by rw [hq], end_ 0 0 (by rw [em]; rfl) (by rw [em]; rfl) (by rw [em]; exact Int32.toInt_inj.mp (h3.trans (by decide))), fun p hp => ⟨by rw [sv_p (by omega), sv_p (by omega), sv_p (by omega)], rfl⟩⟩
  refine Ct.of (by decide) rfl rfl (Nat.le_of_ble_eq_true rfl) ?_
  refine Ev.iload_n (pc := 0) (i := 1) dD_edit_0 rfl rfl ?_
  refine Ev.cif_lt (rfl) (pc := 1) (tgt := 25) dD_edit_1 rfl (fun h1 => ?_) (fun h1 => ?_)
  · exact nogood (bf (fun q => by have := hQ.mp q; omega))
  refine Ev.iload_n (pc := 4) (i := 1) dD_edit_4 rfl rfl ?_
  refine Ev.aload_n (pc := 5) (i := 0) dD_edit_5 rfl rfl ?_
  refine Ev.gf (pc := 6) dD_edit_6 fl_D_76 (by omega) (rfl) rfl ?_
  refine Ev.cicmp_ge (rfl) (hnI) (pc := 9) (tgt := 25) dD_edit_9 rfl (fun h2 => ?_) (fun h2 => ?_)
  · exact nogood (bf (fun q => by have := hQ.mp q; omega))
  refine Ev.iload_n (pc := 12) (i := 2) dD_edit_12 rfl rfl ?_
  refine Ev.cif_lt (rfl) (pc := 13) (tgt := 25) dD_edit_13 rfl (fun h3 => ?_) (fun h3 => ?_)
  · exact nogood (bf (fun q => by have := hQ.mp q; omega))
  refine Ev.iload_n (pc := 16) (i := 2) dD_edit_16 rfl rfl ?_
  refine Ev.iconst (pc := 17) (v := 2) dD_edit_17 (by decide) ?_
  refine Ev.cicmp_gt (rfl) ((show (2 : Int32).toInt = 2 from by decide)) (pc := 18) (tgt := 25) dD_edit_18 rfl (fun h4 => ?_) (fun h4 => ?_)
  · exact nogood (bf (fun q => by have := hQ.mp q; omega))
  refine Ev.iconst (pc := 21) (v := 1) dD_edit_21 (by decide) ?_
  refine Ev.goto (pc := 22) (tgt := 26) dD_edit_22 rfl ?_
  refine Ev.istore (pc := 26) (x := bI true) dD_edit_26 (Nat.le_of_ble_eq_true rfl) ?_
  refine Ev.iload (pc := 28) dD_edit_28 rfl ?_
  refine Ev.if_eqB (pc := 30) (tgt := 64) dD_edit_30 rfl (fun h5 => ?_) (fun h5 => ?_)
  · cases h5
  have nox : ediQ S i k d s = false → Ev G mD_edit 64 [some (.ref (cxa G 30)), some (.int i), some (.int k), some (.int d), some (.int s), some (.int (bI true))] [] (wl G v b) (cx_e G mD_edit (mdQ G v b (some (.int (bI (ediQ S i k d s)))) (oEdi S i k d s))) := by
    intro hq
    refine Ev.iconst (pc := 64) (v := 0) dD_edit_64 (by decide) ?_
    exact (no hq).1
  refine Ev.iload_n (pc := 33) (i := 2) dD_edit_33 rfl rfl ?_
  refine Ev.iconst (pc := 34) (v := 2) dD_edit_34 (by decide) ?_
  refine Ev.cicmp_eq (rfl) ((show (2 : Int32).toInt = 2 from by decide)) (pc := 35) (tgt := 60) dD_edit_35 rfl (fun h11 => ?_) (fun h11 => ?_)
  · exact yes (hQ.mpr (by omega))
  refine Ev.iload_n (pc := 38) (i := 3) dD_edit_38 rfl rfl ?_
  refine Ev.cif_lt (rfl) (pc := 39) (tgt := 64) dD_edit_39 rfl (fun h12 => ?_) (fun h12 => ?_)
  · exact nox (bf (fun q => by have := hQ.mp q; omega))
  refine Ev.iload_n (pc := 42) (i := 3) dD_edit_42 rfl rfl ?_
  refine Ev.iconst (pc := 43) (v := 3) dD_edit_43 (by decide) ?_
  refine Ev.cicmp_gt (rfl) ((show (3 : Int32).toInt = 3 from by decide)) (pc := 44) (tgt := 64) dD_edit_44 rfl (fun h13 => ?_) (fun h13 => ?_)
  · exact nox (bf (fun q => by have := hQ.mp q; omega))
  refine Ev.iload (pc := 47) dD_edit_47 rfl ?_
  refine Ev.iconst (pc := 49) (v := 1) dD_edit_49 (by decide) ?_
  refine Ev.cicmp_lt (rfl) ((show (1 : Int32).toInt = 1 from by decide)) (pc := 50) (tgt := 64) dD_edit_50 rfl (fun h14 => ?_) (fun h14 => ?_)
  · exact nox (bf (fun q => by have := hQ.mp q; omega))
  refine Ev.iload (pc := 53) dD_edit_53 rfl ?_
  refine Ev.bipush (pc := 55) (v := 40) dD_edit_55 (by decide) ?_
  refine Ev.cicmp_gt (rfl) ((show (40 : Int32).toInt = 40 from by decide)) (pc := 57) (tgt := 64) dD_edit_57 rfl (fun h15 => ?_) (fun h15 => ?_)
  · exact nox (bf (fun q => by have := hQ.mp q; omega))
  exact yes (hQ.mpr (by omega))
set_option maxHeartbeats 4000000 in
set_option maxRecDepth 100000 in
theorem ct_D_copyBack {k : Nat} (hk : k < 2000) : Ct G mD_copyBack [.ref (cxa G 30), .int (nI k)] (wl G v b) (fun x w' => w' = wl G (sv (sv (sv v 39 k (v 36 k)) 40 k (v 37 k)) 41 k (v 38 k)) b ∧ x = none) := by
  refine Ct.of (by decide) rfl rfl (Nat.le_of_ble_eq_true rfl) ?_
  refine Ev.aload_n (pc := 0) (i := 0) dD_copyBack_0 rfl rfl ?_
  refine Ev.gf (pc := 1) dD_copyBack_1 fl_D_44 (by omega) (rfl) rfl ?_
  refine Ev.iload_n (pc := 4) (i := 1) dD_copyBack_4 rfl rfl ?_
  refine Ev.aload_n (pc := 5) (i := 0) dD_copyBack_5 rfl rfl ?_
  refine Ev.gf (pc := 6) dD_copyBack_6 fl_D_35 (by omega) (rfl) rfl ?_
  refine Ev.iload_n (pc := 9) (i := 1) dD_copyBack_9 rfl rfl ?_
  refine Ev.aldi (pc := 10) dD_copyBack_10 (by omega) (by first | exact fun _ _ => rfl | exact cell_dz hj | exact cell_dr hj | exact cell_mr hk | exact cell_sr hk) _ (rfl) (by omega) (by decide) ?_
  refine Ev.asti (pc := 11) dD_copyBack_11 (by omega) (by first | exact fun _ _ => rfl | exact cell_dz hj | exact cell_dr hj | exact cell_mr hk | exact cell_sr hk) _ (rfl) (by omega) (by decide) ?_
  refine Ev.aload_n (pc := 12) (i := 0) dD_copyBack_12 rfl rfl ?_
  refine Ev.gf (pc := 13) dD_copyBack_13 fl_D_47 (by omega) (rfl) rfl ?_
  refine Ev.iload_n (pc := 16) (i := 1) dD_copyBack_16 rfl rfl ?_
  refine Ev.aload_n (pc := 17) (i := 0) dD_copyBack_17 rfl rfl ?_
  refine Ev.gf (pc := 18) dD_copyBack_18 fl_D_38 (by omega) (rfl) rfl ?_
  refine Ev.iload_n (pc := 21) (i := 1) dD_copyBack_21 rfl rfl ?_
  refine Ev.aldi (pc := 22) dD_copyBack_22 (by omega) (by first | exact fun _ _ => rfl | exact cell_dz hj | exact cell_dr hj | exact cell_mr hk | exact cell_sr hk) _ (rfl) (by omega) (by decide) ?_
  refine Ev.topi (y := v 37 k) (by rw [sv_p (by decide)]) ?_
  refine Ev.asti (pc := 23) dD_copyBack_23 (by omega) (by first | exact fun _ _ => rfl | exact cell_dz hj | exact cell_dr hj | exact cell_mr hk | exact cell_sr hk) _ (rfl) (by omega) (by decide) ?_
  refine Ev.aload_n (pc := 24) (i := 0) dD_copyBack_24 rfl rfl ?_
  refine Ev.gf (pc := 25) dD_copyBack_25 fl_D_50 (by omega) (rfl) rfl ?_
  refine Ev.iload_n (pc := 28) (i := 1) dD_copyBack_28 rfl rfl ?_
  refine Ev.aload_n (pc := 29) (i := 0) dD_copyBack_29 rfl rfl ?_
  refine Ev.gf (pc := 30) dD_copyBack_30 fl_D_41 (by omega) (rfl) rfl ?_
  refine Ev.iload_n (pc := 33) (i := 1) dD_copyBack_33 rfl rfl ?_
  refine Ev.aldi (pc := 34) dD_copyBack_34 (by omega) (by first | exact fun _ _ => rfl | exact cell_dz hj | exact cell_dr hj | exact cell_mr hk | exact cell_sr hk) _ (rfl) (by omega) (by decide) ?_
  refine Ev.topi (y := v 38 k) (by rw [sv_p (by decide), sv_p (by decide)]) ?_
  refine Ev.asti (pc := 35) dD_copyBack_35 (by omega) (by first | exact fun _ _ => rfl | exact cell_dz hj | exact cell_dr hj | exact cell_mr hk | exact cell_sr hk) _ (rfl) (by omega) (by decide) ?_
  exact Ev.vreturn dD_copyBack_36 rfl ⟨rfl, rfl⟩
set_option maxHeartbeats 4000000 in
set_option maxRecDepth 100000 in
theorem ct_D_stock {S : Sg} (h : mdl v b S) (z r : Int32) : Ct G mD_stock [.ref (cxa G 30), .int z, .int r] (wl G v b) (mdQ G v b (some (.int (bI (hasB (sX S) z r)))) S) := by
  refine Ct.of (by decide) rfl rfl (Nat.le_of_ble_eq_true rfl) ?_
  refine Ev.iload_n (pc := 0) (i := 1) dD_stock_0 rfl rfl ?_
  refine Ev.iload_n (pc := 1) (i := 2) dD_stock_1 rfl rfl ?_
  refine Ev.callS (pc := 2) dD_stock_2 ks_D_104 ⟨Nat.le_of_ble_eq_true rfl, Nat.le_of_ble_eq_true rfl⟩ (ct_D_isCell z r) rfl rfl (Nat.le_of_ble_eq_true rfl) ?_
  rintro _ _ ⟨rfl, rfl⟩
  refine Ev.if_eqB (pc := 5) (tgt := 45) dD_stock_5 rfl (fun h1 => ?_) (fun h1 => ?_)
  · refine Ev.iconst (pc := 45) (v := 0) dD_stock_45 (by decide) ?_
    exact Ev.zreturn (b := false) dD_stock_46 rfl (⟨v, b, rfl, ret_f (by unfold hasB; rw [h1]; rfl), h, fun _ _ => ⟨rfl, rfl⟩⟩)
  obtain ⟨c1, c2⟩ := cix_i h1
  have eh : hasB (sX S) z r = sX S (cix z r) := by unfold hasB; rw [h1]; rfl
  rw [eh]
  refine Ev.aload_n (pc := 8) (i := 0) dD_stock_8 rfl rfl ?_
  refine Ev.gf (pc := 9) dD_stock_9 fl_D_73 (by omega) (rfl) rfl ?_
  refine Ev.if_eqB (pc := 12) (tgt := 32) dD_stock_12 rfl (fun h2 => ?_) (fun h2 => ?_)
  · have hx := h.2.2.2.2.2.2.2 h2 _ c2
    obtain ⟨e1, e2⟩ := cix_dm h1
    unfold fillB at hx
    rw [e1, e2] at hx
    rw [← hx]
    refine Ev.aload_n (pc := 32) (i := 0) dD_stock_32 rfl rfl ?_
    refine Ev.iload_n (pc := 33) (i := 1) dD_stock_33 rfl rfl ?_
    refine Ev.iload_n (pc := 34) (i := 2) dD_stock_34 rfl rfl ?_
    refine Ev.callV (pc := 35) dD_stock_35 kv_D_107 ⟨Nat.le_of_ble_eq_true rfl, Nat.le_of_ble_eq_true rfl⟩ (wl_at (by decide) rfl) rfl rfl (ct_D_isBar z r) rfl rfl (Nat.le_of_ble_eq_true rfl) ?_
    rintro _ _ ⟨rfl, rfl⟩
    rw [h.1.1, h.1.2.1]
    refine Ev.if_eqB (pc := 38) (tgt := 45) dD_stock_38 rfl (fun h3 => ?_) (fun h3 => ?_)
    · refine Ev.iconst (pc := 45) (v := 0) dD_stock_45 (by decide) ?_
      exact Ev.zreturn (b := false) dD_stock_46 rfl (⟨v, b, rfl, ret_f h3, h, fun _ _ => ⟨rfl, rfl⟩⟩)
    · refine Ev.iconst (pc := 41) (v := 1) dD_stock_41 (by decide) ?_
      refine Ev.goto (pc := 42) (tgt := 46) dD_stock_42 rfl ?_
      exact Ev.zreturn (b := true) dD_stock_46 rfl (⟨v, b, rfl, ret_t h3, h, fun _ _ => ⟨rfl, rfl⟩⟩)
  · have hx := h.2.2.2.2.2.2.1 h2 _ c2
    rw [← hx]
    refine Ev.aload_n (pc := 15) (i := 0) dD_stock_15 rfl rfl ?_
    refine Ev.gf (pc := 16) dD_stock_16 fl_D_53 (by omega) (rfl) rfl ?_
    refine Ev.bipush (pc := 19) (v := 8) dD_stock_19 (by decide) ?_
    refine Ev.iload_n (pc := 21) (i := 1) dD_stock_21 rfl rfl ?_
    refine Ev.imul (pc := 22) dD_stock_22 ?_
    refine Ev.iload_n (pc := 23) (i := 2) dD_stock_23 rfl rfl ?_
    refine Ev.iadd (pc := 24) dD_stock_24 ?_
    refine Ev.topi (cix_m h1) ?_
    refine Ev.aldb (pc := 25) dD_stock_25 (by omega) (by first | exact fun _ _ => rfl | exact cell_dz hj | exact cell_dr hj | exact cell_mr hk | exact cell_sr hk) _ (rfl) (by omega) (by decide) ?_
    refine Ev.if_eqB (pc := 26) (tgt := 45) dD_stock_26 rfl (fun h3 => ?_) (fun h3 => ?_)
    · refine Ev.iconst (pc := 45) (v := 0) dD_stock_45 (by decide) ?_
      exact Ev.zreturn (b := false) dD_stock_46 rfl (⟨v, b, rfl, ret_f h3, h, fun _ _ => ⟨rfl, rfl⟩⟩)
    · refine Ev.goto (pc := 29) (tgt := 41) dD_stock_29 rfl ?_
      refine Ev.iconst (pc := 41) (v := 1) dD_stock_41 (by decide) ?_
      refine Ev.goto (pc := 42) (tgt := 46) dD_stock_42 rfl ?_
      exact Ev.zreturn (b := true) dD_stock_46 rfl (⟨v, b, rfl, ret_t h3, h, fun _ _ => ⟨rfl, rfl⟩⟩)
set_option maxHeartbeats 4000000 in
set_option maxRecDepth 100000 in
theorem ct_D_left {S : Sg} (h : mdl v b S) : Ct G mD_left [.ref (cxa G 30)] (wl G v b) (mdQ G v b (some (.int (aLef S))) S) := by
  have hb := h.2.2.2.1
  refine Ct.of (by decide) rfl rfl (Nat.le_of_ble_eq_true rfl) ?_
  refine Ev.aload_n (pc := 0) (i := 0) dD_left_0 rfl rfl ?_
  refine Ev.gf (pc := 1) dD_left_1 fl_D_69 (by omega) (rfl) rfl ?_
  cases hP : sP S with
  | none =>
    rw [hP] at hb
    refine Ev.if_eqB (pc := 4) (tgt := 14) dD_left_4 rfl (fun h1 => ?_) (fun h1 => ?_)
    · refine Ev.iconst (pc := 14) (v := (-1)) dD_left_14 (by decide) ?_
      exact Ev.ireturn .int dD_left_15 rfl rfl (⟨v, b, rfl, by unfold aLef; rw [hP], h, fun _ _ => ⟨rfl, rfl⟩⟩)
    · rw [hb] at h1; cases h1
  | some q =>
    obtain ⟨n, p, t, l⟩ := q
    have m := h.2.2.2.2.2.1 n p t l hP
    rw [hP] at hb
    refine Ev.if_eqB (pc := 4) (tgt := 14) dD_left_4 rfl (fun h1 => ?_) (fun h1 => ?_)
    · rw [hb] at h1; cases h1
    · refine Ev.aload_n (pc := 7) (i := 0) dD_left_7 rfl rfl ?_
      refine Ev.gf (pc := 8) dD_left_8 fl_D_154 (by omega) (rfl) rfl ?_
      refine Ev.goto (pc := 11) (tgt := 15) dD_left_11 rfl ?_
      exact Ev.ireturn .int dD_left_15 rfl rfl (⟨v, b, rfl, by unfold aLef; rw [hP, m.2.1], h, fun _ _ => ⟨rfl, rfl⟩⟩)
end Mf3
