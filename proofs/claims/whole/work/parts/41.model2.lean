/-! The reference: safe, covers, stockAt -/
theorem freeB_congr {C : Int32} {sy sy' : Nat → Int32} (h : ∀ z, z < 12 → sy' z = sy z) (z r : Int32) : freeB C sy' z r = freeB C sy z r := by
  unfold freeB
  by_cases h1 : z.toInt < 0
  · rw [decide_eq_true h1]
    simp
  · by_cases h2 : 12 ≤ z.toInt
    · rw [decide_eq_true h2]
      simp
    · rw [h z.toInt.toNat (by omega)]
theorem cntB_0 {n : Nat} {f : Nat → Bool} : cntB n f = 0 ↔ anyB n f = false := by
  induction n with
  | zero => simp [cntB, anyB]
  | succ n ih =>
    simp only [cntB, anyB, Bool.or_eq_false_iff]
    cases f n with
    | true => simp
    | false => simp [ih]
theorem cntB_mono {F F' : Nat → Bool} : ∀ {n : Nat}, (∀ q, q < n → F q = true → F' q = true) → cntB n F ≤ cntB n F'
  | 0, _ => Nat.le_refl _
  | n + 1, h => by
    have h1 := cntB_mono (n := n) (fun q hq => h q (by omega))
    have h2 := h n (by omega)
    simp only [cntB]
    cases e : F n with
    | false => simp; omega
    | true => rw [h2 e]; simp; omega
theorem cntB_lt {F F' : Nat → Bool} : ∀ {n : Nat}, (∀ q, q < n → F q = true → F' q = true) → (∃ q, q < n ∧ F' q = true ∧ F q = false) → cntB n F < cntB n F'
  | 0, _, ⟨q, hq, _⟩ => absurd hq (by omega)
  | n + 1, h, ⟨q, hq, h1, h2⟩ => by
    have hm := h n (by omega)
    simp only [cntB]
    by_cases e : q = n
    · subst e
      have := cntB_mono (n := q) (F := F) (F' := F') (fun q' hq' => h q' (by omega))
      rw [h1, h2]
      simp
      omega
    · have := cntB_lt (n := n) (fun q' hq' => h q' (by omega)) ⟨q, by omega, h1, h2⟩
      cases e2 : F n with
      | false => simp; omega
      | true => rw [hm e2]; simp; omega
section Md2
variable {G : cx_G} {v : Nat → Nat → Int32} {b : Nat → Nat → Bool}
set_option maxHeartbeats 4000000 in
set_option maxRecDepth 100000 in
theorem ct_D_isSafe {C : Int32} {sy : Nat → Int32} {I : Ins} {j p : Nat} (hj : j < 3) (hI : mi v j I) (hB : mb v C sy) (hp : p < 320) : Ct G mD_isSafe [.ref (cxa G 30), .int (nI j), .int (nI p)] (wl G v b) (fun x w' => w' = wl G v b ∧ x = some (.int (bI (okI C sy I p)))) := by
  obtain ⟨hn, h8, hd⟩ := hI
  obtain ⟨hC, hsy⟩ := hB
  refine Ct.of (by decide) rfl rfl (Nat.le_of_ble_eq_true rfl) ?_
  refine Ev.iconst (pc := 0) (v := 1) dD_isSafe_0 (by decide) ?_
  refine Ev.istore_n (pc := 1) (i := 3) dD_isSafe_1 rfl (Nat.le_of_ble_eq_true rfl) ?_
  refine Ev.bipush (pc := 2) (v := 8) dD_isSafe_2 (by decide) ?_
  refine Ev.iload_n (pc := 4) (i := 1) dD_isSafe_4 rfl rfl ?_
  refine Ev.imul (pc := 5) dD_isSafe_5 ?_
  refine Ev.topi (m8 j) ?_
  refine Ev.istore (pc := 6) dD_isSafe_6 (Nat.le_of_ble_eq_true rfl) ?_
  have loop : ∀ a, a ≤ I.1 → ∀ l5 l6 : Option Value, Ev G mD_isSafe 8 [some (.ref (cxa G 30)), some (.int (nI j)), some (.int (nI p)), some (.int (bI (allB a (fun i => freeB C sy (zP p + I.2.1 i) (rP p + I.2.2 i))))), some (.int (nI (8 * j + a))), l5, l6] [] (wl G v b) (cx_e G mD_isSafe (fun x w' => w' = wl G v b ∧ x = some (.int (bI (okI C sy I p))))) := by
    refine loopN (fun a ha ih l5 l6 => ?_)
    refine Ev.iload (pc := 8) dD_isSafe_8 rfl ?_
    refine Ev.bipush (pc := 10) (v := 8) dD_isSafe_10 (by decide) ?_
    refine Ev.iload_n (pc := 12) (i := 1) dD_isSafe_12 rfl rfl ?_
    refine Ev.imul (pc := 13) dD_isSafe_13 ?_
    refine Ev.topi (m8 j) ?_
    refine Ev.aload_n (pc := 14) (i := 0) dD_isSafe_14 rfl rfl ?_
    refine Ev.gf (pc := 15) dD_isSafe_15 fl_D_23 (by omega) (rfl) rfl ?_
    refine Ev.iload_n (pc := 18) (i := 1) dD_isSafe_18 rfl rfl ?_
    refine Ev.aldi (pc := 19) dD_isSafe_19 (by omega) (by first | exact fun _ _ => rfl | exact cell_dz hj | exact cell_dr hj | exact cell_mr hk | exact cell_sr hk) _ (rfl) (by omega) (by decide) ?_
    refine Ev.topi hn ?_
    refine Ev.iadd (pc := 20) dD_isSafe_20 ?_
    refine Ev.topi (nI_add _ _) ?_
    refine Ev.cicmp_ge (nI_toInt (by omega)) (nI_toInt (by omega)) (pc := 21) (tgt := 101) dD_isSafe_21 rfl (fun h => ?_) (fun h => ?_)
    · have e : a = I.1 := by omega
      subst e
      refine Ev.iload_n (pc := 101) (i := 3) dD_isSafe_101 rfl rfl ?_
      exact Ev.zreturn dD_isSafe_102 rfl ⟨rfl, rfl⟩
    have hlt : a < I.1 := by omega
    have ih := ih hlt
    obtain ⟨d1, d2⟩ := hd a hlt
    refine Ev.iload_n (pc := 24) (i := 2) dD_isSafe_24 rfl rfl ?_
    refine Ev.callS (pc := 25) dD_isSafe_25 ks_D_89 ⟨Nat.le_of_ble_eq_true rfl, Nat.le_of_ble_eq_true rfl⟩ (ct_D_zOf _ hp) rfl rfl (Nat.le_of_ble_eq_true rfl) ?_
    rintro _ _ ⟨rfl, rfl⟩
    refine Ev.aload_n (pc := 28) (i := 0) dD_isSafe_28 rfl rfl ?_
    refine Ev.gf (pc := 29) dD_isSafe_29 fl_D_26 (by omega) (rfl) rfl ?_
    refine Ev.iload (pc := 32) dD_isSafe_32 rfl ?_
    refine Ev.aldi (pc := 34) dD_isSafe_34 (by omega) (by first | exact fun _ _ => rfl | exact cell_dz hj | exact cell_dr hj | exact cell_mr hk | exact cell_sr hk) _ (rfl) (by omega) (by decide) ?_
    refine Ev.topi d1 ?_
    refine Ev.iadd (pc := 35) dD_isSafe_35 ?_
    refine Ev.istore (pc := 36) dD_isSafe_36 (Nat.le_of_ble_eq_true rfl) ?_
    refine Ev.iload_n (pc := 38) (i := 2) dD_isSafe_38 rfl rfl ?_
    refine Ev.callS (pc := 39) dD_isSafe_39 ks_D_93 ⟨Nat.le_of_ble_eq_true rfl, Nat.le_of_ble_eq_true rfl⟩ (ct_D_rOf _ hp) rfl rfl (Nat.le_of_ble_eq_true rfl) ?_
    rintro _ _ ⟨rfl, rfl⟩
    refine Ev.aload_n (pc := 42) (i := 0) dD_isSafe_42 rfl rfl ?_
    refine Ev.gf (pc := 43) dD_isSafe_43 fl_D_29 (by omega) (rfl) rfl ?_
    refine Ev.iload (pc := 46) dD_isSafe_46 rfl ?_
    refine Ev.aldi (pc := 48) dD_isSafe_48 (by omega) (by first | exact fun _ _ => rfl | exact cell_dz hj | exact cell_dr hj | exact cell_mr hk | exact cell_sr hk) _ (rfl) (by omega) (by decide) ?_
    refine Ev.topi d2 ?_
    refine Ev.iadd (pc := 49) dD_isSafe_49 ?_
    refine Ev.istore (pc := 50) dD_isSafe_50 (Nat.le_of_ble_eq_true rfl) ?_
    refine Ev.iload_n (pc := 52) (i := 3) dD_isSafe_52 rfl rfl ?_
    have fin : ∀ x : Bool, (allB a (fun i => freeB C sy (zP p + I.2.1 i) (rP p + I.2.2 i)) && (fun i => freeB C sy (zP p + I.2.1 i) (rP p + I.2.2 i)) a) = x → Ev G mD_isSafe 94 [some (.ref (cxa G 30)), some (.int (nI j)), some (.int (nI p)), some (.int (bI (allB a (fun i => freeB C sy (zP p + I.2.1 i) (rP p + I.2.2 i))))), some (.int (nI (8 * j + a))), some (.int (zP p + I.2.1 a)), some (.int (rP p + I.2.2 a))] [.int (bI x)] (wl G v b) (cx_e G mD_isSafe (fun x w' => w' = wl G v b ∧ x = some (.int (bI (okI C sy I p))))) := by
      intro x hx
      have ih := ih (some (.int (zP p + I.2.1 a))) (some (.int (rP p + I.2.2 a)))
      rw [allB, hx] at ih
      refine Ev.istore_n (pc := 94) (i := 3) dD_isSafe_94 rfl (Nat.le_of_ble_eq_true rfl) ?_
      refine Ev.iinc (pc := 95) dD_isSafe_95 rfl (cx_inc _) (Nat.le_of_ble_eq_true rfl) ?_
      refine Ev.goto (pc := 98) (tgt := 8) dD_isSafe_98 rfl ?_
      exact ih
    refine Ev.if_eqB (pc := 53) (tgt := 93) dD_isSafe_53 rfl (fun h2 => ?_) (fun h2 => ?_)
    · refine Ev.iconst (pc := 93) (v := 0) dD_isSafe_93 (by decide) ?_
      exact fin false (by rw [h2]; rfl)
    refine Ev.iload (pc := 56) dD_isSafe_56 rfl ?_
    refine Ev.aload_n (pc := 58) (i := 0) dD_isSafe_58 rfl rfl ?_
    refine Ev.gf (pc := 59) dD_isSafe_59 fl_D_16 (by omega) (rfl) rfl ?_
    refine Ev.topi hC ?_
    refine Ev.cicmp_ge (rfl) (rfl) (pc := 62) (tgt := 93) dD_isSafe_62 rfl (fun h3 => ?_) (fun h3 => ?_)
    · refine Ev.iconst (pc := 93) (v := 0) dD_isSafe_93 (by decide) ?_
      exact fin false (by show (_ && freeB C sy (zP p + I.2.1 a) (rP p + I.2.2 a)) = false; rw [h2, bf (e := freeB C sy (zP p + I.2.1 a) (rP p + I.2.2 a)) (fun q => by have := freeB_iff.mp q; omega)]; rfl)
    refine Ev.iload (pc := 65) dD_isSafe_65 rfl ?_
    refine Ev.cif_lt (rfl) (pc := 67) (tgt := 89) dD_isSafe_67 rfl (fun h4 => ?_) (fun h4 => ?_)
    · refine Ev.iconst (pc := 89) (v := 1) dD_isSafe_89 (by decide) ?_
      refine Ev.goto (pc := 90) (tgt := 94) dD_isSafe_90 rfl ?_
      exact fin true (by show (_ && freeB C sy (zP p + I.2.1 a) (rP p + I.2.2 a)) = true; rw [h2, freeB_iff.mpr (by omega)]; rfl)
    refine Ev.iload (pc := 70) dD_isSafe_70 rfl ?_
    refine Ev.bipush (pc := 72) (v := 11) dD_isSafe_72 (by decide) ?_
    refine Ev.cicmp_gt (rfl) ((show (11 : Int32).toInt = 11 from by decide)) (pc := 74) (tgt := 89) dD_isSafe_74 rfl (fun h5 => ?_) (fun h5 => ?_)
    · refine Ev.iconst (pc := 89) (v := 1) dD_isSafe_89 (by decide) ?_
      refine Ev.goto (pc := 90) (tgt := 94) dD_isSafe_90 rfl ?_
      exact fin true (by show (_ && freeB C sy (zP p + I.2.1 a) (rP p + I.2.2 a)) = true; rw [h2, freeB_iff.mpr (by omega)]; rfl)
    refine Ev.iload (pc := 77) dD_isSafe_77 rfl ?_
    refine Ev.aload_n (pc := 79) (i := 0) dD_isSafe_79 rfl rfl ?_
    refine Ev.gf (pc := 80) dD_isSafe_80 fl_D_19 (by omega) (rfl) rfl ?_
    refine Ev.iload (pc := 83) dD_isSafe_83 rfl ?_
    refine Ev.aldx (pc := 85) dD_isSafe_85 (by omega) (by first | exact fun _ _ => rfl | exact cell_dz hj | exact cell_dr hj | exact cell_mr hk | exact cell_sr hk) (by omega) (by omega) (by decide) ?_
    refine Ev.topi (hsy _ (by omega)) ?_
    refine Ev.cicmp_lt (rfl) (rfl) (pc := 86) (tgt := 93) dD_isSafe_86 rfl (fun h6 => ?_) (fun h6 => ?_)
    · refine Ev.iconst (pc := 93) (v := 0) dD_isSafe_93 (by decide) ?_
      exact fin false (by show (_ && freeB C sy (zP p + I.2.1 a) (rP p + I.2.2 a)) = false; rw [h2, bf (e := freeB C sy (zP p + I.2.1 a) (rP p + I.2.2 a)) (fun q => by have := freeB_iff.mp q; omega)]; rfl)
    · refine Ev.iconst (pc := 89) (v := 1) dD_isSafe_89 (by decide) ?_
      refine Ev.goto (pc := 90) (tgt := 94) dD_isSafe_90 rfl ?_
      exact fin true (by show (_ && freeB C sy (zP p + I.2.1 a) (rP p + I.2.2 a)) = true; rw [h2, freeB_iff.mpr (by omega)]; rfl)
  exact loop 0 (Nat.zero_le _) none none
set_option maxHeartbeats 4000000 in
set_option maxRecDepth 100000 in
theorem ct_D_covers {I : Ins} {j p : Nat} (hj : j < 3) (hI : mi v j I) (hp : p < 320) (z r : Int32) : Ct G mD_covers [.ref (cxa G 30), .int (nI j), .int (nI p), .int z, .int r] (wl G v b) (fun x w' => w' = wl G v b ∧ x = some (.int (bI (anyB I.1 (fun i => decide ((zP p + I.2.1 i).toInt = z.toInt) && decide ((rP p + I.2.2 i).toInt = r.toInt)))))) := by
  obtain ⟨hn, h8, hd⟩ := hI
  refine Ct.of (by decide) rfl rfl (Nat.le_of_ble_eq_true rfl) ?_
  refine Ev.iconst (pc := 0) (v := 0) dD_covers_0 (by decide) ?_
  refine Ev.istore (pc := 1) dD_covers_1 (Nat.le_of_ble_eq_true rfl) ?_
  refine Ev.bipush (pc := 3) (v := 8) dD_covers_3 (by decide) ?_
  refine Ev.iload_n (pc := 5) (i := 1) dD_covers_5 rfl rfl ?_
  refine Ev.imul (pc := 6) dD_covers_6 ?_
  refine Ev.topi (m8 j) ?_
  refine Ev.istore (pc := 7) dD_covers_7 (Nat.le_of_ble_eq_true rfl) ?_
  have loop : ∀ a, a ≤ I.1 → Ev G mD_covers 9 [some (.ref (cxa G 30)), some (.int (nI j)), some (.int (nI p)), some (.int z), some (.int r), some (.int (bI (anyB a (fun i => decide ((zP p + I.2.1 i).toInt = z.toInt) && decide ((rP p + I.2.2 i).toInt = r.toInt))))), some (.int (nI (8 * j + a)))] [] (wl G v b) (cx_e G mD_covers (fun x w' => w' = wl G v b ∧ x = some (.int (bI (anyB I.1 (fun i => decide ((zP p + I.2.1 i).toInt = z.toInt) && decide ((rP p + I.2.2 i).toInt = r.toInt))))))) := by
    refine loopN (fun a ha ih => ?_)
    refine Ev.iload (pc := 9) dD_covers_9 rfl ?_
    refine Ev.bipush (pc := 11) (v := 8) dD_covers_11 (by decide) ?_
    refine Ev.iload_n (pc := 13) (i := 1) dD_covers_13 rfl rfl ?_
    refine Ev.imul (pc := 14) dD_covers_14 ?_
    refine Ev.topi (m8 j) ?_
    refine Ev.aload_n (pc := 15) (i := 0) dD_covers_15 rfl rfl ?_
    refine Ev.gf (pc := 16) dD_covers_16 fl_D_23 (by omega) (rfl) rfl ?_
    refine Ev.iload_n (pc := 19) (i := 1) dD_covers_19 rfl rfl ?_
    refine Ev.aldi (pc := 20) dD_covers_20 (by omega) (by first | exact fun _ _ => rfl | exact cell_dz hj | exact cell_dr hj | exact cell_mr hk | exact cell_sr hk) _ (rfl) (by omega) (by decide) ?_
    refine Ev.topi hn ?_
    refine Ev.iadd (pc := 21) dD_covers_21 ?_
    refine Ev.topi (nI_add _ _) ?_
    refine Ev.cicmp_ge (nI_toInt (by omega)) (nI_toInt (by omega)) (pc := 22) (tgt := 76) dD_covers_22 rfl (fun h => ?_) (fun h => ?_)
    · have e : a = I.1 := by omega
      subst e
      refine Ev.iload (pc := 76) dD_covers_76 rfl ?_
      exact Ev.zreturn dD_covers_78 rfl ⟨rfl, rfl⟩
    have hlt : a < I.1 := by omega
    have ih := ih hlt
    obtain ⟨d1, d2⟩ := hd a hlt
    have fin : ∀ x : Bool, (anyB a (fun i => decide ((zP p + I.2.1 i).toInt = z.toInt) && decide ((rP p + I.2.2 i).toInt = r.toInt)) || (fun i => decide ((zP p + I.2.1 i).toInt = z.toInt) && decide ((rP p + I.2.2 i).toInt = r.toInt)) a) = x → Ev G mD_covers 68 [some (.ref (cxa G 30)), some (.int (nI j)), some (.int (nI p)), some (.int z), some (.int r), some (.int (bI (anyB a (fun i => decide ((zP p + I.2.1 i).toInt = z.toInt) && decide ((rP p + I.2.2 i).toInt = r.toInt))))), some (.int (nI (8 * j + a)))] [.int (bI x)] (wl G v b) (cx_e G mD_covers (fun x w' => w' = wl G v b ∧ x = some (.int (bI (anyB I.1 (fun i => decide ((zP p + I.2.1 i).toInt = z.toInt) && decide ((rP p + I.2.2 i).toInt = r.toInt))))))) := by
      intro x hx
      rw [anyB, hx] at ih
      refine Ev.istore (pc := 68) dD_covers_68 (Nat.le_of_ble_eq_true rfl) ?_
      refine Ev.iinc (pc := 70) dD_covers_70 rfl (cx_inc _) (Nat.le_of_ble_eq_true rfl) ?_
      refine Ev.goto (pc := 73) (tgt := 9) dD_covers_73 rfl ?_
      exact ih
    refine Ev.iload (pc := 25) dD_covers_25 rfl ?_
    refine Ev.if_neB (pc := 27) (tgt := 63) dD_covers_27 rfl (fun h2 => ?_) (fun h2 => ?_)
    · refine Ev.iconst (pc := 63) (v := 1) dD_covers_63 (by decide) ?_
      refine Ev.goto (pc := 64) (tgt := 68) dD_covers_64 rfl ?_
      exact fin true (by rw [h2]; rfl)
    refine Ev.iload_n (pc := 30) (i := 2) dD_covers_30 rfl rfl ?_
    refine Ev.callS (pc := 31) dD_covers_31 ks_D_89 ⟨Nat.le_of_ble_eq_true rfl, Nat.le_of_ble_eq_true rfl⟩ (ct_D_zOf _ hp) rfl rfl (Nat.le_of_ble_eq_true rfl) ?_
    rintro _ _ ⟨rfl, rfl⟩
    refine Ev.aload_n (pc := 34) (i := 0) dD_covers_34 rfl rfl ?_
    refine Ev.gf (pc := 35) dD_covers_35 fl_D_26 (by omega) (rfl) rfl ?_
    refine Ev.iload (pc := 38) dD_covers_38 rfl ?_
    refine Ev.aldi (pc := 40) dD_covers_40 (by omega) (by first | exact fun _ _ => rfl | exact cell_dz hj | exact cell_dr hj | exact cell_mr hk | exact cell_sr hk) _ (rfl) (by omega) (by decide) ?_
    refine Ev.topi d1 ?_
    refine Ev.iadd (pc := 41) dD_covers_41 ?_
    refine Ev.iload_n (pc := 42) (i := 3) dD_covers_42 rfl rfl ?_
    refine Ev.cicmp_ne (rfl) (rfl) (pc := 43) (tgt := 67) dD_covers_43 rfl (fun h3 => ?_) (fun h3 => ?_)
    · refine Ev.iconst (pc := 67) (v := 0) dD_covers_67 (by decide) ?_
      exact fin false (by show (_ || (decide ((zP p + I.2.1 a).toInt = z.toInt) && decide ((rP p + I.2.2 a).toInt = r.toInt))) = false; rw [h2, decide_eq_false h3]; rfl)
    refine Ev.iload_n (pc := 46) (i := 2) dD_covers_46 rfl rfl ?_
    refine Ev.callS (pc := 47) dD_covers_47 ks_D_93 ⟨Nat.le_of_ble_eq_true rfl, Nat.le_of_ble_eq_true rfl⟩ (ct_D_rOf _ hp) rfl rfl (Nat.le_of_ble_eq_true rfl) ?_
    rintro _ _ ⟨rfl, rfl⟩
    refine Ev.aload_n (pc := 50) (i := 0) dD_covers_50 rfl rfl ?_
    refine Ev.gf (pc := 51) dD_covers_51 fl_D_29 (by omega) (rfl) rfl ?_
    refine Ev.iload (pc := 54) dD_covers_54 rfl ?_
    refine Ev.aldi (pc := 56) dD_covers_56 (by omega) (by first | exact fun _ _ => rfl | exact cell_dz hj | exact cell_dr hj | exact cell_mr hk | exact cell_sr hk) _ (rfl) (by omega) (by decide) ?_
    refine Ev.topi d2 ?_
    refine Ev.iadd (pc := 57) dD_covers_57 ?_
    refine Ev.iload (pc := 58) dD_covers_58 rfl ?_
    refine Ev.cicmp_ne (rfl) (rfl) (pc := 60) (tgt := 67) dD_covers_60 rfl (fun h4 => ?_) (fun h4 => ?_)
    · refine Ev.iconst (pc := 67) (v := 0) dD_covers_67 (by decide) ?_
      exact fin false (by show (_ || (decide ((zP p + I.2.1 a).toInt = z.toInt) && decide ((rP p + I.2.2 a).toInt = r.toInt))) = false; rw [h2, decide_eq_true h3, decide_eq_false h4]; rfl)
    · refine Ev.iconst (pc := 63) (v := 1) dD_covers_63 (by decide) ?_
      refine Ev.goto (pc := 64) (tgt := 68) dD_covers_64 rfl ?_
      exact fin true (by show (_ || (decide ((zP p + I.2.1 a).toInt = z.toInt) && decide ((rP p + I.2.2 a).toInt = r.toInt))) = true; rw [h2, decide_eq_true h3, decide_eq_true h4]; rfl)
  exact loop 0 (Nat.zero_le _)
theorem cix_m {z r : Int32} (h : cellB z r = true) : 8 * z + r = nI (cix z r) := by
  rw [Int32.mul_comm]
  exact (cix_i h).1
set_option maxHeartbeats 4000000 in
set_option maxRecDepth 100000 in
theorem ct_D_stockAt_0 {I : Ins} {j p : Nat} (hj : j < 3) (hI : mi v j I) (hp : p < 320) : Ct G mD_stockAt [.ref (cxa G 30), .int (nI j), .int (nI p), .int 0] (wl G v b) (fun x w' => w' = wl G v b ∧ x = some (.int (nI (cntB I.1 (fun i => hasB (b 43) (zP p + I.2.1 i) (rP p + I.2.2 i)))))) := by
  obtain ⟨hn, h8, hd⟩ := hI
  refine Ct.of (by decide) rfl rfl (Nat.le_of_ble_eq_true rfl) ?_
  refine Ev.iconst (pc := 0) (v := 0) dD_stockAt_0 (by decide) ?_
  refine Ev.istore (pc := 1) dD_stockAt_1 (Nat.le_of_ble_eq_true rfl) ?_
  refine Ev.bipush (pc := 3) (v := 8) dD_stockAt_3 (by decide) ?_
  refine Ev.iload_n (pc := 5) (i := 1) dD_stockAt_5 rfl rfl ?_
  refine Ev.imul (pc := 6) dD_stockAt_6 ?_
  refine Ev.topi (m8 j) ?_
  refine Ev.istore (pc := 7) dD_stockAt_7 (Nat.le_of_ble_eq_true rfl) ?_
  have loop : ∀ a, a ≤ I.1 → ∀ l6 l7 : Option Value, Ev G mD_stockAt 9 [some (.ref (cxa G 30)), some (.int (nI j)), some (.int (nI p)), some (.int 0), some (.int (nI (cntB a (fun i => hasB (b 43) (zP p + I.2.1 i) (rP p + I.2.2 i))))), some (.int (nI (8 * j + a))), l6, l7] [] (wl G v b) (cx_e G mD_stockAt (fun x w' => w' = wl G v b ∧ x = some (.int (nI (cntB I.1 (fun i => hasB (b 43) (zP p + I.2.1 i) (rP p + I.2.2 i))))))) := by
    refine loopN (fun a ha ih l6 l7 => ?_)
    refine Ev.iload (pc := 9) dD_stockAt_9 rfl ?_
    refine Ev.bipush (pc := 11) (v := 8) dD_stockAt_11 (by decide) ?_
    refine Ev.iload_n (pc := 13) (i := 1) dD_stockAt_13 rfl rfl ?_
    refine Ev.imul (pc := 14) dD_stockAt_14 ?_
    refine Ev.topi (m8 j) ?_
    refine Ev.aload_n (pc := 15) (i := 0) dD_stockAt_15 rfl rfl ?_
    refine Ev.gf (pc := 16) dD_stockAt_16 fl_D_23 (by omega) (rfl) rfl ?_
    refine Ev.iload_n (pc := 19) (i := 1) dD_stockAt_19 rfl rfl ?_
    refine Ev.aldi (pc := 20) dD_stockAt_20 (by omega) (by first | exact fun _ _ => rfl | exact cell_dz hj | exact cell_dr hj | exact cell_mr hk | exact cell_sr hk) _ (rfl) (by omega) (by decide) ?_
    refine Ev.topi hn ?_
    refine Ev.iadd (pc := 21) dD_stockAt_21 ?_
    refine Ev.topi (nI_add _ _) ?_
    refine Ev.cicmp_ge (nI_toInt (by omega)) (nI_toInt (by omega)) (pc := 22) (tgt := 113) dD_stockAt_22 rfl (fun h => ?_) (fun h => ?_)
    · have e : a = I.1 := by omega
      subst e
      refine Ev.iload (pc := 113) dD_stockAt_113 rfl ?_
      exact Ev.ireturn .int dD_stockAt_115 rfl rfl (⟨rfl, rfl⟩)
    have hlt : a < I.1 := by omega
    have ih := ih hlt
    obtain ⟨d1, d2⟩ := hd a hlt
    refine Ev.iload_n (pc := 25) (i := 2) dD_stockAt_25 rfl rfl ?_
    refine Ev.callS (pc := 26) dD_stockAt_26 ks_D_89 ⟨Nat.le_of_ble_eq_true rfl, Nat.le_of_ble_eq_true rfl⟩ (ct_D_zOf _ hp) rfl rfl (Nat.le_of_ble_eq_true rfl) ?_
    rintro _ _ ⟨rfl, rfl⟩
    refine Ev.aload_n (pc := 29) (i := 0) dD_stockAt_29 rfl rfl ?_
    refine Ev.gf (pc := 30) dD_stockAt_30 fl_D_26 (by omega) (rfl) rfl ?_
    refine Ev.iload (pc := 33) dD_stockAt_33 rfl ?_
    refine Ev.aldi (pc := 35) dD_stockAt_35 (by omega) (by first | exact fun _ _ => rfl | exact cell_dz hj | exact cell_dr hj | exact cell_mr hk | exact cell_sr hk) _ (rfl) (by omega) (by decide) ?_
    refine Ev.topi d1 ?_
    refine Ev.iadd (pc := 36) dD_stockAt_36 ?_
    refine Ev.istore (pc := 37) dD_stockAt_37 (Nat.le_of_ble_eq_true rfl) ?_
    refine Ev.iload_n (pc := 39) (i := 2) dD_stockAt_39 rfl rfl ?_
    refine Ev.callS (pc := 40) dD_stockAt_40 ks_D_93 ⟨Nat.le_of_ble_eq_true rfl, Nat.le_of_ble_eq_true rfl⟩ (ct_D_rOf _ hp) rfl rfl (Nat.le_of_ble_eq_true rfl) ?_
    rintro _ _ ⟨rfl, rfl⟩
    refine Ev.aload_n (pc := 43) (i := 0) dD_stockAt_43 rfl rfl ?_
    refine Ev.gf (pc := 44) dD_stockAt_44 fl_D_29 (by omega) (rfl) rfl ?_
    refine Ev.iload (pc := 47) dD_stockAt_47 rfl ?_
    refine Ev.aldi (pc := 49) dD_stockAt_49 (by omega) (by first | exact fun _ _ => rfl | exact cell_dz hj | exact cell_dr hj | exact cell_mr hk | exact cell_sr hk) _ (rfl) (by omega) (by decide) ?_
    refine Ev.topi d2 ?_
    refine Ev.iadd (pc := 50) dD_stockAt_50 ?_
    refine Ev.istore (pc := 51) dD_stockAt_51 (Nat.le_of_ble_eq_true rfl) ?_
    refine Ev.iload (pc := 53) dD_stockAt_53 rfl ?_
    refine Ev.iload (pc := 55) dD_stockAt_55 rfl ?_
    refine Ev.callS (pc := 57) dD_stockAt_57 ks_D_104 ⟨Nat.le_of_ble_eq_true rfl, Nat.le_of_ble_eq_true rfl⟩ (ct_D_isCell _ _) rfl rfl (Nat.le_of_ble_eq_true rfl) ?_
    rintro _ _ ⟨rfl, rfl⟩
    have ih := ih (some (.int (zP p + I.2.1 a))) (some (.int (rP p + I.2.2 a)))
    refine Ev.if_eqB (pc := 60) (tgt := 107) dD_stockAt_60 rfl (fun h2 => ?_) (fun h2 => ?_)
    · have e : hasB (b 43) (zP p + I.2.1 a) (rP p + I.2.2 a) = false := by unfold hasB; rw [h2]; rfl
      rw [cntB, if_neg (by rw [e]; decide)] at ih
      refine Ev.iinc (pc := 107) dD_stockAt_107 rfl (cx_inc _) (Nat.le_of_ble_eq_true rfl) ?_
      refine Ev.goto (pc := 110) (tgt := 9) dD_stockAt_110 rfl ?_
      exact ih
    have hx := (cix_i h2).2
    refine Ev.aload_n (pc := 63) (i := 0) dD_stockAt_63 rfl rfl ?_
    refine Ev.gf (pc := 64) dD_stockAt_64 fl_D_57 (by omega) (rfl) rfl ?_
    refine Ev.bipush (pc := 67) (v := 8) dD_stockAt_67 (by decide) ?_
    refine Ev.iload (pc := 69) dD_stockAt_69 rfl ?_
    refine Ev.imul (pc := 71) dD_stockAt_71 ?_
    refine Ev.iload (pc := 72) dD_stockAt_72 rfl ?_
    refine Ev.iadd (pc := 74) dD_stockAt_74 ?_
    refine Ev.topi (cix_m h2) ?_
    refine Ev.aldb (pc := 75) dD_stockAt_75 (by omega) (by first | exact fun _ _ => rfl | exact cell_dz hj | exact cell_dr hj | exact cell_mr hk | exact cell_sr hk) _ (rfl) (by omega) (by decide) ?_
    refine Ev.if_eqB (pc := 76) (tgt := 107) dD_stockAt_76 rfl (fun h3 => ?_) (fun h3 => ?_)
    · have e : hasB (b 43) (zP p + I.2.1 a) (rP p + I.2.2 a) = false := by unfold hasB; rw [h3]; simp
      rw [cntB, if_neg (by rw [e]; decide)] at ih
      refine Ev.iinc (pc := 107) dD_stockAt_107 rfl (cx_inc _) (Nat.le_of_ble_eq_true rfl) ?_
      refine Ev.goto (pc := 110) (tgt := 9) dD_stockAt_110 rfl ?_
      exact ih
    have e : hasB (b 43) (zP p + I.2.1 a) (rP p + I.2.2 a) = true := hasB_iff.mpr ⟨h2, h3⟩
    rw [cntB, if_pos e] at ih
    refine Ev.iload (pc := 79) dD_stockAt_79 rfl ?_
    refine Ev.iconst (pc := 81) (v := 1) dD_stockAt_81 (by decide) ?_
    refine Ev.iadd (pc := 82) dD_stockAt_82 ?_
    refine Ev.topi (nI_succ _).symm ?_
    refine Ev.istore (pc := 83) dD_stockAt_83 (Nat.le_of_ble_eq_true rfl) ?_
    refine Ev.aload_n (pc := 85) (i := 0) dD_stockAt_85 rfl rfl ?_
    refine Ev.gf (pc := 86) dD_stockAt_86 fl_D_57 (by omega) (rfl) rfl ?_
    refine Ev.bipush (pc := 89) (v := 8) dD_stockAt_89 (by decide) ?_
    refine Ev.iload (pc := 91) dD_stockAt_91 rfl ?_
    refine Ev.imul (pc := 93) dD_stockAt_93 ?_
    refine Ev.iload (pc := 94) dD_stockAt_94 rfl ?_
    refine Ev.iadd (pc := 96) dD_stockAt_96 ?_
    refine Ev.topi (cix_m h2) ?_
    refine Ev.iload_n (pc := 97) (i := 3) dD_stockAt_97 rfl rfl ?_
    refine Ev.cif_ne ((show (0 : Int32).toInt = 0 from by decide)) (pc := 98) (tgt := 105) dD_stockAt_98 rfl (fun h4 => ?_) (fun h4 => ?_)
    · exact absurd rfl h4
    refine Ev.iconst (pc := 101) (v := 1) dD_stockAt_101 (by decide) ?_
    refine Ev.goto (pc := 102) (tgt := 106) dD_stockAt_102 rfl ?_
    refine Ev.astb (pc := 106) (x := true) dD_stockAt_106 (by omega) (by first | exact fun _ _ => rfl | exact cell_dz hj | exact cell_dr hj | exact cell_mr hk | exact cell_sr hk) _ (rfl) (by omega) (by decide) ?_
    refine Ev.iinc (pc := 107) dD_stockAt_107 rfl (cx_inc _) (Nat.le_of_ble_eq_true rfl) ?_
    refine Ev.goto (pc := 110) (tgt := 9) dD_stockAt_110 rfl ?_
    refine Ev.world ?_ ih
    congr 1
    rw [sb]
    have : va_up (b 43) (cix (zP p + I.2.1 a) (rP p + I.2.2 a)) true = b 43 := by
      have := up_self (b 43) (cix (zP p + I.2.1 a) (rP p + I.2.2 a))
      rw [h3] at this
      exact this
    rw [this, up_self]
  exact loop 0 (Nat.zero_le _) none none
set_option maxHeartbeats 4000000 in
set_option maxRecDepth 100000 in
theorem ct_D_stockAt_1 {I : Ins} {j p : Nat} (hj : j < 3) (hI : mi v j I) (hp : p < 320) : Ct G mD_stockAt [.ref (cxa G 30), .int (nI j), .int (nI p), .int 1] (wl G v b) (fun x w' => w' = wl G v (va_up b 43 (cutF (b 43) I.2.1 I.2.2 (zP p) (rP p) I.1).2) ∧ x = some (.int (nI (cutF (b 43) I.2.1 I.2.2 (zP p) (rP p) I.1).1))) := by
  obtain ⟨hn, h8, hd⟩ := hI
  refine Ct.of (by decide) rfl rfl (Nat.le_of_ble_eq_true rfl) ?_
  refine Ev.iconst (pc := 0) (v := 0) dD_stockAt_0 (by decide) ?_
  refine Ev.istore (pc := 1) dD_stockAt_1 (Nat.le_of_ble_eq_true rfl) ?_
  refine Ev.bipush (pc := 3) (v := 8) dD_stockAt_3 (by decide) ?_
  refine Ev.iload_n (pc := 5) (i := 1) dD_stockAt_5 rfl rfl ?_
  refine Ev.imul (pc := 6) dD_stockAt_6 ?_
  refine Ev.topi (m8 j) ?_
  refine Ev.istore (pc := 7) dD_stockAt_7 (Nat.le_of_ble_eq_true rfl) ?_
  have loop : ∀ a, a ≤ I.1 → ∀ l6 l7 : Option Value, Ev G mD_stockAt 9 [some (.ref (cxa G 30)), some (.int (nI j)), some (.int (nI p)), some (.int 1), some (.int (nI (cutF (b 43) I.2.1 I.2.2 (zP p) (rP p) a).1)), some (.int (nI (8 * j + a))), l6, l7] [] (wl G v (va_up b 43 (cutF (b 43) I.2.1 I.2.2 (zP p) (rP p) a).2)) (cx_e G mD_stockAt (fun x w' => w' = wl G v (va_up b 43 (cutF (b 43) I.2.1 I.2.2 (zP p) (rP p) I.1).2) ∧ x = some (.int (nI (cutF (b 43) I.2.1 I.2.2 (zP p) (rP p) I.1).1)))) := by
    refine loopN (fun a ha ih l6 l7 => ?_)
    refine Ev.iload (pc := 9) dD_stockAt_9 rfl ?_
    refine Ev.bipush (pc := 11) (v := 8) dD_stockAt_11 (by decide) ?_
    refine Ev.iload_n (pc := 13) (i := 1) dD_stockAt_13 rfl rfl ?_
    refine Ev.imul (pc := 14) dD_stockAt_14 ?_
    refine Ev.topi (m8 j) ?_
    refine Ev.aload_n (pc := 15) (i := 0) dD_stockAt_15 rfl rfl ?_
    refine Ev.gf (pc := 16) dD_stockAt_16 fl_D_23 (by omega) (rfl) rfl ?_
    refine Ev.iload_n (pc := 19) (i := 1) dD_stockAt_19 rfl rfl ?_
    refine Ev.aldi (pc := 20) dD_stockAt_20 (by omega) (by first | exact fun _ _ => rfl | exact cell_dz hj | exact cell_dr hj | exact cell_mr hk | exact cell_sr hk) _ (rfl) (by omega) (by decide) ?_
    refine Ev.topi hn ?_
    refine Ev.iadd (pc := 21) dD_stockAt_21 ?_
    refine Ev.topi (nI_add _ _) ?_
    refine Ev.cicmp_ge (nI_toInt (by omega)) (nI_toInt (by omega)) (pc := 22) (tgt := 113) dD_stockAt_22 rfl (fun h => ?_) (fun h => ?_)
    · have e : a = I.1 := by omega
      subst e
      refine Ev.iload (pc := 113) dD_stockAt_113 rfl ?_
      exact Ev.ireturn .int dD_stockAt_115 rfl rfl (⟨rfl, rfl⟩)
    have hlt : a < I.1 := by omega
    have ih := ih hlt
    obtain ⟨d1, d2⟩ := hd a hlt
    refine Ev.iload_n (pc := 25) (i := 2) dD_stockAt_25 rfl rfl ?_
    refine Ev.callS (pc := 26) dD_stockAt_26 ks_D_89 ⟨Nat.le_of_ble_eq_true rfl, Nat.le_of_ble_eq_true rfl⟩ (ct_D_zOf _ hp) rfl rfl (Nat.le_of_ble_eq_true rfl) ?_
    rintro _ _ ⟨rfl, rfl⟩
    refine Ev.aload_n (pc := 29) (i := 0) dD_stockAt_29 rfl rfl ?_
    refine Ev.gf (pc := 30) dD_stockAt_30 fl_D_26 (by omega) (rfl) rfl ?_
    refine Ev.iload (pc := 33) dD_stockAt_33 rfl ?_
    refine Ev.aldi (pc := 35) dD_stockAt_35 (by omega) (by first | exact fun _ _ => rfl | exact cell_dz hj | exact cell_dr hj | exact cell_mr hk | exact cell_sr hk) _ (rfl) (by omega) (by decide) ?_
    refine Ev.topi d1 ?_
    refine Ev.iadd (pc := 36) dD_stockAt_36 ?_
    refine Ev.istore (pc := 37) dD_stockAt_37 (Nat.le_of_ble_eq_true rfl) ?_
    refine Ev.iload_n (pc := 39) (i := 2) dD_stockAt_39 rfl rfl ?_
    refine Ev.callS (pc := 40) dD_stockAt_40 ks_D_93 ⟨Nat.le_of_ble_eq_true rfl, Nat.le_of_ble_eq_true rfl⟩ (ct_D_rOf _ hp) rfl rfl (Nat.le_of_ble_eq_true rfl) ?_
    rintro _ _ ⟨rfl, rfl⟩
    refine Ev.aload_n (pc := 43) (i := 0) dD_stockAt_43 rfl rfl ?_
    refine Ev.gf (pc := 44) dD_stockAt_44 fl_D_29 (by omega) (rfl) rfl ?_
    refine Ev.iload (pc := 47) dD_stockAt_47 rfl ?_
    refine Ev.aldi (pc := 49) dD_stockAt_49 (by omega) (by first | exact fun _ _ => rfl | exact cell_dz hj | exact cell_dr hj | exact cell_mr hk | exact cell_sr hk) _ (rfl) (by omega) (by decide) ?_
    refine Ev.topi d2 ?_
    refine Ev.iadd (pc := 50) dD_stockAt_50 ?_
    refine Ev.istore (pc := 51) dD_stockAt_51 (Nat.le_of_ble_eq_true rfl) ?_
    refine Ev.iload (pc := 53) dD_stockAt_53 rfl ?_
    refine Ev.iload (pc := 55) dD_stockAt_55 rfl ?_
    refine Ev.callS (pc := 57) dD_stockAt_57 ks_D_104 ⟨Nat.le_of_ble_eq_true rfl, Nat.le_of_ble_eq_true rfl⟩ (ct_D_isCell _ _) rfl rfl (Nat.le_of_ble_eq_true rfl) ?_
    rintro _ _ ⟨rfl, rfl⟩
    have ih := ih (some (.int (zP p + I.2.1 a))) (some (.int (rP p + I.2.2 a)))
    refine Ev.if_eqB (pc := 60) (tgt := 107) dD_stockAt_60 rfl (fun h2 => ?_) (fun h2 => ?_)
    · have e : (cutF (b 43) I.2.1 I.2.2 (zP p) (rP p) (a + 1)) = (cutF (b 43) I.2.1 I.2.2 (zP p) (rP p) a) := by rw [cutF, if_neg]; unfold hasB; rw [h2]; simp
      rw [e] at ih
      refine Ev.iinc (pc := 107) dD_stockAt_107 rfl (cx_inc _) (Nat.le_of_ble_eq_true rfl) ?_
      refine Ev.goto (pc := 110) (tgt := 9) dD_stockAt_110 rfl ?_
      exact ih
    have hx := (cix_i h2).2
    refine Ev.aload_n (pc := 63) (i := 0) dD_stockAt_63 rfl rfl ?_
    refine Ev.gf (pc := 64) dD_stockAt_64 fl_D_57 (by omega) (rfl) rfl ?_
    refine Ev.bipush (pc := 67) (v := 8) dD_stockAt_67 (by decide) ?_
    refine Ev.iload (pc := 69) dD_stockAt_69 rfl ?_
    refine Ev.imul (pc := 71) dD_stockAt_71 ?_
    refine Ev.iload (pc := 72) dD_stockAt_72 rfl ?_
    refine Ev.iadd (pc := 74) dD_stockAt_74 ?_
    refine Ev.topi (cix_m h2) ?_
    refine Ev.aldb (pc := 75) dD_stockAt_75 (by omega) (by first | exact fun _ _ => rfl | exact cell_dz hj | exact cell_dr hj | exact cell_mr hk | exact cell_sr hk) _ (rfl) (by omega) (by decide) ?_
    rw [up_at]
    refine Ev.if_eqB (pc := 76) (tgt := 107) dD_stockAt_76 rfl (fun h3 => ?_) (fun h3 => ?_)
    · have e : (cutF (b 43) I.2.1 I.2.2 (zP p) (rP p) (a + 1)) = (cutF (b 43) I.2.1 I.2.2 (zP p) (rP p) a) := by rw [cutF, if_neg]; unfold hasB; rw [h3]; simp
      rw [e] at ih
      refine Ev.iinc (pc := 107) dD_stockAt_107 rfl (cx_inc _) (Nat.le_of_ble_eq_true rfl) ?_
      refine Ev.goto (pc := 110) (tgt := 9) dD_stockAt_110 rfl ?_
      exact ih
    have e : (cutF (b 43) I.2.1 I.2.2 (zP p) (rP p) (a + 1)) = ((cutF (b 43) I.2.1 I.2.2 (zP p) (rP p) a).1 + 1, va_up (cutF (b 43) I.2.1 I.2.2 (zP p) (rP p) a).2 (cix (zP p + I.2.1 a) (rP p + I.2.2 a)) false) := by rw [cutF, if_pos (hasB_iff.mpr ⟨h2, h3⟩)]
    rw [e] at ih
    refine Ev.iload (pc := 79) dD_stockAt_79 rfl ?_
    refine Ev.iconst (pc := 81) (v := 1) dD_stockAt_81 (by decide) ?_
    refine Ev.iadd (pc := 82) dD_stockAt_82 ?_
    refine Ev.topi (nI_succ _).symm ?_
    refine Ev.istore (pc := 83) dD_stockAt_83 (Nat.le_of_ble_eq_true rfl) ?_
    refine Ev.aload_n (pc := 85) (i := 0) dD_stockAt_85 rfl rfl ?_
    refine Ev.gf (pc := 86) dD_stockAt_86 fl_D_57 (by omega) (rfl) rfl ?_
    refine Ev.bipush (pc := 89) (v := 8) dD_stockAt_89 (by decide) ?_
    refine Ev.iload (pc := 91) dD_stockAt_91 rfl ?_
    refine Ev.imul (pc := 93) dD_stockAt_93 ?_
    refine Ev.iload (pc := 94) dD_stockAt_94 rfl ?_
    refine Ev.iadd (pc := 96) dD_stockAt_96 ?_
    refine Ev.topi (cix_m h2) ?_
    refine Ev.iload_n (pc := 97) (i := 3) dD_stockAt_97 rfl rfl ?_
    refine Ev.cif_ne ((show (1 : Int32).toInt = 1 from by decide)) (pc := 98) (tgt := 105) dD_stockAt_98 rfl (fun h4 => ?_) (fun h4 => ?_)
    · refine Ev.iconst (pc := 105) (v := 0) dD_stockAt_105 (by decide) ?_
      refine Ev.astb (pc := 106) (x := false) dD_stockAt_106 (by omega) (by first | exact fun _ _ => rfl | exact cell_dz hj | exact cell_dr hj | exact cell_mr hk | exact cell_sr hk) _ (rfl) (by omega) (by decide) ?_
      refine Ev.iinc (pc := 107) dD_stockAt_107 rfl (cx_inc _) (Nat.le_of_ble_eq_true rfl) ?_
      refine Ev.goto (pc := 110) (tgt := 9) dD_stockAt_110 rfl ?_
      refine Ev.world ?_ ih
      congr 1
      rw [sb, up_up, up_at]
    · omega
  have := loop 0 (Nat.zero_le _) none none
  have e : va_up b 43 (b 43) = b := up_self b _
  rw [show (cutF (b 43) I.2.1 I.2.2 (zP p) (rP p) 0) = (0, b 43) from rfl] at this
  simp only [e] at this
  exact this
end Md2
