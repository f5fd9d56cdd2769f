/-! The reference: what is in reach -/
def inRF (C : Int32) (sy : Nat → Int32) (I : Ins) (q : Nat) : Bool := decide (0 < I.1) && okI C sy I q
section Md3
variable {G : cx_G} {v : Nat → Nat → Int32} {b : Nat → Nat → Bool}
set_option maxHeartbeats 4000000 in
set_option maxRecDepth 100000 in
theorem ct_D_findReach {C : Int32} {sy : Nat → Int32} {I : Ins} {j : Nat} (hj : j < 3) (hI : mi v j I) (hB : mb v C sy) (hC0 : 0 ≤ C.toInt) (hs : smallI I.1 I.2.1 I.2.2) (hy : ∀ j, j < 12 → (sy j).toInt ≤ 8) : Ct G mD_findReach [.ref (cxa G 30), .int (nI j)] (wl G v b) (fun x w' => ∃ b', w' = wl G v b' ∧ x = none ∧ (∀ p, p ≠ 44 → b' p = b p) ∧ ∀ q, q < 320 → b' 44 q = inRF C sy I q) := by
  have hnI : (v 32 j).toInt = (I.1 : Int) := by rw [hI.1]; exact nI_toInt (by have := hI.2.1; omega)
  have e15 : pnum (-4) 15 = 15 := by decide
  refine Ct.of (by decide) rfl rfl (Nat.le_of_ble_eq_true rfl) ?_
  refine Ev.iconst (pc := 0) (v := 0) dD_findReach_0 (by decide) ?_
  refine Ev.istore_n (pc := 1) (i := 2) dD_findReach_1 rfl (Nat.le_of_ble_eq_true rfl) ?_
  have done : ∀ (b' : Nat → Nat → Bool) (l3 l4 l5 : Option Value), (∀ q, q ≠ 44 → b' q = b q) ∧ (∀ q, q < 320 → b' 44 q = true → okI C sy I q = true ∧ 0 < I.1) ∧ (0 < I.1 → b' 44 15 = true) → (∀ p d q, b' 44 p = true → nxt p d = some q → okI C sy I q = true → b' 44 q = true) → Ev G mD_findReach 48 [some (.ref (cxa G 30)), some (.int (nI j)), some (.int (bI false)), l3, l4, l5] [] (wl G v b') (cx_e G mD_findReach (fun x w' => ∃ b', w' = wl G v b' ∧ x = none ∧ (∀ p, p ≠ 44 → b' p = b p) ∧ ∀ q, q < 320 → b' 44 q = inRF C sy I q)) := by
    intro b' l3 l4 l5 hv hcl
    refine Ev.iload_n (pc := 48) (i := 2) dD_findReach_48 rfl rfl ?_
    refine Ev.if_eqB (pc := 49) (tgt := 139) dD_findReach_49 rfl (fun h1 => ?_) (fun h1 => ?_)
    · refine Ev.vreturn dD_findReach_139 rfl ⟨b', rfl, rfl, hv.1, fun q hq => ?_⟩
      unfold inRF
      by_cases h0 : 0 < I.1
      · rw [decide_eq_true h0]
        have all := reach_all (ok := okI C sy I) (F := b' 44) (fun p hp ho hr => safeP_up hs p hp ho hr) (fun p hp hr ho h16 => safeP_left hs hy p hp hr ho h16) (hv.2.2 h0) hcl
        cases ho : okI C sy I q with
        | true => exact all q hq ho
        | false =>
          cases hf : b' 44 q with
          | false => rfl
          | true => rw [(hv.2.1 q hq hf).1] at ho; cases ho
      · rw [decide_eq_false h0]
        cases hf : b' 44 q with
        | false => rfl
        | true => exact absurd (hv.2.1 q hq hf).2 h0
    · cases h1
  have pass : ∀ (m : Nat) (b' : Nat → Nat → Bool) (l3 l4 l5 : Option Value), 320 - cntB 320 (b' 44) ≤ m → (∀ q, q ≠ 44 → b' q = b q) ∧ (∀ q, q < 320 → b' 44 q = true → okI C sy I q = true ∧ 0 < I.1) ∧ (0 < I.1 → b' 44 15 = true) → Ev G mD_findReach 48 [some (.ref (cxa G 30)), some (.int (nI j)), some (.int (bI true)), l3, l4, l5] [] (wl G v b') (cx_e G mD_findReach (fun x w' => ∃ b', w' = wl G v b' ∧ x = none ∧ (∀ p, p ≠ 44 → b' p = b p) ∧ ∀ q, q < 320 → b' 44 q = inRF C sy I q)) := by
    intro m
    induction m using Nat.strongRecOn with
    | ind m ihm =>
      intro b' l3 l4 l5 hm hv
      refine Ev.iload_n (pc := 48) (i := 2) dD_findReach_48 rfl rfl ?_
      refine Ev.if_eqB (pc := 49) (tgt := 139) dD_findReach_49 rfl (fun h1 => ?_) (fun h1 => ?_)
      · cases h1
      refine Ev.iconst (pc := 52) (v := 0) dD_findReach_52 (by decide) ?_
      refine Ev.istore_n (pc := 53) (i := 2) dD_findReach_53 rfl (Nat.le_of_ble_eq_true rfl) ?_
      refine Ev.iconst (pc := 54) (v := 0) dD_findReach_54 (by decide) ?_
      refine Ev.istore_n (pc := 55) (i := 3) dD_findReach_55 rfl (Nat.le_of_ble_eq_true rfl) ?_
      have ploop : ∀ p, p ≤ 320 → ∀ (b2 : Nat → Nat → Bool) (mo : Bool) (l4 l5 : Option Value), (∃ d, d = 0 ∧ (∀ q, q ≠ 44 → b2 q = b q) ∧ (∀ q, q < 320 → b2 44 q = true → okI C sy I q = true ∧ 0 < I.1) ∧ (∀ q, q < 320 → b' 44 q = true → b2 44 q = true) ∧ (mo = true → ∃ q, q < 320 ∧ b2 44 q = true ∧ b' 44 q = false) ∧ (mo = false → (∀ q, q < 320 → b2 44 q = b' 44 q) ∧ ∀ p' d', (p' < p ∨ (p' = p ∧ d' < d)) → ∀ q, b' 44 p' = true → nxt p' d' = some q → okI C sy I q = true → b' 44 q = true)) → Ev G mD_findReach 56 [some (.ref (cxa G 30)), some (.int (nI j)), some (.int (bI mo)), some (.int (nI p)), l4, l5] [] (wl G v b2) (cx_e G mD_findReach (fun x w' => ∃ b', w' = wl G v b' ∧ x = none ∧ (∀ p, p ≠ 44 → b' p = b p) ∧ ∀ q, q < 320 → b' 44 q = inRF C sy I q)) := by
        refine loopN (fun p hp ihp b2 mo l4 l5 hin => ?_)
        obtain ⟨d0, hd0, hin⟩ := hin
        subst hd0
        refine Ev.iload_n (pc := 56) (i := 3) dD_findReach_56 rfl rfl ?_
        refine Ev.sipush (pc := 57) (v := 320) dD_findReach_57 (by decide) ?_
        refine Ev.cicmp_ge (nI_toInt (by omega)) ((show (320 : Int32).toInt = 320 from by decide)) (pc := 60) (tgt := 136) dD_findReach_60 rfl (fun h2 => ?_) (fun h2 => ?_)
        · have ep : p = 320 := by omega
          subst ep
          refine Ev.goto (pc := 136) (tgt := 48) dD_findReach_136 rfl ?_
          obtain ⟨i1, i2, i3, i4, i5⟩ := hin
          have hv2 : ∀ b', b' = b2 → (∀ q, q ≠ 44 → b' q = b q) ∧ (∀ q, q < 320 → b' 44 q = true → okI C sy I q = true ∧ 0 < I.1) ∧ (0 < I.1 → b' 44 15 = true) := fun b' e => by subst e; exact ⟨i1, i2, fun h0 => i3 15 (by decide) (hv.2.2 h0)⟩
          cases mo with
          | true =>
            have hlt := cntB_lt (n := 320) i3 (i4 rfl)
            have hle := cntB_le (n := 320) (f := b2 44)
            exact ihm (320 - cntB 320 (b2 44)) (by omega) b2 _ _ _ (Nat.le_refl _) (hv2 b2 rfl)
          | false =>
            obtain ⟨j1, j2⟩ := i5 rfl
            refine done b2 _ _ _ (hv2 b2 rfl) (fun p d q a1 a2 a3 => ?_)
            obtain ⟨n1, n2, n3⟩ := nxt_lt a2
            rw [j1 p n1] at a1
            rw [j1 q n2]
            exact j2 p d (Or.inl n1) q a1 a2 a3
        have hplt : p < 320 := by omega
        refine Ev.iconst (pc := 63) (v := 0) dD_findReach_63 (by decide) ?_
        refine Ev.istore (pc := 64) dD_findReach_64 (Nat.le_of_ble_eq_true rfl) ?_
        have dloop : ∀ d, d ≤ 4 → ∀ (b2 : Nat → Nat → Bool) (mo : Bool) (l5 : Option Value), (∀ q, q ≠ 44 → b2 q = b q) ∧ (∀ q, q < 320 → b2 44 q = true → okI C sy I q = true ∧ 0 < I.1) ∧ (∀ q, q < 320 → b' 44 q = true → b2 44 q = true) ∧ (mo = true → ∃ q, q < 320 ∧ b2 44 q = true ∧ b' 44 q = false) ∧ (mo = false → (∀ q, q < 320 → b2 44 q = b' 44 q) ∧ ∀ p' d', (p' < p ∨ (p' = p ∧ d' < d)) → ∀ q, b' 44 p' = true → nxt p' d' = some q → okI C sy I q = true → b' 44 q = true) → Ev G mD_findReach 66 [some (.ref (cxa G 30)), some (.int (nI j)), some (.int (bI mo)), some (.int (nI p)), some (.int (nI d)), l5] [] (wl G v b2) (cx_e G mD_findReach (fun x w' => ∃ b', w' = wl G v b' ∧ x = none ∧ (∀ p, p ≠ 44 → b' p = b p) ∧ ∀ q, q < 320 → b' 44 q = inRF C sy I q)) := by
          refine loopN (fun d hd ihd b2 mo l5 hin => ?_)
          refine Ev.iload (pc := 66) dD_findReach_66 rfl ?_
          refine Ev.iconst (pc := 68) (v := 4) dD_findReach_68 (by decide) ?_
          refine Ev.cicmp_ge (nI_toInt (by omega)) ((show (4 : Int32).toInt = 4 from by decide)) (pc := 69) (tgt := 130) dD_findReach_69 rfl (fun h3 => ?_) (fun h3 => ?_)
          · have e4 : d = 4 := by omega
            subst e4
            refine Ev.iinc (pc := 130) dD_findReach_130 rfl (cx_inc _) (Nat.le_of_ble_eq_true rfl) ?_
            refine Ev.goto (pc := 133) (tgt := 56) dD_findReach_133 rfl ?_
            obtain ⟨i1, i2, i3, i4, i5⟩ := hin
            refine ihp hplt b2 mo _ _ ⟨0, rfl, i1, i2, i3, i4, fun hmo => ⟨(i5 hmo).1, fun p' d' hpd q a1 a2 a3 => ?_⟩⟩
            have := (nxt_lt a2).2.2
            exact (i5 hmo).2 p' d' (by omega) q a1 a2 a3
          have hd4 : d < 4 := by omega
          have ihd := ihd hd4
          obtain ⟨i1, i2, i3, i4, i5⟩ := hin
          have skip : ∀ (l5 : Option Value), (∀ q, b2 44 p = true → nxt p d = some q → okI C sy I q = true → b2 44 q = true) → Ev G mD_findReach 124 [some (.ref (cxa G 30)), some (.int (nI j)), some (.int (bI mo)), some (.int (nI p)), some (.int (nI d)), l5] [] (wl G v b2) (cx_e G mD_findReach (fun x w' => ∃ b', w' = wl G v b' ∧ x = none ∧ (∀ p, p ≠ 44 → b' p = b p) ∧ ∀ q, q < 320 → b' 44 q = inRF C sy I q)) := by
            intro l5 hsk
            refine Ev.iinc (pc := 124) dD_findReach_124 rfl (cx_inc _) (Nat.le_of_ble_eq_true rfl) ?_
            refine Ev.goto (pc := 127) (tgt := 66) dD_findReach_127 rfl ?_
            refine ihd b2 mo _ ⟨i1, i2, i3, i4, fun hmo => ⟨(i5 hmo).1, fun p' d' hpd q a1 a2 a3 => ?_⟩⟩
            by_cases e : p' = p ∧ d' = d
            · obtain ⟨rfl, rfl⟩ := e
              have hq := (nxt_lt a2).2.1
              rw [← (i5 hmo).1 q hq]
              exact hsk q (by rw [(i5 hmo).1 _ hplt]; exact a1) a2 a3
            · exact (i5 hmo).2 p' d' (by omega) q a1 a2 a3
          refine Ev.iload_n (pc := 72) (i := 3) dD_findReach_72 rfl rfl ?_
          refine Ev.iload (pc := 73) dD_findReach_73 rfl ?_
          refine Ev.callS (pc := 75) dD_findReach_75 ks_D_110 ⟨Nat.le_of_ble_eq_true rfl, Nat.le_of_ble_eq_true rfl⟩ (ct_D_next hplt hd4) rfl rfl (Nat.le_of_ble_eq_true rfl) ?_
          rintro _ _ ⟨rfl, rfl⟩
          refine Ev.istore (pc := 78) dD_findReach_78 (Nat.le_of_ble_eq_true rfl) ?_
          refine Ev.aload_n (pc := 80) (i := 0) dD_findReach_80 rfl rfl ?_
          refine Ev.gf (pc := 81) dD_findReach_81 fl_D_60 (by omega) (rfl) rfl ?_
          refine Ev.iload_n (pc := 84) (i := 3) dD_findReach_84 rfl rfl ?_
          refine Ev.aldb (pc := 85) dD_findReach_85 (by omega) (by first | exact fun _ _ => rfl | exact cell_dz hj | exact cell_dr hj | exact cell_mr hk | exact cell_sr hk) _ (rfl) (by omega) (by decide) ?_
          refine Ev.if_eqB (pc := 86) (tgt := 124) dD_findReach_86 rfl (fun h4 => ?_) (fun h4 => ?_)
          · exact skip _ (fun q a1 => by rw [h4] at a1; cases a1)
          cases hn : nxt p d with
          | none =>
            have e : nxI p d = -1 := by unfold nxI; rw [hn]
            rw [e]
            refine Ev.iload (pc := 89) dD_findReach_89 rfl ?_
            refine Ev.cif_lt ((show (-1 : Int32).toInt = -1 from by decide)) (pc := 91) (tgt := 124) dD_findReach_91 rfl (fun h5 => ?_) (fun h5 => ?_)
            · exact skip _ (fun q _ a2 => by rw [hn] at a2; cases a2)
            · omega
          | some q =>
            have e : nxI p d = nI q := by unfold nxI; rw [hn]
            have hq := (nxt_lt hn).2.1
            rw [e]
            refine Ev.iload (pc := 89) dD_findReach_89 rfl ?_
            refine Ev.cif_lt (nI_toInt (by omega)) (pc := 91) (tgt := 124) dD_findReach_91 rfl (fun h5 => ?_) (fun h5 => ?_)
            · omega
            refine Ev.aload_n (pc := 94) (i := 0) dD_findReach_94 rfl rfl ?_
            refine Ev.gf (pc := 95) dD_findReach_95 fl_D_60 (by omega) (rfl) rfl ?_
            refine Ev.iload (pc := 98) dD_findReach_98 rfl ?_
            refine Ev.aldb (pc := 100) dD_findReach_100 (by omega) (by first | exact fun _ _ => rfl | exact cell_dz hj | exact cell_dr hj | exact cell_mr hk | exact cell_sr hk) _ (rfl) (by omega) (by decide) ?_
            refine Ev.if_neB (pc := 101) (tgt := 124) dD_findReach_101 rfl (fun h6 => ?_) (fun h6 => ?_)
            · exact skip _ (fun q' _ a2 _ => by rw [hn] at a2; cases a2; exact h6)
            refine Ev.aload_n (pc := 104) (i := 0) dD_findReach_104 rfl rfl ?_
            refine Ev.iload_n (pc := 105) (i := 1) dD_findReach_105 rfl rfl ?_
            refine Ev.iload (pc := 106) dD_findReach_106 rfl ?_
            refine Ev.callV (pc := 108) dD_findReach_108 kv_D_113 ⟨Nat.le_of_ble_eq_true rfl, Nat.le_of_ble_eq_true rfl⟩ (wl_at (by decide) rfl) rfl rfl (ct_D_isSafe hj hI hB hq) rfl rfl (Nat.le_of_ble_eq_true rfl) ?_
            rintro _ _ ⟨rfl, rfl⟩
            refine Ev.if_eqB (pc := 111) (tgt := 124) dD_findReach_111 rfl (fun h7 => ?_) (fun h7 => ?_)
            · exact skip _ (fun q' _ a2 a3 => by rw [hn] at a2; cases a2; rw [h7] at a3; cases a3)
            refine Ev.aload_n (pc := 114) (i := 0) dD_findReach_114 rfl rfl ?_
            refine Ev.gf (pc := 115) dD_findReach_115 fl_D_60 (by omega) (rfl) rfl ?_
            refine Ev.iload (pc := 118) dD_findReach_118 rfl ?_
            refine Ev.iconst (pc := 120) (v := 1) dD_findReach_120 (by decide) ?_
            refine Ev.astb (pc := 121) (x := true) dD_findReach_121 (by omega) (by first | exact fun _ _ => rfl | exact cell_dz hj | exact cell_dr hj | exact cell_mr hk | exact cell_sr hk) _ (rfl) (by omega) (by decide) ?_
            refine Ev.iconst (pc := 122) (v := 1) dD_findReach_122 (by decide) ?_
            refine Ev.istore_n (pc := 123) (i := 2) dD_findReach_123 rfl (Nat.le_of_ble_eq_true rfl) ?_
            refine Ev.iinc (pc := 124) dD_findReach_124 rfl (cx_inc _) (Nat.le_of_ble_eq_true rfl) ?_
            refine Ev.goto (pc := 127) (tgt := 66) dD_findReach_127 rfl ?_
            have hnew : ∀ z, sb b2 44 q true 44 z = true ↔ (z = q ∨ b2 44 z = true) := fun z => by
              by_cases e : z = q
              · subst e; rw [sb_eq]; simp
              · rw [sb_k e]; simp [e]
            refine ihd _ true _ ⟨fun z hz => by rw [sb_p hz]; exact i1 z hz, fun z hz hz2 => ?_, fun z hz hz2 => (hnew z).mpr (Or.inr (i3 z hz hz2)), fun _ => ⟨q, hq, (hnew q).mpr (Or.inl rfl), ?_⟩, fun e => (by cases e)⟩
            · rcases (hnew z).mp hz2 with rfl | h8
              · exact ⟨h7, (i2 p hplt h4).2⟩
              · exact i2 z hz h8
            · cases hf : b' 44 q with
              | false => rfl
              | true => rw [i3 q hq hf] at h6; cases h6
        exact dloop 0 (by decide) b2 mo _ hin
      exact ploop 0 (by decide) b' false _ _ ⟨0, rfl, hv.1, hv.2.1, fun q _ h => h, fun e => (by cases e), fun _ => ⟨fun q _ => rfl, fun p' d' h => by omega⟩⟩
  have init : ∀ i, i ≤ 320 → Ev G mD_findReach 2 [some (.ref (cxa G 30)), some (.int (nI j)), some (.int (nI i)), none, none, none] [] (wl G v (va_up b 44 (fun q => if q < i then (decide (q = 15) && decide (0 < I.1)) else b 44 q))) (cx_e G mD_findReach (fun x w' => ∃ b', w' = wl G v b' ∧ x = none ∧ (∀ p, p ≠ 44 → b' p = b p) ∧ ∀ q, q < 320 → b' 44 q = inRF C sy I q)) := by
    refine loopN (fun i hi ih => ?_)
    refine Ev.iload_n (pc := 2) (i := 2) dD_findReach_2 rfl rfl ?_
    refine Ev.sipush (pc := 3) (v := 320) dD_findReach_3 (by decide) ?_
    refine Ev.cicmp_ge (nI_toInt (by omega)) ((show (320 : Int32).toInt = 320 from by decide)) (pc := 6) (tgt := 46) dD_findReach_6 rfl (fun h => ?_) (fun h => ?_)
    · have e : i = 320 := by omega
      subst e
      refine Ev.iconst (pc := 46) (v := 1) dD_findReach_46 (by decide) ?_
      refine Ev.istore_n (pc := 47) (i := 2) dD_findReach_47 rfl (Nat.le_of_ble_eq_true rfl) ?_
      refine pass 320 _ _ _ _ (by omega) ⟨fun q hq => by rw [up_ne hq], fun q hq hq2 => ?_, fun h0 => ?_⟩
      · rw [up_at, if_pos hq, Bool.and_eq_true] at hq2
        have e15 := of_decide_eq_true hq2.1
        subst e15
        exact ⟨home_ok hC0 hs, of_decide_eq_true hq2.2⟩
      · rw [up_at, if_pos (by decide), decide_eq_true h0]
        rfl
    have hlt : i < 320 := by omega
    have fin : ∀ x : Bool, (decide (i = 15) && decide (0 < I.1)) = x → Ev G mD_findReach 39 [some (.ref (cxa G 30)), some (.int (nI j)), some (.int (nI i)), none, none, none] [.int (bI x), .int (nI i), .ref (cxa G 44)] (wl G v (va_up b 44 (fun q => if q < i then (decide (q = 15) && decide (0 < I.1)) else b 44 q))) (cx_e G mD_findReach (fun x w' => ∃ b', w' = wl G v b' ∧ x = none ∧ (∀ p, p ≠ 44 → b' p = b p) ∧ ∀ q, q < 320 → b' 44 q = inRF C sy I q)) := by
      intro x hx
      refine Ev.astb (pc := 39) dD_findReach_39 (by omega) (by first | exact fun _ _ => rfl | exact cell_dz hj | exact cell_dr hj | exact cell_mr hk | exact cell_sr hk) _ (rfl) (by omega) (by decide) ?_
      refine Ev.iinc (pc := 40) dD_findReach_40 rfl (cx_inc _) (Nat.le_of_ble_eq_true rfl) ?_
      refine Ev.goto (pc := 43) (tgt := 2) dD_findReach_43 rfl ?_
      refine Ev.world ?_ (ih hlt)
      congr 1
      rw [sb, up_up, up_at]
      congr 1
      funext z
      unfold va_up
      by_cases e : z = i
      · subst e
        rw [if_pos rfl, if_pos (by omega), hx]
      · rw [if_neg e]
        show (if z < i then (decide (z = 15) && decide (0 < I.1)) else b 44 z) = _
        by_cases e2 : z < i
        · rw [if_pos e2, if_pos (by omega)]
        · rw [if_neg e2, if_neg (by omega)]
    refine Ev.aload_n (pc := 9) (i := 0) dD_findReach_9 rfl rfl ?_
    refine Ev.gf (pc := 10) dD_findReach_10 fl_D_60 (by omega) (rfl) rfl ?_
    refine Ev.iload_n (pc := 13) (i := 2) dD_findReach_13 rfl rfl ?_
    refine Ev.iload_n (pc := 14) (i := 2) dD_findReach_14 rfl rfl ?_
    refine Ev.bipush (pc := 15) (v := (-4)) dD_findReach_15 (by decide) ?_
    refine Ev.bipush (pc := 17) (v := 15) dD_findReach_17 (by decide) ?_
    refine Ev.callS (pc := 19) dD_findReach_19 ks_D_100 ⟨Nat.le_of_ble_eq_true rfl, Nat.le_of_ble_eq_true rfl⟩ (ct_D_number (z := -4) (r := 15) (by decide)) rfl rfl (Nat.le_of_ble_eq_true rfl) ?_
    rintro _ _ ⟨rfl, rfl⟩
    rw [e15]
    refine Ev.cicmp_ne (nI_toInt (by omega)) (nI_toInt (by omega)) (pc := 22) (tgt := 38) dD_findReach_22 rfl (fun h2 => ?_) (fun h2 => ?_)
    · refine Ev.iconst (pc := 38) (v := 0) dD_findReach_38 (by decide) ?_
      exact fin false (by rw [decide_eq_false (by omega)]; rfl)
    refine Ev.aload_n (pc := 25) (i := 0) dD_findReach_25 rfl rfl ?_
    refine Ev.gf (pc := 26) dD_findReach_26 fl_D_23 (by omega) (rfl) rfl ?_
    refine Ev.iload_n (pc := 29) (i := 1) dD_findReach_29 rfl rfl ?_
    refine Ev.aldi (pc := 30) dD_findReach_30 (by omega) (by first | exact fun _ _ => rfl | exact cell_dz hj | exact cell_dr hj | exact cell_mr hk | exact cell_sr hk) _ (rfl) (by omega) (by decide) ?_
    refine Ev.cif_le (hnI) (pc := 31) (tgt := 38) dD_findReach_31 rfl (fun h3 => ?_) (fun h3 => ?_)
    · refine Ev.iconst (pc := 38) (v := 0) dD_findReach_38 (by decide) ?_
      exact fin false (by rw [decide_eq_false (p := 0 < I.1) (by omega)]; simp)
    · refine Ev.iconst (pc := 34) (v := 1) dD_findReach_34 (by decide) ?_
      refine Ev.goto (pc := 35) (tgt := 39) dD_findReach_35 rfl ?_
      exact fin true (by rw [decide_eq_true (p := i = 15) (by omega), decide_eq_true (p := 0 < I.1) (by omega)]; rfl)
  have := init 0 (Nat.zero_le _)
  simp only [Nat.not_lt_zero, if_false] at this
  rw [up_self] at this
  exact this
end Md3
