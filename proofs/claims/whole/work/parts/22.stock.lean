/-! Stock -/
theorem up_at {α : Type} (f : Nat → α) (p : Nat) (x : α) : va_up f p x p = x := by simp [va_up]
theorem up_ne {α : Type} {f : Nat → α} {p q : Nat} {x : α} (h : q ≠ p) : va_up f p x q = f q := by simp [va_up, h]
theorem up_up {α : Type} (f : Nat → α) (p : Nat) (x y : α) : va_up (va_up f p x) p y = va_up f p y := bx_uu f p x y
theorem cix_i {z r : Int32} (h : cellB z r = true) : z * 8 + r = nI (cix z r) ∧ cix z r < 96 := by
  obtain ⟨h1, h2, h3, h4⟩ := cellB_iff.mp h
  refine ⟨?_, by unfold cix; omega⟩
  have e8 : (8 : Int32) = nI 8 := by decide
  rw [nI_nat h1, nI_nat h3, e8, pk_mul, nI_add]
  unfold cix
  rw [← nI_nat h1, ← nI_nat h3]
  exact congrArg nI (by omega)
theorem hasB_iff {X : Nat → Bool} {z r : Int32} : hasB X z r = true ↔ cellB z r = true ∧ X (cix z r) = true := by simp [hasB]
theorem c8_div {c : Nat} (h : c < 96) : nI c / 8 = nI (c / 8) := by
  have e8 : (8 : Int32) = nI 8 := by decide
  rw [e8, pk_div (by omega) (by decide) (by decide)]
theorem c8_rem {c : Nat} (h : c < 96) : nI c - nI c / 8 * 8 = nI (c % 8) := by
  have e8 : (8 : Int32) = nI 8 := by decide
  rw [e8, pk_rem (by omega) (by decide) (by decide)]
def fillM (rd ln : Int32) (f : Nat → Bool) (i : Nat) : Nat → Bool := fun z => if z < i then fillB rd ln z else f z
theorem fillM_0 {rd ln : Int32} {f : Nat → Bool} : fillM rd ln f 0 = f := by funext z; simp [fillM]
theorem fillM_s {rd ln : Int32} {f : Nat → Bool} {i : Nat} : va_up (fillM rd ln f i) i (fillB rd ln i) = fillM rd ln f (i + 1) := by
  funext z
  unfold fillM va_up
  by_cases h : z = i
  · subst h; simp
  · by_cases h2 : z < i
    · have h3 : z < i + 1 := by omega
      simp [h, h2, h3]
    · have h3 : ¬ z < i + 1 := by omega
      simp [h, h2, h3]
section Stk
variable {G : cx_G} {v : Nat → Nat → Int32} {b : Nat → Nat → Bool}
set_option maxHeartbeats 4000000 in
set_option maxRecDepth 100000 in
theorem ct_S_fillFrom {w : List va_E} {rd ln ch : Int32} {so sa : Nat} {f : Nat → Bool} (hw : w[1]? = some (.inr (0, [.int rd, .int ln, .int ch, .ref (cxa G 2)]))) (hs : w[so]? = some (.inr (6, [.ref (cxa G sa)]))) (ha : w[sa]? = some (.inl (cxC G 1, 96, .inl (fun j => bI (f j))))) (h1 : sa ≠ 1) (h2 : sa ≠ so) : Ct G mS_fillFrom [.ref (cxa G so), .ref (cxa G 1)] w (fun x w' => w' = w.set sa (.inl (cxC G 1, 96, .inl (fun j => bI (fillM rd ln f 96 j)))) ∧ x = none) := by
  have hl : sa < w.length := (List.getElem?_eq_some_iff.mp ha).1
  refine Ct.of (by decide) rfl rfl (Nat.le_of_ble_eq_true rfl) ?_
  refine Ev.iconst (pc := 0) (v := 0) dS_fillFrom_0 (by decide) ?_
  refine Ev.istore_n (pc := 1) (i := 2) dS_fillFrom_1 rfl (Nat.le_of_ble_eq_true rfl) ?_
  have loop : ∀ i, i ≤ 96 → Ev G mS_fillFrom 2 [some (.ref (cxa G so)), some (.ref (cxa G 1)), some (.int (nI i))] [] (w.set sa (.inl (cxC G 1, 96, .inl (fun j => bI (fillM rd ln f i j))))) (cx_e G mS_fillFrom (fun x w' => w' = w.set sa (.inl (cxC G 1, 96, .inl (fun j => bI (fillM rd ln f 96 j)))) ∧ x = none)) := by
    refine loopN (fun i hi ih => ?_)
    have k1 : (w.set sa (.inl (cxC G 1, 96, .inl (fun j => bI (fillM rd ln f i j)))))[1]? = some (.inr (0, [.int rd, .int ln, .int ch, .ref (cxa G 2)])) := by rw [List.getElem?_set_ne h1]; exact hw
    have k2 : (w.set sa (.inl (cxC G 1, 96, .inl (fun j => bI (fillM rd ln f i j)))))[so]? = some (.inr (6, [.ref (cxa G sa)])) := by rw [List.getElem?_set_ne h2]; exact hs
    have k3 : (w.set sa (.inl (cxC G 1, 96, .inl (fun j => bI (fillM rd ln f i j)))))[sa]? = some (.inl (cxC G 1, 96, .inl (fun j => bI (fillM rd ln f i j)))) := by rw [List.getElem?_set_self hl]
    refine Ev.iload_n (pc := 2) (i := 2) dS_fillFrom_2 rfl rfl ?_
    refine Ev.bipush (pc := 3) (v := 96) dS_fillFrom_3 (by decide) ?_
    refine Ev.cicmp_ge (nI_toInt (by omega)) ((show (96 : Int32).toInt = 96 from by decide)) (pc := 5) (tgt := 32) dS_fillFrom_5 rfl (fun h => ?_) (fun h => ?_)
    · have e : i = 96 := by omega
      subst e
      exact Ev.vreturn dS_fillFrom_32 rfl ⟨rfl, rfl⟩
    have hlt : i < 96 := by omega
    refine Ev.aload_n (pc := 8) (i := 0) dS_fillFrom_8 rfl rfl ?_
    refine Ev.getfield (pc := 9) dS_fillFrom_9 fl_S_9 (k2) rfl ?_
    refine Ev.iload_n (pc := 12) (i := 2) dS_fillFrom_12 rfl rfl ?_
    refine Ev.aload_n (pc := 13) (i := 1) dS_fillFrom_13 rfl rfl ?_
    refine Ev.iload_n (pc := 14) (i := 2) dS_fillFrom_14 rfl rfl ?_
    refine Ev.bipush (pc := 15) (v := 8) dS_fillFrom_15 (by decide) ?_
    refine Ev.idiv (pc := 17) dS_fillFrom_17 (by decide) ?_
    refine Ev.topi (c8_div hlt) ?_
    refine Ev.iload_n (pc := 18) (i := 2) dS_fillFrom_18 rfl rfl ?_
    refine Ev.bipush (pc := 19) (v := 8) dS_fillFrom_19 (by decide) ?_
    refine Ev.irem (pc := 21) dS_fillFrom_21 (by decide) ?_
    refine Ev.topi (c8_rem hlt) ?_
    refine Ev.callV (pc := 22) dS_fillFrom_22 kv_S_15 ⟨Nat.le_of_ble_eq_true rfl, Nat.le_of_ble_eq_true rfl⟩ (k1) rfl rfl (ct_B_isOfBar k1 _ _) rfl rfl (Nat.le_of_ble_eq_true rfl) ?_
    rintro _ _ ⟨rfl, rfl⟩
    refine Ev.bastore (pc := 25) dS_fillFrom_25 k3 i rfl hlt (by decide) ?_
    refine Ev.world (w' := w.set sa (.inl (cxC G 1, 96, .inl (fun j => bI (fillM rd ln f (i + 1) j))))) (by rw [List.set_set, ← fillM_s]; rfl) ?_
    refine Ev.iinc (pc := 26) dS_fillFrom_26 rfl (cx_inc _) (Nat.le_of_ble_eq_true rfl) ?_
    refine Ev.goto (pc := 29) (tgt := 2) dS_fillFrom_29 rfl ?_
    exact ih hlt
  have := loop 0 (Nat.zero_le _)
  rw [fillM_0] at this
  refine Ev.world (w' := w.set sa (.inl (cxC G 1, 96, .inl (fun j => bI (f j))))) ?_ this
  apply List.ext_getElem?
  intro q
  rw [List.getElem?_set]
  by_cases e : sa = q
  · subst e; rw [if_pos rfl, if_pos hl]; exact ha
  · rw [if_neg e]
set_option maxHeartbeats 4000000 in
set_option maxRecDepth 100000 in
theorem ct_S_has {k : Nat} (hk : k < 2) (z r : Int32) : Ct G mS_has [.ref (cxa G (19 + 2 * k)), .int z, .int r] (wl G v b) (fun x w' => w' = wl G v b ∧ x = some (.int (bI (hasB (b (20 + 2 * k)) z r)))) := by
  refine Ct.of (by decide) rfl rfl (Nat.le_of_ble_eq_true rfl) ?_
  refine Ev.iload_n (pc := 0) (i := 1) dS_has_0 rfl rfl ?_
  refine Ev.iload_n (pc := 1) (i := 2) dS_has_1 rfl rfl ?_
  refine Ev.callN (pc := 2) dS_has_2 kn_S_21 ⟨Nat.le_of_ble_eq_true rfl, Nat.le_of_ble_eq_true rfl⟩ (ct_T_isCell z r) rfl rfl (Nat.le_of_ble_eq_true rfl) ?_
  rintro _ _ ⟨rfl, rfl⟩
  refine Ev.if_eqB (pc := 5) (tgt := 26) dS_has_5 rfl (fun h1 => ?_) (fun h1 => ?_)
  · refine Ev.iconst (pc := 26) (v := 0) dS_has_26 (by decide) ?_
    exact Ev.zreturn (b := false) dS_has_27 rfl (⟨rfl, ret_f (bf (by rw [hasB_iff, h1]; simp))⟩)
  obtain ⟨c1, c2⟩ := cix_i h1
  refine Ev.aload_n (pc := 8) (i := 0) dS_has_8 rfl rfl ?_
  refine Ev.gf (pc := 9) dS_has_9 fl_S_9 (by omega) (cell_st hk _ _) rfl ?_
  refine Ev.iload_n (pc := 12) (i := 1) dS_has_12 rfl rfl ?_
  refine Ev.bipush (pc := 13) (v := 8) dS_has_13 (by decide) ?_
  refine Ev.imul (pc := 15) dS_has_15 ?_
  refine Ev.iload_n (pc := 16) (i := 2) dS_has_16 rfl rfl ?_
  refine Ev.iadd (pc := 17) dS_has_17 ?_
  refine Ev.topi c1 ?_
  refine Ev.aldb (pc := 18) dS_has_18 (by omega) (by first | exact fun _ _ => rfl | exact cell_dz hj | exact cell_dr hj | exact cell_mr hk | exact cell_sr hk) _ (rfl) (by omega) (by decide) ?_
  refine Ev.if_eqB (pc := 19) (tgt := 26) dS_has_19 rfl (fun h2 => ?_) (fun h2 => ?_)
  · refine Ev.iconst (pc := 26) (v := 0) dS_has_26 (by decide) ?_
    exact Ev.zreturn (b := false) dS_has_27 rfl (⟨rfl, ret_f (bf (by rw [hasB_iff, h2]; simp))⟩)
  · refine Ev.iconst (pc := 22) (v := 1) dS_has_22 (by decide) ?_
    refine Ev.goto (pc := 23) (tgt := 27) dS_has_23 rfl ?_
    exact Ev.zreturn (b := true) dS_has_27 rfl (⟨rfl, ret_t (by rw [hasB_iff]; exact ⟨h1, h2⟩)⟩)
set_option maxHeartbeats 4000000 in
set_option maxRecDepth 100000 in
theorem ct_S_isCoveredBy {k j n : Nat} (hk : k < 2) (hj : j < 3) (hn : v (4 + 3 * j) 0 = nI n) (h8 : n ≤ 8) (z r : Int32) : Ct G mS_isCoveredBy [.ref (cxa G (19 + 2 * k)), .ref (cxa G (4 + 3 * j)), .int z, .int r] (wl G v b) (fun x w' => w' = wl G v b ∧ x = some (.int (bI (covB (b (20 + 2 * k)) n (v (5 + 3 * j)) (v (6 + 3 * j)) z r)))) := by
  have hnI : (v (4 + 3 * j) 0).toInt = (n : Int) := by rw [hn]; exact nI_toInt (by omega)
  refine Ct.of (by decide) rfl rfl (Nat.le_of_ble_eq_true rfl) ?_
  refine Ev.iconst (pc := 0) (v := 0) dS_isCoveredBy_0 (by decide) ?_
  refine Ev.istore (pc := 1) dS_isCoveredBy_1 (Nat.le_of_ble_eq_true rfl) ?_
  have loop : ∀ i, i ≤ n → (∀ a, a < i → (fun i => hasB (b (20 + 2 * k)) (z + v (5 + 3 * j) i) (r + v (6 + 3 * j) i)) a = false) → Ev G mS_isCoveredBy 3 [some (.ref (cxa G (19 + 2 * k))), some (.ref (cxa G (4 + 3 * j))), some (.int z), some (.int r), some (.int (nI i))] [] (wl G v b) (cx_e G mS_isCoveredBy (fun x w' => w' = wl G v b ∧ x = some (.int (bI (covB (b (20 + 2 * k)) n (v (5 + 3 * j)) (v (6 + 3 * j)) z r))))) := by
    refine loopN (fun i hi ih hinv => ?_)
    refine Ev.iload (pc := 3) dS_isCoveredBy_3 rfl ?_
    refine Ev.aload_n (pc := 5) (i := 1) dS_isCoveredBy_5 rfl rfl ?_
    refine Ev.gf (pc := 6) dS_isCoveredBy_6 fl_S_24 (by omega) (cell_ins hj _ _) rfl ?_
    refine Ev.cicmp_ge (nI_toInt (by omega)) (hnI) (pc := 9) (tgt := 45) dS_isCoveredBy_9 rfl (fun h => ?_) (fun h => ?_)
    · refine Ev.iconst (pc := 45) (v := 0) dS_isCoveredBy_45 (by decide) ?_
      exact Ev.zreturn (b := false) dS_isCoveredBy_46 rfl (⟨rfl, ret_f (anyB_not (fun a ha => hinv a (by omega)))⟩)
    refine Ev.aload_n (pc := 12) (i := 0) dS_isCoveredBy_12 rfl rfl ?_
    refine Ev.iload_n (pc := 13) (i := 2) dS_isCoveredBy_13 rfl rfl ?_
    refine Ev.aload_n (pc := 14) (i := 1) dS_isCoveredBy_14 rfl rfl ?_
    refine Ev.gf (pc := 15) dS_isCoveredBy_15 fl_S_30 (by omega) (cell_ins hj _ _) rfl ?_
    refine Ev.iload (pc := 18) dS_isCoveredBy_18 rfl ?_
    refine Ev.aldi (pc := 20) dS_isCoveredBy_20 (by omega) (by first | exact fun _ _ => rfl | exact cell_dz hj | exact cell_dr hj | exact cell_mr hk | exact cell_sr hk) _ (rfl) (by omega) (by decide) ?_
    refine Ev.iadd (pc := 21) dS_isCoveredBy_21 ?_
    refine Ev.iload_n (pc := 22) (i := 3) dS_isCoveredBy_22 rfl rfl ?_
    refine Ev.aload_n (pc := 23) (i := 1) dS_isCoveredBy_23 rfl rfl ?_
    refine Ev.gf (pc := 24) dS_isCoveredBy_24 fl_S_34 (by omega) (cell_ins hj _ _) rfl ?_
    refine Ev.iload (pc := 27) dS_isCoveredBy_27 rfl ?_
    refine Ev.aldi (pc := 29) dS_isCoveredBy_29 (by omega) (by first | exact fun _ _ => rfl | exact cell_dz hj | exact cell_dr hj | exact cell_mr hk | exact cell_sr hk) _ (rfl) (by omega) (by decide) ?_
    refine Ev.iadd (pc := 30) dS_isCoveredBy_30 ?_
    refine Ev.callV (pc := 31) dS_isCoveredBy_31 kv_S_37 ⟨Nat.le_of_ble_eq_true rfl, Nat.le_of_ble_eq_true rfl⟩ (wl_st hk) rfl rfl (ct_S_has hk _ _) rfl rfl (Nat.le_of_ble_eq_true rfl) ?_
    rintro _ _ ⟨rfl, rfl⟩
    refine Ev.if_eqB (pc := 34) (tgt := 39) dS_isCoveredBy_34 rfl (fun h2 => ?_) (fun h2 => ?_)
    · refine Ev.iinc (pc := 39) dS_isCoveredBy_39 rfl (cx_inc _) (Nat.le_of_ble_eq_true rfl) ?_
      refine Ev.goto (pc := 42) (tgt := 3) dS_isCoveredBy_42 rfl ?_
      exact ih (by omega) (snoc_all hinv h2)
    · refine Ev.iconst (pc := 37) (v := 1) dS_isCoveredBy_37 (by decide) ?_
      exact Ev.zreturn (b := true) dS_isCoveredBy_38 rfl (⟨rfl, ret_t (anyB_iff.mpr ⟨i, by omega, h2⟩)⟩)
  exact loop 0 (Nat.zero_le _) (fun a ha => absurd ha (by omega))
set_option maxHeartbeats 4000000 in
set_option maxRecDepth 100000 in
theorem ct_S_cutBy {k j n : Nat} (hk : k < 2) (hj : j < 3) (hn : v (4 + 3 * j) 0 = nI n) (h8 : n ≤ 8) (z r : Int32) : Ct G mS_cutBy [.ref (cxa G (19 + 2 * k)), .ref (cxa G (4 + 3 * j)), .int z, .int r] (wl G v b) (fun x w' => w' = wl G v (va_up b (20 + 2 * k) (cutF (b (20 + 2 * k)) (v (5 + 3 * j)) (v (6 + 3 * j)) z r n).2) ∧ x = some (.int (nI (cutF (b (20 + 2 * k)) (v (5 + 3 * j)) (v (6 + 3 * j)) z r n).1))) := by
  have hnI : (v (4 + 3 * j) 0).toInt = (n : Int) := by rw [hn]; exact nI_toInt (by omega)
  refine Ct.of (by decide) rfl rfl (Nat.le_of_ble_eq_true rfl) ?_
  refine Ev.iconst (pc := 0) (v := 0) dS_cutBy_0 (by decide) ?_
  refine Ev.istore (pc := 1) dS_cutBy_1 (Nat.le_of_ble_eq_true rfl) ?_
  refine Ev.iconst (pc := 3) (v := 0) dS_cutBy_3 (by decide) ?_
  refine Ev.istore (pc := 4) dS_cutBy_4 (Nat.le_of_ble_eq_true rfl) ?_
  have loop : ∀ i, i ≤ n → ∀ l6 l7 : Option Value, Ev G mS_cutBy 6 [some (.ref (cxa G (19 + 2 * k))), some (.ref (cxa G (4 + 3 * j))), some (.int z), some (.int r), some (.int (nI (cutF (b (20 + 2 * k)) (v (5 + 3 * j)) (v (6 + 3 * j)) z r i).1)), some (.int (nI i)), l6, l7] [] (wl G v (va_up b (20 + 2 * k) (cutF (b (20 + 2 * k)) (v (5 + 3 * j)) (v (6 + 3 * j)) z r i).2)) (cx_e G mS_cutBy (fun x w' => w' = wl G v (va_up b (20 + 2 * k) (cutF (b (20 + 2 * k)) (v (5 + 3 * j)) (v (6 + 3 * j)) z r n).2) ∧ x = some (.int (nI (cutF (b (20 + 2 * k)) (v (5 + 3 * j)) (v (6 + 3 * j)) z r n).1)))) := by
    refine loopN (fun i hi ih l6 l7 => ?_)
    refine Ev.iload (pc := 6) dS_cutBy_6 rfl ?_
    refine Ev.aload_n (pc := 8) (i := 1) dS_cutBy_8 rfl rfl ?_
    refine Ev.gf (pc := 9) dS_cutBy_9 fl_S_24 (by omega) (cell_ins hj _ _) rfl ?_
    refine Ev.cicmp_ge (nI_toInt (by omega)) (hnI) (pc := 12) (tgt := 71) dS_cutBy_12 rfl (fun h => ?_) (fun h => ?_)
    · have e : i = n := by omega
      subst e
      refine Ev.iload (pc := 71) dS_cutBy_71 rfl ?_
      exact Ev.ireturn .int dS_cutBy_73 rfl rfl (⟨rfl, rfl⟩)
    refine Ev.iload_n (pc := 15) (i := 2) dS_cutBy_15 rfl rfl ?_
    refine Ev.aload_n (pc := 16) (i := 1) dS_cutBy_16 rfl rfl ?_
    refine Ev.gf (pc := 17) dS_cutBy_17 fl_S_30 (by omega) (cell_ins hj _ _) rfl ?_
    refine Ev.iload (pc := 20) dS_cutBy_20 rfl ?_
    refine Ev.aldi (pc := 22) dS_cutBy_22 (by omega) (by first | exact fun _ _ => rfl | exact cell_dz hj | exact cell_dr hj | exact cell_mr hk | exact cell_sr hk) _ (rfl) (by omega) (by decide) ?_
    refine Ev.iadd (pc := 23) dS_cutBy_23 ?_
    refine Ev.istore (pc := 24) dS_cutBy_24 (Nat.le_of_ble_eq_true rfl) ?_
    refine Ev.iload_n (pc := 26) (i := 3) dS_cutBy_26 rfl rfl ?_
    refine Ev.aload_n (pc := 27) (i := 1) dS_cutBy_27 rfl rfl ?_
    refine Ev.gf (pc := 28) dS_cutBy_28 fl_S_34 (by omega) (cell_ins hj _ _) rfl ?_
    refine Ev.iload (pc := 31) dS_cutBy_31 rfl ?_
    refine Ev.aldi (pc := 33) dS_cutBy_33 (by omega) (by first | exact fun _ _ => rfl | exact cell_dz hj | exact cell_dr hj | exact cell_mr hk | exact cell_sr hk) _ (rfl) (by omega) (by decide) ?_
    refine Ev.iadd (pc := 34) dS_cutBy_34 ?_
    refine Ev.istore (pc := 35) dS_cutBy_35 (Nat.le_of_ble_eq_true rfl) ?_
    refine Ev.aload_n (pc := 37) (i := 0) dS_cutBy_37 rfl rfl ?_
    refine Ev.iload (pc := 38) dS_cutBy_38 rfl ?_
    refine Ev.iload (pc := 40) dS_cutBy_40 rfl ?_
    refine Ev.callV (pc := 42) dS_cutBy_42 kv_S_37 ⟨Nat.le_of_ble_eq_true rfl, Nat.le_of_ble_eq_true rfl⟩ (wl_st hk) rfl rfl (ct_S_has hk _ _) rfl rfl (Nat.le_of_ble_eq_true rfl) ?_
    rintro _ _ ⟨rfl, rfl⟩
    rw [up_at]
    refine Ev.if_eqB (pc := 45) (tgt := 65) dS_cutBy_45 rfl (fun h2 => ?_) (fun h2 => ?_)
    · refine Ev.iinc (pc := 65) dS_cutBy_65 rfl (cx_inc _) (Nat.le_of_ble_eq_true rfl) ?_
      refine Ev.goto (pc := 68) (tgt := 6) dS_cutBy_68 rfl ?_
      have e : (cutF (b (20 + 2 * k)) (v (5 + 3 * j)) (v (6 + 3 * j)) z r (i + 1)) = (cutF (b (20 + 2 * k)) (v (5 + 3 * j)) (v (6 + 3 * j)) z r i) := by rw [cutF, if_neg (by rw [h2]; decide)]
      have := ih (by omega) (some (.int (z + v (5 + 3 * j) i))) (some (.int (r + v (6 + 3 * j) i)))
      rw [e] at this
      exact this
    · obtain ⟨c1, c2⟩ := cix_i (hasB_iff.mp h2).1
      refine Ev.aload_n (pc := 48) (i := 0) dS_cutBy_48 rfl rfl ?_
      refine Ev.gf (pc := 49) dS_cutBy_49 fl_S_9 (by omega) (cell_st hk _ _) rfl ?_
      refine Ev.iload (pc := 52) dS_cutBy_52 rfl ?_
      refine Ev.bipush (pc := 54) (v := 8) dS_cutBy_54 (by decide) ?_
      refine Ev.imul (pc := 56) dS_cutBy_56 ?_
      refine Ev.iload (pc := 57) dS_cutBy_57 rfl ?_
      refine Ev.iadd (pc := 59) dS_cutBy_59 ?_
      refine Ev.iconst (pc := 60) (v := 0) dS_cutBy_60 (by decide) ?_
      refine Ev.astb (pc := 61) (x := false) dS_cutBy_61 (by omega) (by first | exact fun _ _ => rfl | exact cell_dz hj | exact cell_dr hj | exact cell_mr hk | exact cell_sr hk) _ (c1) (by omega) (by decide) ?_
      have e : (cutF (b (20 + 2 * k)) (v (5 + 3 * j)) (v (6 + 3 * j)) z r (i + 1)) = ((cutF (b (20 + 2 * k)) (v (5 + 3 * j)) (v (6 + 3 * j)) z r i).1 + 1, va_up (cutF (b (20 + 2 * k)) (v (5 + 3 * j)) (v (6 + 3 * j)) z r i).2 (cix (z + v (5 + 3 * j) i) (r + v (6 + 3 * j) i)) false) := by rw [cutF, if_pos h2]
      refine Ev.iinc (pc := 62) dS_cutBy_62 rfl (cx_inc _) (Nat.le_of_ble_eq_true rfl) ?_
      refine Ev.iinc (pc := 65) dS_cutBy_65 rfl (cx_inc _) (Nat.le_of_ble_eq_true rfl) ?_
      refine Ev.goto (pc := 68) (tgt := 6) dS_cutBy_68 rfl ?_
      have := ih (by omega) (some (.int (z + v (5 + 3 * j) i))) (some (.int (r + v (6 + 3 * j) i)))
      rw [e] at this
      refine Ev.world ?_ this
      rw [sb, up_at, up_up]
  have := loop 0 (Nat.zero_le _) none none
  have e : va_up b (20 + 2 * k) (b (20 + 2 * k)) = b := up_self b _
  rw [show (cutF (b (20 + 2 * k)) (v (5 + 3 * j)) (v (6 + 3 * j)) z r 0) = (0, b (20 + 2 * k)) from rfl] at this
  simp only [e] at this
  exact this
set_option maxHeartbeats 4000000 in
set_option maxRecDepth 100000 in
theorem ct_S_countWaste {k : Nat} (hk : k < 2) : Ct G mS_countWaste [.ref (cxa G (19 + 2 * k)), .ref (cxa G 1)] (wl G v b) (fun x w' => w' = wl G v b ∧ x = some (.int (nI (cntB 96 (fun c => b (20 + 2 * k) c && wasteB (v 1 0) (v 1 1) (v 2) (nI (c / 8)) (nI (c % 8))))))) := by
  refine Ct.of (by decide) rfl rfl (Nat.le_of_ble_eq_true rfl) ?_
  refine Ev.iconst (pc := 0) (v := 0) dS_countWaste_0 (by decide) ?_
  refine Ev.istore_n (pc := 1) (i := 2) dS_countWaste_1 rfl (Nat.le_of_ble_eq_true rfl) ?_
  refine Ev.iconst (pc := 2) (v := 0) dS_countWaste_2 (by decide) ?_
  refine Ev.istore_n (pc := 3) (i := 3) dS_countWaste_3 rfl (Nat.le_of_ble_eq_true rfl) ?_
  have loop : ∀ i, i ≤ 96 → Ev G mS_countWaste 4 [some (.ref (cxa G (19 + 2 * k))), some (.ref (cxa G 1)), some (.int (nI (cntB i (fun c => b (20 + 2 * k) c && wasteB (v 1 0) (v 1 1) (v 2) (nI (c / 8)) (nI (c % 8)))))), some (.int (nI i))] [] (wl G v b) (cx_e G mS_countWaste (fun x w' => w' = wl G v b ∧ x = some (.int (nI (cntB 96 (fun c => b (20 + 2 * k) c && wasteB (v 1 0) (v 1 1) (v 2) (nI (c / 8)) (nI (c % 8)))))))) := by
    refine loopN (fun i hi ih => ?_)
    refine Ev.iload_n (pc := 4) (i := 3) dS_countWaste_4 rfl rfl ?_
    refine Ev.bipush (pc := 5) (v := 96) dS_countWaste_5 (by decide) ?_
    refine Ev.cicmp_ge (nI_toInt (by omega)) ((show (96 : Int32).toInt = 96 from by decide)) (pc := 7) (tgt := 43) dS_countWaste_7 rfl (fun h => ?_) (fun h => ?_)
    · have e : i = 96 := by omega
      subst e
      refine Ev.iload_n (pc := 43) (i := 2) dS_countWaste_43 rfl rfl ?_
      exact Ev.ireturn .int dS_countWaste_44 rfl rfl (⟨rfl, rfl⟩)
    have hlt : i < 96 := by omega
    have ih := ih hlt
    refine Ev.aload_n (pc := 10) (i := 0) dS_countWaste_10 rfl rfl ?_
    refine Ev.gf (pc := 11) dS_countWaste_11 fl_S_9 (by omega) (cell_st hk _ _) rfl ?_
    refine Ev.iload_n (pc := 14) (i := 3) dS_countWaste_14 rfl rfl ?_
    refine Ev.aldb (pc := 15) dS_countWaste_15 (by omega) (by first | exact fun _ _ => rfl | exact cell_dz hj | exact cell_dr hj | exact cell_mr hk | exact cell_sr hk) _ (rfl) (by omega) (by decide) ?_
    refine Ev.if_eqB (pc := 16) (tgt := 37) dS_countWaste_16 rfl (fun h2 => ?_) (fun h2 => ?_)
    · refine Ev.iinc (pc := 37) dS_countWaste_37 rfl (cx_inc _) (Nat.le_of_ble_eq_true rfl) ?_
      refine Ev.goto (pc := 40) (tgt := 4) dS_countWaste_40 rfl ?_
      rw [cntB, if_neg (by simp [h2])] at ih
      exact ih
    refine Ev.aload_n (pc := 19) (i := 1) dS_countWaste_19 rfl rfl ?_
    refine Ev.iload_n (pc := 20) (i := 3) dS_countWaste_20 rfl rfl ?_
    refine Ev.bipush (pc := 21) (v := 8) dS_countWaste_21 (by decide) ?_
    refine Ev.idiv (pc := 23) dS_countWaste_23 (by decide) ?_
    refine Ev.topi (c8_div hlt) ?_
    refine Ev.iload_n (pc := 24) (i := 3) dS_countWaste_24 rfl rfl ?_
    refine Ev.bipush (pc := 25) (v := 8) dS_countWaste_25 (by decide) ?_
    refine Ev.irem (pc := 27) dS_countWaste_27 (by decide) ?_
    refine Ev.topi (c8_rem hlt) ?_
    refine Ev.callV (pc := 28) dS_countWaste_28 kv_S_40 ⟨Nat.le_of_ble_eq_true rfl, Nat.le_of_ble_eq_true rfl⟩ (wl_at (by decide) rfl) rfl rfl (ct_B_isWaste _ _) rfl rfl (Nat.le_of_ble_eq_true rfl) ?_
    rintro _ _ ⟨rfl, rfl⟩
    refine Ev.if_eqB (pc := 31) (tgt := 37) dS_countWaste_31 rfl (fun h3 => ?_) (fun h3 => ?_)
    · refine Ev.iinc (pc := 37) dS_countWaste_37 rfl (cx_inc _) (Nat.le_of_ble_eq_true rfl) ?_
      refine Ev.goto (pc := 40) (tgt := 4) dS_countWaste_40 rfl ?_
      rw [cntB, if_neg (by simp [h2, h3])] at ih
      exact ih
    · refine Ev.iinc (pc := 34) dS_countWaste_34 rfl (cx_inc _) (Nat.le_of_ble_eq_true rfl) ?_
      refine Ev.iinc (pc := 37) dS_countWaste_37 rfl (cx_inc _) (Nat.le_of_ble_eq_true rfl) ?_
      refine Ev.goto (pc := 40) (tgt := 4) dS_countWaste_40 rfl ?_
      rw [cntB, if_pos (by simp [h2, h3])] at ih
      exact ih
  exact loop 0 (Nat.zero_le _)
end Stk
