/-! Moves: a row of moves is (how many, which); packed in one number -/
theorem nI_or (a b : Nat) : nI a ||| nI b = nI (a ||| b) := by
  apply Int32.toBitVec_inj.1
  show BitVec.ofNat 32 a ||| BitVec.ofNat 32 b = BitVec.ofNat 32 (a ||| b)
  apply BitVec.eq_of_getLsbD_eq
  intro i hi
  simp [hi]
theorem or_add {a b i : Nat} (h : b < 2 ^ i) : b ||| (a * 2 ^ i) = b + a * 2 ^ i := by
  rw [Nat.or_comm, ← Nat.shiftLeft_eq, ← Nat.shiftLeft_add_eq_or_of_lt h, Nat.add_comm]
def pk3 (q : Mv) : Nat := q.1 + 4 * q.2.1 + 16 * q.2.2
def okMv (B : Nat) (q : Mv) : Prop := (q.1 < 2 ∧ q.2.1 < 4 ∧ 1 ≤ q.2.2 ∧ q.2.2 ≤ B) ∨ q = (2, 0, 0)
theorem okMv.lt {B : Nat} {q : Mv} (h : okMv B q) (hB : B < 1000000) : q.1 < 4 ∧ q.2.1 < 4 ∧ q.2.2 ≤ B ∧ pk3 q < 2 ^ 30 := by
  rcases h with ⟨h1, h2, h3, h4⟩ | rfl
  · exact ⟨by omega, h2, h4, by unfold pk3; omega⟩
  · exact ⟨by decide, by decide, Nat.zero_le _, by decide⟩
theorem pk3_k {q : Mv} (h : q.1 < 4) : pk3 q % 4 = q.1 := by unfold pk3; omega
theorem pk3_d {q : Mv} (h : q.1 < 4) (h2 : q.2.1 < 4) : pk3 q / 4 % 4 = q.2.1 := by unfold pk3; omega
theorem pk3_s {q : Mv} (h : q.1 < 4) (h2 : q.2.1 < 4) : pk3 q / 16 = q.2.2 := by unfold pk3; omega
theorem pk3_inj {q q' : Mv} (h : q.1 < 4) (h2 : q.2.1 < 4) (h' : q'.1 < 4) (h2' : q'.2.1 < 4) (e : pk3 q = pk3 q') : q = q' := by
  obtain ⟨a, b, c⟩ := q
  obtain ⟨a', b', c'⟩ := q'
  simp only [pk3] at e h h2 h' h2'
  have e1 : a = a' := by omega
  have e2 : b = b' := by omega
  have e3 : c = c' := by omega
  rw [e1, e2, e3]
abbrev Pm : Type := Nat × (Nat → Mv)
def pmS (m : Pm) (k d : Nat) : Pm := if 0 < m.1 ∧ (m.2 (m.1 - 1)).1 = k ∧ (m.2 (m.1 - 1)).2.1 = d then (m.1, va_up m.2 (m.1 - 1) (k, d, (m.2 (m.1 - 1)).2.2 + 1)) else (m.1 + 1, va_up m.2 m.1 (k, d, 1))
def pmC (m : Pm) : Pm := (m.1 + 1, va_up m.2 m.1 (2, 0, 0))
def pmW : Pm → List Nat → Pm
  | m, [] => m
  | m, d :: ds => pmW (pmS m (if ds = [] then 1 else 0) d) ds
theorem pmS_len (m : Pm) (k d : Nat) : m.1 ≤ (pmS m k d).1 ∧ (pmS m k d).1 ≤ m.1 + 1 := by
  unfold pmS
  split <;> simp
theorem pmW_len : ∀ (ds : List Nat) (m : Pm), m.1 ≤ (pmW m ds).1
  | [], _ => Nat.le_refl _
  | d :: ds, m => Nat.le_trans (pmS_len m _ d).1 (pmW_len ds _)
def okP (B : Nat) (m : Pm) : Prop := ∀ i, i < m.1 → okMv B (m.2 i)
theorem okMv.mono {B B' : Nat} {q : Mv} (h : okMv B q) (hB : B ≤ B') : okMv B' q := by
  rcases h with ⟨h1, h2, h3, h4⟩ | h
  · exact Or.inl ⟨h1, h2, h3, by omega⟩
  · exact Or.inr h
theorem okP.mono {B B' : Nat} {m : Pm} (h : okP B m) (hB : B ≤ B') : okP B' m := fun i hi => (h i hi).mono hB
theorem okP_S {B : Nat} {m : Pm} {k d : Nat} (h : okP B m) (hk : k < 2) (hd : d < 4) : okP (B + 1) (pmS m k d) := by
  unfold pmS
  split
  · rename_i he
    intro i hi
    by_cases e : i = m.1 - 1
    · have e2 : (va_up m.2 (m.1 - 1) (k, d, (m.2 (m.1 - 1)).2.2 + 1)) i = (k, d, (m.2 (m.1 - 1)).2.2 + 1) := by rw [e]; simp [va_up]
      show okMv (B + 1) ((va_up m.2 (m.1 - 1) (k, d, (m.2 (m.1 - 1)).2.2 + 1)) i)
      rw [e2]
      rcases h (m.1 - 1) (by omega) with ⟨h1, h2, h3, h4⟩ | h1
      · exact Or.inl ⟨hk, hd, by simp, by simp; omega⟩
      · rw [h1] at he
        have := he.2.1
        simp at this
        omega
    · show okMv (B + 1) ((va_up m.2 (m.1 - 1) (k, d, (m.2 (m.1 - 1)).2.2 + 1)) i)
      rw [show (va_up m.2 (m.1 - 1) (k, d, (m.2 (m.1 - 1)).2.2 + 1)) i = m.2 i by simp [va_up, e]]
      exact (h i hi).mono (by omega)
  · intro i hi
    by_cases e : i = m.1
    · show okMv (B + 1) ((va_up m.2 m.1 (k, d, 1)) i)
      rw [show (va_up m.2 m.1 (k, d, 1)) i = (k, d, 1) by rw [e]; simp [va_up]]
      exact Or.inl ⟨hk, hd, by simp, by simp⟩
    · show okMv (B + 1) ((va_up m.2 m.1 (k, d, 1)) i)
      rw [show (va_up m.2 m.1 (k, d, 1)) i = m.2 i by simp [va_up, e]]
      have : i < m.1 := by simp at hi; omega
      exact (h i this).mono (by omega)
theorem okP_C {B : Nat} {m : Pm} (h : okP B m) : okP B (pmC m) := by
  intro i hi
  by_cases e : i = m.1
  · show okMv B ((va_up m.2 m.1 (2, 0, 0)) i)
    rw [show (va_up m.2 m.1 (2, 0, 0)) i = (2, 0, 0) by rw [e]; simp [va_up]]
    exact Or.inr rfl
  · show okMv B ((va_up m.2 m.1 (2, 0, 0)) i)
    rw [show (va_up m.2 m.1 (2, 0, 0)) i = m.2 i by simp [va_up, e]]
    exact h i (by simp [pmC] at hi; omega)
/-- the cells p, p + 1 hold these moves -/
def mvOK (v : Nat → Nat → Int32) (p : Nat) (m : Pm) : Prop := v p 1 = nI m.1 ∧ m.1 ≤ 2000 ∧ ∀ i, i < m.1 → v (p + 1) i = nI (pk3 (m.2 i))
theorem and3 {m : Nat} (h : m < 2 ^ 31) : nI m &&& 3 = nI (m % 4) := pk_andN (by omega) 2 (by decide)
theorem shr2 {m : Nat} (h : m < 2 ^ 31) : nI m >>> ((2 : Int32) &&& 31) = nI (m / 4) := pk_shrN h _ 2 (by decide)
theorem shr4 {m : Nat} (h : m < 2 ^ 31) : nI m >>> ((4 : Int32) &&& 31) = nI (m / 16) := pk_shrN h _ 4 (by decide)
theorem shl2 {m : Nat} (h : m < 2 ^ 29) : nI m <<< ((2 : Int32) &&& 31) = nI (m * 4) := pk_shlN _ 2 (by decide) (by omega)
theorem shl4 {m : Nat} (h : m < 2 ^ 27) : nI m <<< ((4 : Int32) &&& 31) = nI (m * 16) := pk_shlN _ 4 (by decide) (by omega)
theorem pack_i {k d s : Nat} (hk : k < 4) (hd : d < 4) (hs : s < 1000000) : nI k ||| nI d <<< ((2 : Int32) &&& 31) ||| nI s <<< ((4 : Int32) &&& 31) = nI (pk3 (k, d, s)) := by
  rw [shl2 (by omega), shl4 (by omega), nI_or, nI_or]
  have e1 : k ||| d * 4 = k + d * 4 := or_add (i := 2) (by omega)
  rw [e1]
  have e2 : (k + d * 4) ||| s * 16 = (k + d * 4) + s * 16 := or_add (i := 4) (by omega)
  rw [e2]
  exact congrArg nI (by unfold pk3; simp only []; omega)
section Mvs
variable {G : cx_G} {w : List va_E} {v : Nat → Nat → Int32} {b : Nat → Nat → Bool}
set_option maxHeartbeats 4000000 in
set_option maxRecDepth 100000 in
theorem ct_M_packed {k d s : Nat} (hk : k < 4) (hd : d < 4) (hs : s < 1000000) : Ct G mM_packed [.int (nI k), .int (nI d), .int (nI s)] w (fun x w' => w' = w ∧ x = some (.int (nI (pk3 (k, d, s))))) := by
  refine Ct.of (by decide) rfl rfl (Nat.le_of_ble_eq_true rfl) ?_
  refine Ev.iload_n (pc := 0) (i := 0) dM_packed_0 rfl rfl ?_
  refine Ev.iload_n (pc := 1) (i := 1) dM_packed_1 rfl rfl ?_
  refine Ev.iconst (pc := 2) (v := 2) dM_packed_2 (by decide) ?_
  refine Ev.ishl (pc := 3) dM_packed_3 ?_
  refine Ev.ior (pc := 4) dM_packed_4 ?_
  refine Ev.iload_n (pc := 5) (i := 2) dM_packed_5 rfl rfl ?_
  refine Ev.iconst (pc := 6) (v := 4) dM_packed_6 (by decide) ?_
  refine Ev.ishl (pc := 7) dM_packed_7 ?_
  refine Ev.ior (pc := 8) dM_packed_8 ?_
  exact Ev.ireturn .int dM_packed_9 rfl rfl (⟨rfl, by rw [pack_i hk hd hs]⟩)
set_option maxHeartbeats 4000000 in
set_option maxRecDepth 100000 in
theorem ct_M_kindOf {m : Nat} (hm : m < 2 ^ 31) : Ct G mM_kindOf [.int (nI m)] w (fun x w' => w' = w ∧ x = some (.int (nI (m % 4)))) := by
  refine Ct.of (by decide) rfl rfl (Nat.le_of_ble_eq_true rfl) ?_
  refine Ev.iload_n (pc := 0) (i := 0) dM_kindOf_0 rfl rfl ?_
  refine Ev.iconst (pc := 1) (v := 3) dM_kindOf_1 (by decide) ?_
  refine Ev.iand (pc := 2) dM_kindOf_2 ?_
  exact Ev.ireturn .int dM_kindOf_3 rfl rfl (⟨rfl, by rw [and3 hm]⟩)
set_option maxHeartbeats 4000000 in
set_option maxRecDepth 100000 in
theorem ct_M_directionOf {m : Nat} (hm : m < 2 ^ 31) : Ct G mM_directionOf [.int (nI m)] w (fun x w' => w' = w ∧ x = some (.int (nI (m / 4 % 4)))) := by
  refine Ct.of (by decide) rfl rfl (Nat.le_of_ble_eq_true rfl) ?_
  refine Ev.iload_n (pc := 0) (i := 0) dM_directionOf_0 rfl rfl ?_
  refine Ev.iconst (pc := 1) (v := 2) dM_directionOf_1 (by decide) ?_
  refine Ev.ishr (pc := 2) dM_directionOf_2 ?_
  refine Ev.iconst (pc := 3) (v := 3) dM_directionOf_3 (by decide) ?_
  refine Ev.iand (pc := 4) dM_directionOf_4 ?_
  exact Ev.ireturn .int dM_directionOf_5 rfl rfl (⟨rfl, by rw [shr2 hm, and3 (by omega)]⟩)
set_option maxHeartbeats 4000000 in
set_option maxRecDepth 100000 in
theorem ct_M_stepsOf {m : Nat} (hm : m < 2 ^ 31) : Ct G mM_stepsOf [.int (nI m)] w (fun x w' => w' = w ∧ x = some (.int (nI (m / 16)))) := by
  refine Ct.of (by decide) rfl rfl (Nat.le_of_ble_eq_true rfl) ?_
  refine Ev.iload_n (pc := 0) (i := 0) dM_stepsOf_0 rfl rfl ?_
  refine Ev.iconst (pc := 1) (v := 4) dM_stepsOf_1 (by decide) ?_
  refine Ev.ishr (pc := 2) dM_stepsOf_2 ?_
  exact Ev.ireturn .int dM_stepsOf_3 rfl rfl (⟨rfl, by rw [shr4 hm]⟩)
set_option maxHeartbeats 4000000 in
set_option maxRecDepth 100000 in
theorem ct_M_append_no {n : Nat} (hn : v 15 1 = nI n) (h : n = 2000) (x : Int32) : Ct G mM_append [.ref (cxa G 15), .int x] (wl G v b) (fun y w' => w' = wl G v b ∧ y = some (.int (bI false))) := by
  have hnI : (v 15 1).toInt = (n : Int) := by rw [hn]; exact nI_toInt (by omega)
  refine Ct.of (by decide) rfl rfl (Nat.le_of_ble_eq_true rfl) ?_
  refine Ev.aload_n (pc := 0) (i := 0) dM_append_0 rfl rfl ?_
  refine Ev.gf (pc := 1) dM_append_1 fl_M_15 (by omega) (rfl) rfl ?_
  refine Ev.sipush (pc := 4) (v := 2000) dM_append_4 (by decide) ?_
  refine Ev.cicmp_lt (hnI) ((show (2000 : Int32).toInt = 2000 from by decide)) (pc := 7) (tgt := 12) dM_append_7 rfl (fun h1 => ?_) (fun h1 => ?_)
  · omega
  · refine Ev.iconst (pc := 10) (v := 0) dM_append_10 (by decide) ?_
    exact Ev.zreturn (b := false) dM_append_11 rfl (⟨rfl, rfl⟩)
set_option maxHeartbeats 4000000 in
set_option maxRecDepth 100000 in
theorem ct_M_append_yes {n : Nat} (hn : v 15 1 = nI n) (h : n < 2000) (x : Int32) : Ct G mM_append [.ref (cxa G 15), .int x] (wl G v b) (fun y w' => w' = wl G (sv (sv v 16 n x) 15 1 (nI (n + 1))) b ∧ y = some (.int (bI true))) := by
  have hnI : (v 15 1).toInt = (n : Int) := by rw [hn]; exact nI_toInt (by omega)
  refine Ct.of (by decide) rfl rfl (Nat.le_of_ble_eq_true rfl) ?_
  refine Ev.aload_n (pc := 0) (i := 0) dM_append_0 rfl rfl ?_
  refine Ev.gf (pc := 1) dM_append_1 fl_M_15 (by omega) (rfl) rfl ?_
  refine Ev.sipush (pc := 4) (v := 2000) dM_append_4 (by decide) ?_
  refine Ev.cicmp_lt (hnI) ((show (2000 : Int32).toInt = 2000 from by decide)) (pc := 7) (tgt := 12) dM_append_7 rfl (fun h1 => ?_) (fun h1 => ?_)
  · refine Ev.aload_n (pc := 12) (i := 0) dM_append_12 rfl rfl ?_
    refine Ev.gf (pc := 13) dM_append_13 fl_M_9 (by omega) (rfl) rfl ?_
    refine Ev.aload_n (pc := 16) (i := 0) dM_append_16 rfl rfl ?_
    refine Ev.gf (pc := 17) dM_append_17 fl_M_15 (by omega) (rfl) rfl ?_
    refine Ev.iload_n (pc := 20) (i := 1) dM_append_20 rfl rfl ?_
    refine Ev.asti (pc := 21) dM_append_21 (by omega) (by first | exact fun _ _ => rfl | exact cell_dz hj | exact cell_dr hj | exact cell_mr hk | exact cell_sr hk) _ (hn) (by omega) (by decide) ?_
    refine Ev.aload_n (pc := 22) (i := 0) dM_append_22 rfl rfl ?_
    refine Ev.dup (pc := 23) dM_append_23 rfl ?_
    refine Ev.gf (pc := 24) dM_append_24 fl_M_15 (by omega) (rfl) rfl ?_
    refine Ev.iconst (pc := 27) (v := 1) dM_append_27 (by decide) ?_
    refine Ev.iadd (pc := 28) dM_append_28 ?_
    refine Ev.topi (y := nI (n + 1)) (by rw [sv_p (by omega), hn]; exact (nI_succ n).symm) ?_
    refine Ev.puti (pc := 29) dM_append_29 fl_M_15 fp_M_size (by omega) (rfl) rfl (Nat.le_of_ble_eq_true rfl) ?_
    refine Ev.iconst (pc := 32) (v := 1) dM_append_32 (by decide) ?_
    exact Ev.zreturn (b := true) dM_append_33 rfl ⟨rfl, rfl⟩
  · omega
/-- what a call that may add a move does -/
def addQ (G : cx_G) (v : Nat → Nat → Int32) (b : Nat → Nat → Bool) (m : Pm) : Option Value → List va_E → Prop := fun x w' =>
  ∃ (v' : Nat → Nat → Int32) (ok : Bool), w' = wl G v' b ∧ x = some (.int (bI ok)) ∧ (∀ p, p ≠ 15 → p ≠ 16 → v' p = v p) ∧ (ok = true → mvOK v' 15 m) ∧ (ok = false → 2000 < m.1)
theorem mvOK_app {m : Pm} (h : mvOK v 15 m) (hm : m.1 < 2000) (q : Mv) : mvOK (sv (sv v 16 m.1 (nI (pk3 q))) 15 1 (nI (m.1 + 1))) 15 (m.1 + 1, va_up m.2 m.1 q) := by
  refine ⟨by rw [sv_eq], by simp; omega, fun i hi => ?_⟩
  rw [sv_p (by omega)]
  by_cases e : i = m.1
  · subst e
    rw [sv_eq]
    simp [va_up]
  · rw [sv_k e, h.2.2 i (by simp at hi; omega)]
    simp [va_up, e]
set_option maxHeartbeats 4000000 in
set_option maxRecDepth 100000 in
theorem ct_M_addChange {m : Pm} (h : mvOK v 15 m) : Ct G mM_addChange [.ref (cxa G 15)] (wl G v b) (addQ G v b (pmC m)) := by
  refine Ct.of (by decide) rfl rfl (Nat.le_of_ble_eq_true rfl) ?_
  refine Ev.aload_n (pc := 0) (i := 0) dM_addChange_0 rfl rfl ?_
  refine Ev.iconst (pc := 1) (v := 2) dM_addChange_1 (by decide) ?_
  refine Ev.iconst (pc := 2) (v := 0) dM_addChange_2 (by decide) ?_
  refine Ev.iconst (pc := 3) (v := 0) dM_addChange_3 (by decide) ?_
  refine Ev.callS (pc := 4) dM_addChange_4 ks_M_19 ⟨Nat.le_of_ble_eq_true rfl, Nat.le_of_ble_eq_true rfl⟩ (ct_M_packed (k := 2) (d := 0) (s := 0) (by decide) (by decide) (by decide)) rfl rfl (Nat.le_of_ble_eq_true rfl) ?_
  rintro _ _ ⟨rfl, rfl⟩
  by_cases hm : m.1 < 2000
  · refine Ev.callV (pc := 7) dM_addChange_7 kv_M_23 ⟨Nat.le_of_ble_eq_true rfl, Nat.le_of_ble_eq_true rfl⟩ (wl_at (by decide) rfl) rfl rfl (ct_M_append_yes h.1 hm _) rfl rfl (Nat.le_of_ble_eq_true rfl) ?_
    rintro _ _ ⟨rfl, rfl⟩
    exact Ev.zreturn dM_addChange_10 rfl ⟨_, true, rfl, rfl, fun p h1 h2 => by rw [sv_p h1, sv_p h2], fun _ => mvOK_app h hm _, fun e => (by cases e)⟩
  · refine Ev.callV (pc := 7) dM_addChange_7 kv_M_23 ⟨Nat.le_of_ble_eq_true rfl, Nat.le_of_ble_eq_true rfl⟩ (wl_at (by decide) rfl) rfl rfl (ct_M_append_no h.1 (by have := h.2.1; omega) _) rfl rfl (Nat.le_of_ble_eq_true rfl) ?_
    rintro _ _ ⟨rfl, rfl⟩
    exact Ev.zreturn dM_addChange_10 rfl ⟨_, false, rfl, rfl, fun p _ _ => rfl, fun e => (by cases e), fun _ => by show 2000 < m.1 + 1; omega⟩
set_option maxHeartbeats 4000000 in
set_option maxRecDepth 100000 in
theorem addStep_app {m : Pm} {k d : Nat} (h : mvOK v 15 m) (hk : k < 2) (hd : d < 4) (he : pmS m k d = (m.1 + 1, va_up m.2 m.1 (k, d, 1))) {l3 : Option Value} : Ev G mM_addStep 59 [some (.ref (cxa G 15)), some (.int (nI k)), some (.int (nI d)), l3] [] (wl G v b) (cx_e G mM_addStep (addQ G v b (pmS m k d))) := by
  rw [he]
  refine Ev.aload_n (pc := 59) (i := 0) dM_addStep_59 rfl rfl ?_
  refine Ev.iload_n (pc := 60) (i := 1) dM_addStep_60 rfl rfl ?_
  refine Ev.iload_n (pc := 61) (i := 2) dM_addStep_61 rfl rfl ?_
  refine Ev.iconst (pc := 62) (v := 1) dM_addStep_62 (by decide) ?_
  refine Ev.callS (pc := 63) dM_addStep_63 ks_M_19 ⟨Nat.le_of_ble_eq_true rfl, Nat.le_of_ble_eq_true rfl⟩ (ct_M_packed (k := k) (d := d) (s := 1) (by omega) (by omega) (by decide)) rfl rfl (Nat.le_of_ble_eq_true rfl) ?_
  rintro _ _ ⟨rfl, rfl⟩
  by_cases hm : m.1 < 2000
  · refine Ev.callV (pc := 66) dM_addStep_66 kv_M_23 ⟨Nat.le_of_ble_eq_true rfl, Nat.le_of_ble_eq_true rfl⟩ (wl_at (by decide) rfl) rfl rfl (ct_M_append_yes h.1 hm _) rfl rfl (Nat.le_of_ble_eq_true rfl) ?_
    rintro _ _ ⟨rfl, rfl⟩
    exact Ev.zreturn dM_addStep_69 rfl ⟨_, true, rfl, rfl, fun p h1 h2 => by rw [sv_p h1, sv_p h2], fun _ => mvOK_app h hm _, fun e => (by cases e)⟩
  · refine Ev.callV (pc := 66) dM_addStep_66 kv_M_23 ⟨Nat.le_of_ble_eq_true rfl, Nat.le_of_ble_eq_true rfl⟩ (wl_at (by decide) rfl) rfl rfl (ct_M_append_no h.1 (by have := h.2.1; omega) _) rfl rfl (Nat.le_of_ble_eq_true rfl) ?_
    rintro _ _ ⟨rfl, rfl⟩
    exact Ev.zreturn dM_addStep_69 rfl ⟨_, false, rfl, rfl, fun p _ _ => rfl, fun e => (by cases e), fun _ => by show 2000 < m.1 + 1; omega⟩
set_option maxHeartbeats 4000000 in
set_option maxRecDepth 100000 in
theorem ct_M_addStep {B : Nat} {m : Pm} {k d : Nat} (h : mvOK v 15 m) (ho : okP B m) (hB : B < 900000) (hk : k < 2) (hd : d < 4) : Ct G mM_addStep [.ref (cxa G 15), .int (nI k), .int (nI d)] (wl G v b) (addQ G v b (pmS m k d)) := by
  have hnI : (v 15 1).toInt = (m.1 : Int) := by rw [h.1]; exact nI_toInt (by have := h.2.1; omega)
  have hle := h.2.1
  refine Ct.of (by decide) rfl rfl (Nat.le_of_ble_eq_true rfl) ?_
  refine Ev.aload_n (pc := 0) (i := 0) dM_addStep_0 rfl rfl ?_
  refine Ev.gf (pc := 1) dM_addStep_1 fl_M_15 (by omega) (rfl) rfl ?_
  refine Ev.cif_le (hnI) (pc := 4) (tgt := 59) dM_addStep_4 rfl (fun h1 => ?_) (fun h1 => ?_)
  · exact addStep_app h hk hd (by unfold pmS; rw [if_neg (by omega)])
  obtain ⟨n, hn⟩ : ∃ n, m.1 = n + 1 := ⟨m.1 - 1, by omega⟩
  have hq := h.2.2 n (by omega)
  have hlast : m.2 (m.1 - 1) = m.2 n := by rw [hn]; rfl
  obtain ⟨b1, b2, b3, b4⟩ := (ho n (by omega)).lt (by omega)
  have hsub : v 15 1 - 1 = nI n := by rw [h.1, hn]; exact nI_pred n
  refine Ev.aload_n (pc := 7) (i := 0) dM_addStep_7 rfl rfl ?_
  refine Ev.gf (pc := 8) dM_addStep_8 fl_M_9 (by omega) (rfl) rfl ?_
  refine Ev.aload_n (pc := 11) (i := 0) dM_addStep_11 rfl rfl ?_
  refine Ev.gf (pc := 12) dM_addStep_12 fl_M_15 (by omega) (rfl) rfl ?_
  refine Ev.iconst (pc := 15) (v := 1) dM_addStep_15 (by decide) ?_
  refine Ev.isub (pc := 16) dM_addStep_16 ?_
  refine Ev.topi hsub ?_
  refine Ev.aldi (pc := 17) dM_addStep_17 (by omega) (by first | exact fun _ _ => rfl | exact cell_dz hj | exact cell_dr hj | exact cell_mr hk | exact cell_sr hk) _ (rfl) (by omega) (by decide) ?_
  refine Ev.topi hq ?_
  refine Ev.istore_n (pc := 18) (i := 3) dM_addStep_18 rfl (Nat.le_of_ble_eq_true rfl) ?_
  refine Ev.iload_n (pc := 19) (i := 3) dM_addStep_19 rfl rfl ?_
  refine Ev.callS (pc := 20) dM_addStep_20 ks_M_27 ⟨Nat.le_of_ble_eq_true rfl, Nat.le_of_ble_eq_true rfl⟩ (ct_M_kindOf (by omega)) rfl rfl (Nat.le_of_ble_eq_true rfl) ?_
  rintro _ _ ⟨rfl, rfl⟩
  refine Ev.topi (congrArg nI (pk3_k b1)) ?_
  refine Ev.iload_n (pc := 23) (i := 1) dM_addStep_23 rfl rfl ?_
  refine Ev.cicmp_ne (nI_toInt (by omega)) (nI_toInt (by omega)) (pc := 24) (tgt := 59) dM_addStep_24 rfl (fun h2 => ?_) (fun h2 => ?_)
  · exact addStep_app h hk hd (by unfold pmS; rw [if_neg (by rw [hlast]; omega)])
  refine Ev.iload_n (pc := 27) (i := 3) dM_addStep_27 rfl rfl ?_
  refine Ev.callS (pc := 28) dM_addStep_28 ks_M_31 ⟨Nat.le_of_ble_eq_true rfl, Nat.le_of_ble_eq_true rfl⟩ (ct_M_directionOf (by omega)) rfl rfl (Nat.le_of_ble_eq_true rfl) ?_
  rintro _ _ ⟨rfl, rfl⟩
  refine Ev.topi (congrArg nI (pk3_d b1 b2)) ?_
  refine Ev.iload_n (pc := 31) (i := 2) dM_addStep_31 rfl rfl ?_
  refine Ev.cicmp_ne (nI_toInt (by omega)) (nI_toInt (by omega)) (pc := 32) (tgt := 59) dM_addStep_32 rfl (fun h3 => ?_) (fun h3 => ?_)
  · exact addStep_app h hk hd (by unfold pmS; rw [if_neg (by rw [hlast]; omega)])
  refine Ev.aload_n (pc := 35) (i := 0) dM_addStep_35 rfl rfl ?_
  refine Ev.gf (pc := 36) dM_addStep_36 fl_M_9 (by omega) (rfl) rfl ?_
  refine Ev.aload_n (pc := 39) (i := 0) dM_addStep_39 rfl rfl ?_
  refine Ev.gf (pc := 40) dM_addStep_40 fl_M_15 (by omega) (rfl) rfl ?_
  refine Ev.iconst (pc := 43) (v := 1) dM_addStep_43 (by decide) ?_
  refine Ev.isub (pc := 44) dM_addStep_44 ?_
  refine Ev.topi hsub ?_
  refine Ev.iload_n (pc := 45) (i := 1) dM_addStep_45 rfl rfl ?_
  refine Ev.iload_n (pc := 46) (i := 2) dM_addStep_46 rfl rfl ?_
  refine Ev.iload_n (pc := 47) (i := 3) dM_addStep_47 rfl rfl ?_
  refine Ev.callS (pc := 48) dM_addStep_48 ks_M_34 ⟨Nat.le_of_ble_eq_true rfl, Nat.le_of_ble_eq_true rfl⟩ (ct_M_stepsOf (by omega)) rfl rfl (Nat.le_of_ble_eq_true rfl) ?_
  rintro _ _ ⟨rfl, rfl⟩
  refine Ev.topi (congrArg nI (pk3_s b1 b2)) ?_
  refine Ev.iconst (pc := 51) (v := 1) dM_addStep_51 (by decide) ?_
  refine Ev.iadd (pc := 52) dM_addStep_52 ?_
  refine Ev.topi (nI_succ _).symm ?_
  refine Ev.callS (pc := 53) dM_addStep_53 ks_M_19 ⟨Nat.le_of_ble_eq_true rfl, Nat.le_of_ble_eq_true rfl⟩ (ct_M_packed (k := k) (d := d) (s := (m.2 n).2.2 + 1) (by omega) (by omega) (by omega)) rfl rfl (Nat.le_of_ble_eq_true rfl) ?_
  rintro _ _ ⟨rfl, rfl⟩
  refine Ev.asti (pc := 56) dM_addStep_56 (by omega) (by first | exact fun _ _ => rfl | exact cell_dz hj | exact cell_dr hj | exact cell_mr hk | exact cell_sr hk) _ (rfl) (by omega) (by decide) ?_
  refine Ev.iconst (pc := 57) (v := 1) dM_addStep_57 (by decide) ?_
  have e : pmS m k d = (m.1, va_up m.2 n (k, d, (m.2 n).2.2 + 1)) := by
    unfold pmS
    rw [if_pos (by rw [hlast]; omega), hlast, show m.1 - 1 = n by omega]
  exact Ev.zreturn (b := true) dM_addStep_58 rfl ⟨_, true, rfl, rfl, fun p h4 h5 => by rw [sv_p h5], fun _ => by
    rw [e]
    refine ⟨by rw [sv_p (by omega)]; exact h.1, hle, fun i hi => ?_⟩
    by_cases ei : i = n
    · subst ei; rw [sv_eq]; simp [va_up]
    · rw [sv_k ei, h.2.2 i hi]; simp [va_up, ei], fun e => (by cases e)⟩
end Mvs
