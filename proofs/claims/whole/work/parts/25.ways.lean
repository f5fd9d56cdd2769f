/-! Ways: steps between positions, the queue in the cells -/
def dzI (d : Nat) : Int := match d with
  | 0 => 1
  | 1 => -1
  | _ => 0
def drI (d : Nat) : Int := match d with
  | 2 => -1
  | 3 => 1
  | _ => 0
theorem stp_0 {d : Nat} (hd : d < 4) : (cx_stp 0 d).toInt = dzI d := by
  rcases (by omega : d = 0 ∨ d = 1 ∨ d = 2 ∨ d = 3) with rfl | rfl | rfl | rfl <;> decide
theorem stp_1 {d : Nat} (hd : d < 4) : (cx_stp 1 d).toInt = drI d := by
  rcases (by omega : d = 0 ∨ d = 1 ∨ d = 2 ∨ d = 3) with rfl | rfl | rfl | rfl <;> decide
theorem dI_b {d : Nat} (hd : d < 4) : -1 ≤ dzI d ∧ dzI d ≤ 1 ∧ -1 ≤ drI d ∧ drI d ≤ 1 := by
  rcases (by omega : d = 0 ∨ d = 1 ∨ d = 2 ∨ d = 3) with rfl | rfl | rfl | rfl <;> decide
theorem zP_b {p : Nat} (h : p < 320) : -4 ≤ (zP p).toInt ∧ (zP p).toInt ≤ 15 := by rw [zP_toInt h]; omega
theorem rP_b (p : Nat) : 0 ≤ (rP p).toInt ∧ (rP p).toInt ≤ 15 := by rw [rP_toInt]; omega
theorem stepZ {p d : Nat} (hp : p < 320) (hd : d < 4) : (zP p + cx_stp 0 d).toInt = (p / 16 : Nat) - 4 + dzI d ∧ (rP p + cx_stp 1 d).toInt = (p % 16 : Nat) + drI d := by
  have z := zP_b hp
  have r := rP_b p
  have s := dI_b hd
  have s0 := stp_0 hd
  have s1 := stp_1 hd
  refine ⟨?_, ?_⟩
  · rw [i3_add (by omega) (by omega) (by rw [s0]; omega) (by rw [s0]; omega), zP_toInt hp, s0]
  · rw [i3_add (by omega) (by omega) (by rw [s1]; omega) (by rw [s1]; omega), rP_toInt, s1]
theorem step_some {p d q : Nat} (h : nxt p d = some q) : zP p + cx_stp 0 d = zP q ∧ rP p + cx_stp 1 d = rP q ∧ posB (zP q) (rP q) = true := by
  obtain ⟨hp, hq, hd⟩ := nxt_lt h
  obtain ⟨e1, e2⟩ := stepZ hp hd
  obtain ⟨-, c⟩ := nxt_cases h
  refine ⟨Int32.toInt_inj.mp (e1.trans ?_), Int32.toInt_inj.mp (e2.trans ?_), posB_iff.mpr ?_⟩
  · clear e1 e2
    rw [zP_toInt hq]
    rcases c with ⟨rfl, c1, rfl⟩ | ⟨rfl, c1, rfl⟩ | ⟨rfl, c1, rfl⟩ | ⟨rfl, c1, rfl⟩ <;> simp only [dzI] <;> omega
  · clear e1 e2
    rw [rP_toInt]
    rcases c with ⟨rfl, c1, rfl⟩ | ⟨rfl, c1, rfl⟩ | ⟨rfl, c1, rfl⟩ | ⟨rfl, c1, rfl⟩ <;> simp only [drI] <;> omega
  · clear e1 e2
    rw [zP_toInt hq, rP_toInt]
    omega
theorem step_none {p d : Nat} (hp : p < 320) (hd : d < 4) (h : nxt p d = none) : posB (zP p + cx_stp 0 d) (rP p + cx_stp 1 d) = false := by
  refine bf (fun q => ?_)
  have q := posB_iff.mp q
  obtain ⟨e1, e2⟩ := stepZ hp hd
  rw [e1, e2] at q
  clear e1 e2
  rcases (by omega : d = 0 ∨ d = 1 ∨ d = 2 ∨ d = 3) with rfl | rfl | rfl | rfl
  · simp only [dzI, drI] at q
    rw [nxt_0 (by omega)] at h; cases h
  · simp only [dzI, drI] at q
    rw [nxt_1 hp (by omega)] at h; cases h
  · simp only [dzI, drI] at q
    rw [nxt_2 hp (by omega)] at h; cases h
  · simp only [dzI, drI] at q
    rw [nxt_3 hp (by omega)] at h; cases h
theorem pos_i {q : Nat} (h : q < 320) : (zP q - (-4)) * 16 + rP q = nI q := by
  have e4 : (-4 : Int32).toInt = -4 := by decide
  have z := zP_b h
  have z2 := zP_toInt h
  have e : zP q - (-4) = nI (q / 16) := Int32.toInt_inj.mp (by rw [i3_sub (by omega) (by omega) (by omega) (by omega), e4, z2, nI_toInt (by omega)]; omega)
  have e16 : (16 : Int32) = nI 16 := by decide
  rw [e, e16, pk_mul]
  show nI (q / 16 * 16) + nI (q % 16) = nI q
  rw [nI_add]
  exact congrArg nI (by omega)
theorem step_back {p d q : Nat} (h : nxt p d = some q) : zP q - cx_stp 0 d = zP p ∧ rP q - cx_stp 1 d = rP p := by
  obtain ⟨hp, hq, hd⟩ := nxt_lt h
  obtain ⟨h1, h2, -⟩ := step_some h
  rw [← h1, ← h2]
  exact ⟨by simp, by simp⟩
theorem pth_len (par dr : Nat → Nat) : ∀ n k, (pth par dr n k).length ≤ n
  | 0, _ => by simp [pth]
  | n + 1, k => by
    by_cases h : k = 0
    · simp [pth, h]
    · simp only [pth, if_neg h, List.length_append, List.length_cons, List.length_nil]
      have := pth_len par dr n (par k)
      omega
/-- the queue, the distances, the directions in the cells 23 .. 26 -/
def bq (v : Nat → Nat → Int32) (f : Nat) (pos par dr : Nat → Nat) : Prop :=
  v 23 4 = nI f ∧ f ≤ 320 ∧ (∀ k, k < f → pos k < 320 ∧ v 24 k = nI (pos k) ∧ v 25 (pos k) = nI (pth par dr k k).length) ∧ (∀ q, q < 320 → (∀ k, k < f → pos k ≠ q) → v 25 q = -1) ∧ ∀ k, 0 < k → k < f → v 26 (pos k) = nI (dr k)
def wFr (v v' : Nat → Nat → Int32) : Prop := ∀ p, p ≠ 23 → p ≠ 24 → p ≠ 25 → p ≠ 26 → v' p = v p
theorem wFr.tr {v v' v2 : Nat → Nat → Int32} (h : wFr v v') (h2 : wFr v' v2) : wFr v v2 := fun p a b c d => (h2 p a b c d).trans (h p a b c d)
def fB (v : Nat → Nat → Int32) (q : Nat) : Bool := !decide ((v 25 q).toInt = -1)
theorem bq.yes {v : Nat → Nat → Int32} {f : Nat} {pos par dr : Nat → Nat} (h : bq v f pos par dr) {k : Nat} (hk : k < f) : fB v (pos k) = true := by
  have := (h.2.2.1 k hk).2.2
  have hl := pth_len par dr k k
  have hf := h.2.1
  unfold fB
  rw [this, nI_toInt (by omega)]
  simp
theorem bq.no {v : Nat → Nat → Int32} {f : Nat} {pos par dr : Nat → Nat} (h : bq v f pos par dr) {q : Nat} (hq : q < 320) (hn : ∀ k, k < f → pos k ≠ q) : fB v q = false := by
  unfold fB
  rw [h.2.2.2.1 q hq hn]
  decide
theorem bq.found {v : Nat → Nat → Int32} {f : Nat} {pos par dr : Nat → Nat} (h : bq v f pos par dr) {q : Nat} (hq : q < 320) (hf : fB v q = true) : ∃ k, k < f ∧ pos k = q := by
  by_cases hx : ∃ k, k < f ∧ pos k = q
  · exact hx
  · rw [h.no hq (fun k hk e => hx ⟨k, hk, e⟩)] at hf
    cases hf
theorem bq_new {v : Nat → Nat → Int32} {f i d q : Nat} {pos par dr : Nat → Nat} (h : bq v f pos par dr) (hp : ∀ k, 0 < k → k < f → par k < k) (hf0 : 0 < f) (hf : f < 320) (hi : i < f) (hq : q < 320) (hn : ∀ k, k < f → pos k ≠ q) :
    bq (sv (sv (sv (sv v 25 q (nI ((pth par dr i i).length + 1))) 26 q (nI d)) 24 f (nI q)) 23 4 (nI (f + 1))) (f + 1) (va_up pos f q) (va_up par f i) (va_up dr f d) := by
  obtain ⟨h1, h2, h3, h4, h5⟩ := h
  have hp' : ∀ k, 0 < k → k < f + 1 → va_up par f i k < k := fun k h0 hk => by
    by_cases e : k = f
    · subst e; rw [up_at]; exact hi
    · rw [up_ne e]; exact hp k h0 (by omega)
  have ef : pth (va_up par f i) (va_up dr f d) f f = pth par dr i i ++ [d] := by
    rw [pth_step hp' hf0 (by omega), up_at, up_at, pth_up hp i i hi]
  refine ⟨by rw [sv_eq], by omega, fun k hk => ?_, fun q' hq' hn' => ?_, fun k h0 hk => ?_⟩
  · by_cases e : k = f
    · subst e
      rw [up_at]
      refine ⟨hq, by rw [sv_p (by decide), sv_eq], ?_⟩
      rw [sv_p (by decide), sv_p (by decide), sv_p (by decide), sv_eq, ef]
      simp
    · have hk' : k < f := by omega
      obtain ⟨a1, a2, a3⟩ := h3 k hk'
      rw [up_ne e]
      refine ⟨a1, by rw [sv_p (by decide), sv_k e, sv_p (by decide), sv_p (by decide)]; exact a2, ?_⟩
      rw [sv_p (by decide), sv_p (by decide), sv_p (by decide), sv_k (hn k hk'), a3, pth_up hp k k hk']
  · have c1 : q' ≠ q := fun e => hn' f (by omega) (by rw [up_at]; exact e.symm)
    rw [sv_p (by decide), sv_p (by decide), sv_p (by decide), sv_k c1]
    exact h4 q' hq' (fun k hk e => hn' k (by omega) (by rw [up_ne (by omega)]; exact e))
  · by_cases e : k = f
    · subst e
      rw [up_at, up_at, sv_p (by decide), sv_p (by decide), sv_eq]
    · have hk' : k < f := by omega
      rw [up_ne e, up_ne e, sv_p (by decide), sv_p (by decide), sv_k (hn k hk'), sv_p (by decide)]
      exact h5 k h0 hk'
section Wy
variable {G : cx_G} {v : Nat → Nat → Int32} {b : Nat → Nat → Bool}
set_option maxHeartbeats 4000000 in
set_option maxRecDepth 100000 in
theorem ct_A_fill (x : Int32) : Ct G mA_fill [.ref (cxa G 25), .int x] (wl G v b) (fun y w' => w' = wl G (va_up v 25 (fun j => if j < 320 then x else v 25 j)) b ∧ y = none) := by
  refine Ct.of (by decide) rfl rfl (Nat.le_of_ble_eq_true rfl) ?_
  refine Ev.iconst (pc := 0) (v := 0) dA_fill_0 (by decide) ?_
  refine Ev.istore_n (pc := 1) (i := 2) dA_fill_1 rfl (Nat.le_of_ble_eq_true rfl) ?_
  refine Ev.aload_n (pc := 2) (i := 0) dA_fill_2 rfl rfl ?_
  refine Ev.alen (pc := 3) dA_fill_3 (wl_at (by decide) rfl) ?_
  refine Ev.istore_n (pc := 4) (i := 3) dA_fill_4 rfl (Nat.le_of_ble_eq_true rfl) ?_
  have loop : ∀ i, i ≤ 320 → Ev G mA_fill 5 [some (.ref (cxa G 25)), some (.int x), some (.int (nI i)), some (.int (nI 320))] [] (wl G (va_up v 25 (fun j => if j < i then x else v 25 j)) b) (cx_e G mA_fill (fun y w' => w' = wl G (va_up v 25 (fun j => if j < 320 then x else v 25 j)) b ∧ y = none)) := by
    refine loopN (fun i hi ih => ?_)
    refine Ev.iload_n (pc := 5) (i := 2) dA_fill_5 rfl rfl ?_
    refine Ev.iload_n (pc := 6) (i := 3) dA_fill_6 rfl rfl ?_
    refine Ev.cicmp_ge (nI_toInt (by omega)) (nI_toInt (by decide)) (pc := 7) (tgt := 20) dA_fill_7 rfl (fun h => ?_) (fun h => ?_)
    · have e : i = 320 := by omega
      subst e
      exact Ev.vreturn dA_fill_20 rfl ⟨rfl, rfl⟩
    have ih := ih (by omega)
    refine Ev.aload_n (pc := 10) (i := 0) dA_fill_10 rfl rfl ?_
    refine Ev.iload_n (pc := 11) (i := 2) dA_fill_11 rfl rfl ?_
    refine Ev.iload_n (pc := 12) (i := 1) dA_fill_12 rfl rfl ?_
    refine Ev.asti (pc := 13) dA_fill_13 (by omega) (by first | exact fun _ _ => rfl | exact cell_dz hj | exact cell_dr hj | exact cell_mr hk | exact cell_sr hk) _ (rfl) (by omega) (by decide) ?_
    refine Ev.iinc (pc := 14) dA_fill_14 rfl (cx_inc _) (Nat.le_of_ble_eq_true rfl) ?_
    refine Ev.goto (pc := 17) (tgt := 5) dA_fill_17 rfl ?_
    refine Ev.world ?_ ih
    congr 1
    rw [sv, up_up, up_at]
    congr 1
    funext z
    unfold va_up
    by_cases e : z = i
    · subst e; simp
    · by_cases e2 : z < i
      · have e3 : z < i + 1 := by omega
        simp [e, e2, e3]
      · have e3 : ¬ z < i + 1 := by omega
        simp [e, e2, e3]
  have := loop 0 (Nat.zero_le _)
  simp only [Nat.not_lt_zero, if_false] at this
  rw [up_self] at this
  exact this
set_option maxHeartbeats 4000000 in
set_option maxRecDepth 100000 in
theorem ct_W_isFound {q : Nat} (hq : q < 320) : Ct G mW_isFound [.ref (cxa G 23), .int (nI q)] (wl G v b) (fun x w' => w' = wl G v b ∧ x = some (.int (bI (fB v q)))) := by
  refine Ct.of (by decide) rfl rfl (Nat.le_of_ble_eq_true rfl) ?_
  refine Ev.aload_n (pc := 0) (i := 0) dW_isFound_0 rfl rfl ?_
  refine Ev.gf (pc := 1) dW_isFound_1 fl_W_15 (by omega) (rfl) rfl ?_
  refine Ev.iload_n (pc := 4) (i := 1) dW_isFound_4 rfl rfl ?_
  refine Ev.aldi (pc := 5) dW_isFound_5 (by omega) (by first | exact fun _ _ => rfl | exact cell_dz hj | exact cell_dr hj | exact cell_mr hk | exact cell_sr hk) _ (rfl) (by omega) (by decide) ?_
  refine Ev.iconst (pc := 6) (v := (-1)) dW_isFound_6 (by decide) ?_
  refine Ev.cicmp_eq (rfl) ((show (-1 : Int32).toInt = -1 from by decide)) (pc := 7) (tgt := 14) dW_isFound_7 rfl (fun h1 => ?_) (fun h1 => ?_)
  · refine Ev.iconst (pc := 14) (v := 0) dW_isFound_14 (by decide) ?_
    exact Ev.zreturn (b := false) dW_isFound_15 rfl (⟨rfl, ret_f (by simp [fB, h1])⟩)
  refine Ev.iconst (pc := 10) (v := 1) dW_isFound_10 (by decide) ?_
  refine Ev.goto (pc := 11) (tgt := 15) dW_isFound_11 rfl ?_
  exact Ev.zreturn (b := true) dW_isFound_15 rfl (⟨rfl, ret_t (by simp [fB, h1])⟩)
set_option maxHeartbeats 4000000 in
set_option maxRecDepth 100000 in
theorem ct_W_begin {s : Nat} (hs : s < 320) : Ct G mW_begin [.ref (cxa G 23), .int (nI s)] (wl G v b) (fun x w' => ∃ v', w' = wl G v' b ∧ x = none ∧ wFr v v' ∧ bq v' 1 (fun _ => s) (fun _ => 0) (fun _ => 0)) := by
  refine Ct.of (by decide) rfl rfl (Nat.le_of_ble_eq_true rfl) ?_
  refine Ev.aload_n (pc := 0) (i := 0) dW_begin_0 rfl rfl ?_
  refine Ev.gf (pc := 1) dW_begin_1 fl_W_15 (by omega) (rfl) rfl ?_
  refine Ev.iconst (pc := 4) (v := (-1)) dW_begin_4 (by decide) ?_
  refine Ev.callS (pc := 5) dW_begin_5 ks_W_65 ⟨Nat.le_of_ble_eq_true rfl, Nat.le_of_ble_eq_true rfl⟩ (ct_A_fill (-1)) rfl rfl (Nat.le_of_ble_eq_true rfl) ?_
  rintro _ _ ⟨rfl, rfl⟩
  refine Ev.aload_n (pc := 8) (i := 0) dW_begin_8 rfl rfl ?_
  refine Ev.gf (pc := 9) dW_begin_9 fl_W_15 (by omega) (rfl) rfl ?_
  refine Ev.iload_n (pc := 12) (i := 1) dW_begin_12 rfl rfl ?_
  refine Ev.iconst (pc := 13) (v := 0) dW_begin_13 (by decide) ?_
  refine Ev.asti (pc := 14) dW_begin_14 (by omega) (by first | exact fun _ _ => rfl | exact cell_dz hj | exact cell_dr hj | exact cell_mr hk | exact cell_sr hk) _ (rfl) (by omega) (by decide) ?_
  refine Ev.aload_n (pc := 15) (i := 0) dW_begin_15 rfl rfl ?_
  refine Ev.gf (pc := 16) dW_begin_16 fl_W_9 (by omega) (rfl) rfl ?_
  refine Ev.iconst (pc := 19) (v := 0) dW_begin_19 (by decide) ?_
  refine Ev.iload_n (pc := 20) (i := 1) dW_begin_20 rfl rfl ?_
  refine Ev.asti (pc := 21) dW_begin_21 (by omega) (by first | exact fun _ _ => rfl | exact cell_dz hj | exact cell_dr hj | exact cell_mr hk | exact cell_sr hk) 0 (rfl) (by omega) (by decide) ?_
  refine Ev.aload_n (pc := 22) (i := 0) dW_begin_22 rfl rfl ?_
  refine Ev.iconst (pc := 23) (v := 1) dW_begin_23 (by decide) ?_
  refine Ev.puti (pc := 24) dW_begin_24 fl_W_21 fp_W_found (by omega) (rfl) rfl (Nat.le_of_ble_eq_true rfl) ?_
  refine Ev.vreturn dW_begin_27 rfl ⟨_, rfl, rfl, fun p h1 h2 h3 h4 => by rw [sv_p h1, sv_p h2, sv_p h3, up_ne h3], ?_⟩
  refine ⟨by rw [sv_eq]; rfl, by decide, fun k hk => ?_, fun q hq hn => ?_, fun k h0 hk => by omega⟩
  · have : k = 0 := by omega
    subst this
    refine ⟨hs, by rw [sv_p (by decide)]; exact sv_eq, ?_⟩
    rw [sv_p (by decide), sv_p (by decide), sv_eq]
    rfl
  · rw [sv_p (by decide), sv_p (by decide), sv_k (fun e => hn 0 (by decide) e.symm), up_at]
    simp [hq]
end Wy
