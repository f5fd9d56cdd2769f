/-! The reference: plan, the whole of it -/
section Mp2
variable {G : cx_G} {v : Nat → Nat → Int32} {b : Nat → Nat → Bool}
theorem pfr.mdl0 {S : Sg} {v v' : Nat → Nat → Int32} {b b' : Nat → Nat → Bool} (h : mdl v b S) (hF : pfr (sv v 30 10 0) v') (hFb : ∀ p, p ≠ 43 → p ≠ 44 → b' p = (sb (sb b 30 9 false) 30 18 false) p) : mbk v' S ∧ (∀ j, j < 3 → mi v' j (sK S j)) ∧ mjb v' S ∧ b' 30 9 = false ∧ b' 30 18 = false ∧ (∀ p, p < 30 → v' p = v p ∧ b' p = b p) := by
  have h0 : pfr v (sv v 30 10 0) := ⟨fun p a _ _ _ _ _ => sv_p a, fun k hk => sv_k hk⟩
  have hF := h0.tr hF
  exact ⟨h.1.pf hF, fun j hj => (h.2.1 j hj).pf hF, h.2.2.1.pf hF, by rw [hFb 30 (by decide) (by decide), sb_k (by decide), sb_eq], by rw [hFb 30 (by decide) (by decide), sb_eq], fun p hp => ⟨hF.1 p (by omega) (by omega) (by omega) (by omega) (by omega) (by omega), by rw [hFb p (by omega) (by omega), sb_p (by omega), sb_p (by omega)]⟩⟩
set_option maxHeartbeats 4000000 in
set_option maxRecDepth 100000 in

theorem plan_end {S : Sg} {X0 : Nat → Bool} (hg : gd S) (h : mdl v b S) (hr : rdy S = true) (hX : eqX X0 (fillB (sRd S) (sLn S))) {v1 : Nat → Nat → Int32} {b1 : Nat → Nat → Bool} {z : Nat} {l1 l2 l3 l4 : Option Value} (hF : pfr (sv v 30 10 0) v1) (hFb : ∀ p, p ≠ 43 → p ≠ 44 → b1 p = (sb (sb b 30 9 false) 30 18 false) p) (hz : 2000 ≤ z) (hz2 : z < 700000) (hm : ma v1 (mkF (sC S) (sSy S) (sJs S) X0 (sc S)).1 z) (hex : (mkF (sC S) (sSy S) (sJs S) X0 (sc S)).1.1 ≤ 2000 → b1 43 = (mkF (sC S) (sSy S) (sJs S) X0 (sc S)).2) : Ev G mD_plan 122 [some (.ref (cxa G 30)), l1, l2, l3, l4] [] (wl G v1 b1) (cx_e G mD_plan (mdQ G v b (some (.int (aPln S))) (oPln S))) := by
  obtain ⟨m1, m2, m3, m4, m5, m6⟩ := pfr.mdl0 h hF hFb
  obtain ⟨q1, q2⟩ := mkF_eqX (C := sC S) (sy := sSy S) (Js := sJs S) hX (sc S)
  have q1 : (mkF (sC S) (sSy S) (sJs S) X0 (sc S)).1 = (plnR S).1 := q1
  have q2 : eqX (mkF (sC S) (sSy S) (sJs S) X0 (sc S)).2 (plnR S).2 := q2
  have hsub : ∀ c, c < 96 → (mkF (sC S) (sSy S) (sJs S) X0 (sc S)).2 c = true → fillB (sRd S) (sLn S) c = true := fun c hc e => by rw [← hX c hc]; exact mk_sub _ e
  rw [q1] at hm hex
  obtain ⟨c, hc, hcz, hc1, hc2⟩ := hm.lt hz
  refine Ev.aload_n (pc := 122) (i := 0) dD_plan_122 rfl rfl ?_
  refine Ev.gf (pc := 123) dD_plan_123 fl_D_76 (by omega) (rfl) rfl ?_
  refine Ev.topi hc ?_
  refine Ev.sipush (pc := 126) (v := 2000) dD_plan_126 (by decide) ?_
  refine Ev.cicmp_le (nI_toInt (by omega)) ((show (2000 : Int32).toInt = 2000 from by decide)) (pc := 129) (tgt := 139) dD_plan_129 rfl (fun h1 => ?_) (fun h1 => ?_)
  rotate_left
  · have hq : plnQ S = false := by
      have := hc2.mp (by omega)
      unfold plnQ
      rw [decide_eq_false (by omega), Bool.and_false]
    refine Ev.aload_n (pc := 132) (i := 0) dD_plan_132 rfl rfl ?_
    refine Ev.iconst (pc := 133) (v := 0) dD_plan_133 (by decide) ?_
    refine Ev.puti (pc := 134) dD_plan_134 fl_D_76 fp_D_moves (by omega) (rfl) rfl (Nat.le_of_ble_eq_true rfl) ?_
    refine Ev.iconst (pc := 137) (v := (-1)) dD_plan_137 (by decide) ?_
    refine Ev.ireturn .int dD_plan_138 rfl rfl ⟨_, b1, rfl, by rw [aPln, if_f hq], ?_, fun p hp => ⟨by rw [sv_p (by omega)]; exact (m6 p hp).1, (m6 p hp).2⟩⟩
    rw [oPln, if_f hq]
    refine ⟨⟨by rw [sv_k (by decide)]; exact m1.1, by rw [sv_k (by decide)]; exact m1.2.1, by rw [sv_k (by decide)]; exact m1.2.2.1, fun z hz => by rw [sv_p (by decide)]; exact m1.2.2.2 z hz⟩, fun j hj => (m2 j hj).cg (sv_p (by decide)) (sv_p (by decide)) (sv_p (by decide)), ⟨by rw [sv_k (by decide)]; exact m3.1, fun k hk => by rw [sv_p (by decide)]; exact m3.2 k hk⟩, m4, fun _ => sv_eq, fun n p t l e => (by cases e), fun e => ?_, fun _ => fill_eqX.sy⟩
    rw [m5] at e
    cases e
  have ecm : c = (plnR S).1.1 := hc1 (by omega)
  have hle : (plnR S).1.1 ≤ 2000 := by omega
  have hq : plnQ S = true := by
    unfold plnQ
    rw [hr, decide_eq_true hle]
    rfl
  rcases hm with ⟨-, hcn, harr⟩ | ⟨h', -⟩
  rotate_left
  · omega
  have h43 := hex hle
  rw [aPln, if_t hq, oPln, if_t hq]
  generalize hn : (plnR S).1.1 = n at hle hcn harr
  generalize hp : (plnR S).1.2 = p at harr
  refine Ev.aload_n (pc := 139) (i := 0) dD_plan_139 rfl rfl ?_
  refine Ev.iconst (pc := 140) (v := 1) dD_plan_140 (by decide) ?_
  refine Ev.putb (pc := 141) (x := true) dD_plan_141 fl_D_69 fp_D_planned (by omega) (rfl) rfl (Nat.le_of_ble_eq_true rfl) ?_
  refine Ev.aload_n (pc := 144) (i := 0) dD_plan_144 rfl rfl ?_
  refine Ev.iconst (pc := 145) (v := 0) dD_plan_145 (by decide) ?_
  refine Ev.puti (pc := 146) dD_plan_146 fl_D_154 fp_D_remains (by omega) (rfl) rfl (Nat.le_of_ble_eq_true rfl) ?_
  refine Ev.iconst (pc := 149) (v := 0) dD_plan_149 (by decide) ?_
  refine Ev.istore_n (pc := 150) (i := 1) dD_plan_150 rfl (Nat.le_of_ble_eq_true rfl) ?_
  have hb1 : ∀ a, a ≠ 30 → sb b1 30 9 true a = b1 a := fun a ha => sb_p ha
  have cnt : ∀ c, c ≤ 96 → ∀ v' : Nat → Nat → Int32, (∀ a, a ≠ 30 → v' a = v1 a) → (∀ k, k ≠ 17 → v' 30 k = v1 30 k) → v' 30 17 = nI (cntB c (fun c => (plnR S).2 c && wasteB (sRd S) (sLn S) (sSy S) (nI (c / 8)) (nI (c % 8)))) → Ev G mD_plan 151 [some (.ref (cxa G 30)), some (.int (nI c)), l2, l3, l4] [] (wl G v' (sb b1 30 9 true)) (cx_e G mD_plan (mdQ G v b (some (.int (nI n))) (S.1, S.2.1, S.2.2.1, some (n, p, p, plnL S), fillM (sRd S) (sLn S) (sX S) 96))) := by
    refine loopN (fun c hc ih v' f1 f2 f3 => ?_)
    refine Ev.iload_n (pc := 151) (i := 1) dD_plan_151 rfl rfl ?_
    refine Ev.bipush (pc := 152) (v := 96) dD_plan_152 (by decide) ?_
    refine Ev.cicmp_ge (nI_toInt (by omega)) ((show (96 : Int32).toInt = 96 from by decide)) (pc := 154) (tgt := 205) dD_plan_154 rfl (fun h2 => ?_) (fun h2 => ?_)
    · have e : c = 96 := by omega
      subst e
      refine Ev.iconst (pc := 205) (v := 0) dD_plan_205 (by decide) ?_
      refine Ev.istore_n (pc := 206) (i := 1) dD_plan_206 rfl (Nat.le_of_ble_eq_true rfl) ?_
      have cp : ∀ i, i ≤ n → ∀ v2 : Nat → Nat → Int32, undI v' v2 i → Ev G mD_plan 207 [some (.ref (cxa G 30)), some (.int (nI i)), l2, l3, l4] [] (wl G v2 (sb b1 30 9 true)) (cx_e G mD_plan (mdQ G v b (some (.int (nI n))) (S.1, S.2.1, S.2.2.1, some (n, p, p, plnL S), fillM (sRd S) (sLn S) (sX S) 96))) := by
        refine loopN (fun i hi ihi v2 hu => ?_)
        have e10 : v2 30 10 = nI n := by rw [hu.1 30 (by decide) (by decide) (by decide), f2 10 (by decide)]; exact hcn
        refine Ev.iload_n (pc := 207) (i := 1) dD_plan_207 rfl rfl ?_
        refine Ev.aload_n (pc := 208) (i := 0) dD_plan_208 rfl rfl ?_
        refine Ev.gf (pc := 209) dD_plan_209 fl_D_76 (by omega) (rfl) rfl ?_
        refine Ev.topi e10 ?_
        refine Ev.cicmp_ge (nI_toInt (by omega)) (nI_toInt (by omega)) (pc := 212) (tgt := 226) dD_plan_212 rfl (fun h3 => ?_) (fun h3 => ?_)
        · have e : i = n := by omega
          subst e
          refine Ev.aload_n (pc := 226) (i := 0) dD_plan_226 rfl rfl ?_
          refine Ev.gf (pc := 227) dD_plan_227 fl_D_76 (by omega) (rfl) rfl ?_
          have e30 : ∀ k, k ≠ 17 → v2 30 k = v1 30 k := fun k hk => by rw [hu.1 30 (by decide) (by decide) (by decide), f2 k hk]
          have eo : ∀ a, a ≠ 30 → a ≠ 39 → a ≠ 40 → a ≠ 41 → v2 a = v1 a := fun a a1 a2 a3 a4 => by rw [hu.1 a a2 a3 a4, f1 a a1]
          refine Ev.ireturn .int dD_plan_230 rfl rfl ⟨v2, _, rfl, by rw [e10], ⟨⟨by rw [e30 0 (by decide)]; exact m1.1, by rw [e30 1 (by decide)]; exact m1.2.1, by rw [e30 2 (by decide)]; exact m1.2.2.1, fun z hz => by rw [eo 31 (by decide) (by decide) (by decide) (by decide)]; exact m1.2.2.2 z hz⟩, fun j hj => (m2 j hj).cg (eo 32 (by decide) (by decide) (by decide) (by decide)) (eo 33 (by decide) (by decide) (by decide) (by decide)) (eo 34 (by decide) (by decide) (by decide) (by decide)), ⟨by rw [e30 7 (by decide)]; exact m3.1, fun k hk => by rw [eo 35 (by decide) (by decide) (by decide) (by decide)]; exact m3.2 k hk⟩, by rw [sb_eq]; rfl, fun e => (by cases e), fun n' p' t' l' e => ?_, fun e => ?_, fun _ => fill_eqX.sy⟩, fun p hp => ⟨by rw [eo p (by omega) (by omega) (by omega) (by omega)]; exact (m6 p hp).1, by rw [sb_p (by omega)]; exact (m6 p hp).2⟩⟩
          · cases e
            refine ⟨e10, by rw [hu.1 30 (by decide) (by decide) (by decide)]; exact f3, fun a ha => ?_, fun a ha => ?_⟩
            · rw [eo 36 (by decide) (by decide) (by decide) (by decide), eo 37 (by decide) (by decide) (by decide) (by decide), eo 38 (by decide) (by decide) (by decide) (by decide)]
              exact harr a ha
            · obtain ⟨u1, u2, u3⟩ := hu.2.2 a ha
              rw [u1, u2, u3, f1 36 (by decide), f1 37 (by decide), f1 38 (by decide)]
              exact harr a ha
          · rw [sb_k (by decide), m5] at e
            cases e
        · refine Ev.aload_n (pc := 215) (i := 0) dD_plan_215 rfl rfl ?_
          refine Ev.iload_n (pc := 216) (i := 1) dD_plan_216 rfl rfl ?_
          refine Ev.callV (pc := 217) dD_plan_217 kv_D_157 ⟨Nat.le_of_ble_eq_true rfl, Nat.le_of_ble_eq_true rfl⟩ (wl_at (by decide) rfl) rfl rfl (ct_D_copyBack (k := i) (by omega)) rfl rfl (Nat.le_of_ble_eq_true rfl) ?_
          rintro _ _ ⟨rfl, rfl⟩
          refine Ev.iinc (pc := 220) dD_plan_220 rfl (cx_inc _) (Nat.le_of_ble_eq_true rfl) ?_
          refine Ev.goto (pc := 223) (tgt := 207) dD_plan_223 rfl ?_
          exact ihi (by omega) _ hu.step
      exact cp 0 (Nat.zero_le _) v' ⟨fun _ _ _ _ => rfl, fun _ _ => ⟨rfl, rfl, rfl⟩, fun k hk => absurd hk (by omega)⟩
    have hlt : c < 96 := by omega
    have ih := ih hlt
    have fin : ∀ (x : Int32), x = nI (cntB (c + 1) (fun c => (plnR S).2 c && wasteB (sRd S) (sLn S) (sSy S) (nI (c / 8)) (nI (c % 8)))) → Ev G mD_plan 196 [some (.ref (cxa G 30)), some (.int (nI c)), l2, l3, l4] [.int x, .ref (cxa G 30)] (wl G v' (sb b1 30 9 true)) (cx_e G mD_plan (mdQ G v b (some (.int (nI n))) (S.1, S.2.1, S.2.2.1, some (n, p, p, plnL S), fillM (sRd S) (sLn S) (sX S) 96))) := by
      intro x hx
      refine Ev.puti (pc := 196) dD_plan_196 fl_D_154 fp_D_remains (by omega) (rfl) rfl (Nat.le_of_ble_eq_true rfl) ?_
      refine Ev.iinc (pc := 199) dD_plan_199 rfl (cx_inc _) (Nat.le_of_ble_eq_true rfl) ?_
      refine Ev.goto (pc := 202) (tgt := 151) dD_plan_202 rfl ?_
      exact ih _ (fun a ha => by rw [sv_p ha]; exact f1 a ha) (fun k hk => by rw [sv_k hk]; exact f2 k hk) (by rw [sv_eq]; exact hx)
    have same : ((plnR S).2 c && wasteB (sRd S) (sLn S) (sSy S) (nI (c / 8)) (nI (c % 8))) = false → Ev G mD_plan 192 [some (.ref (cxa G 30)), some (.int (nI c)), l2, l3, l4] [.ref (cxa G 30)] (wl G v' (sb b1 30 9 true)) (cx_e G mD_plan (mdQ G v b (some (.int (nI n))) (S.1, S.2.1, S.2.2.1, some (n, p, p, plnL S), fillM (sRd S) (sLn S) (sX S) 96))) := by
      intro hs
      refine Ev.aload_n (pc := 192) (i := 0) dD_plan_192 rfl rfl ?_
      refine Ev.gf (pc := 193) dD_plan_193 fl_D_154 (by omega) (rfl) rfl ?_
      refine fin _ ?_
      rw [f3, cntB, if_neg (by rw [hs]; decide)]
      rfl
    have ex : b1 43 c = (plnR S).2 c := by rw [h43]; exact q2 c hlt
    refine Ev.aload_n (pc := 157) (i := 0) dD_plan_157 rfl rfl ?_
    refine Ev.aload_n (pc := 158) (i := 0) dD_plan_158 rfl rfl ?_
    refine Ev.gf (pc := 159) dD_plan_159 fl_D_57 (by omega) (rfl) rfl ?_
    refine Ev.iload_n (pc := 162) (i := 1) dD_plan_162 rfl rfl ?_
    refine Ev.aldb (pc := 163) dD_plan_163 (by omega) (by first | exact fun _ _ => rfl | exact cell_dz hj | exact cell_dr hj | exact cell_mr hk | exact cell_sr hk) _ (rfl) (by omega) (by decide) ?_
    refine Ev.topi (y := bI ((plnR S).2 c)) (by rw [hb1 43 (by decide), ex]) ?_
    refine Ev.if_eqB (pc := 164) (tgt := 192) dD_plan_164 rfl (fun h3 => ?_) (fun h3 => ?_)
    · exact same (by rw [h3]; rfl)
    refine Ev.iload_n (pc := 167) (i := 1) dD_plan_167 rfl rfl ?_
    refine Ev.bipush (pc := 168) (v := 8) dD_plan_168 (by decide) ?_
    refine Ev.irem (pc := 170) dD_plan_170 (by decide) ?_
    refine Ev.topi (c8_rem hlt) ?_
    refine Ev.aload_n (pc := 171) (i := 0) dD_plan_171 rfl rfl ?_
    refine Ev.gf (pc := 172) dD_plan_172 fl_D_19 (by omega) (rfl) rfl ?_
    refine Ev.iload_n (pc := 175) (i := 1) dD_plan_175 rfl rfl ?_
    refine Ev.bipush (pc := 176) (v := 8) dD_plan_176 (by decide) ?_
    refine Ev.idiv (pc := 178) dD_plan_178 (by decide) ?_
    refine Ev.topi (c8_div hlt) ?_
    refine Ev.aldi (pc := 179) dD_plan_179 (by omega) (by first | exact fun _ _ => rfl | exact cell_dz hj | exact cell_dr hj | exact cell_mr hk | exact cell_sr hk) _ (rfl) (by omega) (by decide) ?_
    refine Ev.topi (y := sSy S (c / 8)) (by rw [f1 31 (by decide)]; exact m1.2.2.2 _ (by omega)) ?_
    have ew : wasteB (sRd S) (sLn S) (sSy S) (nI (c / 8)) (nI (c % 8)) = true ↔ (sSy S (c / 8)).toInt ≤ (nI (c % 8)).toInt := by
      rw [wasteB_iff, nI_toInt (n := c / 8) (by omega)]
      refine ⟨fun e => e.2, fun e => ⟨?_, e⟩⟩
      exact hsub c hlt (by rw [q2 c hlt]; exact h3)
    refine Ev.cicmp_lt (rfl) (rfl) (pc := 180) (tgt := 192) dD_plan_180 rfl (fun h4 => ?_) (fun h4 => ?_)
    · exact same (by rw [bf (e := wasteB _ _ _ _ _) (fun e => by have := ew.mp e; omega), Bool.and_false])
    · refine Ev.aload_n (pc := 183) (i := 0) dD_plan_183 rfl rfl ?_
      refine Ev.gf (pc := 184) dD_plan_184 fl_D_154 (by omega) (rfl) rfl ?_
      refine Ev.iconst (pc := 187) (v := 1) dD_plan_187 (by decide) ?_
      refine Ev.iadd (pc := 188) dD_plan_188 ?_
      refine Ev.goto (pc := 189) (tgt := 196) dD_plan_189 rfl ?_
      refine fin _ ?_
      rw [f3, cntB, if_pos (by rw [h3, ew.mpr (by omega)]; rfl)]
      exact (nI_succ _).symm
  exact cnt 0 (Nat.zero_le _) _ (fun a ha => sv_p ha) (fun k hk => sv_k hk) (by rw [sv_eq]; rfl)
end Mp2
