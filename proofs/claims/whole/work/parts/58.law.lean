/-! The law: its script, its loop, its end -/
theorem cls.lo {v v' : Nat → Nat → Int32} {b b' : Nat → Nat → Bool} {S : Sg} (h : cls v b S) (f : ∀ p, p < 30 → v' p = v p ∧ b' p = b p) : cls v' b' S := by
  have fv : ∀ p, p < 30 → v' p = v p := fun p hp => (f p hp).1
  have fb : ∀ p, p < 30 → b' p = b p := fun p hp => (f p hp).2
  refine ⟨by rw [fv 1 (by decide), fv 2 (by decide)]; exact h.1, fun j hj => ?_, ?_, by rw [fb 0 (by decide)]; exact h.2.2.2.1, fun n p t l e => ?_, by rw [fb 20 (by decide)]; exact h.2.2.2.2.2⟩
  · obtain ⟨h1, h2, h3, h4⟩ := h.2.1 j hj
    exact ⟨by rw [fv _ (by omega)]; exact h1, h2, by rw [fv _ (by omega)]; exact h3, by rw [fv _ (by omega)]; exact h4⟩
  · obtain ⟨h1, h2, h3⟩ := h.2.2.1
    exact ⟨h1, by rw [fv 13 (by decide)]; exact h2, fun a ha => by rw [fv 14 (by decide)]; exact h3 a ha⟩
  · obtain ⟨⟨a1, a2, a3⟩, ⟨c1, c2, c3⟩, h3⟩ := h.2.2.2.2.1 n p t l e
    exact ⟨⟨by rw [fv 15 (by decide)]; exact a1, a2, fun i hi => by rw [fv (15 + 1) (by decide)]; exact a3 i hi⟩, ⟨by rw [fv 17 (by decide)]; exact c1, c2, fun i hi => by rw [fv (17 + 1) (by decide)]; exact c3 i hi⟩, by rw [fv 0 (by decide)]; exact h3⟩
theorem mdl.hi {v v' : Nat → Nat → Int32} {b b' : Nat → Nat → Bool} {S : Sg} (h : mdl v b S) (f : ∀ p, 30 ≤ p → v' p = v p ∧ b' p = b p) : mdl v' b' S := by
  have fv : ∀ p, 30 ≤ p → v' p = v p := fun p hp => (f p hp).1
  have f30 : b' 30 = b 30 := (f 30 (by decide)).2
  have f42 : b' 42 = b 42 := (f 42 (by decide)).2
  unfold mdl mbk mb mi mjb mpl
  rw [fv 30 (by decide), fv 31 (by decide), fv 32 (by decide), fv 33 (by decide), fv 34 (by decide), fv 35 (by decide), fv 36 (by decide), fv 37 (by decide), fv 38 (by decide), fv 39 (by decide), fv 40 (by decide), fv 41 (by decide), f30, f42]
  exact h
/-- what the law knows of its start -/
def lwF (G : cx_G) (b L : Nat) (xs : Nat → Int32) (s : State) (args : Array Value) : Prop := va_X b L xs s s.heap ∧ b < s.heap.size ∧ args = #[Value.ref b] ∧ ∀ k, k < cxn G → s.heap.size ≤ cxa G k
def lwE (G : cx_G) (b L : Nat) (xs : Nat → Int32) : cx_E := (room_1, 47, 18836, fun args below s t => lwF G b L xs s args → lw_Z below args s t)
theorem lwF.na {G : cx_G} {b L : Nat} {xs : Nat → Int32} {s : State} {args : Array Value} (h : lwF G b L xs s args) : ¬ cx_A G b := by
  rintro ⟨k, hk, e⟩
  have := h.2.2.2 k hk
  have := h.2.1
  rw [e] at this
  omega
theorem code_law : code = Mc mL_law := rfl
section Lw
variable {G : cx_G} {b L : Nat} {xs : Nat → Int32}
theorem Ev.lno {p : Program} {l : Launch} {e : Env} {s : State} {m : MethodId} {args : Array Value} {below : List Frame} {meth : Method} {c : Code} {H : Heap} {locs : List Loc} {g : JFrame} (h : ¬ lwF G b L xs s args) : W p l e (lwE G b L xs).1 s m args below meth c H locs (lwE G b L xs).2.1 (lwE G b L xs).2.2.1 ((lwE G b L xs).2.2.2 args below s) g :=
  fun T _ _ => ⟨_, Steps.refl _, fun q => absurd q h⟩
theorem Ev.sld {M : cx_M} {pc j : Nat} {x : Int32} {Ls : List (Option Value)} {S : List Value} {w : List va_E} (d : decode (Mc M) pc = .ok (.iaload, 1)) (hx : x = nI j) (hj : j < L) (hL : L ≤ 2560) (k : Ev G M (pc + 1) Ls (.int (xs j) :: S) w (lwE G b L xs)) : Ev G M pc Ls (.int x :: .ref b :: S) w (lwE G b L xs) := by
  intro p l e s m args below meth c H locs ls hE hC hw hP hS hLs
  by_cases hf : lwF G b L xs s args
  · subst hx
    have hi : (nI j).toInt = (j : Int) := nI_toInt (by omega)
    have hc : (nI j).toNatClampNeg = j := by
      show (nI j).toInt.toNat = j
      rw [hi]
      rfl
    refine va_sld hC.1 hC.2.1 hf.1 hf.2.1 hf.na hS (i := nI j) ?_ d ?_
    · rintro (h | h)
      · have h := Int32.lt_iff_toInt_lt.mp h
        rw [hi] at h
        have h : (j : Int) < 0 := h
        omega
      · rw [hc] at h
        omega
    · rw [hc]
      exact k p l e s m args below meth c H locs ls hE hC hw hP hS hLs
  · exact Ev.lno hf
theorem Ev.slen {M : cx_M} {pc : Nat} {Ls : List (Option Value)} {S : List Value} {w : List va_E} (d : decode (Mc M) pc = .ok (.arraylength, 1)) (k : Ev G M (pc + 1) Ls (.int (nI L) :: S) w (lwE G b L xs)) : Ev G M pc Ls (.ref b :: S) w (lwE G b L xs) := by
  intro p l e s m args below meth c H locs ls hE hC hw hP hS hLs
  by_cases hf : lwF G b L xs s args
  · exact va_slen hC.1 hC.2.1 hf.1 hf.2.1 hf.na hS d (k p l e s m args below meth c H locs ls hE hC hw hP hS hLs)
  · exact Ev.lno hf
theorem Ev.lend {Ls : List (Option Value)} {w : List va_E} : Ev G mL_law 614 Ls [.int 1] w (lwE G b L xs) := by
  intro p l e s m args below meth c H locs ls hE hC hw hP hS hLs
  by_cases hf : lwF G b L xs s args
  · obtain ⟨f1, f2, rfl, f4⟩ := hf
    have hk : W p l e room_1 s m #[Value.ref b] below meth c H [] 47 18836 (lw_Z below #[Value.ref b] s) (F0 m 614 ls [.int 1]) := lw_ret hC.1 (hC.2.1.trans code_law.symm) (hC.2.2.1.trans rfl) hC.2.2.2.2.2.1 (by rw [code_law]; exact dL_law_614)
    have hk := hk.forget (L := locs) (fun q hq => by
      obtain ⟨k, k1, k2⟩ := hS.2.2 q hq
      have := f4 k k1
      rw [k2]
      exact this)
    rw [List.nil_append] at hk
    intro T hT X
    obtain ⟨t, t1, t2⟩ := hk T hT X
    exact ⟨t, t1, fun _ => t2⟩
  · exact Ev.lno hf
theorem ix_1 (i : Nat) : nI i + 1 = nI (i + 1) := (nI_succ i).symm
theorem ix_2 (i : Nat) : nI i + 2 = nI (i + 2) := nI_add i 2
theorem ix_3 (i : Nat) : nI i + 3 = nI (i + 3) := nI_add i 3
theorem ix_4 (i : Nat) : nI i + 4 = nI (i + 4) := nI_add i 4
theorem ix_5 (i : Nat) : nI i + Int32.ofInt 5 = nI (i + 5) := nI_add i 5
set_option maxHeartbeats 8000000 in
set_option maxRecDepth 100000 in
theorem law_loop (hL : L ≤ 2560) : ∀ (f i : Nat) (v : Nat → Nat → Int32) (bb : Nat → Nat → Bool) (S : Sg), L ≤ i + f → i ≤ 3000 → gd S → cls v bb S → mdl v bb S → Ev G mL_law 18 [some (.ref b), some (.ref (cxa G 0)), some (.ref (cxa G 30)), some (.int (nI i))] [] (wl G v bb) (lwE G b L xs) := by
  intro f
  induction f with
  | zero =>
    intro i v bb S hf hi hg hc hm
    have hI : (nI L - 5).toInt = (L : Int) - 5 := by rw [i3_sub (by rw [nI_toInt (by omega)]; omega) (by rw [nI_toInt (by omega)]; omega) (by decide) (by decide), nI_toInt (by omega)]; rfl
    refine Ev.iload_n (pc := 18) (i := 3) dL_law_18 rfl rfl ?_
    refine Ev.aload_n (pc := 19) (i := 0) dL_law_19 rfl rfl ?_
    refine Ev.slen (pc := 20) dL_law_20 ?_
    refine Ev.iconst (pc := 21) (v := 5) dL_law_21 (by decide) ?_
    refine Ev.isub (pc := 22) dL_law_22 ?_
    refine Ev.cicmp_gt (nI_toInt (by omega)) (hI) (pc := 23) (tgt := 613) dL_law_23 rfl (fun h1 => ?_) (fun h1 => ?_)
    · refine Ev.iconst (pc := 613) (v := 1) dL_law_613 (by decide) ?_
      exact Ev.lend
    · omega
  | succ f ih =>
    intro i v bb S hf hi hg hc hm
    have hI : (nI L - 5).toInt = (L : Int) - 5 := by rw [i3_sub (by rw [nI_toInt (by omega)]; omega) (by rw [nI_toInt (by omega)]; omega) (by decide) (by decide), nI_toInt (by omega)]; rfl
    refine Ev.iload_n (pc := 18) (i := 3) dL_law_18 rfl rfl ?_
    refine Ev.aload_n (pc := 19) (i := 0) dL_law_19 rfl rfl ?_
    refine Ev.slen (pc := 20) dL_law_20 ?_
    refine Ev.iconst (pc := 21) (v := 5) dL_law_21 (by decide) ?_
    refine Ev.isub (pc := 22) dL_law_22 ?_
    refine Ev.cicmp_gt (nI_toInt (by omega)) (hI) (pc := 23) (tgt := 613) dL_law_23 rfl (fun h1 => ?_) (fun h1 => ?_)
    · refine Ev.iconst (pc := 613) (v := 1) dL_law_613 (by decide) ?_
      exact Ev.lend
    have next : ∀ (v' : Nat → Nat → Int32) (b' : Nat → Nat → Bool) (S' : Sg), gd S' → cls v' b' S' → mdl v' b' S' → Ev G mL_law 607 [some (.ref b), some (.ref (cxa G 0)), some (.ref (cxa G 30)), some (.int (nI i))] [] (wl G v' b') (lwE G b L xs) := by
      intro v' b' S' g1 g2 g3
      refine Ev.iinc (pc := 607) dL_law_607 rfl (ix_5 _) (Nat.le_of_ble_eq_true rfl) ?_
      refine Ev.goto (pc := 610) (tgt := 18) dL_law_610 rfl ?_
      exact ih (i + 5) v' b' S' (by omega) (by omega) g1 g2 g3
    refine Ev.aload_n (pc := 26) (i := 0) dL_law_26 rfl rfl ?_
    refine Ev.iload_n (pc := 27) (i := 3) dL_law_27 rfl rfl ?_
    refine Ev.sld (pc := 28) dL_law_28 rfl (by omega) hL ?_
    refine Ev.bipush (pc := 29) (v := 31) dL_law_29 (by decide) ?_
    refine Ev.iand (pc := 31) dL_law_31 ?_
    generalize xs i &&& 31 = op
    by_cases o0 : op.toInt = 0
    · refine Ev.tableIn (pc := 32) (tgt := 116) dL_law_32 0 (by rw [o0]; rfl) (by decide) rfl rfl ?_
      refine Ev.aload_n (pc := 116) (i := 1) dL_law_116 rfl rfl ?_
      refine Ev.aload_n (pc := 117) (i := 0) dL_law_117 rfl rfl ?_
      refine Ev.iload_n (pc := 118) (i := 3) dL_law_118 rfl rfl ?_
      refine Ev.iconst (pc := 119) (v := 1) dL_law_119 (by decide) ?_
      refine Ev.iadd (pc := 120) dL_law_120 ?_
      refine Ev.sld (pc := 121) dL_law_121 (ix_1 _) (by omega) hL ?_
      refine Ev.aload_n (pc := 122) (i := 0) dL_law_122 rfl rfl ?_
      refine Ev.iload_n (pc := 123) (i := 3) dL_law_123 rfl rfl ?_
      refine Ev.iconst (pc := 124) (v := 2) dL_law_124 (by decide) ?_
      refine Ev.iadd (pc := 125) dL_law_125 ?_
      refine Ev.sld (pc := 126) dL_law_126 (ix_2 _) (by omega) hL ?_
      refine Ev.aload_n (pc := 127) (i := 0) dL_law_127 rfl rfl ?_
      refine Ev.iload_n (pc := 128) (i := 3) dL_law_128 rfl rfl ?_
      refine Ev.iconst (pc := 129) (v := 3) dL_law_129 (by decide) ?_
      refine Ev.iadd (pc := 130) dL_law_130 ?_
      refine Ev.sld (pc := 131) dL_law_131 (ix_3 _) (by omega) hL ?_
      refine Ev.callV (pc := 132) dL_law_132 kv_L_13 ⟨Nat.le_of_ble_eq_true rfl, Nat.le_of_ble_eq_true rfl⟩ (wl_at (by decide) rfl) rfl rfl (ct_T_bar hc _ _ _) rfl rfl (Nat.le_of_ble_eq_true rfl) ?_
      rintro _ _ ⟨v1, b1, rfl, rfl, hc1, hF1⟩
      have hm1 := hm.hi hF1
      refine Ev.aload_n (pc := 135) (i := 2) dL_law_135 rfl rfl ?_
      refine Ev.aload_n (pc := 136) (i := 0) dL_law_136 rfl rfl ?_
      refine Ev.iload_n (pc := 137) (i := 3) dL_law_137 rfl rfl ?_
      refine Ev.iconst (pc := 138) (v := 1) dL_law_138 (by decide) ?_
      refine Ev.iadd (pc := 139) dL_law_139 ?_
      refine Ev.sld (pc := 140) dL_law_140 (ix_1 _) (by omega) hL ?_
      refine Ev.aload_n (pc := 141) (i := 0) dL_law_141 rfl rfl ?_
      refine Ev.iload_n (pc := 142) (i := 3) dL_law_142 rfl rfl ?_
      refine Ev.iconst (pc := 143) (v := 2) dL_law_143 (by decide) ?_
      refine Ev.iadd (pc := 144) dL_law_144 ?_
      refine Ev.sld (pc := 145) dL_law_145 (ix_2 _) (by omega) hL ?_
      refine Ev.aload_n (pc := 146) (i := 0) dL_law_146 rfl rfl ?_
      refine Ev.iload_n (pc := 147) (i := 3) dL_law_147 rfl rfl ?_
      refine Ev.iconst (pc := 148) (v := 3) dL_law_148 (by decide) ?_
      refine Ev.iadd (pc := 149) dL_law_149 ?_
      refine Ev.sld (pc := 150) dL_law_150 (ix_3 _) (by omega) hL ?_
      refine Ev.callV (pc := 151) dL_law_151 kv_L_17 ⟨Nat.le_of_ble_eq_true rfl, Nat.le_of_ble_eq_true rfl⟩ (wl_at (by decide) rfl) rfl rfl (ct_D_bar hm1 _ _ _) rfl rfl (Nat.le_of_ble_eq_true rfl) ?_
      rintro _ _ ⟨v2, b2, rfl, rfl, hm2, hF2⟩
      refine Ev.cicmp_eq rfl rfl (pc := 154) (tgt := 607) dL_law_154 rfl (fun _ => ?_) (fun q => absurd rfl q)
      exact next v2 b2 _ (gd_bar hg _ _ _) (hc1.lo hF2) hm2
    by_cases o1 : op.toInt = 1
    · refine Ev.tableIn (pc := 32) (tgt := 159) dL_law_32 1 (by rw [o1]; rfl) (by decide) rfl rfl ?_
      refine Ev.aload_n (pc := 159) (i := 1) dL_law_159 rfl rfl ?_
      refine Ev.aload_n (pc := 160) (i := 0) dL_law_160 rfl rfl ?_
      refine Ev.iload_n (pc := 161) (i := 3) dL_law_161 rfl rfl ?_
      refine Ev.iconst (pc := 162) (v := 1) dL_law_162 (by decide) ?_
      refine Ev.iadd (pc := 163) dL_law_163 ?_
      refine Ev.sld (pc := 164) dL_law_164 (ix_1 _) (by omega) hL ?_
      refine Ev.aload_n (pc := 165) (i := 0) dL_law_165 rfl rfl ?_
      refine Ev.iload_n (pc := 166) (i := 3) dL_law_166 rfl rfl ?_
      refine Ev.iconst (pc := 167) (v := 2) dL_law_167 (by decide) ?_
      refine Ev.iadd (pc := 168) dL_law_168 ?_
      refine Ev.sld (pc := 169) dL_law_169 (ix_2 _) (by omega) hL ?_
      refine Ev.callV (pc := 170) dL_law_170 kv_L_18 ⟨Nat.le_of_ble_eq_true rfl, Nat.le_of_ble_eq_true rfl⟩ (wl_at (by decide) rfl) rfl rfl (ct_T_profile hc _ _) rfl rfl (Nat.le_of_ble_eq_true rfl) ?_
      rintro _ _ ⟨v1, b1, rfl, rfl, hc1, hF1⟩
      have hm1 := hm.hi hF1
      refine Ev.aload_n (pc := 173) (i := 2) dL_law_173 rfl rfl ?_
      refine Ev.aload_n (pc := 174) (i := 0) dL_law_174 rfl rfl ?_
      refine Ev.iload_n (pc := 175) (i := 3) dL_law_175 rfl rfl ?_
      refine Ev.iconst (pc := 176) (v := 1) dL_law_176 (by decide) ?_
      refine Ev.iadd (pc := 177) dL_law_177 ?_
      refine Ev.sld (pc := 178) dL_law_178 (ix_1 _) (by omega) hL ?_
      refine Ev.aload_n (pc := 179) (i := 0) dL_law_179 rfl rfl ?_
      refine Ev.iload_n (pc := 180) (i := 3) dL_law_180 rfl rfl ?_
      refine Ev.iconst (pc := 181) (v := 2) dL_law_181 (by decide) ?_
      refine Ev.iadd (pc := 182) dL_law_182 ?_
      refine Ev.sld (pc := 183) dL_law_183 (ix_2 _) (by omega) hL ?_
      refine Ev.callV (pc := 184) dL_law_184 kv_L_22 ⟨Nat.le_of_ble_eq_true rfl, Nat.le_of_ble_eq_true rfl⟩ (wl_at (by decide) rfl) rfl rfl (ct_D_profile hm1 _ _) rfl rfl (Nat.le_of_ble_eq_true rfl) ?_
      rintro _ _ ⟨v2, b2, rfl, rfl, hm2, hF2⟩
      refine Ev.cicmp_eq rfl rfl (pc := 187) (tgt := 607) dL_law_187 rfl (fun _ => ?_) (fun q => absurd rfl q)
      exact next v2 b2 _ (gd_pro hg _ _) (hc1.lo hF2) hm2
    by_cases o2 : op.toInt = 2
    · refine Ev.tableIn (pc := 32) (tgt := 192) dL_law_32 2 (by rw [o2]; rfl) (by decide) rfl rfl ?_
      refine Ev.aload_n (pc := 192) (i := 1) dL_law_192 rfl rfl ?_
      refine Ev.aload_n (pc := 193) (i := 0) dL_law_193 rfl rfl ?_
      refine Ev.iload_n (pc := 194) (i := 3) dL_law_194 rfl rfl ?_
      refine Ev.iconst (pc := 195) (v := 1) dL_law_195 (by decide) ?_
      refine Ev.iadd (pc := 196) dL_law_196 ?_
      refine Ev.sld (pc := 197) dL_law_197 (ix_1 _) (by omega) hL ?_
      refine Ev.aload_n (pc := 198) (i := 0) dL_law_198 rfl rfl ?_
      refine Ev.iload_n (pc := 199) (i := 3) dL_law_199 rfl rfl ?_
      refine Ev.iconst (pc := 200) (v := 2) dL_law_200 (by decide) ?_
      refine Ev.iadd (pc := 201) dL_law_201 ?_
      refine Ev.sld (pc := 202) dL_law_202 (ix_2 _) (by omega) hL ?_
      refine Ev.aload_n (pc := 203) (i := 0) dL_law_203 rfl rfl ?_
      refine Ev.iload_n (pc := 204) (i := 3) dL_law_204 rfl rfl ?_
      refine Ev.iconst (pc := 205) (v := 3) dL_law_205 (by decide) ?_
      refine Ev.iadd (pc := 206) dL_law_206 ?_
      refine Ev.sld (pc := 207) dL_law_207 (ix_3 _) (by omega) hL ?_
      refine Ev.callV (pc := 208) dL_law_208 kv_L_23 ⟨Nat.le_of_ble_eq_true rfl, Nat.le_of_ble_eq_true rfl⟩ (wl_at (by decide) rfl) rfl rfl (ct_T_spot hc _ _ _) rfl rfl (Nat.le_of_ble_eq_true rfl) ?_
      rintro _ _ ⟨v1, b1, rfl, rfl, hc1, hF1⟩
      have hm1 := hm.hi hF1
      refine Ev.aload_n (pc := 211) (i := 2) dL_law_211 rfl rfl ?_
      refine Ev.aload_n (pc := 212) (i := 0) dL_law_212 rfl rfl ?_
      refine Ev.iload_n (pc := 213) (i := 3) dL_law_213 rfl rfl ?_
      refine Ev.iconst (pc := 214) (v := 1) dL_law_214 (by decide) ?_
      refine Ev.iadd (pc := 215) dL_law_215 ?_
      refine Ev.sld (pc := 216) dL_law_216 (ix_1 _) (by omega) hL ?_
      refine Ev.aload_n (pc := 217) (i := 0) dL_law_217 rfl rfl ?_
      refine Ev.iload_n (pc := 218) (i := 3) dL_law_218 rfl rfl ?_
      refine Ev.iconst (pc := 219) (v := 2) dL_law_219 (by decide) ?_
      refine Ev.iadd (pc := 220) dL_law_220 ?_
      refine Ev.sld (pc := 221) dL_law_221 (ix_2 _) (by omega) hL ?_
      refine Ev.aload_n (pc := 222) (i := 0) dL_law_222 rfl rfl ?_
      refine Ev.iload_n (pc := 223) (i := 3) dL_law_223 rfl rfl ?_
      refine Ev.iconst (pc := 224) (v := 3) dL_law_224 (by decide) ?_
      refine Ev.iadd (pc := 225) dL_law_225 ?_
      refine Ev.sld (pc := 226) dL_law_226 (ix_3 _) (by omega) hL ?_
      refine Ev.callV (pc := 227) dL_law_227 kv_L_26 ⟨Nat.le_of_ble_eq_true rfl, Nat.le_of_ble_eq_true rfl⟩ (wl_at (by decide) rfl) rfl rfl (ct_D_spot hm1 _ _ _) rfl rfl (Nat.le_of_ble_eq_true rfl) ?_
      rintro _ _ ⟨v2, b2, rfl, rfl, hm2, hF2⟩
      refine Ev.cicmp_eq rfl rfl (pc := 230) (tgt := 607) dL_law_230 rfl (fun _ => ?_) (fun q => absurd rfl q)
      exact next v2 b2 _ (gd_spo hg _ _ _) (hc1.lo hF2) hm2
    by_cases o3 : op.toInt = 3
    · refine Ev.tableIn (pc := 32) (tgt := 235) dL_law_32 3 (by rw [o3]; rfl) (by decide) rfl rfl ?_
      refine Ev.aload_n (pc := 235) (i := 1) dL_law_235 rfl rfl ?_
      refine Ev.aload_n (pc := 236) (i := 0) dL_law_236 rfl rfl ?_
      refine Ev.iload_n (pc := 237) (i := 3) dL_law_237 rfl rfl ?_
      refine Ev.iconst (pc := 238) (v := 1) dL_law_238 (by decide) ?_
      refine Ev.iadd (pc := 239) dL_law_239 ?_
      refine Ev.sld (pc := 240) dL_law_240 (ix_1 _) (by omega) hL ?_
      refine Ev.callV (pc := 241) dL_law_241 kv_L_27 ⟨Nat.le_of_ble_eq_true rfl, Nat.le_of_ble_eq_true rfl⟩ (wl_at (by decide) rfl) rfl rfl (ct_T_clear hc _) rfl rfl (Nat.le_of_ble_eq_true rfl) ?_
      rintro _ _ ⟨v1, b1, rfl, rfl, hc1, hF1⟩
      have hm1 := hm.hi hF1
      refine Ev.aload_n (pc := 244) (i := 2) dL_law_244 rfl rfl ?_
      refine Ev.aload_n (pc := 245) (i := 0) dL_law_245 rfl rfl ?_
      refine Ev.iload_n (pc := 246) (i := 3) dL_law_246 rfl rfl ?_
      refine Ev.iconst (pc := 247) (v := 1) dL_law_247 (by decide) ?_
      refine Ev.iadd (pc := 248) dL_law_248 ?_
      refine Ev.sld (pc := 249) dL_law_249 (ix_1 _) (by omega) hL ?_
      refine Ev.callV (pc := 250) dL_law_250 kv_L_31 ⟨Nat.le_of_ble_eq_true rfl, Nat.le_of_ble_eq_true rfl⟩ (wl_at (by decide) rfl) rfl rfl (ct_D_clear hm1 _) rfl rfl (Nat.le_of_ble_eq_true rfl) ?_
      rintro _ _ ⟨v2, b2, rfl, rfl, hm2, hF2⟩
      refine Ev.cicmp_eq rfl rfl (pc := 253) (tgt := 607) dL_law_253 rfl (fun _ => ?_) (fun q => absurd rfl q)
      exact next v2 b2 _ (gd_clr hg _) (hc1.lo hF2) hm2
    by_cases o4 : op.toInt = 4
    · refine Ev.tableIn (pc := 32) (tgt := 258) dL_law_32 4 (by rw [o4]; rfl) (by decide) rfl rfl ?_
      refine Ev.aload_n (pc := 258) (i := 1) dL_law_258 rfl rfl ?_
      refine Ev.aload_n (pc := 259) (i := 0) dL_law_259 rfl rfl ?_
      refine Ev.iload_n (pc := 260) (i := 3) dL_law_260 rfl rfl ?_
      refine Ev.iconst (pc := 261) (v := 1) dL_law_261 (by decide) ?_
      refine Ev.iadd (pc := 262) dL_law_262 ?_
      refine Ev.sld (pc := 263) dL_law_263 (ix_1 _) (by omega) hL ?_
      refine Ev.callV (pc := 264) dL_law_264 kv_L_32 ⟨Nat.le_of_ble_eq_true rfl, Nat.le_of_ble_eq_true rfl⟩ (wl_at (by decide) rfl) rfl rfl (ct_T_choose hc _) rfl rfl (Nat.le_of_ble_eq_true rfl) ?_
      rintro _ _ ⟨v1, b1, rfl, rfl, hc1, hF1⟩
      have hm1 := hm.hi hF1
      refine Ev.aload_n (pc := 267) (i := 2) dL_law_267 rfl rfl ?_
      refine Ev.aload_n (pc := 268) (i := 0) dL_law_268 rfl rfl ?_
      refine Ev.iload_n (pc := 269) (i := 3) dL_law_269 rfl rfl ?_
      refine Ev.iconst (pc := 270) (v := 1) dL_law_270 (by decide) ?_
      refine Ev.iadd (pc := 271) dL_law_271 ?_
      refine Ev.sld (pc := 272) dL_law_272 (ix_1 _) (by omega) hL ?_
      refine Ev.callV (pc := 273) dL_law_273 kv_L_35 ⟨Nat.le_of_ble_eq_true rfl, Nat.le_of_ble_eq_true rfl⟩ (wl_at (by decide) rfl) rfl rfl (ct_D_choose hg hm1 _) rfl rfl (Nat.le_of_ble_eq_true rfl) ?_
      rintro _ _ ⟨v2, b2, rfl, rfl, hm2, hF2⟩
      refine Ev.cicmp_eq rfl rfl (pc := 276) (tgt := 607) dL_law_276 rfl (fun _ => ?_) (fun q => absurd rfl q)
      exact next v2 b2 _ (gd_cho hg _) (hc1.lo hF2) hm2
    by_cases o5 : op.toInt = 5
    · refine Ev.tableIn (pc := 32) (tgt := 281) dL_law_32 5 (by rw [o5]; rfl) (by decide) rfl rfl ?_
      refine Ev.aload_n (pc := 281) (i := 1) dL_law_281 rfl rfl ?_
      refine Ev.callV (pc := 282) dL_law_282 kv_L_36 ⟨Nat.le_of_ble_eq_true rfl, Nat.le_of_ble_eq_true rfl⟩ (wl_at (by decide) rfl) rfl rfl (ct_T_restart hc) rfl rfl (Nat.le_of_ble_eq_true rfl) ?_
      rintro _ _ ⟨v1, b1, rfl, rfl, hc1, hF1⟩
      have hm1 := hm.hi hF1
      refine Ev.aload_n (pc := 285) (i := 2) dL_law_285 rfl rfl ?_
      refine Ev.callV (pc := 286) dL_law_286 kv_L_40 ⟨Nat.le_of_ble_eq_true rfl, Nat.le_of_ble_eq_true rfl⟩ (wl_at (by decide) rfl) rfl rfl (ct_D_restart hm1) rfl rfl (Nat.le_of_ble_eq_true rfl) ?_
      rintro _ _ ⟨v2, b2, rfl, rfl, hm2, hF2⟩
      refine Ev.cicmp_eq rfl rfl (pc := 289) (tgt := 607) dL_law_289 rfl (fun _ => ?_) (fun q => absurd rfl q)
      exact next v2 b2 _ (gd_res hg) (hc1.lo hF2) hm2
    by_cases o6 : op.toInt = 6
    · refine Ev.tableIn (pc := 32) (tgt := 294) dL_law_32 6 (by rw [o6]; rfl) (by decide) rfl rfl ?_
      refine Ev.aload_n (pc := 294) (i := 1) dL_law_294 rfl rfl ?_
      refine Ev.aload_n (pc := 295) (i := 0) dL_law_295 rfl rfl ?_
      refine Ev.iload_n (pc := 296) (i := 3) dL_law_296 rfl rfl ?_
      refine Ev.iconst (pc := 297) (v := 1) dL_law_297 (by decide) ?_
      refine Ev.iadd (pc := 298) dL_law_298 ?_
      refine Ev.sld (pc := 299) dL_law_299 (ix_1 _) (by omega) hL ?_
      refine Ev.aload_n (pc := 300) (i := 0) dL_law_300 rfl rfl ?_
      refine Ev.iload_n (pc := 301) (i := 3) dL_law_301 rfl rfl ?_
      refine Ev.iconst (pc := 302) (v := 2) dL_law_302 (by decide) ?_
      refine Ev.iadd (pc := 303) dL_law_303 ?_
      refine Ev.sld (pc := 304) dL_law_304 (ix_2 _) (by omega) hL ?_
      refine Ev.aload_n (pc := 305) (i := 0) dL_law_305 rfl rfl ?_
      refine Ev.iload_n (pc := 306) (i := 3) dL_law_306 rfl rfl ?_
      refine Ev.iconst (pc := 307) (v := 3) dL_law_307 (by decide) ?_
      refine Ev.iadd (pc := 308) dL_law_308 ?_
      refine Ev.sld (pc := 309) dL_law_309 (ix_3 _) (by omega) hL ?_
      refine Ev.aload_n (pc := 310) (i := 0) dL_law_310 rfl rfl ?_
      refine Ev.iload_n (pc := 311) (i := 3) dL_law_311 rfl rfl ?_
      refine Ev.iconst (pc := 312) (v := 4) dL_law_312 (by decide) ?_
      refine Ev.iadd (pc := 313) dL_law_313 ?_
      refine Ev.sld (pc := 314) dL_law_314 (ix_4 _) (by omega) hL ?_
      refine Ev.callV (pc := 315) dL_law_315 kv_L_41 ⟨Nat.le_of_ble_eq_true rfl, Nat.le_of_ble_eq_true rfl⟩ (wl_at (by decide) rfl) rfl rfl (ct_T_at hg hc _ _ _ _) rfl rfl (Nat.le_of_ble_eq_true rfl) ?_
      rintro _ _ ⟨v1, b1, rfl, rfl, hc1, hF1⟩
      have hm1 := hm.hi hF1
      refine Ev.aload_n (pc := 318) (i := 2) dL_law_318 rfl rfl ?_
      refine Ev.aload_n (pc := 319) (i := 0) dL_law_319 rfl rfl ?_
      refine Ev.iload_n (pc := 320) (i := 3) dL_law_320 rfl rfl ?_
      refine Ev.iconst (pc := 321) (v := 1) dL_law_321 (by decide) ?_
      refine Ev.iadd (pc := 322) dL_law_322 ?_
      refine Ev.sld (pc := 323) dL_law_323 (ix_1 _) (by omega) hL ?_
      refine Ev.aload_n (pc := 324) (i := 0) dL_law_324 rfl rfl ?_
      refine Ev.iload_n (pc := 325) (i := 3) dL_law_325 rfl rfl ?_
      refine Ev.iconst (pc := 326) (v := 2) dL_law_326 (by decide) ?_
      refine Ev.iadd (pc := 327) dL_law_327 ?_
      refine Ev.sld (pc := 328) dL_law_328 (ix_2 _) (by omega) hL ?_
      refine Ev.aload_n (pc := 329) (i := 0) dL_law_329 rfl rfl ?_
      refine Ev.iload_n (pc := 330) (i := 3) dL_law_330 rfl rfl ?_
      refine Ev.iconst (pc := 331) (v := 3) dL_law_331 (by decide) ?_
      refine Ev.iadd (pc := 332) dL_law_332 ?_
      refine Ev.sld (pc := 333) dL_law_333 (ix_3 _) (by omega) hL ?_
      refine Ev.aload_n (pc := 334) (i := 0) dL_law_334 rfl rfl ?_
      refine Ev.iload_n (pc := 335) (i := 3) dL_law_335 rfl rfl ?_
      refine Ev.iconst (pc := 336) (v := 4) dL_law_336 (by decide) ?_
      refine Ev.iadd (pc := 337) dL_law_337 ?_
      refine Ev.sld (pc := 338) dL_law_338 (ix_4 _) (by omega) hL ?_
      refine Ev.callV (pc := 339) dL_law_339 kv_L_45 ⟨Nat.le_of_ble_eq_true rfl, Nat.le_of_ble_eq_true rfl⟩ (wl_at (by decide) rfl) rfl rfl (ct_D_at hg hm1 _ _ _ _) rfl rfl (Nat.le_of_ble_eq_true rfl) ?_
      rintro _ _ ⟨v2, b2, rfl, rfl, hm2, hF2⟩
      refine Ev.cicmp_eq rfl rfl (pc := 342) (tgt := 607) dL_law_342 rfl (fun _ => ?_) (fun q => absurd rfl q)
      exact next v2 b2 _ (hg) (hc1.lo hF2) hm2
    by_cases o7 : op.toInt = 7
    · refine Ev.tableIn (pc := 32) (tgt := 347) dL_law_32 7 (by rw [o7]; rfl) (by decide) rfl rfl ?_
      refine Ev.aload_n (pc := 347) (i := 1) dL_law_347 rfl rfl ?_
      refine Ev.aload_n (pc := 348) (i := 0) dL_law_348 rfl rfl ?_
      refine Ev.iload_n (pc := 349) (i := 3) dL_law_349 rfl rfl ?_
      refine Ev.iconst (pc := 350) (v := 1) dL_law_350 (by decide) ?_
      refine Ev.iadd (pc := 351) dL_law_351 ?_
      refine Ev.sld (pc := 352) dL_law_352 (ix_1 _) (by omega) hL ?_
      refine Ev.aload_n (pc := 353) (i := 0) dL_law_353 rfl rfl ?_
      refine Ev.iload_n (pc := 354) (i := 3) dL_law_354 rfl rfl ?_
      refine Ev.iconst (pc := 355) (v := 2) dL_law_355 (by decide) ?_
      refine Ev.iadd (pc := 356) dL_law_356 ?_
      refine Ev.sld (pc := 357) dL_law_357 (ix_2 _) (by omega) hL ?_
      refine Ev.aload_n (pc := 358) (i := 0) dL_law_358 rfl rfl ?_
      refine Ev.iload_n (pc := 359) (i := 3) dL_law_359 rfl rfl ?_
      refine Ev.iconst (pc := 360) (v := 3) dL_law_360 (by decide) ?_
      refine Ev.iadd (pc := 361) dL_law_361 ?_
      refine Ev.sld (pc := 362) dL_law_362 (ix_3 _) (by omega) hL ?_
      refine Ev.callV (pc := 363) dL_law_363 kv_L_46 ⟨Nat.le_of_ble_eq_true rfl, Nat.le_of_ble_eq_true rfl⟩ (wl_at (by decide) rfl) rfl rfl (ct_T_reach hg hc _ _ _) rfl rfl (Nat.le_of_ble_eq_true rfl) ?_
      rintro _ _ ⟨v1, b1, rfl, rfl, hc1, hF1⟩
      have hm1 := hm.hi hF1
      refine Ev.aload_n (pc := 366) (i := 2) dL_law_366 rfl rfl ?_
      refine Ev.aload_n (pc := 367) (i := 0) dL_law_367 rfl rfl ?_
      refine Ev.iload_n (pc := 368) (i := 3) dL_law_368 rfl rfl ?_
      refine Ev.iconst (pc := 369) (v := 1) dL_law_369 (by decide) ?_
      refine Ev.iadd (pc := 370) dL_law_370 ?_
      refine Ev.sld (pc := 371) dL_law_371 (ix_1 _) (by omega) hL ?_
      refine Ev.aload_n (pc := 372) (i := 0) dL_law_372 rfl rfl ?_
      refine Ev.iload_n (pc := 373) (i := 3) dL_law_373 rfl rfl ?_
      refine Ev.iconst (pc := 374) (v := 2) dL_law_374 (by decide) ?_
      refine Ev.iadd (pc := 375) dL_law_375 ?_
      refine Ev.sld (pc := 376) dL_law_376 (ix_2 _) (by omega) hL ?_
      refine Ev.aload_n (pc := 377) (i := 0) dL_law_377 rfl rfl ?_
      refine Ev.iload_n (pc := 378) (i := 3) dL_law_378 rfl rfl ?_
      refine Ev.iconst (pc := 379) (v := 3) dL_law_379 (by decide) ?_
      refine Ev.iadd (pc := 380) dL_law_380 ?_
      refine Ev.sld (pc := 381) dL_law_381 (ix_3 _) (by omega) hL ?_
      refine Ev.callV (pc := 382) dL_law_382 kv_L_49 ⟨Nat.le_of_ble_eq_true rfl, Nat.le_of_ble_eq_true rfl⟩ (wl_at (by decide) rfl) rfl rfl (ct_D_reach hg hm1 _ _ _) rfl rfl (Nat.le_of_ble_eq_true rfl) ?_
      rintro _ _ ⟨v2, b2, rfl, rfl, hm2, hF2⟩
      refine Ev.cicmp_eq rfl rfl (pc := 385) (tgt := 607) dL_law_385 rfl (fun _ => ?_) (fun q => absurd rfl q)
      exact next v2 b2 _ (hg) (hc1.lo hF2) hm2
    by_cases o8 : op.toInt = 8
    · refine Ev.tableIn (pc := 32) (tgt := 390) dL_law_32 8 (by rw [o8]; rfl) (by decide) rfl rfl ?_
      refine Ev.aload_n (pc := 390) (i := 1) dL_law_390 rfl rfl ?_
      refine Ev.callV (pc := 391) dL_law_391 kv_L_50 ⟨Nat.le_of_ble_eq_true rfl, Nat.le_of_ble_eq_true rfl⟩ (wl_at (by decide) rfl) rfl rfl (ct_T_plan hc) rfl rfl (Nat.le_of_ble_eq_true rfl) ?_
      rintro _ _ ⟨⟨v1, b1, rfl, rfl, hc1, hF1⟩, hok⟩
      have hm1 := hm.hi hF1
      refine Ev.aload_n (pc := 394) (i := 2) dL_law_394 rfl rfl ?_
      refine Ev.callV (pc := 395) dL_law_395 kv_L_53 ⟨Nat.le_of_ble_eq_true rfl, Nat.le_of_ble_eq_true rfl⟩ (wl_at (by decide) rfl) rfl rfl (ct_D_plan hg hm1) rfl rfl (Nat.le_of_ble_eq_true rfl) ?_
      rintro _ _ ⟨v2, b2, rfl, rfl, hm2, hF2⟩
      refine Ev.cicmp_eq rfl rfl (pc := 398) (tgt := 607) dL_law_398 rfl (fun _ => ?_) (fun q => absurd rfl q)
      exact next v2 b2 _ (gd_pln hg hok) (hc1.lo hF2) hm2
    by_cases o9 : op.toInt = 9
    · refine Ev.tableIn (pc := 32) (tgt := 403) dL_law_32 9 (by rw [o9]; rfl) (by decide) rfl rfl ?_
      refine Ev.aload_n (pc := 403) (i := 1) dL_law_403 rfl rfl ?_
      refine Ev.aload_n (pc := 404) (i := 0) dL_law_404 rfl rfl ?_
      refine Ev.iload_n (pc := 405) (i := 3) dL_law_405 rfl rfl ?_
      refine Ev.iconst (pc := 406) (v := 1) dL_law_406 (by decide) ?_
      refine Ev.iadd (pc := 407) dL_law_407 ?_
      refine Ev.sld (pc := 408) dL_law_408 (ix_1 _) (by omega) hL ?_
      refine Ev.aload_n (pc := 409) (i := 0) dL_law_409 rfl rfl ?_
      refine Ev.iload_n (pc := 410) (i := 3) dL_law_410 rfl rfl ?_
      refine Ev.iconst (pc := 411) (v := 2) dL_law_411 (by decide) ?_
      refine Ev.iadd (pc := 412) dL_law_412 ?_
      refine Ev.sld (pc := 413) dL_law_413 (ix_2 _) (by omega) hL ?_
      refine Ev.callV (pc := 414) dL_law_414 kv_L_54 ⟨Nat.le_of_ble_eq_true rfl, Nat.le_of_ble_eq_true rfl⟩ (wl_at (by decide) rfl) rfl rfl (ct_T_move hg hc _ _) rfl rfl (Nat.le_of_ble_eq_true rfl) ?_
      rintro _ _ ⟨v1, b1, rfl, rfl, hc1, hF1⟩
      have hm1 := hm.hi hF1
      refine Ev.aload_n (pc := 417) (i := 2) dL_law_417 rfl rfl ?_
      refine Ev.aload_n (pc := 418) (i := 0) dL_law_418 rfl rfl ?_
      refine Ev.iload_n (pc := 419) (i := 3) dL_law_419 rfl rfl ?_
      refine Ev.iconst (pc := 420) (v := 1) dL_law_420 (by decide) ?_
      refine Ev.iadd (pc := 421) dL_law_421 ?_
      refine Ev.sld (pc := 422) dL_law_422 (ix_1 _) (by omega) hL ?_
      refine Ev.aload_n (pc := 423) (i := 0) dL_law_423 rfl rfl ?_
      refine Ev.iload_n (pc := 424) (i := 3) dL_law_424 rfl rfl ?_
      refine Ev.iconst (pc := 425) (v := 2) dL_law_425 (by decide) ?_
      refine Ev.iadd (pc := 426) dL_law_426 ?_
      refine Ev.sld (pc := 427) dL_law_427 (ix_2 _) (by omega) hL ?_
      refine Ev.callV (pc := 428) dL_law_428 kv_L_58 ⟨Nat.le_of_ble_eq_true rfl, Nat.le_of_ble_eq_true rfl⟩ (wl_at (by decide) rfl) rfl rfl (ct_D_move hg hm1 _ _) rfl rfl (Nat.le_of_ble_eq_true rfl) ?_
      rintro _ _ ⟨v2, b2, rfl, rfl, hm2, hF2⟩
      refine Ev.cicmp_eq rfl rfl (pc := 431) (tgt := 607) dL_law_431 rfl (fun _ => ?_) (fun q => absurd rfl q)
      exact next v2 b2 _ (hg) (hc1.lo hF2) hm2
    by_cases o10 : op.toInt = 10
    · refine Ev.tableIn (pc := 32) (tgt := 436) dL_law_32 10 (by rw [o10]; rfl) (by decide) rfl rfl ?_
      refine Ev.aload_n (pc := 436) (i := 1) dL_law_436 rfl rfl ?_
      refine Ev.aload_n (pc := 437) (i := 0) dL_law_437 rfl rfl ?_
      refine Ev.iload_n (pc := 438) (i := 3) dL_law_438 rfl rfl ?_
      refine Ev.iconst (pc := 439) (v := 1) dL_law_439 (by decide) ?_
      refine Ev.iadd (pc := 440) dL_law_440 ?_
      refine Ev.sld (pc := 441) dL_law_441 (ix_1 _) (by omega) hL ?_
      refine Ev.aload_n (pc := 442) (i := 0) dL_law_442 rfl rfl ?_
      refine Ev.iload_n (pc := 443) (i := 3) dL_law_443 rfl rfl ?_
      refine Ev.iconst (pc := 444) (v := 2) dL_law_444 (by decide) ?_
      refine Ev.iadd (pc := 445) dL_law_445 ?_
      refine Ev.sld (pc := 446) dL_law_446 (ix_2 _) (by omega) hL ?_
      refine Ev.aload_n (pc := 447) (i := 0) dL_law_447 rfl rfl ?_
      refine Ev.iload_n (pc := 448) (i := 3) dL_law_448 rfl rfl ?_
      refine Ev.iconst (pc := 449) (v := 3) dL_law_449 (by decide) ?_
      refine Ev.iadd (pc := 450) dL_law_450 ?_
      refine Ev.sld (pc := 451) dL_law_451 (ix_3 _) (by omega) hL ?_
      refine Ev.aload_n (pc := 452) (i := 0) dL_law_452 rfl rfl ?_
      refine Ev.iload_n (pc := 453) (i := 3) dL_law_453 rfl rfl ?_
      refine Ev.iconst (pc := 454) (v := 4) dL_law_454 (by decide) ?_
      refine Ev.iadd (pc := 455) dL_law_455 ?_
      refine Ev.sld (pc := 456) dL_law_456 (ix_4 _) (by omega) hL ?_
      refine Ev.callV (pc := 457) dL_law_457 kv_L_59 ⟨Nat.le_of_ble_eq_true rfl, Nat.le_of_ble_eq_true rfl⟩ (wl_at (by decide) rfl) rfl rfl (ct_T_edit hg hc _ _ _ _) rfl rfl (Nat.le_of_ble_eq_true rfl) ?_
      rintro _ _ ⟨v1, b1, rfl, rfl, hc1, hF1⟩
      have hm1 := hm.hi hF1
      refine Ev.aload_n (pc := 460) (i := 2) dL_law_460 rfl rfl ?_
      refine Ev.aload_n (pc := 461) (i := 0) dL_law_461 rfl rfl ?_
      refine Ev.iload_n (pc := 462) (i := 3) dL_law_462 rfl rfl ?_
      refine Ev.iconst (pc := 463) (v := 1) dL_law_463 (by decide) ?_
      refine Ev.iadd (pc := 464) dL_law_464 ?_
      refine Ev.sld (pc := 465) dL_law_465 (ix_1 _) (by omega) hL ?_
      refine Ev.aload_n (pc := 466) (i := 0) dL_law_466 rfl rfl ?_
      refine Ev.iload_n (pc := 467) (i := 3) dL_law_467 rfl rfl ?_
      refine Ev.iconst (pc := 468) (v := 2) dL_law_468 (by decide) ?_
      refine Ev.iadd (pc := 469) dL_law_469 ?_
      refine Ev.sld (pc := 470) dL_law_470 (ix_2 _) (by omega) hL ?_
      refine Ev.aload_n (pc := 471) (i := 0) dL_law_471 rfl rfl ?_
      refine Ev.iload_n (pc := 472) (i := 3) dL_law_472 rfl rfl ?_
      refine Ev.iconst (pc := 473) (v := 3) dL_law_473 (by decide) ?_
      refine Ev.iadd (pc := 474) dL_law_474 ?_
      refine Ev.sld (pc := 475) dL_law_475 (ix_3 _) (by omega) hL ?_
      refine Ev.aload_n (pc := 476) (i := 0) dL_law_476 rfl rfl ?_
      refine Ev.iload_n (pc := 477) (i := 3) dL_law_477 rfl rfl ?_
      refine Ev.iconst (pc := 478) (v := 4) dL_law_478 (by decide) ?_
      refine Ev.iadd (pc := 479) dL_law_479 ?_
      refine Ev.sld (pc := 480) dL_law_480 (ix_4 _) (by omega) hL ?_
      refine Ev.callV (pc := 481) dL_law_481 kv_L_62 ⟨Nat.le_of_ble_eq_true rfl, Nat.le_of_ble_eq_true rfl⟩ (wl_at (by decide) rfl) rfl rfl (ct_D_edit hg hm1 _ _ _ _) rfl rfl (Nat.le_of_ble_eq_true rfl) ?_
      rintro _ _ ⟨v2, b2, rfl, rfl, hm2, hF2⟩
      refine Ev.cicmp_eq rfl rfl (pc := 484) (tgt := 607) dL_law_484 rfl (fun _ => ?_) (fun q => absurd rfl q)
      exact next v2 b2 _ (gd_edi hg _ _ _ _) (hc1.lo hF2) hm2
    by_cases o11 : op.toInt = 11
    · refine Ev.tableIn (pc := 32) (tgt := 489) dL_law_32 11 (by rw [o11]; rfl) (by decide) rfl rfl ?_
      refine Ev.aload_n (pc := 489) (i := 1) dL_law_489 rfl rfl ?_
      refine Ev.callV (pc := 490) dL_law_490 kv_L_63 ⟨Nat.le_of_ble_eq_true rfl, Nat.le_of_ble_eq_true rfl⟩ (wl_at (by decide) rfl) rfl rfl (ct_T_undo hg hc) rfl rfl (Nat.le_of_ble_eq_true rfl) ?_
      rintro _ _ ⟨v1, b1, rfl, rfl, hc1, hF1⟩
      have hm1 := hm.hi hF1
      refine Ev.aload_n (pc := 493) (i := 2) dL_law_493 rfl rfl ?_
      refine Ev.callV (pc := 494) dL_law_494 kv_L_66 ⟨Nat.le_of_ble_eq_true rfl, Nat.le_of_ble_eq_true rfl⟩ (wl_at (by decide) rfl) rfl rfl (ct_D_undo hg hm1) rfl rfl (Nat.le_of_ble_eq_true rfl) ?_
      rintro _ _ ⟨v2, b2, rfl, rfl, hm2, hF2⟩
      refine Ev.cicmp_eq rfl rfl (pc := 497) (tgt := 607) dL_law_497 rfl (fun _ => ?_) (fun q => absurd rfl q)
      exact next v2 b2 _ (gd_und hg) (hc1.lo hF2) hm2
    by_cases o12 : op.toInt = 12
    · refine Ev.tableIn (pc := 32) (tgt := 502) dL_law_32 12 (by rw [o12]; rfl) (by decide) rfl rfl ?_
      refine Ev.aload_n (pc := 502) (i := 1) dL_law_502 rfl rfl ?_
      refine Ev.aload_n (pc := 503) (i := 0) dL_law_503 rfl rfl ?_
      refine Ev.iload_n (pc := 504) (i := 3) dL_law_504 rfl rfl ?_
      refine Ev.iconst (pc := 505) (v := 1) dL_law_505 (by decide) ?_
      refine Ev.iadd (pc := 506) dL_law_506 ?_
      refine Ev.sld (pc := 507) dL_law_507 (ix_1 _) (by omega) hL ?_
      refine Ev.callV (pc := 508) dL_law_508 kv_L_67 ⟨Nat.le_of_ble_eq_true rfl, Nat.le_of_ble_eq_true rfl⟩ (wl_at (by decide) rfl) rfl rfl (ct_T_simulate hg hc _) rfl rfl (Nat.le_of_ble_eq_true rfl) ?_
      rintro _ _ ⟨v1, b1, rfl, rfl, hc1, hF1⟩
      have hm1 := hm.hi hF1
      refine Ev.aload_n (pc := 511) (i := 2) dL_law_511 rfl rfl ?_
      refine Ev.aload_n (pc := 512) (i := 0) dL_law_512 rfl rfl ?_
      refine Ev.iload_n (pc := 513) (i := 3) dL_law_513 rfl rfl ?_
      refine Ev.iconst (pc := 514) (v := 1) dL_law_514 (by decide) ?_
      refine Ev.iadd (pc := 515) dL_law_515 ?_
      refine Ev.sld (pc := 516) dL_law_516 (ix_1 _) (by omega) hL ?_
      refine Ev.callV (pc := 517) dL_law_517 kv_L_70 ⟨Nat.le_of_ble_eq_true rfl, Nat.le_of_ble_eq_true rfl⟩ (wl_at (by decide) rfl) rfl rfl (ct_D_simulate hg hm1 _) rfl rfl (Nat.le_of_ble_eq_true rfl) ?_
      rintro _ _ ⟨v2, b2, rfl, rfl, hm2, hF2⟩
      refine Ev.cicmp_eq rfl rfl (pc := 520) (tgt := 607) dL_law_520 rfl (fun _ => ?_) (fun q => absurd rfl q)
      exact next v2 b2 _ (gd_sim hg _) (hc1.lo hF2) hm2
    by_cases o13 : op.toInt = 13
    · refine Ev.tableIn (pc := 32) (tgt := 525) dL_law_32 13 (by rw [o13]; rfl) (by decide) rfl rfl ?_
      refine Ev.aload_n (pc := 525) (i := 1) dL_law_525 rfl rfl ?_
      refine Ev.aload_n (pc := 526) (i := 0) dL_law_526 rfl rfl ?_
      refine Ev.iload_n (pc := 527) (i := 3) dL_law_527 rfl rfl ?_
      refine Ev.iconst (pc := 528) (v := 1) dL_law_528 (by decide) ?_
      refine Ev.iadd (pc := 529) dL_law_529 ?_
      refine Ev.sld (pc := 530) dL_law_530 (ix_1 _) (by omega) hL ?_
      refine Ev.aload_n (pc := 531) (i := 0) dL_law_531 rfl rfl ?_
      refine Ev.iload_n (pc := 532) (i := 3) dL_law_532 rfl rfl ?_
      refine Ev.iconst (pc := 533) (v := 2) dL_law_533 (by decide) ?_
      refine Ev.iadd (pc := 534) dL_law_534 ?_
      refine Ev.sld (pc := 535) dL_law_535 (ix_2 _) (by omega) hL ?_
      refine Ev.callV (pc := 536) dL_law_536 kv_L_71 ⟨Nat.le_of_ble_eq_true rfl, Nat.le_of_ble_eq_true rfl⟩ (wl_at (by decide) rfl) rfl rfl (ct_T_stock hc _ _) rfl rfl (Nat.le_of_ble_eq_true rfl) ?_
      rintro _ _ ⟨v1, b1, rfl, rfl, hc1, hF1⟩
      have hm1 := hm.hi hF1
      refine Ev.aload_n (pc := 539) (i := 2) dL_law_539 rfl rfl ?_
      refine Ev.aload_n (pc := 540) (i := 0) dL_law_540 rfl rfl ?_
      refine Ev.iload_n (pc := 541) (i := 3) dL_law_541 rfl rfl ?_
      refine Ev.iconst (pc := 542) (v := 1) dL_law_542 (by decide) ?_
      refine Ev.iadd (pc := 543) dL_law_543 ?_
      refine Ev.sld (pc := 544) dL_law_544 (ix_1 _) (by omega) hL ?_
      refine Ev.aload_n (pc := 545) (i := 0) dL_law_545 rfl rfl ?_
      refine Ev.iload_n (pc := 546) (i := 3) dL_law_546 rfl rfl ?_
      refine Ev.iconst (pc := 547) (v := 2) dL_law_547 (by decide) ?_
      refine Ev.iadd (pc := 548) dL_law_548 ?_
      refine Ev.sld (pc := 549) dL_law_549 (ix_2 _) (by omega) hL ?_
      refine Ev.callV (pc := 550) dL_law_550 kv_L_74 ⟨Nat.le_of_ble_eq_true rfl, Nat.le_of_ble_eq_true rfl⟩ (wl_at (by decide) rfl) rfl rfl (ct_D_stock hm1 _ _) rfl rfl (Nat.le_of_ble_eq_true rfl) ?_
      rintro _ _ ⟨v2, b2, rfl, rfl, hm2, hF2⟩
      refine Ev.cicmp_eq rfl rfl (pc := 553) (tgt := 607) dL_law_553 rfl (fun _ => ?_) (fun q => absurd rfl q)
      exact next v2 b2 _ (hg) (hc1.lo hF2) hm2
    by_cases o14 : op.toInt = 14
    · refine Ev.tableIn (pc := 32) (tgt := 558) dL_law_32 14 (by rw [o14]; rfl) (by decide) rfl rfl ?_
      refine Ev.aload_n (pc := 558) (i := 1) dL_law_558 rfl rfl ?_
      refine Ev.callV (pc := 559) dL_law_559 kv_L_75 ⟨Nat.le_of_ble_eq_true rfl, Nat.le_of_ble_eq_true rfl⟩ (wl_at (by decide) rfl) rfl rfl (ct_T_fault hg hc) rfl rfl (Nat.le_of_ble_eq_true rfl) ?_
      rintro _ _ ⟨v1, b1, rfl, rfl, hc1, hF1⟩
      have hm1 := hm.hi hF1
      refine Ev.aload_n (pc := 562) (i := 2) dL_law_562 rfl rfl ?_
      refine Ev.callV (pc := 563) dL_law_563 kv_L_78 ⟨Nat.le_of_ble_eq_true rfl, Nat.le_of_ble_eq_true rfl⟩ (wl_at (by decide) rfl) rfl rfl (ct_D_fault hg hm1) rfl rfl (Nat.le_of_ble_eq_true rfl) ?_
      rintro _ _ ⟨v2, b2, rfl, rfl, hm2, hF2⟩
      refine Ev.cicmp_eq rfl rfl (pc := 566) (tgt := 607) dL_law_566 rfl (fun _ => ?_) (fun q => absurd rfl q)
      exact next v2 b2 _ (hg) (hc1.lo hF2) hm2
    by_cases o15 : op.toInt = 15
    · refine Ev.tableIn (pc := 32) (tgt := 571) dL_law_32 15 (by rw [o15]; rfl) (by decide) rfl rfl ?_
      refine Ev.aload_n (pc := 571) (i := 1) dL_law_571 rfl rfl ?_
      refine Ev.callV (pc := 572) dL_law_572 kv_L_79 ⟨Nat.le_of_ble_eq_true rfl, Nat.le_of_ble_eq_true rfl⟩ (wl_at (by decide) rfl) rfl rfl (ct_T_left hc) rfl rfl (Nat.le_of_ble_eq_true rfl) ?_
      rintro _ _ ⟨v1, b1, rfl, rfl, hc1, hF1⟩
      have hm1 := hm.hi hF1
      refine Ev.aload_n (pc := 575) (i := 2) dL_law_575 rfl rfl ?_
      refine Ev.callV (pc := 576) dL_law_576 kv_L_82 ⟨Nat.le_of_ble_eq_true rfl, Nat.le_of_ble_eq_true rfl⟩ (wl_at (by decide) rfl) rfl rfl (ct_D_left hm1) rfl rfl (Nat.le_of_ble_eq_true rfl) ?_
      rintro _ _ ⟨v2, b2, rfl, rfl, hm2, hF2⟩
      refine Ev.cicmp_eq rfl rfl (pc := 579) (tgt := 607) dL_law_579 rfl (fun _ => ?_) (fun q => absurd rfl q)
      exact next v2 b2 _ (hg) (hc1.lo hF2) hm2
    by_cases o16 : op.toInt = 16
    · refine Ev.tableIn (pc := 32) (tgt := 584) dL_law_32 16 (by rw [o16]; rfl) (by decide) rfl rfl ?_
      refine Ev.aload_n (pc := 584) (i := 1) dL_law_584 rfl rfl ?_
      refine Ev.aload_n (pc := 585) (i := 0) dL_law_585 rfl rfl ?_
      refine Ev.iload_n (pc := 586) (i := 3) dL_law_586 rfl rfl ?_
      refine Ev.iconst (pc := 587) (v := 1) dL_law_587 (by decide) ?_
      refine Ev.iadd (pc := 588) dL_law_588 ?_
      refine Ev.sld (pc := 589) dL_law_589 (ix_1 _) (by omega) hL ?_
      refine Ev.callV (pc := 590) dL_law_590 kv_L_83 ⟨Nat.le_of_ble_eq_true rfl, Nat.le_of_ble_eq_true rfl⟩ (wl_at (by decide) rfl) rfl rfl (ct_T_steps hg hc _) rfl rfl (Nat.le_of_ble_eq_true rfl) ?_
      rintro _ _ ⟨v1, b1, rfl, rfl, hc1, hF1⟩
      have hm1 := hm.hi hF1
      refine Ev.aload_n (pc := 593) (i := 2) dL_law_593 rfl rfl ?_
      refine Ev.aload_n (pc := 594) (i := 0) dL_law_594 rfl rfl ?_
      refine Ev.iload_n (pc := 595) (i := 3) dL_law_595 rfl rfl ?_
      refine Ev.iconst (pc := 596) (v := 1) dL_law_596 (by decide) ?_
      refine Ev.iadd (pc := 597) dL_law_597 ?_
      refine Ev.sld (pc := 598) dL_law_598 (ix_1 _) (by omega) hL ?_
      refine Ev.callV (pc := 599) dL_law_599 kv_L_86 ⟨Nat.le_of_ble_eq_true rfl, Nat.le_of_ble_eq_true rfl⟩ (wl_at (by decide) rfl) rfl rfl (ct_D_steps hg hm1 _) rfl rfl (Nat.le_of_ble_eq_true rfl) ?_
      rintro _ _ ⟨v2, b2, rfl, rfl, hm2, hF2⟩
      refine Ev.cicmp_eq rfl rfl (pc := 602) (tgt := 607) dL_law_602 rfl (fun _ => ?_) (fun q => absurd rfl q)
      exact next v2 b2 _ (hg) (hc1.lo hF2) hm2
    refine Ev.tableOut (pc := 32) (tgt := 607) dL_law_32 (by omega) rfl ?_
    exact next v bb S hg hc hm
end Lw
