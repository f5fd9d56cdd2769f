/-! rows over the world of 47 cells -/
section WRows
variable {G : cx_G} {M M' : cx_M} {pc : Nat} {L : List (Option Value)} {S st : List Value} {v : Nat → Nat → Int32} {b : Nat → Nat → Bool} {E : cx_E}
theorem Ev.gf {index ci f p : Nat} {fs : List Value} {x : Value} (d : decode (Mc M) pc = .ok (.getfield index, 3)) (hf : cx_fl (Mo M) index ci f) (hp : p < 47) (hc : cellW G p (v p) (b p) = .inr (ci, fs)) (hv : fs[f]? = some x) (k : Ev G M (pc + 3) L (x :: S) (wl G v b) E) : Ev G M pc L (.ref (cxa G p) :: S) (wl G v b) E :=
  Ev.getfield d hf (wl_at hp hc) hv k
theorem Ev.puti {index ci f p : Nat} {fs : List Value} {x : Int32} (d : decode (Mc M) pc = .ok (.putfield index, 3)) (hf : cx_fl (Mo M) index ci f) (hg : cx_fp ci f .int) (hp : p < 47) (hc : cellW G p (v p) (b p) = .inr (ci, fs)) (hn : .inr (ci, fs.set f (.int x)) = cellW G p (va_up (v p) f x) (b p)) (hl : f < fs.length) (k : Ev G M (pc + 3) L S (wl G (sv v p f x) b) E) : Ev G M pc L (.int x :: .ref (cxa G p) :: S) (wl G v b) E :=
  Ev.putfield .int d hf hg (wl_at hp hc) rfl rfl hl (Ev.world (wl_setv hp hn) k)
theorem fit_bI (x : Bool) : fits .boolean (.int (bI x)) = true := by cases x <;> rfl
theorem Ev.putb {index ci f p : Nat} {fs : List Value} {x : Bool} (d : decode (Mc M) pc = .ok (.putfield index, 3)) (hf : cx_fl (Mo M) index ci f) (hg : cx_fp ci f .boolean) (hp : p < 47) (hc : cellW G p (v p) (b p) = .inr (ci, fs)) (hn : .inr (ci, fs.set f (.int (bI x))) = cellW G p (v p) (va_up (b p) f x)) (hl : f < fs.length) (k : Ev G M (pc + 3) L S (wl G v (sb b p f x)) E) : Ev G M pc L (.int (bI x) :: .ref (cxa G p) :: S) (wl G v b) E :=
  Ev.putfield .boolean d hf hg (wl_at hp hc) (nar_bI x) (fit_bI x) hl (Ev.world (wl_setb hp hn) k)
theorem Ev.aldi {p n : Nat} {i : Int32} (d : decode (Mc M) pc = .ok (.iaload, 1)) (hp : p < 47) (hc : ∀ f g, cellW G p f g = .inl (cxC G 0, n, .inl f)) (j : Nat) (hi : i = nI j) (hj : j < n) (hn : n < 2 ^ 31) (k : Ev G M (pc + 1) L (.int (v p j) :: S) (wl G v b) E) : Ev G M pc L (.int i :: .ref (cxa G p) :: S) (wl G v b) E :=
  Ev.iaload d (wl_at hp (hc _ _)) j hi hj hn k
theorem Ev.aldb {p n : Nat} {i : Int32} (d : decode (Mc M) pc = .ok (.baload, 1)) (hp : p < 47) (hc : ∀ f g, cellW G p f g = .inl (cxC G 1, n, .inl (fun j => bI (g j)))) (j : Nat) (hi : i = nI j) (hj : j < n) (hn : n < 2 ^ 31) (k : Ev G M (pc + 1) L (.int (bI (b p j)) :: S) (wl G v b) E) : Ev G M pc L (.int i :: .ref (cxa G p) :: S) (wl G v b) E :=
  Ev.baload d (wl_at hp (hc _ _)) j hi hj hn k
theorem Ev.asti {p n : Nat} {i x : Int32} (d : decode (Mc M) pc = .ok (.iastore, 1)) (hp : p < 47) (hc : ∀ f g, cellW G p f g = .inl (cxC G 0, n, .inl f)) (j : Nat) (hi : i = nI j) (hj : j < n) (hn : n < 2 ^ 31) (k : Ev G M (pc + 1) L S (wl G (sv v p j x) b) E) : Ev G M pc L (.int x :: .int i :: .ref (cxa G p) :: S) (wl G v b) E :=
  Ev.iastore d (wl_at hp (hc _ _)) j hi hj hn (Ev.world (wl_setv hp (hc _ _).symm) k)
theorem Ev.astb {p n : Nat} {i : Int32} {x : Bool} (d : decode (Mc M) pc = .ok (.bastore, 1)) (hp : p < 47) (hc : ∀ f g, cellW G p f g = .inl (cxC G 1, n, .inl (fun j => bI (g j)))) (j : Nat) (hi : i = nI j) (hj : j < n) (hn : n < 2 ^ 31) (k : Ev G M (pc + 1) L S (wl G v (sb b p j x)) E) : Ev G M pc L (.int (bI x) :: .int i :: .ref (cxa G p) :: S) (wl G v b) E :=
  Ev.bastore d (wl_at hp (hc _ _)) j hi hj hn (Ev.world (wl_setb hp (hc _ _).symm) k)
end WRows
section Kinds
variable {G : cx_G}
theorem cell_ins {j : Nat} (hj : j < 3) (f : Nat → Int32) (g : Nat → Bool) : cellW G (4 + 3 * j) f g = .inr (1, [.int (f 0), .ref (cxa G (5 + 3 * j)), .ref (cxa G (6 + 3 * j))]) := by
  rcases (by omega : j = 0 ∨ j = 1 ∨ j = 2) with rfl | rfl | rfl <;> rfl
theorem cell_dz {j : Nat} (hj : j < 3) (f : Nat → Int32) (g : Nat → Bool) : cellW G (5 + 3 * j) f g = .inl (cxC G 0, 8, .inl f) := by
  rcases (by omega : j = 0 ∨ j = 1 ∨ j = 2) with rfl | rfl | rfl <;> rfl
theorem cell_dr {j : Nat} (hj : j < 3) (f : Nat → Int32) (g : Nat → Bool) : cellW G (6 + 3 * j) f g = .inl (cxC G 0, 8, .inl f) := by
  rcases (by omega : j = 0 ∨ j = 1 ∨ j = 2) with rfl | rfl | rfl <;> rfl
theorem cell_mv {k : Nat} (hk : k < 2) (f : Nat → Int32) (g : Nat → Bool) : cellW G (15 + 2 * k) f g = .inr (3, [.ref (cxa G (16 + 2 * k)), .int (f 1)]) := by
  rcases (by omega : k = 0 ∨ k = 1) with rfl | rfl <;> rfl
theorem cell_mr {k : Nat} (hk : k < 2) (f : Nat → Int32) (g : Nat → Bool) : cellW G (16 + 2 * k) f g = .inl (cxC G 0, 2000, .inl f) := by
  rcases (by omega : k = 0 ∨ k = 1) with rfl | rfl <;> rfl
theorem cell_st {k : Nat} (hk : k < 2) (f : Nat → Int32) (g : Nat → Bool) : cellW G (19 + 2 * k) f g = .inr (6, [.ref (cxa G (20 + 2 * k))]) := by
  rcases (by omega : k = 0 ∨ k = 1) with rfl | rfl <;> rfl
theorem cell_sr {k : Nat} (hk : k < 2) (f : Nat → Int32) (g : Nat → Bool) : cellW G (20 + 2 * k) f g = .inl (cxC G 1, 96, .inl (fun j => bI (g j))) := by
  rcases (by omega : k = 0 ∨ k = 1) with rfl | rfl <;> rfl
end Kinds
theorem sv_eq {v : Nat → Nat → Int32} {p k : Nat} {x : Int32} : sv v p k x p k = x := by simp [sv, va_up]
theorem sv_k {v : Nat → Nat → Int32} {p k i : Nat} {x : Int32} (h : i ≠ k) : sv v p k x p i = v p i := by simp [sv, va_up, h]
theorem sv_p {v : Nat → Nat → Int32} {p k i : Nat} {x : Int32} (h : i ≠ p) : sv v p k x i = v i := by simp [sv, va_up, h]
theorem sb_eq {v : Nat → Nat → Bool} {p k : Nat} {x : Bool} : sb v p k x p k = x := by simp [sb, va_up]
theorem sb_k {v : Nat → Nat → Bool} {p k i : Nat} {x : Bool} (h : i ≠ k) : sb v p k x p i = v p i := by simp [sb, va_up, h]
theorem sb_p {v : Nat → Nat → Bool} {p k i : Nat} {x : Bool} (h : i ≠ p) : sb v p k x i = v i := by simp [sb, va_up, h]
theorem cx_inc (i : Nat) : nI i + Int32.ofInt 1 = nI (i + 1) := (nI_succ i).symm
/-! branches with named numbers -/
section Cmp
variable {G : cx_G} {M M' : cx_M} {pc : Nat} {L : List (Option Value)} {S st : List Value} {w : List va_E} {E : cx_E}
theorem Ev.cicmp_eq {x y : Int32} {a c : Int} (ha : x.toInt = a) (hc : y.toInt = c) {off : Int} {tgt : Nat} (d : decode (Mc M) pc = .ok (.if_icmp .eq off, 3)) (ht : (pc : Int) + off = (tgt : Int)) (kt : a = c → Ev G M tgt L S w E) (kf : ¬ a = c → Ev G M (pc + 3) L S w E) : Ev G M pc L (.int y :: .int x :: S) w E := by
  subst ha; subst hc
  exact Ev.icmp_eq d ht kt kf
theorem Ev.cif_eq {x : Int32} {a : Int} (ha : x.toInt = a) {off : Int} {tgt : Nat} (d : decode (Mc M) pc = .ok (.ifCond .eq off, 3)) (ht : (pc : Int) + off = (tgt : Int)) (kt : a = 0 → Ev G M tgt L S w E) (kf : ¬ a = 0 → Ev G M (pc + 3) L S w E) : Ev G M pc L (.int x :: S) w E := by
  subst ha
  exact Ev.if_eq d ht kt kf
theorem Ev.cicmp_ne {x y : Int32} {a c : Int} (ha : x.toInt = a) (hc : y.toInt = c) {off : Int} {tgt : Nat} (d : decode (Mc M) pc = .ok (.if_icmp .ne off, 3)) (ht : (pc : Int) + off = (tgt : Int)) (kt : ¬ a = c → Ev G M tgt L S w E) (kf : a = c → Ev G M (pc + 3) L S w E) : Ev G M pc L (.int y :: .int x :: S) w E := by
  subst ha; subst hc
  exact Ev.icmp_ne d ht kt kf
theorem Ev.cif_ne {x : Int32} {a : Int} (ha : x.toInt = a) {off : Int} {tgt : Nat} (d : decode (Mc M) pc = .ok (.ifCond .ne off, 3)) (ht : (pc : Int) + off = (tgt : Int)) (kt : ¬ a = 0 → Ev G M tgt L S w E) (kf : a = 0 → Ev G M (pc + 3) L S w E) : Ev G M pc L (.int x :: S) w E := by
  subst ha
  exact Ev.if_ne d ht kt kf
theorem Ev.cicmp_lt {x y : Int32} {a c : Int} (ha : x.toInt = a) (hc : y.toInt = c) {off : Int} {tgt : Nat} (d : decode (Mc M) pc = .ok (.if_icmp .lt off, 3)) (ht : (pc : Int) + off = (tgt : Int)) (kt : a < c → Ev G M tgt L S w E) (kf : ¬ a < c → Ev G M (pc + 3) L S w E) : Ev G M pc L (.int y :: .int x :: S) w E := by
  subst ha; subst hc
  exact Ev.icmp_lt d ht kt kf
theorem Ev.cif_lt {x : Int32} {a : Int} (ha : x.toInt = a) {off : Int} {tgt : Nat} (d : decode (Mc M) pc = .ok (.ifCond .lt off, 3)) (ht : (pc : Int) + off = (tgt : Int)) (kt : a < 0 → Ev G M tgt L S w E) (kf : ¬ a < 0 → Ev G M (pc + 3) L S w E) : Ev G M pc L (.int x :: S) w E := by
  subst ha
  exact Ev.if_lt d ht kt kf
theorem Ev.cicmp_ge {x y : Int32} {a c : Int} (ha : x.toInt = a) (hc : y.toInt = c) {off : Int} {tgt : Nat} (d : decode (Mc M) pc = .ok (.if_icmp .ge off, 3)) (ht : (pc : Int) + off = (tgt : Int)) (kt : c ≤ a → Ev G M tgt L S w E) (kf : ¬ c ≤ a → Ev G M (pc + 3) L S w E) : Ev G M pc L (.int y :: .int x :: S) w E := by
  subst ha; subst hc
  exact Ev.icmp_ge d ht kt kf
theorem Ev.cif_ge {x : Int32} {a : Int} (ha : x.toInt = a) {off : Int} {tgt : Nat} (d : decode (Mc M) pc = .ok (.ifCond .ge off, 3)) (ht : (pc : Int) + off = (tgt : Int)) (kt : 0 ≤ a → Ev G M tgt L S w E) (kf : ¬ 0 ≤ a → Ev G M (pc + 3) L S w E) : Ev G M pc L (.int x :: S) w E := by
  subst ha
  exact Ev.if_ge d ht kt kf
theorem Ev.cicmp_gt {x y : Int32} {a c : Int} (ha : x.toInt = a) (hc : y.toInt = c) {off : Int} {tgt : Nat} (d : decode (Mc M) pc = .ok (.if_icmp .gt off, 3)) (ht : (pc : Int) + off = (tgt : Int)) (kt : c < a → Ev G M tgt L S w E) (kf : ¬ c < a → Ev G M (pc + 3) L S w E) : Ev G M pc L (.int y :: .int x :: S) w E := by
  subst ha; subst hc
  exact Ev.icmp_gt d ht kt kf
theorem Ev.cif_gt {x : Int32} {a : Int} (ha : x.toInt = a) {off : Int} {tgt : Nat} (d : decode (Mc M) pc = .ok (.ifCond .gt off, 3)) (ht : (pc : Int) + off = (tgt : Int)) (kt : 0 < a → Ev G M tgt L S w E) (kf : ¬ 0 < a → Ev G M (pc + 3) L S w E) : Ev G M pc L (.int x :: S) w E := by
  subst ha
  exact Ev.if_gt d ht kt kf
theorem Ev.cicmp_le {x y : Int32} {a c : Int} (ha : x.toInt = a) (hc : y.toInt = c) {off : Int} {tgt : Nat} (d : decode (Mc M) pc = .ok (.if_icmp .le off, 3)) (ht : (pc : Int) + off = (tgt : Int)) (kt : a ≤ c → Ev G M tgt L S w E) (kf : ¬ a ≤ c → Ev G M (pc + 3) L S w E) : Ev G M pc L (.int y :: .int x :: S) w E := by
  subst ha; subst hc
  exact Ev.icmp_le d ht kt kf
theorem Ev.cif_le {x : Int32} {a : Int} (ha : x.toInt = a) {off : Int} {tgt : Nat} (d : decode (Mc M) pc = .ok (.ifCond .le off, 3)) (ht : (pc : Int) + off = (tgt : Int)) (kt : a ≤ 0 → Ev G M tgt L S w E) (kf : ¬ a ≤ 0 → Ev G M (pc + 3) L S w E) : Ev G M pc L (.int x :: S) w E := by
  subst ha
  exact Ev.if_le d ht kt kf
end Cmp
theorem bf {e : Bool} (h : ¬ e = true) : e = false := by cases e; rfl; exact absurd rfl h
theorem ret_t {e : Bool} (h : e = true) : some (Value.int (bI true)) = some (.int (bI e)) := by rw [h]
theorem ret_f {e : Bool} (h : e = false) : some (Value.int (bI false)) = some (.int (bI e)) := by rw [h]
theorem n16 : (16 : Int32).toInt = 16 := by decide
theorem nI_nat {x : Int32} (h : 0 ≤ x.toInt) : x = nI x.toInt.toNat := by
  have h2 := x.toInt_lt
  exact Int32.toInt_inj.mp (by rw [nI_toInt (by omega)]; omega)
section WRows2
variable {G : cx_G} {M M' : cx_M} {pc : Nat} {L : List (Option Value)} {S st : List Value} {v : Nat → Nat → Int32} {b : Nat → Nat → Bool} {E : cx_E}
theorem Ev.aldx {p n : Nat} {i : Int32} (d : decode (Mc M) pc = .ok (.iaload, 1)) (hp : p < 47) (hc : ∀ f g, cellW G p f g = .inl (cxC G 0, n, .inl f)) (h0 : 0 ≤ i.toInt) (h1 : i.toInt < n) (hn : n < 2 ^ 31) (k : Ev G M (pc + 1) L (.int (v p i.toInt.toNat) :: S) (wl G v b) E) : Ev G M pc L (.int i :: .ref (cxa G p) :: S) (wl G v b) E :=
  Ev.aldi d hp hc _ (nI_nat h0) (by omega) hn k
theorem Ev.aldxb {p n : Nat} {i : Int32} (d : decode (Mc M) pc = .ok (.baload, 1)) (hp : p < 47) (hc : ∀ f g, cellW G p f g = .inl (cxC G 1, n, .inl (fun j => bI (g j)))) (h0 : 0 ≤ i.toInt) (h1 : i.toInt < n) (hn : n < 2 ^ 31) (k : Ev G M (pc + 1) L (.int (bI (b p i.toInt.toNat)) :: S) (wl G v b) E) : Ev G M pc L (.int i :: .ref (cxa G p) :: S) (wl G v b) E :=
  Ev.aldb d hp hc _ (nI_nat h0) (by omega) hn k
theorem Ev.astx {p n : Nat} {i x : Int32} (d : decode (Mc M) pc = .ok (.iastore, 1)) (hp : p < 47) (hc : ∀ f g, cellW G p f g = .inl (cxC G 0, n, .inl f)) (h0 : 0 ≤ i.toInt) (h1 : i.toInt < n) (hn : n < 2 ^ 31) (k : Ev G M (pc + 1) L S (wl G (sv v p i.toInt.toNat x) b) E) : Ev G M pc L (.int x :: .int i :: .ref (cxa G p) :: S) (wl G v b) E :=
  Ev.asti d hp hc _ (nI_nat h0) (by omega) hn k
end WRows2
