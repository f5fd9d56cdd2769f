/-! the world: 47 cells, of which 0 .. 29 are the system's and 30 .. 46 the reference's; v: numbers, b: truths, by cell and place -/
def cellW (G : cx_G) (p : Nat) (f : Nat → Int32) (g : Nat → Bool) : va_E := match p with
  | 0 => .inr (8, [.ref (cxa G 1), .ref (cxa G 3), .ref (cxa G 13), .ref (cxa G 15), .ref (cxa G 17), .ref (cxa G 19), .ref (cxa G 21), .ref (cxa G 23), .ref (cxa G 27), .ref (cxa G 29), .int (bI (g 10)), .int (f 11)])
  | 1 => .inr (0, [.int (f 0), .int (f 1), .int (f 2), .ref (cxa G 2)])
  | 2 => .inl (cxC G 0, 12, .inl f)
  | 3 => .inl (cxC G 2, 3, .inr (.inr (.inr (.inr (fun j => some (cxa G (4 + 3 * j)))))))
  | 4 => .inr (1, [.int (f 0), .ref (cxa G 5), .ref (cxa G 6)])
  | 5 => .inl (cxC G 0, 8, .inl f)
  | 6 => .inl (cxC G 0, 8, .inl f)
  | 7 => .inr (1, [.int (f 0), .ref (cxa G 8), .ref (cxa G 9)])
  | 8 => .inl (cxC G 0, 8, .inl f)
  | 9 => .inl (cxC G 0, 8, .inl f)
  | 10 => .inr (1, [.int (f 0), .ref (cxa G 11), .ref (cxa G 12)])
  | 11 => .inl (cxC G 0, 8, .inl f)
  | 12 => .inl (cxC G 0, 8, .inl f)
  | 13 => .inr (2, [.ref (cxa G 3), .ref (cxa G 14), .int (f 2)])
  | 14 => .inl (cxC G 0, 3, .inl f)
  | 15 => .inr (3, [.ref (cxa G 16), .int (f 1)])
  | 16 => .inl (cxC G 0, 2000, .inl f)
  | 17 => .inr (3, [.ref (cxa G 18), .int (f 1)])
  | 18 => .inl (cxC G 0, 2000, .inl f)
  | 19 => .inr (6, [.ref (cxa G 20)])
  | 20 => .inl (cxC G 1, 96, .inl (fun j => bI (g j)))
  | 21 => .inr (6, [.ref (cxa G 22)])
  | 22 => .inl (cxC G 1, 96, .inl (fun j => bI (g j)))
  | 23 => .inr (7, [.ref (cxa G 1), .ref (cxa G 24), .ref (cxa G 25), .ref (cxa G 26), .int (f 4)])
  | 24 => .inl (cxC G 0, 320, .inl f)
  | 25 => .inl (cxC G 0, 320, .inl f)
  | 26 => .inl (cxC G 0, 320, .inl f)
  | 27 => .inr (4, [.ref (cxa G 1), .ref (cxa G 13), .ref (cxa G 23), .ref (cxa G 21), .ref (cxa G 15), .ref (cxa G 28)])
  | 28 => .inl (cxC G 0, 320, .inl f)
  | 29 => .inr (5, [.ref (cxa G 1), .ref (cxa G 13), .int (f 2), .int (f 3), .int (f 4), .int (f 5), .int (f 6)])
  | 30 => .inr (9, [.int (f 0), .int (f 1), .int (f 2), .ref (cxa G 31), .ref (cxa G 32), .ref (cxa G 33), .ref (cxa G 34), .int (f 7), .ref (cxa G 35), .int (bI (g 9)), .int (f 10), .ref (cxa G 36), .ref (cxa G 37), .ref (cxa G 38), .ref (cxa G 39), .ref (cxa G 40), .ref (cxa G 41), .int (f 17), .int (bI (g 18)), .ref (cxa G 42), .ref (cxa G 43), .ref (cxa G 44), .ref (cxa G 45), .ref (cxa G 46), .int (f 24), .int (f 25), .int (f 26), .int (f 27)])
  | 31 => .inl (cxC G 0, 12, .inl f)
  | 32 => .inl (cxC G 0, 3, .inl f)
  | 33 => .inl (cxC G 0, 24, .inl f)
  | 34 => .inl (cxC G 0, 24, .inl f)
  | 35 => .inl (cxC G 0, 3, .inl f)
  | 36 => .inl (cxC G 0, 2000, .inl f)
  | 37 => .inl (cxC G 0, 2000, .inl f)
  | 38 => .inl (cxC G 0, 2000, .inl f)
  | 39 => .inl (cxC G 0, 2000, .inl f)
  | 40 => .inl (cxC G 0, 2000, .inl f)
  | 41 => .inl (cxC G 0, 2000, .inl f)
  | 42 => .inl (cxC G 1, 96, .inl (fun j => bI (g j)))
  | 43 => .inl (cxC G 1, 96, .inl (fun j => bI (g j)))
  | 44 => .inl (cxC G 1, 320, .inl (fun j => bI (g j)))
  | 45 => .inl (cxC G 0, 320, .inl f)
  | _ => .inl (cxC G 0, 320, .inl f)
def wl (G : cx_G) (v : Nat → Nat → Int32) (b : Nat → Nat → Bool) : List va_E := (List.range 47).map (fun p => cellW G p (v p) (b p))
section World
variable {G : cx_G} {v : Nat → Nat → Int32} {b : Nat → Nat → Bool}
theorem wl_at {p : Nat} {e : va_E} (hp : p < 47) (h : cellW G p (v p) (b p) = e) : (wl G v b)[p]? = some e := by
  simp [wl, hp, h]
theorem wl_len : (wl G v b).length = 47 := by simp [wl]
theorem wl_set {p : Nat} {f : Nat → Int32} {g : Nat → Bool} (hp : p < 47) : (wl G v b).set p (cellW G p f g) = wl G (va_up v p f) (va_up b p g) := by
  apply List.ext_getElem?
  intro i
  simp only [wl, List.getElem?_set, List.length_map, List.length_range, List.getElem?_map, List.getElem?_range]
  by_cases h : p = i
  · subst h
    simp [hp, va_up]
  · have h2 : ¬ i = p := fun e => h e.symm
    by_cases hi : i < 47
    · simp [h, h2, hi, va_up]
    · have h3 : (List.range 47)[i]? = none := List.getElem?_eq_none (by simp; omega)
      simp [h, h3]
theorem up_self {α : Type} (f : Nat → α) (p : Nat) : va_up f p (f p) = f := by
  funext j
  unfold va_up
  split
  · rename_i h; rw [h]
  · rfl
theorem wl_setv {p : Nat} {e : va_E} {f : Nat → Int32} (hp : p < 47) (h : e = cellW G p f (b p)) : (wl G v b).set p e = wl G (va_up v p f) b := by
  rw [h, wl_set hp, up_self]
theorem wl_setb {p : Nat} {e : va_E} {g : Nat → Bool} (hp : p < 47) (h : e = cellW G p (v p) g) : (wl G v b).set p e = wl G v (va_up b p g) := by
  rw [h, wl_set hp, up_self]
/-! the cells that come in kinds: insert j at 4 + 3 j, moves k at 15 + 2 k, stock k at 19 + 2 k -/
theorem wl_ins {j : Nat} (hj : j < 3) : (wl G v b)[4 + 3 * j]? = some (.inr (1, [.int (v (4 + 3 * j) 0), .ref (cxa G (5 + 3 * j)), .ref (cxa G (6 + 3 * j))])) := by
  rcases (by omega : j = 0 ∨ j = 1 ∨ j = 2) with rfl | rfl | rfl <;> exact wl_at (by decide) rfl
theorem wl_dz {j : Nat} (hj : j < 3) : (wl G v b)[5 + 3 * j]? = some (.inl (cxC G 0, 8, .inl (v (5 + 3 * j)))) := by
  rcases (by omega : j = 0 ∨ j = 1 ∨ j = 2) with rfl | rfl | rfl <;> exact wl_at (by decide) rfl
theorem wl_dr {j : Nat} (hj : j < 3) : (wl G v b)[6 + 3 * j]? = some (.inl (cxC G 0, 8, .inl (v (6 + 3 * j)))) := by
  rcases (by omega : j = 0 ∨ j = 1 ∨ j = 2) with rfl | rfl | rfl <;> exact wl_at (by decide) rfl
theorem wl_mv {k : Nat} (hk : k < 2) : (wl G v b)[15 + 2 * k]? = some (.inr (3, [.ref (cxa G (16 + 2 * k)), .int (v (15 + 2 * k) 1)])) := by
  rcases (by omega : k = 0 ∨ k = 1) with rfl | rfl <;> exact wl_at (by decide) rfl
theorem wl_mr {k : Nat} (hk : k < 2) : (wl G v b)[16 + 2 * k]? = some (.inl (cxC G 0, 2000, .inl (v (16 + 2 * k)))) := by
  rcases (by omega : k = 0 ∨ k = 1) with rfl | rfl <;> exact wl_at (by decide) rfl
theorem wl_st {k : Nat} (hk : k < 2) : (wl G v b)[19 + 2 * k]? = some (.inr (6, [.ref (cxa G (20 + 2 * k))])) := by
  rcases (by omega : k = 0 ∨ k = 1) with rfl | rfl <;> exact wl_at (by decide) rfl
theorem wl_sr {k : Nat} (hk : k < 2) : (wl G v b)[20 + 2 * k]? = some (.inl (cxC G 1, 96, .inl (fun j => bI (b (20 + 2 * k) j)))) := by
  rcases (by omega : k = 0 ∨ k = 1) with rfl | rfl <;> exact wl_at (by decide) rfl
end World
/-- one number, one truth set anew -/
abbrev sv (v : Nat → Nat → Int32) (p k : Nat) (x : Int32) : Nat → Nat → Int32 := va_up v p (va_up (v p) k x)
abbrev sb (b : Nat → Nat → Bool) (p k : Nat) (x : Bool) : Nat → Nat → Bool := va_up b p (va_up (b p) k x)
