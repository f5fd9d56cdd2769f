/-! Shortest ways over a small graph, pure: valid ways, the order of ways, what a breadth-first queue knows, what a table of distances knows. -/
def allB : Nat → (Nat → Bool) → Bool
  | 0, _ => true
  | n + 1, f => allB n f && f n
def anyB : Nat → (Nat → Bool) → Bool
  | 0, _ => false
  | n + 1, f => anyB n f || f n
def cntB : Nat → (Nat → Bool) → Nat
  | 0, _ => 0
  | n + 1, f => cntB n f + (if f n = true then 1 else 0)
theorem allB_iff {n : Nat} {f : Nat → Bool} : allB n f = true ↔ ∀ i, i < n → f i = true := by
  induction n with
  | zero => simp [allB]
  | succ n ih =>
    simp only [allB, Bool.and_eq_true, ih]
    constructor
    · rintro ⟨h1, h2⟩ i hi
      by_cases e : i = n
      · rw [e]; exact h2
      · exact h1 i (by omega)
    · intro h
      exact ⟨fun i hi => h i (by omega), h n (by omega)⟩
theorem anyB_iff {n : Nat} {f : Nat → Bool} : anyB n f = true ↔ ∃ i, i < n ∧ f i = true := by
  induction n with
  | zero => simp [anyB]
  | succ n ih =>
    simp only [anyB, Bool.or_eq_true, ih]
    constructor
    · rintro (⟨i, h1, h2⟩ | h)
      · exact ⟨i, by omega, h2⟩
      · exact ⟨n, by omega, h⟩
    · rintro ⟨i, h1, h2⟩
      by_cases e : i = n
      · rw [e] at h2; exact Or.inr h2
      · exact Or.inl ⟨i, by omega, h2⟩
theorem anyB_false {n : Nat} {f : Nat → Bool} : anyB n f = false ↔ ∀ i, i < n → f i = false := by
  rw [← Bool.not_eq_true, anyB_iff]
  constructor
  · intro h i hi
    cases e : f i with
    | false => rfl
    | true => exact absurd ⟨i, hi, e⟩ h
  · rintro h ⟨i, hi, e⟩
    rw [h i hi] at e
    cases e
theorem allB_congr {n : Nat} {f g : Nat → Bool} (h : ∀ i, i < n → f i = g i) : allB n f = allB n g := by
  induction n with
  | zero => rfl
  | succ n ih => simp only [allB]; rw [ih (fun i hi => h i (by omega)), h n (by omega)]
theorem anyB_congr {n : Nat} {f g : Nat → Bool} (h : ∀ i, i < n → f i = g i) : anyB n f = anyB n g := by
  induction n with
  | zero => rfl
  | succ n ih => simp only [anyB]; rw [ih (fun i hi => h i (by omega)), h n (by omega)]
theorem cntB_congr {n : Nat} {f g : Nat → Bool} (h : ∀ i, i < n → f i = g i) : cntB n f = cntB n g := by
  induction n with
  | zero => rfl
  | succ n ih => simp only [cntB]; rw [ih (fun i hi => h i (by omega)), h n (by omega)]
theorem cntB_le {n : Nat} {f : Nat → Bool} : cntB n f ≤ n := by
  induction n with
  | zero => exact Nat.le_refl _
  | succ n ih => simp only [cntB]; split <;> omega
theorem nil_or_snoc (u : List Nat) : u = [] ∨ ∃ v d, u = v ++ [d] := by
  rcases List.eq_nil_or_concat u with h | ⟨v, d, h⟩
  · exact Or.inl h
  · exact Or.inr ⟨v, d, by rw [h, List.concat_eq_append]⟩
/-! ways -/
section Ways
variable (nx : Nat → Nat → Option Nat) (ok ex : Nat → Bool)
def wk : Nat → List Nat → Option Nat
  | p, [] => some p
  | p, d :: ds => if ex p = true then (match nx p d with | some q => if ok q = true then wk q ds else none | none => none) else none
end Ways
section Ways2
variable {nx : Nat → Nat → Option Nat} {ok ex : Nat → Bool}
theorem wk_cons {p d : Nat} {ds : List Nat} {z : Nat} : wk nx ok ex p (d :: ds) = some z ↔ ex p = true ∧ ∃ q, nx p d = some q ∧ ok q = true ∧ wk nx ok ex q ds = some z := by
  simp only [wk]
  by_cases h : ex p = true
  · rw [if_pos h]
    cases hq : nx p d with
    | none => simp
    | some q =>
      by_cases h2 : ok q = true
      · simp [h, h2]
      · simp [h2]
  · rw [if_neg h]
    simp [h]
theorem wk_app {u v : List Nat} : ∀ {p z : Nat}, wk nx ok ex p (u ++ v) = some z ↔ ∃ q, wk nx ok ex p u = some q ∧ wk nx ok ex q v = some z := by
  induction u with
  | nil => intro p z; simp [wk]
  | cons d u ih =>
    intro p z
    rw [List.cons_append, wk_cons]
    constructor
    · rintro ⟨h1, q, h2, h3, h4⟩
      obtain ⟨m, h5, h6⟩ := ih.mp h4
      exact ⟨m, wk_cons.mpr ⟨h1, q, h2, h3, h5⟩, h6⟩
    · rintro ⟨m, h1, h2⟩
      obtain ⟨h3, q, h4, h5, h6⟩ := wk_cons.mp h1
      exact ⟨h3, q, h4, h5, ih.mpr ⟨m, h6, h2⟩⟩
theorem wk_snoc {u : List Nat} {d p z : Nat} : wk nx ok ex p (u ++ [d]) = some z ↔ ∃ q, wk nx ok ex p u = some q ∧ ex q = true ∧ nx q d = some z ∧ ok z = true := by
  rw [wk_app]
  constructor
  · rintro ⟨q, h1, h2⟩
    obtain ⟨h3, z', h4, h5, h6⟩ := wk_cons.mp h2
    simp only [wk, Option.some.injEq] at h6
    subst h6
    exact ⟨q, h1, h3, h4, h5⟩
  · rintro ⟨q, h1, h3, h4, h5⟩
    exact ⟨q, h1, wk_cons.mpr ⟨h3, z, h4, h5, rfl⟩⟩
end Ways2
/-! the order of ways: shorter first, then the first direction that differs -/
def lxl : List Nat → List Nat → Prop
  | a :: u, b :: v => a < b ∨ (a = b ∧ lxl u v)
  | _, _ => False
theorem lxl_irr : ∀ (u : List Nat), ¬ lxl u u
  | [], h => h
  | a :: u, h => by
    rcases h with h | ⟨-, h⟩
    · omega
    · exact lxl_irr u h
theorem lxl_tr : ∀ {u v w : List Nat}, lxl u v → lxl v w → lxl u w
  | a :: u, b :: v, c :: w, h1, h2 => by
    rcases h1 with h1 | ⟨rfl, h1⟩
    · rcases h2 with h2 | ⟨rfl, h2⟩
      · exact Or.inl (by omega)
      · exact Or.inl h1
    · rcases h2 with h2 | ⟨rfl, h2⟩
      · exact Or.inl h2
      · exact Or.inr ⟨rfl, lxl_tr h1 h2⟩
  | [], _, _, h1, _ => h1.elim
  | _ :: _, [], _, h1, _ => h1.elim
  | _ :: _, _ :: _, [], _, h2 => h2.elim
theorem lxl_app {x y : List Nat} : ∀ {u v : List Nat}, u.length = v.length → lxl u v → lxl (u ++ x) (v ++ y)
  | a :: u, b :: v, hl, h => by
    rcases h with h | ⟨rfl, h⟩
    · exact Or.inl h
    · exact Or.inr ⟨rfl, lxl_app (by simpa using hl) h⟩
  | [], _, _, h => h.elim
  | _ :: _, [], _, h => h.elim
theorem lxl_same {x y : List Nat} (h : lxl x y) : ∀ (u : List Nat), lxl (u ++ x) (u ++ y)
  | [] => h
  | _ :: u => Or.inr ⟨rfl, lxl_same h u⟩
def slx (u v : List Nat) : Prop := u.length < v.length ∨ (u.length = v.length ∧ lxl u v)
def sle (u v : List Nat) : Prop := u = v ∨ slx u v
theorem slx_tr {u v w : List Nat} (h1 : slx u v) (h2 : slx v w) : slx u w := by
  rcases h1 with h1 | ⟨e1, h1⟩ <;> rcases h2 with h2 | ⟨e2, h2⟩
  · exact Or.inl (by omega)
  · exact Or.inl (by omega)
  · exact Or.inl (by omega)
  · exact Or.inr ⟨by omega, lxl_tr h1 h2⟩
theorem slx_irr {u : List Nat} : ¬ slx u u := by
  rintro (h | ⟨-, h⟩)
  · omega
  · exact lxl_irr u h
theorem sle_slx {u v w : List Nat} (h1 : sle u v) (h2 : slx v w) : slx u w := by
  rcases h1 with rfl | h1
  · exact h2
  · exact slx_tr h1 h2
theorem slx_sle {u v w : List Nat} (h1 : slx u v) (h2 : sle v w) : slx u w := by
  rcases h2 with rfl | h2
  · exact h1
  · exact slx_tr h1 h2
theorem sle_tr {u v w : List Nat} (h1 : sle u v) (h2 : sle v w) : sle u w := by
  rcases h1 with rfl | h1
  · exact h2
  · exact Or.inr (slx_sle h1 h2)
theorem sle_anti {u v : List Nat} (h1 : sle u v) (h2 : sle v u) : u = v := by
  rcases h1 with rfl | h1
  · rfl
  · exact absurd (slx_sle h1 h2) slx_irr
theorem sle_len {u v : List Nat} (h : sle u v) : u.length ≤ v.length := by
  rcases h with rfl | h | ⟨h, -⟩ <;> omega
theorem slx_snoc {u v : List Nat} {a b : Nat} (h : slx u v) : slx (u ++ [a]) (v ++ [b]) := by
  rcases h with h | ⟨e, h⟩
  · exact Or.inl (by simp; omega)
  · exact Or.inr ⟨by simp; omega, lxl_app e h⟩
theorem sle_snoc {u v : List Nat} {a b : Nat} (h : sle u v) (hab : a ≤ b) : sle (u ++ [a]) (v ++ [b]) := by
  rcases h with rfl | h
  · by_cases e : a = b
    · rw [e]; exact Or.inl rfl
    · exact Or.inr (Or.inr ⟨by simp, lxl_same (x := [a]) (y := [b]) (Or.inl (by omega)) u⟩)
  · exact Or.inr (slx_snoc h)
theorem slx_snocd {u : List Nat} {a b : Nat} (h : a < b) : slx (u ++ [a]) (u ++ [b]) := Or.inr ⟨by simp, lxl_same (x := [a]) (y := [b]) (Or.inl h) u⟩
/-! what a queue knows: places 0 .. f - 1 found, those below i have told all their neighbours -/
section Queue
variable (nx : Nat → Nat → Option Nat) (ok ex : Nat → Bool)
def qk (s f i : Nat) (pos par dr : Nat → Nat) : Prop :=
  0 < f ∧ pos 0 = s ∧ (∀ k, 0 < k → k < f → par k < k ∧ ex (pos (par k)) = true ∧ nx (pos (par k)) (dr k) = some (pos k) ∧ ok (pos k) = true) ∧
  (∀ j k, 0 < j → j < k → k < f → par j < par k ∨ (par j = par k ∧ dr j < dr k)) ∧
  (∀ j, j < i → ∀ d q, nx (pos j) d = some q → ok q = true → ∃ k, k < f ∧ pos k = q ∧ (k = 0 ∨ par k < j ∨ (par k = j ∧ dr k ≤ d)))
end Queue
/-- the way to place k, by the parents -/
def pth (par dr : Nat → Nat) : Nat → Nat → List Nat
  | 0, _ => []
  | n + 1, k => if k = 0 then [] else pth par dr n (par k) ++ [dr k]
section Queue2
variable {nx : Nat → Nat → Option Nat} {ok ex : Nat → Bool} {s f i : Nat} {pos par dr : Nat → Nat}
theorem pth_fuel (hp : ∀ k, 0 < k → k < f → par k < k) : ∀ (n m k : Nat), k < f → k ≤ n → k ≤ m → pth par dr n k = pth par dr m k := by
  intro n
  induction n with
  | zero =>
    intro m k hk h1 h2
    have : k = 0 := by omega
    subst this
    cases m <;> simp [pth]
  | succ n ih =>
    intro m k hk h1 h2
    by_cases h0 : k = 0
    · subst h0
      cases m <;> simp [pth]
    · cases m with
      | zero => omega
      | succ m =>
        have h3 := hp k (by omega) hk
        simp only [pth, if_neg h0]
        rw [ih m (par k) (by omega) (by omega) (by omega)]
theorem pth_step (hp : ∀ k, 0 < k → k < f → par k < k) {k : Nat} (h0 : 0 < k) (hk : k < f) : pth par dr k k = pth par dr (par k) (par k) ++ [dr k] := by
  obtain ⟨k', rfl⟩ : ∃ k', k = k' + 1 := ⟨k - 1, by omega⟩
  have h3 := hp (k' + 1) h0 hk
  have h4 : pth par dr (k' + 1) (k' + 1) = pth par dr k' (par (k' + 1)) ++ [dr (k' + 1)] := by
    simp [pth]
  rw [h4, pth_fuel hp k' (par (k' + 1)) (par (k' + 1)) (by omega) (by omega) (by omega)]
theorem qk.lt (h : qk nx ok ex s f i pos par dr) : ∀ k, 0 < k → k < f → par k < k := fun k h0 hk => (h.2.2.1 k h0 hk).1
theorem qk.way (h : qk nx ok ex s f i pos par dr) : ∀ k, k < f → wk nx ok ex s (pth par dr k k) = some (pos k) := by
  intro k
  induction k using Nat.strongRecOn with
  | ind k ih =>
    intro hk
    by_cases h0 : k = 0
    · subst h0
      simp [pth, wk, h.2.1]
    · obtain ⟨a1, a2, a3, a4⟩ := h.2.2.1 k (by omega) hk
      rw [pth_step h.lt (by omega) hk, wk_snoc]
      exact ⟨_, ih _ a1 (by omega), a2, a3, a4⟩
theorem qk.mono (h : qk nx ok ex s f i pos par dr) : ∀ k j, j < k → k < f → slx (pth par dr j j) (pth par dr k k) := by
  intro k
  induction k using Nat.strongRecOn with
  | ind k ih =>
    intro j hj hk
    have a1 := h.lt k (by omega) hk
    by_cases h0 : j = 0
    · subst h0
      rw [pth_step h.lt (by omega) hk]
      exact Or.inl (by simp [pth])
    · rw [pth_step h.lt (by omega) hk, pth_step h.lt (by omega) (by omega : j < f)]
      rcases h.2.2.2.1 j k (by omega) hj hk with h2 | ⟨h2, h3⟩
      · exact slx_snoc (ih _ a1 _ h2 (by omega))
      · rw [h2]
        exact slx_snocd h3
theorem qk.len (h : qk nx ok ex s f i pos par dr) {j k : Nat} (hj : j ≤ k) (hk : k < f) : (pth par dr j j).length ≤ (pth par dr k k).length := by
  by_cases e : j = k
  · rw [e]; exact Nat.le_refl _
  · exact sle_len (Or.inr (h.mono k j (by omega) hk))
/-- every way whose turns were all told is found, by the least way -/
theorem qk.least (h : qk nx ok ex s f i pos par dr) {D : Nat} (hD : ∀ k, k < f → (pth par dr k k).length < D → k < i) : ∀ (n : Nat) (u : List Nat) (q : Nat), u.length = n → n ≤ D → wk nx ok ex s u = some q → ∃ k, k < f ∧ pos k = q ∧ sle (pth par dr k k) u := by
  intro n
  induction n with
  | zero =>
    intro u q hu _ hw
    have : u = [] := List.length_eq_zero_iff.mp hu
    subst this
    simp only [wk, Option.some.injEq] at hw
    exact ⟨0, h.1, h.2.1.trans hw, Or.inl (by simp [pth])⟩
  | succ n ih =>
    intro u q hu hn hw
    rcases nil_or_snoc u with rfl | ⟨v, d, rfl⟩
    · simp at hu
    · have hv : v.length = n := by simpa using hu
      obtain ⟨m, w1, w2, w3, w4⟩ := wk_snoc.mp hw
      obtain ⟨j, j1, j2, j3⟩ := ih v m hv (by omega) w1
      have hji : j < i := hD j j1 (by have := sle_len j3; omega)
      obtain ⟨k, k1, k2, k3⟩ := h.2.2.2.2 j hji d q (by rw [j2]; exact w3) w4
      refine ⟨k, k1, k2, ?_⟩
      by_cases h0 : k = 0
      · subst h0
        exact Or.inr (Or.inl (by simp [pth]))
      · rw [pth_step h.lt (by omega) k1]
        rcases k3 with k3 | k3 | ⟨k3, k4⟩
        · exact absurd k3 h0
        · exact Or.inr (slx_snoc (slx_sle (h.mono j _ k3 j1) j3))
        · rw [k3]
          exact sle_snoc j3 k4
end Queue2
