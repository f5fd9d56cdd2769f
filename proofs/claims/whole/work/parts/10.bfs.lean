/-! The queue as it grows: places below i have told all, place i its directions below d. -/
theorem pigeon : ∀ (n f : Nat) (pos : Nat → Nat), (∀ k, k < f → pos k < n) → (∀ j k, j < f → k < f → pos j = pos k → j = k) → f ≤ n := by
  intro n
  induction n with
  | zero =>
    intro f pos h _
    cases f with
    | zero => exact Nat.le_refl _
    | succ f => exact absurd (h 0 (by omega)) (by omega)
  | succ n ih =>
    intro f pos h hi
    by_cases hx : ∃ m, m < f ∧ pos m = n
    · obtain ⟨m, hm, e⟩ := hx
      have h2 := ih (f - 1) (fun k => if k < m then pos k else pos (k + 1)) (fun k hk => by
        show (if k < m then pos k else pos (k + 1)) < n
        split
        · have a := h k (by omega)
          have b : pos k ≠ n := fun q => by have := hi k m (by omega) hm (by omega); omega
          omega
        · have a := h (k + 1) (by omega)
          have b : pos (k + 1) ≠ n := fun q => by have := hi (k + 1) m (by omega) hm (by omega); omega
          omega) (fun j k hj hk => by
        show (if j < m then pos j else pos (j + 1)) = (if k < m then pos k else pos (k + 1)) → j = k
        split <;> split
        · intro q
          exact hi j k (by omega) (by omega) q
        · intro q
          have := hi j (k + 1) (by omega) (by omega) q
          omega
        · intro q
          have := hi (j + 1) k (by omega) (by omega) q
          omega
        · intro q
          have := hi (j + 1) (k + 1) (by omega) (by omega) q
          omega)
      omega
    · have h2 := ih f pos (fun k hk => by
        have a := h k hk
        have b : pos k ≠ n := fun q => hx ⟨k, hk, q⟩
        omega) hi
      omega
section Grow
variable (nx : Nat → Nat → Option Nat) (ok ex : Nat → Bool)
def qg (s f i d : Nat) (pos par dr : Nat → Nat) : Prop :=
  0 < f ∧ pos 0 = s ∧ (∀ k, 0 < k → k < f → par k < k ∧ ex (pos (par k)) = true ∧ nx (pos (par k)) (dr k) = some (pos k) ∧ ok (pos k) = true) ∧
  (∀ j k, 0 < j → j < k → k < f → par j < par k ∨ (par j = par k ∧ dr j < dr k)) ∧
  (∀ j d', (j < i ∨ (j = i ∧ d' < d)) → ∀ q, nx (pos j) d' = some q → ok q = true → ∃ k, k < f ∧ pos k = q ∧ (k = 0 ∨ par k < j ∨ (par k = j ∧ dr k ≤ d'))) ∧
  (∀ k, 0 < k → k < f → par k < i ∨ (par k = i ∧ dr k < d)) ∧ (∀ j k, j < f → k < f → pos j = pos k → j = k)
end Grow
section Grow2
variable {nx : Nat → Nat → Option Nat} {ok ex : Nat → Bool} {s f i d : Nat} {pos par dr : Nat → Nat}
theorem qg_0 {pos par dr : Nat → Nat} (h : pos 0 = s) : qg nx ok ex s 1 0 0 pos par dr := by
  refine ⟨by omega, h, fun k h1 h2 => by omega, fun j k h1 h2 h3 => by omega, fun j d' h1 => by omega, fun k h1 h2 => by omega, fun j k h1 h2 _ => by omega⟩
theorem qg.all (h : qg nx ok ex s f i 0 pos par dr) : qk nx ok ex s f i pos par dr :=
  ⟨h.1, h.2.1, h.2.2.1, h.2.2.2.1, fun j hj d q => h.2.2.2.2.1 j d (Or.inl hj) q⟩
theorem qg.inj (h : qg nx ok ex s f i d pos par dr) : ∀ j k, j < f → k < f → pos j = pos k → j = k := h.2.2.2.2.2.2
/-- nothing new in direction d -/
theorem qg.skip (h : qg nx ok ex s f i d pos par dr) (hq : ∀ q, nx (pos i) d = some q → ok q = true → ∃ k, k < f ∧ pos k = q) : qg nx ok ex s f i (d + 1) pos par dr := by
  refine ⟨h.1, h.2.1, h.2.2.1, h.2.2.2.1, fun j d' hj q h1 h2 => ?_, fun k h1 h2 => ?_, h.inj⟩
  · by_cases e : j = i ∧ d' = d
    · obtain ⟨rfl, rfl⟩ := e
      obtain ⟨k, k1, k2⟩ := hq q h1 h2
      refine ⟨k, k1, k2, ?_⟩
      by_cases h0 : k = 0
      · exact Or.inl h0
      · rcases h.2.2.2.2.2.1 k (by omega) k1 with h3 | ⟨h3, h4⟩
        · exact Or.inr (Or.inl h3)
        · exact Or.inr (Or.inr ⟨h3, by omega⟩)
    · exact h.2.2.2.2.1 j d' (by omega) q h1 h2
  · have := h.2.2.2.2.2.1 k h1 h2
    omega
/-- a new place in direction d -/
theorem qg.new (h : qg nx ok ex s f i d pos par dr) (hi : i < f) (he : ex (pos i) = true) {q : Nat} (hq : nx (pos i) d = some q) (ho : ok q = true) (hn : ∀ k, k < f → pos k ≠ q) : qg nx ok ex s (f + 1) i (d + 1) (va_up pos f q) (va_up par f i) (va_up dr f d) := by
  have u1 : ∀ (g : Nat → Nat) (x k : Nat), k < f → va_up g f x k = g k := fun g x k hk => by
    unfold va_up
    rw [if_neg (by omega)]
  have u2 : ∀ (g : Nat → Nat) (x : Nat), va_up g f x f = x := fun g x => by
    unfold va_up
    rw [if_pos rfl]
  refine ⟨by omega, ?_, fun k h1 h2 => ?_, fun j k h1 h2 h3 => ?_, fun j d' hj z h1 h2 => ?_, fun k h1 h2 => ?_, fun j k h1 h2 e => ?_⟩
  · rw [u1 _ _ _ h.1]
    exact h.2.1
  · by_cases e : k = f
    · subst e
      rw [u2, u2, u2, u1 _ _ _ hi]
      exact ⟨hi, he, hq, ho⟩
    · have hk : k < f := by omega
      have a := h.2.2.1 k h1 hk
      rw [u1 _ _ _ hk, u1 _ _ _ hk, u1 _ _ _ hk, u1 _ _ _ (by omega)]
      exact a
  · by_cases e : k = f
    · subst e
      rw [u2, u2, u1 _ _ _ h2, u1 _ _ _ h2]
      have := h.2.2.2.2.2.1 j h1 h2
      omega
    · have hk : k < f := by omega
      rw [u1 _ _ _ hk, u1 _ _ _ hk, u1 _ _ _ (by omega), u1 _ _ _ (by omega)]
      exact h.2.2.2.1 j k h1 h2 hk
  · have hj2 : j < f := by omega
    rw [u1 _ _ _ hj2] at h1
    by_cases e : j = i ∧ d' = d
    · obtain ⟨rfl, rfl⟩ := e
      have ez : q = z := Option.some.inj (hq.symm.trans h1)
      subst ez
      exact ⟨f, by omega, u2 _ _, Or.inr (Or.inr ⟨u2 _ _, by rw [u2]; exact Nat.le_refl _⟩)⟩
    · obtain ⟨k, k1, k2, k3⟩ := h.2.2.2.2.1 j d' (by omega) z h1 h2
      refine ⟨k, by omega, by rw [u1 _ _ _ k1]; exact k2, ?_⟩
      rw [u1 _ _ _ k1, u1 _ _ _ k1]
      exact k3
  · by_cases e : k = f
    · subst e
      rw [u2, u2]
      exact Or.inr ⟨rfl, by omega⟩
    · have hk : k < f := by omega
      rw [u1 _ _ _ hk, u1 _ _ _ hk]
      have := h.2.2.2.2.2.1 k h1 hk
      omega
  · by_cases e1 : j = f
    · by_cases e2 : k = f
      · omega
      · rw [e1, u2, u1 _ _ _ (by omega)] at e
        exact absurd e.symm (hn k (by omega))
    · by_cases e2 : k = f
      · rw [e2, u2, u1 _ _ _ (by omega)] at e
        exact absurd e (hn j (by omega))
      · rw [u1 _ _ _ (by omega), u1 _ _ _ (by omega)] at e
        exact h.inj j k (by omega) (by omega) e
theorem qg.turn (h : qg nx ok ex s f i d pos par dr) (hd : ∀ p d' q, nx p d' = some q → d' < d) : qg nx ok ex s f (i + 1) 0 pos par dr := by
  refine ⟨h.1, h.2.1, h.2.2.1, h.2.2.2.1, fun j d' hj q h1 h2 => ?_, fun k h1 h2 => ?_, h.inj⟩
  · have h3 := hd _ _ _ h1
    exact h.2.2.2.2.1 j d' (by omega) q h1 h2
  · have := h.2.2.2.2.2.1 k h1 h2
    omega
/-- the ways of old places stay as the queue grows -/
theorem pth_up {x y : Nat} (hp : ∀ k, 0 < k → k < f → par k < k) : ∀ (n k : Nat), k < f → pth (va_up par f x) (va_up dr f y) n k = pth par dr n k := by
  intro n
  induction n with
  | zero => intro k _; rfl
  | succ n ih =>
    intro k hk
    by_cases h0 : k = 0
    · subst h0
      simp [pth]
    · have h1 := hp k (by omega) hk
      have u1 : ∀ (g : Nat → Nat) (x : Nat), va_up g f x k = g k := fun g x => by
        unfold va_up
        rw [if_neg (by omega)]
      simp only [pth, if_neg h0, u1]
      rw [ih (par k) (by omega)]
end Grow2
