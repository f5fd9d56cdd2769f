/-! What a table of distances knows, and the way that is read off it. -/
section Table
variable (nx : Nat → Nat → Option Nat) (ok ex : Nat → Bool)
/-- behind pass n: t holds every least length up to n -/
def tk (g n : Nat) (t : Nat → Nat) : Prop :=
  (∀ q, t q ≤ n ∨ t q = 100000) ∧ (∀ q, t q ≠ 100000 → ∃ u, u.length = t q ∧ wk nx ok ex g u = some q) ∧ (∀ u q, u.length ≤ n → wk nx ok ex g u = some q → t q ≤ u.length)
/-- the whole table -/
def dk (g : Nat) (t : Nat → Nat) : Prop :=
  (∀ q, t q ≠ 100000 → ∃ u, u.length = t q ∧ wk nx ok ex g u = some q) ∧ (∀ u q, wk nx ok ex g u = some q → t q ≤ u.length ∧ t q ≠ 100000)
/-- pass n makes t2 out of t -/
def tp (n : Nat) (t t2 : Nat → Nat) : Prop :=
  (∀ q, t q ≠ 100000 → t2 q = t q) ∧ (∀ q, t q = 100000 → t2 q = 100000 ∨ (t2 q = n + 1 ∧ ok q = true ∧ ∃ p d, t p = n ∧ ex p = true ∧ nx p d = some q)) ∧
  (∀ p d q, t p = n → ex p = true → nx p d = some q → ok q = true → t2 q ≠ 100000)
end Table
section Table2
variable {nx : Nat → Nat → Option Nat} {ok ex : Nat → Bool} {g n : Nat} {t t2 : Nat → Nat}
theorem tk_0 : tk nx ok ex g 0 (fun p => if p = g then 0 else 100000) := by
  refine ⟨fun q => ?_, fun q h => ?_, fun u q hu hw => ?_⟩
  · by_cases h : q = g
    · simp [h]
    · simp [h]
  · by_cases e : q = g
    · subst e
      exact ⟨[], by simp, rfl⟩
    · simp [e] at h
  · have : u = [] := List.length_eq_zero_iff.mp (by omega)
    subst this
    simp only [wk, Option.some.injEq] at hw
    simp [hw]
theorem tk.next (h : tk nx ok ex g n t) (hn : n + 1 < 100000) (hp : tp nx ok ex n t t2) : tk nx ok ex g (n + 1) t2 := by
  obtain ⟨a, b, c⟩ := h
  obtain ⟨p1, p2, p3⟩ := hp
  refine ⟨fun q => ?_, fun q hq => ?_, fun u q hu hw => ?_⟩
  · by_cases e : t q = 100000
    · rcases p2 q e with h | ⟨h, -⟩
      · exact Or.inr h
      · exact Or.inl (by omega)
    · rw [p1 q e]
      rcases a q with h | h
      · exact Or.inl (by omega)
      · exact absurd h e
  · by_cases e : t q = 100000
    · rcases p2 q e with h | ⟨h, ho, p, d, e1, e2, e3⟩
      · exact absurd h hq
      · obtain ⟨u, hu, hw⟩ := b p (by omega)
        exact ⟨u ++ [d], by simp; omega, wk_snoc.mpr ⟨p, hw, e2, e3, ho⟩⟩
    · rw [p1 q e]
      exact b q e
  · by_cases hle : u.length ≤ n
    · have h1 := c u q hle hw
      rw [p1 q (by omega)]
      exact h1
    · have hlen : u.length = n + 1 := by omega
      rcases nil_or_snoc u with rfl | ⟨v, d, rfl⟩
      · simp at hlen
      · have hv : v.length = n := by simpa using hlen
        obtain ⟨p, w1, w2, w3, w4⟩ := wk_snoc.mp hw
        have h1 := c v p (by omega) w1
        by_cases e : t p = n
        · have h2 := p3 p d q e w2 w3 w4
          by_cases e2 : t q = 100000
          · rcases p2 q e2 with h | ⟨h, -⟩
            · exact absurd h h2
            · omega
          · rw [p1 q e2]
            rcases a q with h | h
            · omega
            · exact absurd h e2
        · obtain ⟨u', hu', hw'⟩ := b p (by omega)
          have h3 := c (u' ++ [d]) q (by simp; omega) (wk_snoc.mpr ⟨p, hw', w2, w3, w4⟩)
          simp only [List.length_append, List.length_cons, List.length_nil] at h3
          rw [p1 q (by omega)]
          omega
theorem tk.done (h : tk nx ok ex g n t) (hn : n < 100000) (hp : tp nx ok ex n t t) : dk nx ok ex g t := by
  obtain ⟨a, b, c⟩ := h
  obtain ⟨p1, p2, p3⟩ := hp
  refine ⟨b, ?_⟩
  have key : ∀ (m : Nat) (u : List Nat) (q : Nat), u.length = m → wk nx ok ex g u = some q → t q ≤ u.length ∧ t q ≠ 100000 := by
    intro m
    induction m with
    | zero =>
      intro u q hu hw
      have := c u q (by omega) hw
      exact ⟨this, by omega⟩
    | succ m ih =>
      intro u q hu hw
      by_cases hle : u.length ≤ n
      · have := c u q hle hw
        exact ⟨this, by omega⟩
      · rcases nil_or_snoc u with rfl | ⟨v, d, rfl⟩
        · simp at hu
        · have hv : v.length = m := by simpa using hu
          obtain ⟨p, w1, w2, w3, w4⟩ := wk_snoc.mp hw
          obtain ⟨i1, i2⟩ := ih v p hv w1
          by_cases e : t p = n
          · have h2 := p3 p d q e w2 w3 w4
            refine ⟨?_, h2⟩
            rcases a q with h | h
            · omega
            · exact absurd h h2
          · obtain ⟨u', hu', hw'⟩ := b p i2
            have h4 : t p ≤ n := by
              rcases a p with h | h
              · exact h
              · exact absurd h i2
            have h3 := c (u' ++ [d]) q (by simp; omega) (wk_snoc.mpr ⟨p, hw', w2, w3, w4⟩)
            simp only [List.length_append, List.length_cons, List.length_nil] at h3
            exact ⟨by omega, by omega⟩
  exact fun u q hw => key u.length u q rfl hw
end Table2
/-! the way back -/
section Greedy
variable (nx : Nat → Nat → Option Nat) (ok ex : Nat → Bool)
def gon (g : Nat) (t : Nat → Nat) (q m : Nat) : Prop := ok q = true ∧ t q = m ∧ (q = g ∨ ex q = true)
def gr (g : Nat) (t : Nat → Nat) : Nat → List Nat → Prop
  | p, [] => p = g
  | p, d :: ds => p ≠ g ∧ ∃ q, nx p d = some q ∧ gon ok ex g t q (t p - 1) ∧ (∀ d' q', d' < d → nx p d' = some q' → ¬ gon ok ex g t q' (t p - 1)) ∧ gr g t q ds
end Greedy
section Greedy2
variable {nx : Nat → Nat → Option Nat} {ok ex : Nat → Bool} {op : Nat → Nat} {g : Nat} {t : Nat → Nat}
/-- a way to g, gone back -/
theorem wk_back (hs : ∀ p d q, nx p d = some q → nx q (op d) = some p) : ∀ (u : List Nat) (p : Nat), ok p = true → wk nx ok ex p u = some g → ∃ u', u'.length = u.length ∧ wk nx ok (fun q => q == g || ex q) g u' = some p
  | [], p, _, hw => by
    simp only [wk, Option.some.injEq] at hw
    subst hw
    exact ⟨[], rfl, rfl⟩
  | d :: ds, p, hp, hw => by
    obtain ⟨h1, q, h2, h3, h4⟩ := wk_cons.mp hw
    obtain ⟨u', h5, h6⟩ := wk_back hs ds q h3 h4
    refine ⟨u' ++ [op d], by simp [h5], wk_snoc.mpr ⟨q, h6, ?_, hs p d q h2, hp⟩⟩
    cases ds with
    | nil =>
      simp only [wk, Option.some.injEq] at h4
      simp [h4]
    | cons d2 ds2 =>
      have := (wk_cons.mp h4).1
      simp [this]
/-- from a place with a distance there is a turn nearer -/
theorem dk.turn (hs : ∀ p d q, nx p d = some q → nx q (op d) = some p) (hg : ok g = true) (h : dk nx ok (fun q => q == g || ex q) g t) {p : Nat} (hp : p ≠ g) (ht : t p ≠ 100000) : 0 < t p ∧ ∃ d q, nx p d = some q ∧ gon ok ex g t q (t p - 1) := by
  obtain ⟨b, c⟩ := h
  obtain ⟨u, hu, hw⟩ := b p ht
  rcases nil_or_snoc u with rfl | ⟨v, d, rfl⟩
  · simp only [wk, Option.some.injEq] at hw
    exact absurd hw.symm hp
  · have hv : v.length + 1 = t p := by simpa using hu
    obtain ⟨y, w1, w2, w3, w4⟩ := wk_snoc.mp hw
    obtain ⟨c1, c2⟩ := c v y w1
    obtain ⟨u2, hu2, hw2⟩ := b y c2
    have c3 := (c (u2 ++ [d]) p (wk_snoc.mpr ⟨y, hw2, w2, w3, w4⟩)).1
    simp only [List.length_append, List.length_cons, List.length_nil] at c3
    refine ⟨by omega, op d, y, hs _ _ _ w3, ?_, by omega, ?_⟩
    · rcases nil_or_snoc v with rfl | ⟨v2, d2, rfl⟩
      · simp only [wk, Option.some.injEq] at w1
        rw [← w1]; exact hg
      · obtain ⟨_, _, _, _, h9⟩ := wk_snoc.mp w1
        exact h9
    · simpa using w2
theorem gr.spec (hs : ∀ p d q, nx p d = some q → nx q (op d) = some p) (h : dk nx ok (fun q => q == g || ex q) g t) : ∀ (u : List Nat) (p : Nat), ok p = true → (p = g ∨ ex p = true) → t p ≠ 100000 → gr nx ok ex g t p u →
    u.length = t p ∧ wk nx ok ex p u = some g ∧ ∀ v, v.length = t p → wk nx ok ex p v = some g → sle u v
  | [], p, _, _, _, hu => by
    have hu : p = g := hu
    subst hu
    have h0 := (h.2 [] p rfl).1
    simp only [List.length_nil, Nat.le_zero_eq] at h0
    refine ⟨by simp [h0], rfl, fun v hv _ => ?_⟩
    rw [h0] at hv
    exact Or.inl (List.length_eq_zero_iff.mp hv).symm
  | d :: ds, p, ho, he, htp, hu => by
    obtain ⟨h0, q, h1, ⟨q1, q2, q3⟩, h3, h4⟩ := hu
    have hex : ex p = true := by
      rcases he with e | e
      · exact absurd e h0
      · exact e
    have hpos : 0 < t p := by
      obtain ⟨u2, hu2, hw2⟩ := h.1 p htp
      cases u2 with
      | nil =>
        simp only [wk, Option.some.injEq] at hw2
        exact absurd hw2.symm h0
      | cons a b => simp at hu2; omega
    have hnf : t q ≠ 100000 := by
      obtain ⟨u2, hu2, hw2⟩ := h.1 p htp
      rcases Nat.lt_or_ge (t p) 100001 with hlt | hge
      · omega
      · intro e
        have : t p = 100001 := by omega
        rcases nil_or_snoc u2 with rfl | ⟨v, d2, rfl⟩
        · simp at hu2; omega
        · obtain ⟨y, w1, w2, w3, w4⟩ := wk_snoc.mp hw2
          obtain ⟨c1, c2⟩ := h.2 v y w1
          obtain ⟨u3, hu3, hw3⟩ := h.1 y c2
          have c3 := (h.2 (u3 ++ [d2]) p (wk_snoc.mpr ⟨y, hw3, w2, w3, w4⟩)).1
          have hv : v.length + 1 = t p := by simpa using hu2
          simp only [List.length_append, List.length_cons, List.length_nil] at c3
          omega
    obtain ⟨i1, i2, i3⟩ := gr.spec hs h ds q q1 q3 hnf h4
    refine ⟨by simp; omega, wk_cons.mpr ⟨hex, q, h1, q1, i2⟩, fun v hv hw => ?_⟩
    cases v with
    | nil => simp at hv; omega
    | cons d' v =>
      obtain ⟨w1, q', w2, w3, w4⟩ := wk_cons.mp hw
      have hlv : v.length = t p - 1 := by simp at hv; omega
      obtain ⟨u', hu', hw'⟩ := wk_back hs v q' w3 w4
      have c1 := h.2 u' q' hw'
      have hq'e : q' = g ∨ ex q' = true := by
        cases v with
        | nil =>
          simp only [wk, Option.some.injEq] at w4
          exact Or.inl w4
        | cons a b => exact Or.inr (wk_cons.mp w4).1
      have c3 : t p ≤ t q' + 1 := by
        obtain ⟨u3, hu3, hw3⟩ := h.1 q' c1.2
        have := (h.2 (u3 ++ [op d']) p (wk_snoc.mpr ⟨q', hw3, by simpa using hq'e, hs _ _ _ w2, ho⟩)).1
        simp only [List.length_append, List.length_cons, List.length_nil] at this
        omega
      have hon : gon ok ex g t q' (t p - 1) := ⟨w3, by omega, hq'e⟩
      have hdd : d ≤ d' := by
        rcases Nat.lt_or_ge d' d with hlt | hge
        · exact absurd hon (h3 d' q' hlt w2)
        · exact hge
      by_cases e : d = d'
      · subst e
        have e2 : q = q' := Option.some.inj (h1.symm.trans w2)
        subst e2
        have hv2 : v.length = t q := by omega
        rcases i3 v hv2 w4 with rfl | h5 | ⟨h5, h6⟩
        · exact Or.inl rfl
        · exact Or.inr (Or.inl (by simp; omega))
        · exact Or.inr (Or.inr ⟨by simp [h5], Or.inr ⟨rfl, h6⟩⟩)
      · exact Or.inr (Or.inr ⟨by simp; omega, Or.inl (by omega)⟩)
end Greedy2
/-! a leg: the nearest covered place, the one with the least number among these, and the least way to it -/
section Leg
variable (nx : Nat → Nat → Option Nat) (ok cov : Nat → Bool)
def legS (s : Nat) : Option (Nat × List Nat) → Prop
  | none => ∀ q u, cov q = true → wk nx ok (fun p => !cov p) s u ≠ some q
  | some (g, π) => cov g = true ∧ wk nx ok (fun p => !cov p) s π = some g ∧ (∀ q u, cov q = true → wk nx ok (fun p => !cov p) s u = some q → π.length < u.length ∨ (π.length = u.length ∧ g ≤ q)) ∧ ∀ u, u.length = π.length → wk nx ok (fun p => !cov p) s u = some g → sle π u
theorem legS_uniq {s : Nat} {a b : Option (Nat × List Nat)} (ha : legS nx ok cov s a) (hb : legS nx ok cov s b) : a = b := by
  cases a with
  | none =>
    cases b with
    | none => rfl
    | some y =>
      obtain ⟨g, π⟩ := y
      exact absurd hb.2.1 (ha g π hb.1)
  | some x =>
    obtain ⟨g, π⟩ := x
    cases b with
    | none => exact absurd ha.2.1 (hb g π ha.1)
    | some y =>
      obtain ⟨g', π'⟩ := y
      have h1 := ha.2.2.1 g' π' hb.1 hb.2.1
      have h2 := hb.2.2.1 g π ha.1 ha.2.1
      have e1 : π.length = π'.length := by omega
      have e2 : g = g' := by omega
      subst e2
      have h3 := ha.2.2.2 π' e1.symm hb.2.1
      have h4 := hb.2.2.2 π e1 ha.2.1
      rw [sle_anti h3 h4]
noncomputable def leg (s : Nat) : Option (Nat × List Nat) := Classical.epsilon (legS nx ok cov s)
theorem leg_eq {s : Nat} {r : Option (Nat × List Nat)} (h : legS nx ok cov s r) : leg nx ok cov s = r := legS_uniq nx ok cov (Classical.epsilon_spec (p := legS nx ok cov s) ⟨r, h⟩) h
end Leg
section Leg2
variable {nx : Nat → Nat → Option Nat} {ok cov : Nat → Bool} {s f i : Nat} {pos par dr : Nat → Nat}
theorem qk_none (h : qk nx ok (fun p => !cov p) s f f pos par dr) (hc : ∀ k, k < f → cov (pos k) = false) : legS nx ok cov s none := by
  intro q u hq hw
  obtain ⟨k, k1, k2, -⟩ := h.least (D := u.length) (fun k hk _ => hk) u.length u q rfl (Nat.le_refl _) hw
  rw [← k2, hc k k1] at hq
  cases hq
theorem qk_some (h : qk nx ok (fun p => !cov p) s f i pos par dr) (hinj : ∀ j k, j < f → k < f → pos j = pos k → j = k) {b : Nat} (hb : b < f) (hcb : cov (pos b) = true)
    (h1 : ∀ k, k < f → (pth par dr k k).length < (pth par dr b b).length → k < i ∧ cov (pos k) = false) (h2 : ∀ k, k < f → (pth par dr k k).length = (pth par dr b b).length → cov (pos k) = true → pos b ≤ pos k) : legS nx ok cov s (some (pos b, pth par dr b b)) := by
  have hl := h.least (D := (pth par dr b b).length) (fun k hk hlt => (h1 k hk hlt).1)
  refine ⟨hcb, h.way b hb, fun q u hq hw => ?_, fun u hu hw => ?_⟩
  · rcases Nat.lt_or_ge (pth par dr b b).length u.length with hlt | hge
    · exact Or.inl hlt
    · obtain ⟨k, k1, k2, k3⟩ := hl u.length u q rfl hge hw
      have k4 := sle_len k3
      rcases Nat.lt_or_ge (pth par dr k k).length (pth par dr b b).length with hlt2 | hge2
      · have := (h1 k k1 hlt2).2
        rw [k2, hq] at this
        cases this
      · exact Or.inr ⟨by omega, by rw [← k2]; exact h2 k k1 (by omega) (by rw [k2]; exact hq)⟩
  · obtain ⟨k, k1, k2, k3⟩ := hl u.length u _ rfl (by omega) hw
    have : k = b := hinj k b k1 hb k2
    subst this
    exact k3
theorem dk_none {t : Nat → Nat} (h : dk nx ok (fun p => !cov p) s t) (hc : ∀ q, cov q = true → t q = 100000) : legS nx ok cov s none := by
  intro q u hq hw
  exact (h.2 u q hw).2 (hc q hq)
theorem dk_some {op : Nat → Nat} (hs : ∀ p d q, nx p d = some q → nx q (op d) = some p) {t tb : Nat → Nat} {g : Nat} {π : List Nat} (h : dk nx ok (fun p => !cov p) s t) (hg : cov g = true) (htg : t g ≠ 100000) (hm : ∀ q, cov q = true → t q ≠ 100000 → t g < t q ∨ (t g = t q ∧ g ≤ q))
    (hb : dk nx ok (fun q => q == g || !cov q) g tb) (hos : ok s = true) (hcs : cov s = false) (hr : gr nx ok (fun p => !cov p) g tb s π) : legS nx ok cov s (some (g, π)) := by
  obtain ⟨u, hu, hw⟩ := h.1 g htg
  obtain ⟨u', hu', hw'⟩ := wk_back (ex := fun p => !cov p) hs u s hos hw
  obtain ⟨c1, c2⟩ := hb.2 u' s hw'
  obtain ⟨s1, s2, s3⟩ := gr.spec (ex := fun p => !cov p) hs hb π s hos (Or.inr (by simp [hcs])) c2 hr
  have c3 := (h.2 π g s2).1
  have e : π.length = t g := by omega
  refine ⟨hg, s2, fun q v hq hv => ?_, fun v hv hvw => s3 v (by omega) hvw⟩
  obtain ⟨d1, d2⟩ := h.2 v q hv
  rcases hm q hq d2 with h3 | ⟨h3, h4⟩
  · exact Or.inl (by omega)
  · rcases Nat.lt_or_ge π.length v.length with h5 | h5
    · exact Or.inl h5
    · exact Or.inr ⟨by omega, h4⟩
end Leg2
