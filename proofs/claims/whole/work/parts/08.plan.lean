/-! Moves and plans: a move is (kind, direction, steps). -/
abbrev Mv : Type := Nat × Nat × Nat
def addS (M : List Mv) (k d : Nat) : List Mv := match M.getLast? with
  | some q => if q.1 = k ∧ q.2.1 = d then M.dropLast ++ [(k, d, q.2.2 + 1)] else M ++ [(k, d, 1)]
  | none => [(k, d, 1)]
def addW : List Mv → List Nat → List Mv
  | M, [] => M
  | M, d :: ds => addW (addS M (if ds = [] then 1 else 0) d) ds
theorem addS_len (M : List Mv) (k d : Nat) : M.length ≤ (addS M k d).length ∧ (addS M k d).length ≤ M.length + 1 := by
  unfold addS
  split
  · rename_i q h
    have hne : M ≠ [] := by
      intro e
      rw [e] at h
      cases h
    have hl : 0 < M.length := List.length_pos_iff.mpr hne
    split
    · simp only [List.length_append, List.length_dropLast, List.length_cons, List.length_nil]
      omega
    · simp
  · rename_i h
    have : M = [] := List.getLast?_eq_none_iff.mp h
    simp [this]
theorem addW_len : ∀ (ds : List Nat) (M : List Mv), M.length ≤ (addW M ds).length
  | [], M => Nat.le_refl _
  | d :: ds, M => Nat.le_trans (addS_len M _ d).1 (addW_len ds _)
/-- every move has a kind, a direction, and steps up to B -/
def okM (B : Nat) (M : List Mv) : Prop := ∀ q ∈ M, (q.1 < 2 ∧ q.2.1 < 4 ∧ 1 ≤ q.2.2 ∧ q.2.2 ≤ B) ∨ q = (2, 0, 0)
theorem okM.mono {B B' : Nat} {M : List Mv} (h : okM B M) (hB : B ≤ B') : okM B' M := fun q hq => by
  rcases h q hq with ⟨h1, h2, h3, h4⟩ | h
  · exact Or.inl ⟨h1, h2, h3, by omega⟩
  · exact Or.inr h
theorem okM.change {B : Nat} {M : List Mv} (h : okM B M) : okM B (M ++ [(2, 0, 0)]) := fun q hq => by
  rcases List.mem_append.mp hq with h1 | h1
  · exact h q h1
  · exact Or.inr (List.mem_singleton.mp h1)
theorem okM_addS {B : Nat} {M : List Mv} {k d : Nat} (h : okM B M) (hk : k < 2) (hd : d < 4) : okM (B + 1) (addS M k d) := by
  have h' : okM (B + 1) M := h.mono (by omega)
  intro q hq
  unfold addS at hq
  split at hq
  · rename_i x hx
    have hxm : x ∈ M := List.mem_of_getLast? hx
    split at hq
    · rename_i he
      rcases List.mem_append.mp hq with h1 | h1
      · exact h' q (List.dropLast_subset M h1)
      · have e := List.mem_singleton.mp h1
        subst e
        rcases h x hxm with ⟨a1, a2, a3, a4⟩ | e
        · exact Or.inl ⟨hk, hd, by simp, by simp; omega⟩
        · rw [e] at he
          have := he.1
          simp at this
          omega
    · rcases List.mem_append.mp hq with h1 | h1
      · exact h' q h1
      · have e := List.mem_singleton.mp h1
        subst e
        exact Or.inl ⟨hk, hd, by simp, by simp⟩
  · have e := List.mem_singleton.mp hq
    subst e
    exact Or.inl ⟨hk, hd, by simp, by simp⟩
theorem okM_addW : ∀ (ds : List Nat) {B : Nat} {M : List Mv}, okM B M → (∀ d ∈ ds, d < 4) → okM (B + ds.length) (addW M ds)
  | [], _, _, h, _ => h
  | d :: ds, B, M, h, hd => by
    have h1 : okM (B + 1) (addS M (if ds = [] then 1 else 0) d) := okM_addS h (by split <;> omega) (hd d List.mem_cons_self)
    have h2 := okM_addW ds h1 (fun x hx => hd x (List.mem_cons_of_mem _ hx))
    have e : B + 1 + ds.length = B + (d :: ds).length := by simp; omega
    rw [e] at h2
    exact h2
