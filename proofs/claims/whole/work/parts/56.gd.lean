/-! What holds of every state is kept by every call -/
theorem gd_drp {S : Sg} (h : gd S) : gd (drp S) := ⟨h.1, h.2.1, h.2.2.1, h.2.2.2.1, fun n p t l e => (by cases e)⟩
theorem gd_bar {S : Sg} (h : gd S) (r l c : Int32) : gd (oBar S r l c) := by
  unfold oBar
  split
  · rename_i e
    have e := of_decide_eq_true e
    exact ⟨e, h.2.1, h.2.2.1, h.2.2.2.1, fun n p t l e => (by cases e)⟩
  · exact h
theorem gd_pro {S : Sg} (h : gd S) (z r : Int32) : gd (oPro S z r) := by
  unfold oPro
  split
  · rename_i e
    have e := of_decide_eq_true e
    refine ⟨h.1, fun a ha => ?_, h.2.2.1, h.2.2.2.1, fun n p t l e => (by cases e)⟩
    show 0 ≤ (va_up (sSy S) z.toInt.toNat r a).toInt ∧ (va_up (sSy S) z.toInt.toNat r a).toInt ≤ 8
    by_cases e2 : a = z.toInt.toNat
    · rw [e2, up_at]
      omega
    · rw [up_ne e2]
      exact h.2.1 a ha
  · exact h
theorem gd_spo {S : Sg} (h : gd S) (i x y : Int32) : gd (oSpo S i x y) := by
  unfold oSpo
  split
  · rename_i e
    obtain ⟨e1, e2, e3, -⟩ := spoQ_iff.mp e
    obtain ⟨ei, hj⟩ := insB_nat e1
    refine ⟨h.1, h.2.1, fun j hj' => ?_, h.2.2.2.1, fun n p t l e => (by cases e)⟩
    show (va_up (sK S) i.toInt.toNat (addI (sK S i.toInt.toNat) x y) j).1 ≤ 8 ∧ smallI (va_up (sK S) i.toInt.toNat (addI (sK S i.toInt.toNat) x y) j).1 (va_up (sK S) i.toInt.toNat (addI (sK S i.toInt.toNat) x y) j).2.1 (va_up (sK S) i.toInt.toNat (addI (sK S i.toInt.toNat) x y) j).2.2
    by_cases ej : j = i.toInt.toNat
    · rw [ej, up_at]
      refine ⟨by show (sK S i.toInt.toNat).1 + 1 ≤ 8; omega, fun a ha => ?_⟩
      have ha : a < (sK S i.toInt.toNat).1 + 1 := ha
      show -2 ≤ (va_up (sK S i.toInt.toNat).2.1 (sK S i.toInt.toNat).1 x a).toInt ∧ (va_up (sK S i.toInt.toNat).2.1 (sK S i.toInt.toNat).1 x a).toInt ≤ 2 ∧ 0 ≤ (va_up (sK S i.toInt.toNat).2.2 (sK S i.toInt.toNat).1 y a).toInt ∧ (va_up (sK S i.toInt.toNat).2.2 (sK S i.toInt.toNat).1 y a).toInt ≤ 4
      by_cases ea : a = (sK S i.toInt.toNat).1
      · rw [ea, up_at, up_at]
        omega
      · rw [up_ne ea, up_ne ea]
        exact (h.2.2.1 _ hj).2 a (by omega)
    · rw [up_ne ej]
      exact h.2.2.1 j hj'
  · exact h
theorem gd_clr {S : Sg} (h : gd S) (i : Int32) : gd (oClr S i) := by
  unfold oClr
  split
  · refine ⟨h.1, h.2.1, fun j hj' => ?_, h.2.2.2.1, fun n p t l e => (by cases e)⟩
    show (va_up (sK S) i.toInt.toNat (0, (sK S i.toInt.toNat).2) j).1 ≤ 8 ∧ smallI (va_up (sK S) i.toInt.toNat (0, (sK S i.toInt.toNat).2) j).1 (va_up (sK S) i.toInt.toNat (0, (sK S i.toInt.toNat).2) j).2.1 (va_up (sK S) i.toInt.toNat (0, (sK S i.toInt.toNat).2) j).2.2
    by_cases ej : j = i.toInt.toNat
    · rw [ej, up_at]
      exact ⟨Nat.zero_le _, fun a ha => absurd ha (by show ¬ a < 0; omega)⟩
    · rw [up_ne ej]
      exact h.2.2.1 j hj'
  · exact h
theorem gd_cho {S : Sg} (h : gd S) (i : Int32) : gd (oCho S i) := by
  unfold oCho
  split
  · rename_i e
    obtain ⟨e1, e2, e3⟩ := choQ_iff.mp e
    obtain ⟨ei, hj⟩ := insB_nat e1
    refine ⟨h.1, h.2.1, h.2.2.1, ⟨by show sc S + 1 ≤ 3; omega, fun k hk => ?_⟩, fun n p t l e => (by cases e)⟩
    have hk : k < sc S + 1 := hk
    show va_up (sJ S) (sc S) i.toInt.toNat k < 3
    by_cases ek : k = sc S
    · rw [ek, up_at]
      exact hj
    · rw [up_ne ek]
      exact h.2.2.2.1.2 k (by omega)
  · exact h
theorem gd_res {S : Sg} (h : gd S) : gd (oRes S) := ⟨h.1, h.2.1, h.2.2.1, ⟨Nat.zero_le _, fun k hk => absurd hk (by show ¬ k < 0; omega)⟩, fun n p t l e => (by cases e)⟩
theorem gd_pln {S : Sg} (h : gd S) (ho : plnQ S = true → okP 92160 (plnR S).1) : gd (oPln S) := by
  unfold oPln
  split
  · rename_i e
    have e1 : (plnR S).1.1 ≤ 2000 := by
      unfold plnQ at e
      rw [Bool.and_eq_true] at e
      exact of_decide_eq_true e.2
    refine ⟨h.1, h.2.1, h.2.2.1, h.2.2.2.1, fun n p t l e' => ?_⟩
    cases e'
    exact ⟨e1, ho e, ho e⟩
  · exact gd_drp h
theorem gd_edi {S : Sg} (h : gd S) (i k d s : Int32) : gd (oEdi S i k d s) := by
  unfold oEdi
  split
  · rename_i e
    obtain ⟨e1, e2⟩ := ediQ_iff.mp e
    obtain ⟨n, p, t, l, hP, h1, h2⟩ := isM_some e1
    rw [hP]
    obtain ⟨g1, g2, g3⟩ := h.2.2.2.2 n p t l hP
    refine ⟨h.1, h.2.1, h.2.2.1, h.2.2.2.1, fun n' p' t' l' e' => ?_⟩
    cases e'
    refine ⟨g1, g2, fun a ha => ?_⟩
    show okMv 92160 (va_up t i.toInt.toNat (ediM k d s) a)
    by_cases ea : a = i.toInt.toNat
    · rw [ea, up_at]
      unfold ediM
      split
      · exact Or.inr rfl
      · exact Or.inl ⟨by show k.toInt.toNat < 2; omega, by show d.toInt.toNat < 4; omega, by show 1 ≤ s.toInt.toNat; omega, by show s.toInt.toNat ≤ 92160; omega⟩
    · rw [up_ne ea]
      exact g3 a ha
  · exact h
theorem gd_und {S : Sg} (h : gd S) : gd (oUnd S) := by
  refine ⟨h.1, h.2.1, h.2.2.1, h.2.2.2.1, fun n p t l e => ?_⟩
  have e : (sP S).map (fun q => (q.1, q.2.1, q.2.1, q.2.2.2)) = some (n, p, t, l) := e
  cases hP : sP S with
  | none => rw [hP] at e; cases e
  | some q =>
    obtain ⟨n', p', t', l'⟩ := q
    rw [hP] at e
    cases e
    obtain ⟨g1, g2, -⟩ := h.2.2.2.2 _ _ _ _ hP
    exact ⟨g1, g2, g2⟩
theorem gd_sim {S : Sg} (h : gd S) (n : Int32) : gd (oSim S n) := by
  unfold oSim
  split
  · exact h
  · split
    · exact h
    · exact ⟨h.1, h.2.1, h.2.2.1, h.2.2.2.1, h.2.2.2.2⟩
