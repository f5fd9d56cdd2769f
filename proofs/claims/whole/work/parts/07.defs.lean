/-! The words of the document over the numbers as the cells hold them: an insert is (n, dz, dr), a stock X says which of the 96 cells stand. -/
def freeB (C : Int32) (sy : Nat → Int32) (z r : Int32) : Bool := decide (z.toInt < C.toInt) && (decide (z.toInt < 0) || decide (12 ≤ z.toInt) || decide ((sy z.toInt.toNat).toInt ≤ r.toInt))
def safeB (C : Int32) (sy : Nat → Int32) (n : Nat) (dz dr : Nat → Int32) (z r : Int32) : Bool := allB n (fun i => freeB C sy (z + dz i) (r + dr i))
def cellB (z r : Int32) : Bool := decide (0 ≤ z.toInt) && decide (z.toInt < 12) && decide (0 ≤ r.toInt) && decide (r.toInt < 8)
def posB (z r : Int32) : Bool := decide (-4 ≤ z.toInt) && decide (z.toInt < 16) && decide (0 ≤ r.toInt) && decide (r.toInt < 16)
def cix (z r : Int32) : Nat := 8 * z.toInt.toNat + r.toInt.toNat
def barB (Rd Ln z r : Int32) : Bool := cellB z r && decide (z.toInt < Ln.toInt) && decide (r.toInt < Rd.toInt)
def wasteB (Rd Ln : Int32) (sy : Nat → Int32) (z r : Int32) : Bool := barB Rd Ln z r && decide ((sy z.toInt.toNat).toInt ≤ r.toInt)
def hasB (X : Nat → Bool) (z r : Int32) : Bool := cellB z r && X (cix z r)
def covB (X : Nat → Bool) (n : Nat) (dz dr : Nat → Int32) (z r : Int32) : Bool := anyB n (fun i => hasB X (z + dz i) (r + dr i))
def cutF (X : Nat → Bool) (dz dr : Nat → Int32) (z r : Int32) : Nat → Nat × (Nat → Bool)
  | 0 => (0, X)
  | k + 1 => if hasB (cutF X dz dr z r k).2 (z + dz k) (r + dr k) = true then ((cutF X dz dr z r k).1 + 1, va_up (cutF X dz dr z r k).2 (cix (z + dz k) (r + dr k)) false) else cutF X dz dr z r k
def fillB (Rd Ln : Int32) : Nat → Bool := fun c => barB Rd Ln (nI (c / 8)) (nI (c % 8))
/-! positions by their numbers -/
def zP (p : Nat) : Int32 := nI (p / 16) - 4
def rP (p : Nat) : Int32 := nI (p % 16)
def nxt (p d : Nat) : Option Nat := if p < 320 then (match d with
  | 0 => if p / 16 < 19 then some (p + 16) else none
  | 1 => if 0 < p / 16 then some (p - 16) else none
  | 2 => if 0 < p % 16 then some (p - 1) else none
  | 3 => if p % 16 < 15 then some (p + 1) else none
  | _ => none) else none
def opp (d : Nat) : Nat := match d with
  | 0 => 1
  | 1 => 0
  | 2 => 3
  | _ => 2
theorem nxt_cases {p d q : Nat} (h : nxt p d = some q) : p < 320 ∧ ((d = 0 ∧ p / 16 < 19 ∧ q = p + 16) ∨ (d = 1 ∧ 0 < p / 16 ∧ q = p - 16) ∨ (d = 2 ∧ 0 < p % 16 ∧ q = p - 1) ∨ (d = 3 ∧ p % 16 < 15 ∧ q = p + 1)) := by
  unfold nxt at h
  split at h
  · rename_i hp
    refine ⟨hp, ?_⟩
    split at h
    · split at h
      · cases h; exact Or.inl ⟨rfl, by assumption, rfl⟩
      · cases h
    · split at h
      · cases h; exact Or.inr (Or.inl ⟨rfl, by assumption, rfl⟩)
      · cases h
    · split at h
      · cases h; exact Or.inr (Or.inr (Or.inl ⟨rfl, by assumption, rfl⟩))
      · cases h
    · split at h
      · cases h; exact Or.inr (Or.inr (Or.inr ⟨rfl, by assumption, rfl⟩))
      · cases h
    · cases h
  · cases h
theorem nxt_0 {p : Nat} (h : p / 16 < 19) : nxt p 0 = some (p + 16) := by
  unfold nxt
  rw [if_pos (by omega)]
  exact if_pos h
theorem nxt_1 {p : Nat} (hp : p < 320) (h : 0 < p / 16) : nxt p 1 = some (p - 16) := by
  unfold nxt
  rw [if_pos hp]
  exact if_pos h
theorem nxt_2 {p : Nat} (hp : p < 320) (h : 0 < p % 16) : nxt p 2 = some (p - 1) := by
  unfold nxt
  rw [if_pos hp]
  exact if_pos h
theorem nxt_3 {p : Nat} (hp : p < 320) (h : p % 16 < 15) : nxt p 3 = some (p + 1) := by
  unfold nxt
  rw [if_pos hp]
  exact if_pos h
theorem nxt_lt {p d q : Nat} (h : nxt p d = some q) : p < 320 ∧ q < 320 ∧ d < 4 := by
  obtain ⟨h0, h1⟩ := nxt_cases h
  exact ⟨h0, by omega, by omega⟩
theorem nxt_opp (p d q : Nat) (h : nxt p d = some q) : nxt q (opp d) = some p := by
  obtain ⟨h0, ⟨rfl, h1, rfl⟩ | ⟨rfl, h1, rfl⟩ | ⟨rfl, h1, rfl⟩ | ⟨rfl, h1, rfl⟩⟩ := nxt_cases h
  · exact (nxt_1 (by omega) (by omega)).trans (congrArg some (by omega))
  · exact (nxt_0 (by omega)).trans (congrArg some (by omega))
  · exact (nxt_3 (by omega) (by omega)).trans (congrArg some (by omega))
  · exact (nxt_2 (by omega) (by omega)).trans (congrArg some (by omega))
/-- a set that has home and is closed under steps onto good positions has every good position -/
theorem reach_all {ok F : Nat → Bool} (h1 : ∀ p, p < 320 → ok p = true → p % 16 < 15 → ok (p + 1) = true) (h2 : ∀ p, p < 320 → p % 16 = 15 → ok p = true → 16 ≤ p → ok (p - 16) = true)
    (h0 : F 15 = true) (hc : ∀ p d q, F p = true → nxt p d = some q → ok q = true → F q = true) : ∀ p, p < 320 → ok p = true → F p = true := by
  intro p hp ho
  have up : ∀ k, p % 16 + k ≤ 15 → ok (p + k) = true := by
    intro k
    induction k with
    | zero => intro _; exact ho
    | succ k ih =>
      intro hk
      exact h1 (p + k) (by omega) (ih (by omega)) (by omega)
  have top : ∀ k, k ≤ p / 16 → ok (16 * (p / 16 - k) + 15) = true := by
    intro k
    induction k with
    | zero =>
      intro _
      have := up (15 - p % 16) (by omega)
      rw [show 16 * (p / 16 - 0) + 15 = p + (15 - p % 16) by omega]
      exact this
    | succ k ih =>
      intro hk
      have := h2 (16 * (p / 16 - k) + 15) (by omega) (by omega) (ih (by omega)) (by omega)
      rw [show 16 * (p / 16 - (k + 1)) + 15 = 16 * (p / 16 - k) + 15 - 16 by omega]
      exact this
  have along : ∀ k, k ≤ p / 16 → F (16 * k + 15) = true := by
    intro k
    induction k with
    | zero => intro _; exact h0
    | succ k ih =>
      intro hk
      refine hc (16 * k + 15) 0 (16 * (k + 1) + 15) (ih (by omega)) ?_ ?_
      · rw [nxt_0 (by omega)]
        exact congrArg some (by omega)
      · have := top (p / 16 - (k + 1)) (by omega)
        rw [show 16 * (k + 1) + 15 = 16 * (p / 16 - (p / 16 - (k + 1))) + 15 by omega]
        exact this
  have down : ∀ k, k + p % 16 ≤ 15 → F (16 * (p / 16) + 15 - k) = true := by
    intro k
    induction k with
    | zero => intro _; exact along _ (Nat.le_refl _)
    | succ k ih =>
      intro hk
      refine hc (16 * (p / 16) + 15 - k) 2 (16 * (p / 16) + 15 - (k + 1)) (ih (by omega)) ?_ ?_
      · rw [nxt_2 (by omega) (by omega)]
        exact congrArg some (by omega)
      · have := up (15 - (k + 1) - p % 16) (by omega)
        rw [show 16 * (p / 16) + 15 - (k + 1) = p + (15 - (k + 1) - p % 16) by omega]
        exact this
  have := down (15 - p % 16) (by omega)
  rw [show 16 * (p / 16) + 15 - (15 - p % 16) = p by omega] at this
  exact this
/-! numbers -/
theorem i3_add {a b : Int32} (h1 : -1000000 ≤ a.toInt) (h2 : a.toInt ≤ 1000000) (h3 : -1000000 ≤ b.toInt) (h4 : b.toInt ≤ 1000000) : (a + b).toInt = a.toInt + b.toInt := by
  rw [Int32.toInt_add]
  exact Int.bmod_eq_of_le (by omega) (by omega)
theorem i3_sub {a b : Int32} (h1 : -1000000 ≤ a.toInt) (h2 : a.toInt ≤ 1000000) (h3 : -1000000 ≤ b.toInt) (h4 : b.toInt ≤ 1000000) : (a - b).toInt = a.toInt - b.toInt := by
  rw [Int32.toInt_sub]
  exact Int.bmod_eq_of_le (by omega) (by omega)
theorem zP_toInt {p : Nat} (h : p < 320) : (zP p).toInt = (p / 16 : Nat) - 4 := by
  unfold zP
  have h4 : (4 : Int32).toInt = 4 := by decide
  have h5 : (nI (p / 16)).toInt = ((p / 16 : Nat) : Int) := nI_toInt (by omega)
  rw [i3_sub (by omega) (by omega) (by omega) (by omega), h4, h5]
theorem rP_toInt (p : Nat) : (rP p).toInt = (p % 16 : Nat) := nI_toInt (by omega)
def safeP (C : Int32) (sy : Nat → Int32) (n : Nat) (dz dr : Nat → Int32) (p : Nat) : Bool := safeB C sy n dz dr (zP p) (rP p)
def covP (X : Nat → Bool) (n : Nat) (dz dr : Nat → Int32) (p : Nat) : Bool := covB X n dz dr (zP p) (rP p)
/-- the spots are small, the profile is at most 8 -/
def smallI (n : Nat) (dz dr : Nat → Int32) : Prop := ∀ i, i < n → -2 ≤ (dz i).toInt ∧ (dz i).toInt ≤ 2 ∧ 0 ≤ (dr i).toInt ∧ (dr i).toInt ≤ 4
theorem safeP_up {C : Int32} {sy : Nat → Int32} {n : Nat} {dz dr : Nat → Int32} (hs : smallI n dz dr) (p : Nat) (hp : p < 320) (h : safeP C sy n dz dr p = true) (hr : p % 16 < 15) : safeP C sy n dz dr (p + 1) = true := by
  refine allB_iff.mpr (fun i hi => ?_)
  have h1 := allB_iff.mp h i hi
  obtain ⟨s1, s2, s3, s4⟩ := hs i hi
  have z1 := zP_toInt hp
  have z2 := zP_toInt (p := p + 1) (by omega)
  have r1 := rP_toInt p
  have r2 := rP_toInt (p + 1)
  have ez : zP (p + 1) = zP p := Int32.toInt_inj.mp (by rw [z1, z2]; congr 2; omega)
  have a1 : (rP p + dr i).toInt = (rP p).toInt + (dr i).toInt := i3_add (by omega) (by omega) (by omega) (by omega)
  have a2 : (rP (p + 1) + dr i).toInt = (rP (p + 1)).toInt + (dr i).toInt := i3_add (by omega) (by omega) (by omega) (by omega)
  simp only [freeB, Bool.and_eq_true, Bool.or_eq_true, decide_eq_true_eq] at h1 ⊢
  rw [ez]
  refine ⟨h1.1, h1.2.imp id (fun h => ?_)⟩
  rw [a1] at h
  rw [a2]
  omega
theorem safeP_left {C : Int32} {sy : Nat → Int32} {n : Nat} {dz dr : Nat → Int32} (hs : smallI n dz dr) (hy : ∀ j, j < 12 → (sy j).toInt ≤ 8) (p : Nat) (hp : p < 320) (hr : p % 16 = 15) (h : safeP C sy n dz dr p = true) (h16 : 16 ≤ p) : safeP C sy n dz dr (p - 16) = true := by
  refine allB_iff.mpr (fun i hi => ?_)
  have h1 := allB_iff.mp h i hi
  obtain ⟨s1, s2, s3, s4⟩ := hs i hi
  have z1 := zP_toInt hp
  have z2 := zP_toInt (p := p - 16) (by omega)
  have r2 := rP_toInt (p - 16)
  have a1 : (zP p + dz i).toInt = (zP p).toInt + (dz i).toInt := i3_add (by omega) (by omega) (by omega) (by omega)
  have a2 : (zP (p - 16) + dz i).toInt = (zP (p - 16)).toInt + (dz i).toInt := i3_add (by omega) (by omega) (by omega) (by omega)
  have a3 : (rP (p - 16) + dr i).toInt = (rP (p - 16)).toInt + (dr i).toInt := i3_add (by omega) (by omega) (by omega) (by omega)
  simp only [freeB, Bool.and_eq_true, Bool.or_eq_true, decide_eq_true_eq] at h1 ⊢
  refine ⟨by omega, ?_⟩
  by_cases c1 : (zP (p - 16) + dz i).toInt < 0
  · exact Or.inl (Or.inl c1)
  · by_cases c2 : 12 ≤ (zP (p - 16) + dz i).toInt
    · exact Or.inl (Or.inr c2)
    · have := hy (zP (p - 16) + dz i).toInt.toNat (by omega)
      exact Or.inr (by omega)
