/-! The state that both sides hold, and what each call does to it. -/
def eqX (X Y : Nat → Bool) : Prop := ∀ c, c < 96 → X c = Y c
theorem eqX.rf {X : Nat → Bool} : eqX X X := fun _ _ => rfl
theorem eqX.sy {X Y : Nat → Bool} (h : eqX X Y) : eqX Y X := fun c hc => (h c hc).symm
theorem eqX.tr {X Y Z : Nat → Bool} (h : eqX X Y) (h2 : eqX Y Z) : eqX X Z := fun c hc => (h c hc).trans (h2 c hc)
theorem fill_eqX {rd ln : Int32} {f : Nat → Bool} : eqX (fillM rd ln f 96) (fillB rd ln) := fun c hc => by unfold fillM; rw [if_pos hc]
theorem hasB_eqX {X Y : Nat → Bool} (h : eqX X Y) (z r : Int32) : hasB X z r = hasB Y z r := by
  unfold hasB
  cases hc : cellB z r with
  | false => rfl
  | true => rw [h _ (cix_i hc).2]
theorem cvI_eqX {X Y : Nat → Bool} (h : eqX X Y) (I : Ins) : cvI X I = cvI Y I := by
  funext p
  exact anyB_congr (fun i _ => hasB_eqX h _ _)
theorem cutF_eqX {X Y : Nat → Bool} (h : eqX X Y) (dz dr : Nat → Int32) (z r : Int32) : ∀ k, (cutF X dz dr z r k).1 = (cutF Y dz dr z r k).1 ∧ eqX (cutF X dz dr z r k).2 (cutF Y dz dr z r k).2
  | 0 => ⟨rfl, h⟩
  | k + 1 => by
    obtain ⟨h1, h2⟩ := cutF_eqX h dz dr z r k
    simp only [cutF]
    rw [hasB_eqX h2]
    split
    · refine ⟨by rw [h1], fun c hc => ?_⟩
      by_cases e : c = cix (z + dz k) (r + dr k)
      · simp [va_up, e]
      · simp only [va_up, if_neg e]
        exact h2 c hc
    · exact ⟨h1, h2⟩
theorem ctI_eqX {X Y : Nat → Bool} (h : eqX X Y) (I : Ins) (p : Nat) : (ctI X I p).1 = (ctI Y I p).1 ∧ eqX (ctI X I p).2 (ctI Y I p).2 := cutF_eqX h _ _ _ _ _
theorem rdF_eqX {C : Int32} {sy : Nat → Int32} {I : Ins} : ∀ (n : Nat) (m : Pm) (X Y : Nat → Bool) (p : Nat), eqX X Y → (rdF C sy I n (m, X, p)).1 = (rdF C sy I n (m, Y, p)).1 ∧ eqX (rdF C sy I n (m, X, p)).2 (rdF C sy I n (m, Y, p)).2
  | 0, _, _, _, _, h => ⟨rfl, h⟩
  | n + 1, m, X, Y, p, h => by
    simp only [rdF]
    rw [cvI_eqX h I]
    split
    · exact ⟨rfl, h⟩
    · exact rdF_eqX n _ _ _ _ (ctI_eqX h I _).2
theorem mkF_eqX {C : Int32} {sy : Nat → Int32} {Js : Nat → Ins} {X Y : Nat → Bool} (h : eqX X Y) : ∀ k, (mkF C sy Js X k).1 = (mkF C sy Js Y k).1 ∧ eqX (mkF C sy Js X k).2 (mkF C sy Js Y k).2
  | 0 => ⟨rfl, h⟩
  | k + 1 => by
    obtain ⟨h1, h2⟩ := mkF_eqX h k
    simp only [mkF]
    rw [h1]
    exact rdF_eqX 96 _ _ _ 15 h2
/-- two places of a run, alike up to what lies outside of the stock -/
def eqS (x y : Sm) : Prop := x.1 = y.1 ∧ x.2.1 = y.2.1 ∧ eqX x.2.2 y.2.2
theorem smS_eqX {C : Int32} {sy : Nat → Int32} {I : Ins} {k d : Nat} {x y : Sm} (h : eqS x y) : (smS C sy I k d x).1 = (smS C sy I k d y).1 ∧ eqS (smS C sy I k d x).2 (smS C sy I k d y).2 := by
  obtain ⟨h1, h2, h3⟩ := h
  unfold smS
  rw [h1]
  split
  · exact ⟨rfl, h1, h2, h3⟩
  · rw [cvI_eqX h3 I]
    split
    · split
      · exact ⟨rfl, h1, h2, h3⟩
      · split
        · exact ⟨rfl, rfl, by show _ + _ = _ + _; rw [h2, (ctI_eqX h3 I _).1], (ctI_eqX h3 I _).2⟩
        · exact ⟨rfl, rfl, h2, h3⟩
    · exact ⟨rfl, h1, h2, h3⟩
theorem smC_eqX {C : Int32} {sy : Nat → Int32} {I : Ins} {k d : Nat} : ∀ (c : Nat) {x y : Sm}, eqS x y → (smC C sy I k d c x).1 = (smC C sy I k d c y).1 ∧ eqS (smC C sy I k d c x).2 (smC C sy I k d c y).2
  | 0, _, _, h => ⟨rfl, h⟩
  | c + 1, x, y, h => by
    obtain ⟨h1, h2⟩ := smS_eqX (C := C) (sy := sy) (I := I) (k := k) (d := d) h
    simp only [smC]
    rw [h1]
    split
    · exact smC_eqX c h2
    · exact ⟨h1, h2⟩
theorem smM_eqX {C : Int32} {sy : Nat → Int32} {ns : Nat} {J : Nat → Ins} {q : Mv} {x y : Nat × Sm} (h0 : x.1 = y.1) (h : eqS x.2 y.2) : (smM C sy ns J q x).1 = (smM C sy ns J q y).1 ∧ (smM C sy ns J q x).2.1 = (smM C sy ns J q y).2.1 ∧ eqS (smM C sy ns J q x).2.2 (smM C sy ns J q y).2.2 := by
  unfold smM
  rw [h0]
  split
  · split
    · exact ⟨rfl, h0, h⟩
    · exact ⟨rfl, rfl, rfl, h.2.1, h.2.2⟩
  · split
    · exact ⟨rfl, h0, h⟩
    · have := smC_eqX (C := C) (sy := sy) (I := J (y.1 - 1)) (k := q.1) (d := q.2.1) q.2.2 h
      exact ⟨this.1, rfl, this.2⟩
theorem smA_eqX {C : Int32} {sy : Nat → Int32} {ns : Nat} {J : Nat → Ins} {mv : Nat → Mv} : ∀ (c i : Nat) {x y : Nat × Sm}, x.1 = y.1 → eqS x.2 y.2 → (smA C sy ns J mv i c x).1 = (smA C sy ns J mv i c y).1 ∧ eqS (smA C sy ns J mv i c x).2.2 (smA C sy ns J mv i c y).2.2
  | 0, _, _, _, _, h => ⟨rfl, h⟩
  | c + 1, i, x, y, h0, h => by
    obtain ⟨h1, h2, h3⟩ := smM_eqX (C := C) (sy := sy) (ns := ns) (J := J) (q := mv i) h0 h
    simp only [smA]
    rw [h1]
    split
    · exact smA_eqX c (i + 1) h2 h3
    · exact ⟨rfl, h3⟩
/-! radius, length, chuck, profile; inserts; how many chosen, which; a plan (how many, planned, trial, left); shown -/
abbrev Sg : Type := (Int32 × Int32 × Int32 × (Nat → Int32)) × (Nat → Ins) × (Nat × (Nat → Nat)) × Option (Nat × (Nat → Mv) × (Nat → Mv) × Nat) × (Nat → Bool)
abbrev sRd (S : Sg) : Int32 := S.1.1
abbrev sLn (S : Sg) : Int32 := S.1.2.1
abbrev sC (S : Sg) : Int32 := S.1.2.2.1
abbrev sSy (S : Sg) : Nat → Int32 := S.1.2.2.2
abbrev sK (S : Sg) : Nat → Ins := S.2.1
abbrev sc (S : Sg) : Nat := S.2.2.1.1
abbrev sJ (S : Sg) : Nat → Nat := S.2.2.1.2
abbrev sP (S : Sg) : Option (Nat × (Nat → Mv) × (Nat → Mv) × Nat) := S.2.2.2.1
abbrev sX (S : Sg) : Nat → Bool := S.2.2.2.2
abbrev sJs (S : Sg) : Nat → Ins := fun a => sK S (sJ S a)
/-- what holds of every state -/
def gd (S : Sg) : Prop := (1 ≤ (sRd S).toInt ∧ (sRd S).toInt ≤ 8 ∧ 1 ≤ (sLn S).toInt ∧ (sLn S).toInt ≤ 12 ∧ 0 ≤ (sC S).toInt ∧ (sC S).toInt ≤ 12) ∧ (∀ z, z < 12 → 0 ≤ (sSy S z).toInt ∧ (sSy S z).toInt ≤ 8) ∧ (∀ j, j < 3 → (sK S j).1 ≤ 8 ∧ smallI (sK S j).1 (sK S j).2.1 (sK S j).2.2) ∧ (sc S ≤ 3 ∧ ∀ k, k < sc S → sJ S k < 3) ∧ (∀ n p t l, sP S = some (n, p, t, l) → n ≤ 2000 ∧ okP 92160 (n, p) ∧ okP 92160 (n, t))
/-- no plan any more -/
def drp (S : Sg) : Sg := (S.1, S.2.1, S.2.2.1, none, fillM (sRd S) (sLn S) (sX S) 96)
def barQ (r l c : Int32) : Bool := decide (1 ≤ r.toInt ∧ r.toInt ≤ 8 ∧ 1 ≤ l.toInt ∧ l.toInt ≤ 12 ∧ 0 ≤ c.toInt ∧ c.toInt ≤ 12)
def oBar (S : Sg) (r l c : Int32) : Sg := if barQ r l c = true then drp ((r, l, c, sSy S), S.2) else S
def proQ (z r : Int32) : Bool := decide (0 ≤ z.toInt ∧ z.toInt < 12 ∧ 0 ≤ r.toInt ∧ r.toInt ≤ 8)
def oPro (S : Sg) (z r : Int32) : Sg := if proQ z r = true then drp ((sRd S, sLn S, sC S, va_up (sSy S) z.toInt.toNat r), S.2) else S
def spoQ (S : Sg) (i x y : Int32) : Bool := insB i && decide (-2 ≤ x.toInt ∧ x.toInt ≤ 2 ∧ 0 ≤ y.toInt ∧ y.toInt ≤ 4) && decide ((sK S i.toInt.toNat).1 < 8) && !anyB (sK S i.toInt.toNat).1 (spotB (sK S i.toInt.toNat).2.1 (sK S i.toInt.toNat).2.2 x y)
def addI (I : Ins) (x y : Int32) : Ins := (I.1 + 1, va_up I.2.1 I.1 x, va_up I.2.2 I.1 y)
def oSpo (S : Sg) (i x y : Int32) : Sg := if spoQ S i x y = true then drp (S.1, va_up (sK S) i.toInt.toNat (addI (sK S i.toInt.toNat) x y), S.2.2) else S
def oClr (S : Sg) (i : Int32) : Sg := if insB i = true then drp (S.1, va_up (sK S) i.toInt.toNat (0, (sK S i.toInt.toNat).2), S.2.2) else S
def aClr (S : Sg) (i : Int32) : Int32 := if insB i = true then nI (sK S i.toInt.toNat).1 else -1
def choQ (S : Sg) (i : Int32) : Bool := insB i && decide ((sK S i.toInt.toNat).1 ≠ 0) && decide (sc S < 3)
def oCho (S : Sg) (i : Int32) : Sg := if choQ S i = true then drp (S.1, S.2.1, (sc S + 1, va_up (sJ S) (sc S) i.toInt.toNat), S.2.2.2) else S
def aCho (S : Sg) (i : Int32) : Int32 := if choQ S i = true then nI (sc S + 1) else -1
def oRes (S : Sg) : Sg := drp (S.1, S.2.1, (0, sJ S), S.2.2.2)
def pnum (z r : Int32) : Nat := (z.toInt + 4).toNat * 16 + r.toInt.toNat
def aAt (S : Sg) (i z r w : Int32) : Bool := insB i && posB z r && (if w.toInt = 0 then okI (sC S) (sSy S) (sK S i.toInt.toNat) (pnum z r) else if w.toInt = 1 then decide (0 < (sK S i.toInt.toNat).1) && okI (sC S) (sSy S) (sK S i.toInt.toNat) (pnum z r) else if w.toInt = 2 then anyB (sK S i.toInt.toNat).1 (fun a => wasteB (sRd S) (sLn S) (sSy S) (zP (pnum z r) + (sK S i.toInt.toNat).2.1 a) (rP (pnum z r) + (sK S i.toInt.toNat).2.2 a)) else false)
def aRea (S : Sg) (i z r : Int32) : Bool := insB i && cellB z r && anyB (sK S i.toInt.toNat).1 (fun a => posB (z - (sK S i.toInt.toNat).2.1 a) (r - (sK S i.toInt.toNat).2.2 a) && okI (sC S) (sSy S) (sK S i.toInt.toNat) (pnum (z - (sK S i.toInt.toNat).2.1 a) (r - (sK S i.toInt.toNat).2.2 a)))
def rdy (S : Sg) : Bool := allB (sc S) (fun k => decide ((sK S (sJ S k)).1 ≠ 0)) && decide (0 < sc S)
noncomputable def plnR (S : Sg) : Pm × (Nat → Bool) := mkF (sC S) (sSy S) (sJs S) (fillB (sRd S) (sLn S)) (sc S)
noncomputable def plnQ (S : Sg) : Bool := rdy S && decide ((plnR S).1.1 ≤ 2000)
noncomputable def plnL (S : Sg) : Nat := cntB 96 (fun c => (plnR S).2 c && wasteB (sRd S) (sLn S) (sSy S) (nI (c / 8)) (nI (c % 8)))
noncomputable def oPln (S : Sg) : Sg := if plnQ S = true then (S.1, S.2.1, S.2.2.1, some ((plnR S).1.1, (plnR S).1.2, (plnR S).1.2, plnL S), fillM (sRd S) (sLn S) (sX S) 96) else drp S
noncomputable def aPln (S : Sg) : Int32 := if plnQ S = true then nI (plnR S).1.1 else -1
def isM (S : Sg) (i : Int32) : Bool := match sP S with
  | none => false
  | some q => decide (0 ≤ i.toInt ∧ i.toInt < q.1)
def trM (S : Sg) (i : Nat) : Mv := match sP S with
  | none => (0, 0, 0)
  | some q => q.2.2.1 i
def aMov (S : Sg) (i w : Int32) : Int32 := if isM S i = true then (if w.toInt = 0 then nI (trM S i.toInt.toNat).1 else if w.toInt = 1 then nI (trM S i.toInt.toNat).2.1 else if w.toInt = 2 then nI (trM S i.toInt.toNat).2.2 else -1) else -1
def ediQ (S : Sg) (i k d s : Int32) : Bool := isM S i && (decide (k.toInt = 2) || (decide (k.toInt = 0 ∨ k.toInt = 1) && decide (0 ≤ d.toInt ∧ d.toInt < 4 ∧ 1 ≤ s.toInt ∧ s.toInt ≤ 40)))
def ediM (k d s : Int32) : Mv := if k.toInt = 2 then (2, 0, 0) else (k.toInt.toNat, d.toInt.toNat, s.toInt.toNat)
def oEdi (S : Sg) (i k d s : Int32) : Sg := if ediQ S i k d s = true then (S.1, S.2.1, S.2.2.1, (sP S).map (fun q => (q.1, q.2.1, va_up q.2.2.1 i.toInt.toNat (ediM k d s), q.2.2.2)), sX S) else S
def aUnd (S : Sg) : Int32 := match sP S with
  | none => 0
  | some q => nI (cntB q.1 (fun i => !decide (pk3 (q.2.2.1 i) = pk3 (q.2.1 i))))
def oUnd (S : Sg) : Sg := (S.1, S.2.1, S.2.2.1, (sP S).map (fun q => (q.1, q.2.1, q.2.1, q.2.2.2)), sX S)
def smR (S : Sg) (q : Nat × (Nat → Mv) × (Nat → Mv) × Nat) (nn : Nat) (X : Nat → Bool) : Option Nat × Nat × Sm := smA (sC S) (sSy S) (sc S) (sJs S) q.2.2.1 0 (if q.1 < nn then q.1 else nn) (0, 15, 0, X)
def aSim (S : Sg) (n : Int32) : Int32 := match sP S with
  | none => -1
  | some q => if n.toInt < 0 then -1 else (smR S q n.toInt.toNat (fillM (sRd S) (sLn S) (sX S) 96)).2.2.2.1
def oSim (S : Sg) (n : Int32) : Sg := match sP S with
  | none => S
  | some q => if n.toInt < 0 then S else (S.1, S.2.1, S.2.2.1, S.2.2.2.1, (smR S q n.toInt.toNat (fillM (sRd S) (sLn S) (sX S) 96)).2.2.2.2)
def aFau (S : Sg) : Int32 := match sP S with
  | none => -1
  | some q => ftI (smR S q q.1 (fillB (sRd S) (sLn S))).1
def aLef (S : Sg) : Int32 := match sP S with
  | none => -1
  | some q => nI q.2.2.2
def aSte (S : Sg) (k : Int32) : Int32 := match sP S with
  | none => 0
  | some q => if k.toInt = 0 ∨ k.toInt = 1 then nI (sumN q.1 (fun i => if (q.2.2.1 i).1 = k.toInt.toNat then (q.2.2.1 i).2.2 else 0)) else 0
/-- the system's cells hold S -/
def cls (v : Nat → Nat → Int32) (b : Nat → Nat → Bool) (S : Sg) : Prop := (v 1 0 = sRd S ∧ v 1 1 = sLn S ∧ v 1 2 = sC S ∧ v 2 = sSy S) ∧ (∀ j, j < 3 → insV v j (sK S j)) ∧ jobOK v (sc S) (sJ S) ∧ b 0 10 = (sP S).isSome ∧ (∀ n p t l, sP S = some (n, p, t, l) → mvOK v 15 (n, p) ∧ mvOK v 17 (n, t) ∧ v 0 11 = nI l) ∧ b 20 = sX S
/-- what a call of the system does: an answer, the next state; the reference's cells stay -/
def clQ (G : cx_G) (v : Nat → Nat → Int32) (b : Nat → Nat → Bool) (a : Option Value) (S : Sg) : Option Value → List va_E → Prop := fun x w' =>
  ∃ (v' : Nat → Nat → Int32) (b' : Nat → Nat → Bool), w' = wl G v' b' ∧ x = a ∧ cls v' b' S ∧ ∀ p, 30 ≤ p → v' p = v p ∧ b' p = b p
