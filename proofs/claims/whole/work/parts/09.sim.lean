/-! A trial, step by step: (position, cells cut so far, stock); an insert is (n, dz, dr). -/
abbrev Ins : Type := Nat × (Nat → Int32) × (Nat → Int32)
def okI (C : Int32) (sy : Nat → Int32) (I : Ins) (p : Nat) : Bool := safeP C sy I.1 I.2.1 I.2.2 p
def cvI (X : Nat → Bool) (I : Ins) (p : Nat) : Bool := covP X I.1 I.2.1 I.2.2 p
def ctI (X : Nat → Bool) (I : Ins) (p : Nat) : Nat × (Nat → Bool) := cutF X I.2.1 I.2.2 (zP p) (rP p) I.1
abbrev Sm : Type := Nat × Int32 × (Nat → Bool)
/-- one step: 0, or what is wrong; and what is behind it -/
def smS (C : Int32) (sy : Nat → Int32) (I : Ins) (k d : Nat) (x : Sm) : Nat × Sm := match nxt x.1 d with
  | none => (1, x)
  | some q => if okI C sy I q = true then (if k = 0 ∧ cvI x.2.2 I q = true then (2, x) else if k = 1 then (0, q, x.2.1 + nI (ctI x.2.2 I q).1, (ctI x.2.2 I q).2) else (0, q, x.2.1, x.2.2)) else (1, x)
/-- up to c steps -/
def smC (C : Int32) (sy : Nat → Int32) (I : Ins) (k d : Nat) : Nat → Sm → Nat × Sm
  | 0, x => (0, x)
  | c + 1, x => if (smS C sy I k d x).1 = 0 then smC C sy I k d c (smS C sy I k d x).2 else smS C sy I k d x
/-- one move: the job is ns inserts J 0 .. J (ns - 1), ch of them were changed to -/
def smM (C : Int32) (sy : Nat → Int32) (ns : Nat) (J : Nat → Ins) (q : Mv) (x : Nat × Sm) : Nat × Nat × Sm :=
  if q.1 = 2 then (if ns ≤ x.1 then (4, x) else (0, x.1 + 1, 15, x.2.2))
  else if x.1 = 0 then (3, x) else ((smC C sy (J (x.1 - 1)) q.1 q.2.1 q.2.2 x.2).1, x.1, (smC C sy (J (x.1 - 1)) q.1 q.2.1 q.2.2 x.2).2)
/-- the moves i .. i + c - 1: the first fault as it is told (or none), and what is behind -/
def smA (C : Int32) (sy : Nat → Int32) (ns : Nat) (J : Nat → Ins) (mv : Nat → Mv) : Nat → Nat → Nat × Sm → Option Nat × Nat × Sm
  | _, 0, x => (none, x)
  | i, c + 1, x => if (smM C sy ns J (mv i) x).1 = 0 then smA C sy ns J mv (i + 1) c (smM C sy ns J (mv i) x).2 else (some (10 * i + (smM C sy ns J (mv i) x).1), (smM C sy ns J (mv i) x).2)
/-! a plan -/
noncomputable def plR (C : Int32) (sy : Nat → Int32) (I : Ins) : Nat → List Mv × (Nat → Bool) × Nat → List Mv × (Nat → Bool)
  | 0, x => (x.1, x.2.1)
  | n + 1, x => match leg nxt (okI C sy I) (cvI x.2.1 I) x.2.2 with
    | none => (x.1, x.2.1)
    | some y => plR C sy I n (addW x.1 y.2, (ctI x.2.1 I y.1).2, y.1)
noncomputable def plA (C : Int32) (sy : Nat → Int32) (J : Nat → Ins) (X : Nat → Bool) : Nat → List Mv × (Nat → Bool)
  | 0 => ([], X)
  | k + 1 => plR C sy (J k) 96 ((plA C sy J X k).1 ++ [(2, 0, 0)], (plA C sy J X k).2, 15)
