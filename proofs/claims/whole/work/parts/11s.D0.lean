abbrev Pl : Type := Nat × (Nat → Int64) × (Nat → Int32)
def VR (v : Int64) (l : Int32) (o : Option Int64) : Prop := (l = 0 ∧ o = some v) ∨ (l = 1 ∧ o = none)
def pus (S : Pl) (a : Int64) (b : Int32) : Pl := (S.1 + 1, up S.2.1 S.1 a, up S.2.2 S.1 b)
def lkO (x y : Int32) : Int32 := if x = 0 ∧ y = 0 then 0 else 1
abbrev Evm : Type := (Nat → Int64) × (Nat → Option Int64)
def Top (S S' : Pl) (o : Option Int64) : Prop := S'.1 = S.1 + 1 ∧ (∀ i, i < S.1 → S'.2.1 i = S.2.1 i ∧ S'.2.2 i = S.2.2 i) ∧ VR (S'.2.1 S.1) (S'.2.2 S.1) o
def arF (o : Nat) (a b : Int64) : Int64 := if o = 3 then a + b else if o = 4 then a - b else if o = 5 then a * b else if o = 6 then a / b else if o = 7 then a - a / b * b else if o = 8 then (if b ≤ a then b else a) else (if a ≤ b then b else a)
def cmF (o : Nat) (a b : Int64) : Bool := if o = 10 then decide (a < b) else if o = 11 then decide (b < a) else decide (a = b)
def rcv (w v : Nat) (a b : Int64) (lk : Int32) : Int64 × Int32 := if w = 13 then (a &&& b, 0) else if w = 14 then (a ||| b, 0) else if 10 ≤ w then (if lk = 0 then (if cmF w a b = decide (v = 1) then 0 else 1) else 0, 0) else if lk ≠ 0 ∨ ((w = 6 ∨ w = 7) ∧ b = 0) then (0, 1) else (arF w a b, 0)
def rst (vr rv : Nat → Int64) (rl : Nat → Int32) (w v k : Nat) (S : Pl) : Option (Nat × Pl) := if w = 0 then (if S.1 < 600 then some (k + 1, pus S (Int32.ofNat v).toInt64 0) else none) else if w = 1 then (if S.1 < 600 ∧ v < 11 then some (k + 1, pus S (vr v) 0) else none) else if w = 2 then (if S.1 < 600 ∧ v < 10 ∧ (rl v = 0 ∨ rl v = 1) then some (k + 1, pus S (rv v) (rl v)) else none) else if w = 15 then (if 1 ≤ S.1 then some (if S.2.1 (S.1 - 1) = 1 then k + 1 else v, (S.1 - 1, S.2)) else none) else if w = 16 then some (v, S) else (if 2 ≤ S.1 ∧ S.1 ≤ 600 then some (k + 1, pus (S.1 - 2, S.2) (rcv w v (S.2.1 (S.1 - 2)) (S.2.1 (S.1 - 2 + 1)) (lkO (S.2.2 (S.1 - 2)) (S.2.2 (S.1 - 2 + 1)))).1 (rcv w v (S.2.1 (S.1 - 2)) (S.2.1 (S.1 - 2 + 1)) (lkO (S.2.2 (S.1 - 2)) (S.2.2 (S.1 - 2 + 1)))).2) else none)
def Rn (vr rv : Nat → Int64) (rl : Nat → Int32) (mw mv : Nat → Nat) (e : Nat) : Nat → Nat × Pl → Nat × Pl → Prop
  | 0, a, b => a = b
  | t + 1, a, b => a.1 < e ∧ ∃ c, rst vr rv rl (mw a.1) (mv a.1) a.1 a.2 = some c ∧ Rn vr rv rl mw mv e t c b
def RM (D : Nat) (mw mv : Nat → Nat) (r0 r1 N : Nat) (f : Evm → Option Int64) : Prop := r0 < r1 ∧ ∀ vr rv rl dv, (∀ d, d < D → VR (rv d) (rl d) (dv d)) → ∀ S : Pl, S.1 + N ≤ 600 → ∃ t S', t ≤ r1 - r0 ∧ Rn vr rv rl mw mv r1 t (r0, S) (r1, S') ∧ Top S S' (f (vr, dv))
def Fwd (mw mv : Nat → Nat) (r0 r1 : Nat) : Prop := ∀ j, r0 ≤ j → j < r1 → (mw j = 15 ∨ mw j = 16) → j < mv j ∧ mv j ≤ r1
def RMf (D : Nat) (mw mv : Nat → Nat) (r0 r1 N : Nat) (f : Evm → Option Int64) : Prop := RM D mw mv r0 r1 N f ∧ Fwd mw mv r0 r1
def wOf (v : Int32) : Nat := if 0 ≤ v.toInt then v.toNatClampNeg / 1048576 else 15
def vOf (v : Int32) : Nat := if 0 ≤ v.toInt then v.toNatClampNeg % 1048576 else 0
def TOa (a34 a35 a36 : Nat → Int32) (i D : Nat) (rs : Nat → Nat) (fs : Nat → Evm → Option Int64) : Prop := (a34 i = Int32.ofNat D ∧ D ≤ 10) ∧ (rs 0 = 0 ∧ rs D ≤ 1100) ∧ (∀ d, d < D → RMf d (fun j => wOf (a36 (1100 * i + j))) (fun j => vOf (a36 (1100 * i + j))) (rs d) (rs (d + 1)) 37 (fs d)) ∧ ∀ d, d ≤ D → a35 (11 * i + d) = Int32.ofNat (rs d)
def TxA (n : Nat) (a34 a35 a36 : Nat → Int32) : Prop := ∀ i, i < n → ∃ D rs fs, TOa a34 a35 a36 i D rs fs
