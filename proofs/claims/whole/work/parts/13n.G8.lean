theorem VR_un {v : Int64} {l : Int32} {o o' : Option Int64} (h : VR v l o) (h' : VR v l o') : o = o' := by
  rcases h with ⟨a, b⟩ | ⟨a, b⟩ <;> rcases h' with ⟨c, d⟩ | ⟨c, d⟩
  · rw [b, d]
  · rw [a] at c; exact absurd c (by decide)
  · rw [a] at c; exact absurd c (by decide)
  · rw [b, d]
def layF (S : Pl) (a : Int64) (b : Int32) : Pl := if 64 ≤ S.1 then S else pus S a b
def outF (op : Int32) (a b : Int64) : Int64 := if op = 5 then a + b else if op = 6 then a - b else if op = 7 then a * b else if op = 8 then (if b = 0 then 0 else a / b) else if op = 9 then (if b = 0 then 0 else a - a / b * b) else if op = 10 then (if b ≤ a then b else a) else if op = 11 then (if a ≤ b then b else a) else if op = 15 then a &&& b else a ||| b
def cmX (op : Int32) (a b : Int64) : Int32 := if op = 12 then (if b ≤ a then 0 else 1) else if op = 13 then (if a ≤ b then 0 else 1) else (if a = b then 1 else 0)
def xcv (op nt : Int32) (a b : Int64) (lk : Int32) : Int64 × Int32 := if op = 12 ∨ op = 13 ∨ op = 14 then (if lk = 0 then (if cmX op a b = nt then 0 else 1) else 0, 0) else if (op = 8 ∨ op = 9) ∧ b = 0 then (0, 1) else (outF op a b, lk)
def xcm (op nt : Int32) (S : Pl) : Pl := if 2 ≤ S.1 then layF (S.1 - 2, S.2) (xcv op nt (S.2.1 (S.1 - 2)) (S.2.1 (S.1 - 2 + 1)) (lkO (S.2.2 (S.1 - 2)) (S.2.2 (S.1 - 2 + 1)))).1 (xcv op nt (S.2.1 (S.1 - 2)) (S.2.1 (S.1 - 2 + 1)) (lkO (S.2.2 (S.1 - 2)) (S.2.2 (S.1 - 2 + 1)))).2 else S
def xch (S : Pl) : Pl := if 3 ≤ S.1 then (if S.2.1 (S.1 - 3) = 0 then layF (S.1 - 3, S.2) (S.2.1 (S.1 - 3 + 2)) (S.2.2 (S.1 - 3 + 2)) else layF (S.1 - 3, S.2) (S.2.1 (S.1 - 3 + 1)) (S.2.2 (S.1 - 3 + 1))) else S
def xst (vr xv : Nat → Int64) (xl : Nat → Int32) (op opd : Int32) (S : Pl) : Pl := if op = 0 then layF S opd.toInt64 0 else if op = 1 then layF S (vr opd.toNatClampNeg) 0 else if op = 2 then layF S (xv opd.toNatClampNeg) (xl opd.toNatClampNeg) else if op = 4 then xch S else xcm op (if opd = 0 then 0 else 1) S
def xrn (vr xv : Nat → Int64) (xl : Nat → Int32) (ops opd : Nat → Int32) : Nat → Nat → Pl → Pl
  | 0, _, S => S
  | k + 1, m, S => xrn vr xv xl ops opd k (m + 1) (xst vr xv xl (ops m) (opd m) S)
theorem xrn_add {vr xv : Nat → Int64} {xl : Nat → Int32} {ops opd : Nat → Int32} : ∀ a b m S, xrn vr xv xl ops opd (a + b) m S = xrn vr xv xl ops opd b (m + a) (xrn vr xv xl ops opd a m S) := by
  intro a; induction a with
  | zero => intro b m S; rw [Nat.zero_add]; rfl
  | succ a ih =>
    intro b m S
    rw [show a + 1 + b = (a + b) + 1 by omega]
    show xrn vr xv xl ops opd (a + b) (m + 1) _ = _
    rw [ih b (m + 1), show m + 1 + a = m + (a + 1) by omega]; rfl
theorem xrn_cg {vr xv : Nat → Int64} {xl : Nat → Int32} {ops opd ops' opd' : Nat → Int32} : ∀ k m S, (∀ j, m ≤ j → j < m + k → ops j = ops' j ∧ opd j = opd' j) → xrn vr xv xl ops opd k m S = xrn vr xv xl ops' opd' k m S := by
  intro k; induction k with
  | zero => intro m S _; rfl
  | succ k ih =>
    intro m S h
    show xrn vr xv xl ops opd k (m + 1) (xst vr xv xl (ops m) (opd m) S) = xrn vr xv xl ops' opd' k (m + 1) (xst vr xv xl (ops' m) (opd' m) S)
    rw [(h m (by omega) (by omega)).1, (h m (by omega) (by omega)).2]
    exact ih (m + 1) _ (fun j h1 h2 => h j (by omega) (by omega))
def OkO (op opd : Int32) : Prop := op ≠ 3 ∧ (op = 1 → ∃ v, opd = Int32.ofNat v ∧ v < 11) ∧ (op = 2 → ∃ d, opd = Int32.ofNat d ∧ d < 10)
def XM (D : Nat) (ops opd : Nat → Int32) (m0 m1 N : Nat) (f : Evm → Option Int64) : Prop := m0 ≤ m1 ∧ (∀ vr xv xl dv, (∀ d, d < D → VR (xv d) (xl d) (dv d)) → ∀ S : Pl, S.1 + N ≤ 64 → Top S (xrn vr xv xl ops opd (m1 - m0) m0 S) (f (vr, dv))) ∧ ∀ j, m0 ≤ j → j < m1 → OkO (ops j) (opd j)
theorem XM_cg {D m0 m1 N : Nat} {ops opd ops' opd' : Nat → Int32} {f : Evm → Option Int64} (h : XM D ops opd m0 m1 N f) (hq : ∀ j, m0 ≤ j → j < m1 → ops' j = ops j ∧ opd' j = opd j) : XM D ops' opd' m0 m1 N f := by
  refine ⟨h.1, fun vr xv xl dv hd S hS => ?_, fun j j1 j2 => by rw [(hq j j1 j2).1, (hq j j1 j2).2]; exact h.2.2 j j1 j2⟩
  rw [xrn_cg (ops' := ops) (opd' := opd) (m1 - m0) m0 S (fun j h1 h2 => hq j h1 (by have := h.1; omega))]
  exact h.2.1 vr xv xl dv hd S hS
theorem XM_mono {D m0 m1 N N' : Nat} {ops opd : Nat → Int32} {f : Evm → Option Int64} (h : XM D ops opd m0 m1 N f) (hN : N ≤ N') : XM D ops opd m0 m1 N' f := ⟨h.1, fun vr xv xl dv hd S hS => h.2.1 vr xv xl dv hd S (by omega), h.2.2⟩
theorem lay_top {S : Pl} (h : S.1 < 64) {a : Int64} {b : Int32} {o : Option Int64} (hv : VR a b o) : Top S (layF S a b) o := by
  unfold layF; rw [if_neg (by omega)]
  refine ⟨rfl, fun i hi => ⟨?_, ?_⟩, ?_⟩
  · show up S.2.1 S.1 a i = _; unfold up; rw [if_neg (by omega)]
  · show up S.2.2 S.1 b i = _; unfold up; rw [if_neg (by omega)]
  · show VR (up S.2.1 S.1 a S.1) (up S.2.2 S.1 b S.1) o; rw [up_same, up_same]; exact hv
theorem XM_1 {D m : Nat} {ops opd : Nat → Int32} {f : Evm → Option Int64} (ho : OkO (ops m) (opd m)) (h : ∀ vr xv xl dv, (∀ d, d < D → VR (xv d) (xl d) (dv d)) → ∀ S : Pl, S.1 + 1 ≤ 64 → Top S (xst vr xv xl (ops m) (opd m) S) (f (vr, dv))) : XM D ops opd m (m + 1) 1 f := by
  refine ⟨by omega, fun vr xv xl dv hd S hS => ?_, fun j j1 j2 => by rw [show j = m by omega]; exact ho⟩
  rw [show m + 1 - m = 0 + 1 by omega]
  exact h vr xv xl dv hd S hS
theorem XM_num {D m : Nat} {ops opd : Nat → Int32} (h : ops m = 0) : XM D ops opd m (m + 1) 1 (fun _ => some (opd m).toInt64) := XM_1 (by rw [h]; exact ⟨by decide, fun q => absurd q (by decide), fun q => absurd q (by decide)⟩) (fun vr xv xl dv hd S hS => by
  unfold xst; rw [h, if_pos rfl]; exact lay_top (by omega) (Or.inl ⟨rfl, rfl⟩))
theorem XM_var {D m v : Nat} {ops opd : Nat → Int32} (h : ops m = 1) (hv : opd m = Int32.ofNat v) (hb : v < 11) : XM D ops opd m (m + 1) 1 (fun e => some (e.1 v)) := XM_1 (by rw [h, hv]; exact ⟨by decide, fun _ => ⟨v, rfl, hb⟩, fun q => absurd q (by decide)⟩) (fun vr xv xl dv hd S hS => by
  unfold xst; rw [h, if_neg (by decide), if_pos rfl, hv, c32 (by omega)]; exact lay_top (by omega) (Or.inl ⟨rfl, rfl⟩))
theorem XM_def {D m d : Nat} {ops opd : Nat → Int32} (h : ops m = 2) (hv : opd m = Int32.ofNat d) (hb : d < D) (hD : D ≤ 10) : XM D ops opd m (m + 1) 1 (fun e => e.2 d) := XM_1 (by rw [h, hv]; exact ⟨by decide, fun q => absurd q (by decide), fun _ => ⟨d, rfl, by omega⟩⟩) (fun vr xv xl dv hd S hS => by
  unfold xst; rw [h, if_neg (by decide), if_neg (by decide), if_pos rfl, hv, c32 (by omega)]; exact lay_top (by omega) (hd d hb))
theorem xcm_top {op nt : Int32} {S S1 S2 : Pl} {A B C : Option Int64} (h1 : Top S S1 A) (h2 : Top S1 S2 B) (hS : S.1 < 64) (hv : ∀ a b l l', VR a l A → VR b l' B → VR (xcv op nt a b (lkO l l')).1 (xcv op nt a b (lkO l l')).2 C) : Top S (xcm op nt S2) C := by
  obtain ⟨a1, a2, a3⟩ := h1
  obtain ⟨b1, b2, b3⟩ := h2
  have e : S2.1 - 2 = S.1 := by omega
  unfold xcm
  rw [if_pos (by omega), e]
  have hq := b2 S.1 (by omega)
  rw [a1] at b3
  have hv' := hv _ _ _ _ a3 b3
  rw [← hq.1, ← hq.2] at hv'
  have hl := lay_top (S := (S.1, S2.2)) (by show S.1 < 64; exact hS) hv'
  obtain ⟨c1, c2, c3⟩ := hl
  refine ⟨c1, fun i hi => ?_, c3⟩
  obtain ⟨d1, d2⟩ := c2 i hi
  have g1 := b2 i (by omega)
  have g2 := a2 i hi
  exact ⟨d1.trans (g1.1.trans g2.1), d2.trans (g1.2.trans g2.2)⟩
theorem XM_2 {D m0 m1 m2 N1 N2 N : Nat} {ops opd : Nat → Int32} {f1 f2 f : Evm → Option Int64} (h1 : XM D ops opd m0 m1 N1 f1) (h2 : XM D ops opd m1 m2 N2 f2) (hN1 : N1 ≤ N) (hN2 : N2 + 1 ≤ N) (hop : ops m2 ≠ 0 ∧ ops m2 ≠ 1 ∧ ops m2 ≠ 2 ∧ ops m2 ≠ 4 ∧ ops m2 ≠ 3) (hv : ∀ e a b l l', VR a l (f1 e) → VR b l' (f2 e) → VR (xcv (ops m2) (if opd m2 = 0 then 0 else 1) a b (lkO l l')).1 (xcv (ops m2) (if opd m2 = 0 then 0 else 1) a b (lkO l l')).2 (f e)) : XM D ops opd m0 (m2 + 1) N f := by
  have q1 := h1.1
  have q2 := h2.1
  refine ⟨by omega, fun vr xv xl dv hd S hS => ?_, fun j j1 j2 => ?_⟩
  rotate_left
  · by_cases c1 : j < m1
    · exact h1.2.2 j j1 c1
    · by_cases c2 : j < m2
      · exact h2.2.2 j (by omega) c2
      · rw [show j = m2 by omega]; exact ⟨hop.2.2.2.2, fun q => absurd q hop.2.1, fun q => absurd q hop.2.2.1⟩
  have t1 := h1.2.1 vr xv xl dv hd S (by omega)
  have t2 := h2.2.1 vr xv xl dv hd (xrn vr xv xl ops opd (m1 - m0) m0 S) (by rw [t1.1]; omega)
  rw [show m2 + 1 - m0 = (m1 - m0) + ((m2 - m1) + 1) by omega, xrn_add, xrn_add, show m0 + (m1 - m0) = m1 by omega, show m1 + (m2 - m1) = m2 by omega]
  show Top S (xst vr xv xl (ops m2) (opd m2) _) _
  unfold xst
  rw [if_neg hop.1, if_neg hop.2.1, if_neg hop.2.2.1, if_neg hop.2.2.2.1]
  exact xcm_top t1 t2 (by omega) (fun a b l l' => hv (vr, dv) a b l l')
def sop (o : Nat) (A B : Option Int64) : Option Int64 := A.bind fun a => B.bind fun b => if (o = 6 ∨ o = 7) ∧ b = 0 then none else some (arF o a b)
theorem xcv_ar {o : Nat} (ho : 3 ≤ o ∧ o ≤ 9) {A B : Option Int64} {a b : Int64} {l l' : Int32} (h1 : VR a l A) (h2 : VR b l' B) (nt : Int32) : VR (xcv (Int32.ofNat (o + 2)) nt a b (lkO l l')).1 (xcv (Int32.ofNat (o + 2)) nt a b (lkO l l')).2 (sop o A B) := by
  have hne : ¬ (Int32.ofNat (o + 2) = 12 ∨ Int32.ofNat (o + 2) = 13 ∨ Int32.ofNat (o + 2) = 14) := by
    rintro (q | q | q) <;> (rw [eq32, n32 (by omega)] at q; have : ((o + 2 : Nat) : Int) ≤ 11 := by omega
                            first | (rw [show (12 : Int32).toInt = 12 from rfl] at q; omega) | (rw [show (13 : Int32).toInt = 13 from rfl] at q; omega) | (rw [show (14 : Int32).toInt = 14 from rfl] at q; omega))
  have e8 : (Int32.ofNat (o + 2) = 8 ∨ Int32.ofNat (o + 2) = 9) ↔ (o = 6 ∨ o = 7) := by
    rw [show (8 : Int32) = Int32.ofNat 8 from rfl, show (9 : Int32) = Int32.ofNat 9 from rfl, eqn (by omega) (by decide), eqn (by omega) (by decide)]; omega
  unfold xcv
  rw [if_neg hne]
  rcases h1 with ⟨rfl, rfl⟩ | ⟨rfl, rfl⟩ <;> rcases h2 with ⟨rfl, rfl⟩ | ⟨rfl, rfl⟩
  · by_cases c : (Int32.ofNat (o + 2) = 8 ∨ Int32.ofNat (o + 2) = 9) ∧ b = 0
    · rw [if_pos c]
      right
      refine ⟨rfl, ?_⟩
      show (if (o = 6 ∨ o = 7) ∧ b = 0 then none else some (arF o a b)) = none
      rw [if_pos ⟨e8.mp c.1, c.2⟩]
    · rw [if_neg c]
      left
      refine ⟨rfl, ?_⟩
      show (if (o = 6 ∨ o = 7) ∧ b = 0 then none else some (arF o a b)) = some _
      rw [if_neg (fun q => c ⟨e8.mpr q.1, q.2⟩)]
      refine congrArg some ?_
      have h : o = 3 ∨ o = 4 ∨ o = 5 ∨ o = 6 ∨ o = 7 ∨ o = 8 ∨ o = 9 := by omega
      rcases h with rfl | rfl | rfl | rfl | rfl | rfl | rfl
      · rfl
      · rfl
      · rfl
      · show a / b = if b = 0 then 0 else a / b
        rw [if_neg (fun q => c ⟨Or.inl rfl, q⟩)]
      · show a - a / b * b = if b = 0 then 0 else a - a / b * b
        rw [if_neg (fun q => c ⟨Or.inr rfl, q⟩)]
      · rfl
      · rfl
  · by_cases c : (Int32.ofNat (o + 2) = 8 ∨ Int32.ofNat (o + 2) = 9) ∧ b = 0
    · rw [if_pos c]; exact Or.inr ⟨rfl, rfl⟩
    · rw [if_neg c]; exact Or.inr ⟨rfl, rfl⟩
  · by_cases c : (Int32.ofNat (o + 2) = 8 ∨ Int32.ofNat (o + 2) = 9) ∧ b = 0
    · rw [if_pos c]; exact Or.inr ⟨rfl, rfl⟩
    · rw [if_neg c]; exact Or.inr ⟨rfl, rfl⟩
  · by_cases c : (Int32.ofNat (o + 2) = 8 ∨ Int32.ofNat (o + 2) = 9) ∧ b = 0
    · rw [if_pos c]; exact Or.inr ⟨rfl, rfl⟩
    · rw [if_neg c]; exact Or.inr ⟨rfl, rfl⟩
def scm (o : Nat) (nt : Bool) (A B : Option Int64) : Option Int64 := some ((A.bind fun a => B.bind fun b => some (if cmF o a b = nt then 0 else 1)).getD 0)
def IsT (f : Evm → Option Int64) : Prop := ∀ e, f e = some 0 ∨ f e = some 1
theorem scm_01 (o : Nat) (nt : Bool) (A B : Option Int64) : scm o nt A B = some 0 ∨ scm o nt A B = some 1 := by
  unfold scm
  cases A with
  | none => exact Or.inl rfl
  | some a =>
    cases B with
    | none => exact Or.inl rfl
    | some b =>
      show some (if cmF o a b = nt then (0 : Int64) else 1) = some 0 ∨ some (if cmF o a b = nt then (0 : Int64) else 1) = some 1
      by_cases c : cmF o a b = nt
      · rw [if_pos c]; exact Or.inl rfl
      · rw [if_neg c]; exact Or.inr rfl
theorem scm_T (o : Nat) (nt : Bool) (f1 f2 : Evm → Option Int64) : IsT (fun e => scm o nt (f1 e) (f2 e)) := fun e => scm_01 o nt _ _
theorem cmX_F {o : Nat} (ho : 10 ≤ o ∧ o ≤ 12) (a b : Int64) (nt : Bool) : (cmX (Int32.ofNat (o + 2)) a b = (if nt = true then 1 else 0)) ↔ cmF o a b = nt := by
  have h : o = 10 ∨ o = 11 ∨ o = 12 := by omega
  rcases h with rfl | rfl | rfl
  · show (if b ≤ a then (0 : Int32) else 1) = _ ↔ decide (a < b) = nt
    by_cases c : b ≤ a
    · rw [if_pos c, decide_eq_false (by rw [le64] at c; rw [lt64]; omega)]; cases nt <;> decide
    · rw [if_neg c, decide_eq_true (by rw [le64] at c; rw [lt64]; omega)]; cases nt <;> decide
  · show (if a ≤ b then (0 : Int32) else 1) = _ ↔ decide (b < a) = nt
    by_cases c : a ≤ b
    · rw [if_pos c, decide_eq_false (by rw [le64] at c; rw [lt64]; omega)]; cases nt <;> decide
    · rw [if_neg c, decide_eq_true (by rw [le64] at c; rw [lt64]; omega)]; cases nt <;> decide
  · show (if a = b then (1 : Int32) else 0) = _ ↔ decide (a = b) = nt
    by_cases c : a = b
    · rw [if_pos c, decide_eq_true c]; cases nt <;> decide
    · rw [if_neg c, decide_eq_false c]; cases nt <;> decide
theorem xcv_cm {o : Nat} (ho : 10 ≤ o ∧ o ≤ 12) (nt : Bool) {A B : Option Int64} {a b : Int64} {l l' : Int32} (h1 : VR a l A) (h2 : VR b l' B) : VR (xcv (Int32.ofNat (o + 2)) (if nt = true then 1 else 0) a b (lkO l l')).1 (xcv (Int32.ofNat (o + 2)) (if nt = true then 1 else 0) a b (lkO l l')).2 (scm o nt A B) := by
  have hy : (Int32.ofNat (o + 2) = 12 ∨ Int32.ofNat (o + 2) = 13 ∨ Int32.ofNat (o + 2) = 14) := by
    have h : o = 10 ∨ o = 11 ∨ o = 12 := by omega
    rcases h with rfl | rfl | rfl
    · exact Or.inl rfl
    · exact Or.inr (Or.inl rfl)
    · exact Or.inr (Or.inr rfl)
  unfold xcv
  rw [if_pos hy]
  left
  refine ⟨rfl, ?_⟩
  rcases h1 with ⟨rfl, rfl⟩ | ⟨rfl, rfl⟩ <;> rcases h2 with ⟨rfl, rfl⟩ | ⟨rfl, rfl⟩
  · show some (if cmF o a b = nt then (0 : Int64) else 1) = some (if cmX (Int32.ofNat (o + 2)) a b = (if nt = true then 1 else 0) then 0 else 1)
    by_cases c : cmF o a b = nt
    · rw [if_pos c, if_pos ((cmX_F ho a b nt).mpr c)]
    · rw [if_neg c, if_neg (fun q => c ((cmX_F ho a b nt).mp q))]
  · rfl
  · rfl
  · rfl
def sao (o : Nat) (A B : Option Int64) : Option Int64 := some (if o = 13 then A.getD 0 &&& B.getD 0 else A.getD 0 ||| B.getD 0)
theorem sao_01 (o : Nat) {A B : Option Int64} (hA : A = some 0 ∨ A = some 1) (hB : B = some 0 ∨ B = some 1) : sao o A B = some 0 ∨ sao o A B = some 1 := by
  unfold sao
  by_cases q : o = 13
  · rw [if_pos q]; rcases hA with rfl | rfl <;> rcases hB with rfl | rfl <;> decide
  · rw [if_neg q]; rcases hA with rfl | rfl <;> rcases hB with rfl | rfl <;> decide
theorem sao_T {o : Nat} {f1 f2 : Evm → Option Int64} (h1 : IsT f1) (h2 : IsT f2) : IsT (fun e => sao o (f1 e) (f2 e)) := fun e => sao_01 o (h1 e) (h2 e)
theorem xcv_ao {o : Nat} (ho : o = 13 ∨ o = 14) {A B : Option Int64} (hA : A = some 0 ∨ A = some 1) (hB : B = some 0 ∨ B = some 1) {a b : Int64} {l l' : Int32} (h1 : VR a l A) (h2 : VR b l' B) (nt : Int32) : VR (xcv (Int32.ofNat (o + 2)) nt a b (lkO l l')).1 (xcv (Int32.ofNat (o + 2)) nt a b (lkO l l')).2 (sao o A B) := by
  have hl : l = 0 ∧ A = some a := by
    rcases h1 with h | ⟨_, h⟩
    · exact h
    · rcases hA with q | q <;> (rw [q] at h; exact absurd h (by simp))
  have hl' : l' = 0 ∧ B = some b := by
    rcases h2 with h | ⟨_, h⟩
    · exact h
    · rcases hB with q | q <;> (rw [q] at h; exact absurd h (by simp))
  obtain ⟨rfl, rfl⟩ := hl
  obtain ⟨rfl, rfl⟩ := hl'
  rcases ho with rfl | rfl
  · exact Or.inl ⟨rfl, rfl⟩
  · exact Or.inl ⟨rfl, rfl⟩
def sif (G A B : Option Int64) : Option Int64 := if G = some 1 then A else B
theorem XM_if {D m0 m1 m2 m3 N0 N1 N2 N : Nat} {ops opd : Nat → Int32} {g f1 f2 : Evm → Option Int64} (h0 : XM D ops opd m0 m1 N0 g) (h1 : XM D ops opd m1 m2 N1 f1) (h2 : XM D ops opd m2 m3 N2 f2) (hg : IsT g) (hN0 : N0 ≤ N) (hN1 : N1 + 1 ≤ N) (hN2 : N2 + 2 ≤ N) (hop : ops m3 = 4) : XM D ops opd m0 (m3 + 1) N (fun e => sif (g e) (f1 e) (f2 e)) := by
  have q0 := h0.1
  have q1 := h1.1
  have q2 := h2.1
  refine ⟨by omega, fun vr xv xl dv hd S hS => ?_, fun j j1 j2 => ?_⟩
  rotate_left
  · by_cases c1 : j < m1
    · exact h0.2.2 j j1 c1
    · by_cases c2 : j < m2
      · exact h1.2.2 j (by omega) c2
      · by_cases c3 : j < m3
        · exact h2.2.2 j (by omega) c3
        · rw [show j = m3 by omega, hop]; exact ⟨by decide, fun q => absurd q (by decide), fun q => absurd q (by decide)⟩
  have t0 := h0.2.1 vr xv xl dv hd S (by omega)
  have t1 := h1.2.1 vr xv xl dv hd (xrn vr xv xl ops opd (m1 - m0) m0 S) (by rw [t0.1]; omega)
  have t2 := h2.2.1 vr xv xl dv hd (xrn vr xv xl ops opd (m2 - m1) m1 (xrn vr xv xl ops opd (m1 - m0) m0 S)) (by rw [t1.1, t0.1]; omega)
  rw [show m3 + 1 - m0 = (m1 - m0) + ((m2 - m1) + ((m3 - m2) + 1)) by omega, xrn_add, xrn_add, xrn_add, show m0 + (m1 - m0) = m1 by omega, show m1 + (m2 - m1) = m2 by omega, show m2 + (m3 - m2) = m3 by omega]
  generalize xrn vr xv xl ops opd (m1 - m0) m0 S = S1 at *
  generalize xrn vr xv xl ops opd (m2 - m1) m1 S1 = S2 at *
  generalize xrn vr xv xl ops opd (m3 - m2) m2 S2 = S3 at *
  show Top S (xst vr xv xl (ops m3) (opd m3) S3) _
  unfold xst
  rw [hop, if_neg (by decide), if_neg (by decide), if_neg (by decide), if_pos rfl]
  obtain ⟨a1, a2, a3⟩ := t0
  obtain ⟨b1, b2, b3⟩ := t1
  obtain ⟨c1, c2, c3⟩ := t2
  have e : S3.1 - 3 = S.1 := by omega
  unfold xch
  rw [if_pos (by omega), e]
  have k0 : S3.2.1 S.1 = S1.2.1 S.1 := (c2 S.1 (by omega)).1.trans (b2 S.1 (by omega)).1
  have k1 := c2 (S.1 + 1) (by omega)
  rw [a1] at b3
  rw [b1, a1, show S.1 + 1 + 1 = S.1 + 2 by omega] at c3
  have below : ∀ i, i < S.1 → S3.2.1 i = S.2.1 i ∧ S3.2.2 i = S.2.2 i := fun i hi => by
    have r1 := c2 i (by omega)
    have r2 := b2 i (by omega)
    have r3 := a2 i hi
    exact ⟨r1.1.trans (r2.1.trans r3.1), r1.2.trans (r2.2.trans r3.2)⟩
  have fin : ∀ (a : Int64) (l : Int32) (o : Option Int64), VR a l o → Top S (layF (S.1, S3.2) a l) o := by
    intro a l o hv
    obtain ⟨d1, d2, d3⟩ := lay_top (S := (S.1, S3.2)) (show S.1 < 64 by omega) hv
    exact ⟨d1, fun i hi => ⟨(d2 i hi).1.trans (below i hi).1, (d2 i hi).2.trans (below i hi).2⟩, d3⟩
  rw [k0]
  have hg' := hg (vr, dv)
  rcases a3 with ⟨u1, u2⟩ | ⟨u1, u2⟩
  · rcases hg' with w | w
    · rw [w] at u2
      rw [if_pos (Option.some.inj u2).symm]
      show Top S _ (if g (vr, dv) = some 1 then f1 (vr, dv) else f2 (vr, dv))
      rw [w, if_neg (by simp)]
      exact fin _ _ _ c3
    · rw [w] at u2
      rw [if_neg (by rw [← Option.some.inj u2]; decide)]
      show Top S _ (if g (vr, dv) = some 1 then f1 (vr, dv) else f2 (vr, dv))
      rw [w, if_pos rfl, k1.1, k1.2]
      exact fin _ _ _ b3
  · rcases hg' with w | w <;> (rw [w] at u2; exact absurd u2 (by simp))
