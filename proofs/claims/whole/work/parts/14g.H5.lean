theorem rst_cgv {vr vr' rv : Nat → Int64} {rl : Nat → Int32} (h : ∀ k, k < 11 → vr k = vr' k) (w v k : Nat) (S : Pl) : rst vr rv rl w v k S = rst vr' rv rl w v k S := by
  unfold rst
  by_cases c0 : w = 0
  · rw [if_pos c0, if_pos c0]
  rw [if_neg c0, if_neg c0]
  by_cases c1 : w = 1
  · rw [if_pos c1, if_pos c1]
    by_cases c : S.1 < 600 ∧ v < 11
    · rw [if_pos c, if_pos c, h v c.2]
    · rw [if_neg c, if_neg c]
  rw [if_neg c1, if_neg c1]
theorem Rn_cgv {vr vr' rv : Nat → Int64} {rl : Nat → Int32} {mw mv : Nat → Nat} {e : Nat} (h : ∀ k, k < 11 → vr k = vr' k) : ∀ t {a b : Nat × Pl}, Rn vr rv rl mw mv e t a b → Rn vr' rv rl mw mv e t a b := by
  intro t; induction t with
  | zero => intro a b h; exact h
  | succ t ih => intro a b q; obtain ⟨h3, d, h4, h5⟩ := q; exact ⟨h3, d, by rw [← rst_cgv h]; exact h4, ih h5⟩
theorem Rn_det {vr rv : Nat → Int64} {rl : Nat → Int32} {mw mv : Nat → Nat} {e : Nat} : ∀ t t' {a b b' : Nat × Pl}, Rn vr rv rl mw mv e t a b → Rn vr rv rl mw mv e t' a b' → b.1 = e → b'.1 = e → b = b' := by
  intro t; induction t with
  | zero =>
    intro t' a b b' h h' hb hb'
    have h : a = b := h
    cases t' with
    | zero => have h' : a = b' := h'; rw [← h, ← h']
    | succ t' => obtain ⟨q, _⟩ := h'; rw [h] at q; omega
  | succ t ih =>
    intro t' a b b' h h' hb hb'
    obtain ⟨q, c, q1, q2⟩ := h
    cases t' with
    | zero => have h' : a = b' := h'; rw [h'] at q; omega
    | succ t' =>
      obtain ⟨-, c', q1', q2'⟩ := h'
      rw [q1] at q1'
      have := Option.some.inj q1'
      subst this
      exact ih t' q2 q2' hb hb'
theorem VR_ex (dv : Nat → Option Int64) : ∃ (rv : Nat → Int64) (rl : Nat → Int32), ∀ d, VR (rv d) (rl d) (dv d) := by
  refine ⟨fun d => (dv d).getD 0, fun d => if (dv d).isSome then 0 else 1, fun d => ?_⟩
  cases h : dv d with
  | none => exact Or.inr ⟨by simp [h], rfl⟩
  | some v => exact Or.inl ⟨by simp [h], by simp [h]⟩
theorem RM_un {D : Nat} {mw mv : Nat → Nat} {r0 r1 : Nat} {f f' : Evm → Option Int64} (h : RMf D mw mv r0 r1 37 f) (h' : RMf D mw mv r0 r1 37 f') {vr vr' : Nat → Int64} {dv dv' : Nat → Option Int64} (hv : ∀ k, k < 11 → vr k = vr' k) (hd : ∀ d, d < D → dv d = dv' d) : f (vr, dv) = f' (vr', dv') := by
  obtain ⟨rv, rl, hr⟩ := VR_ex dv
  obtain ⟨t, S, a1, a2, a3⟩ := h.1.2 vr rv rl dv (fun d _ => hr d) (0, fun _ => 0, fun _ => 0) (by show 0 + 37 ≤ 600; decide)
  obtain ⟨t', S', b1, b2, b3⟩ := h'.1.2 vr' rv rl dv' (fun d q => by rw [← hd d q]; exact hr d) (0, fun _ => 0, fun _ => 0) (by show 0 + 37 ≤ 600; decide)
  have := Rn_det t t' (Rn_cgv hv t a2) b2 rfl rfl
  have e : S = S' := (Prod.mk.inj this).2
  subst e
  exact VR_un a3.2.2 b3.2.2
theorem dvs_un {a34 a35 a36 : Nat → Int32} {i D D' : Nat} {rs rs' : Nat → Nat} {fs fs' : Nat → Evm → Option Int64} (h : TOa a34 a35 a36 i D rs fs) (h' : TOa a34 a35 a36 i D' rs' fs') {vr vr' : Nat → Int64} (hv : ∀ k, k < 11 → vr k = vr' k) : D = D' ∧ ∀ d, d ≤ D → ∀ j, j < d → dvs fs vr d j = dvs fs' vr' d j := by
  obtain ⟨⟨a1, a2⟩, ⟨a3, a4⟩, a5, a6⟩ := h
  obtain ⟨⟨b1, b2⟩, ⟨b3, b4⟩, b5, b6⟩ := h'
  have hm : ∀ {E : Nat} {ss : Nat → Nat} {gs : Nat → Evm → Option Int64}, (∀ d, d < E → RMf d (fun j => wOf (a36 (1100 * i + j))) (fun j => vOf (a36 (1100 * i + j))) (ss d) (ss (d + 1)) 37 (gs d)) → ∀ k d, d + k ≤ E → ss d ≤ ss (d + k) := by
    intro E ss gs hg k; induction k with
    | zero => intro d _; exact Nat.le_refl _
    | succ k ih => intro d hd; have := ih d (by omega); have := (hg (d + k) (by omega)).1.1; rw [show d + (k + 1) = d + k + 1 by omega]; omega
  have e : D = D' := by
    have := a1.symm.trans b1
    rw [eqn (by omega) (by omega)] at this; exact this
  subst e
  have hrs : ∀ d, d ≤ D → rs d = rs' d := by
    intro d hd
    have q1 := hm a5 (D - d) d (by omega)
    have q2 := hm b5 (D - d) d (by omega)
    rw [show d + (D - d) = D by omega] at q1 q2
    have := (a6 d hd).symm.trans (b6 d hd)
    rw [eqn (by omega) (by omega)] at this; exact this
  refine ⟨rfl, fun d => ?_⟩
  induction d with
  | zero => intro _ j hj; exact absurd hj (Nat.not_lt_zero _)
  | succ d ih =>
    intro hd j hj
    have i1 := ih (by omega)
    show up (dvs fs vr d) d (fs d (vr, dvs fs vr d)) j = up (dvs fs' vr' d) d (fs' d (vr', dvs fs' vr' d)) j
    by_cases c : j = d
    · rw [c, up_same, up_same]
      have q := b5 d (by omega)
      rw [← hrs d (by omega), ← hrs (d + 1) hd] at q
      exact RM_un (a5 d (by omega)) q hv i1
    · rw [up_ne _ _ _ _ c, up_ne _ _ _ _ c]; exact i1 j (by omega)
def frc (a33 : Nat → Int32) (day : Int32) : Nat → Option Nat
  | 0 => none
  | n + 1 => if day < a33 n then frc a33 day n else match frc a33 day n with
    | none => some n
    | some c => if a33 n < a33 c then some c else some n
theorem frc_lt {a33 : Nat → Int32} {day : Int32} : ∀ n c, frc a33 day n = some c → c < n := by
  intro n; induction n with
  | zero => intro c h; cases h
  | succ n ih =>
    intro c h
    unfold frc at h
    by_cases q : day < a33 n
    · rw [if_pos q] at h; have := ih c h; omega
    · rw [if_neg q] at h
      cases hf : frc a33 day n with
      | none => rw [hf] at h; have := Option.some.inj h; omega
      | some c' =>
        rw [hf] at h
        have := ih c' hf
        by_cases r : a33 n < a33 c'
        · have h2 : (if a33 n < a33 c' then some c' else some n) = some c := h
          rw [if_pos r] at h2; have := Option.some.inj h2; omega
        · have h2 : (if a33 n < a33 c' then some c' else some n) = some c := h
          rw [if_neg r] at h2; have := Option.some.inj h2; omega
def bpo (a39 : Nat → Int64) (i : Nat) : Nat → Option Nat
  | 0 => none
  | d + 1 => if a39 (10 * i + d) = 2328139461 then some d else bpo a39 i d
theorem bpo_lt {a39 : Nat → Int64} {i : Nat} : ∀ n c, bpo a39 i n = some c → c < n := by
  intro n; induction n with
  | zero => intro c h; cases h
  | succ n ih =>
    intro c h
    unfold bpo at h
    by_cases q : a39 (10 * i + n) = 2328139461
    · rw [if_pos q] at h; have := Option.some.inj h; omega
    · rw [if_neg q] at h; have := ih c h; omega
def dyB (R : Gs) (i : Nat) : Int32 := Int32.ofInt (civ (tru R (nL R)) (ai R 55 i).toInt)
def cnB (a52 a53 a54 : Nat → Int32) (i : Nat) (b : Bool) : Nat → Nat
  | 0 => 0
  | j + 1 => cnB a52 a53 a54 i b j + if (a52 j = a52 i ∧ a53 j = a53 i) ∧ decide (a54 j = a54 i) = b then 1 else 0
theorem cnB_le {a52 a53 a54 : Nat → Int32} {i : Nat} {b : Bool} : ∀ j, cnB a52 a53 a54 i b j ≤ j := by
  intro j; induction j with
  | zero => exact Nat.le_refl _
  | succ j ih => unfold cnB; split <;> omega
def mnB (d : Int32) : Int32 := if (d - d / 365 * 365) / 30 < 11 then (d - d / 365 * 365) / 30 else 11
def vrB (R : Gs) (i : Nat) : Nat → Int64 := fun k => if k = 0 then (ai R 51 i).toInt64 else if k = 1 then (ai R 50 (ai R 51 i).toNatClampNeg).toInt64 else if k = 2 then (ai R 53 i - dyB R i).toInt64 else if k = 3 then (ai R 54 i).toInt64 else if k = 4 then Int64.ofNat (cnB (ai R 52) (ai R 53) (ai R 54) i true i) else if k = 5 then Int64.ofNat (cnB (ai R 52) (ai R 53) (ai R 54) i false i) else if k = 6 then (ai R 13 (ai R 52 i).toNatClampNeg).toInt64 else if k = 7 then (ai R 52 i).toInt64 else if k = 8 then (dyB R i).toInt64 else if k = 9 then (mnB (dyB R i)).toInt64 else (dyB R i / 365).toInt64
def bP (R : Gs) (i : Nat) : Prop := i < nN R → ∀ t e, frc (ai R 33) (dyB R i) (nT R) = some t → bpo (al R 39) t (ai R 34 t).toNatClampNeg = some e → ∃ D rs fs, TOa (ai R 34) (ai R 35) (ai R 36) t D rs fs ∧ tv (dvs fs (vrB R i) (e + 1) e) = true
theorem bel_ex : ∃ bl : Gs → Nat → Bool, ∀ R i, bl R i = true ↔ bP R i := by
  refine ⟨fun R i => @decide (bP R i) (Classical.propDecidable _), fun R i => ?_⟩
  exact @decide_eq_true_iff (bP R i) (Classical.propDecidable _)
