section
variable {vr rv : Nat → Int64} {rl : Nat → Int32} {mw mv : Nat → Nat}
theorem Rn_add {e : Nat} : ∀ t u {a b c : Nat × Pl}, Rn vr rv rl mw mv e t a b → Rn vr rv rl mw mv e u b c → Rn vr rv rl mw mv e (t + u) a c := by
  intro t; induction t with
  | zero => intro u a b c h1 h2; rw [Nat.zero_add]; have h : a = b := h1; rw [h]; exact h2
  | succ t ih =>
    intro u a b c h1 h2
    obtain ⟨h3, d, h4, h5⟩ := h1
    rw [show t + 1 + u = (t + u) + 1 by omega]
    exact ⟨h3, d, h4, ih u h5 h2⟩
theorem Rn_mono {e e' : Nat} (he : e ≤ e') : ∀ t {a b : Nat × Pl}, Rn vr rv rl mw mv e t a b → Rn vr rv rl mw mv e' t a b := by
  intro t; induction t with
  | zero => intro a b h; exact h
  | succ t ih => intro a b h; obtain ⟨h3, d, h4, h5⟩ := h; exact ⟨by omega, d, h4, ih h5⟩
theorem Rn_1 {e : Nat} {a b : Nat × Pl} (h1 : a.1 < e) (h2 : rst vr rv rl (mw a.1) (mv a.1) a.1 a.2 = some b) : Rn vr rv rl mw mv e 1 a b := ⟨h1, b, h2, rfl⟩
end
theorem rst_k {vr rv : Nat → Int64} {rl : Nat → Int32} {w v k : Nat} {S : Pl} {d : Nat × Pl} (h : rst vr rv rl w v k S = some d) : d.1 = k + 1 ∨ ((w = 15 ∨ w = 16) ∧ d.1 = v) := by
  unfold rst at h
  by_cases c0 : w = 0
  · rw [if_pos c0] at h
    by_cases e : S.1 < 600
    · rw [if_pos e] at h; exact Or.inl (by rw [← Option.some.inj h])
    · rw [if_neg e] at h; cases h
  rw [if_neg c0] at h
  by_cases c1 : w = 1
  · rw [if_pos c1] at h
    by_cases e : S.1 < 600 ∧ v < 11
    · rw [if_pos e] at h; exact Or.inl (by rw [← Option.some.inj h])
    · rw [if_neg e] at h; cases h
  rw [if_neg c1] at h
  by_cases c2 : w = 2
  · rw [if_pos c2] at h
    by_cases e : S.1 < 600 ∧ v < 10 ∧ (rl v = 0 ∨ rl v = 1)
    · rw [if_pos e] at h; exact Or.inl (by rw [← Option.some.inj h])
    · rw [if_neg e] at h; cases h
  rw [if_neg c2] at h
  by_cases c3 : w = 15
  · rw [if_pos c3] at h
    by_cases e : 1 ≤ S.1
    · rw [if_pos e] at h
      by_cases q : S.2.1 (S.1 - 1) = 1
      · rw [if_pos q] at h; exact Or.inl (by rw [← Option.some.inj h])
      · rw [if_neg q] at h; exact Or.inr ⟨Or.inl c3, by rw [← Option.some.inj h]⟩
    · rw [if_neg e] at h; cases h
  rw [if_neg c3] at h
  by_cases c4 : w = 16
  · rw [if_pos c4] at h; exact Or.inr ⟨Or.inr c4, by rw [← Option.some.inj h]⟩
  rw [if_neg c4] at h
  by_cases e : 2 ≤ S.1 ∧ S.1 ≤ 600
  · rw [if_pos e] at h; exact Or.inl (by rw [← Option.some.inj h])
  · rw [if_neg e] at h; cases h
theorem Rn_cg {vr rv : Nat → Int64} {rl : Nat → Int32} {mw mv mw' mv' : Nat → Nat} {r0 r1 : Nat} (hq : ∀ j, r0 ≤ j → j < r1 → mw' j = mw j ∧ mv' j = mv j) (hf : ∀ j, r0 ≤ j → j < r1 → mw j = 15 ∨ mw j = 16 → j < mv j) : ∀ t {a b : Nat × Pl}, r0 ≤ a.1 → Rn vr rv rl mw mv r1 t a b → Rn vr rv rl mw' mv' r1 t a b := by
  intro t; induction t with
  | zero => intro a b _ h; exact h
  | succ t ih =>
    intro a b ha h
    obtain ⟨h3, d, h4, h5⟩ := h
    obtain ⟨e1, e2⟩ := hq a.1 ha h3
    refine ⟨h3, d, by rw [e1, e2]; exact h4, ih ?_ h5⟩
    rcases rst_k h4 with q | ⟨q1, q2⟩
    · omega
    · have := hf a.1 ha h3 q1; omega
theorem RM_cg {D r0 r1 N : Nat} {mw mv mw' mv' : Nat → Nat} {f : Evm → Option Int64} (h : RMf D mw mv r0 r1 N f) (hq : ∀ j, r0 ≤ j → j < r1 → mw' j = mw j ∧ mv' j = mv j) : RMf D mw' mv' r0 r1 N f := by
  refine ⟨⟨h.1.1, fun vr rv rl dv hd S hS => ?_⟩, fun j h1 h2 h3 => ?_⟩
  · obtain ⟨t, S', q1, q2, q3⟩ := h.1.2 vr rv rl dv hd S hS
    exact ⟨t, S', q1, Rn_cg hq (fun j h1 h2 h3 => (h.2 j h1 h2 h3).1) t (Nat.le_refl _) q2, q3⟩
  · obtain ⟨e1, e2⟩ := hq j h1 h2
    rw [e1] at h3; rw [e2]; exact h.2 j h1 h2 h3
theorem RM_mono {D r0 r1 N N' : Nat} {mw mv : Nat → Nat} {f : Evm → Option Int64} (h : RMf D mw mv r0 r1 N f) (hN : N ≤ N') : RMf D mw mv r0 r1 N' f := ⟨⟨h.1.1, fun vr rv rl dv hd S hS => h.1.2 vr rv rl dv hd S (by omega)⟩, h.2⟩
theorem pus_top {S : Pl} {a : Int64} {b : Int32} {o : Option Int64} (hv : VR a b o) : Top S (pus S a b) o := by
  refine ⟨rfl, fun i hi => ⟨?_, ?_⟩, ?_⟩
  · show up S.2.1 S.1 a i = _; unfold up; rw [if_neg (by omega)]
  · show up S.2.2 S.1 b i = _; unfold up; rw [if_neg (by omega)]
  · show VR (up S.2.1 S.1 a S.1) (up S.2.2 S.1 b S.1) o; rw [up_same, up_same]; exact hv
theorem RM_1 {D m : Nat} {mw mv : Nat → Nat} {f : Evm → Option Int64} (hw : mw m ≠ 15 ∧ mw m ≠ 16) (h : ∀ vr rv rl dv, (∀ d, d < D → VR (rv d) (rl d) (dv d)) → ∀ S : Pl, S.1 < 600 → ∃ S', rst vr rv rl (mw m) (mv m) m S = some (m + 1, S') ∧ Top S S' (f (vr, dv))) : RMf D mw mv m (m + 1) 1 f := by
  refine ⟨⟨by omega, fun vr rv rl dv hd S hS => ?_⟩, fun j h1 h2 h3 => ?_⟩
  · obtain ⟨S', q1, q2⟩ := h vr rv rl dv hd S (by omega)
    exact ⟨1, S', by omega, Rn_1 (show m < m + 1 by omega) q1, q2⟩
  · have : j = m := by omega
    subst this
    rcases h3 with q | q
    · exact absurd q hw.1
    · exact absurd q hw.2
theorem RM_num {D m : Nat} {mw mv : Nat → Nat} (h : mw m = 0) : RMf D mw mv m (m + 1) 1 (fun _ => some (Int32.ofNat (mv m)).toInt64) := RM_1 (by rw [h]; decide) (fun vr rv rl dv hd S hS => by
  unfold rst; rw [h, if_pos rfl, if_pos hS]; exact ⟨_, rfl, pus_top (Or.inl ⟨rfl, rfl⟩)⟩)
theorem RM_var {D m v : Nat} {mw mv : Nat → Nat} (h : mw m = 1) (hv : mv m = v) (hb : v < 11) : RMf D mw mv m (m + 1) 1 (fun e => some (e.1 v)) := RM_1 (by rw [h]; decide) (fun vr rv rl dv hd S hS => by
  unfold rst; rw [h, if_neg (by decide), if_pos rfl, hv, if_pos ⟨hS, hb⟩]; exact ⟨_, rfl, pus_top (Or.inl ⟨rfl, rfl⟩)⟩)
theorem RM_def {D m d : Nat} {mw mv : Nat → Nat} (h : mw m = 2) (hv : mv m = d) (hb : d < D) (hD : D ≤ 10) : RMf D mw mv m (m + 1) 1 (fun e => e.2 d) := RM_1 (by rw [h]; decide) (fun vr rv rl dv hd S hS => by
  unfold rst; rw [h, if_neg (by decide), if_neg (by decide), if_pos rfl, hv, if_pos ⟨hS, by omega, (hd d hb).elim (fun q => Or.inl q.1) (fun q => Or.inr q.1)⟩]; exact ⟨_, rfl, pus_top (hd d hb)⟩)
theorem RM_2 {D m0 m1 m2 N1 N2 N : Nat} {mw mv : Nat → Nat} {f1 f2 f : Evm → Option Int64} (h1 : RMf D mw mv m0 m1 N1 f1) (h2 : RMf D mw mv m1 m2 N2 f2) (hN1 : N1 ≤ N) (hN2 : N2 + 1 ≤ N) (hN : 2 ≤ N) (hop : 3 ≤ mw m2 ∧ mw m2 ≤ 14) (hv : ∀ e a b l l', VR a l (f1 e) → VR b l' (f2 e) → VR (rcv (mw m2) (mv m2) a b (lkO l l')).1 (rcv (mw m2) (mv m2) a b (lkO l l')).2 (f e)) : RMf D mw mv m0 (m2 + 1) N f := by
  have q1 := h1.1.1
  have q2 := h2.1.1
  refine ⟨⟨by omega, fun vr rv rl dv hd S hS => ?_⟩, fun j j1 j2 j3 => ?_⟩
  · obtain ⟨t1, S1, a1, a2, a3⟩ := h1.1.2 vr rv rl dv hd S (by omega)
    obtain ⟨t2, S2, b1, b2, b3⟩ := h2.1.2 vr rv rl dv hd S1 (by rw [a3.1]; omega)
    obtain ⟨c1, c2, c3⟩ := a3
    obtain ⟨d1, d2, d3⟩ := b3
    have e : S2.1 - 2 = S.1 := by omega
    rw [c1] at d3
    have hq := d2 S.1 (by omega)
    have hv' := hv (vr, dv) _ _ _ _ c3 d3
    rw [← hq.1, ← hq.2] at hv'
    have hst : rst vr rv rl (mw m2) (mv m2) m2 S2 = some (m2 + 1, pus (S.1, S2.2) (rcv (mw m2) (mv m2) (S2.2.1 S.1) (S2.2.1 (S.1 + 1)) (lkO (S2.2.2 S.1) (S2.2.2 (S.1 + 1)))).1 (rcv (mw m2) (mv m2) (S2.2.1 S.1) (S2.2.1 (S.1 + 1)) (lkO (S2.2.2 S.1) (S2.2.2 (S.1 + 1)))).2) := by
      unfold rst
      rw [if_neg (by omega), if_neg (by omega), if_neg (by omega), if_neg (by omega), if_neg (by omega), if_pos (by omega), e]
    refine ⟨t1 + (t2 + 1), _, by omega, Rn_add t1 (t2 + 1) (Rn_mono (by omega) t1 a2) (Rn_add t2 1 (Rn_mono (by omega) t2 b2) (Rn_1 (show m2 < m2 + 1 by omega) hst)), ?_⟩
    obtain ⟨g1, g2, g3⟩ := pus_top (S := (S.1, S2.2)) hv'
    refine ⟨g1, fun i hi => ?_, g3⟩
    have r1 := g2 i hi
    have r2 := d2 i (by omega)
    have r3 := c2 i hi
    exact ⟨r1.1.trans (r2.1.trans r3.1), r1.2.trans (r2.2.trans r3.2)⟩
  · by_cases c : j < m1
    · have := h1.2 j j1 c j3; omega
    · by_cases d : j < m2
      · have := h2.2 j (by omega) d j3; omega
      · have : j = m2 := by omega
        subst this; omega
theorem rcv_ar {o : Nat} (ho : 3 ≤ o ∧ o ≤ 9) {A B : Option Int64} {a b : Int64} {l l' : Int32} (h1 : VR a l A) (h2 : VR b l' B) (v : Nat) : VR (rcv o v a b (lkO l l')).1 (rcv o v a b (lkO l l')).2 (sop o A B) := by
  unfold rcv
  rw [if_neg (by omega), if_neg (by omega), if_neg (by omega)]
  rcases h1 with ⟨rfl, rfl⟩ | ⟨rfl, rfl⟩ <;> rcases h2 with ⟨rfl, rfl⟩ | ⟨rfl, rfl⟩
  · by_cases c : (o = 6 ∨ o = 7) ∧ b = 0
    · rw [if_pos (Or.inr c)]
      right
      refine ⟨rfl, ?_⟩
      show (if (o = 6 ∨ o = 7) ∧ b = 0 then none else some (arF o a b)) = none
      rw [if_pos c]
    · rw [if_neg (fun q => q.elim (fun w => w rfl) c)]
      left
      refine ⟨rfl, ?_⟩
      show (if (o = 6 ∨ o = 7) ∧ b = 0 then none else some (arF o a b)) = some _
      rw [if_neg c]
  · rw [if_pos (Or.inl (by show ¬ (1 : Int32) = 0; decide))]; exact Or.inr ⟨rfl, rfl⟩
  · rw [if_pos (Or.inl (by show ¬ (1 : Int32) = 0; decide))]; exact Or.inr ⟨rfl, rfl⟩
  · rw [if_pos (Or.inl (by show ¬ (1 : Int32) = 0; decide))]; exact Or.inr ⟨rfl, rfl⟩
theorem rcv_cm {o : Nat} (ho : 10 ≤ o ∧ o ≤ 12) (nt : Bool) {v : Nat} (hv : decide (v = 1) = nt) {A B : Option Int64} {a b : Int64} {l l' : Int32} (h1 : VR a l A) (h2 : VR b l' B) : VR (rcv o v a b (lkO l l')).1 (rcv o v a b (lkO l l')).2 (scm o nt A B) := by
  unfold rcv
  rw [if_neg (by omega), if_neg (by omega), if_pos ho.1, hv]
  left
  refine ⟨rfl, ?_⟩
  rcases h1 with ⟨rfl, rfl⟩ | ⟨rfl, rfl⟩ <;> rcases h2 with ⟨rfl, rfl⟩ | ⟨rfl, rfl⟩
  · show some (if cmF o a b = nt then (0 : Int64) else 1) = some (if cmF o a b = nt then 0 else 1); rfl
  · rfl
  · rfl
  · rfl
theorem rcv_ao {o : Nat} (ho : o = 13 ∨ o = 14) {A B : Option Int64} (hA : A = some 0 ∨ A = some 1) (hB : B = some 0 ∨ B = some 1) {a b : Int64} {l l' : Int32} (h1 : VR a l A) (h2 : VR b l' B) (v : Nat) : VR (rcv o v a b (lkO l l')).1 (rcv o v a b (lkO l l')).2 (sao o A B) := by
  have hl : A = some a := by
    rcases h1 with h | ⟨_, h⟩
    · exact h.2
    · rcases hA with q | q <;> (rw [q] at h; exact absurd h (by simp))
  have hl' : B = some b := by
    rcases h2 with h | ⟨_, h⟩
    · exact h.2
    · rcases hB with q | q <;> (rw [q] at h; exact absurd h (by simp))
  subst hl hl'
  rcases ho with rfl | rfl
  · exact Or.inl ⟨rfl, rfl⟩
  · exact Or.inl ⟨rfl, rfl⟩
theorem RM_if {D r0 r1 r2 r3 N0 N1 N2 N : Nat} {mw mv : Nat → Nat} {g f1 f2 : Evm → Option Int64} (h0 : RMf D mw mv r0 r1 N0 g) (h1 : RMf D mw mv (r1 + 1) r2 N1 f1) (h2 : RMf D mw mv (r2 + 1) r3 N2 f2) (hg : IsT g) (hN0 : N0 ≤ N) (hN1 : N1 ≤ N) (hN2 : N2 ≤ N) (hu : mw r1 = 15 ∧ mv r1 = r2 + 1) (hgo : mw r2 = 16 ∧ mv r2 = r3) : RMf D mw mv r0 r3 N (fun e => sif (g e) (f1 e) (f2 e)) := by
  have q0 := h0.1.1
  have q1 := h1.1.1
  have q2 := h2.1.1
  refine ⟨⟨by omega, fun vr rv rl dv hd S hS => ?_⟩, fun j j1 j2 j3 => ?_⟩
  · obtain ⟨t0, S0, a1, a2, a3⟩ := h0.1.2 vr rv rl dv hd S (by omega)
    obtain ⟨c1, c2, c3⟩ := a3
    have hst : rst vr rv rl (mw r1) (mv r1) r1 S0 = some (if S0.2.1 S.1 = 1 then r1 + 1 else r2 + 1, (S.1, S0.2)) := by
      unfold rst
      rw [hu.1, hu.2, if_neg (by decide), if_neg (by decide), if_neg (by decide), if_pos rfl, if_pos (by omega), show S0.1 - 1 = S.1 by omega]
    have low : ∀ {S' : Pl} {o : Option Int64}, Top (S.1, S0.2) S' o → Top S S' o := fun h => ⟨h.1, fun i hi => ⟨(h.2.1 i hi).1.trans (c2 i hi).1, (h.2.1 i hi).2.trans (c2 i hi).2⟩, h.2.2⟩
    have hg' := hg (vr, dv)
    have hv : g (vr, dv) = some (S0.2.1 S.1) := by
      rcases c3 with ⟨_, u2⟩ | ⟨_, u2⟩
      · exact u2
      · rcases hg' with w | w <;> (rw [w] at u2; exact absurd u2 (by simp))
    by_cases c : S0.2.1 S.1 = 1
    · rw [if_pos c] at hst
      obtain ⟨t1, S1, b1, b2, b3⟩ := h1.1.2 vr rv rl dv hd (S.1, S0.2) (by show S.1 + N1 ≤ 600; omega)
      have hg2 : rst vr rv rl (mw r2) (mv r2) r2 S1 = some (r3, S1) := by
        unfold rst
        rw [hgo.1, hgo.2, if_neg (by decide), if_neg (by decide), if_neg (by decide), if_neg (by decide), if_pos rfl]
      refine ⟨t0 + (1 + (t1 + 1)), S1, by omega, Rn_add t0 _ (Rn_mono (by omega) t0 a2) (Rn_add 1 _ (Rn_1 (show r1 < r3 by omega) hst) (Rn_add t1 1 (Rn_mono (by omega) t1 b2) (Rn_1 (show r2 < r3 by omega) hg2))), ?_⟩
      show Top S S1 (if g (vr, dv) = some 1 then f1 (vr, dv) else f2 (vr, dv))
      rw [hv, c, if_pos rfl]; exact low b3
    · rw [if_neg c] at hst
      obtain ⟨t2, S2, b1, b2, b3⟩ := h2.1.2 vr rv rl dv hd (S.1, S0.2) (by show S.1 + N2 ≤ 600; omega)
      refine ⟨t0 + (1 + t2), S2, by omega, Rn_add t0 _ (Rn_mono (by omega) t0 a2) (Rn_add 1 _ (Rn_1 (show r1 < r3 by omega) hst) b2), ?_⟩
      show Top S S2 (if g (vr, dv) = some 1 then f1 (vr, dv) else f2 (vr, dv))
      rw [hv, if_neg (fun q => c (Option.some.inj q))]; exact low b3
  · by_cases c : j < r1
    · have := h0.2 j j1 c j3; omega
    · by_cases d : j = r1
      · subst d; rw [hu.2]; omega
      · by_cases e : j < r2
        · have := h1.2 j (by omega) e j3; omega
        · by_cases k : j = r2
          · subst k; rw [hgo.2]; omega
          · have := h2.2 j (by omega) j2 j3; omega
