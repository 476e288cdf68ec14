def DLk : List Nat := [21, 22, 24, 25, 26, 27, 28, 29, 31, 32, 37, 38, 40]
def DfE (ops opd : Nat → Int32) (mw mv : Nat → Nat) (cs ce rs : Nat → Nat) (fs : Nat → Evm → Option Int64) (d : Nat) : Prop := (XM d ops opd (cs d) (ce d) 37 (fs d) ∧ (ops (ce d) = 3 ∧ opd (ce d) = Int32.ofNat d) ∧ cs (d + 1) = ce d + 1) ∧ RMf d mw mv (rs d) (rs (d + 1)) 37 (fs d)
def BlO (tx : Nat → Int) (n D : Nat) (nt : Nat → Nat) (v : Int32) : Prop := (v = -1 ∧ ∀ d, d < D → vA tx n (nt d) ≠ vW false 19) ∨ ∃ e, e < D ∧ v = Int32.ofNat e ∧ ∀ d, d < D → (vA tx n (nt d) = vW false 19 ↔ d = e)
def DfO (b : Nat) (tx : Nat → Int) (n K D : Nat) (nt cs ce rs : Nat → Nat) (fs : Nat → Evm → Option Int64) (G H R : Gs) (a mk rm : Nat) : Prop := Lv b tx n K D nt G H R a mk rm ∧ NF tx n K D nt ∧ (cs 0 = 0 ∧ rs 0 = 0 ∧ cs D = mk ∧ rs D = rm) ∧ (∀ d, d < D → DfE (ai H 2) (ai H 3) (mW R) (mV R) cs ce rs fs d) ∧ (∀ d, d ≤ D → ai R 37 d = Int32.ofNat (rs d)) ∧ BlO tx n D nt (fi H 6)
theorem DfE_cg {ops opd ops' opd' : Nat → Int32} {mw mv mw' mv' cs ce rs cs' ce' rs' : Nat → Nat} {fs fs' : Nat → Evm → Option Int64} {d : Nat} (h : DfE ops opd mw mv cs ce rs fs d) (h1 : ∀ j, j < cs (d + 1) → ops' j = ops j ∧ opd' j = opd j) (h2 : ∀ j, j < rs (d + 1) → mw' j = mw j ∧ mv' j = mv j) (e1 : cs' d = cs d) (e2 : ce' d = ce d) (e3 : rs' d = rs d) (e4 : fs' d = fs d) (e5 : cs' (d + 1) = cs (d + 1)) (e6 : rs' (d + 1) = rs (d + 1)) : DfE ops' opd' mw' mv' cs' ce' rs' fs' d := by
  obtain ⟨⟨a1, ⟨a2, a3⟩, a4⟩, a5⟩ := h
  unfold DfE
  rw [e1, e2, e3, e4, e5, e6]
  refine ⟨⟨XM_cg a1 (fun j q1 q2 => h1 j (by omega)), ⟨?_, ?_⟩, a4⟩, RM_cg a5 (fun j q1 q2 => h2 j q2)⟩
  · rw [(h1 _ (by omega)).1]; exact a2
  · rw [(h1 _ (by omega)).2]; exact a3
theorem Df_mono {ops opd : Nat → Int32} {mw mv cs ce rs : Nat → Nat} {fs : Nat → Evm → Option Int64} {D : Nat} (h : ∀ d, d < D → DfE ops opd mw mv cs ce rs fs d) : ∀ k d, d + k ≤ D → cs d ≤ cs (d + k) ∧ rs d ≤ rs (d + k) := by
  intro k; induction k with
  | zero => intro d _; exact ⟨Nat.le_refl _, Nat.le_refl _⟩
  | succ k ih =>
    intro d hd
    obtain ⟨i1, i2⟩ := ih d (by omega)
    obtain ⟨⟨a1, -, a4⟩, a5⟩ := h (d + k) (by omega)
    have := a1.1
    have := a5.1.1
    rw [show d + (k + 1) = d + k + 1 by omega]
    omega
section
variable {b : Nat} {σ0 : Hs} {m : Nat} {ρ : Hs} {tx : Nat → Int} {n K D : Nat} {nt cs ce rs : Nat → Nat} {fs : Nat → Evm → Option Int64} {G H R : Gs} {a mk rm : Nat}
def DRs (b : Nat) (σ0 : Hs) (m : Nat) (ρ : Hs) (tx : Nat → Int) (n K D : Nat) (H R : Gs) (a : Nat) (X Y : Option Hs) : Prop :=
  (∃ G' H' R' nt' cs' ce' rs' fs' a' mk' rm', X = some (st6 b σ0 G' H') ∧ Y = some (eR m ρ R') ∧ DfO b tx n K (D + 1) nt' cs' ce' rs' fs' G' H' R' a' mk' rm' ∧ a < a' ∧ Fr [2, 3, 4, 5, 6, 7] H H' ∧ Fr DLk R R') ∨
  (∃ G' H' R' a' kd, X = some (st6 b σ0 G' H') ∧ Y = some (eR m ρ R') ∧ DdG G' false tx n K a' kd ∧ fr H' 0 = some b ∧ (fi R' 21 = Int32.ofNat kd ∧ fi R' 22 = Int32.ofNat (pA tx n a')) ∧ Fr DLk R R')
theorem l_def (h : DfO b tx n K D nt cs ce rs fs G H R a mk rm) : DRs b σ0 m ρ tx n K D H R a (fX6_readDef_0 (st6 b σ0 G H) (b + 6)) (fX12_readDef_0 (eR m ρ R) m) := by
  obtain ⟨hL, hN, ⟨z1, z2, z3, z4⟩, hE, h37, hB⟩ := h
  have ob : ∀ X : Option Hs, (X.bind fun s => some s) = X := fun X => by cases X <;> rfl
  have hKK := hL.K500
  have h0 : fr H 0 = some b := hL.2.1.1
  have hD := hL.2.1.2.2.2.2.2.1
  have h5 : fi H 5 = Int32.ofNat D := hL.2.1.2.2.2.2.1
  have h7 : ln H 7 = 10 := hL.2.1.2.1.2.2
  have hR := hL.2.2.1.1
  have h31 : fi R 31 = Int32.ofNat D := hL.2.2.1.2.2.1
  have hv := hL.2.2.1.2.2.2
  have h8 : fi G 8 = Int32.ofNat a := hL.1.2.2.1
  by_cases cN : Nam tx n a
  rotate_left
  · obtain ⟨G2, R2, kd, n1, n2, n3, n4⟩ := l_ref2 (σ0 := σ0) (m := m) (ρ := ρ) hL
    refine Or.inr ⟨G2, H, R2, a, kd, ?_, (r_defN hR cN).trans n2, n3.1, h0, ⟨n3.2.2.1, n3.2.2.2.1⟩, n4.mono (by decide)⟩
    unfold fX6_readDef_0
    simp only [z6_C st_A6, c_isName hL.1 h0, Option.bind_some, if_pos (cb_f cN), c_g0 h0, z5_C st_A5, n1]
  have ck := cN.1
  have k4 : ¬ kA false tx n a = 4 := by rw [ck]; decide
  obtain ⟨r, r1, r2, -⟩ := rb_named (m := m) (ρ := ρ) hR h31 hD hN hv
  obtain ⟨d1, d2, d3⟩ := r_defY (m := m) (ρ := ρ) hR cN h31 hD hN hv r1
  have refu : ∀ f : Nat, 0 < f ∧ f < 7 → ∃ G', fX5_refuse_0 (st6 b σ0 G H) b (Int32.ofNat f) = some (st6 b σ0 G' H) ∧ DdG G' false tx n K a f := by
    intro f hf
    obtain ⟨G', kd, q1, q2, q3, q4⟩ := l_ref (σ0 := σ0) hL hf
    rw [if_neg k4] at q2
    subst q2
    exact ⟨G', q1, q3⟩
  by_cases c10 : D = 10
  · obtain ⟨G', q1, q2⟩ := refu 3 (by decide)
    refine Or.inr ⟨G', H, _, a, 3, ?_, d3 c10, q2, h0, ⟨rfl, rfl⟩, (rf_fr R 3).mono (by decide)⟩
    unfold fX6_readDef_0
    simp only [z6_C st_A6, c_isName hL.1 h0, Option.bind_some, if_neg (cbn cN), z6_g5 st_A6, h5, if_neg (show ¬ Int32.ofNat D < 10 by rw [c10]; decide), c_g0 h0, z5_C st_A5]
    rw [show (3 : Int32) = Int32.ofNat 3 from rfl, q1, Option.bind_some]
  have hD9 : D < 10 := by omega
  have e10 : Int32.ofNat D < 10 := (lt_n (b := 10) (by omega) (by decide)).mpr hD9
  obtain ⟨p, p1, p2⟩ := c_place (σ0 := σ0) hL.1 hL.2.1 hN ck
  have hpr : p = r := Nm_un p2 (r2 ck)
  subst hpr
  by_cases cA : p = -1
  rotate_left
  · -- named again
    obtain ⟨G', q1, q2⟩ := refu 4 (by decide)
    have hp : ¬ p < 0 := by
      rcases p2 with ⟨q, _⟩ | ⟨e, e1, e2, _⟩
      · exact absurd q cA
      · rw [e2, lt32, n32 (by omega), i0]; omega
    refine Or.inr ⟨G', H, _, a, 4, ?_, d2 hD9 hp, q2, h0, ⟨rfl, rfl⟩, (rf_fr R 4).mono (by decide)⟩
    unfold fX6_readDef_0
    simp only [z6_C st_A6, c_isName hL.1 h0, Option.bind_some, if_neg (cbn cN), z6_g5 st_A6, h5, if_pos e10, p1, if_neg cA, c_g0 h0, z5_C st_A5]
    rw [show (4 : Int32) = Int32.ofNat 4 from rfl, q1, Option.bind_some]
  have hnew : ∀ d, d < D → vA tx n (nt d) ≠ vA tx n a := by
    rcases p2 with ⟨_, q⟩ | ⟨e, e1, e2, _⟩
    · exact q
    · rw [e2] at cA; exact absurd cA (by rw [eq32, n32 (by omega), show (-1 : Int32).toInt = -1 from rfl]; omega)
  rw [d1 hD9 (by rw [cA]; decide)]
  have hX : ∃ H1, fX6_readDef_0 (st6 b σ0 G H) (b + 6) = fX6_readDef_93 (st6 b σ0 G H1) (b + 6) ∧ Fr [6, 7] H H1 ∧ (ai H1 7 = up (ai H 7) D (Int32.ofNat a) ∧ ln H1 7 = ln H 7) ∧ BlO tx n (D + 1) (up nt D a) (fi H1 6) := by
    have A1 : A6 (b + 6) (sai H 7 (up (ai H 7) D (Int32.ofNat a))) (st6 b σ0 G (sai H 7 (up (ai H 7) D (Int32.ofNat a)))) := st_A6
    have hw19 : fX5_isWord_0 (st6 b σ0 G (sai H 7 (up (ai H 7) D (Int32.ofNat a)))) b 19 = some (b2i (kA false tx n a = 1 ∧ vA tx n a = vW false 19)) := x5_isWord st_A5 hL.1 (w := 19) (by decide)
    have uo : ∀ d, d < D → up nt D a d = nt d := fun d hd => up_ne _ _ _ _ (by omega)
    have un : up nt D a D = a := up_same _ _ _
    by_cases cB : vA tx n a = vW false 19
    · refine ⟨sfi (sai H 7 (up (ai H 7) D (Int32.ofNat a))) 6 (Int32.ofNat D), ?_, ((Fr.refl _ H).sai (k := 7) (by decide) _).sfi (k := 6) (by decide) _, ⟨rfl, rfl⟩, Or.inr ⟨D, by omega, rfl, fun d hd => ?_⟩⟩
      · unfold fX6_readDef_0
        simp only [z6_C st_A6, c_isName hL.1 h0, Option.bind_some, if_neg (cbn cN), z6_g5 st_A6, z6_g7 st_A6, h5, if_pos e10, p1, if_pos cA, c_g0 h0, z5_g8 st_A5, h8, z6_s7 st_A6, h7, ix_n (show D < 2147483648 by omega), decide_eq_true hD9, if_true, c32 (show D < 2147483648 by omega), st_w6]
        simp only [Option.bind_some, c_g0 (H := sai H 7 (up (ai H 7) D (Int32.ofNat a))) h0, z5_C st_A5, hw19, b2i_0, if_neg (show ¬ ¬ (kA false tx n a = 1 ∧ vA tx n a = vW false 19) from fun q => q ⟨ck, cB⟩), z6_g5 st_A6, z6_p6 st_A6, q_fi_sfi, q_fl_sfi, q_fr_sfi, q_ai_sfi, q_al_sfi, q_ar_sfi, q_ln_sfi, q_fi_sfl, q_fl_sfl, q_fr_sfl, q_ai_sfl, q_al_sfl, q_ar_sfl, q_ln_sfl, q_fi_sfr, q_fl_sfr, q_fr_sfr, q_ai_sfr, q_al_sfr, q_ar_sfr, q_ln_sfr, q_fi_sai, q_fl_sai, q_fr_sai, q_ai_sai, q_al_sai, q_ar_sai, q_ln_sai, q_fi_sal, q_fl_sal, q_fr_sal, q_ai_sal, q_al_sal, q_ar_sal, q_ln_sal, q_fi_sar, q_fl_sar, q_fr_sar, q_ai_sar, q_al_sar, q_ar_sar, q_ln_sar, reduceIte, Nat.reduceEqDiff, h5, st_w6]
      · by_cases c : d = D
        · rw [c, un]; exact ⟨fun _ => rfl, fun _ => cB⟩
        · rw [uo d (by omega), ← cB]; exact ⟨fun q => absurd q (hnew d (by omega)), fun q => absurd q c⟩
    · refine ⟨sai H 7 (up (ai H 7) D (Int32.ofNat a)), ?_, (Fr.refl _ H).sai (k := 7) (by decide) _, ⟨rfl, rfl⟩, ?_⟩
      · unfold fX6_readDef_0
        simp only [z6_C st_A6, c_isName hL.1 h0, Option.bind_some, if_neg (cbn cN), z6_g5 st_A6, z6_g7 st_A6, h5, if_pos e10, p1, if_pos cA, c_g0 h0, z5_g8 st_A5, h8, z6_s7 st_A6, h7, ix_n (show D < 2147483648 by omega), decide_eq_true hD9, if_true, c32 (show D < 2147483648 by omega), st_w6]
        simp only [Option.bind_some, c_g0 (H := sai H 7 (up (ai H 7) D (Int32.ofNat a))) h0, z5_C st_A5, hw19, b2i_0, if_pos (show ¬ (kA false tx n a = 1 ∧ vA tx n a = vW false 19) from fun q => cB q.2)]
      · show BlO tx n (D + 1) (up nt D a) (fi H 6)
        rcases hB with ⟨b1, b2⟩ | ⟨e, b1, b2, b3⟩
        · refine Or.inl ⟨b1, fun d hd => ?_⟩
          by_cases c : d = D
          · rw [c, un]; exact cB
          · rw [uo d (by omega)]; exact b2 d (by omega)
        · refine Or.inr ⟨e, by omega, b2, fun d hd => ?_⟩
          by_cases c : d = D
          · rw [c, un]; exact ⟨fun q => absurd q cB, fun q => by omega⟩
          · rw [uo d (by omega)]; exact b3 d (by omega)
  obtain ⟨H1, x1, f1, ⟨f2, f2'⟩, f3⟩ := hX
  rw [x1]
  have hL1 : Lv b tx n K D nt G H1 R a mk rm := by
    obtain ⟨q1, ⟨w1, ⟨w2, w3, w4⟩, w5, w6, w7, w8, w9⟩, q3⟩ := hL
    refine ⟨q1, ⟨(f1.r 0 (by decide)).trans w1, ⟨(f1.ln 2 (by decide)).trans w2, (f1.ln 3 (by decide)).trans w3, ?_⟩, (f1.i 4 (by decide)).trans w5, w6, (f1.i 5 (by decide)).trans w7, w8, fun d hd => ?_⟩, q3⟩
    · rw [f2']; exact w4
    · rw [f2, up_ne _ _ _ _ (by omega)]; exact w9 d hd
  rcases l_d93 (σ0 := σ0) (m := m) (ρ := ρ) hN hL1 cN hD9 with ⟨G', H', R', a', ce', rm', f, w, y1, y2, y3, ⟨y4, y5⟩, y6, y7, y8, y9, y10, y11, y12⟩ | ⟨G', H', R', a', kd, y1, y2, y3, y4, y5, y6⟩
  rotate_left
  · exact Or.inr ⟨G', H', R', a', kd, y1, y2, y3, y4, y5, y6.mono (by decide)⟩
  obtain ⟨q1, ⟨w1, ⟨w2, w3, w4⟩, w5, w6, w7, w8, w9⟩, ⟨t1, t2, t3, t4⟩, t5, t6⟩ := y3
  have hF := dfR_fr R' D rm' w
  have s1 : ∀ j, j < mk → ai (sfi H' 5 (Int32.ofNat (D + 1))) 2 j = ai H 2 j ∧ ai (sfi H' 5 (Int32.ofNat (D + 1))) 3 j = ai H 3 j := fun j hj => ⟨(y7 j hj).1.trans (congrFun (f1.ai 2 (by decide)) j), (y7 j hj).2.trans (congrFun (f1.ai 3 (by decide)) j)⟩
  have s2 : ∀ j, j < rm → mW (dfR R' D rm' w) j = mW R j ∧ mV (dfR R' D rm' w) j = mV R j := fun j hj => mWV_cg (y8 j hj)
  have hm := Df_mono hE
  refine Or.inl ⟨G', sfi H' 5 (Int32.ofNat (D + 1)), dfR R' D rm' w, up nt D a, up cs (D + 1) (ce' + 1), up ce D ce', up rs (D + 1) rm', up fs D f, a', ce' + 1, rm', y1, y2, ⟨⟨q1, ⟨w1, ⟨w2, w3, w4⟩, w5, w6, rfl, by omega, fun d hd => ?_⟩, ⟨hF.RB (by decide) t1, (hF.i 32 (by decide)).trans t2, rfl, fun d hd => ?_⟩, t5, t6⟩, fun d hd => ?_, ⟨?_, ?_, up_same _ _ _, up_same _ _ _⟩, fun d hd => ?_, fun d hd => ?_, ?_⟩, y6, ?_, ?_⟩
  · show ai H' 7 d = _
    rw [y4.ai 7 (by decide), f2]
    by_cases c : d = D
    · rw [c, up_same, up_same]
    · rw [up_ne _ _ _ _ c, up_ne _ _ _ _ c]; exact hL.2.1.2.2.2.2.2.2 d (by omega)
  · show (up (al R' 40) D w d).toInt = _
    by_cases c : d = D
    · rw [c, up_same, up_same]; exact y12
    · rw [up_ne _ _ _ _ c, up_ne _ _ _ _ c]; exact t4 d (by omega)
  · by_cases c : d = D
    · rw [c, up_same]; exact ⟨⟨hKK.2.1, ck, cN.2.1⟩, cN.2.2.1⟩
    · rw [up_ne _ _ _ _ c]; exact hN d (by omega)
  · rw [up_ne _ _ _ _ (by omega)]; exact z1
  · rw [up_ne _ _ _ _ (by omega)]; exact z2
  · by_cases c : d = D
    · subst c
      unfold DfE
      rw [up_same, up_same, up_same, up_same, up_ne cs _ _ _ (by omega), up_ne rs _ _ _ (by omega), z3, z4]
      exact ⟨⟨y9, y10, rfl⟩, y11⟩
    · have m1 := hm (D - (d + 1)) (d + 1) (by omega)
      rw [show d + 1 + (D - (d + 1)) = D by omega, z3, z4] at m1
      exact DfE_cg (hE d (by omega)) (fun j hj => s1 j (by omega)) (fun j hj => s2 j (by omega)) (up_ne _ _ _ _ (by omega)) (up_ne _ _ _ _ c) (up_ne _ _ _ _ (by omega)) (up_ne _ _ _ _ c) (up_ne _ _ _ _ (by omega)) (up_ne _ _ _ _ (by omega))
  · show up (ai R' 37) (D + 1) (Int32.ofNat rm') d = _
    by_cases c : d = D + 1
    · rw [c, up_same, up_same]
    · rw [up_ne _ _ _ _ c, up_ne _ _ _ _ c, y5.ai 37 (by decide)]; exact h37 d (by omega)
  · show BlO tx n (D + 1) (up nt D a) (fi H' 6)
    rw [y4.i 6 (by decide)]; exact f3
  · exact (f1.mono (by decide)).trans ((y4.mono (by decide)).trans ((Fr.refl _ H').sfi (k := 5) (by decide) _))
  · exact (y5.mono (by decide)).trans (hF.mono (by decide))
theorem DfO.lv (h : DfO b tx n K D nt cs ce rs fs G H R a mk rm) : Lv b tx n K D nt G H R a mk rm := h.1
def TRs (b : Nat) (σ0 : Hs) (m : Nat) (ρ : Hs) (tx : Nat → Int) (n K : Nat) (H R : Gs) (fm : Int32) (X : Option Hs) (Y : Option (Int32 × Hs)) : Prop :=
  (∃ G' H' R' D nt cs ce rs fs a mk rm, X = some (st6 b σ0 G' H') ∧ Y = fX12_rules_117 (eR m ρ R') m fm ∧ DfO b tx n K D nt cs ce rs fs G' H' R' a mk rm ∧ Fr [2, 3, 4, 5, 6, 7] H H' ∧ Fr DLk R R') ∨
  (∃ G' H' R' a kd, X = some (st6 b σ0 G' H') ∧ Y = fX12_rules_117 (eR m ρ R') m fm ∧ DdG G' false tx n K a kd ∧ (fi R' 21 = Int32.ofNat kd ∧ fi R' 22 = Int32.ofNat (pA tx n a)) ∧ Fr DLk R R')
theorem l_defs (h : DfO b tx n K 0 nt cs ce rs fs G H R a mk rm) (fm : Int32) : TRs b σ0 m ρ tx n K H R fm (fX6_readDefs_0 (st6 b σ0 G H) (b + 6)) (fX12_rules_96 (eR m ρ R) m fm) := by
  have hKK := h.1.K500
  unfold fX6_readDefs_0 fX6_readDefs_2 fX12_rules_96
  refine lp_2 (fun t s1 s2 => (∃ G' H' R' D nt cs ce rs fs a mk rm, t = K + 1 - a ∧ s1 = (st6 b σ0 G' H', b + 6, Int32.ofNat D) ∧ s2 = (eR m ρ R', m, fm) ∧ DfO b tx n K D nt cs ce rs fs G' H' R' a mk rm ∧ Fr [2, 3, 4, 5, 6, 7] H H' ∧ Fr DLk R R') ∨ (∃ G' H' R' a kd i, s1 = (st6 b σ0 G' H', b + 6, i) ∧ s2 = (eR m ρ R', m, fm) ∧ DdG G' false tx n K a kd ∧ fr H' 0 = some b ∧ (fi R' 21 = Int32.ofNat kd ∧ fi R' 22 = Int32.ofNat (pA tx n a)) ∧ Fr DLk R R')) (TRs b σ0 m ρ tx n K H R fm) ?_ fu (K + 1 - a) _ _ (Or.inl ⟨G, H, R, 0, nt, cs, ce, rs, fs, a, mk, rm, rfl, rfl, rfl, h, Fr.refl _ _, Fr.refl _ _⟩) (by unfold fu; omega)
  rintro K1 K2 t s1 s2 (⟨G1, H1, R1, D1, nt1, cs1, ce1, rs1, fs1, a1, mk1, rm1, rfl, rfl, rfl, hd, hh, hf⟩ | ⟨G1, H1, R1, a1, kd, i, rfl, rfl, hd, hh, ⟨k1, k2⟩, hf⟩)
  rotate_left
  · right
    refine Or.inr ⟨G1, H1, R1, a1, kd, ?_, ?_, hd, ⟨k1, k2⟩, hf⟩
    · simp only [fbX6_readDefs_2, c_g0 hh, z5_C st_A5, x5d_isFine st_A5 hd, Option.bind_some, if_true]
      split <;> rfl
    · simp only [fbX12_rules_96, RG_21, k1, Option.bind_some, if_neg (bdn hd.2.2.2.2.1).2]
  have hD := hd.1.2.1.2.2.2.2.2.1
  have haK := hd.1.K500
  have h0 : fr H1 0 = some b := hd.1.2.1.1
  have c10 : ¬ (10 : Int32) < Int32.ofNat D1 := fun q => absurd ((lt_n (a := 10) (by decide) (by omega)).mp q) (by omega)
  have e1 : (fi R1 24 = 0) = (kA false tx n a1 = 0) := by rw [hd.1.2.2.1.1.2.1.1]; exact kq (tK_b false tx n (tS tx n a1)) (show 0 ≤ 4 by decide)
  have hX : ∀ k : Hs → Nat → Int32 → Option Hs, fbX6_readDefs_2 k (st6 b σ0 G1 H1) (b + 6) (Int32.ofNat D1) = if kA false tx n a1 = 0 then some (st6 b σ0 G1 H1) else (fX6_readDef_0 (st6 b σ0 G1 H1) (b + 6)).bind fun s => k s (b + 6) (Int32.ofNat (D1 + 1)) := by
    intro k
    simp only [fbX6_readDefs_2, if_neg c10, c_g0 h0, z5_C st_A5, z6_C st_A6, x5_isFine st_A5 hd.1.1, x5_isEnd st_A5 hd.1.1, Option.bind_some, if_neg (show ¬ (1 : Int32) = 0 by decide), b2i_0, suc32]
    by_cases c : kA false tx n a1 = 0
    · rw [if_neg (fun q => q c), if_pos c]
    · rw [if_pos c, if_neg c]
  have hY : ∀ k : Hs → Nat → Int32 → Option (Int32 × Hs), fbX12_rules_96 k (eR m ρ R1) m fm = if kA false tx n a1 = 0 then fX12_rules_117 (eR m ρ R1) m fm else (fX12_readDef_0 (eR m ρ R1) m).bind fun s => k s m fm := by
    intro k
    simp only [fbX12_rules_96, RG_21, RG_24, hd.1.2.2.1.1.2.2, e1, Option.bind_some, if_true, RisC]
  by_cases c : kA false tx n a1 = 0
  · right
    refine Or.inl ⟨G1, H1, R1, D1, nt1, cs1, ce1, rs1, fs1, a1, mk1, rm1, ?_, ?_, hd, hh, hf⟩
    · exact (hX _).trans (if_pos c)
    · exact (hY _).trans (if_pos c)
  · left
    have ha := kA_lt hd.1.1.1 hd.1.1.2.1 c
    rcases l_def (σ0 := σ0) (m := m) (ρ := ρ) hd with ⟨G', H', R', nt', cs', ce', rs', fs', a', mk', rm', x1, x2, x3, x4, x5, x6⟩ | ⟨G', H', R', a', kd, x1, x2, x3, x4, x5, x6⟩
    · have := x3.1.K500
      refine ⟨K + 1 - a', _, _, by omega, Or.inl ⟨G', H', R', D1 + 1, nt', cs', ce', rs', fs', a', mk', rm', rfl, rfl, rfl, x3, hh.trans x5, hf.trans x6⟩, ?_, ?_⟩
      · exact (hX _).trans (by rw [if_neg c, x1, Option.bind_some])
      · exact (hY _).trans (by rw [if_neg c, x2, Option.bind_some])
    · refine ⟨0, _, _, by omega, Or.inr ⟨G', H', R', a', kd, Int32.ofNat (D1 + 1), rfl, rfl, x3, x4, x5, hf.trans x6⟩, ?_, ?_⟩
      · exact (hX _).trans (by rw [if_neg c, x1, Option.bind_some])
      · exact (hY _).trans (by rw [if_neg c, x2, Option.bind_some])
end
