def tv (o : Option Int64) : Bool := match o with
  | some v => decide (v ≠ 0)
  | none => false
theorem tv_VR {v : Int64} {l : Int32} {o : Option Int64} (h : VR v l o) : tv o = decide (l = 0 ∧ v ≠ 0) := by
  rcases h with ⟨rfl, rfl⟩ | ⟨rfl, rfl⟩
  · show decide (v ≠ 0) = decide ((0 : Int32) = 0 ∧ v ≠ 0)
    by_cases c : v = 0 <;> simp [c]
  · show false = decide ((1 : Int32) = 0 ∧ v ≠ 0)
    simp
def CO (G : Gs) (D : Nat) (cs ce : Nat → Nat) (fs : Nat → Evm → Option Int64) : Prop := (fi G 5 = Int32.ofNat D ∧ D ≤ 10) ∧ (∃ K, K ≤ 500 ∧ ln G 2 = K + 1 ∧ ln G 3 = K + 1 ∧ cs D ≤ K + 1) ∧ fi G 4 = Int32.ofNat (cs D) ∧ cs 0 = 0 ∧ ∀ d, d < D → XM d (ai G 2) (ai G 3) (cs d) (ce d) 37 (fs d) ∧ (ai G 2 (ce d) = 3 ∧ ai G 3 (ce d) = Int32.ofNat d) ∧ cs (d + 1) = ce d + 1
def HL (G : Gs) : Prop := HV G ∧ ln G 9 = 64 ∧ ln G 10 = 64
def KH : List Nat := [9, 10, 11, 12, 13]
section
variable {a : Nat} {σ0 : Hs} {G : Gs}
theorem CO.fr {G' : Gs} {D : Nat} {cs ce : Nat → Nat} {fs : Nat → Evm → Option Int64} {L : List Nat} (h : CO G D cs ce fs) (hF : Fr L G G') (hL : ∀ k, k ∈ [2, 3, 4, 5] → k ∉ L) : CO G' D cs ce fs := by
  unfold CO at *
  rw [hF.i 5 (hL _ (by decide)), hF.i 4 (hL _ (by decide)), hF.ln 2 (hL _ (by decide)), hF.ln 3 (hL _ (by decide)), hF.ai 2 (hL _ (by decide)), hF.ai 3 (hL _ (by decide))]
  exact h
theorem CO.mono {D : Nat} {cs ce : Nat → Nat} {fs : Nat → Evm → Option Int64} (h : CO G D cs ce fs) : ∀ k d, d + k ≤ D → cs d ≤ cs (d + k) := by
  intro k; induction k with
  | zero => intro d _; exact Nat.le_refl _
  | succ k ih =>
    intro d hd
    have i1 := ih d (by omega)
    obtain ⟨a1, -, a4⟩ := h.2.2.2.2 (d + k) (by omega)
    have := a1.1
    rw [show d + (k + 1) = d + k + 1 by omega]
    omega
abbrev Fho : (Hs × Nat × Int32 → Option (Int32 × Hs)) → Hs × Nat × Int32 → Option (Int32 × Hs) := fun (k : Hs × Nat × Int32 → Option (Int32 × Hs)) (z : Hs × Nat × Int32) => fbX6_holds_7 (fun σ xv0 xv1 => k (σ, xv0, xv1)) z.1 z.2.1 z.2.2
theorem c_step {M j : Nat} (hM : M ≤ 501) (h4 : fi G 4 = Int32.ofNat M) (h2 : M ≤ ln G 2) (h3 : M ≤ ln G 3) (hj : j < M) {s : Hs} (hp : fX6_perform_0 (e6 a σ0 G) a (ai G 2 j) (ai G 3 j) = some s) (N : Nat) : lp Fho (N + 1) (e6 a σ0 G, a, Int32.ofNat j) = lp Fho N (s, a, Int32.ofNat (j + 1)) := by
  rw [lp_s]
  show fbX6_holds_7 _ (e6 a σ0 G) a (Int32.ofNat j) = _
  unfold fbX6_holds_7
  simp only [y6_g4, h4, Option.bind_some]
  rw [if_neg (show ¬ Int32.ofNat M ≤ Int32.ofNat j from fun q => absurd ((le_n (by omega) (by omega)).mp q) (by omega))]
  simp only [y6_C, y6_g0, y6_p0, y6_g1, y6_p1, y6_g2, y6_l2, y6_s2, y6_n2, y6_g3, y6_l3, y6_s3, y6_n3, y6_g4, y6_p4, y6_g5, y6_p5, y6_g6, y6_p6, y6_g7, y6_l7, y6_s7, y6_n7, y6_g8, y6_l8, y6_s8, y6_n8, y6_g9, y6_l9, y6_s9, y6_n9, y6_g10, y6_l10, y6_s10, y6_n10, y6_g11, y6_p11, y6_g12, y6_l12, y6_s12, y6_n12, y6_g13, y6_l13, y6_s13, y6_n13, Option.bind_some, ix_n (show j < 2147483648 by omega), decide_eq_true (show j < ln G 2 by omega), decide_eq_true (show j < ln G 3 by omega), if_true, c32 (show j < 2147483648 by omega), hp, suc32]
theorem c_seg {M : Nat} (hM : M ≤ 501) : ∀ k j N G S, HC G S → HV G → fi G 4 = Int32.ofNat M → M ≤ ln G 2 → M ≤ ln G 3 → j + k ≤ M → (∀ q, j ≤ q → q < j + k → OkO (ai G 2 q) (ai G 3 q)) → ∃ G', lp Fho (N + k) (e6 a σ0 G, a, Int32.ofNat j) = lp Fho N (e6 a σ0 G', a, Int32.ofNat (j + k)) ∧ Fr [9, 10, 11] G G' ∧ HC G' (xrn (al G 8) (al G 12) (ai G 13) (ai G 2) (ai G 3) k j S) := by
  intro k; induction k with
  | zero => intro j N G S h hV h4 h2 h3 hj ho; exact ⟨G, rfl, Fr.refl _ _, h⟩
  | succ k ih =>
    intro j N G S h hV h4 h2 h3 hj ho
    obtain ⟨G1, q1, q2, q3⟩ := c_perf (a := a) (σ0 := σ0) h hV (ho j (Nat.le_refl _) (by omega))
    have e1 : HV G1 := by
      obtain ⟨⟨v1, v2, v3⟩, v4⟩ := hV
      exact ⟨⟨(q2.ln 8 (by decide)).trans v1, (q2.ln 12 (by decide)).trans v2, (q2.ln 13 (by decide)).trans v3⟩, by rw [q2.ai 13 (by decide)]; exact v4⟩
    obtain ⟨G', r1, r2, r3⟩ := ih (j + 1) N G1 _ q3 e1 ((q2.i 4 (by decide)).trans h4) (by rw [q2.ln 2 (by decide)]; exact h2) (by rw [q2.ln 3 (by decide)]; exact h3) (by omega) (by rw [q2.ai 2 (by decide), q2.ai 3 (by decide)]; exact fun q a1 a2 => ho q (by omega) (by omega))
    refine ⟨G', ?_, q2.trans r2, ?_⟩
    · rw [show N + (k + 1) = (N + k) + 1 by omega, c_step hM h4 h2 h3 (by omega) q1 (N + k), r1, show j + 1 + k = j + (k + 1) by omega]
    · rw [q2.al 8 (by decide), q2.al 12 (by decide), q2.ai 13 (by decide), q2.ai 2 (by decide), q2.ai 3 (by decide)] at r3
      exact r3
theorem c_keep {S : Pl} (h : HC G S) (hV : HV G) (h1 : S.1 = 1) {d : Nat} (hd : d < 10) : ∃ G', fX6_perform_0 (e6 a σ0 G) a 3 (Int32.ofNat d) = some (e6 a σ0 G') ∧ Fr KH G G' ∧ (HV G' ∧ HC G' (0, S.2)) ∧ al G' 12 = up (al G 12) d (S.2.1 0) ∧ ai G' 13 = up (ai G 13) d (S.2.2 0) := by
  obtain ⟨⟨e1, e2, e3⟩, ⟨e4, e4'⟩, e5, e6'⟩ := h
  obtain ⟨⟨v1, v2, v3⟩, v4⟩ := hV
  have h01 := e6' 0 (by omega)
  rw [h1] at e1
  refine ⟨sai (sal (sfi G 11 0) 12 (up (al G 12) d (S.2.1 0))) 13 (up (ai G 13) d (S.2.2 0)), ?_, (((Fr.refl _ G).sfi (k := 11) (by decide) _).sal (k := 12) (by decide) _).sai (k := 13) (by decide) _, ⟨⟨⟨v1, v2, v3⟩, fun j hj => ?_⟩, ⟨rfl, e2, e3⟩, ⟨e4, e4'⟩, Nat.zero_le _, fun i hi => absurd hi (Nat.not_lt_zero _)⟩, rfl, rfl⟩
  · unfold fX6_perform_0 fX6_keepValue_0
    simp only [if_neg (show ¬ (3 : Int32) = 0 by decide), if_neg (show ¬ (3 : Int32) = 1 by decide), if_neg (show ¬ (3 : Int32) = 2 by decide), if_true, y6_C, y6_g11, e1, Option.bind_some, if_neg (show ¬ Int32.ofNat 1 ≤ 0 by decide), show Int32.ofNat 1 - 1 = 0 from rfl]
    simp only [y6_C, y6_g0, y6_p0, y6_g1, y6_p1, y6_g2, y6_l2, y6_s2, y6_n2, y6_g3, y6_l3, y6_s3, y6_n3, y6_g4, y6_p4, y6_g5, y6_p5, y6_g6, y6_p6, y6_g7, y6_l7, y6_s7, y6_n7, y6_g8, y6_l8, y6_s8, y6_n8, y6_g9, y6_l9, y6_s9, y6_n9, y6_g10, y6_l10, y6_s10, y6_n10, y6_g11, y6_p11, y6_g12, y6_l12, y6_s12, y6_n12, y6_g13, y6_l13, y6_s13, y6_n13, q_fi_sfi, q_fl_sfi, q_fr_sfi, q_ai_sfi, q_al_sfi, q_ar_sfi, q_ln_sfi, q_fi_sfl, q_fl_sfl, q_fr_sfl, q_ai_sfl, q_al_sfl, q_ar_sfl, q_ln_sfl, q_fi_sfr, q_fl_sfr, q_fr_sfr, q_ai_sfr, q_al_sfr, q_ar_sfr, q_ln_sfr, q_fi_sai, q_fl_sai, q_fr_sai, q_ai_sai, q_al_sai, q_ar_sai, q_ln_sai, q_fi_sal, q_fl_sal, q_fr_sal, q_ai_sal, q_al_sal, q_ar_sal, q_ln_sal, q_fi_sar, q_fl_sar, q_fr_sar, q_ai_sar, q_al_sar, q_ar_sar, q_ln_sar, reduceIte, Nat.reduceEqDiff, w6, e2, e3, e4, e4', v2, v3, Option.bind_some, ix_n (show d < 2147483648 by omega), decide_eq_true hd, if_true, c32 (show d < 2147483648 by omega), show ix 0 64 = true from rfl, show (0 : Int32).toNatClampNeg = 0 from rfl, nar01 h01]
  · show up (ai G 13) d (S.2.2 0) j = 0 ∨ up (ai G 13) d (S.2.2 0) j = 1
    by_cases c : j = d
    · rw [c, up_same]; exact h01
    · rw [up_ne _ _ _ _ c]; exact v4 j hj
theorem c_defs {D : Nat} {cs ce : Nat → Nat} {fs : Nat → Evm → Option Int64} (hC : CO G D cs ce fs) (hV : HV G) {S0 : Pl} (h0 : HC G S0) (hz : S0.1 = 0) (N : Nat) : ∀ d, d ≤ D → ∃ G', lp Fho (N + cs d) (e6 a σ0 G, a, 0) = lp Fho N (e6 a σ0 G', a, Int32.ofNat (cs d)) ∧ Fr KH G G' ∧ HV G' ∧ (∃ S, HC G' S ∧ S.1 = 0) ∧ ∀ j, j < d → VR (al G' 12 j) (ai G' 13 j) (dvs fs (al G 8) d j) := by
  intro d; induction d generalizing N with
  | zero =>
    intro _
    rw [hC.2.2.2.1]
    exact ⟨G, rfl, Fr.refl _ _, hV, ⟨S0, h0, hz⟩, fun j hj => absurd hj (Nat.not_lt_zero _)⟩
  | succ d ih =>
    intro hd
    have hD := hC.1.2
    obtain ⟨K, k1, k2, k3, k4⟩ := hC.2.1
    have hmD := hC.mono (D - (d + 1)) (d + 1) (by omega)
    rw [show d + 1 + (D - (d + 1)) = D by omega] at hmD
    obtain ⟨x1, ⟨x2, x3⟩, x4⟩ := hC.2.2.2.2 d (by omega)
    have x0 := x1.1
    obtain ⟨G1, r1, r2, r3, ⟨S, r4, r4'⟩, r5⟩ := ih (N + (ce d - cs d) + 1) (by omega)
    have hC1 := hC.fr r2 (by decide)
    obtain ⟨G2, s1, s2, s3⟩ := c_seg (a := a) (σ0 := σ0) (M := cs D) (by omega) (ce d - cs d) (cs d) (N + 1) G1 S r4 r3 hC1.2.2.1 (by rw [r2.ln 2 (by decide), k2]; exact k4) (by rw [r2.ln 3 (by decide), k3]; exact k4) (by omega) (fun q q1 q2 => by rw [r2.ai 2 (by decide), r2.ai 3 (by decide)]; exact x1.2.2 q q1 (by omega))
    rw [show cs d + (ce d - cs d) = ce d by omega] at s1
    have hV2 : HV G2 := by
      obtain ⟨⟨v1, v2, v3⟩, v4⟩ := r3
      exact ⟨⟨(s2.ln 8 (by decide)).trans v1, (s2.ln 12 (by decide)).trans v2, (s2.ln 13 (by decide)).trans v3⟩, by rw [s2.ai 13 (by decide)]; exact v4⟩
    have ht := x1.2.1 (al G1 8) (al G1 12) (ai G1 13) (dvs fs (al G 8) d) r5 S (by omega)
    rw [r2.ai 2 (by decide), r2.ai 3 (by decide)] at s3
    generalize hS2 : xrn (al G1 8) (al G1 12) (ai G1 13) (ai G 2) (ai G 3) (ce d - cs d) (cs d) S = S2 at *
    obtain ⟨t1, -, t3⟩ := ht
    rw [r4'] at t1 t3
    obtain ⟨G3, u1, u2, ⟨u3, u4⟩, u5, u6⟩ := c_keep (a := a) (σ0 := σ0) s3 hV2 (by omega) (d := d) (by omega)
    have F12 : Fr KH G G2 := r2.trans (s2.mono (by decide))
    have hC2 := hC.fr F12 (by decide)
    have hst := c_step (a := a) (σ0 := σ0) (G := G2) (M := cs D) (j := ce d) (by omega) hC2.2.2.1 (by rw [F12.ln 2 (by decide), k2]; exact k4) (by rw [F12.ln 3 (by decide), k3]; exact k4) (by omega) (s := e6 a σ0 G3) (by rw [F12.ai 2 (by decide), F12.ai 3 (by decide), x2, x3]; exact u1) N
    refine ⟨G3, ?_, F12.trans u2, u3, ⟨_, u4, rfl⟩, fun j hj => ?_⟩
    · rw [x4, show N + (ce d + 1) = N + (ce d - cs d) + 1 + cs d by omega, r1, show N + (ce d - cs d) + 1 = N + 1 + (ce d - cs d) by omega, s1, hst]
    · show VR (al G3 12 j) (ai G3 13 j) (up (dvs fs (al G 8) d) d (fs d (al G 8, dvs fs (al G 8) d)) j)
      rw [u5, u6]
      by_cases c : j = d
      · rw [c, up_same, up_same, up_same]
        rw [r2.al 8 (by decide)] at t3; exact t3
      · rw [up_ne _ _ _ _ c, up_ne _ _ _ _ c, up_ne _ _ _ _ c, s2.al 12 (by decide), s2.ai 13 (by decide)]
        exact r5 j (by omega)
theorem c_holds {D e : Nat} {cs ce : Nat → Nat} {fs : Nat → Evm → Option Int64} (hC : CO G D cs ce fs) (hL : HL G) (he : e < D) (h6 : fi G 6 = Int32.ofNat e) : ∃ G', fX6_holds_0 (e6 a σ0 G) a = some (b2i (tv (dvs fs (al G 8) (e + 1) e) = true), e6 a σ0 G') ∧ Fr KH G G' ∧ HL G' := by
  obtain ⟨hV, l9, l10⟩ := hL
  have hD := hC.1.2
  obtain ⟨K, k1, k2, k3, k4⟩ := hC.2.1
  have F0 : Fr KH G (sfi G 11 0) := (Fr.refl _ G).sfi (k := 11) (by decide) _
  have hC0 := hC.fr F0 (by decide)
  have h0 : HC (sfi G 11 0) (0, al G 9, ai G 10) := ⟨⟨rfl, rfl, rfl⟩, ⟨l9, l10⟩, Nat.zero_le _, fun i hi => absurd hi (Nat.not_lt_zero _)⟩
  obtain ⟨G1, r1, r2, r3, ⟨S, r4, r4'⟩, r5⟩ := c_defs (a := a) (σ0 := σ0) hC0 hV h0 rfl (fu - cs D - 1 + 1) D (Nat.le_refl _)
  have hC1 := hC0.fr r2 (by decide)
  have h6' : fi G1 6 = Int32.ofNat e := (r2.i 6 (by decide)).trans h6
  obtain ⟨⟨v1, v2, v3⟩, v4⟩ := r3
  refine ⟨G1, ?_, F0.trans r2, ⟨⟨v1, v2, v3⟩, v4⟩, r4.2.1.1, r4.2.1.2⟩
  unfold fX6_holds_0 fX6_holds_7
  rw [y6_p11, Option.bind_some, show fu = (fu - cs D - 1 + 1) + cs D by unfold fu; omega]
  refine r1.trans ?_
  rw [lp_s]
  show fbX6_holds_7 _ (e6 a σ0 G1) a (Int32.ofNat (cs D)) = _
  unfold fbX6_holds_7
  have hvr := r5 e he
  have e1 : dvs fs (al (sfi G 11 0) 8) D e = dvs fs (al G 8) (e + 1) e := by
    have := dvs_old (fs := fs) (vr := al G 8) (D - (e + 1)) (e + 1) e (by omega)
    rw [show e + 1 + (D - (e + 1)) = D by omega] at this
    exact this
  rw [e1] at hvr
  rw [tv_VR hvr]
  simp only [y6_g4, hC1.2.2.1, Option.bind_some, Int32.le_refl, if_true, y6_g6, h6', if_neg (show ¬ Int32.ofNat e < 0 by rw [lt32, n32 (by omega), i0]; omega), if_neg (show ¬ (10 : Int32) ≤ Int32.ofNat e from fun q => absurd ((le_n (a := 10) (by decide) (by omega)).mp q) (by omega))]
  simp only [y6_C, y6_g0, y6_p0, y6_g1, y6_p1, y6_g2, y6_l2, y6_s2, y6_n2, y6_g3, y6_l3, y6_s3, y6_n3, y6_g4, y6_p4, y6_g5, y6_p5, y6_g6, y6_p6, y6_g7, y6_l7, y6_s7, y6_n7, y6_g8, y6_l8, y6_s8, y6_n8, y6_g9, y6_l9, y6_s9, y6_n9, y6_g10, y6_l10, y6_s10, y6_n10, y6_g11, y6_p11, y6_g12, y6_l12, y6_s12, y6_n12, y6_g13, y6_l13, y6_s13, y6_n13, h6', v2, v3, Option.bind_some, ix_n (show e < 2147483648 by omega), decide_eq_true (show e < 10 by omega), if_true, c32 (show e < 2147483648 by omega), bb_0, bb_1]
  by_cases c1 : ai G1 13 e = 0
  · rw [if_pos c1]
    by_cases c2 : al G1 12 e = 0
    · rw [if_pos c2]; unfold b2i; rw [if_neg (by simp [c2])]
    · rw [if_neg c2]; unfold b2i; rw [if_pos (by simp [c1, c2])]
  · rw [if_neg c1]; unfold b2i; rw [if_neg (by simp [c1])]
end
