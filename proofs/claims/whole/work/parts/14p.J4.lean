theorem RM_lt {D : Nat} {rs : Nat → Nat} {mw mv : Nat → Nat} {fs : Nat → Evm → Option Int64} (h : ∀ d, d < D → RMf d mw mv (rs d) (rs (d + 1)) 37 (fs d)) : ∀ k d, d + k ≤ D → rs d ≤ rs (d + k) := by
  intro k; induction k with
  | zero => intro d _; exact Nat.le_refl _
  | succ k ih => intro d hd; have := ih d (by omega); have := (h (d + k) (by omega)).1.1; rw [show d + (k + 1) = d + k + 1 by omega]; omega
theorem TOa_keep {a34 a35 a36 b34 b35 b36 : Nat → Int32} {t T D : Nat} {rs : Nat → Nat} {fs : Nat → Evm → Option Int64} (h : TOa a34 a35 a36 t D rs fs) (ht : t < T) (h34 : b34 t = a34 t) (h35 : ∀ q, q < 11 * T → b35 q = a35 q) (h36 : ∀ q, q < 1100 * T → b36 q = a36 q) : TOa b34 b35 b36 t D rs fs := by
  obtain ⟨⟨a1, a2⟩, ⟨a3, a4⟩, a5, a6⟩ := h
  have hm := RM_lt a5
  refine ⟨⟨h34.trans a1, a2⟩, ⟨a3, a4⟩, fun d hd => RM_cg (a5 d hd) (fun j j1 j2 => ?_), fun d hd => (h35 _ (by omega)).trans (a6 d hd)⟩
  have q := hm (D - (d + 1)) (d + 1) (by omega)
  rw [show d + 1 + (D - (d + 1)) = D by omega] at q
  rw [h36 (1100 * t + j) (by omega)]
  exact ⟨rfl, rfl⟩
theorem bpo_cg {a39 b39 : Nat → Int64} {t : Nat} : ∀ D, (∀ d, d < D → b39 (10 * t + d) = a39 (10 * t + d)) → bpo b39 t D = bpo a39 t D := by
  intro D; induction D with
  | zero => intro _; rfl
  | succ D ih => intro h; unfold bpo; rw [h D (by omega), ih (fun d hd => h d (by omega))]
theorem bpo_none {a39 : Nat → Int64} {t : Nat} : ∀ D, (∀ d, d < D → ¬ a39 (10 * t + d) = 2328139461) → bpo a39 t D = none := by
  intro D; induction D with
  | zero => intro _; rfl
  | succ D ih => intro h; unfold bpo; rw [if_neg (h D (by omega))]; exact ih (fun d hd => h d (by omega))
theorem bpo_some {a39 : Nat → Int64} {t e : Nat} : ∀ D, e < D → (∀ d, d < D → (a39 (10 * t + d) = 2328139461 ↔ d = e)) → bpo a39 t D = some e := by
  intro D; induction D with
  | zero => intro h; omega
  | succ D ih =>
    intro he h
    unfold bpo
    by_cases c : D = e
    · rw [if_pos ((h D (by omega)).mpr c), c]
    · rw [if_neg (fun q => c ((h D (by omega)).mp q))]; exact ih (by omega) (fun d hd => h d (by omega))
section
variable {b : Nat} {tx : Nat → Int} {n K D : Nat} {nt cs ce rs : Nat → Nat} {fs : Nat → Evm → Option Int64} {G H R R' : Gs} {a mk rm T : Nat} {fm : Int32}
theorem TOa_new (h : DfO b tx n K D nt cs ce rs fs G H R a mk rm) (hl : laid R T D rm fm R') : TOa (ai R' 34) (ai R' 35) (ai R' 36) T D rs fs := by
  obtain ⟨hL, hN, ⟨z1, z2, z3, z4⟩, hE, h37, hB⟩ := h
  obtain ⟨f0, f1, f2, f3, ⟨f4, -⟩, ⟨f5, -⟩, -⟩ := hl
  have hD := hL.2.1.2.2.2.2.2.1
  have hK := hL.K500
  have hr := hL.2.2.2.2
  have hm := RM_lt (fun d hd => (hE d hd).2)
  refine ⟨⟨by rw [f3, up_same], hD⟩, ⟨z2, by omega⟩, fun d hd => RM_cg (hE d hd).2 (fun j j1 j2 => ?_), fun d hd => (f4 d hd).trans (h37 d hd)⟩
  have q := hm (D - (d + 1)) (d + 1) (by omega)
  rw [show d + 1 + (D - (d + 1)) = D by omega] at q
  show wOf (ai R' 36 (1100 * T + j)) = wOf (ai R 38 j) ∧ vOf (ai R' 36 (1100 * T + j)) = vOf (ai R 38 j)
  rw [f5 j (by omega)]
  exact ⟨rfl, rfl⟩
theorem RO_new (h : DfO b tx n K D nt cs ce rs fs G H R a mk rm) (hl : laid R T D rm fm R') (hH : HL H) : RO H R' T := by
  have hT := TOa_new h hl
  obtain ⟨hL, hN, ⟨z1, z2, z3, z4⟩, hE, h37, hB⟩ := h
  have hD := hL.2.1.2.2.2.2.2.1
  have hK := hL.K500
  obtain ⟨w1, ⟨w2, w3, w4⟩, w5, w6, w7, w8, w9⟩ := hL.2.1
  have hv := hL.2.2.1.2.2.2
  have hq : ∀ d, d < D → (al R' 39 (10 * T + d) = 2328139461 ↔ vA tx n (nt d) = vW false 19) := by
    intro d hd
    rw [hl.2.2.2.2.2.2.1 d hd, eq64, hv d hd]
    exact Iff.rfl
  refine ⟨D, cs, ce, rs, fs, ⟨⟨w7, w8⟩, ⟨K, hK.1, w2, w3, by rw [z3]; omega⟩, by rw [z3]; exact w5, z1, fun d hd => (hE d hd).1⟩, hH, hT, ?_⟩
  rcases hB with ⟨b1, b2⟩ | ⟨e, b1, b2, b3⟩
  · exact Or.inl ⟨b1, bpo_none D (fun d hd q => b2 d hd ((hq d hd).mp q))⟩
  · exact Or.inr ⟨e, b1, b2, bpo_some D b1 (fun d hd => (hq d hd).trans (b3 d hd))⟩
theorem RO_keep {t : Nat} (hl : laid R T D rm fm R') (ht : t < T) {H : Gs} (h : RO H R t) : RO H R' t := by
  obtain ⟨f0, f1, f2, f3, ⟨-, f4⟩, ⟨-, f5⟩, ⟨-, f6⟩⟩ := hl
  obtain ⟨D', cs', ce', rs', fs', h1, h2, h3, h4⟩ := h
  have hD' := h3.1.2
  have hb : bpo (al R' 39) t D' = bpo (al R 39) t D' := bpo_cg D' (fun d hd => f6 _ (by omega))
  refine ⟨D', cs', ce', rs', fs', h1, h2, TOa_keep h3 ht (by rw [f3, up_ne _ _ _ _ (by omega)]) f4 f5, by rw [hb]; exact h4⟩
theorem TxA_new (h : DfO b tx n K D nt cs ce rs fs G H R a mk rm) (hl : laid R T D rm fm R') (ho : TxA T (ai R 34) (ai R 35) (ai R 36)) : TxA (T + 1) (ai R' 34) (ai R' 35) (ai R' 36) := by
  intro t ht
  by_cases c : t = T
  · subst c; exact ⟨D, rs, fs, TOa_new h hl⟩
  · obtain ⟨D', rs', fs', q⟩ := ho t (by omega)
    obtain ⟨f0, f1, f2, f3, ⟨-, f4⟩, ⟨-, f5⟩, -⟩ := hl
    exact ⟨D', rs', fs', TOa_keep q (by omega) (by rw [f3, up_ne _ _ _ _ c]) f4 f5⟩
theorem RW_text (hW : RW R) {L : List Nat} (hF : Fr L R R') (hL : ∀ k, k ∈ [2, 3, 5, 7, 8, 11, 12, 13, 14, 15, 47, 48, 49, 51, 52, 53, 54, 55, 56, 57, 58, 59, 80, 81, 84, 85, 86, 87, 90, 91] → k ∉ L) (h17 : fi R' 17 = 0) (hT : RTx R') : RW R' := by
  obtain ⟨w1, w2, w3, w4, w5, w6, w7, w8, w9, w10, w11, w12, w13⟩ := hW
  have q : nL R' = nL R ∧ nC R' = nC R ∧ nS R' = nS R ∧ nV R' = nV R ∧ nN R' = nN R ∧ nX R' = nX R := by
    unfold nL nC nS nV nN nX
    rw [hF.i 5 (hL _ (by decide)), hF.i 11 (hL _ (by decide)), hF.i 12 (hL _ (by decide)), hF.i 47 (hL _ (by decide)), hF.i 48 (hL _ (by decide)), hF.i 56 (hL _ (by decide))]
    exact ⟨rfl, rfl, rfl, rfl, rfl, rfl⟩
  have key : RLp R' (nL R') ∧ RN R' (nN R') ∧ RSt R' (nS R') ∧ RCl R' ∧ RSv R' ∧ RNx R' ∧ RSx R' ∧ (RT R' ∧ RTs R') ∧ RLd R' ∧ RAn R' ∧ RFw R' := by
    unfold RLp RN RSt RCl RSv RNx RSx RT RTs RLd RAn RFw at *
    rw [q.1, q.2.1, q.2.2.1, q.2.2.2.1, q.2.2.2.2.1, q.2.2.2.2.2]
    rw [hF.i 5 (hL _ (by decide)), hF.i 11 (hL _ (by decide)), hF.i 12 (hL _ (by decide)), hF.i 47 (hL _ (by decide)), hF.i 48 (hL _ (by decide)), hF.i 49 (hL _ (by decide)), hF.i 56 (hL _ (by decide)), hF.i 57 (hL _ (by decide)), hF.i 87 (hL _ (by decide)), hF.i 90 (hL _ (by decide)), hF.i 91 (hL _ (by decide))]
    rw [hF.ai 2 (hL _ (by decide)), hF.ai 3 (hL _ (by decide)), hF.ai 7 (hL _ (by decide)), hF.ai 8 (hL _ (by decide)), hF.ai 13 (hL _ (by decide)), hF.ai 14 (hL _ (by decide)), hF.ai 15 (hL _ (by decide)), hF.ai 51 (hL _ (by decide)), hF.ai 52 (hL _ (by decide)), hF.ai 53 (hL _ (by decide)), hF.ai 54 (hL _ (by decide)), hF.ai 55 (hL _ (by decide)), hF.ai 58 (hL _ (by decide)), hF.ai 59 (hL _ (by decide)), hF.ai 80 (hL _ (by decide)), hF.ai 81 (hL _ (by decide)), hF.ai 84 (hL _ (by decide)), hF.ai 85 (hL _ (by decide)), hF.ai 86 (hL _ (by decide))]
    exact ⟨w1, w2, w3, w4, w5, w6, w8, w10, w11, w12, w13⟩
  obtain ⟨k1, k2, k3, k4, k5, k6, k7, k8, k9, k10, k11⟩ := key
  exact ⟨k1, k2, k3, k4, k5, k6, hT, k7, ⟨0, by decide, h17⟩, k8, k9, k10, k11⟩
end
