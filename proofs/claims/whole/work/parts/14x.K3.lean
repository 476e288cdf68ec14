section
variable {b : Nat} {σ0 : Hs} {m : Nat} {ρ : Hs} {tx : Nat → Int} {n K : Nat} {G H R : Gs} {a mk L kd : Nat}
def Nq (b : Nat) (σ0 : Hs) (m : Nat) (ρ : Hs) (tx : Nat → Int) (n K : Nat) (H R : Gs) (a mk L : Nat) (lo hi : Int32) (X Y : Option (Int32 × Hs)) : Prop :=
  (∃ G' R' a' v, X = some (v, st4 b σ0 G' H) ∧ Y = some (v, eR m ρ R') ∧ Lq b tx n K G' H R' a' mk L ∧ Fr QLk R R' ∧ a < a' ∧ lo.toInt ≤ v.toInt ∧ v.toInt ≤ hi.toInt) ∨
  (∃ G' R' a' kd v, X = some (v, st4 b σ0 G' H) ∧ Y = some (0, eR m ρ R') ∧ Dq b tx n K G' H R' a' kd L ∧ Fr QLk R R' ∧ a ≤ a')
theorem q_num (h : Lq b tx n K G H R a mk L) (lo hi : Int32) : Nq b σ0 m ρ tx n K H R a mk L lo hi (fX4_takeNumber_0 (st4 b σ0 G H) (b + 6) lo hi) (fX12_readNumber_0 (eR m ρ R) m lo hi) := by
  have h0 : fr H 0 = some b := h.2.1.1
  have hR := h.2.2.1.1
  have c1 := hR.2.1.1
  have c2 := hR.2.1.2.1
  have e2 : (Int32.ofNat (tK true tx n (tS tx n a)) = 2) = (kA true tx n a = 2) := kq (tK_b true tx n (tS tx n a)) (show 2 ≤ 4 by decide)
  have d19 : ∀ {R1 : Gs} {k : Nat}, fi R1 21 = Int32.ofNat k → (0 < k ∧ k < 7) → fX12_readNumber_19 (eR m ρ R1) m lo hi = some (0, eR m ρ R1) := by
    intro R1 k q1 q2
    unfold fX12_readNumber_19
    simp only [RG_21, q1, Option.bind_some, if_neg (bdn q2).2, if_neg (bdn q2).1]
  unfold fX4_takeNumber_0 fX12_readNumber_0
  simp only [p_g0 h0, z5_C s4_A5, x5_code s4_A5 h.1.1 h.1.2.1 h.1.2.2.1, x5_isNumber s4_A5 h.1, x_isWithin, Option.bind_some, b2i_0, RG_21, RG_24, hR.2.2, if_true, c1, e2, RisC]
  by_cases k2 : kA true tx n a = 2
  · rw [if_neg (show ¬ ¬ kA true tx n a = 2 from fun q => q k2), if_pos k2]
    have ev : ai G 4 a = fi R 27 := by
      rw [eq32]
      have q1 := (h.1.1.2.2.2.2.2 a h.1.2.1).2.2.2.1 k2
      have q2 := hR.2.1.2.2.2.2.1 k2
      rw [q1, q2]
    rw [ev]
    unfold fX12_readNumber_19
    simp only [RG_21, RG_25, RG_27, hR.2.2, if_true, Option.bind_some, r_isIn, le64, up64, b2i_0, RisC, Int32.le_refl]
    by_cases k3 : lo.toInt ≤ (fi R 27).toInt ∧ (fi R 27).toInt ≤ hi.toInt
    · obtain ⟨G', R', f1, f2, f3, f4⟩ := q_adv (σ0 := σ0) (m := m) (ρ := ρ) h (by rw [k2]; decide)
      rw [if_neg (show ¬ ¬ (lo.toInt ≤ (fi R 27).toInt ∧ (fi R 27).toInt ≤ hi.toInt) from fun q => q k3), if_neg (show ¬ ¬ (lo.toInt ≤ (fi R 27).toInt ∧ (fi R 27).toInt ≤ hi.toInt) from fun q => q k3), f1, f2]
      exact Or.inl ⟨G', R', a + 1, fi R 27, rfl, rfl, f3, f4, by omega, k3.1, k3.2⟩
    · obtain ⟨G', kd, f1, f2, f3⟩ := q_ref (σ0 := σ0) h (f := 4) (by decide)
      rw [if_neg (show ¬ kA true tx n a = 4 by rw [k2]; decide)] at f2
      subst f2
      have q : fX12_fail_0 (eR m ρ R) m 4 (fi R 25) = some (eR m ρ (rfR R tx n a 4)) := by rw [rb_fail hR, c2]; rfl
      have q21 : fi (rfR R tx n a 4) 21 = Int32.ofNat 4 := rfl
      rw [if_pos (show ¬ (lo.toInt ≤ (fi R 27).toInt ∧ (fi R 27).toInt ≤ hi.toInt) from k3), if_pos (show ¬ (lo.toInt ≤ (fi R 27).toInt ∧ (fi R 27).toInt ≤ hi.toInt) from k3), q, Option.bind_some, RG_21, q21, Option.bind_some, if_neg (bdn (by decide)).1, show fX5_refuse_0 (st4 b σ0 G H) b 4 = _ from f1, Option.bind_some]
      exact Or.inr ⟨G', _, a, 4, fi R 27, rfl, rfl, f3, rf_frq R 4, Nat.le_refl _⟩
  · obtain ⟨G', R', kd, f1, f2, f3, f4⟩ := q_ref2 (σ0 := σ0) (m := m) (ρ := ρ) h
    rw [if_pos k2, if_neg k2, f1, f2, Option.bind_some, Option.bind_some, d19 f3.2.2.1.1 (Dq_kd f3)]
    exact Or.inr ⟨G', R', a, kd, _, rfl, rfl, f3, f4, Nat.le_refl _⟩
theorem qd_num (h : Dq b tx n K G H R a kd L) (lo hi : Int32) : (∃ v, fX4_takeNumber_0 (st4 b σ0 G H) (b + 6) lo hi = some (v, st4 b σ0 G H)) ∧ fX12_readNumber_0 (eR m ρ R) m lo hi = some (0, eR m ρ R) := by
  have h0 := Dq_h0 h
  have hk := Dq_kd h
  constructor
  · refine ⟨ai G 4 a, ?_⟩
    unfold fX4_takeNumber_0
    simp only [p_g0 h0, z5_C s4_A5, x5_code s4_A5 h.1.1 h.1.2.1 h.1.2.2.1, x5d_isNumber s4_A5 h.1, x5d_refuse s4_A5 h.1, Option.bind_some, if_true]
  · unfold fX12_readNumber_0 fX12_readNumber_19
    simp only [RG_21, h.2.2.1.1, Option.bind_some, if_neg (bdn hk).2, if_neg (bdn hk).1]
end
