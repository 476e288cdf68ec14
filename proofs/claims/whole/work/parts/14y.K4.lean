def s76 (R : Gs) (l : Nat) (v : Int32) : Gs := sai R 76 (up (ai R 76) l v)
theorem s76_fr (R : Gs) (l : Nat) (v : Int32) : Fr [76] R (s76 R l v) := (Fr.refl _ R).sai (k := 76) (by decide) _
section
variable {b : Nat} {σ0 : Hs} {m : Nat} {ρ : Hs} {tx : Nat → Int} {n K : Nat} {G H R : Gs} {a mk L kd l : Nat}
theorem r_s76 (hl : l < 40) (v : Int32) : stI 0 (eR m ρ R) (m + 38) (Int32.ofNat l) v = some (eR m ρ (s76 R l v)) := by
  rw [Rst_76, ix_n (by omega), decide_eq_true hl, if_pos rfl, c32 (by omega)]; rfl
theorem q_time (h : Lq b tx n K G H R a mk L) (hl : l < 40) : ∃ G' R' v w, fX4_readTime_0 (st4 b σ0 G H) (b + 6) = some (v, st4 b σ0 G' H) ∧ fX12_readTime_0 (eR m ρ R) m (Int32.ofNat l) = some (eR m ρ (s76 R' l w)) ∧ Fr QLk R R' ∧ ((∃ a', Lq b tx n K G' H R' a' mk L ∧ a < a' ∧ v = w ∧ 0 ≤ v.toInt ∧ v.toInt ≤ 86399) ∨ ∃ a' kd, Dq b tx n K G' H R' a' kd L ∧ a ≤ a') := by
  have h0 : fr H 0 = some b := h.2.1.1
  unfold fX4_readTime_0 fX12_readTime_0
  rw [z4_C s4_A4, Option.bind_some, RisC, Option.bind_some]
  rcases q_num (σ0 := σ0) (m := m) (ρ := ρ) h 0 23 with ⟨G1, R1, a1, v1, x1, y1, l1, f1, g1, lo1, hi1⟩ | ⟨G1, R1, a1, k1, v1, x1, y1, d1, f1, g1⟩
  rotate_left
  · obtain ⟨⟨w2, p2⟩, q2⟩ := qd_num (σ0 := σ0) (m := m) (ρ := ρ) d1 0 59
    obtain ⟨p1, q1⟩ := qd_sign (σ0 := σ0) (m := m) (ρ := ρ) d1 58
    rw [x1, y1]
    simp only [Option.bind_some, p_g0 h0, z5_C s4_A5, z4_C s4_A4, p1, p2, q1, q2, RisC, RN_76, r_s76 hl]
    exact ⟨G1, R1, _, _, rfl, rfl, f1, Or.inr ⟨a1, k1, d1, g1⟩⟩
  rw [x1, y1]
  simp only [Option.bind_some, p_g0 h0, z5_C s4_A5, z4_C s4_A4, RisC]
  rcases q_sign (σ0 := σ0) (m := m) (ρ := ρ) l1 58 with ⟨G2, R2, a2, x2, y2, l2, f2, g2⟩ | ⟨G2, R2, a2, k2, x2, y2, d2, f2, g2⟩
  rotate_left
  · obtain ⟨⟨w2, p2⟩, q2⟩ := qd_num (σ0 := σ0) (m := m) (ρ := ρ) d2 0 59
    obtain ⟨p1, q1⟩ := qd_sign (σ0 := σ0) (m := m) (ρ := ρ) d2 58
    rw [x2, y2]
    simp only [Option.bind_some, p_g0 h0, z5_C s4_A5, z4_C s4_A4, p1, p2, q1, q2, RisC, RN_76, r_s76 hl]
    exact ⟨G2, R2, _, _, rfl, rfl, f1.trans f2, Or.inr ⟨a2, k2, d2, by omega⟩⟩
  rw [x2, y2]
  simp only [Option.bind_some, p_g0 h0, z5_C s4_A5, z4_C s4_A4, RisC]
  rcases q_num (σ0 := σ0) (m := m) (ρ := ρ) l2 0 59 with ⟨G3, R3, a3, v3, x3, y3, l3, f3, g3, lo3, hi3⟩ | ⟨G3, R3, a3, k3, v3, x3, y3, d3, f3, g3⟩
  rotate_left
  · obtain ⟨⟨w2, p2⟩, q2⟩ := qd_num (σ0 := σ0) (m := m) (ρ := ρ) d3 0 59
    obtain ⟨p1, q1⟩ := qd_sign (σ0 := σ0) (m := m) (ρ := ρ) d3 58
    rw [x3, y3]
    simp only [Option.bind_some, p_g0 h0, z5_C s4_A5, z4_C s4_A4, p1, p2, q1, q2, RisC, RN_76, r_s76 hl]
    exact ⟨G3, R3, _, _, rfl, rfl, f1.trans (f2.trans f3), Or.inr ⟨a3, k3, d3, by omega⟩⟩
  rw [x3, y3]
  simp only [Option.bind_some, p_g0 h0, z5_C s4_A5, z4_C s4_A4, RisC]
  rcases q_sign (σ0 := σ0) (m := m) (ρ := ρ) l3 58 with ⟨G4, R4, a4, x4, y4, l4, f4, g4⟩ | ⟨G4, R4, a4, k4, x4, y4, d4, f4, g4⟩
  rotate_left
  · obtain ⟨⟨w2, p2⟩, q2⟩ := qd_num (σ0 := σ0) (m := m) (ρ := ρ) d4 0 59
    rw [x4, y4]
    simp only [Option.bind_some, p_g0 h0, z5_C s4_A5, z4_C s4_A4, p2, q2, RisC, RN_76, r_s76 hl]
    exact ⟨G4, R4, _, _, rfl, rfl, f1.trans (f2.trans (f3.trans f4)), Or.inr ⟨a4, k4, d4, by omega⟩⟩
  rw [x4, y4]
  simp only [Option.bind_some, p_g0 h0, z5_C s4_A5, z4_C s4_A4, RisC, RN_76]
  rcases q_num (σ0 := σ0) (m := m) (ρ := ρ) l4 0 59 with ⟨G5, R5, a5, v5, x5, y5, l5, f5, g5, lo5, hi5⟩ | ⟨G5, R5, a5, k5, v5, x5, y5, d5, f5, g5⟩
  rotate_left
  · rw [x5, y5]
    simp only [Option.bind_some, r_s76 hl]
    exact ⟨G5, R5, _, _, rfl, rfl, f1.trans (f2.trans (f3.trans (f4.trans f5))), Or.inr ⟨a5, k5, d5, by omega⟩⟩
  rw [x5, y5]
  simp only [Option.bind_some, r_s76 hl]
  have e23 : (23 : Int32).toInt = 23 := rfl
  have e59 : (59 : Int32).toInt = 59 := rfl
  have e00 : (0 : Int32).toInt = 0 := rfl
  rw [e00] at lo1 lo3 lo5
  rw [e23] at hi1
  rw [e59] at hi3 hi5
  have q1 : (3600 * v1).toInt = 3600 * v1.toInt := mul32 (by show _ ≤ (3600 : Int) * _ ∧ (3600 : Int) * _ < _; omega)
  have q3 : (60 * v3).toInt = 60 * v3.toInt := mul32 (by show _ ≤ (60 : Int) * _ ∧ (60 : Int) * _ < _; omega)
  have q4 : (3600 * v1 + 60 * v3).toInt = 3600 * v1.toInt + 60 * v3.toInt := by rw [add32 (by rw [q1, q3]; omega), q1, q3]
  have q5 : (3600 * v1 + 60 * v3 + v5).toInt = 3600 * v1.toInt + 60 * v3.toInt + v5.toInt := by rw [add32 (by rw [q4]; omega), q4]
  exact ⟨G5, R5, _, _, rfl, rfl, f1.trans (f2.trans (f3.trans (f4.trans f5))), Or.inl ⟨a5, l5, by omega, rfl, by rw [q5]; omega, by rw [q5]; omega⟩⟩
end
