section
variable {b : Nat} {σ0 : Hs} {m : Nat} {ρ : Hs} {tx : Nat → Int} {n K : Nat} {G H R : Gs} {a mk L kd l : Nat}
theorem q_tail (h : Lq b tx n K G H R a mk L) (hm : mk + 1 ≤ 2 * L) (hl : l < 40) (k v lev : Int32) : ∃ G' H' R', ((fX4_emit_0 (st4 b σ0 G H) (b + 6) k v lev).bind fun sq9 => (gN sq9 (b + 6) 6 0).bind fun vq10 => (isC sq9 vq10 7).bind fun iq11 => (fX5_takeSign_0 sq9 vq10 59).bind fun sq12 => some sq12) = some (st4 b σ0 G' H') ∧ ((fX12_readSign_0 (eR m ρ R) m 59).bind fun sq9 => (gN sq9 m 14 77).bind fun vq10 => (gI sq9 m 14 62).bind fun vq11 => (stI 0 sq9 vq10 (Int32.ofNat l) vq11).bind fun sq12 => some sq12) = some (eR m ρ (enR R' l)) ∧ Fr [1, 2, 3, 4] H H' ∧ Fr QLk R R' ∧ ((∃ a', Lq b tx n K G' H' R' a' (mk + 1) L ∧ a < a' ∧ H' = emQ H mk k v lev) ∨ ∃ a' kd, Dq b tx n K G' H' R' a' kd L ∧ a ≤ a') := by
  have h40 := h.2.2.2.2
  obtain ⟨e1, e2, e3⟩ := p_emit (G := G) (σ0 := σ0) h.2.1 (by omega) k v lev
  have h' : Lq b tx n K G (emQ H mk k v lev) R a (mk + 1) L := ⟨h.1, e2, h.2.2.1, hm, h40⟩
  have h0 : fr (emQ H mk k v lev) 0 = some b := e2.1
  rw [e1]
  simp only [Option.bind_some, p_g0 h0, z5_C s4_A5]
  rcases q_sign (σ0 := σ0) (m := m) (ρ := ρ) h' 59 with ⟨G2, R2, a2, x2, y2, l2, f2, g2⟩ | ⟨G2, R2, a2, k2, x2, y2, d2, f2, g2⟩
  · rw [x2, y2, Option.bind_some, Option.bind_some, r_s77 hl]
    exact ⟨G2, _, R2, rfl, rfl, e3, f2, Or.inl ⟨a2, l2, g2, rfl⟩⟩
  · rw [x2, y2, Option.bind_some, Option.bind_some, r_s77 hl]
    exact ⟨G2, _, R2, rfl, rfl, e3, f2, Or.inr ⟨a2, k2, d2, g2⟩⟩
theorem qd_tail (h : Dq b tx n K G H R a kd L) (hl : l < 40) (k v lev : Int32) : ∃ H', ((fX4_emit_0 (st4 b σ0 G H) (b + 6) k v lev).bind fun sq9 => (gN sq9 (b + 6) 6 0).bind fun vq10 => (isC sq9 vq10 7).bind fun iq11 => (fX5_takeSign_0 sq9 vq10 59).bind fun sq12 => some sq12) = some (st4 b σ0 G H') ∧ ((fX12_readSign_0 (eR m ρ R) m 59).bind fun sq9 => (gN sq9 m 14 77).bind fun vq10 => (gI sq9 m 14 62).bind fun vq11 => (stI 0 sq9 vq10 (Int32.ofNat l) vq11).bind fun sq12 => some sq12) = some (eR m ρ (enR R l)) ∧ Fr [1, 2, 3, 4] H H' ∧ Dq b tx n K G H' R a kd L := by
  obtain ⟨mk, hH⟩ := h.2.1
  obtain ⟨H', mk', e1, e2, e3⟩ := p_emitD (G := G) (σ0 := σ0) hH k v lev
  have h' : Dq b tx n K G H' R a kd L := ⟨h.1, ⟨mk', e2⟩, h.2.2⟩
  obtain ⟨p1, q1⟩ := qd_sign (σ0 := σ0) (m := m) (ρ := ρ) h' 59
  have h0 : fr H' 0 = some b := e2.1
  rw [e1, q1]
  simp only [Option.bind_some, p_g0 h0, z5_C s4_A5, p1]
  rw [r_s77 hl]
  exact ⟨H', rfl, rfl, e3, h'⟩
end
