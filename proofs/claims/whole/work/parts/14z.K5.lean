section
variable {b : Nat} {σ0 : Hs} {m : Nat} {ρ : Hs} {tx : Nat → Int} {n K : Nat} {G H R : Gs} {a mk L kd l : Nat}
theorem q_how (h : Lq b tx n K G H R a mk L) (hl : l < 40) : ∃ G' R' v, fX4_readHow_0 (st4 b σ0 G H) (b + 6) = some (v, st4 b σ0 G' H) ∧ fX12_readHow_0 (eR m ρ R) m (Int32.ofNat l) = some (eR m ρ R') ∧ Fr (76 :: QLk) R R' ∧ ((∃ a' w, Lq b tx n K G' H R' a' mk L ∧ a < a' ∧ w < 3 ∧ v = Int32.ofNat (w + 5) ∧ ai R' 76 = up (ai R 76) l (Int32.ofNat w)) ∨ ∃ a' kd, Dq b tx n K G' H R' a' kd L ∧ a ≤ a') := by
  have h0 : fr H 0 = some b := h.2.1.1
  have hR := h.2.2.1.1
  have hcode := x5_code (s4_A5 (b := b) (σ0 := σ0) (G := G) (H := H)) h.1.1 h.1.2.1 h.1.2.2.1
  have yes : ∀ w, w < 3 → (kA true tx n a = 1 ∧ vA tx n a = vW true (w + 5)) → ∃ G' R', fX4_readHow_0 (st4 b σ0 G H) (b + 6) = some (Int32.ofNat (w + 5), st4 b σ0 G' H) ∧ fX12_readHow_75 (eR m ρ R) m (Int32.ofNat l) (Int32.ofNat w) = some (eR m ρ R') ∧ Lq b tx n K G' H R' (a + 1) mk L ∧ Fr (76 :: QLk) R R' ∧ ai R' 76 = up (ai R 76) l (Int32.ofNat w) := by
    intro w hw hk
    have hL' : Lq b tx n K G H (s76 R l (Int32.ofNat w)) a mk L := Lq_fr h (s76_fr R l _) (by decide)
    obtain ⟨G', R', e1, e2, e3, e4⟩ := q_adv (σ0 := σ0) (m := m) (ρ := ρ) hL' (by rw [hk.1]; decide)
    have hc : ai G 4 a = Int32.ofNat (w + 5) := by
      rcases (h.1.1.2.2.2.2.2 a h.1.2.1).2.2.1 hk.1 with ⟨q1, q2⟩ | ⟨u, q1, q2, q3⟩
      · exact absurd hk.2 (q2 (w + 5) (show w + 5 < 8 by omega))
      · rw [q2]
        congr 1
        exact vW_in true q1 (show w + 5 < 8 by omega) (q3.symm.trans hk.2)
    refine ⟨G', R', ?_, ?_, e3, ((s76_fr R l _).mono (by decide)).trans (e4.mono (by decide)), (e4.ai 76 (by decide))⟩
    · unfold fX4_readHow_0
      simp only [p_g0 h0, z5_C s4_A5, hcode, x5_isAnyWord s4_A5 h.1, x_isWithin, Option.bind_some, b2i_0, hc]
      rw [if_neg (fun q => q hk.1), if_neg (show ¬ ¬ ((5 : Int32).toInt ≤ (Int32.ofNat (w + 5)).toInt ∧ (Int32.ofNat (w + 5)).toInt ≤ (7 : Int32).toInt) from fun q => q (by rw [n32 (by omega)]; show (5 : Int) ≤ _ ∧ _ ≤ (7 : Int); omega)), e1, Option.bind_some]
    · unfold fX12_readHow_75
      rw [if_pos (show 0 ≤ Int32.ofNat w by rw [le32, n32 (by omega), i0]; omega)]
      simp only [RG_21, hR.2.2, Option.bind_some, Int32.le_refl, if_true, RN_76, r_s76 hl, RisC, e2]
  unfold fX12_readHow_0
  simp only [RisC, Option.bind_some, show ∀ s, fX12_spelled_0 s 114 101 102 117 115 101 = some 609441381 from fun s => rfl, show ∀ s, fX12_spelled_0 s 102 111 108 100 0 0 = some 212356 from fun s => rfl, show ∀ s, fX12_spelled_0 s 116 97 107 101 0 0 = some 656741 from fun s => rfl]
  rw [rb_word hR (w := 5) (by decide) (c := 609441381) rfl, rb_word hR (w := 6) (by decide) (c := 212356) rfl, rb_word hR (w := 7) (by decide) (c := 656741) rfl]
  simp only [Option.bind_some, b2i_0]
  by_cases c5 : kA true tx n a = 1 ∧ vA tx n a = vW true 5
  · rw [if_neg (fun q => q c5)]
    obtain ⟨G', R', e1, e2, e3, e4, e5⟩ := yes 0 (by decide) c5
    exact ⟨G', R', _, e1, e2, e4, Or.inl ⟨a + 1, 0, e3, by omega, by decide, rfl, e5⟩⟩
  rw [if_pos c5]
  by_cases c6 : kA true tx n a = 1 ∧ vA tx n a = vW true 6
  · rw [if_neg (fun q => q c6)]
    obtain ⟨G', R', e1, e2, e3, e4, e5⟩ := yes 1 (by decide) c6
    exact ⟨G', R', _, e1, e2, e4, Or.inl ⟨a + 1, 1, e3, by omega, by decide, rfl, e5⟩⟩
  rw [if_pos c6]
  by_cases c7 : kA true tx n a = 1 ∧ vA tx n a = vW true 7
  · rw [if_neg (fun q => q c7)]
    obtain ⟨G', R', e1, e2, e3, e4, e5⟩ := yes 2 (by decide) c7
    exact ⟨G', R', _, e1, e2, e4, Or.inl ⟨a + 1, 2, e3, by omega, by decide, rfl, e5⟩⟩
  rw [if_pos c7]
  obtain ⟨G', R', kd, e1, e2, e3, e4⟩ := q_ref2 (σ0 := σ0) (m := m) (ρ := ρ) h
  refine ⟨G', R', ai G 4 a, ?_, ?_, e4.mono (by decide), Or.inr ⟨a, kd, e3, Nat.le_refl _⟩⟩
  · unfold fX4_readHow_0
    simp only [p_g0 h0, z5_C s4_A5, hcode, x5_isAnyWord s4_A5 h.1, x_isWithin, Option.bind_some, b2i_0]
    by_cases k1 : kA true tx n a = 1
    · rw [if_neg (fun q => q k1), if_pos (show ¬ ((5 : Int32).toInt ≤ (ai G 4 a).toInt ∧ (ai G 4 a).toInt ≤ (7 : Int32).toInt) from ?_), e1, Option.bind_some]
      intro q
      rcases (h.1.1.2.2.2.2.2 a h.1.2.1).2.2.1 k1 with ⟨q1, q2⟩ | ⟨u, q1, q2, q3⟩
      · rw [q1] at q; exact absurd q.1 (by decide)
      · have hu : u < 8 := q1
        rw [q2, n32 (by omega)] at q
        have q4 : (5 : Int) ≤ u ∧ (u : Int) ≤ 7 := q
        have : u = 5 ∨ u = 6 ∨ u = 7 := by omega
        rcases this with rfl | rfl | rfl
        · exact c5 ⟨k1, q3⟩
        · exact c6 ⟨k1, q3⟩
        · exact c7 ⟨k1, q3⟩
    · rw [if_pos k1, e1, Option.bind_some]
  · unfold fX12_readHow_75
    rw [if_neg (by decide)]
    simp only [RisC, Option.bind_some, e2, RG_21, e3.2.2.1.1, if_neg (bdn (Dq_kd e3)).1]
end
