def Lq (b : Nat) (tx : Nat → Int) (n K : Nat) (G H R : Gs) (a mk L : Nat) : Prop := AlG G true tx n K a ∧ HQ b H mk L ∧ (RB R true tx n a ∧ fi R 62 = Int32.ofNat L) ∧ mk ≤ 2 * L ∧ L ≤ 40
def Dq (b : Nat) (tx : Nat → Int) (n K : Nat) (G H R : Gs) (a kd L : Nat) : Prop := DdG G true tx n K a kd ∧ (∃ mk, HQ b H mk L) ∧ (fi R 21 = Int32.ofNat kd ∧ fi R 22 = Int32.ofNat (pA tx n a)) ∧ fi R 62 = Int32.ofNat L ∧ L ≤ 40
def QLk : List Nat := [21, 22, 24, 25, 26, 27, 28, 29]
section
variable {b : Nat} {σ0 : Hs} {m : Nat} {ρ : Hs} {tx : Nat → Int} {n K : Nat} {G H R : Gs} {a mk L kd : Nat}
theorem RB_frt {R R' : Gs} {a : Nat} {Ls : List Nat} (hF : Fr Ls R R') (hL : ∀ k, k ∈ [16, 18, 21, 23, 24, 25, 26, 27, 28, 29] → k ∉ Ls) (h : RB R true tx n a) : RB R' true tx n a := by
  obtain ⟨⟨a1, a2, a3, a4⟩, ⟨c1, c2, c3, c4, c5, c6⟩, b1⟩ := h
  refine ⟨⟨(hF.i 18 (hL _ (by decide))).trans a1, a2, (hF.i 23 (hL _ (by decide))).trans a3, (txR_fr hF (hL _ (by decide))).trans a4⟩, ⟨(hF.i 24 (hL _ (by decide))).trans c1, (hF.i 25 (hL _ (by decide))).trans c2, (hF.i 26 (hL _ (by decide))).trans c3, fun q => ?_, fun q => ?_, fun q => ?_⟩, (hF.i 21 (hL _ (by decide))).trans b1⟩
  · rw [hF.i 28 (hL _ (by decide)), hF.l 29 (hL _ (by decide))]; exact c4 q
  · rw [hF.i 27 (hL _ (by decide))]; exact c5 q
  · rw [hF.i 27 (hL _ (by decide))]; exact c6 q
theorem Lq_fr {R' : Gs} {Ls : List Nat} (h : Lq b tx n K G H R a mk L) (hF : Fr Ls R R') (hL : ∀ k, k ∈ [16, 18, 21, 23, 24, 25, 26, 27, 28, 29, 62] → k ∉ Ls) : Lq b tx n K G H R' a mk L := by
  obtain ⟨h1, h2, ⟨h3, h4⟩, h5⟩ := h
  exact ⟨h1, h2, ⟨RB_frt hF (fun k hk => hL k (by revert hk; revert k; decide)) h3, (hF.i 62 (hL _ (by decide))).trans h4⟩, h5⟩
theorem Dq_fr {R' : Gs} {Ls : List Nat} (h : Dq b tx n K G H R a kd L) (hF : Fr Ls R R') (hL : ∀ k, k ∈ [21, 22, 62] → k ∉ Ls) : Dq b tx n K G H R' a kd L := by
  obtain ⟨h1, h2, ⟨h3, h4⟩, h5, h6⟩ := h
  exact ⟨h1, h2, ⟨(hF.i 21 (hL _ (by decide))).trans h3, (hF.i 22 (hL _ (by decide))).trans h4⟩, (hF.i 62 (hL _ (by decide))).trans h5, h6⟩
theorem Dq_kd (h : Dq b tx n K G H R a kd L) : 0 < kd ∧ kd < 7 := h.1.2.2.2.2.1
theorem Dq_h0 (h : Dq b tx n K G H R a kd L) : fr H 0 = some b := by obtain ⟨mk, q⟩ := h.2.1; exact q.1
theorem q_adv (h : Lq b tx n K G H R a mk L) (hk : kA true tx n a ≠ 0 ∧ kA true tx n a ≠ 4) : ∃ G' R', fX5_advance_0 (st4 b σ0 G H) b = some (st4 b σ0 G' H) ∧ fX12_next_0 (eR m ρ R) m = some (eR m ρ R') ∧ Lq b tx n K G' H R' (a + 1) mk L ∧ Fr QLk R R' := by
  obtain ⟨h1, h2, ⟨h3, h4⟩, h5⟩ := h
  obtain ⟨e1, e2⟩ := x5_advance (s4_A5 (b := b) (σ0 := σ0) (G := G) (H := H)) h1 hk
  obtain ⟨R', f1, f2, f3⟩ := rb_next (m := m) (ρ := ρ) h3 hk.1
  rw [s4_w5] at e1
  exact ⟨_, R', e1, f1, ⟨e2, h2, ⟨f3, (f2.i 62 (by decide)).trans h4⟩, h5⟩, f2.mono (by decide)⟩
theorem q_ref (h : Lq b tx n K G H R a mk L) {f : Nat} (hf : 0 < f ∧ f < 7) : ∃ G' kd, fX5_refuse_0 (st4 b σ0 G H) b (Int32.ofNat f) = some (st4 b σ0 G' H) ∧ kd = (if kA true tx n a = 4 then 1 else f) ∧ Dq b tx n K G' H (rfR R tx n a kd) a kd L := by
  obtain ⟨kd, e1, e2, e3⟩ := x5_refuse (s4_A5 (b := b) (σ0 := σ0) (G := G) (H := H)) h.1 hf
  rw [s4_w5] at e1
  exact ⟨_, kd, e1, e2, e3, ⟨mk, h.2.1⟩, ⟨rfl, rfl⟩, h.2.2.1.2, h.2.2.2.2⟩
theorem rf_frq (R : Gs) (kd : Nat) : Fr QLk R (rfR R tx n a kd) := ((Fr.refl _ R).sfi (k := 21) (by decide) _).sfi (k := 22) (by decide) _
theorem q_ref2 (h : Lq b tx n K G H R a mk L) : ∃ G' R' kd, fX5_refuse_0 (st4 b σ0 G H) b 2 = some (st4 b σ0 G' H) ∧ fX12_wrongToken_0 (eR m ρ R) m = some (eR m ρ R') ∧ Dq b tx n K G' H R' a kd L ∧ Fr QLk R R' := by
  obtain ⟨G', kd, e1, e2, e3⟩ := q_ref (σ0 := σ0) h (f := 2) (by decide)
  refine ⟨G', _, kd, e1, rb_wrong h.2.2.1.1, ?_, rf_frq R _⟩
  rw [← e2]; exact e3
def Jq (b : Nat) (σ0 : Hs) (m : Nat) (ρ : Hs) (tx : Nat → Int) (n K : Nat) (H R : Gs) (a mk L : Nat) (X Y : Option Hs) : Prop :=
  (∃ G' R' a', X = some (st4 b σ0 G' H) ∧ Y = some (eR m ρ R') ∧ Lq b tx n K G' H R' a' mk L ∧ Fr QLk R R' ∧ a < a') ∨
  (∃ G' R' a' kd, X = some (st4 b σ0 G' H) ∧ Y = some (eR m ρ R') ∧ Dq b tx n K G' H R' a' kd L ∧ Fr QLk R R' ∧ a ≤ a')
theorem q_sign (h : Lq b tx n K G H R a mk L) (c : Int32) : Jq b σ0 m ρ tx n K H R a mk L (fX5_takeSign_0 (st4 b σ0 G H) b c) (fX12_readSign_0 (eR m ρ R) m c) := by
  unfold fX5_takeSign_0 fX12_readSign_0
  simp only [z5_C s4_A5, x5_isSign s4_A5 h.1, Option.bind_some, b2i_0, RG_21, h.2.2.1.1.2.2, Int32.le_refl, if_true, RisC, rb_sign h.2.2.1.1]
  by_cases hs : kA true tx n a = 3 ∧ sA tx n a = c.toInt
  · obtain ⟨G', R', e1, e2, e3, e4⟩ := q_adv (σ0 := σ0) (m := m) (ρ := ρ) h (by rw [hs.1]; decide)
    rw [if_neg (fun q => q hs), if_neg (fun q => q hs), e1, e2]
    exact Or.inl ⟨G', R', a + 1, rfl, rfl, e3, e4, by omega⟩
  · obtain ⟨G', R', kd, e1, e2, e3, e4⟩ := q_ref2 (σ0 := σ0) (m := m) (ρ := ρ) h
    rw [if_pos hs, if_pos hs, e1, e2]
    exact Or.inr ⟨G', R', a, kd, rfl, rfl, e3, e4, Nat.le_refl _⟩
theorem qd_sign (h : Dq b tx n K G H R a kd L) (c : Int32) : fX5_takeSign_0 (st4 b σ0 G H) b c = some (st4 b σ0 G H) ∧ fX12_readSign_0 (eR m ρ R) m c = some (eR m ρ R) := by
  refine ⟨x5d_takeSign s4_A5 h.1 c, ?_⟩
  unfold fX12_readSign_0
  rw [RG_21, h.2.2.1.1, Option.bind_some, if_neg (bdn (Dq_kd h)).1]
end
