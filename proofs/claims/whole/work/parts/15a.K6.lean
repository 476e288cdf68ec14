def Sm (k75 k76 k77 so op lw : Nat → Int32) (lev l r : Nat) : Prop := ∃ k v w, k < 4 ∧ (k75 l = Int32.ofNat k ∧ so r = Int32.ofNat k) ∧ (k76 l = w ∧ op r = v) ∧ lw r = Int32.ofNat lev ∧ k77 l = Int32.ofNat (l + 1) ∧ (k = 0 → v = w ∧ 1 ≤ v.toInt ∧ v.toInt ≤ 3600) ∧ (k = 1 → v = w ∧ 0 ≤ v.toInt ∧ v.toInt ≤ 86399) ∧ (k = 3 → ∃ u, u < 3 ∧ w = Int32.ofNat u ∧ v = Int32.ofNat (u + 5))
def bgR (R : Gs) (L k : Nat) : Gs := sai (sai (sfi R 62 (Int32.ofNat (L + 1))) 75 (up (ai R 75) L (Int32.ofNat k))) 76 (up (ai R 76) L 0)
def enR (R : Gs) (L : Nat) : Gs := sai R 77 (up (ai R 77) L (fi R 62))
section
variable {b : Nat} {σ0 : Hs} {m : Nat} {ρ : Hs} {tx : Nat → Int} {n K : Nat} {G H R : Gs} {a mk L kd l : Nat}
theorem bgR_fr (R : Gs) (L k : Nat) : Fr [62, 75, 76] R (bgR R L k) := (((Fr.refl _ R).sfi (k := 62) (by decide) _).sai (k := 75) (by decide) _).sai (k := 76) (by decide) _
theorem enR_fr (R : Gs) (L : Nat) : Fr [77] R (enR R L) := (Fr.refl _ R).sai (k := 77) (by decide) _
theorem r_s77 (hl : l < 40) : ((gN (eR m ρ R) m 14 77).bind fun v => (gI (eR m ρ R) m 14 62).bind fun w => (stI 0 (eR m ρ R) v (Int32.ofNat l) w).bind fun s => some s) = some (eR m ρ (enR R l)) := by
  simp only [RN_77, RG_62, Rst_77, Option.bind_some, ix_n (show l < 2147483648 by omega), decide_eq_true hl, if_true, c32 (show l < 2147483648 by omega)]
  rfl
theorem q_begin (h : Lq b tx n K G H R a mk L) (hL : L < 40) {k : Nat} (hk : kA true tx n a = 1) : ∃ G' R', fX5_advance_0 (st4 b σ0 G (sfi H 5 (Int32.ofNat (L + 1)))) b = some (st4 b σ0 G' (sfi H 5 (Int32.ofNat (L + 1)))) ∧ fX12_next_0 (eR m ρ (bgR R L k)) m = some (eR m ρ R') ∧ Lq b tx n K G' (sfi H 5 (Int32.ofNat (L + 1))) R' (a + 1) mk (L + 1) ∧ Fr QLk (bgR R L k) R' := by
  have h' : Lq b tx n K G (sfi H 5 (Int32.ofNat (L + 1))) (bgR R L k) a mk (L + 1) := by
    obtain ⟨h1, ⟨w1, w2, w3, w4⟩, ⟨h3, h4⟩, h5, h6⟩ := h
    exact ⟨h1, ⟨w1, w2, w3, rfl⟩, ⟨RB_frt (bgR_fr R L k) (by decide) h3, rfl⟩, by omega, by omega⟩
  exact q_adv (σ0 := σ0) (m := m) (ρ := ρ) h' (by rw [hk]; decide)
end
