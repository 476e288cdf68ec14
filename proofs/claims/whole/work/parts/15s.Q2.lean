theorem law_loop {P : Par} {x : Nat} (H : Hyp P x) {xs : Nat → Int32} {L : Nat} (hL : L ≤ 3072) : ∀ n i (σ : Hs), i ≤ L → L < i + 6 * n → Inv P x σ → lawM xs L n σ x (x + 20) (Int32.ofNat i) = some 1 := by
  intro n; induction n with
  | zero => intro i σ h1 h2; omega
  | succ n ih =>
    intro i σ h1 h2 hI
    show fL_law_18 xs L (lawM xs L n) σ x (x + 20) (Int32.ofNat i) = some 1
    have hc : (Int32.ofNat L - 6 < Int32.ofNat i) ↔ L < i + 6 := by
      rw [lt32, n32 (show i < 2147483648 by omega)]
      by_cases c : 6 ≤ L
      · rw [show (6 : Int32) = Int32.ofNat 6 from rfl, sub_nn c, n32 (by omega)]; omega
      · have : L = 0 ∨ L = 1 ∨ L = 2 ∨ L = 3 ∨ L = 4 ∨ L = 5 := by omega
        have hneg : (Int32.ofNat L - 6).toInt < 0 := by rcases this with rfl | rfl | rfl | rfl | rfl | rfl <;> decide
        constructor
        · intro _; omega
        · intro _; omega
    by_cases c : L < i + 6
    · unfold fL_law_18
      rw [if_pos (hc.mpr c)]
    · have hs : ∀ j : Nat, j ≤ 5 → sc xs L (Int32.ofNat i + Int32.ofNat j) = some (xs (i + j)) := by
        intro j hj
        unfold sc
        rw [add_n, ix_n (by omega), decide_eq_true (show i + j < L by omega), if_pos rfl, c32 (by omega)]
      have h0 : sc xs L (Int32.ofNat i) = some (xs i) := by
        unfold sc
        rw [ix_n (by omega), decide_eq_true (show i < L by omega), if_pos rfl, c32 (by omega)]
      refine arm_any H hI ⟨h0, hs 1 (by decide), hs 2 (by decide), hs 3 (by decide), hs 4 (by decide), hs 5 (by decide)⟩ (fun σ' hI' => ?_) (fun q => c (hc.mp q))
      rw [show (6 : Int32) = Int32.ofNat 6 from rfl, add_n]
      exact ih (i + 6) σ' (by omega) (by omega) hI'
theorem hlaw (xs : Nat → Int32) (L : Nat) (σ : Hs) (hL : L ≤ 3072) (hO : Ol σ) : lawF xs L σ = some 1 := by
  obtain ⟨bl, hb⟩ := bel_ex
  obtain ⟨p1, p2, p3, p4⟩ := Par_all (RP := RPp) RPp_fr hb
  have H : Hyp (RO, RPp, bl) σ.1 := ⟨p1, p2, p3, p4 σ.1, rfl, rfl⟩
  obtain ⟨s2, s4, e1, e2, e3, e4, e5, e6⟩ := start_ok (RO, RPp, bl) σ hO
  have hI : Inv (RO, RPp, bl) σ.1 s4 := ⟨_, R0, e4, e6, RW_0, ⟨0, by decide, rfl⟩⟩
  unfold lawF fL_law_0
  rw [Option.bind_some, e1, Option.bind_some, Option.bind_some, e2, Option.bind_some, e3]
  exact law_loop H hL 514 0 s4 (by omega) (by omega) hI
