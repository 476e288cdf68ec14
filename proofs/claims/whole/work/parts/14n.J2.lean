theorem tape_at {x : Nat} {G : Gs} {s : Hs} (h : A11 x G s) : s.2.1 (x + 2) = .inl (2, ln G 2, .inl (ai G 2)) := by
  have e : (e11 x s G).2.1 (x + 2) = s.2.1 (x + 2) := by rw [show e11 x s G = s from h]
  rw [← e]
  exact eX_a (ci := 13) (ks := ks11) (b := x) ok11 (p := (2, 2, 2)) (by decide) s G
theorem PO_str {x : Nat} {s : Hs} (h : PO x s) (hx : x ≤ s.1) {i : Nat} (hi : i < 4) : StrB s.1 s (s.2.2 (10 + i)) i := by
  obtain ⟨vS, ad, -, -, h5, -⟩ := h
  obtain ⟨⟨g1, g2⟩, g3, g4⟩ := h5 i hi
  exact ⟨by omega, vS i, by omega, g2, g4⟩
section
variable {x : Nat} {s : Hs} {G : Gs} {tx : Nat → Int} {n : Nat}
theorem c_open (pr : Bool) (hA : A11 x G s) (hl : ln G 2 = 500) (hO : PO x s) (hx : x + 78 ≤ s.1) (hn : n ≤ 500) (htx : ∀ j, j < n → (ai G 2 j &&& 255).toInt = tx j) (h0 : ∀ j, 0 ≤ tx j ∧ tx j ≤ 255) : ∃ s0 s' H K, fX5_init_0 (nwO 7 tyX5 s) s.1 (x + 2) (Int32.ofNat n) (s.2.2 (10 + si pr)) (s.2.2 (10 + wi pr)) = some s0 ∧ isC s0 s.1 7 = some () ∧ fX5_cut_0 s0 s.1 = some s' ∧ s'.1 = s.1 + 6 ∧ s'.2.2 = s.2.2 ∧ (∀ q, q < s.1 → s'.2.1 q = s.2.1 q) ∧ A5 s.1 H s' ∧ AlG H pr tx n K 0 := by
  have hsi : si pr < 4 := by cases pr <;> decide
  have hwi : wi pr < 4 := by cases pr <;> decide
  have hf := tape_at hA
  rw [hl] at hf
  obtain ⟨s0, H0, a1, a2, a3, a4, a5, a6, a7, a8, a9⟩ := x5_new s (pr := pr) (a := x + 2) (n := n) (by omega) hf hn (PO_str hO (by omega) hsi) (PO_str hO (by omega) hwi)
  have a5' : RdT s.1 H0 pr tx n s0 := by
    obtain ⟨q1, q2, q3, q4, q5, q6⟩ := a5
    exact ⟨q1, q2, q3, q4, fun j hj => (q5 j hj).trans (htx j hj), q6⟩
  obtain ⟨H1, K, b1, b2, b3, b4⟩ := x_cut a5' a6 h0
  refine ⟨s0, e5 s.1 s0 H1, H1, K, a1, z5_C a5'.1, b1, a2, a3, fun q hq => (e5_out _ _ (by omega)).trans (a4 q hq), A5_self _ _, b3.p, Nat.zero_le _, (b2.i 8 (by decide)).trans a7, (b2.i 9 (by decide)).trans a8, (b2.i 10 (by decide)).trans a9, b4⟩
end
section
variable {m : Nat} {ρ : Hs} {R : Gs} {n : Nat}
def opR (R : Gs) (n : Nat) : Gs := sai (sfi (sfi (sfi (sfi (sfi (sfi (sfi R 18 (Int32.ofNat n)) 23 0) 17 0) 26 0) 21 0) 31 0) 32 0) 37 (up (ai R 37) 0 0)
theorem r_open (hn : n ≤ 500) : ∃ R', fX12_next_0 (eR m ρ (opR R n)) m = some (eR m ρ R') ∧ Fr TL (opR R n) R' ∧ RB R' false (txR R) n 0 := by
  have e18 : fi (opR R n) 18 = Int32.ofNat n := rfl
  have etx : txR (opR R n) = txR R := rfl
  obtain ⟨R', f1, f2, f3⟩ := r_next (m := m) (ρ := ρ) (R := opR R n) (pr := false) e18 hn rfl (Nat.zero_le n) rfl
  rw [etx] at f3
  exact ⟨R', f1, f2, ⟨(f2.i 18 (by decide)).trans e18, hn, (f2.i 23 (by decide)), (txR_fr f2 (by decide)).trans etx⟩, f3, (f2.i 21 (by decide))⟩
end
