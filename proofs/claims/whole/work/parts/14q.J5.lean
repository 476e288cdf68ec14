section
variable {x : Nat} {s : Hs} {G R : Gs} {n : Nat}
theorem st6_self {b : Nat} {H1 H2 : Gs} {t : Hs} (h1 : A5 b H1 t) (h2 : A6 (b + 6) H2 t) : st6 b t H1 H2 = t := by
  unfold st6
  rw [show e5 b t H1 = t from h1]; exact h2
theorem c_text (hA : A11 x G s) (hl : ln G 2 = 500) (hO : PO x s) (hx : x + 78 ≤ s.1) (hn : n ≤ 500) (htx : ∀ j, j < n → ai G 2 j = ai R 16 j) (fm : Int32) : ∃ s0 s' s3 K, fX5_init_0 (nwO 7 tyX5 s) s.1 (x + 2) (Int32.ofNat n) (s.2.2 10) (s.2.2 11) = some s0 ∧ isC s0 s.1 7 = some () ∧ fX5_cut_0 s0 s.1 = some s' ∧ fX6_init_0 (nwO 8 tyX6 s') s'.1 s.1 fm = some s3 ∧ isC s3 s'.1 8 = some () ∧ s'.1 = s.1 + 6 ∧ (s3.1 = s.1 + 15 ∧ s3.2.2 = s.2.2 ∧ ∀ q, q < s.1 → s3.2.1 q = s.2.1 q) ∧ K ≤ 500 ∧ ∀ m ρ, ∃ R', fX12_next_0 (eR m ρ (opR R n)) m = some (eR m ρ R') ∧ Fr TL (opR R n) R' ∧ TRs s.1 s3 m ρ (txR R) n K (nw6 s.1 K fm) R' fm (fX6_readDefs_0 s3 (s.1 + 6)) (fX12_rules_96 (eR m ρ R') m fm) := by
  obtain ⟨s0, s', H, K, a1, a2, a3, a4, a5, a6, a7, a8⟩ := c_open (tx := txR R) false hA hl hO hx hn (fun j hj => by rw [htx j hj]; rfl) (txR_b R)
  have hK : K ≤ 500 := by have := a8.1.1.1; have := a8.1.2.1; omega
  obtain ⟨s3, b1, b2, b3, b4, b5⟩ := x6_new s' (b := s.1) (K := K) (by omega) hK (by rw [z5_g7 a7]; exact congrArg some a8.1.2.2.2.2.1) fm
  rw [a4] at b5
  have h5 : A5 s.1 H s3 := A5_fr a7 (fun q hq => b4 q (by omega))
  have hs3 : st6 s.1 s3 H (nw6 s.1 K fm) = s3 := st6_self h5 b5
  refine ⟨s0, s', s3, K, a1, a2, a3, b1, by rw [a4]; exact z6_C b5, a4, ⟨by omega, b3.trans a5, fun q hq => (b4 q (by omega)).trans (a6 q hq)⟩, hK, fun m ρ => ?_⟩
  obtain ⟨R', f1, f2, f3⟩ := r_open (m := m) (ρ := ρ) (R := R) hn
  refine ⟨R', f1, f2, ?_⟩
  have hL : Lv s.1 (txR R) n K 0 (fun _ => 0) H (nw6 s.1 K fm) R' 0 0 0 := ⟨a8, ⟨rfl, ⟨rfl, rfl, rfl⟩, rfl, Nat.zero_le _, rfl, by decide, fun d hd => absurd hd (Nat.not_lt_zero _)⟩, ⟨f3, (f2.i 32 (by decide)), (f2.i 31 (by decide)), fun d hd => absurd hd (Nat.not_lt_zero _)⟩, Nat.le_refl _, Nat.le_refl _⟩
  have hD : DfO s.1 (txR R) n K 0 (fun _ => 0) (fun _ => 0) (fun _ => 0) (fun _ => 0) (fun _ _ => none) H (nw6 s.1 K fm) R' 0 0 0 := ⟨hL, fun d hd => absurd hd (Nat.not_lt_zero _), ⟨rfl, rfl, rfl, rfl⟩, fun d hd => absurd hd (Nat.not_lt_zero _), fun d hd => by
    have : d = 0 := by omega
    subst this
    rw [f2.ai 37 (by decide)]; rfl, Or.inl ⟨rfl, fun d hd => absurd hd (Nat.not_lt_zero _)⟩⟩
  have := l_defs (σ0 := s3) (m := m) (ρ := ρ) hD fm
  rw [hs3] at this
  exact this
end
