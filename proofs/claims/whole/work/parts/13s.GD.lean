theorem bdn {kd : Nat} (h : 0 < kd ∧ kd < 7) : ¬ (Int32.ofNat kd ≤ 0) ∧ ¬ (Int32.ofNat kd = 0) := by
  constructor
  · rw [le32, n32 (by omega), i0]; omega
  · rw [z_n (by omega)]; omega
theorem up_b : ∀ {k : Nat}, k ∈ TL → k ∈ PLk := by decide
section
variable {b : Nat} {σ0 : Hs} {m : Nat} {ρ : Hs} {tx : Nat → Int} {n K D : Nat} {nt : Nat → Nat} {G H R : Gs} {a mk rm : Nat}
theorem Rs.dead {H' R' : Gs} {G' : Gs} {a' kd rm' N : Nat} {T : (Evm → Option Int64) → Prop} {X Y : Option Hs} (hX : X = some (st6 b σ0 G' H')) (hY : Y = some (eR m ρ R')) (hD : Dd b tx n K D nt G' H' R' a' kd rm') (hH : Fr [2, 3, 4] H H') (hR : Fr PLk R R') (ha : a ≤ a') (hr : rm' + a ≤ rm + a') : Rs b σ0 m ρ tx n K D nt H R a mk rm N T X Y := Or.inr ⟨G', H', R', a', kd, rm', hX, hY, hD, ⟨hH, hR⟩, ha, hr⟩
theorem l_tsY (h : Lv b tx n K D nt G H R a mk rm) {c : Int32} (hs : Sgn tx n a c.toInt) : ∃ G' R', fX5_takeSign_0 (st6 b σ0 G H) b c = some (st6 b σ0 G' H) ∧ fX12_isSign_0 (eR m ρ R) m c = some 1 ∧ fX12_next_0 (eR m ρ R) m = some (eR m ρ R') ∧ Lv b tx n K D nt G' H R' (a + 1) mk rm ∧ Fr PLk R R' ∧ ai R' 38 = ai R 38 := by
  have hk : kA false tx n a ≠ 0 ∧ kA false tx n a ≠ 4 := by rw [hs.1]; decide
  obtain ⟨G', R', e1, e2, e3, e4, e5⟩ := l_adv (σ0 := σ0) (m := m) (ρ := ρ) h hk
  refine ⟨G', R', ?_, ?_, e2, e3, e4, e5⟩
  · unfold fX5_takeSign_0
    simp only [z5_C st_A5, x5_isSign st_A5 h.1, Option.bind_some, b2i_0, if_neg (show ¬ ¬ (kA false tx n a = 3 ∧ sA tx n a = c.toInt) from fun q => q hs), e1]
  · rw [rb_sign h.2.2.1.1]; exact congrArg some (if_pos hs)
theorem l_tsN (h : Lv b tx n K D nt G H R a mk rm) {c : Int32} (hs : ¬ Sgn tx n a c.toInt) : ∃ G' R' kd, fX5_takeSign_0 (st6 b σ0 G H) b c = some (st6 b σ0 G' H) ∧ fX12_isSign_0 (eR m ρ R) m c = some 0 ∧ fX12_wrongToken_0 (eR m ρ R) m = some (eR m ρ R') ∧ Dd b tx n K D nt G' H R' a kd rm ∧ Fr PLk R R' := by
  obtain ⟨G', R', kd, e1, e2, e3, e4⟩ := l_ref2 (σ0 := σ0) (m := m) (ρ := ρ) h
  refine ⟨G', R', kd, ?_, ?_, e2, e3, e4⟩
  · unfold fX5_takeSign_0
    simp only [z5_C st_A5, x5_isSign st_A5 h.1, Option.bind_some, b2i_0, if_pos (show ¬ (kA false tx n a = 3 ∧ sA tx n a = c.toInt) from hs), e1]
  · rw [rb_sign h.2.2.1.1]; exact congrArg some (if_neg hs)
theorem l_twY (h : Lv b tx n K D nt G H R a mk rm) {w : Nat} (hw : w < 20) (hs : isW false tx n a w) : ∃ G' R', fX5_takeWord_0 (st6 b σ0 G H) b (Int32.ofNat w) = some (st6 b σ0 G' H) ∧ fX12_next_0 (eR m ρ R) m = some (eR m ρ R') ∧ Lv b tx n K D nt G' H R' (a + 1) mk rm ∧ Fr PLk R R' ∧ ai R' 38 = ai R 38 := by
  have hk : kA false tx n a ≠ 0 ∧ kA false tx n a ≠ 4 := by rw [hs.1]; decide
  obtain ⟨G', R', e1, e2, e3, e4, e5⟩ := l_adv (σ0 := σ0) (m := m) (ρ := ρ) h hk
  refine ⟨G', R', ?_, e2, e3, e4, e5⟩
  unfold fX5_takeWord_0
  simp only [z5_C st_A5, x5_isWord st_A5 h.1 (show w < nW false from hw), Option.bind_some, b2i_0, if_neg (show ¬ ¬ (kA false tx n a = 1 ∧ vA tx n a = vW false w) from fun q => q hs), e1]
theorem l_twN (h : Lv b tx n K D nt G H R a mk rm) {w : Nat} (hw : w < 20) (hs : ¬ isW false tx n a w) : ∃ G' R' kd, fX5_takeWord_0 (st6 b σ0 G H) b (Int32.ofNat w) = some (st6 b σ0 G' H) ∧ fX12_wrongToken_0 (eR m ρ R) m = some (eR m ρ R') ∧ Dd b tx n K D nt G' H R' a kd rm ∧ Fr PLk R R' := by
  obtain ⟨G', R', kd, e1, e2, e3, e4⟩ := l_ref2 (σ0 := σ0) (m := m) (ρ := ρ) h
  refine ⟨G', R', kd, ?_, e2, e3, e4⟩
  unfold fX5_takeWord_0
  simp only [z5_C st_A5, x5_isWord st_A5 h.1 (show w < nW false from hw), Option.bind_some, b2i_0, if_pos (show ¬ (kA false tx n a = 1 ∧ vA tx n a = vW false w) from hs), e1]
theorem l_one (h : Lv b tx n K D nt G H R a mk rm) (hk : kA false tx n a ≠ 0 ∧ kA false tx n a ≠ 4) {op v : Int32} {w u N : Nat} (hw : w ≤ 16) (hu : u < 1048576) (hN : 1 ≤ N) {f : Evm → Option Int64} (hX : ∀ H', ai H' 2 mk = op → ai H' 3 mk = v → XM D (ai H' 2) (ai H' 3) mk (mk + 1) 1 f) (hY : ∀ R', mW R' rm = w → mV R' rm = u → RMf D (mW R') (mV R') rm (rm + 1) 1 f) : ∃ G' H' R', fX6_emit_0 (st6 b σ0 G H) (b + 6) op v = some (st6 b σ0 G H') ∧ fr H' 0 = some b ∧ fX5_advance_0 (st6 b σ0 G H') b = some (st6 b σ0 G' H') ∧ fX12_mark_0 (eR m ρ R) m (Int32.ofNat w) (Int32.ofNat u) = some (eR m ρ (mkR R rm w u)) ∧ fX12_next_0 (eR m ρ (mkR R rm w u)) m = some (eR m ρ R') ∧ Rs b σ0 m ρ tx n K D nt H R a mk rm N (fun _ => True) (some (st6 b σ0 G' H')) (some (eR m ρ R')) := by
  have hKK := h.K500
  have haK := kA_lt h.1.1 h.1.2.1 hk.1
  obtain ⟨k1, k2, ⟨k3, k4, k5, k6⟩, k7, k8⟩ := h
  obtain ⟨e1, e2, e3⟩ := c_emit (G := G) (σ0 := σ0) k2 hKK.1 (by omega) op v
  have hf := mkR_fr R rm w u
  obtain ⟨d1, d2⟩ := x5_advance (st_A5 (b := b) (σ0 := σ0) (G := G) (H := emH H mk op v)) k1 hk
  rw [st_w5] at d1
  obtain ⟨R', f1, f2, f3⟩ := rb_next (m := m) (ρ := ρ) (hf.RB (by decide) k3) hk.1
  refine ⟨_, _, R', e1, e2.1, d1, rb_mark k4 (by omega), f1, Or.inl ⟨_, _, R', a + 1, mk + 1, rm + 1, f, rfl, rfl, ⟨d2, e2, ⟨f3, (f2.i 32 (by decide)), (f2.i 31 (by decide)).trans ((hf.i 31 (by decide)).trans k5), fun d hd => ?_⟩, by omega, by omega⟩, ⟨e3, (hf.mono (by decide)).trans (f2.mono (by decide))⟩, ⟨by omega, by omega, by omega⟩, fun j hj => emH_old (by omega), fun j hj => ?_, XM_mono (hX _ (emH_new _ _ _ _).1 (emH_new _ _ _ _).2) hN, ?_, trivial⟩⟩
  · rw [f2.al 40 (by decide), hf.al 40 (by decide)]; exact k6 d hd
  · rw [f2.ai 38 (by decide)]; exact mkR_old (by omega)
  · have hm := mk_w hw hu (R' := R') (j := rm) (by rw [f2.ai 38 (by decide)]; exact mkR_new R rm w u)
    exact RM_mono (hY R' hm.1 hm.2) hN
def PPart (b : Nat) (σ0 : Hs) (m : Nat) (ρ : Hs) (tx : Nat → Int) (n K D : Nat) (nt : Nat → Nat) (d : Nat) : Prop := ∀ j i, 10 * (9 - d) + 6 ≤ j → 10 * (9 - d) + 6 ≤ i → ∀ G H R a mk rm, Lv b tx n K D nt G H R a mk rm → Rs b σ0 m ρ tx n K D nt H R a mk rm (41 - 4 * d) (fun _ => True) (fX6_readPart_0 (GR6 j) (st6 b σ0 G H) (b + 6) (Int32.ofNat d) 1) (fX12_readWhole_0 (GR12a i) (eR m ρ R) m (Int32.ofNat d)) ∧ Rs b σ0 m ρ tx n K D nt H R a mk rm (39 - 4 * d) (fun _ => True) (fX6_readPart_0 (GR6 j) (st6 b σ0 G H) (b + 6) (Int32.ofNat d) 0) (fX12_readDeeper_0 (GR12a i) (eR m ρ R) m (Int32.ofNat d))
theorem P9 : PPart b σ0 m ρ tx n K D nt 9 := by
  intro j i hj hi G H R a mk rm h
  have h0 : fr H 0 = some b := h.2.1.1
  have e9 : ¬ (Int32.ofNat 9 ≤ 8) := by decide
  have e5 : ∀ {R1 : Gs} {kd : Nat}, fi R1 21 = Int32.ofNat kd → (0 < kd ∧ kd < 7) → fX12_readWhole_26 (GR12a i) (eR m ρ R1) m (Int32.ofNat 9) = some (eR m ρ R1) := by
    intro R1 kd q1 q2
    unfold fX12_readWhole_26
    rw [RG_21, q1, Option.bind_some, if_neg (bdn q2).1]
  have c2 := h.2.2.1.1.2.1.2.1
  have yes : kA false tx n a ≠ 4 → ∃ G' , fX5_refuse_0 (st6 b σ0 G H) b 5 = some (st6 b σ0 G' H) ∧ fX12_fail_0 (eR m ρ R) m 5 (fi R 25) = some (eR m ρ (rfR R tx n a 5)) ∧ Dd b tx n K D nt G' H (rfR R tx n a 5) a 5 rm := by
    intro hk
    obtain ⟨G', kd, q1, q2, q3, q4⟩ := l_ref (σ0 := σ0) h (f := 5) (by decide)
    rw [if_neg hk] at q2
    subst q2
    refine ⟨G', q1, ?_, q4⟩
    rw [rb_fail h.2.2.1.1, c2]; rfl
  obtain ⟨G2, R2, kd2, n1, n2, n3, n4⟩ := l_ref2 (σ0 := σ0) (m := m) (ρ := ρ) h
  have hkd2 := n3.1.2.2.2.2.1
  have cb4 : CBS tx n a → kA false tx n a ≠ 4 := by
    rintro (q | q | q)
    · rw [q]; decide
    · rw [q.1]; decide
    · rw [q.1]; decide
  have if4 : isW false tx n a 0 → kA false tx n a ≠ 4 := fun q => by rw [q.1]; decide
  constructor
  · unfold fX6_readPart_0 fX12_readWhole_0
    have hw0 := x5_isWord (st_A5 (b := b) (σ0 := σ0) (G := G) (H := H)) h.1 (w := 0) (by decide)
    have hw0' : fX5_isWord_0 (st6 b σ0 G H) b 0 = some (b2i (kA false tx n a = 1 ∧ vA tx n a = vW false 0)) := hw0
    rw [if_neg (show ¬ (1 : Int32) = 0 by decide)]
    simp only [c_g0 h0, z5_C st_A5, hw0', RisC, rb_cb h.2.2.1.1, Option.bind_some, b2i_0, if_neg e9]
    unfold fX6_readPart_20
    simp only [if_neg e9, c_g0 h0, z5_C st_A5, z6_C st_A6, c_canBegin h.1 h0, Option.bind_some, if_true, if_neg (show ¬ (1 : Int32) = 0 by decide)]
    by_cases c : kA false tx n a = 1 ∧ vA tx n a = vW false 0
    · obtain ⟨G', q1, q2, q3⟩ := yes (if4 c)
      rw [if_neg (fun q => q c), q1, Option.bind_some, if_neg (cbn (Or.inl c : isW false tx n a 0 ∨ CBS tx n a)), RG_25, Option.bind_some, q2, Option.bind_some, e5 q3.2.2.1 (by decide)]
      exact Rs.dead rfl rfl q3 (Fr.refl _ _) (rf_fr R 5) (Nat.le_refl a) (Nat.le_refl _)
    · rw [if_pos c]
      by_cases d : CBS tx n a
      · obtain ⟨G', q1, q2, q3⟩ := yes (cb4 d)
        rw [if_neg (cbn d), q1, Option.bind_some, if_neg (cbn (Or.inr d : isW false tx n a 0 ∨ CBS tx n a)), RG_25, Option.bind_some, q2, Option.bind_some, e5 q3.2.2.1 (by decide)]
        exact Rs.dead rfl rfl q3 (Fr.refl _ _) (rf_fr R 5) (Nat.le_refl a) (Nat.le_refl _)
      · rw [if_pos (cb_f d), n1, Option.bind_some, if_pos (cb_f (fun q : isW false tx n a 0 ∨ CBS tx n a => q.elim c d)), n2, Option.bind_some, RG_25, Option.bind_some, RisC, Option.bind_some, rb_failD n3.2.2.1 hkd2, Option.bind_some, e5 n3.2.2.1 hkd2]
        exact Rs.dead rfl rfl n3 (Fr.refl _ _) n4 (Nat.le_refl a) (Nat.le_refl _)
  · have e11 : ∀ {R1 : Gs} {kd : Nat}, fi R1 21 = Int32.ofNat kd → (0 < kd ∧ kd < 7) → fX12_readDeeper_11 (GR12a i) (eR m ρ R1) m (Int32.ofNat 9) = some (eR m ρ R1) := by
      intro R1 kd q1 q2
      unfold fX12_readDeeper_11
      rw [if_neg e9]
      simp only [RG_25, RisC, rb_failD q1 q2, RG_21, q1, Option.bind_some, if_neg (bdn q2).2]
    unfold fX6_readPart_0 fX12_readDeeper_0
    rw [if_pos rfl]
    unfold fX6_readPart_20
    simp only [if_neg e9, c_g0 h0, z5_C st_A5, z6_C st_A6, c_canBegin h.1 h0, RisC, rb_cbs h.2.2.1.1, Option.bind_some, if_true]
    by_cases d : CBS tx n a
    · obtain ⟨G', q1, q2, q3⟩ := yes (cb4 d)
      rw [if_neg (cbn d), q1, Option.bind_some, if_neg (cbn d)]
      have : fX12_readDeeper_11 (GR12a i) (eR m ρ R) m (Int32.ofNat 9) = some (eR m ρ (rfR R tx n a 5)) := by
        unfold fX12_readDeeper_11
        rw [if_neg e9, RG_25, Option.bind_some, RisC, Option.bind_some, q2, Option.bind_some, RG_21, q3.2.2.1, Option.bind_some, if_neg (bdn (by decide)).2]
      rw [this]
      exact Rs.dead rfl rfl q3 (Fr.refl _ _) (rf_fr R 5) (Nat.le_refl a) (Nat.le_refl _)
    · rw [if_pos (cb_f d), n1, Option.bind_some, if_pos (cb_f d), n2, Option.bind_some, e11 n3.2.2.1 hkd2]
      exact Rs.dead rfl rfl n3 (Fr.refl _ _) n4 (Nat.le_refl a) (Nat.le_refl _)
end
