section
variable {b : Nat} {σ0 : Hs} {m : Nat} {ρ : Hs} {tx : Nat → Int} {n K D : Nat} {nt : Nat → Nat} {G H R : Gs} {a mk rm : Nat}
theorem XM_old {H H' : Gs} {mk0 mk1 N : Nat} {f : Evm → Option Int64} (h : XM D (ai H 2) (ai H 3) mk0 mk1 N f) (hq : ∀ j, j < mk1 → ai H' 2 j = ai H 2 j ∧ ai H' 3 j = ai H 3 j) : XM D (ai H' 2) (ai H' 3) mk0 mk1 N f := XM_cg h (fun j _ h2 => hq j h2)
theorem RM_old {R R' : Gs} {r0 r1 N : Nat} {f : Evm → Option Int64} (h : RMf D (mW R) (mV R) r0 r1 N f) (hq : ∀ j, j < r1 → ai R' 38 j = ai R 38 j) : RMf D (mW R') (mV R') r0 r1 N f := RM_cg h (fun j _ h2 => mWV_cg (hq j h2))
theorem Dd.em {G' : Gs} {a' kd rm' : Nat} (h : Dd b tx n K D nt G' H R a' kd rm') (hK : K ≤ 500) (op v : Int32) : ∃ H', fX6_emit_0 (st6 b σ0 G' H) (b + 6) op v = some (st6 b σ0 G' H') ∧ Dd b tx n K D nt G' H' R a' kd rm' ∧ Fr [2, 3, 4] H H' := by
  obtain ⟨h1, ⟨mk', h2⟩, h3⟩ := h
  obtain ⟨H', mk2, e1, e2, e3⟩ := c_emitD (G := G') (σ0 := σ0) h2 hK op v
  exact ⟨H', e1, ⟨h1, ⟨mk2, e2⟩, h3⟩, e3⟩
theorem Dd.mark {G' : Gs} {a' kd rm' : Nat} (h : Dd b tx n K D nt G' H R a' kd rm') (hr : rm' < 1100) (w u : Nat) : fX12_mark_0 (eR m ρ R) m (Int32.ofNat w) (Int32.ofNat u) = some (eR m ρ (mkR R rm' w u)) ∧ Dd b tx n K D nt G' H (mkR R rm' w u) a' kd (rm' + 1) := by
  obtain ⟨h1, h2, h3, h4, h5⟩ := h
  have hf := mkR_fr R rm' w u
  exact ⟨rb_mark h5 hr, h1, h2, (hf.i 21 (by decide)).trans h3, (hf.i 22 (by decide)).trans h4, rfl⟩
theorem Dd.h0 {G' : Gs} {a' kd rm' : Nat} (h : Dd b tx n K D nt G' H R a' kd rm') : fr H 0 = some b ∧ (0 < kd ∧ kd < 7) := by
  obtain ⟨h1, ⟨mk', h2⟩, -⟩ := h
  exact ⟨h2.1, h1.2.2.2.2.1⟩
theorem l_few {d : Nat} (hd : d ≤ 8) (hP : PPart b σ0 m ρ tx n K D nt (d + 1)) {j i : Nat} (hj : 10 * (9 - d) - 2 ≤ j) (hi : 10 * (9 - d) - 2 ≤ i) (h : Lv b tx n K D nt G H R a mk rm) (hk : kA false tx n a = 1) {w : Nat} (hw : w = 8 ∨ w = 9) : Rs b σ0 m ρ tx n K D nt H R a mk rm (37 - 4 * d) (fun _ => True) (fX6_readFew_19 (GR6 j) (st6 b σ0 G H) (b + 6) (Int32.ofNat d) (Int32.ofNat (w + 2))) (fX12_readFew_0 (GR12a i) (eR m ρ R) m (Int32.ofNat d) (Int32.ofNat w)) := by
  obtain ⟨j', rfl⟩ : ∃ j', j = j' + 3 + 1 := ⟨j - 4, by omega⟩
  obtain ⟨i', rfl⟩ : ∃ i', i = i' + 1 := ⟨i - 1, by omega⟩
  have hKK := h.K500
  obtain ⟨G1, R1, a1, a2, a3, a4, a5⟩ := l_adv (σ0 := σ0) (m := m) (ρ := ρ) h (by rw [hk]; decide)
  have hH0 : fr H 0 = some b := h.2.1.1
  have eP : ∀ s c x y, (GR6 (j' + 3 + 1)).1 s c x y = fX6_readPart_0 (GR6 (j' + 3)) s c x y := fun s c x y => rfl
  have eQ : ∀ s c x, (GR12a (i' + 1)).2.2.2.2.2.2.2 s c x = fX12_readDeeper_0 (GR12a i') s c x := fun s c x => rfl
  unfold fX6_readFew_19 fX12_readFew_0
  simp only [c_g0 hH0, z5_C st_A5, a1, RisC, a2, Option.bind_some, suc32, eP, eQ]
  have tail3 : ∀ {G' H' R' : Gs} {a' kd rm' : Nat}, Dd b tx n K D nt G' H' R' a' kd rm' → ∃ H2, ((isC (st6 b σ0 G' H') (b + 6) 8).bind fun iq17 => (fX6_emit_0 (st6 b σ0 G' H') (b + 6) (Int32.ofNat (w + 2)) 0).bind fun sq18 => some sq18) = some (st6 b σ0 G' H2) ∧ Dd b tx n K D nt G' H2 R' a' kd rm' ∧ Fr [2, 3, 4] H' H2 := by
    intro G' H' R' a' kd rm' hD
    obtain ⟨H2, e1, e2, e3⟩ := hD.em (σ0 := σ0) hKK.1 (Int32.ofNat (w + 2)) 0
    exact ⟨H2, by rw [z6_C st_A6, Option.bind_some, e1]; rfl, e2, e3⟩
  by_cases s1 : Sgn tx n (a + 1) (40 : Int32).toInt
  rotate_left
  · obtain ⟨G2, R2, kd, b1, b2, b3, b4, b5⟩ := l_tsN (σ0 := σ0) (m := m) (ρ := ρ) a3 s1
    obtain ⟨H2, t1, t2, t3⟩ := tail3 b4
    obtain ⟨d0, d1⟩ := b4.h0
    simp only [b1, b2, b3, Option.bind_some, if_true, z6_C st_A6, cd_part b4.1 d0, c_g0 d0, z5_C st_A5, x5d_takeSign st_A5 b4.1]
    rw [z6_C st_A6, Option.bind_some] at t1
    rw [t1]
    exact Rs.dead rfl rfl t2 t3 (a4.trans b5) (by omega) (by omega)
  obtain ⟨G2, R2, b1, b2, b3, b4, b5, b6⟩ := l_tsY (σ0 := σ0) (m := m) (ρ := ρ) a3 s1
  simp only [b1, b2, b3, Option.bind_some, if_neg (show ¬ (1 : Int32) = 0 by decide), z6_C st_A6, RisC]
  obtain ⟨-, p1⟩ := hP (j' + 3) i' (by omega) (by omega) G2 H R2 (a + 1 + 1) mk rm b4
  rcases p1 with ⟨G3, H3, R3, a3', mk3, rm3, f1, x1, y1, l1, ⟨fr1, fr2⟩, ⟨u1, u2, u3⟩, o1, o2, m1, n1, -⟩ | ⟨G3, H3, R3, a3', kd, rm3, x1, y1, dd, ⟨fr1, fr2⟩, u1, u3⟩
  rotate_left
  · obtain ⟨H2, t1, t2, t3⟩ := tail3 dd
    obtain ⟨d0, d1⟩ := dd.h0
    rw [x1, y1]
    have e49 : fX12_readFew_49 (GR12a (i' + 1)) (eR m ρ R3) m (Int32.ofNat d) (Int32.ofNat w) = some (eR m ρ R3) := by
      unfold fX12_readFew_49
      rw [RG_21, dd.2.2.1, Option.bind_some, if_neg (bdn d1).1]
    simp only [Option.bind_some, c_g0 d0, z5_C st_A5, z6_C st_A6, x5d_takeSign st_A5 dd.1, cd_part dd.1 d0, RG_21, dd.2.2.1, if_neg (bdn d1).2, e49]
    rw [z6_C st_A6, Option.bind_some] at t1
    rw [t1]
    exact Rs.dead rfl rfl t2 (fr1.trans t3) (a4.trans (b5.trans fr2)) (by omega) (by omega)
  rw [x1, y1]
  have hH3 : fr H3 0 = some b := l1.2.1.1
  simp only [Option.bind_some, c_g0 hH3, z5_C st_A5, z6_C st_A6, RG_21, l1.2.2.1.1.2.2, if_true, RisC]
  by_cases s2 : Sgn tx n a3' (44 : Int32).toInt
  rotate_left
  · obtain ⟨G4, R4, kd, c1, c2, c3, c4, c5⟩ := l_tsN (σ0 := σ0) (m := m) (ρ := ρ) l1 s2
    obtain ⟨H2, t1, t2, t3⟩ := tail3 c4
    obtain ⟨d0, d1⟩ := c4.h0
    have e49 : fX12_readFew_49 (GR12a (i' + 1)) (eR m ρ R4) m (Int32.ofNat d) (Int32.ofNat w) = some (eR m ρ R4) := by
      unfold fX12_readFew_49
      rw [RG_21, c4.2.2.1, Option.bind_some, if_neg (bdn d1).1]
    simp only [c1, c2, c3, Option.bind_some, if_true, z6_C st_A6, cd_part c4.1 d0, c_g0 d0, z5_C st_A5, x5d_takeSign st_A5 c4.1, e49]
    rw [z6_C st_A6, Option.bind_some] at t1
    rw [t1]
    exact Rs.dead rfl rfl t2 (fr1.trans t3) (a4.trans (b5.trans (fr2.trans c5))) (by omega) (by omega)
  obtain ⟨G4, R4, c1, c2, c3, c4, c5, c6⟩ := l_tsY (σ0 := σ0) (m := m) (ρ := ρ) l1 s2
  simp only [c1, c2, Option.bind_some, if_neg (show ¬ (1 : Int32) = 0 by decide), z6_C st_A6]
  unfold fX12_readFew_49
  simp only [RG_21, l1.2.2.1.1.2.2, Option.bind_some, Int32.le_refl, if_true, RisC, c3, eQ, suc32]
  obtain ⟨-, p2⟩ := hP (j' + 3) i' (by omega) (by omega) G4 H3 R4 (a3' + 1) mk3 rm3 c4
  rcases p2 with ⟨G5, H5, R5, a5', mk5, rm5, f2, x2, y2, l2, ⟨fr3, fr4⟩, ⟨v1, v2, v3⟩, o3, o4, m2, n2, -⟩ | ⟨G5, H5, R5, a5', kd, rm5, x2, y2, dd, ⟨fr3, fr4⟩, v1, v3⟩
  rotate_left
  · obtain ⟨H2, t1, t2, t3⟩ := tail3 dd
    obtain ⟨d0, d1⟩ := dd.h0
    rw [x2, y2]
    simp only [Option.bind_some, c_g0 d0, z5_C st_A5, z6_C st_A6, x5d_takeSign st_A5 dd.1, RG_21, dd.2.2.1, if_neg (bdn d1).2, if_neg (bdn d1).1]
    rw [z6_C st_A6, Option.bind_some] at t1
    rw [t1]
    exact Rs.dead rfl rfl t2 (fr1.trans (fr3.trans t3)) (a4.trans (b5.trans (fr2.trans (c5.trans fr4)))) (by omega) (by omega)
  rw [x2, y2]
  have hH5 : fr H5 0 = some b := l2.2.1.1
  simp only [Option.bind_some, c_g0 hH5, z5_C st_A5, z6_C st_A6, RG_21, l2.2.2.1.1.2.2, if_true, RisC, Int32.le_refl]
  by_cases s3 : Sgn tx n a5' (41 : Int32).toInt
  rotate_left
  · obtain ⟨G6, R6, kd, g1, g2, g3, g4, g5⟩ := l_tsN (σ0 := σ0) (m := m) (ρ := ρ) l2 s3
    obtain ⟨H2, t1, t2, t3⟩ := tail3 g4
    obtain ⟨d0, d1⟩ := g4.h0
    simp only [g1, g2, g3, Option.bind_some, if_true, z6_C st_A6, RG_21, g4.2.2.1, if_neg (bdn d1).1]
    rw [z6_C st_A6, Option.bind_some] at t1
    rw [t1]
    exact Rs.dead rfl rfl t2 (fr1.trans (fr3.trans t3)) (a4.trans (b5.trans (fr2.trans (c5.trans (fr4.trans g5))))) (by omega) (by omega)
  obtain ⟨G6, R6, g1, g2, g3, g4, g5, g6⟩ := l_tsY (σ0 := σ0) (m := m) (ρ := ρ) l2 s3
  simp only [g1, g2, g3, Option.bind_some, if_neg (show ¬ (1 : Int32) = 0 by decide), z6_C st_A6, RisC]
  have q7 := h.2.2.2.1
  have q8 := h.2.2.2.2
  obtain ⟨H7, e1, e2, e3, e4, e5, e6⟩ := l_emit (σ0 := σ0) (m := m) (ρ := ρ) g4 (op := Int32.ofNat (w + 2)) (v := 0) (w := w) (u := 0) (by omega) (by omega)
  rw [e1, show fX12_mark_0 (eR m ρ R6) m (Int32.ofNat w) 0 = some (eR m ρ (mkR R6 rm5 w 0)) from e2]
  have hmx : ∀ j, j < mk5 → ai H7 2 j = ai H5 2 j ∧ ai H7 3 j = ai H5 3 j := fun j hj => e6 j (by omega)
  have hrx : ∀ j, j < rm5 → ai (mkR R6 rm5 w 0) 38 j = ai R5 38 j := fun j hj => (mkR_old (by omega)).trans (congrFun g6 j)
  have q1 := m1.1
  have q2 := m2.1
  have q3 := n1.1.1
  have q4 := n2.1.1
  refine Or.inl ⟨G6, H7, _, a5' + 1, mk5 + 1, rm5 + 1, fun e => sop w (f1 e) (f2 e), rfl, rfl, e3, ⟨fr1.trans (fr3.trans e4), a4.trans (b5.trans (fr2.trans (c5.trans (fr4.trans (g5.trans ((mkR_fr _ _ _ _).mono (by decide)))))))⟩, ⟨by omega, by omega, by omega⟩, fun j hj => ?_, fun j hj => ?_, ?_, ?_, trivial⟩
  · have r1 := hmx j (by omega)
    have r2 := o3 j (by omega)
    have r3 := o1 j hj
    exact ⟨r1.1.trans (r2.1.trans r3.1), r1.2.trans (r2.2.trans r3.2)⟩
  · rw [hrx j (by omega), o4 j (by omega), congrFun c6 j, o2 j (by omega), congrFun b6 j, congrFun a5 j]
  · have z1 : XM D (ai H7 2) (ai H7 3) mk mk3 (39 - 4 * (d + 1)) f1 := XM_old m1 (fun j hj => by
      have r1 := hmx j (by omega)
      have r2 := o3 j hj
      exact ⟨r1.1.trans r2.1, r1.2.trans r2.2⟩)
    have z2 : XM D (ai H7 2) (ai H7 3) mk3 mk5 (39 - 4 * (d + 1)) f2 := XM_old m2 hmx
    refine XM_2 z1 z2 (by omega) (by omega) ?_ (fun e x y l l' hx hy => ?_)
    · rw [e5.1]; rcases hw with rfl | rfl <;> decide
    · rw [e5.1, e5.2]; exact xcv_ar (by omega) hx hy _
  · have z1 : RMf D (mW (mkR R6 rm5 w 0)) (mV (mkR R6 rm5 w 0)) rm rm3 (39 - 4 * (d + 1)) f1 := RM_old n1 (fun j hj => by rw [hrx j (by omega), o4 j (by omega), congrFun c6 j])
    have z2 : RMf D (mW (mkR R6 rm5 w 0)) (mV (mkR R6 rm5 w 0)) rm3 rm5 (39 - 4 * (d + 1)) f2 := RM_old n2 hrx
    have hm := mk_w (w := w) (v := 0) (by omega) (by decide) (mkR_new R6 rm5 w 0)
    refine RM_2 z1 z2 (by omega) (by omega) (by omega) ?_ (fun e x y l l' hx hy => ?_)
    · rw [hm.1]; omega
    · rw [hm.1, hm.2]; exact rcv_ar (by omega) hx hy _
end
