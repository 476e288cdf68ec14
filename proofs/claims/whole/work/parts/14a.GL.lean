section
variable {b : Nat} {σ0 : Hs} {m : Nat} {ρ : Hs} {tx : Nat → Int} {n K D : Nat} {nt : Nat → Nat} {G H R : Gs} {a mk rm : Nat}
theorem cd_93 {kd : Nat} (hG : DdG G false tx n K a kd) (hH : HR b K D nt H mk) (hK : K ≤ 500) : ∃ H', fX6_readDef_93 (st6 b σ0 G H) (b + 6) = some (st6 b σ0 G H') ∧ fr H' 0 = some b := by
  have h0 : fr H 0 = some b := hH.1
  obtain ⟨H', mk', e1, e2, e3⟩ := c_emitD (G := G) (σ0 := σ0) hH hK 3 (fi H 5)
  have h0' : fr H' 0 = some b := e2.1
  refine ⟨sfi H' 5 (fi H' 5 + 1), ?_, h0'⟩
  unfold fX6_readDef_93
  simp only [c_g0 h0, z5_C st_A5, z6_C st_A6, x5d_advance st_A5 hG, x5d_takeSign st_A5 hG, show ∀ s c x y, (GR6 100).1 s c x y = fX6_readPart_0 (GR6 (96 + 3)) s c x y from fun s c x y => rfl, cd_part hG h0, z6_g5 st_A6, z6_p5 st_A6, Option.bind_some, e1, c_g0 h0', st_w6]
theorem cd_93t {kd : Nat} (hG : DdG G false tx n K a kd) (hH : HR b K D nt H mk) (hK : K ≤ 500) : ∃ H', ((gI (st6 b σ0 G H) (b + 6) 8 5).bind fun vq9 => (isC (st6 b σ0 G H) (b + 6) 8).bind fun iq10 => (fX6_emit_0 (st6 b σ0 G H) (b + 6) 3 vq9).bind fun sq11 => (gN sq11 (b + 6) 8 0).bind fun vq12 => (isC sq11 vq12 7).bind fun iq13 => (fX5_takeSign_0 sq11 vq12 59).bind fun sq14 => (gI sq14 (b + 6) 8 5).bind fun vq15 => (pV sq14 (b + 6) 8 5 (.int (vq15 + 1))).bind fun sq16 => some sq16) = some (st6 b σ0 G H') ∧ fr H' 0 = some b := by
  obtain ⟨H', mk', e1, e2, e3⟩ := c_emitD (G := G) (σ0 := σ0) hH hK 3 (fi H 5)
  have h0' : fr H' 0 = some b := e2.1
  refine ⟨sfi H' 5 (fi H' 5 + 1), ?_, h0'⟩
  simp only [z5_C st_A5, z6_C st_A6, x5d_takeSign st_A5 hG, z6_g5 st_A6, z6_p5 st_A6, Option.bind_some, e1, c_g0 h0', st_w6]
def D93 (b : Nat) (σ0 : Hs) (m : Nat) (ρ : Hs) (tx : Nat → Int) (n K D : Nat) (nt : Nat → Nat) (H R : Gs) (a mk rm : Nat) (X Y : Option Hs) : Prop :=
  (∃ G' H' R' a' ce rm' f w, X = some (st6 b σ0 G' (sfi H' 5 (Int32.ofNat (D + 1)))) ∧ Y = some (eR m ρ (dfR R' D rm' w)) ∧ Lv b tx n K D nt G' H' R' a' (ce + 1) rm' ∧ (Fr [2, 3, 4] H H' ∧ Fr PLk R R') ∧ a < a' ∧ (∀ j, j < mk → ai H' 2 j = ai H 2 j ∧ ai H' 3 j = ai H 3 j) ∧ (∀ j, j < rm → ai R' 38 j = ai R 38 j) ∧ XM D (ai H' 2) (ai H' 3) mk ce 37 f ∧ (ai H' 2 ce = 3 ∧ ai H' 3 ce = Int32.ofNat D) ∧ RMf D (mW R') (mV R') rm rm' 37 f ∧ w.toInt = vA tx n a) ∨
  (∃ G' H' R' a' kd, X = some (st6 b σ0 G' H') ∧ Y = some (eR m ρ R') ∧ DdG G' false tx n K a' kd ∧ fr H' 0 = some b ∧ (fi R' 21 = Int32.ofNat kd ∧ fi R' 22 = Int32.ofNat (pA tx n a')) ∧ Fr PLk R R')
theorem l_d93 (hN : NF tx n K D nt) (h : Lv b tx n K D nt G H R a mk rm) (hk : Nam tx n a) (hD : D < 10) : D93 b σ0 m ρ tx n K D nt H R a mk rm (fX6_readDef_93 (st6 b σ0 G H) (b + 6)) (fX12_readDef_70 (eR m ρ R) m) := by
  have hKK := h.K500
  have h0 : fr H 0 = some b := h.2.1.1
  obtain ⟨k1, k2, k3, k4⟩ := hk
  have hw : (fl R 29).toInt = vA tx n a := by
    have := (h.2.2.1.1.2.1.2.2.2.1 k1).2
    rw [this]
    have hl : lA tx n a = tE tx n (tS tx n a) - tS tx n a := rfl
    rw [if_pos (by omega)]; rfl
  have d130 : ∀ {R1 : Gs} {kd : Nat} (w : Int64), fi R1 21 = Int32.ofNat kd → (0 < kd ∧ kd < 7) → fX12_readDef_130 (eR m ρ R1) m w = some (eR m ρ R1) := by
    intro R1 kd w q1 q2
    unfold fX12_readDef_130
    rw [RG_21, q1, Option.bind_some, if_neg (bdn q2).1]
  obtain ⟨G1, R1, a1, a2, a3, a4, a5⟩ := l_adv (σ0 := σ0) (m := m) (ρ := ρ) h (by rw [k1]; decide)
  by_cases c1 : Sgn tx n (a + 1) (58 : Int32).toInt
  rotate_left
  · -- no ':'
    obtain ⟨G2, R2, kd, s1, s2, s3, s4, s5⟩ := l_tsN (σ0 := σ0) (m := m) (ρ := ρ) a3 c1
    obtain ⟨t1, t2⟩ := s4.h0
    obtain ⟨mk2, hH2⟩ := s4.2.1
    obtain ⟨H', z1, z2⟩ := cd_93t (σ0 := σ0) s4.1 hH2 hKK.1
    refine Or.inr ⟨G2, H', R2, a + 1, kd, ?_, ?_, s4.1, z2, ⟨s4.2.2.1, s4.2.2.2.1⟩, a4.trans s5⟩
    · unfold fX6_readDef_93
      simp only [c_g0 h0, z5_C st_A5, z6_C st_A6, a1, s1, show ∀ s c x y, (GR6 100).1 s c x y = fX6_readPart_0 (GR6 (96 + 3)) s c x y from fun s c x y => rfl, cd_part s4.1 h0, Option.bind_some]
      simp only [z6_C st_A6, Option.bind_some] at z1
      exact z1
    · unfold fX12_readDef_70
      simp only [RG_21, RG_29, h.2.2.1.1.2.2, Option.bind_some, Int32.le_refl, if_true, RisC, a2, s2, s3]
  obtain ⟨G2, R2, s1, s2, s3, s4, s5, s6⟩ := l_tsY (σ0 := σ0) (m := m) (ρ := ρ) a3 c1
  obtain ⟨p1, -⟩ := P1 (b := b) (σ0 := σ0) (m := m) (ρ := ρ) hN 99 99 (by decide) (by decide) G2 H R2 (a + 1 + 1) mk rm s4
  have hX : fX6_readDef_93 (st6 b σ0 G H) (b + 6) = (fX6_readPart_0 (GR6 99) (st6 b σ0 G2 H) (b + 6) (Int32.ofNat 1) 1).bind fun sq8 => (gI sq8 (b + 6) 8 5).bind fun vq9 => (isC sq8 (b + 6) 8).bind fun iq10 => (fX6_emit_0 sq8 (b + 6) 3 vq9).bind fun sq11 => (gN sq11 (b + 6) 8 0).bind fun vq12 => (isC sq11 vq12 7).bind fun iq13 => (fX5_takeSign_0 sq11 vq12 59).bind fun sq14 => (gI sq14 (b + 6) 8 5).bind fun vq15 => (pV sq14 (b + 6) 8 5 (.int (vq15 + 1))).bind fun sq16 => some sq16 := by
    unfold fX6_readDef_93
    simp only [c_g0 h0, z5_C st_A5, z6_C st_A6, a1, s1, Option.bind_some]
    rfl
  have hY : fX12_readDef_70 (eR m ρ R) m = (fX12_readWhole_0 (GR12a 99) (eR m ρ R2) m (Int32.ofNat 1)).bind fun sq10 => (gI sq10 m 14 21).bind fun vq11 => if vq11 = 0 then ((isC sq10 m 14).bind fun iq12 => (fX12_isSign_0 sq10 m 59).bind fun vq13 => if vq13 = 0 then ((isC sq10 m 14).bind fun iq14 => (fX12_wrongToken_0 sq10 m).bind fun sq15 => fX12_readDef_130 sq15 m (fl R 29)) else (fX12_readDef_130 sq10 m (fl R 29))) else (fX12_readDef_130 sq10 m (fl R 29)) := by
    unfold fX12_readDef_70
    simp only [RG_21, RG_29, h.2.2.1.1.2.2, Option.bind_some, Int32.le_refl, if_true, RisC, a2, s2, s3, if_neg (show ¬ (1 : Int32) = 0 by decide)]
    rfl
  rw [hX, hY]
  rcases p1 with ⟨G3, H3, R3, a3', mk3, rm3, f, x1, y1, l1, ⟨fr1, fr2⟩, ⟨u1, u2, u3⟩, o1, o2, m1, r1, -⟩ | ⟨G3, H3, R3, a3', kd, rm3, x1, y1, dd, ⟨fr1, fr2⟩, u1, u3⟩
  rotate_left
  · obtain ⟨t1, t2⟩ := dd.h0
    obtain ⟨mk2, hH2⟩ := dd.2.1
    obtain ⟨H', z1, z2⟩ := cd_93t (σ0 := σ0) dd.1 hH2 hKK.1
    rw [x1, y1, Option.bind_some, Option.bind_some, RG_21, dd.2.2.1, Option.bind_some, if_neg (bdn t2).2, d130 _ dd.2.2.1 t2]
    exact Or.inr ⟨G3, H', R3, a3', kd, z1, rfl, dd.1, z2, ⟨dd.2.2.1, dd.2.2.2.1⟩, a4.trans (s5.trans fr2)⟩
  rw [x1, y1]
  have q7 := h.2.2.2.1
  have q8 := h.2.2.2.2
  have g7 := l1.2.2.2.1
  have g8 := l1.2.2.2.2
  obtain ⟨e1, e2, e3⟩ := c_emit (G := G3) (σ0 := σ0) l1.2.1 hKK.1 (by have := l1.K500; omega) 3 (Int32.ofNat D)
  have h5 : fi H3 5 = Int32.ofNat D := l1.2.1.2.2.2.2.1
  have h04 : fr (emH H3 mk3 3 (Int32.ofNat D)) 0 = some b := e2.1
  have l2 : Lv b tx n K D nt G3 (emH H3 mk3 3 (Int32.ofNat D)) R3 a3' (mk3 + 1) rm3 := ⟨l1.1, e2, l1.2.2.1, by omega, l1.2.2.2.2⟩
  simp only [Option.bind_some, z6_g5 st_A6, z6_C st_A6, h5, e1, c_g0 h04, z5_C st_A5, RG_21, l1.2.2.1.1.2.2, if_true, RisC]
  by_cases c2 : Sgn tx n a3' (59 : Int32).toInt
  rotate_left
  · obtain ⟨G4, R4, kd, t1, t2, t3, t4, t5⟩ := l_tsN (σ0 := σ0) (m := m) (ρ := ρ) l2 c2
    obtain ⟨v1, v2⟩ := t4.h0
    rw [t1, t2]
    simp only [Option.bind_some, if_true, t3, d130 _ t4.2.2.1 v2, z6_g5 st_A6, z6_p5 st_A6, st_w6]
    exact Or.inr ⟨G4, _, R4, a3', kd, rfl, rfl, t4.1, v1, ⟨t4.2.2.1, t4.2.2.2.1⟩, a4.trans (s5.trans (fr2.trans t5))⟩
  obtain ⟨G4, R4, t1, t2, t3, t4, t5, t6⟩ := l_tsY (σ0 := σ0) (m := m) (ρ := ρ) l2 c2
  rw [t1, t2]
  have h5' : fi (emH H3 mk3 3 (Int32.ofNat D)) 5 = Int32.ofNat D := h5
  have hd4 : fX12_readDef_130 (eR m ρ R3) m (fl R 29) = some (eR m ρ (dfR R4 D rm3 (fl R 29))) := by
    have h31 : fi R4 31 = Int32.ofNat D := t4.2.2.1.2.2.1
    have h32 : fi R4 32 = Int32.ofNat rm3 := t4.2.2.1.2.1
    unfold fX12_readDef_130
    simp only [RG_21, l1.2.2.1.1.2.2, Option.bind_some, Int32.le_refl, if_true, RisC, t3, RN_40, RG_31, h31, Rst_40, ix_n (show D < 2147483648 by omega), decide_eq_true hD, c32 (show D < 2147483648 by omega), RP_31, RN_37, RG_32, Rst_37, q_fi_sfi, q_fl_sfi, q_fr_sfi, q_ai_sfi, q_al_sfi, q_ar_sfi, q_ln_sfi, q_fi_sfl, q_fl_sfl, q_fr_sfl, q_ai_sfl, q_al_sfl, q_ar_sfl, q_ln_sfl, q_fi_sfr, q_fl_sfr, q_fr_sfr, q_ai_sfr, q_al_sfr, q_ar_sfr, q_ln_sfr, q_fi_sai, q_fl_sai, q_fr_sai, q_ai_sai, q_al_sai, q_ar_sai, q_ln_sai, q_fi_sal, q_fl_sal, q_fr_sal, q_ai_sal, q_al_sal, q_ar_sal, q_ln_sal, q_fi_sar, q_fl_sar, q_fr_sar, q_ai_sar, q_al_sar, q_ar_sar, q_ln_sar, reduceIte, Nat.reduceEqDiff, h32, suc32, ix_n (show D + 1 < 2147483648 by omega), decide_eq_true (show D + 1 < 11 by omega), c32 (show D + 1 < 2147483648 by omega)]
    rfl
  simp only [Option.bind_some, if_neg (show ¬ (1 : Int32) = 0 by decide), hd4, z6_g5 st_A6, z6_p5 st_A6, st_w6, h5', suc32]
  refine Or.inl ⟨G4, _, R4, a3' + 1, mk3, rm3, f, fl R 29, rfl, rfl, t4, ⟨fr1.trans e3, a4.trans (s5.trans (fr2.trans t5))⟩, by omega, fun j hj => ?_, fun j hj => ?_, ?_, emH_new _ _ _ _, ?_, hw⟩
  · have := m1.1
    rw [(emH_old (show j ≠ mk3 by omega)).1, (emH_old (show j ≠ mk3 by omega)).2]; exact o1 j hj
  · rw [t6, o2 j hj, s6, a5]
  · exact XM_cg m1 (fun j h1 h2 => emH_old (by omega))
  · exact RM_cg r1 (fun j h1 h2 => mWV_cg (by rw [t6]))
end
