section
variable {b : Nat} {σ0 : Hs} {m : Nat} {ρ : Hs} {tx : Nat → Int} {n K : Nat} {G H R : Gs} {a mk L kd l : Nat}
theorem q_simple (h : Lq b tx n K G H R a mk L) (hL : L < 40) (hk : kA true tx n a = 1) {k lev : Nat} (hk4 : k < 4) (KK : (Hs → Nat → Int32 → Option Hs) × (Hs → Nat → Int32 → Option Hs) × (Hs → Nat → Int32 → Option Hs)) (KR : Hs → Nat → Int32 → Option Hs) : Zq b σ0 m ρ tx n K H R a mk L (CS lev mk L) (fX4_readLine_79 KK (st4 b σ0 G H) (b + 6) (Int32.ofNat lev) (Int32.ofNat k)) (fX12_readLine_185 KR (eR m ρ R) m (Int32.ofNat lev) (Int32.ofNat k)) := by
  have h0 : fr (sfi H 5 (Int32.ofNat (L + 1))) 0 = some b := h.2.1.1
  have h5 : fi H 5 = Int32.ofNat L := h.2.1.2.2.2
  have h62 : fi R 62 = Int32.ofNat L := h.2.2.1.2
  have hm := h.2.2.2.1
  have hR := h.2.2.1.1
  obtain ⟨G1, R1, e1, e2, e3, e4⟩ := q_begin (σ0 := σ0) (m := m) (ρ := ρ) h hL (k := k) hk
  have ek : ∀ j : Nat, j < 5 → (Int32.ofNat k = Int32.ofNat j) = (k = j) := fun j hj => eqn (by omega) (by omega)
  have ek0 : (Int32.ofNat k = 0) = (k = 0) := ek 0 (by decide)
  have ek1 : (Int32.ofNat k = 1) = (k = 1) := ek 1 (by decide)
  have ek3 : (Int32.ofNat k = 3) = (k = 3) := ek 3 (by decide)
  have ek4 : (Int32.ofNat k = 4) = (k = 4) := ek 4 (by decide)
  have F1 : Fr (62 :: 75 :: 76 :: QLk) R R1 := ((bgR_fr R L k).mono (by decide)).trans (e4.mono (by decide))
  have b75 : ai R1 75 = up (ai R 75) L (Int32.ofNat k) := (e4.ai 75 (by decide))
  have b76 : ai R1 76 = up (ai R 76) L 0 := (e4.ai 76 (by decide))
  have hX : fX4_readLine_79 KK (st4 b σ0 G H) (b + 6) (Int32.ofNat lev) (Int32.ofNat k) = (fX4_readOperand_0 (st4 b σ0 G1 (sfi H 5 (Int32.ofNat (L + 1)))) (b + 6) (Int32.ofNat k)).bind fun vq7 => (isC vq7.2 (b + 6) 6).bind fun iq8 => (fX4_emit_0 vq7.2 (b + 6) (Int32.ofNat k) vq7.1 (Int32.ofNat lev)).bind fun sq9 => (gN sq9 (b + 6) 6 0).bind fun vq10 => (isC sq9 vq10 7).bind fun iq11 => (fX5_takeSign_0 sq9 vq10 59).bind fun sq12 => some sq12 := by
    unfold fX4_readLine_79
    simp only [z4_g5 s4_A4, h5, Option.bind_some, z4_p5 s4_A4, s4_w4, suc32, p_g0 h0, z5_C s4_A5, e1, ek4, if_neg (show ¬ k = 4 by omega), z4_C s4_A4]
  have hY : fX12_readLine_185 KR (eR m ρ R) m (Int32.ofNat lev) (Int32.ofNat k) = if k = 0 then ((fX12_readNumber_0 (eR m ρ R1) m 1 3600).bind fun vq15 => (stI 0 vq15.2 (m + 38) (Int32.ofNat L) vq15.1).bind fun sq16 => fX12_readLine_318 KR sq16 m (Int32.ofNat k) (Int32.ofNat L)) else if k = 1 then ((fX12_readTime_0 (eR m ρ R1) m (Int32.ofNat L)).bind fun sq12 => fX12_readLine_318 KR sq12 m (Int32.ofNat k) (Int32.ofNat L)) else fX12_readLine_318 KR (eR m ρ R1) m (Int32.ofNat k) (Int32.ofNat L) := by
    have hb : fX12_next_0 (eR m ρ (sai (sai (sfi R 62 (Int32.ofNat (L + 1))) 75 (up (ai R 75) L (Int32.ofNat k))) 76 (up (ai R 76) L 0))) m = some (eR m ρ R1) := e2
    unfold fX12_readLine_185
    simp only [RG_21, hR.2.2, Int32.le_refl, if_true, Option.bind_some, RG_62, h62, RP_62, suc32, RN_75, RN_76, Rst_75, Rst_76, q_fi_sfi, q_fl_sfi, q_fr_sfi, q_ai_sfi, q_al_sfi, q_ar_sfi, q_ln_sfi, q_fi_sfl, q_fl_sfl, q_fr_sfl, q_ai_sfl, q_al_sfl, q_ar_sfl, q_ln_sfl, q_fi_sfr, q_fl_sfr, q_fr_sfr, q_ai_sfr, q_al_sfr, q_ar_sfr, q_ln_sfr, q_fi_sai, q_fl_sai, q_fr_sai, q_ai_sai, q_al_sai, q_ar_sai, q_ln_sai, q_fi_sal, q_fl_sal, q_fr_sal, q_ai_sal, q_al_sal, q_ar_sal, q_ln_sal, q_fi_sar, q_fl_sar, q_fr_sar, q_ai_sar, q_al_sar, q_ar_sar, q_ln_sar, reduceIte, Nat.reduceEqDiff, ix_n (show L < 2147483648 by omega), decide_eq_true hL, c32 (show L < 2147483648 by omega), RisC]
    rw [hb]
    simp only [Option.bind_some, ek4, ek0, ek1, if_neg (show ¬ k = 4 by omega), RN_76, RisC]
    by_cases c0 : k = 0
    · rw [if_pos c0, if_pos c0]; simp only [if_neg (show ¬ k = 1 by omega)]
    · rw [if_neg c0, if_neg c0]
  have h318 : ∀ R2, k ≠ 3 → fX12_readLine_318 KR (eR m ρ R2) m (Int32.ofNat k) (Int32.ofNat L) = (fX12_readSign_0 (eR m ρ R2) m 59).bind fun sq9 => (gN sq9 m 14 77).bind fun vq10 => (gI sq9 m 14 62).bind fun vq11 => (stI 0 sq9 vq10 (Int32.ofNat L) vq11).bind fun sq12 => some sq12 := by
    intro R2 hk3
    unfold fX12_readLine_318
    simp only [ek3, if_neg hk3, RisC, Option.bind_some]
  rw [hX, hY]
  unfold fX4_readOperand_0
  simp only [ek0, ek1, ek3, z4_C s4_A4, Option.bind_some]
  by_cases c0 : k = 0
  · rw [if_pos c0, if_pos c0]
    rcases q_num (σ0 := σ0) (m := m) (ρ := ρ) e3 1 3600 with ⟨G2, R2, a2, v, x2, y2, l2, f2, g2, lo, hi⟩ | ⟨G2, R2, a2, k2, v, x2, y2, d2, f2, g2⟩
    · rw [x2, y2]
      simp only [Option.bind_some, z4_C s4_A4, r_s76 hL, h318 _ (show k ≠ 3 by omega)]
      refine q_fin hL hm hk4 (w := v) (fun _ => ⟨rfl, lo, hi⟩) (fun q => by omega) (fun q => by omega) (Lq_fr l2 (s76_fr R2 L v) (by decide)) (by omega) ((F1.trans (f2.mono (by decide))).trans ((s76_fr R2 L v).mono (by decide))) ((f2.ai 75 (by decide)).trans b75) ⟨up_same _ _ _, fun j hj => ?_⟩
      show up (ai R2 76) L v j = _
      rw [up_ne _ _ _ _ (by omega), f2.ai 76 (by decide), b76, up_ne _ _ _ _ (by omega)]
    · rw [x2, y2]
      simp only [Option.bind_some, z4_C s4_A4, r_s76 hL, h318 _ (show k ≠ 3 by omega)]
      exact q_finD hL (Dq_fr d2 (s76_fr R2 L 0) (by decide)) (by omega) ((F1.trans (f2.mono (by decide))).trans ((s76_fr R2 L 0).mono (by decide)))
  rw [if_neg c0, if_neg c0]
  by_cases c1 : k = 1
  · rw [if_pos c1, if_pos c1]
    obtain ⟨G2, R2, v, w, x2, y2, f2, alt⟩ := q_time (σ0 := σ0) (m := m) (ρ := ρ) e3 hL
    rw [x2, y2]
    simp only [Option.bind_some, z4_C s4_A4, h318 _ (show k ≠ 3 by omega)]
    rcases alt with ⟨a2, l2, g2, rfl, lo, hi⟩ | ⟨a2, k2, d2, g2⟩
    · refine q_fin hL hm hk4 (w := v) (fun q => by omega) (fun _ => ⟨rfl, lo, hi⟩) (fun q => by omega) (Lq_fr l2 (s76_fr R2 L v) (by decide)) (by omega) ((F1.trans (f2.mono (by decide))).trans ((s76_fr R2 L v).mono (by decide))) ((f2.ai 75 (by decide)).trans b75) ⟨up_same _ _ _, fun j hj => ?_⟩
      show up (ai R2 76) L v j = _
      rw [up_ne _ _ _ _ (by omega), f2.ai 76 (by decide), b76, up_ne _ _ _ _ (by omega)]
    · exact q_finD hL (Dq_fr d2 (s76_fr R2 L w) (by decide)) (by omega) ((F1.trans (f2.mono (by decide))).trans ((s76_fr R2 L w).mono (by decide)))
  rw [if_neg c1, if_neg c1]
  by_cases c3 : k = 3
  · rw [if_pos c3]
    obtain ⟨G2, R2, v, x2, y2, f2, alt⟩ := q_how (σ0 := σ0) (m := m) (ρ := ρ) e3 hL
    rw [x2]
    unfold fX12_readLine_318
    simp only [ek3, if_pos c3, Option.bind_some, z4_C s4_A4, RisC, y2]
    rcases alt with ⟨a2, w, l2, g2, hw, rfl, b2⟩ | ⟨a2, k2, d2, g2⟩
    · refine q_fin hL hm hk4 (w := Int32.ofNat w) (fun q => by omega) (fun q => by omega) (fun _ => ⟨w, hw, rfl, rfl⟩) l2 (by omega) (F1.trans (f2.mono (by decide))) ((f2.ai 75 (by decide)).trans b75) ⟨by rw [b2, up_same], fun j hj => ?_⟩
      rw [b2, up_ne _ _ _ _ (by omega), b76, up_ne _ _ _ _ (by omega)]
    · exact q_finD hL d2 (by omega) (F1.trans (f2.mono (by decide)))
  rw [if_neg c3]
  simp only [Option.bind_some, z4_C s4_A4, h318 _ c3]
  refine q_fin hL hm hk4 (w := 0) (fun q => absurd q c0) (fun q => absurd q c1) (fun q => absurd q c3) e3 (by omega) F1 b75 ⟨by rw [b76, up_same], fun j hj => ?_⟩
  rw [b76, up_ne _ _ _ _ (by omega)]
end
