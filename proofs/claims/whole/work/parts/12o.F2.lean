theorem xor_sg (a b : Int32) (hb : 0 ≤ b.toInt) : (0 ≤ a ^^^ b) ↔ 0 ≤ a.toInt := by
  have key : ∀ c : Int32, c.toBitVec.msb = decide (c.toInt < 0) := fun c => BitVec.msb_eq_toInt
  have e : (a ^^^ b).toBitVec.msb = (a.toBitVec.msb ^^ b.toBitVec.msb) := by rw [Int32.toBitVec_xor, BitVec.msb_xor]
  rw [key, key, key, decide_eq_false (show ¬ b.toInt < 0 by omega), Bool.xor_false] at e
  have e2 : ((a ^^^ b).toInt < 0) ↔ (a.toInt < 0) := by
    by_cases q : a.toInt < 0
    · rw [decide_eq_true q] at e; exact ⟨fun _ => q, fun _ => of_decide_eq_true e⟩
    · rw [decide_eq_false q] at e; exact ⟨fun r => absurd r (of_decide_eq_false e), fun r => absurd r q⟩
  rw [le32, i0]; omega
theorem dm32 {a b : Int32} (hb : 0 < b.toInt) : (a / b).toInt = a.toInt.tdiv b.toInt ∧ (a / b * b).toInt = a.toInt.tdiv b.toInt * b.toInt ∧ (a - a / b * b).toInt = a.toInt.tmod b.toInt := by
  have ha := r32 a
  have h2 := Int.mul_tdiv_add_tmod a.toInt b.toInt
  have hn : (a.toInt.tdiv b.toInt).natAbs ≤ a.toInt.natAbs := by rw [Int.natAbs_tdiv]; exact Nat.div_le_self _ _
  have hm1 := Int.lt_tmod_of_pos a.toInt hb
  have hm2 := Int.tmod_lt_of_pos a.toInt hb
  have hd : (a / b).toInt = a.toInt.tdiv b.toInt := by
    rw [Int32.toInt_div]
    rcases Int.le_total 0 a.toInt with q | q
    · have := Int.tdiv_nonneg q (Int.le_of_lt hb)
      exact Int.bmod_eq_of_le (by omega) (by omega)
    · have h3 : a.toInt.tdiv b.toInt ≤ 0 := by
        have := Int.tdiv_nonneg (a := -a.toInt) (by omega) (Int.le_of_lt hb)
        rw [Int.neg_tdiv] at this; omega
      exact Int.bmod_eq_of_le (by omega) (by omega)
  have hsg : (0 ≤ a.toInt → 0 ≤ a.toInt.tmod b.toInt) ∧ (a.toInt ≤ 0 → a.toInt.tmod b.toInt ≤ 0) := by
    refine ⟨fun q => Int.tmod_nonneg _ q, fun q => ?_⟩
    have := Int.tmod_nonneg b.toInt (a := -a.toInt) (by omega)
    rw [Int.neg_tmod] at this; omega
  have hq : (0 ≤ a.toInt → 0 ≤ a.toInt.tdiv b.toInt * b.toInt) ∧ (a.toInt ≤ 0 → a.toInt.tdiv b.toInt * b.toInt ≤ 0) := by
    refine ⟨fun q => Int.mul_nonneg (Int.tdiv_nonneg q (Int.le_of_lt hb)) (Int.le_of_lt hb), fun q => ?_⟩
    have h3 : a.toInt.tdiv b.toInt ≤ 0 := by
      have := Int.tdiv_nonneg (a := -a.toInt) (by omega) (Int.le_of_lt hb)
      rw [Int.neg_tdiv] at this; omega
    exact Int.mul_nonpos_of_nonpos_of_nonneg h3 (Int.le_of_lt hb)
  rw [Int.mul_comm] at h2
  have hm : (a / b * b).toInt = a.toInt.tdiv b.toInt * b.toInt := by
    rw [mul32, hd]; rw [hd]
    rcases Int.le_total 0 a.toInt with q | q
    · have := hq.1 q; have := hsg.1 q; omega
    · have := hq.2 q; have := hsg.2 q; omega
  refine ⟨hd, hm, ?_⟩
  have hs : a.toInt - a.toInt.tdiv b.toInt * b.toInt = a.toInt.tmod b.toInt := by omega
  have hb2 := r32 b
  rw [sub32, hm, hs]
  rw [hm, hs]; omega
theorem x_floorMod (σ : Hs) (a b : Int32) (hb : 0 < b.toInt) : ∃ r, fJ9_floorMod_7cf53_0 σ a b = some r ∧ r.toInt = a.toInt % b.toInt := by
  obtain ⟨d1, d2, d3⟩ := dm32 (a := a) hb
  have hb2 := r32 b
  have h2 := Int.mul_tdiv_add_tmod a.toInt b.toInt
  have hm1 := Int.lt_tmod_of_pos a.toInt hb
  unfold fJ9_floorMod_7cf53_0
  rw [if_neg (by rw [eq32, i0]; omega)]
  by_cases h : 0 ≤ a ^^^ b
  · rw [if_pos h]
    rw [xor_sg a b (by omega)] at h
    exact ⟨_, rfl, by rw [d3]; exact Int.tmod_eq_emod_of_nonneg h⟩
  · rw [if_neg h]
    rw [xor_sg a b (by omega)] at h
    have hsg : a.toInt.tmod b.toInt ≤ 0 := by
      have := Int.tmod_nonneg b.toInt (a := -a.toInt) (by omega)
      rw [Int.neg_tmod] at this; omega
    by_cases hz : a - a / b * b = 0
    · rw [if_pos hz]
      refine ⟨_, rfl, ?_⟩
      rw [eq32, i0, d3] at hz
      rw [d3, hz]
      have : a.toInt = b.toInt * a.toInt.tdiv b.toInt := by omega
      rw [this, Int.mul_emod_right]
    · rw [if_neg hz]
      rw [eq32, i0, d3] at hz
      refine ⟨_, rfl, ?_⟩
      rw [add32, d3]
      · have e : a.toInt = (a.toInt.tmod b.toInt + b.toInt) + b.toInt * (a.toInt.tdiv b.toInt - 1) := by rw [Int.mul_sub]; omega
        rw [e, Int.add_mul_emod_self_left]
        rw [← e]
        exact (Int.emod_eq_of_lt (by omega) (by omega)).symm
      · rw [d3]; omega
theorem x_floorDiv (σ : Hs) (a b : Int32) (hb : 1 < b.toInt) : ∃ r, fJ9_floorDiv_7cf53_0 σ a b = some r ∧ r.toInt = a.toInt / b.toInt := by
  obtain ⟨d1, d2, d3⟩ := dm32 (a := a) (b := b) (by omega)
  have hb2 := r32 b
  have ha := r32 a
  have h2 := Int.mul_tdiv_add_tmod a.toInt b.toInt
  have hm1 := Int.lt_tmod_of_pos a.toInt (show 0 < b.toInt by omega)
  unfold fJ9_floorDiv_7cf53_0
  rw [if_neg (by rw [eq32, i0]; omega)]
  by_cases h : 0 ≤ a ^^^ b
  · rw [if_pos h]
    rw [xor_sg a b (by omega)] at h
    exact ⟨_, rfl, by rw [d1]; exact Int.tdiv_eq_ediv_of_nonneg h⟩
  · rw [if_neg h]
    rw [xor_sg a b (by omega)] at h
    have hsg : a.toInt.tmod b.toInt ≤ 0 := by
      have := Int.tmod_nonneg b.toInt (a := -a.toInt) (by omega)
      rw [Int.neg_tmod] at this; omega
    by_cases hz : a / b * b = a
    · rw [if_pos hz]
      refine ⟨_, rfl, ?_⟩
      rw [eq32, d2] at hz
      rw [d1]
      have e : a.toInt / b.toInt = (a.toInt.tdiv b.toInt * b.toInt) / b.toInt := by rw [hz]
      rw [e, Int.mul_ediv_cancel _ (by omega)]
    · rw [if_neg hz]
      rw [eq32, d2] at hz
      refine ⟨_, rfl, ?_⟩
      have hn : (a.toInt.tdiv b.toInt).natAbs ≤ a.toInt.natAbs / 2 := by
        rw [Int.natAbs_tdiv]; exact Nat.div_le_div_left (by omega) (by omega)
      have e1 : (1 : Int32).toInt = 1 := rfl
      rw [sub32, d1, e1]
      · have e : a.toInt = (a.toInt.tmod b.toInt + b.toInt) + b.toInt * (a.toInt.tdiv b.toInt - 1) := by rw [Int.mul_sub]; omega
        have h3 : a.toInt / b.toInt = (a.toInt.tmod b.toInt + b.toInt) / b.toInt + (a.toInt.tdiv b.toInt - 1) := by
          rw [← Int.add_mul_ediv_left _ _ (show b.toInt ≠ 0 by omega), ← e]
        rw [h3, Int.ediv_eq_zero_of_lt (by rw [Int.mul_comm] at h2; omega) (by rw [Int.mul_comm] at h2; omega)]; omega
      · rw [d1, e1]; omega
def lco (f t s : Int32) : Int32 := if f.toInt < t.toInt ∧ 1440 * f.toInt + 60 ≤ s.toInt % 525600 ∧ s.toInt % 525600 < 1440 * t.toInt + 120 then s + 60 else s
theorem x_localOf {σ : Hs} {a : Nat} {G : Gs} (h : A2 a G σ) (hr : 0 ≤ (fi G 1).toInt ∧ (fi G 1).toInt ≤ (fi G 2).toInt ∧ (fi G 2).toInt ≤ 364) (s : Int32) : fX2_localOf_0 σ a s = some (lco (fi G 1) (fi G 2) s) := by
  obtain ⟨r, r1, r2⟩ := x_floorMod σ s 525600 (by decide)
  have e5 : (525600 : Int32).toInt = 525600 := rfl
  have e1440 : (1440 : Int32).toInt = 1440 := rfl
  have e60 : (60 : Int32).toInt = 60 := rfl
  have e120 : (120 : Int32).toInt = 120 := rfl
  rw [e5] at r2
  have e1 : (fi G 1 * 1440 + 60).toInt = 1440 * (fi G 1).toInt + 60 := by
    have m : (fi G 1 * 1440).toInt = (fi G 1).toInt * 1440 := by rw [mul32, e1440]; rw [e1440]; omega
    rw [add32, m, e60]; omega
    rw [m, e60]; omega
  have e2 : (fi G 2 * 1440 + 120).toInt = 1440 * (fi G 2).toInt + 120 := by
    have m : (fi G 2 * 1440).toInt = (fi G 2).toInt * 1440 := by rw [mul32, e1440]; rw [e1440]; omega
    rw [add32, m, e120]; omega
    rw [m, e120]; omega
  unfold fX2_localOf_0 fX2_isSummer_0
  simp only [z2_C h, r1, z2_g1 h, z2_g2 h, Option.bind_some, le32, lt32, e1, e2, r2, bb_0, bb_1]
  unfold lco
  by_cases q1 : (fi G 2).toInt ≤ (fi G 1).toInt
  · rw [if_pos q1, if_neg (by omega)]; rfl
  · rw [if_neg q1]
    by_cases q2 : s.toInt % 525600 < 1440 * (fi G 1).toInt + 60
    · rw [if_pos q2, if_neg (by omega)]; rfl
    · rw [if_neg q2]
      by_cases q3 : 1440 * (fi G 2).toInt + 120 ≤ s.toInt % 525600
      · rw [if_pos q3, if_neg (by omega)]; rfl
      · rw [if_neg q3, if_pos (by omega)]; rfl
theorem r_localOf {m : Nat} {ρ : Hs} {R : Gs} {l : Nat} (hl : l < 4) (hr : 0 ≤ (ai R 85 l).toInt ∧ (ai R 85 l).toInt ≤ (ai R 86 l).toInt ∧ (ai R 86 l).toInt ≤ 364) (s : Int32) : fX12_localOf_0 (eR m ρ R) m (Int32.ofNat l) s = some (lco (ai R 85 l) (ai R 86 l) s) := by
  obtain ⟨d, d1, d2⟩ := x_floorDiv (eR m ρ R) s 1440 (by decide)
  obtain ⟨y, y1, y2⟩ := x_floorMod (eR m ρ R) d 365 (by decide)
  obtain ⟨n, n1, n2⟩ := x_floorMod (eR m ρ R) s 1440 (by decide)
  have e365 : (365 : Int32).toInt = 365 := rfl
  have e1440 : (1440 : Int32).toInt = 1440 := rfl
  have e60 : (60 : Int32).toInt = 60 := rfl
  have e120 : (120 : Int32).toInt = 120 := rfl
  rw [e1440] at d2 n2
  rw [e365, d2] at y2
  have hs := r32 s
  have e1 : (1440 * ai R 85 l + 60).toInt = 1440 * (ai R 85 l).toInt + 60 := by
    have m : (1440 * ai R 85 l).toInt = 1440 * (ai R 85 l).toInt := by rw [mul32, e1440]; rw [e1440]; omega
    rw [add32, m, e60]; rw [m, e60]; omega
  have e2 : (1440 * ai R 86 l + 120).toInt = 1440 * (ai R 86 l).toInt + 120 := by
    have m : (1440 * ai R 86 l).toInt = 1440 * (ai R 86 l).toInt := by rw [mul32, e1440]; rw [e1440]; omega
    rw [add32, m, e120]; rw [m, e120]; omega
  have e3 : (1440 * y + n).toInt = s.toInt % 525600 := by
    have m : (1440 * y).toInt = 1440 * y.toInt := by rw [mul32, e1440]; rw [e1440]; omega
    rw [add32, m, y2, n2]; omega
    rw [m, y2, n2]; omega
  unfold fX12_localOf_0
  simp only [RisC, RG_0, RP_0, RG_1, RP_1, RN_2, Rld_2, Rst_2, RN_3, Rld_3, Rst_3, RN_4, Rld_4, Rst_4, RG_5, RP_5, RG_6, RP_6, RN_7, Rld_7, Rst_7, RN_8, Rld_8, Rst_8, RN_9, Rld_9, Rst_9, RN_10, Rld_10, Rst_10, RG_11, RP_11, RG_12, RP_12, RN_13, Rld_13, Rst_13, RN_14, Rld_14, Rst_14, RN_15, Rld_15, Rst_15, RN_16, Rld_16, Rst_16, RG_17, RP_17, RG_18, RP_18, RG_19, RP_19, RG_20, RP_20, RG_21, RP_21, RG_22, RP_22, RG_23, RP_23, RG_24, RP_24, RG_25, RP_25, RG_26, RP_26, RG_27, RP_27, RG_28, RP_28, RG_29, RP_29, RG_30, RP_30, RG_31, RP_31, RG_32, RP_32, RN_33, Rld_33, Rst_33, RN_34, Rld_34, Rst_34, RN_35, Rld_35, Rst_35, RN_36, Rld_36, Rst_36, RN_37, Rld_37, Rst_37, RN_38, Rld_38, Rst_38, RN_39, Rld_39, Rst_39, RN_40, Rld_40, Rst_40, RN_41, Rld_41, Rst_41, RN_42, Rld_42, Rst_42, RN_43, Rld_43, Rst_43, RN_44, Rld_44, Rst_44, RN_45, Rld_45, Rst_45, RG_46, RP_46, RG_47, RP_47, RG_48, RP_48, RG_49, RP_49, RN_50, Rld_50, Rst_50, RN_51, Rld_51, Rst_51, RN_52, Rld_52, Rst_52, RN_53, Rld_53, Rst_53, RN_54, Rld_54, Rst_54, RN_55, Rld_55, Rst_55, RG_56, RP_56, RG_57, RP_57, RN_58, Rld_58, Rst_58, RN_59, Rld_59, Rst_59, RN_60, Rld_60, Rst_60, RG_61, RP_61, RG_62, RP_62, RG_63, RP_63, RG_64, RP_64, RG_65, RP_65, RG_66, RP_66, RG_67, RP_67, RG_68, RP_68, RG_69, RP_69, RG_70, RP_70, RG_71, RP_71, RN_72, Rld_72, Rst_72, RN_73, Rld_73, Rst_73, RN_74, Rld_74, Rst_74, RN_75, Rld_75, Rst_75, RN_76, Rld_76, Rst_76, RN_77, Rld_77, Rst_77, RN_78, Rld_78, Rst_78, RN_79, Rld_79, Rst_79, RN_80, Rld_80, Rst_80, RN_81, Rld_81, Rst_81, RN_82, Rld_82, Rst_82, RN_83, Rld_83, Rst_83, RN_84, Rld_84, Rst_84, RN_85, Rld_85, Rst_85, RN_86, Rld_86, Rst_86, RG_87, RP_87, RG_88, RP_88, RG_89, RP_89, RG_90, RP_90, RG_91, RP_91, RG_92, RP_92, RG_93, RP_93, RN_94, Rld_94, Rst_94, RN_95, Rld_95, Rst_95, RG_96, RP_96, RN_97, Rld_97, Rst_97, RN_98, Rld_98, Rst_98, RN_99, Rld_99, Rst_99, RN_100, Rld_100, Rst_100, RG_101, RP_101, RN_102, Rld_102, Rst_102, RN_103, Rld_103, Rst_103, RN_104, Rld_104, Rst_104, RG_105, RP_105, d1, y1, n1, Option.bind_some, ix_n (show l < 2147483648 by omega), decide_eq_true hl, if_true, c32 (show l < 2147483648 by omega), le32, lt32, e1, e2, e3, eq32]
  unfold lco
  by_cases q1 : (ai R 85 l).toInt = (ai R 86 l).toInt
  · rw [if_pos q1, if_neg (by omega)]
  · rw [if_neg q1]
    by_cases q2 : s.toInt % 525600 < 1440 * (ai R 85 l).toInt + 60
    · rw [if_pos q2, if_neg (by omega)]
    · rw [if_neg q2]
      by_cases q3 : 1440 * (ai R 86 l).toInt + 120 ≤ s.toInt % 525600
      · rw [if_pos q3, if_neg (by omega)]
      · rw [if_neg q3, if_pos (by omega)]
section
variable {P : Par} {x : Nat} {own : Nat → Nat} {σ : Hs} {R : Gs} {st : Int32}
def st_oft (l d n : Int32) : Int32 := if ¬ (0 ≤ l.toInt ∧ l.toInt ≤ 3) then 2 else if ¬ (1 ≤ d.toInt ∧ d.toInt ≤ 9998) ∨ ¬ (0 ≤ n.toInt ∧ n.toInt ≤ 1439) then 5 else 0
def a_oft (f t v : Int32) : Int32 := (if lco f t v = v then 1 else 0) + (if lco f t (v - 60) = v then 1 else 0)
theorem r_oft (m : Nat) (ρ : Hs) (R : Gs) (hD : RLd R) (l d n : Int32) : QI m ρ R (st_oft l d n) (a_oft (ai R 85 l.toNatClampNeg) (ai R 86 l.toNatClampNeg) (1440 * d + n)) R (fX12_oft_0 (eR m ρ R) m l d n) := by
  unfold fX12_oft_0
  simp only [RP_1, RP_0, RisC, r_refuse, r_isLand, r_isI, Option.bind_some, b2i_0, Int64.reduceToInt]
  rcases Decidable.em (¬ (0 ≤ l.toInt ∧ l.toInt ≤ 3)) with hc1 | hc1
  · rw [if_pos hc1]; exact QI.no (by decide) (by unfold st_oft; (repeat' split) <;> (first | rfl | omega)) (fr1 R)
  rw [if_neg hc1]
  rcases Decidable.em (¬ (1 ≤ d.toInt ∧ d.toInt ≤ 9998)) with hc2 | hc2
  · rw [if_pos hc2]; exact QI.no (by decide) (by unfold st_oft; (repeat' split) <;> (first | rfl | omega)) (fr1 R)
  rw [if_neg hc2]
  rcases Decidable.em (¬ (0 ≤ n.toInt ∧ n.toInt ≤ 1439)) with hc3 | hc3
  · rw [if_pos hc3]; exact QI.no (by decide) (by unfold st_oft; (repeat' split) <;> (first | rfl | omega)) (fr1 R)
  rw [if_neg hc3]
  have hst : st_oft l d n = 0 := (by unfold st_oft; (repeat' split) <;> (first | rfl | omega))
  obtain ⟨li, rfl, hl1, hl2⟩ := get32 l (by omega)
  have hl : li < 4 := by omega
  have hr := fun s => r_localOf (m := m) (ρ := ρ) (R := sfi (sfi R 1 0) 0 0) hl (hD li hl).2 s
  unfold fX12_oft_79
  simp only [hr, Option.bind_some, RisC, c32 hl1, q_fi_sfi, q_fl_sfi, q_fr_sfi, q_ai_sfi, q_al_sfi, q_ar_sfi, q_ln_sfi, q_fi_sfl, q_fl_sfl, q_fr_sfl, q_ai_sfl, q_al_sfl, q_ar_sfl, q_ln_sfl, q_fi_sfr, q_fl_sfr, q_fr_sfr, q_ai_sfr, q_al_sfr, q_ar_sfr, q_ln_sfr, q_fi_sai, q_fl_sai, q_fr_sai, q_ai_sai, q_al_sai, q_ar_sai, q_ln_sai, q_fi_sal, q_fl_sal, q_fr_sal, q_ai_sal, q_al_sal, q_ar_sal, q_ln_sal, q_fi_sar, q_fl_sar, q_fr_sar, q_ai_sar, q_al_sar, q_ar_sar, q_ln_sar, reduceIte, Nat.reduceEqDiff]
  unfold a_oft
  by_cases q1 : lco (ai R 85 li) (ai R 86 li) (1440 * d + n) = 1440 * d + n
  · rw [if_pos q1, if_pos q1]
    by_cases q2 : lco (ai R 85 li) (ai R 86 li) (1440 * d + n - 60) = 1440 * d + n
    · rw [if_pos q2, if_pos q2]; exact QI.ok hst rfl rfl (fr1 R)
    · rw [if_neg q2, if_neg q2]; exact QI.ok hst rfl rfl (fr1 R)
  · rw [if_neg q1, if_neg q1]
    by_cases q2 : lco (ai R 85 li) (ai R 86 li) (1440 * d + n - 60) = 1440 * d + n
    · rw [if_pos q2, if_pos q2]; exact QI.ok hst rfl rfl (fr1 R)
    · rw [if_neg q2, if_neg q2]; exact QI.ok hst rfl rfl (fr1 R)
theorem k_oft (hP : P.ok) (hW : RW R) (h : XW P x own σ R st) (l d n : Int32) : KI P x σ (rf (st_oft l d n) (a_oft (ai R 85 l.toNatClampNeg) (ai R 86 l.toNatClampNeg) (1440 * d + n))) (st_oft l d n) R (fX11_oft_0 σ x l d n) := by
  obtain ⟨G, T, eC, eV, eN, eT, eS, h⟩ := h
  have hA := h.2.2.1.at
  have h58 : ∀ v, (v ≠ 0 ∨ (v = 0 ∧ 0 ≤ l.toInt ∧ l.toInt ≤ 3)) → KI P x σ (rf v (a_oft (ai R 85 l.toNatClampNeg) (ai R 86 l.toNatClampNeg) (1440 * d + n))) v R (fX11_oft_58 (e11 x σ (sfi G 0 v)) x l d n) := by
    intro v hv
    have hs := h.st hP hW v
    have hA2 : A11 x (sfi G 0 v) (e11 x σ (sfi G 0 v)) := A11_self _ _
    have hD := hs.2.2.2.2.2.2.2.2.2.2.2.2.2
    have l17 : ln (sfi G 0 v) 17 = 4 := hs.2.2.1.2.2.2.2.2.2.2.1.2.2
    unfold fX11_oft_58
    simp only [z11_g0 hA2, Option.bind_some, q_fi_sfi, q_fl_sfi, q_fr_sfi, q_ai_sfi, q_al_sfi, q_ar_sfi, q_ln_sfi, q_fi_sfl, q_fl_sfl, q_fr_sfl, q_ai_sfl, q_al_sfl, q_ar_sfl, q_ln_sfl, q_fi_sfr, q_fl_sfr, q_fr_sfr, q_ai_sfr, q_al_sfr, q_ar_sfr, q_ln_sfr, q_fi_sai, q_fl_sai, q_fr_sai, q_ai_sai, q_al_sai, q_ar_sai, q_ln_sai, q_fi_sal, q_fl_sal, q_fr_sal, q_ai_sal, q_al_sal, q_ar_sal, q_ln_sal, q_fi_sar, q_fl_sar, q_fr_sar, q_ai_sar, q_al_sar, q_ar_sar, q_ln_sar, reduceIte, Nat.reduceEqDiff]
    rcases hv with hv | ⟨hv, hv2⟩
    · rw [if_neg hv, show rf v _ = -1 from if_neg hv]; exact KI.no hP h hW _ _
    · rw [if_pos hv, show rf v _ = _ from if_pos hv]
      obtain ⟨li, rfl, hl1, hl2⟩ := get32 l hv2.1
      have hl : li < 4 := by omega
      obtain ⟨a, L, a1, a2, a3, a4, a5, a6⟩ := hD li hl
      have hr := hW.2.2.2.2.2.2.2.2.2.2.1 li hl
      have hx := fun s => x_localOf a2 (by rw [a5, a6]; exact hr.2) s
      unfold fX2_timesOf_0 fX2_timesOf_14
      simp only [z11_g17 hA2, z11_l17 hA2, Option.bind_some, l17, ix_n hl1, decide_eq_true hl, if_true, c32 hl1, a1, z2_C a2, hx, a5, a6]
      unfold a_oft
      by_cases q1 : lco (ai R 85 li) (ai R 86 li) (1440 * d + n) = 1440 * d + n
      · rw [if_pos q1, if_pos q1]
        by_cases q2 : lco (ai R 85 li) (ai R 86 li) (1440 * d + n - 60) = 1440 * d + n
        · rw [if_pos q2, if_pos q2]; exact KI.no hP h hW _ _
        · rw [if_neg q2, if_neg q2]; exact KI.no hP h hW _ _
      · rw [if_neg q1, if_neg q1]
        by_cases q2 : lco (ai R 85 li) (ai R 86 li) (1440 * d + n - 60) = 1440 * d + n
        · rw [if_pos q2, if_pos q2]; exact KI.no hP h hW _ _
        · rw [if_neg q2, if_neg q2]; exact KI.no hP h hW _ _
  have e9998 : (9998 : Int32).toInt = 9998 := rfl
  have e1439 : (1439 : Int32).toInt = 1439 := rfl
  unfold fX11_oft_0
  simp only [x_isLand, x_isWithin, Option.bind_some, b2i_0, i0, i1, e9998, e1439, z11_p0 hA]
  by_cases k1 : 0 ≤ l.toInt ∧ l.toInt ≤ 3
  · rw [if_neg (fun q => q k1)]
    by_cases k2 : 1 ≤ d.toInt ∧ d.toInt ≤ 9998
    · rw [if_neg (fun q => q k2)]
      by_cases k3 : 0 ≤ n.toInt ∧ n.toInt ≤ 1439
      · rw [if_neg (fun q => q k3), show st_oft l d n = 0 from (by unfold st_oft; (repeat' split) <;> (first | rfl | omega))]
        exact h58 0 (Or.inr ⟨rfl, k1⟩)
      · rw [if_pos k3, show st_oft l d n = 5 from (by unfold st_oft; (repeat' split) <;> (first | rfl | omega))]
        exact h58 5 (Or.inl (by decide))
    · rw [if_pos k2, show st_oft l d n = 5 from (by unfold st_oft; (repeat' split) <;> (first | rfl | omega))]
      exact h58 5 (Or.inl (by decide))
  · rw [if_pos k1, show st_oft l d n = 2 from (by unfold st_oft; (repeat' split) <;> (first | rfl | omega))]
    exact h58 2 (Or.inl (by decide))
theorem both_oft (hP : P.ok) (hI : Inv P x σ) (l d n : Int32) : ∃ v σ1 σ2, fX11_oft_0 σ x l d n = some (v, σ1) ∧ fX12_oft_0 σ1 (x + 20) l d n = some (v, σ2) ∧ Inv P x σ2 := by
  obtain ⟨own, R, hE, hX, hW, h6⟩ := hI
  obtain ⟨σ1, σ2, h1, h2, h3⟩ := arm_I (Y := fun s => fX12_oft_0 s (x + 20) l d n) hP h6 hE (by rw [ite_self_R]; exact k_oft hP hW hX l d n) (fun ρ => r_oft (x + 20) ρ R hW.2.2.2.2.2.2.2.2.2.2.1 l d n) (by rw [ite_self_R]; exact hW)
  exact ⟨_, σ1, σ2, h1, h2, h3⟩
end
