def st_rules (R : Gs) (n fm : Int32) : Int32 := if ¬ (0 ≤ n.toInt ∧ n.toInt ≤ (fi R 17).toInt) then 5 else if ¬ (0 ≤ fm.toInt ∧ fm.toInt ≤ 9999) then 5 else if nT R < 4 then 0 else 7
section
variable {P : Par} {x : Nat} {own : Nat → Nat} {σ : Hs} {R G : Gs} {st : Int32}
theorem x_rules {eT : Nat → Nat} (hA : A11 x G σ) (h3 : fi G 3 = fi R 17) (hT : PLs x own σ 3 (nT R) eT) (h4 : nT R ≤ 4) (n fm : Int32) : ∃ y, fX11_rules_0 σ x n fm = fX11_rules_25 σ x n fm x y ∧ ((gN σ x 13 11).bind fun vq1 => (isC σ vq1 1).bind fun iq2 => (fJx4a65c_size_8abf5_0 σ vq1).bind fun vq3 => fX11_moreStatus_0 σ y vq3 4) = some (st_rules R n fm) := by
  have c1 : isC σ (x + 10) 1 = some () := xJ_C hT
  have c2 : fJx4a65c_size_8abf5_0 σ (x + 10) = some (Int32.ofNat (nT R)) := xJ_size hT
  have hm : ∀ y : Int32, ((gN σ x 13 11).bind fun vq1 => (isC σ vq1 1).bind fun iq2 => (fJx4a65c_size_8abf5_0 σ vq1).bind fun vq3 => fX11_moreStatus_0 σ y vq3 4) = some (if y = 0 then 5 else if nT R < 4 then 0 else 7) := by
    intro y
    simp only [z11_g11 hA, c1, c2, Option.bind_some, fX11_moreStatus_0]
    rw [show (4 : Int32) = Int32.ofNat 4 from rfl]
    simp only [lt_n (show nT R < 2147483648 by omega) (show 4 < 2147483648 by decide)]
    (repeat' split) <;> rfl
  unfold fX11_rules_0 st_rules
  simp only [z11_g3 hA, h3, Option.bind_some, x_isWithin, x_isDay, b2i_0, i0]
  by_cases k1 : 0 ≤ n.toInt ∧ n.toInt ≤ (fi R 17).toInt
  · rw [if_neg (show ¬ ¬ (0 ≤ n.toInt ∧ n.toInt ≤ (fi R 17).toInt) from fun q => q k1), if_neg (show ¬ ¬ (0 ≤ n.toInt ∧ n.toInt ≤ (fi R 17).toInt) from fun q => q k1)]
    by_cases k2 : 0 ≤ fm.toInt ∧ fm.toInt ≤ 9999
    · rw [if_neg (show ¬ ¬ (0 ≤ fm.toInt ∧ fm.toInt ≤ 9999) from fun q => q k2), if_neg (show ¬ ¬ (0 ≤ fm.toInt ∧ fm.toInt ≤ 9999) from fun q => q k2)]
      exact ⟨1, rfl, (hm 1).trans (by rw [if_neg (by decide)])⟩
    · rw [if_pos (show ¬ (0 ≤ fm.toInt ∧ fm.toInt ≤ 9999) from k2), if_pos (show ¬ (0 ≤ fm.toInt ∧ fm.toInt ≤ 9999) from k2)]
      exact ⟨0, rfl, (hm 0).trans (by rw [if_pos rfl])⟩
  · rw [if_pos (show ¬ (0 ≤ n.toInt ∧ n.toInt ≤ (fi R 17).toInt) from k1), if_pos (show ¬ (0 ≤ n.toInt ∧ n.toInt ≤ (fi R 17).toInt) from k1)]
    exact ⟨0, rfl, (hm 0).trans (by rw [if_pos rfl])⟩
theorem r_rulesN {m : Nat} {ρ : Hs} (hW : RW R) {n fm : Int32} (h : st_rules R n fm ≠ 0) : fX12_rules_0 (eR m ρ R) m n fm = some (-1, eR m ρ (sfi (sfi (sfi R 1 0) 0 0) 0 (st_rules R n fm))) := by
  obtain ⟨tp, t1, t2⟩ := hW.2.2.2.2.2.2.2.2.1
  have h4 := hW.2.2.2.2.2.2.1.2
  have h30 := hW.2.2.2.2.2.2.1.1.1
  unfold fX12_rules_0
  unfold st_rules at *
  have e4 : (Int32.ofNat (nT R) = 4) = (nT R = 4) := by rw [show (4 : Int32) = Int32.ofNat 4 from rfl]; exact eqn (by omega) (by decide)
  simp only [RisC, RG_0, RP_0, RG_1, RP_1, RN_2, Rld_2, Rst_2, RN_3, Rld_3, Rst_3, RN_4, Rld_4, Rst_4, RG_5, RP_5, RG_6, RP_6, RN_7, Rld_7, Rst_7, RN_8, Rld_8, Rst_8, RN_9, Rld_9, Rst_9, RN_10, Rld_10, Rst_10, RG_11, RP_11, RG_12, RP_12, RN_13, Rld_13, Rst_13, RN_14, Rld_14, Rst_14, RN_15, Rld_15, Rst_15, RN_16, Rld_16, Rst_16, RG_17, RP_17, RG_18, RP_18, RG_19, RP_19, RG_20, RP_20, RG_21, RP_21, RG_22, RP_22, RG_23, RP_23, RG_24, RP_24, RG_25, RP_25, RG_26, RP_26, RG_27, RP_27, RG_28, RP_28, RG_29, RP_29, RG_30, RP_30, RG_31, RP_31, RG_32, RP_32, RN_33, Rld_33, Rst_33, RN_34, Rld_34, Rst_34, RN_35, Rld_35, Rst_35, RN_36, Rld_36, Rst_36, RN_37, Rld_37, Rst_37, RN_38, Rld_38, Rst_38, RN_39, Rld_39, Rst_39, RN_40, Rld_40, Rst_40, RN_41, Rld_41, Rst_41, RN_42, Rld_42, Rst_42, RN_43, Rld_43, Rst_43, RN_44, Rld_44, Rst_44, RN_45, Rld_45, Rst_45, RG_46, RP_46, RG_47, RP_47, RG_48, RP_48, RG_49, RP_49, RN_50, Rld_50, Rst_50, RN_51, Rld_51, Rst_51, RN_52, Rld_52, Rst_52, RN_53, Rld_53, Rst_53, RN_54, Rld_54, Rst_54, RN_55, Rld_55, Rst_55, RG_56, RP_56, RG_57, RP_57, RN_58, Rld_58, Rst_58, RN_59, Rld_59, Rst_59, RN_60, Rld_60, Rst_60, RG_61, RP_61, RG_62, RP_62, RG_63, RP_63, RG_64, RP_64, RG_65, RP_65, RG_66, RP_66, RG_67, RP_67, RG_68, RP_68, RG_69, RP_69, RG_70, RP_70, RG_71, RP_71, RN_72, Rld_72, Rst_72, RN_73, Rld_73, Rst_73, RN_74, Rld_74, Rst_74, RN_75, Rld_75, Rst_75, RN_76, Rld_76, Rst_76, RN_77, Rld_77, Rst_77, RN_78, Rld_78, Rst_78, RN_79, Rld_79, Rst_79, RN_80, Rld_80, Rst_80, RN_81, Rld_81, Rst_81, RN_82, Rld_82, Rst_82, RN_83, Rld_83, Rst_83, RN_84, Rld_84, Rst_84, RN_85, Rld_85, Rst_85, RN_86, Rld_86, Rst_86, RG_87, RP_87, RG_88, RP_88, RG_89, RP_89, RG_90, RP_90, RG_91, RP_91, RG_92, RP_92, RG_93, RP_93, RN_94, Rld_94, Rst_94, RN_95, Rld_95, Rst_95, RG_96, RP_96, RN_97, Rld_97, Rst_97, RN_98, Rld_98, Rst_98, RN_99, Rld_99, Rst_99, RN_100, Rld_100, Rst_100, RG_101, RP_101, RN_102, Rld_102, Rst_102, RN_103, Rld_103, Rst_103, RN_104, Rld_104, Rst_104, RG_105, RP_105, q_fi_sfi, q_fl_sfi, q_fr_sfi, q_ai_sfi, q_al_sfi, q_ar_sfi, q_ln_sfi, q_fi_sfl, q_fl_sfl, q_fr_sfl, q_ai_sfl, q_al_sfl, q_ar_sfl, q_ln_sfl, q_fi_sfr, q_fl_sfr, q_fr_sfr, q_ai_sfr, q_al_sfr, q_ar_sfr, q_ln_sfr, q_fi_sai, q_fl_sai, q_fr_sai, q_ai_sai, q_al_sai, q_ar_sai, q_ln_sai, q_fi_sal, q_fl_sal, q_fr_sal, q_ai_sal, q_al_sal, q_ar_sal, q_ln_sal, q_fi_sar, q_fl_sar, q_fr_sar, q_ai_sar, q_al_sar, q_ar_sar, q_ln_sar, reduceIte, Nat.reduceEqDiff, Option.bind_some, r_isDay, r_refuse, b2i_0, lt32, i0, h30, e4]
  by_cases k1 : 0 ≤ n.toInt ∧ n.toInt ≤ (fi R 17).toInt
  · rw [if_neg (show ¬ n.toInt < 0 by omega), if_neg (show ¬ (fi R 17).toInt < n.toInt by omega)]
    simp only [k1, not_true, if_false, and_self]
    by_cases k2 : 0 ≤ fm.toInt ∧ fm.toInt ≤ 9999
    · rw [if_neg (fun q => q k2)]
      simp only [k2, not_true, if_false, and_self]
      by_cases k3 : nT R = 4
      · rw [if_pos k3, if_neg (by omega)]
      · exfalso
        rw [if_neg (fun q => q k1), if_neg (fun q => q k2), if_pos (by omega)] at h
        exact h rfl
    · rw [if_pos k2, if_pos k2]
  · rw [if_pos k1]
    by_cases k : n.toInt < 0
    · rw [if_pos k]
    · rw [if_neg k, if_pos (by omega)]
theorem r_rulesY {m : Nat} {ρ : Hs} (hW : RW R) {n : Nat} (hn : n ≤ 500) {fm : Int32} (h : st_rules R (Int32.ofNat n) fm = 0) {R' : Gs} (hN : fX12_next_0 (eR m ρ (opR (sfi (sfi R 1 0) 0 0) n)) m = some (eR m ρ R')) : fX12_rules_0 (eR m ρ R) m (Int32.ofNat n) fm = fX12_rules_96 (eR m ρ R') m fm := by
  have h4 := hW.2.2.2.2.2.2.1.2
  have h30 := hW.2.2.2.2.2.2.1.1.1
  unfold st_rules at h
  have e4 : (Int32.ofNat (nT R) = 4) = (nT R = 4) := by rw [show (4 : Int32) = Int32.ofNat 4 from rfl]; exact eqn (by omega) (by decide)
  by_cases k1 : 0 ≤ (Int32.ofNat n).toInt ∧ (Int32.ofNat n).toInt ≤ (fi R 17).toInt
  · rw [if_neg (fun q => q k1)] at h
    by_cases k2 : 0 ≤ fm.toInt ∧ fm.toInt ≤ 9999
    · rw [if_neg (fun q => q k2)] at h
      by_cases k3 : nT R < 4
      · unfold fX12_rules_0
        simp only [RisC, RG_0, RP_0, RG_1, RP_1, RN_2, Rld_2, Rst_2, RN_3, Rld_3, Rst_3, RN_4, Rld_4, Rst_4, RG_5, RP_5, RG_6, RP_6, RN_7, Rld_7, Rst_7, RN_8, Rld_8, Rst_8, RN_9, Rld_9, Rst_9, RN_10, Rld_10, Rst_10, RG_11, RP_11, RG_12, RP_12, RN_13, Rld_13, Rst_13, RN_14, Rld_14, Rst_14, RN_15, Rld_15, Rst_15, RN_16, Rld_16, Rst_16, RG_17, RP_17, RG_18, RP_18, RG_19, RP_19, RG_20, RP_20, RG_21, RP_21, RG_22, RP_22, RG_23, RP_23, RG_24, RP_24, RG_25, RP_25, RG_26, RP_26, RG_27, RP_27, RG_28, RP_28, RG_29, RP_29, RG_30, RP_30, RG_31, RP_31, RG_32, RP_32, RN_33, Rld_33, Rst_33, RN_34, Rld_34, Rst_34, RN_35, Rld_35, Rst_35, RN_36, Rld_36, Rst_36, RN_37, Rld_37, Rst_37, RN_38, Rld_38, Rst_38, RN_39, Rld_39, Rst_39, RN_40, Rld_40, Rst_40, RN_41, Rld_41, Rst_41, RN_42, Rld_42, Rst_42, RN_43, Rld_43, Rst_43, RN_44, Rld_44, Rst_44, RN_45, Rld_45, Rst_45, RG_46, RP_46, RG_47, RP_47, RG_48, RP_48, RG_49, RP_49, RN_50, Rld_50, Rst_50, RN_51, Rld_51, Rst_51, RN_52, Rld_52, Rst_52, RN_53, Rld_53, Rst_53, RN_54, Rld_54, Rst_54, RN_55, Rld_55, Rst_55, RG_56, RP_56, RG_57, RP_57, RN_58, Rld_58, Rst_58, RN_59, Rld_59, Rst_59, RN_60, Rld_60, Rst_60, RG_61, RP_61, RG_62, RP_62, RG_63, RP_63, RG_64, RP_64, RG_65, RP_65, RG_66, RP_66, RG_67, RP_67, RG_68, RP_68, RG_69, RP_69, RG_70, RP_70, RG_71, RP_71, RN_72, Rld_72, Rst_72, RN_73, Rld_73, Rst_73, RN_74, Rld_74, Rst_74, RN_75, Rld_75, Rst_75, RN_76, Rld_76, Rst_76, RN_77, Rld_77, Rst_77, RN_78, Rld_78, Rst_78, RN_79, Rld_79, Rst_79, RN_80, Rld_80, Rst_80, RN_81, Rld_81, Rst_81, RN_82, Rld_82, Rst_82, RN_83, Rld_83, Rst_83, RN_84, Rld_84, Rst_84, RN_85, Rld_85, Rst_85, RN_86, Rld_86, Rst_86, RG_87, RP_87, RG_88, RP_88, RG_89, RP_89, RG_90, RP_90, RG_91, RP_91, RG_92, RP_92, RG_93, RP_93, RN_94, Rld_94, Rst_94, RN_95, Rld_95, Rst_95, RG_96, RP_96, RN_97, Rld_97, Rst_97, RN_98, Rld_98, Rst_98, RN_99, Rld_99, Rst_99, RN_100, Rld_100, Rst_100, RG_101, RP_101, RN_102, Rld_102, Rst_102, RN_103, Rld_103, Rst_103, RN_104, Rld_104, Rst_104, RG_105, RP_105, q_fi_sfi, q_fl_sfi, q_fr_sfi, q_ai_sfi, q_al_sfi, q_ar_sfi, q_ln_sfi, q_fi_sfl, q_fl_sfl, q_fr_sfl, q_ai_sfl, q_al_sfl, q_ar_sfl, q_ln_sfl, q_fi_sfr, q_fl_sfr, q_fr_sfr, q_ai_sfr, q_al_sfr, q_ar_sfr, q_ln_sfr, q_fi_sai, q_fl_sai, q_fr_sai, q_ai_sai, q_al_sai, q_ar_sai, q_ln_sai, q_fi_sal, q_fl_sal, q_fr_sal, q_ai_sal, q_al_sal, q_ar_sal, q_ln_sal, q_fi_sar, q_fl_sar, q_fr_sar, q_ai_sar, q_al_sar, q_ar_sar, q_ln_sar, reduceIte, Nat.reduceEqDiff, Option.bind_some, r_isDay, b2i_0, lt32, i0, h30, e4]
        rw [if_neg (show ¬ (Int32.ofNat n).toInt < 0 by omega), if_neg (show ¬ (fi R 17).toInt < (Int32.ofNat n).toInt by omega), if_neg (fun q => q k2), if_neg (by omega)]
        simp only [RisC, RG_0, RP_0, RG_1, RP_1, RN_2, Rld_2, Rst_2, RN_3, Rld_3, Rst_3, RN_4, Rld_4, Rst_4, RG_5, RP_5, RG_6, RP_6, RN_7, Rld_7, Rst_7, RN_8, Rld_8, Rst_8, RN_9, Rld_9, Rst_9, RN_10, Rld_10, Rst_10, RG_11, RP_11, RG_12, RP_12, RN_13, Rld_13, Rst_13, RN_14, Rld_14, Rst_14, RN_15, Rld_15, Rst_15, RN_16, Rld_16, Rst_16, RG_17, RP_17, RG_18, RP_18, RG_19, RP_19, RG_20, RP_20, RG_21, RP_21, RG_22, RP_22, RG_23, RP_23, RG_24, RP_24, RG_25, RP_25, RG_26, RP_26, RG_27, RP_27, RG_28, RP_28, RG_29, RP_29, RG_30, RP_30, RG_31, RP_31, RG_32, RP_32, RN_33, Rld_33, Rst_33, RN_34, Rld_34, Rst_34, RN_35, Rld_35, Rst_35, RN_36, Rld_36, Rst_36, RN_37, Rld_37, Rst_37, RN_38, Rld_38, Rst_38, RN_39, Rld_39, Rst_39, RN_40, Rld_40, Rst_40, RN_41, Rld_41, Rst_41, RN_42, Rld_42, Rst_42, RN_43, Rld_43, Rst_43, RN_44, Rld_44, Rst_44, RN_45, Rld_45, Rst_45, RG_46, RP_46, RG_47, RP_47, RG_48, RP_48, RG_49, RP_49, RN_50, Rld_50, Rst_50, RN_51, Rld_51, Rst_51, RN_52, Rld_52, Rst_52, RN_53, Rld_53, Rst_53, RN_54, Rld_54, Rst_54, RN_55, Rld_55, Rst_55, RG_56, RP_56, RG_57, RP_57, RN_58, Rld_58, Rst_58, RN_59, Rld_59, Rst_59, RN_60, Rld_60, Rst_60, RG_61, RP_61, RG_62, RP_62, RG_63, RP_63, RG_64, RP_64, RG_65, RP_65, RG_66, RP_66, RG_67, RP_67, RG_68, RP_68, RG_69, RP_69, RG_70, RP_70, RG_71, RP_71, RN_72, Rld_72, Rst_72, RN_73, Rld_73, Rst_73, RN_74, Rld_74, Rst_74, RN_75, Rld_75, Rst_75, RN_76, Rld_76, Rst_76, RN_77, Rld_77, Rst_77, RN_78, Rld_78, Rst_78, RN_79, Rld_79, Rst_79, RN_80, Rld_80, Rst_80, RN_81, Rld_81, Rst_81, RN_82, Rld_82, Rst_82, RN_83, Rld_83, Rst_83, RN_84, Rld_84, Rst_84, RN_85, Rld_85, Rst_85, RN_86, Rld_86, Rst_86, RG_87, RP_87, RG_88, RP_88, RG_89, RP_89, RG_90, RP_90, RG_91, RP_91, RG_92, RP_92, RG_93, RP_93, RN_94, Rld_94, Rst_94, RN_95, Rld_95, Rst_95, RG_96, RP_96, RN_97, Rld_97, Rst_97, RN_98, Rld_98, Rst_98, RN_99, Rld_99, Rst_99, RN_100, Rld_100, Rst_100, RG_101, RP_101, RN_102, Rld_102, Rst_102, RN_103, Rld_103, Rst_103, RN_104, Rld_104, Rst_104, RG_105, RP_105, q_fi_sfi, q_fl_sfi, q_fr_sfi, q_ai_sfi, q_al_sfi, q_ar_sfi, q_ln_sfi, q_fi_sfl, q_fl_sfl, q_fr_sfl, q_ai_sfl, q_al_sfl, q_ar_sfl, q_ln_sfl, q_fi_sfr, q_fl_sfr, q_fr_sfr, q_ai_sfr, q_al_sfr, q_ar_sfr, q_ln_sfr, q_fi_sai, q_fl_sai, q_fr_sai, q_ai_sai, q_al_sai, q_ar_sai, q_ln_sai, q_fi_sal, q_fl_sal, q_fr_sal, q_ai_sal, q_al_sal, q_ar_sal, q_ln_sal, q_fi_sar, q_fl_sar, q_fr_sar, q_ai_sar, q_al_sar, q_ar_sar, q_ln_sar, reduceIte, Nat.reduceEqDiff, true_or, if_true, show ix 0 11 = true from rfl, show (0 : Int32).toNatClampNeg = 0 from rfl, Option.bind_some, RisC]
        rw [show eR m ρ (sai (sfi (sfi (sfi (sfi (sfi (sfi (sfi (sfi (sfi R 1 0) 0 0) 18 (Int32.ofNat n)) 23 0) 17 0) 26 0) 21 0) 31 0) 32 0) 37 (up (ai R 37) 0 0)) = eR m ρ (opR (sfi (sfi R 1 0) 0 0) n) from rfl, hN, Option.bind_some]
      · rw [if_neg k3] at h; exact absurd h (by decide)
    · rw [if_pos k2] at h; exact absurd h (by decide)
  · rw [if_pos k1] at h; exact absurd h (by decide)
end
