def RLp (R : Gs) (nL : Nat) : Prop := fi R 5 = Int32.ofNat nL ∧ nL ≤ 20 ∧ Tok nL (ai R 7) (ai R 8)
def tru (R : Gs) (nL : Nat) : List (Int × Int) := lst nL (ai R 7) (ai R 8)
def RN (R : Gs) (nN : Nat) : Prop := fi R 48 = Int32.ofNat nN ∧ nN ≤ 60 ∧ ∀ i, i < nN → (0 ≤ (ai R 53 i).toInt ∧ (ai R 53 i).toInt ≤ 9999) ∧ ((ai R 54 i).toInt = 1 ∨ (ai R 54 i).toInt = -1) ∧ 0 ≤ (ai R 55 i).toInt ∧ (ai R 55 i).toInt ≤ 900000000
def RSt (R : Gs) (nS : Nat) : Prop := fi R 12 = Int32.ofNat nS ∧ nS ≤ 60 ∧ ∀ i, i < nS → 0 ≤ (ai R 15 i).toInt ∧ (ai R 15 i).toInt ≤ 900000000
def SCR : List Nat := [0, 1, 6, 9, 10, 18, 21, 22, 23, 24, 25, 26, 27, 28, 29, 31, 32, 37, 38, 40, 41, 42, 43, 44, 45, 46, 60, 62, 63, 64, 65, 66, 67, 75, 76, 77, 78, 92, 93, 94, 95, 96, 97, 98, 99, 100, 101, 102, 103, 104, 105]
def SB : List Nat := [6, 9, 10, 41, 42, 43, 44, 45, 46, 92, 93, 101]
abbrev itm (R : Gs) (nL i : Nat) : Prop := (ai R 55 i).toInt < bg (tru R nL) ((ai R 53 i).toInt + 1)

theorem RLp.fr {R R' : Gs} {n : Nat} (hF : Fr SCR R R') (h : RLp R n) : RLp R' n ∧ tru R' n = tru R n := by
  unfold RLp tru at *
  rw [hF.i 5 (by decide), hF.ai 7 (by decide), hF.ai 8 (by decide)]
  exact ⟨h, rfl⟩
theorem RN.fr {R R' : Gs} {n : Nat} (hF : Fr SCR R R') (h : RN R n) : RN R' n := by
  unfold RN at *
  rw [hF.i 48 (by decide), hF.ai 53 (by decide), hF.ai 54 (by decide), hF.ai 55 (by decide)]
  exact h
def H6 (R : Gs) : Prop := ∃ k, k ≤ 60 ∧ fi R 6 = Int32.ofNat k
theorem r_isInTime {m : Nat} {ρ : Hs} {R : Gs} {nL nN i : Nat} (hL : RLp R nL) (hN : RN R nN) (hi : i < nN) :
    ∃ R', fX12_isInTime_0 (eR m ρ R) m (Int32.ofNat i) = some (b2i (itm R nL i), eR m ρ R') ∧ Fr [6, 9, 10] R R' ∧ H6 R' := by
  obtain ⟨R1, t1, t2, t3, t4⟩ := r_takeTrue (m := m) (ρ := ρ) hL.1 hL.2.1
  have hr := hN.2.2 i hi
  have h60 := hN.2.1
  have hd1 : (ai R 53 i + 1).toInt = (ai R 53 i).toInt + 1 := by rw [add32]; rfl; show _ ≤ _ + 1 ∧ _ + 1 < _; omega
  obtain ⟨r, b1, b2⟩ := r_beginOf (m := m) (ρ := ρ) (R := R1) (d := ai R 53 i + 1) t3 (by have := hL.2.1; omega)
  rw [lst_congr t4, hd1] at b2
  have e55 := t2.ai 55 (by decide)
  have e53 := t2.ai 53 (by decide)
  unfold fX12_isInTime_0
  simp only [RisC, RG_0, RP_0, RG_1, RP_1, RN_2, Rld_2, Rst_2, RN_3, Rld_3, Rst_3, RN_4, Rld_4, Rst_4, RG_5, RP_5, RG_6, RP_6, RN_7, Rld_7, Rst_7, RN_8, Rld_8, Rst_8, RN_9, Rld_9, Rst_9, RN_10, Rld_10, Rst_10, RG_11, RP_11, RG_12, RP_12, RN_13, Rld_13, Rst_13, RN_14, Rld_14, Rst_14, RN_15, Rld_15, Rst_15, RN_16, Rld_16, Rst_16, RG_17, RP_17, RG_18, RP_18, RG_19, RP_19, RG_20, RP_20, RG_21, RP_21, RG_22, RP_22, RG_23, RP_23, RG_24, RP_24, RG_25, RP_25, RG_26, RP_26, RG_27, RP_27, RG_28, RP_28, RG_29, RP_29, RG_30, RP_30, RG_31, RP_31, RG_32, RP_32, RN_33, Rld_33, Rst_33, RN_34, Rld_34, Rst_34, RN_35, Rld_35, Rst_35, RN_36, Rld_36, Rst_36, RN_37, Rld_37, Rst_37, RN_38, Rld_38, Rst_38, RN_39, Rld_39, Rst_39, RN_40, Rld_40, Rst_40, RN_41, Rld_41, Rst_41, RN_42, Rld_42, Rst_42, RN_43, Rld_43, Rst_43, RN_44, Rld_44, Rst_44, RN_45, Rld_45, Rst_45, RG_46, RP_46, RG_47, RP_47, RG_48, RP_48, RG_49, RP_49, RN_50, Rld_50, Rst_50, RN_51, Rld_51, Rst_51, RN_52, Rld_52, Rst_52, RN_53, Rld_53, Rst_53, RN_54, Rld_54, Rst_54, RN_55, Rld_55, Rst_55, RG_56, RP_56, RG_57, RP_57, RN_58, Rld_58, Rst_58, RN_59, Rld_59, Rst_59, RN_60, Rld_60, Rst_60, RG_61, RP_61, RG_62, RP_62, RG_63, RP_63, RG_64, RP_64, RG_65, RP_65, RG_66, RP_66, RG_67, RP_67, RG_68, RP_68, RG_69, RP_69, RG_70, RP_70, RG_71, RP_71, RN_72, Rld_72, Rst_72, RN_73, Rld_73, Rst_73, RN_74, Rld_74, Rst_74, RN_75, Rld_75, Rst_75, RN_76, Rld_76, Rst_76, RN_77, Rld_77, Rst_77, RN_78, Rld_78, Rst_78, RN_79, Rld_79, Rst_79, RN_80, Rld_80, Rst_80, RN_81, Rld_81, Rst_81, RN_82, Rld_82, Rst_82, RN_83, Rld_83, Rst_83, RN_84, Rld_84, Rst_84, RN_85, Rld_85, Rst_85, RN_86, Rld_86, Rst_86, RG_87, RP_87, RG_88, RP_88, RG_89, RP_89, RG_90, RP_90, RG_91, RP_91, RG_92, RP_92, RG_93, RP_93, RN_94, Rld_94, Rst_94, RN_95, Rld_95, Rst_95, RG_96, RP_96, RN_97, Rld_97, Rst_97, RN_98, Rld_98, Rst_98, RN_99, Rld_99, Rst_99, RN_100, Rld_100, Rst_100, RG_101, RP_101, RN_102, Rld_102, Rst_102, RN_103, Rld_103, Rst_103, RN_104, Rld_104, Rst_104, RG_105, RP_105, Option.bind_some, t1, e55, e53, ix_n (show i < 2147483648 by omega), decide_eq_true (show i < 60 by omega), if_true, c32 (show i < 2147483648 by omega), b1]
  refine ⟨R1, ?_, t2, nL, Nat.le_trans hL.2.1 (by decide), t3⟩
  unfold b2i itm tru
  by_cases h : r ≤ (ai R 55 i).toInt64
  · rw [if_pos h]; rw [le64, up64, b2] at h
    rw [if_neg (by omega)]; rfl
  · rw [if_neg h]; rw [le64, up64, b2] at h
    rw [if_pos (by omega)]; rfl
def HB (m : Nat) (ρ : Hs) (R : Gs) (nN : Nat) (bl : Nat → Bool) : Prop := ∀ R1, Fr SCR R R1 → ∀ i, i < nN → ∃ R2, fX12_isBelieved_0 (eR m ρ R1) m (Int32.ofNat i) = some (b2i (bl i = true), eR m ρ R2) ∧ Fr SB R1 R2 ∧ H6 R2
theorem HB.fr {m : Nat} {ρ : Hs} {R R' : Gs} {nN : Nat} {bl : Nat → Bool} (hF : Fr SCR R R') (h : HB m ρ R nN bl) : HB m ρ R' nN bl := fun R1 h1 i hi => h R1 (hF.trans h1) i hi
theorem r_counts {m : Nat} {ρ : Hs} {R : Gs} {nL nN i nh : Nat} {bl : Nat → Bool} (hL : RLp R nL) (hN : RN R nN) (hB : HB m ρ R nN bl) (hi : i < nN) (h6 : fi R 6 = Int32.ofNat nh) (hh : nh ≤ 60) :
    ∃ R', fX12_counts_0 (eR m ρ R) m (Int32.ofNat i) = some (b2i (itm R nL i ∧ bl i = true), eR m ρ R') ∧ Fr (102 :: 103 :: SB) R R' ∧ fi R' 6 = Int32.ofNat nh ∧ ∀ k, k < nh → ai R' 9 k = ai R 9 k ∧ ai R' 10 k = ai R 10 k := by
  have hback : ∀ (R1 : Gs) (v : Int32) , (v = 0 ∨ v = 1) → Fr (102 :: 103 :: SB) R R1 → (∀ k, k < nh → ai R1 102 k = ai R 9 k ∧ ai R1 103 k = ai R 10 k) → ∃ R', (fX12_counts_72 (eR m ρ (sfi R1 6 (Int32.ofNat nh))) m (Int32.ofNat nh) v 0) = some (v, eR m ρ R') ∧ Fr (102 :: 103 :: SB) R R' ∧ fi R' 6 = Int32.ofNat nh ∧ ∀ k, k < nh → ai R' 9 k = ai R 9 k ∧ ai R' 10 k = ai R 10 k := by
    intro R1 v hv hF hK
    unfold fX12_counts_72
    refine lp_q nh (fun k z => ∃ R2, z = (eR m ρ R2, m, Int32.ofNat nh, v, Int32.ofNat k) ∧ Fr (102 :: 103 :: SB) R R2 ∧ fi R2 6 = Int32.ofNat nh ∧ (∀ k, k < nh → ai R2 102 k = ai R 9 k ∧ ai R2 103 k = ai R 10 k) ∧ ∀ j, j < k → ai R2 9 j = ai R 9 j ∧ ai R2 10 j = ai R 10 j) (fun X => ∃ R', X = some (v, eR m ρ R') ∧ Fr (102 :: 103 :: SB) R R' ∧ fi R' 6 = Int32.ofNat nh ∧ ∀ k, k < nh → ai R' 9 k = ai R 9 k ∧ ai R' 10 k = ai R 10 k) ?_ ?_ fu 0 _ (by omega) ⟨_, rfl, hF.sfi (by decide) _, by simp only [q_fi_sfi, q_fl_sfi, q_fr_sfi, q_ai_sfi, q_al_sfi, q_ar_sfi, q_ln_sfi, q_fi_sfl, q_fl_sfl, q_fr_sfl, q_ai_sfl, q_al_sfl, q_ar_sfl, q_ln_sfl, q_fi_sfr, q_fl_sfr, q_fr_sfr, q_ai_sfr, q_al_sfr, q_ar_sfr, q_ln_sfr, q_fi_sai, q_fl_sai, q_fr_sai, q_ai_sai, q_al_sai, q_ar_sai, q_ln_sai, q_fi_sal, q_fl_sal, q_fr_sal, q_ai_sal, q_al_sal, q_ar_sal, q_ln_sal, q_fi_sar, q_fl_sar, q_fr_sar, q_ai_sar, q_al_sar, q_ar_sar, q_ln_sar, reduceIte, Nat.reduceEqDiff], hK, fun j hj => by omega⟩ (by unfold fu; omega)
    · rintro K k _ hk ⟨R2, rfl, hF2, h62, hK2, hD⟩
      left
      have hKk := hK2 k hk
      simp only [fbX12_counts_72, RisC, RG_0, RP_0, RG_1, RP_1, RN_2, Rld_2, Rst_2, RN_3, Rld_3, Rst_3, RN_4, Rld_4, Rst_4, RG_5, RP_5, RG_6, RP_6, RN_7, Rld_7, Rst_7, RN_8, Rld_8, Rst_8, RN_9, Rld_9, Rst_9, RN_10, Rld_10, Rst_10, RG_11, RP_11, RG_12, RP_12, RN_13, Rld_13, Rst_13, RN_14, Rld_14, Rst_14, RN_15, Rld_15, Rst_15, RN_16, Rld_16, Rst_16, RG_17, RP_17, RG_18, RP_18, RG_19, RP_19, RG_20, RP_20, RG_21, RP_21, RG_22, RP_22, RG_23, RP_23, RG_24, RP_24, RG_25, RP_25, RG_26, RP_26, RG_27, RP_27, RG_28, RP_28, RG_29, RP_29, RG_30, RP_30, RG_31, RP_31, RG_32, RP_32, RN_33, Rld_33, Rst_33, RN_34, Rld_34, Rst_34, RN_35, Rld_35, Rst_35, RN_36, Rld_36, Rst_36, RN_37, Rld_37, Rst_37, RN_38, Rld_38, Rst_38, RN_39, Rld_39, Rst_39, RN_40, Rld_40, Rst_40, RN_41, Rld_41, Rst_41, RN_42, Rld_42, Rst_42, RN_43, Rld_43, Rst_43, RN_44, Rld_44, Rst_44, RN_45, Rld_45, Rst_45, RG_46, RP_46, RG_47, RP_47, RG_48, RP_48, RG_49, RP_49, RN_50, Rld_50, Rst_50, RN_51, Rld_51, Rst_51, RN_52, Rld_52, Rst_52, RN_53, Rld_53, Rst_53, RN_54, Rld_54, Rst_54, RN_55, Rld_55, Rst_55, RG_56, RP_56, RG_57, RP_57, RN_58, Rld_58, Rst_58, RN_59, Rld_59, Rst_59, RN_60, Rld_60, Rst_60, RG_61, RP_61, RG_62, RP_62, RG_63, RP_63, RG_64, RP_64, RG_65, RP_65, RG_66, RP_66, RG_67, RP_67, RG_68, RP_68, RG_69, RP_69, RG_70, RP_70, RG_71, RP_71, RN_72, Rld_72, Rst_72, RN_73, Rld_73, Rst_73, RN_74, Rld_74, Rst_74, RN_75, Rld_75, Rst_75, RN_76, Rld_76, Rst_76, RN_77, Rld_77, Rst_77, RN_78, Rld_78, Rst_78, RN_79, Rld_79, Rst_79, RN_80, Rld_80, Rst_80, RN_81, Rld_81, Rst_81, RN_82, Rld_82, Rst_82, RN_83, Rld_83, Rst_83, RN_84, Rld_84, Rst_84, RN_85, Rld_85, Rst_85, RN_86, Rld_86, Rst_86, RG_87, RP_87, RG_88, RP_88, RG_89, RP_89, RG_90, RP_90, RG_91, RP_91, RG_92, RP_92, RG_93, RP_93, RN_94, Rld_94, Rst_94, RN_95, Rld_95, Rst_95, RG_96, RP_96, RN_97, Rld_97, Rst_97, RN_98, Rld_98, Rst_98, RN_99, Rld_99, Rst_99, RN_100, Rld_100, Rst_100, RG_101, RP_101, RN_102, Rld_102, Rst_102, RN_103, Rld_103, Rst_103, RN_104, Rld_104, Rst_104, RG_105, RP_105, q_fi_sfi, q_fl_sfi, q_fr_sfi, q_ai_sfi, q_al_sfi, q_ar_sfi, q_ln_sfi, q_fi_sfl, q_fl_sfl, q_fr_sfl, q_ai_sfl, q_al_sfl, q_ar_sfl, q_ln_sfl, q_fi_sfr, q_fl_sfr, q_fr_sfr, q_ai_sfr, q_al_sfr, q_ar_sfr, q_ln_sfr, q_fi_sai, q_fl_sai, q_fr_sai, q_ai_sai, q_al_sai, q_ar_sai, q_ln_sai, q_fi_sal, q_fl_sal, q_fr_sal, q_ai_sal, q_al_sal, q_ar_sal, q_ln_sal, q_fi_sar, q_fl_sar, q_fr_sar, q_ai_sar, q_al_sar, q_ar_sar, q_ln_sar, reduceIte, Nat.reduceEqDiff, Option.bind_some, le_n (show nh < 2147483648 by omega) (show k < 2147483648 by omega), if_neg (show ¬ nh ≤ k by omega), ix_n (show k < 2147483648 by omega), decide_eq_true (show k < 60 by omega), if_true, c32 (show k < 2147483648 by omega), suc32]
      refine ⟨_, ⟨_, rfl, ?_⟩, rfl⟩
      refine ⟨(hF2.sai (by decide) _).sai (by decide) _, h62, hK2, fun j hj => ?_⟩
      simp only [q_fi_sfi, q_fl_sfi, q_fr_sfi, q_ai_sfi, q_al_sfi, q_ar_sfi, q_ln_sfi, q_fi_sfl, q_fl_sfl, q_fr_sfl, q_ai_sfl, q_al_sfl, q_ar_sfl, q_ln_sfl, q_fi_sfr, q_fl_sfr, q_fr_sfr, q_ai_sfr, q_al_sfr, q_ar_sfr, q_ln_sfr, q_fi_sai, q_fl_sai, q_fr_sai, q_ai_sai, q_al_sai, q_ar_sai, q_ln_sai, q_fi_sal, q_fl_sal, q_fr_sal, q_ai_sal, q_al_sal, q_ar_sal, q_ln_sal, q_fi_sar, q_fl_sar, q_fr_sar, q_ai_sar, q_al_sar, q_ar_sar, q_ln_sar, reduceIte, Nat.reduceEqDiff]
      by_cases hjk : j = k
      · subst hjk; rw [up_same, up_same]; exact hKk
      · rw [up_ne _ _ _ _ hjk, up_ne _ _ _ _ hjk]; exact hD j (by omega)
    · rintro K _ ⟨R2, rfl, hF2, h62, hK2, hD⟩
      simp only [fbX12_counts_72, Int32.le_refl, if_true]
      refine ⟨R2, ?_, hF2, h62, hD⟩
      rcases hv with rfl | rfl <;> rfl
  unfold fX12_counts_0
  simp only [RG_6, Option.bind_some, h6]
  unfold fX12_counts_7
  refine lp_q nh (fun k z => ∃ R2, z = (eR m ρ R2, m, Int32.ofNat i, Int32.ofNat nh, Int32.ofNat k) ∧ Fr [102, 103] R R2 ∧ ∀ j, j < k → ai R2 102 j = ai R 9 j ∧ ai R2 103 j = ai R 10 j) (fun X => ∃ R', X = some (b2i (itm R nL i ∧ bl i = true), eR m ρ R') ∧ Fr (102 :: 103 :: SB) R R' ∧ fi R' 6 = Int32.ofNat nh ∧ ∀ k, k < nh → ai R' 9 k = ai R 9 k ∧ ai R' 10 k = ai R 10 k) ?_ ?_ fu 0 _ (by omega) ⟨R, rfl, Fr.refl _ _, fun j hj => by omega⟩ (by unfold fu; omega)
  · rintro K k _ hk ⟨R2, rfl, hF2, hD⟩
    left
    have e9 := hF2.ai 9 (by decide)
    have e10 := hF2.ai 10 (by decide)
    simp only [fbX12_counts_7, RisC, RG_0, RP_0, RG_1, RP_1, RN_2, Rld_2, Rst_2, RN_3, Rld_3, Rst_3, RN_4, Rld_4, Rst_4, RG_5, RP_5, RG_6, RP_6, RN_7, Rld_7, Rst_7, RN_8, Rld_8, Rst_8, RN_9, Rld_9, Rst_9, RN_10, Rld_10, Rst_10, RG_11, RP_11, RG_12, RP_12, RN_13, Rld_13, Rst_13, RN_14, Rld_14, Rst_14, RN_15, Rld_15, Rst_15, RN_16, Rld_16, Rst_16, RG_17, RP_17, RG_18, RP_18, RG_19, RP_19, RG_20, RP_20, RG_21, RP_21, RG_22, RP_22, RG_23, RP_23, RG_24, RP_24, RG_25, RP_25, RG_26, RP_26, RG_27, RP_27, RG_28, RP_28, RG_29, RP_29, RG_30, RP_30, RG_31, RP_31, RG_32, RP_32, RN_33, Rld_33, Rst_33, RN_34, Rld_34, Rst_34, RN_35, Rld_35, Rst_35, RN_36, Rld_36, Rst_36, RN_37, Rld_37, Rst_37, RN_38, Rld_38, Rst_38, RN_39, Rld_39, Rst_39, RN_40, Rld_40, Rst_40, RN_41, Rld_41, Rst_41, RN_42, Rld_42, Rst_42, RN_43, Rld_43, Rst_43, RN_44, Rld_44, Rst_44, RN_45, Rld_45, Rst_45, RG_46, RP_46, RG_47, RP_47, RG_48, RP_48, RG_49, RP_49, RN_50, Rld_50, Rst_50, RN_51, Rld_51, Rst_51, RN_52, Rld_52, Rst_52, RN_53, Rld_53, Rst_53, RN_54, Rld_54, Rst_54, RN_55, Rld_55, Rst_55, RG_56, RP_56, RG_57, RP_57, RN_58, Rld_58, Rst_58, RN_59, Rld_59, Rst_59, RN_60, Rld_60, Rst_60, RG_61, RP_61, RG_62, RP_62, RG_63, RP_63, RG_64, RP_64, RG_65, RP_65, RG_66, RP_66, RG_67, RP_67, RG_68, RP_68, RG_69, RP_69, RG_70, RP_70, RG_71, RP_71, RN_72, Rld_72, Rst_72, RN_73, Rld_73, Rst_73, RN_74, Rld_74, Rst_74, RN_75, Rld_75, Rst_75, RN_76, Rld_76, Rst_76, RN_77, Rld_77, Rst_77, RN_78, Rld_78, Rst_78, RN_79, Rld_79, Rst_79, RN_80, Rld_80, Rst_80, RN_81, Rld_81, Rst_81, RN_82, Rld_82, Rst_82, RN_83, Rld_83, Rst_83, RN_84, Rld_84, Rst_84, RN_85, Rld_85, Rst_85, RN_86, Rld_86, Rst_86, RG_87, RP_87, RG_88, RP_88, RG_89, RP_89, RG_90, RP_90, RG_91, RP_91, RG_92, RP_92, RG_93, RP_93, RN_94, Rld_94, Rst_94, RN_95, Rld_95, Rst_95, RG_96, RP_96, RN_97, Rld_97, Rst_97, RN_98, Rld_98, Rst_98, RN_99, Rld_99, Rst_99, RN_100, Rld_100, Rst_100, RG_101, RP_101, RN_102, Rld_102, Rst_102, RN_103, Rld_103, Rst_103, RN_104, Rld_104, Rst_104, RG_105, RP_105, q_fi_sfi, q_fl_sfi, q_fr_sfi, q_ai_sfi, q_al_sfi, q_ar_sfi, q_ln_sfi, q_fi_sfl, q_fl_sfl, q_fr_sfl, q_ai_sfl, q_al_sfl, q_ar_sfl, q_ln_sfl, q_fi_sfr, q_fl_sfr, q_fr_sfr, q_ai_sfr, q_al_sfr, q_ar_sfr, q_ln_sfr, q_fi_sai, q_fl_sai, q_fr_sai, q_ai_sai, q_al_sai, q_ar_sai, q_ln_sai, q_fi_sal, q_fl_sal, q_fr_sal, q_ai_sal, q_al_sal, q_ar_sal, q_ln_sal, q_fi_sar, q_fl_sar, q_fr_sar, q_ai_sar, q_al_sar, q_ar_sar, q_ln_sar, reduceIte, Nat.reduceEqDiff, Option.bind_some, le_n (show nh < 2147483648 by omega) (show k < 2147483648 by omega), if_neg (show ¬ nh ≤ k by omega), ix_n (show k < 2147483648 by omega), decide_eq_true (show k < 60 by omega), if_true, c32 (show k < 2147483648 by omega), suc32, e9, e10]
    refine ⟨_, ⟨_, rfl, ?_⟩, rfl⟩
    refine ⟨(hF2.sai (by decide) _).sai (by decide) _, fun j hj => ?_⟩
    simp only [q_fi_sfi, q_fl_sfi, q_fr_sfi, q_ai_sfi, q_al_sfi, q_ar_sfi, q_ln_sfi, q_fi_sfl, q_fl_sfl, q_fr_sfl, q_ai_sfl, q_al_sfl, q_ar_sfl, q_ln_sfl, q_fi_sfr, q_fl_sfr, q_fr_sfr, q_ai_sfr, q_al_sfr, q_ar_sfr, q_ln_sfr, q_fi_sai, q_fl_sai, q_fr_sai, q_ai_sai, q_al_sai, q_ar_sai, q_ln_sai, q_fi_sal, q_fl_sal, q_fr_sal, q_ai_sal, q_al_sal, q_ar_sal, q_ln_sal, q_fi_sar, q_fl_sar, q_fr_sar, q_ai_sar, q_al_sar, q_ar_sar, q_ln_sar, reduceIte, Nat.reduceEqDiff]
    by_cases hjk : j = k
    · subst hjk; rw [up_same, up_same]; exact ⟨rfl, rfl⟩
    · rw [up_ne _ _ _ _ hjk, up_ne _ _ _ _ hjk]; exact hD j (by omega)
  · rintro K _ ⟨R2, rfl, hF2, hD⟩
    have hS2 : Fr SCR R R2 := hF2.mono (by decide)
    have hI : itm R2 nL i ↔ itm R nL i := by unfold itm; rw [(RLp.fr hS2 hL).2, hF2.ai 55 (by decide), hF2.ai 53 (by decide)]
    obtain ⟨R3, i1, i2, -⟩ := r_isInTime (m := m) (ρ := ρ) (RLp.fr hS2 hL).1 (RN.fr hS2 hN) hi
    have hS3 : Fr (102 :: 103 :: SB) R R3 := (hF2.mono (by decide)).trans (i2.mono (by decide))
    have hK3 : ∀ k, k < nh → ai R3 102 k = ai R 9 k ∧ ai R3 103 k = ai R 10 k := fun k hk => by rw [i2.ai 102 (by decide), i2.ai 103 (by decide)]; exact hD k hk
    simp only [fbX12_counts_7, Int32.le_refl, if_true, RisC, Option.bind_some, i1, b2i_0]
    by_cases hit : itm R2 nL i
    · rw [if_neg (by simpa using hit)]
      obtain ⟨R4, j1, j2, -⟩ := hB R3 (hS2.trans (i2.mono (by decide))) i hi
      simp only [j1, Option.bind_some, b2i_0, RP_6]
      have hK4 : ∀ k, k < nh → ai R4 102 k = ai R 9 k ∧ ai R4 103 k = ai R 10 k := fun k hk => by rw [j2.ai 102 (by decide), j2.ai 103 (by decide)]; exact hK3 k hk
      have hS4 : Fr (102 :: 103 :: SB) R R4 := hS3.trans (j2.mono (by decide))
      by_cases hb : bl i = true
      · rw [if_neg (by simpa using hb)]
        rw [show b2i (itm R nL i ∧ bl i = true) = 1 from if_pos ⟨hI.mp hit, hb⟩]
        exact hback R4 1 (Or.inr rfl) hS4 hK4
      · rw [if_pos hb]
        rw [show b2i (itm R nL i ∧ bl i = true) = 0 from if_neg (fun q => hb q.2)]
        exact hback R4 0 (Or.inl rfl) hS4 hK4
    · rw [if_pos hit]
      simp only [RP_6, Option.bind_some]
      rw [show b2i (itm R nL i ∧ bl i = true) = 0 from if_neg (fun q => hit (hI.mpr q.1))]
      exact hback R3 0 (Or.inl rfl) hS3 hK3
def gvn (R : Gs) (nL nN : Nat) (bl : Nat → Bool) (c x : Int32) (i : Nat) : Prop := i < nN ∧ ai R 52 i = c ∧ ai R 53 i = x ∧ itm R nL i ∧ bl i = true
def mc (R : Gs) (nL nN : Nat) (bl : Nat → Bool) (c x y : Int32) : Prop := ∃ i, gvn R nL nN bl c x i ∧ ai R 54 i = y ∧ ∀ j, i < j → ¬ gvn R nL nN bl c x j
def FT : List Nat := [6, 9, 10, 41, 42, 43, 44, 45, 46, 92, 93, 101, 102, 103]
theorem r_takeClock {m : Nat} {ρ : Hs} {R : Gs} {nL nN : Nat} {bl : Nat → Bool} {c : Int32} (hL : RLp R nL) (hN : RN R nN) (hB : HB m ρ R nN bl) :
    ∃ R' n, fX12_takeClock_0 (eR m ρ R) m c = some (eR m ρ R') ∧ Fr FT R R' ∧ fi R' 6 = Int32.ofNat n ∧ Tok n (ai R' 9) (ai R' 10) ∧ ∀ x y, mm n (ai R' 9) (ai R' 10) x y ↔ mc R nL nN bl c x y := by
  have h60 := hN.2.1
  have e48 : fi (sfi R 6 0) 48 = Int32.ofNat nN := hN.1
  unfold fX12_takeClock_0
  simp only [RP_6, RG_48, Option.bind_some, e48]
  unfold fX12_takeClock_12
  have hin : ∀ (k12 : Hs → Nat → Int32 → Int32 → Option Hs) (R1 : Gs) (n i : Nat), i < nN → n < 60 → Fr FT R R1 → fi R1 6 = Int32.ofNat n → Tok n (ai R1 9) (ai R1 10) →
      ∃ R2 n2, fX12_takeClock_42 k12 (eR m ρ R1) m c (Int32.ofNat i) 0 0 = k12 (eR m ρ R2) m c (Int32.ofNat i + -1) ∧ Fr FT R R2 ∧ fi R2 6 = Int32.ofNat n2 ∧ n2 ≤ n + 1 ∧ Tok n2 (ai R2 9) (ai R2 10) ∧ ∀ x y, mm n2 (ai R2 9) (ai R2 10) x y ↔ mm n (ai R1 9) (ai R1 10) x y ∨ (x = ai R 53 i ∧ y = ai R 54 i ∧ ∀ y', ¬ mm n (ai R1 9) (ai R1 10) (ai R 53 i) y') := by
    intro k12 R1 n i hi hn60 hF h6 hT
    have e53 := hF.ai 53 (by decide)
    have e54 := hF.ai 54 (by decide)
    unfold fX12_takeClock_42
    refine lp_q n (fun k z => ∃ v : Int32, z = (eR m ρ R1, m, c, Int32.ofNat i, v, Int32.ofNat k) ∧ v = b2i (∃ j, j < k ∧ ai R1 9 j = ai R 53 i)) (fun X => ∃ R2 n2, X = k12 (eR m ρ R2) m c (Int32.ofNat i + -1) ∧ Fr FT R R2 ∧ fi R2 6 = Int32.ofNat n2 ∧ n2 ≤ n + 1 ∧ Tok n2 (ai R2 9) (ai R2 10) ∧ ∀ x y, mm n2 (ai R2 9) (ai R2 10) x y ↔ mm n (ai R1 9) (ai R1 10) x y ∨ (x = ai R 53 i ∧ y = ai R 54 i ∧ ∀ y', ¬ mm n (ai R1 9) (ai R1 10) (ai R 53 i) y')) ?_ ?_ fu 0 _ (by omega) ⟨0, rfl, (if_neg (by rintro ⟨j, hj, _⟩; omega)).symm⟩ (by unfold fu; omega)
    · rintro K k _ hk ⟨v, rfl, hv⟩
      left
      simp only [fbX12_takeClock_42, RisC, RG_0, RP_0, RG_1, RP_1, RN_2, Rld_2, Rst_2, RN_3, Rld_3, Rst_3, RN_4, Rld_4, Rst_4, RG_5, RP_5, RG_6, RP_6, RN_7, Rld_7, Rst_7, RN_8, Rld_8, Rst_8, RN_9, Rld_9, Rst_9, RN_10, Rld_10, Rst_10, RG_11, RP_11, RG_12, RP_12, RN_13, Rld_13, Rst_13, RN_14, Rld_14, Rst_14, RN_15, Rld_15, Rst_15, RN_16, Rld_16, Rst_16, RG_17, RP_17, RG_18, RP_18, RG_19, RP_19, RG_20, RP_20, RG_21, RP_21, RG_22, RP_22, RG_23, RP_23, RG_24, RP_24, RG_25, RP_25, RG_26, RP_26, RG_27, RP_27, RG_28, RP_28, RG_29, RP_29, RG_30, RP_30, RG_31, RP_31, RG_32, RP_32, RN_33, Rld_33, Rst_33, RN_34, Rld_34, Rst_34, RN_35, Rld_35, Rst_35, RN_36, Rld_36, Rst_36, RN_37, Rld_37, Rst_37, RN_38, Rld_38, Rst_38, RN_39, Rld_39, Rst_39, RN_40, Rld_40, Rst_40, RN_41, Rld_41, Rst_41, RN_42, Rld_42, Rst_42, RN_43, Rld_43, Rst_43, RN_44, Rld_44, Rst_44, RN_45, Rld_45, Rst_45, RG_46, RP_46, RG_47, RP_47, RG_48, RP_48, RG_49, RP_49, RN_50, Rld_50, Rst_50, RN_51, Rld_51, Rst_51, RN_52, Rld_52, Rst_52, RN_53, Rld_53, Rst_53, RN_54, Rld_54, Rst_54, RN_55, Rld_55, Rst_55, RG_56, RP_56, RG_57, RP_57, RN_58, Rld_58, Rst_58, RN_59, Rld_59, Rst_59, RN_60, Rld_60, Rst_60, RG_61, RP_61, RG_62, RP_62, RG_63, RP_63, RG_64, RP_64, RG_65, RP_65, RG_66, RP_66, RG_67, RP_67, RG_68, RP_68, RG_69, RP_69, RG_70, RP_70, RG_71, RP_71, RN_72, Rld_72, Rst_72, RN_73, Rld_73, Rst_73, RN_74, Rld_74, Rst_74, RN_75, Rld_75, Rst_75, RN_76, Rld_76, Rst_76, RN_77, Rld_77, Rst_77, RN_78, Rld_78, Rst_78, RN_79, Rld_79, Rst_79, RN_80, Rld_80, Rst_80, RN_81, Rld_81, Rst_81, RN_82, Rld_82, Rst_82, RN_83, Rld_83, Rst_83, RN_84, Rld_84, Rst_84, RN_85, Rld_85, Rst_85, RN_86, Rld_86, Rst_86, RG_87, RP_87, RG_88, RP_88, RG_89, RP_89, RG_90, RP_90, RG_91, RP_91, RG_92, RP_92, RG_93, RP_93, RN_94, Rld_94, Rst_94, RN_95, Rld_95, Rst_95, RG_96, RP_96, RN_97, Rld_97, Rst_97, RN_98, Rld_98, Rst_98, RN_99, Rld_99, Rst_99, RN_100, Rld_100, Rst_100, RG_101, RP_101, RN_102, Rld_102, Rst_102, RN_103, Rld_103, Rst_103, RN_104, Rld_104, Rst_104, RG_105, RP_105, Option.bind_some, h6, le_n (show n < 2147483648 by omega) (show k < 2147483648 by omega), if_neg (show ¬ n ≤ k by omega), ix_n (show k < 2147483648 by omega), decide_eq_true (show k < 60 by omega), if_true, c32 (show k < 2147483648 by omega), suc32, e53, ix_n (show i < 2147483648 by omega), decide_eq_true (show i < 60 by omega), c32 (show i < 2147483648 by omega)]
      by_cases h1 : ∃ j, j < k ∧ ai R1 9 j = ai R 53 i
      · rw [hv, show b2i (∃ j, j < k ∧ ai R1 9 j = ai R 53 i) = 1 from if_pos h1, if_neg (by decide)]
        refine ⟨_, ⟨1, rfl, (if_pos ?_).symm⟩, rfl⟩
        obtain ⟨j, hj, hj2⟩ := h1
        exact ⟨j, by omega, hj2⟩
      · rw [hv, show b2i (∃ j, j < k ∧ ai R1 9 j = ai R 53 i) = 0 from if_neg h1, if_pos rfl]
        by_cases h2 : ai R1 9 k = ai R 53 i
        · rw [if_pos h2]
          exact ⟨_, ⟨1, rfl, (if_pos ⟨k, by omega, h2⟩).symm⟩, rfl⟩
        · rw [if_neg h2]
          refine ⟨_, ⟨0, rfl, (if_neg ?_).symm⟩, rfl⟩
          rintro ⟨j, hj, hj2⟩
          rcases Nat.lt_or_ge j k with q | q
          · exact h1 ⟨j, q, hj2⟩
          · have : j = k := by omega
            subst this; exact h2 hj2
    · rintro K _ ⟨v, rfl, hv⟩
      simp only [fbX12_takeClock_42, RisC, RG_0, RP_0, RG_1, RP_1, RN_2, Rld_2, Rst_2, RN_3, Rld_3, Rst_3, RN_4, Rld_4, Rst_4, RG_5, RP_5, RG_6, RP_6, RN_7, Rld_7, Rst_7, RN_8, Rld_8, Rst_8, RN_9, Rld_9, Rst_9, RN_10, Rld_10, Rst_10, RG_11, RP_11, RG_12, RP_12, RN_13, Rld_13, Rst_13, RN_14, Rld_14, Rst_14, RN_15, Rld_15, Rst_15, RN_16, Rld_16, Rst_16, RG_17, RP_17, RG_18, RP_18, RG_19, RP_19, RG_20, RP_20, RG_21, RP_21, RG_22, RP_22, RG_23, RP_23, RG_24, RP_24, RG_25, RP_25, RG_26, RP_26, RG_27, RP_27, RG_28, RP_28, RG_29, RP_29, RG_30, RP_30, RG_31, RP_31, RG_32, RP_32, RN_33, Rld_33, Rst_33, RN_34, Rld_34, Rst_34, RN_35, Rld_35, Rst_35, RN_36, Rld_36, Rst_36, RN_37, Rld_37, Rst_37, RN_38, Rld_38, Rst_38, RN_39, Rld_39, Rst_39, RN_40, Rld_40, Rst_40, RN_41, Rld_41, Rst_41, RN_42, Rld_42, Rst_42, RN_43, Rld_43, Rst_43, RN_44, Rld_44, Rst_44, RN_45, Rld_45, Rst_45, RG_46, RP_46, RG_47, RP_47, RG_48, RP_48, RG_49, RP_49, RN_50, Rld_50, Rst_50, RN_51, Rld_51, Rst_51, RN_52, Rld_52, Rst_52, RN_53, Rld_53, Rst_53, RN_54, Rld_54, Rst_54, RN_55, Rld_55, Rst_55, RG_56, RP_56, RG_57, RP_57, RN_58, Rld_58, Rst_58, RN_59, Rld_59, Rst_59, RN_60, Rld_60, Rst_60, RG_61, RP_61, RG_62, RP_62, RG_63, RP_63, RG_64, RP_64, RG_65, RP_65, RG_66, RP_66, RG_67, RP_67, RG_68, RP_68, RG_69, RP_69, RG_70, RP_70, RG_71, RP_71, RN_72, Rld_72, Rst_72, RN_73, Rld_73, Rst_73, RN_74, Rld_74, Rst_74, RN_75, Rld_75, Rst_75, RN_76, Rld_76, Rst_76, RN_77, Rld_77, Rst_77, RN_78, Rld_78, Rst_78, RN_79, Rld_79, Rst_79, RN_80, Rld_80, Rst_80, RN_81, Rld_81, Rst_81, RN_82, Rld_82, Rst_82, RN_83, Rld_83, Rst_83, RN_84, Rld_84, Rst_84, RN_85, Rld_85, Rst_85, RN_86, Rld_86, Rst_86, RG_87, RP_87, RG_88, RP_88, RG_89, RP_89, RG_90, RP_90, RG_91, RP_91, RG_92, RP_92, RG_93, RP_93, RN_94, Rld_94, Rst_94, RN_95, Rld_95, Rst_95, RG_96, RP_96, RN_97, Rld_97, Rst_97, RN_98, Rld_98, Rst_98, RN_99, Rld_99, Rst_99, RN_100, Rld_100, Rst_100, RG_101, RP_101, RN_102, Rld_102, Rst_102, RN_103, Rld_103, Rst_103, RN_104, Rld_104, Rst_104, RG_105, RP_105, q_fi_sfi, q_fl_sfi, q_fr_sfi, q_ai_sfi, q_al_sfi, q_ar_sfi, q_ln_sfi, q_fi_sfl, q_fl_sfl, q_fr_sfl, q_ai_sfl, q_al_sfl, q_ar_sfl, q_ln_sfl, q_fi_sfr, q_fl_sfr, q_fr_sfr, q_ai_sfr, q_al_sfr, q_ar_sfr, q_ln_sfr, q_fi_sai, q_fl_sai, q_fr_sai, q_ai_sai, q_al_sai, q_ar_sai, q_ln_sai, q_fi_sal, q_fl_sal, q_fr_sal, q_ai_sal, q_al_sal, q_ar_sal, q_ln_sal, q_fi_sar, q_fl_sar, q_fr_sar, q_ai_sar, q_al_sar, q_ar_sar, q_ln_sar, reduceIte, Nat.reduceEqDiff, Option.bind_some, h6, Int32.le_refl, if_true, e53, e54, ix_n (show i < 2147483648 by omega), decide_eq_true (show i < 60 by omega), c32 (show i < 2147483648 by omega), ix_n (show n < 2147483648 by omega), decide_eq_true hn60, c32 (show n < 2147483648 by omega), suc32]
      by_cases h1 : ∃ j, j < n ∧ ai R1 9 j = ai R 53 i
      · rw [hv, show b2i (∃ j, j < n ∧ ai R1 9 j = ai R 53 i) = 1 from if_pos h1, if_neg (by decide)]
        refine ⟨R1, n, rfl, hF, h6, by omega, hT, fun x y => ⟨Or.inl, ?_⟩⟩
        rintro (q | ⟨_, _, q⟩)
        · exact q
        · obtain ⟨j, hj, hj2⟩ := h1
          exact absurd ⟨j, hj, hj2, rfl⟩ (q (ai R1 10 j))
      · rw [hv, show b2i (∃ j, j < n ∧ ai R1 9 j = ai R 53 i) = 0 from if_neg h1, if_pos rfl]
        have hri := hN.2.2 i hi
        refine ⟨_, n + 1, rfl, ((hF.sai (by decide) _).sai (by decide) _).sfi (by decide) _, ?_, Nat.le_refl _, ⟨by omega, fun j hj => ?_, fun j k hj hk e => ?_⟩, fun x y => ⟨?_, ?_⟩⟩
        · simp only [q_fi_sfi, q_fl_sfi, q_fr_sfi, q_ai_sfi, q_al_sfi, q_ar_sfi, q_ln_sfi, q_fi_sfl, q_fl_sfl, q_fr_sfl, q_ai_sfl, q_al_sfl, q_ar_sfl, q_ln_sfl, q_fi_sfr, q_fl_sfr, q_fr_sfr, q_ai_sfr, q_al_sfr, q_ar_sfr, q_ln_sfr, q_fi_sai, q_fl_sai, q_fr_sai, q_ai_sai, q_al_sai, q_ar_sai, q_ln_sai, q_fi_sal, q_fl_sal, q_fr_sal, q_ai_sal, q_al_sal, q_ar_sal, q_ln_sal, q_fi_sar, q_fl_sar, q_fr_sar, q_ai_sar, q_al_sar, q_ar_sar, q_ln_sar, reduceIte, Nat.reduceEqDiff]
        · simp only [q_fi_sfi, q_fl_sfi, q_fr_sfi, q_ai_sfi, q_al_sfi, q_ar_sfi, q_ln_sfi, q_fi_sfl, q_fl_sfl, q_fr_sfl, q_ai_sfl, q_al_sfl, q_ar_sfl, q_ln_sfl, q_fi_sfr, q_fl_sfr, q_fr_sfr, q_ai_sfr, q_al_sfr, q_ar_sfr, q_ln_sfr, q_fi_sai, q_fl_sai, q_fr_sai, q_ai_sai, q_al_sai, q_ar_sai, q_ln_sai, q_fi_sal, q_fl_sal, q_fr_sal, q_ai_sal, q_al_sal, q_ar_sal, q_ln_sal, q_fi_sar, q_fl_sar, q_fr_sar, q_ai_sar, q_al_sar, q_ar_sar, q_ln_sar, reduceIte, Nat.reduceEqDiff]
          by_cases hjn : j = n
          · subst hjn; rw [up_same]; exact hri.2.1
          · rw [up_ne _ _ _ _ hjn]; exact hT.2.1 j (by omega)
        · simp only [q_fi_sfi, q_fl_sfi, q_fr_sfi, q_ai_sfi, q_al_sfi, q_ar_sfi, q_ln_sfi, q_fi_sfl, q_fl_sfl, q_fr_sfl, q_ai_sfl, q_al_sfl, q_ar_sfl, q_ln_sfl, q_fi_sfr, q_fl_sfr, q_fr_sfr, q_ai_sfr, q_al_sfr, q_ar_sfr, q_ln_sfr, q_fi_sai, q_fl_sai, q_fr_sai, q_ai_sai, q_al_sai, q_ar_sai, q_ln_sai, q_fi_sal, q_fl_sal, q_fr_sal, q_ai_sal, q_al_sal, q_ar_sal, q_ln_sal, q_fi_sar, q_fl_sar, q_fr_sar, q_ai_sar, q_al_sar, q_ar_sar, q_ln_sar, reduceIte, Nat.reduceEqDiff] at e
          by_cases hjn : j = n
          · by_cases hkn : k = n
            · omega
            · rw [hjn, up_same, up_ne _ _ _ _ hkn] at e
              exact absurd ⟨k, by omega, e.symm⟩ h1
          · by_cases hkn : k = n
            · rw [hkn, up_same, up_ne _ _ _ _ hjn] at e
              exact absurd ⟨j, by omega, e⟩ h1
            · rw [up_ne _ _ _ _ hjn, up_ne _ _ _ _ hkn] at e
              exact hT.2.2 j k (by omega) (by omega) e
        · rintro ⟨j, hj, g1, g2⟩
          simp only [q_fi_sfi, q_fl_sfi, q_fr_sfi, q_ai_sfi, q_al_sfi, q_ar_sfi, q_ln_sfi, q_fi_sfl, q_fl_sfl, q_fr_sfl, q_ai_sfl, q_al_sfl, q_ar_sfl, q_ln_sfl, q_fi_sfr, q_fl_sfr, q_fr_sfr, q_ai_sfr, q_al_sfr, q_ar_sfr, q_ln_sfr, q_fi_sai, q_fl_sai, q_fr_sai, q_ai_sai, q_al_sai, q_ar_sai, q_ln_sai, q_fi_sal, q_fl_sal, q_fr_sal, q_ai_sal, q_al_sal, q_ar_sal, q_ln_sal, q_fi_sar, q_fl_sar, q_fr_sar, q_ai_sar, q_al_sar, q_ar_sar, q_ln_sar, reduceIte, Nat.reduceEqDiff] at g1 g2
          by_cases hjn : j = n
          · subst hjn; rw [up_same] at g1 g2
            refine Or.inr ⟨g1.symm, g2.symm, ?_⟩
            rintro y' ⟨j2, hj2, g3, _⟩
            exact h1 ⟨j2, hj2, g3⟩
          · rw [up_ne _ _ _ _ hjn] at g1 g2
            exact Or.inl ⟨j, by omega, g1, g2⟩
        · rintro (⟨j, hj, g1, g2⟩ | ⟨g1, g2, _⟩)
          · refine ⟨j, by omega, ?_, ?_⟩
            · simp only [q_fi_sfi, q_fl_sfi, q_fr_sfi, q_ai_sfi, q_al_sfi, q_ar_sfi, q_ln_sfi, q_fi_sfl, q_fl_sfl, q_fr_sfl, q_ai_sfl, q_al_sfl, q_ar_sfl, q_ln_sfl, q_fi_sfr, q_fl_sfr, q_fr_sfr, q_ai_sfr, q_al_sfr, q_ar_sfr, q_ln_sfr, q_fi_sai, q_fl_sai, q_fr_sai, q_ai_sai, q_al_sai, q_ar_sai, q_ln_sai, q_fi_sal, q_fl_sal, q_fr_sal, q_ai_sal, q_al_sal, q_ar_sal, q_ln_sal, q_fi_sar, q_fl_sar, q_fr_sar, q_ai_sar, q_al_sar, q_ar_sar, q_ln_sar, reduceIte, Nat.reduceEqDiff]; rw [up_ne _ _ _ _ (by omega)]; exact g1
            · simp only [q_fi_sfi, q_fl_sfi, q_fr_sfi, q_ai_sfi, q_al_sfi, q_ar_sfi, q_ln_sfi, q_fi_sfl, q_fl_sfl, q_fr_sfl, q_ai_sfl, q_al_sfl, q_ar_sfl, q_ln_sfl, q_fi_sfr, q_fl_sfr, q_fr_sfr, q_ai_sfr, q_al_sfr, q_ar_sfr, q_ln_sfr, q_fi_sai, q_fl_sai, q_fr_sai, q_ai_sai, q_al_sai, q_ar_sai, q_ln_sai, q_fi_sal, q_fl_sal, q_fr_sal, q_ai_sal, q_al_sal, q_ar_sal, q_ln_sal, q_fi_sar, q_fl_sar, q_fr_sar, q_ai_sar, q_al_sar, q_ar_sar, q_ln_sar, reduceIte, Nat.reduceEqDiff]; rw [up_ne _ _ _ _ (by omega)]; exact g2
          · refine ⟨n, by omega, ?_, ?_⟩
            · simp only [q_fi_sfi, q_fl_sfi, q_fr_sfi, q_ai_sfi, q_al_sfi, q_ar_sfi, q_ln_sfi, q_fi_sfl, q_fl_sfl, q_fr_sfl, q_ai_sfl, q_al_sfl, q_ar_sfl, q_ln_sfl, q_fi_sfr, q_fl_sfr, q_fr_sfr, q_ai_sfr, q_al_sfr, q_ar_sfr, q_ln_sfr, q_fi_sai, q_fl_sai, q_fr_sai, q_ai_sai, q_al_sai, q_ar_sai, q_ln_sai, q_fi_sal, q_fl_sal, q_fr_sal, q_ai_sal, q_al_sal, q_ar_sal, q_ln_sal, q_fi_sar, q_fl_sar, q_fr_sar, q_ai_sar, q_al_sar, q_ar_sar, q_ln_sar, reduceIte, Nat.reduceEqDiff]; rw [up_same, g1]
            · simp only [q_fi_sfi, q_fl_sfi, q_fr_sfi, q_ai_sfi, q_al_sfi, q_ar_sfi, q_ln_sfi, q_fi_sfl, q_fl_sfl, q_fr_sfl, q_ai_sfl, q_al_sfl, q_ar_sfl, q_ln_sfl, q_fi_sfr, q_fl_sfr, q_fr_sfr, q_ai_sfr, q_al_sfr, q_ar_sfr, q_ln_sfr, q_fi_sai, q_fl_sai, q_fr_sai, q_ai_sai, q_al_sai, q_ar_sai, q_ln_sai, q_fi_sal, q_fl_sal, q_fr_sal, q_ai_sal, q_al_sal, q_ar_sal, q_ln_sal, q_fi_sar, q_fl_sar, q_fr_sar, q_ai_sar, q_al_sar, q_ar_sar, q_ln_sar, reduceIte, Nat.reduceEqDiff]; rw [up_same, g2]
  have hgo : ∀ k, k ≤ nN → gvn R nL nN bl c = gvn R nL nN bl c := fun _ _ => rfl
  refine lp_q nN (fun k z => ∃ R1 n, z = (eR m ρ R1, m, c, Int32.ofNat (nN - k) - 1) ∧ Fr FT R R1 ∧ fi R1 6 = Int32.ofNat n ∧ n ≤ k ∧ Tok n (ai R1 9) (ai R1 10) ∧ ∀ x y, mm n (ai R1 9) (ai R1 10) x y ↔ ∃ i, nN - k ≤ i ∧ gvn R nL nN bl c x i ∧ ai R 54 i = y ∧ ∀ j, i < j → ¬ gvn R nL nN bl c x j) (fun X => ∃ R' n, X = some (eR m ρ R') ∧ Fr FT R R' ∧ fi R' 6 = Int32.ofNat n ∧ Tok n (ai R' 9) (ai R' 10) ∧ ∀ x y, mm n (ai R' 9) (ai R' 10) x y ↔ mc R nL nN bl c x y) ?_ ?_ fu 0 _ (by omega) ?_ (by unfold fu; omega)
  · rintro K k _ hk ⟨R1, n, rfl, hF, h6, hnk, hT, hM⟩
    left
    have hS : Fr SCR R R1 := hF.mono (by decide)
    generalize hi : nN - k - 1 = i
    have e0 : Int32.ofNat (nN - k) - 1 = Int32.ofNat i := by rw [ofNat_m1 (by omega), hi]
    have e1 : Int32.ofNat i + -1 = Int32.ofNat i - 1 := (Int32.sub_eq_add_neg _ _).symm
    have hneg : ¬ Int32.ofNat i < 0 := by
      rw [lt32, n32 (by omega)]; show ¬ (i : Int) < 0; omega
    have e52 := hF.ai 52 (by decide)
    have hskip : ¬ (ai R 52 i = c ∧ itm R nL i ∧ bl i = true) → ∀ x y, (∃ q, nN - k ≤ q ∧ gvn R nL nN bl c x q ∧ ai R 54 q = y ∧ ∀ j, q < j → ¬ gvn R nL nN bl c x j) ↔ ∃ q, i ≤ q ∧ gvn R nL nN bl c x q ∧ ai R 54 q = y ∧ ∀ j, q < j → ¬ gvn R nL nN bl c x j := by
      intro hno x y
      constructor
      · rintro ⟨q, q1, q2⟩; exact ⟨q, by omega, q2⟩
      · rintro ⟨q, q1, q2⟩
        refine ⟨q, ?_, q2⟩
        rcases Nat.lt_or_ge q (nN - k) with r | r
        · have : q = i := by omega
          subst this
          exact absurd ⟨q2.1.2.1, q2.1.2.2.2.1, q2.1.2.2.2.2⟩ hno
        · exact r
    simp only [fbX12_takeClock_12, e0, if_neg hneg, RisC, RG_0, RP_0, RG_1, RP_1, RN_2, Rld_2, Rst_2, RN_3, Rld_3, Rst_3, RN_4, Rld_4, Rst_4, RG_5, RP_5, RG_6, RP_6, RN_7, Rld_7, Rst_7, RN_8, Rld_8, Rst_8, RN_9, Rld_9, Rst_9, RN_10, Rld_10, Rst_10, RG_11, RP_11, RG_12, RP_12, RN_13, Rld_13, Rst_13, RN_14, Rld_14, Rst_14, RN_15, Rld_15, Rst_15, RN_16, Rld_16, Rst_16, RG_17, RP_17, RG_18, RP_18, RG_19, RP_19, RG_20, RP_20, RG_21, RP_21, RG_22, RP_22, RG_23, RP_23, RG_24, RP_24, RG_25, RP_25, RG_26, RP_26, RG_27, RP_27, RG_28, RP_28, RG_29, RP_29, RG_30, RP_30, RG_31, RP_31, RG_32, RP_32, RN_33, Rld_33, Rst_33, RN_34, Rld_34, Rst_34, RN_35, Rld_35, Rst_35, RN_36, Rld_36, Rst_36, RN_37, Rld_37, Rst_37, RN_38, Rld_38, Rst_38, RN_39, Rld_39, Rst_39, RN_40, Rld_40, Rst_40, RN_41, Rld_41, Rst_41, RN_42, Rld_42, Rst_42, RN_43, Rld_43, Rst_43, RN_44, Rld_44, Rst_44, RN_45, Rld_45, Rst_45, RG_46, RP_46, RG_47, RP_47, RG_48, RP_48, RG_49, RP_49, RN_50, Rld_50, Rst_50, RN_51, Rld_51, Rst_51, RN_52, Rld_52, Rst_52, RN_53, Rld_53, Rst_53, RN_54, Rld_54, Rst_54, RN_55, Rld_55, Rst_55, RG_56, RP_56, RG_57, RP_57, RN_58, Rld_58, Rst_58, RN_59, Rld_59, Rst_59, RN_60, Rld_60, Rst_60, RG_61, RP_61, RG_62, RP_62, RG_63, RP_63, RG_64, RP_64, RG_65, RP_65, RG_66, RP_66, RG_67, RP_67, RG_68, RP_68, RG_69, RP_69, RG_70, RP_70, RG_71, RP_71, RN_72, Rld_72, Rst_72, RN_73, Rld_73, Rst_73, RN_74, Rld_74, Rst_74, RN_75, Rld_75, Rst_75, RN_76, Rld_76, Rst_76, RN_77, Rld_77, Rst_77, RN_78, Rld_78, Rst_78, RN_79, Rld_79, Rst_79, RN_80, Rld_80, Rst_80, RN_81, Rld_81, Rst_81, RN_82, Rld_82, Rst_82, RN_83, Rld_83, Rst_83, RN_84, Rld_84, Rst_84, RN_85, Rld_85, Rst_85, RN_86, Rld_86, Rst_86, RG_87, RP_87, RG_88, RP_88, RG_89, RP_89, RG_90, RP_90, RG_91, RP_91, RG_92, RP_92, RG_93, RP_93, RN_94, Rld_94, Rst_94, RN_95, Rld_95, Rst_95, RG_96, RP_96, RN_97, Rld_97, Rst_97, RN_98, Rld_98, Rst_98, RN_99, Rld_99, Rst_99, RN_100, Rld_100, Rst_100, RG_101, RP_101, RN_102, Rld_102, Rst_102, RN_103, Rld_103, Rst_103, RN_104, Rld_104, Rst_104, RG_105, RP_105, Option.bind_some, e52, ix_n (show i < 2147483648 by omega), decide_eq_true (show i < 60 by omega), if_true, c32 (show i < 2147483648 by omega)]
    by_cases hc : ai R 52 i = c
    · rw [if_pos hc]
      obtain ⟨R2, c1, c2, c3, c4⟩ := r_counts (m := m) (ρ := ρ) (RLp.fr hS hL).1 (RN.fr hS hN) (HB.fr hS hB) (show i < nN by omega) h6 (by omega)
      have hI : itm R1 nL i ↔ itm R nL i := by unfold itm; rw [(RLp.fr hS hL).2, hF.ai 55 (by decide), hF.ai 53 (by decide)]
      have hF2 : Fr FT R R2 := hF.trans (c2.mono (by decide))
      have hT2 : Tok n (ai R2 9) (ai R2 10) := by
        refine ⟨hT.1, fun j hj => by rw [(c4 j hj).2]; exact hT.2.1 j hj, fun j q hj hq e => hT.2.2 j q hj hq ?_⟩
        rw [(c4 j hj).1, (c4 q hq).1] at e; exact e
      have hM2 : ∀ x y, mm n (ai R2 9) (ai R2 10) x y ↔ mm n (ai R1 9) (ai R1 10) x y := by
        intro x y
        constructor
        · rintro ⟨j, hj, g1, g2⟩; exact ⟨j, hj, by rw [← (c4 j hj).1]; exact g1, by rw [← (c4 j hj).2]; exact g2⟩
        · rintro ⟨j, hj, g1, g2⟩; exact ⟨j, hj, by rw [(c4 j hj).1]; exact g1, by rw [(c4 j hj).2]; exact g2⟩
      simp only [c1, Option.bind_some, b2i_0]
      by_cases hg : itm R1 nL i ∧ bl i = true
      · rw [if_neg (by simpa using hg)]
        obtain ⟨R3, n3, d1, d2, d3, d4, d5, d6⟩ := hin (fun a b c d => K (a, b, c, d)) R2 n i (by omega) (by omega) hF2 c3 hT2
        rw [d1, e1]
        refine ⟨_, ⟨R3, n3, rfl, d2, d3, by omega, d5, fun x y => ?_⟩, rfl⟩
        have hgi : gvn R nL nN bl c (ai R 53 i) i := ⟨by omega, hc, rfl, hI.mp hg.1, hg.2⟩
        rw [d6, hM2, hM]
        simp only [hM2, hM]
        constructor
        · rintro (⟨q, q1, q2⟩ | ⟨q1, q2, q3⟩)
          · exact ⟨q, by omega, q2⟩
          · refine ⟨i, by omega, q1 ▸ hgi, q2.symm, ?_⟩
            intro j hj hgj
            rw [q1] at hgj
            have hex : ∃ q, nN - k ≤ q ∧ gvn R nL nN bl c (ai R 53 i) q ∧ ∀ j', q < j' → ¬ gvn R nL nN bl c (ai R 53 i) j' := by
              have : ∀ d q, gvn R nL nN bl c (ai R 53 i) q → nN - k ≤ q → nN - q ≤ d → ∃ q, nN - k ≤ q ∧ gvn R nL nN bl c (ai R 53 i) q ∧ ∀ j', q < j' → ¬ gvn R nL nN bl c (ai R 53 i) j' := by
                intro d
                induction d with
                | zero => intro q h1 h2 h3; have := h1.1; omega
                | succ d ih =>
                  intro q h1 h2 h3
                  by_cases hx : ∃ j', q < j' ∧ gvn R nL nN bl c (ai R 53 i) j'
                  · obtain ⟨j', h4, h5⟩ := hx
                    exact ih j' h5 (by omega) (by have := h5.1; omega)
                  · exact ⟨q, h2, h1, fun j' h4 h5 => hx ⟨j', h4, h5⟩⟩
              exact this nN j hgj (by omega) (by omega)
            obtain ⟨q, r1, r2, r3⟩ := hex
            exact q3 (ai R 54 q) ⟨q, r1, r2, rfl, r3⟩
        · rintro ⟨q, q1, q2, q3, q4⟩
          rcases Nat.lt_or_ge q (nN - k) with r | r
          · have : q = i := by omega
            subst this
            right
            refine ⟨q2.2.2.1.symm, q3.symm, ?_⟩
            rintro y' ⟨j, j1, j2, _⟩
            rw [q2.2.2.1] at j2
            exact q4 j (by omega) j2
          · exact Or.inl ⟨q, r, q2, q3, q4⟩
      · rw [if_pos hg, e1]
        refine ⟨_, ⟨R2, n, rfl, hF2, c3, by omega, hT2, fun x y => ?_⟩, rfl⟩
        rw [hM2, hM]
        exact hskip (fun q => hg ⟨hI.mpr q.2.1, q.2.2⟩) x y
    · rw [if_neg hc, e1]
      refine ⟨_, ⟨R1, n, rfl, hF, h6, by omega, hT, fun x y => ?_⟩, rfl⟩
      rw [hM]
      exact hskip (fun q => hc q.1) x y
  · rintro K _ ⟨R1, n, rfl, hF, h6, hnk, hT, hM⟩
    have e0 : (Int32.ofNat (nN - nN) - 1 : Int32) < 0 := by rw [Nat.sub_self]; decide
    simp only [fbX12_takeClock_12, if_pos e0]
    refine ⟨R1, n, rfl, hF, h6, hT, fun x y => ?_⟩
    rw [hM]; unfold mc
    constructor
    · rintro ⟨i, _, h1, h2, h3⟩; exact ⟨i, h1, h2, h3⟩
    · rintro ⟨i, h1, h2, h3⟩; exact ⟨i, by omega, h1, h2, h3⟩
  · refine ⟨_, 0, rfl, (Fr.refl _ R).sfi (by decide) _, by simp only [q_fi_sfi, q_fl_sfi, q_fr_sfi, q_ai_sfi, q_al_sfi, q_ar_sfi, q_ln_sfi, q_fi_sfl, q_fl_sfl, q_fr_sfl, q_ai_sfl, q_al_sfl, q_ar_sfl, q_ln_sfl, q_fi_sfr, q_fl_sfr, q_fr_sfr, q_ai_sfr, q_al_sfr, q_ar_sfr, q_ln_sfr, q_fi_sai, q_fl_sai, q_fr_sai, q_ai_sai, q_al_sai, q_ar_sai, q_ln_sai, q_fi_sal, q_fl_sal, q_fr_sal, q_ai_sal, q_al_sal, q_ar_sal, q_ln_sal, q_fi_sar, q_fl_sar, q_fr_sar, q_ai_sar, q_al_sar, q_ar_sar, q_ln_sar, reduceIte, Nat.reduceEqDiff]; rfl, by omega, ⟨by omega, fun i hi => by omega, fun i j hi => by omega⟩, fun x y => ⟨?_, ?_⟩⟩
    · rintro ⟨i, hi, _⟩; omega
    · rintro ⟨i, hi, h1, _⟩; have := h1.1; omega
