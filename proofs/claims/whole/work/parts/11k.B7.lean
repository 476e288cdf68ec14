def FS : List Nat := [6, 9, 10, 41, 42, 43, 44, 45, 46, 92, 93, 94, 95, 96, 97, 98, 101, 102, 103]
theorem Fr.trE {L : List Nat} {R R' : Gs} {n : Nat} (hF : Fr L R R') (h7 : 7 ∉ L) (h8 : 8 ∉ L) : tru R' n = tru R n := by unfold tru; rw [hF.ai 7 h7, hF.ai 8 h8]
theorem r_insStep {m : Nat} {ρ : Hs} {R : Gs} {n k : Nat} {c : Int32} (k11 : Hs → Nat → Int32 → Int32 → Option Hs) (h96 : fi R 96 = Int32.ofNat n) (hn : n < 60) (hk : k < 60) :
    ∃ R', fX12_findSteps_37 k11 (eR m ρ R) m c (Int32.ofNat k) (Int32.ofNat n) = k11 (eR m ρ R') m c (Int32.ofNat k + 1) ∧ Fr [94, 96] R R' ∧ fi R' 96 = Int32.ofNat (n + 1) ∧ ai R' 94 = insA (ai R 94) (ai R 15 k) n := by
  have hfin : ∀ (i : Nat) (R' : Gs), i ≤ n → Fr [94, 96] R R' → fi R' 96 = Int32.ofNat n → (∀ j, ai R' 94 j = if j ≤ n - i then ai R 94 j else if j ≤ n then ai R 94 (j - 1) else ai R 94 j) → pl (ai R 94) (ai R 15 k) n = n - i →
      ∃ R2, fX12_findSteps_78 k11 (eR m ρ R') m c (Int32.ofNat k) (Int32.ofNat (n - i)) = k11 (eR m ρ R2) m c (Int32.ofNat k + 1) ∧ Fr [94, 96] R R2 ∧ fi R2 96 = Int32.ofNat (n + 1) ∧ ai R2 94 = insA (ai R 94) (ai R 15 k) n := by
    intro i R' hi hF h4 hA hp
    have e15 := hF.ai 15 (by decide)
    unfold fX12_findSteps_78
    simp only [RisC, RG_0, RP_0, RG_1, RP_1, RN_2, Rld_2, Rst_2, RN_3, Rld_3, Rst_3, RN_4, Rld_4, Rst_4, RG_5, RP_5, RG_6, RP_6, RN_7, Rld_7, Rst_7, RN_8, Rld_8, Rst_8, RN_9, Rld_9, Rst_9, RN_10, Rld_10, Rst_10, RG_11, RP_11, RG_12, RP_12, RN_13, Rld_13, Rst_13, RN_14, Rld_14, Rst_14, RN_15, Rld_15, Rst_15, RN_16, Rld_16, Rst_16, RG_17, RP_17, RG_18, RP_18, RG_19, RP_19, RG_20, RP_20, RG_21, RP_21, RG_22, RP_22, RG_23, RP_23, RG_24, RP_24, RG_25, RP_25, RG_26, RP_26, RG_27, RP_27, RG_28, RP_28, RG_29, RP_29, RG_30, RP_30, RG_31, RP_31, RG_32, RP_32, RN_33, Rld_33, Rst_33, RN_34, Rld_34, Rst_34, RN_35, Rld_35, Rst_35, RN_36, Rld_36, Rst_36, RN_37, Rld_37, Rst_37, RN_38, Rld_38, Rst_38, RN_39, Rld_39, Rst_39, RN_40, Rld_40, Rst_40, RN_41, Rld_41, Rst_41, RN_42, Rld_42, Rst_42, RN_43, Rld_43, Rst_43, RN_44, Rld_44, Rst_44, RN_45, Rld_45, Rst_45, RG_46, RP_46, RG_47, RP_47, RG_48, RP_48, RG_49, RP_49, RN_50, Rld_50, Rst_50, RN_51, Rld_51, Rst_51, RN_52, Rld_52, Rst_52, RN_53, Rld_53, Rst_53, RN_54, Rld_54, Rst_54, RN_55, Rld_55, Rst_55, RG_56, RP_56, RG_57, RP_57, RN_58, Rld_58, Rst_58, RN_59, Rld_59, Rst_59, RN_60, Rld_60, Rst_60, RG_61, RP_61, RG_62, RP_62, RG_63, RP_63, RG_64, RP_64, RG_65, RP_65, RG_66, RP_66, RG_67, RP_67, RG_68, RP_68, RG_69, RP_69, RG_70, RP_70, RG_71, RP_71, RN_72, Rld_72, Rst_72, RN_73, Rld_73, Rst_73, RN_74, Rld_74, Rst_74, RN_75, Rld_75, Rst_75, RN_76, Rld_76, Rst_76, RN_77, Rld_77, Rst_77, RN_78, Rld_78, Rst_78, RN_79, Rld_79, Rst_79, RN_80, Rld_80, Rst_80, RN_81, Rld_81, Rst_81, RN_82, Rld_82, Rst_82, RN_83, Rld_83, Rst_83, RN_84, Rld_84, Rst_84, RN_85, Rld_85, Rst_85, RN_86, Rld_86, Rst_86, RG_87, RP_87, RG_88, RP_88, RG_89, RP_89, RG_90, RP_90, RG_91, RP_91, RG_92, RP_92, RG_93, RP_93, RN_94, Rld_94, Rst_94, RN_95, Rld_95, Rst_95, RG_96, RP_96, RN_97, Rld_97, Rst_97, RN_98, Rld_98, Rst_98, RN_99, Rld_99, Rst_99, RN_100, Rld_100, Rst_100, RG_101, RP_101, RN_102, Rld_102, Rst_102, RN_103, Rld_103, Rst_103, RN_104, Rld_104, Rst_104, RG_105, RP_105, q_fi_sfi, q_fl_sfi, q_fr_sfi, q_ai_sfi, q_al_sfi, q_ar_sfi, q_ln_sfi, q_fi_sfl, q_fl_sfl, q_fr_sfl, q_ai_sfl, q_al_sfl, q_ar_sfl, q_ln_sfl, q_fi_sfr, q_fl_sfr, q_fr_sfr, q_ai_sfr, q_al_sfr, q_ar_sfr, q_ln_sfr, q_fi_sai, q_fl_sai, q_fr_sai, q_ai_sai, q_al_sai, q_ar_sai, q_ln_sai, q_fi_sal, q_fl_sal, q_fr_sal, q_ai_sal, q_al_sal, q_ar_sal, q_ln_sal, q_fi_sar, q_fl_sar, q_fr_sar, q_ai_sar, q_al_sar, q_ar_sar, q_ln_sar, reduceIte, Nat.reduceEqDiff, Option.bind_some, e15, ix_n (show k < 2147483648 by omega), decide_eq_true hk, ix_n (show n - i < 2147483648 by omega), decide_eq_true (show n - i < 60 by omega), if_true, c32 (show n - i < 2147483648 by omega), c32 (show k < 2147483648 by omega), h4, suc32]
    refine ⟨_, rfl, (hF.sai (by decide) _).sfi (by decide) _, ?_, ?_⟩
    · simp only [q_fi_sfi, q_fl_sfi, q_fr_sfi, q_ai_sfi, q_al_sfi, q_ar_sfi, q_ln_sfi, q_fi_sfl, q_fl_sfl, q_fr_sfl, q_ai_sfl, q_al_sfl, q_ar_sfl, q_ln_sfl, q_fi_sfr, q_fl_sfr, q_fr_sfr, q_ai_sfr, q_al_sfr, q_ar_sfr, q_ln_sfr, q_fi_sai, q_fl_sai, q_fr_sai, q_ai_sai, q_al_sai, q_ar_sai, q_ln_sai, q_fi_sal, q_fl_sal, q_fr_sal, q_ai_sal, q_al_sal, q_ar_sal, q_ln_sal, q_fi_sar, q_fl_sar, q_fr_sar, q_ai_sar, q_al_sar, q_ar_sar, q_ln_sar, reduceIte, Nat.reduceEqDiff]
    · simp only [q_fi_sfi, q_fl_sfi, q_fr_sfi, q_ai_sfi, q_al_sfi, q_ar_sfi, q_ln_sfi, q_fi_sfl, q_fl_sfl, q_fr_sfl, q_ai_sfl, q_al_sfl, q_ar_sfl, q_ln_sfl, q_fi_sfr, q_fl_sfr, q_fr_sfr, q_ai_sfr, q_al_sfr, q_ar_sfr, q_ln_sfr, q_fi_sai, q_fl_sai, q_fr_sai, q_ai_sai, q_al_sai, q_ar_sai, q_ln_sai, q_fi_sal, q_fl_sal, q_fr_sal, q_ai_sal, q_al_sal, q_ar_sal, q_ln_sal, q_fi_sar, q_fl_sar, q_fr_sar, q_ai_sar, q_al_sar, q_ar_sar, q_ln_sar, reduceIte, Nat.reduceEqDiff]
      funext j
      unfold insA; rw [hp]
      by_cases h1 : j = n - i
      · subst h1; rw [up_same, if_neg (by omega), if_pos rfl]
      · rw [up_ne _ _ _ _ h1, hA]
        by_cases h2 : j ≤ n - i
        · rw [if_pos h2, if_pos (by omega)]
        · rw [if_neg h2, if_neg (show ¬ j < n - i by omega), if_neg h1]
  unfold fX12_findSteps_37
  refine lp_q n (fun i z => ∃ R', z = (eR m ρ R', m, c, Int32.ofNat k, Int32.ofNat (n - i)) ∧ Fr [94, 96] R R' ∧ fi R' 96 = Int32.ofNat n ∧ (∀ j, ai R' 94 j = if j ≤ n - i then ai R 94 j else if j ≤ n then ai R 94 (j - 1) else ai R 94 j) ∧ pl (ai R 94) (ai R 15 k) n = pl (ai R 94) (ai R 15 k) (n - i)) (fun X => ∃ R', X = k11 (eR m ρ R') m c (Int32.ofNat k + 1) ∧ Fr [94, 96] R R' ∧ fi R' 96 = Int32.ofNat (n + 1) ∧ ai R' 94 = insA (ai R 94) (ai R 15 k) n) ?_ ?_ fu 0 _ (by omega) ?_ (by unfold fu; omega)
  · rintro K i _ hi ⟨R', rfl, hF, h4, hA, hp⟩
    have e0 : ¬ Int32.ofNat (n - i) ≤ 0 := by
      intro e; rw [le32, n32 (by omega)] at e
      have : (0 : Int32).toInt = 0 := rfl
      omega
    have e15 := hF.ai 15 (by decide)
    have e3 : pl (ai R 94) (ai R 15 k) (n - i) = if ai R 94 (n - i - 1) ≤ ai R 15 k then n - i else pl (ai R 94) (ai R 15 k) (n - i - 1) := by
      rw [show n - i = n - i - 1 + 1 by omega]; rfl
    have e4 : ai R' 94 (n - i - 1) = ai R 94 (n - i - 1) := by rw [hA, if_pos (by omega)]
    simp only [fbX12_findSteps_37, if_neg e0, RisC, RG_0, RP_0, RG_1, RP_1, RN_2, Rld_2, Rst_2, RN_3, Rld_3, Rst_3, RN_4, Rld_4, Rst_4, RG_5, RP_5, RG_6, RP_6, RN_7, Rld_7, Rst_7, RN_8, Rld_8, Rst_8, RN_9, Rld_9, Rst_9, RN_10, Rld_10, Rst_10, RG_11, RP_11, RG_12, RP_12, RN_13, Rld_13, Rst_13, RN_14, Rld_14, Rst_14, RN_15, Rld_15, Rst_15, RN_16, Rld_16, Rst_16, RG_17, RP_17, RG_18, RP_18, RG_19, RP_19, RG_20, RP_20, RG_21, RP_21, RG_22, RP_22, RG_23, RP_23, RG_24, RP_24, RG_25, RP_25, RG_26, RP_26, RG_27, RP_27, RG_28, RP_28, RG_29, RP_29, RG_30, RP_30, RG_31, RP_31, RG_32, RP_32, RN_33, Rld_33, Rst_33, RN_34, Rld_34, Rst_34, RN_35, Rld_35, Rst_35, RN_36, Rld_36, Rst_36, RN_37, Rld_37, Rst_37, RN_38, Rld_38, Rst_38, RN_39, Rld_39, Rst_39, RN_40, Rld_40, Rst_40, RN_41, Rld_41, Rst_41, RN_42, Rld_42, Rst_42, RN_43, Rld_43, Rst_43, RN_44, Rld_44, Rst_44, RN_45, Rld_45, Rst_45, RG_46, RP_46, RG_47, RP_47, RG_48, RP_48, RG_49, RP_49, RN_50, Rld_50, Rst_50, RN_51, Rld_51, Rst_51, RN_52, Rld_52, Rst_52, RN_53, Rld_53, Rst_53, RN_54, Rld_54, Rst_54, RN_55, Rld_55, Rst_55, RG_56, RP_56, RG_57, RP_57, RN_58, Rld_58, Rst_58, RN_59, Rld_59, Rst_59, RN_60, Rld_60, Rst_60, RG_61, RP_61, RG_62, RP_62, RG_63, RP_63, RG_64, RP_64, RG_65, RP_65, RG_66, RP_66, RG_67, RP_67, RG_68, RP_68, RG_69, RP_69, RG_70, RP_70, RG_71, RP_71, RN_72, Rld_72, Rst_72, RN_73, Rld_73, Rst_73, RN_74, Rld_74, Rst_74, RN_75, Rld_75, Rst_75, RN_76, Rld_76, Rst_76, RN_77, Rld_77, Rst_77, RN_78, Rld_78, Rst_78, RN_79, Rld_79, Rst_79, RN_80, Rld_80, Rst_80, RN_81, Rld_81, Rst_81, RN_82, Rld_82, Rst_82, RN_83, Rld_83, Rst_83, RN_84, Rld_84, Rst_84, RN_85, Rld_85, Rst_85, RN_86, Rld_86, Rst_86, RG_87, RP_87, RG_88, RP_88, RG_89, RP_89, RG_90, RP_90, RG_91, RP_91, RG_92, RP_92, RG_93, RP_93, RN_94, Rld_94, Rst_94, RN_95, Rld_95, Rst_95, RG_96, RP_96, RN_97, Rld_97, Rst_97, RN_98, Rld_98, Rst_98, RN_99, Rld_99, Rst_99, RN_100, Rld_100, Rst_100, RG_101, RP_101, RN_102, Rld_102, Rst_102, RN_103, Rld_103, Rst_103, RN_104, Rld_104, Rst_104, RG_105, RP_105, Option.bind_some, e15, ofNat_m1 (show 0 < n - i by omega), ix_n (show n - i - 1 < 2147483648 by omega), decide_eq_true (show n - i - 1 < 60 by omega), if_true, c32 (show n - i - 1 < 2147483648 by omega), e4, ix_n (show k < 2147483648 by omega), decide_eq_true hk, c32 (show k < 2147483648 by omega)]
    by_cases h1 : ai R 94 (n - i - 1) ≤ ai R 15 k
    · right
      rw [if_pos h1]
      exact hfin i R' (by omega) hF h4 hA (by rw [hp, e3, if_pos h1])
    · left
      rw [if_neg h1]
      simp only [ix_n (show n - i < 2147483648 by omega), decide_eq_true (show n - i < 60 by omega), if_true, c32 (show n - i < 2147483648 by omega), Option.bind_some, ofNat_p1 (show 0 < n - i by omega)]
      refine ⟨_, ⟨_, rfl, ?_⟩, rfl⟩
      refine ⟨hF.sai (by decide) _, h4, fun j => ?_, ?_⟩
      · simp only [q_fi_sfi, q_fl_sfi, q_fr_sfi, q_ai_sfi, q_al_sfi, q_ar_sfi, q_ln_sfi, q_fi_sfl, q_fl_sfl, q_fr_sfl, q_ai_sfl, q_al_sfl, q_ar_sfl, q_ln_sfl, q_fi_sfr, q_fl_sfr, q_fr_sfr, q_ai_sfr, q_al_sfr, q_ar_sfr, q_ln_sfr, q_fi_sai, q_fl_sai, q_fr_sai, q_ai_sai, q_al_sai, q_ar_sai, q_ln_sai, q_fi_sal, q_fl_sal, q_fr_sal, q_ai_sal, q_al_sal, q_ar_sal, q_ln_sal, q_fi_sar, q_fl_sar, q_fr_sar, q_ai_sar, q_al_sar, q_ar_sar, q_ln_sar, reduceIte, Nat.reduceEqDiff]
        by_cases h2 : j = n - i
        · subst h2; rw [up_same, if_neg (by omega), if_pos (by omega)]
        · rw [up_ne _ _ _ _ h2, hA]
          by_cases h3 : j ≤ n - (i + 1)
          · rw [if_pos (by omega), if_pos h3]
          · rw [if_neg (by omega), if_neg h3]
      · rw [hp, e3, if_neg h1]; rfl
  · rintro K _ ⟨R', rfl, hF, h4, hA, hp⟩
    have e0 : Int32.ofNat (n - n) ≤ 0 := by rw [Nat.sub_self]; decide
    simp only [fbX12_findSteps_37, if_pos e0, Option.bind_some]
    exact hfin n R' (by omega) hF h4 hA (by rw [hp, Nat.sub_self]; rfl)
  · refine ⟨R, rfl, Fr.refl _ _, h96, fun j => ?_, rfl⟩
    by_cases h1 : j ≤ n - 0
    · rw [if_pos h1]
    · rw [if_neg h1, if_neg (by omega)]
def Fnd (R R' : Gs) (nL nN nS nh : Nat) (bl : Nat → Bool) (c : Int32) : Prop :=
  Fr FS R R' ∧ fi R' 6 = Int32.ofNat nh ∧ Tok nh (ai R' 9) (ai R' 10) ∧ (∀ x y, mm nh (ai R' 9) (ai R' 10) x y ↔ mc R nL nN bl c x y) ∧
  fi R' 96 = Int32.ofNat (stN (ai R 14) c nS) ∧ (∀ i, i < stN (ai R 14) c nS → ai R' 94 i = stA (ai R 14) (ai R 15) c nS i) ∧
  ∀ i, i < stN (ai R 14) c nS → (ai R' 95 i).toInt = ldS (tru R nL) (lst nh (ai R' 9) (ai R' 10)) (stA (ai R 14) (ai R 15) c nS i).toInt
theorem r_findSteps {m : Nat} {ρ : Hs} {R : Gs} {nL nN nS : Nat} {bl : Nat → Bool} {c : Int32} (hL : RLp R nL) (hN : RN R nN) (hS : RSt R nS) (hB : HB m ρ R nN bl) :
    ∃ R' nh, fX12_findSteps_0 (eR m ρ R) m c = some (eR m ρ R') ∧ Fnd R R' nL nN nS nh bl c := by
  have hS60 := hS.2.1
  have hns := stN_le (ai R 14) c nS
  have hrng := stA_P (C := ai R 14) (A := ai R 15) (c := c) (fun a => 0 ≤ a.toInt ∧ a.toInt ≤ 900000000) nS hS.2.2
  generalize hna : stN (ai R 14) c nS = na at *
  generalize hsa : stA (ai R 14) (ai R 15) c nS = sa at *
  have h160 : ∀ (R1 : Gs) (nh : Nat), Fr FS R R1 → fi R1 6 = Int32.ofNat nh → Tok nh (ai R1 9) (ai R1 10) → (∀ x y, mm nh (ai R1 9) (ai R1 10) x y ↔ mc R nL nN bl c x y) → fi R1 96 = Int32.ofNat na → (∀ i, i < na → ai R1 94 i = sa i) → (∀ i, i < na → (ai R1 97 i).toInt = civ (tru R nL) (sa i).toInt ∧ (ai R1 98 i).toInt = (sa i).toInt - bg (tru R nL) (civ (tru R nL) (sa i).toInt)) →
      ∃ R' nh, fX12_findSteps_160 (eR m ρ R1) m 0 = some (eR m ρ R') ∧ Fr FS R R' ∧ fi R' 6 = Int32.ofNat nh ∧ Tok nh (ai R' 9) (ai R' 10) ∧ (∀ x y, mm nh (ai R' 9) (ai R' 10) x y ↔ mc R nL nN bl c x y) ∧ fi R' 96 = Int32.ofNat na ∧ (∀ i, i < na → ai R' 94 i = sa i) ∧ ∀ i, i < na → (ai R' 95 i).toInt = ldS (tru R nL) (lst nh (ai R' 9) (ai R' 10)) (sa i).toInt := by
    intro R1 nh hF h6 hT hM h96 hA hC
    unfold fX12_findSteps_160
    refine lp_q na (fun k z => ∃ R2, z = (eR m ρ R2, m, Int32.ofNat k) ∧ Fr [95] R1 R2 ∧ ∀ i, i < k → (ai R2 95 i).toInt = ldS (tru R nL) (lst nh (ai R1 9) (ai R1 10)) (sa i).toInt) (fun X => ∃ R' nh, X = some (eR m ρ R') ∧ Fr FS R R' ∧ fi R' 6 = Int32.ofNat nh ∧ Tok nh (ai R' 9) (ai R' 10) ∧ (∀ x y, mm nh (ai R' 9) (ai R' 10) x y ↔ mc R nL nN bl c x y) ∧ fi R' 96 = Int32.ofNat na ∧ (∀ i, i < na → ai R' 94 i = sa i) ∧ ∀ i, i < na → (ai R' 95 i).toInt = ldS (tru R nL) (lst nh (ai R' 9) (ai R' 10)) (sa i).toInt) ?_ ?_ fu 0 _ (by omega) ⟨R1, rfl, Fr.refl _ _, fun i hi => by omega⟩ (by unfold fu; omega)
    · rintro K k _ hk ⟨R2, rfl, hF2, hD⟩
      left
      have e96 : fi R2 96 = Int32.ofNat na := (hF2.i 96 (by decide)).trans h96
      have e6 : fi R2 6 = Int32.ofNat nh := (hF2.i 6 (by decide)).trans h6
      have a9 := hF2.ai 9 (by decide)
      have a10 := hF2.ai 10 (by decide)
      have a94 := hF2.ai 94 (by decide)
      have a97 := hF2.ai 97 (by decide)
      have a98 := hF2.ai 98 (by decide)
      obtain ⟨hC1, hC2⟩ := hC k hk
      have hA1 := hA k hk
      have hr1 := hrng k hk
      obtain ⟨kd1, k1, k2⟩ := r_handKindOf (m := m) (ρ := ρ) (R := R2) (d := ai R1 97 k) e6 hT.1 (by rw [a9]; exact hT.2.2)
      rw [a9, a10] at k2
      have hkb := kd_1 hT (ai R1 97 k).toInt
      have hle : (86400 + kd1).toInt = 86400 + kd1.toInt := by rw [add32]; rfl; rw [k2]; show _ ≤ 86400 + _ ∧ 86400 + _ < _; omega
      have hcb : -1000000 ≤ (ai R1 97 k).toInt ∧ (ai R1 97 k).toInt ≤ 1000000 := by
        rw [hC1]
        have h1 := civ_ok hL.2.2 (sa k).toInt
        have h2 := bs_1 hL.2.2 (civ (lst nL (ai R 7) (ai R 8)) (sa k).toInt)
        have h3 := bs_1 hL.2.2 (civ (lst nL (ai R 7) (ai R 8)) (sa k).toInt + 1)
        unfold tru bg at *; omega
      have hd1 : (ai R1 97 k + 1).toInt = (ai R1 97 k).toInt + 1 := by rw [add32]; rfl; show _ ≤ _ + 1 ∧ _ + 1 < _; omega
      obtain ⟨r1, b1, b2⟩ := r_beginOf (m := m) (ρ := ρ) (R := R2) (d := ai R1 97 k) e6 hT.1
      obtain ⟨r2, b3, b4⟩ := r_beginOf (m := m) (ρ := ρ) (R := R2) (d := ai R1 97 k + 1) e6 hT.1
      rw [a9, a10] at b2 b4
      rw [hd1] at b4
      have hld := ldS_bd hL.2.2 hT (sa k).toInt
      have hsb := bs_1 hT (ai R1 97 k).toInt
      simp only [fbX12_findSteps_160, RisC, RG_0, RP_0, RG_1, RP_1, RN_2, Rld_2, Rst_2, RN_3, Rld_3, Rst_3, RN_4, Rld_4, Rst_4, RG_5, RP_5, RG_6, RP_6, RN_7, Rld_7, Rst_7, RN_8, Rld_8, Rst_8, RN_9, Rld_9, Rst_9, RN_10, Rld_10, Rst_10, RG_11, RP_11, RG_12, RP_12, RN_13, Rld_13, Rst_13, RN_14, Rld_14, Rst_14, RN_15, Rld_15, Rst_15, RN_16, Rld_16, Rst_16, RG_17, RP_17, RG_18, RP_18, RG_19, RP_19, RG_20, RP_20, RG_21, RP_21, RG_22, RP_22, RG_23, RP_23, RG_24, RP_24, RG_25, RP_25, RG_26, RP_26, RG_27, RP_27, RG_28, RP_28, RG_29, RP_29, RG_30, RP_30, RG_31, RP_31, RG_32, RP_32, RN_33, Rld_33, Rst_33, RN_34, Rld_34, Rst_34, RN_35, Rld_35, Rst_35, RN_36, Rld_36, Rst_36, RN_37, Rld_37, Rst_37, RN_38, Rld_38, Rst_38, RN_39, Rld_39, Rst_39, RN_40, Rld_40, Rst_40, RN_41, Rld_41, Rst_41, RN_42, Rld_42, Rst_42, RN_43, Rld_43, Rst_43, RN_44, Rld_44, Rst_44, RN_45, Rld_45, Rst_45, RG_46, RP_46, RG_47, RP_47, RG_48, RP_48, RG_49, RP_49, RN_50, Rld_50, Rst_50, RN_51, Rld_51, Rst_51, RN_52, Rld_52, Rst_52, RN_53, Rld_53, Rst_53, RN_54, Rld_54, Rst_54, RN_55, Rld_55, Rst_55, RG_56, RP_56, RG_57, RP_57, RN_58, Rld_58, Rst_58, RN_59, Rld_59, Rst_59, RN_60, Rld_60, Rst_60, RG_61, RP_61, RG_62, RP_62, RG_63, RP_63, RG_64, RP_64, RG_65, RP_65, RG_66, RP_66, RG_67, RP_67, RG_68, RP_68, RG_69, RP_69, RG_70, RP_70, RG_71, RP_71, RN_72, Rld_72, Rst_72, RN_73, Rld_73, Rst_73, RN_74, Rld_74, Rst_74, RN_75, Rld_75, Rst_75, RN_76, Rld_76, Rst_76, RN_77, Rld_77, Rst_77, RN_78, Rld_78, Rst_78, RN_79, Rld_79, Rst_79, RN_80, Rld_80, Rst_80, RN_81, Rld_81, Rst_81, RN_82, Rld_82, Rst_82, RN_83, Rld_83, Rst_83, RN_84, Rld_84, Rst_84, RN_85, Rld_85, Rst_85, RN_86, Rld_86, Rst_86, RG_87, RP_87, RG_88, RP_88, RG_89, RP_89, RG_90, RP_90, RG_91, RP_91, RG_92, RP_92, RG_93, RP_93, RN_94, Rld_94, Rst_94, RN_95, Rld_95, Rst_95, RG_96, RP_96, RN_97, Rld_97, Rst_97, RN_98, Rld_98, Rst_98, RN_99, Rld_99, Rst_99, RN_100, Rld_100, Rst_100, RG_101, RP_101, RN_102, Rld_102, Rst_102, RN_103, Rld_103, Rst_103, RN_104, Rld_104, Rst_104, RG_105, RP_105, Option.bind_some, e96, a94, a97, a98, le_n (show na < 2147483648 by omega) (show k < 2147483648 by omega), if_neg (show ¬ na ≤ k by omega), ix_n (show k < 2147483648 by omega), decide_eq_true (show k < 60 by omega), if_true, c32 (show k < 2147483648 by omega), suc32, k1]
      have hlay : ∀ (v : Int64), v.toInt - (sa k).toInt = ldS (tru R nL) (lst nh (ai R1 9) (ai R1 10)) (sa k).toInt → ∃ s', (∃ R2, s' = (eR m ρ R2, m, Int32.ofNat (k + 1)) ∧ Fr [95] R1 R2 ∧ ∀ i, i < k + 1 → (ai R2 95 i).toInt = ldS (tru R nL) (lst nh (ai R1 9) (ai R1 10)) (sa i).toInt) ∧ fX12_findSteps_234 (fun a b c => K (a, b, c)) (eR m ρ R2) m (Int32.ofNat k) v = K s' := by
        intro v hv
        have es : (v - (sa k).toInt64).toInt = v.toInt - (sa k).toInt := by
          rw [sub64, up64]; rw [up64, hv]; unfold tru; omega
        unfold fX12_findSteps_234
        simp only [RisC, RG_0, RP_0, RG_1, RP_1, RN_2, Rld_2, Rst_2, RN_3, Rld_3, Rst_3, RN_4, Rld_4, Rst_4, RG_5, RP_5, RG_6, RP_6, RN_7, Rld_7, Rst_7, RN_8, Rld_8, Rst_8, RN_9, Rld_9, Rst_9, RN_10, Rld_10, Rst_10, RG_11, RP_11, RG_12, RP_12, RN_13, Rld_13, Rst_13, RN_14, Rld_14, Rst_14, RN_15, Rld_15, Rst_15, RN_16, Rld_16, Rst_16, RG_17, RP_17, RG_18, RP_18, RG_19, RP_19, RG_20, RP_20, RG_21, RP_21, RG_22, RP_22, RG_23, RP_23, RG_24, RP_24, RG_25, RP_25, RG_26, RP_26, RG_27, RP_27, RG_28, RP_28, RG_29, RP_29, RG_30, RP_30, RG_31, RP_31, RG_32, RP_32, RN_33, Rld_33, Rst_33, RN_34, Rld_34, Rst_34, RN_35, Rld_35, Rst_35, RN_36, Rld_36, Rst_36, RN_37, Rld_37, Rst_37, RN_38, Rld_38, Rst_38, RN_39, Rld_39, Rst_39, RN_40, Rld_40, Rst_40, RN_41, Rld_41, Rst_41, RN_42, Rld_42, Rst_42, RN_43, Rld_43, Rst_43, RN_44, Rld_44, Rst_44, RN_45, Rld_45, Rst_45, RG_46, RP_46, RG_47, RP_47, RG_48, RP_48, RG_49, RP_49, RN_50, Rld_50, Rst_50, RN_51, Rld_51, Rst_51, RN_52, Rld_52, Rst_52, RN_53, Rld_53, Rst_53, RN_54, Rld_54, Rst_54, RN_55, Rld_55, Rst_55, RG_56, RP_56, RG_57, RP_57, RN_58, Rld_58, Rst_58, RN_59, Rld_59, Rst_59, RN_60, Rld_60, Rst_60, RG_61, RP_61, RG_62, RP_62, RG_63, RP_63, RG_64, RP_64, RG_65, RP_65, RG_66, RP_66, RG_67, RP_67, RG_68, RP_68, RG_69, RP_69, RG_70, RP_70, RG_71, RP_71, RN_72, Rld_72, Rst_72, RN_73, Rld_73, Rst_73, RN_74, Rld_74, Rst_74, RN_75, Rld_75, Rst_75, RN_76, Rld_76, Rst_76, RN_77, Rld_77, Rst_77, RN_78, Rld_78, Rst_78, RN_79, Rld_79, Rst_79, RN_80, Rld_80, Rst_80, RN_81, Rld_81, Rst_81, RN_82, Rld_82, Rst_82, RN_83, Rld_83, Rst_83, RN_84, Rld_84, Rst_84, RN_85, Rld_85, Rst_85, RN_86, Rld_86, Rst_86, RG_87, RP_87, RG_88, RP_88, RG_89, RP_89, RG_90, RP_90, RG_91, RP_91, RG_92, RP_92, RG_93, RP_93, RN_94, Rld_94, Rst_94, RN_95, Rld_95, Rst_95, RG_96, RP_96, RN_97, Rld_97, Rst_97, RN_98, Rld_98, Rst_98, RN_99, Rld_99, Rst_99, RN_100, Rld_100, Rst_100, RG_101, RP_101, RN_102, Rld_102, Rst_102, RN_103, Rld_103, Rst_103, RN_104, Rld_104, Rst_104, RG_105, RP_105, Option.bind_some, a94, ix_n (show k < 2147483648 by omega), decide_eq_true (show k < 60 by omega), if_true, c32 (show k < 2147483648 by omega), suc32, hA1]
        refine ⟨_, ⟨_, rfl, ?_⟩, rfl⟩
        refine ⟨hF2.sai (by decide) _, fun i hi => ?_⟩
        simp only [q_fi_sfi, q_fl_sfi, q_fr_sfi, q_ai_sfi, q_al_sfi, q_ar_sfi, q_ln_sfi, q_fi_sfl, q_fl_sfl, q_fr_sfl, q_ai_sfl, q_al_sfl, q_ar_sfl, q_ln_sfl, q_fi_sfr, q_fl_sfr, q_fr_sfr, q_ai_sfr, q_al_sfr, q_ar_sfr, q_ln_sfr, q_fi_sai, q_fl_sai, q_fr_sai, q_ai_sai, q_al_sai, q_ar_sai, q_ln_sai, q_fi_sal, q_fl_sal, q_fr_sal, q_ai_sal, q_al_sal, q_ar_sal, q_ln_sal, q_fi_sar, q_fl_sar, q_fr_sar, q_ai_sar, q_al_sar, q_ar_sar, q_ln_sar, reduceIte, Nat.reduceEqDiff]
        by_cases hik : i = k
        · subst hik
          rw [up_same, dn32, es, hv]
          rw [es, hv]; unfold tru; omega
        · rw [up_ne _ _ _ _ hik]; exact hD i (by omega)
      have hdef : ldS (tru R nL) (lst nh (ai R1 9) (ai R1 10)) (sa k).toInt = (if (ai R1 98 k).toInt < 86400 + kd (lst nh (ai R1 9) (ai R1 10)) (ai R1 97 k).toInt then bg (lst nh (ai R1 9) (ai R1 10)) (ai R1 97 k).toInt + (ai R1 98 k).toInt else bg (lst nh (ai R1 9) (ai R1 10)) ((ai R1 97 k).toInt + 1)) - (sa k).toInt := by
        rw [hC1, hC2]; rfl
      have hs98 := r32 (ai R1 98 k)
      by_cases hcs : 86400 + kd1 ≤ ai R1 98 k
      · rw [if_pos hcs]
        rw [le32, hle, k2] at hcs
        unfold fX12_findSteps_196
        simp only [RisC, RG_0, RP_0, RG_1, RP_1, RN_2, Rld_2, Rst_2, RN_3, Rld_3, Rst_3, RN_4, Rld_4, Rst_4, RG_5, RP_5, RG_6, RP_6, RN_7, Rld_7, Rst_7, RN_8, Rld_8, Rst_8, RN_9, Rld_9, Rst_9, RN_10, Rld_10, Rst_10, RG_11, RP_11, RG_12, RP_12, RN_13, Rld_13, Rst_13, RN_14, Rld_14, Rst_14, RN_15, Rld_15, Rst_15, RN_16, Rld_16, Rst_16, RG_17, RP_17, RG_18, RP_18, RG_19, RP_19, RG_20, RP_20, RG_21, RP_21, RG_22, RP_22, RG_23, RP_23, RG_24, RP_24, RG_25, RP_25, RG_26, RP_26, RG_27, RP_27, RG_28, RP_28, RG_29, RP_29, RG_30, RP_30, RG_31, RP_31, RG_32, RP_32, RN_33, Rld_33, Rst_33, RN_34, Rld_34, Rst_34, RN_35, Rld_35, Rst_35, RN_36, Rld_36, Rst_36, RN_37, Rld_37, Rst_37, RN_38, Rld_38, Rst_38, RN_39, Rld_39, Rst_39, RN_40, Rld_40, Rst_40, RN_41, Rld_41, Rst_41, RN_42, Rld_42, Rst_42, RN_43, Rld_43, Rst_43, RN_44, Rld_44, Rst_44, RN_45, Rld_45, Rst_45, RG_46, RP_46, RG_47, RP_47, RG_48, RP_48, RG_49, RP_49, RN_50, Rld_50, Rst_50, RN_51, Rld_51, Rst_51, RN_52, Rld_52, Rst_52, RN_53, Rld_53, Rst_53, RN_54, Rld_54, Rst_54, RN_55, Rld_55, Rst_55, RG_56, RP_56, RG_57, RP_57, RN_58, Rld_58, Rst_58, RN_59, Rld_59, Rst_59, RN_60, Rld_60, Rst_60, RG_61, RP_61, RG_62, RP_62, RG_63, RP_63, RG_64, RP_64, RG_65, RP_65, RG_66, RP_66, RG_67, RP_67, RG_68, RP_68, RG_69, RP_69, RG_70, RP_70, RG_71, RP_71, RN_72, Rld_72, Rst_72, RN_73, Rld_73, Rst_73, RN_74, Rld_74, Rst_74, RN_75, Rld_75, Rst_75, RN_76, Rld_76, Rst_76, RN_77, Rld_77, Rst_77, RN_78, Rld_78, Rst_78, RN_79, Rld_79, Rst_79, RN_80, Rld_80, Rst_80, RN_81, Rld_81, Rst_81, RN_82, Rld_82, Rst_82, RN_83, Rld_83, Rst_83, RN_84, Rld_84, Rst_84, RN_85, Rld_85, Rst_85, RN_86, Rld_86, Rst_86, RG_87, RP_87, RG_88, RP_88, RG_89, RP_89, RG_90, RP_90, RG_91, RP_91, RG_92, RP_92, RG_93, RP_93, RN_94, Rld_94, Rst_94, RN_95, Rld_95, Rst_95, RG_96, RP_96, RN_97, Rld_97, Rst_97, RN_98, Rld_98, Rst_98, RN_99, Rld_99, Rst_99, RN_100, Rld_100, Rst_100, RG_101, RP_101, RN_102, Rld_102, Rst_102, RN_103, Rld_103, Rst_103, RN_104, Rld_104, Rst_104, RG_105, RP_105, Option.bind_some, a97, ix_n (show k < 2147483648 by omega), decide_eq_true (show k < 60 by omega), if_true, c32 (show k < 2147483648 by omega), b3]
        exact hlay r2 (by rw [hdef, if_neg (by omega), b4])
      · rw [if_neg hcs]
        rw [le32, hle, k2] at hcs
        unfold fX12_findSteps_196
        rw [if_neg (by decide)]
        simp only [RisC, RG_0, RP_0, RG_1, RP_1, RN_2, Rld_2, Rst_2, RN_3, Rld_3, Rst_3, RN_4, Rld_4, Rst_4, RG_5, RP_5, RG_6, RP_6, RN_7, Rld_7, Rst_7, RN_8, Rld_8, Rst_8, RN_9, Rld_9, Rst_9, RN_10, Rld_10, Rst_10, RG_11, RP_11, RG_12, RP_12, RN_13, Rld_13, Rst_13, RN_14, Rld_14, Rst_14, RN_15, Rld_15, Rst_15, RN_16, Rld_16, Rst_16, RG_17, RP_17, RG_18, RP_18, RG_19, RP_19, RG_20, RP_20, RG_21, RP_21, RG_22, RP_22, RG_23, RP_23, RG_24, RP_24, RG_25, RP_25, RG_26, RP_26, RG_27, RP_27, RG_28, RP_28, RG_29, RP_29, RG_30, RP_30, RG_31, RP_31, RG_32, RP_32, RN_33, Rld_33, Rst_33, RN_34, Rld_34, Rst_34, RN_35, Rld_35, Rst_35, RN_36, Rld_36, Rst_36, RN_37, Rld_37, Rst_37, RN_38, Rld_38, Rst_38, RN_39, Rld_39, Rst_39, RN_40, Rld_40, Rst_40, RN_41, Rld_41, Rst_41, RN_42, Rld_42, Rst_42, RN_43, Rld_43, Rst_43, RN_44, Rld_44, Rst_44, RN_45, Rld_45, Rst_45, RG_46, RP_46, RG_47, RP_47, RG_48, RP_48, RG_49, RP_49, RN_50, Rld_50, Rst_50, RN_51, Rld_51, Rst_51, RN_52, Rld_52, Rst_52, RN_53, Rld_53, Rst_53, RN_54, Rld_54, Rst_54, RN_55, Rld_55, Rst_55, RG_56, RP_56, RG_57, RP_57, RN_58, Rld_58, Rst_58, RN_59, Rld_59, Rst_59, RN_60, Rld_60, Rst_60, RG_61, RP_61, RG_62, RP_62, RG_63, RP_63, RG_64, RP_64, RG_65, RP_65, RG_66, RP_66, RG_67, RP_67, RG_68, RP_68, RG_69, RP_69, RG_70, RP_70, RG_71, RP_71, RN_72, Rld_72, Rst_72, RN_73, Rld_73, Rst_73, RN_74, Rld_74, Rst_74, RN_75, Rld_75, Rst_75, RN_76, Rld_76, Rst_76, RN_77, Rld_77, Rst_77, RN_78, Rld_78, Rst_78, RN_79, Rld_79, Rst_79, RN_80, Rld_80, Rst_80, RN_81, Rld_81, Rst_81, RN_82, Rld_82, Rst_82, RN_83, Rld_83, Rst_83, RN_84, Rld_84, Rst_84, RN_85, Rld_85, Rst_85, RN_86, Rld_86, Rst_86, RG_87, RP_87, RG_88, RP_88, RG_89, RP_89, RG_90, RP_90, RG_91, RP_91, RG_92, RP_92, RG_93, RP_93, RN_94, Rld_94, Rst_94, RN_95, Rld_95, Rst_95, RG_96, RP_96, RN_97, Rld_97, Rst_97, RN_98, Rld_98, Rst_98, RN_99, Rld_99, Rst_99, RN_100, Rld_100, Rst_100, RG_101, RP_101, RN_102, Rld_102, Rst_102, RN_103, Rld_103, Rst_103, RN_104, Rld_104, Rst_104, RG_105, RP_105, Option.bind_some, a97, a98, ix_n (show k < 2147483648 by omega), decide_eq_true (show k < 60 by omega), if_true, c32 (show k < 2147483648 by omega), b1]
        refine hlay (r1 + (ai R1 98 k).toInt64) ?_
        rw [hdef, if_pos (by omega), add64, up64, b2]
        rw [up64, b2]; unfold bg; omega
    · rintro K _ ⟨R2, rfl, hF2, hD⟩
      have e96 : fi R2 96 = Int32.ofNat na := (hF2.i 96 (by decide)).trans h96
      simp only [fbX12_findSteps_160, RisC, RG_0, RP_0, RG_1, RP_1, RN_2, Rld_2, Rst_2, RN_3, Rld_3, Rst_3, RN_4, Rld_4, Rst_4, RG_5, RP_5, RG_6, RP_6, RN_7, Rld_7, Rst_7, RN_8, Rld_8, Rst_8, RN_9, Rld_9, Rst_9, RN_10, Rld_10, Rst_10, RG_11, RP_11, RG_12, RP_12, RN_13, Rld_13, Rst_13, RN_14, Rld_14, Rst_14, RN_15, Rld_15, Rst_15, RN_16, Rld_16, Rst_16, RG_17, RP_17, RG_18, RP_18, RG_19, RP_19, RG_20, RP_20, RG_21, RP_21, RG_22, RP_22, RG_23, RP_23, RG_24, RP_24, RG_25, RP_25, RG_26, RP_26, RG_27, RP_27, RG_28, RP_28, RG_29, RP_29, RG_30, RP_30, RG_31, RP_31, RG_32, RP_32, RN_33, Rld_33, Rst_33, RN_34, Rld_34, Rst_34, RN_35, Rld_35, Rst_35, RN_36, Rld_36, Rst_36, RN_37, Rld_37, Rst_37, RN_38, Rld_38, Rst_38, RN_39, Rld_39, Rst_39, RN_40, Rld_40, Rst_40, RN_41, Rld_41, Rst_41, RN_42, Rld_42, Rst_42, RN_43, Rld_43, Rst_43, RN_44, Rld_44, Rst_44, RN_45, Rld_45, Rst_45, RG_46, RP_46, RG_47, RP_47, RG_48, RP_48, RG_49, RP_49, RN_50, Rld_50, Rst_50, RN_51, Rld_51, Rst_51, RN_52, Rld_52, Rst_52, RN_53, Rld_53, Rst_53, RN_54, Rld_54, Rst_54, RN_55, Rld_55, Rst_55, RG_56, RP_56, RG_57, RP_57, RN_58, Rld_58, Rst_58, RN_59, Rld_59, Rst_59, RN_60, Rld_60, Rst_60, RG_61, RP_61, RG_62, RP_62, RG_63, RP_63, RG_64, RP_64, RG_65, RP_65, RG_66, RP_66, RG_67, RP_67, RG_68, RP_68, RG_69, RP_69, RG_70, RP_70, RG_71, RP_71, RN_72, Rld_72, Rst_72, RN_73, Rld_73, Rst_73, RN_74, Rld_74, Rst_74, RN_75, Rld_75, Rst_75, RN_76, Rld_76, Rst_76, RN_77, Rld_77, Rst_77, RN_78, Rld_78, Rst_78, RN_79, Rld_79, Rst_79, RN_80, Rld_80, Rst_80, RN_81, Rld_81, Rst_81, RN_82, Rld_82, Rst_82, RN_83, Rld_83, Rst_83, RN_84, Rld_84, Rst_84, RN_85, Rld_85, Rst_85, RN_86, Rld_86, Rst_86, RG_87, RP_87, RG_88, RP_88, RG_89, RP_89, RG_90, RP_90, RG_91, RP_91, RG_92, RP_92, RG_93, RP_93, RN_94, Rld_94, Rst_94, RN_95, Rld_95, Rst_95, RG_96, RP_96, RN_97, Rld_97, Rst_97, RN_98, Rld_98, Rst_98, RN_99, Rld_99, Rst_99, RN_100, Rld_100, Rst_100, RG_101, RP_101, RN_102, Rld_102, Rst_102, RN_103, Rld_103, Rst_103, RN_104, Rld_104, Rst_104, RG_105, RP_105, Option.bind_some, e96, Int32.le_refl, if_true]
      refine ⟨R2, nh, rfl, hF.trans (hF2.mono (by decide)), (hF2.i 6 (by decide)).trans h6, ?_, ?_, e96, ?_, ?_⟩
      · rw [hF2.ai 9 (by decide), hF2.ai 10 (by decide)]; exact hT
      · rw [hF2.ai 9 (by decide), hF2.ai 10 (by decide)]; exact hM
      · rw [hF2.ai 94 (by decide)]; exact hA
      · rw [hF2.ai 9 (by decide), hF2.ai 10 (by decide)]; exact hD
  have h108 : ∀ (R1 : Gs), Fr FS R R1 → fi R1 6 = Int32.ofNat nL → (∀ i, i < nL → ai R1 9 i = ai R 7 i ∧ ai R1 10 i = ai R 8 i) → fi R1 96 = Int32.ofNat na → (∀ i, i < na → ai R1 94 i = sa i) →
      ∃ R' nh, fX12_findSteps_108 (eR m ρ R1) m c 0 = some (eR m ρ R') ∧ Fr FS R R' ∧ fi R' 6 = Int32.ofNat nh ∧ Tok nh (ai R' 9) (ai R' 10) ∧ (∀ x y, mm nh (ai R' 9) (ai R' 10) x y ↔ mc R nL nN bl c x y) ∧ fi R' 96 = Int32.ofNat na ∧ (∀ i, i < na → ai R' 94 i = sa i) ∧ ∀ i, i < na → (ai R' 95 i).toInt = ldS (tru R nL) (lst nh (ai R' 9) (ai R' 10)) (sa i).toInt := by
    intro R1 hF h6 hH h96 hA
    have hTl : lst nL (ai R1 9) (ai R1 10) = tru R nL := lst_congr hH
    have hT1 : Tok nL (ai R1 9) (ai R1 10) := by
      refine ⟨hL.2.2.1, fun i hi => by rw [(hH i hi).2]; exact hL.2.2.2.1 i hi, fun i j hi hj e => hL.2.2.2.2 i j hi hj ?_⟩
      rw [(hH i hi).1, (hH j hj).1] at e; exact e
    unfold fX12_findSteps_108
    refine lp_q na (fun k z => ∃ R2, z = (eR m ρ R2, m, c, Int32.ofNat k) ∧ Fr [92, 93, 97, 98] R1 R2 ∧ ∀ i, i < k → (ai R2 97 i).toInt = civ (tru R nL) (sa i).toInt ∧ (ai R2 98 i).toInt = (sa i).toInt - bg (tru R nL) (civ (tru R nL) (sa i).toInt)) (fun X => ∃ R' nh, X = some (eR m ρ R') ∧ Fr FS R R' ∧ fi R' 6 = Int32.ofNat nh ∧ Tok nh (ai R' 9) (ai R' 10) ∧ (∀ x y, mm nh (ai R' 9) (ai R' 10) x y ↔ mc R nL nN bl c x y) ∧ fi R' 96 = Int32.ofNat na ∧ (∀ i, i < na → ai R' 94 i = sa i) ∧ ∀ i, i < na → (ai R' 95 i).toInt = ldS (tru R nL) (lst nh (ai R' 9) (ai R' 10)) (sa i).toInt) ?_ ?_ fu 0 _ (by omega) ⟨R1, rfl, Fr.refl _ _, fun i hi => by omega⟩ (by unfold fu; omega)
    · rintro K k _ hk ⟨R2, rfl, hF2, hD⟩
      left
      have e96 : fi R2 96 = Int32.ofNat na := (hF2.i 96 (by decide)).trans h96
      have a94 := hF2.ai 94 (by decide)
      have hA1 := hA k hk
      have hr1 := hrng k hk
      obtain ⟨R3, f1, f2, f3, f4⟩ := r_findCivil (m := m) (ρ := ρ) (R := R2) (c := (sa k).toInt64) ((hF2.i 6 (by decide)).trans h6) (by rw [hF2.ai 9 (by decide), hF2.ai 10 (by decide)]; exact hT1) (by rw [up64]; omega) (by rw [up64]; omega)
      rw [hF2.ai 9 (by decide), hF2.ai 10 (by decide), hTl, up64] at f3 f4
      simp only [fbX12_findSteps_108, RisC, RG_0, RP_0, RG_1, RP_1, RN_2, Rld_2, Rst_2, RN_3, Rld_3, Rst_3, RN_4, Rld_4, Rst_4, RG_5, RP_5, RG_6, RP_6, RN_7, Rld_7, Rst_7, RN_8, Rld_8, Rst_8, RN_9, Rld_9, Rst_9, RN_10, Rld_10, Rst_10, RG_11, RP_11, RG_12, RP_12, RN_13, Rld_13, Rst_13, RN_14, Rld_14, Rst_14, RN_15, Rld_15, Rst_15, RN_16, Rld_16, Rst_16, RG_17, RP_17, RG_18, RP_18, RG_19, RP_19, RG_20, RP_20, RG_21, RP_21, RG_22, RP_22, RG_23, RP_23, RG_24, RP_24, RG_25, RP_25, RG_26, RP_26, RG_27, RP_27, RG_28, RP_28, RG_29, RP_29, RG_30, RP_30, RG_31, RP_31, RG_32, RP_32, RN_33, Rld_33, Rst_33, RN_34, Rld_34, Rst_34, RN_35, Rld_35, Rst_35, RN_36, Rld_36, Rst_36, RN_37, Rld_37, Rst_37, RN_38, Rld_38, Rst_38, RN_39, Rld_39, Rst_39, RN_40, Rld_40, Rst_40, RN_41, Rld_41, Rst_41, RN_42, Rld_42, Rst_42, RN_43, Rld_43, Rst_43, RN_44, Rld_44, Rst_44, RN_45, Rld_45, Rst_45, RG_46, RP_46, RG_47, RP_47, RG_48, RP_48, RG_49, RP_49, RN_50, Rld_50, Rst_50, RN_51, Rld_51, Rst_51, RN_52, Rld_52, Rst_52, RN_53, Rld_53, Rst_53, RN_54, Rld_54, Rst_54, RN_55, Rld_55, Rst_55, RG_56, RP_56, RG_57, RP_57, RN_58, Rld_58, Rst_58, RN_59, Rld_59, Rst_59, RN_60, Rld_60, Rst_60, RG_61, RP_61, RG_62, RP_62, RG_63, RP_63, RG_64, RP_64, RG_65, RP_65, RG_66, RP_66, RG_67, RP_67, RG_68, RP_68, RG_69, RP_69, RG_70, RP_70, RG_71, RP_71, RN_72, Rld_72, Rst_72, RN_73, Rld_73, Rst_73, RN_74, Rld_74, Rst_74, RN_75, Rld_75, Rst_75, RN_76, Rld_76, Rst_76, RN_77, Rld_77, Rst_77, RN_78, Rld_78, Rst_78, RN_79, Rld_79, Rst_79, RN_80, Rld_80, Rst_80, RN_81, Rld_81, Rst_81, RN_82, Rld_82, Rst_82, RN_83, Rld_83, Rst_83, RN_84, Rld_84, Rst_84, RN_85, Rld_85, Rst_85, RN_86, Rld_86, Rst_86, RG_87, RP_87, RG_88, RP_88, RG_89, RP_89, RG_90, RP_90, RG_91, RP_91, RG_92, RP_92, RG_93, RP_93, RN_94, Rld_94, Rst_94, RN_95, Rld_95, Rst_95, RG_96, RP_96, RN_97, Rld_97, Rst_97, RN_98, Rld_98, Rst_98, RN_99, Rld_99, Rst_99, RN_100, Rld_100, Rst_100, RG_101, RP_101, RN_102, Rld_102, Rst_102, RN_103, Rld_103, Rst_103, RN_104, Rld_104, Rst_104, RG_105, RP_105, q_fi_sfi, q_fl_sfi, q_fr_sfi, q_ai_sfi, q_al_sfi, q_ar_sfi, q_ln_sfi, q_fi_sfl, q_fl_sfl, q_fr_sfl, q_ai_sfl, q_al_sfl, q_ar_sfl, q_ln_sfl, q_fi_sfr, q_fl_sfr, q_fr_sfr, q_ai_sfr, q_al_sfr, q_ar_sfr, q_ln_sfr, q_fi_sai, q_fl_sai, q_fr_sai, q_ai_sai, q_al_sai, q_ar_sai, q_ln_sai, q_fi_sal, q_fl_sal, q_fr_sal, q_ai_sal, q_al_sal, q_ar_sal, q_ln_sal, q_fi_sar, q_fl_sar, q_fr_sar, q_ai_sar, q_al_sar, q_ar_sar, q_ln_sar, reduceIte, Nat.reduceEqDiff, Option.bind_some, e96, a94, le_n (show na < 2147483648 by omega) (show k < 2147483648 by omega), if_neg (show ¬ na ≤ k by omega), ix_n (show k < 2147483648 by omega), decide_eq_true (show k < 60 by omega), if_true, c32 (show k < 2147483648 by omega), suc32, hA1, f1]
      refine ⟨_, ⟨_, rfl, ?_⟩, rfl⟩
      refine ⟨((hF2.trans (f2.mono (by decide))).sai (by decide) _).sai (by decide) _, fun i hi => ?_⟩
      simp only [q_fi_sfi, q_fl_sfi, q_fr_sfi, q_ai_sfi, q_al_sfi, q_ar_sfi, q_ln_sfi, q_fi_sfl, q_fl_sfl, q_fr_sfl, q_ai_sfl, q_al_sfl, q_ar_sfl, q_ln_sfl, q_fi_sfr, q_fl_sfr, q_fr_sfr, q_ai_sfr, q_al_sfr, q_ar_sfr, q_ln_sfr, q_fi_sai, q_fl_sai, q_fr_sai, q_ai_sai, q_al_sai, q_ar_sai, q_ln_sai, q_fi_sal, q_fl_sal, q_fr_sal, q_ai_sal, q_al_sal, q_ar_sal, q_ln_sal, q_fi_sar, q_fl_sar, q_fr_sar, q_ai_sar, q_al_sar, q_ar_sar, q_ln_sar, reduceIte, Nat.reduceEqDiff]
      by_cases hik : i = k
      · subst hik; rw [up_same, up_same]; exact ⟨f3, f4⟩
      · rw [up_ne _ _ _ _ hik, up_ne _ _ _ _ hik, f2.ai 97 (by decide), f2.ai 98 (by decide)]; exact hD i (by omega)
    · rintro K _ ⟨R2, rfl, hF2, hD⟩
      have e96 : fi R2 96 = Int32.ofNat na := (hF2.i 96 (by decide)).trans h96
      have hFR2 : Fr FS R R2 := hF.trans (hF2.mono (by decide))
      have hSC : Fr SCR R R2 := hFR2.mono (by decide)
      obtain ⟨R3, nh, t1, t2, t3, t4, t5⟩ := r_takeClock (m := m) (ρ := ρ) (c := c) (RLp.fr hSC hL).1 (RN.fr hSC hN) (HB.fr hSC hB)
      have hmc : ∀ x y, mc R2 nL nN bl c x y ↔ mc R nL nN bl c x y := by
        intro x y; unfold mc gvn itm
        rw [hFR2.ai 52 (by decide), hFR2.ai 53 (by decide), hFR2.ai 54 (by decide), hFR2.ai 55 (by decide), hFR2.trE (by decide) (by decide)]
      simp only [fbX12_findSteps_108, RisC, RG_0, RP_0, RG_1, RP_1, RN_2, Rld_2, Rst_2, RN_3, Rld_3, Rst_3, RN_4, Rld_4, Rst_4, RG_5, RP_5, RG_6, RP_6, RN_7, Rld_7, Rst_7, RN_8, Rld_8, Rst_8, RN_9, Rld_9, Rst_9, RN_10, Rld_10, Rst_10, RG_11, RP_11, RG_12, RP_12, RN_13, Rld_13, Rst_13, RN_14, Rld_14, Rst_14, RN_15, Rld_15, Rst_15, RN_16, Rld_16, Rst_16, RG_17, RP_17, RG_18, RP_18, RG_19, RP_19, RG_20, RP_20, RG_21, RP_21, RG_22, RP_22, RG_23, RP_23, RG_24, RP_24, RG_25, RP_25, RG_26, RP_26, RG_27, RP_27, RG_28, RP_28, RG_29, RP_29, RG_30, RP_30, RG_31, RP_31, RG_32, RP_32, RN_33, Rld_33, Rst_33, RN_34, Rld_34, Rst_34, RN_35, Rld_35, Rst_35, RN_36, Rld_36, Rst_36, RN_37, Rld_37, Rst_37, RN_38, Rld_38, Rst_38, RN_39, Rld_39, Rst_39, RN_40, Rld_40, Rst_40, RN_41, Rld_41, Rst_41, RN_42, Rld_42, Rst_42, RN_43, Rld_43, Rst_43, RN_44, Rld_44, Rst_44, RN_45, Rld_45, Rst_45, RG_46, RP_46, RG_47, RP_47, RG_48, RP_48, RG_49, RP_49, RN_50, Rld_50, Rst_50, RN_51, Rld_51, Rst_51, RN_52, Rld_52, Rst_52, RN_53, Rld_53, Rst_53, RN_54, Rld_54, Rst_54, RN_55, Rld_55, Rst_55, RG_56, RP_56, RG_57, RP_57, RN_58, Rld_58, Rst_58, RN_59, Rld_59, Rst_59, RN_60, Rld_60, Rst_60, RG_61, RP_61, RG_62, RP_62, RG_63, RP_63, RG_64, RP_64, RG_65, RP_65, RG_66, RP_66, RG_67, RP_67, RG_68, RP_68, RG_69, RP_69, RG_70, RP_70, RG_71, RP_71, RN_72, Rld_72, Rst_72, RN_73, Rld_73, Rst_73, RN_74, Rld_74, Rst_74, RN_75, Rld_75, Rst_75, RN_76, Rld_76, Rst_76, RN_77, Rld_77, Rst_77, RN_78, Rld_78, Rst_78, RN_79, Rld_79, Rst_79, RN_80, Rld_80, Rst_80, RN_81, Rld_81, Rst_81, RN_82, Rld_82, Rst_82, RN_83, Rld_83, Rst_83, RN_84, Rld_84, Rst_84, RN_85, Rld_85, Rst_85, RN_86, Rld_86, Rst_86, RG_87, RP_87, RG_88, RP_88, RG_89, RP_89, RG_90, RP_90, RG_91, RP_91, RG_92, RP_92, RG_93, RP_93, RN_94, Rld_94, Rst_94, RN_95, Rld_95, Rst_95, RG_96, RP_96, RN_97, Rld_97, Rst_97, RN_98, Rld_98, Rst_98, RN_99, Rld_99, Rst_99, RN_100, Rld_100, Rst_100, RG_101, RP_101, RN_102, Rld_102, Rst_102, RN_103, Rld_103, Rst_103, RN_104, Rld_104, Rst_104, RG_105, RP_105, Option.bind_some, e96, Int32.le_refl, if_true, t1]
      refine h160 R3 nh (hFR2.trans (t2.mono (by decide))) t3 t4 (fun x y => (t5 x y).trans (hmc x y)) ((t2.i 96 (by decide)).trans e96) ?_ ?_
      · rw [t2.ai 94 (by decide), hF2.ai 94 (by decide)]; exact hA
      · rw [t2.ai 97 (by decide), t2.ai 98 (by decide)]; exact hD
  obtain ⟨R1, t1, t2, t3, t4⟩ := r_takeTrue (m := m) (ρ := ρ) (R := sfi R 96 0) hL.1 hL.2.1
  unfold fX12_findSteps_0
  simp only [RP_96, RisC, Option.bind_some, t1]
  unfold fX12_findSteps_11
  have hF1 : Fr FS R R1 := ((Fr.refl _ R).sfi (by decide) _).trans (t2.mono (by decide))
  have key : ∃ R' nh, lp (fun (k : Hs × Nat × Int32 × Int32 → Option Hs) (z : Hs × Nat × Int32 × Int32) => fbX12_findSteps_11 (fun σ xv0 xv1 xv2 => k (σ, xv0, xv1, xv2)) z.1 z.2.1 z.2.2.1 z.2.2.2) fu (eR m ρ R1, m, c, 0) = some (eR m ρ R') ∧ Fr FS R R' ∧ fi R' 6 = Int32.ofNat nh ∧ Tok nh (ai R' 9) (ai R' 10) ∧ (∀ x y, mm nh (ai R' 9) (ai R' 10) x y ↔ mc R nL nN bl c x y) ∧ fi R' 96 = Int32.ofNat na ∧ (∀ i, i < na → ai R' 94 i = sa i) ∧ ∀ i, i < na → (ai R' 95 i).toInt = ldS (tru R nL) (lst nh (ai R' 9) (ai R' 10)) (sa i).toInt := by
    refine lp_q nS (fun k z => ∃ R2, z = (eR m ρ R2, m, c, Int32.ofNat k) ∧ Fr [94, 96] R1 R2 ∧ fi R2 96 = Int32.ofNat (stN (ai R 14) c k) ∧ ∀ i, i < stN (ai R 14) c k → ai R2 94 i = stA (ai R 14) (ai R 15) c k i) (fun X => ∃ R' nh, X = some (eR m ρ R') ∧ Fr FS R R' ∧ fi R' 6 = Int32.ofNat nh ∧ Tok nh (ai R' 9) (ai R' 10) ∧ (∀ x y, mm nh (ai R' 9) (ai R' 10) x y ↔ mc R nL nN bl c x y) ∧ fi R' 96 = Int32.ofNat na ∧ (∀ i, i < na → ai R' 94 i = sa i) ∧ ∀ i, i < na → (ai R' 95 i).toInt = ldS (tru R nL) (lst nh (ai R' 9) (ai R' 10)) (sa i).toInt) ?_ ?_ fu 0 _ (by omega) ⟨R1, rfl, Fr.refl _ _, ?_, fun i hi => ?_⟩ (by unfold fu; omega)
    · rintro K k _ hk ⟨R2, rfl, hF2, h96, hD⟩
      left
      have hFR2 : Fr FS R R2 := hF1.trans (hF2.mono (by decide))
      have e12 : fi R2 12 = Int32.ofNat nS := (hFR2.i 12 (by decide)).trans hS.1
      have a14 := hFR2.ai 14 (by decide)
      have a15 := hFR2.ai 15 (by decide)
      have hnk := stN_le (ai R 14) c k
      simp only [fbX12_findSteps_11, RisC, RG_0, RP_0, RG_1, RP_1, RN_2, Rld_2, Rst_2, RN_3, Rld_3, Rst_3, RN_4, Rld_4, Rst_4, RG_5, RP_5, RG_6, RP_6, RN_7, Rld_7, Rst_7, RN_8, Rld_8, Rst_8, RN_9, Rld_9, Rst_9, RN_10, Rld_10, Rst_10, RG_11, RP_11, RG_12, RP_12, RN_13, Rld_13, Rst_13, RN_14, Rld_14, Rst_14, RN_15, Rld_15, Rst_15, RN_16, Rld_16, Rst_16, RG_17, RP_17, RG_18, RP_18, RG_19, RP_19, RG_20, RP_20, RG_21, RP_21, RG_22, RP_22, RG_23, RP_23, RG_24, RP_24, RG_25, RP_25, RG_26, RP_26, RG_27, RP_27, RG_28, RP_28, RG_29, RP_29, RG_30, RP_30, RG_31, RP_31, RG_32, RP_32, RN_33, Rld_33, Rst_33, RN_34, Rld_34, Rst_34, RN_35, Rld_35, Rst_35, RN_36, Rld_36, Rst_36, RN_37, Rld_37, Rst_37, RN_38, Rld_38, Rst_38, RN_39, Rld_39, Rst_39, RN_40, Rld_40, Rst_40, RN_41, Rld_41, Rst_41, RN_42, Rld_42, Rst_42, RN_43, Rld_43, Rst_43, RN_44, Rld_44, Rst_44, RN_45, Rld_45, Rst_45, RG_46, RP_46, RG_47, RP_47, RG_48, RP_48, RG_49, RP_49, RN_50, Rld_50, Rst_50, RN_51, Rld_51, Rst_51, RN_52, Rld_52, Rst_52, RN_53, Rld_53, Rst_53, RN_54, Rld_54, Rst_54, RN_55, Rld_55, Rst_55, RG_56, RP_56, RG_57, RP_57, RN_58, Rld_58, Rst_58, RN_59, Rld_59, Rst_59, RN_60, Rld_60, Rst_60, RG_61, RP_61, RG_62, RP_62, RG_63, RP_63, RG_64, RP_64, RG_65, RP_65, RG_66, RP_66, RG_67, RP_67, RG_68, RP_68, RG_69, RP_69, RG_70, RP_70, RG_71, RP_71, RN_72, Rld_72, Rst_72, RN_73, Rld_73, Rst_73, RN_74, Rld_74, Rst_74, RN_75, Rld_75, Rst_75, RN_76, Rld_76, Rst_76, RN_77, Rld_77, Rst_77, RN_78, Rld_78, Rst_78, RN_79, Rld_79, Rst_79, RN_80, Rld_80, Rst_80, RN_81, Rld_81, Rst_81, RN_82, Rld_82, Rst_82, RN_83, Rld_83, Rst_83, RN_84, Rld_84, Rst_84, RN_85, Rld_85, Rst_85, RN_86, Rld_86, Rst_86, RG_87, RP_87, RG_88, RP_88, RG_89, RP_89, RG_90, RP_90, RG_91, RP_91, RG_92, RP_92, RG_93, RP_93, RN_94, Rld_94, Rst_94, RN_95, Rld_95, Rst_95, RG_96, RP_96, RN_97, Rld_97, Rst_97, RN_98, Rld_98, Rst_98, RN_99, Rld_99, Rst_99, RN_100, Rld_100, Rst_100, RG_101, RP_101, RN_102, Rld_102, Rst_102, RN_103, Rld_103, Rst_103, RN_104, Rld_104, Rst_104, RG_105, RP_105, Option.bind_some, e12, a14, le_n (show nS < 2147483648 by omega) (show k < 2147483648 by omega), if_neg (show ¬ nS ≤ k by omega), ix_n (show k < 2147483648 by omega), decide_eq_true (show k < 60 by omega), if_true, c32 (show k < 2147483648 by omega)]
      by_cases hc : ai R 14 k = c
      · rw [if_pos hc, h96]
        obtain ⟨R3, i1, i2, i3, i4⟩ := r_insStep (m := m) (ρ := ρ) (R := R2) (n := stN (ai R 14) c k) (k := k) (c := c) (fun a b c d => K (a, b, c, d)) h96 (by omega) (by omega)
        rw [i1]
        have eN : stN (ai R 14) c (k + 1) = stN (ai R 14) c k + 1 := by
          show (if ai R 14 k = c then _ else _) = _; rw [if_pos hc]
        have eA : stA (ai R 14) (ai R 15) c (k + 1) = insA (stA (ai R 14) (ai R 15) c k) (ai R 15 k) (stN (ai R 14) c k) := by
          show (if ai R 14 k = c then _ else _) = _; rw [if_pos hc]
        refine ⟨_, ⟨R3, by rw [suc32], hF2.trans i2, by rw [i3, eN], fun i hi => ?_⟩, rfl⟩
        rw [i4, eA, a15]
        rw [eN] at hi
        exact insA_congr hD i hi
      · rw [if_neg hc, suc32]
        have eN : stN (ai R 14) c (k + 1) = stN (ai R 14) c k := by
          show (if ai R 14 k = c then _ else _) = _; rw [if_neg hc]
        have eA : stA (ai R 14) (ai R 15) c (k + 1) = stA (ai R 14) (ai R 15) c k := by
          show (if ai R 14 k = c then _ else _) = _; rw [if_neg hc]
        exact ⟨_, ⟨R2, rfl, hF2, by rw [eN]; exact h96, by rw [eN, eA]; exact hD⟩, rfl⟩
    · rintro K _ ⟨R2, rfl, hF2, h96, hD⟩
      have hFR2 : Fr FS R R2 := hF1.trans (hF2.mono (by decide))
      have e12 : fi R2 12 = Int32.ofNat nS := (hFR2.i 12 (by decide)).trans hS.1
      simp only [fbX12_findSteps_11, RisC, RG_0, RP_0, RG_1, RP_1, RN_2, Rld_2, Rst_2, RN_3, Rld_3, Rst_3, RN_4, Rld_4, Rst_4, RG_5, RP_5, RG_6, RP_6, RN_7, Rld_7, Rst_7, RN_8, Rld_8, Rst_8, RN_9, Rld_9, Rst_9, RN_10, Rld_10, Rst_10, RG_11, RP_11, RG_12, RP_12, RN_13, Rld_13, Rst_13, RN_14, Rld_14, Rst_14, RN_15, Rld_15, Rst_15, RN_16, Rld_16, Rst_16, RG_17, RP_17, RG_18, RP_18, RG_19, RP_19, RG_20, RP_20, RG_21, RP_21, RG_22, RP_22, RG_23, RP_23, RG_24, RP_24, RG_25, RP_25, RG_26, RP_26, RG_27, RP_27, RG_28, RP_28, RG_29, RP_29, RG_30, RP_30, RG_31, RP_31, RG_32, RP_32, RN_33, Rld_33, Rst_33, RN_34, Rld_34, Rst_34, RN_35, Rld_35, Rst_35, RN_36, Rld_36, Rst_36, RN_37, Rld_37, Rst_37, RN_38, Rld_38, Rst_38, RN_39, Rld_39, Rst_39, RN_40, Rld_40, Rst_40, RN_41, Rld_41, Rst_41, RN_42, Rld_42, Rst_42, RN_43, Rld_43, Rst_43, RN_44, Rld_44, Rst_44, RN_45, Rld_45, Rst_45, RG_46, RP_46, RG_47, RP_47, RG_48, RP_48, RG_49, RP_49, RN_50, Rld_50, Rst_50, RN_51, Rld_51, Rst_51, RN_52, Rld_52, Rst_52, RN_53, Rld_53, Rst_53, RN_54, Rld_54, Rst_54, RN_55, Rld_55, Rst_55, RG_56, RP_56, RG_57, RP_57, RN_58, Rld_58, Rst_58, RN_59, Rld_59, Rst_59, RN_60, Rld_60, Rst_60, RG_61, RP_61, RG_62, RP_62, RG_63, RP_63, RG_64, RP_64, RG_65, RP_65, RG_66, RP_66, RG_67, RP_67, RG_68, RP_68, RG_69, RP_69, RG_70, RP_70, RG_71, RP_71, RN_72, Rld_72, Rst_72, RN_73, Rld_73, Rst_73, RN_74, Rld_74, Rst_74, RN_75, Rld_75, Rst_75, RN_76, Rld_76, Rst_76, RN_77, Rld_77, Rst_77, RN_78, Rld_78, Rst_78, RN_79, Rld_79, Rst_79, RN_80, Rld_80, Rst_80, RN_81, Rld_81, Rst_81, RN_82, Rld_82, Rst_82, RN_83, Rld_83, Rst_83, RN_84, Rld_84, Rst_84, RN_85, Rld_85, Rst_85, RN_86, Rld_86, Rst_86, RG_87, RP_87, RG_88, RP_88, RG_89, RP_89, RG_90, RP_90, RG_91, RP_91, RG_92, RP_92, RG_93, RP_93, RN_94, Rld_94, Rst_94, RN_95, Rld_95, Rst_95, RG_96, RP_96, RN_97, Rld_97, Rst_97, RN_98, Rld_98, Rst_98, RN_99, Rld_99, Rst_99, RN_100, Rld_100, Rst_100, RG_101, RP_101, RN_102, Rld_102, Rst_102, RN_103, Rld_103, Rst_103, RN_104, Rld_104, Rst_104, RG_105, RP_105, Option.bind_some, e12, Int32.le_refl, if_true]
      rw [hna] at h96 hD
      rw [hsa] at hD
      refine h108 R2 hFR2 ((hF2.i 6 (by decide)).trans t3) ?_ h96 hD
      rw [hF2.ai 9 (by decide), hF2.ai 10 (by decide)]; exact t4
    · rw [t2.i 96 (by decide)]; simp only [q_fi_sfi, q_fl_sfi, q_fr_sfi, q_ai_sfi, q_al_sfi, q_ar_sfi, q_ln_sfi, q_fi_sfl, q_fl_sfl, q_fr_sfl, q_ai_sfl, q_al_sfl, q_ar_sfl, q_ln_sfl, q_fi_sfr, q_fl_sfr, q_fr_sfr, q_ai_sfr, q_al_sfr, q_ar_sfr, q_ln_sfr, q_fi_sai, q_fl_sai, q_fr_sai, q_ai_sai, q_al_sai, q_ar_sai, q_ln_sai, q_fi_sal, q_fl_sal, q_fr_sal, q_ai_sal, q_al_sal, q_ar_sal, q_ln_sal, q_fi_sar, q_fl_sar, q_fr_sar, q_ai_sar, q_al_sar, q_ar_sar, q_ln_sar, reduceIte, Nat.reduceEqDiff]; rfl
    · exact absurd hi (by unfold stN; omega)
  obtain ⟨R', nh, k1, k2⟩ := key
  refine ⟨R', nh, k1, ?_⟩
  unfold Fnd
  rw [hna, hsa]
  exact k2
