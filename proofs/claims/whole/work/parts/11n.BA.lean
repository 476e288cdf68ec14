theorem kd_mm {n : Nat} {f g : Nat → Int32} (h : Tok n f g) (d : Int32) : kd (lst n f g) d.toInt = 0 ↔ ∀ y, ¬ mm n f g d y := by
  constructor
  · rintro h0 y ⟨i, hi, h1, h2⟩
    rw [kd_at hi h.2.2 h1] at h0
    have := h.2.1 i hi; omega
  · intro h1
    exact kd_no (fun i hi e => h1 (g i) ⟨i, hi, e, rfl⟩)
def st_leap (T : List (Int × Int)) (n : Nat) (d k : Int32) : Int32 := if ¬ (0 ≤ d.toInt ∧ d.toInt ≤ 9999) ∨ ¬ (-1 ≤ k.toInt ∧ k.toInt ≤ 1) then 5 else if k.toInt ≠ 0 ∧ n = 20 ∧ kd T d.toInt = 0 then 7 else 0
def PLeap (R R' : Gs) (n : Nat) (d k : Int32) : Prop := Fr (5 :: 7 :: 8 :: SC0) R R' ∧ ∃ n', RLp R' n' ∧ ∀ x y, mm n' (ai R' 7) (ai R' 8) x y ↔ (x = d ∧ y = k ∧ k ≠ 0) ∨ (x ≠ d ∧ mm n (ai R 7) (ai R 8) x y)
def QLeap (m : Nat) (ρ : Hs) (R : Gs) (n : Nat) (d k st : Int32) (X : Option (Int32 × Hs)) : Prop := ∃ R', X = some (b2i (st = 0), eR m ρ R') ∧ fi R' 0 = st ∧ (st ≠ 0 → Fr SC0 R R') ∧ (st = 0 → PLeap R R' n d k) ∧ (H6 R → H6 R')
theorem QLeap.no {m : Nat} {ρ : Hs} {R R1 : Gs} {n : Nat} {d k st v : Int32} (h0 : v ≠ 0) (hv : st = v) (hF : Fr SC0 R R1) (h6 : H6 R → H6 R1 := by exact fun h => h) : QLeap m ρ R n d k st (some (0, eR m ρ (sfi R1 0 v))) := by
  subst hv
  refine ⟨sfi R1 0 st, ?_, rfl, fun _ => hF.sfi (by decide) _, fun q => absurd q h0, h6⟩
  rw [show b2i (st = 0) = 0 from if_neg h0]
theorem QLeap.ok {m : Nat} {ρ : Hs} {R R1 : Gs} {n : Nat} {d k st : Int32} (hv : st = 0) (h0 : fi R1 0 = 0) (hP : PLeap R R1 n d k) (h6 : H6 R → H6 R1 := by exact fun h => h) : QLeap m ρ R n d k st (some (1, eR m ρ R1)) := by
  subst hv
  exact ⟨R1, rfl, h0, fun q => absurd rfl q, fun _ => hP, h6⟩
theorem l20 : (20 : Int32) = Int32.ofNat 20 := rfl
theorem r_leap {m : Nat} {ρ : Hs} {R : Gs} {n : Nat} (hL : RLp R n) (d k : Int32) : QLeap m ρ R n d k (st_leap (tru R n) n d k) (fX12_leap_0 (eR m ρ R) m d k) := by
  obtain ⟨hn, h20, hT⟩ := hL
  have hkm := kd_mm hT d
  unfold fX12_leap_0
  simp only [RP_1, RP_0, RG_5, q_fi_sfi, q_fl_sfi, q_fr_sfi, q_ai_sfi, q_al_sfi, q_ar_sfi, q_ln_sfi, q_fi_sfl, q_fl_sfl, q_fr_sfl, q_ai_sfl, q_al_sfl, q_ar_sfl, q_ln_sfl, q_fi_sfr, q_fl_sfr, q_fr_sfr, q_ai_sfr, q_al_sfr, q_ar_sfr, q_ln_sfr, q_fi_sai, q_fl_sai, q_fr_sai, q_ai_sai, q_al_sai, q_ar_sai, q_ln_sai, q_fi_sal, q_fl_sal, q_fr_sal, q_ai_sal, q_al_sal, q_ar_sal, q_ln_sal, q_fi_sar, q_fl_sar, q_fr_sar, q_ai_sar, q_al_sar, q_ar_sar, q_ln_sar, reduceIte, Nat.reduceEqDiff, hn, RisC, r_no, r_isDay, r_isI, Option.bind_some, b2i_0, bb_0, jm1, Int64.reduceToInt]
  rcases Decidable.em (¬ (0 ≤ d.toInt ∧ d.toInt ≤ 9999)) with hc1 | hc1
  · rw [if_pos hc1]; exact QLeap.no (by decide) (by unfold st_leap; (repeat' split) <;> (first | rfl | omega)) (fr1 R)
  rw [if_neg hc1]
  rcases Decidable.em (¬ (-1 ≤ k.toInt ∧ k.toInt ≤ 1)) with hc2 | hc2
  · rw [if_pos hc2]; exact QLeap.no (by decide) (by unfold st_leap; (repeat' split) <;> (first | rfl | omega)) (fr1 R)
  rw [if_neg hc2]
  unfold fX12_leap_43
  refine lp_q n (fun i z => ∃ p : Nat, z = (eR m ρ (sfi (sfi R 1 0) 0 0), m, d, k, Int32.ofNat p, Int32.ofNat i) ∧ ((p = n ∧ ∀ j, j < i → ai R 7 j ≠ d) ∨ (p < i ∧ ai R 7 p = d))) (QLeap m ρ R n d k (st_leap (tru R n) n d k)) ?_ ?_ fu 0 _ (by omega) ⟨n, rfl, Or.inl ⟨rfl, fun j hj => by omega⟩⟩ (by unfold fu; omega)
  · rintro K i _ hi ⟨p, rfl, hp⟩
    left
    simp only [fbX12_leap_43, RisC, RG_0, RP_0, RG_1, RP_1, RN_2, Rld_2, Rst_2, RN_3, Rld_3, Rst_3, RN_4, Rld_4, Rst_4, RG_5, RP_5, RG_6, RP_6, RN_7, Rld_7, Rst_7, RN_8, Rld_8, Rst_8, RN_9, Rld_9, Rst_9, RN_10, Rld_10, Rst_10, RG_11, RP_11, RG_12, RP_12, RN_13, Rld_13, Rst_13, RN_14, Rld_14, Rst_14, RN_15, Rld_15, Rst_15, RN_16, Rld_16, Rst_16, RG_17, RP_17, RG_18, RP_18, RG_19, RP_19, RG_20, RP_20, RG_21, RP_21, RG_22, RP_22, RG_23, RP_23, RG_24, RP_24, RG_25, RP_25, RG_26, RP_26, RG_27, RP_27, RG_28, RP_28, RG_29, RP_29, RG_30, RP_30, RG_31, RP_31, RG_32, RP_32, RN_33, Rld_33, Rst_33, RN_34, Rld_34, Rst_34, RN_35, Rld_35, Rst_35, RN_36, Rld_36, Rst_36, RN_37, Rld_37, Rst_37, RN_38, Rld_38, Rst_38, RN_39, Rld_39, Rst_39, RN_40, Rld_40, Rst_40, RN_41, Rld_41, Rst_41, RN_42, Rld_42, Rst_42, RN_43, Rld_43, Rst_43, RN_44, Rld_44, Rst_44, RN_45, Rld_45, Rst_45, RG_46, RP_46, RG_47, RP_47, RG_48, RP_48, RG_49, RP_49, RN_50, Rld_50, Rst_50, RN_51, Rld_51, Rst_51, RN_52, Rld_52, Rst_52, RN_53, Rld_53, Rst_53, RN_54, Rld_54, Rst_54, RN_55, Rld_55, Rst_55, RG_56, RP_56, RG_57, RP_57, RN_58, Rld_58, Rst_58, RN_59, Rld_59, Rst_59, RN_60, Rld_60, Rst_60, RG_61, RP_61, RG_62, RP_62, RG_63, RP_63, RG_64, RP_64, RG_65, RP_65, RG_66, RP_66, RG_67, RP_67, RG_68, RP_68, RG_69, RP_69, RG_70, RP_70, RG_71, RP_71, RN_72, Rld_72, Rst_72, RN_73, Rld_73, Rst_73, RN_74, Rld_74, Rst_74, RN_75, Rld_75, Rst_75, RN_76, Rld_76, Rst_76, RN_77, Rld_77, Rst_77, RN_78, Rld_78, Rst_78, RN_79, Rld_79, Rst_79, RN_80, Rld_80, Rst_80, RN_81, Rld_81, Rst_81, RN_82, Rld_82, Rst_82, RN_83, Rld_83, Rst_83, RN_84, Rld_84, Rst_84, RN_85, Rld_85, Rst_85, RN_86, Rld_86, Rst_86, RG_87, RP_87, RG_88, RP_88, RG_89, RP_89, RG_90, RP_90, RG_91, RP_91, RG_92, RP_92, RG_93, RP_93, RN_94, Rld_94, Rst_94, RN_95, Rld_95, Rst_95, RG_96, RP_96, RN_97, Rld_97, Rst_97, RN_98, Rld_98, Rst_98, RN_99, Rld_99, Rst_99, RN_100, Rld_100, Rst_100, RG_101, RP_101, RN_102, Rld_102, Rst_102, RN_103, Rld_103, Rst_103, RN_104, Rld_104, Rst_104, RG_105, RP_105, q_fi_sfi, q_fl_sfi, q_fr_sfi, q_ai_sfi, q_al_sfi, q_ar_sfi, q_ln_sfi, q_fi_sfl, q_fl_sfl, q_fr_sfl, q_ai_sfl, q_al_sfl, q_ar_sfl, q_ln_sfl, q_fi_sfr, q_fl_sfr, q_fr_sfr, q_ai_sfr, q_al_sfr, q_ar_sfr, q_ln_sfr, q_fi_sai, q_fl_sai, q_fr_sai, q_ai_sai, q_al_sai, q_ar_sai, q_ln_sai, q_fi_sal, q_fl_sal, q_fr_sal, q_ai_sal, q_al_sal, q_ar_sal, q_ln_sal, q_fi_sar, q_fl_sar, q_fr_sar, q_ai_sar, q_al_sar, q_ar_sar, q_ln_sar, reduceIte, Nat.reduceEqDiff, Option.bind_some, hn, le_n (show n < 2147483648 by omega) (show i < 2147483648 by omega), if_neg (show ¬ n ≤ i by omega), ix_n (show i < 2147483648 by omega), decide_eq_true (show i < 20 by omega), if_true, c32 (show i < 2147483648 by omega), suc32]
    by_cases h1 : ai R 7 i = d
    · rw [if_pos h1]
      exact ⟨_, ⟨i, rfl, Or.inr ⟨by omega, h1⟩⟩, rfl⟩
    · rw [if_neg h1]
      refine ⟨_, ⟨p, rfl, ?_⟩, rfl⟩
      rcases hp with ⟨h2, h3⟩ | ⟨h2, h3⟩
      · refine Or.inl ⟨h2, fun j hj => ?_⟩
        rcases Nat.lt_or_ge j i with q | q
        · exact h3 j q
        · have : j = i := by omega
          rw [this]; exact h1
      · exact Or.inr ⟨by omega, h3⟩
  · rintro K _ ⟨p, rfl, hp⟩
    have hpn : p ≤ n := by rcases hp with h | h <;> omega
    have hk0 : k.toInt = 0 ↔ k = 0 := by rw [eq32, i0]
    simp only [fbX12_leap_43, RG_5, q_fi_sfi, q_fl_sfi, q_fr_sfi, q_ai_sfi, q_al_sfi, q_ar_sfi, q_ln_sfi, q_fi_sfl, q_fl_sfl, q_fr_sfl, q_ai_sfl, q_al_sfl, q_ar_sfl, q_ln_sfl, q_fi_sfr, q_fl_sfr, q_fr_sfr, q_ai_sfr, q_al_sfr, q_ar_sfr, q_ln_sfr, q_fi_sai, q_fl_sai, q_fr_sai, q_ai_sai, q_al_sai, q_ar_sai, q_ln_sai, q_fi_sal, q_fl_sal, q_fr_sal, q_ai_sal, q_al_sal, q_ar_sal, q_ln_sal, q_fi_sar, q_fl_sar, q_fr_sar, q_ai_sar, q_al_sar, q_ar_sar, q_ln_sar, reduceIte, Nat.reduceEqDiff, hn, Option.bind_some, Int32.le_refl, if_true, RisC, r_no, bb_0, bb_1, eqn (show p < 2147483648 by omega) (show n < 2147483648 by omega), l20, eqn (show p < 2147483648 by omega) (show 20 < 2147483648 by omega)]
    by_cases hk : k = 0
    · rw [if_pos hk]
      have hk9 := hk0.mpr hk
      have hst : st_leap (tru R n) n d k = 0 := (by unfold st_leap; (repeat' split) <;> (first | rfl | omega))
      by_cases h1 : p = n
      · rw [if_pos h1]
        refine QLeap.ok hst rfl ⟨(fr1 R).mono (by decide), n, ⟨hn, h20, hT⟩, fun x y => ?_⟩
        have h2 : ∀ j, j < n → ai R 7 j ≠ d := by
          rcases hp with q | q
          · exact q.2
          · omega
        constructor
        · rintro ⟨j, hj, g1, g2⟩; exact Or.inr ⟨fun e => h2 j hj (g1.trans e), j, hj, g1, g2⟩
        · rintro (q | q)
          · exact absurd hk q.2.2
          · exact q.2
      · rw [if_neg h1]
        have hp2 : p < n ∧ ai R 7 p = d := by
          rcases hp with q | q
          · exact absurd q.1 h1
          · exact q
        simp only [RisC, RG_0, RP_0, RG_1, RP_1, RN_2, Rld_2, Rst_2, RN_3, Rld_3, Rst_3, RN_4, Rld_4, Rst_4, RG_5, RP_5, RG_6, RP_6, RN_7, Rld_7, Rst_7, RN_8, Rld_8, Rst_8, RN_9, Rld_9, Rst_9, RN_10, Rld_10, Rst_10, RG_11, RP_11, RG_12, RP_12, RN_13, Rld_13, Rst_13, RN_14, Rld_14, Rst_14, RN_15, Rld_15, Rst_15, RN_16, Rld_16, Rst_16, RG_17, RP_17, RG_18, RP_18, RG_19, RP_19, RG_20, RP_20, RG_21, RP_21, RG_22, RP_22, RG_23, RP_23, RG_24, RP_24, RG_25, RP_25, RG_26, RP_26, RG_27, RP_27, RG_28, RP_28, RG_29, RP_29, RG_30, RP_30, RG_31, RP_31, RG_32, RP_32, RN_33, Rld_33, Rst_33, RN_34, Rld_34, Rst_34, RN_35, Rld_35, Rst_35, RN_36, Rld_36, Rst_36, RN_37, Rld_37, Rst_37, RN_38, Rld_38, Rst_38, RN_39, Rld_39, Rst_39, RN_40, Rld_40, Rst_40, RN_41, Rld_41, Rst_41, RN_42, Rld_42, Rst_42, RN_43, Rld_43, Rst_43, RN_44, Rld_44, Rst_44, RN_45, Rld_45, Rst_45, RG_46, RP_46, RG_47, RP_47, RG_48, RP_48, RG_49, RP_49, RN_50, Rld_50, Rst_50, RN_51, Rld_51, Rst_51, RN_52, Rld_52, Rst_52, RN_53, Rld_53, Rst_53, RN_54, Rld_54, Rst_54, RN_55, Rld_55, Rst_55, RG_56, RP_56, RG_57, RP_57, RN_58, Rld_58, Rst_58, RN_59, Rld_59, Rst_59, RN_60, Rld_60, Rst_60, RG_61, RP_61, RG_62, RP_62, RG_63, RP_63, RG_64, RP_64, RG_65, RP_65, RG_66, RP_66, RG_67, RP_67, RG_68, RP_68, RG_69, RP_69, RG_70, RP_70, RG_71, RP_71, RN_72, Rld_72, Rst_72, RN_73, Rld_73, Rst_73, RN_74, Rld_74, Rst_74, RN_75, Rld_75, Rst_75, RN_76, Rld_76, Rst_76, RN_77, Rld_77, Rst_77, RN_78, Rld_78, Rst_78, RN_79, Rld_79, Rst_79, RN_80, Rld_80, Rst_80, RN_81, Rld_81, Rst_81, RN_82, Rld_82, Rst_82, RN_83, Rld_83, Rst_83, RN_84, Rld_84, Rst_84, RN_85, Rld_85, Rst_85, RN_86, Rld_86, Rst_86, RG_87, RP_87, RG_88, RP_88, RG_89, RP_89, RG_90, RP_90, RG_91, RP_91, RG_92, RP_92, RG_93, RP_93, RN_94, Rld_94, Rst_94, RN_95, Rld_95, Rst_95, RG_96, RP_96, RN_97, Rld_97, Rst_97, RN_98, Rld_98, Rst_98, RN_99, Rld_99, Rst_99, RN_100, Rld_100, Rst_100, RG_101, RP_101, RN_102, Rld_102, Rst_102, RN_103, Rld_103, Rst_103, RN_104, Rld_104, Rst_104, RG_105, RP_105, q_fi_sfi, q_fl_sfi, q_fr_sfi, q_ai_sfi, q_al_sfi, q_ar_sfi, q_ln_sfi, q_fi_sfl, q_fl_sfl, q_fr_sfl, q_ai_sfl, q_al_sfl, q_ar_sfl, q_ln_sfl, q_fi_sfr, q_fl_sfr, q_fr_sfr, q_ai_sfr, q_al_sfr, q_ar_sfr, q_ln_sfr, q_fi_sai, q_fl_sai, q_fr_sai, q_ai_sai, q_al_sai, q_ar_sai, q_ln_sai, q_fi_sal, q_fl_sal, q_fr_sal, q_ai_sal, q_al_sal, q_ar_sal, q_ln_sal, q_fi_sar, q_fl_sar, q_fr_sar, q_ai_sar, q_al_sar, q_ar_sar, q_ln_sar, reduceIte, Nat.reduceEqDiff, Option.bind_some, hn, ofNat_m1 (show 0 < n by omega), ix_n (show n - 1 < 2147483648 by omega), decide_eq_true (show n - 1 < 20 by omega), if_true, c32 (show n - 1 < 2147483648 by omega), ix_n (show p < 2147483648 by omega), decide_eq_true (show p < 20 by omega), c32 (show p < 2147483648 by omega), bb_1]
        refine QLeap.ok hst rfl ⟨((((fr1 R).mono (by decide)).sfi (by decide) _).sai (by decide) _).sai (by decide) _, n - 1, ⟨rfl, by omega, by omega, fun i hi => ?_, fun i j hi hj e => ?_⟩, fun x y => ⟨?_, ?_⟩⟩
        · simp only [q_fi_sfi, q_fl_sfi, q_fr_sfi, q_ai_sfi, q_al_sfi, q_ar_sfi, q_ln_sfi, q_fi_sfl, q_fl_sfl, q_fr_sfl, q_ai_sfl, q_al_sfl, q_ar_sfl, q_ln_sfl, q_fi_sfr, q_fl_sfr, q_fr_sfr, q_ai_sfr, q_al_sfr, q_ar_sfr, q_ln_sfr, q_fi_sai, q_fl_sai, q_fr_sai, q_ai_sai, q_al_sai, q_ar_sai, q_ln_sai, q_fi_sal, q_fl_sal, q_fr_sal, q_ai_sal, q_al_sal, q_ar_sal, q_ln_sal, q_fi_sar, q_fl_sar, q_fr_sar, q_ai_sar, q_al_sar, q_ar_sar, q_ln_sar, reduceIte, Nat.reduceEqDiff]
          by_cases hip : i = p
          · rw [hip, up_same]; exact hT.2.1 (n - 1) (by omega)
          · rw [up_ne _ _ _ _ hip]; exact hT.2.1 i (by omega)
        · simp only [q_fi_sfi, q_fl_sfi, q_fr_sfi, q_ai_sfi, q_al_sfi, q_ar_sfi, q_ln_sfi, q_fi_sfl, q_fl_sfl, q_fr_sfl, q_ai_sfl, q_al_sfl, q_ar_sfl, q_ln_sfl, q_fi_sfr, q_fl_sfr, q_fr_sfr, q_ai_sfr, q_al_sfr, q_ar_sfr, q_ln_sfr, q_fi_sai, q_fl_sai, q_fr_sai, q_ai_sai, q_al_sai, q_ar_sai, q_ln_sai, q_fi_sal, q_fl_sal, q_fr_sal, q_ai_sal, q_al_sal, q_ar_sal, q_ln_sal, q_fi_sar, q_fl_sar, q_fr_sar, q_ai_sar, q_al_sar, q_ar_sar, q_ln_sar, reduceIte, Nat.reduceEqDiff] at e
          by_cases hip : i = p
          · by_cases hjp : j = p
            · omega
            · rw [hip, up_same, up_ne _ _ _ _ hjp] at e
              have := hT.2.2 (n - 1) j (by omega) (by omega) e; omega
          · by_cases hjp : j = p
            · rw [hjp, up_same, up_ne _ _ _ _ hip] at e
              have := hT.2.2 i (n - 1) (by omega) (by omega) e; omega
            · rw [up_ne _ _ _ _ hip, up_ne _ _ _ _ hjp] at e
              exact hT.2.2 i j (by omega) (by omega) e
        · rintro ⟨i, hi, g1, g2⟩
          simp only [q_fi_sfi, q_fl_sfi, q_fr_sfi, q_ai_sfi, q_al_sfi, q_ar_sfi, q_ln_sfi, q_fi_sfl, q_fl_sfl, q_fr_sfl, q_ai_sfl, q_al_sfl, q_ar_sfl, q_ln_sfl, q_fi_sfr, q_fl_sfr, q_fr_sfr, q_ai_sfr, q_al_sfr, q_ar_sfr, q_ln_sfr, q_fi_sai, q_fl_sai, q_fr_sai, q_ai_sai, q_al_sai, q_ar_sai, q_ln_sai, q_fi_sal, q_fl_sal, q_fr_sal, q_ai_sal, q_al_sal, q_ar_sal, q_ln_sal, q_fi_sar, q_fl_sar, q_fr_sar, q_ai_sar, q_al_sar, q_ar_sar, q_ln_sar, reduceIte, Nat.reduceEqDiff] at g1 g2
          right
          by_cases hip : i = p
          · rw [hip, up_same] at g1 g2
            refine ⟨fun e => ?_, n - 1, by omega, g1, g2⟩
            have := hT.2.2 (n - 1) p (by omega) hp2.1 ((g1.trans e).trans hp2.2.symm); omega
          · rw [up_ne _ _ _ _ hip] at g1 g2
            refine ⟨fun e => hip (hT.2.2 i p (by omega) hp2.1 ((g1.trans e).trans hp2.2.symm)), i, by omega, g1, g2⟩
        · rintro (q | ⟨q, i, hi, g1, g2⟩)
          · exact absurd hk q.2.2
          · have hip : i ≠ p := fun e => q (by rw [← g1, e, hp2.2])
            by_cases hin : i = n - 1
            · refine ⟨p, by omega, ?_, ?_⟩
              · simp only [q_fi_sfi, q_fl_sfi, q_fr_sfi, q_ai_sfi, q_al_sfi, q_ar_sfi, q_ln_sfi, q_fi_sfl, q_fl_sfl, q_fr_sfl, q_ai_sfl, q_al_sfl, q_ar_sfl, q_ln_sfl, q_fi_sfr, q_fl_sfr, q_fr_sfr, q_ai_sfr, q_al_sfr, q_ar_sfr, q_ln_sfr, q_fi_sai, q_fl_sai, q_fr_sai, q_ai_sai, q_al_sai, q_ar_sai, q_ln_sai, q_fi_sal, q_fl_sal, q_fr_sal, q_ai_sal, q_al_sal, q_ar_sal, q_ln_sal, q_fi_sar, q_fl_sar, q_fr_sar, q_ai_sar, q_al_sar, q_ar_sar, q_ln_sar, reduceIte, Nat.reduceEqDiff]; rw [up_same, ← hin, g1]
              · simp only [q_fi_sfi, q_fl_sfi, q_fr_sfi, q_ai_sfi, q_al_sfi, q_ar_sfi, q_ln_sfi, q_fi_sfl, q_fl_sfl, q_fr_sfl, q_ai_sfl, q_al_sfl, q_ar_sfl, q_ln_sfl, q_fi_sfr, q_fl_sfr, q_fr_sfr, q_ai_sfr, q_al_sfr, q_ar_sfr, q_ln_sfr, q_fi_sai, q_fl_sai, q_fr_sai, q_ai_sai, q_al_sai, q_ar_sai, q_ln_sai, q_fi_sal, q_fl_sal, q_fr_sal, q_ai_sal, q_al_sal, q_ar_sal, q_ln_sal, q_fi_sar, q_fl_sar, q_fr_sar, q_ai_sar, q_al_sar, q_ar_sar, q_ln_sar, reduceIte, Nat.reduceEqDiff]; rw [up_same, ← hin, g2]
            · refine ⟨i, by omega, ?_, ?_⟩
              · simp only [q_fi_sfi, q_fl_sfi, q_fr_sfi, q_ai_sfi, q_al_sfi, q_ar_sfi, q_ln_sfi, q_fi_sfl, q_fl_sfl, q_fr_sfl, q_ai_sfl, q_al_sfl, q_ar_sfl, q_ln_sfl, q_fi_sfr, q_fl_sfr, q_fr_sfr, q_ai_sfr, q_al_sfr, q_ar_sfr, q_ln_sfr, q_fi_sai, q_fl_sai, q_fr_sai, q_ai_sai, q_al_sai, q_ar_sai, q_ln_sai, q_fi_sal, q_fl_sal, q_fr_sal, q_ai_sal, q_al_sal, q_ar_sal, q_ln_sal, q_fi_sar, q_fl_sar, q_fr_sar, q_ai_sar, q_al_sar, q_ar_sar, q_ln_sar, reduceIte, Nat.reduceEqDiff]; rw [up_ne _ _ _ _ hip, g1]
              · simp only [q_fi_sfi, q_fl_sfi, q_fr_sfi, q_ai_sfi, q_al_sfi, q_ar_sfi, q_ln_sfi, q_fi_sfl, q_fl_sfl, q_fr_sfl, q_ai_sfl, q_al_sfl, q_ar_sfl, q_ln_sfl, q_fi_sfr, q_fl_sfr, q_fr_sfr, q_ai_sfr, q_al_sfr, q_ar_sfr, q_ln_sfr, q_fi_sai, q_fl_sai, q_fr_sai, q_ai_sai, q_al_sai, q_ar_sai, q_ln_sai, q_fi_sal, q_fl_sal, q_fr_sal, q_ai_sal, q_al_sal, q_ar_sal, q_ln_sal, q_fi_sar, q_fl_sar, q_fr_sar, q_ai_sar, q_al_sar, q_ar_sar, q_ln_sar, reduceIte, Nat.reduceEqDiff]; rw [up_ne _ _ _ _ hip, g2]
    · rw [if_neg hk]
      by_cases h1 : p = 20
      · rw [if_pos h1]
        have h2 : ∀ j, j < n → ai R 7 j ≠ d := by
          rcases hp with q | q
          · exact q.2
          · omega
        have h3 : kd (tru R n) d.toInt = 0 := kd_no h2
        have hk9 : k.toInt ≠ 0 := fun e => hk (hk0.mp e)
        have hn20 : n = 20 := by rcases hp with q | q <;> omega
        exact QLeap.no (by decide) (by unfold st_leap; (repeat' split) <;> (first | rfl | omega)) (fr1 R)
      · rw [if_neg h1]
        have hst : st_leap (tru R n) n d k = 0 := by
          unfold st_leap
          rw [if_neg (by omega), if_neg]
          rintro ⟨_, h4, h5⟩
          rcases hp with q | q
          · omega
          · exact (hkm.mp h5) _ ⟨p, q.1, q.2, rfl⟩
        have hmax : ∃ n', (n' = n ∨ n' = p + 1) ∧ n ≤ n' ∧ p + 1 ≤ n' ∧ ∀ s, fJ9_max_7cf53_0 s (Int32.ofNat n) (Int32.ofNat (p + 1)) = some (Int32.ofNat n') := by
          unfold fJ9_max_7cf53_0
          by_cases h4 : n < p + 1
          · exact ⟨p + 1, Or.inr rfl, by omega, Nat.le_refl _, fun s => by rw [if_pos ((lt_n (by omega) (by omega)).mpr h4)]⟩
          · exact ⟨n, Or.inl rfl, Nat.le_refl _, by omega, fun s => by rw [if_neg (fun q => h4 ((lt_n (by omega) (by omega)).mp q))]⟩
        obtain ⟨n', q1, q2, q3, q4⟩ := hmax
        have hkk : k.toInt = 1 ∨ k.toInt = -1 := by have : k.toInt ≠ 0 := fun e => hk (hk0.mp e)
                                                    omega
        simp only [RisC, RG_0, RP_0, RG_1, RP_1, RN_2, Rld_2, Rst_2, RN_3, Rld_3, Rst_3, RN_4, Rld_4, Rst_4, RG_5, RP_5, RG_6, RP_6, RN_7, Rld_7, Rst_7, RN_8, Rld_8, Rst_8, RN_9, Rld_9, Rst_9, RN_10, Rld_10, Rst_10, RG_11, RP_11, RG_12, RP_12, RN_13, Rld_13, Rst_13, RN_14, Rld_14, Rst_14, RN_15, Rld_15, Rst_15, RN_16, Rld_16, Rst_16, RG_17, RP_17, RG_18, RP_18, RG_19, RP_19, RG_20, RP_20, RG_21, RP_21, RG_22, RP_22, RG_23, RP_23, RG_24, RP_24, RG_25, RP_25, RG_26, RP_26, RG_27, RP_27, RG_28, RP_28, RG_29, RP_29, RG_30, RP_30, RG_31, RP_31, RG_32, RP_32, RN_33, Rld_33, Rst_33, RN_34, Rld_34, Rst_34, RN_35, Rld_35, Rst_35, RN_36, Rld_36, Rst_36, RN_37, Rld_37, Rst_37, RN_38, Rld_38, Rst_38, RN_39, Rld_39, Rst_39, RN_40, Rld_40, Rst_40, RN_41, Rld_41, Rst_41, RN_42, Rld_42, Rst_42, RN_43, Rld_43, Rst_43, RN_44, Rld_44, Rst_44, RN_45, Rld_45, Rst_45, RG_46, RP_46, RG_47, RP_47, RG_48, RP_48, RG_49, RP_49, RN_50, Rld_50, Rst_50, RN_51, Rld_51, Rst_51, RN_52, Rld_52, Rst_52, RN_53, Rld_53, Rst_53, RN_54, Rld_54, Rst_54, RN_55, Rld_55, Rst_55, RG_56, RP_56, RG_57, RP_57, RN_58, Rld_58, Rst_58, RN_59, Rld_59, Rst_59, RN_60, Rld_60, Rst_60, RG_61, RP_61, RG_62, RP_62, RG_63, RP_63, RG_64, RP_64, RG_65, RP_65, RG_66, RP_66, RG_67, RP_67, RG_68, RP_68, RG_69, RP_69, RG_70, RP_70, RG_71, RP_71, RN_72, Rld_72, Rst_72, RN_73, Rld_73, Rst_73, RN_74, Rld_74, Rst_74, RN_75, Rld_75, Rst_75, RN_76, Rld_76, Rst_76, RN_77, Rld_77, Rst_77, RN_78, Rld_78, Rst_78, RN_79, Rld_79, Rst_79, RN_80, Rld_80, Rst_80, RN_81, Rld_81, Rst_81, RN_82, Rld_82, Rst_82, RN_83, Rld_83, Rst_83, RN_84, Rld_84, Rst_84, RN_85, Rld_85, Rst_85, RN_86, Rld_86, Rst_86, RG_87, RP_87, RG_88, RP_88, RG_89, RP_89, RG_90, RP_90, RG_91, RP_91, RG_92, RP_92, RG_93, RP_93, RN_94, Rld_94, Rst_94, RN_95, Rld_95, Rst_95, RG_96, RP_96, RN_97, Rld_97, Rst_97, RN_98, Rld_98, Rst_98, RN_99, Rld_99, Rst_99, RN_100, Rld_100, Rst_100, RG_101, RP_101, RN_102, Rld_102, Rst_102, RN_103, Rld_103, Rst_103, RN_104, Rld_104, Rst_104, RG_105, RP_105, q_fi_sfi, q_fl_sfi, q_fr_sfi, q_ai_sfi, q_al_sfi, q_ar_sfi, q_ln_sfi, q_fi_sfl, q_fl_sfl, q_fr_sfl, q_ai_sfl, q_al_sfl, q_ar_sfl, q_ln_sfl, q_fi_sfr, q_fl_sfr, q_fr_sfr, q_ai_sfr, q_al_sfr, q_ar_sfr, q_ln_sfr, q_fi_sai, q_fl_sai, q_fr_sai, q_ai_sai, q_al_sai, q_ar_sai, q_ln_sai, q_fi_sal, q_fl_sal, q_fr_sal, q_ai_sal, q_al_sal, q_ar_sal, q_ln_sal, q_fi_sar, q_fl_sar, q_fr_sar, q_ai_sar, q_al_sar, q_ar_sar, q_ln_sar, reduceIte, Nat.reduceEqDiff, Option.bind_some, hn, ix_n (show p < 2147483648 by omega), decide_eq_true (show p < 20 by omega), if_true, c32 (show p < 2147483648 by omega), suc32, q4, bb_1]
        have hdn : ∀ j, j < n' → j ≠ p → ai R 7 j ≠ d := by
          intro j hj hjp e
          rcases hp with q | q
          · exact q.2 j (by omega) e
          · exact hjp (hT.2.2 j p (by omega) q.1 (e.trans q.2.symm))
        refine QLeap.ok hst rfl ⟨((((fr1 R).mono (by decide)).sai (by decide) _).sai (by decide) _).sfi (by decide) _, n', ⟨rfl, by omega, by omega, fun i hi => ?_, fun i j hi hj e => ?_⟩, fun x y => ⟨?_, ?_⟩⟩
        · simp only [q_fi_sfi, q_fl_sfi, q_fr_sfi, q_ai_sfi, q_al_sfi, q_ar_sfi, q_ln_sfi, q_fi_sfl, q_fl_sfl, q_fr_sfl, q_ai_sfl, q_al_sfl, q_ar_sfl, q_ln_sfl, q_fi_sfr, q_fl_sfr, q_fr_sfr, q_ai_sfr, q_al_sfr, q_ar_sfr, q_ln_sfr, q_fi_sai, q_fl_sai, q_fr_sai, q_ai_sai, q_al_sai, q_ar_sai, q_ln_sai, q_fi_sal, q_fl_sal, q_fr_sal, q_ai_sal, q_al_sal, q_ar_sal, q_ln_sal, q_fi_sar, q_fl_sar, q_fr_sar, q_ai_sar, q_al_sar, q_ar_sar, q_ln_sar, reduceIte, Nat.reduceEqDiff]
          by_cases hip : i = p
          · rw [hip, up_same]; exact hkk
          · rw [up_ne _ _ _ _ hip]; exact hT.2.1 i (by omega)
        · simp only [q_fi_sfi, q_fl_sfi, q_fr_sfi, q_ai_sfi, q_al_sfi, q_ar_sfi, q_ln_sfi, q_fi_sfl, q_fl_sfl, q_fr_sfl, q_ai_sfl, q_al_sfl, q_ar_sfl, q_ln_sfl, q_fi_sfr, q_fl_sfr, q_fr_sfr, q_ai_sfr, q_al_sfr, q_ar_sfr, q_ln_sfr, q_fi_sai, q_fl_sai, q_fr_sai, q_ai_sai, q_al_sai, q_ar_sai, q_ln_sai, q_fi_sal, q_fl_sal, q_fr_sal, q_ai_sal, q_al_sal, q_ar_sal, q_ln_sal, q_fi_sar, q_fl_sar, q_fr_sar, q_ai_sar, q_al_sar, q_ar_sar, q_ln_sar, reduceIte, Nat.reduceEqDiff] at e
          by_cases hip : i = p
          · by_cases hjp : j = p
            · omega
            · rw [hip, up_same, up_ne _ _ _ _ hjp] at e
              exact absurd e.symm (hdn j hj hjp)
          · by_cases hjp : j = p
            · rw [hjp, up_same, up_ne _ _ _ _ hip] at e
              exact absurd e (hdn i hi hip)
            · rw [up_ne _ _ _ _ hip, up_ne _ _ _ _ hjp] at e
              exact hT.2.2 i j (by omega) (by omega) e
        · rintro ⟨i, hi, g1, g2⟩
          simp only [q_fi_sfi, q_fl_sfi, q_fr_sfi, q_ai_sfi, q_al_sfi, q_ar_sfi, q_ln_sfi, q_fi_sfl, q_fl_sfl, q_fr_sfl, q_ai_sfl, q_al_sfl, q_ar_sfl, q_ln_sfl, q_fi_sfr, q_fl_sfr, q_fr_sfr, q_ai_sfr, q_al_sfr, q_ar_sfr, q_ln_sfr, q_fi_sai, q_fl_sai, q_fr_sai, q_ai_sai, q_al_sai, q_ar_sai, q_ln_sai, q_fi_sal, q_fl_sal, q_fr_sal, q_ai_sal, q_al_sal, q_ar_sal, q_ln_sal, q_fi_sar, q_fl_sar, q_fr_sar, q_ai_sar, q_al_sar, q_ar_sar, q_ln_sar, reduceIte, Nat.reduceEqDiff] at g1 g2
          by_cases hip : i = p
          · rw [hip, up_same] at g1 g2; exact Or.inl ⟨g1.symm, g2.symm, hk⟩
          · rw [up_ne _ _ _ _ hip] at g1 g2
            exact Or.inr ⟨fun e => hdn i hi hip (g1.trans e), i, by omega, g1, g2⟩
        · rintro (⟨e1, e2, _⟩ | ⟨q, i, hi, g1, g2⟩)
          · refine ⟨p, by omega, ?_, ?_⟩
            · simp only [q_fi_sfi, q_fl_sfi, q_fr_sfi, q_ai_sfi, q_al_sfi, q_ar_sfi, q_ln_sfi, q_fi_sfl, q_fl_sfl, q_fr_sfl, q_ai_sfl, q_al_sfl, q_ar_sfl, q_ln_sfl, q_fi_sfr, q_fl_sfr, q_fr_sfr, q_ai_sfr, q_al_sfr, q_ar_sfr, q_ln_sfr, q_fi_sai, q_fl_sai, q_fr_sai, q_ai_sai, q_al_sai, q_ar_sai, q_ln_sai, q_fi_sal, q_fl_sal, q_fr_sal, q_ai_sal, q_al_sal, q_ar_sal, q_ln_sal, q_fi_sar, q_fl_sar, q_fr_sar, q_ai_sar, q_al_sar, q_ar_sar, q_ln_sar, reduceIte, Nat.reduceEqDiff]; rw [up_same, e1]
            · simp only [q_fi_sfi, q_fl_sfi, q_fr_sfi, q_ai_sfi, q_al_sfi, q_ar_sfi, q_ln_sfi, q_fi_sfl, q_fl_sfl, q_fr_sfl, q_ai_sfl, q_al_sfl, q_ar_sfl, q_ln_sfl, q_fi_sfr, q_fl_sfr, q_fr_sfr, q_ai_sfr, q_al_sfr, q_ar_sfr, q_ln_sfr, q_fi_sai, q_fl_sai, q_fr_sai, q_ai_sai, q_al_sai, q_ar_sai, q_ln_sai, q_fi_sal, q_fl_sal, q_fr_sal, q_ai_sal, q_al_sal, q_ar_sal, q_ln_sal, q_fi_sar, q_fl_sar, q_fr_sar, q_ai_sar, q_al_sar, q_ar_sar, q_ln_sar, reduceIte, Nat.reduceEqDiff]; rw [up_same, e2]
          · have hip : i ≠ p := by
              intro e
              rcases hp with r | r
              · omega
              · exact q (by rw [← g1, e, r.2])
            refine ⟨i, by omega, ?_, ?_⟩
            · simp only [q_fi_sfi, q_fl_sfi, q_fr_sfi, q_ai_sfi, q_al_sfi, q_ar_sfi, q_ln_sfi, q_fi_sfl, q_fl_sfl, q_fr_sfl, q_ai_sfl, q_al_sfl, q_ar_sfl, q_ln_sfl, q_fi_sfr, q_fl_sfr, q_fr_sfr, q_ai_sfr, q_al_sfr, q_ar_sfr, q_ln_sfr, q_fi_sai, q_fl_sai, q_fr_sai, q_ai_sai, q_al_sai, q_ar_sai, q_ln_sai, q_fi_sal, q_fl_sal, q_fr_sal, q_ai_sal, q_al_sal, q_ar_sal, q_ln_sal, q_fi_sar, q_fl_sar, q_fr_sar, q_ai_sar, q_al_sar, q_ar_sar, q_ln_sar, reduceIte, Nat.reduceEqDiff]; rw [up_ne _ _ _ _ hip, g1]
            · simp only [q_fi_sfi, q_fl_sfi, q_fr_sfi, q_ai_sfi, q_al_sfi, q_ar_sfi, q_ln_sfi, q_fi_sfl, q_fl_sfl, q_fr_sfl, q_ai_sfl, q_al_sfl, q_ar_sfl, q_ln_sfl, q_fi_sfr, q_fl_sfr, q_fr_sfr, q_ai_sfr, q_al_sfr, q_ar_sfr, q_ln_sfr, q_fi_sai, q_fl_sai, q_fr_sai, q_ai_sai, q_al_sai, q_ar_sai, q_ln_sai, q_fi_sal, q_fl_sal, q_fr_sal, q_ai_sal, q_al_sal, q_ar_sal, q_ln_sal, q_fi_sar, q_fl_sar, q_fr_sar, q_ai_sar, q_al_sar, q_ar_sar, q_ln_sar, reduceIte, Nat.reduceEqDiff]; rw [up_ne _ _ _ _ hip, g2]
def bt (v : Int32) (k : Nat) : Int32 := vp_nar .byte ((v >>> ((8 * Int32.ofNat (3 - k)) &&& 31)).toInt8.toInt32)
def layB (f : Nat → Int32) (n : Nat) (v : Int32) : Nat → Nat → Int32
  | 0 => f
  | k + 1 => up (layB f n v k) (n + k) (bt v k)
theorem r_lay {m : Nat} {ρ : Hs} {R : Gs} {n : Nat} (hn : fi R 17 = Int32.ofNat n) (h : n + 4 ≤ 500) (v : Int32) : fX12_lay_0 (eR m ρ R) m v = some (eR m ρ (sfi (sai R 16 (layB (ai R 16) n v 4)) 17 (Int32.ofNat (n + 4)))) := by
  unfold fX12_lay_0 fX12_lay_2
  refine lp_q 4 (fun k z => z = (eR m ρ (sfi (sai R 16 (layB (ai R 16) n v k)) 17 (Int32.ofNat (n + k))), m, v, Int32.ofNat (4 - k) - 1)) (fun X => X = some (eR m ρ (sfi (sai R 16 (layB (ai R 16) n v 4)) 17 (Int32.ofNat (n + 4))))) ?_ ?_ fu 0 _ (by omega) ?_ (by unfold fu; omega)
  · rintro K k _ hk rfl
    left
    have e0 : Int32.ofNat (4 - k) - 1 = Int32.ofNat (3 - k) := by rw [ofNat_m1 (by omega)]; congr 1; omega
    have e1 : ¬ Int32.ofNat (3 - k) < 0 := by rw [lt32, n32 (by omega), i0]; omega
    have e2 : Int32.ofNat (3 - k) + -1 = Int32.ofNat (4 - (k + 1)) - 1 := by
      rw [show 4 - (k + 1) = 3 - k by omega]; exact (Int32.sub_eq_add_neg _ _).symm
    simp only [fbX12_lay_2, e0, if_neg e1, RisC, RG_0, RP_0, RG_1, RP_1, RN_2, Rld_2, Rst_2, RN_3, Rld_3, Rst_3, RN_4, Rld_4, Rst_4, RG_5, RP_5, RG_6, RP_6, RN_7, Rld_7, Rst_7, RN_8, Rld_8, Rst_8, RN_9, Rld_9, Rst_9, RN_10, Rld_10, Rst_10, RG_11, RP_11, RG_12, RP_12, RN_13, Rld_13, Rst_13, RN_14, Rld_14, Rst_14, RN_15, Rld_15, Rst_15, RN_16, Rld_16, Rst_16, RG_17, RP_17, RG_18, RP_18, RG_19, RP_19, RG_20, RP_20, RG_21, RP_21, RG_22, RP_22, RG_23, RP_23, RG_24, RP_24, RG_25, RP_25, RG_26, RP_26, RG_27, RP_27, RG_28, RP_28, RG_29, RP_29, RG_30, RP_30, RG_31, RP_31, RG_32, RP_32, RN_33, Rld_33, Rst_33, RN_34, Rld_34, Rst_34, RN_35, Rld_35, Rst_35, RN_36, Rld_36, Rst_36, RN_37, Rld_37, Rst_37, RN_38, Rld_38, Rst_38, RN_39, Rld_39, Rst_39, RN_40, Rld_40, Rst_40, RN_41, Rld_41, Rst_41, RN_42, Rld_42, Rst_42, RN_43, Rld_43, Rst_43, RN_44, Rld_44, Rst_44, RN_45, Rld_45, Rst_45, RG_46, RP_46, RG_47, RP_47, RG_48, RP_48, RG_49, RP_49, RN_50, Rld_50, Rst_50, RN_51, Rld_51, Rst_51, RN_52, Rld_52, Rst_52, RN_53, Rld_53, Rst_53, RN_54, Rld_54, Rst_54, RN_55, Rld_55, Rst_55, RG_56, RP_56, RG_57, RP_57, RN_58, Rld_58, Rst_58, RN_59, Rld_59, Rst_59, RN_60, Rld_60, Rst_60, RG_61, RP_61, RG_62, RP_62, RG_63, RP_63, RG_64, RP_64, RG_65, RP_65, RG_66, RP_66, RG_67, RP_67, RG_68, RP_68, RG_69, RP_69, RG_70, RP_70, RG_71, RP_71, RN_72, Rld_72, Rst_72, RN_73, Rld_73, Rst_73, RN_74, Rld_74, Rst_74, RN_75, Rld_75, Rst_75, RN_76, Rld_76, Rst_76, RN_77, Rld_77, Rst_77, RN_78, Rld_78, Rst_78, RN_79, Rld_79, Rst_79, RN_80, Rld_80, Rst_80, RN_81, Rld_81, Rst_81, RN_82, Rld_82, Rst_82, RN_83, Rld_83, Rst_83, RN_84, Rld_84, Rst_84, RN_85, Rld_85, Rst_85, RN_86, Rld_86, Rst_86, RG_87, RP_87, RG_88, RP_88, RG_89, RP_89, RG_90, RP_90, RG_91, RP_91, RG_92, RP_92, RG_93, RP_93, RN_94, Rld_94, Rst_94, RN_95, Rld_95, Rst_95, RG_96, RP_96, RN_97, Rld_97, Rst_97, RN_98, Rld_98, Rst_98, RN_99, Rld_99, Rst_99, RN_100, Rld_100, Rst_100, RG_101, RP_101, RN_102, Rld_102, Rst_102, RN_103, Rld_103, Rst_103, RN_104, Rld_104, Rst_104, RG_105, RP_105, q_fi_sfi, q_fl_sfi, q_fr_sfi, q_ai_sfi, q_al_sfi, q_ar_sfi, q_ln_sfi, q_fi_sfl, q_fl_sfl, q_fr_sfl, q_ai_sfl, q_al_sfl, q_ar_sfl, q_ln_sfl, q_fi_sfr, q_fl_sfr, q_fr_sfr, q_ai_sfr, q_al_sfr, q_ar_sfr, q_ln_sfr, q_fi_sai, q_fl_sai, q_fr_sai, q_ai_sai, q_al_sai, q_ar_sai, q_ln_sai, q_fi_sal, q_fl_sal, q_fr_sal, q_ai_sal, q_al_sal, q_ar_sal, q_ln_sal, q_fi_sar, q_fl_sar, q_fr_sar, q_ai_sar, q_al_sar, q_ar_sar, q_ln_sar, reduceIte, Nat.reduceEqDiff, Option.bind_some, ix_n (show n + k < 2147483648 by omega), decide_eq_true (show n + k < 500 by omega), if_true, c32 (show n + k < 2147483648 by omega), suc32, e2]
    refine ⟨_, rfl, ?_⟩
    congr 3
    show sfi (sai (sfi (sai R 16 (layB (ai R 16) n v k)) 17 _) 16 _) 17 _ = sfi (sai R 16 (up (layB (ai R 16) n v k) (n + k) (bt v k))) 17 _
    have e3 : ∀ (G : Gs) (a b : Int32) (f g : Nat → Int32), sfi (sai (sfi (sai G 16 f) 17 a) 16 g) 17 b = sfi (sai G 16 g) 17 b := by
      intro G a b f g; unfold sfi sai; simp only [up_up]
    rw [e3]; rfl
  · rintro K _ rfl
    have e0 : Int32.ofNat (4 - 4) - 1 < 0 := by decide
    simp only [fbX12_lay_2, if_pos e0]
  · have : ∀ G : Gs, sfi (sai G 16 (ai G 16)) 17 (fi G 17) = G := by
      intro G
      have e1 : up G.2.2.2.1 16 (ai G 16) = G.2.2.2.1 := by
        funext j; unfold up; split
        · rename_i e; rw [e]; rfl
        · rfl
      have e2 : up G.1 17 (fi G 17) = G.1 := by
        funext j; unfold up; split
        · rename_i e; rw [e]; rfl
        · rfl
      unfold sfi sai; simp only [e1, e2]
    have e := this R
    rw [hn] at e
    show _ = (eR m ρ (sfi (sai R 16 (ai R 16)) 17 (Int32.ofNat (n + 0))), m, v, _)
    rw [Nat.add_zero, e]; rfl
def lay5 (f : Nat → Int32) (n : Nat) (a b c d e : Int32) : Nat → Int32 := layB (layB (layB (layB (layB f n a 4) (n + 4) b 4) (n + 8) c 4) (n + 12) d 4) (n + 16) e 4
theorem r_feed {m : Nat} {ρ : Hs} {R : Gs} {n : Nat} (hn : fi R 17 = Int32.ofNat n) (h : n ≤ 500) (a b c d e : Int32) :
    QS m ρ R (if n + 20 ≤ 500 then Int32.ofNat (n + 20) else -1) (if n + 20 ≤ 500 then sfi (sai R 16 (lay5 (ai R 16) n a b c d e)) 17 (Int32.ofNat (n + 20)) else R) (fX12_feed_0 (eR m ρ R) m a b c d e) := by
  have l500 : (500 : Int32) = Int32.ofNat 500 := rfl
  unfold fX12_feed_0
  simp only [RP_1, RG_17, q_fi_sfi, q_fl_sfi, q_fr_sfi, q_ai_sfi, q_al_sfi, q_ar_sfi, q_ln_sfi, q_fi_sfl, q_fl_sfl, q_fr_sfl, q_ai_sfl, q_al_sfl, q_ar_sfl, q_ln_sfl, q_fi_sfr, q_fl_sfr, q_fr_sfr, q_ai_sfr, q_al_sfr, q_ar_sfr, q_ln_sfr, q_fi_sai, q_fl_sai, q_fr_sai, q_ai_sai, q_al_sai, q_ar_sai, q_ln_sai, q_fi_sal, q_fl_sal, q_fr_sal, q_ai_sal, q_al_sal, q_ar_sal, q_ln_sal, q_fi_sar, q_fl_sar, q_fr_sar, q_ai_sar, q_al_sar, q_ar_sar, q_ln_sar, reduceIte, Nat.reduceEqDiff, hn, Option.bind_some, l20, add_n, l500, le_n (show n + 20 < 2147483648 by omega) (show 500 < 2147483648 by omega)]
  by_cases hc : n + 20 ≤ 500
  · rw [if_pos hc, if_pos hc, if_pos hc]
    have e3 : ∀ (G : Gs) (a b : Int32) (f g : Nat → Int32), sfi (sai (sfi (sai G 16 f) 17 a) 16 g) 17 b = sfi (sai G 16 g) 17 b := by
      intro G a b f g; unfold sfi sai; simp only [up_up]
    simp only [RisC, Option.bind_some, r_lay (R := sfi R 1 0) hn (show n + 4 ≤ 500 by omega)]
    simp only [q_fi_sfi, q_fl_sfi, q_fr_sfi, q_ai_sfi, q_al_sfi, q_ar_sfi, q_ln_sfi, q_fi_sfl, q_fl_sfl, q_fr_sfl, q_ai_sfl, q_al_sfl, q_ar_sfl, q_ln_sfl, q_fi_sfr, q_fl_sfr, q_fr_sfr, q_ai_sfr, q_al_sfr, q_ar_sfr, q_ln_sfr, q_fi_sai, q_fl_sai, q_fr_sai, q_ai_sai, q_al_sai, q_ar_sai, q_ln_sai, q_fi_sal, q_fl_sal, q_fr_sal, q_ai_sal, q_al_sal, q_ar_sal, q_ln_sal, q_fi_sar, q_fl_sar, q_fr_sar, q_ai_sar, q_al_sar, q_ar_sar, q_ln_sar, reduceIte, Nat.reduceEqDiff, r_lay (R := sfi (sai _ 16 _) 17 (Int32.ofNat (n + 4))) rfl (show n + 4 + 4 ≤ 500 by omega), Option.bind_some, e3, RisC]
    simp only [q_fi_sfi, q_fl_sfi, q_fr_sfi, q_ai_sfi, q_al_sfi, q_ar_sfi, q_ln_sfi, q_fi_sfl, q_fl_sfl, q_fr_sfl, q_ai_sfl, q_al_sfl, q_ar_sfl, q_ln_sfl, q_fi_sfr, q_fl_sfr, q_fr_sfr, q_ai_sfr, q_al_sfr, q_ar_sfr, q_ln_sfr, q_fi_sai, q_fl_sai, q_fr_sai, q_ai_sai, q_al_sai, q_ar_sai, q_ln_sai, q_fi_sal, q_fl_sal, q_fr_sal, q_ai_sal, q_al_sal, q_ar_sal, q_ln_sal, q_fi_sar, q_fl_sar, q_fr_sar, q_ai_sar, q_al_sar, q_ar_sar, q_ln_sar, reduceIte, Nat.reduceEqDiff, r_lay (R := sfi (sai _ 16 _) 17 (Int32.ofNat (n + 4 + 4))) rfl (show n + 4 + 4 + 4 ≤ 500 by omega), Option.bind_some, e3, RisC]
    simp only [q_fi_sfi, q_fl_sfi, q_fr_sfi, q_ai_sfi, q_al_sfi, q_ar_sfi, q_ln_sfi, q_fi_sfl, q_fl_sfl, q_fr_sfl, q_ai_sfl, q_al_sfl, q_ar_sfl, q_ln_sfl, q_fi_sfr, q_fl_sfr, q_fr_sfr, q_ai_sfr, q_al_sfr, q_ar_sfr, q_ln_sfr, q_fi_sai, q_fl_sai, q_fr_sai, q_ai_sai, q_al_sai, q_ar_sai, q_ln_sai, q_fi_sal, q_fl_sal, q_fr_sal, q_ai_sal, q_al_sal, q_ar_sal, q_ln_sal, q_fi_sar, q_fl_sar, q_fr_sar, q_ai_sar, q_al_sar, q_ar_sar, q_ln_sar, reduceIte, Nat.reduceEqDiff, r_lay (R := sfi (sai _ 16 _) 17 (Int32.ofNat (n + 4 + 4 + 4))) rfl (show n + 4 + 4 + 4 + 4 ≤ 500 by omega), Option.bind_some, e3, RisC]
    simp only [q_fi_sfi, q_fl_sfi, q_fr_sfi, q_ai_sfi, q_al_sfi, q_ar_sfi, q_ln_sfi, q_fi_sfl, q_fl_sfl, q_fr_sfl, q_ai_sfl, q_al_sfl, q_ar_sfl, q_ln_sfl, q_fi_sfr, q_fl_sfr, q_fr_sfr, q_ai_sfr, q_al_sfr, q_ar_sfr, q_ln_sfr, q_fi_sai, q_fl_sai, q_fr_sai, q_ai_sai, q_al_sai, q_ar_sai, q_ln_sai, q_fi_sal, q_fl_sal, q_fr_sal, q_ai_sal, q_al_sal, q_ar_sal, q_ln_sal, q_fi_sar, q_fl_sar, q_fr_sar, q_ai_sar, q_al_sar, q_ar_sar, q_ln_sar, reduceIte, Nat.reduceEqDiff, r_lay (R := sfi (sai _ 16 _) 17 (Int32.ofNat (n + 4 + 4 + 4 + 4))) rfl (show n + 4 + 4 + 4 + 4 + 4 ≤ 500 by omega), Option.bind_some, e3, RG_17, RisC]
    exact ⟨_, rfl, rfl, frc_fi (frc_ai ((Fr.refl _ R).sfi (by decide) _) _ _) _ _, fun h => h⟩
  · rw [if_neg hc, if_neg hc, if_neg hc]
    exact ⟨_, rfl, rfl, (Fr.refl _ R).sfi (by decide) _, fun h => h⟩
