def oI (o : Option Nat) : Int32 := match o with
  | none => -1
  | some k => Int32.ofNat k
section
variable {m : Nat} {ρ : Hs} {R : Gs}
theorem r_force (hT : RTx R) (day : Int32) : fX12_force_0 (eR m ρ R) m day = some (oI (frc (ai R 33) day (nT R))) := by
  obtain ⟨⟨h1, -⟩, h2⟩ := hT
  unfold fX12_force_0 fX12_force_4
  refine lp_q (nT R) (fun k z => z = (m, day, oI (frc (ai R 33) day k), Int32.ofNat k)) (fun X => X = some (oI (frc (ai R 33) day (nT R)))) ?_ ?_ fu 0 _ (by omega) rfl (by unfold fu; omega)
  · rintro L k _ hk rfl
    left
    refine ⟨_, rfl, ?_⟩
    simp only [fbX12_force_4, RisC, RG_0, RP_0, RG_1, RP_1, RN_2, Rld_2, Rst_2, RN_3, Rld_3, Rst_3, RN_4, Rld_4, Rst_4, RG_5, RP_5, RG_6, RP_6, RN_7, Rld_7, Rst_7, RN_8, Rld_8, Rst_8, RN_9, Rld_9, Rst_9, RN_10, Rld_10, Rst_10, RG_11, RP_11, RG_12, RP_12, RN_13, Rld_13, Rst_13, RN_14, Rld_14, Rst_14, RN_15, Rld_15, Rst_15, RN_16, Rld_16, Rst_16, RG_17, RP_17, RG_18, RP_18, RG_19, RP_19, RG_20, RP_20, RG_21, RP_21, RG_22, RP_22, RG_23, RP_23, RG_24, RP_24, RG_25, RP_25, RG_26, RP_26, RG_27, RP_27, RG_28, RP_28, RG_29, RP_29, RG_30, RP_30, RG_31, RP_31, RG_32, RP_32, RN_33, Rld_33, Rst_33, RN_34, Rld_34, Rst_34, RN_35, Rld_35, Rst_35, RN_36, Rld_36, Rst_36, RN_37, Rld_37, Rst_37, RN_38, Rld_38, Rst_38, RN_39, Rld_39, Rst_39, RN_40, Rld_40, Rst_40, RN_41, Rld_41, Rst_41, RN_42, Rld_42, Rst_42, RN_43, Rld_43, Rst_43, RN_44, Rld_44, Rst_44, RN_45, Rld_45, Rst_45, RG_46, RP_46, RG_47, RP_47, RG_48, RP_48, RG_49, RP_49, RN_50, Rld_50, Rst_50, RN_51, Rld_51, Rst_51, RN_52, Rld_52, Rst_52, RN_53, Rld_53, Rst_53, RN_54, Rld_54, Rst_54, RN_55, Rld_55, Rst_55, RG_56, RP_56, RG_57, RP_57, RN_58, Rld_58, Rst_58, RN_59, Rld_59, Rst_59, RN_60, Rld_60, Rst_60, RG_61, RP_61, RG_62, RP_62, RG_63, RP_63, RG_64, RP_64, RG_65, RP_65, RG_66, RP_66, RG_67, RP_67, RG_68, RP_68, RG_69, RP_69, RG_70, RP_70, RG_71, RP_71, RN_72, Rld_72, Rst_72, RN_73, Rld_73, Rst_73, RN_74, Rld_74, Rst_74, RN_75, Rld_75, Rst_75, RN_76, Rld_76, Rst_76, RN_77, Rld_77, Rst_77, RN_78, Rld_78, Rst_78, RN_79, Rld_79, Rst_79, RN_80, Rld_80, Rst_80, RN_81, Rld_81, Rst_81, RN_82, Rld_82, Rst_82, RN_83, Rld_83, Rst_83, RN_84, Rld_84, Rst_84, RN_85, Rld_85, Rst_85, RN_86, Rld_86, Rst_86, RG_87, RP_87, RG_88, RP_88, RG_89, RP_89, RG_90, RP_90, RG_91, RP_91, RG_92, RP_92, RG_93, RP_93, RN_94, Rld_94, Rst_94, RN_95, Rld_95, Rst_95, RG_96, RP_96, RN_97, Rld_97, Rst_97, RN_98, Rld_98, Rst_98, RN_99, Rld_99, Rst_99, RN_100, Rld_100, Rst_100, RG_101, RP_101, RN_102, Rld_102, Rst_102, RN_103, Rld_103, Rst_103, RN_104, Rld_104, Rst_104, RG_105, RP_105, h1, Option.bind_some, le_n (show nT R < 2147483648 by omega) (show k < 2147483648 by omega), if_neg (show ¬ nT R ≤ k by omega), ix_n (show k < 2147483648 by omega), decide_eq_true (show k < 4 by omega), if_true, c32 (show k < 2147483648 by omega), suc32]
    show _ = L (m, day, oI (if day < ai R 33 k then frc (ai R 33) day k else match frc (ai R 33) day k with
      | none => some k
      | some c => if ai R 33 k < ai R 33 c then some c else some k), Int32.ofNat (k + 1))
    by_cases c1 : day < ai R 33 k
    · rw [if_pos c1, if_pos c1]
    · rw [if_neg c1, if_neg c1]
      cases hf : frc (ai R 33) day k with
      | none => rw [if_pos (show oI none < 0 by decide)]; rfl
      | some c =>
        have hc := frc_lt k c hf
        rw [if_neg (show ¬ oI (some c) < 0 by show ¬ Int32.ofNat c < 0; rw [lt32, n32 (by omega), i0]; omega)]
        simp only [oI, ix_n (show c < 2147483648 by omega), decide_eq_true (show c < 4 by omega), if_true, c32 (show c < 2147483648 by omega), Option.bind_some]
        by_cases c2 : ai R 33 k < ai R 33 c
        · rw [if_pos c2, if_pos c2]
        · rw [if_neg c2, if_neg c2]
  · rintro L _ rfl
    simp only [fbX12_force_4, RisC, RG_0, RP_0, RG_1, RP_1, RN_2, Rld_2, Rst_2, RN_3, Rld_3, Rst_3, RN_4, Rld_4, Rst_4, RG_5, RP_5, RG_6, RP_6, RN_7, Rld_7, Rst_7, RN_8, Rld_8, Rst_8, RN_9, Rld_9, Rst_9, RN_10, Rld_10, Rst_10, RG_11, RP_11, RG_12, RP_12, RN_13, Rld_13, Rst_13, RN_14, Rld_14, Rst_14, RN_15, Rld_15, Rst_15, RN_16, Rld_16, Rst_16, RG_17, RP_17, RG_18, RP_18, RG_19, RP_19, RG_20, RP_20, RG_21, RP_21, RG_22, RP_22, RG_23, RP_23, RG_24, RP_24, RG_25, RP_25, RG_26, RP_26, RG_27, RP_27, RG_28, RP_28, RG_29, RP_29, RG_30, RP_30, RG_31, RP_31, RG_32, RP_32, RN_33, Rld_33, Rst_33, RN_34, Rld_34, Rst_34, RN_35, Rld_35, Rst_35, RN_36, Rld_36, Rst_36, RN_37, Rld_37, Rst_37, RN_38, Rld_38, Rst_38, RN_39, Rld_39, Rst_39, RN_40, Rld_40, Rst_40, RN_41, Rld_41, Rst_41, RN_42, Rld_42, Rst_42, RN_43, Rld_43, Rst_43, RN_44, Rld_44, Rst_44, RN_45, Rld_45, Rst_45, RG_46, RP_46, RG_47, RP_47, RG_48, RP_48, RG_49, RP_49, RN_50, Rld_50, Rst_50, RN_51, Rld_51, Rst_51, RN_52, Rld_52, Rst_52, RN_53, Rld_53, Rst_53, RN_54, Rld_54, Rst_54, RN_55, Rld_55, Rst_55, RG_56, RP_56, RG_57, RP_57, RN_58, Rld_58, Rst_58, RN_59, Rld_59, Rst_59, RN_60, Rld_60, Rst_60, RG_61, RP_61, RG_62, RP_62, RG_63, RP_63, RG_64, RP_64, RG_65, RP_65, RG_66, RP_66, RG_67, RP_67, RG_68, RP_68, RG_69, RP_69, RG_70, RP_70, RG_71, RP_71, RN_72, Rld_72, Rst_72, RN_73, Rld_73, Rst_73, RN_74, Rld_74, Rst_74, RN_75, Rld_75, Rst_75, RN_76, Rld_76, Rst_76, RN_77, Rld_77, Rst_77, RN_78, Rld_78, Rst_78, RN_79, Rld_79, Rst_79, RN_80, Rld_80, Rst_80, RN_81, Rld_81, Rst_81, RN_82, Rld_82, Rst_82, RN_83, Rld_83, Rst_83, RN_84, Rld_84, Rst_84, RN_85, Rld_85, Rst_85, RN_86, Rld_86, Rst_86, RG_87, RP_87, RG_88, RP_88, RG_89, RP_89, RG_90, RP_90, RG_91, RP_91, RG_92, RP_92, RG_93, RP_93, RN_94, Rld_94, Rst_94, RN_95, Rld_95, Rst_95, RG_96, RP_96, RN_97, Rld_97, Rst_97, RN_98, Rld_98, Rst_98, RN_99, Rld_99, Rst_99, RN_100, Rld_100, Rst_100, RG_101, RP_101, RN_102, Rld_102, Rst_102, RN_103, Rld_103, Rst_103, RN_104, Rld_104, Rst_104, RG_105, RP_105, h1, Option.bind_some, Int32.le_refl, if_true]
theorem r_let : ∃ R', fX12_letNothing_0 (eR m ρ R) m = some (eR m ρ R') ∧ Fr [42] R R' ∧ ∀ k, k < 11 → al R' 42 k = 0 := by
  unfold fX12_letNothing_0 fX12_letNothing_2
  refine lp_q 11 (fun k z => ∃ R1, z = (eR m ρ R1, m, Int32.ofNat k) ∧ Fr [42] R R1 ∧ ∀ j, j < k → al R1 42 j = 0) (fun X => ∃ R', X = some (eR m ρ R') ∧ Fr [42] R R' ∧ ∀ k, k < 11 → al R' 42 k = 0) ?_ ?_ fu 0 _ (by omega) ⟨R, rfl, Fr.refl _ _, fun j hj => absurd hj (by omega)⟩ (by unfold fu; omega)
  · rintro L k _ hk ⟨R1, rfl, h1, h2⟩
    left
    have e11 : ¬ (11 : Int32) ≤ Int32.ofNat k := fun q => absurd ((le_n (a := 11) (by decide) (by omega)).mp q) (by omega)
    refine ⟨(eR m ρ (sal R1 42 (up (al R1 42) k 0)), m, Int32.ofNat (k + 1)), ⟨_, rfl, h1.sal (k := 42) (by decide) _, fun j hj => ?_⟩, ?_⟩
    · show up (al R1 42) k 0 j = 0
      by_cases c : j = k
      · rw [c, up_same]
      · rw [up_ne _ _ _ _ c]; exact h2 j (by omega)
    · simp only [fbX12_letNothing_2, if_neg e11, RisC, RG_0, RP_0, RG_1, RP_1, RN_2, Rld_2, Rst_2, RN_3, Rld_3, Rst_3, RN_4, Rld_4, Rst_4, RG_5, RP_5, RG_6, RP_6, RN_7, Rld_7, Rst_7, RN_8, Rld_8, Rst_8, RN_9, Rld_9, Rst_9, RN_10, Rld_10, Rst_10, RG_11, RP_11, RG_12, RP_12, RN_13, Rld_13, Rst_13, RN_14, Rld_14, Rst_14, RN_15, Rld_15, Rst_15, RN_16, Rld_16, Rst_16, RG_17, RP_17, RG_18, RP_18, RG_19, RP_19, RG_20, RP_20, RG_21, RP_21, RG_22, RP_22, RG_23, RP_23, RG_24, RP_24, RG_25, RP_25, RG_26, RP_26, RG_27, RP_27, RG_28, RP_28, RG_29, RP_29, RG_30, RP_30, RG_31, RP_31, RG_32, RP_32, RN_33, Rld_33, Rst_33, RN_34, Rld_34, Rst_34, RN_35, Rld_35, Rst_35, RN_36, Rld_36, Rst_36, RN_37, Rld_37, Rst_37, RN_38, Rld_38, Rst_38, RN_39, Rld_39, Rst_39, RN_40, Rld_40, Rst_40, RN_41, Rld_41, Rst_41, RN_42, Rld_42, Rst_42, RN_43, Rld_43, Rst_43, RN_44, Rld_44, Rst_44, RN_45, Rld_45, Rst_45, RG_46, RP_46, RG_47, RP_47, RG_48, RP_48, RG_49, RP_49, RN_50, Rld_50, Rst_50, RN_51, Rld_51, Rst_51, RN_52, Rld_52, Rst_52, RN_53, Rld_53, Rst_53, RN_54, Rld_54, Rst_54, RN_55, Rld_55, Rst_55, RG_56, RP_56, RG_57, RP_57, RN_58, Rld_58, Rst_58, RN_59, Rld_59, Rst_59, RN_60, Rld_60, Rst_60, RG_61, RP_61, RG_62, RP_62, RG_63, RP_63, RG_64, RP_64, RG_65, RP_65, RG_66, RP_66, RG_67, RP_67, RG_68, RP_68, RG_69, RP_69, RG_70, RP_70, RG_71, RP_71, RN_72, Rld_72, Rst_72, RN_73, Rld_73, Rst_73, RN_74, Rld_74, Rst_74, RN_75, Rld_75, Rst_75, RN_76, Rld_76, Rst_76, RN_77, Rld_77, Rst_77, RN_78, Rld_78, Rst_78, RN_79, Rld_79, Rst_79, RN_80, Rld_80, Rst_80, RN_81, Rld_81, Rst_81, RN_82, Rld_82, Rst_82, RN_83, Rld_83, Rst_83, RN_84, Rld_84, Rst_84, RN_85, Rld_85, Rst_85, RN_86, Rld_86, Rst_86, RG_87, RP_87, RG_88, RP_88, RG_89, RP_89, RG_90, RP_90, RG_91, RP_91, RG_92, RP_92, RG_93, RP_93, RN_94, Rld_94, Rst_94, RN_95, Rld_95, Rst_95, RG_96, RP_96, RN_97, Rld_97, Rst_97, RN_98, Rld_98, Rst_98, RN_99, Rld_99, Rst_99, RN_100, Rld_100, Rst_100, RG_101, RP_101, RN_102, Rld_102, Rst_102, RN_103, Rld_103, Rst_103, RN_104, Rld_104, Rst_104, RG_105, RP_105, Option.bind_some, ix_n (show k < 2147483648 by omega), decide_eq_true (show k < 11 by omega), if_true, c32 (show k < 2147483648 by omega), suc32]
  · rintro L _ ⟨R1, rfl, h1, h2⟩
    refine ⟨R1, ?_, h1, h2⟩
    simp only [fbX12_letNothing_2]
    rw [if_pos (show (11 : Int32) ≤ Int32.ofNat 11 by decide)]
theorem r_told (hT : RTx R) (day : Int32) : ∃ R' v, fX12_told_0 (eR m ρ R) m 2328139461 day 1 = some (v, eR m ρ R') ∧ Fr [41, 43, 44, 45, 46, 101] R R' ∧ ((¬ v = 0 ∧ fi R' 101 = 0) ↔ ∀ t e, frc (ai R 33) day (nT R) = some t → bpo (al R 39) t (ai R 34 t).toNatClampNeg = some e → ∃ D rs fs, TOa (ai R 34) (ai R 35) (ai R 36) t D rs fs ∧ tv (dvs fs (al R 42) (e + 1) e) = true) := by
  have F0 : Fr [41, 43, 44, 45, 46, 101] R (sfi R 101 0) := (Fr.refl _ R).sfi (k := 101) (by decide) _
  have hF : fX12_force_0 (eR m ρ (sfi R 101 0)) m day = some (oI (frc (ai R 33) day (nT R))) := r_force (R := sfi R 101 0) hT day
  have h4 := hT.2
  unfold fX12_told_0
  rw [show pZ (eR m ρ R) m 14 101 0 = some (eR m ρ (sfi R 101 0)) from by simp only [RisC, RG_0, RP_0, RG_1, RP_1, RN_2, Rld_2, Rst_2, RN_3, Rld_3, Rst_3, RN_4, Rld_4, Rst_4, RG_5, RP_5, RG_6, RP_6, RN_7, Rld_7, Rst_7, RN_8, Rld_8, Rst_8, RN_9, Rld_9, Rst_9, RN_10, Rld_10, Rst_10, RG_11, RP_11, RG_12, RP_12, RN_13, Rld_13, Rst_13, RN_14, Rld_14, Rst_14, RN_15, Rld_15, Rst_15, RN_16, Rld_16, Rst_16, RG_17, RP_17, RG_18, RP_18, RG_19, RP_19, RG_20, RP_20, RG_21, RP_21, RG_22, RP_22, RG_23, RP_23, RG_24, RP_24, RG_25, RP_25, RG_26, RP_26, RG_27, RP_27, RG_28, RP_28, RG_29, RP_29, RG_30, RP_30, RG_31, RP_31, RG_32, RP_32, RN_33, Rld_33, Rst_33, RN_34, Rld_34, Rst_34, RN_35, Rld_35, Rst_35, RN_36, Rld_36, Rst_36, RN_37, Rld_37, Rst_37, RN_38, Rld_38, Rst_38, RN_39, Rld_39, Rst_39, RN_40, Rld_40, Rst_40, RN_41, Rld_41, Rst_41, RN_42, Rld_42, Rst_42, RN_43, Rld_43, Rst_43, RN_44, Rld_44, Rst_44, RN_45, Rld_45, Rst_45, RG_46, RP_46, RG_47, RP_47, RG_48, RP_48, RG_49, RP_49, RN_50, Rld_50, Rst_50, RN_51, Rld_51, Rst_51, RN_52, Rld_52, Rst_52, RN_53, Rld_53, Rst_53, RN_54, Rld_54, Rst_54, RN_55, Rld_55, Rst_55, RG_56, RP_56, RG_57, RP_57, RN_58, Rld_58, Rst_58, RN_59, Rld_59, Rst_59, RN_60, Rld_60, Rst_60, RG_61, RP_61, RG_62, RP_62, RG_63, RP_63, RG_64, RP_64, RG_65, RP_65, RG_66, RP_66, RG_67, RP_67, RG_68, RP_68, RG_69, RP_69, RG_70, RP_70, RG_71, RP_71, RN_72, Rld_72, Rst_72, RN_73, Rld_73, Rst_73, RN_74, Rld_74, Rst_74, RN_75, Rld_75, Rst_75, RN_76, Rld_76, Rst_76, RN_77, Rld_77, Rst_77, RN_78, Rld_78, Rst_78, RN_79, Rld_79, Rst_79, RN_80, Rld_80, Rst_80, RN_81, Rld_81, Rst_81, RN_82, Rld_82, Rst_82, RN_83, Rld_83, Rst_83, RN_84, Rld_84, Rst_84, RN_85, Rld_85, Rst_85, RN_86, Rld_86, Rst_86, RG_87, RP_87, RG_88, RP_88, RG_89, RP_89, RG_90, RP_90, RG_91, RP_91, RG_92, RP_92, RG_93, RP_93, RN_94, Rld_94, Rst_94, RN_95, Rld_95, Rst_95, RG_96, RP_96, RN_97, Rld_97, Rst_97, RN_98, Rld_98, Rst_98, RN_99, Rld_99, Rst_99, RN_100, Rld_100, Rst_100, RG_101, RP_101, RN_102, Rld_102, Rst_102, RN_103, Rld_103, Rst_103, RN_104, Rld_104, Rst_104, RG_105, RP_105, true_or, if_true], Option.bind_some, RisC, Option.bind_some, hF, Option.bind_some]
  unfold fX12_told_18
  cases hf : frc (ai R 33) day (nT R) with
  | none =>
    refine ⟨sfi R 101 0, 1, ?_, F0, ⟨fun _ t e q => absurd q (by simp), fun _ => ⟨by decide, rfl⟩⟩⟩
    rw [show fu = (fu - 1) + 1 from by unfold fu; omega, lp_s]
    show fbX12_told_18 _ (eR m ρ (sfi R 101 0)) m 2328139461 1 (-1) (-1) 0 = _
    unfold fbX12_told_18 fX12_told_63
    rw [if_pos (by decide), if_neg (by decide)]
  | some t =>
    have ht := frc_lt _ _ hf
    obtain ⟨D, rs, fs, hTO⟩ := hT.1.2 t ht
    have hD : ai R 34 t = Int32.ofNat D := hTO.1.1
    have hD10 := hTO.1.2
    have e0 : ¬ oI (some t) < 0 := by show ¬ Int32.ofNat t < 0; rw [lt32, n32 (by omega), i0]; omega
    have loop : ∀ k N, k ≤ D → D < N + k → ∀ y, y = oI (bpo (al R 39) t k) → lp (fun (k : Hs × Nat × Int64 × Int64 × Int32 × Int32 × Int32 → Option (Int64 × Hs)) (z : Hs × Nat × Int64 × Int64 × Int32 × Int32 × Int32) => fbX12_told_18 (fun σ xv0 xv1 xv4 xv6 xv7 xv8 => k (σ, xv0, xv1, xv4, xv6, xv7, xv8)) z.1 z.2.1 z.2.2.1 z.2.2.2.1 z.2.2.2.2.1 z.2.2.2.2.2.1 z.2.2.2.2.2.2) N (eR m ρ (sfi R 101 0), m, 2328139461, 1, oI (some t), y, Int32.ofNat k) = fX12_told_63 (eR m ρ (sfi R 101 0)) m 1 (oI (some t)) (oI (bpo (al R 39) t D)) := by
      intro k N
      induction N generalizing k with
      | zero => intro h1 h2; omega
      | succ N ih =>
        intro h1 h2 y hy
        rw [lp_s]
        show fbX12_told_18 _ (eR m ρ (sfi R 101 0)) m 2328139461 1 (oI (some t)) y (Int32.ofNat k) = _
        unfold fbX12_told_18
        rw [if_neg e0]
        simp only [RisC, RG_0, RP_0, RG_1, RP_1, RN_2, Rld_2, Rst_2, RN_3, Rld_3, Rst_3, RN_4, Rld_4, Rst_4, RG_5, RP_5, RG_6, RP_6, RN_7, Rld_7, Rst_7, RN_8, Rld_8, Rst_8, RN_9, Rld_9, Rst_9, RN_10, Rld_10, Rst_10, RG_11, RP_11, RG_12, RP_12, RN_13, Rld_13, Rst_13, RN_14, Rld_14, Rst_14, RN_15, Rld_15, Rst_15, RN_16, Rld_16, Rst_16, RG_17, RP_17, RG_18, RP_18, RG_19, RP_19, RG_20, RP_20, RG_21, RP_21, RG_22, RP_22, RG_23, RP_23, RG_24, RP_24, RG_25, RP_25, RG_26, RP_26, RG_27, RP_27, RG_28, RP_28, RG_29, RP_29, RG_30, RP_30, RG_31, RP_31, RG_32, RP_32, RN_33, Rld_33, Rst_33, RN_34, Rld_34, Rst_34, RN_35, Rld_35, Rst_35, RN_36, Rld_36, Rst_36, RN_37, Rld_37, Rst_37, RN_38, Rld_38, Rst_38, RN_39, Rld_39, Rst_39, RN_40, Rld_40, Rst_40, RN_41, Rld_41, Rst_41, RN_42, Rld_42, Rst_42, RN_43, Rld_43, Rst_43, RN_44, Rld_44, Rst_44, RN_45, Rld_45, Rst_45, RG_46, RP_46, RG_47, RP_47, RG_48, RP_48, RG_49, RP_49, RN_50, Rld_50, Rst_50, RN_51, Rld_51, Rst_51, RN_52, Rld_52, Rst_52, RN_53, Rld_53, Rst_53, RN_54, Rld_54, Rst_54, RN_55, Rld_55, Rst_55, RG_56, RP_56, RG_57, RP_57, RN_58, Rld_58, Rst_58, RN_59, Rld_59, Rst_59, RN_60, Rld_60, Rst_60, RG_61, RP_61, RG_62, RP_62, RG_63, RP_63, RG_64, RP_64, RG_65, RP_65, RG_66, RP_66, RG_67, RP_67, RG_68, RP_68, RG_69, RP_69, RG_70, RP_70, RG_71, RP_71, RN_72, Rld_72, Rst_72, RN_73, Rld_73, Rst_73, RN_74, Rld_74, Rst_74, RN_75, Rld_75, Rst_75, RN_76, Rld_76, Rst_76, RN_77, Rld_77, Rst_77, RN_78, Rld_78, Rst_78, RN_79, Rld_79, Rst_79, RN_80, Rld_80, Rst_80, RN_81, Rld_81, Rst_81, RN_82, Rld_82, Rst_82, RN_83, Rld_83, Rst_83, RN_84, Rld_84, Rst_84, RN_85, Rld_85, Rst_85, RN_86, Rld_86, Rst_86, RG_87, RP_87, RG_88, RP_88, RG_89, RP_89, RG_90, RP_90, RG_91, RP_91, RG_92, RP_92, RG_93, RP_93, RN_94, Rld_94, Rst_94, RN_95, Rld_95, Rst_95, RG_96, RP_96, RN_97, Rld_97, Rst_97, RN_98, Rld_98, Rst_98, RN_99, Rld_99, Rst_99, RN_100, Rld_100, Rst_100, RG_101, RP_101, RN_102, Rld_102, Rst_102, RN_103, Rld_103, Rst_103, RN_104, Rld_104, Rst_104, RG_105, RP_105, q_fi_sfi, q_fl_sfi, q_fr_sfi, q_ai_sfi, q_al_sfi, q_ar_sfi, q_ln_sfi, q_fi_sfl, q_fl_sfl, q_fr_sfl, q_ai_sfl, q_al_sfl, q_ar_sfl, q_ln_sfl, q_fi_sfr, q_fl_sfr, q_fr_sfr, q_ai_sfr, q_al_sfr, q_ar_sfr, q_ln_sfr, q_fi_sai, q_fl_sai, q_fr_sai, q_ai_sai, q_al_sai, q_ar_sai, q_ln_sai, q_fi_sal, q_fl_sal, q_fr_sal, q_ai_sal, q_al_sal, q_ar_sal, q_ln_sal, q_fi_sar, q_fl_sar, q_fr_sar, q_ai_sar, q_al_sar, q_ar_sar, q_ln_sar, reduceIte, Nat.reduceEqDiff, oI, hD, Option.bind_some, ix_n (show t < 2147483648 by omega), decide_eq_true (show t < 4 by omega), if_true, c32 (show t < 2147483648 by omega)]
        by_cases c : D ≤ k
        · have : k = D := by omega
          subst this
          rw [if_pos (Int32.le_refl _), hy]; rfl
        · rw [if_neg (show ¬ Int32.ofNat D ≤ Int32.ofNat k from fun q => c ((le_n (by omega) (by omega)).mp q))]
          simp only [show (10 : Int32) = Int32.ofNat 10 from rfl, mul_n, add_n, ix_n (show 10 * t + k < 2147483648 by omega), decide_eq_true (show 10 * t + k < 40 by omega), if_true, c32 (show 10 * t + k < 2147483648 by omega), Option.bind_some, suc32]
          by_cases d : al R 39 (10 * t + k) = 2328139461
          · rw [if_pos d]
            exact ih (k + 1) (by omega) (by omega) (Int32.ofNat k) (by show _ = oI (if al R 39 (10 * t + k) = 2328139461 then some k else _); rw [if_pos d]; rfl)
          · rw [if_neg d]
            exact ih (k + 1) (by omega) (by omega) y (by show _ = oI (if al R 39 (10 * t + k) = 2328139461 then some k else _); rw [if_neg d]; exact hy)
    have hl := loop 0 fu (Nat.zero_le _) (by unfold fu; omega) (-1) rfl
    have hDc : (ai R 34 t).toNatClampNeg = D := by rw [hD, c32 (by omega)]
    cases hb : bpo (al R 39) t D with
    | none =>
      rw [hb] at hl
      refine ⟨sfi R 101 0, 1, hl.trans ?_, F0, ⟨fun _ t' e q1 q2 => ?_, fun _ => ⟨by decide, rfl⟩⟩⟩
      · unfold fX12_told_63
        rw [if_neg (by decide)]
      · have := Option.some.inj q1
        subst this
        rw [hDc, hb] at q2
        cases q2
    | some e =>
      rw [hb] at hl
      have he := bpo_lt _ _ hb
      obtain ⟨R2, w1, w2, w3⟩ := r_work (m := m) (ρ := ρ) (R := sfi R 101 0) (i := t) (by omega) hTO he
      have w3 : VR (al R2 43 e) (ai R2 45 e) (dvs fs (al R 42) (e + 1) e) := w3
      have h01 : ai R2 45 e = 0 ∨ ai R2 45 e = 1 := w3.elim (fun q => Or.inl q.1) (fun q => Or.inr q.1)
      have hw : fX12_work_0 (eR m ρ (sfi R 101 0)) m (oI (some t)) (oI (some e)) = some (eR m ρ R2) := w1
      have F2 : Fr [41, 43, 44, 45, 46, 101] R (sfi R2 101 (ai R2 45 e)) := (F0.trans (w2.mono (by decide))).sfi (k := 101) (by decide) _
      have hiff : ∀ v : Int64, (ai R2 45 e = 0 → v = al R2 43 e) → ((¬ v = 0 ∧ ai R2 45 e = 0) ↔ ∀ t' e', some t = some t' → bpo (al R 39) t' (ai R 34 t').toNatClampNeg = some e' → ∃ D rs fs, TOa (ai R 34) (ai R 35) (ai R 36) t' D rs fs ∧ tv (dvs fs (al R 42) (e' + 1) e') = true) := by
        intro v hv
        have htv := tv_VR w3
        constructor
        · rintro ⟨q1, q2⟩ t' e' r1 r2
          have := Option.some.inj r1
          subst this
          rw [hDc, hb] at r2
          have := Option.some.inj r2
          subst this
          refine ⟨D, rs, fs, hTO, ?_⟩
          rw [htv, decide_eq_true_iff]
          exact ⟨q2, by rw [← hv q2]; exact q1⟩
        · intro h
          obtain ⟨D', rs', fs', k1, k2⟩ := h t e rfl (by rw [hDc]; exact hb)
          have := (dvs_un hTO k1 (fun k _ => rfl : ∀ k, k < 11 → al R 42 k = al R 42 k)).2 (e + 1) (by omega) e (by omega)
          rw [← this, htv, decide_eq_true_iff] at k2
          exact ⟨by rw [hv k2.1]; exact k2.2, k2.1⟩
      by_cases c : ai R2 45 e = 0
      · refine ⟨sfi R2 101 (ai R2 45 e), al R2 43 e, hl.trans ?_, F2, hiff _ (fun _ => rfl)⟩
        unfold fX12_told_63
        rw [if_pos (show 0 ≤ oI (some e) by show 0 ≤ Int32.ofNat e; rw [le32, n32 (by omega), i0]; omega), RisC, Option.bind_some, hw, Option.bind_some]
        simp only [RisC, RG_0, RP_0, RG_1, RP_1, RN_2, Rld_2, Rst_2, RN_3, Rld_3, Rst_3, RN_4, Rld_4, Rst_4, RG_5, RP_5, RG_6, RP_6, RN_7, Rld_7, Rst_7, RN_8, Rld_8, Rst_8, RN_9, Rld_9, Rst_9, RN_10, Rld_10, Rst_10, RG_11, RP_11, RG_12, RP_12, RN_13, Rld_13, Rst_13, RN_14, Rld_14, Rst_14, RN_15, Rld_15, Rst_15, RN_16, Rld_16, Rst_16, RG_17, RP_17, RG_18, RP_18, RG_19, RP_19, RG_20, RP_20, RG_21, RP_21, RG_22, RP_22, RG_23, RP_23, RG_24, RP_24, RG_25, RP_25, RG_26, RP_26, RG_27, RP_27, RG_28, RP_28, RG_29, RP_29, RG_30, RP_30, RG_31, RP_31, RG_32, RP_32, RN_33, Rld_33, Rst_33, RN_34, Rld_34, Rst_34, RN_35, Rld_35, Rst_35, RN_36, Rld_36, Rst_36, RN_37, Rld_37, Rst_37, RN_38, Rld_38, Rst_38, RN_39, Rld_39, Rst_39, RN_40, Rld_40, Rst_40, RN_41, Rld_41, Rst_41, RN_42, Rld_42, Rst_42, RN_43, Rld_43, Rst_43, RN_44, Rld_44, Rst_44, RN_45, Rld_45, Rst_45, RG_46, RP_46, RG_47, RP_47, RG_48, RP_48, RG_49, RP_49, RN_50, Rld_50, Rst_50, RN_51, Rld_51, Rst_51, RN_52, Rld_52, Rst_52, RN_53, Rld_53, Rst_53, RN_54, Rld_54, Rst_54, RN_55, Rld_55, Rst_55, RG_56, RP_56, RG_57, RP_57, RN_58, Rld_58, Rst_58, RN_59, Rld_59, Rst_59, RN_60, Rld_60, Rst_60, RG_61, RP_61, RG_62, RP_62, RG_63, RP_63, RG_64, RP_64, RG_65, RP_65, RG_66, RP_66, RG_67, RP_67, RG_68, RP_68, RG_69, RP_69, RG_70, RP_70, RG_71, RP_71, RN_72, Rld_72, Rst_72, RN_73, Rld_73, Rst_73, RN_74, Rld_74, Rst_74, RN_75, Rld_75, Rst_75, RN_76, Rld_76, Rst_76, RN_77, Rld_77, Rst_77, RN_78, Rld_78, Rst_78, RN_79, Rld_79, Rst_79, RN_80, Rld_80, Rst_80, RN_81, Rld_81, Rst_81, RN_82, Rld_82, Rst_82, RN_83, Rld_83, Rst_83, RN_84, Rld_84, Rst_84, RN_85, Rld_85, Rst_85, RN_86, Rld_86, Rst_86, RG_87, RP_87, RG_88, RP_88, RG_89, RP_89, RG_90, RP_90, RG_91, RP_91, RG_92, RP_92, RG_93, RP_93, RN_94, Rld_94, Rst_94, RN_95, Rld_95, Rst_95, RG_96, RP_96, RN_97, Rld_97, Rst_97, RN_98, Rld_98, Rst_98, RN_99, Rld_99, Rst_99, RN_100, Rld_100, Rst_100, RG_101, RP_101, RN_102, Rld_102, Rst_102, RN_103, Rld_103, Rst_103, RN_104, Rld_104, Rst_104, RG_105, RP_105, q_fi_sfi, q_fl_sfi, q_fr_sfi, q_ai_sfi, q_al_sfi, q_ar_sfi, q_ln_sfi, q_fi_sfl, q_fl_sfl, q_fr_sfl, q_ai_sfl, q_al_sfl, q_ar_sfl, q_ln_sfl, q_fi_sfr, q_fl_sfr, q_fr_sfr, q_ai_sfr, q_al_sfr, q_ar_sfr, q_ln_sfr, q_fi_sai, q_fl_sai, q_fr_sai, q_ai_sai, q_al_sai, q_ar_sai, q_ln_sai, q_fi_sal, q_fl_sal, q_fr_sal, q_ai_sal, q_al_sal, q_ar_sal, q_ln_sal, q_fi_sar, q_fl_sar, q_fr_sar, q_ai_sar, q_al_sar, q_ar_sar, q_ln_sar, reduceIte, Nat.reduceEqDiff, oI, Option.bind_some, ix_n (show e < 2147483648 by omega), decide_eq_true (show e < 10 by omega), if_true, c32 (show e < 2147483648 by omega), if_pos h01, if_pos c]
      · refine ⟨sfi R2 101 (ai R2 45 e), 1, hl.trans ?_, F2, hiff _ (fun q => absurd q c)⟩
        unfold fX12_told_63
        rw [if_pos (show 0 ≤ oI (some e) by show 0 ≤ Int32.ofNat e; rw [le32, n32 (by omega), i0]; omega), RisC, Option.bind_some, hw, Option.bind_some]
        simp only [RisC, RG_0, RP_0, RG_1, RP_1, RN_2, Rld_2, Rst_2, RN_3, Rld_3, Rst_3, RN_4, Rld_4, Rst_4, RG_5, RP_5, RG_6, RP_6, RN_7, Rld_7, Rst_7, RN_8, Rld_8, Rst_8, RN_9, Rld_9, Rst_9, RN_10, Rld_10, Rst_10, RG_11, RP_11, RG_12, RP_12, RN_13, Rld_13, Rst_13, RN_14, Rld_14, Rst_14, RN_15, Rld_15, Rst_15, RN_16, Rld_16, Rst_16, RG_17, RP_17, RG_18, RP_18, RG_19, RP_19, RG_20, RP_20, RG_21, RP_21, RG_22, RP_22, RG_23, RP_23, RG_24, RP_24, RG_25, RP_25, RG_26, RP_26, RG_27, RP_27, RG_28, RP_28, RG_29, RP_29, RG_30, RP_30, RG_31, RP_31, RG_32, RP_32, RN_33, Rld_33, Rst_33, RN_34, Rld_34, Rst_34, RN_35, Rld_35, Rst_35, RN_36, Rld_36, Rst_36, RN_37, Rld_37, Rst_37, RN_38, Rld_38, Rst_38, RN_39, Rld_39, Rst_39, RN_40, Rld_40, Rst_40, RN_41, Rld_41, Rst_41, RN_42, Rld_42, Rst_42, RN_43, Rld_43, Rst_43, RN_44, Rld_44, Rst_44, RN_45, Rld_45, Rst_45, RG_46, RP_46, RG_47, RP_47, RG_48, RP_48, RG_49, RP_49, RN_50, Rld_50, Rst_50, RN_51, Rld_51, Rst_51, RN_52, Rld_52, Rst_52, RN_53, Rld_53, Rst_53, RN_54, Rld_54, Rst_54, RN_55, Rld_55, Rst_55, RG_56, RP_56, RG_57, RP_57, RN_58, Rld_58, Rst_58, RN_59, Rld_59, Rst_59, RN_60, Rld_60, Rst_60, RG_61, RP_61, RG_62, RP_62, RG_63, RP_63, RG_64, RP_64, RG_65, RP_65, RG_66, RP_66, RG_67, RP_67, RG_68, RP_68, RG_69, RP_69, RG_70, RP_70, RG_71, RP_71, RN_72, Rld_72, Rst_72, RN_73, Rld_73, Rst_73, RN_74, Rld_74, Rst_74, RN_75, Rld_75, Rst_75, RN_76, Rld_76, Rst_76, RN_77, Rld_77, Rst_77, RN_78, Rld_78, Rst_78, RN_79, Rld_79, Rst_79, RN_80, Rld_80, Rst_80, RN_81, Rld_81, Rst_81, RN_82, Rld_82, Rst_82, RN_83, Rld_83, Rst_83, RN_84, Rld_84, Rst_84, RN_85, Rld_85, Rst_85, RN_86, Rld_86, Rst_86, RG_87, RP_87, RG_88, RP_88, RG_89, RP_89, RG_90, RP_90, RG_91, RP_91, RG_92, RP_92, RG_93, RP_93, RN_94, Rld_94, Rst_94, RN_95, Rld_95, Rst_95, RG_96, RP_96, RN_97, Rld_97, Rst_97, RN_98, Rld_98, Rst_98, RN_99, Rld_99, Rst_99, RN_100, Rld_100, Rst_100, RG_101, RP_101, RN_102, Rld_102, Rst_102, RN_103, Rld_103, Rst_103, RN_104, Rld_104, Rst_104, RG_105, RP_105, q_fi_sfi, q_fl_sfi, q_fr_sfi, q_ai_sfi, q_al_sfi, q_ar_sfi, q_ln_sfi, q_fi_sfl, q_fl_sfl, q_fr_sfl, q_ai_sfl, q_al_sfl, q_ar_sfl, q_ln_sfl, q_fi_sfr, q_fl_sfr, q_fr_sfr, q_ai_sfr, q_al_sfr, q_ar_sfr, q_ln_sfr, q_fi_sai, q_fl_sai, q_fr_sai, q_ai_sai, q_al_sai, q_ar_sai, q_ln_sai, q_fi_sal, q_fl_sal, q_fr_sal, q_ai_sal, q_al_sal, q_ar_sal, q_ln_sal, q_fi_sar, q_fl_sar, q_fr_sar, q_ai_sar, q_al_sar, q_ar_sar, q_ln_sar, reduceIte, Nat.reduceEqDiff, oI, Option.bind_some, ix_n (show e < 2147483648 by omega), decide_eq_true (show e < 10 by omega), if_true, c32 (show e < 2147483648 by omega), if_pos h01, if_neg c]
end
