abbrev lieP (L U : Nat → Int32) (n : Nat) (A : Int) (k : Nat) : Prop := ∀ i, i < n → ¬ ((L k).toInt ≤ (L i).toInt ∧ (L i).toInt ≤ (U k).toInt ∧ (hv L U (L i).toInt n : Int) = A)
def st_lies (R : Gs) (k : Int32) : Int32 := if 0 ≤ k.toInt ∧ k.toInt < (fi R 87).toInt then 0 else 8
theorem r_lies (m : Nat) (ρ : Hs) (R : Gs) (hA : RAn R) (k : Int32) : QI m ρ R (st_lies R k) (b2i (lieP (ai R 80) (ai R 81) (fi R 87).toNatClampNeg (fi R 90).toInt k.toNatClampNeg)) R (fX12_lies_0 (eR m ρ R) m k) := by
  obtain ⟨n, h12, hn, hr⟩ := hA
  have en : (fi R 87).toInt = n := by rw [hn, n32 (by omega)]
  have e1 : (fi R 87 - 1).toInt = (n : Int) - 1 := by
    rw [sub32, en]; rfl
    rw [en]; show _ ≤ (n : Int) - 1 ∧ (n : Int) - 1 < _; omega
  unfold fX12_lies_0
  simp only [RP_1, RP_0, RG_87, q_fi_sfi, q_fl_sfi, q_fr_sfi, q_ai_sfi, q_al_sfi, q_ar_sfi, q_ln_sfi, q_fi_sfl, q_fl_sfl, q_fr_sfl, q_ai_sfl, q_al_sfl, q_ar_sfl, q_ln_sfl, q_fi_sfr, q_fl_sfr, q_fr_sfr, q_ai_sfr, q_al_sfr, q_ar_sfr, q_ln_sfr, q_fi_sai, q_fl_sai, q_fr_sai, q_ai_sai, q_al_sai, q_ar_sai, q_ln_sai, q_fi_sal, q_fl_sal, q_fr_sal, q_ai_sal, q_al_sal, q_ar_sal, q_ln_sal, q_fi_sar, q_fl_sar, q_fr_sar, q_ai_sar, q_al_sar, q_ar_sar, q_ln_sar, reduceIte, Nat.reduceEqDiff, RisC, r_refuse, Option.bind_some, r_isI, b2i_0, Int64.reduceToInt, up64, e1]
  rcases Decidable.em (¬ (0 ≤ k.toInt ∧ k.toInt ≤ (n : Int) - 1)) with hc1 | hc1
  · rw [if_pos hc1]; exact QI.no (by decide) (by unfold st_lies; rw [if_neg (by omega)]) (fr1 R)
  rw [if_neg hc1]
  have hst : st_lies R k = 0 := by unfold st_lies; rw [if_pos (by omega)]
  obtain ⟨kk, rfl, k1, k2⟩ := get32 k (by omega)
  have hk : kk < n := by omega
  rw [c32 k1, hn, c32 (by omega)]
  have hav : ∀ v, fX12_having_0 (eR m ρ (sfi (sfi R 1 0) 0 0)) m v = some (Int32.ofNat (hv (ai R 80) (ai R 81) v.toInt n)) := fun v => r_having (R := sfi (sfi R 1 0) 0 0) hn h12 v
  unfold fX12_lies_37
  refine lp_q n (fun j z => ∃ M : Nat, z = (eR m ρ (sfi (sfi R 1 0) 0 0), m, Int32.ofNat kk, Int32.ofNat M, Int32.ofNat j) ∧ M ≤ 12 ∧ (∀ i, i < j → (ai R 80 kk).toInt ≤ (ai R 80 i).toInt → (ai R 80 i).toInt ≤ (ai R 81 kk).toInt → hv (ai R 80) (ai R 81) (ai R 80 i).toInt n ≤ M) ∧ (M = 0 ∨ ∃ i, i < j ∧ (ai R 80 kk).toInt ≤ (ai R 80 i).toInt ∧ (ai R 80 i).toInt ≤ (ai R 81 kk).toInt ∧ hv (ai R 80) (ai R 81) (ai R 80 i).toInt n = M)) (QI m ρ R (st_lies R (Int32.ofNat kk)) (b2i (lieP (ai R 80) (ai R 81) n (fi R 90).toInt kk)) R) ?_ ?_ fu 0 _ (by omega) ⟨0, rfl, by omega, fun i hi => absurd hi (by omega), Or.inl rfl⟩ (by unfold fu; omega)
  · rintro K j _ hj ⟨M, rfl, hM, h1, h2⟩
    left
    have h0 := hv_le (ai R 80) (ai R 81) (ai R 80 j).toInt n
    simp only [fbX12_lies_37, RisC, RG_0, RP_0, RG_1, RP_1, RN_2, Rld_2, Rst_2, RN_3, Rld_3, Rst_3, RN_4, Rld_4, Rst_4, RG_5, RP_5, RG_6, RP_6, RN_7, Rld_7, Rst_7, RN_8, Rld_8, Rst_8, RN_9, Rld_9, Rst_9, RN_10, Rld_10, Rst_10, RG_11, RP_11, RG_12, RP_12, RN_13, Rld_13, Rst_13, RN_14, Rld_14, Rst_14, RN_15, Rld_15, Rst_15, RN_16, Rld_16, Rst_16, RG_17, RP_17, RG_18, RP_18, RG_19, RP_19, RG_20, RP_20, RG_21, RP_21, RG_22, RP_22, RG_23, RP_23, RG_24, RP_24, RG_25, RP_25, RG_26, RP_26, RG_27, RP_27, RG_28, RP_28, RG_29, RP_29, RG_30, RP_30, RG_31, RP_31, RG_32, RP_32, RN_33, Rld_33, Rst_33, RN_34, Rld_34, Rst_34, RN_35, Rld_35, Rst_35, RN_36, Rld_36, Rst_36, RN_37, Rld_37, Rst_37, RN_38, Rld_38, Rst_38, RN_39, Rld_39, Rst_39, RN_40, Rld_40, Rst_40, RN_41, Rld_41, Rst_41, RN_42, Rld_42, Rst_42, RN_43, Rld_43, Rst_43, RN_44, Rld_44, Rst_44, RN_45, Rld_45, Rst_45, RG_46, RP_46, RG_47, RP_47, RG_48, RP_48, RG_49, RP_49, RN_50, Rld_50, Rst_50, RN_51, Rld_51, Rst_51, RN_52, Rld_52, Rst_52, RN_53, Rld_53, Rst_53, RN_54, Rld_54, Rst_54, RN_55, Rld_55, Rst_55, RG_56, RP_56, RG_57, RP_57, RN_58, Rld_58, Rst_58, RN_59, Rld_59, Rst_59, RN_60, Rld_60, Rst_60, RG_61, RP_61, RG_62, RP_62, RG_63, RP_63, RG_64, RP_64, RG_65, RP_65, RG_66, RP_66, RG_67, RP_67, RG_68, RP_68, RG_69, RP_69, RG_70, RP_70, RG_71, RP_71, RN_72, Rld_72, Rst_72, RN_73, Rld_73, Rst_73, RN_74, Rld_74, Rst_74, RN_75, Rld_75, Rst_75, RN_76, Rld_76, Rst_76, RN_77, Rld_77, Rst_77, RN_78, Rld_78, Rst_78, RN_79, Rld_79, Rst_79, RN_80, Rld_80, Rst_80, RN_81, Rld_81, Rst_81, RN_82, Rld_82, Rst_82, RN_83, Rld_83, Rst_83, RN_84, Rld_84, Rst_84, RN_85, Rld_85, Rst_85, RN_86, Rld_86, Rst_86, RG_87, RP_87, RG_88, RP_88, RG_89, RP_89, RG_90, RP_90, RG_91, RP_91, RG_92, RP_92, RG_93, RP_93, RN_94, Rld_94, Rst_94, RN_95, Rld_95, Rst_95, RG_96, RP_96, RN_97, Rld_97, Rst_97, RN_98, Rld_98, Rst_98, RN_99, Rld_99, Rst_99, RN_100, Rld_100, Rst_100, RG_101, RP_101, RN_102, Rld_102, Rst_102, RN_103, Rld_103, Rst_103, RN_104, Rld_104, Rst_104, RG_105, RP_105, q_fi_sfi, q_fl_sfi, q_fr_sfi, q_ai_sfi, q_al_sfi, q_ar_sfi, q_ln_sfi, q_fi_sfl, q_fl_sfl, q_fr_sfl, q_ai_sfl, q_al_sfl, q_ar_sfl, q_ln_sfl, q_fi_sfr, q_fl_sfr, q_fr_sfr, q_ai_sfr, q_al_sfr, q_ar_sfr, q_ln_sfr, q_fi_sai, q_fl_sai, q_fr_sai, q_ai_sai, q_al_sai, q_ar_sai, q_ln_sai, q_fi_sal, q_fl_sal, q_fr_sal, q_ai_sal, q_al_sal, q_ar_sal, q_ln_sal, q_fi_sar, q_fl_sar, q_fr_sar, q_ai_sar, q_al_sar, q_ar_sar, q_ln_sar, reduceIte, Nat.reduceEqDiff, Option.bind_some, hn, hav, mx32, le_n (show n < 2147483648 by omega) (show j < 2147483648 by omega), if_neg (show ¬ n ≤ j by omega), ix_n (show j < 2147483648 by omega), ix_n k1, decide_eq_true (show j < 12 by omega), decide_eq_true (show kk < 12 by omega), if_true, c32 (show j < 2147483648 by omega), c32 k1, suc32, lt32, mx_n (show M < 2147483648 by omega) (show hv (ai R 80) (ai R 81) (ai R 80 j).toInt n < 2147483648 by omega)]
    have ex : ∀ i, i < j + 1 → i = j ∨ i < j := fun i hi => by omega
    by_cases c1 : (ai R 80 j).toInt < (ai R 80 kk).toInt
    · rw [if_pos c1]
      refine ⟨_, ⟨M, rfl, hM, fun i hi a b => ?_, ?_⟩, rfl⟩
      · rcases ex i hi with e | e
        · subst e; omega
        · exact h1 i e a b
      · rcases h2 with q | ⟨i, q1, q2⟩
        · exact Or.inl q
        · exact Or.inr ⟨i, by omega, q2⟩
    · rw [if_neg c1]
      by_cases c2 : (ai R 81 kk).toInt < (ai R 80 j).toInt
      · rw [if_pos c2]
        refine ⟨_, ⟨M, rfl, hM, fun i hi a b => ?_, ?_⟩, rfl⟩
        · rcases ex i hi with e | e
          · subst e; omega
          · exact h1 i e a b
        · rcases h2 with q | ⟨i, q1, q2⟩
          · exact Or.inl q
          · exact Or.inr ⟨i, by omega, q2⟩
      · rw [if_neg c2]
        refine ⟨_, ⟨max M (hv (ai R 80) (ai R 81) (ai R 80 j).toInt n), rfl, by omega, fun i hi a b => ?_, ?_⟩, rfl⟩
        · rcases ex i hi with e | e
          · subst e; omega
          · have := h1 i e a b; omega
        · by_cases d : M ≤ hv (ai R 80) (ai R 81) (ai R 80 j).toInt n
          · exact Or.inr ⟨j, by omega, by omega, by omega, by omega⟩
          · rcases h2 with q | ⟨i, q1, q2, q3, q4⟩
            · omega
            · exact Or.inr ⟨i, by omega, q2, q3, by omega⟩
  · rintro K _ ⟨M, rfl, hM, h1, h2⟩
    simp only [fbX12_lies_37, RisC, RG_0, RP_0, RG_1, RP_1, RN_2, Rld_2, Rst_2, RN_3, Rld_3, Rst_3, RN_4, Rld_4, Rst_4, RG_5, RP_5, RG_6, RP_6, RN_7, Rld_7, Rst_7, RN_8, Rld_8, Rst_8, RN_9, Rld_9, Rst_9, RN_10, Rld_10, Rst_10, RG_11, RP_11, RG_12, RP_12, RN_13, Rld_13, Rst_13, RN_14, Rld_14, Rst_14, RN_15, Rld_15, Rst_15, RN_16, Rld_16, Rst_16, RG_17, RP_17, RG_18, RP_18, RG_19, RP_19, RG_20, RP_20, RG_21, RP_21, RG_22, RP_22, RG_23, RP_23, RG_24, RP_24, RG_25, RP_25, RG_26, RP_26, RG_27, RP_27, RG_28, RP_28, RG_29, RP_29, RG_30, RP_30, RG_31, RP_31, RG_32, RP_32, RN_33, Rld_33, Rst_33, RN_34, Rld_34, Rst_34, RN_35, Rld_35, Rst_35, RN_36, Rld_36, Rst_36, RN_37, Rld_37, Rst_37, RN_38, Rld_38, Rst_38, RN_39, Rld_39, Rst_39, RN_40, Rld_40, Rst_40, RN_41, Rld_41, Rst_41, RN_42, Rld_42, Rst_42, RN_43, Rld_43, Rst_43, RN_44, Rld_44, Rst_44, RN_45, Rld_45, Rst_45, RG_46, RP_46, RG_47, RP_47, RG_48, RP_48, RG_49, RP_49, RN_50, Rld_50, Rst_50, RN_51, Rld_51, Rst_51, RN_52, Rld_52, Rst_52, RN_53, Rld_53, Rst_53, RN_54, Rld_54, Rst_54, RN_55, Rld_55, Rst_55, RG_56, RP_56, RG_57, RP_57, RN_58, Rld_58, Rst_58, RN_59, Rld_59, Rst_59, RN_60, Rld_60, Rst_60, RG_61, RP_61, RG_62, RP_62, RG_63, RP_63, RG_64, RP_64, RG_65, RP_65, RG_66, RP_66, RG_67, RP_67, RG_68, RP_68, RG_69, RP_69, RG_70, RP_70, RG_71, RP_71, RN_72, Rld_72, Rst_72, RN_73, Rld_73, Rst_73, RN_74, Rld_74, Rst_74, RN_75, Rld_75, Rst_75, RN_76, Rld_76, Rst_76, RN_77, Rld_77, Rst_77, RN_78, Rld_78, Rst_78, RN_79, Rld_79, Rst_79, RN_80, Rld_80, Rst_80, RN_81, Rld_81, Rst_81, RN_82, Rld_82, Rst_82, RN_83, Rld_83, Rst_83, RN_84, Rld_84, Rst_84, RN_85, Rld_85, Rst_85, RN_86, Rld_86, Rst_86, RG_87, RP_87, RG_88, RP_88, RG_89, RP_89, RG_90, RP_90, RG_91, RP_91, RG_92, RP_92, RG_93, RP_93, RN_94, Rld_94, Rst_94, RN_95, Rld_95, Rst_95, RG_96, RP_96, RN_97, Rld_97, Rst_97, RN_98, Rld_98, Rst_98, RN_99, Rld_99, Rst_99, RN_100, Rld_100, Rst_100, RG_101, RP_101, RN_102, Rld_102, Rst_102, RN_103, Rld_103, Rst_103, RN_104, Rld_104, Rst_104, RG_105, RP_105, q_fi_sfi, q_fl_sfi, q_fr_sfi, q_ai_sfi, q_al_sfi, q_ar_sfi, q_ln_sfi, q_fi_sfl, q_fl_sfl, q_fr_sfl, q_ai_sfl, q_al_sfl, q_ar_sfl, q_ln_sfl, q_fi_sfr, q_fl_sfr, q_fr_sfr, q_ai_sfr, q_al_sfr, q_ar_sfr, q_ln_sfr, q_fi_sai, q_fl_sai, q_fr_sai, q_ai_sai, q_al_sai, q_ar_sai, q_ln_sai, q_fi_sal, q_fl_sal, q_fr_sal, q_ai_sal, q_al_sal, q_ar_sal, q_ln_sal, q_fi_sar, q_fl_sar, q_fr_sar, q_ai_sar, q_al_sar, q_ar_sar, q_ln_sar, reduceIte, Nat.reduceEqDiff, Option.bind_some, hn, Int32.le_refl, if_true]
    simp only [le32, n32 (show M < 2147483648 by omega)]
    have hkk := hr kk hk
    have hp : 0 < hv (ai R 80) (ai R 81) (ai R 80 kk).toInt n := hv_self n kk hk (Int.le_refl _) (by omega)
    have hm := h1 kk hk (Int.le_refl _) (by omega)
    by_cases c : (fi R 90).toInt ≤ (M : Int)
    · rw [if_pos c]
      refine QI.ok (R := R) hst ?_ rfl (fr1 R)
      unfold b2i; rw [if_neg]
      intro q
      rcases h2 with e | ⟨i, i1, i2, i3, i4⟩
      · omega
      · have := (hr i i1).2.2.2
        exact q i i1 ⟨i2, i3, by omega⟩
    · rw [if_neg c]
      refine QI.ok (R := R) hst ?_ rfl (fr1 R)
      unfold b2i; rw [if_pos]
      rintro i i1 ⟨i2, i3, i4⟩
      have := h1 i i1 i2 i3
      omega
def AnO (a : Nat) (G : Gs) (L U : Nat → Int32) (n : Nat) (σ : Hs) : Prop := A0 a G σ ∧ n ≤ 12 ∧ (ln G 0 = n ∧ ln G 1 = n ∧ fi G 2 = Int32.ofNat n) ∧ ∀ k, k < n → al G 0 k = (L k).toInt64 ∧ al G 1 k = (U k).toInt64
section
variable {a : Nat} {G : Gs} {L U : Nat → Int32} {n : Nat} {σ : Hs}
theorem x_isInA (h : AnO a G L U n σ) {k : Nat} (hk : k < n) (v : Int64) : fX0_isIn_0 σ a (Int32.ofNat k) v = some (b2i ((L k).toInt ≤ v.toInt ∧ v.toInt ≤ (U k).toInt)) := by
  obtain ⟨h1, h2, ⟨h3, h4, h5⟩, h6⟩ := h
  unfold fX0_isIn_0
  simp only [z0_g0 h1, z0_g1 h1, z0_l0 h1, z0_l1 h1, h3, h4, Option.bind_some, ix_n (show k < 2147483648 by omega), decide_eq_true hk, if_true, c32 (show k < 2147483648 by omega), (h6 k hk).1, (h6 k hk).2, lt64, up64, bb_0, bb_1]
  unfold b2i
  (repeat' split) <;> first | rfl | omega
theorem x_manyWith (h : AnO a G L U n σ) (v : Int64) : fX0_manyWith_0 σ a v = some (Int32.ofNat (hv L U v.toInt n)) := by
  have h1 := h.1
  have h2 := h.2.1
  have h5 := h.2.2.1.2.2
  unfold fX0_manyWith_0 fX0_manyWith_5
  refine lp_q n (fun k z => z = (a, v, Int32.ofNat (hv L U v.toInt k), Int32.ofNat k)) (fun X => X = some (Int32.ofNat (hv L U v.toInt n))) ?_ ?_ fu 0 _ (by omega) rfl (by unfold fu; omega)
  · rintro K k _ hk rfl
    left
    simp only [fbX0_manyWith_5, z0_g2 h1, z0_C h1, h5, x_isInA h hk, Option.bind_some, le_n (show n < 2147483648 by omega) (show k < 2147483648 by omega), if_neg (show ¬ n ≤ k by omega), suc32, b2i_0]
    refine ⟨_, rfl, ?_⟩
    show _ = K (a, v, Int32.ofNat (hv L U v.toInt k + if (L k).toInt ≤ v.toInt ∧ v.toInt ≤ (U k).toInt then 1 else 0), Int32.ofNat (k + 1))
    by_cases c : (L k).toInt ≤ v.toInt ∧ v.toInt ≤ (U k).toInt
    · rw [if_neg (fun q => q c), if_pos c]
    · rw [if_pos c, if_neg c]; rfl
  · rintro K _ rfl
    simp only [fbX0_manyWith_5, z0_g2 h1, h5, Option.bind_some, Int32.le_refl, if_true]
theorem x_isLie (h : AnO a G L U n σ) {k : Nat} (hk : k < n) : fX0_isLie_0 σ a (Int32.ofNat k) = some (b2i (lieP L U n (fi G 3).toInt k)) := by
  have h1 := h.1
  have h2 := h.2.1
  have h5 := h.2.2.1.2.2
  unfold fX0_isLie_0 fX0_isLie_2
  refine lp_q n (fun i z => z = (a, Int32.ofNat k, Int32.ofNat i) ∧ ∀ j, j < i → ¬ ((L k).toInt ≤ (L j).toInt ∧ (L j).toInt ≤ (U k).toInt ∧ (hv L U (L j).toInt n : Int) = (fi G 3).toInt)) (fun X => X = some (b2i (lieP L U n (fi G 3).toInt k))) ?_ ?_ fu 0 _ (by omega) ⟨rfl, fun j hj => absurd hj (by omega)⟩ (by unfold fu; omega)
  · rintro K i _ hi ⟨rfl, hj⟩
    have h0 := hv_le L U (L i).toInt n
    simp only [fbX0_isLie_2, z0_g0 h1, z0_l0 h1, z0_g2 h1, z0_g3 h1, z0_C h1, h5, h.2.2.1.1, (h.2.2.2 i hi).1, x_isInA h hk, x_manyWith h, Option.bind_some, ix_n (show i < 2147483648 by omega), decide_eq_true hi, if_true, c32 (show i < 2147483648 by omega), le_n (show n < 2147483648 by omega) (show i < 2147483648 by omega), if_neg (show ¬ n ≤ i by omega), suc32, b2i_0, up64, bb_0]
    have he : (Int32.ofNat (hv L U (L i).toInt n) = fi G 3) = ((hv L U (L i).toInt n : Int) = (fi G 3).toInt) := by
      rw [eq32, n32 (by omega)]
    simp only [he]
    have stp : ¬ ((L k).toInt ≤ (L i).toInt ∧ (L i).toInt ≤ (U k).toInt ∧ (hv L U (L i).toInt n : Int) = (fi G 3).toInt) → ∀ j, j < i + 1 → ¬ ((L k).toInt ≤ (L j).toInt ∧ (L j).toInt ≤ (U k).toInt ∧ (hv L U (L j).toInt n : Int) = (fi G 3).toInt) := by
      intro q j hj2
      by_cases e : j = i
      · subst e; exact q
      · exact hj j (by omega)
    by_cases c : (L k).toInt ≤ (L i).toInt ∧ (L i).toInt ≤ (U k).toInt
    · rw [if_neg (fun q => q c)]
      by_cases d : (hv L U (L i).toInt n : Int) = (fi G 3).toInt
      · right
        rw [if_pos d]
        refine congrArg some ?_
        unfold b2i; rw [if_neg]
        exact fun q => q i hi ⟨c.1, c.2, d⟩
      · left
        rw [if_neg d]
        exact ⟨_, ⟨rfl, stp (fun q => d q.2.2)⟩, rfl⟩
    · left
      rw [if_pos c]
      exact ⟨_, ⟨rfl, stp (fun q => c ⟨q.1, q.2.1⟩)⟩, rfl⟩
  · rintro K _ ⟨rfl, hj⟩
    simp only [fbX0_isLie_2, z0_g2 h1, h5, Option.bind_some, Int32.le_refl, if_true, bb_1]
    refine congrArg some ?_
    unfold b2i; rw [if_pos (show lieP L U n (fi G 3).toInt k from hj)]
end
section
variable {P : Par} {x : Nat} {own : Nat → Nat} {σ : Hs} {R : Gs} {st : Int32}
theorem k_lies (hP : P.ok) (hW : RW R) (h : XW P x own σ R st) (k : Int32) : KI P x σ (rf (st_lies R k) (b2i (lieP (ai R 80) (ai R 81) (fi R 87).toNatClampNeg (fi R 90).toInt k.toNatClampNeg))) (st_lies R k) R (fX11_lies_0 σ x k) := by
  obtain ⟨G, T, eC, eV, eN, eT, eS, h⟩ := h
  have hA := h.2.2.1.at
  unfold fX11_lies_0
  simp only [z11_g15 hA, z11_p0 hA, Option.bind_some, lt32, i0]
  rcases h.2.2.2.2.2.2.2.2.2.2.2.2.1 with ⟨q1, q2⟩ | ⟨a, A, n, q1, q2, q3, q4, q5, q6, q7, q8, q9, q10⟩
  · rw [if_pos q1, show st_lies R k = 8 by unfold st_lies; rw [q2, if_neg]; show ¬ (_ ∧ k.toInt < 0); omega]
    exact KI.no hP h hW _ _
  rw [q1, if_neg (show ¬ (some a = none) by simp)]
  have en : (fi R 87).toInt = n := by rw [q4, n32 (by omega)]
  by_cases c1 : k.toInt < 0
  · rw [if_pos c1, show st_lies R k = 8 by unfold st_lies; rw [if_neg (by omega)]]
    exact KI.no hP h hW _ _
  rw [if_neg c1]
  simp only [Option.bind_some, z0_g2 q2, q6.2.2, n32 (show n < 2147483648 by omega)]
  by_cases c2 : k.toInt < (n : Int)
  · have e0 : st_lies R k = 0 := by unfold st_lies; rw [if_pos (by omega)]
    rw [if_pos c2, e0]
    obtain ⟨kk, rfl, k1, k2⟩ := get32 k (by omega)
    have hA2 : A11 x (sfi G 0 0) (e11 x σ (sfi G 0 0)) := A11_self _ _
    have hs := h.st hP hW 0
    rcases hs.2.2.2.2.2.2.2.2.2.2.2.2.1 with ⟨p1, p2⟩ | ⟨b, B, n', p1, p2, p3, p4, p5, p6, p7, p8, p9, p10⟩
    · rw [p2] at en; exact absurd en (by show ¬ (0 : Int) = n; omega)
    have e' : n' = n := by
      have h3 : (fi R 87).toInt = n' := by rw [p4, n32 (by omega)]
      omega
    subst e'
    have hAn : AnO b B (ai R 80) (ai R 81) n' (e11 x σ (sfi G 0 0)) := ⟨p2, by omega, p6, p10⟩
    have fb : fr G 15 = some b := p1
    simp only [z11_g15 hA2, q_fi_sfi, q_fl_sfi, q_fr_sfi, q_ai_sfi, q_al_sfi, q_ar_sfi, q_ln_sfi, q_fi_sfl, q_fl_sfl, q_fr_sfl, q_ai_sfl, q_al_sfl, q_ar_sfl, q_ln_sfl, q_fi_sfr, q_fl_sfr, q_fr_sfr, q_ai_sfr, q_al_sfr, q_ar_sfr, q_ln_sfr, q_fi_sai, q_fl_sai, q_fr_sai, q_ai_sai, q_al_sai, q_ar_sai, q_ln_sai, q_fi_sal, q_fl_sal, q_fr_sal, q_ai_sal, q_al_sal, q_ar_sal, q_ln_sal, q_fi_sar, q_fl_sar, q_fr_sar, q_ai_sar, q_al_sar, q_ar_sar, q_ln_sar, reduceIte, Nat.reduceEqDiff, fb, Option.bind_some, z0_C p2, x_isLie hAn (show kk < n' by omega), b2i_0, p7, reduceIte]
    rw [show rf 0 _ = _ from if_pos rfl, q4, c32 (show n' < 2147483648 by omega), c32 k1]
    by_cases d : lieP (ai R 80) (ai R 81) n' (fi R 90).toInt kk
    · rw [if_neg (fun q => q d), show b2i (lieP (ai R 80) (ai R 81) n' (fi R 90).toInt kk) = 1 from if_pos d]; exact KI.no hP h hW _ _
    · rw [if_pos d, show b2i (lieP (ai R 80) (ai R 81) n' (fi R 90).toInt kk) = 0 from if_neg d]; exact KI.no hP h hW _ _
  · rw [if_neg c2, show st_lies R k = 8 by unfold st_lies; rw [if_neg (by omega)]]
    exact KI.no hP h hW _ _
theorem both_lies (hP : P.ok) (hI : Inv P x σ) (k : Int32) : ∃ v σ1 σ2, fX11_lies_0 σ x k = some (v, σ1) ∧ fX12_lies_0 σ1 (x + 20) k = some (v, σ2) ∧ Inv P x σ2 := by
  obtain ⟨own, R, hE, hX, hW, h6⟩ := hI
  obtain ⟨σ1, σ2, h1, h2, h3⟩ := arm_I (Y := fun s => fX12_lies_0 s (x + 20) k) hP h6 hE (by rw [ite_self_R]; exact k_lies hP hW hX k) (fun ρ => r_lies (x + 20) ρ R hW.2.2.2.2.2.2.2.2.2.2.2.1 k) (by rw [ite_self_R]; exact hW)
  exact ⟨_, σ1, σ2, h1, h2, h3⟩
end
