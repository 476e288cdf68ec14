theorem lp_q {S R : Type} {F : (S → Option R) → S → Option R} (n : Nat) (I : Nat → S → Prop) (Q : Option R → Prop)
    (hs : ∀ K k s, k < n → I k s → (∃ s', I (k + 1) s' ∧ F K s = K s') ∨ Q (F K s)) (he : ∀ K s, I n s → Q (F K s)) :
    ∀ N a s, a ≤ n → I a s → n < N + a → Q (lp F N s) := by
  intro N
  induction N with
  | zero => intro a s h1 _ h2; omega
  | succ N ih =>
    intro a s h1 h2 h3
    show Q (F (lp F N) s)
    rcases Nat.lt_or_ge a n with h | h
    · rcases hs (lp F N) a s h h2 with ⟨s', g1, g2⟩ | g
      · rw [g2]; exact ih (a + 1) s' h g1 (by omega)
      · exact g
    · have : a = n := by omega
      subst this
      exact he _ s h2
theorem bb_0 : bb 0 = some 0 := rfl
theorem bb_1 : bb 1 = some 1 := rfl
def b2i (p : Prop) [Decidable p] : Int32 := if p then 1 else 0
theorem bb_b (p : Prop) [Decidable p] : bb (b2i p) = some (b2i p) := by unfold b2i; split <;> rfl
theorem b2i_0 (p : Prop) [Decidable p] : (b2i p = 0) = ¬ p := by unfold b2i; split <;> simp_all
theorem r_isIn (σ : Hs) (v a b : Int64) : fX12_isIn_0 σ v a b = some (b2i (a ≤ v ∧ v ≤ b)) := by
  unfold fX12_isIn_0 b2i
  by_cases h1 : v < a
  · have : ¬ a ≤ v := by rw [lt64] at h1; rw [le64]; omega
    rw [if_pos h1, if_neg (by intro h; exact this h.1)]; rfl
  · have ha : a ≤ v := by rw [lt64] at h1; rw [le64]; omega
    rw [if_neg h1]
    by_cases h2 : b < v
    · have : ¬ v ≤ b := by rw [lt64] at h2; rw [le64]; omega
      rw [if_pos h2, if_neg (by intro h; exact this h.2)]; rfl
    · have hb : v ≤ b := by rw [lt64] at h2; rw [le64]; omega
      rw [if_neg h2, if_pos ⟨ha, hb⟩]; rfl
theorem r_isDay (σ : Hs) (v : Int32) : fX12_isDay_0 σ v = some (b2i (0 ≤ v.toInt ∧ v.toInt ≤ 9999)) := by
  unfold fX12_isDay_0
  rw [r_isIn, Option.bind_some, bb_b]
  simp only [le64, up64]; rfl
theorem r_isCount (σ : Hs) (v : Int32) : fX12_isCount_0 σ v = some (b2i (0 ≤ v.toInt ∧ v.toInt ≤ 900000000)) := by
  unfold fX12_isCount_0
  rw [r_isIn, Option.bind_some, bb_b]
  simp only [le64, up64]; rfl
theorem r_takeTrue {m : Nat} {ρ : Hs} {R : Gs} {n : Nat} (hn : fi R 5 = Int32.ofNat n) (h20 : n ≤ 20) :
    ∃ R', fX12_takeTrue_0 (eR m ρ R) m = some (eR m ρ R') ∧ Fr [6, 9, 10] R R' ∧ fi R' 6 = Int32.ofNat n ∧ ∀ k, k < n → ai R' 9 k = ai R 7 k ∧ ai R' 10 k = ai R 8 k := by
  unfold fX12_takeTrue_0 fX12_takeTrue_10
  simp only [RisC, RG_0, RP_0, RG_1, RP_1, RN_2, Rld_2, Rst_2, RN_3, Rld_3, Rst_3, RN_4, Rld_4, Rst_4, RG_5, RP_5, RG_6, RP_6, RN_7, Rld_7, Rst_7, RN_8, Rld_8, Rst_8, RN_9, Rld_9, Rst_9, RN_10, Rld_10, Rst_10, RG_11, RP_11, RG_12, RP_12, RN_13, Rld_13, Rst_13, RN_14, Rld_14, Rst_14, RN_15, Rld_15, Rst_15, RN_16, Rld_16, Rst_16, RG_17, RP_17, RG_18, RP_18, RG_19, RP_19, RG_20, RP_20, RG_21, RP_21, RG_22, RP_22, RG_23, RP_23, RG_24, RP_24, RG_25, RP_25, RG_26, RP_26, RG_27, RP_27, RG_28, RP_28, RG_29, RP_29, RG_30, RP_30, RG_31, RP_31, RG_32, RP_32, RN_33, Rld_33, Rst_33, RN_34, Rld_34, Rst_34, RN_35, Rld_35, Rst_35, RN_36, Rld_36, Rst_36, RN_37, Rld_37, Rst_37, RN_38, Rld_38, Rst_38, RN_39, Rld_39, Rst_39, RN_40, Rld_40, Rst_40, RN_41, Rld_41, Rst_41, RN_42, Rld_42, Rst_42, RN_43, Rld_43, Rst_43, RN_44, Rld_44, Rst_44, RN_45, Rld_45, Rst_45, RG_46, RP_46, RG_47, RP_47, RG_48, RP_48, RG_49, RP_49, RN_50, Rld_50, Rst_50, RN_51, Rld_51, Rst_51, RN_52, Rld_52, Rst_52, RN_53, Rld_53, Rst_53, RN_54, Rld_54, Rst_54, RN_55, Rld_55, Rst_55, RG_56, RP_56, RG_57, RP_57, RN_58, Rld_58, Rst_58, RN_59, Rld_59, Rst_59, RN_60, Rld_60, Rst_60, RG_61, RP_61, RG_62, RP_62, RG_63, RP_63, RG_64, RP_64, RG_65, RP_65, RG_66, RP_66, RG_67, RP_67, RG_68, RP_68, RG_69, RP_69, RG_70, RP_70, RG_71, RP_71, RN_72, Rld_72, Rst_72, RN_73, Rld_73, Rst_73, RN_74, Rld_74, Rst_74, RN_75, Rld_75, Rst_75, RN_76, Rld_76, Rst_76, RN_77, Rld_77, Rst_77, RN_78, Rld_78, Rst_78, RN_79, Rld_79, Rst_79, RN_80, Rld_80, Rst_80, RN_81, Rld_81, Rst_81, RN_82, Rld_82, Rst_82, RN_83, Rld_83, Rst_83, RN_84, Rld_84, Rst_84, RN_85, Rld_85, Rst_85, RN_86, Rld_86, Rst_86, RG_87, RP_87, RG_88, RP_88, RG_89, RP_89, RG_90, RP_90, RG_91, RP_91, RG_92, RP_92, RG_93, RP_93, RN_94, Rld_94, Rst_94, RN_95, Rld_95, Rst_95, RG_96, RP_96, RN_97, Rld_97, Rst_97, RN_98, Rld_98, Rst_98, RN_99, Rld_99, Rst_99, RN_100, Rld_100, Rst_100, RG_101, RP_101, RN_102, Rld_102, Rst_102, RN_103, Rld_103, Rst_103, RN_104, Rld_104, Rst_104, RG_105, RP_105, Option.bind_some]
  refine lp_q n (fun k z => ∃ R', z = (eR m ρ R', m, Int32.ofNat k) ∧ Fr [6, 9, 10] R R' ∧ fi R' 6 = Int32.ofNat n ∧ ∀ i, i < k → ai R' 9 i = ai R 7 i ∧ ai R' 10 i = ai R 8 i) (fun X => ∃ R', X = some (eR m ρ R') ∧ Fr [6, 9, 10] R R' ∧ fi R' 6 = Int32.ofNat n ∧ ∀ k, k < n → ai R' 9 k = ai R 7 k ∧ ai R' 10 k = ai R 8 k) ?_ ?_ fu 0 _ (by omega) ⟨sfi R 6 (fi R 5), rfl, (Fr.refl _ R).sfi (by decide) _, hn, fun i hi => by omega⟩ (by unfold fu; omega)
  · rintro K k _ hk ⟨R', rfl, hF, h6, hA⟩
    refine Or.inl ?_
    have h5 : fi R' 5 = Int32.ofNat n := (hF.i 5 (by decide)).trans hn
    simp only [fbX12_takeTrue_10, RisC, RG_0, RP_0, RG_1, RP_1, RN_2, Rld_2, Rst_2, RN_3, Rld_3, Rst_3, RN_4, Rld_4, Rst_4, RG_5, RP_5, RG_6, RP_6, RN_7, Rld_7, Rst_7, RN_8, Rld_8, Rst_8, RN_9, Rld_9, Rst_9, RN_10, Rld_10, Rst_10, RG_11, RP_11, RG_12, RP_12, RN_13, Rld_13, Rst_13, RN_14, Rld_14, Rst_14, RN_15, Rld_15, Rst_15, RN_16, Rld_16, Rst_16, RG_17, RP_17, RG_18, RP_18, RG_19, RP_19, RG_20, RP_20, RG_21, RP_21, RG_22, RP_22, RG_23, RP_23, RG_24, RP_24, RG_25, RP_25, RG_26, RP_26, RG_27, RP_27, RG_28, RP_28, RG_29, RP_29, RG_30, RP_30, RG_31, RP_31, RG_32, RP_32, RN_33, Rld_33, Rst_33, RN_34, Rld_34, Rst_34, RN_35, Rld_35, Rst_35, RN_36, Rld_36, Rst_36, RN_37, Rld_37, Rst_37, RN_38, Rld_38, Rst_38, RN_39, Rld_39, Rst_39, RN_40, Rld_40, Rst_40, RN_41, Rld_41, Rst_41, RN_42, Rld_42, Rst_42, RN_43, Rld_43, Rst_43, RN_44, Rld_44, Rst_44, RN_45, Rld_45, Rst_45, RG_46, RP_46, RG_47, RP_47, RG_48, RP_48, RG_49, RP_49, RN_50, Rld_50, Rst_50, RN_51, Rld_51, Rst_51, RN_52, Rld_52, Rst_52, RN_53, Rld_53, Rst_53, RN_54, Rld_54, Rst_54, RN_55, Rld_55, Rst_55, RG_56, RP_56, RG_57, RP_57, RN_58, Rld_58, Rst_58, RN_59, Rld_59, Rst_59, RN_60, Rld_60, Rst_60, RG_61, RP_61, RG_62, RP_62, RG_63, RP_63, RG_64, RP_64, RG_65, RP_65, RG_66, RP_66, RG_67, RP_67, RG_68, RP_68, RG_69, RP_69, RG_70, RP_70, RG_71, RP_71, RN_72, Rld_72, Rst_72, RN_73, Rld_73, Rst_73, RN_74, Rld_74, Rst_74, RN_75, Rld_75, Rst_75, RN_76, Rld_76, Rst_76, RN_77, Rld_77, Rst_77, RN_78, Rld_78, Rst_78, RN_79, Rld_79, Rst_79, RN_80, Rld_80, Rst_80, RN_81, Rld_81, Rst_81, RN_82, Rld_82, Rst_82, RN_83, Rld_83, Rst_83, RN_84, Rld_84, Rst_84, RN_85, Rld_85, Rst_85, RN_86, Rld_86, Rst_86, RG_87, RP_87, RG_88, RP_88, RG_89, RP_89, RG_90, RP_90, RG_91, RP_91, RG_92, RP_92, RG_93, RP_93, RN_94, Rld_94, Rst_94, RN_95, Rld_95, Rst_95, RG_96, RP_96, RN_97, Rld_97, Rst_97, RN_98, Rld_98, Rst_98, RN_99, Rld_99, Rst_99, RN_100, Rld_100, Rst_100, RG_101, RP_101, RN_102, Rld_102, Rst_102, RN_103, Rld_103, Rst_103, RN_104, Rld_104, Rst_104, RG_105, RP_105, q_fi_sfi, q_fl_sfi, q_fr_sfi, q_ai_sfi, q_al_sfi, q_ar_sfi, q_ln_sfi, q_fi_sfl, q_fl_sfl, q_fr_sfl, q_ai_sfl, q_al_sfl, q_ar_sfl, q_ln_sfl, q_fi_sfr, q_fl_sfr, q_fr_sfr, q_ai_sfr, q_al_sfr, q_ar_sfr, q_ln_sfr, q_fi_sai, q_fl_sai, q_fr_sai, q_ai_sai, q_al_sai, q_ar_sai, q_ln_sai, q_fi_sal, q_fl_sal, q_fr_sal, q_ai_sal, q_al_sal, q_ar_sal, q_ln_sal, q_fi_sar, q_fl_sar, q_fr_sar, q_ai_sar, q_al_sar, q_ar_sar, q_ln_sar, reduceIte, Nat.reduceEqDiff, Option.bind_some, h5, le_n (show n < 2147483648 by omega) (show k < 2147483648 by omega), if_neg (show ¬ n ≤ k by omega), ix_n (show k < 2147483648 by omega), decide_eq_true (show k < 60 by omega), decide_eq_true (show k < 20 by omega), if_true, c32 (show k < 2147483648 by omega), suc32]
    refine ⟨_, ⟨_, rfl, (hF.sai (by decide) _).sai (by decide) _, h6, ?_⟩, rfl⟩
    have e7 := hF.ai 7 (by decide)
    have e8 := hF.ai 8 (by decide)
    intro i hi
    simp only [q_fi_sfi, q_fl_sfi, q_fr_sfi, q_ai_sfi, q_al_sfi, q_ar_sfi, q_ln_sfi, q_fi_sfl, q_fl_sfl, q_fr_sfl, q_ai_sfl, q_al_sfl, q_ar_sfl, q_ln_sfl, q_fi_sfr, q_fl_sfr, q_fr_sfr, q_ai_sfr, q_al_sfr, q_ar_sfr, q_ln_sfr, q_fi_sai, q_fl_sai, q_fr_sai, q_ai_sai, q_al_sai, q_ar_sai, q_ln_sai, q_fi_sal, q_fl_sal, q_fr_sal, q_ai_sal, q_al_sal, q_ar_sal, q_ln_sal, q_fi_sar, q_fl_sar, q_fr_sar, q_ai_sar, q_al_sar, q_ar_sar, q_ln_sar, reduceIte, Nat.reduceEqDiff]
    by_cases hik : i = k
    · subst hik
      simp [up_same, e7, e8]
    · have := hA i (by omega)
      simp [up_ne _ _ _ _ hik, this]
  · rintro K _ ⟨R', rfl, hF, h6, hA⟩
    have h5 : fi R' 5 = Int32.ofNat n := (hF.i 5 (by decide)).trans hn
    simp only [fbX12_takeTrue_10, RisC, RG_0, RP_0, RG_1, RP_1, RN_2, Rld_2, Rst_2, RN_3, Rld_3, Rst_3, RN_4, Rld_4, Rst_4, RG_5, RP_5, RG_6, RP_6, RN_7, Rld_7, Rst_7, RN_8, Rld_8, Rst_8, RN_9, Rld_9, Rst_9, RN_10, Rld_10, Rst_10, RG_11, RP_11, RG_12, RP_12, RN_13, Rld_13, Rst_13, RN_14, Rld_14, Rst_14, RN_15, Rld_15, Rst_15, RN_16, Rld_16, Rst_16, RG_17, RP_17, RG_18, RP_18, RG_19, RP_19, RG_20, RP_20, RG_21, RP_21, RG_22, RP_22, RG_23, RP_23, RG_24, RP_24, RG_25, RP_25, RG_26, RP_26, RG_27, RP_27, RG_28, RP_28, RG_29, RP_29, RG_30, RP_30, RG_31, RP_31, RG_32, RP_32, RN_33, Rld_33, Rst_33, RN_34, Rld_34, Rst_34, RN_35, Rld_35, Rst_35, RN_36, Rld_36, Rst_36, RN_37, Rld_37, Rst_37, RN_38, Rld_38, Rst_38, RN_39, Rld_39, Rst_39, RN_40, Rld_40, Rst_40, RN_41, Rld_41, Rst_41, RN_42, Rld_42, Rst_42, RN_43, Rld_43, Rst_43, RN_44, Rld_44, Rst_44, RN_45, Rld_45, Rst_45, RG_46, RP_46, RG_47, RP_47, RG_48, RP_48, RG_49, RP_49, RN_50, Rld_50, Rst_50, RN_51, Rld_51, Rst_51, RN_52, Rld_52, Rst_52, RN_53, Rld_53, Rst_53, RN_54, Rld_54, Rst_54, RN_55, Rld_55, Rst_55, RG_56, RP_56, RG_57, RP_57, RN_58, Rld_58, Rst_58, RN_59, Rld_59, Rst_59, RN_60, Rld_60, Rst_60, RG_61, RP_61, RG_62, RP_62, RG_63, RP_63, RG_64, RP_64, RG_65, RP_65, RG_66, RP_66, RG_67, RP_67, RG_68, RP_68, RG_69, RP_69, RG_70, RP_70, RG_71, RP_71, RN_72, Rld_72, Rst_72, RN_73, Rld_73, Rst_73, RN_74, Rld_74, Rst_74, RN_75, Rld_75, Rst_75, RN_76, Rld_76, Rst_76, RN_77, Rld_77, Rst_77, RN_78, Rld_78, Rst_78, RN_79, Rld_79, Rst_79, RN_80, Rld_80, Rst_80, RN_81, Rld_81, Rst_81, RN_82, Rld_82, Rst_82, RN_83, Rld_83, Rst_83, RN_84, Rld_84, Rst_84, RN_85, Rld_85, Rst_85, RN_86, Rld_86, Rst_86, RG_87, RP_87, RG_88, RP_88, RG_89, RP_89, RG_90, RP_90, RG_91, RP_91, RG_92, RP_92, RG_93, RP_93, RN_94, Rld_94, Rst_94, RN_95, Rld_95, Rst_95, RG_96, RP_96, RN_97, Rld_97, Rst_97, RN_98, Rld_98, Rst_98, RN_99, Rld_99, Rst_99, RN_100, Rld_100, Rst_100, RG_101, RP_101, RN_102, Rld_102, Rst_102, RN_103, Rld_103, Rst_103, RN_104, Rld_104, Rst_104, RG_105, RP_105, Option.bind_some, h5, Int32.le_refl, if_true]
    exact ⟨R', rfl, hF, h6, hA⟩
def Tok (n : Nat) (f g : Nat → Int32) : Prop := n ≤ 60 ∧ (∀ i, i < n → (g i).toInt = 1 ∨ (g i).toInt = -1) ∧ ∀ i j, i < n → j < n → f i = f j → i = j
theorem kd_no {n : Nat} {f g : Nat → Int32} {d : Int32} (h : ∀ i, i < n → f i ≠ d) : kd (lst n f g) d.toInt = 0 := by
  induction n with
  | zero => rfl
  | succ n ih =>
    rw [lst_succ, kd_app, kd_one, ih (fun i hi => h i (by omega)), if_neg (fun e => h n (by omega) (eq32.mpr e))]; rfl
theorem kd_at {n : Nat} {f g : Nat → Int32} {d : Int32} {k : Nat} (hk : k < n) (hi : ∀ i j, i < n → j < n → f i = f j → i = j) (hd : f k = d) : kd (lst n f g) d.toInt = (g k).toInt := by
  induction n with
  | zero => omega
  | succ n ih =>
    rw [lst_succ, kd_app, kd_one]
    by_cases hkn : k = n
    · subst hkn
      rw [kd_no (fun i h1 e => by have := hi i k (by omega) (by omega) (e.trans hd.symm); omega), hd, if_pos rfl]; omega
    · rw [ih (by omega) (fun i j h1 h2 => hi i j (by omega) (by omega)), if_neg (fun e => by have := hi n k (by omega) (by omega) ((eq32.mpr e).trans hd.symm); omega)]; omega
theorem kd_1 {n : Nat} {f g : Nat → Int32} (h : Tok n f g) (d : Int) : -1 ≤ kd (lst n f g) d ∧ kd (lst n f g) d ≤ 1 := by
  by_cases hd : -2147483648 ≤ d ∧ d < 2147483648
  · have e : d = (Int32.ofInt d).toInt := by rw [Int32.toInt_ofInt_of_le (by omega) (by omega)]
    by_cases hx : ∃ k, k < n ∧ f k = Int32.ofInt d
    · obtain ⟨k, h1, h2⟩ := hx
      rw [e, kd_at h1 h.2.2 h2]; have := h.2.1 k h1; omega
    · rw [e, kd_no (fun i h1 h2 => hx ⟨i, h1, h2⟩)]; omega
  · have : ∀ n, kd (lst n f g) d = 0 := by
      intro n
      induction n with
      | zero => rfl
      | succ n ih => rw [lst_succ, kd_app, kd_one, ih, if_neg (by have := r32 (f n); omega)]; rfl
    rw [this]; omega
theorem bs_1 {n : Nat} {f g : Nat → Int32} (h : Tok n f g) (d : Int) : -60 ≤ bs (lst n f g) d ∧ bs (lst n f g) d ≤ 60 := by
  have : ∀ j, j ≤ n → -(j : Int) ≤ bs (lst j f g) d ∧ bs (lst j f g) d ≤ j := by
    intro j
    induction j with
    | zero => intro _; exact ⟨Int.le_refl _, Int.le_refl _⟩
    | succ j ih =>
      intro hj
      have h1 := ih (by omega)
      have h2 := h.2.1 j (by omega)
      rw [lst_succ, bs_app, bs_one]
      split <;> omega
  have h1 := this n (Nat.le_refl _)
  have := h.1
  omega
theorem r_trueKind {m : Nat} {ρ : Hs} {R : Gs} {n : Nat} {d : Int32} (hn : fi R 5 = Int32.ofNat n) (h20 : n ≤ 20) (hi : ∀ i j, i < n → j < n → ai R 7 i = ai R 7 j → i = j) :
    ∃ r, fX12_trueKind_0 (eR m ρ R) m d = some r ∧ r.toInt = kd (lst n (ai R 7) (ai R 8)) d.toInt := by
  unfold fX12_trueKind_0 fX12_trueKind_2
  refine lp_q n (fun k z => z = (m, d, Int32.ofNat k) ∧ ∀ i, i < k → ai R 7 i ≠ d) (fun X => ∃ r : Int32, X = some r ∧ r.toInt = kd (lst n (ai R 7) (ai R 8)) d.toInt) ?_ ?_ fu 0 _ (by omega) ⟨rfl, fun i hi => by omega⟩ (by unfold fu; omega)
  · rintro K k _ hk ⟨rfl, hA⟩
    simp only [fbX12_trueKind_2, RisC, RG_0, RP_0, RG_1, RP_1, RN_2, Rld_2, Rst_2, RN_3, Rld_3, Rst_3, RN_4, Rld_4, Rst_4, RG_5, RP_5, RG_6, RP_6, RN_7, Rld_7, Rst_7, RN_8, Rld_8, Rst_8, RN_9, Rld_9, Rst_9, RN_10, Rld_10, Rst_10, RG_11, RP_11, RG_12, RP_12, RN_13, Rld_13, Rst_13, RN_14, Rld_14, Rst_14, RN_15, Rld_15, Rst_15, RN_16, Rld_16, Rst_16, RG_17, RP_17, RG_18, RP_18, RG_19, RP_19, RG_20, RP_20, RG_21, RP_21, RG_22, RP_22, RG_23, RP_23, RG_24, RP_24, RG_25, RP_25, RG_26, RP_26, RG_27, RP_27, RG_28, RP_28, RG_29, RP_29, RG_30, RP_30, RG_31, RP_31, RG_32, RP_32, RN_33, Rld_33, Rst_33, RN_34, Rld_34, Rst_34, RN_35, Rld_35, Rst_35, RN_36, Rld_36, Rst_36, RN_37, Rld_37, Rst_37, RN_38, Rld_38, Rst_38, RN_39, Rld_39, Rst_39, RN_40, Rld_40, Rst_40, RN_41, Rld_41, Rst_41, RN_42, Rld_42, Rst_42, RN_43, Rld_43, Rst_43, RN_44, Rld_44, Rst_44, RN_45, Rld_45, Rst_45, RG_46, RP_46, RG_47, RP_47, RG_48, RP_48, RG_49, RP_49, RN_50, Rld_50, Rst_50, RN_51, Rld_51, Rst_51, RN_52, Rld_52, Rst_52, RN_53, Rld_53, Rst_53, RN_54, Rld_54, Rst_54, RN_55, Rld_55, Rst_55, RG_56, RP_56, RG_57, RP_57, RN_58, Rld_58, Rst_58, RN_59, Rld_59, Rst_59, RN_60, Rld_60, Rst_60, RG_61, RP_61, RG_62, RP_62, RG_63, RP_63, RG_64, RP_64, RG_65, RP_65, RG_66, RP_66, RG_67, RP_67, RG_68, RP_68, RG_69, RP_69, RG_70, RP_70, RG_71, RP_71, RN_72, Rld_72, Rst_72, RN_73, Rld_73, Rst_73, RN_74, Rld_74, Rst_74, RN_75, Rld_75, Rst_75, RN_76, Rld_76, Rst_76, RN_77, Rld_77, Rst_77, RN_78, Rld_78, Rst_78, RN_79, Rld_79, Rst_79, RN_80, Rld_80, Rst_80, RN_81, Rld_81, Rst_81, RN_82, Rld_82, Rst_82, RN_83, Rld_83, Rst_83, RN_84, Rld_84, Rst_84, RN_85, Rld_85, Rst_85, RN_86, Rld_86, Rst_86, RG_87, RP_87, RG_88, RP_88, RG_89, RP_89, RG_90, RP_90, RG_91, RP_91, RG_92, RP_92, RG_93, RP_93, RN_94, Rld_94, Rst_94, RN_95, Rld_95, Rst_95, RG_96, RP_96, RN_97, Rld_97, Rst_97, RN_98, Rld_98, Rst_98, RN_99, Rld_99, Rst_99, RN_100, Rld_100, Rst_100, RG_101, RP_101, RN_102, Rld_102, Rst_102, RN_103, Rld_103, Rst_103, RN_104, Rld_104, Rst_104, RG_105, RP_105, Option.bind_some, hn, le_n (show n < 2147483648 by omega) (show k < 2147483648 by omega), if_neg (show ¬ n ≤ k by omega), ix_n (show k < 2147483648 by omega), decide_eq_true (show k < 20 by omega), if_true, c32 (show k < 2147483648 by omega), suc32]
    by_cases hc : ai R 7 k = d
    · right
      rw [if_pos hc]
      exact ⟨_, rfl, (kd_at hk hi hc).symm⟩
    · left
      rw [if_neg hc]
      refine ⟨_, ⟨rfl, fun i hi => ?_⟩, rfl⟩
      by_cases h : i = k
      · rw [h]; exact hc
      · exact hA i (by omega)
  · rintro K _ ⟨rfl, hA⟩
    simp only [fbX12_trueKind_2, RisC, RG_0, RP_0, RG_1, RP_1, RN_2, Rld_2, Rst_2, RN_3, Rld_3, Rst_3, RN_4, Rld_4, Rst_4, RG_5, RP_5, RG_6, RP_6, RN_7, Rld_7, Rst_7, RN_8, Rld_8, Rst_8, RN_9, Rld_9, Rst_9, RN_10, Rld_10, Rst_10, RG_11, RP_11, RG_12, RP_12, RN_13, Rld_13, Rst_13, RN_14, Rld_14, Rst_14, RN_15, Rld_15, Rst_15, RN_16, Rld_16, Rst_16, RG_17, RP_17, RG_18, RP_18, RG_19, RP_19, RG_20, RP_20, RG_21, RP_21, RG_22, RP_22, RG_23, RP_23, RG_24, RP_24, RG_25, RP_25, RG_26, RP_26, RG_27, RP_27, RG_28, RP_28, RG_29, RP_29, RG_30, RP_30, RG_31, RP_31, RG_32, RP_32, RN_33, Rld_33, Rst_33, RN_34, Rld_34, Rst_34, RN_35, Rld_35, Rst_35, RN_36, Rld_36, Rst_36, RN_37, Rld_37, Rst_37, RN_38, Rld_38, Rst_38, RN_39, Rld_39, Rst_39, RN_40, Rld_40, Rst_40, RN_41, Rld_41, Rst_41, RN_42, Rld_42, Rst_42, RN_43, Rld_43, Rst_43, RN_44, Rld_44, Rst_44, RN_45, Rld_45, Rst_45, RG_46, RP_46, RG_47, RP_47, RG_48, RP_48, RG_49, RP_49, RN_50, Rld_50, Rst_50, RN_51, Rld_51, Rst_51, RN_52, Rld_52, Rst_52, RN_53, Rld_53, Rst_53, RN_54, Rld_54, Rst_54, RN_55, Rld_55, Rst_55, RG_56, RP_56, RG_57, RP_57, RN_58, Rld_58, Rst_58, RN_59, Rld_59, Rst_59, RN_60, Rld_60, Rst_60, RG_61, RP_61, RG_62, RP_62, RG_63, RP_63, RG_64, RP_64, RG_65, RP_65, RG_66, RP_66, RG_67, RP_67, RG_68, RP_68, RG_69, RP_69, RG_70, RP_70, RG_71, RP_71, RN_72, Rld_72, Rst_72, RN_73, Rld_73, Rst_73, RN_74, Rld_74, Rst_74, RN_75, Rld_75, Rst_75, RN_76, Rld_76, Rst_76, RN_77, Rld_77, Rst_77, RN_78, Rld_78, Rst_78, RN_79, Rld_79, Rst_79, RN_80, Rld_80, Rst_80, RN_81, Rld_81, Rst_81, RN_82, Rld_82, Rst_82, RN_83, Rld_83, Rst_83, RN_84, Rld_84, Rst_84, RN_85, Rld_85, Rst_85, RN_86, Rld_86, Rst_86, RG_87, RP_87, RG_88, RP_88, RG_89, RP_89, RG_90, RP_90, RG_91, RP_91, RG_92, RP_92, RG_93, RP_93, RN_94, Rld_94, Rst_94, RN_95, Rld_95, Rst_95, RG_96, RP_96, RN_97, Rld_97, Rst_97, RN_98, Rld_98, Rst_98, RN_99, Rld_99, Rst_99, RN_100, Rld_100, Rst_100, RG_101, RP_101, RN_102, Rld_102, Rst_102, RN_103, Rld_103, Rst_103, RN_104, Rld_104, Rst_104, RG_105, RP_105, Option.bind_some, hn, Int32.le_refl, if_true]
    exact ⟨_, rfl, (kd_no hA).symm⟩
theorem r_handKindOf {m : Nat} {ρ : Hs} {R : Gs} {n : Nat} {d : Int32} (hn : fi R 6 = Int32.ofNat n) (h20 : n ≤ 60) (hi : ∀ i j, i < n → j < n → ai R 9 i = ai R 9 j → i = j) :
    ∃ r, fX12_handKindOf_0 (eR m ρ R) m d = some r ∧ r.toInt = kd (lst n (ai R 9) (ai R 10)) d.toInt := by
  unfold fX12_handKindOf_0 fX12_handKindOf_2
  refine lp_q n (fun k z => z = (m, d, Int32.ofNat k) ∧ ∀ i, i < k → ai R 9 i ≠ d) (fun X => ∃ r : Int32, X = some r ∧ r.toInt = kd (lst n (ai R 9) (ai R 10)) d.toInt) ?_ ?_ fu 0 _ (by omega) ⟨rfl, fun i hi => by omega⟩ (by unfold fu; omega)
  · rintro K k _ hk ⟨rfl, hA⟩
    simp only [fbX12_handKindOf_2, RisC, RG_0, RP_0, RG_1, RP_1, RN_2, Rld_2, Rst_2, RN_3, Rld_3, Rst_3, RN_4, Rld_4, Rst_4, RG_5, RP_5, RG_6, RP_6, RN_7, Rld_7, Rst_7, RN_8, Rld_8, Rst_8, RN_9, Rld_9, Rst_9, RN_10, Rld_10, Rst_10, RG_11, RP_11, RG_12, RP_12, RN_13, Rld_13, Rst_13, RN_14, Rld_14, Rst_14, RN_15, Rld_15, Rst_15, RN_16, Rld_16, Rst_16, RG_17, RP_17, RG_18, RP_18, RG_19, RP_19, RG_20, RP_20, RG_21, RP_21, RG_22, RP_22, RG_23, RP_23, RG_24, RP_24, RG_25, RP_25, RG_26, RP_26, RG_27, RP_27, RG_28, RP_28, RG_29, RP_29, RG_30, RP_30, RG_31, RP_31, RG_32, RP_32, RN_33, Rld_33, Rst_33, RN_34, Rld_34, Rst_34, RN_35, Rld_35, Rst_35, RN_36, Rld_36, Rst_36, RN_37, Rld_37, Rst_37, RN_38, Rld_38, Rst_38, RN_39, Rld_39, Rst_39, RN_40, Rld_40, Rst_40, RN_41, Rld_41, Rst_41, RN_42, Rld_42, Rst_42, RN_43, Rld_43, Rst_43, RN_44, Rld_44, Rst_44, RN_45, Rld_45, Rst_45, RG_46, RP_46, RG_47, RP_47, RG_48, RP_48, RG_49, RP_49, RN_50, Rld_50, Rst_50, RN_51, Rld_51, Rst_51, RN_52, Rld_52, Rst_52, RN_53, Rld_53, Rst_53, RN_54, Rld_54, Rst_54, RN_55, Rld_55, Rst_55, RG_56, RP_56, RG_57, RP_57, RN_58, Rld_58, Rst_58, RN_59, Rld_59, Rst_59, RN_60, Rld_60, Rst_60, RG_61, RP_61, RG_62, RP_62, RG_63, RP_63, RG_64, RP_64, RG_65, RP_65, RG_66, RP_66, RG_67, RP_67, RG_68, RP_68, RG_69, RP_69, RG_70, RP_70, RG_71, RP_71, RN_72, Rld_72, Rst_72, RN_73, Rld_73, Rst_73, RN_74, Rld_74, Rst_74, RN_75, Rld_75, Rst_75, RN_76, Rld_76, Rst_76, RN_77, Rld_77, Rst_77, RN_78, Rld_78, Rst_78, RN_79, Rld_79, Rst_79, RN_80, Rld_80, Rst_80, RN_81, Rld_81, Rst_81, RN_82, Rld_82, Rst_82, RN_83, Rld_83, Rst_83, RN_84, Rld_84, Rst_84, RN_85, Rld_85, Rst_85, RN_86, Rld_86, Rst_86, RG_87, RP_87, RG_88, RP_88, RG_89, RP_89, RG_90, RP_90, RG_91, RP_91, RG_92, RP_92, RG_93, RP_93, RN_94, Rld_94, Rst_94, RN_95, Rld_95, Rst_95, RG_96, RP_96, RN_97, Rld_97, Rst_97, RN_98, Rld_98, Rst_98, RN_99, Rld_99, Rst_99, RN_100, Rld_100, Rst_100, RG_101, RP_101, RN_102, Rld_102, Rst_102, RN_103, Rld_103, Rst_103, RN_104, Rld_104, Rst_104, RG_105, RP_105, Option.bind_some, hn, le_n (show n < 2147483648 by omega) (show k < 2147483648 by omega), if_neg (show ¬ n ≤ k by omega), ix_n (show k < 2147483648 by omega), decide_eq_true (show k < 60 by omega), if_true, c32 (show k < 2147483648 by omega), suc32]
    by_cases hc : ai R 9 k = d
    · right
      rw [if_pos hc]
      exact ⟨_, rfl, (kd_at hk hi hc).symm⟩
    · left
      rw [if_neg hc]
      refine ⟨_, ⟨rfl, fun i hi => ?_⟩, rfl⟩
      by_cases h : i = k
      · rw [h]; exact hc
      · exact hA i (by omega)
  · rintro K _ ⟨rfl, hA⟩
    simp only [fbX12_handKindOf_2, RisC, RG_0, RP_0, RG_1, RP_1, RN_2, Rld_2, Rst_2, RN_3, Rld_3, Rst_3, RN_4, Rld_4, Rst_4, RG_5, RP_5, RG_6, RP_6, RN_7, Rld_7, Rst_7, RN_8, Rld_8, Rst_8, RN_9, Rld_9, Rst_9, RN_10, Rld_10, Rst_10, RG_11, RP_11, RG_12, RP_12, RN_13, Rld_13, Rst_13, RN_14, Rld_14, Rst_14, RN_15, Rld_15, Rst_15, RN_16, Rld_16, Rst_16, RG_17, RP_17, RG_18, RP_18, RG_19, RP_19, RG_20, RP_20, RG_21, RP_21, RG_22, RP_22, RG_23, RP_23, RG_24, RP_24, RG_25, RP_25, RG_26, RP_26, RG_27, RP_27, RG_28, RP_28, RG_29, RP_29, RG_30, RP_30, RG_31, RP_31, RG_32, RP_32, RN_33, Rld_33, Rst_33, RN_34, Rld_34, Rst_34, RN_35, Rld_35, Rst_35, RN_36, Rld_36, Rst_36, RN_37, Rld_37, Rst_37, RN_38, Rld_38, Rst_38, RN_39, Rld_39, Rst_39, RN_40, Rld_40, Rst_40, RN_41, Rld_41, Rst_41, RN_42, Rld_42, Rst_42, RN_43, Rld_43, Rst_43, RN_44, Rld_44, Rst_44, RN_45, Rld_45, Rst_45, RG_46, RP_46, RG_47, RP_47, RG_48, RP_48, RG_49, RP_49, RN_50, Rld_50, Rst_50, RN_51, Rld_51, Rst_51, RN_52, Rld_52, Rst_52, RN_53, Rld_53, Rst_53, RN_54, Rld_54, Rst_54, RN_55, Rld_55, Rst_55, RG_56, RP_56, RG_57, RP_57, RN_58, Rld_58, Rst_58, RN_59, Rld_59, Rst_59, RN_60, Rld_60, Rst_60, RG_61, RP_61, RG_62, RP_62, RG_63, RP_63, RG_64, RP_64, RG_65, RP_65, RG_66, RP_66, RG_67, RP_67, RG_68, RP_68, RG_69, RP_69, RG_70, RP_70, RG_71, RP_71, RN_72, Rld_72, Rst_72, RN_73, Rld_73, Rst_73, RN_74, Rld_74, Rst_74, RN_75, Rld_75, Rst_75, RN_76, Rld_76, Rst_76, RN_77, Rld_77, Rst_77, RN_78, Rld_78, Rst_78, RN_79, Rld_79, Rst_79, RN_80, Rld_80, Rst_80, RN_81, Rld_81, Rst_81, RN_82, Rld_82, Rst_82, RN_83, Rld_83, Rst_83, RN_84, Rld_84, Rst_84, RN_85, Rld_85, Rst_85, RN_86, Rld_86, Rst_86, RG_87, RP_87, RG_88, RP_88, RG_89, RP_89, RG_90, RP_90, RG_91, RP_91, RG_92, RP_92, RG_93, RP_93, RN_94, Rld_94, Rst_94, RN_95, Rld_95, Rst_95, RG_96, RP_96, RN_97, Rld_97, Rst_97, RN_98, Rld_98, Rst_98, RN_99, Rld_99, Rst_99, RN_100, Rld_100, Rst_100, RG_101, RP_101, RN_102, Rld_102, Rst_102, RN_103, Rld_103, Rst_103, RN_104, Rld_104, Rst_104, RG_105, RP_105, Option.bind_some, hn, Int32.le_refl, if_true]
    exact ⟨_, rfl, (kd_no hA).symm⟩
def civ (T : List (Int × Int)) (c : Int) : Int := if c < bg T (c / 86400) then c / 86400 - 1 else if bg T (c / 86400 + 1) ≤ c then c / 86400 + 1 else c / 86400
theorem civ_ok {n : Nat} {f g : Nat → Int32} (h : Tok n f g) (c : Int) : bg (lst n f g) (civ (lst n f g) c) ≤ c ∧ c < bg (lst n f g) (civ (lst n f g) c + 1) := by
  have hb := bs_1 h
  have hq := Int.mul_ediv_add_emod c 86400
  have hr := Int.emod_nonneg c (b := 86400) (by omega)
  have hr2 := Int.emod_lt_of_pos c (b := 86400) (by omega)
  have h1 := hb (c / 86400)
  have h2 := hb (c / 86400 + 1)
  have h3 := hb (c / 86400 - 1)
  have h4 := hb (c / 86400 + 1 + 1)
  unfold civ
  split
  · rename_i h5
    rw [show c / 86400 - 1 + 1 = c / 86400 by omega]
    refine ⟨?_, h5⟩
    unfold bg; omega
  · split
    · rename_i h5
      refine ⟨h5, ?_⟩
      unfold bg; omega
    · omega
theorem bg_mono {n : Nat} {f g : Nat → Int32} (h : Tok n f g) {a b : Int} (hab : a < b) : bg (lst n f g) a < bg (lst n f g) b := by
  have h1 := bs_1 h a
  have h2 := bs_1 h b
  unfold bg; omega
theorem civ_un {n : Nat} {f g : Nat → Int32} (h : Tok n f g) {c d : Int} (h1 : bg (lst n f g) d ≤ c) (h2 : c < bg (lst n f g) (d + 1)) : civ (lst n f g) c = d := by
  obtain ⟨g1, g2⟩ := civ_ok h c
  generalize civ (lst n f g) c = e at g1 g2
  rcases Int.lt_trichotomy e d with q | q | q
  · rcases Int.lt_or_eq_of_le (show e + 1 ≤ d by omega) with q2 | q2
    · have := bg_mono h q2; omega
    · rw [q2] at g2; omega
  · exact q
  · rcases Int.lt_or_eq_of_le (show d + 1 ≤ e by omega) with q2 | q2
    · have := bg_mono h q2; omega
    · rw [q2] at h2; omega
theorem r_findCivil {m : Nat} {ρ : Hs} {R : Gs} {c : Int64} {n : Nat} (hn : fi R 6 = Int32.ofNat n) (hT : Tok n (ai R 9) (ai R 10)) (hc0 : 0 ≤ c.toInt) (hc1 : c.toInt ≤ 1000000000) :
    ∃ R', fX12_findCivil_0 (eR m ρ R) m c = some (eR m ρ R') ∧ Fr [92, 93] R R' ∧ (fi R' 92).toInt = civ (lst n (ai R 9) (ai R 10)) c.toInt ∧ (fi R' 93).toInt = c.toInt - bg (lst n (ai R 9) (ai R 10)) (civ (lst n (ai R 9) (ai R 10)) c.toInt) := by
  have hb := bs_1 hT
  have hq := Int.mul_ediv_add_emod c.toInt 86400
  have hr := Int.emod_nonneg c.toInt (b := 86400) (by omega)
  have hr2 := Int.emod_lt_of_pos c.toInt (b := 86400) (by omega)
  have hcv := civ_ok hT c.toInt
  have hcu := @civ_un n (ai R 9) (ai R 10) hT c.toInt
  generalize hTT : lst n (ai R 9) (ai R 10) = T at *
  have hq0 : ((c / 86400).toInt32).toInt = c.toInt / 86400 := by
    have e : (c / 86400).toInt = c.toInt / 86400 := by
      rw [div64 (by decide)]; exact Int.tdiv_eq_ediv_of_nonneg hc0
    rw [dn32, e]; rw [e]; omega
  have hbe : ∀ (R' : Gs) (d : Int32), Fr [92, 93] R R' → ∃ r, fX12_beginOf_0 (eR m ρ R') m d = some r ∧ r.toInt = bg T d.toInt := by
    intro R' d hF
    obtain ⟨r, h1, h2⟩ := r_beginOf (m := m) (ρ := ρ) (R := R') (d := d) ((hF.i 6 (by decide)).trans hn) hT.1
    rw [hF.ai 9 (by decide), hF.ai 10 (by decide), hTT] at h2
    exact ⟨r, h1, h2⟩
  have hl2 : ∀ d : Int32, c.toInt / 86400 - 1 ≤ d.toInt → d.toInt ≤ c.toInt / 86400 + 1 → bg T d.toInt ≤ c.toInt → ∃ R', fX12_findCivil_23 (eR m ρ R) m c d = some (eR m ρ R') ∧ Fr [92, 93] R R' ∧ (fi R' 92).toInt = civ T c.toInt ∧ (fi R' 93).toInt = c.toInt - bg T (civ T c.toInt) := by
    intro d0 h1 h2 h3
    unfold fX12_findCivil_23
    refine lp_q 2 (fun k z => ∃ d : Int32, z = (eR m ρ R, m, c, d) ∧ c.toInt / 86400 - 1 + k ≤ d.toInt ∧ d.toInt ≤ c.toInt / 86400 + 1 ∧ bg T d.toInt ≤ c.toInt) (fun X => ∃ R', X = some (eR m ρ R') ∧ Fr [92, 93] R R' ∧ (fi R' 92).toInt = civ T c.toInt ∧ (fi R' 93).toInt = c.toInt - bg T (civ T c.toInt)) ?_ ?_ fu 0 _ (by omega) ⟨d0, rfl, by omega, h2, h3⟩ (by unfold fu; omega)
    · rintro K k _ hk ⟨d, rfl, g1, g2, g3⟩
      have hd1 : (d + 1).toInt = d.toInt + 1 := by rw [add32]; rfl; show _ ≤ _ + 1 ∧ _ + 1 < _; omega
      obtain ⟨r, e1, e2⟩ := hbe R (d + 1) (Fr.refl _ _)
      simp only [fbX12_findCivil_23, RisC, Option.bind_some, e1]
      rw [hd1] at e2
      by_cases hc : c < r
      · right
        rw [if_pos hc]
        rw [lt64] at hc
        have hd := hcu g3 (by omega)
        obtain ⟨r2, e3, e4⟩ := hbe (sfi R 92 d) d ((Fr.refl _ _).sfi (by decide) _)
        simp only [RisC, RG_0, RP_0, RG_1, RP_1, RN_2, Rld_2, Rst_2, RN_3, Rld_3, Rst_3, RN_4, Rld_4, Rst_4, RG_5, RP_5, RG_6, RP_6, RN_7, Rld_7, Rst_7, RN_8, Rld_8, Rst_8, RN_9, Rld_9, Rst_9, RN_10, Rld_10, Rst_10, RG_11, RP_11, RG_12, RP_12, RN_13, Rld_13, Rst_13, RN_14, Rld_14, Rst_14, RN_15, Rld_15, Rst_15, RN_16, Rld_16, Rst_16, RG_17, RP_17, RG_18, RP_18, RG_19, RP_19, RG_20, RP_20, RG_21, RP_21, RG_22, RP_22, RG_23, RP_23, RG_24, RP_24, RG_25, RP_25, RG_26, RP_26, RG_27, RP_27, RG_28, RP_28, RG_29, RP_29, RG_30, RP_30, RG_31, RP_31, RG_32, RP_32, RN_33, Rld_33, Rst_33, RN_34, Rld_34, Rst_34, RN_35, Rld_35, Rst_35, RN_36, Rld_36, Rst_36, RN_37, Rld_37, Rst_37, RN_38, Rld_38, Rst_38, RN_39, Rld_39, Rst_39, RN_40, Rld_40, Rst_40, RN_41, Rld_41, Rst_41, RN_42, Rld_42, Rst_42, RN_43, Rld_43, Rst_43, RN_44, Rld_44, Rst_44, RN_45, Rld_45, Rst_45, RG_46, RP_46, RG_47, RP_47, RG_48, RP_48, RG_49, RP_49, RN_50, Rld_50, Rst_50, RN_51, Rld_51, Rst_51, RN_52, Rld_52, Rst_52, RN_53, Rld_53, Rst_53, RN_54, Rld_54, Rst_54, RN_55, Rld_55, Rst_55, RG_56, RP_56, RG_57, RP_57, RN_58, Rld_58, Rst_58, RN_59, Rld_59, Rst_59, RN_60, Rld_60, Rst_60, RG_61, RP_61, RG_62, RP_62, RG_63, RP_63, RG_64, RP_64, RG_65, RP_65, RG_66, RP_66, RG_67, RP_67, RG_68, RP_68, RG_69, RP_69, RG_70, RP_70, RG_71, RP_71, RN_72, Rld_72, Rst_72, RN_73, Rld_73, Rst_73, RN_74, Rld_74, Rst_74, RN_75, Rld_75, Rst_75, RN_76, Rld_76, Rst_76, RN_77, Rld_77, Rst_77, RN_78, Rld_78, Rst_78, RN_79, Rld_79, Rst_79, RN_80, Rld_80, Rst_80, RN_81, Rld_81, Rst_81, RN_82, Rld_82, Rst_82, RN_83, Rld_83, Rst_83, RN_84, Rld_84, Rst_84, RN_85, Rld_85, Rst_85, RN_86, Rld_86, Rst_86, RG_87, RP_87, RG_88, RP_88, RG_89, RP_89, RG_90, RP_90, RG_91, RP_91, RG_92, RP_92, RG_93, RP_93, RN_94, Rld_94, Rst_94, RN_95, Rld_95, Rst_95, RG_96, RP_96, RN_97, Rld_97, Rst_97, RN_98, Rld_98, Rst_98, RN_99, Rld_99, Rst_99, RN_100, Rld_100, Rst_100, RG_101, RP_101, RN_102, Rld_102, Rst_102, RN_103, Rld_103, Rst_103, RN_104, Rld_104, Rst_104, RG_105, RP_105, Option.bind_some, e3]
        refine ⟨_, rfl, ((Fr.refl _ _).sfi (by decide) _).sfi (by decide) _, ?_, ?_⟩
        · simp only [q_fi_sfi, q_fl_sfi, q_fr_sfi, q_ai_sfi, q_al_sfi, q_ar_sfi, q_ln_sfi, q_fi_sfl, q_fl_sfl, q_fr_sfl, q_ai_sfl, q_al_sfl, q_ar_sfl, q_ln_sfl, q_fi_sfr, q_fl_sfr, q_fr_sfr, q_ai_sfr, q_al_sfr, q_ar_sfr, q_ln_sfr, q_fi_sai, q_fl_sai, q_fr_sai, q_ai_sai, q_al_sai, q_ar_sai, q_ln_sai, q_fi_sal, q_fl_sal, q_fr_sal, q_ai_sal, q_al_sal, q_ar_sal, q_ln_sal, q_fi_sar, q_fl_sar, q_fr_sar, q_ai_sar, q_al_sar, q_ar_sar, q_ln_sar, reduceIte, Nat.reduceEqDiff]; simp [hd]
        · simp only [q_fi_sfi, q_fl_sfi, q_fr_sfi, q_ai_sfi, q_al_sfi, q_ar_sfi, q_ln_sfi, q_fi_sfl, q_fl_sfl, q_fr_sfl, q_ai_sfl, q_al_sfl, q_ar_sfl, q_ln_sfl, q_fi_sfr, q_fl_sfr, q_fr_sfr, q_ai_sfr, q_al_sfr, q_ar_sfr, q_ln_sfr, q_fi_sai, q_fl_sai, q_fr_sai, q_ai_sai, q_al_sai, q_ar_sai, q_ln_sai, q_fi_sal, q_fl_sal, q_fr_sal, q_ai_sal, q_al_sal, q_ar_sal, q_ln_sal, q_fi_sar, q_fl_sar, q_fr_sar, q_ai_sar, q_al_sar, q_ar_sar, q_ln_sar, reduceIte, Nat.reduceEqDiff, if_true]
          have hx := hb d.toInt
          have hy := hb (d.toInt + 1)
          have hz : (c - r2).toInt = c.toInt - r2.toInt := sub64 (by rw [e4]; unfold bg; omega)
          rw [dn32 (by rw [hz, e4]; unfold bg at *; omega), hz, e4, hd]
      · left
        rw [if_neg hc]
        rw [lt64] at hc
        refine ⟨_, ⟨d + 1, rfl, by omega, ?_, by rw [hd1]; omega⟩, rfl⟩
        have hx := hb (d.toInt + 1)
        unfold bg at e2
        omega
    · rintro K _ ⟨d, rfl, g1, g2, g3⟩
      have hd1 : (d + 1).toInt = d.toInt + 1 := by rw [add32]; rfl; show _ ≤ _ + 1 ∧ _ + 1 < _; omega
      obtain ⟨r, e1, e2⟩ := hbe R (d + 1) (Fr.refl _ _)
      simp only [fbX12_findCivil_23, RisC, Option.bind_some, e1]
      rw [hd1] at e2
      have hx := hb (d.toInt + 1)
      have hc : c < r := by rw [lt64, e2]; unfold bg; omega
      rw [if_pos hc]
      rw [lt64] at hc
      have hd := hcu g3 (by omega)
      obtain ⟨r2, e3, e4⟩ := hbe (sfi R 92 d) d ((Fr.refl _ _).sfi (by decide) _)
      simp only [RisC, RG_0, RP_0, RG_1, RP_1, RN_2, Rld_2, Rst_2, RN_3, Rld_3, Rst_3, RN_4, Rld_4, Rst_4, RG_5, RP_5, RG_6, RP_6, RN_7, Rld_7, Rst_7, RN_8, Rld_8, Rst_8, RN_9, Rld_9, Rst_9, RN_10, Rld_10, Rst_10, RG_11, RP_11, RG_12, RP_12, RN_13, Rld_13, Rst_13, RN_14, Rld_14, Rst_14, RN_15, Rld_15, Rst_15, RN_16, Rld_16, Rst_16, RG_17, RP_17, RG_18, RP_18, RG_19, RP_19, RG_20, RP_20, RG_21, RP_21, RG_22, RP_22, RG_23, RP_23, RG_24, RP_24, RG_25, RP_25, RG_26, RP_26, RG_27, RP_27, RG_28, RP_28, RG_29, RP_29, RG_30, RP_30, RG_31, RP_31, RG_32, RP_32, RN_33, Rld_33, Rst_33, RN_34, Rld_34, Rst_34, RN_35, Rld_35, Rst_35, RN_36, Rld_36, Rst_36, RN_37, Rld_37, Rst_37, RN_38, Rld_38, Rst_38, RN_39, Rld_39, Rst_39, RN_40, Rld_40, Rst_40, RN_41, Rld_41, Rst_41, RN_42, Rld_42, Rst_42, RN_43, Rld_43, Rst_43, RN_44, Rld_44, Rst_44, RN_45, Rld_45, Rst_45, RG_46, RP_46, RG_47, RP_47, RG_48, RP_48, RG_49, RP_49, RN_50, Rld_50, Rst_50, RN_51, Rld_51, Rst_51, RN_52, Rld_52, Rst_52, RN_53, Rld_53, Rst_53, RN_54, Rld_54, Rst_54, RN_55, Rld_55, Rst_55, RG_56, RP_56, RG_57, RP_57, RN_58, Rld_58, Rst_58, RN_59, Rld_59, Rst_59, RN_60, Rld_60, Rst_60, RG_61, RP_61, RG_62, RP_62, RG_63, RP_63, RG_64, RP_64, RG_65, RP_65, RG_66, RP_66, RG_67, RP_67, RG_68, RP_68, RG_69, RP_69, RG_70, RP_70, RG_71, RP_71, RN_72, Rld_72, Rst_72, RN_73, Rld_73, Rst_73, RN_74, Rld_74, Rst_74, RN_75, Rld_75, Rst_75, RN_76, Rld_76, Rst_76, RN_77, Rld_77, Rst_77, RN_78, Rld_78, Rst_78, RN_79, Rld_79, Rst_79, RN_80, Rld_80, Rst_80, RN_81, Rld_81, Rst_81, RN_82, Rld_82, Rst_82, RN_83, Rld_83, Rst_83, RN_84, Rld_84, Rst_84, RN_85, Rld_85, Rst_85, RN_86, Rld_86, Rst_86, RG_87, RP_87, RG_88, RP_88, RG_89, RP_89, RG_90, RP_90, RG_91, RP_91, RG_92, RP_92, RG_93, RP_93, RN_94, Rld_94, Rst_94, RN_95, Rld_95, Rst_95, RG_96, RP_96, RN_97, Rld_97, Rst_97, RN_98, Rld_98, Rst_98, RN_99, Rld_99, Rst_99, RN_100, Rld_100, Rst_100, RG_101, RP_101, RN_102, Rld_102, Rst_102, RN_103, Rld_103, Rst_103, RN_104, Rld_104, Rst_104, RG_105, RP_105, Option.bind_some, e3]
      refine ⟨_, rfl, ((Fr.refl _ _).sfi (by decide) _).sfi (by decide) _, ?_, ?_⟩
      · simp only [q_fi_sfi, q_fl_sfi, q_fr_sfi, q_ai_sfi, q_al_sfi, q_ar_sfi, q_ln_sfi, q_fi_sfl, q_fl_sfl, q_fr_sfl, q_ai_sfl, q_al_sfl, q_ar_sfl, q_ln_sfl, q_fi_sfr, q_fl_sfr, q_fr_sfr, q_ai_sfr, q_al_sfr, q_ar_sfr, q_ln_sfr, q_fi_sai, q_fl_sai, q_fr_sai, q_ai_sai, q_al_sai, q_ar_sai, q_ln_sai, q_fi_sal, q_fl_sal, q_fr_sal, q_ai_sal, q_al_sal, q_ar_sal, q_ln_sal, q_fi_sar, q_fl_sar, q_fr_sar, q_ai_sar, q_al_sar, q_ar_sar, q_ln_sar, reduceIte, Nat.reduceEqDiff]; simp [hd]
      · simp only [q_fi_sfi, q_fl_sfi, q_fr_sfi, q_ai_sfi, q_al_sfi, q_ar_sfi, q_ln_sfi, q_fi_sfl, q_fl_sfl, q_fr_sfl, q_ai_sfl, q_al_sfl, q_ar_sfl, q_ln_sfl, q_fi_sfr, q_fl_sfr, q_fr_sfr, q_ai_sfr, q_al_sfr, q_ar_sfr, q_ln_sfr, q_fi_sai, q_fl_sai, q_fr_sai, q_ai_sai, q_al_sai, q_ar_sai, q_ln_sai, q_fi_sal, q_fl_sal, q_fr_sal, q_ai_sal, q_al_sal, q_ar_sal, q_ln_sal, q_fi_sar, q_fl_sar, q_fr_sar, q_ai_sar, q_al_sar, q_ar_sar, q_ln_sar, reduceIte, Nat.reduceEqDiff, if_true]
        have hx := hb d.toInt
        have hz : (c - r2).toInt = c.toInt - r2.toInt := sub64 (by rw [e4]; unfold bg; omega)
        rw [dn32 (by rw [hz, e4]; unfold bg at *; omega), hz, e4, hd]
  unfold fX12_findCivil_0 fX12_findCivil_7
  refine lp_q 1 (fun k z => ∃ d : Int32, z = (eR m ρ R, m, c, d) ∧ d.toInt = c.toInt / 86400 - k) (fun X => ∃ R', X = some (eR m ρ R') ∧ Fr [92, 93] R R' ∧ (fi R' 92).toInt = civ T c.toInt ∧ (fi R' 93).toInt = c.toInt - bg T (civ T c.toInt)) ?_ ?_ fu 0 _ (by omega) ⟨_, rfl, by rw [hq0]; omega⟩ (by unfold fu; omega)
  · rintro K k _ hk ⟨d, rfl, g1⟩
    obtain ⟨r, e1, e2⟩ := hbe R d (Fr.refl _ _)
    simp only [fbX12_findCivil_7, RisC, Option.bind_some, e1]
    by_cases hc : r ≤ c
    · right
      rw [if_pos hc]
      rw [le64] at hc
      exact hl2 d (by omega) (by omega) (by omega)
    · left
      rw [if_neg hc]
      refine ⟨_, ⟨_, rfl, ?_⟩, rfl⟩
      rw [add32]
      · show d.toInt + -1 = _; omega
      · show _ ≤ d.toInt + -1 ∧ d.toInt + -1 < _; omega
  · rintro K _ ⟨d, rfl, g1⟩
    obtain ⟨r, e1, e2⟩ := hbe R d (Fr.refl _ _)
    have hx := hb d.toInt
    have hc : r ≤ c := by rw [le64, e2]; unfold bg; omega
    simp only [fbX12_findCivil_7, RisC, Option.bind_some, e1, if_pos hc]
    rw [le64] at hc
    exact hl2 d (by omega) (by omega) (by omega)
