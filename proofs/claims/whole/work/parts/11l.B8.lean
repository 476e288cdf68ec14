theorem frc_fi {L : List Nat} {A B : Gs} (h : Fr L A B) (k : Nat) (v : Int32) : Fr L (sfi A k v) (sfi B k v) := fun j hj => ⟨⟨by show up _ _ _ _ = up _ _ _ _; unfold up; split; rfl; exact (h j hj).1.1, (h j hj).1.2⟩, (h j hj).2⟩
theorem frc_ai {L : List Nat} {A B : Gs} (h : Fr L A B) (k : Nat) (v : Nat → Int32) : Fr L (sai A k v) (sai B k v) := fun j hj => ⟨(h j hj).1, by show up _ _ _ _ = up _ _ _ _; unfold up; split; rfl; exact (h j hj).2.1, (h j hj).2.2⟩
theorem frc_al {L : List Nat} {A B : Gs} (h : Fr L A B) (k : Nat) (v : Nat → Int64) : Fr L (sal A k v) (sal B k v) := fun j hj => ⟨(h j hj).1, (h j hj).2.1, by show up _ _ _ _ = up _ _ _ _; unfold up; split; rfl; exact (h j hj).2.2.1, (h j hj).2.2.2⟩
theorem get32 (t : Int32) (h : 0 ≤ t.toInt) : ∃ n : Nat, t = Int32.ofNat n ∧ n < 2147483648 ∧ t.toInt = n := by
  have := r32 t
  refine ⟨t.toInt.toNat, (nat32 h).symm, by omega, by omega⟩
theorem add_n (a b : Nat) : Int32.ofNat a + Int32.ofNat b = Int32.ofNat (a + b) := (Int32.ofNat_add a b).symm
theorem mul_n (a b : Nat) : Int32.ofNat a * Int32.ofNat b = Int32.ofNat (a * b) := (Int32.ofNat_mul a b).symm
theorem l40 : (40 : Int32) = Int32.ofNat 40 := rfl
theorem up_up {α : Type} (f : Nat → α) (k : Nat) (v w : α) : up (up f k v) k w = up f k w := by
  funext j; unfold up; split <;> rfl
theorem sal_sal (G : Gs) (k : Nat) (f g : Nat → Int64) : sal (sal G k f) k g = sal G k g := by
  unfold sal; simp only [up_up]
theorem sai_sai (G : Gs) (k : Nat) (f g : Nat → Int32) : sai (sai G k f) k g = sai G k g := by
  unfold sai; simp only [up_up]
theorem sfi_sfi (G : Gs) (k : Nat) (f g : Int32) : sfi (sfi G k f) k g = sfi G k g := by
  unfold sfi; simp only [up_up]
theorem sal_self (G : Gs) (k : Nat) (f : Nat → Int64) (h : al G k = f) : sal G k f = G := by
  subst h
  have : up G.2.2.2.2.1 k (al G k) = G.2.2.2.2.1 := by
    funext j; unfold up; split
    · rename_i e; rw [e]; rfl
    · rfl
  unfold sal; rw [this]
abbrev SC0 : List Nat := SCR
theorem r_no (m : Nat) (ρ : Hs) (R : Gs) (v : Int32) : fX12_no_0 (eR m ρ R) m v = some (0, eR m ρ (sfi R 0 v)) := by
  unfold fX12_no_0; simp only [RP_0, Option.bind_some]; rfl
theorem r_refuse (m : Nat) (ρ : Hs) (R : Gs) (v : Int32) : fX12_refuse_0 (eR m ρ R) m v = some (-1, eR m ρ (sfi R 0 v)) := by
  unfold fX12_refuse_0; simp only [RP_0, Option.bind_some]
def QB (m : Nat) (ρ : Hs) (R : Gs) (st : Int32) (U : Gs) (X : Option (Int32 × Hs)) : Prop := ∃ R', X = some (b2i (st = 0), eR m ρ R') ∧ fi R' 0 = st ∧ Fr SC0 (if st = 0 then U else R) R' ∧ (H6 R → H6 R')
def QI (m : Nat) (ρ : Hs) (R : Gs) (st a : Int32) (U : Gs) (X : Option (Int32 × Hs)) : Prop := ∃ R', X = some (if st = 0 then a else -1, eR m ρ R') ∧ fi R' 0 = st ∧ Fr SC0 (if st = 0 then U else R) R' ∧ (H6 R → H6 R')
def QL (m : Nat) (ρ : Hs) (R : Gs) (st : Int32) (a : Int64) (U : Gs) (X : Option (Int64 × Hs)) : Prop := ∃ R', X = some (if st = 0 then a else -1, eR m ρ R') ∧ fi R' 0 = st ∧ Fr SC0 (if st = 0 then U else R) R' ∧ (H6 R → H6 R')
theorem QB.no {m : Nat} {ρ : Hs} {R U R1 : Gs} {st v : Int32} (h0 : v ≠ 0) (hv : st = v) (hF : Fr SC0 R R1) (h6 : H6 R → H6 R1 := by exact fun h => h) : QB m ρ R st U (some (0, eR m ρ (sfi R1 0 v))) := by
  subst hv
  refine ⟨sfi R1 0 st, ?_, rfl, ?_, h6⟩
  · rw [show b2i (st = 0) = 0 from if_neg h0]
  · rw [if_neg h0]; exact hF.sfi (by decide) _
theorem QB.ok {m : Nat} {ρ : Hs} {R U R1 : Gs} {st : Int32} (hv : st = 0) (h0 : fi R1 0 = 0) (hF : Fr SC0 U R1) (h6 : H6 R → H6 R1 := by exact fun h => h) : QB m ρ R st U (some (1, eR m ρ R1)) := by
  subst hv
  exact ⟨_, rfl, h0, hF, h6⟩
theorem QI.no {m : Nat} {ρ : Hs} {R U R1 : Gs} {st a v : Int32} (h0 : v ≠ 0) (hv : st = v) (hF : Fr SC0 R R1) (h6 : H6 R → H6 R1 := by exact fun h => h) : QI m ρ R st a U (some (-1, eR m ρ (sfi R1 0 v))) := by
  subst hv
  refine ⟨sfi R1 0 st, ?_, rfl, ?_, h6⟩
  · rw [if_neg h0]
  · rw [if_neg h0]; exact hF.sfi (by decide) _
theorem QI.ok {m : Nat} {ρ : Hs} {R U R1 : Gs} {st a b : Int32} (hv : st = 0) (ha : a = b) (h0 : fi R1 0 = 0) (hF : Fr SC0 U R1) (h6 : H6 R → H6 R1 := by exact fun h => h) : QI m ρ R st a U (some (b, eR m ρ R1)) := by
  subst hv; subst ha
  exact ⟨_, rfl, h0, hF, h6⟩
theorem QL.no {m : Nat} {ρ : Hs} {R U R1 : Gs} {st v : Int32} {a w : Int64} (h0 : v ≠ 0) (hv : st = v) (hw : w = -1) (hF : Fr SC0 R R1) (h6 : H6 R → H6 R1 := by exact fun h => h) : QL m ρ R st a U (some (w, eR m ρ (sfi R1 0 v))) := by
  subst hv; subst hw
  refine ⟨sfi R1 0 st, ?_, rfl, ?_, h6⟩
  · rw [if_neg h0]
  · rw [if_neg h0]; exact hF.sfi (by decide) _
theorem QL.ok {m : Nat} {ρ : Hs} {R U R1 : Gs} {st : Int32} {a b : Int64} (hv : st = 0) (ha : a = b) (h0 : fi R1 0 = 0) (hF : Fr SC0 U R1) (h6 : H6 R → H6 R1 := by exact fun h => h) : QL m ρ R st a U (some (b, eR m ρ R1)) := by
  subst hv; subst ha
  exact ⟨_, rfl, h0, hF, h6⟩
theorem i0 : (0 : Int32).toInt = 0 := rfl
theorem i1 : (1 : Int32).toInt = 1 := rfl
theorem im1 : (-1 : Int32).toInt = -1 := rfl
theorem i2 : (2 : Int32).toInt = 2 := rfl
theorem i3 : (3 : Int32).toInt = 3 := rfl
theorem i4 : (4 : Int32).toInt = 4 := rfl
theorem i12 : (12 : Int32).toInt = 12 := rfl
theorem i20 : (20 : Int32).toInt = 20 := rfl
theorem i40 : (40 : Int32).toInt = 40 := rfl
theorem i60 : (60 : Int32).toInt = 60 := rfl
theorem i86400 : (86400 : Int32).toInt = 86400 := rfl
theorem fr1 (R : Gs) : Fr SC0 R (sfi (sfi R 1 0) 0 0) := ((Fr.refl _ R).sfi (by decide) _).sfi (by decide) _
def st_tray (t s n : Int32) : Int32 := if t.toInt < 0 ∨ 4 ≤ t.toInt ∨ s.toInt < 0 ∨ 3 < s.toInt then 1 else if 40 < n.toInt then 5 else if n.toInt < 0 then 6 else 0
def u_tray (R : Gs) (t s n : Int32) : Gs := sal (sai (sai R 2 (up (ai R 2) t.toNatClampNeg s)) 3 (up (ai R 3) t.toNatClampNeg n)) 4 (fun j => if 40 * t.toNatClampNeg ≤ j ∧ j < 40 * t.toNatClampNeg + n.toNatClampNeg then 0 else al R 4 j)
theorem r_tray (m : Nat) (ρ : Hs) (R : Gs) (t s n : Int32) : QB m ρ R (st_tray t s n) (u_tray R t s n) (fX12_tray_0 (eR m ρ R) m t s n) := by
  unfold fX12_tray_0
  simp only [RP_1, RP_0, RisC, r_no, bb_0, Option.bind_some, lt32, le32, i0, i4, i3, i40]
  rcases Decidable.em (t.toInt < 0) with hc1 | hc1
  · rw [if_pos hc1]; exact QB.no (by decide) (by unfold st_tray; (repeat' split) <;> (first | rfl | omega)) (fr1 R)
  rw [if_neg hc1]
  rcases Decidable.em (4 ≤ t.toInt) with hc2 | hc2
  · rw [if_pos hc2]; exact QB.no (by decide) (by unfold st_tray; (repeat' split) <;> (first | rfl | omega)) (fr1 R)
  rw [if_neg hc2]
  rcases Decidable.em (s.toInt < 0) with hc3 | hc3
  · rw [if_pos hc3]; exact QB.no (by decide) (by unfold st_tray; (repeat' split) <;> (first | rfl | omega)) (fr1 R)
  rw [if_neg hc3]
  rcases Decidable.em (¬ (s.toInt ≤ 3)) with hc4 | hc4
  · rw [if_neg hc4]; exact QB.no (by decide) (by unfold st_tray; (repeat' split) <;> (first | rfl | omega)) (fr1 R)
  replace hc4 := Decidable.not_not.mp hc4
  rw [if_pos hc4]
  rcases Decidable.em (¬ (n.toInt ≤ 40)) with hc5 | hc5
  · rw [if_neg hc5]; exact QB.no (by decide) (by unfold st_tray; (repeat' split) <;> (first | rfl | omega)) (fr1 R)
  replace hc5 := Decidable.not_not.mp hc5
  rw [if_pos hc5]
  rcases Decidable.em (¬ (0 ≤ n.toInt)) with hc6 | hc6
  · rw [if_neg hc6]; exact QB.no (by decide) (by unfold st_tray; (repeat' split) <;> (first | rfl | omega)) (fr1 R)
  replace hc6 := Decidable.not_not.mp hc6
  rw [if_pos hc6]
  have hst : st_tray t s n = 0 := (by unfold st_tray; (repeat' split) <;> (first | rfl | omega))
  obtain ⟨tn, rfl, htn, ht⟩ := get32 t (by omega)
  obtain ⟨nn, rfl, hnn, hn⟩ := get32 n (by omega)
  simp only [RisC, RG_0, RP_0, RG_1, RP_1, RN_2, Rld_2, Rst_2, RN_3, Rld_3, Rst_3, RN_4, Rld_4, Rst_4, RG_5, RP_5, RG_6, RP_6, RN_7, Rld_7, Rst_7, RN_8, Rld_8, Rst_8, RN_9, Rld_9, Rst_9, RN_10, Rld_10, Rst_10, RG_11, RP_11, RG_12, RP_12, RN_13, Rld_13, Rst_13, RN_14, Rld_14, Rst_14, RN_15, Rld_15, Rst_15, RN_16, Rld_16, Rst_16, RG_17, RP_17, RG_18, RP_18, RG_19, RP_19, RG_20, RP_20, RG_21, RP_21, RG_22, RP_22, RG_23, RP_23, RG_24, RP_24, RG_25, RP_25, RG_26, RP_26, RG_27, RP_27, RG_28, RP_28, RG_29, RP_29, RG_30, RP_30, RG_31, RP_31, RG_32, RP_32, RN_33, Rld_33, Rst_33, RN_34, Rld_34, Rst_34, RN_35, Rld_35, Rst_35, RN_36, Rld_36, Rst_36, RN_37, Rld_37, Rst_37, RN_38, Rld_38, Rst_38, RN_39, Rld_39, Rst_39, RN_40, Rld_40, Rst_40, RN_41, Rld_41, Rst_41, RN_42, Rld_42, Rst_42, RN_43, Rld_43, Rst_43, RN_44, Rld_44, Rst_44, RN_45, Rld_45, Rst_45, RG_46, RP_46, RG_47, RP_47, RG_48, RP_48, RG_49, RP_49, RN_50, Rld_50, Rst_50, RN_51, Rld_51, Rst_51, RN_52, Rld_52, Rst_52, RN_53, Rld_53, Rst_53, RN_54, Rld_54, Rst_54, RN_55, Rld_55, Rst_55, RG_56, RP_56, RG_57, RP_57, RN_58, Rld_58, Rst_58, RN_59, Rld_59, Rst_59, RN_60, Rld_60, Rst_60, RG_61, RP_61, RG_62, RP_62, RG_63, RP_63, RG_64, RP_64, RG_65, RP_65, RG_66, RP_66, RG_67, RP_67, RG_68, RP_68, RG_69, RP_69, RG_70, RP_70, RG_71, RP_71, RN_72, Rld_72, Rst_72, RN_73, Rld_73, Rst_73, RN_74, Rld_74, Rst_74, RN_75, Rld_75, Rst_75, RN_76, Rld_76, Rst_76, RN_77, Rld_77, Rst_77, RN_78, Rld_78, Rst_78, RN_79, Rld_79, Rst_79, RN_80, Rld_80, Rst_80, RN_81, Rld_81, Rst_81, RN_82, Rld_82, Rst_82, RN_83, Rld_83, Rst_83, RN_84, Rld_84, Rst_84, RN_85, Rld_85, Rst_85, RN_86, Rld_86, Rst_86, RG_87, RP_87, RG_88, RP_88, RG_89, RP_89, RG_90, RP_90, RG_91, RP_91, RG_92, RP_92, RG_93, RP_93, RN_94, Rld_94, Rst_94, RN_95, Rld_95, Rst_95, RG_96, RP_96, RN_97, Rld_97, Rst_97, RN_98, Rld_98, Rst_98, RN_99, Rld_99, Rst_99, RN_100, Rld_100, Rst_100, RG_101, RP_101, RN_102, Rld_102, Rst_102, RN_103, Rld_103, Rst_103, RN_104, Rld_104, Rst_104, RG_105, RP_105, q_fi_sfi, q_fl_sfi, q_fr_sfi, q_ai_sfi, q_al_sfi, q_ar_sfi, q_ln_sfi, q_fi_sfl, q_fl_sfl, q_fr_sfl, q_ai_sfl, q_al_sfl, q_ar_sfl, q_ln_sfl, q_fi_sfr, q_fl_sfr, q_fr_sfr, q_ai_sfr, q_al_sfr, q_ar_sfr, q_ln_sfr, q_fi_sai, q_fl_sai, q_fr_sai, q_ai_sai, q_al_sai, q_ar_sai, q_ln_sai, q_fi_sal, q_fl_sal, q_fr_sal, q_ai_sal, q_al_sal, q_ar_sal, q_ln_sal, q_fi_sar, q_fl_sar, q_fr_sar, q_ai_sar, q_al_sar, q_ar_sar, q_ln_sar, reduceIte, Nat.reduceEqDiff, Option.bind_some, ix_n htn, decide_eq_true (show tn < 4 by omega), if_true, c32 htn]
  unfold fX12_tray_74
  refine lp_q nn (fun k z => z = (eR m ρ (sal (sai (sai (sfi (sfi R 1 0) 0 0) 2 (up (ai R 2) tn s)) 3 (up (ai R 3) tn (Int32.ofNat nn))) 4 (fun j => if 40 * tn ≤ j ∧ j < 40 * tn + k then 0 else al R 4 j)), m, Int32.ofNat tn, Int32.ofNat nn, Int32.ofNat k)) (QB m ρ R (st_tray (Int32.ofNat tn) s (Int32.ofNat nn)) (u_tray R (Int32.ofNat tn) s (Int32.ofNat nn))) ?_ ?_ fu 0 _ (by omega) ?_ (by unfold fu; omega)
  · rintro K k _ hk rfl
    left
    simp only [fbX12_tray_74, RisC, RG_0, RP_0, RG_1, RP_1, RN_2, Rld_2, Rst_2, RN_3, Rld_3, Rst_3, RN_4, Rld_4, Rst_4, RG_5, RP_5, RG_6, RP_6, RN_7, Rld_7, Rst_7, RN_8, Rld_8, Rst_8, RN_9, Rld_9, Rst_9, RN_10, Rld_10, Rst_10, RG_11, RP_11, RG_12, RP_12, RN_13, Rld_13, Rst_13, RN_14, Rld_14, Rst_14, RN_15, Rld_15, Rst_15, RN_16, Rld_16, Rst_16, RG_17, RP_17, RG_18, RP_18, RG_19, RP_19, RG_20, RP_20, RG_21, RP_21, RG_22, RP_22, RG_23, RP_23, RG_24, RP_24, RG_25, RP_25, RG_26, RP_26, RG_27, RP_27, RG_28, RP_28, RG_29, RP_29, RG_30, RP_30, RG_31, RP_31, RG_32, RP_32, RN_33, Rld_33, Rst_33, RN_34, Rld_34, Rst_34, RN_35, Rld_35, Rst_35, RN_36, Rld_36, Rst_36, RN_37, Rld_37, Rst_37, RN_38, Rld_38, Rst_38, RN_39, Rld_39, Rst_39, RN_40, Rld_40, Rst_40, RN_41, Rld_41, Rst_41, RN_42, Rld_42, Rst_42, RN_43, Rld_43, Rst_43, RN_44, Rld_44, Rst_44, RN_45, Rld_45, Rst_45, RG_46, RP_46, RG_47, RP_47, RG_48, RP_48, RG_49, RP_49, RN_50, Rld_50, Rst_50, RN_51, Rld_51, Rst_51, RN_52, Rld_52, Rst_52, RN_53, Rld_53, Rst_53, RN_54, Rld_54, Rst_54, RN_55, Rld_55, Rst_55, RG_56, RP_56, RG_57, RP_57, RN_58, Rld_58, Rst_58, RN_59, Rld_59, Rst_59, RN_60, Rld_60, Rst_60, RG_61, RP_61, RG_62, RP_62, RG_63, RP_63, RG_64, RP_64, RG_65, RP_65, RG_66, RP_66, RG_67, RP_67, RG_68, RP_68, RG_69, RP_69, RG_70, RP_70, RG_71, RP_71, RN_72, Rld_72, Rst_72, RN_73, Rld_73, Rst_73, RN_74, Rld_74, Rst_74, RN_75, Rld_75, Rst_75, RN_76, Rld_76, Rst_76, RN_77, Rld_77, Rst_77, RN_78, Rld_78, Rst_78, RN_79, Rld_79, Rst_79, RN_80, Rld_80, Rst_80, RN_81, Rld_81, Rst_81, RN_82, Rld_82, Rst_82, RN_83, Rld_83, Rst_83, RN_84, Rld_84, Rst_84, RN_85, Rld_85, Rst_85, RN_86, Rld_86, Rst_86, RG_87, RP_87, RG_88, RP_88, RG_89, RP_89, RG_90, RP_90, RG_91, RP_91, RG_92, RP_92, RG_93, RP_93, RN_94, Rld_94, Rst_94, RN_95, Rld_95, Rst_95, RG_96, RP_96, RN_97, Rld_97, Rst_97, RN_98, Rld_98, Rst_98, RN_99, Rld_99, Rst_99, RN_100, Rld_100, Rst_100, RG_101, RP_101, RN_102, Rld_102, Rst_102, RN_103, Rld_103, Rst_103, RN_104, Rld_104, Rst_104, RG_105, RP_105, Option.bind_some, le_n hnn (show k < 2147483648 by omega), if_neg (show ¬ nn ≤ k by omega), l40, mul_n, add_n, ix_n (show 40 * tn + k < 2147483648 by omega), decide_eq_true (show 40 * tn + k < 160 by omega), if_true, c32 (show 40 * tn + k < 2147483648 by omega), suc32]
    refine ⟨_, rfl, ?_⟩
    rw [sal_sal]
    congr 3
    refine congrArg (fun f => sal (sai (sai (sfi (sfi R 1 0) 0 0) 2 (up (ai R 2) tn s)) 3 (up (ai R 3) tn (Int32.ofNat nn))) 4 f) (funext fun j => ?_)
    simp only [q_fi_sfi, q_fl_sfi, q_fr_sfi, q_ai_sfi, q_al_sfi, q_ar_sfi, q_ln_sfi, q_fi_sfl, q_fl_sfl, q_fr_sfl, q_ai_sfl, q_al_sfl, q_ar_sfl, q_ln_sfl, q_fi_sfr, q_fl_sfr, q_fr_sfr, q_ai_sfr, q_al_sfr, q_ar_sfr, q_ln_sfr, q_fi_sai, q_fl_sai, q_fr_sai, q_ai_sai, q_al_sai, q_ar_sai, q_ln_sai, q_fi_sal, q_fl_sal, q_fr_sal, q_ai_sal, q_al_sal, q_ar_sal, q_ln_sal, q_fi_sar, q_fl_sar, q_fr_sar, q_ai_sar, q_al_sar, q_ar_sar, q_ln_sar, reduceIte, Nat.reduceEqDiff]
    unfold up
    by_cases h1 : j = 40 * tn + k
    · rw [if_pos h1, if_pos (by omega)]
    · rw [if_neg h1]
      show (if 40 * tn ≤ j ∧ j < 40 * tn + k then 0 else al R 4 j) = _
      by_cases h2 : 40 * tn ≤ j ∧ j < 40 * tn + k
      · rw [if_pos h2, if_pos (by omega)]
      · rw [if_neg h2, if_neg (by omega)]
  · rintro K _ rfl
    simp only [fbX12_tray_74, Int32.le_refl, if_true, bb_1, Option.bind_some]
    refine QB.ok hst rfl ?_
    unfold u_tray
    rw [c32 htn, c32 hnn]
    exact frc_al (frc_ai (frc_ai (fr1 R) _ _) _ _) _ _
  · rw [sal_self]; rfl
    funext j
    rw [if_neg (by omega)]; rfl

def RT (R : Gs) : Prop := ∀ t, t < 4 → -1 ≤ (ai R 3 t).toInt ∧ (ai R 3 t).toInt ≤ 40
def st_place (R : Gs) (t k : Int32) : Int32 := if t.toInt < 0 ∨ 4 ≤ t.toInt then 1 else if (ai R 3 t.toNatClampNeg).toInt < 0 then 3 else if k.toInt < 0 ∨ (ai R 3 t.toNatClampNeg).toInt ≤ k.toInt then 4 else 0
theorem r_placed (m : Nat) (ρ : Hs) (R : Gs) (t k : Int32) : fX12_placed_0 (eR m ρ R) m t k = some (st_place R t k) := by
  unfold fX12_placed_0 fX12_trayed_0
  simp only [RisC, Option.bind_some, lt32, le32, i0, i4]
  by_cases h1 : t.toInt < 0
  · rw [if_pos h1]; simp only [Option.bind_some]; rw [if_neg (by decide)]; refine congrArg some ?_; exact (if_pos (Or.inl h1)).symm
  rw [if_neg h1]
  by_cases h2 : t.toInt < 4
  · rw [if_pos h2]
    obtain ⟨tn, rfl, htn, ht⟩ := get32 t (by omega)
    simp only [RisC, RG_0, RP_0, RG_1, RP_1, RN_2, Rld_2, Rst_2, RN_3, Rld_3, Rst_3, RN_4, Rld_4, Rst_4, RG_5, RP_5, RG_6, RP_6, RN_7, Rld_7, Rst_7, RN_8, Rld_8, Rst_8, RN_9, Rld_9, Rst_9, RN_10, Rld_10, Rst_10, RG_11, RP_11, RG_12, RP_12, RN_13, Rld_13, Rst_13, RN_14, Rld_14, Rst_14, RN_15, Rld_15, Rst_15, RN_16, Rld_16, Rst_16, RG_17, RP_17, RG_18, RP_18, RG_19, RP_19, RG_20, RP_20, RG_21, RP_21, RG_22, RP_22, RG_23, RP_23, RG_24, RP_24, RG_25, RP_25, RG_26, RP_26, RG_27, RP_27, RG_28, RP_28, RG_29, RP_29, RG_30, RP_30, RG_31, RP_31, RG_32, RP_32, RN_33, Rld_33, Rst_33, RN_34, Rld_34, Rst_34, RN_35, Rld_35, Rst_35, RN_36, Rld_36, Rst_36, RN_37, Rld_37, Rst_37, RN_38, Rld_38, Rst_38, RN_39, Rld_39, Rst_39, RN_40, Rld_40, Rst_40, RN_41, Rld_41, Rst_41, RN_42, Rld_42, Rst_42, RN_43, Rld_43, Rst_43, RN_44, Rld_44, Rst_44, RN_45, Rld_45, Rst_45, RG_46, RP_46, RG_47, RP_47, RG_48, RP_48, RG_49, RP_49, RN_50, Rld_50, Rst_50, RN_51, Rld_51, Rst_51, RN_52, Rld_52, Rst_52, RN_53, Rld_53, Rst_53, RN_54, Rld_54, Rst_54, RN_55, Rld_55, Rst_55, RG_56, RP_56, RG_57, RP_57, RN_58, Rld_58, Rst_58, RN_59, Rld_59, Rst_59, RN_60, Rld_60, Rst_60, RG_61, RP_61, RG_62, RP_62, RG_63, RP_63, RG_64, RP_64, RG_65, RP_65, RG_66, RP_66, RG_67, RP_67, RG_68, RP_68, RG_69, RP_69, RG_70, RP_70, RG_71, RP_71, RN_72, Rld_72, Rst_72, RN_73, Rld_73, Rst_73, RN_74, Rld_74, Rst_74, RN_75, Rld_75, Rst_75, RN_76, Rld_76, Rst_76, RN_77, Rld_77, Rst_77, RN_78, Rld_78, Rst_78, RN_79, Rld_79, Rst_79, RN_80, Rld_80, Rst_80, RN_81, Rld_81, Rst_81, RN_82, Rld_82, Rst_82, RN_83, Rld_83, Rst_83, RN_84, Rld_84, Rst_84, RN_85, Rld_85, Rst_85, RN_86, Rld_86, Rst_86, RG_87, RP_87, RG_88, RP_88, RG_89, RP_89, RG_90, RP_90, RG_91, RP_91, RG_92, RP_92, RG_93, RP_93, RN_94, Rld_94, Rst_94, RN_95, Rld_95, Rst_95, RG_96, RP_96, RN_97, Rld_97, Rst_97, RN_98, Rld_98, Rst_98, RN_99, Rld_99, Rst_99, RN_100, Rld_100, Rst_100, RG_101, RP_101, RN_102, Rld_102, Rst_102, RN_103, Rld_103, Rst_103, RN_104, Rld_104, Rst_104, RG_105, RP_105, Option.bind_some, ix_n htn, decide_eq_true (show tn < 4 by omega), if_true, c32 htn]
    by_cases h3 : 0 ≤ (ai R 3 tn).toInt
    · rw [if_pos h3]; simp only [Option.bind_some]; rw [if_pos (by decide)]
      unfold st_place; rw [c32 htn]
      (repeat' split) <;> (first | rfl | omega)
    · rw [if_neg h3]; simp only [Option.bind_some]; rw [if_neg (by decide)]
      unfold st_place; rw [c32 htn]
      (repeat' split) <;> (first | rfl | omega)
  · rw [if_neg h2]; simp only [Option.bind_some]; rw [if_neg (by decide)]; refine congrArg some ?_; exact (if_pos (Or.inr (by omega))).symm
theorem st_place_0 {R : Gs} {t k : Int32} (h : st_place R t k = 0) (hR : RT R) : ∃ tn kn : Nat, t = Int32.ofNat tn ∧ k = Int32.ofNat kn ∧ tn < 4 ∧ (kn : Int) < (ai R 3 tn).toInt ∧ (ai R 3 tn).toInt ≤ 40 := by
  unfold st_place at h
  split at h
  · exact absurd h (by decide)
  · split at h
    · exact absurd h (by decide)
    · split at h
      · exact absurd h (by decide)
      · rename_i h1 h2 h3
        obtain ⟨tn, rfl, htn, ht⟩ := get32 t (by omega)
        obtain ⟨kn, rfl, hkn, hk⟩ := get32 k (by omega)
        rw [c32 htn] at *
        exact ⟨tn, kn, rfl, rfl, by omega, by omega, (hR tn (by omega)).2⟩
def ctv (s : Int32) (v : Int64) : Int64 := if s = 0 then v.toInt32.toInt8.toInt32.toInt64 else if s = 1 then v.toInt32.toInt16.toInt32.toInt64 else if s = 2 then v.toInt32.toInt64 else v
theorem r_cut (σ : Hs) (s : Int32) (v : Int64) : fX12_cut_0 σ s v = some (ctv s v) := by
  unfold fX12_cut_0 ctv
  split
  · rfl
  · split
    · rfl
    · split <;> rfl
theorem st_place_nn (R : Gs) (t k : Int32) : (st_place R t k ≤ 0) ↔ st_place R t k = 0 := by
  unfold st_place
  (repeat' split) <;> decide
theorem st_place_fr (R : Gs) (v : Int32) (t k : Int32) : st_place (sfi R 1 v) t k = st_place R t k := rfl
def u_write (R : Gs) (t k : Int32) (v : Int64) : Gs := sal R 4 (up (al R 4) (40 * t.toNatClampNeg + k.toNatClampNeg) (ctv (ai R 2 t.toNatClampNeg) v))
theorem fr0 (R : Gs) (v : Int32) : Fr SC0 R (sfi (sfi R 1 0) 0 v) := ((Fr.refl _ R).sfi (by decide) _).sfi (by decide) _
theorem r_write (m : Nat) (ρ : Hs) (R : Gs) (hR : RT R) (t k : Int32) (v : Int64) : QB m ρ R (st_place R t k) (u_write R t k v) (fX12_write_0 (eR m ρ R) m t k v) := by
  unfold fX12_write_0
  simp only [RP_1, RP_0, RG_0, RisC, r_placed, bb_0, bb_1, Option.bind_some, st_place_fr, q_fi_sfi, q_fl_sfi, q_fr_sfi, q_ai_sfi, q_al_sfi, q_ar_sfi, q_ln_sfi, q_fi_sfl, q_fl_sfl, q_fr_sfl, q_ai_sfl, q_al_sfl, q_ar_sfl, q_ln_sfl, q_fi_sfr, q_fl_sfr, q_fr_sfr, q_ai_sfr, q_al_sfr, q_ar_sfr, q_ln_sfr, q_fi_sai, q_fl_sai, q_fr_sai, q_ai_sai, q_al_sai, q_ar_sai, q_ln_sai, q_fi_sal, q_fl_sal, q_fr_sal, q_ai_sal, q_al_sal, q_ar_sal, q_ln_sal, q_fi_sar, q_fl_sar, q_fr_sar, q_ai_sar, q_al_sar, q_ar_sar, q_ln_sar, reduceIte, Nat.reduceEqDiff, st_place_nn]
  by_cases h : st_place R t k = 0
  · rw [if_pos h]
    obtain ⟨tn, kn, rfl, rfl, h1, h2, h3⟩ := st_place_0 h hR
    simp only [RisC, RG_0, RP_0, RG_1, RP_1, RN_2, Rld_2, Rst_2, RN_3, Rld_3, Rst_3, RN_4, Rld_4, Rst_4, RG_5, RP_5, RG_6, RP_6, RN_7, Rld_7, Rst_7, RN_8, Rld_8, Rst_8, RN_9, Rld_9, Rst_9, RN_10, Rld_10, Rst_10, RG_11, RP_11, RG_12, RP_12, RN_13, Rld_13, Rst_13, RN_14, Rld_14, Rst_14, RN_15, Rld_15, Rst_15, RN_16, Rld_16, Rst_16, RG_17, RP_17, RG_18, RP_18, RG_19, RP_19, RG_20, RP_20, RG_21, RP_21, RG_22, RP_22, RG_23, RP_23, RG_24, RP_24, RG_25, RP_25, RG_26, RP_26, RG_27, RP_27, RG_28, RP_28, RG_29, RP_29, RG_30, RP_30, RG_31, RP_31, RG_32, RP_32, RN_33, Rld_33, Rst_33, RN_34, Rld_34, Rst_34, RN_35, Rld_35, Rst_35, RN_36, Rld_36, Rst_36, RN_37, Rld_37, Rst_37, RN_38, Rld_38, Rst_38, RN_39, Rld_39, Rst_39, RN_40, Rld_40, Rst_40, RN_41, Rld_41, Rst_41, RN_42, Rld_42, Rst_42, RN_43, Rld_43, Rst_43, RN_44, Rld_44, Rst_44, RN_45, Rld_45, Rst_45, RG_46, RP_46, RG_47, RP_47, RG_48, RP_48, RG_49, RP_49, RN_50, Rld_50, Rst_50, RN_51, Rld_51, Rst_51, RN_52, Rld_52, Rst_52, RN_53, Rld_53, Rst_53, RN_54, Rld_54, Rst_54, RN_55, Rld_55, Rst_55, RG_56, RP_56, RG_57, RP_57, RN_58, Rld_58, Rst_58, RN_59, Rld_59, Rst_59, RN_60, Rld_60, Rst_60, RG_61, RP_61, RG_62, RP_62, RG_63, RP_63, RG_64, RP_64, RG_65, RP_65, RG_66, RP_66, RG_67, RP_67, RG_68, RP_68, RG_69, RP_69, RG_70, RP_70, RG_71, RP_71, RN_72, Rld_72, Rst_72, RN_73, Rld_73, Rst_73, RN_74, Rld_74, Rst_74, RN_75, Rld_75, Rst_75, RN_76, Rld_76, Rst_76, RN_77, Rld_77, Rst_77, RN_78, Rld_78, Rst_78, RN_79, Rld_79, Rst_79, RN_80, Rld_80, Rst_80, RN_81, Rld_81, Rst_81, RN_82, Rld_82, Rst_82, RN_83, Rld_83, Rst_83, RN_84, Rld_84, Rst_84, RN_85, Rld_85, Rst_85, RN_86, Rld_86, Rst_86, RG_87, RP_87, RG_88, RP_88, RG_89, RP_89, RG_90, RP_90, RG_91, RP_91, RG_92, RP_92, RG_93, RP_93, RN_94, Rld_94, Rst_94, RN_95, Rld_95, Rst_95, RG_96, RP_96, RN_97, Rld_97, Rst_97, RN_98, Rld_98, Rst_98, RN_99, Rld_99, Rst_99, RN_100, Rld_100, Rst_100, RG_101, RP_101, RN_102, Rld_102, Rst_102, RN_103, Rld_103, Rst_103, RN_104, Rld_104, Rst_104, RG_105, RP_105, q_fi_sfi, q_fl_sfi, q_fr_sfi, q_ai_sfi, q_al_sfi, q_ar_sfi, q_ln_sfi, q_fi_sfl, q_fl_sfl, q_fr_sfl, q_ai_sfl, q_al_sfl, q_ar_sfl, q_ln_sfl, q_fi_sfr, q_fl_sfr, q_fr_sfr, q_ai_sfr, q_al_sfr, q_ar_sfr, q_ln_sfr, q_fi_sai, q_fl_sai, q_fr_sai, q_ai_sai, q_al_sai, q_ar_sai, q_ln_sai, q_fi_sal, q_fl_sal, q_fr_sal, q_ai_sal, q_al_sal, q_ar_sal, q_ln_sal, q_fi_sar, q_fl_sar, q_fr_sar, q_ai_sar, q_al_sar, q_ar_sar, q_ln_sar, reduceIte, Nat.reduceEqDiff, Option.bind_some, ix_n (show tn < 2147483648 by omega), decide_eq_true h1, if_true, c32 (show tn < 2147483648 by omega), r_cut, l40, mul_n, add_n, ix_n (show 40 * tn + kn < 2147483648 by omega), decide_eq_true (show 40 * tn + kn < 160 by omega), c32 (show 40 * tn + kn < 2147483648 by omega)]
    refine QB.ok h ?_ ?_
    · simp only [q_fi_sfi, q_fl_sfi, q_fr_sfi, q_ai_sfi, q_al_sfi, q_ar_sfi, q_ln_sfi, q_fi_sfl, q_fl_sfl, q_fr_sfl, q_ai_sfl, q_al_sfl, q_ar_sfl, q_ln_sfl, q_fi_sfr, q_fl_sfr, q_fr_sfr, q_ai_sfr, q_al_sfr, q_ar_sfr, q_ln_sfr, q_fi_sai, q_fl_sai, q_fr_sai, q_ai_sai, q_al_sai, q_ar_sai, q_ln_sai, q_fi_sal, q_fl_sal, q_fr_sal, q_ai_sal, q_al_sal, q_ar_sal, q_ln_sal, q_fi_sar, q_fl_sar, q_fr_sar, q_ai_sar, q_al_sar, q_ar_sar, q_ln_sar, reduceIte, Nat.reduceEqDiff]; exact h
    · unfold u_write; rw [c32 (show tn < 2147483648 by omega), c32 (show kn < 2147483648 by omega)]
      exact frc_al (fr0 R _) _ _
  · rw [if_neg h]
    exact QB.no h rfl ((Fr.refl _ R).sfi (by decide) _)
theorem r_read (m : Nat) (ρ : Hs) (R : Gs) (hR : RT R) (t k : Int32) : QL m ρ R (st_place R t k) (al R 4 (40 * t.toNatClampNeg + k.toNatClampNeg)) R (fX12_read_0 (eR m ρ R) m t k) := by
  unfold fX12_read_0
  simp only [RP_1, RP_0, RG_0, RisC, r_placed, bb_0, bb_1, Option.bind_some, st_place_fr, q_fi_sfi, q_fl_sfi, q_fr_sfi, q_ai_sfi, q_al_sfi, q_ar_sfi, q_ln_sfi, q_fi_sfl, q_fl_sfl, q_fr_sfl, q_ai_sfl, q_al_sfl, q_ar_sfl, q_ln_sfl, q_fi_sfr, q_fl_sfr, q_fr_sfr, q_ai_sfr, q_al_sfr, q_ar_sfr, q_ln_sfr, q_fi_sai, q_fl_sai, q_fr_sai, q_ai_sai, q_al_sai, q_ar_sai, q_ln_sai, q_fi_sal, q_fl_sal, q_fr_sal, q_ai_sal, q_al_sal, q_ar_sal, q_ln_sal, q_fi_sar, q_fl_sar, q_fr_sar, q_ai_sar, q_al_sar, q_ar_sar, q_ln_sar, reduceIte, Nat.reduceEqDiff, st_place_nn]
  by_cases h : st_place R t k = 0
  · rw [if_pos h]
    obtain ⟨tn, kn, rfl, rfl, h1, h2, h3⟩ := st_place_0 h hR
    simp only [RisC, RG_0, RP_0, RG_1, RP_1, RN_2, Rld_2, Rst_2, RN_3, Rld_3, Rst_3, RN_4, Rld_4, Rst_4, RG_5, RP_5, RG_6, RP_6, RN_7, Rld_7, Rst_7, RN_8, Rld_8, Rst_8, RN_9, Rld_9, Rst_9, RN_10, Rld_10, Rst_10, RG_11, RP_11, RG_12, RP_12, RN_13, Rld_13, Rst_13, RN_14, Rld_14, Rst_14, RN_15, Rld_15, Rst_15, RN_16, Rld_16, Rst_16, RG_17, RP_17, RG_18, RP_18, RG_19, RP_19, RG_20, RP_20, RG_21, RP_21, RG_22, RP_22, RG_23, RP_23, RG_24, RP_24, RG_25, RP_25, RG_26, RP_26, RG_27, RP_27, RG_28, RP_28, RG_29, RP_29, RG_30, RP_30, RG_31, RP_31, RG_32, RP_32, RN_33, Rld_33, Rst_33, RN_34, Rld_34, Rst_34, RN_35, Rld_35, Rst_35, RN_36, Rld_36, Rst_36, RN_37, Rld_37, Rst_37, RN_38, Rld_38, Rst_38, RN_39, Rld_39, Rst_39, RN_40, Rld_40, Rst_40, RN_41, Rld_41, Rst_41, RN_42, Rld_42, Rst_42, RN_43, Rld_43, Rst_43, RN_44, Rld_44, Rst_44, RN_45, Rld_45, Rst_45, RG_46, RP_46, RG_47, RP_47, RG_48, RP_48, RG_49, RP_49, RN_50, Rld_50, Rst_50, RN_51, Rld_51, Rst_51, RN_52, Rld_52, Rst_52, RN_53, Rld_53, Rst_53, RN_54, Rld_54, Rst_54, RN_55, Rld_55, Rst_55, RG_56, RP_56, RG_57, RP_57, RN_58, Rld_58, Rst_58, RN_59, Rld_59, Rst_59, RN_60, Rld_60, Rst_60, RG_61, RP_61, RG_62, RP_62, RG_63, RP_63, RG_64, RP_64, RG_65, RP_65, RG_66, RP_66, RG_67, RP_67, RG_68, RP_68, RG_69, RP_69, RG_70, RP_70, RG_71, RP_71, RN_72, Rld_72, Rst_72, RN_73, Rld_73, Rst_73, RN_74, Rld_74, Rst_74, RN_75, Rld_75, Rst_75, RN_76, Rld_76, Rst_76, RN_77, Rld_77, Rst_77, RN_78, Rld_78, Rst_78, RN_79, Rld_79, Rst_79, RN_80, Rld_80, Rst_80, RN_81, Rld_81, Rst_81, RN_82, Rld_82, Rst_82, RN_83, Rld_83, Rst_83, RN_84, Rld_84, Rst_84, RN_85, Rld_85, Rst_85, RN_86, Rld_86, Rst_86, RG_87, RP_87, RG_88, RP_88, RG_89, RP_89, RG_90, RP_90, RG_91, RP_91, RG_92, RP_92, RG_93, RP_93, RN_94, Rld_94, Rst_94, RN_95, Rld_95, Rst_95, RG_96, RP_96, RN_97, Rld_97, Rst_97, RN_98, Rld_98, Rst_98, RN_99, Rld_99, Rst_99, RN_100, Rld_100, Rst_100, RG_101, RP_101, RN_102, Rld_102, Rst_102, RN_103, Rld_103, Rst_103, RN_104, Rld_104, Rst_104, RG_105, RP_105, q_fi_sfi, q_fl_sfi, q_fr_sfi, q_ai_sfi, q_al_sfi, q_ar_sfi, q_ln_sfi, q_fi_sfl, q_fl_sfl, q_fr_sfl, q_ai_sfl, q_al_sfl, q_ar_sfl, q_ln_sfl, q_fi_sfr, q_fl_sfr, q_fr_sfr, q_ai_sfr, q_al_sfr, q_ar_sfr, q_ln_sfr, q_fi_sai, q_fl_sai, q_fr_sai, q_ai_sai, q_al_sai, q_ar_sai, q_ln_sai, q_fi_sal, q_fl_sal, q_fr_sal, q_ai_sal, q_al_sal, q_ar_sal, q_ln_sal, q_fi_sar, q_fl_sar, q_fr_sar, q_ai_sar, q_al_sar, q_ar_sar, q_ln_sar, reduceIte, Nat.reduceEqDiff, Option.bind_some, l40, mul_n, add_n, ix_n (show 40 * tn + kn < 2147483648 by omega), decide_eq_true (show 40 * tn + kn < 160 by omega), c32 (show 40 * tn + kn < 2147483648 by omega), if_true]
    refine QL.ok h ?_ ?_ (fr0 R _)
    · rw [c32 (show tn < 2147483648 by omega), c32 (show kn < 2147483648 by omega)]
    · simp only [q_fi_sfi, q_fl_sfi, q_fr_sfi, q_ai_sfi, q_al_sfi, q_ar_sfi, q_ln_sfi, q_fi_sfl, q_fl_sfl, q_fr_sfl, q_ai_sfl, q_al_sfl, q_ar_sfl, q_ln_sfl, q_fi_sfr, q_fl_sfr, q_fr_sfr, q_ai_sfr, q_al_sfr, q_ar_sfr, q_ln_sfr, q_fi_sai, q_fl_sai, q_fr_sai, q_ai_sai, q_al_sai, q_ar_sai, q_ln_sai, q_fi_sal, q_fl_sal, q_fr_sal, q_ai_sal, q_al_sal, q_ar_sal, q_ln_sal, q_fi_sar, q_fl_sar, q_fr_sar, q_ai_sar, q_al_sar, q_ar_sar, q_ln_sar, reduceIte, Nat.reduceEqDiff]; exact h
  · rw [if_neg h]
    exact QL.no h rfl rfl ((Fr.refl _ R).sfi (by decide) _)
