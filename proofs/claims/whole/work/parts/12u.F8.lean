def st_rows (R : Gs) (l g n : Int32) (most : Int) : Int32 := if l.toInt < 0 ∨ 4 ≤ l.toInt ∨ g.toInt < 0 ∨ 4 ≤ g.toInt then 1 else if (ai R 3 l.toNatClampNeg).toInt < 0 ∨ (ai R 3 g.toNatClampNeg).toInt < 0 then 3 else if n.toInt < 1 ∨ most < n.toInt then 5 else if (ai R 3 l.toNatClampNeg).toInt < n.toInt ∨ (ai R 3 g.toNatClampNeg).toInt < n.toInt then 4 else 0
theorem st_rows_0 {R : Gs} (hR : RT R) {l g n : Int32} {most : Int} (h : st_rows R l g n most = 0) : ∃ ln gn nn : Nat, l = Int32.ofNat ln ∧ g = Int32.ofNat gn ∧ n = Int32.ofNat nn ∧ ln < 4 ∧ gn < 4 ∧ 1 ≤ nn ∧ (nn : Int) ≤ most ∧ nn ≤ 40 ∧ (nn : Int) ≤ (ai R 3 ln).toInt ∧ (nn : Int) ≤ (ai R 3 gn).toInt := by
  unfold st_rows at h
  by_cases c1 : l.toInt < 0 ∨ 4 ≤ l.toInt ∨ g.toInt < 0 ∨ 4 ≤ g.toInt
  · rw [if_pos c1] at h; exact absurd h (by decide)
  rw [if_neg c1] at h
  by_cases c2 : (ai R 3 l.toNatClampNeg).toInt < 0 ∨ (ai R 3 g.toNatClampNeg).toInt < 0
  · rw [if_pos c2] at h; exact absurd h (by decide)
  rw [if_neg c2] at h
  by_cases c3 : n.toInt < 1 ∨ most < n.toInt
  · rw [if_pos c3] at h; exact absurd h (by decide)
  rw [if_neg c3] at h
  by_cases c4 : (ai R 3 l.toNatClampNeg).toInt < n.toInt ∨ (ai R 3 g.toNatClampNeg).toInt < n.toInt
  · rw [if_pos c4] at h; exact absurd h (by decide)
  clear h
  obtain ⟨ln, rfl, t1, t2⟩ := get32 l (by omega)
  obtain ⟨gn, rfl, u1, u2⟩ := get32 g (by omega)
  obtain ⟨nn, rfl, n1, n2⟩ := get32 n (by omega)
  rw [c32 t1, c32 u1] at c4
  have ht : ln < 4 := by omega
  have hu : gn < 4 := by omega
  have := hR ln ht
  exact ⟨ln, gn, nn, rfl, rfl, rfl, ht, hu, by omega, by omega, by omega, by omega, by omega⟩
abbrev okA1 (R : Gs) (l g k : Nat) : Prop := -1000000 ≤ (al R 4 (40 * l + k)).toInt ∧ (al R 4 (40 * l + k)).toInt ≤ (al R 4 (40 * g + k)).toInt ∧ (al R 4 (40 * g + k)).toInt ≤ 1000000
abbrev OkA (R : Gs) (l g n : Nat) : Prop := ∀ k, k < n → okA1 R l g k
def st_ans (R : Gs) (l g n : Int32) : Int32 := if st_rows R l g n 12 ≠ 0 then st_rows R l g n 12 else if OkA R l.toNatClampNeg g.toNatClampNeg n.toNatClampNeg then 0 else 5
def anL (R : Gs) (key t n : Nat) : Nat → Int32 := fun q => if q < n then (al R 4 (40 * t + q)).toInt32 else ai R key q
def u_ans (R : Gs) (l g n : Nat) : Gs := sfi (sfi (sfi (sai (sai (sfi R 87 (Int32.ofNat n)) 80 (anL R 80 l n)) 81 (anL R 81 g n)) 90 (Int32.ofNat (agr (anL R 80 l n) (anL R 81 g n) n))) 88 (sLw (anL R 80 l n) (anL R 81 g n) n)) 89 (sTp (anL R 80 l n) (anL R 81 g n) n)
theorem anL_in {R : Gs} {key t n k : Nat} (hk : k < n) : anL R key t n k = (al R 4 (40 * t + k)).toInt32 := if_pos hk
theorem anL_v {R : Gs} {l g n k : Nat} (h : OkA R l g n) (hk : k < n) : (anL R 80 l n k).toInt = (al R 4 (40 * l + k)).toInt ∧ (anL R 81 g n k).toInt = (al R 4 (40 * g + k)).toInt := by
  obtain ⟨h1, h2, h3⟩ := h k hk
  rw [anL_in hk, anL_in hk, dn32 (by omega), dn32 (by omega)]; exact ⟨rfl, rfl⟩
theorem anL_lu {R : Gs} {l g n : Nat} (h : OkA R l g n) : ∀ k, k < n → (anL R 80 l n k).toInt ≤ (anL R 81 g n k).toInt := by
  intro k hk
  have := anL_v h hk
  have := h k hk
  unfold okA1 at this
  omega
theorem sai_cm (G : Gs) (f g h : Nat → Int32) : sai (sai (sai G 80 f) 81 g) 80 h = sai (sai G 80 h) 81 g := by
  have e : up (up (up G.2.2.2.1 80 f) 81 g) 80 h = up (up G.2.2.2.1 80 h) 81 g := by
    funext j; unfold up
    by_cases c : j = 80
    · subst c; rfl
    · by_cases d : j = 81
      · subst d; rfl
      · rw [if_neg c, if_neg d, if_neg c, if_neg d, if_neg c]
  show (G.1, G.2.1, G.2.2.1, up (up (up G.2.2.2.1 80 f) 81 g) 80 h, G.2.2.2.2) = _
  rw [e]; rfl
theorem sai_self (G : Gs) (k : Nat) (f : Nat → Int32) (h : ai G k = f) : sai G k f = G := by
  unfold sai; rw [show up G.2.2.2.1 k f = G.2.2.2.1 from funext fun j => by unfold up; by_cases e : j = k; (rw [if_pos e, e]; exact h.symm); rw [if_neg e]]
section
variable {m : Nat} {ρ : Hs}
theorem r_ans179 {S : Gs} {l g n : Nat} (hl : l < 4) (hg : g < 4) (hn : fi S 87 = Int32.ofNat n) (h0 : 0 < n) (h12 : n ≤ 12) (hok : OkA S l g n) : fX12_answers_179 (eR m ρ S) m (Int32.ofNat l) (Int32.ofNat g) (Int32.ofNat n) 0 = some (Int32.ofNat n - Int32.ofNat (agr (anL S 80 l n) (anL S 81 g n) n), eR m ρ (sfi (sfi (sfi (sai (sai S 80 (anL S 80 l n)) 81 (anL S 81 g n)) 90 (Int32.ofNat (agr (anL S 80 l n) (anL S 81 g n) n))) 88 (sLw (anL S 80 l n) (anL S 81 g n) n)) 89 (sTp (anL S 80 l n) (anL S 81 g n) n))) := by
  unfold fX12_answers_179
  have num : ∀ (f h : Nat → Int32) {t k : Nat}, t < 4 → k < 12 → fX12_numberOf_0 (eR m ρ (sai (sai S 80 f) 81 h)) m (Int32.ofNat t) (Int32.ofNat k) = some (al S 4 (40 * t + k)) := fun f h t k ht hk => r_numberOf (R := sai (sai S 80 f) 81 h) ht (by omega)
  refine lp_q n (fun k z => z = (eR m ρ (sai (sai S 80 (anL S 80 l k)) 81 (anL S 81 g k)), m, Int32.ofNat l, Int32.ofNat g, Int32.ofNat n, Int32.ofNat k)) (fun X => X = some (Int32.ofNat n - Int32.ofNat (agr (anL S 80 l n) (anL S 81 g n) n), eR m ρ (sfi (sfi (sfi (sai (sai S 80 (anL S 80 l n)) 81 (anL S 81 g n)) 90 (Int32.ofNat (agr (anL S 80 l n) (anL S 81 g n) n))) 88 (sLw (anL S 80 l n) (anL S 81 g n) n)) 89 (sTp (anL S 80 l n) (anL S 81 g n) n)))) ?_ ?_ fu 0 _ (by omega) ?_ (by unfold fu; omega)
  · rintro K k _ hk rfl
    left
    have eA : ∀ key t, up (anL S key t k) k (al S 4 (40 * t + k)).toInt32 = anL S key t (k + 1) := by
      intro key t; funext q; unfold up anL
      by_cases c : q = k
      · subst c; rw [if_pos rfl, if_pos (by omega)]
      · rw [if_neg c]
        by_cases d : q < k
        · rw [if_pos d, if_pos (by omega)]
        · rw [if_neg d, if_neg (by omega)]
    simp only [fbX12_answers_179, RisC, RG_0, RP_0, RG_1, RP_1, RN_2, Rld_2, Rst_2, RN_3, Rld_3, Rst_3, RN_4, Rld_4, Rst_4, RG_5, RP_5, RG_6, RP_6, RN_7, Rld_7, Rst_7, RN_8, Rld_8, Rst_8, RN_9, Rld_9, Rst_9, RN_10, Rld_10, Rst_10, RG_11, RP_11, RG_12, RP_12, RN_13, Rld_13, Rst_13, RN_14, Rld_14, Rst_14, RN_15, Rld_15, Rst_15, RN_16, Rld_16, Rst_16, RG_17, RP_17, RG_18, RP_18, RG_19, RP_19, RG_20, RP_20, RG_21, RP_21, RG_22, RP_22, RG_23, RP_23, RG_24, RP_24, RG_25, RP_25, RG_26, RP_26, RG_27, RP_27, RG_28, RP_28, RG_29, RP_29, RG_30, RP_30, RG_31, RP_31, RG_32, RP_32, RN_33, Rld_33, Rst_33, RN_34, Rld_34, Rst_34, RN_35, Rld_35, Rst_35, RN_36, Rld_36, Rst_36, RN_37, Rld_37, Rst_37, RN_38, Rld_38, Rst_38, RN_39, Rld_39, Rst_39, RN_40, Rld_40, Rst_40, RN_41, Rld_41, Rst_41, RN_42, Rld_42, Rst_42, RN_43, Rld_43, Rst_43, RN_44, Rld_44, Rst_44, RN_45, Rld_45, Rst_45, RG_46, RP_46, RG_47, RP_47, RG_48, RP_48, RG_49, RP_49, RN_50, Rld_50, Rst_50, RN_51, Rld_51, Rst_51, RN_52, Rld_52, Rst_52, RN_53, Rld_53, Rst_53, RN_54, Rld_54, Rst_54, RN_55, Rld_55, Rst_55, RG_56, RP_56, RG_57, RP_57, RN_58, Rld_58, Rst_58, RN_59, Rld_59, Rst_59, RN_60, Rld_60, Rst_60, RG_61, RP_61, RG_62, RP_62, RG_63, RP_63, RG_64, RP_64, RG_65, RP_65, RG_66, RP_66, RG_67, RP_67, RG_68, RP_68, RG_69, RP_69, RG_70, RP_70, RG_71, RP_71, RN_72, Rld_72, Rst_72, RN_73, Rld_73, Rst_73, RN_74, Rld_74, Rst_74, RN_75, Rld_75, Rst_75, RN_76, Rld_76, Rst_76, RN_77, Rld_77, Rst_77, RN_78, Rld_78, Rst_78, RN_79, Rld_79, Rst_79, RN_80, Rld_80, Rst_80, RN_81, Rld_81, Rst_81, RN_82, Rld_82, Rst_82, RN_83, Rld_83, Rst_83, RN_84, Rld_84, Rst_84, RN_85, Rld_85, Rst_85, RN_86, Rld_86, Rst_86, RG_87, RP_87, RG_88, RP_88, RG_89, RP_89, RG_90, RP_90, RG_91, RP_91, RG_92, RP_92, RG_93, RP_93, RN_94, Rld_94, Rst_94, RN_95, Rld_95, Rst_95, RG_96, RP_96, RN_97, Rld_97, Rst_97, RN_98, Rld_98, Rst_98, RN_99, Rld_99, Rst_99, RN_100, Rld_100, Rst_100, RG_101, RP_101, RN_102, Rld_102, Rst_102, RN_103, Rld_103, Rst_103, RN_104, Rld_104, Rst_104, RG_105, RP_105, q_fi_sfi, q_fl_sfi, q_fr_sfi, q_ai_sfi, q_al_sfi, q_ar_sfi, q_ln_sfi, q_fi_sfl, q_fl_sfl, q_fr_sfl, q_ai_sfl, q_al_sfl, q_ar_sfl, q_ln_sfl, q_fi_sfr, q_fl_sfr, q_fr_sfr, q_ai_sfr, q_al_sfr, q_ar_sfr, q_ln_sfr, q_fi_sai, q_fl_sai, q_fr_sai, q_ai_sai, q_al_sai, q_ar_sai, q_ln_sai, q_fi_sal, q_fl_sal, q_fr_sal, q_ai_sal, q_al_sal, q_ar_sal, q_ln_sal, q_fi_sar, q_fl_sar, q_fr_sar, q_ai_sar, q_al_sar, q_ar_sar, q_ln_sar, reduceIte, Nat.reduceEqDiff, Option.bind_some, num _ _ hl (show k < 12 by omega), num _ _ hg (show k < 12 by omega), le_n (show n < 2147483648 by omega) (show k < 2147483648 by omega), if_neg (show ¬ n ≤ k by omega), ix_n (show k < 2147483648 by omega), decide_eq_true (show k < 12 by omega), if_true, c32 (show k < 2147483648 by omega), suc32, sai_cm, sai_sai, eA]
    exact ⟨_, rfl, rfl⟩
  · rintro K _ rfl
    simp only [fbX12_answers_179, RisC, RG_0, RP_0, RG_1, RP_1, RN_2, Rld_2, Rst_2, RN_3, Rld_3, Rst_3, RN_4, Rld_4, Rst_4, RG_5, RP_5, RG_6, RP_6, RN_7, Rld_7, Rst_7, RN_8, Rld_8, Rst_8, RN_9, Rld_9, Rst_9, RN_10, Rld_10, Rst_10, RG_11, RP_11, RG_12, RP_12, RN_13, Rld_13, Rst_13, RN_14, Rld_14, Rst_14, RN_15, Rld_15, Rst_15, RN_16, Rld_16, Rst_16, RG_17, RP_17, RG_18, RP_18, RG_19, RP_19, RG_20, RP_20, RG_21, RP_21, RG_22, RP_22, RG_23, RP_23, RG_24, RP_24, RG_25, RP_25, RG_26, RP_26, RG_27, RP_27, RG_28, RP_28, RG_29, RP_29, RG_30, RP_30, RG_31, RP_31, RG_32, RP_32, RN_33, Rld_33, Rst_33, RN_34, Rld_34, Rst_34, RN_35, Rld_35, Rst_35, RN_36, Rld_36, Rst_36, RN_37, Rld_37, Rst_37, RN_38, Rld_38, Rst_38, RN_39, Rld_39, Rst_39, RN_40, Rld_40, Rst_40, RN_41, Rld_41, Rst_41, RN_42, Rld_42, Rst_42, RN_43, Rld_43, Rst_43, RN_44, Rld_44, Rst_44, RN_45, Rld_45, Rst_45, RG_46, RP_46, RG_47, RP_47, RG_48, RP_48, RG_49, RP_49, RN_50, Rld_50, Rst_50, RN_51, Rld_51, Rst_51, RN_52, Rld_52, Rst_52, RN_53, Rld_53, Rst_53, RN_54, Rld_54, Rst_54, RN_55, Rld_55, Rst_55, RG_56, RP_56, RG_57, RP_57, RN_58, Rld_58, Rst_58, RN_59, Rld_59, Rst_59, RN_60, Rld_60, Rst_60, RG_61, RP_61, RG_62, RP_62, RG_63, RP_63, RG_64, RP_64, RG_65, RP_65, RG_66, RP_66, RG_67, RP_67, RG_68, RP_68, RG_69, RP_69, RG_70, RP_70, RG_71, RP_71, RN_72, Rld_72, Rst_72, RN_73, Rld_73, Rst_73, RN_74, Rld_74, Rst_74, RN_75, Rld_75, Rst_75, RN_76, Rld_76, Rst_76, RN_77, Rld_77, Rst_77, RN_78, Rld_78, Rst_78, RN_79, Rld_79, Rst_79, RN_80, Rld_80, Rst_80, RN_81, Rld_81, Rst_81, RN_82, Rld_82, Rst_82, RN_83, Rld_83, Rst_83, RN_84, Rld_84, Rst_84, RN_85, Rld_85, Rst_85, RN_86, Rld_86, Rst_86, RG_87, RP_87, RG_88, RP_88, RG_89, RP_89, RG_90, RP_90, RG_91, RP_91, RG_92, RP_92, RG_93, RP_93, RN_94, Rld_94, Rst_94, RN_95, Rld_95, Rst_95, RG_96, RP_96, RN_97, Rld_97, Rst_97, RN_98, Rld_98, Rst_98, RN_99, Rld_99, Rst_99, RN_100, Rld_100, Rst_100, RG_101, RP_101, RN_102, Rld_102, Rst_102, RN_103, Rld_103, Rst_103, RN_104, Rld_104, Rst_104, RG_105, RP_105, Option.bind_some, Int32.le_refl, if_true]
    have h := r_ans229 (m := m) (ρ := ρ) (S := sfi (sai (sai S 80 (anL S 80 l n)) 81 (anL S 81 g n)) 90 0) hn h0 h12 rfl (anL_lu hok)
    rw [h, sfi_sfi]; rfl
  · rw [show sai (sai S 80 (anL S 80 l 0)) 81 (anL S 81 g 0) = S by rw [sai_self S 80 (anL S 80 l 0) (funext fun q => (if_neg (Nat.not_lt_zero q)).symm), sai_self S 81 (anL S 81 g 0) (funext fun q => (if_neg (Nat.not_lt_zero q)).symm)]]; rfl
theorem r_answers (m : Nat) (ρ : Hs) (R : Gs) (hR : RT R) (l g n : Int32) : QI m ρ R (st_ans R l g n) (n - Int32.ofNat (agr (anL R 80 l.toNatClampNeg n.toNatClampNeg) (anL R 81 g.toNatClampNeg n.toNatClampNeg) n.toNatClampNeg)) (u_ans R l.toNatClampNeg g.toNatClampNeg n.toNatClampNeg) (fX12_answers_0 (eR m ρ R) m l g n) := by
  unfold fX12_answers_0
  have hs1 : ∀ v, v ≠ 0 → st_rows R l g n 12 = v → st_ans R l g n = v := fun v hv h => by unfold st_ans; rw [if_pos (by rw [h]; exact hv), h]
  simp only [RP_1, RP_0, RisC, r_refuse, Option.bind_some, r_isI, b2i_0, Int64.reduceToInt]
  rcases Decidable.em (¬ (0 ≤ l.toInt ∧ l.toInt ≤ 3)) with hc1 | hc1
  · rw [if_pos hc1]; exact QI.no (by decide) (hs1 1 (by decide) (by unfold st_rows; (repeat' split) <;> (first | rfl | omega))) (fr1 R)
  rw [if_neg hc1]
  rcases Decidable.em (¬ (0 ≤ g.toInt ∧ g.toInt ≤ 3)) with hc2 | hc2
  · rw [if_pos hc2]; exact QI.no (by decide) (hs1 1 (by decide) (by unfold st_rows; (repeat' split) <;> (first | rfl | omega))) (fr1 R)
  rw [if_neg hc2]
  obtain ⟨ln, rfl, t1, t2⟩ := get32 l (by omega)
  obtain ⟨gn, rfl, u1, u2⟩ := get32 g (by omega)
  have ht : ln < 4 := by omega
  have hu : gn < 4 := by omega
  have a1 := hR ln ht
  have a2 := hR gn hu
  have hs : st_rows R (Int32.ofNat ln) (Int32.ofNat gn) n 12 = if (ai R 3 ln).toInt < 0 ∨ (ai R 3 gn).toInt < 0 then 3 else if n.toInt < 1 ∨ 12 < n.toInt then 5 else if (ai R 3 ln).toInt < n.toInt ∨ (ai R 3 gn).toInt < n.toInt then 4 else 0 := by
    unfold st_rows; rw [if_neg (by omega), c32 t1, c32 u1]
  simp only [RisC, RG_0, RP_0, RG_1, RP_1, RN_2, Rld_2, Rst_2, RN_3, Rld_3, Rst_3, RN_4, Rld_4, Rst_4, RG_5, RP_5, RG_6, RP_6, RN_7, Rld_7, Rst_7, RN_8, Rld_8, Rst_8, RN_9, Rld_9, Rst_9, RN_10, Rld_10, Rst_10, RG_11, RP_11, RG_12, RP_12, RN_13, Rld_13, Rst_13, RN_14, Rld_14, Rst_14, RN_15, Rld_15, Rst_15, RN_16, Rld_16, Rst_16, RG_17, RP_17, RG_18, RP_18, RG_19, RP_19, RG_20, RP_20, RG_21, RP_21, RG_22, RP_22, RG_23, RP_23, RG_24, RP_24, RG_25, RP_25, RG_26, RP_26, RG_27, RP_27, RG_28, RP_28, RG_29, RP_29, RG_30, RP_30, RG_31, RP_31, RG_32, RP_32, RN_33, Rld_33, Rst_33, RN_34, Rld_34, Rst_34, RN_35, Rld_35, Rst_35, RN_36, Rld_36, Rst_36, RN_37, Rld_37, Rst_37, RN_38, Rld_38, Rst_38, RN_39, Rld_39, Rst_39, RN_40, Rld_40, Rst_40, RN_41, Rld_41, Rst_41, RN_42, Rld_42, Rst_42, RN_43, Rld_43, Rst_43, RN_44, Rld_44, Rst_44, RN_45, Rld_45, Rst_45, RG_46, RP_46, RG_47, RP_47, RG_48, RP_48, RG_49, RP_49, RN_50, Rld_50, Rst_50, RN_51, Rld_51, Rst_51, RN_52, Rld_52, Rst_52, RN_53, Rld_53, Rst_53, RN_54, Rld_54, Rst_54, RN_55, Rld_55, Rst_55, RG_56, RP_56, RG_57, RP_57, RN_58, Rld_58, Rst_58, RN_59, Rld_59, Rst_59, RN_60, Rld_60, Rst_60, RG_61, RP_61, RG_62, RP_62, RG_63, RP_63, RG_64, RP_64, RG_65, RP_65, RG_66, RP_66, RG_67, RP_67, RG_68, RP_68, RG_69, RP_69, RG_70, RP_70, RG_71, RP_71, RN_72, Rld_72, Rst_72, RN_73, Rld_73, Rst_73, RN_74, Rld_74, Rst_74, RN_75, Rld_75, Rst_75, RN_76, Rld_76, Rst_76, RN_77, Rld_77, Rst_77, RN_78, Rld_78, Rst_78, RN_79, Rld_79, Rst_79, RN_80, Rld_80, Rst_80, RN_81, Rld_81, Rst_81, RN_82, Rld_82, Rst_82, RN_83, Rld_83, Rst_83, RN_84, Rld_84, Rst_84, RN_85, Rld_85, Rst_85, RN_86, Rld_86, Rst_86, RG_87, RP_87, RG_88, RP_88, RG_89, RP_89, RG_90, RP_90, RG_91, RP_91, RG_92, RP_92, RG_93, RP_93, RN_94, Rld_94, Rst_94, RN_95, Rld_95, Rst_95, RG_96, RP_96, RN_97, Rld_97, Rst_97, RN_98, Rld_98, Rst_98, RN_99, Rld_99, Rst_99, RN_100, Rld_100, Rst_100, RG_101, RP_101, RN_102, Rld_102, Rst_102, RN_103, Rld_103, Rst_103, RN_104, Rld_104, Rst_104, RG_105, RP_105, q_fi_sfi, q_fl_sfi, q_fr_sfi, q_ai_sfi, q_al_sfi, q_ar_sfi, q_ln_sfi, q_fi_sfl, q_fl_sfl, q_fr_sfl, q_ai_sfl, q_al_sfl, q_ar_sfl, q_ln_sfl, q_fi_sfr, q_fl_sfr, q_fr_sfr, q_ai_sfr, q_al_sfr, q_ar_sfr, q_ln_sfr, q_fi_sai, q_fl_sai, q_fr_sai, q_ai_sai, q_al_sai, q_ar_sai, q_ln_sai, q_fi_sal, q_fl_sal, q_fr_sal, q_ai_sal, q_al_sal, q_ar_sal, q_ln_sal, q_fi_sar, q_fl_sar, q_fr_sar, q_ai_sar, q_al_sar, q_ar_sar, q_ln_sar, reduceIte, Nat.reduceEqDiff, Option.bind_some, ix_n t1, ix_n u1, decide_eq_true ht, decide_eq_true hu, if_true, c32 t1, c32 u1, lt32, le32, i0]
  rcases Decidable.em ((ai R 3 ln).toInt < 0) with hc3 | hc3
  · rw [if_pos hc3]; exact QI.no (by decide) (hs1 3 (by decide) (by rw [hs, if_pos (Or.inl hc3)])) (fr1 R)
  rw [if_neg hc3]
  rcases Decidable.em (¬ (0 ≤ (ai R 3 gn).toInt)) with hc4 | hc4
  · rw [if_neg hc4]; exact QI.no (by decide) (hs1 3 (by decide) (by rw [hs, if_pos (Or.inr (by omega))])) (fr1 R)
  replace hc4 := Decidable.not_not.mp hc4
  rw [if_pos hc4]
  rw [if_neg (by omega)] at hs
  rcases Decidable.em (¬ (1 ≤ n.toInt ∧ n.toInt ≤ 12)) with hc5 | hc5
  · rw [if_pos hc5]; exact QI.no (by decide) (hs1 5 (by decide) (by rw [hs, if_pos (by omega)])) (fr1 R)
  rw [if_neg hc5]
  rw [if_neg (by omega)] at hs
  rcases Decidable.em ((ai R 3 ln).toInt < n.toInt) with hc6 | hc6
  · rw [if_pos hc6]; exact QI.no (by decide) (hs1 4 (by decide) (by rw [hs, if_pos (by omega)])) (fr1 R)
  rw [if_neg hc6]
  rcases Decidable.em (¬ (n.toInt ≤ (ai R 3 gn).toInt)) with hc7 | hc7
  · rw [if_neg hc7]; exact QI.no (by decide) (hs1 4 (by decide) (by rw [hs, if_pos (by omega)])) (fr1 R)
  replace hc7 := Decidable.not_not.mp hc7
  rw [if_pos hc7]
  rw [if_neg (by omega)] at hs
  obtain ⟨nn, rfl, n1, n2⟩ := get32 n (by omega)
  have hs2 : st_ans R (Int32.ofNat ln) (Int32.ofNat gn) (Int32.ofNat nn) = if OkA R ln gn nn then 0 else 5 := by
    unfold st_ans; rw [if_neg (fun q => q hs), c32 t1, c32 u1, c32 n1]
  rw [c32 n1]
  unfold fX12_answers_111
  have num : ∀ {t k : Nat}, t < 4 → k < 12 → fX12_numberOf_0 (eR m ρ (sfi (sfi R 1 0) 0 0)) m (Int32.ofNat t) (Int32.ofNat k) = some (al R 4 (40 * t + k)) := fun ht hk => r_numberOf (R := sfi (sfi R 1 0) 0 0) ht (by omega)
  refine lp_q nn (fun k z => z = (eR m ρ (sfi (sfi R 1 0) 0 0), m, Int32.ofNat ln, Int32.ofNat gn, Int32.ofNat nn, Int32.ofNat k) ∧ OkA R ln gn k) (QI m ρ R (st_ans R (Int32.ofNat ln) (Int32.ofNat gn) (Int32.ofNat nn)) (Int32.ofNat nn - Int32.ofNat (agr (anL R 80 ln nn) (anL R 81 gn nn) nn)) (u_ans R ln gn nn)) ?_ ?_ fu 0 _ (by omega) ⟨rfl, fun k hk => absurd hk (by omega)⟩ (by unfold fu; omega)
  · rintro K k _ hk ⟨rfl, hok⟩
    have e6 : ((-1000000 : Int64)).toInt = -1000000 := rfl
    have e7 : ((1000000 : Int64)).toInt = 1000000 := rfl
    simp only [fbX12_answers_111, RisC, r_refuse, num ht (show k < 12 by omega), num hu (show k < 12 by omega), r_isIn, Option.bind_some, le_n (show nn < 2147483648 by omega) (show k < 2147483648 by omega), if_neg (show ¬ nn ≤ k by omega), b2i_0, le64, e6, e7, suc32]
    by_cases c : okA1 R ln gn k
    · left
      unfold okA1 at c
      rw [if_neg (by omega), if_neg (by omega)]
      refine ⟨_, ⟨rfl, fun j hj => ?_⟩, rfl⟩
      by_cases d : j = k
      · subst d; exact c
      · exact hok j (by omega)
    · right
      have e5 : st_ans R (Int32.ofNat ln) (Int32.ofNat gn) (Int32.ofNat nn) = 5 := by rw [hs2, if_neg (fun q => c (q k hk))]
      unfold okA1 at c
      by_cases d : -1000000 ≤ (al R 4 (40 * ln + k)).toInt ∧ (al R 4 (40 * ln + k)).toInt ≤ 1000000
      · rw [if_neg (fun q => q d), if_pos (by omega)]; exact QI.no (by decide) e5 (fr1 R)
      · rw [if_pos d]; exact QI.no (by decide) e5 (fr1 R)
  · rintro K _ ⟨rfl, hok⟩
    simp only [fbX12_answers_111, RisC, RG_0, RP_0, RG_1, RP_1, RN_2, Rld_2, Rst_2, RN_3, Rld_3, Rst_3, RN_4, Rld_4, Rst_4, RG_5, RP_5, RG_6, RP_6, RN_7, Rld_7, Rst_7, RN_8, Rld_8, Rst_8, RN_9, Rld_9, Rst_9, RN_10, Rld_10, Rst_10, RG_11, RP_11, RG_12, RP_12, RN_13, Rld_13, Rst_13, RN_14, Rld_14, Rst_14, RN_15, Rld_15, Rst_15, RN_16, Rld_16, Rst_16, RG_17, RP_17, RG_18, RP_18, RG_19, RP_19, RG_20, RP_20, RG_21, RP_21, RG_22, RP_22, RG_23, RP_23, RG_24, RP_24, RG_25, RP_25, RG_26, RP_26, RG_27, RP_27, RG_28, RP_28, RG_29, RP_29, RG_30, RP_30, RG_31, RP_31, RG_32, RP_32, RN_33, Rld_33, Rst_33, RN_34, Rld_34, Rst_34, RN_35, Rld_35, Rst_35, RN_36, Rld_36, Rst_36, RN_37, Rld_37, Rst_37, RN_38, Rld_38, Rst_38, RN_39, Rld_39, Rst_39, RN_40, Rld_40, Rst_40, RN_41, Rld_41, Rst_41, RN_42, Rld_42, Rst_42, RN_43, Rld_43, Rst_43, RN_44, Rld_44, Rst_44, RN_45, Rld_45, Rst_45, RG_46, RP_46, RG_47, RP_47, RG_48, RP_48, RG_49, RP_49, RN_50, Rld_50, Rst_50, RN_51, Rld_51, Rst_51, RN_52, Rld_52, Rst_52, RN_53, Rld_53, Rst_53, RN_54, Rld_54, Rst_54, RN_55, Rld_55, Rst_55, RG_56, RP_56, RG_57, RP_57, RN_58, Rld_58, Rst_58, RN_59, Rld_59, Rst_59, RN_60, Rld_60, Rst_60, RG_61, RP_61, RG_62, RP_62, RG_63, RP_63, RG_64, RP_64, RG_65, RP_65, RG_66, RP_66, RG_67, RP_67, RG_68, RP_68, RG_69, RP_69, RG_70, RP_70, RG_71, RP_71, RN_72, Rld_72, Rst_72, RN_73, Rld_73, Rst_73, RN_74, Rld_74, Rst_74, RN_75, Rld_75, Rst_75, RN_76, Rld_76, Rst_76, RN_77, Rld_77, Rst_77, RN_78, Rld_78, Rst_78, RN_79, Rld_79, Rst_79, RN_80, Rld_80, Rst_80, RN_81, Rld_81, Rst_81, RN_82, Rld_82, Rst_82, RN_83, Rld_83, Rst_83, RN_84, Rld_84, Rst_84, RN_85, Rld_85, Rst_85, RN_86, Rld_86, Rst_86, RG_87, RP_87, RG_88, RP_88, RG_89, RP_89, RG_90, RP_90, RG_91, RP_91, RG_92, RP_92, RG_93, RP_93, RN_94, Rld_94, Rst_94, RN_95, Rld_95, Rst_95, RG_96, RP_96, RN_97, Rld_97, Rst_97, RN_98, Rld_98, Rst_98, RN_99, Rld_99, Rst_99, RN_100, Rld_100, Rst_100, RG_101, RP_101, RN_102, Rld_102, Rst_102, RN_103, Rld_103, Rst_103, RN_104, Rld_104, Rst_104, RG_105, RP_105, Option.bind_some, Int32.le_refl, if_true]
    rw [r_ans179 (S := sfi (sfi (sfi R 1 0) 0 0) 87 (Int32.ofNat nn)) ht hu rfl (by omega) (by omega) hok]
    refine QI.ok (by rw [hs2, if_pos hok]) rfl rfl ?_
    exact frc_fi (frc_fi (frc_fi (frc_ai (frc_ai (frc_fi (fr1 R) _ _) _ _) _ _) _ _) _ _) _ _
end
