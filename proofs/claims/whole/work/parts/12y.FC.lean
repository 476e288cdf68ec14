def sS (w : Nat) (s : Int32) : Int64 := if w = 4 then (if s = 86400 then 0 else 1000 * s.toInt64) else th (Int32.ofNat w) 1 s
theorem ne4 {w : Nat} (hw : w < 5) : (Int32.ofNat w = 4) = (w = 4) := by
  rw [show (4 : Int32) = Int32.ofNat 4 from rfl, eqn (by omega) (by omega)]
theorem r_showsSo (σ : Hs) {w : Nat} (hw : w < 5) (s : Int32) : fX12_showsSo_0 σ (Int32.ofNat w) s = some (sS w s) := by
  unfold fX12_showsSo_0 sS
  simp only [ne4 hw]
  by_cases c : w = 4
  · rw [if_pos c, if_pos c]; by_cases d : s = 86400
    · rw [if_pos d, if_pos d]
    · rw [if_neg d, if_neg d]
  · rw [if_neg c, if_neg c, r_thousandths σ _ _ _ (by decide)]; rfl
theorem x_shown (σ : Hs) {w : Nat} (hw : w < 5) (s : Int32) (hs : 0 ≤ s.toInt ∧ s.toInt ≤ 86400) : fX11_thousandthsShown_0 σ (Int32.ofNat w) s 1 = some (sS w s) := by
  unfold sS
  by_cases c : w = 4
  · subst c
    rw [if_pos rfl]
    unfold fX11_thousandthsShown_0 fX11_thousandthsShown_40
    rw [if_neg (show ¬ Int32.ofNat 4 = 3 by decide), if_neg (show ¬ Int32.ofNat 4 = 3 by decide)]
    have e : (86400 : Int32).toInt = 86400 := rfl
    by_cases d : s < 86400
    · rw [if_pos d, if_neg]
      intro q; rw [lt32, e] at d; rw [eq32, e] at q; omega
    · rw [if_neg d, if_neg (show ¬ Int32.ofNat 4 = 0 by decide), if_neg (show ¬ Int32.ofNat 4 = 1 by decide), if_neg (show ¬ Int32.ofNat 4 = 2 by decide), if_pos]
      rw [lt32, e] at d; rw [eq32, e]; omega
  · rw [if_neg c]
    refine x_thShown σ _ s 1 (by rw [n32 (by omega)]; omega) (by decide) ?_
    show s.toInt < 86400 + (1 : Int); omega
abbrev okS1 (R : Gs) (l g k : Nat) : Prop := (0 ≤ (al R 4 (40 * l + k)).toInt ∧ (al R 4 (40 * l + k)).toInt ≤ 86400) ∧ 0 ≤ (al R 4 (40 * g + k)).toInt ∧ (al R 4 (40 * g + k)).toInt ≤ 86400000
abbrev OkS (R : Gs) (l g n : Nat) : Prop := ∀ k, k < n → okS1 R l g k
abbrev qW (R : Gs) (l g n w : Nat) : Prop := ∀ k, k < n → sS w (al R 4 (40 * l + k)).toInt32 = al R 4 (40 * g + k)
def fW (q : Nat → Bool) : Nat → Int32
  | 0 => 0
  | w + 1 => fW q w ||| (if q w = true then (1 : Int32) <<< (Int32.ofNat w &&& 31) else 0)
def fdW (R : Gs) (l g n : Nat) : Int32 := fW (fun w => decide (qW R l g n w)) 5
theorem fW_b (q : Nat → Bool) : 0 ≤ (fW q 5).toInt ∧ (fW q 5).toInt ≤ 31 := by
  unfold fW fW fW fW fW fW
  cases q 0 <;> cases q 1 <;> cases q 2 <;> cases q 3 <;> cases q 4 <;> decide
def st_find (R : Gs) (l g n : Int32) : Int32 := if st_rows R l g n 20 ≠ 0 then st_rows R l g n 20 else if OkS R l.toNatClampNeg g.toNatClampNeg n.toNatClampNeg then 0 else 5
theorem c5n {k : Nat} (hk : k < 2147483648) : ((5 : Int32) ≤ Int32.ofNat k) = (5 ≤ k) := by
  rw [show (5 : Int32) = Int32.ofNat 5 from rfl]; exact propext (le_n (by decide) hk)
section
variable {m : Nat} {ρ : Hs}
theorem r_find181 {S : Gs} {l g n w : Nat} (hl : l < 4) (hg : g < 4) (hn : n ≤ 20) (hw : w < 5) (f : Int32) (k169 : Hs → Nat → Int32 → Int32 → Int32 → Int32 → Int32 → Option (Int32 × Hs)) : fX12_find_181 k169 (eR m ρ S) m (Int32.ofNat l) (Int32.ofNat g) (Int32.ofNat n) f (Int32.ofNat w) 1 0 = k169 (eR m ρ S) m (Int32.ofNat l) (Int32.ofNat g) (Int32.ofNat n) (f ||| (if qW S l g n w then (1 : Int32) <<< (Int32.ofNat w &&& 31) else 0)) (Int32.ofNat (w + 1)) := by
  unfold fX12_find_181
  have num : ∀ {t k : Nat}, t < 4 → k < 40 → fX12_numberOf_0 (eR m ρ S) m (Int32.ofNat t) (Int32.ofNat k) = some (al S 4 (40 * t + k)) := fun ht hk => r_numberOf ht hk
  refine lp_q n (fun k z => z = (eR m ρ S, m, Int32.ofNat l, Int32.ofNat g, Int32.ofNat n, f, Int32.ofNat w, b2i (qW S l g k w), Int32.ofNat k)) (fun X => X = k169 (eR m ρ S) m (Int32.ofNat l) (Int32.ofNat g) (Int32.ofNat n) (f ||| (if qW S l g n w then (1 : Int32) <<< (Int32.ofNat w &&& 31) else 0)) (Int32.ofNat (w + 1))) ?_ ?_ fu 0 _ (by omega) ?_ (by unfold fu; omega)
  · rintro K k _ hk rfl
    left
    simp only [fbX12_find_181, RisC, num hl (show k < 40 by omega), num hg (show k < 40 by omega), r_showsSo _ hw, Option.bind_some, le_n (show n < 2147483648 by omega) (show k < 2147483648 by omega), if_neg (show ¬ n ≤ k by omega), suc32, b2i_0]
    refine ⟨_, rfl, ?_⟩
    by_cases c : qW S l g k w
    · rw [if_neg (fun q => q c)]
      by_cases d : sS w (al S 4 (40 * l + k)).toInt32 = al S 4 (40 * g + k)
      · rw [if_pos d, show b2i (qW S l g (k + 1) w) = 1 from if_pos (fun j hj => by
          by_cases e : j = k
          · rw [e]; exact d
          · exact c j (by omega))]
      · rw [if_neg d, show b2i (qW S l g (k + 1) w) = 0 from if_neg (fun q => d (q k (by omega)))]
    · rw [if_pos c, show b2i (qW S l g (k + 1) w) = 0 from if_neg (fun q => c (fun j hj => q j (by omega)))]
  · rintro K _ rfl
    simp only [fbX12_find_181, Int32.le_refl, if_true, b2i_0, suc32]
    by_cases c : qW S l g n w
    · rw [if_neg (fun q => q c), if_pos c]
    · rw [if_pos c, if_neg c]
  · rw [show b2i (qW S l g 0 w) = 1 from if_pos (fun j hj => absurd hj (by omega))]; rfl
theorem r_find169 {S : Gs} {l g n : Nat} (hl : l < 4) (hg : g < 4) (hn : n ≤ 20) : fX12_find_169 (eR m ρ S) m (Int32.ofNat l) (Int32.ofNat g) (Int32.ofNat n) 0 0 = some (fdW S l g n, eR m ρ (sfi S 91 (fdW S l g n))) := by
  unfold fX12_find_169
  refine lp_q 5 (fun k z => z = (eR m ρ S, m, Int32.ofNat l, Int32.ofNat g, Int32.ofNat n, fW (fun w => decide (qW S l g n w)) k, Int32.ofNat k)) (fun X => X = some (fdW S l g n, eR m ρ (sfi S 91 (fdW S l g n)))) ?_ ?_ fu 0 _ (by omega) rfl (by unfold fu; omega)
  · rintro K k _ hk rfl
    left
    refine ⟨_, rfl, ?_⟩
    simp only [fbX12_find_169, c5n (show k < 2147483648 by omega), if_neg (show ¬ 5 ≤ k by omega), r_find181 hl hg hn hk]
    show K (eR m ρ S, m, Int32.ofNat l, Int32.ofNat g, Int32.ofNat n, _, _) = K (eR m ρ S, m, Int32.ofNat l, Int32.ofNat g, Int32.ofNat n, fW (fun w => decide (qW S l g n w)) k ||| (if decide (qW S l g n k) = true then (1 : Int32) <<< (Int32.ofNat k &&& 31) else 0), _)
    simp only [decide_eq_true_eq]
  · rintro K _ rfl
    simp only [fbX12_find_169, c5n (show 5 < 2147483648 by decide), Nat.le_refl, if_true, RP_91, Option.bind_some]
    rfl
theorem r_findW (m : Nat) (ρ : Hs) (R : Gs) (hR : RT R) (l g n : Int32) : QI m ρ R (st_find R l g n) (fdW R l.toNatClampNeg g.toNatClampNeg n.toNatClampNeg) (sfi R 91 (fdW R l.toNatClampNeg g.toNatClampNeg n.toNatClampNeg)) (fX12_find_0 (eR m ρ R) m l g n) := by
  unfold fX12_find_0
  have hs1 : ∀ v, v ≠ 0 → st_rows R l g n 20 = v → st_find R l g n = v := fun v hv h => by unfold st_find; rw [if_pos (by rw [h]; exact hv), h]
  simp only [RP_1, RP_0, RisC, r_refuse, Option.bind_some, r_isI, b2i_0, Int64.reduceToInt]
  rcases Decidable.em (¬ (0 ≤ l.toInt ∧ l.toInt ≤ 3)) with hc1 | hc1
  · rw [if_pos hc1]; exact QI.no (by decide) (hs1 1 (by decide) (by unfold st_rows; (repeat' split) <;> (first | rfl | omega))) (fr1 R)
  rw [if_neg hc1]
  rcases Decidable.em (¬ (0 ≤ g.toInt ∧ g.toInt ≤ 3)) with hc2 | hc2
  · rw [if_pos hc2]; exact QI.no (by decide) (hs1 1 (by decide) (by unfold st_rows; (repeat' split) <;> (first | rfl | omega))) (fr1 R)
  rw [if_neg hc2]
  obtain ⟨ln, rfl, t1, t2⟩ := get32 l (by omega)
  obtain ⟨gn, rfl, u1, u2⟩ := get32 g (by omega)
  have ht : ln < 4 := by omega
  have hu : gn < 4 := by omega
  have a1 := hR ln ht
  have a2 := hR gn hu
  have hs : st_rows R (Int32.ofNat ln) (Int32.ofNat gn) n 20 = if (ai R 3 ln).toInt < 0 ∨ (ai R 3 gn).toInt < 0 then 3 else if n.toInt < 1 ∨ 20 < n.toInt then 5 else if (ai R 3 ln).toInt < n.toInt ∨ (ai R 3 gn).toInt < n.toInt then 4 else 0 := by
    unfold st_rows; rw [if_neg (by omega), c32 t1, c32 u1]
  simp only [RisC, RG_0, RP_0, RG_1, RP_1, RN_2, Rld_2, Rst_2, RN_3, Rld_3, Rst_3, RN_4, Rld_4, Rst_4, RG_5, RP_5, RG_6, RP_6, RN_7, Rld_7, Rst_7, RN_8, Rld_8, Rst_8, RN_9, Rld_9, Rst_9, RN_10, Rld_10, Rst_10, RG_11, RP_11, RG_12, RP_12, RN_13, Rld_13, Rst_13, RN_14, Rld_14, Rst_14, RN_15, Rld_15, Rst_15, RN_16, Rld_16, Rst_16, RG_17, RP_17, RG_18, RP_18, RG_19, RP_19, RG_20, RP_20, RG_21, RP_21, RG_22, RP_22, RG_23, RP_23, RG_24, RP_24, RG_25, RP_25, RG_26, RP_26, RG_27, RP_27, RG_28, RP_28, RG_29, RP_29, RG_30, RP_30, RG_31, RP_31, RG_32, RP_32, RN_33, Rld_33, Rst_33, RN_34, Rld_34, Rst_34, RN_35, Rld_35, Rst_35, RN_36, Rld_36, Rst_36, RN_37, Rld_37, Rst_37, RN_38, Rld_38, Rst_38, RN_39, Rld_39, Rst_39, RN_40, Rld_40, Rst_40, RN_41, Rld_41, Rst_41, RN_42, Rld_42, Rst_42, RN_43, Rld_43, Rst_43, RN_44, Rld_44, Rst_44, RN_45, Rld_45, Rst_45, RG_46, RP_46, RG_47, RP_47, RG_48, RP_48, RG_49, RP_49, RN_50, Rld_50, Rst_50, RN_51, Rld_51, Rst_51, RN_52, Rld_52, Rst_52, RN_53, Rld_53, Rst_53, RN_54, Rld_54, Rst_54, RN_55, Rld_55, Rst_55, RG_56, RP_56, RG_57, RP_57, RN_58, Rld_58, Rst_58, RN_59, Rld_59, Rst_59, RN_60, Rld_60, Rst_60, RG_61, RP_61, RG_62, RP_62, RG_63, RP_63, RG_64, RP_64, RG_65, RP_65, RG_66, RP_66, RG_67, RP_67, RG_68, RP_68, RG_69, RP_69, RG_70, RP_70, RG_71, RP_71, RN_72, Rld_72, Rst_72, RN_73, Rld_73, Rst_73, RN_74, Rld_74, Rst_74, RN_75, Rld_75, Rst_75, RN_76, Rld_76, Rst_76, RN_77, Rld_77, Rst_77, RN_78, Rld_78, Rst_78, RN_79, Rld_79, Rst_79, RN_80, Rld_80, Rst_80, RN_81, Rld_81, Rst_81, RN_82, Rld_82, Rst_82, RN_83, Rld_83, Rst_83, RN_84, Rld_84, Rst_84, RN_85, Rld_85, Rst_85, RN_86, Rld_86, Rst_86, RG_87, RP_87, RG_88, RP_88, RG_89, RP_89, RG_90, RP_90, RG_91, RP_91, RG_92, RP_92, RG_93, RP_93, RN_94, Rld_94, Rst_94, RN_95, Rld_95, Rst_95, RG_96, RP_96, RN_97, Rld_97, Rst_97, RN_98, Rld_98, Rst_98, RN_99, Rld_99, Rst_99, RN_100, Rld_100, Rst_100, RG_101, RP_101, RN_102, Rld_102, Rst_102, RN_103, Rld_103, Rst_103, RN_104, Rld_104, Rst_104, RG_105, RP_105, q_fi_sfi, q_fl_sfi, q_fr_sfi, q_ai_sfi, q_al_sfi, q_ar_sfi, q_ln_sfi, q_fi_sfl, q_fl_sfl, q_fr_sfl, q_ai_sfl, q_al_sfl, q_ar_sfl, q_ln_sfl, q_fi_sfr, q_fl_sfr, q_fr_sfr, q_ai_sfr, q_al_sfr, q_ar_sfr, q_ln_sfr, q_fi_sai, q_fl_sai, q_fr_sai, q_ai_sai, q_al_sai, q_ar_sai, q_ln_sai, q_fi_sal, q_fl_sal, q_fr_sal, q_ai_sal, q_al_sal, q_ar_sal, q_ln_sal, q_fi_sar, q_fl_sar, q_fr_sar, q_ai_sar, q_al_sar, q_ar_sar, q_ln_sar, reduceIte, Nat.reduceEqDiff, Option.bind_some, ix_n t1, ix_n u1, decide_eq_true ht, decide_eq_true hu, if_true, c32 t1, c32 u1, lt32, le32, i0]
  rcases Decidable.em ((ai R 3 ln).toInt < 0) with hc3 | hc3
  · rw [if_pos hc3]; exact QI.no (by decide) (hs1 3 (by decide) (by rw [hs, if_pos (Or.inl hc3)])) (fr1 R)
  rw [if_neg hc3]
  rcases Decidable.em (¬ (0 ≤ (ai R 3 gn).toInt)) with hc4 | hc4
  · rw [if_neg hc4]; exact QI.no (by decide) (hs1 3 (by decide) (by rw [hs, if_pos (Or.inr (by omega))])) (fr1 R)
  replace hc4 := Decidable.not_not.mp hc4
  rw [if_pos hc4]
  rw [if_neg (by omega)] at hs
  rcases Decidable.em (¬ (1 ≤ n.toInt ∧ n.toInt ≤ 20)) with hc5 | hc5
  · rw [if_pos hc5]; exact QI.no (by decide) (hs1 5 (by decide) (by rw [hs, if_pos (by omega)])) (fr1 R)
  rw [if_neg hc5]
  rw [if_neg (by omega)] at hs
  rcases Decidable.em ((ai R 3 ln).toInt < n.toInt) with hc6 | hc6
  · rw [if_pos hc6]; exact QI.no (by decide) (hs1 4 (by decide) (by rw [hs, if_pos (by omega)])) (fr1 R)
  rw [if_neg hc6]
  rcases Decidable.em (¬ (n.toInt ≤ (ai R 3 gn).toInt)) with hc7 | hc7
  · rw [if_neg hc7]; exact QI.no (by decide) (hs1 4 (by decide) (by rw [hs, if_pos (by omega)])) (fr1 R)
  replace hc7 := Decidable.not_not.mp hc7
  rw [if_pos hc7]
  rw [if_neg (by omega)] at hs
  obtain ⟨nn, rfl, n1, n2⟩ := get32 n (by omega)
  have hs2 : st_find R (Int32.ofNat ln) (Int32.ofNat gn) (Int32.ofNat nn) = if OkS R ln gn nn then 0 else 5 := by
    unfold st_find; rw [if_neg (fun q => q hs), c32 t1, c32 u1, c32 n1]
  rw [c32 n1]
  unfold fX12_find_111
  have num : ∀ {t k : Nat}, t < 4 → k < 40 → fX12_numberOf_0 (eR m ρ (sfi (sfi R 1 0) 0 0)) m (Int32.ofNat t) (Int32.ofNat k) = some (al R 4 (40 * t + k)) := fun ht hk => r_numberOf (R := sfi (sfi R 1 0) 0 0) ht hk
  refine lp_q nn (fun k z => z = (eR m ρ (sfi (sfi R 1 0) 0 0), m, Int32.ofNat ln, Int32.ofNat gn, Int32.ofNat nn, Int32.ofNat k) ∧ OkS R ln gn k) (QI m ρ R (st_find R (Int32.ofNat ln) (Int32.ofNat gn) (Int32.ofNat nn)) (fdW R ln gn nn) (sfi R 91 (fdW R ln gn nn))) ?_ ?_ fu 0 _ (by omega) ⟨rfl, fun k hk => absurd hk (by omega)⟩ (by unfold fu; omega)
  · rintro K k _ hk ⟨rfl, hok⟩
    have e6 : ((86400 : Int64)).toInt = 86400 := rfl
    have e7 : ((86400000 : Int64)).toInt = 86400000 := rfl
    have e8 : ((0 : Int64)).toInt = 0 := rfl
    simp only [fbX12_find_111, RisC, r_refuse, num ht (show k < 40 by omega), num hu (show k < 40 by omega), r_isIn, Option.bind_some, le_n (show nn < 2147483648 by omega) (show k < 2147483648 by omega), if_neg (show ¬ nn ≤ k by omega), b2i_0, le64, e6, e7, e8, suc32]
    by_cases c : okS1 R ln gn k
    · left
      rw [if_neg (by omega), if_neg (by omega)]
      refine ⟨_, ⟨rfl, fun j hj => ?_⟩, rfl⟩
      by_cases d : j = k
      · subst d; exact c
      · exact hok j (by omega)
    · right
      have e5 : st_find R (Int32.ofNat ln) (Int32.ofNat gn) (Int32.ofNat nn) = 5 := by rw [hs2, if_neg (fun q => c (q k hk))]
      by_cases d : 0 ≤ (al R 4 (40 * ln + k)).toInt ∧ (al R 4 (40 * ln + k)).toInt ≤ 86400
      · rw [if_neg (fun q => q d), if_pos (fun q => c ⟨d, q⟩)]; exact QI.no (by decide) e5 (fr1 R)
      · rw [if_pos d]; exact QI.no (by decide) e5 (fr1 R)
  · rintro K _ ⟨rfl, hok⟩
    simp only [fbX12_find_111, Int32.le_refl, if_true]
    rw [r_find169 (S := sfi (sfi R 1 0) 0 0) ht hu (by omega)]
    exact QI.ok (by rw [hs2, if_pos hok]) rfl rfl (frc_fi (fr1 R) _ _)
end
section
variable {P : Par} {x : Nat} {own : Nat → Nat} {σ : Hs} {R : Gs} {st : Int32}
theorem x_areS {a b l g n : Nat} {H K : Gs} (hH : A10 a H σ) (hK : A10 b K σ) (h1 : n ≤ ln H 1) (h2 : n ≤ ln K 1) (b1 : ln H 1 ≤ 40) (b2 : ln K 1 ≤ 40) (e1 : ∀ k, k < ln H 1 → al H 1 k = al R 4 (40 * l + k)) (e2 : ∀ k, k < ln K 1 → al K 1 k = al R 4 (40 * g + k)) : fX11_areSeen_0 σ a b (Int32.ofNat n) = some (b2i (OkS R l g n)) := by
  unfold fX11_areSeen_0 fX11_areSeen_2
  refine lp_q n (fun k z => z = (a, b, Int32.ofNat n, Int32.ofNat k) ∧ OkS R l g k) (fun X => X = some (b2i (OkS R l g n))) ?_ ?_ fu 0 _ (by omega) ⟨rfl, fun k hk => absurd hk (by omega)⟩ (by unfold fu; omega)
  · rintro L k _ hk ⟨rfl, hok⟩
    have e6 : ((86400 : Int64)).toInt = 86400 := rfl
    have e7 : ((86400000 : Int64)).toInt = 86400000 := rfl
    have e8 : ((0 : Int64)).toInt = 0 := rfl
    simp only [fbX11_areSeen_2, z10_C hH, z10_C hK, x_at hH (show k < ln H 1 by omega) b1, x_at hK (show k < ln K 1 by omega) b2, e1 k (by omega), e2 k (by omega), Option.bind_some, le_n (show n < 2147483648 by omega) (show k < 2147483648 by omega), if_neg (show ¬ n ≤ k by omega), lt64, le64, e6, e7, e8, suc32, bb_0]
    by_cases c : okS1 R l g k
    · left
      rw [if_neg (by omega), if_pos (by omega), if_neg (by omega), if_pos (by omega)]
      refine ⟨_, ⟨rfl, fun j hj => ?_⟩, rfl⟩
      by_cases d : j = k
      · subst d; exact c
      · exact hok j (by omega)
    · right
      have e0 : some (0 : Int32) = some (b2i (OkS R l g n)) := by
        unfold b2i; rw [if_neg (fun q => c (q k hk))]
      rw [← e0]
      by_cases d1 : (al R 4 (40 * l + k)).toInt < 0
      · rw [if_pos d1]
      · rw [if_neg d1]
        by_cases d2 : (al R 4 (40 * l + k)).toInt ≤ 86400
        · rw [if_pos d2]
          by_cases d3 : (al R 4 (40 * g + k)).toInt < 0
          · rw [if_pos d3]
          · rw [if_neg d3, if_neg (fun q => c ⟨⟨by omega, d2⟩, by omega, q⟩)]
        · rw [if_neg d2]
  · rintro L _ ⟨rfl, hok⟩
    simp only [fbX11_areSeen_2, Int32.le_refl, if_true, bb_1]
    refine congrArg some ?_
    unfold b2i; rw [if_pos hok]
theorem x_showsAll {a b l g n w : Nat} {H K : Gs} (hw : w < 5) (hH : A10 a H σ) (hK : A10 b K σ) (h1 : n ≤ ln H 1) (h2 : n ≤ ln K 1) (b1 : ln H 1 ≤ 40) (b2 : ln K 1 ≤ 40) (e1 : ∀ k, k < ln H 1 → al H 1 k = al R 4 (40 * l + k)) (e2 : ∀ k, k < ln K 1 → al K 1 k = al R 4 (40 * g + k)) (hok : OkS R l g n) : fX11_showsAll_0 σ (Int32.ofNat w) a b (Int32.ofNat n) = some (b2i (qW R l g n w)) := by
  unfold fX11_showsAll_0 fX11_showsAll_3
  refine lp_q n (fun k z => z = (Int32.ofNat w, a, b, Int32.ofNat n, Int32.ofNat k) ∧ qW R l g k w) (fun X => X = some (b2i (qW R l g n w))) ?_ ?_ fu 0 _ (by omega) ⟨rfl, fun k hk => absurd hk (by omega)⟩ (by unfold fu; omega)
  · rintro L k _ hk ⟨rfl, hq⟩
    obtain ⟨o1, o2⟩ := hok k hk
    have hsh := x_shown σ hw (al R 4 (40 * l + k)).toInt32 (by rw [dn32 (by omega)]; exact o1)
    simp only [fbX11_showsAll_3, z10_C hH, z10_C hK, x_at hH (show k < ln H 1 by omega) b1, x_at hK (show k < ln K 1 by omega) b2, e1 k (by omega), e2 k (by omega), hsh, Option.bind_some, le_n (show n < 2147483648 by omega) (show k < 2147483648 by omega), if_neg (show ¬ n ≤ k by omega), suc32, bb_0]
    by_cases c : sS w (al R 4 (40 * l + k)).toInt32 = al R 4 (40 * g + k)
    · left
      rw [if_pos c]
      refine ⟨_, ⟨rfl, fun j hj => ?_⟩, rfl⟩
      by_cases d : j = k
      · subst d; exact c
      · exact hq j (by omega)
    · right
      rw [if_neg c]
      refine congrArg some ?_
      unfold b2i; rw [if_neg (fun q => c (q k hk))]
  · rintro L _ ⟨rfl, hq⟩
    simp only [fbX11_showsAll_3, Int32.le_refl, if_true, bb_1]
    refine congrArg some ?_
    unfold b2i; rw [if_pos hq]
theorem k_find (hP : P.ok) (hW : RW R) (h : XW P x own σ R st) (hbk : P.bk) (l g n : Int32) : KI P x σ (rf (st_find R l g n) (fdW R l.toNatClampNeg g.toNatClampNeg n.toNatClampNeg)) (st_find R l g n) (if st_find R l g n = 0 then sfi R 91 (fdW R l.toNatClampNeg g.toNatClampNeg n.toNatClampNeg) else R) (fX11_find_0 σ x l g n) := by
  obtain ⟨G, T, eC, eV, eN, eT, eS, h⟩ := h
  have hA := h.2.2.1.at
  have hl1 : ln G 1 = 4 := h.2.2.1.2.2.2.2.2.2.2.1.1
  have hRT := hW.2.2.2.2.2.2.2.2.2.1.1
  have hst := x_rowsSt hA hl1 h.2.2.2.1 hRT l g n 20
  have e12 : (20 : Int32).toInt = 20 := rfl
  rw [e12] at hst
  unfold fX11_find_0
  simp only [z11_C hA, hst, Option.bind_some, z11_p0 hA]
  generalize hv : st_rows R l g n 20 = y at *
  have hA2 : A11 x (sfi G 0 y) (e11 x σ (sfi G 0 y)) := A11_self _ _
  simp only [z11_g0 hA2, Option.bind_some, q_fi_sfi, q_fl_sfi, q_fr_sfi, q_ai_sfi, q_al_sfi, q_ar_sfi, q_ln_sfi, q_fi_sfl, q_fl_sfl, q_fr_sfl, q_ai_sfl, q_al_sfl, q_ar_sfl, q_ln_sfl, q_fi_sfr, q_fl_sfr, q_fr_sfr, q_ai_sfr, q_al_sfr, q_ar_sfr, q_ln_sfr, q_fi_sai, q_fl_sai, q_fr_sai, q_ai_sai, q_al_sai, q_ar_sai, q_ln_sai, q_fi_sal, q_fl_sal, q_fr_sal, q_ai_sal, q_al_sal, q_ar_sal, q_ln_sal, q_fi_sar, q_fl_sar, q_fr_sar, q_ai_sar, q_al_sar, q_ar_sar, q_ln_sar, reduceIte, Nat.reduceEqDiff]
  by_cases h0 : y = 0
  rotate_left
  · rw [if_neg h0, if_neg h0]
    have e : st_find R l g n = y := by unfold st_find; rw [hv, if_pos h0]
    rw [e, if_neg h0, show rf y _ = -1 from if_neg h0]
    exact KI.no hP h hW _ _
  rw [if_pos h0, if_pos h0]
  subst h0
  obtain ⟨tn, un, nn, rfl, rfl, rfl, k0, k1, k2, k3, k4, k5, k6⟩ := st_rows_0 hRT hv
  have hs := h.st hP hW 0
  have e44 : ∀ v, e11 x (e11 x σ (sfi G 0 0)) (sfi (sfi G 0 0) 0 v) = e11 x σ (sfi G 0 v) := fun v => by rw [sfi_sfi]; exact eX_eX _ _ _
  have hst2 : st_find R (Int32.ofNat tn) (Int32.ofNat un) (Int32.ofNat nn) = if OkS R tn un nn then 0 else 5 := by
    unfold st_find; rw [hv, if_neg (fun q => q rfl), c32 (by omega), c32 (by omega), c32 (by omega)]
  rw [c32 (show tn < 2147483648 by omega), c32 (show un < 2147483648 by omega), c32 (show nn < 2147483648 by omega)]
  have hA5 : A11 x (sfi G 0 5) (e11 x σ (sfi G 0 5)) := A11_self _ _
  have hs1' := hs
  generalize hs1 : e11 x σ (sfi G 0 0) = s1 at *
  obtain ⟨h0', g1, g2, g3, -⟩ := hs1'
  rcases g3 tn k0 with ⟨y1, y2⟩ | ⟨a, y1, H, y2, y3, y4, y5, y6, y7⟩
  · exact absurd y2 (by omega)
  rcases g3 un k1 with ⟨z1, z2⟩ | ⟨b, z1, K, z2, z3, z4, z5, z6, z7⟩
  · exact absurd z2 (by omega)
  have l1 : ln (sfi G 0 0) 1 = 4 := hl1
  have yar : ar (sfi G 0 0) 1 tn = some a := y1
  have zar : ar (sfi G 0 0) 1 un = some b := z1
  have bt := hRT tn k0
  have bu := hRT un k1
  simp only [z11_g1 hA2, z11_l1 hA2, z11_p0 hA2, Option.bind_some, l1, ix_n (show tn < 2147483648 by omega), ix_n (show un < 2147483648 by omega), decide_eq_true k0, decide_eq_true k1, if_true, c32 (show tn < 2147483648 by omega), c32 (show un < 2147483648 by omega), yar, zar, x_areS (R := R) (l := tn) (g := un) y2 z2 (show nn ≤ ln H 1 by omega) (show nn ≤ ln K 1 by omega) (by omega) (by omega) y7 z7, b2i_0, e44, z11_g0 hA5, q_fi_sfi, q_fl_sfi, q_fr_sfi, q_ai_sfi, q_al_sfi, q_ar_sfi, q_ln_sfi, q_fi_sfl, q_fl_sfl, q_fr_sfl, q_ai_sfl, q_al_sfl, q_ar_sfl, q_ln_sfl, q_fi_sfr, q_fl_sfr, q_fr_sfr, q_ai_sfr, q_al_sfr, q_ar_sfr, q_ln_sfr, q_fi_sai, q_fl_sai, q_fr_sai, q_ai_sai, q_al_sai, q_ar_sai, q_ln_sai, q_fi_sal, q_fl_sal, q_fr_sal, q_ai_sal, q_al_sal, q_ar_sal, q_ln_sal, q_fi_sar, q_fl_sar, q_fr_sar, q_ai_sar, q_al_sar, q_ar_sar, q_ln_sar, reduceIte, Nat.reduceEqDiff]
  by_cases hok : OkS R tn un nn
  rotate_left
  · rw [if_pos (show ¬ OkS R tn un nn from hok), if_neg (show ¬ (5 : Int32) = 0 by decide), hst2, if_neg (show ¬ OkS R tn un nn from hok), if_neg (show ¬ (5 : Int32) = 0 by decide), show rf 5 _ = -1 from if_neg (by decide)]
    exact KI.no hP h hW _ _
  rw [if_neg (show ¬ ¬ OkS R tn un nn from fun q => q hok), hst2, if_pos hok, if_pos rfl, show rf 0 _ = _ from if_pos rfl, z11_p16 hA2, Option.bind_some]
  have hf : fX11_find_61 (e11 x s1 (sfi (sfi G 0 0) 16 0)) x (Int32.ofNat tn) (Int32.ofNat un) (Int32.ofNat nn) 0 = some (fdW R tn un nn, e11 x s1 (sfi (sfi G 0 0) 16 (fdW R tn un nn))) := by
    unfold fX11_find_61
    refine lp_q 5 (fun k z => z = (e11 x s1 (sfi (sfi G 0 0) 16 (fW (fun w => decide (qW R tn un nn w)) k)), x, Int32.ofNat tn, Int32.ofNat un, Int32.ofNat nn, Int32.ofNat k)) (fun X => X = some (fdW R tn un nn, e11 x s1 (sfi (sfi G 0 0) 16 (fdW R tn un nn)))) ?_ ?_ fu 0 _ (by omega) rfl (by unfold fu; omega)
    · rintro L k _ hk rfl
      left
      generalize hF : fW (fun w => decide (qW R tn un nn w)) k = F
      have hA3 : A11 x (sfi (sfi G 0 0) 16 F) (e11 x s1 (sfi (sfi G 0 0) 16 F)) := A11_self _ _
      have hH3 : A10 a H (e11 x s1 (sfi (sfi G 0 0) 16 F)) := A10_fr y2 (fun q hq => e11_out _ _ (by
        intro w
        have e1 : tg x own q = 10 + tn := by rcases hq with e | e; (rw [e]; exact y3.1); (rw [e]; exact y3.2)
        rw [tg_x w] at e1; omega))
      have hK3 : A10 b K (e11 x s1 (sfi (sfi G 0 0) 16 F)) := A10_fr z2 (fun q hq => e11_out _ _ (by
        intro w
        have e1 : tg x own q = 10 + un := by rcases hq with e | e; (rw [e]; exact z3.1); (rw [e]; exact z3.2)
        rw [tg_x w] at e1; omega))
      have c4 : (4 < Int32.ofNat k) = (4 < k) := by rw [show (4 : Int32) = Int32.ofNat 4 from rfl]; exact propext (lt_n (by decide) (by omega))
      have f16 : fi (sfi (sfi G 0 0) 16 F) 16 = F := rfl
      have eF : fW (fun w => decide (qW R tn un nn w)) (k + 1) = F ||| (if qW R tn un nn k then (1 : Int32) <<< (Int32.ofNat k &&& 31) else 0) := by
        rw [fW, hF]; simp only [decide_eq_true_eq]
      have e22 : ∀ v, e11 x (e11 x s1 (sfi (sfi G 0 0) 16 F)) (sfi (sfi (sfi G 0 0) 16 F) 16 v) = e11 x s1 (sfi (sfi G 0 0) 16 v) := fun v => by rw [sfi_sfi]; exact eX_eX _ _ _
      have l3 : ln (sfi (sfi G 0 0) 16 F) 1 = 4 := hl1
      have yar3 : ar (sfi (sfi G 0 0) 16 F) 1 tn = some a := y1
      have zar3 : ar (sfi (sfi G 0 0) 16 F) 1 un = some b := z1
      simp only [fbX11_find_61, c4, if_neg (show ¬ 4 < k by omega), z11_g1 hA3, z11_l1 hA3, z11_g16 hA3, z11_p16 hA3, Option.bind_some, l3, ix_n (show tn < 2147483648 by omega), ix_n (show un < 2147483648 by omega), decide_eq_true k0, decide_eq_true k1, if_true, c32 (show tn < 2147483648 by omega), c32 (show un < 2147483648 by omega), yar3, zar3, x_showsAll (R := R) (l := tn) (g := un) hk hH3 hK3 (show nn ≤ ln H 1 by omega) (show nn ≤ ln K 1 by omega) (by omega) (by omega) y7 z7 hok, b2i_0, f16, e22, suc32]
      refine ⟨_, rfl, ?_⟩
      rw [eF]
      by_cases c : qW R tn un nn k
      · rw [if_neg (show ¬ ¬ qW R tn un nn k from fun q => q c), if_pos c]
      · rw [if_pos (show ¬ qW R tn un nn k from c), if_neg c, Int32.or_zero]
    · rintro L _ rfl
      have hA3 : A11 x (sfi (sfi G 0 0) 16 (fW (fun w => decide (qW R tn un nn w)) 5)) (e11 x s1 (sfi (sfi G 0 0) 16 (fW (fun w => decide (qW R tn un nn w)) 5))) := A11_self _ _
      simp only [fbX11_find_61, show ((4 : Int32) < Int32.ofNat 5) = True from propext ⟨fun _ => trivial, fun _ => by decide⟩, if_true, z11_g16 hA3, Option.bind_some]
      rfl
  rw [hf]
  have hR : Fr [91] R (sfi R 91 (fdW R tn un nn)) := (Fr.refl _ R).sfi (by decide) _
  have hC : Chg x own [1] s1 (e11 x s1 (sfi (sfi G 0 0) 16 (fdW R tn un nn))) := e11_chg _ _ (by decide)
  refine ⟨_, own, rfl, ⟨sfi (sfi G 0 0) 16 (fdW R tn un nn), T, eC, eV, eN, eT, eS, xw_px hP hs hW hC hR (by decide) (hbk _ _ _ hR (by decide)) ?_ ⟨⟨rfl, rfl, rfl, rfl⟩, fun q => q⟩⟩, ?_⟩
  · obtain ⟨b1, b2, b3, b4, b5, b6, b7, b8, b9, b10⟩ := g2
    exact ⟨A11_self _ _, rfl, b3, b4, b5, b6, rfl, b8, b9, b10⟩
  · have hkp1 : Chg x own [1] σ s1 := by rw [← hs1]; exact e11_chg σ _ List.mem_cons_self
    exact (hkp1.trans hC).kp h.1 (by decide)
theorem RW_find (hW : RW R) (l g n : Nat) : RW (sfi R 91 (fdW R l g n)) := by
  obtain ⟨w1, w2, w3, w4, w5, w6, w7, w8, w9, w10, w11, w12, w13⟩ := hW
  refine ⟨w1, w2, w3, w4, w5, w6, w7, w8, w9, w10, w11, w12, ?_⟩
  have := fW_b (fun w => decide (qW R l g n w))
  show -1 ≤ (fdW R l g n).toInt ∧ (fdW R l g n).toInt ≤ 31
  unfold fdW; omega
theorem both_find (hP : P.ok) (hK : P.bk) (hI : Inv P x σ) (l g n : Int32) : ∃ w σ1 σ2, fX11_find_0 σ x l g n = some (w, σ1) ∧ fX12_find_0 σ1 (x + 20) l g n = some (w, σ2) ∧ Inv P x σ2 := by
  obtain ⟨own, R, hE, hX, hW, h6⟩ := hI
  obtain ⟨σ1, σ2, h1, h2, h3⟩ := arm_I (Y := fun y => fX12_find_0 y (x + 20) l g n) hP h6 hE (k_find hP hW hX hK l g n) (fun ρ => r_findW (x + 20) ρ R hW.2.2.2.2.2.2.2.2.2.1.1 l g n) (RW_ite (fun _ => RW_find hW _ _ _) hW)
  exact ⟨_, σ1, σ2, h1, h2, h3⟩
end
