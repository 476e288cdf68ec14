theorem of_cl {v : Int32} (h : 0 ≤ v.toInt) : v = Int32.ofNat v.toNatClampNeg ∧ v.toNatClampNeg < 2147483648 := by
  have h1 : v.toInt < 2147483648 := Int32.toInt_lt v
  have h2 : v.toNatClampNeg = v.toInt.toNat := rfl
  refine ⟨?_, by omega⟩
  rw [eq32, n32 (by omega)]; omega
theorem div_nn {a b : Nat} (ha : a < 2147483648) (hb : b < 2147483648) (h0 : 0 < b) : Int32.ofNat a / Int32.ofNat b = Int32.ofNat (a / b) := by
  have hd : a / b ≤ a := Nat.div_le_self a b
  rw [eq32, n32 (by omega), Int32.toInt_div, n32 ha, n32 hb]
  rw [show (Int.tdiv (a : Int) (b : Int)) = ((a / b : Nat) : Int) from by rw [Int.natCast_ediv, Int.tdiv_eq_ediv_of_nonneg (by omega)]]
  generalize a / b = q at *
  exact Int.bmod_eq_of_le (by omega) (by omega)
theorem wv_of {v : Int32} (h : 0 ≤ v.toInt) : v / 1048576 = Int32.ofNat (wOf v) ∧ v - v / 1048576 * 1048576 = Int32.ofNat (vOf v) ∧ wOf v < 2048 ∧ vOf v < 1048576 := by
  obtain ⟨h1, h2⟩ := of_cl h
  unfold wOf vOf
  rw [if_pos h, if_pos h]
  generalize v.toNatClampNeg = q at *
  have e : v / 1048576 = Int32.ofNat (q / 1048576) := by rw [h1, show (1048576 : Int32) = Int32.ofNat 1048576 from rfl, div_nn h2 (by decide) (by decide)]
  refine ⟨e, ?_, by omega, by omega⟩
  rw [e, h1, show (1048576 : Int32) = Int32.ofNat 1048576 from rfl, mul_n, sub_nn (by omega)]
  congr 1
  omega
def HS (R : Gs) (S : Pl) : Prop := fi R 46 = Int32.ofNat S.1 ∧ al R 41 = S.2.1 ∧ ai R 44 = S.2.2 ∧ S.1 ≤ 600
def psR (R : Gs) (k : Nat) (a : Int64) (l : Int32) : Gs := sfi (sai (sal R 41 (up (al R 41) k a)) 44 (up (ai R 44) k l)) 46 (Int32.ofNat (k + 1))
theorem psR_fr (R : Gs) (k : Nat) (a : Int64) (l : Int32) : Fr [41, 44, 46] R (psR R k a l) := (((Fr.refl _ R).sal (k := 41) (by decide) _).sai (k := 44) (by decide) _).sfi (k := 46) (by decide) _
theorem psR_h {R : Gs} {S : Pl} (h1 : al R 41 = S.2.1) (h2 : ai R 44 = S.2.2) (hb : S.1 < 600) (a : Int64) (l : Int32) : HS (psR R S.1 a l) (pus S a l) := by
  refine ⟨rfl, ?_, ?_, hb⟩
  · show up (al R 41) S.1 a = up S.2.1 S.1 a; rw [h1]
  · show up (ai R 44) S.1 l = up S.2.2 S.1 l; rw [h2]
theorem nar01 {l : Int32} (h : l = 0 ∨ l = 1) : vp_nar .boolean l = l := by
  rcases h with rfl | rfl <;> rfl
section
variable {m : Nat} {ρ : Hs} {R : Gs}
theorem r_push {k : Nat} (h : fi R 46 = Int32.ofNat k) (hk : k < 600) (a : Int64) {l : Int32} (hl : l = 0 ∨ l = 1) : fX12_push_0 (eR m ρ R) m a l = some (eR m ρ (psR R k a l)) := by
  unfold fX12_push_0
  simp only [RisC, RG_0, RP_0, RG_1, RP_1, RN_2, Rld_2, Rst_2, RN_3, Rld_3, Rst_3, RN_4, Rld_4, Rst_4, RG_5, RP_5, RG_6, RP_6, RN_7, Rld_7, Rst_7, RN_8, Rld_8, Rst_8, RN_9, Rld_9, Rst_9, RN_10, Rld_10, Rst_10, RG_11, RP_11, RG_12, RP_12, RN_13, Rld_13, Rst_13, RN_14, Rld_14, Rst_14, RN_15, Rld_15, Rst_15, RN_16, Rld_16, Rst_16, RG_17, RP_17, RG_18, RP_18, RG_19, RP_19, RG_20, RP_20, RG_21, RP_21, RG_22, RP_22, RG_23, RP_23, RG_24, RP_24, RG_25, RP_25, RG_26, RP_26, RG_27, RP_27, RG_28, RP_28, RG_29, RP_29, RG_30, RP_30, RG_31, RP_31, RG_32, RP_32, RN_33, Rld_33, Rst_33, RN_34, Rld_34, Rst_34, RN_35, Rld_35, Rst_35, RN_36, Rld_36, Rst_36, RN_37, Rld_37, Rst_37, RN_38, Rld_38, Rst_38, RN_39, Rld_39, Rst_39, RN_40, Rld_40, Rst_40, RN_41, Rld_41, Rst_41, RN_42, Rld_42, Rst_42, RN_43, Rld_43, Rst_43, RN_44, Rld_44, Rst_44, RN_45, Rld_45, Rst_45, RG_46, RP_46, RG_47, RP_47, RG_48, RP_48, RG_49, RP_49, RN_50, Rld_50, Rst_50, RN_51, Rld_51, Rst_51, RN_52, Rld_52, Rst_52, RN_53, Rld_53, Rst_53, RN_54, Rld_54, Rst_54, RN_55, Rld_55, Rst_55, RG_56, RP_56, RG_57, RP_57, RN_58, Rld_58, Rst_58, RN_59, Rld_59, Rst_59, RN_60, Rld_60, Rst_60, RG_61, RP_61, RG_62, RP_62, RG_63, RP_63, RG_64, RP_64, RG_65, RP_65, RG_66, RP_66, RG_67, RP_67, RG_68, RP_68, RG_69, RP_69, RG_70, RP_70, RG_71, RP_71, RN_72, Rld_72, Rst_72, RN_73, Rld_73, Rst_73, RN_74, Rld_74, Rst_74, RN_75, Rld_75, Rst_75, RN_76, Rld_76, Rst_76, RN_77, Rld_77, Rst_77, RN_78, Rld_78, Rst_78, RN_79, Rld_79, Rst_79, RN_80, Rld_80, Rst_80, RN_81, Rld_81, Rst_81, RN_82, Rld_82, Rst_82, RN_83, Rld_83, Rst_83, RN_84, Rld_84, Rst_84, RN_85, Rld_85, Rst_85, RN_86, Rld_86, Rst_86, RG_87, RP_87, RG_88, RP_88, RG_89, RP_89, RG_90, RP_90, RG_91, RP_91, RG_92, RP_92, RG_93, RP_93, RN_94, Rld_94, Rst_94, RN_95, Rld_95, Rst_95, RG_96, RP_96, RN_97, Rld_97, Rst_97, RN_98, Rld_98, Rst_98, RN_99, Rld_99, Rst_99, RN_100, Rld_100, Rst_100, RG_101, RP_101, RN_102, Rld_102, Rst_102, RN_103, Rld_103, Rst_103, RN_104, Rld_104, Rst_104, RG_105, RP_105, q_fi_sfi, q_fl_sfi, q_fr_sfi, q_ai_sfi, q_al_sfi, q_ar_sfi, q_ln_sfi, q_fi_sfl, q_fl_sfl, q_fr_sfl, q_ai_sfl, q_al_sfl, q_ar_sfl, q_ln_sfl, q_fi_sfr, q_fl_sfr, q_fr_sfr, q_ai_sfr, q_al_sfr, q_ar_sfr, q_ln_sfr, q_fi_sai, q_fl_sai, q_fr_sai, q_ai_sai, q_al_sai, q_ar_sai, q_ln_sai, q_fi_sal, q_fl_sal, q_fr_sal, q_ai_sal, q_al_sal, q_ar_sal, q_ln_sal, q_fi_sar, q_fl_sar, q_fr_sar, q_ai_sar, q_al_sar, q_ar_sar, q_ln_sar, reduceIte, Nat.reduceEqDiff, h, Option.bind_some, ix_n (show k < 2147483648 by omega), decide_eq_true hk, if_true, c32 (show k < 2147483648 by omega), nar01 hl, suc32]
  rfl
theorem lkO_01 (x y : Int32) : lkO x y = 0 ∨ lkO x y = 1 := by unfold lkO; split <;> simp
theorem s2n {k : Nat} (h : 2 ≤ k) : Int32.ofNat k - 2 = Int32.ofNat (k - 2) := by
  rw [show (2 : Int32) = Int32.ofNat 2 from rfl, sub_nn h]
theorem eqw {w : Nat} (hw : w < 2048) (k : Nat) (hk : k < 2048) : (Int32.ofNat w = Int32.ofNat k) = (w = k) := eqn (by omega) (by omega)
theorem r_b78 {k : Nat} (h : fi R 46 = Int32.ofNat k) (hk : k < 600) {w : Nat} (hw : w = 13 ∨ w = 14) (v : Nat) (a b : Int64) (l : Int32) : fX12_both_78 (eR m ρ R) m (Int32.ofNat w) a b = some (eR m ρ (psR R k (rcv w v a b l).1 (rcv w v a b l).2)) := by
  unfold fX12_both_78 rcv
  rcases hw with rfl | rfl
  · simp only [RisC, Option.bind_some, r_push h hk _ (Or.inl rfl), if_pos (show Int32.ofNat 13 = 13 from rfl), if_true]
  · rw [if_neg (show ¬ Int32.ofNat 14 = 13 by decide)]; simp only [RisC, Option.bind_some, r_push h hk _ (Or.inl rfl), if_true, if_neg (show ¬ 14 = 13 by decide)]
theorem r_b161 {k : Nat} (h : fi R 46 = Int32.ofNat k) (hk : k < 600) {w : Nat} (hw : 10 ≤ w ∧ w ≠ 13 ∧ w ≠ 14) {v : Nat} (hv : v < 1048576) (a b : Int64) {l : Int32} (hl : l = 0 ∨ l = 1) {y : Int32} (hy : y = if cmF w a b = true then 1 else 0) : fX12_both_161 (eR m ρ R) m (Int32.ofNat v) l y = some (eR m ρ (psR R k (rcv w v a b l).1 (rcv w v a b l).2)) := by
  have e1 : (Int32.ofNat v = 1) = (v = 1) := by rw [show (1 : Int32) = Int32.ofNat 1 from rfl]; exact eqn (by omega) (by decide)
  unfold fX12_both_161 rcv
  simp only [RisC, Option.bind_some, r_push h hk _ (Or.inl rfl), e1, if_neg hw.2.1, if_neg hw.2.2, if_pos hw.1, hy]
  rcases hl with rfl | rfl
  · by_cases c : v = 1
    · cases cmF w a b <;> simp [c]
    · cases cmF w a b <;> simp [c]
  · simp
theorem r_b223 {k : Nat} (h : fi R 46 = Int32.ofNat k) (hk : k < 600) {w : Nat} (hw : 3 ≤ w ∧ w < 10) (v : Nat) (a b : Int64) (l : Int32) {y : Int32} (hy : (y = 1 ∧ (l ≠ 0 ∨ ((w = 6 ∨ w = 7) ∧ b = 0))) ∨ (y = 0 ∧ ¬ (l ≠ 0 ∨ ((w = 6 ∨ w = 7) ∧ b = 0)))) : fX12_both_223 (eR m ρ R) m (Int32.ofNat w) a b y = some (eR m ρ (psR R k (rcv w v a b l).1 (rcv w v a b l).2)) := by
  unfold rcv
  rw [if_neg (show ¬ w = 13 by omega), if_neg (show ¬ w = 14 by omega), if_neg (show ¬ 10 ≤ w by omega)]
  unfold fX12_both_223
  rcases hy with ⟨rfl, hc⟩ | ⟨rfl, hc⟩
  · rw [if_neg (by decide), if_pos hc]
    simp only [RisC, Option.bind_some, r_push h hk _ (Or.inr rfl)]
  · rw [if_pos rfl, if_neg hc]
    have hb : (w = 6 ∨ w = 7) → ¬ b = 0 := fun q z => hc (Or.inr ⟨q, z⟩)
    have hcase : w = 3 ∨ w = 4 ∨ w = 5 ∨ w = 6 ∨ w = 7 ∨ w = 8 ∨ w = 9 := by omega
    rcases hcase with rfl | rfl | rfl | rfl | rfl | rfl | rfl
    · simp only [RisC, Option.bind_some, r_push h hk _ (Or.inl rfl)]; rfl
    · simp only [RisC, Option.bind_some, r_push h hk _ (Or.inl rfl)]; rfl
    · simp only [RisC, Option.bind_some, r_push h hk _ (Or.inl rfl)]; rfl
    · simp only [RisC, Option.bind_some, r_push h hk _ (Or.inl rfl), if_neg (hb (Or.inl rfl))]; rfl
    · simp only [RisC, Option.bind_some, r_push h hk _ (Or.inl rfl), if_neg (hb (Or.inr rfl))]; rfl
    · have e : ∀ s, fJ9_min_f86c9_0 s a b = some (arF 8 a b) := by
        intro s
        show (if b < a then some b else some a) = some (if b ≤ a then b else a)
        by_cases c : b < a
        · rw [if_pos c, if_pos (Int64.le_of_lt c)]
        · rw [if_neg c]
          by_cases d : b ≤ a
          · rw [if_pos d, Int64.le_antisymm d (Int64.not_lt.mp c)]
          · rw [if_neg d]
      simp only [RisC, Option.bind_some, r_push h hk _ (Or.inl rfl), e]; rfl
    · have e : ∀ s, fJ9_max_f86c9_0 s a b = some (arF 9 a b) := by
        intro s
        show (if a < b then some b else some a) = some (if a ≤ b then b else a)
        by_cases c : a < b
        · rw [if_pos c, if_pos (Int64.le_of_lt c)]
        · rw [if_neg c]
          by_cases d : a ≤ b
          · rw [if_pos d, Int64.le_antisymm d (Int64.not_lt.mp c)]
          · rw [if_neg d]
      simp only [RisC, Option.bind_some, r_push h hk _ (Or.inl rfl), e]; rfl
theorem r_b64 {k : Nat} (h : fi R 46 = Int32.ofNat k) (hk : k < 600) {w : Nat} (hw : 3 ≤ w ∧ w < 2048) {v : Nat} (hv : v < 1048576) (a b : Int64) {l : Int32} (hl : l = 0 ∨ l = 1) : fX12_both_64 (eR m ρ R) m (Int32.ofNat w) (Int32.ofNat v) a b l = some (eR m ρ (psR R k (rcv w v a b l).1 (rcv w v a b l).2)) := by
  have q : ∀ j : Nat, j < 2048 → (Int32.ofNat w = Int32.ofNat j) = (w = j) := fun j hj => eqw hw.2 j hj
  have q13 : (Int32.ofNat w = 13) = (w = 13) := q 13 (by decide)
  have q14 : (Int32.ofNat w = 14) = (w = 14) := q 14 (by decide)
  have q6 : (Int32.ofNat w = 6) = (w = 6) := q 6 (by decide)
  have q7 : (Int32.ofNat w = 7) = (w = 7) := q 7 (by decide)
  have q10 : (Int32.ofNat w = 10) = (w = 10) := q 10 (by decide)
  have q11 : (Int32.ofNat w = 11) = (w = 11) := q 11 (by decide)
  have l10 : (Int32.ofNat w < 10) = (w < 10) := propext (lt_n (b := 10) (by omega) (by decide))
  unfold fX12_both_64
  simp only [q13, q14, q6, q7, q10, q11, l10]
  by_cases c13 : w = 13
  · rw [if_pos c13]; exact r_b78 h hk (Or.inl c13) v a b l
  rw [if_neg c13]
  by_cases c14 : w = 14
  · rw [if_pos c14]; exact r_b78 h hk (Or.inr c14) v a b l
  rw [if_neg c14]
  by_cases c10 : w < 10
  · rw [if_pos c10]
    by_cases cl : l = 0
    · rw [if_pos cl]
      by_cases c6 : w = 6
      · rw [if_pos c6]
        by_cases cb : b = 0
        · rw [if_pos cb]; exact r_b223 h hk ⟨hw.1, c10⟩ v a b l (Or.inl ⟨rfl, Or.inr ⟨Or.inl c6, cb⟩⟩)
        · rw [if_neg cb]; exact r_b223 h hk ⟨hw.1, c10⟩ v a b l (Or.inr ⟨rfl, fun z => z.elim (fun y => y cl) (fun y => cb y.2)⟩)
      · rw [if_neg c6]
        by_cases c7 : w = 7
        · rw [if_pos c7]
          by_cases cb : b = 0
          · rw [if_pos cb]; exact r_b223 h hk ⟨hw.1, c10⟩ v a b l (Or.inl ⟨rfl, Or.inr ⟨Or.inr c7, cb⟩⟩)
          · rw [if_neg cb]; exact r_b223 h hk ⟨hw.1, c10⟩ v a b l (Or.inr ⟨rfl, fun z => z.elim (fun y => y cl) (fun y => cb y.2)⟩)
        · rw [if_neg c7]; exact r_b223 h hk ⟨hw.1, c10⟩ v a b l (Or.inr ⟨rfl, fun z => z.elim (fun y => y cl) (fun y => y.1.elim c6 c7)⟩)
    · rw [if_neg cl]; exact r_b223 h hk ⟨hw.1, c10⟩ v a b l (Or.inl ⟨rfl, Or.inl cl⟩)
  rw [if_neg c10]
  have hw2 : 10 ≤ w ∧ w ≠ 13 ∧ w ≠ 14 := ⟨by omega, c13, c14⟩
  by_cases d10 : w = 10
  · rw [if_pos d10]
    by_cases cb : b ≤ a
    · rw [if_pos cb]; exact r_b161 h hk hw2 hv a b hl (by unfold cmF; rw [if_pos d10, decide_eq_false (Int64.not_lt.mpr cb), if_neg (by decide)])
    · rw [if_neg cb]; exact r_b161 h hk hw2 hv a b hl (by unfold cmF; rw [if_pos d10, decide_eq_true (Int64.not_le.mp cb), if_pos rfl])
  rw [if_neg d10]
  by_cases d11 : w = 11
  · rw [if_pos d11]
    by_cases cb : a ≤ b
    · rw [if_pos cb]; exact r_b161 h hk hw2 hv a b hl (by unfold cmF; rw [if_neg d10, if_pos d11, decide_eq_false (Int64.not_lt.mpr cb), if_neg (by decide)])
    · rw [if_neg cb]; exact r_b161 h hk hw2 hv a b hl (by unfold cmF; rw [if_neg d10, if_pos d11, decide_eq_true (Int64.not_le.mp cb), if_pos rfl])
  rw [if_neg d11]
  by_cases cb : a = b
  · rw [if_pos cb]; exact r_b161 h hk hw2 hv a b hl (by unfold cmF; rw [if_neg d10, if_neg d11, decide_eq_true cb, if_pos rfl])
  · rw [if_neg cb]; exact r_b161 h hk hw2 hv a b hl (by unfold cmF; rw [if_neg d10, if_neg d11, decide_eq_false cb, if_neg (by decide)])
theorem r_both {S : Pl} (hS : HS R S) (h2 : 2 ≤ S.1 ∧ S.1 ≤ 600) {w : Nat} (hw : 3 ≤ w ∧ w < 2048) {v : Nat} (hv : v < 1048576) : ∃ R', fX12_both_0 (eR m ρ R) m (Int32.ofNat w) (Int32.ofNat v) = some (eR m ρ R') ∧ Fr [41, 44, 46] R R' ∧ HS R' (pus (S.1 - 2, S.2) (rcv w v (S.2.1 (S.1 - 2)) (S.2.1 (S.1 - 2 + 1)) (lkO (S.2.2 (S.1 - 2)) (S.2.2 (S.1 - 2 + 1)))).1 (rcv w v (S.2.1 (S.1 - 2)) (S.2.1 (S.1 - 2 + 1)) (lkO (S.2.2 (S.1 - 2)) (S.2.2 (S.1 - 2 + 1)))).2) := by
  obtain ⟨e1, e2, e3, e4⟩ := hS
  have hR : fi (sfi R 46 (Int32.ofNat (S.1 - 2))) 46 = Int32.ofNat (S.1 - 2) := rfl
  have key := fun l (hl : l = 0 ∨ l = 1) => r_b64 (m := m) (ρ := ρ) hR (by omega) hw hv (S.2.1 (S.1 - 2)) (S.2.1 (S.1 - 2 + 1)) hl
  refine ⟨psR (sfi R 46 (Int32.ofNat (S.1 - 2))) (S.1 - 2) _ _, ?_, ((Fr.refl _ R).sfi (k := 46) (by decide) _).trans (psR_fr _ _ _ _), psR_h (S := (S.1 - 2, S.2)) e2 e3 (show S.1 - 2 < 600 by omega) _ _⟩
  unfold fX12_both_0
  simp only [RisC, RG_0, RP_0, RG_1, RP_1, RN_2, Rld_2, Rst_2, RN_3, Rld_3, Rst_3, RN_4, Rld_4, Rst_4, RG_5, RP_5, RG_6, RP_6, RN_7, Rld_7, Rst_7, RN_8, Rld_8, Rst_8, RN_9, Rld_9, Rst_9, RN_10, Rld_10, Rst_10, RG_11, RP_11, RG_12, RP_12, RN_13, Rld_13, Rst_13, RN_14, Rld_14, Rst_14, RN_15, Rld_15, Rst_15, RN_16, Rld_16, Rst_16, RG_17, RP_17, RG_18, RP_18, RG_19, RP_19, RG_20, RP_20, RG_21, RP_21, RG_22, RP_22, RG_23, RP_23, RG_24, RP_24, RG_25, RP_25, RG_26, RP_26, RG_27, RP_27, RG_28, RP_28, RG_29, RP_29, RG_30, RP_30, RG_31, RP_31, RG_32, RP_32, RN_33, Rld_33, Rst_33, RN_34, Rld_34, Rst_34, RN_35, Rld_35, Rst_35, RN_36, Rld_36, Rst_36, RN_37, Rld_37, Rst_37, RN_38, Rld_38, Rst_38, RN_39, Rld_39, Rst_39, RN_40, Rld_40, Rst_40, RN_41, Rld_41, Rst_41, RN_42, Rld_42, Rst_42, RN_43, Rld_43, Rst_43, RN_44, Rld_44, Rst_44, RN_45, Rld_45, Rst_45, RG_46, RP_46, RG_47, RP_47, RG_48, RP_48, RG_49, RP_49, RN_50, Rld_50, Rst_50, RN_51, Rld_51, Rst_51, RN_52, Rld_52, Rst_52, RN_53, Rld_53, Rst_53, RN_54, Rld_54, Rst_54, RN_55, Rld_55, Rst_55, RG_56, RP_56, RG_57, RP_57, RN_58, Rld_58, Rst_58, RN_59, Rld_59, Rst_59, RN_60, Rld_60, Rst_60, RG_61, RP_61, RG_62, RP_62, RG_63, RP_63, RG_64, RP_64, RG_65, RP_65, RG_66, RP_66, RG_67, RP_67, RG_68, RP_68, RG_69, RP_69, RG_70, RP_70, RG_71, RP_71, RN_72, Rld_72, Rst_72, RN_73, Rld_73, Rst_73, RN_74, Rld_74, Rst_74, RN_75, Rld_75, Rst_75, RN_76, Rld_76, Rst_76, RN_77, Rld_77, Rst_77, RN_78, Rld_78, Rst_78, RN_79, Rld_79, Rst_79, RN_80, Rld_80, Rst_80, RN_81, Rld_81, Rst_81, RN_82, Rld_82, Rst_82, RN_83, Rld_83, Rst_83, RN_84, Rld_84, Rst_84, RN_85, Rld_85, Rst_85, RN_86, Rld_86, Rst_86, RG_87, RP_87, RG_88, RP_88, RG_89, RP_89, RG_90, RP_90, RG_91, RP_91, RG_92, RP_92, RG_93, RP_93, RN_94, Rld_94, Rst_94, RN_95, Rld_95, Rst_95, RG_96, RP_96, RN_97, Rld_97, Rst_97, RN_98, Rld_98, Rst_98, RN_99, Rld_99, Rst_99, RN_100, Rld_100, Rst_100, RG_101, RP_101, RN_102, Rld_102, Rst_102, RN_103, Rld_103, Rst_103, RN_104, Rld_104, Rst_104, RG_105, RP_105, q_fi_sfi, q_fl_sfi, q_fr_sfi, q_ai_sfi, q_al_sfi, q_ar_sfi, q_ln_sfi, q_fi_sfl, q_fl_sfl, q_fr_sfl, q_ai_sfl, q_al_sfl, q_ar_sfl, q_ln_sfl, q_fi_sfr, q_fl_sfr, q_fr_sfr, q_ai_sfr, q_al_sfr, q_ar_sfr, q_ln_sfr, q_fi_sai, q_fl_sai, q_fr_sai, q_ai_sai, q_al_sai, q_ar_sai, q_ln_sai, q_fi_sal, q_fl_sal, q_fr_sal, q_ai_sal, q_al_sal, q_ar_sal, q_ln_sal, q_fi_sar, q_fl_sar, q_fr_sar, q_ai_sar, q_al_sar, q_ar_sar, q_ln_sar, reduceIte, Nat.reduceEqDiff, e1, e2, e3, Option.bind_some, s2n h2.1, suc32, ix_n (show S.1 - 2 < 2147483648 by omega), ix_n (show S.1 - 2 + 1 < 2147483648 by omega), decide_eq_true (show S.1 - 2 < 600 by omega), decide_eq_true (show S.1 - 2 + 1 < 600 by omega), if_true, c32 (show S.1 - 2 < 2147483648 by omega), c32 (show S.1 - 2 + 1 < 2147483648 by omega)]
  by_cases c1 : S.2.2 (S.1 - 2) = 0
  · rw [if_pos c1]
    by_cases c2 : S.2.2 (S.1 - 2 + 1) = 0
    · rw [if_pos c2, key 0 (Or.inl rfl), show lkO (S.2.2 (S.1 - 2)) (S.2.2 (S.1 - 2 + 1)) = 0 from if_pos ⟨c1, c2⟩]
    · rw [if_neg c2, key 1 (Or.inr rfl), show lkO (S.2.2 (S.1 - 2)) (S.2.2 (S.1 - 2 + 1)) = 1 from if_neg (fun z => c2 z.2)]
  · rw [if_neg c1, key 1 (Or.inr rfl), show lkO (S.2.2 (S.1 - 2)) (S.2.2 (S.1 - 2 + 1)) = 1 from if_neg (fun z => c1 z.1)]
theorem r_does {S : Pl} (hS : HS R S) {v : Int32} (hv : 0 ≤ v.toInt) {k k' : Nat} {S' : Pl} (h : rst (al R 42) (al R 43) (ai R 45) (wOf v) (vOf v) k S = some (k', S')) : ∃ R', fX12_does_0 (eR m ρ R) m v (Int32.ofNat k) = some (Int32.ofNat k', eR m ρ R') ∧ Fr [41, 44, 46] R R' ∧ HS R' S' := by
  obtain ⟨w1, w2, w3, w4⟩ := wv_of hv
  have q : ∀ j : Nat, j < 2048 → (Int32.ofNat (wOf v) = Int32.ofNat j) = (wOf v = j) := fun j hj => eqw w3 j hj
  have q0 : (Int32.ofNat (wOf v) = 0) = (wOf v = 0) := q 0 (by decide)
  have q1 : (Int32.ofNat (wOf v) = 1) = (wOf v = 1) := q 1 (by decide)
  have q2 : (Int32.ofNat (wOf v) = 2) = (wOf v = 2) := q 2 (by decide)
  have q15 : (Int32.ofNat (wOf v) = 15) = (wOf v = 15) := q 15 (by decide)
  have q16 : (Int32.ofNat (wOf v) = 16) = (wOf v = 16) := q 16 (by decide)
  have hS' := hS
  obtain ⟨e1, e2, e3, e4⟩ := hS'
  unfold fX12_does_0
  rw [w2, w1]
  generalize wOf v = w at *
  generalize vOf v = u at *
  simp only [q0, q1, q2, q15, q16]
  unfold rst at h
  by_cases c0 : w = 0
  · rw [if_pos c0] at h ⊢
    by_cases e : S.1 < 600
    · rw [if_pos e] at h
      obtain ⟨rfl, rfl⟩ := Prod.mk.inj (Option.some.inj h)
      exact ⟨_, by simp only [RisC, Option.bind_some, r_push e1 e _ (Or.inl rfl), suc32], psR_fr _ _ _ _, psR_h e2 e3 e _ _⟩
    · rw [if_neg e] at h; cases h
  rw [if_neg c0] at h ⊢
  by_cases c1 : w = 1
  · rw [if_pos c1] at h ⊢
    by_cases e : S.1 < 600 ∧ u < 11
    · rw [if_pos e] at h
      obtain ⟨rfl, rfl⟩ := Prod.mk.inj (Option.some.inj h)
      exact ⟨_, by simp only [RisC, RG_0, RP_0, RG_1, RP_1, RN_2, Rld_2, Rst_2, RN_3, Rld_3, Rst_3, RN_4, Rld_4, Rst_4, RG_5, RP_5, RG_6, RP_6, RN_7, Rld_7, Rst_7, RN_8, Rld_8, Rst_8, RN_9, Rld_9, Rst_9, RN_10, Rld_10, Rst_10, RG_11, RP_11, RG_12, RP_12, RN_13, Rld_13, Rst_13, RN_14, Rld_14, Rst_14, RN_15, Rld_15, Rst_15, RN_16, Rld_16, Rst_16, RG_17, RP_17, RG_18, RP_18, RG_19, RP_19, RG_20, RP_20, RG_21, RP_21, RG_22, RP_22, RG_23, RP_23, RG_24, RP_24, RG_25, RP_25, RG_26, RP_26, RG_27, RP_27, RG_28, RP_28, RG_29, RP_29, RG_30, RP_30, RG_31, RP_31, RG_32, RP_32, RN_33, Rld_33, Rst_33, RN_34, Rld_34, Rst_34, RN_35, Rld_35, Rst_35, RN_36, Rld_36, Rst_36, RN_37, Rld_37, Rst_37, RN_38, Rld_38, Rst_38, RN_39, Rld_39, Rst_39, RN_40, Rld_40, Rst_40, RN_41, Rld_41, Rst_41, RN_42, Rld_42, Rst_42, RN_43, Rld_43, Rst_43, RN_44, Rld_44, Rst_44, RN_45, Rld_45, Rst_45, RG_46, RP_46, RG_47, RP_47, RG_48, RP_48, RG_49, RP_49, RN_50, Rld_50, Rst_50, RN_51, Rld_51, Rst_51, RN_52, Rld_52, Rst_52, RN_53, Rld_53, Rst_53, RN_54, Rld_54, Rst_54, RN_55, Rld_55, Rst_55, RG_56, RP_56, RG_57, RP_57, RN_58, Rld_58, Rst_58, RN_59, Rld_59, Rst_59, RN_60, Rld_60, Rst_60, RG_61, RP_61, RG_62, RP_62, RG_63, RP_63, RG_64, RP_64, RG_65, RP_65, RG_66, RP_66, RG_67, RP_67, RG_68, RP_68, RG_69, RP_69, RG_70, RP_70, RG_71, RP_71, RN_72, Rld_72, Rst_72, RN_73, Rld_73, Rst_73, RN_74, Rld_74, Rst_74, RN_75, Rld_75, Rst_75, RN_76, Rld_76, Rst_76, RN_77, Rld_77, Rst_77, RN_78, Rld_78, Rst_78, RN_79, Rld_79, Rst_79, RN_80, Rld_80, Rst_80, RN_81, Rld_81, Rst_81, RN_82, Rld_82, Rst_82, RN_83, Rld_83, Rst_83, RN_84, Rld_84, Rst_84, RN_85, Rld_85, Rst_85, RN_86, Rld_86, Rst_86, RG_87, RP_87, RG_88, RP_88, RG_89, RP_89, RG_90, RP_90, RG_91, RP_91, RG_92, RP_92, RG_93, RP_93, RN_94, Rld_94, Rst_94, RN_95, Rld_95, Rst_95, RG_96, RP_96, RN_97, Rld_97, Rst_97, RN_98, Rld_98, Rst_98, RN_99, Rld_99, Rst_99, RN_100, Rld_100, Rst_100, RG_101, RP_101, RN_102, Rld_102, Rst_102, RN_103, Rld_103, Rst_103, RN_104, Rld_104, Rst_104, RG_105, RP_105, Option.bind_some, ix_n (show u < 2147483648 by omega), decide_eq_true e.2, if_true, c32 (show u < 2147483648 by omega), r_push e1 e.1 _ (Or.inl rfl), suc32], psR_fr _ _ _ _, psR_h e2 e3 e.1 _ _⟩
    · rw [if_neg e] at h; cases h
  rw [if_neg c1] at h ⊢
  by_cases c2 : w = 2
  · rw [if_pos c2] at h ⊢
    by_cases e : S.1 < 600 ∧ u < 10 ∧ (ai R 45 u = 0 ∨ ai R 45 u = 1)
    · rw [if_pos e] at h
      obtain ⟨rfl, rfl⟩ := Prod.mk.inj (Option.some.inj h)
      exact ⟨_, by simp only [RisC, RG_0, RP_0, RG_1, RP_1, RN_2, Rld_2, Rst_2, RN_3, Rld_3, Rst_3, RN_4, Rld_4, Rst_4, RG_5, RP_5, RG_6, RP_6, RN_7, Rld_7, Rst_7, RN_8, Rld_8, Rst_8, RN_9, Rld_9, Rst_9, RN_10, Rld_10, Rst_10, RG_11, RP_11, RG_12, RP_12, RN_13, Rld_13, Rst_13, RN_14, Rld_14, Rst_14, RN_15, Rld_15, Rst_15, RN_16, Rld_16, Rst_16, RG_17, RP_17, RG_18, RP_18, RG_19, RP_19, RG_20, RP_20, RG_21, RP_21, RG_22, RP_22, RG_23, RP_23, RG_24, RP_24, RG_25, RP_25, RG_26, RP_26, RG_27, RP_27, RG_28, RP_28, RG_29, RP_29, RG_30, RP_30, RG_31, RP_31, RG_32, RP_32, RN_33, Rld_33, Rst_33, RN_34, Rld_34, Rst_34, RN_35, Rld_35, Rst_35, RN_36, Rld_36, Rst_36, RN_37, Rld_37, Rst_37, RN_38, Rld_38, Rst_38, RN_39, Rld_39, Rst_39, RN_40, Rld_40, Rst_40, RN_41, Rld_41, Rst_41, RN_42, Rld_42, Rst_42, RN_43, Rld_43, Rst_43, RN_44, Rld_44, Rst_44, RN_45, Rld_45, Rst_45, RG_46, RP_46, RG_47, RP_47, RG_48, RP_48, RG_49, RP_49, RN_50, Rld_50, Rst_50, RN_51, Rld_51, Rst_51, RN_52, Rld_52, Rst_52, RN_53, Rld_53, Rst_53, RN_54, Rld_54, Rst_54, RN_55, Rld_55, Rst_55, RG_56, RP_56, RG_57, RP_57, RN_58, Rld_58, Rst_58, RN_59, Rld_59, Rst_59, RN_60, Rld_60, Rst_60, RG_61, RP_61, RG_62, RP_62, RG_63, RP_63, RG_64, RP_64, RG_65, RP_65, RG_66, RP_66, RG_67, RP_67, RG_68, RP_68, RG_69, RP_69, RG_70, RP_70, RG_71, RP_71, RN_72, Rld_72, Rst_72, RN_73, Rld_73, Rst_73, RN_74, Rld_74, Rst_74, RN_75, Rld_75, Rst_75, RN_76, Rld_76, Rst_76, RN_77, Rld_77, Rst_77, RN_78, Rld_78, Rst_78, RN_79, Rld_79, Rst_79, RN_80, Rld_80, Rst_80, RN_81, Rld_81, Rst_81, RN_82, Rld_82, Rst_82, RN_83, Rld_83, Rst_83, RN_84, Rld_84, Rst_84, RN_85, Rld_85, Rst_85, RN_86, Rld_86, Rst_86, RG_87, RP_87, RG_88, RP_88, RG_89, RP_89, RG_90, RP_90, RG_91, RP_91, RG_92, RP_92, RG_93, RP_93, RN_94, Rld_94, Rst_94, RN_95, Rld_95, Rst_95, RG_96, RP_96, RN_97, Rld_97, Rst_97, RN_98, Rld_98, Rst_98, RN_99, Rld_99, Rst_99, RN_100, Rld_100, Rst_100, RG_101, RP_101, RN_102, Rld_102, Rst_102, RN_103, Rld_103, Rst_103, RN_104, Rld_104, Rst_104, RG_105, RP_105, Option.bind_some, ix_n (show u < 2147483648 by omega), decide_eq_true e.2.1, if_true, c32 (show u < 2147483648 by omega), r_push e1 e.1 _ e.2.2, suc32], psR_fr _ _ _ _, psR_h e2 e3 e.1 _ _⟩
    · rw [if_neg e] at h; cases h
  rw [if_neg c2] at h ⊢
  by_cases c15 : w = 15
  · rw [if_pos c15] at h ⊢
    by_cases e : 1 ≤ S.1
    · rw [if_pos e] at h
      obtain ⟨rfl, rfl⟩ := Prod.mk.inj (Option.some.inj h)
      refine ⟨sfi R 46 (Int32.ofNat (S.1 - 1)), ?_, (Fr.refl _ R).sfi (k := 46) (by decide) _, rfl, e2, e3, (show S.1 - 1 ≤ 600 by omega)⟩
      simp only [RisC, RG_0, RP_0, RG_1, RP_1, RN_2, Rld_2, Rst_2, RN_3, Rld_3, Rst_3, RN_4, Rld_4, Rst_4, RG_5, RP_5, RG_6, RP_6, RN_7, Rld_7, Rst_7, RN_8, Rld_8, Rst_8, RN_9, Rld_9, Rst_9, RN_10, Rld_10, Rst_10, RG_11, RP_11, RG_12, RP_12, RN_13, Rld_13, Rst_13, RN_14, Rld_14, Rst_14, RN_15, Rld_15, Rst_15, RN_16, Rld_16, Rst_16, RG_17, RP_17, RG_18, RP_18, RG_19, RP_19, RG_20, RP_20, RG_21, RP_21, RG_22, RP_22, RG_23, RP_23, RG_24, RP_24, RG_25, RP_25, RG_26, RP_26, RG_27, RP_27, RG_28, RP_28, RG_29, RP_29, RG_30, RP_30, RG_31, RP_31, RG_32, RP_32, RN_33, Rld_33, Rst_33, RN_34, Rld_34, Rst_34, RN_35, Rld_35, Rst_35, RN_36, Rld_36, Rst_36, RN_37, Rld_37, Rst_37, RN_38, Rld_38, Rst_38, RN_39, Rld_39, Rst_39, RN_40, Rld_40, Rst_40, RN_41, Rld_41, Rst_41, RN_42, Rld_42, Rst_42, RN_43, Rld_43, Rst_43, RN_44, Rld_44, Rst_44, RN_45, Rld_45, Rst_45, RG_46, RP_46, RG_47, RP_47, RG_48, RP_48, RG_49, RP_49, RN_50, Rld_50, Rst_50, RN_51, Rld_51, Rst_51, RN_52, Rld_52, Rst_52, RN_53, Rld_53, Rst_53, RN_54, Rld_54, Rst_54, RN_55, Rld_55, Rst_55, RG_56, RP_56, RG_57, RP_57, RN_58, Rld_58, Rst_58, RN_59, Rld_59, Rst_59, RN_60, Rld_60, Rst_60, RG_61, RP_61, RG_62, RP_62, RG_63, RP_63, RG_64, RP_64, RG_65, RP_65, RG_66, RP_66, RG_67, RP_67, RG_68, RP_68, RG_69, RP_69, RG_70, RP_70, RG_71, RP_71, RN_72, Rld_72, Rst_72, RN_73, Rld_73, Rst_73, RN_74, Rld_74, Rst_74, RN_75, Rld_75, Rst_75, RN_76, Rld_76, Rst_76, RN_77, Rld_77, Rst_77, RN_78, Rld_78, Rst_78, RN_79, Rld_79, Rst_79, RN_80, Rld_80, Rst_80, RN_81, Rld_81, Rst_81, RN_82, Rld_82, Rst_82, RN_83, Rld_83, Rst_83, RN_84, Rld_84, Rst_84, RN_85, Rld_85, Rst_85, RN_86, Rld_86, Rst_86, RG_87, RP_87, RG_88, RP_88, RG_89, RP_89, RG_90, RP_90, RG_91, RP_91, RG_92, RP_92, RG_93, RP_93, RN_94, Rld_94, Rst_94, RN_95, Rld_95, Rst_95, RG_96, RP_96, RN_97, Rld_97, Rst_97, RN_98, Rld_98, Rst_98, RN_99, Rld_99, Rst_99, RN_100, Rld_100, Rst_100, RG_101, RP_101, RN_102, Rld_102, Rst_102, RN_103, Rld_103, Rst_103, RN_104, Rld_104, Rst_104, RG_105, RP_105, q_fi_sfi, q_fl_sfi, q_fr_sfi, q_ai_sfi, q_al_sfi, q_ar_sfi, q_ln_sfi, q_fi_sfl, q_fl_sfl, q_fr_sfl, q_ai_sfl, q_al_sfl, q_ar_sfl, q_ln_sfl, q_fi_sfr, q_fl_sfr, q_fr_sfr, q_ai_sfr, q_al_sfr, q_ar_sfr, q_ln_sfr, q_fi_sai, q_fl_sai, q_fr_sai, q_ai_sai, q_al_sai, q_ar_sai, q_ln_sai, q_fi_sal, q_fl_sal, q_fr_sal, q_ai_sal, q_al_sal, q_ar_sal, q_ln_sal, q_fi_sar, q_fl_sar, q_fr_sar, q_ai_sar, q_al_sar, q_ar_sar, q_ln_sar, reduceIte, Nat.reduceEqDiff, e1, e2, Option.bind_some, ofNat_m1 (show 0 < S.1 by omega), ix_n (show S.1 - 1 < 2147483648 by omega), decide_eq_true (show S.1 - 1 < 600 by omega), if_true, c32 (show S.1 - 1 < 2147483648 by omega), suc32]
      by_cases g : S.2.1 (S.1 - 1) = 1
      · rw [if_pos g, if_pos g]
      · rw [if_neg g, if_neg g]
    · rw [if_neg e] at h; cases h
  rw [if_neg c15] at h ⊢
  by_cases c16 : w = 16
  · rw [if_pos c16] at h ⊢
    obtain ⟨rfl, rfl⟩ := Prod.mk.inj (Option.some.inj h)
    exact ⟨R, rfl, Fr.refl _ _, hS⟩
  rw [if_neg c16] at h ⊢
  by_cases e : 2 ≤ S.1 ∧ S.1 ≤ 600
  · rw [if_pos e] at h
    obtain ⟨rfl, rfl⟩ := Prod.mk.inj (Option.some.inj h)
    obtain ⟨R', r1, r2, r3⟩ := r_both (m := m) (ρ := ρ) hS e (w := w) ⟨by omega, w3⟩ w4
    exact ⟨R', by simp only [RisC, Option.bind_some, r1, suc32], r2, r3⟩
  · rw [if_neg e] at h; cases h
end
