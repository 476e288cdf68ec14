def opP (R : Gs) (n : Nat) : Gs := sfi (sfi (sfi (sfi (sfi (sfi R 18 (Int32.ofNat n)) 23 1) 17 0) 26 0) 21 0) 62 0
def st_prog (R : Gs) (n : Int32) : Int32 := if 0 ≤ n.toInt ∧ n.toInt ≤ (fi R 17).toInt then 0 else 5
section
variable {m : Nat} {ρ : Hs} {R : Gs} {n : Nat}
theorem r_openP (hn : n ≤ 500) : ∃ R', fX12_next_0 (eR m ρ (opP R n)) m = some (eR m ρ R') ∧ Fr TL (opP R n) R' ∧ RB R' true (txR R) n 0 := by
  have e18 : fi (opP R n) 18 = Int32.ofNat n := rfl
  have etx : txR (opP R n) = txR R := rfl
  obtain ⟨R', f1, f2, f3⟩ := r_next (m := m) (ρ := ρ) (R := opP R n) (pr := true) e18 hn rfl (Nat.zero_le n) rfl
  rw [etx] at f3
  exact ⟨R', f1, f2, ⟨(f2.i 18 (by decide)).trans e18, hn, (f2.i 23 (by decide)), (txR_fr f2 (by decide)).trans etx⟩, f3, (f2.i 21 (by decide))⟩
theorem r_progN {n : Int32} (h : st_prog R n ≠ 0) : fX12_program_0 (eR m ρ R) m n = some (-1, eR m ρ (sfi (sfi (sfi R 1 0) 0 0) 0 5)) := by
  unfold fX12_program_0
  unfold st_prog at h
  simp only [RisC, RG_0, RP_0, RG_1, RP_1, RN_2, Rld_2, Rst_2, RN_3, Rld_3, Rst_3, RN_4, Rld_4, Rst_4, RG_5, RP_5, RG_6, RP_6, RN_7, Rld_7, Rst_7, RN_8, Rld_8, Rst_8, RN_9, Rld_9, Rst_9, RN_10, Rld_10, Rst_10, RG_11, RP_11, RG_12, RP_12, RN_13, Rld_13, Rst_13, RN_14, Rld_14, Rst_14, RN_15, Rld_15, Rst_15, RN_16, Rld_16, Rst_16, RG_17, RP_17, RG_18, RP_18, RG_19, RP_19, RG_20, RP_20, RG_21, RP_21, RG_22, RP_22, RG_23, RP_23, RG_24, RP_24, RG_25, RP_25, RG_26, RP_26, RG_27, RP_27, RG_28, RP_28, RG_29, RP_29, RG_30, RP_30, RG_31, RP_31, RG_32, RP_32, RN_33, Rld_33, Rst_33, RN_34, Rld_34, Rst_34, RN_35, Rld_35, Rst_35, RN_36, Rld_36, Rst_36, RN_37, Rld_37, Rst_37, RN_38, Rld_38, Rst_38, RN_39, Rld_39, Rst_39, RN_40, Rld_40, Rst_40, RN_41, Rld_41, Rst_41, RN_42, Rld_42, Rst_42, RN_43, Rld_43, Rst_43, RN_44, Rld_44, Rst_44, RN_45, Rld_45, Rst_45, RG_46, RP_46, RG_47, RP_47, RG_48, RP_48, RG_49, RP_49, RN_50, Rld_50, Rst_50, RN_51, Rld_51, Rst_51, RN_52, Rld_52, Rst_52, RN_53, Rld_53, Rst_53, RN_54, Rld_54, Rst_54, RN_55, Rld_55, Rst_55, RG_56, RP_56, RG_57, RP_57, RN_58, Rld_58, Rst_58, RN_59, Rld_59, Rst_59, RN_60, Rld_60, Rst_60, RG_61, RP_61, RG_62, RP_62, RG_63, RP_63, RG_64, RP_64, RG_65, RP_65, RG_66, RP_66, RG_67, RP_67, RG_68, RP_68, RG_69, RP_69, RG_70, RP_70, RG_71, RP_71, RN_72, Rld_72, Rst_72, RN_73, Rld_73, Rst_73, RN_74, Rld_74, Rst_74, RN_75, Rld_75, Rst_75, RN_76, Rld_76, Rst_76, RN_77, Rld_77, Rst_77, RN_78, Rld_78, Rst_78, RN_79, Rld_79, Rst_79, RN_80, Rld_80, Rst_80, RN_81, Rld_81, Rst_81, RN_82, Rld_82, Rst_82, RN_83, Rld_83, Rst_83, RN_84, Rld_84, Rst_84, RN_85, Rld_85, Rst_85, RN_86, Rld_86, Rst_86, RG_87, RP_87, RG_88, RP_88, RG_89, RP_89, RG_90, RP_90, RG_91, RP_91, RG_92, RP_92, RG_93, RP_93, RN_94, Rld_94, Rst_94, RN_95, Rld_95, Rst_95, RG_96, RP_96, RN_97, Rld_97, Rst_97, RN_98, Rld_98, Rst_98, RN_99, Rld_99, Rst_99, RN_100, Rld_100, Rst_100, RG_101, RP_101, RN_102, Rld_102, Rst_102, RN_103, Rld_103, Rst_103, RN_104, Rld_104, Rst_104, RG_105, RP_105, q_fi_sfi, q_fl_sfi, q_fr_sfi, q_ai_sfi, q_al_sfi, q_ar_sfi, q_ln_sfi, q_fi_sfl, q_fl_sfl, q_fr_sfl, q_ai_sfl, q_al_sfl, q_ar_sfl, q_ln_sfl, q_fi_sfr, q_fl_sfr, q_fr_sfr, q_ai_sfr, q_al_sfr, q_ar_sfr, q_ln_sfr, q_fi_sai, q_fl_sai, q_fr_sai, q_ai_sai, q_al_sai, q_ar_sai, q_ln_sai, q_fi_sal, q_fl_sal, q_fr_sal, q_ai_sal, q_al_sal, q_ar_sal, q_ln_sal, q_fi_sar, q_fl_sar, q_fr_sar, q_ai_sar, q_al_sar, q_ar_sar, q_ln_sar, reduceIte, Nat.reduceEqDiff, Option.bind_some, r_refuse, lt32, le32, i0]
  by_cases k1 : 0 ≤ n.toInt ∧ n.toInt ≤ (fi R 17).toInt
  · rw [if_pos k1] at h; exact absurd rfl h
  · by_cases k : n.toInt < 0
    · rw [if_pos k]
    · rw [if_neg k, if_neg (by omega)]
theorem r_progY (h : st_prog R (Int32.ofNat n) = 0) {R' : Gs} (hN : fX12_next_0 (eR m ρ (opP (sfi (sfi R 1 0) 0 0) n)) m = some (eR m ρ R')) : fX12_program_0 (eR m ρ R) m (Int32.ofNat n) = fX12_program_62 (eR m ρ R') m := by
  unfold st_prog at h
  by_cases k1 : 0 ≤ (Int32.ofNat n).toInt ∧ (Int32.ofNat n).toInt ≤ (fi R 17).toInt
  · unfold fX12_program_0
    simp only [RisC, RG_0, RP_0, RG_1, RP_1, RN_2, Rld_2, Rst_2, RN_3, Rld_3, Rst_3, RN_4, Rld_4, Rst_4, RG_5, RP_5, RG_6, RP_6, RN_7, Rld_7, Rst_7, RN_8, Rld_8, Rst_8, RN_9, Rld_9, Rst_9, RN_10, Rld_10, Rst_10, RG_11, RP_11, RG_12, RP_12, RN_13, Rld_13, Rst_13, RN_14, Rld_14, Rst_14, RN_15, Rld_15, Rst_15, RN_16, Rld_16, Rst_16, RG_17, RP_17, RG_18, RP_18, RG_19, RP_19, RG_20, RP_20, RG_21, RP_21, RG_22, RP_22, RG_23, RP_23, RG_24, RP_24, RG_25, RP_25, RG_26, RP_26, RG_27, RP_27, RG_28, RP_28, RG_29, RP_29, RG_30, RP_30, RG_31, RP_31, RG_32, RP_32, RN_33, Rld_33, Rst_33, RN_34, Rld_34, Rst_34, RN_35, Rld_35, Rst_35, RN_36, Rld_36, Rst_36, RN_37, Rld_37, Rst_37, RN_38, Rld_38, Rst_38, RN_39, Rld_39, Rst_39, RN_40, Rld_40, Rst_40, RN_41, Rld_41, Rst_41, RN_42, Rld_42, Rst_42, RN_43, Rld_43, Rst_43, RN_44, Rld_44, Rst_44, RN_45, Rld_45, Rst_45, RG_46, RP_46, RG_47, RP_47, RG_48, RP_48, RG_49, RP_49, RN_50, Rld_50, Rst_50, RN_51, Rld_51, Rst_51, RN_52, Rld_52, Rst_52, RN_53, Rld_53, Rst_53, RN_54, Rld_54, Rst_54, RN_55, Rld_55, Rst_55, RG_56, RP_56, RG_57, RP_57, RN_58, Rld_58, Rst_58, RN_59, Rld_59, Rst_59, RN_60, Rld_60, Rst_60, RG_61, RP_61, RG_62, RP_62, RG_63, RP_63, RG_64, RP_64, RG_65, RP_65, RG_66, RP_66, RG_67, RP_67, RG_68, RP_68, RG_69, RP_69, RG_70, RP_70, RG_71, RP_71, RN_72, Rld_72, Rst_72, RN_73, Rld_73, Rst_73, RN_74, Rld_74, Rst_74, RN_75, Rld_75, Rst_75, RN_76, Rld_76, Rst_76, RN_77, Rld_77, Rst_77, RN_78, Rld_78, Rst_78, RN_79, Rld_79, Rst_79, RN_80, Rld_80, Rst_80, RN_81, Rld_81, Rst_81, RN_82, Rld_82, Rst_82, RN_83, Rld_83, Rst_83, RN_84, Rld_84, Rst_84, RN_85, Rld_85, Rst_85, RN_86, Rld_86, Rst_86, RG_87, RP_87, RG_88, RP_88, RG_89, RP_89, RG_90, RP_90, RG_91, RP_91, RG_92, RP_92, RG_93, RP_93, RN_94, Rld_94, Rst_94, RN_95, Rld_95, Rst_95, RG_96, RP_96, RN_97, Rld_97, Rst_97, RN_98, Rld_98, Rst_98, RN_99, Rld_99, Rst_99, RN_100, Rld_100, Rst_100, RG_101, RP_101, RN_102, Rld_102, Rst_102, RN_103, Rld_103, Rst_103, RN_104, Rld_104, Rst_104, RG_105, RP_105, q_fi_sfi, q_fl_sfi, q_fr_sfi, q_ai_sfi, q_al_sfi, q_ar_sfi, q_ln_sfi, q_fi_sfl, q_fl_sfl, q_fr_sfl, q_ai_sfl, q_al_sfl, q_ar_sfl, q_ln_sfl, q_fi_sfr, q_fl_sfr, q_fr_sfr, q_ai_sfr, q_al_sfr, q_ar_sfr, q_ln_sfr, q_fi_sai, q_fl_sai, q_fr_sai, q_ai_sai, q_al_sai, q_ar_sai, q_ln_sai, q_fi_sal, q_fl_sal, q_fr_sal, q_ai_sal, q_al_sal, q_ar_sal, q_ln_sal, q_fi_sar, q_fl_sar, q_fr_sar, q_ai_sar, q_al_sar, q_ar_sar, q_ln_sar, reduceIte, Nat.reduceEqDiff, Option.bind_some, lt32, le32, i0]
    rw [if_neg (show ¬ (Int32.ofNat n).toInt < 0 by omega), if_pos k1.2]
    simp only [RisC, RG_0, RP_0, RG_1, RP_1, RN_2, Rld_2, Rst_2, RN_3, Rld_3, Rst_3, RN_4, Rld_4, Rst_4, RG_5, RP_5, RG_6, RP_6, RN_7, Rld_7, Rst_7, RN_8, Rld_8, Rst_8, RN_9, Rld_9, Rst_9, RN_10, Rld_10, Rst_10, RG_11, RP_11, RG_12, RP_12, RN_13, Rld_13, Rst_13, RN_14, Rld_14, Rst_14, RN_15, Rld_15, Rst_15, RN_16, Rld_16, Rst_16, RG_17, RP_17, RG_18, RP_18, RG_19, RP_19, RG_20, RP_20, RG_21, RP_21, RG_22, RP_22, RG_23, RP_23, RG_24, RP_24, RG_25, RP_25, RG_26, RP_26, RG_27, RP_27, RG_28, RP_28, RG_29, RP_29, RG_30, RP_30, RG_31, RP_31, RG_32, RP_32, RN_33, Rld_33, Rst_33, RN_34, Rld_34, Rst_34, RN_35, Rld_35, Rst_35, RN_36, Rld_36, Rst_36, RN_37, Rld_37, Rst_37, RN_38, Rld_38, Rst_38, RN_39, Rld_39, Rst_39, RN_40, Rld_40, Rst_40, RN_41, Rld_41, Rst_41, RN_42, Rld_42, Rst_42, RN_43, Rld_43, Rst_43, RN_44, Rld_44, Rst_44, RN_45, Rld_45, Rst_45, RG_46, RP_46, RG_47, RP_47, RG_48, RP_48, RG_49, RP_49, RN_50, Rld_50, Rst_50, RN_51, Rld_51, Rst_51, RN_52, Rld_52, Rst_52, RN_53, Rld_53, Rst_53, RN_54, Rld_54, Rst_54, RN_55, Rld_55, Rst_55, RG_56, RP_56, RG_57, RP_57, RN_58, Rld_58, Rst_58, RN_59, Rld_59, Rst_59, RN_60, Rld_60, Rst_60, RG_61, RP_61, RG_62, RP_62, RG_63, RP_63, RG_64, RP_64, RG_65, RP_65, RG_66, RP_66, RG_67, RP_67, RG_68, RP_68, RG_69, RP_69, RG_70, RP_70, RG_71, RP_71, RN_72, Rld_72, Rst_72, RN_73, Rld_73, Rst_73, RN_74, Rld_74, Rst_74, RN_75, Rld_75, Rst_75, RN_76, Rld_76, Rst_76, RN_77, Rld_77, Rst_77, RN_78, Rld_78, Rst_78, RN_79, Rld_79, Rst_79, RN_80, Rld_80, Rst_80, RN_81, Rld_81, Rst_81, RN_82, Rld_82, Rst_82, RN_83, Rld_83, Rst_83, RN_84, Rld_84, Rst_84, RN_85, Rld_85, Rst_85, RN_86, Rld_86, Rst_86, RG_87, RP_87, RG_88, RP_88, RG_89, RP_89, RG_90, RP_90, RG_91, RP_91, RG_92, RP_92, RG_93, RP_93, RN_94, Rld_94, Rst_94, RN_95, Rld_95, Rst_95, RG_96, RP_96, RN_97, Rld_97, Rst_97, RN_98, Rld_98, Rst_98, RN_99, Rld_99, Rst_99, RN_100, Rld_100, Rst_100, RG_101, RP_101, RN_102, Rld_102, Rst_102, RN_103, Rld_103, Rst_103, RN_104, Rld_104, Rst_104, RG_105, RP_105, q_fi_sfi, q_fl_sfi, q_fr_sfi, q_ai_sfi, q_al_sfi, q_ar_sfi, q_ln_sfi, q_fi_sfl, q_fl_sfl, q_fr_sfl, q_ai_sfl, q_al_sfl, q_ar_sfl, q_ln_sfl, q_fi_sfr, q_fl_sfr, q_fr_sfr, q_ai_sfr, q_al_sfr, q_ar_sfr, q_ln_sfr, q_fi_sai, q_fl_sai, q_fr_sai, q_ai_sai, q_al_sai, q_ar_sai, q_ln_sai, q_fi_sal, q_fl_sal, q_fr_sal, q_ai_sal, q_al_sal, q_ar_sal, q_ln_sal, q_fi_sar, q_fl_sar, q_fr_sar, q_ai_sar, q_al_sar, q_ar_sar, q_ln_sar, reduceIte, Nat.reduceEqDiff, or_true, if_true, Option.bind_some, RisC]
    rw [show eR m ρ (sfi (sfi (sfi (sfi (sfi (sfi (sfi (sfi R 1 0) 0 0) 18 (Int32.ofNat n)) 23 1) 17 0) 26 0) 21 0) 62 0) = eR m ρ (opP (sfi (sfi R 1 0) 0 0) n) from rfl, hN, Option.bind_some]
  · rw [if_neg k1] at h; exact absurd h (by decide)
end
section
variable {x : Nat} {s : Hs} {G R : Gs} {n : Nat}
theorem st4_self {b : Nat} {H1 H2 : Gs} {t : Hs} (h1 : A5 b H1 t) (h2 : A4 (b + 6) H2 t) : st4 b t H1 H2 = t := by
  unfold st4
  rw [show e5 b t H1 = t from h1]; exact h2
theorem st4_lo {b q : Nat} {s : Hs} {H1 H2 : Gs} (hq : q < b) : (st4 b s H1 H2).2.1 q = s.2.1 q := (e4_out _ _ (by omega)).trans (e5_out _ _ (by omega))
theorem c_prog (hA : A11 x G s) (hl : ln G 2 = 500) (hO : PO x s) (hx : x + 78 ≤ s.1) (hn : n ≤ 500) (htx : ∀ j, j < n → ai G 2 j = ai R 16 j) : ∃ s0 s' s3 K, fX5_init_0 (nwO 7 tyX5 s) s.1 (x + 2) (Int32.ofNat n) (s.2.2 12) (s.2.2 13) = some s0 ∧ isC s0 s.1 7 = some () ∧ fX5_cut_0 s0 s.1 = some s' ∧ fX4_init_0 (nwO 6 tyX4 s') s'.1 s.1 = some s3 ∧ isC s3 s'.1 6 = some () ∧ s'.1 = s.1 + 6 ∧ (s3.1 = s.1 + 10 ∧ s3.2.2 = s.2.2 ∧ ∀ q, q < s.1 → s3.2.1 q = s.2.1 q) ∧ ∀ m ρ, ∃ R', fX12_next_0 (eR m ρ (opP R n)) m = some (eR m ρ R') ∧ Fr TL (opP R n) R' ∧ Pq s.1 s3 m ρ (txR R) n K (nw4 s.1) R' (fX4_readLines_0 s3 (s.1 + 6)) (fX12_program_62 (eR m ρ R') m) := by
  obtain ⟨s0, s', H, K, a1, a2, a3, a4, a5, a6, a7, a8⟩ := c_open (tx := txR R) true hA hl hO hx hn (fun j hj => by rw [htx j hj]; rfl) (txR_b R)
  obtain ⟨s3, b1, b2, b3, b4, b5⟩ := x4_new s' (b := s.1) (by omega)
  rw [a4] at b5
  have h5 : A5 s.1 H s3 := A5_fr a7 (fun q hq => b4 q (by omega))
  have hs3 : st4 s.1 s3 H (nw4 s.1) = s3 := st4_self h5 b5
  refine ⟨s0, s', s3, K, a1, a2, a3, b1, by rw [a4]; exact z4_C b5, a4, ⟨by omega, b3.trans a5, fun q hq => (b4 q (by omega)).trans (a6 q hq)⟩, fun m ρ => ?_⟩
  obtain ⟨R', f1, f2, f3⟩ := r_openP (m := m) (ρ := ρ) (R := R) hn
  refine ⟨R', f1, f2, ?_⟩
  have hL : Lq s.1 (txR R) n K H (nw4 s.1) R' 0 0 0 := ⟨a8, ⟨rfl, ⟨rfl, rfl, rfl⟩, ⟨rfl, by omega⟩, rfl⟩, ⟨f3, (f2.i 62 (by decide))⟩, Nat.le_refl _, by omega⟩
  have := q_lines (σ0 := s3) (m := m) (ρ := ρ) hL
  rw [hs3] at this
  exact this
end
section
variable {P : Par} {x : Nat} {σ : Hs}
theorem both_program (hP : P.ok) (hP2 : P.2.1 = RPp) (hk : P.bk) (hI : Inv P x σ) (n : Int32) : ∃ v σ1 σ2, fX11_program_0 σ x n = some (v, σ1) ∧ fX12_program_0 σ1 (x + 20) n = some (v, σ2) ∧ Inv P x σ2 := by
  obtain ⟨own, R, hE, hX, hW, h6⟩ := hI
  obtain ⟨G, T, eC, eV, eN, eT, eS, h⟩ := hX
  have hA := h.2.2.1.at
  have h3 : fi G 3 = fi R 17 := h.2.2.1.2.2.1
  have y1 : fX11_program_0 σ x n = fX11_program_18 σ x n x (st_prog R n) := by
    unfold fX11_program_0 st_prog
    simp only [z11_g3 hA, h3, x_isWithin, Option.bind_some, b2i_0, i0]
    by_cases c : 0 ≤ n.toInt ∧ n.toInt ≤ (fi R 17).toInt
    · rw [if_neg (fun q => q c), if_pos c]
    · rw [if_pos c, if_neg c]
  have hA2 : ∀ v, A11 x (sfi G 0 v) (e11 x σ (sfi G 0 v)) := fun v => A11_self _ _
  rw [y1]
  unfold fX11_program_18
  simp only [z11_p0 hA, z11_g0 (hA2 _), Option.bind_some]
  by_cases hst : st_prog R n = 0
  rotate_left
  · -- refused
    have e0 : ¬ fi (sfi G 0 (st_prog R n)) 0 = 0 := hst
    have e5 : st_prog R n = 5 := by
      unfold st_prog at *
      by_cases c : 0 ≤ n.toInt ∧ n.toInt ≤ (fi R 17).toInt
      · rw [if_pos c] at hst; exact absurd rfl hst
      · rw [if_neg c]
    rw [if_neg e0]
    have hE1 : eR (x + 20) (e11 x σ (sfi G 0 (st_prog R n))) R = e11 x σ (sfi G 0 (st_prog R n)) := eR_in hE (fun a h1 h2 => e11_out _ _ (by omega))
    have hr := r_progN (m := x + 20) (ρ := e11 x σ (sfi G 0 (st_prog R n))) hst
    rw [hE1] at hr
    exact ⟨_, _, _, rfl, hr, inv_mk hP ⟨_, _, _, _, _, _, _, h.st hP hW _⟩ hW (((Fr.refl _ R).sfi (k := 1) (by decide) _).sfi (k := 0) (by decide) _ |>.sfi (k := 0) (by decide) _) e5.symm h6⟩
  obtain ⟨tp, tp1, tp2⟩ := hW.2.2.2.2.2.2.2.2.1
  have hk1 : 0 ≤ n.toInt ∧ n.toInt ≤ (fi R 17).toInt := by
    unfold st_prog at hst
    by_cases c : 0 ≤ n.toInt ∧ n.toInt ≤ (fi R 17).toInt
    · exact c
    · rw [if_neg c] at hst; exact absurd hst (by decide)
  obtain ⟨n', hn', hn500⟩ : ∃ n' : Nat, n = Int32.ofNat n' ∧ n' ≤ 500 := by
    refine ⟨n.toNatClampNeg, (of_cl hk1.1).1, ?_⟩
    have : n.toNatClampNeg = n.toInt.toNat := rfl
    rw [tp2, n32 (by omega)] at hk1
    omega
  subst hn'
  rw [if_pos (show fi (sfi G 0 (st_prog R (Int32.ofNat n'))) 0 = 0 from hst), hst]
  have hs := h.st hP hW 0
  have hC01 : Chg x own [1] σ (e11 x σ (sfi G 0 0)) := e11_chg σ _ (by decide)
  have hA1 := hA2 0
  generalize hs1 : e11 x σ (sfi G 0 0) = s1 at *
  generalize hG1 : sfi G 0 0 = G1 at *
  have e1 : s1.1 = σ.1 := by rw [← hs1]; rfl
  let R2 : Gs := sfi (sfi R 1 0) 0 0
  have htx : ∀ j, j < n' → ai G1 2 j = ai R2 16 j := fun j hj => hs.2.2.1.2.2.2.2.2.2.2.2.2 j (by have := hk1.2; rw [n32 (by omega)] at this; omega)
  obtain ⟨s0, s', s3, K, a1, a2, a3, b1, b2, a4, ⟨l1, l2, l3⟩, hall⟩ := c_prog (R := R2) hA1 hs.2.2.1.2.2.2.2.2.2.2.1.2.1 hs.2.1 hs.1 hn500 htx
  have hx1 := hs.1
  have hcl : ∀ {X : Option Hs}, fX4_readLines_0 s3 (s1.1 + 6) = X → ∀ (K2 : Nat → Hs → Option (Int32 × Hs)), ((gN (nwO 7 tyX5 s1) x 13 2).bind fun vq8 => (fX5_init_0 (nwO 7 tyX5 s1) s1.1 vq8 (Int32.ofNat n') ((nwO 7 tyX5 s1).2.2 12) ((nwO 7 tyX5 s1).2.2 13)).bind fun sq9 => (isC sq9 s1.1 7).bind fun iq10 => (fX5_cut_0 sq9 s1.1).bind fun sq11 => (fX4_init_0 (nwO 6 tyX4 sq11) sq11.1 s1.1).bind fun sq13 => (isC sq13 sq11.1 6).bind fun iq14 => (fX4_readLines_0 sq13 sq11.1).bind (K2 sq11.1)) = X.bind (K2 (s1.1 + 6)) := by
    intro X hX K2
    have g2 : gN (nwO 7 tyX5 s1) x 13 2 = some (x + 2) := by
      have := z11_g2 hA1
      unfold gN gV at *
      rw [show (nwO 7 tyX5 s1).2.1 x = s1.2.1 x from nw_n _ _ (by omega)]; exact this
    rw [g2, Option.bind_some, show (nwO 7 tyX5 s1).2.2 = s1.2.2 from rfl, a1, Option.bind_some, a2, Option.bind_some, a3, Option.bind_some, b1, Option.bind_some, b2, Option.bind_some, a4, hX]
  have hlow : ∀ (H1 H2 : Gs) (q : Nat), q < s1.1 → (st4 s1.1 s3 H1 H2).2.1 q = s1.2.1 q := fun H1 H2 q hq => (st4_lo hq).trans (l3 q hq)
  have hA4 : ∀ H1 H2, A11 x G1 (st4 s1.1 s3 H1 H2) := fun H1 H2 => A11_fr hA1 (fun a ha => hlow H1 H2 a (by omega))
  have hE0 : eR (x + 20) s1 R = s1 := eR_in hE (fun a q1 q2 => by rw [← hs1]; exact e11_out _ _ (by omega))
  have FO : Fr (17 :: SCR) R (opP R2 n') := ((((((((Fr.refl _ R).sfi (k := 1) (by decide) _).sfi (k := 0) (by decide) _).sfi (k := 18) (by decide) _).sfi (k := 23) (by decide) _).sfi (k := 17) (by decide) _).sfi (k := 26) (by decide) _).sfi (k := 21) (by decide) _).sfi (k := 62) (by decide) _
  have FU : ∀ {Ra Rb : Gs}, Fr TL (opP R2 n') Ra → Fr RLk Ra Rb → Fr (17 :: SCR) R Rb ∧ (fi Rb 17 = 0 ∧ fi Rb 0 = 0 ∧ fi Rb 6 = fi R 6) := fun q1 q2 => ⟨FO.trans ((q1.mono (by decide)).trans (q2.mono (by decide))), (q2.i 17 (by decide)).trans (q1.i 17 (by decide)), (q2.i 0 (by decide)).trans (q1.i 0 (by decide)), (q2.i 6 (by decide)).trans (q1.i 6 (by decide))⟩
  obtain ⟨Ra, fa1, fa2, hTa⟩ := hall (x + 20) σ
  have hRTx : ∀ {U : Gs} {Ls : List Nat}, Fr Ls R U → (∀ k, k ∈ [30, 34, 35, 36] → k ∉ Ls) → RTx U := by
    intro U Ls hU hL
    have w7 := hW.2.2.2.2.2.2.1
    unfold RTx nT at *
    rw [hU.i 30 (hL _ (by decide)), hU.ai 34 (hL _ (by decide)), hU.ai 35 (hL _ (by decide)), hU.ai 36 (hL _ (by decide))]
    exact w7
  rcases hTa with ⟨Ga, Ha, Ra', aa, mka, La, xa, -, da, -⟩ | ⟨Ga, Ha, Ra', aa, kd, La, xa, -, da, -⟩
  rotate_left
  · -- a fault
    have hkd := Dq_kd da
    have z9 : fi Ga 9 = Int32.ofNat kd := da.1.2.2.2.1
    have z10 : fi Ga 10 = Int32.ofNat (pA (txR R2) n' aa) := da.1.2.2.2.2.2.1
    have hce := c_end (x := x) (hA4 Ga Ha) hx1 (s4_A5 (b := s1.1) (σ0 := s3) (G := Ga) (H := Ha))
    rw [if_neg (show ¬ fi Ga 9 = 0 by rw [z9]; exact (bdn hkd).2)] at hce
    obtain ⟨σ1, hσ1⟩ : ∃ σ1, σ1 = e11 x (st4 s1.1 s3 Ga Ha) (edG G1 (fi Ga 9) (fi Ga 10) 10) := ⟨_, rfl⟩
    rw [← hσ1] at hce
    have hE1 : eR (x + 20) σ1 R = σ1 := eR_in hE0 (fun a q1 q2 => by rw [hσ1]; exact (e11_out _ _ (by omega)).trans (hlow _ _ a (by omega)))
    obtain ⟨Rb, fb1, fb2, hTb⟩ := hall (x + 20) σ1
    have hry := r_progY (m := x + 20) (ρ := σ1) hst fb1
    rw [hE1] at hry
    have hg0 : gI σ1 x 13 0 = some 10 := by rw [hσ1, y11_g0]; rfl
    rcases hTb with ⟨Gb, Hb, Rb', ab, mkb, Lb, xb, yb, db, fb, -⟩ | ⟨Gb, Hb, Rb', ab, kb, Lb, xb, yb, db, fb⟩
    · exfalso
      have q := Option.some.inj (xa.symm.trans xb)
      have e9 : some (fi Ga 9) = some (fi Gb 9) := by
        rw [← z5_g9 (s4_A5 (b := s1.1) (σ0 := s3) (G := Ga) (H := Ha)), ← z5_g9 (s4_A5 (b := s1.1) (σ0 := s3) (G := Gb) (H := Hb)), q]
      have e9' := Option.some.inj e9
      rw [z9, db.1.2.2.2.1] at e9'
      exact (bdn hkd).2 e9'
    · have q := Option.some.inj (xa.symm.trans xb)
      have e9 : some (fi Ga 9) = some (fi Gb 9) := by
        rw [← z5_g9 (s4_A5 (b := s1.1) (σ0 := s3) (G := Ga) (H := Ha)), ← z5_g9 (s4_A5 (b := s1.1) (σ0 := s3) (G := Gb) (H := Hb)), q]
      have e10 : some (fi Ga 10) = some (fi Gb 10) := by
        rw [← z5_g10 (s4_A5 (b := s1.1) (σ0 := s3) (G := Ga) (H := Ha)), ← z5_g10 (s4_A5 (b := s1.1) (σ0 := s3) (G := Gb) (H := Hb)), q]
      have z9b : fi Gb 9 = Int32.ofNat kb := db.1.2.2.2.1
      have z10b : fi Gb 10 = Int32.ofNat (pA (txR R2) n' ab) := db.1.2.2.2.2.2.1
      have e9' : Int32.ofNat kb = fi Ga 9 := by rw [Option.some.inj e9, z9b]
      have e10' : fi Rb' 22 = fi Ga 10 := by rw [Option.some.inj e10, z10b, db.2.2.1.2]
      have hr := r_rsPN (m := x + 20) (ρ := σ1) db.2.2.1.1 (Dq_kd db)
      obtain ⟨FU1, u17, -, u6⟩ := FU fb2 fb
      have FU2 : Fr (17 :: 19 :: 20 :: SCR) R (sfi (sfi (sfi Rb' 19 (Int32.ofNat kb)) 20 (fi Rb' 22)) 0 10) := (((FU1.mono (by decide)).sfi (k := 19) (by decide) _).sfi (k := 20) (by decide) _).sfi (k := 0) (by decide) _
      have hCh : Chg x own [1] s1 (st4 s1.1 s3 Ga Ha) := ⟨by show s1.1 ≤ s3.1; omega, l2, fun a q1 _ => hlow Ga Ha a q1⟩
      have hXW := k_badText hP hk hs hW hCh (hA4 Ga Ha) (fi Ga 9) (fi Ga 10) 10 FU2 u17 e9' e10'
      rw [← hσ1] at hXW
      refine ⟨-1, σ1, _, (hcl xa (fun ad sq11 => (isC sq11 x 13).bind fun iq12 => (fX11_endReading_0 sq11 x s1.1).bind fun sq13 => (gI sq13 x 13 0).bind fun vq14 => if vq14 = 0 then ((pV sq13 x 13 13 (.ref ad)).bind fun sq15 => (gI sq15 ad 6 5).bind fun vq16 => some (vq16, sq15)) else (some ((-1), sq13)))).trans ?_, hry.trans (yb.trans hr), inv_mk hP hXW (RW_text hW FU2 (by decide) u17 (hRTx FU2 (by decide))) (Fr.refl _ _) rfl ?_⟩
      · show ((isC (st4 s1.1 s3 Ga Ha) x 13).bind fun _ => (fX11_endReading_0 (st4 s1.1 s3 Ga Ha) x s1.1).bind _) = _
        rw [z11_C (hA4 Ga Ha), Option.bind_some, hce, Option.bind_some, hg0, Option.bind_some, if_neg (by decide)]
      · obtain ⟨k6, k61, k62⟩ := h6
        exact ⟨k6, k61, u6.trans k62⟩
  have z9 : fi Ga 9 = 0 := da.1.2.2.2.1
  have z10 : fi Ga 10 = -1 := da.1.2.2.2.2.1
  have hce := c_end (x := x) (hA4 Ga Ha) hx1 (s4_A5 (b := s1.1) (σ0 := s3) (G := Ga) (H := Ha))
  rw [if_pos z9, z9, z10] at hce
  obtain ⟨σ1, hσ1⟩ : ∃ σ1, σ1 = e11 x (st4 s1.1 s3 Ga Ha) (sfr (edG G1 0 (-1) 0) 13 (some (s1.1 + 6))) := ⟨_, rfl⟩
  have hE1 : eR (x + 20) σ1 R = σ1 := eR_in hE0 (fun a q1 q2 => by rw [hσ1]; exact (e11_out _ _ (by omega)).trans (hlow _ _ a (by omega)))
  obtain ⟨Rb, fb1, fb2, hTb⟩ := hall (x + 20) σ1
  have hry := r_progY (m := x + 20) (ρ := σ1) hst fb1
  rw [hE1] at hry
  rcases hTb with ⟨Gb, Hb, Rb', ab, mkb, Lb, xb, yb, db, fb, hBk⟩ | ⟨Gb, Hb, Rb', ab, kb, Lb, xb, yb, db, fb⟩
  rotate_left
  · exfalso
    have q := Option.some.inj (xa.symm.trans xb)
    have e9 : some (fi Ga 9) = some (fi Gb 9) := by
      rw [← z5_g9 (s4_A5 (b := s1.1) (σ0 := s3) (G := Ga) (H := Ha)), ← z5_g9 (s4_A5 (b := s1.1) (σ0 := s3) (G := Gb) (H := Hb)), q]
    have e9' := Option.some.inj e9
    rw [z9, db.1.2.2.2.1] at e9'
    exact (bdn (Dq_kd db)).2 e9'.symm
  have q := Option.some.inj (xa.symm.trans xb)
  have hb4 : A4 (s1.1 + 6) Hb (st4 s1.1 s3 Ga Ha) := by rw [q]; exact s4_A4
  obtain ⟨Rf, cp1, cpF, ⟨cp19, cp20, cp61⟩, cpA⟩ := r_rsPY (m := x + 20) (ρ := σ1) db.2.2.1.1.2.2 db.2.2.1.2 db.2.2.2.2
  obtain ⟨FU1, u17, u0, u6⟩ := FU fb2 fb
  have FU2 : Fr (17 :: 19 :: 20 :: 61 :: 72 :: 73 :: 74 :: SCR) R Rf := (FU1.mono (by decide)).trans (cpF.mono (by decide))
  have v17 : fi Rf 17 = 0 := (cpF.i 17 (by decide)).trans u17
  have h40 := db.2.2.2.2
  obtain ⟨-, ⟨hn1, hn2, hn3⟩, ⟨hn4, hn5⟩, hn6⟩ := db.2.1
  have hRP : RPp Hb Rf := ⟨Lb, mkb, ⟨cp61, h40⟩, ⟨hn4, hn5⟩, ⟨hn1, hn2, hn3⟩, Bk_cg hBk (fun j _ j2 => cpA j j2) (fun j _ _ => ⟨rfl, rfl, rfl⟩)⟩
  obtain ⟨own', hXW⟩ := k_newProg hP hk hs hW (s := st4 s1.1 s3 Ga Ha) ⟨l1, l2, fun q hq => hlow Ga Ha q hq⟩ hb4 FU2 v17 cp19 cp20 (by rw [cp61, n32 (by omega)]; omega) (by rw [hP2]; exact hRP)
  rw [← hσ1] at hXW
  have hD5 : gI σ1 (s1.1 + 6) 6 5 = some (Int32.ofNat Lb) := by
    have hq4 : A4 (s1.1 + 6) Hb σ1 := by rw [hσ1]; exact A4_fr hb4 (fun a ha => e11_out _ _ (by omega))
    rw [z4_g5 hq4]; exact congrArg some hn6
  refine ⟨Int32.ofNat Lb, σ1, _, (hcl xa (fun ad sq11 => (isC sq11 x 13).bind fun iq12 => (fX11_endReading_0 sq11 x s1.1).bind fun sq13 => (gI sq13 x 13 0).bind fun vq14 => if vq14 = 0 then ((pV sq13 x 13 13 (.ref ad)).bind fun sq15 => (gI sq15 ad 6 5).bind fun vq16 => some (vq16, sq15)) else (some ((-1), sq13)))).trans ?_, hry.trans (yb.trans cp1), inv_mk hP hXW (RW_text hW FU2 (by decide) v17 (hRTx FU2 (by decide))) (Fr.refl _ _) ?_ ?_⟩
  · show ((isC (st4 s1.1 s3 Ga Ha) x 13).bind fun _ => (fX11_endReading_0 (st4 s1.1 s3 Ga Ha) x s1.1).bind _) = _
    rw [z11_C (hA4 Ga Ha), Option.bind_some, hce, Option.bind_some, y11_g0, Option.bind_some, if_pos (show fi (edG G1 0 (-1) 0) 0 = 0 from rfl), y11_p13, Option.bind_some, ← hσ1, hD5, Option.bind_some]
  · exact (cpF.i 0 (by decide)).trans u0
  · obtain ⟨k6, k61, k62⟩ := h6
    exact ⟨k6, k61, (cpF.i 6 (by decide)).trans (u6.trans k62)⟩
end
