theorem jm1 : (-1 : Int64).toInt = -1 := rfl
theorem r_isI (σ : Hs) (v : Int32) (a b : Int64) : fX12_isIn_0 σ v.toInt64 a b = some (b2i (a.toInt ≤ v.toInt ∧ v.toInt ≤ b.toInt)) := by
  rw [r_isIn]; simp only [le64, up64]
theorem r_isClock {m : Nat} {ρ : Hs} {R : Gs} {n : Nat} (hn : fi R 11 = Int32.ofNat n) (h12 : n ≤ 12) (c : Int32) : fX12_isClock_0 (eR m ρ R) m c = some (b2i (0 ≤ c.toInt ∧ c.toInt < n)) := by
  unfold fX12_isClock_0
  simp only [RG_11, Option.bind_some, r_isI, bb_b, hn]
  have e : ((Int32.ofNat n - 1).toInt64).toInt = (n : Int) - 1 := by
    rw [up64, sub32, n32 (by omega)]; rfl
    rw [n32 (by omega)]; show _ ≤ (n : Int) - 1 ∧ (n : Int) - 1 < _; omega
  rw [e]
  refine congrArg some ?_
  unfold b2i
  by_cases h : 0 ≤ c.toInt ∧ c.toInt < n
  · rw [if_pos h, if_pos ⟨h.1, by omega⟩]
  · rw [if_neg h, if_neg (fun q => h ⟨q.1, by have := q.2; omega⟩)]
def st_civil (c w : Int32) : Int32 := if (0 ≤ c.toInt ∧ c.toInt ≤ 900000000) ∧ 0 ≤ w.toInt ∧ w.toInt ≤ 1 then 0 else 5
def a_civil (T : List (Int × Int)) (c w : Int32) : Int32 := if w = 0 then Int32.ofInt (civ T c.toInt) else Int32.ofInt (c.toInt - bg T (civ T c.toInt))
theorem RLp.sf {R : Gs} {n k : Nat} {v : Int32} (h : RLp R n) (hk : k ≠ 5) : RLp (sfi R k v) n := by
  refine ⟨?_, h.2.1, h.2.2⟩
  simp only [q_fi_sfi]; rw [if_neg (fun e => hk e.symm)]; exact h.1
theorem Tok.cg {n : Nat} {f g f' g' : Nat → Int32} (h : Tok n f g) (e : ∀ i, i < n → f' i = f i ∧ g' i = g i) : Tok n f' g' := by
  refine ⟨h.1, fun i hi => by rw [(e i hi).2]; exact h.2.1 i hi, fun i j hi hj q => h.2.2 i j hi hj ?_⟩
  rw [(e i hi).1, (e j hj).1] at q; exact q
theorem r_civil {m : Nat} {ρ : Hs} {R : Gs} {nL : Nat} (hL : RLp R nL) (c w : Int32) : QI m ρ R (st_civil c w) (a_civil (tru R nL) c w) R (fX12_civil_0 (eR m ρ R) m c w) := by
  unfold fX12_civil_0
  simp only [RP_1, RP_0, RisC, r_refuse, r_isCount, r_isI, Option.bind_some, b2i_0, Int64.reduceToInt]
  rcases Decidable.em (¬ (0 ≤ c.toInt ∧ c.toInt ≤ 900000000)) with hc1 | hc1
  · rw [if_pos hc1]; exact QI.no (by decide) (by unfold st_civil; (repeat' split) <;> (first | rfl | omega)) (fr1 R)
  rw [if_neg hc1]
  rcases Decidable.em (¬ (0 ≤ w.toInt ∧ w.toInt ≤ 1)) with hc2 | hc2
  · rw [if_pos hc2]; exact QI.no (by decide) (by unfold st_civil; (repeat' split) <;> (first | rfl | omega)) (fr1 R)
  rw [if_neg hc2]
  have hst : st_civil c w = 0 := (by unfold st_civil; (repeat' split) <;> (first | rfl | omega))
  obtain ⟨R1, t1, t2, t3, t4⟩ := r_takeTrue (m := m) (ρ := ρ) ((hL.sf (k := 1) (v := 0) (by decide)).sf (k := 0) (v := 0) (by decide)).1 hL.2.1
  have hT : Tok nL (ai R1 9) (ai R1 10) := hL.2.2.cg t4
  have hl : lst nL (ai R1 9) (ai R1 10) = tru R nL := lst_congr t4
  obtain ⟨R2, f1, f2, f3, f4⟩ := r_findCivil (m := m) (ρ := ρ) (c := c.toInt64) t3 hT (by rw [up64]; omega) (by rw [up64]; omega)
  rw [hl, up64] at f3 f4
  have hF : Fr SC0 R R2 := (fr1 R).trans ((t2.mono (by decide)).trans (f2.mono (by decide)))
  have h0 : fi R2 0 = 0 := by rw [f2.i 0 (by decide), t2.i 0 (by decide)]; rfl
  have h6 : H6 R → H6 R2 := fun _ => ⟨nL, Nat.le_trans hL.2.1 (by decide), (f2.i 6 (by decide)).trans t3⟩
  simp only [t1, f1, Option.bind_some, RisC, RG_0, RP_0, RG_1, RP_1, RN_2, Rld_2, Rst_2, RN_3, Rld_3, Rst_3, RN_4, Rld_4, Rst_4, RG_5, RP_5, RG_6, RP_6, RN_7, Rld_7, Rst_7, RN_8, Rld_8, Rst_8, RN_9, Rld_9, Rst_9, RN_10, Rld_10, Rst_10, RG_11, RP_11, RG_12, RP_12, RN_13, Rld_13, Rst_13, RN_14, Rld_14, Rst_14, RN_15, Rld_15, Rst_15, RN_16, Rld_16, Rst_16, RG_17, RP_17, RG_18, RP_18, RG_19, RP_19, RG_20, RP_20, RG_21, RP_21, RG_22, RP_22, RG_23, RP_23, RG_24, RP_24, RG_25, RP_25, RG_26, RP_26, RG_27, RP_27, RG_28, RP_28, RG_29, RP_29, RG_30, RP_30, RG_31, RP_31, RG_32, RP_32, RN_33, Rld_33, Rst_33, RN_34, Rld_34, Rst_34, RN_35, Rld_35, Rst_35, RN_36, Rld_36, Rst_36, RN_37, Rld_37, Rst_37, RN_38, Rld_38, Rst_38, RN_39, Rld_39, Rst_39, RN_40, Rld_40, Rst_40, RN_41, Rld_41, Rst_41, RN_42, Rld_42, Rst_42, RN_43, Rld_43, Rst_43, RN_44, Rld_44, Rst_44, RN_45, Rld_45, Rst_45, RG_46, RP_46, RG_47, RP_47, RG_48, RP_48, RG_49, RP_49, RN_50, Rld_50, Rst_50, RN_51, Rld_51, Rst_51, RN_52, Rld_52, Rst_52, RN_53, Rld_53, Rst_53, RN_54, Rld_54, Rst_54, RN_55, Rld_55, Rst_55, RG_56, RP_56, RG_57, RP_57, RN_58, Rld_58, Rst_58, RN_59, Rld_59, Rst_59, RN_60, Rld_60, Rst_60, RG_61, RP_61, RG_62, RP_62, RG_63, RP_63, RG_64, RP_64, RG_65, RP_65, RG_66, RP_66, RG_67, RP_67, RG_68, RP_68, RG_69, RP_69, RG_70, RP_70, RG_71, RP_71, RN_72, Rld_72, Rst_72, RN_73, Rld_73, Rst_73, RN_74, Rld_74, Rst_74, RN_75, Rld_75, Rst_75, RN_76, Rld_76, Rst_76, RN_77, Rld_77, Rst_77, RN_78, Rld_78, Rst_78, RN_79, Rld_79, Rst_79, RN_80, Rld_80, Rst_80, RN_81, Rld_81, Rst_81, RN_82, Rld_82, Rst_82, RN_83, Rld_83, Rst_83, RN_84, Rld_84, Rst_84, RN_85, Rld_85, Rst_85, RN_86, Rld_86, Rst_86, RG_87, RP_87, RG_88, RP_88, RG_89, RP_89, RG_90, RP_90, RG_91, RP_91, RG_92, RP_92, RG_93, RP_93, RN_94, Rld_94, Rst_94, RN_95, Rld_95, Rst_95, RG_96, RP_96, RN_97, Rld_97, Rst_97, RN_98, Rld_98, Rst_98, RN_99, Rld_99, Rst_99, RN_100, Rld_100, Rst_100, RG_101, RP_101, RN_102, Rld_102, Rst_102, RN_103, Rld_103, Rst_103, RN_104, Rld_104, Rst_104, RG_105, RP_105]
  by_cases hw : w = 0
  · rw [if_pos hw]; exact QI.ok hst (by unfold a_civil; rw [if_pos hw, ofI f3]) h0 hF h6
  · rw [if_neg hw]; exact QI.ok hst (by unfold a_civil; rw [if_neg hw, ofI f4]) h0 hF h6
def st_count (T : List (Int × Int)) (d s : Int32) : Int32 := if ¬ ((0 ≤ d.toInt ∧ d.toInt ≤ 9999) ∧ 0 ≤ s.toInt ∧ s.toInt ≤ 86400) then 5 else if 900000000 < bg T d.toInt + s.toInt then 5 else if s.toInt < 86400 + kd T d.toInt then 0 else 9
theorem r_count {m : Nat} {ρ : Hs} {R : Gs} {nL : Nat} (hL : RLp R nL) (d s : Int32) : QI m ρ R (st_count (tru R nL) d s) (Int32.ofInt (bg (tru R nL) d.toInt + s.toInt)) R (fX12_count_0 (eR m ρ R) m d s) := by
  unfold fX12_count_0
  simp only [RP_1, RP_0, RisC, r_refuse, r_isDay, r_isI, Option.bind_some, b2i_0, Int64.reduceToInt]
  rcases Decidable.em (¬ (0 ≤ d.toInt ∧ d.toInt ≤ 9999)) with hc1 | hc1
  · rw [if_pos hc1]; exact QI.no (by decide) (by unfold st_count; (repeat' split) <;> (first | rfl | omega)) (fr1 R)
  rw [if_neg hc1]
  rcases Decidable.em (¬ (0 ≤ s.toInt ∧ s.toInt ≤ 86400)) with hc2 | hc2
  · rw [if_pos hc2]; exact QI.no (by decide) (by unfold st_count; (repeat' split) <;> (first | rfl | omega)) (fr1 R)
  rw [if_neg hc2]
  obtain ⟨R1, t1, t2, t3, t4⟩ := r_takeTrue (m := m) (ρ := ρ) ((hL.sf (k := 1) (v := 0) (by decide)).sf (k := 0) (v := 0) (by decide)).1 hL.2.1
  have hl : lst nL (ai R1 9) (ai R1 10) = tru R nL := lst_congr t4
  obtain ⟨r, b1, b2⟩ := r_beginOf (m := m) (ρ := ρ) (R := R1) (d := d) t3 (by have := hL.2.1; omega)
  rw [hl] at b2
  have hF : Fr SC0 R R1 := (fr1 R).trans (t2.mono (by decide))
  have h0 : fi R1 0 = 0 := by rw [t2.i 0 (by decide)]; rfl
  have h6 : H6 R → H6 R1 := fun _ => ⟨nL, Nat.le_trans hL.2.1 (by decide), t3⟩
  have e5 : fi R1 5 = Int32.ofNat nL := by rw [t2.i 5 (by decide)]; exact hL.1
  have e7 : ai R1 7 = ai R 7 := t2.ai 7 (by decide)
  have e8 : ai R1 8 = ai R 8 := t2.ai 8 (by decide)
  obtain ⟨k, k1, k2⟩ := r_trueKind (m := m) (ρ := ρ) (R := R1) (d := d) e5 hL.2.1 (by rw [e7]; exact hL.2.2.2.2)
  rw [e7, e8] at k2
  have hkb := kd_1 hL.2.2 d.toInt
  have hbb := bs_1 hL.2.2 d.toInt
  have es : (r + s.toInt64).toInt = bg (tru R nL) d.toInt + s.toInt := by
    rw [add64, up64, b2]; rw [up64, b2]; unfold tru bg; omega
  have el : (86400 + k).toInt = 86400 + kd (tru R nL) d.toInt := by
    rw [add32, k2]; rfl
    rw [k2]; show _ ≤ 86400 + _ ∧ 86400 + _ < _; omega
  simp only [t1, b1, k1, Option.bind_some, le64, le32, es, el, Int64.reduceToInt, r_refuse, RisC]
  rcases Decidable.em (¬ (bg (tru R nL) d.toInt + s.toInt ≤ 900000000)) with hc3 | hc3
  · rw [if_neg hc3]; exact QI.no (by decide) (by unfold st_count; (repeat' split) <;> (first | rfl | omega)) hF h6
  replace hc3 := Decidable.not_not.mp hc3
  rw [if_pos hc3]
  rcases Decidable.em (86400 + kd (tru R nL) d.toInt ≤ s.toInt) with hc4 | hc4
  · rw [if_pos hc4]; exact QI.no (by decide) (by unfold st_count; (repeat' split) <;> (first | rfl | omega)) hF h6
  rw [if_neg hc4]
  refine QI.ok (by unfold st_count; (repeat' split) <;> (first | rfl | omega)) (ofI ?_) h0 hF h6
  rw [dn32, es]; rw [es]; unfold tru bg at *; omega
def st_clock (n : Nat) (w : Int32) : Int32 := if ¬ (0 ≤ w.toInt ∧ w.toInt ≤ 3) then 5 else if n = 12 then 7 else 0
def u_clock (R : Gs) (n : Nat) (w : Int32) : Gs := sfi (sai R 13 (up (ai R 13) n w)) 11 (Int32.ofNat (n + 1))
theorem eqn {a b : Nat} (ha : a < 2147483648) (hb : b < 2147483648) : (Int32.ofNat a = Int32.ofNat b) = (a = b) := by
  apply propext; rw [eq32, n32 ha, n32 hb]; omega
theorem l12 : (12 : Int32) = Int32.ofNat 12 := rfl
theorem l60 : (60 : Int32) = Int32.ofNat 60 := rfl
theorem l8 : (8 : Int32) = Int32.ofNat 8 := rfl
theorem r_clock {m : Nat} {ρ : Hs} {R : Gs} {n : Nat} (hn : fi R 11 = Int32.ofNat n) (h12 : n ≤ 12) (w : Int32) : QI m ρ R (st_clock n w) (Int32.ofNat n) (u_clock R n w) (fX12_clock_0 (eR m ρ R) m w) := by
  unfold fX12_clock_0
  simp only [RP_1, RP_0, RG_11, q_fi_sfi, q_fl_sfi, q_fr_sfi, q_ai_sfi, q_al_sfi, q_ar_sfi, q_ln_sfi, q_fi_sfl, q_fl_sfl, q_fr_sfl, q_ai_sfl, q_al_sfl, q_ar_sfl, q_ln_sfl, q_fi_sfr, q_fl_sfr, q_fr_sfr, q_ai_sfr, q_al_sfr, q_ar_sfr, q_ln_sfr, q_fi_sai, q_fl_sai, q_fr_sai, q_ai_sai, q_al_sai, q_ar_sai, q_ln_sai, q_fi_sal, q_fl_sal, q_fr_sal, q_ai_sal, q_al_sal, q_ar_sal, q_ln_sal, q_fi_sar, q_fl_sar, q_fr_sar, q_ai_sar, q_al_sar, q_ar_sar, q_ln_sar, reduceIte, Nat.reduceEqDiff, hn, RisC, r_refuse, r_isI, Option.bind_some, b2i_0, Int64.reduceToInt, l12, eqn (show n < 2147483648 by omega) (show 12 < 2147483648 by omega)]
  rcases Decidable.em (¬ (0 ≤ w.toInt ∧ w.toInt ≤ 3)) with hc1 | hc1
  · rw [if_pos hc1]; exact QI.no (by decide) (by unfold st_clock; (repeat' split) <;> (first | rfl | omega)) (fr1 R)
  rw [if_neg hc1]
  rcases Decidable.em (n = 12) with hc2 | hc2
  · rw [if_pos hc2]; exact QI.no (by decide) (by unfold st_clock; (repeat' split) <;> (first | rfl | omega)) (fr1 R)
  rw [if_neg hc2]
  simp only [RisC, RG_0, RP_0, RG_1, RP_1, RN_2, Rld_2, Rst_2, RN_3, Rld_3, Rst_3, RN_4, Rld_4, Rst_4, RG_5, RP_5, RG_6, RP_6, RN_7, Rld_7, Rst_7, RN_8, Rld_8, Rst_8, RN_9, Rld_9, Rst_9, RN_10, Rld_10, Rst_10, RG_11, RP_11, RG_12, RP_12, RN_13, Rld_13, Rst_13, RN_14, Rld_14, Rst_14, RN_15, Rld_15, Rst_15, RN_16, Rld_16, Rst_16, RG_17, RP_17, RG_18, RP_18, RG_19, RP_19, RG_20, RP_20, RG_21, RP_21, RG_22, RP_22, RG_23, RP_23, RG_24, RP_24, RG_25, RP_25, RG_26, RP_26, RG_27, RP_27, RG_28, RP_28, RG_29, RP_29, RG_30, RP_30, RG_31, RP_31, RG_32, RP_32, RN_33, Rld_33, Rst_33, RN_34, Rld_34, Rst_34, RN_35, Rld_35, Rst_35, RN_36, Rld_36, Rst_36, RN_37, Rld_37, Rst_37, RN_38, Rld_38, Rst_38, RN_39, Rld_39, Rst_39, RN_40, Rld_40, Rst_40, RN_41, Rld_41, Rst_41, RN_42, Rld_42, Rst_42, RN_43, Rld_43, Rst_43, RN_44, Rld_44, Rst_44, RN_45, Rld_45, Rst_45, RG_46, RP_46, RG_47, RP_47, RG_48, RP_48, RG_49, RP_49, RN_50, Rld_50, Rst_50, RN_51, Rld_51, Rst_51, RN_52, Rld_52, Rst_52, RN_53, Rld_53, Rst_53, RN_54, Rld_54, Rst_54, RN_55, Rld_55, Rst_55, RG_56, RP_56, RG_57, RP_57, RN_58, Rld_58, Rst_58, RN_59, Rld_59, Rst_59, RN_60, Rld_60, Rst_60, RG_61, RP_61, RG_62, RP_62, RG_63, RP_63, RG_64, RP_64, RG_65, RP_65, RG_66, RP_66, RG_67, RP_67, RG_68, RP_68, RG_69, RP_69, RG_70, RP_70, RG_71, RP_71, RN_72, Rld_72, Rst_72, RN_73, Rld_73, Rst_73, RN_74, Rld_74, Rst_74, RN_75, Rld_75, Rst_75, RN_76, Rld_76, Rst_76, RN_77, Rld_77, Rst_77, RN_78, Rld_78, Rst_78, RN_79, Rld_79, Rst_79, RN_80, Rld_80, Rst_80, RN_81, Rld_81, Rst_81, RN_82, Rld_82, Rst_82, RN_83, Rld_83, Rst_83, RN_84, Rld_84, Rst_84, RN_85, Rld_85, Rst_85, RN_86, Rld_86, Rst_86, RG_87, RP_87, RG_88, RP_88, RG_89, RP_89, RG_90, RP_90, RG_91, RP_91, RG_92, RP_92, RG_93, RP_93, RN_94, Rld_94, Rst_94, RN_95, Rld_95, Rst_95, RG_96, RP_96, RN_97, Rld_97, Rst_97, RN_98, Rld_98, Rst_98, RN_99, Rld_99, Rst_99, RN_100, Rld_100, Rst_100, RG_101, RP_101, RN_102, Rld_102, Rst_102, RN_103, Rld_103, Rst_103, RN_104, Rld_104, Rst_104, RG_105, RP_105, q_fi_sfi, q_fl_sfi, q_fr_sfi, q_ai_sfi, q_al_sfi, q_ar_sfi, q_ln_sfi, q_fi_sfl, q_fl_sfl, q_fr_sfl, q_ai_sfl, q_al_sfl, q_ar_sfl, q_ln_sfl, q_fi_sfr, q_fl_sfr, q_fr_sfr, q_ai_sfr, q_al_sfr, q_ar_sfr, q_ln_sfr, q_fi_sai, q_fl_sai, q_fr_sai, q_ai_sai, q_al_sai, q_ar_sai, q_ln_sai, q_fi_sal, q_fl_sal, q_fr_sal, q_ai_sal, q_al_sal, q_ar_sal, q_ln_sal, q_fi_sar, q_fl_sar, q_fr_sar, q_ai_sar, q_al_sar, q_ar_sar, q_ln_sar, reduceIte, Nat.reduceEqDiff, hn, Option.bind_some, ix_n (show n < 2147483648 by omega), decide_eq_true (show n < 12 by omega), if_true, c32 (show n < 2147483648 by omega), suc32]
  refine QI.ok (by unfold st_clock; (repeat' split) <;> (first | rfl | omega)) ?_ rfl ?_
  · rw [ofNat_m1 (by omega)]; rfl
  · exact frc_fi (frc_ai (fr1 R) _ _) _ _
def st_step (nC nS : Nat) (c x : Int32) : Int32 := if ¬ (0 ≤ c.toInt ∧ c.toInt < nC) then 2 else if ¬ (0 ≤ x.toInt ∧ x.toInt ≤ 900000000) then 5 else if nS = 60 then 7 else 0
def u_step (R : Gs) (n : Nat) (c x : Int32) : Gs := sfi (sai (sai R 14 (up (ai R 14) n c)) 15 (up (ai R 15) n x)) 12 (Int32.ofNat (n + 1))
theorem r_step {m : Nat} {ρ : Hs} {R : Gs} {nC nS : Nat} (hn : fi R 11 = Int32.ofNat nC) (h12 : nC ≤ 12) (hS : fi R 12 = Int32.ofNat nS) (h60 : nS ≤ 60) (c x : Int32) : QB m ρ R (st_step nC nS c x) (u_step R nS c x) (fX12_step_0 (eR m ρ R) m c x) := by
  have hn' : fi (sfi (sfi R 1 0) 0 0) 11 = Int32.ofNat nC := hn
  unfold fX12_step_0
  simp only [RP_1, RP_0, RG_12, q_fi_sfi, q_fl_sfi, q_fr_sfi, q_ai_sfi, q_al_sfi, q_ar_sfi, q_ln_sfi, q_fi_sfl, q_fl_sfl, q_fr_sfl, q_ai_sfl, q_al_sfl, q_ar_sfl, q_ln_sfl, q_fi_sfr, q_fl_sfr, q_fr_sfr, q_ai_sfr, q_al_sfr, q_ar_sfr, q_ln_sfr, q_fi_sai, q_fl_sai, q_fr_sai, q_ai_sai, q_al_sai, q_ar_sai, q_ln_sai, q_fi_sal, q_fl_sal, q_fr_sal, q_ai_sal, q_al_sal, q_ar_sal, q_ln_sal, q_fi_sar, q_fl_sar, q_fr_sar, q_ai_sar, q_al_sar, q_ar_sar, q_ln_sar, reduceIte, Nat.reduceEqDiff, hS, RisC, r_no, r_isClock hn' h12, r_isCount, Option.bind_some, b2i_0, bb_0, l60, eqn (show nS < 2147483648 by omega) (show 60 < 2147483648 by omega)]
  rcases Decidable.em (¬ (0 ≤ c.toInt ∧ c.toInt < nC)) with hc1 | hc1
  · rw [if_pos hc1]; exact QB.no (by decide) (by unfold st_step; (repeat' split) <;> (first | rfl | omega)) (fr1 R)
  rw [if_neg hc1]
  rcases Decidable.em (¬ (0 ≤ x.toInt ∧ x.toInt ≤ 900000000)) with hc2 | hc2
  · rw [if_pos hc2]; exact QB.no (by decide) (by unfold st_step; (repeat' split) <;> (first | rfl | omega)) (fr1 R)
  rw [if_neg hc2]
  rcases Decidable.em (nS = 60) with hc3 | hc3
  · rw [if_pos hc3]; exact QB.no (by decide) (by unfold st_step; (repeat' split) <;> (first | rfl | omega)) (fr1 R)
  rw [if_neg hc3]
  simp only [RisC, RG_0, RP_0, RG_1, RP_1, RN_2, Rld_2, Rst_2, RN_3, Rld_3, Rst_3, RN_4, Rld_4, Rst_4, RG_5, RP_5, RG_6, RP_6, RN_7, Rld_7, Rst_7, RN_8, Rld_8, Rst_8, RN_9, Rld_9, Rst_9, RN_10, Rld_10, Rst_10, RG_11, RP_11, RG_12, RP_12, RN_13, Rld_13, Rst_13, RN_14, Rld_14, Rst_14, RN_15, Rld_15, Rst_15, RN_16, Rld_16, Rst_16, RG_17, RP_17, RG_18, RP_18, RG_19, RP_19, RG_20, RP_20, RG_21, RP_21, RG_22, RP_22, RG_23, RP_23, RG_24, RP_24, RG_25, RP_25, RG_26, RP_26, RG_27, RP_27, RG_28, RP_28, RG_29, RP_29, RG_30, RP_30, RG_31, RP_31, RG_32, RP_32, RN_33, Rld_33, Rst_33, RN_34, Rld_34, Rst_34, RN_35, Rld_35, Rst_35, RN_36, Rld_36, Rst_36, RN_37, Rld_37, Rst_37, RN_38, Rld_38, Rst_38, RN_39, Rld_39, Rst_39, RN_40, Rld_40, Rst_40, RN_41, Rld_41, Rst_41, RN_42, Rld_42, Rst_42, RN_43, Rld_43, Rst_43, RN_44, Rld_44, Rst_44, RN_45, Rld_45, Rst_45, RG_46, RP_46, RG_47, RP_47, RG_48, RP_48, RG_49, RP_49, RN_50, Rld_50, Rst_50, RN_51, Rld_51, Rst_51, RN_52, Rld_52, Rst_52, RN_53, Rld_53, Rst_53, RN_54, Rld_54, Rst_54, RN_55, Rld_55, Rst_55, RG_56, RP_56, RG_57, RP_57, RN_58, Rld_58, Rst_58, RN_59, Rld_59, Rst_59, RN_60, Rld_60, Rst_60, RG_61, RP_61, RG_62, RP_62, RG_63, RP_63, RG_64, RP_64, RG_65, RP_65, RG_66, RP_66, RG_67, RP_67, RG_68, RP_68, RG_69, RP_69, RG_70, RP_70, RG_71, RP_71, RN_72, Rld_72, Rst_72, RN_73, Rld_73, Rst_73, RN_74, Rld_74, Rst_74, RN_75, Rld_75, Rst_75, RN_76, Rld_76, Rst_76, RN_77, Rld_77, Rst_77, RN_78, Rld_78, Rst_78, RN_79, Rld_79, Rst_79, RN_80, Rld_80, Rst_80, RN_81, Rld_81, Rst_81, RN_82, Rld_82, Rst_82, RN_83, Rld_83, Rst_83, RN_84, Rld_84, Rst_84, RN_85, Rld_85, Rst_85, RN_86, Rld_86, Rst_86, RG_87, RP_87, RG_88, RP_88, RG_89, RP_89, RG_90, RP_90, RG_91, RP_91, RG_92, RP_92, RG_93, RP_93, RN_94, Rld_94, Rst_94, RN_95, Rld_95, Rst_95, RG_96, RP_96, RN_97, Rld_97, Rst_97, RN_98, Rld_98, Rst_98, RN_99, Rld_99, Rst_99, RN_100, Rld_100, Rst_100, RG_101, RP_101, RN_102, Rld_102, Rst_102, RN_103, Rld_103, Rst_103, RN_104, Rld_104, Rst_104, RG_105, RP_105, q_fi_sfi, q_fl_sfi, q_fr_sfi, q_ai_sfi, q_al_sfi, q_ar_sfi, q_ln_sfi, q_fi_sfl, q_fl_sfl, q_fr_sfl, q_ai_sfl, q_al_sfl, q_ar_sfl, q_ln_sfl, q_fi_sfr, q_fl_sfr, q_fr_sfr, q_ai_sfr, q_al_sfr, q_ar_sfr, q_ln_sfr, q_fi_sai, q_fl_sai, q_fr_sai, q_ai_sai, q_al_sai, q_ar_sai, q_ln_sai, q_fi_sal, q_fl_sal, q_fr_sal, q_ai_sal, q_al_sal, q_ar_sal, q_ln_sal, q_fi_sar, q_fl_sar, q_fr_sar, q_ai_sar, q_al_sar, q_ar_sar, q_ln_sar, reduceIte, Nat.reduceEqDiff, hS, Option.bind_some, ix_n (show nS < 2147483648 by omega), decide_eq_true (show nS < 60 by omega), if_true, c32 (show nS < 2147483648 by omega), suc32, bb_1]
  exact QB.ok (by unfold st_step; (repeat' split) <;> (first | rfl | omega)) rfl (frc_fi (frc_ai (frc_ai (fr1 R) _ _) _ _) _ _)
def st_server (n : Nat) (s : Int32) : Int32 := if ¬ (0 ≤ s.toInt ∧ s.toInt ≤ 15) then 5 else if n = 8 then 7 else 0
def u_server (R : Gs) (n : Nat) (s : Int32) : Gs := sfi (sai R 50 (up (ai R 50) n s)) 47 (Int32.ofNat (n + 1))
theorem r_server {m : Nat} {ρ : Hs} {R : Gs} {n : Nat} (hn : fi R 47 = Int32.ofNat n) (h8 : n ≤ 8) (s : Int32) : QI m ρ R (st_server n s) (Int32.ofNat n) (u_server R n s) (fX12_server_0 (eR m ρ R) m s) := by
  unfold fX12_server_0
  simp only [RP_1, RP_0, RG_47, q_fi_sfi, q_fl_sfi, q_fr_sfi, q_ai_sfi, q_al_sfi, q_ar_sfi, q_ln_sfi, q_fi_sfl, q_fl_sfl, q_fr_sfl, q_ai_sfl, q_al_sfl, q_ar_sfl, q_ln_sfl, q_fi_sfr, q_fl_sfr, q_fr_sfr, q_ai_sfr, q_al_sfr, q_ar_sfr, q_ln_sfr, q_fi_sai, q_fl_sai, q_fr_sai, q_ai_sai, q_al_sai, q_ar_sai, q_ln_sai, q_fi_sal, q_fl_sal, q_fr_sal, q_ai_sal, q_al_sal, q_ar_sal, q_ln_sal, q_fi_sar, q_fl_sar, q_fr_sar, q_ai_sar, q_al_sar, q_ar_sar, q_ln_sar, reduceIte, Nat.reduceEqDiff, hn, RisC, r_refuse, r_isI, Option.bind_some, b2i_0, Int64.reduceToInt, l8, eqn (show n < 2147483648 by omega) (show 8 < 2147483648 by omega)]
  rcases Decidable.em (¬ (0 ≤ s.toInt ∧ s.toInt ≤ 15)) with hc1 | hc1
  · rw [if_pos hc1]; exact QI.no (by decide) (by unfold st_server; (repeat' split) <;> (first | rfl | omega)) (fr1 R)
  rw [if_neg hc1]
  rcases Decidable.em (n = 8) with hc2 | hc2
  · rw [if_pos hc2]; exact QI.no (by decide) (by unfold st_server; (repeat' split) <;> (first | rfl | omega)) (fr1 R)
  rw [if_neg hc2]
  simp only [RisC, RG_0, RP_0, RG_1, RP_1, RN_2, Rld_2, Rst_2, RN_3, Rld_3, Rst_3, RN_4, Rld_4, Rst_4, RG_5, RP_5, RG_6, RP_6, RN_7, Rld_7, Rst_7, RN_8, Rld_8, Rst_8, RN_9, Rld_9, Rst_9, RN_10, Rld_10, Rst_10, RG_11, RP_11, RG_12, RP_12, RN_13, Rld_13, Rst_13, RN_14, Rld_14, Rst_14, RN_15, Rld_15, Rst_15, RN_16, Rld_16, Rst_16, RG_17, RP_17, RG_18, RP_18, RG_19, RP_19, RG_20, RP_20, RG_21, RP_21, RG_22, RP_22, RG_23, RP_23, RG_24, RP_24, RG_25, RP_25, RG_26, RP_26, RG_27, RP_27, RG_28, RP_28, RG_29, RP_29, RG_30, RP_30, RG_31, RP_31, RG_32, RP_32, RN_33, Rld_33, Rst_33, RN_34, Rld_34, Rst_34, RN_35, Rld_35, Rst_35, RN_36, Rld_36, Rst_36, RN_37, Rld_37, Rst_37, RN_38, Rld_38, Rst_38, RN_39, Rld_39, Rst_39, RN_40, Rld_40, Rst_40, RN_41, Rld_41, Rst_41, RN_42, Rld_42, Rst_42, RN_43, Rld_43, Rst_43, RN_44, Rld_44, Rst_44, RN_45, Rld_45, Rst_45, RG_46, RP_46, RG_47, RP_47, RG_48, RP_48, RG_49, RP_49, RN_50, Rld_50, Rst_50, RN_51, Rld_51, Rst_51, RN_52, Rld_52, Rst_52, RN_53, Rld_53, Rst_53, RN_54, Rld_54, Rst_54, RN_55, Rld_55, Rst_55, RG_56, RP_56, RG_57, RP_57, RN_58, Rld_58, Rst_58, RN_59, Rld_59, Rst_59, RN_60, Rld_60, Rst_60, RG_61, RP_61, RG_62, RP_62, RG_63, RP_63, RG_64, RP_64, RG_65, RP_65, RG_66, RP_66, RG_67, RP_67, RG_68, RP_68, RG_69, RP_69, RG_70, RP_70, RG_71, RP_71, RN_72, Rld_72, Rst_72, RN_73, Rld_73, Rst_73, RN_74, Rld_74, Rst_74, RN_75, Rld_75, Rst_75, RN_76, Rld_76, Rst_76, RN_77, Rld_77, Rst_77, RN_78, Rld_78, Rst_78, RN_79, Rld_79, Rst_79, RN_80, Rld_80, Rst_80, RN_81, Rld_81, Rst_81, RN_82, Rld_82, Rst_82, RN_83, Rld_83, Rst_83, RN_84, Rld_84, Rst_84, RN_85, Rld_85, Rst_85, RN_86, Rld_86, Rst_86, RG_87, RP_87, RG_88, RP_88, RG_89, RP_89, RG_90, RP_90, RG_91, RP_91, RG_92, RP_92, RG_93, RP_93, RN_94, Rld_94, Rst_94, RN_95, Rld_95, Rst_95, RG_96, RP_96, RN_97, Rld_97, Rst_97, RN_98, Rld_98, Rst_98, RN_99, Rld_99, Rst_99, RN_100, Rld_100, Rst_100, RG_101, RP_101, RN_102, Rld_102, Rst_102, RN_103, Rld_103, Rst_103, RN_104, Rld_104, Rst_104, RG_105, RP_105, q_fi_sfi, q_fl_sfi, q_fr_sfi, q_ai_sfi, q_al_sfi, q_ar_sfi, q_ln_sfi, q_fi_sfl, q_fl_sfl, q_fr_sfl, q_ai_sfl, q_al_sfl, q_ar_sfl, q_ln_sfl, q_fi_sfr, q_fl_sfr, q_fr_sfr, q_ai_sfr, q_al_sfr, q_ar_sfr, q_ln_sfr, q_fi_sai, q_fl_sai, q_fr_sai, q_ai_sai, q_al_sai, q_ar_sai, q_ln_sai, q_fi_sal, q_fl_sal, q_fr_sal, q_ai_sal, q_al_sal, q_ar_sal, q_ln_sal, q_fi_sar, q_fl_sar, q_fr_sar, q_ai_sar, q_al_sar, q_ar_sar, q_ln_sar, reduceIte, Nat.reduceEqDiff, hn, Option.bind_some, ix_n (show n < 2147483648 by omega), decide_eq_true (show n < 8 by omega), if_true, c32 (show n < 2147483648 by omega), suc32]
  refine QI.ok (by unfold st_server; (repeat' split) <;> (first | rfl | omega)) ?_ rfl ?_
  · rw [ofNat_m1 (by omega)]; rfl
  · exact frc_fi (frc_ai (fr1 R) _ _) _ _
def st_stamp (R : Gs) (nC nX : Nat) (c x : Int32) : Int32 := if ¬ (0 ≤ c.toInt ∧ c.toInt < nC) then 2 else if ¬ (0 ≤ x.toInt ∧ x.toInt ≤ 900000000) then 5 else if nX = 60 then 7 else if x.toInt < (fi R 57).toInt then 12 else 0
def u_stamp (R : Gs) (n : Nat) (c x : Int32) : Gs := sfi (sfi (sai (sai R 58 (up (ai R 58) n c)) 59 (up (ai R 59) n x)) 56 (Int32.ofNat (n + 1))) 57 x
theorem r_stamp {m : Nat} {ρ : Hs} {R : Gs} {nC nX : Nat} (hn : fi R 11 = Int32.ofNat nC) (h12 : nC ≤ 12) (hX : fi R 56 = Int32.ofNat nX) (h60 : nX ≤ 60) (c x : Int32) : QI m ρ R (st_stamp R nC nX c x) (Int32.ofNat nX) (u_stamp R nX c x) (fX12_stamp_0 (eR m ρ R) m c x) := by
  have hn' : fi (sfi (sfi R 1 0) 0 0) 11 = Int32.ofNat nC := hn
  unfold fX12_stamp_0
  simp only [RP_1, RP_0, RG_56, RG_57, q_fi_sfi, q_fl_sfi, q_fr_sfi, q_ai_sfi, q_al_sfi, q_ar_sfi, q_ln_sfi, q_fi_sfl, q_fl_sfl, q_fr_sfl, q_ai_sfl, q_al_sfl, q_ar_sfl, q_ln_sfl, q_fi_sfr, q_fl_sfr, q_fr_sfr, q_ai_sfr, q_al_sfr, q_ar_sfr, q_ln_sfr, q_fi_sai, q_fl_sai, q_fr_sai, q_ai_sai, q_al_sai, q_ar_sai, q_ln_sai, q_fi_sal, q_fl_sal, q_fr_sal, q_ai_sal, q_al_sal, q_ar_sal, q_ln_sal, q_fi_sar, q_fl_sar, q_fr_sar, q_ai_sar, q_al_sar, q_ar_sar, q_ln_sar, reduceIte, Nat.reduceEqDiff, hX, RisC, r_refuse, r_isClock hn' h12, r_isCount, Option.bind_some, b2i_0, le32, l60, eqn (show nX < 2147483648 by omega) (show 60 < 2147483648 by omega)]
  rcases Decidable.em (¬ (0 ≤ c.toInt ∧ c.toInt < nC)) with hc1 | hc1
  · rw [if_pos hc1]; exact QI.no (by decide) (by unfold st_stamp; (repeat' split) <;> (first | rfl | omega)) (fr1 R)
  rw [if_neg hc1]
  rcases Decidable.em (¬ (0 ≤ x.toInt ∧ x.toInt ≤ 900000000)) with hc2 | hc2
  · rw [if_pos hc2]; exact QI.no (by decide) (by unfold st_stamp; (repeat' split) <;> (first | rfl | omega)) (fr1 R)
  rw [if_neg hc2]
  rcases Decidable.em (nX = 60) with hc3 | hc3
  · rw [if_pos hc3]; exact QI.no (by decide) (by unfold st_stamp; (repeat' split) <;> (first | rfl | omega)) (fr1 R)
  rw [if_neg hc3]
  rcases Decidable.em (¬ ((fi R 57).toInt ≤ x.toInt)) with hc4 | hc4
  · rw [if_neg hc4]; exact QI.no (by decide) (by unfold st_stamp; (repeat' split) <;> (first | rfl | omega)) (fr1 R)
  replace hc4 := Decidable.not_not.mp hc4
  rw [if_pos hc4]
  simp only [RisC, RG_0, RP_0, RG_1, RP_1, RN_2, Rld_2, Rst_2, RN_3, Rld_3, Rst_3, RN_4, Rld_4, Rst_4, RG_5, RP_5, RG_6, RP_6, RN_7, Rld_7, Rst_7, RN_8, Rld_8, Rst_8, RN_9, Rld_9, Rst_9, RN_10, Rld_10, Rst_10, RG_11, RP_11, RG_12, RP_12, RN_13, Rld_13, Rst_13, RN_14, Rld_14, Rst_14, RN_15, Rld_15, Rst_15, RN_16, Rld_16, Rst_16, RG_17, RP_17, RG_18, RP_18, RG_19, RP_19, RG_20, RP_20, RG_21, RP_21, RG_22, RP_22, RG_23, RP_23, RG_24, RP_24, RG_25, RP_25, RG_26, RP_26, RG_27, RP_27, RG_28, RP_28, RG_29, RP_29, RG_30, RP_30, RG_31, RP_31, RG_32, RP_32, RN_33, Rld_33, Rst_33, RN_34, Rld_34, Rst_34, RN_35, Rld_35, Rst_35, RN_36, Rld_36, Rst_36, RN_37, Rld_37, Rst_37, RN_38, Rld_38, Rst_38, RN_39, Rld_39, Rst_39, RN_40, Rld_40, Rst_40, RN_41, Rld_41, Rst_41, RN_42, Rld_42, Rst_42, RN_43, Rld_43, Rst_43, RN_44, Rld_44, Rst_44, RN_45, Rld_45, Rst_45, RG_46, RP_46, RG_47, RP_47, RG_48, RP_48, RG_49, RP_49, RN_50, Rld_50, Rst_50, RN_51, Rld_51, Rst_51, RN_52, Rld_52, Rst_52, RN_53, Rld_53, Rst_53, RN_54, Rld_54, Rst_54, RN_55, Rld_55, Rst_55, RG_56, RP_56, RG_57, RP_57, RN_58, Rld_58, Rst_58, RN_59, Rld_59, Rst_59, RN_60, Rld_60, Rst_60, RG_61, RP_61, RG_62, RP_62, RG_63, RP_63, RG_64, RP_64, RG_65, RP_65, RG_66, RP_66, RG_67, RP_67, RG_68, RP_68, RG_69, RP_69, RG_70, RP_70, RG_71, RP_71, RN_72, Rld_72, Rst_72, RN_73, Rld_73, Rst_73, RN_74, Rld_74, Rst_74, RN_75, Rld_75, Rst_75, RN_76, Rld_76, Rst_76, RN_77, Rld_77, Rst_77, RN_78, Rld_78, Rst_78, RN_79, Rld_79, Rst_79, RN_80, Rld_80, Rst_80, RN_81, Rld_81, Rst_81, RN_82, Rld_82, Rst_82, RN_83, Rld_83, Rst_83, RN_84, Rld_84, Rst_84, RN_85, Rld_85, Rst_85, RN_86, Rld_86, Rst_86, RG_87, RP_87, RG_88, RP_88, RG_89, RP_89, RG_90, RP_90, RG_91, RP_91, RG_92, RP_92, RG_93, RP_93, RN_94, Rld_94, Rst_94, RN_95, Rld_95, Rst_95, RG_96, RP_96, RN_97, Rld_97, Rst_97, RN_98, Rld_98, Rst_98, RN_99, Rld_99, Rst_99, RN_100, Rld_100, Rst_100, RG_101, RP_101, RN_102, Rld_102, Rst_102, RN_103, Rld_103, Rst_103, RN_104, Rld_104, Rst_104, RG_105, RP_105, q_fi_sfi, q_fl_sfi, q_fr_sfi, q_ai_sfi, q_al_sfi, q_ar_sfi, q_ln_sfi, q_fi_sfl, q_fl_sfl, q_fr_sfl, q_ai_sfl, q_al_sfl, q_ar_sfl, q_ln_sfl, q_fi_sfr, q_fl_sfr, q_fr_sfr, q_ai_sfr, q_al_sfr, q_ar_sfr, q_ln_sfr, q_fi_sai, q_fl_sai, q_fr_sai, q_ai_sai, q_al_sai, q_ar_sai, q_ln_sai, q_fi_sal, q_fl_sal, q_fr_sal, q_ai_sal, q_al_sal, q_ar_sal, q_ln_sal, q_fi_sar, q_fl_sar, q_fr_sar, q_ai_sar, q_al_sar, q_ar_sar, q_ln_sar, reduceIte, Nat.reduceEqDiff, hX, Option.bind_some, ix_n (show nX < 2147483648 by omega), decide_eq_true (show nX < 60 by omega), if_true, c32 (show nX < 2147483648 by omega), suc32]
  refine QI.ok (by unfold st_stamp; (repeat' split) <;> (first | rfl | omega)) ?_ rfl ?_
  · rw [ofNat_m1 (by omega)]; rfl
  · exact frc_fi (frc_fi (frc_ai (frc_ai (fr1 R) _ _) _ _) _ _) _ _
def st_notice (R : Gs) (nV nC nN : Nat) (v c d k x : Int32) : Int32 := if ¬ (0 ≤ v.toInt ∧ v.toInt < nV) ∨ ¬ (0 ≤ c.toInt ∧ c.toInt < nC) then 2 else if ¬ (0 ≤ d.toInt ∧ d.toInt ≤ 9999) ∨ (k.toInt ≠ 1 ∧ k.toInt ≠ -1) ∨ ¬ (0 ≤ x.toInt ∧ x.toInt ≤ 900000000) then 5 else if nN = 60 then 7 else if x.toInt < (fi R 49).toInt then 12 else 0
def u_notice (R : Gs) (n : Nat) (v c d k x : Int32) : Gs := sfi (sfi (sai (sai (sai (sai (sai R 51 (up (ai R 51) n v)) 52 (up (ai R 52) n c)) 53 (up (ai R 53) n d)) 54 (up (ai R 54) n k)) 55 (up (ai R 55) n x)) 48 (Int32.ofNat (n + 1))) 49 x
theorem r_notice59 {m : Nat} {ρ : Hs} {R : Gs} {nV nC nN : Nat} (hN : fi R 48 = Int32.ofNat nN) (h60 : nN ≤ 60) (v c d k x : Int32) (h1 : 0 ≤ v.toInt ∧ v.toInt < nV) (h2 : 0 ≤ c.toInt ∧ c.toInt < nC) (h3 : 0 ≤ d.toInt ∧ d.toInt ≤ 9999) (hk : k.toInt = 1 ∨ k.toInt = -1) : QI m ρ R (st_notice R nV nC nN v c d k x) (Int32.ofNat nN) (u_notice R nN v c d k x) (fX12_notice_59 (eR m ρ (sfi (sfi R 1 0) 0 0)) m v c d k x) := by
  unfold fX12_notice_59
  simp only [RG_48, RG_49, q_fi_sfi, q_fl_sfi, q_fr_sfi, q_ai_sfi, q_al_sfi, q_ar_sfi, q_ln_sfi, q_fi_sfl, q_fl_sfl, q_fr_sfl, q_ai_sfl, q_al_sfl, q_ar_sfl, q_ln_sfl, q_fi_sfr, q_fl_sfr, q_fr_sfr, q_ai_sfr, q_al_sfr, q_ar_sfr, q_ln_sfr, q_fi_sai, q_fl_sai, q_fr_sai, q_ai_sai, q_al_sai, q_ar_sai, q_ln_sai, q_fi_sal, q_fl_sal, q_fr_sal, q_ai_sal, q_al_sal, q_ar_sal, q_ln_sal, q_fi_sar, q_fl_sar, q_fr_sar, q_ai_sar, q_al_sar, q_ar_sar, q_ln_sar, reduceIte, Nat.reduceEqDiff, hN, RisC, r_refuse, r_isCount, Option.bind_some, b2i_0, le32, l60, eqn (show nN < 2147483648 by omega) (show 60 < 2147483648 by omega)]
  rcases Decidable.em (¬ (0 ≤ x.toInt ∧ x.toInt ≤ 900000000)) with hc1 | hc1
  · rw [if_pos hc1]; exact QI.no (by decide) (by unfold st_notice; (repeat' split) <;> (first | rfl | omega)) (fr1 R)
  rw [if_neg hc1]
  rcases Decidable.em (nN = 60) with hc2 | hc2
  · rw [if_pos hc2]; exact QI.no (by decide) (by unfold st_notice; (repeat' split) <;> (first | rfl | omega)) (fr1 R)
  rw [if_neg hc2]
  rcases Decidable.em (¬ ((fi R 49).toInt ≤ x.toInt)) with hc3 | hc3
  · rw [if_neg hc3]; exact QI.no (by decide) (by unfold st_notice; (repeat' split) <;> (first | rfl | omega)) (fr1 R)
  replace hc3 := Decidable.not_not.mp hc3
  rw [if_pos hc3]
  simp only [RisC, RG_0, RP_0, RG_1, RP_1, RN_2, Rld_2, Rst_2, RN_3, Rld_3, Rst_3, RN_4, Rld_4, Rst_4, RG_5, RP_5, RG_6, RP_6, RN_7, Rld_7, Rst_7, RN_8, Rld_8, Rst_8, RN_9, Rld_9, Rst_9, RN_10, Rld_10, Rst_10, RG_11, RP_11, RG_12, RP_12, RN_13, Rld_13, Rst_13, RN_14, Rld_14, Rst_14, RN_15, Rld_15, Rst_15, RN_16, Rld_16, Rst_16, RG_17, RP_17, RG_18, RP_18, RG_19, RP_19, RG_20, RP_20, RG_21, RP_21, RG_22, RP_22, RG_23, RP_23, RG_24, RP_24, RG_25, RP_25, RG_26, RP_26, RG_27, RP_27, RG_28, RP_28, RG_29, RP_29, RG_30, RP_30, RG_31, RP_31, RG_32, RP_32, RN_33, Rld_33, Rst_33, RN_34, Rld_34, Rst_34, RN_35, Rld_35, Rst_35, RN_36, Rld_36, Rst_36, RN_37, Rld_37, Rst_37, RN_38, Rld_38, Rst_38, RN_39, Rld_39, Rst_39, RN_40, Rld_40, Rst_40, RN_41, Rld_41, Rst_41, RN_42, Rld_42, Rst_42, RN_43, Rld_43, Rst_43, RN_44, Rld_44, Rst_44, RN_45, Rld_45, Rst_45, RG_46, RP_46, RG_47, RP_47, RG_48, RP_48, RG_49, RP_49, RN_50, Rld_50, Rst_50, RN_51, Rld_51, Rst_51, RN_52, Rld_52, Rst_52, RN_53, Rld_53, Rst_53, RN_54, Rld_54, Rst_54, RN_55, Rld_55, Rst_55, RG_56, RP_56, RG_57, RP_57, RN_58, Rld_58, Rst_58, RN_59, Rld_59, Rst_59, RN_60, Rld_60, Rst_60, RG_61, RP_61, RG_62, RP_62, RG_63, RP_63, RG_64, RP_64, RG_65, RP_65, RG_66, RP_66, RG_67, RP_67, RG_68, RP_68, RG_69, RP_69, RG_70, RP_70, RG_71, RP_71, RN_72, Rld_72, Rst_72, RN_73, Rld_73, Rst_73, RN_74, Rld_74, Rst_74, RN_75, Rld_75, Rst_75, RN_76, Rld_76, Rst_76, RN_77, Rld_77, Rst_77, RN_78, Rld_78, Rst_78, RN_79, Rld_79, Rst_79, RN_80, Rld_80, Rst_80, RN_81, Rld_81, Rst_81, RN_82, Rld_82, Rst_82, RN_83, Rld_83, Rst_83, RN_84, Rld_84, Rst_84, RN_85, Rld_85, Rst_85, RN_86, Rld_86, Rst_86, RG_87, RP_87, RG_88, RP_88, RG_89, RP_89, RG_90, RP_90, RG_91, RP_91, RG_92, RP_92, RG_93, RP_93, RN_94, Rld_94, Rst_94, RN_95, Rld_95, Rst_95, RG_96, RP_96, RN_97, Rld_97, Rst_97, RN_98, Rld_98, Rst_98, RN_99, Rld_99, Rst_99, RN_100, Rld_100, Rst_100, RG_101, RP_101, RN_102, Rld_102, Rst_102, RN_103, Rld_103, Rst_103, RN_104, Rld_104, Rst_104, RG_105, RP_105, q_fi_sfi, q_fl_sfi, q_fr_sfi, q_ai_sfi, q_al_sfi, q_ar_sfi, q_ln_sfi, q_fi_sfl, q_fl_sfl, q_fr_sfl, q_ai_sfl, q_al_sfl, q_ar_sfl, q_ln_sfl, q_fi_sfr, q_fl_sfr, q_fr_sfr, q_ai_sfr, q_al_sfr, q_ar_sfr, q_ln_sfr, q_fi_sai, q_fl_sai, q_fr_sai, q_ai_sai, q_al_sai, q_ar_sai, q_ln_sai, q_fi_sal, q_fl_sal, q_fr_sal, q_ai_sal, q_al_sal, q_ar_sal, q_ln_sal, q_fi_sar, q_fl_sar, q_fr_sar, q_ai_sar, q_al_sar, q_ar_sar, q_ln_sar, reduceIte, Nat.reduceEqDiff, hN, Option.bind_some, ix_n (show nN < 2147483648 by omega), decide_eq_true (show nN < 60 by omega), if_true, c32 (show nN < 2147483648 by omega), suc32]
  refine QI.ok (by unfold st_notice; (repeat' split) <;> (first | rfl | omega)) ?_ rfl ?_
  · rw [ofNat_m1 (by omega)]; rfl
  · exact frc_fi (frc_fi (frc_ai (frc_ai (frc_ai (frc_ai (frc_ai (fr1 R) _ _) _ _) _ _) _ _) _ _) _ _) _ _
theorem r_notice {m : Nat} {ρ : Hs} {R : Gs} {nV nC nN : Nat} (hV : fi R 47 = Int32.ofNat nV) (h8 : nV ≤ 8) (hn : fi R 11 = Int32.ofNat nC) (h12 : nC ≤ 12) (hN : fi R 48 = Int32.ofNat nN) (h60 : nN ≤ 60) (v c d k x : Int32) : QI m ρ R (st_notice R nV nC nN v c d k x) (Int32.ofNat nN) (u_notice R nN v c d k x) (fX12_notice_0 (eR m ρ R) m v c d k x) := by
  have hn' : fi (sfi (sfi R 1 0) 0 0) 11 = Int32.ofNat nC := hn
  have eV : ((Int32.ofNat nV - 1).toInt64).toInt = (nV : Int) - 1 := by
    rw [up64, sub32, n32 (by omega)]; rfl
    rw [n32 (by omega)]; show _ ≤ (nV : Int) - 1 ∧ (nV : Int) - 1 < _; omega
  unfold fX12_notice_0
  simp only [RP_1, RP_0, RG_47, q_fi_sfi, q_fl_sfi, q_fr_sfi, q_ai_sfi, q_al_sfi, q_ar_sfi, q_ln_sfi, q_fi_sfl, q_fl_sfl, q_fr_sfl, q_ai_sfl, q_al_sfl, q_ar_sfl, q_ln_sfl, q_fi_sfr, q_fl_sfr, q_fr_sfr, q_ai_sfr, q_al_sfr, q_ar_sfr, q_ln_sfr, q_fi_sai, q_fl_sai, q_fr_sai, q_ai_sai, q_al_sai, q_ar_sai, q_ln_sai, q_fi_sal, q_fl_sal, q_fr_sal, q_ai_sal, q_al_sal, q_ar_sal, q_ln_sal, q_fi_sar, q_fl_sar, q_fr_sar, q_ai_sar, q_al_sar, q_ar_sar, q_ln_sar, reduceIte, Nat.reduceEqDiff, hV, RisC, r_refuse, r_isClock hn' h12, r_isI, r_isDay, Option.bind_some, b2i_0, eV, Int64.reduceToInt]
  rcases Decidable.em (¬ (0 ≤ v.toInt ∧ v.toInt ≤ (nV : Int) - 1)) with hc1 | hc1
  · rw [if_pos hc1]; exact QI.no (by decide) (by unfold st_notice; (repeat' split) <;> (first | rfl | omega)) (fr1 R)
  rw [if_neg hc1]
  rcases Decidable.em (¬ (0 ≤ c.toInt ∧ c.toInt < nC)) with hc2 | hc2
  · rw [if_pos hc2]; exact QI.no (by decide) (by unfold st_notice; (repeat' split) <;> (first | rfl | omega)) (fr1 R)
  rw [if_neg hc2]
  rcases Decidable.em (¬ (0 ≤ d.toInt ∧ d.toInt ≤ 9999)) with hc3 | hc3
  · rw [if_pos hc3]; exact QI.no (by decide) (by unfold st_notice; (repeat' split) <;> (first | rfl | omega)) (fr1 R)
  rw [if_neg hc3]
  rcases Decidable.em (k = 1) with hc4 | hc4
  · rw [if_pos hc4]; exact r_notice59 hN h60 v c d k x (by omega) (by omega) (by omega) (Or.inl (by rw [hc4]; rfl))
  rw [if_neg hc4]
  rcases Decidable.em (k = -1) with hc5 | hc5
  · rw [if_pos hc5]; exact r_notice59 hN h60 v c d k x (by omega) (by omega) (by omega) (Or.inr (by rw [hc5]; rfl))
  rw [if_neg hc5]
  rw [eq32, i1] at hc4
  rw [eq32, im1] at hc5
  exact QI.no (by decide) (by unfold st_notice; (repeat' split) <;> (first | rfl | omega)) (fr1 R)
def QS (m : Nat) (ρ : Hs) (R : Gs) (a : Int32) (U : Gs) (X : Option (Int32 × Hs)) : Prop := ∃ R', X = some (a, eR m ρ R') ∧ fi R' 0 = fi R 0 ∧ Fr SCR U R' ∧ (H6 R → H6 R')
theorem r_fault (m : Nat) (ρ : Hs) (R : Gs) (w : Int32) : QS m ρ R (if w = 0 then fi R 19 else if w = 1 then fi R 20 else -1) R (fX12_fault_0 (eR m ρ R) m w) := by
  unfold fX12_fault_0
  simp only [RP_1, RG_19, RG_20, q_fi_sfi, q_fl_sfi, q_fr_sfi, q_ai_sfi, q_al_sfi, q_ar_sfi, q_ln_sfi, q_fi_sfl, q_fl_sfl, q_fr_sfl, q_ai_sfl, q_al_sfl, q_ar_sfl, q_ln_sfl, q_fi_sfr, q_fl_sfr, q_fr_sfr, q_ai_sfr, q_al_sfr, q_ar_sfr, q_ln_sfr, q_fi_sai, q_fl_sai, q_fr_sai, q_ai_sai, q_al_sai, q_ar_sai, q_ln_sai, q_fi_sal, q_fl_sal, q_fr_sal, q_ai_sal, q_al_sal, q_ar_sal, q_ln_sal, q_fi_sar, q_fl_sar, q_fr_sar, q_ai_sar, q_al_sar, q_ar_sar, q_ln_sar, reduceIte, Nat.reduceEqDiff, Option.bind_some]
  refine ⟨sfi R 1 0, ?_, rfl, (Fr.refl _ R).sfi (by decide) _, fun h => h⟩
  (repeat' split) <;> rfl
theorem r_status (m : Nat) (ρ : Hs) (R : Gs) : QS m ρ R (fi R 0) R (fX12_status_0 (eR m ρ R) m) := by
  unfold fX12_status_0
  simp only [RP_1, RG_0, q_fi_sfi, q_fl_sfi, q_fr_sfi, q_ai_sfi, q_al_sfi, q_ar_sfi, q_ln_sfi, q_fi_sfl, q_fl_sfl, q_fr_sfl, q_ai_sfl, q_al_sfl, q_ar_sfl, q_ln_sfl, q_fi_sfr, q_fl_sfr, q_fr_sfr, q_ai_sfr, q_al_sfr, q_ar_sfr, q_ln_sfr, q_fi_sai, q_fl_sai, q_fr_sai, q_ai_sai, q_al_sai, q_ar_sai, q_ln_sai, q_fi_sal, q_fl_sal, q_fr_sal, q_ai_sal, q_al_sal, q_ar_sal, q_ln_sal, q_fi_sar, q_fl_sar, q_fr_sar, q_ai_sar, q_al_sar, q_ar_sar, q_ln_sar, reduceIte, Nat.reduceEqDiff, Option.bind_some]
  exact ⟨sfi R 1 0, rfl, rfl, (Fr.refl _ R).sfi (by decide) _, fun h => h⟩
def st_ran (R : Gs) (w : Int32) : Int32 := if ¬ (0 ≤ w.toInt ∧ w.toInt ≤ 2) then 5 else if (fi R 68).toInt < 0 then 8 else 0
theorem r_ran (m : Nat) (ρ : Hs) (R : Gs) (w : Int32) : QI m ρ R (st_ran R w) (if w = 0 then fi R 69 else if w = 1 then fi R 70 else fi R 71) R (fX12_ran_0 (eR m ρ R) m w) := by
  unfold fX12_ran_0
  simp only [RP_1, RP_0, RG_68, RG_69, RG_70, RG_71, q_fi_sfi, q_fl_sfi, q_fr_sfi, q_ai_sfi, q_al_sfi, q_ar_sfi, q_ln_sfi, q_fi_sfl, q_fl_sfl, q_fr_sfl, q_ai_sfl, q_al_sfl, q_ar_sfl, q_ln_sfl, q_fi_sfr, q_fl_sfr, q_fr_sfr, q_ai_sfr, q_al_sfr, q_ar_sfr, q_ln_sfr, q_fi_sai, q_fl_sai, q_fr_sai, q_ai_sai, q_al_sai, q_ar_sai, q_ln_sai, q_fi_sal, q_fl_sal, q_fr_sal, q_ai_sal, q_al_sal, q_ar_sal, q_ln_sal, q_fi_sar, q_fl_sar, q_fr_sar, q_ai_sar, q_al_sar, q_ar_sar, q_ln_sar, reduceIte, Nat.reduceEqDiff, RisC, r_refuse, r_isI, Option.bind_some, b2i_0, Int64.reduceToInt, le32, i0]
  rcases Decidable.em (¬ (0 ≤ w.toInt ∧ w.toInt ≤ 2)) with hc1 | hc1
  · rw [if_pos hc1]; exact QI.no (by decide) (by unfold st_ran; (repeat' split) <;> (first | rfl | omega)) (fr1 R)
  rw [if_neg hc1]
  rcases Decidable.em (¬ (0 ≤ (fi R 68).toInt)) with hc2 | hc2
  · rw [if_neg hc2]; exact QI.no (by decide) (by unfold st_ran; (repeat' split) <;> (first | rfl | omega)) (fr1 R)
  replace hc2 := Decidable.not_not.mp hc2
  rw [if_pos hc2]
  have hst : st_ran R w = 0 := (by unfold st_ran; (repeat' split) <;> (first | rfl | omega))
  split
  · exact QI.ok hst rfl rfl (fr1 R)
  · split
    · exact QI.ok hst rfl rfl (fr1 R)
    · exact QI.ok hst rfl rfl (fr1 R)
def st_span (R : Gs) (w : Int32) : Int32 := if ¬ (0 ≤ w.toInt ∧ w.toInt ≤ 1) then 5 else if fi R 87 = 0 then 8 else 0
theorem r_span (m : Nat) (ρ : Hs) (R : Gs) (w : Int32) : QI m ρ R (st_span R w) (if w = 0 then fi R 88 else fi R 89) R (fX12_span_0 (eR m ρ R) m w) := by
  unfold fX12_span_0
  simp only [RP_1, RP_0, RG_87, RG_88, RG_89, q_fi_sfi, q_fl_sfi, q_fr_sfi, q_ai_sfi, q_al_sfi, q_ar_sfi, q_ln_sfi, q_fi_sfl, q_fl_sfl, q_fr_sfl, q_ai_sfl, q_al_sfl, q_ar_sfl, q_ln_sfl, q_fi_sfr, q_fl_sfr, q_fr_sfr, q_ai_sfr, q_al_sfr, q_ar_sfr, q_ln_sfr, q_fi_sai, q_fl_sai, q_fr_sai, q_ai_sai, q_al_sai, q_ar_sai, q_ln_sai, q_fi_sal, q_fl_sal, q_fr_sal, q_ai_sal, q_al_sal, q_ar_sal, q_ln_sal, q_fi_sar, q_fl_sar, q_fr_sar, q_ai_sar, q_al_sar, q_ar_sar, q_ln_sar, reduceIte, Nat.reduceEqDiff, RisC, r_refuse, r_isI, Option.bind_some, b2i_0, Int64.reduceToInt]
  rcases Decidable.em (¬ (0 ≤ w.toInt ∧ w.toInt ≤ 1)) with hc1 | hc1
  · rw [if_pos hc1]; exact QI.no (by decide) (by unfold st_span; (repeat' split) <;> (first | rfl | omega)) (fr1 R)
  rw [if_neg hc1]
  rcases Decidable.em (fi R 87 = 0) with hc2 | hc2
  · rw [if_pos hc2]; exact QI.no (by decide) (by unfold st_span; rw [if_neg hc1, if_pos hc2]) (fr1 R)
  rw [if_neg hc2]
  have hst : st_span R w = 0 := by unfold st_span; rw [if_neg hc1, if_neg hc2]
  split
  · exact QI.ok hst rfl rfl (fr1 R)
  · exact QI.ok hst rfl rfl (fr1 R)
def st_land (l o f t : Int32) : Int32 := if ¬ (0 ≤ l.toInt ∧ l.toInt ≤ 3) then 2 else if ¬ (-720 ≤ o.toInt ∧ o.toInt ≤ 840) ∨ ¬ (0 ≤ f.toInt ∧ f.toInt ≤ 364) ∨ ¬ (f.toInt ≤ t.toInt ∧ t.toInt ≤ 364) then 5 else 0
def u_land (R : Gs) (l o f t : Int32) : Gs := sai (sai (sai R 84 (up (ai R 84) l.toNatClampNeg o)) 85 (up (ai R 85) l.toNatClampNeg f)) 86 (up (ai R 86) l.toNatClampNeg t)
theorem r_isLand (σ : Hs) (l : Int32) : fX12_isLand_0 σ l = some (b2i (0 ≤ l.toInt ∧ l.toInt ≤ 3)) := by
  unfold fX12_isLand_0; rw [r_isI, Option.bind_some, bb_b]; rfl
theorem jm720 : (-720 : Int64).toInt = -720 := rfl
theorem r_land (m : Nat) (ρ : Hs) (R : Gs) (l o f t : Int32) : QB m ρ R (st_land l o f t) (u_land R l o f t) (fX12_land_0 (eR m ρ R) m l o f t) := by
  unfold fX12_land_0
  simp only [RP_1, RP_0, RisC, r_no, r_isLand, r_isI, Option.bind_some, b2i_0, bb_0, jm720, up64, Int64.reduceToInt]
  rcases Decidable.em (¬ (0 ≤ l.toInt ∧ l.toInt ≤ 3)) with hc1 | hc1
  · rw [if_pos hc1]; exact QB.no (by decide) (by unfold st_land; (repeat' split) <;> (first | rfl | omega)) (fr1 R)
  rw [if_neg hc1]
  rcases Decidable.em (¬ (-720 ≤ o.toInt ∧ o.toInt ≤ 840)) with hc2 | hc2
  · rw [if_pos hc2]; exact QB.no (by decide) (by unfold st_land; (repeat' split) <;> (first | rfl | omega)) (fr1 R)
  rw [if_neg hc2]
  rcases Decidable.em (¬ (0 ≤ f.toInt ∧ f.toInt ≤ 364)) with hc3 | hc3
  · rw [if_pos hc3]; exact QB.no (by decide) (by unfold st_land; (repeat' split) <;> (first | rfl | omega)) (fr1 R)
  rw [if_neg hc3]
  rcases Decidable.em (¬ (f.toInt ≤ t.toInt ∧ t.toInt ≤ 364)) with hc4 | hc4
  · rw [if_pos hc4]; exact QB.no (by decide) (by unfold st_land; (repeat' split) <;> (first | rfl | omega)) (fr1 R)
  rw [if_neg hc4]
  obtain ⟨ln, rfl, hln, hl⟩ := get32 l (by omega)
  simp only [RisC, RG_0, RP_0, RG_1, RP_1, RN_2, Rld_2, Rst_2, RN_3, Rld_3, Rst_3, RN_4, Rld_4, Rst_4, RG_5, RP_5, RG_6, RP_6, RN_7, Rld_7, Rst_7, RN_8, Rld_8, Rst_8, RN_9, Rld_9, Rst_9, RN_10, Rld_10, Rst_10, RG_11, RP_11, RG_12, RP_12, RN_13, Rld_13, Rst_13, RN_14, Rld_14, Rst_14, RN_15, Rld_15, Rst_15, RN_16, Rld_16, Rst_16, RG_17, RP_17, RG_18, RP_18, RG_19, RP_19, RG_20, RP_20, RG_21, RP_21, RG_22, RP_22, RG_23, RP_23, RG_24, RP_24, RG_25, RP_25, RG_26, RP_26, RG_27, RP_27, RG_28, RP_28, RG_29, RP_29, RG_30, RP_30, RG_31, RP_31, RG_32, RP_32, RN_33, Rld_33, Rst_33, RN_34, Rld_34, Rst_34, RN_35, Rld_35, Rst_35, RN_36, Rld_36, Rst_36, RN_37, Rld_37, Rst_37, RN_38, Rld_38, Rst_38, RN_39, Rld_39, Rst_39, RN_40, Rld_40, Rst_40, RN_41, Rld_41, Rst_41, RN_42, Rld_42, Rst_42, RN_43, Rld_43, Rst_43, RN_44, Rld_44, Rst_44, RN_45, Rld_45, Rst_45, RG_46, RP_46, RG_47, RP_47, RG_48, RP_48, RG_49, RP_49, RN_50, Rld_50, Rst_50, RN_51, Rld_51, Rst_51, RN_52, Rld_52, Rst_52, RN_53, Rld_53, Rst_53, RN_54, Rld_54, Rst_54, RN_55, Rld_55, Rst_55, RG_56, RP_56, RG_57, RP_57, RN_58, Rld_58, Rst_58, RN_59, Rld_59, Rst_59, RN_60, Rld_60, Rst_60, RG_61, RP_61, RG_62, RP_62, RG_63, RP_63, RG_64, RP_64, RG_65, RP_65, RG_66, RP_66, RG_67, RP_67, RG_68, RP_68, RG_69, RP_69, RG_70, RP_70, RG_71, RP_71, RN_72, Rld_72, Rst_72, RN_73, Rld_73, Rst_73, RN_74, Rld_74, Rst_74, RN_75, Rld_75, Rst_75, RN_76, Rld_76, Rst_76, RN_77, Rld_77, Rst_77, RN_78, Rld_78, Rst_78, RN_79, Rld_79, Rst_79, RN_80, Rld_80, Rst_80, RN_81, Rld_81, Rst_81, RN_82, Rld_82, Rst_82, RN_83, Rld_83, Rst_83, RN_84, Rld_84, Rst_84, RN_85, Rld_85, Rst_85, RN_86, Rld_86, Rst_86, RG_87, RP_87, RG_88, RP_88, RG_89, RP_89, RG_90, RP_90, RG_91, RP_91, RG_92, RP_92, RG_93, RP_93, RN_94, Rld_94, Rst_94, RN_95, Rld_95, Rst_95, RG_96, RP_96, RN_97, Rld_97, Rst_97, RN_98, Rld_98, Rst_98, RN_99, Rld_99, Rst_99, RN_100, Rld_100, Rst_100, RG_101, RP_101, RN_102, Rld_102, Rst_102, RN_103, Rld_103, Rst_103, RN_104, Rld_104, Rst_104, RG_105, RP_105, q_fi_sfi, q_fl_sfi, q_fr_sfi, q_ai_sfi, q_al_sfi, q_ar_sfi, q_ln_sfi, q_fi_sfl, q_fl_sfl, q_fr_sfl, q_ai_sfl, q_al_sfl, q_ar_sfl, q_ln_sfl, q_fi_sfr, q_fl_sfr, q_fr_sfr, q_ai_sfr, q_al_sfr, q_ar_sfr, q_ln_sfr, q_fi_sai, q_fl_sai, q_fr_sai, q_ai_sai, q_al_sai, q_ar_sai, q_ln_sai, q_fi_sal, q_fl_sal, q_fr_sal, q_ai_sal, q_al_sal, q_ar_sal, q_ln_sal, q_fi_sar, q_fl_sar, q_fr_sar, q_ai_sar, q_al_sar, q_ar_sar, q_ln_sar, reduceIte, Nat.reduceEqDiff, Option.bind_some, ix_n hln, decide_eq_true (show ln < 4 by omega), if_true, c32 hln, bb_1]
  refine QB.ok (by unfold st_land; (repeat' split) <;> (first | rfl | omega)) rfl ?_
  unfold u_land; rw [c32 hln]
  exact frc_ai (frc_ai (frc_ai (fr1 R) _ _) _ _) _ _
