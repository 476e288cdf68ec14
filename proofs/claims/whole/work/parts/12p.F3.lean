section
variable {P : Par} {x : Nat} {own : Nat → Nat} {σ : Hs} {R : Gs} {st : Int32}
def mn39 (v : Int32) : Int32 := if v < 1439 then v else 1439
theorem x_mnA (σ : Hs) (v : Int32) : fJ9_min_7cf53_0 σ v 1439 = some (mn39 v) := by
  have e : (1439 : Int32).toInt = 1439 := rfl
  unfold fJ9_min_7cf53_0 mn39
  by_cases h : (1439 : Int32) < v
  · rw [if_pos h, if_neg (by rw [lt32, e] at *; omega)]
  · rw [if_neg h]
    by_cases h2 : v < 1439
    · rw [if_pos h2]
    · rw [if_neg h2]
      rw [lt32, e] at h h2
      rw [show v = 1439 from eq32.mpr (by rw [e]; omega)]
theorem x_mnB (σ : Hs) (v : Int32) : fJ9_min_7cf53_0 σ 1439 v = some (mn39 v) := by
  unfold fJ9_min_7cf53_0 mn39
  by_cases h2 : v < 1439
  · rw [if_pos h2, if_pos h2]
  · rw [if_neg h2, if_neg h2]
def st_loc (l c : Int32) : Int32 := if ¬ (0 ≤ l.toInt ∧ l.toInt ≤ 3) then 2 else if ¬ (0 ≤ c.toInt ∧ c.toInt ≤ 900000000) then 5 else 0
def a_loc (R : Gs) (T : List (Int × Int)) (l : Nat) (c : Int32) : Int32 := lco (ai R 85 l) (ai R 86 l) (((1440 * Int32.ofInt (civ T c.toInt)) + mn39 (Int32.ofInt (c.toInt - bg T (civ T c.toInt)) / 60)) + ai R 84 l)
theorem r_local {m : Nat} {ρ : Hs} {R : Gs} {nL : Nat} (hL : RLp R nL) (hD : RLd R) (l c : Int32) : QI m ρ R (st_loc l c) (a_loc R (tru R nL) l.toNatClampNeg c) R (fX12_local_0 (eR m ρ R) m l c) := by
  unfold fX12_local_0
  simp only [RP_1, RP_0, RisC, r_refuse, r_isLand, r_isCount, Option.bind_some, b2i_0, Int64.reduceToInt]
  rcases Decidable.em (¬ (0 ≤ l.toInt ∧ l.toInt ≤ 3)) with hc1 | hc1
  · rw [if_pos hc1]; exact QI.no (by decide) (by unfold st_loc; (repeat' split) <;> (first | rfl | omega)) (fr1 R)
  rw [if_neg hc1]
  rcases Decidable.em (¬ (0 ≤ c.toInt ∧ c.toInt ≤ 900000000)) with hc2 | hc2
  · rw [if_pos hc2]; exact QI.no (by decide) (by unfold st_loc; (repeat' split) <;> (first | rfl | omega)) (fr1 R)
  rw [if_neg hc2]
  have hst : st_loc l c = 0 := (by unfold st_loc; (repeat' split) <;> (first | rfl | omega))
  obtain ⟨li, rfl, hl1, hl2⟩ := get32 l (by omega)
  have hl : li < 4 := by omega
  obtain ⟨R1, t1, t2, t3, t4⟩ := r_takeTrue (m := m) (ρ := ρ) ((hL.sf (k := 1) (v := 0) (by decide)).sf (k := 0) (v := 0) (by decide)).1 hL.2.1
  have hT : Tok nL (ai R1 9) (ai R1 10) := hL.2.2.cg t4
  have hlt : lst nL (ai R1 9) (ai R1 10) = tru R nL := lst_congr t4
  obtain ⟨R2, f1, f2, f3, f4⟩ := r_findCivil (m := m) (ρ := ρ) (c := c.toInt64) t3 hT (by rw [up64]; omega) (by rw [up64]; omega)
  rw [hlt, up64] at f3 f4
  have hF : Fr SC0 R R2 := (fr1 R).trans ((t2.mono (by decide)).trans (f2.mono (by decide)))
  have h0 : fi R2 0 = 0 := by rw [f2.i 0 (by decide), t2.i 0 (by decide)]; rfl
  have h6 : H6 R → H6 R2 := fun _ => ⟨nL, Nat.le_trans hL.2.1 (by decide), (f2.i 6 (by decide)).trans t3⟩
  have e84 := hF.ai 84 (by decide)
  have e85 := hF.ai 85 (by decide)
  have e86 := hF.ai 86 (by decide)
  have hr := fun s => r_localOf (m := m) (ρ := ρ) (R := R2) hl (by rw [e85, e86]; exact (hD li hl).2) s
  simp only [t1, f1, Option.bind_some, RisC, RG_0, RP_0, RG_1, RP_1, RN_2, Rld_2, Rst_2, RN_3, Rld_3, Rst_3, RN_4, Rld_4, Rst_4, RG_5, RP_5, RG_6, RP_6, RN_7, Rld_7, Rst_7, RN_8, Rld_8, Rst_8, RN_9, Rld_9, Rst_9, RN_10, Rld_10, Rst_10, RG_11, RP_11, RG_12, RP_12, RN_13, Rld_13, Rst_13, RN_14, Rld_14, Rst_14, RN_15, Rld_15, Rst_15, RN_16, Rld_16, Rst_16, RG_17, RP_17, RG_18, RP_18, RG_19, RP_19, RG_20, RP_20, RG_21, RP_21, RG_22, RP_22, RG_23, RP_23, RG_24, RP_24, RG_25, RP_25, RG_26, RP_26, RG_27, RP_27, RG_28, RP_28, RG_29, RP_29, RG_30, RP_30, RG_31, RP_31, RG_32, RP_32, RN_33, Rld_33, Rst_33, RN_34, Rld_34, Rst_34, RN_35, Rld_35, Rst_35, RN_36, Rld_36, Rst_36, RN_37, Rld_37, Rst_37, RN_38, Rld_38, Rst_38, RN_39, Rld_39, Rst_39, RN_40, Rld_40, Rst_40, RN_41, Rld_41, Rst_41, RN_42, Rld_42, Rst_42, RN_43, Rld_43, Rst_43, RN_44, Rld_44, Rst_44, RN_45, Rld_45, Rst_45, RG_46, RP_46, RG_47, RP_47, RG_48, RP_48, RG_49, RP_49, RN_50, Rld_50, Rst_50, RN_51, Rld_51, Rst_51, RN_52, Rld_52, Rst_52, RN_53, Rld_53, Rst_53, RN_54, Rld_54, Rst_54, RN_55, Rld_55, Rst_55, RG_56, RP_56, RG_57, RP_57, RN_58, Rld_58, Rst_58, RN_59, Rld_59, Rst_59, RN_60, Rld_60, Rst_60, RG_61, RP_61, RG_62, RP_62, RG_63, RP_63, RG_64, RP_64, RG_65, RP_65, RG_66, RP_66, RG_67, RP_67, RG_68, RP_68, RG_69, RP_69, RG_70, RP_70, RG_71, RP_71, RN_72, Rld_72, Rst_72, RN_73, Rld_73, Rst_73, RN_74, Rld_74, Rst_74, RN_75, Rld_75, Rst_75, RN_76, Rld_76, Rst_76, RN_77, Rld_77, Rst_77, RN_78, Rld_78, Rst_78, RN_79, Rld_79, Rst_79, RN_80, Rld_80, Rst_80, RN_81, Rld_81, Rst_81, RN_82, Rld_82, Rst_82, RN_83, Rld_83, Rst_83, RN_84, Rld_84, Rst_84, RN_85, Rld_85, Rst_85, RN_86, Rld_86, Rst_86, RG_87, RP_87, RG_88, RP_88, RG_89, RP_89, RG_90, RP_90, RG_91, RP_91, RG_92, RP_92, RG_93, RP_93, RN_94, Rld_94, Rst_94, RN_95, Rld_95, Rst_95, RG_96, RP_96, RN_97, Rld_97, Rst_97, RN_98, Rld_98, Rst_98, RN_99, Rld_99, Rst_99, RN_100, Rld_100, Rst_100, RG_101, RP_101, RN_102, Rld_102, Rst_102, RN_103, Rld_103, Rst_103, RN_104, Rld_104, Rst_104, RG_105, RP_105, x_mnB, e84, hr, ix_n hl1, decide_eq_true hl, if_true, c32 hl1]
  refine QI.ok hst ?_ h0 hF h6
  unfold a_loc
  rw [ofI f3, ofI f4, e85, e86]
theorem k_local (hP : P.ok) (hW : RW R) (h : XW P x own σ R st) (l c : Int32) : KI P x σ (rf (st_loc l c) (a_loc R (tru R (nL R)) l.toNatClampNeg c)) (st_loc l c) R (fX11_local_0 σ x l c) := by
  obtain ⟨G, T, eC, eV, eN, eT, eS, h⟩ := h
  have hA := h.2.2.1.at
  have h31 : ∀ v, (v ≠ 0 ∨ (v = 0 ∧ (0 ≤ l.toInt ∧ l.toInt ≤ 3) ∧ 0 ≤ c.toInt ∧ c.toInt ≤ 900000000)) → KI P x σ (rf v (a_loc R (tru R (nL R)) l.toNatClampNeg c)) v R (fX11_local_31 (e11 x σ (sfi G 0 v)) x l c) := by
    intro v hv
    have hs := h.st hP hW v
    have hA2 : A11 x (sfi G 0 v) (e11 x σ (sfi G 0 v)) := A11_self _ _
    unfold fX11_local_31
    simp only [z11_g0 hA2, Option.bind_some, q_fi_sfi, q_fl_sfi, q_fr_sfi, q_ai_sfi, q_al_sfi, q_ar_sfi, q_ln_sfi, q_fi_sfl, q_fl_sfl, q_fr_sfl, q_ai_sfl, q_al_sfl, q_ar_sfl, q_ln_sfl, q_fi_sfr, q_fl_sfr, q_fr_sfr, q_ai_sfr, q_al_sfr, q_ar_sfr, q_ln_sfr, q_fi_sai, q_fl_sai, q_fr_sai, q_ai_sai, q_al_sai, q_ar_sai, q_ln_sai, q_fi_sal, q_fl_sal, q_fr_sal, q_ai_sal, q_al_sal, q_ar_sal, q_ln_sal, q_fi_sar, q_fl_sar, q_fr_sar, q_ai_sar, q_al_sar, q_ar_sar, q_ln_sar, reduceIte, Nat.reduceEqDiff]
    rcases hv with hv | ⟨hv, hv2, hc⟩
    · rw [if_neg hv, show rf v _ = -1 from if_neg hv]; exact KI.no hP h hW _ _
    · rw [if_pos hv, show rf v _ = _ from if_pos hv]
      obtain ⟨li, rfl, hl1, hl2⟩ := get32 l hv2.1
      have hl : li < 4 := by omega
      obtain ⟨h0, h1, h2, h3, h4, -⟩ := id hs
      have hp : (tru R (nL R)).Perm (tt T (nL R)) := mm_perm hW.1.2.2.2.2 (h4.2.1.1.tok.2.2) (fun p q => (h4.2.2 p q).symm)
      obtain ⟨T', t1, t2, t3, t4, t5⟩ := x9_turnTo (b := x + 3) (σ := e11 x σ (sfi G 0 v)) h4.2.1 c.toInt64 (by rw [up64]; omega) (by rw [up64]; omega)
      rw [show e9 (x + 3) (e11 x σ (sfi G 0 v)) T = e11 x σ (sfi G 0 v) from h4.1] at t1
      rw [up64] at t3 t4
      have hA3 : A11 x (sfi G 0 v) (e9 (x + 3) (e11 x σ (sfi G 0 v)) T') := A11_fr hA2 (fun a ha => e9_out _ _ (by omega))
      have hT3 : A9 (x + 3) T' (e9 (x + 3) (e11 x σ (sfi G 0 v)) T') := A9_self _ _
      have hC3 : Chg x own [2] (e11 x σ (sfi G 0 v)) (e9 (x + 3) (e11 x σ (sfi G 0 v)) T') := e9_chg _ _ (by decide)
      have hX3 : XWg P x own (e9 (x + 3) (e11 x σ (sfi G 0 v)) T') R v (sfi G 0 v) T' eC eV eN eT eS := by
        obtain ⟨tv1, tv2⟩ := t2.tv h4.2.1
        refine hs.fr hP hW (hC3.mono (by decide)) (h2.fr h0 hC3 (by decide) (Fr.refl SCR R) (by decide)) ⟨hT3, tv1, fun p q => ?_⟩ (Fr.refl _ _) ⟨⟨rfl, rfl, rfl, rfl⟩, fun q => q⟩
        rw [t2.ai 0 (by decide), t2.ai 1 (by decide)]; exact h4.2.2 p q
      have hK : Kp x σ (e9 (x + 3) (e11 x σ (sfi G 0 v)) T') := ((e11_chg (own := own) (W := [1, 2]) σ _ (by decide)).trans (hC3.mono (by decide))).kp h.1 (by decide)
      have hD := hX3.2.2.2.2.2.2.2.2.2.2.2.2.2
      have l17 : ln (sfi G 0 v) 17 = 4 := hs.2.2.1.2.2.2.2.2.2.2.1.2.2
      obtain ⟨a, L, a1, a2, a3, a4, a5, a6⟩ := hD li hl
      have hr := hW.2.2.2.2.2.2.2.2.2.2.1 li hl
      have hx := fun s => x_localOf a2 (by rw [a5, a6]; exact hr.2) s
      simp only [z11_g6 hA2, z9_C h4.1, Option.bind_some, t1, z11_g6 hA3, z9_g4 hT3, z9_g5 hT3, x_mnA, z11_g17 hA3, z11_l17 hA3, l17, ix_n hl1, decide_eq_true hl, if_true, c32 hl1, a1, z2_C a2, z2_g0 a2, hx]
      refine ⟨_, own, ?_, ⟨_, _, _, _, _, _, _, hX3⟩, hK⟩
      unfold a_loc
      rw [bg_perm hp, civ_perm hp, ofI t3, ofI t4, a4, a5, a6]
  unfold fX11_local_0
  simp only [x_isLand, x_isCount, Option.bind_some, b2i_0, z11_p0 hA]
  by_cases k1 : 0 ≤ l.toInt ∧ l.toInt ≤ 3
  · rw [if_neg (fun q => q k1)]
    by_cases k2 : 0 ≤ c.toInt ∧ c.toInt ≤ 900000000
    · rw [if_neg (fun q => q k2), show st_loc l c = 0 from (by unfold st_loc; (repeat' split) <;> (first | rfl | omega))]
      exact h31 0 (Or.inr ⟨rfl, k1, k2⟩)
    · rw [if_pos k2, show st_loc l c = 5 from (by unfold st_loc; (repeat' split) <;> (first | rfl | omega))]
      exact h31 5 (Or.inl (by decide))
  · rw [if_pos k1, show st_loc l c = 2 from (by unfold st_loc; (repeat' split) <;> (first | rfl | omega))]
    exact h31 2 (Or.inl (by decide))
theorem both_local (hP : P.ok) (hI : Inv P x σ) (l c : Int32) : ∃ v σ1 σ2, fX11_local_0 σ x l c = some (v, σ1) ∧ fX12_local_0 σ1 (x + 20) l c = some (v, σ2) ∧ Inv P x σ2 := by
  obtain ⟨own, R, hE, hX, hW, h6⟩ := hI
  obtain ⟨σ1, σ2, h1, h2, h3⟩ := arm_I (Y := fun s => fX12_local_0 s (x + 20) l c) hP h6 hE (by rw [ite_self_R]; exact k_local hP hW hX l c) (fun ρ => r_local hW.1 hW.2.2.2.2.2.2.2.2.2.2.1 l c) (by rw [ite_self_R]; exact hW)
  exact ⟨_, σ1, σ2, h1, h2, h3⟩
end
