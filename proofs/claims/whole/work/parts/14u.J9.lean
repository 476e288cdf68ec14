section
variable {P : Par} {x : Nat} {σ : Hs}
theorem r_117N {m : Nat} {ρ : Hs} {R : Gs} {kd : Nat} (h : fi R 21 = Int32.ofNat kd) (hk : 0 < kd ∧ kd < 7) (fm : Int32) : fX12_rules_117 (eR m ρ R) m fm = some (-1, eR m ρ (sfi (sfi (sfi R 19 (Int32.ofNat kd)) 20 (fi R 22)) 0 10)) := by
  unfold fX12_rules_117
  simp only [RisC, RG_0, RP_0, RG_1, RP_1, RN_2, Rld_2, Rst_2, RN_3, Rld_3, Rst_3, RN_4, Rld_4, Rst_4, RG_5, RP_5, RG_6, RP_6, RN_7, Rld_7, Rst_7, RN_8, Rld_8, Rst_8, RN_9, Rld_9, Rst_9, RN_10, Rld_10, Rst_10, RG_11, RP_11, RG_12, RP_12, RN_13, Rld_13, Rst_13, RN_14, Rld_14, Rst_14, RN_15, Rld_15, Rst_15, RN_16, Rld_16, Rst_16, RG_17, RP_17, RG_18, RP_18, RG_19, RP_19, RG_20, RP_20, RG_21, RP_21, RG_22, RP_22, RG_23, RP_23, RG_24, RP_24, RG_25, RP_25, RG_26, RP_26, RG_27, RP_27, RG_28, RP_28, RG_29, RP_29, RG_30, RP_30, RG_31, RP_31, RG_32, RP_32, RN_33, Rld_33, Rst_33, RN_34, Rld_34, Rst_34, RN_35, Rld_35, Rst_35, RN_36, Rld_36, Rst_36, RN_37, Rld_37, Rst_37, RN_38, Rld_38, Rst_38, RN_39, Rld_39, Rst_39, RN_40, Rld_40, Rst_40, RN_41, Rld_41, Rst_41, RN_42, Rld_42, Rst_42, RN_43, Rld_43, Rst_43, RN_44, Rld_44, Rst_44, RN_45, Rld_45, Rst_45, RG_46, RP_46, RG_47, RP_47, RG_48, RP_48, RG_49, RP_49, RN_50, Rld_50, Rst_50, RN_51, Rld_51, Rst_51, RN_52, Rld_52, Rst_52, RN_53, Rld_53, Rst_53, RN_54, Rld_54, Rst_54, RN_55, Rld_55, Rst_55, RG_56, RP_56, RG_57, RP_57, RN_58, Rld_58, Rst_58, RN_59, Rld_59, Rst_59, RN_60, Rld_60, Rst_60, RG_61, RP_61, RG_62, RP_62, RG_63, RP_63, RG_64, RP_64, RG_65, RP_65, RG_66, RP_66, RG_67, RP_67, RG_68, RP_68, RG_69, RP_69, RG_70, RP_70, RG_71, RP_71, RN_72, Rld_72, Rst_72, RN_73, Rld_73, Rst_73, RN_74, Rld_74, Rst_74, RN_75, Rld_75, Rst_75, RN_76, Rld_76, Rst_76, RN_77, Rld_77, Rst_77, RN_78, Rld_78, Rst_78, RN_79, Rld_79, Rst_79, RN_80, Rld_80, Rst_80, RN_81, Rld_81, Rst_81, RN_82, Rld_82, Rst_82, RN_83, Rld_83, Rst_83, RN_84, Rld_84, Rst_84, RN_85, Rld_85, Rst_85, RN_86, Rld_86, Rst_86, RG_87, RP_87, RG_88, RP_88, RG_89, RP_89, RG_90, RP_90, RG_91, RP_91, RG_92, RP_92, RG_93, RP_93, RN_94, Rld_94, Rst_94, RN_95, Rld_95, Rst_95, RG_96, RP_96, RN_97, Rld_97, Rst_97, RN_98, Rld_98, Rst_98, RN_99, Rld_99, Rst_99, RN_100, Rld_100, Rst_100, RG_101, RP_101, RN_102, Rld_102, Rst_102, RN_103, Rld_103, Rst_103, RN_104, Rld_104, Rst_104, RG_105, RP_105, q_fi_sfi, q_fl_sfi, q_fr_sfi, q_ai_sfi, q_al_sfi, q_ar_sfi, q_ln_sfi, q_fi_sfl, q_fl_sfl, q_fr_sfl, q_ai_sfl, q_al_sfl, q_ar_sfl, q_ln_sfl, q_fi_sfr, q_fl_sfr, q_fr_sfr, q_ai_sfr, q_al_sfr, q_ar_sfr, q_ln_sfr, q_fi_sai, q_fl_sai, q_fr_sai, q_ai_sai, q_al_sai, q_ar_sai, q_ln_sai, q_fi_sal, q_fl_sal, q_fr_sal, q_ai_sal, q_al_sal, q_ar_sal, q_ln_sal, q_fi_sar, q_fl_sar, q_fr_sar, q_ai_sar, q_al_sar, q_ar_sar, q_ln_sar, reduceIte, Nat.reduceEqDiff, h, Option.bind_some, if_neg (bdn hk).2, if_neg (bdn hk).1, r_refuse]
theorem r_117Y {m : Nat} {ρ : Hs} {R : Gs} (h : fi R 21 = 0) (fm : Int32) : fX12_rules_117 (eR m ρ R) m fm = fX12_rules_160 (eR m ρ (sfi (sfi R 19 0) 20 (-1))) m fm 0 := by
  unfold fX12_rules_117
  simp only [RisC, RG_0, RP_0, RG_1, RP_1, RN_2, Rld_2, Rst_2, RN_3, Rld_3, Rst_3, RN_4, Rld_4, Rst_4, RG_5, RP_5, RG_6, RP_6, RN_7, Rld_7, Rst_7, RN_8, Rld_8, Rst_8, RN_9, Rld_9, Rst_9, RN_10, Rld_10, Rst_10, RG_11, RP_11, RG_12, RP_12, RN_13, Rld_13, Rst_13, RN_14, Rld_14, Rst_14, RN_15, Rld_15, Rst_15, RN_16, Rld_16, Rst_16, RG_17, RP_17, RG_18, RP_18, RG_19, RP_19, RG_20, RP_20, RG_21, RP_21, RG_22, RP_22, RG_23, RP_23, RG_24, RP_24, RG_25, RP_25, RG_26, RP_26, RG_27, RP_27, RG_28, RP_28, RG_29, RP_29, RG_30, RP_30, RG_31, RP_31, RG_32, RP_32, RN_33, Rld_33, Rst_33, RN_34, Rld_34, Rst_34, RN_35, Rld_35, Rst_35, RN_36, Rld_36, Rst_36, RN_37, Rld_37, Rst_37, RN_38, Rld_38, Rst_38, RN_39, Rld_39, Rst_39, RN_40, Rld_40, Rst_40, RN_41, Rld_41, Rst_41, RN_42, Rld_42, Rst_42, RN_43, Rld_43, Rst_43, RN_44, Rld_44, Rst_44, RN_45, Rld_45, Rst_45, RG_46, RP_46, RG_47, RP_47, RG_48, RP_48, RG_49, RP_49, RN_50, Rld_50, Rst_50, RN_51, Rld_51, Rst_51, RN_52, Rld_52, Rst_52, RN_53, Rld_53, Rst_53, RN_54, Rld_54, Rst_54, RN_55, Rld_55, Rst_55, RG_56, RP_56, RG_57, RP_57, RN_58, Rld_58, Rst_58, RN_59, Rld_59, Rst_59, RN_60, Rld_60, Rst_60, RG_61, RP_61, RG_62, RP_62, RG_63, RP_63, RG_64, RP_64, RG_65, RP_65, RG_66, RP_66, RG_67, RP_67, RG_68, RP_68, RG_69, RP_69, RG_70, RP_70, RG_71, RP_71, RN_72, Rld_72, Rst_72, RN_73, Rld_73, Rst_73, RN_74, Rld_74, Rst_74, RN_75, Rld_75, Rst_75, RN_76, Rld_76, Rst_76, RN_77, Rld_77, Rst_77, RN_78, Rld_78, Rst_78, RN_79, Rld_79, Rst_79, RN_80, Rld_80, Rst_80, RN_81, Rld_81, Rst_81, RN_82, Rld_82, Rst_82, RN_83, Rld_83, Rst_83, RN_84, Rld_84, Rst_84, RN_85, Rld_85, Rst_85, RN_86, Rld_86, Rst_86, RG_87, RP_87, RG_88, RP_88, RG_89, RP_89, RG_90, RP_90, RG_91, RP_91, RG_92, RP_92, RG_93, RP_93, RN_94, Rld_94, Rst_94, RN_95, Rld_95, Rst_95, RG_96, RP_96, RN_97, Rld_97, Rst_97, RN_98, Rld_98, Rst_98, RN_99, Rld_99, Rst_99, RN_100, Rld_100, Rst_100, RG_101, RP_101, RN_102, Rld_102, Rst_102, RN_103, Rld_103, Rst_103, RN_104, Rld_104, Rst_104, RG_105, RP_105, q_fi_sfi, q_fl_sfi, q_fr_sfi, q_ai_sfi, q_al_sfi, q_ar_sfi, q_ln_sfi, q_fi_sfl, q_fl_sfl, q_fr_sfl, q_ai_sfl, q_al_sfl, q_ar_sfl, q_ln_sfl, q_fi_sfr, q_fl_sfr, q_fr_sfr, q_ai_sfr, q_al_sfr, q_ar_sfr, q_ln_sfr, q_fi_sai, q_fl_sai, q_fr_sai, q_ai_sai, q_al_sai, q_ar_sai, q_ln_sai, q_fi_sal, q_fl_sal, q_fr_sal, q_ai_sal, q_al_sal, q_ar_sal, q_ln_sal, q_fi_sar, q_fl_sar, q_fr_sar, q_ai_sar, q_al_sar, q_ar_sar, q_ln_sar, reduceIte, Nat.reduceEqDiff, h, Option.bind_some, Int32.le_refl, if_true]
theorem st6_lo {b q : Nat} {s : Hs} {H1 H2 : Gs} (hq : q < b) : (st6 b s H1 H2).2.1 q = s.2.1 q := (e6_out _ _ (by omega)).trans (e5_out _ _ (by omega))
theorem both_rules (hP : P.ok) (hP1 : P.1 = RO) (hk : P.bk) (hI : Inv P x σ) (n fm : Int32) : ∃ v σ1 σ2, fX11_rules_0 σ x n fm = some (v, σ1) ∧ fX12_rules_0 σ1 (x + 20) n fm = some (v, σ2) ∧ Inv P x σ2 := by
  obtain ⟨own, R, hE, hX, hW, h6⟩ := hI
  obtain ⟨G, T, eC, eV, eN, eT, eS, h⟩ := hX
  have hA := h.2.2.1.at
  have hT4 := hW.2.2.2.2.2.2.1.2
  have hPR := h.2.2.2.2.2.2.2.2.1
  have c1 : isC σ (x + 10) 1 = some () := xJ_C hPR.1
  have c2 : fJx4a65c_size_8abf5_0 σ (x + 10) = some (Int32.ofNat (nT R)) := xJ_size hPR.1
  obtain ⟨y, y1, y2⟩ := x_rules hA h.2.2.1.2.2.1 hPR.1 hT4 n fm
  simp only [z11_g11 hA, c1, c2, Option.bind_some] at y2
  have hA2 : ∀ v, A11 x (sfi G 0 v) (e11 x σ (sfi G 0 v)) := fun v => A11_self _ _
  rw [y1]
  unfold fX11_rules_25
  simp only [z11_g11 hA, c1, c2, y2, z11_p0 hA, z11_g0 (hA2 _), Option.bind_some]
  by_cases hst : st_rules R n fm = 0
  rotate_left
  · -- refused
    have e0 : ¬ fi (sfi G 0 (st_rules R n fm)) 0 = 0 := hst
    rw [if_neg e0]
    have hE1 : eR (x + 20) (e11 x σ (sfi G 0 (st_rules R n fm))) R = e11 x σ (sfi G 0 (st_rules R n fm)) := eR_in hE (fun a h1 h2 => e11_out _ _ (by omega))
    have hr := r_rulesN (m := x + 20) (ρ := e11 x σ (sfi G 0 (st_rules R n fm))) hW hst
    rw [hE1] at hr
    exact ⟨_, _, _, rfl, hr, inv_mk hP ⟨_, _, _, _, _, _, _, h.st hP hW _⟩ hW (((Fr.refl _ R).sfi (k := 1) (by decide) _).sfi (k := 0) (by decide) _ |>.sfi (k := 0) (by decide) _) rfl h6⟩
  obtain ⟨tp, tp1, tp2⟩ := hW.2.2.2.2.2.2.2.2.1
  have hk1 : 0 ≤ n.toInt ∧ n.toInt ≤ (fi R 17).toInt := by
    unfold st_rules at hst
    by_cases c : 0 ≤ n.toInt ∧ n.toInt ≤ (fi R 17).toInt
    · exact c
    · rw [if_pos c] at hst; exact absurd hst (by decide)
  have hk3 : nT R < 4 := by
    unfold st_rules at hst
    rw [if_neg (fun q => q hk1)] at hst
    by_cases c : 0 ≤ fm.toInt ∧ fm.toInt ≤ 9999
    · rw [if_neg (fun q => q c)] at hst
      by_cases d : nT R < 4
      · exact d
      · rw [if_neg d] at hst; exact absurd hst (by decide)
    · rw [if_pos c] at hst; exact absurd hst (by decide)
  obtain ⟨n', hn', hn500⟩ : ∃ n' : Nat, n = Int32.ofNat n' ∧ n' ≤ 500 := by
    refine ⟨n.toNatClampNeg, (of_cl hk1.1).1, ?_⟩
    have : n.toNatClampNeg = n.toInt.toNat := rfl
    rw [tp2, n32 (by omega)] at hk1
    omega
  subst hn'
  rw [if_pos (show fi (sfi G 0 (st_rules R (Int32.ofNat n') fm)) 0 = 0 from hst), hst]
  have hs := h.st hP hW 0
  have hC01 : Chg x own [1] σ (e11 x σ (sfi G 0 0)) := e11_chg σ _ (by decide)
  have hA1 := hA2 0
  generalize hs1 : e11 x σ (sfi G 0 0) = s1 at *
  generalize hG1 : sfi G 0 0 = G1 at *
  have e1 : s1.1 = σ.1 := by rw [← hs1]; rfl
  let R2 : Gs := sfi (sfi R 1 0) 0 0
  have htx : ∀ j, j < n' → ai G1 2 j = ai R2 16 j := fun j hj => hs.2.2.1.2.2.2.2.2.2.2.2.2 j (by have := hk1.2; rw [n32 (by omega)] at this; omega)
  obtain ⟨s0, s', s3, K, a1, a2, a3, b1, b2, a4, ⟨l1, l2, l3⟩, hK, hall⟩ := c_text (R := R2) hA1 hs.2.2.1.2.2.2.2.2.2.2.1.2.1 hs.2.1 hs.1 hn500 htx fm
  have hx1 := hs.1
  have hcl : ∀ {X : Option Hs}, fX6_readDefs_0 s3 (s1.1 + 6) = X → ∀ (K2 : Nat → Hs → Option (Int32 × Hs)), ((gN (nwO 7 tyX5 s1) x 13 2).bind fun vq8 => (fX5_init_0 (nwO 7 tyX5 s1) s1.1 vq8 (Int32.ofNat n') ((nwO 7 tyX5 s1).2.2 10) ((nwO 7 tyX5 s1).2.2 11)).bind fun sq9 => (isC sq9 s1.1 7).bind fun iq10 => (fX5_cut_0 sq9 s1.1).bind fun sq11 => (fX6_init_0 (nwO 8 tyX6 sq11) sq11.1 s1.1 fm).bind fun sq13 => (isC sq13 sq11.1 8).bind fun iq14 => (fX6_readDefs_0 sq13 sq11.1).bind (K2 sq11.1)) = X.bind (K2 (s1.1 + 6)) := by
    intro X hX K2
    have g2 : gN (nwO 7 tyX5 s1) x 13 2 = some (x + 2) := by
      have := z11_g2 hA1
      unfold gN gV at *
      rw [show (nwO 7 tyX5 s1).2.1 x = s1.2.1 x from nw_n _ _ (by omega)]; exact this
    rw [g2, Option.bind_some, show (nwO 7 tyX5 s1).2.2 = s1.2.2 from rfl, a1, Option.bind_some, a2, Option.bind_some, a3, Option.bind_some, b1, Option.bind_some, b2, Option.bind_some, a4, hX]
  have hlow : ∀ (H1 H2 : Gs) (q : Nat), q < s1.1 → (st6 s1.1 s3 H1 H2).2.1 q = s1.2.1 q := fun H1 H2 q hq => (st6_lo hq).trans (l3 q hq)
  have hA4 : ∀ H1 H2, A11 x G1 (st6 s1.1 s3 H1 H2) := fun H1 H2 => A11_fr hA1 (fun a ha => hlow H1 H2 a (by omega))
  have hE0 : eR (x + 20) s1 R = s1 := eR_in hE (fun a q1 q2 => by rw [← hs1]; exact e11_out _ _ (by omega))
  have h6' : ∀ {Ra Rb : Gs}, Fr TL (opR R2 n') Ra → Fr DLk Ra Rb → fi Rb 6 = fi R 6 := fun q1 q2 => (q2.i 6 (by decide)).trans (q1.i 6 (by decide))
  have FO : Fr (17 :: 19 :: 20 :: SCR) R (opR R2 n') := ((((((((((Fr.refl _ R).sfi (k := 1) (by decide) _).sfi (k := 0) (by decide) _).sfi (k := 18) (by decide) _).sfi (k := 23) (by decide) _).sfi (k := 17) (by decide) _).sfi (k := 26) (by decide) _).sfi (k := 21) (by decide) _).sfi (k := 31) (by decide) _).sfi (k := 32) (by decide) _).sai (k := 37) (by decide) _
  have FU : ∀ {Ra Rb : Gs}, Fr TL (opR R2 n') Ra → Fr DLk Ra Rb → Fr (17 :: 19 :: 20 :: SCR) R Rb ∧ fi Rb 17 = 0 := fun q1 q2 => ⟨FO.trans ((q1.mono (by decide)).trans (q2.mono (by decide))), (q2.i 17 (by decide)).trans (q1.i 17 (by decide))⟩
  obtain ⟨Ra, fa1, fa2, hTa⟩ := hall (x + 20) σ
  rcases hTa with ⟨Ga, Ha, Ra', Da, nta, csa, cea, rsa, fsa, aa, mka, rma, xa, -, da, ha1, -⟩ | ⟨Ga, Ha, Ra', aa, kd, xa, -, da, -, -⟩
  rotate_left
  · -- a fault
    have hkd := da.2.2.2.2.1
    have z9 : fi Ga 9 = Int32.ofNat kd := da.2.2.2.1
    have z10 : fi Ga 10 = Int32.ofNat (pA (txR R2) n' aa) := da.2.2.2.2.2.1
    have hce := c_end (x := x) (hA4 Ga Ha) hx1 (st_A5 (b := s1.1) (σ0 := s3) (G := Ga) (H := Ha))
    rw [if_neg (show ¬ fi Ga 9 = 0 by rw [z9]; exact (bdn hkd).2)] at hce
    obtain ⟨σ1, hσ1⟩ : ∃ σ1, σ1 = e11 x (st6 s1.1 s3 Ga Ha) (edG G1 (fi Ga 9) (fi Ga 10) 10) := ⟨_, rfl⟩
    rw [← hσ1] at hce
    have hE1 : eR (x + 20) σ1 R = σ1 := eR_in hE0 (fun a q1 q2 => by rw [hσ1]; exact (e11_out _ _ (by omega)).trans (hlow _ _ a (by omega)))
    obtain ⟨Rb, fb1, fb2, hTb⟩ := hall (x + 20) σ1
    have hry := r_rulesY (m := x + 20) (ρ := σ1) hW hn500 hst fb1
    rw [hE1] at hry
    have hg0 : gI σ1 x 13 0 = some 10 := by rw [hσ1, y11_g0]; rfl
    rcases hTb with ⟨Gb, Hb, Rb', Db, ntb, csb, ceb, rsb, fsb, ab, mkb, rmb, xb, -, db, hb1, -⟩ | ⟨Gb, Hb, Rb', ab, kb, xb, yb, db, ⟨kb1, kb2⟩, fb⟩
    · exfalso
      have q := Option.some.inj (xa.symm.trans xb)
      have e9 : some (fi Ga 9) = some (fi Gb 9) := by
        rw [← z5_g9 (st_A5 (b := s1.1) (σ0 := s3) (G := Ga) (H := Ha)), ← z5_g9 (st_A5 (b := s1.1) (σ0 := s3) (G := Gb) (H := Hb)), q]
      have e9' := Option.some.inj e9
      rw [z9, db.1.1.2.2.2.1] at e9'
      exact (bdn hkd).2 e9'
    · have q := Option.some.inj (xa.symm.trans xb)
      have e9 : some (fi Ga 9) = some (fi Gb 9) := by
        rw [← z5_g9 (st_A5 (b := s1.1) (σ0 := s3) (G := Ga) (H := Ha)), ← z5_g9 (st_A5 (b := s1.1) (σ0 := s3) (G := Gb) (H := Hb)), q]
      have e10 : some (fi Ga 10) = some (fi Gb 10) := by
        rw [← z5_g10 (st_A5 (b := s1.1) (σ0 := s3) (G := Ga) (H := Ha)), ← z5_g10 (st_A5 (b := s1.1) (σ0 := s3) (G := Gb) (H := Hb)), q]
      have z9b : fi Gb 9 = Int32.ofNat kb := db.2.2.2.1
      have z10b : fi Gb 10 = Int32.ofNat (pA (txR R2) n' ab) := db.2.2.2.2.2.1
      have e9' : Int32.ofNat kb = fi Ga 9 := by rw [Option.some.inj e9, z9b]
      have e10' : fi Rb' 22 = fi Ga 10 := by rw [Option.some.inj e10, z10b, kb2]
      have hr := r_117N (m := x + 20) (ρ := σ1) kb1 db.2.2.2.2.1 fm
      obtain ⟨FU1, u17⟩ := FU fb2 fb
      have FU2 : Fr (17 :: 19 :: 20 :: SCR) R (sfi (sfi (sfi Rb' 19 (Int32.ofNat kb)) 20 (fi Rb' 22)) 0 10) := ((FU1.sfi (k := 19) (by decide) _).sfi (k := 20) (by decide) _).sfi (k := 0) (by decide) _
      have hCh : Chg x own [1] s1 (st6 s1.1 s3 Ga Ha) := ⟨by show s1.1 ≤ s3.1; omega, l2, fun a q1 _ => hlow Ga Ha a q1⟩
      have hXW := k_badText hP hk hs hW hCh (hA4 Ga Ha) (fi Ga 9) (fi Ga 10) 10 FU2 u17 e9' e10'
      rw [← hσ1] at hXW
      have hRTx : RTx (sfi (sfi (sfi Rb' 19 (Int32.ofNat kb)) 20 (fi Rb' 22)) 0 10) := by
        have w7 := hW.2.2.2.2.2.2.1
        unfold RTx nT at *
        rw [FU2.i 30 (by decide), FU2.ai 34 (by decide), FU2.ai 35 (by decide), FU2.ai 36 (by decide)]
        exact w7
      refine ⟨-1, σ1, _, (hcl xa (fun ad sq15 => (isC sq15 x 13).bind fun iq16 => (fX11_endReading_0 sq15 x s1.1).bind fun sq17 => (gI sq17 x 13 0).bind fun vq18 => if vq18 = 0 then ((gN sq17 x 13 11).bind fun vq19 => (isC sq17 vq19 1).bind fun iq20 => (fJx4a65c_add_9ea2d_0 sq17 vq19 ad).bind fun vq21 => (pZ vq21.2 x 13 18 1).bind fun sq22 => (gI sq22 ad 8 5).bind fun vq23 => some (vq23, sq22)) else (some ((-1), sq17)))).trans ?_, hry.trans (yb.trans hr), inv_mk hP hXW (RW_text hW FU2 (by decide) u17 hRTx) (Fr.refl _ _) rfl ?_⟩
      · show ((isC (st6 s1.1 s3 Ga Ha) x 13).bind fun _ => (fX11_endReading_0 (st6 s1.1 s3 Ga Ha) x s1.1).bind _) = _
        rw [z11_C (hA4 Ga Ha), Option.bind_some, hce, Option.bind_some, hg0, Option.bind_some, if_neg (by decide)]
      · obtain ⟨k6, k61, k62⟩ := h6
        exact ⟨k6, k61, (h6' fb2 fb).trans k62⟩
  have z9 : fi Ga 9 = 0 := da.1.1.2.2.2.1
  have z10 : fi Ga 10 = -1 := da.1.1.2.2.2.2.1
  have hce := c_end (x := x) (hA4 Ga Ha) hx1 (st_A5 (b := s1.1) (σ0 := s3) (G := Ga) (H := Ha))
  rw [if_pos z9, z9, z10] at hce
  have hsN : s1.1 + 15 = (st6 s1.1 s3 Ga Ha).1 ∧ (st6 s1.1 s3 Ga Ha).2.2 = s1.2.2 ∧ ∀ q, q < s1.1 → (st6 s1.1 s3 Ga Ha).2.1 q = s1.2.1 q := ⟨l1.symm, l2, fun q hq => hlow Ga Ha q hq⟩
  obtain ⟨s5, own5, n1, n2, n3, n4, n5, n6⟩ := k_newText hP hP1 hs hW hk3 hsN (hA4 Ga Ha) (H := Ha) st_A6
  obtain ⟨σ1, hσ1⟩ : ∃ σ1, σ1 = e11 x s5 (sfi (edG G1 0 (-1) 0) 18 1) := ⟨_, rfl⟩
  rw [← hσ1] at n4 n5 n6
  have hE1 : eR (x + 20) σ1 R = σ1 := eR_in hE0 (fun a q1 q2 => n5.2 a q1 (by omega))
  obtain ⟨Rb, fb1, fb2, hTb⟩ := hall (x + 20) σ1
  have hry := r_rulesY (m := x + 20) (ρ := σ1) hW hn500 hst fb1
  rw [hE1] at hry
  rcases hTb with ⟨Gb, Hb, Rb', Db, ntb, csb, ceb, rsb, fsb, ab, mkb, rmb, xb, yb, db, hb1, fb⟩ | ⟨Gb, Hb, Rb', ab, kb, xb, yb, db, ⟨kb1, kb2⟩, fb⟩
  rotate_left
  · exfalso
    have q := Option.some.inj (xa.symm.trans xb)
    have e9 : some (fi Ga 9) = some (fi Gb 9) := by
      rw [← z5_g9 (st_A5 (b := s1.1) (σ0 := s3) (G := Ga) (H := Ha)), ← z5_g9 (st_A5 (b := s1.1) (σ0 := s3) (G := Gb) (H := Hb)), q]
    have e9' := Option.some.inj e9
    rw [z9, db.2.2.2.1] at e9'
    exact (bdn db.2.2.2.2.1).2 e9'.symm
  have q := Option.some.inj (xa.symm.trans xb)
  have hb6 : A6 (s1.1 + 6) Hb (st6 s1.1 s3 Ga Ha) := by rw [q]; exact st_A6
  obtain ⟨s5', own5', n1', n2', n3', n4', n5', n6'⟩ := k_newText hP hP1 hs hW hk3 hsN (hA4 Ga Ha) hb6
  have es5 : s5' = s5 := by
    have := n1'.symm.trans n1
    exact congrArg Prod.snd (Option.some.inj this)
  subst es5
  rw [← hσ1] at n4' n5' n6'
  have hRY := r_117Y (m := x + 20) (ρ := σ1) db.1.2.2.1.1.2.2 fm
  have hbK := db.1.K500
  obtain ⟨FU1, u17⟩ := FU fb2 fb
  have h30 : fi (sfi (sfi Rb' 19 0) 20 (-1)) 30 = Int32.ofNat (nT R) := (FU1.i 30 (by decide)).trans hW.2.2.2.2.2.2.1.1.1
  obtain ⟨Rf, cp1, cp2⟩ := r_copy (m := x + 20) (ρ := σ1) (R := sfi (sfi Rb' 19 0) 20 (-1)) (rm := rmb) (D := Db) (T := nT R) db.1.2.2.1.2.1 db.1.2.2.1.2.2.1 h30 (by have := db.1.2.2.2.2; omega) db.1.2.1.2.2.2.2.2.1 hk3 fm
  have hDf : DfO s1.1 (txR R2) n' K Db ntb csb ceb rsb fsb Gb Hb (sfi (sfi Rb' 19 0) 20 (-1)) ab mkb rmb := db
  have hHL : HL Hb := by
    refine ⟨⟨⟨(hb1.ln 8 (by decide)), (hb1.ln 12 (by decide)), (hb1.ln 13 (by decide))⟩, fun d hd => ?_⟩, (hb1.ln 9 (by decide)), (hb1.ln 10 (by decide))⟩
    rw [hb1.ai 13 (by decide)]; exact Or.inl rfl
  have FU2 : Fr (17 :: 19 :: 20 :: SCR) R (sfi (sfi Rb' 19 0) 20 (-1)) := (FU1.sfi (k := 19) (by decide) _).sfi (k := 20) (by decide) _
  have FU3 : Fr (17 :: 19 :: 20 :: 30 :: 33 :: 34 :: 35 :: 36 :: 39 :: SCR) R Rf := (FU2.mono (by decide)).trans (cp2.1.mono (by decide))
  have v17 : fi Rf 17 = 0 := (cp2.1.i 17 (by decide)).trans u17
  have hold : ∀ t H', t < nT R → RO H' R t → RO H' Rf t := fun t H' ht hr => RO_keep cp2 ht (RO_fr FU2 (by decide) hr)
  have hXW := n6' Rf FU3 v17 (cp2.1.i 19 (by decide)) (cp2.1.i 20 (by decide)) cp2.2.1 (by rw [cp2.2.2.1, up_same]; exact (hb1.i 1 (by decide)).symm) (fun t ht => by rw [cp2.2.2.1, up_ne _ _ _ _ (by omega), FU2.ai 33 (by decide)]) hold (RO_new hDf cp2 hHL)
  have hRTx : RTx Rf := by
    have w7 := hW.2.2.2.2.2.2.1
    have e : nT Rf = nT R + 1 := by
      show (fi Rf 30).toNatClampNeg = _
      rw [cp2.2.1]; exact c32 (by omega)
    refine ⟨⟨by rw [e]; exact cp2.2.1, ?_⟩, by omega⟩
    rw [e]
    refine TxA_new hDf cp2 ?_
    rw [FU2.ai 34 (by decide), FU2.ai 35 (by decide), FU2.ai 36 (by decide)]
    exact w7.1.2
  have hD5 : gI σ1 (s1.1 + 6) 8 5 = some (Int32.ofNat Db) := by rw [z6_g5 n4']; exact congrArg some db.1.2.1.2.2.2.2.1
  refine ⟨Int32.ofNat Db, σ1, _, (hcl xa (fun ad sq15 => (isC sq15 x 13).bind fun iq16 => (fX11_endReading_0 sq15 x s1.1).bind fun sq17 => (gI sq17 x 13 0).bind fun vq18 => if vq18 = 0 then ((gN sq17 x 13 11).bind fun vq19 => (isC sq17 vq19 1).bind fun iq20 => (fJx4a65c_add_9ea2d_0 sq17 vq19 ad).bind fun vq21 => (pZ vq21.2 x 13 18 1).bind fun sq22 => (gI sq22 ad 8 5).bind fun vq23 => some (vq23, sq22)) else (some ((-1), sq17)))).trans ?_, hry.trans (yb.trans (hRY.trans cp1)), inv_mk hP hXW (RW_text hW FU3 (by decide) v17 hRTx) (Fr.refl _ _) ?_ ?_⟩
  · show ((isC (st6 s1.1 s3 Ga Ha) x 13).bind fun _ => (fX11_endReading_0 (st6 s1.1 s3 Ga Ha) x s1.1).bind _) = _
    rw [z11_C (hA4 Ga Ha), Option.bind_some, hce, Option.bind_some, y11_g0, Option.bind_some, if_pos (show fi (edG G1 0 (-1) 0) 0 = 0 from rfl), y11_g11, Option.bind_some, n2, Option.bind_some, n1, Option.bind_some]
    show ((pZ s5' x 13 18 1).bind fun sq22 => (gI sq22 (s1.1 + 6) 8 5).bind fun vq23 => some (vq23, sq22)) = _
    rw [z11_p18 n3, if_pos (Or.inr rfl), Option.bind_some, ← hσ1, hD5, Option.bind_some]
  · rw [cp2.1.i 0 (by decide)]
    show fi Rb' 0 = 0
    rw [fb.i 0 (by decide), fb2.i 0 (by decide)]; rfl
  · obtain ⟨k6, k61, k62⟩ := h6
    exact ⟨k6, k61, by rw [cp2.1.i 6 (by decide)]; exact (h6' fb2 fb).trans k62⟩
end
