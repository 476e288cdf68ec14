section
variable {P : Par} {x : Nat} {own : Nat → Nat} {σ : Hs} {R : Gs} {st : Int32}
def KX : List Nat := [2, 3, 4, 5, 7, 8, 11, 12, 13, 14, 15, 30, 33, 34, 35, 36, 39, 47, 48, 50, 51, 52, 53, 54, 55, 56, 58, 59, 61, 68, 69, 70, 71, 72, 73, 74, 79, 80, 81, 84, 85, 86, 87, 88, 89, 90]
theorem KX_sub {L : List Nat} (hL : ∀ k, k ∈ KX → k ∉ L) {M : List Nat} (hM : ∀ k, k ∈ M → k ∈ KX) : ∀ k, k ∈ M → k ∉ L := fun k hk => hL k (hM k hk)
theorem xw_px (hP : P.ok) {σ' : Hs} {R' : Gs} {st' : Int32} {G G' T : Gs} {eC eV eN eT eS : Nat → Nat} (h : XWg P x own σ R st G T eC eV eN eT eS) (hW : RW R) (hC : Chg x own [1] σ σ') {L : List Nat} (hR : Fr L R R') (hL : ∀ k, k ∈ KX → k ∉ L) (hb : P.2.2 R' = P.2.2 R) (hX : PX x σ' R' G' st') (hG : (ar G' 1 = ar G 1 ∧ ar G' 17 = ar G 17 ∧ fr G' 13 = fr G 13 ∧ fr G' 15 = fr G 15) ∧ (fi G' 18 = 0 → fi G 18 = 0)) : XWg P x own σ' R' st' G' T eC eV eN eT eS := by
  obtain ⟨h0, h1, h2, h3, h4, h5, h6, h7, h8, h9, h10, h11, h12, h13⟩ := h
  obtain ⟨w1, w2, w3, w4, w5, w6, w7, w8, w9⟩ := hW
  have hE : Ext own own σ.1 := fun _ _ => rfl
  obtain ⟨⟨g1, g2, g3, g4⟩, g5⟩ := hG
  have hn : ∀ {k : Nat}, k ≠ 1 → k ∉ [1] := fun hk q => hk (List.mem_singleton.mp q)
  have q : nL R' = nL R ∧ nC R' = nC R ∧ nS R' = nS R ∧ nT R' = nT R ∧ nV R' = nV R ∧ nN R' = nN R ∧ nX R' = nX R := by
    unfold nL nC nS nT nV nN nX
    rw [hR.i 5 (hL _ (by decide)), hR.i 11 (hL _ (by decide)), hR.i 12 (hL _ (by decide)), hR.i 30 (hL _ (by decide)), hR.i 47 (hL _ (by decide)), hR.i 48 (hL _ (by decide)), hR.i 56 (hL _ (by decide))]
    exact ⟨rfl, rfl, rfl, rfl, rfl, rfl, rfl⟩
  obtain ⟨q1, q2, q3, q4, q5, q6, q7⟩ := q
  unfold XWg
  rw [q1, q2, q3, q4, q5, q6, q7, g1, g2, g3, g4, hb]
  exact ⟨Nat.le_trans h0 hC.1, h1.fr h0 hC (by decide), hX, h3.fr hE hC (fun t ht => hn (by omega)) hR (KX_sub hL (by decide)), h4.fr h0 hC (by decide) hR (KX_sub hL (by decide)), h5.fr w4.2.1 h0 hE hC ⟨by decide, by decide, fun t ht => hn (by omega)⟩ hR (KX_sub hL (by decide)) g5, h6.fr h0 hE hC (by decide) hR (hL _ (by decide)), h7.fr w2.2.1 h0 hE hC ⟨by decide, by decide, fun t ht => hn (by omega)⟩ hR (KX_sub hL (by decide)) g5, h8.fr w7.2 h0 hE hC ⟨by decide, by decide, fun t ht => hn (by omega)⟩ hR (hL _ (by decide)) (hP.1 _ _ _ hR (KX_sub hL (by decide))), h9.fr w8.2.1 h0 hE hC ⟨by decide, by decide, fun t ht => hn (by omega)⟩ hR (KX_sub hL (by decide)), h10.fr hE hC (by decide) hR (hL _ (by decide)) (hP.2.1 _ _ _ hR (KX_sub hL (by decide))), h11.fr h0 hC (by decide) hR (KX_sub hL (by decide)), h12.fr hE hC (by decide) hR (KX_sub hL (by decide)), h13.fr hE hC (fun t ht => hn (by omega)) hR (KX_sub hL (by decide))⟩
theorem k_span (hP : P.ok) (hW : RW R) (h : XW P x own σ R st) (w : Int32) : KI P x σ (rf (st_span R w) (if w = 0 then fi R 88 else fi R 89)) (st_span R w) R (fX11_span_0 σ x w) := by
  obtain ⟨G, T, eC, eV, eN, eT, eS, h⟩ := h
  have hA := h.2.2.1.at
  generalize han : (if w = 0 then fi R 88 else fi R 89) = an
  have h34 : ∀ v, (v ≠ 0 ∨ (v = 0 ∧ fi R 87 ≠ 0)) → KI P x σ (rf v an) v R (fX11_span_34 (e11 x σ (sfi G 0 v)) x w) := by
    intro v hv
    have hs := h.st hP hW v
    have hA2 : A11 x (sfi G 0 v) (e11 x σ (sfi G 0 v)) := A11_self _ _
    have hU := hs.2.2.2.2.2.2.2.2.2.2.2.2.1
    unfold fX11_span_34
    simp only [z11_g0 hA2, z11_g15 hA2, Option.bind_some, q_fi_sfi, q_fl_sfi, q_fr_sfi, q_ai_sfi, q_al_sfi, q_ar_sfi, q_ln_sfi, q_fi_sfl, q_fl_sfl, q_fr_sfl, q_ai_sfl, q_al_sfl, q_ar_sfl, q_ln_sfl, q_fi_sfr, q_fl_sfr, q_fr_sfr, q_ai_sfr, q_al_sfr, q_ar_sfr, q_ln_sfr, q_fi_sai, q_fl_sai, q_fr_sai, q_ai_sai, q_al_sai, q_ar_sai, q_ln_sai, q_fi_sal, q_fl_sal, q_fr_sal, q_ai_sal, q_al_sal, q_ar_sal, q_ln_sal, q_fi_sar, q_fl_sar, q_fr_sar, q_ai_sar, q_al_sar, q_ar_sar, q_ln_sar, reduceIte, Nat.reduceEqDiff]
    rcases hv with hv | ⟨hv, hv2⟩
    · rw [if_neg hv, show rf v _ = -1 from if_neg hv]; exact KI.no hP h hW _ _
    · rw [if_pos hv, show rf v _ = _ from if_pos hv]
      rcases hU with ⟨q1, q2⟩ | ⟨a, A, n, q1, q2, q3, q4, q5, q6, q7, q8, q9, q10⟩
      · exact absurd q2 hv2
      · rw [show fr G 15 = some a from q1, if_neg (by simp)]
        simp only [Option.bind_some, z0_g4 q2, z0_g5 q2, q8, q9, Int32.toInt32_toInt64]
        rw [← han]
        by_cases w0 : w = 0
        · rw [if_pos w0, if_pos w0]; exact KI.no hP h hW _ _
        · rw [if_neg w0, if_neg w0]; exact KI.no hP h hW _ _
  have hU := h.2.2.2.2.2.2.2.2.2.2.2.2.1
  unfold fX11_span_0
  simp only [x_isWithin, Option.bind_some, b2i_0, i0, i1, z11_p0 hA, z11_g15 hA]
  by_cases k1 : 0 ≤ w.toInt ∧ w.toInt ≤ 1
  · rw [if_neg (fun q => q k1)]
    rcases hU with ⟨q1, q2⟩ | ⟨a, A, n, q1, q2, q3, q4, q5, _⟩
    · rw [if_pos q1, show st_span R w = 8 by unfold st_span; rw [if_neg (fun q => q k1), if_pos q2]]
      exact h34 8 (Or.inl (by decide))
    · have hne : fi R 87 ≠ 0 := by rw [q4]; intro e; rw [eq32, n32 (by omega), i0] at e; omega
      rw [q1, if_neg (by simp), show st_span R w = 0 by unfold st_span; rw [if_neg (fun q => q k1), if_neg hne]]
      exact h34 0 (Or.inr ⟨rfl, hne⟩)
  · rw [if_pos k1, show st_span R w = 5 by unfold st_span; rw [if_pos k1]]
    exact h34 5 (Or.inl (by decide))
theorem both_span (hP : P.ok) (hI : Inv P x σ) (w : Int32) : ∃ v σ1 σ2, fX11_span_0 σ x w = some (v, σ1) ∧ fX12_span_0 σ1 (x + 20) w = some (v, σ2) ∧ Inv P x σ2 := by
  obtain ⟨own, R, hE, hX, hW, h6⟩ := hI
  obtain ⟨σ1, σ2, h1, h2, h3⟩ := arm_I (Y := fun s => fX12_span_0 s (x + 20) w) hP h6 hE (by rw [ite_self_R]; exact k_span hP hW hX w) (fun ρ => r_span (x + 20) ρ R w) (by rw [ite_self_R]; exact hW)
  exact ⟨_, σ1, σ2, h1, h2, h3⟩
def st_kept (R : Gs) (k : Int32) : Int32 := if 0 ≤ (fi R 68).toInt ∧ (0 ≤ k.toInt ∧ k.toInt < 40) ∧ k.toInt < (fi R 71).toInt then 0 else 8
theorem k_kept (hP : P.ok) (hW : RW R) (h : XW P x own σ R st) (k : Int32) : KL P x σ (rfL (st_kept R k) (al R 79 k.toNatClampNeg)) (st_kept R k) R (fX11_kept_0 σ x k) := by
  obtain ⟨G, T, eC, eV, eN, eT, eS, h⟩ := h
  have hA := h.2.2.1.at
  obtain ⟨U, u1, u2, u3, u4, u5⟩ := h.2.2.2.2.2.2.2.2.2.2.2.1
  have hk : fX7_hasKept_0 σ (x + 12) k = some (b2i (st_kept R k = 0)) := by
    unfold fX7_hasKept_0
    simp only [z7_g7 u1, Option.bind_some, lt32, le32, i0, i40, bb_0, bb_1]
    by_cases p : 0 ≤ (fi R 68).toInt
    · rw [(u5 p).1]
      unfold st_kept b2i
      (repeat' split) <;> first | rfl | omega | (exfalso; rename_i q; exact absurd q (by decide)) | (exfalso; rename_i q; exact q rfl)
    · rw [u4 (by omega), i0]
      unfold st_kept b2i
      (repeat' split) <;> first | rfl | omega | (exfalso; rename_i q; exact absurd q (by decide)) | (exfalso; rename_i q; exact q rfl)
  unfold fX11_kept_0
  have hU2 : ∀ v, A7 (x + 12) U (e11 x σ (sfi G 0 v)) := fun v => A7_fr u1 (fun a ha => e11_out _ _ (by omega))
  have hA2 : ∀ v, A11 x (sfi G 0 v) (e11 x σ (sfi G 0 v)) := fun v => A11_self _ _
  simp only [z11_g14 hA, z7_C u1, Option.bind_some, hk, b2i_0, z11_p0 hA, z11_g0 (hA2 _), z11_g14 (hA2 _), z7_g8 (hU2 _), z7_l8 (hU2 _), q_fi_sfi, q_fl_sfi, q_fr_sfi, q_ai_sfi, q_al_sfi, q_ar_sfi, q_ln_sfi, q_fi_sfl, q_fl_sfl, q_fr_sfl, q_ai_sfl, q_al_sfl, q_ar_sfl, q_ln_sfl, q_fi_sfr, q_fl_sfr, q_fr_sfr, q_ai_sfr, q_al_sfr, q_ar_sfr, q_ln_sfr, q_fi_sai, q_fl_sai, q_fr_sai, q_ai_sai, q_al_sai, q_ar_sai, q_ln_sai, q_fi_sal, q_fl_sal, q_fr_sal, q_ai_sal, q_al_sal, q_ar_sal, q_ln_sal, q_fi_sar, q_fl_sar, q_fr_sar, q_ai_sar, q_al_sar, q_ar_sar, q_ln_sar, reduceIte, Nat.reduceEqDiff, u2.1, reduceIte]
  by_cases p : st_kept R k = 0
  · rw [if_neg (fun q => q p), p, show rfL 0 _ = al R 79 k.toNatClampNeg from if_pos rfl]
    have hc : 0 ≤ (fi R 68).toInt ∧ (0 ≤ k.toInt ∧ k.toInt < 40) ∧ k.toInt < (fi R 71).toInt := by
      unfold st_kept at p; split at p
      · assumption
      · exact absurd p (by decide)
    obtain ⟨n, rfl, hn1, hn2⟩ := get32 k hc.2.1.1
    simp only [ix_n hn1, decide_eq_true (show n < 40 by omega), if_true, c32 hn1, Option.bind_some]
    rw [(u5 hc.1).2.2 n (by omega) (by omega)]
    exact KL.no hP h hW _ _
  · have e : st_kept R k = 8 := by
      unfold st_kept at p ⊢; split at p
      · exact absurd rfl p
      · rename_i q; rw [if_neg q]
    rw [if_pos p, e, show rfL 8 _ = -1 from if_neg (by decide), if_neg (by decide)]
    exact KL.no hP h hW _ _
theorem r_kept (m : Nat) (ρ : Hs) (R : Gs) (h71 : 0 ≤ (fi R 68).toInt → 0 ≤ (fi R 71).toInt) (k : Int32) : QL m ρ R (st_kept R k) (al R 79 k.toNatClampNeg) R (fX12_kept_0 (eR m ρ R) m k) := by
  have emin : ∀ s : Hs, ∃ v, fJ9_min_7cf53_0 s 40 (fi R 71) = some v ∧ v.toInt = min 40 (fi R 71).toInt := by
    intro s; unfold fJ9_min_7cf53_0
    by_cases q : fi R 71 < 40
    · rw [if_pos q]; rw [lt32, i40] at q; exact ⟨_, rfl, by omega⟩
    · rw [if_neg q]; rw [lt32, i40] at q; exact ⟨_, rfl, by rw [i40]; omega⟩
  obtain ⟨v, v1, v2⟩ := emin (eR m ρ (sfi (sfi R 1 0) 0 0))
  unfold fX12_kept_0
  simp only [RP_1, RP_0, RG_68, RG_71, q_fi_sfi, q_fl_sfi, q_fr_sfi, q_ai_sfi, q_al_sfi, q_ar_sfi, q_ln_sfi, q_fi_sfl, q_fl_sfl, q_fr_sfl, q_ai_sfl, q_al_sfl, q_ar_sfl, q_ln_sfl, q_fi_sfr, q_fl_sfr, q_fr_sfr, q_ai_sfr, q_al_sfr, q_ar_sfr, q_ln_sfr, q_fi_sai, q_fl_sai, q_fr_sai, q_ai_sai, q_al_sai, q_ar_sai, q_ln_sai, q_fi_sal, q_fl_sal, q_fr_sal, q_ai_sal, q_al_sal, q_ar_sal, q_ln_sal, q_fi_sar, q_fl_sar, q_fr_sar, q_ai_sar, q_al_sar, q_ar_sar, q_ln_sar, reduceIte, Nat.reduceEqDiff, RisC, r_refuse, Option.bind_some, lt32, i0, v1, r_isI, b2i_0, Int64.reduceToInt]
  rcases Decidable.em ((fi R 68).toInt < 0) with hc1 | hc1
  · rw [if_pos hc1]; exact QL.no (by decide) (by unfold st_kept; (repeat' split) <;> (first | rfl | omega)) rfl (fr1 R)
  rw [if_neg hc1]
  have hv := r32 (fi R 71)
  have h7 := h71 (by omega)
  have e1 : ((v - 1).toInt64).toInt = min 40 (fi R 71).toInt - 1 := by
    rw [up64, sub32, v2]; rfl
    rw [v2]; show _ ≤ _ - 1 ∧ _ - 1 < _; omega
  rw [e1]
  rcases Decidable.em (¬ (0 ≤ k.toInt ∧ k.toInt ≤ min 40 (fi R 71).toInt - 1)) with hc2 | hc2
  · rw [if_pos hc2]; exact QL.no (by decide) (by unfold st_kept; (repeat' split) <;> (first | rfl | omega)) rfl (fr1 R)
  rw [if_neg hc2]
  obtain ⟨n, rfl, hn1, hn2⟩ := get32 k (by omega)
  simp only [RisC, RG_0, RP_0, RG_1, RP_1, RN_2, Rld_2, Rst_2, RN_3, Rld_3, Rst_3, RN_4, Rld_4, Rst_4, RG_5, RP_5, RG_6, RP_6, RN_7, Rld_7, Rst_7, RN_8, Rld_8, Rst_8, RN_9, Rld_9, Rst_9, RN_10, Rld_10, Rst_10, RG_11, RP_11, RG_12, RP_12, RN_13, Rld_13, Rst_13, RN_14, Rld_14, Rst_14, RN_15, Rld_15, Rst_15, RN_16, Rld_16, Rst_16, RG_17, RP_17, RG_18, RP_18, RG_19, RP_19, RG_20, RP_20, RG_21, RP_21, RG_22, RP_22, RG_23, RP_23, RG_24, RP_24, RG_25, RP_25, RG_26, RP_26, RG_27, RP_27, RG_28, RP_28, RG_29, RP_29, RG_30, RP_30, RG_31, RP_31, RG_32, RP_32, RN_33, Rld_33, Rst_33, RN_34, Rld_34, Rst_34, RN_35, Rld_35, Rst_35, RN_36, Rld_36, Rst_36, RN_37, Rld_37, Rst_37, RN_38, Rld_38, Rst_38, RN_39, Rld_39, Rst_39, RN_40, Rld_40, Rst_40, RN_41, Rld_41, Rst_41, RN_42, Rld_42, Rst_42, RN_43, Rld_43, Rst_43, RN_44, Rld_44, Rst_44, RN_45, Rld_45, Rst_45, RG_46, RP_46, RG_47, RP_47, RG_48, RP_48, RG_49, RP_49, RN_50, Rld_50, Rst_50, RN_51, Rld_51, Rst_51, RN_52, Rld_52, Rst_52, RN_53, Rld_53, Rst_53, RN_54, Rld_54, Rst_54, RN_55, Rld_55, Rst_55, RG_56, RP_56, RG_57, RP_57, RN_58, Rld_58, Rst_58, RN_59, Rld_59, Rst_59, RN_60, Rld_60, Rst_60, RG_61, RP_61, RG_62, RP_62, RG_63, RP_63, RG_64, RP_64, RG_65, RP_65, RG_66, RP_66, RG_67, RP_67, RG_68, RP_68, RG_69, RP_69, RG_70, RP_70, RG_71, RP_71, RN_72, Rld_72, Rst_72, RN_73, Rld_73, Rst_73, RN_74, Rld_74, Rst_74, RN_75, Rld_75, Rst_75, RN_76, Rld_76, Rst_76, RN_77, Rld_77, Rst_77, RN_78, Rld_78, Rst_78, RN_79, Rld_79, Rst_79, RN_80, Rld_80, Rst_80, RN_81, Rld_81, Rst_81, RN_82, Rld_82, Rst_82, RN_83, Rld_83, Rst_83, RN_84, Rld_84, Rst_84, RN_85, Rld_85, Rst_85, RN_86, Rld_86, Rst_86, RG_87, RP_87, RG_88, RP_88, RG_89, RP_89, RG_90, RP_90, RG_91, RP_91, RG_92, RP_92, RG_93, RP_93, RN_94, Rld_94, Rst_94, RN_95, Rld_95, Rst_95, RG_96, RP_96, RN_97, Rld_97, Rst_97, RN_98, Rld_98, Rst_98, RN_99, Rld_99, Rst_99, RN_100, Rld_100, Rst_100, RG_101, RP_101, RN_102, Rld_102, Rst_102, RN_103, Rld_103, Rst_103, RN_104, Rld_104, Rst_104, RG_105, RP_105, q_fi_sfi, q_fl_sfi, q_fr_sfi, q_ai_sfi, q_al_sfi, q_ar_sfi, q_ln_sfi, q_fi_sfl, q_fl_sfl, q_fr_sfl, q_ai_sfl, q_al_sfl, q_ar_sfl, q_ln_sfl, q_fi_sfr, q_fl_sfr, q_fr_sfr, q_ai_sfr, q_al_sfr, q_ar_sfr, q_ln_sfr, q_fi_sai, q_fl_sai, q_fr_sai, q_ai_sai, q_al_sai, q_ar_sai, q_ln_sai, q_fi_sal, q_fl_sal, q_fr_sal, q_ai_sal, q_al_sal, q_ar_sal, q_ln_sal, q_fi_sar, q_fl_sar, q_fr_sar, q_ai_sar, q_al_sar, q_ar_sar, q_ln_sar, reduceIte, Nat.reduceEqDiff, ix_n hn1, decide_eq_true (show n < 40 by omega), if_true, c32 hn1, Option.bind_some]
  exact QL.ok (by unfold st_kept; (repeat' split) <;> (first | rfl | omega)) rfl rfl (fr1 R)
theorem both_kept (hP : P.ok) (hI : Inv P x σ) (k : Int32) : ∃ v σ1 σ2, fX11_kept_0 σ x k = some (v, σ1) ∧ fX12_kept_0 σ1 (x + 20) k = some (v, σ2) ∧ Inv P x σ2 := by
  obtain ⟨own, R, hE, hX, hW, h6⟩ := hI
  have h71 : 0 ≤ (fi R 68).toInt → 0 ≤ (fi R 71).toInt := by
    obtain ⟨G, T, eC, eV, eN, eT, eS, h⟩ := hX
    obtain ⟨U, u1, u2, u3, u4, u5⟩ := h.2.2.2.2.2.2.2.2.2.2.2.1
    exact fun q => (u5 q).2.1
  obtain ⟨σ1, σ2, h1, h2, h3⟩ := arm_L (Y := fun s => fX12_kept_0 s (x + 20) k) hP h6 hE (by rw [ite_self_R]; exact k_kept hP hW hX k) (fun ρ => r_kept (x + 20) ρ R h71 k) (by rw [ite_self_R]; exact hW)
  exact ⟨_, σ1, σ2, h1, h2, h3⟩
theorem x_feedOne (G : Gs) {n : Nat} (hl : ln G 2 = 500) (hn : fi G 3 = Int32.ofNat n) (h : n + 4 ≤ 500) (v : Int32) : fX11_feedOne_0 (e11 x σ G) x v = some (e11 x σ (sfi (sai G 2 (layB (ai G 2) n v 4)) 3 (Int32.ofNat (n + 4)))) := by
  unfold fX11_feedOne_0 fX11_feedOne_3
  refine lp_q 4 (fun k z => z = (e11 x σ (sfi (sai G 2 (layB (ai G 2) n v k)) 3 (Int32.ofNat (n + k))), x, v, Int32.ofNat (32 - 8 * k) - 8)) (fun X => X = some (e11 x σ (sfi (sai G 2 (layB (ai G 2) n v 4)) 3 (Int32.ofNat (n + 4))))) ?_ ?_ fu 0 _ (by omega) ?_ (by unfold fu; omega)
  · rintro K k _ hk rfl
    left
    have e0 : ¬ (Int32.ofNat (32 - 8 * k) - 8 < 0) ∧ Int32.ofNat (32 - 8 * k) - 8 = 8 * Int32.ofNat (3 - k) ∧ Int32.ofNat (32 - 8 * k) - 8 + (-8) = Int32.ofNat (32 - 8 * (k + 1)) - 8 := by
      match k, hk with
      | 0, _ => decide
      | 1, _ => decide
      | 2, _ => decide
      | 3, _ => decide
      | k + 4, h => exact absurd h (by omega)
    simp only [fbX11_feedOne_3, if_neg e0.1, y11_C, y11_g0, y11_p0, y11_g1, y11_l1, y11_n1, y11_g2, y11_l2, y11_s2, y11_n2, y11_g3, y11_p3, y11_g4, y11_p4, y11_g5, y11_p5, y11_g6, y11_g7, y11_g8, y11_p8, y11_g9, y11_g10, y11_g11, y11_g12, y11_g13, y11_p13, y11_g14, y11_g15, y11_p15, y11_g16, y11_p16, y11_g17, y11_l17, y11_n17, y11_g18, y11_p18, q_fi_sfi, q_fl_sfi, q_fr_sfi, q_ai_sfi, q_al_sfi, q_ar_sfi, q_ln_sfi, q_fi_sfl, q_fl_sfl, q_fr_sfl, q_ai_sfl, q_al_sfl, q_ar_sfl, q_ln_sfl, q_fi_sfr, q_fl_sfr, q_fr_sfr, q_ai_sfr, q_al_sfr, q_ar_sfr, q_ln_sfr, q_fi_sai, q_fl_sai, q_fr_sai, q_ai_sai, q_al_sai, q_ar_sai, q_ln_sai, q_fi_sal, q_fl_sal, q_fr_sal, q_ai_sal, q_al_sal, q_ar_sal, q_ln_sal, q_fi_sar, q_fl_sar, q_fr_sar, q_ai_sar, q_al_sar, q_ar_sar, q_ln_sar, reduceIte, Nat.reduceEqDiff, Option.bind_some, hl, ix_n (show n + k < 2147483648 by omega), decide_eq_true (show n + k < 500 by omega), if_true, c32 (show n + k < 2147483648 by omega), suc32, e0.2.2]
    refine ⟨_, rfl, ?_⟩
    congr 3
    rw [e0.2.1]
    have e3 : ∀ (G : Gs) (a b : Int32) (f g : Nat → Int32), sfi (sai (sfi (sai G 2 f) 3 a) 2 g) 3 b = sfi (sai G 2 g) 3 b := by
      intro G a b f g; unfold sfi sai; simp only [up_up]
    rw [e3]; rfl
  · rintro K _ rfl
    have e0 : Int32.ofNat (32 - 8 * 4) - 8 < 0 := by decide
    simp only [fbX11_feedOne_3, if_pos e0]
  · have e1 : sfi (sai G 2 (layB (ai G 2) n v 0)) 3 (Int32.ofNat (n + 0)) = G := by
      have a1 : up G.2.2.2.1 2 (ai G 2) = G.2.2.2.1 := by
        funext j; unfold up; split
        · rename_i e; rw [e]; rfl
        · rfl
      have a2 : up G.1 3 (fi G 3) = G.1 := by
        funext j; unfold up; split
        · rename_i e; rw [e]; rfl
        · rfl
      show sfi (sai G 2 (ai G 2)) 3 (Int32.ofNat n) = G
      rw [← hn]; unfold sfi sai
      rw [a1]
      show (up G.1 3 (fi G 3), _) = G
      rw [a2]
    rw [e1]; rfl
theorem layB_cg {f g : Nat → Int32} {n m : Nat} (h : ∀ i, i < m → f i = g i) (hm : n ≤ m) (v : Int32) : ∀ k, ∀ i, i < max m (n + k) → layB f n v k i = layB g n v k i := by
  intro k
  induction k with
  | zero => intro i hi; exact h i (by omega)
  | succ k ih =>
    intro i hi
    show up (layB f n v k) (n + k) (bt v k) i = up (layB g n v k) (n + k) (bt v k) i
    unfold up; split
    · rfl
    · exact ih i (by omega)
theorem lay5_cg {f g : Nat → Int32} {n : Nat} (h : ∀ i, i < n → f i = g i) (a b c d e : Int32) : ∀ i, i < n + 20 → lay5 f n a b c d e i = lay5 g n a b c d e i := by
  unfold lay5
  have h1 : ∀ i, i < n + 4 → layB f n a 4 i = layB g n a 4 i := fun i hi => layB_cg h (Nat.le_refl _) a 4 i (by omega)
  have h2 : ∀ i, i < n + 8 → _ := fun i hi => layB_cg h1 (Nat.le_refl _) b 4 i (by omega)
  have h3 : ∀ i, i < n + 12 → _ := fun i hi => layB_cg h2 (Nat.le_refl _) c 4 i (by omega)
  have h4 : ∀ i, i < n + 16 → _ := fun i hi => layB_cg h3 (Nat.le_refl _) d 4 i (by omega)
  exact fun i hi => layB_cg h4 (Nat.le_refl _) e 4 i (by omega)
def KBL : List Nat := [5, 7, 8, 13, 30, 33, 34, 35, 36, 39, 48, 50, 51, 52, 53, 54, 55]
def Par.bk (P : Par) : Prop := ∀ L R R', Fr L R R' → (∀ k, k ∈ KBL → k ∉ L) → P.2.2 R' = P.2.2 R
theorem k_feed (hP : P.ok) (hK : P.bk) (hW : RW R) (h : XW P x own σ R st) {n : Nat} (hn : fi R 17 = Int32.ofNat n) (h500 : n ≤ 500) (a b c d e : Int32) : KI P x σ (if n + 20 ≤ 500 then Int32.ofNat (n + 20) else -1) st (if n + 20 ≤ 500 then sfi (sai R 16 (lay5 (ai R 16) n a b c d e)) 17 (Int32.ofNat (n + 20)) else R) (fX11_feed_0 σ x a b c d e) := by
  obtain ⟨G, T, eC, eV, eN, eT, eS, h⟩ := h
  have hA := h.2.2.1.at
  obtain ⟨-, b2, b3, b4, b5, b6, b7, b8, b9, b10⟩ := id h.2.2.1
  have h3 : fi G 3 = Int32.ofNat n := b3.trans hn
  have l500 : (500 : Int32) = Int32.ofNat 500 := rfl
  have hl := b8.2.1
  unfold fX11_feed_0
  simp only [z11_g3 hA, h3, Option.bind_some, l20, add_n, l500, le_n (show n + 20 < 2147483648 by omega) (show 500 < 2147483648 by omega)]
  by_cases hc : n + 20 ≤ 500
  · rw [if_pos hc, if_pos hc, if_pos hc]
    have e3 : ∀ (G : Gs) (a b : Int32) (f g : Nat → Int32), sfi (sai (sfi (sai G 2 f) 3 a) 2 g) 3 b = sfi (sai G 2 g) 3 b := by
      intro G a b f g; unfold sfi sai; simp only [up_up]
    have hC0 := z11_C hA
    have f1 := x_feedOne (x := x) (σ := σ) G hl h3 (show n + 4 ≤ 500 by omega) a
    rw [show e11 x σ G = σ from hA] at f1
    have f2 : ∀ f, fX11_feedOne_0 (e11 x σ (sfi (sai G 2 f) 3 (Int32.ofNat (n + 4)))) x b = _ := fun f => x_feedOne (x := x) (σ := σ) (sfi (sai G 2 f) 3 (Int32.ofNat (n + 4))) hl rfl (show n + 4 + 4 ≤ 500 by omega) b
    have f3 : ∀ f, fX11_feedOne_0 (e11 x σ (sfi (sai G 2 f) 3 (Int32.ofNat (n + 4 + 4)))) x c = _ := fun f => x_feedOne (x := x) (σ := σ) (sfi (sai G 2 f) 3 (Int32.ofNat (n + 4 + 4))) hl rfl (show n + 4 + 4 + 4 ≤ 500 by omega) c
    have f4 : ∀ f, fX11_feedOne_0 (e11 x σ (sfi (sai G 2 f) 3 (Int32.ofNat (n + 4 + 4 + 4)))) x d = _ := fun f => x_feedOne (x := x) (σ := σ) (sfi (sai G 2 f) 3 (Int32.ofNat (n + 4 + 4 + 4))) hl rfl (show n + 4 + 4 + 4 + 4 ≤ 500 by omega) d
    have f5 : ∀ f, fX11_feedOne_0 (e11 x σ (sfi (sai G 2 f) 3 (Int32.ofNat (n + 4 + 4 + 4 + 4)))) x e = _ := fun f => x_feedOne (x := x) (σ := σ) (sfi (sai G 2 f) 3 (Int32.ofNat (n + 4 + 4 + 4 + 4))) hl rfl (show n + 4 + 4 + 4 + 4 + 4 ≤ 500 by omega) e
    simp only [hC0, f1, f2, f3, f4, f5, Option.bind_some, y11_C, y11_g0, y11_p0, y11_g1, y11_l1, y11_n1, y11_g2, y11_l2, y11_s2, y11_n2, y11_g3, y11_p3, y11_g4, y11_p4, y11_g5, y11_p5, y11_g6, y11_g7, y11_g8, y11_p8, y11_g9, y11_g10, y11_g11, y11_g12, y11_g13, y11_p13, y11_g14, y11_g15, y11_p15, y11_g16, y11_p16, y11_g17, y11_l17, y11_n17, y11_g18, y11_p18, q_fi_sfi, q_fl_sfi, q_fr_sfi, q_ai_sfi, q_al_sfi, q_ar_sfi, q_ln_sfi, q_fi_sfl, q_fl_sfl, q_fr_sfl, q_ai_sfl, q_al_sfl, q_ar_sfl, q_ln_sfl, q_fi_sfr, q_fl_sfr, q_fr_sfr, q_ai_sfr, q_al_sfr, q_ar_sfr, q_ln_sfr, q_fi_sai, q_fl_sai, q_fr_sai, q_ai_sai, q_al_sai, q_ar_sai, q_ln_sai, q_fi_sal, q_fl_sal, q_fr_sal, q_ai_sal, q_al_sal, q_ar_sal, q_ln_sal, q_fi_sar, q_fl_sar, q_fr_sar, q_ai_sar, q_al_sar, q_ar_sar, q_ln_sar, reduceIte, Nat.reduceEqDiff, e3]
    generalize hG' : sfi (sai G 2 _) 3 _ = G'
    have g2 : ai G' 2 = lay5 (ai G 2) n a b c d e := by rw [← hG']; rfl
    have gs : fi G' 0 = fi G 0 ∧ fi G' 3 = Int32.ofNat (n + 20) ∧ fi G' 4 = fi G 4 ∧ fi G' 5 = fi G 5 ∧ fi G' 8 = fi G 8 ∧ fi G' 16 = fi G 16 ∧ (ln G' 1 = ln G 1 ∧ ln G' 2 = ln G 2 ∧ ln G' 17 = ln G 17) ∧ fi G' 18 = fi G 18 ∧ ((ar G' 1 = ar G 1 ∧ ar G' 17 = ar G 17 ∧ fr G' 13 = fr G 13 ∧ fr G' 15 = fr G 15)) := by rw [← hG']; exact ⟨rfl, rfl, rfl, rfl, rfl, rfl, ⟨rfl, rfl, rfl⟩, rfl, ⟨rfl, rfl, rfl, rfl⟩⟩
    obtain ⟨s0, s3, s4, s5, s8, s16, ⟨sl1, sl2, sl17⟩, s18, sg⟩ := gs
    have hR : Fr [16, 17] R (sfi (sai R 16 (lay5 (ai R 16) n a b c d e)) 17 (Int32.ofNat (n + 20))) := ((Fr.refl _ R).sai (by decide) _).sfi (by decide) _
    have hC : Chg x own [1] σ (e11 x σ G') := e11_chg σ _ (by decide)
    refine ⟨_, own, rfl, ⟨G', T, eC, eV, eN, eT, eS, ?_⟩, hC.kp h.1 (by decide)⟩
    refine xw_px hP h hW hC hR (by decide) (hK _ _ _ hR (by decide)) ⟨A11_self _ _, s0.trans b2, s3, s4.trans b4, s5.trans b5, s8.trans b6, s16.trans b7, ⟨sl1.trans b8.1, sl2.trans b8.2.1, sl17.trans b8.2.2⟩, by rw [s18]; exact b9, ?_⟩ ⟨sg, fun q => by rw [← s18]; exact q⟩
    intro i hi
    have hi' : i < n + 20 := by
      have : (i : Int) < (Int32.ofNat (n + 20)).toInt := hi
      rw [n32 (by omega)] at this; omega
    rw [g2]
    show lay5 (ai G 2) n a b c d e i = lay5 (ai R 16) n a b c d e i
    exact lay5_cg (fun j hj => b10 j (by rw [hn, n32 (by omega)]; omega)) a b c d e i hi'
  · rw [if_neg hc, if_neg hc, if_neg hc]
    exact ⟨σ, own, rfl, ⟨G, T, eC, eV, eN, eT, eS, h⟩, rfl, fun _ _ _ => rfl⟩
theorem both_feed (hP : P.ok) (hK : P.bk) (hI : Inv P x σ) (a b c d e : Int32) : ∃ v σ1 σ2, fX11_feed_0 σ x a b c d e = some (v, σ1) ∧ fX12_feed_0 σ1 (x + 20) a b c d e = some (v, σ2) ∧ Inv P x σ2 := by
  obtain ⟨own, R, hE, hX, hW, h6⟩ := hI
  obtain ⟨n, hn1, hn2⟩ := hW.2.2.2.2.2.2.2.2.1
  obtain ⟨σ1, own', k1, k2, k3⟩ := k_feed hP hK hW hX hn2 hn1 a b c d e
  have hE1 : eR (x + 20) σ1 R = σ1 := eR_in hE (fun a h1 h2 => k3.2 a h1 (by omega))
  obtain ⟨R', q1, q2, q3, q4⟩ := r_feed (m := x + 20) (ρ := σ1) hn2 hn1 a b c d e
  rw [hE1] at q1
  refine ⟨_, σ1, _, k1, q1, inv_mk hP k2 ?_ q3 q2 (q4 h6)⟩
  by_cases hc : n + 20 ≤ 500
  · rw [if_pos hc]
    obtain ⟨w1, w2, w3, w4, w5, w6, w7, w8, w9, w10⟩ := hW
    exact ⟨w1, w2, w3, w4, w5, w6, w7, w8, ⟨n + 20, hc, rfl⟩, w10⟩
  · rw [if_neg hc]; exact hW
end
