def nw4 (b : Nat) : Gs := sfr (g0 (fun _ => 80)) 0 (some b)
theorem x4_new (s : Hs) {b : Nat} (hb : b < s.1) : ∃ s', fX4_init_0 (nwO 6 tyX4 s) s.1 b = some s' ∧ s'.1 = s.1 + 4 ∧ s'.2.2 = s.2.2 ∧ (∀ q, q < s.1 → s'.2.1 q = s.2.1 q) ∧ A4 s.1 (nw4 b) s' := by
  have h0 : (nwO 6 tyX4 s).2.1 s.1 = .inr (6, fun k => defaultValue (tyX4 k)) := nw_s _ _
  have stepF : ∀ (t : Hs) (F : Nat → Value) (k : Nat) (v : Value), t.2.1 s.1 = .inr (6, F) → ∃ t', pV t s.1 6 k v = some t' ∧ t'.2.1 s.1 = .inr (6, va_up F k v) ∧ t'.1 = t.1 ∧ t'.2.2 = t.2.2 ∧ ∀ q, q ≠ s.1 → t'.2.1 q = t.2.1 q := by
    intro t F k v h
    exact ⟨_, pV_raw h k v, wR_s _ _ _, rfl, rfl, fun q hq => wR_n _ _ hq⟩
  have stepA : ∀ (t : Hs) (F : Nat → Value) (c k : Nat) (ce : Ce), t.2.1 s.1 = .inr (6, F) → t.1 = s.1 + c → 1 ≤ c → ∃ t', pV (nw t ce) s.1 6 k (.ref t.1) = some t' ∧ t'.2.1 s.1 = .inr (6, va_up F k (.ref (s.1 + c))) ∧ t'.2.1 (s.1 + c) = ce ∧ t'.1 = s.1 + (c + 1) ∧ t'.2.2 = t.2.2 ∧ ∀ q, q ≠ s.1 → q < s.1 + c → t'.2.1 q = t.2.1 q := by
    intro t F c k ce h1 h2 h3
    refine ⟨wR (nw t ce) s.1 (.inr (6, va_up F k (.ref (s.1 + c)))), ?_, wR_s _ _ _, ?_, ?_, rfl, fun q hq1 hq2 => ?_⟩
    · rw [pV_raw ((nw_n _ _ (show s.1 ≠ t.1 by omega)).trans h1), h2]
    · rw [wR_n _ _ (by omega), ← h2]; exact nw_s _ _
    · show t.1 + 1 = _; omega
    · rw [wR_n _ _ hq1]; exact nw_n _ _ (by omega)
  obtain ⟨t1, a1, a2, a3, a4, a5⟩ := stepF _ _ 0 (.ref b) h0
  have l1 : t1.1 = s.1 + 1 := by rw [a3]; rfl
  obtain ⟨t2, b1, b2, b3, b4, b5, b6⟩ := stepA t1 _ 1 1 (.inl (0, 80, .inl (fun _ => 0))) a2 l1 (by omega)
  obtain ⟨t3, c1, c2, c3, c4, c5, c6⟩ := stepA t2 _ 2 2 (.inl (0, 80, .inl (fun _ => 0))) b2 b4 (by omega)
  obtain ⟨t4, d1, d2, d3, d4, d5, d6⟩ := stepA t3 _ 3 3 (.inl (0, 80, .inl (fun _ => 0))) c2 c4 (by omega)
  refine ⟨t4, ?_, d4, ?_, fun q hq => ?_, A4_mk ?_ ?_ ?_ ?_⟩
  · unfold fX4_init_0
    rw [a1, Option.bind_some, show (80 : Int32) = Int32.ofNat 80 from rfl, naI_ok _ (show 80 ≤ 80 by omega) (by omega), Option.bind_some, b1, Option.bind_some, naI_ok _ (show 80 ≤ 80 by omega) (by omega), Option.bind_some, c1, Option.bind_some, naI_ok _ (show 80 ≤ 80 by omega) (by omega), Option.bind_some, d1, Option.bind_some]
  · rw [d5, c5, b5, a4]; rfl
  · rw [d6 q (by omega) (by omega), c6 q (by omega) (by omega), b6 q (by omega) (by omega), a5 q (by omega)]; exact nw_n _ _ (by omega)
  · rw [d2]
    refine congrArg (fun F => Sum.inr (6, F)) (funext fun k => ?_)
    match k with
    | 0 => rfl
    | 1 => rfl
    | 2 => rfl
    | 3 => rfl
    | 4 => rfl
    | 5 => rfl
    | k + 6 => rfl
  · rw [d6 _ (by omega) (by omega), c6 _ (by omega) (by omega)]; exact b3
  · rw [d6 _ (by omega) (by omega)]; exact c3
  · exact d3
section
variable {b : Nat} {σ0 : Hs} {m : Nat} {ρ : Hs} {tx : Nat → Int} {n K : Nat} {G H R : Gs} {a mk L kd l : Nat}
def rsP (m : Nat) (s : Hs) : Option (Int32 × Hs) := (gI s m 14 21).bind fun vq2 => (pV s m 14 19 (.int vq2)).bind fun sq3 => (gI sq3 m 14 21).bind fun vq4 => if vq4 = 0 then (fX12_program_108 sq3 m m (-1)) else ((gI sq3 m 14 22).bind fun vq5 => fX12_program_108 sq3 m m vq5)
def Pq (b : Nat) (σ0 : Hs) (m : Nat) (ρ : Hs) (tx : Nat → Int) (n K : Nat) (H R : Gs) (X : Option Hs) (Y : Option (Int32 × Hs)) : Prop :=
  (∃ G' H' R' a' mk' L', X = some (st4 b σ0 G' H') ∧ Y = rsP m (eR m ρ R') ∧ Lq b tx n K G' H' R' a' mk' L' ∧ Fr RLk R R' ∧ Bk (ai R' 75) (ai R' 76) (ai R' 77) (ai H' 1) (ai H' 2) (ai H' 3) 3 0 L' 0 mk') ∨
  (∃ G' H' R' a' kd L', X = some (st4 b σ0 G' H') ∧ Y = rsP m (eR m ρ R') ∧ Dq b tx n K G' H' R' a' kd L' ∧ Fr RLk R R')
theorem q_lines (hq : Lq b tx n K G H R 0 0 0) : Pq b σ0 m ρ tx n K H R (fX4_readLines_0 (st4 b σ0 G H) (b + 6)) (fX12_program_62 (eR m ρ R) m) := by
  have g_al : ∀ KK (Ra : Gs) a, RB Ra true tx n a → fbX12_program_62 KK (eR m ρ Ra) m = if kA true tx n a = 0 then rsP m (eR m ρ Ra) else (fX12_readLine_0 (GR12b 9) (eR m ρ Ra) m (Int32.ofNat (3 - 3))).bind fun s => KK s m := by
    intro KK Ra a q
    have e2 : (Int32.ofNat (tK true tx n (tS tx n a)) = 0) = (kA true tx n a = 0) := kq (tK_b true tx n (tS tx n a)) (show 0 ≤ 4 by decide)
    unfold fbX12_program_62 rsP
    simp only [RG_21, q.2.2, Option.bind_some, if_true, RisC, RG_24, q.2.1.1, e2]
    rfl
  have g_dead : ∀ KK (Ra : Gs) kd, fi Ra 21 = Int32.ofNat kd → (0 < kd ∧ kd < 7) → fbX12_program_62 KK (eR m ρ Ra) m = rsP m (eR m ρ Ra) := by
    intro KK Ra kd q1 q2
    unfold fbX12_program_62 rsP
    rw [RG_21, q1, Option.bind_some, if_neg (bdn q2).2]
  have hX : fX4_readLines_0 (st4 b σ0 G H) (b + 6) = (fX4_readLinesWithin_2 (GR4 (28 + 1)) (st4 b σ0 G H) (b + 6) (Int32.ofNat (3 - 3)) 0).bind fun sq2 => (gN sq2 (b + 6) 6 0).bind fun vq3 => (isC sq2 vq3 7).bind fun iq4 => (fX5_isEnd_0 sq2 vq3).bind fun vq5 => if vq5 = 0 then ((gN sq2 (b + 6) 6 0).bind fun vq6 => (isC sq2 vq6 7).bind fun iq7 => (fX5_refuse_0 sq2 vq6 2).bind fun sq8 => some sq8) else (some sq2) := by
    unfold fX4_readLines_0
    rw [z4_C s4_A4, Option.bind_some]; rfl
  rw [hX]
  refine q_block (S2 := Hs × Nat) (T2 := Int32 × Hs) (F2 := fun (k : Hs × Nat → Option (Int32 × Hs)) (z : Hs × Nat) => fbX12_program_62 (fun σ xv0 => k (σ, xv0)) z.1 z.2) (mkS := fun s => (s, m)) (E := rsP m) (Q := Pq b σ0 m ρ tx n K H R) (Stop := fun a => kA true tx n a = 0) (d := 3) (j := 28) (i := 9) (H0 := H) (R0 := R) (a0 := 0) (mk0 := 0) (L0 := 0) (by omega) (by omega) (by omega) (Line_all 3 (by omega)) (fun a q => Or.inl q) (fun KK Ra a q1 q2 => ?_) (fun KK Ra a q1 q2 => ?_) (fun KK Ra kd q1 q2 => ?_) ?_ ?_ ?_ 100 fu fu 0 G H R 0 0 0 (Bs_new hq) (by omega) (by decide) (by decide) (by omega)
  · exact (g_al _ Ra a q1).trans (if_neg q2)
  · exact (g_al _ Ra a q1).trans (if_pos q2)
  · exact g_dead _ Ra kd q1 q2
  · intro G4 H4 R4 a4 mk4 L4 hB hst
    obtain ⟨w1, ⟨w2, w3⟩, ⟨w4, w5, w6⟩, w7, w8, w9, w10⟩ := hB
    refine Or.inl ⟨G4, H4, R4, a4, mk4, L4, ?_, rfl, w1, w3, w9⟩
    simp only [p_g0 w1.2.1.1, z5_C s4_A5, x5_isEnd s4_A5 w1.1, Option.bind_some, b2i_0]
    rw [if_neg (fun q => q hst)]
  · intro G4 H4 R4 a4 kd4 L4 hD ⟨w2, w3⟩ w4
    refine Or.inr ⟨G4, H4, R4, a4, kd4, L4, ?_, rfl, hD, w3⟩
    simp only [p_g0 (Dq_h0 hD), z5_C s4_A5, x5d_isEnd s4_A5 hD.1, x5d_refuse s4_A5 hD.1, Option.bind_some, if_true]
  · intro G4 H4 R4 a4 mk4 L4 G5 R5 kd5 hB hst _ hr hD hF
    obtain ⟨w1, ⟨w2, w3⟩, -⟩ := hB
    refine Or.inr ⟨G5, H4, R5, a4, kd5, L4, ?_, rfl, hD, w3.trans (hF.mono (by decide))⟩
    simp only [p_g0 w1.2.1.1, z5_C s4_A5, x5_isEnd s4_A5 w1.1, Option.bind_some, b2i_0]
    rw [if_pos hst, hr]; rfl
theorem r_rsPN (h : fi R 21 = Int32.ofNat kd) (hk : 0 < kd ∧ kd < 7) : rsP m (eR m ρ R) = some (-1, eR m ρ (sfi (sfi (sfi R 19 (Int32.ofNat kd)) 20 (fi R 22)) 0 10)) := by
  unfold rsP fX12_program_108
  simp only [RisC, RG_0, RP_0, RG_1, RP_1, RN_2, Rld_2, Rst_2, RN_3, Rld_3, Rst_3, RN_4, Rld_4, Rst_4, RG_5, RP_5, RG_6, RP_6, RN_7, Rld_7, Rst_7, RN_8, Rld_8, Rst_8, RN_9, Rld_9, Rst_9, RN_10, Rld_10, Rst_10, RG_11, RP_11, RG_12, RP_12, RN_13, Rld_13, Rst_13, RN_14, Rld_14, Rst_14, RN_15, Rld_15, Rst_15, RN_16, Rld_16, Rst_16, RG_17, RP_17, RG_18, RP_18, RG_19, RP_19, RG_20, RP_20, RG_21, RP_21, RG_22, RP_22, RG_23, RP_23, RG_24, RP_24, RG_25, RP_25, RG_26, RP_26, RG_27, RP_27, RG_28, RP_28, RG_29, RP_29, RG_30, RP_30, RG_31, RP_31, RG_32, RP_32, RN_33, Rld_33, Rst_33, RN_34, Rld_34, Rst_34, RN_35, Rld_35, Rst_35, RN_36, Rld_36, Rst_36, RN_37, Rld_37, Rst_37, RN_38, Rld_38, Rst_38, RN_39, Rld_39, Rst_39, RN_40, Rld_40, Rst_40, RN_41, Rld_41, Rst_41, RN_42, Rld_42, Rst_42, RN_43, Rld_43, Rst_43, RN_44, Rld_44, Rst_44, RN_45, Rld_45, Rst_45, RG_46, RP_46, RG_47, RP_47, RG_48, RP_48, RG_49, RP_49, RN_50, Rld_50, Rst_50, RN_51, Rld_51, Rst_51, RN_52, Rld_52, Rst_52, RN_53, Rld_53, Rst_53, RN_54, Rld_54, Rst_54, RN_55, Rld_55, Rst_55, RG_56, RP_56, RG_57, RP_57, RN_58, Rld_58, Rst_58, RN_59, Rld_59, Rst_59, RN_60, Rld_60, Rst_60, RG_61, RP_61, RG_62, RP_62, RG_63, RP_63, RG_64, RP_64, RG_65, RP_65, RG_66, RP_66, RG_67, RP_67, RG_68, RP_68, RG_69, RP_69, RG_70, RP_70, RG_71, RP_71, RN_72, Rld_72, Rst_72, RN_73, Rld_73, Rst_73, RN_74, Rld_74, Rst_74, RN_75, Rld_75, Rst_75, RN_76, Rld_76, Rst_76, RN_77, Rld_77, Rst_77, RN_78, Rld_78, Rst_78, RN_79, Rld_79, Rst_79, RN_80, Rld_80, Rst_80, RN_81, Rld_81, Rst_81, RN_82, Rld_82, Rst_82, RN_83, Rld_83, Rst_83, RN_84, Rld_84, Rst_84, RN_85, Rld_85, Rst_85, RN_86, Rld_86, Rst_86, RG_87, RP_87, RG_88, RP_88, RG_89, RP_89, RG_90, RP_90, RG_91, RP_91, RG_92, RP_92, RG_93, RP_93, RN_94, Rld_94, Rst_94, RN_95, Rld_95, Rst_95, RG_96, RP_96, RN_97, Rld_97, Rst_97, RN_98, Rld_98, Rst_98, RN_99, Rld_99, Rst_99, RN_100, Rld_100, Rst_100, RG_101, RP_101, RN_102, Rld_102, Rst_102, RN_103, Rld_103, Rst_103, RN_104, Rld_104, Rst_104, RG_105, RP_105, q_fi_sfi, q_fl_sfi, q_fr_sfi, q_ai_sfi, q_al_sfi, q_ar_sfi, q_ln_sfi, q_fi_sfl, q_fl_sfl, q_fr_sfl, q_ai_sfl, q_al_sfl, q_ar_sfl, q_ln_sfl, q_fi_sfr, q_fl_sfr, q_fr_sfr, q_ai_sfr, q_al_sfr, q_ar_sfr, q_ln_sfr, q_fi_sai, q_fl_sai, q_fr_sai, q_ai_sai, q_al_sai, q_ar_sai, q_ln_sai, q_fi_sal, q_fl_sal, q_fr_sal, q_ai_sal, q_al_sal, q_ar_sal, q_ln_sal, q_fi_sar, q_fl_sar, q_fr_sar, q_ai_sar, q_al_sar, q_ar_sar, q_ln_sar, reduceIte, Nat.reduceEqDiff, h, Option.bind_some, if_neg (bdn hk).2, if_neg (bdn hk).1, r_refuse]
def laidP (R : Gs) (L : Nat) (R' : Gs) : Prop := Fr [19, 20, 61, 72, 73, 74] R R' ∧ (fi R' 19 = 0 ∧ fi R' 20 = -1 ∧ fi R' 61 = Int32.ofNat L) ∧ ∀ j, j < L → ai R' 72 j = ai R 75 j ∧ ai R' 73 j = ai R 76 j ∧ ai R' 74 j = ai R 77 j
theorem r_rsPY (h : fi R 21 = 0) (h62 : fi R 62 = Int32.ofNat L) (hL : L ≤ 40) : ∃ R', rsP m (eR m ρ R) = some (Int32.ofNat L, eR m ρ R') ∧ laidP R L R' := by
  have e : rsP m (eR m ρ R) = fX12_program_135 (eR m ρ (sfi (sfi (sfi R 19 0) 20 (-1)) 61 (Int32.ofNat L))) m 0 := by
    unfold rsP fX12_program_108
    simp only [RisC, RG_0, RP_0, RG_1, RP_1, RN_2, Rld_2, Rst_2, RN_3, Rld_3, Rst_3, RN_4, Rld_4, Rst_4, RG_5, RP_5, RG_6, RP_6, RN_7, Rld_7, Rst_7, RN_8, Rld_8, Rst_8, RN_9, Rld_9, Rst_9, RN_10, Rld_10, Rst_10, RG_11, RP_11, RG_12, RP_12, RN_13, Rld_13, Rst_13, RN_14, Rld_14, Rst_14, RN_15, Rld_15, Rst_15, RN_16, Rld_16, Rst_16, RG_17, RP_17, RG_18, RP_18, RG_19, RP_19, RG_20, RP_20, RG_21, RP_21, RG_22, RP_22, RG_23, RP_23, RG_24, RP_24, RG_25, RP_25, RG_26, RP_26, RG_27, RP_27, RG_28, RP_28, RG_29, RP_29, RG_30, RP_30, RG_31, RP_31, RG_32, RP_32, RN_33, Rld_33, Rst_33, RN_34, Rld_34, Rst_34, RN_35, Rld_35, Rst_35, RN_36, Rld_36, Rst_36, RN_37, Rld_37, Rst_37, RN_38, Rld_38, Rst_38, RN_39, Rld_39, Rst_39, RN_40, Rld_40, Rst_40, RN_41, Rld_41, Rst_41, RN_42, Rld_42, Rst_42, RN_43, Rld_43, Rst_43, RN_44, Rld_44, Rst_44, RN_45, Rld_45, Rst_45, RG_46, RP_46, RG_47, RP_47, RG_48, RP_48, RG_49, RP_49, RN_50, Rld_50, Rst_50, RN_51, Rld_51, Rst_51, RN_52, Rld_52, Rst_52, RN_53, Rld_53, Rst_53, RN_54, Rld_54, Rst_54, RN_55, Rld_55, Rst_55, RG_56, RP_56, RG_57, RP_57, RN_58, Rld_58, Rst_58, RN_59, Rld_59, Rst_59, RN_60, Rld_60, Rst_60, RG_61, RP_61, RG_62, RP_62, RG_63, RP_63, RG_64, RP_64, RG_65, RP_65, RG_66, RP_66, RG_67, RP_67, RG_68, RP_68, RG_69, RP_69, RG_70, RP_70, RG_71, RP_71, RN_72, Rld_72, Rst_72, RN_73, Rld_73, Rst_73, RN_74, Rld_74, Rst_74, RN_75, Rld_75, Rst_75, RN_76, Rld_76, Rst_76, RN_77, Rld_77, Rst_77, RN_78, Rld_78, Rst_78, RN_79, Rld_79, Rst_79, RN_80, Rld_80, Rst_80, RN_81, Rld_81, Rst_81, RN_82, Rld_82, Rst_82, RN_83, Rld_83, Rst_83, RN_84, Rld_84, Rst_84, RN_85, Rld_85, Rst_85, RN_86, Rld_86, Rst_86, RG_87, RP_87, RG_88, RP_88, RG_89, RP_89, RG_90, RP_90, RG_91, RP_91, RG_92, RP_92, RG_93, RP_93, RN_94, Rld_94, Rst_94, RN_95, Rld_95, Rst_95, RG_96, RP_96, RN_97, Rld_97, Rst_97, RN_98, Rld_98, Rst_98, RN_99, Rld_99, Rst_99, RN_100, Rld_100, Rst_100, RG_101, RP_101, RN_102, Rld_102, Rst_102, RN_103, Rld_103, Rst_103, RN_104, Rld_104, Rst_104, RG_105, RP_105, q_fi_sfi, q_fl_sfi, q_fr_sfi, q_ai_sfi, q_al_sfi, q_ar_sfi, q_ln_sfi, q_fi_sfl, q_fl_sfl, q_fr_sfl, q_ai_sfl, q_al_sfl, q_ar_sfl, q_ln_sfl, q_fi_sfr, q_fl_sfr, q_fr_sfr, q_ai_sfr, q_al_sfr, q_ar_sfr, q_ln_sfr, q_fi_sai, q_fl_sai, q_fr_sai, q_ai_sai, q_al_sai, q_ar_sai, q_ln_sai, q_fi_sal, q_fl_sal, q_fr_sal, q_ai_sal, q_al_sal, q_ar_sal, q_ln_sal, q_fi_sar, q_fl_sar, q_fr_sar, q_ai_sar, q_al_sar, q_ar_sar, q_ln_sar, reduceIte, Nat.reduceEqDiff, h, h62, Option.bind_some, Int32.le_refl, if_true]
  rw [e]
  have F0 : Fr [19, 20, 61] R (sfi (sfi (sfi R 19 0) 20 (-1)) 61 (Int32.ofNat L)) := (((Fr.refl _ R).sfi (k := 19) (by decide) _).sfi (k := 20) (by decide) _).sfi (k := 61) (by decide) _
  generalize hR0 : sfi (sfi (sfi R 19 0) 20 (-1)) 61 (Int32.ofNat L) = R0 at *
  have i19 : fi R0 19 = 0 := by rw [← hR0]; rfl
  have i20 : fi R0 20 = -1 := by rw [← hR0]; rfl
  have i61 : fi R0 61 = Int32.ofNat L := by rw [← hR0]; rfl
  have i62 : fi R0 62 = Int32.ofNat L := (F0.i 62 (by decide)).trans h62
  unfold fX12_program_135
  refine lp_q L (fun d z => ∃ R2, z = (eR m ρ R2, m, Int32.ofNat d) ∧ Fr [72, 73, 74] R0 R2 ∧ ∀ j, j < d → ai R2 72 j = ai R 75 j ∧ ai R2 73 j = ai R 76 j ∧ ai R2 74 j = ai R 77 j) (fun X => ∃ R', X = some (Int32.ofNat L, eR m ρ R') ∧ laidP R L R') ?_ ?_ fu 0 _ (by omega) ⟨R0, rfl, Fr.refl _ _, fun j hj => absurd hj (by omega)⟩ (by unfold fu; omega)
  · rintro KK d _ hd ⟨R2, rfl, g1, g2⟩
    left
    refine ⟨(eR m ρ (sai (sai (sai R2 72 (up (ai R2 72) d (ai R 75 d))) 73 (up (ai R2 73) d (ai R 76 d))) 74 (up (ai R2 74) d (ai R 77 d))), m, Int32.ofNat (d + 1)), ⟨_, rfl, ((g1.sai (k := 72) (by decide) _).sai (k := 73) (by decide) _).sai (k := 74) (by decide) _, fun j hj => ?_⟩, ?_⟩
    · show up (ai R2 72) d (ai R 75 d) j = _ ∧ up (ai R2 73) d (ai R 76 d) j = _ ∧ up (ai R2 74) d (ai R 77 d) j = _
      by_cases c : j = d
      · rw [c, up_same, up_same, up_same]; exact ⟨rfl, rfl, rfl⟩
      · rw [up_ne _ _ _ _ c, up_ne _ _ _ _ c, up_ne _ _ _ _ c]; exact g2 j (by omega)
    · have j75 : ai R2 75 = ai R 75 := (g1.ai 75 (by decide)).trans (F0.ai 75 (by decide))
      have j76 : ai R2 76 = ai R 76 := (g1.ai 76 (by decide)).trans (F0.ai 76 (by decide))
      have j77 : ai R2 77 = ai R 77 := (g1.ai 77 (by decide)).trans (F0.ai 77 (by decide))
      have j62 : fi R2 62 = Int32.ofNat L := (g1.i 62 (by decide)).trans i62
      simp only [fbX12_program_135, RisC, RG_0, RP_0, RG_1, RP_1, RN_2, Rld_2, Rst_2, RN_3, Rld_3, Rst_3, RN_4, Rld_4, Rst_4, RG_5, RP_5, RG_6, RP_6, RN_7, Rld_7, Rst_7, RN_8, Rld_8, Rst_8, RN_9, Rld_9, Rst_9, RN_10, Rld_10, Rst_10, RG_11, RP_11, RG_12, RP_12, RN_13, Rld_13, Rst_13, RN_14, Rld_14, Rst_14, RN_15, Rld_15, Rst_15, RN_16, Rld_16, Rst_16, RG_17, RP_17, RG_18, RP_18, RG_19, RP_19, RG_20, RP_20, RG_21, RP_21, RG_22, RP_22, RG_23, RP_23, RG_24, RP_24, RG_25, RP_25, RG_26, RP_26, RG_27, RP_27, RG_28, RP_28, RG_29, RP_29, RG_30, RP_30, RG_31, RP_31, RG_32, RP_32, RN_33, Rld_33, Rst_33, RN_34, Rld_34, Rst_34, RN_35, Rld_35, Rst_35, RN_36, Rld_36, Rst_36, RN_37, Rld_37, Rst_37, RN_38, Rld_38, Rst_38, RN_39, Rld_39, Rst_39, RN_40, Rld_40, Rst_40, RN_41, Rld_41, Rst_41, RN_42, Rld_42, Rst_42, RN_43, Rld_43, Rst_43, RN_44, Rld_44, Rst_44, RN_45, Rld_45, Rst_45, RG_46, RP_46, RG_47, RP_47, RG_48, RP_48, RG_49, RP_49, RN_50, Rld_50, Rst_50, RN_51, Rld_51, Rst_51, RN_52, Rld_52, Rst_52, RN_53, Rld_53, Rst_53, RN_54, Rld_54, Rst_54, RN_55, Rld_55, Rst_55, RG_56, RP_56, RG_57, RP_57, RN_58, Rld_58, Rst_58, RN_59, Rld_59, Rst_59, RN_60, Rld_60, Rst_60, RG_61, RP_61, RG_62, RP_62, RG_63, RP_63, RG_64, RP_64, RG_65, RP_65, RG_66, RP_66, RG_67, RP_67, RG_68, RP_68, RG_69, RP_69, RG_70, RP_70, RG_71, RP_71, RN_72, Rld_72, Rst_72, RN_73, Rld_73, Rst_73, RN_74, Rld_74, Rst_74, RN_75, Rld_75, Rst_75, RN_76, Rld_76, Rst_76, RN_77, Rld_77, Rst_77, RN_78, Rld_78, Rst_78, RN_79, Rld_79, Rst_79, RN_80, Rld_80, Rst_80, RN_81, Rld_81, Rst_81, RN_82, Rld_82, Rst_82, RN_83, Rld_83, Rst_83, RN_84, Rld_84, Rst_84, RN_85, Rld_85, Rst_85, RN_86, Rld_86, Rst_86, RG_87, RP_87, RG_88, RP_88, RG_89, RP_89, RG_90, RP_90, RG_91, RP_91, RG_92, RP_92, RG_93, RP_93, RN_94, Rld_94, Rst_94, RN_95, Rld_95, Rst_95, RG_96, RP_96, RN_97, Rld_97, Rst_97, RN_98, Rld_98, Rst_98, RN_99, Rld_99, Rst_99, RN_100, Rld_100, Rst_100, RG_101, RP_101, RN_102, Rld_102, Rst_102, RN_103, Rld_103, Rst_103, RN_104, Rld_104, Rst_104, RG_105, RP_105, q_fi_sfi, q_fl_sfi, q_fr_sfi, q_ai_sfi, q_al_sfi, q_ar_sfi, q_ln_sfi, q_fi_sfl, q_fl_sfl, q_fr_sfl, q_ai_sfl, q_al_sfl, q_ar_sfl, q_ln_sfl, q_fi_sfr, q_fl_sfr, q_fr_sfr, q_ai_sfr, q_al_sfr, q_ar_sfr, q_ln_sfr, q_fi_sai, q_fl_sai, q_fr_sai, q_ai_sai, q_al_sai, q_ar_sai, q_ln_sai, q_fi_sal, q_fl_sal, q_fr_sal, q_ai_sal, q_al_sal, q_ar_sal, q_ln_sal, q_fi_sar, q_fl_sar, q_fr_sar, q_ai_sar, q_al_sar, q_ar_sar, q_ln_sar, reduceIte, Nat.reduceEqDiff, j62, j75, j76, j77, Option.bind_some, le_n (show L < 2147483648 by omega) (show d < 2147483648 by omega), if_neg (show ¬ L ≤ d by omega), ix_n (show d < 2147483648 by omega), decide_eq_true (show d < 40 by omega), if_true, c32 (show d < 2147483648 by omega), suc32]
  · rintro KK _ ⟨R2, rfl, g1, g2⟩
    have j62 : fi R2 62 = Int32.ofNat L := (g1.i 62 (by decide)).trans i62
    have j61 : fi R2 61 = Int32.ofNat L := (g1.i 61 (by decide)).trans i61
    refine ⟨R2, ?_, (F0.mono (by decide)).trans (g1.mono (by decide)), ⟨(g1.i 19 (by decide)).trans i19, (g1.i 20 (by decide)).trans i20, j61⟩, g2⟩
    simp only [fbX12_program_135, RisC, RG_0, RP_0, RG_1, RP_1, RN_2, Rld_2, Rst_2, RN_3, Rld_3, Rst_3, RN_4, Rld_4, Rst_4, RG_5, RP_5, RG_6, RP_6, RN_7, Rld_7, Rst_7, RN_8, Rld_8, Rst_8, RN_9, Rld_9, Rst_9, RN_10, Rld_10, Rst_10, RG_11, RP_11, RG_12, RP_12, RN_13, Rld_13, Rst_13, RN_14, Rld_14, Rst_14, RN_15, Rld_15, Rst_15, RN_16, Rld_16, Rst_16, RG_17, RP_17, RG_18, RP_18, RG_19, RP_19, RG_20, RP_20, RG_21, RP_21, RG_22, RP_22, RG_23, RP_23, RG_24, RP_24, RG_25, RP_25, RG_26, RP_26, RG_27, RP_27, RG_28, RP_28, RG_29, RP_29, RG_30, RP_30, RG_31, RP_31, RG_32, RP_32, RN_33, Rld_33, Rst_33, RN_34, Rld_34, Rst_34, RN_35, Rld_35, Rst_35, RN_36, Rld_36, Rst_36, RN_37, Rld_37, Rst_37, RN_38, Rld_38, Rst_38, RN_39, Rld_39, Rst_39, RN_40, Rld_40, Rst_40, RN_41, Rld_41, Rst_41, RN_42, Rld_42, Rst_42, RN_43, Rld_43, Rst_43, RN_44, Rld_44, Rst_44, RN_45, Rld_45, Rst_45, RG_46, RP_46, RG_47, RP_47, RG_48, RP_48, RG_49, RP_49, RN_50, Rld_50, Rst_50, RN_51, Rld_51, Rst_51, RN_52, Rld_52, Rst_52, RN_53, Rld_53, Rst_53, RN_54, Rld_54, Rst_54, RN_55, Rld_55, Rst_55, RG_56, RP_56, RG_57, RP_57, RN_58, Rld_58, Rst_58, RN_59, Rld_59, Rst_59, RN_60, Rld_60, Rst_60, RG_61, RP_61, RG_62, RP_62, RG_63, RP_63, RG_64, RP_64, RG_65, RP_65, RG_66, RP_66, RG_67, RP_67, RG_68, RP_68, RG_69, RP_69, RG_70, RP_70, RG_71, RP_71, RN_72, Rld_72, Rst_72, RN_73, Rld_73, Rst_73, RN_74, Rld_74, Rst_74, RN_75, Rld_75, Rst_75, RN_76, Rld_76, Rst_76, RN_77, Rld_77, Rst_77, RN_78, Rld_78, Rst_78, RN_79, Rld_79, Rst_79, RN_80, Rld_80, Rst_80, RN_81, Rld_81, Rst_81, RN_82, Rld_82, Rst_82, RN_83, Rld_83, Rst_83, RN_84, Rld_84, Rst_84, RN_85, Rld_85, Rst_85, RN_86, Rld_86, Rst_86, RG_87, RP_87, RG_88, RP_88, RG_89, RP_89, RG_90, RP_90, RG_91, RP_91, RG_92, RP_92, RG_93, RP_93, RN_94, Rld_94, Rst_94, RN_95, Rld_95, Rst_95, RG_96, RP_96, RN_97, Rld_97, Rst_97, RN_98, Rld_98, Rst_98, RN_99, Rld_99, Rst_99, RN_100, Rld_100, Rst_100, RG_101, RP_101, RN_102, Rld_102, Rst_102, RN_103, Rld_103, Rst_103, RN_104, Rld_104, Rst_104, RG_105, RP_105, j62, j61, Option.bind_some, Int32.le_refl, if_true]
end
def RPp (G R : Gs) : Prop := ∃ L mk, (fi R 61 = Int32.ofNat L ∧ L ≤ 40) ∧ (fi G 4 = Int32.ofNat mk ∧ mk ≤ 80) ∧ (ln G 1 = 80 ∧ ln G 2 = 80 ∧ ln G 3 = 80) ∧ Bk (ai R 72) (ai R 73) (ai R 74) (ai G 1) (ai G 2) (ai G 3) 3 0 L 0 mk
theorem RPp_fr : ∀ L R R', Fr L R R' → (∀ k, k ∈ KRP → k ∉ L) → ∀ G, RPp G R → RPp G R' := by
  intro L R R' hF hL G h
  unfold RPp at *
  rw [hF.i 61 (hL _ (by decide)), hF.ai 72 (hL _ (by decide)), hF.ai 73 (hL _ (by decide)), hF.ai 74 (hL _ (by decide))]; exact h
section
variable {P : Par} {x : Nat} {own : Nat → Nat} {σ : Hs} {R G : Gs} {st : Int32}
theorem k_newProg (hP : P.ok) (hk : P.bk) {T : Gs} {eC eV eN eT eS : Nat → Nat} (h : XWg P x own σ R st G T eC eV eN eT eS) (hW : RW R) {s : Hs} (hs : s.1 = σ.1 + 10 ∧ s.2.2 = σ.2.2 ∧ ∀ q, q < σ.1 → s.2.1 q = σ.2.1 q) {H : Gs} (hH : A4 (σ.1 + 6) H s) {U : Gs} (hU : Fr (17 :: 19 :: 20 :: 61 :: 72 :: 73 :: 74 :: SCR) R U) (u17 : fi U 17 = 0) (u19 : fi U 19 = 0) (u20 : fi U 20 = -1) (u61 : 0 ≤ (fi U 61).toInt) (uP : P.2.1 H U) : ∃ own', XW P x own' (e11 x s (sfr (edG G 0 (-1) 0) 13 (some (σ.1 + 6)))) U 0 := by
  obtain ⟨h0, h1, h2, h3, h4, h5, h6, h7, h8, h9, h10, h11, h12, h13⟩ := h
  obtain ⟨hs1, hs2, hs3⟩ := hs
  obtain ⟨w1, w2, w3, w4, w5, w6, w7, w8, w9⟩ := id hW
  let own1 : Nat → Nat := fun a => if a < σ.1 then own a else 320
  have hE : Ext own own1 σ.1 := fun a ha => if_pos ha
  have hC0 : Chg x own [1] σ s := ⟨by omega, hs2, fun a ha _ => hs3 a ha⟩
  have hC' : Chg x own [1] σ (e11 x s (sfr (edG G 0 (-1) 0) 13 (some (σ.1 + 6)))) := hC0.trans (e11_chg s _ (by decide))
  have hn : ∀ {k : Nat}, k ≠ 1 → k ∉ [1] := fun hk q => hk (List.mem_singleton.mp q)
  have p1 := hP.1 _ R U hU (by decide)
  have p3 := hk _ R U hU (by decide)
  have q1 : nL U = nL R := by unfold nL; rw [hU.i 5 (by decide)]
  have q2 : nC U = nC R := by unfold nC; rw [hU.i 11 (by decide)]
  have q3 : nS U = nS R := by unfold nS; rw [hU.i 12 (by decide)]
  have q4 : nT U = nT R := by unfold nT; rw [hU.i 30 (by decide)]
  have q5 : nV U = nV R := by unfold nV; rw [hU.i 47 (by decide)]
  have q6 : nN U = nN R := by unfold nN; rw [hU.i 48 (by decide)]
  have q7 : nX U = nX R := by unfold nX; rw [hU.i 56 (by decide)]
  refine ⟨own1, sfr (edG G 0 (-1) 0) 13 (some (σ.1 + 6)), T, eC, eV, eN, eT, eS, ?_⟩
  unfold XWg
  rw [q1, q2, q3, q4, q5, q6, q7, p3]
  refine ⟨Nat.le_trans h0 hC'.1, h1.fr h0 hC' (by decide), ?_, h3.fr hE hC' (fun t ht => hn (by omega)) hU (by decide), h4.fr h0 hC' (by decide) hU (by decide), h5.fr w4.2.1 h0 hE hC' ⟨by decide, by decide, fun t ht => hn (by omega)⟩ hU (by decide) (fun q => q), h6.fr h0 hE hC' (by decide) hU (by decide), h7.fr w2.2.1 h0 hE hC' ⟨by decide, by decide, fun t ht => hn (by omega)⟩ hU (by decide) (fun q => q), h8.fr w7.2 h0 hE hC' ⟨by decide, by decide, fun t ht => hn (by omega)⟩ hU (by decide) p1, h9.fr w8.2.1 h0 hE hC' ⟨by decide, by decide, fun t ht => hn (by omega)⟩ hU (by decide), ?_, h11.fr h0 hC' (by decide) hU (by decide), h12.fr hE hC' (by decide) hU (by decide), h13.fr hE hC' (fun t ht => hn (by omega)) hU (by decide)⟩
  · obtain ⟨b1, b2, b3, b4, b5, b6, b7, b8, b9, b10⟩ := h2
    refine ⟨A11_self _ _, rfl, u17.symm, u19.symm, u20.symm, ?_, ?_, b8, b9, fun i hi => ?_⟩
    · rw [hU.i 12 (by decide)]; exact b6
    · rw [hU.i 91 (by decide)]; exact b7
    · rw [u17, i0] at hi; omega
  · refine Or.inr ⟨σ.1 + 6, H, rfl, A4_fr hH (fun a ha => e11_out s _ (by omega)), ⟨fun j hj => ?_, by show σ.1 + 6 + 4 ≤ s.1; omega⟩, u61, uP⟩
    unfold tg; rw [if_neg (by omega), if_neg (by omega)]; exact if_neg (by omega)
end
