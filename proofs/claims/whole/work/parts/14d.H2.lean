def dvs (fs : Nat → Evm → Option Int64) (vr : Nat → Int64) : Nat → Nat → Option Int64
  | 0 => fun _ => none
  | d + 1 => up (dvs fs vr d) d (fs d (vr, dvs fs vr d))
theorem dvs_old {fs : Nat → Evm → Option Int64} {vr : Nat → Int64} : ∀ k d j, j < d → dvs fs vr (d + k) j = dvs fs vr d j := by
  intro k; induction k with
  | zero => intro d j _; rfl
  | succ k ih => intro d j hj; rw [show d + (k + 1) = (d + k) + 1 by omega]; show up _ (d + k) _ j = _; rw [up_ne _ _ _ _ (by omega)]; exact ih d j hj
theorem lp_s {S R : Type} {F : (S → Option R) → S → Option R} (N : Nat) (s : S) : lp F (N + 1) s = F (lp F N) s := rfl
section
variable {m : Nat} {ρ : Hs} {R : Gs}
theorem r_w40 {i e d r0 r1 : Nat} {a36 : Nat → Int32} (hi : i < 4) (hr1 : r1 ≤ 1100) (hF : Fwd (fun j => wOf (a36 (1100 * i + j))) (fun j => vOf (a36 (1100 * i + j))) r0 r1) {vr rv : Nat → Int64} {rl : Nat → Int32} {S' : Pl} (k2 : Hs → Nat → Int32 → Int32 → Int32 → Option Hs) : ∀ t N k S R, r0 ≤ k → Rn vr rv rl (fun j => wOf (a36 (1100 * i + j))) (fun j => vOf (a36 (1100 * i + j))) r1 t (k, S) (r1, S') → t < N → HS R S → al R 42 = vr → al R 43 = rv → ai R 45 = rl → ai R 36 = a36 → ∃ R', Fr [41, 44, 46] R R' ∧ HS R' S' ∧ lp (fun (k : Hs × Nat × Int32 × Int32 × Int32 × Int32 × Int32 → Option Hs) (z : Hs × Nat × Int32 × Int32 × Int32 × Int32 × Int32) => fbX12_work_40 k2 (fun σ xv0 xv1 xv2 xv3 xv4 xv5 => k (σ, xv0, xv1, xv2, xv3, xv4, xv5)) z.1 z.2.1 z.2.2.1 z.2.2.2.1 z.2.2.2.2.1 z.2.2.2.2.2.1 z.2.2.2.2.2.2) N (eR m ρ R, m, Int32.ofNat i, Int32.ofNat e, Int32.ofNat d, Int32.ofNat k, Int32.ofNat r1) = fbX12_work_40 k2 (fun _ _ _ _ _ _ _ => none) (eR m ρ R') m (Int32.ofNat i) (Int32.ofNat e) (Int32.ofNat d) (Int32.ofNat r1) (Int32.ofNat r1) := by
  intro t; induction t with
  | zero =>
    intro N k S R hk hn hN hS h1 h2 h3 h4
    obtain ⟨N', rfl⟩ : ∃ N', N = N' + 1 := ⟨N - 1, by omega⟩
    have hn : (k, S) = (r1, S') := hn
    obtain ⟨rfl, rfl⟩ := Prod.mk.inj hn
    refine ⟨R, Fr.refl _ _, hS, ?_⟩
    rw [lp_s]
    show fbX12_work_40 k2 _ (eR m ρ R) m (Int32.ofNat i) (Int32.ofNat e) (Int32.ofNat d) (Int32.ofNat k) (Int32.ofNat k) = _
    unfold fbX12_work_40
    rw [if_pos (Int32.le_refl _), if_pos (Int32.le_refl _)]
  | succ t ih =>
    intro N k S R hk hn hN hS h1 h2 h3 h4
    obtain ⟨N', rfl⟩ : ∃ N', N = N' + 1 := ⟨N - 1, by omega⟩
    obtain ⟨hlt, ⟨k', S1⟩, hs, hn'⟩ := hn
    have hlt : k < r1 := hlt
    have hs : rst vr rv rl (wOf (a36 (1100 * i + k))) (vOf (a36 (1100 * i + k))) k S = some (k', S1) := hs
    have hneg : 0 ≤ (a36 (1100 * i + k)).toInt := by
      by_cases c : 0 ≤ (a36 (1100 * i + k)).toInt
      · exact c
      · have q := (hF k hk hlt (Or.inl (show wOf (a36 (1100 * i + k)) = 15 from if_neg c))).1
        have q' : k < vOf (a36 (1100 * i + k)) := q
        rw [show vOf (a36 (1100 * i + k)) = 0 from if_neg c] at q'
        omega
    rw [← h1, ← h2, ← h3] at hs
    obtain ⟨R1, r1', r2', r3'⟩ := r_does (m := m) (ρ := ρ) hS hneg hs
    have hk' : r0 ≤ k' := by
      rcases rst_k hs with q | ⟨q1, q2⟩
      · have q : k' = k + 1 := q
        omega
      · have q2 : k' = vOf (a36 (1100 * i + k)) := q2
        have := (hF k hk hlt q1).1
        have this : k < vOf (a36 (1100 * i + k)) := this
        omega
    obtain ⟨R', f1, f2, f3⟩ := ih N' k' S1 R1 hk' hn' (by omega) r3' ((r2'.al 42 (by decide)).trans h1) ((r2'.al 43 (by decide)).trans h2) ((r2'.ai 45 (by decide)).trans h3) ((r2'.ai 36 (by decide)).trans h4)
    refine ⟨R', r2'.trans f1, f2, ?_⟩
    rw [← f3, lp_s]
    show fbX12_work_40 k2 _ (eR m ρ R) m (Int32.ofNat i) (Int32.ofNat e) (Int32.ofNat d) (Int32.ofNat k) (Int32.ofNat r1) = _
    unfold fbX12_work_40
    rw [if_neg (show ¬ Int32.ofNat r1 ≤ Int32.ofNat k from fun q => absurd ((le_n (by omega) (by omega)).mp q) (by omega))]
    simp only [RisC, RG_0, RP_0, RG_1, RP_1, RN_2, Rld_2, Rst_2, RN_3, Rld_3, Rst_3, RN_4, Rld_4, Rst_4, RG_5, RP_5, RG_6, RP_6, RN_7, Rld_7, Rst_7, RN_8, Rld_8, Rst_8, RN_9, Rld_9, Rst_9, RN_10, Rld_10, Rst_10, RG_11, RP_11, RG_12, RP_12, RN_13, Rld_13, Rst_13, RN_14, Rld_14, Rst_14, RN_15, Rld_15, Rst_15, RN_16, Rld_16, Rst_16, RG_17, RP_17, RG_18, RP_18, RG_19, RP_19, RG_20, RP_20, RG_21, RP_21, RG_22, RP_22, RG_23, RP_23, RG_24, RP_24, RG_25, RP_25, RG_26, RP_26, RG_27, RP_27, RG_28, RP_28, RG_29, RP_29, RG_30, RP_30, RG_31, RP_31, RG_32, RP_32, RN_33, Rld_33, Rst_33, RN_34, Rld_34, Rst_34, RN_35, Rld_35, Rst_35, RN_36, Rld_36, Rst_36, RN_37, Rld_37, Rst_37, RN_38, Rld_38, Rst_38, RN_39, Rld_39, Rst_39, RN_40, Rld_40, Rst_40, RN_41, Rld_41, Rst_41, RN_42, Rld_42, Rst_42, RN_43, Rld_43, Rst_43, RN_44, Rld_44, Rst_44, RN_45, Rld_45, Rst_45, RG_46, RP_46, RG_47, RP_47, RG_48, RP_48, RG_49, RP_49, RN_50, Rld_50, Rst_50, RN_51, Rld_51, Rst_51, RN_52, Rld_52, Rst_52, RN_53, Rld_53, Rst_53, RN_54, Rld_54, Rst_54, RN_55, Rld_55, Rst_55, RG_56, RP_56, RG_57, RP_57, RN_58, Rld_58, Rst_58, RN_59, Rld_59, Rst_59, RN_60, Rld_60, Rst_60, RG_61, RP_61, RG_62, RP_62, RG_63, RP_63, RG_64, RP_64, RG_65, RP_65, RG_66, RP_66, RG_67, RP_67, RG_68, RP_68, RG_69, RP_69, RG_70, RP_70, RG_71, RP_71, RN_72, Rld_72, Rst_72, RN_73, Rld_73, Rst_73, RN_74, Rld_74, Rst_74, RN_75, Rld_75, Rst_75, RN_76, Rld_76, Rst_76, RN_77, Rld_77, Rst_77, RN_78, Rld_78, Rst_78, RN_79, Rld_79, Rst_79, RN_80, Rld_80, Rst_80, RN_81, Rld_81, Rst_81, RN_82, Rld_82, Rst_82, RN_83, Rld_83, Rst_83, RN_84, Rld_84, Rst_84, RN_85, Rld_85, Rst_85, RN_86, Rld_86, Rst_86, RG_87, RP_87, RG_88, RP_88, RG_89, RP_89, RG_90, RP_90, RG_91, RP_91, RG_92, RP_92, RG_93, RP_93, RN_94, Rld_94, Rst_94, RN_95, Rld_95, Rst_95, RG_96, RP_96, RN_97, Rld_97, Rst_97, RN_98, Rld_98, Rst_98, RN_99, Rld_99, Rst_99, RN_100, Rld_100, Rst_100, RG_101, RP_101, RN_102, Rld_102, Rst_102, RN_103, Rld_103, Rst_103, RN_104, Rld_104, Rst_104, RG_105, RP_105, show (1100 : Int32) = Int32.ofNat 1100 from rfl, mul_n, add_n, h4, Option.bind_some, ix_n (show 1100 * i + k < 2147483648 by omega), decide_eq_true (show 1100 * i + k < 4400 by omega), if_true, c32 (show 1100 * i + k < 2147483648 by omega), r1']
def wkR (R : Gs) (d : Nat) (a : Int64) (l : Int32) : Gs := sai (sal R 43 (up (al R 43) d a)) 45 (up (ai R 45) d l)
theorem r_work {i D e : Nat} {rs : Nat → Nat} {fs : Nat → Evm → Option Int64} (hi : i < 4) (hT : TOa (ai R 34) (ai R 35) (ai R 36) i D rs fs) (he : e < D) : ∃ R', fX12_work_0 (eR m ρ R) m (Int32.ofNat i) (Int32.ofNat e) = some (eR m ρ R') ∧ Fr [41, 43, 44, 45, 46] R R' ∧ VR (al R' 43 e) (ai R' 45 e) (dvs fs (al R 42) (e + 1) e) := by
  obtain ⟨⟨t1, t2⟩, ⟨t3, t4⟩, t5, t6⟩ := hT
  have hm : ∀ k d, d + k ≤ D → rs d ≤ rs (d + k) := by
    intro k; induction k with
    | zero => intro d _; exact Nat.le_refl _
    | succ k ih => intro d hd; have := ih d (by omega); have := (t5 (d + k) (by omega)).1.1; rw [show d + (k + 1) = d + k + 1 by omega]; omega
  unfold fX12_work_0 fX12_work_2
  refine lp_q (e + 1) (fun d z => ∃ R1, z = (eR m ρ R1, m, Int32.ofNat i, Int32.ofNat e, Int32.ofNat d) ∧ Fr [41, 43, 44, 45, 46] R R1 ∧ ∀ j, j < d → VR (al R1 43 j) (ai R1 45 j) (dvs fs (al R 42) d j)) (fun X => ∃ R', X = some (eR m ρ R') ∧ Fr [41, 43, 44, 45, 46] R R' ∧ VR (al R' 43 e) (ai R' 45 e) (dvs fs (al R 42) (e + 1) e)) ?_ ?_ fu 0 _ (by omega) ⟨R, rfl, Fr.refl _ _, fun j hj => absurd hj (by omega)⟩ (by unfold fu; omega)
  · rintro L d _ hd ⟨R1, rfl, hf, hv⟩
    left
    have hrs := hm (D - (d + 1)) (d + 1) (by omega)
    rw [show d + 1 + (D - (d + 1)) = D by omega] at hrs
    obtain ⟨⟨u1, u2⟩, u3⟩ := t5 d (by omega)
    have h46 : HS (sfi R1 46 0) (0, al R1 41, ai R1 44) := ⟨rfl, rfl, rfl, Nat.zero_le _⟩
    obtain ⟨t, S', v1, v2, v3⟩ := u2 (al R1 42) (al R1 43) (ai R1 45) (dvs fs (al R 42) d) hv (0, al R1 41, ai R1 44) (by show 0 + 37 ≤ 600; decide)
    obtain ⟨R2, f1, f2, f3⟩ := r_w40 (m := m) (ρ := ρ) (e := e) (d := d) hi (by omega) u3 (fun σ xv0 xv1 xv2 xv3 => L (σ, xv0, xv1, xv2, xv3)) t fu (rs d) _ (sfi R1 46 0) (Nat.le_refl _) v2 (by unfold fu; omega) h46 rfl rfl rfl (hf.ai 36 (by decide))
    obtain ⟨g1, g2, g3, g4⟩ := f2
    obtain ⟨s1, -, s3⟩ := v3
    have s3 : VR (S'.2.1 0) (S'.2.2 0) (fs d (al R1 42, dvs fs (al R 42) d)) := s3
    have h01 : S'.2.2 0 = 0 ∨ S'.2.2 0 = 1 := s3.elim (fun q => Or.inl q.1) (fun q => Or.inr q.1)
    have hF2 : Fr [41, 43, 44, 45, 46] R (wkR R2 d (S'.2.1 0) (S'.2.2 0)) := hf.trans ((((Fr.refl _ R1).sfi (k := 46) (by decide) _).trans (f1.mono (by decide))).trans (((Fr.refl _ R2).sal (k := 43) (by decide) _).sai (k := 45) (by decide) _))
    refine ⟨(eR m ρ (wkR R2 d (S'.2.1 0) (S'.2.2 0)), m, Int32.ofNat i, Int32.ofNat e, Int32.ofNat (d + 1)), ⟨_, rfl, hF2, fun j hj => ?_⟩, ?_⟩
    · show VR (up (al R2 43) d (S'.2.1 0) j) (up (ai R2 45) d (S'.2.2 0) j) (up (dvs fs (al R 42) d) d (fs d (al R 42, dvs fs (al R 42) d)) j)
      by_cases c : j = d
      · rw [c, up_same, up_same, up_same]
        rw [hf.al 42 (by decide)] at s3; exact s3
      · rw [up_ne _ _ _ _ c, up_ne _ _ _ _ c, up_ne _ _ _ _ c, f1.al 43 (by decide), f1.ai 45 (by decide)]
        exact hv j (by omega)
    · show fbX12_work_2 _ (eR m ρ R1) m (Int32.ofNat i) (Int32.ofNat e) (Int32.ofNat d) = _
      unfold fbX12_work_2
      rw [if_neg (show ¬ Int32.ofNat e < Int32.ofNat d from fun q => absurd ((lt_n (by omega) (by omega)).mp q) (by omega))]
      simp only [RisC, RG_0, RP_0, RG_1, RP_1, RN_2, Rld_2, Rst_2, RN_3, Rld_3, Rst_3, RN_4, Rld_4, Rst_4, RG_5, RP_5, RG_6, RP_6, RN_7, Rld_7, Rst_7, RN_8, Rld_8, Rst_8, RN_9, Rld_9, Rst_9, RN_10, Rld_10, Rst_10, RG_11, RP_11, RG_12, RP_12, RN_13, Rld_13, Rst_13, RN_14, Rld_14, Rst_14, RN_15, Rld_15, Rst_15, RN_16, Rld_16, Rst_16, RG_17, RP_17, RG_18, RP_18, RG_19, RP_19, RG_20, RP_20, RG_21, RP_21, RG_22, RP_22, RG_23, RP_23, RG_24, RP_24, RG_25, RP_25, RG_26, RP_26, RG_27, RP_27, RG_28, RP_28, RG_29, RP_29, RG_30, RP_30, RG_31, RP_31, RG_32, RP_32, RN_33, Rld_33, Rst_33, RN_34, Rld_34, Rst_34, RN_35, Rld_35, Rst_35, RN_36, Rld_36, Rst_36, RN_37, Rld_37, Rst_37, RN_38, Rld_38, Rst_38, RN_39, Rld_39, Rst_39, RN_40, Rld_40, Rst_40, RN_41, Rld_41, Rst_41, RN_42, Rld_42, Rst_42, RN_43, Rld_43, Rst_43, RN_44, Rld_44, Rst_44, RN_45, Rld_45, Rst_45, RG_46, RP_46, RG_47, RP_47, RG_48, RP_48, RG_49, RP_49, RN_50, Rld_50, Rst_50, RN_51, Rld_51, Rst_51, RN_52, Rld_52, Rst_52, RN_53, Rld_53, Rst_53, RN_54, Rld_54, Rst_54, RN_55, Rld_55, Rst_55, RG_56, RP_56, RG_57, RP_57, RN_58, Rld_58, Rst_58, RN_59, Rld_59, Rst_59, RN_60, Rld_60, Rst_60, RG_61, RP_61, RG_62, RP_62, RG_63, RP_63, RG_64, RP_64, RG_65, RP_65, RG_66, RP_66, RG_67, RP_67, RG_68, RP_68, RG_69, RP_69, RG_70, RP_70, RG_71, RP_71, RN_72, Rld_72, Rst_72, RN_73, Rld_73, Rst_73, RN_74, Rld_74, Rst_74, RN_75, Rld_75, Rst_75, RN_76, Rld_76, Rst_76, RN_77, Rld_77, Rst_77, RN_78, Rld_78, Rst_78, RN_79, Rld_79, Rst_79, RN_80, Rld_80, Rst_80, RN_81, Rld_81, Rst_81, RN_82, Rld_82, Rst_82, RN_83, Rld_83, Rst_83, RN_84, Rld_84, Rst_84, RN_85, Rld_85, Rst_85, RN_86, Rld_86, Rst_86, RG_87, RP_87, RG_88, RP_88, RG_89, RP_89, RG_90, RP_90, RG_91, RP_91, RG_92, RP_92, RG_93, RP_93, RN_94, Rld_94, Rst_94, RN_95, Rld_95, Rst_95, RG_96, RP_96, RN_97, Rld_97, Rst_97, RN_98, Rld_98, Rst_98, RN_99, Rld_99, Rst_99, RN_100, Rld_100, Rst_100, RG_101, RP_101, RN_102, Rld_102, Rst_102, RN_103, Rld_103, Rst_103, RN_104, Rld_104, Rst_104, RG_105, RP_105, q_fi_sfi, q_fl_sfi, q_fr_sfi, q_ai_sfi, q_al_sfi, q_ar_sfi, q_ln_sfi, q_fi_sfl, q_fl_sfl, q_fr_sfl, q_ai_sfl, q_al_sfl, q_ar_sfl, q_ln_sfl, q_fi_sfr, q_fl_sfr, q_fr_sfr, q_ai_sfr, q_al_sfr, q_ar_sfr, q_ln_sfr, q_fi_sai, q_fl_sai, q_fr_sai, q_ai_sai, q_al_sai, q_ar_sai, q_ln_sai, q_fi_sal, q_fl_sal, q_fr_sal, q_ai_sal, q_al_sal, q_ar_sal, q_ln_sal, q_fi_sar, q_fl_sar, q_fr_sar, q_ai_sar, q_al_sar, q_ar_sar, q_ln_sar, reduceIte, Nat.reduceEqDiff, show (11 : Int32) = Int32.ofNat 11 from rfl, mul_n, add_n, suc32, hf.ai 35 (by decide), Option.bind_some, ix_n (show 11 * i + d < 2147483648 by omega), ix_n (show 11 * i + d + 1 < 2147483648 by omega), decide_eq_true (show 11 * i + d < 44 by omega), decide_eq_true (show 11 * i + d + 1 < 44 by omega), if_true, c32 (show 11 * i + d < 2147483648 by omega), c32 (show 11 * i + d + 1 < 2147483648 by omega), t6 d (by omega), show ai R 35 (11 * i + d + 1) = Int32.ofNat (rs (d + 1)) from t6 (d + 1) (by omega)]
      unfold fX12_work_40
      refine f3.trans ?_
      unfold fbX12_work_40
      rw [if_pos (Int32.le_refl _)]
      simp only [RisC, RG_0, RP_0, RG_1, RP_1, RN_2, Rld_2, Rst_2, RN_3, Rld_3, Rst_3, RN_4, Rld_4, Rst_4, RG_5, RP_5, RG_6, RP_6, RN_7, Rld_7, Rst_7, RN_8, Rld_8, Rst_8, RN_9, Rld_9, Rst_9, RN_10, Rld_10, Rst_10, RG_11, RP_11, RG_12, RP_12, RN_13, Rld_13, Rst_13, RN_14, Rld_14, Rst_14, RN_15, Rld_15, Rst_15, RN_16, Rld_16, Rst_16, RG_17, RP_17, RG_18, RP_18, RG_19, RP_19, RG_20, RP_20, RG_21, RP_21, RG_22, RP_22, RG_23, RP_23, RG_24, RP_24, RG_25, RP_25, RG_26, RP_26, RG_27, RP_27, RG_28, RP_28, RG_29, RP_29, RG_30, RP_30, RG_31, RP_31, RG_32, RP_32, RN_33, Rld_33, Rst_33, RN_34, Rld_34, Rst_34, RN_35, Rld_35, Rst_35, RN_36, Rld_36, Rst_36, RN_37, Rld_37, Rst_37, RN_38, Rld_38, Rst_38, RN_39, Rld_39, Rst_39, RN_40, Rld_40, Rst_40, RN_41, Rld_41, Rst_41, RN_42, Rld_42, Rst_42, RN_43, Rld_43, Rst_43, RN_44, Rld_44, Rst_44, RN_45, Rld_45, Rst_45, RG_46, RP_46, RG_47, RP_47, RG_48, RP_48, RG_49, RP_49, RN_50, Rld_50, Rst_50, RN_51, Rld_51, Rst_51, RN_52, Rld_52, Rst_52, RN_53, Rld_53, Rst_53, RN_54, Rld_54, Rst_54, RN_55, Rld_55, Rst_55, RG_56, RP_56, RG_57, RP_57, RN_58, Rld_58, Rst_58, RN_59, Rld_59, Rst_59, RN_60, Rld_60, Rst_60, RG_61, RP_61, RG_62, RP_62, RG_63, RP_63, RG_64, RP_64, RG_65, RP_65, RG_66, RP_66, RG_67, RP_67, RG_68, RP_68, RG_69, RP_69, RG_70, RP_70, RG_71, RP_71, RN_72, Rld_72, Rst_72, RN_73, Rld_73, Rst_73, RN_74, Rld_74, Rst_74, RN_75, Rld_75, Rst_75, RN_76, Rld_76, Rst_76, RN_77, Rld_77, Rst_77, RN_78, Rld_78, Rst_78, RN_79, Rld_79, Rst_79, RN_80, Rld_80, Rst_80, RN_81, Rld_81, Rst_81, RN_82, Rld_82, Rst_82, RN_83, Rld_83, Rst_83, RN_84, Rld_84, Rst_84, RN_85, Rld_85, Rst_85, RN_86, Rld_86, Rst_86, RG_87, RP_87, RG_88, RP_88, RG_89, RP_89, RG_90, RP_90, RG_91, RP_91, RG_92, RP_92, RG_93, RP_93, RN_94, Rld_94, Rst_94, RN_95, Rld_95, Rst_95, RG_96, RP_96, RN_97, Rld_97, Rst_97, RN_98, Rld_98, Rst_98, RN_99, Rld_99, Rst_99, RN_100, Rld_100, Rst_100, RG_101, RP_101, RN_102, Rld_102, Rst_102, RN_103, Rld_103, Rst_103, RN_104, Rld_104, Rst_104, RG_105, RP_105, q_fi_sfi, q_fl_sfi, q_fr_sfi, q_ai_sfi, q_al_sfi, q_ar_sfi, q_ln_sfi, q_fi_sfl, q_fl_sfl, q_fr_sfl, q_ai_sfl, q_al_sfl, q_ar_sfl, q_ln_sfl, q_fi_sfr, q_fl_sfr, q_fr_sfr, q_ai_sfr, q_al_sfr, q_ar_sfr, q_ln_sfr, q_fi_sai, q_fl_sai, q_fr_sai, q_ai_sai, q_al_sai, q_ar_sai, q_ln_sai, q_fi_sal, q_fl_sal, q_fr_sal, q_ai_sal, q_al_sal, q_ar_sal, q_ln_sal, q_fi_sar, q_fl_sar, q_fr_sar, q_ai_sar, q_al_sar, q_ar_sar, q_ln_sar, reduceIte, Nat.reduceEqDiff, g2, g3, Option.bind_some, ix_n (show d < 2147483648 by omega), decide_eq_true (show d < 10 by omega), if_true, c32 (show d < 2147483648 by omega), show ix 0 600 = true from rfl, show (0 : Int32).toNatClampNeg = 0 from rfl, nar01 h01, suc32]
      rfl
  · rintro L _ ⟨R1, rfl, hf, hv⟩
    refine ⟨R1, ?_, hf, hv e (by omega)⟩
    show fbX12_work_2 _ (eR m ρ R1) m (Int32.ofNat i) (Int32.ofNat e) (Int32.ofNat (e + 1)) = _
    unfold fbX12_work_2
    rw [if_pos ((lt_n (by omega) (by omega)).mpr (by omega))]
end
