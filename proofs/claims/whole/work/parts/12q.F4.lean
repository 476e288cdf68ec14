section
variable {ci : Nat} {ks : Nat → Nat} {as : List (Nat × Nat × Nat)} {b : Nat}
theorem XcpL {j k : Nat} (h : okA as = true) (hp : (j, 1, k) ∈ as) (σ : Hs) (G : Gs) {a na : Nat} {f : Nat → Int64} (hs : (eX ci ks as b σ G).2.1 a = .inl (1, na, .inr (.inl f))) {i d n : Nat} (hi : i < 2147483648) (hd : d < 2147483648) (hn : n < 2147483648) (h1 : i + n ≤ na) (h2 : d + n ≤ ln G k) : cpL (eX ci ks as b σ G) a (Int32.ofNat i) (b + j) (Int32.ofNat d) (Int32.ofNat n) = some (eX ci ks as b σ (sal G k (va_cpy f (al G k) i d n))) := by
  have e := eX_a (ci := ci) (ks := ks) (b := b) h hp σ G
  unfold cpL; simp only at e; rw [e, hs]; unfold aX; rw [if_pos rfl]
  have hz : ∀ q : Nat, q < 2147483648 → ¬ Int32.ofNat q < 0 := fun q hq => by rw [lt32, n32 hq]; show ¬ (q : Int) < 0; omega
  simp only [c32 hi, c32 hd, c32 hn]
  rw [if_pos (by simp only [and_self, true_and]; exact ⟨⟨hz i hi, hz d hd, hz n hn⟩, h1, h2⟩)]
  refine congrArg some (Prod.ext rfl (Prod.ext (funext fun a => ?_) rfl))
  show va_up (cX ci ks as b G σ.2.1) (b + j) _ a = cX ci ks as b (sal G k (va_cpy f (al G k) i d n)) σ.2.1 a
  unfold va_up
  by_cases ha : a = b + j
  · rw [if_pos ha, ha, cX_at h hp]; unfold aX; rw [if_pos rfl]
    show _ = Sum.inl (1, ln G k, Sum.inr (Sum.inl (up G.2.2.2.2.1 k _ k))); rw [up_same]
  · rw [if_neg ha]
    exact (cX_ar h hp G (sal G k (va_cpy f (al G k) i d n)) ha rfl (fun _ _ => rfl) (fun j hj => up_ne _ _ _ _ hj) (fun _ _ => rfl) rfl).symm
end
theorem A10_arr {σ : Hs} {b : Nat} {G : Gs} (h : A10 b G σ) : σ.2.1 (b + 1) = .inl (1, ln G 1, .inr (.inl (al G 1))) := by
  have e := eX_a (ci := 12) (ks := ks10) (b := b) ok10 (by decide : (1, 1, 1) ∈ as10) σ G
  rw [show eX 12 ks10 as10 b σ G = σ from h] at e
  exact e
theorem z10_cp {σ : Hs} {a b : Nat} {G H : Gs} (hG : A10 a G σ) (hH : A10 b H σ) {i d n : Nat} (hi : i < 2147483648) (hd : d < 2147483648) (hn : n < 2147483648) (h1 : i + n ≤ ln G 1) (h2 : d + n ≤ ln H 1) : cpL σ (a + 1) (Int32.ofNat i) (b + 1) (Int32.ofNat d) (Int32.ofNat n) = some (e10 b σ (sal H 1 (va_cpy (al G 1) (al H 1) i d n))) := by
  have q := XcpL (ci := 12) (ks := ks10) (b := b) ok10 (by decide : (1, 1, 1) ∈ as10) σ H (a := a + 1) (na := ln G 1) (f := al G 1) (by rw [show eX 12 ks10 as10 b σ H = σ from hH]; exact A10_arr hG) hi hd hn h1 h2
  rw [show eX 12 ks10 as10 b σ H = σ from hH] at q; exact q
def st_pour (R : Gs) (t i u j n : Int32) : Int32 := if t.toInt < 0 ∨ 4 ≤ t.toInt ∨ u.toInt < 0 ∨ 4 ≤ u.toInt then 1 else if (ai R 3 t.toNatClampNeg).toInt < 0 ∨ (ai R 3 u.toNatClampNeg).toInt < 0 then 3 else if ai R 2 t.toNatClampNeg ≠ ai R 2 u.toNatClampNeg then 11 else if n.toInt < 0 then 6 else if i.toInt < 0 ∨ j.toInt < 0 ∨ (ai R 3 t.toNatClampNeg).toInt < i.toInt + n.toInt ∨ (ai R 3 u.toNatClampNeg).toInt < j.toInt + n.toInt then 4 else 0
def u_pour (R : Gs) (t i u j n : Int32) : Gs := sal R 4 (va_cpy (al R 4) (al R 4) (40 * t.toNatClampNeg + i.toNatClampNeg) (40 * u.toNatClampNeg + j.toNatClampNeg) n.toNatClampNeg)
theorem st_pour_0 {R : Gs} (hR : RT R) {t i u j n : Int32} (h : st_pour R t i u j n = 0) : ∃ tn iN un jn nn : Nat, t = Int32.ofNat tn ∧ i = Int32.ofNat iN ∧ u = Int32.ofNat un ∧ j = Int32.ofNat jn ∧ n = Int32.ofNat nn ∧ tn < 4 ∧ un < 4 ∧ ((iN + nn : Nat) : Int) ≤ (ai R 3 tn).toInt ∧ ((jn + nn : Nat) : Int) ≤ (ai R 3 un).toInt ∧ (ai R 3 tn).toInt ≤ 40 ∧ (ai R 3 un).toInt ≤ 40 ∧ ai R 2 tn = ai R 2 un := by
  unfold st_pour at h
  by_cases c1 : t.toInt < 0 ∨ 4 ≤ t.toInt ∨ u.toInt < 0 ∨ 4 ≤ u.toInt
  · rw [if_pos c1] at h; exact absurd h (by decide)
  rw [if_neg c1] at h
  by_cases c2 : (ai R 3 t.toNatClampNeg).toInt < 0 ∨ (ai R 3 u.toNatClampNeg).toInt < 0
  · rw [if_pos c2] at h; exact absurd h (by decide)
  rw [if_neg c2] at h
  by_cases c3 : ai R 2 t.toNatClampNeg ≠ ai R 2 u.toNatClampNeg
  · rw [if_pos c3] at h; exact absurd h (by decide)
  rw [if_neg c3] at h
  by_cases c4 : n.toInt < 0
  · rw [if_pos c4] at h; exact absurd h (by decide)
  rw [if_neg c4] at h
  by_cases c5 : i.toInt < 0 ∨ j.toInt < 0 ∨ (ai R 3 t.toNatClampNeg).toInt < i.toInt + n.toInt ∨ (ai R 3 u.toNatClampNeg).toInt < j.toInt + n.toInt
  · rw [if_pos c5] at h; exact absurd h (by decide)
  clear h
  obtain ⟨tn, rfl, t1, t2⟩ := get32 t (by omega)
  obtain ⟨un, rfl, u1, u2⟩ := get32 u (by omega)
  obtain ⟨iN, rfl, i1, i2⟩ := get32 i (by omega)
  obtain ⟨jn, rfl, j1, j2⟩ := get32 j (by omega)
  obtain ⟨nn, rfl, n1, n2⟩ := get32 n (by omega)
  rw [c32 t1, c32 u1] at c3 c5
  have ht : tn < 4 := by omega
  have hu : un < 4 := by omega
  exact ⟨tn, iN, un, jn, nn, rfl, rfl, rfl, rfl, rfl, ht, hu, by omega, by omega, (hR tn ht).2, (hR un hu).2, Decidable.not_not.mp c3⟩
theorem r_pour158 {m : Nat} {ρ : Hs} {R : Gs} {st : Int32} (hst : st = 0) {tn iN un jn nn : Nat} (ht : tn < 4) (hu : un < 4) (hi : iN + nn ≤ 40) (hj : jn + nn ≤ 40) (y : Int32) (hy : (y = 0 ∧ jn ≤ iN) ∨ (y = 1 ∧ iN < jn)) : QB m ρ R st (sal R 4 (va_cpy (al R 4) (al R 4) (40 * tn + iN) (40 * un + jn) nn)) (fX12_pour_158 (eR m ρ (sfi (sfi R 1 0) 0 0)) m (Int32.ofNat tn) (Int32.ofNat iN) (Int32.ofNat un) (Int32.ofNat jn) (Int32.ofNat nn) y 0) := by
  have key : ∀ (lo : Nat → Nat), (∀ k, k ≤ nn → lo k = if y = 0 then 0 else nn - k) → QB m ρ R st (sal R 4 (va_cpy (al R 4) (al R 4) (40 * tn + iN) (40 * un + jn) nn)) (fX12_pour_158 (eR m ρ (sfi (sfi R 1 0) 0 0)) m (Int32.ofNat tn) (Int32.ofNat iN) (Int32.ofNat un) (Int32.ofNat jn) (Int32.ofNat nn) y 0) := by
    intro lo hlo
    unfold fX12_pour_158
    refine lp_q nn (fun k z => ∃ f : Nat → Int64, z = (eR m ρ (sal (sfi (sfi R 1 0) 0 0) 4 f), m, Int32.ofNat tn, Int32.ofNat iN, Int32.ofNat un, Int32.ofNat jn, Int32.ofNat nn, y, Int32.ofNat k) ∧ ∀ q, f q = if 40 * un + jn + lo k ≤ q ∧ q < 40 * un + jn + lo k + k then al R 4 (40 * tn + iN + (q - (40 * un + jn))) else al R 4 q) (QB m ρ R st (sal R 4 (va_cpy (al R 4) (al R 4) (40 * tn + iN) (40 * un + jn) nn))) ?_ ?_ fu 0 _ (by omega) ?_ (by unfold fu; omega)
    · rintro K k _ hk ⟨f, rfl, hf⟩
      left
      have hl1 := hlo k (by omega)
      have hl2 := hlo (k + 1) (by omega)
      have hp : ∃ p : Nat, p < nn ∧ (y = 0 → p = k) ∧ (y ≠ 0 → p = nn - 1 - k) ∧ fbX12_pour_158 (fun σ xv0 xv1 xv2 xv3 xv4 xv5 xv6 xv7 => K (σ, xv0, xv1, xv2, xv3, xv4, xv5, xv6, xv7)) (eR m ρ (sal (sfi (sfi R 1 0) 0 0) 4 f)) m (Int32.ofNat tn) (Int32.ofNat iN) (Int32.ofNat un) (Int32.ofNat jn) (Int32.ofNat nn) y (Int32.ofNat k) = fX12_pour_182 (fun σ xv0 xv1 xv2 xv3 xv4 xv5 xv6 xv7 => K (σ, xv0, xv1, xv2, xv3, xv4, xv5, xv6, xv7)) (eR m ρ (sal (sfi (sfi R 1 0) 0 0) 4 f)) m (Int32.ofNat tn) (Int32.ofNat iN) (Int32.ofNat un) (Int32.ofNat jn) (Int32.ofNat nn) y (Int32.ofNat k) (Int32.ofNat p) := by
        unfold fbX12_pour_158
        rw [if_neg (by rw [le_n (by omega) (by omega)]; omega)]
        by_cases h0 : y = 0
        · exact ⟨k, hk, fun _ => rfl, fun q => absurd h0 q, by rw [if_pos h0]⟩
        · refine ⟨nn - 1 - k, by omega, fun q => absurd q h0, fun _ => rfl, ?_⟩
          rw [if_neg h0]
          have e1 : Int32.ofNat nn - 1 - Int32.ofNat k = Int32.ofNat (nn - 1 - k) := by
            apply Int32.toInt.inj
            have e2 : (Int32.ofNat nn - 1).toInt = (nn : Int) - 1 := by
              rw [sub32, n32 (by omega)]; rfl
              rw [n32 (by omega)]; show _ ≤ (nn : Int) - 1 ∧ (nn : Int) - 1 < _; omega
            rw [sub32, e2, n32 (by omega), n32 (by omega)]; omega
            rw [e2, n32 (by omega)]; omega
          rw [e1]
      obtain ⟨p, p1, p2, p3, p4⟩ := hp
      have es : 40 * Int32.ofNat tn + Int32.ofNat iN + Int32.ofNat p = Int32.ofNat (40 * tn + iN + p) := by rw [l40, mul_n, add_n, add_n]
      have ed : 40 * Int32.ofNat un + Int32.ofNat jn + Int32.ofNat p = Int32.ofNat (40 * un + jn + p) := by rw [l40, mul_n, add_n, add_n]
      show ∃ s', _ ∧ fbX12_pour_158 _ (eR m ρ (sal (sfi (sfi R 1 0) 0 0) 4 f)) m (Int32.ofNat tn) (Int32.ofNat iN) (Int32.ofNat un) (Int32.ofNat jn) (Int32.ofNat nn) y (Int32.ofNat k) = K s'
      rw [p4]
      unfold fX12_pour_182
      simp only [RisC, RG_0, RP_0, RG_1, RP_1, RN_2, Rld_2, Rst_2, RN_3, Rld_3, Rst_3, RN_4, Rld_4, Rst_4, RG_5, RP_5, RG_6, RP_6, RN_7, Rld_7, Rst_7, RN_8, Rld_8, Rst_8, RN_9, Rld_9, Rst_9, RN_10, Rld_10, Rst_10, RG_11, RP_11, RG_12, RP_12, RN_13, Rld_13, Rst_13, RN_14, Rld_14, Rst_14, RN_15, Rld_15, Rst_15, RN_16, Rld_16, Rst_16, RG_17, RP_17, RG_18, RP_18, RG_19, RP_19, RG_20, RP_20, RG_21, RP_21, RG_22, RP_22, RG_23, RP_23, RG_24, RP_24, RG_25, RP_25, RG_26, RP_26, RG_27, RP_27, RG_28, RP_28, RG_29, RP_29, RG_30, RP_30, RG_31, RP_31, RG_32, RP_32, RN_33, Rld_33, Rst_33, RN_34, Rld_34, Rst_34, RN_35, Rld_35, Rst_35, RN_36, Rld_36, Rst_36, RN_37, Rld_37, Rst_37, RN_38, Rld_38, Rst_38, RN_39, Rld_39, Rst_39, RN_40, Rld_40, Rst_40, RN_41, Rld_41, Rst_41, RN_42, Rld_42, Rst_42, RN_43, Rld_43, Rst_43, RN_44, Rld_44, Rst_44, RN_45, Rld_45, Rst_45, RG_46, RP_46, RG_47, RP_47, RG_48, RP_48, RG_49, RP_49, RN_50, Rld_50, Rst_50, RN_51, Rld_51, Rst_51, RN_52, Rld_52, Rst_52, RN_53, Rld_53, Rst_53, RN_54, Rld_54, Rst_54, RN_55, Rld_55, Rst_55, RG_56, RP_56, RG_57, RP_57, RN_58, Rld_58, Rst_58, RN_59, Rld_59, Rst_59, RN_60, Rld_60, Rst_60, RG_61, RP_61, RG_62, RP_62, RG_63, RP_63, RG_64, RP_64, RG_65, RP_65, RG_66, RP_66, RG_67, RP_67, RG_68, RP_68, RG_69, RP_69, RG_70, RP_70, RG_71, RP_71, RN_72, Rld_72, Rst_72, RN_73, Rld_73, Rst_73, RN_74, Rld_74, Rst_74, RN_75, Rld_75, Rst_75, RN_76, Rld_76, Rst_76, RN_77, Rld_77, Rst_77, RN_78, Rld_78, Rst_78, RN_79, Rld_79, Rst_79, RN_80, Rld_80, Rst_80, RN_81, Rld_81, Rst_81, RN_82, Rld_82, Rst_82, RN_83, Rld_83, Rst_83, RN_84, Rld_84, Rst_84, RN_85, Rld_85, Rst_85, RN_86, Rld_86, Rst_86, RG_87, RP_87, RG_88, RP_88, RG_89, RP_89, RG_90, RP_90, RG_91, RP_91, RG_92, RP_92, RG_93, RP_93, RN_94, Rld_94, Rst_94, RN_95, Rld_95, Rst_95, RG_96, RP_96, RN_97, Rld_97, Rst_97, RN_98, Rld_98, Rst_98, RN_99, Rld_99, Rst_99, RN_100, Rld_100, Rst_100, RG_101, RP_101, RN_102, Rld_102, Rst_102, RN_103, Rld_103, Rst_103, RN_104, Rld_104, Rst_104, RG_105, RP_105, q_fi_sfi, q_fl_sfi, q_fr_sfi, q_ai_sfi, q_al_sfi, q_ar_sfi, q_ln_sfi, q_fi_sfl, q_fl_sfl, q_fr_sfl, q_ai_sfl, q_al_sfl, q_ar_sfl, q_ln_sfl, q_fi_sfr, q_fl_sfr, q_fr_sfr, q_ai_sfr, q_al_sfr, q_ar_sfr, q_ln_sfr, q_fi_sai, q_fl_sai, q_fr_sai, q_ai_sai, q_al_sai, q_ar_sai, q_ln_sai, q_fi_sal, q_fl_sal, q_fr_sal, q_ai_sal, q_al_sal, q_ar_sal, q_ln_sal, q_fi_sar, q_fl_sar, q_fr_sar, q_ai_sar, q_al_sar, q_ar_sar, q_ln_sar, reduceIte, Nat.reduceEqDiff, Option.bind_some, es, ed, ix_n (show 40 * tn + iN + p < 2147483648 by omega), ix_n (show 40 * un + jn + p < 2147483648 by omega), decide_eq_true (show 40 * tn + iN + p < 160 by omega), decide_eq_true (show 40 * un + jn + p < 160 by omega), if_true, c32 (show 40 * tn + iN + p < 2147483648 by omega), c32 (show 40 * un + jn + p < 2147483648 by omega), suc32, sal_sal]
      refine ⟨_, ⟨_, rfl, fun q => ?_⟩, rfl⟩
      have hsrc : f (40 * tn + iN + p) = al R 4 (40 * tn + iN + p) := by
        rw [hf, if_neg]
        rcases hy with ⟨y0, hji⟩ | ⟨y1, hij⟩
        · rw [hl1, if_pos y0, p2 y0]
          rcases Nat.lt_trichotomy tn un with q | q | q <;> omega
        · have y0 : y ≠ 0 := by rw [y1]; decide
          rw [hl1, if_neg y0, p3 y0]
          rcases Nat.lt_trichotomy tn un with q | q | q <;> omega
      unfold up
      by_cases hq : q = 40 * un + jn + p
      · rw [if_pos hq, hsrc, if_pos]
        · congr 1; omega
        · by_cases y0 : y = 0
          · have := p2 y0; rw [hl2, if_pos y0]; omega
          · have := p3 y0; rw [hl2, if_neg y0]; omega
      · rw [if_neg hq, hf]
        by_cases y0 : y = 0
        · have := p2 y0
          rw [hl1, hl2, if_pos y0, if_pos y0]
          by_cases c : 40 * un + jn + 0 ≤ q ∧ q < 40 * un + jn + 0 + k
          · rw [if_pos c, if_pos (by omega)]
          · rw [if_neg c, if_neg (by omega)]
        · have := p3 y0
          rw [hl1, hl2, if_neg y0, if_neg y0]
          by_cases c : 40 * un + jn + (nn - k) ≤ q ∧ q < 40 * un + jn + (nn - k) + k
          · rw [if_pos c, if_pos (by omega)]
          · rw [if_neg c, if_neg (by omega)]
    · rintro K _ ⟨f, rfl, hf⟩
      simp only [fbX12_pour_158, Int32.le_refl, if_true, bb_1, Option.bind_some]
      refine QB.ok hst rfl ?_
      have hl := hlo nn (by omega)
      have e0 : lo nn = 0 := by rw [hl]; split <;> omega
      have ef : f = va_cpy (al R 4) (al R 4) (40 * tn + iN) (40 * un + jn) nn := by
        funext q; rw [hf, e0]; unfold va_cpy; rfl
      rw [ef]
      exact frc_al (fr1 R) _ _
    · refine ⟨al R 4, ?_, fun q => by rw [if_neg (by omega)]⟩
      rw [show sal (sfi (sfi R 1 0) 0 0) 4 (al R 4) = sfi (sfi R 1 0) 0 0 from sal_self _ _ _ rfl]; rfl
  exact key (fun k => if y = 0 then 0 else nn - k) (fun k _ => rfl)
theorem r_pour (m : Nat) (ρ : Hs) (R : Gs) (hR : RT R) (t i u j n : Int32) : QB m ρ R (st_pour R t i u j n) (u_pour R t i u j n) (fX12_pour_0 (eR m ρ R) m t i u j n) := by
  unfold fX12_pour_0
  simp only [RP_1, RP_0, RisC, r_no, Option.bind_some, lt32, le32, i0, i4, bb_0]
  rcases Decidable.em (t.toInt < 0) with hc1 | hc1
  · rw [if_pos hc1]; exact QB.no (by decide) (by unfold st_pour; (repeat' split) <;> (first | rfl | omega)) (fr1 R)
  rw [if_neg hc1]
  rcases Decidable.em (4 ≤ t.toInt) with hc2 | hc2
  · rw [if_pos hc2]; exact QB.no (by decide) (by unfold st_pour; (repeat' split) <;> (first | rfl | omega)) (fr1 R)
  rw [if_neg hc2]
  rcases Decidable.em (u.toInt < 0) with hc3 | hc3
  · rw [if_pos hc3]; exact QB.no (by decide) (by unfold st_pour; (repeat' split) <;> (first | rfl | omega)) (fr1 R)
  rw [if_neg hc3]
  rcases Decidable.em (¬ (u.toInt < 4)) with hc4 | hc4
  · rw [if_neg hc4]; exact QB.no (by decide) (by unfold st_pour; (repeat' split) <;> (first | rfl | omega)) (fr1 R)
  replace hc4 := Decidable.not_not.mp hc4
  rw [if_pos hc4]
  obtain ⟨tn, rfl, t1, t2⟩ := get32 t (by omega)
  obtain ⟨un, rfl, u1, u2⟩ := get32 u (by omega)
  have ht : tn < 4 := by omega
  have hu : un < 4 := by omega
  have a1 := hR tn ht
  have a2 := hR un hu
  simp only [RisC, RG_0, RP_0, RG_1, RP_1, RN_2, Rld_2, Rst_2, RN_3, Rld_3, Rst_3, RN_4, Rld_4, Rst_4, RG_5, RP_5, RG_6, RP_6, RN_7, Rld_7, Rst_7, RN_8, Rld_8, Rst_8, RN_9, Rld_9, Rst_9, RN_10, Rld_10, Rst_10, RG_11, RP_11, RG_12, RP_12, RN_13, Rld_13, Rst_13, RN_14, Rld_14, Rst_14, RN_15, Rld_15, Rst_15, RN_16, Rld_16, Rst_16, RG_17, RP_17, RG_18, RP_18, RG_19, RP_19, RG_20, RP_20, RG_21, RP_21, RG_22, RP_22, RG_23, RP_23, RG_24, RP_24, RG_25, RP_25, RG_26, RP_26, RG_27, RP_27, RG_28, RP_28, RG_29, RP_29, RG_30, RP_30, RG_31, RP_31, RG_32, RP_32, RN_33, Rld_33, Rst_33, RN_34, Rld_34, Rst_34, RN_35, Rld_35, Rst_35, RN_36, Rld_36, Rst_36, RN_37, Rld_37, Rst_37, RN_38, Rld_38, Rst_38, RN_39, Rld_39, Rst_39, RN_40, Rld_40, Rst_40, RN_41, Rld_41, Rst_41, RN_42, Rld_42, Rst_42, RN_43, Rld_43, Rst_43, RN_44, Rld_44, Rst_44, RN_45, Rld_45, Rst_45, RG_46, RP_46, RG_47, RP_47, RG_48, RP_48, RG_49, RP_49, RN_50, Rld_50, Rst_50, RN_51, Rld_51, Rst_51, RN_52, Rld_52, Rst_52, RN_53, Rld_53, Rst_53, RN_54, Rld_54, Rst_54, RN_55, Rld_55, Rst_55, RG_56, RP_56, RG_57, RP_57, RN_58, Rld_58, Rst_58, RN_59, Rld_59, Rst_59, RN_60, Rld_60, Rst_60, RG_61, RP_61, RG_62, RP_62, RG_63, RP_63, RG_64, RP_64, RG_65, RP_65, RG_66, RP_66, RG_67, RP_67, RG_68, RP_68, RG_69, RP_69, RG_70, RP_70, RG_71, RP_71, RN_72, Rld_72, Rst_72, RN_73, Rld_73, Rst_73, RN_74, Rld_74, Rst_74, RN_75, Rld_75, Rst_75, RN_76, Rld_76, Rst_76, RN_77, Rld_77, Rst_77, RN_78, Rld_78, Rst_78, RN_79, Rld_79, Rst_79, RN_80, Rld_80, Rst_80, RN_81, Rld_81, Rst_81, RN_82, Rld_82, Rst_82, RN_83, Rld_83, Rst_83, RN_84, Rld_84, Rst_84, RN_85, Rld_85, Rst_85, RN_86, Rld_86, Rst_86, RG_87, RP_87, RG_88, RP_88, RG_89, RP_89, RG_90, RP_90, RG_91, RP_91, RG_92, RP_92, RG_93, RP_93, RN_94, Rld_94, Rst_94, RN_95, Rld_95, Rst_95, RG_96, RP_96, RN_97, Rld_97, Rst_97, RN_98, Rld_98, Rst_98, RN_99, Rld_99, Rst_99, RN_100, Rld_100, Rst_100, RG_101, RP_101, RN_102, Rld_102, Rst_102, RN_103, Rld_103, Rst_103, RN_104, Rld_104, Rst_104, RG_105, RP_105, q_fi_sfi, q_fl_sfi, q_fr_sfi, q_ai_sfi, q_al_sfi, q_ar_sfi, q_ln_sfi, q_fi_sfl, q_fl_sfl, q_fr_sfl, q_ai_sfl, q_al_sfl, q_ar_sfl, q_ln_sfl, q_fi_sfr, q_fl_sfr, q_fr_sfr, q_ai_sfr, q_al_sfr, q_ar_sfr, q_ln_sfr, q_fi_sai, q_fl_sai, q_fr_sai, q_ai_sai, q_al_sai, q_ar_sai, q_ln_sai, q_fi_sal, q_fl_sal, q_fr_sal, q_ai_sal, q_al_sal, q_ar_sal, q_ln_sal, q_fi_sar, q_fl_sar, q_fr_sar, q_ai_sar, q_al_sar, q_ar_sar, q_ln_sar, reduceIte, Nat.reduceEqDiff, Option.bind_some, ix_n t1, ix_n u1, decide_eq_true ht, decide_eq_true hu, if_true, c32 t1, c32 u1]
  have hs : st_pour R (Int32.ofNat tn) i (Int32.ofNat un) j n = if (ai R 3 tn).toInt < 0 ∨ (ai R 3 un).toInt < 0 then 3 else if ai R 2 tn ≠ ai R 2 un then 11 else if n.toInt < 0 then 6 else if i.toInt < 0 ∨ j.toInt < 0 ∨ (ai R 3 tn).toInt < i.toInt + n.toInt ∨ (ai R 3 un).toInt < j.toInt + n.toInt then 4 else 0 := by
    unfold st_pour; rw [if_neg (by omega), c32 t1, c32 u1]
  rcases Decidable.em ((ai R 3 tn).toInt < 0) with hc5 | hc5
  · rw [if_pos hc5]; exact QB.no (by decide) (by rw [hs, if_pos (Or.inl hc5)]) (fr1 R)
  rw [if_neg hc5]
  rcases Decidable.em (¬ (0 ≤ (ai R 3 un).toInt)) with hc6 | hc6
  · rw [if_neg hc6]; exact QB.no (by decide) (by rw [hs, if_pos (Or.inr (by omega))]) (fr1 R)
  replace hc6 := Decidable.not_not.mp hc6
  rw [if_pos hc6]
  rw [if_neg (by omega)] at hs
  rcases Decidable.em (¬ (ai R 2 tn = ai R 2 un)) with hc7 | hc7
  · rw [if_neg hc7]; exact QB.no (by decide) (by rw [hs, if_pos hc7]) (fr1 R)
  replace hc7 := Decidable.not_not.mp hc7
  rw [if_pos hc7]
  rw [if_neg (fun q => q hc7)] at hs
  rcases Decidable.em (¬ (0 ≤ n.toInt)) with hc8 | hc8
  · rw [if_neg hc8]; exact QB.no (by decide) (by rw [hs, if_pos (by omega)]) (fr1 R)
  replace hc8 := Decidable.not_not.mp hc8
  rw [if_pos hc8]
  rw [if_neg (by omega)] at hs
  rcases Decidable.em (i.toInt < 0) with hc9 | hc9
  · rw [if_pos hc9]; exact QB.no (by decide) (by rw [hs, if_pos (by omega)]) (fr1 R)
  rw [if_neg hc9]
  rcases Decidable.em (j.toInt < 0) with hc10 | hc10
  · rw [if_pos hc10]; exact QB.no (by decide) (by rw [hs, if_pos (by omega)]) (fr1 R)
  rw [if_neg hc10]
  have r1 := r32 i
  have r2 := r32 j
  have r3 := r32 n
  have e1 : (i.toInt64 + n.toInt64).toInt = i.toInt + n.toInt := by rw [add64, up64, up64]; rw [up64, up64]; omega
  have e2 : (j.toInt64 + n.toInt64).toInt = j.toInt + n.toInt := by rw [add64, up64, up64]; rw [up64, up64]; omega
  simp only [lt64, le64, e1, e2, up64]
  rcases Decidable.em ((ai R 3 tn).toInt < i.toInt + n.toInt) with hc11 | hc11
  · rw [if_pos hc11]; exact QB.no (by decide) (by rw [hs, if_pos (by omega)]) (fr1 R)
  rw [if_neg hc11]
  rcases Decidable.em (¬ (j.toInt + n.toInt ≤ (ai R 3 un).toInt)) with hc12 | hc12
  · rw [if_neg hc12]; exact QB.no (by decide) (by rw [hs, if_pos (by omega)]) (fr1 R)
  replace hc12 := Decidable.not_not.mp hc12
  rw [if_pos hc12]
  rw [if_neg (by omega)] at hs
  obtain ⟨iN, rfl, p1, p2⟩ := get32 i (by omega)
  obtain ⟨jn, rfl, p3, p4⟩ := get32 j (by omega)
  obtain ⟨nn, rfl, p5, p6⟩ := get32 n (by omega)
  unfold u_pour
  rw [c32 t1, c32 u1, c32 p1, c32 p3, c32 p5]
  by_cases hle : (Int32.ofNat jn).toInt ≤ (Int32.ofNat iN).toInt
  · rw [if_pos hle]
    exact r_pour158 hs ht hu (by omega) (by omega) 0 (Or.inl ⟨rfl, by omega⟩)
  · rw [if_neg hle]
    exact r_pour158 hs ht hu (by omega) (by omega) 1 (Or.inr ⟨rfl, by omega⟩)
