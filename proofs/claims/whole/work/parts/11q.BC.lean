noncomputable def cb (p : Prop) : Int32 := @b2i p (Classical.propDecidable p)
theorem cb_t {p : Prop} (h : p) : cb p = 1 := if_pos h
theorem cb_f {p : Prop} (h : ¬ p) : cb p = 0 := if_neg h
theorem cb_b {p : Prop} [Decidable p] : b2i p = cb p := by
  by_cases h : p
  · rw [cb_t h]; exact if_pos h
  · rw [cb_f h]; exact if_neg h
theorem cb_c {p q : Prop} (h : p ↔ q) : cb p = cb q := by rw [propext h]
def lstG (R : Gs) (nL nN : Nat) (bl : Nat → Bool) (c d : Int32) (i : Nat) : Prop := gvn R nL nN bl c d i ∧ ∀ j, i < j → ¬ gvn R nL nN bl c d j
section
variable {m : Nat} {ρ : Hs} {R : Gs} {nL nN nS nC : Nat} {bl : Nat → Bool}
theorem tab_ex (hL : RLp R nL) (hN : RN R nN) (hB : HB m ρ R nN bl) (c : Int32) : ∃ n f g, isTab R nL nN bl c n f g := by
  obtain ⟨R', n, h1, h2, h3, h4, h5⟩ := r_takeClock (m := m) (ρ := ρ) (c := c) hL hN hB
  exact ⟨n, _, _, h4, h5⟩
theorem tcl_kd {c d y : Int32} (hx : ∃ n f g, isTab R nL nN bl c n f g) (h : mc R nL nN bl c d y) : kd (tcl R nL nN bl c) d.toInt = y.toInt := by
  obtain ⟨n, f, g, ht⟩ := hx
  rw [← kd_perm (tcl_perm ht)]
  obtain ⟨i, hi, h1, h2⟩ := (ht.2 d y).mpr h
  rw [kd_at hi ht.1.2.2 h1, h2]
theorem tcl_kd0 {c d : Int32} (hx : ∃ n f g, isTab R nL nN bl c n f g) (h : ∀ y, ¬ mc R nL nN bl c d y) : kd (tcl R nL nN bl c) d.toInt = 0 := by
  obtain ⟨n, f, g, ht⟩ := hx
  rw [← kd_perm (tcl_perm ht)]
  exact kd_no (fun i hi e => h (g i) ((ht.2 d (g i)).mp ⟨i, hi, e, rfl⟩))
theorem r_noticeOf (hL : RLp R nL) (hN : RN R nN) (hB : HB m ρ R nN bl) {R0 : Gs} (hF0 : Fr SCR R R0) (h6 : ∃ k, k ≤ 60 ∧ fi R0 6 = Int32.ofNat k) (c d : Int32) :
    ∃ r R', fX12_noticeOf_0 (eR m ρ R0) m c d = some (r, eR m ρ R') ∧ Fr (102 :: 103 :: SB) R0 R' ∧ ((∃ i, r = Int32.ofNat i ∧ lstG R nL nN bl c d i) ∨ (r = -1 ∧ ∀ i, ¬ gvn R nL nN bl c d i)) ∧ H6 R' := by
  have h60 := hN.2.1
  have e48 : fi R0 48 = Int32.ofNat nN := (hF0.i 48 (by decide)).trans hN.1
  unfold fX12_noticeOf_0
  simp only [RG_48, Option.bind_some, e48]
  unfold fX12_noticeOf_7
  refine lp_q nN (fun k z => ∃ R1, z = (eR m ρ R1, m, c, d, Int32.ofNat (nN - k) - 1) ∧ Fr (102 :: 103 :: SB) R0 R1 ∧ (∃ k, k ≤ 60 ∧ fi R1 6 = Int32.ofNat k) ∧ ∀ i, nN - k ≤ i → ¬ gvn R nL nN bl c d i) (fun X => ∃ r R', X = some (r, eR m ρ R') ∧ Fr (102 :: 103 :: SB) R0 R' ∧ ((∃ i, r = Int32.ofNat i ∧ lstG R nL nN bl c d i) ∨ (r = -1 ∧ ∀ i, ¬ gvn R nL nN bl c d i)) ∧ H6 R') ?_ ?_ fu 0 _ (by omega) ⟨R0, rfl, Fr.refl _ _, h6, fun i hi hg => by have := hg.1; omega⟩ (by unfold fu; omega)
  · rintro K k _ hk ⟨R1, rfl, hF, ⟨kh, kh1, kh2⟩, hno⟩
    have hS : Fr SCR R R1 := hF0.trans (hF.mono (by decide))
    generalize hi : nN - k - 1 = i
    have e0 : Int32.ofNat (nN - k) - 1 = Int32.ofNat i := by rw [ofNat_m1 (by omega), hi]
    have e1 : Int32.ofNat i + -1 = Int32.ofNat i - 1 := (Int32.sub_eq_add_neg _ _).symm
    have hneg : ¬ Int32.ofNat i < 0 := by rw [lt32, n32 (by omega), i0]; omega
    have e52 := hS.ai 52 (by decide)
    have e53 := hS.ai 53 (by decide)
    have hstep : ¬ gvn R nL nN bl c d i → ∀ j, i ≤ j → ¬ gvn R nL nN bl c d j := by
      intro hni j hj
      rcases Nat.lt_or_ge j (nN - k) with q | q
      · have : j = i := by omega
        rw [this]; exact hni
      · exact hno j q
    simp only [fbX12_noticeOf_7, e0, if_neg hneg, RisC, RG_0, RP_0, RG_1, RP_1, RN_2, Rld_2, Rst_2, RN_3, Rld_3, Rst_3, RN_4, Rld_4, Rst_4, RG_5, RP_5, RG_6, RP_6, RN_7, Rld_7, Rst_7, RN_8, Rld_8, Rst_8, RN_9, Rld_9, Rst_9, RN_10, Rld_10, Rst_10, RG_11, RP_11, RG_12, RP_12, RN_13, Rld_13, Rst_13, RN_14, Rld_14, Rst_14, RN_15, Rld_15, Rst_15, RN_16, Rld_16, Rst_16, RG_17, RP_17, RG_18, RP_18, RG_19, RP_19, RG_20, RP_20, RG_21, RP_21, RG_22, RP_22, RG_23, RP_23, RG_24, RP_24, RG_25, RP_25, RG_26, RP_26, RG_27, RP_27, RG_28, RP_28, RG_29, RP_29, RG_30, RP_30, RG_31, RP_31, RG_32, RP_32, RN_33, Rld_33, Rst_33, RN_34, Rld_34, Rst_34, RN_35, Rld_35, Rst_35, RN_36, Rld_36, Rst_36, RN_37, Rld_37, Rst_37, RN_38, Rld_38, Rst_38, RN_39, Rld_39, Rst_39, RN_40, Rld_40, Rst_40, RN_41, Rld_41, Rst_41, RN_42, Rld_42, Rst_42, RN_43, Rld_43, Rst_43, RN_44, Rld_44, Rst_44, RN_45, Rld_45, Rst_45, RG_46, RP_46, RG_47, RP_47, RG_48, RP_48, RG_49, RP_49, RN_50, Rld_50, Rst_50, RN_51, Rld_51, Rst_51, RN_52, Rld_52, Rst_52, RN_53, Rld_53, Rst_53, RN_54, Rld_54, Rst_54, RN_55, Rld_55, Rst_55, RG_56, RP_56, RG_57, RP_57, RN_58, Rld_58, Rst_58, RN_59, Rld_59, Rst_59, RN_60, Rld_60, Rst_60, RG_61, RP_61, RG_62, RP_62, RG_63, RP_63, RG_64, RP_64, RG_65, RP_65, RG_66, RP_66, RG_67, RP_67, RG_68, RP_68, RG_69, RP_69, RG_70, RP_70, RG_71, RP_71, RN_72, Rld_72, Rst_72, RN_73, Rld_73, Rst_73, RN_74, Rld_74, Rst_74, RN_75, Rld_75, Rst_75, RN_76, Rld_76, Rst_76, RN_77, Rld_77, Rst_77, RN_78, Rld_78, Rst_78, RN_79, Rld_79, Rst_79, RN_80, Rld_80, Rst_80, RN_81, Rld_81, Rst_81, RN_82, Rld_82, Rst_82, RN_83, Rld_83, Rst_83, RN_84, Rld_84, Rst_84, RN_85, Rld_85, Rst_85, RN_86, Rld_86, Rst_86, RG_87, RP_87, RG_88, RP_88, RG_89, RP_89, RG_90, RP_90, RG_91, RP_91, RG_92, RP_92, RG_93, RP_93, RN_94, Rld_94, Rst_94, RN_95, Rld_95, Rst_95, RG_96, RP_96, RN_97, Rld_97, Rst_97, RN_98, Rld_98, Rst_98, RN_99, Rld_99, Rst_99, RN_100, Rld_100, Rst_100, RG_101, RP_101, RN_102, Rld_102, Rst_102, RN_103, Rld_103, Rst_103, RN_104, Rld_104, Rst_104, RG_105, RP_105, Option.bind_some, e52, e53, ix_n (show i < 2147483648 by omega), decide_eq_true (show i < 60 by omega), if_true, c32 (show i < 2147483648 by omega)]
    by_cases hc : ai R 52 i = c
    · rw [if_pos hc]
      by_cases hd : ai R 53 i = d
      · rw [if_pos hd]
        obtain ⟨R2, c1, c2, c3, c4⟩ := r_counts (m := m) (ρ := ρ) (RLp.fr hS hL).1 (RN.fr hS hN) (HB.fr hS hB) (show i < nN by omega) kh2 kh1
        have hI : itm R1 nL i ↔ itm R nL i := by unfold itm; rw [(RLp.fr hS hL).2, hS.ai 55 (by decide), hS.ai 53 (by decide)]
        simp only [c1, Option.bind_some, b2i_0]
        by_cases hg : itm R1 nL i ∧ bl i = true
        · right
          rw [if_neg (fun q => q hg)]
          refine ⟨_, R2, rfl, hF.trans c2, Or.inl ⟨i, rfl, ⟨by omega, hc, hd, hI.mp hg.1, hg.2⟩, fun j hj => ?_⟩, kh, kh1, c3⟩
          exact hno j (by omega)
        · left
          rw [if_pos hg, e1]
          exact ⟨_, ⟨R2, rfl, hF.trans c2, ⟨kh, kh1, c3⟩, hstep (fun q => hg ⟨hI.mpr q.2.2.2.1, q.2.2.2.2⟩)⟩, rfl⟩
      · left
        rw [if_neg hd, e1]
        exact ⟨_, ⟨R1, rfl, hF, ⟨kh, kh1, kh2⟩, hstep (fun q => hd q.2.2.1)⟩, rfl⟩
    · left
      rw [if_neg hc, e1]
      exact ⟨_, ⟨R1, rfl, hF, ⟨kh, kh1, kh2⟩, hstep (fun q => hc q.2.1)⟩, rfl⟩
  · rintro K _ ⟨R1, rfl, hF, h6', hno⟩
    have e0 : (Int32.ofNat (nN - nN) - 1 : Int32) < 0 := by rw [Nat.sub_self]; decide
    simp only [fbX12_noticeOf_7, if_pos e0]
    exact ⟨_, R1, rfl, hF, Or.inr ⟨rfl, fun i => hno i (by omega)⟩, h6'⟩
def st_table (n : Nat) (c d : Int32) : Int32 := if ¬ (0 ≤ c.toInt ∧ c.toInt < n) then 2 else if ¬ (0 ≤ d.toInt ∧ d.toInt ≤ 9999) then 5 else 0
theorem r_table (hL : RLp R nL) (hN : RN R nN) (hB : HB m ρ R nN bl) (hC : fi R 11 = Int32.ofNat nC) (h12 : nC ≤ 12) (h6 : ∃ k, k ≤ 60 ∧ fi R 6 = Int32.ofNat k) (c d : Int32) : QI m ρ R (st_table nC c d) (Int32.ofInt (kd (tcl R nL nN bl c) d.toInt)) R (fX12_table_0 (eR m ρ R) m c d) := by
  have hC' : fi (sfi (sfi R 1 0) 0 0) 11 = Int32.ofNat nC := hC
  have hx := tab_ex hL hN hB c
  unfold fX12_table_0
  simp only [RP_1, RP_0, RisC, r_refuse, r_isClock hC' h12, r_isDay, Option.bind_some, b2i_0]
  rcases Decidable.em (¬ (0 ≤ c.toInt ∧ c.toInt < nC)) with hc1 | hc1
  · rw [if_pos hc1]; exact QI.no (by decide) (by unfold st_table; (repeat' split) <;> (first | rfl | omega)) (fr1 R)
  rw [if_neg hc1]
  rcases Decidable.em (¬ (0 ≤ d.toInt ∧ d.toInt ≤ 9999)) with hc2 | hc2
  · rw [if_pos hc2]; exact QI.no (by decide) (by unfold st_table; (repeat' split) <;> (first | rfl | omega)) (fr1 R)
  rw [if_neg hc2]
  have hst : st_table nC c d = 0 := (by unfold st_table; (repeat' split) <;> (first | rfl | omega))
  obtain ⟨r, R', e1, e2, e3, e4⟩ := r_noticeOf hL hN hB (fr1 R) h6 c d
  have hF : Fr SC0 R R' := (fr1 R).trans (e2.mono (by decide))
  have h0 : fi R' 0 = 0 := by rw [e2.i 0 (by decide)]; rfl
  simp only [e1, Option.bind_some, le32, i0]
  rcases e3 with ⟨i, rfl, hg⟩ | ⟨rfl, hno⟩
  · have hi := hg.1.1
    have h60 := hN.2.1
    have e54 := hF.ai 54 (by decide)
    rw [if_pos (by rw [n32 (by omega)]; omega)]
    simp only [RisC, RG_0, RP_0, RG_1, RP_1, RN_2, Rld_2, Rst_2, RN_3, Rld_3, Rst_3, RN_4, Rld_4, Rst_4, RG_5, RP_5, RG_6, RP_6, RN_7, Rld_7, Rst_7, RN_8, Rld_8, Rst_8, RN_9, Rld_9, Rst_9, RN_10, Rld_10, Rst_10, RG_11, RP_11, RG_12, RP_12, RN_13, Rld_13, Rst_13, RN_14, Rld_14, Rst_14, RN_15, Rld_15, Rst_15, RN_16, Rld_16, Rst_16, RG_17, RP_17, RG_18, RP_18, RG_19, RP_19, RG_20, RP_20, RG_21, RP_21, RG_22, RP_22, RG_23, RP_23, RG_24, RP_24, RG_25, RP_25, RG_26, RP_26, RG_27, RP_27, RG_28, RP_28, RG_29, RP_29, RG_30, RP_30, RG_31, RP_31, RG_32, RP_32, RN_33, Rld_33, Rst_33, RN_34, Rld_34, Rst_34, RN_35, Rld_35, Rst_35, RN_36, Rld_36, Rst_36, RN_37, Rld_37, Rst_37, RN_38, Rld_38, Rst_38, RN_39, Rld_39, Rst_39, RN_40, Rld_40, Rst_40, RN_41, Rld_41, Rst_41, RN_42, Rld_42, Rst_42, RN_43, Rld_43, Rst_43, RN_44, Rld_44, Rst_44, RN_45, Rld_45, Rst_45, RG_46, RP_46, RG_47, RP_47, RG_48, RP_48, RG_49, RP_49, RN_50, Rld_50, Rst_50, RN_51, Rld_51, Rst_51, RN_52, Rld_52, Rst_52, RN_53, Rld_53, Rst_53, RN_54, Rld_54, Rst_54, RN_55, Rld_55, Rst_55, RG_56, RP_56, RG_57, RP_57, RN_58, Rld_58, Rst_58, RN_59, Rld_59, Rst_59, RN_60, Rld_60, Rst_60, RG_61, RP_61, RG_62, RP_62, RG_63, RP_63, RG_64, RP_64, RG_65, RP_65, RG_66, RP_66, RG_67, RP_67, RG_68, RP_68, RG_69, RP_69, RG_70, RP_70, RG_71, RP_71, RN_72, Rld_72, Rst_72, RN_73, Rld_73, Rst_73, RN_74, Rld_74, Rst_74, RN_75, Rld_75, Rst_75, RN_76, Rld_76, Rst_76, RN_77, Rld_77, Rst_77, RN_78, Rld_78, Rst_78, RN_79, Rld_79, Rst_79, RN_80, Rld_80, Rst_80, RN_81, Rld_81, Rst_81, RN_82, Rld_82, Rst_82, RN_83, Rld_83, Rst_83, RN_84, Rld_84, Rst_84, RN_85, Rld_85, Rst_85, RN_86, Rld_86, Rst_86, RG_87, RP_87, RG_88, RP_88, RG_89, RP_89, RG_90, RP_90, RG_91, RP_91, RG_92, RP_92, RG_93, RP_93, RN_94, Rld_94, Rst_94, RN_95, Rld_95, Rst_95, RG_96, RP_96, RN_97, Rld_97, Rst_97, RN_98, Rld_98, Rst_98, RN_99, Rld_99, Rst_99, RN_100, Rld_100, Rst_100, RG_101, RP_101, RN_102, Rld_102, Rst_102, RN_103, Rld_103, Rst_103, RN_104, Rld_104, Rst_104, RG_105, RP_105, e54, Option.bind_some, ix_n (show i < 2147483648 by omega), decide_eq_true (show i < 60 by omega), if_true, c32 (show i < 2147483648 by omega)]
    exact QI.ok hst (ofI (tcl_kd hx ⟨i, hg.1, rfl, hg.2⟩).symm) h0 hF (fun _ => e4)
  · rw [if_neg (by decide)]
    refine QI.ok hst ?_ h0 hF (fun _ => e4)
    rw [tcl_kd0 hx (fun y q => by obtain ⟨i, q1, _⟩ := q; exact hno i q1)]; rfl
def st_told (nN : Nat) (n w : Int32) : Int32 := if ¬ (0 ≤ n.toInt ∧ n.toInt < nN) then 2 else if ¬ (0 ≤ w.toInt ∧ w.toInt ≤ 3) then 5 else 0
def tol (R : Gs) (nL nN : Nat) (bl : Nat → Bool) (i : Nat) (w : Int32) : Prop := if w = 0 then itm R nL i else if w = 1 then bl i = true else kd (tru R nL) (ai R 53 i).toInt ≠ (ai R 54 i).toInt ∧ (w = 2 ∨ lstG R nL nN bl (ai R 52 i) (ai R 53 i) i)
theorem r_told74 (hL : RLp R nL) (hN : RN R nN) (hB : HB m ρ R nN bl) (h6 : ∃ k, k ≤ 60 ∧ fi R 6 = Int32.ofNat k) {i : Nat} (hi : i < nN) (w y st : Int32) (hst : st = 0) (hw : 0 ≤ w.toInt ∧ w.toInt ≤ 3) (hy : y = cb (kd (tru R nL) (ai R 53 i).toInt ≠ (ai R 54 i).toInt)) : QI m ρ R st (cb (tol R nL nN bl i w)) R (fX12_told__74 (eR m ρ (sfi (sfi R 1 0) 0 0)) m (Int32.ofNat i) w y) := by
  have h60 := hN.2.1
  have hFr := fr1 R
  have hL' := (RLp.fr hFr hL).1
  have hN' := RN.fr hFr hN
  have hI : itm (sfi (sfi R 1 0) 0 0) nL i ↔ itm R nL i := Iff.rfl
  unfold fX12_told__74
  simp only [RisC, Option.bind_some]
  by_cases w0 : w = 0
  · rw [if_pos w0]
    have et : tol R nL nN bl i w ↔ itm R nL i := by unfold tol; rw [if_pos w0]
    rw [cb_c et]
    obtain ⟨R1, a1, a2, a3⟩ := r_isInTime (m := m) (ρ := ρ) hL' hN' hi
    have hF : Fr SC0 R R1 := hFr.trans (a2.mono (by decide))
    have h0 : fi R1 0 = 0 := by rw [a2.i 0 (by decide)]; rfl
    simp only [a1, Option.bind_some, b2i_0]
    by_cases q : itm R nL i
    · rw [if_neg (fun r => r (hI.mpr q))]; exact QI.ok hst (cb_t q) h0 hF (fun _ => a3)
    · rw [if_pos (fun r => q (hI.mp r))]; exact QI.ok hst (cb_f q) h0 hF (fun _ => a3)
  · rw [if_neg w0]
    by_cases w1 : w = 1
    · rw [if_pos w1]
      have et : tol R nL nN bl i w ↔ bl i = true := by unfold tol; rw [if_neg w0, if_pos w1]
      rw [cb_c et]
      obtain ⟨R1, a1, a2, a3⟩ := hB _ hFr i hi
      have hF : Fr SC0 R R1 := hFr.trans (a2.mono (by decide))
      have h0 : fi R1 0 = 0 := by rw [a2.i 0 (by decide)]; rfl
      simp only [a1, Option.bind_some, b2i_0]
      by_cases q : bl i = true
      · rw [if_neg (fun r => r q)]; exact QI.ok hst (cb_t q) h0 hF (fun _ => a3)
      · rw [if_pos q]; exact QI.ok hst (cb_f q) h0 hF (fun _ => a3)
    · rw [if_neg w1]
      have et : tol R nL nN bl i w ↔ kd (tru R nL) (ai R 53 i).toInt ≠ (ai R 54 i).toInt ∧ (w = 2 ∨ lstG R nL nN bl (ai R 52 i) (ai R 53 i) i) := by unfold tol; rw [if_neg w0, if_neg w1]
      rw [cb_c et]
      by_cases hk : kd (tru R nL) (ai R 53 i).toInt ≠ (ai R 54 i).toInt
      · rw [cb_t hk] at hy
        subst hy
        rw [if_neg (show ¬ (1 : Int32) = 0 by decide), if_neg (show ¬ (1 : Int32) = 0 by decide)]
        by_cases w2 : w = 2
        · rw [if_pos w2]; exact QI.ok hst (cb_t ⟨hk, Or.inl w2⟩) rfl hFr
        · rw [if_neg w2]
          obtain ⟨r, R', e1, e2, e3, a3⟩ := r_noticeOf hL hN hB hFr h6 (ai R 52 i) (ai R 53 i)
          have hF : Fr SC0 R R' := hFr.trans (e2.mono (by decide))
          have h0 : fi R' 0 = 0 := by rw [e2.i 0 (by decide)]; rfl
          simp only [RisC, RG_0, RP_0, RG_1, RP_1, RN_2, Rld_2, Rst_2, RN_3, Rld_3, Rst_3, RN_4, Rld_4, Rst_4, RG_5, RP_5, RG_6, RP_6, RN_7, Rld_7, Rst_7, RN_8, Rld_8, Rst_8, RN_9, Rld_9, Rst_9, RN_10, Rld_10, Rst_10, RG_11, RP_11, RG_12, RP_12, RN_13, Rld_13, Rst_13, RN_14, Rld_14, Rst_14, RN_15, Rld_15, Rst_15, RN_16, Rld_16, Rst_16, RG_17, RP_17, RG_18, RP_18, RG_19, RP_19, RG_20, RP_20, RG_21, RP_21, RG_22, RP_22, RG_23, RP_23, RG_24, RP_24, RG_25, RP_25, RG_26, RP_26, RG_27, RP_27, RG_28, RP_28, RG_29, RP_29, RG_30, RP_30, RG_31, RP_31, RG_32, RP_32, RN_33, Rld_33, Rst_33, RN_34, Rld_34, Rst_34, RN_35, Rld_35, Rst_35, RN_36, Rld_36, Rst_36, RN_37, Rld_37, Rst_37, RN_38, Rld_38, Rst_38, RN_39, Rld_39, Rst_39, RN_40, Rld_40, Rst_40, RN_41, Rld_41, Rst_41, RN_42, Rld_42, Rst_42, RN_43, Rld_43, Rst_43, RN_44, Rld_44, Rst_44, RN_45, Rld_45, Rst_45, RG_46, RP_46, RG_47, RP_47, RG_48, RP_48, RG_49, RP_49, RN_50, Rld_50, Rst_50, RN_51, Rld_51, Rst_51, RN_52, Rld_52, Rst_52, RN_53, Rld_53, Rst_53, RN_54, Rld_54, Rst_54, RN_55, Rld_55, Rst_55, RG_56, RP_56, RG_57, RP_57, RN_58, Rld_58, Rst_58, RN_59, Rld_59, Rst_59, RN_60, Rld_60, Rst_60, RG_61, RP_61, RG_62, RP_62, RG_63, RP_63, RG_64, RP_64, RG_65, RP_65, RG_66, RP_66, RG_67, RP_67, RG_68, RP_68, RG_69, RP_69, RG_70, RP_70, RG_71, RP_71, RN_72, Rld_72, Rst_72, RN_73, Rld_73, Rst_73, RN_74, Rld_74, Rst_74, RN_75, Rld_75, Rst_75, RN_76, Rld_76, Rst_76, RN_77, Rld_77, Rst_77, RN_78, Rld_78, Rst_78, RN_79, Rld_79, Rst_79, RN_80, Rld_80, Rst_80, RN_81, Rld_81, Rst_81, RN_82, Rld_82, Rst_82, RN_83, Rld_83, Rst_83, RN_84, Rld_84, Rst_84, RN_85, Rld_85, Rst_85, RN_86, Rld_86, Rst_86, RG_87, RP_87, RG_88, RP_88, RG_89, RP_89, RG_90, RP_90, RG_91, RP_91, RG_92, RP_92, RG_93, RP_93, RN_94, Rld_94, Rst_94, RN_95, Rld_95, Rst_95, RG_96, RP_96, RN_97, Rld_97, Rst_97, RN_98, Rld_98, Rst_98, RN_99, Rld_99, Rst_99, RN_100, Rld_100, Rst_100, RG_101, RP_101, RN_102, Rld_102, Rst_102, RN_103, Rld_103, Rst_103, RN_104, Rld_104, Rst_104, RG_105, RP_105, q_fi_sfi, q_fl_sfi, q_fr_sfi, q_ai_sfi, q_al_sfi, q_ar_sfi, q_ln_sfi, q_fi_sfl, q_fl_sfl, q_fr_sfl, q_ai_sfl, q_al_sfl, q_ar_sfl, q_ln_sfl, q_fi_sfr, q_fl_sfr, q_fr_sfr, q_ai_sfr, q_al_sfr, q_ar_sfr, q_ln_sfr, q_fi_sai, q_fl_sai, q_fr_sai, q_ai_sai, q_al_sai, q_ar_sai, q_ln_sai, q_fi_sal, q_fl_sal, q_fr_sal, q_ai_sal, q_al_sal, q_ar_sal, q_ln_sal, q_fi_sar, q_fl_sar, q_fr_sar, q_ai_sar, q_al_sar, q_ar_sar, q_ln_sar, reduceIte, Nat.reduceEqDiff, Option.bind_some, ix_n (show i < 2147483648 by omega), decide_eq_true (show i < 60 by omega), if_true, c32 (show i < 2147483648 by omega), e1]
          rcases e3 with ⟨i', rfl, hg⟩ | ⟨rfl, hno⟩
          · have hi' := hg.1.1
            simp only [eqn (show i' < 2147483648 by omega) (show i < 2147483648 by omega)]
            by_cases hii : i' = i
            · rw [if_pos hii]; subst hii
              exact QI.ok hst (cb_t ⟨hk, Or.inr hg⟩) h0 hF (fun _ => a3)
            · rw [if_neg hii]
              refine QI.ok hst (cb_f ?_) h0 hF (fun _ => a3)
              rintro ⟨_, q | q⟩
              · exact w2 q
              · rcases Nat.lt_trichotomy i i' with r | r | r
                · exact q.2 i' r hg.1
                · exact hii r.symm
                · exact hg.2 i r q.1
          · rw [if_neg]
            · refine QI.ok hst (cb_f ?_) h0 hF (fun _ => a3)
              rintro ⟨_, q | q⟩
              · exact w2 q
              · exact hno i q.1
            · rw [eq32, n32 (by omega), im1]; omega
      · rw [cb_f hk] at hy
        subst hy
        rw [if_pos rfl, if_pos rfl]
        have hcf : ¬ (kd (tru R nL) (ai R 53 i).toInt ≠ (ai R 54 i).toInt ∧ (w = 2 ∨ lstG R nL nN bl (ai R 52 i) (ai R 53 i) i)) := fun q => hk q.1
        split
        · exact QI.ok hst (cb_f hcf) rfl hFr
        · exact QI.ok hst (cb_f hcf) rfl hFr
theorem r_tld (hL : RLp R nL) (hN : RN R nN) (hB : HB m ρ R nN bl) (h6 : ∃ k, k ≤ 60 ∧ fi R 6 = Int32.ofNat k) (n w : Int32) : QI m ρ R (st_told nN n w) (cb (tol R nL nN bl n.toNatClampNeg w)) R (fX12_told__0 (eR m ρ R) m n w) := by
  have h60 := hN.2.1
  have eV : ((Int32.ofNat nN - 1).toInt64).toInt = (nN : Int) - 1 := by
    rw [up64, sub32, n32 (by omega)]; rfl
    rw [n32 (by omega)]; show _ ≤ (nN : Int) - 1 ∧ (nN : Int) - 1 < _; omega
  unfold fX12_told__0
  simp only [RP_1, RP_0, RG_48, q_fi_sfi, q_fl_sfi, q_fr_sfi, q_ai_sfi, q_al_sfi, q_ar_sfi, q_ln_sfi, q_fi_sfl, q_fl_sfl, q_fr_sfl, q_ai_sfl, q_al_sfl, q_ar_sfl, q_ln_sfl, q_fi_sfr, q_fl_sfr, q_fr_sfr, q_ai_sfr, q_al_sfr, q_ar_sfr, q_ln_sfr, q_fi_sai, q_fl_sai, q_fr_sai, q_ai_sai, q_al_sai, q_ar_sai, q_ln_sai, q_fi_sal, q_fl_sal, q_fr_sal, q_ai_sal, q_al_sal, q_ar_sal, q_ln_sal, q_fi_sar, q_fl_sar, q_fr_sar, q_ai_sar, q_al_sar, q_ar_sar, q_ln_sar, reduceIte, Nat.reduceEqDiff, hN.1, RisC, r_refuse, r_isI, Option.bind_some, b2i_0, eV, Int64.reduceToInt]
  rcases Decidable.em (¬ (0 ≤ n.toInt ∧ n.toInt ≤ (nN : Int) - 1)) with hc1 | hc1
  · rw [if_pos hc1]; exact QI.no (by decide) (by unfold st_told; (repeat' split) <;> (first | rfl | omega)) (fr1 R)
  rw [if_neg hc1]
  rcases Decidable.em (¬ (0 ≤ w.toInt ∧ w.toInt ≤ 3)) with hc2 | hc2
  · rw [if_pos hc2]; exact QI.no (by decide) (by unfold st_told; (repeat' split) <;> (first | rfl | omega)) (fr1 R)
  rw [if_neg hc2]
  have hst : st_told nN n w = 0 := (by unfold st_told; (repeat' split) <;> (first | rfl | omega))
  obtain ⟨i, rfl, hi1, hi2⟩ := get32 n (by omega)
  obtain ⟨k, k1, k2⟩ := r_trueKind (m := m) (ρ := ρ) (R := sfi (sfi R 1 0) 0 0) (d := ai R 53 i) hL.1 hL.2.1 hL.2.2.2.2
  simp only [RisC, RG_0, RP_0, RG_1, RP_1, RN_2, Rld_2, Rst_2, RN_3, Rld_3, Rst_3, RN_4, Rld_4, Rst_4, RG_5, RP_5, RG_6, RP_6, RN_7, Rld_7, Rst_7, RN_8, Rld_8, Rst_8, RN_9, Rld_9, Rst_9, RN_10, Rld_10, Rst_10, RG_11, RP_11, RG_12, RP_12, RN_13, Rld_13, Rst_13, RN_14, Rld_14, Rst_14, RN_15, Rld_15, Rst_15, RN_16, Rld_16, Rst_16, RG_17, RP_17, RG_18, RP_18, RG_19, RP_19, RG_20, RP_20, RG_21, RP_21, RG_22, RP_22, RG_23, RP_23, RG_24, RP_24, RG_25, RP_25, RG_26, RP_26, RG_27, RP_27, RG_28, RP_28, RG_29, RP_29, RG_30, RP_30, RG_31, RP_31, RG_32, RP_32, RN_33, Rld_33, Rst_33, RN_34, Rld_34, Rst_34, RN_35, Rld_35, Rst_35, RN_36, Rld_36, Rst_36, RN_37, Rld_37, Rst_37, RN_38, Rld_38, Rst_38, RN_39, Rld_39, Rst_39, RN_40, Rld_40, Rst_40, RN_41, Rld_41, Rst_41, RN_42, Rld_42, Rst_42, RN_43, Rld_43, Rst_43, RN_44, Rld_44, Rst_44, RN_45, Rld_45, Rst_45, RG_46, RP_46, RG_47, RP_47, RG_48, RP_48, RG_49, RP_49, RN_50, Rld_50, Rst_50, RN_51, Rld_51, Rst_51, RN_52, Rld_52, Rst_52, RN_53, Rld_53, Rst_53, RN_54, Rld_54, Rst_54, RN_55, Rld_55, Rst_55, RG_56, RP_56, RG_57, RP_57, RN_58, Rld_58, Rst_58, RN_59, Rld_59, Rst_59, RN_60, Rld_60, Rst_60, RG_61, RP_61, RG_62, RP_62, RG_63, RP_63, RG_64, RP_64, RG_65, RP_65, RG_66, RP_66, RG_67, RP_67, RG_68, RP_68, RG_69, RP_69, RG_70, RP_70, RG_71, RP_71, RN_72, Rld_72, Rst_72, RN_73, Rld_73, Rst_73, RN_74, Rld_74, Rst_74, RN_75, Rld_75, Rst_75, RN_76, Rld_76, Rst_76, RN_77, Rld_77, Rst_77, RN_78, Rld_78, Rst_78, RN_79, Rld_79, Rst_79, RN_80, Rld_80, Rst_80, RN_81, Rld_81, Rst_81, RN_82, Rld_82, Rst_82, RN_83, Rld_83, Rst_83, RN_84, Rld_84, Rst_84, RN_85, Rld_85, Rst_85, RN_86, Rld_86, Rst_86, RG_87, RP_87, RG_88, RP_88, RG_89, RP_89, RG_90, RP_90, RG_91, RP_91, RG_92, RP_92, RG_93, RP_93, RN_94, Rld_94, Rst_94, RN_95, Rld_95, Rst_95, RG_96, RP_96, RN_97, Rld_97, Rst_97, RN_98, Rld_98, Rst_98, RN_99, Rld_99, Rst_99, RN_100, Rld_100, Rst_100, RG_101, RP_101, RN_102, Rld_102, Rst_102, RN_103, Rld_103, Rst_103, RN_104, Rld_104, Rst_104, RG_105, RP_105, q_fi_sfi, q_fl_sfi, q_fr_sfi, q_ai_sfi, q_al_sfi, q_ar_sfi, q_ln_sfi, q_fi_sfl, q_fl_sfl, q_fr_sfl, q_ai_sfl, q_al_sfl, q_ar_sfl, q_ln_sfl, q_fi_sfr, q_fl_sfr, q_fr_sfr, q_ai_sfr, q_al_sfr, q_ar_sfr, q_ln_sfr, q_fi_sai, q_fl_sai, q_fr_sai, q_ai_sai, q_al_sai, q_ar_sai, q_ln_sai, q_fi_sal, q_fl_sal, q_fr_sal, q_ai_sal, q_al_sal, q_ar_sal, q_ln_sal, q_fi_sar, q_fl_sar, q_fr_sar, q_ai_sar, q_al_sar, q_ar_sar, q_ln_sar, reduceIte, Nat.reduceEqDiff, Option.bind_some, ix_n hi1, decide_eq_true (show i < 60 by omega), if_true, c32 hi1, k1]
  have hkk : k = ai R 54 i ↔ kd (tru R nL) (ai R 53 i).toInt = (ai R 54 i).toInt := by rw [eq32, k2]; exact Iff.rfl
  by_cases hk : k = ai R 54 i
  · rw [if_pos hk]
    exact r_told74 hL hN hB h6 (by omega) w 0 _ hst (by omega) (cb_f (fun q => q (hkk.mp hk))).symm
  · rw [if_neg hk]
    exact r_told74 hL hN hB h6 (by omega) w 1 _ hst (by omega) (cb_t (fun q => hk (hkk.mpr q))).symm
def msc (C T : List (Int × Int)) : Nat := C.countP (fun p => decide (kd T p.1 ≠ p.2)) + T.countP (fun p => decide (kd C p.1 = 0))
theorem msc_perm {C C' T T' : List (Int × Int)} (h : C.Perm C') (g : T.Perm T') : msc C T = msc C' T' := by
  unfold msc
  rw [h.countP_eq, g.countP_eq]
  simp only [kd_perm h, kd_perm g]
theorem cP_succ (n : Nat) (f g : Nat → Int32) (p : Int × Int → Bool) : (lst (n + 1) f g).countP p = (lst n f g).countP p + if p ((f n).toInt, (g n).toInt) then 1 else 0 := by
  rw [lst_succ, List.countP_append, List.countP_singleton]
theorem cP_le (n : Nat) (f g : Nat → Int32) (p : Int × Int → Bool) : (lst n f g).countP p ≤ n := by
  have := List.countP_le_length (p := p) (l := lst n f g)
  rwa [lst_len] at this
def st_miss (n : Nat) (c : Int32) : Int32 := if ¬ (0 ≤ c.toInt ∧ c.toInt < n) then 2 else 0
theorem r_misses (hL : RLp R nL) (hN : RN R nN) (hB : HB m ρ R nN bl) (hC : fi R 11 = Int32.ofNat nC) (h12 : nC ≤ 12) (c : Int32) : QI m ρ R (st_miss nC c) (Int32.ofNat (msc (tcl R nL nN bl c) (tru R nL))) R (fX12_misses_0 (eR m ρ R) m c) := by
  have hC' : fi (sfi (sfi R 1 0) 0 0) 11 = Int32.ofNat nC := hC
  unfold fX12_misses_0
  simp only [RP_1, RP_0, RisC, r_refuse, r_isClock hC' h12, Option.bind_some, b2i_0]
  rcases Decidable.em (¬ (0 ≤ c.toInt ∧ c.toInt < nC)) with hc1 | hc1
  · rw [if_pos hc1]; exact QI.no (by decide) (by unfold st_miss; (repeat' split) <;> (first | rfl | omega)) (fr1 R)
  rw [if_neg hc1]
  have hst : st_miss nC c = 0 := (by unfold st_miss; (repeat' split) <;> (first | rfl | omega))
  have hFr := fr1 R
  obtain ⟨R1, n, t1, t2, t3, t4, t5⟩ := r_takeClock (m := m) (ρ := ρ) (c := c) (RLp.fr hFr hL).1 (RN.fr hFr hN) (HB.fr hFr hB)
  have ht : isTab R nL nN bl c n (ai R1 9) (ai R1 10) := ⟨t4, t5⟩
  have hF : Fr SC0 R R1 := hFr.trans (t2.mono (by decide))
  have h0 : fi R1 0 = 0 := by rw [t2.i 0 (by decide)]; rfl
  have e5 : fi R1 5 = Int32.ofNat nL := (hF.i 5 (by decide)).trans hL.1
  have e7 := hF.ai 7 (by decide)
  have e8 := hF.ai 8 (by decide)
  have h20 := hL.2.1
  have hn60 := t4.1
  rw [← msc_perm (tcl_perm ht) (List.Perm.refl (tru R nL))]
  simp only [t1, Option.bind_some]
  unfold msc
  generalize hp1 : (fun p : Int × Int => decide (kd (tru R nL) p.1 ≠ p.2)) = p1
  generalize hp2 : (fun p : Int × Int => decide (kd (lst n (ai R1 9) (ai R1 10)) p.1 = 0)) = p2
  have hl2 : ∀ a : Nat, a ≤ 60 → QI m ρ R (st_miss nC c) (Int32.ofNat (a + (tru R nL).countP p2)) R (fX12_misses_76 (eR m ρ R1) m (Int32.ofNat a) 0) := by
    intro a ha
    unfold fX12_misses_76
    refine lp_q nL (fun k z => z = (eR m ρ R1, m, Int32.ofNat (a + (lst k (ai R 7) (ai R 8)).countP p2), Int32.ofNat k)) (QI m ρ R (st_miss nC c) (Int32.ofNat (a + (tru R nL).countP p2)) R) ?_ ?_ fu 0 _ (by omega) rfl (by unfold fu; omega)
    · rintro K k _ hk rfl
      left
      obtain ⟨kk, k1, k2⟩ := r_handKindOf (m := m) (ρ := ρ) (R := R1) (d := ai R 7 k) t3 hn60 t4.2.2
      simp only [fbX12_misses_76, RisC, RG_0, RP_0, RG_1, RP_1, RN_2, Rld_2, Rst_2, RN_3, Rld_3, Rst_3, RN_4, Rld_4, Rst_4, RG_5, RP_5, RG_6, RP_6, RN_7, Rld_7, Rst_7, RN_8, Rld_8, Rst_8, RN_9, Rld_9, Rst_9, RN_10, Rld_10, Rst_10, RG_11, RP_11, RG_12, RP_12, RN_13, Rld_13, Rst_13, RN_14, Rld_14, Rst_14, RN_15, Rld_15, Rst_15, RN_16, Rld_16, Rst_16, RG_17, RP_17, RG_18, RP_18, RG_19, RP_19, RG_20, RP_20, RG_21, RP_21, RG_22, RP_22, RG_23, RP_23, RG_24, RP_24, RG_25, RP_25, RG_26, RP_26, RG_27, RP_27, RG_28, RP_28, RG_29, RP_29, RG_30, RP_30, RG_31, RP_31, RG_32, RP_32, RN_33, Rld_33, Rst_33, RN_34, Rld_34, Rst_34, RN_35, Rld_35, Rst_35, RN_36, Rld_36, Rst_36, RN_37, Rld_37, Rst_37, RN_38, Rld_38, Rst_38, RN_39, Rld_39, Rst_39, RN_40, Rld_40, Rst_40, RN_41, Rld_41, Rst_41, RN_42, Rld_42, Rst_42, RN_43, Rld_43, Rst_43, RN_44, Rld_44, Rst_44, RN_45, Rld_45, Rst_45, RG_46, RP_46, RG_47, RP_47, RG_48, RP_48, RG_49, RP_49, RN_50, Rld_50, Rst_50, RN_51, Rld_51, Rst_51, RN_52, Rld_52, Rst_52, RN_53, Rld_53, Rst_53, RN_54, Rld_54, Rst_54, RN_55, Rld_55, Rst_55, RG_56, RP_56, RG_57, RP_57, RN_58, Rld_58, Rst_58, RN_59, Rld_59, Rst_59, RN_60, Rld_60, Rst_60, RG_61, RP_61, RG_62, RP_62, RG_63, RP_63, RG_64, RP_64, RG_65, RP_65, RG_66, RP_66, RG_67, RP_67, RG_68, RP_68, RG_69, RP_69, RG_70, RP_70, RG_71, RP_71, RN_72, Rld_72, Rst_72, RN_73, Rld_73, Rst_73, RN_74, Rld_74, Rst_74, RN_75, Rld_75, Rst_75, RN_76, Rld_76, Rst_76, RN_77, Rld_77, Rst_77, RN_78, Rld_78, Rst_78, RN_79, Rld_79, Rst_79, RN_80, Rld_80, Rst_80, RN_81, Rld_81, Rst_81, RN_82, Rld_82, Rst_82, RN_83, Rld_83, Rst_83, RN_84, Rld_84, Rst_84, RN_85, Rld_85, Rst_85, RN_86, Rld_86, Rst_86, RG_87, RP_87, RG_88, RP_88, RG_89, RP_89, RG_90, RP_90, RG_91, RP_91, RG_92, RP_92, RG_93, RP_93, RN_94, Rld_94, Rst_94, RN_95, Rld_95, Rst_95, RG_96, RP_96, RN_97, Rld_97, Rst_97, RN_98, Rld_98, Rst_98, RN_99, Rld_99, Rst_99, RN_100, Rld_100, Rst_100, RG_101, RP_101, RN_102, Rld_102, Rst_102, RN_103, Rld_103, Rst_103, RN_104, Rld_104, Rst_104, RG_105, RP_105, Option.bind_some, e5, e7, le_n (show nL < 2147483648 by omega) (show k < 2147483648 by omega), if_neg (show ¬ nL ≤ k by omega), ix_n (show k < 2147483648 by omega), decide_eq_true (show k < 20 by omega), if_true, c32 (show k < 2147483648 by omega), suc32, k1]
      refine ⟨_, rfl, ?_⟩
      rw [cP_succ]
      have hpp : p2 ((ai R 7 k).toInt, (ai R 8 k).toInt) = decide (kk = 0) := by
        rw [← hp2]
        show decide (kd (lst n (ai R1 9) (ai R1 10)) (ai R 7 k).toInt = 0) = decide (kk = 0)
        rw [← k2]
        apply decide_eq_decide.mpr
        rw [eq32, i0]
      rw [hpp]
      by_cases q : kk = 0
      · rw [if_pos q, decide_eq_true q, if_pos rfl]; rfl
      · rw [if_neg q, decide_eq_false q, Int32.add_zero]; rfl
    · rintro K _ rfl
      simp only [fbX12_misses_76, RisC, RG_0, RP_0, RG_1, RP_1, RN_2, Rld_2, Rst_2, RN_3, Rld_3, Rst_3, RN_4, Rld_4, Rst_4, RG_5, RP_5, RG_6, RP_6, RN_7, Rld_7, Rst_7, RN_8, Rld_8, Rst_8, RN_9, Rld_9, Rst_9, RN_10, Rld_10, Rst_10, RG_11, RP_11, RG_12, RP_12, RN_13, Rld_13, Rst_13, RN_14, Rld_14, Rst_14, RN_15, Rld_15, Rst_15, RN_16, Rld_16, Rst_16, RG_17, RP_17, RG_18, RP_18, RG_19, RP_19, RG_20, RP_20, RG_21, RP_21, RG_22, RP_22, RG_23, RP_23, RG_24, RP_24, RG_25, RP_25, RG_26, RP_26, RG_27, RP_27, RG_28, RP_28, RG_29, RP_29, RG_30, RP_30, RG_31, RP_31, RG_32, RP_32, RN_33, Rld_33, Rst_33, RN_34, Rld_34, Rst_34, RN_35, Rld_35, Rst_35, RN_36, Rld_36, Rst_36, RN_37, Rld_37, Rst_37, RN_38, Rld_38, Rst_38, RN_39, Rld_39, Rst_39, RN_40, Rld_40, Rst_40, RN_41, Rld_41, Rst_41, RN_42, Rld_42, Rst_42, RN_43, Rld_43, Rst_43, RN_44, Rld_44, Rst_44, RN_45, Rld_45, Rst_45, RG_46, RP_46, RG_47, RP_47, RG_48, RP_48, RG_49, RP_49, RN_50, Rld_50, Rst_50, RN_51, Rld_51, Rst_51, RN_52, Rld_52, Rst_52, RN_53, Rld_53, Rst_53, RN_54, Rld_54, Rst_54, RN_55, Rld_55, Rst_55, RG_56, RP_56, RG_57, RP_57, RN_58, Rld_58, Rst_58, RN_59, Rld_59, Rst_59, RN_60, Rld_60, Rst_60, RG_61, RP_61, RG_62, RP_62, RG_63, RP_63, RG_64, RP_64, RG_65, RP_65, RG_66, RP_66, RG_67, RP_67, RG_68, RP_68, RG_69, RP_69, RG_70, RP_70, RG_71, RP_71, RN_72, Rld_72, Rst_72, RN_73, Rld_73, Rst_73, RN_74, Rld_74, Rst_74, RN_75, Rld_75, Rst_75, RN_76, Rld_76, Rst_76, RN_77, Rld_77, Rst_77, RN_78, Rld_78, Rst_78, RN_79, Rld_79, Rst_79, RN_80, Rld_80, Rst_80, RN_81, Rld_81, Rst_81, RN_82, Rld_82, Rst_82, RN_83, Rld_83, Rst_83, RN_84, Rld_84, Rst_84, RN_85, Rld_85, Rst_85, RN_86, Rld_86, Rst_86, RG_87, RP_87, RG_88, RP_88, RG_89, RP_89, RG_90, RP_90, RG_91, RP_91, RG_92, RP_92, RG_93, RP_93, RN_94, Rld_94, Rst_94, RN_95, Rld_95, Rst_95, RG_96, RP_96, RN_97, Rld_97, Rst_97, RN_98, Rld_98, Rst_98, RN_99, Rld_99, Rst_99, RN_100, Rld_100, Rst_100, RG_101, RP_101, RN_102, Rld_102, Rst_102, RN_103, Rld_103, Rst_103, RN_104, Rld_104, Rst_104, RG_105, RP_105, Option.bind_some, e5, Int32.le_refl, if_true]
      exact QI.ok hst rfl h0 hF (fun _ => ⟨n, t4.1, t3⟩)
  unfold fX12_misses_33
  refine lp_q n (fun k z => z = (eR m ρ R1, m, Int32.ofNat ((lst k (ai R1 9) (ai R1 10)).countP p1), Int32.ofNat k)) (QI m ρ R (st_miss nC c) (Int32.ofNat ((lst n (ai R1 9) (ai R1 10)).countP p1 + (tru R nL).countP p2)) R) ?_ ?_ fu 0 _ (by omega) rfl (by unfold fu; omega)
  · rintro K k _ hk rfl
    left
    obtain ⟨kk, k1, k2⟩ := r_trueKind (m := m) (ρ := ρ) (R := R1) (d := ai R1 9 k) e5 h20 (by rw [e7]; exact hL.2.2.2.2)
    simp only [fbX12_misses_33, RisC, RG_0, RP_0, RG_1, RP_1, RN_2, Rld_2, Rst_2, RN_3, Rld_3, Rst_3, RN_4, Rld_4, Rst_4, RG_5, RP_5, RG_6, RP_6, RN_7, Rld_7, Rst_7, RN_8, Rld_8, Rst_8, RN_9, Rld_9, Rst_9, RN_10, Rld_10, Rst_10, RG_11, RP_11, RG_12, RP_12, RN_13, Rld_13, Rst_13, RN_14, Rld_14, Rst_14, RN_15, Rld_15, Rst_15, RN_16, Rld_16, Rst_16, RG_17, RP_17, RG_18, RP_18, RG_19, RP_19, RG_20, RP_20, RG_21, RP_21, RG_22, RP_22, RG_23, RP_23, RG_24, RP_24, RG_25, RP_25, RG_26, RP_26, RG_27, RP_27, RG_28, RP_28, RG_29, RP_29, RG_30, RP_30, RG_31, RP_31, RG_32, RP_32, RN_33, Rld_33, Rst_33, RN_34, Rld_34, Rst_34, RN_35, Rld_35, Rst_35, RN_36, Rld_36, Rst_36, RN_37, Rld_37, Rst_37, RN_38, Rld_38, Rst_38, RN_39, Rld_39, Rst_39, RN_40, Rld_40, Rst_40, RN_41, Rld_41, Rst_41, RN_42, Rld_42, Rst_42, RN_43, Rld_43, Rst_43, RN_44, Rld_44, Rst_44, RN_45, Rld_45, Rst_45, RG_46, RP_46, RG_47, RP_47, RG_48, RP_48, RG_49, RP_49, RN_50, Rld_50, Rst_50, RN_51, Rld_51, Rst_51, RN_52, Rld_52, Rst_52, RN_53, Rld_53, Rst_53, RN_54, Rld_54, Rst_54, RN_55, Rld_55, Rst_55, RG_56, RP_56, RG_57, RP_57, RN_58, Rld_58, Rst_58, RN_59, Rld_59, Rst_59, RN_60, Rld_60, Rst_60, RG_61, RP_61, RG_62, RP_62, RG_63, RP_63, RG_64, RP_64, RG_65, RP_65, RG_66, RP_66, RG_67, RP_67, RG_68, RP_68, RG_69, RP_69, RG_70, RP_70, RG_71, RP_71, RN_72, Rld_72, Rst_72, RN_73, Rld_73, Rst_73, RN_74, Rld_74, Rst_74, RN_75, Rld_75, Rst_75, RN_76, Rld_76, Rst_76, RN_77, Rld_77, Rst_77, RN_78, Rld_78, Rst_78, RN_79, Rld_79, Rst_79, RN_80, Rld_80, Rst_80, RN_81, Rld_81, Rst_81, RN_82, Rld_82, Rst_82, RN_83, Rld_83, Rst_83, RN_84, Rld_84, Rst_84, RN_85, Rld_85, Rst_85, RN_86, Rld_86, Rst_86, RG_87, RP_87, RG_88, RP_88, RG_89, RP_89, RG_90, RP_90, RG_91, RP_91, RG_92, RP_92, RG_93, RP_93, RN_94, Rld_94, Rst_94, RN_95, Rld_95, Rst_95, RG_96, RP_96, RN_97, Rld_97, Rst_97, RN_98, Rld_98, Rst_98, RN_99, Rld_99, Rst_99, RN_100, Rld_100, Rst_100, RG_101, RP_101, RN_102, Rld_102, Rst_102, RN_103, Rld_103, Rst_103, RN_104, Rld_104, Rst_104, RG_105, RP_105, Option.bind_some, t3, le_n (show n < 2147483648 by omega) (show k < 2147483648 by omega), if_neg (show ¬ n ≤ k by omega), ix_n (show k < 2147483648 by omega), decide_eq_true (show k < 60 by omega), if_true, c32 (show k < 2147483648 by omega), suc32, k1]
    refine ⟨_, rfl, ?_⟩
    rw [cP_succ]
    have hpp : p1 ((ai R1 9 k).toInt, (ai R1 10 k).toInt) = decide (kk ≠ ai R1 10 k) := by
      rw [← hp1]
      show decide (kd (tru R nL) (ai R1 9 k).toInt ≠ (ai R1 10 k).toInt) = decide (kk ≠ ai R1 10 k)
      apply decide_eq_decide.mpr
      rw [ne_eq, ne_eq, eq32, k2, e7, e8]; exact Iff.rfl
    rw [hpp]
    by_cases q : kk = ai R1 10 k
    · rw [if_pos q, decide_eq_false (fun r => r q), Int32.add_zero]; rfl
    · rw [if_neg q, decide_eq_true q, if_pos rfl]
  · rintro K _ rfl
    simp only [fbX12_misses_33, RisC, RG_0, RP_0, RG_1, RP_1, RN_2, Rld_2, Rst_2, RN_3, Rld_3, Rst_3, RN_4, Rld_4, Rst_4, RG_5, RP_5, RG_6, RP_6, RN_7, Rld_7, Rst_7, RN_8, Rld_8, Rst_8, RN_9, Rld_9, Rst_9, RN_10, Rld_10, Rst_10, RG_11, RP_11, RG_12, RP_12, RN_13, Rld_13, Rst_13, RN_14, Rld_14, Rst_14, RN_15, Rld_15, Rst_15, RN_16, Rld_16, Rst_16, RG_17, RP_17, RG_18, RP_18, RG_19, RP_19, RG_20, RP_20, RG_21, RP_21, RG_22, RP_22, RG_23, RP_23, RG_24, RP_24, RG_25, RP_25, RG_26, RP_26, RG_27, RP_27, RG_28, RP_28, RG_29, RP_29, RG_30, RP_30, RG_31, RP_31, RG_32, RP_32, RN_33, Rld_33, Rst_33, RN_34, Rld_34, Rst_34, RN_35, Rld_35, Rst_35, RN_36, Rld_36, Rst_36, RN_37, Rld_37, Rst_37, RN_38, Rld_38, Rst_38, RN_39, Rld_39, Rst_39, RN_40, Rld_40, Rst_40, RN_41, Rld_41, Rst_41, RN_42, Rld_42, Rst_42, RN_43, Rld_43, Rst_43, RN_44, Rld_44, Rst_44, RN_45, Rld_45, Rst_45, RG_46, RP_46, RG_47, RP_47, RG_48, RP_48, RG_49, RP_49, RN_50, Rld_50, Rst_50, RN_51, Rld_51, Rst_51, RN_52, Rld_52, Rst_52, RN_53, Rld_53, Rst_53, RN_54, Rld_54, Rst_54, RN_55, Rld_55, Rst_55, RG_56, RP_56, RG_57, RP_57, RN_58, Rld_58, Rst_58, RN_59, Rld_59, Rst_59, RN_60, Rld_60, Rst_60, RG_61, RP_61, RG_62, RP_62, RG_63, RP_63, RG_64, RP_64, RG_65, RP_65, RG_66, RP_66, RG_67, RP_67, RG_68, RP_68, RG_69, RP_69, RG_70, RP_70, RG_71, RP_71, RN_72, Rld_72, Rst_72, RN_73, Rld_73, Rst_73, RN_74, Rld_74, Rst_74, RN_75, Rld_75, Rst_75, RN_76, Rld_76, Rst_76, RN_77, Rld_77, Rst_77, RN_78, Rld_78, Rst_78, RN_79, Rld_79, Rst_79, RN_80, Rld_80, Rst_80, RN_81, Rld_81, Rst_81, RN_82, Rld_82, Rst_82, RN_83, Rld_83, Rst_83, RN_84, Rld_84, Rst_84, RN_85, Rld_85, Rst_85, RN_86, Rld_86, Rst_86, RG_87, RP_87, RG_88, RP_88, RG_89, RP_89, RG_90, RP_90, RG_91, RP_91, RG_92, RP_92, RG_93, RP_93, RN_94, Rld_94, Rst_94, RN_95, Rld_95, Rst_95, RG_96, RP_96, RN_97, Rld_97, Rst_97, RN_98, Rld_98, Rst_98, RN_99, Rld_99, Rst_99, RN_100, Rld_100, Rst_100, RG_101, RP_101, RN_102, Rld_102, Rst_102, RN_103, Rld_103, Rst_103, RN_104, Rld_104, Rst_104, RG_105, RP_105, Option.bind_some, t3, Int32.le_refl, if_true]
    exact hl2 _ (by have := cP_le n (ai R1 9) (ai R1 10) p1; omega)
end
