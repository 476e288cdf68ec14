def isTab (R : Gs) (nL nN : Nat) (bl : Nat → Bool) (c : Int32) (n : Nat) (f g : Nat → Int32) : Prop := Tok n f g ∧ ∀ x y, mm n f g x y ↔ mc R nL nN bl c x y

noncomputable def pickT (P : Nat → (Nat → Int32) → (Nat → Int32) → Prop) : List (Int × Int) :=
  match Classical.propDecidable (∃ z : Nat × (Nat → Int32) × (Nat → Int32), P z.1 z.2.1 z.2.2) with
  | isTrue h => lst h.choose.1 h.choose.2.1 h.choose.2.2
  | isFalse _ => []
noncomputable def tcl (R : Gs) (nL nN : Nat) (bl : Nat → Bool) (c : Int32) : List (Int × Int) := pickT (isTab R nL nN bl c)
theorem tcl_perm {R : Gs} {nL nN : Nat} {bl : Nat → Bool} {c : Int32} {n : Nat} {f g : Nat → Int32} (h : isTab R nL nN bl c n f g) : (lst n f g).Perm (tcl R nL nN bl c) := by
  unfold tcl pickT
  split
  · rename_i hx _
    have h2 := hx.choose_spec
    exact mm_perm h.1.2.2 h2.1.2.2 (fun x y => (h.2 x y).trans (h2.2 x y).symm)
  · rename_i hx _
    exact absurd ⟨(n, f, g), h⟩ hx
def ldA (R : Gs) (nL nS : Nat) (T : List (Int × Int)) (c : Int32) (i : Nat) : Int32 := Int32.ofInt (ldS (tru R nL) T (stA (ai R 14) (ai R 15) c nS i).toInt)
def ahS (R : Gs) (nL nS : Nat) (T : List (Int × Int)) (c t : Int32) : Int32 := ahd (stA (ai R 14) (ai R 15) c nS) (ldA R nL nS T c) t (stN (ai R 14) c nS)
def shS (R : Gs) (nL nS : Nat) (T : List (Int × Int)) (w c t : Int32) : Int64 := shw w T (mx0 (t.toInt + (ahS R nL nS T c t).toInt))
theorem ahS_perm {R : Gs} {nL nS : Nat} {T T' : List (Int × Int)} (h : T.Perm T') (c t : Int32) : ahS R nL nS T c t = ahS R nL nS T' c t := by
  unfold ahS
  refine ahd_congr _ (fun i _ => ⟨rfl, ?_⟩)
  unfold ldA; rw [ldS_perm (List.Perm.refl _) h]
theorem shS_perm {R : Gs} {nL nS : Nat} {T T' : List (Int × Int)} (h : T.Perm T') (w c t : Int32) : shS R nL nS T w c t = shS R nL nS T' w c t := by
  unfold shS; rw [ahS_perm h, shw_perm h]
noncomputable def AH (R : Gs) (nL nN nS : Nat) (bl : Nat → Bool) (c t : Int32) : Int32 := ahS R nL nS (tcl R nL nN bl c) c t
noncomputable def SH (R : Gs) (nL nN nS : Nat) (bl : Nat → Bool) (c t : Int32) : Int64 := shS R nL nS (tcl R nL nN bl c) (ai R 13 c.toNatClampNeg) c t
def KSH : List Nat := [5, 7, 8, 12, 13, 14, 15, 48, 52, 53, 54, 55]
def KS2 : List Nat := [7, 8, 14, 15, 52, 53, 54, 55]
theorem KS2_sub : ∀ k, k ∈ KS2 → k ∈ KSH := by decide
theorem mc_fr {R R' : Gs} {L : List Nat} (hF : Fr L R R') (hd : ∀ k, k ∈ KS2 → k ∉ L) {nL nN : Nat} {bl : Nat → Bool} {c x y : Int32} : mc R' nL nN bl c x y ↔ mc R nL nN bl c x y := by
  unfold mc gvn itm
  rw [hF.ai 52 (hd _ (by decide)), hF.ai 53 (hd _ (by decide)), hF.ai 54 (hd _ (by decide)), hF.ai 55 (hd _ (by decide)), hF.trE (hd _ (by decide)) (hd _ (by decide))]
theorem tcl_fr {R R' : Gs} {L : List Nat} (hF : Fr L R R') (hd : ∀ k, k ∈ KSH → k ∉ L) {nL nN : Nat} {bl : Nat → Bool} {c : Int32} : tcl R' nL nN bl c = tcl R nL nN bl c := by
  have e : isTab R' nL nN bl c = isTab R nL nN bl c := by
    funext n f g
    unfold isTab
    simp only [mc_fr hF (fun k hk => hd k (KS2_sub k hk))]
  unfold tcl
  rw [e]
theorem SH_fr {R R' : Gs} {L : List Nat} (hF : Fr L R R') (hd : ∀ k, k ∈ KSH → k ∉ L) {nL nN nS : Nat} {bl : Nat → Bool} {c t : Int32} : SH R' nL nN nS bl c t = SH R nL nN nS bl c t ∧ AH R' nL nN nS bl c t = AH R nL nN nS bl c t := by
  have e : ∀ T, ahS R' nL nS T c t = ahS R nL nS T c t := by
    intro T; unfold ahS ldA
    rw [hF.ai 14 (hd _ (by decide)), hF.ai 15 (hd _ (by decide)), hF.trE (hd _ (by decide)) (hd _ (by decide))]
  unfold SH AH shS
  rw [tcl_fr hF hd, e, hF.ai 13 (hd _ (by decide))]
  exact ⟨rfl, rfl⟩
def Hnd (R R1 : Gs) (nL nN nS nh : Nat) (bl : Nat → Bool) (c : Int32) : Prop :=
  fi R1 6 = Int32.ofNat nh ∧ isTab R nL nN bl c nh (ai R1 9) (ai R1 10) ∧ fi R1 96 = Int32.ofNat (stN (ai R 14) c nS) ∧ (∀ i, i < stN (ai R 14) c nS → ai R1 94 i = stA (ai R 14) (ai R 15) c nS i) ∧ ∀ i, i < stN (ai R 14) c nS → (ai R1 95 i).toInt = ldS (tru R nL) (lst nh (ai R1 9) (ai R1 10)) (stA (ai R 14) (ai R 15) c nS i).toInt
theorem Fnd.hnd {R R1 : Gs} {nL nN nS nh : Nat} {bl : Nat → Bool} {c : Int32} (h : Fnd R R1 nL nN nS nh bl c) : Hnd R R1 nL nN nS nh bl c := ⟨h.2.1, ⟨h.2.2.1, h.2.2.2.1⟩, h.2.2.2.2⟩
theorem Hnd.fr {R R1 R2 : Gs} {nL nN nS nh : Nat} {bl : Nat → Bool} {c : Int32} {L : List Nat} (h : Hnd R R1 nL nN nS nh bl c) (hF : Fr L R1 R2) (hd : ∀ k, k ∈ [6, 9, 10, 94, 95, 96] → k ∉ L) : Hnd R R2 nL nN nS nh bl c := by
  unfold Hnd at *
  rw [hF.i 6 (hd _ (by decide)), hF.i 96 (hd _ (by decide)), hF.ai 9 (hd _ (by decide)), hF.ai 10 (hd _ (by decide)), hF.ai 94 (hd _ (by decide)), hF.ai 95 (hd _ (by decide))]
  exact h
theorem Hnd.h6 {R R1 : Gs} {nL nN nS nh : Nat} {bl : Nat → Bool} {c : Int32} (h : Hnd R R1 nL nN nS nh bl c) : H6 R1 := ⟨nh, h.2.1.1.1, h.1⟩
theorem Hnd.ah {R R1 : Gs} {nL nN nS nh : Nat} {bl : Nat → Bool} {c t : Int32} (h : Hnd R R1 nL nN nS nh bl c) : ahd (ai R1 94) (ai R1 95) t (stN (ai R 14) c nS) = AH R nL nN nS bl c t := by
  unfold AH
  rw [← ahS_perm (tcl_perm h.2.1)]
  unfold ahS
  refine ahd_congr _ (fun i hi => ⟨h.2.2.2.1 i hi, ?_⟩)
  unfold ldA
  exact (ofI (h.2.2.2.2 i hi)).symm
theorem r_shwAt {m : Nat} {ρ : Hs} {R R1 : Gs} {nL nN nS nh : Nat} {bl : Nat → Bool} {c t : Int32} (hL : RLp R nL) (hS : RSt R nS) (h : Hnd R R1 nL nN nS nh bl c) (ht : -1000 ≤ t.toInt ∧ t.toInt ≤ 900010000) :
    ∃ R2, fX12_showsOf_0 (eR m ρ R1) m (ai R 13 c.toNatClampNeg) t = some (SH R nL nN nS bl c t, eR m ρ R2) ∧ Fr [92, 93] R1 R2 := by
  have hns := stN_le (ai R 14) c nS
  have hs60 := hS.2.1
  obtain ⟨R2, e1, e2⟩ := r_showsOf (m := m) (ρ := ρ) (w := ai R 13 c.toNatClampNeg) (c := t) h.1 h.2.1.1 h.2.2.1 (by omega) ht (fun i hi => by rw [h.2.2.2.2 i hi]; exact ldS_bd hL.2.2 h.2.1.1 _)
  refine ⟨R2, ?_, e2⟩
  rw [e1, h.ah]
  unfold SH
  rw [← shS_perm (tcl_perm h.2.1)]
  unfold shS
  rw [ahS_perm (tcl_perm h.2.1)]; rfl
theorem r_find {m : Nat} {ρ : Hs} {R R0 : Gs} {nL nN nS : Nat} {bl : Nat → Bool} {c : Int32} (hL : RLp R nL) (hN : RN R nN) (hS : RSt R nS) (hB : HB m ρ R nN bl) (hF : Fr SC0 R R0) :
    ∃ R1 nh, fX12_findSteps_0 (eR m ρ R0) m c = some (eR m ρ R1) ∧ Fr FS R0 R1 ∧ Hnd R R1 nL nN nS nh bl c := by
  obtain ⟨R1, nh, e1, e2⟩ := r_findSteps (m := m) (ρ := ρ) (c := c) (RLp.fr hF hL).1 (RN.fr hF hN) (show RSt R0 nS by unfold RSt; rw [hF.i 12 (by decide), hF.ai 15 (by decide)]; exact hS) (HB.fr hF hB)
  refine ⟨R1, nh, e1, e2.1, ?_⟩
  have h := e2.hnd
  unfold Hnd isTab at *
  simp only [mc_fr hF (show ∀ k, k ∈ KS2 → k ∉ SCR by decide), hF.ai 14 (show 14 ∉ SCR by decide), hF.ai 15 (show 15 ∉ SCR by decide), hF.trE (show 7 ∉ SCR by decide) (show 8 ∉ SCR by decide)] at h
  exact h
theorem RW_way {R : Gs} {c : Int32} {n : Nat} (h : 0 ≤ c.toInt ∧ c.toInt < n) (hn : n ≤ 12) : ∃ k, c = Int32.ofNat k ∧ k < n ∧ k < 12 := by
  obtain ⟨k, e, h1, h2⟩ := get32 c h.1
  exact ⟨k, e, by omega, by omega⟩
def st_cc (nC : Nat) (c t : Int32) : Int32 := if ¬ (0 ≤ c.toInt ∧ c.toInt < nC) then 2 else if ¬ (0 ≤ t.toInt ∧ t.toInt ≤ 900000000) then 5 else 0
section
variable {m : Nat} {ρ : Hs} {R : Gs} {nL nN nS nC : Nat} {bl : Nat → Bool}
theorem r_shows (hL : RLp R nL) (hN : RN R nN) (hS : RSt R nS) (hB : HB m ρ R nN bl) (hC : fi R 11 = Int32.ofNat nC) (h12 : nC ≤ 12) (c t : Int32) : QL m ρ R (st_cc nC c t) (SH R nL nN nS bl c t) R (fX12_shows_0 (eR m ρ R) m c t) := by
  have hC' : fi (sfi (sfi R 1 0) 0 0) 11 = Int32.ofNat nC := hC
  unfold fX12_shows_0
  simp only [RP_1, RP_0, RisC, r_refuse, r_isClock hC' h12, r_isCount, Option.bind_some, b2i_0]
  rcases Decidable.em (¬ (0 ≤ c.toInt ∧ c.toInt < nC)) with hc1 | hc1
  · rw [if_pos hc1]; exact QL.no (by decide) (by unfold st_cc; (repeat' split) <;> (first | rfl | omega)) rfl (fr1 R)
  rw [if_neg hc1]
  rcases Decidable.em (¬ (0 ≤ t.toInt ∧ t.toInt ≤ 900000000)) with hc2 | hc2
  · rw [if_pos hc2]; exact QL.no (by decide) (by unfold st_cc; (repeat' split) <;> (first | rfl | omega)) rfl (fr1 R)
  rw [if_neg hc2]
  obtain ⟨ci, rfl, h1, h2⟩ := RW_way (R := R) (show 0 ≤ c.toInt ∧ c.toInt < nC by omega) h12
  obtain ⟨R1, nh, e1, e2, e3⟩ := r_find (c := Int32.ofNat ci) hL hN hS hB (fr1 R)
  obtain ⟨R2, g1, g2⟩ := r_shwAt (m := m) (ρ := ρ) (t := t) hL hS e3 (by omega)
  rw [c32 (show ci < 2147483648 by omega)] at g1
  have a13 : ai R1 13 = ai R 13 := e2.ai 13 (by decide)
  simp only [e1, Option.bind_some, RisC, RG_0, RP_0, RG_1, RP_1, RN_2, Rld_2, Rst_2, RN_3, Rld_3, Rst_3, RN_4, Rld_4, Rst_4, RG_5, RP_5, RG_6, RP_6, RN_7, Rld_7, Rst_7, RN_8, Rld_8, Rst_8, RN_9, Rld_9, Rst_9, RN_10, Rld_10, Rst_10, RG_11, RP_11, RG_12, RP_12, RN_13, Rld_13, Rst_13, RN_14, Rld_14, Rst_14, RN_15, Rld_15, Rst_15, RN_16, Rld_16, Rst_16, RG_17, RP_17, RG_18, RP_18, RG_19, RP_19, RG_20, RP_20, RG_21, RP_21, RG_22, RP_22, RG_23, RP_23, RG_24, RP_24, RG_25, RP_25, RG_26, RP_26, RG_27, RP_27, RG_28, RP_28, RG_29, RP_29, RG_30, RP_30, RG_31, RP_31, RG_32, RP_32, RN_33, Rld_33, Rst_33, RN_34, Rld_34, Rst_34, RN_35, Rld_35, Rst_35, RN_36, Rld_36, Rst_36, RN_37, Rld_37, Rst_37, RN_38, Rld_38, Rst_38, RN_39, Rld_39, Rst_39, RN_40, Rld_40, Rst_40, RN_41, Rld_41, Rst_41, RN_42, Rld_42, Rst_42, RN_43, Rld_43, Rst_43, RN_44, Rld_44, Rst_44, RN_45, Rld_45, Rst_45, RG_46, RP_46, RG_47, RP_47, RG_48, RP_48, RG_49, RP_49, RN_50, Rld_50, Rst_50, RN_51, Rld_51, Rst_51, RN_52, Rld_52, Rst_52, RN_53, Rld_53, Rst_53, RN_54, Rld_54, Rst_54, RN_55, Rld_55, Rst_55, RG_56, RP_56, RG_57, RP_57, RN_58, Rld_58, Rst_58, RN_59, Rld_59, Rst_59, RN_60, Rld_60, Rst_60, RG_61, RP_61, RG_62, RP_62, RG_63, RP_63, RG_64, RP_64, RG_65, RP_65, RG_66, RP_66, RG_67, RP_67, RG_68, RP_68, RG_69, RP_69, RG_70, RP_70, RG_71, RP_71, RN_72, Rld_72, Rst_72, RN_73, Rld_73, Rst_73, RN_74, Rld_74, Rst_74, RN_75, Rld_75, Rst_75, RN_76, Rld_76, Rst_76, RN_77, Rld_77, Rst_77, RN_78, Rld_78, Rst_78, RN_79, Rld_79, Rst_79, RN_80, Rld_80, Rst_80, RN_81, Rld_81, Rst_81, RN_82, Rld_82, Rst_82, RN_83, Rld_83, Rst_83, RN_84, Rld_84, Rst_84, RN_85, Rld_85, Rst_85, RN_86, Rld_86, Rst_86, RG_87, RP_87, RG_88, RP_88, RG_89, RP_89, RG_90, RP_90, RG_91, RP_91, RG_92, RP_92, RG_93, RP_93, RN_94, Rld_94, Rst_94, RN_95, Rld_95, Rst_95, RG_96, RP_96, RN_97, Rld_97, Rst_97, RN_98, Rld_98, Rst_98, RN_99, Rld_99, Rst_99, RN_100, Rld_100, Rst_100, RG_101, RP_101, RN_102, Rld_102, Rst_102, RN_103, Rld_103, Rst_103, RN_104, Rld_104, Rst_104, RG_105, RP_105, a13, ix_n (show ci < 2147483648 by omega), decide_eq_true h2, if_true, c32 (show ci < 2147483648 by omega), g1]
  refine QL.ok (by unfold st_cc; (repeat' split) <;> (first | rfl | omega)) rfl ?_ ((fr1 R).trans ((e2.mono (by decide)).trans (g2.mono (by decide)))) (fun _ => (e3.fr g2 (by decide)).h6)
  rw [g2.i 0 (by decide), e2.i 0 (by decide)]; rfl
theorem r_ahead (hL : RLp R nL) (hN : RN R nN) (hS : RSt R nS) (hB : HB m ρ R nN bl) (hC : fi R 11 = Int32.ofNat nC) (h12 : nC ≤ 12) (c t : Int32) : QI m ρ R (st_cc nC c t) (AH R nL nN nS bl c t) R (fX12_ahead_0 (eR m ρ R) m c t) := by
  have hC' : fi (sfi (sfi R 1 0) 0 0) 11 = Int32.ofNat nC := hC
  unfold fX12_ahead_0
  simp only [RP_1, RP_0, RisC, r_refuse, r_isClock hC' h12, r_isCount, Option.bind_some, b2i_0]
  rcases Decidable.em (¬ (0 ≤ c.toInt ∧ c.toInt < nC)) with hc1 | hc1
  · rw [if_pos hc1]; exact QI.no (by decide) (by unfold st_cc; (repeat' split) <;> (first | rfl | omega)) (fr1 R)
  rw [if_neg hc1]
  rcases Decidable.em (¬ (0 ≤ t.toInt ∧ t.toInt ≤ 900000000)) with hc2 | hc2
  · rw [if_pos hc2]; exact QI.no (by decide) (by unfold st_cc; (repeat' split) <;> (first | rfl | omega)) (fr1 R)
  rw [if_neg hc2]
  obtain ⟨R1, nh, e1, e2, e3⟩ := r_find (c := c) hL hN hS hB (fr1 R)
  have hns := stN_le (ai R 14) c nS
  have hs60 := hS.2.1
  simp only [e1, Option.bind_some, RisC, r_aheadAt (c := t) e3.2.2.1 (show stN (ai R 14) c nS ≤ 60 by omega)]
  refine QI.ok (by unfold st_cc; (repeat' split) <;> (first | rfl | omega)) (e3.ah).symm ?_ ((fr1 R).trans (e2.mono (by decide))) (fun _ => e3.h6)
  rw [e2.i 0 (by decide)]; rfl
def pln (v : Int64) : Int64 := ((v / 100000000) * 86400000) + (v - v / 100000000 * 100000000)
def st_off (nC : Nat) (c r t : Int32) : Int32 := if ¬ (0 ≤ c.toInt ∧ c.toInt < nC) ∨ ¬ (0 ≤ r.toInt ∧ r.toInt < nC) then 2 else if ¬ (0 ≤ t.toInt ∧ t.toInt ≤ 900000000) then 5 else 0
theorem r_off (hL : RLp R nL) (hN : RN R nN) (hS : RSt R nS) (hB : HB m ρ R nN bl) (hC : fi R 11 = Int32.ofNat nC) (h12 : nC ≤ 12) (c r t : Int32) : QL m ρ R (st_off nC c r t) (pln (SH R nL nN nS bl c t) - pln (SH R nL nN nS bl r t)) R (fX12_off_0 (eR m ρ R) m c r t) := by
  have hC' : fi (sfi (sfi R 1 0) 0 0) 11 = Int32.ofNat nC := hC
  unfold fX12_off_0
  simp only [RP_1, RP_0, RisC, r_refuse, r_isClock hC' h12, r_isCount, Option.bind_some, b2i_0]
  rcases Decidable.em (¬ (0 ≤ c.toInt ∧ c.toInt < nC)) with hc1 | hc1
  · rw [if_pos hc1]; exact QL.no (by decide) (by unfold st_off; (repeat' split) <;> (first | rfl | omega)) rfl (fr1 R)
  rw [if_neg hc1]
  rcases Decidable.em (¬ (0 ≤ r.toInt ∧ r.toInt < nC)) with hc2 | hc2
  · rw [if_pos hc2]; exact QL.no (by decide) (by unfold st_off; (repeat' split) <;> (first | rfl | omega)) rfl (fr1 R)
  rw [if_neg hc2]
  rcases Decidable.em (¬ (0 ≤ t.toInt ∧ t.toInt ≤ 900000000)) with hc3 | hc3
  · rw [if_pos hc3]; exact QL.no (by decide) (by unfold st_off; (repeat' split) <;> (first | rfl | omega)) rfl (fr1 R)
  rw [if_neg hc3]
  obtain ⟨ci, rfl, h1, h2⟩ := RW_way (R := R) (show 0 ≤ c.toInt ∧ c.toInt < nC by omega) h12
  obtain ⟨ri, rfl, h3, h4⟩ := RW_way (R := R) (show 0 ≤ r.toInt ∧ r.toInt < nC by omega) h12
  obtain ⟨R1, nh, e1, e2, e3⟩ := r_find (c := Int32.ofNat ci) hL hN hS hB (fr1 R)
  obtain ⟨R2, g1, g2⟩ := r_shwAt (m := m) (ρ := ρ) (t := t) hL hS e3 (by omega)
  have hF2 : Fr SC0 R R2 := (fr1 R).trans ((e2.mono (by decide)).trans (g2.mono (by decide)))
  obtain ⟨R3, nh3, e4, e5, e6⟩ := r_find (c := Int32.ofNat ri) hL hN hS hB hF2
  obtain ⟨R4, g4, g5⟩ := r_shwAt (m := m) (ρ := ρ) (t := t) hL hS e6 (by omega)
  rw [c32 (show ci < 2147483648 by omega)] at g1
  rw [c32 (show ri < 2147483648 by omega)] at g4
  have a13 : ai R1 13 = ai R 13 := e2.ai 13 (by decide)
  have b13 : ai R3 13 = ai R 13 := (e5.ai 13 (by decide)).trans (hF2.ai 13 (by decide))
  simp only [e1, Option.bind_some, RisC, RG_0, RP_0, RG_1, RP_1, RN_2, Rld_2, Rst_2, RN_3, Rld_3, Rst_3, RN_4, Rld_4, Rst_4, RG_5, RP_5, RG_6, RP_6, RN_7, Rld_7, Rst_7, RN_8, Rld_8, Rst_8, RN_9, Rld_9, Rst_9, RN_10, Rld_10, Rst_10, RG_11, RP_11, RG_12, RP_12, RN_13, Rld_13, Rst_13, RN_14, Rld_14, Rst_14, RN_15, Rld_15, Rst_15, RN_16, Rld_16, Rst_16, RG_17, RP_17, RG_18, RP_18, RG_19, RP_19, RG_20, RP_20, RG_21, RP_21, RG_22, RP_22, RG_23, RP_23, RG_24, RP_24, RG_25, RP_25, RG_26, RP_26, RG_27, RP_27, RG_28, RP_28, RG_29, RP_29, RG_30, RP_30, RG_31, RP_31, RG_32, RP_32, RN_33, Rld_33, Rst_33, RN_34, Rld_34, Rst_34, RN_35, Rld_35, Rst_35, RN_36, Rld_36, Rst_36, RN_37, Rld_37, Rst_37, RN_38, Rld_38, Rst_38, RN_39, Rld_39, Rst_39, RN_40, Rld_40, Rst_40, RN_41, Rld_41, Rst_41, RN_42, Rld_42, Rst_42, RN_43, Rld_43, Rst_43, RN_44, Rld_44, Rst_44, RN_45, Rld_45, Rst_45, RG_46, RP_46, RG_47, RP_47, RG_48, RP_48, RG_49, RP_49, RN_50, Rld_50, Rst_50, RN_51, Rld_51, Rst_51, RN_52, Rld_52, Rst_52, RN_53, Rld_53, Rst_53, RN_54, Rld_54, Rst_54, RN_55, Rld_55, Rst_55, RG_56, RP_56, RG_57, RP_57, RN_58, Rld_58, Rst_58, RN_59, Rld_59, Rst_59, RN_60, Rld_60, Rst_60, RG_61, RP_61, RG_62, RP_62, RG_63, RP_63, RG_64, RP_64, RG_65, RP_65, RG_66, RP_66, RG_67, RP_67, RG_68, RP_68, RG_69, RP_69, RG_70, RP_70, RG_71, RP_71, RN_72, Rld_72, Rst_72, RN_73, Rld_73, Rst_73, RN_74, Rld_74, Rst_74, RN_75, Rld_75, Rst_75, RN_76, Rld_76, Rst_76, RN_77, Rld_77, Rst_77, RN_78, Rld_78, Rst_78, RN_79, Rld_79, Rst_79, RN_80, Rld_80, Rst_80, RN_81, Rld_81, Rst_81, RN_82, Rld_82, Rst_82, RN_83, Rld_83, Rst_83, RN_84, Rld_84, Rst_84, RN_85, Rld_85, Rst_85, RN_86, Rld_86, Rst_86, RG_87, RP_87, RG_88, RP_88, RG_89, RP_89, RG_90, RP_90, RG_91, RP_91, RG_92, RP_92, RG_93, RP_93, RN_94, Rld_94, Rst_94, RN_95, Rld_95, Rst_95, RG_96, RP_96, RN_97, Rld_97, Rst_97, RN_98, Rld_98, Rst_98, RN_99, Rld_99, Rst_99, RN_100, Rld_100, Rst_100, RG_101, RP_101, RN_102, Rld_102, Rst_102, RN_103, Rld_103, Rst_103, RN_104, Rld_104, Rst_104, RG_105, RP_105, a13, b13, ix_n (show ci < 2147483648 by omega), decide_eq_true h2, if_true, c32 (show ci < 2147483648 by omega), g1, r_plain, e4, ix_n (show ri < 2147483648 by omega), decide_eq_true h4, c32 (show ri < 2147483648 by omega), g4]
  refine QL.ok (by unfold st_off; (repeat' split) <;> (first | rfl | omega)) rfl ?_ (hF2.trans ((e5.mono (by decide)).trans (g5.mono (by decide)))) (fun _ => (e6.fr g5 (by decide)).h6)
  rw [g5.i 0 (by decide), e5.i 0 (by decide), g2.i 0 (by decide), e2.i 0 (by decide)]; rfl
end
