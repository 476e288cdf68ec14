theorem th_bd (w k s : Int32) : -200000000000000000 ≤ (th w k s).toInt ∧ (th w k s).toInt ≤ 200000000000000000 := by
  have hs := r32 s
  have e1 : (86400000 * s.toInt64).toInt = 86400000 * s.toInt := by rw [mul64, up64]; rfl; rw [up64]; show _ ≤ 86400000 * s.toInt ∧ 86400000 * s.toInt < _; omega
  have e2 : (1000 * s.toInt64).toInt = 1000 * s.toInt := by rw [mul64, up64]; rfl; rw [up64]; show _ ≤ 1000 * s.toInt ∧ 1000 * s.toInt < _; omega
  have e3 : -200000000000000000 ≤ ((86400000 * s.toInt64) / ((86400 + k).toInt64)).toInt ∧ ((86400000 * s.toInt64) / ((86400 + k).toInt64)).toInt ≤ 200000000000000000 := by
    rw [Int64.toInt_div, e1]
    have h2 : ((86400000 * s.toInt).tdiv ((86400 + k).toInt64).toInt).natAbs ≤ (86400000 * s.toInt).natAbs := by rw [Int.natAbs_tdiv]; exact Nat.div_le_self _ _
    rw [Int.bmod_eq_of_le (by omega) (by omega)]
    omega
  unfold th
  (repeat' split) <;> first | (rw [e2]; omega) | exact e3 | decide
theorem shw_bd (w : Int32) (T : List (Int × Int)) (c : Int) : -500000000000000000 ≤ (shw w T c).toInt ∧ (shw w T c).toInt ≤ 500000000000000000 := by
  unfold shw
  have h1 := th_bd w (Int32.ofInt (kd T (civ T c))) (Int32.ofInt (c - bg T (civ T c)))
  have h2 := r32 (Int32.ofInt (civ T c))
  have e1 : (100000000 * (Int32.ofInt (civ T c)).toInt64).toInt = 100000000 * (Int32.ofInt (civ T c)).toInt := by rw [mul64, up64]; rfl; rw [up64]; show _ ≤ 100000000 * (Int32.ofInt (civ T c)).toInt ∧ 100000000 * (Int32.ofInt (civ T c)).toInt < _; omega
  rw [add64, e1]
  · omega
  · rw [e1]; omega
theorem pln_bd {v : Int64} (h : -500000000000000000 ≤ v.toInt ∧ v.toInt ≤ 500000000000000000) : -500000000000000000 ≤ (pln v).toInt ∧ (pln v).toInt ≤ 500000000000000000 := by
  have e8 : (100000000 : Int64).toInt = 100000000 := rfl
  have h1 : (v / 100000000).toInt = v.toInt.tdiv 100000000 := div64 (b := 100000000) (by decide)
  have h2 : (v - v / 100000000 * 100000000).toInt = v.toInt.tmod 100000000 := rem64 (b := 100000000) (by decide)
  have h3 := Int.mul_tdiv_add_tmod v.toInt 100000000
  have h4 := tmod_b v.toInt 100000000
  have h5 : v.toInt.tmod 100000000 < 100000000 := Int.tmod_lt_of_pos _ (by decide)
  have h6 : -100000000 < v.toInt.tmod 100000000 := by
    by_cases q : 0 ≤ v.toInt
    · have := (h4.1 q).1; omega
    · have h7 := Int.tmod_lt_of_pos (-v.toInt) (b := 100000000) (by decide)
      rw [Int.neg_tmod] at h7; omega
  have h9 : (v / 100000000 * 86400000).toInt = v.toInt.tdiv 100000000 * 86400000 := by
    rw [mul64, h1]; rfl
    rw [h1]; show _ ≤ v.toInt.tdiv 100000000 * 86400000 ∧ v.toInt.tdiv 100000000 * 86400000 < _; omega
  unfold pln
  rw [add64, h9, h2]
  · omega
  · rw [h9, h2]; omega
def mnV (V : Nat → Int64) : Nat → Int64
  | 0 => 0
  | n + 1 => if n = 0 then V 0 else (if (mnV V n).toInt ≤ (V n).toInt then mnV V n else V n)
def mxV (V : Nat → Int64) : Nat → Int64
  | 0 => 0
  | n + 1 => if n = 0 then V 0 else (if (V n).toInt ≤ (mxV V n).toInt then mxV V n else V n)
theorem mnx {V : Nat → Int64} (hB : ∀ c, -500000000000000000 ≤ (V c).toInt ∧ (V c).toInt ≤ 500000000000000000) : ∀ n, 0 < n → (mnV V n).toInt ≤ (mxV V n).toInt ∧ -500000000000000000 ≤ (mnV V n).toInt ∧ (mxV V n).toInt ≤ 500000000000000000 := by
  intro n; induction n with
  | zero => intro h; omega
  | succ n ih =>
    intro _
    unfold mnV mxV
    by_cases c : n = 0
    · rw [if_pos c, if_pos c]; have := hB 0; omega
    · rw [if_neg c, if_neg c]
      have := ih (by omega)
      have := hB n
      (repeat' split) <;> omega
def spr (V : Nat → Int64) (n : Nat) : Int64 := mxV V n - mnV V n
theorem spr_0 {V : Nat → Int64} (hB : ∀ c, -500000000000000000 ≤ (V c).toInt ∧ (V c).toInt ≤ 500000000000000000) {n : Nat} (hn : 0 < n) : 0 ≤ (spr V n).toInt := by
  obtain ⟨h1, h2, h3⟩ := mnx hB n hn
  unfold spr
  rw [sub64 (by omega)]; omega
def bI (s : Nat → Int64) : Nat → Nat
  | 0 => 0
  | k + 1 => if (s (k + 1)).toInt ≤ (s (bI s k)).toInt then bI s k else k + 1
theorem bI_le (s : Nat → Int64) : ∀ k, bI s k ≤ k := by
  intro k; induction k with
  | zero => exact Nat.le_refl _
  | succ k ih => unfold bI; split <;> omega
theorem sub_n (a b : Nat) : Int32.ofNat (a + b) - Int32.ofNat a = Int32.ofNat b := by
  rw [Int32.ofNat_add, Int32.add_comm, Int32.add_sub_cancel]
theorem r_pln (σ : Hs) (v : Int64) : fX12_plain_0 σ v = some (pln v) := rfl
theorem z_n {k : Nat} (hk : k < 2147483648) : (Int32.ofNat k = 0) = (k = 0) := by
  rw [show (0 : Int32) = Int32.ofNat 0 from rfl, eqn hk (by decide)]
def st_worst (n : Nat) (f t w : Int32) : Int32 := if ¬ (0 ≤ f.toInt ∧ f.toInt ≤ 900000000) ∨ ¬ (f.toInt ≤ t.toInt ∧ t.toInt ≤ 900000000) ∨ 2000 < t.toInt - f.toInt ∨ ¬ (0 ≤ w.toInt ∧ w.toInt ≤ 1) then 5 else if n < 2 then 8 else 0
section
variable {m : Nat} {ρ : Hs} {R : Gs} {nL nN nS nC : Nat} {bl : Nat → Bool}
noncomputable def VV (R : Gs) (nL nN nS : Nat) (bl : Nat → Bool) (t : Nat) : Nat → Int64 := fun c => pln (SH R nL nN nS bl (Int32.ofNat c) (Int32.ofNat t))
theorem VV_bd (t c : Nat) : -500000000000000000 ≤ (VV R nL nN nS bl t c).toInt ∧ (VV R nL nN nS bl t c).toInt ≤ 500000000000000000 := by
  unfold VV SH shS; exact pln_bd (shw_bd _ _ _)
noncomputable def aW (R : Gs) (nL nN nS nC : Nat) (bl : Nat → Bool) (f d : Nat) (w : Int32) : Int64 := if w = 0 then spr (VV R nL nN nS bl (f + bI (fun j => spr (VV R nL nN nS bl (f + j)) nC) d)) nC else (Int32.ofNat (f + bI (fun j => spr (VV R nL nN nS bl (f + j)) nC) d)).toInt64
theorem r_w93 (hL : RLp R nL) (hS : RSt R nS) {c f d nh : Nat} (hc : c < 12) (hf : f + d ≤ 900000000) (hd : d ≤ 2000) {R1 : Gs} (hH : Hnd R R1 nL nN nS nh bl (Int32.ofNat c)) (hF : Fr SC0 R R1) (h0 : fi R1 0 = 0) (hp : c ≠ 0 → ∀ j, j ≤ d → al R1 99 j = mnV (VV R nL nN nS bl (f + j)) c ∧ al R1 100 j = mxV (VV R nL nN nS bl (f + j)) c) (w : Int32) (k75 : Hs → Nat → Int32 → Int32 → Int32 → Int32 → Option (Int64 × Hs)) : ∃ R2, fX12_worst_93 k75 (eR m ρ R1) m (Int32.ofNat f) (Int32.ofNat (f + d)) w (Int32.ofNat c) (Int32.ofNat f) = k75 (eR m ρ R2) m (Int32.ofNat f) (Int32.ofNat (f + d)) w (Int32.ofNat (c + 1)) ∧ Fr SC0 R R2 ∧ fi R2 0 = 0 ∧ H6 R2 ∧ ∀ j, j ≤ d → al R2 99 j = mnV (VV R nL nN nS bl (f + j)) (c + 1) ∧ al R2 100 j = mxV (VV R nL nN nS bl (f + j)) (c + 1) := by
  unfold fX12_worst_93
  refine lp_q (d + 1) (fun k z => ∃ R', z = (eR m ρ R', m, Int32.ofNat f, Int32.ofNat (f + d), w, Int32.ofNat c, Int32.ofNat (f + k)) ∧ Hnd R R' nL nN nS nh bl (Int32.ofNat c) ∧ Fr SC0 R R' ∧ fi R' 0 = 0 ∧ (∀ j, j < k → al R' 99 j = mnV (VV R nL nN nS bl (f + j)) (c + 1) ∧ al R' 100 j = mxV (VV R nL nN nS bl (f + j)) (c + 1)) ∧ (c ≠ 0 → ∀ j, k ≤ j → j ≤ d → al R' 99 j = mnV (VV R nL nN nS bl (f + j)) c ∧ al R' 100 j = mxV (VV R nL nN nS bl (f + j)) c)) (fun X => ∃ R2, X = k75 (eR m ρ R2) m (Int32.ofNat f) (Int32.ofNat (f + d)) w (Int32.ofNat (c + 1)) ∧ Fr SC0 R R2 ∧ fi R2 0 = 0 ∧ H6 R2 ∧ ∀ j, j ≤ d → al R2 99 j = mnV (VV R nL nN nS bl (f + j)) (c + 1) ∧ al R2 100 j = mxV (VV R nL nN nS bl (f + j)) (c + 1)) ?_ ?_ fu 0 _ (by omega) ⟨R1, rfl, hH, hF, h0, fun j hj => absurd hj (by omega), fun q j _ hj => hp q j hj⟩ (by unfold fu; omega)
  · rintro K k _ hk ⟨R', rfl, e1, e2, e3, e4, e5⟩
    left
    obtain ⟨R2, g1, g2⟩ := r_shwAt (m := m) (ρ := ρ) (t := Int32.ofNat (f + k)) hL hS e1 (by rw [n32 (by omega)]; omega)
    rw [c32 (show c < 2147483648 by omega)] at g1
    have a13 : ai R' 13 = ai R 13 := e2.ai 13 (by decide)
    have a99 : al R2 99 = al R' 99 := g2.al 99 (by decide)
    have a100 : al R2 100 = al R' 100 := g2.al 100 (by decide)
    generalize hv : pln (SH R nL nN nS bl (Int32.ofNat c) (Int32.ofNat (f + k))) = v at *
    have hv' : VV R nL nN nS bl (f + k) c = v := hv
    have en : mnV (VV R nL nN nS bl (f + k)) (c + 1) = if c = 0 then v else (if (mnV (VV R nL nN nS bl (f + k)) c).toInt ≤ v.toInt then mnV (VV R nL nN nS bl (f + k)) c else v) := by
      rw [mnV, hv']; by_cases q : c = 0
      · rw [if_pos q, if_pos q, ← hv', q]
      · rw [if_neg q, if_neg q]
    have ex : mxV (VV R nL nN nS bl (f + k)) (c + 1) = if c = 0 then v else (if v.toInt ≤ (mxV (VV R nL nN nS bl (f + k)) c).toInt then mxV (VV R nL nN nS bl (f + k)) c else v) := by
      rw [mxV, hv']; by_cases q : c = 0
      · rw [if_pos q, if_pos q, ← hv', q]
      · rw [if_neg q, if_neg q]
    have fin : ∀ y z : Int64, y = mnV (VV R nL nN nS bl (f + k)) (c + 1) → z = mxV (VV R nL nN nS bl (f + k)) (c + 1) → ∃ s', (∃ R', s' = (eR m ρ R', m, Int32.ofNat f, Int32.ofNat (f + d), w, Int32.ofNat c, Int32.ofNat (f + (k + 1))) ∧ Hnd R R' nL nN nS nh bl (Int32.ofNat c) ∧ Fr SC0 R R' ∧ fi R' 0 = 0 ∧ (∀ j, j < k + 1 → al R' 99 j = mnV (VV R nL nN nS bl (f + j)) (c + 1) ∧ al R' 100 j = mxV (VV R nL nN nS bl (f + j)) (c + 1)) ∧ (c ≠ 0 → ∀ j, k + 1 ≤ j → j ≤ d → al R' 99 j = mnV (VV R nL nN nS bl (f + j)) c ∧ al R' 100 j = mxV (VV R nL nN nS bl (f + j)) c)) ∧ K (eR m ρ (sal (sal R2 99 (up (al R' 99) k y)) 100 (up (al R' 100) k z)), m, Int32.ofNat f, Int32.ofNat (f + d), w, Int32.ofNat c, Int32.ofNat (f + k + 1)) = K s' := by
      intro y z hy hz
      have f3 : Fr [92, 93, 99, 100] R' (sal (sal R2 99 (up (al R' 99) k y)) 100 (up (al R' 100) k z)) := ((g2.mono (by decide)).sal (by decide) _).sal (by decide) _
      refine ⟨_, ⟨_, rfl, e1.fr f3 (by decide), e2.trans (f3.mono (by decide)), (f3.i 0 (by decide)).trans e3, fun j hj => ?_, fun q j j1 j2 => ?_⟩, rfl⟩
      · show up (al R' 99) k y j = _ ∧ up (al R' 100) k z j = _
        unfold up
        by_cases q : j = k
        · rw [if_pos q, if_pos q, q]; exact ⟨hy, hz⟩
        · rw [if_neg q, if_neg q]; exact e4 j (by omega)
      · show up (al R' 99) k y j = _ ∧ up (al R' 100) k z j = _
        unfold up
        rw [if_neg (by omega), if_neg (by omega)]; exact e5 q j (by omega) j2
    simp only [fbX12_worst_93, fX12_worst_149, RisC, RG_0, RP_0, RG_1, RP_1, RN_2, Rld_2, Rst_2, RN_3, Rld_3, Rst_3, RN_4, Rld_4, Rst_4, RG_5, RP_5, RG_6, RP_6, RN_7, Rld_7, Rst_7, RN_8, Rld_8, Rst_8, RN_9, Rld_9, Rst_9, RN_10, Rld_10, Rst_10, RG_11, RP_11, RG_12, RP_12, RN_13, Rld_13, Rst_13, RN_14, Rld_14, Rst_14, RN_15, Rld_15, Rst_15, RN_16, Rld_16, Rst_16, RG_17, RP_17, RG_18, RP_18, RG_19, RP_19, RG_20, RP_20, RG_21, RP_21, RG_22, RP_22, RG_23, RP_23, RG_24, RP_24, RG_25, RP_25, RG_26, RP_26, RG_27, RP_27, RG_28, RP_28, RG_29, RP_29, RG_30, RP_30, RG_31, RP_31, RG_32, RP_32, RN_33, Rld_33, Rst_33, RN_34, Rld_34, Rst_34, RN_35, Rld_35, Rst_35, RN_36, Rld_36, Rst_36, RN_37, Rld_37, Rst_37, RN_38, Rld_38, Rst_38, RN_39, Rld_39, Rst_39, RN_40, Rld_40, Rst_40, RN_41, Rld_41, Rst_41, RN_42, Rld_42, Rst_42, RN_43, Rld_43, Rst_43, RN_44, Rld_44, Rst_44, RN_45, Rld_45, Rst_45, RG_46, RP_46, RG_47, RP_47, RG_48, RP_48, RG_49, RP_49, RN_50, Rld_50, Rst_50, RN_51, Rld_51, Rst_51, RN_52, Rld_52, Rst_52, RN_53, Rld_53, Rst_53, RN_54, Rld_54, Rst_54, RN_55, Rld_55, Rst_55, RG_56, RP_56, RG_57, RP_57, RN_58, Rld_58, Rst_58, RN_59, Rld_59, Rst_59, RN_60, Rld_60, Rst_60, RG_61, RP_61, RG_62, RP_62, RG_63, RP_63, RG_64, RP_64, RG_65, RP_65, RG_66, RP_66, RG_67, RP_67, RG_68, RP_68, RG_69, RP_69, RG_70, RP_70, RG_71, RP_71, RN_72, Rld_72, Rst_72, RN_73, Rld_73, Rst_73, RN_74, Rld_74, Rst_74, RN_75, Rld_75, Rst_75, RN_76, Rld_76, Rst_76, RN_77, Rld_77, Rst_77, RN_78, Rld_78, Rst_78, RN_79, Rld_79, Rst_79, RN_80, Rld_80, Rst_80, RN_81, Rld_81, Rst_81, RN_82, Rld_82, Rst_82, RN_83, Rld_83, Rst_83, RN_84, Rld_84, Rst_84, RN_85, Rld_85, Rst_85, RN_86, Rld_86, Rst_86, RG_87, RP_87, RG_88, RP_88, RG_89, RP_89, RG_90, RP_90, RG_91, RP_91, RG_92, RP_92, RG_93, RP_93, RN_94, Rld_94, Rst_94, RN_95, Rld_95, Rst_95, RG_96, RP_96, RN_97, Rld_97, Rst_97, RN_98, Rld_98, Rst_98, RN_99, Rld_99, Rst_99, RN_100, Rld_100, Rst_100, RG_101, RP_101, RN_102, Rld_102, Rst_102, RN_103, Rld_103, Rst_103, RN_104, Rld_104, Rst_104, RG_105, RP_105, q_fi_sfi, q_fl_sfi, q_fr_sfi, q_ai_sfi, q_al_sfi, q_ar_sfi, q_ln_sfi, q_fi_sfl, q_fl_sfl, q_fr_sfl, q_ai_sfl, q_al_sfl, q_ar_sfl, q_ln_sfl, q_fi_sfr, q_fl_sfr, q_fr_sfr, q_ai_sfr, q_al_sfr, q_ar_sfr, q_ln_sfr, q_fi_sai, q_fl_sai, q_fr_sai, q_ai_sai, q_al_sai, q_ar_sai, q_ln_sai, q_fi_sal, q_fl_sal, q_fr_sal, q_ai_sal, q_al_sal, q_ar_sal, q_ln_sal, q_fi_sar, q_fl_sar, q_fr_sar, q_ai_sar, q_al_sar, q_ar_sar, q_ln_sar, reduceIte, Nat.reduceEqDiff, RisC, r_pln, hv, Option.bind_some, a13, a99, a100, ix_n (show c < 2147483648 by omega), decide_eq_true hc, if_true, c32 (show c < 2147483648 by omega), g1, lt_n (show f + d < 2147483648 by omega) (show f + k < 2147483648 by omega), if_neg (show ¬ f + d < f + k by omega), sub_n, ix_n (show k < 2147483648 by omega), decide_eq_true (show k < 2001 by omega), c32 (show k < 2147483648 by omega), z_n (show c < 2147483648 by omega), mn64, mx64, suc32]
    by_cases q : c = 0
    · rw [if_pos q, if_pos q]
      exact fin v v (by rw [en, if_pos q]) (by rw [ex, if_pos q])
    · rw [if_neg q, if_neg q]
      obtain ⟨p1, p2⟩ := e5 q k (Nat.le_refl k) (by omega)
      rw [p1, p2]
      exact fin _ _ (by rw [en, if_neg q]) (by rw [ex, if_neg q])
  · rintro K _ ⟨R', rfl, e1, e2, e3, e4, e5⟩
    simp only [fbX12_worst_93, lt_n (show f + d < 2147483648 by omega) (show f + (d + 1) < 2147483648 by omega), if_pos (show f + d < f + (d + 1) by omega), suc32]
    exact ⟨R', rfl, e2, e3, e1.h6, fun j hj => e4 j (by omega)⟩
theorem r_w201 {R1 : Gs} {f d : Nat} (hf : f + d ≤ 900000000) (hd : d ≤ 2000) (h0 : fi R1 0 = 0) (hp : ∀ j, j ≤ d → al R1 99 j = mnV (VV R nL nN nS bl (f + j)) nC ∧ al R1 100 j = mxV (VV R nL nN nS bl (f + j)) nC) (w : Int32) : fX12_worst_201 (eR m ρ R1) m (Int32.ofNat f) (Int32.ofNat (f + d)) w 0 1 = some (aW R nL nN nS nC bl f d w, eR m ρ R1) := by
  unfold fX12_worst_201
  refine lp_q d (fun k z => z = (eR m ρ R1, m, Int32.ofNat f, Int32.ofNat (f + d), w, Int32.ofNat (bI (fun j => spr (VV R nL nN nS bl (f + j)) nC) k), Int32.ofNat (k + 1))) (fun X => X = some (aW R nL nN nS nC bl f d w, eR m ρ R1)) ?_ ?_ fu 0 _ (by omega) rfl (by unfold fu; omega)
  · rintro K k _ hk rfl
    left
    refine ⟨_, rfl, ?_⟩
    have hb := bI_le (fun j => spr (VV R nL nN nS bl (f + j)) nC) k
    have eb : bI (fun j => spr (VV R nL nN nS bl (f + j)) nC) (k + 1) = if (spr (VV R nL nN nS bl (f + (k + 1))) nC).toInt ≤ (spr (VV R nL nN nS bl (f + bI (fun j => spr (VV R nL nN nS bl (f + j)) nC) k)) nC).toInt then bI (fun j => spr (VV R nL nN nS bl (f + j)) nC) k else k + 1 := rfl
    rw [eb]
    generalize bI (fun j => spr (VV R nL nN nS bl (f + j)) nC) k = b at *
    obtain ⟨p1, p2⟩ := hp (k + 1) (by omega)
    obtain ⟨p3, p4⟩ := hp b (by omega)
    simp only [fbX12_worst_201, RisC, RG_0, RP_0, RG_1, RP_1, RN_2, Rld_2, Rst_2, RN_3, Rld_3, Rst_3, RN_4, Rld_4, Rst_4, RG_5, RP_5, RG_6, RP_6, RN_7, Rld_7, Rst_7, RN_8, Rld_8, Rst_8, RN_9, Rld_9, Rst_9, RN_10, Rld_10, Rst_10, RG_11, RP_11, RG_12, RP_12, RN_13, Rld_13, Rst_13, RN_14, Rld_14, Rst_14, RN_15, Rld_15, Rst_15, RN_16, Rld_16, Rst_16, RG_17, RP_17, RG_18, RP_18, RG_19, RP_19, RG_20, RP_20, RG_21, RP_21, RG_22, RP_22, RG_23, RP_23, RG_24, RP_24, RG_25, RP_25, RG_26, RP_26, RG_27, RP_27, RG_28, RP_28, RG_29, RP_29, RG_30, RP_30, RG_31, RP_31, RG_32, RP_32, RN_33, Rld_33, Rst_33, RN_34, Rld_34, Rst_34, RN_35, Rld_35, Rst_35, RN_36, Rld_36, Rst_36, RN_37, Rld_37, Rst_37, RN_38, Rld_38, Rst_38, RN_39, Rld_39, Rst_39, RN_40, Rld_40, Rst_40, RN_41, Rld_41, Rst_41, RN_42, Rld_42, Rst_42, RN_43, Rld_43, Rst_43, RN_44, Rld_44, Rst_44, RN_45, Rld_45, Rst_45, RG_46, RP_46, RG_47, RP_47, RG_48, RP_48, RG_49, RP_49, RN_50, Rld_50, Rst_50, RN_51, Rld_51, Rst_51, RN_52, Rld_52, Rst_52, RN_53, Rld_53, Rst_53, RN_54, Rld_54, Rst_54, RN_55, Rld_55, Rst_55, RG_56, RP_56, RG_57, RP_57, RN_58, Rld_58, Rst_58, RN_59, Rld_59, Rst_59, RN_60, Rld_60, Rst_60, RG_61, RP_61, RG_62, RP_62, RG_63, RP_63, RG_64, RP_64, RG_65, RP_65, RG_66, RP_66, RG_67, RP_67, RG_68, RP_68, RG_69, RP_69, RG_70, RP_70, RG_71, RP_71, RN_72, Rld_72, Rst_72, RN_73, Rld_73, Rst_73, RN_74, Rld_74, Rst_74, RN_75, Rld_75, Rst_75, RN_76, Rld_76, Rst_76, RN_77, Rld_77, Rst_77, RN_78, Rld_78, Rst_78, RN_79, Rld_79, Rst_79, RN_80, Rld_80, Rst_80, RN_81, Rld_81, Rst_81, RN_82, Rld_82, Rst_82, RN_83, Rld_83, Rst_83, RN_84, Rld_84, Rst_84, RN_85, Rld_85, Rst_85, RN_86, Rld_86, Rst_86, RG_87, RP_87, RG_88, RP_88, RG_89, RP_89, RG_90, RP_90, RG_91, RP_91, RG_92, RP_92, RG_93, RP_93, RN_94, Rld_94, Rst_94, RN_95, Rld_95, Rst_95, RG_96, RP_96, RN_97, Rld_97, Rst_97, RN_98, Rld_98, Rst_98, RN_99, Rld_99, Rst_99, RN_100, Rld_100, Rst_100, RG_101, RP_101, RN_102, Rld_102, Rst_102, RN_103, Rld_103, Rst_103, RN_104, Rld_104, Rst_104, RG_105, RP_105, Option.bind_some, sub_n, lt_n (show d < 2147483648 by omega) (show k + 1 < 2147483648 by omega), if_neg (show ¬ d < k + 1 by omega), ix_n (show k + 1 < 2147483648 by omega), ix_n (show b < 2147483648 by omega), decide_eq_true (show k + 1 < 2001 by omega), decide_eq_true (show b < 2001 by omega), if_true, c32 (show k + 1 < 2147483648 by omega), c32 (show b < 2147483648 by omega), p1, p2, p3, p4, le64, suc32]
    show (if (spr (VV R nL nN nS bl (f + (k + 1))) nC).toInt ≤ (spr (VV R nL nN nS bl (f + b)) nC).toInt then _ else _) = _
    by_cases q : (spr (VV R nL nN nS bl (f + (k + 1))) nC).toInt ≤ (spr (VV R nL nN nS bl (f + b)) nC).toInt
    · rw [if_pos q, if_pos q]
    · rw [if_neg q, if_neg q]
  · rintro K _ rfl
    have hb := bI_le (fun j => spr (VV R nL nN nS bl (f + j)) nC) d
    unfold aW
    generalize bI (fun j => spr (VV R nL nN nS bl (f + j)) nC) d = b at *
    obtain ⟨p3, p4⟩ := hp b hb
    simp only [fbX12_worst_201, RisC, RG_0, RP_0, RG_1, RP_1, RN_2, Rld_2, Rst_2, RN_3, Rld_3, Rst_3, RN_4, Rld_4, Rst_4, RG_5, RP_5, RG_6, RP_6, RN_7, Rld_7, Rst_7, RN_8, Rld_8, Rst_8, RN_9, Rld_9, Rst_9, RN_10, Rld_10, Rst_10, RG_11, RP_11, RG_12, RP_12, RN_13, Rld_13, Rst_13, RN_14, Rld_14, Rst_14, RN_15, Rld_15, Rst_15, RN_16, Rld_16, Rst_16, RG_17, RP_17, RG_18, RP_18, RG_19, RP_19, RG_20, RP_20, RG_21, RP_21, RG_22, RP_22, RG_23, RP_23, RG_24, RP_24, RG_25, RP_25, RG_26, RP_26, RG_27, RP_27, RG_28, RP_28, RG_29, RP_29, RG_30, RP_30, RG_31, RP_31, RG_32, RP_32, RN_33, Rld_33, Rst_33, RN_34, Rld_34, Rst_34, RN_35, Rld_35, Rst_35, RN_36, Rld_36, Rst_36, RN_37, Rld_37, Rst_37, RN_38, Rld_38, Rst_38, RN_39, Rld_39, Rst_39, RN_40, Rld_40, Rst_40, RN_41, Rld_41, Rst_41, RN_42, Rld_42, Rst_42, RN_43, Rld_43, Rst_43, RN_44, Rld_44, Rst_44, RN_45, Rld_45, Rst_45, RG_46, RP_46, RG_47, RP_47, RG_48, RP_48, RG_49, RP_49, RN_50, Rld_50, Rst_50, RN_51, Rld_51, Rst_51, RN_52, Rld_52, Rst_52, RN_53, Rld_53, Rst_53, RN_54, Rld_54, Rst_54, RN_55, Rld_55, Rst_55, RG_56, RP_56, RG_57, RP_57, RN_58, Rld_58, Rst_58, RN_59, Rld_59, Rst_59, RN_60, Rld_60, Rst_60, RG_61, RP_61, RG_62, RP_62, RG_63, RP_63, RG_64, RP_64, RG_65, RP_65, RG_66, RP_66, RG_67, RP_67, RG_68, RP_68, RG_69, RP_69, RG_70, RP_70, RG_71, RP_71, RN_72, Rld_72, Rst_72, RN_73, Rld_73, Rst_73, RN_74, Rld_74, Rst_74, RN_75, Rld_75, Rst_75, RN_76, Rld_76, Rst_76, RN_77, Rld_77, Rst_77, RN_78, Rld_78, Rst_78, RN_79, Rld_79, Rst_79, RN_80, Rld_80, Rst_80, RN_81, Rld_81, Rst_81, RN_82, Rld_82, Rst_82, RN_83, Rld_83, Rst_83, RN_84, Rld_84, Rst_84, RN_85, Rld_85, Rst_85, RN_86, Rld_86, Rst_86, RG_87, RP_87, RG_88, RP_88, RG_89, RP_89, RG_90, RP_90, RG_91, RP_91, RG_92, RP_92, RG_93, RP_93, RN_94, Rld_94, Rst_94, RN_95, Rld_95, Rst_95, RG_96, RP_96, RN_97, Rld_97, Rst_97, RN_98, Rld_98, Rst_98, RN_99, Rld_99, Rst_99, RN_100, Rld_100, Rst_100, RG_101, RP_101, RN_102, Rld_102, Rst_102, RN_103, Rld_103, Rst_103, RN_104, Rld_104, Rst_104, RG_105, RP_105, Option.bind_some, sub_n, lt_n (show d < 2147483648 by omega) (show d + 1 < 2147483648 by omega), if_pos (show d < d + 1 by omega), ix_n (show b < 2147483648 by omega), decide_eq_true (show b < 2001 by omega), if_true, c32 (show b < 2147483648 by omega), p3, p4, add_n]
    by_cases q : w = 0
    · rw [if_pos q, if_pos q]; rfl
    · rw [if_neg q, if_neg q]
theorem r_worst (hL : RLp R nL) (hN : RN R nN) (hS : RSt R nS) (hB : HB m ρ R nN bl) (hC : fi R 11 = Int32.ofNat nC) (h12 : nC ≤ 12) (f t w : Int32) : QL m ρ R (st_worst nC f t w) (aW R nL nN nS nC bl f.toNatClampNeg (t.toNatClampNeg - f.toNatClampNeg) w) R (fX12_worst_0 (eR m ρ R) m f t w) := by
  have e9 : (900000000 : Int64).toInt = 900000000 := rfl
  have h2n : ((2 : Int32) ≤ Int32.ofNat nC) = (2 ≤ nC) := by rw [show (2 : Int32) = Int32.ofNat 2 from rfl]; exact propext (le_n (by decide) (by omega))
  unfold fX12_worst_0
  simp only [RP_1, RP_0, RG_11, q_fi_sfi, q_fl_sfi, q_fr_sfi, q_ai_sfi, q_al_sfi, q_ar_sfi, q_ln_sfi, q_fi_sfl, q_fl_sfl, q_fr_sfl, q_ai_sfl, q_al_sfl, q_ar_sfl, q_ln_sfl, q_fi_sfr, q_fl_sfr, q_fr_sfr, q_ai_sfr, q_al_sfr, q_ar_sfr, q_ln_sfr, q_fi_sai, q_fl_sai, q_fr_sai, q_ai_sai, q_al_sai, q_ar_sai, q_ln_sai, q_fi_sal, q_fl_sal, q_fr_sal, q_ai_sal, q_al_sal, q_ar_sal, q_ln_sal, q_fi_sar, q_fl_sar, q_fr_sar, q_ai_sar, q_al_sar, q_ar_sar, q_ln_sar, reduceIte, Nat.reduceEqDiff, RisC, r_refuse, r_isCount, r_isI, Option.bind_some, b2i_0, up64, e9, hC, h2n, Int64.reduceToInt]
  rcases Decidable.em (¬ (0 ≤ f.toInt ∧ f.toInt ≤ 900000000)) with hc1 | hc1
  · rw [if_pos hc1]; exact QL.no (by decide) (by unfold st_worst; (repeat' split) <;> (first | rfl | omega)) rfl (fr1 R)
  rw [if_neg hc1]
  rcases Decidable.em (¬ (f.toInt ≤ t.toInt ∧ t.toInt ≤ 900000000)) with hc2 | hc2
  · rw [if_pos hc2]; exact QL.no (by decide) (by unfold st_worst; (repeat' split) <;> (first | rfl | omega)) rfl (fr1 R)
  rw [if_neg hc2]
  have ed : (t - f).toInt = t.toInt - f.toInt := by rw [sub32]; omega
  have e20 : ((2000 : Int32) < t - f) = (2000 < t.toInt - f.toInt) := by rw [lt32, ed]; rfl
  simp only [e20]
  rcases Decidable.em (2000 < t.toInt - f.toInt) with hc3 | hc3
  · rw [if_pos hc3]; exact QL.no (by decide) (by unfold st_worst; (repeat' split) <;> (first | rfl | omega)) rfl (fr1 R)
  rw [if_neg hc3]
  rcases Decidable.em (¬ (0 ≤ w.toInt ∧ w.toInt ≤ 1)) with hc4 | hc4
  · rw [if_pos hc4]; exact QL.no (by decide) (by unfold st_worst; (repeat' split) <;> (first | rfl | omega)) rfl (fr1 R)
  rw [if_neg hc4]
  rcases Decidable.em (¬ (2 ≤ nC)) with hc5 | hc5
  · rw [if_neg hc5]; exact QL.no (by decide) (by unfold st_worst; rw [if_neg (by omega), if_pos (by omega)]) rfl (fr1 R)
  replace hc5 := Decidable.not_not.mp hc5
  rw [if_pos hc5]
  have hst : st_worst nC f t w = 0 := by unfold st_worst; rw [if_neg (by omega), if_neg (by omega)]
  obtain ⟨fn, rfl, f1, f2⟩ := get32 f (by omega)
  obtain ⟨tn, rfl, t1, t2⟩ := get32 t (by omega)
  obtain ⟨d, rfl⟩ : ∃ d, tn = fn + d := ⟨tn - fn, by omega⟩
  rw [c32 f1, c32 t1, show fn + d - fn = d by omega]
  unfold fX12_worst_75
  refine lp_q nC (fun c z => ∃ R', z = (eR m ρ R', m, Int32.ofNat fn, Int32.ofNat (fn + d), w, Int32.ofNat c) ∧ Fr SC0 R R' ∧ fi R' 0 = 0 ∧ (H6 R → H6 R') ∧ (c ≠ 0 → ∀ j, j ≤ d → al R' 99 j = mnV (VV R nL nN nS bl (fn + j)) c ∧ al R' 100 j = mxV (VV R nL nN nS bl (fn + j)) c)) (QL m ρ R (st_worst nC (Int32.ofNat fn) (Int32.ofNat (fn + d)) w) (aW R nL nN nS nC bl fn d w) R) ?_ ?_ fu 0 _ (by omega) ⟨_, rfl, fr1 R, rfl, fun h => h, fun q => absurd rfl q⟩ (by unfold fu; omega)
  · rintro K c _ hk ⟨R', rfl, q1, q2, q3, q4⟩
    left
    obtain ⟨R1, nh, p1, p2, p3⟩ := r_find (c := Int32.ofNat c) hL hN hS hB q1
    have a99 : al R1 99 = al R' 99 := p2.al 99 (by decide)
    have a100 : al R1 100 = al R' 100 := p2.al 100 (by decide)
    obtain ⟨R2, s1, s2, s3, s4, s5⟩ := r_w93 (m := m) (ρ := ρ) (c := c) (f := fn) (d := d) hL hS (by omega) (by omega) (by omega) p3 (q1.trans (p2.mono (by decide))) ((p2.i 0 (by decide)).trans q2) (fun q j hj => by rw [a99, a100]; exact q4 q j hj) w (fun σ xv0 xv1 xv2 xv3 xv4 => K (σ, xv0, xv1, xv2, xv3, xv4))
    refine ⟨_, ⟨R2, rfl, s2, s3, fun _ => s4, fun _ j hj => s5 j hj⟩, ?_⟩
    have h11 : fi R' 11 = Int32.ofNat nC := (q1.i 11 (by decide)).trans hC
    simp only [fbX12_worst_75, RG_11, h11, Option.bind_some, le_n (show nC < 2147483648 by omega) (show c < 2147483648 by omega), if_neg (show ¬ nC ≤ c by omega), RisC, p1, s1]
  · rintro K _ ⟨R', rfl, q1, q2, q3, q4⟩
    have h11 : fi R' 11 = Int32.ofNat nC := (q1.i 11 (by decide)).trans hC
    simp only [fbX12_worst_75, RG_11, h11, Option.bind_some, Int32.le_refl, if_true]
    rw [r_w201 (R := R) (nL := nL) (nN := nN) (nS := nS) (nC := nC) (bl := bl) (by omega) (by omega) q2 (q4 (by omega)) w]
    exact QL.ok hst rfl q2 q1 q3
end
