theorem and255 (v : Int32) : 0 ≤ (v &&& 255).toInt ∧ (v &&& 255).toInt ≤ 255 := by
  have h : (v &&& 255).toBitVec.toNat ≤ 255 := by
    rw [Int32.toBitVec_and, BitVec.toNat_and]; exact Nat.and_le_right
  have e : (v &&& 255).toInt = ((v &&& 255).toBitVec.toNat : Int) := by
    show (v &&& 255).toBitVec.toInt = _
    rw [BitVec.toInt_eq_toNat_of_lt (by omega)]
  omega
def txR (R : Gs) : Nat → Int := fun j => (ai R 16 j &&& 255).toInt
theorem txR_b (R : Gs) (j : Nat) : 0 ≤ txR R j ∧ txR R j ≤ 255 := and255 _
def Cur (R : Gs) (pr : Bool) (tx : Nat → Int) (n p : Nat) : Prop := fi R 24 = Int32.ofNat (tK pr tx n p) ∧ fi R 25 = Int32.ofNat p ∧ fi R 26 = Int32.ofNat (tE tx n p) ∧ (tK pr tx n p = 1 → fi R 28 = Int32.ofNat (tE tx n p - p) ∧ (fl R 29).toInt = if tE tx n p - p ≤ 12 then va tx p (tE tx n p - p) else -1) ∧ (tK pr tx n p = 2 → (fi R 27).toInt = nuv tx p (tE tx n p - p)) ∧ (tK pr tx n p = 3 → (fi R 27).toInt = tx p)
section
variable {m : Nat} {ρ : Hs} {R : Gs} {n : Nat}
theorem r_look (h18 : fi R 18 = Int32.ofNat n) (hn : n ≤ 500) {j : Nat} (hj : j < 2147483648) : fX12_look_0 (eR m ρ R) m (Int32.ofNat j) = some (if j < n then ai R 16 j &&& 255 else 0) := by
  unfold fX12_look_0
  simp only [RG_18, h18, Option.bind_some, le_n (show n < 2147483648 by omega) hj]
  by_cases c : j < n
  · rw [if_neg (by omega), if_pos c]
    simp only [RisC, RG_0, RP_0, RG_1, RP_1, RN_2, Rld_2, Rst_2, RN_3, Rld_3, Rst_3, RN_4, Rld_4, Rst_4, RG_5, RP_5, RG_6, RP_6, RN_7, Rld_7, Rst_7, RN_8, Rld_8, Rst_8, RN_9, Rld_9, Rst_9, RN_10, Rld_10, Rst_10, RG_11, RP_11, RG_12, RP_12, RN_13, Rld_13, Rst_13, RN_14, Rld_14, Rst_14, RN_15, Rld_15, Rst_15, RN_16, Rld_16, Rst_16, RG_17, RP_17, RG_18, RP_18, RG_19, RP_19, RG_20, RP_20, RG_21, RP_21, RG_22, RP_22, RG_23, RP_23, RG_24, RP_24, RG_25, RP_25, RG_26, RP_26, RG_27, RP_27, RG_28, RP_28, RG_29, RP_29, RG_30, RP_30, RG_31, RP_31, RG_32, RP_32, RN_33, Rld_33, Rst_33, RN_34, Rld_34, Rst_34, RN_35, Rld_35, Rst_35, RN_36, Rld_36, Rst_36, RN_37, Rld_37, Rst_37, RN_38, Rld_38, Rst_38, RN_39, Rld_39, Rst_39, RN_40, Rld_40, Rst_40, RN_41, Rld_41, Rst_41, RN_42, Rld_42, Rst_42, RN_43, Rld_43, Rst_43, RN_44, Rld_44, Rst_44, RN_45, Rld_45, Rst_45, RG_46, RP_46, RG_47, RP_47, RG_48, RP_48, RG_49, RP_49, RN_50, Rld_50, Rst_50, RN_51, Rld_51, Rst_51, RN_52, Rld_52, Rst_52, RN_53, Rld_53, Rst_53, RN_54, Rld_54, Rst_54, RN_55, Rld_55, Rst_55, RG_56, RP_56, RG_57, RP_57, RN_58, Rld_58, Rst_58, RN_59, Rld_59, Rst_59, RN_60, Rld_60, Rst_60, RG_61, RP_61, RG_62, RP_62, RG_63, RP_63, RG_64, RP_64, RG_65, RP_65, RG_66, RP_66, RG_67, RP_67, RG_68, RP_68, RG_69, RP_69, RG_70, RP_70, RG_71, RP_71, RN_72, Rld_72, Rst_72, RN_73, Rld_73, Rst_73, RN_74, Rld_74, Rst_74, RN_75, Rld_75, Rst_75, RN_76, Rld_76, Rst_76, RN_77, Rld_77, Rst_77, RN_78, Rld_78, Rst_78, RN_79, Rld_79, Rst_79, RN_80, Rld_80, Rst_80, RN_81, Rld_81, Rst_81, RN_82, Rld_82, Rst_82, RN_83, Rld_83, Rst_83, RN_84, Rld_84, Rst_84, RN_85, Rld_85, Rst_85, RN_86, Rld_86, Rst_86, RG_87, RP_87, RG_88, RP_88, RG_89, RP_89, RG_90, RP_90, RG_91, RP_91, RG_92, RP_92, RG_93, RP_93, RN_94, Rld_94, Rst_94, RN_95, Rld_95, Rst_95, RG_96, RP_96, RN_97, Rld_97, Rst_97, RN_98, Rld_98, Rst_98, RN_99, Rld_99, Rst_99, RN_100, Rld_100, Rst_100, RG_101, RP_101, RN_102, Rld_102, Rst_102, RN_103, Rld_103, Rst_103, RN_104, Rld_104, Rst_104, RG_105, RP_105, Option.bind_some, ix_n hj, decide_eq_true (show j < 500 by omega), if_true, c32 hj]
  · rw [if_pos (by omega), if_neg c]
theorem r_isLetter (σ : Hs) (v : Int32) : fX12_isLetter_0 σ v = some (b2i (isLt v.toInt)) := by
  unfold fX12_isLetter_0 b2i
  simp only [lt32, show (97 : Int32).toInt = 97 from rfl, show (122 : Int32).toInt = 122 from rfl, bb_0, bb_1]
  (repeat' split) <;> first | rfl | omega
theorem r_isDigit (σ : Hs) (v : Int32) : fX12_isDigit_0 σ v = some (b2i (isDg v.toInt)) := by
  unfold fX12_isDigit_0 b2i
  simp only [lt32, show (48 : Int32).toInt = 48 from rfl, show (57 : Int32).toInt = 57 from rfl, bb_0, bb_1]
  (repeat' split) <;> first | rfl | omega
theorem look_L {p j : Nat} (hp : p < n) (hL : isLt (txR R p)) (hj : j ≤ tE (txR R) n p - p) : isLt ((if p + j < n then ai R 16 (p + j) &&& 255 else 0 : Int32)).toInt ↔ p + j < tE (txR R) n p := by
  obtain ⟨e, h⟩ := tE_L hp hL
  have hb := tE_b (tx := txR R) hp
  by_cases c : p + j < tE (txR R) n p
  · rw [if_pos (by omega)]; exact ⟨fun _ => c, fun _ => h j c⟩
  · refine ⟨fun q => ?_, fun q => absurd q c⟩
    have ej : p + j = tE (txR R) n p := by omega
    by_cases d : p + j < n
    · rw [if_pos d] at q
      have := (nx_in (qL (txR R)) (show p ≤ n by omega)).2.2.2 (by rw [← e]; omega)
      rw [← e, ← ej] at this
      exact absurd q (of_decide_eq_false this)
    · rw [if_neg d] at q; exact absurd q (by decide)
theorem look_D {p j : Nat} (hp : p < n) (hL : ¬ isLt (txR R p)) (hD : isDg (txR R p)) (hj : j ≤ tE (txR R) n p - p) : isDg ((if p + j < n then ai R 16 (p + j) &&& 255 else 0 : Int32)).toInt ↔ p + j < tE (txR R) n p := by
  obtain ⟨e, h⟩ := tE_D hp hL hD
  have hb := tE_b (tx := txR R) hp
  by_cases c : p + j < tE (txR R) n p
  · rw [if_pos (by omega)]; exact ⟨fun _ => c, fun _ => h j c⟩
  · refine ⟨fun q => ?_, fun q => absurd q c⟩
    have ej : p + j = tE (txR R) n p := by omega
    by_cases d : p + j < n
    · rw [if_pos d] at q
      have := (nx_in (qD (txR R)) (show p ≤ n by omega)).2.2.2 (by rw [← e]; omega)
      rw [← e, ← ej] at this
      exact absurd q (of_decide_eq_false this)
    · rw [if_neg d] at q; exact absurd q (by decide)
theorem txR_fr {R' : Gs} {L : List Nat} (h : Fr L R R') (hk : 16 ∉ L) : txR R' = txR R := by unfold txR; rw [h.ai 16 hk]
theorem sub_nn {a b : Nat} (h : b ≤ a) : Int32.ofNat a - Int32.ofNat b = Int32.ofNat (a - b) := by
  obtain ⟨c, rfl⟩ : ∃ c, a = b + c := ⟨a - b, by omega⟩
  rw [sub_n, show b + c - b = c by omega]
theorem r_n109 (h18 : fi R 18 = Int32.ofNat n) (hn : n ≤ 500) {p : Nat} (hp : p < n) (hL : isLt (txR R p)) (h25 : fi R 25 = Int32.ofNat p) (h26 : fi R 26 = Int32.ofNat p) (h29 : fl R 29 = 0) : ∃ R', fX12_next_109 (eR m ρ R) m = some (eR m ρ R') ∧ Fr [26, 28, 29] R R' ∧ fi R' 26 = Int32.ofNat (tE (txR R) n p) ∧ fi R' 28 = Int32.ofNat (tE (txR R) n p - p) ∧ (fl R' 29).toInt = if tE (txR R) n p - p ≤ 12 then va (txR R) p (tE (txR R) n p - p) else -1 := by
  have hb := tE_b (tx := txR R) hp
  obtain ⟨-, hlet⟩ := tE_L hp hL
  unfold fX12_next_109
  refine lp_q (tE (txR R) n p - p) (fun k z => ∃ R', z = (eR m ρ R', m) ∧ Fr [26, 28, 29] R R' ∧ fi R' 26 = Int32.ofNat (p + k) ∧ (fl R' 29).toInt = if k ≤ 12 then va (txR R) p k else -1) (fun X => ∃ R', X = some (eR m ρ R') ∧ Fr [26, 28, 29] R R' ∧ fi R' 26 = Int32.ofNat (tE (txR R) n p) ∧ fi R' 28 = Int32.ofNat (tE (txR R) n p - p) ∧ (fl R' 29).toInt = if tE (txR R) n p - p ≤ 12 then va (txR R) p (tE (txR R) n p - p) else -1) ?_ ?_ fu 0 _ (by omega) ⟨R, rfl, Fr.refl _ _, h26, by rw [h29]; rfl⟩ (by unfold fu; omega)
  · rintro K k _ hk ⟨R', rfl, f1, f2, f3⟩
    left
    have g18 : fi R' 18 = Int32.ofNat n := (f1.i 18 (by decide)).trans h18
    have g25 : fi R' 25 = Int32.ofNat p := (f1.i 25 (by decide)).trans h25
    have a16 : ai R' 16 = ai R 16 := f1.ai 16 (by decide)
    have hlk := r_look (m := m) (ρ := ρ) g18 hn (show p + k < 2147483648 by omega)
    rw [a16, if_pos (show p + k < n by omega)] at hlk
    have hpk := hlet k (by omega)
    simp only [fbX12_next_109, RG_26, RG_25, RisC, f2, g25, hlk, r_isLetter, Option.bind_some, b2i_0, sub_n, RP_26, RP_29, RG_29, q_fi_sfi, q_fl_sfi, q_fr_sfi, q_ai_sfi, q_al_sfi, q_ar_sfi, q_ln_sfi, q_fi_sfl, q_fl_sfl, q_fr_sfl, q_ai_sfl, q_al_sfl, q_ar_sfl, q_ln_sfl, q_fi_sfr, q_fl_sfr, q_fr_sfr, q_ai_sfr, q_al_sfr, q_ar_sfr, q_ln_sfr, q_fi_sai, q_fl_sai, q_fr_sai, q_ai_sai, q_al_sai, q_ar_sai, q_ln_sai, q_fi_sal, q_fl_sal, q_fr_sal, q_ai_sal, q_al_sal, q_ar_sal, q_ln_sal, q_fi_sar, q_fl_sar, q_fr_sar, q_ai_sar, q_al_sar, q_ar_sar, q_ln_sar, reduceIte, Nat.reduceEqDiff, suc32]
    rw [if_neg (show ¬ ¬ isLt (ai R 16 (p + k) &&& 255).toInt from fun q => q hpk)]
    have e12 : ((12 : Int32) ≤ Int32.ofNat k) = (12 ≤ k) := by rw [show (12 : Int32) = Int32.ofNat 12 from rfl]; exact propext (le_n (by decide) (by omega))
    simp only [e12]
    by_cases c : 12 ≤ k
    · rw [if_pos c]
      refine ⟨_, ⟨_, rfl, (f1.sfl (k := 29) (by decide) _).sfi (k := 26) (by decide) _, rfl, ?_⟩, rfl⟩
      rw [if_neg (by omega)]; rfl
    · rw [if_neg c]
      refine ⟨_, ⟨_, rfl, (f1.sfl (k := 29) (by decide) _).sfi (k := 26) (by decide) _, rfl, ?_⟩, rfl⟩
      rw [if_pos (by omega)] at f3
      rw [if_pos (by omega)]
      show (fl R' 29 * 32 + (ai R 16 (p + k) &&& 255).toInt64 - 96).toInt = 32 * va (txR R) p k + (txR R (p + k) - 96)
      have hv := va_b (tx := txR R) (p := p) k (fun j hj => hlet j (by omega))
      have h32 : (32 : Int) ^ k ≤ 32 ^ 12 := by
        have : 32 ^ k ≤ 32 ^ 12 := Nat.pow_le_pow_right (by decide) (by omega)
        exact_mod_cast this
      have h32' : (32 : Int) ^ 12 = 1152921504606846976 := by decide
      have e32 : (32 : Int64).toInt = 32 := rfl
      have e96 : (96 : Int64).toInt = 96 := rfl
      have hx : (ai R 16 (p + k) &&& 255).toInt = txR R (p + k) := rfl
      have hxb := txR_b R (p + k)
      have hk11 : k ≤ 11 := by omega
      have h11 : (32 : Int) ^ k ≤ 32 ^ 11 := by
        have : 32 ^ k ≤ 32 ^ 11 := Nat.pow_le_pow_right (by decide) hk11
        exact_mod_cast this
      have h11' : (32 : Int) ^ 11 = 36028797018963968 := by decide
      have m1 : (fl R' 29 * 32).toInt = 32 * va (txR R) p k := by
        rw [mul64, f3, e32]; omega
        rw [f3, e32]; omega
      have m2 : (fl R' 29 * 32 + (ai R 16 (p + k) &&& 255).toInt64).toInt = 32 * va (txR R) p k + txR R (p + k) := by
        rw [add64, m1, up64, hx]
        rw [m1, up64, hx]; omega
      rw [sub64, m2, e96]; omega
      rw [m2, e96]; omega
  · rintro K _ ⟨R', rfl, f1, f2, f3⟩
    have g18 : fi R' 18 = Int32.ofNat n := (f1.i 18 (by decide)).trans h18
    have g25 : fi R' 25 = Int32.ofNat p := (f1.i 25 (by decide)).trans h25
    have a16 : ai R' 16 = ai R 16 := f1.ai 16 (by decide)
    have hc : ¬ isLt ((if p + (tE (txR R) n p - p) < n then ai R 16 (p + (tE (txR R) n p - p)) &&& 255 else 0 : Int32)).toInt := fun q => absurd ((look_L (R := R) hp hL (Nat.le_refl _)).mp q) (by omega)
    have hlk := r_look (m := m) (ρ := ρ) g18 hn (show p + (tE (txR R) n p - p) < 2147483648 by omega)
    rw [a16] at hlk
    simp only [fbX12_next_109, RG_26, RG_25, RisC, f2, g25, hlk, r_isLetter, Option.bind_some, b2i_0, if_pos hc, sub_n, RP_28]
    refine ⟨_, rfl, f1.sfi (by decide) _, ?_, rfl, f3⟩
    show fi R' 26 = _
    rw [f2, show p + (tE (txR R) n p - p) = tE (txR R) n p by omega]
theorem r_n210 (h18 : fi R 18 = Int32.ofNat n) (hn : n ≤ 500) {p : Nat} (hp : p < n) (hL : ¬ isLt (txR R p)) (hD : isDg (txR R p)) (h25 : fi R 25 = Int32.ofNat p) (h26 : fi R 26 = Int32.ofNat p) (h27 : fi R 27 = 0) : ∃ R', fX12_next_210 (eR m ρ R) m = some (eR m ρ R') ∧ Fr [24, 26, 27] R R' ∧ fi R' 26 = Int32.ofNat (tE (txR R) n p) ∧ fi R' 24 = (if tE (txR R) n p - p ≤ 6 then 2 else 4) ∧ (tE (txR R) n p - p ≤ 6 → (fi R' 27).toInt = nuv (txR R) p (tE (txR R) n p - p)) := by
  have hb := tE_b (tx := txR R) hp
  obtain ⟨-, hdig⟩ := tE_D hp hL hD
  unfold fX12_next_210
  refine lp_q (tE (txR R) n p - p) (fun k z => ∃ R', z = (eR m ρ R', m) ∧ Fr [24, 26, 27] R R' ∧ fi R' 26 = Int32.ofNat (p + k) ∧ (k ≤ 6 → (fi R' 27).toInt = nuv (txR R) p k)) (fun X => ∃ R', X = some (eR m ρ R') ∧ Fr [24, 26, 27] R R' ∧ fi R' 26 = Int32.ofNat (tE (txR R) n p) ∧ fi R' 24 = (if tE (txR R) n p - p ≤ 6 then 2 else 4) ∧ (tE (txR R) n p - p ≤ 6 → (fi R' 27).toInt = nuv (txR R) p (tE (txR R) n p - p))) ?_ ?_ fu 0 _ (by omega) ⟨R, rfl, Fr.refl _ _, h26, fun _ => by rw [h27]; rfl⟩ (by unfold fu; omega)
  · rintro K k _ hk ⟨R', rfl, f1, f2, f3⟩
    left
    have g18 : fi R' 18 = Int32.ofNat n := (f1.i 18 (by decide)).trans h18
    have g25 : fi R' 25 = Int32.ofNat p := (f1.i 25 (by decide)).trans h25
    have a16 : ai R' 16 = ai R 16 := f1.ai 16 (by decide)
    have hlk := r_look (m := m) (ρ := ρ) g18 hn (show p + k < 2147483648 by omega)
    rw [a16, if_pos (show p + k < n by omega)] at hlk
    simp only [fbX12_next_210, RG_26, RG_25, RisC, f2, g25, hlk, r_isDigit, Option.bind_some, b2i_0, sub_n, RP_26, RP_27, RG_27, q_fi_sfi, q_fl_sfi, q_fr_sfi, q_ai_sfi, q_al_sfi, q_ar_sfi, q_ln_sfi, q_fi_sfl, q_fl_sfl, q_fr_sfl, q_ai_sfl, q_al_sfl, q_ar_sfl, q_ln_sfl, q_fi_sfr, q_fl_sfr, q_fr_sfr, q_ai_sfr, q_al_sfr, q_ar_sfr, q_ln_sfr, q_fi_sai, q_fl_sai, q_fr_sai, q_ai_sai, q_al_sai, q_ar_sai, q_ln_sai, q_fi_sal, q_fl_sal, q_fr_sal, q_ai_sal, q_al_sal, q_ar_sal, q_ln_sal, q_fi_sar, q_fl_sar, q_fr_sar, q_ai_sar, q_al_sar, q_ar_sar, q_ln_sar, reduceIte, Nat.reduceEqDiff, suc32]
    rw [if_neg (show ¬ ¬ isDg (ai R 16 (p + k) &&& 255).toInt from fun q => q (hdig k (by omega)))]
    have e6 : ((6 : Int32) ≤ Int32.ofNat k) = (6 ≤ k) := by rw [show (6 : Int32) = Int32.ofNat 6 from rfl]; exact propext (le_n (by decide) (by omega))
    simp only [e6]
    by_cases c : 6 ≤ k
    · rw [if_pos c]
      exact ⟨_, ⟨_, rfl, f1.sfi (k := 26) (by decide) _, rfl, fun q => absurd q (by omega)⟩, rfl⟩
    · rw [if_neg c]
      refine ⟨_, ⟨_, rfl, (f1.sfi (k := 27) (by decide) _).sfi (k := 26) (by decide) _, rfl, fun _ => ?_⟩, rfl⟩
      show (10 * fi R' 27 + (ai R 16 (p + k) &&& 255) - 48).toInt = 10 * nuv (txR R) p k + (txR R (p + k) - 48)
      have hv := nuv_b (tx := txR R) (p := p) k (fun j hj => hdig j (by omega))
      have h10 : (10 : Int) ^ k ≤ 10 ^ 6 := by
        have : 10 ^ k ≤ 10 ^ 6 := Nat.pow_le_pow_right (by decide) (by omega)
        exact_mod_cast this
      have h10' : (10 : Int) ^ 6 = 1000000 := by decide
      have g3 := f3 (by omega)
      have e10 : (10 : Int32).toInt = 10 := rfl
      have e48 : (48 : Int32).toInt = 48 := rfl
      have hx : (ai R 16 (p + k) &&& 255).toInt = txR R (p + k) := rfl
      have hxb := txR_b R (p + k)
      have m1 : (10 * fi R' 27).toInt = 10 * nuv (txR R) p k := by
        rw [mul32, g3, e10]
        rw [g3, e10]; omega
      have m2 : (10 * fi R' 27 + (ai R 16 (p + k) &&& 255)).toInt = 10 * nuv (txR R) p k + txR R (p + k) := by
        rw [add32, m1, hx]
        rw [m1, hx]; omega
      rw [sub32, m2, e48]; omega
      rw [m2, e48]; omega
  · rintro K _ ⟨R', rfl, f1, f2, f3⟩
    have g18 : fi R' 18 = Int32.ofNat n := (f1.i 18 (by decide)).trans h18
    have g25 : fi R' 25 = Int32.ofNat p := (f1.i 25 (by decide)).trans h25
    have a16 : ai R' 16 = ai R 16 := f1.ai 16 (by decide)
    have hc : ¬ isDg ((if p + (tE (txR R) n p - p) < n then ai R 16 (p + (tE (txR R) n p - p)) &&& 255 else 0 : Int32)).toInt := fun q => absurd ((look_D (R := R) hp hL hD (Nat.le_refl _)).mp q) (by omega)
    have hlk := r_look (m := m) (ρ := ρ) g18 hn (show p + (tE (txR R) n p - p) < 2147483648 by omega)
    rw [a16] at hlk
    have e6 : (Int32.ofNat (tE (txR R) n p - p) ≤ 6) = (tE (txR R) n p - p ≤ 6) := by rw [show (6 : Int32) = Int32.ofNat 6 from rfl]; exact propext (le_n (by omega) (by decide))
    simp only [fbX12_next_210, RG_26, RG_25, RisC, f2, g25, hlk, r_isDigit, Option.bind_some, b2i_0, if_pos hc, sub_n, RP_24, e6]
    have g26 : fi R' 26 = Int32.ofNat (tE (txR R) n p) := by rw [f2, show p + (tE (txR R) n p - p) = tE (txR R) n p by omega]
    by_cases c : tE (txR R) n p - p ≤ 6
    · rw [if_pos c]; exact ⟨_, rfl, f1.sfi (by decide) _, g26, by rw [if_pos c]; rfl, f3⟩
    · rw [if_neg c]; exact ⟨_, rfl, f1.sfi (by decide) _, g26, by rw [if_neg c]; rfl, f3⟩
def TL : List Nat := [24, 25, 26, 27, 28, 29]
theorem r_n58 {pr : Bool} (h18 : fi R 18 = Int32.ofNat n) (hn : n ≤ 500) (h23 : fi R 23 = b2i (pr = true)) {p : Nat} (hp : p ≤ n) (h25 : fi R 25 = Int32.ofNat p) : ∃ R', fX12_next_58 (eR m ρ R) m = some (eR m ρ R') ∧ Fr TL R R' ∧ Cur R' pr (txR R) n p := by
  unfold fX12_next_58
  have hlk := r_look (m := m) (ρ := ρ) (R := sfi R 26 (Int32.ofNat p)) h18 hn (show p < 2147483648 by omega)
  simp only [RG_25, RP_26, RG_18, q_fi_sfi, q_fl_sfi, q_fr_sfi, q_ai_sfi, q_al_sfi, q_ar_sfi, q_ln_sfi, q_fi_sfl, q_fl_sfl, q_fr_sfl, q_ai_sfl, q_al_sfl, q_ar_sfl, q_ln_sfl, q_fi_sfr, q_fl_sfr, q_fr_sfr, q_ai_sfr, q_al_sfr, q_ar_sfr, q_ln_sfr, q_fi_sai, q_fl_sai, q_fr_sai, q_ai_sai, q_al_sai, q_ar_sai, q_ln_sai, q_fi_sal, q_fl_sal, q_fr_sal, q_ai_sal, q_al_sal, q_ar_sal, q_ln_sal, q_fi_sar, q_fl_sar, q_fr_sar, q_ai_sar, q_al_sar, q_ar_sar, q_ln_sar, reduceIte, Nat.reduceEqDiff, h25, h18, Option.bind_some, lt_n (show p < 2147483648 by omega) (show n < 2147483648 by omega), RisC, hlk]
  by_cases c0 : p < n
  rotate_left
  · rw [if_neg c0, RP_24, Option.bind_some]
    have ek : tK pr (txR R) n p = 0 := by unfold tK; rw [if_pos (by omega)]
    refine ⟨_, rfl, ((Fr.refl TL R).sfi (by decide) _).sfi (by decide) _, ?_⟩
    refine ⟨by rw [ek]; rfl, h25, ?_, fun q => ?_, fun q => ?_, fun q => ?_⟩
    · rw [tE_e (by omega)]; show Int32.ofNat p = _; rw [show p = n by omega]
    · rw [ek] at q; exact absurd q (by decide)
    · rw [ek] at q; exact absurd q (by decide)
    · rw [ek] at q; exact absurd q (by decide)
  rw [if_pos c0]
  simp only [if_pos c0, r_isLetter, r_isDigit, Option.bind_some, b2i_0]
  have hx : (ai R 16 p &&& 255).toInt = txR R p := rfl
  have hxb := txR_b R p
  rw [hx]
  by_cases c1 : isLt (txR R p)
  · rw [if_neg (show ¬ ¬ isLt (txR R p) from fun q => q c1)]
    simp only [RP_24, RP_29, Option.bind_some]
    have ek : tK pr (txR R) n p = 1 := by unfold tK; rw [if_neg (by omega), if_pos c1]
    obtain ⟨R', e1, e2, e3, e4, e5⟩ := r_n109 (m := m) (ρ := ρ) (R := sfl (sfi (sfi R 26 (Int32.ofNat p)) 24 1) 29 0) (n := n) h18 hn c0 c1 h25 rfl rfl
    rw [e1]
    refine ⟨R', rfl, (((((Fr.refl TL R).sfi (k := 26) (by decide) _).sfi (k := 24) (by decide) _).sfl (k := 29) (by decide) _).trans (e2.mono (by decide))), ?_⟩
    refine ⟨?_, (e2.i 25 (by decide)).trans h25, e3, fun _ => ⟨e4, e5⟩, fun q => ?_, fun q => ?_⟩
    · rw [e2.i 24 (by decide), ek]; rfl
    · rw [ek] at q; exact absurd q (by decide)
    · rw [ek] at q; exact absurd q (by decide)
  rw [if_pos c1]
  by_cases c2 : isDg (txR R p)
  · rw [if_neg (show ¬ ¬ isDg (txR R p) from fun q => q c2)]
    simp only [RP_27, Option.bind_some]
    obtain ⟨R', e1, e2, e3, e4, e5⟩ := r_n210 (m := m) (ρ := ρ) (R := sfi (sfi R 26 (Int32.ofNat p)) 27 0) (n := n) h18 hn c0 c1 c2 h25 rfl rfl
    rw [e1]
    have ek : tK pr (txR R) n p = if tE (txR R) n p - p ≤ 6 then 2 else 4 := by unfold tK; rw [if_neg (by omega), if_neg c1, if_pos c2]
    refine ⟨R', rfl, ((((Fr.refl TL R).sfi (k := 26) (by decide) _).sfi (k := 27) (by decide) _).trans (e2.mono (by decide))), ?_⟩
    refine ⟨?_, (e2.i 25 (by decide)).trans h25, e3, fun q => ?_, fun q => ?_, fun q => ?_⟩
    · rw [e4, ek]; show (if tE (txR R) n p - p ≤ 6 then (2 : Int32) else 4) = _; split <;> rfl
    · rw [ek] at q; split at q <;> exact absurd q (by decide)
    · refine e5 ?_
      rw [ek] at q
      by_cases w : tE (txR R) n p - p ≤ 6
      · exact w
      · rw [if_neg w] at q; exact absurd q (by decide)
    · rw [ek] at q; split at q <;> exact absurd q (by decide)
  rw [if_pos c2]
  have ee : tE (txR R) n p = p + 1 := by unfold tE; rw [if_neg (by omega), if_neg c1, if_neg c2]
  have fin : ∀ v : Nat, tK pr (txR R) n p = v → (v = 3 ∨ v = 4) → ∃ R', some (eR m ρ (sfi (sfi (sfi (sfi R 26 (Int32.ofNat p)) 26 (Int32.ofNat (p + 1))) 27 (ai R 16 p &&& 255)) 24 (Int32.ofNat v))) = some (eR m ρ R') ∧ Fr TL R R' ∧ Cur R' pr (txR R) n p := by
    intro v hv hv2
    refine ⟨_, rfl, ((((Fr.refl TL R).sfi (by decide) _).sfi (by decide) _).sfi (by decide) _).sfi (by decide) _, ?_⟩
    refine ⟨by rw [hv]; rfl, h25, by rw [ee]; rfl, fun q => ?_, fun q => ?_, fun q => rfl⟩
    · rw [hv] at q; omega
    · rw [hv] at q; omega
  have ek : tK pr (txR R) n p = if isSg pr (txR R p) then 3 else 4 := by unfold tK; rw [if_neg (by omega), if_neg c1, if_neg c2]
  have y3 : isSg pr (txR R p) → ∃ R', some (eR m ρ (sfi (sfi (sfi (sfi R 26 (Int32.ofNat p)) 26 (Int32.ofNat (p + 1))) 27 (ai R 16 p &&& 255)) 24 3)) = some (eR m ρ R') ∧ Fr TL R R' ∧ Cur R' pr (txR R) n p := fun q => fin 3 (by rw [ek, if_pos q]) (Or.inl rfl)
  have y4 : ¬ isSg pr (txR R p) → ∃ R', some (eR m ρ (sfi (sfi (sfi (sfi R 26 (Int32.ofNat p)) 26 (Int32.ofNat (p + 1))) 27 (ai R 16 p &&& 255)) 24 4)) = some (eR m ρ R') ∧ Fr TL R R' ∧ Cur R' pr (txR R) n p := fun q => fin 4 (by rw [ek, if_neg q]) (Or.inr rfl)
  have eqv : ∀ (w : Int32) (u : Int), w.toInt = u → ((ai R 16 p &&& 255 = w) = (txR R p = u)) := fun w u hw => by rw [eq32, hx, hw]
  simp only [RG_25, RP_26, RP_27, RP_24, RG_23, q_fi_sfi, q_fl_sfi, q_fr_sfi, q_ai_sfi, q_al_sfi, q_ar_sfi, q_ln_sfi, q_fi_sfl, q_fl_sfl, q_fr_sfl, q_ai_sfl, q_al_sfl, q_ar_sfl, q_ln_sfl, q_fi_sfr, q_fl_sfr, q_fr_sfr, q_ai_sfr, q_al_sfr, q_ar_sfr, q_ln_sfr, q_fi_sai, q_fl_sai, q_fr_sai, q_ai_sai, q_al_sai, q_ar_sai, q_ln_sai, q_fi_sal, q_fl_sal, q_fr_sal, q_ai_sal, q_al_sal, q_ar_sal, q_ln_sal, q_fi_sar, q_fl_sar, q_fr_sar, q_ai_sar, q_al_sar, q_ar_sar, q_ln_sar, reduceIte, Nat.reduceEqDiff, h25, h23, suc32, r_isI, Option.bind_some, b2i_0, hx, Int64.reduceToInt, eqv 47 47 rfl, eqv 37 37 rfl, eqv 123 123 rfl, eqv 125 125 rfl]
  by_cases d1 : 58 ≤ txR R p ∧ txR R p ≤ 62
  · rw [if_neg (fun q => q d1)]; exact y3 (Or.inl d1)
  rw [if_pos d1]
  by_cases d2 : 40 ≤ txR R p ∧ txR R p ≤ 45
  · rw [if_neg (fun q => q d2)]; exact y3 (Or.inr (Or.inl d2))
  rw [if_pos d2]
  by_cases d3 : txR R p = 47
  · rw [if_pos d3]; exact y3 (Or.inr (Or.inr (Or.inl d3)))
  rw [if_neg d3]
  by_cases d4 : txR R p = 37
  · rw [if_pos d4]; exact y3 (Or.inr (Or.inr (Or.inr (Or.inl d4))))
  rw [if_neg d4]
  by_cases d5 : pr = true
  rotate_left
  · rw [if_pos d5]
    refine y4 ?_
    rintro (q | q | q | q | q)
    · exact d1 q
    · exact d2 q
    · exact d3 q
    · exact d4 q
    · exact d5 q.1
  rw [if_neg (fun q => q d5)]
  by_cases d6 : txR R p = 123
  · rw [if_pos d6]; exact y3 (Or.inr (Or.inr (Or.inr (Or.inr ⟨d5, Or.inl d6⟩))))
  rw [if_neg d6]
  by_cases d7 : txR R p = 125
  · rw [if_pos d7]; exact y3 (Or.inr (Or.inr (Or.inr (Or.inr ⟨d5, Or.inr d7⟩))))
  rw [if_neg d7]
  refine y4 ?_
  rintro (q | q | q | q | q)
  · exact d1 q
  · exact d2 q
  · exact d3 q
  · exact d4 q
  · rcases q.2 with w | w
    · exact d6 w
    · exact d7 w
theorem r_next {pr : Bool} (h18 : fi R 18 = Int32.ofNat n) (hn : n ≤ 500) (h23 : fi R 23 = b2i (pr = true)) {q : Nat} (hq : q ≤ n) (h26 : fi R 26 = Int32.ofNat q) : ∃ R', fX12_next_0 (eR m ρ R) m = some (eR m ρ R') ∧ Fr TL R R' ∧ Cur R' pr (txR R) n (nx (qB (txR R)) n q) := by
  obtain ⟨b1, b2, b3, b4⟩ := nx_in (qB (txR R)) hq
  unfold fX12_next_0
  simp only [RG_26, RP_25, h26, Option.bind_some]
  unfold fX12_next_8
  have h58 : ∀ (R' : Gs), Fr TL R R' → fi R' 25 = Int32.ofNat (nx (qB (txR R)) n q) → ∃ R2, fX12_next_58 (eR m ρ R') m = some (eR m ρ R2) ∧ Fr TL R R2 ∧ Cur R2 pr (txR R) n (nx (qB (txR R)) n q) := by
    intro R' f1 f2
    obtain ⟨R2, e1, e2, e3⟩ := r_n58 (m := m) (ρ := ρ) (R := R') (pr := pr) ((f1.i 18 (by decide)).trans h18) hn ((f1.i 23 (by decide)).trans h23) b2 f2
    rw [txR_fr f1 (by decide)] at e3
    exact ⟨R2, e1, f1.trans e2, e3⟩
  refine lp_q (nx (qB (txR R)) n q - q) (fun k z => ∃ R', z = (eR m ρ R', m) ∧ Fr TL R R' ∧ fi R' 25 = Int32.ofNat (q + k)) (fun X => ∃ R', X = some (eR m ρ R') ∧ Fr TL R R' ∧ Cur R' pr (txR R) n (nx (qB (txR R)) n q)) ?_ ?_ fu 0 _ (by omega) ⟨_, rfl, (Fr.refl TL R).sfi (by decide) _, rfl⟩ (by unfold fu; omega)
  · rintro K k _ hk ⟨R', rfl, f1, f2⟩
    left
    have g18 : fi R' 18 = Int32.ofNat n := (f1.i 18 (by decide)).trans h18
    have a16 : ai R' 16 = ai R 16 := f1.ai 16 (by decide)
    have hlk := r_look (m := m) (ρ := ρ) g18 hn (show q + k < 2147483648 by omega)
    rw [a16, if_pos (show q + k < n by omega)] at hlk
    have hbl : isB (txR R (q + k)) := of_decide_eq_true (b3 (q + k) (by omega) (by omega))
    have e10 : (ai R 16 (q + k) &&& 255 = 10) = (txR R (q + k) = 10) := by rw [eq32]; rfl
    have e32 : (ai R 16 (q + k) &&& 255 = 32) = (txR R (q + k) = 32) := by rw [eq32]; rfl
    simp only [fbX12_next_8, RG_25, RG_18, RP_25, f2, g18, Option.bind_some, le_n (show n < 2147483648 by omega) (show q + k < 2147483648 by omega), if_neg (show ¬ n ≤ q + k by omega), RisC, hlk, suc32, e10, e32]
    refine ⟨_, ⟨sfi R' 25 (Int32.ofNat (q + k + 1)), rfl, f1.sfi (by decide) _, rfl⟩, ?_⟩
    by_cases c : txR R (q + k) = 10
    · rw [if_pos c]
    · rw [if_neg c, if_pos (hbl.resolve_left c)]
  · rintro K _ ⟨R', rfl, f1, f2⟩
    have g18 : fi R' 18 = Int32.ofNat n := (f1.i 18 (by decide)).trans h18
    have a16 : ai R' 16 = ai R 16 := f1.ai 16 (by decide)
    have f2' : fi R' 25 = Int32.ofNat (nx (qB (txR R)) n q) := by rw [f2, show q + (nx (qB (txR R)) n q - q) = nx (qB (txR R)) n q by omega]
    have hlk := r_look (m := m) (ρ := ρ) g18 hn (show nx (qB (txR R)) n q < 2147483648 by omega)
    simp only [fbX12_next_8, RG_25, RG_18, RP_25, f2', g18, Option.bind_some, le_n (show n < 2147483648 by omega) (show nx (qB (txR R)) n q < 2147483648 by omega), RisC, hlk]
    by_cases c : n ≤ nx (qB (txR R)) n q
    · rw [if_pos c]; exact h58 R' f1 f2'
    · rw [if_neg c]
      have hnb : ¬ isB (txR R (nx (qB (txR R)) n q)) := of_decide_eq_false (b4 (by omega))
      have e10 : (ai R 16 (nx (qB (txR R)) n q) &&& 255 = 10) = (txR R (nx (qB (txR R)) n q) = 10) := by rw [eq32]; rfl
      have e32 : (ai R 16 (nx (qB (txR R)) n q) &&& 255 = 32) = (txR R (nx (qB (txR R)) n q) = 32) := by rw [eq32]; rfl
      simp only [if_pos (show nx (qB (txR R)) n q < n by omega), a16, e10, e32]
      rw [if_neg (fun w => hnb (Or.inl w)), if_neg (fun w => hnb (Or.inr w))]
      exact h58 R' f1 f2'
end
