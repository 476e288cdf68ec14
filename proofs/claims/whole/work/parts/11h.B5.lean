def th (w k s : Int32) : Int64 := if w = 3 then (if k = 0 then 1000 * s.toInt64 else (86400000 * s.toInt64) / ((86400 + k).toInt64)) else if s < 86400 then 1000 * s.toInt64 else if w = 0 then 1000 * s.toInt64 else if w = 1 then 86399000 else 86399999
theorem r_thousandths (σ : Hs) (w k s : Int32) (hk : -1 ≤ k.toInt ∧ k.toInt ≤ 1) : fX12_thousandths_0 σ w k s = some (th w k s) := by
  have hne : ¬ (86400 + k).toInt64 = 0 := by
    intro e
    rw [eq64, up64, add32] at e
    · have : (86400 : Int32).toInt = 86400 := rfl
      have : (0 : Int64).toInt = 0 := rfl
      omega
    · have : (86400 : Int32).toInt = 86400 := rfl
      omega
  unfold fX12_thousandths_0 th
  rw [if_neg hne]
  by_cases h1 : w = 3
  · rw [if_pos h1, if_pos h1]; by_cases h2 : k = 0
    · rw [if_pos h2, if_pos h2]
    · rw [if_neg h2, if_neg h2]
  · rw [if_neg h1, if_neg h1]; by_cases h2 : s < 86400
    · rw [if_pos h2, if_pos h2]
    · rw [if_neg h2, if_neg h2]; by_cases h3 : w = 0
      · rw [if_pos h3, if_pos h3]
      · rw [if_neg h3, if_neg h3]; by_cases h4 : w = 1
        · rw [if_pos h4, if_pos h4]
        · rw [if_neg h4, if_neg h4]
def ahd (F B : Nat → Int32) (c : Int32) : Nat → Int32
  | 0 => 0
  | n + 1 => if F n ≤ c then B n else ahd F B c n
theorem ahd_congr {F B F' B' : Nat → Int32} {c : Int32} : ∀ n, (∀ i, i < n → F i = F' i ∧ B i = B' i) → ahd F B c n = ahd F' B' c n := by
  intro n
  induction n with
  | zero => intro _; rfl
  | succ n ih => intro h; unfold ahd; rw [(h n (by omega)).1, (h n (by omega)).2, ih (fun i hi => h i (by omega))]
theorem ahd_P {F B : Nat → Int32} {c : Int32} (P : Int32 → Prop) (h0 : P 0) : ∀ n, (∀ i, i < n → P (B i)) → P (ahd F B c n) := by
  intro n
  induction n with
  | zero => intro _; exact h0
  | succ n ih => intro h; unfold ahd; split; exact h n (by omega); exact ih (fun i hi => h i (by omega))
theorem r_aheadAt {m : Nat} {ρ : Hs} {R : Gs} {n : Nat} {c : Int32} (hn : fi R 96 = Int32.ofNat n) (h60 : n ≤ 60) : fX12_aheadAt_0 (eR m ρ R) m c = some (ahd (ai R 94) (ai R 95) c n) := by
  unfold fX12_aheadAt_0 fX12_aheadAt_4
  refine lp_q n (fun k z => z = (m, c, ahd (ai R 94) (ai R 95) c k, Int32.ofNat k)) (fun X => X = some (ahd (ai R 94) (ai R 95) c n)) ?_ ?_ fu 0 _ (by omega) rfl (by unfold fu; omega)
  · rintro K k _ hk rfl
    left
    simp only [fbX12_aheadAt_4, RisC, RG_0, RP_0, RG_1, RP_1, RN_2, Rld_2, Rst_2, RN_3, Rld_3, Rst_3, RN_4, Rld_4, Rst_4, RG_5, RP_5, RG_6, RP_6, RN_7, Rld_7, Rst_7, RN_8, Rld_8, Rst_8, RN_9, Rld_9, Rst_9, RN_10, Rld_10, Rst_10, RG_11, RP_11, RG_12, RP_12, RN_13, Rld_13, Rst_13, RN_14, Rld_14, Rst_14, RN_15, Rld_15, Rst_15, RN_16, Rld_16, Rst_16, RG_17, RP_17, RG_18, RP_18, RG_19, RP_19, RG_20, RP_20, RG_21, RP_21, RG_22, RP_22, RG_23, RP_23, RG_24, RP_24, RG_25, RP_25, RG_26, RP_26, RG_27, RP_27, RG_28, RP_28, RG_29, RP_29, RG_30, RP_30, RG_31, RP_31, RG_32, RP_32, RN_33, Rld_33, Rst_33, RN_34, Rld_34, Rst_34, RN_35, Rld_35, Rst_35, RN_36, Rld_36, Rst_36, RN_37, Rld_37, Rst_37, RN_38, Rld_38, Rst_38, RN_39, Rld_39, Rst_39, RN_40, Rld_40, Rst_40, RN_41, Rld_41, Rst_41, RN_42, Rld_42, Rst_42, RN_43, Rld_43, Rst_43, RN_44, Rld_44, Rst_44, RN_45, Rld_45, Rst_45, RG_46, RP_46, RG_47, RP_47, RG_48, RP_48, RG_49, RP_49, RN_50, Rld_50, Rst_50, RN_51, Rld_51, Rst_51, RN_52, Rld_52, Rst_52, RN_53, Rld_53, Rst_53, RN_54, Rld_54, Rst_54, RN_55, Rld_55, Rst_55, RG_56, RP_56, RG_57, RP_57, RN_58, Rld_58, Rst_58, RN_59, Rld_59, Rst_59, RN_60, Rld_60, Rst_60, RG_61, RP_61, RG_62, RP_62, RG_63, RP_63, RG_64, RP_64, RG_65, RP_65, RG_66, RP_66, RG_67, RP_67, RG_68, RP_68, RG_69, RP_69, RG_70, RP_70, RG_71, RP_71, RN_72, Rld_72, Rst_72, RN_73, Rld_73, Rst_73, RN_74, Rld_74, Rst_74, RN_75, Rld_75, Rst_75, RN_76, Rld_76, Rst_76, RN_77, Rld_77, Rst_77, RN_78, Rld_78, Rst_78, RN_79, Rld_79, Rst_79, RN_80, Rld_80, Rst_80, RN_81, Rld_81, Rst_81, RN_82, Rld_82, Rst_82, RN_83, Rld_83, Rst_83, RN_84, Rld_84, Rst_84, RN_85, Rld_85, Rst_85, RN_86, Rld_86, Rst_86, RG_87, RP_87, RG_88, RP_88, RG_89, RP_89, RG_90, RP_90, RG_91, RP_91, RG_92, RP_92, RG_93, RP_93, RN_94, Rld_94, Rst_94, RN_95, Rld_95, Rst_95, RG_96, RP_96, RN_97, Rld_97, Rst_97, RN_98, Rld_98, Rst_98, RN_99, Rld_99, Rst_99, RN_100, Rld_100, Rst_100, RG_101, RP_101, RN_102, Rld_102, Rst_102, RN_103, Rld_103, Rst_103, RN_104, Rld_104, Rst_104, RG_105, RP_105, Option.bind_some, hn, le_n (show n < 2147483648 by omega) (show k < 2147483648 by omega), if_neg (show ¬ n ≤ k by omega), ix_n (show k < 2147483648 by omega), decide_eq_true (show k < 60 by omega), if_true, c32 (show k < 2147483648 by omega), suc32]
    refine ⟨_, rfl, ?_⟩
    show _ = K (m, c, (if ai R 94 k ≤ c then ai R 95 k else ahd (ai R 94) (ai R 95) c k), Int32.ofNat (k + 1))
    by_cases h1 : c < ai R 94 k
    · rw [if_pos h1, if_neg (by rw [lt32] at h1; rw [le32]; omega)]
    · rw [if_neg h1, if_pos (by rw [lt32] at h1; rw [le32]; omega)]
  · rintro K _ rfl
    simp only [fbX12_aheadAt_4, RisC, RG_0, RP_0, RG_1, RP_1, RN_2, Rld_2, Rst_2, RN_3, Rld_3, Rst_3, RN_4, Rld_4, Rst_4, RG_5, RP_5, RG_6, RP_6, RN_7, Rld_7, Rst_7, RN_8, Rld_8, Rst_8, RN_9, Rld_9, Rst_9, RN_10, Rld_10, Rst_10, RG_11, RP_11, RG_12, RP_12, RN_13, Rld_13, Rst_13, RN_14, Rld_14, Rst_14, RN_15, Rld_15, Rst_15, RN_16, Rld_16, Rst_16, RG_17, RP_17, RG_18, RP_18, RG_19, RP_19, RG_20, RP_20, RG_21, RP_21, RG_22, RP_22, RG_23, RP_23, RG_24, RP_24, RG_25, RP_25, RG_26, RP_26, RG_27, RP_27, RG_28, RP_28, RG_29, RP_29, RG_30, RP_30, RG_31, RP_31, RG_32, RP_32, RN_33, Rld_33, Rst_33, RN_34, Rld_34, Rst_34, RN_35, Rld_35, Rst_35, RN_36, Rld_36, Rst_36, RN_37, Rld_37, Rst_37, RN_38, Rld_38, Rst_38, RN_39, Rld_39, Rst_39, RN_40, Rld_40, Rst_40, RN_41, Rld_41, Rst_41, RN_42, Rld_42, Rst_42, RN_43, Rld_43, Rst_43, RN_44, Rld_44, Rst_44, RN_45, Rld_45, Rst_45, RG_46, RP_46, RG_47, RP_47, RG_48, RP_48, RG_49, RP_49, RN_50, Rld_50, Rst_50, RN_51, Rld_51, Rst_51, RN_52, Rld_52, Rst_52, RN_53, Rld_53, Rst_53, RN_54, Rld_54, Rst_54, RN_55, Rld_55, Rst_55, RG_56, RP_56, RG_57, RP_57, RN_58, Rld_58, Rst_58, RN_59, Rld_59, Rst_59, RN_60, Rld_60, Rst_60, RG_61, RP_61, RG_62, RP_62, RG_63, RP_63, RG_64, RP_64, RG_65, RP_65, RG_66, RP_66, RG_67, RP_67, RG_68, RP_68, RG_69, RP_69, RG_70, RP_70, RG_71, RP_71, RN_72, Rld_72, Rst_72, RN_73, Rld_73, Rst_73, RN_74, Rld_74, Rst_74, RN_75, Rld_75, Rst_75, RN_76, Rld_76, Rst_76, RN_77, Rld_77, Rst_77, RN_78, Rld_78, Rst_78, RN_79, Rld_79, Rst_79, RN_80, Rld_80, Rst_80, RN_81, Rld_81, Rst_81, RN_82, Rld_82, Rst_82, RN_83, Rld_83, Rst_83, RN_84, Rld_84, Rst_84, RN_85, Rld_85, Rst_85, RN_86, Rld_86, Rst_86, RG_87, RP_87, RG_88, RP_88, RG_89, RP_89, RG_90, RP_90, RG_91, RP_91, RG_92, RP_92, RG_93, RP_93, RN_94, Rld_94, Rst_94, RN_95, Rld_95, Rst_95, RG_96, RP_96, RN_97, Rld_97, Rst_97, RN_98, Rld_98, Rst_98, RN_99, Rld_99, Rst_99, RN_100, Rld_100, Rst_100, RG_101, RP_101, RN_102, Rld_102, Rst_102, RN_103, Rld_103, Rst_103, RN_104, Rld_104, Rst_104, RG_105, RP_105, Option.bind_some, hn, Int32.le_refl, if_true]
def shw (w : Int32) (T : List (Int × Int)) (c : Int) : Int64 := 100000000 * (Int32.ofInt (civ T c)).toInt64 + th w (Int32.ofInt (kd T (civ T c))) (Int32.ofInt (c - bg T (civ T c)))
theorem shw_perm {A B : List (Int × Int)} (h : A.Perm B) (w : Int32) (c : Int) : shw w A c = shw w B c := by
  unfold shw civ; simp only [bg_perm h, kd_perm h]
def mx0 (c : Int) : Int := if c < 0 then 0 else c
theorem ofI {a : Int32} {x : Int} (h : a.toInt = x) : Int32.ofInt x = a := by rw [← h, Int32.ofInt_toInt]
theorem r_showsOf {m : Nat} {ρ : Hs} {R : Gs} {n na : Nat} {w c : Int32} (hn : fi R 6 = Int32.ofNat n) (hT : Tok n (ai R 9) (ai R 10)) (hna : fi R 96 = Int32.ofNat na) (h60 : na ≤ 60) (hc : -1000 ≤ c.toInt ∧ c.toInt ≤ 900010000) (hB : ∀ i, i < na → -1000 ≤ (ai R 95 i).toInt ∧ (ai R 95 i).toInt ≤ 1000) :
    ∃ R', fX12_showsOf_0 (eR m ρ R) m w c = some (shw w (lst n (ai R 9) (ai R 10)) (mx0 (c.toInt + (ahd (ai R 94) (ai R 95) c na).toInt)), eR m ρ R') ∧ Fr [92, 93] R R' := by
  have ha := ahd_P (F := ai R 94) (B := ai R 95) (c := c) (fun a => -1000 ≤ a.toInt ∧ a.toInt ≤ 1000) (by decide) na hB
  generalize hA : ahd (ai R 94) (ai R 95) c na = A at *
  have e1 : (c.toInt64 + A.toInt64).toInt = c.toInt + A.toInt := by rw [add64, up64, up64]; rw [up64, up64]; omega
  have e2 : ∃ q : Int64, fJ9_max_f86c9_0 (eR m ρ R) 0 (c.toInt64 + A.toInt64) = some q ∧ q.toInt = mx0 (c.toInt + A.toInt) := by
    unfold fJ9_max_f86c9_0 mx0
    by_cases h : (0 : Int64) < c.toInt64 + A.toInt64
    · rw [if_pos h]; rw [lt64, e1] at h
      have : (0 : Int64).toInt = 0 := rfl
      exact ⟨_, rfl, by rw [if_neg (by omega), e1]⟩
    · rw [if_neg h]; rw [lt64, e1] at h
      have h0 : (0 : Int64).toInt = 0 := rfl
      refine ⟨_, rfl, ?_⟩
      by_cases h2 : c.toInt + A.toInt < 0
      · rw [if_pos h2, h0]
      · rw [if_neg h2, h0]; omega
  obtain ⟨q, e3, e4⟩ := e2
  have hq : 0 ≤ q.toInt ∧ q.toInt ≤ 1000000000 := by rw [e4]; unfold mx0; split <;> omega
  obtain ⟨R', f1, f2, f3, f4⟩ := r_findCivil (m := m) (ρ := ρ) hn hT hq.1 hq.2
  have hk := r_handKindOf (m := m) (ρ := ρ) (R := R') (d := fi R' 92) ((f2.i 6 (by decide)).trans hn) hT.1 (by rw [f2.ai 9 (by decide)]; exact hT.2.2)
  obtain ⟨k, k1, k2⟩ := hk
  rw [f2.ai 9 (by decide), f2.ai 10 (by decide)] at k2
  have hkb := kd_1 hT (fi R' 92).toInt
  unfold fX12_showsOf_0
  simp only [RisC, Option.bind_some, r_aheadAt hna h60, hA, e3, f1, RisC, RG_0, RP_0, RG_1, RP_1, RN_2, Rld_2, Rst_2, RN_3, Rld_3, Rst_3, RN_4, Rld_4, Rst_4, RG_5, RP_5, RG_6, RP_6, RN_7, Rld_7, Rst_7, RN_8, Rld_8, Rst_8, RN_9, Rld_9, Rst_9, RN_10, Rld_10, Rst_10, RG_11, RP_11, RG_12, RP_12, RN_13, Rld_13, Rst_13, RN_14, Rld_14, Rst_14, RN_15, Rld_15, Rst_15, RN_16, Rld_16, Rst_16, RG_17, RP_17, RG_18, RP_18, RG_19, RP_19, RG_20, RP_20, RG_21, RP_21, RG_22, RP_22, RG_23, RP_23, RG_24, RP_24, RG_25, RP_25, RG_26, RP_26, RG_27, RP_27, RG_28, RP_28, RG_29, RP_29, RG_30, RP_30, RG_31, RP_31, RG_32, RP_32, RN_33, Rld_33, Rst_33, RN_34, Rld_34, Rst_34, RN_35, Rld_35, Rst_35, RN_36, Rld_36, Rst_36, RN_37, Rld_37, Rst_37, RN_38, Rld_38, Rst_38, RN_39, Rld_39, Rst_39, RN_40, Rld_40, Rst_40, RN_41, Rld_41, Rst_41, RN_42, Rld_42, Rst_42, RN_43, Rld_43, Rst_43, RN_44, Rld_44, Rst_44, RN_45, Rld_45, Rst_45, RG_46, RP_46, RG_47, RP_47, RG_48, RP_48, RG_49, RP_49, RN_50, Rld_50, Rst_50, RN_51, Rld_51, Rst_51, RN_52, Rld_52, Rst_52, RN_53, Rld_53, Rst_53, RN_54, Rld_54, Rst_54, RN_55, Rld_55, Rst_55, RG_56, RP_56, RG_57, RP_57, RN_58, Rld_58, Rst_58, RN_59, Rld_59, Rst_59, RN_60, Rld_60, Rst_60, RG_61, RP_61, RG_62, RP_62, RG_63, RP_63, RG_64, RP_64, RG_65, RP_65, RG_66, RP_66, RG_67, RP_67, RG_68, RP_68, RG_69, RP_69, RG_70, RP_70, RG_71, RP_71, RN_72, Rld_72, Rst_72, RN_73, Rld_73, Rst_73, RN_74, Rld_74, Rst_74, RN_75, Rld_75, Rst_75, RN_76, Rld_76, Rst_76, RN_77, Rld_77, Rst_77, RN_78, Rld_78, Rst_78, RN_79, Rld_79, Rst_79, RN_80, Rld_80, Rst_80, RN_81, Rld_81, Rst_81, RN_82, Rld_82, Rst_82, RN_83, Rld_83, Rst_83, RN_84, Rld_84, Rst_84, RN_85, Rld_85, Rst_85, RN_86, Rld_86, Rst_86, RG_87, RP_87, RG_88, RP_88, RG_89, RP_89, RG_90, RP_90, RG_91, RP_91, RG_92, RP_92, RG_93, RP_93, RN_94, Rld_94, Rst_94, RN_95, Rld_95, Rst_95, RG_96, RP_96, RN_97, Rld_97, Rst_97, RN_98, Rld_98, Rst_98, RN_99, Rld_99, Rst_99, RN_100, Rld_100, Rst_100, RG_101, RP_101, RN_102, Rld_102, Rst_102, RN_103, Rld_103, Rst_103, RN_104, Rld_104, Rst_104, RG_105, RP_105, k1]
  rw [r_thousandths _ _ _ _ (by rw [k2]; exact hkb)]
  refine ⟨R', ?_, f2⟩
  rw [e4] at f3 f4
  unfold shw
  rw [f3] at k2
  rw [ofI f3, ofI f4, ofI k2]; rfl
theorem r_plain (σ : Hs) (v : Int64) : fX12_plain_0 σ v = some (((v / 100000000) * 86400000) + (v - v / 100000000 * 100000000)) := rfl
theorem ofNat_m1 {k : Nat} (h : 0 < k) : Int32.ofNat k - 1 = Int32.ofNat (k - 1) := by
  rw [show k = k - 1 + 1 by omega, ← suc32]; simp
theorem ofNat_p1 {k : Nat} (h : 0 < k) : Int32.ofNat k + -1 = Int32.ofNat (k - 1) := by
  rw [show k = k - 1 + 1 by omega, ← suc32, Int32.add_assoc]; simp
def pl (f : Nat → Int32) (x : Int32) : Nat → Nat
  | 0 => 0
  | n + 1 => if f n ≤ x then n + 1 else pl f x n
theorem pl_le (f : Nat → Int32) (x : Int32) : ∀ n, pl f x n ≤ n := by
  intro n
  induction n with
  | zero => exact Nat.le_refl _
  | succ n ih => unfold pl; split <;> omega
def insA (f : Nat → Int32) (x : Int32) (n : Nat) : Nat → Int32 := fun j => if j < pl f x n then f j else if j = pl f x n then x else if j ≤ n then f (j - 1) else f j
theorem pl_congr {f g : Nat → Int32} {x : Int32} : ∀ n, (∀ i, i < n → f i = g i) → pl f x n = pl g x n := by
  intro n
  induction n with
  | zero => intro _; rfl
  | succ n ih => intro h; unfold pl; rw [h n (by omega), ih (fun i hi => h i (by omega))]
theorem insA_congr {f g : Nat → Int32} {x : Int32} {n : Nat} (h : ∀ i, i < n → f i = g i) : ∀ i, i < n + 1 → insA f x n i = insA g x n i := by
  intro i hi
  have hp := pl_le g x n
  unfold insA; rw [pl_congr n h]
  by_cases h1 : i < pl g x n
  · rw [if_pos h1, if_pos h1]; exact h i (by omega)
  · rw [if_neg h1, if_neg h1]
    by_cases h2 : i = pl g x n
    · rw [if_pos h2, if_pos h2]
    · rw [if_neg h2, if_neg h2, if_pos (by omega), if_pos (by omega)]; exact h (i - 1) (by omega)
def stN (C : Nat → Int32) (c : Int32) : Nat → Nat
  | 0 => 0
  | k + 1 => if C k = c then stN C c k + 1 else stN C c k
def stA (C A : Nat → Int32) (c : Int32) : Nat → Nat → Int32
  | 0 => fun _ => 0
  | k + 1 => if C k = c then insA (stA C A c k) (A k) (stN C c k) else stA C A c k
theorem stN_le (C : Nat → Int32) (c : Int32) : ∀ k, stN C c k ≤ k := by
  intro k
  induction k with
  | zero => exact Nat.le_refl _
  | succ k ih => unfold stN; split <;> omega
theorem stN_congr {C C' : Nat → Int32} {c : Int32} : ∀ k, (∀ i, i < k → C i = C' i) → stN C c k = stN C' c k := by
  intro k
  induction k with
  | zero => intro _; rfl
  | succ k ih => intro h; unfold stN; rw [h k (by omega), ih (fun i hi => h i (by omega))]
theorem stA_congr {C C' A A' : Nat → Int32} {c : Int32} : ∀ k, (∀ i, i < k → C i = C' i ∧ A i = A' i) → stA C A c k = stA C' A' c k := by
  intro k
  induction k with
  | zero => intro _; rfl
  | succ k ih =>
    intro h
    unfold stA; rw [(h k (by omega)).1, (h k (by omega)).2, ih (fun i hi => h i (by omega)), stN_congr k (fun i hi => (h i (by omega)).1)]
theorem stA_P {C A : Nat → Int32} {c : Int32} (P : Int32 → Prop) : ∀ k, (∀ i, i < k → P (A i)) → ∀ i, i < stN C c k → P (stA C A c k i) := by
  intro k
  induction k with
  | zero => intro _ i hi; exact absurd hi (by unfold stN; omega)
  | succ k ih =>
    intro h i hi
    unfold stN at hi; unfold stA
    have ih' := ih (fun i hi => h i (by omega))
    by_cases hc : C k = c
    · rw [if_pos hc] at hi; rw [if_pos hc]
      have hp := pl_le (stA C A c k) (A k) (stN C c k)
      unfold insA
      by_cases h1 : i < pl (stA C A c k) (A k) (stN C c k)
      · rw [if_pos h1]; exact ih' i (by omega)
      · rw [if_neg h1]
        by_cases h2 : i = pl (stA C A c k) (A k) (stN C c k)
        · rw [if_pos h2]; exact h k (by omega)
        · rw [if_neg h2, if_pos (by omega)]; exact ih' (i - 1) (by omega)
    · rw [if_neg hc] at hi; rw [if_neg hc]; exact ih' i hi
def Asc (n : Nat) (f : Nat → Int32) : Prop := ∀ i j, i ≤ j → j < n → (f i).toInt ≤ (f j).toInt
theorem pl_lo (f : Nat → Int32) (x : Int32) : ∀ n, Asc n f → ∀ j, j < pl f x n → (f j).toInt ≤ x.toInt := by
  intro n
  induction n with
  | zero => intro _ j hj; exact absurd hj (by unfold pl; omega)
  | succ n ih =>
    intro h j hj
    unfold pl at hj
    split at hj
    · rename_i hx; rw [le32] at hx
      have := h j n (by omega) (by omega); omega
    · exact ih (fun i j h1 h2 => h i j h1 (by omega)) j hj
theorem pl_hi (f : Nat → Int32) (x : Int32) : ∀ n, ∀ j, pl f x n ≤ j → j < n → x.toInt < (f j).toInt := by
  intro n
  induction n with
  | zero => intro j _ hj; omega
  | succ n ih =>
    intro j h1 h2
    unfold pl at h1
    split at h1
    · omega
    · rename_i hx; rw [le32] at hx
      rcases Nat.lt_or_ge j n with q | q
      · exact ih j h1 q
      · have : j = n := by omega
        rw [this]; omega
theorem stA_asc (C A : Nat → Int32) (c : Int32) : ∀ k, Asc (stN C c k) (stA C A c k) := by
  intro k
  induction k with
  | zero => intro i j _ hj; exact absurd hj (by unfold stN; omega)
  | succ k ih =>
    unfold stN stA
    by_cases hc : C k = c
    · rw [if_pos hc, if_pos hc]
      have hp := pl_le (stA C A c k) (A k) (stN C c k)
      have hlo := pl_lo (stA C A c k) (A k) (stN C c k) ih
      have hhi := pl_hi (stA C A c k) (A k) (stN C c k)
      intro i j hij hj
      unfold insA
      by_cases h1 : i < pl (stA C A c k) (A k) (stN C c k)
      · rw [if_pos h1]
        by_cases h2 : j < pl (stA C A c k) (A k) (stN C c k)
        · rw [if_pos h2]; exact ih i j hij (by omega)
        · rw [if_neg h2]
          by_cases h3 : j = pl (stA C A c k) (A k) (stN C c k)
          · rw [if_pos h3]; exact hlo i h1
          · rw [if_neg h3, if_pos (by omega)]; exact ih i (j - 1) (by omega) (by omega)
      · rw [if_neg h1]
        by_cases h4 : i = pl (stA C A c k) (A k) (stN C c k)
        · rw [if_pos h4, if_neg (by omega)]
          by_cases h3 : j = pl (stA C A c k) (A k) (stN C c k)
          · rw [if_pos h3]; exact Int.le_refl _
          · rw [if_neg h3, if_pos (by omega)]
            have := hhi (j - 1) (by omega) (by omega); omega
        · rw [if_neg h4, if_pos (by omega), if_neg (by omega), if_neg (by omega), if_pos (by omega)]
          exact ih (i - 1) (j - 1) (by omega) (by omega)
    · rw [if_neg hc, if_neg hc]; exact ih
