def RB (R : Gs) (pr : Bool) (tx : Nat → Int) (n a : Nat) : Prop := (fi R 18 = Int32.ofNat n ∧ n ≤ 500 ∧ fi R 23 = b2i (pr = true) ∧ txR R = tx) ∧ Cur R pr tx n (tS tx n a) ∧ fi R 21 = 0
theorem kA1 {pr : Bool} {tx : Nat → Int} {n a : Nat} (hk : kA pr tx n a = 1) : tS tx n a < n ∧ ∀ j, j < lA tx n a → isLt (tx (tS tx n a + j)) := by
  have h2 : tS tx n a < n := by
    by_cases c : n ≤ tS tx n a
    · unfold kA tK at hk; rw [if_pos c] at hk; exact absurd hk (by decide)
    · omega
  have hL : isLt (tx (tS tx n a)) := by
    unfold kA tK at hk
    rw [if_neg (by omega)] at hk
    by_cases c : isLt (tx (tS tx n a))
    · exact c
    · rw [if_neg c] at hk; (repeat' split at hk) <;> exact absurd hk (by decide)
  obtain ⟨e1, e2⟩ := tE_L h2 hL
  exact ⟨h2, fun j hj => e2 j (by unfold lA at hj; omega)⟩
section
variable {m : Nat} {ρ : Hs} {R : Gs} {pr : Bool} {tx : Nat → Int} {n a : Nat}
theorem rb_sign (h : RB R pr tx n a) (v : Int32) : fX12_isSign_0 (eR m ρ R) m v = some (b2i (kA pr tx n a = 3 ∧ sA tx n a = v.toInt)) := by
  obtain ⟨-, ⟨c1, c2, c3, c4, c5, c6⟩, -⟩ := h
  unfold fX12_isSign_0
  simp only [RG_24, RG_27, c1, Option.bind_some, show (3 : Int32) = Int32.ofNat 3 from rfl, kq (tK_b pr tx n (tS tx n a)) (show 3 ≤ 4 by decide), bb_0, bb_1]
  by_cases q : kA pr tx n a = 3
  · rw [if_pos (show tK pr tx n (tS tx n a) = 3 from q)]
    have e : (fi R 27 = v) = (sA tx n a = v.toInt) := by rw [eq32, c6 q]; rfl
    simp only [e]
    unfold b2i
    by_cases w : sA tx n a = v.toInt
    · rw [if_pos w, if_pos ⟨q, w⟩]
    · rw [if_neg w, if_neg (fun z => w z.2)]
  · rw [if_neg (show ¬ tK pr tx n (tS tx n a) = 3 from q)]; unfold b2i; rw [if_neg (fun z => q z.1)]
theorem rb_word (h : RB R pr tx n a) {w : Nat} (hw : w < nW pr) {c : Int64} (hc : c.toInt = vW pr w) : fX12_isWord_0 (eR m ρ R) m c = some (b2i (kA pr tx n a = 1 ∧ vA tx n a = vW pr w)) := by
  obtain ⟨-, ⟨c1, c2, c3, c4, c5, c6⟩, -⟩ := h
  unfold fX12_isWord_0
  simp only [RG_24, RG_29, c1, Option.bind_some, show (1 : Int32) = Int32.ofNat 1 from rfl, kq (tK_b pr tx n (tS tx n a)) (show 1 ≤ 4 by decide), bb_0, bb_1]
  by_cases q : kA pr tx n a = 1
  · rw [if_pos (show tK pr tx n (tS tx n a) = 1 from q)]
    obtain ⟨d1, d2⟩ := c4 q
    obtain ⟨-, hL⟩ := kA1 q
    have hl : lA tx n a = tE tx n (tS tx n a) - tS tx n a := rfl
    have e : (fl R 29 = c) = (vA tx n a = vW pr w) := by
      rw [eq64, d2, hc]
      apply propext
      by_cases z : lA tx n a ≤ 12
      · rw [if_pos (by omega)]; exact Iff.rfl
      · rw [if_neg (by omega)]
        have hp := (wlen pr hw).2
        exact ⟨fun y => by omega, fun y => absurd (isW_len hw hL y) (by omega)⟩
    simp only [e]
    unfold b2i
    by_cases z : vA tx n a = vW pr w
    · rw [if_pos z, if_pos ⟨q, z⟩]; rfl
    · rw [if_neg z, if_neg (fun y => z y.2)]
  · rw [if_neg (show ¬ tK pr tx n (tS tx n a) = 1 from q)]; unfold b2i; rw [if_neg (fun z => q z.1)]
theorem rb_next (h : RB R pr tx n a) (hk : kA pr tx n a ≠ 0) : ∃ R', fX12_next_0 (eR m ρ R) m = some (eR m ρ R') ∧ Fr TL R R' ∧ RB R' pr tx n (a + 1) := by
  obtain ⟨⟨a1, a2, a3, a4⟩, ⟨c1, c2, c3, c4, c5, c6⟩, b1⟩ := h
  have hlt : tS tx n a < n := by
    by_cases c : n ≤ tS tx n a
    · exact absurd (show kA pr tx n a = 0 by unfold kA tK; rw [if_pos c]) hk
    · omega
  obtain ⟨R', e1, e2, e3⟩ := r_next (m := m) (ρ := ρ) (R := R) (pr := pr) a1 a2 a3 (tE_b (tx := tx) hlt).2 c3
  rw [a4] at e3
  exact ⟨R', e1, e2, ⟨(e2.i 18 (by decide)).trans a1, a2, (e2.i 23 (by decide)).trans a3, (txR_fr e2 (by decide)).trans a4⟩, e3, (e2.i 21 (by decide)).trans b1⟩
theorem rb_fail (h : RB R pr tx n a) (kd : Int32) (pl : Int32) : fX12_fail_0 (eR m ρ R) m kd pl = some (eR m ρ (sfi (sfi R 21 kd) 22 pl)) := by
  unfold fX12_fail_0
  simp only [RG_21, RP_21, RP_22, h.2.2, Option.bind_some, Int32.le_refl, if_true]
theorem rb_failD {kd : Nat} (h : fi R 21 = Int32.ofNat kd) (hk : 0 < kd ∧ kd < 7) (k2 : Int32) (pl : Int32) : fX12_fail_0 (eR m ρ R) m k2 pl = some (eR m ρ R) := by
  unfold fX12_fail_0
  simp only [RG_21, h, Option.bind_some]
  rw [if_neg (by rw [le32, n32 (by omega), i0]; omega)]
def rfR (R : Gs) (tx : Nat → Int) (n a kd : Nat) : Gs := sfi (sfi R 21 (Int32.ofNat kd)) 22 (Int32.ofNat (pA tx n a))
theorem rb_wrong (h : RB R pr tx n a) : fX12_wrongToken_0 (eR m ρ R) m = some (eR m ρ (rfR R tx n a (if kA pr tx n a = 4 then 1 else 2))) := by
  have c1 := h.2.1.1
  have c2 := h.2.1.2.1
  unfold fX12_wrongToken_0
  simp only [RG_24, RG_25, RisC, rb_fail h, c1, c2, Option.bind_some, show (4 : Int32) = Int32.ofNat 4 from rfl, kq (tK_b pr tx n (tS tx n a)) (show 4 ≤ 4 by decide)]
  by_cases q : kA pr tx n a = 4
  · rw [if_pos (show tK pr tx n (tS tx n a) = 4 from q), if_pos q]; rfl
  · rw [if_neg (show ¬ tK pr tx n (tS tx n a) = 4 from q), if_neg q]; rfl
theorem rb_wrongD {kd : Nat} (h : fi R 21 = Int32.ofNat kd) (hk : 0 < kd ∧ kd < 7) : fX12_wrongToken_0 (eR m ρ R) m = some (eR m ρ R) := by
  unfold fX12_wrongToken_0
  simp only [RG_24, RG_25, RisC, rb_failD h hk, Option.bind_some]
  split <;> rfl
theorem rb_mark {rm w v : Nat} (h32 : fi R 32 = Int32.ofNat rm) (hrm : rm < 1100) : fX12_mark_0 (eR m ρ R) m (Int32.ofNat w) (Int32.ofNat v) = some (eR m ρ (sfi (sai R 38 (up (ai R 38) rm (Int32.ofNat (1048576 * w + v)))) 32 (Int32.ofNat (rm + 1)))) := by
  unfold fX12_mark_0
  have e : 1048576 * Int32.ofNat w + Int32.ofNat v = Int32.ofNat (1048576 * w + v) := by rw [show (1048576 : Int32) = Int32.ofNat 1048576 from rfl, mul_n, add_n]
  simp only [RisC, RG_0, RP_0, RG_1, RP_1, RN_2, Rld_2, Rst_2, RN_3, Rld_3, Rst_3, RN_4, Rld_4, Rst_4, RG_5, RP_5, RG_6, RP_6, RN_7, Rld_7, Rst_7, RN_8, Rld_8, Rst_8, RN_9, Rld_9, Rst_9, RN_10, Rld_10, Rst_10, RG_11, RP_11, RG_12, RP_12, RN_13, Rld_13, Rst_13, RN_14, Rld_14, Rst_14, RN_15, Rld_15, Rst_15, RN_16, Rld_16, Rst_16, RG_17, RP_17, RG_18, RP_18, RG_19, RP_19, RG_20, RP_20, RG_21, RP_21, RG_22, RP_22, RG_23, RP_23, RG_24, RP_24, RG_25, RP_25, RG_26, RP_26, RG_27, RP_27, RG_28, RP_28, RG_29, RP_29, RG_30, RP_30, RG_31, RP_31, RG_32, RP_32, RN_33, Rld_33, Rst_33, RN_34, Rld_34, Rst_34, RN_35, Rld_35, Rst_35, RN_36, Rld_36, Rst_36, RN_37, Rld_37, Rst_37, RN_38, Rld_38, Rst_38, RN_39, Rld_39, Rst_39, RN_40, Rld_40, Rst_40, RN_41, Rld_41, Rst_41, RN_42, Rld_42, Rst_42, RN_43, Rld_43, Rst_43, RN_44, Rld_44, Rst_44, RN_45, Rld_45, Rst_45, RG_46, RP_46, RG_47, RP_47, RG_48, RP_48, RG_49, RP_49, RN_50, Rld_50, Rst_50, RN_51, Rld_51, Rst_51, RN_52, Rld_52, Rst_52, RN_53, Rld_53, Rst_53, RN_54, Rld_54, Rst_54, RN_55, Rld_55, Rst_55, RG_56, RP_56, RG_57, RP_57, RN_58, Rld_58, Rst_58, RN_59, Rld_59, Rst_59, RN_60, Rld_60, Rst_60, RG_61, RP_61, RG_62, RP_62, RG_63, RP_63, RG_64, RP_64, RG_65, RP_65, RG_66, RP_66, RG_67, RP_67, RG_68, RP_68, RG_69, RP_69, RG_70, RP_70, RG_71, RP_71, RN_72, Rld_72, Rst_72, RN_73, Rld_73, Rst_73, RN_74, Rld_74, Rst_74, RN_75, Rld_75, Rst_75, RN_76, Rld_76, Rst_76, RN_77, Rld_77, Rst_77, RN_78, Rld_78, Rst_78, RN_79, Rld_79, Rst_79, RN_80, Rld_80, Rst_80, RN_81, Rld_81, Rst_81, RN_82, Rld_82, Rst_82, RN_83, Rld_83, Rst_83, RN_84, Rld_84, Rst_84, RN_85, Rld_85, Rst_85, RN_86, Rld_86, Rst_86, RG_87, RP_87, RG_88, RP_88, RG_89, RP_89, RG_90, RP_90, RG_91, RP_91, RG_92, RP_92, RG_93, RP_93, RN_94, Rld_94, Rst_94, RN_95, Rld_95, Rst_95, RG_96, RP_96, RN_97, Rld_97, Rst_97, RN_98, Rld_98, Rst_98, RN_99, Rld_99, Rst_99, RN_100, Rld_100, Rst_100, RG_101, RP_101, RN_102, Rld_102, Rst_102, RN_103, Rld_103, Rst_103, RN_104, Rld_104, Rst_104, RG_105, RP_105, q_fi_sfi, q_fl_sfi, q_fr_sfi, q_ai_sfi, q_al_sfi, q_ar_sfi, q_ln_sfi, q_fi_sfl, q_fl_sfl, q_fr_sfl, q_ai_sfl, q_al_sfl, q_ar_sfl, q_ln_sfl, q_fi_sfr, q_fl_sfr, q_fr_sfr, q_ai_sfr, q_al_sfr, q_ar_sfr, q_ln_sfr, q_fi_sai, q_fl_sai, q_fr_sai, q_ai_sai, q_al_sai, q_ar_sai, q_ln_sai, q_fi_sal, q_fl_sal, q_fr_sal, q_ai_sal, q_al_sal, q_ar_sal, q_ln_sal, q_fi_sar, q_fl_sar, q_fr_sar, q_ai_sar, q_al_sar, q_ar_sar, q_ln_sar, reduceIte, Nat.reduceEqDiff, h32, Option.bind_some, ix_n (show rm < 2147483648 by omega), decide_eq_true hrm, if_true, c32 (show rm < 2147483648 by omega), suc32, e]
end
section
variable {m : Nat} {ρ : Hs} {R : Gs} {tx : Nat → Int} {n a : Nat}
theorem rb_if (h : RB R false tx n a) : fX12_isIf_0 (eR m ρ R) m = some (b2i (kA false tx n a = 1 ∧ vA tx n a = vW false 0)) := by
  unfold fX12_isIf_0
  rw [show ∀ s, fX12_spelled_0 s 105 102 0 0 0 0 = some 294 from fun s => rfl, Option.bind_some, RisC, Option.bind_some, rb_word h (w := 0) (by decide) rfl, Option.bind_some, bb_b]
theorem rb_then (h : RB R false tx n a) : fX12_isThen_0 (eR m ρ R) m = some (b2i (kA false tx n a = 1 ∧ vA tx n a = vW false 1)) := by
  unfold fX12_isThen_0
  rw [show ∀ s, fX12_spelled_0 s 116 104 101 110 0 0 = some 663726 from fun s => rfl, Option.bind_some, RisC, Option.bind_some, rb_word h (w := 1) (by decide) rfl, Option.bind_some, bb_b]
theorem rb_else (h : RB R false tx n a) : fX12_isElse_0 (eR m ρ R) m = some (b2i (kA false tx n a = 1 ∧ vA tx n a = vW false 2)) := by
  unfold fX12_isElse_0
  rw [show ∀ s, fX12_spelled_0 s 101 108 115 101 0 0 = some 176741 from fun s => rfl, Option.bind_some, RisC, Option.bind_some, rb_word h (w := 2) (by decide) rfl, Option.bind_some, bb_b]
theorem rb_and (h : RB R false tx n a) : fX12_isAnd_0 (eR m ρ R) m = some (b2i (kA false tx n a = 1 ∧ vA tx n a = vW false 3)) := by
  unfold fX12_isAnd_0
  rw [show ∀ s, fX12_spelled_0 s 97 110 100 0 0 0 = some 1476 from fun s => rfl, Option.bind_some, RisC, Option.bind_some, rb_word h (w := 3) (by decide) rfl, Option.bind_some, bb_b]
theorem rb_or (h : RB R false tx n a) : fX12_isOr_0 (eR m ρ R) m = some (b2i (kA false tx n a = 1 ∧ vA tx n a = vW false 4)) := by
  unfold fX12_isOr_0
  rw [show ∀ s, fX12_spelled_0 s 111 114 0 0 0 0 = some 498 from fun s => rfl, Option.bind_some, RisC, Option.bind_some, rb_word h (w := 4) (by decide) rfl, Option.bind_some, bb_b]
theorem rb_not (h : RB R false tx n a) : fX12_isNot_0 (eR m ρ R) m = some (b2i (kA false tx n a = 1 ∧ vA tx n a = vW false 5)) := by
  unfold fX12_isNot_0
  rw [show ∀ s, fX12_spelled_0 s 110 111 116 0 0 0 = some 14836 from fun s => rfl, Option.bind_some, RisC, Option.bind_some, rb_word h (w := 5) (by decide) rfl, Option.bind_some, bb_b]
theorem rb_least (h : RB R false tx n a) : fX12_isLeast_0 (eR m ρ R) m = some (b2i (kA false tx n a = 1 ∧ vA tx n a = vW false 6)) := by
  unfold fX12_isLeast_0
  rw [show ∀ s, fX12_spelled_0 s 108 101 97 115 116 0 = some 12748404 from fun s => rfl, Option.bind_some, RisC, Option.bind_some, rb_word h (w := 6) (by decide) rfl, Option.bind_some, bb_b]
theorem rb_most (h : RB R false tx n a) : fX12_isMost_0 (eR m ρ R) m = some (b2i (kA false tx n a = 1 ∧ vA tx n a = vW false 7)) := by
  unfold fX12_isMost_0
  rw [show ∀ s, fX12_spelled_0 s 109 111 115 116 0 0 = some 441972 from fun s => rfl, Option.bind_some, RisC, Option.bind_some, rb_word h (w := 7) (by decide) rfl, Option.bind_some, bb_b]
theorem KWd_8 : KWd tx n a ↔ isW false tx n a 0 ∨ isW false tx n a 1 ∨ isW false tx n a 2 ∨ isW false tx n a 3 ∨ isW false tx n a 4 ∨ isW false tx n a 5 ∨ isW false tx n a 6 ∨ isW false tx n a 7 := by
  constructor
  · rintro ⟨w, h1, h2⟩
    match w, h1 with
    | 0, _ => exact Or.inl h2
    | 1, _ => exact Or.inr (Or.inl h2)
    | 2, _ => exact Or.inr (Or.inr (Or.inl h2))
    | 3, _ => exact Or.inr (Or.inr (Or.inr (Or.inl h2)))
    | 4, _ => exact Or.inr (Or.inr (Or.inr (Or.inr (Or.inl h2))))
    | 5, _ => exact Or.inr (Or.inr (Or.inr (Or.inr (Or.inr (Or.inl h2)))))
    | 6, _ => exact Or.inr (Or.inr (Or.inr (Or.inr (Or.inr (Or.inr (Or.inl h2))))))
    | 7, _ => exact Or.inr (Or.inr (Or.inr (Or.inr (Or.inr (Or.inr (Or.inr h2))))))
  · rintro (h | h | h | h | h | h | h | h)
    · exact ⟨0, by decide, h⟩
    · exact ⟨1, by decide, h⟩
    · exact ⟨2, by decide, h⟩
    · exact ⟨3, by decide, h⟩
    · exact ⟨4, by decide, h⟩
    · exact ⟨5, by decide, h⟩
    · exact ⟨6, by decide, h⟩
    · exact ⟨7, by decide, h⟩
theorem rb_kept (h : RB R false tx n a) : fX12_isKept_0 (eR m ρ R) m = some (cb (KWd tx n a)) := by
  unfold fX12_isKept_0
  simp only [RisC, rb_if h, rb_then h, rb_else h, rb_and h, rb_or h, rb_not h, rb_least h, rb_most h, Option.bind_some, b2i_0, bb_0, bb_1]
  have key : ∀ w, kA false tx n a = 1 ∧ vA tx n a = vW false w ↔ isW false tx n a w := fun w => Iff.rfl
  by_cases c0 : kA false tx n a = 1 ∧ vA tx n a = vW false 0
  · rw [if_neg (fun q => q c0), cb_t (KWd_8.mpr (Or.inl c0))]
  rw [if_pos c0]
  by_cases c1 : kA false tx n a = 1 ∧ vA tx n a = vW false 1
  · rw [if_neg (fun q => q c1), cb_t (KWd_8.mpr (Or.inr (Or.inl c1)))]
  rw [if_pos c1]
  by_cases c2 : kA false tx n a = 1 ∧ vA tx n a = vW false 2
  · rw [if_neg (fun q => q c2), cb_t (KWd_8.mpr (Or.inr (Or.inr (Or.inl c2))))]
  rw [if_pos c2]
  by_cases c3 : kA false tx n a = 1 ∧ vA tx n a = vW false 3
  · rw [if_neg (fun q => q c3), cb_t (KWd_8.mpr (Or.inr (Or.inr (Or.inr (Or.inl c3)))))]
  rw [if_pos c3]
  by_cases c4 : kA false tx n a = 1 ∧ vA tx n a = vW false 4
  · rw [if_neg (fun q => q c4), cb_t (KWd_8.mpr (Or.inr (Or.inr (Or.inr (Or.inr (Or.inl c4))))))]
  rw [if_pos c4]
  by_cases c5 : kA false tx n a = 1 ∧ vA tx n a = vW false 5
  · rw [if_neg (fun q => q c5), cb_t (KWd_8.mpr (Or.inr (Or.inr (Or.inr (Or.inr (Or.inr (Or.inl c5)))))))]
  rw [if_pos c5]
  by_cases c6 : kA false tx n a = 1 ∧ vA tx n a = vW false 6
  · rw [if_neg (fun q => q c6), cb_t (KWd_8.mpr (Or.inr (Or.inr (Or.inr (Or.inr (Or.inr (Or.inr (Or.inl c6))))))))]
  rw [if_pos c6]
  by_cases c7 : kA false tx n a = 1 ∧ vA tx n a = vW false 7
  · rw [if_neg (fun q => q c7), cb_t (KWd_8.mpr (Or.inr (Or.inr (Or.inr (Or.inr (Or.inr (Or.inr (Or.inr c7))))))))]
  rw [if_pos c7, cb_f]
  intro q
  rcases KWd_8.mp q with r | r | r | r | r | r | r | r
  · exact c0 r
  · exact c1 r
  · exact c2 r
  · exact c3 r
  · exact c4 r
  · exact c5 r
  · exact c6 r
  · exact c7 r
theorem rb_cbs (h : RB R false tx n a) : fX12_canBeginSum_0 (eR m ρ R) m = some (cb (CBS tx n a)) := by
  have c1 := h.2.1.1
  unfold fX12_canBeginSum_0
  simp only [RisC, RG_24, rb_sign h, rb_least h, rb_most h, rb_kept h, c1, Option.bind_some, b2i_0, bb_0, bb_1, show (2 : Int32) = Int32.ofNat 2 from rfl, show (1 : Int32) = Int32.ofNat 1 from rfl, kq (tK_b false tx n (tS tx n a)) (show 2 ≤ 4 by decide), kq (tK_b false tx n (tS tx n a)) (show 1 ≤ 4 by decide)]
  have ek : tK false tx n (tS tx n a) = kA false tx n a := rfl
  rw [ek]
  by_cases d1 : kA false tx n a = 2
  · rw [if_pos d1, cb_t (show CBS tx n a from Or.inl d1)]; rfl
  rw [if_neg d1]
  by_cases d2 : kA false tx n a = 3 ∧ sA tx n a = (40 : Int32).toInt
  · rw [if_neg (fun q => q d2), cb_t (show CBS tx n a from Or.inr (Or.inl d2))]; rfl
  rw [if_pos d2]
  by_cases d3 : kA false tx n a = 1 ∧ vA tx n a = vW false 6
  · rw [if_neg (fun q => q d3), cb_t (show CBS tx n a from Or.inr (Or.inr ⟨d3.1, Or.inl (Or.inl d3)⟩))]; rfl
  rw [if_pos d3]
  by_cases d4 : kA false tx n a = 1 ∧ vA tx n a = vW false 7
  · rw [if_neg (fun q => q d4), cb_t (show CBS tx n a from Or.inr (Or.inr ⟨d4.1, Or.inl (Or.inr d4)⟩))]; rfl
  rw [if_pos d4]
  by_cases d5 : kA false tx n a = 1
  · rw [if_pos d5]
    by_cases d6 : KWd tx n a
    · rw [if_neg (cbn d6), cb_f]
      rintro (q | q | q)
      · exact d1 q
      · exact d2 q
      · exact q.2.elim (fun r => r.elim d3 d4) (fun r => r d6)
    · rw [if_pos (cb_f d6), cb_t (show CBS tx n a from Or.inr (Or.inr ⟨d5, Or.inr d6⟩))]; rfl
  · rw [if_neg d5, cb_f]
    rintro (q | q | q)
    · exact d1 q
    · exact d2 q
    · exact d5 q.1
theorem rb_cb (h : RB R false tx n a) : fX12_canBegin_0 (eR m ρ R) m = some (cb (isW false tx n a 0 ∨ CBS tx n a)) := by
  unfold fX12_canBegin_0
  simp only [RisC, rb_if h, rb_cbs h, Option.bind_some, b2i_0, bb_0, bb_1]
  by_cases c : kA false tx n a = 1 ∧ vA tx n a = vW false 0
  · rw [if_neg (fun q => q c), cb_t (Or.inl c : isW false tx n a 0 ∨ CBS tx n a)]
  · rw [if_pos c]
    by_cases d : CBS tx n a
    · rw [if_neg (cbn d), cb_t (Or.inr d : isW false tx n a 0 ∨ CBS tx n a)]
    · rw [if_pos (cb_f d), cb_f (fun q : isW false tx n a 0 ∨ CBS tx n a => q.elim c d)]
def Vb (tx : Nat → Int) (n a : Nat) (r : Int32) : Prop := (r = -1 ∧ ¬ VRb tx n a) ∨ ∃ w, (8 ≤ w ∧ w ≤ 18) ∧ isW false tx n a w ∧ r = Int32.ofNat (w - 8)
theorem rb_var (h : RB R false tx n a) : ∃ r, fX12_variable_0 (eR m ρ R) m = some r ∧ Vb tx n a r := by
  unfold fX12_variable_0
  simp only [RisC, Option.bind_some, show ∀ s, fX12_spelled_0 s 115 101 114 118 101 114 = some 643389618 from fun s => rfl, show ∀ s, fX12_spelled_0 s 97 104 101 97 100 0 = some 1315876 from fun s => rfl, show ∀ s, fX12_spelled_0 s 107 105 110 100 0 0 = some 370116 from fun s => rfl, show ∀ s, fX12_spelled_0 s 97 108 105 107 101 0 = some 1451365 from fun s => rfl, show ∀ s, fX12_spelled_0 s 119 97 121 0 0 0 = some 23609 from fun s => rfl, show ∀ s, fX12_spelled_0 s 99 108 111 99 107 0 = some 3554411 from fun s => rfl, show ∀ s, fX12_spelled_0 s 100 97 121 0 0 0 = some 4153 from fun s => rfl, show ∀ s, fX12_spelled_0 s 109 111 110 116 104 0 = some 14137992 from fun s => rfl, show ∀ s, fX12_spelled_0 s 121 101 97 114 0 0 = some 824370 from fun s => rfl]
  rw [rb_word h (w := 8) (by decide) rfl, rb_word h (w := 9) (c := 21091111597) (by decide) rfl, rb_word h (w := 10) (c := 1315876) (by decide) rfl, rb_word h (w := 11) (c := 370116) (by decide) rfl, rb_word h (w := 12) (c := 1451365) (by decide) rfl, rb_word h (w := 13) (c := 1309981300) (by decide) rfl, rb_word h (w := 14) (c := 23609) (by decide) rfl, rb_word h (w := 15) (c := 3554411) (by decide) rfl, rb_word h (w := 16) (c := 4153) (by decide) rfl, rb_word h (w := 17) (c := 14137992) (by decide) rfl, rb_word h (w := 18) (c := 824370) (by decide) rfl]
  simp only [Option.bind_some, b2i_0]
  by_cases c8 : kA false tx n a = 1 ∧ vA tx n a = vW false 8
  · rw [if_neg (fun q => q c8)]; exact ⟨_, rfl, Or.inr ⟨8, by decide, c8, rfl⟩⟩
  rw [if_pos c8]
  by_cases c9 : kA false tx n a = 1 ∧ vA tx n a = vW false 9
  · rw [if_neg (fun q => q c9)]; exact ⟨_, rfl, Or.inr ⟨9, by decide, c9, rfl⟩⟩
  rw [if_pos c9]
  by_cases c10 : kA false tx n a = 1 ∧ vA tx n a = vW false 10
  · rw [if_neg (fun q => q c10)]; exact ⟨_, rfl, Or.inr ⟨10, by decide, c10, rfl⟩⟩
  rw [if_pos c10]
  by_cases c11 : kA false tx n a = 1 ∧ vA tx n a = vW false 11
  · rw [if_neg (fun q => q c11)]; exact ⟨_, rfl, Or.inr ⟨11, by decide, c11, rfl⟩⟩
  rw [if_pos c11]
  by_cases c12 : kA false tx n a = 1 ∧ vA tx n a = vW false 12
  · rw [if_neg (fun q => q c12)]; exact ⟨_, rfl, Or.inr ⟨12, by decide, c12, rfl⟩⟩
  rw [if_pos c12]
  by_cases c13 : kA false tx n a = 1 ∧ vA tx n a = vW false 13
  · rw [if_neg (fun q => q c13)]; exact ⟨_, rfl, Or.inr ⟨13, by decide, c13, rfl⟩⟩
  rw [if_pos c13]
  by_cases c14 : kA false tx n a = 1 ∧ vA tx n a = vW false 14
  · rw [if_neg (fun q => q c14)]; exact ⟨_, rfl, Or.inr ⟨14, by decide, c14, rfl⟩⟩
  rw [if_pos c14]
  by_cases c15 : kA false tx n a = 1 ∧ vA tx n a = vW false 15
  · rw [if_neg (fun q => q c15)]; exact ⟨_, rfl, Or.inr ⟨15, by decide, c15, rfl⟩⟩
  rw [if_pos c15]
  by_cases c16 : kA false tx n a = 1 ∧ vA tx n a = vW false 16
  · rw [if_neg (fun q => q c16)]; exact ⟨_, rfl, Or.inr ⟨16, by decide, c16, rfl⟩⟩
  rw [if_pos c16]
  by_cases c17 : kA false tx n a = 1 ∧ vA tx n a = vW false 17
  · rw [if_neg (fun q => q c17)]; exact ⟨_, rfl, Or.inr ⟨17, by decide, c17, rfl⟩⟩
  rw [if_pos c17]
  by_cases c18 : kA false tx n a = 1 ∧ vA tx n a = vW false 18
  · rw [if_neg (fun q => q c18)]; exact ⟨_, rfl, Or.inr ⟨18, by decide, c18, rfl⟩⟩
  rw [if_pos c18]
  refine ⟨_, rfl, Or.inl ⟨rfl, ?_⟩⟩
  rintro ⟨w, w1, w2, w3⟩
  have hw : w = 8 ∨ w = 9 ∨ w = 10 ∨ w = 11 ∨ w = 12 ∨ w = 13 ∨ w = 14 ∨ w = 15 ∨ w = 16 ∨ w = 17 ∨ w = 18 := by omega
  rcases hw with rfl | rfl | rfl | rfl | rfl | rfl | rfl | rfl | rfl | rfl | rfl
  · exact c8 w3
  · exact c9 w3
  · exact c10 w3
  · exact c11 w3
  · exact c12 w3
  · exact c13 w3
  · exact c14 w3
  · exact c15 w3
  · exact c16 w3
  · exact c17 w3
  · exact c18 w3
theorem rb_namedC {K D : Nat} {nt : Nat → Nat} (hn5 : n ≤ 500) (hC : Cur R false tx n (tS tx n a)) (h31 : fi R 31 = Int32.ofNat D) (hD : D ≤ 10) (hN : NF tx n K D nt) (hv : ∀ d, d < D → (al R 40 d).toInt = vA tx n (nt d)) : ∃ r, fX12_named_0 (eR m ρ R) m = some r ∧ (kA false tx n a = 1 → Nm tx n D nt a r) ∧ (kA false tx n a ≠ 1 → r = -1) := by
  obtain ⟨c1, c2, c3, c4, c5, c6⟩ := hC
  have ek : tK false tx n (tS tx n a) = kA false tx n a := rfl
  have e1 : (Int32.ofNat (tK false tx n (tS tx n a)) = 1) = (kA false tx n a = 1) := kq (tK_b false tx n (tS tx n a)) (show 1 ≤ 4 by decide)
  have hl : lA tx n a = tE tx n (tS tx n a) - tS tx n a := rfl
  unfold fX12_named_0 fX12_named_2
  refine lp_q D (fun d z => z = (m, Int32.ofNat d) ∧ ∀ e, e < d → vA tx n (nt e) ≠ vA tx n a) (fun X => ∃ r, X = some r ∧ (kA false tx n a = 1 → Nm tx n D nt a r) ∧ (kA false tx n a ≠ 1 → r = -1)) ?_ ?_ fu 0 _ (by omega) ⟨rfl, fun e he => absurd he (by omega)⟩ (by unfold fu; omega)
  · rintro L d _ hd ⟨rfl, hq⟩
    simp only [fbX12_named_2, RG_24, RG_28, RG_31, RG_29, c1, h31, Option.bind_some, e1]
    by_cases c : kA false tx n a = 1
    · rw [if_pos c]
      obtain ⟨d1, d2⟩ := c4 c
      have hb : tE tx n (tS tx n a) ≤ n := (tE_b (tx := tx) (kA1 c).1).2
      have hn := hn5
      have e8 : ((8 : Int32) < Int32.ofNat (tE tx n (tS tx n a) - tS tx n a)) = (8 < lA tx n a) := by rw [show (8 : Int32) = Int32.ofNat 8 from rfl]; exact propext (lt_n (by decide) (by omega))
      rw [d1]
      simp only [e8]
      by_cases e : 8 < lA tx n a
      · right
        rw [if_pos e]
        refine ⟨_, rfl, fun _ => Or.inl ⟨rfl, fun f hf q => ?_⟩, fun q => absurd c q⟩
        obtain ⟨n1, n2, n3⟩ := (hN f hf).1
        have := (va_inj _ _ (kA1 n2).2 (kA1 c).2 q).1
        omega
      · rw [if_neg e]
        simp only [le_n (show D < 2147483648 by omega) (show d < 2147483648 by omega), if_neg (show ¬ D ≤ d by omega), RisC, RG_0, RP_0, RG_1, RP_1, RN_2, Rld_2, Rst_2, RN_3, Rld_3, Rst_3, RN_4, Rld_4, Rst_4, RG_5, RP_5, RG_6, RP_6, RN_7, Rld_7, Rst_7, RN_8, Rld_8, Rst_8, RN_9, Rld_9, Rst_9, RN_10, Rld_10, Rst_10, RG_11, RP_11, RG_12, RP_12, RN_13, Rld_13, Rst_13, RN_14, Rld_14, Rst_14, RN_15, Rld_15, Rst_15, RN_16, Rld_16, Rst_16, RG_17, RP_17, RG_18, RP_18, RG_19, RP_19, RG_20, RP_20, RG_21, RP_21, RG_22, RP_22, RG_23, RP_23, RG_24, RP_24, RG_25, RP_25, RG_26, RP_26, RG_27, RP_27, RG_28, RP_28, RG_29, RP_29, RG_30, RP_30, RG_31, RP_31, RG_32, RP_32, RN_33, Rld_33, Rst_33, RN_34, Rld_34, Rst_34, RN_35, Rld_35, Rst_35, RN_36, Rld_36, Rst_36, RN_37, Rld_37, Rst_37, RN_38, Rld_38, Rst_38, RN_39, Rld_39, Rst_39, RN_40, Rld_40, Rst_40, RN_41, Rld_41, Rst_41, RN_42, Rld_42, Rst_42, RN_43, Rld_43, Rst_43, RN_44, Rld_44, Rst_44, RN_45, Rld_45, Rst_45, RG_46, RP_46, RG_47, RP_47, RG_48, RP_48, RG_49, RP_49, RN_50, Rld_50, Rst_50, RN_51, Rld_51, Rst_51, RN_52, Rld_52, Rst_52, RN_53, Rld_53, Rst_53, RN_54, Rld_54, Rst_54, RN_55, Rld_55, Rst_55, RG_56, RP_56, RG_57, RP_57, RN_58, Rld_58, Rst_58, RN_59, Rld_59, Rst_59, RN_60, Rld_60, Rst_60, RG_61, RP_61, RG_62, RP_62, RG_63, RP_63, RG_64, RP_64, RG_65, RP_65, RG_66, RP_66, RG_67, RP_67, RG_68, RP_68, RG_69, RP_69, RG_70, RP_70, RG_71, RP_71, RN_72, Rld_72, Rst_72, RN_73, Rld_73, Rst_73, RN_74, Rld_74, Rst_74, RN_75, Rld_75, Rst_75, RN_76, Rld_76, Rst_76, RN_77, Rld_77, Rst_77, RN_78, Rld_78, Rst_78, RN_79, Rld_79, Rst_79, RN_80, Rld_80, Rst_80, RN_81, Rld_81, Rst_81, RN_82, Rld_82, Rst_82, RN_83, Rld_83, Rst_83, RN_84, Rld_84, Rst_84, RN_85, Rld_85, Rst_85, RN_86, Rld_86, Rst_86, RG_87, RP_87, RG_88, RP_88, RG_89, RP_89, RG_90, RP_90, RG_91, RP_91, RG_92, RP_92, RG_93, RP_93, RN_94, Rld_94, Rst_94, RN_95, Rld_95, Rst_95, RG_96, RP_96, RN_97, Rld_97, Rst_97, RN_98, Rld_98, Rst_98, RN_99, Rld_99, Rst_99, RN_100, Rld_100, Rst_100, RG_101, RP_101, RN_102, Rld_102, Rst_102, RN_103, Rld_103, Rst_103, RN_104, Rld_104, Rst_104, RG_105, RP_105, Option.bind_some, ix_n (show d < 2147483648 by omega), decide_eq_true (show d < 10 by omega), if_true, c32 (show d < 2147483648 by omega), suc32]
        have eq : (al R 40 d = fl R 29) = (vA tx n (nt d) = vA tx n a) := by rw [eq64, hv d hd, d2, if_pos (by omega)]; rfl
        simp only [eq]
        by_cases f : vA tx n (nt d) = vA tx n a
        · right
          rw [if_pos f]
          exact ⟨_, rfl, fun _ => Or.inr ⟨d, hd, rfl, f, hq⟩, fun q => absurd c q⟩
        · left
          rw [if_neg f]
          refine ⟨_, ⟨rfl, fun g hg => ?_⟩, rfl⟩
          by_cases q : g = d
          · rw [q]; exact f
          · exact hq g (by omega)
    · right
      rw [if_neg c]
      exact ⟨_, rfl, fun q => absurd q c, fun _ => rfl⟩
  · rintro L _ ⟨rfl, hq⟩
    simp only [fbX12_named_2, RG_24, RG_28, RG_31, c1, h31, Option.bind_some, Int32.le_refl, if_true, e1]
    by_cases c : kA false tx n a = 1
    · rw [if_pos c]
      split
      · exact ⟨_, rfl, fun _ => Or.inl ⟨rfl, hq⟩, fun q => absurd c q⟩
      · exact ⟨_, rfl, fun _ => Or.inl ⟨rfl, hq⟩, fun q => absurd c q⟩
    · rw [if_neg c]; exact ⟨_, rfl, fun q => absurd q c, fun _ => rfl⟩
theorem rb_named {K D : Nat} {nt : Nat → Nat} (h : RB R false tx n a) (h31 : fi R 31 = Int32.ofNat D) (hD : D ≤ 10) (hN : NF tx n K D nt) (hv : ∀ d, d < D → (al R 40 d).toInt = vA tx n (nt d)) : ∃ r, fX12_named_0 (eR m ρ R) m = some r ∧ (kA false tx n a = 1 → Nm tx n D nt a r) ∧ (kA false tx n a ≠ 1 → r = -1) := rb_namedC h.1.2.1 h.2.1 h31 hD hN hv
end
