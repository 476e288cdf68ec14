set_option maxRecDepth 100000 in
theorem sgn_R : ∀ c, c < 256 → ((∀ j, j < 13 → btx 0 j ≠ (Int32.ofNat c).toInt8.toInt32) ↔ ¬ isSg false (c : Int)) := by decide
set_option maxRecDepth 100000 in
theorem sgn_P : ∀ c, c < 256 → ((∀ j, j < 15 → btx 2 j ≠ (Int32.ofNat c).toInt8.toInt32) ↔ ¬ isSg true (c : Int)) := by decide
theorem sgn_W (pr : Bool) {c : Nat} (hc : c < 256) : (∀ j, j < tLn (si pr) → btx (si pr) j ≠ (Int32.ofNat c).toInt8.toInt32) ↔ ¬ isSg pr (c : Int) := by
  cases pr with
  | false => exact sgn_R c hc
  | true => exact sgn_P c hc
theorem s_index {σ : Hs} {a : Nat} {pr : Bool} (h : StrO σ a (si pr)) {c : Nat} (hc : c < 256) : ∃ r, fJ0_indexOf_0f7a4_0 σ a (Int32.ofNat c) = some r ∧ (r < 0 ↔ ¬ isSg pr (c : Int)) := by
  obtain ⟨w1, w2, w3, w4⟩ := wi_b pr
  obtain ⟨v, h1, h2⟩ := s_N h w2
  have hb := tLn_b _ w2
  have e0 : ∀ k, k < 2147483648 → ¬ Int32.ofNat k < 0 := fun k hk => by rw [lt32, n32 hk, i0]; omega
  have e255 : (255 < Int32.ofNat c) = False := by
    rw [show (255 : Int32) = Int32.ofNat 255 from rfl]; exact propext ⟨fun q => by rw [lt_n (by decide) (by omega)] at q; omega, False.elim⟩
  have hpos : 0 < tLn (si pr) := by cases pr <;> decide
  unfold fJ0_indexOf_0f7a4_0 fJ0_indexOf_7cf53_0 fJ0_isLatin1_aae02_0 fJ1_indexOf_4cfef_0 fJ1_canEncode_9a6ad_0
  simp only [s_C h w2, s_I h w2, h1, s_len h w2, s_aN h2 w2, Option.bind_some, if_true, bb_1, show ((1 : Int32) = 0) = False from propext ⟨fun q => absurd q (by decide), False.elim⟩, if_false, if_neg (e0 c (by omega)), e255, mx32, mn32, Int.le_refl, i0]
  have e1 : (0 : Int32) < Int32.ofNat (tLn (si pr)) := by rw [lt32, n32 (by omega), i0]; omega
  rw [if_pos e1]
  unfold fJ1_indexOfChar_4cfef_0 fJ1_indexOfChar_4cfef_7
  have key : ∃ r, lp (fun (k : Nat × Int32 × Int32 × Int32 → Option Int32) (z : Nat × Int32 × Int32 × Int32) => fbJ1_indexOfChar_4cfef_7 σ (fun xv0 xv3 xv4 xv5 => k (xv0, xv3, xv4, xv5)) z.1 z.2.1 z.2.2.1 z.2.2.2) fu (v, Int32.ofNat (tLn (si pr)), (Int32.ofNat c).toInt8.toInt32, 0) = some r ∧ (r < 0 ↔ ¬ isSg pr (c : Int)) := by
    refine lp_q (tLn (si pr)) (fun j z => z = (v, Int32.ofNat (tLn (si pr)), (Int32.ofNat c).toInt8.toInt32, Int32.ofNat j) ∧ ∀ q, q < j → btx (si pr) q ≠ (Int32.ofNat c).toInt8.toInt32) (fun X => ∃ r, X = some r ∧ (r < 0 ↔ ¬ isSg pr (c : Int))) ?_ ?_ fu 0 _ (by omega) ⟨rfl, fun q hq => absurd hq (by omega)⟩ (by unfold fu; omega)
    · rintro K j _ hj ⟨rfl, hq⟩
      simp only [fbJ1_indexOfChar_4cfef_7, le_n (show tLn (si pr) < 2147483648 by omega) (show j < 2147483648 by omega), if_neg (show ¬ tLn (si pr) ≤ j by omega), s_A h2 w2 hj hb, Option.bind_some, suc32]
      by_cases d : btx (si pr) j = (Int32.ofNat c).toInt8.toInt32
      · right
        rw [if_pos d]
        refine ⟨_, rfl, fun q => absurd q (e0 j (by omega)), fun q => ?_⟩
        exact absurd d ((sgn_W pr hc).mpr q j hj)
      · left
        rw [if_neg d]
        refine ⟨_, ⟨rfl, fun q hq2 => ?_⟩, rfl⟩
        by_cases e : q = j
        · rw [e]; exact d
        · exact hq q (by omega)
    · rintro K _ ⟨rfl, hq⟩
      simp only [fbJ1_indexOfChar_4cfef_7, Int32.le_refl, if_true]
      exact ⟨_, rfl, fun _ => (sgn_W pr hc).mp hq, fun _ => by decide⟩
  obtain ⟨r, r1, r2⟩ := key
  refine ⟨r, ?_, r2⟩
  rw [r1]; rfl
section
variable {b : Nat} {G : Gs} {pr : Bool} {tx : Nat → Int} {n : Nat} {σ : Hs}
theorem x_run (h : RdT b G pr tx n σ) {q : Nat → Bool} {lo hi : Int32} (hq : ∀ j, q j = decide (lo.toInt ≤ tx j ∧ tx j ≤ hi.toInt)) {p : Nat} (hp : p ≤ n) : fX5_endOfRun_0 σ b (Int32.ofNat p) lo hi = some (Int32.ofNat (nx q n p)) := by
  obtain ⟨h1, h2, h3, h4, h5, -⟩ := h
  obtain ⟨b1, b2, b3, b4⟩ := nx_in q hp
  unfold fX5_endOfRun_0 fX5_endOfRun_3
  refine lp_q (nx q n p - p) (fun k z => z = (b, lo, hi, Int32.ofNat (p + k))) (fun X => X = some (Int32.ofNat (nx q n p))) ?_ ?_ fu 0 _ (by omega) rfl (by unfold fu; omega)
  · rintro K k _ hk rfl
    left
    have hin := of_decide_eq_true ((hq (p + k)).symm.trans (b3 (p + k) (by omega) (by omega)))
    simp only [fbX5_endOfRun_3, z5_g0 h1, z5_n0 h1, z5_l0 h1, h3, Option.bind_some, le_n (show n < 2147483648 by omega) (show p + k < 2147483648 by omega), if_neg (show ¬ n ≤ p + k by omega), ix_n (show p + k < 2147483648 by omega), decide_eq_true (show p + k < n by omega), if_true, c32 (show p + k < 2147483648 by omega), lt32, h5 (p + k) (by omega), suc32]
    rw [if_neg (by omega), if_neg (by omega)]
    exact ⟨_, rfl, rfl⟩
  · rintro K _ rfl
    rw [show p + (nx q n p - p) = nx q n p by omega]
    simp only [fbX5_endOfRun_3, z5_g0 h1, z5_n0 h1, z5_l0 h1, h3, Option.bind_some, le_n (show n < 2147483648 by omega) (show nx q n p < 2147483648 by omega)]
    by_cases c : n ≤ nx q n p
    · rw [if_pos c]
    · rw [if_neg c]
      have hout := of_decide_eq_false ((hq (nx q n p)).symm.trans (b4 (by omega)))
      simp only [ix_n (show nx q n p < 2147483648 by omega), decide_eq_true (show nx q n p < n by omega), if_true, c32 (show nx q n p < 2147483648 by omega), Option.bind_some, lt32, h5 (nx q n p) (by omega)]
      by_cases d : tx (nx q n p) < lo.toInt
      · rw [if_pos d]
      · rw [if_neg d, if_pos (by omega)]
theorem x_numb (h : RdT b G pr tx n σ) {p e : Nat} (hpe : p ≤ e) (he : e ≤ n) (h6 : e - p ≤ 6) (hD : ∀ j, j < e - p → isDg (tx (p + j))) : ∃ c, fX5_numberOf_0 σ b (Int32.ofNat p) (Int32.ofNat e) = some c ∧ c.toInt = nuv tx p (e - p) := by
  obtain ⟨h1, h2, h3, h4, h5, -⟩ := h
  unfold fX5_numberOf_0 fX5_numberOf_5
  refine lp_q (e - p) (fun k z => ∃ c : Int32, z = (b, Int32.ofNat e, c, Int32.ofNat (p + k)) ∧ c.toInt = nuv tx p k) (fun X => ∃ c : Int32, X = some c ∧ c.toInt = nuv tx p (e - p)) ?_ ?_ fu 0 _ (by omega) ⟨0, rfl, rfl⟩ (by unfold fu; omega)
  · rintro K k _ hk ⟨c, rfl, hc⟩
    left
    simp only [fbX5_numberOf_5, z5_g0 h1, z5_l0 h1, h3, Option.bind_some, le_n (show e < 2147483648 by omega) (show p + k < 2147483648 by omega), if_neg (show ¬ e ≤ p + k by omega), ix_n (show p + k < 2147483648 by omega), decide_eq_true (show p + k < n by omega), if_true, c32 (show p + k < 2147483648 by omega), suc32]
    refine ⟨_, ⟨_, rfl, ?_⟩, rfl⟩
    have hv := nuv_b (tx := tx) (p := p) k (fun j hj => hD j (by omega))
    have h10 : (10 : Int) ^ k ≤ 10 ^ 6 := by
      have : 10 ^ k ≤ 10 ^ 6 := Nat.pow_le_pow_right (by decide) (by omega)
      exact_mod_cast this
    have h10' : (10 : Int) ^ 6 = 1000000 := by decide
    have hd := hD k hk
    have e10 : (10 : Int32).toInt = 10 := rfl
    have e48 : (48 : Int32).toInt = 48 := rfl
    have hx := h5 (p + k) (by omega)
    have m1 : (10 * c).toInt = 10 * nuv tx p k := by
      rw [mul32, hc, e10]
      rw [hc, e10]; omega
    have m2 : (ai G 0 (p + k) - 48).toInt = tx (p + k) - 48 := by
      rw [sub32, hx, e48]
      rw [hx, e48]; omega
    unfold nuv
    rw [add32, m1, m2]
    rw [m1, m2]; omega
  · rintro K _ ⟨c, rfl, hc⟩
    rw [show p + (e - p) = e by omega]
    simp only [fbX5_numberOf_5, Int32.le_refl, if_true]
    exact ⟨c, rfl, hc⟩
def adG (G : Gs) (k : Nat) (kd cd st en : Int32) : Gs := sfi (sai (sai (sai (sai G 3 (up (ai G 3) k kd)) 4 (up (ai G 4) k cd)) 5 (up (ai G 5) k st)) 6 (up (ai G 6) k en)) 7 (Int32.ofNat (k + 1))
theorem x_add {k : Nat} (h1 : A5 b G σ) (h7 : fi G 7 = Int32.ofNat k) (hl : ln G 3 = n + 1 ∧ ln G 4 = n + 1 ∧ ln G 5 = n + 1 ∧ ln G 6 = n + 1) (hn : n ≤ 500) (hk : k ≤ n) (kd cd st en : Int32) : fX5_add_0 σ b kd cd st en = some (e5 b σ (adG G k kd cd st en)) := by
  unfold fX5_add_0
  obtain ⟨l3, l4, l5, l6⟩ := hl
  have A1 := A5_self (b := b) σ (sai G 3 (up (ai G 3) k kd))
  have A2 := A5_self (b := b) σ (sai (sai G 3 (up (ai G 3) k kd)) 4 (up (ai G 4) k cd))
  have A3 := A5_self (b := b) σ (sai (sai (sai G 3 (up (ai G 3) k kd)) 4 (up (ai G 4) k cd)) 5 (up (ai G 5) k st))
  have A4 := A5_self (b := b) σ (sai (sai (sai (sai G 3 (up (ai G 3) k kd)) 4 (up (ai G 4) k cd)) 5 (up (ai G 5) k st)) 6 (up (ai G 6) k en))
  have ee : ∀ A B : Gs, e5 b (e5 b σ A) B = e5 b σ B := fun A B => eX_eX _ _ _
  simp only [z5_g7 h1, z5_g3 h1, z5_n3 h1, z5_s3 h1, h7, l3, Option.bind_some, le_n (show n + 1 < 2147483648 by omega) (show k < 2147483648 by omega), if_neg (show ¬ n + 1 ≤ k by omega), ix_n (show k < 2147483648 by omega), decide_eq_true (show k < n + 1 by omega), if_true, c32 (show k < 2147483648 by omega)]
  simp only [z5_g4 A1, z5_g7 A1, z5_s4 A1, q_fi_sfi, q_fl_sfi, q_fr_sfi, q_ai_sfi, q_al_sfi, q_ar_sfi, q_ln_sfi, q_fi_sfl, q_fl_sfl, q_fr_sfl, q_ai_sfl, q_al_sfl, q_ar_sfl, q_ln_sfl, q_fi_sfr, q_fl_sfr, q_fr_sfr, q_ai_sfr, q_al_sfr, q_ar_sfr, q_ln_sfr, q_fi_sai, q_fl_sai, q_fr_sai, q_ai_sai, q_al_sai, q_ar_sai, q_ln_sai, q_fi_sal, q_fl_sal, q_fr_sal, q_ai_sal, q_al_sal, q_ar_sal, q_ln_sal, q_fi_sar, q_fl_sar, q_fr_sar, q_ai_sar, q_al_sar, q_ar_sar, q_ln_sar, reduceIte, Nat.reduceEqDiff, h7, l4, Option.bind_some, ix_n (show k < 2147483648 by omega), decide_eq_true (show k < n + 1 by omega), if_true, c32 (show k < 2147483648 by omega), ee]
  simp only [z5_g5 A2, z5_g7 A2, z5_s5 A2, q_fi_sfi, q_fl_sfi, q_fr_sfi, q_ai_sfi, q_al_sfi, q_ar_sfi, q_ln_sfi, q_fi_sfl, q_fl_sfl, q_fr_sfl, q_ai_sfl, q_al_sfl, q_ar_sfl, q_ln_sfl, q_fi_sfr, q_fl_sfr, q_fr_sfr, q_ai_sfr, q_al_sfr, q_ar_sfr, q_ln_sfr, q_fi_sai, q_fl_sai, q_fr_sai, q_ai_sai, q_al_sai, q_ar_sai, q_ln_sai, q_fi_sal, q_fl_sal, q_fr_sal, q_ai_sal, q_al_sal, q_ar_sal, q_ln_sal, q_fi_sar, q_fl_sar, q_fr_sar, q_ai_sar, q_al_sar, q_ar_sar, q_ln_sar, reduceIte, Nat.reduceEqDiff, h7, l5, Option.bind_some, ix_n (show k < 2147483648 by omega), decide_eq_true (show k < n + 1 by omega), if_true, c32 (show k < 2147483648 by omega), ee]
  simp only [z5_g6 A3, z5_g7 A3, z5_s6 A3, q_fi_sfi, q_fl_sfi, q_fr_sfi, q_ai_sfi, q_al_sfi, q_ar_sfi, q_ln_sfi, q_fi_sfl, q_fl_sfl, q_fr_sfl, q_ai_sfl, q_al_sfl, q_ar_sfl, q_ln_sfl, q_fi_sfr, q_fl_sfr, q_fr_sfr, q_ai_sfr, q_al_sfr, q_ar_sfr, q_ln_sfr, q_fi_sai, q_fl_sai, q_fr_sai, q_ai_sai, q_al_sai, q_ar_sai, q_ln_sai, q_fi_sal, q_fl_sal, q_fr_sal, q_ai_sal, q_al_sal, q_ar_sal, q_ln_sal, q_fi_sar, q_fl_sar, q_fr_sar, q_ai_sar, q_al_sar, q_ar_sar, q_ln_sar, reduceIte, Nat.reduceEqDiff, h7, l6, Option.bind_some, ix_n (show k < 2147483648 by omega), decide_eq_true (show k < n + 1 by omega), if_true, c32 (show k < 2147483648 by omega), ee]
  simp only [z5_g7 A4, z5_p7 A4, q_fi_sfi, q_fl_sfi, q_fr_sfi, q_ai_sfi, q_al_sfi, q_ar_sfi, q_ln_sfi, q_fi_sfl, q_fl_sfl, q_fr_sfl, q_ai_sfl, q_al_sfl, q_ar_sfl, q_ln_sfl, q_fi_sfr, q_fl_sfr, q_fr_sfr, q_ai_sfr, q_al_sfr, q_ar_sfr, q_ln_sfr, q_fi_sai, q_fl_sai, q_fr_sai, q_ai_sai, q_al_sai, q_ar_sai, q_ln_sai, q_fi_sal, q_fl_sal, q_fr_sal, q_ai_sal, q_al_sal, q_ar_sal, q_ln_sal, q_fi_sar, q_fl_sar, q_fr_sar, q_ai_sar, q_al_sar, q_ar_sar, q_ln_sar, reduceIte, Nat.reduceEqDiff, h7, Option.bind_some, suc32, ee]
  rfl
def TkB (G : Gs) (pr : Bool) (tx : Nat → Int) (n j : Nat) : Prop := ai G 5 j = Int32.ofNat (tS tx n j) ∧ ai G 6 j = Int32.ofNat (tE tx n (tS tx n j)) ∧ (tK pr tx n (tS tx n j) = 1 → cdW pr (va tx (tS tx n j) (tE tx n (tS tx n j) - tS tx n j)) (ai G 4 j)) ∧ (tK pr tx n (tS tx n j) = 2 → (ai G 4 j).toInt = nuv tx (tS tx n j) (tE tx n (tS tx n j) - tS tx n j)) ∧ (tK pr tx n (tS tx n j) = 3 → (ai G 4 j).toInt = tx (tS tx n j))
def TkA (G : Gs) (pr : Bool) (tx : Nat → Int) (n j : Nat) : Prop := ai G 3 j = Int32.ofNat (tK pr tx n (tS tx n j)) ∧ TkB G pr tx n j
theorem TkA_old {G' : Gs} {k j : Nat} {kd cd st en : Int32} (h : TkA G pr tx n j) (hj : j < k) (hG : G' = adG G k kd cd st en) : TkA G' pr tx n j := by
  have e : ∀ q, (q = 3 ∨ q = 4 ∨ q = 5 ∨ q = 6) → ai G' q j = ai G q j := by
    intro q hq
    rw [hG]
    rcases hq with rfl | rfl | rfl | rfl
    · show up (ai G 3) k kd j = _; unfold up; rw [if_neg (by omega)]
    · show up (ai G 4) k cd j = _; unfold up; rw [if_neg (by omega)]
    · show up (ai G 5) k st j = _; unfold up; rw [if_neg (by omega)]
    · show up (ai G 6) k en j = _; unfold up; rw [if_neg (by omega)]
  unfold TkA TkB at *
  rw [e 3 (by omega), e 4 (by omega), e 5 (by omega), e 6 (by omega)]
  exact h
def RdI (b : Nat) (G0 G : Gs) (pr : Bool) (tx : Nat → Int) (n k p : Nat) (σ : Hs) : Prop := RdT b G pr tx n σ ∧ Fr [3, 4, 5, 6, 7] G0 G ∧ p ≤ n ∧ fi G 7 = Int32.ofNat k ∧ nx (qB tx) n p = tS tx n k ∧ (∀ j, j < k → tS tx n j < n) ∧ ∀ j, j < k → TkA G pr tx n j
theorem RdT_ad {k : Nat} (h : RdT b G pr tx n σ) (kd cd st en : Int32) : RdT b (adG G k kd cd st en) pr tx n (e5 b σ (adG G k kd cd st en)) := by
  obtain ⟨h1, h2, h3, h4, h5, s, w, h6, h7, h8, h9⟩ := h
  exact ⟨A5_self _ _, h2, h3, h4, h5, s, w, h6, h7, h8.fr (fun q hq => e5_out _ _ (by omega)), h9.fr (fun q hq => e5_out _ _ (by omega))⟩
theorem RdI_ad {G0 : Gs} {k p : Nat} (h : RdI b G0 G pr tx n k p σ) (hp : p < n) (hs : tS tx n k = p) (cd : Int32) (hc1 : tK pr tx n p = 1 → cdW pr (va tx p (tE tx n p - p)) cd) (hc2 : tK pr tx n p = 2 → cd.toInt = nuv tx p (tE tx n p - p)) (hc3 : tK pr tx n p = 3 → cd.toInt = tx p) : RdI b G0 (adG G k (Int32.ofNat (tK pr tx n p)) cd (Int32.ofNat p) (Int32.ofNat (tE tx n p))) pr tx n (k + 1) (tE tx n p) (e5 b σ (adG G k (Int32.ofNat (tK pr tx n p)) cd (Int32.ofNat p) (Int32.ofNat (tE tx n p)))) := by
  obtain ⟨h1, h2, h3, h4, h5, h6, h7⟩ := h
  have hb := tE_b (tx := tx) hp
  refine ⟨RdT_ad h1 _ _ _ _, ?_, hb.2, rfl, by rw [← hs]; rfl, fun j hj => ?_, fun j hj => ?_⟩
  · exact ((((h2.sai (k := 3) (by decide) _).sai (k := 4) (by decide) _).sai (k := 5) (by decide) _).sai (k := 6) (by decide) _).sfi (k := 7) (by decide) _
  · by_cases e : j = k
    · rw [e, hs]; exact hp
    · exact h6 j (by omega)
  · by_cases e : j = k
    · subst e
      unfold TkA TkB
      rw [hs]
      exact ⟨up_same _ _ _, up_same _ _ _, up_same _ _ _, fun q => by rw [show ai (adG G j _ cd _ _) 4 j = cd from up_same _ _ _]; exact hc1 q, fun q => by rw [show ai (adG G j _ cd _ _) 4 j = cd from up_same _ _ _]; exact hc2 q, fun q => by rw [show ai (adG G j _ cd _ _) 4 j = cd from up_same _ _ _]; exact hc3 q⟩
    · exact TkA_old (h7 j (by omega)) (by omega) rfl
theorem RdI_k {G0 : Gs} {k p : Nat} (h : RdI b G0 G pr tx n k p σ) : k ≤ n := by
  have h1 := tS_ge k h.2.2.2.2.2.1
  have h2 := tS_le tx n k
  omega
theorem x_cutOne {G0 : Gs} {k p : Nat} (h : RdI b G0 G pr tx n k p σ) (hp : p < n) (htx : ∀ j, 0 ≤ tx j ∧ tx j ≤ 255) : ∃ G' k' p', fX5_cutOne_0 σ b (Int32.ofNat p) = some (Int32.ofNat p', e5 b σ G') ∧ p < p' ∧ RdI b G0 G' pr tx n k' p' (e5 b σ G') := by
  have hh := h
  obtain ⟨h1, h2, h3, h4, h5, h6, h7⟩ := h
  have hkn := RdI_k hh
  have hT := h1
  obtain ⟨a1, a2, a3, a4, a5, s, w, a6, a7, a8, a9⟩ := h1
  have hxp := a5 p hp
  have hb := htx p
  have g1 : gN σ b 7 1 = some s := by rw [z5_g1 a1, a6]
  have hself : e5 b σ G = σ := a1
  unfold fX5_cutOne_0
  simp only [z5_g0 a1, z5_l0 a1, a3, Option.bind_some, ix_n (show p < 2147483648 by omega), decide_eq_true hp, if_true, c32 (show p < 2147483648 by omega), x_isWithin, hxp, b2i_0, z5_C a1, suc32, show (97 : Int32).toInt = 97 from rfl, show (122 : Int32).toInt = 122 from rfl, show (48 : Int32).toInt = 48 from rfl, show (57 : Int32).toInt = 57 from rfl]
  have hbe := tE_b (tx := tx) hp
  by_cases c1 : isLt (tx p)
  · rw [if_neg (show ¬ ¬ (97 ≤ tx p ∧ tx p ≤ 122) from fun q => q c1)]
    have hs : tS tx n k = p := by rw [← h5]; exact nx_stop hp (decide_eq_false (by unfold isB; omega))
    obtain ⟨e1, e2⟩ := tE_L hp c1
    have hr := x_run hT (q := qL tx) (lo := 97) (hi := 122) (fun j => rfl) (show p ≤ n by omega)
    rw [← e1] at hr
    obtain ⟨c, q1, q2⟩ := x_plW hT hbe.1 hbe.2 (fun j hj => e2 j (by omega))
    have ek : tK pr tx n p = 1 := by unfold tK; rw [if_neg (by omega), if_pos c1]
    rw [hr, Option.bind_some, q1, Option.bind_some, x_add a1 h4 a4 a2 hkn, Option.bind_some]
    have hI := RdI_ad hh hp hs c (fun _ => q2) (fun q => absurd (ek.symm.trans q) (by decide)) (fun q => absurd (ek.symm.trans q) (by decide))
    rw [ek] at hI
    exact ⟨_, _, _, rfl, hbe.1, hI⟩
  rw [if_pos (show ¬ (97 ≤ tx p ∧ tx p ≤ 122) from c1)]
  by_cases c2 : isDg (tx p)
  · rw [if_neg (show ¬ ¬ (48 ≤ tx p ∧ tx p ≤ 57) from fun q => q c2)]
    have hs : tS tx n k = p := by rw [← h5]; exact nx_stop hp (decide_eq_false (by unfold isB; omega))
    obtain ⟨e1, e2⟩ := tE_D hp c1 c2
    have hr := x_run hT (q := qD tx) (lo := 48) (hi := 57) (fun j => rfl) (show p ≤ n by omega)
    rw [← e1] at hr
    rw [hr, Option.bind_some, sub_nn (show p ≤ tE tx n p by omega)]
    have ek : tK pr tx n p = if tE tx n p - p ≤ 6 then 2 else 4 := by unfold tK; rw [if_neg (by omega), if_neg c1, if_pos c2]
    have e6 : ((6 : Int32) < Int32.ofNat (tE tx n p - p)) = (6 < tE tx n p - p) := by rw [show (6 : Int32) = Int32.ofNat 6 from rfl]; exact propext (lt_n (by decide) (by omega))
    simp only [e6]
    unfold fX5_cutOne_95
    by_cases c3 : 6 < tE tx n p - p
    · rw [if_neg (by omega)] at ek
      rw [if_pos c3, if_pos rfl, z5_C a1, Option.bind_some, x_add a1 h4 a4 a2 hkn, Option.bind_some]
      have hI := RdI_ad hh hp hs (-1) (fun q => absurd (ek.symm.trans q) (by decide)) (fun q => absurd (ek.symm.trans q) (by decide)) (fun q => absurd (ek.symm.trans q) (by decide))
      rw [ek] at hI
      exact ⟨_, _, _, rfl, hbe.1, hI⟩
    · rw [if_pos (by omega)] at ek
      obtain ⟨c, q1, q2⟩ := x_numb hT (show p ≤ tE tx n p by omega) hbe.2 (by omega) (fun j hj => e2 j (by omega))
      rw [if_neg c3, if_neg (show ¬ (1 : Int32) = 0 by decide), z5_C a1, Option.bind_some, q1, Option.bind_some, Option.bind_some, x_add a1 h4 a4 a2 hkn, Option.bind_some]
      have hI := RdI_ad hh hp hs c (fun q => absurd (ek.symm.trans q) (by decide)) (fun _ => q2) (fun q => absurd (ek.symm.trans q) (by decide))
      rw [ek] at hI
      exact ⟨_, _, _, rfl, hbe.1, hI⟩
  rw [if_pos (show ¬ (48 ≤ tx p ∧ tx p ≤ 57) from c2)]
  have e32 : (ai G 0 p = 32) = (tx p = 32) := by rw [eq32, hxp]; rfl
  have e10 : (ai G 0 p = 10) = (tx p = 10) := by rw [eq32, hxp]; rfl
  simp only [e32, e10]
  have blk : isB (tx p) → ∃ G' k' p', some (Int32.ofNat (p + 1), σ) = some (Int32.ofNat p', e5 b σ G') ∧ p < p' ∧ RdI b G0 G' pr tx n k' p' (e5 b σ G') := by
    intro hB
    refine ⟨G, k, p + 1, by rw [hself], by omega, ?_⟩
    rw [hself]
    exact ⟨hT, h2, by omega, h4, (nx_step hp (decide_eq_true hB)).symm.trans h5, h6, h7⟩
  by_cases d1 : tx p = 32
  · rw [if_pos d1]; exact blk (Or.inr d1)
  rw [if_neg d1]
  by_cases d2 : tx p = 10
  · rw [if_pos d2]; exact blk (Or.inl d2)
  rw [if_neg d2, g1, Option.bind_some, s_C a8.o (wi_b pr).2.1, Option.bind_some]
  have hs : tS tx n k = p := by rw [← h5]; exact nx_stop hp (decide_eq_false (by unfold isB; omega))
  have ee : tE tx n p = p + 1 := by unfold tE; rw [if_neg (by omega), if_neg c1, if_neg c2]
  have ek : tK pr tx n p = if isSg pr (tx p) then 3 else 4 := by unfold tK; rw [if_neg (by omega), if_neg c1, if_neg c2]
  obtain ⟨c, hc, hc1, hc2⟩ := get32 (ai G 0 p) (by omega)
  have hcx : (c : Int) = tx p := by omega
  obtain ⟨r, r1, r2⟩ := s_index a8.o (c := c) (by omega)
  rw [← hc] at r1
  rw [hcx] at r2
  rw [r1, Option.bind_some]
  by_cases d3 : isSg pr (tx p)
  · rw [if_neg (fun q => (r2.mp q) d3), x_add a1 h4 a4 a2 hkn, Option.bind_some]
    rw [if_pos d3] at ek
    have hI := RdI_ad hh hp hs (ai G 0 p) (fun q => absurd (ek.symm.trans q) (by decide)) (fun q => absurd (ek.symm.trans q) (by decide)) (fun _ => hxp)
    rw [ek, ee] at hI
    exact ⟨_, _, _, rfl, by omega, hI⟩
  · rw [if_pos (r2.mpr d3), x_add a1 h4 a4 a2 hkn, Option.bind_some]
    rw [if_neg d3] at ek
    have hI := RdI_ad hh hp hs (ai G 0 p) (fun q => absurd (ek.symm.trans q) (by decide)) (fun q => absurd (ek.symm.trans q) (by decide)) (fun q => absurd (ek.symm.trans q) (by decide))
    rw [ek, ee] at hI
    exact ⟨_, _, _, rfl, by omega, hI⟩
end
