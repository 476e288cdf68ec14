theorem eX_in {ci : Nat} {ks : Nat → Nat} {as : List (Nat × Nat × Nat)} {b a : Nat} (h : okA as = true) (hd : dX as b a) (σ σ' : Hs) (G : Gs) : (eX ci ks as b σ G).2.1 a = (eX ci ks as b σ' G).2.1 a := by
  by_cases h1 : a = b
  · subst h1; rw [eX_o, eX_o]
  · rcases hd with q | ⟨p, hp, q⟩
    · exact absurd q h1
    · rw [q, eX_a h hp, eX_a h hp]
section
variable (b : Nat) (σ0 : Hs)
def st6 (G H : Gs) : Hs := e6 (b + 6) (e5 b σ0 G) H
end
section
variable {b : Nat} {σ0 : Hs} {G H : Gs}
theorem st_A5 : A5 b G (st6 b σ0 G H) := A5_fr (A5_self σ0 G) (fun a ha => e6_out _ _ (by omega))
theorem st_A6 : A6 (b + 6) H (st6 b σ0 G H) := A6_self _ _
theorem st_w6 (H' : Gs) : e6 (b + 6) (st6 b σ0 G H) H' = st6 b σ0 G H' := eX_eX _ _ _
theorem st_w5 (G' : Gs) : e5 b (st6 b σ0 G H) G' = st6 b σ0 G' H := by
  refine Prod.ext rfl (Prod.ext (funext fun a => ?_) rfl)
  by_cases c : a = b ∨ a = b + 1 ∨ a = b + 2 ∨ a = b + 3 ∨ a = b + 4 ∨ a = b + 5
  · rw [show (st6 b σ0 G' H).2.1 a = (e5 b σ0 G').2.1 a from e6_out _ _ (by omega)]
    exact eX_in ok5 (d5_iff.mpr c) _ _ _
  · rw [e5_out _ _ c]
    by_cases d : a = b + 6 ∨ a = b + 6 + 1 ∨ a = b + 6 + 2 ∨ a = b + 6 + 3 ∨ a = b + 6 + 4 ∨ a = b + 6 + 5 ∨ a = b + 6 + 6 ∨ a = b + 6 + 7 ∨ a = b + 6 + 8
    · exact eX_in ok6 (d6_iff.mpr d) _ _ _
    · rw [show (st6 b σ0 G H).2.1 a = (e5 b σ0 G).2.1 a from e6_out _ _ d, show (st6 b σ0 G' H).2.1 a = (e5 b σ0 G').2.1 a from e6_out _ _ d, e5_out _ _ c, e5_out _ _ c]
end
set_option maxRecDepth 100000 in
theorem wlen_R : ∀ w, w < 20 → wEnd false w - (PW false (wEnd false w)).2 ≤ 8 ∧ 0 < vW false w := by decide
set_option maxRecDepth 100000 in
theorem wlen_P : ∀ w, w < 8 → wEnd true w - (PW true (wEnd true w)).2 ≤ 8 ∧ 0 < vW true w := by decide
theorem wlen (pr : Bool) {w : Nat} (hw : w < nW pr) : wEnd pr w - (PW pr (wEnd pr w)).2 ≤ 8 ∧ 0 < vW pr w := by
  cases pr with
  | false => exact wlen_R w hw
  | true => exact wlen_P w hw
def isW (pr : Bool) (tx : Nat → Int) (n a w : Nat) : Prop := kA pr tx n a = 1 ∧ vA tx n a = vW pr w
theorem isW_len {pr : Bool} {tx : Nat → Int} {n a w : Nat} (hw : w < nW pr) (hL : ∀ j, j < lA tx n a → isLt (tx (tS tx n a + j))) (h : vA tx n a = vW pr w) : lA tx n a ≤ 8 := by
  obtain ⟨e1, e2, e3⟩ := wx_W pr hw
  obtain ⟨f1, f2, f3, f4⟩ := wf_W pr e2 e1
  rw [e3, ← h] at f1
  have := (va_inj _ _ f4 hL f1).1
  have := (wlen pr hw).1
  omega
section
variable {pr : Bool} {tx : Nat → Int} {n K a : Nat} {G H : Gs} {b : Nat} {σ0 : Hs} {D mk : Nat} {nt : Nat → Nat}
def KWd (tx : Nat → Int) (n a : Nat) : Prop := ∃ w, w < 8 ∧ isW false tx n a w
def VRb (tx : Nat → Int) (n a : Nat) : Prop := ∃ w, 8 ≤ w ∧ w ≤ 18 ∧ isW false tx n a w
def Few (tx : Nat → Int) (n a : Nat) : Prop := isW false tx n a 6 ∨ isW false tx n a 7
def Sgn (tx : Nat → Int) (n a : Nat) (c : Int) : Prop := kA false tx n a = 3 ∧ sA tx n a = c
def CBS (tx : Nat → Int) (n a : Nat) : Prop := kA false tx n a = 2 ∨ Sgn tx n a 40 ∨ (kA false tx n a = 1 ∧ (Few tx n a ∨ ¬ KWd tx n a))
def HR (b K D : Nat) (nt : Nat → Nat) (H : Gs) (mk : Nat) : Prop := fr H 0 = some b ∧ (ln H 2 = K + 1 ∧ ln H 3 = K + 1 ∧ ln H 7 = 10) ∧ fi H 4 = Int32.ofNat mk ∧ mk ≤ K + 1 ∧ fi H 5 = Int32.ofNat D ∧ D ≤ 10 ∧ ∀ d, d < D → ai H 7 d = Int32.ofNat (nt d)
theorem c_g0 (h : fr H 0 = some b) : gN (st6 b σ0 G H) (b + 6) 8 0 = some b := by rw [z6_g0 st_A6, h]
theorem cbn {p : Prop} (h : p) : ¬ cb p = 0 := by rw [cb_t h]; decide
theorem cbk {p : Prop} [Decidable p] : b2i p = cb p := cb_b
theorem cd_in {v : Int} {c : Int32} (h : cdW false v c) (lo hi : Nat) (hh : hi < 20) : ((lo : Int) ≤ c.toInt ∧ c.toInt ≤ (hi : Int)) ↔ ∃ w, lo ≤ w ∧ w ≤ hi ∧ v = vW false w := by
  rcases h with ⟨h1, h2⟩ | ⟨u, h1, h2, h3⟩
  · rw [h1, show (-1 : Int32).toInt = -1 from rfl]
    constructor
    · intro q; omega
    · rintro ⟨w, w1, w2, w3⟩; exact absurd w3 (h2 w (by show w < 20; omega))
  · have hu : u < 20 := h1
    rw [h2, n32 (by omega)]
    constructor
    · intro q; exact ⟨u, by omega, by omega, h3⟩
    · rintro ⟨w, w1, w2, w3⟩
      have := vW_in false h1 (show w < nW false from by show w < 20; omega) (h3.symm.trans w3)
      omega
theorem c_isKey (hG : AlG G false tx n K a) (h0 : fr H 0 = some b) : fX6_isKeyWord_0 (st6 b σ0 G H) (b + 6) = some (cb (KWd tx n a)) := by
  unfold fX6_isKeyWord_0
  simp only [c_g0 h0, z5_C st_A5, x5_isAnyWord st_A5 hG, x5_code st_A5 hG.1 hG.2.1 hG.2.2.1, x_isWithin, Option.bind_some, b2i_0, bb_0, bb_1]
  by_cases c : kA false tx n a = 1
  · rw [if_neg (fun q => q c)]
    have hcd := cd_in ((hG.1.2.2.2.2.2 a hG.2.1).2.2.1 c) 0 7 (by decide)
    have e : ((0 : Int32).toInt ≤ (ai G 4 a).toInt ∧ (ai G 4 a).toInt ≤ (7 : Int32).toInt) ↔ KWd tx n a := by
      refine Iff.trans hcd ⟨?_, ?_⟩
      · rintro ⟨w, _, w2, w3⟩; exact ⟨w, by omega, c, w3⟩
      · rintro ⟨w, w1, w2⟩; exact ⟨w, by omega, by omega, w2.2⟩
    by_cases d : KWd tx n a
    · rw [if_neg (fun q => q (e.mpr d)), cb_t d]
    · rw [if_pos (fun q => d (e.mp q)), cb_f d]
  · rw [if_pos c, cb_f]; rintro ⟨w, _, w2⟩; exact c w2.1
theorem c_isVar (hG : AlG G false tx n K a) (h0 : fr H 0 = some b) : fX6_isVariable_0 (st6 b σ0 G H) (b + 6) = some (cb (VRb tx n a)) := by
  unfold fX6_isVariable_0
  simp only [c_g0 h0, z5_C st_A5, x5_isAnyWord st_A5 hG, x5_code st_A5 hG.1 hG.2.1 hG.2.2.1, x_isWithin, Option.bind_some, b2i_0, bb_0, bb_1]
  by_cases c : kA false tx n a = 1
  · rw [if_neg (fun q => q c)]
    have hcd := cd_in ((hG.1.2.2.2.2.2 a hG.2.1).2.2.1 c) 8 18 (by decide)
    have e : ((8 : Int32).toInt ≤ (ai G 4 a).toInt ∧ (ai G 4 a).toInt ≤ (18 : Int32).toInt) ↔ VRb tx n a := by
      refine Iff.trans hcd ⟨?_, ?_⟩
      · rintro ⟨w, w1, w2, w3⟩; exact ⟨w, w1, w2, c, w3⟩
      · rintro ⟨w, w1, w2, w3⟩; exact ⟨w, w1, w2, w3.2⟩
    by_cases d : VRb tx n a
    · rw [if_neg (fun q => q (e.mpr d)), cb_t d]
    · rw [if_pos (fun q => d (e.mp q)), cb_f d]
  · rw [if_pos c, cb_f]; rintro ⟨w, _, _, w2⟩; exact c w2.1
theorem c_isFew (hG : AlG G false tx n K a) (h0 : fr H 0 = some b) : fX6_isFew_0 (st6 b σ0 G H) (b + 6) = some (cb (Few tx n a)) := by
  have h6 := x5_isWord (st_A5 (b := b) (σ0 := σ0) (G := G) (H := H)) hG (w := 6) (by decide)
  have h7 := x5_isWord (st_A5 (b := b) (σ0 := σ0) (G := G) (H := H)) hG (w := 7) (by decide)
  unfold fX6_isFew_0
  simp only [c_g0 h0, z5_C st_A5, show (6 : Int32) = Int32.ofNat 6 from rfl, show (7 : Int32) = Int32.ofNat 7 from rfl, h6, h7, Option.bind_some, b2i_0, bb_0, bb_1]
  by_cases c : kA false tx n a = 1 ∧ vA tx n a = vW false 6
  · rw [if_neg (fun q => q c), cb_t (show Few tx n a from Or.inl c)]
  · rw [if_pos c]
    by_cases d : kA false tx n a = 1 ∧ vA tx n a = vW false 7
    · rw [if_neg (fun q => q d), cb_t (show Few tx n a from Or.inr d)]
    · rw [if_pos d, cb_f (show ¬ Few tx n a from fun q => q.elim c d)]
theorem c_canBegin (hG : AlG G false tx n K a) (h0 : fr H 0 = some b) : fX6_canBeginSum_0 (st6 b σ0 G H) (b + 6) = some (cb (CBS tx n a)) := by
  have h29 : ∀ y : Int32, (y = 0 ∧ ¬ (kA false tx n a = 1 ∧ (Few tx n a ∨ ¬ KWd tx n a))) ∨ (y ≠ 0 ∧ (kA false tx n a = 1 ∧ (Few tx n a ∨ ¬ KWd tx n a))) → fX6_canBeginSum_29 (st6 b σ0 G H) (b + 6) y = some (cb (CBS tx n a)) := by
    intro y hy
    unfold fX6_canBeginSum_29
    simp only [c_g0 h0, z5_C st_A5, x5_isNumber st_A5 hG, x5_isSign st_A5 hG, Option.bind_some, b2i_0, bb_0, bb_1]
    rcases hy with ⟨y0, hn⟩ | ⟨y0, hn⟩
    · rw [if_pos y0]
      by_cases c : kA false tx n a = 2
      · rw [if_neg (fun q => q c), cb_t (show CBS tx n a from Or.inl c)]
      · rw [if_pos c]
        by_cases d : kA false tx n a = 3 ∧ sA tx n a = (40 : Int32).toInt
        · rw [if_neg (fun q => q d), cb_t (show CBS tx n a from Or.inr (Or.inl d))]
        · rw [if_pos d, cb_f]
          rintro (q | q | q)
          · exact c q
          · exact d q
          · exact hn q
    · rw [if_neg y0, cb_t (show CBS tx n a from Or.inr (Or.inr hn))]
  unfold fX6_canBeginSum_0
  simp only [c_g0 h0, z5_C st_A5, z6_C st_A6, x5_isAnyWord st_A5 hG, c_isFew hG h0, c_isKey hG h0, Option.bind_some, b2i_0]
  by_cases c : kA false tx n a = 1
  · rw [if_neg (fun q => q c)]
    by_cases d : Few tx n a
    · rw [if_neg (cbn d)]; exact h29 1 (Or.inr ⟨by decide, c, Or.inl d⟩)
    · rw [if_pos (cb_f d)]
      by_cases e : KWd tx n a
      · rw [if_neg (cbn e)]; exact h29 0 (Or.inl ⟨rfl, fun q => q.2.elim d (fun r => r e)⟩)
      · rw [if_pos (cb_f e)]; exact h29 1 (Or.inr ⟨by decide, c, Or.inr e⟩)
  · rw [if_pos c]; exact h29 0 (Or.inl ⟨rfl, fun q => c q.1⟩)
def NF (tx : Nat → Int) (n K D : Nat) (nt : Nat → Nat) : Prop := ∀ d, d < D → (nt d ≤ K ∧ kA false tx n (nt d) = 1 ∧ lA tx n (nt d) ≤ 8) ∧ ¬ KWd tx n (nt d)
def Nm (tx : Nat → Int) (n D : Nat) (nt : Nat → Nat) (a : Nat) (r : Int32) : Prop := (r = -1 ∧ ∀ d, d < D → vA tx n (nt d) ≠ vA tx n a) ∨ ∃ d, d < D ∧ r = Int32.ofNat d ∧ vA tx n (nt d) = vA tx n a ∧ ∀ e, e < d → vA tx n (nt e) ≠ vA tx n a
theorem Nm_un {r r' : Int32} (h : Nm tx n D nt a r) (h' : Nm tx n D nt a r') : r = r' := by
  rcases h with ⟨h1, h2⟩ | ⟨d, h1, h2, h3, h4⟩ <;> rcases h' with ⟨g1, g2⟩ | ⟨e, g1, g2, g3, g4⟩
  · rw [h1, g1]
  · exact absurd g3 (h2 e g1)
  · exact absurd h3 (g2 d h1)
  · have : d = e := by
      rcases Nat.lt_trichotomy d e with q | q | q
      · exact absurd h3 (g4 d q)
      · exact q
      · exact absurd g3 (h4 e q)
    rw [h2, g2, this]
theorem c_place (hG : AlG G false tx n K a) (hH : HR b K D nt H mk) (hN : NF tx n K D nt) (hk : kA false tx n a = 1) : ∃ r, fX6_placeOfName_0 (st6 b σ0 G H) (b + 6) = some r ∧ Nm tx n D nt a r := by
  obtain ⟨h0, ⟨h1, h2, h3⟩, h4, h5, h6, h7, h8⟩ := hH
  unfold fX6_placeOfName_0 fX6_placeOfName_2
  refine lp_q D (fun d z => z = (b + 6, Int32.ofNat d) ∧ ∀ e, e < d → vA tx n (nt e) ≠ vA tx n a) (fun X => ∃ r, X = some r ∧ Nm tx n D nt a r) ?_ ?_ fu 0 _ (by omega) ⟨rfl, fun e he => absurd he (by omega)⟩ (by unfold fu; omega)
  · rintro L d _ hd ⟨rfl, hq⟩
    obtain ⟨n1, n2, n3⟩ := (hN d hd).1
    have hs := x5_same (st_A5 (b := b) (σ0 := σ0) (G := G) (H := H)) hG n1 n2 hk
    simp only [fbX6_placeOfName_2, z6_g5 st_A6, h6, Option.bind_some, le_n (show D < 2147483648 by omega) (show d < 2147483648 by omega), if_neg (show ¬ D ≤ d by omega), c_g0 h0, z6_g7 st_A6, z6_l7 st_A6, h3, ix_n (show d < 2147483648 by omega), decide_eq_true (show d < 10 by omega), if_true, c32 (show d < 2147483648 by omega), h8 d hd, z5_C st_A5, hs, b2i_0, suc32]
    by_cases c : vA tx n (nt d) = vA tx n a
    · right
      rw [if_neg (fun q => q c)]
      exact ⟨_, rfl, Or.inr ⟨d, hd, rfl, c, hq⟩⟩
    · left
      rw [if_pos c]
      refine ⟨_, ⟨rfl, fun e he => ?_⟩, rfl⟩
      by_cases q : e = d
      · rw [q]; exact c
      · exact hq e (by omega)
  · rintro L _ ⟨rfl, hq⟩
    simp only [fbX6_placeOfName_2, z6_g5 st_A6, h6, Option.bind_some, Int32.le_refl, if_true]
    exact ⟨_, rfl, Or.inl ⟨rfl, hq⟩⟩
def emH (H : Gs) (mk : Nat) (op v : Int32) : Gs := sfi (sai (sai H 2 (up (ai H 2) mk op)) 3 (up (ai H 3) mk v)) 4 (Int32.ofNat (mk + 1))
theorem c_emit (hH : HR b K D nt H mk) (hK : K ≤ 500) (hm : mk < K + 1) (op v : Int32) : fX6_emit_0 (st6 b σ0 G H) (b + 6) op v = some (st6 b σ0 G (emH H mk op v)) ∧ HR b K D nt (emH H mk op v) (mk + 1) ∧ Fr [2, 3, 4] H (emH H mk op v) := by
  obtain ⟨h0, ⟨h1, h2, h3⟩, h4, h5, h6, h7, h8⟩ := hH
  refine ⟨?_, ⟨h0, ⟨h1, h2, h3⟩, rfl, by omega, h6, h7, h8⟩, (((Fr.refl _ H).sai (k := 2) (by decide) _).sai (k := 3) (by decide) _).sfi (k := 4) (by decide) _⟩
  unfold fX6_emit_0
  have A1 : A6 (b + 6) (sai H 2 (up (ai H 2) mk op)) (st6 b σ0 G (sai H 2 (up (ai H 2) mk op))) := st_A6
  have A2 : A6 (b + 6) (sai (sai H 2 (up (ai H 2) mk op)) 3 (up (ai H 3) mk v)) (st6 b σ0 G (sai (sai H 2 (up (ai H 2) mk op)) 3 (up (ai H 3) mk v))) := st_A6
  simp only [z6_g4 st_A6, z6_g2 st_A6, z6_n2 st_A6, z6_s2 st_A6, h4, h1, Option.bind_some, le_n (show K + 1 < 2147483648 by omega) (show mk < 2147483648 by omega), if_neg (show ¬ K + 1 ≤ mk by omega), ix_n (show mk < 2147483648 by omega), decide_eq_true hm, if_true, c32 (show mk < 2147483648 by omega), st_w6]
  simp only [z6_g3 A1, z6_g4 A1, z6_s3 A1, q_fi_sfi, q_fl_sfi, q_fr_sfi, q_ai_sfi, q_al_sfi, q_ar_sfi, q_ln_sfi, q_fi_sfl, q_fl_sfl, q_fr_sfl, q_ai_sfl, q_al_sfl, q_ar_sfl, q_ln_sfl, q_fi_sfr, q_fl_sfr, q_fr_sfr, q_ai_sfr, q_al_sfr, q_ar_sfr, q_ln_sfr, q_fi_sai, q_fl_sai, q_fr_sai, q_ai_sai, q_al_sai, q_ar_sai, q_ln_sai, q_fi_sal, q_fl_sal, q_fr_sal, q_ai_sal, q_al_sal, q_ar_sal, q_ln_sal, q_fi_sar, q_fl_sar, q_fr_sar, q_ai_sar, q_al_sar, q_ar_sar, q_ln_sar, reduceIte, Nat.reduceEqDiff, h4, h2, Option.bind_some, ix_n (show mk < 2147483648 by omega), decide_eq_true hm, if_true, c32 (show mk < 2147483648 by omega), st_w6]
  simp only [z6_g4 A2, z6_p4 A2, q_fi_sfi, q_fl_sfi, q_fr_sfi, q_ai_sfi, q_al_sfi, q_ar_sfi, q_ln_sfi, q_fi_sfl, q_fl_sfl, q_fr_sfl, q_ai_sfl, q_al_sfl, q_ar_sfl, q_ln_sfl, q_fi_sfr, q_fl_sfr, q_fr_sfr, q_ai_sfr, q_al_sfr, q_ar_sfr, q_ln_sfr, q_fi_sai, q_fl_sai, q_fr_sai, q_ai_sai, q_al_sai, q_ar_sai, q_ln_sai, q_fi_sal, q_fl_sal, q_fr_sal, q_ai_sal, q_al_sal, q_ar_sal, q_ln_sal, q_fi_sar, q_fl_sar, q_fr_sar, q_ai_sar, q_al_sar, q_ar_sar, q_ln_sar, reduceIte, Nat.reduceEqDiff, h4, Option.bind_some, suc32, st_w6]
  rfl
theorem c_emitD (hH : HR b K D nt H mk) (hK : K ≤ 500) (op v : Int32) : ∃ H' mk', fX6_emit_0 (st6 b σ0 G H) (b + 6) op v = some (st6 b σ0 G H') ∧ HR b K D nt H' mk' ∧ Fr [2, 3, 4] H H' := by
  by_cases c : mk < K + 1
  · obtain ⟨e1, e2, e3⟩ := c_emit (G := G) (σ0 := σ0) hH hK c op v
    exact ⟨_, _, e1, e2, e3⟩
  · refine ⟨H, mk, ?_, hH, Fr.refl _ _⟩
    obtain ⟨h0, ⟨h1, h2, h3⟩, h4, h5, h6, h7, h8⟩ := hH
    unfold fX6_emit_0
    simp only [z6_g4 st_A6, z6_g2 st_A6, z6_n2 st_A6, h4, h1, Option.bind_some, le_n (show K + 1 < 2147483648 by omega) (show mk < 2147483648 by omega), if_pos (show K + 1 ≤ mk by omega)]
end
