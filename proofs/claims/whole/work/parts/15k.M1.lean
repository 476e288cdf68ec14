def RUk : List Nat := [65, 66, 67, 78, 92, 93, 105]
def Ev7 (y ap ec : Nat) (B : Gs → Hs) (Hp : Gs) (ok : Gs → Prop) (V : Int32 → Int64) (m : Nat) (ρ : Hs) (hd : Gs → Prop) (f : Nat) (k72 k73 k74 : Nat → Int32) : Prop :=
  (∀ T Gr, A4 ap Hp (e7 y (B T) Gr)) ∧ (∀ T Gr, isC (e7 y (B T) Gr) ec 3 = some ()) ∧
  (∀ T Gr t, ok T → (-1000 ≤ t.toInt ∧ t.toInt ≤ 900010000) → ∃ T', fX1_shownAt_0 (e7 y (B T) Gr) ec t = some (V t, e7 y (B T') Gr) ∧ ok T') ∧
  (∀ R1 R2, hd R1 → Fr RUk R1 R2 → hd R2) ∧
  (∀ R1, hd R1 → ∃ c, fi R1 63 = Int32.ofNat c ∧ c < 12 ∧ ∀ t : Int32, (-1000 ≤ t.toInt ∧ t.toInt ≤ 900010000) → ∃ R2, fX12_showsOf_0 (eR m ρ R1) m (ai R1 13 c) t = some (V t, eR m ρ R2) ∧ Fr [92, 93] R1 R2) ∧
  (∀ R1, hd R1 → ai R1 72 = k72 ∧ ai R1 73 = k73 ∧ ai R1 74 = k74 ∧ fi R1 64 = Int32.ofNat f) ∧ f ≤ 899990000
def sG (ap ec f : Nat) (Gr : Gs) : Prop := fr Gr 0 = some ap ∧ fr Gr 1 = some ec ∧ fi Gr 2 = Int32.ofNat f ∧ ln Gr 8 = 40 ∧ ln Gr 9 = 3
def Ma (ap ec f : Nat) (hd : Gs → Prop) (V : Int32 → Int64) (Gr R1 : Gs) (e kp : Nat) : Prop := sG ap ec f Gr ∧ hd R1 ∧ (fi Gr 3 = Int32.ofNat (f + e) ∧ fi R1 65 = Int32.ofNat (f + e) ∧ e ≤ 5000) ∧ fl Gr 4 = V (Int32.ofNat (f + e)) ∧ fi Gr 6 = fi R1 66 ∧ (fi Gr 7 = Int32.ofNat kp ∧ fi R1 67 = Int32.ofNat kp) ∧ ∀ k, k < 40 → k < kp → al Gr 8 k = al R1 78 k
def Al7 (Gr R1 : Gs) : Prop := fi Gr 5 = 0 ∧ fi R1 105 = -1
def De7 (Gr R1 : Gs) : Prop := ∃ o, (o = 1 ∨ o = 2) ∧ fi Gr 5 = Int32.ofNat o ∧ fi R1 105 = Int32.ofNat o
def Rz (y ap ec : Nat) (B : Gs → Hs) (ok : Gs → Prop) (V : Int32 → Int64) (m : Nat) (ρ : Hs) (hd : Gs → Prop) (f : Nat) (Gr : Gs) (kp : Nat) (X Y : Option Hs) : Prop := ∃ T' Gr' R' e' kp', X = some (e7 y (B T') Gr') ∧ Y = some (eR m ρ R') ∧ ok T' ∧ Ma ap ec f hd V Gr' R' e' kp' ∧ (Al7 Gr' R' ∨ De7 Gr' R') ∧ kp' ≤ kp + 1 ∧ Fr [3, 4, 5, 6, 7, 8] Gr Gr'
theorem De7_n {Gr R1 : Gs} (h : De7 Gr R1) : ¬ fi Gr 5 = 0 ∧ ¬ fi R1 105 = -1 := by
  obtain ⟨o, ho, h1, h2⟩ := h
  rw [h1, h2]
  rcases ho with rfl | rfl <;> exact ⟨by decide, by decide⟩
section
variable {y ap ec : Nat} {B : Gs → Hs} {Hp : Gs} {ok : Gs → Prop} {V : Int32 → Int64} {m : Nat} {ρ : Hs} {hd : Gs → Prop} {f : Nat} {k72 k73 k74 : Nat → Int32} {T Gr R1 : Gs} {e kp : Nat}
theorem Ma.fr (E : Ev7 y ap ec B Hp ok V m ρ hd f k72 k73 k74) (h : Ma ap ec f hd V Gr R1 e kp) {R2 : Gs} (hF : Fr [92, 93] R1 R2) : Ma ap ec f hd V Gr R2 e kp := by
  obtain ⟨h1, h2, ⟨h3, h4, h5⟩, h6, h7, ⟨h8, h9⟩, h10⟩ := h
  exact ⟨h1, E.2.2.2.1 R1 R2 h2 (hF.mono (by decide)), ⟨h3, (hF.i 65 (by decide)).trans h4, h5⟩, h6, by rw [hF.i 66 (by decide)]; exact h7, ⟨h8, (hF.i 67 (by decide)).trans h9⟩, by rw [hF.al 78 (by decide)]; exact h10⟩
theorem Al7.fr (h : Al7 Gr R1) {R2 : Gs} (hF : Fr [92, 93] R1 R2) : Al7 Gr R2 := ⟨h.1, (hF.i 105 (by decide)).trans h.2⟩
theorem w_see (E : Ev7 y ap ec B Hp ok V m ρ hd f k72 k73 k74) (h : Ma ap ec f hd V Gr R1 e kp) : ∃ R2, Fr [92, 93] R1 R2 ∧ ∀ {β : Type} (K : Int64 × Hs → Option β), ((gN (eR m ρ R1) m 14 13).bind fun vq1 => (gI (eR m ρ R1) m 14 63).bind fun vq2 => (ldI 0 (eR m ρ R1) vq1 vq2).bind fun vq3 => (gI (eR m ρ R1) m 14 65).bind fun vq4 => (isC (eR m ρ R1) m 14).bind fun iq5 => (fX12_showsOf_0 (eR m ρ R1) m vq3 vq4).bind K) = K (V (Int32.ofNat (f + e)), eR m ρ R2) := by
  obtain ⟨h1, h2, ⟨h3, h4, h5⟩, -⟩ := h
  obtain ⟨c, c1, c2, c3⟩ := E.2.2.2.2.1 R1 h2
  have hf := E.2.2.2.2.2.2
  obtain ⟨R2, q1, q2⟩ := c3 (Int32.ofNat (f + e)) (by rw [n32 (by omega)]; omega)
  refine ⟨R2, q2, fun K => ?_⟩
  simp only [RN_13, RG_63, RG_65, Rld_13, RisC, c1, h4, Option.bind_some, ix_n (show c < 2147483648 by omega), decide_eq_true c2, if_true, c32 (show c < 2147483648 by omega), q1]
theorem w_go (E : Ev7 y ap ec B Hp ok V m ρ hd f k72 k73 k74) (h : Ma ap ec f hd V Gr R1 e kp) (hA : Al7 Gr R1) (hT : ok T) : ∃ T' Gr' R' e', fX7_goOn_0 (e7 y (B T) Gr) y = some (e7 y (B T') Gr') ∧ fX12_goesOn_0 (eR m ρ R1) m = some (eR m ρ R') ∧ ok T' ∧ Ma ap ec f hd V Gr' R' e' kp ∧ ((Al7 Gr' R' ∧ e' = e + 1) ∨ De7 Gr' R') ∧ Fr [3, 4, 5] Gr Gr' := by
  obtain ⟨⟨g0, g1, g2, g8, g9⟩, h2, ⟨h3, h4, h5⟩, h6, h7, ⟨h8, h9⟩, h10⟩ := h
  have hf := E.2.2.2.2.2.2
  have h64 := (E.2.2.2.2.2.1 R1 h2).2.2.2
  have esub : Int32.ofNat (f + e) - Int32.ofNat f = Int32.ofNat e := sub_n f e
  have e5 : (Int32.ofNat e < 5000) = (e < 5000) := propext (lt_n (b := 5000) (by omega) (by decide))
  have er : (Int32.ofNat (f + e) = Int32.ofNat f + 5000) = (e = 5000) := by
    rw [show (5000 : Int32) = Int32.ofNat 5000 from rfl, add_n, eqn (by omega) (by omega)]
    exact propext ⟨fun q => by omega, fun q => by omega⟩
  unfold fX7_goOn_0 fX12_goesOn_0
  simp only [y7_g3, y7_g2, h3, g2, esub, e5, Option.bind_some, RG_65, RG_64, h4, h64, er]
  by_cases c : e < 5000
  · rw [if_pos c, if_neg (show ¬ e = 5000 by omega)]
    obtain ⟨T', t1, t2⟩ := E.2.2.1 T (sfi Gr 3 (Int32.ofNat (f + e + 1))) (Int32.ofNat (f + e + 1)) hT (by rw [n32 (by omega)]; omega)
    have hC := E.2.1 T (sfi Gr 3 (Int32.ofNat (f + e + 1)))
    have gg : fr (sfi Gr 3 (Int32.ofNat (f + e + 1))) 1 = some ec := g1
    have gi : fi (sfi Gr 3 (Int32.ofNat (f + e + 1))) 3 = Int32.ofNat (f + e + 1) := rfl
    simp only [y7_p3, suc32, Option.bind_some, y7_g1, y7_g3, gg, gi, hC, t1, y7_p4, RP_65]
    refine ⟨T', _, _, e + 1, rfl, rfl, t2, ⟨⟨g0, g1, g2, g8, g9⟩, E.2.2.2.1 R1 _ h2 ((Fr.refl _ R1).sfi (k := 65) (by decide) _), ⟨rfl, rfl, by omega⟩, rfl, h7, ⟨h8, h9⟩, h10⟩, Or.inl ⟨⟨hA.1, hA.2⟩, rfl⟩, ((Fr.refl _ Gr).sfi (k := 3) (by decide) _).sfl (k := 4) (by decide) _⟩
  · rw [if_neg c, if_pos (show e = 5000 by omega)]
    simp only [y7_p5, RP_105, Option.bind_some]
    exact ⟨T, _, _, e, rfl, rfl, hT, ⟨⟨g0, g1, g2, g8, g9⟩, E.2.2.2.1 R1 _ h2 ((Fr.refl _ R1).sfi (k := 105) (by decide) _), ⟨h3, h4, h5⟩, h6, h7, ⟨h8, h9⟩, h10⟩, Or.inr ⟨2, Or.inr rfl, rfl, rfl⟩, (Fr.refl _ Gr).sfi (k := 5) (by decide) _⟩
theorem w_keep (E : Ev7 y ap ec B Hp ok V m ρ hd f k72 k73 k74) (h : Ma ap ec f hd V Gr R1 e kp) (hA : Al7 Gr R1) (hT : ok T) (hk : kp < 1000000) (v : Int64) : Rz y ap ec B ok V m ρ hd f Gr kp (fX7_keep_0 (e7 y (B T) Gr) y v) (fX12_keep_0 (eR m ρ R1) m v) := by
  obtain ⟨⟨g0, g1, g2, g8, g9⟩, h2, ⟨h3, h4, h5⟩, h6, h7, ⟨h8, h9⟩, h10⟩ := h
  have e40 : ((40 : Int32) ≤ Int32.ofNat kp) = (40 ≤ kp) := propext (le_n (a := 40) (by decide) (by omega))
  unfold fX7_keep_0 fX12_keep_0
  simp only [y7_g7, h8, e40, Option.bind_some, RG_67, h9]
  by_cases c : 40 ≤ kp
  · rw [if_pos c, if_pos c]
    simp only [y7_p7, RP_67, suc32, Option.bind_some]
    refine ⟨T, _, _, e, kp + 1, rfl, rfl, hT, ⟨⟨g0, g1, g2, g8, g9⟩, E.2.2.2.1 R1 _ h2 ((Fr.refl _ R1).sfi (k := 67) (by decide) _), ⟨h3, h4, h5⟩, h6, h7, ⟨rfl, rfl⟩, fun k k1 _ => h10 k k1 (by omega)⟩, Or.inl ⟨hA.1, hA.2⟩, by omega, (Fr.refl _ Gr).sfi (k := 7) (by decide) _⟩
  · rw [if_neg c, if_neg c]
    have hi : ix (Int32.ofNat kp) 40 = true := by rw [ix_n (by omega)]; exact decide_eq_true (by omega)
    simp only [y7_g8, y7_s8, g8, hi, if_true, c32 (show kp < 2147483648 by omega), Option.bind_some, y7_g7, y7_p7, q_fi_sfi, q_fl_sfi, q_fr_sfi, q_ai_sfi, q_al_sfi, q_ar_sfi, q_ln_sfi, q_fi_sfl, q_fl_sfl, q_fr_sfl, q_ai_sfl, q_al_sfl, q_ar_sfl, q_ln_sfl, q_fi_sfr, q_fl_sfr, q_fr_sfr, q_ai_sfr, q_al_sfr, q_ar_sfr, q_ln_sfr, q_fi_sai, q_fl_sai, q_fr_sai, q_ai_sai, q_al_sai, q_ar_sai, q_ln_sai, q_fi_sal, q_fl_sal, q_fr_sal, q_ai_sal, q_al_sal, q_ar_sal, q_ln_sal, q_fi_sar, q_fl_sar, q_fr_sar, q_ai_sar, q_al_sar, q_ar_sar, q_ln_sar, reduceIte, Nat.reduceEqDiff, h8, h9, suc32, RN_78, Rst_78, RG_67, RP_67]
    refine ⟨T, _, _, e, kp + 1, rfl, rfl, hT, ⟨⟨g0, g1, g2, g8, g9⟩, E.2.2.2.1 R1 _ h2 (((Fr.refl _ R1).sal (k := 78) (by decide) _).sfi (k := 67) (by decide) _), ⟨h3, h4, h5⟩, h6, h7, ⟨rfl, rfl⟩, fun k k1 k2 => ?_⟩, Or.inl ⟨hA.1, hA.2⟩, by omega, ((Fr.refl _ Gr).sal (k := 8) (by decide) _).sfi (k := 7) (by decide) _⟩
    show up (al Gr 8) kp v k = up (al R1 78) kp v k
    by_cases ck : k = kp
    · rw [ck, up_same, up_same]
    · rw [up_ne _ _ _ _ ck, up_ne _ _ _ _ ck]; exact h10 k k1 (by omega)
end
