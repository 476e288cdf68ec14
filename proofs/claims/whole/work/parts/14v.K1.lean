section
variable (b : Nat) (σ0 : Hs)
def st4 (G H : Gs) : Hs := e4 (b + 6) (e5 b σ0 G) H
end
section
variable {b : Nat} {σ0 : Hs} {G H : Gs}
theorem s4_A5 : A5 b G (st4 b σ0 G H) := A5_fr (A5_self σ0 G) (fun a ha => e4_out _ _ (by omega))
theorem s4_A4 : A4 (b + 6) H (st4 b σ0 G H) := A4_self _ _
theorem s4_w4 (H' : Gs) : e4 (b + 6) (st4 b σ0 G H) H' = st4 b σ0 G H' := eX_eX _ _ _
theorem s4_w5 (G' : Gs) : e5 b (st4 b σ0 G H) G' = st4 b σ0 G' H := by
  refine Prod.ext rfl (Prod.ext (funext fun a => ?_) rfl)
  by_cases c : a = b ∨ a = b + 1 ∨ a = b + 2 ∨ a = b + 3 ∨ a = b + 4 ∨ a = b + 5
  · rw [show (st4 b σ0 G' H).2.1 a = (e5 b σ0 G').2.1 a from e4_out _ _ (by omega)]
    exact eX_in ok5 (d5_iff.mpr c) _ _ _
  · rw [e5_out _ _ c]
    by_cases d : a = b + 6 ∨ a = b + 6 + 1 ∨ a = b + 6 + 2 ∨ a = b + 6 + 3
    · exact eX_in ok4 (d4_iff.mpr d) _ _ _
    · rw [show (st4 b σ0 G H).2.1 a = (e5 b σ0 G).2.1 a from e4_out _ _ d, show (st4 b σ0 G' H).2.1 a = (e5 b σ0 G').2.1 a from e4_out _ _ d, e5_out _ _ c, e5_out _ _ c]
theorem p_g0 (h : fr H 0 = some b) : gN (st4 b σ0 G H) (b + 6) 6 0 = some b := by rw [z4_g0 s4_A4, h]
end
def HQ (b : Nat) (H : Gs) (mk L : Nat) : Prop := fr H 0 = some b ∧ (ln H 1 = 80 ∧ ln H 2 = 80 ∧ ln H 3 = 80) ∧ (fi H 4 = Int32.ofNat mk ∧ mk ≤ 80) ∧ fi H 5 = Int32.ofNat L
def emQ (H : Gs) (mk : Nat) (k v l : Int32) : Gs := sfi (sai (sai (sai H 1 (up (ai H 1) mk k)) 2 (up (ai H 2) mk v)) 3 (up (ai H 3) mk l)) 4 (Int32.ofNat (mk + 1))
section
variable {b : Nat} {σ0 : Hs} {G H : Gs} {mk L : Nat}
theorem p_emit (hH : HQ b H mk L) (hm : mk < 80) (k v l : Int32) : fX4_emit_0 (st4 b σ0 G H) (b + 6) k v l = some (st4 b σ0 G (emQ H mk k v l)) ∧ HQ b (emQ H mk k v l) (mk + 1) L ∧ Fr [1, 2, 3, 4] H (emQ H mk k v l) := by
  obtain ⟨h0, ⟨h1, h2, h3⟩, ⟨h4, h5⟩, h6⟩ := hH
  refine ⟨?_, ⟨h0, ⟨h1, h2, h3⟩, ⟨rfl, by omega⟩, h6⟩, ((((Fr.refl _ H).sai (k := 1) (by decide) _).sai (k := 2) (by decide) _).sai (k := 3) (by decide) _).sfi (k := 4) (by decide) _⟩
  unfold fX4_emit_0
  have A1 : A4 (b + 6) (sai H 1 (up (ai H 1) mk k)) (st4 b σ0 G (sai H 1 (up (ai H 1) mk k))) := s4_A4
  have A2 : A4 (b + 6) (sai (sai H 1 (up (ai H 1) mk k)) 2 (up (ai H 2) mk v)) (st4 b σ0 G (sai (sai H 1 (up (ai H 1) mk k)) 2 (up (ai H 2) mk v))) := s4_A4
  have A3 : A4 (b + 6) (sai (sai (sai H 1 (up (ai H 1) mk k)) 2 (up (ai H 2) mk v)) 3 (up (ai H 3) mk l)) (st4 b σ0 G (sai (sai (sai H 1 (up (ai H 1) mk k)) 2 (up (ai H 2) mk v)) 3 (up (ai H 3) mk l))) := s4_A4
  simp only [z4_g4 s4_A4, z4_g1 s4_A4, z4_n1 s4_A4, z4_s1 s4_A4, h4, h1, Option.bind_some, le_n (show 80 < 2147483648 by decide) (show mk < 2147483648 by omega), if_neg (show ¬ 80 ≤ mk by omega), ix_n (show mk < 2147483648 by omega), decide_eq_true hm, if_true, c32 (show mk < 2147483648 by omega), s4_w4]
  simp only [z4_g2 A1, z4_g4 A1, z4_s2 A1, q_fi_sfi, q_fl_sfi, q_fr_sfi, q_ai_sfi, q_al_sfi, q_ar_sfi, q_ln_sfi, q_fi_sfl, q_fl_sfl, q_fr_sfl, q_ai_sfl, q_al_sfl, q_ar_sfl, q_ln_sfl, q_fi_sfr, q_fl_sfr, q_fr_sfr, q_ai_sfr, q_al_sfr, q_ar_sfr, q_ln_sfr, q_fi_sai, q_fl_sai, q_fr_sai, q_ai_sai, q_al_sai, q_ar_sai, q_ln_sai, q_fi_sal, q_fl_sal, q_fr_sal, q_ai_sal, q_al_sal, q_ar_sal, q_ln_sal, q_fi_sar, q_fl_sar, q_fr_sar, q_ai_sar, q_al_sar, q_ar_sar, q_ln_sar, reduceIte, Nat.reduceEqDiff, h4, h2, Option.bind_some, ix_n (show mk < 2147483648 by omega), decide_eq_true hm, if_true, c32 (show mk < 2147483648 by omega), s4_w4]
  simp only [z4_g3 A2, z4_g4 A2, z4_s3 A2, q_fi_sfi, q_fl_sfi, q_fr_sfi, q_ai_sfi, q_al_sfi, q_ar_sfi, q_ln_sfi, q_fi_sfl, q_fl_sfl, q_fr_sfl, q_ai_sfl, q_al_sfl, q_ar_sfl, q_ln_sfl, q_fi_sfr, q_fl_sfr, q_fr_sfr, q_ai_sfr, q_al_sfr, q_ar_sfr, q_ln_sfr, q_fi_sai, q_fl_sai, q_fr_sai, q_ai_sai, q_al_sai, q_ar_sai, q_ln_sai, q_fi_sal, q_fl_sal, q_fr_sal, q_ai_sal, q_al_sal, q_ar_sal, q_ln_sal, q_fi_sar, q_fl_sar, q_fr_sar, q_ai_sar, q_al_sar, q_ar_sar, q_ln_sar, reduceIte, Nat.reduceEqDiff, h4, h3, Option.bind_some, ix_n (show mk < 2147483648 by omega), decide_eq_true hm, if_true, c32 (show mk < 2147483648 by omega), s4_w4]
  simp only [z4_g4 A3, z4_p4 A3, q_fi_sfi, q_fl_sfi, q_fr_sfi, q_ai_sfi, q_al_sfi, q_ar_sfi, q_ln_sfi, q_fi_sfl, q_fl_sfl, q_fr_sfl, q_ai_sfl, q_al_sfl, q_ar_sfl, q_ln_sfl, q_fi_sfr, q_fl_sfr, q_fr_sfr, q_ai_sfr, q_al_sfr, q_ar_sfr, q_ln_sfr, q_fi_sai, q_fl_sai, q_fr_sai, q_ai_sai, q_al_sai, q_ar_sai, q_ln_sai, q_fi_sal, q_fl_sal, q_fr_sal, q_ai_sal, q_al_sal, q_ar_sal, q_ln_sal, q_fi_sar, q_fl_sar, q_fr_sar, q_ai_sar, q_al_sar, q_ar_sar, q_ln_sar, reduceIte, Nat.reduceEqDiff, h4, Option.bind_some, suc32, s4_w4]
  rfl
theorem p_emitD (hH : HQ b H mk L) (k v l : Int32) : ∃ H' mk', fX4_emit_0 (st4 b σ0 G H) (b + 6) k v l = some (st4 b σ0 G H') ∧ HQ b H' mk' L ∧ Fr [1, 2, 3, 4] H H' := by
  by_cases c : mk < 80
  · obtain ⟨e1, e2, e3⟩ := p_emit (G := G) (σ0 := σ0) hH c k v l
    exact ⟨_, _, e1, e2, e3⟩
  · refine ⟨H, mk, ?_, hH, Fr.refl _ _⟩
    obtain ⟨h0, ⟨h1, h2, h3⟩, ⟨h4, h5⟩, h6⟩ := hH
    unfold fX4_emit_0
    simp only [z4_g4 s4_A4, z4_g1 s4_A4, z4_n1 s4_A4, h4, h1, Option.bind_some, le_n (show 80 < 2147483648 by decide) (show mk < 2147483648 by omega), if_pos (show 80 ≤ mk by omega)]
end
