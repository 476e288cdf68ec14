theorem n4WS : (4 : Nat) ∉ 1 :: WS := by
  intro r
  rcases List.mem_cons.mp r with r | r
  · omega
  · have := mem_WS.mp r; omega
section
variable {P : Par} {x : Nat} {own : Nat → Nat} {σ : Hs} {R : Gs} {st : Int32}
theorem k_stset (hP : P.ok) (hW : RW R) {G T : Gs} {eC eV eN eT eS : Nat → Nat} (h : XWg P x own σ R st G T eC eV eN eT eS) (hK : KBx P x R) (v : Int32) :
    ∃ s1 G1 T1, fX11_settle_0 (e11 x σ (sfi G 0 v)) x = some s1 ∧ XWg P x own s1 R v G1 T1 eC eV eN eT eS ∧ fi G1 18 = 0 ∧ s1.1 = σ.1 ∧ Chg x own (1 :: WS) σ s1 := by
  obtain ⟨s1, G1, T1, a1, a2, a3, a4, a5⟩ := k_settle hW (h.st hP hW v) (hK _ _ _ _ _ _)
  exact ⟨s1, G1, T1, a1, a2, a3, a4, (e11_chg (own := own) (W := 1 :: WS) σ _ List.mem_cons_self).trans a5⟩
theorem k_ahead (hP : P.ok) (hW : RW R) (h : XW P x own σ R st) (hK : KBx P x R) (c t : Int32) : KI P x σ (rf (st_cc (nC R) c t) (AH R (nL R) (nN R) (nS R) (P.2.2 R) c t)) (st_cc (nC R) c t) R (fX11_ahead_0 σ x c t) := by
  obtain ⟨G, T, eC, eV, eN, eT, eS, h⟩ := h
  have hA := h.2.2.1.at
  have h12' := hW.2.2.2.1.2.1
  have hst := x_ccs hA h.2.2.2.2.2.1.1 h12' c t
  unfold fX11_ahead_0
  simp only [z11_C hA, hst, Option.bind_some, z11_p0 hA]
  generalize hv : st_cc (nC R) c t = v at *
  have hA2 : A11 x (sfi G 0 v) (e11 x σ (sfi G 0 v)) := A11_self _ _
  simp only [z11_g0 hA2, z11_C hA2, Option.bind_some, q_fi_sfi, q_fl_sfi, q_fr_sfi, q_ai_sfi, q_al_sfi, q_ar_sfi, q_ln_sfi, q_fi_sfl, q_fl_sfl, q_fr_sfl, q_ai_sfl, q_al_sfl, q_ar_sfl, q_ln_sfl, q_fi_sfr, q_fl_sfr, q_fr_sfr, q_ai_sfr, q_al_sfr, q_ar_sfr, q_ln_sfr, q_fi_sai, q_fl_sai, q_fr_sai, q_ai_sai, q_al_sai, q_ar_sai, q_ln_sai, q_fi_sal, q_fl_sal, q_fr_sal, q_ai_sal, q_al_sal, q_ar_sal, q_ln_sal, q_fi_sar, q_fl_sar, q_fr_sar, q_ai_sar, q_al_sar, q_ar_sar, q_ln_sar, reduceIte, Nat.reduceEqDiff]
  by_cases h0 : v = 0
  · rw [if_pos h0, show rf v (AH R (nL R) (nN R) (nS R) (P.2.2 R) c t) = _ from if_pos h0]
    have hcond : 0 ≤ c.toInt ∧ c.toInt < nC R := by
      rw [h0] at hv; unfold st_cc at hv
      split at hv
      · exact absurd hv (by decide)
      · omega
    obtain ⟨cn, rfl, hcn, hc⟩ := get32 c hcond.1
    obtain ⟨s1, G1, T1, a1, a2, a3, a4, a5⟩ := k_stset hP hW h hK v
    have hA3 := a2.2.2.1.at
    have c1 : isC s1 (x + 7) 1 = some () := xJ_C a2.2.2.2.2.2.1.1
    have c3 : fJx4a65c_get_915e3_0 s1 (x + 7) (Int32.ofNat cn) = some (some (eC cn)) := xJ_get a2.2.2.2.2.2.1.1 (by omega)
    obtain ⟨Gc, Tc, nt, y1, y2, ⟨y3, y4⟩, ⟨y5, y6, y7, y8⟩, y9, y10, y11⟩ := a2.2.2.2.2.2.1.2 cn (by omega)
    obtain ⟨z1, z2, z3⟩ := y11 a3
    have hsl := stN_le (ai R 14) (Int32.ofNat cn) (nS R)
    have hS60 := hW.2.2.1.2.1
    have hasc : Asc (stN (ai R 14) (Int32.ofNat cn) (nS R)) (ai Gc 2) := by
      intro a b hab hb
      rw [y9 a (by omega), y9 b hb]
      exact stA_asc (ai R 14) (ai R 15) (Int32.ofNat cn) (nS R) a b hab hb
    have hah : ahd (ai Gc 2) (ai Gc 3) t (stN (ai R 14) (Int32.ofNat cn) (nS R)) = AH R (nL R) (nN R) (nS R) (P.2.2 R) (Int32.ofNat cn) t := by
      unfold AH
      rw [← ahS_perm (tcl_perm z2)]
      unfold ahS
      refine ahd_congr _ (fun j hj => ⟨y9 j hj, ?_⟩)
      unfold ldA
      exact (ofI (z3 j hj)).symm
    simp only [a1, Option.bind_some, z11_g7 hA3, c1, c3, z1_C y1, x1_leadAt y1 y8 (show stN (ai R 14) (Int32.ofNat cn) (nS R) ≤ 60 by omega) y6 y7 hasc t, hah]
    exact ⟨s1, own, rfl, ⟨_, _, _, _, _, _, _, a2⟩, a5.kp h.1 n4WS⟩
  · rw [if_neg h0, show rf v (AH R (nL R) (nN R) (nS R) (P.2.2 R) c t) = -1 from if_neg h0]
    exact KI.no hP h hW _ _
theorem k_off19 (hP : P.ok) (hW : RW R) {G T : Gs} {eC eV eN eT eS : Nat → Nat} (h : XWg P x own σ R st G T eC eV eN eT eS) (hK : KBx P x R) (c r t v : Int32) (hv : v ≠ 0 ∨ (v = 0 ∧ (0 ≤ c.toInt ∧ c.toInt < nC R) ∧ (0 ≤ r.toInt ∧ r.toInt < nC R) ∧ 0 ≤ t.toInt ∧ t.toInt ≤ 900000000)) : KL P x σ (rfL v (pln (SH R (nL R) (nN R) (nS R) (P.2.2 R) c t) - pln (SH R (nL R) (nN R) (nS R) (P.2.2 R) r t))) v R (fX11_off_19 σ x c r t x v) := by
  have hA := h.2.2.1.at
  have h12' := hW.2.2.2.1.2.1
  unfold fX11_off_19
  have hA2 : A11 x (sfi G 0 v) (e11 x σ (sfi G 0 v)) := A11_self _ _
  simp only [z11_p0 hA, z11_g0 hA2, z11_C hA2, Option.bind_some, q_fi_sfi, q_fl_sfi, q_fr_sfi, q_ai_sfi, q_al_sfi, q_ar_sfi, q_ln_sfi, q_fi_sfl, q_fl_sfl, q_fr_sfl, q_ai_sfl, q_al_sfl, q_ar_sfl, q_ln_sfl, q_fi_sfr, q_fl_sfr, q_fr_sfr, q_ai_sfr, q_al_sfr, q_ar_sfr, q_ln_sfr, q_fi_sai, q_fl_sai, q_fr_sai, q_ai_sai, q_al_sai, q_ar_sai, q_ln_sai, q_fi_sal, q_fl_sal, q_fr_sal, q_ai_sal, q_al_sal, q_ar_sal, q_ln_sal, q_fi_sar, q_fl_sar, q_fr_sar, q_ai_sar, q_al_sar, q_ar_sar, q_ln_sar, reduceIte, Nat.reduceEqDiff]
  rcases hv with h0 | ⟨h0, hcc, hrr, htt⟩
  · rw [if_neg h0, show rfL v _ = -1 from if_neg h0]
    exact KL.no hP h hW _ _
  · rw [if_pos h0, show rfL v _ = _ from if_pos h0]
    obtain ⟨cn, rfl, hcn, hc⟩ := get32 c hcc.1
    obtain ⟨rn, rfl, hrn, hr⟩ := get32 r hrr.1
    obtain ⟨s1, G1, T1, a1, a2, a3, a4, a5⟩ := k_stset hP hW h hK v
    have hA3 := a2.2.2.1.at
    have c1 : isC s1 (x + 7) 1 = some () := xJ_C a2.2.2.2.2.2.1.1
    have c3 : fJx4a65c_get_915e3_0 s1 (x + 7) (Int32.ofNat cn) = some (some (eC cn)) := xJ_get a2.2.2.2.2.2.1.1 (by omega)
    have hc3 : isC s1 (eC cn) 3 = some () := by
      obtain ⟨Gc, Tc, nt, y1, -⟩ := a2.2.2.2.2.2.1.2 cn (by omega)
      exact z1_C y1
    obtain ⟨s2, b1, b2, b3, b4⟩ := k_shwAt hW a2 a3 (show cn < nC R by omega) t (by omega)
    have hA4 := b2.2.2.1.at
    have d1 : isC s2 (x + 7) 1 = some () := xJ_C b2.2.2.2.2.2.1.1
    have d3 : fJx4a65c_get_915e3_0 s2 (x + 7) (Int32.ofNat rn) = some (some (eC rn)) := xJ_get b2.2.2.2.2.2.1.1 (by omega)
    have hd3 : isC s2 (eC rn) 3 = some () := by
      obtain ⟨Gc, Tc, nt, y1, -⟩ := b2.2.2.2.2.2.1.2 rn (by omega)
      exact z1_C y1
    obtain ⟨s3, f1, f2, f3, f4⟩ := k_shwAt hW b2 a3 (show rn < nC R by omega) t (by omega)
    simp only [a1, Option.bind_some, z11_g7 hA3, c1, c3, hc3, b1, fX11_thousandthsInAll_0, z11_g7 hA4, d1, d3, hd3, f1]
    exact ⟨s3, own, rfl, ⟨_, _, _, _, _, _, _, f2⟩, ((a5.trans (b4.mono (fun q hq => by rw [List.mem_singleton.mp hq]; exact List.mem_cons_of_mem _ (mem_WS.mpr (by omega))))).trans (f4.mono (fun q hq => by rw [List.mem_singleton.mp hq]; exact List.mem_cons_of_mem _ (mem_WS.mpr (by omega))))).kp h.1 n4WS⟩
theorem k_off (hP : P.ok) (hW : RW R) (h : XW P x own σ R st) (hK : KBx P x R) (c r t : Int32) : KL P x σ (rfL (st_off (nC R) c r t) (pln (SH R (nL R) (nN R) (nS R) (P.2.2 R) c t) - pln (SH R (nL R) (nN R) (nS R) (P.2.2 R) r t))) (st_off (nC R) c r t) R (fX11_off_0 σ x c r t) := by
  obtain ⟨G, T, eC, eV, eN, eT, eS, h⟩ := h
  have hA := h.2.2.1.at
  have h12' := hW.2.2.2.1.2.1
  unfold fX11_off_0
  simp only [z11_C hA, Option.bind_some, x_isClock hA h.2.2.2.2.2.1.1 h12', b2i_0, x_ccs hA h.2.2.2.2.2.1.1 h12' c t]
  by_cases k1 : 0 ≤ r.toInt ∧ r.toInt < nC R
  · rw [if_neg (show ¬ ¬ (0 ≤ r.toInt ∧ r.toInt < (nC R : Int)) from fun q => q k1)]
    have e : st_off (nC R) c r t = st_cc (nC R) c t := by
      unfold st_off st_cc
      (repeat' split) <;> (first | rfl | omega)
    rw [e]
    refine k_off19 hP hW h hK c r t _ ?_
    by_cases h0 : st_cc (nC R) c t = 0
    · right
      have hcond : (0 ≤ c.toInt ∧ c.toInt < nC R) ∧ 0 ≤ t.toInt ∧ t.toInt ≤ 900000000 := by
        have hv := h0
        unfold st_cc at hv
        split at hv
        · exact absurd hv (by decide)
        · split at hv
          · exact absurd hv (by decide)
          · omega
      exact ⟨h0, hcond.1, k1, hcond.2⟩
    · exact Or.inl h0
  · rw [if_pos k1]
    have e : st_off (nC R) c r t = 2 := by unfold st_off; rw [if_pos (Or.inr k1)]
    rw [e]
    exact k_off19 hP hW h hK c r t 2 (Or.inl (by decide))
end
