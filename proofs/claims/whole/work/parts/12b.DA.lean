section
variable {P : Par} {x : Nat} {own : Nat → Nat} {σ : Hs} {R : Gs} {st : Int32}
theorem k_step26 (hP : P.ok) (hW : RW R) {G T : Gs} {eC eV eN eT eS : Nat → Nat} (h : XWg P x own σ R st G T eC eV eN eT eS) (c t v : Int32) (hv : v ≠ 0 ∨ (v = 0 ∧ (0 ≤ c.toInt ∧ c.toInt < nC R) ∧ nS R < 60)) : KI P x σ (b2i (v = 0)) v (if v = 0 then u_step R (nS R) c t else R) (fX11_step_26 σ x c t x v) := by
  have hA := h.2.2.1.at
  have h12 := hW.2.2.2.1.2.1
  have hA2 : A11 x (sfi G 0 v) (e11 x σ (sfi G 0 v)) := A11_self _ _
  unfold fX11_step_26
  simp only [z11_p0 hA, Option.bind_some, z11_g0 hA2, q_fi_sfi, q_fl_sfi, q_fr_sfi, q_ai_sfi, q_al_sfi, q_ar_sfi, q_ln_sfi, q_fi_sfl, q_fl_sfl, q_fr_sfl, q_ai_sfl, q_al_sfl, q_ar_sfl, q_ln_sfl, q_fi_sfr, q_fl_sfr, q_fr_sfr, q_ai_sfr, q_al_sfr, q_ar_sfr, q_ln_sfr, q_fi_sai, q_fl_sai, q_fr_sai, q_ai_sai, q_al_sai, q_ar_sai, q_ln_sai, q_fi_sal, q_fl_sal, q_fr_sal, q_ai_sal, q_al_sal, q_ar_sal, q_ln_sal, q_fi_sar, q_fl_sar, q_fr_sar, q_ai_sar, q_al_sar, q_ar_sar, q_ln_sar, reduceIte, Nat.reduceEqDiff, bb_0, bb_1]
  rcases hv with h0 | ⟨h0, hcl, hS60⟩
  · rw [if_neg h0, if_neg h0, show b2i (v = 0) = 0 from if_neg h0]
    exact KI.no hP h hW _ _
  · rw [if_pos h0, if_pos h0, show b2i (v = 0) = 1 from if_pos h0]
    obtain ⟨cn, rfl, hcn, hc⟩ := get32 c hcl.1
    have hs := h.st hP hW v
    generalize hs1 : e11 x σ (sfi G 0 v) = s1 at *
    obtain ⟨h0', g1, g2, g3, g4, g5, g6, g7, g8, g9, g10, g11, g12, g13⟩ := hs
    have hC1 : isC s1 (x + 7) 1 = some () := xJ_C g5.1
    have hg : fJx4a65c_get_915e3_0 s1 (x + 7) (Int32.ofNat cn) = some (some (eC cn)) := xJ_get g5.1 (by omega)
    obtain ⟨Gc, Tc, nt, y1, y2, ⟨y3, y4⟩, ⟨y5, y6, y7, y8⟩, y9, y10, y11⟩ := g5.2 cn (by omega)
    have hsl := stN_le (ai R 14) (Int32.ofNat cn) (nS R)
    obtain ⟨Gc', a1, a2, a3, a4, a5⟩ := x1_addStep (b := eC cn) (σ := s1) y8 (by omega) y6 t
    rw [show e1 (eC cn) s1 Gc = s1 from y1] at a1
    have hxc : ∀ j, j < 7 → ¬ (eC cn + j = x ∨ eC cn + j = x + 1 ∨ eC cn + j = x + 2 ∨ eC cn + j = x + 15) := by
      intro j hj q
      have := y3 j hj
      rw [tg_x q] at this; omega
    have hA3 : A11 x (sfi G 0 v) (e1 (eC cn) s1 Gc') := A11_fr hA2 (fun a ha => e1_out _ _ (fun q => by
      rcases q with q | q | q
      · exact hxc 0 (by omega) (by omega)
      · exact hxc 5 (by omega) (by omega)
      · exact hxc 6 (by omega) (by omega)))
    have h8 : fi (sfi G 0 v) 8 = fi R 12 := g2.2.2.2.2.2.1
    have hR12 : fi R 12 = Int32.ofNat (nS R) := hW.2.2.1.1
    have hA4 : A11 x (sfi (sfi G 0 v) 8 (fi R 12 + 1)) (e11 x (e1 (eC cn) s1 Gc') (sfi (sfi G 0 v) 8 (fi R 12 + 1))) := A11_self _ _
    simp only [z11_g7 hA2, Option.bind_some, hC1, hg, z1_C y1, a1, z11_g8 hA3, z11_p8 hA3, h8, z11_p18 hA4, or_true, if_true]
    generalize hG5 : sfi (sfi (sfi G 0 v) 8 (fi R 12 + 1)) 18 1 = G5
    generalize hs5 : e11 x (e11 x (e1 (eC cn) s1 Gc') (sfi (sfi G 0 v) 8 (fi R 12 + 1))) G5 = s5
    have hs5' : s5 = e11 x (e1 (eC cn) s1 Gc') G5 := by rw [← hs5]; exact eX_eX _ _ _
    have hA5 : A11 x G5 s5 := by rw [hs5']; exact A11_self _ _
    have hE : Ext own own s1.1 := fun _ _ => rfl
    have hCe : Chg x own [1, 20 + cn] s1 (e1 (eC cn) s1 Gc') := ⟨Nat.le_refl _, rfl, fun a _ hna => e1_out _ _ (fun q => hna (by
      rcases q with q | q | q
      · rw [q]; exact List.mem_cons_of_mem _ (by rw [show eC cn = eC cn + 0 from rfl, y3 0 (by omega)]; exact List.mem_cons_self)
      · rw [q, y3 5 (by omega)]; exact List.mem_cons_of_mem _ List.mem_cons_self
      · rw [q, y3 6 (by omega)]; exact List.mem_cons_of_mem _ List.mem_cons_self))⟩
    have hC : Chg x own [1, 20 + cn] s1 s5 := by rw [hs5']; exact hCe.trans (e11_chg _ _ List.mem_cons_self)
    generalize hU : u_step R (nS R) (Int32.ofNat cn) t = R'
    have hR : Fr (12 :: 14 :: 15 :: SCR) R R' := by rw [← hU]; exact (((Fr.refl _ R).sai (by decide) _).sai (by decide) _).sfi (by decide) _
    have f12 : fi R' 12 = Int32.ofNat (nS R + 1) := by rw [← hU]; rfl
    have f14 : ∀ i, ai R' 14 i = if i = nS R then Int32.ofNat cn else ai R 14 i := by intro i; rw [← hU]; rfl
    have f15 : ∀ i, ai R' 15 i = if i = nS R then t else ai R 15 i := by intro i; rw [← hU]; rfl
    have q1 : nL R' = nL R := by rw [← hU]; rfl
    have q2 : nC R' = nC R := by rw [← hU]; rfl
    have q3 : nS R' = nS R + 1 := by unfold nS; rw [f12, c32 (by omega)]; rfl
    have q4 : nT R' = nT R := by rw [← hU]; rfl
    have q5 : nV R' = nV R := by rw [← hU]; rfl
    have q6 : nN R' = nN R := by rw [← hU]; rfl
    have q7 : nX R' = nX R := by rw [← hU]; rfl
    have p1 : ar G5 1 = ar G 1 := by rw [← hG5]; rfl
    have p13 : fr G5 13 = fr G 13 := by rw [← hG5]; rfl
    have p15 : fr G5 15 = fr G 15 := by rw [← hG5]; rfl
    have p17 : ar G5 17 = ar G 17 := by rw [← hG5]; rfl
    have p18 : fi G5 18 = 1 := by rw [← hG5]; rfl
    have h10 : (1 : Int32) ≠ 0 := by decide
    have hagC : ∀ i, i < nS R → ai R' 14 i = ai R 14 i ∧ ai R' 15 i = ai R 15 i := fun i hi => by rw [f14, f15, if_neg (by omega), if_neg (by omega)]; exact ⟨rfl, rfl⟩
    have hn : ∀ {q : Nat}, (q = 0 ∨ (2 ≤ q ∧ q < 20) ∨ 32 ≤ q) → q ∉ [1, 20 + cn] := by
      intro q hq r; simp only [List.mem_cons, List.not_mem_nil, or_false] at r; omega
    obtain ⟨w1, w2, w3, w4, w5, w6, w7, w8, w9⟩ := hW
    refine ⟨s5, own, rfl, ⟨G5, T, eC, eV, eN, eT, eS, ?_⟩, ?_⟩
    · unfold XWg
      rw [q1, q2, q3, q4, q5, q6, q7, p1, p13, p15, p17, p18]
      refine ⟨by have := hC.1; omega, g1.fr h0' hC (hn (by omega)), ?_, g3.fr hE hC (fun i hi => hn (by omega)) hR (by decide), g4.fr h0' hC (hn (by omega)) hR (by decide), ⟨g5.1.fr (by omega) h0' hE hC (hn (by omega)) (hn (by omega)), fun i hi => ?_⟩, g6.fr h0' hE hC ⟨hn (by omega), hn (by omega), hn (by omega)⟩ hR (by decide), g7.fs w2.2.1 h0' hE hC ⟨hn (by omega), hn (by omega), fun i hi => hn (by omega)⟩ hR (by decide) h10, g8.fr w7.2 h0' hE hC ⟨hn (by omega), hn (by omega), fun i hi => hn (by omega)⟩ hR (by decide) (hP.1 _ _ _ hR (by decide)), g9.fr w8.2.1 h0' hE hC ⟨hn (by omega), hn (by omega), fun i hi => hn (by omega)⟩ hR (by decide), g10.fr hE hC (hn (by omega)) hR (by decide) (hP.2.1 _ _ _ hR (by decide)), g11.fr h0' hC (hn (by omega)) hR (by decide), g12.fr hE hC (hn (by omega)) hR (by decide), g13.fr hE hC (fun i hi => hn (by omega)) hR (by decide)⟩
      · obtain ⟨b1, b2, b3, b4, b5, b6, b7, b8, b9, b10⟩ := g2
        refine ⟨hA5, ?_, ?_, ?_, ?_, ?_, ?_, ?_, ?_, ?_⟩
        · rw [← hG5]; exact b2
        · rw [← hG5, hR.i 17 (by decide)]; exact b3
        · rw [← hG5, hR.i 19 (by decide)]; exact b4
        · rw [← hG5, hR.i 20 (by decide)]; exact b5
        · rw [← hG5, f12, hR12, suc32]; rfl
        · rw [← hG5, hR.i 91 (by decide)]; exact b7
        · rw [← hG5]; exact b8
        · rw [← hG5]; exact Or.inr rfl
        · rw [hR.i 17 (by decide), hR.ai 16 (by decide), ← hG5]; exact b10
      · by_cases hin : i = cn
        · subst hin
          have eN2 : stN (ai R' 14) (Int32.ofNat i) (nS R + 1) = stN (ai R 14) (Int32.ofNat i) (nS R) + 1 := by
            show (if ai R' 14 (nS R) = Int32.ofNat i then _ else _) = _
            rw [f14, if_pos rfl, if_pos rfl, stN_congr (nS R) (fun j hj => (hagC j hj).1)]
          have eA2 : stA (ai R' 14) (ai R' 15) (Int32.ofNat i) (nS R + 1) = insA (stA (ai R 14) (ai R 15) (Int32.ofNat i) (nS R)) t (stN (ai R 14) (Int32.ofNat i) (nS R)) := by
            show (if ai R' 14 (nS R) = Int32.ofNat i then _ else _) = _
            rw [f14, if_pos rfl, if_pos rfl, stN_congr (nS R) (fun j hj => (hagC j hj).1), stA_congr (nS R) hagC, f15, if_pos rfl]
          have hT5 : A9 (eC i + 1) Tc s5 := A9_fr y2 (fun a ha => by
            rw [hs5', e11_out _ _ (fun q => ?_), e1_out _ _ (by omega)]
            have : ∃ j, j < 7 ∧ a = eC i + j := ⟨a - eC i, by omega, by omega⟩
            obtain ⟨j, j1, rfl⟩ := this
            exact hxc j j1 q)
          have hA1' : A1 (eC i) Gc' s5 := A1_fr (A1_self s1 Gc') (fun a ha => by
            rw [hs5', e11_out _ _ (fun q => ?_)]
            have : ∃ j, j < 7 ∧ a = eC i + j := ⟨a - eC i, by omega, by omega⟩
            obtain ⟨j, j1, rfl⟩ := this
            exact hxc j j1 q)
          refine ⟨Gc', Tc, nt, hA1', hT5, ⟨y3, Nat.le_trans y4 hC.1⟩, ⟨?_, by rw [a3]; exact y6, by rw [a3]; exact y7, by rw [eN2]; exact a4⟩, ?_, y10, fun q => absurd q h10⟩
          · rw [hR.ai 13 (by decide), a2.i 0 (by decide)]; exact y5
          · rw [eN2, eA2, a5]
            exact insA_congr y9
        · have hne : ai R' 14 (nS R) ≠ Int32.ofNat i := by
            rw [f14, if_pos rfl]; intro e
            rw [eq32, n32 (by omega), n32 (by omega)] at e; omega
          have eN2 : stN (ai R' 14) (Int32.ofNat i) (nS R + 1) = stN (ai R 14) (Int32.ofNat i) (nS R) := by
            show (if ai R' 14 (nS R) = Int32.ofNat i then _ else _) = _
            rw [if_neg hne, stN_congr (nS R) (fun j hj => (hagC j hj).1)]
          have eA2 : stA (ai R' 14) (ai R' 15) (Int32.ofNat i) (nS R + 1) = stA (ai R 14) (ai R 15) (Int32.ofNat i) (nS R) := by
            show (if ai R' 14 (nS R) = Int32.ofNat i then _ else _) = _
            rw [if_neg hne, stA_congr (nS R) hagC]
          obtain ⟨Gi, Ti, ni, k1, k2, ⟨k3, k4⟩, k5, k6, k7, k8⟩ := g5.2 i (by omega)
          have hq : ∀ j, j < 7 → s5.2.1 (eC i + j) = s1.2.1 (eC i + j) := fun j hj => hC.2.2 _ (by omega) (by rw [k3 j hj]; intro r; simp only [List.mem_cons, List.not_mem_nil, or_false] at r; omega)
          refine ⟨Gi, Ti, ni, A1_fr k1 (fun a ha => ?_), A9_fr k2 (fun a ha => ?_), ⟨k3, Nat.le_trans k4 hC.1⟩, ?_, ?_, k7, fun q => absurd q h10⟩
          · have : ∃ j, j < 7 ∧ a = eC i + j := ⟨a - eC i, by omega, by omega⟩
            obtain ⟨j, j1, rfl⟩ := this
            exact hq j j1
          · have : ∃ j, j < 7 ∧ a = eC i + j := ⟨a - eC i, by omega, by omega⟩
            obtain ⟨j, j1, rfl⟩ := this
            exact hq j j1
          · rw [hR.ai 13 (by decide), eN2]; exact k5
          · rw [eN2, eA2]; exact k6
    · have hkp1 : Chg x own [1, 20 + cn] σ s1 := by rw [← hs1]; exact e11_chg σ _ List.mem_cons_self
      exact (hkp1.trans hC).kp h.1 (hn (by omega))
theorem k_step (hP : P.ok) (hW : RW R) (h : XW P x own σ R st) (c t : Int32) : KI P x σ (b2i (st_step (nC R) (nS R) c t = 0)) (st_step (nC R) (nS R) c t) (if st_step (nC R) (nS R) c t = 0 then u_step R (nS R) c t else R) (fX11_step_0 σ x c t) := by
  obtain ⟨G, T, eC, eV, eN, eT, eS, h⟩ := h
  have hA := h.2.2.1.at
  have h12 := hW.2.2.2.1.2.1
  have hS60 := hW.2.2.1.2.1
  have h8 : fi G 8 = Int32.ofNat (nS R) := h.2.2.1.2.2.2.2.2.1.trans hW.2.2.1.1
  unfold fX11_step_0
  simp only [z11_C hA, Option.bind_some, x_isClock hA h.2.2.2.2.2.1.1 h12, x_isCount, z11_g8 hA, h8, l60, x_more σ _ (show nS R ≤ 100 by omega) (show 60 ≤ 100 by omega), b2i_0]
  by_cases k1 : 0 ≤ c.toInt ∧ c.toInt < nC R
  · rw [if_neg (show ¬ ¬ (0 ≤ c.toInt ∧ c.toInt < (nC R : Int)) from fun q => q k1)]
    have e : (if ¬ (0 ≤ t.toInt ∧ t.toInt ≤ 900000000) then (5 : Int32) else if nS R < 60 then 0 else 7) = st_step (nC R) (nS R) c t := by
      unfold st_step
      (repeat' split) <;> (first | rfl | omega)
    rw [e]
    refine k_step26 hP hW h c t _ ?_
    by_cases h0 : st_step (nC R) (nS R) c t = 0
    · right
      refine ⟨h0, k1, ?_⟩
      unfold st_step at h0
      split at h0
      · exact absurd h0 (by decide)
      · split at h0
        · exact absurd h0 (by decide)
        · split at h0
          · exact absurd h0 (by decide)
          · omega
    · exact Or.inl h0
  · rw [if_pos k1]
    have e : st_step (nC R) (nS R) c t = 2 := by unfold st_step; rw [if_pos k1]
    rw [e]
    exact k_step26 hP hW h c t 2 (Or.inl (by decide))
end
