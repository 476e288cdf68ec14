section
variable {P : Par} {x : Nat} {own : Nat → Nat} {σ : Hs} {R : Gs} {st : Int32}
theorem x_ccs {G : Gs} {n : Nat} {el : Nat → Nat} (hA : A11 x G σ) (hL : PLs x own σ 0 n el) (hn : n ≤ 12) (c t : Int32) : fX11_clockCountStatus_0 σ x c t = some (st_cc n c t) := by
  unfold fX11_clockCountStatus_0
  simp only [z11_C hA, Option.bind_some, x_isClock hA hL hn, x_isCount, b2i_0]
  unfold st_cc
  (repeat' split) <;> rfl
theorem k_stamp (hP : P.ok) (hW : RW R) (h : XW P x own σ R st) (hbl : ∀ c t, P.2.2 (u_stamp R (nX R) c t) = P.2.2 R) (c t : Int32) : KI P x σ (rf (st_stamp R (nC R) (nX R) c t) (Int32.ofNat (nX R))) (st_stamp R (nC R) (nX R) c t) (if st_stamp R (nC R) (nX R) c t = 0 then u_stamp R (nX R) c t else R) (fX11_stamp_0 σ x c t) := by
  obtain ⟨G, T, eC, eV, eN, eT, eS, h⟩ := h
  have hA := h.2.2.1.at
  have h12 := hW.2.2.2.1.2.1
  have hsx := hW.2.2.2.2.2.2.2.1
  have hpS := h.2.2.2.2.2.2.2.2.2.1
  have hx60 := hsx.2.1
  have hC1 : isC σ (x + 11) 1 = some () := xJ_C hpS.1
  have hC2 : fJx4a65c_size_8abf5_0 σ (x + 11) = some (Int32.ofNat (nX R)) := xJ_size hpS.1
  have hst : fX11_stampStatus_0 σ x c t = some (st_stamp R (nC R) (nX R) c t) := by
    unfold fX11_stampStatus_0
    simp only [z11_C hA, Option.bind_some, x_ccs hA h.2.2.2.2.2.1.1 h12, z11_g12 hA, hC1, hC2, l60, lt_n (show nX R < 2147483648 by omega) (show 60 < 2147483648 by omega)]
    unfold st_cc st_stamp
    by_cases k1 : 0 ≤ c.toInt ∧ c.toInt < nC R
    · simp only [k1, and_self, not_true_eq_false, if_false, reduceIte]
      by_cases k2 : 0 ≤ t.toInt ∧ t.toInt ≤ 900000000
      · simp only [k2, and_self, not_true_eq_false, if_false, reduceIte]
        by_cases k3 : nX R < 60
        · rw [if_pos k3, if_neg (show ¬ nX R = 60 by omega), hsx.2.2.2.2]
          by_cases k4 : nX R = 0
          · rw [if_pos (show Int32.ofNat (nX R) ≤ 0 by rw [k4]; decide), if_pos k4, if_neg (by rw [i0]; omega)]
          · rw [if_neg (show ¬ Int32.ofNat (nX R) ≤ 0 by rw [le32, n32 (by omega), i0]; omega), if_neg k4]
            have hg : fJx4a65c_get_915e3_0 σ (x + 11) (Int32.ofNat (nX R - 1)) = some (some (eS (nX R - 1))) := xJ_get hpS.1 (by omega)
            obtain ⟨Gs', a1, a2, a3, a4⟩ := hpS.2 (nX R - 1) (by omega)
            simp only [ofNat_m1 (show 0 < nX R by omega), hg, Option.bind_some, z8_C a1, z8_g1 a1, a4, le32]
            (repeat' split) <;> (first | rfl | omega)
        · rw [if_neg k3, if_pos (show nX R = 60 by omega)]
      · simp only [k2, not_false_eq_true, if_true, reduceIte]; rfl
    · simp only [k1, not_false_eq_true, if_true, reduceIte]; rfl
  unfold fX11_stamp_0
  simp only [z11_C hA, hst, Option.bind_some, z11_p0 hA]
  generalize hv : st_stamp R (nC R) (nX R) c t = v at *
  have hA2 : A11 x (sfi G 0 v) (e11 x σ (sfi G 0 v)) := A11_self _ _
  simp only [z11_g0 hA2, Option.bind_some, q_fi_sfi, q_fl_sfi, q_fr_sfi, q_ai_sfi, q_al_sfi, q_ar_sfi, q_ln_sfi, q_fi_sfl, q_fl_sfl, q_fr_sfl, q_ai_sfl, q_al_sfl, q_ar_sfl, q_ln_sfl, q_fi_sfr, q_fl_sfr, q_fr_sfr, q_ai_sfr, q_al_sfr, q_ar_sfr, q_ln_sfr, q_fi_sai, q_fl_sai, q_fr_sai, q_ai_sai, q_al_sai, q_ar_sai, q_ln_sai, q_fi_sal, q_fl_sal, q_fr_sal, q_ai_sal, q_al_sal, q_ar_sal, q_ln_sal, q_fi_sar, q_fl_sar, q_fr_sar, q_ai_sar, q_al_sar, q_ar_sar, q_ln_sar, reduceIte, Nat.reduceEqDiff]
  by_cases h0 : v = 0
  · rw [if_pos h0, if_pos h0, show rf v (Int32.ofNat (nX R)) = Int32.ofNat (nX R) from if_pos h0]
    have hcond : nX R < 60 := by
      rw [h0] at hv; unfold st_stamp at hv
      split at hv
      · exact absurd hv (by decide)
      · split at hv
        · exact absurd hv (by decide)
        · split at hv
          · exact absurd hv (by decide)
          · omega
    have hs := h.st hP hW v
    generalize hs1 : e11 x σ (sfi G 0 v) = s1 at *
    have e1 : s1.1 = σ.1 := by rw [← hs1]; rfl
    obtain ⟨h0', g1, g2, g3, g4, g5, g6, g7, g8, g9, g10, g11, g12, g13⟩ := hs
    obtain ⟨s2, t1, t2, t3, t4, t5⟩ := x8_new s1 c t
    have hC12 : ∀ (o : Nat → Nat) (W : List Nat), Chg x o W s1 s2 := fun o W => ⟨by omega, t3, fun a ha _ => t4 a ha⟩
    let own1 : Nat → Nat := fun a => if a < σ.1 then own a else 200 + nX R
    have hE1 : Ext own own1 s1.1 := fun a ha => if_pos (by omega)
    have hl2 : PLs x own1 s2 4 (nX R) eS := g9.1.fr (by omega) h0' hE1 (hC12 own []) (by decide) (by decide)
    have hO2 : PO x s2 := g1.fr h0' (hC12 own []) (by decide)
    have hel : ∀ i, i < nX R → anyO s2 (eS i) = some () ∧ eS i < s2.1 := by
      intro i hi
      obtain ⟨Gi, a1, ⟨a2, a3⟩, -⟩ := g9.2 i hi
      exact ⟨by rw [anyO_c (t4 _ (by omega))]; exact any_o a1 (by decide), by omega⟩
    obtain ⟨s3, own2, u1, u2, u3, u4⟩ := xJ_add hl2 (by omega) (by omega) hO2 (by omega) hel (v := s1.1) (any_o t5 (by decide)) (by omega)
    have hA3 : A11 x (sfi G 0 v) s3 := A11_fr hA2 (fun a ha => (u4.2.2 a (by omega) (by rw [tg_x ha]; decide)).trans (t4 a (by omega)))
    have hC3' : isC s2 (x + 11) 1 = some () := xJ_C hl2
    have u1' : fJx4a65c_add_9ea2d_0 s2 (x + 11) s1.1 = some (1, s3) := u1
    have hC4 : isC s3 (x + 11) 1 = some () := xJ_C u3
    have hC5 : fJx4a65c_size_8abf5_0 s3 (x + 11) = some (Int32.ofNat (nX R + 1)) := xJ_size u3
    simp only [z11_g12 hA2, Option.bind_some, t1, hC3', u1', z11_g12 hA3, hC4, hC5, ofNat_m1 (show 0 < nX R + 1 by omega), Nat.add_sub_cancel]
    have hE : Ext own own2 s1.1 := fun a ha => (u2 a (by omega)).trans (hE1 a ha)
    have hC : Chg x own [9, 19] s1 s3 := (hC12 own _).tr2 u4 hE1
    have hR : Fr (56 :: 57 :: 58 :: 59 :: SCR) R (u_stamp R (nX R) c t) := ((((Fr.refl _ R).sai (by decide) _).sai (by decide) _).sfi (by decide) _).sfi (by decide) _
    have q1 : nL (u_stamp R (nX R) c t) = nL R := rfl
    have q2 : nC (u_stamp R (nX R) c t) = nC R := rfl
    have q3 : nS (u_stamp R (nX R) c t) = nS R := rfl
    have q4 : nT (u_stamp R (nX R) c t) = nT R := rfl
    have q5 : nV (u_stamp R (nX R) c t) = nV R := rfl
    have q6 : nN (u_stamp R (nX R) c t) = nN R := rfl
    have q7 : nX (u_stamp R (nX R) c t) = nX R + 1 := c32 (by omega)
    have e58 : ∀ i, ai (u_stamp R (nX R) c t) 58 i = if i = nX R then c else ai R 58 i := fun i => rfl
    have e59 : ∀ i, ai (u_stamp R (nX R) c t) 59 i = if i = nX R then t else ai R 59 i := fun i => rfl
    obtain ⟨w1, w2, w3, w4, w5, w6, w7, w8, w9⟩ := hW
    refine ⟨s3, own2, rfl, ⟨sfi G 0 v, T, eC, eV, eN, eT, up eS (nX R) s1.1, ?_⟩, ?_⟩
    · unfold XWg
      rw [q1, q2, q3, q4, q5, q6, q7, hbl]
      refine ⟨by have := hC.1; omega, g1.fr h0' hC (by decide), g2.fr h0' hC (by decide) hR (by decide), g3.fr hE hC (fun t ht => by intro q; simp only [List.mem_cons, List.not_mem_nil, or_false] at q; omega) hR (by decide), g4.fr h0' hC (by decide) hR (by decide), g5.fr w4.2.1 h0' hE hC ⟨by decide, by decide, (fun t ht => by intro q; simp only [List.mem_cons, List.not_mem_nil, or_false] at q; omega)⟩ hR (by decide) (fun q => q), g6.fr h0' hE hC (by decide) hR (by decide), g7.fr w2.2.1 h0' hE hC ⟨by decide, by decide, (fun t ht => by intro q; simp only [List.mem_cons, List.not_mem_nil, or_false] at q; omega)⟩ hR (by decide) (fun q => q), g8.fr w7.2 h0' hE hC ⟨by decide, by decide, (fun t ht => by intro q; simp only [List.mem_cons, List.not_mem_nil, or_false] at q; omega)⟩ hR (by decide) (hP.1 _ _ _ hR (by decide)), ⟨u3, fun i hi => ?_⟩, g10.fr hE hC (by decide) hR (by decide) (hP.2.1 _ _ _ hR (by decide)), g11.fr h0' hC (by decide) hR (by decide), g12.fr hE hC (by decide) hR (by decide), g13.fr hE hC (fun t ht => by intro q; simp only [List.mem_cons, List.not_mem_nil, or_false] at q; omega) hR (by decide)⟩
      by_cases hin : i = nX R
      · subst hin
        rw [up_same]
        have ht : tg x own1 s1.1 = 200 + nX R := by unfold tg; rw [if_neg (by omega), if_neg (by omega)]; exact if_neg (by omega)
        refine ⟨_, A8_fr t5 (fun a ha => u4.2.2 a (by omega) (by rw [ha, ht]; intro q; simp only [List.mem_cons, List.not_mem_nil, or_false] at q; omega)), ⟨(ext_tg u2 (by omega)).trans ht, by have := u4.1; omega⟩, ?_, ?_⟩
        · rw [e58, if_pos rfl]; rfl
        · rw [e59, if_pos rfl]; rfl
      · rw [up_ne _ _ _ _ hin]
        obtain ⟨Gi, a1, ⟨a2, a3⟩, a4, a5⟩ := g9.2 i (by omega)
        refine ⟨Gi, A8_fr a1 (fun b hb => ?_), ⟨(ext_tg hE a3).trans a2, Nat.lt_of_lt_of_le a3 hC.1⟩, ?_, ?_⟩
        · rw [hb]; exact hC.2.2 _ a3 (by rw [a2]; intro q; simp only [List.mem_cons, List.not_mem_nil, or_false] at q; omega)
        · rw [e58, if_neg hin]; exact a4
        · rw [e59, if_neg hin]; exact a5
    · have hkp1 : Chg x own [1, 9, 19] σ s1 := by rw [← hs1]; exact e11_chg σ _ (by decide)
      exact (hkp1.trans (hC.mono (by decide))).kp h.1 (by decide)
  · rw [if_neg h0, if_neg h0, show rf v (Int32.ofNat (nX R)) = -1 from if_neg h0]
    exact KI.no hP h hW _ _
theorem x_notSt {G : Gs} {eC eV eN : Nat → Nat} (hA : A11 x G σ) (hW : RW R) (hC : PLs x own σ 0 (nC R) eC) (hV : PLs x own σ 1 (nV R) eV) (hN : PN x own σ R (nL R) (nN R) (P.2.2 R) (fi G 18) eN) (v c d k t : Int32) : fX11_noticeStatus_0 σ x v c d k t = some (st_notice R (nV R) (nC R) (nN R) v c d k t) := by
  have h12 := hW.2.2.2.1.2.1
  have h8 := hW.2.2.2.2.1.2
  have h60 := hW.2.1.2.1
  have hlt := hW.2.2.2.2.2.1.2
  have hV1 : isC σ (x + 8) 1 = some () := xJ_C hV
  have hV2 : fJx4a65c_size_8abf5_0 σ (x + 8) = some (Int32.ofNat (nV R)) := xJ_size hV
  have hN1 : isC σ (x + 9) 1 = some () := xJ_C hN.1
  have hN2 : fJx4a65c_size_8abf5_0 σ (x + 9) = some (Int32.ofNat (nN R)) := xJ_size hN.1
  have h44 : ∀ q : Prop, fX11_noticeStatus_44 σ x t = some (if ¬ (0 ≤ t.toInt ∧ t.toInt ≤ 900000000) then 5 else if nN R = 60 then 7 else if t.toInt < (fi R 49).toInt then 12 else 0) := by
    intro _
    unfold fX11_noticeStatus_44
    simp only [x_isCount, Option.bind_some, b2i_0, z11_g10 hA, hN1, hN2, l60, lt_n (show nN R < 2147483648 by omega) (show 60 < 2147483648 by omega)]
    by_cases k2 : 0 ≤ t.toInt ∧ t.toInt ≤ 900000000
    · simp only [k2, and_self, not_true_eq_false, if_false, reduceIte]
      by_cases k3 : nN R < 60
      · rw [if_pos k3, if_neg (show ¬ nN R = 60 by omega), hlt]
        by_cases k4 : nN R = 0
        · rw [if_pos (show Int32.ofNat (nN R) ≤ 0 by rw [k4]; decide), if_pos k4, if_neg (by rw [i0]; omega)]
        · rw [if_neg (show ¬ Int32.ofNat (nN R) ≤ 0 by rw [le32, n32 (by omega), i0]; omega), if_neg k4]
          have hg : fJx4a65c_get_915e3_0 σ (x + 9) (Int32.ofNat (nN R - 1)) = some (some (eN (nN R - 1))) := xJ_get hN.1 (by omega)
          obtain ⟨Gs', a1, a2, a3, a4⟩ := hN.2 (nN R - 1) (by omega)
          simp only [ofNat_m1 (show 0 < nN R by omega), hg, Option.bind_some, z3_C a1, z3_g4 a1, a3.2.2.2.2, le32]
          (repeat' split) <;> (first | rfl | omega)
      · rw [if_neg k3, if_pos (show nN R = 60 by omega)]
    · simp only [k2, not_false_eq_true, if_true, reduceIte]
  unfold fX11_noticeStatus_0
  simp only [z11_g9 hA, hV1, hV2, z11_C hA, x_isClock hA hC h12, x_isDay, b2i_0, Option.bind_some, lt32, le32, i0, n32 (show nV R < 2147483648 by omega), h44 True]
  have hk1 : (k = 1) = (k.toInt = 1) := by apply propext; rw [eq32, i1]
  have hkm : (k = -1) = (k.toInt = -1) := by apply propext; rw [eq32, im1]
  simp only [hk1, hkm]
  unfold st_notice
  (repeat' split) <;> (first | rfl | omega)
theorem k_notice (hP : P.ok) (hW : RW R) (h : XW P x own σ R st) (v c d k t : Int32) : KI P x σ (rf (st_notice R (nV R) (nC R) (nN R) v c d k t) (Int32.ofNat (nN R))) (st_notice R (nV R) (nC R) (nN R) v c d k t) (if st_notice R (nV R) (nC R) (nN R) v c d k t = 0 then u_notice R (nN R) v c d k t else R) (fX11_notice_0 σ x v c d k t) := by
  obtain ⟨G, T, eC, eV, eN, eT, eS, h⟩ := h
  have hA := h.2.2.1.at
  have hst := x_notSt hA hW h.2.2.2.2.2.1.1 h.2.2.2.2.2.2.1.1 h.2.2.2.2.2.2.2.1 v c d k t
  have h60 := hW.2.1.2.1
  unfold fX11_notice_0
  simp only [z11_C hA, hst, Option.bind_some, z11_p0 hA]
  generalize hv : st_notice R (nV R) (nC R) (nN R) v c d k t = y at *
  have hA2 : A11 x (sfi G 0 y) (e11 x σ (sfi G 0 y)) := A11_self _ _
  simp only [z11_g0 hA2, Option.bind_some, q_fi_sfi, q_fl_sfi, q_fr_sfi, q_ai_sfi, q_al_sfi, q_ar_sfi, q_ln_sfi, q_fi_sfl, q_fl_sfl, q_fr_sfl, q_ai_sfl, q_al_sfl, q_ar_sfl, q_ln_sfl, q_fi_sfr, q_fl_sfr, q_fr_sfr, q_ai_sfr, q_al_sfr, q_ar_sfr, q_ln_sfr, q_fi_sai, q_fl_sai, q_fr_sai, q_ai_sai, q_al_sai, q_ar_sai, q_ln_sai, q_fi_sal, q_fl_sal, q_fr_sal, q_ai_sal, q_al_sal, q_ar_sal, q_ln_sal, q_fi_sar, q_fl_sar, q_fr_sar, q_ai_sar, q_al_sar, q_ar_sar, q_ln_sar, reduceIte, Nat.reduceEqDiff]
  by_cases h0 : y = 0
  · rw [if_pos h0, if_pos h0, show rf y (Int32.ofNat (nN R)) = Int32.ofNat (nN R) from if_pos h0]
    have hcond : nN R < 60 := by
      rw [h0] at hv; unfold st_notice at hv
      split at hv
      · exact absurd hv (by decide)
      · split at hv
        · exact absurd hv (by decide)
        · split at hv
          · exact absurd hv (by decide)
          · omega
    have hs := h.st hP hW y
    generalize hs1 : e11 x σ (sfi G 0 y) = s1 at *
    have e1 : s1.1 = σ.1 := by rw [← hs1]; rfl
    obtain ⟨h0', g1, g2, g3, g4, g5, g6, g7, g8, g9, g10, g11, g12, g13⟩ := hs
    obtain ⟨s2, t1, t2, t3, t4, t5⟩ := x3_new s1 v c d k t
    have hC12 : ∀ (o : Nat → Nat) (W : List Nat), Chg x o W s1 s2 := fun o W => ⟨by omega, t3, fun a ha _ => t4 a ha⟩
    let own1 : Nat → Nat := fun a => if a < σ.1 then own a else 100 + nN R
    have hE1 : Ext own own1 s1.1 := fun a ha => if_pos (by omega)
    have hl2 : PLs x own1 s2 2 (nN R) eN := g7.1.fr (by omega) h0' hE1 (hC12 own []) (by decide) (by decide)
    have hO2 : PO x s2 := g1.fr h0' (hC12 own []) (by decide)
    have hel : ∀ i, i < nN R → anyO s2 (eN i) = some () ∧ eN i < s2.1 := by
      intro i hi
      obtain ⟨Gi, a1, ⟨a2, a3⟩, -⟩ := g7.2 i hi
      exact ⟨by rw [anyO_c (t4 _ (by omega))]; exact any_o a1 (by decide), by omega⟩
    obtain ⟨s3, own2, u1, u2, u3, u4⟩ := xJ_add hl2 (by omega) (by omega) hO2 (by omega) hel (v := s1.1) (any_o t5 (by decide)) (by omega)
    have hA3 : A11 x (sfi G 0 y) s3 := A11_fr hA2 (fun a ha => (u4.2.2 a (by omega) (by rw [tg_x ha]; decide)).trans (t4 a (by omega)))
    have hC3' : isC s2 (x + 9) 1 = some () := xJ_C hl2
    have u1' : fJx4a65c_add_9ea2d_0 s2 (x + 9) s1.1 = some (1, s3) := u1
    have hx3 : x + 78 ≤ s3.1 := by have := u4.1; omega
    have hA4 : A11 x (sfi (sfi G 0 y) 18 1) (e11 x s3 (sfi (sfi G 0 y) 18 1)) := A11_self _ _
    have hl4 : PLs x own2 (e11 x s3 (sfi (sfi G 0 y) 18 1)) 2 (nN R + 1) (up eN (nN R) s1.1) := u3.fr (by omega) hx3 (fun _ _ => rfl) (e11_chg (own := own2) (W := [1]) s3 _ (by decide)) (by decide) (by decide)
    have hC4 : isC (e11 x s3 (sfi (sfi G 0 y) 18 1)) (x + 9) 1 = some () := xJ_C hl4
    have hC5 : fJx4a65c_size_8abf5_0 (e11 x s3 (sfi (sfi G 0 y) 18 1)) (x + 9) = some (Int32.ofNat (nN R + 1)) := xJ_size hl4
    simp only [z11_g10 hA2, Option.bind_some, t1, hC3', u1', z11_p18 hA3, or_true, if_true, z11_g10 hA4, hC4, hC5, ofNat_m1 (show 0 < nN R + 1 by omega), Nat.add_sub_cancel]
    have hE : Ext own own2 s1.1 := fun a ha => (u2 a (by omega)).trans (hE1 a ha)
    have hC3 : Chg x own [7, 17] s1 s3 := (hC12 own _).tr2 u4 hE1
    have hC : Chg x own [1, 7, 17] s1 (e11 x s3 (sfi (sfi G 0 y) 18 1)) := (hC3.mono (by decide)).trans (e11_chg s3 _ (by decide))
    have hR : Fr (48 :: 49 :: 51 :: 52 :: 53 :: 54 :: 55 :: SCR) R (u_notice R (nN R) v c d k t) := (((((((Fr.refl _ R).sai (by decide) _).sai (by decide) _).sai (by decide) _).sai (by decide) _).sai (by decide) _).sfi (by decide) _).sfi (by decide) _
    have q1 : nL (u_notice R (nN R) v c d k t) = nL R := rfl
    have q2 : nC (u_notice R (nN R) v c d k t) = nC R := rfl
    have q3 : nS (u_notice R (nN R) v c d k t) = nS R := rfl
    have q4 : nT (u_notice R (nN R) v c d k t) = nT R := rfl
    have q5 : nV (u_notice R (nN R) v c d k t) = nV R := rfl
    have q6 : nN (u_notice R (nN R) v c d k t) = nN R + 1 := c32 (by omega)
    have q7 : nX (u_notice R (nN R) v c d k t) = nX R := rfl
    have eai : ∀ i, (ai (u_notice R (nN R) v c d k t) 51 i = if i = nN R then v else ai R 51 i) ∧ (ai (u_notice R (nN R) v c d k t) 52 i = if i = nN R then c else ai R 52 i) ∧ (ai (u_notice R (nN R) v c d k t) 53 i = if i = nN R then d else ai R 53 i) ∧ (ai (u_notice R (nN R) v c d k t) 54 i = if i = nN R then k else ai R 54 i) ∧ (ai (u_notice R (nN R) v c d k t) 55 i = if i = nN R then t else ai R 55 i) := fun i => ⟨rfl, rfl, rfl, rfl, rfl⟩
    have h10 : (1 : Int32) ≠ 0 := by decide
    have e18 : fi (sfi (sfi G 0 y) 18 1) 18 = 1 := rfl
    obtain ⟨w1, w2, w3, w4, w5, w6, w7, w8, w9⟩ := hW
    refine ⟨_, own2, rfl, ⟨sfi (sfi G 0 y) 18 1, T, eC, eV, up eN (nN R) s1.1, eT, eS, ?_⟩, ?_⟩
    · unfold XWg
      rw [q1, q2, q3, q4, q5, q6, q7, e18]
      refine ⟨by have := hC.1; omega, g1.fr h0' hC (by decide), ?_, g3.fr hE hC (fun t ht => by intro q; simp only [List.mem_cons, List.not_mem_nil, or_false] at q; omega) hR (by decide), g4.fr h0' hC (by decide) hR (by decide), g5.fs w4.2.1 h0' hE hC ⟨by decide, by decide, (fun t ht => by intro q; simp only [List.mem_cons, List.not_mem_nil, or_false] at q; omega)⟩ hR (by decide) h10, g6.fr h0' hE hC (by decide) hR (by decide), ⟨hl4, fun i hi => ?_⟩, g8.fr w7.2 h0' hE hC ⟨by decide, by decide, (fun t ht => by intro q; simp only [List.mem_cons, List.not_mem_nil, or_false] at q; omega)⟩ hR (by decide) (hP.1 _ _ _ hR (by decide)), g9.fr w8.2.1 h0' hE hC ⟨by decide, by decide, (fun t ht => by intro q; simp only [List.mem_cons, List.not_mem_nil, or_false] at q; omega)⟩ hR (by decide), g10.fr hE hC (by decide) hR (by decide) (hP.2.1 _ _ _ hR (by decide)), g11.fr h0' hC (by decide) hR (by decide), g12.fr hE hC (by decide) hR (by decide), g13.fr hE hC (fun t ht => by intro q; simp only [List.mem_cons, List.not_mem_nil, or_false] at q; omega) hR (by decide)⟩
      · obtain ⟨b1, b2, b3, b4, b5, b6, b7, b8, b9, b10⟩ := g2
        exact ⟨hA4, b2, b3, b4, b5, b6, b7, b8, Or.inr rfl, b10⟩
      by_cases hin : i = nN R
      · subst hin
        rw [up_same]
        have ht : tg x own1 s1.1 = 100 + nN R := by unfold tg; rw [if_neg (by omega), if_neg (by omega)]; exact if_neg (by omega)
        refine ⟨_, A3_fr t5 (fun a ha => (e11_out _ _ (by omega)).trans (u4.2.2 a (by omega) (by rw [ha, ht]; intro q; simp only [List.mem_cons, List.not_mem_nil, or_false] at q; omega))), ⟨(ext_tg u2 (by omega)).trans ht, by show s1.1 < s3.1; have := u4.1; omega⟩, ?_, fun q => absurd q h10⟩
        obtain ⟨y1, y2, y3, y4, y5⟩ := eai (nN R)
        rw [y1, y2, y3, y4, y5]
        simp only [if_true]
        exact ⟨rfl, rfl, rfl, rfl, rfl⟩
      · rw [up_ne _ _ _ _ hin]
        obtain ⟨Gi, a1, ⟨a2, a3⟩, a4, a5⟩ := g7.2 i (by omega)
        refine ⟨Gi, A3_fr a1 (fun b hb => ?_), ⟨(ext_tg hE a3).trans a2, Nat.lt_of_lt_of_le a3 hC.1⟩, ?_, fun q => absurd q h10⟩
        · rw [hb]; exact hC.2.2 _ a3 (by rw [a2]; intro q; simp only [List.mem_cons, List.not_mem_nil, or_false] at q; omega)
        · obtain ⟨y1, y2, y3, y4, y5⟩ := eai i
          rw [y1, y2, y3, y4, y5]
          simp only [if_neg hin]
          exact a4
    · have hkp1 : Chg x own [1, 7, 17] σ s1 := by rw [← hs1]; exact e11_chg σ _ (by decide)
      exact (hkp1.trans hC).kp h.1 (by decide)
  · rw [if_neg h0, if_neg h0, show rf y (Int32.ofNat (nN R)) = -1 from if_neg h0]
    exact KI.no hP h hW _ _
end
