section
variable {P : Par} {x : Nat} {own : Nat → Nat} {σ : Hs} {R : Gs} {st : Int32}
theorem x_isLand (σ : Hs) (t : Int32) : fX11_isLand_0 σ t = some (b2i (0 ≤ t.toInt ∧ t.toInt ≤ 3)) := by
  unfold fX11_isLand_0 b2i
  simp only [lt32, le32, i0, i4]
  (repeat' split) <;> (first | rfl | omega)
theorem i365 : (365 : Int32).toInt = 365 := rfl
theorem im720 : (-720 : Int32).toInt = -720 := rfl
theorem i840 : (840 : Int32).toInt = 840 := rfl
theorem k_land (hP : P.ok) (hW : RW R) (h : XW P x own σ R st) (hbl : ∀ l o f t, P.2.2 (u_land R l o f t) = P.2.2 R) (l o f t : Int32) : KI P x σ (b2i (st_land l o f t = 0)) (st_land l o f t) (if st_land l o f t = 0 then u_land R l o f t else R) (fX11_land_0 σ x l o f t) := by
  obtain ⟨G, T, eC, eV, eN, eT, eS, h⟩ := h
  have hA := h.2.2.1.at
  have hst : fX11_newLandStatus_0 σ l o f t = some (st_land l o f t) := by
    unfold fX11_newLandStatus_0
    simp only [x_isLand, x_isWithin, Option.bind_some, b2i_0, lt32, le32, i0, i365, im720, i840]
    unfold st_land
    (repeat' split) <;> (first | rfl | omega)
  unfold fX11_land_0
  simp only [hst, Option.bind_some, z11_p0 hA]
  generalize hv : st_land l o f t = v at *
  have hA2 : A11 x (sfi G 0 v) (e11 x σ (sfi G 0 v)) := A11_self _ _
  simp only [z11_g0 hA2, Option.bind_some, q_fi_sfi, q_fl_sfi, q_fr_sfi, q_ai_sfi, q_al_sfi, q_ar_sfi, q_ln_sfi, q_fi_sfl, q_fl_sfl, q_fr_sfl, q_ai_sfl, q_al_sfl, q_ar_sfl, q_ln_sfl, q_fi_sfr, q_fl_sfr, q_fr_sfr, q_ai_sfr, q_al_sfr, q_ar_sfr, q_ln_sfr, q_fi_sai, q_fl_sai, q_fr_sai, q_ai_sai, q_al_sai, q_ar_sai, q_ln_sai, q_fi_sal, q_fl_sal, q_fr_sal, q_ai_sal, q_al_sal, q_ar_sal, q_ln_sal, q_fi_sar, q_fl_sar, q_fr_sar, q_ai_sar, q_al_sar, q_ar_sar, q_ln_sar, reduceIte, Nat.reduceEqDiff, bb_0, bb_1]
  by_cases h0 : v = 0
  · rw [if_pos h0, if_pos h0, show b2i (v = 0) = 1 from if_pos h0]
    have hcond : 0 ≤ l.toInt ∧ l.toInt ≤ 3 := by
      rw [h0] at hv; unfold st_land at hv
      split at hv
      · exact absurd hv (by decide)
      · omega
    obtain ⟨tn, rfl, htn, ht⟩ := get32 l (by omega)
    have hs := h.st hP hW v
    generalize hs1 : e11 x σ (sfi G 0 v) = s1 at *
    have e1 : s1.1 = σ.1 := by rw [← hs1]; rfl
    obtain ⟨h0', g1, g2, g3, g4, g5, g6, g7, g8, g9, g10, g11, g12, g13⟩ := hs
    obtain ⟨s2, t1, t2, t3, t4, t5⟩ := x2_new s1 o f t
    have hA3 : A11 x (sfi G 0 v) s2 := A11_fr hA2 (fun a ha => t4 a (by omega))
    have l1 : ln (sfi G 0 v) 17 = 4 := g2.2.2.2.2.2.2.2.1.2.2
    simp only [z11_g17 hA2, Option.bind_some, t1, z11_s17 hA3 (z2_C t5), l1, ix_n htn, decide_eq_true (show tn < 4 by omega), if_true, c32 htn]
    generalize hG3 : sar (sfi G 0 v) 17 (up (ar (sfi G 0 v) 17) tn (some s1.1)) = G3
    have a1 : ar G3 17 = up (ar G 17) tn (some s1.1) := by rw [← hG3]; rfl
    let own1 : Nat → Nat := fun a => if a < σ.1 then own a else 330 + tn
    have hE : Ext own own1 s1.1 := fun a ha => if_pos (by omega)
    have hC : Chg x own [1] s1 (e11 x s2 G3) := ⟨by show s1.1 ≤ s2.1; omega, t3, fun a ha hna => (e11_out _ _ (fun q => hna (by rw [tg_x q]; exact List.mem_cons_self))).trans (t4 a ha)⟩
    generalize hU : u_land R (Int32.ofNat tn) o f t = R'
    have hR : Fr (84 :: 85 :: 86 :: SCR) R R' := by rw [← hU]; exact (((Fr.refl _ R).sai (by decide) _).sai (by decide) _).sai (by decide) _
    have f84 : ∀ i, ai R' 84 i = if i = tn then o else ai R 84 i := by intro i; rw [← hU]; unfold u_land; rw [c32 htn]; rfl
    have f85 : ∀ i, ai R' 85 i = if i = tn then f else ai R 85 i := by intro i; rw [← hU]; unfold u_land; rw [c32 htn]; rfl
    have f86 : ∀ i, ai R' 86 i = if i = tn then t else ai R 86 i := by intro i; rw [← hU]; unfold u_land; rw [c32 htn]; rfl
    have fb : P.2.2 R' = P.2.2 R := by rw [← hU]; exact hbl _ _ _ _
    have hNn : nL R' = nL R ∧ nC R' = nC R ∧ nS R' = nS R ∧ nT R' = nT R ∧ nV R' = nV R ∧ nN R' = nN R ∧ nX R' = nX R := by rw [← hU]; exact ⟨rfl, rfl, rfl, rfl, rfl, rfl, rfl⟩
    have p13 : fr G3 13 = fr G 13 := by rw [← hG3]; rfl
    have p15 : fr G3 15 = fr G 15 := by rw [← hG3]; rfl
    have p17 : ar G3 1 = ar G 1 := by rw [← hG3]; rfl
    have p18 : fi G3 18 = fi G 18 := by rw [← hG3]; rfl
    obtain ⟨w1, w2, w3, w4, w5, w6, w7, w8, w9⟩ := hW
    refine ⟨_, own1, rfl, ⟨G3, T, eC, eV, eN, eT, eS, ?_⟩, ?_⟩
    · unfold XWg
      rw [hNn.1, hNn.2.1, hNn.2.2.1, hNn.2.2.2.1, hNn.2.2.2.2.1, hNn.2.2.2.2.2.1, hNn.2.2.2.2.2.2, fb, a1, p13, p15, p17, p18]
      refine ⟨by have := hC.1; omega, g1.fr h0' hC (by decide), ?_, g3.fr hE hC (fun t ht => by intro q; simp only [List.mem_cons, List.not_mem_nil, or_false] at q; omega) hR (by decide), g4.fr h0' hC (by decide) hR (by decide), g5.fr w4.2.1 h0' hE hC ⟨by decide, by decide, (fun t ht => by intro q; simp only [List.mem_cons, List.not_mem_nil, or_false] at q; omega)⟩ hR (by decide) (fun q => q), g6.fr h0' hE hC (by decide) hR (by decide), g7.fr w2.2.1 h0' hE hC ⟨by decide, by decide, (fun t ht => by intro q; simp only [List.mem_cons, List.not_mem_nil, or_false] at q; omega)⟩ hR (by decide) (fun q => q), g8.fr w7.2 h0' hE hC ⟨by decide, by decide, (fun t ht => by intro q; simp only [List.mem_cons, List.not_mem_nil, or_false] at q; omega)⟩ hR (by decide) (hP.1 _ _ _ hR (by decide)), g9.fr w8.2.1 h0' hE hC ⟨by decide, by decide, (fun t ht => by intro q; simp only [List.mem_cons, List.not_mem_nil, or_false] at q; omega)⟩ hR (by decide), g10.fr hE hC (by decide) hR (by decide) (hP.2.1 _ _ _ hR (by decide)), g11.fr h0' hC (by decide) hR (by decide), g12.fr hE hC (by decide) hR (by decide), fun i hi => ?_⟩
      · obtain ⟨b1, b2, b3, b4, b5, b6, b7, b8, b9, b10⟩ := g2
        refine ⟨A11_self _ _, ?_, ?_, ?_, ?_, ?_, ?_, ?_, ?_, ?_⟩
        · rw [← hG3]; rfl
        · rw [← hG3, hR.i 17 (by decide)]; exact b3
        · rw [← hG3, hR.i 19 (by decide)]; exact b4
        · rw [← hG3, hR.i 20 (by decide)]; exact b5
        · rw [← hG3, hR.i 12 (by decide)]; exact b6
        · rw [← hG3, hR.i 91 (by decide)]; exact b7
        · rw [← hG3]; exact b8
        · rw [← hG3]; exact b9
        · rw [hR.i 17 (by decide), hR.ai 16 (by decide), ← hG3]; exact b10
      · by_cases hin : i = tn
        · subst hin
          refine ⟨s1.1, _, up_same _ _ _, A2_fr t5 (fun a ha => e11_out _ _ (by omega)), ⟨?_, by show s1.1 < s2.1; omega⟩, ?_, ?_, ?_⟩
          · unfold tg; rw [if_neg (by omega), if_neg (by omega)]; exact if_neg (by omega)
          · rw [f84, if_pos rfl]; rfl
          · rw [f85, if_pos rfl]; rfl
          · rw [f86, if_pos rfl]; rfl
        · rw [up_ne _ _ _ _ hin]
          obtain ⟨a, Gl, y1, y2, ⟨y3, y4⟩, y5, y6, y7⟩ := g13 i hi
          refine ⟨a, Gl, y1, A2_fr y2 (fun b hb => ?_), ⟨(ext_tg hE y4).trans y3, Nat.lt_of_lt_of_le y4 hC.1⟩, ?_, ?_, ?_⟩
          · rw [hb]; exact hC.2.2 _ y4 (by rw [y3]; intro q; simp only [List.mem_cons, List.not_mem_nil, or_false] at q; omega)
          · rw [f84, if_neg hin]; exact y5
          · rw [f85, if_neg hin]; exact y6
          · rw [f86, if_neg hin]; exact y7
    · have hkp1 : Chg x own [1] σ s1 := by rw [← hs1]; exact e11_chg σ _ (by decide)
      exact (hkp1.trans hC).kp h.1 (by decide)
  · rw [if_neg h0, if_neg h0, show b2i (v = 0) = 0 from if_neg h0]
    exact KI.no hP h hW _ _
theorem x_valueOf {s : Hs} (hO : PO x s) (k : Nat) (hk : k ≤ 15) : ∃ a, fJ6_valueOf_2dffe_0 s (Int32.ofNat k) = some a ∧ a < x ∧ ∃ F, s.2.1 a = .inr (700 + k, F) ∧ F 0 = .int (Int32.ofNat k) := by
  obtain ⟨vS, ad, -, ⟨o1, o2⟩, -, o3⟩ := hO
  obtain ⟨a1, a2⟩ := o3 k (by omega)
  have l128 : (128 : Int32) = Int32.ofNat 128 := rfl
  refine ⟨ad (128 + k), ?_, a1, _, a2, ?_⟩
  · unfold fJ6_valueOf_2dffe_0
    rw [if_neg (by rw [lt32, n32 (by omega)]; show ¬ (k : Int) < -128; omega), if_neg (by rw [lt32, n32 (by omega)]; show ¬ (127 : Int) < k; omega), l128, add_n]
    unfold oAN oA
    rw [o2]
    simp only [ix_n (show k + 128 < 2147483648 by omega), c32 (show k + 128 < 2147483648 by omega)]
    rw [if_pos ⟨by omega, by show decide (k + 128 < 256) = true; simp; omega⟩, Option.bind_some, Nat.add_comm k 128]
    rfl
  · show Value.int (vb_c (128 + k)) = _
    unfold vb_c
    rw [Int32.ofNat_add, l128, Int32.add_comm, Int32.add_sub_cancel]
theorem k_server (hP : P.ok) (hW : RW R) (h : XW P x own σ R st) (hbl : ∀ s, P.2.2 (u_server R (nV R) s) = P.2.2 R) (s : Int32) : KI P x σ (rf (st_server (nV R) s) (Int32.ofNat (nV R))) (st_server (nV R) s) (if st_server (nV R) s = 0 then u_server R (nV R) s else R) (fX11_server_0 σ x s) := by
  obtain ⟨G, T, eC, eV, eN, eT, eS, h⟩ := h
  have hA := h.2.2.1.at
  have h8 := hW.2.2.2.2.1.2
  have hpV := h.2.2.2.2.2.2.1
  have hC1 : isC σ (x + 8) 1 = some () := xJ_C hpV.1
  have hC2 : fJx4a65c_size_8abf5_0 σ (x + 8) = some (Int32.ofNat (nV R)) := xJ_size hpV.1
  have i15 : (15 : Int32).toInt = 15 := rfl
  have hst : fX11_moreStatus_0 σ (b2i (0 ≤ s.toInt ∧ s.toInt ≤ 15)) (Int32.ofNat (nV R)) 8 = some (st_server (nV R) s) := by
    rw [l8, x_more σ _ (by omega) (by omega)]
    unfold st_server
    (repeat' split) <;> (first | rfl | omega)
  unfold fX11_server_0
  simp only [x_isWithin, i0, i15, z11_g9 hA, hC1, hC2, hst, Option.bind_some, z11_p0 hA]
  generalize hv : st_server (nV R) s = v at *
  have hA2 : A11 x (sfi G 0 v) (e11 x σ (sfi G 0 v)) := A11_self _ _
  simp only [z11_g0 hA2, Option.bind_some, q_fi_sfi, q_fl_sfi, q_fr_sfi, q_ai_sfi, q_al_sfi, q_ar_sfi, q_ln_sfi, q_fi_sfl, q_fl_sfl, q_fr_sfl, q_ai_sfl, q_al_sfl, q_ar_sfl, q_ln_sfl, q_fi_sfr, q_fl_sfr, q_fr_sfr, q_ai_sfr, q_al_sfr, q_ar_sfr, q_ln_sfr, q_fi_sai, q_fl_sai, q_fr_sai, q_ai_sai, q_al_sai, q_ar_sai, q_ln_sai, q_fi_sal, q_fl_sal, q_fr_sal, q_ai_sal, q_al_sal, q_ar_sal, q_ln_sal, q_fi_sar, q_fl_sar, q_fr_sar, q_ai_sar, q_al_sar, q_ar_sar, q_ln_sar, reduceIte, Nat.reduceEqDiff]
  by_cases h0 : v = 0
  · rw [if_pos h0, if_pos h0, show rf v (Int32.ofNat (nV R)) = Int32.ofNat (nV R) from if_pos h0]
    have hcond : (0 ≤ s.toInt ∧ s.toInt ≤ 15) ∧ nV R < 8 := by
      rw [h0] at hv; unfold st_server at hv
      split at hv
      · exact absurd hv (by decide)
      · split at hv
        · exact absurd hv (by decide)
        · omega
    obtain ⟨sn, rfl, hsn, hsI⟩ := get32 s (by omega)
    have hs := h.st hP hW v
    generalize hs1 : e11 x σ (sfi G 0 v) = s1 at *
    obtain ⟨h0', g1, g2, g3, g4, g5, g6, g7, g8, g9, g10, g11, g12, g13⟩ := hs
    obtain ⟨a, t1, t2, F, t3, t4⟩ := x_valueOf g1 sn (by omega)
    have hany : anyO s1 a = some () := by unfold anyO; rw [t3]; exact if_pos (Or.inr ⟨by omega, by omega⟩)
    have hel : ∀ i, i < nV R → anyO s1 (eV i) = some () ∧ eV i < s1.1 := by
      intro i hi
      obtain ⟨q1, q2, F2, q3, q4⟩ := g6.2 i hi
      obtain ⟨sk, q5, q6, q7⟩ := get32 (ai R 50 i) q1.1
      refine ⟨?_, by omega⟩
      unfold anyO; rw [q3]
      refine if_pos (Or.inr ⟨by omega, ?_⟩)
      rw [q5, c32 q6]; omega
    obtain ⟨s3, own2, u1, u2, u3, u4⟩ := xJ_add g6.1 (by omega) (by omega) g1 h0' hel (v := a) hany (by omega)
    have hA3 : A11 x (sfi G 0 v) s3 := A11_fr hA2 (fun a ha => u4.2.2 a (by omega) (by rw [tg_x ha]; decide))
    have hC3' : isC s1 (x + 8) 1 = some () := xJ_C g6.1
    have u1' : fJx4a65c_add_9ea2d_0 s1 (x + 8) a = some (1, s3) := u1
    have hC4 : isC s3 (x + 8) 1 = some () := xJ_C u3
    have hC5 : fJx4a65c_size_8abf5_0 s3 (x + 8) = some (Int32.ofNat (nV R + 1)) := xJ_size u3
    simp only [z11_g9 hA2, Option.bind_some, t1, hC3', u1', z11_g9 hA3, hC4, hC5, ofNat_m1 (show 0 < nV R + 1 by omega), Nat.add_sub_cancel]
    have hE := u2
    have hC : Chg x own [6, 16] s1 s3 := u4
    generalize hU : u_server R (nV R) (Int32.ofNat sn) = R'
    have hR : Fr (47 :: 50 :: SCR) R R' := by rw [← hU]; exact ((Fr.refl _ R).sai (by decide) _).sfi (by decide) _
    have q1 : nL R' = nL R := by rw [← hU]; rfl
    have q2 : nC R' = nC R := by rw [← hU]; rfl
    have q3 : nS R' = nS R := by rw [← hU]; rfl
    have q4 : nT R' = nT R := by rw [← hU]; rfl
    have q5 : nV R' = nV R + 1 := by rw [← hU]; exact c32 (by omega)
    have q6 : nN R' = nN R := by rw [← hU]; rfl
    have q7 : nX R' = nX R := by rw [← hU]; rfl
    have fb : P.2.2 R' = P.2.2 R := by rw [← hU]; exact hbl _
    have e50 : ∀ i, ai R' 50 i = if i = nV R then Int32.ofNat sn else ai R 50 i := by intro i; rw [← hU]; rfl
    obtain ⟨w1, w2, w3, w4, w5, w6, w7, w8, w9⟩ := hW
    refine ⟨s3, own2, rfl, ⟨sfi G 0 v, T, eC, up eV (nV R) a, eN, eT, eS, ?_⟩, ?_⟩
    · unfold XWg
      rw [q1, q2, q3, q4, q5, q6, q7, fb]
      refine ⟨by have := hC.1; omega, g1.fr h0' hC (by decide), g2.fr h0' hC (by decide) hR (by decide), g3.fr hE hC (fun t ht => by intro q; simp only [List.mem_cons, List.not_mem_nil, or_false] at q; omega) hR (by decide), g4.fr h0' hC (by decide) hR (by decide), g5.fr w4.2.1 h0' hE hC ⟨by decide, by decide, (fun t ht => by intro q; simp only [List.mem_cons, List.not_mem_nil, or_false] at q; omega)⟩ hR (by decide) (fun q => q), ⟨u3, fun i hi => ?_⟩, g7.fr w2.2.1 h0' hE hC ⟨by decide, by decide, (fun t ht => by intro q; simp only [List.mem_cons, List.not_mem_nil, or_false] at q; omega)⟩ hR (by decide) (fun q => q), g8.fr w7.2 h0' hE hC ⟨by decide, by decide, (fun t ht => by intro q; simp only [List.mem_cons, List.not_mem_nil, or_false] at q; omega)⟩ hR (by decide) (hP.1 _ _ _ hR (by decide)), g9.fr w8.2.1 h0' hE hC ⟨by decide, by decide, (fun t ht => by intro q; simp only [List.mem_cons, List.not_mem_nil, or_false] at q; omega)⟩ hR (by decide), g10.fr hE hC (by decide) hR (by decide) (hP.2.1 _ _ _ hR (by decide)), g11.fr h0' hC (by decide) hR (by decide), g12.fr hE hC (by decide) hR (by decide), g13.fr hE hC (fun t ht => by intro q; simp only [List.mem_cons, List.not_mem_nil, or_false] at q; omega) hR (by decide)⟩
      have hold : ∀ b, b < x → s3.2.1 b = s1.2.1 b := fun b hb => hC.2.2 b (by omega) (by unfold tg; rw [if_pos hb]; decide)
      by_cases hin : i = nV R
      · subst hin
        rw [up_same, e50, if_pos rfl]
        exact ⟨by omega, t2, F, by rw [hold a t2, c32 hsn]; exact t3, t4⟩
      · rw [up_ne _ _ _ _ hin, e50, if_neg hin]
        obtain ⟨r1, r2, F2, r3, r4⟩ := g6.2 i (by omega)
        exact ⟨r1, r2, F2, by rw [hold _ r2]; exact r3, r4⟩
    · have hkp1 : Chg x own [1, 6, 16] σ s1 := by rw [← hs1]; exact e11_chg σ _ (by decide)
      exact (hkp1.trans (hC.mono (by decide))).kp h.1 (by decide)
  · rw [if_neg h0, if_neg h0, show rf v (Int32.ofNat (nV R)) = -1 from if_neg h0]
    exact KI.no hP h hW _ _
theorem k_fault (h : XW P x own σ R st) (w : Int32) : fX11_fault_0 σ x w = some (if w = 0 then fi R 19 else if w = 1 then fi R 20 else -1) := by
  obtain ⟨G, T, eC, eV, eN, eT, eS, h⟩ := h
  have hA := h.2.2.1.at
  unfold fX11_fault_0
  simp only [z11_g4 hA, z11_g5 hA, Option.bind_some, h.2.2.1.2.2.2.1, h.2.2.1.2.2.2.2.1]
  (repeat' split) <;> rfl
theorem k_ran (hP : P.ok) (hW : RW R) (h : XW P x own σ R st) (w : Int32) : KI P x σ (rf (st_ran R w) (if w = 0 then fi R 69 else if w = 1 then fi R 70 else fi R 71)) (st_ran R w) R (fX11_ran_0 σ x w) := by
  obtain ⟨G, T, eC, eV, eN, eT, eS, h⟩ := h
  have hA := h.2.2.1.at
  have hU := h.2.2.2.2.2.2.2.2.2.2.2.1
  obtain ⟨U, u1, u2, u3, u4, u5⟩ := hU
  have h37 : ∀ v, (v ≠ 0 ∨ (v = 0 ∧ 0 ≤ (fi R 68).toInt)) → KI P x σ (rf v (if w = 0 then fi R 69 else if w = 1 then fi R 70 else fi R 71)) v R (fX11_ran_37 (e11 x σ (sfi G 0 v)) x w) := by
    intro v hv
    have hA2 : A11 x (sfi G 0 v) (e11 x σ (sfi G 0 v)) := A11_self _ _
    have hU2 : A7 (x + 12) U (e11 x σ (sfi G 0 v)) := A7_fr u1 (fun a ha => e11_out _ _ (by omega))
    unfold fX11_ran_37
    simp only [z11_g0 hA2, z11_g14 hA2, z7_g3 hU2, z7_g6 hU2, z7_g7 hU2, Option.bind_some, q_fi_sfi, q_fl_sfi, q_fr_sfi, q_ai_sfi, q_al_sfi, q_ar_sfi, q_ln_sfi, q_fi_sfl, q_fl_sfl, q_fr_sfl, q_ai_sfl, q_al_sfl, q_ar_sfl, q_ln_sfl, q_fi_sfr, q_fl_sfr, q_fr_sfr, q_ai_sfr, q_al_sfr, q_ar_sfr, q_ln_sfr, q_fi_sai, q_fl_sai, q_fr_sai, q_ai_sai, q_al_sai, q_ar_sai, q_ln_sai, q_fi_sal, q_fl_sal, q_fr_sal, q_ai_sal, q_al_sal, q_ar_sal, q_ln_sal, q_fi_sar, q_fl_sar, q_fr_sar, q_ai_sar, q_al_sar, q_ar_sar, q_ln_sar, reduceIte, Nat.reduceEqDiff]
    rcases hv with hv | ⟨hv, hv2⟩
    · rw [if_neg hv, show rf v _ = -1 from if_neg hv]; exact KI.no hP h hW _ _
    · rw [if_pos hv, show rf v _ = _ from if_pos hv]
      have e7 := (u5 hv2).1
      rcases u3 with ⟨q1, q2⟩ | ⟨c, q1, q2, q3, q4⟩
      · omega
      · rw [q3, q4, e7]
        split
        · exact KI.no hP h hW _ _
        · split
          · exact KI.no hP h hW _ _
          · exact KI.no hP h hW _ _
  unfold fX11_ran_0
  simp only [x_isWithin, Option.bind_some, b2i_0, i0, i2, z11_p0 hA, z11_g14 hA, z7_g1 u1]
  by_cases k1 : 0 ≤ w.toInt ∧ w.toInt ≤ 2
  · simp only [k1, and_self, not_true_eq_false, if_false, reduceIte]
    by_cases k2 : fr U 1 = none
    · have hneg : (fi R 68).toInt < 0 := by
        rcases u3 with ⟨q1, q2⟩ | ⟨c, q1, _⟩
        · exact q2
        · rw [k2] at q1; exact absurd q1 (by simp)
      rw [if_pos k2]
      have e : st_ran R w = 8 := (by unfold st_ran; (repeat' split) <;> (first | rfl | omega))
      rw [e]; exact h37 8 (Or.inl (by decide))
    · have hpos : 0 ≤ (fi R 68).toInt := by
        rcases u3 with ⟨q1, q2⟩ | ⟨c, q1, q2, _⟩
        · exact absurd q1 k2
        · exact q2
      rw [if_neg k2]
      have e : st_ran R w = 0 := (by unfold st_ran; (repeat' split) <;> (first | rfl | omega))
      rw [e]; exact h37 0 (Or.inr ⟨rfl, hpos⟩)
  · simp only [k1, not_false_eq_true, if_true, reduceIte]
    have e : st_ran R w = 5 := (by unfold st_ran; (repeat' split) <;> (first | rfl | omega))
    rw [e]; exact h37 5 (Or.inl (by decide))
end
