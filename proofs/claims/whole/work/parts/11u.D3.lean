theorem vau_s {α : Type} (f : Nat → α) (k : Nat) (v : α) : va_up f k v k = v := if_pos rfl
theorem vau_n {α : Type} {f : Nat → α} {k j : Nat} {v : α} (h : j ≠ k) : va_up f k v j = f j := if_neg h
section
variable {x : Nat} {own own' : Nat → Nat} {σ σ' : Hs} {R R' : Gs} {W L : List Nat}
theorem PC1.fs {nL nN nL' nN' nS i c : Nat} {bl bl' : Nat → Bool} {stale stale' : Int32} (h : PC1 x own σ R nL nN nS bl stale i c) (hE : Ext own own' σ.1) (hC : Chg x own W σ σ') (hW : 20 + i ∉ W) (hR : Fr L R R') (hL : ∀ k, k ∈ [13, 14, 15] → k ∉ L) (hs : stale' ≠ 0) : PC1 x own' σ' R' nL' nN' nS bl' stale' i c := by
  obtain ⟨G, T, nt, h1, h2, ⟨h3, h4⟩, h5, h6, h7, h8⟩ := h
  have hq : ∀ j, j < 7 → σ'.2.1 (c + j) = σ.2.1 (c + j) := fun j hj => hC.2.2 _ (by omega) (by rw [h3 j hj]; exact hW)
  refine ⟨G, T, nt, A1_fr h1 (fun a ha => ?_), A9_fr h2 (fun a ha => ?_), ⟨fun j hj => (ext_tg hE (by omega)).trans (h3 j hj), Nat.le_trans h4 hC.1⟩, ?_, ?_, h7, fun hst => absurd hst hs⟩
  · rcases ha with q | q | q
    · rw [q]; exact hq 0 (by omega)
    · rw [q]; exact hq 5 (by omega)
    · rw [q]; exact hq 6 (by omega)
  · rcases ha with q | q | q | q
    · rw [q]; exact hq 1 (by omega)
    · rw [q]; exact hq 2 (by omega)
    · rw [q]; exact hq 3 (by omega)
    · rw [q]; exact hq 4 (by omega)
  · rw [hR.ai 13 (hL _ (by decide)), hR.ai 14 (hL _ (by decide))]; exact h5
  · rw [hR.ai 14 (hL _ (by decide)), hR.ai 15 (hL _ (by decide))]; exact h6
theorem PC.fs {nL nN nL' nN' nS nC : Nat} {bl bl' : Nat → Bool} {stale stale' : Int32} {el : Nat → Nat} (h : PC x own σ R nL nN nS nC bl stale el) (h12 : nC ≤ 12) (hx : x + 78 ≤ σ.1) (hE : Ext own own' σ.1) (hC : Chg x own W σ σ') (hW : 5 ∉ W ∧ 15 ∉ W ∧ ∀ i, i < 12 → 20 + i ∉ W) (hR : Fr L R R') (hL : ∀ k, k ∈ [13, 14, 15] → k ∉ L) (hs : stale' ≠ 0) : PC x own' σ' R' nL' nN' nS nC bl' stale' el :=
  ⟨h.1.fr (by omega) hx hE hC hW.1 hW.2.1, fun i hi => (h.2 i hi).fs hE hC (hW.2.2 i (by omega)) hR hL hs⟩
theorem PN1.fs {nL nL' i a : Nat} {bl bl' : Nat → Bool} {stale stale' : Int32} (h : PN1 x own σ R nL bl stale i a) (hE : Ext own own' σ.1) (hC : Chg x own W σ σ') (hW : 100 + i ∉ W) (hR : Fr L R R') (hL : ∀ k, k ∈ [51, 52, 53, 54, 55] → k ∉ L) (hs : stale' ≠ 0) : PN1 x own' σ' R' nL' bl' stale' i a := by
  obtain ⟨G, h1, ⟨h2, h3⟩, h4, h5⟩ := h
  refine ⟨G, A3_fr h1 (fun b hb => ?_), ⟨(ext_tg hE h3).trans h2, Nat.lt_of_lt_of_le h3 hC.1⟩, ?_, fun hst => absurd hst hs⟩
  · rw [hb]; exact hC.2.2 a h3 (by rw [h2]; exact hW)
  · rw [hR.ai 51 (hL _ (by decide)), hR.ai 52 (hL _ (by decide)), hR.ai 53 (hL _ (by decide)), hR.ai 54 (hL _ (by decide)), hR.ai 55 (hL _ (by decide))]; exact h4
theorem PN.fs {nL nL' nN : Nat} {bl bl' : Nat → Bool} {stale stale' : Int32} {el : Nat → Nat} (h : PN x own σ R nL nN bl stale el) (h60 : nN ≤ 60) (hx : x + 78 ≤ σ.1) (hE : Ext own own' σ.1) (hC : Chg x own W σ σ') (hW : 7 ∉ W ∧ 17 ∉ W ∧ ∀ i, i < 60 → 100 + i ∉ W) (hR : Fr L R R') (hL : ∀ k, k ∈ [51, 52, 53, 54, 55] → k ∉ L) (hs : stale' ≠ 0) : PN x own' σ' R' nL' nN bl' stale' el :=
  ⟨h.1.fr (by omega) hx hE hC hW.1 hW.2.1, fun i hi => (h.2 i hi).fs hE hC (hW.2.2 i (by omega)) hR hL hs⟩
end
section
variable {P : Par} {x : Nat} {own : Nat → Nat} {σ : Hs} {R : Gs} {st : Int32}
theorem tru_perm (hW : RW R) {T : Gs} (h : PTt x σ R T (nL R)) : (tru R (nL R)).Perm (tt T (nL R)) := mm_perm hW.1.2.2.2.2 h.2.1.1.tok.2.2 (fun p q => (h.2.2 p q).symm)
theorem k_count (hP : P.ok) (hW : RW R) (h : XW P x own σ R st) (d s : Int32) : KI P x σ (rf (st_count (tru R (nL R)) d s) (Int32.ofInt (bg (tru R (nL R)) d.toInt + s.toInt))) (st_count (tru R (nL R)) d s) R (fX11_count_0 σ x d s) := by
  obtain ⟨G, T, eC, eV, eN, eT, eS, h⟩ := h
  have hA := h.2.2.1.at
  have h4 := h.2.2.2.2.1
  have hp := tru_perm hW h4
  have hTk := hW.1.2.2
  obtain ⟨r, s1, s2⟩ := x9_startOf (b := x + 3) (σ := σ) h4.2.1.1 d
  rw [show e9 (x + 3) σ T = σ from h4.1] at s1
  obtain ⟨l, l1, l2⟩ := x9_lengthOf (b := x + 3) (σ := σ) h4.2.1.1 d
  rw [show e9 (x + 3) σ T = σ from h4.1] at l1
  rw [← bg_perm hp] at s2
  rw [← kd_perm hp] at l2
  have hbb := bs_1 hTk d.toInt
  have hdr := r32 d
  have hsr := r32 s
  have es : (r + s.toInt64).toInt = bg (tru R (nL R)) d.toInt + s.toInt := by
    rw [add64, up64, s2]; rw [up64, s2]; unfold tru bg; omega
  have hst : fX11_countStatus_0 σ x d s = some (st_count (tru R (nL R)) d s) := by
    unfold fX11_countStatus_0
    simp only [x_isDay, x_isWithin, Option.bind_some, b2i_0, z11_g6 hA, z9_C h4.1, s1, l1, le64, le32, es, l2, Int64.reduceToInt, i0, i86400]
    unfold st_count
    (repeat' split) <;> (first | rfl | omega)
  unfold fX11_count_0
  simp only [z11_C hA, Option.bind_some, hst, z11_p0 hA]
  have hA2 : A11 x (sfi G 0 (st_count (tru R (nL R)) d s)) (e11 x σ (sfi G 0 (st_count (tru R (nL R)) d s))) := A11_self _ _
  simp only [z11_g0 hA2, Option.bind_some, q_fi_sfi, q_fl_sfi, q_fr_sfi, q_ai_sfi, q_al_sfi, q_ar_sfi, q_ln_sfi, q_fi_sfl, q_fl_sfl, q_fr_sfl, q_ai_sfl, q_al_sfl, q_ar_sfl, q_ln_sfl, q_fi_sfr, q_fl_sfr, q_fr_sfr, q_ai_sfr, q_al_sfr, q_ar_sfr, q_ln_sfr, q_fi_sai, q_fl_sai, q_fr_sai, q_ai_sai, q_al_sai, q_ar_sai, q_ln_sai, q_fi_sal, q_fl_sal, q_fr_sal, q_ai_sal, q_al_sal, q_ar_sal, q_ln_sal, q_fi_sar, q_fl_sar, q_fr_sar, q_ai_sar, q_al_sar, q_ar_sar, q_ln_sar, reduceIte, Nat.reduceEqDiff]
  by_cases h0 : st_count (tru R (nL R)) d s = 0
  · rw [if_pos h0]
    have hs := h.st hP hW (st_count (tru R (nL R)) d s)
    have h4' := hs.2.2.2.2.1
    obtain ⟨r', s1', s2'⟩ := x9_startOf (b := x + 3) (σ := e11 x σ (sfi G 0 (st_count (tru R (nL R)) d s))) h4'.2.1.1 d
    rw [show e9 (x + 3) (e11 x σ (sfi G 0 (st_count (tru R (nL R)) d s))) T = _ from h4'.1] at s1'
    have er : r' = r := by rw [eq64, s2', s2, bg_perm hp]
    simp only [z11_g6 hA2, z9_C h4'.1, Option.bind_some, s1', er]
    refine ⟨_, own, ?_, ⟨_, _, _, _, _, _, _, hs⟩, (e11_chg (own := own) (W := [1]) σ _ (by decide)).kp h.1 (by decide)⟩
    unfold rf
    rw [if_pos h0]
    have hrange : bg (tru R (nL R)) d.toInt + s.toInt ≤ 900000000 ∧ 0 ≤ d.toInt ∧ 0 ≤ s.toInt := by
      unfold st_count at h0
      split at h0
      · exact absurd h0 (by decide)
      · split at h0
        · exact absurd h0 (by decide)
        · omega
    refine congrArg some (congrArg (fun q => (q, _)) (ofI ?_).symm)
    rw [dn32, es]; rw [es]; unfold tru bg at *; omega
  · rw [if_neg h0, show rf (st_count (tru R (nL R)) d s) (Int32.ofInt (bg (tru R (nL R)) d.toInt + s.toInt)) = -1 from if_neg h0]
    exact KI.no hP h hW _ _
theorem xw_leap (hP : P.ok) {σ' : Hs} {R' : Gs} {st' : Int32} {G G' T T' : Gs} {eC eV eN eT eS : Nat → Nat} (h : XWg P x own σ R st G T eC eV eN eT eS) (hW : RW R) (hC : Chg x own [1, 2] σ σ') (hX : PX x σ' R' G' st') (hT : PTt x σ' R' T' (nL R')) (hR : Fr (5 :: 7 :: 8 :: SCR) R R') (hG : (ar G' 1 = ar G 1 ∧ ar G' 17 = ar G 17 ∧ fr G' 13 = fr G 13 ∧ fr G' 15 = fr G 15) ∧ fi G' 18 ≠ 0) : XWg P x own σ' R' st' G' T' eC eV eN eT eS := by
  obtain ⟨h0, h1, h2, h3, h4, h5, h6, h7, h8, h9, h10, h11, h12, h13⟩ := h
  obtain ⟨w1, w2, w3, w4, w5, w6, w7, w8, w9⟩ := hW
  have q2 : nC R' = nC R := by unfold nC; rw [hR.i 11 (by decide)]
  have q3 : nS R' = nS R := by unfold nS; rw [hR.i 12 (by decide)]
  have q4 : nT R' = nT R := by unfold nT; rw [hR.i 30 (by decide)]
  have q5 : nV R' = nV R := by unfold nV; rw [hR.i 47 (by decide)]
  have q6 : nN R' = nN R := by unfold nN; rw [hR.i 48 (by decide)]
  have q7 : nX R' = nX R := by unfold nX; rw [hR.i 56 (by decide)]
  have p1 := hP.1 _ R R' hR (by decide)
  have p2 := hP.2.1 _ R R' hR (by decide)
  have hE : Ext own own σ.1 := fun _ _ => rfl
  obtain ⟨⟨g1, g2, g3, g4⟩, g5⟩ := hG
  unfold XWg
  rw [q2, q3, q4, q5, q6, q7, g1, g2, g3, g4]
  exact ⟨Nat.le_trans h0 hC.1, h1.fr h0 hC (by decide), hX, h3.fr hE hC (fun t ht => nin2 (by omega)) hR (by decide), hT, h5.fs w4.2.1 h0 hE hC ⟨by decide, by decide, fun t ht => nin2 (by omega)⟩ hR (by decide) g5, h6.fr h0 hE hC (by decide) hR (by decide), h7.fs w2.2.1 h0 hE hC ⟨by decide, by decide, fun t ht => nin2 (by omega)⟩ hR (by decide) g5, h8.fr w7.2 h0 hE hC ⟨by decide, by decide, fun t ht => nin2 (by omega)⟩ hR (by decide) p1, h9.fr w8.2.1 h0 hE hC ⟨by decide, by decide, fun t ht => nin2 (by omega)⟩ hR (by decide), h10.fr hE hC (by decide) hR (by decide) p2, h11.fr h0 hC (by decide) hR (by decide), h12.fr hE hC (by decide) hR (by decide), h13.fr hE hC (fun t ht => nin2 (by omega)) hR (by decide)⟩
theorem nL_of {R : Gs} {n : Nat} (h : fi R 5 = Int32.ofNat n) (hn : n ≤ 20) : nL R = n := by unfold nL; rw [h, c32 (by omega)]
theorem k_leap (hP : P.ok) (hW : RW R) (h : XW P x own σ R st) (d k : Int32) (R' : Gs) (hR1 : st_leap (tru R (nL R)) (nL R) d k ≠ 0 → R' = R) (hR2 : st_leap (tru R (nL R)) (nL R) d k = 0 → PLeap R R' (nL R) d k) : KI P x σ (b2i (st_leap (tru R (nL R)) (nL R) d k = 0)) (st_leap (tru R (nL R)) (nL R) d k) R' (fX11_leap_0 σ x d k) := by
  obtain ⟨G, T, eC, eV, eN, eT, eS, h⟩ := h
  have hA := h.2.2.1.at
  have h4 := h.2.2.2.2.1
  have hp := tru_perm hW h4
  have hTk := hW.1.2.2
  obtain ⟨kk, s1, s2⟩ := x9_kindOf (b := x + 3) (σ := σ) h4.2.1.1 d
  have f1 := x9_isFull (b := x + 3) (σ := σ) h4.2.1.1
  rw [show e9 (x + 3) σ T = σ from h4.1] at s1 f1
  rw [← kd_perm hp] at s2
  have hk0 : (k = 0) = (k.toInt = 0) := by apply propext; rw [eq32, i0]
  have hkk : (kk = 0) = (kd (tru R (nL R)) d.toInt = 0) := by apply propext; rw [eq32, i0, s2]
  have h20 := hW.1.2.1
  have hst : fX11_leapStatus_0 σ x d k = some (st_leap (tru R (nL R)) (nL R) d k) := by
    unfold fX11_leapStatus_0 fX11_leapStatus_37
    simp only [x_isDay, x_isWithin, Option.bind_some, b2i_0, z11_g6 hA, z9_C h4.1, s1, f1, im1, i1, hk0, hkk]
    unfold st_leap
    (repeat' split) <;> (first | rfl | omega)
  unfold fX11_leap_0
  simp only [z11_C hA, Option.bind_some, hst, z11_p0 hA]
  generalize hv : st_leap (tru R (nL R)) (nL R) d k = v at *
  have hA2 : A11 x (sfi G 0 v) (e11 x σ (sfi G 0 v)) := A11_self _ _
  simp only [z11_g0 hA2, Option.bind_some, q_fi_sfi, q_fl_sfi, q_fr_sfi, q_ai_sfi, q_al_sfi, q_ar_sfi, q_ln_sfi, q_fi_sfl, q_fl_sfl, q_fr_sfl, q_ai_sfl, q_al_sfl, q_ar_sfl, q_ln_sfl, q_fi_sfr, q_fl_sfr, q_fr_sfr, q_ai_sfr, q_al_sfr, q_ar_sfr, q_ln_sfr, q_fi_sai, q_fl_sai, q_fr_sai, q_ai_sai, q_al_sai, q_ar_sai, q_ln_sai, q_fi_sal, q_fl_sal, q_fr_sal, q_ai_sal, q_al_sal, q_ar_sal, q_ln_sal, q_fi_sar, q_fl_sar, q_fr_sar, q_ai_sar, q_al_sar, q_ar_sar, q_ln_sar, reduceIte, Nat.reduceEqDiff, bb_0, bb_1]
  by_cases h0 : v = 0
  · rw [if_pos h0, show b2i (v = 0) = 1 from if_pos h0]
    obtain ⟨hF, n', hL', hM⟩ := hR2 h0
    have hs := h.st hP hW v
    have h4' := hs.2.2.2.2.1
    have hcond : (0 ≤ d.toInt ∧ d.toInt ≤ 9999) ∧ (-1 ≤ k.toInt ∧ k.toInt ≤ 1) ∧ (k.toInt = 0 ∨ nL R ≠ 20 ∨ kd (tru R (nL R)) d.toInt ≠ 0) := by
      rw [h0] at hv
      unfold st_leap at hv
      split at hv
      · exact absurd hv (by decide)
      · split at hv
        · exact absurd hv (by decide)
        · omega
    obtain ⟨T', nn, t1, t2, t3, -⟩ := x9_tell (b := x + 3) (σ := e11 x σ (sfi G 0 v)) h4'.2.1.1 d k hcond.1.1 hcond.1.2 (by rw [hk0]; omega) (by
      rcases hcond.2.2 with q | q | q
      · exact Or.inr (Or.inl (hk0.mpr q))
      · exact Or.inl (by omega)
      · right; right
        have := fun hn => q ((kd_mm hTk d).mpr hn)
        have : ∃ y, mm (nL R) (ai R 7) (ai R 8) d y := by
          apply Classical.byContradiction
          intro hn
          exact this (fun y hy => hn ⟨y, hy⟩)
        obtain ⟨y, hy⟩ := this
        exact ⟨y, (h4'.2.2 d y).mpr hy⟩)
    rw [show e9 (x + 3) (e11 x σ (sfi G 0 v)) T = e11 x σ (sfi G 0 v) from h4'.1] at t1
    have hA3 : A11 x (sfi G 0 v) (e9 (x + 3) (e11 x σ (sfi G 0 v)) T') := A11_fr hA2 (fun a ha => e9_out _ _ (by omega))
    simp only [z11_g6 hA2, z9_C h4'.1, Option.bind_some, t1, z11_p18 hA3, show ((1 : Int32) = 0 ∨ (1 : Int32) = 1) = True from propext ⟨fun _ => trivial, fun _ => Or.inr rfl⟩, if_true]
    have hMM : ∀ p q, mm nn (ai T' 0) (ai T' 1) p q ↔ mm n' (ai R' 7) (ai R' 8) p q := by
      intro p q
      rw [t3, hM, h4'.2.2]
    have hnn : nn = n' := mm_len (mm_perm t2.1.tok.2.2 hL'.2.2.2.2 hMM)
    subst hnn
    have hT5 : A9 (x + 3) T' (e11 x (e9 (x + 3) (e11 x σ (sfi G 0 v)) T') (sfi (sfi G 0 v) 18 1)) := A9_fr (A9_self _ _) (fun a ha => e11_out _ _ (by omega))
    have hC5 : Chg x own [1, 2] σ (e11 x (e9 (x + 3) (e11 x σ (sfi G 0 v)) T') (sfi (sfi G 0 v) 18 1)) := ((e11_chg σ _ (by decide)).trans (e9_chg _ _ (by decide))).trans (e11_chg _ _ (by decide))
    refine ⟨_, own, rfl, ⟨_, _, _, _, _, _, _, xw_leap hP h hW hC5 (G' := sfi (sfi G 0 v) 18 1) ?_ (T' := T') ⟨hT5, ?_, ?_⟩ hF ⟨⟨rfl, rfl, rfl, rfl⟩, show (1 : Int32) ≠ 0 by decide⟩⟩, hC5.kp h.1 (by decide)⟩
    · obtain ⟨b1, b2, b3, b4, b5, b6, b7, b8, b9, b10⟩ := h.2.2.1
      refine ⟨A11_self _ _, rfl, ?_, ?_, ?_, ?_, ?_, b8, Or.inr rfl, ?_⟩
      · rw [hF.i 17 (by decide)]; exact b3
      · rw [hF.i 19 (by decide)]; exact b4
      · rw [hF.i 20 (by decide)]; exact b5
      · rw [hF.i 12 (by decide)]; exact b6
      · rw [hF.i 91 (by decide)]; exact b7
      · rw [hF.i 17 (by decide), hF.ai 16 (by decide)]; exact b10
    · rw [nL_of hL'.1 hL'.2.1]; exact t2
    · rw [nL_of hL'.1 hL'.2.1]; exact hMM
  · rw [if_neg h0, show b2i (v = 0) = 0 from if_neg h0, hR1 h0]
    exact KI.no hP h hW _ _
end
