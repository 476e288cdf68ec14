theorem any_o {σ : Hs} {b ci : Nat} {ks : Nat → Nat} {as : List (Nat × Nat × Nat)} {G : Gs} (h : At ci ks as b G σ) (hc : ci < 15) : anyO σ b = some () := by
  have q := eX_o (ci := ci) (ks := ks) (as := as) (b := b) σ G
  rw [show eX ci ks as b σ G = σ from h] at q
  unfold anyO; rw [q]; unfold oX
  exact if_pos (Or.inl hc)
section
variable {P : Par} {x : Nat} {own : Nat → Nat} {σ : Hs} {R : Gs} {st : Int32}
theorem x_isClock {G : Gs} {n : Nat} {el : Nat → Nat} (hA : A11 x G σ) (hL : PLs x own σ 0 n el) (hn : n ≤ 12) (c : Int32) : fX11_isClock_0 σ x c = some (b2i (0 ≤ c.toInt ∧ c.toInt < n)) := by
  have h1 : isC σ (x + 7) 1 = some () := xJ_C hL
  have h2 : fJx4a65c_size_8abf5_0 σ (x + 7) = some (Int32.ofNat n) := xJ_size hL
  unfold fX11_isClock_0 b2i
  simp only [z11_g7 hA, h1, h2, Option.bind_some, lt32, le32, i0, n32 (show n < 2147483648 by omega)]
  (repeat' split) <;> (first | rfl | omega)
theorem x_more (σ : Hs) (p : Prop) [Decidable p] {n k : Nat} (hn : n ≤ 100) (hk : k ≤ 100) : fX11_moreStatus_0 σ (b2i p) (Int32.ofNat n) (Int32.ofNat k) = some (if ¬ p then 5 else if n < k then 0 else 7) := by
  unfold fX11_moreStatus_0
  simp only [b2i_0, lt_n (show n < 2147483648 by omega) (show k < 2147483648 by omega)]
  (repeat' split) <;> rfl
theorem PX.new {G : Gs} {σ' : Hs} {R' : Gs} {W L : List Nat} (h : PX x σ R G st) (hx : x + 78 ≤ σ.1) (hC : Chg x own W σ σ') (hW : 1 ∉ W) (hR : Fr L R R') (hL : ∀ k, k ∈ [12, 16, 17, 19, 20, 91] → k ∉ L) : PX x σ' R' G st := h.fr hx hC hW hR hL
theorem k_clock (hP : P.ok) (hW : RW R) (h : XW P x own σ R st) (hbl : ∀ w, P.2.2 (u_clock R (nC R) w) = P.2.2 R) (w : Int32) : KI P x σ (rf (st_clock (nC R) w) (Int32.ofNat (nC R))) (st_clock (nC R) w) (if st_clock (nC R) w = 0 then u_clock R (nC R) w else R) (fX11_clock_0 σ x w) := by
  obtain ⟨G, T, eC, eV, eN, eT, eS, h⟩ := h
  have hA := h.2.2.1.at
  have h12 := hW.2.2.2.1.2.1
  have hC1 : isC σ (x + 7) 1 = some () := xJ_C h.2.2.2.2.2.1.1
  have hC2 : fJx4a65c_size_8abf5_0 σ (x + 7) = some (Int32.ofNat (nC R)) := xJ_size h.2.2.2.2.2.1.1
  have hst : fX11_moreStatus_0 σ (b2i (0 ≤ w.toInt ∧ w.toInt ≤ 3)) (Int32.ofNat (nC R)) 12 = some (st_clock (nC R) w) := by
    rw [l12, x_more σ _ (by omega) (by omega)]
    unfold st_clock
    (repeat' split) <;> (first | rfl | omega)
  unfold fX11_clock_0
  simp only [x_isWithin, i0, i3, z11_g7 hA, hC1, hC2, hst, Option.bind_some, z11_p0 hA]
  generalize hv : st_clock (nC R) w = v at *
  have hA2 : A11 x (sfi G 0 v) (e11 x σ (sfi G 0 v)) := A11_self _ _
  simp only [z11_g0 hA2, Option.bind_some, q_fi_sfi, q_fl_sfi, q_fr_sfi, q_ai_sfi, q_al_sfi, q_ar_sfi, q_ln_sfi, q_fi_sfl, q_fl_sfl, q_fr_sfl, q_ai_sfl, q_al_sfl, q_ar_sfl, q_ln_sfl, q_fi_sfr, q_fl_sfr, q_fr_sfr, q_ai_sfr, q_al_sfr, q_ar_sfr, q_ln_sfr, q_fi_sai, q_fl_sai, q_fr_sai, q_ai_sai, q_al_sai, q_ar_sai, q_ln_sai, q_fi_sal, q_fl_sal, q_fr_sal, q_ai_sal, q_al_sal, q_ar_sal, q_ln_sal, q_fi_sar, q_fl_sar, q_fr_sar, q_ai_sar, q_al_sar, q_ar_sar, q_ln_sar, reduceIte, Nat.reduceEqDiff]
  by_cases h0 : v = 0
  · rw [if_pos h0, if_pos h0, show rf v (Int32.ofNat (nC R)) = Int32.ofNat (nC R) from if_pos h0]
    have hcond : (0 ≤ w.toInt ∧ w.toInt ≤ 3) ∧ nC R < 12 := by
      rw [h0] at hv; unfold st_clock at hv
      split at hv
      · exact absurd hv (by decide)
      · split at hv
        · exact absurd hv (by decide)
        · omega
    have hs := h.st hP hW v
    generalize hs1 : e11 x σ (sfi G 0 v) = s1 at *
    have e1 : s1.1 = σ.1 := by rw [← hs1]; rfl
    obtain ⟨h0', g1, g2, g3, g4, g5, g6, g7, g8, g9, g10, g11, g12, g13⟩ := hs
    obtain ⟨s2, t1, t2, t3, t4, t5, t6⟩ := x1_new s1 w
    have hC12 : ∀ (o : Nat → Nat) (W : List Nat), Chg x o W s1 s2 := fun o W => ⟨by omega, t3, fun a ha _ => t4 a ha⟩
    let own1 : Nat → Nat := fun a => if a < σ.1 then own a else 20 + nC R
    have hE1 : Ext own own1 s1.1 := fun a ha => if_pos (by omega)
    have hl2 : PLs x own1 s2 0 (nC R) eC := g5.1.fr (by omega) h0' hE1 (hC12 own []) (by decide) (by decide)
    have hO2 : PO x s2 := g1.fr h0' (hC12 own []) (by decide)
    have hel : ∀ i, i < nC R → anyO s2 (eC i) = some () ∧ eC i < s2.1 := by
      intro i hi
      obtain ⟨Gi, Ti, nt, a1, a2, ⟨a3, a4⟩, -⟩ := g5.2 i hi
      exact ⟨by rw [anyO_c (t4 _ (by omega))]; exact any_o a1 (by decide), by omega⟩
    obtain ⟨s3, own2, u1, u2, u3, u4⟩ := xJ_add hl2 (by omega) (by omega) hO2 (by omega) hel (v := s1.1) (any_o t5 (by decide)) (by omega)
    have hA3 : A11 x (sfi G 0 v) s3 := A11_fr hA2 (fun a ha => (u4.2.2 a (by omega) (by rw [tg_x ha]; decide)).trans (t4 a (by omega)))
    have hC3' : isC s2 (x + 7) 1 = some () := xJ_C hl2
    have u1' : fJx4a65c_add_9ea2d_0 s2 (x + 7) s1.1 = some (1, s3) := u1
    have hC4 : isC s3 (x + 7) 1 = some () := xJ_C u3
    have hC5 : fJx4a65c_size_8abf5_0 s3 (x + 7) = some (Int32.ofNat (nC R + 1)) := xJ_size u3
    simp only [z11_g7 hA2, Option.bind_some, t1, hC3', u1', z11_g7 hA3, hC4, hC5, ofNat_m1 (show 0 < nC R + 1 by omega), Nat.add_sub_cancel]
    have hE : Ext own own2 s1.1 := fun a ha => (u2 a (by omega)).trans (hE1 a ha)
    have hC : Chg x own [5, 15] s1 s3 := (hC12 own _).tr2 u4 hE1
    have hR : Fr (11 :: 13 :: SCR) R (u_clock R (nC R) w) := ((Fr.refl _ R).sai (by decide) _).sfi (by decide) _
    have q1 : nL (u_clock R (nC R) w) = nL R := rfl
    have q2 : nC (u_clock R (nC R) w) = nC R + 1 := c32 (by omega)
    have q3 : nS (u_clock R (nC R) w) = nS R := rfl
    have q4 : nT (u_clock R (nC R) w) = nT R := rfl
    have q5 : nV (u_clock R (nC R) w) = nV R := rfl
    have q6 : nN (u_clock R (nC R) w) = nN R := rfl
    have q7 : nX (u_clock R (nC R) w) = nX R := rfl
    have e13 : ∀ i, ai (u_clock R (nC R) w) 13 i = if i = nC R then w else ai R 13 i := fun i => rfl
    obtain ⟨w1, w2, w3, w4, w5, w6, w7, w8, w9⟩ := hW
    refine ⟨s3, own2, rfl, ⟨sfi G 0 v, T, up eC (nC R) s1.1, eV, eN, eT, eS, ?_⟩, ?_⟩
    · unfold XWg
      rw [q1, q2, q3, q4, q5, q6, q7, hbl]
      refine ⟨by have := hC.1; omega, g1.fr h0' hC (by decide), g2.fr h0' hC (by decide) hR (by decide), g3.fr hE hC (fun t ht => by intro q; simp only [List.mem_cons, List.not_mem_nil, or_false] at q; omega) hR (by decide), g4.fr h0' hC (by decide) hR (by decide), ⟨u3, fun i hi => ?_⟩, g6.fr h0' hE hC (by decide) hR (by decide), g7.fr w2.2.1 h0' hE hC ⟨by decide, by decide, (fun t ht => by intro q; simp only [List.mem_cons, List.not_mem_nil, or_false] at q; omega)⟩ hR (by decide) (fun q => q), g8.fr w7.2 h0' hE hC ⟨by decide, by decide, (fun t ht => by intro q; simp only [List.mem_cons, List.not_mem_nil, or_false] at q; omega)⟩ hR (by decide) (hP.1 _ _ _ hR (by decide)), g9.fr w8.2.1 h0' hE hC ⟨by decide, by decide, (fun t ht => by intro q; simp only [List.mem_cons, List.not_mem_nil, or_false] at q; omega)⟩ hR (by decide), g10.fr hE hC (by decide) hR (by decide) (hP.2.1 _ _ _ hR (by decide)), g11.fr h0' hC (by decide) hR (by decide), g12.fr hE hC (by decide) hR (by decide), g13.fr hE hC (fun t ht => by intro q; simp only [List.mem_cons, List.not_mem_nil, or_false] at q; omega) hR (by decide)⟩
      by_cases hin : i = nC R
      · -- the new one
        subst hin
        rw [up_same]
        have hno : stN (ai R 14) (Int32.ofNat (nC R)) (nS R) = 0 := by
          have : ∀ k, k ≤ nS R → stN (ai R 14) (Int32.ofNat (nC R)) k = 0 := by
            intro k
            induction k with
            | zero => intro _; rfl
            | succ k ih =>
              intro hk
              show (if ai R 14 k = Int32.ofNat (nC R) then _ else _) = 0
              rw [if_neg, ih (by omega)]
              intro e
              have := w4.2.2.2 k (by omega)
              rw [e, n32 (by omega)] at this; omega
          exact this _ (Nat.le_refl _)
        have a14 : ai (u_clock R (nC R) w) 14 = ai R 14 := rfl
        have hst3 : ∀ a, s1.1 ≤ a → a < s1.1 + 7 → s3.2.1 a = s2.2.1 a := fun a h1 h2 => u4.2.2 a (by omega) (by
          have : tg x own1 a = 20 + nC R := by
            unfold tg; rw [if_neg (by omega), if_neg (by omega)]; exact if_neg (by omega)
          rw [this]; intro q; simp only [List.mem_cons, List.not_mem_nil, or_false] at q; omega)
        refine ⟨_, _, 0, A1_fr t5 (fun a ha => hst3 a (by omega) (by omega)), A9_fr t6 (fun a ha => hst3 a (by omega) (by omega)), ⟨fun j hj => ?_, by have := u4.1; omega⟩, ⟨?_, rfl, rfl, ?_⟩, ?_, ?_, fun _ => ⟨⟨?_, fun i hi => by omega⟩, ⟨⟨by omega, fun i hi => by omega, fun i j hi => by omega⟩, fun p q => ⟨?_, ?_⟩⟩, ?_⟩⟩
        · rw [ext_tg u2 (by omega)]; unfold tg; rw [if_neg (by omega), if_neg (by omega)]; exact if_neg (by omega)
        · rw [e13, if_pos rfl]; rfl
        · rw [a14, hno]; rfl
        · rw [a14, hno]; intro j hj; omega
        · exact ⟨rfl, by omega, by omega, ⟨rfl, rfl, rfl⟩, fun i j _ hj => by omega, fun i hi => by omega, fun i hi => by omega⟩
        · exact ⟨rfl, by omega, by omega, ⟨rfl, rfl, rfl⟩, fun i j _ hj => by omega, fun i hi => by omega, fun i hi => by omega⟩
        · rintro ⟨i, hi, _⟩; omega
        · rintro ⟨i, ⟨gi1, gi2, _⟩, _⟩
          exfalso
          have := (w6.1 i gi1).2
          have e52 : ai R 52 i = Int32.ofNat (nC R) := gi2
          rw [e52, n32 (by omega)] at this; omega
        · rw [a14, hno]; intro j hj; omega
      · rw [up_ne _ _ _ _ hin]
        exact (g5.2 i (by omega)).fr hE hC (by intro q; simp only [List.mem_cons, List.not_mem_nil, or_false] at q; omega) hR (by decide) (by rw [e13, if_neg hin]) (fun q => q)
    · have hkp1 : Chg x own [1, 5, 15] σ s1 := by rw [← hs1]; exact e11_chg σ _ (by decide)
      exact (hkp1.trans (hC.mono (by decide))).kp h.1 (by decide)
  · rw [if_neg h0, if_neg h0, show rf v (Int32.ofNat (nC R)) = -1 from if_neg h0]
    exact KI.no hP h hW _ _
end
