section
variable {P : Par} {x : Nat} {own : Nat → Nat} {σ : Hs} {R : Gs} {st : Int32}
theorem k_settle (hW : RW R) {G T : Gs} {eC eV eN eT eS : Nat → Nat} (h : XWg P x own σ R st G T eC eV eN eT eS) (hKB : KB P x own R G eC eV eN eT) :
    ∃ s' G' T', fX11_settle_0 σ x = some s' ∧ XWg P x own s' R st G' T' eC eV eN eT eS ∧ fi G' 18 = 0 ∧ s'.1 = σ.1 ∧ Chg x own (1 :: WS) σ s' := by
  have hA := h.2.2.1.at
  have hx := h
  obtain ⟨h0, h1, h2, h3, h4, h5, h6, h7, h8, h9, h10, h11, h12, h13⟩ := hx
  unfold fX11_settle_0
  simp only [z11_g18 hA, Option.bind_some]
  by_cases hz : fi G 18 = 0
  · rw [if_pos hz]
    exact ⟨σ, G, T, rfl, h, hz, rfl, Chg.refl _ _ _ _⟩
  · rw [if_neg hz]
    have h12' := hW.2.2.2.1.2.1
    have key : ∃ s', fX11_settle_10 σ x 0 = some (e11 x s' (sfi G 18 0)) ∧ Stl P x own σ R G eC eV eN eT (fun i G T nt => TW T 60 nt ∧ isTab R (nL R) (nN R) (P.2.2 R) (Int32.ofNat i) nt (ai T 0) (ai T 1) ∧ ∀ j, j < stN (ai R 14) (Int32.ofNat i) (nS R) → (ai G 3 j).toInt = ldS (tru R (nL R)) (tt T nt) (stA (ai R 14) (ai R 15) (Int32.ofNat i) (nS R) j).toInt) (fun i G => fi G 5 = b2i (itm R (nL R) i) ∧ fi G 6 = b2i (P.2.2 R i = true)) s' := by
      unfold fX11_settle_10
      refine lp_q (nC R) (fun k z => ∃ s, z = (s, x, Int32.ofNat k) ∧ Stl P x own σ R G eC eV eN eT (fun i G T nt => i < k → nt = 0) (fun i G => True) s) (fun X => ∃ s', X = some (e11 x s' (sfi G 18 0)) ∧ Stl P x own σ R G eC eV eN eT (fun i G T nt => TW T 60 nt ∧ isTab R (nL R) (nN R) (P.2.2 R) (Int32.ofNat i) nt (ai T 0) (ai T 1) ∧ ∀ j, j < stN (ai R 14) (Int32.ofNat i) (nS R) → (ai G 3 j).toInt = ldS (tru R (nL R)) (tt T nt) (stA (ai R 14) (ai R 15) (Int32.ofNat i) (nS R) j).toInt) (fun i G => fi G 5 = b2i (itm R (nL R) i) ∧ fi G 6 = b2i (P.2.2 R i = true)) s') ?_ ?_ fu 0 _ (by omega) ?_ (by unfold fu; omega)
      · rintro K k _ hk ⟨s, rfl, q1, q2, q3, ⟨Tt, q4⟩, q5, q6, q7⟩
        left
        have hLs : PLs x own s 0 (nC R) eC := h5.1.fr (by omega) h0 (fun _ _ => rfl) q2 (nin_WS (by omega)) (nin_WS (by omega))
        have c1 : isC s (x + 7) 1 = some () := xJ_C hLs
        have c2 : fJx4a65c_size_8abf5_0 s (x + 7) = some (Int32.ofNat (nC R)) := xJ_size hLs
        have c3 : fJx4a65c_get_915e3_0 s (x + 7) (Int32.ofNat k) = some (some (eC k)) := xJ_get hLs hk
        obtain ⟨Gc, Tc, nt, y1, y2, ⟨y3, y4⟩, y5, y6, y7, y8⟩ := q5 k hk
        have hlt : ¬ Int32.ofNat (nC R) ≤ Int32.ofNat k := by rw [le_n (by omega) (by omega)]; omega
        simp only [fbX11_settle_10, z11_g7 q3, c1, c2, c3, Option.bind_some, if_neg hlt, z1_C y1, z1_g1 y1, z9_C y2, fX9_clear_0, z9_p3 y2, suc32]
        generalize hs4 : e9 (eC k + 1) s (sfi Tc 3 0) = s4
        have e41 : s4.1 = s.1 := by rw [← hs4]; rfl
        have hC4 : Chg x own [20 + k] s s4 := by rw [← hs4]; exact e9c_chg s _ y3 List.mem_cons_self
        have hn4 : ∀ {q : Nat}, q ≠ 20 + k → q ∉ [20 + k] := fun hq r => hq (List.mem_singleton.mp r)
        refine ⟨_, ⟨s4, rfl, by omega, q2.trans (hC4.mono (fun q hq => by rw [List.mem_singleton.mp hq]; exact mem_WS.mpr (by omega))), A11_fr q3 (fun a ha => hC4.2.2 a (by omega) (by rw [tg_x ha]; exact hn4 (by omega))), ⟨Tt, q4.fr (by omega) hC4 (hn4 (by omega)) (Fr.refl SCR R) (by decide)⟩, fun i hi => ?_, fun i hi => (q6 i hi).fr hC4 (hn4 (by omega)), q7.fr hW.2.2.2.2.2.2.1.2 (by omega) (fun _ _ => rfl) hC4 ⟨hn4 (by omega), hn4 (by omega), fun i hi => hn4 (by omega)⟩ (Fr.refl SCR R) (by decide) (fun _ _ q => q)⟩, rfl⟩
        by_cases hik : i = k
        · subst hik
          obtain ⟨v1, v2, v3, v4, v5, v6, v7⟩ := y7
          exact ⟨Gc, sfi Tc 3 0, 0, A1_fr y1 (fun a ha => by rw [← hs4]; exact e9_out _ _ (by omega)), by rw [← hs4]; exact A9_self _ _, ⟨y3, by omega⟩, y5, y6, ⟨rfl, by omega, v3, v4, fun i j _ hj => by omega, fun i hi => by omega, fun i hi => by omega⟩, fun _ => rfl⟩
        · exact ((q5 i hi).fr hC4 (hn4 (by omega))).mono (fun G T nt _ hz hlt => hz (by omega))
      · rintro K _ ⟨s, rfl, q1, q2, q3, q4, q5, q6, q7⟩
        have hLs : PLs x own s 0 (nC R) eC := h5.1.fr (by omega) h0 (fun _ _ => rfl) q2 (nin_WS (by omega)) (nin_WS (by omega))
        have c1 : isC s (x + 7) 1 = some () := xJ_C hLs
        have c2 : fJx4a65c_size_8abf5_0 s (x + 7) = some (Int32.ofNat (nC R)) := xJ_size hLs
        simp only [fbX11_settle_10, z11_g7 q3, c1, c2, Option.bind_some, Int32.le_refl, if_true]
        exact s_loop2 hW h0 h1 h5.1 h7.1 h6 hKB s ⟨q1, q2, q3, q4, fun i hi => (q5 i hi).mono (fun G T nt _ hz => hz hi), q6, q7⟩
      · refine ⟨σ, rfl, rfl, Chg.refl _ _ _ _, hA, ⟨T, h4⟩, fun i hi => ?_, fun i hi => ?_, h8⟩
        · obtain ⟨Gc, Tc, nt, y1, y2, y3, y4, y5, y6, -⟩ := h5.2 i hi
          exact ⟨Gc, Tc, nt, y1, y2, y3, y4, y5, y6, fun q => by omega⟩
        · obtain ⟨Gn, y1, y2, y3, -⟩ := h7.2 i hi
          exact ⟨Gn, y1, y2, y3, trivial⟩
    obtain ⟨s', k1, q1, q2, q3, ⟨T', q4⟩, q5, q6, q7⟩ := key
    have hCe : Chg x own [1] s' (e11 x s' (sfi G 18 0)) := e11_chg _ _ (by decide)
    have hC : Chg x own (1 :: WS) σ (e11 x s' (sfi G 18 0)) := (q2.mono (fun q hq => List.mem_cons_of_mem _ hq)).trans (hCe.mono (fun q hq => by rw [List.mem_singleton.mp hq]; exact List.mem_cons_self))
    have hn : ∀ {k : Nat}, ¬ (k = 1 ∨ k = 2 ∨ (20 ≤ k ∧ k < 32) ∨ (100 ≤ k ∧ k < 160) ∨ (300 ≤ k ∧ k < 304)) → k ∉ 1 :: WS := by
      intro k hk q
      rcases List.mem_cons.mp q with r | r
      · omega
      · have := mem_WS.mp r; omega
    have hn1 : ∀ {k : Nat}, k ≠ 1 → k ∉ [1] := fun hk q => hk (List.mem_singleton.mp q)
    have hE : Ext own own σ.1 := fun _ _ => rfl
    have hRf : Fr SCR R R := Fr.refl _ _
    have hx' : x + 78 ≤ s'.1 := by omega
    refine ⟨_, sfi G 18 0, T', k1, ⟨by show x + 78 ≤ s'.1; omega, h1.fr h0 hC (hn (by omega)), ?_, h3.fr hE hC (fun t ht => hn (by omega)) hRf (by decide), q4.fr hx' hCe (hn1 (by omega)) hRf (by decide), ⟨h5.1.fr (by omega) h0 hE hC (hn (by omega)) (hn (by omega)), fun i hi => ?_⟩, h6.fr h0 hE hC ⟨hn (by omega), hn (by omega), hn (by omega)⟩ hRf (by decide), ⟨h7.1.fr (by omega) h0 hE hC (hn (by omega)) (hn (by omega)), fun i hi => ?_⟩, q7.fr hW.2.2.2.2.2.2.1.2 hx' (fun _ _ => rfl) hCe ⟨hn1 (by omega), hn1 (by omega), fun i hi => hn1 (by omega)⟩ hRf (by decide) (fun _ _ q => q), h9.fr hW.2.2.2.2.2.2.2.1.2.1 h0 hE hC ⟨hn (by omega), hn (by omega), fun i hi => hn (by omega)⟩ hRf (by decide), h10.fr hE hC (hn (by omega)) hRf (by decide) (fun _ q => q), h11.fr h0 hC (hn (by omega)) hRf (by decide), h12.fr hE hC (hn (by omega)) hRf (by decide), h13.fr hE hC (fun t ht => hn (by omega)) hRf (by decide)⟩, rfl, q1, hC⟩
    · obtain ⟨b1, b2, b3, b4, b5, b6, b7, b8, b9, b10⟩ := h2
      exact ⟨A11_self _ _, b2, b3, b4, b5, b6, b7, b8, Or.inl rfl, b10⟩
    · obtain ⟨Gc, Tc, nt, y1, y2, y3, y4, y5, y6, y7⟩ := (q5 i hi).fr hCe (hn1 (by omega))
      exact ⟨Gc, Tc, nt, y1, y2, y3, y4, y5, y6, fun _ => y7⟩
    · obtain ⟨Gn, y1, y2, y3, y4⟩ := (q6 i hi).fr hCe (hn1 (by omega))
      exact ⟨Gn, y1, y2, y3, fun _ => y4⟩
def KBx (P : Par) (x : Nat) (R : Gs) : Prop := ∀ own G eC eV eN eT, KB P x own R G eC eV eN eT
theorem k_shwAt (hW : RW R) {G T : Gs} {eC eV eN eT eS : Nat → Nat} (h : XWg P x own σ R st G T eC eV eN eT eS) (hz : fi G 18 = 0) {i : Nat} (hi : i < nC R) (t : Int32) (ht : -1000 ≤ t.toInt ∧ t.toInt ≤ 900010000) :
    ∃ s', fX1_shownAt_0 σ (eC i) t = some (SH R (nL R) (nN R) (nS R) (P.2.2 R) (Int32.ofNat i) t, s') ∧ XWg P x own s' R st G T eC eV eN eT eS ∧ s'.1 = σ.1 ∧ Chg x own [20 + i] σ s' := by
  have h12' := hW.2.2.2.1.2.1
  have hx := h
  obtain ⟨h0, h1, h2, h3, h4, h5, h6, h7, h8, h9, h10, h11, h12, h13⟩ := hx
  obtain ⟨Gc, Tc, nt, y1, y2, ⟨y3, y4⟩, ⟨y5, y6, y7, y8⟩, y9, y10, y11⟩ := h5.2 i hi
  obtain ⟨z1, z2, z3⟩ := y11 hz
  have hsl := stN_le (ai R 14) (Int32.ofNat i) (nS R)
  have hS60 := hW.2.2.1.2.1
  have hasc : Asc (stN (ai R 14) (Int32.ofNat i) (nS R)) (ai Gc 2) := by
    intro a b hab hb
    rw [y9 a (by omega), y9 b hb]
    exact stA_asc (ai R 14) (ai R 15) (Int32.ofNat i) (nS R) a b hab hb
  have hB : ∀ j, j < stN (ai R 14) (Int32.ofNat i) (nS R) → -1000 ≤ (ai Gc 3 j).toInt ∧ (ai Gc 3 j).toInt ≤ 1000 := fun j hj => by rw [z3 j hj]; exact ldS_bd hW.1.2.2 y10.tok _
  obtain ⟨T', a1, a2⟩ := x1_shownAt y1 y2 z1 y8 (by omega) y6 y7 hasc (by rw [y5]; exact hW.2.2.2.1.2.2.1 i hi) hB t ht
  have hah : ahd (ai Gc 2) (ai Gc 3) t (stN (ai R 14) (Int32.ofNat i) (nS R)) = AH R (nL R) (nN R) (nS R) (P.2.2 R) (Int32.ofNat i) t := by
    unfold AH
    rw [← ahS_perm (tcl_perm z2)]
    unfold ahS
    refine ahd_congr _ (fun j hj => ⟨y9 j hj, ?_⟩)
    unfold ldA
    exact (ofI (z3 j hj)).symm
  have hsh : shw (fi Gc 0) (tt Tc nt) (mx0 (t.toInt + (ahd (ai Gc 2) (ai Gc 3) t (stN (ai R 14) (Int32.ofNat i) (nS R))).toInt)) = SH R (nL R) (nN R) (nS R) (P.2.2 R) (Int32.ofNat i) t := by
    rw [hah, y5]
    unfold SH shS AH
    rw [c32 (by omega)]
    exact shw_perm (tcl_perm z2) _ _
  rw [hsh] at a1
  have hC4 : Chg x own [20 + i] σ (e9 (eC i + 1) σ T') := e9c_chg σ _ y3 List.mem_cons_self
  have hn4 : ∀ {q : Nat}, q ≠ 20 + i → q ∉ [20 + i] := fun hq r => hq (List.mem_singleton.mp r)
  have hE : Ext own own σ.1 := fun _ _ => rfl
  have hRf : Fr SCR R R := Fr.refl _ _
  refine ⟨_, a1, ⟨h0, h1.fr h0 hC4 (hn4 (by omega)), h2.fr h0 hC4 (hn4 (by omega)) hRf (by decide), h3.fr hE hC4 (fun t ht => hn4 (by omega)) hRf (by decide), h4.fr h0 hC4 (hn4 (by omega)) hRf (by decide), ⟨h5.1.fr (by omega) h0 hE hC4 (hn4 (by omega)) (hn4 (by omega)), fun j hj => ?_⟩, h6.fr h0 hE hC4 ⟨hn4 (by omega), hn4 (by omega), hn4 (by omega)⟩ hRf (by decide), h7.fr hW.2.1.2.1 h0 hE hC4 ⟨hn4 (by omega), hn4 (by omega), fun i hi => hn4 (by omega)⟩ hRf (by decide) (fun q => q), h8.fr hW.2.2.2.2.2.2.1.2 h0 hE hC4 ⟨hn4 (by omega), hn4 (by omega), fun i hi => hn4 (by omega)⟩ hRf (by decide) (fun _ _ q => q), h9.fr hW.2.2.2.2.2.2.2.1.2.1 h0 hE hC4 ⟨hn4 (by omega), hn4 (by omega), fun i hi => hn4 (by omega)⟩ hRf (by decide), h10.fr hE hC4 (hn4 (by omega)) hRf (by decide) (fun _ q => q), h11.fr h0 hC4 (hn4 (by omega)) hRf (by decide), h12.fr hE hC4 (hn4 (by omega)) hRf (by decide), h13.fr hE hC4 (fun t ht => hn4 (by omega)) hRf (by decide)⟩, rfl, hC4⟩
  by_cases hji : j = i
  · subst hji
    obtain ⟨tv1, tv2⟩ := a2.tv z1
    refine ⟨Gc, T', nt, A1_fr y1 (fun a ha => e9_out _ _ (by omega)), A9_self _ _, ⟨y3, y4⟩, ⟨y5, y6, y7, y8⟩, y9, tv1.1, fun _ => ⟨tv1, ?_, ?_⟩⟩
    · rw [a2.ai 0 (by decide), a2.ai 1 (by decide)]; exact z2
    · rw [tv2]; exact z3
  · exact (h5.2 j hj).fr hE hC4 (hn4 (by omega)) hRf (by decide) rfl (fun q => q)
theorem k_shows (hP : P.ok) (hW : RW R) (h : XW P x own σ R st) (hK : KBx P x R) (c t : Int32) : KL P x σ (rfL (st_cc (nC R) c t) (SH R (nL R) (nN R) (nS R) (P.2.2 R) c t)) (st_cc (nC R) c t) R (fX11_shows_0 σ x c t) := by
  obtain ⟨G, T, eC, eV, eN, eT, eS, h⟩ := h
  have hA := h.2.2.1.at
  have h12' := hW.2.2.2.1.2.1
  have hst := x_ccs hA h.2.2.2.2.2.1.1 h12' c t
  unfold fX11_shows_0
  simp only [z11_C hA, hst, Option.bind_some, z11_p0 hA]
  generalize hv : st_cc (nC R) c t = v at *
  have hA2 : A11 x (sfi G 0 v) (e11 x σ (sfi G 0 v)) := A11_self _ _
  simp only [z11_g0 hA2, z11_C hA2, Option.bind_some, q_fi_sfi, q_fl_sfi, q_fr_sfi, q_ai_sfi, q_al_sfi, q_ar_sfi, q_ln_sfi, q_fi_sfl, q_fl_sfl, q_fr_sfl, q_ai_sfl, q_al_sfl, q_ar_sfl, q_ln_sfl, q_fi_sfr, q_fl_sfr, q_fr_sfr, q_ai_sfr, q_al_sfr, q_ar_sfr, q_ln_sfr, q_fi_sai, q_fl_sai, q_fr_sai, q_ai_sai, q_al_sai, q_ar_sai, q_ln_sai, q_fi_sal, q_fl_sal, q_fr_sal, q_ai_sal, q_al_sal, q_ar_sal, q_ln_sal, q_fi_sar, q_fl_sar, q_fr_sar, q_ai_sar, q_al_sar, q_ar_sar, q_ln_sar, reduceIte, Nat.reduceEqDiff]
  by_cases h0 : v = 0
  · rw [if_pos h0, show rfL v (SH R (nL R) (nN R) (nS R) (P.2.2 R) c t) = _ from if_pos h0]
    have hcond : (0 ≤ c.toInt ∧ c.toInt < nC R) ∧ 0 ≤ t.toInt ∧ t.toInt ≤ 900000000 := by
      rw [h0] at hv; unfold st_cc at hv
      split at hv
      · exact absurd hv (by decide)
      · split at hv
        · exact absurd hv (by decide)
        · omega
    obtain ⟨cn, rfl, hcn, hc⟩ := get32 c hcond.1.1
    have hs := h.st hP hW v
    obtain ⟨s1, G1, T1, a1, a2, a3, a4, a5⟩ := k_settle hW hs (hK _ _ _ _ _ _)
    have hA3 := a2.2.2.1.at
    have c1 : isC s1 (x + 7) 1 = some () := xJ_C a2.2.2.2.2.2.1.1
    have c3 : fJx4a65c_get_915e3_0 s1 (x + 7) (Int32.ofNat cn) = some (some (eC cn)) := xJ_get a2.2.2.2.2.2.1.1 (by omega)
    have hc3 : isC s1 (eC cn) 3 = some () := by
      obtain ⟨Gc, Tc, nt, y1, -⟩ := a2.2.2.2.2.2.1.2 cn (by omega)
      exact z1_C y1
    obtain ⟨s2, b1, b2, b3, b4⟩ := k_shwAt hW a2 a3 (show cn < nC R by omega) t (by omega)
    simp only [a1, Option.bind_some, z11_g7 hA3, c1, c3, hc3, b1]
    have hnn : ∀ {q : Nat}, q = 4 → q ∉ 1 :: WS := by
      intro q hq r
      rcases List.mem_cons.mp r with r | r
      · omega
      · have := mem_WS.mp r; omega
    have hkp1 : Chg x own (1 :: WS) σ (e11 x σ (sfi G 0 v)) := e11_chg σ _ List.mem_cons_self
    refine ⟨s2, own, rfl, ⟨_, _, _, _, _, _, _, b2⟩, ((hkp1.trans a5).trans (b4.mono (fun q hq => by rw [List.mem_singleton.mp hq]; exact List.mem_cons_of_mem _ (mem_WS.mpr (by omega))))).kp h.1 (hnn rfl)⟩
  · rw [if_neg h0, show rfL v (SH R (nL R) (nN R) (nS R) (P.2.2 R) c t) = -1 from if_neg h0]
    exact KL.no hP h hW _ _
end
