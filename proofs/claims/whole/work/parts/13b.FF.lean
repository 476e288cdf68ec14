theorem WS_20 {i : Nat} (hi : i < 12) : ∀ q, q ∈ [20 + i] → q ∈ 1 :: WS := fun q hq => by rw [List.mem_singleton.mp hq]; exact List.mem_cons_of_mem _ (mem_WS.mpr (by omega))
section
variable {P : Par} {x : Nat} {own : Nat → Nat} {σ : Hs} {R : Gs} {st : Int32}
theorem x_ck (hW : RW R) {G T : Gs} {eC eV eN eT eS : Nat → Nat} (h : XWg P x own σ R st G T eC eV eN eT eS) {i : Nat} (hi : i < nC R) : isC σ (eC i) 3 = some () := by
  obtain ⟨Gc, Tc, nt, y1, -⟩ := h.2.2.2.2.2.1.2 i hi
  exact z1_C y1
theorem x_spread (hW : RW R) {G T : Gs} {eC eV eN eT eS : Nat → Nat} (h : XWg P x own σ R st G T eC eV eN eT eS) (hz : fi G 18 = 0) {t : Nat} (ht : t ≤ 900000000) : ∃ s', fX11_spreadAt_0 σ x (Int32.ofNat t) = some (spr (VV R (nL R) (nN R) (nS R) (P.2.2 R) t) (nC R), s') ∧ XWg P x own s' R st G T eC eV eN eT eS ∧ s'.1 = σ.1 ∧ Chg x own (1 :: WS) σ s' := by
  have h12' := hW.2.2.2.1.2.1
  unfold fX11_spreadAt_0 fX11_spreadAt_8
  refine lp_q (nC R) (fun k z => ∃ s, z = (s, x, Int32.ofNat t, mnV (VV R (nL R) (nN R) (nS R) (P.2.2 R) t) k, mxV (VV R (nL R) (nN R) (nS R) (P.2.2 R) t) k, Int32.ofNat k) ∧ XWg P x own s R st G T eC eV eN eT eS ∧ s.1 = σ.1 ∧ Chg x own (1 :: WS) σ s) (fun X => ∃ s', X = some (spr (VV R (nL R) (nN R) (nS R) (P.2.2 R) t) (nC R), s') ∧ XWg P x own s' R st G T eC eV eN eT eS ∧ s'.1 = σ.1 ∧ Chg x own (1 :: WS) σ s') ?_ ?_ fu 0 _ (by omega) ⟨σ, rfl, h, rfl, Chg.refl _ _ _ _⟩ (by unfold fu; omega)
  · rintro K k _ hk ⟨s, rfl, a1, a2, a3⟩
    left
    have hA := a1.2.2.1.at
    have c1 : isC s (x + 7) 1 = some () := xJ_C a1.2.2.2.2.2.1.1
    have c2 : fJx4a65c_size_8abf5_0 s (x + 7) = some (Int32.ofNat (nC R)) := xJ_size a1.2.2.2.2.2.1.1
    have c3 : fJx4a65c_get_915e3_0 s (x + 7) (Int32.ofNat k) = some (some (eC k)) := xJ_get a1.2.2.2.2.2.1.1 hk
    obtain ⟨s2, b1, b2, b3, b4⟩ := k_shwAt hW a1 hz hk (Int32.ofNat t) (by rw [n32 (by omega)]; omega)
    have hp : ∀ (s : Hs) v, fX11_thousandthsInAll_0 s v = some (pln v) := fun s v => rfl
    refine ⟨_, ⟨s2, rfl, b2, b3.trans a2, a3.trans (b4.mono (WS_20 (by omega)))⟩, ?_⟩
    have en : mnV (VV R (nL R) (nN R) (nS R) (P.2.2 R) t) (k + 1) = if k = 0 then VV R (nL R) (nN R) (nS R) (P.2.2 R) t 0 else (if (mnV (VV R (nL R) (nN R) (nS R) (P.2.2 R) t) k).toInt ≤ ((VV R (nL R) (nN R) (nS R) (P.2.2 R) t) k).toInt then mnV (VV R (nL R) (nN R) (nS R) (P.2.2 R) t) k else (VV R (nL R) (nN R) (nS R) (P.2.2 R) t) k) := by rw [mnV]
    have ex : mxV (VV R (nL R) (nN R) (nS R) (P.2.2 R) t) (k + 1) = if k = 0 then VV R (nL R) (nN R) (nS R) (P.2.2 R) t 0 else (if ((VV R (nL R) (nN R) (nS R) (P.2.2 R) t) k).toInt ≤ (mxV (VV R (nL R) (nN R) (nS R) (P.2.2 R) t) k).toInt then mxV (VV R (nL R) (nN R) (nS R) (P.2.2 R) t) k else (VV R (nL R) (nN R) (nS R) (P.2.2 R) t) k) := by rw [mxV]
    have ev : pln (SH R (nL R) (nN R) (nS R) (P.2.2 R) (Int32.ofNat k) (Int32.ofNat t)) = VV R (nL R) (nN R) (nS R) (P.2.2 R) t k := rfl
    simp only [fbX11_spreadAt_8, fX11_spreadAt_57, z11_g7 hA, c1, c2, c3, x_ck hW a1 hk, b1, hp, ev, Option.bind_some, le_n (show nC R < 2147483648 by omega) (show k < 2147483648 by omega), if_neg (show ¬ nC R ≤ k by omega), z_n (show k < 2147483648 by omega), mn64, mx64, suc32]
    rw [en, ex]
    by_cases q : k = 0
    · rw [if_pos q, if_pos q, if_pos q, if_pos q, q]
    · rw [if_neg q, if_neg q, if_neg q, if_neg q]
  · rintro K _ ⟨s, rfl, a1, a2, a3⟩
    have hA := a1.2.2.1.at
    have c1 : isC s (x + 7) 1 = some () := xJ_C a1.2.2.2.2.2.1.1
    have c2 : fJx4a65c_size_8abf5_0 s (x + 7) = some (Int32.ofNat (nC R)) := xJ_size a1.2.2.2.2.2.1.1
    simp only [fbX11_spreadAt_8, z11_g7 hA, c1, c2, Option.bind_some, Int32.le_refl, if_true]
    exact ⟨s, rfl, a1, a2, a3⟩
theorem k_worst (hP : P.ok) (hW : RW R) (h : XW P x own σ R st) (hK : KBx P x R) (f t w : Int32) : KL P x σ (rfL (st_worst (nC R) f t w) (aW R (nL R) (nN R) (nS R) (nC R) (P.2.2 R) f.toNatClampNeg (t.toNatClampNeg - f.toNatClampNeg) w)) (st_worst (nC R) f t w) R (fX11_worst_0 σ x f t w) := by
  obtain ⟨G, T, eC, eV, eN, eT, eS, h⟩ := h
  have hA := h.2.2.1.at
  have h12' := hW.2.2.2.1.2.1
  have hst : fX11_worstStatus_0 σ x f t w = some (st_worst (nC R) f t w) := by
    have c1 : isC σ (x + 7) 1 = some () := xJ_C h.2.2.2.2.2.1.1
    have c2 : fJx4a65c_size_8abf5_0 σ (x + 7) = some (Int32.ofNat (nC R)) := xJ_size h.2.2.2.2.2.1.1
    have h2n : ((2 : Int32) ≤ Int32.ofNat (nC R)) = (2 ≤ nC R) := by rw [show (2 : Int32) = Int32.ofNat 2 from rfl]; exact propext (le_n (by decide) (by omega))
    unfold fX11_worstStatus_0
    simp only [x_isCount, x_isWithin, Option.bind_some, b2i_0, z11_g7 hA, c1, c2, h2n, i0, i1]
    unfold st_worst
    by_cases k1 : 0 ≤ f.toInt ∧ f.toInt ≤ 900000000
    rotate_left
    · rw [if_pos k1, if_pos (Or.inl k1)]
    rw [if_neg (fun q => q k1)]
    by_cases k2 : 0 ≤ t.toInt ∧ t.toInt ≤ 900000000
    rotate_left
    · rw [if_pos k2, if_pos (Or.inr (Or.inl (by omega)))]
    rw [if_neg (fun q => q k2)]
    have e1 : (t < f) = (t.toInt < f.toInt) := propext lt32
    have ed : (t - f).toInt = t.toInt - f.toInt := by rw [sub32]; omega
    have e20 : ((2000 : Int32) < t - f) = (2000 < t.toInt - f.toInt) := by rw [lt32, ed]; rfl
    simp only [e1, e20]
    (repeat' split) <;> first | rfl | omega
  unfold fX11_worst_0
  simp only [z11_C hA, hst, Option.bind_some, z11_p0 hA]
  generalize hv : st_worst (nC R) f t w = v at *
  have hA2 : A11 x (sfi G 0 v) (e11 x σ (sfi G 0 v)) := A11_self _ _
  simp only [z11_g0 hA2, z11_C hA2, Option.bind_some, q_fi_sfi, q_fl_sfi, q_fr_sfi, q_ai_sfi, q_al_sfi, q_ar_sfi, q_ln_sfi, q_fi_sfl, q_fl_sfl, q_fr_sfl, q_ai_sfl, q_al_sfl, q_ar_sfl, q_ln_sfl, q_fi_sfr, q_fl_sfr, q_fr_sfr, q_ai_sfr, q_al_sfr, q_ar_sfr, q_ln_sfr, q_fi_sai, q_fl_sai, q_fr_sai, q_ai_sai, q_al_sai, q_ar_sai, q_ln_sai, q_fi_sal, q_fl_sal, q_fr_sal, q_ai_sal, q_al_sal, q_ar_sal, q_ln_sal, q_fi_sar, q_fl_sar, q_fr_sar, q_ai_sar, q_al_sar, q_ar_sar, q_ln_sar, reduceIte, Nat.reduceEqDiff]
  by_cases h0 : v = 0
  rotate_left
  · rw [if_neg h0, show rfL v _ = -1 from if_neg h0]
    exact KL.no hP h hW _ _
  rw [if_pos h0, show rfL v _ = _ from if_pos h0]
  have hcond : (0 ≤ f.toInt ∧ f.toInt ≤ t.toInt ∧ t.toInt ≤ 900000000) ∧ t.toInt - f.toInt ≤ 2000 ∧ 2 ≤ nC R := by
    rw [h0] at hv; unfold st_worst at hv
    split at hv
    · exact absurd hv (by decide)
    · split at hv
      · exact absurd hv (by decide)
      · omega
  obtain ⟨fn, rfl, f1, f2⟩ := get32 f (by omega)
  obtain ⟨tn, rfl, t1, t2⟩ := get32 t (by omega)
  obtain ⟨d, rfl⟩ : ∃ d, tn = fn + d := ⟨tn - fn, by omega⟩
  rw [c32 f1, c32 t1, show fn + d - fn = d by omega]
  obtain ⟨s1, G1, T1, a1, a2, a3, a4, a5⟩ := k_stset hP hW h hK v
  rw [a1, Option.bind_some]
  unfold fX11_worst_37
  have hsp0 := spr_0 (VV_bd (R := R) (nL := nL R) (nN := nN R) (nS := nS R) (bl := P.2.2 R) fn) (n := nC R) (by omega)
  refine lp_q (d + 1) (fun k z => ∃ s g b, z = (s, x, Int32.ofNat (fn + d), w, g, Int32.ofNat (fn + b), Int32.ofNat (fn + k)) ∧ (k = 0 → g = -1 ∧ b = 0) ∧ (∀ j, k = j + 1 → b = bI (fun j => spr (VV R (nL R) (nN R) (nS R) (P.2.2 R) (fn + j)) (nC R)) j ∧ g = spr (VV R (nL R) (nN R) (nS R) (P.2.2 R) (fn + b)) (nC R)) ∧ XWg P x own s R v G1 T1 eC eV eN eT eS ∧ Chg x own (1 :: WS) σ s) (KL P x σ (aW R (nL R) (nN R) (nS R) (nC R) (P.2.2 R) fn d w) v R) ?_ ?_ fu 0 _ (by omega) ⟨s1, -1, 0, rfl, fun _ => ⟨rfl, rfl⟩, fun j hj => absurd hj (by omega), a2, a5⟩ (by unfold fu; omega)
  · rintro K k _ hk ⟨s, g, b, rfl, e1, e2, e3, e4⟩
    left
    have hA3 := e3.2.2.1.at
    obtain ⟨s2, p1, p2, p3, p4⟩ := x_spread hW e3 a3 (t := fn + k) (by omega)
    simp only [fbX11_worst_37, lt_n (show fn + d < 2147483648 by omega) (show fn + k < 2147483648 by omega), if_neg (show ¬ fn + d < fn + k by omega), z11_C hA3, p1, Option.bind_some, le64, suc32]
    by_cases q : k = 0
    · obtain ⟨q1, q2⟩ := e1 q
      subst q
      rw [if_neg (by rw [q1]; show ¬ _ ≤ (-1 : Int); rw [Nat.add_zero]; omega)]
      refine ⟨_, ⟨s2, _, 0, rfl, fun w => absurd w (by omega), fun j hj => ?_, p2, e4.trans p4⟩, rfl⟩
      have : j = 0 := by omega
      subst this
      exact ⟨rfl, rfl⟩
    · obtain ⟨j, rfl⟩ : ∃ j, k = j + 1 := ⟨k - 1, by omega⟩
      obtain ⟨q1, q2⟩ := e2 j rfl
      have eb : bI (fun j => spr (VV R (nL R) (nN R) (nS R) (P.2.2 R) (fn + j)) (nC R)) (j + 1) = if (spr (VV R (nL R) (nN R) (nS R) (P.2.2 R) (fn + (j + 1))) (nC R)).toInt ≤ (spr (VV R (nL R) (nN R) (nS R) (P.2.2 R) (fn + b)) (nC R)).toInt then b else j + 1 := by rw [bI, q1]
      rw [q2]
      by_cases c : (spr (VV R (nL R) (nN R) (nS R) (P.2.2 R) (fn + (j + 1))) (nC R)).toInt ≤ (spr (VV R (nL R) (nN R) (nS R) (P.2.2 R) (fn + b)) (nC R)).toInt
      · rw [if_pos c]
        refine ⟨_, ⟨s2, _, b, rfl, fun w => absurd w (by omega), fun i hi => ?_, p2, e4.trans p4⟩, rfl⟩
        have : i = j + 1 := by omega
        subst this
        rw [eb, if_pos c]; exact ⟨rfl, rfl⟩
      · rw [if_neg c]
        refine ⟨_, ⟨s2, _, j + 1, rfl, fun w => absurd w (by omega), fun i hi => ?_, p2, e4.trans p4⟩, rfl⟩
        have : i = j + 1 := by omega
        subst this
        rw [eb, if_neg c]; exact ⟨rfl, rfl⟩
  · rintro K _ ⟨s, g, b, rfl, e1, e2, e3, e4⟩
    obtain ⟨q1, q2⟩ := e2 d rfl
    simp only [fbX11_worst_37, lt_n (show fn + d < 2147483648 by omega) (show fn + (d + 1) < 2147483648 by omega), if_pos (show fn + d < fn + (d + 1) by omega)]
    unfold aW
    rw [← q1]
    by_cases q : w = 0
    · rw [if_pos q, if_pos q, q2]
      exact ⟨s, own, rfl, ⟨_, _, _, _, _, _, _, e3⟩, e4.kp h.1 n4WS⟩
    · rw [if_neg q, if_neg q]
      exact ⟨s, own, rfl, ⟨_, _, _, _, _, _, _, e3⟩, e4.kp h.1 n4WS⟩
theorem both_worst (hP : P.ok) (hB : Bel P x) (hI : Inv P x σ) (f t w : Int32) : ∃ v σ1 σ2, fX11_worst_0 σ x f t w = some (v, σ1) ∧ fX12_worst_0 σ1 (x + 20) f t w = some (v, σ2) ∧ Inv P x σ2 := by
  obtain ⟨own, R, hE, hX, hW, h6⟩ := hI
  obtain ⟨hK, hH⟩ := hB R hW
  obtain ⟨σ1, σ2, h1, h2, h3⟩ := arm_L (Y := fun s => fX12_worst_0 s (x + 20) f t w) hP h6 hE (by rw [ite_self_R]; exact k_worst hP hW hX hK f t w) (fun ρ => r_worst hW.1 hW.2.1 hW.2.2.1 (hH ρ) hW.2.2.2.1.1 hW.2.2.2.1.2.1 f t w) (by rw [ite_self_R]; exact hW)
  exact ⟨_, σ1, σ2, h1, h2, h3⟩
end
