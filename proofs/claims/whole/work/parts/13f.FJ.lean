section
variable {P : Par} {x : Nat} {own : Nat → Nat} {σ : Hs} {R : Gs} {st : Int32}
theorem nw_chg (s : Hs) (c : Ce) : Chg x own [] s (nw s c) := ⟨Nat.le_succ _, rfl, fun a ha _ => nw_n _ _ (by omega)⟩
theorem xw_nw (hW : RW R) {G T : Gs} {eC eV eN eT eS : Nat → Nat} (h : XWg P x own σ R st G T eC eV eN eT eS) (c : Ce) : XWg P x own (nw σ c) R st G T eC eV eN eT eS := by
  obtain ⟨g0, g1, g2, g3, g4, g5, g6, g7, g8, g9, g10, g11, g12, g13⟩ := h
  have hC : Chg x own [] σ (nw σ c) := nw_chg σ c
  have hn : ∀ {q : Nat}, q ∉ ([] : List Nat) := fun q => List.not_mem_nil q
  have hE : Ext own own σ.1 := fun _ _ => rfl
  have hRf : Fr SCR R R := Fr.refl _ _
  exact ⟨Nat.le_trans g0 hC.1, g1.fr g0 hC hn, g2.fr g0 hC hn hRf (by decide), g3.fr hE hC (fun t ht => hn) hRf (by decide), g4.fr g0 hC hn hRf (by decide), g5.fr hW.2.2.2.1.2.1 g0 hE hC ⟨hn, hn, fun i hi => hn⟩ hRf (by decide) (fun q => q), g6.fr g0 hE hC ⟨hn, hn, hn⟩ hRf (by decide), g7.fr hW.2.1.2.1 g0 hE hC ⟨hn, hn, fun i hi => hn⟩ hRf (by decide) (fun q => q), g8.fr hW.2.2.2.2.2.2.1.2 g0 hE hC ⟨hn, hn, fun i hi => hn⟩ hRf (by decide) (fun _ _ q => q), g9.fr hW.2.2.2.2.2.2.2.1.2.1 g0 hE hC ⟨hn, hn, fun i hi => hn⟩ hRf (by decide), g10.fr hE hC hn hRf (by decide) (fun _ q => q), g11.fr g0 hC hn hRf (by decide), g12.fr hE hC hn hRf (by decide), g13.fr hE hC (fun t ht => hn) hRf (by decide)⟩
def nq (s : Hs) (f : Nat → Int32) : Hs := nw s (.inl (0, 12, .inl f))
theorem nq_ld (s : Hs) (f : Nat → Int32) {i : Nat} (hi : i < 12) : ldI 0 (nq s f) s.1 (Int32.ofNat i) = some (f i) := by
  unfold ldI nq
  rw [nw_s]
  simp only [ix_n (show i < 2147483648 by omega), decide_eq_true hi, c32 (show i < 2147483648 by omega), and_self, if_true]
theorem nq_st (s : Hs) (f : Nat → Int32) {i : Nat} (hi : i < 12) (v : Int32) : stI 0 (nq s f) s.1 (Int32.ofNat i) v = some (nq s (up f i v)) := by
  unfold stI
  rw [show (nq s f).2.1 s.1 = .inl (0, 12, .inl f) from nw_s _ _]
  simp only [ix_n (show i < 2147483648 by omega), decide_eq_true hi, c32 (show i < 2147483648 by omega), and_self, if_true]
  refine congrArg some (Prod.ext rfl (Prod.ext (funext fun a => ?_) rfl))
  show va_up (va_up s.2.1 s.1 _) s.1 _ a = va_up s.2.1 s.1 _ a
  unfold va_up
  by_cases q : a = s.1
  · rw [if_pos q, if_pos q]; rfl
  · rw [if_neg q, if_neg q, if_neg q]
theorem k_blamed (hP : P.ok) (hW : RW R) (h : XW P x own σ R st) (hK : KBx P x R) (w : Int32) : KI P x σ (rf (st_bl w) (aBl (qrl R (nL R) (nN R) (nS R) (nX R) (P.2.2 R)) (nC R) w)) (st_bl w) R (fX11_blamed_0 σ x w) := by
  obtain ⟨G, T, eC, eV, eN, eT, eS, h⟩ := h
  have hA := h.2.2.1.at
  have hx60 := hW.2.2.2.2.2.2.2.1.2.1
  have hc12 := hW.2.2.2.1.2.1
  unfold fX11_blamed_0 fX11_blamed_15
  simp only [x_isWithin, Option.bind_some, b2i_0, i0, i2, z11_p0 hA, z11_g0 (A11_self σ (sfi G 0 _)), z11_C (A11_self σ (sfi G 0 _)), q_fi_sfi, q_fl_sfi, q_fr_sfi, q_ai_sfi, q_al_sfi, q_ar_sfi, q_ln_sfi, q_fi_sfl, q_fl_sfl, q_fr_sfl, q_ai_sfl, q_al_sfl, q_ar_sfl, q_ln_sfl, q_fi_sfr, q_fl_sfr, q_fr_sfr, q_ai_sfr, q_al_sfr, q_ar_sfr, q_ln_sfr, q_fi_sai, q_fl_sai, q_fr_sai, q_ai_sai, q_al_sai, q_ar_sai, q_ln_sai, q_fi_sal, q_fl_sal, q_fr_sal, q_ai_sal, q_al_sal, q_ar_sal, q_ln_sal, q_fi_sar, q_fl_sar, q_fr_sar, q_ai_sar, q_al_sar, q_ar_sar, q_ln_sar, reduceIte, Nat.reduceEqDiff]
  by_cases c0 : 0 ≤ w.toInt ∧ w.toInt ≤ 2
  rotate_left
  · rw [if_pos c0, if_neg (show ¬ (5 : Int32) = 0 by decide), show st_bl w = 5 from if_neg c0, show rf 5 _ = -1 from if_neg (by decide)]
    exact KI.no hP h hW _ _
  rw [if_neg (fun q => q c0), show st_bl w = 0 from if_pos c0, show rf 0 _ = _ from if_pos rfl]
  obtain ⟨s1, G1, T1, a1, a2, a3, a4, a5⟩ := k_stset hP hW h hK 0
  obtain ⟨s2, b1, b2, b3, b4, b5⟩ := x_readStamps hW a2 a3
  have na : naI 0 12 s2 12 = some (s2.1, nq s2 (fun _ => 0)) := naI_ok (n := 12) s2 (by decide) (by decide)
  simp only [if_true, a1, z11_C a2.2.2.1.at, b1, z11_C b2.2.2.1.at, Option.bind_some, fX11_quarrels_0, na]
  have hcl : ∀ i, i < nX R → ai R 58 i = Int32.ofNat (clN R i) ∧ clN R i < nC R := by
    intro i hi
    obtain ⟨⟨r1, r2⟩, -⟩ := hW.2.2.2.2.2.2.2.1.2.2.1 i hi
    obtain ⟨c, hc, hc1, hc2⟩ := get32 (ai R 58 i) r1
    unfold clN; rw [hc, c32 hc1]; exact ⟨rfl, by omega⟩
  have hQ : ∀ f, XWg P x own (nq s2 f) R 0 G1 T1 eC eV eN eT eS := fun f => xw_nw hW b2 _
  have hA3 : ∀ f, A11 x G1 (nq s2 f) := fun f => (hQ f).2.2.1.at
  have hS : ∀ f, PS x own (nq s2 f) R (nX R) eS := fun f => (hQ f).2.2.2.2.2.2.2.2.2.1
  have c1 : ∀ f, isC (nq s2 f) (x + 11) 1 = some () := fun f => xJ_C (hS f).1
  have c2 : ∀ f, fJx4a65c_size_8abf5_0 (nq s2 f) (x + 11) = some (Int32.ofNat (nX R)) := fun f => xJ_size (hS f).1
  have c3 : ∀ f {k}, k < nX R → fJx4a65c_get_915e3_0 (nq s2 f) (x + 11) (Int32.ofNat k) = some (some (eS k)) := fun f k hk => xJ_get (hS f).1 hk
  have hSt : ∀ f {k}, k < nX R → StO P R eS (nq s2 f) k := fun f k hk => by
    obtain ⟨H, u1, u2⟩ := b5 k hk
    obtain ⟨H4, -, ⟨t2, t3⟩, -⟩ := b2.2.2.2.2.2.2.2.2.2.1.2 k hk
    exact ⟨H, A8_fr u1 (fun a ha => nw_n _ _ (by omega)), u2⟩
  have c4 : ∀ f {k}, k < nX R → isC (nq s2 f) (eS k) 10 = some () := fun f k hk => by obtain ⟨H, y1, -⟩ := hSt f hk; exact z8_C y1
  have c5 : ∀ f {k}, k < nX R → gI (nq s2 f) (eS k) 10 0 = some (Int32.ofNat (clN R k)) := fun f k hk => by obtain ⟨H, y1, y2, -⟩ := hSt f hk; rw [z8_g0 y1, y2, (hcl k hk).1]
  generalize hWb : (fun a b => wB (ai R 59) (wS R (nL R) (nN R) (nS R) (P.2.2 R)) a b) = W
  have h33 : ∀ (j : Nat) (f : Nat → Int32), j < nX R → ∀ k7 : Hs → Nat → Nat → Int32 → Option (Nat × Hs), fX11_quarrels_33 k7 (nq s2 f) x s2.1 (Int32.ofNat j) (eS j) 0 = k7 (nq s2 (q1 W (clN R) j f j)) x s2.1 (Int32.ofNat (j + 1)) := by
    intro j f hj k7
    unfold fX11_quarrels_33
    refine lp_q j (fun k z => z = (nq s2 (q1 W (clN R) j f k), x, s2.1, Int32.ofNat j, eS j, Int32.ofNat k)) (fun X => X = k7 (nq s2 (q1 W (clN R) j f j)) x s2.1 (Int32.ofNat (j + 1))) ?_ ?_ fu 0 _ (by omega) rfl (by unfold fu; omega)
    · rintro K k _ hk rfl
      left
      refine ⟨_, rfl, ?_⟩
      have e : q1 W (clN R) j f (k + 1) = if W k j = true then qst (q1 W (clN R) j f k) (clN R k) (clN R j) else q1 W (clN R) j f k := rfl
      rw [e]
      generalize q1 W (clN R) j f k = g
      have hj1 := (hcl j hj).2
      have hk1 := (hcl k (by omega)).2
      simp only [fbX11_quarrels_33, z11_g12 (hA3 _), c1, c3 _ (show k < nX R by omega), c4 _ (show k < nX R by omega), c4 _ hj, c5 _ (show k < nX R by omega), c5 _ hj, x_isWrong (hSt _ (show k < nX R by omega)) (hSt _ hj), Option.bind_some, le_n (show j < 2147483648 by omega) (show k < 2147483648 by omega), if_neg (show ¬ j ≤ k by omega), b2i_0, suc32, nq_ld _ _ (show clN R k < 12 by omega), nq_ld _ _ (show clN R j < 12 by omega), nq_st _ _ (show clN R k < 12 by omega), nq_st _ _ (show clN R j < 12 by omega)]
      have eW : (W k j = true) = WP (ai R 59) (wS R (nL R) (nN R) (nS R) (P.2.2 R)) k j := by rw [← hWb]; unfold wB; exact decide_eq_true_eq
      simp only [eW]
      by_cases c : WP (ai R 59) (wS R (nL R) (nN R) (nS R) (P.2.2 R)) k j
      · rw [if_neg (show ¬ ¬ WP (ai R 59) (wS R (nL R) (nN R) (nS R) (P.2.2 R)) k j from fun q => q c), if_pos c]; rfl
      · rw [if_pos (show ¬ WP (ai R 59) (wS R (nL R) (nN R) (nS R) (P.2.2 R)) k j from c), if_neg c]
    · rintro K _ rfl
      simp only [fbX11_quarrels_33, Int32.le_refl, if_true, suc32]
  have h7 : fX11_quarrels_7 (nq s2 (fun _ => 0)) x s2.1 1 = some (s2.1, nq s2 (q2 W (clN R) (nX R))) := by
    unfold fX11_quarrels_7
    refine lp_q (nX R - 1) (fun k z => z = (nq s2 (q2 W (clN R) (k + 1)), x, s2.1, Int32.ofNat (k + 1))) (fun X => X = some (s2.1, nq s2 (q2 W (clN R) (nX R)))) ?_ ?_ fu 0 _ (by omega) rfl (by unfold fu; omega)
    · rintro K k _ hk rfl
      left
      refine ⟨_, rfl, ?_⟩
      simp only [fbX11_quarrels_7, z11_g12 (hA3 _), c1, c2, c3 _ (show k + 1 < nX R by omega), c4 _ (show k + 1 < nX R by omega), Option.bind_some, le_n (show nX R < 2147483648 by omega) (show k + 1 < 2147483648 by omega), if_neg (show ¬ nX R ≤ k + 1 by omega), h33 (k + 1) _ (show k + 1 < nX R by omega)]
      rfl
    · rintro K _ rfl
      simp only [fbX11_quarrels_7, z11_g12 (hA3 _), c1, c2, Option.bind_some, le_n (show nX R < 2147483648 by omega) (show nX R - 1 + 1 < 2147483648 by omega), if_pos (show nX R ≤ nX R - 1 + 1 by omega)]
      have e : q2 W (clN R) (nX R - 1 + 1) = q2 W (clN R) (nX R) := by
        by_cases q : nX R = 0
        · rw [q]; rfl
        · rw [show nX R - 1 + 1 = nX R by omega]
      rw [e]
  rw [h7, Option.bind_some]
  have eA : q2 W (clN R) (nX R) = qrl R (nL R) (nN R) (nS R) (nX R) (P.2.2 R) := by unfold qrl; rw [hWb]
  rw [eA]
  generalize hAA : qrl R (nL R) (nN R) (nS R) (nX R) (P.2.2 R) = A
  have d1 : isC (nq s2 A) (x + 7) 1 = some () := xJ_C (hQ A).2.2.2.2.2.1.1
  have d2 : fJx4a65c_size_8abf5_0 (nq s2 A) (x + 7) = some (Int32.ofNat (nC R)) := xJ_size (hQ A).2.2.2.2.2.1.1
  have hbl : ∀ s : Int32, fX11_isBlamable_0 (nq s2 A) x s s2.1 = some (b2i (okB A (nC R) s)) := by
    intro s
    unfold fX11_isBlamable_0 fX11_isBlamable_2
    refine lp_q (nC R) (fun c z => z = (x, s, s2.1, Int32.ofNat c) ∧ okB A c s) (fun X => X = some (b2i (okB A (nC R) s))) ?_ ?_ fu 0 _ (by omega) ⟨rfl, fun c hc => absurd hc (by omega)⟩ (by unfold fu; omega)
    · rintro K c _ hc ⟨rfl, hok⟩
      simp only [fbX11_isBlamable_2, fX11_isBlamable_26, z11_g7 (hA3 _), d1, d2, Option.bind_some, le_n (show nC R < 2147483648 by omega) (show c < 2147483648 by omega), if_neg (show ¬ nC R ≤ c by omega), btF_0, nq_ld _ _ (show c < 12 by omega), suc32, if_true, bb_0, show ((1 : Int32) = 0) = False from propext ⟨fun q => absurd q (by decide), False.elim⟩, if_false]
      have stp : (btF s c = true ∨ A c &&& (s ^^^ (-1)) = 0) → okB A (c + 1) s := by
        intro q a ha
        by_cases e : a = c
        · rw [e]; exact q
        · exact hok a (by omega)
      by_cases e : btF s c = false
      · rw [if_pos e]
        by_cases g : A c &&& (s ^^^ (-1)) = 0
        · left; rw [if_pos g]; exact ⟨_, ⟨rfl, stp (Or.inr g)⟩, rfl⟩
        · right; rw [if_neg g]
          refine congrArg some ?_
          unfold b2i; rw [if_neg]
          intro q
          rcases q c hc with r | r
          · rw [e] at r; exact absurd r (by decide)
          · exact g r
      · left; rw [if_neg e]; exact ⟨_, ⟨rfl, stp (Or.inl (by simpa using e))⟩, rfl⟩
    · rintro K _ ⟨rfl, hok⟩
      simp only [fbX11_isBlamable_2, z11_g7 (hA3 _), d1, d2, Option.bind_some, Int32.le_refl, if_true, bb_1]
      refine congrArg some ?_
      unfold b2i; rw [if_pos hok]
  have hp := p2le (nC R) (by omega)
  unfold fX11_blamed_52
  refine lp_q (2 ^ nC R) (fun k z => z = (nq s2 A, x, w, s2.1, (bls A (nC R) k).1, (bls A (nC R) k).2.1, (bls A (nC R) k).2.2, Int32.ofNat k)) (KI P x σ (aBl A (nC R) w) 0 R) ?_ ?_ fu 0 _ (Nat.zero_le _) rfl (by unfold fu; omega)
  · rintro K k _ hk rfl
    left
    refine ⟨_, rfl, ?_⟩
    have e : bls A (nC R) (k + 1) = if bC (Int32.ofNat k) ≤ (bls A (nC R) k).1 ∧ okB A (nC R) (Int32.ofNat k) then (if (bls A (nC R) k).1 ≤ bC (Int32.ofNat k) then ((bls A (nC R) k).1, (bls A (nC R) k).2.1, (bls A (nC R) k).2.2 + 1) else (bC (Int32.ofNat k), Int32.ofNat k, 1)) else bls A (nC R) k := rfl
    rw [e]
    generalize bls A (nC R) k = p
    simp only [fbX11_blamed_52, z11_g7 (hA3 _), d1, d2, Option.bind_some, shn (nC R) (show nC R < 13 by omega), le_n (show 2 ^ nC R < 2147483648 by omega) (show k < 2147483648 by omega), if_neg (show ¬ 2 ^ nC R ≤ k by omega), j_bC, z11_C (hA3 _), hbl, b2i_0, suc32]
    have eL : (p.1 < bC (Int32.ofNat k)) = ¬ (bC (Int32.ofNat k) ≤ p.1) := by rw [lt32, le32]; exact propext (by omega)
    simp only [eL]
    by_cases c : bC (Int32.ofNat k) ≤ p.1
    · rw [if_neg (show ¬ ¬ bC (Int32.ofNat k) ≤ p.1 from fun q => q c)]
      by_cases d : okB A (nC R) (Int32.ofNat k)
      · rw [if_neg (show ¬ ¬ okB A (nC R) (Int32.ofNat k) from fun q => q d), if_pos (show bC (Int32.ofNat k) ≤ p.1 ∧ okB A (nC R) (Int32.ofNat k) from ⟨c, d⟩)]
        by_cases g : p.1 ≤ bC (Int32.ofNat k)
        · rw [if_pos g, if_pos g]
        · rw [if_neg g, if_neg g]
      · rw [if_pos (show ¬ okB A (nC R) (Int32.ofNat k) from d), if_neg (show ¬ (bC (Int32.ofNat k) ≤ p.1 ∧ okB A (nC R) (Int32.ofNat k)) from fun q => d q.2)]
    · rw [if_pos (show ¬ bC (Int32.ofNat k) ≤ p.1 from c), if_neg (show ¬ (bC (Int32.ofNat k) ≤ p.1 ∧ okB A (nC R) (Int32.ofNat k)) from fun q => c q.1)]
  · rintro K _ rfl
    simp only [fbX11_blamed_52, z11_g7 (hA3 _), d1, d2, Option.bind_some, shn (nC R) (show nC R < 13 by omega), Int32.le_refl, if_true]
    have fin : ∀ v, v = aBl A (nC R) w → KI P x σ (aBl A (nC R) w) 0 R (some (v, nq s2 A)) := by
      intro v hv
      refine ⟨nq s2 A, own, by rw [hv], ⟨_, _, _, _, _, _, _, hQ A⟩, (((a5.mono (fun q hq => mem_WT.mpr (Or.inl hq))).trans b4).trans ((nw_chg s2 _).mono (fun q hq => absurd hq (List.not_mem_nil)))).kp h.1 WT_4⟩
    have ea : aBl A (nC R) w = if w = 0 then (bls A (nC R) (2 ^ nC R)).1 else if w = 1 then (bls A (nC R) (2 ^ nC R)).2.1 else (bls A (nC R) (2 ^ nC R)).2.2 := rfl
    by_cases c : w = 0
    · rw [if_pos c]; exact fin _ (by rw [ea, if_pos c])
    · rw [if_neg c]
      by_cases d : w = 1
      · rw [if_pos d]; exact fin _ (by rw [ea, if_neg c, if_pos d])
      · rw [if_neg d]; exact fin _ (by rw [ea, if_neg c, if_neg d])
theorem both_blamed (hP : P.ok) (hB : Bel P x) (hI : Inv P x σ) (w : Int32) : ∃ v σ1 σ2, fX11_blamed_0 σ x w = some (v, σ1) ∧ fX12_blamed_0 σ1 (x + 20) w = some (v, σ2) ∧ Inv P x σ2 := by
  obtain ⟨own, R, hE, hX, hW, h6⟩ := hI
  obtain ⟨hK, hH⟩ := hB R hW
  obtain ⟨σ1, σ2, h1, h2, h3⟩ := arm_I (Y := fun s => fX12_blamed_0 s (x + 20) w) hP h6 hE (by rw [ite_self_R]; exact k_blamed hP hW hX hK w) (fun ρ => r_blamed hW.1 hW.2.1 hW.2.2.1 (hH ρ) hW.2.2.2.1.1 hW.2.2.2.1.2.1 (RX1_of hW) w) (by rw [ite_self_R]; exact hW)
  exact ⟨_, σ1, σ2, h1, h2, h3⟩
end
