section
variable {P : Par} {x : Nat} {own : Nat → Nat} {σ : Hs} {R : Gs} {st : Int32}
theorem x_hasRow {a : Nat} {H : Gs} (hA : A10 a H σ) (hl : ln H 1 ≤ 40) (i n : Int32) : fX10_hasRow_0 σ a i n = some (b2i (0 ≤ i.toInt ∧ 0 ≤ n.toInt ∧ i.toInt + n.toInt ≤ ln H 1)) := by
  unfold fX10_hasRow_0
  have r3 := r32 n
  simp only [z10_g1 hA, z10_n1 hA, Option.bind_some, bb_0, bb_1, lt32, i0]
  by_cases h1 : i.toInt < 0
  · rw [if_pos h1]; unfold b2i; rw [if_neg (by omega)]
  · rw [if_neg h1]
    by_cases h2 : n.toInt < 0
    · rw [if_pos h2]; unfold b2i; rw [if_neg (by omega)]
    · rw [if_neg h2]
      have e : (Int32.ofNat (ln H 1) - n).toInt = (ln H 1 : Int) - n.toInt := by
        rw [sub32, n32 (by omega)]; rw [n32 (by omega)]; omega
      rw [e]
      unfold b2i
      by_cases h3 : (ln H 1 : Int) - n.toInt < i.toInt
      · rw [if_pos h3, if_neg (by omega)]
      · rw [if_neg h3, if_pos (by omega)]
theorem x_pourSt {G : Gs} (hA : A11 x G σ) (hl : ln G 1 = 4) (hT : PTr x own σ R (ar G 1)) (hR : RT R) (t i u j n : Int32) : fX11_pourStatus_0 σ x t i u j n = some (st_pour R t i u j n) := by
  unfold fX11_pourStatus_0
  simp only [x_isTray, Option.bind_some, b2i_0]
  by_cases c1 : 0 ≤ t.toInt ∧ t.toInt < 4
  rotate_left
  · rw [if_pos c1]; unfold st_pour; rw [if_pos (by omega)]
  rw [if_neg (fun q => q c1)]
  by_cases c2 : 0 ≤ u.toInt ∧ u.toInt < 4
  rotate_left
  · rw [if_pos c2]; unfold st_pour; rw [if_pos (by omega)]
  rw [if_neg (fun q => q c2)]
  obtain ⟨tn, rfl, t1, t2⟩ := get32 t (by omega)
  obtain ⟨un, rfl, u1, u2⟩ := get32 u (by omega)
  have ht : tn < 4 := by omega
  have hu : un < 4 := by omega
  have hs : st_pour R (Int32.ofNat tn) i (Int32.ofNat un) j n = if (ai R 3 tn).toInt < 0 ∨ (ai R 3 un).toInt < 0 then 3 else if ai R 2 tn ≠ ai R 2 un then 11 else if n.toInt < 0 then 6 else if i.toInt < 0 ∨ j.toInt < 0 ∨ (ai R 3 tn).toInt < i.toInt + n.toInt ∨ (ai R 3 un).toInt < j.toInt + n.toInt then 4 else 0 := by
    unfold st_pour; rw [if_neg (by omega), c32 t1, c32 u1]
  rw [hs]
  simp only [z11_g1 hA, z11_l1 hA, Option.bind_some, hl, ix_n t1, ix_n u1, decide_eq_true ht, decide_eq_true hu, if_true, c32 t1, c32 u1]
  rcases hT tn ht with ⟨y1, y2⟩ | ⟨a, y1, H, y2, y3, y4, y5, y6, y7⟩
  · rw [if_pos y1, if_pos (Or.inl y2)]
  rw [y1, if_neg (by simp)]
  rcases hT un hu with ⟨z1, z2⟩ | ⟨b, z1, K, z2, z3, z4, z5, z6, z7⟩
  · rw [if_pos z1, if_pos (Or.inr z2)]
  rw [z1, if_neg (by simp), if_neg (show ¬ ((ai R 3 tn).toInt < 0 ∨ (ai R 3 un).toInt < 0) by omega)]
  have a1 := hR tn ht
  have a2 := hR un hu
  simp only [Option.bind_some, z10_g0 y2, z10_g0 z2, y5, z5, le32, i0]
  by_cases c3 : ai R 2 tn = ai R 2 un
  rotate_left
  · rw [if_neg c3, if_pos c3]
  rw [if_pos c3, if_neg (show ¬ (ai R 2 tn ≠ ai R 2 un) from fun q => q c3)]
  by_cases c4 : 0 ≤ n.toInt
  rotate_left
  · rw [if_neg c4, if_pos (show n.toInt < 0 by omega)]
  rw [if_pos c4, if_neg (show ¬ n.toInt < 0 by omega)]
  simp only [z10_C y2, z10_C z2, x_hasRow y2 (by omega), x_hasRow z2 (by omega), Option.bind_some, b2i_0]
  (repeat' split) <;> first | rfl | omega
theorem k_pour (hP : P.ok) (hW : RW R) (h : XW P x own σ R st) (hbk : P.bk) (t i u j n : Int32) : KI P x σ (b2i (st_pour R t i u j n = 0)) (st_pour R t i u j n) (if st_pour R t i u j n = 0 then u_pour R t i u j n else R) (fX11_pour_0 σ x t i u j n) := by
  obtain ⟨G, T, eC, eV, eN, eT, eS, h⟩ := h
  have hA := h.2.2.1.at
  have hl1 : ln G 1 = 4 := h.2.2.1.2.2.2.2.2.2.2.1.1
  have hRT := hW.2.2.2.2.2.2.2.2.2.1.1
  have hst := x_pourSt hA hl1 h.2.2.2.1 hRT t i u j n
  unfold fX11_pour_0
  simp only [z11_C hA, hst, Option.bind_some, z11_p0 hA]
  generalize hv : st_pour R t i u j n = y at *
  have hA2 : A11 x (sfi G 0 y) (e11 x σ (sfi G 0 y)) := A11_self _ _
  simp only [z11_g0 hA2, Option.bind_some, q_fi_sfi, q_fl_sfi, q_fr_sfi, q_ai_sfi, q_al_sfi, q_ar_sfi, q_ln_sfi, q_fi_sfl, q_fl_sfl, q_fr_sfl, q_ai_sfl, q_al_sfl, q_ar_sfl, q_ln_sfl, q_fi_sfr, q_fl_sfr, q_fr_sfr, q_ai_sfr, q_al_sfr, q_ar_sfr, q_ln_sfr, q_fi_sai, q_fl_sai, q_fr_sai, q_ai_sai, q_al_sai, q_ar_sai, q_ln_sai, q_fi_sal, q_fl_sal, q_fr_sal, q_ai_sal, q_al_sal, q_ar_sal, q_ln_sal, q_fi_sar, q_fl_sar, q_fr_sar, q_ai_sar, q_al_sar, q_ar_sar, q_ln_sar, reduceIte, Nat.reduceEqDiff, bb_0, bb_1]
  by_cases h0 : y = 0
  · rw [if_pos h0, if_pos h0, show b2i (y = 0) = 1 from if_pos h0]
    obtain ⟨sn, iN, tn, jn, nn, rfl, rfl, rfl, rfl, rfl, k0, k1, k2, k3, k4, k5, k6⟩ := st_pour_0 hRT (hv.trans h0)
    have hs := h.st hP hW y
    generalize hs1 : e11 x σ (sfi G 0 y) = s1 at *
    obtain ⟨h0', g1, g2, g3, g4, g5, g6, g7, g8, g9, g10, g11, g12, g13⟩ := hs
    rcases g3 sn k0 with ⟨y1, y2⟩ | ⟨a0, y01, H0, y02, y03, y04, y05, y06, y07⟩
    · exact absurd y2 (by omega)
    rcases g3 tn k1 with ⟨y1, y2⟩ | ⟨a, y1, H, y2, ⟨y3, y3'⟩, y4, y5, y6, y7⟩
    · exact absurd y2 (by omega)
    have l1 : ln (sfi G 0 y) 1 = 4 := hl1
    have yar : ar (sfi G 0 y) 1 tn = some a := y1
    have yar0 : ar (sfi G 0 y) 1 sn = some a0 := y01
    have hcp := z10_cp y02 y2 (show iN < 2147483648 by omega) (show jn < 2147483648 by omega) (show nn < 2147483648 by omega) (by omega) (by omega)
    simp only [z11_g1 hA2, z11_l1 hA2, Option.bind_some, l1, ix_n (show tn < 2147483648 by omega), ix_n (show sn < 2147483648 by omega), decide_eq_true k1, decide_eq_true k0, if_true, c32 (show tn < 2147483648 by omega), c32 (show sn < 2147483648 by omega), yar, yar0, z10_g1 y2, z10_g1 y02, hcp]
    generalize hH2 : sal H 1 (va_cpy (al H0 1) (al H 1) iN jn nn) = H2
    have hE : Ext own own s1.1 := fun _ _ => rfl
    have hC : Chg x own [1, 10 + tn] s1 (e10 a s1 H2) := ⟨Nat.le_refl _, rfl, fun b _ hnb => e10_out _ _ (fun q => hnb (by
      rcases q with q | q
      · rw [q, y3]; exact List.mem_cons_of_mem _ List.mem_cons_self
      · rw [q, y3']; exact List.mem_cons_of_mem _ List.mem_cons_self))⟩
    have hC1 : Chg x own [10 + tn] s1 (e10 a s1 H2) := ⟨Nat.le_refl _, rfl, fun b _ hnb => e10_out _ _ (fun q => hnb (by
      rcases q with q | q
      · rw [q, y3]; exact List.mem_cons_self
      · rw [q, y3']; exact List.mem_cons_self))⟩
    generalize hU : u_pour R (Int32.ofNat sn) (Int32.ofNat iN) (Int32.ofNat tn) (Int32.ofNat jn) (Int32.ofNat nn) = R'
    have hR : Fr [4] R R' := by rw [← hU]; exact (Fr.refl _ R).sal (by decide) _
    have f4 : ∀ q, al R' 4 q = if 40 * tn + jn ≤ q ∧ q < 40 * tn + jn + nn then al R 4 (40 * sn + iN + (q - (40 * tn + jn))) else al R 4 q := by intro q; rw [← hU]; unfold u_pour; rw [c32 (show tn < 2147483648 by omega), c32 (show sn < 2147483648 by omega), c32 (show iN < 2147483648 by omega), c32 (show jn < 2147483648 by omega), c32 (show nn < 2147483648 by omega)]; rfl
    have fb : P.2.2 R' = P.2.2 R := hbk _ _ _ hR (by decide)
    have hNn : nL R' = nL R ∧ nC R' = nC R ∧ nS R' = nS R ∧ nT R' = nT R ∧ nV R' = nV R ∧ nN R' = nN R ∧ nX R' = nX R := by rw [← hU]; exact ⟨rfl, rfl, rfl, rfl, rfl, rfl, rfl⟩
    obtain ⟨w1, w2, w3, w4, w5, w6, w7, w8, w9⟩ := hW
    have hn : ∀ {q : Nat}, (q = 0 ∨ (2 ≤ q ∧ q < 10) ∨ 14 ≤ q) → q ∉ [1, 10 + tn] := fun hq => nin_tr k1 rfl hq
    refine ⟨_, own, rfl, ⟨sfi G 0 y, T, eC, eV, eN, eT, eS, ?_⟩, ?_⟩
    · unfold XWg
      rw [hNn.1, hNn.2.1, hNn.2.2.1, hNn.2.2.2.1, hNn.2.2.2.2.1, hNn.2.2.2.2.2.1, hNn.2.2.2.2.2.2, fb]
      refine ⟨h0', g1.fr h0' hC (hn (by omega)), g2.fr h0' hC1 (by intro q; simp only [List.mem_cons, List.not_mem_nil, or_false] at q; omega) hR (by decide), fun i hi => ?_, g4.fr h0' hC (hn (by omega)) hR (by decide), g5.fr w4.2.1 h0' hE hC ⟨hn (by omega), hn (by omega), fun i hi => hn (by omega)⟩ hR (by decide) (fun q => q), g6.fr h0' hE hC ⟨hn (by omega), hn (by omega), hn (by omega)⟩ hR (by decide), g7.fr w2.2.1 h0' hE hC ⟨hn (by omega), hn (by omega), fun i hi => hn (by omega)⟩ hR (by decide) (fun q => q), g8.fr w7.2 h0' hE hC ⟨hn (by omega), hn (by omega), fun i hi => hn (by omega)⟩ hR (by decide) (hP.1 _ _ _ hR (by decide)), g9.fr w8.2.1 h0' hE hC ⟨hn (by omega), hn (by omega), fun i hi => hn (by omega)⟩ hR (by decide), g10.fr hE hC (hn (by omega)) hR (by decide) (hP.2.1 _ _ _ hR (by decide)), g11.fr h0' hC (hn (by omega)) hR (by decide), g12.fr hE hC (hn (by omega)) hR (by decide), g13.fr hE hC (fun i hi => hn (by omega)) hR (by decide)⟩
      by_cases hin : i = tn
      · subst hin
        right
        refine ⟨a, y1, H2, A10_self _ _, ⟨y3, y3'⟩, y4, ?_, ?_, fun q hq => ?_⟩
        · rw [hR.ai 2 (by decide), ← hH2]; exact y5
        · rw [hR.ai 3 (by decide), ← hH2]; exact y6
        · have hq2 : q < ln H 1 := by rw [← hH2] at hq; exact hq
          have e1 : al H2 1 q = if jn ≤ q ∧ q < jn + nn then al H0 1 (iN + (q - jn)) else al H 1 q := by rw [← hH2]; rfl
          rw [e1, f4]
          by_cases hqk : jn ≤ q ∧ q < jn + nn
          · rw [if_pos hqk, if_pos (by omega), y07 _ (by omega)]
            congr 1; omega
          · rw [if_neg hqk, if_neg (by omega)]; exact y7 q hq2
      · rcases g3 i hi with ⟨z1, z2⟩ | ⟨b, z1, z2⟩
        · exact Or.inl ⟨z1, by rw [hR.ai 3 (by decide)]; exact z2⟩
        · refine Or.inr ⟨b, z1, z2.fr hE hC (by intro q; simp only [List.mem_cons, List.not_mem_nil, or_false] at q; omega) (by rw [hR.ai 2 (by decide)]) (by rw [hR.ai 3 (by decide)]) (fun q hq => ?_)⟩
          rw [f4, if_neg]
          intro e
          have := (hRT i hi).2
          omega
    · have hkp1 : Chg x own [1, 10 + tn] σ s1 := by rw [← hs1]; exact e11_chg σ _ List.mem_cons_self
      exact (hkp1.trans hC).kp h.1 (hn (by omega))
  · rw [if_neg h0, if_neg h0, show b2i (y = 0) = 0 from if_neg h0]
    exact KI.no hP h hW _ _
theorem both_pour (hP : P.ok) (hK : P.bk) (hI : Inv P x σ) (t i u j n : Int32) : ∃ w σ1 σ2, fX11_pour_0 σ x t i u j n = some (w, σ1) ∧ fX12_pour_0 σ1 (x + 20) t i u j n = some (w, σ2) ∧ Inv P x σ2 := by
  obtain ⟨own, R, hE, hX, hW, h6⟩ := hI
  obtain ⟨σ1, σ2, h1, h2, h3⟩ := arm_B (Y := fun y => fX12_pour_0 y (x + 20) t i u j n) hP h6 hE (k_pour hP hW hX hK t i u j n) (fun ρ => r_pour (x + 20) ρ R hW.2.2.2.2.2.2.2.2.2.1.1 t i u j n) (RW_ite (fun _ => (hW : RW (u_pour R t i u j n))) hW)
  exact ⟨_, σ1, σ2, h1, h2, h3⟩
end
