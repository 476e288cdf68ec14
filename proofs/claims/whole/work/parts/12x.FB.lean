section
variable {P : Par} {x : Nat} {own : Nat → Nat} {σ : Hs} {R : Gs} {st : Int32}
theorem x_rowsSt {G : Gs} (hA : A11 x G σ) (hl : ln G 1 = 4) (hT : PTr x own σ R (ar G 1)) (hR : RT R) (t u n most : Int32) : fX11_rowsStatus_0 σ x t u n most = some (st_rows R t u n most.toInt) := by
  unfold fX11_rowsStatus_0
  simp only [x_isTray, x_isWithin, Option.bind_some, b2i_0]
  by_cases c1 : 0 ≤ t.toInt ∧ t.toInt < 4
  rotate_left
  · rw [if_pos c1]; unfold st_rows; rw [if_pos (by omega)]
  rw [if_neg (fun q => q c1)]
  by_cases c2 : 0 ≤ u.toInt ∧ u.toInt < 4
  rotate_left
  · rw [if_pos c2]; unfold st_rows; rw [if_pos (by omega)]
  rw [if_neg (fun q => q c2)]
  obtain ⟨tn, rfl, t1, t2⟩ := get32 t (by omega)
  obtain ⟨un, rfl, u1, u2⟩ := get32 u (by omega)
  have ht : tn < 4 := by omega
  have hu : un < 4 := by omega
  have hs : st_rows R (Int32.ofNat tn) (Int32.ofNat un) n most.toInt = if (ai R 3 tn).toInt < 0 ∨ (ai R 3 un).toInt < 0 then 3 else if n.toInt < 1 ∨ most.toInt < n.toInt then 5 else if (ai R 3 tn).toInt < n.toInt ∨ (ai R 3 un).toInt < n.toInt then 4 else 0 := by
    unfold st_rows; rw [if_neg (by omega), c32 t1, c32 u1]
  rw [hs]
  simp only [z11_g1 hA, z11_l1 hA, Option.bind_some, hl, ix_n t1, ix_n u1, decide_eq_true ht, decide_eq_true hu, if_true, c32 t1, c32 u1]
  rcases hT tn ht with ⟨y1, y2⟩ | ⟨a, y1, H, y2, y3, y4, y5, y6, y7⟩
  · rw [if_pos y1, if_pos (Or.inl y2)]
  rw [y1, if_neg (by simp)]
  rcases hT un hu with ⟨z1, z2⟩ | ⟨b, z1, K, z2, z3, z4, z5, z6, z7⟩
  · rw [if_pos z1, if_pos (Or.inr z2)]
  rw [z1, if_neg (by simp), if_neg (show ¬ ((ai R 3 tn).toInt < 0 ∨ (ai R 3 un).toInt < 0) by omega)]
  have a1 := hR tn ht
  have a2 := hR un hu
  simp only [Option.bind_some, z10_C y2, z10_C z2, x_hasRow y2 (show ln H 1 ≤ 40 by omega), x_hasRow z2 (show ln K 1 ≤ 40 by omega), b2i_0, i0, i1]
  (repeat' split) <;> first | rfl | omega
theorem x_at {a : Nat} {H : Gs} (hA : A10 a H σ) {k : Nat} (hk : k < ln H 1) (hl : ln H 1 ≤ 40) : fX10_at_0 σ a (Int32.ofNat k) = some (al H 1 k) := by
  unfold fX10_at_0
  rw [if_neg (by rw [lt32, n32 (by omega), i0]; omega)]
  simp only [z10_g1 hA, z10_n1 hA, z10_l1 hA, Option.bind_some, le_n (show ln H 1 < 2147483648 by omega) (show k < 2147483648 by omega), if_neg (show ¬ ln H 1 ≤ k by omega), ix_n (show k < 2147483648 by omega), decide_eq_true hk, if_true, c32 (show k < 2147483648 by omega)]
theorem x_areA {a b l g n : Nat} {H K : Gs} (hH : A10 a H σ) (hK : A10 b K σ) (h1 : n ≤ ln H 1) (h2 : n ≤ ln K 1) (b1 : ln H 1 ≤ 40) (b2 : ln K 1 ≤ 40) (e1 : ∀ k, k < ln H 1 → al H 1 k = al R 4 (40 * l + k)) (e2 : ∀ k, k < ln K 1 → al K 1 k = al R 4 (40 * g + k)) : fX11_areAnswers_0 σ a b (Int32.ofNat n) = some (b2i (OkA R l g n)) := by
  unfold fX11_areAnswers_0 fX11_areAnswers_2
  refine lp_q n (fun k z => z = (a, b, Int32.ofNat n, Int32.ofNat k) ∧ OkA R l g k) (fun X => X = some (b2i (OkA R l g n))) ?_ ?_ fu 0 _ (by omega) ⟨rfl, fun k hk => absurd hk (by omega)⟩ (by unfold fu; omega)
  · rintro L k _ hk ⟨rfl, hok⟩
    have e6 : ((-1000000 : Int64)).toInt = -1000000 := rfl
    have e7 : ((1000000 : Int64)).toInt = 1000000 := rfl
    simp only [fbX11_areAnswers_2, z10_C hH, z10_C hK, x_at hH (show k < ln H 1 by omega) b1, x_at hK (show k < ln K 1 by omega) b2, e1 k (by omega), e2 k (by omega), Option.bind_some, le_n (show n < 2147483648 by omega) (show k < 2147483648 by omega), if_neg (show ¬ n ≤ k by omega), lt64, le64, e6, e7, suc32, bb_0]
    by_cases c : okA1 R l g k
    · left
      rw [if_neg (by omega), if_neg (by omega), if_pos (by omega)]
      refine ⟨_, ⟨rfl, fun j hj => ?_⟩, rfl⟩
      by_cases d : j = k
      · subst d; exact c
      · exact hok j (by omega)
    · right
      have e0 : some (0 : Int32) = some (b2i (OkA R l g n)) := by
        unfold b2i; rw [if_neg (fun q => c (q k hk))]
      rw [← e0]
      by_cases d1 : (al R 4 (40 * l + k)).toInt < -1000000
      · rw [if_pos d1]
      · rw [if_neg d1]
        by_cases d2 : 1000000 < (al R 4 (40 * g + k)).toInt
        · rw [if_pos d2]
        · rw [if_neg d2, if_neg (fun q => c ⟨by omega, q, by omega⟩)]
  · rintro L _ ⟨rfl, hok⟩
    simp only [fbX11_areAnswers_2, Int32.le_refl, if_true, bb_1]
    refine congrArg some ?_
    unfold b2i; rw [if_pos hok]
theorem k_answers (hP : P.ok) (hW : RW R) (h : XW P x own σ R st) (hbk : P.bk) (l g n : Int32) : KI P x σ (rf (st_ans R l g n) (n - Int32.ofNat (agr (anL R 80 l.toNatClampNeg n.toNatClampNeg) (anL R 81 g.toNatClampNeg n.toNatClampNeg) n.toNatClampNeg))) (st_ans R l g n) (if st_ans R l g n = 0 then u_ans R l.toNatClampNeg g.toNatClampNeg n.toNatClampNeg else R) (fX11_answers_0 σ x l g n) := by
  obtain ⟨G, T, eC, eV, eN, eT, eS, h⟩ := h
  have hA := h.2.2.1.at
  have hl1 : ln G 1 = 4 := h.2.2.1.2.2.2.2.2.2.2.1.1
  have hRT := hW.2.2.2.2.2.2.2.2.2.1.1
  have hst := x_rowsSt hA hl1 h.2.2.2.1 hRT l g n 12
  have e12 : (12 : Int32).toInt = 12 := rfl
  rw [e12] at hst
  unfold fX11_answers_0
  simp only [z11_C hA, hst, Option.bind_some, z11_p0 hA]
  generalize hv : st_rows R l g n 12 = y at *
  have hA2 : A11 x (sfi G 0 y) (e11 x σ (sfi G 0 y)) := A11_self _ _
  have h44 : ∀ v : Int32, v ≠ 0 → KI P x σ (-1) v R (fX11_answers_44 (e11 x σ (sfi G 0 v)) x l g n) := by
    intro v hv0
    unfold fX11_answers_44
    simp only [z11_g0 (A11_self σ (sfi G 0 v)), Option.bind_some, q_fi_sfi, q_fl_sfi, q_fr_sfi, q_ai_sfi, q_al_sfi, q_ar_sfi, q_ln_sfi, q_fi_sfl, q_fl_sfl, q_fr_sfl, q_ai_sfl, q_al_sfl, q_ar_sfl, q_ln_sfl, q_fi_sfr, q_fl_sfr, q_fr_sfr, q_ai_sfr, q_al_sfr, q_ar_sfr, q_ln_sfr, q_fi_sai, q_fl_sai, q_fr_sai, q_ai_sai, q_al_sai, q_ar_sai, q_ln_sai, q_fi_sal, q_fl_sal, q_fr_sal, q_ai_sal, q_al_sal, q_ar_sal, q_ln_sal, q_fi_sar, q_fl_sar, q_fr_sar, q_ai_sar, q_al_sar, q_ar_sar, q_ln_sar, reduceIte, Nat.reduceEqDiff]
    rw [if_neg hv0]; exact KI.no hP h hW _ _
  simp only [z11_g0 hA2, Option.bind_some, q_fi_sfi, q_fl_sfi, q_fr_sfi, q_ai_sfi, q_al_sfi, q_ar_sfi, q_ln_sfi, q_fi_sfl, q_fl_sfl, q_fr_sfl, q_ai_sfl, q_al_sfl, q_ar_sfl, q_ln_sfl, q_fi_sfr, q_fl_sfr, q_fr_sfr, q_ai_sfr, q_al_sfr, q_ar_sfr, q_ln_sfr, q_fi_sai, q_fl_sai, q_fr_sai, q_ai_sai, q_al_sai, q_ar_sai, q_ln_sai, q_fi_sal, q_fl_sal, q_fr_sal, q_ai_sal, q_al_sal, q_ar_sal, q_ln_sal, q_fi_sar, q_fl_sar, q_fr_sar, q_ai_sar, q_al_sar, q_ar_sar, q_ln_sar, reduceIte, Nat.reduceEqDiff]
  by_cases h0 : y = 0
  rotate_left
  · rw [if_neg h0]
    have e : st_ans R l g n = y := by unfold st_ans; rw [hv, if_pos h0]
    rw [e, if_neg h0, show rf y _ = -1 from if_neg h0]
    exact h44 y h0
  rw [if_pos h0]
  subst h0
  obtain ⟨tn, un, nn, rfl, rfl, rfl, k0, k1, k2, k3, k4, k5, k6⟩ := st_rows_0 hRT hv
  have hs := h.st hP hW 0
  have e44 : ∀ v, e11 x (e11 x σ (sfi G 0 0)) (sfi (sfi G 0 0) 0 v) = e11 x σ (sfi G 0 v) := fun v => by rw [sfi_sfi]; exact eX_eX _ _ _
  have hst2 : st_ans R (Int32.ofNat tn) (Int32.ofNat un) (Int32.ofNat nn) = if OkA R tn un nn then 0 else 5 := by
    unfold st_ans; rw [hv, if_neg (fun q => q rfl), c32 (by omega), c32 (by omega), c32 (by omega)]
  rw [c32 (show tn < 2147483648 by omega), c32 (show un < 2147483648 by omega), c32 (show nn < 2147483648 by omega)]
  generalize hs1 : e11 x σ (sfi G 0 0) = s1 at *
  have e1 : s1.1 = σ.1 := by rw [← hs1]; rfl
  obtain ⟨h0', g1, g2, g3, g4, g5, g6, g7, g8, g9, g10, g11, g12, g13⟩ := hs
  rcases g3 tn k0 with ⟨y1, y2⟩ | ⟨a, y1, H, y2, y3, y4, y5, y6, y7⟩
  · exact absurd y2 (by omega)
  rcases g3 un k1 with ⟨z1, z2⟩ | ⟨b, z1, K, z2, z3, z4, z5, z6, z7⟩
  · exact absurd z2 (by omega)
  have l1 : ln (sfi G 0 0) 1 = 4 := hl1
  have yar : ar (sfi G 0 0) 1 tn = some a := y1
  have zar : ar (sfi G 0 0) 1 un = some b := z1
  have bt := hRT tn k0
  have bu := hRT un k1
  simp only [z11_g1 hA2, z11_l1 hA2, z11_p0 hA2, Option.bind_some, l1, ix_n (show tn < 2147483648 by omega), ix_n (show un < 2147483648 by omega), decide_eq_true k0, decide_eq_true k1, if_true, c32 (show tn < 2147483648 by omega), c32 (show un < 2147483648 by omega), yar, zar, x_areA (R := R) (l := tn) (g := un) y2 z2 (show nn ≤ ln H 1 by omega) (show nn ≤ ln K 1 by omega) (by omega) (by omega) y7 z7, b2i_0, e44]
  by_cases hok : OkA R tn un nn
  rotate_left
  · rw [if_pos (show ¬ OkA R tn un nn from hok), hst2, if_neg (show ¬ OkA R tn un nn from hok), if_neg (show ¬ (5 : Int32) = 0 by decide), show rf 5 _ = -1 from if_neg (by decide)]
    exact h44 5 (by decide)
  rw [if_neg (show ¬ ¬ OkA R tn un nn from fun q => q hok), hst2, if_pos hok, if_pos rfl, show rf 0 _ = _ from if_pos rfl]
  unfold fX11_answers_44
  obtain ⟨s2, A, t1, t2, t3, t4, t5, t6, t7, t8, t9, t10⟩ := x0_new s1 (v1 := a + 1) (v2 := b + 1) (n1 := ln H 1) (n2 := ln K 1) (n := nn) (by omega) (by omega) (A10_arr y2) (A10_arr z2) (by omega) (by omega) (by omega) (by omega) (by omega)
  have hAn : A11 x (sfi G 0 0) (nwO 2 tyX0 s1) := A11_fr hA2 (fun q hq => nw_n _ _ (by omega))
  have hHn : A10 a H (nwO 2 tyX0 s1) := A10_fr y2 (fun q hq => nw_n _ _ (by omega))
  have hKn : A10 b K (nwO 2 tyX0 s1) := A10_fr z2 (fun q hq => nw_n _ _ (by omega))
  have hA3 : A11 x (sfi G 0 0) s2 := A11_fr hA2 (fun q hq => t4 q (by omega))
  generalize hG3 : sfr (sfi G 0 0) 15 (some s1.1) = G3
  have hA4 : A11 x G3 (e11 x s2 G3) := A11_self _ _
  have p15 : fr G3 15 = some s1.1 := by rw [← hG3]; rfl
  have hO : AnO s1.1 A (anL R 80 tn nn) (anL R 81 un nn) nn (e11 x s2 G3) := by
    refine ⟨A0_fr t5 (fun q hq => e11_out _ _ (by omega)), by omega, ⟨t6, t7, t8⟩, fun k hk => ?_⟩
    obtain ⟨q1, q2⟩ := t10 k hk
    rw [q1, q2, y7 k (by omega), z7 k (by omega)]
    obtain ⟨o1, o2, o3⟩ := hok k hk
    rw [anL_in hk, anL_in hk]
    exact ⟨(eq64.mpr (by rw [up64, dn32 (by omega)])), (eq64.mpr (by rw [up64, dn32 (by omega)]))⟩
  have hag := x_agree hO (by omega) (anL_lu hok) (fun k hk => by obtain ⟨o1, o2, o3⟩ := hok k hk; obtain ⟨v1, v2⟩ := anL_v hok hk; omega) t9
  generalize hA5 : sfl (sfl (sfi A 3 (Int32.ofNat (agr (anL R 80 tn nn) (anL R 81 un nn) nn))) 4 (sLw (anL R 80 tn nn) (anL R 81 un nn) nn).toInt64) 5 (sTp (anL R 80 tn nn) (anL R 81 un nn) nn).toInt64 = A5 at *
  generalize hs5 : e0 s1.1 (e11 x s2 G3) A5 = s5 at *
  have hA6 : A11 x G3 s5 := by rw [← hs5]; exact A11_fr hA4 (fun q hq => e0_out _ _ (by omega))
  have hO6 : A0 s1.1 A5 s5 := by rw [← hs5]; exact A0_self _ _
  have f3 : fi A5 3 = Int32.ofNat (agr (anL R 80 tn nn) (anL R 81 un nn) nn) := by rw [← hA5]; rfl
  simp only [z11_g0 hA2, q_fi_sfi, q_fl_sfi, q_fr_sfi, q_ai_sfi, q_al_sfi, q_ar_sfi, q_ln_sfi, q_fi_sfl, q_fl_sfl, q_fr_sfl, q_ai_sfl, q_al_sfl, q_ar_sfl, q_ln_sfl, q_fi_sfr, q_fl_sfr, q_fr_sfr, q_ai_sfr, q_al_sfr, q_ar_sfr, q_ln_sfr, q_fi_sai, q_fl_sai, q_fr_sai, q_ai_sai, q_al_sai, q_ar_sai, q_ln_sai, q_fi_sal, q_fl_sal, q_fr_sal, q_ai_sal, q_al_sal, q_ar_sal, q_ln_sal, q_fi_sar, q_fl_sar, q_fr_sar, q_ai_sar, q_al_sar, q_ar_sar, q_ln_sar, reduceIte, Nat.reduceEqDiff, reduceIte, Option.bind_some, z11_g1 hAn, z11_l1 hAn, l1, ix_n (show tn < 2147483648 by omega), ix_n (show un < 2147483648 by omega), decide_eq_true k0, decide_eq_true k1, if_true, c32 (show tn < 2147483648 by omega), c32 (show un < 2147483648 by omega), yar, zar, z10_g1 hHn, z10_g1 hKn, t1, z11_p15 hA3, hG3, z11_g15 hA4, p15, z0_C hO.1, hag, z11_g15 hA6, z0_g3 hO6, f3]
  let own1 : Nat → Nat := fun a => if a < σ.1 then own a else 321
  have hE : Ext own own1 s1.1 := fun a ha => if_pos (by omega)
  have e51 : s5.1 = s1.1 + 3 := by rw [← hs5]; exact t2
  have hC : Chg x own [1] s1 s5 := ⟨by omega, by rw [← hs5]; exact t3, fun q hq hnq => by
    rw [← hs5]
    exact ((e0_out _ _ (by omega)).trans (e11_out _ _ (fun w => hnq (by rw [tg_x w]; exact List.mem_cons_self)))).trans (t4 q hq)⟩
  generalize hU : u_ans R tn un nn = R'
  have hR : Fr [80, 81, 87, 88, 89, 90] R R' := by rw [← hU]; exact (((((((Fr.refl _ R).sfi (by decide) _).sai (by decide) _).sai (by decide) _).sfi (by decide) _).sfi (by decide) _).sfi (by decide) _)
  have fb : P.2.2 R' = P.2.2 R := hbk _ _ _ hR (by decide)
  have hNn : nL R' = nL R ∧ nC R' = nC R ∧ nS R' = nS R ∧ nT R' = nT R ∧ nV R' = nV R ∧ nN R' = nN R ∧ nX R' = nX R := by rw [← hU]; exact ⟨rfl, rfl, rfl, rfl, rfl, rfl, rfl⟩
  have p1 : ar G3 1 = ar G 1 := by rw [← hG3]; rfl
  have p13 : fr G3 13 = fr G 13 := by rw [← hG3]; rfl
  have p17 : ar G3 17 = ar G 17 := by rw [← hG3]; rfl
  have p18 : fi G3 18 = fi G 18 := by rw [← hG3]; rfl
  obtain ⟨w1, w2, w3, w4, w5, w6, w7, w8, w9⟩ := hW
  have hn : ∀ {q : Nat}, q ≠ 1 → q ∉ [1] := fun hk q => hk (List.mem_singleton.mp q)
  refine ⟨_, own1, rfl, ⟨G3, T, eC, eV, eN, eT, eS, ?_⟩, ?_⟩
  · unfold XWg
    rw [hNn.1, hNn.2.1, hNn.2.2.1, hNn.2.2.2.1, hNn.2.2.2.2.1, hNn.2.2.2.2.2.1, hNn.2.2.2.2.2.2, fb, p1, p13, p17, p18]
    refine ⟨by omega, g1.fr h0' hC (by decide), ?_, g3.fr hE hC (fun i hi => hn (by omega)) hR (by decide), g4.fr h0' hC (by decide) hR (by decide), g5.fr w4.2.1 h0' hE hC ⟨by decide, by decide, fun i hi => hn (by omega)⟩ hR (by decide) (fun q => q), g6.fr h0' hE hC (by decide) hR (by decide), g7.fr w2.2.1 h0' hE hC ⟨by decide, by decide, fun i hi => hn (by omega)⟩ hR (by decide) (fun q => q), g8.fr w7.2 h0' hE hC ⟨by decide, by decide, fun i hi => hn (by omega)⟩ hR (by decide) (hP.1 _ _ _ hR (by decide)), g9.fr w8.2.1 h0' hE hC ⟨by decide, by decide, fun i hi => hn (by omega)⟩ hR (by decide), g10.fr hE hC (by decide) hR (by decide) (hP.2.1 _ _ _ hR (by decide)), g11.fr h0' hC (by decide) hR (by decide), ?_, g13.fr hE hC (fun i hi => hn (by omega)) hR (by decide)⟩
    · obtain ⟨b1, b2, b3, b4, b5, b6, b7, b8, b9, b10⟩ := g2
      refine ⟨hA6, ?_, ?_, ?_, ?_, ?_, ?_, ?_, ?_, ?_⟩
      · rw [← hG3]; rfl
      · rw [← hG3, hR.i 17 (by decide)]; exact b3
      · rw [← hG3, hR.i 19 (by decide)]; exact b4
      · rw [← hG3, hR.i 20 (by decide)]; exact b5
      · rw [← hG3, hR.i 12 (by decide)]; exact b6
      · rw [← hG3, hR.i 91 (by decide)]; exact b7
      · rw [← hG3]; exact b8
      · rw [← hG3]; exact b9
      · rw [hR.i 17 (by decide), hR.ai 16 (by decide), ← hG3]; exact b10
    · right
      refine ⟨s1.1, A5, nn, p15, hO6, ⟨fun j hj => ?_, by omega⟩, by rw [← hU]; rfl, ⟨by omega, by omega⟩, ⟨by rw [← hA5]; exact t6, by rw [← hA5]; exact t7, by rw [← hA5]; exact t8⟩, by rw [f3, ← hU]; rfl, by rw [← hA5, ← hU]; rfl, by rw [← hA5, ← hU]; rfl, fun k hk => ?_⟩
      · unfold tg; rw [if_neg (by omega), if_neg (by omega)]; exact if_neg (by omega)
      · rw [← hU, ← hA5]; exact hO.2.2.2 k hk
  · have hkp1 : Chg x own [1] σ s1 := by rw [← hs1]; exact e11_chg σ _ List.mem_cons_self
    exact (hkp1.trans hC).kp h.1 (by decide)
theorem RW_ans (hW : RW R) {l g n : Int32} (h : st_ans R l g n = 0) : RW (u_ans R l.toNatClampNeg g.toNatClampNeg n.toNatClampNeg) := by
  have hRT := hW.2.2.2.2.2.2.2.2.2.1.1
  have hr : st_rows R l g n 12 = 0 := by
    unfold st_ans at h
    by_cases c : st_rows R l g n 12 = 0
    · exact c
    · rw [if_pos c] at h; exact h
  obtain ⟨tn, un, nn, rfl, rfl, rfl, k0, k1, k2, k3, k4, k5, k6⟩ := st_rows_0 hRT hr
  have hok : OkA R tn un nn := by
    unfold st_ans at h
    rw [hr, if_neg (fun q => q rfl), c32 (by omega), c32 (by omega), c32 (by omega)] at h
    by_cases c : OkA R tn un nn
    · exact c
    · rw [if_neg c] at h; exact absurd h (by decide)
  rw [c32 (by omega), c32 (by omega), c32 (by omega)]
  obtain ⟨w1, w2, w3, w4, w5, w6, w7, w8, w9, w10, w11, w12, w13⟩ := hW
  refine ⟨w1, w2, w3, w4, w5, w6, w7, w8, w9, w10, w11, ⟨nn, by omega, rfl, fun k hk => ?_⟩, w13⟩
  obtain ⟨o1, o2, o3⟩ := hok k hk
  obtain ⟨v1, v2⟩ := anL_v hok hk
  have hb := hv_agr (anL R 80 tn nn) (anL R 81 un nn) (anL R 80 tn nn k).toInt nn
  have hc := agr_le (anL R 80 tn nn) (anL R 81 un nn) nn
  show -1000000 ≤ (anL R 80 tn nn k).toInt ∧ (anL R 80 tn nn k).toInt ≤ (anL R 81 un nn k).toInt ∧ (anL R 81 un nn k).toInt ≤ 1000000 ∧ (hv (anL R 80 tn nn) (anL R 81 un nn) (anL R 80 tn nn k).toInt nn : Int) ≤ (Int32.ofNat (agr (anL R 80 tn nn) (anL R 81 un nn) nn)).toInt
  rw [n32 (show agr (anL R 80 tn nn) (anL R 81 un nn) nn < 2147483648 by omega)]
  omega
theorem both_answers (hP : P.ok) (hK : P.bk) (hI : Inv P x σ) (l g n : Int32) : ∃ w σ1 σ2, fX11_answers_0 σ x l g n = some (w, σ1) ∧ fX12_answers_0 σ1 (x + 20) l g n = some (w, σ2) ∧ Inv P x σ2 := by
  obtain ⟨own, R, hE, hX, hW, h6⟩ := hI
  obtain ⟨σ1, σ2, h1, h2, h3⟩ := arm_I (Y := fun y => fX12_answers_0 y (x + 20) l g n) hP h6 hE (k_answers hP hW hX hK l g n) (fun ρ => r_answers (x + 20) ρ R hW.2.2.2.2.2.2.2.2.2.1.1 l g n) (RW_ite (fun h => RW_ans hW h) hW)
  exact ⟨_, σ1, σ2, h1, h2, h3⟩
end
