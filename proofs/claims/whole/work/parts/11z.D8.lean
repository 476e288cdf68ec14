section
variable {P : Par} {x : Nat} {own : Nat → Nat} {σ : Hs} {R : Gs} {st : Int32}
theorem z11_s1 {G : Gs} (h : A11 x G σ) {v : Nat} (hv : isC σ v 12 = some ()) (t : Int32) : stR 5 12 σ (x + 1) t v = if ix t (ln G 1) = true then some (e11 x σ (sar G 1 (up (ar G 1) t.toNatClampNeg (some v)))) else none := by
  have q := XstR (ci := 13) (ks := ks11) (as := as11) (b := x) ok11 (by decide : (1, 5, 1) ∈ as11) (by decide) 12 σ G t v (by rw [show eX 13 ks11 as11 x σ G = σ from h]; exact hv)
  rw [show eX 13 ks11 as11 x σ G = σ from h] at q
  exact q
theorem z11_s17 {G : Gs} (h : A11 x G σ) {v : Nat} (hv : isC σ v 4 = some ()) (t : Int32) : stR 6 4 σ (x + 15) t v = if ix t (ln G 17) = true then some (e11 x σ (sar G 17 (up (ar G 17) t.toNatClampNeg (some v)))) else none := by
  have q := XstR (ci := 13) (ks := ks11) (as := as11) (b := x) ok11 (by decide : (15, 6, 17) ∈ as11) (by decide) 4 σ G t v (by rw [show eX 13 ks11 as11 x σ G = σ from h]; exact hv)
  rw [show eX 13 ks11 as11 x σ G = σ from h] at q
  exact q
theorem k_tray (hP : P.ok) (hW : RW R) (h : XW P x own σ R st) (hbl : ∀ t s n, P.2.2 (u_tray R t s n) = P.2.2 R) (t s n : Int32) : KI P x σ (b2i (st_tray t s n = 0)) (st_tray t s n) (if st_tray t s n = 0 then u_tray R t s n else R) (fX11_tray_0 σ x t s n) := by
  obtain ⟨G, T, eC, eV, eN, eT, eS, h⟩ := h
  have hA := h.2.2.1.at
  have hst : fX11_newTrayStatus_0 σ t s n = some (st_tray t s n) := by
    unfold fX11_newTrayStatus_0
    simp only [x_isTray, Option.bind_some, b2i_0, lt32, le32, i0, i3, i40]
    unfold st_tray
    (repeat' split) <;> (first | rfl | omega)
  unfold fX11_tray_0
  simp only [hst, Option.bind_some, z11_p0 hA]
  generalize hv : st_tray t s n = v at *
  have hA2 : A11 x (sfi G 0 v) (e11 x σ (sfi G 0 v)) := A11_self _ _
  simp only [z11_g0 hA2, Option.bind_some, q_fi_sfi, q_fl_sfi, q_fr_sfi, q_ai_sfi, q_al_sfi, q_ar_sfi, q_ln_sfi, q_fi_sfl, q_fl_sfl, q_fr_sfl, q_ai_sfl, q_al_sfl, q_ar_sfl, q_ln_sfl, q_fi_sfr, q_fl_sfr, q_fr_sfr, q_ai_sfr, q_al_sfr, q_ar_sfr, q_ln_sfr, q_fi_sai, q_fl_sai, q_fr_sai, q_ai_sai, q_al_sai, q_ar_sai, q_ln_sai, q_fi_sal, q_fl_sal, q_fr_sal, q_ai_sal, q_al_sal, q_ar_sal, q_ln_sal, q_fi_sar, q_fl_sar, q_fr_sar, q_ai_sar, q_al_sar, q_ar_sar, q_ln_sar, reduceIte, Nat.reduceEqDiff, bb_0, bb_1]
  by_cases h0 : v = 0
  · rw [if_pos h0, if_pos h0, show b2i (v = 0) = 1 from if_pos h0]
    have hcond : (0 ≤ t.toInt ∧ t.toInt < 4) ∧ 0 ≤ n.toInt ∧ n.toInt ≤ 40 := by
      rw [h0] at hv; unfold st_tray at hv
      split at hv
      · exact absurd hv (by decide)
      · split at hv
        · exact absurd hv (by decide)
        · split at hv
          · exact absurd hv (by decide)
          · omega
    obtain ⟨tn, rfl, htn, ht⟩ := get32 t (by omega)
    obtain ⟨nn, rfl, hnn, hn⟩ := get32 n (by omega)
    have hs := h.st hP hW v
    generalize hs1 : e11 x σ (sfi G 0 v) = s1 at *
    have e1 : s1.1 = σ.1 := by rw [← hs1]; rfl
    obtain ⟨h0', g1, g2, g3, g4, g5, g6, g7, g8, g9, g10, g11, g12, g13⟩ := hs
    obtain ⟨s2, t1, t2, t3, t4, t5⟩ := x10_new s1 s nn (by omega)
    have hA3 : A11 x (sfi G 0 v) s2 := A11_fr hA2 (fun a ha => t4 a (by omega))
    have l1 : ln (sfi G 0 v) 1 = 4 := g2.2.2.2.2.2.2.2.1.1
    simp only [z11_g1 hA2, Option.bind_some, t1, z11_s1 hA3 (z10_C t5), l1, ix_n htn, decide_eq_true (show tn < 4 by omega), if_true, c32 htn]
    generalize hG3 : sar (sfi G 0 v) 1 (up (ar (sfi G 0 v) 1) tn (some s1.1)) = G3
    have a1 : ar G3 1 = up (ar G 1) tn (some s1.1) := by rw [← hG3]; rfl
    let own1 : Nat → Nat := fun a => if a < σ.1 then own a else 10 + tn
    have hE : Ext own own1 s1.1 := fun a ha => if_pos (by omega)
    have hC : Chg x own [1] s1 (e11 x s2 G3) := ⟨by show s1.1 ≤ s2.1; omega, t3, fun a ha hna => (e11_out _ _ (fun q => hna (by rw [tg_x q]; exact List.mem_cons_self))).trans (t4 a ha)⟩
    generalize hU : u_tray R (Int32.ofNat tn) s (Int32.ofNat nn) = R'
    have hR : Fr (2 :: 3 :: 4 :: SCR) R R' := by rw [← hU]; exact (((Fr.refl _ R).sai (by decide) _).sai (by decide) _).sal (by decide) _
    have f2 : ∀ i, ai R' 2 i = if i = tn then s else ai R 2 i := by intro i; rw [← hU]; unfold u_tray; rw [c32 htn]; rfl
    have f3 : ∀ i, ai R' 3 i = if i = tn then Int32.ofNat nn else ai R 3 i := by intro i; rw [← hU]; unfold u_tray; rw [c32 htn]; rfl
    have f4 : ∀ j, al R' 4 j = if 40 * tn ≤ j ∧ j < 40 * tn + nn then 0 else al R 4 j := by intro j; rw [← hU]; unfold u_tray; rw [c32 htn, c32 hnn]; rfl
    have fb : P.2.2 R' = P.2.2 R := by rw [← hU]; exact hbl _ _ _
    have hNn : nL R' = nL R ∧ nC R' = nC R ∧ nS R' = nS R ∧ nT R' = nT R ∧ nV R' = nV R ∧ nN R' = nN R ∧ nX R' = nX R := by rw [← hU]; exact ⟨rfl, rfl, rfl, rfl, rfl, rfl, rfl⟩
    have p13 : fr G3 13 = fr G 13 := by rw [← hG3]; rfl
    have p15 : fr G3 15 = fr G 15 := by rw [← hG3]; rfl
    have p17 : ar G3 17 = ar G 17 := by rw [← hG3]; rfl
    have p18 : fi G3 18 = fi G 18 := by rw [← hG3]; rfl
    have hRT := hW.2.2.2.2.2.2.2.2.2.1.1
    obtain ⟨w1, w2, w3, w4, w5, w6, w7, w8, w9⟩ := hW
    refine ⟨_, own1, rfl, ⟨G3, T, eC, eV, eN, eT, eS, ?_⟩, ?_⟩
    · unfold XWg
      rw [hNn.1, hNn.2.1, hNn.2.2.1, hNn.2.2.2.1, hNn.2.2.2.2.1, hNn.2.2.2.2.2.1, hNn.2.2.2.2.2.2, fb, a1, p13, p15, p17, p18]
      refine ⟨by have := hC.1; omega, g1.fr h0' hC (by decide), ?_, fun i hi => ?_, g4.fr h0' hC (by decide) hR (by decide), g5.fr w4.2.1 h0' hE hC ⟨by decide, by decide, (fun t ht => by intro q; simp only [List.mem_cons, List.not_mem_nil, or_false] at q; omega)⟩ hR (by decide) (fun q => q), g6.fr h0' hE hC (by decide) hR (by decide), g7.fr w2.2.1 h0' hE hC ⟨by decide, by decide, (fun t ht => by intro q; simp only [List.mem_cons, List.not_mem_nil, or_false] at q; omega)⟩ hR (by decide) (fun q => q), g8.fr w7.2 h0' hE hC ⟨by decide, by decide, (fun t ht => by intro q; simp only [List.mem_cons, List.not_mem_nil, or_false] at q; omega)⟩ hR (by decide) (hP.1 _ _ _ hR (by decide)), g9.fr w8.2.1 h0' hE hC ⟨by decide, by decide, (fun t ht => by intro q; simp only [List.mem_cons, List.not_mem_nil, or_false] at q; omega)⟩ hR (by decide), g10.fr hE hC (by decide) hR (by decide) (hP.2.1 _ _ _ hR (by decide)), g11.fr h0' hC (by decide) hR (by decide), g12.fr hE hC (by decide) hR (by decide), g13.fr hE hC (fun t ht => by intro q; simp only [List.mem_cons, List.not_mem_nil, or_false] at q; omega) hR (by decide)⟩
      · obtain ⟨b1, b2, b3, b4, b5, b6, b7, b8, b9, b10⟩ := g2
        refine ⟨A11_self _ _, ?_, ?_, ?_, ?_, ?_, ?_, ?_, ?_, ?_⟩
        · rw [← hG3]; rfl
        · rw [← hG3, hR.i 17 (by decide)]; exact b3
        · rw [← hG3, hR.i 19 (by decide)]; exact b4
        · rw [← hG3, hR.i 20 (by decide)]; exact b5
        · rw [← hG3, hR.i 12 (by decide)]; exact b6
        · rw [← hG3, hR.i 91 (by decide)]; exact b7
        · rw [← hG3]; exact b8
        · rw [← hG3]; exact b9
        · rw [hR.i 17 (by decide), hR.ai 16 (by decide), ← hG3]; exact b10
      · by_cases hin : i = tn
        · subst hin
          right
          refine ⟨s1.1, up_same _ _ _, _, A10_fr t5 (fun a ha => e11_out _ _ (by omega)), ⟨?_, ?_⟩, by show s1.1 + 2 ≤ s2.1; omega, ?_, ?_, fun k hk => ?_⟩
          · unfold tg; rw [if_neg (by omega), if_neg (by omega)]; exact if_neg (by omega)
          · unfold tg; rw [if_neg (by omega), if_neg (by omega)]; exact if_neg (by omega)
          · rw [f2, if_pos rfl]; rfl
          · rw [f3, if_pos rfl, hn]; rfl
          · rw [f4, if_pos ⟨by omega, by have : k < nn := hk
                                         omega⟩]; rfl
        · rw [up_ne _ _ _ _ hin]
          rcases g3 i hi with ⟨y1, y2⟩ | ⟨a, y1, y2⟩
          · exact Or.inl ⟨y1, by rw [f3, if_neg hin]; exact y2⟩
          · refine Or.inr ⟨a, y1, y2.fr hE hC (by intro q; simp only [List.mem_cons, List.not_mem_nil, or_false] at q; omega) (by rw [f2, if_neg hin]) (by rw [f3, if_neg hin]) (fun k hk => ?_)⟩
            rw [f4, if_neg]
            intro q
            have := (hRT i hi).2
            omega
    · have hkp1 : Chg x own [1] σ s1 := by rw [← hs1]; exact e11_chg σ _ (by decide)
      exact (hkp1.trans hC).kp h.1 (by decide)
  · rw [if_neg h0, if_neg h0, show b2i (v = 0) = 0 from if_neg h0]
    exact KI.no hP h hW _ _
theorem tr_at {f : Nat → Option Nat} (h : PTr x own σ R f) {t : Nat} (ht : t < 4) : (f t = none) = ((ai R 3 t).toInt < 0) := by
  apply propext
  rcases h t ht with ⟨h1, h2⟩ | ⟨a, h1, H, h2, h3, h4, h5, h6, h7⟩
  · exact ⟨fun _ => h2, fun _ => h1⟩
  · rw [h1]
    constructor
    · intro q; exact absurd q (by simp)
    · intro q; omega
theorem x_place {G : Gs} (hA : A11 x G σ) (hl : ln G 1 = 4) (hT : PTr x own σ R (ar G 1)) (hR : RT R) (t k : Int32) : fX11_placeStatus_0 σ x t k = some (st_place R t k) := by
  unfold fX11_placeStatus_0
  simp only [x_isTray, Option.bind_some, b2i_0]
  by_cases h1 : 0 ≤ t.toInt ∧ t.toInt < 4
  · rw [if_neg (by simpa using h1)]
    obtain ⟨tn, rfl, htn, ht⟩ := get32 t (by omega)
    have hnn := tr_at hT (show tn < 4 by omega)
    simp only [z11_g1 hA, z11_l1 hA, Option.bind_some, hl, ix_n htn, decide_eq_true (show tn < 4 by omega), if_true, c32 htn]
    unfold st_place
    rw [c32 htn, if_neg (show ¬ ((Int32.ofNat tn).toInt < 0 ∨ 4 ≤ (Int32.ofNat tn).toInt) by omega)]
    rcases hT tn (by omega) with ⟨y1, y2⟩ | ⟨a, y1, H, y2, y3, y4, y5, y6, y7⟩
    · rw [if_pos y1, if_pos y2]
    · have hge : 0 ≤ (ai R 3 tn).toInt := by omega
      have h40 := (hR tn (by omega)).2
      have hsz : fX10_size_0 σ a = some (Int32.ofNat (ln H 1)) := by
        unfold fX10_size_0; simp only [z10_g1 y2, z10_n1 y2, Option.bind_some]
      simp only [y1, Option.bind_some, z10_C y2, hsz, lt32, le32, i0, n32 (show ln H 1 < 2147483648 by omega), y6]
      rw [if_neg (by simp), if_neg (show ¬ (ai R 3 tn).toInt < 0 by omega)]
      (repeat' split) <;> (first | rfl | omega)
  · rw [if_pos h1]
    unfold st_place
    rw [if_pos (by omega)]
theorem nin_tr {t : Nat} {W : List Nat} (ht : t < 4) (h : W = [1, 10 + t]) {k : Nat} (hk : k = 0 ∨ (2 ≤ k ∧ k < 10) ∨ 14 ≤ k) : k ∉ W := by
  subst h; intro q; simp only [List.mem_cons, List.not_mem_nil, or_false] at q; omega
theorem k_write (hP : P.ok) (hW : RW R) (h : XW P x own σ R st) (hbl : ∀ t k v, P.2.2 (u_write R t k v) = P.2.2 R) (t k : Int32) (v : Int64) : KI P x σ (b2i (st_place R t k = 0)) (st_place R t k) (if st_place R t k = 0 then u_write R t k v else R) (fX11_write_0 σ x t k v) := by
  obtain ⟨G, T, eC, eV, eN, eT, eS, h⟩ := h
  have hA := h.2.2.1.at
  have hl1 : ln G 1 = 4 := h.2.2.1.2.2.2.2.2.2.2.1.1
  have hRT := hW.2.2.2.2.2.2.2.2.2.1.1
  have hRTs := hW.2.2.2.2.2.2.2.2.2.1.2
  have hst := x_place hA hl1 h.2.2.2.1 hRT t k
  unfold fX11_write_0
  simp only [z11_C hA, hst, Option.bind_some, z11_p0 hA]
  generalize hv : st_place R t k = y at *
  have hA2 : A11 x (sfi G 0 y) (e11 x σ (sfi G 0 y)) := A11_self _ _
  simp only [z11_g0 hA2, Option.bind_some, q_fi_sfi, q_fl_sfi, q_fr_sfi, q_ai_sfi, q_al_sfi, q_ar_sfi, q_ln_sfi, q_fi_sfl, q_fl_sfl, q_fr_sfl, q_ai_sfl, q_al_sfl, q_ar_sfl, q_ln_sfl, q_fi_sfr, q_fl_sfr, q_fr_sfr, q_ai_sfr, q_al_sfr, q_ar_sfr, q_ln_sfr, q_fi_sai, q_fl_sai, q_fr_sai, q_ai_sai, q_al_sai, q_ar_sai, q_ln_sai, q_fi_sal, q_fl_sal, q_fr_sal, q_ai_sal, q_al_sal, q_ar_sal, q_ln_sal, q_fi_sar, q_fl_sar, q_fr_sar, q_ai_sar, q_al_sar, q_ar_sar, q_ln_sar, reduceIte, Nat.reduceEqDiff, bb_0, bb_1]
  by_cases h0 : y = 0
  · rw [if_pos h0, if_pos h0, show b2i (y = 0) = 1 from if_pos h0]
    obtain ⟨tn, kn, rfl, rfl, k1, k2, k3⟩ := st_place_0 (hv.trans h0) hRT
    have hs := h.st hP hW y
    generalize hs1 : e11 x σ (sfi G 0 y) = s1 at *
    obtain ⟨h0', g1, g2, g3, g4, g5, g6, g7, g8, g9, g10, g11, g12, g13⟩ := hs
    have hge : ¬ (ai R 3 tn).toInt < 0 := by omega
    rcases g3 tn k1 with ⟨y1, y2⟩ | ⟨a, y1, H, y2, ⟨y3, y3'⟩, y4, y5, y6, y7⟩
    · exact absurd y2 hge
    have l1 : ln (sfi G 0 y) 1 = 4 := hl1
    have yar : ar (sfi G 0 y) 1 tn = some a := y1
    have hso := hRTs tn k1 (by omega)
    have hput : fX10_put_0 s1 a (Int32.ofNat kn) v = some (e10 a s1 (sal H 1 (up (al H 1) kn (ctv (ai R 2 tn) v)))) := by
      unfold fX10_put_0
      have n1 : ¬ Int32.ofNat kn < 0 := by rw [lt32, n32 (by omega), i0]; omega
      have n2 : ¬ Int32.ofNat (ln H 1) ≤ Int32.ofNat kn := by rw [le_n (by omega) (by omega)]; omega
      simp only [z10_g0 y2, Option.bind_some, if_neg n1, z10_g1 y2, z10_n1 y2, if_neg n2, z10_s1 y2, ix_n (show kn < 2147483648 by omega), decide_eq_true (show kn < ln H 1 by omega), if_true, c32 (show kn < 2147483648 by omega), y5, cut_put _ _ hso]
    simp only [z11_g1 hA2, z11_l1 hA2, Option.bind_some, l1, ix_n (show tn < 2147483648 by omega), decide_eq_true k1, if_true, c32 (show tn < 2147483648 by omega), yar, z10_C y2, hput]
    generalize hH2 : sal H 1 (up (al H 1) kn (ctv (ai R 2 tn) v)) = H2
    have hE : Ext own own s1.1 := fun _ _ => rfl
    have hC : Chg x own [1, 10 + tn] s1 (e10 a s1 H2) := ⟨Nat.le_refl _, rfl, fun b _ hnb => e10_out _ _ (fun q => hnb (by
      rcases q with q | q
      · rw [q, y3]; exact List.mem_cons_of_mem _ List.mem_cons_self
      · rw [q, y3']; exact List.mem_cons_of_mem _ List.mem_cons_self))⟩
    have hC1 : Chg x own [10 + tn] s1 (e10 a s1 H2) := ⟨Nat.le_refl _, rfl, fun b _ hnb => e10_out _ _ (fun q => hnb (by
      rcases q with q | q
      · rw [q, y3]; exact List.mem_cons_self
      · rw [q, y3']; exact List.mem_cons_self))⟩
    generalize hU : u_write R (Int32.ofNat tn) (Int32.ofNat kn) v = R'
    have hR : Fr (4 :: SCR) R R' := by rw [← hU]; exact (Fr.refl _ R).sal (by decide) _
    have f4 : ∀ j, al R' 4 j = if j = 40 * tn + kn then ctv (ai R 2 tn) v else al R 4 j := by intro j; rw [← hU]; unfold u_write; rw [c32 (show tn < 2147483648 by omega), c32 (show kn < 2147483648 by omega)]; rfl
    have fb : P.2.2 R' = P.2.2 R := by rw [← hU]; exact hbl _ _ _
    have hNn : nL R' = nL R ∧ nC R' = nC R ∧ nS R' = nS R ∧ nT R' = nT R ∧ nV R' = nV R ∧ nN R' = nN R ∧ nX R' = nX R := by rw [← hU]; exact ⟨rfl, rfl, rfl, rfl, rfl, rfl, rfl⟩
    obtain ⟨w1, w2, w3, w4, w5, w6, w7, w8, w9⟩ := hW
    have hn : ∀ {q : Nat}, (q = 0 ∨ (2 ≤ q ∧ q < 10) ∨ 14 ≤ q) → q ∉ [1, 10 + tn] := fun hq => nin_tr k1 rfl hq
    refine ⟨_, own, rfl, ⟨sfi G 0 y, T, eC, eV, eN, eT, eS, ?_⟩, ?_⟩
    · unfold XWg
      rw [hNn.1, hNn.2.1, hNn.2.2.1, hNn.2.2.2.1, hNn.2.2.2.2.1, hNn.2.2.2.2.2.1, hNn.2.2.2.2.2.2, fb]
      refine ⟨h0', g1.fr h0' hC (hn (by omega)), g2.fr h0' hC1 (by intro q; simp only [List.mem_cons, List.not_mem_nil, or_false] at q; omega) hR (by decide), fun i hi => ?_, g4.fr h0' hC (hn (by omega)) hR (by decide), g5.fr w4.2.1 h0' hE hC ⟨hn (by omega), hn (by omega), fun i hi => hn (by omega)⟩ hR (by decide) (fun q => q), g6.fr h0' hE hC ⟨hn (by omega), hn (by omega), hn (by omega)⟩ hR (by decide), g7.fr w2.2.1 h0' hE hC ⟨hn (by omega), hn (by omega), fun i hi => hn (by omega)⟩ hR (by decide) (fun q => q), g8.fr w7.2 h0' hE hC ⟨hn (by omega), hn (by omega), fun i hi => hn (by omega)⟩ hR (by decide) (hP.1 _ _ _ hR (by decide)), g9.fr w8.2.1 h0' hE hC ⟨hn (by omega), hn (by omega), fun i hi => hn (by omega)⟩ hR (by decide), g10.fr hE hC (hn (by omega)) hR (by decide) (hP.2.1 _ _ _ hR (by decide)), g11.fr h0' hC (hn (by omega)) hR (by decide), g12.fr hE hC (hn (by omega)) hR (by decide), g13.fr hE hC (fun i hi => hn (by omega)) hR (by decide)⟩
      by_cases hin : i = tn
      · subst hin
        right
        refine ⟨a, y1, H2, A10_self _ _, ⟨y3, y3'⟩, y4, ?_, ?_, fun q hq => ?_⟩
        · rw [hR.ai 2 (by decide), ← hH2]; exact y5
        · rw [hR.ai 3 (by decide), ← hH2]; exact y6
        · have hq2 : q < ln H 1 := by rw [← hH2] at hq; exact hq
          have e1 : al H2 1 q = if q = kn then ctv (ai R 2 i) v else al H 1 q := by rw [← hH2]; rfl
          rw [e1, f4]
          by_cases hqk : q = kn
          · rw [if_pos hqk, if_pos (by omega)]
          · rw [if_neg hqk, if_neg (by omega)]; exact y7 q hq2
      · rcases g3 i hi with ⟨z1, z2⟩ | ⟨b, z1, z2⟩
        · exact Or.inl ⟨z1, by rw [hR.ai 3 (by decide)]; exact z2⟩
        · refine Or.inr ⟨b, z1, z2.fr hE hC (by intro q; simp only [List.mem_cons, List.not_mem_nil, or_false] at q; omega) (by rw [hR.ai 2 (by decide)]) (by rw [hR.ai 3 (by decide)]) (fun q hq => ?_)⟩
          rw [f4, if_neg]
          intro e
          have := (hRT i hi).2
          omega
    · have hkp1 : Chg x own [1, 10 + tn] σ s1 := by rw [← hs1]; exact e11_chg σ _ List.mem_cons_self
      exact (hkp1.trans hC).kp h.1 (hn (by omega))
  · rw [if_neg h0, if_neg h0, show b2i (y = 0) = 0 from if_neg h0]
    exact KI.no hP h hW _ _
theorem k_read (hP : P.ok) (hW : RW R) (h : XW P x own σ R st) (t k : Int32) : KL P x σ (rfL (st_place R t k) (al R 4 (40 * t.toNatClampNeg + k.toNatClampNeg))) (st_place R t k) R (fX11_read_0 σ x t k) := by
  obtain ⟨G, T, eC, eV, eN, eT, eS, h⟩ := h
  have hA := h.2.2.1.at
  have hl1 : ln G 1 = 4 := h.2.2.1.2.2.2.2.2.2.2.1.1
  have hRT := hW.2.2.2.2.2.2.2.2.2.1.1
  have hst := x_place hA hl1 h.2.2.2.1 hRT t k
  unfold fX11_read_0
  simp only [z11_C hA, hst, Option.bind_some, z11_p0 hA]
  generalize hv : st_place R t k = y at *
  have hA2 : A11 x (sfi G 0 y) (e11 x σ (sfi G 0 y)) := A11_self _ _
  simp only [z11_g0 hA2, Option.bind_some, q_fi_sfi, q_fl_sfi, q_fr_sfi, q_ai_sfi, q_al_sfi, q_ar_sfi, q_ln_sfi, q_fi_sfl, q_fl_sfl, q_fr_sfl, q_ai_sfl, q_al_sfl, q_ar_sfl, q_ln_sfl, q_fi_sfr, q_fl_sfr, q_fr_sfr, q_ai_sfr, q_al_sfr, q_ar_sfr, q_ln_sfr, q_fi_sai, q_fl_sai, q_fr_sai, q_ai_sai, q_al_sai, q_ar_sai, q_ln_sai, q_fi_sal, q_fl_sal, q_fr_sal, q_ai_sal, q_al_sal, q_ar_sal, q_ln_sal, q_fi_sar, q_fl_sar, q_fr_sar, q_ai_sar, q_al_sar, q_ar_sar, q_ln_sar, reduceIte, Nat.reduceEqDiff]
  by_cases h0 : y = 0
  · rw [if_pos h0, show rfL y (al R 4 (40 * t.toNatClampNeg + k.toNatClampNeg)) = _ from if_pos h0]
    obtain ⟨tn, kn, rfl, rfl, k1, k2, k3⟩ := st_place_0 (hv.trans h0) hRT
    have hs := h.st hP hW y
    have hxw := hs
    obtain ⟨h0', g1, g2, g3, -⟩ := hs
    rcases g3 tn k1 with ⟨y1, y2⟩ | ⟨a, y1, H, y2, ⟨y3, y3'⟩, y4, y5, y6, y7⟩
    · omega
    have l1 : ln (sfi G 0 y) 1 = 4 := hl1
    have yar : ar (sfi G 0 y) 1 tn = some a := y1
    have hat : fX10_at_0 (e11 x σ (sfi G 0 y)) a (Int32.ofNat kn) = some (al H 1 kn) := by
      unfold fX10_at_0
      have n1 : ¬ Int32.ofNat kn < 0 := by rw [lt32, n32 (by omega), i0]; omega
      have n2 : ¬ Int32.ofNat (ln H 1) ≤ Int32.ofNat kn := by rw [le_n (by omega) (by omega)]; omega
      simp only [Option.bind_some, if_neg n1, z10_g1 y2, z10_n1 y2, if_neg n2, z10_l1 y2, ix_n (show kn < 2147483648 by omega), decide_eq_true (show kn < ln H 1 by omega), if_true, c32 (show kn < 2147483648 by omega)]
    simp only [z11_g1 hA2, z11_l1 hA2, Option.bind_some, l1, ix_n (show tn < 2147483648 by omega), decide_eq_true k1, if_true, c32 (show tn < 2147483648 by omega), c32 (show kn < 2147483648 by omega), yar, z10_C y2, hat]
    refine ⟨_, own, ?_, ⟨_, _, _, _, _, _, _, hxw⟩, (e11_chg (own := own) (W := [1]) σ _ (by decide)).kp h.1 (by decide)⟩
    rw [y7 kn (by omega)]
  · rw [if_neg h0, show rfL y (al R 4 (40 * t.toNatClampNeg + k.toNatClampNeg)) = -1 from if_neg h0]
    exact KL.no hP h hW _ _
end
