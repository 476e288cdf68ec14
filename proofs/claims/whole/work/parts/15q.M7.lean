section
variable {y ap ec : Nat} {B : Gs → Hs} {Hp : Gs} {ok : Gs → Prop} {V : Int32 → Int64} {m : Nat} {ρ : Hs} {hd : Gs → Prop} {f : Nat} {k72 k73 k74 : Nat → Int32} {T Gr R1 : Gs} {e kp : Nat}
theorem w_perf (E : Ev7 y ap ec B Hp ok V m ρ hd f k72 k73 k74) {mk L : Nat} (hP : PrO Hp mk) (hL : L ≤ 40) (hB : Bk k72 k73 k74 (ai Hp 1) (ai Hp 2) (ai Hp 3) 3 0 L 0 mk) (hT : ok T) (hM : Ma ap ec f hd V Gr R1 0 0) (hA : Al7 Gr R1) : ∃ T' Gr' R' e' kp', fX7_perform_53 (e7 y (B T) Gr) y 0 0 = some (fi Gr' 5, e7 y (B T') Gr') ∧ (GR12c 10) (eR m ρ R1) m 0 (Int32.ofNat L) = some (eR m ρ R') ∧ ok T' ∧ Ma ap ec f hd V Gr' R' e' kp' ∧ (Al7 Gr' R' ∨ De7 Gr' R') ∧ kp' ≤ 400000 := by
  have e3 : 21 ^ 3 * (L - 0) = 9261 * L := by rw [Nat.sub_zero, show 21 ^ 3 = 9261 from rfl]
  obtain ⟨T', Gr', R', e', kp', rw', j, g1, g2, g3, g4, g5, ⟨g6, g7⟩, g8⟩ := block_of E hP (Run_all E hP 3 (by omega)) 9 0 T Gr R1 0 0 0 L 0 mk (by omega) hB ⟨hL, Nat.le_refl _⟩ hT hM hA (by rw [e3]; omega)
  rw [e3] at g6
  refine ⟨T', Gr', R', e', kp', ?_, g2, g3, g4, ?_, by omega⟩
  rotate_left
  · rcases g5 with ⟨a, -⟩ | d
    · exact Or.inl a
    · exact Or.inr d
  show lp Fp7 fu (cS y B T Gr 0 0) = _
  obtain ⟨N, hN⟩ : ∃ N, fu = (N + 1) + j := ⟨fu - j - 1, by unfold fu; omega⟩
  rw [hN, g1, lp_s]
  show fbX7_perform_53 _ (e7 y (B T') Gr') y (Int32.ofNat rw') (Int32.ofNat (0 + j)) = _
  unfold fbX7_perform_53
  rw [if_neg (show ¬ (1000000 : Int32) ≤ Int32.ofNat (0 + j) from fun q => by rw [show (1000000 : Int32) = Int32.ofNat 1000000 from rfl, le_n (by decide) (by omega)] at q; omega), y7_g5, Option.bind_some]
  rcases g5 with ⟨a, hrw⟩ | d
  · rw [if_pos a.1, y7_g0, g4.1.1, Option.bind_some, Option.bind_some, z4_g4 (E.1 T' Gr'), hP.1.1, Option.bind_some, hrw, if_pos (Int32.le_refl _), Option.bind_some]
  · rw [if_neg (De7_n d).1, Option.bind_some]
theorem r_ranEnd (h67 : fi R1 67 = Int32.ofNat kp) (hk : kp ≤ 400000) : ∃ U, ((gI (eR m ρ R1) m 14 105).bind fun vq18 => if vq18 = (-1) then (fX12_run_117 (eR m ρ R1) m m 0) else ((gI (eR m ρ R1) m 14 105).bind fun vq19 => fX12_run_117 (eR m ρ R1) m m vq19)) = some (if fi R1 105 = -1 then 0 else fi R1 105, eR m ρ U) ∧ Fr [68, 69, 70, 71, 79] R1 U ∧ (fi U 68 = (if fi R1 105 = -1 then 0 else fi R1 105) ∧ fi U 69 = fi R1 65 ∧ fi U 70 = fi R1 66 ∧ fi U 71 = Int32.ofNat kp) ∧ ∀ k, k < 40 → k < kp → al U 79 k = al R1 78 k := by
  have key : ∀ o : Int32, ∃ U, fX12_run_117 (eR m ρ R1) m m o = some (o, eR m ρ U) ∧ Fr [68, 69, 70, 71, 79] R1 U ∧ (fi U 68 = o ∧ fi U 69 = fi R1 65 ∧ fi U 70 = fi R1 66 ∧ fi U 71 = Int32.ofNat kp) ∧ ∀ k, k < 40 → k < kp → al U 79 k = al R1 78 k := by
    intro o
    have F0 : Fr [68, 69, 70, 71] R1 (sfi (sfi (sfi (sfi R1 68 o) 69 (fi R1 65)) 70 (fi R1 66)) 71 (Int32.ofNat kp)) := ((((Fr.refl _ R1).sfi (k := 68) (by decide) _).sfi (k := 69) (by decide) _).sfi (k := 70) (by decide) _).sfi (k := 71) (by decide) _
    have e0 : fX12_run_117 (eR m ρ R1) m m o = fX12_run_146 (eR m ρ (sfi (sfi (sfi (sfi R1 68 o) 69 (fi R1 65)) 70 (fi R1 66)) 71 (Int32.ofNat kp))) m 0 := by
      unfold fX12_run_117
      simp only [RP_68, RP_69, RP_70, RP_71, RG_65, RG_66, RG_67, q_fi_sfi, q_fl_sfi, q_fr_sfi, q_ai_sfi, q_al_sfi, q_ar_sfi, q_ln_sfi, q_fi_sfl, q_fl_sfl, q_fr_sfl, q_ai_sfl, q_al_sfl, q_ar_sfl, q_ln_sfl, q_fi_sfr, q_fl_sfr, q_fr_sfr, q_ai_sfr, q_al_sfr, q_ar_sfr, q_ln_sfr, q_fi_sai, q_fl_sai, q_fr_sai, q_ai_sai, q_al_sai, q_ar_sai, q_ln_sai, q_fi_sal, q_fl_sal, q_fr_sal, q_ai_sal, q_al_sal, q_ar_sal, q_ln_sal, q_fi_sar, q_fl_sar, q_fr_sar, q_ai_sar, q_al_sar, q_ar_sar, q_ln_sar, reduceIte, Nat.reduceEqDiff, h67, Option.bind_some]
    rw [e0]
    have i68 : fi (sfi (sfi (sfi (sfi R1 68 o) 69 (fi R1 65)) 70 (fi R1 66)) 71 (Int32.ofNat kp)) 68 = o := rfl
    have i69 : fi (sfi (sfi (sfi (sfi R1 68 o) 69 (fi R1 65)) 70 (fi R1 66)) 71 (Int32.ofNat kp)) 69 = fi R1 65 := rfl
    have i70 : fi (sfi (sfi (sfi (sfi R1 68 o) 69 (fi R1 65)) 70 (fi R1 66)) 71 (Int32.ofNat kp)) 70 = fi R1 66 := rfl
    have i71 : fi (sfi (sfi (sfi (sfi R1 68 o) 69 (fi R1 65)) 70 (fi R1 66)) 71 (Int32.ofNat kp)) 71 = Int32.ofNat kp := rfl
    generalize sfi (sfi (sfi (sfi R1 68 o) 69 (fi R1 65)) 70 (fi R1 66)) 71 (Int32.ofNat kp) = R0 at *
    have j67 : fi R0 67 = Int32.ofNat kp := (F0.i 67 (by decide)).trans h67
    have j78 : al R0 78 = al R1 78 := F0.al 78 (by decide)
    have n40 : ∀ k : Nat, k < 100 → ((40 : Int32) ≤ Int32.ofNat k) = (40 ≤ k) := fun k hk => propext (le_n (a := 40) (by decide) (by omega))
    have hfin : ∀ {R2 : Gs}, Fr [79] R0 R2 → (∀ k, k < 40 → k < kp → al R2 79 k = al R1 78 k) → Fr [68, 69, 70, 71, 79] R1 R2 ∧ (fi R2 68 = o ∧ fi R2 69 = fi R1 65 ∧ fi R2 70 = fi R1 66 ∧ fi R2 71 = Int32.ofNat kp) ∧ ∀ k, k < 40 → k < kp → al R2 79 k = al R1 78 k := fun F2 q => ⟨(F0.mono (by decide)).trans (F2.mono (by decide)), ⟨(F2.i 68 (by decide)).trans i68, (F2.i 69 (by decide)).trans i69, (F2.i 70 (by decide)).trans i70, (F2.i 71 (by decide)).trans i71⟩, q⟩
    unfold fX12_run_146
    refine lp_q (min 40 kp) (fun d z => ∃ R2, z = (eR m ρ R2, m, Int32.ofNat d) ∧ Fr [79] R0 R2 ∧ ∀ k, k < d → al R2 79 k = al R1 78 k) (fun X => ∃ U, X = some (o, eR m ρ U) ∧ Fr [68, 69, 70, 71, 79] R1 U ∧ (fi U 68 = o ∧ fi U 69 = fi R1 65 ∧ fi U 70 = fi R1 66 ∧ fi U 71 = Int32.ofNat kp) ∧ ∀ k, k < 40 → k < kp → al U 79 k = al R1 78 k) ?_ ?_ fu 0 _ (by omega) ⟨R0, rfl, Fr.refl _ _, fun j hj => absurd hj (by omega)⟩ (by unfold fu; omega)
    · rintro KK d _ hd' ⟨R2, rfl, g1, g2⟩
      left
      refine ⟨(eR m ρ (sal R2 79 (up (al R2 79) d (al R1 78 d))), m, Int32.ofNat (d + 1)), ⟨_, rfl, g1.sal (k := 79) (by decide) _, fun j hj => ?_⟩, ?_⟩
      · show up (al R2 79) d (al R1 78 d) j = _
        by_cases c : j = d
        · rw [c, up_same]
        · rw [up_ne _ _ _ _ c]; exact g2 j (by omega)
      · have k67 : fi R2 67 = Int32.ofNat kp := (g1.i 67 (by decide)).trans j67
        have k78 : al R2 78 = al R1 78 := (g1.al 78 (by decide)).trans j78
        have hid : ix (Int32.ofNat d) 40 = true := by rw [ix_n (by omega)]; exact decide_eq_true (by omega)
        show fbX12_run_146 _ (eR m ρ R2) m (Int32.ofNat d) = _
        unfold fbX12_run_146
        rw [if_neg (show ¬ (40 : Int32) ≤ Int32.ofNat d from fun q => by rw [n40 d (by omega)] at q; omega), RG_67, k67, Option.bind_some, if_neg (show ¬ Int32.ofNat kp ≤ Int32.ofNat d from fun q => by rw [le_n (by omega) (by omega)] at q; omega), RN_79, Option.bind_some, RN_78, Option.bind_some, Rld_78, hid, if_pos rfl, Option.bind_some, Rst_79, hid, if_pos rfl, Option.bind_some, c32 (show d < 2147483648 by omega), k78, suc32]
    · rintro KK _ ⟨R2, rfl, g1, g2⟩
      have k67 : fi R2 67 = Int32.ofNat kp := (g1.i 67 (by decide)).trans j67
      have k68 : fi R2 68 = o := (g1.i 68 (by decide)).trans i68
      refine ⟨R2, ?_, hfin g1 (fun k k1 k2 => g2 k (by omega))⟩
      show fbX12_run_146 _ (eR m ρ R2) m (Int32.ofNat (min 40 kp)) = _
      unfold fbX12_run_146
      rw [RG_68, k68, Option.bind_some, RG_67, k67, Option.bind_some]
      by_cases c : 40 ≤ min 40 kp
      · rw [if_pos (show (40 : Int32) ≤ Int32.ofNat (min 40 kp) by rw [n40 (min 40 kp) (by omega)]; exact c)]
      · rw [if_neg (show ¬ (40 : Int32) ≤ Int32.ofNat (min 40 kp) by rw [n40 (min 40 kp) (by omega)]; exact c), if_pos (show Int32.ofNat kp ≤ Int32.ofNat (min 40 kp) by rw [le_n (by omega) (by omega)]; omega)]
  rw [RG_105, Option.bind_some, Option.bind_some]
  by_cases c : fi R1 105 = -1
  · rw [if_pos c, if_pos c]; exact key 0
  · rw [if_neg c, if_neg c]; exact key _
end
def st_run (R : Gs) (c t : Int32) : Int32 := if ¬ (0 ≤ c.toInt ∧ c.toInt < nC R) then 2 else if ¬ (0 ≤ t.toInt ∧ t.toInt ≤ 899990000) then 5 else if (fi R 61).toInt < 0 then 8 else 0
section
variable {P : Par} {x : Nat} {own : Nat → Nat} {σ : Hs} {R : Gs} {st : Int32}
theorem x_runSt {G T : Gs} {eC eV eN eT eS : Nat → Nat} (hW : RW R) (h : XWg P x own σ R st G T eC eV eN eT eS) (c t : Int32) : fX11_runStatus_0 σ x c t = some (st_run R c t) := by
  have hA := h.2.2.1.at
  have hPP := h.2.2.2.2.2.2.2.2.2.2.1
  unfold fX11_runStatus_0
  simp only [z11_C hA, x_isClock hA h.2.2.2.2.2.1.1 hW.2.2.2.1.2.1, x_isWithin, Option.bind_some, b2i_0, z11_g13 hA, i0, show (899990000 : Int32).toInt = 899990000 from rfl]
  by_cases k1 : 0 ≤ c.toInt ∧ c.toInt < nC R
  · by_cases k2 : 0 ≤ t.toInt ∧ t.toInt ≤ 899990000
    · have e : st_run R c t = if (fi R 61).toInt < 0 then 8 else 0 := by unfold st_run; rw [if_neg (fun q => q k1), if_neg (fun q => q k2)]
      rw [e, if_neg (fun q => q k1), if_neg (fun q => q k2)]
      rcases hPP with ⟨q1, q2⟩ | ⟨a, Hp, q1, -, -, q2, -⟩
      · rw [q1, if_pos rfl, if_pos q2]
      · rw [q1, if_neg (by intro q; cases q), if_neg (by omega)]
    · have e : st_run R c t = 5 := by unfold st_run; rw [if_neg (fun q => q k1), if_pos k2]
      rw [e, if_neg (fun q => q k1), if_pos k2]
  · have e : st_run R c t = 2 := if_pos k1
    rw [e, if_pos k1]
theorem r_runN {m : Nat} {ρ : Hs} (hW : RW R) {c t : Int32} (h : st_run R c t ≠ 0) : fX12_run_0 (eR m ρ R) m c t = some (-1, eR m ρ (sfi (sfi (sfi R 1 0) 0 0) 0 (st_run R c t))) := by
  have hC' : fi (sfi (sfi R 1 0) 0 0) 11 = Int32.ofNat (nC R) := hW.2.2.2.1.1
  have h12 := hW.2.2.2.1.2.1
  unfold fX12_run_0
  simp only [RP_1, RP_0, RisC, r_refuse, r_isClock hC' h12, r_isIn, le64, up64, Option.bind_some, b2i_0, RG_61, q_fi_sfi, q_fl_sfi, q_fr_sfi, q_ai_sfi, q_al_sfi, q_ar_sfi, q_ln_sfi, q_fi_sfl, q_fl_sfl, q_fr_sfl, q_ai_sfl, q_al_sfl, q_ar_sfl, q_ln_sfl, q_fi_sfr, q_fl_sfr, q_fr_sfr, q_ai_sfr, q_al_sfr, q_ar_sfr, q_ln_sfr, q_fi_sai, q_fl_sai, q_fr_sai, q_ai_sai, q_al_sai, q_ar_sai, q_ln_sai, q_fi_sal, q_fl_sal, q_fr_sal, q_ai_sal, q_al_sal, q_ar_sal, q_ln_sal, q_fi_sar, q_fl_sar, q_fr_sar, q_ai_sar, q_al_sar, q_ar_sar, q_ln_sar, reduceIte, Nat.reduceEqDiff, show (0 : Int64).toInt = 0 from rfl, show (899990000 : Int64).toInt = 899990000 from rfl, le32, i0]
  by_cases k1 : 0 ≤ c.toInt ∧ c.toInt < nC R
  · by_cases k2 : 0 ≤ t.toInt ∧ t.toInt ≤ 899990000
    · by_cases k3 : (fi R 61).toInt < 0
      · have e : st_run R c t = 8 := by unfold st_run; rw [if_neg (fun q => q k1), if_neg (fun q => q k2), if_pos k3]
        rw [e, if_neg (fun q => q k1), if_neg (fun q => q k2), if_neg (by omega)]
      · exact absurd (by unfold st_run; rw [if_neg (fun q => q k1), if_neg (fun q => q k2), if_neg k3]) h
    · have e : st_run R c t = 5 := by unfold st_run; rw [if_neg (fun q => q k1), if_pos k2]
      rw [e, if_neg (fun q => q k1), if_pos k2]
  · have e : st_run R c t = 2 := if_pos k1
    rw [e, if_pos k1]
theorem r_runY {m : Nat} {ρ : Hs} (hW : RW R) {c t : Int32} (h : st_run R c t = 0) {R1 : Gs} (hF : fX12_findSteps_0 (eR m ρ (sfi (sfi R 1 0) 0 0)) m c = some (eR m ρ R1)) {L : Nat} (h61 : fi R1 61 = Int32.ofNat L) {R2 : Gs} (hG : (GR12c 10) (eR m ρ (sfi (sfi (sfi (sfi (sfi (sfi R1 63 c) 64 t) 65 t) 66 0) 67 0) 105 (-1))) m 0 (Int32.ofNat L) = some (eR m ρ R2)) : fX12_run_0 (eR m ρ R) m c t = ((gI (eR m ρ R2) m 14 105).bind fun vq18 => if vq18 = (-1) then (fX12_run_117 (eR m ρ R2) m m 0) else ((gI (eR m ρ R2) m 14 105).bind fun vq19 => fX12_run_117 (eR m ρ R2) m m vq19)) := by
  have hC' : fi (sfi (sfi R 1 0) 0 0) 11 = Int32.ofNat (nC R) := hW.2.2.2.1.1
  have h12 := hW.2.2.2.1.2.1
  have hc : (0 ≤ c.toInt ∧ c.toInt < nC R) ∧ (0 ≤ t.toInt ∧ t.toInt ≤ 899990000) ∧ 0 ≤ (fi R 61).toInt := by
    unfold st_run at h
    by_cases k1 : 0 ≤ c.toInt ∧ c.toInt < nC R
    · rw [if_neg (fun q => q k1)] at h
      by_cases k2 : 0 ≤ t.toInt ∧ t.toInt ≤ 899990000
      · rw [if_neg (fun q => q k2)] at h
        by_cases k3 : (fi R 61).toInt < 0
        · rw [if_pos k3] at h; exact absurd h (by decide)
        · exact ⟨k1, k2, by omega⟩
      · rw [if_pos k2] at h; exact absurd h (by decide)
    · rw [if_pos k1] at h; exact absurd h (by decide)
  unfold fX12_run_0
  simp only [RP_1, RP_0, RisC, r_isClock hC' h12, r_isIn, le64, up64, Option.bind_some, b2i_0, RG_61, q_fi_sfi, q_fl_sfi, q_fr_sfi, q_ai_sfi, q_al_sfi, q_ar_sfi, q_ln_sfi, q_fi_sfl, q_fl_sfl, q_fr_sfl, q_ai_sfl, q_al_sfl, q_ar_sfl, q_ln_sfl, q_fi_sfr, q_fl_sfr, q_fr_sfr, q_ai_sfr, q_al_sfr, q_ar_sfr, q_ln_sfr, q_fi_sai, q_fl_sai, q_fr_sai, q_ai_sai, q_al_sai, q_ar_sai, q_ln_sai, q_fi_sal, q_fl_sal, q_fr_sal, q_ai_sal, q_al_sal, q_ar_sal, q_ln_sal, q_fi_sar, q_fl_sar, q_fr_sar, q_ai_sar, q_al_sar, q_ar_sar, q_ln_sar, reduceIte, Nat.reduceEqDiff, show (0 : Int64).toInt = 0 from rfl, show (899990000 : Int64).toInt = 899990000 from rfl, le32, i0]
  rw [if_neg (fun q => q hc.1), if_neg (fun q => q hc.2.1), if_pos hc.2.2, hF]
  simp only [Option.bind_some, RP_63, RP_64, RP_65, RP_66, RP_67, RP_105, RG_61, RisC, q_fi_sfi, q_fl_sfi, q_fr_sfi, q_ai_sfi, q_al_sfi, q_ar_sfi, q_ln_sfi, q_fi_sfl, q_fl_sfl, q_fr_sfl, q_ai_sfl, q_al_sfl, q_ar_sfl, q_ln_sfl, q_fi_sfr, q_fl_sfr, q_fr_sfr, q_ai_sfr, q_al_sfr, q_ar_sfr, q_ln_sfr, q_fi_sai, q_fl_sai, q_fr_sai, q_ai_sai, q_al_sai, q_ar_sai, q_ln_sai, q_fi_sal, q_fl_sal, q_fr_sal, q_ai_sal, q_al_sal, q_ar_sal, q_ln_sal, q_fi_sar, q_fl_sar, q_fr_sar, q_ai_sar, q_al_sar, q_ar_sar, q_ln_sar, reduceIte, Nat.reduceEqDiff, h61, hG]
end
section
variable {P : Par} {x : Nat} {σ : Hs}
theorem both_run (hP : P.ok) (hP2 : P.2.1 = RPp) (hk : P.bk) (hB : Bel P x) (hI : Inv P x σ) (c t : Int32) : ∃ v σ1 σ2, fX11_run_0 σ x c t = some (v, σ1) ∧ fX12_run_0 σ1 (x + 20) c t = some (v, σ2) ∧ Inv P x σ2 := by
  obtain ⟨own, R, hE, hX, hW, h6⟩ := hI
  obtain ⟨hK, hH⟩ := hB R hW
  obtain ⟨G, T, eC, eV, eN, eT, eS, h⟩ := hX
  have hA := h.2.2.1.at
  have h12' := hW.2.2.2.1.2.1
  have hA2 : ∀ v, A11 x (sfi G 0 v) (e11 x σ (sfi G 0 v)) := fun v => A11_self _ _
  unfold fX11_run_0
  simp only [z11_C hA, x_runSt hW h c t, Option.bind_some, z11_p0 hA, z11_g0 (hA2 _)]
  by_cases hst : st_run R c t = 0
  rotate_left
  · rw [if_neg (show ¬ fi (sfi G 0 (st_run R c t)) 0 = 0 from hst)]
    have hE1 : eR (x + 20) (e11 x σ (sfi G 0 (st_run R c t))) R = e11 x σ (sfi G 0 (st_run R c t)) := eR_in hE (fun a h1 h2 => e11_out _ _ (by omega))
    have hr := r_runN (m := x + 20) (ρ := e11 x σ (sfi G 0 (st_run R c t))) hW hst
    rw [hE1] at hr
    exact ⟨_, _, _, rfl, hr, inv_mk hP ⟨_, _, _, _, _, _, _, h.st hP hW _⟩ hW (((Fr.refl _ R).sfi (k := 1) (by decide) _).sfi (k := 0) (by decide) _ |>.sfi (k := 0) (by decide) _) rfl h6⟩
  have hc : (0 ≤ c.toInt ∧ c.toInt < nC R) ∧ (0 ≤ t.toInt ∧ t.toInt ≤ 899990000) ∧ 0 ≤ (fi R 61).toInt := by
    have h' := hst
    unfold st_run at h'
    by_cases k1 : 0 ≤ c.toInt ∧ c.toInt < nC R
    · rw [if_neg (fun q => q k1)] at h'
      by_cases k2 : 0 ≤ t.toInt ∧ t.toInt ≤ 899990000
      · rw [if_neg (fun q => q k2)] at h'
        by_cases k3 : (fi R 61).toInt < 0
        · rw [if_pos k3] at h'; exact absurd h' (by decide)
        · exact ⟨k1, k2, by omega⟩
      · rw [if_pos k2] at h'; exact absurd h' (by decide)
    · rw [if_pos k1] at h'; exact absurd h' (by decide)
  rw [if_pos (show fi (sfi G 0 (st_run R c t)) 0 = 0 from hst), hst]
  obtain ⟨cn, rfl, hcn, hcn'⟩ := get32 c hc.1.1
  obtain ⟨f, rfl, hf, hf'⟩ := get32 t hc.2.1.1
  have hcR : cn < nC R := by omega
  have hs := h.st hP hW 0
  obtain ⟨s1, G1, T1, a1, a2, a3, a4, a5⟩ := k_settle hW hs (hK _ _ _ _ _ _)
  have hA3 := a2.2.2.1.at
  have c1 : isC s1 (x + 7) 1 = some () := xJ_C a2.2.2.2.2.2.1.1
  have c3 : fJx4a65c_get_915e3_0 s1 (x + 7) (Int32.ofNat cn) = some (some (eC cn)) := xJ_get a2.2.2.2.2.2.1.1 (by omega)
  have hc3 : isC s1 (eC cn) 3 = some () := by
    obtain ⟨Gc, Tc, nt, y1, -⟩ := a2.2.2.2.2.2.1.2 cn hcR
    exact z1_C y1
  have hPP0 := hs.2.2.2.2.2.2.2.2.2.2.1
  have g13 : ∃ ap0, fr (sfi G 0 0) 13 = some ap0 := by
    rcases hPP0 with ⟨-, q2⟩ | ⟨ap0, Hp0, q1, -⟩
    · omega
    · exact ⟨ap0, q1⟩
  obtain ⟨ap0, g13⟩ := g13
  have hPP := a2.2.2.2.2.2.2.2.2.2.2.1
  rcases hPP with ⟨-, q2⟩ | ⟨ap, Hp, p1, p2, ⟨p3, p4⟩, p5, p6⟩
  · omega
  rw [hP2] at p6
  obtain ⟨L, mk, ⟨l1, l2⟩, ⟨l3, l4⟩, ⟨l5, l6, l7⟩, hBk⟩ := p6
  have hPr : PrO Hp mk := ⟨⟨l3, l4⟩, l5, l6, l7⟩
  obtain ⟨Gr, r1, ⟨r2, r3⟩, -⟩ := a2.2.2.2.2.2.2.2.2.2.2.2.1
  obtain ⟨Tc, ok, o1, o2, o3, o4, o5, o6, o7⟩ := k_env hW a2 a3 hcR p2 p3
  generalize hV : SH R (nL R) (nN R) (nS R) (P.2.2 R) (Int32.ofNat cn) = V at *
  let hd : Nat → Gs → Prop := fun nh R1 => Hnd R R1 (nL R) (nN R) (nS R) nh (P.2.2 R) (Int32.ofNat cn) ∧ (fi R1 63 = Int32.ofNat cn ∧ fi R1 64 = Int32.ofNat f) ∧ Fr SCR R R1 ∧ fi R1 0 = 0
  have hEv : ∀ nh m ρ, Ev7 (x + 12) ap (eC cn) (fun T => e9 (eC cn + 1) s1 T) Hp ok V m ρ (hd nh) f (ai R 72) (ai R 73) (ai R 74) := by
    intro nh m ρ
    refine ⟨o3, o4, fun T Gr t q1 q2 => ?_, fun R1 R2 q1 q2 => ?_, fun R1 q1 => ?_, fun R1 q1 => ?_, by omega⟩
    · obtain ⟨T', u1, u2⟩ := o5 T Gr t q1 q2
      exact ⟨T', u1, u2⟩
    · obtain ⟨v1, ⟨v2, v3⟩, v4, v5⟩ := q1
      exact ⟨v1.fr q2 (by decide), ⟨(q2.i 63 (by decide)).trans v2, (q2.i 64 (by decide)).trans v3⟩, v4.trans (q2.mono (by decide)), (q2.i 0 (by decide)).trans v5⟩
    · obtain ⟨v1, ⟨v2, v3⟩, v4, v5⟩ := q1
      refine ⟨cn, v2, by omega, fun t ht => ?_⟩
      obtain ⟨R2, w1, w2⟩ := r_shwAt (m := m) (ρ := ρ) (t := t) hW.1 hW.2.2.1 v1 ht
      rw [c32 (show cn < 2147483648 by omega)] at w1
      exact ⟨R2, by rw [v4.ai 13 (by decide), w1, ← hV], w2⟩
    · obtain ⟨v1, ⟨v2, v3⟩, v4, v5⟩ := q1
      exact ⟨v4.ai 72 (by decide), v4.ai 73 (by decide), v4.ai 74 (by decide), v3⟩
  obtain ⟨T0, u1, u2⟩ := o5 Tc (sfi (sfi (sfr (sfr Gr 0 (some ap)) 1 (some (eC cn))) 2 (Int32.ofNat f)) 3 (Int32.ofNat f)) (Int32.ofNat f) o1 (by omega)
  rw [o2] at u1
  let Gr0 : Gs := sfi (sfi (sfi (sfl (sfi (sfi (sfr (sfr Gr 0 (some ap)) 1 (some (eC cn))) 2 (Int32.ofNat f)) 3 (Int32.ofNat f)) 4 (V (Int32.ofNat f))) 5 0) 6 0) 7 0
  have hcl : fX7_perform_0 s1 (x + 12) ap (eC cn) (Int32.ofNat f) = fX7_perform_53 (e7 (x + 12) (e9 (eC cn + 1) s1 T0) Gr0) (x + 12) 0 0 := by
    have hC := o4 Tc (sfi (sfi (sfr (sfr Gr 0 (some ap)) 1 (some (eC cn))) 2 (Int32.ofNat f)) 3 (Int32.ofNat f))
    rw [o2] at hC
    have gg : fr (sfi (sfi (sfr (sfr Gr 0 (some ap)) 1 (some (eC cn))) 2 (Int32.ofNat f)) 3 (Int32.ofNat f)) 1 = some (eC cn) := rfl
    unfold fX7_perform_0
    rw [z7_p0 r1, Option.bind_some, y7_p1, Option.bind_some, y7_p2, Option.bind_some, y7_p3, Option.bind_some, y7_g1, gg, Option.bind_some, Option.bind_some, hC, Option.bind_some, u1]
    simp only [Option.bind_some, y7_p4, y7_p5, y7_p6, y7_p7]
    rfl
  have hall : ∀ ρ, ∃ T' Gr' R' e' kp' nh R1, fX7_perform_53 (e7 (x + 12) (e9 (eC cn + 1) s1 T0) Gr0) (x + 12) 0 0 = some (fi Gr' 5, e7 (x + 12) (e9 (eC cn + 1) s1 T') Gr') ∧ fX12_findSteps_0 (eR (x + 20) ρ (sfi (sfi R 1 0) 0 0)) (x + 20) (Int32.ofNat cn) = some (eR (x + 20) ρ R1) ∧ fi R1 61 = Int32.ofNat L ∧ (GR12c 10) (eR (x + 20) ρ (sfi (sfi (sfi (sfi (sfi (sfi R1 63 (Int32.ofNat cn)) 64 (Int32.ofNat f)) 65 (Int32.ofNat f)) 66 0) 67 0) 105 (-1))) (x + 20) 0 (Int32.ofNat L) = some (eR (x + 20) ρ R') ∧ ok T' ∧ Ma ap (eC cn) f (hd nh) V Gr' R' e' kp' ∧ (Al7 Gr' R' ∨ De7 Gr' R') ∧ kp' ≤ 400000 := by
    intro ρ
    obtain ⟨R1, nh, e1, e2, e3⟩ := r_find (m := x + 20) (ρ := ρ) (c := Int32.ofNat cn) hW.1 hW.2.1 hW.2.2.1 (hH ρ) (fr1 R)
    have F1 : Fr SCR R R1 := (fr1 R).trans (e2.mono (by decide))
    have FS1 : Fr [63, 64, 65, 66, 67, 105] R1 (sfi (sfi (sfi (sfi (sfi (sfi R1 63 (Int32.ofNat cn)) 64 (Int32.ofNat f)) 65 (Int32.ofNat f)) 66 0) 67 0) 105 (-1)) := ((((((Fr.refl _ R1).sfi (k := 63) (by decide) _).sfi (k := 64) (by decide) _).sfi (k := 65) (by decide) _).sfi (k := 66) (by decide) _).sfi (k := 67) (by decide) _).sfi (k := 105) (by decide) _
    have hM : Ma ap (eC cn) f (hd nh) V Gr0 (sfi (sfi (sfi (sfi (sfi (sfi R1 63 (Int32.ofNat cn)) 64 (Int32.ofNat f)) 65 (Int32.ofNat f)) 66 0) 67 0) 105 (-1)) 0 0 := ⟨⟨rfl, rfl, rfl, r2, r3⟩, ⟨e3.fr FS1 (by decide), ⟨rfl, rfl⟩, F1.trans (FS1.mono (by decide)), (e2.i 0 (by decide))⟩, ⟨rfl, rfl, by omega⟩, rfl, rfl, ⟨rfl, rfl⟩, fun k _ hk => absurd hk (by omega)⟩
    obtain ⟨T', Gr', R', e', kp', w1, w2, w3, w4, w5, w6⟩ := w_perf (hEv nh (x + 20) ρ) hPr l2 hBk u2 hM ⟨rfl, rfl⟩
    exact ⟨T', Gr', R', e', kp', nh, R1, w1, e1, (F1.i 61 (by decide)).trans l1, w2, w3, w4, w5, w6⟩
  obtain ⟨Ta, Ga, Ra, ea, ka, na, Ra1, xa, -⟩ := hall σ
  obtain ⟨σ1, hσ1⟩ : ∃ σ1, σ1 = e7 (x + 12) (e9 (eC cn + 1) s1 Ta) Ga := ⟨_, rfl⟩
  obtain ⟨Tb, Gb, Rb, eb, kb, nb, Rb1, xb, yb1, yb2, yb3, okb, Mb, altb, kbb⟩ := hall σ1
  have q := Option.some.inj (xa.symm.trans xb)
  have q5 : fi Ga 5 = fi Gb 5 := congrArg Prod.fst q
  have qh : σ1 = e7 (x + 12) (e9 (eC cn + 1) s1 Tb) Gb := hσ1.trans (congrArg Prod.snd q)
  have hlow : ∀ a, x + 20 ≤ a → a ≤ x + 20 + 57 → σ1.2.1 a = σ.2.1 a := by
    intro a q1 q2
    have hx0 := h.1
    have ht : tg x own a = 4 := tg_r ⟨q1, q2⟩
    have hn4 : ∀ {W : List Nat}, 4 ∉ W → tg x own a ∉ W := fun hq => by rw [ht]; exact hq
    rw [qh]
    refine (e7_out _ _ (by omega)).trans (((o7 Tb).2.2 a (by have := a4; have e : (e11 x σ (sfi G 0 0)).1 = σ.1 := rfl; omega) (hn4 (fun r => by have := List.mem_singleton.mp r; omega))).trans ?_)
    refine (a5.2.2 a (by show a < σ.1; omega) (hn4 (fun r => ?_))).trans (e11_out _ _ (by omega))
    rcases List.mem_cons.mp r with r | r
    · omega
    · have := mem_WS.mp r; omega
  have hE1 : eR (x + 20) σ1 R = σ1 := eR_in hE hlow
  obtain ⟨U, z1, z2, ⟨z3, z4, z5, z6⟩, z7⟩ := r_ranEnd (m := x + 20) (ρ := σ1) Mb.2.2.2.2.2.1.2 kbb
  have hry := r_runY (m := x + 20) (ρ := σ1) hW hst yb1 yb2 yb3
  rw [hE1] at hry
  obtain ⟨⟨s_0, s_1, s_2, s_8, s_9⟩, ⟨hd1, -, hd3, hd4⟩, ⟨m3, m4, m5⟩, m6, m7, ⟨m8, m9⟩, m10⟩ := Mb
  have hval : (if fi Rb 105 = -1 then 0 else fi Rb 105) = fi Gb 5 ∧ 0 ≤ (fi Gb 5).toInt := by
    rcases altb with ⟨b1, b2⟩ | ⟨o, ho, b1, b2⟩
    · rw [if_pos b2, b1]; exact ⟨rfl, by decide⟩
    · rw [if_neg (by rw [b2]; rcases ho with rfl | rfl <;> decide), b1, b2]
      refine ⟨rfl, ?_⟩
      rcases ho with rfl | rfl <;> decide
  have FU : Fr (68 :: 69 :: 70 :: 71 :: 79 :: SCR) R U := (hd3.mono (by decide)).trans (z2.mono (by decide))
  have hPU : PU x (e7 (x + 12) (e9 (eC cn + 1) s1 Tb) Gb) U := by
    have k68 : 0 ≤ (fi U 68).toInt := by rw [z3, hval.1]; exact hval.2
    refine ⟨Gb, A7_self _ _, ⟨s_8, s_9⟩, Or.inr ⟨eC cn, s_1, k68, by rw [z4, m4, m3], by rw [z5, m7]⟩, fun q => absurd q (by omega), fun _ => ⟨by rw [z6, m8], ?_, fun k k1 k2 => ?_⟩⟩
    · rw [z6, n32 (by omega)]; omega
    · rw [z6, n32 (by omega)] at k2
      rw [z7 k k1 (by omega)]; exact m10 k k1 (by omega)
  have hXW := k_ranNew hP hk hW (o6 Tb okb) Gb FU hPU
  rw [← qh] at hXW
  refine ⟨fi Gb 5, σ1, _, ?_, hry.trans (by rw [z1, hval.1]), inv_mk hP hXW (RW_ran hW FU) (Fr.refl _ _) ((z2.i 0 (by decide)).trans hd4) ?_⟩
  · rw [z11_g13 (hA2 0), g13, Option.bind_some, if_neg (by intro q; cases q), z11_C (hA2 0), Option.bind_some, a1, Option.bind_some, z11_g14 hA3, Option.bind_some, z11_g13 hA3, p1, Option.bind_some, z11_g7 hA3, Option.bind_some, c1, Option.bind_some, c3, Option.bind_some, Option.bind_some, hc3, Option.bind_some, Option.bind_some, z7_C r1, Option.bind_some, hcl, xb, Option.bind_some, ← qh]
  · obtain ⟨k6, k61, k62⟩ := hd1.h6
    exact ⟨k6, k61, (z2.i 6 (by decide)).trans k62⟩
end
