theorem e97 {y b : Nat} {s : Hs} {T Gr T' : Gs} (h : ∀ j, j < 4 → b + j ≠ y ∧ b + j ≠ y + 1 ∧ b + j ≠ y + 2) : e9 b (e7 y (e9 b s T) Gr) T' = e7 y (e9 b s T') Gr := by
  have h0 := h 0 (by decide); have h1 := h 1 (by decide); have h2 := h 2 (by decide); have h3 := h 3 (by decide)
  refine Prod.ext rfl (Prod.ext (funext fun a => ?_) rfl)
  by_cases c : a = b ∨ a = b + 1 ∨ a = b + 2 ∨ a = b + 3
  · rw [show (e7 y (e9 b s T') Gr).2.1 a = (e9 b s T').2.1 a from e7_out _ _ (by omega)]
    exact eX_in ok9 (d9_iff.mpr c) _ _ _
  · rw [e9_out _ _ c]
    by_cases d : a = y ∨ a = y + 1 ∨ a = y + 2
    · exact eX_in ok7 (d7_iff.mpr d) _ _ _
    · rw [show (e7 y (e9 b s T) Gr).2.1 a = (e9 b s T).2.1 a from e7_out _ _ d, show (e7 y (e9 b s T') Gr).2.1 a = (e9 b s T').2.1 a from e7_out _ _ d, e9_out _ _ c, e9_out _ _ c]
section
variable {P : Par} {x : Nat} {own : Nat → Nat} {σ : Hs} {R : Gs} {st : Int32}
theorem k_env (hW : RW R) {G T : Gs} {eC eV eN eT eS : Nat → Nat} (h : XWg P x own σ R st G T eC eV eN eT eS) (hz : fi G 18 = 0) {i : Nat} (hi : i < nC R) {ap : Nat} {Hp : Gs} (hap : A4 ap Hp σ) (htp : ∀ j, j < 4 → tg x own (ap + j) = 320) : ∃ (Tc : Gs) (ok : Gs → Prop), ok Tc ∧ e9 (eC i + 1) σ Tc = σ ∧ (∀ T Gr, A4 ap Hp (e7 (x + 12) (e9 (eC i + 1) σ T) Gr)) ∧ (∀ T Gr, isC (e7 (x + 12) (e9 (eC i + 1) σ T) Gr) (eC i) 3 = some ()) ∧ (∀ T Gr t, ok T → (-1000 ≤ t.toInt ∧ t.toInt ≤ 900010000) → ∃ T', fX1_shownAt_0 (e7 (x + 12) (e9 (eC i + 1) σ T) Gr) (eC i) t = some (SH R (nL R) (nN R) (nS R) (P.2.2 R) (Int32.ofNat i) t, e7 (x + 12) (e9 (eC i + 1) σ T') Gr) ∧ ok T') ∧ (∀ T', ok T' → XWg P x own (e9 (eC i + 1) σ T') R st G T eC eV eN eT eS) ∧ ∀ T', Chg x own [20 + i] σ (e9 (eC i + 1) σ T') := by
  have h12' := hW.2.2.2.1.2.1
  have hx := h
  obtain ⟨h0, h1, h2, h3, h4, h5, h6, h7, h8, h9, h10, h11, h12, h13⟩ := hx
  obtain ⟨Gc, Tc, nt, y1, y2, ⟨y3, y4⟩, ⟨y5, y6, y7, y8⟩, y9, y10, y11⟩ := h5.2 i hi
  obtain ⟨z1, z2, z3⟩ := y11 hz
  have hsl := stN_le (ai R 14) (Int32.ofNat i) (nS R)
  have hS60 := hW.2.2.1.2.1
  have hasc : Asc (stN (ai R 14) (Int32.ofNat i) (nS R)) (ai Gc 2) := by
    intro a b hab hb
    rw [y9 a (by omega), y9 b hb]
    exact stA_asc (ai R 14) (ai R 15) (Int32.ofNat i) (nS R) a b hab hb
  have hB : ∀ j, j < stN (ai R 14) (Int32.ofNat i) (nS R) → -1000 ≤ (ai Gc 3 j).toInt ∧ (ai Gc 3 j).toInt ≤ 1000 := fun j hj => by rw [z3 j hj]; exact ldS_bd hW.1.2.2 y10.tok _
  have hah : ∀ t, ahd (ai Gc 2) (ai Gc 3) t (stN (ai R 14) (Int32.ofNat i) (nS R)) = AH R (nL R) (nN R) (nS R) (P.2.2 R) (Int32.ofNat i) t := by
    intro t
    unfold AH
    rw [← ahS_perm (tcl_perm z2)]
    unfold ahS
    refine ahd_congr _ (fun j hj => ⟨y9 j hj, ?_⟩)
    unfold ldA
    exact (ofI (z3 j hj)).symm
  have hsh : ∀ t : Int32, shw (fi Gc 0) (tt Tc nt) (mx0 (t.toInt + (ahd (ai Gc 2) (ai Gc 3) t (stN (ai R 14) (Int32.ofNat i) (nS R))).toInt)) = SH R (nL R) (nN R) (nS R) (P.2.2 R) (Int32.ofNat i) t := by
    intro t
    rw [hah, y5]
    unfold SH shS AH
    rw [c32 (by omega)]
    exact shw_perm (tcl_perm z2) _ _
  have t12 : ∀ j, j < 3 → tg x own (x + 12 + j) = 3 := by
    intro j hj
    have : j = 0 ∨ j = 1 ∨ j = 2 := by omega
    rcases this with rfl | rfl | rfl
    · exact tg_st (j := 12) (by omega)
    · exact tg_st (j := 13) (by omega)
    · exact tg_st (j := 14) (by omega)
  have ne : ∀ {a : Nat}, tg x own a ≠ 3 → ¬ (a = x + 12 ∨ a = x + 12 + 1 ∨ a = x + 12 + 2) := by
    intro a ha q
    rcases q with rfl | rfl | rfl
    · exact ha (t12 0 (by decide))
    · exact ha (t12 1 (by decide))
    · exact ha (t12 2 (by decide))
  have neC : ∀ j, j < 7 → ¬ (eC i + j = x + 12 ∨ eC i + j = x + 12 + 1 ∨ eC i + j = x + 12 + 2) := fun j hj => ne (by rw [y3 j hj]; omega)
  have neP : ∀ j, j < 4 → ¬ (ap + j = x + 12 ∨ ap + j = x + 12 + 1 ∨ ap + j = x + 12 + 2) := fun j hj => ne (by rw [htp j hj]; omega)
  have neT : ∀ j q, j < 4 → q < 7 → ap + j ≠ eC i + q := by
    intro j q hj hq he
    have e1 := htp j hj
    rw [he, y3 q hq] at e1; omega
  have hC4 : ∀ T', Chg x own [20 + i] σ (e9 (eC i + 1) σ T') := fun T' => e9c_chg σ _ y3 List.mem_cons_self
  have hA1 : ∀ T' Gr, A1 (eC i) Gc (e7 (x + 12) (e9 (eC i + 1) σ T') Gr) := by
    intro T' Gr
    refine A1_fr y1 (fun a ha => ?_)
    have n0 := neC 0 (by decide); have n5 := neC 5 (by decide); have n6 := neC 6 (by decide)
    exact (e7_out _ _ (by omega)).trans (e9_out _ _ (by omega))
  have hA9 : ∀ T' Gr, A9 (eC i + 1) T' (e7 (x + 12) (e9 (eC i + 1) σ T') Gr) := by
    intro T' Gr
    refine A9_fr (A9_self σ T') (fun a ha => ?_)
    have n1 := neC 1 (by decide); have n2 := neC 2 (by decide); have n3 := neC 3 (by decide); have n4 := neC 4 (by decide)
    exact e7_out _ _ (by omega)
  refine ⟨Tc, fun T' => Fr [4, 5, 6] Tc T', Fr.refl _ _, y2, fun T' Gr => ?_, fun T' Gr => z1_C (hA1 T' Gr), fun T' Gr t hok ht => ?_, fun T' hok => ?_, hC4⟩
  · refine A4_fr hap (fun a ha => ?_)
    have n0 := neP 0 (by decide); have n1 := neP 1 (by decide); have n2 := neP 2 (by decide); have n3 := neP 3 (by decide)
    refine (e7_out _ _ (by omega)).trans (e9_out _ _ (fun q => ?_))
    rcases ha with rfl | rfl | rfl | rfl
    · have := neT 0 1 (by decide) (by decide); have := neT 0 2 (by decide) (by decide); have := neT 0 3 (by decide) (by decide); have := neT 0 4 (by decide) (by decide); omega
    · have := neT 1 1 (by decide) (by decide); have := neT 1 2 (by decide) (by decide); have := neT 1 3 (by decide) (by decide); have := neT 1 4 (by decide) (by decide); omega
    · have := neT 2 1 (by decide) (by decide); have := neT 2 2 (by decide) (by decide); have := neT 2 3 (by decide) (by decide); have := neT 2 4 (by decide) (by decide); omega
    · have := neT 3 1 (by decide) (by decide); have := neT 3 2 (by decide) (by decide); have := neT 3 3 (by decide) (by decide); have := neT 3 4 (by decide) (by decide); omega
  · obtain ⟨tv1, tv2⟩ := hok.tv z1
    obtain ⟨T2, a1, a2⟩ := x1_shownAt (hA1 T' Gr) (hA9 T' Gr) tv1 y8 (by omega) y6 y7 hasc (by rw [y5]; exact hW.2.2.2.1.2.2.1 i hi) hB t ht
    rw [tv2, hsh, e97 (fun j hj => by have := neC (1 + j) (by omega); omega)] at a1
    exact ⟨T2, a1, hok.trans a2⟩
  · have hn4 : ∀ {q : Nat}, q ≠ 20 + i → q ∉ [20 + i] := fun hq r => hq (List.mem_singleton.mp r)
    have hE : Ext own own σ.1 := fun _ _ => rfl
    have hRf : Fr SCR R R := Fr.refl _ _
    have hC := hC4 T'
    refine ⟨h0, h1.fr h0 hC (hn4 (by omega)), h2.fr h0 hC (hn4 (by omega)) hRf (by decide), h3.fr hE hC (fun t ht => hn4 (by omega)) hRf (by decide), h4.fr h0 hC (hn4 (by omega)) hRf (by decide), ⟨h5.1.fr (by omega) h0 hE hC (hn4 (by omega)) (hn4 (by omega)), fun j hj => ?_⟩, h6.fr h0 hE hC ⟨hn4 (by omega), hn4 (by omega), hn4 (by omega)⟩ hRf (by decide), h7.fr hW.2.1.2.1 h0 hE hC ⟨hn4 (by omega), hn4 (by omega), fun i hi => hn4 (by omega)⟩ hRf (by decide) (fun q => q), h8.fr hW.2.2.2.2.2.2.1.2 h0 hE hC ⟨hn4 (by omega), hn4 (by omega), fun i hi => hn4 (by omega)⟩ hRf (by decide) (fun _ _ q => q), h9.fr hW.2.2.2.2.2.2.2.1.2.1 h0 hE hC ⟨hn4 (by omega), hn4 (by omega), fun i hi => hn4 (by omega)⟩ hRf (by decide), h10.fr hE hC (hn4 (by omega)) hRf (by decide) (fun _ q => q), h11.fr h0 hC (hn4 (by omega)) hRf (by decide), h12.fr hE hC (hn4 (by omega)) hRf (by decide), h13.fr hE hC (fun t ht => hn4 (by omega)) hRf (by decide)⟩
    by_cases hji : j = i
    · subst hji
      obtain ⟨tv1, tv2⟩ := hok.tv z1
      refine ⟨Gc, T', nt, A1_fr y1 (fun a ha => e9_out _ _ (by omega)), A9_self _ _, ⟨y3, y4⟩, ⟨y5, y6, y7, y8⟩, y9, tv1.1, fun _ => ⟨tv1, ?_, ?_⟩⟩
      · rw [hok.ai 0 (by decide), hok.ai 1 (by decide)]; exact z2
      · rw [tv2]; exact z3
    · exact (h5.2 j hj).fr hE hC (hn4 (by omega)) hRf (by decide) rfl (fun q => q)
theorem k_ranNew (hP : P.ok) (hk : P.bk) (hW : RW R) {G T : Gs} {eC eV eN eT eS : Nat → Nat} (h : XWg P x own σ R st G T eC eV eN eT eS) (Gr : Gs) {U : Gs} (hU : Fr (68 :: 69 :: 70 :: 71 :: 79 :: SCR) R U) (hPU : PU x (e7 (x + 12) σ Gr) U) : XW P x own (e7 (x + 12) σ Gr) U st := by
  obtain ⟨h0, h1, h2, h3, h4, h5, h6, h7, h8, h9, h10, h11, h12, h13⟩ := h
  obtain ⟨w1, w2, w3, w4, w5, w6, w7, w8, w9⟩ := id hW
  have hE : Ext own own σ.1 := fun _ _ => rfl
  have t12 : ∀ j, j < 3 → tg x own (x + 12 + j) = 3 := by
    intro j hj
    have : j = 0 ∨ j = 1 ∨ j = 2 := by omega
    rcases this with rfl | rfl | rfl
    · exact tg_st (j := 12) (by omega)
    · exact tg_st (j := 13) (by omega)
    · exact tg_st (j := 14) (by omega)
  have hC : Chg x own [3] σ (e7 (x + 12) σ Gr) := by
    refine ⟨Nat.le_refl _, rfl, fun a _ hna => e7_out _ _ (fun q => hna ?_)⟩
    rcases q with rfl | rfl | rfl
    · rw [show tg x own (x + 12) = 3 from t12 0 (by decide)]; exact List.mem_cons_self
    · rw [t12 1 (by decide)]; exact List.mem_cons_self
    · rw [t12 2 (by decide)]; exact List.mem_cons_self
  have hn : ∀ {k : Nat}, k ≠ 3 → k ∉ [3] := fun hk q => hk (List.mem_singleton.mp q)
  have p1 := hP.1 _ R U hU (by decide)
  have p2 := hP.2.1 _ R U hU (by decide)
  have p3 := hk _ R U hU (by decide)
  have q1 : nL U = nL R := by unfold nL; rw [hU.i 5 (by decide)]
  have q2 : nC U = nC R := by unfold nC; rw [hU.i 11 (by decide)]
  have q3 : nS U = nS R := by unfold nS; rw [hU.i 12 (by decide)]
  have q4 : nT U = nT R := by unfold nT; rw [hU.i 30 (by decide)]
  have q5 : nV U = nV R := by unfold nV; rw [hU.i 47 (by decide)]
  have q6 : nN U = nN R := by unfold nN; rw [hU.i 48 (by decide)]
  have q7 : nX U = nX R := by unfold nX; rw [hU.i 56 (by decide)]
  refine ⟨G, T, eC, eV, eN, eT, eS, ?_⟩
  unfold XWg
  rw [q1, q2, q3, q4, q5, q6, q7, p3]
  exact ⟨h0, h1.fr h0 hC (by decide), h2.fr h0 hC (by decide) hU (by decide), h3.fr hE hC (fun t ht => hn (by omega)) hU (by decide), h4.fr h0 hC (by decide) hU (by decide), h5.fr w4.2.1 h0 hE hC ⟨by decide, by decide, fun t ht => hn (by omega)⟩ hU (by decide) (fun q => q), h6.fr h0 hE hC (by decide) hU (by decide), h7.fr w2.2.1 h0 hE hC ⟨by decide, by decide, fun t ht => hn (by omega)⟩ hU (by decide) (fun q => q), h8.fr w7.2 h0 hE hC ⟨by decide, by decide, fun t ht => hn (by omega)⟩ hU (by decide) p1, h9.fr w8.2.1 h0 hE hC ⟨by decide, by decide, fun t ht => hn (by omega)⟩ hU (by decide), h10.fr hE hC (by decide) hU (by decide) p2, hPU, h12.fr hE hC (by decide) hU (by decide), h13.fr hE hC (fun t ht => hn (by omega)) hU (by decide)⟩
theorem RW_ran (hW : RW R) {U : Gs} (hF : Fr (68 :: 69 :: 70 :: 71 :: 79 :: SCR) R U) : RW U := by
  have q : nL U = nL R ∧ nC U = nC R ∧ nS U = nS R ∧ nT U = nT R ∧ nV U = nV R ∧ nN U = nN R ∧ nX U = nX R := by
    unfold nL nC nS nT nV nN nX
    rw [hF.i 5 (by decide), hF.i 11 (by decide), hF.i 12 (by decide), hF.i 30 (by decide), hF.i 47 (by decide), hF.i 48 (by decide), hF.i 56 (by decide)]
    exact ⟨rfl, rfl, rfl, rfl, rfl, rfl, rfl⟩
  unfold RW RLp RN RSt RCl RSv RNx RTx RSx RTp RT RTs RLd RAn RFw at *
  rw [q.1, q.2.1, q.2.2.1, q.2.2.2.1, q.2.2.2.2.1, q.2.2.2.2.2.1, q.2.2.2.2.2.2]
  rw [hF.i 5 (by decide), hF.i 11 (by decide), hF.i 12 (by decide), hF.i 17 (by decide), hF.i 30 (by decide), hF.i 47 (by decide), hF.i 48 (by decide), hF.i 49 (by decide), hF.i 56 (by decide), hF.i 57 (by decide), hF.i 87 (by decide), hF.i 90 (by decide), hF.i 91 (by decide)]
  rw [hF.ai 2 (by decide), hF.ai 3 (by decide), hF.ai 7 (by decide), hF.ai 8 (by decide), hF.ai 13 (by decide), hF.ai 14 (by decide), hF.ai 15 (by decide), hF.ai 34 (by decide), hF.ai 35 (by decide), hF.ai 36 (by decide), hF.ai 51 (by decide), hF.ai 52 (by decide), hF.ai 53 (by decide), hF.ai 54 (by decide), hF.ai 55 (by decide), hF.ai 58 (by decide), hF.ai 59 (by decide), hF.ai 80 (by decide), hF.ai 81 (by decide), hF.ai 84 (by decide), hF.ai 85 (by decide), hF.ai 86 (by decide)]
  exact hW
end
