def WT : List Nat := (1 :: WS) ++ (List.range 60).map (fun i => 200 + i)
theorem mem_WT {k : Nat} : k ∈ WT ↔ k ∈ 1 :: WS ∨ (200 ≤ k ∧ k < 260) := by
  unfold WT
  rw [List.mem_append, List.mem_map]
  refine or_congr Iff.rfl ⟨?_, ?_⟩
  · rintro ⟨i, h1, h2⟩; have := List.mem_range.mp h1; omega
  · intro h; exact ⟨k - 200, List.mem_range.mpr (by omega), by omega⟩
theorem WT_4 : (4 : Nat) ∉ WT := fun q => by
  rcases mem_WT.mp q with h | h
  · exact n4WS h
  · omega
section
variable {P : Par} {x : Nat} {own : Nat → Nat} {σ : Hs} {R : Gs} {st : Int32}
theorem xw_s8 (hW : RW R) {G T : Gs} {eC eV eN eT eS : Nat → Nat} (h : XWg P x own σ R st G T eC eV eN eT eS) {k : Nat} (hk : k < nX R) {H : Gs} (h0 : fi H 0 = ai R 58 k) (h1 : fi H 1 = ai R 59 k) : XWg P x own (e8 (eS k) σ H) R st G T eC eV eN eT eS ∧ Chg x own [200 + k] σ (e8 (eS k) σ H) := by
  have hx60 := hW.2.2.2.2.2.2.2.1.2.1
  obtain ⟨g0, g1, g2, g3, g4, g5, g6, g7, g8, g9, g10, g11, g12, g13⟩ := h
  obtain ⟨H0, y1, ⟨y2, y3⟩, y4, y5⟩ := g9.2 k hk
  have hC : Chg x own [200 + k] σ (e8 (eS k) σ H) := ⟨Nat.le_refl _, rfl, fun a _ hna => e8_out _ _ (fun q => hna (by rw [q, y2]; exact List.mem_cons_self))⟩
  have hn : ∀ {q : Nat}, q ≠ 200 + k → q ∉ [200 + k] := fun hq r => hq (List.mem_singleton.mp r)
  have hE : Ext own own σ.1 := fun _ _ => rfl
  have hRf : Fr SCR R R := Fr.refl _ _
  refine ⟨⟨g0, g1.fr g0 hC (hn (by omega)), g2.fr g0 hC (hn (by omega)) hRf (by decide), g3.fr hE hC (fun t ht => hn (by omega)) hRf (by decide), g4.fr g0 hC (hn (by omega)) hRf (by decide), g5.fr hW.2.2.2.1.2.1 g0 hE hC ⟨hn (by omega), hn (by omega), fun i hi => hn (by omega)⟩ hRf (by decide) (fun q => q), g6.fr g0 hE hC ⟨hn (by omega), hn (by omega), hn (by omega)⟩ hRf (by decide), g7.fr hW.2.1.2.1 g0 hE hC ⟨hn (by omega), hn (by omega), fun i hi => hn (by omega)⟩ hRf (by decide) (fun q => q), g8.fr hW.2.2.2.2.2.2.1.2 g0 hE hC ⟨hn (by omega), hn (by omega), fun i hi => hn (by omega)⟩ hRf (by decide) (fun _ _ q => q), ⟨g9.1.fr (by omega) g0 hE hC (hn (by omega)) (hn (by omega)), fun j hj => ?_⟩, g10.fr hE hC (hn (by omega)) hRf (by decide) (fun _ q => q), g11.fr g0 hC (hn (by omega)) hRf (by decide), g12.fr hE hC (hn (by omega)) hRf (by decide), g13.fr hE hC (fun t ht => hn (by omega)) hRf (by decide)⟩, hC⟩
  by_cases q : j = k
  · subst q; exact ⟨H, A8_self _ _, ⟨y2, y3⟩, h0, h1⟩
  · obtain ⟨H2, z1, ⟨z2, z3⟩, z4⟩ := g9.2 j hj
    refine ⟨H2, A8_fr z1 (fun a ha => hC.2.2 a ?_ ?_), ⟨z2, z3⟩, z4⟩
    · rw [ha]; exact z3
    · rw [ha, z2]; exact hn (by omega)
def StO (P : Par) (R : Gs) (eS : Nat → Nat) (s : Hs) (i : Nat) : Prop := ∃ H, A8 (eS i) H s ∧ fi H 0 = ai R 58 i ∧ fi H 1 = ai R 59 i ∧ fl H 2 = wS R (nL R) (nN R) (nS R) (P.2.2 R) i
theorem x_readStamps (hW : RW R) {G T : Gs} {eC eV eN eT eS : Nat → Nat} (h : XWg P x own σ R st G T eC eV eN eT eS) (hz : fi G 18 = 0) : ∃ s', fX11_readStamps_0 σ x = some s' ∧ XWg P x own s' R st G T eC eV eN eT eS ∧ s'.1 = σ.1 ∧ Chg x own WT σ s' ∧ ∀ i, i < nX R → StO P R eS s' i := by
  have hx60 := hW.2.2.2.2.2.2.2.1.2.1
  have hc12 := hW.2.2.2.1.2.1
  unfold fX11_readStamps_0 fX11_readStamps_2
  refine lp_q (nX R) (fun k z => ∃ s, z = (s, x, Int32.ofNat k) ∧ XWg P x own s R st G T eC eV eN eT eS ∧ s.1 = σ.1 ∧ Chg x own WT σ s ∧ ∀ i, i < k → StO P R eS s i) (fun X => ∃ s', X = some s' ∧ XWg P x own s' R st G T eC eV eN eT eS ∧ s'.1 = σ.1 ∧ Chg x own WT σ s' ∧ ∀ i, i < nX R → StO P R eS s' i) ?_ ?_ fu 0 _ (by omega) ⟨σ, rfl, h, rfl, Chg.refl _ _ _ _, fun i hi => absurd hi (by omega)⟩ (by unfold fu; omega)
  · rintro K k _ hk ⟨s, rfl, a1, a2, a3, a4⟩
    left
    have hA := a1.2.2.1.at
    have hS := a1.2.2.2.2.2.2.2.2.2.1
    have hCk := a1.2.2.2.2.2.1
    have c1 : isC s (x + 11) 1 = some () := xJ_C hS.1
    have c2 : fJx4a65c_size_8abf5_0 s (x + 11) = some (Int32.ofNat (nX R)) := xJ_size hS.1
    have c3 : fJx4a65c_get_915e3_0 s (x + 11) (Int32.ofNat k) = some (some (eS k)) := xJ_get hS.1 hk
    obtain ⟨H, y1, ⟨y2, y3⟩, y4, y5⟩ := hS.2 k hk
    obtain ⟨⟨r1, r2⟩, r3, r4⟩ := hW.2.2.2.2.2.2.2.1.2.2.1 k hk
    obtain ⟨c, hc, hc1, hc2⟩ := get32 (ai R 58 k) r1
    have hcn : c < nC R := by omega
    have d1 : isC s (x + 7) 1 = some () := xJ_C hCk.1
    have d3 : fJx4a65c_get_915e3_0 s (x + 7) (Int32.ofNat c) = some (some (eC c)) := xJ_get hCk.1 hcn
    obtain ⟨s2, b1, b2, b3, b4⟩ := k_shwAt hW a1 hz hcn (ai R 59 k) (by omega)
    obtain ⟨H2, w1, ⟨w2, w3⟩, w4, w5⟩ := b2.2.2.2.2.2.2.2.2.2.1.2 k hk
    have hev : SH R (nL R) (nN R) (nS R) (P.2.2 R) (Int32.ofNat c) (ai R 59 k) = wS R (nL R) (nN R) (nS R) (P.2.2 R) k := by unfold wS; rw [hc]
    obtain ⟨v1, v2⟩ := xw_s8 hW b2 hk (H := sfl H2 2 (wS R (nL R) (nN R) (nS R) (P.2.2 R) k)) w4 w5
    simp only [fbX11_readStamps_2, z11_g12 hA, z11_g7 hA, c1, c2, c3, d1, Option.bind_some, le_n (show nX R < 2147483648 by omega) (show k < 2147483648 by omega), if_neg (show ¬ nX R ≤ k by omega), z8_C y1, z8_g0 y1, z8_g1 y1, y4, y5, hc, d3, x_ck hW a1 hcn, b1, hev, z8_p2 w1, suc32]
    refine ⟨_, ⟨_, rfl, v1, b3.trans a2, (a3.trans (b4.mono (fun q hq => mem_WT.mpr (Or.inl (WS_20 (by omega) q hq))))).trans (v2.mono (fun q hq => mem_WT.mpr (Or.inr (by rw [List.mem_singleton.mp hq]; omega)))), fun i hi => ?_⟩, rfl⟩
    by_cases q : i = k
    · subst q; exact ⟨_, A8_self _ _, w4, w5, rfl⟩
    · obtain ⟨H3, u1, u2⟩ := a4 i (by omega)
      obtain ⟨H4, -, ⟨t2, t3⟩, -⟩ := hS.2 i (by omega)
      refine ⟨H3, A8_fr u1 (fun a ha => ?_), u2⟩
      rw [ha, v2.2.2 _ (by omega) (by rw [t2]; intro w; have := List.mem_singleton.mp w; omega)]
      exact b4.2.2 _ t3 (by rw [t2]; intro w; have := List.mem_singleton.mp w; omega)
  · rintro K _ ⟨s, rfl, a1, a2, a3, a4⟩
    have hA := a1.2.2.1.at
    have hS := a1.2.2.2.2.2.2.2.2.2.1
    have c1 : isC s (x + 11) 1 = some () := xJ_C hS.1
    have c2 : fJx4a65c_size_8abf5_0 s (x + 11) = some (Int32.ofNat (nX R)) := xJ_size hS.1
    simp only [fbX11_readStamps_2, z11_g12 hA, c1, c2, Option.bind_some, Int32.le_refl, if_true]
    exact ⟨s, rfl, a1, a2, a3, a4⟩
theorem x_isWrong {eS : Nat → Nat} {i j : Nat} (hi : StO P R eS σ i) (hj : StO P R eS σ j) : fX8_isWrongWith_0 σ (eS i) (eS j) = some (b2i (WP (ai R 59) (wS R (nL R) (nN R) (nS R) (P.2.2 R)) i j)) := by
  obtain ⟨H, h1, h2, h3, h4⟩ := hi
  obtain ⟨K, k1, k2, k3, k4⟩ := hj
  unfold fX8_isWrongWith_0
  simp only [z8_g1 h1, z8_g1 k1, z8_g2 h1, z8_g2 k1, h3, k3, h4, k4, Option.bind_some, le32, lt64, bb_0, bb_1]
  unfold b2i
  (repeat' split) <;> first | rfl | omega
theorem k_wrong (hP : P.ok) (hW : RW R) (h : XW P x own σ R st) (hK : KBx P x R) : KI P x σ (Int32.ofNat (wN (ai R 59) (wS R (nL R) (nN R) (nS R) (P.2.2 R)) (nX R))) 0 R (fX11_wrong_0 σ x) := by
  obtain ⟨G, T, eC, eV, eN, eT, eS, h⟩ := h
  have hA := h.2.2.1.at
  have hx60 := hW.2.2.2.2.2.2.2.1.2.1
  obtain ⟨s1, G1, T1, a1, a2, a3, a4, a5⟩ := k_stset hP hW h hK 0
  obtain ⟨s2, b1, b2, b3, b4, b5⟩ := x_readStamps hW a2 a3
  have hA2 : A11 x (sfi G 0 0) (e11 x σ (sfi G 0 0)) := A11_self _ _
  unfold fX11_wrong_0
  simp only [z11_p0 hA, z11_C hA2, a1, z11_C a2.2.2.1.at, b1, Option.bind_some]
  have hA3 := b2.2.2.1.at
  have hS := b2.2.2.2.2.2.2.2.2.2.1
  have c1 : isC s2 (x + 11) 1 = some () := xJ_C hS.1
  have c2 : fJx4a65c_size_8abf5_0 s2 (x + 11) = some (Int32.ofNat (nX R)) := xJ_size hS.1
  have c3 : ∀ {k}, k < nX R → fJx4a65c_get_915e3_0 s2 (x + 11) (Int32.ofNat k) = some (some (eS k)) := fun hk => xJ_get hS.1 hk
  have c4 : ∀ {k}, k < nX R → isC s2 (eS k) 10 = some () := fun hk => by obtain ⟨H, y1, -⟩ := hS.2 _ hk; exact z8_C y1
  have h30 : ∀ (j a : Nat), j < nX R → ∀ k17 : Hs → Nat → Int32 → Int32 → Option (Int32 × Hs), fX11_wrong_30 k17 s2 x (Int32.ofNat a) (Int32.ofNat j) 0 = k17 s2 x (Int32.ofNat (a + cnt (fun i => wB (ai R 59) (wS R (nL R) (nN R) (nS R) (P.2.2 R)) i j) j)) (Int32.ofNat (j + 1)) := by
    intro j a hj k17
    unfold fX11_wrong_30
    refine lp_q j (fun k z => z = (s2, x, Int32.ofNat (a + cnt (fun i => wB (ai R 59) (wS R (nL R) (nN R) (nS R) (P.2.2 R)) i j) k), Int32.ofNat j, Int32.ofNat k)) (fun X => X = k17 s2 x (Int32.ofNat (a + cnt (fun i => wB (ai R 59) (wS R (nL R) (nN R) (nS R) (P.2.2 R)) i j) j)) (Int32.ofNat (j + 1))) ?_ ?_ fu 0 _ (by omega) rfl (by unfold fu; omega)
    · rintro K k _ hk rfl
      left
      refine ⟨_, rfl, ?_⟩
      simp only [fbX11_wrong_30, z11_g12 hA3, c1, c3 (show k < nX R by omega), c3 hj, c4 (show k < nX R by omega), c4 hj, x_isWrong (b5 k (by omega)) (b5 j hj), Option.bind_some, le_n (show j < 2147483648 by omega) (show k < 2147483648 by omega), if_neg (show ¬ j ≤ k by omega), b2i_0, suc32]
      show _ = K (s2, x, Int32.ofNat (a + (cnt (fun i => wB (ai R 59) (wS R (nL R) (nN R) (nS R) (P.2.2 R)) i j) k + if wB (ai R 59) (wS R (nL R) (nN R) (nS R) (P.2.2 R)) k j = true then 1 else 0)), Int32.ofNat j, Int32.ofNat (k + 1))
      unfold wB
      by_cases c : WP (ai R 59) (wS R (nL R) (nN R) (nS R) (P.2.2 R)) k j
      · rw [if_neg (show ¬ ¬ WP (ai R 59) (wS R (nL R) (nN R) (nS R) (P.2.2 R)) k j from fun q => q c), if_pos (decide_eq_true c)]; rfl
      · rw [if_pos (show ¬ WP (ai R 59) (wS R (nL R) (nN R) (nS R) (P.2.2 R)) k j from c), if_neg (by rw [decide_eq_false c]; decide)]; rfl
    · rintro K _ rfl
      simp only [fbX11_wrong_30, Int32.le_refl, if_true, suc32]
  unfold fX11_wrong_17
  refine lp_q (nX R - 1) (fun k z => z = (s2, x, Int32.ofNat (wN (ai R 59) (wS R (nL R) (nN R) (nS R) (P.2.2 R)) (k + 1)), Int32.ofNat (k + 1))) (KI P x σ (Int32.ofNat (wN (ai R 59) (wS R (nL R) (nN R) (nS R) (P.2.2 R)) (nX R))) 0 R) ?_ ?_ fu 0 _ (by omega) rfl (by unfold fu; omega)
  · rintro K k _ hk rfl
    left
    refine ⟨_, rfl, ?_⟩
    simp only [fbX11_wrong_17, z11_g12 hA3, c1, c2, Option.bind_some, le_n (show nX R < 2147483648 by omega) (show k + 1 < 2147483648 by omega), if_neg (show ¬ nX R ≤ k + 1 by omega), h30 (k + 1) _ (show k + 1 < nX R by omega)]
    rfl
  · rintro K _ rfl
    simp only [fbX11_wrong_17, z11_g12 hA3, c1, c2, Option.bind_some, le_n (show nX R < 2147483648 by omega) (show nX R - 1 + 1 < 2147483648 by omega), if_pos (show nX R ≤ nX R - 1 + 1 by omega)]
    have e : wN (ai R 59) (wS R (nL R) (nN R) (nS R) (P.2.2 R)) (nX R - 1 + 1) = wN (ai R 59) (wS R (nL R) (nN R) (nS R) (P.2.2 R)) (nX R) := by
      by_cases q : nX R = 0
      · rw [q]; rfl
      · rw [show nX R - 1 + 1 = nX R by omega]
    rw [e]
    exact ⟨s2, own, rfl, ⟨_, _, _, _, _, _, _, b2⟩, ((a5.mono (fun q hq => mem_WT.mpr (Or.inl hq))).trans b4).kp h.1 WT_4⟩
theorem RX1_of (hW : RW R) : RXq1 R (nC R) (nX R) := ⟨hW.2.2.2.2.2.2.2.1.1, hW.2.2.2.2.2.2.2.1.2.1, hW.2.2.2.2.2.2.2.1.2.2.1, hW.2.2.2.2.2.2.2.1.2.2.2.1⟩
theorem both_wrong (hP : P.ok) (hB : Bel P x) (hI : Inv P x σ) : ∃ v σ1 σ2, fX11_wrong_0 σ x = some (v, σ1) ∧ fX12_wrong_0 σ1 (x + 20) = some (v, σ2) ∧ Inv P x σ2 := by
  obtain ⟨own, R, hE, hX, hW, h6⟩ := hI
  obtain ⟨hK, hH⟩ := hB R hW
  obtain ⟨σ1, σ2, h1, h2, h3⟩ := arm_I (st := 0) (a := Int32.ofNat (wN (ai R 59) (wS R (nL R) (nN R) (nS R) (P.2.2 R)) (nX R))) (U := R) (Y := fun s => fX12_wrong_0 s (x + 20)) hP h6 hE (by rw [ite_self_R]; exact k_wrong hP hW hX hK) (fun ρ => r_wrong hW.1 hW.2.1 hW.2.2.1 (hH ρ) hW.2.2.2.1.1 hW.2.2.2.1.2.1 (RX1_of hW)) (by rw [ite_self_R]; exact hW)
  exact ⟨_, σ1, σ2, h1, h2, h3⟩
end
