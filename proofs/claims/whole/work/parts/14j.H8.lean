theorem b2i_c {p q : Prop} [Decidable p] [Decidable q] (h : p ↔ q) : b2i p = b2i q := by
  unfold b2i
  by_cases c : p
  · rw [if_pos c, if_pos (h.mp c)]
  · rw [if_neg c, if_neg (fun z => c (h.mpr z))]
theorem HB_all {bl : Gs → Nat → Bool} (hb : ∀ R i, bl R i = true ↔ bP R i) {R : Gs} (hW : RW R) (m : Nat) (ρ : Hs) : HB m ρ R (nN R) (bl R) := by
  intro R1 hF i hi
  obtain ⟨R2, b, db, h1, h2, h3, h4⟩ := r_bel (m := m) (ρ := ρ) hW hF hi
  refine ⟨R2, ?_, h2, h3⟩
  rw [h1, b2i_c (h4.trans (hb R i).symm)]
theorem n3264 {c : Nat} (h : c < 2147483648) : (Int32.ofNat c).toInt64 = Int64.ofNat c := by
  rw [eq64, up64, n32 h, Int64.toInt_ofNat_of_lt (by omega)]
def BsR (x : Nat) (own : Nat → Nat) (R G : Gs) (eC eV eN : Nat → Nat) (s : Hs) : Prop := x + 78 ≤ s.1 ∧ A11 x G s ∧ (PLs x own s 0 (nC R) eC ∧ ∀ i, i < nC R → PCz x own s R (nS R) (fun _ _ _ => True) i (eC i)) ∧ PV x own s R (nV R) eV ∧ (PLs x own s 2 (nN R) eN ∧ ∀ i, i < nN R → PNz x own s R (fun _ => True) i (eN i))
section
variable {x : Nat} {own : Nat → Nat} {R G : Gs} {eC eV eN eT : Nat → Nat} {s s' : Hs}
theorem BsR.fr (hR : RW R) (h : BsR x own R G eC eV eN s) {W : List Nat} (hC : Chg x own W s s') (hW : ∀ k, k ∈ W → k = 2 ∨ 300 ≤ k) : BsR x own R G eC eV eN s' := by
  obtain ⟨h0, h1, ⟨h2, h3⟩, h4, h5, h6⟩ := h
  have hn : ∀ k, k ≠ 2 → k < 300 → k ∉ W := fun k k1 k2 q => by rcases hW k q with r | r <;> omega
  refine ⟨Nat.le_trans h0 hC.1, A11_fr h1 (fun a ha => hC.2.2 a (by omega) (by rw [tg_x ha]; exact hn 1 (by decide) (by decide))), ⟨h2.fr (by decide) h0 (fun _ _ => rfl) hC (hn _ (by decide) (by decide)) (hn _ (by decide) (by decide)), fun i hi => ?_⟩, h4.fr h0 (fun _ _ => rfl) hC ⟨hn _ (by decide) (by decide), hn _ (by decide) (by decide), hn _ (by decide) (by decide)⟩ (Fr.refl [] R) (by decide), h5.fr (by decide) h0 (fun _ _ => rfl) hC (hn _ (by decide) (by decide)) (hn _ (by decide) (by decide)), fun i hi => ?_⟩
  · have := hR.2.2.2.1.2.1
    exact (h3 i hi).fr hC (hn _ (by omega) (by omega))
  · have := hR.2.1.2.1
    exact (h6 i hi).fr hC (hn _ (by omega) (by omega))
theorem BsR.n (h : BsR x own R G eC eV eN s) {i : Nat} (hi : i < nN R) : isC s (eN i) 5 = some () ∧ gI s (eN i) 5 0 = some (ai R 51 i) ∧ gI s (eN i) 5 1 = some (ai R 52 i) ∧ gI s (eN i) 5 2 = some (ai R 53 i) ∧ gI s (eN i) 5 3 = some (ai R 54 i) ∧ gI s (eN i) 5 4 = some (ai R 55 i) := by
  obtain ⟨Gn, n1, n2, ⟨n4, n5, n6, n7, n8⟩, n9⟩ := h.2.2.2.2.2 i hi
  exact ⟨z3_C n1, by rw [z3_g0 n1, n4], by rw [z3_g1 n1, n5], by rw [z3_g2 n1, n6], by rw [z3_g3 n1, n7], by rw [z3_g4 n1, n8]⟩
theorem BsR.same (h : BsR x own R G eC eV eN s) {i k : Nat} (hi : i < nN R) (hk : k < nN R) : fX3_isOfSameDay_0 s (eN k) (eN i) = some (cb (ai R 52 k = ai R 52 i ∧ ai R 53 k = ai R 53 i)) := by
  obtain ⟨-, -, a1, a2, -⟩ := h.n hi
  obtain ⟨-, -, b1, b2, -⟩ := h.n hk
  unfold fX3_isOfSameDay_0
  simp only [a1, a2, b1, b2, Option.bind_some]
  by_cases y1 : ai R 52 k = ai R 52 i
  · rw [if_pos y1]
    by_cases y2 : ai R 53 k = ai R 53 i
    · rw [if_pos y2, cb_t ⟨y1, y2⟩]; rfl
    · rw [if_neg y2, cb_f (fun q => y2 q.2)]; rfl
  · rw [if_neg y1, cb_f (fun q => y1 q.1)]; rfl
def bG (G : Gs) (k : Nat) (v : Int64) : Gs := sal G 8 (up (al G 8) k v)
theorem bG_fr (G : Gs) (k : Nat) (v : Int64) : Fr [8] G (bG G k v) := (Fr.refl _ G).sal (k := 8) (by decide) _
theorem bG_al (G : Gs) (k : Nat) (v : Int64) (j : Nat) : al (bG G k v) 8 j = if j = k then v else al G 8 j := by
  show up (al G 8) k v j = _
  by_cases c : j = k
  · rw [c, up_same, if_pos rfl]
  · rw [up_ne _ _ _ _ c, if_neg c]
theorem c_st8 {a : Nat} {σ0 : Hs} {H : Gs} (hl : ln H 8 = 11) (k : Nat) (hk : k < 11) (v : Int64) : stL (e6 a σ0 H) (a + 4) (Int32.ofNat k) v = some (e6 a σ0 (bG H k v)) := by
  rw [y6_s8, hl, ix_n (by omega), decide_eq_true hk, if_pos rfl, c32 (by omega)]; rfl
theorem e6_chgT {a t : Nat} (ht : ∀ j, j < 9 → tg x own (a + j) = 300 + t) (s : Hs) (H : Gs) : Chg x own [300 + t] s (e6 a s H) := by
  refine ⟨Nat.le_refl _, rfl, fun b _ hb => e6_out s H (fun q => hb ?_)⟩
  have : ∃ j, j < 9 ∧ b = a + j := ⟨b - a, by omega, by omega⟩
  obtain ⟨j, j1, rfl⟩ := this
  rw [ht j j1]; exact List.mem_singleton.mpr rfl
theorem c_fill (hW : RW R) (h : BsR x own R G eC eV eN s) {a t : Nat} {H : Gs} (hA : A6 a H s) (ht : ∀ j, j < 9 → tg x own (a + j) = 300 + t) (hl : ln H 8 = 11) {i : Nat} (hi : i < nN R) : ∃ H', fX11_fillVariables_0 s x (a + 4) (Int32.ofNat i) (dyB R i) = some (e6 a s H') ∧ Fr [8] H H' ∧ ln H' 8 = 11 ∧ ∀ k, k < 11 → al H' 8 k = vrB R i k := by
  have h60 := hW.2.1.2.1
  have hV8 := hW.2.2.2.2.1.2
  have hC12 := hW.2.2.2.1.2.1
  obtain ⟨⟨n1, n2⟩, ⟨n3, n4⟩⟩ := hW.2.2.2.2.2.1.1 i hi
  have hs : e6 a s H = s := hA
  have hB : ∀ H', BsR x own R G eC eV eN (e6 a s H') := fun H' => h.fr hW (e6_chgT ht s H') (fun k q => by rw [List.mem_singleton.mp q]; omega)
  have c1 : isC s (x + 9) 1 = some () := xJ_C h.2.2.2.2.1
  have c3 : ∀ j, j < nN R → fJx4a65c_get_915e3_0 s (x + 9) (Int32.ofNat j) = some (some (eN j)) := fun j hj => xJ_get h.2.2.2.2.1 hj
  obtain ⟨i0, i1, i2, i3, i4, i5⟩ := h.n hi
  unfold fX11_fillVariables_0
  simp only [z11_g10 h.2.1, c1, c3 i hi, Option.bind_some, i0]
  unfold fX11_fillVariables_22
  refine lp_q i (fun j z => z = (s, x, a + 4, Int32.ofNat i, dyB R i, eN i, Int32.ofNat (cnB (ai R 52) (ai R 53) (ai R 54) i true j), Int32.ofNat (cnB (ai R 52) (ai R 53) (ai R 54) i false j), Int32.ofNat j)) (fun X => ∃ H', X = some (e6 a s H') ∧ Fr [8] H H' ∧ ln H' 8 = 11 ∧ ∀ k, k < 11 → al H' 8 k = vrB R i k) ?_ ?_ fu 0 _ (by omega) rfl (by unfold fu; omega)
  · rintro L j _ hj rfl
    left
    refine ⟨_, rfl, ?_⟩
    obtain ⟨j0, j1, j2, j3, j4, j5⟩ := h.n (show j < nN R by omega)
    have hle : ¬ Int32.ofNat i ≤ Int32.ofNat j := fun q => absurd ((le_n (by omega) (by omega)).mp q) (by omega)
    have eT : ∀ b : Bool, cnB (ai R 52) (ai R 53) (ai R 54) i b (j + 1) = cnB (ai R 52) (ai R 53) (ai R 54) i b j + if (ai R 52 j = ai R 52 i ∧ ai R 53 j = ai R 53 i) ∧ decide (ai R 54 j = ai R 54 i) = b then 1 else 0 := fun b => rfl
    simp only [fbX11_fillVariables_22, if_neg hle, z11_g10 h.2.1, c1, c3 j (show j < nN R by omega), Option.bind_some, j0, j4, i4, h.same hi (show j < nN R by omega), cb_0, suc32]
    by_cases k1 : ai R 52 j = ai R 52 i ∧ ai R 53 j = ai R 53 i
    · rw [if_neg (fun q => q k1)]
      by_cases k3 : ai R 54 j = ai R 54 i
      · have z1 : cnB (ai R 52) (ai R 53) (ai R 54) i true (j + 1) = cnB (ai R 52) (ai R 53) (ai R 54) i true j + 1 := by rw [eT, if_pos ⟨k1, decide_eq_true k3⟩]
        have z2 : cnB (ai R 52) (ai R 53) (ai R 54) i false (j + 1) = cnB (ai R 52) (ai R 53) (ai R 54) i false j := by rw [eT, if_neg (fun q => absurd q.2 (by rw [decide_eq_true k3]; decide))]; rfl
        rw [if_pos k3, z1, z2]
      · have z1 : cnB (ai R 52) (ai R 53) (ai R 54) i true (j + 1) = cnB (ai R 52) (ai R 53) (ai R 54) i true j := by rw [eT, if_neg (fun q => absurd q.2 (by rw [decide_eq_false k3]; decide))]; rfl
        have z2 : cnB (ai R 52) (ai R 53) (ai R 54) i false (j + 1) = cnB (ai R 52) (ai R 53) (ai R 54) i false j + 1 := by rw [eT, if_pos ⟨k1, decide_eq_false k3⟩]
        rw [if_neg k3, z1, z2]
    · have z : ∀ b : Bool, cnB (ai R 52) (ai R 53) (ai R 54) i b (j + 1) = cnB (ai R 52) (ai R 53) (ai R 54) i b j := fun b => by rw [eT, if_neg (fun q => k1 q.1)]; rfl
      rw [if_pos k1, z, z]
  · rintro L _ rfl
    obtain ⟨K0, hK0⟩ : ∃ K, K = bG H 0 (ai R 51 i).toInt64 := ⟨_, rfl⟩
    have l0 : ln K0 8 = 11 := by rw [hK0]; exact hl
    have r0 : Fr [8] H K0 := by rw [hK0]; exact bG_fr _ _ _
    obtain ⟨K1, hK1⟩ : ∃ K, K = bG K0 1 (ai R 50 (ai R 51 i).toNatClampNeg).toInt64 := ⟨_, rfl⟩
    have l1 : ln K1 8 = 11 := by rw [hK1]; exact l0
    have r1 : Fr [8] H K1 := by rw [hK1]; exact r0.trans (bG_fr _ _ _)
    obtain ⟨K2, hK2⟩ : ∃ K, K = bG K1 2 (ai R 53 i - dyB R i).toInt64 := ⟨_, rfl⟩
    have l2 : ln K2 8 = 11 := by rw [hK2]; exact l1
    have r2 : Fr [8] H K2 := by rw [hK2]; exact r1.trans (bG_fr _ _ _)
    obtain ⟨K3, hK3⟩ : ∃ K, K = bG K2 3 (ai R 54 i).toInt64 := ⟨_, rfl⟩
    have l3 : ln K3 8 = 11 := by rw [hK3]; exact l2
    have r3 : Fr [8] H K3 := by rw [hK3]; exact r2.trans (bG_fr _ _ _)
    obtain ⟨K4, hK4⟩ : ∃ K, K = bG K3 4 (Int32.ofNat (cnB (ai R 52) (ai R 53) (ai R 54) i true i)).toInt64 := ⟨_, rfl⟩
    have l4 : ln K4 8 = 11 := by rw [hK4]; exact l3
    have r4 : Fr [8] H K4 := by rw [hK4]; exact r3.trans (bG_fr _ _ _)
    obtain ⟨K5, hK5⟩ : ∃ K, K = bG K4 5 (Int32.ofNat (cnB (ai R 52) (ai R 53) (ai R 54) i false i)).toInt64 := ⟨_, rfl⟩
    have l5 : ln K5 8 = 11 := by rw [hK5]; exact l4
    have r5 : Fr [8] H K5 := by rw [hK5]; exact r4.trans (bG_fr _ _ _)
    obtain ⟨K6, hK6⟩ : ∃ K, K = bG K5 6 (ai R 13 (ai R 52 i).toNatClampNeg).toInt64 := ⟨_, rfl⟩
    have l6 : ln K6 8 = 11 := by rw [hK6]; exact l5
    have r6 : Fr [8] H K6 := by rw [hK6]; exact r5.trans (bG_fr _ _ _)
    obtain ⟨K7, hK7⟩ : ∃ K, K = bG K6 7 (ai R 52 i).toInt64 := ⟨_, rfl⟩
    have l7 : ln K7 8 = 11 := by rw [hK7]; exact l6
    have r7 : Fr [8] H K7 := by rw [hK7]; exact r6.trans (bG_fr _ _ _)
    obtain ⟨K8, hK8⟩ : ∃ K, K = bG K7 8 (dyB R i).toInt64 := ⟨_, rfl⟩
    have l8 : ln K8 8 = 11 := by rw [hK8]; exact l7
    have r8 : Fr [8] H K8 := by rw [hK8]; exact r7.trans (bG_fr _ _ _)
    obtain ⟨K9, hK9⟩ : ∃ K, K = bG K8 9 (mnB (dyB R i)).toInt64 := ⟨_, rfl⟩
    have l9 : ln K9 8 = 11 := by rw [hK9]; exact l8
    have r9 : Fr [8] H K9 := by rw [hK9]; exact r8.trans (bG_fr _ _ _)
    obtain ⟨K10, hK10⟩ : ∃ K, K = bG K9 10 (dyB R i / 365).toInt64 := ⟨_, rfl⟩
    have l10 : ln K10 8 = 11 := by rw [hK10]; exact l9
    have r10 : Fr [8] H K10 := by rw [hK10]; exact r9.trans (bG_fr _ _ _)
    refine ⟨K10, ?_, r10, l10, fun k hk => ?_⟩
    · have hmin : ∀ s, fJ9_min_7cf53_0 s 11 ((dyB R i - 365 * (dyB R i / 365)) / 30) = some (mnB (dyB R i)) := by
        intro s
        unfold fJ9_min_7cf53_0 mnB
        rw [Int32.mul_comm 365]
        split <;> rfl
      have e51 := (of_cl n1).1
      have e52 := (of_cl n3).1
      have k51 : (ai R 51 i).toNatClampNeg < nV R := by have : (ai R 51 i).toNatClampNeg = (ai R 51 i).toInt.toNat := rfl; omega
      have k52 : (ai R 52 i).toNatClampNeg < nC R := by have : (ai R 52 i).toNatClampNeg = (ai R 52 i).toInt.toNat := rfl; omega
      have V1 : ∀ H', isC (e6 a s H') (x + 8) 1 = some () ∧ fJx4a65c_get_915e3_0 (e6 a s H') (x + 8) (ai R 51 i) = some (some (eV (ai R 51 i).toNatClampNeg)) ∧ oC 700 828 (e6 a s H') (eV (ai R 51 i).toNatClampNeg) = some () ∧ fJ6_intValue_8abf5_0 (e6 a s H') (eV (ai R 51 i).toNatClampNeg) = some (ai R 50 (ai R 51 i).toNatClampNeg) := by
        intro H'
        obtain ⟨b0, b1, b2, ⟨b3, b4⟩, b5⟩ := hB H'
        have hg : fJx4a65c_get_915e3_0 (e6 a s H') (x + 7 + 1) (Int32.ofNat (ai R 51 i).toNatClampNeg) = _ := xJ_get b3 k51
        rw [← e51] at hg
        obtain ⟨⟨g1, g2⟩, g3, F, g4, g5⟩ := b4 _ k51
        have hlt : (ai R 50 (ai R 51 i).toNatClampNeg).toNatClampNeg ≤ 15 := by have : (ai R 50 (ai R 51 i).toNatClampNeg).toNatClampNeg = (ai R 50 (ai R 51 i).toNatClampNeg).toInt.toNat := rfl; omega
        have ho : oG 700 828 (e6 a s H') (eV (ai R 51 i).toNatClampNeg) 0 = some (.int (ai R 50 (ai R 51 i).toNatClampNeg)) := by
          unfold oG
          rw [g4]
          show (if 700 ≤ 700 + _ ∧ 700 + _ < 828 then some (F 0) else none) = _
          rw [if_pos (by omega), g5]
        refine ⟨xJ_C b3, hg, ?_, ?_⟩
        · unfold oC; rw [ho]; rfl
        · unfold fJ6_intValue_8abf5_0 oGI; rw [ho]; rfl
      have C1 : ∀ H', isC (e6 a s H') (x + 7) 1 = some () ∧ fJx4a65c_get_915e3_0 (e6 a s H') (x + 7) (ai R 52 i) = some (some (eC (ai R 52 i).toNatClampNeg)) ∧ isC (e6 a s H') (eC (ai R 52 i).toNatClampNeg) 3 = some () ∧ gI (e6 a s H') (eC (ai R 52 i).toNatClampNeg) 3 0 = some (ai R 13 (ai R 52 i).toNatClampNeg) := by
        intro H'
        obtain ⟨b0, b1, ⟨b3, b4⟩, b5⟩ := hB H'
        have hg : fJx4a65c_get_915e3_0 (e6 a s H') (x + 7 + 0) (Int32.ofNat (ai R 52 i).toNatClampNeg) = _ := xJ_get b3 k52
        rw [← e52] at hg
        obtain ⟨Gc, Tc, nt, y1, y2, y3, ⟨y4, -⟩, -⟩ := b4 _ k52
        exact ⟨xJ_C b3, hg, z1_C y1, by rw [z1_g0 y1, y4]⟩
      have N1 := fun H' => (hB H').n hi
      have g9 : ∀ H', gN (e6 a s H') x 13 9 = some (x + 8) := fun H' => z11_g9 (hB H').2.1
      have g7 : ∀ H', gN (e6 a s H') x 13 7 = some (x + 7) := fun H' => z11_g7 (hB H').2.1
      have st : ∀ (H' : Gs) (k : Nat) (v : Int64), ln H' 8 = 11 → k < 11 → stL (e6 a s H') (a + 4) (Int32.ofNat k) v = some (e6 a s (bG H' k v)) := fun H' k v q1 q2 => c_st8 q1 k q2 v
      have st0 : stL s (a + 4) 0 (ai R 51 i).toInt64 = some (e6 a s K0) := by
        have := st H 0 (ai R 51 i).toInt64 hl (by decide)
        rw [hs, ← hK0] at this; exact this
      have st1 : stL (e6 a s K0) (a + 4) 1 (ai R 50 (ai R 51 i).toNatClampNeg).toInt64 = some (e6 a s K1) := by rw [hK1]; exact st K0 1 _ l0 (by decide)
      have st2 : stL (e6 a s K1) (a + 4) 2 (ai R 53 i - dyB R i).toInt64 = some (e6 a s K2) := by rw [hK2]; exact st K1 2 _ l1 (by decide)
      have st3 : stL (e6 a s K2) (a + 4) 3 (ai R 54 i).toInt64 = some (e6 a s K3) := by rw [hK3]; exact st K2 3 _ l2 (by decide)
      have st4 : stL (e6 a s K3) (a + 4) 4 (Int32.ofNat (cnB (ai R 52) (ai R 53) (ai R 54) i true i)).toInt64 = some (e6 a s K4) := by rw [hK4]; exact st K3 4 _ l3 (by decide)
      have st5 : stL (e6 a s K4) (a + 4) 5 (Int32.ofNat (cnB (ai R 52) (ai R 53) (ai R 54) i false i)).toInt64 = some (e6 a s K5) := by rw [hK5]; exact st K4 5 _ l4 (by decide)
      have st6 : stL (e6 a s K5) (a + 4) 6 (ai R 13 (ai R 52 i).toNatClampNeg).toInt64 = some (e6 a s K6) := by rw [hK6]; exact st K5 6 _ l5 (by decide)
      have st7 : stL (e6 a s K6) (a + 4) 7 (ai R 52 i).toInt64 = some (e6 a s K7) := by rw [hK7]; exact st K6 7 _ l6 (by decide)
      have st8 : stL (e6 a s K7) (a + 4) 8 (dyB R i).toInt64 = some (e6 a s K8) := by rw [hK8]; exact st K7 8 _ l7 (by decide)
      have st9 : stL (e6 a s K8) (a + 4) 9 (mnB (dyB R i)).toInt64 = some (e6 a s K9) := by rw [hK9]; exact st K8 9 _ l8 (by decide)
      have st10 : stL (e6 a s K9) (a + 4) 10 (dyB R i / 365).toInt64 = some (e6 a s K10) := by rw [hK10]; exact st K9 10 _ l9 (by decide)
      simp only [fbX11_fillVariables_22, Int32.le_refl, if_true]
      rw [i1, Option.bind_some, st0, Option.bind_some]
      obtain ⟨p0, p1, p2, p3, p4, p5⟩ := N1 K0
      obtain ⟨u1, u2, u3, u4⟩ := V1 K0
      rw [g9, Option.bind_some, p1, Option.bind_some, u1, Option.bind_some, u2, Option.bind_some, Option.bind_some, u3, Option.bind_some, Option.bind_some, u4, Option.bind_some, st1, Option.bind_some]
      rw [(N1 K1).2.2.2.1, Option.bind_some, st2, Option.bind_some, (N1 K2).2.2.2.2.1, Option.bind_some, st3, Option.bind_some, st4, Option.bind_some, st5, Option.bind_some]
      obtain ⟨w1, w2, w3, w4⟩ := C1 K5
      rw [g7, Option.bind_some, (N1 K5).2.2.1, Option.bind_some, w1, Option.bind_some, w2, Option.bind_some, Option.bind_some, w3, Option.bind_some, w4, Option.bind_some, st6, Option.bind_some]
      rw [(N1 K6).2.2.1, Option.bind_some, st7, Option.bind_some, st8, Option.bind_some, hmin, Option.bind_some, st9, Option.bind_some, st10, Option.bind_some]
    · have hc : ∀ b : Bool, cnB (ai R 52) (ai R 53) (ai R 54) i b i < 2147483648 := fun b => by have := cnB_le (a52 := ai R 52) (a53 := ai R 53) (a54 := ai R 54) (i := i) (b := b) i; omega
      rw [hK10, bG_al, hK9, bG_al, hK8, bG_al, hK7, bG_al, hK6, bG_al, hK5, bG_al, hK4, bG_al, hK3, bG_al, hK2, bG_al, hK1, bG_al, hK0, bG_al, n3264 (hc false), n3264 (hc true)]
      unfold vrB
      have : k = 0 ∨ k = 1 ∨ k = 2 ∨ k = 3 ∨ k = 4 ∨ k = 5 ∨ k = 6 ∨ k = 7 ∨ k = 8 ∨ k = 9 ∨ k = 10 := by omega
      rcases this with rfl | rfl | rfl | rfl | rfl | rfl | rfl | rfl | rfl | rfl | rfl <;> simp
end
