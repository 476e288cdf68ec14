theorem ofInt_un {a : Int32} {b : Int} (h : a.toInt = b) : a = Int32.ofInt b := by rw [← h, Int32.ofInt_toInt]
theorem i64s (c : Nat) : Int64.ofNat c + 1 = Int64.ofNat (c + 1) := (Int64.ofNat_add c 1).symm
def bA (R : Gs) (k : Nat) (v : Int64) : Gs := sal R 42 (up (al R 42) k v)
theorem bA_fr (R : Gs) (k : Nat) (v : Int64) : Fr [42] R (bA R k v) := (Fr.refl _ R).sal (k := 42) (by decide) _
theorem bA_al (R : Gs) (k : Nat) (v : Int64) (j : Nat) : al (bA R k v) 42 j = if j = k then v else al R 42 j := by
  show up (al R 42) k v j = _
  by_cases c : j = k
  · rw [c, up_same, if_pos rfl]
  · rw [up_ne _ _ _ _ c, if_neg c]
section
variable {m : Nat} {ρ : Hs} {R : Gs}
theorem r_st42 (k : Nat) (hk : k < 11) (v : Int64) : stL (eR m ρ R) (m + 21) (Int32.ofNat k) v = some (eR m ρ (bA R k v)) := by
  rw [Rst_42, ix_n (by omega), decide_eq_true hk, if_pos rfl, c32 (by omega)]; rfl
theorem r_bel (hW : RW R) {R1 : Gs} (hF : Fr SCR R R1) {i : Nat} (hi : i < nN R) : ∃ (R2 : Gs) (b : Prop) (_ : Decidable b), fX12_isBelieved_0 (eR m ρ R1) m (Int32.ofNat i) = some (b2i b, eR m ρ R2) ∧ Fr SB R1 R2 ∧ H6 R2 ∧ (b ↔ bP R i) := by
  have hL := hW.1
  have hN := hW.2.1
  have hr := hN.2.2 i hi
  have h60 := hN.2.1
  obtain ⟨⟨n1, n2⟩, ⟨n3, n4⟩⟩ := hW.2.2.2.2.2.1.1 i hi
  have hV8 := hW.2.2.2.2.1.2
  have hC12 := hW.2.2.2.1.2.1
  obtain ⟨hL1, hTr⟩ := hL.fr hF
  obtain ⟨Ra, t1, t2, t3, t4⟩ := r_takeTrue (m := m) (ρ := ρ) hL1.1 hL1.2.1
  have hTok : Tok (nL R) (ai Ra 9) (ai Ra 10) := hL1.2.2.cg t4
  have e55 : ai Ra 55 = ai R 55 := (t2.ai 55 (by decide)).trans (hF.ai 55 (by decide))
  obtain ⟨Rb, f1, f2, f3, -⟩ := r_findCivil (m := m) (ρ := ρ) (c := (ai R 55 i).toInt64) t3 hTok (by rw [up64]; omega) (by rw [up64]; omega)
  rw [lst_congr t4, up64, show lst (nL R) (ai R1 7) (ai R1 8) = tru R (nL R) from hTr] at f3
  have hdy : fi Rb 92 = dyB R i := ofInt_un f3
  obtain ⟨Rc, l1, l2, l3⟩ := r_let (m := m) (ρ := ρ) (R := Rb)
  have FA : Fr SB R1 Rc := (t2.mono (by decide)).trans ((f2.mono (by decide)).trans (l2.mono (by decide)))
  have FR : Fr SCR R Rc := hF.trans (FA.mono (by decide))
  have h6c : fi Rc 6 = Int32.ofNat (nL R) := (l2.i 6 (by decide)).trans ((f2.i 6 (by decide)).trans t3)
  have a51 : ai Rc 51 = ai R 51 := FR.ai 51 (by decide)
  have a50 : ai Rc 50 = ai R 50 := FR.ai 50 (by decide)
  have a52 : ai Rc 52 = ai R 52 := FR.ai 52 (by decide)
  have a53 : ai Rc 53 = ai R 53 := FR.ai 53 (by decide)
  have a54 : ai Rc 54 = ai R 54 := FR.ai 54 (by decide)
  have a13 : ai Rc 13 = ai R 13 := FR.ai 13 (by decide)
  have hi60 : ix (Int32.ofNat i) 60 = true := by rw [ix_n (by omega)]; exact decide_eq_true (by omega)
  have hci : (Int32.ofNat i).toNatClampNeg = i := c32 (by omega)
  have hx51 : ix (ai R 51 i) 8 = true := by rw [(of_cl n1).1, ix_n (of_cl n1).2]; refine decide_eq_true ?_; have : (ai R 51 i).toNatClampNeg = (ai R 51 i).toInt.toNat := rfl; omega
  have hx52 : ix (ai R 52 i) 12 = true := by rw [(of_cl n3).1, ix_n (of_cl n3).2]; refine decide_eq_true ?_; have : (ai R 52 i).toNatClampNeg = (ai R 52 i).toInt.toNat := rfl; omega
  let Rd : Gs := bA (bA (bA (bA Rc 0 (ai R 51 i).toInt64) 1 (ai R 50 (ai R 51 i).toNatClampNeg).toInt64) 2 (ai R 53 i - dyB R i).toInt64) 3 (ai R 54 i).toInt64
  have FD : Fr [42] Rc Rd := (bA_fr _ _ _).trans ((bA_fr _ _ _).trans ((bA_fr _ _ _).trans (bA_fr _ _ _)))
  have h0 : fX12_isBelieved_0 (eR m ρ R1) m (Int32.ofNat i) = fX12_isBelieved_85 (eR m ρ Rd) m (Int32.ofNat i) (dyB R i) 0 := by
    unfold fX12_isBelieved_0
    rw [RisC, Option.bind_some, t1, Option.bind_some, RN_55, Option.bind_some, Rld_55, if_pos hi60, Option.bind_some, RisC, Option.bind_some, e55, hci, f1, Option.bind_some, RG_92, Option.bind_some, hdy, RisC, Option.bind_some, l1, Option.bind_some]
    rw [RN_42, Option.bind_some, RN_51, Option.bind_some, Rld_51, if_pos hi60, Option.bind_some, hci, a51, show (0 : Int32) = Int32.ofNat 0 from rfl, r_st42 0 (by decide), Option.bind_some]
    rw [RN_42, Option.bind_some, RN_50, Option.bind_some, RN_51, Option.bind_some, Rld_51, if_pos hi60, Option.bind_some, hci, show ai (bA Rc 0 (ai R 51 i).toInt64) 51 = ai R 51 from a51, Rld_50, if_pos hx51, Option.bind_some, show ai (bA Rc 0 (ai R 51 i).toInt64) 50 = ai R 50 from a50, show (1 : Int32) = Int32.ofNat 1 from rfl, r_st42 1 (by decide), Option.bind_some]
    rw [RN_42, Option.bind_some, RN_53, Option.bind_some, Rld_53, if_pos hi60, Option.bind_some, hci, show (2 : Int32) = Int32.ofNat 2 from rfl, r_st42 2 (by decide), Option.bind_some]
    rw [RN_42, Option.bind_some, RN_54, Option.bind_some, Rld_54, if_pos hi60, Option.bind_some, hci, show (3 : Int32) = Int32.ofNat 3 from rfl, r_st42 3 (by decide), Option.bind_some]
    rw [show ai (bA (bA Rc 0 (ai R 51 i).toInt64) 1 (ai R 50 (ai R 51 i).toNatClampNeg).toInt64) 53 = ai R 53 from a53, show ai (bA (bA (bA Rc 0 (ai R 51 i).toInt64) 1 (ai R 50 (ai R 51 i).toNatClampNeg).toInt64) 2 (ai R 53 i - dyB R i).toInt64) 54 = ai R 54 from a54]
  rw [h0]
  have FRd : Fr SCR R Rd := FR.trans (FD.mono (by decide))
  have d4 : ∀ k, k < 11 → al Rd 42 k = if k = 3 then (ai R 54 i).toInt64 else if k = 2 then (ai R 53 i - dyB R i).toInt64 else if k = 1 then (ai R 50 (ai R 51 i).toNatClampNeg).toInt64 else if k = 0 then (ai R 51 i).toInt64 else 0 := by
    intro k hk
    show al (bA (bA (bA (bA Rc 0 _) 1 _) 2 _) 3 _) 42 k = _
    rw [bA_al, bA_al, bA_al, bA_al, l3 k hk]
  unfold fX12_isBelieved_85
  refine lp_q i (fun j z => ∃ Rj, z = (eR m ρ Rj, m, Int32.ofNat i, dyB R i, Int32.ofNat j) ∧ Fr [42] Rd Rj ∧ ∀ k, k < 11 → al Rj 42 k = if k = 4 then Int64.ofNat (cnB (ai R 52) (ai R 53) (ai R 54) i true j) else if k = 5 then Int64.ofNat (cnB (ai R 52) (ai R 53) (ai R 54) i false j) else al Rd 42 k) (fun X => ∃ (R2 : Gs) (b : Prop) (_ : Decidable b), X = some (b2i b, eR m ρ R2) ∧ Fr SB R1 R2 ∧ H6 R2 ∧ (b ↔ bP R i)) ?_ ?_ fu 0 _ (by omega) ⟨Rd, rfl, Fr.refl _ _, fun k hk => ?_⟩ (by unfold fu; omega)
  · rintro L j _ hj ⟨Rj, rfl, g1, g2⟩
    left
    have F2 : Fr SCR R Rj := FRd.trans (g1.mono (by decide))
    have hj60 : ix (Int32.ofNat j) 60 = true := by rw [ix_n (by omega)]; exact decide_eq_true (by omega)
    have hcj : (Int32.ofNat j).toNatClampNeg = j := c32 (by omega)
    have hle : ¬ Int32.ofNat i ≤ Int32.ofNat j := fun q => absurd ((le_n (by omega) (by omega)).mp q) (by omega)
    have v4 := g2 4 (by decide)
    have v5 := g2 5 (by decide)
    rw [if_pos rfl] at v4
    rw [if_neg (by decide), if_pos rfl] at v5
    have c4 : (4 : Int32).toNatClampNeg = 4 := rfl
    have c5 : (5 : Int32).toNatClampNeg = 5 := rfl
    have st : ∀ Rj', Fr [42] Rd Rj' → (∀ k, k < 11 → al Rj' 42 k = if k = 4 then Int64.ofNat (cnB (ai R 52) (ai R 53) (ai R 54) i true (j + 1)) else if k = 5 then Int64.ofNat (cnB (ai R 52) (ai R 53) (ai R 54) i false (j + 1)) else al Rd 42 k) → ∃ s', (∃ Rj, s' = (eR m ρ Rj, m, Int32.ofNat i, dyB R i, Int32.ofNat (j + 1)) ∧ Fr [42] Rd Rj ∧ ∀ k, k < 11 → al Rj 42 k = if k = 4 then Int64.ofNat (cnB (ai R 52) (ai R 53) (ai R 54) i true (j + 1)) else if k = 5 then Int64.ofNat (cnB (ai R 52) (ai R 53) (ai R 54) i false (j + 1)) else al Rd 42 k) ∧ L (eR m ρ Rj', m, Int32.ofNat i, dyB R i, Int32.ofNat (j + 1)) = L s' := fun Rj' q1 q2 => ⟨_, ⟨Rj', rfl, q1, q2⟩, rfl⟩
    have eT : ∀ b : Bool, cnB (ai R 52) (ai R 53) (ai R 54) i b (j + 1) = cnB (ai R 52) (ai R 53) (ai R 54) i b j + if (ai R 52 j = ai R 52 i ∧ ai R 53 j = ai R 53 i) ∧ decide (ai R 54 j = ai R 54 i) = b then 1 else 0 := fun b => rfl
    simp only [fbX12_isBelieved_85, if_neg hle, RN_52, RN_53, RN_54, RN_42, Rld_52, Rld_53, Rld_54, Rld_42, hj60, hi60, hcj, hci, if_true, Option.bind_some, F2.ai 52 (by decide), F2.ai 53 (by decide), F2.ai 54 (by decide), suc32, show ix 4 11 = true from rfl, show ix 5 11 = true from rfl, c4, c5, v4, v5, i64s]
    rw [show (4 : Int32) = Int32.ofNat 4 from rfl, show (5 : Int32) = Int32.ofNat 5 from rfl, r_st42 4 (by decide), r_st42 5 (by decide), Option.bind_some, Option.bind_some]
    by_cases k1 : ai R 52 j = ai R 52 i
    · rw [if_pos k1]
      by_cases k2 : ai R 53 j = ai R 53 i
      · rw [if_pos k2]
        by_cases k3 : ai R 54 j = ai R 54 i
        · rw [if_pos k3]
          refine st _ (g1.trans (bA_fr _ _ _)) (fun k hk => ?_)
          have z1 : cnB (ai R 52) (ai R 53) (ai R 54) i true (j + 1) = cnB (ai R 52) (ai R 53) (ai R 54) i true j + 1 := by rw [eT, if_pos ⟨⟨k1, k2⟩, decide_eq_true k3⟩]
          have z2 : cnB (ai R 52) (ai R 53) (ai R 54) i false (j + 1) = cnB (ai R 52) (ai R 53) (ai R 54) i false j := by rw [eT, if_neg (fun q => absurd q.2 (by rw [decide_eq_true k3]; decide))]; rfl
          rw [bA_al, g2 k hk, z1, z2]
          by_cases q4 : k = 4
          · rw [if_pos q4, if_pos q4]
          · rw [if_neg q4, if_neg q4, if_neg q4]
        · rw [if_neg k3]
          refine st _ (g1.trans (bA_fr _ _ _)) (fun k hk => ?_)
          have z1 : cnB (ai R 52) (ai R 53) (ai R 54) i true (j + 1) = cnB (ai R 52) (ai R 53) (ai R 54) i true j := by rw [eT, if_neg (fun q => absurd q.2 (by rw [decide_eq_false k3]; decide))]; rfl
          have z2 : cnB (ai R 52) (ai R 53) (ai R 54) i false (j + 1) = cnB (ai R 52) (ai R 53) (ai R 54) i false j + 1 := by rw [eT, if_pos ⟨⟨k1, k2⟩, decide_eq_false k3⟩]
          rw [bA_al, g2 k hk, z1, z2]
          by_cases q5 : k = 5
          · rw [if_pos q5, if_neg (show ¬ k = 4 by omega), if_pos q5]
          · rw [if_neg q5, if_neg q5, if_neg q5]
      · rw [if_neg k2]
        refine st _ g1 (fun k hk => ?_)
        have z : ∀ b : Bool, cnB (ai R 52) (ai R 53) (ai R 54) i b (j + 1) = cnB (ai R 52) (ai R 53) (ai R 54) i b j := fun b => by rw [eT, if_neg (fun q => k2 q.1.2)]; rfl
        rw [g2 k hk, z, z]
    · rw [if_neg k1]
      refine st _ g1 (fun k hk => ?_)
      have z : ∀ b : Bool, cnB (ai R 52) (ai R 53) (ai R 54) i b (j + 1) = cnB (ai R 52) (ai R 53) (ai R 54) i b j := fun b => by rw [eT, if_neg (fun q => k1 q.1.1)]; rfl
      rw [g2 k hk, z, z]
  · rintro L _ ⟨Rj, rfl, g1, g2⟩
    have F2 : Fr SCR R Rj := FRd.trans (g1.mono (by decide))
    let Rz : Gs := bA (bA (bA (bA (bA Rj 6 (ai R 13 (ai R 52 i).toNatClampNeg).toInt64) 7 (ai R 52 i).toInt64) 8 (dyB R i).toInt64) 10 (dyB R i / 365).toInt64) 9 (mnB (dyB R i)).toInt64
    have FZ : Fr [42] Rj Rz := (bA_fr _ _ _).trans ((bA_fr _ _ _).trans ((bA_fr _ _ _).trans ((bA_fr _ _ _).trans (bA_fr _ _ _))))
    have FRz : Fr SCR R Rz := F2.trans (FZ.mono (by decide))
    have hWz := (hW.fr FRz).1
    have hv : ∀ k, k < 11 → al Rz 42 k = vrB R i k := by
      intro k hk
      show al (bA (bA (bA (bA (bA Rj 6 _) 7 _) 8 _) 10 _) 9 _) 42 k = _
      rw [bA_al, bA_al, bA_al, bA_al, bA_al, g2 k hk, d4 k hk]
      unfold vrB
      have : k = 0 ∨ k = 1 ∨ k = 2 ∨ k = 3 ∨ k = 4 ∨ k = 5 ∨ k = 6 ∨ k = 7 ∨ k = 8 ∨ k = 9 ∨ k = 10 := by omega
      rcases this with rfl | rfl | rfl | rfl | rfl | rfl | rfl | rfl | rfl | rfl | rfl <;> simp
    obtain ⟨R2, v, p1, p2, p3⟩ := r_told (m := m) (ρ := ρ) (R := Rz) hWz.2.2.2.2.2.2.1 (dyB R i)
    have hmin : ∀ s, fJ9_min_7cf53_0 s 11 ((dyB R i - dyB R i / 365 * 365) / 30) = some (mnB (dyB R i)) := by
      intro s
      unfold fJ9_min_7cf53_0 mnB
      split <;> rfl
    have h13 : ai Rj 13 = ai R 13 := F2.ai 13 (by decide)
    have h52 : ai Rj 52 = ai R 52 := F2.ai 52 (by decide)
    have FS : Fr SB R1 R2 := FA.trans ((FD.mono (by decide)).trans ((g1.mono (by decide)).trans ((FZ.mono (by decide)).trans (p2.mono (by decide)))))
    refine ⟨R2, bP R i, Classical.propDecidable _, ?_, FS, ⟨nL R, Nat.le_trans hL.2.1 (by decide), ?_⟩, Iff.rfl⟩
    · have hb : (¬ v = 0 ∧ fi R2 101 = 0) ↔ bP R i := by
        rw [p3]
        unfold bP
        rw [FRz.ai 33 (by decide), FRz.ai 34 (by decide), FRz.ai 35 (by decide), FRz.ai 36 (by decide), FRz.al 39 (by decide), show nT Rz = nT R from (hW.fr FRz).2.2.2.2.1]
        constructor
        · intro h _ t e q1 q2
          obtain ⟨D, rs, fs, u1, u2⟩ := h t e q1 q2
          refine ⟨D, rs, fs, u1, ?_⟩
          have he : e < D := by have := bpo_lt _ _ q2; rw [u1.1.1, c32 (by have := u1.1.2; omega)] at this; exact this
          rw [← (dvs_un u1 u1 hv).2 (e + 1) (by omega) e (by omega)]; exact u2
        · intro h t e q1 q2
          obtain ⟨D, rs, fs, u1, u2⟩ := h hi t e q1 q2
          refine ⟨D, rs, fs, u1, ?_⟩
          have he : e < D := by have := bpo_lt _ _ q2; rw [u1.1.1, c32 (by have := u1.1.2; omega)] at this; exact this
          rw [(dvs_un u1 u1 hv).2 (e + 1) (by omega) e (by omega)]; exact u2
      simp only [fbX12_isBelieved_85, Int32.le_refl, if_true]
      rw [RN_42, Option.bind_some, RN_13, Option.bind_some, RN_52, Option.bind_some, Rld_52, if_pos hi60, Option.bind_some, hci, h52, Rld_13, if_pos hx52, Option.bind_some, h13, show (6 : Int32) = Int32.ofNat 6 from rfl, r_st42 6 (by decide), Option.bind_some]
      rw [RN_42, Option.bind_some, RN_52, Option.bind_some, Rld_52, if_pos hi60, Option.bind_some, hci, show ai (bA Rj 6 (ai R 13 (ai R 52 i).toNatClampNeg).toInt64) 52 = ai R 52 from h52, show (7 : Int32) = Int32.ofNat 7 from rfl, r_st42 7 (by decide), Option.bind_some]
      rw [RN_42, Option.bind_some, show (8 : Int32) = Int32.ofNat 8 from rfl, r_st42 8 (by decide), Option.bind_some]
      rw [RN_42, Option.bind_some, show (10 : Int32) = Int32.ofNat 10 from rfl, r_st42 10 (by decide), Option.bind_some]
      rw [RN_42, Option.bind_some, hmin, Option.bind_some, show (9 : Int32) = Int32.ofNat 9 from rfl, r_st42 9 (by decide), Option.bind_some, RisC, Option.bind_some]
      rw [show fX12_told_0 (eR m ρ (bA (bA (bA (bA (bA Rj 6 (ai R 13 (ai R 52 i).toNatClampNeg).toInt64) 7 (ai R 52 i).toInt64) 8 (dyB R i).toInt64) 10 (dyB R i / 365).toInt64) 9 (mnB (dyB R i)).toInt64)) m 2328139461 (dyB R i) 1 = some (v, eR m ρ R2) from p1, Option.bind_some]
      simp only [RG_101, bb_0, bb_1, Option.bind_some]
      unfold b2i
      by_cases z1 : v = 0
      · rw [if_pos z1, if_neg (fun q => (hb.mpr q).1 z1)]
      · rw [if_neg z1]
        by_cases z2 : fi R2 101 = 0
        · rw [if_pos z2, if_pos (hb.mp ⟨z1, z2⟩)]
        · rw [if_neg z2, if_neg (fun q => z2 (hb.mpr q).2)]
    · rw [p2.i 6 (by decide), FZ.i 6 (by decide), g1.i 6 (by decide), FD.i 6 (by decide)]; exact h6c
  · by_cases q4 : k = 4
    · rw [if_pos q4, q4, d4 4 (by decide)]; simp [cnB]
    · rw [if_neg q4]
      by_cases q5 : k = 5
      · rw [if_pos q5, q5, d4 5 (by decide)]; simp [cnB]
      · rw [if_neg q5]
end
