section
variable {b : Nat} {σ0 : Hs} {m : Nat} {ρ : Hs} {tx : Nat → Int} {n K D : Nat} {nt : Nat → Nat} {G H R : Gs} {a mk rm : Nat}
theorem KV (h : KWd tx n a) : ¬ VRb tx n a := by
  obtain ⟨w, w1, w2⟩ := h
  rintro ⟨u, u1, u2, u3⟩
  have := vW_in false (show w < nW false by show w < 20; omega) (show u < nW false by show u < 20; omega) (w2.2.symm.trans u3.2)
  omega
theorem c_bad (hN : NF tx n K D nt) (h : Lv b tx n K D nt G H R a mk rm) (hc : ¬ CBS tx n a) {j : Nat} (d : Int32) {G2 : Gs} {R2 : Gs} {kd : Nat} (n1 : fX5_refuse_0 (st6 b σ0 G H) b 2 = some (st6 b σ0 G2 H)) (n3 : Dd b tx n K D nt G2 H R2 a kd rm) : fX6_readSum_0 (GR6 (j + 2)) (st6 b σ0 G H) (b + 6) d = some (st6 b σ0 G2 H) := by
  have h0 : fr H 0 = some b := h.2.1.1
  have q2 : ¬ kA false tx n a = 2 := fun q => hc (Or.inl q)
  have q3 : ¬ (kA false tx n a = 3 ∧ sA tx n a = (40 : Int32).toInt) := fun q => hc (Or.inr (Or.inl q))
  have q4 : ¬ Few tx n a := fun q => hc (Or.inr (Or.inr ⟨by rcases q with q | q <;> exact q.1, Or.inl q⟩))
  have ha : fX6_readAtom_0 (GR6 j) (st6 b σ0 G H) (b + 6) d = some (st6 b σ0 G2 H) := by
    unfold fX6_readAtom_0
    simp only [c_g0 h0, z5_C st_A5, z6_C st_A6, x5_isNumber st_A5 h.1, x5_isSign st_A5 h.1, c_isFew h.1 h0, x5_isAnyWord st_A5 h.1, Option.bind_some, b2i_0, if_pos q2, if_pos q3, if_pos (cb_f q4), n1]
    by_cases c5 : kA false tx n a = 1
    · rw [if_neg (fun q => q c5)]
      have hkw : KWd tx n a := Classical.byContradiction (fun q => hc (Or.inr (Or.inr ⟨c5, Or.inr q⟩)))
      unfold fX6_readWordAtom_0
      obtain ⟨t, t1, t2⟩ := c_place (σ0 := σ0) h.1 h.2.1 hN c5
      have ht : t = -1 := by
        rcases t2 with ⟨q, _⟩ | ⟨e, e1, e2, e3, _⟩
        · exact q
        · exfalso
          obtain ⟨⟨f1, f2, f3⟩, f4⟩ := hN e e1
          obtain ⟨w, w1, w2⟩ := hkw
          exact f4 ⟨w, w1, f2, e3.trans w2.2⟩
      simp only [z6_C st_A6, t1, c_isVar h.1 h0, c_isKey h.1 h0, c_g0 h0, z5_C st_A5, Option.bind_some, if_pos (cb_f (KV hkw)), ht, if_true, if_neg (cbn hkw), n1]
    · rw [if_pos c5]
  unfold fX6_readSum_0
  rw [z6_C st_A6, Option.bind_some, show (GR6 (j + 2)).2.2.2.2.1 (st6 b σ0 G H) (b + 6) d = fX6_readItem_0 (GR6 (j + 1)) (st6 b σ0 G H) (b + 6) d from rfl]
  unfold fX6_readItem_0
  rw [z6_C st_A6, Option.bind_some, show (GR6 (j + 1)).2.2.2.2.2.1 (st6 b σ0 G H) (b + 6) d = fX6_readAtom_0 (GR6 j) (st6 b σ0 G H) (b + 6) d from rfl, ha, Option.bind_some, cd_item7 n3.1 h0, Option.bind_some, cd_sum7 n3.1 h0]
theorem Lv.fr38 (h : Lv b tx n K D nt G H R a mk rm) {R' : Gs} (hF : Fr [38] R R') : Lv b tx n K D nt G H R' a mk rm := by
  obtain ⟨h1, h2, ⟨h3, h4, h5, h6⟩, h7, h8⟩ := h
  exact ⟨h1, h2, ⟨hF.RB (by decide) h3, (hF.i 32 (by decide)).trans h4, (hF.i 31 (by decide)).trans h5, fun d hd => by rw [hF.al 40 (by decide)]; exact h6 d hd⟩, h7, h8⟩
theorem Lv.mark (h : Lv b tx n K D nt G H R a mk rm) (hr : rm + 1 ≤ a) (w u : Nat) : fX12_mark_0 (eR m ρ R) m (Int32.ofNat w) (Int32.ofNat u) = some (eR m ρ (mkR R rm w u)) ∧ Lv b tx n K D nt G H (mkR R rm w u) a mk (rm + 1) := by
  have hKK := h.K500
  obtain ⟨h1, h2, ⟨h3, h4, h5, h6⟩, h7, h8⟩ := h
  have hF := mkR_fr R rm w u
  exact ⟨rb_mark h4 (by omega), h1, h2, ⟨hF.RB (by decide) h3, rfl, (hF.i 31 (by decide)).trans h5, fun d hd => by rw [hF.al 40 (by decide)]; exact h6 d hd⟩, h7, hr⟩
theorem Pstep (hN : NF tx n K D nt) {d : Nat} (hd : d ≤ 8) (hP : PPart b σ0 m ρ tx n K D nt (d + 1)) : PPart b σ0 m ρ tx n K D nt d := by
  intro j i hj hi G H R a mk rm h
  obtain ⟨j', rfl⟩ : ∃ j', j = j' + 3 := ⟨j - 3, by omega⟩
  obtain ⟨i', rfl⟩ : ∃ i', i = i' + 3 := ⟨i - 3, by omega⟩
  have hKK := h.K500
  have h0 : fr H 0 = some b := h.2.1.1
  have hB := h.2.2.1.1
  have q7 := h.2.2.2.1
  have q8 := h.2.2.2.2
  have e8 : Int32.ofNat d ≤ 8 := by rw [show (8 : Int32) = Int32.ofNat 8 from rfl, le_n (by omega) (by decide)]; exact hd
  have ob : ∀ X : Option Hs, (X.bind fun s => some s) = X := fun X => by cases X <;> rfl
  have eS : ∀ s c x, (GR6 (j' + 3)).2.2.2.1 s c x = fX6_readSum_0 (GR6 (j' + 2)) s c x := fun s c x => rfl
  have eS' : ∀ s c x, (GR12a (i' + 3)).2.2.2.1 s c x = fX12_readSum_0 (GR12a (i' + 2)) s c x := fun s c x => rfl
  have eT : ∀ s c x, (GR6 (j' + 3)).2.1 s c x = fX6_readTest_0 (GR6 (j' + 2)) s c x := fun s c x => rfl
  have eT' : ∀ s c x, (GR12a (i' + 3)).2.1 s c x = fX12_readTest_0 (GR12a (i' + 2)) s c x := fun s c x => rfl
  have eP : ∀ s c x y, (GR6 (j' + 3)).1 s c x y = fX6_readPart_0 (GR6 (j' + 2)) s c x y := fun s c x y => rfl
  have eP' : ∀ s c x, (GR12a (i' + 3)).1 s c x = fX12_readWhole_0 (GR12a (i' + 2)) s c x := fun s c x => rfl
  have sum0 : ∀ G H R a mk rm, Lv b tx n K D nt G H R a mk rm → Rs b σ0 m ρ tx n K D nt H R a mk rm (39 - 4 * d) (fun _ => True) (fX6_readSum_0 (GR6 (j' + 2)) (st6 b σ0 G H) (b + 6) (Int32.ofNat d)) (fX12_readSum_0 (GR12a (i' + 2)) (eR m ρ R) m (Int32.ofNat d)) := fun G H R a mk rm h => l_sm hN hd hP (by omega) (by omega) h
  have sum1 : ∀ G H R a mk rm, Lv b tx n K D nt G H R a mk rm → Rs b σ0 m ρ tx n K D nt H R a mk rm (39 - 4 * d) (fun _ => True) (fX6_readSum_0 (GR6 j') (st6 b σ0 G H) (b + 6) (Int32.ofNat d)) (fX12_readSum_0 (GR12a i') (eR m ρ R) m (Int32.ofNat d)) := fun G H R a mk rm h => l_sm hN hd hP (by omega) (by omega) h
  have test0 : ∀ {G H R : Gs} {a mk rm : Nat}, Lv b tx n K D nt G H R a mk rm → Rs b σ0 m ρ tx n K D nt H R a mk rm (41 - 4 * d) IsT (fX6_readTest_0 (GR6 (j' + 2)) (st6 b σ0 G H) (b + 6) (Int32.ofNat d)) (fX12_readTest_0 (GR12a (i' + 2)) (eR m ρ R) m (Int32.ofNat d)) := fun h => l_te hd (fun G H R a mk rm h => l_on hd sum1 h) h
  obtain ⟨G2, R2, kd2, n1, n2, n3, n4⟩ := l_ref2 (σ0 := σ0) (m := m) (ρ := ρ) h
  have hkd2 := n3.h0.2
  constructor
  · unfold fX6_readPart_0 fX12_readWhole_0
    have hw0 : fX5_isWord_0 (st6 b σ0 G H) b 0 = some (b2i (kA false tx n a = 1 ∧ vA tx n a = vW false 0)) := x5_isWord st_A5 h.1 (w := 0) (by decide)
    rw [if_neg (show ¬ (1 : Int32) = 0 by decide)]
    simp only [c_g0 h0, z5_C st_A5, hw0, RisC, rb_cb hB, Option.bind_some, b2i_0, if_pos e8]
    by_cases c : kA false tx n a = 1 ∧ vA tx n a = vW false 0
    rotate_left
    · -- a sum, or nothing that can stand here
      rw [if_pos c]
      unfold fX6_readPart_20
      rw [if_pos e8, if_pos rfl, z6_C st_A6, Option.bind_some, ob, eS]
      by_cases e : CBS tx n a
      · rw [if_neg (cbn (Or.inr e : isW false tx n a 0 ∨ CBS tx n a))]
        unfold fX12_readWhole_26
        simp only [RG_21, hB.2.2, Option.bind_some, Int32.le_refl, if_true, RisC, rb_if hB, b2i_0, if_pos c, eS', ob]
        rcases sum0 G H R a mk rm h with ⟨G', H', R', a', mk', rm', f, x1, y1, l1, g, ⟨u1, u2, u3⟩, o1, o2, m1, r1, t1⟩ | hdd
        · exact Or.inl ⟨G', H', R', a', mk', rm', f, x1, y1, l1, g, ⟨u1, u2, u3⟩, o1, o2, XM_mono m1 (by omega), RM_mono r1 (by omega), t1⟩
        · exact Or.inr hdd
      · rw [if_pos (cb_f (fun q : isW false tx n a 0 ∨ CBS tx n a => q.elim c e)), n2, Option.bind_some]
        have : fX12_readWhole_26 (GR12a (i' + 3)) (eR m ρ R2) m (Int32.ofNat d) = some (eR m ρ R2) := by
          unfold fX12_readWhole_26
          rw [RG_21, n3.2.2.1, Option.bind_some, if_neg (bdn hkd2).1]
        rw [this, c_bad hN h e (Int32.ofNat d) n1 n3]
        exact Rs.dead rfl rfl n3 (Fr.refl _ _) n4 (Nat.le_refl a) (Nat.le_refl _)
    rw [if_neg (fun q => q c), if_neg (cbn (Or.inl c : isW false tx n a 0 ∨ CBS tx n a))]
    obtain ⟨G1, R1, a1, a2, a3, a4, a5⟩ := l_adv (σ0 := σ0) (m := m) (ρ := ρ) h (by rw [c.1]; decide)
    unfold fX6_readPart_20 fX12_readWhole_26
    simp only [if_pos e8, if_neg (show ¬ (1 : Int32) = 0 by decide), c_g0 h0, z5_C st_A5, z6_C st_A6, a1, a2, RG_21, hB.2.2, Int32.le_refl, if_true, RisC, rb_if hB, b2i_0, if_neg (show ¬ ¬ (kA false tx n a = 1 ∧ vA tx n a = vW false 0) from fun q => q c), Option.bind_some, eT, eT', suc32, eP]
    have tail : ∀ {G' H' R' : Gs} {a' kd rm' : Nat}, Dd b tx n K D nt G' H' R' a' kd rm' → ∃ H2, (fX6_emit_0 (st6 b σ0 G' H') (b + 6) 4 0) = some (st6 b σ0 G' H2) ∧ Dd b tx n K D nt G' H2 R' a' kd rm' ∧ Fr [2, 3, 4] H' H2 := fun hD => hD.em (σ0 := σ0) hKK.1 4 0
    have e74 : ∀ {R' : Gs} {kd : Nat}, fi R' 21 = Int32.ofNat kd → (0 < kd ∧ kd < 7) → fX12_readWhole_74 (GR12a (i' + 3)) (eR m ρ R') m (Int32.ofNat d) = some (eR m ρ R') := by
      intro R' kd s1 s2; unfold fX12_readWhole_74; rw [RG_21, s1, Option.bind_some, if_neg (bdn s2).1]
    have e123 : ∀ {R' : Gs} {kd : Nat} (v : Int32), fi R' 21 = Int32.ofNat kd → (0 < kd ∧ kd < 7) → fX12_readWhole_123 (GR12a (i' + 3)) (eR m ρ R') m (Int32.ofNat d) v = some (eR m ρ R') := by
      intro R' kd v s1 s2; unfold fX12_readWhole_123; rw [RG_21, s1, Option.bind_some, if_neg (bdn s2).1]
    obtain ⟨jj, hjj⟩ : ∃ jj, j' + 2 = jj + 3 := ⟨j' - 1, by omega⟩
    rcases test0 a3 with ⟨G3, H3, R3, a3', mk3, rm3, f0, x1, y1, l1, ⟨fr1, fr2⟩, ⟨u1, u2, u3⟩, o1, o2, m1, r1, t1⟩ | ⟨G3, H3, R3, a3', kd, rm3, x1, y1, dd, ⟨fr1, fr2⟩, u1, u3⟩
    rotate_left
    · obtain ⟨d0, d1⟩ := dd.h0
      obtain ⟨H4, s1, s2, s3⟩ := tail dd
      rw [x1, y1, hjj]
      simp only [Option.bind_some, c_g0 d0, z5_C st_A5, z6_C st_A6, x5d_takeWord st_A5 dd.1, cd_part dd.1 d0, s1, RG_21, dd.2.2.1, if_neg (bdn d1).2, e74 dd.2.2.1 d1]
      exact Rs.dead rfl rfl s2 (fr1.trans s3) (a4.trans fr2) (by omega) (by omega)
    rw [x1, y1]
    have h03 : fr H3 0 = some b := l1.2.1.1
    simp only [Option.bind_some, c_g0 h03, z5_C st_A5, z6_C st_A6, RG_21, l1.2.2.1.1.2.2, if_true, RisC, rb_then l1.2.2.1.1, b2i_0]
    by_cases c1 : kA false tx n a3' = 1 ∧ vA tx n a3' = vW false 1
    rotate_left
    · obtain ⟨G4, R4, kd, s1, s2, s3, s4⟩ := l_twN (σ0 := σ0) (m := m) (ρ := ρ) l1 (w := 1) (by decide) c1
      obtain ⟨d0, d1⟩ := s3.h0
      obtain ⟨H4, z1, z2, z3⟩ := tail s3
      rw [if_pos c1, s2, hjj, show fX5_takeWord_0 (st6 b σ0 G3 H3) b 1 = _ from s1]
      simp only [Option.bind_some, c_g0 d0, z5_C st_A5, z6_C st_A6, x5d_takeWord st_A5 s3.1, cd_part s3.1 d0, z1, e74 s3.2.2.1 d1]
      exact Rs.dead rfl rfl z2 (fr1.trans z3) (a4.trans (fr2.trans s4)) (by omega) (by omega)
    rw [if_neg (fun q => q c1)]
    unfold fX12_readWhole_74
    obtain ⟨mk15, l2⟩ := l1.mark (m := m) (ρ := ρ) (by omega) 15 0
    obtain ⟨G4, R4, s1, s2, s3, s4, s5⟩ := l_twY (σ0 := σ0) (m := m) (ρ := ρ) l2 (w := 1) (by decide) c1
    rw [show fX5_takeWord_0 (st6 b σ0 G3 H3) b 1 = _ from s1]
    simp only [RG_21, RG_32, l1.2.2.1.1.2.2, l1.2.2.1.2.1, Option.bind_some, Int32.le_refl, if_true, RisC, z6_C st_A6]
    rw [show fX12_mark_0 (eR m ρ R3) m 15 0 = _ from mk15]
    simp only [Option.bind_some, RisC, s2, eP', suc32]
    obtain ⟨p1, -⟩ := hP (j' + 2) (i' + 2) (by omega) (by omega) G4 H3 R4 (a3' + 1) mk3 (rm3 + 1) s3
    rcases p1 with ⟨G5, H5, R5, a5', mk5, rm5, f1, x2, y2, l3, ⟨fr3, fr4⟩, ⟨v1, v2, v3⟩, o3, o4, m2, r2, -⟩ | ⟨G5, H5, R5, a5', kd, rm5, x2, y2, dd, ⟨fr3, fr4⟩, v1, v3⟩
    rotate_left
    · obtain ⟨d0, d1⟩ := dd.h0
      obtain ⟨H4, z1, z2, z3⟩ := tail dd
      rw [x2, y2, hjj]
      simp only [Option.bind_some, c_g0 d0, z5_C st_A5, z6_C st_A6, x5d_takeWord st_A5 dd.1, cd_part dd.1 d0, z1, RG_21, dd.2.2.1, if_neg (bdn d1).2, e123 _ dd.2.2.1 d1]
      exact Rs.dead rfl rfl z2 (fr1.trans (fr3.trans z3)) (a4.trans (fr2.trans (((mkR_fr _ _ _ _).mono (by decide)).trans (s4.trans fr4)))) (by omega) (by omega)
    rw [x2, y2]
    have h05 : fr H5 0 = some b := l3.2.1.1
    simp only [Option.bind_some, c_g0 h05, z5_C st_A5, z6_C st_A6, RG_21, l3.2.2.1.1.2.2, if_true, RisC, rb_else l3.2.2.1.1, b2i_0]
    by_cases c2 : kA false tx n a5' = 1 ∧ vA tx n a5' = vW false 2
    rotate_left
    · obtain ⟨G6, R6, kd, g1, g2, g3, g4⟩ := l_twN (σ0 := σ0) (m := m) (ρ := ρ) l3 (w := 2) (by decide) c2
      obtain ⟨d0, d1⟩ := g3.h0
      obtain ⟨H4, z1, z2, z3⟩ := tail g3
      rw [if_pos c2, g2, hjj, show fX5_takeWord_0 (st6 b σ0 G5 H5) b 2 = _ from g1]
      simp only [Option.bind_some, c_g0 d0, z5_C st_A5, z6_C st_A6, x5d_takeWord st_A5 g3.1, cd_part g3.1 d0, z1, e123 _ g3.2.2.1 d1]
      exact Rs.dead rfl rfl z2 (fr1.trans (fr3.trans z3)) (a4.trans (fr2.trans (((mkR_fr _ _ _ _).mono (by decide)).trans (s4.trans (fr4.trans g4))))) (by omega) (by omega)
    rw [if_neg (fun q => q c2)]
    unfold fX12_readWhole_123
    obtain ⟨mk16, l4⟩ := l3.mark (m := m) (ρ := ρ) (by omega) 16 0
    simp only [RG_21, RG_32, l3.2.2.1.1.2.2, l3.2.2.1.2.1, Option.bind_some, Int32.le_refl, if_true, RisC, z6_C st_A6]
    rw [show fX12_mark_0 (eR m ρ R5) m 16 0 = _ from mk16]
    have l3K := l3.1.2.1
    have k5 := r2.1.1
    have w15 : ai (mkR R5 rm5 16 0) 38 rm3 = Int32.ofNat (1048576 * 15 + 0) := by
      rw [mkR_old (by omega), o4 rm3 (by omega), congrFun s5 rm3]; exact mkR_new R3 rm3 15 0
    have n32' : fi (mkR R5 rm5 16 0) 32 = Int32.ofNat (rm5 + 1) := rfl
    have hr3 : rm3 < 1100 := by omega
    have hr5 : rm5 < 1100 := by omega
    generalize hR6 : sai (mkR R5 rm5 16 0) 38 (up (ai (mkR R5 rm5 16 0) 38) rm3 (Int32.ofNat (1048576 * 15 + 0) + Int32.ofNat (rm5 + 1))) = R6
    have f38 : Fr [38] (mkR R5 rm5 16 0) R6 := by rw [← hR6]; exact (Fr.refl _ _).sai (by decide) _
    have l5 := l4.fr38 f38
    obtain ⟨G7, R7, g1, g2, g3, g4, g5⟩ := l_twY (σ0 := σ0) (m := m) (ρ := ρ) l5 (w := 2) (by decide) c2
    rw [show fX5_takeWord_0 (st6 b σ0 G5 H5) b 2 = _ from g1]
    simp only [Option.bind_some, RN_38, Rld_38, Rst_38, RG_32, n32', w15, ix_n (show rm3 < 2147483648 by omega), decide_eq_true hr3, if_true, c32 (show rm3 < 2147483648 by omega), hR6, RisC, z6_C st_A6, g2, suc32, eP']
    obtain ⟨p2, -⟩ := hP (j' + 2) (i' + 2) (by omega) (by omega) G7 H5 R7 (a5' + 1) mk5 (rm5 + 1) g3
    rcases p2 with ⟨G8, H8, R8, a8', mk8, rm8, f2, x3, y3, l6, ⟨fr5, fr6⟩, ⟨w1, w2, w3⟩, o5, o6, m3, r3, -⟩ | ⟨G8, H8, R8, a8', kd, rm8, x3, y3, dd, ⟨fr5, fr6⟩, w1, w3⟩
    rotate_left
    · obtain ⟨d0, d1⟩ := dd.h0
      obtain ⟨H4, z1, z2, z3⟩ := tail dd
      rw [x3, y3]
      simp only [Option.bind_some, z6_C st_A6, z1, RN_38, Rld_38, Rst_38, RG_32, ix_n (show rm5 < 2147483648 by omega), decide_eq_true hr5, if_true, c32 (show rm5 < 2147483648 by omega)]
      generalize hR9 : sai R8 38 _ = R9
      have f39 : Fr [38] R8 R9 := by rw [← hR9]; exact (Fr.refl _ _).sai (by decide) _
      have dd2 : Dd b tx n K D nt G8 H4 R9 a8' kd rm8 := ⟨z2.1, z2.2.1, (f39.i 21 (by decide)).trans z2.2.2.1, (f39.i 22 (by decide)).trans z2.2.2.2.1, (f39.i 32 (by decide)).trans z2.2.2.2.2⟩
      exact Rs.dead rfl rfl dd2 (fr1.trans (fr3.trans (fr5.trans z3))) (a4.trans (fr2.trans (((mkR_fr _ _ _ _).mono (by decide)).trans (s4.trans (fr4.trans (((mkR_fr _ _ _ _).mono (by decide)).trans ((f38.mono (by decide)).trans (g4.trans (fr6.trans (f39.mono (by decide))))))))))) (by omega) (by omega)
    rw [x3, y3]
    have k1 := m1.1
    have k2 := m2.1
    have k3 := m3.1
    have k4 := r1.1.1
    have k6 := r3.1.1
    have l6K := l6.1.2.1
    obtain ⟨E1, E2, E3⟩ := c_emit (G := G8) (σ0 := σ0) l6.2.1 hKK.1 (by omega) 4 0
    have w16 : ai R8 38 rm5 = Int32.ofNat (1048576 * 16 + 0) := by
      rw [o6 rm5 (by omega), congrFun g5 rm5, ← hR6]
      show up _ rm3 _ rm5 = _
      unfold up; rw [if_neg (by omega)]; exact mkR_new R5 rm5 16 0
    simp only [Option.bind_some, z6_C st_A6, E1, RN_38, Rld_38, Rst_38, RG_32, ix_n (show rm5 < 2147483648 by omega), decide_eq_true hr5, if_true, c32 (show rm5 < 2147483648 by omega), w16, l6.2.2.1.2.1, add_n]
    generalize hR9 : sai R8 38 (up (ai R8 38) rm5 (Int32.ofNat (1048576 * 16 + 0 + rm8))) = R9
    have f39 : Fr [38] R8 R9 := by rw [← hR9]; exact (Fr.refl _ _).sai (by decide) _
    have l7 : Lv b tx n K D nt G8 (emH H8 mk8 4 0) R9 a8' (mk8 + 1) rm8 := by
      obtain ⟨b1, b2, b3, b4, b5⟩ := l6.fr38 f39
      exact ⟨b1, E2, b3, by omega, b5⟩
    have hm9 : ∀ q, q ≠ rm5 → ai R9 38 q = ai R8 38 q := fun q hq => by rw [← hR9]; show up _ rm5 _ q = _; unfold up; rw [if_neg hq]
    have hm6 : ∀ q, q ≠ rm3 → ai R6 38 q = ai (mkR R5 rm5 16 0) 38 q := fun q hq => by rw [← hR6]; show up _ rm3 _ q = _; unfold up; rw [if_neg hq]
    have old5 : ∀ q, q < rm5 → q ≠ rm3 → ai R9 38 q = ai R5 38 q := fun q h1 h2 => by
      rw [hm9 q (by omega), o6 q (by omega), congrFun g5 q, hm6 q h2, mkR_old (by omega)]
    have old3 : ∀ q, q < rm3 → ai R9 38 q = ai R3 38 q := fun q hq => by
      rw [old5 q (by omega) (by omega), o4 q (by omega), congrFun s5 q, mkR_old (by omega)]
    have hu15 : mW R9 rm3 = 15 ∧ mV R9 rm3 = rm5 + 1 := mk_w (by decide) (by omega) (by
      rw [hm9 rm3 (by omega), o6 rm3 (by omega), congrFun g5 rm3, ← hR6]
      show up _ rm3 _ rm3 = _
      rw [up_same, add_n])
    have hu16 : mW R9 rm5 = 16 ∧ mV R9 rm5 = rm8 := mk_w (by decide) (by omega) (by
      rw [← hR9]; show up _ rm5 _ rm5 = _; rw [up_same])
    refine Or.inl ⟨G8, emH H8 mk8 4 0, R9, a8', mk8 + 1, rm8, fun e => sif (f0 e) (f1 e) (f2 e), rfl, rfl, l7, ⟨fr1.trans (fr3.trans (fr5.trans E3)), a4.trans (fr2.trans (((mkR_fr _ _ _ _).mono (by decide)).trans (s4.trans (fr4.trans (((mkR_fr _ _ _ _).mono (by decide)).trans ((f38.mono (by decide)).trans (g4.trans (fr6.trans (f39.mono (by decide))))))))))⟩, ⟨by omega, by omega, by omega⟩, fun q hq => ?_, fun q hq => ?_, ?_, ?_, trivial⟩
    · have z1 := emH_old (H := H8) (mk := mk8) (op := 4) (v := 0) (show q ≠ mk8 by omega)
      have z2 := o5 q (by omega)
      have z3 := o3 q (by omega)
      have z4 := o1 q (by omega)
      exact ⟨z1.1.trans (z2.1.trans (z3.1.trans z4.1)), z1.2.trans (z2.2.trans (z3.2.trans z4.2))⟩
    · rw [old3 q (by omega), o2 q (by omega), congrFun a5 q]
    · have y8 : ∀ q, q < mk8 → ai (emH H8 mk8 4 0) 2 q = ai H8 2 q ∧ ai (emH H8 mk8 4 0) 3 q = ai H8 3 q := fun q hq => emH_old (by omega)
      have y5 : ∀ q, q < mk5 → ai (emH H8 mk8 4 0) 2 q = ai H5 2 q ∧ ai (emH H8 mk8 4 0) 3 q = ai H5 3 q := fun q hq => by
        have z1 := y8 q (by omega)
        have z2 := o5 q (by omega)
        exact ⟨z1.1.trans z2.1, z1.2.trans z2.2⟩
      have y3 : ∀ q, q < mk3 → ai (emH H8 mk8 4 0) 2 q = ai H3 2 q ∧ ai (emH H8 mk8 4 0) 3 q = ai H3 3 q := fun q hq => by
        have z1 := y5 q (by omega)
        have z2 := o3 q (by omega)
        exact ⟨z1.1.trans z2.1, z1.2.trans z2.2⟩
      exact XM_if (XM_old m1 y3) (XM_old m2 y5) (XM_old m3 y8) t1 (by omega) (by omega) (by omega) (emH_new H8 mk8 4 0).1
    · refine RM_if (RM_old r1 old3) (RM_cg r2 (fun q h1 h2 => mWV_cg (old5 q h2 (by omega)))) (RM_cg r3 (fun q h1 h2 => mWV_cg (hm9 q (by omega)))) t1 (by omega) (by omega) (by omega) hu15 hu16
  · unfold fX6_readPart_0 fX12_readDeeper_0
    rw [if_pos rfl]
    unfold fX6_readPart_20
    rw [if_pos e8, if_pos rfl, z6_C st_A6, Option.bind_some, ob, eS]
    simp only [RisC, rb_cbs hB, Option.bind_some]
    by_cases e : CBS tx n a
    · rw [if_neg (cbn e)]
      unfold fX12_readDeeper_11
      simp only [if_pos e8, RG_21, hB.2.2, Option.bind_some, if_true, RisC, eS', ob]
      exact sum0 G H R a mk rm h
    · rw [if_pos (cb_f e), n2, Option.bind_some]
      have : fX12_readDeeper_11 (GR12a (i' + 3)) (eR m ρ R2) m (Int32.ofNat d) = some (eR m ρ R2) := by
        unfold fX12_readDeeper_11
        rw [if_pos e8, RG_21, n3.2.2.1, Option.bind_some, if_neg (bdn hkd2).2]
      rw [this, c_bad hN h e (Int32.ofNat d) n1 n3]
      exact Rs.dead rfl rfl n3 (Fr.refl _ _) n4 (Nat.le_refl a) (Nat.le_refl _)
theorem P_all (hN : NF tx n K D nt) : ∀ k, k ≤ 8 → PPart b σ0 m ρ tx n K D nt (9 - k) := by
  intro k; induction k with
  | zero => intro _; exact P9
  | succ k ih =>
    intro hk
    have := ih (by omega)
    rw [show 9 - k = (9 - (k + 1)) + 1 by omega] at this
    exact Pstep hN (by omega) this
theorem P1 (hN : NF tx n K D nt) : PPart b σ0 m ρ tx n K D nt 1 := P_all hN 8 (by decide)
end
