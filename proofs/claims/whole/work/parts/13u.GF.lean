section
variable {b : Nat} {σ0 : Hs} {m : Nat} {ρ : Hs} {tx : Nat → Int} {n K D : Nat} {nt : Nat → Nat} {G H R : Gs} {a mk rm : Nat}
theorem l_atom (hN : NF tx n K D nt) {d : Nat} (hd : d ≤ 8) (hP : PPart b σ0 m ρ tx n K D nt (d + 1)) {j i : Nat} (hj : 10 * (9 - d) + 1 ≤ j) (hi : 10 * (9 - d) + 1 ≤ i) (h : Lv b tx n K D nt G H R a mk rm) : Rs b σ0 m ρ tx n K D nt H R a mk rm (37 - 4 * d) (fun _ => True) (fX6_readAtom_0 (GR6 j) (st6 b σ0 G H) (b + 6) (Int32.ofNat d)) (fX12_readAtom_0 (GR12a i) (eR m ρ R) m (Int32.ofNat d)) := by
  obtain ⟨j', rfl⟩ : ∃ j', j = j' + 1 := ⟨j - 1, by omega⟩
  obtain ⟨i', rfl⟩ : ∃ i', i = i' + 1 := ⟨i - 1, by omega⟩
  have hKK := h.K500
  have h0 : fr H 0 = some b := h.2.1.1
  have hB := h.2.2.1.1
  have hk1 := hB.2.1.1
  have ek : tK false tx n (tS tx n a) = kA false tx n a := rfl
  have eP : ∀ s c x y, (GR6 (j' + 1)).1 s c x y = fX6_readPart_0 (GR6 j') s c x y := fun s c x y => rfl
  have eF : ∀ s c x, (GR6 (j' + 1)).2.2.2.2.2.2 s c x = fX6_readFew_0 (GR6 j') s c x := fun s c x => rfl
  have eW : ∀ s c x, (GR12a (i' + 1)).1 s c x = fX12_readWhole_0 (GR12a i') s c x := fun s c x => rfl
  have eG : ∀ s c x y, (GR12a (i' + 1)).2.2.2.2.2.2.1 s c x y = fX12_readFew_0 (GR12a i') s c x y := fun s c x y => rfl
  have e2 : (Int32.ofNat (tK false tx n (tS tx n a)) = 2) = (kA false tx n a = 2) := kq (tK_b false tx n (tS tx n a)) (show 2 ≤ 4 by decide)
  have e1 : (Int32.ofNat (tK false tx n (tS tx n a)) = 1) = (kA false tx n a = 1) := kq (tK_b false tx n (tS tx n a)) (show 1 ≤ 4 by decide)
  unfold fX6_readAtom_0 fX12_readAtom_0
  simp only [c_g0 h0, z5_C st_A5, z6_C st_A6, x5_isNumber st_A5 h.1, x5_isSign st_A5 h.1, c_isFew h.1 h0, x5_isAnyWord st_A5 h.1, x5_code st_A5 h.1.1 h.1.2.1 h.1.2.2.1, RG_21, RG_24, RG_27, RG_25, hB.2.2, hk1, RisC, rb_sign hB, rb_least hB, rb_most hB, rb_kept hB, Option.bind_some, Int32.le_refl, if_true, b2i_0, e2, e1, suc32, eP, eF, eW, eG]
  by_cases c1 : kA false tx n a = 2
  · rw [if_neg (fun q => q c1), if_pos c1]
    have hv := (h.1.1.2.2.2.2.2 a h.1.2.1).2.2.2.1 c1
    have hu := hB.2.1.2.2.2.2.1 c1
    have hveq : ai G 4 a = fi R 27 := eq32.mpr (hv.trans hu.symm)
    have hlt : tS tx n a < n := h.1.1.2.2.2.1 a (kA_lt h.1.1 h.1.2.1 (by rw [c1]; decide))
    have hdd : ¬ isLt (tx (tS tx n a)) ∧ isDg (tx (tS tx n a)) ∧ tE tx n (tS tx n a) - tS tx n a ≤ 6 := by
      unfold kA tK at c1
      rw [if_neg (by omega)] at c1
      by_cases x1 : isLt (tx (tS tx n a))
      · rw [if_pos x1] at c1; exact absurd c1 (by decide)
      · rw [if_neg x1] at c1
        by_cases x2 : isDg (tx (tS tx n a))
        · rw [if_pos x2] at c1
          by_cases x3 : tE tx n (tS tx n a) - tS tx n a ≤ 6
          · exact ⟨x1, x2, x3⟩
          · rw [if_neg x3] at c1; exact absurd c1 (by decide)
        · rw [if_neg x2] at c1; split at c1 <;> exact absurd c1 (by decide)
    have hnb := nuv_b (tx := tx) (p := tS tx n a) (tE tx n (tS tx n a) - tS tx n a) (fun q hq => (tE_D hlt hdd.1 hdd.2.1).2 q (by omega))
    have h10 : (10 : Int) ^ (tE tx n (tS tx n a) - tS tx n a) ≤ 10 ^ 6 := by
      have : 10 ^ (tE tx n (tS tx n a) - tS tx n a) ≤ 10 ^ 6 := Nat.pow_le_pow_right (by decide) hdd.2.2
      exact_mod_cast this
    have h10' : (10 : Int) ^ 6 = 1000000 := by decide
    obtain ⟨v, v1, v2, v3⟩ := get32 (fi R 27) (by omega)
    obtain ⟨G', H', R', q1, q2, q3, q4, q5, q6⟩ := l_one (σ0 := σ0) (m := m) (ρ := ρ) h (by rw [c1]; decide) (op := 0) (v := ai G 4 a) (w := 0) (u := v) (N := 37 - 4 * d) (by decide) (by omega) (by omega) (f := fun _ => some (ai G 4 a).toInt64) (fun H' w1 w2 => by have := XM_num (D := D) (ops := ai H' 2) (opd := ai H' 3) (m := mk) w1; rw [w2] at this; exact this) (fun R' w1 w2 => by have := RM_num (D := D) (mw := mW R') (mv := mV R') (m := rm) w1; rw [w2, ← v1, ← hveq] at this; exact this)
    rw [q1, Option.bind_some, c_g0 q2, Option.bind_some, z5_C st_A5, Option.bind_some, q3, Option.bind_some, v1, show fX12_mark_0 (eR m ρ R) m 0 (Int32.ofNat v) = _ from q4, Option.bind_some, RisC, Option.bind_some, q5, Option.bind_some]
    exact q6
  rw [if_pos c1, if_neg c1]
  by_cases c2 : kA false tx n a = 3 ∧ sA tx n a = (40 : Int32).toInt
  · rw [if_neg (fun q => q c2), if_neg (fun q => q c2)]
    obtain ⟨G1, R1, a1, a2, a3, a4, a5⟩ := l_adv (σ0 := σ0) (m := m) (ρ := ρ) h (by rw [c2.1]; decide)
    rw [a1, a2, Option.bind_some, Option.bind_some, z6_C st_A6, RisC, Option.bind_some, Option.bind_some]
    obtain ⟨p1, -⟩ := hP j' i' (by omega) (by omega) G1 H R1 (a + 1) mk rm a3
    rcases p1 with ⟨G3, H3, R3, a3', mk3, rm3, f1, x1, y1, l1, ⟨fr1, fr2⟩, ⟨u1, u2, u3⟩, o1, o2, m1, n1, -⟩ | ⟨G3, H3, R3, a3', kd, rm3, x1, y1, dd, ⟨fr1, fr2⟩, u1, u3⟩
    rotate_left
    · obtain ⟨d0, d1⟩ := dd.h0
      rw [x1, y1]
      simp only [Option.bind_some, c_g0 d0, z5_C st_A5, x5d_takeSign st_A5 dd.1, RG_21, dd.2.2.1, if_neg (bdn d1).2]
      exact Rs.dead rfl rfl dd fr1 (a4.trans fr2) (by omega) (by omega)
    rw [x1, y1]
    have hH3 : fr H3 0 = some b := l1.2.1.1
    simp only [Option.bind_some, c_g0 hH3, z5_C st_A5, RG_21, l1.2.2.1.1.2.2, if_true, RisC]
    by_cases s2 : Sgn tx n a3' (41 : Int32).toInt
    · obtain ⟨G4, R4, g1, g2, g3, g4, g5, g6⟩ := l_tsY (σ0 := σ0) (m := m) (ρ := ρ) l1 s2
      simp only [g1, g2, g3, Option.bind_some, if_neg (show ¬ (1 : Int32) = 0 by decide)]
      refine Or.inl ⟨G4, H3, R4, a3' + 1, mk3, rm3, f1, rfl, rfl, g4, ⟨fr1, a4.trans (fr2.trans g5)⟩, ⟨by omega, by omega, by omega⟩, o1, fun q hq => ?_, XM_mono m1 (by omega), RM_mono (RM_old n1 (fun q _ => congrFun g6 q)) (by omega), trivial⟩
      rw [congrFun g6 q, o2 q hq, congrFun a5 q]
    · obtain ⟨G4, R4, kd, g1, g2, g3, g4, g5⟩ := l_tsN (σ0 := σ0) (m := m) (ρ := ρ) l1 s2
      obtain ⟨d0, d1⟩ := g4.h0
      simp only [g1, g2, g3, Option.bind_some, if_true, RG_21, g4.2.2.1, if_neg (bdn d1).2]
      exact Rs.dead rfl rfl g4 fr1 (a4.trans (fr2.trans g5)) (by omega) (by omega)
  rw [if_pos c2, if_pos c2]
  have hw6 := x5_isWord (st_A5 (b := b) (σ0 := σ0) (G := G) (H := H)) h.1 (w := 6) (by decide)
  have hw6' : fX5_isWord_0 (st6 b σ0 G H) b 6 = some (b2i (kA false tx n a = 1 ∧ vA tx n a = vW false 6)) := hw6
  have few0 : fX6_readFew_0 (GR6 j') (st6 b σ0 G H) (b + 6) (Int32.ofNat d) = if ¬ (kA false tx n a = 1 ∧ vA tx n a = vW false 6) then fX6_readFew_19 (GR6 j') (st6 b σ0 G H) (b + 6) (Int32.ofNat d) 11 else fX6_readFew_19 (GR6 j') (st6 b σ0 G H) (b + 6) (Int32.ofNat d) 10 := by
    unfold fX6_readFew_0
    simp only [c_g0 h0, z5_C st_A5, hw6', Option.bind_some, b2i_0]
  have ob : ∀ X : Option Hs, (X.bind fun s => some s) = X := fun X => by cases X <;> rfl
  by_cases c3 : kA false tx n a = 1 ∧ vA tx n a = vW false 6
  · rw [if_neg (cbn (show Few tx n a from Or.inl c3)), if_neg (fun q => q c3), few0, if_neg (fun q => q c3), if_neg (fun q => q c3), ob, ob]
    exact l_few hd hP (by omega) (by omega) h c3.1 (w := 8) (Or.inl rfl)
  by_cases c4 : kA false tx n a = 1 ∧ vA tx n a = vW false 7
  · rw [if_neg (cbn (show Few tx n a from Or.inr c4)), if_pos c3, if_neg (fun q => q c4), few0, if_pos c3, if_pos c3, ob, ob]
    exact l_few hd hP (by omega) (by omega) h c4.1 (w := 9) (Or.inr rfl)
  rw [if_pos (cb_f (show ¬ Few tx n a from fun q => q.elim c3 c4)), if_pos c3, if_pos c4]
  obtain ⟨r, r1, r2⟩ := rb_var (m := m) (ρ := ρ) hB
  obtain ⟨s, s1, s2, s3⟩ := rb_named (m := m) (ρ := ρ) hB h.2.2.1.2.2.1 h.2.1.2.2.2.2.2.1 hN h.2.2.1.2.2.2
  rw [r1, s1, Option.bind_some, Option.bind_some]
  by_cases c5 : kA false tx n a = 1
  rotate_left
  · -- no word, no number, no sign that can stand here
    obtain ⟨G2, R2, kd, n1, n2, n3, n4⟩ := l_ref2 (σ0 := σ0) (m := m) (ρ := ρ) h
    have hr : r = -1 := by
      rcases r2 with ⟨q, _⟩ | ⟨w, _, q, _⟩
      · exact q
      · exact absurd q.1 c5
    rw [hr, s3 c5, if_pos c5, n1, if_neg (show ¬ (0 : Int32) ≤ -1 by decide), if_neg (show ¬ (0 : Int32) ≤ -1 by decide), if_neg c5, n2]
    exact Rs.dead rfl rfl n3 (Fr.refl _ _) n4 (Nat.le_refl a) (Nat.le_refl _)
  rw [if_neg (fun q => q c5), ob]
  unfold fX6_readWordAtom_0
  obtain ⟨t, t1, t2⟩ := c_place (σ0 := σ0) h.1 h.2.1 hN c5
  have hts : t = s := Nm_un t2 (s2 c5)
  subst hts
  simp only [z6_C st_A6, t1, c_isVar h.1 h0, c_isKey h.1 h0, c_g0 h0, z5_C st_A5, x5_code st_A5 h.1.1 h.1.2.1 h.1.2.2.1, Option.bind_some]
  have hk5 : kA false tx n a ≠ 0 ∧ kA false tx n a ≠ 4 := by rw [c5]; decide
  by_cases c6 : VRb tx n a
  · -- a variable
    rw [if_neg (cbn c6)]
    rcases r2 with ⟨_, q⟩ | ⟨w, ⟨w1, w2⟩, w3, w4⟩
    · exact absurd c6 q
    have hcd := (h.1.1.2.2.2.2.2 a h.1.2.1).2.2.1 c5
    have hcw : ai G 4 a = Int32.ofNat w := by rw [cdW_eq hcd (show w < nW false by show w < 20; omega)]; exact w3.2
    have ev : ai G 4 a - 8 = Int32.ofNat (w - 8) := by rw [hcw, show (8 : Int32) = Int32.ofNat 8 from rfl, sub_nn w1]
    obtain ⟨G', H', R', q1, q2, q3, q4, q5, q6⟩ := l_one (σ0 := σ0) (m := m) (ρ := ρ) h hk5 (op := 1) (v := Int32.ofNat (w - 8)) (w := 1) (u := w - 8) (N := 37 - 4 * d) (by decide) (by omega) (by omega) (f := fun e => some (e.1 (w - 8))) (fun H' z1 z2 => XM_var z1 z2 (by omega)) (fun R' z1 z2 => RM_var z1 z2 (by omega))
    rw [ev, q1, Option.bind_some, c_g0 q2, Option.bind_some, z5_C st_A5, Option.bind_some, q3, Option.bind_some]
    have hp : (0 : Int32) ≤ r := by rw [w4, le32, n32 (by omega), i0]; omega
    have hn0 : ¬ r < 0 := by rw [w4, lt32, n32 (by omega), i0]; omega
    rw [if_pos hp]
    unfold fX12_readAtom_164
    rw [if_neg hn0, if_neg hn0, RisC, Option.bind_some, w4, show fX12_mark_0 (eR m ρ R) m 1 (Int32.ofNat (w - 8)) = _ from q4, Option.bind_some, RisC, Option.bind_some, q5, Option.bind_some]
    exact q6
  · rw [if_pos (cb_f c6)]
    have hr : r = -1 := by
      rcases r2 with ⟨q, _⟩ | ⟨w, ⟨w1, w2⟩, w3, w4⟩
      · exact q
      · exact absurd ⟨w, w1, w2, w3⟩ c6
    rw [hr, if_neg (show ¬ (0 : Int32) ≤ -1 by decide)]
    rcases t2 with ⟨z1, z2⟩ | ⟨e, z1, z2, z3, z4⟩
    · -- no name either
      rw [z1, if_pos rfl, if_neg (show ¬ (0 : Int32) ≤ -1 by decide), if_pos c5]
      by_cases c7 : KWd tx n a
      · obtain ⟨G2, R2, kd, n1, n2, n3, n4⟩ := l_ref2 (σ0 := σ0) (m := m) (ρ := ρ) h
        rw [if_neg (cbn c7), if_neg (cbn c7), n1, n2]
        exact Rs.dead rfl rfl n3 (Fr.refl _ _) n4 (Nat.le_refl a) (Nat.le_refl _)
      · obtain ⟨G2, kd, n1, n2, n3, n4⟩ := l_ref (σ0 := σ0) h (f := 6) (by decide)
        rw [if_neg hk5.2] at n2
        subst n2
        have c2' := hB.2.1.2.1
        rw [if_pos (cb_f c7), if_pos (cb_f c7), show fX5_refuse_0 (st6 b σ0 G H) b 6 = _ from n1, rb_fail hB, c2']
        simp only [Option.bind_some, RisC]
        rw [show fX12_wrongToken_0 (eR m ρ (sfi (sfi R 21 6) 22 (Int32.ofNat (tS tx n a)))) m = some (eR m ρ (rfR R tx n a 6)) from rb_wrongD (kd := 6) rfl (by decide)]
        exact Rs.dead rfl rfl n4 (Fr.refl _ _) (rf_fr R 6) (Nat.le_refl a) (Nat.le_refl _)
    · -- a name
      have hD := h.2.1.2.2.2.2.2.1
      have hp : (0 : Int32) ≤ t := by rw [z2, le32, n32 (by omega), i0]; omega
      have hne : ¬ t = -1 := by rw [z2, eq32, n32 (by omega)]; show ¬ (e : Int) = -1; omega
      obtain ⟨G', H', R', q1, q2, q3, q4, q5, q6⟩ := l_one (σ0 := σ0) (m := m) (ρ := ρ) h hk5 (op := 2) (v := Int32.ofNat e) (w := 2) (u := e) (N := 37 - 4 * d) (by decide) (by omega) (by omega) (f := fun e' => e'.2 e) (fun H' w1 w2 => XM_def w1 w2 z1 hD) (fun R' w1 w2 => RM_def w1 w2 z1 hD)
      rw [if_neg hne, z2, q1, Option.bind_some, c_g0 q2, Option.bind_some, z5_C st_A5, Option.bind_some, q3, Option.bind_some]
      rw [z2] at hp
      rw [if_pos hp]
      unfold fX12_readAtom_164
      rw [if_pos (show (-1 : Int32) < 0 by decide), if_pos (show (-1 : Int32) < 0 by decide), RisC, Option.bind_some, show fX12_mark_0 (eR m ρ R) m 2 (Int32.ofNat e) = _ from q4, Option.bind_some, RisC, Option.bind_some, q5, Option.bind_some]
      exact q6
end
