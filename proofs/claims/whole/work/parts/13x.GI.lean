section
variable {b : Nat} {σ0 : Hs} {m : Nat} {ρ : Hs} {tx : Nat → Int} {n K D : Nat} {nt : Nat → Nat} {G H R : Gs} {a mk rm : Nat}
theorem ite_01 (nt : Bool) : (if (if nt = true then (1 : Int32) else 0) = 0 then (0 : Int32) else 1) = if nt = true then 1 else 0 := by cases nt <;> decide
theorem l_cm {d : Nat} (hd : d ≤ 8) {j i : Nat} (hop : ∀ G H R a mk rm, Lv b tx n K D nt G H R a mk rm → Rs b σ0 m ρ tx n K D nt H R a mk rm (39 - 4 * d) (fun _ => True) (fX6_readSum_0 (GR6 j) (st6 b σ0 G H) (b + 6) (Int32.ofNat d)) (fX12_readSum_0 (GR12a i) (eR m ρ R) m (Int32.ofNat d))) (h : Lv b tx n K D nt G H R a mk rm) (no : Bool) : Rs b σ0 m ρ tx n K D nt H R a mk rm (40 - 4 * d) IsT (fX6_readOne_20 (GR6 (j + 1)) (st6 b σ0 G H) (b + 6) (Int32.ofNat d) (if no = true then 1 else 0)) (fX12_readOne_13 (GR12a (i + 1)) (eR m ρ R) m (Int32.ofNat d) (if no = true then 1 else 0)) := by
  have eA : ∀ s c x, (GR6 (j + 1)).2.2.2.1 s c x = fX6_readSum_0 (GR6 j) s c x := fun s c x => rfl
  have eB : ∀ s c x, (GR12a (i + 1)).2.2.2.1 s c x = fX12_readSum_0 (GR12a i) s c x := fun s c x => rfl
  have ob : ∀ X : Option Hs, (X.bind fun s => some s) = X := fun X => by cases X <;> rfl
  unfold fX6_readOne_20 fX12_readOne_13
  rw [z6_C st_A6, RisC, Option.bind_some, Option.bind_some, eA, eB]
  rcases hop G H R a mk rm h with ⟨G1, H1, R1, a1, mk1, rm1, f1, x1, y1, l1, ⟨fr1, fr2⟩, ⟨u1, u2, u3⟩, o1, o2, m1, n1, -⟩ | ⟨G1, H1, R1, a1, kd, rm1, x1, y1, dd, ⟨fr1, fr2⟩, u1, u3⟩
  rotate_left
  · obtain ⟨d0, d1⟩ := dd.h0
    rw [x1, y1, Option.bind_some, Option.bind_some]
    have e77 : ∀ v : Int32, fX12_readOne_77 (GR12a (i + 1)) (eR m ρ R1) m (Int32.ofNat d) (if no = true then 1 else 0) v = some (eR m ρ R1) := by
      intro v; unfold fX12_readOne_77
      rw [RG_21, dd.2.2.1, Option.bind_some, if_neg (bdn d1).1]
    have es : ∀ c : Int32, ∃ r, fX12_isSign_0 (eR m ρ R1) m c = some r := by
      intro c; unfold fX12_isSign_0
      simp only [RG_24, RG_27, Option.bind_some, bb_0, bb_1]
      (repeat' split) <;> exact ⟨_, rfl⟩
    obtain ⟨r1, s1⟩ := es 60
    obtain ⟨r2, s2⟩ := es 62
    obtain ⟨r3, s3⟩ := es 61
    simp only [z6_C st_A6, cd_comp dd.1 d0, Option.bind_some, if_true, c_g0 d0, z5_C st_A5, x5d_refuse st_A5 dd.1, RisC, s1, s2, s3, RG_21, dd.2.2.1, if_neg (bdn d1).2, e77]
    have : (if r1 = 0 then if r2 = 0 then if r3 = 0 then some (eR m ρ R1) else some (eR m ρ R1) else some (eR m ρ R1) else some (eR m ρ R1)) = some (eR m ρ R1) := by (repeat' split) <;> rfl
    rw [this]
    exact Rs.dead rfl rfl dd fr1 fr2 u1 u3
  rw [x1, y1, Option.bind_some, Option.bind_some]
  have h0 : fr H1 0 = some b := l1.2.1.1
  have hB := l1.2.2.1.1
  have et : fX6_comparesHere_0 (st6 b σ0 G1 H1) (b + 6) = if ¬ (kA false tx n a1 = 3 ∧ sA tx n a1 = (60 : Int32).toInt) then (if ¬ (kA false tx n a1 = 3 ∧ sA tx n a1 = (62 : Int32).toInt) then (if ¬ (kA false tx n a1 = 3 ∧ sA tx n a1 = (61 : Int32).toInt) then some (-1) else some 14) else some 13) else some 12 := by
    unfold fX6_comparesHere_0
    simp only [c_g0 h0, z5_C st_A5, x5_isSign st_A5 l1.1, Option.bind_some, b2i_0]
  have fin : ∀ w, 10 ≤ w ∧ w ≤ 12 → kA false tx n a1 = 3 → Rs b σ0 m ρ tx n K D nt H R a mk rm (40 - 4 * d) IsT (AX b (fun s => fX6_readSum_0 (GR6 j) s (b + 6) (Int32.ofNat d)) (Int32.ofNat (w + 2)) (if no = true then 1 else 0) (st6 b σ0 G1 H1) some) (AR m (fun s => fX12_readSum_0 (GR12a i) s m (Int32.ofNat d)) (Int32.ofNat w) (Int32.ofNat (if no = true then 1 else 0)) (eR m ρ R1) some) := by
    intro w hw hk
    have hub : (if no = true then 1 else 0) < 1048576 := by split <;> omega
    rcases l_aft (fX := fun s => fX6_readSum_0 (GR6 j) s (b + 6) (Int32.ofNat d)) (fR := fun s => fX12_readSum_0 (GR12a i) s m (Int32.ofNat d)) hop l1 (by rw [hk]; decide) (op := Int32.ofNat (w + 2)) (v := if no = true then 1 else 0) (w := w) (u := if no = true then 1 else 0) (by omega) hub some some with ⟨G2, H2, R2, a2, mk3, rm3, f2, x2, y2, l2, ⟨g1, g2⟩, ⟨z1, z2, z3⟩, p3, p4, m3, n3, t3, ⟨e1, e2⟩, ⟨e3, e4⟩⟩ | ⟨G2, H2, R2, a2, kd, rm3, x2, y2, dd, ⟨g1, g2⟩, z1, z3⟩
    · have c1 := m1.1
      have c2 := n1.1.1
      refine Or.inl ⟨G2, H2, R2, a2, mk3 + 1, rm3 + 1, fun e => scm w no (f1 e) (f2 e), x2, y2, l2, ⟨fr1.trans g1, fr2.trans g2⟩, ⟨by omega, by omega, by omega⟩, fun q hq => ?_, fun q hq => ?_, ?_, ?_, scm_T w no f1 f2⟩
      · have r1 := p3 q (by omega)
        have r2 := o1 q hq
        exact ⟨r1.1.trans r2.1, r1.2.trans r2.2⟩
      · rw [p4 q (by omega), o2 q hq]
      · refine XM_2 (XM_old m1 p3) m3 (by omega) (by omega) ?_ (fun e x y l l' hx1 hx2 => ?_)
        · rw [e1]
          have : ∀ q : Nat, q < 5 → ¬ Int32.ofNat (w + 2) = Int32.ofNat q := fun q hq => by rw [eqn (by omega) (by omega)]; omega
          exact ⟨this 0 (by decide), this 1 (by decide), this 2 (by decide), this 4 (by decide), this 3 (by decide)⟩
        · rw [e1, e2, ite_01]; exact xcv_cm hw no hx1 hx2
      · refine RM_2 (RM_old n1 p4) n3 (by omega) (by omega) (by omega) (by rw [e3]; omega) (fun e x y l l' hx1 hx2 => ?_)
        rw [e3, e4]; exact rcv_cm hw no (by cases no <;> decide) hx1 hx2
    · rw [x2, y2]
      exact Rs.dead rfl rfl dd (fr1.trans g1) (fr2.trans g2) (by omega) (by omega)
  have e77 : ∀ w, 10 ≤ w ∧ w ≤ 12 → fX12_readOne_77 (GR12a (i + 1)) (eR m ρ R1) m (Int32.ofNat d) (if no = true then 1 else 0) (Int32.ofNat w) = AR m (fun s => fX12_readSum_0 (GR12a i) s m (Int32.ofNat d)) (Int32.ofNat w) (Int32.ofNat (if no = true then 1 else 0)) (eR m ρ R1) some := by
    intro w hw
    unfold fX12_readOne_77 AR
    rw [RG_21, hB.2.2, Option.bind_some, if_pos (Int32.le_refl 0), RisC, Option.bind_some]
    cases no <;> rfl
  have eX : ∀ op : Int32, ((fX5_advance_0 (st6 b σ0 G1 H1) b).bind fun sq7 => (isC sq7 (b + 6) 8).bind fun iq8 => ((GR6 (j + 1)).2.2.2.1 sq7 (b + 6) (Int32.ofNat d)).bind fun sq9 => if (if no = true then (1 : Int32) else 0) = 0 then ((isC sq9 (b + 6) 8).bind fun iq10 => (fX6_emit_0 sq9 (b + 6) op 0).bind fun sq11 => some sq11) else ((isC sq9 (b + 6) 8).bind fun iq12 => (fX6_emit_0 sq9 (b + 6) op 1).bind fun sq13 => some sq13)) = AX b (fun s => fX6_readSum_0 (GR6 j) s (b + 6) (Int32.ofNat d)) op (if no = true then 1 else 0) (st6 b σ0 G1 H1) some := by
    intro op; unfold AX; cases no <;> rfl
  simp only [z6_C st_A6, et, c_g0 h0, z5_C st_A5, RisC, rb_sign hB, RG_21, hB.2.2, Option.bind_some, b2i_0, if_true]
  by_cases c1 : kA false tx n a1 = 3 ∧ sA tx n a1 = (60 : Int32).toInt
  · simp only [if_neg (show ¬ ¬ (kA false tx n a1 = 3 ∧ sA tx n a1 = (60 : Int32).toInt) from fun q => q c1), Option.bind_some, if_neg (show ¬ (12 : Int32) = -1 by decide)]
    rw [show fX12_readOne_77 (GR12a (i + 1)) (eR m ρ R1) m (Int32.ofNat d) (if no = true then 1 else 0) 10 = _ from e77 10 (by decide)]
    have := fin 10 (by decide) c1.1
    rw [← eX] at this
    exact this
  by_cases c2 : kA false tx n a1 = 3 ∧ sA tx n a1 = (62 : Int32).toInt
  · simp only [if_pos c1, if_neg (show ¬ ¬ (kA false tx n a1 = 3 ∧ sA tx n a1 = (62 : Int32).toInt) from fun q => q c2), Option.bind_some, if_neg (show ¬ (13 : Int32) = -1 by decide)]
    rw [show fX12_readOne_77 (GR12a (i + 1)) (eR m ρ R1) m (Int32.ofNat d) (if no = true then 1 else 0) 11 = _ from e77 11 (by decide)]
    have := fin 11 (by decide) c2.1
    rw [← eX] at this
    exact this
  by_cases c3 : kA false tx n a1 = 3 ∧ sA tx n a1 = (61 : Int32).toInt
  · simp only [if_pos c1, if_pos c2, if_neg (show ¬ ¬ (kA false tx n a1 = 3 ∧ sA tx n a1 = (61 : Int32).toInt) from fun q => q c3), Option.bind_some, if_neg (show ¬ (14 : Int32) = -1 by decide)]
    rw [show fX12_readOne_77 (GR12a (i + 1)) (eR m ρ R1) m (Int32.ofNat d) (if no = true then 1 else 0) 12 = _ from e77 12 (by decide)]
    have := fin 12 (by decide) c3.1
    rw [← eX] at this
    exact this
  · obtain ⟨G2, R2, kd, n1', n2, n3, n4⟩ := l_ref2 (σ0 := σ0) (m := m) (ρ := ρ) l1
    obtain ⟨d0, d1⟩ := n3.h0
    simp only [if_pos c1, if_pos c2, if_pos c3, Option.bind_some, if_true, n1', n2]
    have : fX12_readOne_77 (GR12a (i + 1)) (eR m ρ R2) m (Int32.ofNat d) (if no = true then 1 else 0) (-1) = some (eR m ρ R2) := by
      unfold fX12_readOne_77
      rw [RG_21, n3.2.2.1, Option.bind_some, if_neg (bdn d1).1]
    rw [this]
    exact Rs.dead rfl rfl n3 fr1 (fr2.trans n4) (by omega) (by omega)
theorem l_on {d : Nat} (hd : d ≤ 8) {j i : Nat} (hop : ∀ G H R a mk rm, Lv b tx n K D nt G H R a mk rm → Rs b σ0 m ρ tx n K D nt H R a mk rm (39 - 4 * d) (fun _ => True) (fX6_readSum_0 (GR6 j) (st6 b σ0 G H) (b + 6) (Int32.ofNat d)) (fX12_readSum_0 (GR12a i) (eR m ρ R) m (Int32.ofNat d))) (h : Lv b tx n K D nt G H R a mk rm) : Rs b σ0 m ρ tx n K D nt H R a mk rm (40 - 4 * d) IsT (fX6_readOne_0 (GR6 (j + 1)) (st6 b σ0 G H) (b + 6) (Int32.ofNat d)) (fX12_readOne_0 (GR12a (i + 1)) (eR m ρ R) m (Int32.ofNat d)) := by
  have h0 : fr H 0 = some b := h.2.1.1
  have hw := x5_isWord (st_A5 (b := b) (σ0 := σ0) (G := G) (H := H)) h.1 (w := 5) (by decide)
  have hw' : fX5_isWord_0 (st6 b σ0 G H) b 5 = some (b2i (kA false tx n a = 1 ∧ vA tx n a = vW false 5)) := hw
  unfold fX6_readOne_0 fX12_readOne_0
  simp only [c_g0 h0, z5_C st_A5, hw', RisC, rb_not h.2.2.1.1, Option.bind_some, b2i_0]
  by_cases c : kA false tx n a = 1 ∧ vA tx n a = vW false 5
  · rw [if_neg (fun q => q c), if_neg (fun q => q c), show b2i (kA false tx n a = 1 ∧ vA tx n a = vW false 5) = 1 from if_pos c]
    obtain ⟨G1, R1, a1, a2, a3, a4, a5⟩ := l_adv (σ0 := σ0) (m := m) (ρ := ρ) h (by rw [c.1]; decide)
    rw [a1, a2, Option.bind_some, Option.bind_some]
    rcases l_cm hd hop a3 true with ⟨G', H', R', a', mk', rm', f, x1, y1, l1, ⟨fr1, fr2⟩, ⟨u1, u2, u3⟩, o1, o2, m1, n1, t1⟩ | ⟨G', H', R', a', kd, rm', x1, y1, dd, ⟨fr1, fr2⟩, u1, u3⟩
    · exact Or.inl ⟨G', H', R', a', mk', rm', f, x1, y1, l1, ⟨fr1, a4.trans fr2⟩, ⟨by omega, by omega, by omega⟩, o1, fun q hq => by rw [o2 q hq, congrFun a5 q], m1, n1, t1⟩
    · exact Rs.dead x1 y1 dd fr1 (a4.trans fr2) (by omega) (by omega)
  · rw [if_pos c, if_pos c, show b2i (kA false tx n a = 1 ∧ vA tx n a = vW false 5) = 0 from if_neg c]
    exact l_cm hd hop h false
theorem l_te {d : Nat} (hd : d ≤ 8) {j i : Nat} (hop : ∀ G H R a mk rm, Lv b tx n K D nt G H R a mk rm → Rs b σ0 m ρ tx n K D nt H R a mk rm (40 - 4 * d) IsT (fX6_readOne_0 (GR6 j) (st6 b σ0 G H) (b + 6) (Int32.ofNat d)) (fX12_readOne_0 (GR12a i) (eR m ρ R) m (Int32.ofNat d))) (h : Lv b tx n K D nt G H R a mk rm) : Rs b σ0 m ρ tx n K D nt H R a mk rm (41 - 4 * d) IsT (fX6_readTest_0 (GR6 (j + 1)) (st6 b σ0 G H) (b + 6) (Int32.ofNat d)) (fX12_readTest_0 (GR12a (i + 1)) (eR m ρ R) m (Int32.ofNat d)) := by
  have eA : ∀ s c x, (GR6 (j + 1)).2.2.1 s c x = fX6_readOne_0 (GR6 j) s c x := fun s c x => rfl
  have eB : ∀ s c x, (GR12a (i + 1)).2.2.1 s c x = fX12_readOne_0 (GR12a i) s c x := fun s c x => rfl
  unfold fX6_readTest_0 fX12_readTest_0
  rw [z6_C st_A6, RisC, Option.bind_some, Option.bind_some, eA, eB]
  rcases hop G H R a mk rm h with ⟨G1, H1, R1, a1, mk1, rm1, f0, x1, y1, l1, ⟨fr1, fr2⟩, ⟨u1, u2, u3⟩, o1, o2, m1, n1, t1⟩ | ⟨G1, H1, R1, a1, kd, rm1, x1, y1, dd, ⟨fr1, fr2⟩, u1, u3⟩
  rotate_left
  · obtain ⟨d0, d1⟩ := dd.h0
    rw [x1, y1]
    have e27 : ∀ x y : Int32, fX6_readTest_27 (GR6 (j + 1)) (st6 b σ0 G1 H1) (b + 6) (Int32.ofNat d) x y 0 = some (st6 b σ0 G1 H1) := by
      intro x y
      unfold fX6_readTest_27
      show fbX6_readTest_27 _ _ _ _ _ _ _ _ = _
      unfold fbX6_readTest_27
      simp only [c_g0 d0, z5_g7 st_A5, z5_C st_A5, x5d_isWord st_A5 dd.1, Option.bind_some, if_true]
      split <;> rfl
    simp only [Option.bind_some, c_g0 d0, z5_C st_A5, x5d_isWord st_A5 dd.1, if_true, e27, RG_21, dd.2.2.1, if_neg (bdn d1).1]
    exact Rs.dead rfl rfl dd fr1 fr2 u1 u3
  rw [x1, y1, Option.bind_some, Option.bind_some]
  have h0 : fr H1 0 = some b := l1.2.1.1
  have hB := l1.2.2.1.1
  have hwA : ∀ {G H R : Gs} {a mk rm : Nat}, Lv b tx n K D nt G H R a mk rm → fX5_isWord_0 (st6 b σ0 G H) b 3 = some (b2i (kA false tx n a = 1 ∧ vA tx n a = vW false 3)) := fun h => x5_isWord st_A5 h.1 (w := 3) (by decide)
  have hwO : ∀ {G H R : Gs} {a mk rm : Nat}, Lv b tx n K D nt G H R a mk rm → fX5_isWord_0 (st6 b σ0 G H) b 4 = some (b2i (kA false tx n a = 1 ∧ vA tx n a = vW false 4)) := fun h => x5_isWord st_A5 h.1 (w := 4) (by decide)
  simp only [c_g0 h0, z5_C st_A5, hwO l1, Option.bind_some, b2i_0, RG_21, hB.2.2, Int32.le_refl, if_true, RisC, rb_and hB]
  have hdd : ∀ (x y z : Int32) (K1 : Hs × Nat × Int32 × Int32 × Int32 × Int32 → Option Hs) (K2 : Hs × Nat × Int32 × Int32 → Option Hs) (G H R : Gs) (a kd rm cnt : Nat), Dd b tx n K D nt G H R a kd rm → fbX6_readTest_27 (GR6 (j + 1)) (fun σ xv0 xv1 xv2 xv3 xv4 => K1 (σ, xv0, xv1, xv2, xv3, xv4)) (st6 b σ0 G H) (b + 6) (Int32.ofNat d) x y (Int32.ofNat cnt) = some (st6 b σ0 G H) ∧ fbX12_readTest_18 (GR12a (i + 1)) (fun σ xv0 xv1 xv2 => K2 (σ, xv0, xv1, xv2)) (eR m ρ R) m (Int32.ofNat d) z = some (eR m ρ R) := by
    intro x y z K1 K2 G H R a kd rm cnt dd
    obtain ⟨d0, d1⟩ := dd.h0
    constructor
    · unfold fbX6_readTest_27
      simp only [c_g0 d0, z5_g7 st_A5, z5_C st_A5, x5d_isWord st_A5 dd.1, Option.bind_some, if_true]
      split <;> rfl
    · unfold fbX12_readTest_18
      rw [RG_21, dd.2.2.1, Option.bind_some, if_neg (bdn d1).2]
  have ne1 : ¬ (1 : Int32) = 0 := by decide
  by_cases c1 : kA false tx n a1 = 1 ∧ vA tx n a1 = vW false 4
  · -- or
    have c2 : ¬ (kA false tx n a1 = 1 ∧ vA tx n a1 = vW false 3) := fun q => absurd (c1.2.symm.trans q.2) (by decide)
    rw [if_neg (fun q => q c1), show b2i (kA false tx n a1 = 1 ∧ vA tx n a1 = vW false 4) = 1 from if_pos c1, show b2i (kA false tx n a1 = 1 ∧ vA tx n a1 = vW false 3) = 0 from if_neg c2]
    unfold fX6_readTest_27 fX12_readTest_18
    refine l_loop (mk1 := fun s cnt => (s, b + 6, Int32.ofNat d, 1, 4, Int32.ofNat cnt)) (mk2 := fun s => (s, m, Int32.ofNat d, 0)) (N0 := 40 - 4 * d) (by omega) (by omega) (TT := fun o => o = some 0 ∨ o = some 1) (W := fun w => w = 14) (cmb := sao) (fX := fun s => fX6_readOne_0 (GR6 j) s (b + 6) (Int32.ofNat d)) (fR := fun s => fX12_readOne_0 (GR12a i) s m (Int32.ofNat d)) hop (fun w hw => by omega) (fun w hw A B x y l l' hA hB h1 h2 => xcv_ao (Or.inr hw) hA hB h1 h2 0) (fun w hw A B x y l l' hA hB h1 h2 => rcv_ao (Or.inr hw) hA hB h1 h2 0) (fun w hw A B hA hB => sao_01 w hA hB) ?_ (fun K1 K2 G H R a kd rm cnt dd => hdd 1 4 0 K1 K2 G H R a kd rm cnt dd) l1 fr1 fr2 u1 u2 u3 o1 o2 (XM_mono m1 (by omega)) (RM_mono n1 (by omega)) t1
    intro K1 K2 G H R a mk rm cnt h hc
    obtain ⟨e7, e8⟩ := i7 h hc
    have h0 : fr H 0 = some b := h.2.1.1
    have hB := h.2.2.1.1
    show (∃ w, _ ∧ _ ∧ fbX6_readTest_27 (GR6 (j + 1)) _ (st6 b σ0 G H) (b + 6) (Int32.ofNat d) 1 4 (Int32.ofNat cnt) = _ ∧ fbX12_readTest_18 (GR12a (i + 1)) _ (eR m ρ R) m (Int32.ofNat d) 0 = _) ∨ (fbX6_readTest_27 (GR6 (j + 1)) _ (st6 b σ0 G H) (b + 6) (Int32.ofNat d) 1 4 (Int32.ofNat cnt) = _ ∧ fbX12_readTest_18 (GR12a (i + 1)) _ (eR m ρ R) m (Int32.ofNat d) 0 = _)
    unfold fbX6_readTest_27 fbX12_readTest_18 fX12_readTest_46
    simp only [c_g0 h0, z5_g7 st_A5, e8, if_neg e7, z5_C st_A5, z6_C st_A6, hwO h, RG_21, hB.2.2, if_true, RisC, rb_or hB, Option.bind_some, b2i_0, suc32, eA, eB, if_neg ne1]
    by_cases c : kA false tx n a = 1 ∧ vA tx n a = vW false 4
    · left
      refine ⟨14, rfl, by rw [c.1]; decide, ?_, ?_⟩
      · simp only [if_neg (show ¬ ¬ (kA false tx n a = 1 ∧ vA tx n a = vW false 4) from fun q => q c)]; rfl
      · simp only [if_neg (show ¬ ¬ (kA false tx n a = 1 ∧ vA tx n a = vW false 4) from fun q => q c)]; rfl
    · right
      constructor
      · simp only [if_pos c]
      · simp only [if_pos c]
  rw [if_pos c1, show b2i (kA false tx n a1 = 1 ∧ vA tx n a1 = vW false 4) = 0 from if_neg c1]
  by_cases c2 : kA false tx n a1 = 1 ∧ vA tx n a1 = vW false 3
  · -- and
    rw [show b2i (kA false tx n a1 = 1 ∧ vA tx n a1 = vW false 3) = 1 from if_pos c2]
    unfold fX6_readTest_27 fX12_readTest_18
    refine l_loop (mk1 := fun s cnt => (s, b + 6, Int32.ofNat d, 0, 3, Int32.ofNat cnt)) (mk2 := fun s => (s, m, Int32.ofNat d, 1)) (N0 := 40 - 4 * d) (by omega) (by omega) (TT := fun o => o = some 0 ∨ o = some 1) (W := fun w => w = 13) (cmb := sao) (fX := fun s => fX6_readOne_0 (GR6 j) s (b + 6) (Int32.ofNat d)) (fR := fun s => fX12_readOne_0 (GR12a i) s m (Int32.ofNat d)) hop (fun w hw => by omega) (fun w hw A B x y l l' hA hB h1 h2 => xcv_ao (Or.inl hw) hA hB h1 h2 0) (fun w hw A B x y l l' hA hB h1 h2 => rcv_ao (Or.inl hw) hA hB h1 h2 0) (fun w hw A B hA hB => sao_01 w hA hB) ?_ (fun K1 K2 G H R a kd rm cnt dd => hdd 0 3 1 K1 K2 G H R a kd rm cnt dd) l1 fr1 fr2 u1 u2 u3 o1 o2 (XM_mono m1 (by omega)) (RM_mono n1 (by omega)) t1
    intro K1 K2 G H R a mk rm cnt h hc
    obtain ⟨e7, e8⟩ := i7 h hc
    have h0 : fr H 0 = some b := h.2.1.1
    have hB := h.2.2.1.1
    show (∃ w, _ ∧ _ ∧ fbX6_readTest_27 (GR6 (j + 1)) _ (st6 b σ0 G H) (b + 6) (Int32.ofNat d) 0 3 (Int32.ofNat cnt) = _ ∧ fbX12_readTest_18 (GR12a (i + 1)) _ (eR m ρ R) m (Int32.ofNat d) 1 = _) ∨ (fbX6_readTest_27 (GR6 (j + 1)) _ (st6 b σ0 G H) (b + 6) (Int32.ofNat d) 0 3 (Int32.ofNat cnt) = _ ∧ fbX12_readTest_18 (GR12a (i + 1)) _ (eR m ρ R) m (Int32.ofNat d) 1 = _)
    unfold fbX6_readTest_27 fbX12_readTest_18 fX12_readTest_46
    simp only [c_g0 h0, z5_g7 st_A5, e8, if_neg e7, z5_C st_A5, z6_C st_A6, hwA h, RG_21, hB.2.2, if_true, RisC, rb_and hB, Option.bind_some, b2i_0, suc32, eA, eB, if_neg ne1]
    by_cases c : kA false tx n a = 1 ∧ vA tx n a = vW false 3
    · left
      refine ⟨13, rfl, by rw [c.1]; decide, ?_, ?_⟩
      · simp only [if_neg (show ¬ ¬ (kA false tx n a = 1 ∧ vA tx n a = vW false 3) from fun q => q c)]; rfl
      · simp only [if_neg (show ¬ ¬ (kA false tx n a = 1 ∧ vA tx n a = vW false 3) from fun q => q c)]; rfl
    · right
      constructor
      · simp only [if_pos c]
      · simp only [if_pos c]
  · rw [show b2i (kA false tx n a1 = 1 ∧ vA tx n a1 = vW false 3) = 0 from if_neg c2]
    obtain ⟨e7, e8⟩ := i7 l1 (Nat.zero_le a1)
    have s1 : fX6_readTest_27 (GR6 (j + 1)) (st6 b σ0 G1 H1) (b + 6) (Int32.ofNat d) 0 3 0 = some (st6 b σ0 G1 H1) := by
      unfold fX6_readTest_27
      show fbX6_readTest_27 _ _ _ _ _ _ _ (Int32.ofNat 0) = _
      unfold fbX6_readTest_27
      simp only [c_g0 h0, z5_g7 st_A5, e8, if_neg e7, z5_C st_A5, hwA l1, Option.bind_some, b2i_0, if_pos c2]
    have s2 : fX12_readTest_18 (GR12a (i + 1)) (eR m ρ R1) m (Int32.ofNat d) 0 = some (eR m ρ R1) := by
      unfold fX12_readTest_18
      show fbX12_readTest_18 _ _ _ _ _ _ = _
      unfold fbX12_readTest_18
      simp only [RG_21, hB.2.2, if_true, RisC, rb_or hB, Option.bind_some, b2i_0, if_pos c1]
    rw [s1, s2]
    exact Or.inl ⟨G1, H1, R1, a1, mk1, rm1, f0, rfl, rfl, l1, ⟨fr1, fr2⟩, ⟨u1, u2, u3⟩, o1, o2, XM_mono m1 (by omega), RM_mono n1 (by omega), t1⟩
end
