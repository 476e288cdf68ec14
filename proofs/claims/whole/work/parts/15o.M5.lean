section
variable {y ap ec : Nat} {B : Gs → Hs} {Hp : Gs} {ok : Gs → Prop} {V : Int32 → Int64} {m : Nat} {ρ : Hs} {hd : Gs → Prop} {f : Nat} {k72 k73 k74 : Nat → Int32} {T Gr R1 : Gs} {e kp : Nat}
theorem item_s (E : Ev7 y ap ec B Hp ok V m ρ hd f k72 k73 k74) {mk : Nat} (hP : PrO Hp mk) {lev l r to i c g lv : Nat} (hS : Sm k72 k73 k74 (ai Hp 1) (ai Hp 2) (ai Hp 3) lev l r) (hl : l + 1 ≤ 40 ∧ r + 1 ≤ mk) (hto : l < to ∧ to ≤ 40) (hT : ok T) (hM : Ma ap ec f hd V Gr R1 e kp) (hA : Al7 Gr R1) (hc : 1 ≤ c ∧ i + c ≤ 1000000 ∧ kp + c ≤ 1000000) : Bz y ap ec B ok V hd f T Gr kp i lv r (r + 1) c (fun R' => ∀ KS, fbX12_runLines_2 (GR12c g) KS (eR m ρ R1) m (Int32.ofNat to) (Int32.ofNat l) = KS (eR m ρ R') m (Int32.ofNat to) (Int32.ofNat (l + 1))) := by
  have h80 := hP.1.2
  obtain ⟨T', Gr', R', e', kp', x1, y1, o1, M1, alt, k1, F1⟩ := w_row E hM hA hT (by omega) hP.2 (show l < 40 by omega) (show r < 80 by omega) hS
  obtain ⟨k, v, w, k4, ⟨s1, s2⟩, ⟨s3, s4⟩, s5, s6, -⟩ := hS
  have hil : ix (Int32.ofNat l) 40 = true := by rw [ix_n (by omega)]; exact decide_eq_true (by omega)
  have cl := c32 (show l < 2147483648 by omega)
  have e72 := (E.2.2.2.2.2.1 R1 hM.2.1).1
  have e74 := (E.2.2.2.2.2.1 R' M1.2.1).2.2.1
  have hY : ∀ KS, fbX12_runLines_2 (GR12c g) KS (eR m ρ R1) m (Int32.ofNat to) (Int32.ofNat l) = KS (eR m ρ R') m (Int32.ofNat to) (Int32.ofNat (l + 1)) := by
    intro KS
    unfold fbX12_runLines_2
    rw [if_neg (show ¬ Int32.ofNat to ≤ Int32.ofNat l from fun q => by rw [le_n (by omega) (by omega)] at q; omega), RG_105, hA.2, Option.bind_some, if_pos rfl, RN_72, Option.bind_some, Rld_72, hil, if_pos rfl, Option.bind_some, cl, e72, s1, if_neg (show ¬ Int32.ofNat k = 4 from fun q => by rw [show (4 : Int32) = Int32.ofNat 4 from rfl, eqn (by omega) (by decide)] at q; omega), RisC, Option.bind_some, y1, Option.bind_some, RN_74, Option.bind_some, Rld_74, hil, if_pos rfl, Option.bind_some, cl, e74, s6]
  refine ⟨T', Gr', R', e', kp', r + 1, 1, Go7_row E hP hM.1 hA.1 (by omega) (by omega) x1, hY, o1, M1, ?_, ⟨by omega, by omega⟩, fun q _ => by rw [F1.ai 9 (by decide)]⟩
  rcases alt with a | d
  · exact Or.inl ⟨a, rfl⟩
  · exact Or.inr d
theorem item_0 (E : Ev7 y ap ec B Hp ok V m ρ hd f k72 k73 k74) {mk : Nat} (hP : PrO Hp mk) : ItemP y ap ec B Hp ok V m ρ hd f k72 k73 k74 mk 0 := by
  intro g i T Gr R1 e kp l l' r r' to hg hI hl hto hT hM hA hc
  obtain ⟨⟨rfl, rfl⟩, hS⟩ := hI
  have e1 : 21 ^ 0 * (l + 1 - l) = 1 := by rw [show l + 1 - l = 1 by omega]
  rw [e1] at hc ⊢
  exact item_s E hP hS hl hto hT hM hA ⟨by omega, hc.1, hc.2⟩
theorem item_s1 (E : Ev7 y ap ec B Hp ok V m ρ hd f k72 k73 k74) {mk d : Nat} (hd3 : d < 3) (hP : PrO Hp mk) (hB : BlockP y ap ec B Hp ok V m ρ hd f k72 k73 k74 mk d) : ItemP y ap ec B Hp ok V m ρ hd f k72 k73 k74 mk (d + 1) := by
  intro g i T Gr R1 e kp l l' r r' to hg hI hl hto hT hM hA hc
  have hpw : 1 ≤ 21 ^ d := Nat.pos_of_ne_zero (fun q => by rcases Nat.pow_eq_zero.mp q with ⟨q1, _⟩; omega)
  have epw : 21 ^ (d + 1) = 21 ^ d * 21 := rfl
  rcases hI with ⟨⟨rfl, rfl⟩, hS⟩ | hI
  · have e1 : 21 ^ (d + 1) * (l + 1 - l) = 21 ^ (d + 1) := by rw [show l + 1 - l = 1 by omega, Nat.mul_one]
    rw [e1] at hc ⊢
    exact item_s E hP hS hl hto hT hM hA ⟨by omega, hc.1, hc.2⟩
  obtain ⟨v, rb, ⟨s1, s2⟩, ⟨s3, s4, v1, v2⟩, s5, s6, ⟨o1, o2, rfl⟩, ⟨b1, b2, b3⟩, hBk⟩ := hI
  obtain ⟨g, rfl⟩ : ∃ g', g = g' + 1 := ⟨g - 1, by omega⟩
  have h80 := hP.1.2
  obtain ⟨n1, n2, n3⟩ := hP.2
  obtain ⟨tv, rfl, tv1, tv2⟩ := get32 v (by omega)
  rw [n32 (by omega)] at v1 v2
  generalize hlv : 3 - (d + 1) = lev at *
  have hlev : lev < 3 := by omega
  have hlev' : 3 - d = lev + 1 := by omega
  have hil : ix (Int32.ofNat l) 40 = true := by rw [ix_n (by omega)]; exact decide_eq_true (by omega)
  have cl := c32 (show l < 2147483648 by omega)
  have hir : ix (Int32.ofNat r) 80 = true := by rw [ix_n (by omega)]; exact decide_eq_true (by omega)
  have cr := c32 (show r < 2147483648 by omega)
  have hib : ix (Int32.ofNat rb) 80 = true := by rw [ix_n (by omega)]; exact decide_eq_true (by omega)
  have cb' := c32 (show rb < 2147483648 by omega)
  have hiv : ix (Int32.ofNat lev) 3 = true := by rw [ix_n (by omega)]; exact decide_eq_true hlev
  have cv := c32 (show lev < 2147483648 by omega)
  generalize hC : 21 ^ d * (l' - (l + 1)) = C at *
  have hcost : 21 ^ (d + 1) * (l' - l) = 21 * C + 21 * 21 ^ d := by
    rw [epw, ← hC, show l' - l = l' - (l + 1) + 1 by omega, Nat.mul_add, Nat.mul_one, Nat.mul_comm (21 ^ d) 21, Nat.mul_assoc]
  rw [hcost] at hc ⊢
  have rT : ∀ (R' : Gs) (t : Nat) KK KS kS, hd R' → t ≤ 20 → fbX12_runLines_28 KK KS kS (eR m ρ R') m (Int32.ofNat to) (Int32.ofNat l) (Int32.ofNat t) = if tv ≤ t then KS (eR m ρ R') m (Int32.ofNat to) (Int32.ofNat l') else if fi R' 105 = -1 then (KK (eR m ρ R') m (Int32.ofNat (l + 1)) (Int32.ofNat l')).bind fun s => kS s m (Int32.ofNat to) (Int32.ofNat l) (Int32.ofNat (t + 1)) else KS (eR m ρ R') m (Int32.ofNat to) (Int32.ofNat l') := by
    intro R' t KK KS kS q1 q2
    have e73 := (E.2.2.2.2.2.1 R' q1).2.1
    have e74 := (E.2.2.2.2.2.1 R' q1).2.2.1
    unfold fbX12_runLines_28
    simp only [RN_73, RN_74, Rld_73, Rld_74, hil, if_true, cl, e73, e74, s3, s6, Option.bind_some, RG_105, RisC, suc32, le_n (show tv < 2147483648 by omega) (show t < 2147483648 by omega)]
  have rE : ∀ (R' : Gs) (t : Nat) KK KS kS, hd R' → t ≤ 20 → ¬ fi R' 105 = -1 → fbX12_runLines_28 KK KS kS (eR m ρ R') m (Int32.ofNat to) (Int32.ofNat l) (Int32.ofNat t) = KS (eR m ρ R') m (Int32.ofNat to) (Int32.ofNat l') := by
    intro R' t KK KS kS q1 q2 q3
    rw [rT R' t KK KS kS q1 q2, if_neg q3, ite_self]
  have cA : ∀ {T Gr : Gs}, sG ap ec f Gr → fX7_performRow_0 (e7 y (B T) Gr) y (Int32.ofNat r) = some (Int32.ofNat (r + 1), e7 y (B T) (sai Gr 9 (up (ai Gr 9) lev (Int32.ofNat (tv - 1))))) := by
    intro T Gr hG
    have hA4 := E.1 T Gr
    unfold fX7_performRow_0
    simp only [y7_g0, hG.1, Option.bind_some, z4_g2 hA4, z4_l2 hA4, z4_g1 hA4, z4_l1 hA4, z4_g3 hA4, z4_l3 hA4, n1, n2, n3, hir, if_true, cr, s2, s4, s5, suc32]
    rw [if_neg (by decide), if_neg (by decide), if_neg (by decide), if_neg (by decide), y7_g9, Option.bind_some, y7_s9, hG.2.2.2.2, hiv, if_pos rfl, cv, Option.bind_some, show (1 : Int32) = Int32.ofNat 1 from rfl, sub_nn (by omega)]
  have cB : ∀ {T Gr : Gs} {tm : Nat}, sG ap ec f Gr → tm ≤ 20 → ai Gr 9 lev = Int32.ofNat tm → fX7_performRow_0 (e7 y (B T) Gr) y (Int32.ofNat rb) = if 0 < tm then some (Int32.ofNat (r + 1), e7 y (B T) (sai Gr 9 (up (ai Gr 9) lev (Int32.ofNat (tm - 1))))) else some (Int32.ofNat (rb + 1), e7 y (B T) Gr) := by
    intro T Gr tm hG htm h9
    have hA4 := E.1 T Gr
    have hA5 := E.1 T (sai Gr 9 (up (ai Gr 9) lev (Int32.ofNat tm - 1)))
    have hG5 : fr (sai Gr 9 (up (ai Gr 9) lev (Int32.ofNat tm - 1))) 0 = some ap := hG.1
    have z0 : ((0 : Int32) < Int32.ofNat tm) = (0 < tm) := propext (lt_n (a := 0) (by decide) (by omega))
    unfold fX7_performRow_0
    simp only [y7_g0, hG.1, Option.bind_some, z4_g2 hA4, z4_l2 hA4, z4_g1 hA4, z4_l1 hA4, n1, n2, hib, if_true, cb', b1, b2]
    rw [if_neg (by decide), if_neg (by decide), if_neg (by decide), if_neg (by decide), if_neg (by decide), y7_C, Option.bind_some]
    unfold fX7_rowBehindBack_0
    simp only [y7_g0, hG.1, Option.bind_some, z4_g3 hA4, z4_l3 hA4, n3, hib, if_true, cb', b3, y7_g9, y7_l9, hG.2.2.2.2, hiv, cv, h9, z0, y7_s9, suc32]
    by_cases c : 0 < tm
    · rw [if_pos c, if_pos c]
      simp only [hG5, z4_g2 hA5, z4_l2 hA5, n2, hib, if_true, cb', b2, Option.bind_some]
      rw [show (1 : Int32) = Int32.ofNat 1 from rfl, sub_nn (by omega)]
    · rw [if_neg c, if_neg c, Option.bind_some]
  have key : ∀ tm, 1 ≤ tm → tm ≤ tv → ∀ i N (T Gr R1 : Gs) e kp, tm + 1 ≤ N → ok T → Ma ap ec f hd V Gr R1 e kp → Al7 Gr R1 → ai Gr 9 lev = Int32.ofNat (tm - 1) → (i + tm * (C + 1) ≤ 1000000 ∧ kp + tm * (C + 1) ≤ 1000000) → ∃ T' Gr' R' e' kp' rw j, Go7 (cS y B T Gr (r + 1) i) (cS y B T' Gr' rw (i + j)) j ∧ (∀ KS, lp (fun (k : Hs × Nat × Int32 × Int32 × Int32 → Option Hs) (z : Hs × Nat × Int32 × Int32 × Int32) => fbX12_runLines_28 (GR12c (g + 1)) KS (fun σ xv0 xv2 xv3 xv4 => k (σ, xv0, xv2, xv3, xv4)) z.1 z.2.1 z.2.2.1 z.2.2.2.1 z.2.2.2.2) N (eR m ρ R1, m, Int32.ofNat to, Int32.ofNat l, Int32.ofNat (tv - tm)) = KS (eR m ρ R') m (Int32.ofNat to) (Int32.ofNat l')) ∧ ok T' ∧ Ma ap ec f hd V Gr' R' e' kp' ∧ ((Al7 Gr' R' ∧ rw = rb + 1) ∨ De7 Gr' R') ∧ (j ≤ tm * (C + 1) ∧ kp' ≤ kp + j) ∧ ∀ q, q < lev → ai Gr' 9 q = ai Gr 9 q := by
    intro tm; induction tm with
    | zero => intro q; omega
    | succ tm ih =>
      intro _ htm i N T Gr R1 e kp hN hT hM hA h9 hc
      rw [Nat.succ_mul] at hc ⊢
      generalize hD : tm * (C + 1) = D at *
      obtain ⟨N', rfl⟩ : ∃ N', N = N' + 2 := ⟨N - 2, by omega⟩
      obtain ⟨T', Gr', R', e', kp', rw', j, g1, g2, g3, g4, g5, ⟨g6, g7⟩, g8⟩ := hB g i T Gr R1 e kp (l + 1) l' (r + 1) rb (by omega) hBk ⟨by omega, by omega⟩ hT hM hA (by rw [hC]; omega)
      rw [hlev'] at g8
      rw [hC] at g6
      have hfirst : ∀ KS kS, fbX12_runLines_28 (GR12c (g + 1)) KS kS (eR m ρ R1) m (Int32.ofNat to) (Int32.ofNat l) (Int32.ofNat (tv - (tm + 1))) = kS (eR m ρ R') m (Int32.ofNat to) (Int32.ofNat l) (Int32.ofNat (tv - tm)) := by
        intro KS kS
        rw [rT R1 (tv - (tm + 1)) _ KS kS hM.2.1 (by omega), if_neg (by omega), if_pos hA.2]
        show (fX12_runLines_2 (GR12c g) (eR m ρ R1) m (Int32.ofNat l') (Int32.ofNat (l + 1))).bind _ = _
        rw [g2, Option.bind_some, show tv - (tm + 1) + 1 = tv - tm by omega]
      rcases g5 with ⟨a5, hrw⟩ | d5
      · rw [hrw] at g1
        have h9' : ai Gr' 9 lev = Int32.ofNat tm := by rw [g8 lev (by omega), h9]; rfl
        have hrow := cB (T := T') g4.1 (show tm ≤ 20 by omega) h9'
        by_cases c : 0 < tm
        · rw [if_pos c] at hrow
          have go := Go7_row E hP g4.1 a5.1 (show rb < mk by omega) (show i + j < 1000000 by omega) hrow
          have M2 : Ma ap ec f hd V (sai Gr' 9 (up (ai Gr' 9) lev (Int32.ofNat (tm - 1)))) R' e' kp' := by
            obtain ⟨⟨q0, q1, q2, q3, q4⟩, q5⟩ := g4
            exact ⟨⟨q0, q1, q2, q3, q4⟩, q5⟩
          obtain ⟨T2, Gr2, R2, e2, kp2, rw2, j2, f1, f2, f3, f4, f5, ⟨f6, f7⟩, f8⟩ := ih (by omega) (by omega) (i + j + 1) (N' + 1) T' _ R' e' kp' (by omega) g3 M2 ⟨a5.1, a5.2⟩ (show up (ai Gr' 9) lev (Int32.ofNat (tm - 1)) lev = _ from up_same _ _ _) ⟨by omega, by omega⟩
          refine ⟨T2, Gr2, R2, e2, kp2, rw2, j + 1 + j2, ?_, ?_, f3, f4, f5, ⟨by omega, by omega⟩, fun q hq => ?_⟩
          · rw [show i + (j + 1 + j2) = i + j + 1 + j2 by omega]; exact Go7_tr (Go7_tr g1 go) f1
          · intro KS
            rw [lp_s]
            exact (hfirst KS _).trans (f2 KS)
          · rw [f8 q hq]
            show up (ai Gr' 9) lev _ q = _
            rw [up_ne _ _ _ _ (by omega)]; exact g8 q (by omega)
        · rw [if_neg c] at hrow
          have go := Go7_row E hP g4.1 a5.1 (show rb < mk by omega) (show i + j < 1000000 by omega) hrow
          have t0 : tm = 0 := by omega
          refine ⟨T', Gr', R', e', kp', rb + 1, j + 1, ?_, ?_, g3, g4, Or.inl ⟨a5, rfl⟩, ⟨by omega, by omega⟩, fun q hq => g8 q (by omega)⟩
          · rw [show i + (j + 1) = i + j + 1 by omega]; exact Go7_tr g1 go
          · intro KS
            rw [lp_s]
            refine (hfirst KS _).trans ?_
            show lp _ (N' + 1) _ = _
            rw [lp_s]
            exact (rT R' (tv - tm) _ KS _ g4.2.1 (by omega)).trans (if_pos (by omega))
      · refine ⟨T', Gr', R', e', kp', rw', j, g1, ?_, g3, g4, Or.inr d5, ⟨by omega, by omega⟩, fun q hq => g8 q (by omega)⟩
        intro KS
        rw [lp_s]
        refine (hfirst KS _).trans ?_
        show lp _ (N' + 1) _ = _
        rw [lp_s]
        exact rE R' (tv - tm) _ KS _ g4.2.1 (by omega) (De7_n d5).2
  have hmul : tv * (C + 1) ≤ 20 * (C + 1) := Nat.mul_le_mul_right _ (by omega)
  have goA := Go7_row E hP hM.1 hA.1 (show r < mk by omega) (show i < 1000000 by omega) (cA (T := T) hM.1)
  have M2 : Ma ap ec f hd V (sai Gr 9 (up (ai Gr 9) lev (Int32.ofNat (tv - 1)))) R1 e kp := by
    obtain ⟨⟨q0, q1, q2, q3, q4⟩, q5⟩ := hM
    exact ⟨⟨q0, q1, q2, q3, q4⟩, q5⟩
  have e72 := (E.2.2.2.2.2.1 R1 hM.2.1).1
  have hY : ∀ KS, fbX12_runLines_2 (GR12c (g + 1)) KS (eR m ρ R1) m (Int32.ofNat to) (Int32.ofNat l) = fX12_runLines_28 (GR12c (g + 1)) KS (eR m ρ R1) m (Int32.ofNat to) (Int32.ofNat l) 0 := by
    intro KS
    unfold fbX12_runLines_2
    rw [if_neg (show ¬ Int32.ofNat to ≤ Int32.ofNat l from fun q => by rw [le_n (by omega) (by omega)] at q; omega), RG_105, hA.2, Option.bind_some, if_pos rfl, RN_72, Option.bind_some, Rld_72, hil, if_pos rfl, Option.bind_some, cl, e72, s1, if_pos rfl]
  obtain ⟨T2, Gr2, R2, e2, kp2, rw2, j2, f1, f2, f3, f4, f5, ⟨f6, f7⟩, f8⟩ := key tv (by omega) (Nat.le_refl _) (i + 1) fu T _ R1 e kp (by unfold fu; omega) hT M2 ⟨hA.1, hA.2⟩ (show up (ai Gr 9) lev (Int32.ofNat (tv - 1)) lev = _ from up_same _ _ _) ⟨by omega, by omega⟩
  refine ⟨T2, Gr2, R2, e2, kp2, rw2, 1 + j2, ?_, fun KS => ?_, f3, f4, f5, ⟨by omega, by omega⟩, fun q hq => ?_⟩
  · rw [show i + (1 + j2) = i + 1 + j2 by omega]; exact Go7_tr goA f1
  · rw [hY]
    unfold fX12_runLines_28
    rw [← f2 KS, Nat.sub_self]; rfl
  · rw [f8 q hq]
    show up (ai Gr 9) lev _ q = _
    rw [up_ne _ _ _ _ (by omega)]
theorem Run_all (E : Ev7 y ap ec B Hp ok V m ρ hd f k72 k73 k74) {mk : Nat} (hP : PrO Hp mk) : ∀ d, d ≤ 3 → ItemP y ap ec B Hp ok V m ρ hd f k72 k73 k74 mk d := by
  intro d; induction d with
  | zero => intro _; exact item_0 E hP
  | succ d ih => intro h; exact item_s1 E (by omega) hP (block_of E hP (ih (by omega)))
end
