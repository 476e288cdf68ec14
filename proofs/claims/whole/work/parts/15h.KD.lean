section
variable {b : Nat} {σ0 : Hs} {m : Nat} {ρ : Hs} {tx : Nat → Int} {n K : Nat} {G H R : Gs} {a mk L kd l : Nat}
theorem q_signY (h : Lq b tx n K G H R a mk L) {c : Int32} (hs : kA true tx n a = 3 ∧ sA tx n a = c.toInt) : ∃ G' R', fX5_takeSign_0 (st4 b σ0 G H) b c = some (st4 b σ0 G' H) ∧ fX12_next_0 (eR m ρ R) m = some (eR m ρ R') ∧ Lq b tx n K G' H R' (a + 1) mk L ∧ Fr QLk R R' := by
  obtain ⟨G', R', e1, e2, e3, e4⟩ := q_adv (σ0 := σ0) (m := m) (ρ := ρ) h (by rw [hs.1]; decide)
  refine ⟨G', R', ?_, e2, e3, e4⟩
  unfold fX5_takeSign_0
  simp only [z5_C s4_A5, x5_isSign s4_A5 h.1, Option.bind_some, b2i_0]
  rw [if_neg (fun q => q hs), e1]; rfl
theorem q_signN (h : Lq b tx n K G H R a mk L) {c : Int32} (hs : ¬ (kA true tx n a = 3 ∧ sA tx n a = c.toInt)) : fX5_takeSign_0 (st4 b σ0 G H) b c = fX5_refuse_0 (st4 b σ0 G H) b 2 := by
  unfold fX5_takeSign_0
  simp only [z5_C s4_A5, x5_isSign s4_A5 h.1, Option.bind_some, b2i_0]
  rw [if_pos hs]; cases fX5_refuse_0 (st4 b σ0 G H) b 2 <;> rfl
def rsA (b : Nat) (f lev : Int32) (s : Hs) : Option Hs := (gN s (b + 6) 6 0).bind fun vq11 => (isC s vq11 7).bind fun iq12 => (fX5_takeSign_0 s vq11 125).bind fun sq13 => (isC sq13 (b + 6) 6).bind fun iq14 => (fX4_emit_0 sq13 (b + 6) 8 f lev).bind fun sq15 => some sq15
theorem q_restD (h : Dq b tx n K G H R a kd L) (hl : l < 40) (f lev : Int32) (KR : Hs → Nat → Int32 → Option Hs) : ∃ H', rsA b f lev (st4 b σ0 G H) = some (st4 b σ0 G H') ∧ fX12_readLine_276 KR (eR m ρ R) m (Int32.ofNat l) = some (eR m ρ (enR R l)) ∧ Fr [1, 2, 3, 4] H H' ∧ Dq b tx n K G H' (enR R l) a kd L := by
  obtain ⟨mk, hH⟩ := h.2.1
  obtain ⟨H', mk', e1, e2, e3⟩ := p_emitD (G := G) (σ0 := σ0) hH 8 f lev
  have h' : Dq b tx n K G H' R a kd L := ⟨h.1, ⟨mk', e2⟩, h.2.2⟩
  refine ⟨H', ?_, ?_, e3, Dq_fr h' (enR_fr R l) (by decide)⟩
  · unfold rsA
    rw [p_g0 hH.1, Option.bind_some, z5_C s4_A5, Option.bind_some, (qd_sign (σ0 := σ0) (m := m) (ρ := ρ) h 125).1, Option.bind_some, z4_C s4_A4, Option.bind_some, e1, Option.bind_some]
  · unfold fX12_readLine_276
    rw [RG_21, h.2.2.1.1, Option.bind_some, if_neg (bdn (Dq_kd h)).2, r_s77 hl]
theorem q_again (hq : Lq b tx n K G H R a mk L) (hL : L < 40) (hk : kA true tx n a = 1) {d : Nat} (hd : d < 3) {j i : Nat} (hj : 3 * (d + 1) ≤ j) (hi : d + 1 ≤ i) (hl : LineP b σ0 m ρ tx n K d) : Zq b σ0 m ρ tx n K H R a mk L (CI (d + 1) mk L) (fX4_readLine_79 (GR4 j) (st4 b σ0 G H) (b + 6) (Int32.ofNat (3 - (d + 1))) (Int32.ofNat 4)) (fX12_readLine_185 (GR12b i) (eR m ρ R) m (Int32.ofNat (3 - (d + 1))) (Int32.ofNat 4)) := by
  have h0 : fr (sfi H 5 (Int32.ofNat (L + 1))) 0 = some b := hq.2.1.1
  have h5 : fi H 5 = Int32.ofNat L := hq.2.1.2.2.2
  have h62 : fi R 62 = Int32.ofNat L := hq.2.2.1.2
  have hm := hq.2.2.2.1
  have hR := hq.2.2.1.1
  obtain ⟨j', rfl⟩ : ∃ j', j = j' + 3 := ⟨j - 3, by omega⟩
  obtain ⟨i', rfl⟩ : ∃ i', i = i' + 1 := ⟨i - 1, by omega⟩
  obtain ⟨G1, R1, e1, e2, e3, e4⟩ := q_begin (σ0 := σ0) (m := m) (ρ := ρ) hq hL (k := 4) hk
  have F1 : Fr RLk R R1 := ((bgR_fr R L 4).mono (by decide)).trans (e4.mono (by decide))
  have b75 : ai R1 75 = up (ai R 75) L (Int32.ofNat 4) := (e4.ai 75 (by decide))
  have b76 : ai R1 76 = up (ai R 76) L 0 := (e4.ai 76 (by decide))
  have b77 : ai R1 77 = ai R 77 := (e4.ai 77 (by decide))
  have F5 : Fr [1, 2, 3, 4, 5] H (sfi H 5 (Int32.ofNat (L + 1))) := (Fr.refl _ H).sfi (k := 5) (by decide) _
  have elev : Int32.ofNat (3 - (d + 1)) + 1 = Int32.ofNat (3 - d) := by rw [suc32, show 3 - (d + 1) + 1 = 3 - d by omega]
  generalize hlv : Int32.ofNat (3 - (d + 1)) = lev at *
  have hX : fX4_readLine_79 (GR4 (j' + 3)) (st4 b σ0 G H) (b + 6) lev (Int32.ofNat 4) = (fX4_takeNumber_0 (st4 b σ0 G1 (sfi H 5 (Int32.ofNat (L + 1)))) (b + 6) 2 20).bind fun vq2 => (gN vq2.2 (b + 6) 6 0).bind fun vq3 => (isC vq2.2 vq3 7).bind fun iq4 => (fX5_takeSign_0 vq2.2 vq3 123).bind fun sq5 => (isC sq5 (b + 6) 6).bind fun iq6 => (fX4_emit_0 sq5 (b + 6) 4 vq2.1 lev).bind fun sq7 => (gI sq7 (b + 6) 6 4).bind fun vq8 => (isC sq7 (b + 6) 6).bind fun iq9 => (fX4_readLinesWithin_2 (GR4 (j' + 1)) sq7 (b + 6) (Int32.ofNat (3 - d)) 0).bind (rsA b vq8 lev) := by
    unfold fX4_readLine_79
    simp only [z4_g5 s4_A4, h5, Option.bind_some, z4_p5 s4_A4, s4_w4, suc32, p_g0 h0, z5_C s4_A5, e1]
    rw [if_pos (show Int32.ofNat 4 = 4 from rfl), z4_C s4_A4, Option.bind_some]
    show ((fX4_readAgain_0 (GR4 (j' + 2)) _ _ _).bind fun sq14 => some sq14) = _
    rw [show ∀ o : Option Hs, (o.bind fun s => some s) = o from fun o => by cases o <;> rfl]
    unfold fX4_readAgain_0
    rw [z4_C s4_A4, Option.bind_some, elev]
    rfl
  have hY : fX12_readLine_185 (GR12b (i' + 1)) (eR m ρ R) m lev (Int32.ofNat 4) = (fX12_readNumber_0 (eR m ρ R1) m 2 20).bind fun vq21 => (stI 0 vq21.2 (m + 38) (Int32.ofNat L) vq21.1).bind fun sq22 => (isC sq22 m 14).bind fun iq23 => (fX12_readSign_0 sq22 m 123).bind fun sq24 => fX12_readLine_250 (GR12b (i' + 1)) sq24 m lev (Int32.ofNat L) := by
    have hb : fX12_next_0 (eR m ρ (sai (sai (sfi R 62 (Int32.ofNat (L + 1))) 75 (up (ai R 75) L (Int32.ofNat 4))) 76 (up (ai R 76) L 0))) m = some (eR m ρ R1) := e2
    unfold fX12_readLine_185
    simp only [RG_21, hR.2.2, Int32.le_refl, if_true, Option.bind_some, RG_62, h62, RP_62, suc32, RN_75, RN_76, Rst_75, Rst_76, q_fi_sfi, q_fl_sfi, q_fr_sfi, q_ai_sfi, q_al_sfi, q_ar_sfi, q_ln_sfi, q_fi_sfl, q_fl_sfl, q_fr_sfl, q_ai_sfl, q_al_sfl, q_ar_sfl, q_ln_sfl, q_fi_sfr, q_fl_sfr, q_fr_sfr, q_ai_sfr, q_al_sfr, q_ar_sfr, q_ln_sfr, q_fi_sai, q_fl_sai, q_fr_sai, q_ai_sai, q_al_sai, q_ar_sai, q_ln_sai, q_fi_sal, q_fl_sal, q_fr_sal, q_ai_sal, q_al_sal, q_ar_sal, q_ln_sal, q_fi_sar, q_fl_sar, q_fr_sar, q_ai_sar, q_al_sar, q_ar_sar, q_ln_sar, reduceIte, Nat.reduceEqDiff, ix_n (show L < 2147483648 by omega), decide_eq_true hL, c32 (show L < 2147483648 by omega), RisC]
    rw [hb]
    simp only [Option.bind_some, if_pos (show Int32.ofNat 4 = 4 from rfl), RN_76, RisC]
  have g_dead : ∀ KK (Ra : Gs) kd, fi Ra 21 = Int32.ofNat kd → (0 < kd ∧ kd < 7) → fbX12_readLine_250 (GR12b (i' + 1)) KK (eR m ρ Ra) m lev (Int32.ofNat L) = fX12_readLine_276 (GR12b (i' + 1)) (eR m ρ Ra) m (Int32.ofNat L) := by
    intro KK Ra kd q1 q2
    unfold fbX12_readLine_250
    rw [RG_21, q1, Option.bind_some, if_neg (bdn q2).2]
  have g_al : ∀ KK (Ra : Gs) a, RB Ra true tx n a → fbX12_readLine_250 (GR12b (i' + 1)) KK (eR m ρ Ra) m lev (Int32.ofNat L) = if ¬ (kA true tx n a = 3 ∧ sA tx n a = (125 : Int32).toInt) then (fX12_readLine_0 (GR12b i') (eR m ρ Ra) m (Int32.ofNat (3 - d))).bind fun s => KK s m lev (Int32.ofNat L) else fX12_readLine_276 (GR12b (i' + 1)) (eR m ρ Ra) m (Int32.ofNat L) := by
    intro KK Ra a q
    unfold fbX12_readLine_250
    simp only [RG_21, q.2.2, Option.bind_some, if_true, RisC, rb_sign q, b2i_0, elev]
    rfl
  have dead : ∀ {G2 H2 R2 : Gs} {a2 kd L2 : Nat} (f : Int32), Dq b tx n K G2 H2 R2 a2 kd L2 → Fr [1, 2, 3, 4, 5] H H2 → Fr RLk R R2 → a ≤ a2 → Zq b σ0 m ρ tx n K H R a mk L (CI (d + 1) mk L) ((fX4_readLinesWithin_2 (GR4 (j' + 1)) (st4 b σ0 G2 H2) (b + 6) (Int32.ofNat (3 - d)) 0).bind (rsA b f lev)) (fX12_readLine_250 (GR12b (i' + 1)) (eR m ρ R2) m lev (Int32.ofNat L)) := by
    intro G2 H2 R2 a2 kd L2 f hD hF2 hF3 ha2
    obtain ⟨H3, x3, y3, f3, d3⟩ := q_restD (σ0 := σ0) (m := m) (ρ := ρ) hD hL f lev (GR12b (i' + 1))
    refine Or.inr ⟨G2, H3, enR R2 L, a2, kd, L2, ?_, ?_, d3, ⟨hF2.trans (f3.mono (by decide)), hF3.trans ((enR_fr R2 L).mono (by decide))⟩, ha2⟩
    · unfold fX4_readLinesWithin_2
      rw [show fu = 999999 + 1 from rfl, qd_within hD, Option.bind_some, x3]
    · unfold fX12_readLine_250
      rw [show fu = 999999 + 1 from rfl, lp_s]
      show fbX12_readLine_250 _ _ (eR m ρ R2) m lev (Int32.ofNat L) = _
      rw [g_dead _ R2 kd hD.2.2.1.1 (Dq_kd hD), y3]
  have deadE : ∀ {G2 R2 : Gs} {a2 kd : Nat} (v : Int32), Dq b tx n K G2 (sfi H 5 (Int32.ofNat (L + 1))) R2 a2 kd (L + 1) → Fr RLk R R2 → a ≤ a2 → Zq b σ0 m ρ tx n K H R a mk L (CI (d + 1) mk L) ((fX4_emit_0 (st4 b σ0 G2 (sfi H 5 (Int32.ofNat (L + 1)))) (b + 6) 4 v lev).bind fun sq7 => (gI sq7 (b + 6) 6 4).bind fun vq8 => (isC sq7 (b + 6) 6).bind fun iq9 => (fX4_readLinesWithin_2 (GR4 (j' + 1)) sq7 (b + 6) (Int32.ofNat (3 - d)) 0).bind (rsA b vq8 lev)) (fX12_readLine_250 (GR12b (i' + 1)) (eR m ρ R2) m lev (Int32.ofNat L)) := by
    intro G2 R2 a2 kd v hD hF3 ha2
    obtain ⟨mk2, hH⟩ := hD.2.1
    obtain ⟨H', mk', q1, q2, q3⟩ := p_emitD (G := G2) (σ0 := σ0) hH 4 v lev
    rw [q1, Option.bind_some, z4_g4 s4_A4, Option.bind_some, z4_C s4_A4, Option.bind_some]
    exact dead _ ⟨hD.1, ⟨mk', q2⟩, hD.2.2⟩ (F5.trans (q3.mono (by decide))) hF3 ha2
  rw [hX, hY]
  rcases q_num (σ0 := σ0) (m := m) (ρ := ρ) e3 2 20 with ⟨G2, R2, a2, v, x2, y2, l2, f2, g2, lo, hi2⟩ | ⟨G2, R2, a2, k2, v, x2, y2, d2, f2, g2⟩
  rotate_left
  · rw [x2, y2]
    simp only [Option.bind_some, p_g0 h0, z5_C s4_A5, r_s76 hL, RisC]
    have d2' := Dq_fr d2 (s76_fr R2 L 0) (by decide)
    obtain ⟨s1, s2⟩ := qd_sign (σ0 := σ0) (m := m) (ρ := ρ) d2' 123
    rw [s1, s2]
    simp only [Option.bind_some, z4_C s4_A4]
    exact deadE v d2' ((F1.trans (f2.mono (by decide))).trans ((s76_fr R2 L 0).mono (by decide))) (by omega)
  rw [x2, y2]
  simp only [Option.bind_some, p_g0 h0, z5_C s4_A5, r_s76 hL, RisC]
  have l2' := Lq_fr l2 (s76_fr R2 L v) (by decide)
  have F2 : Fr RLk R (s76 R2 L v) := (F1.trans (f2.mono (by decide))).trans ((s76_fr R2 L v).mono (by decide))
  rcases q_sign (σ0 := σ0) (m := m) (ρ := ρ) l2' 123 with ⟨G3, R3, a3, x3, y3, l3, f3, g3⟩ | ⟨G3, R3, a3, k3, x3, y3, d3, f3, g3⟩
  rotate_left
  · rw [x3, y3]
    simp only [Option.bind_some, z4_C s4_A4]
    exact deadE v d3 (F2.trans (f3.mono (by decide))) (by omega)
  rw [x3, y3]
  simp only [Option.bind_some, z4_C s4_A4]
  obtain ⟨p1, p2, p3⟩ := p_emit (G := G3) (σ0 := σ0) l3.2.1 (show mk < 80 by omega) 4 v lev
  have l4 : Lq b tx n K G3 (emQ (sfi H 5 (Int32.ofNat (L + 1))) mk 4 v lev) R3 a3 (mk + 1) (L + 1) := ⟨l3.1, p2, l3.2.2.1, by omega, by omega⟩
  rw [p1, Option.bind_some, z4_g4 s4_A4, Option.bind_some, z4_C s4_A4, Option.bind_some, p2.2.2.1.1]
  have F3 : Fr RLk R R3 := F2.trans (f3.mono (by decide))
  have FH3 : Fr [1, 2, 3, 4, 5] H (emQ (sfi H 5 (Int32.ofNat (L + 1))) mk 4 v lev) := F5.trans (p3.mono (by decide))
  have c75 : ai R3 75 = up (ai R 75) L (Int32.ofNat 4) := (f3.ai 75 (by decide)).trans ((f2.ai 75 (by decide)).trans b75)
  have c76 : ai R3 76 = up (ai R2 76) L v := (f3.ai 76 (by decide))
  have c76' : ai R2 76 = up (ai R 76) L 0 := (f2.ai 76 (by decide)).trans b76
  have c77 : ai R3 77 = ai R 77 := (f3.ai 77 (by decide)).trans ((f2.ai 77 (by decide)).trans b77)
  have hH1 : ∀ j, j < mk → ai (emQ (sfi H 5 (Int32.ofNat (L + 1))) mk 4 v lev) 1 j = ai H 1 j ∧ ai (emQ (sfi H 5 (Int32.ofNat (L + 1))) mk 4 v lev) 2 j = ai H 2 j ∧ ai (emQ (sfi H 5 (Int32.ofNat (L + 1))) mk 4 v lev) 3 j = ai H 3 j := fun j hj => ⟨up_ne _ _ _ _ (by omega), up_ne _ _ _ _ (by omega), up_ne _ _ _ _ (by omega)⟩
  have hH2 : ai (emQ (sfi H 5 (Int32.ofNat (L + 1))) mk 4 v lev) 1 mk = 4 ∧ ai (emQ (sfi H 5 (Int32.ofNat (L + 1))) mk 4 v lev) 2 mk = v ∧ ai (emQ (sfi H 5 (Int32.ofNat (L + 1))) mk 4 v lev) 3 mk = lev := ⟨up_same _ _ _, up_same _ _ _, up_same _ _ _⟩
  generalize emQ (sfi H 5 (Int32.ofNat (L + 1))) mk 4 v lev = H3 at *
  refine q_block (S2 := Hs × Nat × Int32 × Int32) (T2 := Hs) (F2 := fun (k : Hs × Nat × Int32 × Int32 → Option Hs) (z : Hs × Nat × Int32 × Int32) => fbX12_readLine_250 (GR12b (i' + 1)) (fun σ xv0 xv1 xv3 => k (σ, xv0, xv1, xv3)) z.1 z.2.1 z.2.2.1 z.2.2.2) (mkS := fun s => (s, m, lev, Int32.ofNat L)) (E := fun s => fX12_readLine_276 (GR12b (i' + 1)) s m (Int32.ofNat L)) (rest := rsA b (Int32.ofNat (mk + 1)) lev) (Q := Zq b σ0 m ρ tx n K H R a mk L (CI (d + 1) mk L)) (Stop := fun a => kA true tx n a = 3 ∧ sA tx n a = (125 : Int32).toInt) (d := d) (j := j') (i := i') (H0 := H3) (R0 := R3) (a0 := a3) (mk0 := mk + 1) (L0 := L + 1) (by omega) (by omega) (by omega) hl (fun a q => Or.inr q) (fun KK Ra a q1 q2 => ?_) (fun KK Ra a q1 q2 => ?_) (fun KK Ra kd q1 q2 => ?_) ?_ ?_ ?_ 100 fu fu 0 G3 H3 R3 a3 (mk + 1) (L + 1) (Bs_new l4) (by omega) (by decide) (by decide) (by omega)
  · exact (g_al _ Ra a q1).trans (if_pos q2)
  · exact (g_al _ Ra a q1).trans (if_neg (fun q => q q2))
  · exact g_dead _ Ra kd q1 q2
  · -- the block is read
    intro G4 H4 R4 a4 mk4 L4 hB hst
    obtain ⟨w1, ⟨w2, w3⟩, ⟨w4, w5, w6⟩, w7, w8, w9, w10⟩ := hB
    obtain ⟨G5, R5, x5, y5, l5, f5⟩ := q_signY (σ0 := σ0) (m := m) (ρ := ρ) w1 hst
    have hm4 : mk4 < 80 := by have := w1.2.2.2.2; omega
    obtain ⟨u1, u2, u3⟩ := p_emit (G := G5) (σ0 := σ0) l5.2.1 hm4 8 (Int32.ofNat (mk + 1)) lev
    have h04 : fr H4 0 = some b := w1.2.1.1
    have hrest : rsA b (Int32.ofNat (mk + 1)) lev (st4 b σ0 G4 H4) = some (st4 b σ0 G5 (emQ H4 mk4 8 (Int32.ofNat (mk + 1)) lev)) := by
      unfold rsA
      rw [p_g0 h04, Option.bind_some, z5_C s4_A5, Option.bind_some, x5, Option.bind_some, z4_C s4_A4, Option.bind_some, u1, Option.bind_some]
    have hE : fX12_readLine_276 (GR12b (i' + 1)) (eR m ρ R4) m (Int32.ofNat L) = some (eR m ρ (enR R5 L)) := by
      unfold fX12_readLine_276
      rw [RG_21, w1.2.2.1.1.2.2, Option.bind_some, if_pos rfl, RisC, Option.bind_some, y5, Option.bind_some, r_s77 hL]
    have v1 : ∀ j, ai (enR R5 L) 75 j = ai R4 75 j := fun j => congrFun (f5.ai 75 (by decide)) j
    have v2 : ∀ j, ai (enR R5 L) 76 j = ai R4 76 j := fun j => congrFun (f5.ai 76 (by decide)) j
    have v3 : ∀ j, j ≠ L → ai (enR R5 L) 77 j = ai R4 77 j := fun j hj => (up_ne _ _ _ _ hj).trans (congrFun (f5.ai 77 (by decide)) j)
    have v4 : ai (enR R5 L) 77 L = Int32.ofNat L4 := (up_same _ _ _).trans l5.2.2.1.2
    have t1 : ∀ j, j ≠ mk4 → ai (emQ H4 mk4 8 (Int32.ofNat (mk + 1)) lev) 1 j = ai H4 1 j ∧ ai (emQ H4 mk4 8 (Int32.ofNat (mk + 1)) lev) 2 j = ai H4 2 j ∧ ai (emQ H4 mk4 8 (Int32.ofNat (mk + 1)) lev) 3 j = ai H4 3 j := fun j hj => ⟨up_ne _ _ _ _ hj, up_ne _ _ _ _ hj, up_ne _ _ _ _ hj⟩
    have t2 : ai (emQ H4 mk4 8 (Int32.ofNat (mk + 1)) lev) 1 mk4 = 8 ∧ ai (emQ H4 mk4 8 (Int32.ofNat (mk + 1)) lev) 2 mk4 = Int32.ofNat (mk + 1) ∧ ai (emQ H4 mk4 8 (Int32.ofNat (mk + 1)) lev) 3 mk4 = lev := ⟨up_same _ _ _, up_same _ _ _, up_same _ _ _⟩
    have z1 := w7 mk (by omega)
    have z2 := w8 L (by omega)
    have tm := t1 mk (by omega)
    refine Or.inl ⟨G5, emQ H4 mk4 8 (Int32.ofNat (mk + 1)) lev, enR R5 L, a4 + 1, mk4 + 1, L4, hrest, hE, Lq_fr ⟨l5.1, u2, l5.2.2.1, by omega, w1.2.2.2.2⟩ (enR_fr R5 L) (by decide), ⟨FH3.trans (w2.trans (u3.mono (by decide))), F3.trans (w3.trans ((f5.mono (by decide)).trans ((enR_fr R5 L).mono (by decide))))⟩, ⟨by omega, by omega, by omega⟩, fun q hq' => ?_, fun q hq' => ?_, Or.inr ⟨v, mk4, ⟨?_, ?_⟩, ⟨?_, ?_, lo, hi2⟩, ?_, v4, ⟨by omega, by omega, rfl⟩, ⟨t2.1, t2.2.1, ?_⟩, ?_⟩, by omega⟩
    · have o1 := t1 q (by omega); have o2 := w7 q (by omega); have o3 := hH1 q hq'
      exact ⟨o1.1.trans (o2.1.trans o3.1), o1.2.1.trans (o2.2.1.trans o3.2.1), o1.2.2.trans (o2.2.2.trans o3.2.2)⟩
    · have o2 := w8 q (by omega)
      refine ⟨(v1 q).trans (o2.1.trans ?_), (v2 q).trans (o2.2.1.trans ?_), (v3 q (by omega)).trans (o2.2.2.trans (by rw [c77]))⟩
      · rw [c75, up_ne _ _ _ _ (by omega)]
      · rw [c76, up_ne _ _ _ _ (by omega), c76', up_ne _ _ _ _ (by omega)]
    · rw [v1, z2.1, c75, up_same]; rfl
    · rw [tm.1, z1.1]; exact hH2.1
    · rw [v2, z2.2.1, c76, up_same]
    · rw [tm.2.1, z1.2.1]; exact hH2.2.1
    · rw [tm.2.2, z1.2.2, hlv]; exact hH2.2.2
    · rw [t2.2.2, hlv]
    · exact Bk_cg w9 (fun j j1 j2 => ⟨v1 j, v2 j, v3 j (by omega)⟩) (fun j j1 j2 => t1 j (by omega))
  · -- a fault within
    intro G4 H4 R4 a4 kd4 L4 hD ⟨w2, w3⟩ w4
    obtain ⟨H5, x5, y5, f5, d5⟩ := q_restD (σ0 := σ0) (m := m) (ρ := ρ) hD hL (Int32.ofNat (mk + 1)) lev (GR12b (i' + 1))
    exact Or.inr ⟨G4, H5, enR R4 L, a4, kd4, L4, x5, y5, d5, ⟨FH3.trans (w2.trans (f5.mono (by decide))), F3.trans (w3.trans ((enR_fr R4 L).mono (by decide)))⟩, by omega⟩
  · -- the text ends within
    intro G4 H4 R4 a4 mk4 L4 G5 R5 kd5 hB hst _ hr hD hF
    obtain ⟨w1, ⟨w2, w3⟩, ⟨w4, w5, w6⟩, -⟩ := hB
    obtain ⟨H5, x5, y5, f5, d5⟩ := q_restD (σ0 := σ0) (m := m) (ρ := ρ) hD hL (Int32.ofNat (mk + 1)) lev (GR12b (i' + 1))
    have h04 : fr H4 0 = some b := w1.2.1.1
    have hrest : rsA b (Int32.ofNat (mk + 1)) lev (st4 b σ0 G4 H4) = rsA b (Int32.ofNat (mk + 1)) lev (st4 b σ0 G5 H4) := by
      unfold rsA
      rw [p_g0 h04, p_g0 h04, Option.bind_some, Option.bind_some, z5_C s4_A5, z5_C s4_A5, Option.bind_some, Option.bind_some, q_signN w1 hst, hr, (qd_sign (σ0 := σ0) (m := m) (ρ := ρ) hD 125).1]
    exact Or.inr ⟨G5, H5, enR R5 L, a4, kd5, L4, hrest.trans x5, y5, d5, ⟨FH3.trans (w2.trans (f5.mono (by decide))), F3.trans (w3.trans ((hF.mono (by decide)).trans ((enR_fr R5 L).mono (by decide))))⟩, by omega⟩
theorem Zq_mono {C C' : Gs → Gs → Nat → Nat → Prop} {X Y : Option Hs} (hC : ∀ H' R' mk' L', C H' R' mk' L' → C' H' R' mk' L') (h : Zq b σ0 m ρ tx n K H R a mk L C X Y) : Zq b σ0 m ρ tx n K H R a mk L C' X Y := by
  rcases h with ⟨G', H', R', a', mk', L', x1, y1, l1, f1, g1, kH, kR, cI⟩ | h
  · exact Or.inl ⟨G', H', R', a', mk', L', x1, y1, l1, f1, g1, kH, kR, hC _ _ _ _ cI⟩
  · exact Or.inr h
theorem Line_all : ∀ d, d ≤ 3 → LineP b σ0 m ρ tx n K d := by
  intro d; induction d with
  | zero =>
    intro _ j i hj hi G H R a mk L hq
    rcases q_line0 (σ0 := σ0) (m := m) (ρ := ρ) hq (lev := 3 - 0) (by omega) (GR4 j) (GR12b i) with ⟨k, k5, k1, kL, k4, x1, y1⟩ | ⟨G', R', kd, x1, y1, d1, f1⟩
    · rw [x1, y1]
      refine Zq_mono ?_ (q_simple hq kL k1 (lev := 3 - 0) (show k < 4 from ?_) (GR4 j) (GR12b i))
      · rintro H' R' mk' L' ⟨rfl, rfl, q⟩
        exact ⟨⟨⟨rfl, rfl⟩, q⟩, by omega⟩
      · by_cases c : k = 4
        · have := k4 c; omega
        · omega
    · rw [x1, y1]
      exact Or.inr ⟨G', H, R', a, kd, L, rfl, rfl, d1, ⟨Fr.refl _ _, f1.mono (by decide)⟩, Nat.le_refl _⟩
  | succ d ih =>
    intro hd j i hj hi G H R a mk L hq
    rcases q_line0 (σ0 := σ0) (m := m) (ρ := ρ) hq (lev := 3 - (d + 1)) (by omega) (GR4 j) (GR12b i) with ⟨k, k5, k1, kL, k4, x1, y1⟩ | ⟨G', R', kd, x1, y1, d1, f1⟩
    · rw [x1, y1]
      by_cases c : k = 4
      · subst c
        exact q_again hq kL k1 (by omega) hj hi (ih (by omega))
      · refine Zq_mono ?_ (q_simple hq kL k1 (lev := 3 - (d + 1)) (show k < 4 by omega) (GR4 j) (GR12b i))
        rintro H' R' mk' L' ⟨rfl, rfl, q⟩
        exact ⟨Or.inl ⟨⟨rfl, rfl⟩, q⟩, by omega⟩
    · rw [x1, y1]
      exact Or.inr ⟨G', H, R', a, kd, L, rfl, rfl, d1, ⟨Fr.refl _ _, f1.mono (by decide)⟩, Nat.le_refl _⟩
end
