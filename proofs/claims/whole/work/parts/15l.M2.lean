def mdD (v : Int64) : Int64 := v - v / 100000000 * 100000000
theorem fbU_c (K : Hs → Nat → Int64 → Int32 → Option Hs) (s : Hs) (y : Nat) (g : Int64) (i : Int32) : fbX7_goOnUntil_2 K s y g i = if 5000 < i then (some s) else ((gI s y 9 5).bind fun vq1 => if vq1 = 0 then ((gL s y 9 4).bind fun vq2 => if g ≤ mdD vq2 then (some s) else ((isC s y 9).bind fun iq3 => (fX7_goOn_0 s y).bind fun sq4 => K sq4 y g (i + 1))) else (some s)) := rfl
theorem fbU_r (K : Hs → Nat → Int32 → Option Hs) (s : Hs) (m : Nat) (l : Int32) : fbX12_runLine_140 K s m l = ((gI s m 14 105).bind fun vq1 => if vq1 = (-1) then ((gN s m 14 13).bind fun vq2 => (gI s m 14 63).bind fun vq3 => (ldI 0 s vq2 vq3).bind fun vq4 => (gI s m 14 65).bind fun vq5 => (isC s m 14).bind fun iq6 => (fX12_showsOf_0 s m vq4 vq5).bind fun vq7 => (gN vq7.2 m 14 73).bind fun vq8 => (ldI 0 vq7.2 vq8 l).bind fun vq9 => if 1000 * vq9.toInt64 ≤ mdD vq7.1 then (some vq7.2) else ((isC vq7.2 m 14).bind fun iq10 => (fX12_goesOn_0 vq7.2 m).bind fun sq11 => K sq11 m l)) else (some s)) := rfl
theorem thou_eq (s : Hs) (v : Int64) : fX11_thousandthsInAll_0 s v = some (pln v) := rfl
section
variable {y ap ec : Nat} {B : Gs → Hs} {Hp : Gs} {ok : Gs → Prop} {V : Int32 → Int64} {m : Nat} {ρ : Hs} {hd : Gs → Prop} {f : Nat} {k72 k73 k74 : Nat → Int32} {T Gr R1 : Gs} {e kp : Nat}
theorem w_wait (E : Ev7 y ap ec B Hp ok V m ρ hd f k72 k73 k74) (h : Ma ap ec f hd V Gr R1 e kp) (hA : Al7 Gr R1) (hT : ok T) {l : Nat} (hl : l < 40) (b0 : Int32) (g : Int64) : Rz y ap ec B ok V m ρ hd f Gr kp (fX7_waitFor_23 (e7 y (B T) Gr) y (k73 l) b0 g 0) (fX12_runLine_51 (eR m ρ R1) m (Int32.ofNat l) g b0) := by
  have hil : ix (Int32.ofNat l) 40 = true := by rw [ix_n (by omega)]; exact decide_eq_true hl
  have al60 : ∀ {T' Gr' R' : Gs} {e' : Nat}, ok T' → Ma ap ec f hd V Gr' R' e' kp → Al7 Gr' R' → Fr [3, 4, 5] Gr Gr' → Rz y ap ec B ok V m ρ hd f Gr kp (fX7_waitFor_60 (e7 y (B T') Gr') y (k73 l) b0) (fX12_runLine_92 (eR m ρ R') m (Int32.ofNat l) b0) := by
    intro T' Gr' R' e' hT' hM hA' hF
    obtain ⟨⟨g0, g1, g2, g8, g9⟩, h2, ⟨h3, h4, h5⟩, h6, h7, ⟨h8, h9⟩, h10⟩ := hM
    have h73 := (E.2.2.2.2.2.1 R' h2).2.1
    unfold fX7_waitFor_60 fX12_runLine_92
    simp only [y7_g5, hA'.1, Option.bind_some, if_true, y7_g6, y7_g3, y7_p6, RG_66, RG_105, hA'.2, RG_65, RN_73, Rld_73, hil, c32 (show l < 2147483648 by omega), h73, RP_66, h3, h4, h7]
    exact ⟨T', _, _, e', kp, rfl, rfl, hT', ⟨⟨g0, g1, g2, g8, g9⟩, E.2.2.2.1 R' _ h2 ((Fr.refl _ R').sfi (k := 66) (by decide) _), ⟨h3, h4, h5⟩, h6, rfl, ⟨h8, h9⟩, h10⟩, Or.inl ⟨hA'.1, hA'.2⟩, by omega, (hF.mono (by decide)).sfi (k := 6) (by decide) _⟩
  have de60 : ∀ {T' Gr' R' : Gs} {e' : Nat}, ok T' → Ma ap ec f hd V Gr' R' e' kp → De7 Gr' R' → Fr [3, 4, 5] Gr Gr' → Rz y ap ec B ok V m ρ hd f Gr kp (fX7_waitFor_60 (e7 y (B T') Gr') y (k73 l) b0) (fX12_runLine_92 (eR m ρ R') m (Int32.ofNat l) b0) := by
    intro T' Gr' R' e' hT' hM hD hF
    obtain ⟨⟨g0, g1, g2, g8, g9⟩, h2, ⟨h3, h4, h5⟩, h6, h7, ⟨h8, h9⟩, h10⟩ := hM
    unfold fX7_waitFor_60 fX12_runLine_92
    simp only [y7_g5, Option.bind_some, if_neg (De7_n hD).1, RG_66, RG_105, if_neg (De7_n hD).2, RP_66, Int32.add_zero]
    exact ⟨T', _, _, e', kp, rfl, rfl, hT', ⟨⟨g0, g1, g2, g8, g9⟩, E.2.2.2.1 R' _ h2 ((Fr.refl _ R').sfi (k := 66) (by decide) _), ⟨h3, h4, h5⟩, h6, h7, ⟨h8, h9⟩, h10⟩, Or.inr hD, by omega, hF.mono (by decide)⟩
  unfold fX7_waitFor_23 fX12_runLine_51
  refine lp_2 (fun t (s1 : Hs × Nat × Int32 × Int32 × Int64 × Int32) (s2 : Hs × Nat × Int32 × Int64 × Int32) => ∃ T' Gr' R' e' i, s1 = (e7 y (B T') Gr', y, k73 l, b0, g, Int32.ofNat i) ∧ s2 = (eR m ρ R', m, Int32.ofNat l, g, b0) ∧ ok T' ∧ Ma ap ec f hd V Gr' R' e' kp ∧ Fr [3, 4, 5] Gr Gr' ∧ ((Al7 Gr' R' ∧ i ≤ e' ∧ t + e' = 5002) ∨ (De7 Gr' R' ∧ t = 0))) (Rz y ap ec B ok V m ρ hd f Gr kp) ?_ fu (5002 - e) _ _ ⟨T, Gr, R1, e, 0, rfl, rfl, hT, h, Fr.refl _ _, Or.inl ⟨hA, by omega, by have := h.2.2.1.2.2; omega⟩⟩ (by unfold fu; omega)
  rintro K1 K2 t _ _ ⟨T', Gr', R', e', i, rfl, rfl, hT', hM, hF, ⟨hA', hi, ht⟩ | ⟨hD, ht⟩⟩
  · have h5 := hM.2.2.1.2.2
    have i5 : ¬ (5000 : Int32) < Int32.ofNat i := fun q => by rw [show (5000 : Int32) = Int32.ofNat 5000 from rfl, lt_n (by decide) (by omega)] at q; omega
    obtain ⟨R2, F2, hL⟩ := w_see E hM
    have hM2 := Ma.fr E hM F2
    have hA2 := hA'.fr F2
    have hsh := hM.2.2.2.1
    have tc : ∀ K, fbX7_waitFor_23 K (e7 y (B T') Gr') y (k73 l) b0 g (Int32.ofNat i) = if g ≤ pln (V (Int32.ofNat (f + e'))) then fX7_waitFor_60 (e7 y (B T') Gr') y (k73 l) b0 else (fX7_goOn_0 (e7 y (B T') Gr') y).bind fun s => K s y (k73 l) b0 g (Int32.ofNat (i + 1)) := by
      intro K
      unfold fbX7_waitFor_23
      rw [if_neg i5, y7_g5, hA'.1, Option.bind_some, if_pos rfl, y7_g4, hsh, Option.bind_some, thou_eq, Option.bind_some, y7_C, suc32]; rfl
    have tr : ∀ K, fbX12_runLine_51 K (eR m ρ R') m (Int32.ofNat l) g b0 = if g ≤ pln (V (Int32.ofNat (f + e'))) then fX12_runLine_92 (eR m ρ R2) m (Int32.ofNat l) b0 else (fX12_goesOn_0 (eR m ρ R2) m).bind fun s => K s m (Int32.ofNat l) g b0 := by
      intro K
      unfold fbX12_runLine_51
      rw [RG_105, hA'.2, Option.bind_some, if_pos rfl, hL]
      show (fX12_plain_0 (eR m ρ R2) (V (Int32.ofNat (f + e')))).bind _ = _
      rw [r_pln, Option.bind_some, RisC]; rfl
    show (∃ t' s1' s2', t' < t ∧ _ ∧ fbX7_waitFor_23 _ _ _ _ _ _ _ = K1 s1' ∧ fbX12_runLine_51 _ _ _ _ _ _ = K2 s2') ∨ Rz y ap ec B ok V m ρ hd f Gr kp (fbX7_waitFor_23 _ _ _ _ _ _ _) (fbX12_runLine_51 _ _ _ _ _ _)
    rw [tc, tr]
    by_cases c : g ≤ pln (V (Int32.ofNat (f + e')))
    · right
      rw [if_pos c, if_pos c]
      exact al60 hT' hM2 hA2 hF
    · rw [if_neg c, if_neg c]
      obtain ⟨T3, G3, R3, e3, x3, y3, o3, M3, alt, F3⟩ := w_go E hM2 hA2 hT'
      left
      rw [x3, y3, Option.bind_some, Option.bind_some]
      rcases alt with ⟨a3, rfl⟩ | d3
      · exact ⟨t - 1, _, _, by omega, ⟨T3, G3, R3, e' + 1, i + 1, rfl, rfl, o3, M3, hF.trans F3, Or.inl ⟨a3, by omega, by omega⟩⟩, rfl, rfl⟩
      · exact ⟨0, _, _, by omega, ⟨T3, G3, R3, e3, i + 1, rfl, rfl, o3, M3, hF.trans F3, Or.inr ⟨d3, rfl⟩⟩, rfl, rfl⟩
  · right
    have q1 : fbX7_waitFor_23 (fun σ xv0 xv1 xv2 xv3 xv5 => K1 (σ, xv0, xv1, xv2, xv3, xv5)) (e7 y (B T') Gr') y (k73 l) b0 g (Int32.ofNat i) = fX7_waitFor_60 (e7 y (B T') Gr') y (k73 l) b0 := by
      unfold fbX7_waitFor_23
      rw [y7_g5, Option.bind_some, if_neg (De7_n hD).1, ite_self]
    have q2 : fbX12_runLine_51 (fun σ xv0 xv1 xv4 xv6 => K2 (σ, xv0, xv1, xv4, xv6)) (eR m ρ R') m (Int32.ofNat l) g b0 = fX12_runLine_92 (eR m ρ R') m (Int32.ofNat l) b0 := by
      unfold fbX12_runLine_51
      rw [RG_105, Option.bind_some, if_neg (De7_n hD).2]
    show Rz y ap ec B ok V m ρ hd f Gr kp (fbX7_waitFor_23 _ _ _ _ _ _ _) (fbX12_runLine_51 _ _ _ _ _ _)
    rw [q1, q2]
    exact de60 hT' hM hD hF
theorem w_until (E : Ev7 y ap ec B Hp ok V m ρ hd f k72 k73 k74) (h : Ma ap ec f hd V Gr R1 e kp) (hA : Al7 Gr R1) (hT : ok T) {l : Nat} (hl : l < 40) : Rz y ap ec B ok V m ρ hd f Gr kp (fX7_goOnUntil_2 (e7 y (B T) Gr) y (1000 * (k73 l).toInt64) 0) (fX12_runLine_140 (eR m ρ R1) m (Int32.ofNat l)) := by
  have hil : ix (Int32.ofNat l) 40 = true := by rw [ix_n (by omega)]; exact decide_eq_true hl
  unfold fX7_goOnUntil_2 fX12_runLine_140
  refine lp_2 (fun t (s1 : Hs × Nat × Int64 × Int32) (s2 : Hs × Nat × Int32) => ∃ T' Gr' R' e' i, s1 = (e7 y (B T') Gr', y, 1000 * (k73 l).toInt64, Int32.ofNat i) ∧ s2 = (eR m ρ R', m, Int32.ofNat l) ∧ ok T' ∧ Ma ap ec f hd V Gr' R' e' kp ∧ Fr [3, 4, 5] Gr Gr' ∧ ((Al7 Gr' R' ∧ i ≤ e' ∧ t + e' = 5002) ∨ (De7 Gr' R' ∧ t = 0))) (Rz y ap ec B ok V m ρ hd f Gr kp) ?_ fu (5002 - e) _ _ ⟨T, Gr, R1, e, 0, rfl, rfl, hT, h, Fr.refl _ _, Or.inl ⟨hA, by omega, by have := h.2.2.1.2.2; omega⟩⟩ (by unfold fu; omega)
  rintro K1 K2 t _ _ ⟨T', Gr', R', e', i, rfl, rfl, hT', hM, hF, ⟨hA', hi, ht⟩ | ⟨hD, ht⟩⟩
  · have h5 := hM.2.2.1.2.2
    have i5 : ¬ (5000 : Int32) < Int32.ofNat i := fun q => by rw [show (5000 : Int32) = Int32.ofNat 5000 from rfl, lt_n (by decide) (by omega)] at q; omega
    obtain ⟨R2, F2, hL⟩ := w_see E hM
    have hM2 := Ma.fr E hM F2
    have hA2 := hA'.fr F2
    have hsh := hM.2.2.2.1
    have h73 := (E.2.2.2.2.2.1 R2 hM2.2.1).2.1
    have tc : ∀ K, fbX7_goOnUntil_2 K (e7 y (B T') Gr') y (1000 * (k73 l).toInt64) (Int32.ofNat i) = if 1000 * (k73 l).toInt64 ≤ mdD (V (Int32.ofNat (f + e'))) then some (e7 y (B T') Gr') else (fX7_goOn_0 (e7 y (B T') Gr') y).bind fun s => K s y (1000 * (k73 l).toInt64) (Int32.ofNat (i + 1)) := by
      intro K
      rw [fbU_c, if_neg i5, y7_g5, hA'.1, Option.bind_some, if_pos rfl, y7_g4, hsh, Option.bind_some, y7_C, suc32]; rfl
    have tr : ∀ K, fbX12_runLine_140 K (eR m ρ R') m (Int32.ofNat l) = if 1000 * (k73 l).toInt64 ≤ mdD (V (Int32.ofNat (f + e'))) then some (eR m ρ R2) else (fX12_goesOn_0 (eR m ρ R2) m).bind fun s => K s m (Int32.ofNat l) := by
      intro K
      rw [fbU_r, RG_105, hA'.2, Option.bind_some, if_pos rfl, hL, RN_73, Option.bind_some, Rld_73, hil, if_pos rfl, Option.bind_some, c32 (show l < 2147483648 by omega), h73, RisC]; rfl
    show (∃ t' s1' s2', t' < t ∧ _ ∧ fbX7_goOnUntil_2 _ _ _ _ _ = K1 s1' ∧ fbX12_runLine_140 _ _ _ _ = K2 s2') ∨ Rz y ap ec B ok V m ρ hd f Gr kp (fbX7_goOnUntil_2 _ _ _ _ _) (fbX12_runLine_140 _ _ _ _)
    rw [tc, tr]
    by_cases c : 1000 * (k73 l).toInt64 ≤ mdD (V (Int32.ofNat (f + e')))
    · right
      rw [if_pos c, if_pos c]
      exact ⟨T', Gr', R2, e', kp, rfl, rfl, hT', hM2, Or.inl hA2, by omega, hF.mono (by decide)⟩
    · rw [if_neg c, if_neg c]
      obtain ⟨T3, G3, R3, e3, x3, y3, o3, M3, alt, F3⟩ := w_go E hM2 hA2 hT'
      left
      rw [x3, y3, Option.bind_some, Option.bind_some]
      rcases alt with ⟨a3, rfl⟩ | d3
      · exact ⟨t - 1, _, _, by omega, ⟨T3, G3, R3, e' + 1, i + 1, rfl, rfl, o3, M3, hF.trans F3, Or.inl ⟨a3, by omega, by omega⟩⟩, rfl, rfl⟩
      · exact ⟨0, _, _, by omega, ⟨T3, G3, R3, e3, i + 1, rfl, rfl, o3, M3, hF.trans F3, Or.inr ⟨d3, rfl⟩⟩, rfl, rfl⟩
  · right
    have q1 : fbX7_goOnUntil_2 (fun σ xv0 xv1 xv3 => K1 (σ, xv0, xv1, xv3)) (e7 y (B T') Gr') y (1000 * (k73 l).toInt64) (Int32.ofNat i) = some (e7 y (B T') Gr') := by
      rw [fbU_c, y7_g5, Option.bind_some, if_neg (De7_n hD).1, ite_self]
    have q2 : fbX12_runLine_140 (fun σ xv0 xv1 => K2 (σ, xv0, xv1)) (eR m ρ R') m (Int32.ofNat l) = some (eR m ρ R') := by
      rw [fbU_r, RG_105, Option.bind_some, if_neg (De7_n hD).2]
    show Rz y ap ec B ok V m ρ hd f Gr kp (fbX7_goOnUntil_2 _ _ _ _ _) (fbX12_runLine_140 _ _ _ _)
    rw [q1, q2]
    exact ⟨T', Gr', R', e', kp, rfl, rfl, hT', hM, Or.inr hD, by omega, hF.mono (by decide)⟩
end
