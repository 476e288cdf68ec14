section
variable {y ap ec : Nat} {B : Gs → Hs} {Hp : Gs} {ok : Gs → Prop} {V : Int32 → Int64} {m : Nat} {ρ : Hs} {hd : Gs → Prop} {f : Nat} {k72 k73 k74 : Nat → Int32} {T Gr R1 : Gs} {e kp : Nat}
theorem w_parse (E : Ev7 y ap ec B Hp ok V m ρ hd f k72 k73 k74) (h : Ma ap ec f hd V Gr R1 e kp) (hA : Al7 Gr R1) (hT : ok T) (hk : kp < 1000000) {u : Nat} (hu : u < 3) {q : Int64} (hq : V (Int32.ofNat (f + e)) = q) : Rz y ap ec B ok V m ρ hd f Gr kp (fX7_parse_0 (e7 y (B T) Gr) y (Int32.ofNat (u + 5))) (if mdD q = 86400000 then (if Int32.ofNat u = 2 then ((fX12_keep_0 (eR m ρ R1) m q).bind fun s => some s) else (if Int32.ofNat u = 1 then ((fX12_keep_0 (eR m ρ R1) m (((q / 100000000) + 1) * 100000000)).bind fun s => some s) else some (eR m ρ (sfi R1 105 1)))) else ((fX12_keep_0 (eR m ρ R1) m q).bind fun s => some s)) := by
  have bs : ∀ o : Option Hs, (o.bind fun s => some s) = o := fun o => by cases o <;> rfl
  have hsh : fl Gr 4 = q := h.2.2.2.1.trans hq
  have hpar : fX7_parse_0 (e7 y (B T) Gr) y (Int32.ofNat (u + 5)) = if mdD q = 86400000 then (if Int32.ofNat (u + 5) = 5 then some (e7 y (B T) (sfi Gr 5 1)) else (if Int32.ofNat (u + 5) = 6 then fX7_keep_0 (e7 y (B T) Gr) y (((q / 100000000) + 1) * 100000000) else fX7_keep_0 (e7 y (B T) Gr) y q)) else fX7_keep_0 (e7 y (B T) Gr) y q := by
    unfold fX7_parse_0 fX7_parse_38
    rw [y7_g4, hsh, Option.bind_some, y7_p5, Option.bind_some, if_pos rfl, if_neg (show ¬ (1 : Int32) = 0 by decide)]
    rw [Option.bind_some, Option.bind_some, y7_C, Option.bind_some, Option.bind_some, bs, bs]
    rfl
  rw [hpar, bs, bs]
  by_cases c : mdD q = 86400000
  · rw [if_pos c, if_pos c]
    have : u = 0 ∨ u = 1 ∨ u = 2 := by omega
    rcases this with rfl | rfl | rfl
    · rw [if_pos (by decide), if_neg (by decide), if_neg (by decide)]
      obtain ⟨⟨g0, g1, g2, g8, g9⟩, h2, ⟨h3, h4, h5⟩, h6, h7, ⟨h8, h9⟩, h10⟩ := h
      exact ⟨T, _, _, e, kp, rfl, rfl, hT, ⟨⟨g0, g1, g2, g8, g9⟩, E.2.2.2.1 R1 _ h2 ((Fr.refl _ R1).sfi (k := 105) (by decide) _), ⟨h3, h4, h5⟩, h6, h7, ⟨h8, h9⟩, h10⟩, Or.inr ⟨1, Or.inl rfl, rfl, rfl⟩, by omega, (Fr.refl _ Gr).sfi (k := 5) (by decide) _⟩
    · rw [if_neg (by decide), if_pos (by decide), if_neg (by decide), if_pos (by decide)]
      exact w_keep E h hA hT hk _
    · rw [if_neg (by decide), if_neg (by decide), if_pos (by decide)]
      exact w_keep E h hA hT hk _
  · rw [if_neg c, if_neg c]
    exact w_keep E h hA hT hk _
theorem w_row (E : Ev7 y ap ec B Hp ok V m ρ hd f k72 k73 k74) (h : Ma ap ec f hd V Gr R1 e kp) (hA : Al7 Gr R1) (hT : ok T) (hk : kp < 1000000) (hn : ln Hp 1 = 80 ∧ ln Hp 2 = 80 ∧ ln Hp 3 = 80) {l r lev : Nat} (hl : l < 40) (hr : r < 80) (hS : Sm k72 k73 k74 (ai Hp 1) (ai Hp 2) (ai Hp 3) lev l r) : ∃ T' Gr' R' e' kp', fX7_performRow_0 (e7 y (B T) Gr) y (Int32.ofNat r) = some (Int32.ofNat (r + 1), e7 y (B T') Gr') ∧ fX12_runLine_0 (eR m ρ R1) m (Int32.ofNat l) = some (eR m ρ R') ∧ ok T' ∧ Ma ap ec f hd V Gr' R' e' kp' ∧ (Al7 Gr' R' ∨ De7 Gr' R') ∧ kp' ≤ kp + 1 ∧ Fr [3, 4, 5, 6, 7, 8] Gr Gr' := by
  obtain ⟨k, v, w, k4, ⟨s1, s2⟩, ⟨s3, s4⟩, s5, s6, p0, p1, p3⟩ := hS
  obtain ⟨R2, F2, hL⟩ := w_see E h
  have hM2 := Ma.fr E h F2
  have hA2 := hA.fr F2
  have hil : ix (Int32.ofNat l) 40 = true := by rw [ix_n (by omega)]; exact decide_eq_true hl
  have hir : ix (Int32.ofNat r) 80 = true := by rw [ix_n (by omega)]; exact decide_eq_true hr
  have cl := c32 (show l < 2147483648 by omega)
  have cr := c32 (show r < 2147483648 by omega)
  have h72 := (E.2.2.2.2.2.1 R2 hM2.2.1).1
  have h73 := (E.2.2.2.2.2.1 R2 hM2.2.1).2.1
  have ek : ∀ j : Nat, j < 5 → (Int32.ofNat k = Int32.ofNat j) = (k = j) := fun j hj => eqn (by omega) (by omega)
  have ek0 : (Int32.ofNat k = 0) = (k = 0) := ek 0 (by decide)
  have ek1 : (Int32.ofNat k = 1) = (k = 1) := ek 1 (by decide)
  have ek2 : (Int32.ofNat k = 2) = (k = 2) := ek 2 (by decide)
  have ek3 : (Int32.ofNat k = 3) = (k = 3) := ek 3 (by decide)
  have hA4 := E.1 T Gr
  have g0 : fr Gr 0 = some ap := h.1.1
  generalize hq : V (Int32.ofNat (f + e)) = q at hL
  have fin : ∀ {X Y : Option Hs}, Rz y ap ec B ok V m ρ hd f Gr kp X Y → fX7_performRow_0 (e7 y (B T) Gr) y (Int32.ofNat r) = X.bind (fun s => some (Int32.ofNat (r + 1), s)) → fX12_runLine_0 (eR m ρ R1) m (Int32.ofNat l) = Y → ∃ T' Gr' R' e' kp', fX7_performRow_0 (e7 y (B T) Gr) y (Int32.ofNat r) = some (Int32.ofNat (r + 1), e7 y (B T') Gr') ∧ fX12_runLine_0 (eR m ρ R1) m (Int32.ofNat l) = some (eR m ρ R') ∧ ok T' ∧ Ma ap ec f hd V Gr' R' e' kp' ∧ (Al7 Gr' R' ∨ De7 Gr' R') ∧ kp' ≤ kp + 1 ∧ Fr [3, 4, 5, 6, 7, 8] Gr Gr' := by
    rintro X Y ⟨T', Gr', R', e', kp', x1, y1, z⟩ hX hY
    exact ⟨T', Gr', R', e', kp', by rw [hX, x1, Option.bind_some], by rw [hY, y1], z⟩
  have hX : fX7_performRow_0 (e7 y (B T) Gr) y (Int32.ofNat r) = if k = 0 then ((fX7_waitFor_0 (e7 y (B T) Gr) y v).bind fun sq10 => some (Int32.ofNat (r + 1), sq10)) else (if k = 1 then ((fX7_goOnUntil_0 (e7 y (B T) Gr) y (1000 * v.toInt64)).bind fun sq12 => some (Int32.ofNat (r + 1), sq12)) else (if k = 2 then ((fX7_keep_0 (e7 y (B T) Gr) y q).bind fun sq15 => some (Int32.ofNat (r + 1), sq15)) else ((fX7_parse_0 (e7 y (B T) Gr) y v).bind fun sq17 => some (Int32.ofNat (r + 1), sq17)))) := by
    have hsh : fl Gr 4 = q := h.2.2.2.1.trans hq
    unfold fX7_performRow_0
    simp only [y7_g0, g0, Option.bind_some, z4_g2 hA4, z4_l2 hA4, z4_g1 hA4, z4_l1 hA4, hn.1, hn.2.1, hir, if_true, cr, s2, s4, suc32, y7_g4, hsh, y7_C, ek0, ek1, ek2, ek3]
    by_cases c0 : k = 0
    · rw [if_pos c0, if_pos c0]
    · rw [if_neg c0, if_neg c0]
      by_cases c1 : k = 1
      · rw [if_pos c1, if_pos c1]
      · rw [if_neg c1, if_neg c1]
        by_cases c2 : k = 2
        · rw [if_pos c2, if_pos c2]
        · rw [if_neg c2, if_neg c2, if_pos (show k = 3 by omega)]
  have hY : fX12_runLine_0 (eR m ρ R1) m (Int32.ofNat l) = if k = 0 then fX12_runLine_51 (eR m ρ R2) m (Int32.ofNat l) (pln q + (1000 * w.toInt64)) (Int32.ofNat (f + e)) else (if k = 1 then (fX12_runLine_140 (eR m ρ R2) m (Int32.ofNat l)) else (if k = 2 then ((fX12_keep_0 (eR m ρ R2) m q).bind fun s => some s) else (if mdD q = 86400000 then (if w = 2 then ((fX12_keep_0 (eR m ρ R2) m q).bind fun s => some s) else (if w = 1 then ((fX12_keep_0 (eR m ρ R2) m (((q / 100000000) + 1) * 100000000)).bind fun s => some s) else some (eR m ρ (sfi R2 105 1)))) else ((fX12_keep_0 (eR m ρ R2) m q).bind fun s => some s)))) := by
    have h65 : fi R2 65 = Int32.ofNat (f + e) := hM2.2.2.1.2.1
    unfold fX12_runLine_0
    rw [hL]
    dsimp only
    simp only [RN_72, RN_73, Rld_72, Rld_73, hil, if_true, cl, h72, h73, s1, s3, Option.bind_some, RG_65, h65, RisC, RP_105, ek0, ek1, ek2]
    rw [r_pln, Option.bind_some]
    rfl
  have bs : ∀ o : Option Hs, (o.bind fun s => some s) = o := fun o => by cases o <;> rfl
  by_cases c0 : k = 0
  · obtain ⟨rfl, -⟩ := p0 c0
    refine fin (w_wait E hM2 hA2 hT hl (Int32.ofNat (f + e)) (pln q + (1000 * v.toInt64))) (hX.trans ?_) (hY.trans (if_pos c0))
    rw [if_pos c0, s3]
    have : fX7_waitFor_0 (e7 y (B T) Gr) y v = fX7_waitFor_23 (e7 y (B T) Gr) y v (Int32.ofNat (f + e)) (pln q + (1000 * v.toInt64)) 0 := by
      unfold fX7_waitFor_0
      rw [y7_g3, h.2.2.1.1, Option.bind_some, y7_g4, h.2.2.2.1, hq, Option.bind_some, thou_eq, Option.bind_some]
    rw [this]
  · by_cases c1 : k = 1
    · obtain ⟨rfl, -⟩ := p1 c1
      refine fin (w_until E hM2 hA2 hT hl) (hX.trans ?_) (hY.trans ((if_neg c0).trans (if_pos c1)))
      rw [if_neg c0, if_pos c1, s3]
      rfl
    · by_cases c2 : k = 2
      · refine fin (w_keep E hM2 hA2 hT hk q) (hX.trans ?_) (hY.trans ((if_neg c0).trans ((if_neg c1).trans ((if_pos c2).trans (bs _)))))
        rw [if_neg c0, if_neg c1, if_pos c2]
      · obtain ⟨u, u1, u2, u3⟩ := p3 (by omega)
        refine fin (w_parse E hM2 hA2 hT hk u1 hq) (hX.trans ?_) (hY.trans ((if_neg c0).trans ((if_neg c1).trans ((if_neg c2).trans (by rw [u2])))))
        rw [if_neg c0, if_neg c1, if_neg c2, u3]
end
