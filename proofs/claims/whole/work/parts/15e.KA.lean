section
variable {b : Nat} {σ0 : Hs} {m : Nat} {ρ : Hs} {tx : Nat → Int} {n K : Nat} {G H R : Gs} {a mk L kd l : Nat}
theorem q_line0 (h : Lq b tx n K G H R a mk L) {lev : Nat} (hlev : lev ≤ 3) (KK : (Hs → Nat → Int32 → Option Hs) × (Hs → Nat → Int32 → Option Hs) × (Hs → Nat → Int32 → Option Hs)) (KR : Hs → Nat → Int32 → Option Hs) : (∃ k, k < 5 ∧ kA true tx n a = 1 ∧ L < 40 ∧ (k = 4 → lev < 3) ∧ fX4_readLine_0 KK (st4 b σ0 G H) (b + 6) (Int32.ofNat lev) = fX4_readLine_79 KK (st4 b σ0 G H) (b + 6) (Int32.ofNat lev) (Int32.ofNat k) ∧ fX12_readLine_0 KR (eR m ρ R) m (Int32.ofNat lev) = fX12_readLine_185 KR (eR m ρ R) m (Int32.ofNat lev) (Int32.ofNat k)) ∨ (∃ G' R' kd, fX4_readLine_0 KK (st4 b σ0 G H) (b + 6) (Int32.ofNat lev) = some (st4 b σ0 G' H) ∧ fX12_readLine_0 KR (eR m ρ R) m (Int32.ofNat lev) = some (eR m ρ R') ∧ Dq b tx n K G' H R' a kd L ∧ Fr QLk R R') := by
  have h0 : fr H 0 = some b := h.2.1.1
  have h5 : fi H 5 = Int32.ofNat L := h.2.1.2.2.2
  have h62 : fi R 62 = Int32.ofNat L := h.2.2.1.2
  have h40 := h.2.2.2.2
  have hR := h.2.2.1.1
  have c2 : fi R 25 = Int32.ofNat (pA tx n a) := hR.2.1.2.1
  have hcode := x5_code (s4_A5 (b := b) (σ0 := σ0) (G := G) (H := H)) h.1.1 h.1.2.1 h.1.2.2.1
  have d185 : ∀ {R1 : Gs} {kd : Nat} (k : Int32), fi R1 21 = Int32.ofNat kd → (0 < kd ∧ kd < 7) → fX12_readLine_185 KR (eR m ρ R1) m (Int32.ofNat lev) k = some (eR m ρ R1) := by
    intro R1 kd k q1 q2
    unfold fX12_readLine_185
    rw [RG_21, q1, Option.bind_some, if_neg (bdn q2).1]
  have d159 : ∀ {R1 : Gs} {kd : Nat} (k : Int32), fi R1 21 = Int32.ofNat kd → (0 < kd ∧ kd < 7) → fX12_readLine_159 KR (eR m ρ R1) m (Int32.ofNat lev) k = some (eR m ρ R1) := by
    intro R1 kd k q1 q2
    unfold fX12_readLine_159
    rw [RG_21, q1, Option.bind_some, if_neg (bdn q2).2, d185 k q1 q2]
  have d134 : ∀ {R1 : Gs} {kd : Nat} (k : Int32), fi R1 21 = Int32.ofNat kd → (0 < kd ∧ kd < 7) → fX12_readLine_134 KR (eR m ρ R1) m (Int32.ofNat lev) k = some (eR m ρ R1) := by
    intro R1 kd k q1 q2
    unfold fX12_readLine_134
    rw [RG_21, q1, Option.bind_some, if_neg (bdn q2).2, d159 k q1 q2]
  have e40 : (Int32.ofNat L = 40) = (L = 40) := by rw [show (40 : Int32) = Int32.ofNat 40 from rfl]; exact eqn (by omega) (by decide)
  have l40 : (Int32.ofNat L < 40) = (L < 40) := propext (lt_n (b := 40) (by omega) (by decide))
  have l3 : (Int32.ofNat lev < 3) = (lev < 3) := propext (lt_n (b := 3) (by omega) (by decide))
  have e3 : (Int32.ofNat lev = 3) = (lev = 3) := by rw [show (3 : Int32) = Int32.ofNat 3 from rfl]; exact eqn (by omega) (by decide)
  have yes : ∀ k, k < 5 → (kA true tx n a = 1 ∧ vA tx n a = vW true k) → fX12_readLine_0 KR (eR m ρ R) m (Int32.ofNat lev) = fX12_readLine_134 KR (eR m ρ R) m (Int32.ofNat lev) (Int32.ofNat k) → (∃ k, k < 5 ∧ kA true tx n a = 1 ∧ L < 40 ∧ (k = 4 → lev < 3) ∧ fX4_readLine_0 KK (st4 b σ0 G H) (b + 6) (Int32.ofNat lev) = fX4_readLine_79 KK (st4 b σ0 G H) (b + 6) (Int32.ofNat lev) (Int32.ofNat k) ∧ fX12_readLine_0 KR (eR m ρ R) m (Int32.ofNat lev) = fX12_readLine_185 KR (eR m ρ R) m (Int32.ofNat lev) (Int32.ofNat k)) ∨ (∃ G' R' kd, fX4_readLine_0 KK (st4 b σ0 G H) (b + 6) (Int32.ofNat lev) = some (st4 b σ0 G' H) ∧ fX12_readLine_0 KR (eR m ρ R) m (Int32.ofNat lev) = some (eR m ρ R') ∧ Dq b tx n K G' H R' a kd L ∧ Fr QLk R R') := by
    intro k hk hkw hY
    have k4 : ¬ kA true tx n a = 4 := by rw [hkw.1]; decide
    have ek4 : (Int32.ofNat k = 4) = (k = 4) := by rw [show (4 : Int32) = Int32.ofNat 4 from rfl]; exact eqn (by omega) (by decide)
    have hc : ai G 4 a = Int32.ofNat k := by
      rcases (h.1.1.2.2.2.2.2 a h.1.2.1).2.2.1 hkw.1 with ⟨q1, q2⟩ | ⟨u, q1, q2, q3⟩
      · exact absurd hkw.2 (q2 k (show k < 8 by omega))
      · rw [q2]
        congr 1
        exact vW_in true q1 (show k < 8 by omega) (q3.symm.trans hkw.2)
    have hin : (0 : Int32).toInt ≤ (Int32.ofNat k).toInt ∧ (Int32.ofNat k).toInt ≤ (4 : Int32).toInt := by rw [n32 (by omega)]; show (0 : Int) ≤ _ ∧ _ ≤ (4 : Int); omega
    have hX : fX4_readLine_0 KK (st4 b σ0 G H) (b + 6) (Int32.ofNat lev) = if L < 40 then (if k = 4 then (if lev < 3 then fX4_readLine_79 KK (st4 b σ0 G H) (b + 6) (Int32.ofNat lev) (Int32.ofNat k) else (fX5_refuse_0 (st4 b σ0 G H) b 5).bind fun s => some s) else fX4_readLine_79 KK (st4 b σ0 G H) (b + 6) (Int32.ofNat lev) (Int32.ofNat k)) else (fX5_refuse_0 (st4 b σ0 G H) b 3).bind fun s => some s := by
      unfold fX4_readLine_0
      simp only [p_g0 h0, z5_C s4_A5, hcode, x5_isAnyWord s4_A5 h.1, x_isWithin, Option.bind_some, b2i_0, hc, z4_g5 s4_A4, h5, l40, l3, ek4]
      rw [if_neg (fun q => q hkw.1), if_neg (show ¬ ¬ ((0 : Int32).toInt ≤ (Int32.ofNat k).toInt ∧ (Int32.ofNat k).toInt ≤ (4 : Int32).toInt) from fun q => q hin)]
    have refu : ∀ f : Nat, 0 < f ∧ f < 7 → ∃ G', fX5_refuse_0 (st4 b σ0 G H) b (Int32.ofNat f) = some (st4 b σ0 G' H) ∧ Dq b tx n K G' H (rfR R tx n a f) a f L ∧ fX12_fail_0 (eR m ρ R) m (Int32.ofNat f) (fi R 25) = some (eR m ρ (rfR R tx n a f)) := by
      intro f hf
      obtain ⟨G', kd, q1, q2, q3⟩ := q_ref (σ0 := σ0) h hf
      rw [if_neg k4] at q2
      subst q2
      exact ⟨G', q1, q3, by rw [rb_fail hR, c2]; rfl⟩
    rw [hX, hY]
    unfold fX12_readLine_134
    simp only [RG_21, hR.2.2, RG_62, h62, e40, RG_25, RisC, Option.bind_some, if_true]
    by_cases cL : L = 40
    · obtain ⟨G', r1, r2, r3⟩ := refu 3 (by decide)
      rw [if_neg (show ¬ L < 40 by omega), if_pos cL, show fX12_fail_0 (eR m ρ R) m 3 (fi R 25) = _ from r3, Option.bind_some, d159 _ r2.2.2.1.1 (by decide), show fX5_refuse_0 (st4 b σ0 G H) b 3 = _ from r1]
      exact Or.inr ⟨G', _, 3, rfl, rfl, r2, rf_frq R 3⟩
    · rw [if_pos (show L < 40 by omega), if_neg cL]
      unfold fX12_readLine_159
      simp only [RG_21, hR.2.2, ek4, e3, RG_25, RisC, Option.bind_some, if_true]
      by_cases ck : k = 4
      · rw [if_pos ck, if_pos ck]
        by_cases cv : lev = 3
        · obtain ⟨G', r1, r2, r3⟩ := refu 5 (by decide)
          rw [if_neg (show ¬ lev < 3 by omega), if_pos cv, show fX12_fail_0 (eR m ρ R) m 5 (fi R 25) = _ from r3, Option.bind_some, d185 _ r2.2.2.1.1 (by decide), show fX5_refuse_0 (st4 b σ0 G H) b 5 = _ from r1]
          exact Or.inr ⟨G', _, 5, rfl, rfl, r2, rf_frq R 5⟩
        · rw [if_pos (show lev < 3 by omega), if_neg cv]
          exact Or.inl ⟨k, hk, hkw.1, by omega, fun _ => by omega, rfl, rfl⟩
      · rw [if_neg ck, if_neg ck]
        exact Or.inl ⟨k, hk, hkw.1, by omega, fun q => absurd q ck, rfl, rfl⟩
  have hW : fX12_readLine_0 KR (eR m ρ R) m (Int32.ofNat lev) = (if ¬ (kA true tx n a = 1 ∧ vA tx n a = vW true 0) then (if ¬ (kA true tx n a = 1 ∧ vA tx n a = vW true 1) then (if ¬ (kA true tx n a = 1 ∧ vA tx n a = vW true 2) then (if ¬ (kA true tx n a = 1 ∧ vA tx n a = vW true 3) then (if ¬ (kA true tx n a = 1 ∧ vA tx n a = vW true 4) then ((fX12_wrongToken_0 (eR m ρ R) m).bind fun sq17 => fX12_readLine_134 KR sq17 m (Int32.ofNat lev) (-1)) else fX12_readLine_134 KR (eR m ρ R) m (Int32.ofNat lev) 4) else fX12_readLine_134 KR (eR m ρ R) m (Int32.ofNat lev) 3) else fX12_readLine_134 KR (eR m ρ R) m (Int32.ofNat lev) 2) else fX12_readLine_134 KR (eR m ρ R) m (Int32.ofNat lev) 1) else fX12_readLine_134 KR (eR m ρ R) m (Int32.ofNat lev) 0) := by
    unfold fX12_readLine_0
    simp only [RisC, Option.bind_some, show ∀ s, fX12_spelled_0 s 119 97 105 116 0 0 = some 754996 from fun s => rfl, show ∀ s, fX12_spelled_0 s 117 110 116 105 108 0 = some 22499628 from fun s => rfl, show ∀ s, fX12_spelled_0 s 115 116 97 109 112 0 = some 20579760 from fun s => rfl, show ∀ s, fX12_spelled_0 s 112 97 114 115 101 0 = some 16829029 from fun s => rfl, show ∀ s, fX12_spelled_0 s 97 103 97 105 110 0 = some 1279278 from fun s => rfl]
    rw [rb_word hR (w := 0) (by decide) (c := 754996) rfl, rb_word hR (w := 1) (by decide) (c := 22499628) rfl, rb_word hR (w := 2) (by decide) (c := 20579760) rfl, rb_word hR (w := 3) (by decide) (c := 16829029) rfl, rb_word hR (w := 4) (by decide) (c := 1279278) rfl]
    simp only [Option.bind_some, b2i_0]
  by_cases c0 : kA true tx n a = 1 ∧ vA tx n a = vW true 0
  · exact yes 0 (by decide) c0 (hW.trans (by rw [if_neg (fun q => q c0)]; rfl))
  by_cases c1 : kA true tx n a = 1 ∧ vA tx n a = vW true 1
  · exact yes 1 (by decide) c1 (hW.trans (by rw [if_pos c0, if_neg (fun q => q c1)]; rfl))
  by_cases c2' : kA true tx n a = 1 ∧ vA tx n a = vW true 2
  · exact yes 2 (by decide) c2' (hW.trans (by rw [if_pos c0, if_pos c1, if_neg (fun q => q c2')]; rfl))
  by_cases c3 : kA true tx n a = 1 ∧ vA tx n a = vW true 3
  · exact yes 3 (by decide) c3 (hW.trans (by rw [if_pos c0, if_pos c1, if_pos c2', if_neg (fun q => q c3)]; rfl))
  by_cases c4 : kA true tx n a = 1 ∧ vA tx n a = vW true 4
  · exact yes 4 (by decide) c4 (hW.trans (by rw [if_pos c0, if_pos c1, if_pos c2', if_pos c3, if_neg (fun q => q c4)]; rfl))
  obtain ⟨G', R', kd, e1, e2, e4, e5⟩ := q_ref2 (σ0 := σ0) (m := m) (ρ := ρ) h
  refine Or.inr ⟨G', R', kd, ?_, ?_, e4, e5⟩
  · unfold fX4_readLine_0
    simp only [p_g0 h0, z5_C s4_A5, hcode, x5_isAnyWord s4_A5 h.1, x_isWithin, Option.bind_some, b2i_0]
    by_cases k1 : kA true tx n a = 1
    · rw [if_neg (fun q => q k1), if_pos (show ¬ ((0 : Int32).toInt ≤ (ai G 4 a).toInt ∧ (ai G 4 a).toInt ≤ (4 : Int32).toInt) from ?_), e1, Option.bind_some]
      intro q
      rcases (h.1.1.2.2.2.2.2 a h.1.2.1).2.2.1 k1 with ⟨q1, q2⟩ | ⟨u, q1, q2, q3⟩
      · rw [q1] at q; exact absurd q.1 (by decide)
      · have hu : u < 8 := q1
        rw [q2, n32 (by omega)] at q
        have q4 : (0 : Int) ≤ u ∧ (u : Int) ≤ 4 := q
        have : u = 0 ∨ u = 1 ∨ u = 2 ∨ u = 3 ∨ u = 4 := by omega
        rcases this with rfl | rfl | rfl | rfl | rfl
        · exact c0 ⟨k1, q3⟩
        · exact c1 ⟨k1, q3⟩
        · exact c2' ⟨k1, q3⟩
        · exact c3 ⟨k1, q3⟩
        · exact c4 ⟨k1, q3⟩
    · rw [if_pos k1, e1, Option.bind_some]
  · rw [hW, if_pos c0, if_pos c1, if_pos c2', if_pos c3, if_pos c4, e2, Option.bind_some, d134 _ e4.2.2.1.1 (Dq_kd e4)]
end
