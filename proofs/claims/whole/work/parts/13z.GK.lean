def Nam (tx : Nat → Int) (n a : Nat) : Prop := kA false tx n a = 1 ∧ lA tx n a ≤ 8 ∧ ¬ KWd tx n a ∧ ¬ VRb tx n a
def dfR (R : Gs) (D rm : Nat) (w : Int64) : Gs := sai (sfi (sal R 40 (up (al R 40) D w)) 31 (Int32.ofNat (D + 1))) 37 (up (ai R 37) (D + 1) (Int32.ofNat rm))
theorem dfR_fr (R : Gs) (D rm : Nat) (w : Int64) : Fr [31, 37, 40] R (dfR R D rm w) := (((Fr.refl _ R).sal (k := 40) (by decide) _).sfi (k := 31) (by decide) _).sai (k := 37) (by decide) _
section
variable {b : Nat} {σ0 : Hs} {m : Nat} {ρ : Hs} {tx : Nat → Int} {n K D : Nat} {nt : Nat → Nat} {G H R : Gs} {a mk rm : Nat}
theorem lA_n (hk : kA false tx n a = 1) : lA tx n a ≤ n := by
  have := (tE_b (tx := tx) (kA1 hk).1).2
  unfold lA; omega
theorem c_isName (hG : AlG G false tx n K a) (h0 : fr H 0 = some b) : fX6_isName_0 (st6 b σ0 G H) (b + 6) = some (cb (Nam tx n a)) := by
  unfold fX6_isName_0
  simp only [c_g0 h0, z5_C st_A5, z6_C st_A6, x5_isAnyWord st_A5 hG, x5_wordLength st_A5 hG, c_isKey hG h0, c_isVar hG h0, Option.bind_some, b2i_0, bb_0, bb_1]
  have hn := hG.1.1.1
  by_cases c1 : kA false tx n a = 1
  · rw [if_neg (fun q => q c1)]
    have hl := lA_n c1
    by_cases c2 : 8 < lA tx n a
    · rw [if_pos (show (8 : Int32) < Int32.ofNat (lA tx n a) from (lt_n (a := 8) (by decide) (by omega)).mpr c2), cb_f]
      intro q; have := q.2.1; omega
    · rw [if_neg (show ¬ (8 : Int32) < Int32.ofNat (lA tx n a) from fun q => c2 ((lt_n (a := 8) (by decide) (by omega)).mp q))]
      by_cases c3 : KWd tx n a
      · rw [if_neg (cbn c3), cb_f]; intro q; exact q.2.2.1 c3
      · rw [if_pos (cb_f c3)]
        by_cases c4 : VRb tx n a
        · rw [if_neg (cbn c4), cb_f]; intro q; exact q.2.2.2 c4
        · rw [if_pos (cb_f c4), cb_t]; exact ⟨c1, by omega, c3, c4⟩
  · rw [if_pos c1, cb_f]; intro q; exact c1 q.1
theorem Vb_0 {r : Int32} (h : Vb tx n a r) : 0 ≤ r ↔ VRb tx n a := by
  rcases h with ⟨h1, h2⟩ | ⟨w, ⟨w1, w2⟩, h1, h2⟩
  · rw [h1]; exact ⟨fun q => absurd q (by decide), fun q => absurd q h2⟩
  · rw [h2, le32, n32 (by omega), i0]; exact ⟨fun _ => ⟨w, w1, w2, h1⟩, fun _ => by omega⟩
theorem r_defN (h : RB R false tx n a) (hN : ¬ Nam tx n a) : fX12_readDef_0 (eR m ρ R) m = fX12_wrongToken_0 (eR m ρ R) m := by
  have ob : ∀ X : Option Hs, (X.bind fun s => some s) = X := fun X => by cases X <;> rfl
  obtain ⟨r, v1, v2⟩ := rb_var (m := m) (ρ := ρ) h
  have hn := h.1.2.1
  have c1 := h.2.1.1
  have e1 : (Int32.ofNat (tK false tx n (tS tx n a)) = 1) = (kA false tx n a = 1) := kq (tK_b false tx n (tS tx n a)) (show 1 ≤ 4 by decide)
  unfold fX12_readDef_0
  simp only [RG_24, RG_28, RisC, c1, v1, rb_kept h, Option.bind_some, e1, ob]
  by_cases k1 : kA false tx n a = 1
  · rw [if_pos k1]
    have hl := lA_n k1
    have d1 : fi R 28 = Int32.ofNat (lA tx n a) := (h.2.1.2.2.2.1 k1).1
    rw [d1]
    by_cases c2 : 8 < lA tx n a
    · rw [if_pos (show (8 : Int32) < Int32.ofNat (lA tx n a) from (lt_n (a := 8) (by decide) (by omega)).mpr c2)]
    · rw [if_neg (show ¬ (8 : Int32) < Int32.ofNat (lA tx n a) from fun q => c2 ((lt_n (a := 8) (by decide) (by omega)).mp q))]
      by_cases c4 : VRb tx n a
      · rw [if_pos ((Vb_0 v2).mpr c4)]
      · rw [if_neg (fun q => c4 ((Vb_0 v2).mp q))]
        by_cases c3 : KWd tx n a
        · rw [if_neg (cbn c3)]
        · exact absurd ⟨k1, by omega, c3, c4⟩ hN
  · rw [if_neg k1]
theorem r_defY (h : RB R false tx n a) (hN : Nam tx n a) (h31 : fi R 31 = Int32.ofNat D) (hD : D ≤ 10) (hNF : NF tx n K D nt) (hv : ∀ d, d < D → (al R 40 d).toInt = vA tx n (nt d)) {r : Int32} (hr : fX12_named_0 (eR m ρ R) m = some r) : (D < 10 → r < 0 → fX12_readDef_0 (eR m ρ R) m = fX12_readDef_70 (eR m ρ R) m) ∧ (D < 10 → ¬ r < 0 → fX12_readDef_0 (eR m ρ R) m = some (eR m ρ (rfR R tx n a 4))) ∧ (D = 10 → fX12_readDef_0 (eR m ρ R) m = some (eR m ρ (rfR R tx n a 3))) := by
  obtain ⟨k1, k2, k3, k4⟩ := hN
  obtain ⟨v, v1, v2⟩ := rb_var (m := m) (ρ := ρ) h
  have hn := h.1.2.1
  have c1 := h.2.1.1
  have p25 : fi R 25 = Int32.ofNat (pA tx n a) := h.2.1.2.1
  have e1 : (Int32.ofNat (tK false tx n (tS tx n a)) = 1) = (kA false tx n a = 1) := kq (tK_b false tx n (tS tx n a)) (show 1 ≤ 4 by decide)
  have hl := lA_n k1
  have d1 : fi R 28 = Int32.ofNat (lA tx n a) := (h.2.1.2.2.2.1 k1).1
  have c2 : ¬ (8 : Int32) < fi R 28 := by rw [d1]; exact fun q => absurd ((lt_n (a := 8) (by decide) (by omega)).mp q) (by omega)
  have c4 : ¬ 0 ≤ v := fun q => k4 ((Vb_0 v2).mp q)
  have d70 : ∀ {R1 : Gs} {kd : Nat}, fi R1 21 = Int32.ofNat kd → (0 < kd ∧ kd < 7) → fX12_readDef_70 (eR m ρ R1) m = some (eR m ρ R1) := by
    intro R1 kd q1 q2
    unfold fX12_readDef_70
    rw [RG_21, q1, Option.bind_some, if_neg (bdn q2).1]
  refine ⟨fun hd hr0 => ?_, fun hd hr0 => ?_, fun hd => ?_⟩
  · have e10 : ¬ fi R 31 = 10 := by rw [h31, show (10 : Int32) = Int32.ofNat 10 from rfl, eqn (by omega) (by decide)]; omega
    unfold fX12_readDef_0
    simp only [RG_24, RG_28, RG_31, RisC, c1, v1, rb_kept h, Option.bind_some, e1, hr, if_pos k1, if_neg c2, if_neg c4, if_pos (cb_f k3), if_neg e10, if_pos hr0]
  · have e10 : ¬ fi R 31 = 10 := by rw [h31, show (10 : Int32) = Int32.ofNat 10 from rfl, eqn (by omega) (by decide)]; omega
    have q : fX12_fail_0 (eR m ρ R) m 4 (fi R 25) = some (eR m ρ (rfR R tx n a 4)) := by rw [rb_fail h, p25]; rfl
    unfold fX12_readDef_0
    simp only [RG_24, RG_25, RG_28, RG_31, RisC, c1, v1, rb_kept h, Option.bind_some, e1, hr, if_pos k1, if_neg c2, if_neg c4, if_pos (cb_f k3), if_neg e10, if_neg hr0, q]
    exact d70 (kd := 4) rfl (by decide)
  · have e10 : fi R 31 = 10 := by rw [h31, hd]; rfl
    have q : fX12_fail_0 (eR m ρ R) m 3 (fi R 25) = some (eR m ρ (rfR R tx n a 3)) := by rw [rb_fail h, p25]; rfl
    have q21 : fi (rfR R tx n a 3) 21 = Int32.ofNat 3 := rfl
    obtain ⟨r', hr', -⟩ := rb_namedC (m := m) (ρ := ρ) (R := rfR R tx n a 3) (K := K) (D := D) (nt := nt) hn h.2.1 h31 hD hNF hv
    unfold fX12_readDef_0
    simp only [RG_24, RG_25, RG_28, RG_31, RisC, c1, v1, rb_kept h, Option.bind_some, e1, if_pos k1, if_neg c2, if_neg c4, if_pos (cb_f k3), if_pos e10, q, hr', rb_failD q21 (by decide), d70 q21 (by decide)]
    split <;> rfl
end
