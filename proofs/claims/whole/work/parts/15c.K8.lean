def RLk : List Nat := 62 :: 75 :: 76 :: 77 :: QLk
section
variable {b : Nat} {σ0 : Hs} {m : Nat} {ρ : Hs} {tx : Nat → Int} {n K : Nat} {G H R : Gs} {a mk L kd l : Nat}
def Zq (b : Nat) (σ0 : Hs) (m : Nat) (ρ : Hs) (tx : Nat → Int) (n K : Nat) (H R : Gs) (a mk L : Nat) (C : Gs → Gs → Nat → Nat → Prop) (X Y : Option Hs) : Prop :=
  (∃ G' H' R' a' mk' L', X = some (st4 b σ0 G' H') ∧ Y = some (eR m ρ R') ∧ Lq b tx n K G' H' R' a' mk' L' ∧ (Fr [1, 2, 3, 4, 5] H H' ∧ Fr RLk R R') ∧ (a < a' ∧ mk < mk' ∧ L < L') ∧ (∀ j, j < mk → ai H' 1 j = ai H 1 j ∧ ai H' 2 j = ai H 2 j ∧ ai H' 3 j = ai H 3 j) ∧ (∀ j, j < L → ai R' 75 j = ai R 75 j ∧ ai R' 76 j = ai R 76 j ∧ ai R' 77 j = ai R 77 j) ∧ C H' R' mk' L') ∨
  (∃ G' H' R' a' kd L', X = some (st4 b σ0 G' H') ∧ Y = some (eR m ρ R') ∧ Dq b tx n K G' H' R' a' kd L' ∧ (Fr [1, 2, 3, 4, 5] H H' ∧ Fr RLk R R') ∧ a ≤ a')
def CS (lev mk L : Nat) (H' R' : Gs) (mk' L' : Nat) : Prop := mk' = mk + 1 ∧ L' = L + 1 ∧ Sm (ai R' 75) (ai R' 76) (ai R' 77) (ai H' 1) (ai H' 2) (ai H' 3) lev L mk
theorem q_fin (hL : L < 40) (hm : mk ≤ 2 * L) {k lev : Nat} (hk4 : k < 4) {v w : Int32} (s0 : k = 0 → v = w ∧ 1 ≤ v.toInt ∧ v.toInt ≤ 3600) (s1 : k = 1 → v = w ∧ 0 ≤ v.toInt ∧ v.toInt ≤ 86399) (s3 : k = 3 → ∃ u, u < 3 ∧ w = Int32.ofNat u ∧ v = Int32.ofNat (u + 5)) {G2 R2 : Gs} {a2 : Nat} (h2 : Lq b tx n K G2 (sfi H 5 (Int32.ofNat (L + 1))) R2 a2 mk (L + 1)) (ha : a < a2) (hF : Fr (62 :: 75 :: 76 :: QLk) R R2) (h75 : ai R2 75 = up (ai R 75) L (Int32.ofNat k)) (h76 : ai R2 76 L = w ∧ ∀ j, j < L → ai R2 76 j = ai R 76 j) : Zq b σ0 m ρ tx n K H R a mk L (CS lev mk L) ((fX4_emit_0 (st4 b σ0 G2 (sfi H 5 (Int32.ofNat (L + 1)))) (b + 6) (Int32.ofNat k) v (Int32.ofNat lev)).bind fun sq9 => (gN sq9 (b + 6) 6 0).bind fun vq10 => (isC sq9 vq10 7).bind fun iq11 => (fX5_takeSign_0 sq9 vq10 59).bind fun sq12 => some sq12) ((fX12_readSign_0 (eR m ρ R2) m 59).bind fun sq9 => (gN sq9 m 14 77).bind fun vq10 => (gI sq9 m 14 62).bind fun vq11 => (stI 0 sq9 vq10 (Int32.ofNat L) vq11).bind fun sq12 => some sq12) := by
  have F5 : Fr [1, 2, 3, 4, 5] H (sfi H 5 (Int32.ofNat (L + 1))) := (Fr.refl _ H).sfi (k := 5) (by decide) _
  obtain ⟨G3, H3, R3, x3, y3, fH, fR, alt⟩ := q_tail (σ0 := σ0) (m := m) (ρ := ρ) h2 (by omega) hL (Int32.ofNat k) v (Int32.ofNat lev)
  have FR3 : Fr RLk R (enR R3 L) := (hF.mono (by decide)).trans ((fR.mono (by decide)).trans ((enR_fr R3 L).mono (by decide)))
  rcases alt with ⟨a3, l3, g3, e3⟩ | ⟨a3, kd, d3, g3⟩
  · refine Or.inl ⟨G3, H3, enR R3 L, a3, mk + 1, L + 1, x3, y3, Lq_fr l3 (enR_fr R3 L) (by decide), ⟨F5.trans (fH.mono (by decide)), FR3⟩, ⟨by omega, by omega, by omega⟩, fun j hj => ?_, fun j hj => ?_, rfl, rfl, k, v, w, hk4, ⟨?_, ?_⟩, ⟨?_, ?_⟩, ?_, ?_, s0, s1, s3⟩
    · rw [e3]
      exact ⟨up_ne _ _ _ _ (by omega), up_ne _ _ _ _ (by omega), up_ne _ _ _ _ (by omega)⟩
    · refine ⟨?_, ?_, ?_⟩
      · show ai R3 75 j = _; rw [fR.ai 75 (by decide), h75, up_ne _ _ _ _ (by omega)]
      · show ai R3 76 j = _; rw [fR.ai 76 (by decide)]; exact h76.2 j hj
      · show up (ai R3 77) L _ j = _; rw [up_ne _ _ _ _ (by omega), fR.ai 77 (by decide), hF.ai 77 (by decide)]
    · show ai R3 75 L = _; rw [fR.ai 75 (by decide), h75, up_same]
    · rw [e3]; exact up_same _ _ _
    · show ai R3 76 L = _; rw [fR.ai 76 (by decide)]; exact h76.1
    · rw [e3]; exact up_same _ _ _
    · rw [e3]; exact up_same _ _ _
    · show up (ai R3 77) L (fi R3 62) L = _; rw [up_same]; exact l3.2.2.1.2
  · exact Or.inr ⟨G3, H3, enR R3 L, a3, kd, L + 1, x3, y3, Dq_fr d3 (enR_fr R3 L) (by decide), ⟨F5.trans (fH.mono (by decide)), FR3⟩, by omega⟩
theorem q_finD {k lev : Int32} {v : Int32} (hL : L < 40) {C : Gs → Gs → Nat → Nat → Prop} {G2 R2 : Gs} {a2 : Nat} (h2 : Dq b tx n K G2 (sfi H 5 (Int32.ofNat (L + 1))) R2 a2 kd (L + 1)) (ha : a ≤ a2) (hF : Fr (62 :: 75 :: 76 :: QLk) R R2) : Zq b σ0 m ρ tx n K H R a mk L C ((fX4_emit_0 (st4 b σ0 G2 (sfi H 5 (Int32.ofNat (L + 1)))) (b + 6) k v lev).bind fun sq9 => (gN sq9 (b + 6) 6 0).bind fun vq10 => (isC sq9 vq10 7).bind fun iq11 => (fX5_takeSign_0 sq9 vq10 59).bind fun sq12 => some sq12) ((fX12_readSign_0 (eR m ρ R2) m 59).bind fun sq9 => (gN sq9 m 14 77).bind fun vq10 => (gI sq9 m 14 62).bind fun vq11 => (stI 0 sq9 vq10 (Int32.ofNat L) vq11).bind fun sq12 => some sq12) := by
  have F5 : Fr [1, 2, 3, 4, 5] H (sfi H 5 (Int32.ofNat (L + 1))) := (Fr.refl _ H).sfi (k := 5) (by decide) _
  obtain ⟨H', x3, y3, fH, d3⟩ := qd_tail (σ0 := σ0) (m := m) (ρ := ρ) h2 hL k v lev
  exact Or.inr ⟨G2, H', enR R2 L, a2, kd, L + 1, x3, y3, Dq_fr d3 (enR_fr R2 L) (by decide), ⟨F5.trans (fH.mono (by decide)), (hF.mono (by decide)).trans ((enR_fr R2 L).mono (by decide))⟩, ha⟩
end
