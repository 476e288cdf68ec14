theorem rC14 {β : Type} {s : Hs} {a : Nat} {F : Hs → Option β} {r : β} (h : (pV s a 14 1 (.int 0)).bind F = some r) : isC s a 14 = some () := by
  cases e : s.2.1 a with
  | inl q =>
    have : pV s a 14 1 (.int 0) = none := by unfold pV; rw [e]
    rw [this] at h; cases h
  | inr o =>
    by_cases q : o.1 = 14
    · unfold isC; rw [e]; exact if_pos q
    · have : pV s a 14 1 (.int 0) = none := by unfold pV; rw [e]; exact if_neg q
      rw [this] at h; cases h
def Hyp (P : Par) (x : Nat) : Prop := P.ok ∧ P.bl ∧ P.bk ∧ Bel P x ∧ P.1 = RO ∧ P.2.1 = RPp
section
variable {P : Par} {x : Nat} {σ : Hs} {xs : Nat → Int32} {L : Nat} {k18 : Hs → Nat → Nat → Int32 → Option Int32} {i v0 v1 v2 v3 v4 v5 : Int32}
def Sc6 (xs : Nat → Int32) (L : Nat) (i v0 v1 v2 v3 v4 v5 : Int32) : Prop := sc xs L i = some v0 ∧ sc xs L (i + 1) = some v1 ∧ sc xs L (i + 2) = some v2 ∧ sc xs L (i + 3) = some v3 ∧ sc xs L (i + 4) = some v4 ∧ sc xs L (i + 5) = some v5
theorem arm_status (H : Hyp P x) (hI : Inv P x σ) (hS : Sc6 xs L i v0 v1 v2 v3 v4 v5) (hk : ∀ σ', Inv P x σ' → k18 σ' x (x + 20) (i + 6) = some 1) : fL_law_196 xs L k18 σ x (x + 20) i = some 1 := by
  have hC : isC σ x 13 = some () := by obtain ⟨own, R, -, ⟨G, T, eC, eV, eN, eT, eS, h⟩, -⟩ := hI; exact z11_C h.2.2.1.at
  obtain ⟨v, σ2, e1, e2, e3⟩ := both_status H.1 hI 
  have hC2 : isC σ (x + 20) 14 = some () := rC14 e2
  obtain ⟨s0, s1, s2, s3, s4, s5⟩ := hS
  unfold fL_law_196
  rw [hC, Option.bind_some, e1, Option.bind_some]
  rw [hC2, Option.bind_some, e2, Option.bind_some]
  dsimp only
  rw [if_pos rfl]; exact hk σ2 e3
theorem arm_tray (H : Hyp P x) (hI : Inv P x σ) (hS : Sc6 xs L i v0 v1 v2 v3 v4 v5) (hk : ∀ σ', Inv P x σ' → k18 σ' x (x + 20) (i + 6) = some 1) : fL_law_209 xs L k18 σ x (x + 20) i = some 1 := by
  have hC : isC σ x 13 = some () := by obtain ⟨own, R, -, ⟨G, T, eC, eV, eN, eT, eS, h⟩, -⟩ := hI; exact z11_C h.2.2.1.at
  obtain ⟨v, σ1, σ2, e1, e2, e3⟩ := both_tray H.1 H.2.1 hI v1 v2 v3
  have hC2 : isC σ1 (x + 20) 14 = some () := rC14 e2
  obtain ⟨s0, s1, s2, s3, s4, s5⟩ := hS
  unfold fL_law_209
  rw [s1, Option.bind_some, s2, Option.bind_some, s3, Option.bind_some, hC, Option.bind_some, e1, Option.bind_some]
  dsimp only
  rw [Option.bind_some, Option.bind_some, Option.bind_some, hC2, Option.bind_some, e2, Option.bind_some]
  dsimp only
  rw [if_pos rfl]; exact hk σ2 e3
theorem arm_write (H : Hyp P x) (hI : Inv P x σ) (hS : Sc6 xs L i v0 v1 v2 v3 v4 v5) (hk : ∀ σ', Inv P x σ' → k18 σ' x (x + 20) (i + 6) = some 1) : fL_law_252 xs L k18 σ x (x + 20) i = some 1 := by
  have hC : isC σ x 13 = some () := by obtain ⟨own, R, -, ⟨G, T, eC, eV, eN, eT, eS, h⟩, -⟩ := hI; exact z11_C h.2.2.1.at
  obtain ⟨v, σ1, σ2, e1, e2, e3⟩ := both_write H.1 H.2.1 hI v1 v2 ((v3.toInt64 <<< ((32 : Int32).toInt64 &&& 63)) ||| (v4.toInt64 &&& 4294967295))
  have hC2 : isC σ1 (x + 20) 14 = some () := rC14 e2
  obtain ⟨s0, s1, s2, s3, s4, s5⟩ := hS
  unfold fL_law_252
  rw [s1, Option.bind_some, s2, Option.bind_some, s3, Option.bind_some, s4, Option.bind_some, hC, Option.bind_some, e1, Option.bind_some]
  dsimp only
  rw [Option.bind_some, Option.bind_some, Option.bind_some, Option.bind_some, hC2, Option.bind_some, e2, Option.bind_some]
  dsimp only
  rw [if_pos rfl]; exact hk σ2 e3
theorem arm_read (H : Hyp P x) (hI : Inv P x σ) (hS : Sc6 xs L i v0 v1 v2 v3 v4 v5) (hk : ∀ σ', Inv P x σ' → k18 σ' x (x + 20) (i + 6) = some 1) : fL_law_325 xs L k18 σ x (x + 20) i = some 1 := by
  have hC : isC σ x 13 = some () := by obtain ⟨own, R, -, ⟨G, T, eC, eV, eN, eT, eS, h⟩, -⟩ := hI; exact z11_C h.2.2.1.at
  obtain ⟨v, σ1, σ2, e1, e2, e3⟩ := both_read H.1 hI v1 v2
  have hC2 : isC σ1 (x + 20) 14 = some () := rC14 e2
  obtain ⟨s0, s1, s2, s3, s4, s5⟩ := hS
  unfold fL_law_325
  rw [s1, Option.bind_some, s2, Option.bind_some, hC, Option.bind_some, e1, Option.bind_some]
  dsimp only
  rw [Option.bind_some, Option.bind_some, hC2, Option.bind_some, e2, Option.bind_some]
  dsimp only
  rw [if_pos rfl]; exact hk σ2 e3
theorem arm_pour (H : Hyp P x) (hI : Inv P x σ) (hS : Sc6 xs L i v0 v1 v2 v3 v4 v5) (hk : ∀ σ', Inv P x σ' → k18 σ' x (x + 20) (i + 6) = some 1) : fL_law_359 xs L k18 σ x (x + 20) i = some 1 := by
  have hC : isC σ x 13 = some () := by obtain ⟨own, R, -, ⟨G, T, eC, eV, eN, eT, eS, h⟩, -⟩ := hI; exact z11_C h.2.2.1.at
  obtain ⟨v, σ1, σ2, e1, e2, e3⟩ := both_pour H.1 H.2.2.1 hI v1 v2 v3 v4 v5
  have hC2 : isC σ1 (x + 20) 14 = some () := rC14 e2
  obtain ⟨s0, s1, s2, s3, s4, s5⟩ := hS
  unfold fL_law_359
  rw [s1, Option.bind_some, s2, Option.bind_some, s3, Option.bind_some, s4, Option.bind_some, s5, Option.bind_some, hC, Option.bind_some, e1, Option.bind_some]
  dsimp only
  rw [Option.bind_some, Option.bind_some, Option.bind_some, Option.bind_some, Option.bind_some, hC2, Option.bind_some, e2, Option.bind_some]
  dsimp only
  rw [if_pos rfl]; exact hk σ2 e3
theorem arm_leap (H : Hyp P x) (hI : Inv P x σ) (hS : Sc6 xs L i v0 v1 v2 v3 v4 v5) (hk : ∀ σ', Inv P x σ' → k18 σ' x (x + 20) (i + 6) = some 1) : fL_law_422 xs L k18 σ x (x + 20) i = some 1 := by
  have hC : isC σ x 13 = some () := by obtain ⟨own, R, -, ⟨G, T, eC, eV, eN, eT, eS, h⟩, -⟩ := hI; exact z11_C h.2.2.1.at
  obtain ⟨v, σ1, σ2, e1, e2, e3⟩ := both_leap H.1 hI v1 v2
  have hC2 : isC σ1 (x + 20) 14 = some () := rC14 e2
  obtain ⟨s0, s1, s2, s3, s4, s5⟩ := hS
  unfold fL_law_422
  rw [s1, Option.bind_some, s2, Option.bind_some, hC, Option.bind_some, e1, Option.bind_some]
  dsimp only
  rw [Option.bind_some, Option.bind_some, hC2, Option.bind_some, e2, Option.bind_some]
  dsimp only
  rw [if_pos rfl]; exact hk σ2 e3
theorem arm_civil (H : Hyp P x) (hI : Inv P x σ) (hS : Sc6 xs L i v0 v1 v2 v3 v4 v5) (hk : ∀ σ', Inv P x σ' → k18 σ' x (x + 20) (i + 6) = some 1) : fL_law_455 xs L k18 σ x (x + 20) i = some 1 := by
  have hC : isC σ x 13 = some () := by obtain ⟨own, R, -, ⟨G, T, eC, eV, eN, eT, eS, h⟩, -⟩ := hI; exact z11_C h.2.2.1.at
  obtain ⟨v, σ1, σ2, e1, e2, e3⟩ := both_civil H.1 hI v1 v2
  have hC2 : isC σ1 (x + 20) 14 = some () := rC14 e2
  obtain ⟨s0, s1, s2, s3, s4, s5⟩ := hS
  unfold fL_law_455
  rw [s1, Option.bind_some, s2, Option.bind_some, hC, Option.bind_some, e1, Option.bind_some]
  dsimp only
  rw [Option.bind_some, Option.bind_some, hC2, Option.bind_some, e2, Option.bind_some]
  dsimp only
  rw [if_pos rfl]; exact hk σ2 e3
theorem arm_count (H : Hyp P x) (hI : Inv P x σ) (hS : Sc6 xs L i v0 v1 v2 v3 v4 v5) (hk : ∀ σ', Inv P x σ' → k18 σ' x (x + 20) (i + 6) = some 1) : fL_law_488 xs L k18 σ x (x + 20) i = some 1 := by
  have hC : isC σ x 13 = some () := by obtain ⟨own, R, -, ⟨G, T, eC, eV, eN, eT, eS, h⟩, -⟩ := hI; exact z11_C h.2.2.1.at
  obtain ⟨v, σ1, σ2, e1, e2, e3⟩ := both_count H.1 hI v1 v2
  have hC2 : isC σ1 (x + 20) 14 = some () := rC14 e2
  obtain ⟨s0, s1, s2, s3, s4, s5⟩ := hS
  unfold fL_law_488
  rw [s1, Option.bind_some, s2, Option.bind_some, hC, Option.bind_some, e1, Option.bind_some]
  dsimp only
  rw [Option.bind_some, Option.bind_some, hC2, Option.bind_some, e2, Option.bind_some]
  dsimp only
  rw [if_pos rfl]; exact hk σ2 e3
theorem arm_clock (H : Hyp P x) (hI : Inv P x σ) (hS : Sc6 xs L i v0 v1 v2 v3 v4 v5) (hk : ∀ σ', Inv P x σ' → k18 σ' x (x + 20) (i + 6) = some 1) : fL_law_521 xs L k18 σ x (x + 20) i = some 1 := by
  have hC : isC σ x 13 = some () := by obtain ⟨own, R, -, ⟨G, T, eC, eV, eN, eT, eS, h⟩, -⟩ := hI; exact z11_C h.2.2.1.at
  obtain ⟨v, σ1, σ2, e1, e2, e3⟩ := both_clock H.1 H.2.1 hI v1
  have hC2 : isC σ1 (x + 20) 14 = some () := rC14 e2
  obtain ⟨s0, s1, s2, s3, s4, s5⟩ := hS
  unfold fL_law_521
  rw [s1, Option.bind_some, hC, Option.bind_some, e1, Option.bind_some]
  dsimp only
  rw [Option.bind_some, hC2, Option.bind_some, e2, Option.bind_some]
  dsimp only
  rw [if_pos rfl]; exact hk σ2 e3
theorem arm_step (H : Hyp P x) (hI : Inv P x σ) (hS : Sc6 xs L i v0 v1 v2 v3 v4 v5) (hk : ∀ σ', Inv P x σ' → k18 σ' x (x + 20) (i + 6) = some 1) : fL_law_544 xs L k18 σ x (x + 20) i = some 1 := by
  have hC : isC σ x 13 = some () := by obtain ⟨own, R, -, ⟨G, T, eC, eV, eN, eT, eS, h⟩, -⟩ := hI; exact z11_C h.2.2.1.at
  obtain ⟨v, σ1, σ2, e1, e2, e3⟩ := both_step H.1 hI v1 v2
  have hC2 : isC σ1 (x + 20) 14 = some () := rC14 e2
  obtain ⟨s0, s1, s2, s3, s4, s5⟩ := hS
  unfold fL_law_544
  rw [s1, Option.bind_some, s2, Option.bind_some, hC, Option.bind_some, e1, Option.bind_some]
  dsimp only
  rw [Option.bind_some, Option.bind_some, hC2, Option.bind_some, e2, Option.bind_some]
  dsimp only
  rw [if_pos rfl]; exact hk σ2 e3
theorem arm_shows (H : Hyp P x) (hI : Inv P x σ) (hS : Sc6 xs L i v0 v1 v2 v3 v4 v5) (hk : ∀ σ', Inv P x σ' → k18 σ' x (x + 20) (i + 6) = some 1) : fL_law_577 xs L k18 σ x (x + 20) i = some 1 := by
  have hC : isC σ x 13 = some () := by obtain ⟨own, R, -, ⟨G, T, eC, eV, eN, eT, eS, h⟩, -⟩ := hI; exact z11_C h.2.2.1.at
  obtain ⟨v, σ1, σ2, e1, e2, e3⟩ := both_shows H.1 H.2.2.2.1 hI v1 v2
  have hC2 : isC σ1 (x + 20) 14 = some () := rC14 e2
  obtain ⟨s0, s1, s2, s3, s4, s5⟩ := hS
  unfold fL_law_577
  rw [s1, Option.bind_some, s2, Option.bind_some, hC, Option.bind_some, e1, Option.bind_some]
  dsimp only
  rw [Option.bind_some, Option.bind_some, hC2, Option.bind_some, e2, Option.bind_some]
  dsimp only
  rw [if_pos rfl]; exact hk σ2 e3
theorem arm_ahead (H : Hyp P x) (hI : Inv P x σ) (hS : Sc6 xs L i v0 v1 v2 v3 v4 v5) (hk : ∀ σ', Inv P x σ' → k18 σ' x (x + 20) (i + 6) = some 1) : fL_law_611 xs L k18 σ x (x + 20) i = some 1 := by
  have hC : isC σ x 13 = some () := by obtain ⟨own, R, -, ⟨G, T, eC, eV, eN, eT, eS, h⟩, -⟩ := hI; exact z11_C h.2.2.1.at
  obtain ⟨v, σ1, σ2, e1, e2, e3⟩ := both_ahead H.1 H.2.2.2.1 hI v1 v2
  have hC2 : isC σ1 (x + 20) 14 = some () := rC14 e2
  obtain ⟨s0, s1, s2, s3, s4, s5⟩ := hS
  unfold fL_law_611
  rw [s1, Option.bind_some, s2, Option.bind_some, hC, Option.bind_some, e1, Option.bind_some]
  dsimp only
  rw [Option.bind_some, Option.bind_some, hC2, Option.bind_some, e2, Option.bind_some]
  dsimp only
  rw [if_pos rfl]; exact hk σ2 e3
theorem arm_off (H : Hyp P x) (hI : Inv P x σ) (hS : Sc6 xs L i v0 v1 v2 v3 v4 v5) (hk : ∀ σ', Inv P x σ' → k18 σ' x (x + 20) (i + 6) = some 1) : fL_law_644 xs L k18 σ x (x + 20) i = some 1 := by
  have hC : isC σ x 13 = some () := by obtain ⟨own, R, -, ⟨G, T, eC, eV, eN, eT, eS, h⟩, -⟩ := hI; exact z11_C h.2.2.1.at
  obtain ⟨v, σ1, σ2, e1, e2, e3⟩ := both_off H.1 H.2.2.2.1 hI v1 v2 v3
  have hC2 : isC σ1 (x + 20) 14 = some () := rC14 e2
  obtain ⟨s0, s1, s2, s3, s4, s5⟩ := hS
  unfold fL_law_644
  rw [s1, Option.bind_some, s2, Option.bind_some, s3, Option.bind_some, hC, Option.bind_some, e1, Option.bind_some]
  dsimp only
  rw [Option.bind_some, Option.bind_some, Option.bind_some, hC2, Option.bind_some, e2, Option.bind_some]
  dsimp only
  rw [if_pos rfl]; exact hk σ2 e3
theorem arm_worst (H : Hyp P x) (hI : Inv P x σ) (hS : Sc6 xs L i v0 v1 v2 v3 v4 v5) (hk : ∀ σ', Inv P x σ' → k18 σ' x (x + 20) (i + 6) = some 1) : fL_law_688 xs L k18 σ x (x + 20) i = some 1 := by
  have hC : isC σ x 13 = some () := by obtain ⟨own, R, -, ⟨G, T, eC, eV, eN, eT, eS, h⟩, -⟩ := hI; exact z11_C h.2.2.1.at
  obtain ⟨v, σ1, σ2, e1, e2, e3⟩ := both_worst H.1 H.2.2.2.1 hI v1 v2 v3
  have hC2 : isC σ1 (x + 20) 14 = some () := rC14 e2
  obtain ⟨s0, s1, s2, s3, s4, s5⟩ := hS
  unfold fL_law_688
  rw [s1, Option.bind_some, s2, Option.bind_some, s3, Option.bind_some, hC, Option.bind_some, e1, Option.bind_some]
  dsimp only
  rw [Option.bind_some, Option.bind_some, Option.bind_some, hC2, Option.bind_some, e2, Option.bind_some]
  dsimp only
  rw [if_pos rfl]; exact hk σ2 e3
theorem arm_feed (H : Hyp P x) (hI : Inv P x σ) (hS : Sc6 xs L i v0 v1 v2 v3 v4 v5) (hk : ∀ σ', Inv P x σ' → k18 σ' x (x + 20) (i + 6) = some 1) : fL_law_732 xs L k18 σ x (x + 20) i = some 1 := by
  have hC : isC σ x 13 = some () := by obtain ⟨own, R, -, ⟨G, T, eC, eV, eN, eT, eS, h⟩, -⟩ := hI; exact z11_C h.2.2.1.at
  obtain ⟨v, σ1, σ2, e1, e2, e3⟩ := both_feed H.1 H.2.2.1 hI v1 v2 v3 v4 v5
  have hC2 : isC σ1 (x + 20) 14 = some () := rC14 e2
  obtain ⟨s0, s1, s2, s3, s4, s5⟩ := hS
  unfold fL_law_732
  rw [s1, Option.bind_some, s2, Option.bind_some, s3, Option.bind_some, s4, Option.bind_some, s5, Option.bind_some, hC, Option.bind_some, e1, Option.bind_some]
  dsimp only
  rw [Option.bind_some, Option.bind_some, Option.bind_some, Option.bind_some, Option.bind_some, hC2, Option.bind_some, e2, Option.bind_some]
  dsimp only
  rw [if_pos rfl]; exact hk σ2 e3
theorem arm_rules (H : Hyp P x) (hI : Inv P x σ) (hS : Sc6 xs L i v0 v1 v2 v3 v4 v5) (hk : ∀ σ', Inv P x σ' → k18 σ' x (x + 20) (i + 6) = some 1) : fL_law_795 xs L k18 σ x (x + 20) i = some 1 := by
  have hC : isC σ x 13 = some () := by obtain ⟨own, R, -, ⟨G, T, eC, eV, eN, eT, eS, h⟩, -⟩ := hI; exact z11_C h.2.2.1.at
  obtain ⟨v, σ1, σ2, e1, e2, e3⟩ := both_rules H.1 H.2.2.2.2.1 H.2.2.1 hI v1 v2
  have hC2 : isC σ1 (x + 20) 14 = some () := rC14 e2
  obtain ⟨s0, s1, s2, s3, s4, s5⟩ := hS
  unfold fL_law_795
  rw [s1, Option.bind_some, s2, Option.bind_some, hC, Option.bind_some, e1, Option.bind_some]
  dsimp only
  rw [Option.bind_some, Option.bind_some, hC2, Option.bind_some, e2, Option.bind_some]
  dsimp only
  rw [if_pos rfl]; exact hk σ2 e3
theorem arm_fault (H : Hyp P x) (hI : Inv P x σ) (hS : Sc6 xs L i v0 v1 v2 v3 v4 v5) (hk : ∀ σ', Inv P x σ' → k18 σ' x (x + 20) (i + 6) = some 1) : fL_law_828 xs L k18 σ x (x + 20) i = some 1 := by
  have hC : isC σ x 13 = some () := by obtain ⟨own, R, -, ⟨G, T, eC, eV, eN, eT, eS, h⟩, -⟩ := hI; exact z11_C h.2.2.1.at
  obtain ⟨v, σ2, e1, e2, e3⟩ := both_fault H.1 hI v1
  have hC2 : isC σ (x + 20) 14 = some () := rC14 e2
  obtain ⟨s0, s1, s2, s3, s4, s5⟩ := hS
  unfold fL_law_828
  rw [s1, Option.bind_some, hC, Option.bind_some, e1, Option.bind_some]
  rw [Option.bind_some, hC2, Option.bind_some, e2, Option.bind_some]
  dsimp only
  rw [if_pos rfl]; exact hk σ2 e3
theorem arm_server (H : Hyp P x) (hI : Inv P x σ) (hS : Sc6 xs L i v0 v1 v2 v3 v4 v5) (hk : ∀ σ', Inv P x σ' → k18 σ' x (x + 20) (i + 6) = some 1) : fL_law_851 xs L k18 σ x (x + 20) i = some 1 := by
  have hC : isC σ x 13 = some () := by obtain ⟨own, R, -, ⟨G, T, eC, eV, eN, eT, eS, h⟩, -⟩ := hI; exact z11_C h.2.2.1.at
  obtain ⟨v, σ1, σ2, e1, e2, e3⟩ := both_server H.1 H.2.1 hI v1
  have hC2 : isC σ1 (x + 20) 14 = some () := rC14 e2
  obtain ⟨s0, s1, s2, s3, s4, s5⟩ := hS
  unfold fL_law_851
  rw [s1, Option.bind_some, hC, Option.bind_some, e1, Option.bind_some]
  dsimp only
  rw [Option.bind_some, hC2, Option.bind_some, e2, Option.bind_some]
  dsimp only
  rw [if_pos rfl]; exact hk σ2 e3
theorem arm_notice (H : Hyp P x) (hI : Inv P x σ) (hS : Sc6 xs L i v0 v1 v2 v3 v4 v5) (hk : ∀ σ', Inv P x σ' → k18 σ' x (x + 20) (i + 6) = some 1) : fL_law_874 xs L k18 σ x (x + 20) i = some 1 := by
  have hC : isC σ x 13 = some () := by obtain ⟨own, R, -, ⟨G, T, eC, eV, eN, eT, eS, h⟩, -⟩ := hI; exact z11_C h.2.2.1.at
  obtain ⟨v, σ1, σ2, e1, e2, e3⟩ := both_notice H.1 hI v1 v2 v3 v4 v5
  have hC2 : isC σ1 (x + 20) 14 = some () := rC14 e2
  obtain ⟨s0, s1, s2, s3, s4, s5⟩ := hS
  unfold fL_law_874
  rw [s1, Option.bind_some, s2, Option.bind_some, s3, Option.bind_some, s4, Option.bind_some, s5, Option.bind_some, hC, Option.bind_some, e1, Option.bind_some]
  dsimp only
  rw [Option.bind_some, Option.bind_some, Option.bind_some, Option.bind_some, Option.bind_some, hC2, Option.bind_some, e2, Option.bind_some]
  dsimp only
  rw [if_pos rfl]; exact hk σ2 e3
theorem arm_told (H : Hyp P x) (hI : Inv P x σ) (hS : Sc6 xs L i v0 v1 v2 v3 v4 v5) (hk : ∀ σ', Inv P x σ' → k18 σ' x (x + 20) (i + 6) = some 1) : fL_law_937 xs L k18 σ x (x + 20) i = some 1 := by
  have hC : isC σ x 13 = some () := by obtain ⟨own, R, -, ⟨G, T, eC, eV, eN, eT, eS, h⟩, -⟩ := hI; exact z11_C h.2.2.1.at
  obtain ⟨v, σ1, σ2, e1, e2, e3⟩ := both_told H.1 H.2.2.2.1 hI v1 v2
  have hC2 : isC σ1 (x + 20) 14 = some () := rC14 e2
  obtain ⟨s0, s1, s2, s3, s4, s5⟩ := hS
  unfold fL_law_937
  rw [s1, Option.bind_some, s2, Option.bind_some, hC, Option.bind_some, e1, Option.bind_some]
  dsimp only
  rw [Option.bind_some, Option.bind_some, hC2, Option.bind_some, e2, Option.bind_some]
  dsimp only
  rw [if_pos rfl]; exact hk σ2 e3
theorem arm_table (H : Hyp P x) (hI : Inv P x σ) (hS : Sc6 xs L i v0 v1 v2 v3 v4 v5) (hk : ∀ σ', Inv P x σ' → k18 σ' x (x + 20) (i + 6) = some 1) : fL_law_970 xs L k18 σ x (x + 20) i = some 1 := by
  have hC : isC σ x 13 = some () := by obtain ⟨own, R, -, ⟨G, T, eC, eV, eN, eT, eS, h⟩, -⟩ := hI; exact z11_C h.2.2.1.at
  obtain ⟨v, σ1, σ2, e1, e2, e3⟩ := both_table H.1 H.2.2.2.1 hI v1 v2
  have hC2 : isC σ1 (x + 20) 14 = some () := rC14 e2
  obtain ⟨s0, s1, s2, s3, s4, s5⟩ := hS
  unfold fL_law_970
  rw [s1, Option.bind_some, s2, Option.bind_some, hC, Option.bind_some, e1, Option.bind_some]
  dsimp only
  rw [Option.bind_some, Option.bind_some, hC2, Option.bind_some, e2, Option.bind_some]
  dsimp only
  rw [if_pos rfl]; exact hk σ2 e3
theorem arm_misses (H : Hyp P x) (hI : Inv P x σ) (hS : Sc6 xs L i v0 v1 v2 v3 v4 v5) (hk : ∀ σ', Inv P x σ' → k18 σ' x (x + 20) (i + 6) = some 1) : fL_law_1003 xs L k18 σ x (x + 20) i = some 1 := by
  have hC : isC σ x 13 = some () := by obtain ⟨own, R, -, ⟨G, T, eC, eV, eN, eT, eS, h⟩, -⟩ := hI; exact z11_C h.2.2.1.at
  obtain ⟨v, σ1, σ2, e1, e2, e3⟩ := both_misses H.1 H.2.2.2.1 hI v1
  have hC2 : isC σ1 (x + 20) 14 = some () := rC14 e2
  obtain ⟨s0, s1, s2, s3, s4, s5⟩ := hS
  unfold fL_law_1003
  rw [s1, Option.bind_some, hC, Option.bind_some, e1, Option.bind_some]
  dsimp only
  rw [Option.bind_some, hC2, Option.bind_some, e2, Option.bind_some]
  dsimp only
  rw [if_pos rfl]; exact hk σ2 e3
theorem arm_stamp (H : Hyp P x) (hI : Inv P x σ) (hS : Sc6 xs L i v0 v1 v2 v3 v4 v5) (hk : ∀ σ', Inv P x σ' → k18 σ' x (x + 20) (i + 6) = some 1) : fL_law_1026 xs L k18 σ x (x + 20) i = some 1 := by
  have hC : isC σ x 13 = some () := by obtain ⟨own, R, -, ⟨G, T, eC, eV, eN, eT, eS, h⟩, -⟩ := hI; exact z11_C h.2.2.1.at
  obtain ⟨v, σ1, σ2, e1, e2, e3⟩ := both_stamp H.1 H.2.1 hI v1 v2
  have hC2 : isC σ1 (x + 20) 14 = some () := rC14 e2
  obtain ⟨s0, s1, s2, s3, s4, s5⟩ := hS
  unfold fL_law_1026
  rw [s1, Option.bind_some, s2, Option.bind_some, hC, Option.bind_some, e1, Option.bind_some]
  dsimp only
  rw [Option.bind_some, Option.bind_some, hC2, Option.bind_some, e2, Option.bind_some]
  dsimp only
  rw [if_pos rfl]; exact hk σ2 e3
theorem arm_wrong (H : Hyp P x) (hI : Inv P x σ) (hS : Sc6 xs L i v0 v1 v2 v3 v4 v5) (hk : ∀ σ', Inv P x σ' → k18 σ' x (x + 20) (i + 6) = some 1) : fL_law_1059 xs L k18 σ x (x + 20) i = some 1 := by
  have hC : isC σ x 13 = some () := by obtain ⟨own, R, -, ⟨G, T, eC, eV, eN, eT, eS, h⟩, -⟩ := hI; exact z11_C h.2.2.1.at
  obtain ⟨v, σ1, σ2, e1, e2, e3⟩ := both_wrong H.1 H.2.2.2.1 hI 
  have hC2 : isC σ1 (x + 20) 14 = some () := rC14 e2
  obtain ⟨s0, s1, s2, s3, s4, s5⟩ := hS
  unfold fL_law_1059
  rw [hC, Option.bind_some, e1, Option.bind_some]
  dsimp only
  rw [hC2, Option.bind_some, e2, Option.bind_some]
  dsimp only
  rw [if_pos rfl]; exact hk σ2 e3
theorem arm_blamed (H : Hyp P x) (hI : Inv P x σ) (hS : Sc6 xs L i v0 v1 v2 v3 v4 v5) (hk : ∀ σ', Inv P x σ' → k18 σ' x (x + 20) (i + 6) = some 1) : fL_law_1072 xs L k18 σ x (x + 20) i = some 1 := by
  have hC : isC σ x 13 = some () := by obtain ⟨own, R, -, ⟨G, T, eC, eV, eN, eT, eS, h⟩, -⟩ := hI; exact z11_C h.2.2.1.at
  obtain ⟨v, σ1, σ2, e1, e2, e3⟩ := both_blamed H.1 H.2.2.2.1 hI v1
  have hC2 : isC σ1 (x + 20) 14 = some () := rC14 e2
  obtain ⟨s0, s1, s2, s3, s4, s5⟩ := hS
  unfold fL_law_1072
  rw [s1, Option.bind_some, hC, Option.bind_some, e1, Option.bind_some]
  dsimp only
  rw [Option.bind_some, hC2, Option.bind_some, e2, Option.bind_some]
  dsimp only
  rw [if_pos rfl]; exact hk σ2 e3
theorem arm_program (H : Hyp P x) (hI : Inv P x σ) (hS : Sc6 xs L i v0 v1 v2 v3 v4 v5) (hk : ∀ σ', Inv P x σ' → k18 σ' x (x + 20) (i + 6) = some 1) : fL_law_1095 xs L k18 σ x (x + 20) i = some 1 := by
  have hC : isC σ x 13 = some () := by obtain ⟨own, R, -, ⟨G, T, eC, eV, eN, eT, eS, h⟩, -⟩ := hI; exact z11_C h.2.2.1.at
  obtain ⟨v, σ1, σ2, e1, e2, e3⟩ := both_program H.1 H.2.2.2.2.2 H.2.2.1 hI v1
  have hC2 : isC σ1 (x + 20) 14 = some () := rC14 e2
  obtain ⟨s0, s1, s2, s3, s4, s5⟩ := hS
  unfold fL_law_1095
  rw [s1, Option.bind_some, hC, Option.bind_some, e1, Option.bind_some]
  dsimp only
  rw [Option.bind_some, hC2, Option.bind_some, e2, Option.bind_some]
  dsimp only
  rw [if_pos rfl]; exact hk σ2 e3
theorem arm_run (H : Hyp P x) (hI : Inv P x σ) (hS : Sc6 xs L i v0 v1 v2 v3 v4 v5) (hk : ∀ σ', Inv P x σ' → k18 σ' x (x + 20) (i + 6) = some 1) : fL_law_1118 xs L k18 σ x (x + 20) i = some 1 := by
  have hC : isC σ x 13 = some () := by obtain ⟨own, R, -, ⟨G, T, eC, eV, eN, eT, eS, h⟩, -⟩ := hI; exact z11_C h.2.2.1.at
  obtain ⟨v, σ1, σ2, e1, e2, e3⟩ := both_run H.1 H.2.2.2.2.2 H.2.2.1 H.2.2.2.1 hI v1 v2
  have hC2 : isC σ1 (x + 20) 14 = some () := rC14 e2
  obtain ⟨s0, s1, s2, s3, s4, s5⟩ := hS
  unfold fL_law_1118
  rw [s1, Option.bind_some, s2, Option.bind_some, hC, Option.bind_some, e1, Option.bind_some]
  dsimp only
  rw [Option.bind_some, Option.bind_some, hC2, Option.bind_some, e2, Option.bind_some]
  dsimp only
  rw [if_pos rfl]; exact hk σ2 e3
theorem arm_ran (H : Hyp P x) (hI : Inv P x σ) (hS : Sc6 xs L i v0 v1 v2 v3 v4 v5) (hk : ∀ σ', Inv P x σ' → k18 σ' x (x + 20) (i + 6) = some 1) : fL_law_1151 xs L k18 σ x (x + 20) i = some 1 := by
  have hC : isC σ x 13 = some () := by obtain ⟨own, R, -, ⟨G, T, eC, eV, eN, eT, eS, h⟩, -⟩ := hI; exact z11_C h.2.2.1.at
  obtain ⟨v, σ1, σ2, e1, e2, e3⟩ := both_ran H.1 hI v1
  have hC2 : isC σ1 (x + 20) 14 = some () := rC14 e2
  obtain ⟨s0, s1, s2, s3, s4, s5⟩ := hS
  unfold fL_law_1151
  rw [s1, Option.bind_some, hC, Option.bind_some, e1, Option.bind_some]
  dsimp only
  rw [Option.bind_some, hC2, Option.bind_some, e2, Option.bind_some]
  dsimp only
  rw [if_pos rfl]; exact hk σ2 e3
theorem arm_kept (H : Hyp P x) (hI : Inv P x σ) (hS : Sc6 xs L i v0 v1 v2 v3 v4 v5) (hk : ∀ σ', Inv P x σ' → k18 σ' x (x + 20) (i + 6) = some 1) : fL_law_1174 xs L k18 σ x (x + 20) i = some 1 := by
  have hC : isC σ x 13 = some () := by obtain ⟨own, R, -, ⟨G, T, eC, eV, eN, eT, eS, h⟩, -⟩ := hI; exact z11_C h.2.2.1.at
  obtain ⟨v, σ1, σ2, e1, e2, e3⟩ := both_kept H.1 hI v1
  have hC2 : isC σ1 (x + 20) 14 = some () := rC14 e2
  obtain ⟨s0, s1, s2, s3, s4, s5⟩ := hS
  unfold fL_law_1174
  rw [s1, Option.bind_some, hC, Option.bind_some, e1, Option.bind_some]
  dsimp only
  rw [Option.bind_some, hC2, Option.bind_some, e2, Option.bind_some]
  dsimp only
  rw [if_pos rfl]; exact hk σ2 e3
theorem arm_answers (H : Hyp P x) (hI : Inv P x σ) (hS : Sc6 xs L i v0 v1 v2 v3 v4 v5) (hk : ∀ σ', Inv P x σ' → k18 σ' x (x + 20) (i + 6) = some 1) : fL_law_1198 xs L k18 σ x (x + 20) i = some 1 := by
  have hC : isC σ x 13 = some () := by obtain ⟨own, R, -, ⟨G, T, eC, eV, eN, eT, eS, h⟩, -⟩ := hI; exact z11_C h.2.2.1.at
  obtain ⟨v, σ1, σ2, e1, e2, e3⟩ := both_answers H.1 H.2.2.1 hI v1 v2 v3
  have hC2 : isC σ1 (x + 20) 14 = some () := rC14 e2
  obtain ⟨s0, s1, s2, s3, s4, s5⟩ := hS
  unfold fL_law_1198
  rw [s1, Option.bind_some, s2, Option.bind_some, s3, Option.bind_some, hC, Option.bind_some, e1, Option.bind_some]
  dsimp only
  rw [Option.bind_some, Option.bind_some, Option.bind_some, hC2, Option.bind_some, e2, Option.bind_some]
  dsimp only
  rw [if_pos rfl]; exact hk σ2 e3
theorem arm_span (H : Hyp P x) (hI : Inv P x σ) (hS : Sc6 xs L i v0 v1 v2 v3 v4 v5) (hk : ∀ σ', Inv P x σ' → k18 σ' x (x + 20) (i + 6) = some 1) : fL_law_1241 xs L k18 σ x (x + 20) i = some 1 := by
  have hC : isC σ x 13 = some () := by obtain ⟨own, R, -, ⟨G, T, eC, eV, eN, eT, eS, h⟩, -⟩ := hI; exact z11_C h.2.2.1.at
  obtain ⟨v, σ1, σ2, e1, e2, e3⟩ := both_span H.1 hI v1
  have hC2 : isC σ1 (x + 20) 14 = some () := rC14 e2
  obtain ⟨s0, s1, s2, s3, s4, s5⟩ := hS
  unfold fL_law_1241
  rw [s1, Option.bind_some, hC, Option.bind_some, e1, Option.bind_some]
  dsimp only
  rw [Option.bind_some, hC2, Option.bind_some, e2, Option.bind_some]
  dsimp only
  rw [if_pos rfl]; exact hk σ2 e3
theorem arm_lies (H : Hyp P x) (hI : Inv P x σ) (hS : Sc6 xs L i v0 v1 v2 v3 v4 v5) (hk : ∀ σ', Inv P x σ' → k18 σ' x (x + 20) (i + 6) = some 1) : fL_law_1264 xs L k18 σ x (x + 20) i = some 1 := by
  have hC : isC σ x 13 = some () := by obtain ⟨own, R, -, ⟨G, T, eC, eV, eN, eT, eS, h⟩, -⟩ := hI; exact z11_C h.2.2.1.at
  obtain ⟨v, σ1, σ2, e1, e2, e3⟩ := both_lies H.1 hI v1
  have hC2 : isC σ1 (x + 20) 14 = some () := rC14 e2
  obtain ⟨s0, s1, s2, s3, s4, s5⟩ := hS
  unfold fL_law_1264
  rw [s1, Option.bind_some, hC, Option.bind_some, e1, Option.bind_some]
  dsimp only
  rw [Option.bind_some, hC2, Option.bind_some, e2, Option.bind_some]
  dsimp only
  rw [if_pos rfl]; exact hk σ2 e3
theorem arm_find (H : Hyp P x) (hI : Inv P x σ) (hS : Sc6 xs L i v0 v1 v2 v3 v4 v5) (hk : ∀ σ', Inv P x σ' → k18 σ' x (x + 20) (i + 6) = some 1) : fL_law_1287 xs L k18 σ x (x + 20) i = some 1 := by
  have hC : isC σ x 13 = some () := by obtain ⟨own, R, -, ⟨G, T, eC, eV, eN, eT, eS, h⟩, -⟩ := hI; exact z11_C h.2.2.1.at
  obtain ⟨v, σ1, σ2, e1, e2, e3⟩ := both_find H.1 H.2.2.1 hI v1 v2 v3
  have hC2 : isC σ1 (x + 20) 14 = some () := rC14 e2
  obtain ⟨s0, s1, s2, s3, s4, s5⟩ := hS
  unfold fL_law_1287
  rw [s1, Option.bind_some, s2, Option.bind_some, s3, Option.bind_some, hC, Option.bind_some, e1, Option.bind_some]
  dsimp only
  rw [Option.bind_some, Option.bind_some, Option.bind_some, hC2, Option.bind_some, e2, Option.bind_some]
  dsimp only
  rw [if_pos rfl]; exact hk σ2 e3
theorem arm_ask (H : Hyp P x) (hI : Inv P x σ) (hS : Sc6 xs L i v0 v1 v2 v3 v4 v5) (hk : ∀ σ', Inv P x σ' → k18 σ' x (x + 20) (i + 6) = some 1) : fL_law_1330 xs L k18 σ x (x + 20) i = some 1 := by
  have hC : isC σ x 13 = some () := by obtain ⟨own, R, -, ⟨G, T, eC, eV, eN, eT, eS, h⟩, -⟩ := hI; exact z11_C h.2.2.1.at
  obtain ⟨v, σ1, σ2, e1, e2, e3⟩ := both_ask H.1 hI 
  have hC2 : isC σ1 (x + 20) 14 = some () := rC14 e2
  obtain ⟨s0, s1, s2, s3, s4, s5⟩ := hS
  unfold fL_law_1330
  rw [hC, Option.bind_some, e1, Option.bind_some]
  dsimp only
  rw [hC2, Option.bind_some, e2, Option.bind_some]
  dsimp only
  rw [if_pos rfl]; exact hk σ2 e3
theorem arm_land (H : Hyp P x) (hI : Inv P x σ) (hS : Sc6 xs L i v0 v1 v2 v3 v4 v5) (hk : ∀ σ', Inv P x σ' → k18 σ' x (x + 20) (i + 6) = some 1) : fL_law_1343 xs L k18 σ x (x + 20) i = some 1 := by
  have hC : isC σ x 13 = some () := by obtain ⟨own, R, -, ⟨G, T, eC, eV, eN, eT, eS, h⟩, -⟩ := hI; exact z11_C h.2.2.1.at
  obtain ⟨v, σ1, σ2, e1, e2, e3⟩ := both_land H.1 H.2.1 hI v1 v2 v3 v4
  have hC2 : isC σ1 (x + 20) 14 = some () := rC14 e2
  obtain ⟨s0, s1, s2, s3, s4, s5⟩ := hS
  unfold fL_law_1343
  rw [s1, Option.bind_some, s2, Option.bind_some, s3, Option.bind_some, s4, Option.bind_some, hC, Option.bind_some, e1, Option.bind_some]
  dsimp only
  rw [Option.bind_some, Option.bind_some, Option.bind_some, Option.bind_some, hC2, Option.bind_some, e2, Option.bind_some]
  dsimp only
  rw [if_pos rfl]; exact hk σ2 e3
theorem arm_local (H : Hyp P x) (hI : Inv P x σ) (hS : Sc6 xs L i v0 v1 v2 v3 v4 v5) (hk : ∀ σ', Inv P x σ' → k18 σ' x (x + 20) (i + 6) = some 1) : fL_law_1396 xs L k18 σ x (x + 20) i = some 1 := by
  have hC : isC σ x 13 = some () := by obtain ⟨own, R, -, ⟨G, T, eC, eV, eN, eT, eS, h⟩, -⟩ := hI; exact z11_C h.2.2.1.at
  obtain ⟨v, σ1, σ2, e1, e2, e3⟩ := both_local H.1 hI v1 v2
  have hC2 : isC σ1 (x + 20) 14 = some () := rC14 e2
  obtain ⟨s0, s1, s2, s3, s4, s5⟩ := hS
  unfold fL_law_1396
  rw [s1, Option.bind_some, s2, Option.bind_some, hC, Option.bind_some, e1, Option.bind_some]
  dsimp only
  rw [Option.bind_some, Option.bind_some, hC2, Option.bind_some, e2, Option.bind_some]
  dsimp only
  rw [if_pos rfl]; exact hk σ2 e3
theorem arm_oft (H : Hyp P x) (hI : Inv P x σ) (hS : Sc6 xs L i v0 v1 v2 v3 v4 v5) (hk : ∀ σ', Inv P x σ' → k18 σ' x (x + 20) (i + 6) = some 1) : fL_law_1429 xs L k18 σ x (x + 20) i = some 1 := by
  have hC : isC σ x 13 = some () := by obtain ⟨own, R, -, ⟨G, T, eC, eV, eN, eT, eS, h⟩, -⟩ := hI; exact z11_C h.2.2.1.at
  obtain ⟨v, σ1, σ2, e1, e2, e3⟩ := both_oft H.1 hI v1 v2 v3
  have hC2 : isC σ1 (x + 20) 14 = some () := rC14 e2
  obtain ⟨s0, s1, s2, s3, s4, s5⟩ := hS
  unfold fL_law_1429
  rw [s1, Option.bind_some, s2, Option.bind_some, s3, Option.bind_some, hC, Option.bind_some, e1, Option.bind_some]
  dsimp only
  rw [Option.bind_some, Option.bind_some, Option.bind_some, hC2, Option.bind_some, e2, Option.bind_some]
  dsimp only
  rw [if_pos rfl]; exact hk σ2 e3
theorem arm_any (H : Hyp P x) (hI : Inv P x σ) (hS : Sc6 xs L i v0 v1 v2 v3 v4 v5) (hk : ∀ σ', Inv P x σ' → k18 σ' x (x + 20) (i + 6) = some 1) (hi : ¬ Int32.ofNat L - 6 < i) : fL_law_18 xs L k18 σ x (x + 20) i = some 1 := by
  unfold fL_law_18
  rw [if_neg hi, hS.1, Option.bind_some]
  by_cases c0 : v0 &&& 63 = 0
  · rw [if_pos c0]; exact arm_status H hI hS hk
  rw [if_neg c0]
  by_cases c1 : v0 &&& 63 = 1
  · rw [if_pos c1]; exact arm_tray H hI hS hk
  rw [if_neg c1]
  by_cases c2 : v0 &&& 63 = 2
  · rw [if_pos c2]; exact arm_write H hI hS hk
  rw [if_neg c2]
  by_cases c3 : v0 &&& 63 = 3
  · rw [if_pos c3]; exact arm_read H hI hS hk
  rw [if_neg c3]
  by_cases c4 : v0 &&& 63 = 4
  · rw [if_pos c4]; exact arm_pour H hI hS hk
  rw [if_neg c4]
  by_cases c5 : v0 &&& 63 = 5
  · rw [if_pos c5]; exact arm_leap H hI hS hk
  rw [if_neg c5]
  by_cases c6 : v0 &&& 63 = 6
  · rw [if_pos c6]; exact arm_civil H hI hS hk
  rw [if_neg c6]
  by_cases c7 : v0 &&& 63 = 7
  · rw [if_pos c7]; exact arm_count H hI hS hk
  rw [if_neg c7]
  by_cases c8 : v0 &&& 63 = 8
  · rw [if_pos c8]; exact arm_clock H hI hS hk
  rw [if_neg c8]
  by_cases c9 : v0 &&& 63 = 9
  · rw [if_pos c9]; exact arm_step H hI hS hk
  rw [if_neg c9]
  by_cases c10 : v0 &&& 63 = 10
  · rw [if_pos c10]; exact arm_shows H hI hS hk
  rw [if_neg c10]
  by_cases c11 : v0 &&& 63 = 11
  · rw [if_pos c11]; exact arm_ahead H hI hS hk
  rw [if_neg c11]
  by_cases c12 : v0 &&& 63 = 12
  · rw [if_pos c12]; exact arm_off H hI hS hk
  rw [if_neg c12]
  by_cases c13 : v0 &&& 63 = 13
  · rw [if_pos c13]; exact arm_worst H hI hS hk
  rw [if_neg c13]
  by_cases c14 : v0 &&& 63 = 14
  · rw [if_pos c14]; exact arm_feed H hI hS hk
  rw [if_neg c14]
  by_cases c15 : v0 &&& 63 = 15
  · rw [if_pos c15]; exact arm_rules H hI hS hk
  rw [if_neg c15]
  by_cases c16 : v0 &&& 63 = 16
  · rw [if_pos c16]; exact arm_fault H hI hS hk
  rw [if_neg c16]
  by_cases c17 : v0 &&& 63 = 17
  · rw [if_pos c17]; exact arm_server H hI hS hk
  rw [if_neg c17]
  by_cases c18 : v0 &&& 63 = 18
  · rw [if_pos c18]; exact arm_notice H hI hS hk
  rw [if_neg c18]
  by_cases c19 : v0 &&& 63 = 19
  · rw [if_pos c19]; exact arm_told H hI hS hk
  rw [if_neg c19]
  by_cases c20 : v0 &&& 63 = 20
  · rw [if_pos c20]; exact arm_table H hI hS hk
  rw [if_neg c20]
  by_cases c21 : v0 &&& 63 = 21
  · rw [if_pos c21]; exact arm_misses H hI hS hk
  rw [if_neg c21]
  by_cases c22 : v0 &&& 63 = 22
  · rw [if_pos c22]; exact arm_stamp H hI hS hk
  rw [if_neg c22]
  by_cases c23 : v0 &&& 63 = 23
  · rw [if_pos c23]; exact arm_wrong H hI hS hk
  rw [if_neg c23]
  by_cases c24 : v0 &&& 63 = 24
  · rw [if_pos c24]; exact arm_blamed H hI hS hk
  rw [if_neg c24]
  by_cases c25 : v0 &&& 63 = 25
  · rw [if_pos c25]; exact arm_program H hI hS hk
  rw [if_neg c25]
  by_cases c26 : v0 &&& 63 = 26
  · rw [if_pos c26]; exact arm_run H hI hS hk
  rw [if_neg c26]
  by_cases c27 : v0 &&& 63 = 27
  · rw [if_pos c27]; exact arm_ran H hI hS hk
  rw [if_neg c27]
  by_cases c28 : v0 &&& 63 = 28
  · rw [if_pos c28]; exact arm_kept H hI hS hk
  rw [if_neg c28]
  by_cases c29 : v0 &&& 63 = 29
  · rw [if_pos c29]; exact arm_answers H hI hS hk
  rw [if_neg c29]
  by_cases c30 : v0 &&& 63 = 30
  · rw [if_pos c30]; exact arm_span H hI hS hk
  rw [if_neg c30]
  by_cases c31 : v0 &&& 63 = 31
  · rw [if_pos c31]; exact arm_lies H hI hS hk
  rw [if_neg c31]
  by_cases c32 : v0 &&& 63 = 32
  · rw [if_pos c32]; exact arm_find H hI hS hk
  rw [if_neg c32]
  by_cases c33 : v0 &&& 63 = 33
  · rw [if_pos c33]; exact arm_ask H hI hS hk
  rw [if_neg c33]
  by_cases c34 : v0 &&& 63 = 34
  · rw [if_pos c34]; exact arm_land H hI hS hk
  rw [if_neg c34]
  by_cases c35 : v0 &&& 63 = 35
  · rw [if_pos c35]; exact arm_local H hI hS hk
  rw [if_neg c35]
  by_cases c36 : v0 &&& 63 = 36
  · rw [if_pos c36]; exact arm_oft H hI hS hk
  rw [if_neg c36]
  exact hk σ hI
end
