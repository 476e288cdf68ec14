def Fp7 (k : Hs × Nat × Int32 × Int32 → Option (Int32 × Hs)) (z : Hs × Nat × Int32 × Int32) : Option (Int32 × Hs) := fbX7_perform_53 (fun σ xv0 xv4 xv5 => k (σ, xv0, xv4, xv5)) z.1 z.2.1 z.2.2.1 z.2.2.2
def cS (y : Nat) (B : Gs → Hs) (T Gr : Gs) (r i : Nat) : Hs × Nat × Int32 × Int32 := (e7 y (B T) Gr, y, Int32.ofNat r, Int32.ofNat i)
def Go7 (s1 s2 : Hs × Nat × Int32 × Int32) (j : Nat) : Prop := ∀ N, lp Fp7 (N + j) s1 = lp Fp7 N s2
theorem Go7_refl (s : Hs × Nat × Int32 × Int32) : Go7 s s 0 := fun _ => rfl
theorem Go7_tr {s1 s2 s3 : Hs × Nat × Int32 × Int32} {j1 j2 : Nat} (h1 : Go7 s1 s2 j1) (h2 : Go7 s2 s3 j2) : Go7 s1 s3 (j1 + j2) := fun N => by
  rw [show N + (j1 + j2) = (N + j2) + j1 by omega, h1, h2]
section
variable {y ap ec : Nat} {B : Gs → Hs} {Hp : Gs} {ok : Gs → Prop} {V : Int32 → Int64} {m : Nat} {ρ : Hs} {hd : Gs → Prop} {f : Nat} {k72 k73 k74 : Nat → Int32} {T Gr R1 : Gs} {e kp : Nat}
def Bz (y ap ec : Nat) (B : Gs → Hs) (ok : Gs → Prop) (V : Int32 → Int64) (hd : Gs → Prop) (f : Nat) (T Gr : Gs) (kp i lev r0 rE c : Nat) (Y : Gs → Prop) : Prop := ∃ T' Gr' R' e' kp' rw j, Go7 (cS y B T Gr r0 i) (cS y B T' Gr' rw (i + j)) j ∧ Y R' ∧ ok T' ∧ Ma ap ec f hd V Gr' R' e' kp' ∧ ((Al7 Gr' R' ∧ rw = rE) ∨ De7 Gr' R') ∧ (j ≤ c ∧ kp' ≤ kp + j) ∧ ∀ q, q < lev → ai Gr' 9 q = ai Gr 9 q
def PrO (Hp : Gs) (mk : Nat) : Prop := (fi Hp 4 = Int32.ofNat mk ∧ mk ≤ 80) ∧ (ln Hp 1 = 80 ∧ ln Hp 2 = 80 ∧ ln Hp 3 = 80)
theorem Go7_row (E : Ev7 y ap ec B Hp ok V m ρ hd f k72 k73 k74) {mk : Nat} (hP : PrO Hp mk) (hG : sG ap ec f Gr) (h5 : fi Gr 5 = 0) {r r' i : Nat} (hr : r < mk) (hi : i < 1000000) {T' Gr' : Gs} (h : fX7_performRow_0 (e7 y (B T) Gr) y (Int32.ofNat r) = some (Int32.ofNat r', e7 y (B T') Gr')) : Go7 (cS y B T Gr r i) (cS y B T' Gr' r' (i + 1)) 1 := by
  intro N
  rw [lp_s]
  show fbX7_perform_53 _ (e7 y (B T) Gr) y (Int32.ofNat r) (Int32.ofNat i) = _
  unfold fbX7_perform_53
  have hm := hP.1.2
  rw [if_neg (show ¬ (1000000 : Int32) ≤ Int32.ofNat i from fun q => by rw [show (1000000 : Int32) = Int32.ofNat 1000000 from rfl, le_n (by decide) (by omega)] at q; omega), y7_g5, h5, Option.bind_some, if_pos rfl, y7_g0, hG.1, Option.bind_some, Option.bind_some, z4_g4 (E.1 T Gr), hP.1.1, Option.bind_some, if_neg (show ¬ Int32.ofNat mk ≤ Int32.ofNat r from fun q => by rw [le_n (by omega) (by omega)] at q; omega), y7_C, Option.bind_some, h, Option.bind_some, suc32]
  rfl
def ItemP (y ap ec : Nat) (B : Gs → Hs) (Hp : Gs) (ok : Gs → Prop) (V : Int32 → Int64) (m : Nat) (ρ : Hs) (hd : Gs → Prop) (f : Nat) (k72 k73 k74 : Nat → Int32) (mk d : Nat) : Prop := ∀ g i (T Gr R1 : Gs) e kp l l' r r' to, d ≤ g → Im k72 k73 k74 (ai Hp 1) (ai Hp 2) (ai Hp 3) d l l' r r' → (l' ≤ 40 ∧ r' ≤ mk) → (l < to ∧ to ≤ 40) → ok T → Ma ap ec f hd V Gr R1 e kp → Al7 Gr R1 → (i + 21 ^ d * (l' - l) ≤ 1000000 ∧ kp + 21 ^ d * (l' - l) ≤ 1000000) → Bz y ap ec B ok V hd f T Gr kp i (3 - d) r r' (21 ^ d * (l' - l)) (fun R' => ∀ KS, fbX12_runLines_2 (GR12c g) KS (eR m ρ R1) m (Int32.ofNat to) (Int32.ofNat l) = KS (eR m ρ R') m (Int32.ofNat to) (Int32.ofNat l'))
def BlockP (y ap ec : Nat) (B : Gs → Hs) (Hp : Gs) (ok : Gs → Prop) (V : Int32 → Int64) (m : Nat) (ρ : Hs) (hd : Gs → Prop) (f : Nat) (k72 k73 k74 : Nat → Int32) (mk d : Nat) : Prop := ∀ g i (T Gr R1 : Gs) e kp l0 l1 r0 r1, d ≤ g → Bk k72 k73 k74 (ai Hp 1) (ai Hp 2) (ai Hp 3) d l0 l1 r0 r1 → (l1 ≤ 40 ∧ r1 ≤ mk) → ok T → Ma ap ec f hd V Gr R1 e kp → Al7 Gr R1 → (i + 21 ^ d * (l1 - l0) ≤ 1000000 ∧ kp + 21 ^ d * (l1 - l0) ≤ 1000000) → Bz y ap ec B ok V hd f T Gr kp i (3 - d) r0 r1 (21 ^ d * (l1 - l0)) (fun R' => fX12_runLines_2 (GR12c g) (eR m ρ R1) m (Int32.ofNat l1) (Int32.ofNat l0) = some (eR m ρ R'))
theorem b_dead {to l : Nat} (hto : to ≤ 40) (hl : l ≤ 40) (KK : Hs → Nat → Int32 → Int32 → Option Hs) (KS : Hs → Nat → Int32 → Int32 → Option Hs) (hD : ¬ fi R1 105 = -1) : fbX12_runLines_2 KK KS (eR m ρ R1) m (Int32.ofNat to) (Int32.ofNat l) = some (eR m ρ R1) := by
  unfold fbX12_runLines_2
  rw [RG_105, Option.bind_some, if_neg hD, ite_self]
theorem b_end {l : Nat} (KK : Hs → Nat → Int32 → Int32 → Option Hs) (KS : Hs → Nat → Int32 → Int32 → Option Hs) : fbX12_runLines_2 KK KS (eR m ρ R1) m (Int32.ofNat l) (Int32.ofNat l) = some (eR m ρ R1) := by
  unfold fbX12_runLines_2
  rw [if_pos (Int32.le_refl _)]
theorem block_of (E : Ev7 y ap ec B Hp ok V m ρ hd f k72 k73 k74) {mk d : Nat} (hP : PrO Hp mk) (hI : ItemP y ap ec B Hp ok V m ρ hd f k72 k73 k74 mk d) : BlockP y ap ec B Hp ok V m ρ hd f k72 k73 k74 mk d := by
  intro g i T Gr R1 e kp l0 l1 r0 r1 hg hB hb hT hM hA hc
  rw [Bk_Sq] at hB
  obtain ⟨k, p, q, h1, h2, h3, h4, h5⟩ := hB
  have up : ∀ e i, i + e ≤ k → p i ≤ p (i + e) ∧ q i ≤ q (i + e) ∧ e ≤ p (i + e) - p i := by
    intro e; induction e with
    | zero => intro i _; exact ⟨Nat.le_refl _, Nat.le_refl _, Nat.zero_le _⟩
    | succ e ih => intro i hi; have := ih i (by omega); have := Im_lt (h5 (i + e) (by omega)); rw [show i + (e + 1) = i + e + 1 by omega]; omega
  have key : ∀ n j0, j0 + n = k → ∀ i N (T Gr R1 : Gs) e kp, n + 1 ≤ N → ok T → Ma ap ec f hd V Gr R1 e kp → Al7 Gr R1 → (i + 21 ^ d * (l1 - p j0) ≤ 1000000 ∧ kp + 21 ^ d * (l1 - p j0) ≤ 1000000) → Bz y ap ec B ok V hd f T Gr kp i (3 - d) (q j0) r1 (21 ^ d * (l1 - p j0)) (fun R' => lp (fun (k : Hs × Nat × Int32 × Int32 → Option Hs) (z : Hs × Nat × Int32 × Int32) => fbX12_runLines_2 (GR12c g) (fun σ xv0 xv2 xv3 => k (σ, xv0, xv2, xv3)) z.1 z.2.1 z.2.2.1 z.2.2.2) N (eR m ρ R1, m, Int32.ofNat l1, Int32.ofNat (p j0)) = some (eR m ρ R')) := by
    intro n; induction n with
    | zero =>
      intro j0 hj i N T Gr R1 e kp hN hT hM hA hc
      have ej : j0 = k := by omega
      subst ej
      obtain ⟨N', rfl⟩ : ∃ N', N = N' + 1 := ⟨N - 1, by omega⟩
      refine ⟨T, Gr, R1, e, kp, r1, 0, by rw [h4]; exact Go7_refl _, ?_, hT, hM, Or.inl ⟨hA, rfl⟩, ⟨Nat.zero_le _, Nat.le_refl _⟩, fun _ _ => rfl⟩
      rw [lp_s, h3]
      exact b_end _ _
    | succ n ih =>
      intro j0 hj i N T Gr R1 e kp hN hT hM hA hc
      have hit := h5 j0 (by omega)
      have u1 := up (k - (j0 + 1)) (j0 + 1) (by omega)
      rw [show j0 + 1 + (k - (j0 + 1)) = k by omega, h3, h4] at u1
      have hlt := Im_lt hit
      have ecut : 21 ^ d * (l1 - p j0) = 21 ^ d * (p (j0 + 1) - p j0) + 21 ^ d * (l1 - p (j0 + 1)) := by
        rw [← Nat.mul_add]; congr 1; omega
      obtain ⟨N', rfl⟩ : ∃ N', N = N' + 2 := ⟨N - 2, by omega⟩
      obtain ⟨T', Gr', R', e', kp', rw', j, g1, g2, g3, g4, g5, ⟨g6, g7⟩, g8⟩ := hI g i T Gr R1 e kp (p j0) (p (j0 + 1)) (q j0) (q (j0 + 1)) l1 hg hit ⟨by omega, by omega⟩ ⟨by omega, by omega⟩ hT hM hA ⟨by omega, by omega⟩
      rcases g5 with ⟨a5, rfl⟩ | d5
      · obtain ⟨T2, Gr2, R2, e2, kp2, rw2, j2, f1, f2, f3, f4, f5, ⟨f6, f7⟩, f8⟩ := ih (j0 + 1) (by omega) (i + j) (N' + 1) T' Gr' R' e' kp' (by omega) g3 g4 a5 ⟨by omega, by omega⟩
        refine ⟨T2, Gr2, R2, e2, kp2, rw2, j + j2, ?_, ?_, f3, f4, f5, ⟨by omega, by omega⟩, fun q hq => (f8 q hq).trans (g8 q hq)⟩
        · rw [show i + (j + j2) = i + j + j2 by omega]; exact Go7_tr g1 f1
        · rw [lp_s]
          show fbX12_runLines_2 (GR12c g) _ (eR m ρ R1) m (Int32.ofNat l1) (Int32.ofNat (p j0)) = _
          rw [g2]; exact f2
      · refine ⟨T', Gr', R', e', kp', rw', j, g1, ?_, g3, g4, Or.inr d5, ⟨by omega, g7⟩, g8⟩
        rw [lp_s]
        show fbX12_runLines_2 (GR12c g) _ (eR m ρ R1) m (Int32.ofNat l1) (Int32.ofNat (p j0)) = _
        rw [g2]
        show lp _ (N' + 1) _ = _
        rw [lp_s]
        exact b_dead (by omega) (by omega) _ _ (De7_n d5).2
  have := up k 0 (by omega)
  rw [show 0 + k = k by omega, h1, h3] at this
  have hk := key k 0 (by omega) i fu T Gr R1 e kp (by unfold fu; omega) hT hM hA (by rw [h1]; exact hc)
  rw [h1, h2] at hk
  exact hk
end
