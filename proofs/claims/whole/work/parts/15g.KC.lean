def Im (k75 k76 k77 so op lw : Nat → Int32) : Nat → Nat → Nat → Nat → Nat → Prop
  | 0 => fun l l' r r' => (l' = l + 1 ∧ r' = r + 1) ∧ Sm k75 k76 k77 so op lw 3 l r
  | d + 1 => fun l l' r r' => ((l' = l + 1 ∧ r' = r + 1) ∧ Sm k75 k76 k77 so op lw (3 - (d + 1)) l r) ∨ Ag k75 k76 k77 so op lw (3 - (d + 1)) (Bk k75 k76 k77 so op lw d) l l' r r'
section
variable {k75 k76 k77 so op lw : Nat → Int32} {j75 j76 j77 jo jp jw : Nat → Int32}
theorem Bk_Sq (d : Nat) : Bk k75 k76 k77 so op lw d = Sq (Im k75 k76 k77 so op lw d) := by cases d <;> rfl
theorem Sq_nil (It : Nat → Nat → Nat → Nat → Prop) (l r : Nat) : Sq It l l r r := ⟨0, fun _ => l, fun _ => r, rfl, rfl, rfl, rfl, fun i hi => absurd hi (by omega)⟩
theorem Sq_snoc {It : Nat → Nat → Nat → Nat → Prop} {l0 l l' r0 r r' : Nat} (h : Sq It l0 l r0 r) (hi : It l l' r r') : Sq It l0 l' r0 r' := by
  obtain ⟨k, p, q, h1, h2, h3, h4, h5⟩ := h
  refine ⟨k + 1, fun i => if i ≤ k then p i else l', fun i => if i ≤ k then q i else r', ?_, ?_, ?_, ?_, fun i hi' => ?_⟩
  · show (if 0 ≤ k then _ else _) = _; rw [if_pos (by omega)]; exact h1
  · show (if 0 ≤ k then _ else _) = _; rw [if_pos (by omega)]; exact h2
  · show (if k + 1 ≤ k then _ else _) = _; rw [if_neg (by omega)]
  · show (if k + 1 ≤ k then _ else _) = _; rw [if_neg (by omega)]
  · show It (if i ≤ k then _ else _) (if i + 1 ≤ k then _ else _) (if i ≤ k then _ else _) (if i + 1 ≤ k then _ else _)
    rw [if_pos (show i ≤ k by omega), if_pos (show i ≤ k by omega)]
    by_cases c : i < k
    · rw [if_pos (show i + 1 ≤ k by omega), if_pos (show i + 1 ≤ k by omega)]; exact h5 i c
    · have : i = k := by omega
      subst this
      rw [if_neg (by omega), if_neg (by omega), h3, h4]; exact hi
theorem Sq_le {It : Nat → Nat → Nat → Nat → Prop} (hIt : ∀ l l' r r', It l l' r r' → l < l' ∧ r < r') {l0 l1 r0 r1 : Nat} (h : Sq It l0 l1 r0 r1) : l0 ≤ l1 ∧ r0 ≤ r1 := by
  obtain ⟨k, p, q, h1, h2, h3, h4, h5⟩ := h
  have key : ∀ i, i ≤ k → p 0 ≤ p i ∧ q 0 ≤ q i := by
    intro i; induction i with
    | zero => intro _; exact ⟨Nat.le_refl _, Nat.le_refl _⟩
    | succ i ih => intro hi; have := ih (by omega); have := hIt _ _ _ _ (h5 i (by omega)); omega
  have := key k (Nat.le_refl _)
  omega
theorem Sq_mono {It It' : Nat → Nat → Nat → Nat → Prop} (hIt : ∀ l l' r r', It l l' r r' → l < l' ∧ r < r') {l0 l1 r0 r1 : Nat} (hm : ∀ l l' r r', l0 ≤ l → l' ≤ l1 → r0 ≤ r → r' ≤ r1 → It l l' r r' → It' l l' r r') (h : Sq It l0 l1 r0 r1) : Sq It' l0 l1 r0 r1 := by
  obtain ⟨k, p, q, h1, h2, h3, h4, h5⟩ := h
  have up : ∀ e i, i + e ≤ k → p i ≤ p (i + e) ∧ q i ≤ q (i + e) := by
    intro e; induction e with
    | zero => intro i _; exact ⟨Nat.le_refl _, Nat.le_refl _⟩
    | succ e ih => intro i hi; have := ih i (by omega); have := hIt _ _ _ _ (h5 (i + e) (by omega)); rw [show i + (e + 1) = i + e + 1 by omega]; omega
  refine ⟨k, p, q, h1, h2, h3, h4, fun i hi => hm _ _ _ _ ?_ ?_ ?_ ?_ (h5 i hi)⟩
  · have := up i 0 (by omega); rw [show 0 + i = i by omega] at this; omega
  · have := up (k - (i + 1)) (i + 1) (by omega); rw [show i + 1 + (k - (i + 1)) = k by omega] at this; omega
  · have := up i 0 (by omega); rw [show 0 + i = i by omega] at this; omega
  · have := up (k - (i + 1)) (i + 1) (by omega); rw [show i + 1 + (k - (i + 1)) = k by omega] at this; omega
theorem Im_lt {d l l' r r' : Nat} (h : Im k75 k76 k77 so op lw d l l' r r') : l < l' ∧ r < r' := by
  cases d with
  | zero => have := h.1; omega
  | succ d =>
    rcases h with h | h
    · have := h.1; omega
    · obtain ⟨v, rb, -, -, -, -, h5, -⟩ := h; omega
theorem Sm_cg {lev l r : Nat} (h : Sm k75 k76 k77 so op lw lev l r) (hl : j75 l = k75 l ∧ j76 l = k76 l ∧ j77 l = k77 l) (hr : jo r = so r ∧ jp r = op r ∧ jw r = lw r) : Sm j75 j76 j77 jo jp jw lev l r := by
  unfold Sm at *
  rw [hl.1, hl.2.1, hl.2.2, hr.1, hr.2.1, hr.2.2]; exact h
theorem Im_cg : ∀ (d : Nat) {l l' r r' : Nat}, Im k75 k76 k77 so op lw d l l' r r' → (∀ j, l ≤ j → j < l' → j75 j = k75 j ∧ j76 j = k76 j ∧ j77 j = k77 j) → (∀ j, r ≤ j → j < r' → jo j = so j ∧ jp j = op j ∧ jw j = lw j) → Im j75 j76 j77 jo jp jw d l l' r r' := by
  intro d; induction d with
  | zero =>
    intro l l' r r' h hl hr
    have hlt := Im_lt h
    exact ⟨h.1, Sm_cg h.2 (hl l (by omega) (by omega)) (hr r (by omega) (by omega))⟩
  | succ d ih =>
    intro l l' r r' h hl hr
    have hlt := Im_lt h
    rcases h with h | h
    · exact Or.inl ⟨h.1, Sm_cg h.2 (hl l (by omega) (by omega)) (hr r (by omega) (by omega))⟩
    · obtain ⟨v, rb, h1, h2, h3, h4, h5, h6, h7⟩ := h
      refine Or.inr ⟨v, rb, ?_, ?_, ?_, ?_, h5, ?_, ?_⟩
      · rw [(hl l (by omega) (by omega)).1, (hr r (by omega) (by omega)).1]; exact h1
      · rw [(hl l (by omega) (by omega)).2.1, (hr r (by omega) (by omega)).2.1]; exact h2
      · rw [(hr r (by omega) (by omega)).2.2]; exact h3
      · rw [(hl l (by omega) (by omega)).2.2]; exact h4
      · rw [(hr rb (by omega) (by omega)).1, (hr rb (by omega) (by omega)).2.1, (hr rb (by omega) (by omega)).2.2]; exact h6
      · rw [Bk_Sq] at h7 ⊢
        exact Sq_mono (fun _ _ _ _ => Im_lt) (fun u u' w w' q1 q2 q3 q4 q => ih q (fun j j1 j2 => hl j (by omega) (by omega)) (fun j j1 j2 => hr j (by omega) (by omega))) h7
theorem Bk_cg {d l l' r r' : Nat} (h : Bk k75 k76 k77 so op lw d l l' r r') (hl : ∀ j, l ≤ j → j < l' → j75 j = k75 j ∧ j76 j = k76 j ∧ j77 j = k77 j) (hr : ∀ j, r ≤ j → j < r' → jo j = so j ∧ jp j = op j ∧ jw j = lw j) : Bk j75 j76 j77 jo jp jw d l l' r r' := by
  rw [Bk_Sq] at h ⊢
  exact Sq_mono (fun _ _ _ _ => Im_lt) (fun u u' w w' q1 q2 q3 q4 q => Im_cg d q (fun j j1 j2 => hl j (by omega) (by omega)) (fun j j1 j2 => hr j (by omega) (by omega))) h
end
section
variable {b : Nat} {σ0 : Hs} {m : Nat} {ρ : Hs} {tx : Nat → Int} {n K : Nat}
def CI (d mk L : Nat) (H' R' : Gs) (mk' L' : Nat) : Prop := Im (ai R' 75) (ai R' 76) (ai R' 77) (ai H' 1) (ai H' 2) (ai H' 3) d L L' mk mk' ∧ mk' + 2 * L ≤ mk + 2 * L'
def LineP (b : Nat) (σ0 : Hs) (m : Nat) (ρ : Hs) (tx : Nat → Int) (n K d : Nat) : Prop := ∀ j i, 3 * d ≤ j → d ≤ i → ∀ G H R a mk L, Lq b tx n K G H R a mk L → Zq b σ0 m ρ tx n K H R a mk L (CI d mk L) (fX4_readLine_0 (GR4 j) (st4 b σ0 G H) (b + 6) (Int32.ofNat (3 - d))) (fX12_readLine_0 (GR12b i) (eR m ρ R) m (Int32.ofNat (3 - d)))
def Bs (b : Nat) (tx : Nat → Int) (n K d : Nat) (H0 R0 : Gs) (a0 mk0 L0 : Nat) (G H R : Gs) (a mk L : Nat) : Prop := Lq b tx n K G H R a mk L ∧ (Fr [1, 2, 3, 4, 5] H0 H ∧ Fr RLk R0 R) ∧ (a0 ≤ a ∧ mk0 ≤ mk ∧ L0 ≤ L) ∧ (∀ j, j < mk0 → ai H 1 j = ai H0 1 j ∧ ai H 2 j = ai H0 2 j ∧ ai H 3 j = ai H0 3 j) ∧ (∀ j, j < L0 → ai R 75 j = ai R0 75 j ∧ ai R 76 j = ai R0 76 j ∧ ai R 77 j = ai R0 77 j) ∧ Bk (ai R 75) (ai R 76) (ai R 77) (ai H 1) (ai H 2) (ai H 3) d L0 L mk0 mk ∧ mk + 2 * L0 ≤ mk0 + 2 * L
theorem Bs_new {d : Nat} {G H R : Gs} {a mk L : Nat} (h : Lq b tx n K G H R a mk L) : Bs b tx n K d H R a mk L G H R a mk L := ⟨h, ⟨Fr.refl _ _, Fr.refl _ _⟩, ⟨Nat.le_refl _, Nat.le_refl _, Nat.le_refl _⟩, fun _ _ => ⟨rfl, rfl, rfl⟩, fun _ _ => ⟨rfl, rfl, rfl⟩, by rw [Bk_Sq]; exact Sq_nil _ _ _, Nat.le_refl _⟩
theorem q_block {S2 T2 : Type} {F2 : (S2 → Option T2) → S2 → Option T2} {mkS : Hs → S2} {E : Hs → Option T2} {rest : Hs → Option Hs} {Q : Option Hs → Option T2 → Prop} {Stop : Nat → Prop} {d j i : Nat} {H0 R0 : Gs} {a0 mk0 L0 : Nat} (hd : d ≤ 3) (hj : 3 * d ≤ j) (hi : d ≤ i) (hl : LineP b σ0 m ρ tx n K d)
    (hS : ∀ a, Stop a → kA true tx n a = 0 ∨ (kA true tx n a = 3 ∧ sA tx n a = (125 : Int32).toInt))
    (f_go : ∀ KK R a, RB R true tx n a → ¬ Stop a → F2 KK (mkS (eR m ρ R)) = (fX12_readLine_0 (GR12b i) (eR m ρ R) m (Int32.ofNat (3 - d))).bind fun s => KK (mkS s))
    (f_stop : ∀ KK R a, RB R true tx n a → Stop a → F2 KK (mkS (eR m ρ R)) = E (eR m ρ R))
    (f_dead : ∀ KK R kd, fi R 21 = Int32.ofNat kd → (0 < kd ∧ kd < 7) → F2 KK (mkS (eR m ρ R)) = E (eR m ρ R))
    (q_stop : ∀ G H R a mk L, Bs b tx n K d H0 R0 a0 mk0 L0 G H R a mk L → Stop a → Q (rest (st4 b σ0 G H)) (E (eR m ρ R)))
    (q_dead : ∀ G H R a kd L, Dq b tx n K G H R a kd L → (Fr [1, 2, 3, 4, 5] H0 H ∧ Fr RLk R0 R) → a0 ≤ a → Q (rest (st4 b σ0 G H)) (E (eR m ρ R)))
    (q_odd : ∀ G H R a mk L G' R' kd, Bs b tx n K d H0 R0 a0 mk0 L0 G H R a mk L → ¬ Stop a → (kA true tx n a = 0 ∨ (kA true tx n a = 3 ∧ sA tx n a = (125 : Int32).toInt)) → fX5_refuse_0 (st4 b σ0 G H) b 2 = some (st4 b σ0 G' H) → Dq b tx n K G' H R' a kd L → Fr QLk R R' → Q (rest (st4 b σ0 G H)) (E (eR m ρ R'))) :
    ∀ t N1 N2 k G H R a mk L, Bs b tx n K d H0 R0 a0 mk0 L0 G H R a mk L → 41 ≤ t + L → t < N1 → t + 1 < N2 → k ≤ L → Q ((lp (fun (k : Hs × Nat × Int32 × Int32 → Option Hs) (z : Hs × Nat × Int32 × Int32) => fbX4_readLinesWithin_2 (GR4 (j + 1)) (fun σ xv0 xv1 xv2 => k (σ, xv0, xv1, xv2)) z.1 z.2.1 z.2.2.1 z.2.2.2) N1 (st4 b σ0 G H, b + 6, Int32.ofNat (3 - d), Int32.ofNat k)).bind rest) (lp F2 N2 (mkS (eR m ρ R))) := by
  intro t
  induction t with
  | zero => intro N1 N2 k G H R a mk L hB ht; have := hB.1.2.2.2.2; omega
  | succ t ih =>
    intro N1 N2 k G H R a mk L hB ht hN1 hN2 hk
    have hB' := hB
    obtain ⟨hq, ⟨hF1, hF2⟩, ⟨ha, hm, hLL⟩, hkH, hkR, hBk, hsl⟩ := hB
    have h40 := hq.2.2.2.2
    obtain ⟨M1, rfl⟩ : ∃ M1, N1 = M1 + 2 := ⟨N1 - 2, by omega⟩
    obtain ⟨M2, rfl⟩ : ∃ M2, N2 = M2 + 2 := ⟨N2 - 2, by omega⟩
    have hR := hq.2.2.1.1
    have hcl : ∀ (KS : Hs → Nat → Int32 → Int32 → Option Hs), fbX4_readLinesWithin_2 (GR4 (j + 1)) KS (st4 b σ0 G H) (b + 6) (Int32.ofNat (3 - d)) (Int32.ofNat k) = if (kA true tx n a ≠ 0 ∧ ¬ (kA true tx n a = 3 ∧ sA tx n a = (125 : Int32).toInt)) then (fX4_readLine_0 (GR4 j) (st4 b σ0 G H) (b + 6) (Int32.ofNat (3 - d))).bind fun s => KS s (b + 6) (Int32.ofNat (3 - d)) (Int32.ofNat (k + 1)) else some (st4 b σ0 G H) := by
      intro KS
      unfold fbX4_readLinesWithin_2
      rw [if_neg (show ¬ (40 : Int32) < Int32.ofNat k from fun q => by rw [show (40 : Int32) = Int32.ofNat 40 from rfl, lt_n (by decide) (by omega)] at q; omega), z4_C s4_A4, Option.bind_some, q_can hq, Option.bind_some, Option.bind_some, suc32]
      by_cases c : kA true tx n a ≠ 0 ∧ ¬ (kA true tx n a = 3 ∧ sA tx n a = (125 : Int32).toInt)
      · rw [cb_t c, if_neg (by decide), if_pos c]; rfl
      · rw [cb_f c, if_pos rfl, if_neg c]
    rw [lp_s, lp_s]
    show Q ((fbX4_readLinesWithin_2 (GR4 (j + 1)) _ (st4 b σ0 G H) (b + 6) (Int32.ofNat (3 - d)) (Int32.ofNat k)).bind rest) _
    rw [hcl]
    by_cases c : kA true tx n a ≠ 0 ∧ ¬ (kA true tx n a = 3 ∧ sA tx n a = (125 : Int32).toInt)
    · have hns : ¬ Stop a := fun q => by rcases hS a q with q | q; exact c.1 q; exact c.2 q
      rw [if_pos c, f_go _ R a hR hns]
      rcases hl j i hj hi G H R a mk L hq with ⟨G', H', R', a', mk', L', x1, y1, l1, ⟨f1, f2⟩, ⟨g1, g2, g3⟩, kH, kR, cI⟩ | ⟨G', H', R', a', kd, L', x1, y1, d1, ⟨f1, f2⟩, g1⟩
      · rw [x1, y1, Option.bind_some, Option.bind_some]
        refine ih (M1 + 1) (M2 + 1) (k + 1) G' H' R' a' mk' L' ⟨l1, ⟨hF1.trans f1, hF2.trans f2⟩, ⟨by omega, by omega, by omega⟩, fun q hq' => ?_, fun q hq' => ?_, ?_, ?_⟩ (by omega) (by omega) (by omega) (by omega)
        · have e1 := kH q (by omega); have e2 := hkH q hq'
          exact ⟨e1.1.trans e2.1, e1.2.1.trans e2.2.1, e1.2.2.trans e2.2.2⟩
        · have e1 := kR q (by omega); have e2 := hkR q hq'
          exact ⟨e1.1.trans e2.1, e1.2.1.trans e2.2.1, e1.2.2.trans e2.2.2⟩
        · have q := Bk_cg hBk (fun j _ j2 => kR j j2) (fun j _ j2 => kH j j2)
          rw [Bk_Sq] at q ⊢
          exact Sq_snoc q cI.1
        · have := cI.2; omega
      · have := qd_within (σ0 := σ0) d1 (GR4 (j + 1)) (Int32.ofNat (3 - d)) (Int32.ofNat (k + 1)) M1
        rw [x1, y1, Option.bind_some, Option.bind_some, this, Option.bind_some, lp_s, f_dead _ R' kd d1.2.2.1.1 (Dq_kd d1)]
        exact q_dead G' H' R' a' kd L' d1 ⟨hF1.trans f1, hF2.trans f2⟩ (by omega)
    · have c' : kA true tx n a = 0 ∨ (kA true tx n a = 3 ∧ sA tx n a = (125 : Int32).toInt) := by
        by_cases e : kA true tx n a = 0
        · exact Or.inl e
        · exact Or.inr (Classical.byContradiction fun q => c ⟨e, q⟩)
      rw [if_neg c, Option.bind_some]
      by_cases hst : Stop a
      · rw [f_stop _ R a hR hst]
        exact q_stop G H R a mk L hB' hst
      · rw [f_go _ R a hR hst]
        have k1 : ¬ kA true tx n a = 1 := by rcases c' with q | q <;> omega
        rcases q_line0 (σ0 := σ0) (m := m) (ρ := ρ) hq (lev := 3 - d) (by omega) (GR4 j) (GR12b i) with ⟨k', -, q, -⟩ | ⟨G', R', kd, x1, y1, d1, f1⟩
        · exact absurd q k1
        · rw [y1, Option.bind_some, lp_s, f_dead _ R' kd d1.2.2.1.1 (Dq_kd d1)]
          refine q_odd G H R a mk L G' R' kd hB' hst c' ?_ d1 f1
          have h0 : fr H 0 = some b := hq.2.1.1
          have hcode := x5_code (s4_A5 (b := b) (σ0 := σ0) (G := G) (H := H)) hq.1.1 hq.1.2.1 hq.1.2.2.1
          unfold fX4_readLine_0 at x1
          simp only [p_g0 h0, z5_C s4_A5, hcode, x5_isAnyWord s4_A5 hq.1, Option.bind_some, b2i_0, if_pos k1] at x1
          cases hx : fX5_refuse_0 (st4 b σ0 G H) b 2 with
          | none => rw [hx] at x1; exact absurd x1 (by intro q; cases q)
          | some s => rw [hx] at x1; exact x1
end
