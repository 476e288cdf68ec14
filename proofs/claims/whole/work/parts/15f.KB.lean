def Sq (It : Nat → Nat → Nat → Nat → Prop) (l0 l1 r0 r1 : Nat) : Prop := ∃ (k : Nat) (p q : Nat → Nat), p 0 = l0 ∧ q 0 = r0 ∧ p k = l1 ∧ q k = r1 ∧ ∀ i, i < k → It (p i) (p (i + 1)) (q i) (q (i + 1))
def Ag (k75 k76 k77 so op lw : Nat → Int32) (lev : Nat) (Bd : Nat → Nat → Nat → Nat → Prop) (l l' r r' : Nat) : Prop := ∃ v rb, (k75 l = 4 ∧ so r = 4) ∧ (k76 l = v ∧ op r = v ∧ 2 ≤ v.toInt ∧ v.toInt ≤ 20) ∧ lw r = Int32.ofNat lev ∧ k77 l = Int32.ofNat l' ∧ (l < l' ∧ r < rb ∧ r' = rb + 1) ∧ (so rb = 8 ∧ op rb = Int32.ofNat (r + 1) ∧ lw rb = Int32.ofNat lev) ∧ Bd (l + 1) l' (r + 1) rb
def Bk (k75 k76 k77 so op lw : Nat → Int32) : Nat → Nat → Nat → Nat → Nat → Prop
  | 0 => Sq (fun l l' r r' => (l' = l + 1 ∧ r' = r + 1) ∧ Sm k75 k76 k77 so op lw 3 l r)
  | d + 1 => Sq (fun l l' r r' => ((l' = l + 1 ∧ r' = r + 1) ∧ Sm k75 k76 k77 so op lw (3 - (d + 1)) l r) ∨ Ag k75 k76 k77 so op lw (3 - (d + 1)) (Bk k75 k76 k77 so op lw d) l l' r r')
section
variable {b : Nat} {σ0 : Hs} {m : Nat} {ρ : Hs} {tx : Nat → Int} {n K : Nat} {G H R : Gs} {a mk L kd l : Nat}
theorem qd_can (h : Dq b tx n K G H R a kd L) : fX4_canBeLine_0 (st4 b σ0 G H) (b + 6) = some 0 := by
  unfold fX4_canBeLine_0
  simp only [p_g0 (Dq_h0 h), z5_C s4_A5, x5d_isFine s4_A5 h.1, Option.bind_some, if_true, bb_0]
theorem q_can (h : Lq b tx n K G H R a mk L) : fX4_canBeLine_0 (st4 b σ0 G H) (b + 6) = some (cb (kA true tx n a ≠ 0 ∧ ¬ (kA true tx n a = 3 ∧ sA tx n a = (125 : Int32).toInt))) := by
  have h0 : fr H 0 = some b := h.2.1.1
  unfold fX4_canBeLine_0
  simp only [p_g0 h0, z5_C s4_A5, x5_isFine s4_A5 h.1, x5_isEnd s4_A5 h.1, x5_isSign s4_A5 h.1, Option.bind_some, b2i_0, bb_0, bb_1, if_neg (show ¬ (1 : Int32) = 0 by decide)]
  by_cases c : kA true tx n a = 0
  · rw [if_neg (fun q => q c), cb_f (fun q => q.1 c)]
  · rw [if_pos c]
    by_cases d : kA true tx n a = 3 ∧ sA tx n a = (125 : Int32).toInt
    · rw [if_neg (fun q => q d), cb_f (fun q => q.2 d)]
    · rw [if_pos d, cb_t ⟨c, d⟩]
theorem qd_within (h : Dq b tx n K G H R a kd L) (KK : (Hs → Nat → Int32 → Option Hs) × (Hs → Nat → Int32 → Option Hs) × (Hs → Nat → Int32 → Option Hs)) (lev i : Int32) (N : Nat) : lp (fun (k : Hs × Nat × Int32 × Int32 → Option Hs) (z : Hs × Nat × Int32 × Int32) => fbX4_readLinesWithin_2 KK (fun σ xv0 xv1 xv2 => k (σ, xv0, xv1, xv2)) z.1 z.2.1 z.2.2.1 z.2.2.2) (N + 1) (st4 b σ0 G H, b + 6, lev, i) = some (st4 b σ0 G H) := by
  rw [lp_s]
  show fbX4_readLinesWithin_2 KK _ (st4 b σ0 G H) (b + 6) lev i = _
  unfold fbX4_readLinesWithin_2
  rw [z4_C s4_A4, Option.bind_some, qd_can h, Option.bind_some, if_pos rfl]
  split <;> rfl
end
