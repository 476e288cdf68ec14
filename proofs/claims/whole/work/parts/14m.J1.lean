theorem gI_cg {s t : Hs} {a ci k : Nat} (h : t.2.1 a = s.2.1 a) : gI t a ci k = gI s a ci k := by
  unfold gI gV; rw [h]
def ln6 (K : Nat) (k : Nat) : Nat := if k = 2 then K + 1 else if k = 3 then K + 1 else if k = 7 then 10 else if k = 8 then 11 else if k = 9 then 64 else if k = 10 then 64 else 10
def nw6 (b K : Nat) (fm : Int32) : Gs := sfi (sfi (sfr (g0 (ln6 K)) 0 (some b)) 1 fm) 6 (-1)
theorem x6_new (s : Hs) {b K : Nat} (hb : b < s.1) (hK : K ≤ 500) (h7 : gI s b 7 7 = some (Int32.ofNat (K + 1))) (fm : Int32) : ∃ s', fX6_init_0 (nwO 8 tyX6 s) s.1 b fm = some s' ∧ s'.1 = s.1 + 9 ∧ s'.2.2 = s.2.2 ∧ (∀ q, q < s.1 → s'.2.1 q = s.2.1 q) ∧ A6 s.1 (nw6 b K fm) s' := by
  have h0 : (nwO 8 tyX6 s).2.1 s.1 = .inr (8, fun k => defaultValue (tyX6 k)) := nw_s _ _
  have stepF : ∀ (t : Hs) (F : Nat → Value) (k : Nat) (v : Value), t.2.1 s.1 = .inr (8, F) → ∃ t', pV t s.1 8 k v = some t' ∧ t'.2.1 s.1 = .inr (8, va_up F k v) ∧ t'.1 = t.1 ∧ t'.2.2 = t.2.2 ∧ ∀ q, q ≠ s.1 → t'.2.1 q = t.2.1 q := by
    intro t F k v h
    exact ⟨_, pV_raw h k v, wR_s _ _ _, rfl, rfl, fun q hq => wR_n _ _ hq⟩
  have stepA : ∀ (t : Hs) (F : Nat → Value) (c k : Nat) (ce : Ce), t.2.1 s.1 = .inr (8, F) → t.1 = s.1 + c → 1 ≤ c → ∃ t', pV (nw t ce) s.1 8 k (.ref t.1) = some t' ∧ t'.2.1 s.1 = .inr (8, va_up F k (.ref (s.1 + c))) ∧ t'.2.1 (s.1 + c) = ce ∧ t'.1 = s.1 + (c + 1) ∧ t'.2.2 = t.2.2 ∧ ∀ q, q ≠ s.1 → q < s.1 + c → t'.2.1 q = t.2.1 q := by
    intro t F c k ce h1 h2 h3
    refine ⟨wR (nw t ce) s.1 (.inr (8, va_up F k (.ref (s.1 + c)))), ?_, wR_s _ _ _, ?_, ?_, rfl, fun q hq1 hq2 => ?_⟩
    · rw [pV_raw ((nw_n _ _ (show s.1 ≠ t.1 by omega)).trans h1), h2]
    · rw [wR_n _ _ (by omega), ← h2]; exact nw_s _ _
    · show t.1 + 1 = _; omega
    · rw [wR_n _ _ hq1]; exact nw_n _ _ (by omega)
  obtain ⟨t1, a1, a2, a3, a4, a5⟩ := stepF _ _ 0 (.ref b) h0
  obtain ⟨t2, b1, b2, b3, b4, b5⟩ := stepF t1 _ 1 (.int fm) a2
  have l2 : t2.1 = s.1 + 1 := by rw [b3, a3]; rfl
  have o2 : ∀ q, q < s.1 → t2.2.1 q = s.2.1 q := fun q hq => (b5 q (by omega)).trans ((a5 q (by omega)).trans (nw_n _ _ (by omega)))
  have g2 : gI t2 b 7 7 = some (Int32.ofNat (K + 1)) := (gI_cg (o2 b hb)).trans h7
  obtain ⟨t3, c1, c2, c3, c4, c5, c6⟩ := stepA t2 _ 1 2 (.inl (0, K + 1, .inl (fun _ => 0))) b2 l2 (by omega)
  have g3 : gI t3 b 7 7 = some (Int32.ofNat (K + 1)) := (gI_cg ((c6 b (by omega) (by omega)).trans (o2 b hb))).trans h7
  obtain ⟨t4, d1, d2, d3, d4, d5, d6⟩ := stepA t3 _ 2 3 (.inl (0, K + 1, .inl (fun _ => 0))) c2 c4 (by omega)
  obtain ⟨t5, e1, e2, e3, e4, e5⟩ := stepF t4 _ 6 (.int (-1)) d2
  obtain ⟨t6, f1, f2, f3, f4, f5, f6⟩ := stepA t5 _ 3 7 (.inl (0, 10, .inl (fun _ => 0))) e2 (e3.trans d4) (by omega)
  obtain ⟨t7, i1, i2, i3, i4, i5, i6⟩ := stepA t6 _ 4 8 (.inl (1, 11, .inr (.inl (fun _ => 0)))) f2 f4 (by omega)
  obtain ⟨t8, j1, j2, j3, j4, j5, j6⟩ := stepA t7 _ 5 9 (.inl (1, 64, .inr (.inl (fun _ => 0)))) i2 i4 (by omega)
  obtain ⟨t9, k1, k2, k3, k4, k5, k6⟩ := stepA t8 _ 6 10 (.inl (3, 64, .inl (fun _ => 0))) j2 j4 (by omega)
  obtain ⟨ta, m1, m2, m3, m4, m5, m6⟩ := stepA t9 _ 7 12 (.inl (1, 10, .inr (.inl (fun _ => 0)))) k2 k4 (by omega)
  obtain ⟨tb, n1, n2, n3, n4, n5, n6⟩ := stepA ta _ 8 13 (.inl (3, 10, .inl (fun _ => 0))) m2 m4 (by omega)
  refine ⟨tb, ?_, n4, ?_, fun q hq => ?_, A6_mk ?_ ?_ ?_ ?_ ?_ ?_ ?_ ?_ ?_⟩
  · unfold fX6_init_0
    rw [a1, Option.bind_some, b1, Option.bind_some, g2, Option.bind_some, naI_ok _ (show K + 1 ≤ 600 by omega) (by omega), Option.bind_some, c1, Option.bind_some, g3, Option.bind_some, naI_ok _ (show K + 1 ≤ 600 by omega) (by omega), Option.bind_some, d1, Option.bind_some, e1, Option.bind_some]
    rw [show (10 : Int32) = Int32.ofNat 10 from rfl, naI_ok _ (show 10 ≤ 10 by omega) (by omega), Option.bind_some, f1, Option.bind_some, show (11 : Int32) = Int32.ofNat 11 from rfl, naL_ok _ (show 11 ≤ 11 by omega) (by omega), Option.bind_some, i1, Option.bind_some, show (64 : Int32) = Int32.ofNat 64 from rfl, naL_ok _ (show 64 ≤ 64 by omega) (by omega), Option.bind_some, j1, Option.bind_some, naI_ok _ (show 64 ≤ 64 by omega) (by omega), Option.bind_some, k1, Option.bind_some, naL_ok _ (show 10 ≤ 10 by omega) (by omega), Option.bind_some, m1, Option.bind_some, naI_ok _ (show 10 ≤ 10 by omega) (by omega), Option.bind_some, n1, Option.bind_some]
  · rw [n5, m5, k5, j5, i5, f5, e4, d5, c5, b4, a4]; rfl
  · rw [n6 q (by omega) (by omega), m6 q (by omega) (by omega), k6 q (by omega) (by omega), j6 q (by omega) (by omega), i6 q (by omega) (by omega), f6 q (by omega) (by omega), e5 q (by omega), d6 q (by omega) (by omega), c6 q (by omega) (by omega)]; exact o2 q hq
  · rw [n2]
    refine congrArg (fun F => Sum.inr (8, F)) (funext fun k => ?_)
    match k with
    | 0 => rfl
    | 1 => rfl
    | 2 => rfl
    | 3 => rfl
    | 4 => rfl
    | 5 => rfl
    | 6 => rfl
    | 7 => rfl
    | 8 => rfl
    | 9 => rfl
    | 10 => rfl
    | 11 => rfl
    | 12 => rfl
    | 13 => rfl
    | k + 14 => rfl
  · rw [n6 _ (by omega) (by omega), m6 _ (by omega) (by omega), k6 _ (by omega) (by omega), j6 _ (by omega) (by omega), i6 _ (by omega) (by omega), f6 _ (by omega) (by omega), e5 _ (by omega), d6 _ (by omega) (by omega)]; exact c3
  · rw [n6 _ (by omega) (by omega), m6 _ (by omega) (by omega), k6 _ (by omega) (by omega), j6 _ (by omega) (by omega), i6 _ (by omega) (by omega), f6 _ (by omega) (by omega), e5 _ (by omega)]; exact d3
  · rw [n6 _ (by omega) (by omega), m6 _ (by omega) (by omega), k6 _ (by omega) (by omega), j6 _ (by omega) (by omega), i6 _ (by omega) (by omega)]; exact f3
  · rw [n6 _ (by omega) (by omega), m6 _ (by omega) (by omega), k6 _ (by omega) (by omega), j6 _ (by omega) (by omega)]; exact i3
  · rw [n6 _ (by omega) (by omega), m6 _ (by omega) (by omega), k6 _ (by omega) (by omega)]; exact j3
  · rw [n6 _ (by omega) (by omega), m6 _ (by omega) (by omega)]; exact k3
  · rw [n6 _ (by omega) (by omega)]; exact m3
  · exact n3
