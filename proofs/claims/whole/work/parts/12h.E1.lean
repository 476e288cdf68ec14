def In12 (s0 s : Hs) (k : Nat) (F : Nat → Value) (C : Nat → Ce) : Prop := s.1 = s0.1 + 1 + k ∧ s.2.2 = s0.2.2 ∧ s.2.1 s0.1 = .inr (14, F) ∧ (∀ j, j < k → s.2.1 (s0.1 + 1 + j) = C j) ∧ ∀ a, a < s0.1 → s.2.1 a = s0.2.1 a
theorem in12_I {s0 s : Hs} {k : Nat} {F : Nat → Value} {C : Nat → Ce} (h : In12 s0 s k F C) (t M n q : Nat) (hn : n ≤ M) (hM : M ≤ 5000) : ∃ s', In12 s0 s' (k + 1) (va_up F q (.ref (s0.1 + 1 + k))) (up C k (.inl (t, n, .inl (fun _ => 0)))) ∧ ∀ {β : Type} (K : Hs → Option β), ((naI t M s (Int32.ofNat n)).bind fun v => (pV v.2 s0.1 14 q (.ref v.1)).bind K) = K s' := by
  obtain ⟨h1, h2, h3, h4, h5⟩ := h
  have hr : (nw s (.inl (t, n, .inl (fun _ => 0)))).2.1 s0.1 = .inr (14, F) := (nw_n _ _ (by omega)).trans h3
  refine ⟨wR (nw s (.inl (t, n, .inl (fun _ => 0)))) s0.1 (.inr (14, va_up F q (.ref s.1))), ⟨by show s.1 + 1 = _; omega, h2, by rw [wR_s, h1], fun j hj => ?_, fun a ha => ?_⟩, fun K => ?_⟩
  · rw [wR_n _ _ (by omega)]
    by_cases hjk : j = k
    · subst hjk; rw [up_same, ← h1]; exact nw_s _ _
    · rw [up_ne _ _ _ _ hjk, nw_n _ _ (by omega)]; exact h4 j (by omega)
  · rw [wR_n _ _ (by omega), nw_n _ _ (by omega)]; exact h5 a ha
  · rw [naI_ok _ hn hM, Option.bind_some, pV_raw hr, Option.bind_some]
theorem in12_L {s0 s : Hs} {k : Nat} {F : Nat → Value} {C : Nat → Ce} (h : In12 s0 s k F C) (M n q : Nat) (hn : n ≤ M) (hM : M ≤ 5000) : ∃ s', In12 s0 s' (k + 1) (va_up F q (.ref (s0.1 + 1 + k))) (up C k (.inl (1, n, .inr (.inl (fun _ => 0))))) ∧ ∀ {β : Type} (K : Hs → Option β), ((naL M s (Int32.ofNat n)).bind fun v => (pV v.2 s0.1 14 q (.ref v.1)).bind K) = K s' := by
  obtain ⟨h1, h2, h3, h4, h5⟩ := h
  have hr : (nw s (.inl (1, n, .inr (.inl (fun _ => 0))))).2.1 s0.1 = .inr (14, F) := (nw_n _ _ (by omega)).trans h3
  refine ⟨wR (nw s (.inl (1, n, .inr (.inl (fun _ => 0))))) s0.1 (.inr (14, va_up F q (.ref s.1))), ⟨by show s.1 + 1 = _; omega, h2, by rw [wR_s, h1], fun j hj => ?_, fun a ha => ?_⟩, fun K => ?_⟩
  · rw [wR_n _ _ (by omega)]
    by_cases hjk : j = k
    · subst hjk; rw [up_same, ← h1]; exact nw_s _ _
    · rw [up_ne _ _ _ _ hjk, nw_n _ _ (by omega)]; exact h4 j (by omega)
  · rw [wR_n _ _ (by omega), nw_n _ _ (by omega)]; exact h5 a ha
  · rw [naL_ok _ hn hM, Option.bind_some, pV_raw hr, Option.bind_some]
theorem in12_P {s0 s : Hs} {k : Nat} {F : Nat → Value} {C : Nat → Ce} (h : In12 s0 s k F C) (q : Nat) (v : Value) : ∃ s', In12 s0 s' k (va_up F q v) C ∧ ∀ {β : Type} (K : Hs → Option β), ((pV s s0.1 14 q v).bind K) = K s' := by
  obtain ⟨h1, h2, h3, h4, h5⟩ := h
  refine ⟨wR s s0.1 (.inr (14, va_up F q v)), ⟨h1, h2, wR_s _ _ _, fun j hj => ?_, fun a ha => ?_⟩, fun K => ?_⟩
  · rw [wR_n _ _ (by omega)]; exact h4 j hj
  · rw [wR_n _ _ (by omega)]; exact h5 a ha
  · rw [pV_raw h3, Option.bind_some]
def R00 : Gs := sfi (sfi (sfi (sfi (sfi (g0 (fun _ => 0)) 19 (-1)) 20 (-1)) 61 (-1)) 68 (-1)) 91 (-1)
def R0 : Gs := sai R00 3 (fun t => if t < 4 then -1 else 0)
theorem init12 (s : Hs) : ∃ s2, fX12_init_0 (nwO 14 tyX12 s) s.1 = some s2 ∧ s2.1 = s.1 + 58 ∧ s2.2.2 = s.2.2 ∧ (∀ a, a < s.1 → s2.2.1 a = s.2.1 a) ∧ eR s.1 s2 R0 = s2 := by
  have h0 : In12 s (nwO 14 tyX12 s) 0 (fun k => defaultValue (tyX12 k)) (fun _ => ce_no) := ⟨rfl, rfl, nw_s _ _, fun j hj => by omega, fun a ha => nw_n _ _ (by omega)⟩
  unfold fX12_init_0
  obtain ⟨t1, h1, e1⟩ := in12_I h0 0 4 4 2 (by omega) (by omega)
  refine Eq.subst (motive := fun X => ∃ s2, X = some s2 ∧ s2.1 = s.1 + 58 ∧ s2.2.2 = s.2.2 ∧ (∀ a, a < s.1 → s2.2.1 a = s.2.1 a) ∧ eR s.1 s2 R0 = s2) (e1 _).symm ?_
  clear h0 e1
  obtain ⟨t2, h2, e2⟩ := in12_I h1 0 4 4 3 (by omega) (by omega)
  refine Eq.subst (motive := fun X => ∃ s2, X = some s2 ∧ s2.1 = s.1 + 58 ∧ s2.2.2 = s.2.2 ∧ (∀ a, a < s.1 → s2.2.1 a = s.2.1 a) ∧ eR s.1 s2 R0 = s2) (e2 _).symm ?_
  clear h1 e2
  obtain ⟨t3, h3, e3⟩ := in12_L h2 160 160 4 (by omega) (by omega)
  refine Eq.subst (motive := fun X => ∃ s2, X = some s2 ∧ s2.1 = s.1 + 58 ∧ s2.2.2 = s.2.2 ∧ (∀ a, a < s.1 → s2.2.1 a = s.2.1 a) ∧ eR s.1 s2 R0 = s2) (e3 _).symm ?_
  clear h2 e3
  obtain ⟨t4, h4, e4⟩ := in12_I h3 0 20 20 7 (by omega) (by omega)
  refine Eq.subst (motive := fun X => ∃ s2, X = some s2 ∧ s2.1 = s.1 + 58 ∧ s2.2.2 = s.2.2 ∧ (∀ a, a < s.1 → s2.2.1 a = s.2.1 a) ∧ eR s.1 s2 R0 = s2) (e4 _).symm ?_
  clear h3 e4
  obtain ⟨t5, h5, e5⟩ := in12_I h4 0 20 20 8 (by omega) (by omega)
  refine Eq.subst (motive := fun X => ∃ s2, X = some s2 ∧ s2.1 = s.1 + 58 ∧ s2.2.2 = s.2.2 ∧ (∀ a, a < s.1 → s2.2.1 a = s.2.1 a) ∧ eR s.1 s2 R0 = s2) (e5 _).symm ?_
  clear h4 e5
  obtain ⟨t6, h6, e6⟩ := in12_I h5 0 60 60 9 (by omega) (by omega)
  refine Eq.subst (motive := fun X => ∃ s2, X = some s2 ∧ s2.1 = s.1 + 58 ∧ s2.2.2 = s.2.2 ∧ (∀ a, a < s.1 → s2.2.1 a = s.2.1 a) ∧ eR s.1 s2 R0 = s2) (e6 _).symm ?_
  clear h5 e6
  obtain ⟨t7, h7, e7⟩ := in12_I h6 0 60 60 10 (by omega) (by omega)
  refine Eq.subst (motive := fun X => ∃ s2, X = some s2 ∧ s2.1 = s.1 + 58 ∧ s2.2.2 = s.2.2 ∧ (∀ a, a < s.1 → s2.2.1 a = s.2.1 a) ∧ eR s.1 s2 R0 = s2) (e7 _).symm ?_
  clear h6 e7
  obtain ⟨t8, h8, e8⟩ := in12_I h7 0 12 12 13 (by omega) (by omega)
  refine Eq.subst (motive := fun X => ∃ s2, X = some s2 ∧ s2.1 = s.1 + 58 ∧ s2.2.2 = s.2.2 ∧ (∀ a, a < s.1 → s2.2.1 a = s.2.1 a) ∧ eR s.1 s2 R0 = s2) (e8 _).symm ?_
  clear h7 e8
  obtain ⟨t9, h9, e9⟩ := in12_I h8 0 60 60 14 (by omega) (by omega)
  refine Eq.subst (motive := fun X => ∃ s2, X = some s2 ∧ s2.1 = s.1 + 58 ∧ s2.2.2 = s.2.2 ∧ (∀ a, a < s.1 → s2.2.1 a = s.2.1 a) ∧ eR s.1 s2 R0 = s2) (e9 _).symm ?_
  clear h8 e9
  obtain ⟨t10, h10, e10⟩ := in12_I h9 0 60 60 15 (by omega) (by omega)
  refine Eq.subst (motive := fun X => ∃ s2, X = some s2 ∧ s2.1 = s.1 + 58 ∧ s2.2.2 = s.2.2 ∧ (∀ a, a < s.1 → s2.2.1 a = s.2.1 a) ∧ eR s.1 s2 R0 = s2) (e10 _).symm ?_
  clear h9 e10
  obtain ⟨t11, h11, e11⟩ := in12_I h10 2 500 500 16 (by omega) (by omega)
  refine Eq.subst (motive := fun X => ∃ s2, X = some s2 ∧ s2.1 = s.1 + 58 ∧ s2.2.2 = s.2.2 ∧ (∀ a, a < s.1 → s2.2.1 a = s.2.1 a) ∧ eR s.1 s2 R0 = s2) (e11 _).symm ?_
  clear h10 e11
  obtain ⟨t12, h12, e12⟩ := in12_P h11 19 (.int (-1))
  refine Eq.subst (motive := fun X => ∃ s2, X = some s2 ∧ s2.1 = s.1 + 58 ∧ s2.2.2 = s.2.2 ∧ (∀ a, a < s.1 → s2.2.1 a = s.2.1 a) ∧ eR s.1 s2 R0 = s2) (e12 _).symm ?_
  clear h11 e12
  obtain ⟨t13, h13, e13⟩ := in12_P h12 20 (.int (-1))
  refine Eq.subst (motive := fun X => ∃ s2, X = some s2 ∧ s2.1 = s.1 + 58 ∧ s2.2.2 = s.2.2 ∧ (∀ a, a < s.1 → s2.2.1 a = s.2.1 a) ∧ eR s.1 s2 R0 = s2) (e13 _).symm ?_
  clear h12 e13
  obtain ⟨t14, h14, e14⟩ := in12_I h13 0 4 4 33 (by omega) (by omega)
  refine Eq.subst (motive := fun X => ∃ s2, X = some s2 ∧ s2.1 = s.1 + 58 ∧ s2.2.2 = s.2.2 ∧ (∀ a, a < s.1 → s2.2.1 a = s.2.1 a) ∧ eR s.1 s2 R0 = s2) (e14 _).symm ?_
  clear h13 e14
  obtain ⟨t15, h15, e15⟩ := in12_I h14 0 4 4 34 (by omega) (by omega)
  refine Eq.subst (motive := fun X => ∃ s2, X = some s2 ∧ s2.1 = s.1 + 58 ∧ s2.2.2 = s.2.2 ∧ (∀ a, a < s.1 → s2.2.1 a = s.2.1 a) ∧ eR s.1 s2 R0 = s2) (e15 _).symm ?_
  clear h14 e15
  obtain ⟨t16, h16, e16⟩ := in12_I h15 0 44 44 35 (by omega) (by omega)
  refine Eq.subst (motive := fun X => ∃ s2, X = some s2 ∧ s2.1 = s.1 + 58 ∧ s2.2.2 = s.2.2 ∧ (∀ a, a < s.1 → s2.2.1 a = s.2.1 a) ∧ eR s.1 s2 R0 = s2) (e16 _).symm ?_
  clear h15 e16
  obtain ⟨t17, h17, e17⟩ := in12_I h16 0 4400 4400 36 (by omega) (by omega)
  refine Eq.subst (motive := fun X => ∃ s2, X = some s2 ∧ s2.1 = s.1 + 58 ∧ s2.2.2 = s.2.2 ∧ (∀ a, a < s.1 → s2.2.1 a = s.2.1 a) ∧ eR s.1 s2 R0 = s2) (e17 _).symm ?_
  clear h16 e17
  obtain ⟨t18, h18, e18⟩ := in12_I h17 0 11 11 37 (by omega) (by omega)
  refine Eq.subst (motive := fun X => ∃ s2, X = some s2 ∧ s2.1 = s.1 + 58 ∧ s2.2.2 = s.2.2 ∧ (∀ a, a < s.1 → s2.2.1 a = s.2.1 a) ∧ eR s.1 s2 R0 = s2) (e18 _).symm ?_
  clear h17 e18
  obtain ⟨t19, h19, e19⟩ := in12_I h18 0 1100 1100 38 (by omega) (by omega)
  refine Eq.subst (motive := fun X => ∃ s2, X = some s2 ∧ s2.1 = s.1 + 58 ∧ s2.2.2 = s.2.2 ∧ (∀ a, a < s.1 → s2.2.1 a = s.2.1 a) ∧ eR s.1 s2 R0 = s2) (e19 _).symm ?_
  clear h18 e19
  obtain ⟨t20, h20, e20⟩ := in12_L h19 40 40 39 (by omega) (by omega)
  refine Eq.subst (motive := fun X => ∃ s2, X = some s2 ∧ s2.1 = s.1 + 58 ∧ s2.2.2 = s.2.2 ∧ (∀ a, a < s.1 → s2.2.1 a = s.2.1 a) ∧ eR s.1 s2 R0 = s2) (e20 _).symm ?_
  clear h19 e20
  obtain ⟨t21, h21, e21⟩ := in12_L h20 10 10 40 (by omega) (by omega)
  refine Eq.subst (motive := fun X => ∃ s2, X = some s2 ∧ s2.1 = s.1 + 58 ∧ s2.2.2 = s.2.2 ∧ (∀ a, a < s.1 → s2.2.1 a = s.2.1 a) ∧ eR s.1 s2 R0 = s2) (e21 _).symm ?_
  clear h20 e21
  obtain ⟨t22, h22, e22⟩ := in12_L h21 600 600 41 (by omega) (by omega)
  refine Eq.subst (motive := fun X => ∃ s2, X = some s2 ∧ s2.1 = s.1 + 58 ∧ s2.2.2 = s.2.2 ∧ (∀ a, a < s.1 → s2.2.1 a = s.2.1 a) ∧ eR s.1 s2 R0 = s2) (e22 _).symm ?_
  clear h21 e22
  obtain ⟨t23, h23, e23⟩ := in12_L h22 11 11 42 (by omega) (by omega)
  refine Eq.subst (motive := fun X => ∃ s2, X = some s2 ∧ s2.1 = s.1 + 58 ∧ s2.2.2 = s.2.2 ∧ (∀ a, a < s.1 → s2.2.1 a = s.2.1 a) ∧ eR s.1 s2 R0 = s2) (e23 _).symm ?_
  clear h22 e23
  obtain ⟨t24, h24, e24⟩ := in12_L h23 10 10 43 (by omega) (by omega)
  refine Eq.subst (motive := fun X => ∃ s2, X = some s2 ∧ s2.1 = s.1 + 58 ∧ s2.2.2 = s.2.2 ∧ (∀ a, a < s.1 → s2.2.1 a = s.2.1 a) ∧ eR s.1 s2 R0 = s2) (e24 _).symm ?_
  clear h23 e24
  obtain ⟨t25, h25, e25⟩ := in12_I h24 3 600 600 44 (by omega) (by omega)
  refine Eq.subst (motive := fun X => ∃ s2, X = some s2 ∧ s2.1 = s.1 + 58 ∧ s2.2.2 = s.2.2 ∧ (∀ a, a < s.1 → s2.2.1 a = s.2.1 a) ∧ eR s.1 s2 R0 = s2) (e25 _).symm ?_
  clear h24 e25
  obtain ⟨t26, h26, e26⟩ := in12_I h25 3 10 10 45 (by omega) (by omega)
  refine Eq.subst (motive := fun X => ∃ s2, X = some s2 ∧ s2.1 = s.1 + 58 ∧ s2.2.2 = s.2.2 ∧ (∀ a, a < s.1 → s2.2.1 a = s.2.1 a) ∧ eR s.1 s2 R0 = s2) (e26 _).symm ?_
  clear h25 e26
  obtain ⟨t27, h27, e27⟩ := in12_I h26 0 8 8 50 (by omega) (by omega)
  refine Eq.subst (motive := fun X => ∃ s2, X = some s2 ∧ s2.1 = s.1 + 58 ∧ s2.2.2 = s.2.2 ∧ (∀ a, a < s.1 → s2.2.1 a = s.2.1 a) ∧ eR s.1 s2 R0 = s2) (e27 _).symm ?_
  clear h26 e27
  obtain ⟨t28, h28, e28⟩ := in12_I h27 0 60 60 51 (by omega) (by omega)
  refine Eq.subst (motive := fun X => ∃ s2, X = some s2 ∧ s2.1 = s.1 + 58 ∧ s2.2.2 = s.2.2 ∧ (∀ a, a < s.1 → s2.2.1 a = s.2.1 a) ∧ eR s.1 s2 R0 = s2) (e28 _).symm ?_
  clear h27 e28
  obtain ⟨t29, h29, e29⟩ := in12_I h28 0 60 60 52 (by omega) (by omega)
  refine Eq.subst (motive := fun X => ∃ s2, X = some s2 ∧ s2.1 = s.1 + 58 ∧ s2.2.2 = s.2.2 ∧ (∀ a, a < s.1 → s2.2.1 a = s.2.1 a) ∧ eR s.1 s2 R0 = s2) (e29 _).symm ?_
  clear h28 e29
  obtain ⟨t30, h30, e30⟩ := in12_I h29 0 60 60 53 (by omega) (by omega)
  refine Eq.subst (motive := fun X => ∃ s2, X = some s2 ∧ s2.1 = s.1 + 58 ∧ s2.2.2 = s.2.2 ∧ (∀ a, a < s.1 → s2.2.1 a = s.2.1 a) ∧ eR s.1 s2 R0 = s2) (e30 _).symm ?_
  clear h29 e30
  obtain ⟨t31, h31, e31⟩ := in12_I h30 0 60 60 54 (by omega) (by omega)
  refine Eq.subst (motive := fun X => ∃ s2, X = some s2 ∧ s2.1 = s.1 + 58 ∧ s2.2.2 = s.2.2 ∧ (∀ a, a < s.1 → s2.2.1 a = s.2.1 a) ∧ eR s.1 s2 R0 = s2) (e31 _).symm ?_
  clear h30 e31
  obtain ⟨t32, h32, e32⟩ := in12_I h31 0 60 60 55 (by omega) (by omega)
  refine Eq.subst (motive := fun X => ∃ s2, X = some s2 ∧ s2.1 = s.1 + 58 ∧ s2.2.2 = s.2.2 ∧ (∀ a, a < s.1 → s2.2.1 a = s.2.1 a) ∧ eR s.1 s2 R0 = s2) (e32 _).symm ?_
  clear h31 e32
  obtain ⟨t33, h33, e33⟩ := in12_I h32 0 60 60 58 (by omega) (by omega)
  refine Eq.subst (motive := fun X => ∃ s2, X = some s2 ∧ s2.1 = s.1 + 58 ∧ s2.2.2 = s.2.2 ∧ (∀ a, a < s.1 → s2.2.1 a = s.2.1 a) ∧ eR s.1 s2 R0 = s2) (e33 _).symm ?_
  clear h32 e33
  obtain ⟨t34, h34, e34⟩ := in12_I h33 0 60 60 59 (by omega) (by omega)
  refine Eq.subst (motive := fun X => ∃ s2, X = some s2 ∧ s2.1 = s.1 + 58 ∧ s2.2.2 = s.2.2 ∧ (∀ a, a < s.1 → s2.2.1 a = s.2.1 a) ∧ eR s.1 s2 R0 = s2) (e34 _).symm ?_
  clear h33 e34
  obtain ⟨t35, h35, e35⟩ := in12_L h34 60 60 60 (by omega) (by omega)
  refine Eq.subst (motive := fun X => ∃ s2, X = some s2 ∧ s2.1 = s.1 + 58 ∧ s2.2.2 = s.2.2 ∧ (∀ a, a < s.1 → s2.2.1 a = s.2.1 a) ∧ eR s.1 s2 R0 = s2) (e35 _).symm ?_
  clear h34 e35
  obtain ⟨t36, h36, e36⟩ := in12_P h35 61 (.int (-1))
  refine Eq.subst (motive := fun X => ∃ s2, X = some s2 ∧ s2.1 = s.1 + 58 ∧ s2.2.2 = s.2.2 ∧ (∀ a, a < s.1 → s2.2.1 a = s.2.1 a) ∧ eR s.1 s2 R0 = s2) (e36 _).symm ?_
  clear h35 e36
  obtain ⟨t37, h37, e37⟩ := in12_P h36 68 (.int (-1))
  refine Eq.subst (motive := fun X => ∃ s2, X = some s2 ∧ s2.1 = s.1 + 58 ∧ s2.2.2 = s.2.2 ∧ (∀ a, a < s.1 → s2.2.1 a = s.2.1 a) ∧ eR s.1 s2 R0 = s2) (e37 _).symm ?_
  clear h36 e37
  obtain ⟨t38, h38, e38⟩ := in12_I h37 0 40 40 72 (by omega) (by omega)
  refine Eq.subst (motive := fun X => ∃ s2, X = some s2 ∧ s2.1 = s.1 + 58 ∧ s2.2.2 = s.2.2 ∧ (∀ a, a < s.1 → s2.2.1 a = s.2.1 a) ∧ eR s.1 s2 R0 = s2) (e38 _).symm ?_
  clear h37 e38
  obtain ⟨t39, h39, e39⟩ := in12_I h38 0 40 40 73 (by omega) (by omega)
  refine Eq.subst (motive := fun X => ∃ s2, X = some s2 ∧ s2.1 = s.1 + 58 ∧ s2.2.2 = s.2.2 ∧ (∀ a, a < s.1 → s2.2.1 a = s.2.1 a) ∧ eR s.1 s2 R0 = s2) (e39 _).symm ?_
  clear h38 e39
  obtain ⟨t40, h40, e40⟩ := in12_I h39 0 40 40 74 (by omega) (by omega)
  refine Eq.subst (motive := fun X => ∃ s2, X = some s2 ∧ s2.1 = s.1 + 58 ∧ s2.2.2 = s.2.2 ∧ (∀ a, a < s.1 → s2.2.1 a = s.2.1 a) ∧ eR s.1 s2 R0 = s2) (e40 _).symm ?_
  clear h39 e40
  obtain ⟨t41, h41, e41⟩ := in12_I h40 0 40 40 75 (by omega) (by omega)
  refine Eq.subst (motive := fun X => ∃ s2, X = some s2 ∧ s2.1 = s.1 + 58 ∧ s2.2.2 = s.2.2 ∧ (∀ a, a < s.1 → s2.2.1 a = s.2.1 a) ∧ eR s.1 s2 R0 = s2) (e41 _).symm ?_
  clear h40 e41
  obtain ⟨t42, h42, e42⟩ := in12_I h41 0 40 40 76 (by omega) (by omega)
  refine Eq.subst (motive := fun X => ∃ s2, X = some s2 ∧ s2.1 = s.1 + 58 ∧ s2.2.2 = s.2.2 ∧ (∀ a, a < s.1 → s2.2.1 a = s.2.1 a) ∧ eR s.1 s2 R0 = s2) (e42 _).symm ?_
  clear h41 e42
  obtain ⟨t43, h43, e43⟩ := in12_I h42 0 40 40 77 (by omega) (by omega)
  refine Eq.subst (motive := fun X => ∃ s2, X = some s2 ∧ s2.1 = s.1 + 58 ∧ s2.2.2 = s.2.2 ∧ (∀ a, a < s.1 → s2.2.1 a = s.2.1 a) ∧ eR s.1 s2 R0 = s2) (e43 _).symm ?_
  clear h42 e43
  obtain ⟨t44, h44, e44⟩ := in12_L h43 40 40 78 (by omega) (by omega)
  refine Eq.subst (motive := fun X => ∃ s2, X = some s2 ∧ s2.1 = s.1 + 58 ∧ s2.2.2 = s.2.2 ∧ (∀ a, a < s.1 → s2.2.1 a = s.2.1 a) ∧ eR s.1 s2 R0 = s2) (e44 _).symm ?_
  clear h43 e44
  obtain ⟨t45, h45, e45⟩ := in12_L h44 40 40 79 (by omega) (by omega)
  refine Eq.subst (motive := fun X => ∃ s2, X = some s2 ∧ s2.1 = s.1 + 58 ∧ s2.2.2 = s.2.2 ∧ (∀ a, a < s.1 → s2.2.1 a = s.2.1 a) ∧ eR s.1 s2 R0 = s2) (e45 _).symm ?_
  clear h44 e45
  obtain ⟨t46, h46, e46⟩ := in12_I h45 0 12 12 80 (by omega) (by omega)
  refine Eq.subst (motive := fun X => ∃ s2, X = some s2 ∧ s2.1 = s.1 + 58 ∧ s2.2.2 = s.2.2 ∧ (∀ a, a < s.1 → s2.2.1 a = s.2.1 a) ∧ eR s.1 s2 R0 = s2) (e46 _).symm ?_
  clear h45 e46
  obtain ⟨t47, h47, e47⟩ := in12_I h46 0 12 12 81 (by omega) (by omega)
  refine Eq.subst (motive := fun X => ∃ s2, X = some s2 ∧ s2.1 = s.1 + 58 ∧ s2.2.2 = s.2.2 ∧ (∀ a, a < s.1 → s2.2.1 a = s.2.1 a) ∧ eR s.1 s2 R0 = s2) (e47 _).symm ?_
  clear h46 e47
  obtain ⟨t48, h48, e48⟩ := in12_I h47 0 20 20 82 (by omega) (by omega)
  refine Eq.subst (motive := fun X => ∃ s2, X = some s2 ∧ s2.1 = s.1 + 58 ∧ s2.2.2 = s.2.2 ∧ (∀ a, a < s.1 → s2.2.1 a = s.2.1 a) ∧ eR s.1 s2 R0 = s2) (e48 _).symm ?_
  clear h47 e48
  obtain ⟨t49, h49, e49⟩ := in12_I h48 0 20 20 83 (by omega) (by omega)
  refine Eq.subst (motive := fun X => ∃ s2, X = some s2 ∧ s2.1 = s.1 + 58 ∧ s2.2.2 = s.2.2 ∧ (∀ a, a < s.1 → s2.2.1 a = s.2.1 a) ∧ eR s.1 s2 R0 = s2) (e49 _).symm ?_
  clear h48 e49
  obtain ⟨t50, h50, e50⟩ := in12_I h49 0 4 4 84 (by omega) (by omega)
  refine Eq.subst (motive := fun X => ∃ s2, X = some s2 ∧ s2.1 = s.1 + 58 ∧ s2.2.2 = s.2.2 ∧ (∀ a, a < s.1 → s2.2.1 a = s.2.1 a) ∧ eR s.1 s2 R0 = s2) (e50 _).symm ?_
  clear h49 e50
  obtain ⟨t51, h51, e51⟩ := in12_I h50 0 4 4 85 (by omega) (by omega)
  refine Eq.subst (motive := fun X => ∃ s2, X = some s2 ∧ s2.1 = s.1 + 58 ∧ s2.2.2 = s.2.2 ∧ (∀ a, a < s.1 → s2.2.1 a = s.2.1 a) ∧ eR s.1 s2 R0 = s2) (e51 _).symm ?_
  clear h50 e51
  obtain ⟨t52, h52, e52⟩ := in12_I h51 0 4 4 86 (by omega) (by omega)
  refine Eq.subst (motive := fun X => ∃ s2, X = some s2 ∧ s2.1 = s.1 + 58 ∧ s2.2.2 = s.2.2 ∧ (∀ a, a < s.1 → s2.2.1 a = s.2.1 a) ∧ eR s.1 s2 R0 = s2) (e52 _).symm ?_
  clear h51 e52
  obtain ⟨t53, h53, e53⟩ := in12_P h52 91 (.int (-1))
  refine Eq.subst (motive := fun X => ∃ s2, X = some s2 ∧ s2.1 = s.1 + 58 ∧ s2.2.2 = s.2.2 ∧ (∀ a, a < s.1 → s2.2.1 a = s.2.1 a) ∧ eR s.1 s2 R0 = s2) (e53 _).symm ?_
  clear h52 e53
  obtain ⟨t54, h54, e54⟩ := in12_I h53 0 60 60 94 (by omega) (by omega)
  refine Eq.subst (motive := fun X => ∃ s2, X = some s2 ∧ s2.1 = s.1 + 58 ∧ s2.2.2 = s.2.2 ∧ (∀ a, a < s.1 → s2.2.1 a = s.2.1 a) ∧ eR s.1 s2 R0 = s2) (e54 _).symm ?_
  clear h53 e54
  obtain ⟨t55, h55, e55⟩ := in12_I h54 0 60 60 95 (by omega) (by omega)
  refine Eq.subst (motive := fun X => ∃ s2, X = some s2 ∧ s2.1 = s.1 + 58 ∧ s2.2.2 = s.2.2 ∧ (∀ a, a < s.1 → s2.2.1 a = s.2.1 a) ∧ eR s.1 s2 R0 = s2) (e55 _).symm ?_
  clear h54 e55
  obtain ⟨t56, h56, e56⟩ := in12_I h55 0 60 60 97 (by omega) (by omega)
  refine Eq.subst (motive := fun X => ∃ s2, X = some s2 ∧ s2.1 = s.1 + 58 ∧ s2.2.2 = s.2.2 ∧ (∀ a, a < s.1 → s2.2.1 a = s.2.1 a) ∧ eR s.1 s2 R0 = s2) (e56 _).symm ?_
  clear h55 e56
  obtain ⟨t57, h57, e57⟩ := in12_I h56 0 60 60 98 (by omega) (by omega)
  refine Eq.subst (motive := fun X => ∃ s2, X = some s2 ∧ s2.1 = s.1 + 58 ∧ s2.2.2 = s.2.2 ∧ (∀ a, a < s.1 → s2.2.1 a = s.2.1 a) ∧ eR s.1 s2 R0 = s2) (e57 _).symm ?_
  clear h56 e57
  obtain ⟨t58, h58, e58⟩ := in12_L h57 2001 2001 99 (by omega) (by omega)
  refine Eq.subst (motive := fun X => ∃ s2, X = some s2 ∧ s2.1 = s.1 + 58 ∧ s2.2.2 = s.2.2 ∧ (∀ a, a < s.1 → s2.2.1 a = s.2.1 a) ∧ eR s.1 s2 R0 = s2) (e58 _).symm ?_
  clear h57 e58
  obtain ⟨t59, h59, e59⟩ := in12_L h58 2001 2001 100 (by omega) (by omega)
  refine Eq.subst (motive := fun X => ∃ s2, X = some s2 ∧ s2.1 = s.1 + 58 ∧ s2.2.2 = s.2.2 ∧ (∀ a, a < s.1 → s2.2.1 a = s.2.1 a) ∧ eR s.1 s2 R0 = s2) (e59 _).symm ?_
  clear h58 e59
  obtain ⟨t60, h60, e60⟩ := in12_I h59 0 60 60 102 (by omega) (by omega)
  refine Eq.subst (motive := fun X => ∃ s2, X = some s2 ∧ s2.1 = s.1 + 58 ∧ s2.2.2 = s.2.2 ∧ (∀ a, a < s.1 → s2.2.1 a = s.2.1 a) ∧ eR s.1 s2 R0 = s2) (e60 _).symm ?_
  clear h59 e60
  obtain ⟨t61, h61, e61⟩ := in12_I h60 0 60 60 103 (by omega) (by omega)
  refine Eq.subst (motive := fun X => ∃ s2, X = some s2 ∧ s2.1 = s.1 + 58 ∧ s2.2.2 = s.2.2 ∧ (∀ a, a < s.1 → s2.2.1 a = s.2.1 a) ∧ eR s.1 s2 R0 = s2) (e61 _).symm ?_
  clear h60 e61
  obtain ⟨t62, h62, e62⟩ := in12_I h61 0 12 12 104 (by omega) (by omega)
  refine Eq.subst (motive := fun X => ∃ s2, X = some s2 ∧ s2.1 = s.1 + 58 ∧ s2.2.2 = s.2.2 ∧ (∀ a, a < s.1 → s2.2.1 a = s.2.1 a) ∧ eR s.1 s2 R0 = s2) (e62 _).symm ?_
  clear h61 e62
  obtain ⟨g1, g2, g3, g4, g5⟩ := h62
  have hE : eR s.1 t62 R00 = t62 := by
    refine Prod.ext rfl (Prod.ext (funext fun a => ?_) rfl)
    show (if a = s.1 then oR s.1 R00 else if s.1 < a ∧ a ≤ s.1 + 57 then aR (a - s.1 - 1) R00 else t62.2.1 a) = t62.2.1 a
    by_cases ha : a = s.1
    · rw [if_pos ha, ha, g3]
      refine congrArg (fun F => Sum.inr (14, F)) (funext fun k => ?_)
      match k with
      | 0 => rfl
      | 1 => rfl
      | 2 => rfl
      | 3 => rfl
      | 4 => rfl
      | 5 => rfl
      | 6 => rfl
      | 7 => rfl
      | 8 => rfl
      | 9 => rfl
      | 10 => rfl
      | 11 => rfl
      | 12 => rfl
      | 13 => rfl
      | 14 => rfl
      | 15 => rfl
      | 16 => rfl
      | 17 => rfl
      | 18 => rfl
      | 19 => rfl
      | 20 => rfl
      | 21 => rfl
      | 22 => rfl
      | 23 => rfl
      | 24 => rfl
      | 25 => rfl
      | 26 => rfl
      | 27 => rfl
      | 28 => rfl
      | 29 => rfl
      | 30 => rfl
      | 31 => rfl
      | 32 => rfl
      | 33 => rfl
      | 34 => rfl
      | 35 => rfl
      | 36 => rfl
      | 37 => rfl
      | 38 => rfl
      | 39 => rfl
      | 40 => rfl
      | 41 => rfl
      | 42 => rfl
      | 43 => rfl
      | 44 => rfl
      | 45 => rfl
      | 46 => rfl
      | 47 => rfl
      | 48 => rfl
      | 49 => rfl
      | 50 => rfl
      | 51 => rfl
      | 52 => rfl
      | 53 => rfl
      | 54 => rfl
      | 55 => rfl
      | 56 => rfl
      | 57 => rfl
      | 58 => rfl
      | 59 => rfl
      | 60 => rfl
      | 61 => rfl
      | 62 => rfl
      | 63 => rfl
      | 64 => rfl
      | 65 => rfl
      | 66 => rfl
      | 67 => rfl
      | 68 => rfl
      | 69 => rfl
      | 70 => rfl
      | 71 => rfl
      | 72 => rfl
      | 73 => rfl
      | 74 => rfl
      | 75 => rfl
      | 76 => rfl
      | 77 => rfl
      | 78 => rfl
      | 79 => rfl
      | 80 => rfl
      | 81 => rfl
      | 82 => rfl
      | 83 => rfl
      | 84 => rfl
      | 85 => rfl
      | 86 => rfl
      | 87 => rfl
      | 88 => rfl
      | 89 => rfl
      | 90 => rfl
      | 91 => rfl
      | 92 => rfl
      | 93 => rfl
      | 94 => rfl
      | 95 => rfl
      | 96 => rfl
      | 97 => rfl
      | 98 => rfl
      | 99 => rfl
      | 100 => rfl
      | 101 => rfl
      | 102 => rfl
      | 103 => rfl
      | 104 => rfl
      | 105 => rfl
      | k + 106 => rfl
    · rw [if_neg ha]
      by_cases hb : s.1 < a ∧ a ≤ s.1 + 57
      · rw [if_pos hb]
        have hj : ∃ j, j < 57 ∧ a = s.1 + 1 + j := ⟨a - s.1 - 1, by omega, by omega⟩
        obtain ⟨j, j1, rfl⟩ := hj
        rw [g4 j j1, show s.1 + 1 + j - s.1 - 1 = j by omega]
        match j, j1 with
        | 0, _ => rfl
        | 1, _ => rfl
        | 2, _ => rfl
        | 3, _ => rfl
        | 4, _ => rfl
        | 5, _ => rfl
        | 6, _ => rfl
        | 7, _ => rfl
        | 8, _ => rfl
        | 9, _ => rfl
        | 10, _ => rfl
        | 11, _ => rfl
        | 12, _ => rfl
        | 13, _ => rfl
        | 14, _ => rfl
        | 15, _ => rfl
        | 16, _ => rfl
        | 17, _ => rfl
        | 18, _ => rfl
        | 19, _ => rfl
        | 20, _ => rfl
        | 21, _ => rfl
        | 22, _ => rfl
        | 23, _ => rfl
        | 24, _ => rfl
        | 25, _ => rfl
        | 26, _ => rfl
        | 27, _ => rfl
        | 28, _ => rfl
        | 29, _ => rfl
        | 30, _ => rfl
        | 31, _ => rfl
        | 32, _ => rfl
        | 33, _ => rfl
        | 34, _ => rfl
        | 35, _ => rfl
        | 36, _ => rfl
        | 37, _ => rfl
        | 38, _ => rfl
        | 39, _ => rfl
        | 40, _ => rfl
        | 41, _ => rfl
        | 42, _ => rfl
        | 43, _ => rfl
        | 44, _ => rfl
        | 45, _ => rfl
        | 46, _ => rfl
        | 47, _ => rfl
        | 48, _ => rfl
        | 49, _ => rfl
        | 50, _ => rfl
        | 51, _ => rfl
        | 52, _ => rfl
        | 53, _ => rfl
        | 54, _ => rfl
        | 55, _ => rfl
        | 56, _ => rfl
        | j + 57, h => omega
      · rw [if_neg hb]
  unfold fX12_init_488
  refine lp_q 4 (fun k z => ∃ R1, z = (eR s.1 t62 R1, s.1, Int32.ofNat k) ∧ R1 = sai R00 3 (fun t => if t < k then -1 else 0)) (fun X => ∃ s2, X = some s2 ∧ s2.1 = s.1 + 58 ∧ s2.2.2 = s.2.2 ∧ (∀ a, a < s.1 → s2.2.1 a = s.2.1 a) ∧ eR s.1 s2 R0 = s2) ?_ ?_ fu 0 _ (by omega) ⟨R00, by rw [hE], ?_⟩ (by unfold fu; omega)
  · rintro K k _ hk ⟨R1, rfl, rfl⟩
    left
    simp only [fbX12_init_488, RN_3, Rst_3, Option.bind_some, show (4 : Int32) = Int32.ofNat 4 from rfl, le_n (show 4 < 2147483648 by omega) (show k < 2147483648 by omega), if_neg (show ¬ 4 ≤ k by omega), ix_n (show k < 2147483648 by omega), decide_eq_true hk, if_true, c32 (show k < 2147483648 by omega), suc32, sai_sai]
    refine ⟨_, ⟨_, rfl, ?_⟩, rfl⟩
    refine congrArg (fun f => sai R00 3 f) (funext fun t => ?_)
    show (if t = k then (-1 : Int32) else if t < k then -1 else 0) = if t < k + 1 then -1 else 0
    (repeat' split) <;> (first | rfl | omega)
  · rintro K _ ⟨R1, rfl, rfl⟩
    simp only [fbX12_init_488, show (4 : Int32) = Int32.ofNat 4 from rfl, Int32.le_refl, if_true]
    refine ⟨_, rfl, by show t62.1 = _; omega, g2, fun a ha => ?_, eR_eR _ _ _ _⟩
    show (if a = s.1 then oR s.1 _ else if s.1 < a ∧ a ≤ s.1 + 57 then aR (a - s.1 - 1) _ else t62.2.1 a) = _
    rw [if_neg (by omega), if_neg (by omega)]; exact g5 a ha
  · have e : ai R00 3 = fun t => if t < 0 then -1 else 0 := by funext t; rw [if_neg (by omega)]; rfl
    have : sai R00 3 (ai R00 3) = R00 := by
      have e1 : up R00.2.2.2.1 3 (ai R00 3) = R00.2.2.2.1 := by
        funext j; unfold up; split
        · rename_i e; rw [e]; rfl
        · rfl
      unfold sai; rw [e1]
    rw [← e, this]
