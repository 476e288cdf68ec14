def g0 (l : Nat → Nat) : Gs := (fun _ => 0, fun _ => 0, fun _ => none, fun _ _ => 0, fun _ _ => 0, fun _ _ => none, l)
theorem pV_raw {σ : Hs} {a ci : Nat} {F : Nat → Value} (h : σ.2.1 a = .inr (ci, F)) (k : Nat) (v : Value) : pV σ a ci k v = some (wR σ a (.inr (ci, va_up F k v))) := by
  unfold pV; rw [h]; exact if_pos rfl
theorem naI_ok {t M n : Nat} (σ : Hs) (h : n ≤ M) (hM : M ≤ 5000) : naI t M σ (Int32.ofNat n) = some (σ.1, nw σ (.inl (t, n, .inl (fun _ => 0)))) := by
  unfold naI; rw [c32 (by omega), if_pos ⟨by rw [lt32, n32 (by omega), i0]; omega, h⟩]
theorem naL_ok {M n : Nat} (σ : Hs) (h : n ≤ M) (hM : M ≤ 5000) : naL M σ (Int32.ofNat n) = some (σ.1, nw σ (.inl (1, n, .inr (.inl (fun _ => 0))))) := by
  unfold naL; rw [c32 (by omega), if_pos ⟨by rw [lt32, n32 (by omega), i0]; omega, h⟩]
theorem wR_1 (σ : Hs) (a : Nat) (c : Ce) : (wR σ a c).1 = σ.1 := rfl
theorem nw_1 (σ : Hs) (c : Ce) : (nw σ c).1 = σ.1 + 1 := rfl
theorem wR_22 (σ : Hs) (a : Nat) (c : Ce) : (wR σ a c).2.2 = σ.2.2 := rfl
theorem nw_22 (σ : Hs) (c : Ce) : (nw σ c).2.2 = σ.2.2 := rfl
theorem x9_new (s : Hs) (n : Nat) (hn : n ≤ 60) : ∃ s', fX9_init_0 (nwO 11 tyX9 s) s.1 (Int32.ofNat n) = some s' ∧ s'.1 = s.1 + 4 ∧ s'.2.2 = s.2.2 ∧ (∀ a, a < s.1 → s'.2.1 a = s.2.1 a) ∧ A9 s.1 (g0 (fun _ => n)) s' := by
  unfold fX9_init_0
  have h0 : (nwO 11 tyX9 s).2.1 s.1 = .inr (11, fun k => defaultValue (tyX9 k)) := nw_s _ _
  rw [naI_ok _ (by omega) (by omega), Option.bind_some]
  have h1 : (nw (nwO 11 tyX9 s) (.inl (0, n, .inl (fun _ => 0)))).2.1 s.1 = .inr (11, fun k => defaultValue (tyX9 k)) := (nw_n _ _ (show s.1 ≠ s.1 + 1 by omega)).trans h0
  rw [pV_raw h1, Option.bind_some, naI_ok _ (by omega) (by omega), Option.bind_some]
  rw [pV_raw ((nw_n _ _ (show s.1 ≠ s.1 + 1 + 1 by omega)).trans (wR_s _ _ _)), Option.bind_some, naL_ok _ (by omega) (by omega), Option.bind_some]
  rw [pV_raw ((nw_n _ _ (show s.1 ≠ s.1 + 1 + 1 + 1 by omega)).trans (wR_s _ _ _)), Option.bind_some]
  refine ⟨_, rfl, rfl, rfl, fun a ha => ?_, A9_mk ?_ ?_ ?_ ?_⟩
  · rw [wR_n _ _ (by omega), nw_n _ _ (show a ≠ s.1 + 1 + 1 + 1 by omega), wR_n _ _ (by omega), nw_n _ _ (show a ≠ s.1 + 1 + 1 by omega), wR_n _ _ (by omega), nw_n _ _ (show a ≠ s.1 + 1 by omega)]
    exact nw_n _ _ (by omega)
  · rw [wR_s]
    refine congrArg (fun F => Sum.inr (11, F)) (funext fun k => ?_)
    match k with
    | 0 => rfl
    | 1 => rfl
    | 2 => rfl
    | 3 => rfl
    | 4 => rfl
    | 5 => rfl
    | 6 => rfl
    | k + 7 => rfl
  · rw [wR_n _ _ (by omega), nw_n _ _ (show s.1 + 1 ≠ s.1 + 1 + 1 + 1 by omega), wR_n _ _ (by omega), nw_n _ _ (show s.1 + 1 ≠ s.1 + 1 + 1 by omega), wR_n _ _ (by omega)]
    exact nw_s (nwO 11 tyX9 s) _
  · rw [wR_n _ _ (by omega), nw_n _ _ (show s.1 + 2 ≠ s.1 + 1 + 1 + 1 by omega), wR_n _ _ (by omega)]
    exact nw_s (wR (nw (nwO 11 tyX9 s) (.inl (0, n, .inl (fun _ => 0)))) s.1 _) _
  · rw [wR_n _ _ (by omega)]
    exact nw_s (wR _ s.1 _) _
theorem x1_new (s : Hs) (w : Int32) : ∃ s', fX1_init_0 (nwO 3 tyX1 s) s.1 w = some s' ∧ s'.1 = s.1 + 7 ∧ s'.2.2 = s.2.2 ∧ (∀ a, a < s.1 → s'.2.1 a = s.2.1 a) ∧ A1 s.1 (sfi (g0 (fun _ => 60)) 0 w) s' ∧ A9 (s.1 + 1) (g0 (fun _ => 60)) s' := by
  unfold fX1_init_0
  have h0 : (nwO 3 tyX1 s).2.1 s.1 = .inr (3, fun k => defaultValue (tyX1 k)) := nw_s _ _
  rw [pV_raw h0, Option.bind_some, Option.bind_some]
  generalize hs1 : wR (nwO 3 tyX1 s) s.1 (.inr (3, va_up (fun k => defaultValue (tyX1 k)) 0 (.int w))) = s1
  have e1 : s1.1 = s.1 + 1 := by rw [← hs1]; rfl
  have c1 : s1.2.1 s.1 = .inr (3, va_up (fun k => defaultValue (tyX1 k)) 0 (.int w)) := by rw [← hs1]; exact wR_s _ _ _
  have d1 : s1.2.2 = s.2.2 := by rw [← hs1]; rfl
  have o1 : ∀ a, a < s.1 → s1.2.1 a = s.2.1 a := fun a ha => by rw [← hs1, wR_n _ _ (by omega)]; exact nw_n _ _ (by omega)
  obtain ⟨s2, t1, t2, t3, t4, t5⟩ := x9_new s1 60 (by omega)
  rw [show (60 : Int32) = Int32.ofNat 60 from rfl, t1, Option.bind_some]
  rw [pV_raw ((t4 s.1 (by omega)).trans c1), Option.bind_some, naI_ok _ (by omega) (by omega), Option.bind_some]
  rw [pV_raw ((nw_n _ _ (by show s.1 ≠ s2.1; omega)).trans (wR_s _ _ _)), Option.bind_some, naI_ok _ (by omega) (by omega), Option.bind_some]
  rw [pV_raw ((nw_n _ _ (by show s.1 ≠ s2.1 + 1; omega)).trans (wR_s _ _ _)), Option.bind_some]
  have hfin : ∀ a, a ≠ s.1 → a < s2.1 → ∀ c d e f g, (wR (nw (wR (nw (wR s2 s.1 c) d) s.1 e) f) s.1 g).2.1 a = s2.2.1 a := by
    intro a h1 h2 c d e f g
    rw [wR_n _ _ h1, nw_n _ _ (by show a ≠ s2.1 + 1; omega), wR_n _ _ h1, nw_n _ _ (by show a ≠ s2.1; omega), wR_n _ _ h1]
  refine ⟨_, rfl, ?_, t3.trans d1, fun a ha => ?_, A1_mk ?_ ?_ ?_, A9_fr (by rw [e1] at t5; exact t5) (fun a ha => hfin a (by omega) (by omega) _ _ _ _ _)⟩
  · show s2.1 + 1 + 1 = s.1 + 7; omega
  · rw [hfin a (by omega) (by omega), t4 a (by omega)]; exact o1 a ha
  · rw [wR_s]
    refine congrArg (fun F => Sum.inr (3, F)) (funext fun k => ?_)
    have e2 : s2.1 = s.1 + 5 := by omega
    match k with
    | 0 => rfl
    | 1 => show Value.ref s1.1 = Value.ref (s.1 + 1); rw [e1]
    | 2 => show Value.ref s2.1 = Value.ref (s.1 + 5); rw [e2]
    | 3 => show Value.ref (s2.1 + 1) = Value.ref (s.1 + 6); rw [e2]
    | 4 => rfl
    | k + 5 => rfl
  · rw [wR_n _ _ (by omega), nw_n _ _ (by show s.1 + 5 ≠ s2.1 + 1; omega), wR_n _ _ (by omega), show s.1 + 5 = s2.1 by omega]
    exact nw_s (wR s2 s.1 _) _
  · rw [wR_n _ _ (by omega), show s.1 + 6 = s2.1 + 1 by omega]
    exact nw_s (wR (nw (wR s2 s.1 _) _) s.1 _) _
theorem x3_new (s : Hs) (a b c d e : Int32) : ∃ s', fX3_init_0 (nwO 5 tyX3 s) s.1 a b c d e = some s' ∧ s'.1 = s.1 + 1 ∧ s'.2.2 = s.2.2 ∧ (∀ a, a < s.1 → s'.2.1 a = s.2.1 a) ∧ A3 s.1 (sfi (sfi (sfi (sfi (sfi (g0 (fun _ => 0)) 0 a) 1 b) 2 c) 3 d) 4 e) s' := by
  unfold fX3_init_0 nwO
  rw [pV_raw (nw_s _ _), Option.bind_some, pV_raw (wR_s _ _ _), Option.bind_some, pV_raw (wR_s _ _ _), Option.bind_some, pV_raw (wR_s _ _ _), Option.bind_some, pV_raw (wR_s _ _ _), Option.bind_some]
  refine ⟨_, rfl, rfl, rfl, fun q hq => ?_, A3_mk ?_⟩
  · rw [wR_n _ _ (by omega), wR_n _ _ (by omega), wR_n _ _ (by omega), wR_n _ _ (by omega), wR_n _ _ (by omega)]; exact nw_n _ _ (by omega)
  · rw [wR_s]
    refine congrArg (fun F => Sum.inr (5, F)) (funext fun k => ?_)
    match k with
    | 0 => rfl
    | 1 => rfl
    | 2 => rfl
    | 3 => rfl
    | 4 => rfl
    | 5 => rfl
    | 6 => rfl
    | k + 7 => rfl
theorem x8_new (s : Hs) (a b : Int32) : ∃ s', fX8_init_0 (nwO 10 tyX8 s) s.1 a b = some s' ∧ s'.1 = s.1 + 1 ∧ s'.2.2 = s.2.2 ∧ (∀ a, a < s.1 → s'.2.1 a = s.2.1 a) ∧ A8 s.1 (sfi (sfi (g0 (fun _ => 0)) 0 a) 1 b) s' := by
  unfold fX8_init_0 nwO
  rw [pV_raw (nw_s _ _), Option.bind_some, pV_raw (wR_s _ _ _), Option.bind_some]
  refine ⟨_, rfl, rfl, rfl, fun q hq => ?_, A8_mk ?_⟩
  · rw [wR_n _ _ (by omega), wR_n _ _ (by omega)]; exact nw_n _ _ (by omega)
  · rw [wR_s]
    refine congrArg (fun F => Sum.inr (10, F)) (funext fun k => ?_)
    match k with
    | 0 => rfl
    | 1 => rfl
    | 2 => rfl
    | k + 3 => rfl
theorem x2_new (s : Hs) (a b c : Int32) : ∃ s', fX2_init_0 (nwO 4 tyX2 s) s.1 a b c = some s' ∧ s'.1 = s.1 + 1 ∧ s'.2.2 = s.2.2 ∧ (∀ a, a < s.1 → s'.2.1 a = s.2.1 a) ∧ A2 s.1 (sfi (sfi (sfi (g0 (fun _ => 0)) 0 a) 1 b) 2 c) s' := by
  unfold fX2_init_0 nwO
  rw [pV_raw (nw_s _ _), Option.bind_some, pV_raw (wR_s _ _ _), Option.bind_some, pV_raw (wR_s _ _ _), Option.bind_some]
  refine ⟨_, rfl, rfl, rfl, fun q hq => ?_, A2_mk ?_⟩
  · rw [wR_n _ _ (by omega), wR_n _ _ (by omega), wR_n _ _ (by omega)]; exact nw_n _ _ (by omega)
  · rw [wR_s]
    refine congrArg (fun F => Sum.inr (4, F)) (funext fun k => ?_)
    match k with
    | 0 => rfl
    | 1 => rfl
    | 2 => rfl
    | k + 3 => rfl
theorem x10_new (s : Hs) (a : Int32) (n : Nat) (hn : n ≤ 40) : ∃ s', fX10_init_0 (nwO 12 tyX10 s) s.1 a (Int32.ofNat n) = some s' ∧ s'.1 = s.1 + 2 ∧ s'.2.2 = s.2.2 ∧ (∀ a, a < s.1 → s'.2.1 a = s.2.1 a) ∧ A10 s.1 (sfi (g0 (fun _ => n)) 0 a) s' := by
  have hmx : ∀ s, fJ9_max_7cf53_0 s 0 (Int32.ofNat n) = some (Int32.ofNat n) := by
    intro s; unfold fJ9_max_7cf53_0
    by_cases h : (0 : Int32) < Int32.ofNat n
    · rw [if_pos h]
    · rw [if_neg h]
      rw [lt32, n32 (by omega), i0] at h
      have : n = 0 := by omega
      rw [this]; rfl
  unfold fX10_init_0 nwO
  rw [pV_raw (nw_s _ _), Option.bind_some, hmx, Option.bind_some, naL_ok _ (by omega) (by omega), Option.bind_some, pV_raw ((nw_n _ _ (show s.1 ≠ s.1 + 1 by omega)).trans (wR_s _ _ _)), Option.bind_some]
  refine ⟨_, rfl, rfl, rfl, fun q hq => ?_, A10_mk ?_ ?_⟩
  · rw [wR_n _ _ (by omega), nw_n _ _ (show q ≠ s.1 + 1 by omega), wR_n _ _ (by omega)]; exact nw_n _ _ (by omega)
  · rw [wR_s]
    refine congrArg (fun F => Sum.inr (12, F)) (funext fun k => ?_)
    match k with
    | 0 => rfl
    | 1 => rfl
    | k + 2 => rfl
  · rw [wR_n _ _ (by omega)]
    exact nw_s (wR (nw s _) s.1 _) _
