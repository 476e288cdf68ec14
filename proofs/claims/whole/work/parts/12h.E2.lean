def Gr (x : Nat) (s s2 : Hs) (n : Nat) (F : Nat → Value) : Prop := s2.1 = s.1 + n ∧ s2.2.2 = s.2.2 ∧ s2.2.1 x = .inr (13, F) ∧ ∀ a, a ≠ x → a < s.1 → s2.2.1 a = s.2.1 a
theorem Gr.put {x : Nat} {s : Hs} {F : Nat → Value} (h : s.2.1 x = .inr (13, F)) (k : Nat) (v : Value) : ∃ s2, pV s x 13 k v = some s2 ∧ Gr x s s2 0 (va_up F k v) :=
  ⟨_, pV_raw h k v, rfl, rfl, wR_s _ _ _, fun a ha _ => wR_n _ _ ha⟩
theorem xJ_new (s : Hs) : ∃ s', fJx4a65c_init_da8c8_0 (nwO 1 tyJx4a65c s) s.1 = some s' ∧ s'.1 = s.1 + 1 ∧ s'.2.2 = s.2.2 ∧ (∀ a, a < s.1 → s'.2.1 a = s.2.1 a) ∧ AJ s.1 (sfr (g0 (fun _ => 0)) 1 (some (s.2.2 0))) s' := by
  unfold fJx4a65c_init_da8c8_0 fJxc12de_init_da8c8_0 fJxa1e45_init_da8c8_0 nwO
  simp only [Option.bind_some]
  rw [pV_raw (nw_s _ _), Option.bind_some, Option.bind_some, pV_raw (wR_s _ _ _), Option.bind_some]
  refine ⟨_, rfl, rfl, rfl, fun q hq => ?_, AJ_mk ?_⟩
  · rw [wR_n _ _ (by omega), wR_n _ _ (by omega)]; exact nw_n _ _ (by omega)
  · rw [wR_s]
    refine congrArg (fun F => Sum.inr (1, F)) (funext fun k => ?_)
    match k with
    | 0 => rfl
    | 1 => rfl
    | 2 => rfl
    | k + 3 => rfl
theorem x7_new (s : Hs) : ∃ s', fX7_init_0 (nwO 9 tyX7 s) s.1 = some s' ∧ s'.1 = s.1 + 3 ∧ s'.2.2 = s.2.2 ∧ (∀ a, a < s.1 → s'.2.1 a = s.2.1 a) ∧ A7 s.1 (g0 (fun k => if k = 8 then 40 else 3)) s' := by
  unfold fX7_init_0 nwO
  rw [show (40 : Int32) = Int32.ofNat 40 from rfl, show (3 : Int32) = Int32.ofNat 3 from rfl]
  rw [naL_ok _ (by omega) (by omega), Option.bind_some, pV_raw ((nw_n _ _ (show s.1 ≠ s.1 + 1 by omega)).trans (nw_s _ _)), Option.bind_some, naI_ok _ (by omega) (by omega), Option.bind_some, pV_raw ((nw_n _ _ (show s.1 ≠ s.1 + 1 + 1 by omega)).trans (wR_s _ _ _)), Option.bind_some]
  refine ⟨_, rfl, rfl, rfl, fun q hq => ?_, A7_mk ?_ ?_ ?_⟩
  · rw [wR_n _ _ (by omega), nw_n _ _ (show q ≠ s.1 + 1 + 1 by omega), wR_n _ _ (by omega), nw_n _ _ (show q ≠ s.1 + 1 by omega)]; exact nw_n _ _ (by omega)
  · rw [wR_s]
    refine congrArg (fun F => Sum.inr (9, F)) (funext fun k => ?_)
    match k with
    | 0 => rfl
    | 1 => rfl
    | 2 => rfl
    | 3 => rfl
    | 4 => rfl
    | 5 => rfl
    | 6 => rfl
    | 7 => rfl
    | 8 => rfl
    | 9 => rfl
    | k + 10 => rfl
  · rw [wR_n _ _ (by omega), nw_n _ _ (show s.1 + 1 ≠ s.1 + 1 + 1 by omega), wR_n _ _ (by omega)]
    exact nw_s (nw s _) _
  · rw [wR_n _ _ (by omega)]
    exact nw_s (wR (nw (nw s _) _) s.1 _) _
theorem naR_ok {t M n : Nat} (σ : Hs) (h : n ≤ M) (hM : M ≤ 5000) : naR t M σ (Int32.ofNat n) = some (σ.1, nw σ (.inl (t, n, .inr (.inr (.inr (.inr (fun _ => none))))))) := by
  unfold naR; rw [c32 (by omega), if_pos ⟨by rw [lt32, n32 (by omega), i0]; omega, h⟩]
def GX : Gs := sfi (sfi (sfi (g0 (fun k => if k = 2 then 500 else 4)) 4 (-1)) 5 (-1)) 16 (-1)
