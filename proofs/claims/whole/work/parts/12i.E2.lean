def Gr (x : Nat) (s s2 : Hs) (n : Nat) (F : Nat → Value) : Prop := s2.1 = s.1 + n ∧ s2.2.2 = s.2.2 ∧ s2.2.1 x = .inr (13, F) ∧ ∀ a, a ≠ x → a < s.1 → s2.2.1 a = s.2.1 a
theorem Gr.put {x : Nat} {s : Hs} {F : Nat → Value} (h : s.2.1 x = .inr (13, F)) (k : Nat) (v : Value) : ∃ s2, pV s x 13 k v = some s2 ∧ Gr x s s2 0 (va_up F k v) :=
  ⟨_, pV_raw h k v, rfl, rfl, wR_s _ _ _, fun a ha _ => wR_n _ _ ha⟩
theorem xJ_new (s : Hs) : ∃ s', fJx4a65c_init_da8c8_0 (nwO 1 tyJx4a65c s) s.1 = some s' ∧ s'.1 = s.1 + 1 ∧ s'.2.2 = s.2.2 ∧ (∀ a, a < s.1 → s'.2.1 a = s.2.1 a) ∧ AJ s.1 (sfr (g0 (fun _ => 0)) 1 (some (s.2.2 0))) s' := by
  unfold fJx4a65c_init_da8c8_0 fJxc12de_init_da8c8_0 fJxa1e45_init_da8c8_0 nwO
  simp only [Option.bind_some]
  rw [pV_raw (nw_s _ _), Option.bind_some, Option.bind_some, pV_raw (wR_s _ _ _), Option.bind_some]
  refine ⟨_, rfl, rfl, rfl, fun q hq => ?_, AJ_mk ?_⟩
  · rw [wR_n _ _ (by omega), wR_n _ _ (by omega)]; exact nw_n _ _ (by omega)
  · rw [wR_s]
    refine congrArg (fun F => Sum.inr (1, F)) (funext fun k => ?_)
    match k with
    | 0 => rfl
    | 1 => rfl
    | 2 => rfl
    | k + 3 => rfl
theorem x7_new (s : Hs) : ∃ s', fX7_init_0 (nwO 9 tyX7 s) s.1 = some s' ∧ s'.1 = s.1 + 3 ∧ s'.2.2 = s.2.2 ∧ (∀ a, a < s.1 → s'.2.1 a = s.2.1 a) ∧ A7 s.1 (g0 (fun k => if k = 8 then 40 else 3)) s' := by
  unfold fX7_init_0 nwO
  rw [show (40 : Int32) = Int32.ofNat 40 from rfl, show (3 : Int32) = Int32.ofNat 3 from rfl]
  rw [naL_ok _ (by omega) (by omega), Option.bind_some, pV_raw ((nw_n _ _ (show s.1 ≠ s.1 + 1 by omega)).trans (nw_s _ _)), Option.bind_some, naI_ok _ (by omega) (by omega), Option.bind_some, pV_raw ((nw_n _ _ (show s.1 ≠ s.1 + 1 + 1 by omega)).trans (wR_s _ _ _)), Option.bind_some]
  refine ⟨_, rfl, rfl, rfl, fun q hq => ?_, A7_mk ?_ ?_ ?_⟩
  · rw [wR_n _ _ (by omega), nw_n _ _ (show q ≠ s.1 + 1 + 1 by omega), wR_n _ _ (by omega), nw_n _ _ (show q ≠ s.1 + 1 by omega)]; exact nw_n _ _ (by omega)
  · rw [wR_s]
    refine congrArg (fun F => Sum.inr (9, F)) (funext fun k => ?_)
    match k with
    | 0 => rfl
    | 1 => rfl
    | 2 => rfl
    | 3 => rfl
    | 4 => rfl
    | 5 => rfl
    | 6 => rfl
    | 7 => rfl
    | 8 => rfl
    | 9 => rfl
    | k + 10 => rfl
  · rw [wR_n _ _ (by omega), nw_n _ _ (show s.1 + 1 ≠ s.1 + 1 + 1 by omega), wR_n _ _ (by omega)]
    exact nw_s (nw s _) _
  · rw [wR_n _ _ (by omega)]
    exact nw_s (wR (nw (nw s _) _) s.1 _) _
theorem naR_ok {t M n : Nat} (σ : Hs) (h : n ≤ M) (hM : M ≤ 5000) : naR t M σ (Int32.ofNat n) = some (σ.1, nw σ (.inl (t, n, .inr (.inr (.inr (.inr (fun _ => none))))))) := by
  unfold naR; rw [c32 (by omega), if_pos ⟨by rw [lt32, n32 (by omega), i0]; omega, h⟩]
def GX : Gs := sfi (sfi (sfi (g0 (fun k => if k = 2 then 500 else 4)) 4 (-1)) 5 (-1)) 16 (-1)
def Kx (x : Nat) (s s2 : Hs) : Prop := s.1 ≤ s2.1 ∧ s2.2.2 = s.2.2 ∧ ∀ a, a ≠ x → a ≠ x + 15 → a < s.1 → s2.2.1 a = s.2.1 a
theorem Kx.refl (x : Nat) (s : Hs) : Kx x s s := ⟨Nat.le_refl _, rfl, fun _ _ _ _ => rfl⟩
theorem Kx.trans {x : Nat} {a b c : Hs} (h : Kx x a b) (g : Kx x b c) : Kx x a c := ⟨Nat.le_trans h.1 g.1, g.2.1.trans h.2.1, fun q h1 h2 h3 => (g.2.2 q h1 h2 (Nat.lt_of_lt_of_le h3 h.1)).trans (h.2.2 q h1 h2 h3)⟩
def St1 (x : Nat) (s s2 : Hs) (n : Nat) (F : Nat → Value) : Prop := s2.1 = x + n ∧ s2.2.1 x = .inr (13, F) ∧ Kx x s s2
theorem st_P {x : Nat} {s : Hs} {n : Nat} {F : Nat → Value} (h1 : s.1 = x + n) (h : s.2.1 x = .inr (13, F)) (k : Nat) (v : Value) : ∃ s2, St1 x s s2 n (va_up F k v) ∧ (s.2.1 (x + 15) = s2.2.1 (x + 15)) ∧ ∀ {β : Type} (K : Hs → Option β), (pV s x 13 k v).bind K = K s2 :=
  ⟨wR s x (.inr (13, va_up F k v)), ⟨h1, wR_s _ _ _, Nat.le_refl _, rfl, fun a ha _ _ => wR_n _ _ ha⟩, (wR_n _ _ (by omega)).symm, fun K => by rw [pV_raw h, Option.bind_some]⟩
theorem st_N {x : Nat} {s : Hs} {n : Nat} {F : Nat → Value} (h1 : s.1 = x + n) (hn : 0 < n) (h : s.2.1 x = .inr (13, F)) (c : Ce) : St1 x s (nw s c) (n + 1) F ∧ (nw s c).2.1 (x + n) = c :=
  ⟨⟨by show s.1 + 1 = _; omega, (nw_n _ _ (by omega)).trans h, Nat.le_succ _, rfl, fun a _ _ ha => nw_n _ _ (by omega)⟩, by rw [← h1]; exact nw_s _ _⟩
theorem st_O {x : Nat} {s s2 : Hs} {n j : Nat} {F : Nat → Value} (h1 : s.1 = x + n) (hn : 0 < n) (h : s.2.1 x = .inr (13, F)) (a1 : s2.1 = s.1 + j) (a2 : s2.2.2 = s.2.2) (a3 : ∀ a, a < s.1 → s2.2.1 a = s.2.1 a) : St1 x s s2 (n + j) F :=
  ⟨by omega, (a3 x (by omega)).trans h, by omega, a2, fun a _ _ ha => a3 a ha⟩
theorem x15 {x n : Nat} {s : Hs} (h : s.1 = x + n) (hn : 15 < n) : x + 15 < s.1 := by omega
theorem tr9 {x : Nat} {s s2 : Hs} {G : Gs} (c : s.1 = x + 7) (q : A9 (x + 3) G s) (k : Kx x s s2) : A9 (x + 3) G s2 := A9_fr q (fun a ha => k.2.2 a (by omega) (by omega) (by omega))
theorem trJ {x l : Nat} {s s2 : Hs} {G : Gs} (hl : l < 5) (c : s.1 = x + (8 + l)) (q : AJ (x + 7 + l) G s) (k : Kx x s s2) : AJ (x + 7 + l) G s2 := AJ_fr q (fun a ha => k.2.2 a (by omega) (by omega) (by omega))
theorem tr7 {x : Nat} {s s2 : Hs} {G : Gs} (c : s.1 = x + 15) (q : A7 (x + 12) G s) (k : Kx x s s2) : A7 (x + 12) G s2 := A7_fr q (fun a ha => k.2.2 a (by omega) (by omega) (by omega))
theorem tr2 {x l : Nat} {s s2 : Hs} {G : Gs} (hl : l < 4) (c : s.1 = x + (17 + l)) (q : A2 (x + 16 + l) G s) (k : Kx x s s2) : A2 (x + 16 + l) G s2 := A2_fr q (fun a ha => k.2.2 a (by omega) (by omega) (by omega))
theorem trc {x n j : Nat} {s s2 : Hs} {C : Ce} (hj : j ≠ 0 ∧ j ≠ 15 ∧ j < n) (c : s.1 = x + n) (q : s.2.1 (x + j) = C) (k : Kx x s s2) : s2.2.1 (x + j) = C := (k.2.2 (x + j) (by omega) (by omega) (by omega)).trans q
theorem trb {x : Nat} {s s0 s2 : Hs} (c : s.1 = x + 1) (b : ∀ a, a < x → s.2.1 a = s0.2.1 a) (k : Kx x s s2) : ∀ a, a < x → s2.2.1 a = s0.2.1 a := fun a ha => (k.2.2 a (by omega) (by omega) (by omega)).trans (b a ha)
theorem Kx.w15 (x : Nat) (s : Hs) (c : Ce) : Kx x s (wR s (x + 15) c) := ⟨Nat.le_refl _, rfl, fun a _ h15 _ => wR_n _ _ h15⟩
theorem wx15 (x : Nat) (s : Hs) (c : Ce) {F : Ce} (h : s.2.1 x = F) : (wR s (x + 15) c).2.1 x = F := (wR_n _ _ (by omega)).trans h
theorem gN_raw {σ : Hs} {a ci k q : Nat} {F : Nat → Value} (h : σ.2.1 a = .inr (ci, F)) (hk : F k = .ref q) : gN σ a ci k = some q := by
  unfold gN gV; rw [h]; simp only [if_true, Option.bind_some, hk]; rfl
theorem stR_raw {σ : Hs} {a v n i : Nat} {iv : Int32} {f : Nat → Option Nat} (he : iv = Int32.ofNat i) (hv : isC σ v 4 = some ()) (h : σ.2.1 a = .inl (6, n, .inr (.inr (.inr (.inr f))))) (hi : i < n) (hn : n ≤ 100) : stR 6 4 σ a iv v = some (wR σ a (.inl (6, n, .inr (.inr (.inr (.inr (va_up f i (some v)))))))) := by
  subst he
  unfold stR; rw [hv, Option.bind_some, h]
  simp only [ix_n (show i < 2147483648 by omega), decide_eq_true hi, and_self, if_true, c32 (show i < 2147483648 by omega)]; rfl
