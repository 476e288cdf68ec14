def wh (q : Nat → Bool) : Nat → Nat → Nat
  | 0, p => p
  | k + 1, p => if q p = true then wh q k (p + 1) else p
def nx (q : Nat → Bool) (n p : Nat) : Nat := wh q (n - p) p
theorem nx_step {q : Nat → Bool} {n p : Nat} (hp : p < n) (h : q p = true) : nx q n p = nx q n (p + 1) := by
  unfold nx; rw [show n - p = (n - (p + 1)) + 1 by omega, wh, if_pos h]
theorem nx_stop {q : Nat → Bool} {n p : Nat} (hp : p < n) (h : q p = false) : nx q n p = p := by
  unfold nx; rw [show n - p = (n - (p + 1)) + 1 by omega, wh, if_neg (by rw [h]; decide)]
theorem nx_end {q : Nat → Bool} {n p : Nat} (hp : n ≤ p) : nx q n p = p := by
  unfold nx; rw [show n - p = 0 by omega, wh]
theorem wh_in {q : Nat → Bool} : ∀ k p, p ≤ wh q k p ∧ wh q k p ≤ p + k ∧ (∀ j, p ≤ j → j < wh q k p → q j = true) ∧ (wh q k p < p + k → q (wh q k p) = false) := by
  intro k; induction k with
  | zero => intro p; exact ⟨Nat.le_refl _, Nat.le_refl _, fun j h1 h2 => absurd h2 (by show ¬ j < p; omega), fun h => absurd h (by show ¬ p < p + 0; omega)⟩
  | succ k ih =>
    intro p
    unfold wh
    by_cases c : q p = true
    · rw [if_pos c]
      obtain ⟨h1, h2, h3, h4⟩ := ih (p + 1)
      refine ⟨by omega, by omega, fun j j1 j2 => ?_, fun h => h4 (by omega)⟩
      by_cases e : j = p
      · rw [e]; exact c
      · exact h3 j (by omega) j2
    · rw [if_neg c]
      exact ⟨Nat.le_refl _, by omega, fun j j1 j2 => by omega, fun _ => by simpa using c⟩
theorem nx_in (q : Nat → Bool) {n p : Nat} (hp : p ≤ n) : p ≤ nx q n p ∧ nx q n p ≤ n ∧ (∀ j, p ≤ j → j < nx q n p → q j = true) ∧ (nx q n p < n → q (nx q n p) = false) := by
  obtain ⟨h1, h2, h3, h4⟩ := wh_in (q := q) (n - p) p
  exact ⟨h1, by unfold nx; omega, h3, fun h => h4 (by unfold nx at h; omega)⟩
theorem nx_same (q : Nat → Bool) {n p : Nat} : ∀ d, p + d ≤ nx q n p → p ≤ n → nx q n (p + d) = nx q n p := by
  intro d; induction d with
  | zero => intro _ _; rfl
  | succ d ih =>
    intro h hp
    have h0 := nx_in q hp
    have g := ih (by omega) hp
    rw [← g]
    exact (nx_step (p := p + d) (by omega) (h0.2.2.1 (p + d) (by omega) (by omega))).symm
abbrev isB (c : Int) : Prop := c = 10 ∨ c = 32
abbrev isLt (c : Int) : Prop := 97 ≤ c ∧ c ≤ 122
abbrev isDg (c : Int) : Prop := 48 ≤ c ∧ c ≤ 57
abbrev isSg (pr : Bool) (c : Int) : Prop := (58 ≤ c ∧ c ≤ 62) ∨ (40 ≤ c ∧ c ≤ 45) ∨ c = 47 ∨ c = 37 ∨ (pr = true ∧ (c = 123 ∨ c = 125))
def qB (tx : Nat → Int) : Nat → Bool := fun j => decide (isB (tx j))
def qL (tx : Nat → Int) : Nat → Bool := fun j => decide (isLt (tx j))
def qD (tx : Nat → Int) : Nat → Bool := fun j => decide (isDg (tx j))
def tE (tx : Nat → Int) (n p : Nat) : Nat := if n ≤ p then n else if isLt (tx p) then nx (qL tx) n p else if isDg (tx p) then nx (qD tx) n p else p + 1
def tK (pr : Bool) (tx : Nat → Int) (n p : Nat) : Nat := if n ≤ p then 0 else if isLt (tx p) then 1 else if isDg (tx p) then (if tE tx n p - p ≤ 6 then 2 else 4) else if isSg pr (tx p) then 3 else 4
def tS (tx : Nat → Int) (n : Nat) : Nat → Nat
  | 0 => nx (qB tx) n 0
  | k + 1 => nx (qB tx) n (tE tx n (tS tx n k))
def nuv (tx : Nat → Int) (p : Nat) : Nat → Int
  | 0 => 0
  | k + 1 => 10 * nuv tx p k + (tx (p + k) - 48)
def va (tx : Nat → Int) (p : Nat) : Nat → Int
  | 0 => 0
  | k + 1 => 32 * va tx p k + (tx (p + k) - 96)
theorem tE_b {tx : Nat → Int} {n p : Nat} (hp : p < n) : p < tE tx n p ∧ tE tx n p ≤ n := by
  unfold tE
  rw [if_neg (by omega)]
  by_cases c : isLt (tx p)
  · rw [if_pos c]
    have h := nx_in (qL tx) (n := n) (p := p) (by omega)
    refine ⟨?_, h.2.1⟩
    by_cases e : nx (qL tx) n p = p
    · have := h.2.2.2 (by omega)
      rw [e] at this; unfold qL at this; exact absurd c (of_decide_eq_false this)
    · omega
  · rw [if_neg c]
    by_cases d : isDg (tx p)
    · rw [if_pos d]
      have h := nx_in (qD tx) (n := n) (p := p) (by omega)
      refine ⟨?_, h.2.1⟩
      by_cases e : nx (qD tx) n p = p
      · have := h.2.2.2 (by omega)
        rw [e] at this; unfold qD at this; exact absurd d (of_decide_eq_false this)
      · omega
    · rw [if_neg d]; omega
theorem tE_e {tx : Nat → Int} {n p : Nat} (hp : n ≤ p) : tE tx n p = n := if_pos hp
theorem tS_le (tx : Nat → Int) (n : Nat) : ∀ k, tS tx n k ≤ n := by
  intro k
  cases k with
  | zero => exact (nx_in (qB tx) (Nat.zero_le n)).2.1
  | succ k =>
    refine (nx_in (qB tx) ?_).2.1
    by_cases c : tS tx n k < n
    · exact (tE_b c).2
    · rw [tE_e (by omega)]; exact Nat.le_refl _
theorem tS_up {tx : Nat → Int} {n k : Nat} (h : tS tx n k < n) : tE tx n (tS tx n k) ≤ tS tx n (k + 1) ∧ tS tx n k < tS tx n (k + 1) := by
  have h1 := tE_b (tx := tx) h
  have h2 := (nx_in (qB tx) h1.2).1
  exact ⟨h2, Nat.lt_of_lt_of_le h1.1 h2⟩
theorem tS_st {tx : Nat → Int} {n : Nat} (k : Nat) (h : tS tx n k < n) : ¬ isB (tx (tS tx n k)) := by
  cases k with
  | zero => exact of_decide_eq_false ((nx_in (qB tx) (Nat.zero_le n)).2.2.2 h)
  | succ k =>
    have hb : tE tx n (tS tx n k) ≤ n := by
      by_cases c : tS tx n k < n
      · exact (tE_b c).2
      · rw [tE_e (by omega)]; exact Nat.le_refl _
    exact of_decide_eq_false ((nx_in (qB tx) hb).2.2.2 h)
theorem tS_ge {tx : Nat → Int} {n : Nat} : ∀ k, (∀ j, j < k → tS tx n j < n) → k ≤ tS tx n k := by
  intro k; induction k with
  | zero => intro _; exact Nat.zero_le _
  | succ k ih =>
    intro h
    have h1 := ih (fun j hj => h j (by omega))
    have h2 := (tS_up (h k (by omega))).2
    omega
theorem tN_ex (tx : Nat → Int) (n : Nat) : ∃ K, K ≤ n ∧ tS tx n K = n ∧ ∀ k, k < K → tS tx n k < n := by
  have : ∀ d, (∃ K, K ≤ n ∧ tS tx n K = n ∧ ∀ k, k < K → tS tx n k < n) ∨ ∀ k, k < d → tS tx n k < n := by
    intro d; induction d with
    | zero => exact Or.inr (fun k hk => absurd hk (by omega))
    | succ d ih =>
      rcases ih with h | h
      · exact Or.inl h
      · by_cases c : tS tx n d < n
        · refine Or.inr (fun k hk => ?_)
          by_cases e : k = d
          · rw [e]; exact c
          · exact h k (by omega)
        · have h1 := tS_le tx n d
          have h2 := tS_ge d h
          exact Or.inl ⟨d, by omega, by omega, h⟩
  rcases this (n + 1) with h | h
  · exact h
  · have h1 := tS_ge n (fun j hj => h j (by omega))
    have h2 := h n (by omega)
    omega
theorem va_inj {tx ty : Nat → Int} {p r : Nat} : ∀ k m, (∀ j, j < k → isLt (tx (p + j))) → (∀ j, j < m → isLt (ty (r + j))) → va tx p k = va ty r m → k = m ∧ ∀ j, j < k → tx (p + j) = ty (r + j) := by
  have pos : ∀ {tx : Nat → Int} {p : Nat} k, (∀ j, j < k → isLt (tx (p + j))) → 0 ≤ va tx p k ∧ (0 < k → 0 < va tx p k) := by
    intro tx p k; induction k with
    | zero => intro _; exact ⟨Int.le_refl _, fun h => absurd h (by omega)⟩
    | succ k ih =>
      intro h
      have h1 := ih (fun j hj => h j (by omega))
      have h2 := h k (by omega)
      unfold va
      exact ⟨by omega, fun _ => by omega⟩
  intro k; induction k with
  | zero =>
    intro m _ hm e
    by_cases c : m = 0
    · exact ⟨c.symm, fun j hj => absurd hj (by omega)⟩
    · have := (pos m hm).2 (by omega)
      have e' : (0 : Int) = va ty r m := e
      omega
  | succ k ih =>
    intro m hk hm e
    cases m with
    | zero =>
      have := (pos (k + 1) hk).2 (by omega)
      have e' : va tx p (k + 1) = 0 := e
      omega
    | succ m =>
      have h1 := hk k (by omega)
      have h2 := hm m (by omega)
      unfold va at e
      have e1 : va tx p k = va ty r m := by omega
      have e2 : tx (p + k) = ty (r + m) := by omega
      obtain ⟨g1, g2⟩ := ih m (fun j hj => hk j (by omega)) (fun j hj => hm j (by omega)) e1
      subst g1
      refine ⟨rfl, fun j hj => ?_⟩
      by_cases c : j = k
      · rw [c]; exact e2
      · exact g2 j (by omega)
theorem va_cg {tx ty : Nat → Int} {p r : Nat} : ∀ k, (∀ j, j < k → tx (p + j) = ty (r + j)) → va tx p k = va ty r k := by
  intro k; induction k with
  | zero => intro _; rfl
  | succ k ih => intro h; unfold va; rw [ih (fun j hj => h j (by omega)), h k (by omega)]
theorem va_b {tx : Nat → Int} {p : Nat} : ∀ k, (∀ j, j < k → isLt (tx (p + j))) → 0 ≤ va tx p k ∧ va tx p k < 32 ^ k := by
  intro k; induction k with
  | zero => intro _; exact ⟨Int.le_refl _, show (0 : Int) < 1 by decide⟩
  | succ k ih =>
    intro h
    have h1 := ih (fun j hj => h j (by omega))
    have h2 := h k (by omega)
    rw [Int.pow_succ]
    unfold va
    omega
theorem nuv_b {tx : Nat → Int} {p : Nat} : ∀ k, (∀ j, j < k → isDg (tx (p + j))) → 0 ≤ nuv tx p k ∧ nuv tx p k < 10 ^ k := by
  intro k; induction k with
  | zero => intro _; exact ⟨Int.le_refl _, show (0 : Int) < 1 by decide⟩
  | succ k ih =>
    intro h
    have h1 := ih (fun j hj => h j (by omega))
    have h2 := h k (by omega)
    rw [Int.pow_succ]
    unfold nuv
    omega
theorem tE_L {tx : Nat → Int} {n p : Nat} (hp : p < n) (h : isLt (tx p)) : tE tx n p = nx (qL tx) n p ∧ ∀ j, p + j < tE tx n p → isLt (tx (p + j)) := by
  have e : tE tx n p = nx (qL tx) n p := by unfold tE; rw [if_neg (by omega), if_pos h]
  refine ⟨e, fun j hj => ?_⟩
  rw [e] at hj
  exact of_decide_eq_true ((nx_in (qL tx) (show p ≤ n by omega)).2.2.1 (p + j) (by omega) hj)
theorem tE_D {tx : Nat → Int} {n p : Nat} (hp : p < n) (h : ¬ isLt (tx p)) (h' : isDg (tx p)) : tE tx n p = nx (qD tx) n p ∧ ∀ j, p + j < tE tx n p → isDg (tx (p + j)) := by
  have e : tE tx n p = nx (qD tx) n p := by unfold tE; rw [if_neg (by omega), if_neg h, if_pos h']
  refine ⟨e, fun j hj => ?_⟩
  rw [e] at hj
  exact of_decide_eq_true ((nx_in (qD tx) (show p ≤ n by omega)).2.2.1 (p + j) (by omega) hj)
