theorem hv_le (L U : Nat → Int32) (v : Int) : ∀ n, hv L U v n ≤ n := by
  intro n; induction n with
  | zero => exact Nat.le_refl _
  | succ n ih => show _ + (if _ then 1 else 0) ≤ _; split <;> omega
theorem hv_cg {L U L' U' : Nat → Int32} {v : Int} : ∀ n, (∀ i, i < n → L i = L' i ∧ U i = U' i) → hv L U v n = hv L' U' v n := by
  intro n; induction n with
  | zero => intro _; rfl
  | succ n ih =>
    intro h
    show hv L U v n + (if _ then 1 else 0) = hv L' U' v n + (if _ then 1 else 0)
    rw [ih (fun i hi => h i (by omega)), (h n (by omega)).1, (h n (by omega)).2]
theorem hv_mono {L U : Nat → Int32} {v w : Int} : ∀ n, (∀ i, i < n → (L i).toInt ≤ v → v ≤ (U i).toInt → (L i).toInt ≤ w ∧ w ≤ (U i).toInt) → hv L U v n ≤ hv L U w n := by
  intro n; induction n with
  | zero => intro _; exact Nat.le_refl _
  | succ n ih =>
    intro h
    have g := ih (fun i hi => h i (by omega))
    show hv L U v n + (if _ then 1 else 0) ≤ hv L U w n + (if _ then 1 else 0)
    by_cases c : (L n).toInt ≤ v ∧ v ≤ (U n).toInt
    · rw [if_pos c, if_pos (h n (by omega) c.1 c.2)]; omega
    · rw [if_neg c]; omega
theorem hv_ex {L U : Nat → Int32} {v : Int} : ∀ n, 0 < hv L U v n → ∃ k, k < n ∧ (L k).toInt ≤ v ∧ v ≤ (U k).toInt := by
  intro n; induction n with
  | zero => intro h; exact absurd h (Nat.lt_irrefl 0)
  | succ n ih =>
    intro h
    by_cases c : (L n).toInt ≤ v ∧ v ≤ (U n).toInt
    · exact ⟨n, by omega, c⟩
    · have e : hv L U v (n + 1) = hv L U v n := by show _ + (if _ then 1 else 0) = _; rw [if_neg c]; rfl
      obtain ⟨k, h1, h2⟩ := ih (by omega)
      exact ⟨k, by omega, h2⟩
theorem hv_self {L U : Nat → Int32} {v : Int} : ∀ n k, k < n → (L k).toInt ≤ v → v ≤ (U k).toInt → 0 < hv L U v n := by
  intro n; induction n with
  | zero => intro k h; omega
  | succ n ih =>
    intro k hk h1 h2
    show 0 < _ + (if _ then 1 else 0)
    by_cases c : k = n
    · subst c; rw [if_pos ⟨h1, h2⟩]; omega
    · have := ih k (by omega) h1 h2; omega
theorem best_ex (p : Nat → Prop) (f : Nat → Int) : ∀ n, (∃ k, k < n ∧ p k) → ∃ k, k < n ∧ p k ∧ ∀ i, i < n → p i → f i ≤ f k := by
  intro n; induction n with
  | zero => rintro ⟨k, h, _⟩; omega
  | succ n ih =>
    rintro ⟨k, hk, hp⟩
    by_cases c : ∃ k, k < n ∧ p k
    · obtain ⟨j, j1, j2, j3⟩ := ih c
      by_cases d : p n ∧ f j ≤ f n
      · refine ⟨n, by omega, d.1, fun i hi pi => ?_⟩
        by_cases e : i = n
        · rw [e]; exact Int.le_refl _
        · exact Int.le_trans (j3 i (by omega) pi) d.2
      · refine ⟨j, by omega, j2, fun i hi pi => ?_⟩
        by_cases e : i = n
        · subst e
          have : ¬ f j ≤ f i := fun q => d ⟨pi, q⟩
          omega
        · exact j3 i (by omega) pi
    · have e : k = n := by
        by_cases q : k = n
        · exact q
        · exact absurd ⟨k, by omega, hp⟩ c
      subst e
      refine ⟨k, by omega, hp, fun i hi pi => ?_⟩
      by_cases e : i = k
      · rw [e]; exact Int.le_refl _
      · exact absurd ⟨i, by omega, pi⟩ c
theorem hv_low {L U : Nat → Int32} {v : Int} {n : Nat} (h : 0 < hv L U v n) : ∃ k, k < n ∧ (L k).toInt ≤ v ∧ hv L U v n ≤ hv L U (L k).toInt n := by
  obtain ⟨k, h1, h2, h3⟩ := best_ex (fun k => (L k).toInt ≤ v ∧ v ≤ (U k).toInt) (fun k => (L k).toInt) n (hv_ex n h)
  exact ⟨k, h1, h2.1, hv_mono n (fun i hi a b => ⟨h3 i hi ⟨a, b⟩, by omega⟩)⟩
theorem hv_top {L U : Nat → Int32} {v : Int} {n : Nat} (h : 0 < hv L U v n) : ∃ k, k < n ∧ v ≤ (U k).toInt ∧ hv L U v n ≤ hv L U (U k).toInt n := by
  obtain ⟨k, h1, h2, h3⟩ := best_ex (fun k => (L k).toInt ≤ v ∧ v ≤ (U k).toInt) (fun k => - (U k).toInt) n (hv_ex n h)
  exact ⟨k, h1, h2.2, hv_mono n (fun i hi a b => ⟨by omega, by have := h3 i hi ⟨a, b⟩; omega⟩)⟩
def mxN (f : Nat → Nat) : Nat → Nat
  | 0 => 0
  | k + 1 => max (mxN f k) (f k)
theorem mxN_ge (f : Nat → Nat) : ∀ n k, k < n → f k ≤ mxN f n := by
  intro n; induction n with
  | zero => intro k h; omega
  | succ n ih =>
    intro k hk
    show _ ≤ max (mxN f n) (f n)
    by_cases c : k = n
    · subst c; omega
    · have := ih k (by omega); omega
theorem mxN_at (f : Nat → Nat) : ∀ n, mxN f n = 0 ∨ ∃ k, k < n ∧ f k = mxN f n := by
  intro n; induction n with
  | zero => exact Or.inl rfl
  | succ n ih =>
    show max (mxN f n) (f n) = 0 ∨ ∃ k, k < n + 1 ∧ f k = max (mxN f n) (f n)
    rcases ih with h | ⟨k, h1, h2⟩
    · exact Or.inr ⟨n, by omega, by omega⟩
    · by_cases c : mxN f n ≤ f n
      · exact Or.inr ⟨n, by omega, by omega⟩
      · exact Or.inr ⟨k, by omega, by omega⟩
theorem mxN_le {f : Nat → Nat} {b : Nat} : ∀ n, (∀ k, k < n → f k ≤ b) → mxN f n ≤ b := by
  intro n; induction n with
  | zero => intro _; exact Nat.zero_le _
  | succ n ih => intro h; have := ih (fun k hk => h k (by omega)); have := h n (by omega); show max _ _ ≤ _; omega
theorem mxN_cg {f g : Nat → Nat} : ∀ n, (∀ k, k < n → f k = g k) → mxN f n = mxN g n := by
  intro n; induction n with
  | zero => intro _; rfl
  | succ n ih => intro h; show max _ _ = max _ _; rw [ih (fun k hk => h k (by omega)), h n (by omega)]
def agr (L U : Nat → Int32) (n : Nat) : Nat := mxN (fun k => hv L U (L k).toInt n) n
theorem agr_cg {L U L' U' : Nat → Int32} {n : Nat} (h : ∀ i, i < n → L i = L' i ∧ U i = U' i) : agr L U n = agr L' U' n := mxN_cg n (fun k hk => by rw [hv_cg n h, (h k hk).1])
theorem agr_le (L U : Nat → Int32) (n : Nat) : agr L U n ≤ n := mxN_le n (fun k _ => hv_le L U _ n)
theorem hv_agr (L U : Nat → Int32) (v : Int) (n : Nat) : hv L U v n ≤ agr L U n := by
  by_cases c : 0 < hv L U v n
  · obtain ⟨k, h1, h2, h3⟩ := hv_low c
    exact Nat.le_trans h3 (mxN_ge (fun k => hv L U (L k).toInt n) n k h1)
  · omega
theorem agr_pos {L U : Nat → Int32} {n : Nat} (hn : 0 < n) (h : ∀ k, k < n → (L k).toInt ≤ (U k).toInt) : 0 < agr L U n :=
  Nat.lt_of_lt_of_le (hv_self n 0 hn (Int.le_refl _) (h 0 hn)) (hv_agr L U _ n)
theorem agr_at {L U : Nat → Int32} {n : Nat} (hn : 0 < n) (h : ∀ k, k < n → (L k).toInt ≤ (U k).toInt) : ∃ k, k < n ∧ hv L U (L k).toInt n = agr L U n := by
  rcases mxN_at (fun k => hv L U (L k).toInt n) n with q | q
  · have := agr_pos hn h; unfold agr at this; omega
  · exact q
def mnO (y : Option Int32) (v : Int32) : Int32 := match y with
  | none => v
  | some s => if s.toInt ≤ v.toInt then s else v
def pLw (L : Nat → Int32) (p : Nat → Bool) : Nat → Option Int32
  | 0 => none
  | k + 1 => if p k then some (mnO (pLw L p k) (L k)) else pLw L p k
def pTp (U : Nat → Int32) (p : Nat → Bool) (a : Int32) : Nat → Int32
  | 0 => a
  | k + 1 => if p k then (if (U k).toInt ≤ (pTp U p a k).toInt then pTp U p a k else U k) else pTp U p a k
theorem pLw_cg {L L' : Nat → Int32} {p p' : Nat → Bool} : ∀ n, (∀ i, i < n → L i = L' i ∧ p i = p' i) → pLw L p n = pLw L' p' n := by
  intro n; induction n with
  | zero => intro _; rfl
  | succ n ih => intro h; unfold pLw; rw [ih (fun k hk => h k (by omega)), (h n (by omega)).1, (h n (by omega)).2]
theorem pTp_cg {U U' : Nat → Int32} {p p' : Nat → Bool} {a : Int32} : ∀ n, (∀ i, i < n → U i = U' i ∧ p i = p' i) → pTp U p a n = pTp U' p' a n := by
  intro n; induction n with
  | zero => intro _; rfl
  | succ n ih => intro h; unfold pTp; rw [ih (fun k hk => h k (by omega)), (h n (by omega)).1, (h n (by omega)).2]
theorem pLw_at (L : Nat → Int32) (p : Nat → Bool) : ∀ n, (pLw L p n = none ∧ ∀ k, k < n → p k = false) ∨ ∃ k, k < n ∧ p k = true ∧ pLw L p n = some (L k) := by
  intro n; induction n with
  | zero => exact Or.inl ⟨rfl, fun k h => by omega⟩
  | succ n ih =>
    unfold pLw
    by_cases c : p n = true
    · right
      rw [if_pos c]
      rcases ih with ⟨h1, h2⟩ | ⟨k, h1, h2, h3⟩
      · rw [h1]; exact ⟨n, by omega, c, rfl⟩
      · rw [h3]; unfold mnO; simp only
        by_cases d : (L k).toInt ≤ (L n).toInt
        · rw [if_pos d]; exact ⟨k, by omega, h2, rfl⟩
        · rw [if_neg d]; exact ⟨n, by omega, c, rfl⟩
    · rw [if_neg c]
      rcases ih with ⟨h1, h2⟩ | ⟨k, h1, h2, h3⟩
      · refine Or.inl ⟨h1, fun k hk => ?_⟩
        by_cases e : k = n
        · subst e; simpa using c
        · exact h2 k (by omega)
      · exact Or.inr ⟨k, by omega, h2, h3⟩
theorem pTp_ge (U : Nat → Int32) (p : Nat → Bool) (a : Int32) : ∀ n, a.toInt ≤ (pTp U p a n).toInt ∧ ∀ k, k < n → p k = true → (U k).toInt ≤ (pTp U p a n).toInt := by
  intro n; induction n with
  | zero => exact ⟨Int.le_refl _, fun k h => by omega⟩
  | succ n ih =>
    unfold pTp
    by_cases c : p n = true
    · rw [if_pos c]
      by_cases d : (U n).toInt ≤ (pTp U p a n).toInt
      · rw [if_pos d]; refine ⟨ih.1, fun k hk hp => ?_⟩
        by_cases e : k = n
        · rw [e]; exact d
        · exact ih.2 k (by omega) hp
      · rw [if_neg d]; refine ⟨by have := ih.1; omega, fun k hk hp => ?_⟩
        by_cases e : k = n
        · rw [e]; exact Int.le_refl _
        · have := ih.2 k (by omega) hp; omega
    · rw [if_neg c]; refine ⟨ih.1, fun k hk hp => ?_⟩
      by_cases e : k = n
      · subst e; exact absurd hp c
      · exact ih.2 k (by omega) hp
theorem pTp_at (U : Nat → Int32) (p : Nat → Bool) (a : Int32) : ∀ n, pTp U p a n = a ∨ ∃ k, k < n ∧ p k = true ∧ pTp U p a n = U k := by
  intro n; induction n with
  | zero => exact Or.inl rfl
  | succ n ih =>
    unfold pTp
    by_cases c : p n = true
    · rw [if_pos c]
      by_cases d : (U n).toInt ≤ (pTp U p a n).toInt
      · rw [if_pos d]
        rcases ih with h | ⟨k, h1, h2⟩
        · exact Or.inl h
        · exact Or.inr ⟨k, by omega, h2⟩
      · rw [if_neg d]; exact Or.inr ⟨n, by omega, c, rfl⟩
    · rw [if_neg c]
      rcases ih with h | ⟨k, h1, h2⟩
      · exact Or.inl h
      · exact Or.inr ⟨k, by omega, h2⟩
theorem pTp_un {U : Nat → Int32} {p : Nat → Bool} {a b : Int32} {n j : Nat} (hj : j < n) (hp : p j = true) (ha : a.toInt ≤ (U j).toInt) (hb : b.toInt ≤ (U j).toInt) : pTp U p a n = pTp U p b n := by
  have h : ∀ a b : Int32, a.toInt ≤ (U j).toInt → (pTp U p a n).toInt ≤ (pTp U p b n).toInt := by
    intro a b ha
    have g := (pTp_ge U p b n).2
    rcases pTp_at U p a n with q | ⟨k, q1, q2, q3⟩
    · rw [q]; exact Int.le_trans ha (g j hj hp)
    · rw [q3]; exact g k q1 q2
  apply Int32.toInt.inj
  have h1 := h a b ha
  have h2 := h b a hb
  omega
def pL (L U : Nat → Int32) (n : Nat) : Nat → Bool := fun k => decide (hv L U (L k).toInt n = agr L U n)
def pU (L U : Nat → Int32) (n : Nat) : Nat → Bool := fun k => decide (hv L U (U k).toInt n = agr L U n)
def sLw (L U : Nat → Int32) (n : Nat) : Int32 := (pLw L (pL L U n) n).getD 0
def sTp (L U : Nat → Int32) (n : Nat) : Int32 := pTp U (pU L U n) (sLw L U n) n
theorem sLw_at {L U : Nat → Int32} {n : Nat} (hn : 0 < n) (h : ∀ k, k < n → (L k).toInt ≤ (U k).toInt) : pLw L (pL L U n) n = some (sLw L U n) ∧ ∃ k, k < n ∧ sLw L U n = L k ∧ hv L U (L k).toInt n = agr L U n := by
  unfold sLw
  rcases pLw_at L (pL L U n) n with ⟨h1, h2⟩ | ⟨k, h1, h2, h3⟩
  · obtain ⟨j, j1, j2⟩ := agr_at hn h
    have := h2 j j1
    unfold pL at this; exact absurd j2 (of_decide_eq_false this)
  · rw [h3]; exact ⟨rfl, k, h1, rfl, of_decide_eq_true h2⟩
theorem sTp_un {L U : Nat → Int32} {n : Nat} (hn : 0 < n) (h : ∀ k, k < n → (L k).toInt ≤ (U k).toInt) {b : Int32} (hb : ∀ k, k < n → b.toInt ≤ (U k).toInt) : pTp U (pU L U n) b n = sTp L U n := by
  obtain ⟨-, k, k1, k2, k3⟩ := sLw_at hn h
  have hp := agr_pos hn h
  obtain ⟨j, j1, j2, j3⟩ := hv_top (L := L) (U := U) (v := (L k).toInt) (n := n) (by omega)
  have h4 := hv_agr L U (U j).toInt n
  exact pTp_un j1 (decide_eq_true (by omega)) (hb j j1) (by rw [k2]; exact j2)
