def oX (ci : Nat) (ks : Nat → Nat) (b : Nat) (G : Gs) : Ce := .inr (ci, fun k => match ks k with | 0 => .int (fi G k) | 1 => .long (fl G k) | 2 => va_rf (fr G k) | n + 3 => .ref (b + n))
def aX (t k : Nat) (G : Gs) : Ce := if t = 1 then .inl (1, ln G k, .inr (.inl (al G k))) else if 5 ≤ t then .inl (t, ln G k, .inr (.inr (.inr (.inr (ar G k))))) else .inl (t, ln G k, .inl (ai G k))
def fX (as : List (Nat × Nat × Nat)) (b a : Nat) : Option (Nat × Nat × Nat) := as.find? fun p => a == b + p.1
def cX (ci : Nat) (ks : Nat → Nat) (as : List (Nat × Nat × Nat)) (b : Nat) (G : Gs) (f : Nat → Ce) (a : Nat) : Ce := if a = b then oX ci ks b G else match fX as b a with | some p => aX p.2.1 p.2.2 G | none => f a
def eX (ci : Nat) (ks : Nat → Nat) (as : List (Nat × Nat × Nat)) (b : Nat) (σ : Hs) (G : Gs) : Hs := (σ.1, cX ci ks as b G σ.2.1, σ.2.2)
def okA (as : List (Nat × Nat × Nat)) : Bool := as.all (fun p => p.1 != 0 && as.all (fun q => (p.2.2 != q.2.2 && p.1 != q.1) || p == q))
def dX (as : List (Nat × Nat × Nat)) (b a : Nat) : Prop := a = b ∨ ∃ p ∈ as, a = b + p.1
section
variable {ci : Nat} {ks : Nat → Nat} {as : List (Nat × Nat × Nat)} {b : Nat}
theorem okA_0 (h : okA as = true) {p : Nat × Nat × Nat} (hp : p ∈ as) : p.1 ≠ 0 := by
  have := List.all_eq_true.mp h p hp
  simp only [Bool.and_eq_true, bne_iff_ne] at this
  exact this.1
theorem okA_2 (h : okA as = true) {p q : Nat × Nat × Nat} (hp : p ∈ as) (hq : q ∈ as) : (p.2.2 ≠ q.2.2 ∧ p.1 ≠ q.1) ∨ p = q := by
  have := List.all_eq_true.mp h p hp
  simp only [Bool.and_eq_true] at this
  have := List.all_eq_true.mp this.2 q hq
  simpa using this
theorem fX_at (h : okA as = true) {p : Nat × Nat × Nat} (hp : p ∈ as) : fX as b (b + p.1) = some p := by
  unfold fX
  rcases hx : as.find? (fun q => b + p.1 == b + q.1) with _ | q
  · have := List.find?_eq_none.mp hx p hp
    simp at this
  · have h1 := List.mem_of_find?_eq_some hx
    have h2 := List.find?_some hx
    simp only [beq_iff_eq] at h2
    rcases okA_2 h hp h1 with h3 | h3
    · omega
    · subst h3; exact hx
theorem fX_mem {a : Nat} {p : Nat × Nat × Nat} (h : fX as b a = some p) : p ∈ as ∧ a = b + p.1 := by
  unfold fX at h
  refine ⟨List.mem_of_find?_eq_some h, ?_⟩
  have h2 := List.find?_some h
  simpa using h2
theorem eX_o (σ : Hs) (G : Gs) : (eX ci ks as b σ G).2.1 b = oX ci ks b G := if_pos rfl
theorem eX_a (h : okA as = true) {p : Nat × Nat × Nat} (hp : p ∈ as) (σ : Hs) (G : Gs) : (eX ci ks as b σ G).2.1 (b + p.1) = aX p.2.1 p.2.2 G := by
  show cX ci ks as b G σ.2.1 (b + p.1) = _
  have := okA_0 h hp
  unfold cX
  rw [if_neg (by omega), fX_at h hp]
theorem eX_out {a : Nat} (h : ¬ dX as b a) (σ : Hs) (G : Gs) : (eX ci ks as b σ G).2.1 a = σ.2.1 a := by
  show cX ci ks as b G σ.2.1 a = _
  unfold cX
  rw [if_neg (fun e => h (Or.inl e))]
  rcases hx : fX as b a with _ | p
  · rfl
  · exact absurd (Or.inr ⟨p, (fX_mem hx).1, (fX_mem hx).2⟩) h
theorem XgI {k : Nat} (hk : ks k = 0) (σ : Hs) (G : Gs) : gI (eX ci ks as b σ G) b ci k = some (fi G k) := by
  unfold gI gV; rw [eX_o]; unfold oX; simp only [if_true, hk, Option.bind_some]; rfl
theorem XgL {k : Nat} (hk : ks k = 1) (σ : Hs) (G : Gs) : gL (eX ci ks as b σ G) b ci k = some (fl G k) := by
  unfold gL gV; rw [eX_o]; unfold oX; simp only [if_true, hk, Option.bind_some]; rfl
theorem XgR {k : Nat} (hk : ks k = 2) (σ : Hs) (G : Gs) : gR (eX ci ks as b σ G) b ci k = some (fr G k) := by
  unfold gR gV; rw [eX_o]; unfold oX; simp only [if_true, hk, Option.bind_some]; cases fr G k <;> rfl
theorem XgE {k : Nat} (hk : ks k = 2) (σ : Hs) (G : Gs) : gN (eX ci ks as b σ G) b ci k = fr G k := by
  unfold gN gV; rw [eX_o]; unfold oX; simp only [if_true, hk, Option.bind_some]; cases fr G k <;> rfl
theorem XgN {k n : Nat} (hk : ks k = n + 3) (σ : Hs) (G : Gs) : gN (eX ci ks as b σ G) b ci k = some (b + n) := by
  unfold gN gV; rw [eX_o]; unfold oX; simp only [if_true, hk, Option.bind_some]; rfl
theorem XisC (σ : Hs) (G : Gs) : isC (eX ci ks as b σ G) b ci = some () := by
  unfold isC; rw [eX_o]; unfold oX; simp only [if_true]
theorem cX_fi {k : Nat} (v : Int32) (G : Gs) (f : Nat → Ce) {a : Nat} (ha : a ≠ b) : cX ci ks as b (sfi G k v) f a = cX ci ks as b G f a := by
  unfold cX; rw [if_neg ha, if_neg ha]; rfl
theorem cX_fl {k : Nat} (v : Int64) (G : Gs) (f : Nat → Ce) {a : Nat} (ha : a ≠ b) : cX ci ks as b (sfl G k v) f a = cX ci ks as b G f a := by
  unfold cX; rw [if_neg ha, if_neg ha]; rfl
theorem cX_fr {k : Nat} (v : Option Nat) (G : Gs) (f : Nat → Ce) {a : Nat} (ha : a ≠ b) : cX ci ks as b (sfr G k v) f a = cX ci ks as b G f a := by
  unfold cX; rw [if_neg ha, if_neg ha]; rfl
theorem Xp {k : Nat} (hk : ks k = 0) (σ : Hs) (G : Gs) (v : Int32) : pV (eX ci ks as b σ G) b ci k (.int v) = some (eX ci ks as b σ (sfi G k v)) := by
  unfold pV; rw [eX_o]; unfold oX; simp only [if_true]
  refine congrArg some (Prod.ext rfl (Prod.ext (funext fun a => ?_) rfl))
  show va_up (cX ci ks as b G σ.2.1) b _ a = cX ci ks as b (sfi G k v) σ.2.1 a
  unfold va_up
  by_cases ha : a = b
  · rw [if_pos ha]; unfold cX; rw [if_pos ha]; unfold oX
    refine congrArg Sum.inr (Prod.ext rfl (funext fun j => ?_))
    by_cases hj : j = k
    · subst hj; simp only [if_true, hk]; show Value.int v = Value.int (up G.1 j v j); rw [up_same]
    · simp only [if_neg hj]; show _ = (match ks j with | 0 => Value.int (up G.1 k v j) | 1 => .long (fl G j) | 2 => va_rf (fr G j) | n + 3 => .ref (b + n)); rw [up_ne _ _ _ _ hj]; rfl
  · rw [if_neg ha, cX_fi v G σ.2.1 ha]
theorem XpZ {k : Nat} (hk : ks k = 0) (σ : Hs) (G : Gs) (v : Int32) : pZ (eX ci ks as b σ G) b ci k v = if v = 0 ∨ v = 1 then some (eX ci ks as b σ (sfi G k v)) else none := by
  unfold pZ; rw [Xp hk]
theorem XpL {k : Nat} (hk : ks k = 1) (σ : Hs) (G : Gs) (v : Int64) : pV (eX ci ks as b σ G) b ci k (.long v) = some (eX ci ks as b σ (sfl G k v)) := by
  unfold pV; rw [eX_o]; unfold oX; simp only [if_true]
  refine congrArg some (Prod.ext rfl (Prod.ext (funext fun a => ?_) rfl))
  show va_up (cX ci ks as b G σ.2.1) b _ a = cX ci ks as b (sfl G k v) σ.2.1 a
  unfold va_up
  by_cases ha : a = b
  · rw [if_pos ha]; unfold cX; rw [if_pos ha]; unfold oX
    refine congrArg Sum.inr (Prod.ext rfl (funext fun j => ?_))
    by_cases hj : j = k
    · subst hj; simp only [if_true, hk]; show Value.long v = Value.long (up G.2.1 j v j); rw [up_same]
    · simp only [if_neg hj]; show _ = (match ks j with | 0 => Value.int (fi G j) | 1 => .long (up G.2.1 k v j) | 2 => va_rf (fr G j) | n + 3 => .ref (b + n)); rw [up_ne _ _ _ _ hj]; rfl
  · rw [if_neg ha, cX_fl v G σ.2.1 ha]
theorem XpR {k : Nat} (hk : ks k = 2) (σ : Hs) (G : Gs) (v : Nat) : pV (eX ci ks as b σ G) b ci k (.ref v) = some (eX ci ks as b σ (sfr G k (some v))) := by
  unfold pV; rw [eX_o]; unfold oX; simp only [if_true]
  refine congrArg some (Prod.ext rfl (Prod.ext (funext fun a => ?_) rfl))
  show va_up (cX ci ks as b G σ.2.1) b _ a = cX ci ks as b (sfr G k (some v)) σ.2.1 a
  unfold va_up
  by_cases ha : a = b
  · rw [if_pos ha]; unfold cX; rw [if_pos ha]; unfold oX
    refine congrArg Sum.inr (Prod.ext rfl (funext fun j => ?_))
    by_cases hj : j = k
    · subst hj; simp only [if_true, hk]; show Value.ref v = va_rf (up G.2.2.1 j (some v) j); rw [up_same]; rfl
    · simp only [if_neg hj]; show _ = (match ks j with | 0 => Value.int (fi G j) | 1 => .long (fl G j) | 2 => va_rf (up G.2.2.1 k (some v) j) | n + 3 => .ref (b + n)); rw [up_ne _ _ _ _ hj]; rfl
  · rw [if_neg ha, cX_fr (some v) G σ.2.1 ha]
theorem Xld {j t k : Nat} (h : okA as = true) (hp : (j, t, k) ∈ as) (h1 : t ≠ 1) (h5 : t < 5) (σ : Hs) (G : Gs) (x : Int32) : ldI t (eX ci ks as b σ G) (b + j) x = if ix x (ln G k) = true then some (ai G k x.toNatClampNeg) else none := by
  have e := eX_a (ci := ci) (ks := ks) (b := b) h hp σ G
  unfold ldI; simp only at e; rw [e]; unfold aX; rw [if_neg h1, if_neg (by omega)]; simp only [true_and]
theorem XldL {j k : Nat} (h : okA as = true) (hp : (j, 1, k) ∈ as) (σ : Hs) (G : Gs) (x : Int32) : ldL (eX ci ks as b σ G) (b + j) x = if ix x (ln G k) = true then some (al G k x.toNatClampNeg) else none := by
  have e := eX_a (ci := ci) (ks := ks) (b := b) h hp σ G
  unfold ldL; simp only at e; rw [e]; unfold aX; rw [if_pos rfl]; simp only [true_and]
theorem XldR {j t k : Nat} (h : okA as = true) (hp : (j, t, k) ∈ as) (h5 : 5 ≤ t) (σ : Hs) (G : Gs) (x : Int32) : ldR t (eX ci ks as b σ G) (b + j) x = if ix x (ln G k) = true then some (ar G k x.toNatClampNeg) else none := by
  have e := eX_a (ci := ci) (ks := ks) (b := b) h hp σ G
  unfold ldR; simp only at e; rw [e]; unfold aX; rw [if_neg (by omega), if_pos h5]; simp only [true_and]
theorem XaN {j t k : Nat} (h : okA as = true) (hp : (j, t, k) ∈ as) (h8 : t < 8) (σ : Hs) (G : Gs) : aN (eX ci ks as b σ G) (b + j) = some (Int32.ofNat (ln G k)) := by
  have e := eX_a (ci := ci) (ks := ks) (b := b) h hp σ G
  unfold aN; simp only at e; rw [e]; unfold aX
  by_cases h1 : t = 1
  · subst h1; simp
  · by_cases h5 : 5 ≤ t
    · simp [h1, h5, h8]
    · simp [h1, h5, h8]
theorem aX_ne {k : Nat} (G G' : Gs) (t q : Nat) (hq : q ≠ k) (hi : ∀ j, j ≠ k → ai G' j = ai G j) (hl : ∀ j, j ≠ k → al G' j = al G j) (hr : ∀ j, j ≠ k → ar G' j = ar G j) (hn : ln G' = ln G) : aX t q G' = aX t q G := by
  unfold aX; rw [hi q hq, hl q hq, hr q hq, hn]
theorem cX_ar {j t k a : Nat} {f : Nat → Ce} (h : okA as = true) (hp : (j, t, k) ∈ as) (G G' : Gs) (ha : a ≠ b + j) (ho : oX ci ks b G' = oX ci ks b G) (hi : ∀ j, j ≠ k → ai G' j = ai G j) (hl : ∀ j, j ≠ k → al G' j = al G j) (hr : ∀ j, j ≠ k → ar G' j = ar G j) (hn : ln G' = ln G) : cX ci ks as b G' f a = cX ci ks as b G f a := by
  unfold cX
  by_cases hb : a = b
  · rw [if_pos hb, if_pos hb, ho]
  · rw [if_neg hb, if_neg hb]
    rcases hx : fX as b a with _ | q
    · rfl
    · have hm := fX_mem hx
      refine aX_ne G G' q.2.1 q.2.2 (fun e => ?_) hi hl hr hn
      rcases okA_2 h hm.1 hp with h3 | h3
      · exact h3.1 e
      · rw [h3] at hm; exact ha hm.2
theorem cX_at {j t k : Nat} {f : Nat → Ce} (h : okA as = true) (hp : (j, t, k) ∈ as) (G : Gs) : cX ci ks as b G f (b + j) = aX t k G := eX_a (ci := ci) (ks := ks) (b := b) h hp (0, f, fun _ => 0) G
theorem Xst {j t k : Nat} (h : okA as = true) (hp : (j, t, k) ∈ as) (h1 : t ≠ 1) (h5 : t < 5) (σ : Hs) (G : Gs) (x v : Int32) : stI t (eX ci ks as b σ G) (b + j) x v = if ix x (ln G k) = true then some (eX ci ks as b σ (sai G k (up (ai G k) x.toNatClampNeg v))) else none := by
  have e := eX_a (ci := ci) (ks := ks) (b := b) h hp σ G
  unfold stI; simp only at e; rw [e]; unfold aX; rw [if_neg h1, if_neg (by omega)]; simp only [true_and]
  by_cases hx : ix x (ln G k) = true
  · rw [if_pos hx, if_pos hx]
    refine congrArg some (Prod.ext rfl (Prod.ext (funext fun a => ?_) rfl))
    show va_up (cX ci ks as b G σ.2.1) (b + j) _ a = cX ci ks as b (sai G k (up (ai G k) x.toNatClampNeg v)) σ.2.1 a
    unfold va_up
    by_cases ha : a = b + j
    · rw [if_pos ha, ha, cX_at h hp]; unfold aX; rw [if_neg h1, if_neg (by omega)]
      show _ = Sum.inl (t, ln G k, Sum.inl (up G.2.2.2.1 k _ k)); rw [up_same]; rfl
    · rw [if_neg ha]
      exact (cX_ar h hp G (sai G k (up (ai G k) x.toNatClampNeg v)) ha rfl (fun j hj => up_ne _ _ _ _ hj) (fun _ _ => rfl) (fun _ _ => rfl) rfl).symm
  · rw [if_neg hx, if_neg hx]
theorem XstL {j k : Nat} (h : okA as = true) (hp : (j, 1, k) ∈ as) (σ : Hs) (G : Gs) (x : Int32) (v : Int64) : stL (eX ci ks as b σ G) (b + j) x v = if ix x (ln G k) = true then some (eX ci ks as b σ (sal G k (up (al G k) x.toNatClampNeg v))) else none := by
  have e := eX_a (ci := ci) (ks := ks) (b := b) h hp σ G
  unfold stL; simp only at e; rw [e]; unfold aX; rw [if_pos rfl]; simp only [true_and]
  by_cases hx : ix x (ln G k) = true
  · rw [if_pos hx, if_pos hx]
    refine congrArg some (Prod.ext rfl (Prod.ext (funext fun a => ?_) rfl))
    show va_up (cX ci ks as b G σ.2.1) (b + j) _ a = cX ci ks as b (sal G k (up (al G k) x.toNatClampNeg v)) σ.2.1 a
    unfold va_up
    by_cases ha : a = b + j
    · rw [if_pos ha, ha, cX_at h hp]; unfold aX; rw [if_pos rfl]
      show _ = Sum.inl (1, ln G k, Sum.inr (Sum.inl (up G.2.2.2.2.1 k _ k))); rw [up_same]; rfl
    · rw [if_neg ha]
      exact (cX_ar h hp G (sal G k (up (al G k) x.toNatClampNeg v)) ha rfl (fun _ _ => rfl) (fun j hj => up_ne _ _ _ _ hj) (fun _ _ => rfl) rfl).symm
  · rw [if_neg hx, if_neg hx]
theorem XstR {j t k : Nat} (h : okA as = true) (hp : (j, t, k) ∈ as) (h5 : 5 ≤ t) (c2 : Nat) (σ : Hs) (G : Gs) (x : Int32) (v : Nat) (hv : isC (eX ci ks as b σ G) v c2 = some ()) : stR t c2 (eX ci ks as b σ G) (b + j) x v = if ix x (ln G k) = true then some (eX ci ks as b σ (sar G k (up (ar G k) x.toNatClampNeg (some v)))) else none := by
  have e := eX_a (ci := ci) (ks := ks) (b := b) h hp σ G
  unfold stR; rw [hv]; simp only [Option.bind_some]; simp only at e; rw [e]; unfold aX; rw [if_neg (by omega), if_pos h5]; simp only [true_and]
  by_cases hx : ix x (ln G k) = true
  · rw [if_pos hx, if_pos hx]
    refine congrArg some (Prod.ext rfl (Prod.ext (funext fun a => ?_) rfl))
    show va_up (cX ci ks as b G σ.2.1) (b + j) _ a = cX ci ks as b (sar G k (up (ar G k) x.toNatClampNeg (some v))) σ.2.1 a
    unfold va_up
    by_cases ha : a = b + j
    · rw [if_pos ha, ha, cX_at h hp]; unfold aX; rw [if_neg (by omega), if_pos h5]
      show _ = Sum.inl (t, ln G k, Sum.inr (Sum.inr (Sum.inr (Sum.inr (up G.2.2.2.2.2.1 k _ k))))); rw [up_same]; rfl
    · rw [if_neg ha]
      exact (cX_ar h hp G (sar G k (up (ar G k) x.toNatClampNeg (some v))) ha rfl (fun _ _ => rfl) (fun _ _ => rfl) (fun j hj => up_ne _ _ _ _ hj) rfl).symm
  · rw [if_neg hx, if_neg hx]
theorem eX_eX (σ : Hs) (G G' : Gs) : eX ci ks as b (eX ci ks as b σ G) G' = eX ci ks as b σ G' := by
  refine Prod.ext rfl (Prod.ext (funext fun a => ?_) rfl)
  show cX ci ks as b G' (cX ci ks as b G σ.2.1) a = cX ci ks as b G' σ.2.1 a
  by_cases h1 : a = b
  · unfold cX; rw [if_pos h1, if_pos h1]
  · unfold cX; rw [if_neg h1, if_neg h1, if_neg h1]
    rcases fX as b a with _ | p <;> rfl
def At (ci : Nat) (ks : Nat → Nat) (as : List (Nat × Nat × Nat)) (b : Nat) (G : Gs) (σ : Hs) : Prop := eX ci ks as b σ G = σ
theorem At.self (σ : Hs) (G : Gs) : At ci ks as b G (eX ci ks as b σ G) := eX_eX σ G G
theorem At.mk {σ : Hs} {G : Gs} (hok : okA as = true) (h0 : σ.2.1 b = oX ci ks b G) (h : ∀ p ∈ as, σ.2.1 (b + p.1) = aX p.2.1 p.2.2 G) : At ci ks as b G σ := by
  refine Prod.ext rfl (Prod.ext (funext fun a => ?_) rfl)
  show cX ci ks as b G σ.2.1 a = σ.2.1 a
  by_cases hb : a = b
  · subst hb; exact ((eX_o σ G).trans h0.symm)
  · by_cases hd : dX as b a
    · rcases hd with q | ⟨p, hp, rfl⟩
      · exact absurd q hb
      · exact (eX_a (ci := ci) (ks := ks) hok hp σ G).trans (h p hp).symm
    · exact eX_out hd σ G
theorem At.frame {σ σ' : Hs} {G : Gs} (h : At ci ks as b G σ) (hq : ∀ a, dX as b a → σ'.2.1 a = σ.2.1 a) : At ci ks as b G σ' := by
  refine Prod.ext rfl (Prod.ext (funext fun a => ?_) rfl)
  show cX ci ks as b G σ'.2.1 a = σ'.2.1 a
  by_cases hd : dX as b a
  · rw [hq a hd]
    have e : (eX ci ks as b σ G).2.1 a = σ.2.1 a := by rw [h]
    rw [← e]
    show cX ci ks as b G σ'.2.1 a = cX ci ks as b G σ.2.1 a
    unfold cX
    by_cases h1 : a = b
    · rw [if_pos h1, if_pos h1]
    · rw [if_neg h1, if_neg h1]
      rcases hx : fX as b a with _ | p
      · rcases hd with hd | ⟨p, hp, hp2⟩
        · exact absurd hd h1
        · have := List.find?_eq_none.mp hx p hp
          simp [hp2] at this
      · rfl
  · exact eX_out hd σ' G
end
def ksJ (k : Nat) : Nat := List.getD [0, 2, 0] k 0
def asJ : List (Nat × Nat × Nat) := []
def eJ (b : Nat) (σ : Hs) (G : Gs) : Hs := eX 1 ksJ asJ b σ G
theorem okJ : okA asJ = true := by decide
theorem yJ_C {b : Nat} (σ : Hs) (G : Gs) : isC (eJ b σ G) b 1 = some () := XisC σ G
theorem yJ_g0 {b : Nat} (σ : Hs) (G : Gs) : gI (eJ b σ G) b 1 0 = some (fi G 0) := XgI rfl σ G
theorem yJ_p0 {b : Nat} (σ : Hs) (G : Gs) (v : Int32) : pV (eJ b σ G) b 1 0 (.int v) = some (eJ b σ (sfi G 0 v)) := Xp rfl σ G v
theorem yJ_g1 {b : Nat} (σ : Hs) (G : Gs) : gN (eJ b σ G) b 1 1 = fr G 1 := XgE rfl σ G
theorem yJ_p1 {b : Nat} (σ : Hs) (G : Gs) (v : Nat) : pV (eJ b σ G) b 1 1 (.ref v) = some (eJ b σ (sfr G 1 (some v))) := XpR rfl σ G v
theorem yJ_g2 {b : Nat} (σ : Hs) (G : Gs) : gI (eJ b σ G) b 1 2 = some (fi G 2) := XgI rfl σ G
theorem yJ_p2 {b : Nat} (σ : Hs) (G : Gs) (v : Int32) : pV (eJ b σ G) b 1 2 (.int v) = some (eJ b σ (sfi G 2 v)) := Xp rfl σ G v
def AJ (b : Nat) (G : Gs) (σ : Hs) : Prop := eJ b σ G = σ
theorem dJ_iff {b a : Nat} : dX asJ b a ↔ (a = b) := by unfold dX asJ; simp
theorem AJ_self {b : Nat} (σ : Hs) (G : Gs) : AJ b G (eJ b σ G) := At.self σ G
theorem AJ_fr {b : Nat} {G : Gs} {σ σ2 : Hs} (h : AJ b G σ) (hq : ∀ a, (a = b) → σ2.2.1 a = σ.2.1 a) : AJ b G σ2 := At.frame h (fun a ha => hq a (by have := dJ_iff.mp ha; omega))
theorem eJ_out {b a : Nat} (σ : Hs) (G : Gs) (h : ¬ (a = b)) : (eJ b σ G).2.1 a = σ.2.1 a := eX_out (fun q => h (by have := dJ_iff.mp q; omega)) σ G
theorem AJ_mk {b : Nat} {σ : Hs} {G : Gs} (h0 : σ.2.1 b = oX 1 ksJ b G) : AJ b G σ := At.mk okJ h0 (fun p hp => by simp [asJ] at hp)
theorem zJ_C {b : Nat} {σ : Hs} {G : Gs} (h : AJ b G σ) : isC σ b 1 = some () := by have q := yJ_C (b := b) σ G; rw [show eJ b σ G = σ from h] at q; exact q
theorem zJ_g0 {b : Nat} {σ : Hs} {G : Gs} (h : AJ b G σ) : gI σ b 1 0 = some (fi G 0) := by have q := yJ_g0 (b := b) σ G; rw [show eJ b σ G = σ from h] at q; exact q
theorem zJ_p0 {b : Nat} {σ : Hs} {G : Gs} (h : AJ b G σ) (v : Int32) : pV σ b 1 0 (.int v) = some (eJ b σ (sfi G 0 v)) := by have q := yJ_p0 (b := b) σ G v; rw [show eJ b σ G = σ from h] at q; exact q
theorem zJ_g1 {b : Nat} {σ : Hs} {G : Gs} (h : AJ b G σ) : gN σ b 1 1 = fr G 1 := by have q := yJ_g1 (b := b) σ G; rw [show eJ b σ G = σ from h] at q; exact q
theorem zJ_p1 {b : Nat} {σ : Hs} {G : Gs} (h : AJ b G σ) (v : Nat) : pV σ b 1 1 (.ref v) = some (eJ b σ (sfr G 1 (some v))) := by have q := yJ_p1 (b := b) σ G v; rw [show eJ b σ G = σ from h] at q; exact q
theorem zJ_g2 {b : Nat} {σ : Hs} {G : Gs} (h : AJ b G σ) : gI σ b 1 2 = some (fi G 2) := by have q := yJ_g2 (b := b) σ G; rw [show eJ b σ G = σ from h] at q; exact q
theorem zJ_p2 {b : Nat} {σ : Hs} {G : Gs} (h : AJ b G σ) (v : Int32) : pV σ b 1 2 (.int v) = some (eJ b σ (sfi G 2 v)) := by have q := yJ_p2 (b := b) σ G v; rw [show eJ b σ G = σ from h] at q; exact q
def ks0 (k : Nat) : Nat := List.getD [4, 5, 0, 0, 1, 1] k 1
def as0 : List (Nat × Nat × Nat) := [(1, 1, 0), (2, 1, 1)]
def e0 (b : Nat) (σ : Hs) (G : Gs) : Hs := eX 2 ks0 as0 b σ G
theorem ok0 : okA as0 = true := by decide
theorem y0_C {b : Nat} (σ : Hs) (G : Gs) : isC (e0 b σ G) b 2 = some () := XisC σ G
theorem y0_g0 {b : Nat} (σ : Hs) (G : Gs) : gN (e0 b σ G) b 2 0 = some (b + 1) := XgN (ks := ks0) (n := 1) rfl σ G
theorem y0_l0 {b : Nat} (σ : Hs) (G : Gs) (x : Int32) : ldL (e0 b σ G) (b + 1) x = if ix x (ln G 0) = true then some (al G 0 x.toNatClampNeg) else none := XldL ok0 (by decide : (1, 1, 0) ∈ as0) σ G x
theorem y0_s0 {b : Nat} (σ : Hs) (G : Gs) (x : Int32) (v : Int64) : stL (e0 b σ G) (b + 1) x v = if ix x (ln G 0) = true then some (e0 b σ (sal G 0 (up (al G 0) x.toNatClampNeg v))) else none := XstL ok0 (by decide : (1, 1, 0) ∈ as0) σ G x v
theorem y0_n0 {b : Nat} (σ : Hs) (G : Gs) : aN (e0 b σ G) (b + 1) = some (Int32.ofNat (ln G 0)) := XaN ok0 (by decide : (1, 1, 0) ∈ as0) (by decide) σ G
theorem y0_g1 {b : Nat} (σ : Hs) (G : Gs) : gN (e0 b σ G) b 2 1 = some (b + 2) := XgN (ks := ks0) (n := 2) rfl σ G
theorem y0_l1 {b : Nat} (σ : Hs) (G : Gs) (x : Int32) : ldL (e0 b σ G) (b + 2) x = if ix x (ln G 1) = true then some (al G 1 x.toNatClampNeg) else none := XldL ok0 (by decide : (2, 1, 1) ∈ as0) σ G x
theorem y0_s1 {b : Nat} (σ : Hs) (G : Gs) (x : Int32) (v : Int64) : stL (e0 b σ G) (b + 2) x v = if ix x (ln G 1) = true then some (e0 b σ (sal G 1 (up (al G 1) x.toNatClampNeg v))) else none := XstL ok0 (by decide : (2, 1, 1) ∈ as0) σ G x v
theorem y0_n1 {b : Nat} (σ : Hs) (G : Gs) : aN (e0 b σ G) (b + 2) = some (Int32.ofNat (ln G 1)) := XaN ok0 (by decide : (2, 1, 1) ∈ as0) (by decide) σ G
theorem y0_g2 {b : Nat} (σ : Hs) (G : Gs) : gI (e0 b σ G) b 2 2 = some (fi G 2) := XgI rfl σ G
theorem y0_p2 {b : Nat} (σ : Hs) (G : Gs) (v : Int32) : pV (e0 b σ G) b 2 2 (.int v) = some (e0 b σ (sfi G 2 v)) := Xp rfl σ G v
theorem y0_g3 {b : Nat} (σ : Hs) (G : Gs) : gI (e0 b σ G) b 2 3 = some (fi G 3) := XgI rfl σ G
theorem y0_p3 {b : Nat} (σ : Hs) (G : Gs) (v : Int32) : pV (e0 b σ G) b 2 3 (.int v) = some (e0 b σ (sfi G 3 v)) := Xp rfl σ G v
theorem y0_g4 {b : Nat} (σ : Hs) (G : Gs) : gL (e0 b σ G) b 2 4 = some (fl G 4) := XgL rfl σ G
theorem y0_p4 {b : Nat} (σ : Hs) (G : Gs) (v : Int64) : pV (e0 b σ G) b 2 4 (.long v) = some (e0 b σ (sfl G 4 v)) := XpL rfl σ G v
theorem y0_g5 {b : Nat} (σ : Hs) (G : Gs) : gL (e0 b σ G) b 2 5 = some (fl G 5) := XgL rfl σ G
theorem y0_p5 {b : Nat} (σ : Hs) (G : Gs) (v : Int64) : pV (e0 b σ G) b 2 5 (.long v) = some (e0 b σ (sfl G 5 v)) := XpL rfl σ G v
def A0 (b : Nat) (G : Gs) (σ : Hs) : Prop := e0 b σ G = σ
theorem d0_iff {b a : Nat} : dX as0 b a ↔ (a = b ∨ a = b + 1 ∨ a = b + 2) := by unfold dX as0; simp
theorem A0_self {b : Nat} (σ : Hs) (G : Gs) : A0 b G (e0 b σ G) := At.self σ G
theorem A0_fr {b : Nat} {G : Gs} {σ σ2 : Hs} (h : A0 b G σ) (hq : ∀ a, (a = b ∨ a = b + 1 ∨ a = b + 2) → σ2.2.1 a = σ.2.1 a) : A0 b G σ2 := At.frame h (fun a ha => hq a (by have := d0_iff.mp ha; omega))
theorem e0_out {b a : Nat} (σ : Hs) (G : Gs) (h : ¬ (a = b ∨ a = b + 1 ∨ a = b + 2)) : (e0 b σ G).2.1 a = σ.2.1 a := eX_out (fun q => h (by have := d0_iff.mp q; omega)) σ G
theorem A0_mk {b : Nat} {σ : Hs} {G : Gs} (h0 : σ.2.1 b = oX 2 ks0 b G) (h1 : σ.2.1 (b + 1) = aX 1 0 G) (h2 : σ.2.1 (b + 2) = aX 1 1 G) : A0 b G σ := At.mk ok0 h0 (fun p hp => by simp only [as0, List.mem_cons, List.not_mem_nil, or_false] at hp; rcases hp with rfl | rfl; exact h1; exact h2)
theorem z0_C {b : Nat} {σ : Hs} {G : Gs} (h : A0 b G σ) : isC σ b 2 = some () := by have q := y0_C (b := b) σ G; rw [show e0 b σ G = σ from h] at q; exact q
theorem z0_g0 {b : Nat} {σ : Hs} {G : Gs} (h : A0 b G σ) : gN σ b 2 0 = some (b + 1) := by have q := y0_g0 (b := b) σ G; rw [show e0 b σ G = σ from h] at q; exact q
theorem z0_l0 {b : Nat} {σ : Hs} {G : Gs} (h : A0 b G σ) (x : Int32) : ldL σ (b + 1) x = if ix x (ln G 0) = true then some (al G 0 x.toNatClampNeg) else none := by have q := y0_l0 (b := b) σ G x; rw [show e0 b σ G = σ from h] at q; exact q
theorem z0_s0 {b : Nat} {σ : Hs} {G : Gs} (h : A0 b G σ) (x : Int32) (v : Int64) : stL σ (b + 1) x v = if ix x (ln G 0) = true then some (e0 b σ (sal G 0 (up (al G 0) x.toNatClampNeg v))) else none := by have q := y0_s0 (b := b) σ G x v; rw [show e0 b σ G = σ from h] at q; exact q
theorem z0_n0 {b : Nat} {σ : Hs} {G : Gs} (h : A0 b G σ) : aN σ (b + 1) = some (Int32.ofNat (ln G 0)) := by have q := y0_n0 (b := b) σ G; rw [show e0 b σ G = σ from h] at q; exact q
theorem z0_g1 {b : Nat} {σ : Hs} {G : Gs} (h : A0 b G σ) : gN σ b 2 1 = some (b + 2) := by have q := y0_g1 (b := b) σ G; rw [show e0 b σ G = σ from h] at q; exact q
theorem z0_l1 {b : Nat} {σ : Hs} {G : Gs} (h : A0 b G σ) (x : Int32) : ldL σ (b + 2) x = if ix x (ln G 1) = true then some (al G 1 x.toNatClampNeg) else none := by have q := y0_l1 (b := b) σ G x; rw [show e0 b σ G = σ from h] at q; exact q
theorem z0_s1 {b : Nat} {σ : Hs} {G : Gs} (h : A0 b G σ) (x : Int32) (v : Int64) : stL σ (b + 2) x v = if ix x (ln G 1) = true then some (e0 b σ (sal G 1 (up (al G 1) x.toNatClampNeg v))) else none := by have q := y0_s1 (b := b) σ G x v; rw [show e0 b σ G = σ from h] at q; exact q
theorem z0_n1 {b : Nat} {σ : Hs} {G : Gs} (h : A0 b G σ) : aN σ (b + 2) = some (Int32.ofNat (ln G 1)) := by have q := y0_n1 (b := b) σ G; rw [show e0 b σ G = σ from h] at q; exact q
theorem z0_g2 {b : Nat} {σ : Hs} {G : Gs} (h : A0 b G σ) : gI σ b 2 2 = some (fi G 2) := by have q := y0_g2 (b := b) σ G; rw [show e0 b σ G = σ from h] at q; exact q
theorem z0_p2 {b : Nat} {σ : Hs} {G : Gs} (h : A0 b G σ) (v : Int32) : pV σ b 2 2 (.int v) = some (e0 b σ (sfi G 2 v)) := by have q := y0_p2 (b := b) σ G v; rw [show e0 b σ G = σ from h] at q; exact q
theorem z0_g3 {b : Nat} {σ : Hs} {G : Gs} (h : A0 b G σ) : gI σ b 2 3 = some (fi G 3) := by have q := y0_g3 (b := b) σ G; rw [show e0 b σ G = σ from h] at q; exact q
theorem z0_p3 {b : Nat} {σ : Hs} {G : Gs} (h : A0 b G σ) (v : Int32) : pV σ b 2 3 (.int v) = some (e0 b σ (sfi G 3 v)) := by have q := y0_p3 (b := b) σ G v; rw [show e0 b σ G = σ from h] at q; exact q
theorem z0_g4 {b : Nat} {σ : Hs} {G : Gs} (h : A0 b G σ) : gL σ b 2 4 = some (fl G 4) := by have q := y0_g4 (b := b) σ G; rw [show e0 b σ G = σ from h] at q; exact q
theorem z0_p4 {b : Nat} {σ : Hs} {G : Gs} (h : A0 b G σ) (v : Int64) : pV σ b 2 4 (.long v) = some (e0 b σ (sfl G 4 v)) := by have q := y0_p4 (b := b) σ G v; rw [show e0 b σ G = σ from h] at q; exact q
theorem z0_g5 {b : Nat} {σ : Hs} {G : Gs} (h : A0 b G σ) : gL σ b 2 5 = some (fl G 5) := by have q := y0_g5 (b := b) σ G; rw [show e0 b σ G = σ from h] at q; exact q
theorem z0_p5 {b : Nat} {σ : Hs} {G : Gs} (h : A0 b G σ) (v : Int64) : pV σ b 2 5 (.long v) = some (e0 b σ (sfl G 5 v)) := by have q := y0_p5 (b := b) σ G v; rw [show e0 b σ G = σ from h] at q; exact q
def ks1 (k : Nat) : Nat := List.getD [0, 4, 8, 9, 0] k 0
def as1 : List (Nat × Nat × Nat) := [(5, 0, 2), (6, 0, 3)]
def e1 (b : Nat) (σ : Hs) (G : Gs) : Hs := eX 3 ks1 as1 b σ G
theorem ok1 : okA as1 = true := by decide
theorem y1_C {b : Nat} (σ : Hs) (G : Gs) : isC (e1 b σ G) b 3 = some () := XisC σ G
theorem y1_g0 {b : Nat} (σ : Hs) (G : Gs) : gI (e1 b σ G) b 3 0 = some (fi G 0) := XgI rfl σ G
theorem y1_p0 {b : Nat} (σ : Hs) (G : Gs) (v : Int32) : pV (e1 b σ G) b 3 0 (.int v) = some (e1 b σ (sfi G 0 v)) := Xp rfl σ G v
theorem y1_g1 {b : Nat} (σ : Hs) (G : Gs) : gN (e1 b σ G) b 3 1 = some (b + 1) := XgN (ks := ks1) (n := 1) rfl σ G
theorem y1_g2 {b : Nat} (σ : Hs) (G : Gs) : gN (e1 b σ G) b 3 2 = some (b + 5) := XgN (ks := ks1) (n := 5) rfl σ G
theorem y1_l2 {b : Nat} (σ : Hs) (G : Gs) (x : Int32) : ldI 0 (e1 b σ G) (b + 5) x = if ix x (ln G 2) = true then some (ai G 2 x.toNatClampNeg) else none := Xld ok1 (by decide : (5, 0, 2) ∈ as1) (by decide) (by decide) σ G x
theorem y1_s2 {b : Nat} (σ : Hs) (G : Gs) (x v : Int32) : stI 0 (e1 b σ G) (b + 5) x v = if ix x (ln G 2) = true then some (e1 b σ (sai G 2 (up (ai G 2) x.toNatClampNeg v))) else none := Xst ok1 (by decide : (5, 0, 2) ∈ as1) (by decide) (by decide) σ G x v
theorem y1_n2 {b : Nat} (σ : Hs) (G : Gs) : aN (e1 b σ G) (b + 5) = some (Int32.ofNat (ln G 2)) := XaN ok1 (by decide : (5, 0, 2) ∈ as1) (by decide) σ G
theorem y1_g3 {b : Nat} (σ : Hs) (G : Gs) : gN (e1 b σ G) b 3 3 = some (b + 6) := XgN (ks := ks1) (n := 6) rfl σ G
theorem y1_l3 {b : Nat} (σ : Hs) (G : Gs) (x : Int32) : ldI 0 (e1 b σ G) (b + 6) x = if ix x (ln G 3) = true then some (ai G 3 x.toNatClampNeg) else none := Xld ok1 (by decide : (6, 0, 3) ∈ as1) (by decide) (by decide) σ G x
theorem y1_s3 {b : Nat} (σ : Hs) (G : Gs) (x v : Int32) : stI 0 (e1 b σ G) (b + 6) x v = if ix x (ln G 3) = true then some (e1 b σ (sai G 3 (up (ai G 3) x.toNatClampNeg v))) else none := Xst ok1 (by decide : (6, 0, 3) ∈ as1) (by decide) (by decide) σ G x v
theorem y1_n3 {b : Nat} (σ : Hs) (G : Gs) : aN (e1 b σ G) (b + 6) = some (Int32.ofNat (ln G 3)) := XaN ok1 (by decide : (6, 0, 3) ∈ as1) (by decide) σ G
theorem y1_g4 {b : Nat} (σ : Hs) (G : Gs) : gI (e1 b σ G) b 3 4 = some (fi G 4) := XgI rfl σ G
theorem y1_p4 {b : Nat} (σ : Hs) (G : Gs) (v : Int32) : pV (e1 b σ G) b 3 4 (.int v) = some (e1 b σ (sfi G 4 v)) := Xp rfl σ G v
def A1 (b : Nat) (G : Gs) (σ : Hs) : Prop := e1 b σ G = σ
theorem d1_iff {b a : Nat} : dX as1 b a ↔ (a = b ∨ a = b + 5 ∨ a = b + 6) := by unfold dX as1; simp
theorem A1_self {b : Nat} (σ : Hs) (G : Gs) : A1 b G (e1 b σ G) := At.self σ G
theorem A1_fr {b : Nat} {G : Gs} {σ σ2 : Hs} (h : A1 b G σ) (hq : ∀ a, (a = b ∨ a = b + 5 ∨ a = b + 6) → σ2.2.1 a = σ.2.1 a) : A1 b G σ2 := At.frame h (fun a ha => hq a (by have := d1_iff.mp ha; omega))
theorem e1_out {b a : Nat} (σ : Hs) (G : Gs) (h : ¬ (a = b ∨ a = b + 5 ∨ a = b + 6)) : (e1 b σ G).2.1 a = σ.2.1 a := eX_out (fun q => h (by have := d1_iff.mp q; omega)) σ G
theorem A1_mk {b : Nat} {σ : Hs} {G : Gs} (h0 : σ.2.1 b = oX 3 ks1 b G) (h5 : σ.2.1 (b + 5) = aX 0 2 G) (h6 : σ.2.1 (b + 6) = aX 0 3 G) : A1 b G σ := At.mk ok1 h0 (fun p hp => by simp only [as1, List.mem_cons, List.not_mem_nil, or_false] at hp; rcases hp with rfl | rfl; exact h5; exact h6)
theorem z1_C {b : Nat} {σ : Hs} {G : Gs} (h : A1 b G σ) : isC σ b 3 = some () := by have q := y1_C (b := b) σ G; rw [show e1 b σ G = σ from h] at q; exact q
theorem z1_g0 {b : Nat} {σ : Hs} {G : Gs} (h : A1 b G σ) : gI σ b 3 0 = some (fi G 0) := by have q := y1_g0 (b := b) σ G; rw [show e1 b σ G = σ from h] at q; exact q
theorem z1_p0 {b : Nat} {σ : Hs} {G : Gs} (h : A1 b G σ) (v : Int32) : pV σ b 3 0 (.int v) = some (e1 b σ (sfi G 0 v)) := by have q := y1_p0 (b := b) σ G v; rw [show e1 b σ G = σ from h] at q; exact q
theorem z1_g1 {b : Nat} {σ : Hs} {G : Gs} (h : A1 b G σ) : gN σ b 3 1 = some (b + 1) := by have q := y1_g1 (b := b) σ G; rw [show e1 b σ G = σ from h] at q; exact q
theorem z1_g2 {b : Nat} {σ : Hs} {G : Gs} (h : A1 b G σ) : gN σ b 3 2 = some (b + 5) := by have q := y1_g2 (b := b) σ G; rw [show e1 b σ G = σ from h] at q; exact q
theorem z1_l2 {b : Nat} {σ : Hs} {G : Gs} (h : A1 b G σ) (x : Int32) : ldI 0 σ (b + 5) x = if ix x (ln G 2) = true then some (ai G 2 x.toNatClampNeg) else none := by have q := y1_l2 (b := b) σ G x; rw [show e1 b σ G = σ from h] at q; exact q
theorem z1_s2 {b : Nat} {σ : Hs} {G : Gs} (h : A1 b G σ) (x v : Int32) : stI 0 σ (b + 5) x v = if ix x (ln G 2) = true then some (e1 b σ (sai G 2 (up (ai G 2) x.toNatClampNeg v))) else none := by have q := y1_s2 (b := b) σ G x v; rw [show e1 b σ G = σ from h] at q; exact q
theorem z1_n2 {b : Nat} {σ : Hs} {G : Gs} (h : A1 b G σ) : aN σ (b + 5) = some (Int32.ofNat (ln G 2)) := by have q := y1_n2 (b := b) σ G; rw [show e1 b σ G = σ from h] at q; exact q
theorem z1_g3 {b : Nat} {σ : Hs} {G : Gs} (h : A1 b G σ) : gN σ b 3 3 = some (b + 6) := by have q := y1_g3 (b := b) σ G; rw [show e1 b σ G = σ from h] at q; exact q
theorem z1_l3 {b : Nat} {σ : Hs} {G : Gs} (h : A1 b G σ) (x : Int32) : ldI 0 σ (b + 6) x = if ix x (ln G 3) = true then some (ai G 3 x.toNatClampNeg) else none := by have q := y1_l3 (b := b) σ G x; rw [show e1 b σ G = σ from h] at q; exact q
theorem z1_s3 {b : Nat} {σ : Hs} {G : Gs} (h : A1 b G σ) (x v : Int32) : stI 0 σ (b + 6) x v = if ix x (ln G 3) = true then some (e1 b σ (sai G 3 (up (ai G 3) x.toNatClampNeg v))) else none := by have q := y1_s3 (b := b) σ G x v; rw [show e1 b σ G = σ from h] at q; exact q
theorem z1_n3 {b : Nat} {σ : Hs} {G : Gs} (h : A1 b G σ) : aN σ (b + 6) = some (Int32.ofNat (ln G 3)) := by have q := y1_n3 (b := b) σ G; rw [show e1 b σ G = σ from h] at q; exact q
theorem z1_g4 {b : Nat} {σ : Hs} {G : Gs} (h : A1 b G σ) : gI σ b 3 4 = some (fi G 4) := by have q := y1_g4 (b := b) σ G; rw [show e1 b σ G = σ from h] at q; exact q
theorem z1_p4 {b : Nat} {σ : Hs} {G : Gs} (h : A1 b G σ) (v : Int32) : pV σ b 3 4 (.int v) = some (e1 b σ (sfi G 4 v)) := by have q := y1_p4 (b := b) σ G v; rw [show e1 b σ G = σ from h] at q; exact q
def ks2 (k : Nat) : Nat := List.getD [0, 0, 0] k 0
def as2 : List (Nat × Nat × Nat) := []
def e2 (b : Nat) (σ : Hs) (G : Gs) : Hs := eX 4 ks2 as2 b σ G
theorem ok2 : okA as2 = true := by decide
theorem y2_C {b : Nat} (σ : Hs) (G : Gs) : isC (e2 b σ G) b 4 = some () := XisC σ G
theorem y2_g0 {b : Nat} (σ : Hs) (G : Gs) : gI (e2 b σ G) b 4 0 = some (fi G 0) := XgI rfl σ G
theorem y2_p0 {b : Nat} (σ : Hs) (G : Gs) (v : Int32) : pV (e2 b σ G) b 4 0 (.int v) = some (e2 b σ (sfi G 0 v)) := Xp rfl σ G v
theorem y2_g1 {b : Nat} (σ : Hs) (G : Gs) : gI (e2 b σ G) b 4 1 = some (fi G 1) := XgI rfl σ G
theorem y2_p1 {b : Nat} (σ : Hs) (G : Gs) (v : Int32) : pV (e2 b σ G) b 4 1 (.int v) = some (e2 b σ (sfi G 1 v)) := Xp rfl σ G v
theorem y2_g2 {b : Nat} (σ : Hs) (G : Gs) : gI (e2 b σ G) b 4 2 = some (fi G 2) := XgI rfl σ G
theorem y2_p2 {b : Nat} (σ : Hs) (G : Gs) (v : Int32) : pV (e2 b σ G) b 4 2 (.int v) = some (e2 b σ (sfi G 2 v)) := Xp rfl σ G v
def A2 (b : Nat) (G : Gs) (σ : Hs) : Prop := e2 b σ G = σ
theorem d2_iff {b a : Nat} : dX as2 b a ↔ (a = b) := by unfold dX as2; simp
theorem A2_self {b : Nat} (σ : Hs) (G : Gs) : A2 b G (e2 b σ G) := At.self σ G
theorem A2_fr {b : Nat} {G : Gs} {σ σ2 : Hs} (h : A2 b G σ) (hq : ∀ a, (a = b) → σ2.2.1 a = σ.2.1 a) : A2 b G σ2 := At.frame h (fun a ha => hq a (by have := d2_iff.mp ha; omega))
theorem e2_out {b a : Nat} (σ : Hs) (G : Gs) (h : ¬ (a = b)) : (e2 b σ G).2.1 a = σ.2.1 a := eX_out (fun q => h (by have := d2_iff.mp q; omega)) σ G
theorem A2_mk {b : Nat} {σ : Hs} {G : Gs} (h0 : σ.2.1 b = oX 4 ks2 b G) : A2 b G σ := At.mk ok2 h0 (fun p hp => by simp [as2] at hp)
theorem z2_C {b : Nat} {σ : Hs} {G : Gs} (h : A2 b G σ) : isC σ b 4 = some () := by have q := y2_C (b := b) σ G; rw [show e2 b σ G = σ from h] at q; exact q
theorem z2_g0 {b : Nat} {σ : Hs} {G : Gs} (h : A2 b G σ) : gI σ b 4 0 = some (fi G 0) := by have q := y2_g0 (b := b) σ G; rw [show e2 b σ G = σ from h] at q; exact q
theorem z2_p0 {b : Nat} {σ : Hs} {G : Gs} (h : A2 b G σ) (v : Int32) : pV σ b 4 0 (.int v) = some (e2 b σ (sfi G 0 v)) := by have q := y2_p0 (b := b) σ G v; rw [show e2 b σ G = σ from h] at q; exact q
theorem z2_g1 {b : Nat} {σ : Hs} {G : Gs} (h : A2 b G σ) : gI σ b 4 1 = some (fi G 1) := by have q := y2_g1 (b := b) σ G; rw [show e2 b σ G = σ from h] at q; exact q
theorem z2_p1 {b : Nat} {σ : Hs} {G : Gs} (h : A2 b G σ) (v : Int32) : pV σ b 4 1 (.int v) = some (e2 b σ (sfi G 1 v)) := by have q := y2_p1 (b := b) σ G v; rw [show e2 b σ G = σ from h] at q; exact q
theorem z2_g2 {b : Nat} {σ : Hs} {G : Gs} (h : A2 b G σ) : gI σ b 4 2 = some (fi G 2) := by have q := y2_g2 (b := b) σ G; rw [show e2 b σ G = σ from h] at q; exact q
theorem z2_p2 {b : Nat} {σ : Hs} {G : Gs} (h : A2 b G σ) (v : Int32) : pV σ b 4 2 (.int v) = some (e2 b σ (sfi G 2 v)) := by have q := y2_p2 (b := b) σ G v; rw [show e2 b σ G = σ from h] at q; exact q
def ks3 (k : Nat) : Nat := List.getD [0, 0, 0, 0, 0, 0, 0] k 0
def as3 : List (Nat × Nat × Nat) := []
def e3 (b : Nat) (σ : Hs) (G : Gs) : Hs := eX 5 ks3 as3 b σ G
theorem ok3 : okA as3 = true := by decide
theorem y3_C {b : Nat} (σ : Hs) (G : Gs) : isC (e3 b σ G) b 5 = some () := XisC σ G
theorem y3_g0 {b : Nat} (σ : Hs) (G : Gs) : gI (e3 b σ G) b 5 0 = some (fi G 0) := XgI rfl σ G
theorem y3_p0 {b : Nat} (σ : Hs) (G : Gs) (v : Int32) : pV (e3 b σ G) b 5 0 (.int v) = some (e3 b σ (sfi G 0 v)) := Xp rfl σ G v
theorem y3_g1 {b : Nat} (σ : Hs) (G : Gs) : gI (e3 b σ G) b 5 1 = some (fi G 1) := XgI rfl σ G
theorem y3_p1 {b : Nat} (σ : Hs) (G : Gs) (v : Int32) : pV (e3 b σ G) b 5 1 (.int v) = some (e3 b σ (sfi G 1 v)) := Xp rfl σ G v
theorem y3_g2 {b : Nat} (σ : Hs) (G : Gs) : gI (e3 b σ G) b 5 2 = some (fi G 2) := XgI rfl σ G
theorem y3_p2 {b : Nat} (σ : Hs) (G : Gs) (v : Int32) : pV (e3 b σ G) b 5 2 (.int v) = some (e3 b σ (sfi G 2 v)) := Xp rfl σ G v
theorem y3_g3 {b : Nat} (σ : Hs) (G : Gs) : gI (e3 b σ G) b 5 3 = some (fi G 3) := XgI rfl σ G
theorem y3_p3 {b : Nat} (σ : Hs) (G : Gs) (v : Int32) : pV (e3 b σ G) b 5 3 (.int v) = some (e3 b σ (sfi G 3 v)) := Xp rfl σ G v
theorem y3_g4 {b : Nat} (σ : Hs) (G : Gs) : gI (e3 b σ G) b 5 4 = some (fi G 4) := XgI rfl σ G
theorem y3_p4 {b : Nat} (σ : Hs) (G : Gs) (v : Int32) : pV (e3 b σ G) b 5 4 (.int v) = some (e3 b σ (sfi G 4 v)) := Xp rfl σ G v
theorem y3_g5 {b : Nat} (σ : Hs) (G : Gs) : gI (e3 b σ G) b 5 5 = some (fi G 5) := XgI rfl σ G
theorem y3_p5 {b : Nat} (σ : Hs) (G : Gs) (v : Int32) : pZ (e3 b σ G) b 5 5 v = if v = 0 ∨ v = 1 then some (e3 b σ (sfi G 5 v)) else none := XpZ rfl σ G v
theorem y3_g6 {b : Nat} (σ : Hs) (G : Gs) : gI (e3 b σ G) b 5 6 = some (fi G 6) := XgI rfl σ G
theorem y3_p6 {b : Nat} (σ : Hs) (G : Gs) (v : Int32) : pZ (e3 b σ G) b 5 6 v = if v = 0 ∨ v = 1 then some (e3 b σ (sfi G 6 v)) else none := XpZ rfl σ G v
def A3 (b : Nat) (G : Gs) (σ : Hs) : Prop := e3 b σ G = σ
theorem d3_iff {b a : Nat} : dX as3 b a ↔ (a = b) := by unfold dX as3; simp
theorem A3_self {b : Nat} (σ : Hs) (G : Gs) : A3 b G (e3 b σ G) := At.self σ G
theorem A3_fr {b : Nat} {G : Gs} {σ σ2 : Hs} (h : A3 b G σ) (hq : ∀ a, (a = b) → σ2.2.1 a = σ.2.1 a) : A3 b G σ2 := At.frame h (fun a ha => hq a (by have := d3_iff.mp ha; omega))
theorem e3_out {b a : Nat} (σ : Hs) (G : Gs) (h : ¬ (a = b)) : (e3 b σ G).2.1 a = σ.2.1 a := eX_out (fun q => h (by have := d3_iff.mp q; omega)) σ G
theorem A3_mk {b : Nat} {σ : Hs} {G : Gs} (h0 : σ.2.1 b = oX 5 ks3 b G) : A3 b G σ := At.mk ok3 h0 (fun p hp => by simp [as3] at hp)
theorem z3_C {b : Nat} {σ : Hs} {G : Gs} (h : A3 b G σ) : isC σ b 5 = some () := by have q := y3_C (b := b) σ G; rw [show e3 b σ G = σ from h] at q; exact q
theorem z3_g0 {b : Nat} {σ : Hs} {G : Gs} (h : A3 b G σ) : gI σ b 5 0 = some (fi G 0) := by have q := y3_g0 (b := b) σ G; rw [show e3 b σ G = σ from h] at q; exact q
theorem z3_p0 {b : Nat} {σ : Hs} {G : Gs} (h : A3 b G σ) (v : Int32) : pV σ b 5 0 (.int v) = some (e3 b σ (sfi G 0 v)) := by have q := y3_p0 (b := b) σ G v; rw [show e3 b σ G = σ from h] at q; exact q
theorem z3_g1 {b : Nat} {σ : Hs} {G : Gs} (h : A3 b G σ) : gI σ b 5 1 = some (fi G 1) := by have q := y3_g1 (b := b) σ G; rw [show e3 b σ G = σ from h] at q; exact q
theorem z3_p1 {b : Nat} {σ : Hs} {G : Gs} (h : A3 b G σ) (v : Int32) : pV σ b 5 1 (.int v) = some (e3 b σ (sfi G 1 v)) := by have q := y3_p1 (b := b) σ G v; rw [show e3 b σ G = σ from h] at q; exact q
theorem z3_g2 {b : Nat} {σ : Hs} {G : Gs} (h : A3 b G σ) : gI σ b 5 2 = some (fi G 2) := by have q := y3_g2 (b := b) σ G; rw [show e3 b σ G = σ from h] at q; exact q
theorem z3_p2 {b : Nat} {σ : Hs} {G : Gs} (h : A3 b G σ) (v : Int32) : pV σ b 5 2 (.int v) = some (e3 b σ (sfi G 2 v)) := by have q := y3_p2 (b := b) σ G v; rw [show e3 b σ G = σ from h] at q; exact q
theorem z3_g3 {b : Nat} {σ : Hs} {G : Gs} (h : A3 b G σ) : gI σ b 5 3 = some (fi G 3) := by have q := y3_g3 (b := b) σ G; rw [show e3 b σ G = σ from h] at q; exact q
theorem z3_p3 {b : Nat} {σ : Hs} {G : Gs} (h : A3 b G σ) (v : Int32) : pV σ b 5 3 (.int v) = some (e3 b σ (sfi G 3 v)) := by have q := y3_p3 (b := b) σ G v; rw [show e3 b σ G = σ from h] at q; exact q
theorem z3_g4 {b : Nat} {σ : Hs} {G : Gs} (h : A3 b G σ) : gI σ b 5 4 = some (fi G 4) := by have q := y3_g4 (b := b) σ G; rw [show e3 b σ G = σ from h] at q; exact q
theorem z3_p4 {b : Nat} {σ : Hs} {G : Gs} (h : A3 b G σ) (v : Int32) : pV σ b 5 4 (.int v) = some (e3 b σ (sfi G 4 v)) := by have q := y3_p4 (b := b) σ G v; rw [show e3 b σ G = σ from h] at q; exact q
theorem z3_g5 {b : Nat} {σ : Hs} {G : Gs} (h : A3 b G σ) : gI σ b 5 5 = some (fi G 5) := by have q := y3_g5 (b := b) σ G; rw [show e3 b σ G = σ from h] at q; exact q
theorem z3_p5 {b : Nat} {σ : Hs} {G : Gs} (h : A3 b G σ) (v : Int32) : pZ σ b 5 5 v = if v = 0 ∨ v = 1 then some (e3 b σ (sfi G 5 v)) else none := by have q := y3_p5 (b := b) σ G v; rw [show e3 b σ G = σ from h] at q; exact q
theorem z3_g6 {b : Nat} {σ : Hs} {G : Gs} (h : A3 b G σ) : gI σ b 5 6 = some (fi G 6) := by have q := y3_g6 (b := b) σ G; rw [show e3 b σ G = σ from h] at q; exact q
theorem z3_p6 {b : Nat} {σ : Hs} {G : Gs} (h : A3 b G σ) (v : Int32) : pZ σ b 5 6 v = if v = 0 ∨ v = 1 then some (e3 b σ (sfi G 6 v)) else none := by have q := y3_p6 (b := b) σ G v; rw [show e3 b σ G = σ from h] at q; exact q
def ks4 (k : Nat) : Nat := List.getD [2, 4, 5, 6, 0, 0] k 0
def as4 : List (Nat × Nat × Nat) := [(1, 0, 1), (2, 0, 2), (3, 0, 3)]
def e4 (b : Nat) (σ : Hs) (G : Gs) : Hs := eX 6 ks4 as4 b σ G
theorem ok4 : okA as4 = true := by decide
theorem y4_C {b : Nat} (σ : Hs) (G : Gs) : isC (e4 b σ G) b 6 = some () := XisC σ G
theorem y4_g0 {b : Nat} (σ : Hs) (G : Gs) : gN (e4 b σ G) b 6 0 = fr G 0 := XgE rfl σ G
theorem y4_p0 {b : Nat} (σ : Hs) (G : Gs) (v : Nat) : pV (e4 b σ G) b 6 0 (.ref v) = some (e4 b σ (sfr G 0 (some v))) := XpR rfl σ G v
theorem y4_g1 {b : Nat} (σ : Hs) (G : Gs) : gN (e4 b σ G) b 6 1 = some (b + 1) := XgN (ks := ks4) (n := 1) rfl σ G
theorem y4_l1 {b : Nat} (σ : Hs) (G : Gs) (x : Int32) : ldI 0 (e4 b σ G) (b + 1) x = if ix x (ln G 1) = true then some (ai G 1 x.toNatClampNeg) else none := Xld ok4 (by decide : (1, 0, 1) ∈ as4) (by decide) (by decide) σ G x
theorem y4_s1 {b : Nat} (σ : Hs) (G : Gs) (x v : Int32) : stI 0 (e4 b σ G) (b + 1) x v = if ix x (ln G 1) = true then some (e4 b σ (sai G 1 (up (ai G 1) x.toNatClampNeg v))) else none := Xst ok4 (by decide : (1, 0, 1) ∈ as4) (by decide) (by decide) σ G x v
theorem y4_n1 {b : Nat} (σ : Hs) (G : Gs) : aN (e4 b σ G) (b + 1) = some (Int32.ofNat (ln G 1)) := XaN ok4 (by decide : (1, 0, 1) ∈ as4) (by decide) σ G
theorem y4_g2 {b : Nat} (σ : Hs) (G : Gs) : gN (e4 b σ G) b 6 2 = some (b + 2) := XgN (ks := ks4) (n := 2) rfl σ G
theorem y4_l2 {b : Nat} (σ : Hs) (G : Gs) (x : Int32) : ldI 0 (e4 b σ G) (b + 2) x = if ix x (ln G 2) = true then some (ai G 2 x.toNatClampNeg) else none := Xld ok4 (by decide : (2, 0, 2) ∈ as4) (by decide) (by decide) σ G x
theorem y4_s2 {b : Nat} (σ : Hs) (G : Gs) (x v : Int32) : stI 0 (e4 b σ G) (b + 2) x v = if ix x (ln G 2) = true then some (e4 b σ (sai G 2 (up (ai G 2) x.toNatClampNeg v))) else none := Xst ok4 (by decide : (2, 0, 2) ∈ as4) (by decide) (by decide) σ G x v
theorem y4_n2 {b : Nat} (σ : Hs) (G : Gs) : aN (e4 b σ G) (b + 2) = some (Int32.ofNat (ln G 2)) := XaN ok4 (by decide : (2, 0, 2) ∈ as4) (by decide) σ G
theorem y4_g3 {b : Nat} (σ : Hs) (G : Gs) : gN (e4 b σ G) b 6 3 = some (b + 3) := XgN (ks := ks4) (n := 3) rfl σ G
theorem y4_l3 {b : Nat} (σ : Hs) (G : Gs) (x : Int32) : ldI 0 (e4 b σ G) (b + 3) x = if ix x (ln G 3) = true then some (ai G 3 x.toNatClampNeg) else none := Xld ok4 (by decide : (3, 0, 3) ∈ as4) (by decide) (by decide) σ G x
theorem y4_s3 {b : Nat} (σ : Hs) (G : Gs) (x v : Int32) : stI 0 (e4 b σ G) (b + 3) x v = if ix x (ln G 3) = true then some (e4 b σ (sai G 3 (up (ai G 3) x.toNatClampNeg v))) else none := Xst ok4 (by decide : (3, 0, 3) ∈ as4) (by decide) (by decide) σ G x v
theorem y4_n3 {b : Nat} (σ : Hs) (G : Gs) : aN (e4 b σ G) (b + 3) = some (Int32.ofNat (ln G 3)) := XaN ok4 (by decide : (3, 0, 3) ∈ as4) (by decide) σ G
theorem y4_g4 {b : Nat} (σ : Hs) (G : Gs) : gI (e4 b σ G) b 6 4 = some (fi G 4) := XgI rfl σ G
theorem y4_p4 {b : Nat} (σ : Hs) (G : Gs) (v : Int32) : pV (e4 b σ G) b 6 4 (.int v) = some (e4 b σ (sfi G 4 v)) := Xp rfl σ G v
theorem y4_g5 {b : Nat} (σ : Hs) (G : Gs) : gI (e4 b σ G) b 6 5 = some (fi G 5) := XgI rfl σ G
theorem y4_p5 {b : Nat} (σ : Hs) (G : Gs) (v : Int32) : pV (e4 b σ G) b 6 5 (.int v) = some (e4 b σ (sfi G 5 v)) := Xp rfl σ G v
def A4 (b : Nat) (G : Gs) (σ : Hs) : Prop := e4 b σ G = σ
theorem d4_iff {b a : Nat} : dX as4 b a ↔ (a = b ∨ a = b + 1 ∨ a = b + 2 ∨ a = b + 3) := by unfold dX as4; simp
theorem A4_self {b : Nat} (σ : Hs) (G : Gs) : A4 b G (e4 b σ G) := At.self σ G
theorem A4_fr {b : Nat} {G : Gs} {σ σ2 : Hs} (h : A4 b G σ) (hq : ∀ a, (a = b ∨ a = b + 1 ∨ a = b + 2 ∨ a = b + 3) → σ2.2.1 a = σ.2.1 a) : A4 b G σ2 := At.frame h (fun a ha => hq a (by have := d4_iff.mp ha; omega))
theorem e4_out {b a : Nat} (σ : Hs) (G : Gs) (h : ¬ (a = b ∨ a = b + 1 ∨ a = b + 2 ∨ a = b + 3)) : (e4 b σ G).2.1 a = σ.2.1 a := eX_out (fun q => h (by have := d4_iff.mp q; omega)) σ G
theorem A4_mk {b : Nat} {σ : Hs} {G : Gs} (h0 : σ.2.1 b = oX 6 ks4 b G) (h1 : σ.2.1 (b + 1) = aX 0 1 G) (h2 : σ.2.1 (b + 2) = aX 0 2 G) (h3 : σ.2.1 (b + 3) = aX 0 3 G) : A4 b G σ := At.mk ok4 h0 (fun p hp => by simp only [as4, List.mem_cons, List.not_mem_nil, or_false] at hp; rcases hp with rfl | rfl | rfl; exact h1; exact h2; exact h3)
theorem z4_C {b : Nat} {σ : Hs} {G : Gs} (h : A4 b G σ) : isC σ b 6 = some () := by have q := y4_C (b := b) σ G; rw [show e4 b σ G = σ from h] at q; exact q
theorem z4_g0 {b : Nat} {σ : Hs} {G : Gs} (h : A4 b G σ) : gN σ b 6 0 = fr G 0 := by have q := y4_g0 (b := b) σ G; rw [show e4 b σ G = σ from h] at q; exact q
theorem z4_p0 {b : Nat} {σ : Hs} {G : Gs} (h : A4 b G σ) (v : Nat) : pV σ b 6 0 (.ref v) = some (e4 b σ (sfr G 0 (some v))) := by have q := y4_p0 (b := b) σ G v; rw [show e4 b σ G = σ from h] at q; exact q
theorem z4_g1 {b : Nat} {σ : Hs} {G : Gs} (h : A4 b G σ) : gN σ b 6 1 = some (b + 1) := by have q := y4_g1 (b := b) σ G; rw [show e4 b σ G = σ from h] at q; exact q
theorem z4_l1 {b : Nat} {σ : Hs} {G : Gs} (h : A4 b G σ) (x : Int32) : ldI 0 σ (b + 1) x = if ix x (ln G 1) = true then some (ai G 1 x.toNatClampNeg) else none := by have q := y4_l1 (b := b) σ G x; rw [show e4 b σ G = σ from h] at q; exact q
theorem z4_s1 {b : Nat} {σ : Hs} {G : Gs} (h : A4 b G σ) (x v : Int32) : stI 0 σ (b + 1) x v = if ix x (ln G 1) = true then some (e4 b σ (sai G 1 (up (ai G 1) x.toNatClampNeg v))) else none := by have q := y4_s1 (b := b) σ G x v; rw [show e4 b σ G = σ from h] at q; exact q
theorem z4_n1 {b : Nat} {σ : Hs} {G : Gs} (h : A4 b G σ) : aN σ (b + 1) = some (Int32.ofNat (ln G 1)) := by have q := y4_n1 (b := b) σ G; rw [show e4 b σ G = σ from h] at q; exact q
theorem z4_g2 {b : Nat} {σ : Hs} {G : Gs} (h : A4 b G σ) : gN σ b 6 2 = some (b + 2) := by have q := y4_g2 (b := b) σ G; rw [show e4 b σ G = σ from h] at q; exact q
theorem z4_l2 {b : Nat} {σ : Hs} {G : Gs} (h : A4 b G σ) (x : Int32) : ldI 0 σ (b + 2) x = if ix x (ln G 2) = true then some (ai G 2 x.toNatClampNeg) else none := by have q := y4_l2 (b := b) σ G x; rw [show e4 b σ G = σ from h] at q; exact q
theorem z4_s2 {b : Nat} {σ : Hs} {G : Gs} (h : A4 b G σ) (x v : Int32) : stI 0 σ (b + 2) x v = if ix x (ln G 2) = true then some (e4 b σ (sai G 2 (up (ai G 2) x.toNatClampNeg v))) else none := by have q := y4_s2 (b := b) σ G x v; rw [show e4 b σ G = σ from h] at q; exact q
theorem z4_n2 {b : Nat} {σ : Hs} {G : Gs} (h : A4 b G σ) : aN σ (b + 2) = some (Int32.ofNat (ln G 2)) := by have q := y4_n2 (b := b) σ G; rw [show e4 b σ G = σ from h] at q; exact q
theorem z4_g3 {b : Nat} {σ : Hs} {G : Gs} (h : A4 b G σ) : gN σ b 6 3 = some (b + 3) := by have q := y4_g3 (b := b) σ G; rw [show e4 b σ G = σ from h] at q; exact q
theorem z4_l3 {b : Nat} {σ : Hs} {G : Gs} (h : A4 b G σ) (x : Int32) : ldI 0 σ (b + 3) x = if ix x (ln G 3) = true then some (ai G 3 x.toNatClampNeg) else none := by have q := y4_l3 (b := b) σ G x; rw [show e4 b σ G = σ from h] at q; exact q
theorem z4_s3 {b : Nat} {σ : Hs} {G : Gs} (h : A4 b G σ) (x v : Int32) : stI 0 σ (b + 3) x v = if ix x (ln G 3) = true then some (e4 b σ (sai G 3 (up (ai G 3) x.toNatClampNeg v))) else none := by have q := y4_s3 (b := b) σ G x v; rw [show e4 b σ G = σ from h] at q; exact q
theorem z4_n3 {b : Nat} {σ : Hs} {G : Gs} (h : A4 b G σ) : aN σ (b + 3) = some (Int32.ofNat (ln G 3)) := by have q := y4_n3 (b := b) σ G; rw [show e4 b σ G = σ from h] at q; exact q
theorem z4_g4 {b : Nat} {σ : Hs} {G : Gs} (h : A4 b G σ) : gI σ b 6 4 = some (fi G 4) := by have q := y4_g4 (b := b) σ G; rw [show e4 b σ G = σ from h] at q; exact q
theorem z4_p4 {b : Nat} {σ : Hs} {G : Gs} (h : A4 b G σ) (v : Int32) : pV σ b 6 4 (.int v) = some (e4 b σ (sfi G 4 v)) := by have q := y4_p4 (b := b) σ G v; rw [show e4 b σ G = σ from h] at q; exact q
theorem z4_g5 {b : Nat} {σ : Hs} {G : Gs} (h : A4 b G σ) : gI σ b 6 5 = some (fi G 5) := by have q := y4_g5 (b := b) σ G; rw [show e4 b σ G = σ from h] at q; exact q
theorem z4_p5 {b : Nat} {σ : Hs} {G : Gs} (h : A4 b G σ) (v : Int32) : pV σ b 6 5 (.int v) = some (e4 b σ (sfi G 5 v)) := by have q := y4_p5 (b := b) σ G v; rw [show e4 b σ G = σ from h] at q; exact q
def ks5 (k : Nat) : Nat := List.getD [4, 2, 2, 5, 6, 7, 8, 0, 0, 0, 0] k 0
def as5 : List (Nat × Nat × Nat) := [(1, 4, 0), (2, 0, 3), (3, 0, 4), (4, 0, 5), (5, 0, 6)]
def e5 (b : Nat) (σ : Hs) (G : Gs) : Hs := eX 7 ks5 as5 b σ G
theorem ok5 : okA as5 = true := by decide
theorem y5_C {b : Nat} (σ : Hs) (G : Gs) : isC (e5 b σ G) b 7 = some () := XisC σ G
theorem y5_g0 {b : Nat} (σ : Hs) (G : Gs) : gN (e5 b σ G) b 7 0 = some (b + 1) := XgN (ks := ks5) (n := 1) rfl σ G
theorem y5_l0 {b : Nat} (σ : Hs) (G : Gs) (x : Int32) : ldI 4 (e5 b σ G) (b + 1) x = if ix x (ln G 0) = true then some (ai G 0 x.toNatClampNeg) else none := Xld ok5 (by decide : (1, 4, 0) ∈ as5) (by decide) (by decide) σ G x
theorem y5_s0 {b : Nat} (σ : Hs) (G : Gs) (x v : Int32) : stI 4 (e5 b σ G) (b + 1) x v = if ix x (ln G 0) = true then some (e5 b σ (sai G 0 (up (ai G 0) x.toNatClampNeg v))) else none := Xst ok5 (by decide : (1, 4, 0) ∈ as5) (by decide) (by decide) σ G x v
theorem y5_n0 {b : Nat} (σ : Hs) (G : Gs) : aN (e5 b σ G) (b + 1) = some (Int32.ofNat (ln G 0)) := XaN ok5 (by decide : (1, 4, 0) ∈ as5) (by decide) σ G
theorem y5_g1 {b : Nat} (σ : Hs) (G : Gs) : gN (e5 b σ G) b 7 1 = fr G 1 := XgE rfl σ G
theorem y5_p1 {b : Nat} (σ : Hs) (G : Gs) (v : Nat) : pV (e5 b σ G) b 7 1 (.ref v) = some (e5 b σ (sfr G 1 (some v))) := XpR rfl σ G v
theorem y5_g2 {b : Nat} (σ : Hs) (G : Gs) : gN (e5 b σ G) b 7 2 = fr G 2 := XgE rfl σ G
theorem y5_p2 {b : Nat} (σ : Hs) (G : Gs) (v : Nat) : pV (e5 b σ G) b 7 2 (.ref v) = some (e5 b σ (sfr G 2 (some v))) := XpR rfl σ G v
theorem y5_g3 {b : Nat} (σ : Hs) (G : Gs) : gN (e5 b σ G) b 7 3 = some (b + 2) := XgN (ks := ks5) (n := 2) rfl σ G
theorem y5_l3 {b : Nat} (σ : Hs) (G : Gs) (x : Int32) : ldI 0 (e5 b σ G) (b + 2) x = if ix x (ln G 3) = true then some (ai G 3 x.toNatClampNeg) else none := Xld ok5 (by decide : (2, 0, 3) ∈ as5) (by decide) (by decide) σ G x
theorem y5_s3 {b : Nat} (σ : Hs) (G : Gs) (x v : Int32) : stI 0 (e5 b σ G) (b + 2) x v = if ix x (ln G 3) = true then some (e5 b σ (sai G 3 (up (ai G 3) x.toNatClampNeg v))) else none := Xst ok5 (by decide : (2, 0, 3) ∈ as5) (by decide) (by decide) σ G x v
theorem y5_n3 {b : Nat} (σ : Hs) (G : Gs) : aN (e5 b σ G) (b + 2) = some (Int32.ofNat (ln G 3)) := XaN ok5 (by decide : (2, 0, 3) ∈ as5) (by decide) σ G
theorem y5_g4 {b : Nat} (σ : Hs) (G : Gs) : gN (e5 b σ G) b 7 4 = some (b + 3) := XgN (ks := ks5) (n := 3) rfl σ G
theorem y5_l4 {b : Nat} (σ : Hs) (G : Gs) (x : Int32) : ldI 0 (e5 b σ G) (b + 3) x = if ix x (ln G 4) = true then some (ai G 4 x.toNatClampNeg) else none := Xld ok5 (by decide : (3, 0, 4) ∈ as5) (by decide) (by decide) σ G x
theorem y5_s4 {b : Nat} (σ : Hs) (G : Gs) (x v : Int32) : stI 0 (e5 b σ G) (b + 3) x v = if ix x (ln G 4) = true then some (e5 b σ (sai G 4 (up (ai G 4) x.toNatClampNeg v))) else none := Xst ok5 (by decide : (3, 0, 4) ∈ as5) (by decide) (by decide) σ G x v
theorem y5_n4 {b : Nat} (σ : Hs) (G : Gs) : aN (e5 b σ G) (b + 3) = some (Int32.ofNat (ln G 4)) := XaN ok5 (by decide : (3, 0, 4) ∈ as5) (by decide) σ G
theorem y5_g5 {b : Nat} (σ : Hs) (G : Gs) : gN (e5 b σ G) b 7 5 = some (b + 4) := XgN (ks := ks5) (n := 4) rfl σ G
theorem y5_l5 {b : Nat} (σ : Hs) (G : Gs) (x : Int32) : ldI 0 (e5 b σ G) (b + 4) x = if ix x (ln G 5) = true then some (ai G 5 x.toNatClampNeg) else none := Xld ok5 (by decide : (4, 0, 5) ∈ as5) (by decide) (by decide) σ G x
theorem y5_s5 {b : Nat} (σ : Hs) (G : Gs) (x v : Int32) : stI 0 (e5 b σ G) (b + 4) x v = if ix x (ln G 5) = true then some (e5 b σ (sai G 5 (up (ai G 5) x.toNatClampNeg v))) else none := Xst ok5 (by decide : (4, 0, 5) ∈ as5) (by decide) (by decide) σ G x v
theorem y5_n5 {b : Nat} (σ : Hs) (G : Gs) : aN (e5 b σ G) (b + 4) = some (Int32.ofNat (ln G 5)) := XaN ok5 (by decide : (4, 0, 5) ∈ as5) (by decide) σ G
theorem y5_g6 {b : Nat} (σ : Hs) (G : Gs) : gN (e5 b σ G) b 7 6 = some (b + 5) := XgN (ks := ks5) (n := 5) rfl σ G
theorem y5_l6 {b : Nat} (σ : Hs) (G : Gs) (x : Int32) : ldI 0 (e5 b σ G) (b + 5) x = if ix x (ln G 6) = true then some (ai G 6 x.toNatClampNeg) else none := Xld ok5 (by decide : (5, 0, 6) ∈ as5) (by decide) (by decide) σ G x
theorem y5_s6 {b : Nat} (σ : Hs) (G : Gs) (x v : Int32) : stI 0 (e5 b σ G) (b + 5) x v = if ix x (ln G 6) = true then some (e5 b σ (sai G 6 (up (ai G 6) x.toNatClampNeg v))) else none := Xst ok5 (by decide : (5, 0, 6) ∈ as5) (by decide) (by decide) σ G x v
theorem y5_n6 {b : Nat} (σ : Hs) (G : Gs) : aN (e5 b σ G) (b + 5) = some (Int32.ofNat (ln G 6)) := XaN ok5 (by decide : (5, 0, 6) ∈ as5) (by decide) σ G
theorem y5_g7 {b : Nat} (σ : Hs) (G : Gs) : gI (e5 b σ G) b 7 7 = some (fi G 7) := XgI rfl σ G
theorem y5_p7 {b : Nat} (σ : Hs) (G : Gs) (v : Int32) : pV (e5 b σ G) b 7 7 (.int v) = some (e5 b σ (sfi G 7 v)) := Xp rfl σ G v
theorem y5_g8 {b : Nat} (σ : Hs) (G : Gs) : gI (e5 b σ G) b 7 8 = some (fi G 8) := XgI rfl σ G
theorem y5_p8 {b : Nat} (σ : Hs) (G : Gs) (v : Int32) : pV (e5 b σ G) b 7 8 (.int v) = some (e5 b σ (sfi G 8 v)) := Xp rfl σ G v
theorem y5_g9 {b : Nat} (σ : Hs) (G : Gs) : gI (e5 b σ G) b 7 9 = some (fi G 9) := XgI rfl σ G
theorem y5_p9 {b : Nat} (σ : Hs) (G : Gs) (v : Int32) : pV (e5 b σ G) b 7 9 (.int v) = some (e5 b σ (sfi G 9 v)) := Xp rfl σ G v
theorem y5_g10 {b : Nat} (σ : Hs) (G : Gs) : gI (e5 b σ G) b 7 10 = some (fi G 10) := XgI rfl σ G
theorem y5_p10 {b : Nat} (σ : Hs) (G : Gs) (v : Int32) : pV (e5 b σ G) b 7 10 (.int v) = some (e5 b σ (sfi G 10 v)) := Xp rfl σ G v
def A5 (b : Nat) (G : Gs) (σ : Hs) : Prop := e5 b σ G = σ
theorem d5_iff {b a : Nat} : dX as5 b a ↔ (a = b ∨ a = b + 1 ∨ a = b + 2 ∨ a = b + 3 ∨ a = b + 4 ∨ a = b + 5) := by unfold dX as5; simp
theorem A5_self {b : Nat} (σ : Hs) (G : Gs) : A5 b G (e5 b σ G) := At.self σ G
theorem A5_fr {b : Nat} {G : Gs} {σ σ2 : Hs} (h : A5 b G σ) (hq : ∀ a, (a = b ∨ a = b + 1 ∨ a = b + 2 ∨ a = b + 3 ∨ a = b + 4 ∨ a = b + 5) → σ2.2.1 a = σ.2.1 a) : A5 b G σ2 := At.frame h (fun a ha => hq a (by have := d5_iff.mp ha; omega))
theorem e5_out {b a : Nat} (σ : Hs) (G : Gs) (h : ¬ (a = b ∨ a = b + 1 ∨ a = b + 2 ∨ a = b + 3 ∨ a = b + 4 ∨ a = b + 5)) : (e5 b σ G).2.1 a = σ.2.1 a := eX_out (fun q => h (by have := d5_iff.mp q; omega)) σ G
theorem A5_mk {b : Nat} {σ : Hs} {G : Gs} (h0 : σ.2.1 b = oX 7 ks5 b G) (h1 : σ.2.1 (b + 1) = aX 4 0 G) (h2 : σ.2.1 (b + 2) = aX 0 3 G) (h3 : σ.2.1 (b + 3) = aX 0 4 G) (h4 : σ.2.1 (b + 4) = aX 0 5 G) (h5 : σ.2.1 (b + 5) = aX 0 6 G) : A5 b G σ := At.mk ok5 h0 (fun p hp => by simp only [as5, List.mem_cons, List.not_mem_nil, or_false] at hp; rcases hp with rfl | rfl | rfl | rfl | rfl; exact h1; exact h2; exact h3; exact h4; exact h5)
theorem z5_C {b : Nat} {σ : Hs} {G : Gs} (h : A5 b G σ) : isC σ b 7 = some () := by have q := y5_C (b := b) σ G; rw [show e5 b σ G = σ from h] at q; exact q
theorem z5_g0 {b : Nat} {σ : Hs} {G : Gs} (h : A5 b G σ) : gN σ b 7 0 = some (b + 1) := by have q := y5_g0 (b := b) σ G; rw [show e5 b σ G = σ from h] at q; exact q
theorem z5_l0 {b : Nat} {σ : Hs} {G : Gs} (h : A5 b G σ) (x : Int32) : ldI 4 σ (b + 1) x = if ix x (ln G 0) = true then some (ai G 0 x.toNatClampNeg) else none := by have q := y5_l0 (b := b) σ G x; rw [show e5 b σ G = σ from h] at q; exact q
theorem z5_s0 {b : Nat} {σ : Hs} {G : Gs} (h : A5 b G σ) (x v : Int32) : stI 4 σ (b + 1) x v = if ix x (ln G 0) = true then some (e5 b σ (sai G 0 (up (ai G 0) x.toNatClampNeg v))) else none := by have q := y5_s0 (b := b) σ G x v; rw [show e5 b σ G = σ from h] at q; exact q
theorem z5_n0 {b : Nat} {σ : Hs} {G : Gs} (h : A5 b G σ) : aN σ (b + 1) = some (Int32.ofNat (ln G 0)) := by have q := y5_n0 (b := b) σ G; rw [show e5 b σ G = σ from h] at q; exact q
theorem z5_g1 {b : Nat} {σ : Hs} {G : Gs} (h : A5 b G σ) : gN σ b 7 1 = fr G 1 := by have q := y5_g1 (b := b) σ G; rw [show e5 b σ G = σ from h] at q; exact q
theorem z5_p1 {b : Nat} {σ : Hs} {G : Gs} (h : A5 b G σ) (v : Nat) : pV σ b 7 1 (.ref v) = some (e5 b σ (sfr G 1 (some v))) := by have q := y5_p1 (b := b) σ G v; rw [show e5 b σ G = σ from h] at q; exact q
theorem z5_g2 {b : Nat} {σ : Hs} {G : Gs} (h : A5 b G σ) : gN σ b 7 2 = fr G 2 := by have q := y5_g2 (b := b) σ G; rw [show e5 b σ G = σ from h] at q; exact q
theorem z5_p2 {b : Nat} {σ : Hs} {G : Gs} (h : A5 b G σ) (v : Nat) : pV σ b 7 2 (.ref v) = some (e5 b σ (sfr G 2 (some v))) := by have q := y5_p2 (b := b) σ G v; rw [show e5 b σ G = σ from h] at q; exact q
theorem z5_g3 {b : Nat} {σ : Hs} {G : Gs} (h : A5 b G σ) : gN σ b 7 3 = some (b + 2) := by have q := y5_g3 (b := b) σ G; rw [show e5 b σ G = σ from h] at q; exact q
theorem z5_l3 {b : Nat} {σ : Hs} {G : Gs} (h : A5 b G σ) (x : Int32) : ldI 0 σ (b + 2) x = if ix x (ln G 3) = true then some (ai G 3 x.toNatClampNeg) else none := by have q := y5_l3 (b := b) σ G x; rw [show e5 b σ G = σ from h] at q; exact q
theorem z5_s3 {b : Nat} {σ : Hs} {G : Gs} (h : A5 b G σ) (x v : Int32) : stI 0 σ (b + 2) x v = if ix x (ln G 3) = true then some (e5 b σ (sai G 3 (up (ai G 3) x.toNatClampNeg v))) else none := by have q := y5_s3 (b := b) σ G x v; rw [show e5 b σ G = σ from h] at q; exact q
theorem z5_n3 {b : Nat} {σ : Hs} {G : Gs} (h : A5 b G σ) : aN σ (b + 2) = some (Int32.ofNat (ln G 3)) := by have q := y5_n3 (b := b) σ G; rw [show e5 b σ G = σ from h] at q; exact q
theorem z5_g4 {b : Nat} {σ : Hs} {G : Gs} (h : A5 b G σ) : gN σ b 7 4 = some (b + 3) := by have q := y5_g4 (b := b) σ G; rw [show e5 b σ G = σ from h] at q; exact q
theorem z5_l4 {b : Nat} {σ : Hs} {G : Gs} (h : A5 b G σ) (x : Int32) : ldI 0 σ (b + 3) x = if ix x (ln G 4) = true then some (ai G 4 x.toNatClampNeg) else none := by have q := y5_l4 (b := b) σ G x; rw [show e5 b σ G = σ from h] at q; exact q
theorem z5_s4 {b : Nat} {σ : Hs} {G : Gs} (h : A5 b G σ) (x v : Int32) : stI 0 σ (b + 3) x v = if ix x (ln G 4) = true then some (e5 b σ (sai G 4 (up (ai G 4) x.toNatClampNeg v))) else none := by have q := y5_s4 (b := b) σ G x v; rw [show e5 b σ G = σ from h] at q; exact q
theorem z5_n4 {b : Nat} {σ : Hs} {G : Gs} (h : A5 b G σ) : aN σ (b + 3) = some (Int32.ofNat (ln G 4)) := by have q := y5_n4 (b := b) σ G; rw [show e5 b σ G = σ from h] at q; exact q
theorem z5_g5 {b : Nat} {σ : Hs} {G : Gs} (h : A5 b G σ) : gN σ b 7 5 = some (b + 4) := by have q := y5_g5 (b := b) σ G; rw [show e5 b σ G = σ from h] at q; exact q
theorem z5_l5 {b : Nat} {σ : Hs} {G : Gs} (h : A5 b G σ) (x : Int32) : ldI 0 σ (b + 4) x = if ix x (ln G 5) = true then some (ai G 5 x.toNatClampNeg) else none := by have q := y5_l5 (b := b) σ G x; rw [show e5 b σ G = σ from h] at q; exact q
theorem z5_s5 {b : Nat} {σ : Hs} {G : Gs} (h : A5 b G σ) (x v : Int32) : stI 0 σ (b + 4) x v = if ix x (ln G 5) = true then some (e5 b σ (sai G 5 (up (ai G 5) x.toNatClampNeg v))) else none := by have q := y5_s5 (b := b) σ G x v; rw [show e5 b σ G = σ from h] at q; exact q
theorem z5_n5 {b : Nat} {σ : Hs} {G : Gs} (h : A5 b G σ) : aN σ (b + 4) = some (Int32.ofNat (ln G 5)) := by have q := y5_n5 (b := b) σ G; rw [show e5 b σ G = σ from h] at q; exact q
theorem z5_g6 {b : Nat} {σ : Hs} {G : Gs} (h : A5 b G σ) : gN σ b 7 6 = some (b + 5) := by have q := y5_g6 (b := b) σ G; rw [show e5 b σ G = σ from h] at q; exact q
theorem z5_l6 {b : Nat} {σ : Hs} {G : Gs} (h : A5 b G σ) (x : Int32) : ldI 0 σ (b + 5) x = if ix x (ln G 6) = true then some (ai G 6 x.toNatClampNeg) else none := by have q := y5_l6 (b := b) σ G x; rw [show e5 b σ G = σ from h] at q; exact q
theorem z5_s6 {b : Nat} {σ : Hs} {G : Gs} (h : A5 b G σ) (x v : Int32) : stI 0 σ (b + 5) x v = if ix x (ln G 6) = true then some (e5 b σ (sai G 6 (up (ai G 6) x.toNatClampNeg v))) else none := by have q := y5_s6 (b := b) σ G x v; rw [show e5 b σ G = σ from h] at q; exact q
theorem z5_n6 {b : Nat} {σ : Hs} {G : Gs} (h : A5 b G σ) : aN σ (b + 5) = some (Int32.ofNat (ln G 6)) := by have q := y5_n6 (b := b) σ G; rw [show e5 b σ G = σ from h] at q; exact q
theorem z5_g7 {b : Nat} {σ : Hs} {G : Gs} (h : A5 b G σ) : gI σ b 7 7 = some (fi G 7) := by have q := y5_g7 (b := b) σ G; rw [show e5 b σ G = σ from h] at q; exact q
theorem z5_p7 {b : Nat} {σ : Hs} {G : Gs} (h : A5 b G σ) (v : Int32) : pV σ b 7 7 (.int v) = some (e5 b σ (sfi G 7 v)) := by have q := y5_p7 (b := b) σ G v; rw [show e5 b σ G = σ from h] at q; exact q
theorem z5_g8 {b : Nat} {σ : Hs} {G : Gs} (h : A5 b G σ) : gI σ b 7 8 = some (fi G 8) := by have q := y5_g8 (b := b) σ G; rw [show e5 b σ G = σ from h] at q; exact q
theorem z5_p8 {b : Nat} {σ : Hs} {G : Gs} (h : A5 b G σ) (v : Int32) : pV σ b 7 8 (.int v) = some (e5 b σ (sfi G 8 v)) := by have q := y5_p8 (b := b) σ G v; rw [show e5 b σ G = σ from h] at q; exact q
theorem z5_g9 {b : Nat} {σ : Hs} {G : Gs} (h : A5 b G σ) : gI σ b 7 9 = some (fi G 9) := by have q := y5_g9 (b := b) σ G; rw [show e5 b σ G = σ from h] at q; exact q
theorem z5_p9 {b : Nat} {σ : Hs} {G : Gs} (h : A5 b G σ) (v : Int32) : pV σ b 7 9 (.int v) = some (e5 b σ (sfi G 9 v)) := by have q := y5_p9 (b := b) σ G v; rw [show e5 b σ G = σ from h] at q; exact q
theorem z5_g10 {b : Nat} {σ : Hs} {G : Gs} (h : A5 b G σ) : gI σ b 7 10 = some (fi G 10) := by have q := y5_g10 (b := b) σ G; rw [show e5 b σ G = σ from h] at q; exact q
theorem z5_p10 {b : Nat} {σ : Hs} {G : Gs} (h : A5 b G σ) (v : Int32) : pV σ b 7 10 (.int v) = some (e5 b σ (sfi G 10 v)) := by have q := y5_p10 (b := b) σ G v; rw [show e5 b σ G = σ from h] at q; exact q
def ks6 (k : Nat) : Nat := List.getD [2, 0, 4, 5, 0, 0, 0, 6, 7, 8, 9, 0, 10, 11] k 2
def as6 : List (Nat × Nat × Nat) := [(1, 0, 2), (2, 0, 3), (3, 0, 7), (4, 1, 8), (5, 1, 9), (6, 3, 10), (7, 1, 12), (8, 3, 13)]
def e6 (b : Nat) (σ : Hs) (G : Gs) : Hs := eX 8 ks6 as6 b σ G
theorem ok6 : okA as6 = true := by decide
theorem y6_C {b : Nat} (σ : Hs) (G : Gs) : isC (e6 b σ G) b 8 = some () := XisC σ G
theorem y6_g0 {b : Nat} (σ : Hs) (G : Gs) : gN (e6 b σ G) b 8 0 = fr G 0 := XgE rfl σ G
theorem y6_p0 {b : Nat} (σ : Hs) (G : Gs) (v : Nat) : pV (e6 b σ G) b 8 0 (.ref v) = some (e6 b σ (sfr G 0 (some v))) := XpR rfl σ G v
theorem y6_g1 {b : Nat} (σ : Hs) (G : Gs) : gI (e6 b σ G) b 8 1 = some (fi G 1) := XgI rfl σ G
theorem y6_p1 {b : Nat} (σ : Hs) (G : Gs) (v : Int32) : pV (e6 b σ G) b 8 1 (.int v) = some (e6 b σ (sfi G 1 v)) := Xp rfl σ G v
theorem y6_g2 {b : Nat} (σ : Hs) (G : Gs) : gN (e6 b σ G) b 8 2 = some (b + 1) := XgN (ks := ks6) (n := 1) rfl σ G
theorem y6_l2 {b : Nat} (σ : Hs) (G : Gs) (x : Int32) : ldI 0 (e6 b σ G) (b + 1) x = if ix x (ln G 2) = true then some (ai G 2 x.toNatClampNeg) else none := Xld ok6 (by decide : (1, 0, 2) ∈ as6) (by decide) (by decide) σ G x
theorem y6_s2 {b : Nat} (σ : Hs) (G : Gs) (x v : Int32) : stI 0 (e6 b σ G) (b + 1) x v = if ix x (ln G 2) = true then some (e6 b σ (sai G 2 (up (ai G 2) x.toNatClampNeg v))) else none := Xst ok6 (by decide : (1, 0, 2) ∈ as6) (by decide) (by decide) σ G x v
theorem y6_n2 {b : Nat} (σ : Hs) (G : Gs) : aN (e6 b σ G) (b + 1) = some (Int32.ofNat (ln G 2)) := XaN ok6 (by decide : (1, 0, 2) ∈ as6) (by decide) σ G
theorem y6_g3 {b : Nat} (σ : Hs) (G : Gs) : gN (e6 b σ G) b 8 3 = some (b + 2) := XgN (ks := ks6) (n := 2) rfl σ G
theorem y6_l3 {b : Nat} (σ : Hs) (G : Gs) (x : Int32) : ldI 0 (e6 b σ G) (b + 2) x = if ix x (ln G 3) = true then some (ai G 3 x.toNatClampNeg) else none := Xld ok6 (by decide : (2, 0, 3) ∈ as6) (by decide) (by decide) σ G x
theorem y6_s3 {b : Nat} (σ : Hs) (G : Gs) (x v : Int32) : stI 0 (e6 b σ G) (b + 2) x v = if ix x (ln G 3) = true then some (e6 b σ (sai G 3 (up (ai G 3) x.toNatClampNeg v))) else none := Xst ok6 (by decide : (2, 0, 3) ∈ as6) (by decide) (by decide) σ G x v
theorem y6_n3 {b : Nat} (σ : Hs) (G : Gs) : aN (e6 b σ G) (b + 2) = some (Int32.ofNat (ln G 3)) := XaN ok6 (by decide : (2, 0, 3) ∈ as6) (by decide) σ G
theorem y6_g4 {b : Nat} (σ : Hs) (G : Gs) : gI (e6 b σ G) b 8 4 = some (fi G 4) := XgI rfl σ G
theorem y6_p4 {b : Nat} (σ : Hs) (G : Gs) (v : Int32) : pV (e6 b σ G) b 8 4 (.int v) = some (e6 b σ (sfi G 4 v)) := Xp rfl σ G v
theorem y6_g5 {b : Nat} (σ : Hs) (G : Gs) : gI (e6 b σ G) b 8 5 = some (fi G 5) := XgI rfl σ G
theorem y6_p5 {b : Nat} (σ : Hs) (G : Gs) (v : Int32) : pV (e6 b σ G) b 8 5 (.int v) = some (e6 b σ (sfi G 5 v)) := Xp rfl σ G v
theorem y6_g6 {b : Nat} (σ : Hs) (G : Gs) : gI (e6 b σ G) b 8 6 = some (fi G 6) := XgI rfl σ G
theorem y6_p6 {b : Nat} (σ : Hs) (G : Gs) (v : Int32) : pV (e6 b σ G) b 8 6 (.int v) = some (e6 b σ (sfi G 6 v)) := Xp rfl σ G v
theorem y6_g7 {b : Nat} (σ : Hs) (G : Gs) : gN (e6 b σ G) b 8 7 = some (b + 3) := XgN (ks := ks6) (n := 3) rfl σ G
theorem y6_l7 {b : Nat} (σ : Hs) (G : Gs) (x : Int32) : ldI 0 (e6 b σ G) (b + 3) x = if ix x (ln G 7) = true then some (ai G 7 x.toNatClampNeg) else none := Xld ok6 (by decide : (3, 0, 7) ∈ as6) (by decide) (by decide) σ G x
theorem y6_s7 {b : Nat} (σ : Hs) (G : Gs) (x v : Int32) : stI 0 (e6 b σ G) (b + 3) x v = if ix x (ln G 7) = true then some (e6 b σ (sai G 7 (up (ai G 7) x.toNatClampNeg v))) else none := Xst ok6 (by decide : (3, 0, 7) ∈ as6) (by decide) (by decide) σ G x v
theorem y6_n7 {b : Nat} (σ : Hs) (G : Gs) : aN (e6 b σ G) (b + 3) = some (Int32.ofNat (ln G 7)) := XaN ok6 (by decide : (3, 0, 7) ∈ as6) (by decide) σ G
theorem y6_g8 {b : Nat} (σ : Hs) (G : Gs) : gN (e6 b σ G) b 8 8 = some (b + 4) := XgN (ks := ks6) (n := 4) rfl σ G
theorem y6_l8 {b : Nat} (σ : Hs) (G : Gs) (x : Int32) : ldL (e6 b σ G) (b + 4) x = if ix x (ln G 8) = true then some (al G 8 x.toNatClampNeg) else none := XldL ok6 (by decide : (4, 1, 8) ∈ as6) σ G x
theorem y6_s8 {b : Nat} (σ : Hs) (G : Gs) (x : Int32) (v : Int64) : stL (e6 b σ G) (b + 4) x v = if ix x (ln G 8) = true then some (e6 b σ (sal G 8 (up (al G 8) x.toNatClampNeg v))) else none := XstL ok6 (by decide : (4, 1, 8) ∈ as6) σ G x v
theorem y6_n8 {b : Nat} (σ : Hs) (G : Gs) : aN (e6 b σ G) (b + 4) = some (Int32.ofNat (ln G 8)) := XaN ok6 (by decide : (4, 1, 8) ∈ as6) (by decide) σ G
theorem y6_g9 {b : Nat} (σ : Hs) (G : Gs) : gN (e6 b σ G) b 8 9 = some (b + 5) := XgN (ks := ks6) (n := 5) rfl σ G
theorem y6_l9 {b : Nat} (σ : Hs) (G : Gs) (x : Int32) : ldL (e6 b σ G) (b + 5) x = if ix x (ln G 9) = true then some (al G 9 x.toNatClampNeg) else none := XldL ok6 (by decide : (5, 1, 9) ∈ as6) σ G x
theorem y6_s9 {b : Nat} (σ : Hs) (G : Gs) (x : Int32) (v : Int64) : stL (e6 b σ G) (b + 5) x v = if ix x (ln G 9) = true then some (e6 b σ (sal G 9 (up (al G 9) x.toNatClampNeg v))) else none := XstL ok6 (by decide : (5, 1, 9) ∈ as6) σ G x v
theorem y6_n9 {b : Nat} (σ : Hs) (G : Gs) : aN (e6 b σ G) (b + 5) = some (Int32.ofNat (ln G 9)) := XaN ok6 (by decide : (5, 1, 9) ∈ as6) (by decide) σ G
theorem y6_g10 {b : Nat} (σ : Hs) (G : Gs) : gN (e6 b σ G) b 8 10 = some (b + 6) := XgN (ks := ks6) (n := 6) rfl σ G
theorem y6_l10 {b : Nat} (σ : Hs) (G : Gs) (x : Int32) : ldI 3 (e6 b σ G) (b + 6) x = if ix x (ln G 10) = true then some (ai G 10 x.toNatClampNeg) else none := Xld ok6 (by decide : (6, 3, 10) ∈ as6) (by decide) (by decide) σ G x
theorem y6_s10 {b : Nat} (σ : Hs) (G : Gs) (x v : Int32) : stI 3 (e6 b σ G) (b + 6) x v = if ix x (ln G 10) = true then some (e6 b σ (sai G 10 (up (ai G 10) x.toNatClampNeg v))) else none := Xst ok6 (by decide : (6, 3, 10) ∈ as6) (by decide) (by decide) σ G x v
theorem y6_n10 {b : Nat} (σ : Hs) (G : Gs) : aN (e6 b σ G) (b + 6) = some (Int32.ofNat (ln G 10)) := XaN ok6 (by decide : (6, 3, 10) ∈ as6) (by decide) σ G
theorem y6_g11 {b : Nat} (σ : Hs) (G : Gs) : gI (e6 b σ G) b 8 11 = some (fi G 11) := XgI rfl σ G
theorem y6_p11 {b : Nat} (σ : Hs) (G : Gs) (v : Int32) : pV (e6 b σ G) b 8 11 (.int v) = some (e6 b σ (sfi G 11 v)) := Xp rfl σ G v
theorem y6_g12 {b : Nat} (σ : Hs) (G : Gs) : gN (e6 b σ G) b 8 12 = some (b + 7) := XgN (ks := ks6) (n := 7) rfl σ G
theorem y6_l12 {b : Nat} (σ : Hs) (G : Gs) (x : Int32) : ldL (e6 b σ G) (b + 7) x = if ix x (ln G 12) = true then some (al G 12 x.toNatClampNeg) else none := XldL ok6 (by decide : (7, 1, 12) ∈ as6) σ G x
theorem y6_s12 {b : Nat} (σ : Hs) (G : Gs) (x : Int32) (v : Int64) : stL (e6 b σ G) (b + 7) x v = if ix x (ln G 12) = true then some (e6 b σ (sal G 12 (up (al G 12) x.toNatClampNeg v))) else none := XstL ok6 (by decide : (7, 1, 12) ∈ as6) σ G x v
theorem y6_n12 {b : Nat} (σ : Hs) (G : Gs) : aN (e6 b σ G) (b + 7) = some (Int32.ofNat (ln G 12)) := XaN ok6 (by decide : (7, 1, 12) ∈ as6) (by decide) σ G
theorem y6_g13 {b : Nat} (σ : Hs) (G : Gs) : gN (e6 b σ G) b 8 13 = some (b + 8) := XgN (ks := ks6) (n := 8) rfl σ G
theorem y6_l13 {b : Nat} (σ : Hs) (G : Gs) (x : Int32) : ldI 3 (e6 b σ G) (b + 8) x = if ix x (ln G 13) = true then some (ai G 13 x.toNatClampNeg) else none := Xld ok6 (by decide : (8, 3, 13) ∈ as6) (by decide) (by decide) σ G x
theorem y6_s13 {b : Nat} (σ : Hs) (G : Gs) (x v : Int32) : stI 3 (e6 b σ G) (b + 8) x v = if ix x (ln G 13) = true then some (e6 b σ (sai G 13 (up (ai G 13) x.toNatClampNeg v))) else none := Xst ok6 (by decide : (8, 3, 13) ∈ as6) (by decide) (by decide) σ G x v
theorem y6_n13 {b : Nat} (σ : Hs) (G : Gs) : aN (e6 b σ G) (b + 8) = some (Int32.ofNat (ln G 13)) := XaN ok6 (by decide : (8, 3, 13) ∈ as6) (by decide) σ G
def A6 (b : Nat) (G : Gs) (σ : Hs) : Prop := e6 b σ G = σ
theorem d6_iff {b a : Nat} : dX as6 b a ↔ (a = b ∨ a = b + 1 ∨ a = b + 2 ∨ a = b + 3 ∨ a = b + 4 ∨ a = b + 5 ∨ a = b + 6 ∨ a = b + 7 ∨ a = b + 8) := by unfold dX as6; simp
theorem A6_self {b : Nat} (σ : Hs) (G : Gs) : A6 b G (e6 b σ G) := At.self σ G
theorem A6_fr {b : Nat} {G : Gs} {σ σ2 : Hs} (h : A6 b G σ) (hq : ∀ a, (a = b ∨ a = b + 1 ∨ a = b + 2 ∨ a = b + 3 ∨ a = b + 4 ∨ a = b + 5 ∨ a = b + 6 ∨ a = b + 7 ∨ a = b + 8) → σ2.2.1 a = σ.2.1 a) : A6 b G σ2 := At.frame h (fun a ha => hq a (by have := d6_iff.mp ha; omega))
theorem e6_out {b a : Nat} (σ : Hs) (G : Gs) (h : ¬ (a = b ∨ a = b + 1 ∨ a = b + 2 ∨ a = b + 3 ∨ a = b + 4 ∨ a = b + 5 ∨ a = b + 6 ∨ a = b + 7 ∨ a = b + 8)) : (e6 b σ G).2.1 a = σ.2.1 a := eX_out (fun q => h (by have := d6_iff.mp q; omega)) σ G
theorem A6_mk {b : Nat} {σ : Hs} {G : Gs} (h0 : σ.2.1 b = oX 8 ks6 b G) (h1 : σ.2.1 (b + 1) = aX 0 2 G) (h2 : σ.2.1 (b + 2) = aX 0 3 G) (h3 : σ.2.1 (b + 3) = aX 0 7 G) (h4 : σ.2.1 (b + 4) = aX 1 8 G) (h5 : σ.2.1 (b + 5) = aX 1 9 G) (h6 : σ.2.1 (b + 6) = aX 3 10 G) (h7 : σ.2.1 (b + 7) = aX 1 12 G) (h8 : σ.2.1 (b + 8) = aX 3 13 G) : A6 b G σ := At.mk ok6 h0 (fun p hp => by simp only [as6, List.mem_cons, List.not_mem_nil, or_false] at hp; rcases hp with rfl | rfl | rfl | rfl | rfl | rfl | rfl | rfl; exact h1; exact h2; exact h3; exact h4; exact h5; exact h6; exact h7; exact h8)
theorem z6_C {b : Nat} {σ : Hs} {G : Gs} (h : A6 b G σ) : isC σ b 8 = some () := by have q := y6_C (b := b) σ G; rw [show e6 b σ G = σ from h] at q; exact q
theorem z6_g0 {b : Nat} {σ : Hs} {G : Gs} (h : A6 b G σ) : gN σ b 8 0 = fr G 0 := by have q := y6_g0 (b := b) σ G; rw [show e6 b σ G = σ from h] at q; exact q
theorem z6_p0 {b : Nat} {σ : Hs} {G : Gs} (h : A6 b G σ) (v : Nat) : pV σ b 8 0 (.ref v) = some (e6 b σ (sfr G 0 (some v))) := by have q := y6_p0 (b := b) σ G v; rw [show e6 b σ G = σ from h] at q; exact q
theorem z6_g1 {b : Nat} {σ : Hs} {G : Gs} (h : A6 b G σ) : gI σ b 8 1 = some (fi G 1) := by have q := y6_g1 (b := b) σ G; rw [show e6 b σ G = σ from h] at q; exact q
theorem z6_p1 {b : Nat} {σ : Hs} {G : Gs} (h : A6 b G σ) (v : Int32) : pV σ b 8 1 (.int v) = some (e6 b σ (sfi G 1 v)) := by have q := y6_p1 (b := b) σ G v; rw [show e6 b σ G = σ from h] at q; exact q
theorem z6_g2 {b : Nat} {σ : Hs} {G : Gs} (h : A6 b G σ) : gN σ b 8 2 = some (b + 1) := by have q := y6_g2 (b := b) σ G; rw [show e6 b σ G = σ from h] at q; exact q
theorem z6_l2 {b : Nat} {σ : Hs} {G : Gs} (h : A6 b G σ) (x : Int32) : ldI 0 σ (b + 1) x = if ix x (ln G 2) = true then some (ai G 2 x.toNatClampNeg) else none := by have q := y6_l2 (b := b) σ G x; rw [show e6 b σ G = σ from h] at q; exact q
theorem z6_s2 {b : Nat} {σ : Hs} {G : Gs} (h : A6 b G σ) (x v : Int32) : stI 0 σ (b + 1) x v = if ix x (ln G 2) = true then some (e6 b σ (sai G 2 (up (ai G 2) x.toNatClampNeg v))) else none := by have q := y6_s2 (b := b) σ G x v; rw [show e6 b σ G = σ from h] at q; exact q
theorem z6_n2 {b : Nat} {σ : Hs} {G : Gs} (h : A6 b G σ) : aN σ (b + 1) = some (Int32.ofNat (ln G 2)) := by have q := y6_n2 (b := b) σ G; rw [show e6 b σ G = σ from h] at q; exact q
theorem z6_g3 {b : Nat} {σ : Hs} {G : Gs} (h : A6 b G σ) : gN σ b 8 3 = some (b + 2) := by have q := y6_g3 (b := b) σ G; rw [show e6 b σ G = σ from h] at q; exact q
theorem z6_l3 {b : Nat} {σ : Hs} {G : Gs} (h : A6 b G σ) (x : Int32) : ldI 0 σ (b + 2) x = if ix x (ln G 3) = true then some (ai G 3 x.toNatClampNeg) else none := by have q := y6_l3 (b := b) σ G x; rw [show e6 b σ G = σ from h] at q; exact q
theorem z6_s3 {b : Nat} {σ : Hs} {G : Gs} (h : A6 b G σ) (x v : Int32) : stI 0 σ (b + 2) x v = if ix x (ln G 3) = true then some (e6 b σ (sai G 3 (up (ai G 3) x.toNatClampNeg v))) else none := by have q := y6_s3 (b := b) σ G x v; rw [show e6 b σ G = σ from h] at q; exact q
theorem z6_n3 {b : Nat} {σ : Hs} {G : Gs} (h : A6 b G σ) : aN σ (b + 2) = some (Int32.ofNat (ln G 3)) := by have q := y6_n3 (b := b) σ G; rw [show e6 b σ G = σ from h] at q; exact q
theorem z6_g4 {b : Nat} {σ : Hs} {G : Gs} (h : A6 b G σ) : gI σ b 8 4 = some (fi G 4) := by have q := y6_g4 (b := b) σ G; rw [show e6 b σ G = σ from h] at q; exact q
theorem z6_p4 {b : Nat} {σ : Hs} {G : Gs} (h : A6 b G σ) (v : Int32) : pV σ b 8 4 (.int v) = some (e6 b σ (sfi G 4 v)) := by have q := y6_p4 (b := b) σ G v; rw [show e6 b σ G = σ from h] at q; exact q
theorem z6_g5 {b : Nat} {σ : Hs} {G : Gs} (h : A6 b G σ) : gI σ b 8 5 = some (fi G 5) := by have q := y6_g5 (b := b) σ G; rw [show e6 b σ G = σ from h] at q; exact q
theorem z6_p5 {b : Nat} {σ : Hs} {G : Gs} (h : A6 b G σ) (v : Int32) : pV σ b 8 5 (.int v) = some (e6 b σ (sfi G 5 v)) := by have q := y6_p5 (b := b) σ G v; rw [show e6 b σ G = σ from h] at q; exact q
theorem z6_g6 {b : Nat} {σ : Hs} {G : Gs} (h : A6 b G σ) : gI σ b 8 6 = some (fi G 6) := by have q := y6_g6 (b := b) σ G; rw [show e6 b σ G = σ from h] at q; exact q
theorem z6_p6 {b : Nat} {σ : Hs} {G : Gs} (h : A6 b G σ) (v : Int32) : pV σ b 8 6 (.int v) = some (e6 b σ (sfi G 6 v)) := by have q := y6_p6 (b := b) σ G v; rw [show e6 b σ G = σ from h] at q; exact q
theorem z6_g7 {b : Nat} {σ : Hs} {G : Gs} (h : A6 b G σ) : gN σ b 8 7 = some (b + 3) := by have q := y6_g7 (b := b) σ G; rw [show e6 b σ G = σ from h] at q; exact q
theorem z6_l7 {b : Nat} {σ : Hs} {G : Gs} (h : A6 b G σ) (x : Int32) : ldI 0 σ (b + 3) x = if ix x (ln G 7) = true then some (ai G 7 x.toNatClampNeg) else none := by have q := y6_l7 (b := b) σ G x; rw [show e6 b σ G = σ from h] at q; exact q
theorem z6_s7 {b : Nat} {σ : Hs} {G : Gs} (h : A6 b G σ) (x v : Int32) : stI 0 σ (b + 3) x v = if ix x (ln G 7) = true then some (e6 b σ (sai G 7 (up (ai G 7) x.toNatClampNeg v))) else none := by have q := y6_s7 (b := b) σ G x v; rw [show e6 b σ G = σ from h] at q; exact q
theorem z6_n7 {b : Nat} {σ : Hs} {G : Gs} (h : A6 b G σ) : aN σ (b + 3) = some (Int32.ofNat (ln G 7)) := by have q := y6_n7 (b := b) σ G; rw [show e6 b σ G = σ from h] at q; exact q
theorem z6_g8 {b : Nat} {σ : Hs} {G : Gs} (h : A6 b G σ) : gN σ b 8 8 = some (b + 4) := by have q := y6_g8 (b := b) σ G; rw [show e6 b σ G = σ from h] at q; exact q
theorem z6_l8 {b : Nat} {σ : Hs} {G : Gs} (h : A6 b G σ) (x : Int32) : ldL σ (b + 4) x = if ix x (ln G 8) = true then some (al G 8 x.toNatClampNeg) else none := by have q := y6_l8 (b := b) σ G x; rw [show e6 b σ G = σ from h] at q; exact q
theorem z6_s8 {b : Nat} {σ : Hs} {G : Gs} (h : A6 b G σ) (x : Int32) (v : Int64) : stL σ (b + 4) x v = if ix x (ln G 8) = true then some (e6 b σ (sal G 8 (up (al G 8) x.toNatClampNeg v))) else none := by have q := y6_s8 (b := b) σ G x v; rw [show e6 b σ G = σ from h] at q; exact q
theorem z6_n8 {b : Nat} {σ : Hs} {G : Gs} (h : A6 b G σ) : aN σ (b + 4) = some (Int32.ofNat (ln G 8)) := by have q := y6_n8 (b := b) σ G; rw [show e6 b σ G = σ from h] at q; exact q
theorem z6_g9 {b : Nat} {σ : Hs} {G : Gs} (h : A6 b G σ) : gN σ b 8 9 = some (b + 5) := by have q := y6_g9 (b := b) σ G; rw [show e6 b σ G = σ from h] at q; exact q
theorem z6_l9 {b : Nat} {σ : Hs} {G : Gs} (h : A6 b G σ) (x : Int32) : ldL σ (b + 5) x = if ix x (ln G 9) = true then some (al G 9 x.toNatClampNeg) else none := by have q := y6_l9 (b := b) σ G x; rw [show e6 b σ G = σ from h] at q; exact q
theorem z6_s9 {b : Nat} {σ : Hs} {G : Gs} (h : A6 b G σ) (x : Int32) (v : Int64) : stL σ (b + 5) x v = if ix x (ln G 9) = true then some (e6 b σ (sal G 9 (up (al G 9) x.toNatClampNeg v))) else none := by have q := y6_s9 (b := b) σ G x v; rw [show e6 b σ G = σ from h] at q; exact q
theorem z6_n9 {b : Nat} {σ : Hs} {G : Gs} (h : A6 b G σ) : aN σ (b + 5) = some (Int32.ofNat (ln G 9)) := by have q := y6_n9 (b := b) σ G; rw [show e6 b σ G = σ from h] at q; exact q
theorem z6_g10 {b : Nat} {σ : Hs} {G : Gs} (h : A6 b G σ) : gN σ b 8 10 = some (b + 6) := by have q := y6_g10 (b := b) σ G; rw [show e6 b σ G = σ from h] at q; exact q
theorem z6_l10 {b : Nat} {σ : Hs} {G : Gs} (h : A6 b G σ) (x : Int32) : ldI 3 σ (b + 6) x = if ix x (ln G 10) = true then some (ai G 10 x.toNatClampNeg) else none := by have q := y6_l10 (b := b) σ G x; rw [show e6 b σ G = σ from h] at q; exact q
theorem z6_s10 {b : Nat} {σ : Hs} {G : Gs} (h : A6 b G σ) (x v : Int32) : stI 3 σ (b + 6) x v = if ix x (ln G 10) = true then some (e6 b σ (sai G 10 (up (ai G 10) x.toNatClampNeg v))) else none := by have q := y6_s10 (b := b) σ G x v; rw [show e6 b σ G = σ from h] at q; exact q
theorem z6_n10 {b : Nat} {σ : Hs} {G : Gs} (h : A6 b G σ) : aN σ (b + 6) = some (Int32.ofNat (ln G 10)) := by have q := y6_n10 (b := b) σ G; rw [show e6 b σ G = σ from h] at q; exact q
theorem z6_g11 {b : Nat} {σ : Hs} {G : Gs} (h : A6 b G σ) : gI σ b 8 11 = some (fi G 11) := by have q := y6_g11 (b := b) σ G; rw [show e6 b σ G = σ from h] at q; exact q
theorem z6_p11 {b : Nat} {σ : Hs} {G : Gs} (h : A6 b G σ) (v : Int32) : pV σ b 8 11 (.int v) = some (e6 b σ (sfi G 11 v)) := by have q := y6_p11 (b := b) σ G v; rw [show e6 b σ G = σ from h] at q; exact q
theorem z6_g12 {b : Nat} {σ : Hs} {G : Gs} (h : A6 b G σ) : gN σ b 8 12 = some (b + 7) := by have q := y6_g12 (b := b) σ G; rw [show e6 b σ G = σ from h] at q; exact q
theorem z6_l12 {b : Nat} {σ : Hs} {G : Gs} (h : A6 b G σ) (x : Int32) : ldL σ (b + 7) x = if ix x (ln G 12) = true then some (al G 12 x.toNatClampNeg) else none := by have q := y6_l12 (b := b) σ G x; rw [show e6 b σ G = σ from h] at q; exact q
theorem z6_s12 {b : Nat} {σ : Hs} {G : Gs} (h : A6 b G σ) (x : Int32) (v : Int64) : stL σ (b + 7) x v = if ix x (ln G 12) = true then some (e6 b σ (sal G 12 (up (al G 12) x.toNatClampNeg v))) else none := by have q := y6_s12 (b := b) σ G x v; rw [show e6 b σ G = σ from h] at q; exact q
theorem z6_n12 {b : Nat} {σ : Hs} {G : Gs} (h : A6 b G σ) : aN σ (b + 7) = some (Int32.ofNat (ln G 12)) := by have q := y6_n12 (b := b) σ G; rw [show e6 b σ G = σ from h] at q; exact q
theorem z6_g13 {b : Nat} {σ : Hs} {G : Gs} (h : A6 b G σ) : gN σ b 8 13 = some (b + 8) := by have q := y6_g13 (b := b) σ G; rw [show e6 b σ G = σ from h] at q; exact q
theorem z6_l13 {b : Nat} {σ : Hs} {G : Gs} (h : A6 b G σ) (x : Int32) : ldI 3 σ (b + 8) x = if ix x (ln G 13) = true then some (ai G 13 x.toNatClampNeg) else none := by have q := y6_l13 (b := b) σ G x; rw [show e6 b σ G = σ from h] at q; exact q
theorem z6_s13 {b : Nat} {σ : Hs} {G : Gs} (h : A6 b G σ) (x v : Int32) : stI 3 σ (b + 8) x v = if ix x (ln G 13) = true then some (e6 b σ (sai G 13 (up (ai G 13) x.toNatClampNeg v))) else none := by have q := y6_s13 (b := b) σ G x v; rw [show e6 b σ G = σ from h] at q; exact q
theorem z6_n13 {b : Nat} {σ : Hs} {G : Gs} (h : A6 b G σ) : aN σ (b + 8) = some (Int32.ofNat (ln G 13)) := by have q := y6_n13 (b := b) σ G; rw [show e6 b σ G = σ from h] at q; exact q
def ks7 (k : Nat) : Nat := List.getD [2, 2, 0, 0, 1, 0, 0, 0, 4, 5] k 2
def as7 : List (Nat × Nat × Nat) := [(1, 1, 8), (2, 0, 9)]
def e7 (b : Nat) (σ : Hs) (G : Gs) : Hs := eX 9 ks7 as7 b σ G
theorem ok7 : okA as7 = true := by decide
theorem y7_C {b : Nat} (σ : Hs) (G : Gs) : isC (e7 b σ G) b 9 = some () := XisC σ G
theorem y7_g0 {b : Nat} (σ : Hs) (G : Gs) : gR (e7 b σ G) b 9 0 = some (fr G 0) := XgR rfl σ G
theorem y7_p0 {b : Nat} (σ : Hs) (G : Gs) (v : Nat) : pV (e7 b σ G) b 9 0 (.ref v) = some (e7 b σ (sfr G 0 (some v))) := XpR rfl σ G v
theorem y7_g1 {b : Nat} (σ : Hs) (G : Gs) : gR (e7 b σ G) b 9 1 = some (fr G 1) := XgR rfl σ G
theorem y7_p1 {b : Nat} (σ : Hs) (G : Gs) (v : Nat) : pV (e7 b σ G) b 9 1 (.ref v) = some (e7 b σ (sfr G 1 (some v))) := XpR rfl σ G v
theorem y7_g2 {b : Nat} (σ : Hs) (G : Gs) : gI (e7 b σ G) b 9 2 = some (fi G 2) := XgI rfl σ G
theorem y7_p2 {b : Nat} (σ : Hs) (G : Gs) (v : Int32) : pV (e7 b σ G) b 9 2 (.int v) = some (e7 b σ (sfi G 2 v)) := Xp rfl σ G v
theorem y7_g3 {b : Nat} (σ : Hs) (G : Gs) : gI (e7 b σ G) b 9 3 = some (fi G 3) := XgI rfl σ G
theorem y7_p3 {b : Nat} (σ : Hs) (G : Gs) (v : Int32) : pV (e7 b σ G) b 9 3 (.int v) = some (e7 b σ (sfi G 3 v)) := Xp rfl σ G v
theorem y7_g4 {b : Nat} (σ : Hs) (G : Gs) : gL (e7 b σ G) b 9 4 = some (fl G 4) := XgL rfl σ G
theorem y7_p4 {b : Nat} (σ : Hs) (G : Gs) (v : Int64) : pV (e7 b σ G) b 9 4 (.long v) = some (e7 b σ (sfl G 4 v)) := XpL rfl σ G v
theorem y7_g5 {b : Nat} (σ : Hs) (G : Gs) : gI (e7 b σ G) b 9 5 = some (fi G 5) := XgI rfl σ G
theorem y7_p5 {b : Nat} (σ : Hs) (G : Gs) (v : Int32) : pV (e7 b σ G) b 9 5 (.int v) = some (e7 b σ (sfi G 5 v)) := Xp rfl σ G v
theorem y7_g6 {b : Nat} (σ : Hs) (G : Gs) : gI (e7 b σ G) b 9 6 = some (fi G 6) := XgI rfl σ G
theorem y7_p6 {b : Nat} (σ : Hs) (G : Gs) (v : Int32) : pV (e7 b σ G) b 9 6 (.int v) = some (e7 b σ (sfi G 6 v)) := Xp rfl σ G v
theorem y7_g7 {b : Nat} (σ : Hs) (G : Gs) : gI (e7 b σ G) b 9 7 = some (fi G 7) := XgI rfl σ G
theorem y7_p7 {b : Nat} (σ : Hs) (G : Gs) (v : Int32) : pV (e7 b σ G) b 9 7 (.int v) = some (e7 b σ (sfi G 7 v)) := Xp rfl σ G v
theorem y7_g8 {b : Nat} (σ : Hs) (G : Gs) : gN (e7 b σ G) b 9 8 = some (b + 1) := XgN (ks := ks7) (n := 1) rfl σ G
theorem y7_l8 {b : Nat} (σ : Hs) (G : Gs) (x : Int32) : ldL (e7 b σ G) (b + 1) x = if ix x (ln G 8) = true then some (al G 8 x.toNatClampNeg) else none := XldL ok7 (by decide : (1, 1, 8) ∈ as7) σ G x
theorem y7_s8 {b : Nat} (σ : Hs) (G : Gs) (x : Int32) (v : Int64) : stL (e7 b σ G) (b + 1) x v = if ix x (ln G 8) = true then some (e7 b σ (sal G 8 (up (al G 8) x.toNatClampNeg v))) else none := XstL ok7 (by decide : (1, 1, 8) ∈ as7) σ G x v
theorem y7_n8 {b : Nat} (σ : Hs) (G : Gs) : aN (e7 b σ G) (b + 1) = some (Int32.ofNat (ln G 8)) := XaN ok7 (by decide : (1, 1, 8) ∈ as7) (by decide) σ G
theorem y7_g9 {b : Nat} (σ : Hs) (G : Gs) : gN (e7 b σ G) b 9 9 = some (b + 2) := XgN (ks := ks7) (n := 2) rfl σ G
theorem y7_l9 {b : Nat} (σ : Hs) (G : Gs) (x : Int32) : ldI 0 (e7 b σ G) (b + 2) x = if ix x (ln G 9) = true then some (ai G 9 x.toNatClampNeg) else none := Xld ok7 (by decide : (2, 0, 9) ∈ as7) (by decide) (by decide) σ G x
theorem y7_s9 {b : Nat} (σ : Hs) (G : Gs) (x v : Int32) : stI 0 (e7 b σ G) (b + 2) x v = if ix x (ln G 9) = true then some (e7 b σ (sai G 9 (up (ai G 9) x.toNatClampNeg v))) else none := Xst ok7 (by decide : (2, 0, 9) ∈ as7) (by decide) (by decide) σ G x v
theorem y7_n9 {b : Nat} (σ : Hs) (G : Gs) : aN (e7 b σ G) (b + 2) = some (Int32.ofNat (ln G 9)) := XaN ok7 (by decide : (2, 0, 9) ∈ as7) (by decide) σ G
def A7 (b : Nat) (G : Gs) (σ : Hs) : Prop := e7 b σ G = σ
theorem d7_iff {b a : Nat} : dX as7 b a ↔ (a = b ∨ a = b + 1 ∨ a = b + 2) := by unfold dX as7; simp
theorem A7_self {b : Nat} (σ : Hs) (G : Gs) : A7 b G (e7 b σ G) := At.self σ G
theorem A7_fr {b : Nat} {G : Gs} {σ σ2 : Hs} (h : A7 b G σ) (hq : ∀ a, (a = b ∨ a = b + 1 ∨ a = b + 2) → σ2.2.1 a = σ.2.1 a) : A7 b G σ2 := At.frame h (fun a ha => hq a (by have := d7_iff.mp ha; omega))
theorem e7_out {b a : Nat} (σ : Hs) (G : Gs) (h : ¬ (a = b ∨ a = b + 1 ∨ a = b + 2)) : (e7 b σ G).2.1 a = σ.2.1 a := eX_out (fun q => h (by have := d7_iff.mp q; omega)) σ G
theorem A7_mk {b : Nat} {σ : Hs} {G : Gs} (h0 : σ.2.1 b = oX 9 ks7 b G) (h1 : σ.2.1 (b + 1) = aX 1 8 G) (h2 : σ.2.1 (b + 2) = aX 0 9 G) : A7 b G σ := At.mk ok7 h0 (fun p hp => by simp only [as7, List.mem_cons, List.not_mem_nil, or_false] at hp; rcases hp with rfl | rfl; exact h1; exact h2)
theorem z7_C {b : Nat} {σ : Hs} {G : Gs} (h : A7 b G σ) : isC σ b 9 = some () := by have q := y7_C (b := b) σ G; rw [show e7 b σ G = σ from h] at q; exact q
theorem z7_g0 {b : Nat} {σ : Hs} {G : Gs} (h : A7 b G σ) : gR σ b 9 0 = some (fr G 0) := by have q := y7_g0 (b := b) σ G; rw [show e7 b σ G = σ from h] at q; exact q
theorem z7_p0 {b : Nat} {σ : Hs} {G : Gs} (h : A7 b G σ) (v : Nat) : pV σ b 9 0 (.ref v) = some (e7 b σ (sfr G 0 (some v))) := by have q := y7_p0 (b := b) σ G v; rw [show e7 b σ G = σ from h] at q; exact q
theorem z7_g1 {b : Nat} {σ : Hs} {G : Gs} (h : A7 b G σ) : gR σ b 9 1 = some (fr G 1) := by have q := y7_g1 (b := b) σ G; rw [show e7 b σ G = σ from h] at q; exact q
theorem z7_p1 {b : Nat} {σ : Hs} {G : Gs} (h : A7 b G σ) (v : Nat) : pV σ b 9 1 (.ref v) = some (e7 b σ (sfr G 1 (some v))) := by have q := y7_p1 (b := b) σ G v; rw [show e7 b σ G = σ from h] at q; exact q
theorem z7_g2 {b : Nat} {σ : Hs} {G : Gs} (h : A7 b G σ) : gI σ b 9 2 = some (fi G 2) := by have q := y7_g2 (b := b) σ G; rw [show e7 b σ G = σ from h] at q; exact q
theorem z7_p2 {b : Nat} {σ : Hs} {G : Gs} (h : A7 b G σ) (v : Int32) : pV σ b 9 2 (.int v) = some (e7 b σ (sfi G 2 v)) := by have q := y7_p2 (b := b) σ G v; rw [show e7 b σ G = σ from h] at q; exact q
theorem z7_g3 {b : Nat} {σ : Hs} {G : Gs} (h : A7 b G σ) : gI σ b 9 3 = some (fi G 3) := by have q := y7_g3 (b := b) σ G; rw [show e7 b σ G = σ from h] at q; exact q
theorem z7_p3 {b : Nat} {σ : Hs} {G : Gs} (h : A7 b G σ) (v : Int32) : pV σ b 9 3 (.int v) = some (e7 b σ (sfi G 3 v)) := by have q := y7_p3 (b := b) σ G v; rw [show e7 b σ G = σ from h] at q; exact q
theorem z7_g4 {b : Nat} {σ : Hs} {G : Gs} (h : A7 b G σ) : gL σ b 9 4 = some (fl G 4) := by have q := y7_g4 (b := b) σ G; rw [show e7 b σ G = σ from h] at q; exact q
theorem z7_p4 {b : Nat} {σ : Hs} {G : Gs} (h : A7 b G σ) (v : Int64) : pV σ b 9 4 (.long v) = some (e7 b σ (sfl G 4 v)) := by have q := y7_p4 (b := b) σ G v; rw [show e7 b σ G = σ from h] at q; exact q
theorem z7_g5 {b : Nat} {σ : Hs} {G : Gs} (h : A7 b G σ) : gI σ b 9 5 = some (fi G 5) := by have q := y7_g5 (b := b) σ G; rw [show e7 b σ G = σ from h] at q; exact q
theorem z7_p5 {b : Nat} {σ : Hs} {G : Gs} (h : A7 b G σ) (v : Int32) : pV σ b 9 5 (.int v) = some (e7 b σ (sfi G 5 v)) := by have q := y7_p5 (b := b) σ G v; rw [show e7 b σ G = σ from h] at q; exact q
theorem z7_g6 {b : Nat} {σ : Hs} {G : Gs} (h : A7 b G σ) : gI σ b 9 6 = some (fi G 6) := by have q := y7_g6 (b := b) σ G; rw [show e7 b σ G = σ from h] at q; exact q
theorem z7_p6 {b : Nat} {σ : Hs} {G : Gs} (h : A7 b G σ) (v : Int32) : pV σ b 9 6 (.int v) = some (e7 b σ (sfi G 6 v)) := by have q := y7_p6 (b := b) σ G v; rw [show e7 b σ G = σ from h] at q; exact q
theorem z7_g7 {b : Nat} {σ : Hs} {G : Gs} (h : A7 b G σ) : gI σ b 9 7 = some (fi G 7) := by have q := y7_g7 (b := b) σ G; rw [show e7 b σ G = σ from h] at q; exact q
theorem z7_p7 {b : Nat} {σ : Hs} {G : Gs} (h : A7 b G σ) (v : Int32) : pV σ b 9 7 (.int v) = some (e7 b σ (sfi G 7 v)) := by have q := y7_p7 (b := b) σ G v; rw [show e7 b σ G = σ from h] at q; exact q
theorem z7_g8 {b : Nat} {σ : Hs} {G : Gs} (h : A7 b G σ) : gN σ b 9 8 = some (b + 1) := by have q := y7_g8 (b := b) σ G; rw [show e7 b σ G = σ from h] at q; exact q
theorem z7_l8 {b : Nat} {σ : Hs} {G : Gs} (h : A7 b G σ) (x : Int32) : ldL σ (b + 1) x = if ix x (ln G 8) = true then some (al G 8 x.toNatClampNeg) else none := by have q := y7_l8 (b := b) σ G x; rw [show e7 b σ G = σ from h] at q; exact q
theorem z7_s8 {b : Nat} {σ : Hs} {G : Gs} (h : A7 b G σ) (x : Int32) (v : Int64) : stL σ (b + 1) x v = if ix x (ln G 8) = true then some (e7 b σ (sal G 8 (up (al G 8) x.toNatClampNeg v))) else none := by have q := y7_s8 (b := b) σ G x v; rw [show e7 b σ G = σ from h] at q; exact q
theorem z7_n8 {b : Nat} {σ : Hs} {G : Gs} (h : A7 b G σ) : aN σ (b + 1) = some (Int32.ofNat (ln G 8)) := by have q := y7_n8 (b := b) σ G; rw [show e7 b σ G = σ from h] at q; exact q
theorem z7_g9 {b : Nat} {σ : Hs} {G : Gs} (h : A7 b G σ) : gN σ b 9 9 = some (b + 2) := by have q := y7_g9 (b := b) σ G; rw [show e7 b σ G = σ from h] at q; exact q
theorem z7_l9 {b : Nat} {σ : Hs} {G : Gs} (h : A7 b G σ) (x : Int32) : ldI 0 σ (b + 2) x = if ix x (ln G 9) = true then some (ai G 9 x.toNatClampNeg) else none := by have q := y7_l9 (b := b) σ G x; rw [show e7 b σ G = σ from h] at q; exact q
theorem z7_s9 {b : Nat} {σ : Hs} {G : Gs} (h : A7 b G σ) (x v : Int32) : stI 0 σ (b + 2) x v = if ix x (ln G 9) = true then some (e7 b σ (sai G 9 (up (ai G 9) x.toNatClampNeg v))) else none := by have q := y7_s9 (b := b) σ G x v; rw [show e7 b σ G = σ from h] at q; exact q
theorem z7_n9 {b : Nat} {σ : Hs} {G : Gs} (h : A7 b G σ) : aN σ (b + 2) = some (Int32.ofNat (ln G 9)) := by have q := y7_n9 (b := b) σ G; rw [show e7 b σ G = σ from h] at q; exact q
def ks8 (k : Nat) : Nat := List.getD [0, 0, 1] k 1
def as8 : List (Nat × Nat × Nat) := []
def e8 (b : Nat) (σ : Hs) (G : Gs) : Hs := eX 10 ks8 as8 b σ G
theorem ok8 : okA as8 = true := by decide
theorem y8_C {b : Nat} (σ : Hs) (G : Gs) : isC (e8 b σ G) b 10 = some () := XisC σ G
theorem y8_g0 {b : Nat} (σ : Hs) (G : Gs) : gI (e8 b σ G) b 10 0 = some (fi G 0) := XgI rfl σ G
theorem y8_p0 {b : Nat} (σ : Hs) (G : Gs) (v : Int32) : pV (e8 b σ G) b 10 0 (.int v) = some (e8 b σ (sfi G 0 v)) := Xp rfl σ G v
theorem y8_g1 {b : Nat} (σ : Hs) (G : Gs) : gI (e8 b σ G) b 10 1 = some (fi G 1) := XgI rfl σ G
theorem y8_p1 {b : Nat} (σ : Hs) (G : Gs) (v : Int32) : pV (e8 b σ G) b 10 1 (.int v) = some (e8 b σ (sfi G 1 v)) := Xp rfl σ G v
theorem y8_g2 {b : Nat} (σ : Hs) (G : Gs) : gL (e8 b σ G) b 10 2 = some (fl G 2) := XgL rfl σ G
theorem y8_p2 {b : Nat} (σ : Hs) (G : Gs) (v : Int64) : pV (e8 b σ G) b 10 2 (.long v) = some (e8 b σ (sfl G 2 v)) := XpL rfl σ G v
def A8 (b : Nat) (G : Gs) (σ : Hs) : Prop := e8 b σ G = σ
theorem d8_iff {b a : Nat} : dX as8 b a ↔ (a = b) := by unfold dX as8; simp
theorem A8_self {b : Nat} (σ : Hs) (G : Gs) : A8 b G (e8 b σ G) := At.self σ G
theorem A8_fr {b : Nat} {G : Gs} {σ σ2 : Hs} (h : A8 b G σ) (hq : ∀ a, (a = b) → σ2.2.1 a = σ.2.1 a) : A8 b G σ2 := At.frame h (fun a ha => hq a (by have := d8_iff.mp ha; omega))
theorem e8_out {b a : Nat} (σ : Hs) (G : Gs) (h : ¬ (a = b)) : (e8 b σ G).2.1 a = σ.2.1 a := eX_out (fun q => h (by have := d8_iff.mp q; omega)) σ G
theorem A8_mk {b : Nat} {σ : Hs} {G : Gs} (h0 : σ.2.1 b = oX 10 ks8 b G) : A8 b G σ := At.mk ok8 h0 (fun p hp => by simp [as8] at hp)
theorem z8_C {b : Nat} {σ : Hs} {G : Gs} (h : A8 b G σ) : isC σ b 10 = some () := by have q := y8_C (b := b) σ G; rw [show e8 b σ G = σ from h] at q; exact q
theorem z8_g0 {b : Nat} {σ : Hs} {G : Gs} (h : A8 b G σ) : gI σ b 10 0 = some (fi G 0) := by have q := y8_g0 (b := b) σ G; rw [show e8 b σ G = σ from h] at q; exact q
theorem z8_p0 {b : Nat} {σ : Hs} {G : Gs} (h : A8 b G σ) (v : Int32) : pV σ b 10 0 (.int v) = some (e8 b σ (sfi G 0 v)) := by have q := y8_p0 (b := b) σ G v; rw [show e8 b σ G = σ from h] at q; exact q
theorem z8_g1 {b : Nat} {σ : Hs} {G : Gs} (h : A8 b G σ) : gI σ b 10 1 = some (fi G 1) := by have q := y8_g1 (b := b) σ G; rw [show e8 b σ G = σ from h] at q; exact q
theorem z8_p1 {b : Nat} {σ : Hs} {G : Gs} (h : A8 b G σ) (v : Int32) : pV σ b 10 1 (.int v) = some (e8 b σ (sfi G 1 v)) := by have q := y8_p1 (b := b) σ G v; rw [show e8 b σ G = σ from h] at q; exact q
theorem z8_g2 {b : Nat} {σ : Hs} {G : Gs} (h : A8 b G σ) : gL σ b 10 2 = some (fl G 2) := by have q := y8_g2 (b := b) σ G; rw [show e8 b σ G = σ from h] at q; exact q
theorem z8_p2 {b : Nat} {σ : Hs} {G : Gs} (h : A8 b G σ) (v : Int64) : pV σ b 10 2 (.long v) = some (e8 b σ (sfl G 2 v)) := by have q := y8_p2 (b := b) σ G v; rw [show e8 b σ G = σ from h] at q; exact q
def ks9 (k : Nat) : Nat := List.getD [4, 5, 6, 0, 0, 0, 0] k 0
def as9 : List (Nat × Nat × Nat) := [(1, 0, 0), (2, 0, 1), (3, 1, 2)]
def e9 (b : Nat) (σ : Hs) (G : Gs) : Hs := eX 11 ks9 as9 b σ G
theorem ok9 : okA as9 = true := by decide
theorem y9_C {b : Nat} (σ : Hs) (G : Gs) : isC (e9 b σ G) b 11 = some () := XisC σ G
theorem y9_g0 {b : Nat} (σ : Hs) (G : Gs) : gN (e9 b σ G) b 11 0 = some (b + 1) := XgN (ks := ks9) (n := 1) rfl σ G
theorem y9_l0 {b : Nat} (σ : Hs) (G : Gs) (x : Int32) : ldI 0 (e9 b σ G) (b + 1) x = if ix x (ln G 0) = true then some (ai G 0 x.toNatClampNeg) else none := Xld ok9 (by decide : (1, 0, 0) ∈ as9) (by decide) (by decide) σ G x
theorem y9_s0 {b : Nat} (σ : Hs) (G : Gs) (x v : Int32) : stI 0 (e9 b σ G) (b + 1) x v = if ix x (ln G 0) = true then some (e9 b σ (sai G 0 (up (ai G 0) x.toNatClampNeg v))) else none := Xst ok9 (by decide : (1, 0, 0) ∈ as9) (by decide) (by decide) σ G x v
theorem y9_n0 {b : Nat} (σ : Hs) (G : Gs) : aN (e9 b σ G) (b + 1) = some (Int32.ofNat (ln G 0)) := XaN ok9 (by decide : (1, 0, 0) ∈ as9) (by decide) σ G
theorem y9_g1 {b : Nat} (σ : Hs) (G : Gs) : gN (e9 b σ G) b 11 1 = some (b + 2) := XgN (ks := ks9) (n := 2) rfl σ G
theorem y9_l1 {b : Nat} (σ : Hs) (G : Gs) (x : Int32) : ldI 0 (e9 b σ G) (b + 2) x = if ix x (ln G 1) = true then some (ai G 1 x.toNatClampNeg) else none := Xld ok9 (by decide : (2, 0, 1) ∈ as9) (by decide) (by decide) σ G x
theorem y9_s1 {b : Nat} (σ : Hs) (G : Gs) (x v : Int32) : stI 0 (e9 b σ G) (b + 2) x v = if ix x (ln G 1) = true then some (e9 b σ (sai G 1 (up (ai G 1) x.toNatClampNeg v))) else none := Xst ok9 (by decide : (2, 0, 1) ∈ as9) (by decide) (by decide) σ G x v
theorem y9_n1 {b : Nat} (σ : Hs) (G : Gs) : aN (e9 b σ G) (b + 2) = some (Int32.ofNat (ln G 1)) := XaN ok9 (by decide : (2, 0, 1) ∈ as9) (by decide) σ G
theorem y9_g2 {b : Nat} (σ : Hs) (G : Gs) : gN (e9 b σ G) b 11 2 = some (b + 3) := XgN (ks := ks9) (n := 3) rfl σ G
theorem y9_l2 {b : Nat} (σ : Hs) (G : Gs) (x : Int32) : ldL (e9 b σ G) (b + 3) x = if ix x (ln G 2) = true then some (al G 2 x.toNatClampNeg) else none := XldL ok9 (by decide : (3, 1, 2) ∈ as9) σ G x
theorem y9_s2 {b : Nat} (σ : Hs) (G : Gs) (x : Int32) (v : Int64) : stL (e9 b σ G) (b + 3) x v = if ix x (ln G 2) = true then some (e9 b σ (sal G 2 (up (al G 2) x.toNatClampNeg v))) else none := XstL ok9 (by decide : (3, 1, 2) ∈ as9) σ G x v
theorem y9_n2 {b : Nat} (σ : Hs) (G : Gs) : aN (e9 b σ G) (b + 3) = some (Int32.ofNat (ln G 2)) := XaN ok9 (by decide : (3, 1, 2) ∈ as9) (by decide) σ G
theorem y9_g3 {b : Nat} (σ : Hs) (G : Gs) : gI (e9 b σ G) b 11 3 = some (fi G 3) := XgI rfl σ G
theorem y9_p3 {b : Nat} (σ : Hs) (G : Gs) (v : Int32) : pV (e9 b σ G) b 11 3 (.int v) = some (e9 b σ (sfi G 3 v)) := Xp rfl σ G v
theorem y9_g4 {b : Nat} (σ : Hs) (G : Gs) : gI (e9 b σ G) b 11 4 = some (fi G 4) := XgI rfl σ G
theorem y9_p4 {b : Nat} (σ : Hs) (G : Gs) (v : Int32) : pV (e9 b σ G) b 11 4 (.int v) = some (e9 b σ (sfi G 4 v)) := Xp rfl σ G v
theorem y9_g5 {b : Nat} (σ : Hs) (G : Gs) : gI (e9 b σ G) b 11 5 = some (fi G 5) := XgI rfl σ G
theorem y9_p5 {b : Nat} (σ : Hs) (G : Gs) (v : Int32) : pV (e9 b σ G) b 11 5 (.int v) = some (e9 b σ (sfi G 5 v)) := Xp rfl σ G v
theorem y9_g6 {b : Nat} (σ : Hs) (G : Gs) : gI (e9 b σ G) b 11 6 = some (fi G 6) := XgI rfl σ G
theorem y9_p6 {b : Nat} (σ : Hs) (G : Gs) (v : Int32) : pV (e9 b σ G) b 11 6 (.int v) = some (e9 b σ (sfi G 6 v)) := Xp rfl σ G v
def A9 (b : Nat) (G : Gs) (σ : Hs) : Prop := e9 b σ G = σ
theorem d9_iff {b a : Nat} : dX as9 b a ↔ (a = b ∨ a = b + 1 ∨ a = b + 2 ∨ a = b + 3) := by unfold dX as9; simp
theorem A9_self {b : Nat} (σ : Hs) (G : Gs) : A9 b G (e9 b σ G) := At.self σ G
theorem A9_fr {b : Nat} {G : Gs} {σ σ2 : Hs} (h : A9 b G σ) (hq : ∀ a, (a = b ∨ a = b + 1 ∨ a = b + 2 ∨ a = b + 3) → σ2.2.1 a = σ.2.1 a) : A9 b G σ2 := At.frame h (fun a ha => hq a (by have := d9_iff.mp ha; omega))
theorem e9_out {b a : Nat} (σ : Hs) (G : Gs) (h : ¬ (a = b ∨ a = b + 1 ∨ a = b + 2 ∨ a = b + 3)) : (e9 b σ G).2.1 a = σ.2.1 a := eX_out (fun q => h (by have := d9_iff.mp q; omega)) σ G
theorem A9_mk {b : Nat} {σ : Hs} {G : Gs} (h0 : σ.2.1 b = oX 11 ks9 b G) (h1 : σ.2.1 (b + 1) = aX 0 0 G) (h2 : σ.2.1 (b + 2) = aX 0 1 G) (h3 : σ.2.1 (b + 3) = aX 1 2 G) : A9 b G σ := At.mk ok9 h0 (fun p hp => by simp only [as9, List.mem_cons, List.not_mem_nil, or_false] at hp; rcases hp with rfl | rfl | rfl; exact h1; exact h2; exact h3)
theorem z9_C {b : Nat} {σ : Hs} {G : Gs} (h : A9 b G σ) : isC σ b 11 = some () := by have q := y9_C (b := b) σ G; rw [show e9 b σ G = σ from h] at q; exact q
theorem z9_g0 {b : Nat} {σ : Hs} {G : Gs} (h : A9 b G σ) : gN σ b 11 0 = some (b + 1) := by have q := y9_g0 (b := b) σ G; rw [show e9 b σ G = σ from h] at q; exact q
theorem z9_l0 {b : Nat} {σ : Hs} {G : Gs} (h : A9 b G σ) (x : Int32) : ldI 0 σ (b + 1) x = if ix x (ln G 0) = true then some (ai G 0 x.toNatClampNeg) else none := by have q := y9_l0 (b := b) σ G x; rw [show e9 b σ G = σ from h] at q; exact q
theorem z9_s0 {b : Nat} {σ : Hs} {G : Gs} (h : A9 b G σ) (x v : Int32) : stI 0 σ (b + 1) x v = if ix x (ln G 0) = true then some (e9 b σ (sai G 0 (up (ai G 0) x.toNatClampNeg v))) else none := by have q := y9_s0 (b := b) σ G x v; rw [show e9 b σ G = σ from h] at q; exact q
theorem z9_n0 {b : Nat} {σ : Hs} {G : Gs} (h : A9 b G σ) : aN σ (b + 1) = some (Int32.ofNat (ln G 0)) := by have q := y9_n0 (b := b) σ G; rw [show e9 b σ G = σ from h] at q; exact q
theorem z9_g1 {b : Nat} {σ : Hs} {G : Gs} (h : A9 b G σ) : gN σ b 11 1 = some (b + 2) := by have q := y9_g1 (b := b) σ G; rw [show e9 b σ G = σ from h] at q; exact q
theorem z9_l1 {b : Nat} {σ : Hs} {G : Gs} (h : A9 b G σ) (x : Int32) : ldI 0 σ (b + 2) x = if ix x (ln G 1) = true then some (ai G 1 x.toNatClampNeg) else none := by have q := y9_l1 (b := b) σ G x; rw [show e9 b σ G = σ from h] at q; exact q
theorem z9_s1 {b : Nat} {σ : Hs} {G : Gs} (h : A9 b G σ) (x v : Int32) : stI 0 σ (b + 2) x v = if ix x (ln G 1) = true then some (e9 b σ (sai G 1 (up (ai G 1) x.toNatClampNeg v))) else none := by have q := y9_s1 (b := b) σ G x v; rw [show e9 b σ G = σ from h] at q; exact q
theorem z9_n1 {b : Nat} {σ : Hs} {G : Gs} (h : A9 b G σ) : aN σ (b + 2) = some (Int32.ofNat (ln G 1)) := by have q := y9_n1 (b := b) σ G; rw [show e9 b σ G = σ from h] at q; exact q
theorem z9_g2 {b : Nat} {σ : Hs} {G : Gs} (h : A9 b G σ) : gN σ b 11 2 = some (b + 3) := by have q := y9_g2 (b := b) σ G; rw [show e9 b σ G = σ from h] at q; exact q
theorem z9_l2 {b : Nat} {σ : Hs} {G : Gs} (h : A9 b G σ) (x : Int32) : ldL σ (b + 3) x = if ix x (ln G 2) = true then some (al G 2 x.toNatClampNeg) else none := by have q := y9_l2 (b := b) σ G x; rw [show e9 b σ G = σ from h] at q; exact q
theorem z9_s2 {b : Nat} {σ : Hs} {G : Gs} (h : A9 b G σ) (x : Int32) (v : Int64) : stL σ (b + 3) x v = if ix x (ln G 2) = true then some (e9 b σ (sal G 2 (up (al G 2) x.toNatClampNeg v))) else none := by have q := y9_s2 (b := b) σ G x v; rw [show e9 b σ G = σ from h] at q; exact q
theorem z9_n2 {b : Nat} {σ : Hs} {G : Gs} (h : A9 b G σ) : aN σ (b + 3) = some (Int32.ofNat (ln G 2)) := by have q := y9_n2 (b := b) σ G; rw [show e9 b σ G = σ from h] at q; exact q
theorem z9_g3 {b : Nat} {σ : Hs} {G : Gs} (h : A9 b G σ) : gI σ b 11 3 = some (fi G 3) := by have q := y9_g3 (b := b) σ G; rw [show e9 b σ G = σ from h] at q; exact q
theorem z9_p3 {b : Nat} {σ : Hs} {G : Gs} (h : A9 b G σ) (v : Int32) : pV σ b 11 3 (.int v) = some (e9 b σ (sfi G 3 v)) := by have q := y9_p3 (b := b) σ G v; rw [show e9 b σ G = σ from h] at q; exact q
theorem z9_g4 {b : Nat} {σ : Hs} {G : Gs} (h : A9 b G σ) : gI σ b 11 4 = some (fi G 4) := by have q := y9_g4 (b := b) σ G; rw [show e9 b σ G = σ from h] at q; exact q
theorem z9_p4 {b : Nat} {σ : Hs} {G : Gs} (h : A9 b G σ) (v : Int32) : pV σ b 11 4 (.int v) = some (e9 b σ (sfi G 4 v)) := by have q := y9_p4 (b := b) σ G v; rw [show e9 b σ G = σ from h] at q; exact q
theorem z9_g5 {b : Nat} {σ : Hs} {G : Gs} (h : A9 b G σ) : gI σ b 11 5 = some (fi G 5) := by have q := y9_g5 (b := b) σ G; rw [show e9 b σ G = σ from h] at q; exact q
theorem z9_p5 {b : Nat} {σ : Hs} {G : Gs} (h : A9 b G σ) (v : Int32) : pV σ b 11 5 (.int v) = some (e9 b σ (sfi G 5 v)) := by have q := y9_p5 (b := b) σ G v; rw [show e9 b σ G = σ from h] at q; exact q
theorem z9_g6 {b : Nat} {σ : Hs} {G : Gs} (h : A9 b G σ) : gI σ b 11 6 = some (fi G 6) := by have q := y9_g6 (b := b) σ G; rw [show e9 b σ G = σ from h] at q; exact q
theorem z9_p6 {b : Nat} {σ : Hs} {G : Gs} (h : A9 b G σ) (v : Int32) : pV σ b 11 6 (.int v) = some (e9 b σ (sfi G 6 v)) := by have q := y9_p6 (b := b) σ G v; rw [show e9 b σ G = σ from h] at q; exact q
def ks10 (k : Nat) : Nat := List.getD [0, 4] k 2
def as10 : List (Nat × Nat × Nat) := [(1, 1, 1)]
def e10 (b : Nat) (σ : Hs) (G : Gs) : Hs := eX 12 ks10 as10 b σ G
theorem ok10 : okA as10 = true := by decide
theorem y10_C {b : Nat} (σ : Hs) (G : Gs) : isC (e10 b σ G) b 12 = some () := XisC σ G
theorem y10_g0 {b : Nat} (σ : Hs) (G : Gs) : gI (e10 b σ G) b 12 0 = some (fi G 0) := XgI rfl σ G
theorem y10_p0 {b : Nat} (σ : Hs) (G : Gs) (v : Int32) : pV (e10 b σ G) b 12 0 (.int v) = some (e10 b σ (sfi G 0 v)) := Xp rfl σ G v
theorem y10_g1 {b : Nat} (σ : Hs) (G : Gs) : gN (e10 b σ G) b 12 1 = some (b + 1) := XgN (ks := ks10) (n := 1) rfl σ G
theorem y10_l1 {b : Nat} (σ : Hs) (G : Gs) (x : Int32) : ldL (e10 b σ G) (b + 1) x = if ix x (ln G 1) = true then some (al G 1 x.toNatClampNeg) else none := XldL ok10 (by decide : (1, 1, 1) ∈ as10) σ G x
theorem y10_s1 {b : Nat} (σ : Hs) (G : Gs) (x : Int32) (v : Int64) : stL (e10 b σ G) (b + 1) x v = if ix x (ln G 1) = true then some (e10 b σ (sal G 1 (up (al G 1) x.toNatClampNeg v))) else none := XstL ok10 (by decide : (1, 1, 1) ∈ as10) σ G x v
theorem y10_n1 {b : Nat} (σ : Hs) (G : Gs) : aN (e10 b σ G) (b + 1) = some (Int32.ofNat (ln G 1)) := XaN ok10 (by decide : (1, 1, 1) ∈ as10) (by decide) σ G
def A10 (b : Nat) (G : Gs) (σ : Hs) : Prop := e10 b σ G = σ
theorem d10_iff {b a : Nat} : dX as10 b a ↔ (a = b ∨ a = b + 1) := by unfold dX as10; simp
theorem A10_self {b : Nat} (σ : Hs) (G : Gs) : A10 b G (e10 b σ G) := At.self σ G
theorem A10_fr {b : Nat} {G : Gs} {σ σ2 : Hs} (h : A10 b G σ) (hq : ∀ a, (a = b ∨ a = b + 1) → σ2.2.1 a = σ.2.1 a) : A10 b G σ2 := At.frame h (fun a ha => hq a (by have := d10_iff.mp ha; omega))
theorem e10_out {b a : Nat} (σ : Hs) (G : Gs) (h : ¬ (a = b ∨ a = b + 1)) : (e10 b σ G).2.1 a = σ.2.1 a := eX_out (fun q => h (by have := d10_iff.mp q; omega)) σ G
theorem A10_mk {b : Nat} {σ : Hs} {G : Gs} (h0 : σ.2.1 b = oX 12 ks10 b G) (h1 : σ.2.1 (b + 1) = aX 1 1 G) : A10 b G σ := At.mk ok10 h0 (fun p hp => by simp only [as10, List.mem_cons, List.not_mem_nil, or_false] at hp; subst hp; exact h1)
theorem z10_C {b : Nat} {σ : Hs} {G : Gs} (h : A10 b G σ) : isC σ b 12 = some () := by have q := y10_C (b := b) σ G; rw [show e10 b σ G = σ from h] at q; exact q
theorem z10_g0 {b : Nat} {σ : Hs} {G : Gs} (h : A10 b G σ) : gI σ b 12 0 = some (fi G 0) := by have q := y10_g0 (b := b) σ G; rw [show e10 b σ G = σ from h] at q; exact q
theorem z10_p0 {b : Nat} {σ : Hs} {G : Gs} (h : A10 b G σ) (v : Int32) : pV σ b 12 0 (.int v) = some (e10 b σ (sfi G 0 v)) := by have q := y10_p0 (b := b) σ G v; rw [show e10 b σ G = σ from h] at q; exact q
theorem z10_g1 {b : Nat} {σ : Hs} {G : Gs} (h : A10 b G σ) : gN σ b 12 1 = some (b + 1) := by have q := y10_g1 (b := b) σ G; rw [show e10 b σ G = σ from h] at q; exact q
theorem z10_l1 {b : Nat} {σ : Hs} {G : Gs} (h : A10 b G σ) (x : Int32) : ldL σ (b + 1) x = if ix x (ln G 1) = true then some (al G 1 x.toNatClampNeg) else none := by have q := y10_l1 (b := b) σ G x; rw [show e10 b σ G = σ from h] at q; exact q
theorem z10_s1 {b : Nat} {σ : Hs} {G : Gs} (h : A10 b G σ) (x : Int32) (v : Int64) : stL σ (b + 1) x v = if ix x (ln G 1) = true then some (e10 b σ (sal G 1 (up (al G 1) x.toNatClampNeg v))) else none := by have q := y10_s1 (b := b) σ G x v; rw [show e10 b σ G = σ from h] at q; exact q
theorem z10_n1 {b : Nat} {σ : Hs} {G : Gs} (h : A10 b G σ) : aN σ (b + 1) = some (Int32.ofNat (ln G 1)) := by have q := y10_n1 (b := b) σ G; rw [show e10 b σ G = σ from h] at q; exact q
def ks11 (k : Nat) : Nat := List.getD [0, 4, 5, 0, 0, 0, 6, 10, 0, 11, 12, 13, 14, 2, 15, 2, 0, 18, 0] k 0
def as11 : List (Nat × Nat × Nat) := [(1, 5, 1), (2, 2, 2), (15, 6, 17)]
def e11 (b : Nat) (σ : Hs) (G : Gs) : Hs := eX 13 ks11 as11 b σ G
theorem ok11 : okA as11 = true := by decide
theorem y11_C {b : Nat} (σ : Hs) (G : Gs) : isC (e11 b σ G) b 13 = some () := XisC σ G
theorem y11_g0 {b : Nat} (σ : Hs) (G : Gs) : gI (e11 b σ G) b 13 0 = some (fi G 0) := XgI rfl σ G
theorem y11_p0 {b : Nat} (σ : Hs) (G : Gs) (v : Int32) : pV (e11 b σ G) b 13 0 (.int v) = some (e11 b σ (sfi G 0 v)) := Xp rfl σ G v
theorem y11_g1 {b : Nat} (σ : Hs) (G : Gs) : gN (e11 b σ G) b 13 1 = some (b + 1) := XgN (ks := ks11) (n := 1) rfl σ G
theorem y11_l1 {b : Nat} (σ : Hs) (G : Gs) (x : Int32) : ldR 5 (e11 b σ G) (b + 1) x = if ix x (ln G 1) = true then some (ar G 1 x.toNatClampNeg) else none := XldR ok11 (by decide : (1, 5, 1) ∈ as11) (by decide) σ G x
theorem y11_n1 {b : Nat} (σ : Hs) (G : Gs) : aN (e11 b σ G) (b + 1) = some (Int32.ofNat (ln G 1)) := XaN ok11 (by decide : (1, 5, 1) ∈ as11) (by decide) σ G
theorem y11_g2 {b : Nat} (σ : Hs) (G : Gs) : gN (e11 b σ G) b 13 2 = some (b + 2) := XgN (ks := ks11) (n := 2) rfl σ G
theorem y11_l2 {b : Nat} (σ : Hs) (G : Gs) (x : Int32) : ldI 2 (e11 b σ G) (b + 2) x = if ix x (ln G 2) = true then some (ai G 2 x.toNatClampNeg) else none := Xld ok11 (by decide : (2, 2, 2) ∈ as11) (by decide) (by decide) σ G x
theorem y11_s2 {b : Nat} (σ : Hs) (G : Gs) (x v : Int32) : stI 2 (e11 b σ G) (b + 2) x v = if ix x (ln G 2) = true then some (e11 b σ (sai G 2 (up (ai G 2) x.toNatClampNeg v))) else none := Xst ok11 (by decide : (2, 2, 2) ∈ as11) (by decide) (by decide) σ G x v
theorem y11_n2 {b : Nat} (σ : Hs) (G : Gs) : aN (e11 b σ G) (b + 2) = some (Int32.ofNat (ln G 2)) := XaN ok11 (by decide : (2, 2, 2) ∈ as11) (by decide) σ G
theorem y11_g3 {b : Nat} (σ : Hs) (G : Gs) : gI (e11 b σ G) b 13 3 = some (fi G 3) := XgI rfl σ G
theorem y11_p3 {b : Nat} (σ : Hs) (G : Gs) (v : Int32) : pV (e11 b σ G) b 13 3 (.int v) = some (e11 b σ (sfi G 3 v)) := Xp rfl σ G v
theorem y11_g4 {b : Nat} (σ : Hs) (G : Gs) : gI (e11 b σ G) b 13 4 = some (fi G 4) := XgI rfl σ G
theorem y11_p4 {b : Nat} (σ : Hs) (G : Gs) (v : Int32) : pV (e11 b σ G) b 13 4 (.int v) = some (e11 b σ (sfi G 4 v)) := Xp rfl σ G v
theorem y11_g5 {b : Nat} (σ : Hs) (G : Gs) : gI (e11 b σ G) b 13 5 = some (fi G 5) := XgI rfl σ G
theorem y11_p5 {b : Nat} (σ : Hs) (G : Gs) (v : Int32) : pV (e11 b σ G) b 13 5 (.int v) = some (e11 b σ (sfi G 5 v)) := Xp rfl σ G v
theorem y11_g6 {b : Nat} (σ : Hs) (G : Gs) : gN (e11 b σ G) b 13 6 = some (b + 3) := XgN (ks := ks11) (n := 3) rfl σ G
theorem y11_g7 {b : Nat} (σ : Hs) (G : Gs) : gN (e11 b σ G) b 13 7 = some (b + 7) := XgN (ks := ks11) (n := 7) rfl σ G
theorem y11_g8 {b : Nat} (σ : Hs) (G : Gs) : gI (e11 b σ G) b 13 8 = some (fi G 8) := XgI rfl σ G
theorem y11_p8 {b : Nat} (σ : Hs) (G : Gs) (v : Int32) : pV (e11 b σ G) b 13 8 (.int v) = some (e11 b σ (sfi G 8 v)) := Xp rfl σ G v
theorem y11_g9 {b : Nat} (σ : Hs) (G : Gs) : gN (e11 b σ G) b 13 9 = some (b + 8) := XgN (ks := ks11) (n := 8) rfl σ G
theorem y11_g10 {b : Nat} (σ : Hs) (G : Gs) : gN (e11 b σ G) b 13 10 = some (b + 9) := XgN (ks := ks11) (n := 9) rfl σ G
theorem y11_g11 {b : Nat} (σ : Hs) (G : Gs) : gN (e11 b σ G) b 13 11 = some (b + 10) := XgN (ks := ks11) (n := 10) rfl σ G
theorem y11_g12 {b : Nat} (σ : Hs) (G : Gs) : gN (e11 b σ G) b 13 12 = some (b + 11) := XgN (ks := ks11) (n := 11) rfl σ G
theorem y11_g13 {b : Nat} (σ : Hs) (G : Gs) : gR (e11 b σ G) b 13 13 = some (fr G 13) := XgR rfl σ G
theorem y11_p13 {b : Nat} (σ : Hs) (G : Gs) (v : Nat) : pV (e11 b σ G) b 13 13 (.ref v) = some (e11 b σ (sfr G 13 (some v))) := XpR rfl σ G v
theorem y11_g14 {b : Nat} (σ : Hs) (G : Gs) : gN (e11 b σ G) b 13 14 = some (b + 12) := XgN (ks := ks11) (n := 12) rfl σ G
theorem y11_g15 {b : Nat} (σ : Hs) (G : Gs) : gR (e11 b σ G) b 13 15 = some (fr G 15) := XgR rfl σ G
theorem y11_p15 {b : Nat} (σ : Hs) (G : Gs) (v : Nat) : pV (e11 b σ G) b 13 15 (.ref v) = some (e11 b σ (sfr G 15 (some v))) := XpR rfl σ G v
theorem y11_g16 {b : Nat} (σ : Hs) (G : Gs) : gI (e11 b σ G) b 13 16 = some (fi G 16) := XgI rfl σ G
theorem y11_p16 {b : Nat} (σ : Hs) (G : Gs) (v : Int32) : pV (e11 b σ G) b 13 16 (.int v) = some (e11 b σ (sfi G 16 v)) := Xp rfl σ G v
theorem y11_g17 {b : Nat} (σ : Hs) (G : Gs) : gN (e11 b σ G) b 13 17 = some (b + 15) := XgN (ks := ks11) (n := 15) rfl σ G
theorem y11_l17 {b : Nat} (σ : Hs) (G : Gs) (x : Int32) : ldR 6 (e11 b σ G) (b + 15) x = if ix x (ln G 17) = true then some (ar G 17 x.toNatClampNeg) else none := XldR ok11 (by decide : (15, 6, 17) ∈ as11) (by decide) σ G x
theorem y11_n17 {b : Nat} (σ : Hs) (G : Gs) : aN (e11 b σ G) (b + 15) = some (Int32.ofNat (ln G 17)) := XaN ok11 (by decide : (15, 6, 17) ∈ as11) (by decide) σ G
theorem y11_g18 {b : Nat} (σ : Hs) (G : Gs) : gI (e11 b σ G) b 13 18 = some (fi G 18) := XgI rfl σ G
theorem y11_p18 {b : Nat} (σ : Hs) (G : Gs) (v : Int32) : pZ (e11 b σ G) b 13 18 v = if v = 0 ∨ v = 1 then some (e11 b σ (sfi G 18 v)) else none := XpZ rfl σ G v
def A11 (b : Nat) (G : Gs) (σ : Hs) : Prop := e11 b σ G = σ
theorem d11_iff {b a : Nat} : dX as11 b a ↔ (a = b ∨ a = b + 1 ∨ a = b + 2 ∨ a = b + 15) := by unfold dX as11; simp
theorem A11_self {b : Nat} (σ : Hs) (G : Gs) : A11 b G (e11 b σ G) := At.self σ G
theorem A11_fr {b : Nat} {G : Gs} {σ σ2 : Hs} (h : A11 b G σ) (hq : ∀ a, (a = b ∨ a = b + 1 ∨ a = b + 2 ∨ a = b + 15) → σ2.2.1 a = σ.2.1 a) : A11 b G σ2 := At.frame h (fun a ha => hq a (by have := d11_iff.mp ha; omega))
theorem e11_out {b a : Nat} (σ : Hs) (G : Gs) (h : ¬ (a = b ∨ a = b + 1 ∨ a = b + 2 ∨ a = b + 15)) : (e11 b σ G).2.1 a = σ.2.1 a := eX_out (fun q => h (by have := d11_iff.mp q; omega)) σ G
theorem A11_mk {b : Nat} {σ : Hs} {G : Gs} (h0 : σ.2.1 b = oX 13 ks11 b G) (h1 : σ.2.1 (b + 1) = aX 5 1 G) (h2 : σ.2.1 (b + 2) = aX 2 2 G) (h15 : σ.2.1 (b + 15) = aX 6 17 G) : A11 b G σ := At.mk ok11 h0 (fun p hp => by simp only [as11, List.mem_cons, List.not_mem_nil, or_false] at hp; rcases hp with rfl | rfl | rfl; exact h1; exact h2; exact h15)
theorem z11_C {b : Nat} {σ : Hs} {G : Gs} (h : A11 b G σ) : isC σ b 13 = some () := by have q := y11_C (b := b) σ G; rw [show e11 b σ G = σ from h] at q; exact q
theorem z11_g0 {b : Nat} {σ : Hs} {G : Gs} (h : A11 b G σ) : gI σ b 13 0 = some (fi G 0) := by have q := y11_g0 (b := b) σ G; rw [show e11 b σ G = σ from h] at q; exact q
theorem z11_p0 {b : Nat} {σ : Hs} {G : Gs} (h : A11 b G σ) (v : Int32) : pV σ b 13 0 (.int v) = some (e11 b σ (sfi G 0 v)) := by have q := y11_p0 (b := b) σ G v; rw [show e11 b σ G = σ from h] at q; exact q
theorem z11_g1 {b : Nat} {σ : Hs} {G : Gs} (h : A11 b G σ) : gN σ b 13 1 = some (b + 1) := by have q := y11_g1 (b := b) σ G; rw [show e11 b σ G = σ from h] at q; exact q
theorem z11_l1 {b : Nat} {σ : Hs} {G : Gs} (h : A11 b G σ) (x : Int32) : ldR 5 σ (b + 1) x = if ix x (ln G 1) = true then some (ar G 1 x.toNatClampNeg) else none := by have q := y11_l1 (b := b) σ G x; rw [show e11 b σ G = σ from h] at q; exact q
theorem z11_n1 {b : Nat} {σ : Hs} {G : Gs} (h : A11 b G σ) : aN σ (b + 1) = some (Int32.ofNat (ln G 1)) := by have q := y11_n1 (b := b) σ G; rw [show e11 b σ G = σ from h] at q; exact q
theorem z11_g2 {b : Nat} {σ : Hs} {G : Gs} (h : A11 b G σ) : gN σ b 13 2 = some (b + 2) := by have q := y11_g2 (b := b) σ G; rw [show e11 b σ G = σ from h] at q; exact q
theorem z11_l2 {b : Nat} {σ : Hs} {G : Gs} (h : A11 b G σ) (x : Int32) : ldI 2 σ (b + 2) x = if ix x (ln G 2) = true then some (ai G 2 x.toNatClampNeg) else none := by have q := y11_l2 (b := b) σ G x; rw [show e11 b σ G = σ from h] at q; exact q
theorem z11_s2 {b : Nat} {σ : Hs} {G : Gs} (h : A11 b G σ) (x v : Int32) : stI 2 σ (b + 2) x v = if ix x (ln G 2) = true then some (e11 b σ (sai G 2 (up (ai G 2) x.toNatClampNeg v))) else none := by have q := y11_s2 (b := b) σ G x v; rw [show e11 b σ G = σ from h] at q; exact q
theorem z11_n2 {b : Nat} {σ : Hs} {G : Gs} (h : A11 b G σ) : aN σ (b + 2) = some (Int32.ofNat (ln G 2)) := by have q := y11_n2 (b := b) σ G; rw [show e11 b σ G = σ from h] at q; exact q
theorem z11_g3 {b : Nat} {σ : Hs} {G : Gs} (h : A11 b G σ) : gI σ b 13 3 = some (fi G 3) := by have q := y11_g3 (b := b) σ G; rw [show e11 b σ G = σ from h] at q; exact q
theorem z11_p3 {b : Nat} {σ : Hs} {G : Gs} (h : A11 b G σ) (v : Int32) : pV σ b 13 3 (.int v) = some (e11 b σ (sfi G 3 v)) := by have q := y11_p3 (b := b) σ G v; rw [show e11 b σ G = σ from h] at q; exact q
theorem z11_g4 {b : Nat} {σ : Hs} {G : Gs} (h : A11 b G σ) : gI σ b 13 4 = some (fi G 4) := by have q := y11_g4 (b := b) σ G; rw [show e11 b σ G = σ from h] at q; exact q
theorem z11_p4 {b : Nat} {σ : Hs} {G : Gs} (h : A11 b G σ) (v : Int32) : pV σ b 13 4 (.int v) = some (e11 b σ (sfi G 4 v)) := by have q := y11_p4 (b := b) σ G v; rw [show e11 b σ G = σ from h] at q; exact q
theorem z11_g5 {b : Nat} {σ : Hs} {G : Gs} (h : A11 b G σ) : gI σ b 13 5 = some (fi G 5) := by have q := y11_g5 (b := b) σ G; rw [show e11 b σ G = σ from h] at q; exact q
theorem z11_p5 {b : Nat} {σ : Hs} {G : Gs} (h : A11 b G σ) (v : Int32) : pV σ b 13 5 (.int v) = some (e11 b σ (sfi G 5 v)) := by have q := y11_p5 (b := b) σ G v; rw [show e11 b σ G = σ from h] at q; exact q
theorem z11_g6 {b : Nat} {σ : Hs} {G : Gs} (h : A11 b G σ) : gN σ b 13 6 = some (b + 3) := by have q := y11_g6 (b := b) σ G; rw [show e11 b σ G = σ from h] at q; exact q
theorem z11_g7 {b : Nat} {σ : Hs} {G : Gs} (h : A11 b G σ) : gN σ b 13 7 = some (b + 7) := by have q := y11_g7 (b := b) σ G; rw [show e11 b σ G = σ from h] at q; exact q
theorem z11_g8 {b : Nat} {σ : Hs} {G : Gs} (h : A11 b G σ) : gI σ b 13 8 = some (fi G 8) := by have q := y11_g8 (b := b) σ G; rw [show e11 b σ G = σ from h] at q; exact q
theorem z11_p8 {b : Nat} {σ : Hs} {G : Gs} (h : A11 b G σ) (v : Int32) : pV σ b 13 8 (.int v) = some (e11 b σ (sfi G 8 v)) := by have q := y11_p8 (b := b) σ G v; rw [show e11 b σ G = σ from h] at q; exact q
theorem z11_g9 {b : Nat} {σ : Hs} {G : Gs} (h : A11 b G σ) : gN σ b 13 9 = some (b + 8) := by have q := y11_g9 (b := b) σ G; rw [show e11 b σ G = σ from h] at q; exact q
theorem z11_g10 {b : Nat} {σ : Hs} {G : Gs} (h : A11 b G σ) : gN σ b 13 10 = some (b + 9) := by have q := y11_g10 (b := b) σ G; rw [show e11 b σ G = σ from h] at q; exact q
theorem z11_g11 {b : Nat} {σ : Hs} {G : Gs} (h : A11 b G σ) : gN σ b 13 11 = some (b + 10) := by have q := y11_g11 (b := b) σ G; rw [show e11 b σ G = σ from h] at q; exact q
theorem z11_g12 {b : Nat} {σ : Hs} {G : Gs} (h : A11 b G σ) : gN σ b 13 12 = some (b + 11) := by have q := y11_g12 (b := b) σ G; rw [show e11 b σ G = σ from h] at q; exact q
theorem z11_g13 {b : Nat} {σ : Hs} {G : Gs} (h : A11 b G σ) : gR σ b 13 13 = some (fr G 13) := by have q := y11_g13 (b := b) σ G; rw [show e11 b σ G = σ from h] at q; exact q
theorem z11_p13 {b : Nat} {σ : Hs} {G : Gs} (h : A11 b G σ) (v : Nat) : pV σ b 13 13 (.ref v) = some (e11 b σ (sfr G 13 (some v))) := by have q := y11_p13 (b := b) σ G v; rw [show e11 b σ G = σ from h] at q; exact q
theorem z11_g14 {b : Nat} {σ : Hs} {G : Gs} (h : A11 b G σ) : gN σ b 13 14 = some (b + 12) := by have q := y11_g14 (b := b) σ G; rw [show e11 b σ G = σ from h] at q; exact q
theorem z11_g15 {b : Nat} {σ : Hs} {G : Gs} (h : A11 b G σ) : gR σ b 13 15 = some (fr G 15) := by have q := y11_g15 (b := b) σ G; rw [show e11 b σ G = σ from h] at q; exact q
theorem z11_p15 {b : Nat} {σ : Hs} {G : Gs} (h : A11 b G σ) (v : Nat) : pV σ b 13 15 (.ref v) = some (e11 b σ (sfr G 15 (some v))) := by have q := y11_p15 (b := b) σ G v; rw [show e11 b σ G = σ from h] at q; exact q
theorem z11_g16 {b : Nat} {σ : Hs} {G : Gs} (h : A11 b G σ) : gI σ b 13 16 = some (fi G 16) := by have q := y11_g16 (b := b) σ G; rw [show e11 b σ G = σ from h] at q; exact q
theorem z11_p16 {b : Nat} {σ : Hs} {G : Gs} (h : A11 b G σ) (v : Int32) : pV σ b 13 16 (.int v) = some (e11 b σ (sfi G 16 v)) := by have q := y11_p16 (b := b) σ G v; rw [show e11 b σ G = σ from h] at q; exact q
theorem z11_g17 {b : Nat} {σ : Hs} {G : Gs} (h : A11 b G σ) : gN σ b 13 17 = some (b + 15) := by have q := y11_g17 (b := b) σ G; rw [show e11 b σ G = σ from h] at q; exact q
theorem z11_l17 {b : Nat} {σ : Hs} {G : Gs} (h : A11 b G σ) (x : Int32) : ldR 6 σ (b + 15) x = if ix x (ln G 17) = true then some (ar G 17 x.toNatClampNeg) else none := by have q := y11_l17 (b := b) σ G x; rw [show e11 b σ G = σ from h] at q; exact q
theorem z11_n17 {b : Nat} {σ : Hs} {G : Gs} (h : A11 b G σ) : aN σ (b + 15) = some (Int32.ofNat (ln G 17)) := by have q := y11_n17 (b := b) σ G; rw [show e11 b σ G = σ from h] at q; exact q
theorem z11_g18 {b : Nat} {σ : Hs} {G : Gs} (h : A11 b G σ) : gI σ b 13 18 = some (fi G 18) := by have q := y11_g18 (b := b) σ G; rw [show e11 b σ G = σ from h] at q; exact q
theorem z11_p18 {b : Nat} {σ : Hs} {G : Gs} (h : A11 b G σ) (v : Int32) : pZ σ b 13 18 v = if v = 0 ∨ v = 1 then some (e11 b σ (sfi G 18 v)) else none := by have q := y11_p18 (b := b) σ G v; rw [show e11 b σ G = σ from h] at q; exact q
