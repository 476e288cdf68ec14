def ksR : List Nat := [0, 0, 3, 4, 5, 0, 0, 6, 7, 8, 9, 0, 0, 10, 11, 12, 13, 0, 0, 0, 0, 0, 0, 0, 0, 0, 0, 0, 0, 1, 0, 0, 0, 14, 15, 16, 17, 18, 19, 20, 21, 22, 23, 24, 25, 26, 0, 0, 0, 0, 27, 28, 29, 30, 31, 32, 0, 0, 33, 34, 35, 0, 0, 0, 0, 0, 0, 0, 0, 0, 0, 0, 36, 37, 38, 39, 40, 41, 42, 43, 44, 45, 46, 47, 48, 49, 50, 0, 0, 0, 0, 0, 0, 0, 51, 52, 0, 53, 54, 55, 56, 0, 57, 58, 59, 0]
def fdR : List Nat := [2, 3, 4, 7, 8, 9, 10, 13, 14, 15, 16, 33, 34, 35, 36, 37, 38, 39, 40, 41, 42, 43, 44, 45, 50, 51, 52, 53, 54, 55, 58, 59, 60, 72, 73, 74, 75, 76, 77, 78, 79, 80, 81, 82, 83, 84, 85, 86, 94, 95, 97, 98, 99, 100, 102, 103, 104]
def tyR : List Nat := [0, 0, 1, 0, 0, 0, 0, 0, 0, 0, 2, 0, 0, 0, 0, 0, 0, 1, 1, 1, 1, 1, 3, 3, 0, 0, 0, 0, 0, 0, 0, 0, 1, 0, 0, 0, 0, 0, 0, 1, 1, 0, 0, 0, 0, 0, 0, 0, 0, 0, 0, 0, 1, 1, 0, 0, 0]
def lnR : List Nat := [4, 4, 160, 20, 20, 60, 60, 12, 60, 60, 500, 4, 4, 44, 4400, 11, 1100, 40, 10, 600, 11, 10, 600, 10, 8, 60, 60, 60, 60, 60, 60, 60, 60, 40, 40, 40, 40, 40, 40, 40, 40, 12, 12, 20, 20, 4, 4, 4, 60, 60, 60, 60, 2001, 2001, 60, 60, 12]
def oR (m : Nat) (R : Gs) : Ce := .inr (14, fun k => match ksR.getD k 0 with | 0 => .int (fi R k) | 1 => .long (fl R k) | n + 2 => .ref (m + n))
def aR (j : Nat) (R : Gs) : Ce := if tyR.getD j 0 = 1 then .inl (1, lnR.getD j 0, .inr (.inl (al R (fdR.getD j 0)))) else .inl (tyR.getD j 0, lnR.getD j 0, .inl (ai R (fdR.getD j 0)))
def eR (m : Nat) (ρ : Hs) (R : Gs) : Hs := (ρ.1, fun a => if a = m then oR m R else if m < a ∧ a ≤ m + 57 then aR (a - m - 1) R else ρ.2.1 a, ρ.2.2)
theorem eR_o (m : Nat) (ρ : Hs) (R : Gs) : (eR m ρ R).2.1 m = oR m R := if_pos rfl
theorem eR_a (m : Nat) (ρ : Hs) (R : Gs) (j : Nat) (hj : j < 57) : (eR m ρ R).2.1 (m + (j + 1)) = aR j R := by
  show (if m + (j + 1) = m then oR m R else if m < m + (j + 1) ∧ m + (j + 1) ≤ m + 57 then aR (m + (j + 1) - m - 1) R else ρ.2.1 (m + (j + 1))) = _
  rw [if_neg (by omega), if_pos (by omega), show m + (j + 1) - m - 1 = j by omega]
theorem fd_inj2 : ∀ i, i < 57 → ∀ j, j < 57 → fdR.getD i 0 = fdR.getD j 0 → i = j := by decide +kernel
theorem fd_inj (i j : Nat) (hi : i < 57) (hj : j < 57) (h : fdR.getD i 0 = fdR.getD j 0) : i = j := fd_inj2 i hi j hj h
theorem RgI {m k : Nat} (hk : ksR.getD k 0 = 0) (ρ : Hs) (R : Gs) : gI (eR m ρ R) m 14 k = some (fi R k) := by
  unfold gI gV; rw [eR_o]; unfold oR; simp only [if_true, hk, Option.bind_some]; rfl
theorem RgL {m k : Nat} (hk : ksR.getD k 0 = 1) (ρ : Hs) (R : Gs) : gL (eR m ρ R) m 14 k = some (fl R k) := by
  unfold gL gV; rw [eR_o]; unfold oR; simp only [if_true, hk, Option.bind_some]; rfl
theorem RgN {m k n : Nat} (hk : ksR.getD k 0 = n + 2) (ρ : Hs) (R : Gs) : gN (eR m ρ R) m 14 k = some (m + n) := by
  unfold gN gV; rw [eR_o]; unfold oR; simp only [if_true, hk, Option.bind_some]; rfl
theorem RisC (m : Nat) (ρ : Hs) (R : Gs) : isC (eR m ρ R) m 14 = some () := by
  unfold isC; rw [eR_o]; rfl
theorem Rp {m k : Nat} (hk : ksR.getD k 0 = 0) (ρ : Hs) (R : Gs) (v : Int32) : pV (eR m ρ R) m 14 k (.int v) = some (eR m ρ (sfi R k v)) := by
  unfold pV; rw [eR_o]; unfold oR; simp only [if_true]
  refine congrArg some (Prod.ext rfl (Prod.ext (funext fun a => ?_) rfl))
  show va_up (eR m ρ R).2.1 m _ a = (if a = m then oR m (sfi R k v) else if m < a ∧ a ≤ m + 57 then aR (a - m - 1) (sfi R k v) else ρ.2.1 a)
  unfold va_up
  by_cases ha : a = m
  · rw [if_pos ha, if_pos ha]; unfold oR
    refine congrArg Sum.inr (Prod.ext rfl (funext fun j => ?_))
    by_cases hj : j = k
    · subst hj; simp only [if_true, hk]; show Value.int v = Value.int (up R.1 j v j); rw [up_same]
    · simp only [if_neg hj]; show _ = (match ksR.getD j 0 with | 0 => Value.int (up R.1 k v j) | 1 => .long (fl R j) | n + 2 => .ref (m + n)); rw [up_ne _ _ _ _ hj]; rfl
  · rw [if_neg ha, if_neg ha]; show (if a = m then oR m R else if m < a ∧ a ≤ m + 57 then aR (a - m - 1) R else ρ.2.1 a) = _; rw [if_neg ha]; rfl
theorem RpZ {m k : Nat} (hk : ksR.getD k 0 = 0) (ρ : Hs) (R : Gs) (v : Int32) : pZ (eR m ρ R) m 14 k v = if v = 0 ∨ v = 1 then some (eR m ρ (sfi R k v)) else none := by
  unfold pZ; rw [Rp hk]
theorem RpL {m k : Nat} (hk : ksR.getD k 0 = 1) (ρ : Hs) (R : Gs) (v : Int64) : pV (eR m ρ R) m 14 k (.long v) = some (eR m ρ (sfl R k v)) := by
  unfold pV; rw [eR_o]; unfold oR; simp only [if_true]
  refine congrArg some (Prod.ext rfl (Prod.ext (funext fun a => ?_) rfl))
  show va_up (eR m ρ R).2.1 m _ a = (if a = m then oR m (sfl R k v) else if m < a ∧ a ≤ m + 57 then aR (a - m - 1) (sfl R k v) else ρ.2.1 a)
  unfold va_up
  by_cases ha : a = m
  · rw [if_pos ha, if_pos ha]; unfold oR
    refine congrArg Sum.inr (Prod.ext rfl (funext fun j => ?_))
    by_cases hj : j = k
    · subst hj; simp only [if_true, hk]; show Value.long v = Value.long (up R.2.1 j v j); rw [up_same]
    · simp only [if_neg hj]; show _ = (match ksR.getD j 0 with | 0 => Value.int (fi R j) | 1 => .long (up R.2.1 k v j) | n + 2 => .ref (m + n)); rw [up_ne _ _ _ _ hj]; rfl
  · rw [if_neg ha, if_neg ha]; show (if a = m then oR m R else if m < a ∧ a ≤ m + 57 then aR (a - m - 1) R else ρ.2.1 a) = _; rw [if_neg ha]; rfl
theorem Rld {m t n k : Nat} (j : Nat) (hj : j < 57) (ht : tyR.getD j 0 = t) (h1 : t ≠ 1) (hf : fdR.getD j 0 = k) (hn : lnR.getD j 0 = n) (ρ : Hs) (R : Gs) (x : Int32) : ldI t (eR m ρ R) (m + (j + 1)) x = if ix x n = true then some (ai R k x.toNatClampNeg) else none := by
  unfold ldI; rw [eR_a m ρ R j hj]; unfold aR; rw [ht, if_neg h1, hf, hn]; simp only [true_and]
theorem RldL {m n k : Nat} (j : Nat) (hj : j < 57) (ht : tyR.getD j 0 = 1) (hf : fdR.getD j 0 = k) (hn : lnR.getD j 0 = n) (ρ : Hs) (R : Gs) (x : Int32) : ldL (eR m ρ R) (m + (j + 1)) x = if ix x n = true then some (al R k x.toNatClampNeg) else none := by
  unfold ldL; rw [eR_a m ρ R j hj]; unfold aR; rw [ht, if_pos rfl, hf, hn]; simp only [true_and]
theorem Rst {m t n k : Nat} (j : Nat) (hj : j < 57) (ht : tyR.getD j 0 = t) (h1 : t ≠ 1) (hf : fdR.getD j 0 = k) (hn : lnR.getD j 0 = n) (ρ : Hs) (R : Gs) (x v : Int32) : stI t (eR m ρ R) (m + (j + 1)) x v = if ix x n = true then some (eR m ρ (sai R k (up (ai R k) x.toNatClampNeg v))) else none := by
  unfold stI; rw [eR_a m ρ R j hj]; unfold aR; rw [ht, if_neg h1, hf, hn]; simp only [true_and]
  by_cases hx : ix x n = true
  · rw [if_pos hx, if_pos hx]
    refine congrArg some (Prod.ext rfl (Prod.ext (funext fun a => ?_) rfl))
    show va_up (eR m ρ R).2.1 (m + (j + 1)) _ a = (if a = m then oR m R else if m < a ∧ a ≤ m + 57 then aR (a - m - 1) (sai R k (up (ai R k) x.toNatClampNeg v)) else ρ.2.1 a)
    unfold va_up
    by_cases ha : a = m + (j + 1)
    · rw [if_pos ha, if_neg (by omega), if_pos (by omega), show a - m - 1 = j by omega]; unfold aR; rw [ht, if_neg h1, hf, hn]
      show _ = Sum.inl (t, n, Sum.inl (up R.2.2.2.1 k _ k)); rw [up_same]; rfl
    · rw [if_neg ha]; show (if a = m then oR m R else if m < a ∧ a ≤ m + 57 then aR (a - m - 1) R else ρ.2.1 a) = _
      by_cases hb : m < a ∧ a ≤ m + 57
      · rw [if_pos hb, if_pos hb]
        have hne : fdR.getD (a - m - 1) 0 ≠ k := fun e => by
          have := fd_inj (a - m - 1) j (by omega) hj (e.trans hf.symm)
          omega
        have e : aR (a - m - 1) (sai R k (up (ai R k) x.toNatClampNeg v)) = aR (a - m - 1) R := by
          unfold aR
          show (if tyR.getD (a - m - 1) 0 = 1 then _ else Sum.inl (_, _, Sum.inl (up R.2.2.2.1 k _ (fdR.getD (a - m - 1) 0)))) = _
          rw [up_ne _ _ _ _ hne]; rfl
        rw [e]
      · rw [if_neg hb, if_neg hb]
  · rw [if_neg hx, if_neg hx]
theorem RstL {m n k : Nat} (j : Nat) (hj : j < 57) (ht : tyR.getD j 0 = 1) (hf : fdR.getD j 0 = k) (hn : lnR.getD j 0 = n) (ρ : Hs) (R : Gs) (x : Int32) (v : Int64) : stL (eR m ρ R) (m + (j + 1)) x v = if ix x n = true then some (eR m ρ (sal R k (up (al R k) x.toNatClampNeg v))) else none := by
  unfold stL; rw [eR_a m ρ R j hj]; unfold aR; rw [ht, if_pos rfl, hf, hn]; simp only [true_and]
  by_cases hx : ix x n = true
  · rw [if_pos hx, if_pos hx]
    refine congrArg some (Prod.ext rfl (Prod.ext (funext fun a => ?_) rfl))
    show va_up (eR m ρ R).2.1 (m + (j + 1)) _ a = (if a = m then oR m R else if m < a ∧ a ≤ m + 57 then aR (a - m - 1) (sal R k (up (al R k) x.toNatClampNeg v)) else ρ.2.1 a)
    unfold va_up
    by_cases ha : a = m + (j + 1)
    · rw [if_pos ha, if_neg (by omega), if_pos (by omega), show a - m - 1 = j by omega]; unfold aR; rw [ht, if_pos rfl, hf, hn]
      show _ = Sum.inl (1, n, Sum.inr (Sum.inl (up R.2.2.2.2.1 k _ k))); rw [up_same]; rfl
    · rw [if_neg ha]; show (if a = m then oR m R else if m < a ∧ a ≤ m + 57 then aR (a - m - 1) R else ρ.2.1 a) = _
      by_cases hb : m < a ∧ a ≤ m + 57
      · rw [if_pos hb, if_pos hb]
        have hne : fdR.getD (a - m - 1) 0 ≠ k := fun e => by
          have := fd_inj (a - m - 1) j (by omega) hj (e.trans hf.symm)
          omega
        have e : aR (a - m - 1) (sal R k (up (al R k) x.toNatClampNeg v)) = aR (a - m - 1) R := by
          unfold aR
          show (if tyR.getD (a - m - 1) 0 = 1 then Sum.inl (_, _, Sum.inr (Sum.inl (up R.2.2.2.2.1 k _ (fdR.getD (a - m - 1) 0)))) else _) = _
          rw [up_ne _ _ _ _ hne]; rfl
        rw [e]
      · rw [if_neg hb, if_neg hb]
  · rw [if_neg hx, if_neg hx]
theorem eR_eR (m : Nat) (ρ : Hs) (R R' : Gs) : eR m (eR m ρ R) R' = eR m ρ R' := by
  refine Prod.ext rfl (Prod.ext (funext fun a => ?_) rfl)
  show (if a = m then oR m R' else if m < a ∧ a ≤ m + 57 then aR (a - m - 1) R' else (if a = m then oR m R else if m < a ∧ a ≤ m + 57 then aR (a - m - 1) R else ρ.2.1 a)) = (if a = m then oR m R' else if m < a ∧ a ≤ m + 57 then aR (a - m - 1) R' else ρ.2.1 a)
  by_cases h1 : a = m
  · rw [if_pos h1, if_pos h1]
  · rw [if_neg h1, if_neg h1, if_neg h1]
    by_cases h2 : m < a ∧ a ≤ m + 57
    · rw [if_pos h2, if_pos h2]
    · rw [if_neg h2, if_neg h2, if_neg h2]
theorem RG_0 {m : Nat} (ρ : Hs) (R : Gs) : gI (eR m ρ R) m 14 0 = some (fi R 0) := RgI rfl ρ R
theorem RP_0 {m : Nat} (ρ : Hs) (R : Gs) (v : Int32) : pV (eR m ρ R) m 14 0 (.int v) = some (eR m ρ (sfi R 0 v)) := Rp rfl ρ R v
theorem RG_1 {m : Nat} (ρ : Hs) (R : Gs) : gI (eR m ρ R) m 14 1 = some (fi R 1) := RgI rfl ρ R
theorem RP_1 {m : Nat} (ρ : Hs) (R : Gs) (v : Int32) : pV (eR m ρ R) m 14 1 (.int v) = some (eR m ρ (sfi R 1 v)) := Rp rfl ρ R v
theorem RN_2 {m : Nat} (ρ : Hs) (R : Gs) : gN (eR m ρ R) m 14 2 = some (m + 1) := RgN (n := 1) rfl ρ R
theorem Rld_2 {m : Nat} (ρ : Hs) (R : Gs) (x : Int32) : ldI 0 (eR m ρ R) (m + 1) x = if ix x 4 = true then some (ai R 2 x.toNatClampNeg) else none := Rld 0 (by decide) rfl (by decide) rfl rfl ρ R x
theorem Rst_2 {m : Nat} (ρ : Hs) (R : Gs) (x v : Int32) : stI 0 (eR m ρ R) (m + 1) x v = if ix x 4 = true then some (eR m ρ (sai R 2 (up (ai R 2) x.toNatClampNeg v))) else none := Rst 0 (by decide) rfl (by decide) rfl rfl ρ R x v
theorem RN_3 {m : Nat} (ρ : Hs) (R : Gs) : gN (eR m ρ R) m 14 3 = some (m + 2) := RgN (n := 2) rfl ρ R
theorem Rld_3 {m : Nat} (ρ : Hs) (R : Gs) (x : Int32) : ldI 0 (eR m ρ R) (m + 2) x = if ix x 4 = true then some (ai R 3 x.toNatClampNeg) else none := Rld 1 (by decide) rfl (by decide) rfl rfl ρ R x
theorem Rst_3 {m : Nat} (ρ : Hs) (R : Gs) (x v : Int32) : stI 0 (eR m ρ R) (m + 2) x v = if ix x 4 = true then some (eR m ρ (sai R 3 (up (ai R 3) x.toNatClampNeg v))) else none := Rst 1 (by decide) rfl (by decide) rfl rfl ρ R x v
theorem RN_4 {m : Nat} (ρ : Hs) (R : Gs) : gN (eR m ρ R) m 14 4 = some (m + 3) := RgN (n := 3) rfl ρ R
theorem Rld_4 {m : Nat} (ρ : Hs) (R : Gs) (x : Int32) : ldL (eR m ρ R) (m + 3) x = if ix x 160 = true then some (al R 4 x.toNatClampNeg) else none := RldL 2 (by decide) rfl rfl rfl ρ R x
theorem Rst_4 {m : Nat} (ρ : Hs) (R : Gs) (x : Int32) (v : Int64) : stL (eR m ρ R) (m + 3) x v = if ix x 160 = true then some (eR m ρ (sal R 4 (up (al R 4) x.toNatClampNeg v))) else none := RstL 2 (by decide) rfl rfl rfl ρ R x v
theorem RG_5 {m : Nat} (ρ : Hs) (R : Gs) : gI (eR m ρ R) m 14 5 = some (fi R 5) := RgI rfl ρ R
theorem RP_5 {m : Nat} (ρ : Hs) (R : Gs) (v : Int32) : pV (eR m ρ R) m 14 5 (.int v) = some (eR m ρ (sfi R 5 v)) := Rp rfl ρ R v
theorem RG_6 {m : Nat} (ρ : Hs) (R : Gs) : gI (eR m ρ R) m 14 6 = some (fi R 6) := RgI rfl ρ R
theorem RP_6 {m : Nat} (ρ : Hs) (R : Gs) (v : Int32) : pV (eR m ρ R) m 14 6 (.int v) = some (eR m ρ (sfi R 6 v)) := Rp rfl ρ R v
theorem RN_7 {m : Nat} (ρ : Hs) (R : Gs) : gN (eR m ρ R) m 14 7 = some (m + 4) := RgN (n := 4) rfl ρ R
theorem Rld_7 {m : Nat} (ρ : Hs) (R : Gs) (x : Int32) : ldI 0 (eR m ρ R) (m + 4) x = if ix x 20 = true then some (ai R 7 x.toNatClampNeg) else none := Rld 3 (by decide) rfl (by decide) rfl rfl ρ R x
theorem Rst_7 {m : Nat} (ρ : Hs) (R : Gs) (x v : Int32) : stI 0 (eR m ρ R) (m + 4) x v = if ix x 20 = true then some (eR m ρ (sai R 7 (up (ai R 7) x.toNatClampNeg v))) else none := Rst 3 (by decide) rfl (by decide) rfl rfl ρ R x v
theorem RN_8 {m : Nat} (ρ : Hs) (R : Gs) : gN (eR m ρ R) m 14 8 = some (m + 5) := RgN (n := 5) rfl ρ R
theorem Rld_8 {m : Nat} (ρ : Hs) (R : Gs) (x : Int32) : ldI 0 (eR m ρ R) (m + 5) x = if ix x 20 = true then some (ai R 8 x.toNatClampNeg) else none := Rld 4 (by decide) rfl (by decide) rfl rfl ρ R x
theorem Rst_8 {m : Nat} (ρ : Hs) (R : Gs) (x v : Int32) : stI 0 (eR m ρ R) (m + 5) x v = if ix x 20 = true then some (eR m ρ (sai R 8 (up (ai R 8) x.toNatClampNeg v))) else none := Rst 4 (by decide) rfl (by decide) rfl rfl ρ R x v
theorem RN_9 {m : Nat} (ρ : Hs) (R : Gs) : gN (eR m ρ R) m 14 9 = some (m + 6) := RgN (n := 6) rfl ρ R
theorem Rld_9 {m : Nat} (ρ : Hs) (R : Gs) (x : Int32) : ldI 0 (eR m ρ R) (m + 6) x = if ix x 60 = true then some (ai R 9 x.toNatClampNeg) else none := Rld 5 (by decide) rfl (by decide) rfl rfl ρ R x
theorem Rst_9 {m : Nat} (ρ : Hs) (R : Gs) (x v : Int32) : stI 0 (eR m ρ R) (m + 6) x v = if ix x 60 = true then some (eR m ρ (sai R 9 (up (ai R 9) x.toNatClampNeg v))) else none := Rst 5 (by decide) rfl (by decide) rfl rfl ρ R x v
theorem RN_10 {m : Nat} (ρ : Hs) (R : Gs) : gN (eR m ρ R) m 14 10 = some (m + 7) := RgN (n := 7) rfl ρ R
theorem Rld_10 {m : Nat} (ρ : Hs) (R : Gs) (x : Int32) : ldI 0 (eR m ρ R) (m + 7) x = if ix x 60 = true then some (ai R 10 x.toNatClampNeg) else none := Rld 6 (by decide) rfl (by decide) rfl rfl ρ R x
theorem Rst_10 {m : Nat} (ρ : Hs) (R : Gs) (x v : Int32) : stI 0 (eR m ρ R) (m + 7) x v = if ix x 60 = true then some (eR m ρ (sai R 10 (up (ai R 10) x.toNatClampNeg v))) else none := Rst 6 (by decide) rfl (by decide) rfl rfl ρ R x v
theorem RG_11 {m : Nat} (ρ : Hs) (R : Gs) : gI (eR m ρ R) m 14 11 = some (fi R 11) := RgI rfl ρ R
theorem RP_11 {m : Nat} (ρ : Hs) (R : Gs) (v : Int32) : pV (eR m ρ R) m 14 11 (.int v) = some (eR m ρ (sfi R 11 v)) := Rp rfl ρ R v
theorem RG_12 {m : Nat} (ρ : Hs) (R : Gs) : gI (eR m ρ R) m 14 12 = some (fi R 12) := RgI rfl ρ R
theorem RP_12 {m : Nat} (ρ : Hs) (R : Gs) (v : Int32) : pV (eR m ρ R) m 14 12 (.int v) = some (eR m ρ (sfi R 12 v)) := Rp rfl ρ R v
theorem RN_13 {m : Nat} (ρ : Hs) (R : Gs) : gN (eR m ρ R) m 14 13 = some (m + 8) := RgN (n := 8) rfl ρ R
theorem Rld_13 {m : Nat} (ρ : Hs) (R : Gs) (x : Int32) : ldI 0 (eR m ρ R) (m + 8) x = if ix x 12 = true then some (ai R 13 x.toNatClampNeg) else none := Rld 7 (by decide) rfl (by decide) rfl rfl ρ R x
theorem Rst_13 {m : Nat} (ρ : Hs) (R : Gs) (x v : Int32) : stI 0 (eR m ρ R) (m + 8) x v = if ix x 12 = true then some (eR m ρ (sai R 13 (up (ai R 13) x.toNatClampNeg v))) else none := Rst 7 (by decide) rfl (by decide) rfl rfl ρ R x v
theorem RN_14 {m : Nat} (ρ : Hs) (R : Gs) : gN (eR m ρ R) m 14 14 = some (m + 9) := RgN (n := 9) rfl ρ R
theorem Rld_14 {m : Nat} (ρ : Hs) (R : Gs) (x : Int32) : ldI 0 (eR m ρ R) (m + 9) x = if ix x 60 = true then some (ai R 14 x.toNatClampNeg) else none := Rld 8 (by decide) rfl (by decide) rfl rfl ρ R x
theorem Rst_14 {m : Nat} (ρ : Hs) (R : Gs) (x v : Int32) : stI 0 (eR m ρ R) (m + 9) x v = if ix x 60 = true then some (eR m ρ (sai R 14 (up (ai R 14) x.toNatClampNeg v))) else none := Rst 8 (by decide) rfl (by decide) rfl rfl ρ R x v
theorem RN_15 {m : Nat} (ρ : Hs) (R : Gs) : gN (eR m ρ R) m 14 15 = some (m + 10) := RgN (n := 10) rfl ρ R
theorem Rld_15 {m : Nat} (ρ : Hs) (R : Gs) (x : Int32) : ldI 0 (eR m ρ R) (m + 10) x = if ix x 60 = true then some (ai R 15 x.toNatClampNeg) else none := Rld 9 (by decide) rfl (by decide) rfl rfl ρ R x
theorem Rst_15 {m : Nat} (ρ : Hs) (R : Gs) (x v : Int32) : stI 0 (eR m ρ R) (m + 10) x v = if ix x 60 = true then some (eR m ρ (sai R 15 (up (ai R 15) x.toNatClampNeg v))) else none := Rst 9 (by decide) rfl (by decide) rfl rfl ρ R x v
theorem RN_16 {m : Nat} (ρ : Hs) (R : Gs) : gN (eR m ρ R) m 14 16 = some (m + 11) := RgN (n := 11) rfl ρ R
theorem Rld_16 {m : Nat} (ρ : Hs) (R : Gs) (x : Int32) : ldI 2 (eR m ρ R) (m + 11) x = if ix x 500 = true then some (ai R 16 x.toNatClampNeg) else none := Rld 10 (by decide) rfl (by decide) rfl rfl ρ R x
theorem Rst_16 {m : Nat} (ρ : Hs) (R : Gs) (x v : Int32) : stI 2 (eR m ρ R) (m + 11) x v = if ix x 500 = true then some (eR m ρ (sai R 16 (up (ai R 16) x.toNatClampNeg v))) else none := Rst 10 (by decide) rfl (by decide) rfl rfl ρ R x v
theorem RG_17 {m : Nat} (ρ : Hs) (R : Gs) : gI (eR m ρ R) m 14 17 = some (fi R 17) := RgI rfl ρ R
theorem RP_17 {m : Nat} (ρ : Hs) (R : Gs) (v : Int32) : pV (eR m ρ R) m 14 17 (.int v) = some (eR m ρ (sfi R 17 v)) := Rp rfl ρ R v
theorem RG_18 {m : Nat} (ρ : Hs) (R : Gs) : gI (eR m ρ R) m 14 18 = some (fi R 18) := RgI rfl ρ R
theorem RP_18 {m : Nat} (ρ : Hs) (R : Gs) (v : Int32) : pV (eR m ρ R) m 14 18 (.int v) = some (eR m ρ (sfi R 18 v)) := Rp rfl ρ R v
theorem RG_19 {m : Nat} (ρ : Hs) (R : Gs) : gI (eR m ρ R) m 14 19 = some (fi R 19) := RgI rfl ρ R
theorem RP_19 {m : Nat} (ρ : Hs) (R : Gs) (v : Int32) : pV (eR m ρ R) m 14 19 (.int v) = some (eR m ρ (sfi R 19 v)) := Rp rfl ρ R v
theorem RG_20 {m : Nat} (ρ : Hs) (R : Gs) : gI (eR m ρ R) m 14 20 = some (fi R 20) := RgI rfl ρ R
theorem RP_20 {m : Nat} (ρ : Hs) (R : Gs) (v : Int32) : pV (eR m ρ R) m 14 20 (.int v) = some (eR m ρ (sfi R 20 v)) := Rp rfl ρ R v
theorem RG_21 {m : Nat} (ρ : Hs) (R : Gs) : gI (eR m ρ R) m 14 21 = some (fi R 21) := RgI rfl ρ R
theorem RP_21 {m : Nat} (ρ : Hs) (R : Gs) (v : Int32) : pV (eR m ρ R) m 14 21 (.int v) = some (eR m ρ (sfi R 21 v)) := Rp rfl ρ R v
theorem RG_22 {m : Nat} (ρ : Hs) (R : Gs) : gI (eR m ρ R) m 14 22 = some (fi R 22) := RgI rfl ρ R
theorem RP_22 {m : Nat} (ρ : Hs) (R : Gs) (v : Int32) : pV (eR m ρ R) m 14 22 (.int v) = some (eR m ρ (sfi R 22 v)) := Rp rfl ρ R v
theorem RG_23 {m : Nat} (ρ : Hs) (R : Gs) : gI (eR m ρ R) m 14 23 = some (fi R 23) := RgI rfl ρ R
theorem RP_23 {m : Nat} (ρ : Hs) (R : Gs) (v : Int32) : pZ (eR m ρ R) m 14 23 v = if v = 0 ∨ v = 1 then some (eR m ρ (sfi R 23 v)) else none := RpZ rfl ρ R v
theorem RG_24 {m : Nat} (ρ : Hs) (R : Gs) : gI (eR m ρ R) m 14 24 = some (fi R 24) := RgI rfl ρ R
theorem RP_24 {m : Nat} (ρ : Hs) (R : Gs) (v : Int32) : pV (eR m ρ R) m 14 24 (.int v) = some (eR m ρ (sfi R 24 v)) := Rp rfl ρ R v
theorem RG_25 {m : Nat} (ρ : Hs) (R : Gs) : gI (eR m ρ R) m 14 25 = some (fi R 25) := RgI rfl ρ R
theorem RP_25 {m : Nat} (ρ : Hs) (R : Gs) (v : Int32) : pV (eR m ρ R) m 14 25 (.int v) = some (eR m ρ (sfi R 25 v)) := Rp rfl ρ R v
theorem RG_26 {m : Nat} (ρ : Hs) (R : Gs) : gI (eR m ρ R) m 14 26 = some (fi R 26) := RgI rfl ρ R
theorem RP_26 {m : Nat} (ρ : Hs) (R : Gs) (v : Int32) : pV (eR m ρ R) m 14 26 (.int v) = some (eR m ρ (sfi R 26 v)) := Rp rfl ρ R v
theorem RG_27 {m : Nat} (ρ : Hs) (R : Gs) : gI (eR m ρ R) m 14 27 = some (fi R 27) := RgI rfl ρ R
theorem RP_27 {m : Nat} (ρ : Hs) (R : Gs) (v : Int32) : pV (eR m ρ R) m 14 27 (.int v) = some (eR m ρ (sfi R 27 v)) := Rp rfl ρ R v
theorem RG_28 {m : Nat} (ρ : Hs) (R : Gs) : gI (eR m ρ R) m 14 28 = some (fi R 28) := RgI rfl ρ R
theorem RP_28 {m : Nat} (ρ : Hs) (R : Gs) (v : Int32) : pV (eR m ρ R) m 14 28 (.int v) = some (eR m ρ (sfi R 28 v)) := Rp rfl ρ R v
theorem RG_29 {m : Nat} (ρ : Hs) (R : Gs) : gL (eR m ρ R) m 14 29 = some (fl R 29) := RgL rfl ρ R
theorem RP_29 {m : Nat} (ρ : Hs) (R : Gs) (v : Int64) : pV (eR m ρ R) m 14 29 (.long v) = some (eR m ρ (sfl R 29 v)) := RpL rfl ρ R v
theorem RG_30 {m : Nat} (ρ : Hs) (R : Gs) : gI (eR m ρ R) m 14 30 = some (fi R 30) := RgI rfl ρ R
theorem RP_30 {m : Nat} (ρ : Hs) (R : Gs) (v : Int32) : pV (eR m ρ R) m 14 30 (.int v) = some (eR m ρ (sfi R 30 v)) := Rp rfl ρ R v
theorem RG_31 {m : Nat} (ρ : Hs) (R : Gs) : gI (eR m ρ R) m 14 31 = some (fi R 31) := RgI rfl ρ R
theorem RP_31 {m : Nat} (ρ : Hs) (R : Gs) (v : Int32) : pV (eR m ρ R) m 14 31 (.int v) = some (eR m ρ (sfi R 31 v)) := Rp rfl ρ R v
theorem RG_32 {m : Nat} (ρ : Hs) (R : Gs) : gI (eR m ρ R) m 14 32 = some (fi R 32) := RgI rfl ρ R
theorem RP_32 {m : Nat} (ρ : Hs) (R : Gs) (v : Int32) : pV (eR m ρ R) m 14 32 (.int v) = some (eR m ρ (sfi R 32 v)) := Rp rfl ρ R v
theorem RN_33 {m : Nat} (ρ : Hs) (R : Gs) : gN (eR m ρ R) m 14 33 = some (m + 12) := RgN (n := 12) rfl ρ R
theorem Rld_33 {m : Nat} (ρ : Hs) (R : Gs) (x : Int32) : ldI 0 (eR m ρ R) (m + 12) x = if ix x 4 = true then some (ai R 33 x.toNatClampNeg) else none := Rld 11 (by decide) rfl (by decide) rfl rfl ρ R x
theorem Rst_33 {m : Nat} (ρ : Hs) (R : Gs) (x v : Int32) : stI 0 (eR m ρ R) (m + 12) x v = if ix x 4 = true then some (eR m ρ (sai R 33 (up (ai R 33) x.toNatClampNeg v))) else none := Rst 11 (by decide) rfl (by decide) rfl rfl ρ R x v
theorem RN_34 {m : Nat} (ρ : Hs) (R : Gs) : gN (eR m ρ R) m 14 34 = some (m + 13) := RgN (n := 13) rfl ρ R
theorem Rld_34 {m : Nat} (ρ : Hs) (R : Gs) (x : Int32) : ldI 0 (eR m ρ R) (m + 13) x = if ix x 4 = true then some (ai R 34 x.toNatClampNeg) else none := Rld 12 (by decide) rfl (by decide) rfl rfl ρ R x
theorem Rst_34 {m : Nat} (ρ : Hs) (R : Gs) (x v : Int32) : stI 0 (eR m ρ R) (m + 13) x v = if ix x 4 = true then some (eR m ρ (sai R 34 (up (ai R 34) x.toNatClampNeg v))) else none := Rst 12 (by decide) rfl (by decide) rfl rfl ρ R x v
theorem RN_35 {m : Nat} (ρ : Hs) (R : Gs) : gN (eR m ρ R) m 14 35 = some (m + 14) := RgN (n := 14) rfl ρ R
theorem Rld_35 {m : Nat} (ρ : Hs) (R : Gs) (x : Int32) : ldI 0 (eR m ρ R) (m + 14) x = if ix x 44 = true then some (ai R 35 x.toNatClampNeg) else none := Rld 13 (by decide) rfl (by decide) rfl rfl ρ R x
theorem Rst_35 {m : Nat} (ρ : Hs) (R : Gs) (x v : Int32) : stI 0 (eR m ρ R) (m + 14) x v = if ix x 44 = true then some (eR m ρ (sai R 35 (up (ai R 35) x.toNatClampNeg v))) else none := Rst 13 (by decide) rfl (by decide) rfl rfl ρ R x v
theorem RN_36 {m : Nat} (ρ : Hs) (R : Gs) : gN (eR m ρ R) m 14 36 = some (m + 15) := RgN (n := 15) rfl ρ R
theorem Rld_36 {m : Nat} (ρ : Hs) (R : Gs) (x : Int32) : ldI 0 (eR m ρ R) (m + 15) x = if ix x 4400 = true then some (ai R 36 x.toNatClampNeg) else none := Rld 14 (by decide) rfl (by decide) rfl rfl ρ R x
theorem Rst_36 {m : Nat} (ρ : Hs) (R : Gs) (x v : Int32) : stI 0 (eR m ρ R) (m + 15) x v = if ix x 4400 = true then some (eR m ρ (sai R 36 (up (ai R 36) x.toNatClampNeg v))) else none := Rst 14 (by decide) rfl (by decide) rfl rfl ρ R x v
theorem RN_37 {m : Nat} (ρ : Hs) (R : Gs) : gN (eR m ρ R) m 14 37 = some (m + 16) := RgN (n := 16) rfl ρ R
theorem Rld_37 {m : Nat} (ρ : Hs) (R : Gs) (x : Int32) : ldI 0 (eR m ρ R) (m + 16) x = if ix x 11 = true then some (ai R 37 x.toNatClampNeg) else none := Rld 15 (by decide) rfl (by decide) rfl rfl ρ R x
theorem Rst_37 {m : Nat} (ρ : Hs) (R : Gs) (x v : Int32) : stI 0 (eR m ρ R) (m + 16) x v = if ix x 11 = true then some (eR m ρ (sai R 37 (up (ai R 37) x.toNatClampNeg v))) else none := Rst 15 (by decide) rfl (by decide) rfl rfl ρ R x v
theorem RN_38 {m : Nat} (ρ : Hs) (R : Gs) : gN (eR m ρ R) m 14 38 = some (m + 17) := RgN (n := 17) rfl ρ R
theorem Rld_38 {m : Nat} (ρ : Hs) (R : Gs) (x : Int32) : ldI 0 (eR m ρ R) (m + 17) x = if ix x 1100 = true then some (ai R 38 x.toNatClampNeg) else none := Rld 16 (by decide) rfl (by decide) rfl rfl ρ R x
theorem Rst_38 {m : Nat} (ρ : Hs) (R : Gs) (x v : Int32) : stI 0 (eR m ρ R) (m + 17) x v = if ix x 1100 = true then some (eR m ρ (sai R 38 (up (ai R 38) x.toNatClampNeg v))) else none := Rst 16 (by decide) rfl (by decide) rfl rfl ρ R x v
theorem RN_39 {m : Nat} (ρ : Hs) (R : Gs) : gN (eR m ρ R) m 14 39 = some (m + 18) := RgN (n := 18) rfl ρ R
theorem Rld_39 {m : Nat} (ρ : Hs) (R : Gs) (x : Int32) : ldL (eR m ρ R) (m + 18) x = if ix x 40 = true then some (al R 39 x.toNatClampNeg) else none := RldL 17 (by decide) rfl rfl rfl ρ R x
theorem Rst_39 {m : Nat} (ρ : Hs) (R : Gs) (x : Int32) (v : Int64) : stL (eR m ρ R) (m + 18) x v = if ix x 40 = true then some (eR m ρ (sal R 39 (up (al R 39) x.toNatClampNeg v))) else none := RstL 17 (by decide) rfl rfl rfl ρ R x v
theorem RN_40 {m : Nat} (ρ : Hs) (R : Gs) : gN (eR m ρ R) m 14 40 = some (m + 19) := RgN (n := 19) rfl ρ R
theorem Rld_40 {m : Nat} (ρ : Hs) (R : Gs) (x : Int32) : ldL (eR m ρ R) (m + 19) x = if ix x 10 = true then some (al R 40 x.toNatClampNeg) else none := RldL 18 (by decide) rfl rfl rfl ρ R x
theorem Rst_40 {m : Nat} (ρ : Hs) (R : Gs) (x : Int32) (v : Int64) : stL (eR m ρ R) (m + 19) x v = if ix x 10 = true then some (eR m ρ (sal R 40 (up (al R 40) x.toNatClampNeg v))) else none := RstL 18 (by decide) rfl rfl rfl ρ R x v
theorem RN_41 {m : Nat} (ρ : Hs) (R : Gs) : gN (eR m ρ R) m 14 41 = some (m + 20) := RgN (n := 20) rfl ρ R
theorem Rld_41 {m : Nat} (ρ : Hs) (R : Gs) (x : Int32) : ldL (eR m ρ R) (m + 20) x = if ix x 600 = true then some (al R 41 x.toNatClampNeg) else none := RldL 19 (by decide) rfl rfl rfl ρ R x
theorem Rst_41 {m : Nat} (ρ : Hs) (R : Gs) (x : Int32) (v : Int64) : stL (eR m ρ R) (m + 20) x v = if ix x 600 = true then some (eR m ρ (sal R 41 (up (al R 41) x.toNatClampNeg v))) else none := RstL 19 (by decide) rfl rfl rfl ρ R x v
theorem RN_42 {m : Nat} (ρ : Hs) (R : Gs) : gN (eR m ρ R) m 14 42 = some (m + 21) := RgN (n := 21) rfl ρ R
theorem Rld_42 {m : Nat} (ρ : Hs) (R : Gs) (x : Int32) : ldL (eR m ρ R) (m + 21) x = if ix x 11 = true then some (al R 42 x.toNatClampNeg) else none := RldL 20 (by decide) rfl rfl rfl ρ R x
theorem Rst_42 {m : Nat} (ρ : Hs) (R : Gs) (x : Int32) (v : Int64) : stL (eR m ρ R) (m + 21) x v = if ix x 11 = true then some (eR m ρ (sal R 42 (up (al R 42) x.toNatClampNeg v))) else none := RstL 20 (by decide) rfl rfl rfl ρ R x v
theorem RN_43 {m : Nat} (ρ : Hs) (R : Gs) : gN (eR m ρ R) m 14 43 = some (m + 22) := RgN (n := 22) rfl ρ R
theorem Rld_43 {m : Nat} (ρ : Hs) (R : Gs) (x : Int32) : ldL (eR m ρ R) (m + 22) x = if ix x 10 = true then some (al R 43 x.toNatClampNeg) else none := RldL 21 (by decide) rfl rfl rfl ρ R x
theorem Rst_43 {m : Nat} (ρ : Hs) (R : Gs) (x : Int32) (v : Int64) : stL (eR m ρ R) (m + 22) x v = if ix x 10 = true then some (eR m ρ (sal R 43 (up (al R 43) x.toNatClampNeg v))) else none := RstL 21 (by decide) rfl rfl rfl ρ R x v
theorem RN_44 {m : Nat} (ρ : Hs) (R : Gs) : gN (eR m ρ R) m 14 44 = some (m + 23) := RgN (n := 23) rfl ρ R
theorem Rld_44 {m : Nat} (ρ : Hs) (R : Gs) (x : Int32) : ldI 3 (eR m ρ R) (m + 23) x = if ix x 600 = true then some (ai R 44 x.toNatClampNeg) else none := Rld 22 (by decide) rfl (by decide) rfl rfl ρ R x
theorem Rst_44 {m : Nat} (ρ : Hs) (R : Gs) (x v : Int32) : stI 3 (eR m ρ R) (m + 23) x v = if ix x 600 = true then some (eR m ρ (sai R 44 (up (ai R 44) x.toNatClampNeg v))) else none := Rst 22 (by decide) rfl (by decide) rfl rfl ρ R x v
theorem RN_45 {m : Nat} (ρ : Hs) (R : Gs) : gN (eR m ρ R) m 14 45 = some (m + 24) := RgN (n := 24) rfl ρ R
theorem Rld_45 {m : Nat} (ρ : Hs) (R : Gs) (x : Int32) : ldI 3 (eR m ρ R) (m + 24) x = if ix x 10 = true then some (ai R 45 x.toNatClampNeg) else none := Rld 23 (by decide) rfl (by decide) rfl rfl ρ R x
theorem Rst_45 {m : Nat} (ρ : Hs) (R : Gs) (x v : Int32) : stI 3 (eR m ρ R) (m + 24) x v = if ix x 10 = true then some (eR m ρ (sai R 45 (up (ai R 45) x.toNatClampNeg v))) else none := Rst 23 (by decide) rfl (by decide) rfl rfl ρ R x v
theorem RG_46 {m : Nat} (ρ : Hs) (R : Gs) : gI (eR m ρ R) m 14 46 = some (fi R 46) := RgI rfl ρ R
theorem RP_46 {m : Nat} (ρ : Hs) (R : Gs) (v : Int32) : pV (eR m ρ R) m 14 46 (.int v) = some (eR m ρ (sfi R 46 v)) := Rp rfl ρ R v
theorem RG_47 {m : Nat} (ρ : Hs) (R : Gs) : gI (eR m ρ R) m 14 47 = some (fi R 47) := RgI rfl ρ R
theorem RP_47 {m : Nat} (ρ : Hs) (R : Gs) (v : Int32) : pV (eR m ρ R) m 14 47 (.int v) = some (eR m ρ (sfi R 47 v)) := Rp rfl ρ R v
theorem RG_48 {m : Nat} (ρ : Hs) (R : Gs) : gI (eR m ρ R) m 14 48 = some (fi R 48) := RgI rfl ρ R
theorem RP_48 {m : Nat} (ρ : Hs) (R : Gs) (v : Int32) : pV (eR m ρ R) m 14 48 (.int v) = some (eR m ρ (sfi R 48 v)) := Rp rfl ρ R v
theorem RG_49 {m : Nat} (ρ : Hs) (R : Gs) : gI (eR m ρ R) m 14 49 = some (fi R 49) := RgI rfl ρ R
theorem RP_49 {m : Nat} (ρ : Hs) (R : Gs) (v : Int32) : pV (eR m ρ R) m 14 49 (.int v) = some (eR m ρ (sfi R 49 v)) := Rp rfl ρ R v
theorem RN_50 {m : Nat} (ρ : Hs) (R : Gs) : gN (eR m ρ R) m 14 50 = some (m + 25) := RgN (n := 25) rfl ρ R
theorem Rld_50 {m : Nat} (ρ : Hs) (R : Gs) (x : Int32) : ldI 0 (eR m ρ R) (m + 25) x = if ix x 8 = true then some (ai R 50 x.toNatClampNeg) else none := Rld 24 (by decide) rfl (by decide) rfl rfl ρ R x
theorem Rst_50 {m : Nat} (ρ : Hs) (R : Gs) (x v : Int32) : stI 0 (eR m ρ R) (m + 25) x v = if ix x 8 = true then some (eR m ρ (sai R 50 (up (ai R 50) x.toNatClampNeg v))) else none := Rst 24 (by decide) rfl (by decide) rfl rfl ρ R x v
theorem RN_51 {m : Nat} (ρ : Hs) (R : Gs) : gN (eR m ρ R) m 14 51 = some (m + 26) := RgN (n := 26) rfl ρ R
theorem Rld_51 {m : Nat} (ρ : Hs) (R : Gs) (x : Int32) : ldI 0 (eR m ρ R) (m + 26) x = if ix x 60 = true then some (ai R 51 x.toNatClampNeg) else none := Rld 25 (by decide) rfl (by decide) rfl rfl ρ R x
theorem Rst_51 {m : Nat} (ρ : Hs) (R : Gs) (x v : Int32) : stI 0 (eR m ρ R) (m + 26) x v = if ix x 60 = true then some (eR m ρ (sai R 51 (up (ai R 51) x.toNatClampNeg v))) else none := Rst 25 (by decide) rfl (by decide) rfl rfl ρ R x v
theorem RN_52 {m : Nat} (ρ : Hs) (R : Gs) : gN (eR m ρ R) m 14 52 = some (m + 27) := RgN (n := 27) rfl ρ R
theorem Rld_52 {m : Nat} (ρ : Hs) (R : Gs) (x : Int32) : ldI 0 (eR m ρ R) (m + 27) x = if ix x 60 = true then some (ai R 52 x.toNatClampNeg) else none := Rld 26 (by decide) rfl (by decide) rfl rfl ρ R x
theorem Rst_52 {m : Nat} (ρ : Hs) (R : Gs) (x v : Int32) : stI 0 (eR m ρ R) (m + 27) x v = if ix x 60 = true then some (eR m ρ (sai R 52 (up (ai R 52) x.toNatClampNeg v))) else none := Rst 26 (by decide) rfl (by decide) rfl rfl ρ R x v
theorem RN_53 {m : Nat} (ρ : Hs) (R : Gs) : gN (eR m ρ R) m 14 53 = some (m + 28) := RgN (n := 28) rfl ρ R
theorem Rld_53 {m : Nat} (ρ : Hs) (R : Gs) (x : Int32) : ldI 0 (eR m ρ R) (m + 28) x = if ix x 60 = true then some (ai R 53 x.toNatClampNeg) else none := Rld 27 (by decide) rfl (by decide) rfl rfl ρ R x
theorem Rst_53 {m : Nat} (ρ : Hs) (R : Gs) (x v : Int32) : stI 0 (eR m ρ R) (m + 28) x v = if ix x 60 = true then some (eR m ρ (sai R 53 (up (ai R 53) x.toNatClampNeg v))) else none := Rst 27 (by decide) rfl (by decide) rfl rfl ρ R x v
theorem RN_54 {m : Nat} (ρ : Hs) (R : Gs) : gN (eR m ρ R) m 14 54 = some (m + 29) := RgN (n := 29) rfl ρ R
theorem Rld_54 {m : Nat} (ρ : Hs) (R : Gs) (x : Int32) : ldI 0 (eR m ρ R) (m + 29) x = if ix x 60 = true then some (ai R 54 x.toNatClampNeg) else none := Rld 28 (by decide) rfl (by decide) rfl rfl ρ R x
theorem Rst_54 {m : Nat} (ρ : Hs) (R : Gs) (x v : Int32) : stI 0 (eR m ρ R) (m + 29) x v = if ix x 60 = true then some (eR m ρ (sai R 54 (up (ai R 54) x.toNatClampNeg v))) else none := Rst 28 (by decide) rfl (by decide) rfl rfl ρ R x v
theorem RN_55 {m : Nat} (ρ : Hs) (R : Gs) : gN (eR m ρ R) m 14 55 = some (m + 30) := RgN (n := 30) rfl ρ R
theorem Rld_55 {m : Nat} (ρ : Hs) (R : Gs) (x : Int32) : ldI 0 (eR m ρ R) (m + 30) x = if ix x 60 = true then some (ai R 55 x.toNatClampNeg) else none := Rld 29 (by decide) rfl (by decide) rfl rfl ρ R x
theorem Rst_55 {m : Nat} (ρ : Hs) (R : Gs) (x v : Int32) : stI 0 (eR m ρ R) (m + 30) x v = if ix x 60 = true then some (eR m ρ (sai R 55 (up (ai R 55) x.toNatClampNeg v))) else none := Rst 29 (by decide) rfl (by decide) rfl rfl ρ R x v
theorem RG_56 {m : Nat} (ρ : Hs) (R : Gs) : gI (eR m ρ R) m 14 56 = some (fi R 56) := RgI rfl ρ R
theorem RP_56 {m : Nat} (ρ : Hs) (R : Gs) (v : Int32) : pV (eR m ρ R) m 14 56 (.int v) = some (eR m ρ (sfi R 56 v)) := Rp rfl ρ R v
theorem RG_57 {m : Nat} (ρ : Hs) (R : Gs) : gI (eR m ρ R) m 14 57 = some (fi R 57) := RgI rfl ρ R
theorem RP_57 {m : Nat} (ρ : Hs) (R : Gs) (v : Int32) : pV (eR m ρ R) m 14 57 (.int v) = some (eR m ρ (sfi R 57 v)) := Rp rfl ρ R v
theorem RN_58 {m : Nat} (ρ : Hs) (R : Gs) : gN (eR m ρ R) m 14 58 = some (m + 31) := RgN (n := 31) rfl ρ R
theorem Rld_58 {m : Nat} (ρ : Hs) (R : Gs) (x : Int32) : ldI 0 (eR m ρ R) (m + 31) x = if ix x 60 = true then some (ai R 58 x.toNatClampNeg) else none := Rld 30 (by decide) rfl (by decide) rfl rfl ρ R x
theorem Rst_58 {m : Nat} (ρ : Hs) (R : Gs) (x v : Int32) : stI 0 (eR m ρ R) (m + 31) x v = if ix x 60 = true then some (eR m ρ (sai R 58 (up (ai R 58) x.toNatClampNeg v))) else none := Rst 30 (by decide) rfl (by decide) rfl rfl ρ R x v
theorem RN_59 {m : Nat} (ρ : Hs) (R : Gs) : gN (eR m ρ R) m 14 59 = some (m + 32) := RgN (n := 32) rfl ρ R
theorem Rld_59 {m : Nat} (ρ : Hs) (R : Gs) (x : Int32) : ldI 0 (eR m ρ R) (m + 32) x = if ix x 60 = true then some (ai R 59 x.toNatClampNeg) else none := Rld 31 (by decide) rfl (by decide) rfl rfl ρ R x
theorem Rst_59 {m : Nat} (ρ : Hs) (R : Gs) (x v : Int32) : stI 0 (eR m ρ R) (m + 32) x v = if ix x 60 = true then some (eR m ρ (sai R 59 (up (ai R 59) x.toNatClampNeg v))) else none := Rst 31 (by decide) rfl (by decide) rfl rfl ρ R x v
theorem RN_60 {m : Nat} (ρ : Hs) (R : Gs) : gN (eR m ρ R) m 14 60 = some (m + 33) := RgN (n := 33) rfl ρ R
theorem Rld_60 {m : Nat} (ρ : Hs) (R : Gs) (x : Int32) : ldL (eR m ρ R) (m + 33) x = if ix x 60 = true then some (al R 60 x.toNatClampNeg) else none := RldL 32 (by decide) rfl rfl rfl ρ R x
theorem Rst_60 {m : Nat} (ρ : Hs) (R : Gs) (x : Int32) (v : Int64) : stL (eR m ρ R) (m + 33) x v = if ix x 60 = true then some (eR m ρ (sal R 60 (up (al R 60) x.toNatClampNeg v))) else none := RstL 32 (by decide) rfl rfl rfl ρ R x v
theorem RG_61 {m : Nat} (ρ : Hs) (R : Gs) : gI (eR m ρ R) m 14 61 = some (fi R 61) := RgI rfl ρ R
theorem RP_61 {m : Nat} (ρ : Hs) (R : Gs) (v : Int32) : pV (eR m ρ R) m 14 61 (.int v) = some (eR m ρ (sfi R 61 v)) := Rp rfl ρ R v
theorem RG_62 {m : Nat} (ρ : Hs) (R : Gs) : gI (eR m ρ R) m 14 62 = some (fi R 62) := RgI rfl ρ R
theorem RP_62 {m : Nat} (ρ : Hs) (R : Gs) (v : Int32) : pV (eR m ρ R) m 14 62 (.int v) = some (eR m ρ (sfi R 62 v)) := Rp rfl ρ R v
theorem RG_63 {m : Nat} (ρ : Hs) (R : Gs) : gI (eR m ρ R) m 14 63 = some (fi R 63) := RgI rfl ρ R
theorem RP_63 {m : Nat} (ρ : Hs) (R : Gs) (v : Int32) : pV (eR m ρ R) m 14 63 (.int v) = some (eR m ρ (sfi R 63 v)) := Rp rfl ρ R v
theorem RG_64 {m : Nat} (ρ : Hs) (R : Gs) : gI (eR m ρ R) m 14 64 = some (fi R 64) := RgI rfl ρ R
theorem RP_64 {m : Nat} (ρ : Hs) (R : Gs) (v : Int32) : pV (eR m ρ R) m 14 64 (.int v) = some (eR m ρ (sfi R 64 v)) := Rp rfl ρ R v
theorem RG_65 {m : Nat} (ρ : Hs) (R : Gs) : gI (eR m ρ R) m 14 65 = some (fi R 65) := RgI rfl ρ R
theorem RP_65 {m : Nat} (ρ : Hs) (R : Gs) (v : Int32) : pV (eR m ρ R) m 14 65 (.int v) = some (eR m ρ (sfi R 65 v)) := Rp rfl ρ R v
theorem RG_66 {m : Nat} (ρ : Hs) (R : Gs) : gI (eR m ρ R) m 14 66 = some (fi R 66) := RgI rfl ρ R
theorem RP_66 {m : Nat} (ρ : Hs) (R : Gs) (v : Int32) : pV (eR m ρ R) m 14 66 (.int v) = some (eR m ρ (sfi R 66 v)) := Rp rfl ρ R v
theorem RG_67 {m : Nat} (ρ : Hs) (R : Gs) : gI (eR m ρ R) m 14 67 = some (fi R 67) := RgI rfl ρ R
theorem RP_67 {m : Nat} (ρ : Hs) (R : Gs) (v : Int32) : pV (eR m ρ R) m 14 67 (.int v) = some (eR m ρ (sfi R 67 v)) := Rp rfl ρ R v
theorem RG_68 {m : Nat} (ρ : Hs) (R : Gs) : gI (eR m ρ R) m 14 68 = some (fi R 68) := RgI rfl ρ R
theorem RP_68 {m : Nat} (ρ : Hs) (R : Gs) (v : Int32) : pV (eR m ρ R) m 14 68 (.int v) = some (eR m ρ (sfi R 68 v)) := Rp rfl ρ R v
theorem RG_69 {m : Nat} (ρ : Hs) (R : Gs) : gI (eR m ρ R) m 14 69 = some (fi R 69) := RgI rfl ρ R
theorem RP_69 {m : Nat} (ρ : Hs) (R : Gs) (v : Int32) : pV (eR m ρ R) m 14 69 (.int v) = some (eR m ρ (sfi R 69 v)) := Rp rfl ρ R v
theorem RG_70 {m : Nat} (ρ : Hs) (R : Gs) : gI (eR m ρ R) m 14 70 = some (fi R 70) := RgI rfl ρ R
theorem RP_70 {m : Nat} (ρ : Hs) (R : Gs) (v : Int32) : pV (eR m ρ R) m 14 70 (.int v) = some (eR m ρ (sfi R 70 v)) := Rp rfl ρ R v
theorem RG_71 {m : Nat} (ρ : Hs) (R : Gs) : gI (eR m ρ R) m 14 71 = some (fi R 71) := RgI rfl ρ R
theorem RP_71 {m : Nat} (ρ : Hs) (R : Gs) (v : Int32) : pV (eR m ρ R) m 14 71 (.int v) = some (eR m ρ (sfi R 71 v)) := Rp rfl ρ R v
theorem RN_72 {m : Nat} (ρ : Hs) (R : Gs) : gN (eR m ρ R) m 14 72 = some (m + 34) := RgN (n := 34) rfl ρ R
theorem Rld_72 {m : Nat} (ρ : Hs) (R : Gs) (x : Int32) : ldI 0 (eR m ρ R) (m + 34) x = if ix x 40 = true then some (ai R 72 x.toNatClampNeg) else none := Rld 33 (by decide) rfl (by decide) rfl rfl ρ R x
theorem Rst_72 {m : Nat} (ρ : Hs) (R : Gs) (x v : Int32) : stI 0 (eR m ρ R) (m + 34) x v = if ix x 40 = true then some (eR m ρ (sai R 72 (up (ai R 72) x.toNatClampNeg v))) else none := Rst 33 (by decide) rfl (by decide) rfl rfl ρ R x v
theorem RN_73 {m : Nat} (ρ : Hs) (R : Gs) : gN (eR m ρ R) m 14 73 = some (m + 35) := RgN (n := 35) rfl ρ R
theorem Rld_73 {m : Nat} (ρ : Hs) (R : Gs) (x : Int32) : ldI 0 (eR m ρ R) (m + 35) x = if ix x 40 = true then some (ai R 73 x.toNatClampNeg) else none := Rld 34 (by decide) rfl (by decide) rfl rfl ρ R x
theorem Rst_73 {m : Nat} (ρ : Hs) (R : Gs) (x v : Int32) : stI 0 (eR m ρ R) (m + 35) x v = if ix x 40 = true then some (eR m ρ (sai R 73 (up (ai R 73) x.toNatClampNeg v))) else none := Rst 34 (by decide) rfl (by decide) rfl rfl ρ R x v
theorem RN_74 {m : Nat} (ρ : Hs) (R : Gs) : gN (eR m ρ R) m 14 74 = some (m + 36) := RgN (n := 36) rfl ρ R
theorem Rld_74 {m : Nat} (ρ : Hs) (R : Gs) (x : Int32) : ldI 0 (eR m ρ R) (m + 36) x = if ix x 40 = true then some (ai R 74 x.toNatClampNeg) else none := Rld 35 (by decide) rfl (by decide) rfl rfl ρ R x
theorem Rst_74 {m : Nat} (ρ : Hs) (R : Gs) (x v : Int32) : stI 0 (eR m ρ R) (m + 36) x v = if ix x 40 = true then some (eR m ρ (sai R 74 (up (ai R 74) x.toNatClampNeg v))) else none := Rst 35 (by decide) rfl (by decide) rfl rfl ρ R x v
theorem RN_75 {m : Nat} (ρ : Hs) (R : Gs) : gN (eR m ρ R) m 14 75 = some (m + 37) := RgN (n := 37) rfl ρ R
theorem Rld_75 {m : Nat} (ρ : Hs) (R : Gs) (x : Int32) : ldI 0 (eR m ρ R) (m + 37) x = if ix x 40 = true then some (ai R 75 x.toNatClampNeg) else none := Rld 36 (by decide) rfl (by decide) rfl rfl ρ R x
theorem Rst_75 {m : Nat} (ρ : Hs) (R : Gs) (x v : Int32) : stI 0 (eR m ρ R) (m + 37) x v = if ix x 40 = true then some (eR m ρ (sai R 75 (up (ai R 75) x.toNatClampNeg v))) else none := Rst 36 (by decide) rfl (by decide) rfl rfl ρ R x v
theorem RN_76 {m : Nat} (ρ : Hs) (R : Gs) : gN (eR m ρ R) m 14 76 = some (m + 38) := RgN (n := 38) rfl ρ R
theorem Rld_76 {m : Nat} (ρ : Hs) (R : Gs) (x : Int32) : ldI 0 (eR m ρ R) (m + 38) x = if ix x 40 = true then some (ai R 76 x.toNatClampNeg) else none := Rld 37 (by decide) rfl (by decide) rfl rfl ρ R x
theorem Rst_76 {m : Nat} (ρ : Hs) (R : Gs) (x v : Int32) : stI 0 (eR m ρ R) (m + 38) x v = if ix x 40 = true then some (eR m ρ (sai R 76 (up (ai R 76) x.toNatClampNeg v))) else none := Rst 37 (by decide) rfl (by decide) rfl rfl ρ R x v
theorem RN_77 {m : Nat} (ρ : Hs) (R : Gs) : gN (eR m ρ R) m 14 77 = some (m + 39) := RgN (n := 39) rfl ρ R
theorem Rld_77 {m : Nat} (ρ : Hs) (R : Gs) (x : Int32) : ldI 0 (eR m ρ R) (m + 39) x = if ix x 40 = true then some (ai R 77 x.toNatClampNeg) else none := Rld 38 (by decide) rfl (by decide) rfl rfl ρ R x
theorem Rst_77 {m : Nat} (ρ : Hs) (R : Gs) (x v : Int32) : stI 0 (eR m ρ R) (m + 39) x v = if ix x 40 = true then some (eR m ρ (sai R 77 (up (ai R 77) x.toNatClampNeg v))) else none := Rst 38 (by decide) rfl (by decide) rfl rfl ρ R x v
theorem RN_78 {m : Nat} (ρ : Hs) (R : Gs) : gN (eR m ρ R) m 14 78 = some (m + 40) := RgN (n := 40) rfl ρ R
theorem Rld_78 {m : Nat} (ρ : Hs) (R : Gs) (x : Int32) : ldL (eR m ρ R) (m + 40) x = if ix x 40 = true then some (al R 78 x.toNatClampNeg) else none := RldL 39 (by decide) rfl rfl rfl ρ R x
theorem Rst_78 {m : Nat} (ρ : Hs) (R : Gs) (x : Int32) (v : Int64) : stL (eR m ρ R) (m + 40) x v = if ix x 40 = true then some (eR m ρ (sal R 78 (up (al R 78) x.toNatClampNeg v))) else none := RstL 39 (by decide) rfl rfl rfl ρ R x v
theorem RN_79 {m : Nat} (ρ : Hs) (R : Gs) : gN (eR m ρ R) m 14 79 = some (m + 41) := RgN (n := 41) rfl ρ R
theorem Rld_79 {m : Nat} (ρ : Hs) (R : Gs) (x : Int32) : ldL (eR m ρ R) (m + 41) x = if ix x 40 = true then some (al R 79 x.toNatClampNeg) else none := RldL 40 (by decide) rfl rfl rfl ρ R x
theorem Rst_79 {m : Nat} (ρ : Hs) (R : Gs) (x : Int32) (v : Int64) : stL (eR m ρ R) (m + 41) x v = if ix x 40 = true then some (eR m ρ (sal R 79 (up (al R 79) x.toNatClampNeg v))) else none := RstL 40 (by decide) rfl rfl rfl ρ R x v
theorem RN_80 {m : Nat} (ρ : Hs) (R : Gs) : gN (eR m ρ R) m 14 80 = some (m + 42) := RgN (n := 42) rfl ρ R
theorem Rld_80 {m : Nat} (ρ : Hs) (R : Gs) (x : Int32) : ldI 0 (eR m ρ R) (m + 42) x = if ix x 12 = true then some (ai R 80 x.toNatClampNeg) else none := Rld 41 (by decide) rfl (by decide) rfl rfl ρ R x
theorem Rst_80 {m : Nat} (ρ : Hs) (R : Gs) (x v : Int32) : stI 0 (eR m ρ R) (m + 42) x v = if ix x 12 = true then some (eR m ρ (sai R 80 (up (ai R 80) x.toNatClampNeg v))) else none := Rst 41 (by decide) rfl (by decide) rfl rfl ρ R x v
theorem RN_81 {m : Nat} (ρ : Hs) (R : Gs) : gN (eR m ρ R) m 14 81 = some (m + 43) := RgN (n := 43) rfl ρ R
theorem Rld_81 {m : Nat} (ρ : Hs) (R : Gs) (x : Int32) : ldI 0 (eR m ρ R) (m + 43) x = if ix x 12 = true then some (ai R 81 x.toNatClampNeg) else none := Rld 42 (by decide) rfl (by decide) rfl rfl ρ R x
theorem Rst_81 {m : Nat} (ρ : Hs) (R : Gs) (x v : Int32) : stI 0 (eR m ρ R) (m + 43) x v = if ix x 12 = true then some (eR m ρ (sai R 81 (up (ai R 81) x.toNatClampNeg v))) else none := Rst 42 (by decide) rfl (by decide) rfl rfl ρ R x v
theorem RN_82 {m : Nat} (ρ : Hs) (R : Gs) : gN (eR m ρ R) m 14 82 = some (m + 44) := RgN (n := 44) rfl ρ R
theorem Rld_82 {m : Nat} (ρ : Hs) (R : Gs) (x : Int32) : ldI 0 (eR m ρ R) (m + 44) x = if ix x 20 = true then some (ai R 82 x.toNatClampNeg) else none := Rld 43 (by decide) rfl (by decide) rfl rfl ρ R x
theorem Rst_82 {m : Nat} (ρ : Hs) (R : Gs) (x v : Int32) : stI 0 (eR m ρ R) (m + 44) x v = if ix x 20 = true then some (eR m ρ (sai R 82 (up (ai R 82) x.toNatClampNeg v))) else none := Rst 43 (by decide) rfl (by decide) rfl rfl ρ R x v
theorem RN_83 {m : Nat} (ρ : Hs) (R : Gs) : gN (eR m ρ R) m 14 83 = some (m + 45) := RgN (n := 45) rfl ρ R
theorem Rld_83 {m : Nat} (ρ : Hs) (R : Gs) (x : Int32) : ldI 0 (eR m ρ R) (m + 45) x = if ix x 20 = true then some (ai R 83 x.toNatClampNeg) else none := Rld 44 (by decide) rfl (by decide) rfl rfl ρ R x
theorem Rst_83 {m : Nat} (ρ : Hs) (R : Gs) (x v : Int32) : stI 0 (eR m ρ R) (m + 45) x v = if ix x 20 = true then some (eR m ρ (sai R 83 (up (ai R 83) x.toNatClampNeg v))) else none := Rst 44 (by decide) rfl (by decide) rfl rfl ρ R x v
theorem RN_84 {m : Nat} (ρ : Hs) (R : Gs) : gN (eR m ρ R) m 14 84 = some (m + 46) := RgN (n := 46) rfl ρ R
theorem Rld_84 {m : Nat} (ρ : Hs) (R : Gs) (x : Int32) : ldI 0 (eR m ρ R) (m + 46) x = if ix x 4 = true then some (ai R 84 x.toNatClampNeg) else none := Rld 45 (by decide) rfl (by decide) rfl rfl ρ R x
theorem Rst_84 {m : Nat} (ρ : Hs) (R : Gs) (x v : Int32) : stI 0 (eR m ρ R) (m + 46) x v = if ix x 4 = true then some (eR m ρ (sai R 84 (up (ai R 84) x.toNatClampNeg v))) else none := Rst 45 (by decide) rfl (by decide) rfl rfl ρ R x v
theorem RN_85 {m : Nat} (ρ : Hs) (R : Gs) : gN (eR m ρ R) m 14 85 = some (m + 47) := RgN (n := 47) rfl ρ R
theorem Rld_85 {m : Nat} (ρ : Hs) (R : Gs) (x : Int32) : ldI 0 (eR m ρ R) (m + 47) x = if ix x 4 = true then some (ai R 85 x.toNatClampNeg) else none := Rld 46 (by decide) rfl (by decide) rfl rfl ρ R x
theorem Rst_85 {m : Nat} (ρ : Hs) (R : Gs) (x v : Int32) : stI 0 (eR m ρ R) (m + 47) x v = if ix x 4 = true then some (eR m ρ (sai R 85 (up (ai R 85) x.toNatClampNeg v))) else none := Rst 46 (by decide) rfl (by decide) rfl rfl ρ R x v
theorem RN_86 {m : Nat} (ρ : Hs) (R : Gs) : gN (eR m ρ R) m 14 86 = some (m + 48) := RgN (n := 48) rfl ρ R
theorem Rld_86 {m : Nat} (ρ : Hs) (R : Gs) (x : Int32) : ldI 0 (eR m ρ R) (m + 48) x = if ix x 4 = true then some (ai R 86 x.toNatClampNeg) else none := Rld 47 (by decide) rfl (by decide) rfl rfl ρ R x
theorem Rst_86 {m : Nat} (ρ : Hs) (R : Gs) (x v : Int32) : stI 0 (eR m ρ R) (m + 48) x v = if ix x 4 = true then some (eR m ρ (sai R 86 (up (ai R 86) x.toNatClampNeg v))) else none := Rst 47 (by decide) rfl (by decide) rfl rfl ρ R x v
theorem RG_87 {m : Nat} (ρ : Hs) (R : Gs) : gI (eR m ρ R) m 14 87 = some (fi R 87) := RgI rfl ρ R
theorem RP_87 {m : Nat} (ρ : Hs) (R : Gs) (v : Int32) : pV (eR m ρ R) m 14 87 (.int v) = some (eR m ρ (sfi R 87 v)) := Rp rfl ρ R v
theorem RG_88 {m : Nat} (ρ : Hs) (R : Gs) : gI (eR m ρ R) m 14 88 = some (fi R 88) := RgI rfl ρ R
theorem RP_88 {m : Nat} (ρ : Hs) (R : Gs) (v : Int32) : pV (eR m ρ R) m 14 88 (.int v) = some (eR m ρ (sfi R 88 v)) := Rp rfl ρ R v
theorem RG_89 {m : Nat} (ρ : Hs) (R : Gs) : gI (eR m ρ R) m 14 89 = some (fi R 89) := RgI rfl ρ R
theorem RP_89 {m : Nat} (ρ : Hs) (R : Gs) (v : Int32) : pV (eR m ρ R) m 14 89 (.int v) = some (eR m ρ (sfi R 89 v)) := Rp rfl ρ R v
theorem RG_90 {m : Nat} (ρ : Hs) (R : Gs) : gI (eR m ρ R) m 14 90 = some (fi R 90) := RgI rfl ρ R
theorem RP_90 {m : Nat} (ρ : Hs) (R : Gs) (v : Int32) : pV (eR m ρ R) m 14 90 (.int v) = some (eR m ρ (sfi R 90 v)) := Rp rfl ρ R v
theorem RG_91 {m : Nat} (ρ : Hs) (R : Gs) : gI (eR m ρ R) m 14 91 = some (fi R 91) := RgI rfl ρ R
theorem RP_91 {m : Nat} (ρ : Hs) (R : Gs) (v : Int32) : pV (eR m ρ R) m 14 91 (.int v) = some (eR m ρ (sfi R 91 v)) := Rp rfl ρ R v
theorem RG_92 {m : Nat} (ρ : Hs) (R : Gs) : gI (eR m ρ R) m 14 92 = some (fi R 92) := RgI rfl ρ R
theorem RP_92 {m : Nat} (ρ : Hs) (R : Gs) (v : Int32) : pV (eR m ρ R) m 14 92 (.int v) = some (eR m ρ (sfi R 92 v)) := Rp rfl ρ R v
theorem RG_93 {m : Nat} (ρ : Hs) (R : Gs) : gI (eR m ρ R) m 14 93 = some (fi R 93) := RgI rfl ρ R
theorem RP_93 {m : Nat} (ρ : Hs) (R : Gs) (v : Int32) : pV (eR m ρ R) m 14 93 (.int v) = some (eR m ρ (sfi R 93 v)) := Rp rfl ρ R v
theorem RN_94 {m : Nat} (ρ : Hs) (R : Gs) : gN (eR m ρ R) m 14 94 = some (m + 49) := RgN (n := 49) rfl ρ R
theorem Rld_94 {m : Nat} (ρ : Hs) (R : Gs) (x : Int32) : ldI 0 (eR m ρ R) (m + 49) x = if ix x 60 = true then some (ai R 94 x.toNatClampNeg) else none := Rld 48 (by decide) rfl (by decide) rfl rfl ρ R x
theorem Rst_94 {m : Nat} (ρ : Hs) (R : Gs) (x v : Int32) : stI 0 (eR m ρ R) (m + 49) x v = if ix x 60 = true then some (eR m ρ (sai R 94 (up (ai R 94) x.toNatClampNeg v))) else none := Rst 48 (by decide) rfl (by decide) rfl rfl ρ R x v
theorem RN_95 {m : Nat} (ρ : Hs) (R : Gs) : gN (eR m ρ R) m 14 95 = some (m + 50) := RgN (n := 50) rfl ρ R
theorem Rld_95 {m : Nat} (ρ : Hs) (R : Gs) (x : Int32) : ldI 0 (eR m ρ R) (m + 50) x = if ix x 60 = true then some (ai R 95 x.toNatClampNeg) else none := Rld 49 (by decide) rfl (by decide) rfl rfl ρ R x
theorem Rst_95 {m : Nat} (ρ : Hs) (R : Gs) (x v : Int32) : stI 0 (eR m ρ R) (m + 50) x v = if ix x 60 = true then some (eR m ρ (sai R 95 (up (ai R 95) x.toNatClampNeg v))) else none := Rst 49 (by decide) rfl (by decide) rfl rfl ρ R x v
theorem RG_96 {m : Nat} (ρ : Hs) (R : Gs) : gI (eR m ρ R) m 14 96 = some (fi R 96) := RgI rfl ρ R
theorem RP_96 {m : Nat} (ρ : Hs) (R : Gs) (v : Int32) : pV (eR m ρ R) m 14 96 (.int v) = some (eR m ρ (sfi R 96 v)) := Rp rfl ρ R v
theorem RN_97 {m : Nat} (ρ : Hs) (R : Gs) : gN (eR m ρ R) m 14 97 = some (m + 51) := RgN (n := 51) rfl ρ R
theorem Rld_97 {m : Nat} (ρ : Hs) (R : Gs) (x : Int32) : ldI 0 (eR m ρ R) (m + 51) x = if ix x 60 = true then some (ai R 97 x.toNatClampNeg) else none := Rld 50 (by decide) rfl (by decide) rfl rfl ρ R x
theorem Rst_97 {m : Nat} (ρ : Hs) (R : Gs) (x v : Int32) : stI 0 (eR m ρ R) (m + 51) x v = if ix x 60 = true then some (eR m ρ (sai R 97 (up (ai R 97) x.toNatClampNeg v))) else none := Rst 50 (by decide) rfl (by decide) rfl rfl ρ R x v
theorem RN_98 {m : Nat} (ρ : Hs) (R : Gs) : gN (eR m ρ R) m 14 98 = some (m + 52) := RgN (n := 52) rfl ρ R
theorem Rld_98 {m : Nat} (ρ : Hs) (R : Gs) (x : Int32) : ldI 0 (eR m ρ R) (m + 52) x = if ix x 60 = true then some (ai R 98 x.toNatClampNeg) else none := Rld 51 (by decide) rfl (by decide) rfl rfl ρ R x
theorem Rst_98 {m : Nat} (ρ : Hs) (R : Gs) (x v : Int32) : stI 0 (eR m ρ R) (m + 52) x v = if ix x 60 = true then some (eR m ρ (sai R 98 (up (ai R 98) x.toNatClampNeg v))) else none := Rst 51 (by decide) rfl (by decide) rfl rfl ρ R x v
theorem RN_99 {m : Nat} (ρ : Hs) (R : Gs) : gN (eR m ρ R) m 14 99 = some (m + 53) := RgN (n := 53) rfl ρ R
theorem Rld_99 {m : Nat} (ρ : Hs) (R : Gs) (x : Int32) : ldL (eR m ρ R) (m + 53) x = if ix x 2001 = true then some (al R 99 x.toNatClampNeg) else none := RldL 52 (by decide) rfl rfl rfl ρ R x
theorem Rst_99 {m : Nat} (ρ : Hs) (R : Gs) (x : Int32) (v : Int64) : stL (eR m ρ R) (m + 53) x v = if ix x 2001 = true then some (eR m ρ (sal R 99 (up (al R 99) x.toNatClampNeg v))) else none := RstL 52 (by decide) rfl rfl rfl ρ R x v
theorem RN_100 {m : Nat} (ρ : Hs) (R : Gs) : gN (eR m ρ R) m 14 100 = some (m + 54) := RgN (n := 54) rfl ρ R
theorem Rld_100 {m : Nat} (ρ : Hs) (R : Gs) (x : Int32) : ldL (eR m ρ R) (m + 54) x = if ix x 2001 = true then some (al R 100 x.toNatClampNeg) else none := RldL 53 (by decide) rfl rfl rfl ρ R x
theorem Rst_100 {m : Nat} (ρ : Hs) (R : Gs) (x : Int32) (v : Int64) : stL (eR m ρ R) (m + 54) x v = if ix x 2001 = true then some (eR m ρ (sal R 100 (up (al R 100) x.toNatClampNeg v))) else none := RstL 53 (by decide) rfl rfl rfl ρ R x v
theorem RG_101 {m : Nat} (ρ : Hs) (R : Gs) : gI (eR m ρ R) m 14 101 = some (fi R 101) := RgI rfl ρ R
theorem RP_101 {m : Nat} (ρ : Hs) (R : Gs) (v : Int32) : pZ (eR m ρ R) m 14 101 v = if v = 0 ∨ v = 1 then some (eR m ρ (sfi R 101 v)) else none := RpZ rfl ρ R v
theorem RN_102 {m : Nat} (ρ : Hs) (R : Gs) : gN (eR m ρ R) m 14 102 = some (m + 55) := RgN (n := 55) rfl ρ R
theorem Rld_102 {m : Nat} (ρ : Hs) (R : Gs) (x : Int32) : ldI 0 (eR m ρ R) (m + 55) x = if ix x 60 = true then some (ai R 102 x.toNatClampNeg) else none := Rld 54 (by decide) rfl (by decide) rfl rfl ρ R x
theorem Rst_102 {m : Nat} (ρ : Hs) (R : Gs) (x v : Int32) : stI 0 (eR m ρ R) (m + 55) x v = if ix x 60 = true then some (eR m ρ (sai R 102 (up (ai R 102) x.toNatClampNeg v))) else none := Rst 54 (by decide) rfl (by decide) rfl rfl ρ R x v
theorem RN_103 {m : Nat} (ρ : Hs) (R : Gs) : gN (eR m ρ R) m 14 103 = some (m + 56) := RgN (n := 56) rfl ρ R
theorem Rld_103 {m : Nat} (ρ : Hs) (R : Gs) (x : Int32) : ldI 0 (eR m ρ R) (m + 56) x = if ix x 60 = true then some (ai R 103 x.toNatClampNeg) else none := Rld 55 (by decide) rfl (by decide) rfl rfl ρ R x
theorem Rst_103 {m : Nat} (ρ : Hs) (R : Gs) (x v : Int32) : stI 0 (eR m ρ R) (m + 56) x v = if ix x 60 = true then some (eR m ρ (sai R 103 (up (ai R 103) x.toNatClampNeg v))) else none := Rst 55 (by decide) rfl (by decide) rfl rfl ρ R x v
theorem RN_104 {m : Nat} (ρ : Hs) (R : Gs) : gN (eR m ρ R) m 14 104 = some (m + 57) := RgN (n := 57) rfl ρ R
theorem Rld_104 {m : Nat} (ρ : Hs) (R : Gs) (x : Int32) : ldI 0 (eR m ρ R) (m + 57) x = if ix x 12 = true then some (ai R 104 x.toNatClampNeg) else none := Rld 56 (by decide) rfl (by decide) rfl rfl ρ R x
theorem Rst_104 {m : Nat} (ρ : Hs) (R : Gs) (x v : Int32) : stI 0 (eR m ρ R) (m + 57) x v = if ix x 12 = true then some (eR m ρ (sai R 104 (up (ai R 104) x.toNatClampNeg v))) else none := Rst 56 (by decide) rfl (by decide) rfl rfl ρ R x v
theorem RG_105 {m : Nat} (ρ : Hs) (R : Gs) : gI (eR m ρ R) m 14 105 = some (fi R 105) := RgI rfl ρ R
theorem RP_105 {m : Nat} (ρ : Hs) (R : Gs) (v : Int32) : pV (eR m ρ R) m 14 105 (.int v) = some (eR m ρ (sfi R 105 v)) := Rp rfl ρ R v
