theorem gI_raw {σ : Hs} {a ci k : Nat} {F : Nat → Value} {v : Int32} (h : σ.2.1 a = .inr (ci, F)) (hF : F k = .int v) : gI σ a ci k = some v := by
  unfold gI gV; rw [h]; simp only [if_true, Option.bind_some, hF]; rfl
theorem mn_n {a b : Nat} (ha : a < 2147483648) (hb : b < 2147483648) : (if (Int32.ofNat a).toInt ≤ (Int32.ofNat b).toInt then Int32.ofNat a else Int32.ofNat b) = Int32.ofNat (min a b) := by
  rw [n32 ha, n32 hb]
  by_cases h : a ≤ b
  · rw [if_pos (by omega), Nat.min_eq_left h]
  · rw [if_neg (by omega), Nat.min_eq_right (by omega)]
theorem aN_l {σ : Hs} {a n : Nat} {f : Nat → Int64} (h : σ.2.1 a = .inl (1, n, .inr (.inl f))) : aN σ a = some (Int32.ofNat n) := by
  unfold aN; rw [h]; exact if_pos (show 1 < 8 by decide)
theorem z0_cp0 {σ : Hs} {b : Nat} {H : Gs} (hH : A0 b H σ) {a na : Nat} {f : Nat → Int64} (ha : σ.2.1 a = .inl (1, na, .inr (.inl f))) {n : Nat} (hn : n < 2147483648) (h1 : n ≤ na) (h2 : n ≤ ln H 0) : cpL σ a 0 (b + 1) 0 (Int32.ofNat n) = some (e0 b σ (sal H 0 (va_cpy f (al H 0) 0 0 n))) := by
  have q := XcpL (ci := 2) (ks := ks0) (b := b) ok0 (by decide : (1, 1, 0) ∈ as0) σ H (a := a) (na := na) (f := f) (by rw [show eX 2 ks0 as0 b σ H = σ from hH]; exact ha) (i := 0) (d := 0) (by decide) (by decide) hn (by omega) (by omega)
  rw [show eX 2 ks0 as0 b σ H = σ from hH] at q; exact q
theorem z0_cp1 {σ : Hs} {b : Nat} {H : Gs} (hH : A0 b H σ) {a na : Nat} {f : Nat → Int64} (ha : σ.2.1 a = .inl (1, na, .inr (.inl f))) {n : Nat} (hn : n < 2147483648) (h1 : n ≤ na) (h2 : n ≤ ln H 1) : cpL σ a 0 (b + 2) 0 (Int32.ofNat n) = some (e0 b σ (sal H 1 (va_cpy f (al H 1) 0 0 n))) := by
  have q := XcpL (ci := 2) (ks := ks0) (b := b) ok0 (by decide : (2, 1, 1) ∈ as0) σ H (a := a) (na := na) (f := f) (by rw [show eX 2 ks0 as0 b σ H = σ from hH]; exact ha) (i := 0) (d := 0) (by decide) (by decide) hn (by omega) (by omega)
  rw [show eX 2 ks0 as0 b σ H = σ from hH] at q; exact q
theorem x0_new (s : Hs) {v1 v2 n1 n2 n : Nat} {f1 f2 : Nat → Int64} (h1 : v1 < s.1) (h2 : v2 < s.1) (hf1 : s.2.1 v1 = .inl (1, n1, .inr (.inl f1))) (hf2 : s.2.1 v2 = .inl (1, n2, .inr (.inl f2))) (hn : n ≤ 12) (hn1 : n ≤ n1) (hn2 : n ≤ n2) (hb1 : n1 ≤ 40) (hb2 : n2 ≤ 40) : ∃ s' G, fX0_init_0 (nwO 2 tyX0 s) s.1 v1 v2 (Int32.ofNat n) = some s' ∧ s'.1 = s.1 + 3 ∧ s'.2.2 = s.2.2 ∧ (∀ a, a < s.1 → s'.2.1 a = s.2.1 a) ∧ A0 s.1 G s' ∧ ln G 0 = n ∧ ln G 1 = n ∧ fi G 2 = Int32.ofNat n ∧ fi G 3 = 0 ∧ ∀ k, k < n → al G 0 k = f1 k ∧ al G 1 k = f2 k := by
  have e1 : (nwO 2 tyX0 s).2.1 v1 = .inl (1, n1, .inr (.inl f1)) := (nw_n _ _ (by omega)).trans hf1
  have e2 : (nwO 2 tyX0 s).2.1 v2 = .inl (1, n2, .inr (.inl f2)) := (nw_n _ _ (by omega)).trans hf2
  have h0 : (nwO 2 tyX0 s).2.1 s.1 = .inr (2, fun k => defaultValue (tyX0 k)) := nw_s _ _
  unfold fX0_init_0
  rw [aN_l e1, Option.bind_some, aN_l e2, Option.bind_some, mn32, Option.bind_some, mn_n (by omega) (by omega), mn32, Option.bind_some, mn_n (by omega) (by omega), show min n (min n1 n2) = n by omega, pV_raw h0, Option.bind_some]
  rw [gI_raw (wR_s _ _ _) (show va_up (fun k => defaultValue (tyX0 k)) 2 (.int (Int32.ofNat n)) 2 = .int (Int32.ofNat n) from rfl), Option.bind_some, naL_ok _ (by omega) (by omega), Option.bind_some]
  rw [pV_raw ((nw_n _ _ (show s.1 ≠ s.1 + 1 by omega)).trans (wR_s _ _ _)), Option.bind_some]
  rw [gI_raw (wR_s _ _ _) (show va_up (va_up (fun k => defaultValue (tyX0 k)) 2 (.int (Int32.ofNat n))) 0 (.ref (wR (nwO 2 tyX0 s) s.1 (.inr (2, va_up (fun k => defaultValue (tyX0 k)) 2 (.int (Int32.ofNat n))))).1) 2 = .int (Int32.ofNat n) from rfl), Option.bind_some, naL_ok _ (by omega) (by omega), Option.bind_some]
  rw [pV_raw ((nw_n _ _ (show s.1 ≠ s.1 + 1 + 1 by omega)).trans (wR_s _ _ _)), Option.bind_some]
  generalize hs7 : wR _ s.1 _ = s7
  have q1 : s7.1 = s.1 + 3 := by rw [← hs7]; rfl
  have q2 : s7.2.2 = s.2.2 := by rw [← hs7]; rfl
  have q3 : ∀ a, a < s.1 → s7.2.1 a = s.2.1 a := by
    intro a ha
    rw [← hs7, wR_n _ _ (by omega), nw_n _ _ (show a ≠ s.1 + 1 + 1 by omega), wR_n _ _ (by omega), nw_n _ _ (show a ≠ s.1 + 1 by omega), wR_n _ _ (by omega)]
    exact nw_n _ _ (by omega)
  have q4 : A0 s.1 (sfi (g0 (fun _ => n)) 2 (Int32.ofNat n)) s7 := by
    rw [← hs7]
    refine A0_mk ?_ ?_ ?_
    · rw [wR_s]
      refine congrArg (fun F => Sum.inr (2, F)) (funext fun k => ?_)
      match k with
      | 0 => rfl
      | 1 => rfl
      | 2 => rfl
      | 3 => rfl
      | 4 => rfl
      | 5 => rfl
      | k + 6 => rfl
    · rw [wR_n _ _ (by omega), nw_n _ _ (show s.1 + 1 ≠ s.1 + 1 + 1 by omega), wR_n _ _ (by omega)]
      exact nw_s (wR (nwO 2 tyX0 s) s.1 _) _
    · rw [wR_n _ _ (by omega)]
      exact nw_s (wR _ s.1 _) _
  have c1 := z0_cp0 q4 ((q3 v1 h1).trans hf1) (n := n) (by omega) hn1 (Nat.le_refl n)
  have q5 : A0 s.1 (sal (sfi (g0 (fun _ => n)) 2 (Int32.ofNat n)) 0 (va_cpy f1 (fun _ => 0) 0 0 n)) (e0 s.1 s7 (sal (sfi (g0 (fun _ => n)) 2 (Int32.ofNat n)) 0 (va_cpy f1 (fun _ => 0) 0 0 n))) := A0_self _ _
  have o5 : ∀ (H : Gs) (t : Hs) a, a < s.1 → (e0 s.1 t H).2.1 a = t.2.1 a := fun H t a ha => e0_out _ _ (by omega)
  have c2 := z0_cp1 q5 ((o5 _ _ v2 h2).trans ((q3 v2 h2).trans hf2)) (n := n) (by omega) hn2 (Nat.le_refl n)
  rw [z0_g0 q4, Option.bind_some, z0_g2 q4, Option.bind_some, show fi (sfi (g0 (fun _ => n)) 2 (Int32.ofNat n)) 2 = Int32.ofNat n from rfl, c1, Option.bind_some, show al (sfi (g0 (fun _ => n)) 2 (Int32.ofNat n)) 0 = (fun _ => 0) from rfl, z0_g1 q5, Option.bind_some, z0_g2 q5, Option.bind_some, show fi (sal (sfi (g0 (fun _ => n)) 2 (Int32.ofNat n)) 0 (va_cpy f1 (fun _ => 0) 0 0 n)) 2 = Int32.ofNat n from rfl, c2, Option.bind_some]
  refine ⟨_, _, rfl, q1, q2, fun a ha => (o5 _ _ a ha).trans ((o5 _ _ a ha).trans (q3 a ha)), A0_self _ _, rfl, rfl, rfl, rfl, fun k hk => ⟨?_, ?_⟩⟩
  · show va_cpy f1 (fun _ => 0) 0 0 n k = f1 k
    unfold va_cpy; rw [if_pos (by omega)]; congr 1; omega
  · show va_cpy f2 (fun _ => 0) 0 0 n k = f2 k
    unfold va_cpy; rw [if_pos (by omega)]; congr 1; omega
theorem mx64 (σ : Hs) (a b : Int64) : fJ9_max_f86c9_0 σ a b = some (if b.toInt ≤ a.toInt then a else b) := by
  unfold fJ9_max_f86c9_0; simp only [lt64]
  by_cases h : b.toInt ≤ a.toInt
  · rw [if_pos h, if_neg (by omega)]
  · rw [if_neg h, if_pos (by omega)]
theorem mn64 (σ : Hs) (a b : Int64) : fJ9_min_f86c9_0 σ a b = some (if a.toInt ≤ b.toInt then a else b) := by
  unfold fJ9_min_f86c9_0; simp only [lt64]
  by_cases h : a.toInt ≤ b.toInt
  · rw [if_pos h, if_neg (by omega)]
  · rw [if_neg h, if_pos (by omega)]
section
variable {a : Nat} {G : Gs} {L U : Nat → Int32} {n : Nat} {σ : Hs}
theorem sfl_sfl (G : Gs) (k : Nat) (f g : Int64) : sfl (sfl G k f) k g = sfl G k g := by
  unfold sfl; rw [show up (up G.2.1 k f) k g = up G.2.1 k g from funext fun j => by unfold up; by_cases e : j = k; (rw [if_pos e, if_pos e]); rw [if_neg e, if_neg e, if_neg e]]
theorem sfl_cm (G : Gs) (f g h : Int64) : sfl (sfl (sfl G 4 f) 5 g) 4 h = sfl (sfl G 4 h) 5 g := by
  have e : up (up (up G.2.1 4 f) 5 g) 4 h = up (up G.2.1 4 h) 5 g := by
    funext j; unfold up
    by_cases c : j = 4
    · subst c; rfl
    · by_cases d : j = 5
      · subst d; rfl
      · rw [if_neg c, if_neg d, if_neg c, if_neg d, if_neg c]
  show (G.1, up (up (up G.2.1 4 f) 5 g) 4 h, G.2.2) = _
  rw [e]; rfl
theorem e0_e0 (b : Nat) (σ : Hs) (G H : Gs) : e0 b (e0 b σ G) H = e0 b σ H := eX_eX _ _ _
theorem AnO.self (h : AnO a G L U n σ) {H : Gs} (hl : ln H = ln G) (ha : al H = al G) (h2 : fi H 2 = fi G 2) : AnO a H L U n (e0 a σ H) := ⟨A0_self _ _, h.2.1, by rw [hl, h2]; exact h.2.2.1, by rw [ha]; exact h.2.2.2⟩
theorem x_ag53 (h : AnO a G L U n σ) (h0 : 0 < n) (hlu : ∀ k, k < n → (L k).toInt ≤ (U k).toInt) (hm : ∀ k, k < n → -1000000 ≤ (L k).toInt ∧ (U k).toInt ≤ 1000000) (h3 : fi G 3 = Int32.ofNat (agr L U n)) : fX0_agree_53 (e0 a σ (sfl (sfl G 4 1000000) 5 (-1000000))) a 0 = some (e0 a σ (sfl (sfl G 4 (sLw L U n).toInt64) 5 (sTp L U n).toInt64)) := by
  have h12 := h.2.1
  have hg := agr_le L U n
  unfold fX0_agree_53
  have inv : ∀ (k : Nat) v w, AnO a (sfl (sfl G 4 v) 5 w) L U n (e0 a σ (sfl (sfl G 4 v) 5 w)) := fun k v w => h.self rfl rfl rfl
  refine lp_q n (fun k z => z = (e0 a σ (sfl (sfl G 4 ((pLw L (pL L U n) k).getD 1000000).toInt64) 5 (pTp U (pU L U n) (-1000000) k).toInt64), a, Int32.ofNat k)) (fun X => X = some (e0 a σ (sfl (sfl G 4 (sLw L U n).toInt64) 5 (sTp L U n).toInt64))) ?_ ?_ fu 0 _ (by omega) rfl (by unfold fu; omega)
  · rintro K k _ hk rfl
    left
    have hA1 := fun v w => (inv k v w).1
    have b1 := hv_le L U (L k).toInt n
    have b2 := hv_le L U (U k).toInt n
    have hmk := hm k hk
    have hlk := hlu k hk
    have en0 := fun v w => (inv k v w).2.2.1.1
    have en1 := fun v w => (inv k v w).2.2.1.2.1
    have a0 : ∀ v w, al (sfl (sfl G 4 v) 5 w) 0 k = (L k).toInt64 := fun v w => ((inv k v w).2.2.2 k hk).1
    have a1 : ∀ v w, al (sfl (sfl G 4 v) 5 w) 1 k = (U k).toInt64 := fun v w => ((inv k v w).2.2.2 k hk).2
    have f2 : ∀ v w, fi (sfl (sfl G 4 v) 5 w) 2 = Int32.ofNat n := fun v w => (inv k v w).2.2.1.2.2
    have f3 : ∀ v w, fi (sfl (sfl G 4 v) 5 w) 3 = Int32.ofNat (agr L U n) := fun v w => h3
    have f4 : ∀ v w, fl (sfl (sfl G 4 v) 5 w) 4 = v := fun v w => rfl
    have f5 : ∀ v w, fl (sfl (sfl G 4 v) 5 w) 5 = w := fun v w => rfl
    have s95 : ∀ v (w : Int32), fX0_agree_95 (fun σ xv0 xv1 => K (σ, xv0, xv1)) (e0 a σ (sfl (sfl G 4 v) 5 w.toInt64)) a (Int32.ofNat k) = K (e0 a σ (sfl (sfl G 4 v) 5 (if pU L U n k = true then (if (U k).toInt ≤ w.toInt then w else U k) else w).toInt64), a, Int32.ofNat (k + 1)) := by
      intro v w
      unfold fX0_agree_95
      simp only [z0_g1 (hA1 _ _), z0_l1 (hA1 _ _), z0_C (hA1 _ _), z0_g3 (hA1 _ _), z0_g5 (hA1 _ _), z0_p5 (hA1 _ _), x_manyWith (inv k _ _), en1, a1, f3, f5, Option.bind_some, ix_n (show k < 2147483648 by omega), decide_eq_true hk, if_true, c32 (show k < 2147483648 by omega), suc32, up64, mx64, e0_e0, sfl_sfl, eqn (show hv L U (U k).toInt n < 2147483648 by omega) (show agr L U n < 2147483648 by omega)]
      unfold pU
      by_cases c : hv L U (U k).toInt n = agr L U n
      · rw [if_pos c, if_pos (decide_eq_true c)]
        by_cases d : (U k).toInt ≤ w.toInt
        · rw [if_pos d, if_pos d]
        · rw [if_neg d, if_neg d]
      · rw [if_neg c, if_neg (by simpa using c)]
    generalize hp : pLw L (pL L U n) k = y
    have e : pLw L (pL L U n) (k + 1) = if hv L U (L k).toInt n = agr L U n then some (mnO y (L k)) else y := by
      rw [pLw, hp]; unfold pL; simp only [decide_eq_true_eq]
    have e2 : pTp U (pU L U n) (-1000000) (k + 1) = if pU L U n k = true then (if (U k).toInt ≤ (pTp U (pU L U n) (-1000000) k).toInt then pTp U (pU L U n) (-1000000) k else U k) else pTp U (pU L U n) (-1000000) k := rfl
    simp only [fbX0_agree_53, z0_g0 (hA1 _ _), z0_l0 (hA1 _ _), z0_C (hA1 _ _), z0_g2 (hA1 _ _), z0_g3 (hA1 _ _), z0_g4 (hA1 _ _), z0_p4 (hA1 _ _), x_manyWith (inv k _ _), en0, a0, f2, f3, f4, Option.bind_some, ix_n (show k < 2147483648 by omega), decide_eq_true hk, if_true, c32 (show k < 2147483648 by omega), up64, mn64, e0_e0, sfl_cm, eqn (show hv L U (L k).toInt n < 2147483648 by omega) (show agr L U n < 2147483648 by omega), le_n (show n < 2147483648 by omega) (show k < 2147483648 by omega), if_neg (show ¬ n ≤ k by omega), s95]
    refine ⟨_, rfl, ?_⟩
    rw [e, ← e2]
    by_cases c : hv L U (L k).toInt n = agr L U n
    · rw [if_pos c, if_pos c]
      have ey : (if (y.getD 1000000).toInt ≤ (L k).toInt then (y.getD 1000000).toInt64 else (L k).toInt64) = ((some (mnO y (L k))).getD 1000000).toInt64 := by
        cases y with
        | none =>
          show (if (1000000 : Int32).toInt ≤ (L k).toInt then (1000000 : Int32).toInt64 else (L k).toInt64) = (L k).toInt64
          by_cases d : (1000000 : Int32).toInt ≤ (L k).toInt
          · rw [if_pos d]
            have : (1000000 : Int32).toInt = 1000000 := rfl
            have e9 : (1000000 : Int32) = L k := Int32.toInt.inj (by omega)
            rw [e9]
          · rw [if_neg d]
        | some s =>
          show (if s.toInt ≤ (L k).toInt then s.toInt64 else (L k).toInt64) = (if s.toInt ≤ (L k).toInt then s else L k).toInt64
          by_cases d : s.toInt ≤ (L k).toInt
          · rw [if_pos d, if_pos d]
          · rw [if_neg d, if_neg d]
      rw [ey]
    · rw [if_neg c, if_neg c]
  · rintro K _ rfl
    obtain ⟨q1, -⟩ := sLw_at h0 hlu
    have q2 := sTp_un h0 hlu (b := -1000000) (fun k hk => by have := hm k hk; have := hlu k hk; show (-1000000 : Int) ≤ _; omega)
    rw [q1, q2, Option.getD_some]
    have hI := inv 0 (sLw L U n).toInt64 (sTp L U n).toInt64
    simp only [fbX0_agree_53, z0_g2 hI.1, hI.2.2.1.2.2, Option.bind_some, Int32.le_refl, if_true]
theorem x_agree (h : AnO a G L U n σ) (h0 : 0 < n) (hlu : ∀ k, k < n → (L k).toInt ≤ (U k).toInt) (hm : ∀ k, k < n → -1000000 ≤ (L k).toInt ∧ (U k).toInt ≤ 1000000) (h3 : fi G 3 = 0) : fX0_agree_0 σ a = some (e0 a σ (sfl (sfl (sfi G 3 (Int32.ofNat (agr L U n))) 4 (sLw L U n).toInt64) 5 (sTp L U n).toInt64)) := by
  have h12 := h.2.1
  unfold fX0_agree_0 fX0_agree_2
  have inv : ∀ v, AnO a (sfi G 3 v) L U n (e0 a σ (sfi G 3 v)) := fun v => h.self rfl rfl rfl
  refine lp_q n (fun k z => z = (e0 a σ (sfi G 3 (Int32.ofNat (mxN (fun k => hv L U (L k).toInt n) k))), a, Int32.ofNat k)) (fun X => X = some (e0 a σ (sfl (sfl (sfi G 3 (Int32.ofNat (agr L U n))) 4 (sLw L U n).toInt64) 5 (sTp L U n).toInt64))) ?_ ?_ fu 0 _ (by omega) ?_ (by unfold fu; omega)
  · rintro K k _ hk rfl
    left
    have b1 := hv_le L U (L k).toInt n
    have b2 : mxN (fun k => hv L U (L k).toInt n) k ≤ n := mxN_le k (fun j _ => hv_le _ _ _ n)
    have hA1 := fun v => (inv v).1
    have en0 := fun v => (inv v).2.2.1.1
    have a0 : ∀ v, al (sfi G 3 v) 0 k = (L k).toInt64 := fun v => ((inv v).2.2.2 k hk).1
    have f2 : ∀ v, fi (sfi G 3 v) 2 = Int32.ofNat n := fun v => (inv v).2.2.1.2.2
    have f3 : ∀ v, fi (sfi G 3 v) 3 = v := fun v => rfl
    simp only [fbX0_agree_2, z0_g0 (hA1 _), z0_l0 (hA1 _), z0_C (hA1 _), z0_g2 (hA1 _), z0_g3 (hA1 _), z0_p3 (hA1 _), x_manyWith (inv _), en0, a0, f2, f3, Option.bind_some, ix_n (show k < 2147483648 by omega), decide_eq_true hk, if_true, c32 (show k < 2147483648 by omega), up64, mx32, e0_e0, sfi_sfi, suc32, le_n (show n < 2147483648 by omega) (show k < 2147483648 by omega), if_neg (show ¬ n ≤ k by omega), mx_n (show mxN (fun k => hv L U (L k).toInt n) k < 2147483648 by omega) (show hv L U (L k).toInt n < 2147483648 by omega)]
    exact ⟨_, rfl, rfl⟩
  · rintro K _ rfl
    have hI := inv (Int32.ofNat (mxN (fun k => hv L U (L k).toInt n) n))
    have hI2 : A0 a (sfl (sfi G 3 (Int32.ofNat (mxN (fun k => hv L U (L k).toInt n) n))) 4 1000000) (e0 a σ (sfl (sfi G 3 (Int32.ofNat (mxN (fun k => hv L U (L k).toInt n) n))) 4 1000000)) := A0_self _ _
    simp only [fbX0_agree_2, z0_g2 hI.1, hI.2.2.1.2.2, Option.bind_some, Int32.le_refl, if_true, z0_p4 hI.1, z0_p5 hI2, e0_e0]
    have q := x_ag53 hI h0 hlu hm rfl
    rw [e0_e0, e0_e0] at q
    exact q
  · rw [show sfi G 3 (Int32.ofNat (mxN (fun k => hv L U (L k).toInt n) 0)) = G from sfi_self _ _ _ h3, show e0 a σ G = σ from h.1]; rfl
end
