def mm (n : Nat) (f g : Nat → Int32) (x y : Int32) : Prop := ∃ i, i < n ∧ f i = x ∧ g i = y
theorem mm_mem {n : Nat} {f g : Nat → Int32} {p : Int × Int} : p ∈ lst n f g ↔ ∃ x y : Int32, p = (x.toInt, y.toInt) ∧ mm n f g x y := by
  unfold lst mm
  rw [List.mem_map]
  constructor
  · rintro ⟨i, hi, rfl⟩; exact ⟨f i, g i, rfl, i, List.mem_range.mp hi, rfl, rfl⟩
  · rintro ⟨x, y, rfl, i, hi, rfl, rfl⟩; exact ⟨i, List.mem_range.mpr hi, rfl⟩
theorem lst_nodup {n : Nat} {f g : Nat → Int32} (h : ∀ i j, i < n → j < n → f i = f j → i = j) : (lst n f g).Nodup := by
  unfold lst
  rw [List.Nodup, List.pairwise_map]
  have h0 : (List.range n).Nodup := List.nodup_range
  refine List.Pairwise.imp_of_mem ?_ h0
  intro a b ha hb hne e
  have h1 := congrArg Prod.fst e
  exact hne (h a b (List.mem_range.mp ha) (List.mem_range.mp hb) (eq32.mpr h1))
theorem mm_perm {n n' : Nat} {f g f' g' : Nat → Int32} (h : ∀ i j, i < n → j < n → f i = f j → i = j) (h' : ∀ i j, i < n' → j < n' → f' i = f' j → i = j) (e : ∀ x y, mm n f g x y ↔ mm n' f' g' x y) : (lst n f g).Perm (lst n' f' g') := by
  rw [List.perm_ext_iff_of_nodup (lst_nodup h) (lst_nodup h')]
  intro p
  rw [mm_mem, mm_mem]
  constructor
  · rintro ⟨x, y, h1, h2⟩; exact ⟨x, y, h1, (e x y).mp h2⟩
  · rintro ⟨x, y, h1, h2⟩; exact ⟨x, y, h1, (e x y).mpr h2⟩
theorem mm_len {n n' : Nat} {f g f' g' : Nat → Int32} (h : (lst n f g).Perm (lst n' f' g')) : n = n' := by
  have := h.length_eq; rwa [lst_len, lst_len] at this
theorem civ_perm {A B : List (Int × Int)} (h : A.Perm B) (c : Int) : civ A c = civ B c := by unfold civ; rw [bg_perm h, bg_perm h]
theorem x9_reckonStarts {b : Nat} {σ : Hs} {G : Gs} {cap n : Nat} (h : TV G cap n) : ∃ G', fX9_reckonStarts_0 (e9 b σ G) b = some (e9 b σ G') ∧ Fr [2] G G' ∧ ln G' 2 = ln G 2 ∧ TW G' cap n ∧ fi G' = fi G := by
  have hsb := sk_bd h.2.2.2.2.2.1
  have hT := h
  obtain ⟨hn, hc, h60, ⟨l0, l1, l2⟩, hs, hk, hr⟩ := h
  unfold fX9_reckonStarts_0 fX9_reckonStarts_4
  refine lp_q n (fun k z => ∃ G' : Gs, ∃ e : Int32, z = (e9 b σ G', b, e, Int32.ofNat k) ∧ Fr [2] G G' ∧ ln G' 2 = cap ∧ fi G' = fi G ∧ e.toInt = sk (ai G 1) k ∧ ∀ i, i < k → (al G' 2 i).toInt = bg (tt G n) (ai G 0 i).toInt) (fun X => ∃ G', X = some (e9 b σ G') ∧ Fr [2] G G' ∧ ln G' 2 = ln G 2 ∧ TW G' cap n ∧ fi G' = fi G) ?_ ?_ fu 0 _ (by omega) ⟨G, 0, rfl, Fr.refl _ _, l2, rfl, rfl, fun i hi => by omega⟩ (by unfold fu; omega)
  · rintro K k _ hk2 ⟨G', e, rfl, hF, hl2, hfi, he, hA⟩
    left
    simp only [fbX9_reckonStarts_4, y9_C, y9_g0, y9_l0, y9_s0, y9_n0, y9_g1, y9_l1, y9_s1, y9_n1, y9_g2, y9_l2, y9_s2, y9_n2, y9_g3, y9_p3, y9_g4, y9_p4, y9_g5, y9_p5, y9_g6, y9_p6, q_fi_sfi, q_fl_sfi, q_fr_sfi, q_ai_sfi, q_al_sfi, q_ar_sfi, q_ln_sfi, q_fi_sfl, q_fl_sfl, q_fr_sfl, q_ai_sfl, q_al_sfl, q_ar_sfl, q_ln_sfl, q_fi_sfr, q_fl_sfr, q_fr_sfr, q_ai_sfr, q_al_sfr, q_ar_sfr, q_ln_sfr, q_fi_sai, q_fl_sai, q_fr_sai, q_ai_sai, q_al_sai, q_ar_sai, q_ln_sai, q_fi_sal, q_fl_sal, q_fr_sal, q_ai_sal, q_al_sal, q_ar_sal, q_ln_sal, q_fi_sar, q_fl_sar, q_fr_sar, q_ai_sar, q_al_sar, q_ar_sar, q_ln_sar, reduceIte, Nat.reduceEqDiff, Option.bind_some, hfi, hn, hF.ln 0 (by decide), hF.ln 1 (by decide), hl2, l0, l1, l2, hF.ai 0 (by decide), hF.ai 1 (by decide), le_n (show n < 2147483648 by omega) (show k < 2147483648 by omega), if_neg (show ¬ n ≤ k by omega), ix_n (show k < 2147483648 by omega), decide_eq_true (show k < cap by omega), if_true, c32 (show k < 2147483648 by omega), suc32]
    have hb := hsb k (by omega)
    have hkk := hk k hk2
    have hrk := hr k hk2
    refine ⟨_, ⟨_, _, rfl, hF.sal (by decide) _, hl2, hfi, ?_, fun i hi => ?_⟩, rfl⟩
    · rw [add32, he]; rfl
      rw [he]; omega
    · simp only [q_fi_sfi, q_fl_sfi, q_fr_sfi, q_ai_sfi, q_al_sfi, q_ar_sfi, q_ln_sfi, q_fi_sfl, q_fl_sfl, q_fr_sfl, q_ai_sfl, q_al_sfl, q_ar_sfl, q_ln_sfl, q_fi_sfr, q_fl_sfr, q_fr_sfr, q_ai_sfr, q_al_sfr, q_ar_sfr, q_ln_sfr, q_fi_sai, q_fl_sai, q_fr_sai, q_ai_sai, q_al_sai, q_ar_sai, q_ln_sai, q_fi_sal, q_fl_sal, q_fr_sal, q_ai_sal, q_al_sal, q_ar_sal, q_ln_sal, q_fi_sar, q_fl_sar, q_fr_sar, q_ai_sar, q_al_sar, q_ar_sar, q_ln_sar, reduceIte, Nat.reduceEqDiff]
      rcases Nat.lt_or_ge i k with q | q
      · rw [up_ne _ _ _ _ (by omega)]; exact hA i q
      · have : i = k := by omega
        subst this
        rw [up_same]
        have e1 : (86400 * (ai G 0 i).toInt64).toInt = 86400 * (ai G 0 i).toInt := by
          rw [mul64, up64]; rfl
          rw [up64]; show _ ≤ 86400 * _ ∧ 86400 * _ < _; omega
        rw [add64, e1, up64, he]
        · unfold bg tt; rw [bs_cnt n i (by omega) (fun j hj => hs j i hj hk2) (fun j h1 h2 => hs.le h1 h2)]
        · rw [e1, up64, he]; omega
  · rintro K _ ⟨G', e, rfl, hF, hl2, hfi, he, hA⟩
    simp only [fbX9_reckonStarts_4, y9_C, y9_g0, y9_l0, y9_s0, y9_n0, y9_g1, y9_l1, y9_s1, y9_n1, y9_g2, y9_l2, y9_s2, y9_n2, y9_g3, y9_p3, y9_g4, y9_p4, y9_g5, y9_p5, y9_g6, y9_p6, Option.bind_some, hfi, hn, Int32.le_refl, if_true]
    refine ⟨G', rfl, hF, hl2.trans l2.symm, ⟨?_, ?_⟩, hfi⟩
    · unfold TV; rw [hfi, hF.ln 0 (by decide), hF.ln 1 (by decide), hl2, hF.ai 0 (by decide), hF.ai 1 (by decide)]; rw [l0, l1]; rw [← l2]; exact ⟨hn, by rw [l2]; exact hc, by rw [l2]; exact h60, ⟨l2.symm ▸ rfl, l2.symm ▸ rfl, rfl⟩, hs, hk, hr⟩
    · unfold tt; rw [hF.ai 0 (by decide), hF.ai 1 (by decide)]; exact hA
theorem x9_insertAt {b : Nat} {σ : Hs} {G : Gs} {cap n p : Nat} (h : TV G cap n) (hp : p ≤ n) (hcap : n < cap) (d k : Int32) (hd0 : 0 ≤ d.toInt) (hd1 : d.toInt ≤ 9999) (hk1 : k.toInt = 1 ∨ k.toInt = -1) (hlo : ∀ j, j < p → (ai G 0 j).toInt < d.toInt) (hhi : ∀ j, p ≤ j → j < n → d.toInt < (ai G 0 j).toInt) :
    ∃ G', fX9_insertAt_0 (e9 b σ G) b (Int32.ofNat p) d k = some (e9 b σ G') ∧ TV G' cap (n + 1) ∧ ∀ x y, mm (n + 1) (ai G' 0) (ai G' 1) x y ↔ (x = d ∧ y = k) ∨ mm n (ai G 0) (ai G 1) x y := by
  obtain ⟨hn, hc, h60, ⟨l0, l1, l2⟩, hs, hk, hr⟩ := h
  have key : ∃ G', fX9_insertAt_0 (e9 b σ G) b (Int32.ofNat p) d k = some (e9 b σ G') ∧ fi G' 3 = Int32.ofNat (n + 1) ∧ ln G' = ln G ∧ (∀ j, ai G' 0 j = if j < p then ai G 0 j else if j = p then d else if j ≤ n then ai G 0 (j - 1) else ai G 0 j) ∧ (∀ j, ai G' 1 j = if j < p then ai G 1 j else if j = p then k else if j ≤ n then ai G 1 (j - 1) else ai G 1 j) := by
    unfold fX9_insertAt_0 fX9_insertAt_6
    simp only [y9_g3, Option.bind_some]
    refine lp_q (n - p) (fun i z => ∃ G' : Gs, z = (e9 b σ G', b, Int32.ofNat p, d, k, Int32.ofNat (n - i)) ∧ i ≤ n - p ∧ fi G' = fi G ∧ ln G' = ln G ∧ (∀ j, ai G' 0 j = if j ≤ n - i then ai G 0 j else if j ≤ n then ai G 0 (j - 1) else ai G 0 j) ∧ (∀ j, ai G' 1 j = if j ≤ n - i then ai G 1 j else if j ≤ n then ai G 1 (j - 1) else ai G 1 j)) (fun X => ∃ G', X = some (e9 b σ G') ∧ fi G' 3 = Int32.ofNat (n + 1) ∧ ln G' = ln G ∧ (∀ j, ai G' 0 j = if j < p then ai G 0 j else if j = p then d else if j ≤ n then ai G 0 (j - 1) else ai G 0 j) ∧ (∀ j, ai G' 1 j = if j < p then ai G 1 j else if j = p then k else if j ≤ n then ai G 1 (j - 1) else ai G 1 j)) ?_ ?_ fu 0 _ (by omega) ?_ (by unfold fu; omega)
    · rintro K i _ hi ⟨G', rfl, hin, hfi, hln, hA, hB⟩
      left
      have e1 : Int32.ofNat (n - i) - 1 = Int32.ofNat (n - i - 1) := by
        rw [show n - i = n - i - 1 + 1 by omega, ← suc32]; simp
      have e2 : Int32.ofNat (n - i) + -1 = Int32.ofNat (n - (i + 1)) := by
        rw [show n - i = n - (i + 1) + 1 by omega, ← suc32, Int32.add_assoc]; simp
      simp only [fbX9_insertAt_6, y9_C, y9_g0, y9_l0, y9_s0, y9_n0, y9_g1, y9_l1, y9_s1, y9_n1, y9_g2, y9_l2, y9_s2, y9_n2, y9_g3, y9_p3, y9_g4, y9_p4, y9_g5, y9_p5, y9_g6, y9_p6, q_fi_sfi, q_fl_sfi, q_fr_sfi, q_ai_sfi, q_al_sfi, q_ar_sfi, q_ln_sfi, q_fi_sfl, q_fl_sfl, q_fr_sfl, q_ai_sfl, q_al_sfl, q_ar_sfl, q_ln_sfl, q_fi_sfr, q_fl_sfr, q_fr_sfr, q_ai_sfr, q_al_sfr, q_ar_sfr, q_ln_sfr, q_fi_sai, q_fl_sai, q_fr_sai, q_ai_sai, q_al_sai, q_ar_sai, q_ln_sai, q_fi_sal, q_fl_sal, q_fr_sal, q_ai_sal, q_al_sal, q_ar_sal, q_ln_sal, q_fi_sar, q_fl_sar, q_fr_sar, q_ai_sar, q_al_sar, q_ar_sar, q_ln_sar, reduceIte, Nat.reduceEqDiff, Option.bind_some, le_n (show n - i < 2147483648 by omega) (show p < 2147483648 by omega), if_neg (show ¬ n - i ≤ p by omega), hln, l0, l1, e1, e2, ix_n (show n - i < 2147483648 by omega), ix_n (show n - i - 1 < 2147483648 by omega), decide_eq_true (show n - i - 1 < cap by omega), decide_eq_true (show n - i < cap by omega), if_true, c32 (show n - i < 2147483648 by omega), c32 (show n - i - 1 < 2147483648 by omega)]
      refine ⟨_, ⟨_, rfl, ?_⟩, rfl⟩
      refine ⟨by omega, hfi, hln, fun j => ?_, fun j => ?_⟩
      · simp only [q_fi_sfi, q_fl_sfi, q_fr_sfi, q_ai_sfi, q_al_sfi, q_ar_sfi, q_ln_sfi, q_fi_sfl, q_fl_sfl, q_fr_sfl, q_ai_sfl, q_al_sfl, q_ar_sfl, q_ln_sfl, q_fi_sfr, q_fl_sfr, q_fr_sfr, q_ai_sfr, q_al_sfr, q_ar_sfr, q_ln_sfr, q_fi_sai, q_fl_sai, q_fr_sai, q_ai_sai, q_al_sai, q_ar_sai, q_ln_sai, q_fi_sal, q_fl_sal, q_fr_sal, q_ai_sal, q_al_sal, q_ar_sal, q_ln_sal, q_fi_sar, q_fl_sar, q_fr_sar, q_ai_sar, q_al_sar, q_ar_sar, q_ln_sar, reduceIte, Nat.reduceEqDiff]
        by_cases hj : j = n - i
        · subst hj; rw [up_same, hA, if_pos (by omega), if_neg (by omega), if_pos (by omega)]
        · rw [up_ne _ _ _ _ hj, hA]
          by_cases h1 : j ≤ n - (i + 1)
          · rw [if_pos (by omega), if_pos h1]
          · rw [if_neg (by omega), if_neg h1]
      · simp only [q_fi_sfi, q_fl_sfi, q_fr_sfi, q_ai_sfi, q_al_sfi, q_ar_sfi, q_ln_sfi, q_fi_sfl, q_fl_sfl, q_fr_sfl, q_ai_sfl, q_al_sfl, q_ar_sfl, q_ln_sfl, q_fi_sfr, q_fl_sfr, q_fr_sfr, q_ai_sfr, q_al_sfr, q_ar_sfr, q_ln_sfr, q_fi_sai, q_fl_sai, q_fr_sai, q_ai_sai, q_al_sai, q_ar_sai, q_ln_sai, q_fi_sal, q_fl_sal, q_fr_sal, q_ai_sal, q_al_sal, q_ar_sal, q_ln_sal, q_fi_sar, q_fl_sar, q_fr_sar, q_ai_sar, q_al_sar, q_ar_sar, q_ln_sar, reduceIte, Nat.reduceEqDiff]
        by_cases hj : j = n - i
        · subst hj; rw [up_same, hB, if_pos (by omega), if_neg (by omega), if_pos (by omega)]
        · rw [up_ne _ _ _ _ hj, hB]
          by_cases h1 : j ≤ n - (i + 1)
          · rw [if_pos (by omega), if_pos h1]
          · rw [if_neg (by omega), if_neg h1]
    · rintro K _ ⟨G', rfl, hin, hfi, hln, hA, hB⟩
      have e3 : n - (n - p) = p := by omega
      simp only [fbX9_insertAt_6, y9_C, y9_g0, y9_l0, y9_s0, y9_n0, y9_g1, y9_l1, y9_s1, y9_n1, y9_g2, y9_l2, y9_s2, y9_n2, y9_g3, y9_p3, y9_g4, y9_p4, y9_g5, y9_p5, y9_g6, y9_p6, q_fi_sfi, q_fl_sfi, q_fr_sfi, q_ai_sfi, q_al_sfi, q_ar_sfi, q_ln_sfi, q_fi_sfl, q_fl_sfl, q_fr_sfl, q_ai_sfl, q_al_sfl, q_ar_sfl, q_ln_sfl, q_fi_sfr, q_fl_sfr, q_fr_sfr, q_ai_sfr, q_al_sfr, q_ar_sfr, q_ln_sfr, q_fi_sai, q_fl_sai, q_fr_sai, q_ai_sai, q_al_sai, q_ar_sai, q_ln_sai, q_fi_sal, q_fl_sal, q_fr_sal, q_ai_sal, q_al_sal, q_ar_sal, q_ln_sal, q_fi_sar, q_fl_sar, q_fr_sar, q_ai_sar, q_al_sar, q_ar_sar, q_ln_sar, reduceIte, Nat.reduceEqDiff, Option.bind_some, e3, Int32.le_refl, if_true, hln, l0, l1, ix_n (show p < 2147483648 by omega), decide_eq_true (show p < cap by omega), c32 (show p < 2147483648 by omega), hfi, hn, suc32]
      refine ⟨_, rfl, ?_, hln, fun j => ?_, fun j => ?_⟩
      · simp only [q_fi_sfi, q_fl_sfi, q_fr_sfi, q_ai_sfi, q_al_sfi, q_ar_sfi, q_ln_sfi, q_fi_sfl, q_fl_sfl, q_fr_sfl, q_ai_sfl, q_al_sfl, q_ar_sfl, q_ln_sfl, q_fi_sfr, q_fl_sfr, q_fr_sfr, q_ai_sfr, q_al_sfr, q_ar_sfr, q_ln_sfr, q_fi_sai, q_fl_sai, q_fr_sai, q_ai_sai, q_al_sai, q_ar_sai, q_ln_sai, q_fi_sal, q_fl_sal, q_fr_sal, q_ai_sal, q_al_sal, q_ar_sal, q_ln_sal, q_fi_sar, q_fl_sar, q_fr_sar, q_ai_sar, q_al_sar, q_ar_sar, q_ln_sar, reduceIte, Nat.reduceEqDiff]
      · simp only [q_fi_sfi, q_fl_sfi, q_fr_sfi, q_ai_sfi, q_al_sfi, q_ar_sfi, q_ln_sfi, q_fi_sfl, q_fl_sfl, q_fr_sfl, q_ai_sfl, q_al_sfl, q_ar_sfl, q_ln_sfl, q_fi_sfr, q_fl_sfr, q_fr_sfr, q_ai_sfr, q_al_sfr, q_ar_sfr, q_ln_sfr, q_fi_sai, q_fl_sai, q_fr_sai, q_ai_sai, q_al_sai, q_ar_sai, q_ln_sai, q_fi_sal, q_fl_sal, q_fr_sal, q_ai_sal, q_al_sal, q_ar_sal, q_ln_sal, q_fi_sar, q_fl_sar, q_fr_sar, q_ai_sar, q_al_sar, q_ar_sar, q_ln_sar, reduceIte, Nat.reduceEqDiff]
        by_cases hj : j = p
        · subst hj; rw [up_same, if_neg (by omega), if_pos rfl]
        · rw [up_ne _ _ _ _ hj, hA, e3]
          by_cases h1 : j < p
          · rw [if_pos (by omega), if_pos h1]
          · rw [if_neg (by omega), if_neg h1, if_neg hj]
      · simp only [q_fi_sfi, q_fl_sfi, q_fr_sfi, q_ai_sfi, q_al_sfi, q_ar_sfi, q_ln_sfi, q_fi_sfl, q_fl_sfl, q_fr_sfl, q_ai_sfl, q_al_sfl, q_ar_sfl, q_ln_sfl, q_fi_sfr, q_fl_sfr, q_fr_sfr, q_ai_sfr, q_al_sfr, q_ar_sfr, q_ln_sfr, q_fi_sai, q_fl_sai, q_fr_sai, q_ai_sai, q_al_sai, q_ar_sai, q_ln_sai, q_fi_sal, q_fl_sal, q_fr_sal, q_ai_sal, q_al_sal, q_ar_sal, q_ln_sal, q_fi_sar, q_fl_sar, q_fr_sar, q_ai_sar, q_al_sar, q_ar_sar, q_ln_sar, reduceIte, Nat.reduceEqDiff]
        by_cases hj : j = p
        · subst hj; rw [up_same, if_neg (by omega), if_pos rfl]
        · rw [up_ne _ _ _ _ hj, hB, e3]
          by_cases h1 : j < p
          · rw [if_pos (by omega), if_pos h1]
          · rw [if_neg (by omega), if_neg h1, if_neg hj]
    · refine ⟨G, by rw [hn]; rfl, by omega, rfl, rfl, fun j => ?_, fun j => ?_⟩
      · by_cases h1 : j ≤ n - 0
        · rw [if_pos h1]
        · rw [if_neg h1, if_neg (by omega)]
      · by_cases h1 : j ≤ n - 0
        · rw [if_pos h1]
        · rw [if_neg h1, if_neg (by omega)]
  obtain ⟨G', e, hn', hln, hA, hB⟩ := key
  have hA1 : ∀ j, j < p → ai G' 0 j = ai G 0 j := fun j hj => by rw [hA, if_pos hj]
  have hA2 : ai G' 0 p = d := by rw [hA, if_neg (by omega), if_pos rfl]
  have hA3 : ∀ j, p < j → j ≤ n → ai G' 0 j = ai G 0 (j - 1) := fun j h1 h2 => by rw [hA, if_neg (by omega), if_neg (by omega), if_pos h2]
  have hB1 : ∀ j, j < p → ai G' 1 j = ai G 1 j := fun j hj => by rw [hB, if_pos hj]
  have hB2 : ai G' 1 p = k := by rw [hB, if_neg (by omega), if_pos rfl]
  have hB3 : ∀ j, p < j → j ≤ n → ai G' 1 j = ai G 1 (j - 1) := fun j h1 h2 => by rw [hB, if_neg (by omega), if_neg (by omega), if_pos h2]
  refine ⟨G', e, ⟨hn', by omega, h60, ⟨by rw [hln]; exact l0, by rw [hln]; exact l1, by rw [hln]; exact l2⟩, fun i j hij hj => ?_, fun i hi => ?_, fun i hi => ?_⟩, fun x y => ⟨?_, ?_⟩⟩
  · rcases Nat.lt_trichotomy i p with q | q | q
    · rw [hA1 i q]
      rcases Nat.lt_trichotomy j p with r | r | r
      · rw [hA1 j r]; exact hs i j hij (by omega)
      · rw [r, hA2]; exact hlo i q
      · rw [hA3 j r (by omega)]; exact hs i (j - 1) (by omega) (by omega)
    · rw [q, hA2, hA3 j (by omega) (by omega)]; exact hhi (j - 1) (by omega) (by omega)
    · rw [hA3 i q (by omega), hA3 j (by omega) (by omega)]; exact hs (i - 1) (j - 1) (by omega) (by omega)
  · rcases Nat.lt_trichotomy i p with q | q | q
    · rw [hB1 i q]; exact hk i (by omega)
    · rw [q, hB2]; exact hk1
    · rw [hB3 i q (by omega)]; exact hk (i - 1) (by omega)
  · rcases Nat.lt_trichotomy i p with q | q | q
    · rw [hA1 i q]; exact hr i (by omega)
    · rw [q, hA2]; exact ⟨hd0, hd1⟩
    · rw [hA3 i q (by omega)]; exact hr (i - 1) (by omega)
  · rintro ⟨i, hi, h1, h2⟩
    rcases Nat.lt_trichotomy i p with q | q | q
    · rw [hA1 i q] at h1; rw [hB1 i q] at h2; exact Or.inr ⟨i, by omega, h1, h2⟩
    · rw [q, hA2] at h1; rw [q, hB2] at h2; exact Or.inl ⟨h1.symm, h2.symm⟩
    · rw [hA3 i q (by omega)] at h1; rw [hB3 i q (by omega)] at h2; exact Or.inr ⟨i - 1, by omega, h1, h2⟩
  · rintro (⟨h1, h2⟩ | ⟨i, hi, h1, h2⟩)
    · exact ⟨p, by omega, by rw [hA2, h1], by rw [hB2, h2]⟩
    · rcases Nat.lt_or_ge i p with q | q
      · exact ⟨i, by omega, by rw [hA1 i q, h1], by rw [hB1 i q, h2]⟩
      · exact ⟨i + 1, by omega, by rw [hA3 (i + 1) (by omega) (by omega)]; exact h1, by rw [hB3 (i + 1) (by omega) (by omega)]; exact h2⟩
theorem x9_removeAt {b : Nat} {σ : Hs} {G : Gs} {cap n p : Nat} (h : TV G cap n) (hp : p < n) :
    ∃ G', fX9_removeAt_0 (e9 b σ G) b (Int32.ofNat p) = some (e9 b σ G') ∧ TV G' cap (n - 1) ∧ ∀ x y, mm (n - 1) (ai G' 0) (ai G' 1) x y ↔ x ≠ ai G 0 p ∧ mm n (ai G 0) (ai G 1) x y := by
  have hinj := h.2.2.2.2.1.inj
  obtain ⟨hn, hc, h60, ⟨l0, l1, l2⟩, hs, hk, hr⟩ := h
  have en : Int32.ofNat n - 1 = Int32.ofNat (n - 1) := by rw [show n = n - 1 + 1 by omega, ← suc32]; simp
  have key : ∃ G', fX9_removeAt_0 (e9 b σ G) b (Int32.ofNat p) = some (e9 b σ G') ∧ fi G' 3 = Int32.ofNat (n - 1) ∧ ln G' = ln G ∧ (∀ j, ai G' 0 j = if j < p then ai G 0 j else if j < n - 1 then ai G 0 (j + 1) else ai G 0 j) ∧ (∀ j, ai G' 1 j = if j < p then ai G 1 j else if j < n - 1 then ai G 1 (j + 1) else ai G 1 j) := by
    unfold fX9_removeAt_0 fX9_removeAt_12
    simp only [y9_g3, y9_p3, Option.bind_some, hn, en]
    refine lp_q (n - 1) (fun i z => ∃ G' : Gs, z = (e9 b σ G', b, Int32.ofNat i) ∧ p ≤ i ∧ fi G' 3 = Int32.ofNat (n - 1) ∧ ln G' = ln G ∧ (∀ j, ai G' 0 j = if j < p then ai G 0 j else if j < i then ai G 0 (j + 1) else ai G 0 j) ∧ (∀ j, ai G' 1 j = if j < p then ai G 1 j else if j < i then ai G 1 (j + 1) else ai G 1 j)) (fun X => ∃ G', X = some (e9 b σ G') ∧ fi G' 3 = Int32.ofNat (n - 1) ∧ ln G' = ln G ∧ (∀ j, ai G' 0 j = if j < p then ai G 0 j else if j < n - 1 then ai G 0 (j + 1) else ai G 0 j) ∧ (∀ j, ai G' 1 j = if j < p then ai G 1 j else if j < n - 1 then ai G 1 (j + 1) else ai G 1 j)) ?_ ?_ fu p _ (by omega) ⟨_, rfl, Nat.le_refl _, by simp only [q_fi_sfi, q_fl_sfi, q_fr_sfi, q_ai_sfi, q_al_sfi, q_ar_sfi, q_ln_sfi, q_fi_sfl, q_fl_sfl, q_fr_sfl, q_ai_sfl, q_al_sfl, q_ar_sfl, q_ln_sfl, q_fi_sfr, q_fl_sfr, q_fr_sfr, q_ai_sfr, q_al_sfr, q_ar_sfr, q_ln_sfr, q_fi_sai, q_fl_sai, q_fr_sai, q_ai_sai, q_al_sai, q_ar_sai, q_ln_sai, q_fi_sal, q_fl_sal, q_fr_sal, q_ai_sal, q_al_sal, q_ar_sal, q_ln_sal, q_fi_sar, q_fl_sar, q_fr_sar, q_ai_sar, q_al_sar, q_ar_sar, q_ln_sar, reduceIte, Nat.reduceEqDiff], rfl, fun j => ?_, fun j => ?_⟩ (by unfold fu; omega)
    · rintro K i _ hi ⟨G', rfl, hpi, hfi, hln, hA, hB⟩
      left
      simp only [fbX9_removeAt_12, y9_C, y9_g0, y9_l0, y9_s0, y9_n0, y9_g1, y9_l1, y9_s1, y9_n1, y9_g2, y9_l2, y9_s2, y9_n2, y9_g3, y9_p3, y9_g4, y9_p4, y9_g5, y9_p5, y9_g6, y9_p6, q_fi_sfi, q_fl_sfi, q_fr_sfi, q_ai_sfi, q_al_sfi, q_ar_sfi, q_ln_sfi, q_fi_sfl, q_fl_sfl, q_fr_sfl, q_ai_sfl, q_al_sfl, q_ar_sfl, q_ln_sfl, q_fi_sfr, q_fl_sfr, q_fr_sfr, q_ai_sfr, q_al_sfr, q_ar_sfr, q_ln_sfr, q_fi_sai, q_fl_sai, q_fr_sai, q_ai_sai, q_al_sai, q_ar_sai, q_ln_sai, q_fi_sal, q_fl_sal, q_fr_sal, q_ai_sal, q_al_sal, q_ar_sal, q_ln_sal, q_fi_sar, q_fl_sar, q_fr_sar, q_ai_sar, q_al_sar, q_ar_sar, q_ln_sar, reduceIte, Nat.reduceEqDiff, Option.bind_some, hfi, le_n (show n - 1 < 2147483648 by omega) (show i < 2147483648 by omega), if_neg (show ¬ n - 1 ≤ i by omega), suc32, hln, l0, l1, ix_n (show i + 1 < 2147483648 by omega), ix_n (show i < 2147483648 by omega), decide_eq_true (show i + 1 < cap by omega), decide_eq_true (show i < cap by omega), if_true, c32 (show i < 2147483648 by omega), c32 (show i + 1 < 2147483648 by omega)]
      refine ⟨_, ⟨_, rfl, ?_⟩, rfl⟩
      refine ⟨by omega, hfi, hln, fun j => ?_, fun j => ?_⟩
      · simp only [q_fi_sfi, q_fl_sfi, q_fr_sfi, q_ai_sfi, q_al_sfi, q_ar_sfi, q_ln_sfi, q_fi_sfl, q_fl_sfl, q_fr_sfl, q_ai_sfl, q_al_sfl, q_ar_sfl, q_ln_sfl, q_fi_sfr, q_fl_sfr, q_fr_sfr, q_ai_sfr, q_al_sfr, q_ar_sfr, q_ln_sfr, q_fi_sai, q_fl_sai, q_fr_sai, q_ai_sai, q_al_sai, q_ar_sai, q_ln_sai, q_fi_sal, q_fl_sal, q_fr_sal, q_ai_sal, q_al_sal, q_ar_sal, q_ln_sal, q_fi_sar, q_fl_sar, q_fr_sar, q_ai_sar, q_al_sar, q_ar_sar, q_ln_sar, reduceIte, Nat.reduceEqDiff]
        by_cases hj : j = i
        · subst hj; rw [up_same, hA, if_neg (by omega), if_neg (by omega), if_neg (by omega), if_pos (by omega)]
        · rw [up_ne _ _ _ _ hj, hA]
          by_cases h1 : j < p
          · rw [if_pos h1, if_pos h1]
          · rw [if_neg h1, if_neg h1]
            by_cases h2 : j < i
            · rw [if_pos h2, if_pos (by omega)]
            · rw [if_neg h2, if_neg (by omega)]
      · simp only [q_fi_sfi, q_fl_sfi, q_fr_sfi, q_ai_sfi, q_al_sfi, q_ar_sfi, q_ln_sfi, q_fi_sfl, q_fl_sfl, q_fr_sfl, q_ai_sfl, q_al_sfl, q_ar_sfl, q_ln_sfl, q_fi_sfr, q_fl_sfr, q_fr_sfr, q_ai_sfr, q_al_sfr, q_ar_sfr, q_ln_sfr, q_fi_sai, q_fl_sai, q_fr_sai, q_ai_sai, q_al_sai, q_ar_sai, q_ln_sai, q_fi_sal, q_fl_sal, q_fr_sal, q_ai_sal, q_al_sal, q_ar_sal, q_ln_sal, q_fi_sar, q_fl_sar, q_fr_sar, q_ai_sar, q_al_sar, q_ar_sar, q_ln_sar, reduceIte, Nat.reduceEqDiff]
        by_cases hj : j = i
        · subst hj; rw [up_same, hB, if_neg (by omega), if_neg (by omega), if_neg (by omega), if_pos (by omega)]
        · rw [up_ne _ _ _ _ hj, hB]
          by_cases h1 : j < p
          · rw [if_pos h1, if_pos h1]
          · rw [if_neg h1, if_neg h1]
            by_cases h2 : j < i
            · rw [if_pos h2, if_pos (by omega)]
            · rw [if_neg h2, if_neg (by omega)]
    · rintro K _ ⟨G', rfl, hpi, hfi, hln, hA, hB⟩
      simp only [fbX9_removeAt_12, y9_C, y9_g0, y9_l0, y9_s0, y9_n0, y9_g1, y9_l1, y9_s1, y9_n1, y9_g2, y9_l2, y9_s2, y9_n2, y9_g3, y9_p3, y9_g4, y9_p4, y9_g5, y9_p5, y9_g6, y9_p6, Option.bind_some, hfi, Int32.le_refl, if_true]
      exact ⟨_, rfl, hfi, hln, hA, hB⟩
    · simp only [q_fi_sfi, q_fl_sfi, q_fr_sfi, q_ai_sfi, q_al_sfi, q_ar_sfi, q_ln_sfi, q_fi_sfl, q_fl_sfl, q_fr_sfl, q_ai_sfl, q_al_sfl, q_ar_sfl, q_ln_sfl, q_fi_sfr, q_fl_sfr, q_fr_sfr, q_ai_sfr, q_al_sfr, q_ar_sfr, q_ln_sfr, q_fi_sai, q_fl_sai, q_fr_sai, q_ai_sai, q_al_sai, q_ar_sai, q_ln_sai, q_fi_sal, q_fl_sal, q_fr_sal, q_ai_sal, q_al_sal, q_ar_sal, q_ln_sal, q_fi_sar, q_fl_sar, q_fr_sar, q_ai_sar, q_al_sar, q_ar_sar, q_ln_sar, reduceIte, Nat.reduceEqDiff]; by_cases h1 : j < p
      · rw [if_pos h1]
      · rw [if_neg h1, if_neg h1]
    · simp only [q_fi_sfi, q_fl_sfi, q_fr_sfi, q_ai_sfi, q_al_sfi, q_ar_sfi, q_ln_sfi, q_fi_sfl, q_fl_sfl, q_fr_sfl, q_ai_sfl, q_al_sfl, q_ar_sfl, q_ln_sfl, q_fi_sfr, q_fl_sfr, q_fr_sfr, q_ai_sfr, q_al_sfr, q_ar_sfr, q_ln_sfr, q_fi_sai, q_fl_sai, q_fr_sai, q_ai_sai, q_al_sai, q_ar_sai, q_ln_sai, q_fi_sal, q_fl_sal, q_fr_sal, q_ai_sal, q_al_sal, q_ar_sal, q_ln_sal, q_fi_sar, q_fl_sar, q_fr_sar, q_ai_sar, q_al_sar, q_ar_sar, q_ln_sar, reduceIte, Nat.reduceEqDiff]; by_cases h1 : j < p
      · rw [if_pos h1]
      · rw [if_neg h1, if_neg h1]
  obtain ⟨G', e, hn', hln, hA, hB⟩ := key
  have hA1 : ∀ j, j < p → ai G' 0 j = ai G 0 j := fun j hj => by rw [hA, if_pos hj]
  have hA3 : ∀ j, p ≤ j → j < n - 1 → ai G' 0 j = ai G 0 (j + 1) := fun j h1 h2 => by rw [hA, if_neg (by omega), if_pos h2]
  have hB1 : ∀ j, j < p → ai G' 1 j = ai G 1 j := fun j hj => by rw [hB, if_pos hj]
  have hB3 : ∀ j, p ≤ j → j < n - 1 → ai G' 1 j = ai G 1 (j + 1) := fun j h1 h2 => by rw [hB, if_neg (by omega), if_pos h2]
  refine ⟨G', e, ⟨hn', by omega, h60, ⟨by rw [hln]; exact l0, by rw [hln]; exact l1, by rw [hln]; exact l2⟩, fun i j hij hj => ?_, fun i hi => ?_, fun i hi => ?_⟩, fun x y => ⟨?_, ?_⟩⟩
  · rcases Nat.lt_or_ge i p with q | q
    · rw [hA1 i q]
      rcases Nat.lt_or_ge j p with r | r
      · rw [hA1 j r]; exact hs i j hij (by omega)
      · rw [hA3 j r (by omega)]; exact hs i (j + 1) (by omega) (by omega)
    · rw [hA3 i q (by omega), hA3 j (by omega) (by omega)]; exact hs (i + 1) (j + 1) (by omega) (by omega)
  · rcases Nat.lt_or_ge i p with q | q
    · rw [hB1 i q]; exact hk i (by omega)
    · rw [hB3 i q (by omega)]; exact hk (i + 1) (by omega)
  · rcases Nat.lt_or_ge i p with q | q
    · rw [hA1 i q]; exact hr i (by omega)
    · rw [hA3 i q (by omega)]; exact hr (i + 1) (by omega)
  · rintro ⟨i, hi, h1, h2⟩
    rcases Nat.lt_or_ge i p with q | q
    · rw [hA1 i q] at h1; rw [hB1 i q] at h2
      exact ⟨fun e => by have := hinj i p (by omega) hp (h1.trans e); omega, i, by omega, h1, h2⟩
    · rw [hA3 i q (by omega)] at h1; rw [hB3 i q (by omega)] at h2
      exact ⟨fun e => by have := hinj (i + 1) p (by omega) hp (h1.trans e); omega, i + 1, by omega, h1, h2⟩
  · rintro ⟨h0, i, hi, h1, h2⟩
    rcases Nat.lt_trichotomy i p with q | q | q
    · exact ⟨i, by omega, by rw [hA1 i q, h1], by rw [hB1 i q, h2]⟩
    · rw [q] at h1; exact absurd h1.symm h0
    · exact ⟨i - 1, by omega, by rw [hA3 (i - 1) (by omega) (by omega), show i - 1 + 1 = i by omega]; exact h1, by rw [hB3 (i - 1) (by omega) (by omega), show i - 1 + 1 = i by omega]; exact h2⟩
theorem x9_tell {b : Nat} {σ : Hs} {G : Gs} {cap n : Nat} (h : TV G cap n) (d k : Int32) (hd0 : 0 ≤ d.toInt) (hd1 : d.toInt ≤ 9999) (hk1 : k = 0 ∨ k.toInt = 1 ∨ k.toInt = -1) (hcap : n < cap ∨ k = 0 ∨ ∃ y, mm n (ai G 0) (ai G 1) d y) :
    ∃ G' n', fX9_tell_0 (e9 b σ G) b d k = some (e9 b σ G') ∧ TW G' cap n' ∧ (∀ x y, mm n' (ai G' 0) (ai G' 1) x y ↔ (x = d ∧ y = k ∧ k ≠ 0) ∨ (x ≠ d ∧ mm n (ai G 0) (ai G 1) x y)) ∧ n' ≤ n + 1 := by
  obtain ⟨p, hp, e, h1, h2⟩ := x9_placeOf (b := b) (σ := σ) h d
  have hA := x9_isAt (b := b) (σ := σ) h hp d
  have hFu := x9_isFull (b := b) (σ := σ) h
  have hinj := h.2.2.2.2.1.inj
  have hT := h
  obtain ⟨hn, hc, h60, ⟨l0, l1, l2⟩, hs, hk, hr⟩ := h
  unfold fX9_tell_0
  simp only [y9_C, Option.bind_some, e, hA, b2i_0, hFu]
  have hfin : ∀ (G1 : Gs) (n1 : Nat), TV G1 cap n1 → ∃ G', fX9_reckonStarts_0 (e9 b σ G1) b = some (e9 b σ G') ∧ TW G' cap n1 ∧ ∀ x y, mm n1 (ai G' 0) (ai G' 1) x y ↔ mm n1 (ai G1 0) (ai G1 1) x y := by
    intro G1 n1 hT1
    obtain ⟨G', g1, g2, g3, g4, g5⟩ := x9_reckonStarts (b := b) (σ := σ) hT1
    exact ⟨G', g1, g4, fun x y => by rw [g2.ai 0 (by decide), g2.ai 1 (by decide)]⟩
  by_cases h3 : p < n ∧ ai G 0 p = d
  · have hda : ∀ x y, mm n (ai G 0) (ai G 1) x y → x = d → ∃ i, i = p ∧ y = ai G 1 p := by
      rintro x y ⟨i, hi, g1, g2⟩ rfl
      have := hinj i p hi h3.1 (g1.trans h3.2.symm)
      exact ⟨i, this, by rw [← g2, this]⟩
    rw [if_neg (by simpa using h3)]
    by_cases hk0 : k = 0
    · rw [if_pos hk0]
      obtain ⟨G1, g1, g2, g3⟩ := x9_removeAt (b := b) (σ := σ) hT h3.1
      simp only [g1, Option.bind_some, y9_C]
      obtain ⟨G', f1, f2, f3⟩ := hfin G1 (n - 1) g2
      simp only [f1, Option.bind_some]
      refine ⟨G', n - 1, rfl, f2, fun x y => ?_, by omega⟩
      rw [f3, g3, h3.2]
      constructor
      · intro q; exact Or.inr q
      · rintro (q | q)
        · exact absurd hk0 q.2.2
        · exact q
    · rw [if_neg hk0]
      simp only [y9_C, y9_g0, y9_l0, y9_s0, y9_n0, y9_g1, y9_l1, y9_s1, y9_n1, y9_g2, y9_l2, y9_s2, y9_n2, y9_g3, y9_p3, y9_g4, y9_p4, y9_g5, y9_p5, y9_g6, y9_p6, q_fi_sfi, q_fl_sfi, q_fr_sfi, q_ai_sfi, q_al_sfi, q_ar_sfi, q_ln_sfi, q_fi_sfl, q_fl_sfl, q_fr_sfl, q_ai_sfl, q_al_sfl, q_ar_sfl, q_ln_sfl, q_fi_sfr, q_fl_sfr, q_fr_sfr, q_ai_sfr, q_al_sfr, q_ar_sfr, q_ln_sfr, q_fi_sai, q_fl_sai, q_fr_sai, q_ai_sai, q_al_sai, q_ar_sai, q_ln_sai, q_fi_sal, q_fl_sal, q_fr_sal, q_ai_sal, q_al_sal, q_ar_sal, q_ln_sal, q_fi_sar, q_fl_sar, q_fr_sar, q_ai_sar, q_al_sar, q_ar_sar, q_ln_sar, reduceIte, Nat.reduceEqDiff, Option.bind_some, l1, ix_n (show p < 2147483648 by omega), decide_eq_true (show p < cap by omega), if_true, c32 (show p < 2147483648 by omega)]
      have hT1 : TV (sai G 1 (up (ai G 1) p k)) cap n := by
        refine ⟨hn, hc, h60, ⟨l0, l1, l2⟩, hs, fun i hi => ?_, hr⟩
        simp only [q_fi_sfi, q_fl_sfi, q_fr_sfi, q_ai_sfi, q_al_sfi, q_ar_sfi, q_ln_sfi, q_fi_sfl, q_fl_sfl, q_fr_sfl, q_ai_sfl, q_al_sfl, q_ar_sfl, q_ln_sfl, q_fi_sfr, q_fl_sfr, q_fr_sfr, q_ai_sfr, q_al_sfr, q_ar_sfr, q_ln_sfr, q_fi_sai, q_fl_sai, q_fr_sai, q_ai_sai, q_al_sai, q_ar_sai, q_ln_sai, q_fi_sal, q_fl_sal, q_fr_sal, q_ai_sal, q_al_sal, q_ar_sal, q_ln_sal, q_fi_sar, q_fl_sar, q_fr_sar, q_ai_sar, q_al_sar, q_ar_sar, q_ln_sar, reduceIte, Nat.reduceEqDiff]
        by_cases hip : i = p
        · subst hip; rw [up_same]; rcases hk1 with q | q; exact absurd q hk0; exact q
        · rw [up_ne _ _ _ _ hip]; exact hk i hi
      obtain ⟨G', f1, f2, f3⟩ := hfin _ n hT1
      simp only [f1, Option.bind_some]
      refine ⟨G', n, rfl, f2, fun x y => ?_, by omega⟩
      rw [f3]
      simp only [q_fi_sfi, q_fl_sfi, q_fr_sfi, q_ai_sfi, q_al_sfi, q_ar_sfi, q_ln_sfi, q_fi_sfl, q_fl_sfl, q_fr_sfl, q_ai_sfl, q_al_sfl, q_ar_sfl, q_ln_sfl, q_fi_sfr, q_fl_sfr, q_fr_sfr, q_ai_sfr, q_al_sfr, q_ar_sfr, q_ln_sfr, q_fi_sai, q_fl_sai, q_fr_sai, q_ai_sai, q_al_sai, q_ar_sai, q_ln_sai, q_fi_sal, q_fl_sal, q_fr_sal, q_ai_sal, q_al_sal, q_ar_sal, q_ln_sal, q_fi_sar, q_fl_sar, q_fr_sar, q_ai_sar, q_al_sar, q_ar_sar, q_ln_sar, reduceIte, Nat.reduceEqDiff]
      constructor
      · rintro ⟨i, hi, g1, g2⟩
        by_cases hip : i = p
        · subst hip; rw [up_same] at g2; exact Or.inl ⟨g1.symm.trans h3.2, g2.symm, hk0⟩
        · rw [up_ne _ _ _ _ hip] at g2
          exact Or.inr ⟨fun q => hip (hinj i p hi h3.1 (g1.trans (q.trans h3.2.symm))), i, hi, g1, g2⟩
      · rintro (⟨q1, q2, _⟩ | ⟨q1, i, hi, g1, g2⟩)
        · exact ⟨p, h3.1, by rw [h3.2, q1], by rw [up_same, q2]⟩
        · refine ⟨i, hi, g1, ?_⟩
          rw [up_ne _ _ _ _ (fun q => q1 (by rw [← g1, q, h3.2]))]; exact g2
  · rw [if_pos h3]
    have hno : ∀ x y, mm n (ai G 0) (ai G 1) x y → x ≠ d := by
      rintro x y ⟨i, hi, g1, g2⟩ rfl
      rcases Nat.lt_trichotomy i p with q | q | q
      · have := h1 i q; rw [g1] at this; omega
      · subst q; exact h3 ⟨hi, g1⟩
      · have h5 := hs p i q hi
        have h6 := h2 p (Nat.le_refl _) (by omega)
        rw [g1] at h5; omega
    by_cases hk0 : k = 0
    · rw [if_pos hk0]
      obtain ⟨G', f1, f2, f3⟩ := hfin G n hT
      simp only [f1, Option.bind_some]
      refine ⟨G', n, rfl, f2, fun x y => ?_, by omega⟩
      rw [f3]
      constructor
      · intro q; exact Or.inr ⟨hno x y q, q⟩
      · rintro (q | q)
        · exact absurd hk0 q.2.2
        · exact q.2
    · rw [if_neg hk0]
      have hlt : n < cap := by
        rcases hcap with q | q | ⟨y, q⟩
        · exact q
        · exact absurd q hk0
        · exact absurd rfl (hno d y q)
      rw [if_pos (by omega)]
      obtain ⟨G1, g1, g2, g3⟩ := x9_insertAt (b := b) (σ := σ) hT hp hlt d k hd0 hd1 (by rcases hk1 with q | q; exact absurd q hk0; exact q) h1 (fun j q1 q2 => by
        have q3 := h2 j q1 q2
        rcases Int.lt_or_eq_of_le q3 with q4 | q4
        · exact q4
        · exact absurd rfl (hno _ _ ⟨j, q2, eq32.mpr q4.symm, rfl⟩))
      simp only [g1, Option.bind_some, y9_C]
      obtain ⟨G', f1, f2, f3⟩ := hfin G1 (n + 1) g2
      simp only [f1, Option.bind_some]
      refine ⟨G', n + 1, rfl, f2, fun x y => ?_, by omega⟩
      rw [f3, g3]
      constructor
      · rintro (q | q)
        · exact Or.inl ⟨q.1, q.2, hk0⟩
        · exact Or.inr ⟨hno x y q, q⟩
      · rintro (q | q)
        · exact Or.inl ⟨q.1, q.2.1⟩
        · exact Or.inr q.2
