def sk (g : Nat → Int32) : Nat → Int
  | 0 => 0
  | n + 1 => sk g n + (g n).toInt
def Srt (n : Nat) (f : Nat → Int32) : Prop := ∀ i j, i < j → j < n → (f i).toInt < (f j).toInt
theorem bs_cnt {f g : Nat → Int32} {d : Int} : ∀ (n p : Nat), p ≤ n → (∀ j, j < p → (f j).toInt < d) → (∀ j, p ≤ j → j < n → d ≤ (f j).toInt) → bs (lst n f g) d = sk g p := by
  intro n
  induction n with
  | zero => intro p hp _ _; have : p = 0 := by omega
            subst this; rfl
  | succ n ih =>
    intro p hp h1 h2
    rw [lst_succ, bs_app, bs_one]
    by_cases hpn : p = n + 1
    · subst hpn
      rw [ih n (Nat.le_refl _) (fun j hj => h1 j (by omega)) (fun j h3 h4 => by omega), if_pos (h1 n (by omega))]; rfl
    · rw [ih p (by omega) h1 (fun j h3 h4 => h2 j h3 (by omega)), if_neg (by have := h2 n (by omega) (by omega); omega)]; omega
theorem sk_congr {g g' : Nat → Int32} : ∀ (n : Nat), (∀ i, i < n → g i = g' i) → sk g n = sk g' n := by
  intro n
  induction n with
  | zero => intro _; rfl
  | succ n ih => intro h; show sk g n + _ = sk g' n + _; rw [ih (fun i hi => h i (by omega)), h n (by omega)]
theorem sk_bd {g : Nat → Int32} {n : Nat} (h : ∀ i, i < n → (g i).toInt = 1 ∨ (g i).toInt = -1) : ∀ k, k ≤ n → -(k : Int) ≤ sk g k ∧ sk g k ≤ k := by
  intro k
  induction k with
  | zero => intro _; exact ⟨Int.le_refl _, Int.le_refl _⟩
  | succ k ih =>
    intro hk
    have h1 := ih (by omega)
    have h2 := h k (by omega)
    show _ ≤ sk g k + _ ∧ sk g k + _ ≤ _
    omega
def TV (G : Gs) (cap n : Nat) : Prop := fi G 3 = Int32.ofNat n ∧ n ≤ cap ∧ cap ≤ 60 ∧ (ln G 0 = cap ∧ ln G 1 = cap ∧ ln G 2 = cap) ∧ Srt n (ai G 0) ∧ (∀ i, i < n → (ai G 1 i).toInt = 1 ∨ (ai G 1 i).toInt = -1) ∧ ∀ i, i < n → 0 ≤ (ai G 0 i).toInt ∧ (ai G 0 i).toInt ≤ 9999
def tt (G : Gs) (n : Nat) : List (Int × Int) := lst n (ai G 0) (ai G 1)
def TW (G : Gs) (cap n : Nat) : Prop := TV G cap n ∧ ∀ i, i < n → (al G 2 i).toInt = bg (tt G n) (ai G 0 i).toInt
theorem Srt.inj {n : Nat} {f : Nat → Int32} (h : Srt n f) : ∀ i j, i < n → j < n → f i = f j → i = j := by
  intro i j hi hj e
  rcases Nat.lt_trichotomy i j with q | q | q
  · have := h i j q hj; rw [e] at this; omega
  · exact q
  · have := h j i q hi; rw [e] at this; omega
theorem Srt.le {n : Nat} {f : Nat → Int32} (h : Srt n f) {i j : Nat} (hij : i ≤ j) (hj : j < n) : (f i).toInt ≤ (f j).toInt := by
  rcases Nat.lt_or_ge i j with q | q
  · have := h i j q hj; omega
  · have : j = i := by omega
    rw [this]; exact Int.le_refl _
theorem TV.tok {G : Gs} {cap n : Nat} (h : TV G cap n) : Tok n (ai G 0) (ai G 1) := ⟨by have := h.2.1; have := h.2.2.1; omega, h.2.2.2.2.2.1, h.2.2.2.2.1.inj⟩
theorem x9_placeOf {b : Nat} {σ : Hs} {G : Gs} {cap n : Nat} (h : TV G cap n) (d : Int32) :
    ∃ p, p ≤ n ∧ fX9_placeOf_0 (e9 b σ G) b d = some (Int32.ofNat p) ∧ (∀ j, j < p → (ai G 0 j).toInt < d.toInt) ∧ ∀ j, p ≤ j → j < n → d.toInt ≤ (ai G 0 j).toInt := by
  obtain ⟨hn, hc, h60, ⟨l0, l1, l2⟩, hs, hk, hr⟩ := h
  unfold fX9_placeOf_0 fX9_placeOf_2
  refine lp_q n (fun k z => z = (b, d, Int32.ofNat k) ∧ ∀ j, j < k → (ai G 0 j).toInt < d.toInt) (fun X => ∃ p, p ≤ n ∧ X = some (Int32.ofNat p) ∧ (∀ j, j < p → (ai G 0 j).toInt < d.toInt) ∧ ∀ j, p ≤ j → j < n → d.toInt ≤ (ai G 0 j).toInt) ?_ ?_ fu 0 _ (by omega) ⟨rfl, fun i hi => by omega⟩ (by unfold fu; omega)
  · rintro K k _ hk2 ⟨rfl, hA⟩
    simp only [fbX9_placeOf_2, y9_C, y9_g0, y9_l0, y9_s0, y9_n0, y9_g1, y9_l1, y9_s1, y9_n1, y9_g2, y9_l2, y9_s2, y9_n2, y9_g3, y9_p3, y9_g4, y9_p4, y9_g5, y9_p5, y9_g6, y9_p6, Option.bind_some, hn, l0, le_n (show n < 2147483648 by omega) (show k < 2147483648 by omega), if_neg (show ¬ n ≤ k by omega), ix_n (show k < 2147483648 by omega), decide_eq_true (show k < cap by omega), if_true, c32 (show k < 2147483648 by omega), suc32]
    by_cases hd : d ≤ ai G 0 k
    · right
      rw [if_pos hd]
      rw [le32] at hd
      refine ⟨k, by omega, rfl, hA, fun j h1 h2 => ?_⟩
      rcases Nat.lt_or_ge k j with q | q
      · have := hs k j q h2; omega
      · have : j = k := by omega
        rw [this]; exact hd
    · left
      rw [if_neg hd]
      rw [le32] at hd
      refine ⟨_, ⟨rfl, fun j hj => ?_⟩, rfl⟩
      rcases Nat.lt_or_ge j k with q | q
      · exact hA j q
      · have : j = k := by omega
        rw [this]; omega
  · rintro K _ ⟨rfl, hA⟩
    simp only [fbX9_placeOf_2, y9_C, y9_g0, y9_l0, y9_s0, y9_n0, y9_g1, y9_l1, y9_s1, y9_n1, y9_g2, y9_l2, y9_s2, y9_n2, y9_g3, y9_p3, y9_g4, y9_p4, y9_g5, y9_p5, y9_g6, y9_p6, Option.bind_some, hn, Int32.le_refl, if_true]
    exact ⟨n, Nat.le_refl _, rfl, hA, fun j h1 h2 => by omega⟩
theorem x9_isAt {b : Nat} {σ : Hs} {G : Gs} {cap n p : Nat} (h : TV G cap n) (hp : p ≤ n) (d : Int32) : fX9_isAt_0 (e9 b σ G) b (Int32.ofNat p) d = some (b2i (p < n ∧ ai G 0 p = d)) := by
  obtain ⟨hn, hc, h60, ⟨l0, l1, l2⟩, hs, hk, hr⟩ := h
  unfold fX9_isAt_0 b2i
  simp only [y9_C, y9_g0, y9_l0, y9_s0, y9_n0, y9_g1, y9_l1, y9_s1, y9_n1, y9_g2, y9_l2, y9_s2, y9_n2, y9_g3, y9_p3, y9_g4, y9_p4, y9_g5, y9_p5, y9_g6, y9_p6, Option.bind_some, hn, l0, le_n (show n < 2147483648 by omega) (show p < 2147483648 by omega), ix_n (show p < 2147483648 by omega), c32 (show p < 2147483648 by omega)]
  by_cases h1 : n ≤ p
  · rw [if_pos h1, if_neg (by omega)]; rfl
  · rw [if_neg h1, if_pos (by simp; omega), Option.bind_some]
    by_cases h2 : ai G 0 p = d
    · rw [if_pos h2, if_pos ⟨by omega, h2⟩]; rfl
    · rw [if_neg h2, if_neg (fun q => h2 q.2)]; rfl
theorem x9_kindOf {b : Nat} {σ : Hs} {G : Gs} {cap n : Nat} (h : TV G cap n) (d : Int32) : ∃ r, fX9_kindOf_0 (e9 b σ G) b d = some r ∧ r.toInt = kd (tt G n) d.toInt := by
  obtain ⟨p, hp, e, h1, h2⟩ := x9_placeOf (b := b) (σ := σ) h d
  have hA := x9_isAt (b := b) (σ := σ) h hp d
  have hi := h.2.2.2.2.1.inj
  obtain ⟨hn, hc, h60, ⟨l0, l1, l2⟩, hs, hk, hr⟩ := h
  unfold fX9_kindOf_0
  simp only [y9_C, y9_g0, y9_l0, y9_s0, y9_n0, y9_g1, y9_l1, y9_s1, y9_n1, y9_g2, y9_l2, y9_s2, y9_n2, y9_g3, y9_p3, y9_g4, y9_p4, y9_g5, y9_p5, y9_g6, y9_p6, Option.bind_some, e, hA, b2i_0, l1, ix_n (show p < 2147483648 by omega), c32 (show p < 2147483648 by omega)]
  by_cases h3 : p < n ∧ ai G 0 p = d
  · rw [if_neg (by simpa using h3), if_pos (by simp; omega)]
    exact ⟨_, rfl, (kd_at h3.1 hi h3.2).symm⟩
  · rw [if_pos h3]
    refine ⟨_, rfl, (kd_no (fun i hi2 e2 => ?_)).symm⟩
    rcases Nat.lt_trichotomy i p with q | q | q
    · have := h1 i q; rw [e2] at this; omega
    · subst q; exact h3 ⟨hi2, e2⟩
    · have h4 := h2 p (Nat.le_refl _) (by omega)
      have h5 := hs p i q hi2
      rw [e2] at h5; omega
theorem x9_startOf {b : Nat} {σ : Hs} {G : Gs} {cap n : Nat} (h : TV G cap n) (d : Int32) : ∃ r, fX9_startOf_0 (e9 b σ G) b d = some r ∧ r.toInt = bg (tt G n) d.toInt := by
  have hsb := sk_bd h.2.2.2.2.2.1
  obtain ⟨hn, hc, h60, ⟨l0, l1, l2⟩, hs, hk, hr⟩ := h
  have hd := r32 d
  unfold fX9_startOf_0 fX9_startOf_10
  refine lp_q n (fun k z => ∃ c : Int64, z = (b, d, c, Int32.ofNat k) ∧ c.toInt = 86400 * d.toInt + sk (ai G 1) k ∧ ∀ j, j < k → (ai G 0 j).toInt < d.toInt) (fun X => ∃ r : Int64, X = some r ∧ r.toInt = bg (tt G n) d.toInt) ?_ ?_ fu 0 _ (by omega) ⟨_, rfl, ?_, fun i hi => by omega⟩ (by unfold fu; omega)
  · rintro K k _ hk2 ⟨c, rfl, hcv, hA⟩
    simp only [fbX9_startOf_10, y9_C, y9_g0, y9_l0, y9_s0, y9_n0, y9_g1, y9_l1, y9_s1, y9_n1, y9_g2, y9_l2, y9_s2, y9_n2, y9_g3, y9_p3, y9_g4, y9_p4, y9_g5, y9_p5, y9_g6, y9_p6, Option.bind_some, hn, l0, l1, le_n (show n < 2147483648 by omega) (show k < 2147483648 by omega), if_neg (show ¬ n ≤ k by omega), ix_n (show k < 2147483648 by omega), decide_eq_true (show k < cap by omega), if_true, c32 (show k < 2147483648 by omega), suc32]
    by_cases hdk : d ≤ ai G 0 k
    · right
      rw [if_pos hdk]
      rw [le32] at hdk
      refine ⟨_, rfl, ?_⟩
      unfold bg tt
      rw [bs_cnt n k (by omega) hA (fun j h1 h2 => ?_), hcv]
      rcases Nat.lt_or_ge k j with q | q
      · have := hs k j q h2; omega
      · have : j = k := by omega
        rw [this]; exact hdk
    · left
      rw [if_neg hdk]
      rw [le32] at hdk
      have hb := hsb k (by omega)
      have hb2 := hk k hk2
      refine ⟨_, ⟨_, rfl, ?_, fun j hj => ?_⟩, rfl⟩
      · rw [add64, up64, hcv]
        · show _ = 86400 * d.toInt + (sk (ai G 1) k + _); omega
        · rw [up64, hcv]; omega
      · rcases Nat.lt_or_ge j k with q | q
        · exact hA j q
        · have : j = k := by omega
          rw [this]; omega
  · rintro K _ ⟨c, rfl, hcv, hA⟩
    simp only [fbX9_startOf_10, y9_C, y9_g0, y9_l0, y9_s0, y9_n0, y9_g1, y9_l1, y9_s1, y9_n1, y9_g2, y9_l2, y9_s2, y9_n2, y9_g3, y9_p3, y9_g4, y9_p4, y9_g5, y9_p5, y9_g6, y9_p6, Option.bind_some, hn, Int32.le_refl, if_true]
    refine ⟨_, rfl, ?_⟩
    unfold bg tt
    rw [bs_cnt n n (Nat.le_refl _) hA (fun j h1 h2 => by omega), hcv]
  · rw [mul64, up64]
    · show 86400 * _ = 86400 * d.toInt + 0; omega
    · rw [up64]; show _ ≤ 86400 * _ ∧ 86400 * _ < _; omega
theorem x9_lengthOf {b : Nat} {σ : Hs} {G : Gs} {cap n : Nat} (h : TV G cap n) (d : Int32) : ∃ r, fX9_lengthOf_0 (e9 b σ G) b d = some r ∧ r.toInt = 86400 + kd (tt G n) d.toInt := by
  obtain ⟨r, e1, e2⟩ := x9_kindOf (b := b) (σ := σ) h d
  have h1 := kd_1 h.tok d.toInt
  unfold fX9_lengthOf_0
  simp only [y9_C, Option.bind_some, e1]
  refine ⟨_, rfl, ?_⟩
  unfold tt at e2
  rw [add32, e2]; rfl
  rw [e2]; show _ ≤ 86400 + _ ∧ 86400 + _ < _; omega
theorem x9_isFull {b : Nat} {σ : Hs} {G : Gs} {cap n : Nat} (h : TV G cap n) : fX9_isFull_0 (e9 b σ G) b = some (b2i (cap ≤ n)) := by
  obtain ⟨hn, hc, h60, ⟨l0, l1, l2⟩, hs, hk, hr⟩ := h
  unfold fX9_isFull_0 b2i
  simp only [y9_C, y9_g0, y9_l0, y9_s0, y9_n0, y9_g1, y9_l1, y9_s1, y9_n1, y9_g2, y9_l2, y9_s2, y9_n2, y9_g3, y9_p3, y9_g4, y9_p4, y9_g5, y9_p5, y9_g6, y9_p6, Option.bind_some, hn, l0, lt_n (show n < 2147483648 by omega) (show cap < 2147483648 by omega)]
  by_cases h1 : n < cap
  · rw [if_pos h1, if_neg (by omega)]; rfl
  · rw [if_neg h1, if_pos (by omega)]; rfl
theorem x9_nearestCount {b : Nat} {σ : Hs} {G : Gs} {cap n : Nat} (h : TV G cap n) (d s : Int32) (hd0 : -1000000 ≤ d.toInt) (hd : d.toInt ≤ 1000000) :
    ∃ r, fX9_nearestCount_0 (e9 b σ G) b d s = some r ∧ r.toInt = if s.toInt < 86400 + kd (tt G n) d.toInt then bg (tt G n) d.toInt + s.toInt else bg (tt G n) (d.toInt + 1) := by
  obtain ⟨r, e1, e2⟩ := x9_lengthOf (b := b) (σ := σ) h d
  obtain ⟨r2, e3, e4⟩ := x9_startOf (b := b) (σ := σ) h (d + 1)
  obtain ⟨r3, e5, e6⟩ := x9_startOf (b := b) (σ := σ) h d
  have hd1 : (d + 1).toInt = d.toInt + 1 := by rw [add32]; rfl; show _ ≤ _ + 1 ∧ _ + 1 < _; omega
  have hb := bs_1 h.tok d.toInt
  have hs := r32 s
  unfold fX9_nearestCount_0
  simp only [y9_C, Option.bind_some, e1, e3, e5]
  by_cases hc : r ≤ s
  · rw [if_pos hc]
    rw [le32, e2] at hc
    exact ⟨_, rfl, by rw [if_neg (by omega), e4, hd1]⟩
  · rw [if_neg hc]
    rw [le32, e2] at hc
    refine ⟨_, rfl, ?_⟩
    rw [if_pos (by omega), add64, e6, up64]
    rw [e6, up64]; unfold bg tt; omega
theorem x9_turnToPlainDay {b : Nat} {σ : Hs} {G : Gs} (d : Int32) (c : Int64) (hd0 : 0 ≤ d.toInt) (hd1 : d.toInt ≤ 100000) (hc0 : 0 ≤ c.toInt) (hc1 : c.toInt ≤ 2000000000) :
    ∃ G', fX9_turnToPlainDay_0 (e9 b σ G) b d c = some (e9 b σ G') ∧ Fr [4, 5, 6] G G' ∧ (fi G' 4).toInt = d.toInt + c.toInt / 86400 ∧ (fi G' 5).toInt = c.toInt % 86400 ∧ (fi G' 6).toInt = 0 := by
  have hq := Int.mul_ediv_add_emod c.toInt 86400
  have hr := Int.emod_nonneg c.toInt (b := 86400) (by omega)
  have hr2 := Int.emod_lt_of_pos c.toInt (b := 86400) (by omega)
  have e1 : (c / 86400).toInt = c.toInt / 86400 := by rw [div64 (by decide)]; exact Int.tdiv_eq_ediv_of_nonneg hc0
  have e2 : (c - c / 86400 * 86400).toInt = c.toInt % 86400 := by rw [rem64 (by decide)]; exact Int.tmod_eq_emod_of_nonneg hc0
  unfold fX9_turnToPlainDay_0
  simp only [y9_C, y9_g0, y9_l0, y9_s0, y9_n0, y9_g1, y9_l1, y9_s1, y9_n1, y9_g2, y9_l2, y9_s2, y9_n2, y9_g3, y9_p3, y9_g4, y9_p4, y9_g5, y9_p5, y9_g6, y9_p6, Option.bind_some]
  refine ⟨_, rfl, (((Fr.refl _ _).sfi (by decide) _).sfi (by decide) _).sfi (by decide) _, ?_, ?_, ?_⟩
  · simp only [q_fi_sfi, q_fl_sfi, q_fr_sfi, q_ai_sfi, q_al_sfi, q_ar_sfi, q_ln_sfi, q_fi_sfl, q_fl_sfl, q_fr_sfl, q_ai_sfl, q_al_sfl, q_ar_sfl, q_ln_sfl, q_fi_sfr, q_fl_sfr, q_fr_sfr, q_ai_sfr, q_al_sfr, q_ar_sfr, q_ln_sfr, q_fi_sai, q_fl_sai, q_fr_sai, q_ai_sai, q_al_sai, q_ar_sai, q_ln_sai, q_fi_sal, q_fl_sal, q_fr_sal, q_ai_sal, q_al_sal, q_ar_sal, q_ln_sal, q_fi_sar, q_fl_sar, q_fr_sar, q_ai_sar, q_al_sar, q_ar_sar, q_ln_sar, reduceIte, Nat.reduceEqDiff]
    rw [add32, dn32, e1]
    · rw [e1]; omega
    · rw [dn32, e1]; omega
      rw [e1]; omega
  · simp only [q_fi_sfi, q_fl_sfi, q_fr_sfi, q_ai_sfi, q_al_sfi, q_ar_sfi, q_ln_sfi, q_fi_sfl, q_fl_sfl, q_fr_sfl, q_ai_sfl, q_al_sfl, q_ar_sfl, q_ln_sfl, q_fi_sfr, q_fl_sfr, q_fr_sfr, q_ai_sfr, q_al_sfr, q_ar_sfr, q_ln_sfr, q_fi_sai, q_fl_sai, q_fr_sai, q_ai_sai, q_al_sai, q_ar_sai, q_ln_sai, q_fi_sal, q_fl_sal, q_fr_sal, q_ai_sal, q_al_sal, q_ar_sal, q_ln_sal, q_fi_sar, q_fl_sar, q_fr_sar, q_ai_sar, q_al_sar, q_ar_sar, q_ln_sar, reduceIte, Nat.reduceEqDiff]
    rw [dn32, e2]; rw [e2]; omega
  · simp only [q_fi_sfi, q_fl_sfi, q_fr_sfi, q_ai_sfi, q_al_sfi, q_ar_sfi, q_ln_sfi, q_fi_sfl, q_fl_sfl, q_fr_sfl, q_ai_sfl, q_al_sfl, q_ar_sfl, q_ln_sfl, q_fi_sfr, q_fl_sfr, q_fr_sfr, q_ai_sfr, q_al_sfr, q_ar_sfr, q_ln_sfr, q_fi_sai, q_fl_sai, q_fr_sai, q_ai_sai, q_al_sai, q_ar_sai, q_ln_sai, q_fi_sal, q_fl_sal, q_fr_sal, q_ai_sal, q_al_sal, q_ar_sal, q_ln_sal, q_fi_sar, q_fl_sar, q_fr_sar, q_ai_sar, q_al_sar, q_ar_sar, q_ln_sar, reduceIte, Nat.reduceEqDiff]; rfl
theorem Fr.tv {G G' : Gs} {cap n : Nat} (h : Fr [4, 5, 6] G G') (hT : TW G cap n) : TW G' cap n ∧ tt G' n = tt G n := by
  have e : tt G' n = tt G n := by unfold tt; rw [h.ai 0 (by decide), h.ai 1 (by decide)]
  refine ⟨?_, e⟩
  unfold TW TV at *
  rw [e, h.i 3 (by decide), h.ai 0 (by decide), h.ai 1 (by decide), h.al 2 (by decide), h.ln 0 (by decide), h.ln 1 (by decide), h.ln 2 (by decide)]
  exact hT
theorem x9_turnTo {b : Nat} {σ : Hs} {G : Gs} {cap n : Nat} (h : TW G cap n) (c : Int64) (hc0 : 0 ≤ c.toInt) (hc1 : c.toInt ≤ 1000000000) :
    ∃ G', fX9_turnTo_0 (e9 b σ G) b c = some (e9 b σ G') ∧ Fr [4, 5, 6] G G' ∧ (fi G' 4).toInt = civ (tt G n) c.toInt ∧ (fi G' 5).toInt = c.toInt - bg (tt G n) (civ (tt G n) c.toInt) ∧ (fi G' 6).toInt = kd (tt G n) (civ (tt G n) c.toInt) := by
  have htok := h.1.tok
  have hcu := @civ_un n (ai G 0) (ai G 1) htok c.toInt
  have hinj := h.1.2.2.2.2.1.inj
  have hsb := sk_bd h.1.2.2.2.2.2.1
  obtain ⟨⟨hn, hc, h60, ⟨l0, l1, l2⟩, hs, hk, hr⟩, hst⟩ := h
  have hbc : ∀ (p : Nat) (d : Int), p ≤ n → (∀ j, j < p → (ai G 0 j).toInt < d) → (∀ j, p ≤ j → j < n → d ≤ (ai G 0 j).toInt) → bg (tt G n) d = 86400 * d + sk (ai G 1) p := by
    intro p d h1 h2 h3; unfold bg tt; rw [bs_cnt n p h1 h2 h3]
  have hend : ∀ p, p ≤ n → (∀ j, j < p → (al G 2 j).toInt ≤ c.toInt) → (p < n → c.toInt < (al G 2 p).toInt) → ∃ G', fX9_turnTo_35 (e9 b σ G) b c (Int32.ofNat p - 1) = some (e9 b σ G') ∧ Fr [4, 5, 6] G G' ∧ (fi G' 4).toInt = civ (tt G n) c.toInt ∧ (fi G' 5).toInt = c.toInt - bg (tt G n) (civ (tt G n) c.toInt) ∧ (fi G' 6).toInt = kd (tt G n) (civ (tt G n) c.toInt) := by
    intro p hp h1 h2
    unfold fX9_turnTo_35
    rcases p with _ | p
    · have e0 : Int32.ofNat 0 - 1 = -1 := by decide
      rw [e0, if_pos rfl]
      obtain ⟨G', g1, g2, g3, g4, g5⟩ := x9_turnToPlainDay (b := b) (σ := σ) (G := G) 0 c (by decide) (by decide) hc0 (by omega)
      simp only [y9_C, Option.bind_some, g1]
      have hq := Int.mul_ediv_add_emod c.toInt 86400
      have hr1 := Int.emod_nonneg c.toInt (b := 86400) (by omega)
      have hr2 := Int.emod_lt_of_pos c.toInt (b := 86400) (by omega)
      have hd : ∀ j, 0 ≤ j → j < n → c.toInt / 86400 + 1 ≤ (ai G 0 j).toInt := by
        intro j _ hj
        have h3 := h2 (by omega)
        rw [hst 0 (by omega), hbc 0 _ (by omega) (fun j hj => by omega) (fun j h3 hj => hs.le h3 hj)] at h3
        have h4 : sk (ai G 1) 0 = 0 := rfl
        have h5 : (ai G 0 0).toInt ≤ (ai G 0 j).toInt := by
          rcases Nat.eq_zero_or_pos j with q | q
          · subst q; exact Int.le_refl _
          · have := hs 0 j q hj; omega
        omega
      have hb0 := hbc 0 (c.toInt / 86400) (by omega) (fun j hj => by omega) (fun j h3 h4 => by have := hd j h3 h4; omega)
      have hb1 := hbc 0 (c.toInt / 86400 + 1) (by omega) (fun j hj => by omega) hd
      have h4 : sk (ai G 1) 0 = 0 := rfl
      rw [h4] at hb0 hb1
      have hcv : civ (tt G n) c.toInt = c.toInt / 86400 := hcu (by unfold tt at hb0; omega) (by unfold tt at hb1; omega)
      have h00 : (0 : Int32).toInt = 0 := rfl
      refine ⟨G', rfl, g2, ?_, ?_, ?_⟩
      · rw [g3, hcv, h00]; omega
      · rw [g4, hcv, hb0]; omega
      · rw [g5, hcv]
        have := bg_next (tt G n) (c.toInt / 86400)
        rw [hb0, hb1] at this; omega
    · have e0 : Int32.ofNat (p + 1) - 1 = Int32.ofNat p := by rw [← suc32]; exact Int32.add_sub_cancel _ _
      have hne : ¬ Int32.ofNat p = -1 := by
        intro e; rw [eq32, n32 (by omega)] at e
        have : (-1 : Int32).toInt = -1 := rfl
        omega
      rw [e0, if_neg hne]
      have hpn : p < n := by omega
      simp only [y9_C, y9_g0, y9_l0, y9_s0, y9_n0, y9_g1, y9_l1, y9_s1, y9_n1, y9_g2, y9_l2, y9_s2, y9_n2, y9_g3, y9_p3, y9_g4, y9_p4, y9_g5, y9_p5, y9_g6, y9_p6, q_fi_sfi, q_fl_sfi, q_fr_sfi, q_ai_sfi, q_al_sfi, q_ar_sfi, q_ln_sfi, q_fi_sfl, q_fl_sfl, q_fr_sfl, q_ai_sfl, q_al_sfl, q_ar_sfl, q_ln_sfl, q_fi_sfr, q_fl_sfr, q_fr_sfr, q_ai_sfr, q_al_sfr, q_ar_sfr, q_ln_sfr, q_fi_sai, q_fl_sai, q_fr_sai, q_ai_sai, q_al_sai, q_ar_sai, q_ln_sai, q_fi_sal, q_fl_sal, q_fr_sal, q_ai_sal, q_al_sal, q_ar_sal, q_ln_sal, q_fi_sar, q_fl_sar, q_fr_sar, q_ai_sar, q_al_sar, q_ar_sar, q_ln_sar, reduceIte, Nat.reduceEqDiff, Option.bind_some, l0, l1, l2, ix_n (show p < 2147483648 by omega), decide_eq_true (show p < cap by omega), if_true, c32 (show p < 2147483648 by omega)]
      have h3 := h1 p (by omega)
      have hsp := hst p hpn
      have hkp := hk p hpn
      have hrp := hr p hpn
      have hss := hsb p (by omega)
      have hbp := hbc p (ai G 0 p).toInt (by omega) (fun j hj => hs j p hj hpn) (fun j h4 h5 => hs.le h4 h5)
      have hkd : kd (tt G n) (ai G 0 p).toInt = (ai G 1 p).toInt := kd_at hpn hinj rfl
      have hbn := bg_next (tt G n) (ai G 0 p).toInt
      have hin : (c - al G 2 p).toInt = c.toInt - (al G 2 p).toInt := sub64 (by rw [hsp, hbp]; omega)
      have hle : ((86400 + ai G 1 p).toInt64).toInt = 86400 + (ai G 1 p).toInt := by
        rw [up64, add32]; rfl
        show _ ≤ 86400 + _ ∧ 86400 + _ < _; omega
      by_cases hcs : (86400 + ai G 1 p).toInt64 ≤ c - al G 2 p
      · rw [if_pos hcs]
        rw [le64, hle, hin] at hcs
        have hin2 : (c - al G 2 p - (86400 + ai G 1 p).toInt64).toInt = c.toInt - (al G 2 p).toInt - (86400 + (ai G 1 p).toInt) := by
          rw [sub64, hin, hle]; rw [hin, hle, hsp, hbp]; omega
        have hd1 : (ai G 0 p + 1).toInt = (ai G 0 p).toInt + 1 := by rw [add32]; rfl; show _ ≤ _ + 1 ∧ _ + 1 < _; omega
        obtain ⟨G', g1, g2, g3, g4, g5⟩ := x9_turnToPlainDay (b := b) (σ := σ) (G := G) (ai G 0 p + 1) (c - al G 2 p - (86400 + ai G 1 p).toInt64) (by omega) (by omega) (by omega) (by rw [hin2, hsp, hbp]; omega)
        simp only [g1, Option.bind_some]
        rw [hin2, hd1] at g3
        rw [hin2] at g4
        generalize hX : c.toInt - (al G 2 p).toInt - (86400 + (ai G 1 p).toInt) = X at *
        have hq := Int.mul_ediv_add_emod X 86400
        have hr1 := Int.emod_nonneg X (b := 86400) (by omega)
        have hr2 := Int.emod_lt_of_pos X (b := 86400) (by omega)
        have hlow : ∀ d : Int, (ai G 0 p).toInt + 1 ≤ d → ∀ j, j < p + 1 → (ai G 0 j).toInt < d := by
          intro d hd j hj
          rcases Nat.lt_or_ge j p with q | q
          · have := hs j p q hpn; omega
          · have : j = p := by omega
            rw [this]; omega
        have hsk : sk (ai G 1) (p + 1) = sk (ai G 1) p + (ai G 1 p).toInt := rfl
        have hhi : ∀ j, p + 1 ≤ j → j < n → (ai G 0 p).toInt + 1 + X / 86400 + 1 ≤ (ai G 0 j).toInt := by
          intro j hj1 hj2
          have h5 : p + 1 < n := by omega
          have h6 := h2 h5
          rw [hst (p + 1) h5, hbc (p + 1) _ (by omega) (hlow _ (by have := hs p (p + 1) (by omega) h5; omega)) (fun j h7 h8 => hs.le h7 h8), hsk] at h6
          have h7 : (ai G 0 (p + 1)).toInt ≤ (ai G 0 j).toInt := hs.le hj1 hj2
          rw [hsp, hbp] at hX
          omega
        have hX0 : 0 ≤ X := by omega
        have hq0 : 0 ≤ X / 86400 := Int.ediv_nonneg hX0 (by omega)
        have hb0 := hbc (p + 1) ((ai G 0 p).toInt + 1 + X / 86400) (by omega) (hlow _ (by omega)) (fun j h7 h8 => by have := hhi j h7 h8; omega)
        have hb1 := hbc (p + 1) ((ai G 0 p).toInt + 1 + X / 86400 + 1) (by omega) (hlow _ (by omega)) hhi
        rw [hsp, hbp] at hX
        have hcv : civ (tt G n) c.toInt = (ai G 0 p).toInt + 1 + X / 86400 := hcu (by unfold tt at hb0; omega) (by unfold tt at hb1; omega)
        refine ⟨G', rfl, g2, ?_, ?_, ?_⟩
        · rw [g3, hcv]
        · rw [g4, hcv, hb0]; omega
        · rw [g5, hcv]
          have := bg_next (tt G n) ((ai G 0 p).toInt + 1 + X / 86400)
          rw [hb0, hb1] at this; omega
      · rw [if_neg hcs]
        rw [le64, hle, hin] at hcs
        have hcv : civ (tt G n) c.toInt = (ai G 0 p).toInt := hcu (by unfold tt at hsp; omega) (by unfold tt at hsp hbn hkd; omega)
        refine ⟨_, rfl, (((Fr.refl _ _).sfi (by decide) _).sfi (by decide) _).sfi (by decide) _, ?_, ?_, ?_⟩
        · simp only [q_fi_sfi, q_fl_sfi, q_fr_sfi, q_ai_sfi, q_al_sfi, q_ar_sfi, q_ln_sfi, q_fi_sfl, q_fl_sfl, q_fr_sfl, q_ai_sfl, q_al_sfl, q_ar_sfl, q_ln_sfl, q_fi_sfr, q_fl_sfr, q_fr_sfr, q_ai_sfr, q_al_sfr, q_ar_sfr, q_ln_sfr, q_fi_sai, q_fl_sai, q_fr_sai, q_ai_sai, q_al_sai, q_ar_sai, q_ln_sai, q_fi_sal, q_fl_sal, q_fr_sal, q_ai_sal, q_al_sal, q_ar_sal, q_ln_sal, q_fi_sar, q_fl_sar, q_fr_sar, q_ai_sar, q_al_sar, q_ar_sar, q_ln_sar, reduceIte, Nat.reduceEqDiff]; simp [hcv]
        · simp only [q_fi_sfi, q_fl_sfi, q_fr_sfi, q_ai_sfi, q_al_sfi, q_ar_sfi, q_ln_sfi, q_fi_sfl, q_fl_sfl, q_fr_sfl, q_ai_sfl, q_al_sfl, q_ar_sfl, q_ln_sfl, q_fi_sfr, q_fl_sfr, q_fr_sfr, q_ai_sfr, q_al_sfr, q_ar_sfr, q_ln_sfr, q_fi_sai, q_fl_sai, q_fr_sai, q_ai_sai, q_al_sai, q_ar_sai, q_ln_sai, q_fi_sal, q_fl_sal, q_fr_sal, q_ai_sal, q_al_sal, q_ar_sal, q_ln_sal, q_fi_sar, q_fl_sar, q_fr_sar, q_ai_sar, q_al_sar, q_ar_sar, q_ln_sar, reduceIte, Nat.reduceEqDiff]
          rw [dn32, hin, hcv, hsp]
          rw [hin]; omega
        · simp only [q_fi_sfi, q_fl_sfi, q_fr_sfi, q_ai_sfi, q_al_sfi, q_ar_sfi, q_ln_sfi, q_fi_sfl, q_fl_sfl, q_fr_sfl, q_ai_sfl, q_al_sfl, q_ar_sfl, q_ln_sfl, q_fi_sfr, q_fl_sfr, q_fr_sfr, q_ai_sfr, q_al_sfr, q_ar_sfr, q_ln_sfr, q_fi_sai, q_fl_sai, q_fr_sai, q_ai_sai, q_al_sai, q_ar_sai, q_ln_sai, q_fi_sal, q_fl_sal, q_fr_sal, q_ai_sal, q_al_sal, q_ar_sal, q_ln_sal, q_fi_sar, q_fl_sar, q_fr_sar, q_ai_sar, q_al_sar, q_ar_sar, q_ln_sar, reduceIte, Nat.reduceEqDiff]; simp [hcv, hkd]
  unfold fX9_turnTo_0 fX9_turnTo_5
  refine lp_q n (fun k z => z = (e9 b σ G, b, c, Int32.ofNat k - 1, Int32.ofNat k) ∧ ∀ j, j < k → (al G 2 j).toInt ≤ c.toInt) (fun X => ∃ G', X = some (e9 b σ G') ∧ Fr [4, 5, 6] G G' ∧ (fi G' 4).toInt = civ (tt G n) c.toInt ∧ (fi G' 5).toInt = c.toInt - bg (tt G n) (civ (tt G n) c.toInt) ∧ (fi G' 6).toInt = kd (tt G n) (civ (tt G n) c.toInt)) ?_ ?_ fu 0 _ (by omega) ⟨rfl, fun i hi => by omega⟩ (by unfold fu; omega)
  · rintro K k _ hk2 ⟨rfl, hA⟩
    simp only [fbX9_turnTo_5, y9_C, y9_g0, y9_l0, y9_s0, y9_n0, y9_g1, y9_l1, y9_s1, y9_n1, y9_g2, y9_l2, y9_s2, y9_n2, y9_g3, y9_p3, y9_g4, y9_p4, y9_g5, y9_p5, y9_g6, y9_p6, Option.bind_some, hn, l2, le_n (show n < 2147483648 by omega) (show k < 2147483648 by omega), if_neg (show ¬ n ≤ k by omega), ix_n (show k < 2147483648 by omega), decide_eq_true (show k < cap by omega), if_true, c32 (show k < 2147483648 by omega), suc32]
    by_cases hd : c < al G 2 k
    · right
      rw [if_pos hd]
      rw [lt64] at hd
      exact hend k (by omega) hA (fun _ => hd)
    · left
      rw [if_neg hd]
      rw [lt64] at hd
      refine ⟨_, ⟨?_, fun j hj => ?_⟩, rfl⟩
      · rw [← suc32 k]; simp
      · rcases Nat.lt_or_ge j k with q | q
        · exact hA j q
        · have : j = k := by omega
          rw [this]; omega
  · rintro K _ ⟨rfl, hA⟩
    simp only [fbX9_turnTo_5, y9_C, y9_g0, y9_l0, y9_s0, y9_n0, y9_g1, y9_l1, y9_s1, y9_n1, y9_g2, y9_l2, y9_s2, y9_n2, y9_g3, y9_p3, y9_g4, y9_p4, y9_g5, y9_p5, y9_g6, y9_p6, Option.bind_some, hn, Int32.le_refl, if_true]
    exact hend n (Nat.le_refl _) hA (fun h => by omega)
