theorem x_thShown (σ : Hs) (w s k : Int32) (hw : 0 ≤ w.toInt ∧ w.toInt ≤ 3) (hk : -1 ≤ k.toInt ∧ k.toInt ≤ 1) (hs : s.toInt < 86400 + k.toInt) : fX11_thousandthsShown_0 σ w s k = some (th w k s) := by
  have c3 : (3 : Int32).toInt = 3 := rfl
  have c2 : (2 : Int32).toInt = 2 := rfl
  have c1 : (1 : Int32).toInt = 1 := rfl
  have c0 : (0 : Int32).toInt = 0 := rfl
  have cm : (-1 : Int32).toInt = -1 := rfl
  have cd : (86400 : Int32).toInt = 86400 := rfl
  unfold fX11_thousandthsShown_0 fX11_thousandthsShown_40 th
  by_cases h1 : w = 3
  · rw [if_pos h1, if_pos h1]
    rcases (show k.toInt = -1 ∨ k.toInt = 0 ∨ k.toInt = 1 by omega) with q | q | q
    · have : k = -1 := eq32.mpr q
      subst this
      rw [if_pos (by decide), if_pos h1, if_neg (by decide), if_neg (by decide)]; rfl
    · have : k = 0 := eq32.mpr q
      subst this
      rw [if_pos (by decide), if_pos h1, if_pos (by decide), if_pos (by rw [lt32]; omega), if_pos rfl]
    · have : k = 1 := eq32.mpr q
      subst this
      rw [if_neg (show ¬ (1 : Int32) ≤ 0 by decide), if_neg (show ¬ (1 : Int32) = 0 by decide), if_pos h1]; rfl
  · rw [if_neg h1, if_neg h1, if_neg h1]
    by_cases h2 : s < 86400
    · rw [if_pos h2, if_pos h2]
    · rw [if_neg h2, if_neg h2]
      by_cases h3 : w = 0
      · rw [if_pos h3, if_pos h3]
      · rw [if_neg h3, if_neg h3]
        by_cases h4 : w = 1
        · rw [if_pos h4, if_pos h4]
        · rw [if_neg h4, if_neg h4, if_pos]
          rw [eq32] at *; omega
theorem x1_leadAt {b : Nat} {σ : Hs} {G : Gs} {n : Nat} (hA : A1 b G σ) (hn : fi G 4 = Int32.ofNat n) (h60 : n ≤ 60) (l2 : ln G 2 = 60) (l3 : ln G 3 = 60) (hs : Asc n (ai G 2)) (c : Int32) : fX1_leadAt_0 σ b c = some (ahd (ai G 2) (ai G 3) c n) := by
  unfold fX1_leadAt_0 fX1_leadAt_4
  have hend : ∀ k, k ≤ n → (∀ j, k ≤ j → j < n → ¬ ai G 2 j ≤ c) → ahd (ai G 2) (ai G 3) c n = ahd (ai G 2) (ai G 3) c k := by
    intro k hk
    have : ∀ i, k + i ≤ n → (∀ j, k ≤ j → j < n → ¬ ai G 2 j ≤ c) → ahd (ai G 2) (ai G 3) c (k + i) = ahd (ai G 2) (ai G 3) c k := by
      intro i
      induction i with
      | zero => intro _ _; rfl
      | succ i ih => intro h1 h2; show (if ai G 2 (k + i) ≤ c then _ else ahd (ai G 2) (ai G 3) c (k + i)) = _; rw [if_neg (h2 _ (by omega) (by omega)), ih (by omega) h2]
    intro h
    have := this (n - k) (by omega) h
    rwa [show k + (n - k) = n by omega] at this
  refine lp_q n (fun k z => z = (b, c, ahd (ai G 2) (ai G 3) c k, Int32.ofNat k)) (fun X => X = some (ahd (ai G 2) (ai G 3) c n)) ?_ ?_ fu 0 _ (by omega) rfl (by unfold fu; omega)
  · rintro K k _ hk rfl
    simp only [fbX1_leadAt_4, z1_C hA, z1_g0 hA, z1_p0 hA, z1_g1 hA, z1_g2 hA, z1_l2 hA, z1_s2 hA, z1_n2 hA, z1_g3 hA, z1_l3 hA, z1_s3 hA, z1_n3 hA, z1_g4 hA, z1_p4 hA, Option.bind_some, hn, l2, l3, le_n (show n < 2147483648 by omega) (show k < 2147483648 by omega), if_neg (show ¬ n ≤ k by omega), ix_n (show k < 2147483648 by omega), decide_eq_true (show k < 60 by omega), if_true, c32 (show k < 2147483648 by omega), suc32]
    by_cases h1 : c < ai G 2 k
    · right
      rw [if_pos h1, hend k (by omega)]
      intro j h2 h3 h4
      have := hs k j h2 h3
      rw [lt32] at h1; rw [le32] at h4; omega
    · left
      rw [if_neg h1]
      refine ⟨_, rfl, ?_⟩
      show _ = K (b, c, (if ai G 2 k ≤ c then ai G 3 k else ahd (ai G 2) (ai G 3) c k), Int32.ofNat (k + 1))
      rw [if_pos (by rw [lt32] at h1; rw [le32]; omega)]
  · rintro K _ rfl
    simp only [fbX1_leadAt_4, z1_C hA, z1_g0 hA, z1_p0 hA, z1_g1 hA, z1_g2 hA, z1_l2 hA, z1_s2 hA, z1_n2 hA, z1_g3 hA, z1_l3 hA, z1_s3 hA, z1_n3 hA, z1_g4 hA, z1_p4 hA, Option.bind_some, hn, Int32.le_refl, if_true]
def Ch (D : Nat → Prop) (σ σ' : Hs) : Prop := σ'.1 = σ.1 ∧ σ'.2.2 = σ.2.2 ∧ ∀ a, ¬ D a → σ'.2.1 a = σ.2.1 a
theorem Ch.refl (D : Nat → Prop) (σ : Hs) : Ch D σ σ := ⟨rfl, rfl, fun _ _ => rfl⟩
theorem Ch.trans {D : Nat → Prop} {a b c : Hs} (h : Ch D a b) (g : Ch D b c) : Ch D a c := ⟨g.1.trans h.1, g.2.1.trans h.2.1, fun x hx => (g.2.2 x hx).trans (h.2.2 x hx)⟩
theorem Ch.mono {D E : Nat → Prop} {a b : Hs} (h : Ch D a b) (hs : ∀ x, D x → E x) : Ch E a b := ⟨h.1, h.2.1, fun x hx => h.2.2 x (fun q => hx (hs x q))⟩
theorem e9_ch {D : Nat → Prop} {b : Nat} (σ : Hs) (G : Gs) (h : ∀ a, (a = b ∨ a = b + 1 ∨ a = b + 2 ∨ a = b + 3) → D a) : Ch D σ (e9 b σ G) := ⟨rfl, rfl, fun a ha => e9_out σ G (fun q => ha (h a q))⟩
theorem e1_ch {D : Nat → Prop} {b : Nat} (σ : Hs) (G : Gs) (h : ∀ a, (a = b ∨ a = b + 5 ∨ a = b + 6) → D a) : Ch D σ (e1 b σ G) := ⟨rfl, rfl, fun a ha => e1_out σ G (fun q => ha (h a q))⟩
theorem x1_shownAt {b : Nat} {σ : Hs} {G T : Gs} {n nt : Nat} (hA : A1 b G σ) (hT : A9 (b + 1) T σ) (hW : TW T 60 nt) (hn : fi G 4 = Int32.ofNat n) (h60 : n ≤ 60) (l2 : ln G 2 = 60) (l3 : ln G 3 = 60) (hs : Asc n (ai G 2)) (hw : 0 ≤ (fi G 0).toInt ∧ (fi G 0).toInt ≤ 3) (hB : ∀ i, i < n → -1000 ≤ (ai G 3 i).toInt ∧ (ai G 3 i).toInt ≤ 1000) (c : Int32) (hc : -1000 ≤ c.toInt ∧ c.toInt ≤ 900010000) :
    ∃ T', fX1_shownAt_0 σ b c = some (shw (fi G 0) (tt T nt) (mx0 (c.toInt + (ahd (ai G 2) (ai G 3) c n).toInt)), e9 (b + 1) σ T') ∧ Fr [4, 5, 6] T T' := by
  have ha := ahd_P (F := ai G 2) (B := ai G 3) (c := c) (fun a => -1000 ≤ a.toInt ∧ a.toInt ≤ 1000) (by decide) n hB
  have hL := x1_leadAt hA hn h60 l2 l3 hs c
  generalize hAe : ahd (ai G 2) (ai G 3) c n = A at *
  have e1 : (c + A).toInt = c.toInt + A.toInt := by rw [add32]; omega
  have e2 : ∃ q : Int32, fJ9_max_7cf53_0 σ 0 (c + A) = some q ∧ q.toInt = mx0 (c.toInt + A.toInt) := by
    unfold fJ9_max_7cf53_0 mx0
    have h0 : (0 : Int32).toInt = 0 := rfl
    by_cases h : (0 : Int32) < c + A
    · rw [if_pos h]; rw [lt32, e1] at h
      exact ⟨_, rfl, by rw [if_neg (by omega), e1]⟩
    · rw [if_neg h]; rw [lt32, e1] at h
      refine ⟨_, rfl, ?_⟩
      by_cases h2 : c.toInt + A.toInt < 0
      · rw [if_pos h2, h0]
      · rw [if_neg h2, h0]; omega
  obtain ⟨q, e3, e4⟩ := e2
  have hq : 0 ≤ q.toInt64.toInt ∧ q.toInt64.toInt ≤ 1000000000 := by rw [up64, e4]; unfold mx0; split <;> omega
  obtain ⟨T', t1, t2, t3, t4, t5⟩ := x9_turnTo (b := b + 1) (σ := σ) hW q.toInt64 hq.1 hq.2
  rw [show e9 (b + 1) σ T = σ from hT] at t1
  have hA' : A1 b G (e9 (b + 1) σ T') := A1_fr hA (fun a ha => e9_out σ T' (by omega))
  have hT' : A9 (b + 1) T' (e9 (b + 1) σ T') := A9_self σ T'
  have hkb := kd_1 hW.1.tok (civ (tt T nt) q.toInt64.toInt)
  have hcv := civ_ok hW.1.tok q.toInt64.toInt
  unfold fX1_shownAt_0
  simp only [z1_C hA, z1_g0 hA, z1_p0 hA, z1_g1 hA, z1_g2 hA, z1_l2 hA, z1_s2 hA, z1_n2 hA, z1_g3 hA, z1_l3 hA, z1_s3 hA, z1_n3 hA, z1_g4 hA, z1_p4 hA, z9_C hT, Option.bind_some, hL, e3, t1, z1_C hA', z1_g0 hA', z1_p0 hA', z1_g1 hA', z1_g2 hA', z1_l2 hA', z1_s2 hA', z1_n2 hA', z1_g3 hA', z1_l3 hA', z1_s3 hA', z1_n3 hA', z1_g4 hA', z1_p4 hA', z9_C hT', z9_g0 hT', z9_l0 hT', z9_s0 hT', z9_n0 hT', z9_g1 hT', z9_l1 hT', z9_s1 hT', z9_n1 hT', z9_g2 hT', z9_l2 hT', z9_s2 hT', z9_n2 hT', z9_g3 hT', z9_p3 hT', z9_g4 hT', z9_p4 hT', z9_g5 hT', z9_p5 hT', z9_g6 hT', z9_p6 hT']
  rw [up64, e4] at t3 t4 t5 hkb hcv
  have hbn := bg_next (tt T nt) (civ (tt T nt) (mx0 (c.toInt + A.toInt)))
  rw [x_thShown _ _ _ _ hw (by rw [t5]; exact hkb) (by rw [t4, t5]; unfold tt at *; omega)]
  refine ⟨T', ?_, t2⟩
  unfold shw
  rw [ofI t3, ofI t4, ofI t5]; rfl
theorem x1_addStep {b : Nat} {σ : Hs} {G : Gs} {n : Nat} (hn : fi G 4 = Int32.ofNat n) (h60 : n < 60) (l2 : ln G 2 = 60) (x : Int32) :
    ∃ G', fX1_addStep_0 (e1 b σ G) b x = some (e1 b σ G') ∧ Fr [2, 4] G G' ∧ ln G' = ln G ∧ fi G' 4 = Int32.ofNat (n + 1) ∧ ai G' 2 = insA (ai G 2) x n := by
  unfold fX1_addStep_0
  have c60 : (60 : Int32) = Int32.ofNat 60 := rfl
  simp only [y1_g4, Option.bind_some, hn, c60, lt_n (show n < 2147483648 by omega) (show 60 < 2147483648 by omega), if_pos h60]
  unfold fX1_addStep_15
  have hfin : ∀ (K : Hs × Nat × Int32 × Int32 → Option Hs) (i : Nat) (G' : Gs), i ≤ n → Fr [2, 4] G G' → ln G' = ln G → fi G' 4 = Int32.ofNat n → (∀ j, ai G' 2 j = if j ≤ n - i then ai G 2 j else if j ≤ n then ai G 2 (j - 1) else ai G 2 j) → pl (ai G 2) x n = n - i →
      ∃ G2, ((stI 0 (e1 b σ G') (b + 5) (Int32.ofNat (n - i)) x).bind fun sq2 => (gI sq2 b 3 4).bind fun vq3 => (pV sq2 b 3 4 (.int (vq3 + 1))).bind fun sq4 => some sq4) = some (e1 b σ G2) ∧ Fr [2, 4] G G2 ∧ ln G2 = ln G ∧ fi G2 4 = Int32.ofNat (n + 1) ∧ ai G2 2 = insA (ai G 2) x n := by
    intro K i G' hi hF hln h4 hA hp
    simp only [y1_C, y1_g0, y1_p0, y1_g1, y1_g2, y1_l2, y1_s2, y1_n2, y1_g3, y1_l3, y1_s3, y1_n3, y1_g4, y1_p4, q_fi_sfi, q_fl_sfi, q_fr_sfi, q_ai_sfi, q_al_sfi, q_ar_sfi, q_ln_sfi, q_fi_sfl, q_fl_sfl, q_fr_sfl, q_ai_sfl, q_al_sfl, q_ar_sfl, q_ln_sfl, q_fi_sfr, q_fl_sfr, q_fr_sfr, q_ai_sfr, q_al_sfr, q_ar_sfr, q_ln_sfr, q_fi_sai, q_fl_sai, q_fr_sai, q_ai_sai, q_al_sai, q_ar_sai, q_ln_sai, q_fi_sal, q_fl_sal, q_fr_sal, q_ai_sal, q_al_sal, q_ar_sal, q_ln_sal, q_fi_sar, q_fl_sar, q_fr_sar, q_ai_sar, q_al_sar, q_ar_sar, q_ln_sar, reduceIte, Nat.reduceEqDiff, Option.bind_some, hln, l2, ix_n (show n - i < 2147483648 by omega), decide_eq_true (show n - i < 60 by omega), if_true, c32 (show n - i < 2147483648 by omega), h4, suc32]
    refine ⟨_, rfl, (hF.sai (by decide) _).sfi (by decide) _, hln, ?_, ?_⟩
    · simp only [q_fi_sfi, q_fl_sfi, q_fr_sfi, q_ai_sfi, q_al_sfi, q_ar_sfi, q_ln_sfi, q_fi_sfl, q_fl_sfl, q_fr_sfl, q_ai_sfl, q_al_sfl, q_ar_sfl, q_ln_sfl, q_fi_sfr, q_fl_sfr, q_fr_sfr, q_ai_sfr, q_al_sfr, q_ar_sfr, q_ln_sfr, q_fi_sai, q_fl_sai, q_fr_sai, q_ai_sai, q_al_sai, q_ar_sai, q_ln_sai, q_fi_sal, q_fl_sal, q_fr_sal, q_ai_sal, q_al_sal, q_ar_sal, q_ln_sal, q_fi_sar, q_fl_sar, q_fr_sar, q_ai_sar, q_al_sar, q_ar_sar, q_ln_sar, reduceIte, Nat.reduceEqDiff]
    · simp only [q_fi_sfi, q_fl_sfi, q_fr_sfi, q_ai_sfi, q_al_sfi, q_ar_sfi, q_ln_sfi, q_fi_sfl, q_fl_sfl, q_fr_sfl, q_ai_sfl, q_al_sfl, q_ar_sfl, q_ln_sfl, q_fi_sfr, q_fl_sfr, q_fr_sfr, q_ai_sfr, q_al_sfr, q_ar_sfr, q_ln_sfr, q_fi_sai, q_fl_sai, q_fr_sai, q_ai_sai, q_al_sai, q_ar_sai, q_ln_sai, q_fi_sal, q_fl_sal, q_fr_sal, q_ai_sal, q_al_sal, q_ar_sal, q_ln_sal, q_fi_sar, q_fl_sar, q_fr_sar, q_ai_sar, q_al_sar, q_ar_sar, q_ln_sar, reduceIte, Nat.reduceEqDiff]
      funext j
      unfold insA; rw [hp]
      by_cases h1 : j = n - i
      · subst h1; rw [up_same, if_neg (by omega), if_pos rfl]
      · rw [up_ne _ _ _ _ h1, hA]
        by_cases h2 : j ≤ n - i
        · rw [if_pos h2, if_pos (by omega)]
        · rw [if_neg h2, if_neg (show ¬ j < n - i by omega), if_neg h1]
  refine lp_q n (fun i z => ∃ G' : Gs, z = (e1 b σ G', b, x, Int32.ofNat (n - i)) ∧ Fr [2, 4] G G' ∧ ln G' = ln G ∧ fi G' 4 = Int32.ofNat n ∧ (∀ j, ai G' 2 j = if j ≤ n - i then ai G 2 j else if j ≤ n then ai G 2 (j - 1) else ai G 2 j) ∧ pl (ai G 2) x n = pl (ai G 2) x (n - i)) (fun X => ∃ G', X = some (e1 b σ G') ∧ Fr [2, 4] G G' ∧ ln G' = ln G ∧ fi G' 4 = Int32.ofNat (n + 1) ∧ ai G' 2 = insA (ai G 2) x n) ?_ ?_ fu 0 _ (by omega) ?_ (by unfold fu; omega)
  · rintro K i _ hi ⟨G', rfl, hF, hln, h4, hA, hp⟩
    have e0 : ¬ Int32.ofNat (n - i) ≤ 0 := by
      intro e; rw [le32, n32 (by omega)] at e
      have : (0 : Int32).toInt = 0 := rfl
      omega
    have e3 : pl (ai G 2) x (n - i) = if ai G 2 (n - i - 1) ≤ x then n - i else pl (ai G 2) x (n - i - 1) := by
      rw [show n - i = n - i - 1 + 1 by omega]; rfl
    have e4 : ai G' 2 (n - i - 1) = ai G 2 (n - i - 1) := by rw [hA, if_pos (by omega)]
    simp only [fbX1_addStep_15, if_neg e0, y1_g2, Option.bind_some, y1_l2, hln, l2, ofNat_m1 (show 0 < n - i by omega), ix_n (show n - i - 1 < 2147483648 by omega), decide_eq_true (show n - i - 1 < 60 by omega), if_true, c32 (show n - i - 1 < 2147483648 by omega), e4]
    by_cases h1 : ai G 2 (n - i - 1) ≤ x
    · right
      rw [if_pos h1]
      exact hfin K i G' (by omega) hF hln h4 hA (by rw [hp, e3, if_pos h1])
    · left
      rw [if_neg h1]
      simp only [y1_s2, hln, l2, ix_n (show n - i < 2147483648 by omega), decide_eq_true (show n - i < 60 by omega), if_true, c32 (show n - i < 2147483648 by omega), Option.bind_some, ofNat_p1 (show 0 < n - i by omega)]
      refine ⟨_, ⟨_, rfl, ?_⟩, rfl⟩
      refine ⟨hF.sai (by decide) _, hln, h4, fun j => ?_, ?_⟩
      · simp only [q_fi_sfi, q_fl_sfi, q_fr_sfi, q_ai_sfi, q_al_sfi, q_ar_sfi, q_ln_sfi, q_fi_sfl, q_fl_sfl, q_fr_sfl, q_ai_sfl, q_al_sfl, q_ar_sfl, q_ln_sfl, q_fi_sfr, q_fl_sfr, q_fr_sfr, q_ai_sfr, q_al_sfr, q_ar_sfr, q_ln_sfr, q_fi_sai, q_fl_sai, q_fr_sai, q_ai_sai, q_al_sai, q_ar_sai, q_ln_sai, q_fi_sal, q_fl_sal, q_fr_sal, q_ai_sal, q_al_sal, q_ar_sal, q_ln_sal, q_fi_sar, q_fl_sar, q_fr_sar, q_ai_sar, q_al_sar, q_ar_sar, q_ln_sar, reduceIte, Nat.reduceEqDiff]
        by_cases h2 : j = n - i
        · subst h2; rw [up_same, if_neg (by omega), if_pos (by omega)]
        · rw [up_ne _ _ _ _ h2, hA]
          by_cases h3 : j ≤ n - (i + 1)
          · rw [if_pos (by omega), if_pos h3]
          · rw [if_neg (by omega), if_neg h3]
      · rw [hp, e3, if_neg h1]; rfl
  · rintro K _ ⟨G', rfl, hF, hln, h4, hA, hp⟩
    have e0 : Int32.ofNat (n - n) ≤ 0 := by rw [Nat.sub_self]; decide
    simp only [fbX1_addStep_15, if_pos e0, y1_g2, Option.bind_some]
    exact hfin K n G' (by omega) hF hln h4 hA (by rw [hp, Nat.sub_self]; rfl)
  · refine ⟨G, rfl, Fr.refl _ _, rfl, hn, fun j => ?_, rfl⟩
    by_cases h1 : j ≤ n - 0
    · rw [if_pos h1]
    · rw [if_neg h1, if_neg (by omega)]
def ldS (T C : List (Int × Int)) (x : Int) : Int := (if x - bg T (civ T x) < 86400 + kd C (civ T x) then bg C (civ T x) + (x - bg T (civ T x)) else bg C (civ T x + 1)) - x
theorem ldS_perm {A A' B B' : List (Int × Int)} (h : A.Perm A') (g : B.Perm B') (x : Int) : ldS A B x = ldS A' B' x := by
  unfold ldS civ; simp only [bg_perm h, bg_perm g, kd_perm g]
theorem ldS_bd {n n' : Nat} {f g f' g' : Nat → Int32} (h : Tok n f g) (h' : Tok n' f' g') (x : Int) : -1000 ≤ ldS (lst n f g) (lst n' f' g') x ∧ ldS (lst n f g) (lst n' f' g') x ≤ 1000 := by
  have h1 := civ_ok h x
  unfold ldS
  generalize civ (lst n f g) x = d at *
  have h2 := bg_next (lst n f g) d
  have h3 := kd_1 h d
  have h4 := bs_1 h d
  have h5 := bs_1 h' d
  have h6 := bs_1 h' (d + 1)
  have h7 := kd_1 h' d
  unfold bg at *
  split <;> omega
theorem x1_reckonSteps {b c : Nat} {σ : Hs} {G T Tr : Gs} {n nt nr cr : Nat} (hA : A1 c G σ) (hT : A9 (c + 1) T σ) (hR : A9 b Tr σ) (hW : TV T 60 nt) (hWr : TW Tr cr nr) (hn : fi G 4 = Int32.ofNat n) (h60 : n ≤ 60) (l2 : ln G 2 = 60) (l3 : ln G 3 = 60) (hx : ∀ i, i < n → 0 ≤ (ai G 2 i).toInt ∧ (ai G 2 i).toInt ≤ 900000000) (hdis : b + 4 ≤ c ∨ c + 7 ≤ b) :
    ∃ σ' G' Tr', fX1_reckonSteps_0 σ c b = some σ' ∧ A1 c G' σ' ∧ A9 b Tr' σ' ∧ Fr [3] G G' ∧ ln G' = ln G ∧ Fr [4, 5, 6] Tr Tr' ∧ Ch (fun a => (a = c ∨ a = c + 5 ∨ a = c + 6) ∨ (a = b ∨ a = b + 1 ∨ a = b + 2 ∨ a = b + 3)) σ σ' ∧ ∀ i, i < n → (ai G' 3 i).toInt = ldS (tt Tr nr) (tt T nt) (ai G 2 i).toInt := by
  unfold fX1_reckonSteps_0 fX1_reckonSteps_2
  refine lp_q n (fun k z => ∃ σ' G' Tr', z = (σ', c, b, Int32.ofNat k) ∧ A1 c G' σ' ∧ A9 b Tr' σ' ∧ Fr [3] G G' ∧ ln G' = ln G ∧ Fr [4, 5, 6] Tr Tr' ∧ Ch (fun a => (a = c ∨ a = c + 5 ∨ a = c + 6) ∨ (a = b ∨ a = b + 1 ∨ a = b + 2 ∨ a = b + 3)) σ σ' ∧ ∀ i, i < k → (ai G' 3 i).toInt = ldS (tt Tr nr) (tt T nt) (ai G 2 i).toInt) (fun X => ∃ σ' G' Tr', X = some σ' ∧ A1 c G' σ' ∧ A9 b Tr' σ' ∧ Fr [3] G G' ∧ ln G' = ln G ∧ Fr [4, 5, 6] Tr Tr' ∧ Ch (fun a => (a = c ∨ a = c + 5 ∨ a = c + 6) ∨ (a = b ∨ a = b + 1 ∨ a = b + 2 ∨ a = b + 3)) σ σ' ∧ ∀ i, i < n → (ai G' 3 i).toInt = ldS (tt Tr nr) (tt T nt) (ai G 2 i).toInt) ?_ ?_ fu 0 _ (by omega) ⟨σ, G, Tr, rfl, hA, hR, Fr.refl _ _, rfl, Fr.refl _ _, Ch.refl _ _, fun i hi => by omega⟩ (by unfold fu; omega)
  · rintro K k _ hk ⟨s1, G1, T1, rfl, hA1, hR1, hF, hln, hFT, hC, hE⟩
    left
    have h4 : fi G1 4 = Int32.ofNat n := (hF.i 4 (by decide)).trans hn
    have h2 : ai G1 2 = ai G 2 := hF.ai 2 (by decide)
    have hT1 : A9 (c + 1) T s1 := A9_fr hT (fun a ha => hC.2.2 a (by omega))
    have hW1 := hFT.tv hWr
    have hxk := hx k hk
    obtain ⟨T2, t1, t2, t3, t4, t5⟩ := x9_turnTo (b := b) (σ := s1) hW1.1 (ai G 2 k).toInt64 (by rw [up64]; omega) (by rw [up64]; omega)
    rw [show e9 b s1 T1 = s1 from hR1] at t1
    rw [hW1.2, up64] at t3 t4
    have hA2 : A1 c G1 (e9 b s1 T2) := A1_fr hA1 (fun a ha => e9_out s1 T2 (by omega))
    have hT2 : A9 (c + 1) T (e9 b s1 T2) := A9_fr hT1 (fun a ha => e9_out s1 T2 (by omega))
    have hR2 : A9 b T2 (e9 b s1 T2) := A9_self s1 T2
    have hbr := bs_1 hWr.1.tok (civ (tt Tr nr) (ai G 2 k).toInt)
    have hcv := civ_ok hWr.1.tok (ai G 2 k).toInt
    have hd0 : -1000000 ≤ (fi T2 4).toInt ∧ (fi T2 4).toInt ≤ 1000000 := by
      rw [t3]
      have hbr2 := bs_1 hWr.1.tok (civ (tt Tr nr) (ai G 2 k).toInt + 1)
      unfold tt bg at *; omega
    obtain ⟨r, r1, r2⟩ := x9_nearestCount (b := c + 1) (σ := e9 b s1 T2) hW (fi T2 4) (fi T2 5) hd0.1 hd0.2
    rw [show e9 (c + 1) (e9 b s1 T2) T = e9 b s1 T2 from hT2, t3, t4] at *
    have hld := ldS_bd hWr.1.tok hW.tok (ai G 2 k).toInt
    have hrl : r.toInt - (ai G 2 k).toInt = ldS (tt Tr nr) (tt T nt) (ai G 2 k).toInt := by rw [r2]; rfl
    have es : (r - (ai G 2 k).toInt64).toInt = r.toInt - (ai G 2 k).toInt := by
      rw [sub64, up64]; rw [up64, hrl]; unfold tt; omega
    simp only [fbX1_reckonSteps_2, z1_C hA1, z1_g0 hA1, z1_p0 hA1, z1_g1 hA1, z1_g2 hA1, z1_l2 hA1, z1_s2 hA1, z1_n2 hA1, z1_g3 hA1, z1_l3 hA1, z1_s3 hA1, z1_n3 hA1, z1_g4 hA1, z1_p4 hA1, z9_C hR1, Option.bind_some, h4, hln, l2, l3, h2, le_n (show n < 2147483648 by omega) (show k < 2147483648 by omega), if_neg (show ¬ n ≤ k by omega), ix_n (show k < 2147483648 by omega), decide_eq_true (show k < 60 by omega), if_true, c32 (show k < 2147483648 by omega), suc32, t1, z1_C hA2, z1_g0 hA2, z1_p0 hA2, z1_g1 hA2, z1_g2 hA2, z1_l2 hA2, z1_s2 hA2, z1_n2 hA2, z1_g3 hA2, z1_l3 hA2, z1_s3 hA2, z1_n3 hA2, z1_g4 hA2, z1_p4 hA2, z9_C hR2, z9_g0 hR2, z9_l0 hR2, z9_s0 hR2, z9_n0 hR2, z9_g1 hR2, z9_l1 hR2, z9_s1 hR2, z9_n1 hR2, z9_g2 hR2, z9_l2 hR2, z9_s2 hR2, z9_n2 hR2, z9_g3 hR2, z9_p3 hR2, z9_g4 hR2, z9_p4 hR2, z9_g5 hR2, z9_p5 hR2, z9_g6 hR2, z9_p6 hR2, z9_C hT2, r1]
    refine ⟨_, ⟨_, _, _, rfl, A1_self _ _, A9_fr hR2 (fun a ha => e1_out _ _ (by omega)), hF.sai (by decide) _, ?_⟩, rfl⟩
    refine ⟨hln, hFT.trans t2, hC.trans ((e9_ch s1 T2 (fun a ha => Or.inr ha)).trans (e1_ch _ _ (fun a ha => Or.inl ha))), fun i hi => ?_⟩
    simp only [q_fi_sfi, q_fl_sfi, q_fr_sfi, q_ai_sfi, q_al_sfi, q_ar_sfi, q_ln_sfi, q_fi_sfl, q_fl_sfl, q_fr_sfl, q_ai_sfl, q_al_sfl, q_ar_sfl, q_ln_sfl, q_fi_sfr, q_fl_sfr, q_fr_sfr, q_ai_sfr, q_al_sfr, q_ar_sfr, q_ln_sfr, q_fi_sai, q_fl_sai, q_fr_sai, q_ai_sai, q_al_sai, q_ar_sai, q_ln_sai, q_fi_sal, q_fl_sal, q_fr_sal, q_ai_sal, q_al_sal, q_ar_sal, q_ln_sal, q_fi_sar, q_fl_sar, q_fr_sar, q_ai_sar, q_al_sar, q_ar_sar, q_ln_sar, reduceIte, Nat.reduceEqDiff]
    by_cases hik : i = k
    · subst hik
      rw [up_same, dn32, es, hrl]
      rw [es, hrl]; unfold tt; omega
    · rw [up_ne _ _ _ _ hik]; exact hE i (by omega)
  · rintro K _ ⟨s1, G1, T1, rfl, hA1, hR1, hF, hln, hFT, hC, hE⟩
    have h4 : fi G1 4 = Int32.ofNat n := (hF.i 4 (by decide)).trans hn
    simp only [fbX1_reckonSteps_2, z1_C hA1, z1_g0 hA1, z1_p0 hA1, z1_g1 hA1, z1_g2 hA1, z1_l2 hA1, z1_s2 hA1, z1_n2 hA1, z1_g3 hA1, z1_l3 hA1, z1_s3 hA1, z1_n3 hA1, z1_g4 hA1, z1_p4 hA1, Option.bind_some, h4, Int32.le_refl, if_true]
    exact ⟨s1, G1, T1, rfl, hA1, hR1, hF, hln, hFT, hC, hE⟩
