def HC (G : Gs) (S : Pl) : Prop := (fi G 11 = Int32.ofNat S.1 ∧ al G 9 = S.2.1 ∧ ai G 10 = S.2.2) ∧ (ln G 9 = 64 ∧ ln G 10 = 64) ∧ S.1 ≤ 64 ∧ ∀ i, i < S.1 → S.2.2 i = 0 ∨ S.2.2 i = 1
def HV (G : Gs) : Prop := (ln G 8 = 11 ∧ ln G 12 = 10 ∧ ln G 13 = 10) ∧ ∀ d, d < 10 → ai G 13 d = 0 ∨ ai G 13 d = 1
section
variable {a : Nat} {σ0 : Hs} {G : Gs}
theorem w6 (G H : Gs) : e6 a (e6 a σ0 G) H = e6 a σ0 H := eX_eX _ _ _
theorem HC.low {S : Pl} (h : HC G S) {k : Nat} (hk : k ≤ S.1) : HC (sfi G 11 (Int32.ofNat k)) (k, S.2) := by
  obtain ⟨⟨h1, h2, h3⟩, h4, h5, h6⟩ := h
  exact ⟨⟨rfl, h2, h3⟩, h4, (show k ≤ 64 by omega), fun i hi => h6 i (by have : i < k := hi; omega)⟩
theorem c_lay {S : Pl} (h : HC G S) (v : Int64) {l : Int32} (hl : l = 0 ∨ l = 1) : ∃ G', fX6_lay_0 (e6 a σ0 G) a v l = some (e6 a σ0 G') ∧ Fr [9, 10, 11] G G' ∧ HC G' (layF S v l) := by
  obtain ⟨⟨h1, h2, h3⟩, ⟨h4, h4'⟩, h5, h6⟩ := h
  have e64 : ((64 : Int32) ≤ Int32.ofNat S.1) = (64 ≤ S.1) := propext (le_n (a := 64) (by decide) (by omega))
  unfold fX6_lay_0 layF
  simp only [y6_g11, h1, Option.bind_some, e64]
  by_cases c : 64 ≤ S.1
  · rw [if_pos c, if_pos c]
    exact ⟨G, rfl, Fr.refl _ _, ⟨h1, h2, h3⟩, ⟨h4, h4'⟩, h5, h6⟩
  · rw [if_neg c, if_neg c]
    refine ⟨sfi (sai (sal G 9 (up (al G 9) S.1 v)) 10 (up (ai G 10) S.1 l)) 11 (Int32.ofNat (S.1 + 1)), ?_, (((Fr.refl _ G).sal (k := 9) (by decide) _).sai (k := 10) (by decide) _).sfi (k := 11) (by decide) _, ⟨rfl, ?_, ?_⟩, ⟨h4, h4'⟩, (show S.1 + 1 ≤ 64 by omega), fun i hi => ?_⟩
    · simp only [y6_C, y6_g0, y6_p0, y6_g1, y6_p1, y6_g2, y6_l2, y6_s2, y6_n2, y6_g3, y6_l3, y6_s3, y6_n3, y6_g4, y6_p4, y6_g5, y6_p5, y6_g6, y6_p6, y6_g7, y6_l7, y6_s7, y6_n7, y6_g8, y6_l8, y6_s8, y6_n8, y6_g9, y6_l9, y6_s9, y6_n9, y6_g10, y6_l10, y6_s10, y6_n10, y6_g11, y6_p11, y6_g12, y6_l12, y6_s12, y6_n12, y6_g13, y6_l13, y6_s13, y6_n13, q_fi_sfi, q_fl_sfi, q_fr_sfi, q_ai_sfi, q_al_sfi, q_ar_sfi, q_ln_sfi, q_fi_sfl, q_fl_sfl, q_fr_sfl, q_ai_sfl, q_al_sfl, q_ar_sfl, q_ln_sfl, q_fi_sfr, q_fl_sfr, q_fr_sfr, q_ai_sfr, q_al_sfr, q_ar_sfr, q_ln_sfr, q_fi_sai, q_fl_sai, q_fr_sai, q_ai_sai, q_al_sai, q_ar_sai, q_ln_sai, q_fi_sal, q_fl_sal, q_fr_sal, q_ai_sal, q_al_sal, q_ar_sal, q_ln_sal, q_fi_sar, q_fl_sar, q_fr_sar, q_ai_sar, q_al_sar, q_ar_sar, q_ln_sar, reduceIte, Nat.reduceEqDiff, w6, h1, h4, h4', Option.bind_some, ix_n (show S.1 < 2147483648 by omega), decide_eq_true (show S.1 < 64 by omega), if_true, c32 (show S.1 < 2147483648 by omega), nar01 hl, suc32]
    · show up (al G 9) S.1 v = up S.2.1 S.1 v; rw [h2]
    · show up (ai G 10) S.1 l = up S.2.2 S.1 l; rw [h3]
    · show up S.2.2 S.1 l i = 0 ∨ up S.2.2 S.1 l i = 1
      by_cases d : i = S.1
      · rw [d, up_same]; exact hl
      · rw [up_ne _ _ _ _ d]; exact h6 i (by have : i < S.1 + 1 := hi; omega)
theorem c_out (s : Hs) (op : Int32) (x y : Int64) : fX6_outcome_0 s op x y = some (outF op x y) := by
  unfold fX6_outcome_0 outF
  by_cases c5 : op = 5
  · rw [if_pos c5, if_pos c5]
  rw [if_neg c5, if_neg c5]
  by_cases c6 : op = 6
  · rw [if_pos c6, if_pos c6]
  rw [if_neg c6, if_neg c6]
  by_cases c7 : op = 7
  · rw [if_pos c7, if_pos c7]
  rw [if_neg c7, if_neg c7]
  by_cases c8 : op = 8
  · rw [if_pos c8, if_pos c8]
    by_cases d : y = 0
    · rw [if_pos d, if_pos d]
    · rw [if_neg d, if_neg d, if_neg d]
  rw [if_neg c8, if_neg c8]
  by_cases c9 : op = 9
  · rw [if_pos c9, if_pos c9]
    by_cases d : y = 0
    · rw [if_pos d, if_pos d]
    · rw [if_neg d, if_neg d, if_neg d]
  rw [if_neg c9, if_neg c9]
  by_cases c10 : op = 10
  · rw [if_pos c10, if_pos c10]
    by_cases d : y ≤ x
    · rw [if_pos d, if_pos d]
    · rw [if_neg d, if_neg d]
  rw [if_neg c10, if_neg c10]
  by_cases c11 : op = 11
  · rw [if_pos c11, if_pos c11]
    by_cases d : x ≤ y
    · rw [if_pos d, if_pos d]
    · rw [if_neg d, if_neg d]
  rw [if_neg c11, if_neg c11]
  by_cases c15 : op = 15
  · subst c15; rfl
  rw [if_neg c15, if_neg c15]
  (repeat' split) <;> rfl
theorem c_cmp (s : Hs) (op : Int32) (x y : Int64) : fX6_compares_0 s op x y = some (cmX op x y) := by
  unfold fX6_compares_0 cmX
  simp only [bb_0, bb_1]
  (repeat' split) <;> rfl
theorem c_cmb {S : Pl} (h : HC G S) (op nt : Int32) : ∃ G', fX6_combine_0 (e6 a σ0 G) a op nt = some (e6 a σ0 G') ∧ Fr [9, 10, 11] G G' ∧ HC G' (xcm op nt S) := by
  have hh := h
  obtain ⟨⟨h1, h2, h3⟩, ⟨h4, h4'⟩, h5, h6⟩ := hh
  have e2 : ((2 : Int32) ≤ Int32.ofNat S.1) = (2 ≤ S.1) := propext (le_n (a := 2) (by decide) (by omega))
  unfold fX6_combine_0 xcm
  simp only [y6_g11, h1, Option.bind_some, e2]
  by_cases c : 2 ≤ S.1
  · rw [if_pos c, if_pos c]
    have hl := h.low (k := S.1 - 2) (by omega)
    have F0 : Fr [9, 10, 11] G (sfi G 11 (Int32.ofNat (S.1 - 2))) := (Fr.refl _ G).sfi (k := 11) (by decide) _
    have key : ∀ l : Int32, l = 0 ∨ l = 1 → ∃ G', fX6_combine_73 (e6 a σ0 (sfi G 11 (Int32.ofNat (S.1 - 2)))) a op nt (S.2.1 (S.1 - 2)) (S.2.1 (S.1 - 2 + 1)) l = some (e6 a σ0 G') ∧ Fr [9, 10, 11] G G' ∧ HC G' (layF (S.1 - 2, S.2) (xcv op nt (S.2.1 (S.1 - 2)) (S.2.1 (S.1 - 2 + 1)) l).1 (xcv op nt (S.2.1 (S.1 - 2)) (S.2.1 (S.1 - 2 + 1)) l).2) := by
      intro l hl01
      generalize S.2.1 (S.1 - 2) = u
      generalize S.2.1 (S.1 - 2 + 1) = v
      have lay : ∀ (x : Int64) (y : Int32), y = 0 ∨ y = 1 → ∃ G', ((isC (e6 a σ0 (sfi G 11 (Int32.ofNat (S.1 - 2)))) a 8).bind fun _ => (fX6_lay_0 (e6 a σ0 (sfi G 11 (Int32.ofNat (S.1 - 2)))) a x y).bind fun s => some s) = some (e6 a σ0 G') ∧ Fr [9, 10, 11] G G' ∧ HC G' (layF (S.1 - 2, S.2) x y) := by
        intro x y hy
        obtain ⟨G', q1, q2, q3⟩ := c_lay (a := a) (σ0 := σ0) hl x hy
        exact ⟨G', by simp only [y6_C, q1, Option.bind_some], F0.trans q2, q3⟩
      unfold fX6_combine_73
      by_cases k1 : op = 12 ∨ op = 13 ∨ op = 14
      · have e93 : ∃ G', fX6_combine_93 (e6 a σ0 (sfi G 11 (Int32.ofNat (S.1 - 2)))) a op nt u v l = some (e6 a σ0 G') ∧ Fr [9, 10, 11] G G' ∧ HC G' (layF (S.1 - 2, S.2) (xcv op nt u v l).1 (xcv op nt u v l).2) := by
          unfold fX6_combine_93 xcv
          rw [if_pos k1, c_cmp, Option.bind_some]
          by_cases kl : l = 0
          · rw [if_pos kl, if_pos kl]
            by_cases kc : cmX op u v = nt
            · rw [if_pos kc, if_pos kc]; exact lay 0 0 (Or.inl rfl)
            · rw [if_neg kc, if_neg kc]; exact lay 1 0 (Or.inl rfl)
          · rw [if_neg kl, if_neg kl]; exact lay 0 0 (Or.inl rfl)
        by_cases k12 : op = 12
        · rw [if_pos k12]; exact e93
        rw [if_neg k12]
        by_cases k13 : op = 13
        · rw [if_pos k13]; exact e93
        rw [if_neg k13, if_pos (by rcases k1 with q | q | q; exact absurd q k12; exact absurd q k13; exact q)]; exact e93
      · rw [if_neg (fun q => k1 (Or.inl q)), if_neg (fun q => k1 (Or.inr (Or.inl q))), if_neg (fun q => k1 (Or.inr (Or.inr q)))]
        unfold xcv
        rw [if_neg k1]
        have e134 : (op = 8 ∨ op = 9) → ∃ G', fX6_combine_134 (e6 a σ0 (sfi G 11 (Int32.ofNat (S.1 - 2)))) a op u v l = some (e6 a σ0 G') ∧ Fr [9, 10, 11] G G' ∧ HC G' (layF (S.1 - 2, S.2) (if (op = 8 ∨ op = 9) ∧ v = 0 then ((0 : Int64), (1 : Int32)) else (outF op u v, l)).1 (if (op = 8 ∨ op = 9) ∧ v = 0 then ((0 : Int64), (1 : Int32)) else (outF op u v, l)).2) := by
          intro k8
          unfold fX6_combine_134
          by_cases kv : v = 0
          · rw [if_pos kv, if_pos ⟨k8, kv⟩]; exact lay 0 1 (Or.inr rfl)
          · rw [if_neg kv, if_neg (fun q => kv q.2), c_out, Option.bind_some]; exact lay _ l hl01
        by_cases k8 : op = 8
        · rw [if_pos k8]; exact e134 (Or.inl k8)
        rw [if_neg k8]
        by_cases k9 : op = 9
        · rw [if_pos k9]; exact e134 (Or.inr k9)
        rw [if_neg k9, if_neg (fun q => q.1.elim k8 k9), c_out, Option.bind_some]; exact lay _ l hl01
    simp only [y6_C, y6_g0, y6_p0, y6_g1, y6_p1, y6_g2, y6_l2, y6_s2, y6_n2, y6_g3, y6_l3, y6_s3, y6_n3, y6_g4, y6_p4, y6_g5, y6_p5, y6_g6, y6_p6, y6_g7, y6_l7, y6_s7, y6_n7, y6_g8, y6_l8, y6_s8, y6_n8, y6_g9, y6_l9, y6_s9, y6_n9, y6_g10, y6_l10, y6_s10, y6_n10, y6_g11, y6_p11, y6_g12, y6_l12, y6_s12, y6_n12, y6_g13, y6_l13, y6_s13, y6_n13, q_fi_sfi, q_fl_sfi, q_fr_sfi, q_ai_sfi, q_al_sfi, q_ar_sfi, q_ln_sfi, q_fi_sfl, q_fl_sfl, q_fr_sfl, q_ai_sfl, q_al_sfl, q_ar_sfl, q_ln_sfl, q_fi_sfr, q_fl_sfr, q_fr_sfr, q_ai_sfr, q_al_sfr, q_ar_sfr, q_ln_sfr, q_fi_sai, q_fl_sai, q_fr_sai, q_ai_sai, q_al_sai, q_ar_sai, q_ln_sai, q_fi_sal, q_fl_sal, q_fr_sal, q_ai_sal, q_al_sal, q_ar_sal, q_ln_sal, q_fi_sar, q_fl_sar, q_fr_sar, q_ai_sar, q_al_sar, q_ar_sar, q_ln_sar, reduceIte, Nat.reduceEqDiff, w6, h1, h2, h3, h4, h4', Option.bind_some, s2n c, suc32, ix_n (show S.1 - 2 < 2147483648 by omega), ix_n (show S.1 - 2 + 1 < 2147483648 by omega), decide_eq_true (show S.1 - 2 < 64 by omega), decide_eq_true (show S.1 - 2 + 1 < 64 by omega), if_true, c32 (show S.1 - 2 < 2147483648 by omega), c32 (show S.1 - 2 + 1 < 2147483648 by omega)]
    by_cases c1 : S.2.2 (S.1 - 2) = 0
    · rw [if_pos c1]
      by_cases c2 : S.2.2 (S.1 - 2 + 1) = 0
      · rw [if_pos c2, show lkO (S.2.2 (S.1 - 2)) (S.2.2 (S.1 - 2 + 1)) = 0 from if_pos ⟨c1, c2⟩]; exact key 0 (Or.inl rfl)
      · rw [if_neg c2, show lkO (S.2.2 (S.1 - 2)) (S.2.2 (S.1 - 2 + 1)) = 1 from if_neg (fun z => c2 z.2)]; exact key 1 (Or.inr rfl)
    · rw [if_neg c1, show lkO (S.2.2 (S.1 - 2)) (S.2.2 (S.1 - 2 + 1)) = 1 from if_neg (fun z => c1 z.1)]; exact key 1 (Or.inr rfl)
  · rw [if_neg c, if_neg c]; exact ⟨G, rfl, Fr.refl _ _, h⟩
theorem c_cho {S : Pl} (h : HC G S) : ∃ G', fX6_choose_0 (e6 a σ0 G) a = some (e6 a σ0 G') ∧ Fr [9, 10, 11] G G' ∧ HC G' (xch S) := by
  have hh := h
  obtain ⟨⟨h1, h2, h3⟩, ⟨h4, h4'⟩, h5, h6⟩ := hh
  have e3 : ((3 : Int32) ≤ Int32.ofNat S.1) = (3 ≤ S.1) := propext (le_n (a := 3) (by decide) (by omega))
  unfold fX6_choose_0 xch
  simp only [y6_g11, h1, Option.bind_some, e3]
  by_cases c : 3 ≤ S.1
  · rw [if_pos c, if_pos c]
    have hl := h.low (k := S.1 - 3) (by omega)
    have F0 : Fr [9, 10, 11] G (sfi G 11 (Int32.ofNat (S.1 - 3))) := (Fr.refl _ G).sfi (k := 11) (by decide) _
    have s3 : Int32.ofNat S.1 - 3 = Int32.ofNat (S.1 - 3) := by rw [show (3 : Int32) = Int32.ofNat 3 from rfl, sub_nn c]
    have a2 : Int32.ofNat (S.1 - 3) + 2 = Int32.ofNat (S.1 - 3 + 2) := by rw [show (2 : Int32) = Int32.ofNat 2 from rfl, add_n]
    simp only [y6_C, y6_g0, y6_p0, y6_g1, y6_p1, y6_g2, y6_l2, y6_s2, y6_n2, y6_g3, y6_l3, y6_s3, y6_n3, y6_g4, y6_p4, y6_g5, y6_p5, y6_g6, y6_p6, y6_g7, y6_l7, y6_s7, y6_n7, y6_g8, y6_l8, y6_s8, y6_n8, y6_g9, y6_l9, y6_s9, y6_n9, y6_g10, y6_l10, y6_s10, y6_n10, y6_g11, y6_p11, y6_g12, y6_l12, y6_s12, y6_n12, y6_g13, y6_l13, y6_s13, y6_n13, q_fi_sfi, q_fl_sfi, q_fr_sfi, q_ai_sfi, q_al_sfi, q_ar_sfi, q_ln_sfi, q_fi_sfl, q_fl_sfl, q_fr_sfl, q_ai_sfl, q_al_sfl, q_ar_sfl, q_ln_sfl, q_fi_sfr, q_fl_sfr, q_fr_sfr, q_ai_sfr, q_al_sfr, q_ar_sfr, q_ln_sfr, q_fi_sai, q_fl_sai, q_fr_sai, q_ai_sai, q_al_sai, q_ar_sai, q_ln_sai, q_fi_sal, q_fl_sal, q_fr_sal, q_ai_sal, q_al_sal, q_ar_sal, q_ln_sal, q_fi_sar, q_fl_sar, q_fr_sar, q_ai_sar, q_al_sar, q_ar_sar, q_ln_sar, reduceIte, Nat.reduceEqDiff, w6, h1, h2, h3, h4, h4', Option.bind_some, s3, a2, suc32, ix_n (show S.1 - 3 < 2147483648 by omega), ix_n (show S.1 - 3 + 1 < 2147483648 by omega), ix_n (show S.1 - 3 + 2 < 2147483648 by omega), decide_eq_true (show S.1 - 3 < 64 by omega), decide_eq_true (show S.1 - 3 + 1 < 64 by omega), decide_eq_true (show S.1 - 3 + 2 < 64 by omega), if_true, c32 (show S.1 - 3 < 2147483648 by omega), c32 (show S.1 - 3 + 1 < 2147483648 by omega), c32 (show S.1 - 3 + 2 < 2147483648 by omega)]
    by_cases c1 : S.2.1 (S.1 - 3) = 0
    · rw [if_pos c1, if_pos c1]
      obtain ⟨G', q1, q2, q3⟩ := c_lay (a := a) (σ0 := σ0) hl (S.2.1 (S.1 - 3 + 2)) (h6 (S.1 - 3 + 2) (by omega))
      exact ⟨G', by rw [q1, Option.bind_some], F0.trans q2, q3⟩
    · rw [if_neg c1, if_neg c1]
      obtain ⟨G', q1, q2, q3⟩ := c_lay (a := a) (σ0 := σ0) hl (S.2.1 (S.1 - 3 + 1)) (h6 (S.1 - 3 + 1) (by omega))
      exact ⟨G', by rw [q1, Option.bind_some], F0.trans q2, q3⟩
  · rw [if_neg c, if_neg c]; exact ⟨G, rfl, Fr.refl _ _, h⟩
theorem c_perf {S : Pl} (h : HC G S) (hV : HV G) {op opd : Int32} (ho : OkO op opd) : ∃ G', fX6_perform_0 (e6 a σ0 G) a op opd = some (e6 a σ0 G') ∧ Fr [9, 10, 11] G G' ∧ HC G' (xst (al G 8) (al G 12) (ai G 13) op opd S) := by
  obtain ⟨o3, o1, o2⟩ := ho
  obtain ⟨⟨v1, v2, v3⟩, v4⟩ := hV
  unfold fX6_perform_0 xst
  by_cases c0 : op = 0
  · rw [if_pos c0, if_pos c0]
    obtain ⟨G', q1, q2, q3⟩ := c_lay (a := a) (σ0 := σ0) h opd.toInt64 (l := 0) (Or.inl rfl)
    exact ⟨G', by simp only [y6_C, q1, Option.bind_some], q2, q3⟩
  rw [if_neg c0, if_neg c0]
  by_cases c1 : op = 1
  · obtain ⟨v, w1, w2⟩ := o1 c1
    rw [if_pos c1, if_pos c1, w1, c32 (by omega)]
    obtain ⟨G', q1, q2, q3⟩ := c_lay (a := a) (σ0 := σ0) h (al G 8 v) (l := 0) (Or.inl rfl)
    exact ⟨G', by simp only [y6_C, y6_g0, y6_p0, y6_g1, y6_p1, y6_g2, y6_l2, y6_s2, y6_n2, y6_g3, y6_l3, y6_s3, y6_n3, y6_g4, y6_p4, y6_g5, y6_p5, y6_g6, y6_p6, y6_g7, y6_l7, y6_s7, y6_n7, y6_g8, y6_l8, y6_s8, y6_n8, y6_g9, y6_l9, y6_s9, y6_n9, y6_g10, y6_l10, y6_s10, y6_n10, y6_g11, y6_p11, y6_g12, y6_l12, y6_s12, y6_n12, y6_g13, y6_l13, y6_s13, y6_n13, v1, Option.bind_some, ix_n (show v < 2147483648 by omega), decide_eq_true w2, if_true, c32 (show v < 2147483648 by omega), q1], q2, q3⟩
  rw [if_neg c1, if_neg c1]
  by_cases c2 : op = 2
  · obtain ⟨v, w1, w2⟩ := o2 c2
    rw [if_pos c2, if_pos c2, w1, c32 (by omega)]
    obtain ⟨G', q1, q2, q3⟩ := c_lay (a := a) (σ0 := σ0) h (al G 12 v) (v4 v w2)
    exact ⟨G', by simp only [y6_C, y6_g0, y6_p0, y6_g1, y6_p1, y6_g2, y6_l2, y6_s2, y6_n2, y6_g3, y6_l3, y6_s3, y6_n3, y6_g4, y6_p4, y6_g5, y6_p5, y6_g6, y6_p6, y6_g7, y6_l7, y6_s7, y6_n7, y6_g8, y6_l8, y6_s8, y6_n8, y6_g9, y6_l9, y6_s9, y6_n9, y6_g10, y6_l10, y6_s10, y6_n10, y6_g11, y6_p11, y6_g12, y6_l12, y6_s12, y6_n12, y6_g13, y6_l13, y6_s13, y6_n13, v2, v3, Option.bind_some, ix_n (show v < 2147483648 by omega), decide_eq_true w2, if_true, c32 (show v < 2147483648 by omega), q1], q2, q3⟩
  rw [if_neg c2, if_neg c2, if_neg o3]
  by_cases c4 : op = 4
  · rw [if_pos c4, if_pos c4]
    obtain ⟨G', q1, q2, q3⟩ := c_cho (a := a) (σ0 := σ0) h
    exact ⟨G', by simp only [y6_C, q1, Option.bind_some], q2, q3⟩
  rw [if_neg c4, if_neg c4]
  by_cases cz : opd = 0
  · rw [if_pos cz, if_pos cz]
    obtain ⟨G', q1, q2, q3⟩ := c_cmb (a := a) (σ0 := σ0) h op 0
    exact ⟨G', by simp only [y6_C, q1, Option.bind_some], q2, q3⟩
  · rw [if_neg cz, if_neg cz]
    obtain ⟨G', q1, q2, q3⟩ := c_cmb (a := a) (σ0 := σ0) h op 1
    exact ⟨G', by simp only [y6_C, q1, Option.bind_some], q2, q3⟩
end
