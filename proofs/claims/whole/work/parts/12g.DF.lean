section
variable {P : Par} {x : Nat} {own : Nat → Nat} {σ : Hs} {R : Gs} {st : Int32}
theorem k_table (hP : P.ok) (hW : RW R) (h : XW P x own σ R st) (hK : KBx P x R) (c d : Int32) : KI P x σ (rf (st_table (nC R) c d) (Int32.ofInt (kd (tcl R (nL R) (nN R) (P.2.2 R) c) d.toInt))) (st_table (nC R) c d) R (fX11_table_0 σ x c d) := by
  obtain ⟨G, T, eC, eV, eN, eT, eS, h⟩ := h
  have hA := h.2.2.1.at
  have h12' := hW.2.2.2.1.2.1
  have h32 : ∀ v, (v ≠ 0 ∨ (v = 0 ∧ 0 ≤ c.toInt ∧ c.toInt < nC R)) → KI P x σ (rf v (Int32.ofInt (kd (tcl R (nL R) (nN R) (P.2.2 R) c) d.toInt))) v R (fX11_table_32 (e11 x σ (sfi G 0 v)) x c d) := by
    intro v hv
    have hA2 : A11 x (sfi G 0 v) (e11 x σ (sfi G 0 v)) := A11_self _ _
    unfold fX11_table_32
    simp only [z11_g0 hA2, z11_C hA2, Option.bind_some, q_fi_sfi, q_fl_sfi, q_fr_sfi, q_ai_sfi, q_al_sfi, q_ar_sfi, q_ln_sfi, q_fi_sfl, q_fl_sfl, q_fr_sfl, q_ai_sfl, q_al_sfl, q_ar_sfl, q_ln_sfl, q_fi_sfr, q_fl_sfr, q_fr_sfr, q_ai_sfr, q_al_sfr, q_ar_sfr, q_ln_sfr, q_fi_sai, q_fl_sai, q_fr_sai, q_ai_sai, q_al_sai, q_ar_sai, q_ln_sai, q_fi_sal, q_fl_sal, q_fr_sal, q_ai_sal, q_al_sal, q_ar_sal, q_ln_sal, q_fi_sar, q_fl_sar, q_fr_sar, q_ai_sar, q_al_sar, q_ar_sar, q_ln_sar, reduceIte, Nat.reduceEqDiff]
    rcases hv with h0 | ⟨h0, hcond⟩
    · rw [if_neg h0, show rf v _ = -1 from if_neg h0]; exact KI.no hP h hW _ _
    · rw [if_pos h0, show rf v _ = _ from if_pos h0]
      obtain ⟨cn, rfl, hcn, hc⟩ := get32 c hcond.1
      obtain ⟨s1, G1, T1, a1, a2, a3, a4, a5⟩ := k_stset hP hW h hK v
      have hA3 := a2.2.2.1.at
      have c1 : isC s1 (x + 7) 1 = some () := xJ_C a2.2.2.2.2.2.1.1
      have c3 : fJx4a65c_get_915e3_0 s1 (x + 7) (Int32.ofNat cn) = some (some (eC cn)) := xJ_get a2.2.2.2.2.2.1.1 (by omega)
      obtain ⟨Gc, Tc, nt, y1, y2, y3, y5, y9, y10, y11⟩ := a2.2.2.2.2.2.1.2 cn (by omega)
      obtain ⟨z1, z2, z3⟩ := y11 a3
      obtain ⟨r, r1, r2⟩ := x9_kindOf (b := eC cn + 1) (σ := s1) y10 d
      rw [show e9 (eC cn + 1) s1 Tc = s1 from y2] at r1
      simp only [a1, Option.bind_some, z11_g7 hA3, c1, c3, z1_C y1, z1_g1 y1, z9_C y2, r1]
      refine ⟨s1, own, ?_, ⟨_, _, _, _, _, _, _, a2⟩, a5.kp h.1 n4WS⟩
      rw [← kd_perm (tcl_perm z2)]
      exact congrArg (fun q => some (q, s1)) (ofI r2).symm
  unfold fX11_table_0
  simp only [z11_C hA, Option.bind_some, x_isClock hA h.2.2.2.2.2.1.1 h12', x_isDay, b2i_0, z11_p0 hA]
  by_cases k1 : 0 ≤ c.toInt ∧ c.toInt < nC R
  · rw [if_neg (show ¬ ¬ (0 ≤ c.toInt ∧ c.toInt < (nC R : Int)) from fun q => q k1)]
    by_cases k2 : 0 ≤ d.toInt ∧ d.toInt ≤ 9999
    · rw [if_neg (show ¬ ¬ (0 ≤ d.toInt ∧ d.toInt ≤ 9999) from fun q => q k2)]
      have e : st_table (nC R) c d = 0 := (by unfold st_table; (repeat' split) <;> (first | rfl | omega))
      rw [e]; exact h32 0 (Or.inr ⟨rfl, k1⟩)
    · rw [if_pos k2]
      have e : st_table (nC R) c d = 5 := (by unfold st_table; (repeat' split) <;> (first | rfl | omega))
      rw [e]; exact h32 5 (Or.inl (by decide))
  · rw [if_pos k1]
    have e : st_table (nC R) c d = 2 := (by unfold st_table; (repeat' split) <;> (first | rfl | omega))
    rw [e]; exact h32 2 (Or.inl (by decide))
theorem x_gov {a i : Nat} {bl : Nat → Bool} {nl : Nat} {Gn : Gs} (h : A3 a Gn σ) (h5 : fi Gn 5 = b2i (itm R nl i)) (h6 : fi Gn 6 = b2i (bl i = true)) : fX3_governs_0 σ a = some (cb (itm R nl i ∧ bl i = true)) := by
  unfold fX3_governs_0
  simp only [z3_g5 h, z3_g6 h, Option.bind_some, h5, h6, b2i_0]
  by_cases y1 : itm R nl i
  · rw [if_neg (fun q => q y1)]
    by_cases y2 : bl i = true
    · rw [if_neg (fun q => q y2), cb_t ⟨y1, y2⟩]; rfl
    · rw [if_pos y2, cb_f (fun q => y2 q.2)]; rfl
  · rw [if_pos y1, cb_f (fun q => y1 q.1)]; rfl
theorem cb_0 (p : Prop) : (cb p = 0) = ¬ p := by
  apply propext
  by_cases h : p
  · rw [cb_t h]; exact ⟨fun q => absurd q (by decide), fun q => absurd h q⟩
  · rw [cb_f h]; exact ⟨fun _ => h, fun _ => rfl⟩
theorem bb_cb (p : Prop) : bb (cb p) = some (cb p) := by
  by_cases h : p
  · rw [cb_t h]; rfl
  · rw [cb_f h]; rfl
theorem x_lastG (hW : RW R) {G T : Gs} {eC eV eN eT eS : Nat → Nat} (h : XWg P x own σ R st G T eC eV eN eT eS) (hz : fi G 18 = 0) {i : Nat} (hi : i < nN R) : fX11_isLastToGovern_0 σ x (Int32.ofNat i) = some (cb (lstG R (nL R) (nN R) (P.2.2 R) (ai R 52 i) (ai R 53 i) i)) := by
  have hA := h.2.2.1.at
  have hN := h.2.2.2.2.2.2.2.1
  have h60 := hW.2.1.2.1
  have c1 : isC σ (x + 9) 1 = some () := xJ_C hN.1
  have c2 : fJx4a65c_size_8abf5_0 σ (x + 9) = some (Int32.ofNat (nN R)) := xJ_size hN.1
  have c3 : ∀ j, j < nN R → fJx4a65c_get_915e3_0 σ (x + 9) (Int32.ofNat j) = some (some (eN j)) := fun j hj => xJ_get hN.1 hj
  obtain ⟨Gn, n1, n2, ⟨n4, n5, n6, n7, n8⟩, n9⟩ := hN.2 i hi
  obtain ⟨f5, f6⟩ := n9 hz
  unfold fX11_isLastToGovern_0
  simp only [z11_g10 hA, c1, c3 i hi, Option.bind_some, z3_C n1, suc32]
  unfold fX11_isLastToGovern_16
  refine lp_q (nN R) (fun k z => z = (x, eN i, Int32.ofNat k) ∧ i < k ∧ ∀ j, i < j → j < k → ¬ gvn R (nL R) (nN R) (P.2.2 R) (ai R 52 i) (ai R 53 i) j) (fun X => X = some (cb (lstG R (nL R) (nN R) (P.2.2 R) (ai R 52 i) (ai R 53 i) i))) ?_ ?_ fu (i + 1) _ (by omega) ⟨rfl, by omega, fun j h1 h2 => by omega⟩ (by unfold fu; omega)
  · rintro K k _ hk ⟨rfl, hik, hno⟩
    obtain ⟨Gk, k1, k2, ⟨k4, k5, k6, k7, k8⟩, k9⟩ := hN.2 k hk
    obtain ⟨g5, g6⟩ := k9 hz
    have hlt : ¬ Int32.ofNat (nN R) ≤ Int32.ofNat k := by rw [le_n (by omega) (by omega)]; omega
    have hsd : fX3_isOfSameDay_0 σ (eN k) (eN i) = some (cb (ai R 52 k = ai R 52 i ∧ ai R 53 k = ai R 53 i)) := by
      unfold fX3_isOfSameDay_0
      simp only [z3_g1 k1, z3_g2 k1, z3_g1 n1, z3_g2 n1, Option.bind_some, k5, k6, n5, n6]
      by_cases y1 : ai R 52 k = ai R 52 i
      · rw [if_pos y1]
        by_cases y2 : ai R 53 k = ai R 53 i
        · rw [if_pos y2, cb_t ⟨y1, y2⟩]; rfl
        · rw [if_neg y2, cb_f (fun q => y2 q.2)]; rfl
      · rw [if_neg y1, cb_f (fun q => y1 q.1)]; rfl
    simp only [fbX11_isLastToGovern_16, z11_g10 hA, c1, c2, c3 k hk, Option.bind_some, if_neg hlt, z3_C k1, hsd, x_gov k1 g5 g6, cb_0, suc32]
    have hstep : ¬ gvn R (nL R) (nN R) (P.2.2 R) (ai R 52 i) (ai R 53 i) k → ∀ j, i < j → j < k + 1 → ¬ gvn R (nL R) (nN R) (P.2.2 R) (ai R 52 i) (ai R 53 i) j := by
      intro hn j h1 h2
      rcases Nat.lt_or_ge j k with q | q
      · exact hno j h1 q
      · have : j = k := by omega
        rw [this]; exact hn
    by_cases hs : ai R 52 k = ai R 52 i ∧ ai R 53 k = ai R 53 i
    · rw [if_neg (fun q => q hs)]
      by_cases hg : itm R (nL R) k ∧ P.2.2 R k = true
      · right
        rw [if_neg (fun q => q hg), cb_f]
        · rfl
        · intro q; exact q.2 k hik ⟨hk, hs.1, hs.2, hg⟩
      · left
        rw [if_pos hg]
        exact ⟨_, ⟨rfl, by omega, hstep (fun q => hg q.2.2.2)⟩, rfl⟩
    · left
      rw [if_pos hs]
      exact ⟨_, ⟨rfl, by omega, hstep (fun q => hs ⟨q.2.1, q.2.2.1⟩)⟩, rfl⟩
  · rintro K _ ⟨rfl, hik, hno⟩
    simp only [fbX11_isLastToGovern_16, z11_g10 hA, c1, c2, Option.bind_some, Int32.le_refl, if_true, z3_C n1, x_gov n1 f5 f6, bb_cb]
    refine congrArg some (cb_c ⟨fun q => ⟨⟨hi, rfl, rfl, q⟩, fun j hj hg => hno j hj hg.1 hg⟩, fun q => q.1.2.2.2⟩)
theorem k_told (hP : P.ok) (hW : RW R) (h : XW P x own σ R st) (hK : KBx P x R) (n w : Int32) : KI P x σ (rf (st_told (nN R) n w) (cb (tol R (nL R) (nN R) (P.2.2 R) n.toNatClampNeg w))) (st_told (nN R) n w) R (fX11_told_0 σ x n w) := by
  obtain ⟨G, T, eC, eV, eN, eT, eS, h⟩ := h
  have hA := h.2.2.1.at
  have h60 := hW.2.1.2.1
  have hpN := h.2.2.2.2.2.2.2.1
  have c1 : isC σ (x + 9) 1 = some () := xJ_C hpN.1
  have c2 : fJx4a65c_size_8abf5_0 σ (x + 9) = some (Int32.ofNat (nN R)) := xJ_size hpN.1
  have hst : fX11_toldStatus_0 σ x n w = some (st_told (nN R) n w) := by
    unfold fX11_toldStatus_0
    simp only [z11_g10 hA, c1, c2, Option.bind_some, x_isWithin, b2i_0, lt32, i0, i3, n32 (show nN R < 2147483648 by omega)]
    unfold st_told
    (repeat' split) <;> (first | rfl | omega)
  unfold fX11_told_0
  simp only [z11_C hA, hst, Option.bind_some, z11_p0 hA]
  generalize hv : st_told (nN R) n w = v at *
  have hA2 : A11 x (sfi G 0 v) (e11 x σ (sfi G 0 v)) := A11_self _ _
  simp only [z11_g0 hA2, z11_C hA2, Option.bind_some, q_fi_sfi, q_fl_sfi, q_fr_sfi, q_ai_sfi, q_al_sfi, q_ar_sfi, q_ln_sfi, q_fi_sfl, q_fl_sfl, q_fr_sfl, q_ai_sfl, q_al_sfl, q_ar_sfl, q_ln_sfl, q_fi_sfr, q_fl_sfr, q_fr_sfr, q_ai_sfr, q_al_sfr, q_ar_sfr, q_ln_sfr, q_fi_sai, q_fl_sai, q_fr_sai, q_ai_sai, q_al_sai, q_ar_sai, q_ln_sai, q_fi_sal, q_fl_sal, q_fr_sal, q_ai_sal, q_al_sal, q_ar_sal, q_ln_sal, q_fi_sar, q_fl_sar, q_fr_sar, q_ai_sar, q_al_sar, q_ar_sar, q_ln_sar, reduceIte, Nat.reduceEqDiff]
  by_cases h0 : v = 0
  · rw [if_pos h0, show rf v _ = _ from if_pos h0]
    have hcond : (0 ≤ n.toInt ∧ n.toInt < nN R) ∧ 0 ≤ w.toInt ∧ w.toInt ≤ 3 := by
      rw [h0] at hv; unfold st_told at hv
      split at hv
      · exact absurd hv (by decide)
      · split at hv
        · exact absurd hv (by decide)
        · omega
    obtain ⟨i, rfl, hi1, hi2⟩ := get32 n hcond.1.1
    have hi : i < nN R := by omega
    obtain ⟨s1, G1, T1, a1, a2, a3, a4, a5⟩ := k_stset hP hW h hK v
    have hA3 := a2.2.2.1.at
    have hN3 := a2.2.2.2.2.2.2.2.1
    have hT3 := a2.2.2.2.2.1
    have d1 : isC s1 (x + 9) 1 = some () := xJ_C hN3.1
    have d3 : fJx4a65c_get_915e3_0 s1 (x + 9) (Int32.ofNat i) = some (some (eN i)) := xJ_get hN3.1 hi
    obtain ⟨Gn, n1, n2, ⟨n4, n5, n6, n7, n8⟩, n9⟩ := hN3.2 i hi
    obtain ⟨f5, f6⟩ := n9 a3
    have hp : (tru R (nL R)).Perm (tt T1 (nL R)) := tru_perm hW hT3
    obtain ⟨kk, k1, k2⟩ := x9_kindOf (b := x + 3) (σ := s1) hT3.2.1.1 (ai R 53 i)
    rw [show e9 (x + 3) s1 T1 = s1 from hT3.1] at k1
    rw [← kd_perm hp] at k2
    have hIT : fX11_isTold_0 s1 x (Int32.ofNat i) w = some (cb (tol R (nL R) (nN R) (P.2.2 R) i w)) := by
      unfold fX11_isTold_0
      simp only [z11_g10 hA3, d1, d3, Option.bind_some, z3_C n1, z3_g5 n1, z3_g6 n1, z3_g3 n1, z3_g2 n1, f5, f6, n6, n7, z11_g6 hA3, z9_C hT3.1, k1]
      by_cases w0 : w = 0
      · rw [if_pos w0, bb_b, cb_b]
        refine congrArg some (cb_c ?_)
        unfold tol; rw [if_pos w0]
      · rw [if_neg w0]
        by_cases w1 : w = 1
        · rw [if_pos w1, bb_b, cb_b]
          refine congrArg some (cb_c ?_)
          unfold tol; rw [if_neg w0, if_pos w1]
        · rw [if_neg w1]
          have et : tol R (nL R) (nN R) (P.2.2 R) i w ↔ kd (tru R (nL R)) (ai R 53 i).toInt ≠ (ai R 54 i).toInt ∧ (w = 2 ∨ lstG R (nL R) (nN R) (P.2.2 R) (ai R 52 i) (ai R 53 i) i) := by unfold tol; rw [if_neg w0, if_neg w1]
          rw [cb_c et]
          have hkk : ai R 54 i = kk ↔ kd (tru R (nL R)) (ai R 53 i).toInt = (ai R 54 i).toInt := by rw [eq32, k2]; exact eq_comm
          by_cases hk : ai R 54 i = kk
          · rw [if_pos hk, cb_f (fun q => q.1 (hkk.mp hk))]
            unfold fX11_isTold_54; rw [if_pos rfl]; rfl
          · rw [if_neg hk]
            unfold fX11_isTold_54
            rw [if_neg (show ¬ (1 : Int32) = 0 by decide)]
            by_cases w2 : w = 2
            · rw [if_pos w2, cb_t ⟨fun q => hk (hkk.mpr q), Or.inl w2⟩]; rfl
            · rw [if_neg w2]
              simp only [z11_C hA3, Option.bind_some, x_lastG hW a2 a3 hi]
              by_cases hl : lstG R (nL R) (nN R) (P.2.2 R) (ai R 52 i) (ai R 53 i) i
              · rw [cb_t hl, if_neg (show ¬ (1 : Int32) = 0 by decide), cb_t ⟨fun q => hk (hkk.mpr q), Or.inr hl⟩]; rfl
              · rw [cb_f hl, if_pos rfl, cb_f]
                · rfl
                · rintro ⟨_, q | q⟩
                  · exact w2 q
                  · exact hl q
    simp only [a1, Option.bind_some, z11_C hA3, hIT, c32 hi1]
    by_cases hl : tol R (nL R) (nN R) (P.2.2 R) i w
    · rw [cb_t hl, if_neg (show ¬ (1 : Int32) = 0 by decide)]
      exact ⟨s1, own, rfl, ⟨_, _, _, _, _, _, _, a2⟩, a5.kp h.1 n4WS⟩
    · rw [cb_f hl, if_pos rfl]
      exact ⟨s1, own, rfl, ⟨_, _, _, _, _, _, _, a2⟩, a5.kp h.1 n4WS⟩
  · rw [if_neg h0, show rf v _ = -1 from if_neg h0]
    exact KI.no hP h hW _ _
theorem x9_unlike {b b' : Nat} {G G' : Gs} {cap cap' n n' : Nat} (hG : A9 b G σ) (hG' : A9 b' G' σ) (h : TV G cap n) (h' : TV G' cap' n') : fX9_unlikeDays_0 σ b b' = some (Int32.ofNat (msc (tt G n) (tt G' n'))) := by
  obtain ⟨hn, hc, h60, ⟨l0, l1, l2⟩, hs, hk, hr⟩ := id h
  obtain ⟨hn', hc', h60', ⟨l0', l1', l2'⟩, hs', hk', hr'⟩ := id h'
  unfold msc
  generalize hp1 : (fun p : Int × Int => decide (kd (tt G' n') p.1 ≠ p.2)) = p1
  generalize hp2 : (fun p : Int × Int => decide (kd (tt G n) p.1 = 0)) = p2
  have hl2 : ∀ a : Nat, a ≤ 60 → fX9_unlikeDays_42 σ b b' (Int32.ofNat a) 0 = some (Int32.ofNat (a + (tt G' n').countP p2)) := by
    intro a ha
    unfold fX9_unlikeDays_42
    refine lp_q n' (fun k z => z = (b, b', Int32.ofNat (a + (lst k (ai G' 0) (ai G' 1)).countP p2), Int32.ofNat k)) (fun X => X = some (Int32.ofNat (a + (tt G' n').countP p2))) ?_ ?_ fu 0 _ (by omega) rfl (by unfold fu; omega)
    · rintro K k _ hk2 rfl
      left
      obtain ⟨kk, k1, k2⟩ := x9_kindOf (b := b) (σ := σ) h (ai G' 0 k)
      rw [show e9 b σ G = σ from hG] at k1
      simp only [fbX9_unlikeDays_42, z9_g3 hG', z9_g0 hG', z9_l0 hG', z9_C hG, Option.bind_some, hn', l0', le_n (show n' < 2147483648 by omega) (show k < 2147483648 by omega), if_neg (show ¬ n' ≤ k by omega), ix_n (show k < 2147483648 by omega), decide_eq_true (show k < cap' by omega), if_true, c32 (show k < 2147483648 by omega), suc32, k1]
      refine ⟨_, rfl, ?_⟩
      rw [cP_succ]
      have hpp : p2 ((ai G' 0 k).toInt, (ai G' 1 k).toInt) = decide (kk = 0) := by
        rw [← hp2]
        show decide (kd (tt G n) (ai G' 0 k).toInt = 0) = decide (kk = 0)
        rw [← k2]
        apply decide_eq_decide.mpr
        rw [eq32, i0]
      rw [hpp]
      by_cases q : kk = 0
      · rw [if_pos q, decide_eq_true q, if_pos rfl]; rfl
      · rw [if_neg q, decide_eq_false q]; rfl
    · rintro K _ rfl
      simp only [fbX9_unlikeDays_42, z9_g3 hG', Option.bind_some, hn', Int32.le_refl, if_true]; rfl
  unfold fX9_unlikeDays_0 fX9_unlikeDays_4
  refine lp_q n (fun k z => z = (b, b', Int32.ofNat ((lst k (ai G 0) (ai G 1)).countP p1), Int32.ofNat k)) (fun X => X = some (Int32.ofNat ((tt G n).countP p1 + (tt G' n').countP p2))) ?_ ?_ fu 0 _ (by omega) rfl (by unfold fu; omega)
  · rintro K k _ hk2 rfl
    left
    obtain ⟨kk, k1, k2⟩ := x9_kindOf (b := b') (σ := σ) h' (ai G 0 k)
    rw [show e9 b' σ G' = σ from hG'] at k1
    simp only [fbX9_unlikeDays_4, z9_g3 hG, z9_g0 hG, z9_l0 hG, z9_g1 hG, z9_l1 hG, z9_C hG', Option.bind_some, hn, l0, l1, le_n (show n < 2147483648 by omega) (show k < 2147483648 by omega), if_neg (show ¬ n ≤ k by omega), ix_n (show k < 2147483648 by omega), decide_eq_true (show k < cap by omega), if_true, c32 (show k < 2147483648 by omega), suc32, k1]
    refine ⟨_, rfl, ?_⟩
    rw [cP_succ]
    have hpp : p1 ((ai G 0 k).toInt, (ai G 1 k).toInt) = decide (kk ≠ ai G 1 k) := by
      rw [← hp1]
      show decide (kd (tt G' n') (ai G 0 k).toInt ≠ (ai G 1 k).toInt) = decide (kk ≠ ai G 1 k)
      apply decide_eq_decide.mpr
      rw [ne_eq, ne_eq, eq32, k2]
    rw [hpp]
    by_cases q : kk = ai G 1 k
    · rw [if_pos q, decide_eq_false (fun r => r q)]; rfl
    · rw [if_neg q, decide_eq_true q, if_pos rfl]
  · rintro K _ rfl
    simp only [fbX9_unlikeDays_4, z9_g3 hG, Option.bind_some, hn, Int32.le_refl, if_true]
    exact hl2 _ (by have := cP_le n (ai G 0) (ai G 1) p1; omega)
theorem k_misses (hP : P.ok) (hW : RW R) (h : XW P x own σ R st) (hK : KBx P x R) (c : Int32) : KI P x σ (rf (st_miss (nC R) c) (Int32.ofNat (msc (tcl R (nL R) (nN R) (P.2.2 R) c) (tru R (nL R))))) (st_miss (nC R) c) R (fX11_misses_0 σ x c) := by
  obtain ⟨G, T, eC, eV, eN, eT, eS, h⟩ := h
  have hA := h.2.2.1.at
  have h12' := hW.2.2.2.1.2.1
  have h14 : ∀ v, (v ≠ 0 ∨ (v = 0 ∧ 0 ≤ c.toInt ∧ c.toInt < nC R)) → KI P x σ (rf v (Int32.ofNat (msc (tcl R (nL R) (nN R) (P.2.2 R) c) (tru R (nL R))))) v R (fX11_misses_14 σ x c x v) := by
    intro v hv
    have hA2 : A11 x (sfi G 0 v) (e11 x σ (sfi G 0 v)) := A11_self _ _
    unfold fX11_misses_14
    simp only [z11_p0 hA, z11_g0 hA2, z11_C hA2, Option.bind_some, q_fi_sfi, q_fl_sfi, q_fr_sfi, q_ai_sfi, q_al_sfi, q_ar_sfi, q_ln_sfi, q_fi_sfl, q_fl_sfl, q_fr_sfl, q_ai_sfl, q_al_sfl, q_ar_sfl, q_ln_sfl, q_fi_sfr, q_fl_sfr, q_fr_sfr, q_ai_sfr, q_al_sfr, q_ar_sfr, q_ln_sfr, q_fi_sai, q_fl_sai, q_fr_sai, q_ai_sai, q_al_sai, q_ar_sai, q_ln_sai, q_fi_sal, q_fl_sal, q_fr_sal, q_ai_sal, q_al_sal, q_ar_sal, q_ln_sal, q_fi_sar, q_fl_sar, q_fr_sar, q_ai_sar, q_al_sar, q_ar_sar, q_ln_sar, reduceIte, Nat.reduceEqDiff]
    rcases hv with h0 | ⟨h0, hcond⟩
    · rw [if_neg h0, show rf v _ = -1 from if_neg h0]; exact KI.no hP h hW _ _
    · rw [if_pos h0, show rf v _ = _ from if_pos h0]
      obtain ⟨cn, rfl, hcn, hc⟩ := get32 c hcond.1
      obtain ⟨s1, G1, T1, a1, a2, a3, a4, a5⟩ := k_stset hP hW h hK v
      have hA3 := a2.2.2.1.at
      have hT3 := a2.2.2.2.2.1
      have c1 : isC s1 (x + 7) 1 = some () := xJ_C a2.2.2.2.2.2.1.1
      have c3 : fJx4a65c_get_915e3_0 s1 (x + 7) (Int32.ofNat cn) = some (some (eC cn)) := xJ_get a2.2.2.2.2.2.1.1 (by omega)
      obtain ⟨Gc, Tc, nt, y1, y2, y3, y5, y9, y10, y11⟩ := a2.2.2.2.2.2.1.2 cn (by omega)
      obtain ⟨z1, z2, z3⟩ := y11 a3
      have hp : (tru R (nL R)).Perm (tt T1 (nL R)) := tru_perm hW hT3
      simp only [a1, Option.bind_some, z11_g7 hA3, c1, c3, z1_C y1, z1_g1 y1, z11_g6 hA3, z9_C y2, x9_unlike y2 hT3.1 y10 hT3.2.1.1]
      refine ⟨s1, own, ?_, ⟨_, _, _, _, _, _, _, a2⟩, a5.kp h.1 n4WS⟩
      rw [← msc_perm (tcl_perm z2) hp.symm]; rfl
  unfold fX11_misses_0
  simp only [z11_C hA, Option.bind_some, x_isClock hA h.2.2.2.2.2.1.1 h12', b2i_0]
  by_cases k1 : 0 ≤ c.toInt ∧ c.toInt < nC R
  · rw [if_neg (show ¬ ¬ (0 ≤ c.toInt ∧ c.toInt < (nC R : Int)) from fun q => q k1)]
    have e : st_miss (nC R) c = 0 := (by unfold st_miss; (repeat' split) <;> (first | rfl | omega))
    rw [e]; exact h14 0 (Or.inr ⟨rfl, k1⟩)
  · rw [if_pos k1]
    have e : st_miss (nC R) c = 2 := (by unfold st_miss; (repeat' split) <;> (first | rfl | omega))
    rw [e]; exact h14 2 (Or.inl (by decide))
end
