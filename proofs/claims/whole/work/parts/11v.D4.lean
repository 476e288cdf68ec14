def wR (σ : Hs) (a : Nat) (c : Ce) : Hs := (σ.1, va_up σ.2.1 a c, σ.2.2)
def rA (n : Nat) (f : Nat → Option Nat) : Ce := .inl (7, n, .inr (.inr (.inr (.inr f))))
theorem wR_s (σ : Hs) (a : Nat) (c : Ce) : (wR σ a c).2.1 a = c := vau_s _ _ _
theorem wR_n (σ : Hs) {a b : Nat} (c : Ce) (h : b ≠ a) : (wR σ a c).2.1 b = σ.2.1 b := vau_n h
theorem nw_s (σ : Hs) (c : Ce) : (nw σ c).2.1 σ.1 = c := vau_s _ _ _
theorem nw_n (σ : Hs) {b : Nat} (c : Ce) (h : b ≠ σ.1) : (nw σ c).2.1 b = σ.2.1 b := vau_n h
theorem stO_ok {σ : Hs} {a v n : Nat} {f : Nat → Option Nat} {i : Nat} (hv : anyO σ v = some ()) (hc : σ.2.1 a = rA n f) (hi : i < n) (hn : n ≤ 100) : stO σ a (Int32.ofNat i) v = some (wR σ a (rA n (va_up f i (some v)))) := by
  unfold stO
  rw [hv, Option.bind_some, hc]
  unfold rA
  simp only [ix_n (show i < 2147483648 by omega), decide_eq_true hi, and_self, if_true, c32 (show i < 2147483648 by omega)]; rfl
theorem anyO_c {σ σ' : Hs} {v : Nat} (h : σ'.2.1 v = σ.2.1 v) : anyO σ' v = anyO σ v := by unfold anyO; rw [h]
theorem aN_c {σ σ' : Hs} {v : Nat} (h : σ'.2.1 v = σ.2.1 v) : aN σ' v = aN σ v := by unfold aN; rw [h]
theorem aN_r {σ : Hs} {a n : Nat} {f : Nat → Option Nat} (h : σ.2.1 a = rA n f) : aN σ a = some (Int32.ofNat n) := by unfold aN; rw [h]; rfl
section
variable {x : Nat} {own : Nat → Nat} {σ : Hs} {l n : Nat} {el : Nat → Nat}
theorem xJ_size (h : PLs x own σ l n el) : fJx4a65c_size_8abf5_0 σ (x + 7 + l) = some (Int32.ofNat n) := by
  obtain ⟨G, h1, h2, h3⟩ := h
  unfold fJx4a65c_size_8abf5_0
  rw [zJ_g2 h1, Option.bind_some, h2]
theorem xJ_C (h : PLs x own σ l n el) : isC σ (x + 7 + l) 1 = some () := by
  obtain ⟨G, h1, h2, h3⟩ := h
  exact zJ_C h1
theorem xJ_get (h : PLs x own σ l n el) {i : Nat} (hi : i < n) : fJx4a65c_get_915e3_0 σ (x + 7 + l) (Int32.ofNat i) = some (some (el i)) := by
  obtain ⟨G, h1, h2, h3⟩ := h
  rcases h3 with ⟨q, _⟩ | ⟨d, cap, f, q1, q2, q3, q4, q5⟩
  · omega
  · have hlt : Int32.ofNat i < Int32.ofNat n := (lt_n (by omega) (by omega)).mpr hi
    have hnn : ¬ Int32.ofNat i < 0 := by rw [lt32, n32 (by omega), i0]; omega
    unfold fJx4a65c_get_915e3_0 fJ15_checkIndex_7cf53_0 fJ3_checkIndex_8e157_0 fJx4a65c_elementData_915e3_0
    simp only [zJ_g2 h1, zJ_C h1, zJ_g1 h1, h2, q1, Option.bind_some, if_neg hnn, if_pos hlt]
    unfold ldR
    rw [q2]
    simp only [ix_n (show i < 2147483648 by omega), decide_eq_true (show i < cap by omega), and_self, if_true, c32 (show i < 2147483648 by omega), Option.bind_some, q5 i hi]
theorem xJ_tail {G : Gs} {d cap v : Nat} {f : Nat → Option Nat} (hl : l < 5) (hx : x + 78 ≤ σ.1) (hA : AJ (x + 7 + l) G σ) (hd : fr G 1 = some d) (hc : σ.2.1 d = rA cap f) (hn : n < cap) (hcap : cap ≤ 100) (ht : tg x own d = 15 + l ∧ d < σ.1) (hf : ∀ i, i < n → f i = some (el i)) (hv : anyO σ v = some ()) :
    ∃ s', ((stO σ d (Int32.ofNat n) v).bind fun sq2 => (pV sq2 (x + 7 + l) 1 2 (.int (Int32.ofNat n + 1))).bind fun sq3 => some sq3) = some s' ∧ PLs x own s' l (n + 1) (up el n v) ∧ Chg x own [5 + l, 15 + l] σ s' := by
  have hb : tg x own (x + 7 + l) = 5 + l := by rw [show x + 7 + l = x + (7 + l) by omega, tg_st (by omega), sTgs_l hl]
  have hdb : d ≠ x + 7 + l := by intro e; rw [e, hb] at ht; omega
  rw [stO_ok hv hc hn hcap, Option.bind_some]
  have hA2 : AJ (x + 7 + l) G (wR σ d (rA cap (va_up f n (some v)))) := AJ_fr hA (fun a ha => by rw [ha]; exact wR_n σ _ (fun e => hdb e.symm))
  rw [zJ_p2 hA2, Option.bind_some, suc32]
  refine ⟨_, rfl, ⟨sfi G 2 (Int32.ofNat (n + 1)), AJ_self _ _, rfl, Or.inr ⟨d, cap, va_up f n (some v), hd, ?_, ⟨by omega, hcap, by omega⟩, ht, fun i hi => ?_⟩⟩, ⟨Nat.le_refl _, rfl, fun a ha hna => ?_⟩⟩
  · rw [eJ_out _ _ (by omega)]; exact wR_s _ _ _
  · by_cases hin : i = n
    · rw [hin, vau_s, up_same]
    · rw [vau_n hin, up_ne _ _ _ _ hin]; exact hf i (by omega)
  · rw [eJ_out _ _ (fun e => hna (by rw [e, hb]; exact List.mem_cons_self)), wR_n _ _ (fun e => hna (by rw [e, ht.1]; exact List.mem_cons_of_mem _ List.mem_cons_self))]
theorem Chg.tr2 {own2 : Nat → Nat} {W : List Nat} {a b c : Hs} (h : Chg x own W a b) (g : Chg x own2 W b c) (hE : Ext own own2 a.1) : Chg x own W a c :=
  ⟨Nat.le_trans h.1 g.1, g.2.1.trans h.2.1, fun q h1 h2 => (g.2.2 q (Nat.lt_of_lt_of_le h1 h.1) (by rw [ext_tg hE h1]; exact h2)).trans (h.2.2 q h1 h2)⟩
theorem xJ_add (h : PLs x own σ l n el) (hl : l < 5) (hn : n < 60) (hO : PO x σ) (hx : x + 78 ≤ σ.1) (hel : ∀ i, i < n → anyO σ (el i) = some () ∧ el i < σ.1) {v : Nat} (hv : anyO σ v = some ()) (hv2 : v < σ.1) :
    ∃ σ' own', fJx4a65c_add_9ea2d_0 σ (x + 7 + l) v = some (1, σ') ∧ Ext own own' σ.1 ∧ PLs x own' σ' l (n + 1) (up el n v) ∧ Chg x own [5 + l, 15 + l] σ σ' := by
  obtain ⟨G, h1, h2, h3⟩ := h
  have hb : ∀ o : Nat → Nat, tg x o (x + 7 + l) = 5 + l := fun o => by rw [show x + 7 + l = x + (7 + l) by omega, tg_st (by omega), sTgs_l hl]
  unfold fJx4a65c_add_9ea2d_0
  simp only [zJ_g0 h1, zJ_p0 h1, Option.bind_some]
  generalize hG1 : sfi G 0 (fi G 0 + 1) = G1
  have e1 : fi G1 2 = Int32.ofNat n := by rw [← hG1]; exact h2
  have e2 : fr G1 1 = fr G 1 := by rw [← hG1]; rfl
  have hA1 : AJ (x + 7 + l) G1 (eJ (x + 7 + l) σ G1) := AJ_self _ _
  have hC1 : ∀ W, 5 + l ∈ W → Chg x own W σ (eJ (x + 7 + l) σ G1) := fun W hW => ⟨Nat.le_refl _, rfl, fun a _ hna => eJ_out _ _ (fun e => hna (by rw [e, hb]; exact hW))⟩
  generalize hs1 : eJ (x + 7 + l) σ G1 = s1 at *
  have hs11 : s1.1 = σ.1 := by rw [← hs1]; rfl
  have hs12 : s1.2.2 = σ.2.2 := by rw [← hs1]; rfl
  have hout : ∀ a, a ≠ x + 7 + l → s1.2.1 a = σ.2.1 a := fun a ha => by rw [← hs1]; exact eJ_out _ _ ha
  have hv1 : anyO s1 v = some () := by
    by_cases hvb : v = x + 7 + l
    · rw [hvb]; unfold anyO; rw [← hs1]; unfold eJ; rw [eX_o]; rfl
    · rw [anyO_c (hout v hvb)]; exact hv
  simp only [zJ_g1 hA1, zJ_g2 hA1, zJ_C hA1, e1, e2, bb_1]
  have hlc : ∀ a b : Nat, a < 2147483648 → b < 2147483648 → ((Int32.ofNat a = Int32.ofNat b) = (a = b)) := fun a b ha hb => eqn ha hb
  rcases h3 with ⟨q1, q2⟩ | ⟨d, cap, f, q1, q2, q3, q4, q5⟩
  · subst q1
    obtain ⟨vS, ad, ⟨o1, o2⟩, -⟩ := hO
    have hd0 : s1.2.1 (σ.2.2 0) = .inr (500, fun _ => .ref 0) := (hout _ (by omega)).trans o2
    have ha0 : aN s1 (σ.2.2 0) = some (Int32.ofNat 0) := by unfold aN; rw [hd0]; rfl
    have hz : ¬ (0 : Int32) < Int32.ofNat 0 := by decide
    have hmx : ∀ s, fJ9_max_7cf53_0 s 10 (Int32.ofNat 0 + 1) = some 10 := fun s => rfl
    have hna : naR 7 100 s1 10 = some (s1.1, nw s1 (rA 10 (fun _ => none))) := rfl
    have hA2 : AJ (x + 7 + l) G1 (nw s1 (rA 10 (fun _ => none))) := AJ_fr hA1 (fun a ha => nw_n _ _ (by omega))
    simp only [q2, Option.bind_some, fJx4a65c_add_72be8_0, ha0, if_true, zJ_C hA1, fJx4a65c_grow_d5877_0, zJ_g2 hA1, e1, fJx4a65c_grow_92f84_0, zJ_g1 hA1, e2, if_neg hz, hs12, hmx, hna, zJ_p1 hA2]
    have hA3 : AJ (x + 7 + l) (sfr G1 1 (some s1.1)) (eJ (x + 7 + l) (nw s1 (rA 10 (fun _ => none))) (sfr G1 1 (some s1.1))) := AJ_self _ _
    let own' : Nat → Nat := fun a => if a < σ.1 then own a else 15 + l
    have hE : Ext own own' σ.1 := fun a ha => if_pos ha
    have hv3 : anyO (eJ (x + 7 + l) (nw s1 (rA 10 (fun _ => none))) (sfr G1 1 (some s1.1))) v = some () := by
      by_cases hvb : v = x + 7 + l
      · rw [hvb]; unfold anyO eJ; rw [eX_o]; rfl
      · rw [anyO_c ((eJ_out _ _ hvb).trans (nw_n _ _ (by omega)))]; exact hv1
    obtain ⟨s', t1, t2, t3⟩ := xJ_tail (own := own') (n := 0) (el := el) hl (show x + 78 ≤ (eJ (x + 7 + l) (nw s1 (rA 10 (fun _ => none))) (sfr G1 1 (some s1.1))).1 by show x + 78 ≤ s1.1 + 1; omega) hA3 (d := s1.1) rfl ((eJ_out _ _ (by omega)).trans (nw_s _ _)) (by omega) (by omega) ⟨by unfold tg; rw [if_neg (by omega), if_neg (by omega)]; show (if s1.1 < σ.1 then own s1.1 else 15 + l) = _; rw [if_neg (by omega)], Nat.lt_succ_self _⟩ (fun i hi => by omega) hv3
    rw [t1]
    refine ⟨s', own', rfl, hE, t2, ?_⟩
    have hC2 : Chg x own [5 + l, 15 + l] σ (eJ (x + 7 + l) (nw s1 (rA 10 (fun _ => none))) (sfr G1 1 (some s1.1))) := by
      refine ⟨show σ.1 ≤ s1.1 + 1 by omega, hs12, fun a ha hna => ?_⟩
      rw [eJ_out _ _ (fun e => hna (by rw [e, hb]; exact List.mem_cons_self)), nw_n _ _ (by omega)]
      exact hout a (fun e => hna (by rw [e, hb]; exact List.mem_cons_self))
    exact hC2.tr2 t3 hE
  · have hdb : d ≠ x + 7 + l := by intro e; rw [e, hb] at q4; omega
    have hd1 : s1.2.1 d = rA cap f := (hout _ hdb).trans q2
    simp only [q1, Option.bind_some, fJx4a65c_add_72be8_0, aN_r hd1, hlc n cap (by omega) (by omega)]
    by_cases hnc : n = cap
    · rw [if_pos hnc]
      have hz : (0 : Int32) < Int32.ofNat cap := by rw [lt32, n32 (by omega), i0]; omega
      have hgl : ∃ c2, n < c2 ∧ c2 ≤ 100 ∧ ∀ s, fJ8_newLength_cabcc_0 s (Int32.ofNat cap) (Int32.ofNat n + 1 - Int32.ofNat cap) (Int32.ofNat cap >>> ((1 : Int32) &&& 31)) = some (Int32.ofNat c2) := by
        have e3 : Int32.ofNat n + 1 - Int32.ofNat cap = Int32.ofNat 1 := by
          rw [hnc, eq32, sub32, add32, n32 (by omega), n32 (by omega), i1]
          · omega
          · rw [n32 (by omega), i1]; omega
          · rw [add32, n32 (by omega), i1]
            · omega
            · rw [n32 (by omega), i1]; omega
        have e4 : ∀ k : Nat, k < 60 → Int32.ofNat k >>> ((1 : Int32) &&& 31) = Int32.ofNat (k / 2) := by decide
        rw [e3, e4 cap (by omega)]
        unfold fJ8_newLength_cabcc_0 fJ9_max_7cf53_0
        by_cases hm : 1 < cap / 2
        · refine ⟨cap + cap / 2, by omega, by omega, fun s => ?_⟩
          rw [if_pos ((lt_n (by omega) (by omega)).mpr hm), Option.bind_some, add_n, if_neg (by rw [le32, n32 (by omega), i0]; omega), if_neg (by rw [lt32, n32 (by omega)]; show ¬ (2147483639 : Int) < _; omega)]
        · refine ⟨cap + 1, by omega, by omega, fun s => ?_⟩
          rw [if_neg (fun q => hm ((lt_n (by omega) (by omega)).mp q)), Option.bind_some, add_n, if_neg (by rw [le32, n32 (by omega), i0]; omega), if_neg (by rw [lt32, n32 (by omega)]; show ¬ (2147483639 : Int) < _; omega)]
      obtain ⟨c2, g1, g2, g3⟩ := hgl
      have hna : naR 7 100 s1 (Int32.ofNat c2) = some (s1.1, nw s1 (rA c2 (fun _ => none))) := by
        unfold naR
        rw [c32 (by omega), if_pos ⟨by rw [lt32, n32 (by omega), i0]; omega, g2⟩]; rfl
      have hdn : d ≠ s1.1 := by omega
      have hd2 : (nw s1 (rA c2 (fun _ => none))).2.1 d = rA cap f := (nw_n _ _ hdn).trans hd1
      have hmn : ∀ s, fJ9_min_7cf53_0 s (Int32.ofNat cap) (Int32.ofNat c2) = some (Int32.ofNat cap) := by
        intro s; unfold fJ9_min_7cf53_0
        rw [if_neg (fun q => by have := (lt_n (by omega) (by omega)).mp q; omega)]
      have hcp : cpR (nw s1 (rA c2 (fun _ => none))) d 0 s1.1 0 (Int32.ofNat cap) = some (wR (nw s1 (rA c2 (fun _ => none))) s1.1 (rA c2 (va_cpy f (fun _ => none) 0 0 cap))) := by
        unfold cpR
        rw [hd2, nw_s]
        unfold rA
        simp only [c32 (show cap < 2147483648 by omega)]
        rw [if_pos]
        · rfl
        · refine ⟨⟨trivial, trivial⟩, ⟨by decide, by decide, by rw [lt32, n32 (by omega), i0]; omega⟩, by show 0 + cap ≤ cap; omega, by show 0 + cap ≤ c2; omega, ?_⟩
          rw [List.all_eq_true]
          intro k hk
          have hk2 := List.mem_range.mp hk
          show (match f (0 + k) with | none => true | some v => (anyO _ v).isSome) = true
          rw [Nat.zero_add, q5 k (by omega)]
          obtain ⟨u1, u2⟩ := hel k (by omega)
          show (anyO _ (el k)).isSome = true
          have : anyO (nw s1 (Sum.inl (7, c2, Sum.inr (Sum.inr (Sum.inr (Sum.inr fun _ => none)))))) (el k) = some () := by
            rw [anyO_c (nw_n _ _ (by omega))]
            by_cases hvb : el k = x + 7 + l
            · rw [hvb]; unfold anyO; rw [← hs1]; unfold eJ; rw [eX_o]; rfl
            · rw [anyO_c (hout _ hvb)]; exact u1
          rw [this]; rfl
      have hiA : isA s1 d = some () := by unfold isA; rw [hd1]; rfl
      generalize hs2 : wR (nw s1 (rA c2 (fun _ => none))) s1.1 (rA c2 (va_cpy f (fun _ => none) 0 0 cap)) = s2 at *
      have hs21 : s2.1 = σ.1 + 1 := by rw [← hs2]; show s1.1 + 1 = _; omega
      have hs22 : s2.2.2 = σ.2.2 := by rw [← hs2]; exact hs12
      have hnew : s2.2.1 σ.1 = rA c2 (va_cpy f (fun _ => none) 0 0 cap) := by rw [← hs2, ← hs11]; exact wR_s _ _ _
      have hout2 : ∀ a, a < σ.1 → s2.2.1 a = s1.2.1 a := fun a ha => by rw [← hs2, wR_n _ _ (by omega), nw_n _ _ (by omega)]
      have hA2 : AJ (x + 7 + l) G1 s2 := AJ_fr hA1 (fun a ha => hout2 a (by omega))
      simp only [zJ_C hA1, Option.bind_some, fJx4a65c_grow_d5877_0, zJ_g2 hA1, e1, fJx4a65c_grow_92f84_0, zJ_g1 hA1, e2, q1, aN_r hd1, if_pos hz, fJx4a65c_grow_92f84_20, g3, fJ7_copyOf_1904c_0, hiA, fJ7_copyOf_6403c_0, if_true, hna, aN_r hd2, hmn, hcp, zJ_p1 hA2]
      have hA3 : AJ (x + 7 + l) (sfr G1 1 (some s1.1)) (eJ (x + 7 + l) s2 (sfr G1 1 (some s1.1))) := AJ_self _ _
      let own' : Nat → Nat := fun a => if a < σ.1 then own a else 15 + l
      have hE : Ext own own' σ.1 := fun a ha => if_pos ha
      have hv3 : anyO (eJ (x + 7 + l) s2 (sfr G1 1 (some s1.1))) v = some () := by
        by_cases hvb : v = x + 7 + l
        · rw [hvb]; unfold anyO eJ; rw [eX_o]; rfl
        · rw [anyO_c ((eJ_out _ _ hvb).trans (hout2 v hv2))]; exact hv1
      obtain ⟨s', t1, t2, t3⟩ := xJ_tail (own := own') (n := n) (el := el) hl (show x + 78 ≤ (eJ (x + 7 + l) s2 (sfr G1 1 (some s1.1))).1 by show x + 78 ≤ s2.1; omega) hA3 (d := s1.1) (cap := c2) (f := va_cpy f (fun _ => none) 0 0 cap) rfl ((eJ_out _ _ (by omega)).trans (by rw [hs11]; exact hnew)) g1 g2 ⟨by unfold tg; rw [if_neg (by omega), if_neg (by omega)]; show (if s1.1 < σ.1 then own s1.1 else 15 + l) = _; rw [if_neg (by omega)], by show s1.1 < s2.1; omega⟩ (fun i hi => by
        show (if 0 ≤ i ∧ i < 0 + cap then f (0 + (i - 0)) else none) = _
        rw [if_pos (by omega), show 0 + (i - 0) = i by omega]; exact q5 i hi) hv3
      rw [t1]
      refine ⟨s', own', rfl, hE, t2, ?_⟩
      have hC2 : Chg x own [5 + l, 15 + l] σ (eJ (x + 7 + l) s2 (sfr G1 1 (some s1.1))) := by
        refine ⟨show σ.1 ≤ s2.1 by omega, hs22, fun a ha hna => ?_⟩
        rw [eJ_out _ _ (fun e => hna (by rw [e, hb]; exact List.mem_cons_self)), hout2 a ha]
        exact hout a (fun e => hna (by rw [e, hb]; exact List.mem_cons_self))
      exact hC2.tr2 t3 hE
    · rw [if_neg hnc]
      have hE : Ext own own σ.1 := fun _ _ => rfl
      obtain ⟨s', t1, t2, t3⟩ := xJ_tail (own := own) (n := n) (el := el) hl (by omega) hA1 (e2.trans q1) hd1 (by omega) q3.2.1 ⟨q4.1, by omega⟩ q5 hv1
      rw [t1]
      exact ⟨s', own, rfl, hE, t2, (hC1 _ List.mem_cons_self).tr2 t3 hE⟩
end
