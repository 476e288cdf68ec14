theorem wi_b (pr : Bool) : wi pr < 4 ∧ si pr < 4 ∧ tLn (wi pr) = wLn pr ∧ wLn pr ≤ 107 := by cases pr <;> decide
def StrB (b : Nat) (σ : Hs) (a i : Nat) : Prop := a < b ∧ ∃ v, v < b ∧ σ.2.1 a = .inr (600 + i, fun k => if k = 0 then .ref v else .int 0) ∧ σ.2.1 v = .inr (610 + i, fun j => .int (btx i j))
theorem StrB.o {b : Nat} {σ : Hs} {a i : Nat} (h : StrB b σ a i) : StrO σ a i := by
  obtain ⟨_, v, _, h1, h2⟩ := h; exact ⟨v, h1, h2⟩
theorem StrB.fr {b : Nat} {σ σ' : Hs} {a i : Nat} (h : StrB b σ a i) (hq : ∀ q, q < b → σ'.2.1 q = σ.2.1 q) : StrB b σ' a i := by
  obtain ⟨h0, v, h1, h2, h3⟩ := h; exact ⟨h0, v, h1, (hq _ h0).trans h2, (hq _ h1).trans h3⟩
def RdT (b : Nat) (G : Gs) (pr : Bool) (tx : Nat → Int) (n : Nat) (σ : Hs) : Prop := A5 b G σ ∧ n ≤ 500 ∧ ln G 0 = n ∧ (ln G 3 = n + 1 ∧ ln G 4 = n + 1 ∧ ln G 5 = n + 1 ∧ ln G 6 = n + 1) ∧ (∀ j, j < n → (ai G 0 j).toInt = tx j) ∧ ∃ s w, fr G 1 = some s ∧ fr G 2 = some w ∧ StrB b σ s (si pr) ∧ StrB b σ w (wi pr)
section
variable {b : Nat} {G : Gs} {pr : Bool} {tx : Nat → Int} {n : Nat} {σ : Hs}
theorem x_spelt (h : RdT b G pr tx n σ) {p e f i : Nat} (hpe : p < e) (he : e ≤ n) (hfi : f ≤ i) (hi : i ≤ wLn pr) (hL : ∀ j, j < e - p → isLt (tx (p + j))) (hL2 : ∀ j, j < i - f → isLt (wTx pr (f + j))) : fX5_isSpelt_0 σ b (Int32.ofNat p) (Int32.ofNat e) (Int32.ofNat f) (Int32.ofNat i) = some (b2i (va tx p (e - p) = va (wTx pr) f (i - f))) := by
  obtain ⟨h1, h2, h3, h4, h5, s, w, h6, h7, h8, h9⟩ := h
  replace h9 := h9.o
  obtain ⟨w1, w2, w3, w4⟩ := wi_b pr
  unfold fX5_isSpelt_0
  rw [sub_nn hfi, sub_nn (show p ≤ e by omega), show (if Int32.ofNat (i - f) = Int32.ofNat (e - p) then _ else _) = if i - f = e - p then _ else _ from by simp only [eqn (show i - f < 2147483648 by omega) (show e - p < 2147483648 by omega)]; rfl]
  by_cases c : i - f = e - p
  rotate_left
  · rw [if_neg c, bb_0]
    unfold b2i; rw [if_neg]
    intro q
    exact c (va_inj _ _ hL hL2 q).1.symm
  rw [if_pos c]
  unfold fX5_isSpelt_15
  refine lp_q (i - f) (fun k z => z = (b, Int32.ofNat p, Int32.ofNat f, Int32.ofNat i, Int32.ofNat k) ∧ ∀ j, j < k → tx (p + j) = wTx pr (f + j)) (fun X => X = some (b2i (va tx p (e - p) = va (wTx pr) f (i - f)))) ?_ ?_ fu 0 _ (by omega) ⟨rfl, fun j hj => absurd hj (by omega)⟩ (by unfold fu; omega)
  · rintro K k _ hk ⟨rfl, hq⟩
    have hc := s_char h9 w1 (j := f + k) (by omega)
    have e5 : (ai G 0 (p + k)).toInt = tx (p + k) := h5 (p + k) (by omega)
    have g2 : gN σ b 7 2 = some w := by rw [z5_g2 h1, h7]
    simp only [fbX5_isSpelt_15, sub_nn hfi, le_n (show i - f < 2147483648 by omega) (show k < 2147483648 by omega), if_neg (show ¬ i - f ≤ k by omega), g2, s_C h9 w1, Option.bind_some, add_n, hc, z5_g0 h1, z5_l0 h1, h3, ix_n (show p + k < 2147483648 by omega), decide_eq_true (show p + k < n by omega), if_true, c32 (show p + k < 2147483648 by omega), suc32, bb_0]
    by_cases d : btx (wi pr) (f + k) = ai G 0 (p + k)
    · left
      rw [if_pos d]
      refine ⟨_, ⟨rfl, fun j hj => ?_⟩, rfl⟩
      by_cases q : j = k
      · rw [q, ← e5, ← d]; rfl
      · exact hq j (by omega)
    · right
      rw [if_neg d]
      refine congrArg some ?_
      unfold b2i; rw [if_neg]
      intro q
      have := (va_inj _ _ hL hL2 q).2 k (by omega)
      rw [← e5] at this
      exact d (eq32.mpr this.symm)
  · rintro K _ ⟨rfl, hq⟩
    simp only [fbX5_isSpelt_15, sub_nn hfi, Int32.le_refl, if_true, bb_1]
    refine congrArg some ?_
    unfold b2i; rw [if_pos]
    rw [← c]; exact va_cg _ (fun j hj => hq j hj)
def cdW (pr : Bool) (v : Int) (c : Int32) : Prop := (c = -1 ∧ ∀ w, w < nW pr → v ≠ vW pr w) ∨ ∃ w, w < nW pr ∧ c = Int32.ofNat w ∧ v = vW pr w
theorem x_plW (h : RdT b G pr tx n σ) {p e : Nat} (hpe : p < e) (he : e ≤ n) (hL : ∀ j, j < e - p → isLt (tx (p + j))) : ∃ c, fX5_placeInWords_0 σ b (Int32.ofNat p) (Int32.ofNat e) = some c ∧ cdW pr (va tx p (e - p)) c := by
  have hh := h
  obtain ⟨h1, h2, h3, h4, h5, s, w, h6, h7, h8, h9⟩ := h
  replace h9 := h9.o
  obtain ⟨w1, w2, w3, w4⟩ := wi_b pr
  have g2 : gN σ b 7 2 = some w := by rw [z5_g2 h1, h7]
  have hl : fJ0_length_8abf5_0 σ w = some (Int32.ofNat (wLn pr)) := by rw [s_len h9 w1, w3]
  unfold fX5_placeInWords_0 fX5_placeInWords_8
  refine lp_q (wLn pr + 1) (fun i z => ∃ pl fm, z = (b, Int32.ofNat p, Int32.ofNat e, pl, fm, Int32.ofNat i) ∧ (i ≤ wLn pr → pl = Int32.ofNat (PW pr i).1 ∧ fm = Int32.ofNat (PW pr i).2) ∧ ∀ j, j < i → eW pr j → va tx p (e - p) ≠ vW pr (PW pr j).1) (fun X => ∃ c, X = some c ∧ cdW pr (va tx p (e - p)) c) ?_ ?_ fu 0 _ (by omega) ⟨_, _, rfl, fun _ => ⟨rfl, rfl⟩, fun j hj => absurd hj (by omega)⟩ (by unfold fu; omega)
  · rintro K i _ hi ⟨pl, fm, rfl, hp, hq⟩
    obtain ⟨rfl, rfl⟩ := hp (by omega)
    have hP := PW_le pr i
    have h46 : eW pr i → (∃ s', (∃ pl fm, s' = (b, Int32.ofNat p, Int32.ofNat e, pl, fm, Int32.ofNat (i + 1)) ∧ (i + 1 ≤ wLn pr → pl = Int32.ofNat (PW pr (i + 1)).1 ∧ fm = Int32.ofNat (PW pr (i + 1)).2) ∧ ∀ j, j < i + 1 → eW pr j → va tx p (e - p) ≠ vW pr (PW pr j).1) ∧ fX5_placeInWords_46 (fun xv0 xv1 xv2 xv3 xv4 xv5 => K (xv0, xv1, xv2, xv3, xv4, xv5)) σ b (Int32.ofNat p) (Int32.ofNat e) (Int32.ofNat (PW pr i).1) (Int32.ofNat (PW pr i).2) (Int32.ofNat i) = K s') ∨ ∃ c, fX5_placeInWords_46 (fun xv0 xv1 xv2 xv3 xv4 xv5 => K (xv0, xv1, xv2, xv3, xv4, xv5)) σ b (Int32.ofNat p) (Int32.ofNat e) (Int32.ofNat (PW pr i).1) (Int32.ofNat (PW pr i).2) (Int32.ofNat i) = some c ∧ cdW pr (va tx p (e - p)) c := by
      intro hE
      obtain ⟨v1, v2, v3, v4⟩ := wf_W pr (by omega) hE
      unfold fX5_placeInWords_46
      simp only [z5_C h1, x_spelt hh hpe he v2 (show i ≤ wLn pr by omega) hL v4, Option.bind_some, b2i_0, v1, suc32]
      by_cases c : va tx p (e - p) = vW pr (PW pr i).1
      · right
        rw [if_neg (fun q => q c)]
        exact ⟨_, rfl, Or.inr ⟨_, v3, rfl, c⟩⟩
      · left
        rw [if_pos c]
        refine ⟨_, ⟨_, _, rfl, fun hw => ?_, fun j hj hj2 => ?_⟩, rfl⟩
        · have d : wTx pr i = 32 := hE.resolve_left (by omega)
          rw [show PW pr (i + 1) = ((PW pr i).1 + 1, i + 1) by rw [PW, if_pos d]]; exact ⟨rfl, rfl⟩
        · by_cases d : j = i
          · rw [d]; exact c
          · exact hq j (by omega) hj2
    simp only [fbX5_placeInWords_8, g2, s_C h9 w1, hl, Option.bind_some, lt_n (show wLn pr < 2147483648 by omega) (show i < 2147483648 by omega), if_neg (show ¬ wLn pr < i by omega), eqn (show i < 2147483648 by omega) (show wLn pr < 2147483648 by omega)]
    by_cases c : i = wLn pr
    · rw [if_pos c]; exact h46 (Or.inl c)
    · rw [if_neg c, s_char h9 w1 (show i < tLn (wi pr) by omega), Option.bind_some]
      have e32 : (btx (wi pr) i = 32) = (wTx pr i = 32) := by rw [eq32]; rfl
      simp only [e32]
      by_cases d : wTx pr i = 32
      · rw [if_pos d]; exact h46 (Or.inr d)
      · left
        rw [if_neg d, suc32]
        refine ⟨_, ⟨_, _, rfl, fun _ => ?_, fun j hj hj2 => ?_⟩, rfl⟩
        · rw [show PW pr (i + 1) = PW pr i by rw [PW, if_neg d]]; exact ⟨rfl, rfl⟩
        · by_cases w : j = i
          · rw [w] at hj2; rcases hj2 with r | r
            · exact absurd r c
            · exact absurd r d
          · exact hq j (by omega) hj2
  · rintro K _ ⟨pl, fm, rfl, hp, hq⟩
    simp only [fbX5_placeInWords_8, g2, s_C h9 w1, hl, Option.bind_some, lt_n (show wLn pr < 2147483648 by omega) (show wLn pr + 1 < 2147483648 by omega), if_pos (show wLn pr < wLn pr + 1 by omega)]
    refine ⟨_, rfl, Or.inl ⟨rfl, fun v hv => ?_⟩⟩
    obtain ⟨e1, e2, e3⟩ := wx_W pr hv
    have := hq (wEnd pr v) (by omega) e1
    rw [e3] at this; exact this
end
