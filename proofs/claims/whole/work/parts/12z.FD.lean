theorem and1 (y : Int32) : y &&& 1 = 0 ∨ y &&& 1 = 1 := by
  have h : (y &&& 1).toBitVec = (BitVec.ofBool (y.toBitVec.getLsbD 0)).setWidth 32 := by
    rw [Int32.toBitVec_and]; exact BitVec.and_one_eq_setWidth_ofBool_getLsbD
  cases hb : y.toBitVec.getLsbD 0
  · left; apply Int32.toBitVec_inj.1; rw [h, hb]; rfl
  · right; apply Int32.toBitVec_inj.1; rw [h, hb]; rfl
def btF (F : Int32) (w : Nat) : Bool := decide ((F >>> (Int32.ofNat w &&& 31)) &&& 1 = 1)
theorem btF_0 {F : Int32} {w : Nat} : ((F >>> (Int32.ofNat w &&& 31)) &&& 1 = 0) = (btF F w = false) := by
  unfold btF
  rcases and1 (F >>> (Int32.ofNat w &&& 31)) with h | h
  · rw [h]; simp only [true_iff, eq_iff_iff, decide_eq_false_iff_not]; decide
  · rw [h]; simp only [eq_iff_iff, decide_eq_false_iff_not, not_true, iff_false]; decide
theorem btF_1 {F : Int32} {w : Nat} : ((F >>> (Int32.ofNat w &&& 31)) &&& 1 = 1) = (btF F w = true) := by
  unfold btF; simp only [decide_eq_true_eq]
abbrev nLow (b : Nat → Bool) (g : Nat → Int64) (n w : Nat) : Prop := ∀ v, v < n → ¬ (b v = true ∧ g v = g w)
def uN (b : Nat → Bool) (g : Nat → Int64) : Nat → Nat
  | 0 => 0
  | w + 1 => uN b g w + if b w = true ∧ nLow b g w w then 1 else 0
theorem uN_cg {b : Nat → Bool} {g g' : Nat → Int64} : ∀ n, (∀ v w, v < n → w < n → (g v = g w ↔ g' v = g' w)) → uN b g n = uN b g' n := by
  intro n; induction n with
  | zero => intro _; rfl
  | succ n ih =>
    intro h
    unfold uN
    rw [ih (fun v w hv hw => h v w (by omega) (by omega))]
    have e : (b n = true ∧ nLow b g n n) ↔ (b n = true ∧ nLow b g' n n) := by
      refine and_congr Iff.rfl ⟨fun q v hv => ?_, fun q v hv => ?_⟩
      · rw [← h v n (by omega) (by omega)]; exact q v hv
      · rw [h v n (by omega) (by omega)]; exact q v hv
    simp only [e]
theorem uN_all {b : Nat → Bool} {g : Nat → Int64} : ∀ n, (∀ v w, v < n → w < n → g v = g w) → (uN b g n = 0 ∧ ∀ v, v < n → b v = false) ∨ (uN b g n = 1 ∧ ∃ v, v < n ∧ b v = true) := by
  intro n; induction n with
  | zero => intro _; exact Or.inl ⟨rfl, fun v hv => absurd hv (by omega)⟩
  | succ n ih =>
    intro h
    have e : uN b g (n + 1) = uN b g n + if b n = true ∧ nLow b g n n then 1 else 0 := rfl
    rw [e]
    rcases ih (fun v w hv hw => h v w (by omega) (by omega)) with ⟨h1, h2⟩ | ⟨h1, v, h2, h3⟩
    · by_cases c : b n = true
      · rw [if_pos ⟨c, fun v hv q => by rw [h2 v hv] at q; exact absurd q.1 (by decide)⟩]
        exact Or.inr ⟨by omega, n, by omega, c⟩
      · rw [if_neg (fun q => c q.1)]
        refine Or.inl ⟨h1, fun v hv => ?_⟩
        by_cases d : v = n
        · rw [d]; simpa using c
        · exact h2 v (by omega)
    · rw [if_neg (fun q => q.2 v h2 ⟨h3, h v n (by omega) (by omega)⟩)]
      exact Or.inr ⟨h1, v, by omega, h3⟩
theorem uN_le (b : Nat → Bool) (g : Nat → Int64) : ∀ n, uN b g n ≤ n := by
  intro n; induction n with
  | zero => exact Nat.le_refl _
  | succ n ih => show _ + (if _ then 1 else 0) ≤ _; split <;> omega
def uS (F : Int32) (s : Int32) : Nat := uN (btF F) (fun w => sS w s) 5
theorem uS_le (F s : Int32) : uS F s ≤ 5 := uN_le _ _ 5
theorem sS_n3 {w : Nat} (hw : w < 5) (h3 : w ≠ 3) {s : Int32} (hs : 0 ≤ s.toInt ∧ s.toInt < 86400) : sS w s = 1000 * s.toInt64 := by
  have e : (86400 : Int32).toInt = 86400 := rfl
  unfold sS
  by_cases c : w = 4
  · rw [if_pos c, if_neg]; intro q; rw [eq32, e] at q; omega
  · rw [if_neg c]; unfold th
    rw [if_neg (show ¬ Int32.ofNat w = 3 by rw [show (3 : Int32) = Int32.ofNat 3 from rfl, eqn (by omega) (by omega)]; exact h3), if_pos]
    rw [lt32, e]; omega
theorem sS_3 {s : Int32} (hs : 0 ≤ s.toInt ∧ s.toInt < 86400) : (sS 3 s).toInt = 86400000 * s.toInt / 86401 ∧ (1000 * s.toInt64).toInt = 1000 * s.toInt := by
  have e1 : (86400000 * s.toInt64).toInt = 86400000 * s.toInt := by rw [mul64, up64]; rfl; rw [up64]; show _ ≤ 86400000 * s.toInt ∧ 86400000 * s.toInt < _; omega
  have e2 : (1000 * s.toInt64).toInt = 1000 * s.toInt := by rw [mul64, up64]; rfl; rw [up64]; show _ ≤ 1000 * s.toInt ∧ 1000 * s.toInt < _; omega
  refine ⟨?_, e2⟩
  show ((86400000 * s.toInt64) / ((86400 + 1 : Int32).toInt64)).toInt = _
  have e3 : ((86400 + 1 : Int32).toInt64).toInt = 86401 := by decide
  rw [div64 (by rw [e3]; decide), e1, e3, Int.tdiv_eq_ediv_of_nonneg (by omega)]
theorem sS_eq {s : Int32} (hs : 1 ≤ s.toInt ∧ s.toInt < 86400) {v w : Nat} (hv : v < 5) (hw : w < 5) : (sS v s = sS w s) ↔ (v = 3 ↔ w = 3) := by
  obtain ⟨h1, h2⟩ := sS_3 (s := s) (by omega)
  have ne : sS 3 s ≠ 1000 * s.toInt64 := by
    intro q; rw [eq64, h1, h2] at q; omega
  by_cases c : v = 3
  · by_cases d : w = 3
    · rw [c, d]; simp
    · rw [c, sS_n3 hw d (by omega)]; constructor
      · intro q; exact absurd q ne
      · intro q; exact absurd (q.mp rfl) d
  · rw [sS_n3 hv c (by omega)]
    by_cases d : w = 3
    · rw [d]; constructor
      · intro q; exact absurd q.symm ne
      · intro q; exact absurd (q.mpr rfl) c
    · rw [sS_n3 hw d (by omega)]; simp [c, d]
theorem uS_mid (F : Int32) {s : Int32} (hs : 1 ≤ s.toInt ∧ s.toInt < 86400) : uS F s = uS F 1 :=
  uN_cg 5 (fun v w hv hw => by rw [sS_eq hs hv hw, sS_eq (s := 1) (by decide) hv hw])
theorem uS_0 (F : Int32) : uS F 0 ≤ 1 := by
  have h : ∀ v w, v < 5 → w < 5 → sS v 0 = sS w 0 := by
    intro v w hv hw
    have e : ∀ v, v < 5 → sS v 0 = 0 := by
      intro v hv
      match v, hv with
      | 0, _ => decide
      | 1, _ => decide
      | 2, _ => decide
      | 3, _ => decide
      | 4, _ => decide
    rw [e v hv, e w hw]
  rcases uN_all (b := btF F) (g := fun w => sS w 0) 5 h with ⟨q, _⟩ | ⟨q, _⟩
  · unfold uS; omega
  · unfold uS; omega
section
variable {m : Nat} {ρ : Hs}
theorem r_unlike29 {R : Gs} {s : Int32} {w : Nat} (hw : w < 5) (c : Nat) (k4 : Nat → Int32 → Int32 → Int32 → Option Int32) : fX12_unlike_29 k4 (eR m ρ R) m s (Int32.ofNat c) (Int32.ofNat w) 1 0 = k4 m s (Int32.ofNat (c + if nLow (btF (fi R 91)) (fun w => sS w s) w w then 1 else 0)) (Int32.ofNat (w + 1)) := by
  unfold fX12_unlike_29
  refine lp_q w (fun k z => z = (m, s, Int32.ofNat c, Int32.ofNat w, b2i (nLow (btF (fi R 91)) (fun w => sS w s) k w), Int32.ofNat k)) (fun X => X = k4 m s (Int32.ofNat (c + if nLow (btF (fi R 91)) (fun w => sS w s) w w then 1 else 0)) (Int32.ofNat (w + 1))) ?_ ?_ fu 0 _ (by omega) ?_ (by unfold fu; omega)
  · rintro K k _ hk rfl
    left
    simp only [fbX12_unlike_29, RG_91, Option.bind_some, r_showsSo _ (show k < 5 by omega), r_showsSo _ hw, btF_0, le_n (show w < 2147483648 by omega) (show k < 2147483648 by omega), if_neg (show ¬ w ≤ k by omega), suc32, b2i_0]
    refine ⟨_, rfl, ?_⟩
    have stp : ∀ p : Prop, ((p ↔ (nLow (btF (fi R 91)) (fun w => sS w s) k w ∧ ¬ (btF (fi R 91) k = true ∧ sS k s = sS w s)))) → (nLow (btF (fi R 91)) (fun w => sS w s) (k + 1) w ↔ p) := by
      intro p hp
      rw [hp]
      refine ⟨fun q => ⟨fun v hv => q v (by omega), q k (by omega)⟩, fun q v hv => ?_⟩
      by_cases e : v = k
      · rw [e]; exact q.2
      · exact q.1 v (by omega)
    by_cases c1 : nLow (btF (fi R 91)) (fun w => sS w s) k w
    · rw [if_neg (show ¬ ¬ nLow (btF (fi R 91)) (fun w => sS w s) k w from fun q => q c1)]
      by_cases c2 : btF (fi R 91) k = false
      · rw [if_pos c2, show b2i (nLow (btF (fi R 91)) (fun w => sS w s) (k + 1) w) = 1 from if_pos ((stp _ Iff.rfl).mpr ⟨c1, fun q => by rw [c2] at q; exact absurd q.1 (by decide)⟩)]
      · rw [if_neg c2]
        by_cases c3 : sS k s = sS w s
        · rw [if_pos c3, show b2i (nLow (btF (fi R 91)) (fun w => sS w s) (k + 1) w) = 0 from if_neg (fun q => ((stp _ Iff.rfl).mp q).2 ⟨by simpa using c2, c3⟩)]
        · rw [if_neg c3, show b2i (nLow (btF (fi R 91)) (fun w => sS w s) (k + 1) w) = 1 from if_pos ((stp _ Iff.rfl).mpr ⟨c1, fun q => c3 q.2⟩)]
    · rw [if_pos (show ¬ nLow (btF (fi R 91)) (fun w => sS w s) k w from c1), show b2i (nLow (btF (fi R 91)) (fun w => sS w s) (k + 1) w) = 0 from if_neg (fun q => c1 ((stp _ Iff.rfl).mp q).1)]
  · rintro K _ rfl
    simp only [fbX12_unlike_29, Int32.le_refl, if_true, b2i_0, suc32]
    by_cases c1 : nLow (btF (fi R 91)) (fun w => sS w s) w w
    · rw [if_neg (show ¬ ¬ nLow (btF (fi R 91)) (fun w => sS w s) w w from fun q => q c1), if_pos c1]
    · rw [if_pos (show ¬ nLow (btF (fi R 91)) (fun w => sS w s) w w from c1), if_neg c1, Int32.add_zero]; rfl
  · rw [show b2i (nLow (btF (fi R 91)) (fun w => sS w s) 0 w) = 1 from if_pos (fun v hv => absurd hv (by omega))]; rfl
theorem r_unlike {R : Gs} (s : Int32) : fX12_unlike_0 (eR m ρ R) m s = some (Int32.ofNat (uS (fi R 91) s)) := by
  unfold fX12_unlike_0 fX12_unlike_4
  refine lp_q 5 (fun k z => z = (m, s, Int32.ofNat (uN (btF (fi R 91)) (fun w => sS w s) k), Int32.ofNat k)) (fun X => X = some (Int32.ofNat (uS (fi R 91) s))) ?_ ?_ fu 0 _ (by omega) rfl (by unfold fu; omega)
  · rintro K k _ hk rfl
    left
    refine ⟨_, rfl, ?_⟩
    simp only [fbX12_unlike_4, RG_91, Option.bind_some, c5n (show k < 2147483648 by omega), if_neg (show ¬ 5 ≤ k by omega), btF_0, r_unlike29 hk, suc32]
    show _ = K (m, s, Int32.ofNat (uN (btF (fi R 91)) (fun w => sS w s) k + if btF (fi R 91) k = true ∧ nLow (btF (fi R 91)) (fun w => sS w s) k k then 1 else 0), Int32.ofNat (k + 1))
    by_cases c : btF (fi R 91) k = false
    · rw [if_pos c, if_neg (fun q => by rw [c] at q; exact absurd q.1 (by decide))]; rfl
    · rw [if_neg c]
      have c' : btF (fi R 91) k = true := by simpa using c
      by_cases d : nLow (btF (fi R 91)) (fun w => sS w s) k k
      · rw [if_pos d, if_pos ⟨c', d⟩]
      · rw [if_neg d, if_neg (fun q => d q.2)]
  · rintro K _ rfl
    simp only [fbX12_unlike_4, c5n (show 5 < 2147483648 by decide), Nat.le_refl, if_true]
    rfl
def st_ask (R : Gs) : Int32 := if 0 ≤ (fi R 91).toInt ∧ 2 ≤ max (uS (fi R 91) 1) (uS (fi R 91) 86400) then 0 else 8
def a_ask (R : Gs) : Int32 := if uS (fi R 91) 1 < uS (fi R 91) 86400 then 86400 else 1
theorem r_ask (m : Nat) (ρ : Hs) (R : Gs) : QI m ρ R (st_ask R) (a_ask R) R (fX12_ask_0 (eR m ρ R) m) := by
  unfold fX12_ask_0
  simp only [RP_1, RP_0, RG_91, q_fi_sfi, q_fl_sfi, q_fr_sfi, q_ai_sfi, q_al_sfi, q_ar_sfi, q_ln_sfi, q_fi_sfl, q_fl_sfl, q_fr_sfl, q_ai_sfl, q_al_sfl, q_ar_sfl, q_ln_sfl, q_fi_sfr, q_fl_sfr, q_fr_sfr, q_ai_sfr, q_al_sfr, q_ar_sfr, q_ln_sfr, q_fi_sai, q_fl_sai, q_fr_sai, q_ai_sai, q_al_sai, q_ar_sai, q_ln_sai, q_fi_sal, q_fl_sal, q_fr_sal, q_ai_sal, q_al_sal, q_ar_sal, q_ln_sal, q_fi_sar, q_fl_sar, q_fr_sar, q_ai_sar, q_al_sar, q_ar_sar, q_ln_sar, reduceIte, Nat.reduceEqDiff, RisC, r_refuse, Option.bind_some, le32, i0]
  rcases Decidable.em (¬ (0 ≤ (fi R 91).toInt)) with hc1 | hc1
  · rw [if_neg hc1]; exact QI.no (by decide) (by unfold st_ask; rw [if_neg (fun q => hc1 q.1)]) (fr1 R)
  replace hc1 := Decidable.not_not.mp hc1
  rw [if_pos hc1]
  have un : ∀ s, fX12_unlike_0 (eR m ρ (sfi (sfi R 1 0) 0 0)) m s = some (Int32.ofNat (uS (fi R 91) s)) := fun s => r_unlike (R := sfi (sfi R 1 0) 0 0) s
  rw [un, Option.bind_some]
  have b0 := uS_0 (fi R 91)
  have b1 := uS_le (fi R 91) 1
  have bL := uS_le (fi R 91) 86400
  have hmid : ∀ a : Nat, a + 1 < 86400 → uS (fi R 91) (Int32.ofNat (a + 1)) = uS (fi R 91) 1 := fun a ha => uS_mid _ (by rw [n32 (by omega)]; omega)
  generalize hu0 : uS (fi R 91) 0 = u0 at *
  have hst : st_ask R = if 2 ≤ max (uS (fi R 91) 1) (uS (fi R 91) 86400) then 0 else 8 := by
    unfold st_ask
    by_cases d : 2 ≤ max (uS (fi R 91) 1) (uS (fi R 91) 86400)
    · rw [if_pos ⟨hc1, d⟩, if_pos d]
    · rw [if_neg (fun q => d q.2), if_neg d]
  have ha : a_ask R = if uS (fi R 91) 1 < uS (fi R 91) 86400 then 86400 else 1 := rfl
  generalize hu1 : uS (fi R 91) 1 = u1 at *
  generalize huL : uS (fi R 91) 86400 = uL at *
  unfold fX12_ask_34
  refine lp_q 86400 (fun a z => ∃ b M : Nat, z = (eR m ρ (sfi (sfi R 1 0) 0 0), m, Int32.ofNat b, Int32.ofNat M, Int32.ofNat (a + 1)) ∧ (a = 0 → b = 0 ∧ M = u0) ∧ (0 < a → a < 86400 → M = max u0 u1 ∧ b = if u0 < u1 then 1 else 0) ∧ (a = 86400 → M = max (max u0 u1) uL ∧ b = if max u0 u1 < uL then 86400 else if u0 < u1 then 1 else 0)) (QI m ρ R (st_ask R) (a_ask R) R) ?_ ?_ fu 0 _ (by omega) ⟨0, u0, rfl, fun _ => ⟨rfl, rfl⟩, fun q => absurd q (by omega), fun q => absurd q (by decide)⟩ (by unfold fu; omega)
  · rintro K a _ hk ⟨b, M, rfl, h1, h2, h3⟩
    left
    have e8 : ((86400 : Int32) < Int32.ofNat (a + 1)) = (86400 < a + 1) := by rw [show (86400 : Int32) = Int32.ofNat 86400 from rfl]; exact propext (lt_n (by decide) (by omega))
    have hM : M ≤ 5 := by
      by_cases q : a = 0
      · have := h1 q; omega
      · have := h2 (by omega) hk; omega
    have hu := uS_le (fi R 91) (Int32.ofNat (a + 1))
    simp only [fbX12_ask_34, e8, if_neg (show ¬ 86400 < a + 1 by omega), RisC, un, Option.bind_some, suc32, lt_n (show M < 2147483648 by omega) (show uS (fi R 91) (Int32.ofNat (a + 1)) < 2147483648 by omega)]
    by_cases q : a + 1 = 86400
    · have e9 : uS (fi R 91) (Int32.ofNat (a + 1)) = uL := by rw [q]; exact huL
      rw [e9]
      obtain ⟨m1, m2⟩ := h2 (by omega) hk
      by_cases c : M < uL
      · rw [if_pos c]
        refine ⟨_, ⟨a + 1, uL, rfl, fun w => by omega, fun w w' => by omega, fun _ => ⟨by omega, ?_⟩⟩, rfl⟩
        rw [if_pos (by omega)]; exact q
      · rw [if_neg c]
        refine ⟨_, ⟨b, M, rfl, fun w => by omega, fun w w' => by omega, fun _ => ⟨by omega, ?_⟩⟩, rfl⟩
        rw [if_neg (by omega)]; exact m2
    · rw [hmid a (by omega)]
      by_cases z : a = 0
      · obtain ⟨m1, m2⟩ := h1 z
        by_cases c : M < u1
        · rw [if_pos c]
          refine ⟨_, ⟨a + 1, u1, rfl, fun w => by omega, fun _ _ => ⟨by omega, ?_⟩, fun w => absurd w q⟩, rfl⟩
          rw [if_pos (by omega)]; omega
        · rw [if_neg c]
          refine ⟨_, ⟨b, M, rfl, fun w => by omega, fun _ _ => ⟨by omega, ?_⟩, fun w => absurd w q⟩, rfl⟩
          rw [if_neg (by omega)]; omega
      · obtain ⟨m1, m2⟩ := h2 (by omega) hk
        rw [if_neg (show ¬ M < u1 by omega)]
        exact ⟨_, ⟨b, M, rfl, fun w => by omega, fun _ _ => ⟨m1, m2⟩, fun w => absurd w q⟩, rfl⟩
  · rintro K _ ⟨b, M, rfl, h1, h2, h3⟩
    obtain ⟨m1, m2⟩ := h3 rfl
    have e8 : ((86400 : Int32) < Int32.ofNat (86400 + 1)) = True := propext ⟨fun _ => trivial, fun _ => by decide⟩
    have e2 : ((2 : Int32) ≤ Int32.ofNat M) = (2 ≤ M) := by rw [show (2 : Int32) = Int32.ofNat 2 from rfl]; exact propext (le_n (by decide) (by omega))
    simp only [fbX12_ask_34, e8, if_true, e2, RisC, r_refuse, Option.bind_some]
    by_cases c : 2 ≤ M
    · rw [if_pos c]
      refine QI.ok (R := R) (by rw [hst, if_pos (by omega)]) ?_ rfl (fr1 R)
      rw [ha, m2]
      by_cases d : u1 < uL
      · rw [if_pos d, if_pos (by omega)]; rfl
      · rw [if_neg d, if_neg (by omega), if_pos (by omega)]; rfl
    · rw [if_neg c]
      exact QI.no (by decide) (by rw [hst, if_neg (by omega)]) (fr1 R)
end
theorem x_lower (σ : Hs) (F s : Int32) (hs : 0 ≤ s.toInt ∧ s.toInt ≤ 86400) {w : Nat} (hw : w < 5) : fX11_isShownByLower_0 σ F (Int32.ofNat w) s = some (b2i (¬ nLow (btF F) (fun w => sS w s) w w)) := by
  unfold fX11_isShownByLower_0 fX11_isShownByLower_10
  rw [x_shown σ hw s hs, Option.bind_some]
  refine lp_q w (fun k z => z = (F, Int32.ofNat w, s, sS w s, Int32.ofNat k) ∧ nLow (btF F) (fun w => sS w s) k w) (fun X => X = some (b2i (¬ nLow (btF F) (fun w => sS w s) w w))) ?_ ?_ fu 0 _ (by omega) ⟨rfl, fun v hv => absurd hv (by omega)⟩ (by unfold fu; omega)
  · rintro K k _ hk ⟨rfl, hq⟩
    simp only [fbX11_isShownByLower_10, x_shown σ (show k < 5 by omega) s hs, Option.bind_some, btF_1, le_n (show w < 2147483648 by omega) (show k < 2147483648 by omega), if_neg (show ¬ w ≤ k by omega), suc32, bb_1]
    have stp : ¬ (btF F k = true ∧ sS k s = sS w s) → nLow (btF F) (fun w => sS w s) (k + 1) w := by
      intro q v hv
      by_cases e : v = k
      · rw [e]; exact q
      · exact hq v (by omega)
    by_cases c : btF F k = true
    · rw [if_pos c]
      by_cases d : sS k s = sS w s
      · right
        rw [if_pos d]
        refine congrArg some ?_
        unfold b2i; rw [if_pos (fun q => q k hk ⟨c, d⟩)]
      · left
        rw [if_neg d]
        exact ⟨_, ⟨rfl, stp (fun q => d q.2)⟩, rfl⟩
    · left
      rw [if_neg c]
      exact ⟨_, ⟨rfl, stp (fun q => c q.1)⟩, rfl⟩
  · rintro K _ ⟨rfl, hq⟩
    simp only [fbX11_isShownByLower_10, Int32.le_refl, if_true, bb_0]
    refine congrArg some ?_
    unfold b2i; rw [if_neg (fun q => q hq)]
theorem x_unlike (σ : Hs) (F s : Int32) (hs : 0 ≤ s.toInt ∧ s.toInt ≤ 86400) : fX11_unlikeShown_0 σ F s = some (Int32.ofNat (uS F s)) := by
  unfold fX11_unlikeShown_0 fX11_unlikeShown_4
  refine lp_q 5 (fun k z => z = (F, s, Int32.ofNat (uN (btF F) (fun w => sS w s) k), Int32.ofNat k)) (fun X => X = some (Int32.ofNat (uS F s))) ?_ ?_ fu 0 _ (by omega) rfl (by unfold fu; omega)
  · rintro K k _ hk rfl
    left
    refine ⟨_, rfl, ?_⟩
    have c4 : (4 < Int32.ofNat k) = (4 < k) := by rw [show (4 : Int32) = Int32.ofNat 4 from rfl]; exact propext (lt_n (by decide) (by omega))
    simp only [fbX11_unlikeShown_4, c4, if_neg (show ¬ 4 < k by omega), btF_1, x_lower σ F s hs hk, Option.bind_some, b2i_0, suc32]
    show _ = K (F, s, Int32.ofNat (uN (btF F) (fun w => sS w s) k + if btF F k = true ∧ nLow (btF F) (fun w => sS w s) k k then 1 else 0), Int32.ofNat (k + 1))
    by_cases c : btF F k = true
    · rw [if_pos c]
      by_cases d : nLow (btF F) (fun w => sS w s) k k
      · rw [if_pos (show ¬ ¬ nLow (btF F) (fun w => sS w s) k k from fun q => q d), if_pos ⟨c, d⟩]
      · rw [if_neg (show ¬ ¬ ¬ nLow (btF F) (fun w => sS w s) k k from fun q => q d), if_neg (fun q => d q.2)]; rfl
    · rw [if_neg c, if_neg (fun q => c q.1)]; rfl
  · rintro K _ rfl
    simp only [fbX11_unlikeShown_4, show ((4 : Int32) < Int32.ofNat 5) = True from propext ⟨fun _ => trivial, fun _ => by decide⟩, if_true]
    rfl
section
variable {P : Par} {x : Nat} {own : Nat → Nat} {σ : Hs} {R : Gs} {st : Int32}
theorem k_ask (hP : P.ok) (hW : RW R) (h : XW P x own σ R st) : KI P x σ (rf (st_ask R) (a_ask R)) (st_ask R) R (fX11_ask_0 σ x) := by
  obtain ⟨G, T, eC, eV, eN, eT, eS, h⟩ := h
  have hA := h.2.2.1.at
  have f16 : fi G 16 = fi R 91 := h.2.2.1.2.2.2.2.2.2.1
  have hF := hW.2.2.2.2.2.2.2.2.2.2.2.2
  have h42 : ∀ (c d : Nat), c ≤ 5 → d ≤ 5 → KI P x σ (rf (if 2 ≤ max c d then 0 else 8) (if c < d then 86400 else 1)) (if 2 ≤ max c d then 0 else 8) R (fX11_ask_42 σ x (Int32.ofNat c) (Int32.ofNat d)) := by
    intro c d hc hd
    have e1 : (Int32.ofNat (max c d) ≤ 1) = (max c d ≤ 1) := by rw [show (1 : Int32) = Int32.ofNat 1 from rfl]; exact propext (le_n (by omega) (by decide))
    unfold fX11_ask_42
    simp only [mx32, mx_n (show c < 2147483648 by omega) (show d < 2147483648 by omega), Option.bind_some, e1, z11_p0 hA, z11_g0 (A11_self σ (sfi G 0 _)), q_fi_sfi, q_fl_sfi, q_fr_sfi, q_ai_sfi, q_al_sfi, q_ar_sfi, q_ln_sfi, q_fi_sfl, q_fl_sfl, q_fr_sfl, q_ai_sfl, q_al_sfl, q_ar_sfl, q_ln_sfl, q_fi_sfr, q_fl_sfr, q_fr_sfr, q_ai_sfr, q_al_sfr, q_ar_sfr, q_ln_sfr, q_fi_sai, q_fl_sai, q_fr_sai, q_ai_sai, q_al_sai, q_ar_sai, q_ln_sai, q_fi_sal, q_fl_sal, q_fr_sal, q_ai_sal, q_al_sal, q_ar_sal, q_ln_sal, q_fi_sar, q_fl_sar, q_fr_sar, q_ai_sar, q_al_sar, q_ar_sar, q_ln_sar, reduceIte, Nat.reduceEqDiff, le_n (show d < 2147483648 by omega) (show c < 2147483648 by omega)]
    by_cases q : max c d ≤ 1
    · rw [if_pos q, if_neg (show ¬ (8 : Int32) = 0 by decide), if_neg (show ¬ 2 ≤ max c d by omega), show rf 8 _ = -1 from if_neg (by decide)]
      exact KI.no hP h hW _ _
    · rw [if_neg q, if_pos (show 2 ≤ max c d by omega), show rf 0 _ = _ from if_pos rfl]
      by_cases w : d ≤ c
      · rw [if_pos w, if_neg (show ¬ c < d by omega)]; exact KI.no hP h hW _ _
      · rw [if_neg w, if_pos (show c < d by omega)]; exact KI.no hP h hW _ _
  unfold fX11_ask_0
  simp only [z11_g16 hA, Option.bind_some, f16]
  by_cases q : fi R 91 = -1
  · rw [if_pos q]
    simp only [q, if_true]
    have e : st_ask R = 8 := by unfold st_ask; rw [q, if_neg (fun w => absurd w.1 (by decide))]
    have := h42 1 1 (by omega) (by omega)
    rw [if_neg (show ¬ 2 ≤ max 1 1 by decide), show rf 8 _ = -1 from if_neg (by decide)] at this
    rw [e, show rf 8 _ = -1 from if_neg (by decide)]
    exact this
  · rw [if_neg q, x_unlike σ _ 1 (by decide), Option.bind_some, if_neg q, x_unlike σ _ 86400 (by decide), Option.bind_some]
    have h0 : 0 ≤ (fi R 91).toInt := by
      have q' : (fi R 91).toInt ≠ -1 := fun w => q (eq32.mpr w)
      unfold RFw at hF; omega
    have e : st_ask R = if 2 ≤ max (uS (fi R 91) 1) (uS (fi R 91) 86400) then 0 else 8 := by
      unfold st_ask
      by_cases d : 2 ≤ max (uS (fi R 91) 1) (uS (fi R 91) 86400)
      · rw [if_pos ⟨h0, d⟩, if_pos d]
      · rw [if_neg (fun q => d q.2), if_neg d]
    rw [e]
    exact h42 _ _ (uS_le _ _) (uS_le _ _)
theorem both_ask (hP : P.ok) (hI : Inv P x σ) : ∃ v σ1 σ2, fX11_ask_0 σ x = some (v, σ1) ∧ fX12_ask_0 σ1 (x + 20) = some (v, σ2) ∧ Inv P x σ2 := by
  obtain ⟨own, R, hE, hX, hW, h6⟩ := hI
  obtain ⟨σ1, σ2, h1, h2, h3⟩ := arm_I (Y := fun s => fX12_ask_0 s (x + 20)) hP h6 hE (by rw [ite_self_R]; exact k_ask hP hW hX) (fun ρ => r_ask (x + 20) ρ R) (by rw [ite_self_R]; exact hW)
  exact ⟨_, σ1, σ2, h1, h2, h3⟩
end
