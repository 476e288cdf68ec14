def pA (tx : Nat → Int) (n a : Nat) : Nat := tS tx n a
def kA (pr : Bool) (tx : Nat → Int) (n a : Nat) : Nat := tK pr tx n (tS tx n a)
def lA (tx : Nat → Int) (n a : Nat) : Nat := tE tx n (tS tx n a) - tS tx n a
def vA (tx : Nat → Int) (n a : Nat) : Int := va tx (tS tx n a) (lA tx n a)
def nA (tx : Nat → Int) (n a : Nat) : Int := nuv tx (tS tx n a) (lA tx n a)
def sA (tx : Nat → Int) (n a : Nat) : Int := tx (tS tx n a)
def RdP (G : Gs) (pr : Bool) (tx : Nat → Int) (n K : Nat) : Prop := (n ≤ 500 ∧ ln G 0 = n ∧ (ln G 3 = n + 1 ∧ ln G 4 = n + 1 ∧ ln G 5 = n + 1 ∧ ln G 6 = n + 1) ∧ (∀ j, j < n → (ai G 0 j).toInt = tx j)) ∧ K ≤ n ∧ tS tx n K = n ∧ (∀ k, k < K → tS tx n k < n) ∧ fi G 7 = Int32.ofNat (K + 1) ∧ ∀ j, j ≤ K → TkB G pr tx n j
theorem RdK.p {b : Nat} {G : Gs} {pr : Bool} {tx : Nat → Int} {n K : Nat} {σ : Hs} (h : RdK b G pr tx n K σ) : RdP G pr tx n K := ⟨⟨h.1.2.1, h.1.2.2.1, h.1.2.2.2.1, h.1.2.2.2.2.1⟩, h.2⟩
def AlG (G : Gs) (pr : Bool) (tx : Nat → Int) (n K a : Nat) : Prop := RdP G pr tx n K ∧ a ≤ K ∧ fi G 8 = Int32.ofNat a ∧ fi G 9 = 0 ∧ fi G 10 = -1 ∧ ∀ j, j ≤ K → ai G 3 j = Int32.ofNat (kA pr tx n j)
def DdG (G : Gs) (pr : Bool) (tx : Nat → Int) (n K a kd : Nat) : Prop := RdP G pr tx n K ∧ a ≤ K ∧ fi G 8 = Int32.ofNat a ∧ fi G 9 = Int32.ofNat kd ∧ (0 < kd ∧ kd < 7) ∧ fi G 10 = Int32.ofNat (pA tx n a) ∧ ai G 3 a = 4
theorem tK_b (pr : Bool) (tx : Nat → Int) (n p : Nat) : tK pr tx n p ≤ 4 := by unfold tK; (repeat' split) <;> omega
theorem kA_b (pr : Bool) (tx : Nat → Int) (n a : Nat) : kA pr tx n a ≤ 4 := tK_b _ _ _ _
section
variable {b : Nat} {G : Gs} {pr : Bool} {tx : Nat → Int} {n K a : Nat} {σ : Hs}
theorem kA_lt (h : RdP G pr tx n K) (ha : a ≤ K) (hk : kA pr tx n a ≠ 0) : a < K := by
  by_cases c : a = K
  · exfalso; apply hk; unfold kA tK; rw [c, h.2.2.1, if_pos (Nat.le_refl n)]
  · omega
theorem pA_lt (h : RdP G pr tx n K) (ha : a < K) : pA tx n a < n := h.2.2.2.1 a ha
theorem kA_1 (h : RdP G pr tx n K) (ha : a ≤ K) (hk : kA pr tx n a = 1) : tS tx n a < n ∧ tS tx n a < tE tx n (tS tx n a) ∧ tE tx n (tS tx n a) ≤ n ∧ ∀ j, j < lA tx n a → isLt (tx (tS tx n a + j)) := by
  have h1 := kA_lt h ha (by rw [hk]; decide)
  have h2 : tS tx n a < n := h.2.2.2.1 a h1
  have h3 := tE_b (tx := tx) h2
  have hL : isLt (tx (tS tx n a)) := by
    unfold kA tK at hk
    rw [if_neg (by omega)] at hk
    by_cases c : isLt (tx (tS tx n a))
    · exact c
    · rw [if_neg c] at hk; (repeat' split at hk) <;> exact absurd hk (by decide)
  obtain ⟨e1, e2⟩ := tE_L h2 hL
  exact ⟨h2, h3.1, h3.2, fun j hj => e2 j (by unfold lA at hj; omega)⟩
theorem x5_kind (hA : A5 b G σ) (hG : AlG G pr tx n K a) : (gN σ b 7 3).bind (fun v1 => (gI σ b 7 8).bind fun v2 => ldI 0 σ v1 v2) = some (Int32.ofNat (kA pr tx n a)) := by
  obtain ⟨⟨⟨h1, h2, ⟨h3, h4, h5, h6⟩, h7⟩, h8, h9, h10, h11, h12⟩, k1, k2, k3, k4, k5⟩ := hG
  simp only [z5_g3 hA, z5_g8 hA, z5_l3 hA, k2, h3, Option.bind_some, ix_n (show a < 2147483648 by omega), decide_eq_true (show a < n + 1 by omega), if_true, c32 (show a < 2147483648 by omega), k5 a k1]
theorem x5_code (hA : A5 b G σ) (hP : RdP G pr tx n K) (ha : a ≤ K) (h8 : fi G 8 = Int32.ofNat a) : fX5_code_0 σ b = some (ai G 4 a) := by
  obtain ⟨⟨h1, h2, ⟨h3, h4, h5, h6⟩, h7⟩, hK, -⟩ := hP
  unfold fX5_code_0
  simp only [z5_g4 hA, z5_g8 hA, z5_l4 hA, h8, h4, Option.bind_some, ix_n (show a < 2147483648 by omega), decide_eq_true (show a < n + 1 by omega), if_true, c32 (show a < 2147483648 by omega)]
theorem kq {k v : Nat} (hk : k ≤ 4) (hv : v ≤ 4) : (Int32.ofNat k = Int32.ofNat v) = (k = v) := eqn (by omega) (by omega)
theorem x5_isEnd (hA : A5 b G σ) (hG : AlG G pr tx n K a) : fX5_isEnd_0 σ b = some (b2i (kA pr tx n a = 0)) := by
  have h := x5_kind hA hG
  have e : fX5_isEnd_0 σ b = ((gN σ b 7 3).bind (fun v1 => (gI σ b 7 8).bind fun v2 => ldI 0 σ v1 v2)).bind fun vq3 => if vq3 = 0 then (bb 1) else (bb 0) := by
    unfold fX5_isEnd_0; simp only [Option.bind_assoc]
  rw [e, h, Option.bind_some]
  simp only [show (0 : Int32) = Int32.ofNat 0 from rfl, kq (kA_b pr tx n a) (show 0 ≤ 4 by decide)]
  unfold b2i; split <;> rfl
theorem x5_isNumber (hA : A5 b G σ) (hG : AlG G pr tx n K a) : fX5_isNumber_0 σ b = some (b2i (kA pr tx n a = 2)) := by
  have h := x5_kind hA hG
  have e : fX5_isNumber_0 σ b = ((gN σ b 7 3).bind (fun v1 => (gI σ b 7 8).bind fun v2 => ldI 0 σ v1 v2)).bind fun vq3 => if vq3 = 2 then (bb 1) else (bb 0) := by
    unfold fX5_isNumber_0; simp only [Option.bind_assoc]
  rw [e, h, Option.bind_some]
  simp only [show (2 : Int32) = Int32.ofNat 2 from rfl, kq (kA_b pr tx n a) (show 2 ≤ 4 by decide)]
  unfold b2i; split <;> rfl
theorem x5_isAnyWord (hA : A5 b G σ) (hG : AlG G pr tx n K a) : fX5_isAnyWord_0 σ b = some (b2i (kA pr tx n a = 1)) := by
  have h := x5_kind hA hG
  have e : fX5_isAnyWord_0 σ b = ((gN σ b 7 3).bind (fun v1 => (gI σ b 7 8).bind fun v2 => ldI 0 σ v1 v2)).bind fun vq3 => if vq3 = 1 then (bb 1) else (bb 0) := by
    unfold fX5_isAnyWord_0; simp only [Option.bind_assoc]
  rw [e, h, Option.bind_some]
  simp only [show (1 : Int32) = Int32.ofNat 1 from rfl, kq (kA_b pr tx n a) (show 1 ≤ 4 by decide)]
  unfold b2i; split <;> rfl
theorem x5_isFine (hA : A5 b G σ) (hG : AlG G pr tx n K a) : fX5_isFine_0 σ b = some 1 := by
  unfold fX5_isFine_0; rw [z5_g9 hA, hG.2.2.2.1]; rfl
theorem x5_isSign (hA : A5 b G σ) (hG : AlG G pr tx n K a) (c : Int32) : fX5_isSign_0 σ b c = some (b2i (kA pr tx n a = 3 ∧ sA tx n a = c.toInt)) := by
  have h := x5_kind hA hG
  have hc := x5_code hA hG.1 hG.2.1 hG.2.2.1
  have e : fX5_isSign_0 σ b c = ((gN σ b 7 3).bind (fun v1 => (gI σ b 7 8).bind fun v2 => ldI 0 σ v1 v2)).bind fun vq3 => if vq3 = 3 then ((fX5_code_0 σ b).bind fun vq7 => if vq7 = c then (bb 1) else (bb 0)) else (bb 0) := by
    unfold fX5_isSign_0 fX5_code_0; simp only [Option.bind_assoc, Option.bind_some]
  rw [e, h, Option.bind_some, hc, Option.bind_some]
  simp only [show (3 : Int32) = Int32.ofNat 3 from rfl, kq (kA_b pr tx n a) (show 3 ≤ 4 by decide)]
  by_cases q : kA pr tx n a = 3
  · rw [if_pos q]
    have hcd := (hG.1.2.2.2.2.2 a hG.2.1).2.2.2.2 q
    have e2 : (ai G 4 a = c) = (sA tx n a = c.toInt) := by rw [eq32, hcd]; rfl
    simp only [e2]
    unfold b2i
    by_cases w : sA tx n a = c.toInt
    · rw [if_pos w, if_pos ⟨q, w⟩]; rfl
    · rw [if_neg w, if_neg (fun z => w z.2)]; rfl
  · rw [if_neg q]; unfold b2i; rw [if_neg (fun z => q z.1)]; rfl
theorem cdW_eq {v : Int} {c : Int32} (h : cdW pr v c) {w : Nat} (hw : w < nW pr) : (c = Int32.ofNat w) = (v = vW pr w) := by
  have hb : nW pr ≤ 20 := by cases pr <;> decide
  apply propext
  rcases h with ⟨h1, h2⟩ | ⟨u, h1, h2, h3⟩
  · rw [h1]
    constructor
    · intro q; rw [eq32, n32 (by omega)] at q; exact absurd q (by show ¬ (-1 : Int) = w; omega)
    · intro q; exact absurd q (h2 w hw)
  · rw [h2, h3, eqn (by omega) (by omega)]
    exact ⟨fun q => by rw [q], fun q => vW_in pr h1 hw q⟩
theorem x5_isWord (hA : A5 b G σ) (hG : AlG G pr tx n K a) {w : Nat} (hw : w < nW pr) : fX5_isWord_0 σ b (Int32.ofNat w) = some (b2i (kA pr tx n a = 1 ∧ vA tx n a = vW pr w)) := by
  have h := x5_kind hA hG
  have hc := x5_code hA hG.1 hG.2.1 hG.2.2.1
  have e : fX5_isWord_0 σ b (Int32.ofNat w) = ((gN σ b 7 3).bind (fun v1 => (gI σ b 7 8).bind fun v2 => ldI 0 σ v1 v2)).bind fun vq3 => if vq3 = 1 then ((fX5_code_0 σ b).bind fun vq7 => if vq7 = Int32.ofNat w then (bb 1) else (bb 0)) else (bb 0) := by
    unfold fX5_isWord_0 fX5_code_0; simp only [Option.bind_assoc, Option.bind_some]
  rw [e, h, Option.bind_some, hc, Option.bind_some]
  simp only [show (1 : Int32) = Int32.ofNat 1 from rfl, kq (kA_b pr tx n a) (show 1 ≤ 4 by decide)]
  by_cases q : kA pr tx n a = 1
  · rw [if_pos q]
    have hcd := (hG.1.2.2.2.2.2 a hG.2.1).2.2.1 q
    simp only [cdW_eq hcd hw]
    unfold b2i
    by_cases z : vA tx n a = vW pr w
    · rw [if_pos (show va tx (tS tx n a) (tE tx n (tS tx n a) - tS tx n a) = vW pr w from z), if_pos ⟨q, z⟩]; rfl
    · rw [if_neg (show ¬ va tx (tS tx n a) (tE tx n (tS tx n a) - tS tx n a) = vW pr w from z), if_neg (fun y => z y.2)]; rfl
  · rw [if_neg q]; unfold b2i; rw [if_neg (fun z => q z.1)]; rfl
theorem x5_wordLength (hA : A5 b G σ) (hG : AlG G pr tx n K a) : fX5_wordLength_0 σ b = some (Int32.ofNat (lA tx n a)) := by
  obtain ⟨⟨⟨h1, h2, ⟨h3, h4, h5, h6⟩, h7⟩, h8, h9, h10, h11, h12⟩, k1, k2, -⟩ := hG
  obtain ⟨t1, t2, -⟩ := h12 a k1
  have hle : tS tx n a ≤ tE tx n (tS tx n a) := by
    by_cases c : a < K
    · exact Nat.le_of_lt (tE_b (h10 a c)).1
    · have : a = K := by omega
      rw [this, h9, tE_e (Nat.le_refl n)]; exact Nat.le_refl _
  unfold fX5_wordLength_0
  simp only [z5_g6 hA, z5_g5 hA, z5_g8 hA, z5_l5 hA, z5_l6 hA, k2, h5, h6, Option.bind_some, ix_n (show a < 2147483648 by omega), decide_eq_true (show a < n + 1 by omega), if_true, c32 (show a < 2147483648 by omega), t1, t2, sub_nn hle]
  rfl
def rfG (G : Gs) (tx : Nat → Int) (n a : Nat) (kd : Int32) : Gs := sai (sfi (sfi G 9 kd) 10 (Int32.ofNat (pA tx n a))) 3 (up (ai G 3) a 4)
theorem x5_refuse (hA : A5 b G σ) (hG : AlG G pr tx n K a) {f : Nat} (hf : 0 < f ∧ f < 7) : ∃ kd, fX5_refuse_0 σ b (Int32.ofNat f) = some (e5 b σ (rfG G tx n a (Int32.ofNat kd))) ∧ kd = (if kA pr tx n a = 4 then 1 else f) ∧ DdG (rfG G tx n a (Int32.ofNat kd)) pr tx n K a kd := by
  have hk := x5_kind hA hG
  have hGG := hG
  obtain ⟨⟨⟨h1, h2, ⟨h3, h4, h5, h6⟩, h7⟩, h8, h9, h10, h11, h12⟩, k1, k2, k3, k4, k5⟩ := hG
  obtain ⟨t1, t2, t3⟩ := h12 a k1
  have h27 : ∀ v : Int32, fX5_refuse_27 σ b b v = some (e5 b σ (rfG G tx n a v)) := by
    intro v
    have A1 := A5_self (b := b) σ (sfi G 9 v)
    have A2 := A5_self (b := b) σ (sfi (sfi G 9 v) 10 (Int32.ofNat (pA tx n a)))
    have ee : ∀ A B : Gs, e5 b (e5 b σ A) B = e5 b σ B := fun A B => eX_eX _ _ _
    unfold fX5_refuse_27
    simp only [z5_p9 hA, Option.bind_some, z5_g5 A1, z5_g8 A1, z5_l5 A1, z5_p10 A1, q_fi_sfi, q_fl_sfi, q_fr_sfi, q_ai_sfi, q_al_sfi, q_ar_sfi, q_ln_sfi, q_fi_sfl, q_fl_sfl, q_fr_sfl, q_ai_sfl, q_al_sfl, q_ar_sfl, q_ln_sfl, q_fi_sfr, q_fl_sfr, q_fr_sfr, q_ai_sfr, q_al_sfr, q_ar_sfr, q_ln_sfr, q_fi_sai, q_fl_sai, q_fr_sai, q_ai_sai, q_al_sai, q_ar_sai, q_ln_sai, q_fi_sal, q_fl_sal, q_fr_sal, q_ai_sal, q_al_sal, q_ar_sal, q_ln_sal, q_fi_sar, q_fl_sar, q_fr_sar, q_ai_sar, q_al_sar, q_ar_sar, q_ln_sar, reduceIte, Nat.reduceEqDiff, k2, h5, ix_n (show a < 2147483648 by omega), decide_eq_true (show a < n + 1 by omega), if_true, c32 (show a < 2147483648 by omega), t1, ee]
    simp only [show Int32.ofNat (tS tx n a) = Int32.ofNat (pA tx n a) from rfl, z5_g3 A2, z5_g8 A2, z5_s3 A2, q_fi_sfi, q_fl_sfi, q_fr_sfi, q_ai_sfi, q_al_sfi, q_ar_sfi, q_ln_sfi, q_fi_sfl, q_fl_sfl, q_fr_sfl, q_ai_sfl, q_al_sfl, q_ar_sfl, q_ln_sfl, q_fi_sfr, q_fl_sfr, q_fr_sfr, q_ai_sfr, q_al_sfr, q_ar_sfr, q_ln_sfr, q_fi_sai, q_fl_sai, q_fr_sai, q_ai_sai, q_al_sai, q_ar_sai, q_ln_sai, q_fi_sal, q_fl_sal, q_fr_sal, q_ai_sal, q_al_sal, q_ar_sal, q_ln_sal, q_fi_sar, q_fl_sar, q_fr_sar, q_ai_sar, q_al_sar, q_ar_sar, q_ln_sar, reduceIte, Nat.reduceEqDiff, k2, h3, Option.bind_some, ix_n (show a < 2147483648 by omega), decide_eq_true (show a < n + 1 by omega), if_true, c32 (show a < 2147483648 by omega), ee]
    rfl
  have e : fX5_refuse_0 σ b (Int32.ofNat f) = (gI σ b 7 9).bind fun vq1 => if vq1 = 0 then (((gN σ b 7 3).bind (fun v1 => (gI σ b 7 8).bind fun v2 => ldI 0 σ v1 v2)).bind fun vq4 => if vq4 = 4 then (fX5_refuse_27 σ b b 1) else (fX5_refuse_27 σ b b (Int32.ofNat f))) else (some σ) := by
    unfold fX5_refuse_0; simp only [Option.bind_assoc]
  rw [e, z5_g9 hA, k3, Option.bind_some, if_pos rfl, hk, Option.bind_some, h27, h27]
  simp only [show (4 : Int32) = Int32.ofNat 4 from rfl, kq (kA_b pr tx n a) (show 4 ≤ 4 by decide)]
  have hd : ∀ kd, 0 < kd ∧ kd < 7 → DdG (rfG G tx n a (Int32.ofNat kd)) pr tx n K a kd := fun kd hkd => ⟨⟨⟨h1, h2, ⟨h3, h4, h5, h6⟩, h7⟩, h8, h9, h10, h11, h12⟩, k1, k2, rfl, hkd, rfl, up_same _ _ _⟩
  by_cases q : kA pr tx n a = 4
  · exact ⟨1, by rw [if_pos q]; rfl, by rw [if_pos q], hd 1 (by decide)⟩
  · exact ⟨f, by rw [if_neg q], by rw [if_neg q], hd f hf⟩
theorem x5_advance (hA : A5 b G σ) (hG : AlG G pr tx n K a) (hk : kA pr tx n a ≠ 0 ∧ kA pr tx n a ≠ 4) : fX5_advance_0 σ b = some (e5 b σ (sfi G 8 (Int32.ofNat (a + 1)))) ∧ AlG (sfi G 8 (Int32.ofNat (a + 1))) pr tx n K (a + 1) := by
  have haK := kA_lt hG.1 hG.2.1 hk.1
  have hkd := x5_kind hA hG
  obtain ⟨⟨⟨h1, h2, ⟨h3, h4, h5, h6⟩, h7⟩, h8, h9, h10, h11, h12⟩, k1, k2, k3, k4, k5⟩ := hG
  constructor
  · have e : fX5_advance_0 σ b = (gI σ b 7 8).bind fun vq1 => (gI σ b 7 7).bind fun vq2 => if vq2 - 1 ≤ vq1 then (some σ) else (((gN σ b 7 3).bind (fun v1 => (gI σ b 7 8).bind fun v2 => ldI 0 σ v1 v2)).bind fun vq5 => if vq5 = 4 then (some σ) else ((gI σ b 7 8).bind fun vq6 => (pV σ b 7 8 (.int (vq6 + 1))).bind fun sq7 => some sq7)) := by
      unfold fX5_advance_0; simp only [Option.bind_assoc]
    rw [e, hkd]
    have e1 : Int32.ofNat (K + 1) - 1 = Int32.ofNat K := by rw [ofNat_m1 (by omega)]; rfl
    simp only [z5_g7 hA, z5_g8 hA, z5_p8 hA, h11, k2, Option.bind_some, e1, le_n (show K < 2147483648 by omega) (show a < 2147483648 by omega), if_neg (show ¬ K ≤ a by omega), show (4 : Int32) = Int32.ofNat 4 from rfl, kq (kA_b pr tx n a) (show 4 ≤ 4 by decide), if_neg hk.2, suc32]
  · exact ⟨⟨⟨h1, h2, ⟨h3, h4, h5, h6⟩, h7⟩, h8, h9, h10, h11, h12⟩, by omega, rfl, k3, k4, k5⟩
theorem x5_same (hA : A5 b G σ) (hG : AlG G pr tx n K a) {t : Nat} (ht : t ≤ K) (hkt : kA pr tx n t = 1) (hka : kA pr tx n a = 1) : fX5_isSameWord_0 σ b (Int32.ofNat t) = some (b2i (vA tx n t = vA tx n a)) := by
  have hw := x5_wordLength hA hG
  obtain ⟨a1, a2, a3, a4⟩ := kA_1 hG.1 hG.2.1 hka
  obtain ⟨t1, t2, t3, t4⟩ := kA_1 hG.1 ht hkt
  obtain ⟨⟨⟨h1, h2, ⟨h3, h4, h5, h6⟩, h7⟩, h8, h9, h10, h11, h12⟩, k1, k2, k3, k4, k5⟩ := hG
  obtain ⟨u1, u2, -⟩ := h12 t ht
  obtain ⟨w1, w2, -⟩ := h12 a k1
  have hlt : lA tx n t = tE tx n (tS tx n t) - tS tx n t := rfl
  have hla : lA tx n a = tE tx n (tS tx n a) - tS tx n a := rfl
  unfold fX5_isSameWord_0
  rw [if_neg (show ¬ Int32.ofNat t < 0 by rw [lt32, n32 (by omega), i0]; omega)]
  simp only [z5_g7 hA, h11, Option.bind_some, le_n (show K + 1 < 2147483648 by omega) (show t < 2147483648 by omega), if_neg (show ¬ K + 1 ≤ t by omega), z5_g6 hA, z5_g5 hA, z5_l5 hA, z5_l6 hA, h5, h6, ix_n (show t < 2147483648 by omega), decide_eq_true (show t < n + 1 by omega), if_true, c32 (show t < 2147483648 by omega), u1, u2, z5_C hA, hw, sub_nn (show tS tx n t ≤ tE tx n (tS tx n t) by omega), eqn (show tE tx n (tS tx n t) - tS tx n t < 2147483648 by omega) (show lA tx n a < 2147483648 by omega)]
  by_cases c : tE tx n (tS tx n t) - tS tx n t = lA tx n a
  rotate_left
  · rw [if_neg c, bb_0]
    unfold b2i; rw [if_neg]
    intro q; exact c (va_inj _ _ t4 a4 q).1
  rw [if_pos c]
  unfold fX5_isSameWord_36
  refine lp_q (lA tx n a) (fun k z => z = (b, Int32.ofNat t, Int32.ofNat k) ∧ ∀ j, j < k → tx (tS tx n t + j) = tx (tS tx n a + j)) (fun X => X = some (b2i (vA tx n t = vA tx n a))) ?_ ?_ fu 0 _ (by omega) ⟨rfl, fun j hj => absurd hj (by omega)⟩ (by unfold fu; omega)
  · rintro L k _ hk ⟨rfl, hq⟩
    simp only [fbX5_isSameWord_36, z5_C hA, hw, Option.bind_some, le_n (show lA tx n a < 2147483648 by omega) (show k < 2147483648 by omega), if_neg (show ¬ lA tx n a ≤ k by omega), z5_g0 hA, z5_g5 hA, z5_g8 hA, z5_l5 hA, z5_l0 hA, h5, h2, k2, ix_n (show t < 2147483648 by omega), decide_eq_true (show t < n + 1 by omega), ix_n (show a < 2147483648 by omega), decide_eq_true (show a < n + 1 by omega), if_true, c32 (show t < 2147483648 by omega), c32 (show a < 2147483648 by omega), u1, w1, add_n, ix_n (show tS tx n t + k < 2147483648 by omega), ix_n (show tS tx n a + k < 2147483648 by omega), decide_eq_true (show tS tx n t + k < n by omega), decide_eq_true (show tS tx n a + k < n by omega), c32 (show tS tx n t + k < 2147483648 by omega), c32 (show tS tx n a + k < 2147483648 by omega), suc32, bb_0]
    have e : (ai G 0 (tS tx n t + k) = ai G 0 (tS tx n a + k)) = (tx (tS tx n t + k) = tx (tS tx n a + k)) := by rw [eq32, h7 _ (by omega), h7 _ (by omega)]
    simp only [e]
    by_cases d : tx (tS tx n t + k) = tx (tS tx n a + k)
    · left
      rw [if_pos d]
      refine ⟨_, ⟨rfl, fun j hj => ?_⟩, rfl⟩
      by_cases q : j = k
      · rw [q]; exact d
      · exact hq j (by omega)
    · right
      rw [if_neg d]
      refine congrArg some ?_
      unfold b2i; rw [if_neg]
      intro q; exact d ((va_inj _ _ t4 a4 q).2 k (by omega))
  · rintro L _ ⟨rfl, hq⟩
    simp only [fbX5_isSameWord_36, z5_C hA, hw, Option.bind_some, Int32.le_refl, if_true, bb_1]
    refine congrArg some ?_
    unfold b2i; rw [if_pos]
    unfold vA
    rw [show lA tx n t = lA tx n a from c]
    exact va_cg _ hq
variable {kd : Nat}
theorem x5_kindD (hA : A5 b G σ) (hG : DdG G pr tx n K a kd) : (gN σ b 7 3).bind (fun v1 => (gI σ b 7 8).bind fun v2 => ldI 0 σ v1 v2) = some 4 := by
  obtain ⟨⟨⟨h1, h2, ⟨h3, h4, h5, h6⟩, h7⟩, h8, h9, h10, h11, h12⟩, k1, k2, k3, k4, k5, k6⟩ := hG
  simp only [z5_g3 hA, z5_g8 hA, z5_l3 hA, k2, h3, Option.bind_some, ix_n (show a < 2147483648 by omega), decide_eq_true (show a < n + 1 by omega), if_true, c32 (show a < 2147483648 by omega), k6]
theorem x5d_isEnd (hA : A5 b G σ) (hG : DdG G pr tx n K a kd) : fX5_isEnd_0 σ b = some 0 := by
  have e : fX5_isEnd_0 σ b = ((gN σ b 7 3).bind (fun v1 => (gI σ b 7 8).bind fun v2 => ldI 0 σ v1 v2)).bind fun vq3 => if vq3 = 0 then (bb 1) else (bb 0) := by
    unfold fX5_isEnd_0; simp only [Option.bind_assoc]
  rw [e, x5_kindD hA hG]; rfl
theorem x5d_isNumber (hA : A5 b G σ) (hG : DdG G pr tx n K a kd) : fX5_isNumber_0 σ b = some 0 := by
  have e : fX5_isNumber_0 σ b = ((gN σ b 7 3).bind (fun v1 => (gI σ b 7 8).bind fun v2 => ldI 0 σ v1 v2)).bind fun vq3 => if vq3 = 2 then (bb 1) else (bb 0) := by
    unfold fX5_isNumber_0; simp only [Option.bind_assoc]
  rw [e, x5_kindD hA hG]; rfl
theorem x5d_isAnyWord (hA : A5 b G σ) (hG : DdG G pr tx n K a kd) : fX5_isAnyWord_0 σ b = some 0 := by
  have e : fX5_isAnyWord_0 σ b = ((gN σ b 7 3).bind (fun v1 => (gI σ b 7 8).bind fun v2 => ldI 0 σ v1 v2)).bind fun vq3 => if vq3 = 1 then (bb 1) else (bb 0) := by
    unfold fX5_isAnyWord_0; simp only [Option.bind_assoc]
  rw [e, x5_kindD hA hG]; rfl
theorem x5d_isFine (hA : A5 b G σ) (hG : DdG G pr tx n K a kd) : fX5_isFine_0 σ b = some 0 := by
  unfold fX5_isFine_0; rw [z5_g9 hA, hG.2.2.2.1, Option.bind_some, if_neg]; rfl
  rw [z_n (by have := hG.2.2.2.2.1; omega)]; have := hG.2.2.2.2.1; omega
theorem x5d_isSign (hA : A5 b G σ) (hG : DdG G pr tx n K a kd) (c : Int32) : fX5_isSign_0 σ b c = some 0 := by
  have e : fX5_isSign_0 σ b c = ((gN σ b 7 3).bind (fun v1 => (gI σ b 7 8).bind fun v2 => ldI 0 σ v1 v2)).bind fun vq3 => if vq3 = 3 then ((fX5_code_0 σ b).bind fun vq7 => if vq7 = c then (bb 1) else (bb 0)) else (bb 0) := by
    unfold fX5_isSign_0 fX5_code_0; simp only [Option.bind_assoc, Option.bind_some]
  rw [e, x5_kindD hA hG]; rfl
theorem x5d_isWord (hA : A5 b G σ) (hG : DdG G pr tx n K a kd) (c : Int32) : fX5_isWord_0 σ b c = some 0 := by
  have e : fX5_isWord_0 σ b c = ((gN σ b 7 3).bind (fun v1 => (gI σ b 7 8).bind fun v2 => ldI 0 σ v1 v2)).bind fun vq3 => if vq3 = 1 then ((fX5_code_0 σ b).bind fun vq7 => if vq7 = c then (bb 1) else (bb 0)) else (bb 0) := by
    unfold fX5_isWord_0 fX5_code_0; simp only [Option.bind_assoc, Option.bind_some]
  rw [e, x5_kindD hA hG]; rfl
theorem x5d_refuse (hA : A5 b G σ) (hG : DdG G pr tx n K a kd) (f : Int32) : fX5_refuse_0 σ b f = some σ := by
  unfold fX5_refuse_0
  rw [z5_g9 hA, hG.2.2.2.1, Option.bind_some, if_neg]
  rw [z_n (by have := hG.2.2.2.2.1; omega)]; have := hG.2.2.2.2.1; omega
theorem x5d_advance (hA : A5 b G σ) (hG : DdG G pr tx n K a kd) : fX5_advance_0 σ b = some σ := by
  have e : fX5_advance_0 σ b = (gI σ b 7 8).bind fun vq1 => (gI σ b 7 7).bind fun vq2 => if vq2 - 1 ≤ vq1 then (some σ) else (((gN σ b 7 3).bind (fun v1 => (gI σ b 7 8).bind fun v2 => ldI 0 σ v1 v2)).bind fun vq5 => if vq5 = 4 then (some σ) else ((gI σ b 7 8).bind fun vq6 => (pV σ b 7 8 (.int (vq6 + 1))).bind fun sq7 => some sq7)) := by
    unfold fX5_advance_0; simp only [Option.bind_assoc]
  rw [e, x5_kindD hA hG, z5_g8 hA, z5_g7 hA]
  simp only [Option.bind_some, if_true]
  split <;> rfl
theorem x5d_takeSign (hA : A5 b G σ) (hG : DdG G pr tx n K a kd) (c : Int32) : fX5_takeSign_0 σ b c = some σ := by
  unfold fX5_takeSign_0
  simp only [z5_C hA, x5d_isSign hA hG, x5d_refuse hA hG, Option.bind_some, if_true]
theorem x5d_takeWord (hA : A5 b G σ) (hG : DdG G pr tx n K a kd) (c : Int32) : fX5_takeWord_0 σ b c = some σ := by
  unfold fX5_takeWord_0
  simp only [z5_C hA, x5d_isWord hA hG, x5d_refuse hA hG, Option.bind_some, if_true]
end
