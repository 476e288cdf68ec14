def vwR : List Int := [294, 663726, 176741, 1476, 498, 14836, 12748404, 441972, 643389618, 21091111597, 1315876, 370116, 1451365, 1309981300, 23609, 3554411, 4153, 14137992, 824370, 2328139461]
def vwP : List Int := [754996, 22499628, 20579760, 16829029, 1279278, 609441381, 212356, 656741]
def vW (pr : Bool) (w : Nat) : Int := if pr = true then vwP.getD w 0 else vwR.getD w 0
def nW (pr : Bool) : Nat := if pr = true then 8 else 20
def wi (pr : Bool) : Nat := if pr = true then 3 else 1
def si (pr : Bool) : Nat := if pr = true then 2 else 0
def wLn (pr : Bool) : Nat := if pr = true then 45 else 107
def wTx (pr : Bool) (j : Nat) : Int := (btx (wi pr) j).toInt
def PW (pr : Bool) : Nat → Nat × Nat
  | 0 => (0, 0)
  | i + 1 => if wTx pr i = 32 then ((PW pr i).1 + 1, i + 1) else PW pr i
abbrev eW (pr : Bool) (i : Nat) : Prop := i = wLn pr ∨ wTx pr i = 32
set_option maxRecDepth 100000 in
theorem wf_R : ∀ i, i < 108 → eW false i → va (wTx false) (PW false i).2 (i - (PW false i).2) = vW false (PW false i).1 ∧ (PW false i).2 ≤ i ∧ (PW false i).1 < 20 ∧ ∀ j, j < i - (PW false i).2 → isLt (wTx false ((PW false i).2 + j)) := by decide
set_option maxRecDepth 100000 in
theorem wf_P : ∀ i, i < 46 → eW true i → va (wTx true) (PW true i).2 (i - (PW true i).2) = vW true (PW true i).1 ∧ (PW true i).2 ≤ i ∧ (PW true i).1 < 8 ∧ ∀ j, j < i - (PW true i).2 → isLt (wTx true ((PW true i).2 + j)) := by decide
def wEnd (pr : Bool) (w : Nat) : Nat := if pr = true then [4, 10, 16, 22, 28, 35, 40, 45].getD w 0 else [2, 7, 12, 16, 19, 23, 29, 34, 41, 49, 55, 60, 66, 74, 78, 84, 88, 94, 99, 107].getD w 0
set_option maxRecDepth 100000 in
theorem wx_R : ∀ w, w < 20 → eW false (wEnd false w) ∧ wEnd false w ≤ 107 ∧ (PW false (wEnd false w)).1 = w := by decide
set_option maxRecDepth 100000 in
theorem wx_P : ∀ w, w < 8 → eW true (wEnd true w) ∧ wEnd true w ≤ 45 ∧ (PW true (wEnd true w)).1 = w := by decide
theorem vW_inR : ∀ a, a < 20 → ∀ b, b < 20 → vW false a = vW false b → a = b := by decide
theorem vW_inP : ∀ a, a < 8 → ∀ b, b < 8 → vW true a = vW true b → a = b := by decide
theorem wf_W (pr : Bool) {i : Nat} (hi : i ≤ wLn pr) (he : eW pr i) : va (wTx pr) (PW pr i).2 (i - (PW pr i).2) = vW pr (PW pr i).1 ∧ (PW pr i).2 ≤ i ∧ (PW pr i).1 < nW pr ∧ ∀ j, j < i - (PW pr i).2 → isLt (wTx pr ((PW pr i).2 + j)) := by
  cases pr with
  | false => exact wf_R i (Nat.lt_succ_of_le hi) he
  | true => exact wf_P i (Nat.lt_succ_of_le hi) he
theorem wx_W (pr : Bool) {w : Nat} (hw : w < nW pr) : eW pr (wEnd pr w) ∧ wEnd pr w ≤ wLn pr ∧ (PW pr (wEnd pr w)).1 = w := by
  cases pr with
  | false => exact wx_R w hw
  | true => exact wx_P w hw
theorem vW_in (pr : Bool) {a b : Nat} (ha : a < nW pr) (hb : b < nW pr) (h : vW pr a = vW pr b) : a = b := by
  cases pr with
  | false => exact vW_inR a ha b hb h
  | true => exact vW_inP a ha b hb h
theorem PW_le (pr : Bool) : ∀ i, (PW pr i).1 ≤ i ∧ (PW pr i).2 ≤ i := by
  intro i; induction i with
  | zero => exact ⟨Nat.le_refl _, Nat.le_refl _⟩
  | succ i ih =>
    unfold PW
    by_cases c : wTx pr i = 32
    · rw [if_pos c]; exact ⟨by show (PW pr i).1 + 1 ≤ _; omega, Nat.le_refl _⟩
    · rw [if_neg c]; omega
def StrO (σ : Hs) (a i : Nat) : Prop := ∃ v, σ.2.1 a = .inr (600 + i, fun k => if k = 0 then .ref v else .int 0) ∧ σ.2.1 v = .inr (610 + i, fun j => .int (btx i j))
def tLn (i : Nat) : Nat := oLen (610 + i)
section
variable {σ : Hs} {a i : Nat} {F : Nat → Value}
theorem o_G (h : σ.2.1 a = .inr (600 + i, F)) (hi : i < 4) (k : Nat) : oG 600 604 σ a k = some (F k) := by
  unfold oG; rw [h]; exact if_pos ⟨by show 600 ≤ 600 + i; omega, by show 600 + i < 604; omega⟩
theorem s_C (h : StrO σ a i) (hi : i < 4) : oC 600 604 σ a = some () := by
  obtain ⟨v, h1, h2⟩ := h
  unfold oC; rw [o_G h1 hi]; rfl
theorem s_N (h : StrO σ a i) (hi : i < 4) : ∃ v, oGN 600 604 σ a 0 = some v ∧ σ.2.1 v = .inr (610 + i, fun j => .int (btx i j)) := by
  obtain ⟨v, h1, h2⟩ := h
  refine ⟨v, ?_, h2⟩
  unfold oGN; rw [o_G h1 hi]; rfl
theorem s_I (h : StrO σ a i) (hi : i < 4) : oGI 600 604 σ a 1 = some 0 := by
  obtain ⟨v, h1, h2⟩ := h
  unfold oGI; rw [o_G h1 hi]; rfl
theorem s_aN {v : Nat} (h : σ.2.1 v = .inr (610 + i, F)) (hi : i < 4) : aN σ v = some (Int32.ofNat (tLn i)) := by
  unfold aN; rw [h]
  exact if_pos (Or.inr (Or.inl ⟨by show 610 ≤ 610 + i; omega, by show 610 + i < 614; omega⟩))
theorem sh0 (v : Int32) : v >>> ((0 : Int32) &&& 31) = v := by
  apply Int32.toBitVec_inj.1
  rw [Int32.toBitVec_shiftRight]
  show v.toBitVec.sshiftRight' _ = _
  have : (((0 : Int32) &&& 31).toBitVec.smod 32) = 0#32 := by decide
  rw [this]; exact BitVec.sshiftRight_zero
theorem s_len (h : StrO σ a i) (hi : i < 4) : fJ0_length_8abf5_0 σ a = some (Int32.ofNat (tLn i)) := by
  obtain ⟨v, h1, h2⟩ := s_N h hi
  unfold fJ0_length_8abf5_0 fJ0_coder_7d493_0
  rw [h1, Option.bind_some, s_aN h2 hi, Option.bind_some, s_C h hi, Option.bind_some, s_I h hi, Option.bind_some]
  show (bc .byte 0).bind _ = _
  rw [show bc .byte (0 : Int32) = some 0 by decide, Option.bind_some, sh0]
theorem s_A {v : Nat} (h : σ.2.1 v = .inr (610 + i, fun j => .int (btx i j))) (hi : i < 4) {j : Nat} (hj : j < tLn i) (h31 : tLn i ≤ 256) : oAI 610 614 σ v (Int32.ofNat j) = some (btx i j) := by
  unfold oAI oA; rw [h]
  have e : ((610 ≤ 610 + i ∧ 610 + i < 614) ∧ ix (Int32.ofNat j) (oLen (610 + i)) = true) := ⟨by omega, by rw [ix_n (by omega)]; exact decide_eq_true hj⟩
  show Option.bind (if (610 ≤ 610 + i ∧ 610 + i < 614) ∧ ix (Int32.ofNat j) (oLen (610 + i)) = true then some (Value.int (btx i (Int32.ofNat j).toNatClampNeg)) else none) vI = _
  rw [if_pos e, c32 (show j < 2147483648 by omega)]; rfl
theorem btx_c : ∀ i, i < 4 → ∀ j, j < tLn i → (bc .char (((btx i j &&& 255).toUInt32 % 65536).toInt32)).bind (fun v => bc .char v) = some (btx i j) := by decide
theorem tLn_b : ∀ i, i < 4 → tLn i ≤ 256 := by decide
theorem s_char (h : StrO σ a i) (hi : i < 4) {j : Nat} (hj : j < tLn i) : fJ0_charAt_5068e_0 σ a (Int32.ofNat j) = some (btx i j) := by
  obtain ⟨v, h1, h2⟩ := s_N h hi
  have hb := tLn_b i hi
  unfold fJ0_charAt_5068e_0 fJ0_isLatin1_aae02_0 fJ1_charAt_3b067_0 fJ0_checkIndex_df160_0 fJ3_checkIndex_8e157_0
  simp only [s_C h hi, s_I h hi, h1, s_aN h2 hi, Option.bind_some, if_true, bb_1, show ((1 : Int32) = 0) = False from propext ⟨fun q => absurd q (by decide), False.elim⟩, if_false, lt_n (show j < 2147483648 by omega) (show tLn i < 2147483648 by omega), if_pos hj, if_neg (show ¬ Int32.ofNat j < 0 by rw [lt32, n32 (by omega), i0]; omega), s_A h2 hi hj hb]
  exact btx_c i hi j hj
end
