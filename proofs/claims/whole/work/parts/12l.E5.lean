theorem eR_out {m a : Nat} (ρ : Hs) (R : Gs) (h : ¬ (m ≤ a ∧ a ≤ m + 57)) : (eR m ρ R).2.1 a = ρ.2.1 a := by
  show (if a = m then oR m R else if m < a ∧ a ≤ m + 57 then aR (a - m - 1) R else ρ.2.1 a) = _
  rw [if_neg (by omega), if_neg (by omega)]
theorem eR_in {m : Nat} {σ σ' : Hs} {R : Gs} (h : eR m σ R = σ) (hq : ∀ a, m ≤ a → a ≤ m + 57 → σ'.2.1 a = σ.2.1 a) : eR m σ' R = σ' := by
  refine Prod.ext rfl (Prod.ext (funext fun a => ?_) rfl)
  by_cases ha : m ≤ a ∧ a ≤ m + 57
  · rw [hq a ha.1 ha.2]
    have e : (eR m σ R).2.1 a = σ.2.1 a := by rw [h]
    rw [← e]
    show (if a = m then oR m R else if m < a ∧ a ≤ m + 57 then aR (a - m - 1) R else σ'.2.1 a) = (if a = m then oR m R else if m < a ∧ a ≤ m + 57 then aR (a - m - 1) R else σ.2.1 a)
    by_cases h1 : a = m
    · rw [if_pos h1, if_pos h1]
    · rw [if_neg h1, if_neg h1, if_pos (by omega), if_pos (by omega)]
  · exact eR_out σ' R ha
section
variable {P : Par} {x : Nat} {own : Nat → Nat} {σ : Hs} {R : Gs} {st : Int32}
theorem tg_r {x a : Nat} {own : Nat → Nat} (h : x + 20 ≤ a ∧ a ≤ x + 20 + 57) : tg x own a = 4 := by
  unfold tg; rw [if_neg (by omega), if_pos (by omega), List.getD_eq_getElem?_getD, List.getElem?_eq_none (by show 20 ≤ _; omega)]; rfl
theorem eR_chg (σ : Hs) (R : Gs) : Chg x own [4] σ (eR (x + 20) σ R) := ⟨Nat.le_refl _, rfl, fun a _ hna => eR_out σ R (fun q => hna (by rw [tg_r q]; exact List.mem_cons_self))⟩
theorem XW.ref (hP : P.ok) (h : XW P x own σ R st) (hW : RW R) {R' : Gs} (hR : Fr SCR R R') : XW P x own (eR (x + 20) σ R') R' st := by
  obtain ⟨G, T, eC, eV, eN, eT, eS, h⟩ := h
  have hC : Chg x own [4] σ (eR (x + 20) σ R') := eR_chg σ R'
  have hx := h
  obtain ⟨h0, h1, h2, h3, h4, h5, h6, h7, h8, h9, h10, h11, h12, h13⟩ := hx
  obtain ⟨w1, w2, w3, w4, w5, w6, w7, w8, w9⟩ := id hW
  obtain ⟨-, q1, q2, q3, q4, q5, q6, q7⟩ := RW.fr hW hR
  have p1 := hP.1 SCR R R' hR (by decide)
  have p2 := hP.2.1 SCR R R' hR (by decide)
  have p3 := hP.2.2 R R' hR
  have hE : Ext own own σ.1 := fun _ _ => rfl
  have hn : ∀ {k : Nat}, k ≠ 4 → k ∉ [4] := fun hk q => hk (List.mem_singleton.mp q)
  refine ⟨G, T, eC, eV, eN, eT, eS, ?_⟩
  unfold XWg
  rw [q1, q2, q3, q4, q5, q6, q7, p3]
  exact ⟨Nat.le_trans h0 hC.1, h1.fr h0 hC (by decide), h2.fr h0 hC (by decide) hR (by decide), h3.fr hE hC (fun t ht => hn (by omega)) hR (by decide), h4.fr h0 hC (by decide) hR (by decide), h5.fr w4.2.1 h0 hE hC ⟨by decide, by decide, fun t ht => hn (by omega)⟩ hR (by decide) (fun q => q), h6.fr h0 hE hC (by decide) hR (by decide), h7.fr w2.2.1 h0 hE hC ⟨by decide, by decide, fun t ht => hn (by omega)⟩ hR (by decide) (fun q => q), h8.fr w7.2 h0 hE hC ⟨by decide, by decide, fun t ht => hn (by omega)⟩ hR (by decide) p1, h9.fr w8.2.1 h0 hE hC ⟨by decide, by decide, fun t ht => hn (by omega)⟩ hR (by decide), h10.fr hE hC (by decide) hR (by decide) p2, h11.fr h0 hC (by decide) hR (by decide), h12.fr hE hC (by decide) hR (by decide), h13.fr hE hC (fun t ht => hn (by omega)) hR (by decide)⟩
def Inv (P : Par) (x : Nat) (σ : Hs) : Prop := ∃ own R, eR (x + 20) σ R = σ ∧ XW P x own σ R (fi R 0) ∧ RW R ∧ H6 R
theorem inv_mk (hP : P.ok) {σ1 : Hs} {U R' : Gs} (hX : XW P x own σ1 U st) (hW : RW U) (hF : Fr SCR U R') (h0 : fi R' 0 = st) (h6 : H6 R') : Inv P x (eR (x + 20) σ1 R') := ⟨own, R', eR_eR _ _ _ _, by rw [h0]; exact XW.ref hP hX hW hF, (RW.fr hW hF).1, h6⟩
theorem arm_I (hP : P.ok) (hH : H6 R) (hE : eR (x + 20) σ R = σ) {a : Int32} {U : Gs} {X : Option (Int32 × Hs)} {Y : Hs → Option (Int32 × Hs)} (hk : KI P x σ (rf st a) st (if st = 0 then U else R) X) (hq : ∀ ρ, QI (x + 20) ρ R st a U (Y (eR (x + 20) ρ R))) (hW : RW (if st = 0 then U else R)) : ∃ σ1 σ2, X = some (rf st a, σ1) ∧ Y σ1 = some (rf st a, σ2) ∧ Inv P x σ2 := by
  obtain ⟨σ1, own', k1, k2, k3⟩ := hk
  have hE1 : eR (x + 20) σ1 R = σ1 := eR_in hE (fun a h1 h2 => k3.2 a h1 (by omega))
  obtain ⟨R', q1, q2, q3, q4⟩ := hq σ1
  rw [hE1] at q1
  exact ⟨σ1, _, k1, q1, inv_mk hP k2 hW q3 q2 (q4 hH)⟩
theorem arm_L (hP : P.ok) (hH : H6 R) (hE : eR (x + 20) σ R = σ) {a : Int64} {U : Gs} {X : Option (Int64 × Hs)} {Y : Hs → Option (Int64 × Hs)} (hk : KL P x σ (rfL st a) st (if st = 0 then U else R) X) (hq : ∀ ρ, QL (x + 20) ρ R st a U (Y (eR (x + 20) ρ R))) (hW : RW (if st = 0 then U else R)) : ∃ σ1 σ2, X = some (rfL st a, σ1) ∧ Y σ1 = some (rfL st a, σ2) ∧ Inv P x σ2 := by
  obtain ⟨σ1, own', k1, k2, k3⟩ := hk
  have hE1 : eR (x + 20) σ1 R = σ1 := eR_in hE (fun a h1 h2 => k3.2 a h1 (by omega))
  obtain ⟨R', q1, q2, q3, q4⟩ := hq σ1
  rw [hE1] at q1
  exact ⟨σ1, _, k1, q1, inv_mk hP k2 hW q3 q2 (q4 hH)⟩
theorem arm_B (hP : P.ok) (hH : H6 R) (hE : eR (x + 20) σ R = σ) {U : Gs} {X : Option (Int32 × Hs)} {Y : Hs → Option (Int32 × Hs)} (hk : KI P x σ (b2i (st = 0)) st (if st = 0 then U else R) X) (hq : ∀ ρ, QB (x + 20) ρ R st U (Y (eR (x + 20) ρ R))) (hW : RW (if st = 0 then U else R)) : ∃ σ1 σ2, X = some (b2i (st = 0), σ1) ∧ Y σ1 = some (b2i (st = 0), σ2) ∧ Inv P x σ2 := by
  obtain ⟨σ1, own', k1, k2, k3⟩ := hk
  have hE1 : eR (x + 20) σ1 R = σ1 := eR_in hE (fun a h1 h2 => k3.2 a h1 (by omega))
  obtain ⟨R', q1, q2, q3, q4⟩ := hq σ1
  rw [hE1] at q1
  exact ⟨σ1, _, k1, q1, inv_mk hP k2 hW q3 q2 (q4 hH)⟩
def Bel (P : Par) (x : Nat) : Prop := ∀ R, RW R → KBx P x R ∧ ∀ ρ, HB (x + 20) ρ R (nN R) (P.2.2 R)
theorem RW_ite {st : Int32} {U R : Gs} (h : st = 0 → RW U) (h' : RW R) : RW (if st = 0 then U else R) := by
  by_cases q : st = 0
  · rw [if_pos q]; exact h q
  · rw [if_neg q]; exact h'
theorem ite_self_R {st : Int32} {R : Gs} : (if st = 0 then R else R) = R := by split <;> rfl
theorem both_civil (hP : P.ok) (hI : Inv P x σ) (c w : Int32) : ∃ v σ1 σ2, fX11_civil_0 σ x c w = some (v, σ1) ∧ fX12_civil_0 σ1 (x + 20) c w = some (v, σ2) ∧ Inv P x σ2 := by
  obtain ⟨own, R, hE, hX, hW, h6⟩ := hI
  obtain ⟨σ1, σ2, h1, h2, h3⟩ := arm_I (Y := fun s => fX12_civil_0 s (x + 20) c w) hP h6 hE (by rw [ite_self_R]; exact k_civil hP hW hX c w) (fun ρ => r_civil hW.1 c w) (by rw [ite_self_R]; exact hW)
  exact ⟨_, σ1, σ2, h1, h2, h3⟩
theorem both_count (hP : P.ok) (hI : Inv P x σ) (c w : Int32) : ∃ v σ1 σ2, fX11_count_0 σ x c w = some (v, σ1) ∧ fX12_count_0 σ1 (x + 20) c w = some (v, σ2) ∧ Inv P x σ2 := by
  obtain ⟨own, R, hE, hX, hW, h6⟩ := hI
  obtain ⟨σ1, σ2, h1, h2, h3⟩ := arm_I (Y := fun s => fX12_count_0 s (x + 20) c w) hP h6 hE (by rw [ite_self_R]; exact k_count hP hW hX c w) (fun ρ => r_count hW.1 c w) (by rw [ite_self_R]; exact hW)
  exact ⟨_, σ1, σ2, h1, h2, h3⟩
theorem both_shows (hP : P.ok) (hB : Bel P x) (hI : Inv P x σ) (c t : Int32) : ∃ v σ1 σ2, fX11_shows_0 σ x c t = some (v, σ1) ∧ fX12_shows_0 σ1 (x + 20) c t = some (v, σ2) ∧ Inv P x σ2 := by
  obtain ⟨own, R, hE, hX, hW, h6⟩ := hI
  obtain ⟨hK, hH⟩ := hB R hW
  obtain ⟨σ1, σ2, h1, h2, h3⟩ := arm_L (Y := fun s => fX12_shows_0 s (x + 20) c t) hP h6 hE (by rw [ite_self_R]; exact k_shows hP hW hX hK c t) (fun ρ => r_shows hW.1 hW.2.1 hW.2.2.1 (hH ρ) hW.2.2.2.1.1 hW.2.2.2.1.2.1 c t) (by rw [ite_self_R]; exact hW)
  exact ⟨_, σ1, σ2, h1, h2, h3⟩
theorem both_ahead (hP : P.ok) (hB : Bel P x) (hI : Inv P x σ) (c t : Int32) : ∃ v σ1 σ2, fX11_ahead_0 σ x c t = some (v, σ1) ∧ fX12_ahead_0 σ1 (x + 20) c t = some (v, σ2) ∧ Inv P x σ2 := by
  obtain ⟨own, R, hE, hX, hW, h6⟩ := hI
  obtain ⟨hK, hH⟩ := hB R hW
  obtain ⟨σ1, σ2, h1, h2, h3⟩ := arm_I (Y := fun s => fX12_ahead_0 s (x + 20) c t) hP h6 hE (by rw [ite_self_R]; exact k_ahead hP hW hX hK c t) (fun ρ => r_ahead hW.1 hW.2.1 hW.2.2.1 (hH ρ) hW.2.2.2.1.1 hW.2.2.2.1.2.1 c t) (by rw [ite_self_R]; exact hW)
  exact ⟨_, σ1, σ2, h1, h2, h3⟩
theorem both_off (hP : P.ok) (hB : Bel P x) (hI : Inv P x σ) (c r t : Int32) : ∃ v σ1 σ2, fX11_off_0 σ x c r t = some (v, σ1) ∧ fX12_off_0 σ1 (x + 20) c r t = some (v, σ2) ∧ Inv P x σ2 := by
  obtain ⟨own, R, hE, hX, hW, h6⟩ := hI
  obtain ⟨hK, hH⟩ := hB R hW
  obtain ⟨σ1, σ2, h1, h2, h3⟩ := arm_L (Y := fun s => fX12_off_0 s (x + 20) c r t) hP h6 hE (by rw [ite_self_R]; exact k_off hP hW hX hK c r t) (fun ρ => r_off hW.1 hW.2.1 hW.2.2.1 (hH ρ) hW.2.2.2.1.1 hW.2.2.2.1.2.1 c r t) (by rw [ite_self_R]; exact hW)
  exact ⟨_, σ1, σ2, h1, h2, h3⟩
theorem both_misses (hP : P.ok) (hB : Bel P x) (hI : Inv P x σ) (c : Int32) : ∃ v σ1 σ2, fX11_misses_0 σ x c = some (v, σ1) ∧ fX12_misses_0 σ1 (x + 20) c = some (v, σ2) ∧ Inv P x σ2 := by
  obtain ⟨own, R, hE, hX, hW, h6⟩ := hI
  obtain ⟨hK, hH⟩ := hB R hW
  obtain ⟨σ1, σ2, h1, h2, h3⟩ := arm_I (Y := fun s => fX12_misses_0 s (x + 20) c) hP h6 hE (by rw [ite_self_R]; exact k_misses hP hW hX hK c) (fun ρ => r_misses hW.1 hW.2.1 (hH ρ) hW.2.2.2.1.1 hW.2.2.2.1.2.1 c) (by rw [ite_self_R]; exact hW)
  exact ⟨_, σ1, σ2, h1, h2, h3⟩
theorem both_read (hP : P.ok) (hI : Inv P x σ) (t k : Int32) : ∃ v σ1 σ2, fX11_read_0 σ x t k = some (v, σ1) ∧ fX12_read_0 σ1 (x + 20) t k = some (v, σ2) ∧ Inv P x σ2 := by
  obtain ⟨own, R, hE, hX, hW, h6⟩ := hI
  obtain ⟨σ1, σ2, h1, h2, h3⟩ := arm_L (Y := fun s => fX12_read_0 s (x + 20) t k) hP h6 hE (by rw [ite_self_R]; exact k_read hP hW hX t k) (fun ρ => r_read (x + 20) ρ R hW.2.2.2.2.2.2.2.2.2.1.1 t k) (by rw [ite_self_R]; exact hW)
  exact ⟨_, σ1, σ2, h1, h2, h3⟩
theorem both_ran (hP : P.ok) (hI : Inv P x σ) (w : Int32) : ∃ v σ1 σ2, fX11_ran_0 σ x w = some (v, σ1) ∧ fX12_ran_0 σ1 (x + 20) w = some (v, σ2) ∧ Inv P x σ2 := by
  obtain ⟨own, R, hE, hX, hW, h6⟩ := hI
  obtain ⟨σ1, σ2, h1, h2, h3⟩ := arm_I (Y := fun s => fX12_ran_0 s (x + 20) w) hP h6 hE (by rw [ite_self_R]; exact k_ran hP hW hX w) (fun ρ => r_ran (x + 20) ρ R w) (by rw [ite_self_R]; exact hW)
  exact ⟨_, σ1, σ2, h1, h2, h3⟩
end
