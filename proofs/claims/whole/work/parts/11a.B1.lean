theorem lp_inv {S R : Type} {F : (S → Option R) → S → Option R} (I : S → Prop) (μ : S → Nat) (Q : R → Prop)
    (h : ∀ k s, I s → (∃ s', I s' ∧ μ s' < μ s ∧ F k s = k s') ∨ (∃ r, F k s = some r ∧ Q r)) : ∀ n s, I s → μ s < n → ∃ r, lp F n s = some r ∧ Q r := by
  intro n
  induction n with
  | zero => intro s _ hn; omega
  | succ n ih =>
    intro s hs hn
    show ∃ r, F (lp F n) s = some r ∧ Q r
    rcases h (lp F n) s hs with ⟨s', h1, h2, h3⟩ | h1
    · rw [h3]; exact ih s' h1 (by omega)
    · exact h1
abbrev Gs : Type := (Nat → Int32) × (Nat → Int64) × (Nat → Option Nat) × (Nat → Nat → Int32) × (Nat → Nat → Int64) × (Nat → Nat → Option Nat) × (Nat → Nat)
def fi (G : Gs) : Nat → Int32 := G.1
def fl (G : Gs) : Nat → Int64 := G.2.1
def fr (G : Gs) : Nat → Option Nat := G.2.2.1
def ai (G : Gs) : Nat → Nat → Int32 := G.2.2.2.1
def al (G : Gs) : Nat → Nat → Int64 := G.2.2.2.2.1
def ar (G : Gs) : Nat → Nat → Option Nat := G.2.2.2.2.2.1
def ln (G : Gs) : Nat → Nat := G.2.2.2.2.2.2
def up {α : Type} (f : Nat → α) (k : Nat) (v : α) : Nat → α := fun j => if j = k then v else f j
def sfi (G : Gs) (k : Nat) (v : Int32) : Gs := (up G.1 k v, G.2)
def sfl (G : Gs) (k : Nat) (v : Int64) : Gs := (G.1, up G.2.1 k v, G.2.2)
def sfr (G : Gs) (k : Nat) (v : Option Nat) : Gs := (G.1, G.2.1, up G.2.2.1 k v, G.2.2.2)
def sai (G : Gs) (k : Nat) (f : Nat → Int32) : Gs := (G.1, G.2.1, G.2.2.1, up G.2.2.2.1 k f, G.2.2.2.2)
def sal (G : Gs) (k : Nat) (f : Nat → Int64) : Gs := (G.1, G.2.1, G.2.2.1, G.2.2.2.1, up G.2.2.2.2.1 k f, G.2.2.2.2.2)
def sar (G : Gs) (k : Nat) (f : Nat → Option Nat) : Gs := (G.1, G.2.1, G.2.2.1, G.2.2.2.1, G.2.2.2.2.1, up G.2.2.2.2.2.1 k f, G.2.2.2.2.2.2)
theorem up_same {α : Type} (f : Nat → α) (k : Nat) (v : α) : up f k v k = v := if_pos rfl
theorem up_ne {α : Type} (f : Nat → α) (k j : Nat) (v : α) (h : j ≠ k) : up f k v j = f j := if_neg h
theorem up_app {α : Type} (f : Nat → α) (k j : Nat) (v : α) : up f k v j = if j = k then v else f j := rfl
theorem q_fi_sfi (G : Gs) (k : Nat) (v : Int32) (j : Nat) : fi (sfi G k v) j = if j = k then v else fi G j := rfl
theorem q_fl_sfi (G : Gs) (k : Nat) (v : Int32) : fl (sfi G k v) = fl G := rfl
theorem q_fr_sfi (G : Gs) (k : Nat) (v : Int32) : fr (sfi G k v) = fr G := rfl
theorem q_ai_sfi (G : Gs) (k : Nat) (v : Int32) : ai (sfi G k v) = ai G := rfl
theorem q_al_sfi (G : Gs) (k : Nat) (v : Int32) : al (sfi G k v) = al G := rfl
theorem q_ar_sfi (G : Gs) (k : Nat) (v : Int32) : ar (sfi G k v) = ar G := rfl
theorem q_ln_sfi (G : Gs) (k : Nat) (v : Int32) : ln (sfi G k v) = ln G := rfl
theorem q_fi_sfl (G : Gs) (k : Nat) (v : Int64) : fi (sfl G k v) = fi G := rfl
theorem q_fl_sfl (G : Gs) (k : Nat) (v : Int64) (j : Nat) : fl (sfl G k v) j = if j = k then v else fl G j := rfl
theorem q_fr_sfl (G : Gs) (k : Nat) (v : Int64) : fr (sfl G k v) = fr G := rfl
theorem q_ai_sfl (G : Gs) (k : Nat) (v : Int64) : ai (sfl G k v) = ai G := rfl
theorem q_al_sfl (G : Gs) (k : Nat) (v : Int64) : al (sfl G k v) = al G := rfl
theorem q_ar_sfl (G : Gs) (k : Nat) (v : Int64) : ar (sfl G k v) = ar G := rfl
theorem q_ln_sfl (G : Gs) (k : Nat) (v : Int64) : ln (sfl G k v) = ln G := rfl
theorem q_fi_sfr (G : Gs) (k : Nat) (v : Option Nat) : fi (sfr G k v) = fi G := rfl
theorem q_fl_sfr (G : Gs) (k : Nat) (v : Option Nat) : fl (sfr G k v) = fl G := rfl
theorem q_fr_sfr (G : Gs) (k : Nat) (v : Option Nat) (j : Nat) : fr (sfr G k v) j = if j = k then v else fr G j := rfl
theorem q_ai_sfr (G : Gs) (k : Nat) (v : Option Nat) : ai (sfr G k v) = ai G := rfl
theorem q_al_sfr (G : Gs) (k : Nat) (v : Option Nat) : al (sfr G k v) = al G := rfl
theorem q_ar_sfr (G : Gs) (k : Nat) (v : Option Nat) : ar (sfr G k v) = ar G := rfl
theorem q_ln_sfr (G : Gs) (k : Nat) (v : Option Nat) : ln (sfr G k v) = ln G := rfl
theorem q_fi_sai (G : Gs) (k : Nat) (v : Nat → Int32) : fi (sai G k v) = fi G := rfl
theorem q_fl_sai (G : Gs) (k : Nat) (v : Nat → Int32) : fl (sai G k v) = fl G := rfl
theorem q_fr_sai (G : Gs) (k : Nat) (v : Nat → Int32) : fr (sai G k v) = fr G := rfl
theorem q_ai_sai (G : Gs) (k : Nat) (v : Nat → Int32) (j : Nat) : ai (sai G k v) j = if j = k then v else ai G j := rfl
theorem q_al_sai (G : Gs) (k : Nat) (v : Nat → Int32) : al (sai G k v) = al G := rfl
theorem q_ar_sai (G : Gs) (k : Nat) (v : Nat → Int32) : ar (sai G k v) = ar G := rfl
theorem q_ln_sai (G : Gs) (k : Nat) (v : Nat → Int32) : ln (sai G k v) = ln G := rfl
theorem q_fi_sal (G : Gs) (k : Nat) (v : Nat → Int64) : fi (sal G k v) = fi G := rfl
theorem q_fl_sal (G : Gs) (k : Nat) (v : Nat → Int64) : fl (sal G k v) = fl G := rfl
theorem q_fr_sal (G : Gs) (k : Nat) (v : Nat → Int64) : fr (sal G k v) = fr G := rfl
theorem q_ai_sal (G : Gs) (k : Nat) (v : Nat → Int64) : ai (sal G k v) = ai G := rfl
theorem q_al_sal (G : Gs) (k : Nat) (v : Nat → Int64) (j : Nat) : al (sal G k v) j = if j = k then v else al G j := rfl
theorem q_ar_sal (G : Gs) (k : Nat) (v : Nat → Int64) : ar (sal G k v) = ar G := rfl
theorem q_ln_sal (G : Gs) (k : Nat) (v : Nat → Int64) : ln (sal G k v) = ln G := rfl
theorem q_fi_sar (G : Gs) (k : Nat) (v : Nat → Option Nat) : fi (sar G k v) = fi G := rfl
theorem q_fl_sar (G : Gs) (k : Nat) (v : Nat → Option Nat) : fl (sar G k v) = fl G := rfl
theorem q_fr_sar (G : Gs) (k : Nat) (v : Nat → Option Nat) : fr (sar G k v) = fr G := rfl
theorem q_ai_sar (G : Gs) (k : Nat) (v : Nat → Option Nat) : ai (sar G k v) = ai G := rfl
theorem q_al_sar (G : Gs) (k : Nat) (v : Nat → Option Nat) : al (sar G k v) = al G := rfl
theorem q_ar_sar (G : Gs) (k : Nat) (v : Nat → Option Nat) (j : Nat) : ar (sar G k v) j = if j = k then v else ar G j := rfl
theorem q_ln_sar (G : Gs) (k : Nat) (v : Nat → Option Nat) : ln (sar G k v) = ln G := rfl
def Fr (L : List Nat) (G G' : Gs) : Prop := ∀ k, k ∉ L → (fi G' k = fi G k ∧ fl G' k = fl G k ∧ fr G' k = fr G k) ∧ ai G' k = ai G k ∧ al G' k = al G k ∧ ar G' k = ar G k ∧ ln G' k = ln G k
theorem Fr.refl (L : List Nat) (G : Gs) : Fr L G G := fun _ _ => ⟨⟨rfl, rfl, rfl⟩, rfl, rfl, rfl, rfl⟩
theorem Fr.trans {L : List Nat} {A B C : Gs} (h : Fr L A B) (g : Fr L B C) : Fr L A C := fun k hk =>
  ⟨⟨(g k hk).1.1.trans (h k hk).1.1, (g k hk).1.2.1.trans (h k hk).1.2.1, (g k hk).1.2.2.trans (h k hk).1.2.2⟩, (g k hk).2.1.trans (h k hk).2.1, (g k hk).2.2.1.trans (h k hk).2.2.1, (g k hk).2.2.2.1.trans (h k hk).2.2.2.1, (g k hk).2.2.2.2.trans (h k hk).2.2.2.2⟩
theorem Fr.mono {L M : List Nat} {A B : Gs} (h : Fr L A B) (hs : ∀ k, k ∈ L → k ∈ M) : Fr M A B := fun k hk => h k (fun q => hk (hs k q))
theorem Fr.i {L : List Nat} {A B : Gs} (h : Fr L A B) (k : Nat) (hk : k ∉ L) : fi B k = fi A k := (h k hk).1.1
theorem Fr.l {L : List Nat} {A B : Gs} (h : Fr L A B) (k : Nat) (hk : k ∉ L) : fl B k = fl A k := (h k hk).1.2.1
theorem Fr.r {L : List Nat} {A B : Gs} (h : Fr L A B) (k : Nat) (hk : k ∉ L) : fr B k = fr A k := (h k hk).1.2.2
theorem Fr.ai {L : List Nat} {A B : Gs} (h : Fr L A B) (k : Nat) (hk : k ∉ L) : ai B k = ai A k := (h k hk).2.1
theorem Fr.al {L : List Nat} {A B : Gs} (h : Fr L A B) (k : Nat) (hk : k ∉ L) : al B k = al A k := (h k hk).2.2.1
theorem Fr.ar {L : List Nat} {A B : Gs} (h : Fr L A B) (k : Nat) (hk : k ∉ L) : ar B k = ar A k := (h k hk).2.2.2.1
theorem Fr.ln {L : List Nat} {A B : Gs} (h : Fr L A B) (k : Nat) (hk : k ∉ L) : ln B k = ln A k := (h k hk).2.2.2.2
theorem up_out {α : Type} {f : Nat → α} {k j : Nat} {v : α} {L : List Nat} (h : k ∈ L) (hj : j ∉ L) : up f k v j = f j := if_neg (fun e : j = k => hj (by rw [e]; exact h))
theorem Fr.sfi {L : List Nat} {A B : Gs} (h : Fr L A B) {k : Nat} (hk : k ∈ L) (v : Int32) : Fr L A (sfi B k v) := fun j hj => ⟨⟨(up_out hk hj).trans (h j hj).1.1, (h j hj).1.2⟩, (h j hj).2⟩
theorem Fr.sfl {L : List Nat} {A B : Gs} (h : Fr L A B) {k : Nat} (hk : k ∈ L) (v : Int64) : Fr L A (sfl B k v) := fun j hj => ⟨⟨(h j hj).1.1, (up_out hk hj).trans (h j hj).1.2.1, (h j hj).1.2.2⟩, (h j hj).2⟩
theorem Fr.sfr {L : List Nat} {A B : Gs} (h : Fr L A B) {k : Nat} (hk : k ∈ L) (v : Option Nat) : Fr L A (sfr B k v) := fun j hj => ⟨⟨(h j hj).1.1, (h j hj).1.2.1, (up_out hk hj).trans (h j hj).1.2.2⟩, (h j hj).2⟩
theorem Fr.sai {L : List Nat} {A B : Gs} (h : Fr L A B) {k : Nat} (hk : k ∈ L) (v : Nat → Int32) : Fr L A (sai B k v) := fun j hj => ⟨(h j hj).1, (up_out hk hj).trans (h j hj).2.1, (h j hj).2.2⟩
theorem Fr.sal {L : List Nat} {A B : Gs} (h : Fr L A B) {k : Nat} (hk : k ∈ L) (v : Nat → Int64) : Fr L A (sal B k v) := fun j hj => ⟨(h j hj).1, (h j hj).2.1, (up_out hk hj).trans (h j hj).2.2.1, (h j hj).2.2.2⟩
theorem Fr.sar {L : List Nat} {A B : Gs} (h : Fr L A B) {k : Nat} (hk : k ∈ L) (v : Nat → Option Nat) : Fr L A (sar B k v) := fun j hj => ⟨(h j hj).1, (h j hj).2.1, (h j hj).2.2.1, (up_out hk hj).trans (h j hj).2.2.2.1, (h j hj).2.2.2.2⟩
theorem n32 {n : Nat} (h : n < 2147483648) : (Int32.ofNat n).toInt = n := Int32.toInt_ofNat_of_lt h
theorem c32 {n : Nat} (h : n < 2147483648) : (Int32.ofNat n).toNatClampNeg = n := Int32.toNatClampNeg_ofNat_of_lt h
theorem add32 {a b : Int32} (h : -2147483648 ≤ a.toInt + b.toInt ∧ a.toInt + b.toInt < 2147483648) : (a + b).toInt = a.toInt + b.toInt := by
  rw [Int32.toInt_add]; exact Int.bmod_eq_of_le (by omega) (by omega)
theorem sub32 {a b : Int32} (h : -2147483648 ≤ a.toInt - b.toInt ∧ a.toInt - b.toInt < 2147483648) : (a - b).toInt = a.toInt - b.toInt := by
  rw [Int32.toInt_sub]; exact Int.bmod_eq_of_le (by omega) (by omega)
theorem mul32 {a b : Int32} (h : -2147483648 ≤ a.toInt * b.toInt ∧ a.toInt * b.toInt < 2147483648) : (a * b).toInt = a.toInt * b.toInt := by
  rw [Int32.toInt_mul]; exact Int.bmod_eq_of_le (by omega) (by omega)
theorem add64 {a b : Int64} (h : -9223372036854775808 ≤ a.toInt + b.toInt ∧ a.toInt + b.toInt < 9223372036854775808) : (a + b).toInt = a.toInt + b.toInt := by
  rw [Int64.toInt_add]; exact Int.bmod_eq_of_le (by omega) (by omega)
theorem sub64 {a b : Int64} (h : -9223372036854775808 ≤ a.toInt - b.toInt ∧ a.toInt - b.toInt < 9223372036854775808) : (a - b).toInt = a.toInt - b.toInt := by
  rw [Int64.toInt_sub]; exact Int.bmod_eq_of_le (by omega) (by omega)
theorem mul64 {a b : Int64} (h : -9223372036854775808 ≤ a.toInt * b.toInt ∧ a.toInt * b.toInt < 9223372036854775808) : (a * b).toInt = a.toInt * b.toInt := by
  rw [Int64.toInt_mul]; exact Int.bmod_eq_of_le (by omega) (by omega)
theorem r32 (a : Int32) : -2147483648 ≤ a.toInt ∧ a.toInt < 2147483648 := ⟨Int32.le_toInt a, Int32.toInt_lt a⟩
theorem r64 (a : Int64) : -9223372036854775808 ≤ a.toInt ∧ a.toInt < 9223372036854775808 := ⟨Int64.le_toInt a, Int64.toInt_lt a⟩
theorem le32 {a b : Int32} : a ≤ b ↔ a.toInt ≤ b.toInt := Int32.le_iff_toInt_le
theorem lt32 {a b : Int32} : a < b ↔ a.toInt < b.toInt := Int32.lt_iff_toInt_lt
theorem le64 {a b : Int64} : a ≤ b ↔ a.toInt ≤ b.toInt := Int64.le_iff_toInt_le
theorem lt64 {a b : Int64} : a < b ↔ a.toInt < b.toInt := Int64.lt_iff_toInt_lt
theorem eq32 {a b : Int32} : a = b ↔ a.toInt = b.toInt := ⟨fun h => h ▸ rfl, Int32.toInt.inj⟩
theorem eq64 {a b : Int64} : a = b ↔ a.toInt = b.toInt := ⟨fun h => h ▸ rfl, Int64.toInt.inj⟩
theorem up64 (a : Int32) : a.toInt64.toInt = a.toInt := Int32.toInt_toInt64 a
theorem dn32 {a : Int64} (h : -2147483648 ≤ a.toInt ∧ a.toInt < 2147483648) : a.toInt32.toInt = a.toInt := by
  rw [Int64.toInt_toInt32]; exact Int.bmod_eq_of_le (by omega) (by omega)
theorem nat32 {a : Int32} (h : 0 ≤ a.toInt) : Int32.ofNat a.toInt.toNat = a := by
  rw [eq32, n32 (by have := r32 a; omega)]; omega
theorem clamp32 {a : Int32} (h : 0 ≤ a.toInt) : (a.toNatClampNeg : Int) = a.toInt := by
  have := nat32 h
  rw [← this, c32 (by have := r32 a; omega), n32 (by have := r32 a; omega)]
theorem ix_n {k n : Nat} (h : k < 2147483648) : ix (Int32.ofNat k) n = decide (k < n) := by
  unfold ix
  have h1 : ¬ (Int32.ofNat k < 0) := by rw [lt32, n32 h]; show ¬ (k : Int) < (0 : Int32).toInt; simp
  rw [c32 h]; simp [h1]
theorem suc32 (k : Nat) : Int32.ofNat k + 1 = Int32.ofNat (k + 1) := (Int32.ofNat_add k 1).symm
theorem le_n {a b : Nat} (ha : a < 2147483648) (hb : b < 2147483648) : (Int32.ofNat a ≤ Int32.ofNat b) ↔ a ≤ b := by
  rw [le32, n32 ha, n32 hb]; omega
theorem lt_n {a b : Nat} (ha : a < 2147483648) (hb : b < 2147483648) : (Int32.ofNat a < Int32.ofNat b) ↔ a < b := by
  rw [lt32, n32 ha, n32 hb]; omega
theorem div64 {a b : Int64} (hb : 0 < b.toInt) : (a / b).toInt = a.toInt.tdiv b.toInt := by
  rw [Int64.toInt_div]
  have h1 := r64 a
  have h2 : (a.toInt.tdiv b.toInt).natAbs ≤ a.toInt.natAbs := by rw [Int.natAbs_tdiv]; exact Nat.div_le_self _ _
  by_cases hm : 0 ≤ a.toInt
  · have := Int.tdiv_nonneg hm (Int.le_of_lt hb)
    exact Int.bmod_eq_of_le (by omega) (by omega)
  · by_cases h3 : b.toInt = 1
    · rw [h3, Int.tdiv_one]; exact Int.bmod_eq_of_le (by omega) (by omega)
    · exact Int.bmod_eq_of_le (by omega) (by have : a.toInt.tdiv b.toInt ≤ 0 := by
                                               have := Int.tdiv_nonneg (a := -a.toInt) (by omega) (Int.le_of_lt hb)
                                               rw [Int.neg_tdiv] at this; omega
                                             omega)
theorem tmod_b (a b : Int) : (0 ≤ a → 0 ≤ a.tmod b ∧ a.tmod b ≤ a) ∧ (a ≤ 0 → a ≤ a.tmod b ∧ a.tmod b ≤ 0) := by
  have h1 : (a.tmod b).natAbs ≤ a.natAbs := by rw [Int.natAbs_tmod]; exact Nat.mod_le _ _
  refine ⟨fun h => ?_, fun h => ?_⟩
  · have := Int.tmod_nonneg b h
    omega
  · have := Int.tmod_nonneg b (a := -a) (by omega)
    rw [Int.neg_tmod] at this
    omega
theorem rem64 {a b : Int64} (hb : 0 < b.toInt) : (a - a / b * b).toInt = a.toInt.tmod b.toInt := by
  have h1 := div64 (a := a) hb
  have h0 := r64 a
  have h2 := Int.mul_tdiv_add_tmod a.toInt b.toInt
  rw [Int.mul_comm] at h2
  have ht := tmod_b a.toInt b.toInt
  have h3 : (a / b * b).toInt = a.toInt.tdiv b.toInt * b.toInt := by
    rw [mul64, h1]
    rw [h1]
    omega
  rw [sub64, h3]
  · omega
  · rw [h3]; omega
theorem rem32 {a b : Int32} (hb : 0 < b.toInt) (ha : 0 ≤ a.toInt) : (a / b).toInt = a.toInt / b.toInt ∧ (a - a / b * b).toInt = a.toInt % b.toInt := by
  have h0 := r32 a
  have h9 := r32 b
  have h1 : (a / b).toInt = a.toInt / b.toInt := by
    rw [Int32.toInt_div, Int.tdiv_eq_ediv_of_nonneg ha]
    have g1 := Int.ediv_nonneg ha (Int.le_of_lt hb)
    have g2 := Int.ediv_le_self b.toInt ha
    exact Int.bmod_eq_of_le (by omega) (by omega)
  refine ⟨h1, ?_⟩
  have h2 := Int.mul_ediv_add_emod a.toInt b.toInt
  rw [Int.mul_comm] at h2
  have h4 := Int.emod_nonneg a.toInt (b := b.toInt) (by omega)
  have h5 := Int.emod_lt_of_pos a.toInt hb
  have g1 := Int.ediv_nonneg ha (Int.le_of_lt hb)
  have g3 := Int.mul_nonneg g1 (Int.le_of_lt hb)
  have h3 : (a / b * b).toInt = a.toInt / b.toInt * b.toInt := by
    rw [mul32, h1]
    rw [h1]
    omega
  rw [sub32, h3]
  · omega
  · rw [h3]; omega
