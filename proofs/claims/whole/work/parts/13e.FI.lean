theorem bitg : ∀ b, b < 12 → ∀ i, i < 32 → ((1 : Int32) <<< (Int32.ofNat b &&& 31)).toBitVec.getLsbD i = decide (i = b) := by decide
theorem shn : ∀ n, n < 13 → (1 : Int32) <<< (Int32.ofNat n &&& 31) = Int32.ofNat (2 ^ n) := by decide
theorem p2le : ∀ n, n < 13 → 2 ^ n ≤ 4096 := by decide
def bit1 (b : Nat) : Int32 := (1 : Int32) <<< (Int32.ofNat b &&& 31)
def qst (f : Nat → Int32) (a b : Nat) : Nat → Int32 := up (up f a (f a ||| bit1 b)) b ((up f a (f a ||| bit1 b)) b ||| bit1 a)
def q1 (W : Nat → Nat → Bool) (cl : Nat → Nat) (j : Nat) (f : Nat → Int32) : Nat → Nat → Int32
  | 0 => f
  | i + 1 => if W i j = true then qst (q1 W cl j f i) (cl i) (cl j) else q1 W cl j f i
def q2 (W : Nat → Nat → Bool) (cl : Nat → Nat) : Nat → Nat → Int32
  | 0 => fun _ => 0
  | j + 1 => q1 W cl j (q2 W cl j) j
def QA (cl : Nat → Nat) (f : Nat → Int32) (D : Nat → Nat → Prop) : Prop := ∀ c, c < 12 → ∀ b, b < 32 → ((f c).toBitVec.getLsbD b = true ↔ ∃ j k, D j k ∧ ((cl j = c ∧ cl k = b) ∨ (cl k = c ∧ cl j = b)))
theorem or_bit {x y : Int32} {i : Nat} : (x ||| y).toBitVec.getLsbD i = (x.toBitVec.getLsbD i || y.toBitVec.getLsbD i) := by
  rw [Int32.toBitVec_or, BitVec.getLsbD_or]
theorem QA_step {cl : Nat → Nat} {f : Nat → Int32} {D : Nat → Nat → Prop} (h : QA cl f D) {j k : Nat} (hj : cl j < 12) (hk : cl k < 12) : QA cl (qst f (cl j) (cl k)) (fun a b => D a b ∨ (a = j ∧ b = k)) := by
  intro c hc b hb
  have e1 : ((up f (cl j) (f (cl j) ||| bit1 (cl k))) c).toBitVec.getLsbD b = ((f c).toBitVec.getLsbD b || decide (c = cl j ∧ b = cl k)) := by
    unfold up
    by_cases q : c = cl j
    · subst q; rw [if_pos rfl, or_bit]; unfold bit1; rw [bitg _ hk _ hb]; simp
    · rw [if_neg q]; simp [q]
  have e2 : (qst f (cl j) (cl k) c).toBitVec.getLsbD b = ((f c).toBitVec.getLsbD b || decide (c = cl j ∧ b = cl k) || decide (c = cl k ∧ b = cl j)) := by
    unfold qst
    by_cases q : c = cl k
    · subst q
      rw [show up (up f (cl j) (f (cl j) ||| bit1 (cl k))) (cl k) ((up f (cl j) (f (cl j) ||| bit1 (cl k))) (cl k) ||| bit1 (cl j)) (cl k) = ((up f (cl j) (f (cl j) ||| bit1 (cl k))) (cl k) ||| bit1 (cl j)) from up_same _ _ _, or_bit, e1]
      unfold bit1; rw [bitg _ hj _ hb]; simp
    · rw [show up (up f (cl j) (f (cl j) ||| bit1 (cl k))) (cl k) ((up f (cl j) (f (cl j) ||| bit1 (cl k))) (cl k) ||| bit1 (cl j)) c = up f (cl j) (f (cl j) ||| bit1 (cl k)) c from if_neg q, e1]
      simp [q]
  rw [e2]
  simp only [Bool.or_eq_true, decide_eq_true_eq, h c hc b hb]
  constructor
  · rintro ((⟨u, v, h1, h2⟩ | ⟨h1, h2⟩) | ⟨h1, h2⟩)
    · exact ⟨u, v, Or.inl h1, h2⟩
    · exact ⟨j, k, Or.inr ⟨rfl, rfl⟩, Or.inl ⟨h1.symm, h2.symm⟩⟩
    · exact ⟨j, k, Or.inr ⟨rfl, rfl⟩, Or.inr ⟨h1.symm, h2.symm⟩⟩
  · rintro ⟨u, v, h1 | ⟨rfl, rfl⟩, h2⟩
    · exact Or.inl (Or.inl ⟨u, v, h1, h2⟩)
    · rcases h2 with ⟨h3, h4⟩ | ⟨h3, h4⟩
      · exact Or.inl (Or.inr ⟨h3.symm, h4.symm⟩)
      · exact Or.inr ⟨h3.symm, h4.symm⟩
theorem QA_cg {cl : Nat → Nat} {f : Nat → Int32} {D D' : Nat → Nat → Prop} (h : QA cl f D) (hd : ∀ j k, D j k ↔ D' j k) : QA cl f D' := by
  intro c hc b hb
  rw [h c hc b hb]
  exact ⟨fun ⟨j, k, h1, h2⟩ => ⟨j, k, (hd j k).mp h1, h2⟩, fun ⟨j, k, h1, h2⟩ => ⟨j, k, (hd j k).mpr h1, h2⟩⟩
theorem QA_un {cl : Nat → Nat} {f g : Nat → Int32} {D : Nat → Nat → Prop} (h : QA cl f D) (h' : QA cl g D) {c : Nat} (hc : c < 12) : f c = g c := by
  apply Int32.toBitVec_inj.1
  apply BitVec.eq_of_getLsbD_eq
  intro i hi
  have := (h c hc i hi).trans (h' c hc i hi).symm
  exact Bool.eq_iff_iff.mpr this
theorem QA_0 {cl : Nat → Nat} {f : Nat → Int32} {D : Nat → Nat → Prop} (hf : ∀ c, c < 12 → f c = 0) (hd : ∀ j k, ¬ D j k) : QA cl f D := by
  intro c hc b hb
  rw [hf c hc]
  constructor
  · intro q; exact absurd q (by rw [show (0 : Int32).toBitVec = 0#32 from rfl, BitVec.getLsbD_zero]; decide)
  · rintro ⟨j, k, h1, -⟩; exact absurd h1 (hd j k)
theorem q1_QA {W : Nat → Nat → Bool} {cl : Nat → Nat} {j : Nat} {f : Nat → Int32} {D : Nat → Nat → Prop} (h : QA cl f D) (hj : cl j < 12) : ∀ i, (∀ a, a < i → cl a < 12) → QA cl (q1 W cl j f i) (fun a b => D a b ∨ (a < i ∧ b = j ∧ W a j = true)) := by
  intro i; induction i with
  | zero => intro _; exact QA_cg h (fun a b => ⟨fun q => Or.inl q, fun q => q.elim id (fun w => absurd w.1 (by omega))⟩)
  | succ i ih =>
    intro hc
    have g := ih (fun a ha => hc a (by omega))
    unfold q1
    by_cases c : W i j = true
    · rw [if_pos c]
      refine QA_cg (QA_step g (hc i (by omega)) hj) (fun a b => ⟨?_, ?_⟩)
      · rintro ((q | ⟨q1, q2, q3⟩) | ⟨rfl, rfl⟩)
        · exact Or.inl q
        · exact Or.inr ⟨by omega, q2, q3⟩
        · exact Or.inr ⟨by omega, rfl, c⟩
      · rintro (q | ⟨q1, q2, q3⟩)
        · exact Or.inl (Or.inl q)
        · by_cases e : a = i
          · exact Or.inr ⟨e, q2⟩
          · exact Or.inl (Or.inr ⟨by omega, q2, q3⟩)
    · rw [if_neg c]
      refine QA_cg g (fun a b => ⟨?_, ?_⟩)
      · rintro (q | ⟨q1, q2, q3⟩)
        · exact Or.inl q
        · exact Or.inr ⟨by omega, q2, q3⟩
      · rintro (q | ⟨q1, q2, q3⟩)
        · exact Or.inl q
        · by_cases e : a = i
          · rw [e] at q3; exact absurd q3 c
          · exact Or.inr ⟨by omega, q2, q3⟩
theorem q2_QA {W : Nat → Nat → Bool} {cl : Nat → Nat} : ∀ n, (∀ a, a < n → cl a < 12) → QA cl (q2 W cl n) (fun a b => a < b ∧ b < n ∧ W a b = true) := by
  intro n; induction n with
  | zero => intro _; exact QA_0 (fun _ _ => rfl) (fun j k q => absurd q.2.1 (by omega))
  | succ n ih =>
    intro hc
    refine QA_cg (q1_QA (W := W) (ih (fun a ha => hc a (by omega))) (hc n (by omega)) n (fun a ha => hc a (by omega))) (fun a b => ⟨?_, ?_⟩)
    · rintro (⟨q1, q2, q3⟩ | ⟨q1, q2, q3⟩)
      · exact ⟨q1, by omega, q3⟩
      · subst q2; exact ⟨q1, by omega, q3⟩
    · rintro ⟨q1, q2, q3⟩
      by_cases e : b = n
      · subst e; exact Or.inr ⟨q1, rfl, q3⟩
      · exact Or.inl ⟨q1, by omega, q3⟩
def bC (v : Int32) : Int32 := (fJ6_bitCount_0f7a4_0 (0, (fun _ => ce_no), fun _ => 0) v).getD 0
theorem j_bC (σ : Hs) (v : Int32) : fJ6_bitCount_0f7a4_0 σ v = some (bC v) := rfl
abbrev okB (A : Nat → Int32) (n : Nat) (s : Int32) : Prop := ∀ c, c < n → btF s c = true ∨ A c &&& (s ^^^ (-1)) = 0
def bls (A : Nat → Int32) (n : Nat) : Nat → Int32 × Int32 × Int32
  | 0 => (13, 0, 0)
  | k + 1 => if bC (Int32.ofNat k) ≤ (bls A n k).1 ∧ okB A n (Int32.ofNat k) then (if (bls A n k).1 ≤ bC (Int32.ofNat k) then ((bls A n k).1, (bls A n k).2.1, (bls A n k).2.2 + 1) else (bC (Int32.ofNat k), Int32.ofNat k, 1)) else bls A n k
theorem bls_cg {A B : Nat → Int32} {n : Nat} (h : ∀ c, c < n → A c = B c) : ∀ k, bls A n k = bls B n k := by
  intro k; induction k with
  | zero => rfl
  | succ k ih =>
    have e : okB A n (Int32.ofNat k) ↔ okB B n (Int32.ofNat k) := ⟨fun q c hc => by rw [← h c hc]; exact q c hc, fun q c hc => by rw [h c hc]; exact q c hc⟩
    unfold bls; rw [ih]; simp only [e]
def aBl (A : Nat → Int32) (n : Nat) (w : Int32) : Int32 := if w = 0 then (bls A n (2 ^ n)).1 else if w = 1 then (bls A n (2 ^ n)).2.1 else (bls A n (2 ^ n)).2.2
def clN (R : Gs) (i : Nat) : Nat := (ai R 58 i).toNatClampNeg
section
variable {m : Nat} {ρ : Hs} {R : Gs} {nL nN nS nC nX : Nat} {bl : Nat → Bool}
theorem r_b181 {R1 : Gs} {n : Nat} (h11 : fi R1 11 = Int32.ofNat n) (h12 : n ≤ 12) (w s sz b r : Int32) (k152 : Hs → Nat → Int32 → Int32 → Int32 → Int32 → Int32 → Option (Int32 × Hs)) : fX12_blamed_181 k152 (eR m ρ R1) m w sz b r s 1 0 = if okB (ai R1 104) n s then (if sz ≤ bC s then k152 (eR m ρ R1) m w sz b (r + 1) (s + 1) else k152 (eR m ρ R1) m w (bC s) s 1 (s + 1)) else k152 (eR m ρ R1) m w sz b r (s + 1) := by
  unfold fX12_blamed_181
  refine lp_q n (fun c z => z = (eR m ρ R1, m, w, sz, b, r, s, b2i (okB (ai R1 104) c s), Int32.ofNat c)) (fun X => X = if okB (ai R1 104) n s then (if sz ≤ bC s then k152 (eR m ρ R1) m w sz b (r + 1) (s + 1) else k152 (eR m ρ R1) m w (bC s) s 1 (s + 1)) else k152 (eR m ρ R1) m w sz b r (s + 1)) ?_ ?_ fu 0 _ (by omega) ?_ (by unfold fu; omega)
  · rintro K c _ hc rfl
    left
    refine ⟨_, rfl, ?_⟩
    simp only [fbX12_blamed_181, RisC, RG_0, RP_0, RG_1, RP_1, RN_2, Rld_2, Rst_2, RN_3, Rld_3, Rst_3, RN_4, Rld_4, Rst_4, RG_5, RP_5, RG_6, RP_6, RN_7, Rld_7, Rst_7, RN_8, Rld_8, Rst_8, RN_9, Rld_9, Rst_9, RN_10, Rld_10, Rst_10, RG_11, RP_11, RG_12, RP_12, RN_13, Rld_13, Rst_13, RN_14, Rld_14, Rst_14, RN_15, Rld_15, Rst_15, RN_16, Rld_16, Rst_16, RG_17, RP_17, RG_18, RP_18, RG_19, RP_19, RG_20, RP_20, RG_21, RP_21, RG_22, RP_22, RG_23, RP_23, RG_24, RP_24, RG_25, RP_25, RG_26, RP_26, RG_27, RP_27, RG_28, RP_28, RG_29, RP_29, RG_30, RP_30, RG_31, RP_31, RG_32, RP_32, RN_33, Rld_33, Rst_33, RN_34, Rld_34, Rst_34, RN_35, Rld_35, Rst_35, RN_36, Rld_36, Rst_36, RN_37, Rld_37, Rst_37, RN_38, Rld_38, Rst_38, RN_39, Rld_39, Rst_39, RN_40, Rld_40, Rst_40, RN_41, Rld_41, Rst_41, RN_42, Rld_42, Rst_42, RN_43, Rld_43, Rst_43, RN_44, Rld_44, Rst_44, RN_45, Rld_45, Rst_45, RG_46, RP_46, RG_47, RP_47, RG_48, RP_48, RG_49, RP_49, RN_50, Rld_50, Rst_50, RN_51, Rld_51, Rst_51, RN_52, Rld_52, Rst_52, RN_53, Rld_53, Rst_53, RN_54, Rld_54, Rst_54, RN_55, Rld_55, Rst_55, RG_56, RP_56, RG_57, RP_57, RN_58, Rld_58, Rst_58, RN_59, Rld_59, Rst_59, RN_60, Rld_60, Rst_60, RG_61, RP_61, RG_62, RP_62, RG_63, RP_63, RG_64, RP_64, RG_65, RP_65, RG_66, RP_66, RG_67, RP_67, RG_68, RP_68, RG_69, RP_69, RG_70, RP_70, RG_71, RP_71, RN_72, Rld_72, Rst_72, RN_73, Rld_73, Rst_73, RN_74, Rld_74, Rst_74, RN_75, Rld_75, Rst_75, RN_76, Rld_76, Rst_76, RN_77, Rld_77, Rst_77, RN_78, Rld_78, Rst_78, RN_79, Rld_79, Rst_79, RN_80, Rld_80, Rst_80, RN_81, Rld_81, Rst_81, RN_82, Rld_82, Rst_82, RN_83, Rld_83, Rst_83, RN_84, Rld_84, Rst_84, RN_85, Rld_85, Rst_85, RN_86, Rld_86, Rst_86, RG_87, RP_87, RG_88, RP_88, RG_89, RP_89, RG_90, RP_90, RG_91, RP_91, RG_92, RP_92, RG_93, RP_93, RN_94, Rld_94, Rst_94, RN_95, Rld_95, Rst_95, RG_96, RP_96, RN_97, Rld_97, Rst_97, RN_98, Rld_98, Rst_98, RN_99, Rld_99, Rst_99, RN_100, Rld_100, Rst_100, RG_101, RP_101, RN_102, Rld_102, Rst_102, RN_103, Rld_103, Rst_103, RN_104, Rld_104, Rst_104, RG_105, RP_105, h11, Option.bind_some, le_n (show n < 2147483648 by omega) (show c < 2147483648 by omega), if_neg (show ¬ n ≤ c by omega), ix_n (show c < 2147483648 by omega), decide_eq_true (show c < 12 by omega), if_true, c32 (show c < 2147483648 by omega), btF_1, b2i_0, suc32]
    have stp : okB (ai R1 104) (c + 1) s ↔ okB (ai R1 104) c s ∧ (btF s c = true ∨ ai R1 104 c &&& (s ^^^ (-1)) = 0) := by
      refine ⟨fun q => ⟨fun a ha => q a (by omega), q c (by omega)⟩, fun q a ha => ?_⟩
      by_cases e : a = c
      · rw [e]; exact q.2
      · exact q.1 a (by omega)
    by_cases d : okB (ai R1 104) c s
    · rw [if_neg (show ¬ ¬ okB (ai R1 104) c s from fun q => q d)]
      by_cases e : btF s c = true
      · rw [if_pos e, show b2i (okB (ai R1 104) (c + 1) s) = 1 from if_pos (stp.mpr ⟨d, Or.inl e⟩)]
      · rw [if_neg e]
        by_cases g : ai R1 104 c &&& (s ^^^ (-1)) = 0
        · rw [if_pos g, show b2i (okB (ai R1 104) (c + 1) s) = 1 from if_pos (stp.mpr ⟨d, Or.inr g⟩)]
        · rw [if_neg g, show b2i (okB (ai R1 104) (c + 1) s) = 0 from if_neg (fun q => (stp.mp q).2.elim e g)]
    · rw [if_pos (show ¬ okB (ai R1 104) c s from d), show b2i (okB (ai R1 104) (c + 1) s) = 0 from if_neg (fun q => d (stp.mp q).1)]
  · rintro K _ rfl
    simp only [fbX12_blamed_181, RG_11, h11, Option.bind_some, Int32.le_refl, if_true, b2i_0, j_bC]
    by_cases d : okB (ai R1 104) n s
    · rw [if_neg (show ¬ ¬ okB (ai R1 104) n s from fun q => q d), if_pos d]
    · rw [if_pos (show ¬ okB (ai R1 104) n s from d), if_neg d]
  · rw [show b2i (okB (ai R1 104) 0 s) = 1 from if_pos (fun c hc => absurd hc (by omega))]; rfl
theorem r_b152 {R1 : Gs} {n : Nat} (h11 : fi R1 11 = Int32.ofNat n) (h12 : n ≤ 12) (w : Int32) : fX12_blamed_152 (eR m ρ R1) m w 13 0 0 0 = some (aBl (ai R1 104) n w, eR m ρ R1) := by
  have hp := p2le n (by omega)
  unfold fX12_blamed_152
  refine lp_q (2 ^ n) (fun k z => z = (eR m ρ R1, m, w, (bls (ai R1 104) n k).1, (bls (ai R1 104) n k).2.1, (bls (ai R1 104) n k).2.2, Int32.ofNat k)) (fun X => X = some (aBl (ai R1 104) n w, eR m ρ R1)) ?_ ?_ fu 0 _ (Nat.zero_le _) rfl (by unfold fu; omega)
  · rintro K k _ hk rfl
    left
    refine ⟨_, rfl, ?_⟩
    have e : bls (ai R1 104) n (k + 1) = if bC (Int32.ofNat k) ≤ (bls (ai R1 104) n k).1 ∧ okB (ai R1 104) n (Int32.ofNat k) then (if (bls (ai R1 104) n k).1 ≤ bC (Int32.ofNat k) then ((bls (ai R1 104) n k).1, (bls (ai R1 104) n k).2.1, (bls (ai R1 104) n k).2.2 + 1) else (bC (Int32.ofNat k), Int32.ofNat k, 1)) else bls (ai R1 104) n k := rfl
    rw [e]
    generalize bls (ai R1 104) n k = p
    simp only [fbX12_blamed_152, RG_11, h11, Option.bind_some, shn n (show n < 13 by omega), le_n (show 2 ^ n < 2147483648 by omega) (show k < 2147483648 by omega), if_neg (show ¬ 2 ^ n ≤ k by omega), j_bC, r_b181 h11 h12, suc32]
    by_cases c : bC (Int32.ofNat k) ≤ p.1
    · rw [if_pos c]
      by_cases d : okB (ai R1 104) n (Int32.ofNat k)
      · rw [if_pos d, if_pos (show bC (Int32.ofNat k) ≤ p.1 ∧ okB (ai R1 104) n (Int32.ofNat k) from ⟨c, d⟩)]
        by_cases g : p.1 ≤ bC (Int32.ofNat k)
        · rw [if_pos g, if_pos g]
        · rw [if_neg g, if_neg g]
      · rw [if_neg d, if_neg (show ¬ (bC (Int32.ofNat k) ≤ p.1 ∧ okB (ai R1 104) n (Int32.ofNat k)) from fun q => d q.2)]
    · rw [if_neg c, if_neg (show ¬ (bC (Int32.ofNat k) ≤ p.1 ∧ okB (ai R1 104) n (Int32.ofNat k)) from fun q => c q.1)]
  · rintro K _ rfl
    simp only [fbX12_blamed_152, RG_11, h11, Option.bind_some, shn n (show n < 13 by omega), Int32.le_refl, if_true]
    unfold aBl
    by_cases c : w = 0
    · rw [if_pos c, if_pos c]
    · rw [if_neg c, if_neg c]
      by_cases d : w = 1
      · rw [if_pos d, if_pos d]
      · rw [if_neg d, if_neg d]
theorem r_b65 {R1 : Gs} {S : Nat → Int64} {n : Nat} (hn : n ≤ 60) (h56 : fi R1 56 = Int32.ofNat n) (h60 : ∀ j, j < n → al R1 60 j = S j) (hcl : ∀ i, i < n → ai R1 58 i = Int32.ofNat (clN R i) ∧ clN R i < 12) {j : Nat} (hj : j < n) {D : Nat → Nat → Prop} (hQ : QA (clN R) (ai R1 104) D) (w : Int32) (k55 : Hs → Nat → Int32 → Int32 → Option (Int32 × Hs)) : ∃ g, fX12_blamed_65 k55 (eR m ρ R1) m w (Int32.ofNat j) 0 = k55 (eR m ρ (sai R1 104 g)) m w (Int32.ofNat (j + 1)) ∧ QA (clN R) g (fun a b => D a b ∨ (a = j ∧ b < n ∧ WP (ai R1 59) S a b)) := by
  unfold fX12_blamed_65
  refine lp_q n (fun k z => ∃ g, z = (eR m ρ (sai R1 104 g), m, w, Int32.ofNat j, Int32.ofNat k) ∧ QA (clN R) g (fun a b => D a b ∨ (a = j ∧ b < k ∧ WP (ai R1 59) S a b))) (fun X => ∃ g, X = k55 (eR m ρ (sai R1 104 g)) m w (Int32.ofNat (j + 1)) ∧ QA (clN R) g (fun a b => D a b ∨ (a = j ∧ b < n ∧ WP (ai R1 59) S a b))) ?_ ?_ fu 0 _ (by omega) ⟨ai R1 104, ?_, QA_cg hQ (fun a b => ⟨fun q => Or.inl q, fun q => q.elim id (fun r => absurd r.2.1 (by omega))⟩)⟩ (by unfold fu; omega)
  · rintro K k _ hk ⟨g, rfl, hg⟩
    left
    have ew : fX12_areWrong_0 (eR m ρ (sai R1 104 g)) m (Int32.ofNat j) (Int32.ofNat k) = some (b2i (WP (ai R1 59) S j k)) := r_areWrong (R1 := sai R1 104 g) hn h60 hj hk
    obtain ⟨hj1, hj2⟩ := hcl j hj
    obtain ⟨hk1, hk2⟩ := hcl k hk
    simp only [fbX12_blamed_65, RisC, RG_0, RP_0, RG_1, RP_1, RN_2, Rld_2, Rst_2, RN_3, Rld_3, Rst_3, RN_4, Rld_4, Rst_4, RG_5, RP_5, RG_6, RP_6, RN_7, Rld_7, Rst_7, RN_8, Rld_8, Rst_8, RN_9, Rld_9, Rst_9, RN_10, Rld_10, Rst_10, RG_11, RP_11, RG_12, RP_12, RN_13, Rld_13, Rst_13, RN_14, Rld_14, Rst_14, RN_15, Rld_15, Rst_15, RN_16, Rld_16, Rst_16, RG_17, RP_17, RG_18, RP_18, RG_19, RP_19, RG_20, RP_20, RG_21, RP_21, RG_22, RP_22, RG_23, RP_23, RG_24, RP_24, RG_25, RP_25, RG_26, RP_26, RG_27, RP_27, RG_28, RP_28, RG_29, RP_29, RG_30, RP_30, RG_31, RP_31, RG_32, RP_32, RN_33, Rld_33, Rst_33, RN_34, Rld_34, Rst_34, RN_35, Rld_35, Rst_35, RN_36, Rld_36, Rst_36, RN_37, Rld_37, Rst_37, RN_38, Rld_38, Rst_38, RN_39, Rld_39, Rst_39, RN_40, Rld_40, Rst_40, RN_41, Rld_41, Rst_41, RN_42, Rld_42, Rst_42, RN_43, Rld_43, Rst_43, RN_44, Rld_44, Rst_44, RN_45, Rld_45, Rst_45, RG_46, RP_46, RG_47, RP_47, RG_48, RP_48, RG_49, RP_49, RN_50, Rld_50, Rst_50, RN_51, Rld_51, Rst_51, RN_52, Rld_52, Rst_52, RN_53, Rld_53, Rst_53, RN_54, Rld_54, Rst_54, RN_55, Rld_55, Rst_55, RG_56, RP_56, RG_57, RP_57, RN_58, Rld_58, Rst_58, RN_59, Rld_59, Rst_59, RN_60, Rld_60, Rst_60, RG_61, RP_61, RG_62, RP_62, RG_63, RP_63, RG_64, RP_64, RG_65, RP_65, RG_66, RP_66, RG_67, RP_67, RG_68, RP_68, RG_69, RP_69, RG_70, RP_70, RG_71, RP_71, RN_72, Rld_72, Rst_72, RN_73, Rld_73, Rst_73, RN_74, Rld_74, Rst_74, RN_75, Rld_75, Rst_75, RN_76, Rld_76, Rst_76, RN_77, Rld_77, Rst_77, RN_78, Rld_78, Rst_78, RN_79, Rld_79, Rst_79, RN_80, Rld_80, Rst_80, RN_81, Rld_81, Rst_81, RN_82, Rld_82, Rst_82, RN_83, Rld_83, Rst_83, RN_84, Rld_84, Rst_84, RN_85, Rld_85, Rst_85, RN_86, Rld_86, Rst_86, RG_87, RP_87, RG_88, RP_88, RG_89, RP_89, RG_90, RP_90, RG_91, RP_91, RG_92, RP_92, RG_93, RP_93, RN_94, Rld_94, Rst_94, RN_95, Rld_95, Rst_95, RG_96, RP_96, RN_97, Rld_97, Rst_97, RN_98, Rld_98, Rst_98, RN_99, Rld_99, Rst_99, RN_100, Rld_100, Rst_100, RG_101, RP_101, RN_102, Rld_102, Rst_102, RN_103, Rld_103, Rst_103, RN_104, Rld_104, Rst_104, RG_105, RP_105, q_fi_sfi, q_fl_sfi, q_fr_sfi, q_ai_sfi, q_al_sfi, q_ar_sfi, q_ln_sfi, q_fi_sfl, q_fl_sfl, q_fr_sfl, q_ai_sfl, q_al_sfl, q_ar_sfl, q_ln_sfl, q_fi_sfr, q_fl_sfr, q_fr_sfr, q_ai_sfr, q_al_sfr, q_ar_sfr, q_ln_sfr, q_fi_sai, q_fl_sai, q_fr_sai, q_ai_sai, q_al_sai, q_ar_sai, q_ln_sai, q_fi_sal, q_fl_sal, q_fr_sal, q_ai_sal, q_al_sal, q_ar_sal, q_ln_sal, q_fi_sar, q_fl_sar, q_fr_sar, q_ai_sar, q_al_sar, q_ar_sar, q_ln_sar, reduceIte, Nat.reduceEqDiff, h56, Option.bind_some, le_n (show n < 2147483648 by omega) (show k < 2147483648 by omega), if_neg (show ¬ n ≤ k by omega), ew, b2i_0, ix_n (show k < 2147483648 by omega), ix_n (show j < 2147483648 by omega), decide_eq_true (show k < 60 by omega), decide_eq_true (show j < 60 by omega), if_true, c32 (show k < 2147483648 by omega), c32 (show j < 2147483648 by omega), hj1, hk1, ix_n (show clN R j < 2147483648 by omega), ix_n (show clN R k < 2147483648 by omega), decide_eq_true hj2, decide_eq_true hk2, c32 (show clN R j < 2147483648 by omega), c32 (show clN R k < 2147483648 by omega), sai_sai, suc32]
    by_cases c : WP (ai R1 59) S j k
    · rw [if_neg (show ¬ ¬ WP (ai R1 59) S j k from fun q => q c)]
      refine ⟨_, ⟨_, rfl, ?_⟩, rfl⟩
      refine QA_cg (QA_step hg hj2 hk2) (fun a b => ⟨?_, ?_⟩)
      · rintro ((q | ⟨q1, q2, q3⟩) | ⟨rfl, rfl⟩)
        · exact Or.inl q
        · exact Or.inr ⟨q1, by omega, q3⟩
        · exact Or.inr ⟨rfl, by omega, c⟩
      · rintro (q | ⟨q1, q2, q3⟩)
        · exact Or.inl (Or.inl q)
        · by_cases e : b = k
          · exact Or.inr ⟨q1, e⟩
          · exact Or.inl (Or.inr ⟨q1, by omega, q3⟩)
    · rw [if_pos (show ¬ WP (ai R1 59) S j k from c)]
      refine ⟨_, ⟨g, rfl, ?_⟩, rfl⟩
      refine QA_cg hg (fun a b => ⟨?_, ?_⟩)
      · rintro (q | ⟨q1, q2, q3⟩)
        · exact Or.inl q
        · exact Or.inr ⟨q1, by omega, q3⟩
      · rintro (q | ⟨q1, q2, q3⟩)
        · exact Or.inl q
        · by_cases e : b = k
          · subst e; subst q1; exact absurd q3 c
          · exact Or.inr ⟨q1, by omega, q3⟩
  · rintro K _ ⟨g, rfl, hg⟩
    simp only [fbX12_blamed_65, RisC, RG_0, RP_0, RG_1, RP_1, RN_2, Rld_2, Rst_2, RN_3, Rld_3, Rst_3, RN_4, Rld_4, Rst_4, RG_5, RP_5, RG_6, RP_6, RN_7, Rld_7, Rst_7, RN_8, Rld_8, Rst_8, RN_9, Rld_9, Rst_9, RN_10, Rld_10, Rst_10, RG_11, RP_11, RG_12, RP_12, RN_13, Rld_13, Rst_13, RN_14, Rld_14, Rst_14, RN_15, Rld_15, Rst_15, RN_16, Rld_16, Rst_16, RG_17, RP_17, RG_18, RP_18, RG_19, RP_19, RG_20, RP_20, RG_21, RP_21, RG_22, RP_22, RG_23, RP_23, RG_24, RP_24, RG_25, RP_25, RG_26, RP_26, RG_27, RP_27, RG_28, RP_28, RG_29, RP_29, RG_30, RP_30, RG_31, RP_31, RG_32, RP_32, RN_33, Rld_33, Rst_33, RN_34, Rld_34, Rst_34, RN_35, Rld_35, Rst_35, RN_36, Rld_36, Rst_36, RN_37, Rld_37, Rst_37, RN_38, Rld_38, Rst_38, RN_39, Rld_39, Rst_39, RN_40, Rld_40, Rst_40, RN_41, Rld_41, Rst_41, RN_42, Rld_42, Rst_42, RN_43, Rld_43, Rst_43, RN_44, Rld_44, Rst_44, RN_45, Rld_45, Rst_45, RG_46, RP_46, RG_47, RP_47, RG_48, RP_48, RG_49, RP_49, RN_50, Rld_50, Rst_50, RN_51, Rld_51, Rst_51, RN_52, Rld_52, Rst_52, RN_53, Rld_53, Rst_53, RN_54, Rld_54, Rst_54, RN_55, Rld_55, Rst_55, RG_56, RP_56, RG_57, RP_57, RN_58, Rld_58, Rst_58, RN_59, Rld_59, Rst_59, RN_60, Rld_60, Rst_60, RG_61, RP_61, RG_62, RP_62, RG_63, RP_63, RG_64, RP_64, RG_65, RP_65, RG_66, RP_66, RG_67, RP_67, RG_68, RP_68, RG_69, RP_69, RG_70, RP_70, RG_71, RP_71, RN_72, Rld_72, Rst_72, RN_73, Rld_73, Rst_73, RN_74, Rld_74, Rst_74, RN_75, Rld_75, Rst_75, RN_76, Rld_76, Rst_76, RN_77, Rld_77, Rst_77, RN_78, Rld_78, Rst_78, RN_79, Rld_79, Rst_79, RN_80, Rld_80, Rst_80, RN_81, Rld_81, Rst_81, RN_82, Rld_82, Rst_82, RN_83, Rld_83, Rst_83, RN_84, Rld_84, Rst_84, RN_85, Rld_85, Rst_85, RN_86, Rld_86, Rst_86, RG_87, RP_87, RG_88, RP_88, RG_89, RP_89, RG_90, RP_90, RG_91, RP_91, RG_92, RP_92, RG_93, RP_93, RN_94, Rld_94, Rst_94, RN_95, Rld_95, Rst_95, RG_96, RP_96, RN_97, Rld_97, Rst_97, RN_98, Rld_98, Rst_98, RN_99, Rld_99, Rst_99, RN_100, Rld_100, Rst_100, RG_101, RP_101, RN_102, Rld_102, Rst_102, RN_103, Rld_103, Rst_103, RN_104, Rld_104, Rst_104, RG_105, RP_105, q_fi_sfi, q_fl_sfi, q_fr_sfi, q_ai_sfi, q_al_sfi, q_ar_sfi, q_ln_sfi, q_fi_sfl, q_fl_sfl, q_fr_sfl, q_ai_sfl, q_al_sfl, q_ar_sfl, q_ln_sfl, q_fi_sfr, q_fl_sfr, q_fr_sfr, q_ai_sfr, q_al_sfr, q_ar_sfr, q_ln_sfr, q_fi_sai, q_fl_sai, q_fr_sai, q_ai_sai, q_al_sai, q_ar_sai, q_ln_sai, q_fi_sal, q_fl_sal, q_fr_sal, q_ai_sal, q_al_sal, q_ar_sal, q_ln_sal, q_fi_sar, q_fl_sar, q_fr_sar, q_ai_sar, q_al_sar, q_ar_sar, q_ln_sar, reduceIte, Nat.reduceEqDiff, h56, Option.bind_some, Int32.le_refl, if_true, suc32]
    exact ⟨g, rfl, hg⟩
  · rw [sai_self R1 104 _ rfl]; rfl
def st_bl (w : Int32) : Int32 := if 0 ≤ w.toInt ∧ w.toInt ≤ 2 then 0 else 5
noncomputable def qrl (R : Gs) (nL nN nS nX : Nat) (bl : Nat → Bool) : Nat → Int32 := q2 (fun a b => wB (ai R 59) (wS R nL nN nS bl) a b) (clN R) nX
theorem r_blamed (hL : RLp R nL) (hN : RN R nN) (hS : RSt R nS) (hB : HB m ρ R nN bl) (hC : fi R 11 = Int32.ofNat nC) (h12 : nC ≤ 12) (hX : RXq1 R nC nX) (w : Int32) : QI m ρ R (st_bl w) (aBl (qrl R nL nN nS nX bl) nC w) R (fX12_blamed_0 (eR m ρ R) m w) := by
  unfold fX12_blamed_0
  obtain ⟨R1, e1, e2, e3, e4, e5⟩ := r_findStamps hL hN hS hB hC h12 hX (fr1 R)
  obtain ⟨x1, x2, x3, x4⟩ := hX
  simp only [RP_1, RP_0, RisC, r_refuse, r_isI, Option.bind_some, b2i_0, e1, Int64.reduceToInt]
  rcases Decidable.em (¬ (0 ≤ w.toInt ∧ w.toInt ≤ 2)) with hc1 | hc1
  · rw [if_pos hc1]; exact QI.no (by decide) (by unfold st_bl; rw [if_neg hc1]) (fr1 R)
  rw [if_neg hc1]
  have hst : st_bl w = 0 := by unfold st_bl; rw [if_pos (Decidable.not_not.mp hc1)]
  have a59 : ai R1 59 = ai R 59 := e2.ai 59 (by decide)
  have a58 : ai R1 58 = ai R 58 := e2.ai 58 (by decide)
  have hcl : ∀ i, i < nX → ai R 58 i = Int32.ofNat (clN R i) ∧ clN R i < 12 := by
    intro i hi
    obtain ⟨⟨r1, r2⟩, -⟩ := x3 i hi
    obtain ⟨c, hc, hc1, hc2⟩ := get32 (ai R 58 i) r1
    unfold clN; rw [hc, c32 hc1]; exact ⟨rfl, by omega⟩
  unfold fX12_blamed_34
  refine lp_q 12 (fun k z => ∃ g, z = (eR m ρ (sai R1 104 g), m, w, Int32.ofNat k) ∧ ∀ c, c < k → g c = 0) (QI m ρ R (st_bl w) (aBl (qrl R nL nN nS nX bl) nC w) R) ?_ ?_ fu 0 _ (by omega) ⟨ai R1 104, by rw [sai_self R1 104 _ rfl]; rfl, fun c hc => absurd hc (by omega)⟩ (by unfold fu; omega)
  · rintro K k _ hk ⟨g, rfl, hg⟩
    left
    have e12 : ((12 : Int32) ≤ Int32.ofNat k) = (12 ≤ k) := by rw [show (12 : Int32) = Int32.ofNat 12 from rfl]; exact propext (le_n (by decide) (by omega))
    simp only [fbX12_blamed_34, e12, if_neg (show ¬ 12 ≤ k by omega), RisC, RG_0, RP_0, RG_1, RP_1, RN_2, Rld_2, Rst_2, RN_3, Rld_3, Rst_3, RN_4, Rld_4, Rst_4, RG_5, RP_5, RG_6, RP_6, RN_7, Rld_7, Rst_7, RN_8, Rld_8, Rst_8, RN_9, Rld_9, Rst_9, RN_10, Rld_10, Rst_10, RG_11, RP_11, RG_12, RP_12, RN_13, Rld_13, Rst_13, RN_14, Rld_14, Rst_14, RN_15, Rld_15, Rst_15, RN_16, Rld_16, Rst_16, RG_17, RP_17, RG_18, RP_18, RG_19, RP_19, RG_20, RP_20, RG_21, RP_21, RG_22, RP_22, RG_23, RP_23, RG_24, RP_24, RG_25, RP_25, RG_26, RP_26, RG_27, RP_27, RG_28, RP_28, RG_29, RP_29, RG_30, RP_30, RG_31, RP_31, RG_32, RP_32, RN_33, Rld_33, Rst_33, RN_34, Rld_34, Rst_34, RN_35, Rld_35, Rst_35, RN_36, Rld_36, Rst_36, RN_37, Rld_37, Rst_37, RN_38, Rld_38, Rst_38, RN_39, Rld_39, Rst_39, RN_40, Rld_40, Rst_40, RN_41, Rld_41, Rst_41, RN_42, Rld_42, Rst_42, RN_43, Rld_43, Rst_43, RN_44, Rld_44, Rst_44, RN_45, Rld_45, Rst_45, RG_46, RP_46, RG_47, RP_47, RG_48, RP_48, RG_49, RP_49, RN_50, Rld_50, Rst_50, RN_51, Rld_51, Rst_51, RN_52, Rld_52, Rst_52, RN_53, Rld_53, Rst_53, RN_54, Rld_54, Rst_54, RN_55, Rld_55, Rst_55, RG_56, RP_56, RG_57, RP_57, RN_58, Rld_58, Rst_58, RN_59, Rld_59, Rst_59, RN_60, Rld_60, Rst_60, RG_61, RP_61, RG_62, RP_62, RG_63, RP_63, RG_64, RP_64, RG_65, RP_65, RG_66, RP_66, RG_67, RP_67, RG_68, RP_68, RG_69, RP_69, RG_70, RP_70, RG_71, RP_71, RN_72, Rld_72, Rst_72, RN_73, Rld_73, Rst_73, RN_74, Rld_74, Rst_74, RN_75, Rld_75, Rst_75, RN_76, Rld_76, Rst_76, RN_77, Rld_77, Rst_77, RN_78, Rld_78, Rst_78, RN_79, Rld_79, Rst_79, RN_80, Rld_80, Rst_80, RN_81, Rld_81, Rst_81, RN_82, Rld_82, Rst_82, RN_83, Rld_83, Rst_83, RN_84, Rld_84, Rst_84, RN_85, Rld_85, Rst_85, RN_86, Rld_86, Rst_86, RG_87, RP_87, RG_88, RP_88, RG_89, RP_89, RG_90, RP_90, RG_91, RP_91, RG_92, RP_92, RG_93, RP_93, RN_94, Rld_94, Rst_94, RN_95, Rld_95, Rst_95, RG_96, RP_96, RN_97, Rld_97, Rst_97, RN_98, Rld_98, Rst_98, RN_99, Rld_99, Rst_99, RN_100, Rld_100, Rst_100, RG_101, RP_101, RN_102, Rld_102, Rst_102, RN_103, Rld_103, Rst_103, RN_104, Rld_104, Rst_104, RG_105, RP_105, q_fi_sfi, q_fl_sfi, q_fr_sfi, q_ai_sfi, q_al_sfi, q_ar_sfi, q_ln_sfi, q_fi_sfl, q_fl_sfl, q_fr_sfl, q_ai_sfl, q_al_sfl, q_ar_sfl, q_ln_sfl, q_fi_sfr, q_fl_sfr, q_fr_sfr, q_ai_sfr, q_al_sfr, q_ar_sfr, q_ln_sfr, q_fi_sai, q_fl_sai, q_fr_sai, q_ai_sai, q_al_sai, q_ar_sai, q_ln_sai, q_fi_sal, q_fl_sal, q_fr_sal, q_ai_sal, q_al_sal, q_ar_sal, q_ln_sal, q_fi_sar, q_fl_sar, q_fr_sar, q_ai_sar, q_al_sar, q_ar_sar, q_ln_sar, reduceIte, Nat.reduceEqDiff, Option.bind_some, ix_n (show k < 2147483648 by omega), decide_eq_true hk, if_true, c32 (show k < 2147483648 by omega), sai_sai, suc32]
    refine ⟨_, ⟨_, rfl, fun c hc => ?_⟩, rfl⟩
    unfold up
    by_cases q : c = k
    · rw [if_pos q]
    · rw [if_neg q]; exact hg c (by omega)
  · rintro K _ ⟨g, rfl, hg⟩
    have e12 : ((12 : Int32) ≤ Int32.ofNat 12) = True := propext ⟨fun _ => trivial, fun _ => by decide⟩
    simp only [fbX12_blamed_34, e12, if_true]
    unfold fX12_blamed_55
    refine lp_q nX (fun j z => ∃ g, z = (eR m ρ (sai R1 104 g), m, w, Int32.ofNat j) ∧ QA (clN R) g (fun a b => a < j ∧ b < nX ∧ WP (ai R 59) (wS R nL nN nS bl) a b)) (QI m ρ R (st_bl w) (aBl (qrl R nL nN nS nX bl) nC w) R) ?_ ?_ fu 0 _ (by omega) ⟨g, rfl, QA_0 hg (fun a b q => absurd q.1 (by omega))⟩ (by unfold fu; omega)
    · rintro K j _ hj ⟨g, rfl, hg⟩
      left
      have h56 : fi (sai R1 104 g) 56 = Int32.ofNat nX := (e2.i 56 (by decide)).trans x1
      obtain ⟨g', p1, p2⟩ := r_b65 (m := m) (ρ := ρ) (R := R) (R1 := sai R1 104 g) x2 h56 e5 (fun i hi => by show ai R1 58 i = _ ∧ _; rw [a58]; exact hcl i hi) hj hg w (fun σ xv0 xv1 xv2 => K (σ, xv0, xv1, xv2))
      rw [sai_sai] at p1
      refine ⟨_, ⟨g', rfl, QA_cg p2 (fun a b => ?_)⟩, ?_⟩
      · show _ ∨ (a = j ∧ b < nX ∧ WP (ai R1 59) _ a b) ↔ _
        rw [a59]
        constructor
        · rintro (⟨q1, q2⟩ | ⟨q1, q2⟩)
          · exact ⟨by omega, q2⟩
          · exact ⟨by omega, q2⟩
        · rintro ⟨q1, q2⟩
          by_cases e : a = j
          · exact Or.inr ⟨e, q2⟩
          · exact Or.inl ⟨by omega, q2⟩
      · simp only [fbX12_blamed_55, RG_56, h56, Option.bind_some, le_n (show nX < 2147483648 by omega) (show j < 2147483648 by omega), if_neg (show ¬ nX ≤ j by omega), p1]
    · rintro K _ ⟨g, rfl, hg⟩
      have h56 : fi (sai R1 104 g) 56 = Int32.ofNat nX := (e2.i 56 (by decide)).trans x1
      have h11 : fi (sai R1 104 g) 11 = Int32.ofNat nC := (e2.i 11 (by decide)).trans hC
      simp only [fbX12_blamed_55, RG_56, h56, Option.bind_some, Int32.le_refl, if_true]
      rw [r_b152 h11 h12 w]
      have eg : ∀ c, c < nC → qrl R nL nN nS nX bl c = g c := by
        intro c hc
        refine QA_un (q2_QA nX (fun a ha => (hcl a ha).2)) (QA_cg hg (fun a b => ?_)) (by omega)
        unfold wB
        rw [decide_eq_true_eq]
        constructor
        · rintro ⟨q1, q2, q3⟩
          refine ⟨?_, q2, q3⟩
          by_cases e : a < b
          · exact e
          · have := x4 b a (by omega) q1; omega
        · rintro ⟨q1, q2, q3⟩; exact ⟨by omega, q2, q3⟩
      refine QI.ok hst ?_ e3 (e2.trans ((Fr.refl SC0 R1).sai (by decide) _)) (fun h => e4 h)
      unfold aBl
      rw [bls_cg eg]; rfl
end
