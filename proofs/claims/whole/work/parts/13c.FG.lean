def cnt (p : Nat → Bool) : Nat → Nat
  | 0 => 0
  | n + 1 => cnt p n + if p n = true then 1 else 0
def sm (f : Nat → Nat) : Nat → Nat
  | 0 => 0
  | n + 1 => sm f n + f n
theorem cnt_le (p : Nat → Bool) : ∀ n, cnt p n ≤ n := by
  intro n; induction n with
  | zero => exact Nat.le_refl _
  | succ n ih => unfold cnt; split <;> omega
theorem sm_le {f : Nat → Nat} {b : Nat} (h : ∀ k, f k ≤ b) : ∀ n, sm f n ≤ b * n := by
  intro n; induction n with
  | zero => exact Nat.le_refl _
  | succ n ih => unfold sm; have := h n; rw [Nat.mul_succ]; omega
theorem sm_cg {f g : Nat → Nat} : ∀ n, (∀ k, k < n → f k = g k) → sm f n = sm g n := by
  intro n; induction n with
  | zero => intro _; rfl
  | succ n ih => intro h; unfold sm; rw [ih (fun k hk => h k (by omega)), h n (by omega)]
theorem sm_swap (W : Nat → Nat → Bool) (n : Nat) : ∀ m, sm (fun j => cnt (fun k => W j k) n) m = sm (fun k => cnt (fun j => W j k) m) n := by
  intro m; induction m with
  | zero =>
    show 0 = _
    have : ∀ n, sm (fun k => cnt (fun j => W j k) 0) n = 0 := by
      intro n; induction n with
      | zero => rfl
      | succ n ih => unfold sm; rw [ih]; rfl
    exact (this n).symm
  | succ m ih =>
    show sm (fun j => cnt (fun k => W j k) n) m + cnt (fun k => W m k) n = _
    rw [ih]
    have : ∀ n, sm (fun k => cnt (fun j => W j k) (m + 1)) n = sm (fun k => cnt (fun j => W j k) m) n + cnt (fun k => W m k) n := by
      intro n; induction n with
      | zero => rfl
      | succ n ih =>
        show sm (fun k => cnt (fun j => W j k) (m + 1)) n + (cnt (fun j => W j n) m + if W m n = true then 1 else 0) = (sm (fun k => cnt (fun j => W j k) m) n + cnt (fun j => W j n) m) + (cnt (fun k => W m k) n + if W m n = true then 1 else 0)
        rw [ih]; omega
    exact (this n).symm
abbrev WP (A : Nat → Int32) (S : Nat → Int64) (j k : Nat) : Prop := (A j).toInt < (A k).toInt ∧ (S k).toInt ≤ (S j).toInt
def wB (A : Nat → Int32) (S : Nat → Int64) (j k : Nat) : Bool := decide (WP A S j k)
def wN (A : Nat → Int32) (S : Nat → Int64) (n : Nat) : Nat := sm (fun k => cnt (fun j => wB A S j k) k) n
theorem wN_eq {A : Nat → Int32} {S : Nat → Int64} {n : Nat} (h : Asc n A) : sm (fun j => cnt (fun k => wB A S j k) n) n = wN A S n := by
  rw [sm_swap]
  refine sm_cg n (fun k hk => ?_)
  have : ∀ q, q ≤ n → k ≤ q → cnt (fun j => wB A S j k) q = cnt (fun j => wB A S j k) k := by
    intro q; induction q with
    | zero => intro _ hq; rw [show k = 0 by omega]
    | succ q ih =>
      intro h1 h2
      by_cases c : k = q + 1
      · rw [c]
      · show cnt (fun j => wB A S j k) q + (if wB A S q k = true then 1 else 0) = _
        have e : wB A S q k = false := decide_eq_false (fun w => by have := h k q (by omega) (by omega); omega)
        rw [ih (by omega) (by omega), e, if_neg (by decide)]; rfl
  exact this n (Nat.le_refl n) (by omega)
theorem wN_le (A : Nat → Int32) (S : Nat → Int64) {n : Nat} (hn : n ≤ 60) : ∀ k, k ≤ n → wN A S k ≤ 60 * k := by
  intro k hk
  have : ∀ q, q ≤ n → wN A S q ≤ 60 * q := by
    intro q; induction q with
    | zero => intro _; exact Nat.le_refl _
    | succ q ih =>
      intro hq
      have h1 := ih (by omega)
      have h2 := cnt_le (fun j => wB A S j q) q
      show sm (fun k => cnt (fun j => wB A S j k) k) q + cnt (fun j => wB A S j q) q ≤ _
      unfold wN at h1; omega
  exact this k hk
section
variable {m : Nat} {ρ : Hs} {R : Gs} {nL nN nS nC nX : Nat} {bl : Nat → Bool}
noncomputable def wS (R : Gs) (nL nN nS : Nat) (bl : Nat → Bool) (k : Nat) : Int64 := SH R nL nN nS bl (ai R 58 k) (ai R 59 k)
def RXq1 (R : Gs) (nC nX : Nat) : Prop := fi R 56 = Int32.ofNat nX ∧ nX ≤ 60 ∧ (∀ i, i < nX → (0 ≤ (ai R 58 i).toInt ∧ (ai R 58 i).toInt < nC) ∧ 0 ≤ (ai R 59 i).toInt ∧ (ai R 59 i).toInt ≤ 900000000) ∧ Asc nX (ai R 59)
theorem r_fs17 (hL : RLp R nL) (hS : RSt R nS) (hX : RXq1 R nC nX) (h12 : nC ≤ 12) {c nh : Nat} (hc : c < nC) {R1 : Gs} (hH : Hnd R R1 nL nN nS nh bl (Int32.ofNat c)) (hF : Fr SC0 R R1) (hp : ∀ j, j < nX → (ai R 58 j).toInt < c → al R1 60 j = wS R nL nN nS bl j) (k2 : Hs → Nat → Int32 → Option Hs) : ∃ R2, fX12_findStamps_17 k2 (eR m ρ R1) m (Int32.ofNat c) 0 = k2 (eR m ρ R2) m (Int32.ofNat (c + 1)) ∧ Fr SC0 R R2 ∧ fi R2 0 = fi R1 0 ∧ H6 R2 ∧ ∀ j, j < nX → (ai R 58 j).toInt < (c + 1 : Nat) → al R2 60 j = wS R nL nN nS bl j := by
  obtain ⟨x1, x2, x3, x4⟩ := hX
  unfold fX12_findStamps_17
  refine lp_q nX (fun k z => ∃ R', z = (eR m ρ R', m, Int32.ofNat c, Int32.ofNat k) ∧ Hnd R R' nL nN nS nh bl (Int32.ofNat c) ∧ Fr SC0 R R' ∧ fi R' 0 = fi R1 0 ∧ (∀ j, j < k → (ai R 58 j).toInt < (c + 1 : Nat) → al R' 60 j = wS R nL nN nS bl j) ∧ (∀ j, j < nX → (ai R 58 j).toInt < c → al R' 60 j = wS R nL nN nS bl j)) (fun X => ∃ R2, X = k2 (eR m ρ R2) m (Int32.ofNat (c + 1)) ∧ Fr SC0 R R2 ∧ fi R2 0 = fi R1 0 ∧ H6 R2 ∧ ∀ j, j < nX → (ai R 58 j).toInt < (c + 1 : Nat) → al R2 60 j = wS R nL nN nS bl j) ?_ ?_ fu 0 _ (by omega) ⟨R1, rfl, hH, hF, rfl, fun j hj => absurd hj (by omega), hp⟩ (by unfold fu; omega)
  · rintro K k _ hk ⟨R', rfl, e1, e2, e3, e4, e5⟩
    left
    have h56 : fi R' 56 = Int32.ofNat nX := (e2.i 56 (by decide)).trans x1
    have a58 : ai R' 58 = ai R 58 := e2.ai 58 (by decide)
    have a59 : ai R' 59 = ai R 59 := e2.ai 59 (by decide)
    have a13 : ai R' 13 = ai R 13 := e2.ai 13 (by decide)
    have hr := x3 k hk
    have eqc : (ai R 58 k = Int32.ofNat c) = ((ai R 58 k).toInt = c) := by rw [eq32, n32 (by omega)]
    simp only [fbX12_findStamps_17, RisC, RG_0, RP_0, RG_1, RP_1, RN_2, Rld_2, Rst_2, RN_3, Rld_3, Rst_3, RN_4, Rld_4, Rst_4, RG_5, RP_5, RG_6, RP_6, RN_7, Rld_7, Rst_7, RN_8, Rld_8, Rst_8, RN_9, Rld_9, Rst_9, RN_10, Rld_10, Rst_10, RG_11, RP_11, RG_12, RP_12, RN_13, Rld_13, Rst_13, RN_14, Rld_14, Rst_14, RN_15, Rld_15, Rst_15, RN_16, Rld_16, Rst_16, RG_17, RP_17, RG_18, RP_18, RG_19, RP_19, RG_20, RP_20, RG_21, RP_21, RG_22, RP_22, RG_23, RP_23, RG_24, RP_24, RG_25, RP_25, RG_26, RP_26, RG_27, RP_27, RG_28, RP_28, RG_29, RP_29, RG_30, RP_30, RG_31, RP_31, RG_32, RP_32, RN_33, Rld_33, Rst_33, RN_34, Rld_34, Rst_34, RN_35, Rld_35, Rst_35, RN_36, Rld_36, Rst_36, RN_37, Rld_37, Rst_37, RN_38, Rld_38, Rst_38, RN_39, Rld_39, Rst_39, RN_40, Rld_40, Rst_40, RN_41, Rld_41, Rst_41, RN_42, Rld_42, Rst_42, RN_43, Rld_43, Rst_43, RN_44, Rld_44, Rst_44, RN_45, Rld_45, Rst_45, RG_46, RP_46, RG_47, RP_47, RG_48, RP_48, RG_49, RP_49, RN_50, Rld_50, Rst_50, RN_51, Rld_51, Rst_51, RN_52, Rld_52, Rst_52, RN_53, Rld_53, Rst_53, RN_54, Rld_54, Rst_54, RN_55, Rld_55, Rst_55, RG_56, RP_56, RG_57, RP_57, RN_58, Rld_58, Rst_58, RN_59, Rld_59, Rst_59, RN_60, Rld_60, Rst_60, RG_61, RP_61, RG_62, RP_62, RG_63, RP_63, RG_64, RP_64, RG_65, RP_65, RG_66, RP_66, RG_67, RP_67, RG_68, RP_68, RG_69, RP_69, RG_70, RP_70, RG_71, RP_71, RN_72, Rld_72, Rst_72, RN_73, Rld_73, Rst_73, RN_74, Rld_74, Rst_74, RN_75, Rld_75, Rst_75, RN_76, Rld_76, Rst_76, RN_77, Rld_77, Rst_77, RN_78, Rld_78, Rst_78, RN_79, Rld_79, Rst_79, RN_80, Rld_80, Rst_80, RN_81, Rld_81, Rst_81, RN_82, Rld_82, Rst_82, RN_83, Rld_83, Rst_83, RN_84, Rld_84, Rst_84, RN_85, Rld_85, Rst_85, RN_86, Rld_86, Rst_86, RG_87, RP_87, RG_88, RP_88, RG_89, RP_89, RG_90, RP_90, RG_91, RP_91, RG_92, RP_92, RG_93, RP_93, RN_94, Rld_94, Rst_94, RN_95, Rld_95, Rst_95, RG_96, RP_96, RN_97, Rld_97, Rst_97, RN_98, Rld_98, Rst_98, RN_99, Rld_99, Rst_99, RN_100, Rld_100, Rst_100, RG_101, RP_101, RN_102, Rld_102, Rst_102, RN_103, Rld_103, Rst_103, RN_104, Rld_104, Rst_104, RG_105, RP_105, Option.bind_some, h56, a58, a59, a13, le_n (show nX < 2147483648 by omega) (show k < 2147483648 by omega), if_neg (show ¬ nX ≤ k by omega), ix_n (show k < 2147483648 by omega), decide_eq_true (show k < 60 by omega), if_true, c32 (show k < 2147483648 by omega), ix_n (show c < 2147483648 by omega), decide_eq_true (show c < 12 by omega), c32 (show c < 2147483648 by omega), suc32]
    by_cases q : ai R 58 k = Int32.ofNat c
    · rw [if_pos q]
      obtain ⟨R2, g1, g2⟩ := r_shwAt (m := m) (ρ := ρ) (t := ai R 59 k) hL hS e1 (by omega)
      rw [c32 (show c < 2147483648 by omega)] at g1
      have a60 : al R2 60 = al R' 60 := g2.al 60 (by decide)
      simp only [g1, Option.bind_some, RisC, RG_0, RP_0, RG_1, RP_1, RN_2, Rld_2, Rst_2, RN_3, Rld_3, Rst_3, RN_4, Rld_4, Rst_4, RG_5, RP_5, RG_6, RP_6, RN_7, Rld_7, Rst_7, RN_8, Rld_8, Rst_8, RN_9, Rld_9, Rst_9, RN_10, Rld_10, Rst_10, RG_11, RP_11, RG_12, RP_12, RN_13, Rld_13, Rst_13, RN_14, Rld_14, Rst_14, RN_15, Rld_15, Rst_15, RN_16, Rld_16, Rst_16, RG_17, RP_17, RG_18, RP_18, RG_19, RP_19, RG_20, RP_20, RG_21, RP_21, RG_22, RP_22, RG_23, RP_23, RG_24, RP_24, RG_25, RP_25, RG_26, RP_26, RG_27, RP_27, RG_28, RP_28, RG_29, RP_29, RG_30, RP_30, RG_31, RP_31, RG_32, RP_32, RN_33, Rld_33, Rst_33, RN_34, Rld_34, Rst_34, RN_35, Rld_35, Rst_35, RN_36, Rld_36, Rst_36, RN_37, Rld_37, Rst_37, RN_38, Rld_38, Rst_38, RN_39, Rld_39, Rst_39, RN_40, Rld_40, Rst_40, RN_41, Rld_41, Rst_41, RN_42, Rld_42, Rst_42, RN_43, Rld_43, Rst_43, RN_44, Rld_44, Rst_44, RN_45, Rld_45, Rst_45, RG_46, RP_46, RG_47, RP_47, RG_48, RP_48, RG_49, RP_49, RN_50, Rld_50, Rst_50, RN_51, Rld_51, Rst_51, RN_52, Rld_52, Rst_52, RN_53, Rld_53, Rst_53, RN_54, Rld_54, Rst_54, RN_55, Rld_55, Rst_55, RG_56, RP_56, RG_57, RP_57, RN_58, Rld_58, Rst_58, RN_59, Rld_59, Rst_59, RN_60, Rld_60, Rst_60, RG_61, RP_61, RG_62, RP_62, RG_63, RP_63, RG_64, RP_64, RG_65, RP_65, RG_66, RP_66, RG_67, RP_67, RG_68, RP_68, RG_69, RP_69, RG_70, RP_70, RG_71, RP_71, RN_72, Rld_72, Rst_72, RN_73, Rld_73, Rst_73, RN_74, Rld_74, Rst_74, RN_75, Rld_75, Rst_75, RN_76, Rld_76, Rst_76, RN_77, Rld_77, Rst_77, RN_78, Rld_78, Rst_78, RN_79, Rld_79, Rst_79, RN_80, Rld_80, Rst_80, RN_81, Rld_81, Rst_81, RN_82, Rld_82, Rst_82, RN_83, Rld_83, Rst_83, RN_84, Rld_84, Rst_84, RN_85, Rld_85, Rst_85, RN_86, Rld_86, Rst_86, RG_87, RP_87, RG_88, RP_88, RG_89, RP_89, RG_90, RP_90, RG_91, RP_91, RG_92, RP_92, RG_93, RP_93, RN_94, Rld_94, Rst_94, RN_95, Rld_95, Rst_95, RG_96, RP_96, RN_97, Rld_97, Rst_97, RN_98, Rld_98, Rst_98, RN_99, Rld_99, Rst_99, RN_100, Rld_100, Rst_100, RG_101, RP_101, RN_102, Rld_102, Rst_102, RN_103, Rld_103, Rst_103, RN_104, Rld_104, Rst_104, RG_105, RP_105, ix_n (show k < 2147483648 by omega), decide_eq_true (show k < 60 by omega), if_true, c32 (show k < 2147483648 by omega), a60]
      have f3 : Fr [60, 92, 93] R' (sal R2 60 (up (al R' 60) k (SH R nL nN nS bl (Int32.ofNat c) (ai R 59 k)))) := (g2.mono (by decide)).sal (by decide) _
      have ev : SH R nL nN nS bl (Int32.ofNat c) (ai R 59 k) = wS R nL nN nS bl k := by unfold wS; rw [q]
      refine ⟨_, ⟨_, rfl, e1.fr f3 (by decide), e2.trans (f3.mono (by decide)), (f3.i 0 (by decide)).trans e3, fun j hj hjc => ?_, fun j hj hjc => ?_⟩, rfl⟩
      · show up (al R' 60) k _ j = _
        unfold up
        by_cases w : j = k
        · rw [if_pos w, w, ev]
        · rw [if_neg w]; exact e4 j (by omega) hjc
      · show up (al R' 60) k _ j = _
        unfold up
        by_cases w : j = k
        · rw [if_pos w, w, ev]
        · rw [if_neg w]; exact e5 j hj hjc
    · rw [if_neg q]
      refine ⟨_, ⟨R', rfl, e1, e2, e3, fun j hj hjc => ?_, e5⟩, rfl⟩
      by_cases w : j = k
      · subst w
        rw [eqc] at q
        exact e5 j hk (by omega)
      · exact e4 j (by omega) hjc
  · rintro K _ ⟨R', rfl, e1, e2, e3, e4, e5⟩
    have h56 : fi R' 56 = Int32.ofNat nX := (e2.i 56 (by decide)).trans x1
    simp only [fbX12_findStamps_17, RG_56, h56, Option.bind_some, Int32.le_refl, if_true, suc32]
    exact ⟨R', rfl, e2, e3, e1.h6, e4⟩
theorem r_findStamps (hL : RLp R nL) (hN : RN R nN) (hS : RSt R nS) (hB : HB m ρ R nN bl) (hC : fi R 11 = Int32.ofNat nC) (h12 : nC ≤ 12) (hX : RXq1 R nC nX) {R0 : Gs} (hF : Fr SC0 R R0) : ∃ R1, fX12_findStamps_0 (eR m ρ R0) m = some (eR m ρ R1) ∧ Fr SC0 R R1 ∧ fi R1 0 = fi R0 0 ∧ (H6 R0 → H6 R1) ∧ ∀ j, j < nX → al R1 60 j = wS R nL nN nS bl j := by
  unfold fX12_findStamps_0 fX12_findStamps_2
  refine lp_q nC (fun c z => ∃ R', z = (eR m ρ R', m, Int32.ofNat c) ∧ Fr SC0 R R' ∧ fi R' 0 = fi R0 0 ∧ (H6 R0 → H6 R') ∧ ∀ j, j < nX → (ai R 58 j).toInt < c → al R' 60 j = wS R nL nN nS bl j) (fun X => ∃ R1, X = some (eR m ρ R1) ∧ Fr SC0 R R1 ∧ fi R1 0 = fi R0 0 ∧ (H6 R0 → H6 R1) ∧ ∀ j, j < nX → al R1 60 j = wS R nL nN nS bl j) ?_ ?_ fu 0 _ (by omega) ⟨R0, rfl, hF, rfl, fun h => h, fun j hj hjc => absurd hjc (by have := (hX.2.2.1 j hj).1.1; omega)⟩ (by unfold fu; omega)
  · rintro K c _ hk ⟨R', rfl, q1, q2, q3, q4⟩
    left
    obtain ⟨R1, nh, p1, p2, p3⟩ := r_find (c := Int32.ofNat c) hL hN hS hB q1
    have a60 : al R1 60 = al R' 60 := p2.al 60 (by decide)
    obtain ⟨R2, s1, s2, s3, s4, s5⟩ := r_fs17 (m := m) (ρ := ρ) hL hS hX h12 hk p3 (q1.trans (p2.mono (by decide))) (fun j hj hjc => by rw [a60]; exact q4 j hj hjc) (fun σ xv0 xv1 => K (σ, xv0, xv1))
    refine ⟨_, ⟨R2, rfl, s2, s3.trans ((p2.i 0 (by decide)).trans q2), fun _ => s4, s5⟩, ?_⟩
    have h11 : fi R' 11 = Int32.ofNat nC := (q1.i 11 (by decide)).trans hC
    simp only [fbX12_findStamps_2, RG_11, h11, Option.bind_some, le_n (show nC < 2147483648 by omega) (show c < 2147483648 by omega), if_neg (show ¬ nC ≤ c by omega), RisC, p1, s1]
  · rintro K _ ⟨R', rfl, q1, q2, q3, q4⟩
    have h11 : fi R' 11 = Int32.ofNat nC := (q1.i 11 (by decide)).trans hC
    simp only [fbX12_findStamps_2, RG_11, h11, Option.bind_some, Int32.le_refl, if_true]
    exact ⟨R', rfl, q1, q2, q3, fun j hj => q4 j hj (hX.2.2.1 j hj).1.2⟩
theorem r_areWrong {R1 : Gs} {S : Nat → Int64} {n : Nat} (hn : n ≤ 60) (h60 : ∀ j, j < n → al R1 60 j = S j) {j k : Nat} (hj : j < n) (hk : k < n) : fX12_areWrong_0 (eR m ρ R1) m (Int32.ofNat j) (Int32.ofNat k) = some (b2i (WP (ai R1 59) S j k)) := by
  unfold fX12_areWrong_0
  simp only [RisC, RG_0, RP_0, RG_1, RP_1, RN_2, Rld_2, Rst_2, RN_3, Rld_3, Rst_3, RN_4, Rld_4, Rst_4, RG_5, RP_5, RG_6, RP_6, RN_7, Rld_7, Rst_7, RN_8, Rld_8, Rst_8, RN_9, Rld_9, Rst_9, RN_10, Rld_10, Rst_10, RG_11, RP_11, RG_12, RP_12, RN_13, Rld_13, Rst_13, RN_14, Rld_14, Rst_14, RN_15, Rld_15, Rst_15, RN_16, Rld_16, Rst_16, RG_17, RP_17, RG_18, RP_18, RG_19, RP_19, RG_20, RP_20, RG_21, RP_21, RG_22, RP_22, RG_23, RP_23, RG_24, RP_24, RG_25, RP_25, RG_26, RP_26, RG_27, RP_27, RG_28, RP_28, RG_29, RP_29, RG_30, RP_30, RG_31, RP_31, RG_32, RP_32, RN_33, Rld_33, Rst_33, RN_34, Rld_34, Rst_34, RN_35, Rld_35, Rst_35, RN_36, Rld_36, Rst_36, RN_37, Rld_37, Rst_37, RN_38, Rld_38, Rst_38, RN_39, Rld_39, Rst_39, RN_40, Rld_40, Rst_40, RN_41, Rld_41, Rst_41, RN_42, Rld_42, Rst_42, RN_43, Rld_43, Rst_43, RN_44, Rld_44, Rst_44, RN_45, Rld_45, Rst_45, RG_46, RP_46, RG_47, RP_47, RG_48, RP_48, RG_49, RP_49, RN_50, Rld_50, Rst_50, RN_51, Rld_51, Rst_51, RN_52, Rld_52, Rst_52, RN_53, Rld_53, Rst_53, RN_54, Rld_54, Rst_54, RN_55, Rld_55, Rst_55, RG_56, RP_56, RG_57, RP_57, RN_58, Rld_58, Rst_58, RN_59, Rld_59, Rst_59, RN_60, Rld_60, Rst_60, RG_61, RP_61, RG_62, RP_62, RG_63, RP_63, RG_64, RP_64, RG_65, RP_65, RG_66, RP_66, RG_67, RP_67, RG_68, RP_68, RG_69, RP_69, RG_70, RP_70, RG_71, RP_71, RN_72, Rld_72, Rst_72, RN_73, Rld_73, Rst_73, RN_74, Rld_74, Rst_74, RN_75, Rld_75, Rst_75, RN_76, Rld_76, Rst_76, RN_77, Rld_77, Rst_77, RN_78, Rld_78, Rst_78, RN_79, Rld_79, Rst_79, RN_80, Rld_80, Rst_80, RN_81, Rld_81, Rst_81, RN_82, Rld_82, Rst_82, RN_83, Rld_83, Rst_83, RN_84, Rld_84, Rst_84, RN_85, Rld_85, Rst_85, RN_86, Rld_86, Rst_86, RG_87, RP_87, RG_88, RP_88, RG_89, RP_89, RG_90, RP_90, RG_91, RP_91, RG_92, RP_92, RG_93, RP_93, RN_94, Rld_94, Rst_94, RN_95, Rld_95, Rst_95, RG_96, RP_96, RN_97, Rld_97, Rst_97, RN_98, Rld_98, Rst_98, RN_99, Rld_99, Rst_99, RN_100, Rld_100, Rst_100, RG_101, RP_101, RN_102, Rld_102, Rst_102, RN_103, Rld_103, Rst_103, RN_104, Rld_104, Rst_104, RG_105, RP_105, Option.bind_some, ix_n (show j < 2147483648 by omega), ix_n (show k < 2147483648 by omega), decide_eq_true (show j < 60 by omega), decide_eq_true (show k < 60 by omega), if_true, c32 (show j < 2147483648 by omega), c32 (show k < 2147483648 by omega), h60 j hj, h60 k hk, le32, lt64, bb_0, bb_1]
  unfold b2i
  (repeat' split) <;> first | rfl | omega
theorem r_w28 {R1 : Gs} {S : Nat → Int64} {n : Nat} (hn : n ≤ 60) (h56 : fi R1 56 = Int32.ofNat n) (h60 : ∀ j, j < n → al R1 60 j = S j) {j : Nat} (hj : j < n) (a : Nat) (k18 : Hs → Nat → Int32 → Int32 → Option (Int32 × Hs)) : fX12_wrong_28 k18 (eR m ρ R1) m (Int32.ofNat a) (Int32.ofNat j) 0 = k18 (eR m ρ R1) m (Int32.ofNat (a + cnt (fun k => wB (ai R1 59) S j k) n)) (Int32.ofNat (j + 1)) := by
  unfold fX12_wrong_28
  refine lp_q n (fun k z => z = (eR m ρ R1, m, Int32.ofNat (a + cnt (fun k => wB (ai R1 59) S j k) k), Int32.ofNat j, Int32.ofNat k)) (fun X => X = k18 (eR m ρ R1) m (Int32.ofNat (a + cnt (fun k => wB (ai R1 59) S j k) n)) (Int32.ofNat (j + 1))) ?_ ?_ fu 0 _ (by omega) rfl (by unfold fu; omega)
  · rintro K k _ hk rfl
    left
    refine ⟨_, rfl, ?_⟩
    simp only [fbX12_wrong_28, RG_56, h56, RisC, r_areWrong hn h60 hj hk, Option.bind_some, le_n (show n < 2147483648 by omega) (show k < 2147483648 by omega), if_neg (show ¬ n ≤ k by omega), b2i_0, suc32, Int32.add_zero]
    show _ = K (eR m ρ R1, m, Int32.ofNat (a + (cnt (fun k => wB (ai R1 59) S j k) k + if wB (ai R1 59) S j k = true then 1 else 0)), Int32.ofNat j, Int32.ofNat (k + 1))
    unfold wB
    by_cases c : WP (ai R1 59) S j k
    · rw [if_neg (show ¬ ¬ WP (ai R1 59) S j k from fun q => q c), if_pos (decide_eq_true c)]; rfl
    · rw [if_pos (show ¬ WP (ai R1 59) S j k from c), if_neg (by rw [decide_eq_false c]; decide)]; rfl
  · rintro K _ rfl
    simp only [fbX12_wrong_28, RG_56, h56, Option.bind_some, Int32.le_refl, if_true, suc32]
theorem r_wrong (hL : RLp R nL) (hN : RN R nN) (hS : RSt R nS) (hB : HB m ρ R nN bl) (hC : fi R 11 = Int32.ofNat nC) (h12 : nC ≤ 12) (hX : RXq1 R nC nX) : QI m ρ R 0 (Int32.ofNat (wN (ai R 59) (wS R nL nN nS bl) nX)) R (fX12_wrong_0 (eR m ρ R) m) := by
  unfold fX12_wrong_0
  obtain ⟨R1, e1, e2, e3, e4, e5⟩ := r_findStamps hL hN hS hB hC h12 hX (fr1 R)
  obtain ⟨x1, x2, x3, x4⟩ := hX
  simp only [RP_1, RP_0, RisC, Option.bind_some, e1]
  have h56 : fi R1 56 = Int32.ofNat nX := (e2.i 56 (by decide)).trans x1
  have a59 : ai R1 59 = ai R 59 := e2.ai 59 (by decide)
  unfold fX12_wrong_18
  refine lp_q nX (fun j z => z = (eR m ρ R1, m, Int32.ofNat (sm (fun j => cnt (fun k => wB (ai R 59) (wS R nL nN nS bl) j k) nX) j), Int32.ofNat j)) (QI m ρ R 0 (Int32.ofNat (wN (ai R 59) (wS R nL nN nS bl) nX)) R) ?_ ?_ fu 0 _ (by omega) rfl (by unfold fu; omega)
  · rintro K j _ hj rfl
    left
    refine ⟨_, rfl, ?_⟩
    simp only [fbX12_wrong_18, RG_56, h56, Option.bind_some, le_n (show nX < 2147483648 by omega) (show j < 2147483648 by omega), if_neg (show ¬ nX ≤ j by omega), r_w28 x2 h56 e5 hj, a59]
    rfl
  · rintro K _ rfl
    simp only [fbX12_wrong_18, RG_56, h56, Option.bind_some, Int32.le_refl, if_true]
    exact QI.ok rfl (by rw [wN_eq x4]) e3 e2 (fun h => e4 h)
end
