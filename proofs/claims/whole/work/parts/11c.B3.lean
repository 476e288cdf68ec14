theorem lp_up {S R : Type} {F : (S → Option R) → S → Option R} (n : Nat) (I : Nat → S → Prop) (Q : R → Prop)
    (hs : ∀ K k s, k < n → I k s → (∃ s', I (k + 1) s' ∧ F K s = K s') ∨ (∃ r, F K s = some r ∧ Q r)) (he : ∀ K s, I n s → ∃ r, F K s = some r ∧ Q r) :
    ∀ N a s, a ≤ n → I a s → n < N + a → ∃ r, lp F N s = some r ∧ Q r := by
  intro N
  induction N with
  | zero => intro a s h1 _ h2; omega
  | succ N ih =>
    intro a s h1 h2 h3
    show ∃ r, F (lp F N) s = some r ∧ Q r
    rcases Nat.lt_or_ge a n with h | h
    · rcases hs (lp F N) a s h h2 with ⟨s', g1, g2⟩ | g
      · rw [g2]; exact ih (a + 1) s' h g1 (by omega)
      · exact g
    · have : a = n := by omega
      subst this
      exact he _ s h2
def sI : List Int → Int
  | [] => 0
  | x :: t => x + sI t
theorem sI_app (a b : List Int) : sI (a ++ b) = sI a + sI b := by
  induction a with
  | nil => simp [sI]
  | cons x t ih => simp only [List.cons_append, sI, ih]; omega
theorem sI_perm {a b : List Int} (h : a.Perm b) : sI a = sI b := by
  induction h with
  | nil => rfl
  | cons x _ ih => simp only [sI, ih]
  | swap x y l => simp only [sI]; omega
  | trans _ _ h1 h2 => exact h1.trans h2
def lst (n : Nat) (f g : Nat → Int32) : List (Int × Int) := (List.range n).map fun k => ((f k).toInt, (g k).toInt)
theorem lst_succ (n : Nat) (f g : Nat → Int32) : lst (n + 1) f g = lst n f g ++ [((f n).toInt, (g n).toInt)] := by
  unfold lst; rw [List.range_succ, List.map_append]; rfl
theorem lst_congr {n : Nat} {f g f' g' : Nat → Int32} (h : ∀ k, k < n → f k = f' k ∧ g k = g' k) : lst n f g = lst n f' g' := by
  unfold lst; apply List.map_congr_left; intro k hk; rw [(h k (List.mem_range.mp hk)).1, (h k (List.mem_range.mp hk)).2]
def kd (T : List (Int × Int)) (d : Int) : Int := sI (T.map fun p => if p.1 = d then p.2 else 0)
def bs (T : List (Int × Int)) (d : Int) : Int := sI (T.map fun p => if p.1 < d then p.2 else 0)
def bg (T : List (Int × Int)) (d : Int) : Int := 86400 * d + bs T d
theorem bs_app (A B : List (Int × Int)) (d : Int) : bs (A ++ B) d = bs A d + bs B d := by unfold bs; rw [List.map_append, sI_app]
theorem kd_app (A B : List (Int × Int)) (d : Int) : kd (A ++ B) d = kd A d + kd B d := by unfold kd; rw [List.map_append, sI_app]
theorem bs_perm {A B : List (Int × Int)} (h : A.Perm B) (d : Int) : bs A d = bs B d := sI_perm (h.map _)
theorem kd_perm {A B : List (Int × Int)} (h : A.Perm B) (d : Int) : kd A d = kd B d := sI_perm (h.map _)
theorem bg_perm {A B : List (Int × Int)} (h : A.Perm B) (d : Int) : bg A d = bg B d := by unfold bg; rw [bs_perm h]
theorem bs_one (x y d : Int) : bs [(x, y)] d = if x < d then y else 0 := by simp [bs, sI]
theorem kd_one (x y d : Int) : kd [(x, y)] d = if x = d then y else 0 := by simp [kd, sI]
theorem bs_next (T : List (Int × Int)) (d : Int) : bs T (d + 1) = bs T d + kd T d := by
  induction T with
  | nil => rfl
  | cons p t ih =>
    have e1 : ∀ x, bs (p :: t) x = (if p.1 < x then p.2 else 0) + bs t x := fun x => rfl
    have e2 : kd (p :: t) d = (if p.1 = d then p.2 else 0) + kd t d := rfl
    rw [e1, e1, e2, ih]
    by_cases h1 : p.1 < d
    · rw [if_pos (by omega), if_pos h1, if_neg (by omega)]; omega
    · by_cases h2 : p.1 = d
      · rw [if_pos (by omega), if_neg h1, if_pos h2]; omega
      · rw [if_neg (by omega), if_neg h1, if_neg h2]; omega
theorem bg_next (T : List (Int × Int)) (d : Int) : bg T (d + 1) = bg T d + 86400 + kd T d := by unfold bg; rw [bs_next]; omega
theorem lst_len (n : Nat) (f g : Nat → Int32) : (lst n f g).length = n := by simp [lst]
theorem bs_bd (n : Nat) (f g : Nat → Int32) (d : Int) : -2147483648 * n ≤ bs (lst n f g) d ∧ bs (lst n f g) d ≤ 2147483648 * n := by
  induction n with
  | zero => simp [lst, bs, sI]
  | succ n ih =>
    rw [lst_succ, bs_app, bs_one]
    have := r32 (g n)
    split <;> omega
theorem r_beginOf {m : Nat} {ρ : Hs} {R : Gs} {d : Int32} {n : Nat} (hn : fi R 6 = Int32.ofNat n) (h60 : n ≤ 60) :
    ∃ r, fX12_beginOf_0 (eR m ρ R) m d = some r ∧ r.toInt = bg (lst n (ai R 9) (ai R 10)) d.toInt := by
  unfold fX12_beginOf_0 fX12_beginOf_10
  refine lp_up n (fun k z => ∃ c : Int64, z = (m, d, c, Int32.ofNat k) ∧ c.toInt = bg (lst k (ai R 9) (ai R 10)) d.toInt) _ ?_ ?_ fu 0 _ (by omega) ⟨_, rfl, ?_⟩ (by unfold fu; omega)
  · rintro K k _ hk ⟨c, rfl, hc⟩
    refine Or.inl ?_
    simp only [fbX12_beginOf_10, RisC, RG_0, RP_0, RG_1, RP_1, RN_2, Rld_2, Rst_2, RN_3, Rld_3, Rst_3, RN_4, Rld_4, Rst_4, RG_5, RP_5, RG_6, RP_6, RN_7, Rld_7, Rst_7, RN_8, Rld_8, Rst_8, RN_9, Rld_9, Rst_9, RN_10, Rld_10, Rst_10, RG_11, RP_11, RG_12, RP_12, RN_13, Rld_13, Rst_13, RN_14, Rld_14, Rst_14, RN_15, Rld_15, Rst_15, RN_16, Rld_16, Rst_16, RG_17, RP_17, RG_18, RP_18, RG_19, RP_19, RG_20, RP_20, RG_21, RP_21, RG_22, RP_22, RG_23, RP_23, RG_24, RP_24, RG_25, RP_25, RG_26, RP_26, RG_27, RP_27, RG_28, RP_28, RG_29, RP_29, RG_30, RP_30, RG_31, RP_31, RG_32, RP_32, RN_33, Rld_33, Rst_33, RN_34, Rld_34, Rst_34, RN_35, Rld_35, Rst_35, RN_36, Rld_36, Rst_36, RN_37, Rld_37, Rst_37, RN_38, Rld_38, Rst_38, RN_39, Rld_39, Rst_39, RN_40, Rld_40, Rst_40, RN_41, Rld_41, Rst_41, RN_42, Rld_42, Rst_42, RN_43, Rld_43, Rst_43, RN_44, Rld_44, Rst_44, RN_45, Rld_45, Rst_45, RG_46, RP_46, RG_47, RP_47, RG_48, RP_48, RG_49, RP_49, RN_50, Rld_50, Rst_50, RN_51, Rld_51, Rst_51, RN_52, Rld_52, Rst_52, RN_53, Rld_53, Rst_53, RN_54, Rld_54, Rst_54, RN_55, Rld_55, Rst_55, RG_56, RP_56, RG_57, RP_57, RN_58, Rld_58, Rst_58, RN_59, Rld_59, Rst_59, RN_60, Rld_60, Rst_60, RG_61, RP_61, RG_62, RP_62, RG_63, RP_63, RG_64, RP_64, RG_65, RP_65, RG_66, RP_66, RG_67, RP_67, RG_68, RP_68, RG_69, RP_69, RG_70, RP_70, RG_71, RP_71, RN_72, Rld_72, Rst_72, RN_73, Rld_73, Rst_73, RN_74, Rld_74, Rst_74, RN_75, Rld_75, Rst_75, RN_76, Rld_76, Rst_76, RN_77, Rld_77, Rst_77, RN_78, Rld_78, Rst_78, RN_79, Rld_79, Rst_79, RN_80, Rld_80, Rst_80, RN_81, Rld_81, Rst_81, RN_82, Rld_82, Rst_82, RN_83, Rld_83, Rst_83, RN_84, Rld_84, Rst_84, RN_85, Rld_85, Rst_85, RN_86, Rld_86, Rst_86, RG_87, RP_87, RG_88, RP_88, RG_89, RP_89, RG_90, RP_90, RG_91, RP_91, RG_92, RP_92, RG_93, RP_93, RN_94, Rld_94, Rst_94, RN_95, Rld_95, Rst_95, RG_96, RP_96, RN_97, Rld_97, Rst_97, RN_98, Rld_98, Rst_98, RN_99, Rld_99, Rst_99, RN_100, Rld_100, Rst_100, RG_101, RP_101, RN_102, Rld_102, Rst_102, RN_103, Rld_103, Rst_103, RN_104, Rld_104, Rst_104, RG_105, RP_105, Option.bind_some, hn, le_n (show n < 2147483648 by omega) (show k < 2147483648 by omega), if_neg (show ¬ n ≤ k by omega), ix_n (show k < 2147483648 by omega), decide_eq_true (show k < 60 by omega), if_true, c32 (show k < 2147483648 by omega), suc32]
    have hb := bs_bd k (ai R 9) (ai R 10) d.toInt
    have hd := r32 d
    have hg := r32 (ai R 10 k)
    have he : ∀ x, bg (lst (k + 1) (ai R 9) (ai R 10)) x = bg (lst k (ai R 9) (ai R 10)) x + if (ai R 9 k).toInt < x then (ai R 10 k).toInt else 0 := by
      intro x; unfold bg; rw [lst_succ, bs_app, bs_one]; omega
    unfold bg at hc he
    by_cases hc1 : d ≤ ai R 9 k
    · rw [if_pos hc1]
      refine ⟨_, ⟨_, rfl, ?_⟩, rfl⟩
      rw [le32] at hc1
      unfold bg; rw [he, if_neg (by omega), Int64.add_zero, hc]; omega
    · rw [if_neg hc1]
      refine ⟨_, ⟨_, rfl, ?_⟩, rfl⟩
      rw [le32] at hc1
      unfold bg; rw [he, if_pos (by omega), add64, up64, hc]
      rw [up64, hc]; omega
  · rintro K _ ⟨c, rfl, hc⟩
    simp only [fbX12_beginOf_10, RisC, RG_0, RP_0, RG_1, RP_1, RN_2, Rld_2, Rst_2, RN_3, Rld_3, Rst_3, RN_4, Rld_4, Rst_4, RG_5, RP_5, RG_6, RP_6, RN_7, Rld_7, Rst_7, RN_8, Rld_8, Rst_8, RN_9, Rld_9, Rst_9, RN_10, Rld_10, Rst_10, RG_11, RP_11, RG_12, RP_12, RN_13, Rld_13, Rst_13, RN_14, Rld_14, Rst_14, RN_15, Rld_15, Rst_15, RN_16, Rld_16, Rst_16, RG_17, RP_17, RG_18, RP_18, RG_19, RP_19, RG_20, RP_20, RG_21, RP_21, RG_22, RP_22, RG_23, RP_23, RG_24, RP_24, RG_25, RP_25, RG_26, RP_26, RG_27, RP_27, RG_28, RP_28, RG_29, RP_29, RG_30, RP_30, RG_31, RP_31, RG_32, RP_32, RN_33, Rld_33, Rst_33, RN_34, Rld_34, Rst_34, RN_35, Rld_35, Rst_35, RN_36, Rld_36, Rst_36, RN_37, Rld_37, Rst_37, RN_38, Rld_38, Rst_38, RN_39, Rld_39, Rst_39, RN_40, Rld_40, Rst_40, RN_41, Rld_41, Rst_41, RN_42, Rld_42, Rst_42, RN_43, Rld_43, Rst_43, RN_44, Rld_44, Rst_44, RN_45, Rld_45, Rst_45, RG_46, RP_46, RG_47, RP_47, RG_48, RP_48, RG_49, RP_49, RN_50, Rld_50, Rst_50, RN_51, Rld_51, Rst_51, RN_52, Rld_52, Rst_52, RN_53, Rld_53, Rst_53, RN_54, Rld_54, Rst_54, RN_55, Rld_55, Rst_55, RG_56, RP_56, RG_57, RP_57, RN_58, Rld_58, Rst_58, RN_59, Rld_59, Rst_59, RN_60, Rld_60, Rst_60, RG_61, RP_61, RG_62, RP_62, RG_63, RP_63, RG_64, RP_64, RG_65, RP_65, RG_66, RP_66, RG_67, RP_67, RG_68, RP_68, RG_69, RP_69, RG_70, RP_70, RG_71, RP_71, RN_72, Rld_72, Rst_72, RN_73, Rld_73, Rst_73, RN_74, Rld_74, Rst_74, RN_75, Rld_75, Rst_75, RN_76, Rld_76, Rst_76, RN_77, Rld_77, Rst_77, RN_78, Rld_78, Rst_78, RN_79, Rld_79, Rst_79, RN_80, Rld_80, Rst_80, RN_81, Rld_81, Rst_81, RN_82, Rld_82, Rst_82, RN_83, Rld_83, Rst_83, RN_84, Rld_84, Rst_84, RN_85, Rld_85, Rst_85, RN_86, Rld_86, Rst_86, RG_87, RP_87, RG_88, RP_88, RG_89, RP_89, RG_90, RP_90, RG_91, RP_91, RG_92, RP_92, RG_93, RP_93, RN_94, Rld_94, Rst_94, RN_95, Rld_95, Rst_95, RG_96, RP_96, RN_97, Rld_97, Rst_97, RN_98, Rld_98, Rst_98, RN_99, Rld_99, Rst_99, RN_100, Rld_100, Rst_100, RG_101, RP_101, RN_102, Rld_102, Rst_102, RN_103, Rld_103, Rst_103, RN_104, Rld_104, Rst_104, RG_105, RP_105, Option.bind_some, hn, Int32.le_refl, if_true]
    exact ⟨_, rfl, hc⟩
  · rw [mul64, up64]
    · simp [bg, bs, lst, sI]
    · rw [up64]; have := r32 d; show _ ≤ 86400 * _ ∧ 86400 * _ < _; omega
