section
variable {b : Nat} {σ0 : Hs} {m : Nat} {ρ : Hs} {tx : Nat → Int} {n K D : Nat} {nt : Nat → Nat} {G H R : Gs} {a mk rm : Nat}
theorem i7 (h : Lv b tx n K D nt G H R a mk rm) {cnt : Nat} (hc : cnt ≤ a) : ¬ (Int32.ofNat (K + 1) ≤ Int32.ofNat cnt) ∧ fi G 7 = Int32.ofNat (K + 1) := by
  have hKK := h.K500
  exact ⟨by rw [le_n (by omega) (by omega)]; omega, h.1.1.2.2.2.2.1⟩
theorem l_item (hN : NF tx n K D nt) {d : Nat} (hd : d ≤ 8) (hP : PPart b σ0 m ρ tx n K D nt (d + 1)) {j i : Nat} (hj : 10 * (9 - d) + 2 ≤ j) (hi : 10 * (9 - d) + 2 ≤ i) (h : Lv b tx n K D nt G H R a mk rm) : Rs b σ0 m ρ tx n K D nt H R a mk rm (38 - 4 * d) (fun _ => True) (fX6_readItem_0 (GR6 j) (st6 b σ0 G H) (b + 6) (Int32.ofNat d)) (fX12_readItem_0 (GR12a i) (eR m ρ R) m (Int32.ofNat d)) := by
  obtain ⟨j', rfl⟩ : ∃ j', j = j' + 1 := ⟨j - 1, by omega⟩
  obtain ⟨i', rfl⟩ : ∃ i', i = i' + 1 := ⟨i - 1, by omega⟩
  have hop : ∀ G H R a mk rm, Lv b tx n K D nt G H R a mk rm → Rs b σ0 m ρ tx n K D nt H R a mk rm (37 - 4 * d) (fun _ => True) (fX6_readAtom_0 (GR6 j') (st6 b σ0 G H) (b + 6) (Int32.ofNat d)) (fX12_readAtom_0 (GR12a i') (eR m ρ R) m (Int32.ofNat d)) := fun G H R a mk rm h => l_atom hN hd hP (by omega) (by omega) h
  have eA : ∀ s c x, (GR6 (j' + 1)).2.2.2.2.2.1 s c x = fX6_readAtom_0 (GR6 j') s c x := fun s c x => rfl
  have eB : ∀ s c x, (GR12a (i' + 1)).2.2.2.2.2.1 s c x = fX12_readAtom_0 (GR12a i') s c x := fun s c x => rfl
  unfold fX6_readItem_0 fX12_readItem_0
  rw [z6_C st_A6, RisC, Option.bind_some, Option.bind_some, eA, eB]
  rcases hop G H R a mk rm h with ⟨G1, H1, R1, a1, mk1, rm1, f0, x1, y1, l1, ⟨fr1, fr2⟩, ⟨u1, u2, u3⟩, o1, o2, m1, n1, -⟩ | ⟨G1, H1, R1, a1, kd, rm1, x1, y1, dd, ⟨fr1, fr2⟩, u1, u3⟩
  rotate_left
  · rw [x1, y1, Option.bind_some, Option.bind_some, cd_item7 dd.1 dd.h0.1]
    have : fX12_readItem_5 (GR12a (i' + 1)) (eR m ρ R1) m (Int32.ofNat d) = some (eR m ρ R1) := by
      unfold fX12_readItem_5
      show fbX12_readItem_5 _ _ _ _ _ = _
      unfold fbX12_readItem_5
      rw [RG_21, dd.2.2.1, Option.bind_some, if_neg (bdn dd.h0.2).2]
    rw [this]
    exact Rs.dead rfl rfl dd fr1 fr2 u1 u3
  rw [x1, y1, Option.bind_some, Option.bind_some]
  unfold fX6_readItem_7 fX12_readItem_5
  refine Rs_T (l_loop (mk1 := fun s cnt => (s, b + 6, Int32.ofNat d, Int32.ofNat cnt)) (mk2 := fun s => (s, m, Int32.ofNat d)) (N0 := 37 - 4 * d) (by omega) (by omega) (TT := fun _ => True) (W := fun w => w = 5 ∨ w = 6 ∨ w = 7) (cmb := sop) (fX := fun s => fX6_readAtom_0 (GR6 j') s (b + 6) (Int32.ofNat d)) (fR := fun s => fX12_readAtom_0 (GR12a i') s m (Int32.ofNat d)) (fun G H R a mk rm h => Rs_T (hop G H R a mk rm h) (fun _ _ _ => trivial)) (fun w hw => by omega) (fun w hw A B x y l l' _ _ h1 h2 => xcv_ar (by omega) h1 h2 0) (fun w hw A B x y l l' _ _ h1 h2 => rcv_ar (by omega) h1 h2 0) (fun _ _ _ _ _ _ => trivial) ?_ ?_ l1 fr1 fr2 u1 u2 u3 o1 o2 (XM_mono m1 (by omega)) (RM_mono n1 (by omega)) (fun _ => trivial)) (fun _ _ => trivial)
  · intro K1 K2 G H R a mk rm cnt h hc
    obtain ⟨e7, e8⟩ := i7 h hc
    have h0 : fr H 0 = some b := h.2.1.1
    have hB := h.2.2.1.1
    have et : fX6_timesHere_0 (st6 b σ0 G H) (b + 6) = if ¬ (kA false tx n a = 3 ∧ sA tx n a = (42 : Int32).toInt) then (if ¬ (kA false tx n a = 3 ∧ sA tx n a = (47 : Int32).toInt) then (if ¬ (kA false tx n a = 3 ∧ sA tx n a = (37 : Int32).toInt) then some (-1) else some 9) else some 8) else some 7 := by
      unfold fX6_timesHere_0
      simp only [c_g0 h0, z5_C st_A5, x5_isSign st_A5 h.1, Option.bind_some, b2i_0]
    show (∃ w, _ ∧ _ ∧ fbX6_readItem_7 (GR6 (j' + 1)) _ (st6 b σ0 G H) (b + 6) (Int32.ofNat d) (Int32.ofNat cnt) = _ ∧ fbX12_readItem_5 (GR12a (i' + 1)) _ (eR m ρ R) m (Int32.ofNat d) = _) ∨ (fbX6_readItem_7 (GR6 (j' + 1)) _ (st6 b σ0 G H) (b + 6) (Int32.ofNat d) (Int32.ofNat cnt) = _ ∧ fbX12_readItem_5 (GR12a (i' + 1)) _ (eR m ρ R) m (Int32.ofNat d) = _)
    unfold fbX6_readItem_7 fbX12_readItem_5 fX12_readItem_39
    simp only [c_g0 h0, z5_g7 st_A5, e8, if_neg e7, z5_C st_A5, z6_C st_A6, RG_21, hB.2.2, if_true, RisC, rb_sign hB, Option.bind_some, b2i_0, et, suc32, eA, eB]
    by_cases c1 : kA false tx n a = 3 ∧ sA tx n a = (42 : Int32).toInt
    · left
      refine ⟨5, Or.inl rfl, by rw [c1.1]; decide, ?_, ?_⟩
      · simp only [if_neg (show ¬ ¬ (kA false tx n a = 3 ∧ sA tx n a = (42 : Int32).toInt) from fun q => q c1), Option.bind_some, if_neg (show ¬ (7 : Int32) = -1 by decide)]; rfl
      · simp only [if_neg (show ¬ ¬ (kA false tx n a = 3 ∧ sA tx n a = (42 : Int32).toInt) from fun q => q c1)]; rfl
    by_cases c2 : kA false tx n a = 3 ∧ sA tx n a = (47 : Int32).toInt
    · left
      refine ⟨6, Or.inr (Or.inl rfl), by rw [c2.1]; decide, ?_, ?_⟩
      · simp only [if_pos c1, if_neg (show ¬ ¬ (kA false tx n a = 3 ∧ sA tx n a = (47 : Int32).toInt) from fun q => q c2), Option.bind_some, if_neg (show ¬ (8 : Int32) = -1 by decide)]; rfl
      · simp only [if_pos c1, if_neg (show ¬ ¬ (kA false tx n a = 3 ∧ sA tx n a = (47 : Int32).toInt) from fun q => q c2)]; rfl
    by_cases c3 : kA false tx n a = 3 ∧ sA tx n a = (37 : Int32).toInt
    · left
      refine ⟨7, Or.inr (Or.inr rfl), by rw [c3.1]; decide, ?_, ?_⟩
      · simp only [if_pos c1, if_pos c2, if_neg (show ¬ ¬ (kA false tx n a = 3 ∧ sA tx n a = (37 : Int32).toInt) from fun q => q c3), Option.bind_some, if_neg (show ¬ (9 : Int32) = -1 by decide)]; rfl
      · simp only [if_pos c1, if_pos c2, if_neg (show ¬ ¬ (kA false tx n a = 3 ∧ sA tx n a = (37 : Int32).toInt) from fun q => q c3)]; rfl
    · right
      constructor
      · simp only [if_pos c1, if_pos c2, if_pos c3, Option.bind_some, if_true]
      · simp only [if_pos c1, if_pos c2, if_pos c3]
  · intro K1 K2 G H R a kd rm cnt dd
    obtain ⟨d0, d1⟩ := dd.h0
    constructor
    · show fbX6_readItem_7 (GR6 (j' + 1)) _ (st6 b σ0 G H) (b + 6) (Int32.ofNat d) (Int32.ofNat cnt) = _
      unfold fbX6_readItem_7
      simp only [c_g0 d0, z5_g7 st_A5, z6_C st_A6, cd_times dd.1 d0, Option.bind_some, if_true]
      split <;> rfl
    · show fbX12_readItem_5 (GR12a (i' + 1)) _ (eR m ρ R) m (Int32.ofNat d) = _
      unfold fbX12_readItem_5
      rw [RG_21, dd.2.2.1, Option.bind_some, if_neg (bdn d1).2]
theorem l_sm (hN : NF tx n K D nt) {d : Nat} (hd : d ≤ 8) (hP : PPart b σ0 m ρ tx n K D nt (d + 1)) {j i : Nat} (hj : 10 * (9 - d) + 3 ≤ j) (hi : 10 * (9 - d) + 3 ≤ i) (h : Lv b tx n K D nt G H R a mk rm) : Rs b σ0 m ρ tx n K D nt H R a mk rm (39 - 4 * d) (fun _ => True) (fX6_readSum_0 (GR6 j) (st6 b σ0 G H) (b + 6) (Int32.ofNat d)) (fX12_readSum_0 (GR12a i) (eR m ρ R) m (Int32.ofNat d)) := by
  obtain ⟨j', rfl⟩ : ∃ j', j = j' + 1 := ⟨j - 1, by omega⟩
  obtain ⟨i', rfl⟩ : ∃ i', i = i' + 1 := ⟨i - 1, by omega⟩
  have hop : ∀ G H R a mk rm, Lv b tx n K D nt G H R a mk rm → Rs b σ0 m ρ tx n K D nt H R a mk rm (38 - 4 * d) (fun _ => True) (fX6_readItem_0 (GR6 j') (st6 b σ0 G H) (b + 6) (Int32.ofNat d)) (fX12_readItem_0 (GR12a i') (eR m ρ R) m (Int32.ofNat d)) := fun G H R a mk rm h => l_item hN hd hP (by omega) (by omega) h
  have eA : ∀ s c x, (GR6 (j' + 1)).2.2.2.2.1 s c x = fX6_readItem_0 (GR6 j') s c x := fun s c x => rfl
  have eB : ∀ s c x, (GR12a (i' + 1)).2.2.2.2.1 s c x = fX12_readItem_0 (GR12a i') s c x := fun s c x => rfl
  unfold fX6_readSum_0 fX12_readSum_0
  rw [z6_C st_A6, RisC, Option.bind_some, Option.bind_some, eA, eB]
  rcases hop G H R a mk rm h with ⟨G1, H1, R1, a1, mk1, rm1, f0, x1, y1, l1, ⟨fr1, fr2⟩, ⟨u1, u2, u3⟩, o1, o2, m1, n1, -⟩ | ⟨G1, H1, R1, a1, kd, rm1, x1, y1, dd, ⟨fr1, fr2⟩, u1, u3⟩
  rotate_left
  · rw [x1, y1, Option.bind_some, Option.bind_some, cd_sum7 dd.1 dd.h0.1]
    have : fX12_readSum_5 (GR12a (i' + 1)) (eR m ρ R1) m (Int32.ofNat d) = some (eR m ρ R1) := by
      unfold fX12_readSum_5
      show fbX12_readSum_5 _ _ _ _ _ = _
      unfold fbX12_readSum_5
      rw [RG_21, dd.2.2.1, Option.bind_some, if_neg (bdn dd.h0.2).2]
    rw [this]
    exact Rs.dead rfl rfl dd fr1 fr2 u1 u3
  rw [x1, y1, Option.bind_some, Option.bind_some]
  unfold fX6_readSum_7 fX12_readSum_5
  refine Rs_T (l_loop (mk1 := fun s cnt => (s, b + 6, Int32.ofNat d, Int32.ofNat cnt)) (mk2 := fun s => (s, m, Int32.ofNat d)) (N0 := 38 - 4 * d) (by omega) (by omega) (TT := fun _ => True) (W := fun w => w = 3 ∨ w = 4) (cmb := sop) (fX := fun s => fX6_readItem_0 (GR6 j') s (b + 6) (Int32.ofNat d)) (fR := fun s => fX12_readItem_0 (GR12a i') s m (Int32.ofNat d)) (fun G H R a mk rm h => Rs_T (hop G H R a mk rm h) (fun _ _ _ => trivial)) (fun w hw => by omega) (fun w hw A B x y l l' _ _ h1 h2 => xcv_ar (by omega) h1 h2 0) (fun w hw A B x y l l' _ _ h1 h2 => rcv_ar (by omega) h1 h2 0) (fun _ _ _ _ _ _ => trivial) ?_ ?_ l1 fr1 fr2 u1 u2 u3 o1 o2 (XM_mono m1 (by omega)) (RM_mono n1 (by omega)) (fun _ => trivial)) (fun _ _ => trivial)
  · intro K1 K2 G H R a mk rm cnt h hc
    obtain ⟨e7, e8⟩ := i7 h hc
    have h0 : fr H 0 = some b := h.2.1.1
    have hB := h.2.2.1.1
    show (∃ w, _ ∧ _ ∧ fbX6_readSum_7 (GR6 (j' + 1)) _ (st6 b σ0 G H) (b + 6) (Int32.ofNat d) (Int32.ofNat cnt) = _ ∧ fbX12_readSum_5 (GR12a (i' + 1)) _ (eR m ρ R) m (Int32.ofNat d) = _) ∨ (fbX6_readSum_7 (GR6 (j' + 1)) _ (st6 b σ0 G H) (b + 6) (Int32.ofNat d) (Int32.ofNat cnt) = _ ∧ fbX12_readSum_5 (GR12a (i' + 1)) _ (eR m ρ R) m (Int32.ofNat d) = _)
    unfold fbX6_readSum_7 fbX12_readSum_5 fX12_readSum_30 fX6_readSum_42
    simp only [c_g0 h0, z5_g7 st_A5, e8, if_neg e7, z5_C st_A5, z6_C st_A6, RG_21, hB.2.2, if_true, RisC, rb_sign hB, x5_isSign st_A5 h.1, Option.bind_some, b2i_0, suc32, eA, eB]
    by_cases c1 : kA false tx n a = 3 ∧ sA tx n a = (43 : Int32).toInt
    · left
      refine ⟨3, Or.inl rfl, by rw [c1.1]; decide, ?_, ?_⟩
      · simp only [if_neg (show ¬ ¬ (kA false tx n a = 3 ∧ sA tx n a = (43 : Int32).toInt) from fun q => q c1)]; rfl
      · simp only [if_neg (show ¬ ¬ (kA false tx n a = 3 ∧ sA tx n a = (43 : Int32).toInt) from fun q => q c1)]; rfl
    by_cases c2 : kA false tx n a = 3 ∧ sA tx n a = (45 : Int32).toInt
    · left
      refine ⟨4, Or.inr rfl, by rw [c2.1]; decide, ?_, ?_⟩
      · simp only [if_pos c1, if_neg (show ¬ ¬ (kA false tx n a = 3 ∧ sA tx n a = (45 : Int32).toInt) from fun q => q c2)]; rfl
      · simp only [if_pos c1, if_neg (show ¬ ¬ (kA false tx n a = 3 ∧ sA tx n a = (45 : Int32).toInt) from fun q => q c2)]; rfl
    · right
      constructor
      · simp only [if_pos c1, if_pos c2]
      · simp only [if_pos c1, if_pos c2]
  · intro K1 K2 G H R a kd rm cnt dd
    obtain ⟨d0, d1⟩ := dd.h0
    constructor
    · show fbX6_readSum_7 (GR6 (j' + 1)) _ (st6 b σ0 G H) (b + 6) (Int32.ofNat d) (Int32.ofNat cnt) = _
      unfold fbX6_readSum_7
      simp only [c_g0 d0, z5_g7 st_A5, z5_C st_A5, x5d_isSign st_A5 dd.1, Option.bind_some, if_true]
      split <;> rfl
    · show fbX12_readSum_5 (GR12a (i' + 1)) _ (eR m ρ R) m (Int32.ofNat d) = _
      unfold fbX12_readSum_5
      rw [RG_21, dd.2.2.1, Option.bind_some, if_neg (bdn d1).2]
end
