def WS : List Nat := 2 :: ((List.range 12).map (fun i => 20 + i) ++ ((List.range 60).map (fun i => 100 + i) ++ (List.range 4).map (fun i => 300 + i)))
theorem mem_WS {k : Nat} : k ∈ WS ↔ k = 2 ∨ (20 ≤ k ∧ k < 32) ∨ (100 ≤ k ∧ k < 160) ∨ (300 ≤ k ∧ k < 304) := by
  unfold WS
  simp only [List.mem_cons, List.mem_append, List.mem_map, List.mem_range]
  constructor
  · rintro (h | ⟨i, h, rfl⟩ | ⟨i, h, rfl⟩ | ⟨i, h, rfl⟩) <;> omega
  · rintro (h | h | h | h)
    · exact Or.inl h
    · exact Or.inr (Or.inl ⟨k - 20, by omega, by omega⟩)
    · exact Or.inr (Or.inr (Or.inl ⟨k - 100, by omega, by omega⟩))
    · exact Or.inr (Or.inr (Or.inr ⟨k - 300, by omega, by omega⟩))
theorem nin_WS {k : Nat} (h : ¬ (k = 2 ∨ (20 ≤ k ∧ k < 32) ∨ (100 ≤ k ∧ k < 160) ∨ (300 ≤ k ∧ k < 304))) : k ∉ WS := fun q => h (mem_WS.mp q)
def WB : List Nat := [2, 300, 301, 302, 303]
section
variable (x : Nat) (own : Nat → Nat) (σ : Hs) (R : Gs)
def PCz (nS : Nat) (Z : Gs → Gs → Nat → Prop) (i c : Nat) : Prop := ∃ G T nt, A1 c G σ ∧ A9 (c + 1) T σ ∧ ((∀ j, j < 7 → tg x own (c + j) = 20 + i) ∧ c + 7 ≤ σ.1) ∧ (fi G 0 = ai R 13 i ∧ ln G 2 = 60 ∧ ln G 3 = 60 ∧ fi G 4 = Int32.ofNat (stN (ai R 14) (Int32.ofNat i) nS)) ∧ (∀ j, j < stN (ai R 14) (Int32.ofNat i) nS → ai G 2 j = stA (ai R 14) (ai R 15) (Int32.ofNat i) nS j) ∧ TV T 60 nt ∧ Z G T nt
def PNz (Z : Gs → Prop) (i a : Nat) : Prop := ∃ G, A3 a G σ ∧ (tg x own a = 100 + i ∧ a < σ.1) ∧ (fi G 0 = ai R 51 i ∧ fi G 1 = ai R 52 i ∧ fi G 2 = ai R 53 i ∧ fi G 3 = ai R 54 i ∧ fi G 4 = ai R 55 i) ∧ Z G
end
section
variable {x : Nat} {own : Nat → Nat} {σ σ' : Hs} {R : Gs} {W : List Nat}
theorem PCz.fr {nS i c : Nat} {Z : Gs → Gs → Nat → Prop} (h : PCz x own σ R nS Z i c) (hC : Chg x own W σ σ') (hW : 20 + i ∉ W) : PCz x own σ' R nS Z i c := by
  obtain ⟨G, T, nt, h1, h2, ⟨h3, h4⟩, h5⟩ := h
  have hq : ∀ j, j < 7 → σ'.2.1 (c + j) = σ.2.1 (c + j) := fun j hj => hC.2.2 _ (by omega) (by rw [h3 j hj]; exact hW)
  refine ⟨G, T, nt, A1_fr h1 (fun a ha => ?_), A9_fr h2 (fun a ha => ?_), ⟨h3, Nat.le_trans h4 hC.1⟩, h5⟩
  · have : ∃ j, j < 7 ∧ a = c + j := ⟨a - c, by omega, by omega⟩
    obtain ⟨j, j1, rfl⟩ := this
    exact hq j j1
  · have : ∃ j, j < 7 ∧ a = c + j := ⟨a - c, by omega, by omega⟩
    obtain ⟨j, j1, rfl⟩ := this
    exact hq j j1
theorem PCz.mono {nS i c : Nat} {Z Z' : Gs → Gs → Nat → Prop} (h : PCz x own σ R nS Z i c) (hz : ∀ G T nt, TV T 60 nt → Z G T nt → Z' G T nt) : PCz x own σ R nS Z' i c := by
  obtain ⟨G, T, nt, h1, h2, h3, h4, h5, h6, h7⟩ := h
  exact ⟨G, T, nt, h1, h2, h3, h4, h5, h6, hz G T nt h6 h7⟩
theorem PNz.fr {i a : Nat} {Z : Gs → Prop} (h : PNz x own σ R Z i a) (hC : Chg x own W σ σ') (hW : 100 + i ∉ W) : PNz x own σ' R Z i a := by
  obtain ⟨G, h1, ⟨h2, h3⟩, h4⟩ := h
  refine ⟨G, A3_fr h1 (fun b hb => ?_), ⟨h2, Nat.lt_of_lt_of_le h3 hC.1⟩, h4⟩
  rw [hb]; exact hC.2.2 a h3 (by rw [h2]; exact hW)
theorem PNz.mono {i a : Nat} {Z Z' : Gs → Prop} (h : PNz x own σ R Z i a) (hz : ∀ G, Z G → Z' G) : PNz x own σ R Z' i a := by
  obtain ⟨G, h1, h2, h3, h4⟩ := h
  exact ⟨G, h1, h2, h3, hz G h4⟩
end
def Bas (P : Par) (x : Nat) (own : Nat → Nat) (R G : Gs) (eC eV eN eT : Nat → Nat) (s : Hs) (T : Gs) : Prop :=
  x + 78 ≤ s.1 ∧ PO x s ∧ A11 x G s ∧ PTt x s R T (nL R) ∧ (PLs x own s 0 (nC R) eC ∧ ∀ i, i < nC R → PCz x own s R (nS R) (fun _ _ _ => True) i (eC i)) ∧ PV x own s R (nV R) eV ∧ (PLs x own s 2 (nN R) eN ∧ ∀ i, i < nN R → PNz x own s R (fun _ => True) i (eN i)) ∧ PR x own s R P.1 (nT R) eT
def KB (P : Par) (x : Nat) (own : Nat → Nat) (R G : Gs) (eC eV eN eT : Nat → Nat) : Prop := ∀ s T, Bas P x own R G eC eV eN eT s T → ∀ i, i < nN R → ∃ s' T', fX11_isBelieved_0 s x (Int32.ofNat i) = some (b2i (P.2.2 R i = true), s') ∧ s'.1 = s.1 ∧ Chg x own WB s s' ∧ PTt x s' R T' (nL R) ∧ PR x own s' R P.1 (nT R) eT
section
variable {P : Par} {x : Nat} {own : Nat → Nat} {σ : Hs} {R : Gs} {st : Int32} {G : Gs} {eC eV eN eT : Nat → Nat}
def Stl (P : Par) (x : Nat) (own : Nat → Nat) (σ : Hs) (R G : Gs) (eC eV eN eT : Nat → Nat) (Zc : Nat → Gs → Gs → Nat → Prop) (Zn : Nat → Gs → Prop) (s : Hs) : Prop :=
  s.1 = σ.1 ∧ Chg x own WS σ s ∧ A11 x G s ∧ (∃ T, PTt x s R T (nL R)) ∧ (∀ i, i < nC R → PCz x own s R (nS R) (Zc i) i (eC i)) ∧ (∀ i, i < nN R → PNz x own s R (Zn i) i (eN i)) ∧ PR x own s R P.1 (nT R) eT
theorem tg_W {W : List Nat} {a c i j : Nat} (h : ∀ j, j < 7 → tg x own (c + j) = 20 + i) (hj : j < 7) (ha : a = c + j) (hW : 20 + i ∈ W) : tg x own a ∈ W := by rw [ha, h j hj]; exact hW
theorem e9c_chg {W : List Nat} {c i : Nat} (s : Hs) (T : Gs) (h : ∀ j, j < 7 → tg x own (c + j) = 20 + i) (hW : 20 + i ∈ W) : Chg x own W s (e9 (c + 1) s T) := ⟨Nat.le_refl _, rfl, fun a _ hna => e9_out _ _ (fun q => hna (by
  rcases q with q | q | q | q
  · exact tg_W h (j := 1) (by omega) q hW
  · exact tg_W h (j := 2) (by omega) (by omega) hW
  · exact tg_W h (j := 3) (by omega) (by omega) hW
  · exact tg_W h (j := 4) (by omega) (by omega) hW))⟩
theorem s_loop3 (hW : RW R) (h0 : x + 78 ≤ σ.1) (hLC : PLs x own σ 0 (nC R) eC) (bl : Nat → Bool) (s0 : Hs)
    (hs : Stl P x own σ R G eC eV eN eT (fun i G T nt => TW T 60 nt ∧ ∀ p q, mm nt (ai T 0) (ai T 1) p q ↔ mc R (nL R) (nN R) bl (Int32.ofNat i) p q) (fun i G => fi G 5 = b2i (itm R (nL R) i) ∧ fi G 6 = b2i (bl i = true)) s0) :
    ∃ s', fX11_settle_152 s0 x 0 = some (e11 x s' (sfi G 18 0)) ∧ Stl P x own σ R G eC eV eN eT (fun i G T nt => TW T 60 nt ∧ isTab R (nL R) (nN R) bl (Int32.ofNat i) nt (ai T 0) (ai T 1) ∧ ∀ j, j < stN (ai R 14) (Int32.ofNat i) (nS R) → (ai G 3 j).toInt = ldS (tru R (nL R)) (tt T nt) (stA (ai R 14) (ai R 15) (Int32.ofNat i) (nS R) j).toInt) (fun i G => fi G 5 = b2i (itm R (nL R) i) ∧ fi G 6 = b2i (bl i = true)) s' := by
  have h12 := hW.2.2.2.1.2.1
  have hS60 := hW.2.2.1.2.1
  unfold fX11_settle_152
  refine lp_q (nC R) (fun k z => ∃ s, z = (s, x, Int32.ofNat k) ∧ Stl P x own σ R G eC eV eN eT (fun i G T nt => TW T 60 nt ∧ isTab R (nL R) (nN R) bl (Int32.ofNat i) nt (ai T 0) (ai T 1) ∧ (i < k → ∀ j, j < stN (ai R 14) (Int32.ofNat i) (nS R) → (ai G 3 j).toInt = ldS (tru R (nL R)) (tt T nt) (stA (ai R 14) (ai R 15) (Int32.ofNat i) (nS R) j).toInt)) (fun i G => fi G 5 = b2i (itm R (nL R) i) ∧ fi G 6 = b2i (bl i = true)) s) (fun X => ∃ s', X = some (e11 x s' (sfi G 18 0)) ∧ Stl P x own σ R G eC eV eN eT (fun i G T nt => TW T 60 nt ∧ isTab R (nL R) (nN R) bl (Int32.ofNat i) nt (ai T 0) (ai T 1) ∧ ∀ j, j < stN (ai R 14) (Int32.ofNat i) (nS R) → (ai G 3 j).toInt = ldS (tru R (nL R)) (tt T nt) (stA (ai R 14) (ai R 15) (Int32.ofNat i) (nS R) j).toInt) (fun i G => fi G 5 = b2i (itm R (nL R) i) ∧ fi G 6 = b2i (bl i = true)) s') ?_ ?_ fu 0 _ (by omega) ?_ (by unfold fu; omega)
  · rintro K k _ hk ⟨s, rfl, q1, q2, q3, ⟨T, q4⟩, q5, q6, q7⟩
    left
    have hLs : PLs x own s 0 (nC R) eC := hLC.fr (by omega) h0 (fun _ _ => rfl) q2 (nin_WS (by omega)) (nin_WS (by omega))
    have c1 : isC s (x + 7) 1 = some () := xJ_C hLs
    have c2 : fJx4a65c_size_8abf5_0 s (x + 7) = some (Int32.ofNat (nC R)) := xJ_size hLs
    have c3 : fJx4a65c_get_915e3_0 s (x + 7) (Int32.ofNat k) = some (some (eC k)) := xJ_get hLs hk
    obtain ⟨Gc, Tc, nt, y1, y2, ⟨y3, y4⟩, ⟨y5, y6, y7, y8⟩, y9, y10, y11, y12, y13⟩ := q5 k hk
    have hsl := stN_le (ai R 14) (Int32.ofNat k) (nS R)
    have hrng := stA_P (C := ai R 14) (A := ai R 15) (c := Int32.ofNat k) (fun a => 0 ≤ a.toInt ∧ a.toInt ≤ 900000000) (nS R) hW.2.2.1.2.2
    have hcx : eC k + 7 ≤ x ∨ x + 78 ≤ eC k ∨ (x ≤ eC k + 6 ∧ eC k < x + 78) := by omega
    have hdis : (x + 3) + 4 ≤ eC k ∨ eC k + 7 ≤ x + 3 := by
      rcases Nat.lt_or_ge (eC k) (x + 7) with r | r
      · rcases Nat.lt_or_ge (eC k + 6) (x + 3) with r2 | r2
        · right; omega
        · -- one of its addresses would be truth's
          exfalso
          have : ∃ j, j < 7 ∧ (eC k + j = x + 3 ∨ eC k + j = x + 3 + 1 ∨ eC k + j = x + 3 + 2 ∨ eC k + j = x + 3 + 3) := by
            rcases Nat.lt_or_ge (eC k) (x + 3) with r3 | r3
            · exact ⟨x + 3 - eC k, by omega, by omega⟩
            · exact ⟨0, by omega, by omega⟩
          obtain ⟨j, j1, j2⟩ := this
          have := y3 j j1
          rw [tg_t j2] at this; omega
      · left; omega
    obtain ⟨s', G', T', a1, a2, a3, a4, a5, a6, a7, a8⟩ := x1_reckonSteps (b := x + 3) (c := eC k) y1 y2 q4.1 y10 q4.2.1 y8 (by omega) y6 y7 (fun i hi => by rw [y9 i hi]; exact hrng i hi) hdis
    have hC' : Chg x own WS s s' := a7.chg (fun a ha => by
      rcases ha with (r | r | r) | r
      · exact tg_W y3 (j := 0) (by omega) r (mem_WS.mpr (by omega))
      · exact tg_W y3 (j := 5) (by omega) r (mem_WS.mpr (by omega))
      · exact tg_W y3 (j := 6) (by omega) r (mem_WS.mpr (by omega))
      · rw [tg_t r]; exact mem_WS.mpr (Or.inl rfl))
    have hCk : Chg x own [2, 20 + k] s s' := a7.chg (fun a ha => by
      rcases ha with (r | r | r) | r
      · exact tg_W y3 (j := 0) (by omega) r (List.mem_cons_of_mem _ List.mem_cons_self)
      · exact tg_W y3 (j := 5) (by omega) r (List.mem_cons_of_mem _ List.mem_cons_self)
      · exact tg_W y3 (j := 6) (by omega) r (List.mem_cons_of_mem _ List.mem_cons_self)
      · rw [tg_t r]; exact List.mem_cons_self)
    have hnk : ∀ {q : Nat}, q ≠ 2 → q ≠ 20 + k → q ∉ [2, 20 + k] := by
      intro q r1 r2 r; simp only [List.mem_cons, List.not_mem_nil, or_false] at r; omega
    have hlt : ¬ Int32.ofNat (nC R) ≤ Int32.ofNat k := by rw [le_n (by omega) (by omega)]; omega
    simp only [fbX11_settle_152, z11_g7 q3, c1, c2, c3, Option.bind_some, if_neg hlt, z1_C y1, z11_g6 q3, a1, suc32]
    have hp : (tru R (nL R)).Perm (tt T (nL R)) := tru_perm hW q4
    obtain ⟨tv1, tv2⟩ := a6.tv q4.2.1
    refine ⟨_, ⟨s', rfl, a7.1.trans q1, q2.trans hC', A11_fr q3 (fun a ha => hCk.2.2 a (by omega) (by rw [tg_x ha]; exact hnk (by omega) (by omega))), ⟨T', a3, tv1, ?_⟩, fun i hi => ?_, fun i hi => (q6 i hi).fr hCk (hnk (by omega) (by omega)), ?_⟩, rfl⟩
    · rw [a6.ai 0 (by decide), a6.ai 1 (by decide)]; exact q4.2.2
    · by_cases hik : i = k
      · subst hik
        refine ⟨G', Tc, nt, a2, A9_fr y2 (fun a ha => a7.2.2 a (by omega)), ⟨y3, Nat.le_trans y4 hC'.1⟩, ⟨?_, by rw [a5]; exact y6, by rw [a5]; exact y7, ?_⟩, ?_, y10, y11, y12, fun _ j hj => ?_⟩
        · rw [a4.i 0 (by decide)]; exact y5
        · rw [a4.i 4 (by decide)]; exact y8
        · rw [a4.ai 2 (by decide)]; exact y9
        · rw [a8 j hj, y9 j hj, ldS_perm hp (List.Perm.refl _)]
      · refine ((q5 i hi).fr hCk (hnk (by omega) (by omega))).mono (fun G T nt _ hz => ⟨hz.1, hz.2.1, fun hlt => hz.2.2 (by omega)⟩)
    · refine q7.fr hW.2.2.2.2.2.2.1.2 (by omega) (fun _ _ => rfl) hCk ⟨hnk (by omega) (by omega), hnk (by omega) (by omega), fun i hi => hnk (by omega) (by omega)⟩ (Fr.refl SCR R) (by decide) (fun _ _ q => q)
  · rintro K _ ⟨s, rfl, q1, q2, q3, q4, q5, q6, q7⟩
    have hLs : PLs x own s 0 (nC R) eC := hLC.fr (by omega) h0 (fun _ _ => rfl) q2 (nin_WS (by omega)) (nin_WS (by omega))
    have c1 : isC s (x + 7) 1 = some () := xJ_C hLs
    have c2 : fJx4a65c_size_8abf5_0 s (x + 7) = some (Int32.ofNat (nC R)) := xJ_size hLs
    simp only [fbX11_settle_152, z11_g7 q3, c1, c2, Option.bind_some, Int32.le_refl, if_true, z11_p18 q3, true_or]
    exact ⟨s, rfl, q1, q2, q3, q4, fun i hi => (q5 i hi).mono (fun G T nt _ hz => ⟨hz.1, hz.2.1, hz.2.2 hi⟩), q6, q7⟩
  · obtain ⟨q1, q2, q3, q4, q5, q6, q7⟩ := hs
    exact ⟨s0, rfl, q1, q2, q3, q4, fun i hi => (q5 i hi).mono (fun G T nt ht hz => ⟨hz.1, ⟨ht.tok, hz.2⟩, fun q => by omega⟩), q6, q7⟩
end
