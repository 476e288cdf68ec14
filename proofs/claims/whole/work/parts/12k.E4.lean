theorem RW_0 : RW R0 := by
  refine ⟨⟨rfl, by decide, by decide, fun i hi => absurd hi (Nat.not_lt_zero _), fun i j hi => absurd hi (Nat.not_lt_zero _)⟩, ⟨rfl, by decide, fun i hi => absurd hi (Nat.not_lt_zero _)⟩, ⟨rfl, by decide, fun i hi => absurd hi (Nat.not_lt_zero _)⟩, ⟨rfl, by decide, fun i hi => absurd hi (Nat.not_lt_zero _), fun i hi => absurd hi (Nat.not_lt_zero _)⟩, ⟨rfl, by decide⟩, ⟨fun i hi => absurd hi (Nat.not_lt_zero _), rfl⟩, ⟨⟨rfl, fun i hi => absurd hi (Nat.not_lt_zero _)⟩, by decide⟩, ⟨rfl, by decide, fun i hi => absurd hi (Nat.not_lt_zero _), fun i j _ hj => absurd hj (Nat.not_lt_zero _), rfl⟩, ⟨0, by decide, rfl⟩, ⟨?_, ?_⟩, ?_, ⟨0, by decide, rfl, fun k hk => absurd hk (Nat.not_lt_zero _)⟩, (show -1 ≤ (fi R0 91).toInt ∧ (fi R0 91).toInt ≤ 31 by decide)⟩
  · intro t ht
    have e : ai R0 3 t = -1 := if_pos ht
    rw [e]; decide
  · intro t ht h
    have e : ai R0 3 t = -1 := if_pos ht
    rw [e] at h; exact absurd h (by decide)
  · intro l _
    have e4 : ai R0 84 l = 0 := rfl
    have e5 : ai R0 85 l = 0 := rfl
    have e6 : ai R0 86 l = 0 := rfl
    rw [e4, e5, e6]; decide
theorem PLs_0 {x : Nat} {own : Nat → Nat} {σ : Hs} {l : Nat} {el : Nat → Nat} (h : AJ (x + 7 + l) (sfr (g0 (fun _ => 0)) 1 (some (σ.2.2 0))) σ) : PLs x own σ l 0 el := ⟨_, h, rfl, Or.inl ⟨rfl, rfl⟩⟩
theorem start_ok (P : Par) (σ : Hs) (hO : Ol σ) : ∃ s2 s4, fX11_init_0 (nwO 13 tyX11 σ) σ.1 = some s2 ∧ fX12_init_0 (nwO 14 tyX12 s2) s2.1 = some s4 ∧ s2.1 = σ.1 + 20 ∧ eR (σ.1 + 20) s4 R0 = s4 ∧ s4.1 = σ.1 + 78 ∧ XW P σ.1 (fun _ => 0) s4 R0 0 := by
  obtain ⟨s2, a1, a2, a3, a4, a5, a6, a7, a8, a9⟩ := init11 σ
  obtain ⟨s4, b1, b2, b3, b4, b5⟩ := init12 s2
  refine ⟨s2, s4, a1, b1, a2, by rw [← a2]; exact b5, by omega, ?_⟩
  have hk : ∀ a, a < σ.1 + 20 → s4.2.1 a = s2.2.1 a := fun a ha => b4 a (by omega)
  have hst : s4.2.2 = σ.2.2 := b3.trans a3
  have hold : ∀ a, a < σ.1 → s4.2.1 a = σ.2.1 a := fun a ha => (hk a (by omega)).trans (a4 a ha)
  have hJ : ∀ l, l < 5 → AJ (σ.1 + 7 + l) (sfr (g0 (fun _ => 0)) 1 (some (s4.2.2 0))) s4 := fun l hl => by
    rw [hst]; exact AJ_fr (a7 l hl) (fun a ha => hk a (by omega))
  obtain ⟨o1, vS, ad, o2, o3, o4, o5⟩ := hO
  have hlt : ∀ a c, σ.2.1 a = c → c ≠ ce_no → a < σ.1 := fun a c h1 h2 => by
    rcases Nat.lt_or_ge a σ.1 with q | q
    · exact q
    · exact absurd (h1.symm.trans (o1 a q)) h2
  have hne : ∀ (t : Nat) (F : Nat → Value), t ≠ 999 → (Sum.inr (t, F) : Ce) ≠ ce_no := by
    intro t F ht e
    unfold ce_no at e
    have := congrArg Prod.fst (Sum.inr.inj e)
    exact ht this
  have hPO : PO σ.1 s4 := by
    refine ⟨vS, ad, ?_, ?_, fun i hi => ?_, fun i hi => ?_⟩
    · have hl := hlt _ _ o2 (hne _ _ (by decide))
      rw [hst, hold _ hl]; exact ⟨hl, o2⟩
    · have hl := hlt _ _ o3 (hne _ _ (by decide))
      rw [hst, hold _ hl]; exact ⟨hl, o3⟩
    · obtain ⟨p1, p2⟩ := o4 i hi
      have hl := hlt _ _ p1 (hne _ _ (by omega))
      have hl2 := hlt _ _ p2 (hne _ _ (by omega))
      rw [hst, hold _ hl, hold _ hl2]; exact ⟨⟨hl, p1⟩, hl2, p2⟩
    · have p1 := o5 i hi
      have hl := hlt _ _ p1 (hne _ _ (by omega))
      rw [hold _ hl]; exact ⟨hl, p1⟩
  have q1 : nL R0 = 0 := rfl
  have q2 : nC R0 = 0 := rfl
  have q3 : nS R0 = 0 := rfl
  have q4 : nT R0 = 0 := rfl
  have q5 : nV R0 = 0 := rfl
  have q6 : nN R0 = 0 := rfl
  have q7 : nX R0 = 0 := rfl
  have hz : ∀ {p : Prop} {i : Nat}, i < 0 → p := fun h => absurd h (Nat.not_lt_zero _)
  refine ⟨sar GX 17 (fun l => if l < 4 then some (σ.1 + 16 + l) else none), g0 (fun _ => 20), fun _ => 0, fun _ => 0, fun _ => 0, fun _ => 0, fun _ => 0, ?_⟩
  unfold XWg
  rw [q1, q2, q3, q4, q5, q6, q7]
  refine ⟨by omega, hPO, ⟨A11_fr a5 (fun a ha => hk a (by omega)), rfl, rfl, rfl, rfl, rfl, rfl, ⟨rfl, rfl, rfl⟩, Or.inl rfl, fun i hi => ?_⟩, fun t ht => Or.inl ⟨rfl, ?_⟩, ⟨A9_fr a6 (fun a ha => hk a (by omega)), ⟨⟨rfl, by decide, by decide, ⟨rfl, rfl, rfl⟩, fun i j _ hj => hz hj, fun i hi => hz hi, fun i hi => hz hi⟩, fun i hi => hz hi⟩, fun p q => ⟨fun ⟨i, hi, _⟩ => hz hi, fun ⟨i, hi, _⟩ => hz hi⟩⟩, ⟨PLs_0 (hJ 0 (by decide)), fun i hi => hz hi⟩, ⟨PLs_0 (hJ 1 (by decide)), fun i hi => hz hi⟩, ⟨PLs_0 (hJ 2 (by decide)), fun i hi => hz hi⟩, ⟨PLs_0 (hJ 3 (by decide)), fun i hi => hz hi⟩, ⟨PLs_0 (hJ 4 (by decide)), fun i hi => hz hi⟩, Or.inl ⟨rfl, by decide⟩, ⟨_, A7_fr a8 (fun a ha => hk a (by omega)), ⟨rfl, rfl⟩, Or.inl ⟨rfl, by decide⟩, fun _ => rfl, fun h => absurd h (by decide)⟩, Or.inl ⟨rfl, rfl⟩, fun l hl => ⟨σ.1 + 16 + l, _, if_pos hl, A2_fr (a9 l hl) (fun a ha => hk a (by omega)), ⟨?_, by omega⟩, rfl, rfl, rfl⟩⟩
  · have e : (fi R0 17).toInt = 0 := rfl
    rw [e] at hi; omega
  · have e : ai R0 3 t = -1 := if_pos ht
    rw [e]; decide
  · rw [show σ.1 + 16 + l = σ.1 + (16 + l) by omega, tg_st (by omega)]
    match l, hl with
    | 0, _ => rfl
    | 1, _ => rfl
    | 2, _ => rfl
    | 3, _ => rfl
    | l + 4, h => exact absurd h (Nat.not_lt.mpr (Nat.le_add_left _ _))
