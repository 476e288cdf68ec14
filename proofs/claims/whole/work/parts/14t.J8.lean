section
variable {P : Par} {x : Nat} {own : Nat → Nat} {σ : Hs} {R G : Gs} {st : Int32}
theorem k_newText (hP : P.ok) (hP1 : P.1 = RO) {T : Gs} {eC eV eN eT eS : Nat → Nat} (h : XWg P x own σ R st G T eC eV eN eT eS) (hW : RW R) (h4 : nT R < 4) {s : Hs} (hs : σ.1 + 15 = s.1 ∧ s.2.2 = σ.2.2 ∧ ∀ q, q < σ.1 → s.2.1 q = σ.2.1 q) (hA : A11 x G s) {H : Gs} (hH : A6 (σ.1 + 6) H s) : ∃ s' own', fJx4a65c_add_9ea2d_0 (e11 x s (edG G 0 (-1) 0)) (x + 10) (σ.1 + 6) = some (1, s') ∧ isC (e11 x s (edG G 0 (-1) 0)) (x + 10) 1 = some () ∧ A11 x (edG G 0 (-1) 0) s' ∧ A6 (σ.1 + 6) H (e11 x s' (sfi (edG G 0 (-1) 0) 18 1)) ∧ Kp x σ (e11 x s' (sfi (edG G 0 (-1) 0) 18 1)) ∧ ∀ U, Fr (17 :: 19 :: 20 :: 30 :: 33 :: 34 :: 35 :: 36 :: 39 :: SCR) R U → fi U 17 = 0 → fi U 19 = 0 → fi U 20 = -1 → fi U 30 = Int32.ofNat (nT R + 1) → ai U 33 (nT R) = fi H 1 → (∀ t, t < nT R → ai U 33 t = ai R 33 t) → (∀ t H', t < nT R → RO H' R t → RO H' U t) → RO H U (nT R) → XW P x own' (e11 x s' (sfi (edG G 0 (-1) 0) 18 1)) U 0 := by
  obtain ⟨h0, g1, g2, g3, g4, g5, g6, g7, g8, g9, g10, g11, g12, g13⟩ := h
  obtain ⟨hs1, hs2, hs3⟩ := hs
  have hC0 : ∀ (o : Nat → Nat) (W : List Nat), Chg x o W σ s := fun o W => ⟨by omega, hs2, fun a ha _ => hs3 a ha⟩
  let own1 : Nat → Nat := fun a => if a < σ.1 then own a else 300 + nT R
  have hE1 : Ext own own1 σ.1 := fun a ha => if_pos ha
  have hC1 : Chg x own [1] σ (e11 x s (edG G 0 (-1) 0)) := (hC0 own _).trans (e11_chg s _ (by decide))
  have hl1 : PLs x own1 (e11 x s (edG G 0 (-1) 0)) 3 (nT R) eT := g8.1.fr (by omega) h0 hE1 hC1 (by decide) (by decide)
  have hO1 : PO x (e11 x s (edG G 0 (-1) 0)) := g1.fr h0 hC1 (by decide)
  have hx1 : x + 78 ≤ (e11 x s (edG G 0 (-1) 0)).1 := by show x + 78 ≤ s.1; omega
  have e11s : (e11 x s (edG G 0 (-1) 0)).1 = s.1 := rfl
  have hel : ∀ i, i < nT R → anyO (e11 x s (edG G 0 (-1) 0)) (eT i) = some () ∧ eT i < (e11 x s (edG G 0 (-1) 0)).1 := by
    intro i hi
    obtain ⟨Gi, a1, ⟨a2, a3⟩, -⟩ := g8.2 i hi
    have a20 := a2 0 (by decide)
    have hne : ¬ (eT i = x ∨ eT i = x + 1 ∨ eT i = x + 2 ∨ eT i = x + 15) := by
      intro q; rw [show eT i + 0 = eT i from rfl, tg_x q] at a20; omega
    exact ⟨by rw [anyO_c ((e11_out s _ hne).trans (hs3 _ (by omega)))]; exact any_o a1 (by decide), by rw [e11s]; omega⟩
  have hv : anyO (e11 x s (edG G 0 (-1) 0)) (σ.1 + 6) = some () := by rw [anyO_c (e11_out s _ (by omega))]; exact any_o hH (by decide)
  obtain ⟨s', own2, u1, u2, u3, u4⟩ := xJ_add hl1 (by omega) (by omega) hO1 hx1 hel (v := σ.1 + 6) hv (by rw [e11s]; omega)
  have hA1 : A11 x (edG G 0 (-1) 0) (e11 x s (edG G 0 (-1) 0)) := A11_self _ _
  have hA3 : A11 x (edG G 0 (-1) 0) s' := A11_fr hA1 (fun a ha => u4.2.2 a (by omega) (by rw [tg_x ha]; decide))
  have hx3 : x + 78 ≤ s'.1 := by have := u4.1; omega
  have htg : ∀ a, σ.1 ≤ a → a < σ.1 + 15 → tg x own1 a = 300 + nT R := by
    intro a q1 q2
    unfold tg; rw [if_neg (by omega), if_neg (by omega)]; exact if_neg (by omega)
  have hn8 : ∀ t, t < 4 → 300 + t ∉ [5 + 3, 15 + 3] := by intro t ht q; simp only [List.mem_cons, List.not_mem_nil, or_false] at q; omega
  have hH3 : A6 (σ.1 + 6) H (e11 x s' (sfi (edG G 0 (-1) 0) 18 1)) := A6_fr hH (fun a ha => (e11_out s' _ (by omega)).trans ((u4.2.2 a (by omega) (by rw [htg a (by omega) (by omega)]; exact hn8 _ h4)).trans (e11_out s _ (by omega))))
  have hE : Ext own own2 σ.1 := fun a ha => (u2 a (by rw [e11s]; omega)).trans (hE1 a ha)
  have hC2 : Chg x own [1, 5 + 3, 15 + 3] σ s' := (hC1.mono (by decide)).tr2 (u4.mono (by decide)) hE1
  have hC : Chg x own [1, 8, 18] σ (e11 x s' (sfi (edG G 0 (-1) 0) 18 1)) := hC2.trans (e11_chg s' _ (by decide))
  refine ⟨s', own2, u1, xJ_C hl1, hA3, hH3, hC.kp h0 (by decide), ?_⟩
  intro U hU u17 u19 u20 u30 u33 u33' uRO uRn
  have q1 : nL U = nL R := by unfold nL; rw [hU.i 5 (by decide)]
  have q2 : nC U = nC R := by unfold nC; rw [hU.i 11 (by decide)]
  have q3 : nS U = nS R := by unfold nS; rw [hU.i 12 (by decide)]
  have q4 : nT U = nT R + 1 := by unfold nT at *; rw [u30]; exact c32 (by omega)
  have q5 : nV U = nV R := by unfold nV; rw [hU.i 47 (by decide)]
  have q6 : nN U = nN R := by unfold nN; rw [hU.i 48 (by decide)]
  have q7 : nX U = nX R := by unfold nX; rw [hU.i 56 (by decide)]
  have p2 := hP.2.1 _ R U hU (by decide)
  have h10 : (1 : Int32) ≠ 0 := by decide
  have e18 : fi (sfi (edG G 0 (-1) 0) 18 1) 18 = 1 := rfl
  obtain ⟨w1, w2, w3, w4, w5, w6, w7, w8, w9⟩ := hW
  have hl4 : PLs x own2 (e11 x s' (sfi (edG G 0 (-1) 0) 18 1)) 3 (nT R + 1) (up eT (nT R) (σ.1 + 6)) := u3.fr (by omega) hx3 (fun _ _ => rfl) (e11_chg (own := own2) (W := [1]) s' _ (by decide)) (by decide) (by decide)
  refine ⟨sfi (edG G 0 (-1) 0) 18 1, T, eC, eV, eN, up eT (nT R) (σ.1 + 6), eS, ?_⟩
  unfold XWg
  rw [q1, q2, q3, q4, q5, q6, q7, e18]
  refine ⟨by have := hC.1; omega, g1.fr h0 hC (by decide), ?_, g3.fr hE hC (fun t ht => by intro q; simp only [List.mem_cons, List.not_mem_nil, or_false] at q; omega) hU (by decide), g4.fr h0 hC (by decide) hU (by decide), g5.fs w4.2.1 h0 hE hC ⟨by decide, by decide, (fun t ht => by intro q; simp only [List.mem_cons, List.not_mem_nil, or_false] at q; omega)⟩ hU (by decide) h10, g6.fr h0 hE hC (by decide) hU (by decide), g7.fs w2.2.1 h0 hE hC ⟨by decide, by decide, (fun t ht => by intro q; simp only [List.mem_cons, List.not_mem_nil, or_false] at q; omega)⟩ hU (by decide) h10, ⟨hl4, fun i hi => ?_⟩, g9.fr w8.2.1 h0 hE hC ⟨by decide, by decide, (fun t ht => by intro q; simp only [List.mem_cons, List.not_mem_nil, or_false] at q; omega)⟩ hU (by decide), g10.fr hE hC (by decide) hU (by decide) p2, g11.fr h0 hC (by decide) hU (by decide), g12.fr hE hC (by decide) hU (by decide), g13.fr hE hC (fun t ht => by intro q; simp only [List.mem_cons, List.not_mem_nil, or_false] at q; omega) hU (by decide)⟩
  · obtain ⟨b1, b2, b3, b4, b5, b6, b7, b8, b9, b10⟩ := g2
    refine ⟨A11_self _ _, rfl, u17.symm, u19.symm, u20.symm, ?_, ?_, b8, Or.inr rfl, fun i hi => ?_⟩
    · rw [hU.i 12 (by decide)]; exact b6
    · rw [hU.i 91 (by decide)]; exact b7
    · rw [u17, i0] at hi; omega
  by_cases hin : i = nT R
  · subst hin
    rw [up_same]
    refine ⟨H, hH3, ⟨fun j hj => ?_, ?_⟩, u33.symm, by rw [hP1]; exact uRn⟩
    · rw [ext_tg u2 (show σ.1 + 6 + j < (e11 x s (edG G 0 (-1) 0)).1 by rw [e11s]; omega)]; exact htg _ (by omega) (by omega)
    · show σ.1 + 6 + 9 ≤ s'.1; have := u4.1; rw [e11s] at this; omega
  · rw [up_ne _ _ _ _ hin]
    obtain ⟨Gi, a1, ⟨a2, a3⟩, a4, a5⟩ := g8.2 i (by omega)
    refine ⟨Gi, A6_fr a1 (fun b hb => ?_), ⟨fun j hj => (ext_tg hE (by omega)).trans (a2 j hj), Nat.le_trans a3 hC.1⟩, by rw [u33' i (by omega)]; exact a4, by rw [hP1] at *; exact uRO i Gi (by omega) a5⟩
    have : ∃ j, j < 9 ∧ b = eT i + j := ⟨b - eT i, by omega, by omega⟩
    obtain ⟨j, j1, rfl⟩ := this
    exact hC.2.2 _ (by omega) (by rw [a2 j j1]; intro q; simp only [List.mem_cons, List.not_mem_nil, or_false] at q; omega)
end
