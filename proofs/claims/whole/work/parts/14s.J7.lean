section
variable {P : Par} {x : Nat} {own : Nat → Nat} {σ : Hs} {R G : Gs} {st : Int32}
theorem w11 (s : Hs) (G H : Gs) : e11 x (e11 x s G) H = e11 x s H := eX_eX _ _ _
def edG (G : Gs) (k p v : Int32) : Gs := sfi (sfi (sfi (sfi G 3 0) 4 k) 5 p) 0 v
theorem edG_fr (G : Gs) (k p v : Int32) : Fr [0, 3, 4, 5] G (edG G k p v) := ((((Fr.refl _ G).sfi (k := 3) (by decide) _).sfi (k := 4) (by decide) _).sfi (k := 5) (by decide) _).sfi (k := 0) (by decide) _
theorem c_end {b : Nat} {H : Gs} {s : Hs} (hA : A11 x G s) (hb : x + 78 ≤ b) (hH : A5 b H s) : fX11_endReading_0 s x b = some (e11 x s (edG G (fi H 9) (fi H 10) (if fi H 9 = 0 then 0 else 10))) := by
  have h5 : ∀ G', A5 b H (e11 x s G') := fun G' => A5_fr hH (fun a ha => e11_out s G' (by omega))
  unfold fX11_endReading_0
  rw [z11_p3 hA, Option.bind_some, z5_g9 (h5 _), Option.bind_some, y11_p4, Option.bind_some, z5_g10 (h5 _), Option.bind_some, y11_p5, Option.bind_some, y11_g4, Option.bind_some]
  show (if fi H 9 = 0 then _ else _) = _
  by_cases c : fi H 9 = 0
  · rw [if_pos c, if_pos c, y11_p0, Option.bind_some]; rfl
  · rw [if_neg c, if_neg c, y11_p0, Option.bind_some]; rfl
theorem k_badText (hP : P.ok) (hk : P.bk) {T : Gs} {eC eV eN eT eS : Nat → Nat} (h : XWg P x own σ R st G T eC eV eN eT eS) (hW : RW R) {s : Hs} (hC : Chg x own [1] σ s) (hA : A11 x G s) (k p v : Int32) {U : Gs} (hU : Fr (17 :: 19 :: 20 :: SCR) R U) (u17 : fi U 17 = 0) (u19 : fi U 19 = k) (u20 : fi U 20 = p) : XW P x own (e11 x s (edG G k p v)) U v := by
  obtain ⟨h0, h1, h2, h3, h4, h5, h6, h7, h8, h9, h10, h11, h12, h13⟩ := h
  have hC' : Chg x own [1] σ (e11 x s (edG G k p v)) := hC.trans (e11_chg s _ (by decide))
  obtain ⟨w1, w2, w3, w4, w5, w6, w7, w8, w9⟩ := id hW
  have hE : Ext own own σ.1 := fun _ _ => rfl
  have hn : ∀ {k : Nat}, k ≠ 1 → k ∉ [1] := fun hk q => hk (List.mem_singleton.mp q)
  have p1 := hP.1 _ R U hU (by decide)
  have p2 := hP.2.1 _ R U hU (by decide)
  have p3 := hk _ R U hU (by decide)
  have q1 : nL U = nL R := by unfold nL; rw [hU.i 5 (by decide)]
  have q2 : nC U = nC R := by unfold nC; rw [hU.i 11 (by decide)]
  have q3 : nS U = nS R := by unfold nS; rw [hU.i 12 (by decide)]
  have q4 : nT U = nT R := by unfold nT; rw [hU.i 30 (by decide)]
  have q5 : nV U = nV R := by unfold nV; rw [hU.i 47 (by decide)]
  have q6 : nN U = nN R := by unfold nN; rw [hU.i 48 (by decide)]
  have q7 : nX U = nX R := by unfold nX; rw [hU.i 56 (by decide)]
  refine ⟨edG G k p v, T, eC, eV, eN, eT, eS, ?_⟩
  unfold XWg
  rw [q1, q2, q3, q4, q5, q6, q7, p3]
  refine ⟨Nat.le_trans h0 hC'.1, h1.fr h0 hC' (by decide), ?_, h3.fr hE hC' (fun t ht => hn (by omega)) hU (by decide), h4.fr h0 hC' (by decide) hU (by decide), h5.fr w4.2.1 h0 hE hC' ⟨by decide, by decide, fun t ht => hn (by omega)⟩ hU (by decide) (fun q => q), h6.fr h0 hE hC' (by decide) hU (by decide), h7.fr w2.2.1 h0 hE hC' ⟨by decide, by decide, fun t ht => hn (by omega)⟩ hU (by decide) (fun q => q), h8.fr w7.2 h0 hE hC' ⟨by decide, by decide, fun t ht => hn (by omega)⟩ hU (by decide) p1, h9.fr w8.2.1 h0 hE hC' ⟨by decide, by decide, fun t ht => hn (by omega)⟩ hU (by decide), h10.fr hE hC' (by decide) hU (by decide) p2, h11.fr h0 hC' (by decide) hU (by decide), h12.fr hE hC' (by decide) hU (by decide), h13.fr hE hC' (fun t ht => hn (by omega)) hU (by decide)⟩
  obtain ⟨b1, b2, b3, b4, b5, b6, b7, b8, b9, b10⟩ := h2
  refine ⟨A11_self _ _, rfl, u17.symm, u19.symm, u20.symm, ?_, ?_, b8, b9, fun i hi => ?_⟩
  · rw [hU.i 12 (by decide)]; exact b6
  · rw [hU.i 91 (by decide)]; exact b7
  · rw [u17, i0] at hi; omega
end
