theorem gvn_succ {R : Gs} {nL k : Nat} {bl : Nat → Bool} {c x : Int32} {i : Nat} : gvn R nL (k + 1) bl c x i ↔ gvn R nL k bl c x i ∨ (i = k ∧ ai R 52 k = c ∧ ai R 53 k = x ∧ itm R nL k ∧ bl k = true) := by
  unfold gvn
  constructor
  · rintro ⟨h1, h2⟩
    rcases Nat.lt_or_ge i k with q | q
    · exact Or.inl ⟨q, h2⟩
    · have : i = k := by omega
      subst this
      exact Or.inr ⟨rfl, h2⟩
  · rintro (⟨h1, h2⟩ | ⟨rfl, h2⟩)
    · exact ⟨by omega, h2⟩
    · exact ⟨by omega, h2⟩
theorem mc_skip {R : Gs} {nL k : Nat} {bl : Nat → Bool} {c : Int32} (h : ¬ (ai R 52 k = c ∧ itm R nL k ∧ bl k = true)) (x y : Int32) : mc R nL (k + 1) bl c x y ↔ mc R nL k bl c x y := by
  have e : ∀ i, gvn R nL (k + 1) bl c x i ↔ gvn R nL k bl c x i := by
    intro i; rw [gvn_succ]
    exact ⟨fun q => q.elim id (fun r => absurd ⟨r.2.1, r.2.2.2⟩ h), Or.inl⟩
  unfold mc
  simp only [e]
theorem mc_gov {R : Gs} {nL k : Nat} {bl : Nat → Bool} {c : Int32} (h : ai R 52 k = c ∧ itm R nL k ∧ bl k = true) (x y : Int32) : mc R nL (k + 1) bl c x y ↔ (x = ai R 53 k ∧ y = ai R 54 k) ∨ (x ≠ ai R 53 k ∧ mc R nL k bl c x y) := by
  by_cases hx : x = ai R 53 k
  · subst hx
    have hk : gvn R nL (k + 1) bl c (ai R 53 k) k := ⟨by omega, h.1, rfl, h.2⟩
    constructor
    · rintro ⟨i, h1, h2, h3⟩
      have : i = k := by
        rcases Nat.lt_or_ge i k with q | q
        · exact absurd hk (h3 k q)
        · have := h1.1; omega
      subst this
      exact Or.inl ⟨rfl, h2.symm⟩
    · rintro (⟨_, h2⟩ | ⟨h2, _⟩)
      · exact ⟨k, hk, h2.symm, fun j hj hg => by have := hg.1; omega⟩
      · exact absurd rfl h2
  · have e : ∀ i, gvn R nL (k + 1) bl c x i ↔ gvn R nL k bl c x i := by
      intro i; rw [gvn_succ]
      exact ⟨fun q => q.elim id (fun r => absurd r.2.2.1.symm hx), Or.inl⟩
    have e2 : mc R nL (k + 1) bl c x y ↔ mc R nL k bl c x y := by unfold mc; simp only [e]
    rw [e2]
    exact ⟨fun q => Or.inr ⟨hx, q⟩, fun q => q.elim (fun r => absurd r.1 hx) (fun r => r.2)⟩
section
variable {P : Par} {x : Nat} {own : Nat → Nat} {σ : Hs} {R : Gs} {G : Gs} {eC eV eN eT : Nat → Nat}
theorem e3_chg {W : List Nat} {a i : Nat} (s : Hs) (Gn : Gs) (h : tg x own a = 100 + i) (hW : 100 + i ∈ W) : Chg x own W s (e3 a s Gn) := ⟨Nat.le_refl _, rfl, fun b _ hnb => e3_out _ _ (fun q => hnb (by rw [q, h]; exact hW))⟩
theorem s_loop2 (hW : RW R) (h0 : x + 78 ≤ σ.1) (hO : PO x σ) (hLC : PLs x own σ 0 (nC R) eC) (hLN : PLs x own σ 2 (nN R) eN) (hV : PV x own σ R (nV R) eV) (hKB : KB P x own R G eC eV eN eT) (s0 : Hs)
    (hs : Stl P x own σ R G eC eV eN eT (fun i G T nt => nt = 0) (fun i G => True) s0) :
    ∃ s', fX11_settle_46 s0 x 0 = some (e11 x s' (sfi G 18 0)) ∧ Stl P x own σ R G eC eV eN eT (fun i G T nt => TW T 60 nt ∧ isTab R (nL R) (nN R) (P.2.2 R) (Int32.ofNat i) nt (ai T 0) (ai T 1) ∧ ∀ j, j < stN (ai R 14) (Int32.ofNat i) (nS R) → (ai G 3 j).toInt = ldS (tru R (nL R)) (tt T nt) (stA (ai R 14) (ai R 15) (Int32.ofNat i) (nS R) j).toInt) (fun i G => fi G 5 = b2i (itm R (nL R) i) ∧ fi G 6 = b2i (P.2.2 R i = true)) s' := by
  have h12 := hW.2.2.2.1.2.1
  have h60 := hW.2.1.2.1
  have hTk := hW.1.2.2
  unfold fX11_settle_46
  refine lp_q (nN R) (fun k z => ∃ s, z = (s, x, Int32.ofNat k) ∧ Stl P x own σ R G eC eV eN eT (fun i G T nt => TW T 60 nt ∧ nt ≤ k ∧ ∀ p q, mm nt (ai T 0) (ai T 1) p q ↔ mc R (nL R) k (P.2.2 R) (Int32.ofNat i) p q) (fun i G => i < k → fi G 5 = b2i (itm R (nL R) i) ∧ fi G 6 = b2i (P.2.2 R i = true)) s) (fun X => ∃ s', X = some (e11 x s' (sfi G 18 0)) ∧ Stl P x own σ R G eC eV eN eT (fun i G T nt => TW T 60 nt ∧ isTab R (nL R) (nN R) (P.2.2 R) (Int32.ofNat i) nt (ai T 0) (ai T 1) ∧ ∀ j, j < stN (ai R 14) (Int32.ofNat i) (nS R) → (ai G 3 j).toInt = ldS (tru R (nL R)) (tt T nt) (stA (ai R 14) (ai R 15) (Int32.ofNat i) (nS R) j).toInt) (fun i G => fi G 5 = b2i (itm R (nL R) i) ∧ fi G 6 = b2i (P.2.2 R i = true)) s') ?_ ?_ fu 0 _ (by omega) ?_ (by unfold fu; omega)
  · rintro K k _ hk ⟨s, rfl, q1, q2, q3, ⟨T, q4⟩, q5, q6, q7⟩
    left
    have hLs : PLs x own s 2 (nN R) eN := hLN.fr (by omega) h0 (fun _ _ => rfl) q2 (nin_WS (by omega)) (nin_WS (by omega))
    have c1 : isC s (x + 9) 1 = some () := xJ_C hLs
    have c2 : fJx4a65c_size_8abf5_0 s (x + 9) = some (Int32.ofNat (nN R)) := xJ_size hLs
    have c3 : fJx4a65c_get_915e3_0 s (x + 9) (Int32.ofNat k) = some (some (eN k)) := xJ_get hLs hk
    obtain ⟨Gn, n1, ⟨n2, n3⟩, ⟨n4, n5, n6, n7, n8⟩, n9⟩ := q6 k hk
    have hr := hW.2.1.2.2 k hk
    have hrx := hW.2.2.2.2.2.1.1 k hk
    have hp : (tru R (nL R)).Perm (tt T (nL R)) := tru_perm hW q4
    have hd1 : (ai R 53 k + 1).toInt = (ai R 53 k).toInt + 1 := by rw [add32]; rfl; show _ ≤ _ + 1 ∧ _ + 1 < _; omega
    obtain ⟨r, r1, r2⟩ := x9_startOf (b := x + 3) (σ := s) q4.2.1.1 (ai R 53 k + 1)
    rw [show e9 (x + 3) s T = s from q4.1] at r1
    rw [hd1, ← bg_perm hp] at r2
    have hlt : ¬ Int32.ofNat (nN R) ≤ Int32.ofNat k := by rw [le_n (by omega) (by omega)]; omega
    have h97 : ∀ v : Int32, v = b2i (itm R (nL R) k) → ∃ s', (∃ s2, s' = (s2, x, Int32.ofNat (k + 1)) ∧ Stl P x own σ R G eC eV eN eT (fun i G T nt => TW T 60 nt ∧ nt ≤ k + 1 ∧ ∀ p q, mm nt (ai T 0) (ai T 1) p q ↔ mc R (nL R) (k + 1) (P.2.2 R) (Int32.ofNat i) p q) (fun i G => i < k + 1 → fi G 5 = b2i (itm R (nL R) i) ∧ fi G 6 = b2i (P.2.2 R i = true)) s2) ∧ fX11_settle_97 (fun a b c => K (a, b, c)) s x (Int32.ofNat k) (eN k) (eN k) v = K s' := by
      intro v hv
      have hv01 : v = 0 ∨ v = 1 := by rw [hv]; unfold b2i; split; exact Or.inr rfl; exact Or.inl rfl
      generalize hG1 : sfi Gn 5 v = G1
      generalize hs1 : e3 (eN k) s G1 = s1
      have e11' : s1.1 = s.1 := by rw [← hs1]; rfl
      have hC1 : Chg x own [100 + k] s s1 := by rw [← hs1]; exact e3_chg s G1 n2 List.mem_cons_self
      have hC1W : Chg x own WS s s1 := hC1.mono (fun q hq => by rw [List.mem_singleton.mp hq]; exact mem_WS.mpr (by omega))
      have hA1 : A11 x G s1 := A11_fr q3 (fun a ha => hC1.2.2 a (by omega) (by rw [tg_x ha]; intro q; have := List.mem_singleton.mp q; omega))
      have hN1 : A3 (eN k) G1 s1 := by rw [← hs1]; exact A3_self _ _
      have hT1 : PTt x s1 R T (nL R) := q4.fr (by omega) hC1 (by intro q; have := List.mem_singleton.mp q; omega) (Fr.refl SCR R) (by decide)
      have hR1 : PR x own s1 R P.1 (nT R) eT := q7.fr hW.2.2.2.2.2.2.1.2 (by omega) (fun _ _ => rfl) hC1 ⟨by intro q; have := List.mem_singleton.mp q; omega, by intro q; have := List.mem_singleton.mp q; omega, fun i hi => by intro q; have := List.mem_singleton.mp q; omega⟩ (Fr.refl SCR R) (by decide) (fun _ _ q => q)
      have hc1 : ∀ i, i < nC R → PCz x own s1 R (nS R) (fun G T nt => TW T 60 nt ∧ nt ≤ k ∧ ∀ p q, mm nt (ai T 0) (ai T 1) p q ↔ mc R (nL R) k (P.2.2 R) (Int32.ofNat i) p q) i (eC i) := fun i hi => (q5 i hi).fr hC1 (by intro q; have := List.mem_singleton.mp q; omega)
      have hf1 : fi G1 0 = ai R 51 k ∧ fi G1 1 = ai R 52 k ∧ fi G1 2 = ai R 53 k ∧ fi G1 3 = ai R 54 k ∧ fi G1 4 = ai R 55 k := by rw [← hG1]; exact ⟨n4, n5, n6, n7, n8⟩
      have hf5 : fi G1 5 = v := by rw [← hG1]; rfl
      have hn1 : ∀ i, i < nN R → PNz x own s1 R (fun _ => True) i (eN i) := by
        intro i hi
        by_cases hik : i = k
        · subst hik; exact ⟨G1, hN1, ⟨n2, by omega⟩, hf1, trivial⟩
        · exact ((q6 i hi).fr hC1 (by intro q; have := List.mem_singleton.mp q; omega)).mono (fun _ _ => trivial)
      have hCs1 : Chg x own WS σ s1 := q2.trans hC1W
      have hBas : Bas P x own R G eC eV eN eT s1 T := ⟨by omega, hO.fr h0 hCs1 (nin_WS (by omega)), hA1, hT1, ⟨hLC.fr (by omega) h0 (fun _ _ => rfl) hCs1 (nin_WS (by omega)) (nin_WS (by omega)), fun i hi => (hc1 i hi).mono (fun _ _ _ _ _ => trivial)⟩, hV.fr h0 (fun _ _ => rfl) hCs1 ⟨nin_WS (by omega), nin_WS (by omega), nin_WS (by omega)⟩ (Fr.refl SCR R) (by decide), ⟨hLN.fr (by omega) h0 (fun _ _ => rfl) hCs1 (nin_WS (by omega)) (nin_WS (by omega)), hn1⟩, hR1⟩
      obtain ⟨s2, T2, b1, b2, b3, b4, b5⟩ := hKB s1 T hBas k hk
      have hnB : ∀ {q : Nat}, (q ≠ 2 ∧ (q < 300 ∨ 304 ≤ q)) → q ∉ WB := by
        intro q hq r; unfold WB at r; simp only [List.mem_cons, List.not_mem_nil, or_false] at r; omega
      have hBW : Chg x own WS s1 s2 := b3.mono (fun q hq => by unfold WB at hq; simp only [List.mem_cons, List.not_mem_nil, or_false] at hq; exact mem_WS.mpr (by omega))
      have hN2 : A3 (eN k) G1 s2 := A3_fr hN1 (fun a ha => by rw [ha]; exact b3.2.2 _ (by omega) (by rw [n2]; exact hnB (by omega)))
      have hA2 : A11 x G s2 := A11_fr hA1 (fun a ha => b3.2.2 a (by omega) (by rw [tg_x ha]; exact hnB (by omega)))
      have hb01 : b2i (P.2.2 R k = true) = 0 ∨ b2i (P.2.2 R k = true) = 1 := by unfold b2i; split; exact Or.inr rfl; exact Or.inl rfl
      generalize hG3 : sfi G1 6 (b2i (P.2.2 R k = true)) = G3
      generalize hs3 : e3 (eN k) s2 G3 = s3
      have e31 : s3.1 = s.1 := by rw [← hs3]; show s2.1 = _; omega
      have hC3 : Chg x own [100 + k] s2 s3 := by rw [← hs3]; exact e3_chg s2 G3 n2 List.mem_cons_self
      have hN3 : A3 (eN k) G3 s3 := by rw [← hs3]; exact A3_self _ _
      have hA3 : A11 x G s3 := A11_fr hA2 (fun a ha => hC3.2.2 a (by omega) (by rw [tg_x ha]; intro q; have := List.mem_singleton.mp q; omega))
      have hf3 : fi G3 0 = ai R 51 k ∧ fi G3 1 = ai R 52 k ∧ fi G3 2 = ai R 53 k ∧ fi G3 3 = ai R 54 k ∧ fi G3 4 = ai R 55 k := by rw [← hG3]; exact hf1
      have h35 : fi G3 5 = v := by rw [← hG3]; exact hf5
      have h36 : fi G3 6 = b2i (P.2.2 R k = true) := by rw [← hG3]; rfl
      have hgov : fX3_governs_0 s3 (eN k) = some (b2i (itm R (nL R) k ∧ P.2.2 R k = true)) := by
        unfold fX3_governs_0
        simp only [z3_g5 hN3, z3_g6 hN3, Option.bind_some, h35, h36, hv, b2i_0]
        unfold b2i
        by_cases y1 : itm R (nL R) k
        · rw [if_neg (fun q => q y1)]
          by_cases y2 : P.2.2 R k = true
          · rw [if_neg (fun q => q y2), if_pos ⟨y1, y2⟩]; rfl
          · rw [if_pos y2, if_neg (fun q => y2 q.2)]; rfl
        · rw [if_pos y1, if_neg (fun q => y1 q.1)]; rfl
      have hCs3 : Chg x own WS σ s3 := (hCs1.trans hBW).trans (hC3.mono (fun q hq => by rw [List.mem_singleton.mp hq]; exact mem_WS.mpr (by omega)))
      have hT3 : PTt x s3 R T2 (nL R) := b4.fr (by omega) hC3 (by intro q; have := List.mem_singleton.mp q; omega) (Fr.refl SCR R) (by decide)
      have hR3 : PR x own s3 R P.1 (nT R) eT := b5.fr hW.2.2.2.2.2.2.1.2 (by omega) (fun _ _ => rfl) hC3 ⟨by intro q; have := List.mem_singleton.mp q; omega, by intro q; have := List.mem_singleton.mp q; omega, fun i hi => by intro q; have := List.mem_singleton.mp q; omega⟩ (Fr.refl SCR R) (by decide) (fun _ _ q => q)
      have hc3 : ∀ i, i < nC R → PCz x own s3 R (nS R) (fun G T nt => TW T 60 nt ∧ nt ≤ k ∧ ∀ p q, mm nt (ai T 0) (ai T 1) p q ↔ mc R (nL R) k (P.2.2 R) (Int32.ofNat i) p q) i (eC i) := fun i hi => ((hc1 i hi).fr b3 (hnB (by omega))).fr hC3 (by intro q; have := List.mem_singleton.mp q; omega)
      have hn3 : ∀ i, i < nN R → PNz x own s3 R (fun G => i < k + 1 → fi G 5 = b2i (itm R (nL R) i) ∧ fi G 6 = b2i (P.2.2 R i = true)) i (eN i) := by
        intro i hi
        by_cases hik : i = k
        · subst hik; exact ⟨G3, hN3, ⟨n2, by omega⟩, hf3, fun _ => ⟨by rw [h35, hv], h36⟩⟩
        · exact ((((q6 i hi).fr hC1 (by intro q; have := List.mem_singleton.mp q; omega)).fr b3 (hnB (by omega))).fr hC3 (by intro q; have := List.mem_singleton.mp q; omega)).mono (fun G hz hlt => hz (by omega))
      have hp5 : pZ s (eN k) 5 5 v = some s1 := by rw [z3_p5 n1, if_pos hv01, hG1, hs1]
      have hp6 : pZ s2 (eN k) 5 6 (b2i (P.2.2 R k = true)) = some s3 := by rw [z3_p6 hN2, if_pos hb01, hG3, hs3]
      unfold fX11_settle_97
      simp only [hp5, Option.bind_some, z11_C hA1, b1, hp6, z3_C hN3, hgov, b2i_0, suc32]
      by_cases hgv : itm R (nL R) k ∧ P.2.2 R k = true
      · rw [if_neg (fun q => q hgv)]
        obtain ⟨ci, hci, hci2, hci3⟩ := get32 (ai R 52 k) hrx.2.1
        have hcin : ci < nC R := by omega
        have hL3 : PLs x own s3 0 (nC R) eC := hLC.fr (by omega) h0 (fun _ _ => rfl) hCs3 (nin_WS (by omega)) (nin_WS (by omega))
        have d1 : isC s3 (x + 7) 1 = some () := xJ_C hL3
        have d3 : fJx4a65c_get_915e3_0 s3 (x + 7) (Int32.ofNat ci) = some (some (eC ci)) := xJ_get hL3 hcin
        obtain ⟨Gc, Tc, nt, y1, y2, ⟨y3, y4⟩, y5, y6, y7, y8, y9, y10⟩ := hc3 ci hcin
        obtain ⟨Tc', nt', t1, t2, t3, t4⟩ := x9_tell (b := eC ci + 1) (σ := s3) y7 (ai R 53 k) (ai R 54 k) hr.1.1 hr.1.2 (Or.inr hr.2.1) (Or.inl (by omega))
        rw [show e9 (eC ci + 1) s3 Tc = s3 from y2] at t1
        simp only [z11_g7 hA3, Option.bind_some, z3_g1 hN3, z3_g2 hN3, z3_g3 hN3, hf3.2.1, hf3.2.2.1, hf3.2.2.2.1, hci, d1, d3, z1_C y1, z1_g1 y1, z9_C y2, t1]
        generalize hs4 : e9 (eC ci + 1) s3 Tc' = s4
        have e41 : s4.1 = s.1 := by rw [← hs4]; exact e31
        have hC4 : Chg x own [20 + ci] s3 s4 := by rw [← hs4]; exact e9c_chg s3 Tc' y3 List.mem_cons_self
        have hn4 : ∀ {q : Nat}, q ≠ 20 + ci → q ∉ [20 + ci] := fun hq r => hq (List.mem_singleton.mp r)
        have hk0 : ai R 54 k ≠ 0 := by intro e; have := hr.2.1; rw [e, i0] at this; omega
        refine ⟨_, ⟨s4, rfl, by omega, hCs3.trans (hC4.mono (fun q hq => by rw [List.mem_singleton.mp hq]; exact mem_WS.mpr (by omega))), A11_fr hA3 (fun a ha => hC4.2.2 a (by omega) (by rw [tg_x ha]; exact hn4 (by omega))), ⟨T2, hT3.fr (by omega) hC4 (hn4 (by omega)) (Fr.refl SCR R) (by decide)⟩, fun i hi => ?_, fun i hi => (hn3 i hi).fr hC4 (hn4 (by omega)), hR3.fr hW.2.2.2.2.2.2.1.2 (by omega) (fun _ _ => rfl) hC4 ⟨hn4 (by omega), hn4 (by omega), fun i hi => hn4 (by omega)⟩ (Fr.refl SCR R) (by decide) (fun _ _ q => q)⟩, rfl⟩
        by_cases hic : i = ci
        · subst hic
          refine ⟨Gc, Tc', nt', A1_fr y1 (fun a ha => by rw [← hs4]; exact e9_out _ _ (by omega)), by rw [← hs4]; exact A9_self _ _, ⟨y3, by omega⟩, y5, y6, t2.1, t2, by omega, fun p q => ?_⟩
          rw [t3, mc_gov ⟨hci, hgv⟩, y10]
          constructor
          · rintro (r | r)
            · exact Or.inl ⟨r.1, r.2.1⟩
            · exact Or.inr r
          · rintro (r | r)
            · exact Or.inl ⟨r.1, r.2, hk0⟩
            · exact Or.inr r
        · refine ((hc3 i hi).fr hC4 (hn4 (by omega))).mono (fun G T nt _ hz => ⟨hz.1, by have := hz.2.1; omega, fun p q => ?_⟩)
          rw [hz.2.2, mc_skip]
          intro r
          have := r.1
          rw [hci, eq32, n32 (by omega), n32 (by omega)] at this; omega
      · rw [if_pos hgv]
        refine ⟨_, ⟨s3, rfl, by omega, hCs3, hA3, ⟨T2, hT3⟩, fun i hi => (hc3 i hi).mono (fun G T nt _ hz => ⟨hz.1, by have := hz.2.1; omega, fun p q => ?_⟩), hn3, hR3⟩, rfl⟩
        rw [hz.2.2, mc_skip]
        intro r
        exact hgv r.2
    simp only [fbX11_settle_46, z11_g10 q3, c1, c2, c3, Option.bind_some, if_neg hlt, z3_C n1, z3_g4 n1, z11_g6 q3, z3_g2 n1, n6, n8, z9_C q4.1, r1]
    by_cases hcmp : r ≤ (ai R 55 k).toInt64
    · rw [if_pos hcmp]
      rw [le64, up64, r2] at hcmp
      exact h97 0 (by unfold b2i; rw [if_neg]; unfold itm; omega)
    · rw [if_neg hcmp]
      rw [le64, up64, r2] at hcmp
      exact h97 1 (by unfold b2i; rw [if_pos]; unfold itm; omega)
  · rintro K _ ⟨s, rfl, q1, q2, q3, q4, q5, q6, q7⟩
    have hLs : PLs x own s 2 (nN R) eN := hLN.fr (by omega) h0 (fun _ _ => rfl) q2 (nin_WS (by omega)) (nin_WS (by omega))
    have c1 : isC s (x + 9) 1 = some () := xJ_C hLs
    have c2 : fJx4a65c_size_8abf5_0 s (x + 9) = some (Int32.ofNat (nN R)) := xJ_size hLs
    simp only [fbX11_settle_46, z11_g10 q3, c1, c2, Option.bind_some, Int32.le_refl, if_true]
    exact s_loop3 hW h0 hLC (P.2.2 R) s ⟨q1, q2, q3, q4, fun i hi => (q5 i hi).mono (fun G T nt _ hz => ⟨hz.1, hz.2.2⟩), fun i hi => (q6 i hi).mono (fun G hz => hz hi), q7⟩
  · obtain ⟨q1, q2, q3, q4, q5, q6, q7⟩ := hs
    refine ⟨s0, rfl, q1, q2, q3, q4, fun i hi => (q5 i hi).mono (fun G T nt ht hz => ?_), fun i hi => (q6 i hi).mono (fun G _ hlt => by omega), q7⟩
    subst hz
    refine ⟨⟨ht, fun i hi => by omega⟩, by omega, fun p q => ⟨?_, ?_⟩⟩
    · rintro ⟨i, hi, _⟩; omega
    · rintro ⟨i, ⟨hi, _⟩, _⟩; omega
end
