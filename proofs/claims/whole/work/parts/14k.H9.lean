def RO (G R : Gs) (t : Nat) : Prop := ∃ D cs ce rs fs, CO G D cs ce fs ∧ HL G ∧ TOa (ai R 34) (ai R 35) (ai R 36) t D rs fs ∧ ((fi G 6 = -1 ∧ bpo (al R 39) t D = none) ∨ ∃ e, e < D ∧ fi G 6 = Int32.ofNat e ∧ bpo (al R 39) t D = some e)
section
variable {x : Nat} {own : Nat → Nat} {R G : Gs} {eC eV eN eT : Nat → Nat} {s s' : Hs} {ROx : Gs → Gs → Nat → Prop}
theorem x_force (hA : A11 x G s) (h : PR x own s R ROx (nT R) eT) (h4 : nT R ≤ 4) (day : Int32) : fX11_textInForce_0 s x day = some ((frc (ai R 33) day (nT R)).map eT) := by
  have c1 : isC s (x + 10) 1 = some () := xJ_C h.1
  have c2 : fJx4a65c_size_8abf5_0 s (x + 10) = some (Int32.ofNat (nT R)) := xJ_size h.1
  have c3 : ∀ j, j < nT R → fJx4a65c_get_915e3_0 s (x + 10) (Int32.ofNat j) = some (some (eT j)) := fun j hj => xJ_get h.1 hj
  have hg : ∀ j, j < nT R → isC s (eT j) 8 = some () ∧ gI s (eT j) 8 1 = some (ai R 33 j) := by
    intro j hj
    obtain ⟨Gt, g1, g2, g3, g4⟩ := h.2 j hj
    exact ⟨z6_C g1, by rw [z6_g1 g1, g3]⟩
  unfold fX11_textInForce_0 fX11_textInForce_4
  refine lp_q (nT R) (fun k z => z = (x, day, (frc (ai R 33) day k).map eT, Int32.ofNat k)) (fun X => X = some ((frc (ai R 33) day (nT R)).map eT)) ?_ ?_ fu 0 _ (by omega) rfl (by unfold fu; omega)
  · rintro L k _ hk rfl
    left
    refine ⟨_, rfl, ?_⟩
    obtain ⟨g1, g2⟩ := hg k hk
    simp only [fbX11_textInForce_4, z11_g11 hA, c1, c2, c3 k hk, Option.bind_some, le_n (show nT R < 2147483648 by omega) (show k < 2147483648 by omega), if_neg (show ¬ nT R ≤ k by omega), g1, g2, suc32]
    show _ = L (x, day, Option.map eT (if day < ai R 33 k then frc (ai R 33) day k else match frc (ai R 33) day k with
      | none => some k
      | some c => if ai R 33 k < ai R 33 c then some c else some k), Int32.ofNat (k + 1))
    by_cases c1 : day < ai R 33 k
    · rw [if_pos c1, if_pos c1]
    · rw [if_neg c1, if_neg c1]
      cases hf : frc (ai R 33) day k with
      | none => rw [if_pos (show Option.map eT none = none from rfl)]; rfl
      | some c =>
        have hc := frc_lt k c hf
        obtain ⟨q1, q2⟩ := hg c (by omega)
        rw [if_neg (show ¬ Option.map eT (some c) = none from fun q => by cases q)]
        show ((gI s (eT c) 8 1).bind fun vq12 => if ai R 33 k < vq12 then L (x, day, some (eT c), Int32.ofNat (k + 1)) else L (x, day, some (eT k), Int32.ofNat (k + 1))) = _
        rw [q2, Option.bind_some]
        show _ = L (x, day, Option.map eT (if ai R 33 k < ai R 33 c then some c else some k), Int32.ofNat (k + 1))
        by_cases c2 : ai R 33 k < ai R 33 c
        · rw [if_pos c2, if_pos c2]; rfl
        · rw [if_neg c2, if_neg c2]; rfl
  · rintro L _ rfl
    simp only [fbX11_textInForce_4, z11_g11 hA, c1, c2, Option.bind_some, Int32.le_refl, if_true]
theorem KB_all {P : Par} (hP1 : P.1 = RO) (hb : ∀ R i, P.2.2 R i = true ↔ bP R i) (hW : RW R) : KBx P x R := by
  intro own G eC eV eN eT s T hBas i hi
  obtain ⟨b0, b1, b2, b3, ⟨b4, b4'⟩, b5, ⟨b6, b6'⟩, b7⟩ := hBas
  have h60 := hW.2.1.2.1
  have hr := hW.2.1.2.2 i hi
  have hT4 := hW.2.2.2.2.2.2.1.2
  have hS : BsR x own R G eC eV eN s := ⟨b0, b2, ⟨b4, b4'⟩, b5, b6, b6'⟩
  have hp : (tru R (nL R)).Perm (tt T (nL R)) := mm_perm hW.1.2.2.2.2 (b3.2.1.1.tok.2.2) (fun p q => (b3.2.2 p q).symm)
  obtain ⟨T', t1, t2, t3, -⟩ := x9_turnTo (b := x + 3) (σ := s) b3.2.1 (ai R 55 i).toInt64 (by rw [up64]; omega) (by rw [up64]; omega)
  rw [show e9 (x + 3) s T = s from b3.1] at t1
  rw [up64, ← civ_perm hp] at t3
  have hdy : fi T' 4 = dyB R i := ofInt_un t3
  have hC9 : Chg x own [2] s (e9 (x + 3) s T') := e9_chg s T' (by decide)
  have hS9 := hS.fr hW hC9 (fun k q => Or.inl (List.mem_singleton.mp q))
  have hA9 : A9 (x + 3) T' (e9 (x + 3) s T') := A9_self _ _
  have hR9 : PR x own (e9 (x + 3) s T') R P.1 (nT R) eT := b7.fr hT4 b0 (fun _ _ => rfl) hC9 ⟨by decide, by decide, fun i hi => by simp only [List.mem_singleton]; omega⟩ (Fr.refl [] R) (by decide) (fun _ _ q => q)
  have hT9 : PTt x (e9 (x + 3) s T') R T' (nL R) := by
    obtain ⟨tv1, tv2⟩ := t2.tv b3.2.1
    refine ⟨hA9, tv1, fun p q => ?_⟩
    rw [t2.ai 0 (by decide), t2.ai 1 (by decide)]; exact b3.2.2 p q
  have c1 : isC s (x + 9) 1 = some () := xJ_C b6
  have c3 : fJx4a65c_get_915e3_0 s (x + 9) (Int32.ofNat i) = some (some (eN i)) := xJ_get b6 hi
  obtain ⟨i0, -, -, -, -, i5⟩ := hS.n hi
  have hfo := x_force hS9.2.1 hR9 hT4 (dyB R i)
  have hx9 : x + 78 ≤ (e9 (x + 3) s T').1 := b0
  generalize hs9 : e9 (x + 3) s T' = s9 at *
  have e1 : s9.1 = s.1 := by rw [← hs9]; rfl
  unfold fX11_isBelieved_0
  simp only [z11_g10 b2, z11_g6 b2, c1, c3, i0, i5, Option.bind_some, z9_C b3.1, t1, z11_g6 hS9.2.1, z9_g4 hA9, hdy, z11_C hS9.2.1, hfo]
  have hWB : ∀ k, k ∈ [2] → k ∈ WB := by decide
  cases hf : frc (ai R 33) (dyB R i) (nT R) with
  | none =>
    refine ⟨s9, T', ?_, e1, hC9.mono hWB, hT9, hR9⟩
    rw [if_pos (show Option.map eT none = none from rfl), bb_1, Option.bind_some]
    have : P.2.2 R i = true := (hb R i).mpr (fun _ t e q => by rw [hf] at q; cases q)
    unfold b2i; rw [if_pos this]
  | some t =>
    have ht := frc_lt _ _ hf
    obtain ⟨Gt, g1, ⟨g2, g2'⟩, g3, g4⟩ := hR9.2 t ht
    rw [if_neg (show ¬ Option.map eT (some t) = none from fun q => by cases q)]
    show ∃ s' T', ((gI s9 (eT t) 8 6).bind _) = _ ∧ _
    have g4' : RO Gt R t := by rw [hP1] at g4; exact g4
    obtain ⟨D, cs, ce, rs, fs, o1, o2, o3, o4⟩ := g4'
    have hDc : (ai R 34 t).toNatClampNeg = D := by rw [o3.1.1, c32 (by have := o3.1.2; omega)]
    rcases o4 with ⟨o4, o5⟩ | ⟨e, he, o4, o5⟩
    · refine ⟨s9, T', ?_, e1, hC9.mono hWB, hT9, hR9⟩
      rw [z6_g6 g1, o4, Option.bind_some, if_pos rfl, bb_1, Option.bind_some]
      have : P.2.2 R i = true := (hb R i).mpr (fun _ t' e q1 q2 => by
        rw [hf] at q1
        have := Option.some.inj q1
        subst this
        rw [hDc, o5] at q2; cases q2)
      unfold b2i; rw [if_pos this]
    · obtain ⟨H', f1, f2, f3, f4⟩ := c_fill hW hS9 g1 g2 o2.1.1.1 hi
      have o1' := o1.fr f2 (by decide)
      have o2' : HL H' := by
        obtain ⟨⟨⟨v1, v2, v3⟩, v4⟩, v5, v6⟩ := o2
        exact ⟨⟨⟨f3, (f2.ln 12 (by decide)).trans v2, (f2.ln 13 (by decide)).trans v3⟩, by rw [f2.ai 13 (by decide)]; exact v4⟩, (f2.ln 9 (by decide)).trans v5, (f2.ln 10 (by decide)).trans v6⟩
      obtain ⟨H2, p1, p2, p3⟩ := c_holds (a := eT t) (σ0 := s9) o1' o2' he ((f2.i 6 (by decide)).trans o4)
      have hCt : Chg x own [300 + t] s9 (e6 (eT t) s9 H2) := e6_chgT g2 s9 H2
      refine ⟨e6 (eT t) s9 H2, T', ?_, e1, ?_, hT9.fr hx9 hCt (by simp only [List.mem_singleton]; omega) (Fr.refl [] R) (by decide), ?_⟩
      · have n1 : ¬ Int32.ofNat e = -1 := by have := o3.1.2; rw [eq32, n32 (by omega), show (-1 : Int32).toInt = -1 from rfl]; omega
        rw [z6_g6 g1, o4, Option.bind_some, if_neg n1, z6_g8 g1, Option.bind_some, f1, Option.bind_some, y6_C, Option.bind_some, p1, Option.bind_some]
        have hiff : (tv (dvs fs (al H' 8) (e + 1) e) = true) ↔ P.2.2 R i = true := by
          rw [hb]
          constructor
          · intro h _ t' e' q1 q2
            rw [hf] at q1
            have := Option.some.inj q1
            subst this
            rw [hDc, o5] at q2
            have := Option.some.inj q2
            subst this
            exact ⟨D, rs, fs, o3, by rw [← (dvs_un o3 o3 f4).2 (e + 1) (by omega) e (by omega)]; exact h⟩
          · intro h
            obtain ⟨D', rs', fs', q1, q2⟩ := h hi t e hf (by rw [hDc]; exact o5)
            rw [(dvs_un o3 q1 f4).2 (e + 1) (by omega) e (by omega)]; exact q2
        show ((bb (b2i (tv (dvs fs (al H' 8) (e + 1) e) = true))).bind fun zq24 => some (zq24, e6 (eT t) s9 H2)) = _
        rw [← b2i_c hiff]
        unfold b2i
        split
        · rw [bb_1]; rfl
        · rw [bb_0]; rfl
      · refine (hC9.mono hWB).trans (hCt.mono (fun k q => ?_))
        rw [List.mem_singleton.mp q]
        have : t = 0 ∨ t = 1 ∨ t = 2 ∨ t = 3 := by omega
        rcases this with rfl | rfl | rfl | rfl <;> decide
      · refine ⟨hR9.1.fr (by decide) hx9 (fun _ _ => rfl) hCt (by simp only [List.mem_singleton]; omega) (by simp only [List.mem_singleton]; omega), fun u hu => ?_⟩
        by_cases c : u = t
        · subst c
          have F2 : Fr [8, 9, 10, 11, 12, 13] Gt H2 := (f2.mono (by decide)).trans (p2.mono (by decide))
          refine ⟨H2, A6_self _ _, ⟨g2, g2'⟩, (F2.i 1 (by decide)).trans g3, ?_⟩
          rw [hP1]
          exact ⟨D, cs, ce, rs, fs, o1.fr F2 (by decide), p3, o3, Or.inr ⟨e, he, (F2.i 6 (by decide)).trans o4, o5⟩⟩
        · obtain ⟨Gu, k1, ⟨k2, k2'⟩, k3, k4⟩ := hR9.2 u hu
          refine ⟨Gu, A6_fr k1 (fun b hb => hCt.2.2 b (by omega) ?_), ⟨k2, Nat.le_trans k2' hCt.1⟩, k3, k4⟩
          have : ∃ j, j < 9 ∧ b = eT u + j := ⟨b - eT u, by omega, by omega⟩
          obtain ⟨j, j1, rfl⟩ := this
          rw [k2 j j1]; simp only [List.mem_singleton]; omega
end
