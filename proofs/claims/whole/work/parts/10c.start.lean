/-! ===== the start: all of it ===== -/
abbrev tx_B : List (List Int32) := [[58, 59, 60, 62, 61, 43, 45, 42, 47, 37, 40, 41, 44], [105, 102, 32, 116, 104, 101, 110, 32, 101, 108, 115, 101, 32, 97, 110, 100, 32, 111, 114, 32, 110, 111, 116, 32, 108, 101, 97, 115, 116, 32, 109, 111, 115, 116, 32, 115, 101, 114, 118, 101, 114, 32, 115, 116, 114, 97, 116, 117, 109, 32, 97, 104, 101, 97, 100, 32, 107, 105, 110, 100, 32, 97, 108, 105, 107, 101, 32, 97, 103, 97, 105, 110, 115, 116, 32, 119, 97, 121, 32, 99, 108, 111, 99, 107, 32, 100, 97, 121, 32, 109, 111, 110, 116, 104, 32, 121, 101, 97, 114, 32, 98, 101, 108, 105, 101, 118, 101], [58, 59, 60, 62, 61, 43, 45, 42, 47, 37, 40, 41, 44, 123, 125], [119, 97, 105, 116, 32, 117, 110, 116, 105, 108, 32, 115, 116, 97, 109, 112, 32, 112, 97, 114, 115, 101, 32, 97, 103, 97, 105, 110, 32, 114, 101, 102, 117, 115, 101, 32, 102, 111, 108, 100, 32, 116, 97, 107, 101]]
def btx (i j : Nat) : Int32 := (tx_B.getD i []).getD j 0
abbrev ST0 : Term := .static "java/util/ArrayList" "DEFAULTCAPACITY_EMPTY_ELEMENTDATA" "[Ljava/lang/Object;"
abbrev STc : Term := .static "java/lang/Integer$IntegerCache" "cache" "[Ljava/lang/Integer;"
def fl2 : Cond → List Cond
  | .and a b => fl2 a ++ fl2 b
  | c => [c]
theorem fl2_of {a : Array Value} {s : State} (c : Cond) : c.before a s = true → ∀ w ∈ fl2 c, w.before a s = true := by
  induction c with
  | and A B ihA ihB =>
    intro h w hw
    obtain ⟨p, q⟩ := va_andE (show (Cond.and A B).value a s none s [] = some true by simpa [Cond.before, Cond.holds] using h)
    rcases List.mem_append.mp (show w ∈ fl2 A ++ fl2 B from hw) with hw | hw
    · exact ihA (by simp [Cond.before, Cond.holds, p]) w hw
    · exact ihB (by simp [Cond.before, Cond.holds, q]) w hw
  | _ => intro h w hw; simp only [fl2, List.mem_singleton] at hw; subst hw; exact h
abbrev lw_fl : List Cond := fl2 (Jvm.Cond.and given_1 narrow_1)
abbrev STx0 : Term := .string "LeapNet" 291
theorem tx_in0 : ∀ j, j < 13 → Cond.eq (.elem (.field STx0 "java/lang/String" "value" "[B") (.int (Int32.ofNat j))) (.int (btx 0 j)) ∈ lw_fl := by
  have h : (List.range 13).all (fun j => decide (Cond.eq (.elem (.field STx0 "java/lang/String" "value" "[B") (.int (Int32.ofNat j))) (.int (btx 0 j)) ∈ lw_fl)) = true := by decide +kernel
  intro j hj
  exact of_decide_eq_true (List.all_eq_true.mp h j (List.mem_range.mpr hj))
abbrev STx1 : Term := .string "LeapNet" 293
theorem tx_in1 : ∀ j, j < 107 → Cond.eq (.elem (.field STx1 "java/lang/String" "value" "[B") (.int (Int32.ofNat j))) (.int (btx 1 j)) ∈ lw_fl := by
  have h : (List.range 107).all (fun j => decide (Cond.eq (.elem (.field STx1 "java/lang/String" "value" "[B") (.int (Int32.ofNat j))) (.int (btx 1 j)) ∈ lw_fl)) = true := by decide +kernel
  intro j hj
  exact of_decide_eq_true (List.all_eq_true.mp h j (List.mem_range.mpr hj))
abbrev STx2 : Term := .string "LeapNet" 408
theorem tx_in2 : ∀ j, j < 15 → Cond.eq (.elem (.field STx2 "java/lang/String" "value" "[B") (.int (Int32.ofNat j))) (.int (btx 2 j)) ∈ lw_fl := by
  have h : (List.range 15).all (fun j => decide (Cond.eq (.elem (.field STx2 "java/lang/String" "value" "[B") (.int (Int32.ofNat j))) (.int (btx 2 j)) ∈ lw_fl)) = true := by decide +kernel
  intro j hj
  exact of_decide_eq_true (List.all_eq_true.mp h j (List.mem_range.mpr hj))
abbrev STx3 : Term := .string "LeapNet" 410
theorem tx_in3 : ∀ j, j < 45 → Cond.eq (.elem (.field STx3 "java/lang/String" "value" "[B") (.int (Int32.ofNat j))) (.int (btx 3 j)) ∈ lw_fl := by
  have h : (List.range 45).all (fun j => decide (Cond.eq (.elem (.field STx3 "java/lang/String" "value" "[B") (.int (Int32.ofNat j))) (.int (btx 3 j)) ∈ lw_fl)) = true := by decide +kernel
  intro j hj
  exact of_decide_eq_true (List.all_eq_true.mp h j (List.mem_range.mpr hj))
/-- what the pure part knows of the start -/
def Ol (σ : Hs) : Prop := (∀ a, σ.1 ≤ a → σ.2.1 a = ce_no) ∧ ∃ vS ad : Nat → Nat, σ.2.1 (σ.2.2 0) = .inr (500, fun _ => .ref 0) ∧ σ.2.1 (σ.2.2 1) = .inr (640, fun j => .ref (ad j)) ∧ (∀ i, i < 4 → σ.2.1 (σ.2.2 (10 + i)) = .inr (600 + i, fun k => if k = 0 then .ref (vS i) else .int 0) ∧ σ.2.1 (vS i) = .inr (610 + i, fun j => .int (btx i j))) ∧ ∀ i, i < 128 → σ.2.1 (ad (128 + i)) = .inr (700 + i, fun _ => .int (vb_c (128 + i)))
theorem ol_ne {t : Nat} {F : Nat → Value} (h : t ≠ 999) : (.inr (t, F) : Ce) ≠ ce_no := fun q => by simp only [ce_no, Sum.inr.injEq, Prod.mk.injEq] at q; exact h q.1
theorem oF_500 {z0 zc : Nat} {kS vS ad : Nat → Nat} {bt : Nat → Nat → Int32} {a : Nat} {F : Nat → Value} (h : oF (oL z0 zc kS vS ad bt) a = .inr (500, F)) : a = z0 ∧ F = fun _ => .ref 0 := by
  rcases oL_mem (oF_mem h (ol_ne (by omega))) with h | h | ⟨i, hi, h⟩ | ⟨i, hi, h⟩ | ⟨i, hi, h⟩ <;> simp only [Prod.mk.injEq, Sum.inr.injEq] at h
  · exact ⟨h.1, h.2.2⟩
  all_goals (exfalso; omega)
theorem oF_640 {z0 zc : Nat} {kS vS ad : Nat → Nat} {bt : Nat → Nat → Int32} {a : Nat} {F : Nat → Value} (h : oF (oL z0 zc kS vS ad bt) a = .inr (640, F)) : a = zc ∧ F = fun j => .ref (ad j) := by
  rcases oL_mem (oF_mem h (ol_ne (by omega))) with h | h | ⟨i, hi, h⟩ | ⟨i, hi, h⟩ | ⟨i, hi, h⟩ <;> simp only [Prod.mk.injEq, Sum.inr.injEq] at h
  · exfalso; omega
  · exact ⟨h.1, h.2.2⟩
  all_goals (exfalso; omega)
theorem oF_600 {z0 zc : Nat} {kS vS ad : Nat → Nat} {bt : Nat → Nat → Int32} {a i : Nat} {F : Nat → Value} (hi : i < 4) (h : oF (oL z0 zc kS vS ad bt) a = .inr (600 + i, F)) : a = kS i ∧ F = fun k => if k = 0 then .ref (vS i) else .int 0 := by
  rcases oL_mem (oF_mem h (ol_ne (by omega))) with h | h | ⟨j, hj, h⟩ | ⟨j, hj, h⟩ | ⟨j, hj, h⟩ <;> simp only [Prod.mk.injEq, Sum.inr.injEq] at h
  · exfalso; omega
  · exfalso; omega
  · obtain ⟨h1, h2, h3⟩ := h
    obtain rfl : i = j := by omega
    exact ⟨h1, h3⟩
  all_goals (exfalso; omega)
theorem oF_610 {z0 zc : Nat} {kS vS ad : Nat → Nat} {bt : Nat → Nat → Int32} {a i : Nat} {F : Nat → Value} (hi : i < 4) (h : oF (oL z0 zc kS vS ad bt) a = .inr (610 + i, F)) : a = vS i ∧ F = fun j => .int (bt i j) := by
  rcases oL_mem (oF_mem h (ol_ne (by omega))) with h | h | ⟨j, hj, h⟩ | ⟨j, hj, h⟩ | ⟨j, hj, h⟩ <;> simp only [Prod.mk.injEq, Sum.inr.injEq] at h
  · exfalso; omega
  · exfalso; omega
  · exfalso; omega
  · obtain ⟨h1, h2, h3⟩ := h
    obtain rfl : i = j := by omega
    exact ⟨h1, h3⟩
  · exfalso; omega
theorem oF_700 {z0 zc : Nat} {kS vS ad : Nat → Nat} {bt : Nat → Nat → Int32} {a i : Nat} {F : Nat → Value} (hi : i < 128) (h : oF (oL z0 zc kS vS ad bt) a = .inr (700 + i, F)) : a = ad (128 + i) ∧ F = fun _ => .int (vb_c (128 + i)) := by
  rcases oL_mem (oF_mem h (ol_ne (by omega))) with h | h | ⟨j, hj, h⟩ | ⟨j, hj, h⟩ | ⟨j, hj, h⟩ <;> simp only [Prod.mk.injEq, Sum.inr.injEq] at h
  · exfalso; omega
  · exfalso; omega
  · exfalso; omega
  · exfalso; omega
  · obtain ⟨h1, h2, h3⟩ := h
    obtain rfl : i = j := by omega
    exact ⟨h1, h3⟩
theorem st_nw {A : Array Value} {s : State} (hts : ∀ w ∈ lw_tbl, w.before A s = true) : ∀ w ∈ lw_nw, va_Nw w s := by
  intro w hw
  obtain ⟨h1, h2⟩ := List.mem_filter.mp hw
  refine va_Nw.of ?_ (hts w h1)
  cases w <;> first | rfl | (simp [nw_is] at h2)
set_option maxRecDepth 100000 in
set_option maxHeartbeats 4000000 in
theorem st_all {p : Program} {s : State} {m : MethodId} {meth : Method} {c : Code} {b L : Nat} {xs : Nat → Int32} (C0 : lw_At p s m meth c b L xs) :
    ∃ (E : Ev) (σ0 : Hs), Cx E s.heap.size p s m #[Value.ref b] meth c cL_law RL 4 (some .boolean) ∧ Hw E s.heap.size s.heap σ0 s.heap [] ∧ Ol σ0 := by
  obtain ⟨hx, hb, hr, hml, hown, hts, hX, hbl, hlocks, hgv⟩ := id C0
  have hg : ∀ w ∈ lw_good, w.before #[Value.ref b] s = true := fun w hw => hts w (List.mem_filter.mp hw).1
  have hs : ∀ w ∈ lw_fl, w.before #[Value.ref b] s = true := fl2_of _ hgv
  have hA : ∀ a : Nat, a < s.heap.size → ¬ (fun q : Nat => s.heap.size ≤ q) a := fun a h => Nat.not_le.mpr h
  obtain ⟨dC, dI, hKc⟩ := st_K hg
  have o5 : (Cond.arrayOver (.object "LeapNet$Tray")).before #[Value.ref b] s = true := hts _ (by decide +kernel)
  have o6 : (Cond.arrayOver (.object "LeapNet$Land")).before #[Value.ref b] s = true := hts _ (by decide +kernel)
  have o7 : (Cond.arrayOver (.object "java/lang/Object")).before #[Value.ref b] s = true := hts _ (by decide +kernel)
  obtain ⟨aC, hKa⟩ := st_tys hg o5 o6 o7
  obtain ⟨z0, ez0, h0⟩ := oT_of (s := s) (tm := ST0) (ty := .object "java/lang/Object") (N := 0) (f := fun _ => .ref 0) (by omega) (hs _ (by decide +kernel)) (va_eqt (hs _ (by decide +kernel))) (fun j hj => absurd hj (by omega))
  obtain ⟨ad, hC, had⟩ := vb_Cof (s := s) (st := STc) (A := fun q : Nat => s.heap.size ≤ q) rfl (va_eqt (hs _ (by decide +kernel))) (hs _ (by decide +kernel)) hA
  obtain ⟨zc, ezc, hc⟩ := oT_of (s := s) (tm := STc) (ty := .object "java/lang/Integer") (N := 256) (f := fun j => .ref (ad j)) (by omega) (hs _ (by decide +kernel)) (va_eqt (hs _ (by decide +kernel))) had
  obtain ⟨k0, v0, e0, s0, c0, r0, t0⟩ := st_text (s := s) (tm := STx0) (N := 13) (g := btx 0) (by omega) (hs _ (by decide +kernel)) (hs _ (by decide +kernel)) (hs _ (by decide +kernel)) (hs _ (by decide +kernel)) (fun j hj => hs _ (tx_in0 j hj)) hA
  obtain ⟨k1, v1, e1, s1, c1, r1, t1⟩ := st_text (s := s) (tm := STx1) (N := 107) (g := btx 1) (by omega) (hs _ (by decide +kernel)) (hs _ (by decide +kernel)) (hs _ (by decide +kernel)) (hs _ (by decide +kernel)) (fun j hj => hs _ (tx_in1 j hj)) hA
  obtain ⟨k2, v2, e2, s2, c2, r2, t2⟩ := st_text (s := s) (tm := STx2) (N := 15) (g := btx 2) (by omega) (hs _ (by decide +kernel)) (hs _ (by decide +kernel)) (hs _ (by decide +kernel)) (hs _ (by decide +kernel)) (fun j hj => hs _ (tx_in2 j hj)) hA
  obtain ⟨k3, v3, e3, s3, c3, r3, t3⟩ := st_text (s := s) (tm := STx3) (N := 45) (g := btx 3) (by omega) (hs _ (by decide +kernel)) (hs _ (by decide +kernel)) (hs _ (by decide +kernel)) (hs _ (by decide +kernel)) (fun j hj => hs _ (tx_in3 j hj)) hA
  have n01 : k0 ≠ k1 := by first | exact va_neR (hs _ (by decide +kernel)) e0 e1 | exact (va_neR (hs _ (by decide +kernel)) e1 e0).symm
  have n02 : k0 ≠ k2 := by first | exact va_neR (hs _ (by decide +kernel)) e0 e2 | exact (va_neR (hs _ (by decide +kernel)) e2 e0).symm
  have n03 : k0 ≠ k3 := by first | exact va_neR (hs _ (by decide +kernel)) e0 e3 | exact (va_neR (hs _ (by decide +kernel)) e3 e0).symm
  have n12 : k1 ≠ k2 := by first | exact va_neR (hs _ (by decide +kernel)) e1 e2 | exact (va_neR (hs _ (by decide +kernel)) e2 e1).symm
  have n13 : k1 ≠ k3 := by first | exact va_neR (hs _ (by decide +kernel)) e1 e3 | exact (va_neR (hs _ (by decide +kernel)) e3 e1).symm
  have n23 : k2 ≠ k3 := by first | exact va_neR (hs _ (by decide +kernel)) e2 e3 | exact (va_neR (hs _ (by decide +kernel)) e3 e2).symm
  obtain ⟨mi, hmi⟩ := va_Mi.of (s := s) (C := "[Ljava/lang/Object;") (hs _ (by decide +kernel))
  obtain ⟨kS, hkS⟩ : ∃ kS : Nat → Nat, kS = fun i => if i = 0 then k0 else if i = 1 then k1 else if i = 2 then k2 else k3 := ⟨_, rfl⟩
  obtain ⟨vS, hvS⟩ : ∃ vS : Nat → Nat, vS = fun i => if i = 0 then v0 else if i = 1 then v1 else if i = 2 then v2 else v3 := ⟨_, rfl⟩
  have hS : ∀ i, i < 4 → va_O "java/lang/String" (kS i) (fun q : Nat => s.heap.size ≤ q) s s.heap ∧ va_OF "java/lang/String" "coder" "B" (.int 0) (kS i) (fun q : Nat => s.heap.size ≤ q) s s.heap ∧ va_OF "java/lang/String" "value" "[B" (.ref (vS i)) (kS i) (fun q : Nat => s.heap.size ≤ q) s s.heap := by
    intro i hi
    subst hkS hvS
    match i, hi with
    | 0, _ => exact ⟨s0, c0, r0⟩
    | 1, _ => exact ⟨s1, c1, r1⟩
    | 2, _ => exact ⟨s2, c2, r2⟩
    | 3, _ => exact ⟨s3, c3, r3⟩
    | i + 4, h => exact absurd h (by omega)
  have hV : ∀ i, i < 4 → oT s .byte (vS i) (oLen (610 + i)) (fun j => .int (btx i j)) := by
    intro i hi
    subst hvS
    match i, hi with
    | 0, _ => exact t0
    | 1, _ => exact t1
    | 2, _ => exact t2
    | 3, _ => exact t3
    | i + 4, h => exact absurd h (by omega)
  have hk : ∀ i j, i < 4 → j < 4 → kS i = kS j → i = j := by
    intro i j hi hj e
    subst hkS
    match i, hi, j, hj with
    | 0, _, 0, _ => rfl
    | 0, _, 1, _ => exact absurd e n01
    | 0, _, 2, _ => exact absurd e n02
    | 0, _, 3, _ => exact absurd e n03
    | 1, _, 0, _ => exact absurd e.symm n01
    | 1, _, 1, _ => rfl
    | 1, _, 2, _ => exact absurd e n12
    | 1, _, 3, _ => exact absurd e n13
    | 2, _, 0, _ => exact absurd e.symm n02
    | 2, _, 1, _ => exact absurd e.symm n12
    | 2, _, 2, _ => rfl
    | 2, _, 3, _ => exact absurd e n23
    | 3, _, 0, _ => exact absurd e.symm n03
    | 3, _, 1, _ => exact absurd e.symm n13
    | 3, _, 2, _ => exact absurd e.symm n23
    | 3, _, 3, _ => rfl
    | i + 4, h, _, _ => exact absurd h (by omega)
    | _, _, j + 4, h => exact absurd h (by omega)
  have hI : ∀ k, k < 256 → va_O "java/lang/Integer" (ad k) (fun q : Nat => s.heap.size ≤ q) s s.heap ∧ va_OF "java/lang/Integer" "value" "I" (.int (vb_c k)) (ad k) (fun q : Nat => s.heap.size ≤ q) s s.heap := fun k hk => ⟨hC.1 k hk, hC.2 k hk⟩
  have hfun := oL_fun h0 hc hS hV hk hI (hg _ in1_J6)
  have hlt : ∀ q ∈ oL z0 zc kS vS ad btx, q.1 < s.heap.size := by
    intro q hq
    rcases oL_mem hq with rfl | rfl | ⟨i, hi, rfl⟩ | ⟨i, hi, rfl⟩ | ⟨i, hi, rfl⟩
    · obtain ⟨cell, h1, -⟩ := h0; exact (Array.getElem?_eq_some_iff.mp h1).1
    · obtain ⟨cell, h1, -⟩ := hc; exact (Array.getElem?_eq_some_iff.mp h1).1
    · obtain ⟨cell, h1, -⟩ := (hS i hi).1; exact (Array.getElem?_eq_some_iff.mp h1).1
    · obtain ⟨cell, h1, -⟩ := hV i hi; exact (Array.getElem?_eq_some_iff.mp h1).1
    · obtain ⟨cell, h1, -⟩ := (hI (128 + i) (by omega)).1; exact (Array.getElem?_eq_some_iff.mp h1).1
  have hno : ∀ a, s.heap.size ≤ a → oF (oL z0 zc kS vS ad btx) a = ce_no := by
    intro a ha
    apply Classical.byContradiction
    intro hn
    have := hlt _ (oF_mem rfl hn)
    simp only at this
    omega
  obtain ⟨sA, hsA⟩ : ∃ sA : Nat → Nat, sA = fun k => if k = 0 then z0 else if k = 1 then zc else if k = 2 then mi else kS (k - 10) := ⟨_, rfl⟩
  refine ⟨(dC, dI, aC, oF (oL z0 zc kS vS ad btx), sA), (s.heap.size, oF (oL z0 zc kS vS ad btx), sA), ⟨⟨hx, hb, hml, hown, hg⟩, ⟨hr, hlocks⟩, Nat.le_refl _, ⟨hKc, hKa _ rfl⟩, st_nw hts, va_AO.of o5, va_AO.of o6, va_AO.of o7, ?_, ?_⟩, ⟨⟨⟨Nat.le_refl _, rfl, hno, fun a _ => ⟨rfl, oF_old oL_old a⟩, rfl⟩, ?_⟩, va_S.rf⟩, hno, vS, ad, ?_, ?_, ?_, ?_⟩
  · refine ⟨fun a F h => ?_, fun a i F hi h => ?_, fun a i F hi h => ?_, fun a F h => ?_, fun a i F hi h => ?_, ?_, ?_, ?_, ?_, ?_, ?_, ?_⟩
    · obtain ⟨rfl, rfl⟩ := oF_500 h
      exact h0.va hA
    · obtain ⟨rfl, rfl⟩ := oF_600 hi h
      exact ⟨(hS i hi).1, (hS i hi).2.2, (hS i hi).2.1⟩
    · obtain ⟨rfl, rfl⟩ := oF_610 hi h
      exact (hV i hi).va hA
    · obtain ⟨rfl, rfl⟩ := oF_640 h
      exact hc.va hA
    · obtain ⟨rfl, rfl⟩ := oF_700 hi h
      exact hI (128 + i) (by omega)
    · subst hsA
      exact va_Zof (args := #[Value.ref b]) (hts _ (by decide +kernel)) (hts _ (by decide +kernel)) ez0 hA
    · exact va_Zof (args := #[Value.ref b]) (hts _ (by decide +kernel)) (hts _ (by decide +kernel)) (va_eqt (hs _ (by decide +kernel))) hA
    · subst hsA
      exact va_Zof (args := #[Value.ref b]) (hts _ (by decide +kernel)) (hts _ (by decide +kernel)) ezc hA
    · exact va_Zof (args := #[Value.ref b]) (hts _ (by decide +kernel)) (hts _ (by decide +kernel)) (va_eqt (hs _ (by decide +kernel))) hA
    · exact va_Zqof (args := #[Value.ref b]) (hts _ (by decide +kernel)) (hts _ (by decide +kernel)) (hs _ (by decide +kernel)) hA
    · subst hsA
      exact hmi
    · exact va_Dc.of (A := #[Value.ref b]) (hts _ (by decide +kernel))
  · subst hsA hkS
    exact ⟨vk_R.of (A := #[Value.ref b]) (hts _ (by decide +kernel)) e0, vk_R.of (A := #[Value.ref b]) (hts _ (by decide +kernel)) e1, vk_R.of (A := #[Value.ref b]) (hts _ (by decide +kernel)) e2, vk_R.of (A := #[Value.ref b]) (hts _ (by decide +kernel)) e3⟩
  · intro k q h
    simp [wl] at h
  · subst hsA
    exact oF_at hfun List.mem_cons_self
  · subst hsA
    exact oF_at hfun (List.mem_cons_of_mem _ List.mem_cons_self)
  · intro i hi
    refine ⟨?_, ?_⟩
    · have e : sA (10 + i) = kS i := by subst hsA; show (if 10 + i = 0 then z0 else if 10 + i = 1 then zc else if 10 + i = 2 then mi else kS (10 + i - 10)) = kS i; rw [if_neg (by omega), if_neg (by omega), if_neg (by omega), Nat.add_sub_cancel_left]
      show oF _ (sA (10 + i)) = _
      rw [e]
      exact oF_at hfun (List.mem_cons_of_mem _ (List.mem_cons_of_mem _ (List.mem_append_left _ (List.mem_map.mpr ⟨i, List.mem_range.mpr hi, rfl⟩))))
    · exact oF_at hfun (List.mem_cons_of_mem _ (List.mem_cons_of_mem _ (List.mem_append_right _ (List.mem_append_left _ (List.mem_map.mpr ⟨i, List.mem_range.mpr hi, rfl⟩)))))
  · intro i hi
    exact oF_at hfun (List.mem_cons_of_mem _ (List.mem_cons_of_mem _ (List.mem_append_right _ (List.mem_append_right _ (List.mem_map.mpr ⟨i, List.mem_range.mpr hi, rfl⟩)))))
/-- the claim's walk out of ONE pure fact -/
theorem whole_of (hlaw : ∀ (xs : Nat → Int32) (L : Nat) (σ : Hs), L ≤ 3072 → Ol σ → lawF xs L σ = some 1) {p : Program} {e : Env} {s : State} {m : MethodId} {below : List Frame} {meth : Method} {c : Code} (l : Launch) {b L : Nat} {xs : Nat → Int32} (hL : L ≤ 3072) (C0 : lw_At p s m meth c b L xs) : W p l e room_1 s m #[Value.ref b] below meth c s.heap [] 0 0 (lw_Z below #[Value.ref b] s) (entryFrame m ([Value.ref b] : List Value).toArray 4) := by
  obtain ⟨E, σ0, hC, hH, hO⟩ := st_all C0
  obtain ⟨hx, hb, hr, hml, hown, hts, hX, hbl, hlocks, hgv⟩ := id C0
  have hl := lv_entry ([.ref b]) (n := 4) (Nat.le_of_ble_eq_true rfl)
  rw [lg_entry_eq]
  generalize (lg_sl ([.ref b]) ++ List.replicate (4 - (lg_sl ([.ref b])).length) Slot.unset).toArray = ls at hl ⊢
  have hl : lv_has ls 4 [(0, .ref b)] := hl
  exact wL_all hX hbl hbl rfl hC σ0 s.heap [] ls hH hl (hlaw xs L σ0 hL hO)
