/-! ===== the start: class numbers, slots, array classes ===== -/
theorem st_cls {s : State} (h : ∀ q ∈ vwCl, ∃ (cC : ClassId) (iS : Nat → Nat), u_Kn s q.1 q.2.1 q.2.2 cC iS) : ∃ (dC : Nat → ClassId) (dI : Nat → Nat → Nat), ∀ (k : Nat) (q : vw_C), vwCl[k]? = some q → u_Kn s q.1 q.2.1 q.2.2 (dC k) (dI k) := by
  have h0 : ∀ k : Nat, ∃ z : ClassId × (Nat → Nat), ∀ q : vw_C, vwCl[k]? = some q → u_Kn s q.1 q.2.1 q.2.2 z.1 z.2 := by
    intro k
    cases hk : vwCl[k]? with
    | none => exact ⟨(0, fun _ => 0), fun q hq => by cases hq⟩
    | some q0 =>
      obtain ⟨cC, iS, hK⟩ := h q0 (List.mem_of_getElem? hk)
      exact ⟨(cC, iS), fun q hq => by cases hq; exact hK⟩
  obtain ⟨f, hf⟩ := Classical.axiomOfChoice h0
  exact ⟨fun k => (f k).1, fun k => (f k).2, hf⟩
theorem in1_J6 : Cond.instantiable RJ6 1 ∈ lw_good := List.mem_filter.mpr ⟨by decide +kernel, rfl⟩
theorem in_J6 : ∀ w ∈ u_ws RJ6 TJ6 1, w ∈ lw_good := by
  have h : ∀ k, k < 1 → u_lay RJ6 TJ6 k ∈ lw_good := by
    intro k hk
    match k, hk with
    | 0, _ => exact List.mem_filter.mpr ⟨by decide +kernel, rfl⟩
  intro w hw
  obtain ⟨k, hk, rfl⟩ := List.mem_map.mp hw
  exact h k (List.mem_range.mp hk)
theorem st_K {s : State} {A : Array Value} (hg : ∀ w ∈ lw_good, w.before A s = true) : ∃ (dC : Nat → ClassId) (dI : Nat → Nat → Nat), ∀ (k : Nat) (q : vw_C), vwCl[k]? = some q → u_Kn s q.1 q.2.1 q.2.2 (dC k) (dI k) := by
  refine st_cls ?_
  refine List.forall_mem_cons.mpr ⟨u_known hg in_J6 (hg _ in1_J6), ?_⟩
  refine List.forall_mem_cons.mpr ⟨u_known hg in_Jx4a65c (hg _ in1_Jx4a65c), ?_⟩
  refine List.forall_mem_cons.mpr ⟨u_known hg in_X0 (hg _ in1_X0), ?_⟩
  refine List.forall_mem_cons.mpr ⟨u_known hg in_X1 (hg _ in1_X1), ?_⟩
  refine List.forall_mem_cons.mpr ⟨u_known hg in_X2 (hg _ in1_X2), ?_⟩
  refine List.forall_mem_cons.mpr ⟨u_known hg in_X3 (hg _ in1_X3), ?_⟩
  refine List.forall_mem_cons.mpr ⟨u_known hg in_X4 (hg _ in1_X4), ?_⟩
  refine List.forall_mem_cons.mpr ⟨u_known hg in_X5 (hg _ in1_X5), ?_⟩
  refine List.forall_mem_cons.mpr ⟨u_known hg in_X6 (hg _ in1_X6), ?_⟩
  refine List.forall_mem_cons.mpr ⟨u_known hg in_X7 (hg _ in1_X7), ?_⟩
  refine List.forall_mem_cons.mpr ⟨u_known hg in_X8 (hg _ in1_X8), ?_⟩
  refine List.forall_mem_cons.mpr ⟨u_known hg in_X9 (hg _ in1_X9), ?_⟩
  refine List.forall_mem_cons.mpr ⟨u_known hg in_X10 (hg _ in1_X10), ?_⟩
  refine List.forall_mem_cons.mpr ⟨u_known hg in_X11 (hg _ in1_X11), ?_⟩
  refine List.forall_mem_cons.mpr ⟨u_known hg in_X12 (hg _ in1_X12), ?_⟩
  intro q hq
  cases hq
theorem st_arr {s : State} {A : Array Value} {ty : FieldType} (hn : va_RA s = va_RA s) (hp : ∀ cA, s.vm.findClass ("[" ++ ty.toString) = some cA → va_RA s cA ty) (h : (Cond.arrayClass ty).before A s = true) : ∃ cA : ClassId, ArrOfT s cA ty ∧ va_RA s cA ty := by
  obtain ⟨cA, k, comp, h1, h2, h3⟩ := Cond.arrayClass_spec h
  exact ⟨cA, fun N z => ⟨(fun k h => by cases h), k, h2, comp, h3⟩, hp cA h1⟩
theorem st_arrO {s : State} {A : Array Value} {C : String} (h : (Cond.arrayOver (.object C)).before A s = true) : ∃ cA : ClassId, ArrOfT s cA (.object C) ∧ va_RA s cA (.object C) := by
  obtain ⟨comp, cA, k, h1, h2, h3, h4, h5⟩ := Cond.arrayOver_spec h
  exact ⟨cA, fun N z => ⟨(fun k h => by cases h), k, h3, comp, h4⟩, k, comp, h3, h4, h1, h5⟩
theorem st_tys {s : State} {A : Array Value} (hg : ∀ w ∈ lw_good, w.before A s = true) (h5 : (Cond.arrayOver (.object "LeapNet$Tray")).before A s = true) (h6 : (Cond.arrayOver (.object "LeapNet$Land")).before A s = true) (h7 : (Cond.arrayOver (.object "java/lang/Object")).before A s = true) :
    ∃ aC : Nat → ClassId, ∀ E : Ev, E.2.2.1 = aC → ∀ (k : Nat) (q : ClassId × FieldType), (tysE E)[k]? = some q → ArrOfT s q.1 q.2 ∧ va_RA s q.1 q.2 := by
  obtain ⟨c0, g0⟩ := st_arr (s := s) (ty := .int) rfl (fun _ h => h) (hg _ ac_int)
  obtain ⟨c1, g1⟩ := st_arr (s := s) (ty := .long) rfl (fun _ h => h) (hg _ ac_long)
  obtain ⟨c2, g2⟩ := st_arr (s := s) (ty := .byte) rfl (fun _ h => h) (hg _ ac_byte)
  obtain ⟨c3, g3⟩ := st_arr (s := s) (ty := .boolean) rfl (fun _ h => h) (hg _ ac_boolean)
  obtain ⟨c4, g4⟩ := st_arr (s := s) (ty := .char) rfl (fun _ h => h) (hg _ ac_char)
  obtain ⟨c5, g5⟩ := st_arrO h5
  obtain ⟨c6, g6⟩ := st_arrO h6
  obtain ⟨c7, g7⟩ := st_arrO h7
  refine ⟨fun k => if k = 0 then c0 else if k = 1 then c1 else if k = 2 then c2 else if k = 3 then c3 else if k = 4 then c4 else if k = 5 then c5 else if k = 6 then c6 else c7, ?_⟩
  intro E hE k q hq
  unfold tysE at hq
  rw [hE] at hq
  match k, hq with
  | 0, hq => cases hq; exact g0
  | 1, hq => cases hq; exact g1
  | 2, hq => cases hq; exact g2
  | 3, hq => cases hq; exact g3
  | 4, hq => cases hq; exact g4
  | 5, hq => cases hq; exact g5
  | 6, hq => cases hq; exact g6
  | 7, hq => cases hq; exact g7
  | k + 8, hq => simp at hq
