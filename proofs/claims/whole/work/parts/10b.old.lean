/-! ===== the start: the JDK's old things ===== -/
/-- an array in the heap, its size exact -/
def oT (s : State) (ty : FieldType) (t N : Nat) (f : Nat → Value) : Prop := ∃ cell : Cell, s.heap[t]? = some cell ∧ s.isArrayOf cell ty ∧ cell.vm ≠ .unknown ∧ cell.slots.size = N ∧ ∀ j : Nat, j < N → cell.slots[j]? = some (f j)
theorem oT.va {s : State} {ty : FieldType} {t N : Nat} {f : Nat → Value} {A : Nat → Prop} (h : oT s ty t N f) (hA : ∀ a : Nat, a < s.heap.size → ¬ A a) : va_T ty t N f A s s.heap := by
  obtain ⟨cell, h1, h2, h3, h4, h5⟩ := h
  exact ⟨cell, h1, h2, h3, by omega, by rw [h4], h5, hA _ (Array.getElem?_eq_some_iff.mp h1).1⟩
theorem oT_of {args : Array Value} {s : State} {tm : Term} {ty : FieldType} {N : Nat} {f : Nat → Value} (hN : N < 2 ^ 31) (harr : (Cond.arrayOf tm ty).before args s = true) (hlen : (Term.length tm).eval args s none [] s = some (.int (Int32.ofNat N))) (hel : ∀ j : Nat, j < N → (Term.elem tm (.int (Int32.ofNat j))).eval args s none [] s = some (f j)) : ∃ t : Nat, tm.eval args s none [] s = some (.ref t) ∧ oT s ty t N f := by
  obtain ⟨t, cell, ht, hat, hv⟩ := Term.length_spec hlen
  obtain ⟨hcell, hkn, -, -⟩ := State.arrayAt?_spec hat
  obtain ⟨hof, -⟩ := Cond.arrayOf_spec harr ht hcell
  have hsz : cell.slots.size < 2 ^ 31 := by
    simp only [Term.eval, ht, hat, Option.bind_eq_bind, Option.bind_some] at hlen
    by_cases hlt : cell.slots.size < 2147483648
    · exact hlt
    · simp [hlt] at hlen
  have hN2 : cell.slots.size = N := by
    have e : Int32.ofNat cell.slots.size = Int32.ofNat N := (Value.int.inj hv).symm
    have h1 : (Int32.ofNat cell.slots.size).toNatClampNeg = cell.slots.size := Int32.toNatClampNeg_ofNat_of_lt hsz
    have h2 : (Int32.ofNat N).toNatClampNeg = N := Int32.toNatClampNeg_ofNat_of_lt hN
    rw [e, h2] at h1
    exact h1.symm
  refine ⟨t, ht, cell, hcell, hof, hkn, hN2, fun j hj => ?_⟩
  obtain ⟨a, i, cell2, h1, h2, h3, h4, h5⟩ := Term.elem_spec (hel j hj)
  cases ht.symm.trans h1
  cases hat.symm.trans h3
  have hi : i = Int32.ofNat j := by
    have e : (Term.int (Int32.ofNat j)).eval args s none [] s = some (.int (Int32.ofNat j)) := rfl
    cases h2.symm.trans e
    rfl
  have hc : i.toNatClampNeg = j := by rw [hi]; exact Int32.toNatClampNeg_ofNat_of_lt (Nat.lt_trans hj hN)
  rw [hc] at h5
  exact h5
theorem oT.size {s : State} {ty ty' : FieldType} {t N N' : Nat} {f f' : Nat → Value} (h : oT s ty t N f) (h' : oT s ty' t N' f') : N = N' := by
  obtain ⟨c1, h1, -, -, h4, -⟩ := h
  obtain ⟨c2, g1, -, -, g4, -⟩ := h'
  cases h1.symm.trans g1
  omega
theorem oT.noref {s : State} {ty : FieldType} {a N v : Nat} {g : Nat → Int32} {o n d : String} {A : Nat → Prop} (h : oT s ty a N (fun j => .int (g j))) (h' : va_OF o n d (.ref v) a A s s.heap) : False := by
  obtain ⟨c1, h1, -, -, h4, h5⟩ := h
  obtain ⟨cf, k, i, f, c2, g1, g2, g3, g4, g5, -⟩ := h'
  cases h1.symm.trans g3
  have := (Array.getElem?_eq_some_iff.mp g5).1
  have := (h5 f.slot (by omega)).symm.trans g5
  cases this
theorem oT.noint {s : State} {ty : FieldType} {a N : Nat} {x : Int32} {g : Nat → Nat} {o n d : String} {A : Nat → Prop} (h : oT s ty a N (fun j => .ref (g j))) (h' : va_OF o n d (.int x) a A s s.heap) : False := by
  obtain ⟨c1, h1, -, -, h4, h5⟩ := h
  obtain ⟨cf, k, i, f, c2, g1, g2, g3, g4, g5, -⟩ := h'
  cases h1.symm.trans g3
  have := (Array.getElem?_eq_some_iff.mp g5).1
  have := (h5 f.slot (by omega)).symm.trans g5
  cases this
theorem oT.noord {args : Array Value} {s : State} {ty : FieldType} {a N n : Nat} {f : Nat → Value} {C : String} {A : Nat → Prop} (h : oT s ty a N f) (hi : (Cond.instantiable C n).before args s = true) (h' : va_O C a A s s.heap) : False := by
  obtain ⟨c1, h1, ⟨-, k, h2, comp, h3⟩, -⟩ := h
  obtain ⟨c2, g1, -, g3, -⟩ := h'
  cases h1.symm.trans g1
  obtain ⟨c, kk, q1, q2, q3, -⟩ := Cond.instantiable_spec hi
  cases g3.symm.trans q1
  cases h2.symm.trans q2
  rw [h3] at q3
  cases q3
theorem fc_name {vm : Vm} {n n' : String} {c : ClassId} (h : vm.findClass n = some c) (h' : vm.findClass n' = some c) : n = n' := by
  unfold Vm.findClass at h h'
  obtain ⟨hlt, h1, -⟩ := Array.findIdx?_eq_some_iff_getElem.mp h
  obtain ⟨_, h2, -⟩ := Array.findIdx?_eq_some_iff_getElem.mp h'
  simp only [Bool.and_eq_true, beq_iff_eq] at h1 h2
  exact h1.1.1.1.symm.trans h2.1.1.1
theorem va_O.cls {s : State} {C C' : String} {a : Nat} {A A' : Nat → Prop} (h : va_O C a A s s.heap) (h' : va_O C' a A' s s.heap) : C = C' := by
  obtain ⟨c1, h1, -, h3, -⟩ := h
  obtain ⟨c2, g1, -, g3, -⟩ := h'
  cases h1.symm.trans g1
  exact fc_name h3 g3
theorem va_OF.eqv {s : State} {o n d : String} {v v' : Value} {a : Nat} {A A' : Nat → Prop} (h : va_OF o n d v a A s s.heap) (h' : va_OF o n d v' a A' s s.heap) : v = v' := by
  obtain ⟨cf, k, i, f, c2, g1, g2, g3, g4, g5, -⟩ := h
  obtain ⟨cf', k', i', f', c2', j1, j2, j3, j4, j5, -⟩ := h'
  cases g1.symm.trans j1
  cases g3.symm.trans j3
  exact Option.some.inj (g5.symm.trans j5)
theorem st_text {args : Array Value} {s : State} {tm : Term} {N : Nat} {g : Nat → Int32} {A : Nat → Prop} (hN : N < 2 ^ 31) (hex : (Cond.exactly tm "java/lang/String").before args s = true) (hco : (Cond.eq (.field tm "java/lang/String" "coder" "B") (.int 0)).before args s = true)
    (har : (Cond.arrayOf (.field tm "java/lang/String" "value" "[B") .byte).before args s = true) (hle : (Cond.eq (.length (.field tm "java/lang/String" "value" "[B")) (.int (Int32.ofNat N))).before args s = true)
    (hel : ∀ j : Nat, j < N → (Cond.eq (.elem (.field tm "java/lang/String" "value" "[B") (.int (Int32.ofNat j))) (.int (g j))).before args s = true) (hA : ∀ a : Nat, a < s.heap.size → ¬ A a) :
    ∃ a v : Nat, tm.eval args s none [] s = some (.ref a) ∧ va_O "java/lang/String" a A s s.heap ∧ va_OF "java/lang/String" "coder" "B" (.int 0) a A s s.heap ∧ va_OF "java/lang/String" "value" "[B" (.ref v) a A s s.heap ∧ oT s .byte v N (fun j => .int (g j)) := by
  obtain ⟨a, c, cA, kA, q1, q2, q3, q4, q5, q6, -⟩ := Cond.exactly_spec (args := args) (first := s) (o := none) (s := s) (idx := []) (t := tm) (cls := "java/lang/String") hex
  obtain ⟨t, ht, hT⟩ := oT_of (f := fun j => .int (g j)) hN har (va_eqt hle) (fun j hj => va_eqt (hel j hj))
  exact ⟨a, t, q1, ⟨cA, q3, q5, by rw [q6]; exact q2, hA a (Array.getElem?_eq_some_iff.mp q3).1⟩, vk_OFof q1 (va_eqt hco) hA, vk_OFof q1 ht hA, hT⟩
/-- the old things by their addresses -/
def oL (z0 zc : Nat) (kS vS ad : Nat → Nat) (bt : Nat → Nat → Int32) : List (Nat × Ce) :=
  (z0, .inr (500, fun _ => .ref 0)) :: (zc, .inr (640, fun j => .ref (ad j))) :: ((List.range 4).map (fun i => (kS i, (.inr (600 + i, fun k => if k = 0 then .ref (vS i) else .int 0) : Ce))) ++ ((List.range 4).map (fun i => (vS i, (.inr (610 + i, fun j => .int (bt i j)) : Ce))) ++ (List.range 128).map (fun i => (ad (128 + i), (.inr (700 + i, fun _ => .int (vb_c (128 + i))) : Ce)))))
def oF (L : List (Nat × Ce)) (a : Nat) : Ce := ((L.find? (fun q => q.1 == a)).map (·.2)).getD ce_no
theorem oF_mem {L : List (Nat × Ce)} {a : Nat} {c : Ce} (h : oF L a = c) (hn : c ≠ ce_no) : (a, c) ∈ L := by
  unfold oF at h
  cases hf : L.find? (fun q => q.1 == a) with
  | none => rw [hf] at h; exact absurd h.symm hn
  | some q =>
    rw [hf] at h
    have h1 := List.mem_of_find?_eq_some hf
    have h2 : q.1 = a := by simpa using List.find?_some hf
    rw [← h2, ← (show q.2 = c from h)]
    exact h1
theorem oF_at {L : List (Nat × Ce)} (hL : ∀ p ∈ L, ∀ q ∈ L, p.1 = q.1 → p.2 = q.2) {a : Nat} {c : Ce} (h : (a, c) ∈ L) : oF L a = c := by
  unfold oF
  cases hf : L.find? (fun q => q.1 == a) with
  | none =>
    have := List.find?_eq_none.mp hf _ h
    simp at this
  | some q =>
    have h1 := List.mem_of_find?_eq_some hf
    have h2 : q.1 = a := by simpa using List.find?_some hf
    exact hL q h1 (a, c) h h2
theorem oF_old {L : List (Nat × Ce)} (hL : ∀ p ∈ L, isOld p.2) (a : Nat) : isOld (oF L a) := by
  unfold oF
  cases hf : L.find? (fun q => q.1 == a) with
  | none => show 500 ≤ 999; omega
  | some q => exact hL q (List.mem_of_find?_eq_some hf)
theorem oL_mem {z0 zc : Nat} {kS vS ad : Nat → Nat} {bt : Nat → Nat → Int32} {p : Nat × Ce} (h : p ∈ oL z0 zc kS vS ad bt) :
    p = (z0, .inr (500, fun _ => .ref 0)) ∨ p = (zc, .inr (640, fun j => .ref (ad j))) ∨ (∃ i, i < 4 ∧ p = (kS i, .inr (600 + i, fun k => if k = 0 then .ref (vS i) else .int 0))) ∨ (∃ i, i < 4 ∧ p = (vS i, .inr (610 + i, fun j => .int (bt i j)))) ∨ ∃ i, i < 128 ∧ p = (ad (128 + i), .inr (700 + i, fun _ => .int (vb_c (128 + i)))) := by
  unfold oL at h
  rcases List.mem_cons.mp h with h | h
  · exact Or.inl h
  rcases List.mem_cons.mp h with h | h
  · exact Or.inr (Or.inl h)
  rcases List.mem_append.mp h with h | h
  · obtain ⟨i, hi, rfl⟩ := List.mem_map.mp h
    exact Or.inr (Or.inr (Or.inl ⟨i, List.mem_range.mp hi, rfl⟩))
  rcases List.mem_append.mp h with h | h
  · obtain ⟨i, hi, rfl⟩ := List.mem_map.mp h
    exact Or.inr (Or.inr (Or.inr (Or.inl ⟨i, List.mem_range.mp hi, rfl⟩)))
  · obtain ⟨i, hi, rfl⟩ := List.mem_map.mp h
    exact Or.inr (Or.inr (Or.inr (Or.inr ⟨i, List.mem_range.mp hi, rfl⟩)))
theorem oL_old {z0 zc : Nat} {kS vS ad : Nat → Nat} {bt : Nat → Nat → Int32} : ∀ p ∈ oL z0 zc kS vS ad bt, isOld p.2 := by
  intro p hp
  rcases oL_mem hp with rfl | rfl | ⟨i, _, rfl⟩ | ⟨i, _, rfl⟩ | ⟨i, _, rfl⟩
  · show 500 ≤ 500; omega
  · show 500 ≤ 640; omega
  · show 500 ≤ 600 + i; omega
  · show 500 ≤ 610 + i; omega
  · show 500 ≤ 700 + i; omega
theorem oLen_inj : ∀ i, i < 4 → ∀ j, j < 4 → oLen (610 + i) = oLen (610 + j) → i = j := by decide
theorem oLen_ne : ∀ i, i < 4 → oLen (610 + i) ≠ 0 ∧ oLen (610 + i) ≠ 256 := by decide
theorem vb_c_inj {i j : Nat} (hi : i < 128) (hj : j < 128) (h : vb_c (128 + i) = vb_c (128 + j)) : i = j := by
  have h1 : Int32.ofNat (128 + i) = Int32.ofNat (128 + j) := by
    have := congrArg (· + (128 : Int32)) h
    simpa [vb_c, Int32.sub_add_cancel] using this
  have h2 := Int32.toNatClampNeg_ofNat_of_lt (n := 128 + i) (by omega)
  have h3 := Int32.toNatClampNeg_ofNat_of_lt (n := 128 + j) (by omega)
  rw [h1, h3] at h2
  omega
theorem oL_fun {args : Array Value} {s : State} {A : Nat → Prop} {z0 zc : Nat} {kS vS ad : Nat → Nat} {bt : Nat → Nat → Int32} (h0 : oT s (.object "java/lang/Object") z0 0 (fun _ => .ref 0)) (hc : oT s (.object "java/lang/Integer") zc 256 (fun j => .ref (ad j)))
    (hS : ∀ i, i < 4 → va_O "java/lang/String" (kS i) A s s.heap ∧ va_OF "java/lang/String" "coder" "B" (.int 0) (kS i) A s s.heap ∧ va_OF "java/lang/String" "value" "[B" (.ref (vS i)) (kS i) A s s.heap) (hV : ∀ i, i < 4 → oT s .byte (vS i) (oLen (610 + i)) (fun j => .int (bt i j))) (hk : ∀ i j, i < 4 → j < 4 → kS i = kS j → i = j)
    (hI : ∀ k, k < 256 → va_O "java/lang/Integer" (ad k) A s s.heap ∧ va_OF "java/lang/Integer" "value" "I" (.int (vb_c k)) (ad k) A s s.heap) (hi : (Cond.instantiable "java/lang/Integer" 1).before args s = true) :
    ∀ p ∈ oL z0 zc kS vS ad bt, ∀ q ∈ oL z0 zc kS vS ad bt, p.1 = q.1 → p.2 = q.2 := by
  intro p hp q hq e
  rcases oL_mem hp with rfl | rfl | ⟨i, hi1, rfl⟩ | ⟨i, hi1, rfl⟩ | ⟨i, hi1, rfl⟩ <;> rcases oL_mem hq with rfl | rfl | ⟨j, hj1, rfl⟩ | ⟨j, hj1, rfl⟩ | ⟨j, hj1, rfl⟩ <;> simp only at e ⊢
  · exact absurd (h0.size (e ▸ hc)) (by decide)
  · exact (h0.noint (e ▸ (hS j hj1).2.1)).elim
  · exact absurd (h0.size (e ▸ hV j hj1)).symm (oLen_ne j hj1).1
  · exact (h0.noord hi (e ▸ (hI (128 + j) (by omega)).1)).elim
  · exact absurd (h0.size (e ▸ hc)) (by decide)
  · exact (hc.noint (e ▸ (hS j hj1).2.1)).elim
  · exact absurd (hc.size (e ▸ hV j hj1)).symm (oLen_ne j hj1).2
  · exact (hc.noord hi (e ▸ (hI (128 + j) (by omega)).1)).elim
  · exact (h0.noint (e ▸ (hS i hi1).2.1)).elim
  · exact (hc.noint (e ▸ (hS i hi1).2.1)).elim
  · rw [hk i j hi1 hj1 e]
  · exact ((hV j hj1).noref (e ▸ (hS i hi1).2.2)).elim
  · exact absurd (va_O.cls (hS i hi1).1 (e ▸ (hI (128 + j) (by omega)).1)) (by decide)
  · exact absurd (h0.size (e ▸ hV i hi1)).symm (oLen_ne i hi1).1
  · exact absurd (hc.size (e ▸ hV i hi1)).symm (oLen_ne i hi1).2
  · exact ((hV i hi1).noref (e ▸ (hS j hj1).2.2)).elim
  · rw [oLen_inj i hi1 j hj1 ((hV i hi1).size (e ▸ hV j hj1))]
  · exact ((hV i hi1).noord hi (e ▸ (hI (128 + j) (by omega)).1)).elim
  · exact (h0.noord hi (e ▸ (hI (128 + i) (by omega)).1)).elim
  · exact (hc.noord hi (e ▸ (hI (128 + i) (by omega)).1)).elim
  · exact absurd (va_O.cls (hS j hj1).1 (e ▸ (hI (128 + i) (by omega)).1)) (by decide)
  · exact ((hV j hj1).noord hi (e ▸ (hI (128 + i) (by omega)).1)).elim
  · have h1 := va_OF.eqv (hI (128 + i) (by omega)).2 (e ▸ (hI (128 + j) (by omega)).2)
    rw [vb_c_inj hi1 hj1 (Value.int.inj h1)]
