/-! ===== the JDK members: models, and rows of casts and stores of references ===== -/
/-- casts, and stores of references -/
def anyO (σ : Hs) (v : Nat) : Option Unit := match σ.2.1 v with
  | .inr o => if o.1 < 15 ∨ (700 ≤ o.1 ∧ o.1 < 828) then some () else none
  | .inl _ => none
def stR (t ci : Nat) (σ : Hs) (a : Nat) (i : Int32) (v : Nat) : Option Hs := (isC σ v ci).bind fun _ => match σ.2.1 a with
  | .inl (t', n, .inr (.inr (.inr (.inr f)))) => if t' = t ∧ ix i n = true then some (σ.1, va_up σ.2.1 a (.inl (t, n, .inr (.inr (.inr (.inr (va_up f i.toNatClampNeg (some v))))))), σ.2.2) else none
  | _ => none
theorem stR_spec {t ci : Nat} {σ σ' : Hs} {a v : Nat} {i : Int32} (h : stR t ci σ a i v = some σ') : (∃ u, isC σ v ci = some u) ∧ ∃ n f, σ.2.1 a = .inl (t, n, .inr (.inr (.inr (.inr f)))) ∧ ix i n = true ∧ σ' = (σ.1, va_up σ.2.1 a (.inl (t, n, .inr (.inr (.inr (.inr (va_up f i.toNatClampNeg (some v))))))), σ.2.2) := by
  unfold stR at h
  obtain ⟨u, hu, h⟩ := Option.bind_eq_some_iff.mp h
  refine ⟨⟨u, hu⟩, ?_⟩
  split at h
  · rename_i t' n f ho
    split at h
    · rename_i e
      obtain ⟨e1, e2⟩ := e
      subst e1
      exact ⟨n, f, ho, e2, (Option.some.inj h).symm⟩
    · cases h
  · cases h
section HJ
variable {p : Program} {l : Launch} {e : Env} {R : Room} {s : State} {m : MethodId} {args : Array Value} {below : List Frame} {meth : Method} {c : Code} {H : Heap} {locs : List Loc} {cells slots : Nat} {Q : State → Prop}
variable {E : Ev} {B : Nat} {σ σ' : Hs} {cc : ByteArray} {own : String} {nL pc : Nat} {ret : Option FieldType} {ls : Array Slot} {rest : List Value}
theorem hw_ccast {a ci index N : Nat} {C : String} {T : u_T} {ty0 : Nat → FieldType} {u : Unit} (C0 : Cx E B p s m args meth c cc own nL ret) (hH : Hw E B s.heap σ H locs) (hK : Kc ci C T N ty0) (hcl : Cond.classLink own index C ∈ lw_good) (hg : isC σ a ci = some u) (hdg : decode cc pc = .ok (.checkcast index, 3))
    (kk : W p l e R s m args below meth c H locs cells slots Q (F0 m (pc + 3) ls (.ref a :: rest))) : W p l e R s m args below meth c H locs cells slots Q (F0 m pc ls (.ref a :: rest)) :=
  va_castS C0.1.1 C0.1.2.1 C0.1.2.2.2.1 (C0.1.2.2.2.2 _ hcl) ((C0.2.2.2.1.1 ci _ hK.1).2) (hw_recv C0 hH hg hK.1) hdg kk
theorem hw_aast {t ci a v : Nat} {i : Int32} {C : String} {T : u_T} {N : Nat} (htE : ∀ E : Ev, (tysE E)[t]? = some (E.2.2.1 t, .object C)) (hv : vwCl[ci]? = some (C, T, N)) (C0 : Cx E B p s m args meth c cc own nL ret) (hH : Hw E B s.heap σ H locs) (hg : stR t ci σ a i v = some σ') (hdg : decode cc pc = .ok (.aastore, 1))
    (kk : ∀ (H : Heap) (locs : List Loc), Hw E B s.heap σ' H locs → W p l e R s m args below meth c H locs cells slots Q (F0 m (pc + 1) ls rest)) : W p l e R s m args below meth c H locs cells slots Q (F0 m pc ls (.ref v :: .int i :: .ref a :: rest)) := by
  obtain ⟨⟨u, hu⟩, n, f, h1, h2, rfl⟩ := stR_spec hg
  obtain ⟨cellV, g1, g2, g3⟩ := hw_recv C0 hH hu hv
  obtain ⟨⟨hx, hb, hml, hown, hts⟩, -, hBs, hEk⟩ := C0
  obtain ⟨hr, he⟩ := hH.1.at h1 ne_na
  have hin := ix_in h2
  have hlt : i.toNatClampNeg < n := Nat.not_le.mp fun q => hin (Or.inr q)
  have h0 : ¬ i < 0 := fun q => hin (Or.inl q)
  have hcls := (hEk.1.1 ci _ hv).2
  obtain ⟨kA, comp, k1, k2, k3, -⟩ := (hEk.1.2 t _ (htE E)).2
  have hcomp : comp = E.1 ci := Option.some.inj (k3.symm.trans hcls.1)
  subst hcomp
  obtain ⟨kC, hkC, -⟩ := hcls.2
  have g4 : cellV.cls = E.1 ci := Option.some.inj (g3.symm.trans hcls.1)
  refine W.aast hx hb (hH.1.2 _ _ he) (fun q h => by cases h) (fun h => by cases h) k1 k2 rfl hkC ⟨h0, by show _ < (arrV _ _ _).slots.size; rw [arrV_size]; exact hlt⟩ g1 (fun q h => by rw [h] at g2; cases g2) (by rw [g4]; exact hkC) (by rw [g4]; exact va_assign hcls) rfl rfl hdg fun H1 e z oq => ?_
  refine kk H1 _ (hH.st h1 ne_na z oq ?_)
  show H1[a]? = some (vp_cell _ _)
  rw [e, vp_cell_q, vp_cell_q, arrV_store]
  congr 2
  funext q
  by_cases hq : q = i.toNatClampNeg
  · subst hq; simp [updV, va_up, va_rf]
  · simp [updV, va_up, hq]
theorem hw_astore_n {k : Fin 4} {i : Nat} {r : Option Nat} {lv lv' : List (Nat × Value)} (hexec : p.tables.exec = Jvm.exec) (hb : c.code = cc) (hdg : decode cc pc = .ok (.astore_n k, 1)) (hi : (k : Nat) = i) (h : lv_has ls nL lv) (hn : i < nL) (hl : (i, va_rf r) :: lv.filter (fun q => !(q.1 == i) && !(q.1 + 1 == i && q.2.category == 2)) = lv')
    (kk : ∀ ls' : Array Slot, lv_has ls' nL lv' → W p l e R s m args below meth c H locs cells slots Q (F0 m (pc + 1) ls' rest)) : W p l e R s m args below meth c H locs cells slots Q (F0 m pc ls (va_rf r :: rest)) := by
  cases r with
  | none => exact lv_astore_nN hexec hb hdg hi h hn hl kk
  | some a => exact lv_astore_n hexec hb hdg hi h hn hl kk
theorem hw_astore {i : Nat} {r : Option Nat} {lv lv' : List (Nat × Value)} (hexec : p.tables.exec = Jvm.exec) (hb : c.code = cc) (hdg : decode cc pc = .ok (.astore i, 2)) (h : lv_has ls nL lv) (hn : i < nL) (hl : (i, va_rf r) :: lv.filter (fun q => !(q.1 == i) && !(q.1 + 1 == i && q.2.category == 2)) = lv')
    (kk : ∀ ls' : Array Slot, lv_has ls' nL lv' → W p l e R s m args below meth c H locs cells slots Q (F0 m (pc + 2) ls' rest)) : W p l e R s m args below meth c H locs cells slots Q (F0 m pc ls (va_rf r :: rest)) := by
  cases r with
  | none => exact lv_astoreN hexec hb hdg h hn hl kk
  | some a => exact lv_astore hexec hb hdg h hn hl kk
theorem rf_cat (r : Option Nat) : (va_rf r).category = 1 := by cases r <;> rfl
end HJ
