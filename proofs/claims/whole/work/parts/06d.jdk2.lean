/-! ===== the JDK members that are not walked by program: models, and rows ===== -/
def stO (σ : Hs) (a : Nat) (i : Int32) (v : Nat) : Option Hs := (anyO σ v).bind fun _ => match σ.2.1 a with
  | .inl (t', n, .inr (.inr (.inr (.inr f)))) => if t' = 7 ∧ ix i n = true then some (σ.1, va_up σ.2.1 a (.inl (7, n, .inr (.inr (.inr (.inr (va_up f i.toNatClampNeg (some v))))))), σ.2.2) else none
  | _ => none
/-- System.arraycopy of longs -/
def cpL (σ : Hs) (a : Nat) (i : Int32) (b : Nat) (j n : Int32) : Option Hs := match σ.2.1 a, σ.2.1 b with
  | .inl (t, na, .inr (.inl f)), .inl (t', nb, .inr (.inl g)) => if (t = 1 ∧ t' = 1) ∧ (¬ i < 0 ∧ ¬ j < 0 ∧ ¬ n < 0) ∧ i.toNatClampNeg + n.toNatClampNeg ≤ na ∧ j.toNatClampNeg + n.toNatClampNeg ≤ nb then some (σ.1, va_up σ.2.1 b (.inl (1, nb, .inr (.inl (va_cpy f g i.toNatClampNeg j.toNatClampNeg n.toNatClampNeg)))), σ.2.2) else none
  | _, _ => none
/-- reading what is old: texts (value 0, coder 1), their bytes, the cache, Integers (value 0) -/
def oG (lo hi : Nat) (σ : Hs) (a k : Nat) : Option Value := match σ.2.1 a with
  | .inr o => if lo ≤ o.1 ∧ o.1 < hi then some (o.2 k) else none
  | .inl _ => none
def oA (lo hi : Nat) (σ : Hs) (a : Nat) (i : Int32) : Option Value := match σ.2.1 a with
  | .inr o => if (lo ≤ o.1 ∧ o.1 < hi) ∧ ix i (oLen o.1) = true then some (o.2 i.toNatClampNeg) else none
  | .inl _ => none
theorem oG_spec {lo hi : Nat} {σ : Hs} {a k : Nat} {v : Value} (h : oG lo hi σ a k = some v) : ∃ t F, σ.2.1 a = .inr (t, F) ∧ lo ≤ t ∧ t < hi ∧ F k = v := by
  unfold oG at h
  split at h
  · rename_i o ho
    split at h
    · rename_i e; exact ⟨o.1, o.2, ho, e.1, e.2, Option.some.inj h⟩
    · cases h
  · cases h
theorem oA_spec {lo hi : Nat} {σ : Hs} {a : Nat} {i : Int32} {v : Value} (h : oA lo hi σ a i = some v) : ∃ t F, σ.2.1 a = .inr (t, F) ∧ (lo ≤ t ∧ t < hi) ∧ ix i (oLen t) = true ∧ F i.toNatClampNeg = v := by
  unfold oA at h
  split at h
  · rename_i o ho
    split at h
    · rename_i e; exact ⟨o.1, o.2, ho, e.1, e.2, Option.some.inj h⟩
    · cases h
  · cases h
def oC (lo hi : Nat) (σ : Hs) (a : Nat) : Option Unit := (oG lo hi σ a 0).bind fun _ => some ()
theorem stO_spec {σ σ' : Hs} {a v : Nat} {i : Int32} (h : stO σ a i v = some σ') : (∃ u, anyO σ v = some u) ∧ ∃ n f, σ.2.1 a = .inl (7, n, .inr (.inr (.inr (.inr f)))) ∧ ix i n = true ∧ σ' = (σ.1, va_up σ.2.1 a (.inl (7, n, .inr (.inr (.inr (.inr (va_up f i.toNatClampNeg (some v))))))), σ.2.2) := by
  unfold stO at h
  obtain ⟨u, hu, h⟩ := Option.bind_eq_some_iff.mp h
  refine ⟨⟨u, hu⟩, ?_⟩
  split at h
  · rename_i t' n f ho
    split at h
    · rename_i e
      obtain ⟨e1, e2⟩ := e
      subst e1
      exact ⟨n, f, ho, e2, (Option.some.inj h).symm⟩
    · cases h
  · cases h
theorem anyO_spec {σ : Hs} {v : Nat} {u : Unit} (h : anyO σ v = some u) : ∃ t F, σ.2.1 v = .inr (t, F) ∧ (t < 15 ∨ (700 ≤ t ∧ t < 828)) := by
  unfold anyO at h
  split at h
  · rename_i o ho
    split at h
    · rename_i e; exact ⟨o.1, o.2, ho, e⟩
    · cases h
  · cases h
theorem cpL_spec {σ σ' : Hs} {a b : Nat} {i j n : Int32} (h : cpL σ a i b j n = some σ') : ∃ na nb f g, σ.2.1 a = .inl (1, na, .inr (.inl f)) ∧ σ.2.1 b = .inl (1, nb, .inr (.inl g)) ∧ (¬ i < 0 ∧ ¬ j < 0 ∧ ¬ n < 0) ∧ i.toNatClampNeg + n.toNatClampNeg ≤ na ∧ j.toNatClampNeg + n.toNatClampNeg ≤ nb ∧ σ' = (σ.1, va_up σ.2.1 b (.inl (1, nb, .inr (.inl (va_cpy f g i.toNatClampNeg j.toNatClampNeg n.toNatClampNeg)))), σ.2.2) := by
  unfold cpL at h
  split at h
  · rename_i t na f t' nb g h1 h2
    split at h
    · rename_i e
      obtain ⟨⟨e1, e2⟩, e3, e4, e5⟩ := e
      subst e1; subst e2
      exact ⟨na, nb, f, g, h1, h2, e3, e4, e5, (Option.some.inj h).symm⟩
    · cases h
  · cases h
theorem i32_nn {z : Int32} (hz : ¬ z < 0) : z.toInt = (z.toNatClampNeg : Int) := by
  have hz0 : (0 : Int) ≤ z.toInt := by
    have := Int32.not_lt.mp hz
    simpa using Int32.le_iff_toInt_le.mp this
  show z.toInt = ((z.toInt.toNat : Nat) : Int)
  omega
section HJ2
variable {p : Program} {l : Launch} {e : Env} {R : Room} {s : State} {m : MethodId} {args : Array Value} {below : List Frame} {meth : Method} {c : Code} {H : Heap} {locs : List Loc} {cells slots : Nat} {Q : State → Prop}
variable {E : Ev} {B : Nat} {σ σ' : Hs} {cc : ByteArray} {own : String} {nL pc index : Nat} {ret : Option FieldType} {ls : Array Slot} {rest : List Value}
theorem any_of {v : Nat} {u : Unit} (hca : ∀ (ci : Nat) (r : vw_C), vwCl[ci]? = some r → Cond.castable r.1 "java/lang/Object" ∈ lw_nw) (hci : Cond.castable "java/lang/Integer" "java/lang/Object" ∈ lw_nw) (C0 : Cx E B p s m args meth c cc own nL ret) (hH : Hw E B s.heap σ H locs) (hg : anyO σ v = some u) : va_Any "java/lang/Object" s H v := by
  obtain ⟨t, F, h1, h2⟩ := anyO_spec hg
  obtain ⟨-, -, hBs, hEk⟩ := C0
  rcases h2 with h2 | ⟨h2, h3⟩
  · obtain ⟨hr, he⟩ := hH.1.at h1 (ne_no (by omega))
    have hv : vwCl[t]? = some vwCl[t] := List.getElem?_eq_getElem h2
    exact va_rAny hEk.1 hH.1.2 he hv (fun comp c0 g1 g2 => vb_asgC (hEk.2.1 _ (hca t _ hv)) comp c0 g1 g2)
  · obtain ⟨hlt, hold⟩ := hH.old h1 (by omega) (by omega)
    obtain ⟨cell, g1, g2, g3, g4⟩ := ((hEk.2.2.2.2.2.1.2.2.2.2.1 v (t - 700) F (by omega) (by rw [show 700 + (t - 700) = t by omega]; exact hold)).1).kept hH.2.2.1
    obtain ⟨kC, hkC, -⟩ := Vm.findClass_spec g3
    exact ⟨cell, g1, g2, ⟨kC, hkC⟩, fun comp h => vb_asgC (hEk.2.1 _ hci) comp _ h g3⟩
theorem hw_aastO {a v : Nat} {i : Int32} (hca : ∀ (ci : Nat) (r : vw_C), vwCl[ci]? = some r → Cond.castable r.1 "java/lang/Object" ∈ lw_nw) (hci : Cond.castable "java/lang/Integer" "java/lang/Object" ∈ lw_nw) (C0 : Cx E B p s m args meth c cc own nL ret) (hH : Hw E B s.heap σ H locs) (hg : stO σ a i v = some σ') (hdg : decode cc pc = .ok (.aastore, 1))
    (kk : ∀ (H : Heap) (locs : List Loc), Hw E B s.heap σ' H locs → W p l e R s m args below meth c H locs cells slots Q (F0 m (pc + 1) ls rest)) : W p l e R s m args below meth c H locs cells slots Q (F0 m pc ls (.ref v :: .int i :: .ref a :: rest)) := by
  obtain ⟨⟨u, hu⟩, n, f, h1, h2, rfl⟩ := stO_spec hg
  obtain ⟨cellV, g1, g3, ⟨kC, hkC⟩, hasg⟩ := any_of hca hci C0 hH hu
  obtain ⟨⟨hx, hb, hml, hown, hts⟩, -, hBs, hEk⟩ := C0
  obtain ⟨hr, he⟩ := hH.1.at h1 ne_na
  have hin := ix_in h2
  have hlt : i.toNatClampNeg < n := Nat.not_le.mp fun q => hin (Or.inr q)
  have h0 : ¬ i < 0 := fun q => hin (Or.inl q)
  obtain ⟨kA, comp, k1, k2, k3, -⟩ := (hEk.1.2 7 _ rfl).2
  obtain ⟨kE, hkE, -⟩ := Vm.findClass_spec k3
  refine W.aast hx hb (hH.1.2 _ _ he) (fun q h => by cases h) (fun h => by cases h) k1 k2 rfl hkE ⟨h0, by show _ < (arrV _ _ _).slots.size; rw [arrV_size]; exact hlt⟩ g1 (fun q h => by rw [h] at g3; cases g3) hkC (hasg _ k3) rfl rfl hdg fun H1 e z oq => ?_
  refine kk H1 _ (hH.st h1 ne_na z oq ?_)
  show H1[a]? = some (vp_cell _ _)
  rw [e, vp_cell_q, vp_cell_q, arrV_store]
  congr 2
  funext q
  by_cases hq : q = i.toNatClampNeg
  · subst hq; simp [updV, va_up, va_rf]
  · simp [updV, va_up, hq]
theorem hw_stat0 (C0 : Cx E B p s m args meth c cc own nL ret) (hH : Hw E B s.heap σ H locs) (hl : Cond.fieldLink own index "java/util/ArrayList" "DEFAULTCAPACITY_EMPTY_ELEMENTDATA" "[Ljava/lang/Object;" ∈ lw_good) (hdg : decode cc pc = .ok (.getstatic index, 3))
    (kk : W p l e R s m args below meth c H locs cells slots Q (F0 m (pc + 3) ls (.ref (σ.2.2 0) :: rest))) : W p l e R s m args below meth c H locs cells slots Q (F0 m pc ls rest) := by
  rw [hH.1.1.2.2.2.2] at kk
  exact va_gets C0.1.1 C0.1.2.1 C0.2.2.2.2.2.2.2.2.1.2.2.2.2.2.1 hH.2 C0.1.2.2.2.1 (C0.1.2.2.2.2 _ hl) (fun _ h => h) hdg kk
theorem hw_stat1 (C0 : Cx E B p s m args meth c cc own nL ret) (hH : Hw E B s.heap σ H locs) (hl : Cond.fieldLink own index "java/lang/Integer$IntegerCache" "high" "I" ∈ lw_good) (hdg : decode cc pc = .ok (.getstatic index, 3))
    (kk : W p l e R s m args below meth c H locs cells slots Q (F0 m (pc + 3) ls (.int 127 :: rest))) : W p l e R s m args below meth c H locs cells slots Q (F0 m pc ls rest) :=
  va_gets C0.1.1 C0.1.2.1 C0.2.2.2.2.2.2.2.2.1.2.2.2.2.2.2.1 hH.2 C0.1.2.2.2.1 (C0.1.2.2.2.2 _ hl) (fun _ h => h) hdg kk
theorem hw_stat2 (C0 : Cx E B p s m args meth c cc own nL ret) (hH : Hw E B s.heap σ H locs) (hl : Cond.fieldLink own index "java/lang/Integer$IntegerCache" "cache" "[Ljava/lang/Integer;" ∈ lw_good) (hdg : decode cc pc = .ok (.getstatic index, 3))
    (kk : W p l e R s m args below meth c H locs cells slots Q (F0 m (pc + 3) ls (.ref (σ.2.2 1) :: rest))) : W p l e R s m args below meth c H locs cells slots Q (F0 m pc ls rest) := by
  rw [hH.1.1.2.2.2.2] at kk
  exact va_gets C0.1.1 C0.1.2.1 C0.2.2.2.2.2.2.2.2.1.2.2.2.2.2.2.2.1 hH.2 C0.1.2.2.2.1 (C0.1.2.2.2.2 _ hl) (fun _ h => h) hdg kk
theorem hw_stat3 (C0 : Cx E B p s m args meth c cc own nL ret) (hH : Hw E B s.heap σ H locs) (hl : Cond.fieldLink own index "java/lang/String" "COMPACT_STRINGS" "Z" ∈ lw_good) (hdg : decode cc pc = .ok (.getstatic index, 3))
    (kk : W p l e R s m args below meth c H locs cells slots Q (F0 m (pc + 3) ls (.int 1 :: rest))) : W p l e R s m args below meth c H locs cells slots Q (F0 m pc ls rest) :=
  va_gets C0.1.1 C0.1.2.1 C0.2.2.2.2.2.2.2.2.1.2.2.2.2.2.2.2.2.1 hH.2 C0.1.2.2.2.1 (C0.1.2.2.2.2 _ hl) (fun _ h => h) hdg kk
/-- fields of what is old -/
theorem hw_ogetS {a k : Nat} {v : Value} {n d : String} (hnd : (k = 0 ∧ n = "value" ∧ d = "[B") ∨ (k = 1 ∧ n = "coder" ∧ d = "B")) (C0 : Cx E B p s m args meth c cc own nL ret) (hH : Hw E B s.heap σ H locs) (hg : oG 600 604 σ a k = some v) (hl : Cond.fieldLink own index "java/lang/String" n d ∈ lw_good) (hdg : decode cc pc = .ok (.getfield index, 3))
    (kk : W p l e R s m args below meth c H locs cells slots Q (F0 m (pc + 3) ls (v :: rest))) : W p l e R s m args below meth c H locs cells slots Q (F0 m pc ls (.ref a :: rest)) := by
  obtain ⟨t, F, h1, h2, h3, rfl⟩ := oG_spec hg
  obtain ⟨hlt, hold⟩ := hH.old h1 (by omega) (by omega)
  have hz := C0.2.2.2.2.2.2.2.2.1.2.1 a (t - 600) F (by omega) (by rw [show 600 + (t - 600) = t by omega]; exact hold)
  rcases hnd with ⟨rfl, rfl, rfl⟩ | ⟨rfl, rfl, rfl⟩
  · exact vk_getf C0.1.1 C0.1.2.1 hz.2.1 hH.2 C0.1.2.2.2.1 (C0.1.2.2.2.2 _ hl) (fun _ h => h) hdg kk
  · exact vk_getf C0.1.1 C0.1.2.1 hz.2.2 hH.2 C0.1.2.2.2.1 (C0.1.2.2.2.2 _ hl) (fun _ h => h) hdg kk
theorem hw_ogetI {a : Nat} {v : Value} (C0 : Cx E B p s m args meth c cc own nL ret) (hH : Hw E B s.heap σ H locs) (hg : oG 700 828 σ a 0 = some v) (hl : Cond.fieldLink own index "java/lang/Integer" "value" "I" ∈ lw_good) (hdg : decode cc pc = .ok (.getfield index, 3))
    (kk : W p l e R s m args below meth c H locs cells slots Q (F0 m (pc + 3) ls (v :: rest))) : W p l e R s m args below meth c H locs cells slots Q (F0 m pc ls (.ref a :: rest)) := by
  obtain ⟨t, F, h1, h2, h3, rfl⟩ := oG_spec hg
  obtain ⟨hlt, hold⟩ := hH.old h1 (by omega) (by omega)
  have hz := C0.2.2.2.2.2.2.2.2.1.2.2.2.2.1 a (t - 700) F (by omega) (by rw [show 700 + (t - 700) = t by omega]; exact hold)
  exact vk_getf C0.1.1 C0.1.2.1 hz.2 hH.2 C0.1.2.2.2.1 (C0.1.2.2.2.2 _ hl) (fun _ h => h) hdg kk
theorem hw_obald {a : Nat} {i : Int32} {v : Value} (C0 : Cx E B p s m args meth c cc own nL ret) (hH : Hw E B s.heap σ H locs) (hg : oA 610 614 σ a i = some v) (hdg : decode cc pc = .ok (.baload, 1))
    (kk : W p l e R s m args below meth c H locs cells slots Q (F0 m (pc + 1) ls (v :: rest))) : W p l e R s m args below meth c H locs cells slots Q (F0 m pc ls (.int i :: .ref a :: rest)) := by
  obtain ⟨t, F, h1, ⟨h2, h3⟩, h4, rfl⟩ := oA_spec hg
  obtain ⟨hlt, hold⟩ := hH.old h1 (by omega) (by omega)
  have hz := C0.2.2.2.2.2.2.2.2.1.2.2.1 a (t - 610) F (by omega) (by rw [show 610 + (t - 610) = t by omega]; exact hold)
  rw [show 610 + (t - 610) = t by omega] at hz
  exact va_tb C0.1.1 C0.1.2.1 hz hH.2 (ix_in h4) rfl hdg kk
theorem hw_oaald {a : Nat} {i : Int32} {v : Value} (C0 : Cx E B p s m args meth c cc own nL ret) (hH : Hw E B s.heap σ H locs) (hg : oA 640 641 σ a i = some v) (hdg : decode cc pc = .ok (.aaload, 1))
    (kk : W p l e R s m args below meth c H locs cells slots Q (F0 m (pc + 1) ls (v :: rest))) : W p l e R s m args below meth c H locs cells slots Q (F0 m pc ls (.int i :: .ref a :: rest)) := by
  obtain ⟨t, F, h1, ⟨h2, h3⟩, h4, rfl⟩ := oA_spec hg
  obtain rfl : t = 640 := by omega
  obtain ⟨hlt, hold⟩ := hH.old h1 (by omega) (by omega)
  exact vb_tq C0.1.1 C0.1.2.1 (C0.2.2.2.2.2.2.2.2.1.2.2.2.1 a F hold) hH.2 (ix_in h4) rfl hdg kk
/-- a receiver, or a thing to be cast, that is old -/
theorem hw_orecvS {a : Nat} {u : Unit} (C0 : Cx E B p s m args meth c cc own nL ret) (hH : Hw E B s.heap σ H locs) (hg : oC 600 604 σ a = some u) : ∃ cell : Cell, H[a]? = some cell ∧ cell.vm.isStatics = false ∧ s.vm.findClass "java/lang/String" = some cell.cls := by
  obtain ⟨v, hv, -⟩ := Option.bind_eq_some_iff.mp hg
  obtain ⟨t, F, h1, h2, h3, rfl⟩ := oG_spec hv
  obtain ⟨hlt, hold⟩ := hH.old h1 (by omega) (by omega)
  obtain ⟨cell, g1, g2, g3, -⟩ := (C0.2.2.2.2.2.2.2.2.1.2.1 a (t - 600) F (by omega) (by rw [show 600 + (t - 600) = t by omega]; exact hold)).1.kept hH.2.2.1
  exact ⟨cell, g1, g2, g3⟩
theorem hw_orecvI {a : Nat} {u : Unit} (C0 : Cx E B p s m args meth c cc own nL ret) (hH : Hw E B s.heap σ H locs) (hg : oC 700 828 σ a = some u) : ∃ cell : Cell, H[a]? = some cell ∧ cell.vm.isStatics = false ∧ s.vm.findClass "java/lang/Integer" = some cell.cls := by
  obtain ⟨v, hv, -⟩ := Option.bind_eq_some_iff.mp hg
  obtain ⟨t, F, h1, h2, h3, rfl⟩ := oG_spec hv
  obtain ⟨hlt, hold⟩ := hH.old h1 (by omega) (by omega)
  obtain ⟨cell, g1, g2, g3, -⟩ := (C0.2.2.2.2.2.2.2.2.1.2.2.2.2.1 a (t - 700) F (by omega) (by rw [show 700 + (t - 700) = t by omega]; exact hold)).1.kept hH.2.2.1
  exact ⟨cell, g1, g2, g3⟩
theorem hw_ocastI {a : Nat} {u : Unit} (C0 : Cx E B p s m args meth c cc own nL ret) (hH : Hw E B s.heap σ H locs) (hg : oC 700 828 σ a = some u) (hl : Cond.classLink own index "java/lang/Integer" ∈ lw_good) (hdg : decode cc pc = .ok (.checkcast index, 3))
    (kk : W p l e R s m args below meth c H locs cells slots Q (F0 m (pc + 3) ls (.ref a :: rest))) : W p l e R s m args below meth c H locs cells slots Q (F0 m pc ls (.ref a :: rest)) :=
  va_castS C0.1.1 C0.1.2.1 C0.1.2.2.2.1 (C0.1.2.2.2.2 _ hl) ((C0.2.2.2.1.1 0 _ rfl).2) (hw_orecvI C0 hH hg) hdg kk
theorem hw_cpL {a b : Nat} {i j n : Int32} (C0 : Cx E B p s m args meth c cc own nL ret) (hH : Hw E B s.heap σ H locs) (hg : cpL σ a i b j n = some σ') (hl : Cond.methodLink own index arraycopyName ∈ lw_good ∧ Cond.native arraycopyName ∈ lw_good ∧ Cond.static arraycopyName ∈ lw_good ∧ Cond.initialized "java/lang/System" ∈ lw_good) (hsz : ls.size = nL) (hR : 1 ≤ R.frames ∧ 60 ≤ R.locals) (hW : (rest.map fun v => v.category).sum ≤ 8) (hdg : decode cc pc = .ok (.invokestatic index, 3))
    (kk : ∀ (H : Heap) (locs : List Loc), Hw E B s.heap σ' H locs → W p l e R s m args below meth c H locs cells slots Q (F0 m (pc + 3) ls rest)) : W p l e R s m args below meth c H locs cells slots Q (F0 m pc ls (.int n :: .int j :: .ref b :: .int i :: .ref a :: rest)) := by
  obtain ⟨⟨hx, hb, hml, hown, hts⟩, -, hBs, hEk⟩ := C0
  obtain ⟨na, nb, f, g, ha, hb2, ⟨h1, h2, h3⟩, h4, h5, rfl⟩ := cpL_spec hg
  obtain ⟨hra, hea⟩ := hH.1.at ha ne_na
  obtain ⟨hrb, heb⟩ := hH.1.at hb2 ne_na
  have hc0 : H[a]? = some (vp_cell (E.2.2.1 1) (na, .inr (.inl f))) := hH.1.2 _ _ hea
  have hc1 : H[b]? = some (vp_cell (E.2.2.1 1) (nb, .inr (.inl g))) := hH.1.2 _ _ heb
  obtain ⟨-, k0, hk0, cm0, hkk0⟩ := (hEk.1.2 1 _ rfl).1 na (fun j => .long (f j))
  obtain ⟨-, k1, hk1, cm1, hkk1⟩ := (hEk.1.2 1 _ rfl).1 nb (fun j => .long (g j))
  have hnw : nativeFrameWords "java/lang/System" "arraycopy" 5 + 11 ≤ 52 := by decide +kernel
  intro T hT X
  obtain ⟨vm', X', step⟩ := X.arraycopy hx hown (hts _ hl.1) (hts _ hl.2.1) (hts _ hl.2.2.1) (hts _ hl.2.2.2) (src := a) (dst := b) (cs := vp_cell (E.2.2.1 1) (na, .inr (.inl f))) (cd := vp_cell (E.2.2.1 1) (nb, .inr (.inl g))) (srcPos := i) (destPos := j) (n := n) (by rw [hT]; exact hc0) (by rw [hT]; exact hc1)
    (fun _ h => by cases h) (fun _ h => by cases h) (fun h => by cases h) (fun h => by cases h) hk0 hk1 hkk0 hkk1 rfl h1 h2 h3
    (by rw [i32_nn h1, i32_nn h3]; show ¬ _ > ((arrV _ na (fun j => .long (f j))).slots.size : Int); rw [arrV_size]; omega)
    (by rw [i32_nn h2, i32_nn h3]; show ¬ _ > ((arrV _ nb (fun j => .long (g j))).slots.size : Int); rw [arrV_size]; omega)
    (fun vm₁ _ z hz => by
      have e : (vp_cell (E.2.2.1 1) (na, .inr (.inl f))).slots.getD (i.toNatClampNeg + z) .null = .long (f (i.toNatClampNeg + z)) := by
        show (arrV _ na (fun j => .long (f j))).slots.getD _ _ = _
        rw [Array.getD_eq_getD_getElem?, arrV_read _ _ (by omega)]
        rfl
      rw [e]
      exact ⟨rfl, trivial⟩)
    (g := F0 m pc ls (.int n :: .int j :: .ref b :: .int i :: .ref a :: rest)) rfl (by rw [hml]; exact hsz) (rest := rest) rfl (by rw [hb]; exact hdg) hR.1 (by show 2 * 0 + _ + _ ≤ _; omega)
  have e1 : copied (vp_cell (E.2.2.1 1) (na, .inr (.inl f))) (vp_cell (E.2.2.1 1) (nb, .inr (.inl g))) i j n = vp_cell (E.2.2.1 1) (nb, .inr (.inl (va_cpy f g i.toNatClampNeg j.toNatClampNeg n.toNatClampNeg))) := va_copied (fun z => .long z) _ _ f g h4
  rw [e1] at X' step
  generalize hnew : vp_cell (E.2.2.1 1) (nb, .inr (.inl (va_cpy f g i.toNatClampNeg j.toNatClampNeg n.toNatClampNeg))) = cN at X' step e1
  have hlb : b < H.size := (Array.getElem?_eq_some_iff.mp hc1).1
  have hheap : ((T.setVm vm').setCell b cN).heap = H.setIfInBounds b cN := by rw [← hT]; rfl
  have oq : ∀ q : Nat, q ≠ b → (H.setIfInBounds b cN)[q]? = H[q]? := fun q hq => by simp [Array.getElem?_setIfInBounds, Ne.symm hq]
  have hst := hH.st (k := 0) (c1 := .inl (1, nb, .inr (.inl (va_cpy f g i.toNatClampNeg j.toNatClampNeg n.toNatClampNeg)))) (H1 := H.setIfInBounds b cN) hb2 ne_na (by simp) oq (by
    show (H.setIfInBounds b cN)[b]? = some (vp_cell _ _)
    rw [hnew]; simp [Array.getElem?_setIfInBounds, hlb])
  obtain ⟨t, a1, b1⟩ := kk _ (locs ++ ((vp_cell (E.2.2.1 1) (na, .inr (.inl f))).stretch i.toNatClampNeg n.toNatClampNeg).zipIdx.map fun q => ⟨b, j.toNatClampNeg + q.2⟩) ⟨hst.1, hst.2.1, hst.2.2.1, fun q hq => by
      rcases List.mem_append.mp hq with h | h
      · exact hH.2.2.2 q h
      · obtain ⟨z, -, hz⟩ := List.mem_map.mp h
        rw [← hz]
        exact hrb.1⟩ _ hheap X'
  exact ⟨t, step t a1, b1⟩
/-- a call of a method of String or Integer on a thing that is old -/
theorem hw_cO {st st2 As rest : List Value} {b maxL n fr lo mc ms : Nat} {y : MethodName} {bytes : ByteArray} {ret1 : Option FieldType} {r : Option Value} {σ1 : Hs} (hv : ∃ cell : Cell, H[b]? = some cell ∧ cell.vm.isStatics = false ∧ s.vm.findClass y.cls = some cell.cls) (C0 : Cx E B p s m args meth c cc own nL ret) (hH : Hw E B s.heap σ H locs) (hY : Yk y bytes maxL ret1 n) (hI : Cond.instanceMethod y ∈ lw_good ∧ Cond.selects y.cls y y ∈ lw_good) (hL : Cond.methodLink own index y ∈ lw_good) (hM : Cm l E B y bytes maxL ret1 fr lo mc ms (.ref b :: As) σ σ1 r)
    (hn : As.length = n) (hst : st = As.reverse ++ .ref b :: rest) (h2 : r.toList ++ rest = st2) (hsz : ls.size = nL) (hW : (rest.map fun v => v.category).sum ≤ 8) (hdg : decode cc pc = .ok (.invokevirtual index, 3)) (hR : fr + 1 ≤ R.frames ∧ 8 + (maxL + 11) + lo ≤ R.locals) (hf : cells + mc ≤ R.cells ∧ slots + ms ≤ R.slots)
    (kk : ∀ (H : Heap) (locs : List Loc), Hw E B s.heap σ1 H locs → W p l e R s m args below meth c H locs (cells + mc) (slots + ms) Q (F0 m (pc + 3) ls st2)) : W p l e R s m args below meth c H locs cells slots Q (F0 m pc ls st) := by
  subst hst; subst h2
  have ht := C0.1.2.2.2.2
  have hW0 : 2 * (F0 m pc ls (As.reverse ++ .ref b :: rest)).monitorRoom + (rest.map fun v => v.category).sum ≤ 8 := by
    have : (F0 m pc ls (As.reverse ++ .ref b :: rest)).monitorRoom = 0 := rfl
    rw [this]; simpa using hW
  exact hw_run (va_runV C0.1 hM ⟨callB_of n ht (lw_good_in hY) rfl rfl rfl (ht _ hY.2.1) (ht _ hL) ⟨hY.2.2.1.1, hY.2.2.1.2, hY.2.2.2⟩ hR, ht _ hI.1, ht _ hI.2⟩ ⟨Pk.blind, hv, hw_pre C0 hH (.ref b :: As)⟩ rfl hn hsz rfl hW0 hdg hf) hH C0.2.2.1 kk
theorem ldcStrW {T : State} (X : Stand p l e R s m args below meth c T locs cells slots) (hexec : p.tables.exec = Jvm.exec) {own text : String} {index : Nat} {a : Addr} (hown : s.vm.findClass own = some m.cls)
    (hconst : (Cond.stringRef own index text).before args s = true) (hev : (Term.string own index).eval args s none [] s = some (.ref a)) {g : JFrame} (hg : g.method = m) (hdg : decode c.code g.pc = .ok (.ldc_w index, 3)) :
    ∀ target, Steps p.tables e below (T.setTop { g with pc := g.pc + 3, stack := .ref a :: g.stack }) target → Steps p.tables e below (T.setTop g) target := by
  obtain ⟨k, cf, i, a', hk, hcf, hcp, -, hr, hev'⟩ := Cond.stringRef_spec hown hconst
  cases hev.symm.trans hev'
  obtain ⟨k', hk', he⟩ := X.warmed.alike.2.2 _ _ hk
  have hr' : k'.resolved[index]? = some (some (.string a)) := by
    rcases X.warmed.entry hk hk' index with h | ⟨h, -⟩
    · rw [h]; exact hr
    · rw [hr] at h; cases h
  intro target hrest
  subst hg
  jvm_step X.here [hexec, hdg, ldc_w.wp_string (e := e) (s := T) (f := g) X.here.top hk' (by rw [he]; exact hcf) hcp hr']
  exact hrest
theorem hw_ldsW {tx : String} {q : Nat} (hZ : vk_R own index tx q s) (C0 : Cx E B p s m args meth c cc own nL ret) (hdg : decode cc pc = .ok (.ldc_w index, 3))
    (kk : W p l e R s m args below meth c H locs cells slots Q (F0 m (pc + 3) ls (.ref q :: rest))) : W p l e R s m args below meth c H locs cells slots Q (F0 m pc ls rest) := by
  intro T hT X
  obtain ⟨t, a1, b1⟩ := kk T hT X
  exact ⟨t, ldcStrW X C0.1.1 C0.1.2.2.2.1 (text := tx) (a := q) hZ.1 hZ.2 (g := F0 m pc ls rest) rfl (by rw [C0.1.2.1]; exact hdg) t a1, b1⟩
/-- the class's text constants, by their entries: 291, 293, 408, 410 of LeapNet -/
theorem hw_lds {k : Nat} (hk : (k = 0 ∧ index = 291) ∨ (k = 1 ∧ index = 293) ∨ (k = 2 ∧ index = 408) ∨ (k = 3 ∧ index = 410)) (C0 : Cx E B p s m args meth c cc RX11 nL ret) (hH : Hw E B s.heap σ H locs) (hdg : decode cc pc = .ok (.ldc_w index, 3))
    (kk : W p l e R s m args below meth c H locs cells slots Q (F0 m (pc + 3) ls (.ref (σ.2.2 (10 + k)) :: rest))) : W p l e R s m args below meth c H locs cells slots Q (F0 m pc ls rest) := by
  have hs := C0.2.2.2.2.2.2.2.2.2
  rw [hH.1.1.2.2.2.2] at kk
  rcases hk with ⟨rfl, rfl⟩ | ⟨rfl, rfl⟩ | ⟨rfl, rfl⟩ | ⟨rfl, rfl⟩
  · exact hw_ldsW (own := RX11) hs.1 C0 hdg kk
  · exact hw_ldsW (own := RX11) hs.2.1 C0 hdg kk
  · exact hw_ldsW (own := RX11) hs.2.2.1 C0 hdg kk
  · exact hw_ldsW (own := RX11) hs.2.2.2 C0 hdg kk
end HJ2
def bc (ty : FieldType) (x : Int32) : Option Int32 := if vp_nar ty x = x then some x else none
theorem bc_spec {ty : FieldType} {x y : Int32} (h : bc ty x = some y) : vp_nar ty x = x ∧ y = x := by
  unfold bc at h
  split at h
  · rename_i q; exact ⟨q, (Option.some.inj h).symm⟩
  · cases h
theorem nar_c (x : Int32) : narrow .char (.int x) = .int (vp_nar .char x) := rfl
theorem nar_b (x : Int32) : narrow .byte (.int x) = .int (vp_nar .byte x) := rfl
section HJ3
variable {p : Program} {l : Launch} {e : Env} {R : Room} {s : State} {m : MethodId} {args : Array Value} {below : List Frame} {meth : Method} {c : Code} {H : Heap} {locs : List Loc} {cells slots : Nat} {Q : State → Prop}
variable {E : Ev} {B : Nat} {σ σ' : Hs} {cc : ByteArray} {own : String} {nL pc index : Nat} {ls : Array Slot} {rest : List Value}
theorem hw_nret {ty : FieldType} {mc ms : Nat} {v : Int32} (hn : ∀ x : Int32, narrow ty (.int x) = .int (vp_nar ty x)) (C0 : Cx E B p s m args meth c cc own nL (some ty)) (hH : Hw E B s.heap σ H locs) (hv : vp_nar ty v = v) (h1 : cells ≤ mc) (h2 : slots ≤ ms) (hdg : decode cc pc = .ok (.ireturn, 1)) :
    W p l e R s m args below meth c H locs cells slots (MQ below (Qk E B σ (some (.int v))) args s mc ms (fun q => B ≤ q)) (F0 m pc ls [.int v]) := by
  obtain ⟨⟨hx, hb, hml, hown, hts⟩, ⟨hr, hlk⟩, hBs, hEk⟩ := C0
  refine W.widen (k := mc) (n := ms) h1 h2 ?_
  exact W.zret hx hb hr (by rw [hn, hv]) (fun t ht hW => ⟨rfl, hw_end hH hBs ht⟩) hH.2.2.2 hdg hlk
theorem hw_stat4 {ret : Option FieldType} (C0 : Cx E B p s m args meth c cc own nL ret) (hH : Hw E B s.heap σ H locs) (hl : Cond.fieldLink own index "jdk/internal/util/Preconditions" "SIOOBE_FORMATTER" "Ljava/util/function/BiFunction;" ∈ lw_good) (hdg : decode cc pc = .ok (.getstatic index, 3))
    (kk : ∀ r : Option Nat, W p l e R s m args below meth c H locs cells slots Q (F0 m (pc + 3) ls (va_rf r :: rest))) : W p l e R s m args below meth c H locs cells slots Q (F0 m pc ls rest) := by
  rcases C0.2.2.2.2.2.2.2.2.1.2.2.2.2.2.2.2.2.2.1 with h | ⟨t, h⟩
  · exact va_gets C0.1.1 C0.1.2.1 h hH.2 C0.1.2.2.2.1 (C0.1.2.2.2.2 _ hl) (fun _ h => h) hdg (kk none)
  · exact va_gets C0.1.1 C0.1.2.1 h hH.2 C0.1.2.2.2.1 (C0.1.2.2.2.2 _ hl) (fun _ h => h) hdg (kk (some t))
end HJ3
theorem vI_of {w : Value} {x : Int32} (h : vI w = some x) : w = .int x := by cases w <;> simp [vI] at h; rw [h]
theorem vN_of {w : Value} {x : Nat} (h : vN w = some x) : w = .ref x := by cases w <;> simp [vN] at h; rw [h]
def oGN (lo hi : Nat) (σ : Hs) (a k : Nat) : Option Nat := (oG lo hi σ a k).bind vN
def oGI (lo hi : Nat) (σ : Hs) (a k : Nat) : Option Int32 := (oG lo hi σ a k).bind vI
def oAN (lo hi : Nat) (σ : Hs) (a : Nat) (i : Int32) : Option Nat := (oA lo hi σ a i).bind vN
def oAI (lo hi : Nat) (σ : Hs) (a : Nat) (i : Int32) : Option Int32 := (oA lo hi σ a i).bind vI
theorem oGN_spec {lo hi : Nat} {σ : Hs} {a k x : Nat} (h : oGN lo hi σ a k = some x) : oG lo hi σ a k = some (.ref x) := by
  obtain ⟨v, h1, h2⟩ := Option.bind_eq_some_iff.mp h
  rw [h1, vN_of h2]
theorem oGI_spec {lo hi : Nat} {σ : Hs} {a k : Nat} {x : Int32} (h : oGI lo hi σ a k = some x) : oG lo hi σ a k = some (.int x) := by
  obtain ⟨v, h1, h2⟩ := Option.bind_eq_some_iff.mp h
  rw [h1, vI_of h2]
theorem oAN_spec {lo hi : Nat} {σ : Hs} {a x : Nat} {i : Int32} (h : oAN lo hi σ a i = some x) : oA lo hi σ a i = some (.ref x) := by
  obtain ⟨v, h1, h2⟩ := Option.bind_eq_some_iff.mp h
  rw [h1, vN_of h2]
theorem oAI_spec {lo hi : Nat} {σ : Hs} {a : Nat} {i x : Int32} (h : oAI lo hi σ a i = some x) : oA lo hi σ a i = some (.int x) := by
  obtain ⟨v, h1, h2⟩ := Option.bind_eq_some_iff.mp h
  rw [h1, vI_of h2]
/-- System.arraycopy of references -/
def cpR (σ : Hs) (a : Nat) (i : Int32) (b : Nat) (j n : Int32) : Option Hs := match σ.2.1 a, σ.2.1 b with
  | .inl (t, na, .inr (.inr (.inr (.inr f)))), .inl (t', nb, .inr (.inr (.inr (.inr g)))) => if (t = 7 ∧ t' = 7) ∧ (¬ i < 0 ∧ ¬ j < 0 ∧ ¬ n < 0) ∧ i.toNatClampNeg + n.toNatClampNeg ≤ na ∧ j.toNatClampNeg + n.toNatClampNeg ≤ nb ∧ ((List.range n.toNatClampNeg).all fun k => match f (i.toNatClampNeg + k) with | none => true | some v => (anyO σ v).isSome) = true then some (σ.1, va_up σ.2.1 b (.inl (7, nb, .inr (.inr (.inr (.inr (va_cpy f g i.toNatClampNeg j.toNatClampNeg n.toNatClampNeg)))))), σ.2.2) else none
  | _, _ => none
theorem cpR_spec {σ σ' : Hs} {a b : Nat} {i j n : Int32} (h : cpR σ a i b j n = some σ') : ∃ na nb f g, σ.2.1 a = .inl (7, na, .inr (.inr (.inr (.inr f)))) ∧ σ.2.1 b = .inl (7, nb, .inr (.inr (.inr (.inr g)))) ∧ (¬ i < 0 ∧ ¬ j < 0 ∧ ¬ n < 0) ∧ i.toNatClampNeg + n.toNatClampNeg ≤ na ∧ j.toNatClampNeg + n.toNatClampNeg ≤ nb ∧ (∀ k, k < n.toNatClampNeg → ∀ y, f (i.toNatClampNeg + k) = some y → ∃ u, anyO σ y = some u) ∧ σ' = (σ.1, va_up σ.2.1 b (.inl (7, nb, .inr (.inr (.inr (.inr (va_cpy f g i.toNatClampNeg j.toNatClampNeg n.toNatClampNeg)))))), σ.2.2) := by
  unfold cpR at h
  split at h
  · rename_i t na f t' nb g h1 h2
    split at h
    · rename_i e
      obtain ⟨⟨e1, e2⟩, e3, e4, e5, e6⟩ := e
      subst e1; subst e2
      refine ⟨na, nb, f, g, h1, h2, e3, e4, e5, fun k hk y hy => ?_, (Option.some.inj h).symm⟩
      have h7 := List.all_eq_true.mp e6 k (List.mem_range.mpr hk)
      rw [hy] at h7
      exact Option.isSome_iff_exists.mp h7
    · cases h
  · cases h
def isA (σ : Hs) (a : Nat) : Option Unit := match σ.2.1 a with
  | .inl x => if x.1 = 7 then some () else none
  | .inr _ => none
section HJ4
variable {p : Program} {l : Launch} {e : Env} {R : Room} {s : State} {m : MethodId} {args : Array Value} {below : List Frame} {meth : Method} {c : Code} {H : Heap} {locs : List Loc} {cells slots : Nat} {Q : State → Prop}
variable {E : Ev} {B : Nat} {σ σ' : Hs} {cc : ByteArray} {own : String} {nL pc index : Nat} {ret : Option FieldType} {ls : Array Slot} {rest : List Value}
theorem hw_cpR {a b : Nat} {i j n : Int32} (hca : ∀ (ci : Nat) (r : vw_C), vwCl[ci]? = some r → Cond.castable r.1 "java/lang/Object" ∈ lw_nw) (hci : Cond.castable "java/lang/Integer" "java/lang/Object" ∈ lw_nw) (C0 : Cx E B p s m args meth c cc own nL ret) (hH : Hw E B s.heap σ H locs) (hg : cpR σ a i b j n = some σ') (hl : Cond.methodLink own index arraycopyName ∈ lw_good ∧ Cond.native arraycopyName ∈ lw_good ∧ Cond.static arraycopyName ∈ lw_good ∧ Cond.initialized "java/lang/System" ∈ lw_good) (hsz : ls.size = nL) (hR : 1 ≤ R.frames ∧ 60 ≤ R.locals) (hW : (rest.map fun v => v.category).sum ≤ 8) (hdg : decode cc pc = .ok (.invokestatic index, 3))
    (kk : ∀ (H : Heap) (locs : List Loc), Hw E B s.heap σ' H locs → W p l e R s m args below meth c H locs cells slots Q (F0 m (pc + 3) ls rest)) : W p l e R s m args below meth c H locs cells slots Q (F0 m pc ls (.int n :: .int j :: .ref b :: .int i :: .ref a :: rest)) := by
  obtain ⟨na, nb, f, g, ha, hb2, ⟨h1, h2, h3⟩, h4, h5, h6, rfl⟩ := cpR_spec hg
  have hel : ∀ k : Nat, k < n.toNatClampNeg → ∀ y : Nat, f (i.toNatClampNeg + k) = some y → va_Any "java/lang/Object" s H y := fun k hk y hy => by
    obtain ⟨u, hu⟩ := h6 k hk y hy
    exact any_of hca hci C0 hH hu
  obtain ⟨⟨hx, hb, hml, hown, hts⟩, -, hBs, hEk⟩ := C0
  obtain ⟨hra, hea⟩ := hH.1.at ha ne_na
  obtain ⟨hrb, heb⟩ := hH.1.at hb2 ne_na
  have hc0 : H[a]? = some (vp_cell (E.2.2.1 7) (na, .inr (.inr (.inr (.inr f))))) := hH.1.2 _ _ hea
  have hc1 : H[b]? = some (vp_cell (E.2.2.1 7) (nb, .inr (.inr (.inr (.inr g))))) := hH.1.2 _ _ heb
  obtain ⟨-, k0, hk0, cm0, hkk0⟩ := (hEk.1.2 7 _ rfl).1 na (fun j => va_rf (f j))
  obtain ⟨-, k1, hk1, cm1, hkk1⟩ := (hEk.1.2 7 _ rfl).1 nb (fun j => va_rf (g j))
  have hnw : nativeFrameWords "java/lang/System" "arraycopy" 5 + 11 ≤ 52 := by decide +kernel
  intro T hT X
  obtain ⟨vm', X', step⟩ := X.arraycopy hx hown (hts _ hl.1) (hts _ hl.2.1) (hts _ hl.2.2.1) (hts _ hl.2.2.2) (src := a) (dst := b) (cs := vp_cell (E.2.2.1 7) (na, .inr (.inr (.inr (.inr f))))) (cd := vp_cell (E.2.2.1 7) (nb, .inr (.inr (.inr (.inr g))))) (srcPos := i) (destPos := j) (n := n) (by rw [hT]; exact hc0) (by rw [hT]; exact hc1)
    (fun _ h => by cases h) (fun _ h => by cases h) (fun h => by cases h) (fun h => by cases h) hk0 hk1 hkk0 hkk1 rfl h1 h2 h3
    (by rw [i32_nn h1, i32_nn h3]; show ¬ _ > ((arrV _ na (fun j => va_rf (f j))).slots.size : Int); rw [arrV_size]; omega)
    (by rw [i32_nn h2, i32_nn h3]; show ¬ _ > ((arrV _ nb (fun j => va_rf (g j))).slots.size : Int); rw [arrV_size]; omega)
    (fun vm₁ hal z hz => by
      have e : (vp_cell (E.2.2.1 7) (na, .inr (.inr (.inr (.inr f))))).slots.getD (i.toNatClampNeg + z) .null = va_rf (f (i.toNatClampNeg + z)) := by
        show (arrV _ na (fun j => va_rf (f j))).slots.getD _ _ = _
        rw [Array.getD_eq_getD_getElem?, arrV_read _ _ (by omega)]
        rfl
      rw [e]
      cases hy : f (i.toNatClampNeg + z) with
      | none => exact ⟨rfl, trivial⟩
      | some y =>
        obtain ⟨cellV, g1, g2, ⟨kC, hkC⟩, hasg⟩ := hel z hz y hy
        obtain ⟨kA, comp, r1, r2, r3, -⟩ := (hEk.1.2 7 _ rfl).2
        cases hk1.symm.trans r1
        cases hkk1.symm.trans r2
        obtain ⟨kE, hkE, -⟩ := Vm.findClass_spec r3
        obtain ⟨kC', hkC', -⟩ := hal.2.2 _ _ hkC
        obtain ⟨kE', hkE', -⟩ := hal.2.2 _ _ hkE
        refine ⟨rfl, cellV, (show T.heap[y]? = some cellV by rw [hT]; exact g1), (fun q h => by rw [h] at g2; cases g2), ⟨kC', hkC'⟩, ?_, ?_⟩
        · exact ⟨kE', hkE'⟩
        · show vm₁.assignable _ _ = true
          rw [hal.assignable]
          exact hasg _ r3)
    (g := F0 m pc ls (.int n :: .int j :: .ref b :: .int i :: .ref a :: rest)) rfl (by rw [hml]; exact hsz) (rest := rest) rfl (by rw [hb]; exact hdg) hR.1 (by show 2 * 0 + _ + _ ≤ _; omega)
  have e1 : copied (vp_cell (E.2.2.1 7) (na, .inr (.inr (.inr (.inr f))))) (vp_cell (E.2.2.1 7) (nb, .inr (.inr (.inr (.inr g))))) i j n = vp_cell (E.2.2.1 7) (nb, .inr (.inr (.inr (.inr (va_cpy f g i.toNatClampNeg j.toNatClampNeg n.toNatClampNeg))))) := by
    rw [vp_cell_q, vp_cell_q, vp_cell_q]
    exact va_copied (fun z => va_rf z) _ _ f g h4
  rw [e1] at X' step
  generalize hnew : vp_cell (E.2.2.1 7) (nb, .inr (.inr (.inr (.inr (va_cpy f g i.toNatClampNeg j.toNatClampNeg n.toNatClampNeg))))) = cN at X' step e1
  have hlb : b < H.size := (Array.getElem?_eq_some_iff.mp hc1).1
  have hheap : ((T.setVm vm').setCell b cN).heap = H.setIfInBounds b cN := by rw [← hT]; rfl
  have oq : ∀ q : Nat, q ≠ b → (H.setIfInBounds b cN)[q]? = H[q]? := fun q hq => by simp [Array.getElem?_setIfInBounds, Ne.symm hq]
  have hst := hH.st (k := 0) (c1 := .inl (7, nb, .inr (.inr (.inr (.inr (va_cpy f g i.toNatClampNeg j.toNatClampNeg n.toNatClampNeg)))))) (H1 := H.setIfInBounds b cN) hb2 ne_na (by simp) oq (by
    show (H.setIfInBounds b cN)[b]? = some (vp_cell _ _)
    rw [hnew]; simp [Array.getElem?_setIfInBounds, hlb])
  obtain ⟨t, a1, b1⟩ := kk _ (locs ++ ((vp_cell (E.2.2.1 7) (na, .inr (.inr (.inr (.inr f))))).stretch i.toNatClampNeg n.toNatClampNeg).zipIdx.map fun q => ⟨b, j.toNatClampNeg + q.2⟩) ⟨hst.1, hst.2.1, hst.2.2.1, fun q hq => by
      rcases List.mem_append.mp hq with h | h
      · exact hH.2.2.2 q h
      · obtain ⟨z, -, hz⟩ := List.mem_map.mp h
        rw [← hz]
        exact hrb.1⟩ _ hheap X'
  exact ⟨t, step t a1, b1⟩
theorem hw_getC {a : Nat} {u : Unit} (C0 : Cx E B p s m args meth c cc own nL ret) (hH : Hw E B s.heap σ H locs) (hg : isA σ a = some u) (hl : Cond.methodLink own index ⟨"java/lang/Object", "getClass", "()Ljava/lang/Class;"⟩ ∈ lw_good ∧ Cond.selects "[Ljava/lang/Object;" ⟨"java/lang/Object", "getClass", "()Ljava/lang/Class;"⟩ ⟨"java/lang/Object", "getClass", "()Ljava/lang/Class;"⟩ ∈ lw_good ∧ Cond.instanceMethod ⟨"java/lang/Object", "getClass", "()Ljava/lang/Class;"⟩ ∈ lw_good ∧ Cond.native ⟨"java/lang/Object", "getClass", "()Ljava/lang/Class;"⟩ ∈ lw_good) (hsz : ls.size = nL) (hR : 1 ≤ R.frames ∧ 60 ≤ R.locals) (hW : (rest.map fun v => v.category).sum ≤ 8) (hdg : decode cc pc = .ok (.invokevirtual index, 3))
    (kk : W p l e R s m args below meth c H locs cells slots Q (F0 m (pc + 3) ls (.ref (σ.2.2 2) :: rest))) : W p l e R s m args below meth c H locs cells slots Q (F0 m pc ls (.ref a :: rest)) := by
  obtain ⟨⟨hx, hb, hml, hown, hts⟩, -, hBs, hEk⟩ := C0
  rw [hH.1.1.2.2.2.2] at kk
  unfold isA at hg
  split at hg
  · rename_i x ho
    split at hg
    · rename_i h7
      obtain ⟨x1, x2⟩ := x
      simp only at h7
      subst h7
      obtain ⟨hr, he⟩ := hH.1.at ho ne_na
      have hc0 : H[a]? = some (vp_cell (E.2.2.1 7) x2) := hH.1.2 _ _ he
      have hnm := va_nmO (nm := "[Ljava/lang/Object;") (hEk.1.2 7 _ rfl).2 (by decide)
      refine va_getC hx hb (by rw [hml]; exact hsz.symm) hown (hts _ hl.1) (va_Dc.use hEk.2.2.2.2.2.1.2.2.2.2.2.2.2.2.2.2.2) (hts _ hl.2.1) (hts _ hl.2.2.1) (hts _ hl.2.2.2) hEk.2.2.2.2.2.1.2.2.2.2.2.2.2.2.2.2.1 ⟨_, hc0, ?_, ?_⟩ hR.1 (by omega) hdg kk
      · obtain ⟨n, y⟩ := x2
        rcases y with y | y | y | y | y <;> rfl
      · rw [hnm]
        obtain ⟨n, y⟩ := x2
        rcases y with y | y | y | y | y <;> rfl
    · cases hg
  · cases hg
theorem hw_ldcM (C0 : Cx E B p s m args meth c cc own nL ret) (hH : Hw E B s.heap σ H locs) (hl : Cond.classLink own index "[Ljava/lang/Object;" ∈ lw_good) (hdg : decode cc pc = .ok (.ldc index, 2))
    (kk : W p l e R s m args below meth c H locs cells slots Q (F0 m (pc + 2) ls (.ref (σ.2.2 2) :: rest))) : W p l e R s m args below meth c H locs cells slots Q (F0 m pc ls rest) := by
  rw [hH.1.1.2.2.2.2] at kk
  exact va_ldcM C0.1.1 C0.1.2.1 C0.1.2.2.2.1 (C0.1.2.2.2.2 _ hl) C0.2.2.2.2.2.2.2.2.1.2.2.2.2.2.2.2.2.2.2.1 hdg kk
end HJ4
