/-! ===== calls again, in the form that the walks use ===== -/
section HC2
variable {p : Program} {l : Launch} {e : Env} {R : Room} {s : State} {m : MethodId} {args : Array Value} {below : List Frame} {meth : Method} {c : Code} {H : Heap} {locs : List Loc} {cells slots : Nat} {Q : State → Prop}
variable {E : Ev} {B : Nat} {σ σ1 : Hs} {cc bytes : ByteArray} {own : String} {nL pc index maxL n fr lo mc ms : Nat} {ret ret1 : Option FieldType} {ls : Array Slot} {y : MethodName} {r : Option Value}
theorem hw_cS {st st2 : List Value} (As rest : List Value) (C0 : Cx E B p s m args meth c cc own nL ret) (hH : Hw E B s.heap σ H locs) (hY : Yk y bytes maxL ret1 n) (hS : Cond.static y ∈ lw_good) (hL : Lk own index y) (hM : Cm l E B y bytes maxL ret1 fr lo mc ms As σ σ1 r)
    (hn : As.length = n) (hst : st = As.reverse ++ rest) (h2 : r.toList ++ rest = st2) (hsz : ls.size = nL) (hW : (rest.map fun v => v.category).sum ≤ 8) (hdg : decode cc pc = .ok (.invokestatic index, 3)) (hR : fr + 1 ≤ R.frames ∧ 8 + (maxL + 11) + lo ≤ R.locals) (hf : cells + mc ≤ R.cells ∧ slots + ms ≤ R.slots)
    (kk : ∀ (H : Heap) (locs : List Loc), Hw E B s.heap σ1 H locs → W p l e R s m args below meth c H locs (cells + mc) (slots + ms) Q (F0 m (pc + 3) ls st2)) : W p l e R s m args below meth c H locs cells slots Q (F0 m pc ls st) := by
  subst hst; subst h2
  exact hw_callS C0 hH hY hS hL hM hn hsz hW hdg hR hf kk
theorem hw_cV {st st2 : List Value} {b ci : Nat} {u : Unit} {T : u_T} {N : Nat} (As rest : List Value) (C0 : Cx E B p s m args meth c cc own nL ret) (hH : Hw E B s.heap σ H locs) (hY : Yk y bytes maxL ret1 n) (hI : Cond.instanceMethod y ∈ lw_good ∧ Cond.selects y.cls y y ∈ lw_good) (hL : Lk own index y) (hv : vwCl[ci]? = some (y.cls, T, N)) (hM : Cm l E B y bytes maxL ret1 fr lo mc ms (.ref b :: As) σ σ1 r) (hc : isC σ b ci = some u)
    (hn : As.length = n) (hst : st = As.reverse ++ .ref b :: rest) (h2 : r.toList ++ rest = st2) (hsz : ls.size = nL) (hW : (rest.map fun v => v.category).sum ≤ 8) (hdg : decode cc pc = .ok (.invokevirtual index, 3)) (hR : fr + 1 ≤ R.frames ∧ 8 + (maxL + 11) + lo ≤ R.locals) (hf : cells + mc ≤ R.cells ∧ slots + ms ≤ R.slots)
    (kk : ∀ (H : Heap) (locs : List Loc), Hw E B s.heap σ1 H locs → W p l e R s m args below meth c H locs (cells + mc) (slots + ms) Q (F0 m (pc + 3) ls st2)) : W p l e R s m args below meth c H locs cells slots Q (F0 m pc ls st) := by
  subst hst; subst h2
  exact hw_callV C0 hH hY hI hL hv hM hc hn hsz hW hdg hR hf kk
theorem hw_cI {st st2 : List Value} {b : Nat} (As rest : List Value) (C0 : Cx E B p s m args meth c cc own nL ret) (hH : Hw E B s.heap σ H locs) (hY : Yk y bytes maxL none n) (hI : Cond.instanceMethod y ∈ lw_good ∧ y.name = "<init>") (hL : Lk own index y) (hM : Cm l E B y bytes maxL none fr lo mc ms (.ref b :: As) σ σ1 r)
    (hn : As.length = n) (hst : st = As.reverse ++ .ref b :: rest) (h2 : r.toList ++ rest = st2) (hsz : ls.size = nL) (hW : (rest.map fun v => v.category).sum ≤ 8) (hdg : decode cc pc = .ok (.invokespecial index, 3)) (hR : fr + 1 ≤ R.frames ∧ 8 + (maxL + 11) + lo ≤ R.locals) (hf : cells + mc ≤ R.cells ∧ slots + ms ≤ R.slots)
    (kk : ∀ (H : Heap) (locs : List Loc), Hw E B s.heap σ1 H locs → W p l e R s m args below meth c H locs (cells + mc) (slots + ms) Q (F0 m (pc + 3) ls st2)) : W p l e R s m args below meth c H locs cells slots Q (F0 m pc ls st) := by
  subst hst; subst h2
  exact hw_callI C0 hH hY hI hL hM hn hsz hW hdg hR hf kk
end HC2
abbrev le0 : (0 : Nat) ≤ 0 := Nat.le_refl 0
/-! ===== new cells ===== -/
theorem naI_spec {t M : Nat} {σ : Hs} {n : Int32} {q : Nat × Hs} (h : naI t M σ n = some q) : ¬ n < 0 ∧ n.toNatClampNeg ≤ M ∧ q = (σ.1, nw σ (.inl (t, n.toNatClampNeg, .inl (fun _ => 0)))) := by
  unfold naI at h
  split at h
  · rename_i e; exact ⟨e.1, e.2, (Option.some.inj h).symm⟩
  · cases h
theorem naL_spec {M : Nat} {σ : Hs} {n : Int32} {q : Nat × Hs} (h : naL M σ n = some q) : ¬ n < 0 ∧ n.toNatClampNeg ≤ M ∧ q = (σ.1, nw σ (.inl (1, n.toNatClampNeg, .inr (.inl (fun _ => 0))))) := by
  unfold naL at h
  split at h
  · rename_i e; exact ⟨e.1, e.2, (Option.some.inj h).symm⟩
  · cases h
theorem naR_spec {t M : Nat} {σ : Hs} {n : Int32} {q : Nat × Hs} (h : naR t M σ n = some q) : ¬ n < 0 ∧ n.toNatClampNeg ≤ M ∧ q = (σ.1, nw σ (.inl (t, n.toNatClampNeg, .inr (.inr (.inr (.inr (fun _ => none))))))) := by
  unfold naR at h
  split at h
  · rename_i e; exact ⟨e.1, e.2, (Option.some.inj h).symm⟩
  · cases h
def nwO (ci : Nat) (ty0 : Nat → FieldType) (σ : Hs) : Hs := nw σ (.inr (ci, fun k => defaultValue (ty0 k)))
section HN
variable {p : Program} {l : Launch} {e : Env} {R : Room} {s : State} {m : MethodId} {args : Array Value} {below : List Frame} {meth : Method} {c : Code} {H : Heap} {locs : List Loc} {cells slots : Nat} {Q : State → Prop}
variable {E : Ev} {B : Nat} {σ : Hs} {cc : ByteArray} {own : String} {nL pc : Nat} {ret : Option FieldType} {ls : Array Slot} {rest : List Value}
theorem Hw.new {H1 : Heap} {c1 : Ce} (hH : Hw E B s.heap σ H locs) (z : H1.size = H.size + 1) (oq : ∀ q : Nat, q < H.size → H1[q]? = H[q]?) (hat : va_at (E.1, E.2.1) vwCl (σ.1, cn E c1) H1) : Hw E B s.heap (nw σ c1) H1 locs := by
  have hz := hH.1.1.2.1
  refine ⟨hH.1.new (by rw [z, hz]) ?_, by rw [z]; exact Nat.le_succ_of_le hH.2.1, fun q h1 h2 => ?_, hH.2.2.2⟩
  · refine va_P.app (hH.1.2.kept (fun k x hx => oq x.1 ((hH.1.2 k x hx).lt))) (fun k x hx => ?_)
    have hz : k < 1 := (List.getElem?_eq_some_iff.mp hx).1
    rw [show k = 0 by omega] at hx
    cases hx
    exact hat
  · rw [oq q (Nat.lt_of_lt_of_le h1 hH.2.1)]
    exact hH.2.2.1 q h1 h2
theorem hw_newI {atype : ArrayType} {ty : FieldType} {t M : Nat} {n : Int32} {q : Nat × Hs} (hty : newarray.typeOf atype = ty) (htE : ∀ E : Ev, (tysE E)[t]? = some (E.2.2.1 t, ty)) (hdf : defaultValue ty = .int 0) (hra : ∀ cA : ClassId, va_RA s cA ty → s.vm.findClass ("[" ++ ty.toString) = some cA) (C0 : Cx E B p s m args meth c cc own nL ret) (hH : Hw E B s.heap σ H locs) (hg : naI t M σ n = some q) (harr : Cond.arrayClass ty ∈ lw_good) (hby : M * componentBytes ty ≤ 536870912) (hc : cells + 1 ≤ R.cells) (hs : slots + M ≤ R.slots) (hdg : decode cc pc = .ok (.newarray atype, 2))
    (kk : ∀ H : Heap, Hw E B s.heap q.2 H locs → W p l e R s m args below meth c H locs (cells + 1) (slots + M) Q (F0 m (pc + 2) ls (.ref q.1 :: rest))) : W p l e R s m args below meth c H locs cells slots Q (F0 m pc ls (.int n :: rest)) := by
  obtain ⟨⟨hx, hb, hml, hown, hts⟩, -, hBs, hEk⟩ := C0
  obtain ⟨h1, h2, rfl⟩ := naI_spec hg
  subst hty
  have hz := hH.1.1.2.1
  have hby2 := Nat.le_trans (Nat.mul_le_mul_right (componentBytes (newarray.typeOf atype)) h2) hby
  refine va_newaK hx hb (hts _ harr) rfl hdg rfl h1 rfl hby2 hc (by omega) hz fun H1 cA e1 z1 o1 hAr hNm => ?_
  have hcA : E.2.2.1 t = cA := Option.some.inj ((hra _ (hEk.1.2 t _ (htE E)).2).symm.trans hNm)
  refine W.widen (k := cells + 1) (n := slots + M) (Nat.le_refl _) (by omega) (kk H1 (hH.new (by rw [z1, hz]) (fun q hq => o1 q (by rw [hz] at hq; exact hq)) ?_))
  show H1[σ.1]? = some (vp_cell (E.2.2.1 t) _)
  rw [e1, hcA, vp_cell_i, hdf]
theorem hw_newL {M : Nat} {n : Int32} {q : Nat × Hs} (C0 : Cx E B p s m args meth c cc own nL ret) (hH : Hw E B s.heap σ H locs) (hg : naL M σ n = some q) (harr : Cond.arrayClass .long ∈ lw_good) (hby : M * 8 ≤ 536870912) (hc : cells + 1 ≤ R.cells) (hs : slots + M ≤ R.slots) (hdg : decode cc pc = .ok (.newarray .long, 2))
    (kk : ∀ H : Heap, Hw E B s.heap q.2 H locs → W p l e R s m args below meth c H locs (cells + 1) (slots + M) Q (F0 m (pc + 2) ls (.ref q.1 :: rest))) : W p l e R s m args below meth c H locs cells slots Q (F0 m pc ls (.int n :: rest)) := by
  obtain ⟨⟨hx, hb, hml, hown, hts⟩, -, hBs, hEk⟩ := C0
  obtain ⟨h1, h2, rfl⟩ := naL_spec hg
  have hz := hH.1.1.2.1
  have hby2 : n.toNatClampNeg * componentBytes (newarray.typeOf .long) ≤ 536870912 := Nat.le_trans (Nat.mul_le_mul_right 8 h2) hby
  refine va_newaK (atype := .long) hx hb (hts _ harr) rfl hdg rfl h1 rfl hby2 hc (by omega) hz fun H1 cA e1 z1 o1 hAr hNm => ?_
  have hcA : E.2.2.1 1 = cA := Option.some.inj (Eq.trans (Eq.symm (hEk.1.2 1 _ rfl).2) hNm)
  refine W.widen (k := cells + 1) (n := slots + M) (Nat.le_refl _) (by omega) (kk H1 (hH.new (by rw [z1, hz]) (fun q hq => o1 q (by rw [hz] at hq; exact hq)) ?_))
  show H1[σ.1]? = some (vp_cell (E.2.2.1 1) _)
  rw [e1, hcA, vp_cell_l]
  rfl
theorem hw_newR {C : String} {t M index : Nat} {n : Int32} {q : Nat × Hs} (htE : ∀ E : Ev, (tysE E)[t]? = some (E.2.2.1 t, .object C)) (hao : ∀ (E : Ev) (B : Nat) (s : State), Ek E B s → va_AO C s) (C0 : Cx E B p s m args meth c cc own nL ret) (hH : Hw E B s.heap σ H locs) (hg : naR t M σ n = some q) (hcl : Cond.classLink own index C ∈ lw_good) (hby : M * 4 ≤ 536870912) (hc : cells + 1 ≤ R.cells) (hs : slots + M ≤ R.slots) (hdg : decode cc pc = .ok (.anewarray index, 3))
    (kk : ∀ H : Heap, Hw E B s.heap q.2 H locs → W p l e R s m args below meth c H locs (cells + 1) (slots + M) Q (F0 m (pc + 3) ls (.ref q.1 :: rest))) : W p l e R s m args below meth c H locs cells slots Q (F0 m pc ls (.int n :: rest)) := by
  obtain ⟨⟨hx, hb, hml, hown, hts⟩, -, hBs, hEk⟩ := C0
  obtain ⟨h1, h2, rfl⟩ := naR_spec hg
  have hz := hH.1.1.2.1
  refine W.anew hx hb hown (hts _ hcl) (va_AO.use (hao E B s hEk)) rfl hdg rfl h1 (Nat.le_trans (Nat.mul_le_mul_right 4 h2) hby) hc (by omega) fun cA kA comp f1 f2 f3 f4 => ?_
  generalize hH1 : H.push ({ cls := cA, slots := Array.replicate n.toNatClampNeg .null, vm := .none } : Cell) = H1
  have z1 : H1.size = H.size + 1 := by rw [← hH1, Array.size_push]
  have e1 : H1[H.size]? = some (arrV cA n.toNatClampNeg (fun _ => .null)) := by rw [← hH1, Array.getElem?_push_size, ← arrV_new]
  have o1 : ∀ q : Nat, q < H.size → H1[q]? = H[q]? := fun q hq => by rw [← hH1, Array.getElem?_push, if_neg (Nat.ne_of_lt hq)]
  obtain ⟨kA', comp', k1, k2, k3, k4⟩ := (hEk.1.2 t _ (htE E)).2
  have hcA : E.2.2.1 t = cA := by
    first
      | exact Option.some.inj (k4.symm.trans f1)
      | exact Option.some.inj (k4.symm.trans f2)
      | exact Option.some.inj (k4.symm.trans f3)
      | exact Option.some.inj (k4.symm.trans f4)
  rw [hz]
  refine W.widen (k := cells + 1) (n := slots + M) (Nat.le_refl _) (by omega) (kk H1 (hH.new z1 o1 ?_))
  show H1[σ.1]? = some (vp_cell (E.2.2.1 t) _)
  rw [← hz, e1, hcA, vp_cell_q]
  rfl
theorem hw_new {ci index N : Nat} {C : String} {T : u_T} {ty0 : Nat → FieldType} (C0 : Cx E B p s m args meth c cc own nL ret) (hH : Hw E B s.heap σ H locs) (hK : Kc ci C T N ty0) (hcl : Cond.classLink own index C ∈ lw_good) (hin : Cond.instantiable C N ∈ lw_good) (hini : Cond.initialized C ∈ lw_good) (hc : cells + 1 ≤ R.cells) (hs : slots + N ≤ R.slots) (hdg : decode cc pc = .ok (.new index, 3))
    (kk : ∀ H : Heap, Hw E B s.heap (nwO ci ty0 σ) H locs → W p l e R s m args below meth c H locs (cells + 1) (slots + N) Q (F0 m (pc + 3) ls (.ref σ.1 :: rest))) : W p l e R s m args below meth c H locs cells slots Q (F0 m pc ls rest) := by
  obtain ⟨⟨hx, hb, hml, hown, hts⟩, -, hBs, hEk⟩ := C0
  obtain ⟨hv, hws, hty, hnm⟩ := hK
  have hz := hH.1.1.2.1
  have hKn := hEk.1.1 ci _ hv
  have hN := (in_vw hv).1
  refine W.newcK hx hb hown (hts _ hcl) (hts _ hin) (hts _ hini) rfl hdg hc hs hKn.2.1 hz fun H1 kC hkC e1 z1 o1 => ?_
  refine kk H1 (hH.new (by rw [z1, hz]) (fun q hq => o1 q (by rw [hz] at hq; exact hq)) ⟨_, hv, (u_born ty0 hts hws hKn hkC e1 hty).to (fun j hj => ?_)⟩)
  rw [vpV_map (F := fun k => defaultValue (ty0 k)) (by rw [hN]; exact hj)]
theorem hw_oinit {index a : Nat} (C0 : Cx E B p s m args meth c cc own nL ret) (hl : Cond.methodLink own index Lib.objectInit ∈ lw_good) (hi : Cond.instanceMethod Lib.objectInit ∈ lw_good) (hco : Cond.code Lib.objectInit ⟨#[0xb1]⟩ 1 none ∈ lw_good) (hsz : ls.size = nL) (hdg : decode cc pc = .ok (.invokespecial index, 3)) (hfr : 1 ≤ R.frames) (hlo : (rest.map fun v => v.category).sum + 12 ≤ R.locals)
    (kk : W p l e R s m args below meth c H locs cells slots Q (F0 m (pc + 3) ls rest)) : W p l e R s m args below meth c H locs cells slots Q (F0 m pc ls (.ref a :: rest)) := by
  obtain ⟨⟨hx, hb, hml, hown, hts⟩, -, hBs, hEk⟩ := C0
  refine W.objInit hx hb hown (hts _ hl) (hts _ hi) (hts _ hco) rfl (by rw [hml]; exact hsz) rfl hdg hfr ?_ kk
  have : (F0 m pc ls (Value.ref a :: rest)).monitorRoom = 0 := rfl
  rw [this]; simpa using hlo
end HN
theorem nar_rf (r : Option Nat) (C : String) : narrow (.object C) (va_rf r) = va_rf r := by cases r <;> rfl
theorem fit_rf (r : Option Nat) (C : String) : fits (.object C) (va_rf r) = true := by cases r <;> rfl
