/-! ===== more rows: fields, arrays, new cells, ends ===== -/
theorem vpV_map {n j : Nat} {F : Nat → Value} (h : j < n) : vp_V ((List.range n).map F) j = F j := by
  simp [vp_V, List.getD_eq_getElem?_getD, List.getElem?_map, List.getElem?_range h]
/-- what is known of a class -/
def Kc (ci : Nat) (C : String) (T : u_T) (N : Nat) (ty0 : Nat → FieldType) : Prop :=
  vwCl[ci]? = some (C, T, N) ∧ (∀ w ∈ u_ws C T N, w ∈ lw_good) ∧ (∀ k, k < N → parseFieldDescriptor (T k).2.2.1 = some (ty0 k)) ∧ (∀ a, a < N → ∀ b, b < N → a ≠ b → (T a).2.1 ≠ (T b).2.1)
def Fp (own : String) (index ci k : Nat) (ty : FieldType) : Prop := ∃ (C : String) (T : u_T) (N : Nat) (ty0 : Nat → FieldType) (ref : String), Kc ci C T N ty0 ∧ k < N ∧ ty0 k = ty ∧ (Cond.fieldLink own index ref (T k).2.1 (T k).2.2.1 ∈ lw_good ∨ ∃ host, Cond.fieldLinkNest own index ref (T k).2.1 (T k).2.2.1 host ∈ lw_nw) ∧ (ref = (T k).1 ∨ Cond.sameField ref (T k).1 (T k).2.1 (T k).2.2.1 ∈ lw_good) ∧ (T k).2.2.2 = false
def Ff (own : String) (index ci k : Nat) (ty : FieldType) : Prop := ∃ (C : String) (T : u_T) (N : Nat) (ty0 : Nat → FieldType) (ref : String), Kc ci C T N ty0 ∧ k < N ∧ ty0 k = ty ∧ Cond.fieldLink own index ref (T k).2.1 (T k).2.2.1 ∈ lw_good ∧ ref = (T k).1 ∧ (T k).2.2.2 = true ∧ (T k).1 = own
theorem Kc.fl {own : String} {index ci k : Nat} {C : String} {T : u_T} {N : Nat} {ty0 : Nat → FieldType} {ref : String} (h : Kc ci C T N ty0) (hk : k < N) (hl : Cond.fieldLink own index ref (T k).2.1 (T k).2.2.1 ∈ lw_good ∨ ∃ host, Cond.fieldLinkNest own index ref (T k).2.1 (T k).2.2.1 host ∈ lw_nw) (hs : ref = (T k).1 ∨ Cond.sameField ref (T k).1 (T k).2.1 (T k).2.2.1 ∈ lw_good) : Fl own index ci k := ⟨C, T, N, ref, h.1, hk, h.2.1, hl, hs⟩
theorem u_sm {s : State} {args : Array Value} {ref O n d : String} (hts : ∀ w ∈ lw_good, w.before args s = true) (h : ref = O ∨ Cond.sameField ref O n d ∈ lw_good) : ∀ x, s.fieldFound? O n d = some x → s.fieldFound? ref n d = some x := by
  rcases h with q | q
  · rw [q]; exact fun _ h => h
  · exact u_same (hts _ q)
def ldZ := ldI 3
def ldB := ldI 2
def ldC := ldI 4
def bb (x : Int32) : Option Int32 := if x = 0 ∨ x = 1 then some x else none
theorem bb_spec {x y : Int32} (h : bb x = some y) : (x = 0 ∨ x = 1) ∧ y = x := by
  unfold bb at h
  split at h
  · rename_i q; exact ⟨q, (Option.some.inj h).symm⟩
  · cases h
theorem nar_bb {x : Int32} (h : x = 0 ∨ x = 1) : narrow .boolean (.int x) = .int x ∧ fits .boolean (.int x) = true := by
  rcases h with rfl | rfl <;> exact ⟨by decide, by decide⟩
theorem pZ_spec {σ σ' : Hs} {a ci k : Nat} {x : Int32} (h : pZ σ a ci k x = some σ') : (x = 0 ∨ x = 1) ∧ pV σ a ci k (.int x) = some σ' := by
  unfold pZ at h
  split at h
  · rename_i q; exact ⟨q, h⟩
  · cases h
theorem ldL_spec {σ : Hs} {a : Nat} {i : Int32} {x : Int64} (h : ldL σ a i = some x) : ∃ n f, σ.2.1 a = .inl (1, n, .inr (.inl f)) ∧ ix i n = true ∧ x = f i.toNatClampNeg := by
  unfold ldL at h
  split at h
  · rename_i t' n f ho
    split at h
    · rename_i e
      obtain ⟨e1, e2⟩ := e
      subst e1
      exact ⟨n, f, ho, e2, (Option.some.inj h).symm⟩
    · cases h
  · cases h
theorem ldR_spec {t : Nat} {σ : Hs} {a : Nat} {i : Int32} {x : Option Nat} (h : ldR t σ a i = some x) : ∃ n f, σ.2.1 a = .inl (t, n, .inr (.inr (.inr (.inr f)))) ∧ ix i n = true ∧ x = f i.toNatClampNeg := by
  unfold ldR at h
  split at h
  · rename_i t' n f ho
    split at h
    · rename_i e
      obtain ⟨e1, e2⟩ := e
      subst e1
      exact ⟨n, f, ho, e2, (Option.some.inj h).symm⟩
    · cases h
  · cases h
theorem stL_spec {σ σ' : Hs} {a : Nat} {i : Int32} {x : Int64} (h : stL σ a i x = some σ') : ∃ n f, σ.2.1 a = .inl (1, n, .inr (.inl f)) ∧ ix i n = true ∧ σ' = (σ.1, va_up σ.2.1 a (.inl (1, n, .inr (.inl (vp_updL f i.toNatClampNeg x)))), σ.2.2) := by
  unfold stL at h
  split at h
  · rename_i t' n f ho
    split at h
    · rename_i e
      obtain ⟨e1, e2⟩ := e
      subst e1
      exact ⟨n, f, ho, e2, (Option.some.inj h).symm⟩
    · cases h
  · cases h
/-- a cell of a class, just made: every field as its type has it at first -/
def dfV (ty : FieldType) : Value := defaultValue ty
def nw (σ : Hs) (c : Ce) : Hs := (σ.1 + 1, va_up σ.2.1 σ.1 c, σ.2.2)
/-- arrays just made, at most M long -/
def naI (t : Nat) (M : Nat) (σ : Hs) (n : Int32) : Option (Nat × Hs) := if ¬ n < 0 ∧ n.toNatClampNeg ≤ M then some (σ.1, nw σ (.inl (t, n.toNatClampNeg, .inl (fun _ => 0)))) else none
def naL (M : Nat) (σ : Hs) (n : Int32) : Option (Nat × Hs) := if ¬ n < 0 ∧ n.toNatClampNeg ≤ M then some (σ.1, nw σ (.inl (1, n.toNatClampNeg, .inr (.inl (fun _ => 0))))) else none
def naR (t : Nat) (M : Nat) (σ : Hs) (n : Int32) : Option (Nat × Hs) := if ¬ n < 0 ∧ n.toNatClampNeg ≤ M then some (σ.1, nw σ (.inl (t, n.toNatClampNeg, .inr (.inr (.inr (.inr (fun _ => none))))))) else none
section HW2
variable {p : Program} {l : Launch} {e : Env} {R : Room} {s : State} {m : MethodId} {args : Array Value} {below : List Frame} {meth : Method} {c : Code} {H : Heap} {locs : List Loc} {cells slots : Nat} {Q : State → Prop}
variable {E : Ev} {B : Nat} {σ σ' : Hs} {cc : ByteArray} {own : String} {nL pc : Nat} {ret : Option FieldType} {ls : Array Slot} {rest : List Value}
theorem hw_put {index ci k a : Nat} {v : Value} {ty : FieldType} (C0 : Cx E B p s m args meth c cc own nL ret) (hH : Hw E B s.heap σ H locs) (hg : pV σ a ci k v = some σ') (hF : Fp own index ci k ty) (hn : narrow ty v = v) (hfit : fits ty v = true) (hdg : decode cc pc = .ok (.putfield index, 3))
    (kk : ∀ (H : Heap) (locs : List Loc), Hw E B s.heap σ' H locs → W p l e R s m args below meth c H locs cells slots Q (F0 m (pc + 3) ls rest)) : W p l e R s m args below meth c H locs cells slots Q (F0 m pc ls (v :: .ref a :: rest)) := by
  obtain ⟨⟨hx, hb, hml, hown, hts⟩, -, hBs, hEk⟩ := C0
  obtain ⟨F, h1, rfl⟩ := pV_spec hg
  obtain ⟨C, T, N, ty0, ref, ⟨hc, hin, hty, hnm⟩, hk, rfl, hl, hsm, hfin⟩ := hF
  obtain ⟨hN, h9⟩ := in_vw hc
  obtain ⟨hr, he⟩ := hH.1.at h1 (ne_no h9)
  have hsame := u_sm (s := s) hts hsm
  have hap := va_apart (own := own) hts hin ty0 hty hnm hEk.1 hc
  obtain ⟨r, h2, cell, q1, q2, q3, q4⟩ := hH.1.2 _ _ he
  have hr2 : r = (C, T, N) := Option.some.inj (h2.symm.trans hc)
  subst hr2
  obtain ⟨hS, hfc, kC, hkC, hkind⟩ := hEk.1.1 ci _ hc
  obtain ⟨cf, kf, fi, f, hi, hsl⟩ := hS k hk
  have hlay := hts _ (hin _ (u_in_lay hk))
  unfold u_lay at hlay
  rw [if_neg (by rw [hfin]; decide)] at hlay
  have hst := (u_facts hfc hkC (u_lays hts hin hk) hi).1
  have h6 := u_store hfc hkC hkind hlay hi (hty k hk) hn hfit
  have fin : ∀ H' : Heap, H'[a]? = some (cell.setSlot f.slot v) → H'.size = H.size → (∀ q, q ≠ a → H'[q]? = H[q]?) → W p l e R s m args below meth c H' (locs ++ [⟨a, f.slot⟩]) cells slots Q (F0 m (pc + 3) ls rest) := by
    intro H' e1 e2 e3
    rw [hsl] at e1
    refine kk H' _ (hH.st h1 (ne_no h9) e2 e3 ⟨_, hc, t_OB.to (V := updV (vp_V ((List.range (nF ci)).map F)) k v) ⟨_, e1, q2, q3, t_set q4 hap hk v⟩ (fun j hj => ?_)⟩)
    have hj2 : j < nF ci := by rw [hN]; exact hj
    rw [vpV_map (F := va_up F k v) hj2]
    by_cases hq : j = k
    · subst hq; simp [updV, va_up]
    · simp [updV, va_up, hq, vpV_map hj2]
  rcases hl with q | ⟨host, q⟩
  · exact W.putK hx hb (f := f) ⟨hown, hts _ q, ⟨_, _, _, hsame _ hi⟩, hst⟩ (by rw [q2]; exact h6) q1 q3 (by rw [hsl]; exact k2_hasslot (q4 k hk)) rfl rfl hdg fin
  · exact va_WputK hx hb (f := f) hown (va_Nw.use rfl (hEk.2.1 _ q)) (hsame _ hi) hst (by rw [q2]; exact h6) q1 q3 (by rw [hsl]; exact k2_hasslot (q4 k hk)) rfl rfl hdg fin
theorem hw_putF {index ci k a : Nat} {v : Value} {ty : FieldType} (C0 : Cx E B p s m args meth c cc own nL ret) (hnm0 : meth.name = "<init>") (hH : Hw E B s.heap σ H locs) (hg : pV σ a ci k v = some σ') (hF : Ff own index ci k ty) (hn : narrow ty v = v) (hfit : fits ty v = true) (hdg : decode cc pc = .ok (.putfield index, 3))
    (kk : ∀ (H : Heap) (locs : List Loc), Hw E B s.heap σ' H locs → W p l e R s m args below meth c H locs cells slots Q (F0 m (pc + 3) ls rest)) : W p l e R s m args below meth c H locs cells slots Q (F0 m pc ls (v :: .ref a :: rest)) := by
  obtain ⟨⟨hx, hb, hml, hown, hts⟩, -, hBs, hEk⟩ := C0
  obtain ⟨F, h1, rfl⟩ := pV_spec hg
  obtain ⟨C, T, N, ty0, ref, ⟨hc, hin, hty, hnm⟩, hk, rfl, hl, hsm, hfin, hdecl⟩ := hF
  obtain ⟨hN, h9⟩ := in_vw hc
  obtain ⟨hr, he⟩ := hH.1.at h1 (ne_no h9)
  have hap := va_apart (own := own) hts hin ty0 hty hnm hEk.1 hc
  obtain ⟨r, h2, cell, q1, q2, q3, q4⟩ := hH.1.2 _ _ he
  have hr2 : r = (C, T, N) := Option.some.inj (h2.symm.trans hc)
  subst hr2
  obtain ⟨hS, hfc, kC, hkC, hkind⟩ := hEk.1.1 ci _ hc
  obtain ⟨cf, kf, fi, f, hi, hsl⟩ := hS k hk
  have hlay := hts _ (hin _ (u_in_lay hk))
  unfold u_lay at hlay
  rw [if_pos hfin] at hlay
  have hst := (u_facts hfc hkC (u_lays hts hin hk) hi).1
  have hcf : m.cls = cf := by
    obtain ⟨_, _, c', _, _, _, -, -, hf', -, -, -, hown2, -⟩ := Cond.laysFinal_spec hlay
    have e1 : c' = cf := by have := hi.symm.trans hf'; simp at this; exact this.1.symm
    rw [hdecl] at hown2
    rw [← e1]; exact Option.some.inj (hown.symm.trans hown2)
  have h6 := u_fits hfc hkC hkind (Or.inr hlay) hi (hty k hk) hn hfit
  refine W.putFinK hx hb hown (hts _ hl) (by rw [hsm]; exact hi) hst hcf hnm0 (by rw [q2]; exact h6) q1 q3 (by rw [hsl]; exact k2_hasslot (q4 k hk)) rfl rfl hdg fun H' e1 e2 e3 => ?_
  rw [hsl] at e1
  refine kk H' _ (hH.st h1 (ne_no h9) e2 e3 ⟨_, hc, t_OB.to (V := updV (vp_V ((List.range (nF ci)).map F)) k v) ⟨_, e1, q2, q3, t_set q4 hap hk v⟩ (fun j hj => ?_)⟩)
  have hj2 : j < nF ci := by rw [hN]; exact hj
  rw [vpV_map (F := va_up F k v) hj2]
  by_cases hq : j = k
  · subst hq; simp [updV, va_up]
  · simp [updV, va_up, hq, vpV_map hj2]
theorem hw_putZ {index ci k a : Nat} {x : Int32} (C0 : Cx E B p s m args meth c cc own nL ret) (hH : Hw E B s.heap σ H locs) (hg : pZ σ a ci k x = some σ') (hF : Fp own index ci k .boolean) (hdg : decode cc pc = .ok (.putfield index, 3))
    (kk : ∀ (H : Heap) (locs : List Loc), Hw E B s.heap σ' H locs → W p l e R s m args below meth c H locs cells slots Q (F0 m (pc + 3) ls rest)) : W p l e R s m args below meth c H locs cells slots Q (F0 m pc ls (.int x :: .ref a :: rest)) := by
  obtain ⟨h1, h2⟩ := pZ_spec hg
  exact hw_put C0 hH h2 hF (nar_bb h1).1 (nar_bb h1).2 hdg kk
theorem hw_bald {a : Nat} {i x : Int32} (C0 : Cx E B p s m args meth c cc own nL ret) (hH : Hw E B s.heap σ H locs) (hg : ldI 2 σ a i = some x) (hdg : decode cc pc = .ok (.baload, 1))
    (kk : W p l e R s m args below meth c H locs cells slots Q (F0 m (pc + 1) ls (.int x :: rest))) : W p l e R s m args below meth c H locs cells slots Q (F0 m pc ls (.int i :: .ref a :: rest)) := by
  obtain ⟨⟨hx, hb, hml, hown, hts⟩, -, hBs, hEk⟩ := C0
  obtain ⟨n, f, h1, h2, rfl⟩ := ldI_spec hg
  obtain ⟨hr, he⟩ := hH.1.at h1 ne_na
  exact va_bald (D := (E.1, E.2.1)) hx hb hEk.1 hH.1.2 (a - B) 2 he rfl (ix_in h2) hdg kk
theorem hw_zald {a : Nat} {i x : Int32} (C0 : Cx E B p s m args meth c cc own nL ret) (hH : Hw E B s.heap σ H locs) (hg : ldI 3 σ a i = some x) (hdg : decode cc pc = .ok (.baload, 1))
    (kk : W p l e R s m args below meth c H locs cells slots Q (F0 m (pc + 1) ls (.int x :: rest))) : W p l e R s m args below meth c H locs cells slots Q (F0 m pc ls (.int i :: .ref a :: rest)) := by
  obtain ⟨⟨hx, hb, hml, hown, hts⟩, -, hBs, hEk⟩ := C0
  obtain ⟨n, f, h1, h2, rfl⟩ := ldI_spec hg
  obtain ⟨hr, he⟩ := hH.1.at h1 ne_na
  exact va_zald (D := (E.1, E.2.1)) hx hb hEk.1 hH.1.2 (a - B) 3 he rfl (ix_in h2) hdg kk
theorem hw_cald {a : Nat} {i x : Int32} (C0 : Cx E B p s m args meth c cc own nL ret) (hH : Hw E B s.heap σ H locs) (hg : ldI 4 σ a i = some x) (hdg : decode cc pc = .ok (.caload, 1))
    (kk : W p l e R s m args below meth c H locs cells slots Q (F0 m (pc + 1) ls (.int x :: rest))) : W p l e R s m args below meth c H locs cells slots Q (F0 m pc ls (.int i :: .ref a :: rest)) := by
  obtain ⟨⟨hx, hb, hml, hown, hts⟩, -, hBs, hEk⟩ := C0
  obtain ⟨n, f, h1, h2, rfl⟩ := ldI_spec hg
  obtain ⟨hr, he⟩ := hH.1.at h1 ne_na
  exact va_cald (D := (E.1, E.2.1)) hx hb hEk.1 hH.1.2 (a - B) 4 he rfl (ix_in h2) hdg kk
theorem hw_lald {a : Nat} {i : Int32} {x : Int64} (C0 : Cx E B p s m args meth c cc own nL ret) (hH : Hw E B s.heap σ H locs) (hg : ldL σ a i = some x) (hdg : decode cc pc = .ok (.laload, 1))
    (kk : W p l e R s m args below meth c H locs cells slots Q (F0 m (pc + 1) ls (.long x :: rest))) : W p l e R s m args below meth c H locs cells slots Q (F0 m pc ls (.int i :: .ref a :: rest)) := by
  obtain ⟨⟨hx, hb, hml, hown, hts⟩, -, hBs, hEk⟩ := C0
  obtain ⟨n, f, h1, h2, rfl⟩ := ldL_spec hg
  obtain ⟨hr, he⟩ := hH.1.at h1 ne_na
  exact va_lald (D := (E.1, E.2.1)) hx hb hEk.1 hH.1.2 (a - B) 1 he rfl (ix_in h2) hdg kk
theorem hw_aald {t a : Nat} {i : Int32} {x : Option Nat} {C : String} (ht : ∀ E : Ev, (tysE E)[t]? = some (E.2.2.1 t, .object C)) (C0 : Cx E B p s m args meth c cc own nL ret) (hH : Hw E B s.heap σ H locs) (hg : ldR t σ a i = some x) (hdg : decode cc pc = .ok (.aaload, 1))
    (kk : W p l e R s m args below meth c H locs cells slots Q (F0 m (pc + 1) ls (va_rf x :: rest))) : W p l e R s m args below meth c H locs cells slots Q (F0 m pc ls (.int i :: .ref a :: rest)) := by
  obtain ⟨⟨hx, hb, hml, hown, hts⟩, -, hBs, hEk⟩ := C0
  obtain ⟨n, f, h1, h2, rfl⟩ := ldR_spec hg
  obtain ⟨hr, he⟩ := hH.1.at h1 ne_na
  exact va_aldq (D := (E.1, E.2.1)) hx hb hEk.1 hH.1.2 (a - B) t he (ht E) (ix_in h2) hdg kk
theorem hw_last {a : Nat} {i : Int32} {x : Int64} (C0 : Cx E B p s m args meth c cc own nL ret) (hH : Hw E B s.heap σ H locs) (hg : stL σ a i x = some σ') (hdg : decode cc pc = .ok (.lastore, 1))
    (kk : ∀ (H : Heap) (locs : List Loc), Hw E B s.heap σ' H locs → W p l e R s m args below meth c H locs cells slots Q (F0 m (pc + 1) ls rest)) : W p l e R s m args below meth c H locs cells slots Q (F0 m pc ls (.long x :: .int i :: .ref a :: rest)) := by
  obtain ⟨⟨hx, hb, hml, hown, hts⟩, -, hBs, hEk⟩ := C0
  obtain ⟨n, f, h1, h2, rfl⟩ := stL_spec hg
  obtain ⟨hr, he⟩ := hH.1.at h1 ne_na
  refine W.last hx hb (hH.1.2 _ _ he) ((hEk.1.2 1 _ rfl).1 n (fun j => .long (f j))) (fun q => by cases q) (by show ¬ (i < 0 ∨ (arrV _ _ _).slots.size ≤ _); rw [arrV_size]; exact ix_in h2) rfl rfl hdg fun H1 e z oq => ?_
  refine kk H1 _ (hH.st h1 ne_na z oq ?_)
  show H1[a]? = some (vp_cell _ _)
  rw [e, vp_cell_l, vp_cell_l, arrV_store]
  congr 2
  funext q
  by_cases hq : q = i.toNatClampNeg
  · subst hq; simp [updV, vp_updL]
  · simp [updV, vp_updL, hq]
theorem hw_bast {a : Nat} {i x : Int32} (C0 : Cx E B p s m args meth c cc own nL ret) (hH : Hw E B s.heap σ H locs) (hg : stI 2 σ a i (vp_nar .byte x) = some σ') (hdg : decode cc pc = .ok (.bastore, 1))
    (kk : ∀ (H : Heap) (locs : List Loc), Hw E B s.heap σ' H locs → W p l e R s m args below meth c H locs cells slots Q (F0 m (pc + 1) ls rest)) : W p l e R s m args below meth c H locs cells slots Q (F0 m pc ls (.int x :: .int i :: .ref a :: rest)) := by
  obtain ⟨⟨hx, hb, hml, hown, hts⟩, -, hBs, hEk⟩ := C0
  obtain ⟨n, f, h1, h2, rfl⟩ := stI_spec hg
  obtain ⟨hr, he⟩ := hH.1.at h1 ne_na
  refine W.bast hx hb (hH.1.2 _ _ he) ((hEk.1.2 2 _ rfl).1 n (fun j => .int (f j))) (fun q => by cases q) (by show ¬ (i < 0 ∨ (arrV _ _ _).slots.size ≤ _); rw [arrV_size]; exact ix_in h2) rfl rfl hdg fun H1 e z oq => ?_
  refine kk H1 _ (hH.st h1 ne_na z oq ?_)
  show H1[a]? = some (vp_cell _ _)
  rw [e, vp_cell_i, vp_cell_i, arrV_store]
  congr 2
  funext q
  by_cases hq : q = i.toNatClampNeg
  · subst hq; simp [updV, upd, vp_nar]; try rfl
  · simp [updV, upd, hq]
theorem hw_zast {a : Nat} {i x : Int32} (C0 : Cx E B p s m args meth c cc own nL ret) (hH : Hw E B s.heap σ H locs) (hg : stI 3 σ a i (vp_nar .boolean x) = some σ') (hdg : decode cc pc = .ok (.bastore, 1))
    (kk : ∀ (H : Heap) (locs : List Loc), Hw E B s.heap σ' H locs → W p l e R s m args below meth c H locs cells slots Q (F0 m (pc + 1) ls rest)) : W p l e R s m args below meth c H locs cells slots Q (F0 m pc ls (.int x :: .int i :: .ref a :: rest)) := by
  obtain ⟨⟨hx, hb, hml, hown, hts⟩, -, hBs, hEk⟩ := C0
  obtain ⟨n, f, h1, h2, rfl⟩ := stI_spec hg
  obtain ⟨hr, he⟩ := hH.1.at h1 ne_na
  refine W.zast hx hb (hH.1.2 _ _ he) ((hEk.1.2 3 _ rfl).1 n (fun j => .int (f j))) (fun q => by cases q) (by show ¬ (i < 0 ∨ (arrV _ _ _).slots.size ≤ _); rw [arrV_size]; exact ix_in h2) rfl rfl hdg fun H1 e z oq => ?_
  refine kk H1 _ (hH.st h1 ne_na z oq ?_)
  show H1[a]? = some (vp_cell _ _)
  rw [e, vp_cell_i, vp_cell_i, arrV_store]
  congr 2
  funext q
  by_cases hq : q = i.toNatClampNeg
  · subst hq; simp [updV, upd, vp_nar]; try rfl
  · simp [updV, upd, hq]
theorem hw_cast {a : Nat} {i x : Int32} (C0 : Cx E B p s m args meth c cc own nL ret) (hH : Hw E B s.heap σ H locs) (hg : stI 4 σ a i (vp_nar .char x) = some σ') (hdg : decode cc pc = .ok (.castore, 1))
    (kk : ∀ (H : Heap) (locs : List Loc), Hw E B s.heap σ' H locs → W p l e R s m args below meth c H locs cells slots Q (F0 m (pc + 1) ls rest)) : W p l e R s m args below meth c H locs cells slots Q (F0 m pc ls (.int x :: .int i :: .ref a :: rest)) := by
  obtain ⟨⟨hx, hb, hml, hown, hts⟩, -, hBs, hEk⟩ := C0
  obtain ⟨n, f, h1, h2, rfl⟩ := stI_spec hg
  obtain ⟨hr, he⟩ := hH.1.at h1 ne_na
  refine W.cast hx hb (hH.1.2 _ _ he) ((hEk.1.2 4 _ rfl).1 n (fun j => .int (f j))) (fun q => by cases q) (by show ¬ (i < 0 ∨ (arrV _ _ _).slots.size ≤ _); rw [arrV_size]; exact ix_in h2) rfl rfl hdg fun H1 e z oq => ?_
  refine kk H1 _ (hH.st h1 ne_na z oq ?_)
  show H1[a]? = some (vp_cell _ _)
  rw [e, vp_cell_i, vp_cell_i, arrV_store]
  congr 2
  funext q
  by_cases hq : q = i.toNatClampNeg
  · subst hq; simp [updV, upd, vp_nar]; try rfl
  · simp [updV, upd, hq]
theorem Hw.old {a t : Nat} {F : Nat → Value} {H0 : Heap} (hH : Hw E B H0 σ H locs) (ho : σ.2.1 a = .inr (t, F)) (h1 : 15 ≤ t) (h2 : t ≠ 999) : a < B ∧ E.2.2.2.1 a = .inr (t, F) := by
  have hlt : a < B := by
    rcases Nat.lt_or_ge a B with q | q
    · exact q
    · rcases Nat.lt_or_ge a σ.1 with q2 | q2
      · have h0 := hH.1.2 _ _ (wl_at q q2)
        rw [ho] at h0
        obtain ⟨r, h3, -⟩ := h0
        have h4 : t < 15 := (List.getElem?_eq_some_iff.mp h3).1
        omega
      · have hh := hH.1.1.2.2.1 a q2
        rw [ho] at hh
        simp [ce_no] at hh
        exact absurd hh.1 h2
  exact ⟨hlt, by rw [← (hH.1.1.2.2.2.1 a hlt).1]; exact ho⟩
theorem hw_alen {a : Nat} {x : Int32} (C0 : Cx E B p s m args meth c cc own nL ret) (hH : Hw E B s.heap σ H locs) (hg : aN σ a = some x) (hdg : decode cc pc = .ok (.arraylength, 1))
    (kk : W p l e R s m args below meth c H locs cells slots Q (F0 m (pc + 1) ls (.int x :: rest))) : W p l e R s m args below meth c H locs cells slots Q (F0 m pc ls (.ref a :: rest)) := by
  obtain ⟨⟨hx, hb, hml, hown, hts⟩, -, hBs, hEk⟩ := C0
  unfold aN at hg
  split at hg
  · rename_i y ho
    split at hg
    · rename_i h8
      obtain ⟨hr, he⟩ := hH.1.at ho ne_na
      obtain ⟨ty, ht⟩ : ∃ ty, (tysE E)[y.1]? = some (E.2.2.1 y.1, ty) := by
        obtain ⟨y1, y2⟩ := y
        simp only at h8
        match y1, h8 with
        | 0, _ => exact ⟨_, rfl⟩
        | 1, _ => exact ⟨_, rfl⟩
        | 2, _ => exact ⟨_, rfl⟩
        | 3, _ => exact ⟨_, rfl⟩
        | 4, _ => exact ⟨_, rfl⟩
        | 5, _ => exact ⟨_, rfl⟩
        | 6, _ => exact ⟨_, rfl⟩
        | 7, _ => exact ⟨_, rfl⟩
        | k + 8, h => exact absurd h (by omega)
      exact va_alen (D := (E.1, E.2.1)) hx hb hEk.1 hH.1.2 (a - B) y.1 he ht (Option.some.inj hg) hdg kk
    · cases hg
  · rename_i o ho
    split at hg
    · rename_i h5
      obtain ⟨o1, o2⟩ := o
      simp only at h5 hg
      obtain ⟨hlt, hold⟩ := hH.old ho (by omega) (by omega)
      cases hg
      rcases h5 with rfl | ⟨h6, h7⟩ | rfl
      · exact va_tlen hx hb (hEk.2.2.2.2.2.1.1 a o2 hold) hH.2 rfl hdg kk
      · have hz := hEk.2.2.2.2.2.1.2.2.1 a (o1 - 610) o2 (by omega) (by rw [show 610 + (o1 - 610) = o1 by omega]; exact hold)
        rw [show 610 + (o1 - 610) = o1 by omega] at hz
        exact va_tlen hx hb hz hH.2 rfl hdg kk
      · exact va_tlen hx hb (hEk.2.2.2.2.2.1.2.2.2.1 a o2 hold) hH.2 rfl hdg kk
    · cases hg
/-! ends -/
theorem hw_end {σ : Hs} {t : State} (hH : Hw E B s.heap σ H locs) (hBs : B ≤ s.heap.size) (ht : t.heap = H) : Hd E B σ t.heap ∧ s.heap.size ≤ t.heap.size ∧ ∀ q : Nat, q < B → t.heap[q]? = s.heap[q]? :=
  ⟨by rw [ht]; exact hH.1, by rw [ht]; exact hH.2.1, fun q hq => by rw [ht]; exact hH.2.2.1 q (Nat.lt_of_lt_of_le hq hBs) (by omega)⟩
theorem hw_vret {mc ms : Nat} (C0 : Cx E B p s m args meth c cc own nL none) (hH : Hw E B s.heap σ H locs) (h1 : cells ≤ mc) (h2 : slots ≤ ms) (hdg : decode cc pc = .ok (.return_, 1)) :
    W p l e R s m args below meth c H locs cells slots (MQ below (Qk E B σ none) args s mc ms (fun q => B ≤ q)) (F0 m pc ls []) := by
  obtain ⟨⟨hx, hb, hml, hown, hts⟩, ⟨hr, hlk⟩, hBs, hEk⟩ := C0
  refine W.widen (k := mc) (n := ms) h1 h2 ?_
  exact W.vret hx hb hr (fun t ht hW => ⟨rfl, hw_end hH hBs ht⟩) hH.2.2.2 hdg hlk
theorem hw_zret {mc ms : Nat} {v : Int32} (C0 : Cx E B p s m args meth c cc own nL (some .boolean)) (hH : Hw E B s.heap σ H locs) (hv : v = 0 ∨ v = 1) (h1 : cells ≤ mc) (h2 : slots ≤ ms) (hdg : decode cc pc = .ok (.ireturn, 1)) :
    W p l e R s m args below meth c H locs cells slots (MQ below (Qk E B σ (some (.int v))) args s mc ms (fun q => B ≤ q)) (F0 m pc ls [.int v]) := by
  obtain ⟨⟨hx, hb, hml, hown, hts⟩, ⟨hr, hlk⟩, hBs, hEk⟩ := C0
  refine W.widen (k := mc) (n := ms) h1 h2 ?_
  exact W.zret hx hb hr (nar_bb hv).1 (fun t ht hW => ⟨rfl, hw_end hH hBs ht⟩) hH.2.2.2 hdg hlk
theorem hw_aret {mc ms : Nat} {v : Value} {rt : FieldType} (hrt : (∃ n, rt = .object n) ∨ ∃ t, rt = .array t) (hv : v = .null ∨ ∃ a, v = .ref a) (C0 : Cx E B p s m args meth c cc own nL (some rt)) (hH : Hw E B s.heap σ H locs) (h1 : cells ≤ mc) (h2 : slots ≤ ms) (hdg : decode cc pc = .ok (.areturn, 1)) :
    W p l e R s m args below meth c H locs cells slots (MQ below (Qk E B σ (some v)) args s mc ms (fun q => B ≤ q)) (F0 m pc ls [v]) := by
  obtain ⟨⟨hx, hb, hml, hown, hts⟩, ⟨hr, hlk⟩, hBs, hEk⟩ := C0
  refine W.widen (k := mc) (n := ms) h1 h2 ?_
  exact W.aret hx hb hr hrt hv (fun t ht hW => ⟨rfl, hw_end hH hBs ht⟩) hH.2.2.2 hdg hlk
/-! references that may be null -/
theorem hw_aload_n {k : Fin 4} {i : Nat} {r : Option Nat} (hexec : p.tables.exec = Jvm.exec) (hb : c.code = cc) (hdg : decode cc pc = .ok (.aload_n k, 1)) (hi : (k : Nat) = i) (hl : ls[i]? = some (.val (va_rf r)))
    (kk : W p l e R s m args below meth c H locs cells slots Q (F0 m (pc + 1) ls (va_rf r :: rest))) : W p l e R s m args below meth c H locs cells slots Q (F0 m pc ls rest) := by
  cases r with
  | none => exact lv_aload_nN hexec hb hdg hi hl kk
  | some a => exact lv_aload_n hexec hb hdg hi hl kk
theorem hw_aload {i : Nat} {r : Option Nat} (hexec : p.tables.exec = Jvm.exec) (hb : c.code = cc) (hdg : decode cc pc = .ok (.aload i, 2)) (hl : ls[i]? = some (.val (va_rf r)))
    (kk : W p l e R s m args below meth c H locs cells slots Q (F0 m (pc + 2) ls (va_rf r :: rest))) : W p l e R s m args below meth c H locs cells slots Q (F0 m pc ls rest) := by
  cases r with
  | none => exact lv_aloadN hexec hb hdg hl kk
  | some a => exact lv_aload hexec hb hdg hl kk
theorem hw_ifnull {r : Option Nat} {off : Int} {tgt : Nat} (hexec : p.tables.exec = Jvm.exec) (hb : c.code = cc) (hdg : decode cc pc = .ok (.ifnull off, 3)) (ht : (pc : Int) + off = (tgt : Int))
    (kt : r = none → W p l e R s m args below meth c H locs cells slots Q (F0 m tgt ls rest)) (kf : ¬ r = none → W p l e R s m args below meth c H locs cells slots Q (F0 m (pc + 3) ls rest)) : W p l e R s m args below meth c H locs cells slots Q (F0 m pc ls (va_rf r :: rest)) := by
  cases r with
  | none => exact lv_ifnullN hexec hb hdg ht (kt rfl)
  | some a => exact lv_ifnull hexec hb hdg (kf (by simp))
theorem hw_ifnonnull {r : Option Nat} {off : Int} {tgt : Nat} (hexec : p.tables.exec = Jvm.exec) (hb : c.code = cc) (hdg : decode cc pc = .ok (.ifnonnull off, 3)) (ht : (pc : Int) + off = (tgt : Int))
    (kt : ¬ r = none → W p l e R s m args below meth c H locs cells slots Q (F0 m tgt ls rest)) (kf : r = none → W p l e R s m args below meth c H locs cells slots Q (F0 m (pc + 3) ls rest)) : W p l e R s m args below meth c H locs cells slots Q (F0 m pc ls (va_rf r :: rest)) := by
  cases r with
  | none => exact lv_ifnonnullN hexec hb hdg (kf rfl)
  | some a => exact lv_ifnonnull hexec hb hdg ht (kt (by simp))
/-! longs compared -/
theorem hw_lge {x y : Int64} {off : Int} {tgt : Nat} (hexec : p.tables.exec = Jvm.exec) (hb : c.code = cc) (hd0 : decode cc pc = .ok (.lcmp, 1)) (hdg : decode cc (pc + 1) = .ok (.ifCond .ge off, 3)) (ht : ((pc + 1 : Nat) : Int) + off = (tgt : Int))
    (kt : y ≤ x → W p l e R s m args below meth c H locs cells slots Q (F0 m tgt ls rest)) (kf : ¬ y ≤ x → W p l e R s m args below meth c H locs cells slots Q (F0 m (pc + 4) ls rest)) : W p l e R s m args below meth c H locs cells slots Q (F0 m pc ls (.long y :: .long x :: rest)) :=
  W.lcmp hexec hb hd0 (lv_if_ge hexec hb hdg ht (fun h => kt ((lg_cmp_ge x y).mp h)) (fun h => kf (fun q => h ((lg_cmp_ge x y).mpr q))))
theorem hw_lle {x y : Int64} {off : Int} {tgt : Nat} (hexec : p.tables.exec = Jvm.exec) (hb : c.code = cc) (hd0 : decode cc pc = .ok (.lcmp, 1)) (hdg : decode cc (pc + 1) = .ok (.ifCond .le off, 3)) (ht : ((pc + 1 : Nat) : Int) + off = (tgt : Int))
    (kt : x ≤ y → W p l e R s m args below meth c H locs cells slots Q (F0 m tgt ls rest)) (kf : ¬ x ≤ y → W p l e R s m args below meth c H locs cells slots Q (F0 m (pc + 4) ls rest)) : W p l e R s m args below meth c H locs cells slots Q (F0 m pc ls (.long y :: .long x :: rest)) :=
  W.lcmp hexec hb hd0 (lv_if_le hexec hb hdg ht (fun h => kt ((lg_cmp_le x y).mp h)) (fun h => kf (fun q => h ((lg_cmp_le x y).mpr q))))
theorem hw_lgt {x y : Int64} {off : Int} {tgt : Nat} (hexec : p.tables.exec = Jvm.exec) (hb : c.code = cc) (hd0 : decode cc pc = .ok (.lcmp, 1)) (hdg : decode cc (pc + 1) = .ok (.ifCond .gt off, 3)) (ht : ((pc + 1 : Nat) : Int) + off = (tgt : Int))
    (kt : y < x → W p l e R s m args below meth c H locs cells slots Q (F0 m tgt ls rest)) (kf : ¬ y < x → W p l e R s m args below meth c H locs cells slots Q (F0 m (pc + 4) ls rest)) : W p l e R s m args below meth c H locs cells slots Q (F0 m pc ls (.long y :: .long x :: rest)) :=
  W.lcmp hexec hb hd0 (lv_if_gt hexec hb hdg ht (fun h => kt ((lg_cmp_gt x y).mp h)) (fun h => kf (fun q => h ((lg_cmp_gt x y).mpr q))))
theorem hw_llt {x y : Int64} {off : Int} {tgt : Nat} (hexec : p.tables.exec = Jvm.exec) (hb : c.code = cc) (hd0 : decode cc pc = .ok (.lcmp, 1)) (hdg : decode cc (pc + 1) = .ok (.ifCond .lt off, 3)) (ht : ((pc + 1 : Nat) : Int) + off = (tgt : Int))
    (kt : x < y → W p l e R s m args below meth c H locs cells slots Q (F0 m tgt ls rest)) (kf : ¬ x < y → W p l e R s m args below meth c H locs cells slots Q (F0 m (pc + 4) ls rest)) : W p l e R s m args below meth c H locs cells slots Q (F0 m pc ls (.long y :: .long x :: rest)) :=
  W.lcmp hexec hb hd0 (lv_if_lt hexec hb hdg ht (fun h => kt ((lg_cmp_lt x y).mp h)) (fun h => kf (fun q => h ((lg_cmp_lt x y).mpr q))))
theorem hw_leq {x y : Int64} {off : Int} {tgt : Nat} (hexec : p.tables.exec = Jvm.exec) (hb : c.code = cc) (hd0 : decode cc pc = .ok (.lcmp, 1)) (hdg : decode cc (pc + 1) = .ok (.ifCond .eq off, 3)) (ht : ((pc + 1 : Nat) : Int) + off = (tgt : Int))
    (kt : x = y → W p l e R s m args below meth c H locs cells slots Q (F0 m tgt ls rest)) (kf : ¬ x = y → W p l e R s m args below meth c H locs cells slots Q (F0 m (pc + 4) ls rest)) : W p l e R s m args below meth c H locs cells slots Q (F0 m pc ls (.long y :: .long x :: rest)) :=
  W.lcmp hexec hb hd0 (lv_if_eq hexec hb hdg ht (fun h => kt ((lg_cmp_eq x y).mp h)) (fun h => kf (fun q => h ((lg_cmp_eq x y).mpr q))))
theorem hw_lne {x y : Int64} {off : Int} {tgt : Nat} (hexec : p.tables.exec = Jvm.exec) (hb : c.code = cc) (hd0 : decode cc pc = .ok (.lcmp, 1)) (hdg : decode cc (pc + 1) = .ok (.ifCond .ne off, 3)) (ht : ((pc + 1 : Nat) : Int) + off = (tgt : Int))
    (kt : ¬ x = y → W p l e R s m args below meth c H locs cells slots Q (F0 m tgt ls rest)) (kf : x = y → W p l e R s m args below meth c H locs cells slots Q (F0 m (pc + 4) ls rest)) : W p l e R s m args below meth c H locs cells slots Q (F0 m pc ls (.long y :: .long x :: rest)) :=
  W.lcmp hexec hb hd0 (lv_if_ne hexec hb hdg ht (fun h => kt (fun q => h ((lg_cmp_eq x y).mpr q))) (fun h => kf ((lg_cmp_eq x y).mp h)))
end HW2
/-! ===== words for the walks ===== -/
theorem if_t {α : Sort _} {c : Prop} [Decidable c] {A B r : α} (h : (if c then A else B) = r) (hc : c) : A = r := by rwa [if_pos hc] at h
theorem if_f {α : Sort _} {c : Prop} [Decidable c] {A B r : α} (h : (if c then A else B) = r) (hc : ¬ c) : B = r := by rwa [if_neg hc] at h
theorem if_n {α : Type _} {c : Prop} [Decidable c] {A : Option α} {r : α} (h : (if c then none else A) = some r) : ¬ c ∧ A = some r := by
  by_cases hc : c
  · rw [if_pos hc] at h; cases h
  · rw [if_neg hc] at h; exact ⟨hc, h⟩
theorem ob {α β : Type _} {x : Option α} {f : α → Option β} {r : β} (h : x.bind f = some r) : ∃ a, x = some a ∧ f a = some r := Option.bind_eq_some_iff.mp h
/-- a loop: at most n times round -/
def lp {S R : Type} (F : (S → Option R) → S → Option R) : Nat → S → Option R
  | 0 => fun _ => none
  | n + 1 => F (lp F n)
def fu : Nat := 1000000
