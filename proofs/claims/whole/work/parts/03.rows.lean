/-! ===== what a method takes from its start: tables, classes, words carried by hand ===== -/
/-- how long the old arrays are: the bytes of the four texts, the cache of Integers -/
def oLen (t : Nat) : Nat := if t = 500 then 0 else if t = 610 then 13 else if t = 611 then 107 else if t = 612 then 15 else if t = 613 then 45 else 256
/-- the JDK's things below B: 500 the empty array that a new list has, 600.. the four texts, 610.. their bytes, 640 the cache of Integers, 700.. Integers from 0 on -/
def Od (E : Ev) (B : Nat) (U : State) (H : Heap) : Prop :=
  (∀ (a : Nat) (F : Nat → Value), E.2.2.2.1 a = .inr (500, F) → va_T (.object "java/lang/Object") a 0 F (fun q => B ≤ q) U H) ∧
  (∀ (a i : Nat) (F : Nat → Value), i < 4 → E.2.2.2.1 a = .inr (600 + i, F) → va_O "java/lang/String" a (fun q => B ≤ q) U H ∧ va_OF "java/lang/String" "value" "[B" (F 0) a (fun q => B ≤ q) U H ∧ va_OF "java/lang/String" "coder" "B" (F 1) a (fun q => B ≤ q) U H) ∧
  (∀ (a i : Nat) (F : Nat → Value), i < 4 → E.2.2.2.1 a = .inr (610 + i, F) → va_T .byte a (oLen (610 + i)) F (fun q => B ≤ q) U H) ∧
  (∀ (a : Nat) (F : Nat → Value), E.2.2.2.1 a = .inr (640, F) → va_T (.object "java/lang/Integer") a 256 F (fun q => B ≤ q) U H) ∧
  (∀ (a i : Nat) (F : Nat → Value), i < 128 → E.2.2.2.1 a = .inr (700 + i, F) → va_O "java/lang/Integer" a (fun q => B ≤ q) U H ∧ va_OF "java/lang/Integer" "value" "I" (F 0) a (fun q => B ≤ q) U H) ∧
  va_Z "java/util/ArrayList" "DEFAULTCAPACITY_EMPTY_ELEMENTDATA" "[Ljava/lang/Object;" (.ref (E.2.2.2.2 0)) (fun q => B ≤ q) U H ∧
  va_Z "java/lang/Integer$IntegerCache" "high" "I" (.int 127) (fun q => B ≤ q) U H ∧
  va_Z "java/lang/Integer$IntegerCache" "cache" "[Ljava/lang/Integer;" (.ref (E.2.2.2.2 1)) (fun q => B ≤ q) U H ∧
  va_Z "java/lang/String" "COMPACT_STRINGS" "Z" (.int 1) (fun q => B ≤ q) U H ∧
  va_Zq "jdk/internal/util/Preconditions" "SIOOBE_FORMATTER" "Ljava/util/function/BiFunction;" (fun q => B ≤ q) U H ∧
  (va_Mi "[Ljava/lang/Object;" (E.2.2.2.2 2) U ∧ va_Dc U)
def Ods (E : Ev) (U : State) : Prop := vk_R "LeapNet" 291 ":;<>=+-*/%()," (E.2.2.2.2 10) U ∧ vk_R "LeapNet" 293 "if then else and or not least most server stratum ahead kind alike against way clock day month year believe" (E.2.2.2.2 11) U ∧ vk_R "LeapNet" 408 ":;<>=+-*/%(),{}" (E.2.2.2.2 12) U ∧ vk_R "LeapNet" 410 "wait until stamp parse again refuse fold take" (E.2.2.2.2 13) U
theorem Od.moved {E : Ev} {B : Nat} {u U : State} {H H1 : Heap} (h : Od E B u H) (hvm : u.vm.Alike U.vm) (hq : ∀ q : Nat, q < B → H1[q]? = H[q]?) : Od E B U H1 := by
  obtain ⟨h1, h2, h3, h4, h5, h6, h7, h8, h9, h10, h11, h12⟩ := h
  have hk : ∀ a : Nat, a < H.size → ¬ (B ≤ a) → H1[a]? = H[a]? := fun a _ hb => hq a (by omega)
  refine ⟨fun a F hF => ?_, fun a i F hi hF => ?_, fun a i F hi hF => ?_, fun a F hF => ?_, fun a i F hi hF => ?_, (va_Z.moved hvm h6).kept hk, (va_Z.moved hvm h7).kept hk, (va_Z.moved hvm h8).kept hk, (va_Z.moved hvm h9).kept hk, (va_Zq.moved hvm h10).kept hk, va_Mi.moved hvm h11, va_Dc.moved hvm h12⟩
  · exact (va_T.moved hvm (h1 a F hF)).kept hk
  · obtain ⟨g1, g2, g3⟩ := h2 a i F hi hF
    exact ⟨(va_O.moved hvm g1).kept hk, (va_OF.moved hvm g2).kept hk, (va_OF.moved hvm g3).kept hk⟩
  · exact (va_T.moved hvm (h3 a i F hi hF)).kept hk
  · exact (va_T.moved hvm (h4 a F hF)).kept hk
  · obtain ⟨g1, g2⟩ := h5 a i F hi hF
    exact ⟨(va_O.moved hvm g1).kept hk, (va_OF.moved hvm g2).kept hk⟩
theorem Ods.warm {E : Ev} {s U : State} (hW : s.WarmedH U.vm) (h : Ods E s) : Ods E U := ⟨h.1.warm hW, h.2.1.warm hW, h.2.2.1.warm hW, h.2.2.2.warm hW⟩
theorem Ods.same {E : Ev} {s U : State} (hv : U.vm = s.vm) (h : Ods E s) : Ods E U := ⟨h.1.same hv, h.2.1.same hv, h.2.2.1.same hv, h.2.2.2.same hv⟩
def Ek (E : Ev) (B : Nat) (U : State) : Prop := va_K (E.1, E.2.1) vwCl (tysE E) U ∧ (∀ w ∈ lw_nw, va_Nw w U) ∧ (va_AO "LeapNet$Tray" U ∧ va_AO "LeapNet$Land" U ∧ va_AO "java/lang/Object" U ∧ Od E B U U.heap ∧ Ods E U)
theorem Ek.warm {E : Ev} {B : Nat} {s U : State} (h : Ek E B s) (hW : s.WarmedH U.vm) (hq : ∀ q : Nat, q < B → U.heap[q]? = s.heap[q]?) : Ek E B U :=
  ⟨va_K.moved hW.alike h.1, nw_warm hW h.2.1, va_AO.moved hW.alike h.2.2.1, va_AO.moved hW.alike h.2.2.2.1, va_AO.moved hW.alike h.2.2.2.2.1, h.2.2.2.2.2.1.moved hW.alike hq, h.2.2.2.2.2.2.warm hW⟩
theorem Ek.same {E : Ev} {B : Nat} {s U : State} (h : Ek E B s) (hv : s.vm = U.vm) (hh : U.heap = s.heap) : Ek E B U :=
  have ha : s.vm.Alike U.vm := by rw [hv]; exact Vm.Alike.refl U.vm
  ⟨va_K.moved ha h.1, nw_same hv h.2.1, va_AO.moved ha h.2.2.1, va_AO.moved ha h.2.2.2.1, va_AO.moved ha h.2.2.2.2.1, h.2.2.2.2.2.1.moved ha (fun q _ => by rw [hh]), h.2.2.2.2.2.2.same hv.symm⟩
def Cx (E : Ev) (B : Nat) (p : Program) (s : State) (m : MethodId) (args : Array Value) (meth : Method) (c : Code) (cc : ByteArray) (own : String) (nL : Nat) (ret : Option FieldType) : Prop :=
  CallFix p m c cc nL s args lw_good own ∧ (meth.sig.returnType = ret ∧ meth.locks = false) ∧ B ≤ s.heap.size ∧ Ek E B s
/-! ===== reading and writing ===== -/
def ix (i : Int32) (n : Nat) : Bool := !(decide (i < 0)) && decide (i.toNatClampNeg < n)
theorem ix_in {i : Int32} {n : Nat} (h : ix i n = true) : vp_in i n := by
  simp only [ix, Bool.and_eq_true, Bool.not_eq_true', decide_eq_false_iff_not, decide_eq_true_eq] at h
  rintro (q | q)
  · exact h.1 q
  · omega
def gV (σ : Hs) (a ci k : Nat) : Option Value := match σ.2.1 a with
  | .inr o => if o.1 = ci then some (o.2 k) else none
  | .inl _ => none
def vI (v : Value) : Option Int32 := match v with | .int x => some x | _ => none
def vL (v : Value) : Option Int64 := match v with | .long x => some x | _ => none
def vR (v : Value) : Option (Option Nat) := match v with | .null => some none | .ref a => some (some a) | _ => none
def vN (v : Value) : Option Nat := match v with | .ref a => some a | _ => none
def gI (σ : Hs) (a ci k : Nat) : Option Int32 := (gV σ a ci k).bind vI
def gL (σ : Hs) (a ci k : Nat) : Option Int64 := (gV σ a ci k).bind vL
def gR (σ : Hs) (a ci k : Nat) : Option (Option Nat) := (gV σ a ci k).bind vR
def gN (σ : Hs) (a ci k : Nat) : Option Nat := (gV σ a ci k).bind vN
def pV (σ : Hs) (a ci k : Nat) (v : Value) : Option Hs := match σ.2.1 a with
  | .inr o => if o.1 = ci then some (σ.1, va_up σ.2.1 a (.inr (ci, va_up o.2 k v)), σ.2.2) else none
  | .inl _ => none
def pZ (σ : Hs) (a ci k : Nat) (x : Int32) : Option Hs := if x = 0 ∨ x = 1 then pV σ a ci k (.int x) else none
def aN (σ : Hs) (a : Nat) : Option Int32 := match σ.2.1 a with
  | .inl x => if x.1 < 8 then some (Int32.ofNat x.2.1) else none
  | .inr o => if o.1 = 500 ∨ (610 ≤ o.1 ∧ o.1 < 614) ∨ o.1 = 640 then some (Int32.ofNat (oLen o.1)) else none
def ldI (t : Nat) (σ : Hs) (a : Nat) (i : Int32) : Option Int32 := match σ.2.1 a with
  | .inl (t', n, .inl f) => if t' = t ∧ ix i n = true then some (f i.toNatClampNeg) else none
  | _ => none
def ldL (σ : Hs) (a : Nat) (i : Int32) : Option Int64 := match σ.2.1 a with
  | .inl (t', n, .inr (.inl f)) => if t' = 1 ∧ ix i n = true then some (f i.toNatClampNeg) else none
  | _ => none
def ldR (t : Nat) (σ : Hs) (a : Nat) (i : Int32) : Option (Option Nat) := match σ.2.1 a with
  | .inl (t', n, .inr (.inr (.inr (.inr f)))) => if t' = t ∧ ix i n = true then some (f i.toNatClampNeg) else none
  | _ => none
def stI (t : Nat) (σ : Hs) (a : Nat) (i x : Int32) : Option Hs := match σ.2.1 a with
  | .inl (t', n, .inl f) => if t' = t ∧ ix i n = true then some (σ.1, va_up σ.2.1 a (.inl (t, n, .inl (upd f i.toNatClampNeg x))), σ.2.2) else none
  | _ => none
def stL (σ : Hs) (a : Nat) (i : Int32) (x : Int64) : Option Hs := match σ.2.1 a with
  | .inl (t', n, .inr (.inl f)) => if t' = 1 ∧ ix i n = true then some (σ.1, va_up σ.2.1 a (.inl (1, n, .inr (.inl (vp_updL f i.toNatClampNeg x)))), σ.2.2) else none
  | _ => none
theorem gV_spec {σ : Hs} {a ci k : Nat} {v : Value} (h : gV σ a ci k = some v) : ∃ F, σ.2.1 a = .inr (ci, F) ∧ F k = v := by
  unfold gV at h
  split at h
  · rename_i o ho
    split at h
    · rename_i e
      obtain ⟨o1, o2⟩ := o
      simp only at e
      subst e
      exact ⟨o2, ho, Option.some.inj h⟩
    · cases h
  · cases h
theorem gI_spec {σ : Hs} {a ci k : Nat} {x : Int32} (h : gI σ a ci k = some x) : gV σ a ci k = some (.int x) := by
  obtain ⟨v, h1, h2⟩ := Option.bind_eq_some_iff.mp h
  rw [h1]; cases v <;> simp [vI] at h2; rw [h2]
theorem gL_spec {σ : Hs} {a ci k : Nat} {x : Int64} (h : gL σ a ci k = some x) : gV σ a ci k = some (.long x) := by
  obtain ⟨v, h1, h2⟩ := Option.bind_eq_some_iff.mp h
  rw [h1]; cases v <;> simp [vL] at h2; rw [h2]
theorem gN_spec {σ : Hs} {a ci k : Nat} {x : Nat} (h : gN σ a ci k = some x) : gV σ a ci k = some (.ref x) := by
  obtain ⟨v, h1, h2⟩ := Option.bind_eq_some_iff.mp h
  rw [h1]; cases v <;> simp [vN] at h2; rw [h2]
theorem gR_spec {σ : Hs} {a ci k : Nat} {x : Option Nat} (h : gR σ a ci k = some x) : gV σ a ci k = some (va_rf x) := by
  obtain ⟨v, h1, h2⟩ := Option.bind_eq_some_iff.mp h
  rw [h1]; cases v <;> simp [vR] at h2 <;> subst h2 <;> rfl
theorem pV_spec {σ σ' : Hs} {a ci k : Nat} {v : Value} (h : pV σ a ci k v = some σ') : ∃ F, σ.2.1 a = .inr (ci, F) ∧ σ' = (σ.1, va_up σ.2.1 a (.inr (ci, va_up F k v)), σ.2.2) := by
  unfold pV at h
  split at h
  · rename_i o ho
    split at h
    · rename_i e
      obtain ⟨o1, o2⟩ := o
      simp only at e
      subst e
      exact ⟨o2, ho, (Option.some.inj h).symm⟩
    · cases h
  · cases h
theorem ldI_spec {t : Nat} {σ : Hs} {a : Nat} {i x : Int32} (h : ldI t σ a i = some x) : ∃ n f, σ.2.1 a = .inl (t, n, .inl f) ∧ ix i n = true ∧ x = f i.toNatClampNeg := by
  unfold ldI at h
  split at h
  · rename_i t' n f ho
    split at h
    · rename_i e
      obtain ⟨e1, e2⟩ := e
      subst e1
      exact ⟨n, f, ho, e2, (Option.some.inj h).symm⟩
    · cases h
  · cases h
theorem stI_spec {t : Nat} {σ σ' : Hs} {a : Nat} {i x : Int32} (h : stI t σ a i x = some σ') : ∃ n f, σ.2.1 a = .inl (t, n, .inl f) ∧ ix i n = true ∧ σ' = (σ.1, va_up σ.2.1 a (.inl (t, n, .inl (upd f i.toNatClampNeg x))), σ.2.2) := by
  unfold stI at h
  split at h
  · rename_i t' n f ho
    split at h
    · rename_i e
      obtain ⟨e1, e2⟩ := e
      subst e1
      exact ⟨n, f, ho, e2, (Option.some.inj h).symm⟩
    · cases h
  · cases h
/-! ===== rows over the heap ===== -/
theorem in_vw {ci : Nat} {C : String} {T : u_T} {N : Nat} (hc : vwCl[ci]? = some (C, T, N)) : nF ci = N ∧ ci < 500 := by
  have h1 : ci < vwCl.length := (List.getElem?_eq_some_iff.mp hc).1
  refine ⟨?_, Nat.lt_trans h1 (by decide)⟩
  unfold nF
  rw [List.getD_eq_getElem?_getD, List.getElem?_map, hc]
  rfl
theorem ne_no {ci : Nat} {F : Nat → Value} (h : ci < 500) : ¬ isOld (Sum.inr (ci, F) : Ce) := by
  intro q
  have : 500 ≤ ci := q
  omega
theorem ne_na {x : Nat × vp_A} : ¬ isOld (Sum.inl x : Ce) := fun q => q
/-- own's entry 'index' is the field k of class ci -/
def Fl (own : String) (index ci k : Nat) : Prop := ∃ (C : String) (T : u_T) (N : Nat) (ref : String), vwCl[ci]? = some (C, T, N) ∧ k < N ∧ (∀ w ∈ u_ws C T N, w ∈ lw_good) ∧ (Cond.fieldLink own index ref (T k).2.1 (T k).2.2.1 ∈ lw_good ∨ ∃ host, Cond.fieldLinkNest own index ref (T k).2.1 (T k).2.2.1 host ∈ lw_nw) ∧ (ref = (T k).1 ∨ Cond.sameField ref (T k).1 (T k).2.1 (T k).2.2.1 ∈ lw_good)
section HW
variable {p : Program} {l : Launch} {e : Env} {R : Room} {s : State} {m : MethodId} {args : Array Value} {below : List Frame} {meth : Method} {c : Code} {H : Heap} {locs : List Loc} {cells slots : Nat} {Q : State → Prop}
variable {E : Ev} {B : Nat} {σ : Hs} {cc : ByteArray} {own : String} {nL pc : Nat} {ret : Option FieldType} {ls : Array Slot} {rest : List Value}
theorem hw_get {index ci k a : Nat} {v : Value} (C0 : Cx E B p s m args meth c cc own nL ret) (hH : Hw E B s.heap σ H locs) (hg : gV σ a ci k = some v) (hF : Fl own index ci k) (hdg : decode cc pc = .ok (.getfield index, 3))
    (kk : W p l e R s m args below meth c H locs cells slots Q (F0 m (pc + 3) ls (v :: rest))) : W p l e R s m args below meth c H locs cells slots Q (F0 m pc ls (.ref a :: rest)) := by
  obtain ⟨⟨hx, hb, hml, hown, hts⟩, -, hBs, hEk⟩ := C0
  obtain ⟨F, hF1, hF2⟩ := gV_spec hg
  obtain ⟨C, T, N, ref, hc, hk, hin, hl, hsm⟩ := hF
  obtain ⟨hN, h9⟩ := in_vw hc
  obtain ⟨hr, he⟩ := hH.1.at hF1 (ne_no h9)
  have hsame : ∀ x, s.fieldFound? (T k).1 (T k).2.1 (T k).2.2.1 = some x → s.fieldFound? ref (T k).2.1 (T k).2.2.1 = some x := by
    rcases hsm with q | q
    · rw [q]; exact fun _ h => h
    · exact u_same (hts _ q)
  have hv : ((List.range (nF ci)).map F)[k]? = some v := by rw [hN, List.getElem?_map, List.getElem?_range hk, Option.map_some, hF2]
  rcases hl with q | ⟨host, q⟩
  · exact va_get (D := (E.1, E.2.1)) hx hb hts hin hown hEk.1 hH.1.2 (a - B) he hc k hk (hts _ q) hsame hv hdg kk
  · exact va_getN (D := (E.1, E.2.1)) hx hb hts hin hown hEk.1 hH.1.2 (a - B) he hc k hk (va_Nw.use rfl (hEk.2.1 _ q)) hsame hv hdg kk
theorem Hw.st {a k : Nat} {c0 c1 : Ce} {H0 H1 : Heap} (hH : Hw E B H0 σ H locs) (hc : σ.2.1 a = c0) (hn : ¬ isOld c0) (z : H1.size = H.size) (oq : ∀ q : Nat, q ≠ a → H1[q]? = H[q]?) (hat : va_at (E.1, E.2.1) vwCl (a, cn E c1) H1) : Hw E B H0 (σ.1, va_up σ.2.1 a c1, σ.2.2) H1 (locs ++ [⟨a, k⟩]) := by
  obtain ⟨hr, he⟩ := hH.1.at hc hn
  exact ⟨hH.1.up hr z (hH.1.2.set wl_D he hat oq), hH.2.put z oq hr.1⟩
theorem hw_iald {a : Nat} {i x : Int32} (C0 : Cx E B p s m args meth c cc own nL ret) (hH : Hw E B s.heap σ H locs) (hg : ldI 0 σ a i = some x) (hdg : decode cc pc = .ok (.iaload, 1))
    (kk : W p l e R s m args below meth c H locs cells slots Q (F0 m (pc + 1) ls (.int x :: rest))) : W p l e R s m args below meth c H locs cells slots Q (F0 m pc ls (.int i :: .ref a :: rest)) := by
  obtain ⟨⟨hx, hb, hml, hown, hts⟩, -, hBs, hEk⟩ := C0
  obtain ⟨n, f, h1, h2, rfl⟩ := ldI_spec hg
  obtain ⟨hr, he⟩ := hH.1.at h1 ne_na
  exact va_iald (D := (E.1, E.2.1)) hx hb hEk.1 hH.1.2 (a - B) 0 he rfl (ix_in h2) hdg kk
theorem hw_iast {a : Nat} {i x : Int32} {σ' : Hs} (C0 : Cx E B p s m args meth c cc own nL ret) (hH : Hw E B s.heap σ H locs) (hg : stI 0 σ a i x = some σ') (hdg : decode cc pc = .ok (.iastore, 1))
    (kk : ∀ (H : Heap) (locs : List Loc), Hw E B s.heap σ' H locs → W p l e R s m args below meth c H locs cells slots Q (F0 m (pc + 1) ls rest)) : W p l e R s m args below meth c H locs cells slots Q (F0 m pc ls (.int x :: .int i :: .ref a :: rest)) := by
  obtain ⟨⟨hx, hb, hml, hown, hts⟩, -, hBs, hEk⟩ := C0
  obtain ⟨n, f, h1, h2, rfl⟩ := stI_spec hg
  obtain ⟨hr, he⟩ := hH.1.at h1 ne_na
  refine W.iast hx hb (hH.1.2 _ _ he) ((hEk.1.2 0 _ rfl).1 n (fun j => .int (f j))) (fun q => by cases q) (by show ¬ (i < 0 ∨ (arrV _ _ _).slots.size ≤ _); rw [arrV_size]; exact ix_in h2) rfl rfl hdg fun H1 e z oq => ?_
  refine kk H1 _ (hH.st h1 ne_na z oq ?_)
  show H1[a]? = some (vp_cell _ _)
  rw [e, vp_cell_i, vp_cell_i, arrV_store]
  congr 2
  funext q
  by_cases hq : q = i.toNatClampNeg
  · subst hq; simp [updV, upd]
  · simp [updV, upd, hq]
/-! ===== contracts ===== -/
def Qk (E : Ev) (B : Nat) (σ : Hs) (r : Option Value) : Array Value → State → Outcome → State → Prop := fun _ st o t => o = .returned r ∧ Hd E B σ t.heap ∧ st.heap.size ≤ t.heap.size ∧ ∀ q : Nat, q < B → t.heap[q]? = st.heap[q]?
def Pk (E : Ev) (B : Nat) (σ : Hs) (as : List Value) : Array Value → State → Prop := va_Pc as (fun U => Ek E B U ∧ Hd E B σ U.heap)
abbrev rmk (fr lo mc ms : Nat) : Room := { frames := fr, cells := mc, slots := ms, locals := lo }
def Cm (l : Launch) (E : Ev) (B : Nat) (y : MethodName) (cc : ByteArray) (maxL : Nat) (ret : Option FieldType) (fr lo mc ms : Nat) (as : List Value) (σ σ' : Hs) (r : Option Value) : Prop :=
  Met l y (.code y cc maxL ret :: lw_good) (rmk fr lo mc ms) (Pk E B σ as) (Qk E B σ' r) mc ms (fun q => B ≤ q)
theorem hw_ret {mc ms : Nat} {v : Int32} (C0 : Cx E B p s m args meth c cc own nL (some .int)) (hH : Hw E B s.heap σ H locs) (h1 : cells ≤ mc) (h2 : slots ≤ ms) (hdg : decode cc pc = .ok (.ireturn, 1)) :
    W p l e R s m args below meth c H locs cells slots (MQ below (Qk E B σ (some (.int v))) args s mc ms (fun q => B ≤ q)) (F0 m pc ls [.int v]) := by
  obtain ⟨⟨hx, hb, hml, hown, hts⟩, ⟨hr, hlk⟩, hBs, hEk⟩ := C0
  refine W.widen (k := mc) (n := ms) h1 h2 ?_
  exact W.iret hx hb hr (fun t ht hW => ⟨rfl, by rw [ht]; exact hH.1, by rw [ht]; exact hH.2.1, fun q hq => by rw [ht]; exact hH.2.2.1 q (Nat.lt_of_lt_of_le hq hBs) (by omega)⟩) hH.2.2.2 hdg hlk
theorem hw_lret {mc ms : Nat} {v : Int64} (C0 : Cx E B p s m args meth c cc own nL (some .long)) (hH : Hw E B s.heap σ H locs) (h1 : cells ≤ mc) (h2 : slots ≤ ms) (hdg : decode cc pc = .ok (.lreturn, 1)) :
    W p l e R s m args below meth c H locs cells slots (MQ below (Qk E B σ (some (.long v))) args s mc ms (fun q => B ≤ q)) (F0 m pc ls [.long v]) := by
  obtain ⟨⟨hx, hb, hml, hown, hts⟩, ⟨hr, hlk⟩, hBs, hEk⟩ := C0
  refine W.widen (k := mc) (n := ms) h1 h2 ?_
  exact W.lret hx hb hr (fun t ht hW => ⟨rfl, by rw [ht]; exact hH.1, by rw [ht]; exact hH.2.1, fun q hq => by rw [ht]; exact hH.2.2.1 q (Nat.lt_of_lt_of_le hq hBs) (by omega)⟩) hH.2.2.2 hdg hlk
end HW
theorem Pk.blind {E : Ev} {B : Nat} {σ : Hs} {as : List Value} : FrameBlind (Pk E B σ as) := fun a U g mk h => ⟨h.1, h.2.1.same (U := U.calling g mk a) rfl rfl, h.2.2⟩
theorem Met.ofF {l : Launch} {y : MethodName} {ws ws' : List Cond} {rm : Room} {Pc : Array Value → State → Prop} {Qc : Array Value → State → Outcome → State → Prop} {mc ms : Nat} {free : Addr → Prop} {cc : ByteArray} {maxL : Nat} {ret : Option FieldType}
    (hy : plainFor y = true) (hw : ws = Cond.code y cc maxL ret :: ws')
    (body : ∀ p e s m args below meth c s₁, BodyLoose p l y (headSpec ws rm) cc maxL ret e s m args below meth c s₁ → c.maxLocals = maxL → Pc args s →
      W p l e (headSpec ws rm).room s m args below meth c s.heap [] 0 0 (MQ below Qc args s mc ms free) (entryFrame m args maxL)) : Met l y ws rm Pc Qc mc ms free := by
  refine MetFree.of_bodySF (code := cc) (maxLocals := maxL) (ret := ret) hy ?_ ?_
  · intro args s m h hn
    obtain ⟨meth, c, h1, h2, h3, h4, h5, h6, -, -⟩ := Cond.code_spec hn (atoms_spec (ws := ws) h _ (by rw [hw]; exact List.mem_cons_self))
    exact ⟨meth, c, h1, h2, h3, h4, h5, h6⟩
  · intro p e s m args below meth c s₁ B hml hP _
    have hh0 : s₁.heap = s.heap := by rw [B.state]; rfl
    obtain ⟨t, a1, o, b1, b2, b3⟩ := body p e s m args below meth c s₁ B hml hP s₁ hh0 (Stand.of_body B)
    exact ⟨t, o, a1, b1, b2, ⟨b3.1, b3.2⟩⟩
/-- a method's contract out of its walk -/
theorem Cm.ofW {l : Launch} {E : Ev} {B : Nat} {y : MethodName} {cc : ByteArray} {maxL : Nat} {ret : Option FieldType} {fr lo mc ms : Nat} {as : List Value} {σ σ' : Hs} {r : Option Value} (hy : plainFor y = true)
    (body : ∀ p e s m below meth c ls, Cx E B p s m as.toArray meth c cc y.cls maxL ret → meth.name = y.name → Hw E B s.heap σ s.heap [] → ((lg_sl as).length ≤ maxL → lv_has ls maxL (lv_args 0 as)) →
      W p l e (rmk fr lo mc ms) s m as.toArray below meth c s.heap [] 0 0 (MQ below (Qk E B σ' r) as.toArray s mc ms (fun q => B ≤ q)) (F0 m 0 ls [])) : Cm l E B y cc maxL ret fr lo mc ms as σ σ' r := by
  refine Met.ofF (cc := cc) (maxL := maxL) (ret := ret) hy rfl ?_
  intro p e s m args below meth c s₁ Bd hml hv
  obtain ⟨rfl, hEk, hHd⟩ := hv
  have hts := atoms_spec (ws := .code y cc maxL ret :: lw_good) Bd.pre
  have hown : s.vm.findClass y.cls = some m.cls := findClass_of_methodNamed Bd.named
  have hnm : meth.name = y.name := (name_of_methodNamed Bd.named Bd.method).1
  rw [lg_entry_eq]
  refine body p e s m below meth c _ ⟨⟨Bd.exec, Bd.bytes, hml, hown, fun w hw => hts w (List.mem_cons_of_mem _ hw)⟩, ⟨Bd.returns, Bd.notSynchronized⟩, ?_, hEk⟩ hnm ⟨hHd, va_S.rf⟩ (fun h => lv_entry as h)
  rw [hHd.1.2.1]; exact hHd.1.1
