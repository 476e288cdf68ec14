/-! ===== calls ===== -/
def isC (σ : Hs) (a ci : Nat) : Option Unit := match σ.2.1 a with
  | .inr o => if o.1 = ci then some () else none
  | .inl _ => none
theorem isC_spec {σ : Hs} {a ci : Nat} {u : Unit} (h : isC σ a ci = some u) : ∃ F, σ.2.1 a = .inr (ci, F) := by
  unfold isC at h
  split at h
  · rename_i o ho
    split at h
    · rename_i e
      obtain ⟨o1, o2⟩ := o
      simp only at e
      subst e
      exact ⟨o2, ho⟩
    · cases h
  · cases h
/-- what the tables say of a method -/
def Yk (y : MethodName) (cc : ByteArray) (maxL : Nat) (ret : Option FieldType) (n : Nat) : Prop :=
  Cond.code y cc maxL ret ∈ lw_good ∧ Cond.initialized y.cls ∈ lw_good ∧ (y.cls ≠ "java/lang/invoke/MethodHandle" ∧ y.cls ≠ "java/lang/invoke/VarHandle") ∧ (parseMethodDescriptor y.desc).map (fun d => d.parameters.length) = some n
def Lk (own : String) (index : Nat) (y : MethodName) : Prop := Cond.methodLink own index y ∈ lw_good ∨ ∃ host, Cond.methodLinkNest own index y host ∈ lw_nw
theorem lw_good_in {y : MethodName} {cc : ByteArray} {maxL n : Nat} {ret : Option FieldType} (hY : Yk y cc maxL ret n) : GoodIn lw_good (.code y cc maxL ret :: lw_good) := by
  intro w hw
  rcases List.mem_cons.mp hw with rfl | h
  · exact ⟨hY.1, good_of_word (List.mem_filter.mp hY.1).2⟩
  · exact ⟨h, good_of_word (List.mem_filter.mp h).2⟩
section HC
variable {p : Program} {l : Launch} {e : Env} {R : Room} {s : State} {m : MethodId} {args : Array Value} {below : List Frame} {meth : Method} {c : Code} {H : Heap} {locs : List Loc} {cells slots : Nat} {Q : State → Prop}
variable {E : Ev} {B : Nat} {σ σ1 : Hs} {cc bytes : ByteArray} {own : String} {nL pc index maxL n fr lo mc ms : Nat} {ret ret1 : Option FieldType} {ls : Array Slot} {rest As : List Value} {y : MethodName} {r : Option Value}
theorem hw_run {a : Array Value} {st0 : List Value} (hr : va_Run p l e R s m args below meth c H locs cells slots mc ms (F0 m pc ls st0) rest (Qk E B σ1 r a) (fun q => B ≤ q)) (hH : Hw E B s.heap σ H locs) (hBs : B ≤ s.heap.size)
    (kk : ∀ (H : Heap) (locs : List Loc), Hw E B s.heap σ1 H locs → W p l e R s m args below meth c H locs (cells + mc) (slots + ms) Q (F0 m (pc + 3) ls (r.toList ++ rest))) : W p l e R s m args below meth c H locs cells slots Q (F0 m pc ls st0) := by
  intro T hT X
  obtain ⟨v, st₀, t, T', L, h0, X', hL, e1, e2, ⟨hv, hd, hz, hk⟩, st⟩ := hr T hT X
  cases hv
  rw [h0] at hz hk
  obtain ⟨t2, a1, b1⟩ := kk T'.heap (locs ++ L) ⟨by rw [e1]; exact hd, by rw [e1]; exact Nat.le_trans hH.2.1 hz, fun q h1 h2 => by
      rw [e1, hk q (by omega)]; exact hH.2.2.1 q h1 h2, fun q hq => by
      rcases List.mem_append.mp hq with h | h
      · exact hH.2.2.2 q h
      · exact hL q h⟩ T' rfl X'
  exact ⟨t2, st t2 a1, b1⟩
theorem hw_pre (C0 : Cx E B p s m args meth c cc own nL ret) (hH : Hw E B s.heap σ H locs) (as : List Value) : ∀ U : State, U.heap = H → s.WarmedH U.vm → Pk E B σ as as.toArray U := by
  intro U hU hW
  refine ⟨rfl, C0.2.2.2.warm hW (fun q hq => ?_), by rw [hU]; exact hH.1⟩
  rw [hU]
  exact hH.2.2.1 q (Nat.lt_of_lt_of_le hq C0.2.2.1) (by omega)
theorem hw_callS (C0 : Cx E B p s m args meth c cc own nL ret) (hH : Hw E B s.heap σ H locs) (hY : Yk y bytes maxL ret1 n) (hS : Cond.static y ∈ lw_good) (hL : Lk own index y) (hM : Cm l E B y bytes maxL ret1 fr lo mc ms As σ σ1 r)
    (hn : As.length = n) (hsz : ls.size = nL) (hW : (rest.map fun v => v.category).sum ≤ 8) (hdg : decode cc pc = .ok (.invokestatic index, 3)) (hR : fr + 1 ≤ R.frames ∧ 8 + (maxL + 11) + lo ≤ R.locals) (hf : cells + mc ≤ R.cells ∧ slots + ms ≤ R.slots)
    (kk : ∀ (H : Heap) (locs : List Loc), Hw E B s.heap σ1 H locs → W p l e R s m args below meth c H locs (cells + mc) (slots + ms) Q (F0 m (pc + 3) ls (r.toList ++ rest))) : W p l e R s m args below meth c H locs cells slots Q (F0 m pc ls (As.reverse ++ rest)) := by
  have ht := C0.1.2.2.2.2
  have hW0 : 2 * (F0 m pc ls (As.reverse ++ rest)).monitorRoom + (rest.map fun v => v.category).sum ≤ 8 := by
    have : (F0 m pc ls (As.reverse ++ rest)).monitorRoom = 0 := rfl
    rw [this]; simpa using hW
  rcases hL with hL | ⟨host, hL⟩
  · exact hw_run (va_runS C0.1 hM ⟨callB_of n ht (lw_good_in hY) rfl rfl rfl (ht _ hY.2.1) (ht _ hL) ⟨hY.2.2.1.1, hY.2.2.1.2, hY.2.2.2⟩ hR, ht _ hS⟩ ⟨Pk.blind, hw_pre C0 hH As⟩ rfl hn hsz rfl hW0 hdg hf) hH C0.2.2.1 kk
  · exact hw_run (va_runSN C0.1 hM ⟨va_cnB (host := host) n ht (lw_good_in hY) rfl rfl rfl (C0.2.2.2.2.1 _ hL) (ht _ hY.2.1) ⟨hY.2.2.1.1, hY.2.2.1.2, hY.2.2.2⟩ hR, ht _ hS, trivial⟩ ⟨Pk.blind, hw_pre C0 hH As⟩ rfl hn hsz rfl hW0 hdg hf) hH C0.2.2.1 kk
theorem hw_recv {b ci : Nat} {u : Unit} {C : String} {T : u_T} {N : Nat} (C0 : Cx E B p s m args meth c cc own nL ret) (hH : Hw E B s.heap σ H locs) (hc : isC σ b ci = some u) (hv : vwCl[ci]? = some (C, T, N)) : ∃ cell : Cell, H[b]? = some cell ∧ cell.vm.isStatics = false ∧ s.vm.findClass C = some cell.cls := by
  obtain ⟨F, hF⟩ := isC_spec hc
  obtain ⟨hr, he⟩ := hH.1.at hF (ne_no (in_vw hv).2)
  exact va_recv C0.2.2.2.1 hH.1.2 hv he
theorem hw_callV {b ci : Nat} {u : Unit} {T : u_T} {N : Nat} (C0 : Cx E B p s m args meth c cc own nL ret) (hH : Hw E B s.heap σ H locs) (hY : Yk y bytes maxL ret1 n) (hI : Cond.instanceMethod y ∈ lw_good ∧ Cond.selects y.cls y y ∈ lw_good) (hL : Lk own index y) (hv : vwCl[ci]? = some (y.cls, T, N)) (hM : Cm l E B y bytes maxL ret1 fr lo mc ms (.ref b :: As) σ σ1 r) (hc : isC σ b ci = some u)
    (hn : As.length = n) (hsz : ls.size = nL) (hW : (rest.map fun v => v.category).sum ≤ 8) (hdg : decode cc pc = .ok (.invokevirtual index, 3)) (hR : fr + 1 ≤ R.frames ∧ 8 + (maxL + 11) + lo ≤ R.locals) (hf : cells + mc ≤ R.cells ∧ slots + ms ≤ R.slots)
    (kk : ∀ (H : Heap) (locs : List Loc), Hw E B s.heap σ1 H locs → W p l e R s m args below meth c H locs (cells + mc) (slots + ms) Q (F0 m (pc + 3) ls (r.toList ++ rest))) : W p l e R s m args below meth c H locs cells slots Q (F0 m pc ls (As.reverse ++ .ref b :: rest)) := by
  have ht := C0.1.2.2.2.2
  have hW0 : 2 * (F0 m pc ls (As.reverse ++ .ref b :: rest)).monitorRoom + (rest.map fun v => v.category).sum ≤ 8 := by
    have : (F0 m pc ls (As.reverse ++ .ref b :: rest)).monitorRoom = 0 := rfl
    rw [this]; simpa using hW
  rcases hL with hL | ⟨host, hL⟩
  · exact hw_run (va_runV C0.1 hM ⟨callB_of n ht (lw_good_in hY) rfl rfl rfl (ht _ hY.2.1) (ht _ hL) ⟨hY.2.2.1.1, hY.2.2.1.2, hY.2.2.2⟩ hR, ht _ hI.1, ht _ hI.2⟩ ⟨Pk.blind, hw_recv C0 hH hc hv, hw_pre C0 hH (.ref b :: As)⟩ rfl hn hsz rfl hW0 hdg hf) hH C0.2.2.1 kk
  · exact hw_run (va_runVN C0.1 hM ⟨va_cnB (host := host) n ht (lw_good_in hY) rfl rfl rfl (C0.2.2.2.2.1 _ hL) (ht _ hY.2.1) ⟨hY.2.2.1.1, hY.2.2.1.2, hY.2.2.2⟩ hR, ht _ hI.1, ht _ hI.2⟩ ⟨Pk.blind, hw_recv C0 hH hc hv, hw_pre C0 hH (.ref b :: As)⟩ rfl hn hsz rfl hW0 hdg hf) hH C0.2.2.1 kk
theorem hw_callI {b : Nat} (C0 : Cx E B p s m args meth c cc own nL ret) (hH : Hw E B s.heap σ H locs) (hY : Yk y bytes maxL none n) (hI : Cond.instanceMethod y ∈ lw_good ∧ y.name = "<init>") (hL : Lk own index y) (hM : Cm l E B y bytes maxL none fr lo mc ms (.ref b :: As) σ σ1 r)
    (hn : As.length = n) (hsz : ls.size = nL) (hW : (rest.map fun v => v.category).sum ≤ 8) (hdg : decode cc pc = .ok (.invokespecial index, 3)) (hR : fr + 1 ≤ R.frames ∧ 8 + (maxL + 11) + lo ≤ R.locals) (hf : cells + mc ≤ R.cells ∧ slots + ms ≤ R.slots)
    (kk : ∀ (H : Heap) (locs : List Loc), Hw E B s.heap σ1 H locs → W p l e R s m args below meth c H locs (cells + mc) (slots + ms) Q (F0 m (pc + 3) ls (r.toList ++ rest))) : W p l e R s m args below meth c H locs cells slots Q (F0 m pc ls (As.reverse ++ .ref b :: rest)) := by
  have ht := C0.1.2.2.2.2
  have hW0 : 2 * (F0 m pc ls (As.reverse ++ .ref b :: rest)).monitorRoom + (rest.map fun v => v.category).sum ≤ 8 := by
    have : (F0 m pc ls (As.reverse ++ .ref b :: rest)).monitorRoom = 0 := rfl
    rw [this]; simpa using hW
  rcases hL with hL | ⟨host, hL⟩
  · exact hw_run (va_runI C0.1 hM ⟨callB_of n ht (lw_good_in hY) rfl rfl rfl (ht _ hY.2.1) (ht _ hL) ⟨hY.2.2.1.1, hY.2.2.1.2, hY.2.2.2⟩ hR, hI.2, ht _ hI.1⟩ ⟨Pk.blind, hw_pre C0 hH (.ref b :: As)⟩ rfl hn hsz rfl hW0 hdg hf) hH C0.2.2.1 kk
  · exact hw_run (va_runIN C0.1 hM ⟨va_cnB (host := host) n ht (lw_good_in hY) rfl rfl rfl (C0.2.2.2.2.1 _ hL) (ht _ hY.2.1) ⟨hY.2.2.1.1, hY.2.2.1.2, hY.2.2.2⟩ hR, hI.2, ht _ hI.1⟩ ⟨Pk.blind, hw_pre C0 hH (.ref b :: As)⟩ rfl hn hsz rfl hW0 hdg hf) hH C0.2.2.1 kk
end HC
