/-! THE CLAIM OUT OF ONE WALK OF THE LAW'S BODY. Your part is whole_start (and what it stands on); all else here is the same for every law, but numbers. -/
def R_law : String := "LeapNetLaw"
/-- the room, whatever the last digits of its number: it changes from turn to turn -/
theorem cl_ok : 590000 ≤ room_1.cells := Nat.le_of_ble_eq_true rfl
theorem sl_ok : 7000000 ≤ room_1.slots := Nat.le_of_ble_eq_true rfl
def lw_P (b : Addr) (xs : List Int32) (args : Array Value) (s : State) : Prop := args = #[.ref b] ∧ s.IntsAt b xs ∧ xs.length ≤ 3072 ∧ (Jvm.Cond.and given_1 narrow_1).before args s = true
def lw_Q (_ : Array Value) (s : State) (o : Outcome) (t : State) : Prop := o = .returned (some (.int 1)) ∧ Framed s o t [] room_1.cells room_1.slots
def lw_Z (below : List Frame) (a : Array Value) (s : State) : State → Prop := fun t => ∃ o, t.status = .running ∧ Ended t below o ∧ lw_Q a s o t
/-- the law's own end, with 1 on the stack, nothing written that was there before, its room as the claim has it -/
theorem lw_ret {p : Program} {l : Launch} {e : Env} {s : State} {m : MethodId} {below : List Frame} {meth : Method} {c : Code} {b : Nat} (hx : p.tables.exec = Jvm.exec) (hb : c.code = code) (hr : meth.sig.returnType = ret) (hlocks : meth.locks = false) {pc : Nat} {H : Heap} {ls : Array Slot} (hdg : decode code pc = .ok (.ireturn, 1)) : W p l e room_1 s m #[Value.ref b] below meth c H [] room_1.cells room_1.slots (lw_Z below #[Value.ref b] s) (F0 m pc ls [.int 1]) := by
  intro T hT X
  obtain ⟨fs, hret, hrun, hended, hW, hframe⟩ := X.leave (v := some (.int 1)) (hlocks := hlocks) (fun h => by rw [hr] at h; cases h)
  have hmeth' : T.vm.method? m = some meth := X.method'
  refine ⟨T.setFrames fs, ?_, .returned (some (.int 1)), hrun, hended, rfl, ⟨_, rfl⟩, hW, hframe⟩
  jvm_step X.here [X.here.top, hx, hb, hdg, hmeth', hr, ret, narrow_b1]
  (try refine ⟨rfl, ?_⟩); (try refine ⟨rfl, ?_⟩)
  first | (intro acts; rw [hret _ acts rfl rfl rfl]) | rw [hret _ _ rfl rfl rfl]
  exact Steps.refl _
/-- what holds at the law's entry: the machine, the code, the tables' words (any of lw_tbl by 'hts w (by decide +kernel)'), the script of L ints xs at the cell b, what the Statement gives of the start (any of its parts by flat_of_before) -/
def lw_At (p : Program) (s : State) (m : MethodId) (meth : Method) (c : Code) (b L : Nat) (xs : Nat → Int32) : Prop :=
  p.tables.exec = Jvm.exec ∧ c.code = code ∧ meth.sig.returnType = ret ∧ c.maxLocals = 4 ∧ s.vm.findClass R_law = some m.cls ∧ (∀ w ∈ lw_tbl, w.before #[Value.ref b] s = true) ∧ va_X b L xs s s.heap ∧ b < s.heap.size ∧ meth.locks = false ∧ (Jvm.Cond.and given_1 narrow_1).before #[Value.ref b] s = true
/-! ===== rows of the law's own ===== -/
def sc (xs : Nat → Int32) (L : Nat) (i : Int32) : Option Int32 := if ix i L = true then some (xs i.toNatClampNeg) else none
section HL
variable {p : Program} {l : Launch} {e : Env} {R : Room} {s : State} {m : MethodId} {args : Array Value} {below : List Frame} {meth : Method} {c : Code} {H : Heap} {locs : List Loc} {cells slots : Nat} {Q : State → Prop}
variable {E : Ev} {B b L : Nat} {xs : Nat → Int32} {σ : Hs} {cc : ByteArray} {own : String} {nL pc : Nat} {ret1 : Option FieldType} {ls : Array Slot} {rest : List Value}
theorem hw_sld {i x : Int32} (hX : va_X b L xs s s.heap) (hbl : b < s.heap.size) (hbB : b < B) (C0 : Cx E B p s m args meth c cc own nL ret1) (hH : Hw E B s.heap σ H locs) (hg : sc xs L i = some x) (hdg : decode cc pc = .ok (.iaload, 1))
    (kk : W p l e R s m args below meth c H locs cells slots Q (F0 m (pc + 1) ls (.int x :: rest))) : W p l e R s m args below meth c H locs cells slots Q (F0 m pc ls (.int i :: .ref b :: rest)) := by
  unfold sc at hg
  split at hg
  · rename_i h
    cases hg
    exact va_sld C0.1.1 C0.1.2.1 hX hbl (Nat.not_le.mpr hbB) hH.2 (ix_in h) hdg kk
  · cases hg
theorem hw_slen (hX : va_X b L xs s s.heap) (hbl : b < s.heap.size) (hbB : b < B) (C0 : Cx E B p s m args meth c cc own nL ret1) (hH : Hw E B s.heap σ H locs) (hdg : decode cc pc = .ok (.arraylength, 1))
    (kk : W p l e R s m args below meth c H locs cells slots Q (F0 m (pc + 1) ls (.int (Int32.ofNat L) :: rest))) : W p l e R s m args below meth c H locs cells slots Q (F0 m pc ls (.ref b :: rest)) :=
  va_slen C0.1.1 C0.1.2.1 hX hbl (Nat.not_le.mpr hbB) hH.2 hdg kk
theorem hw_lawend (hBe : B = s.heap.size) (C0 : Cx E B p s m #[Value.ref b] meth c code own nL ret) (hH : Hw E B s.heap σ H locs) (h1 : cells ≤ 590000) (h2 : slots ≤ 7000000) (hdg : decode code pc = .ok (.ireturn, 1)) :
    W p l e room_1 s m #[Value.ref b] below meth c H locs cells slots (lw_Z below #[Value.ref b] s) (F0 m pc ls [.int 1]) := by
  refine va_forget (fun q hq => by rw [← hBe]; exact hH.2.2.2 q hq) ?_
  refine W.widen (k := room_1.cells) (n := room_1.slots) (Nat.le_trans h1 cl_ok) (Nat.le_trans h2 sl_ok) ?_
  exact lw_ret C0.1.1 C0.1.2.1 C0.2.1.1 C0.2.1.2 hdg
end HL
