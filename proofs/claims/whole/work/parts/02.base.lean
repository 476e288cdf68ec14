/-! ===== the words that stay, and those that are carried by hand ===== -/
def lw_good : List Cond := lw_tbl.filter goodWord
def nw_is (w : Cond) : Bool := match w with
  | .fieldLinkNest .. => true
  | .methodLinkNest .. => true
  | .castable .. => true
  | .declares _ => true
  | _ => false
def lw_nw : List Cond := lw_tbl.filter nw_is
theorem good_in {w : Cond} (h : w ∈ lw_tbl) (g : goodWord w = true) : w ∈ lw_good := List.mem_filter.mpr ⟨h, g⟩
theorem nw_in {w : Cond} (h : w ∈ lw_tbl) (g : nw_is w = true) : w ∈ lw_nw := List.mem_filter.mpr ⟨h, g⟩
theorem nw_warm {s U : State} (hW : s.WarmedH U.vm) (h : ∀ w ∈ lw_nw, va_Nw w s) : ∀ w ∈ lw_nw, va_Nw w U := by
  intro w hw
  have h1 := h w hw
  have h2 := (List.mem_filter.mp hw).2
  cases w <;> first | exact va_Nw.warmF hW h1 | exact va_Nw.warmM hW h1 | exact va_Nw.warmC hW h1 | exact va_Nw.warmD hW h1 | (simp [nw_is] at h2)
theorem nw_same {s U : State} (hv : s.vm = U.vm) (h : ∀ w ∈ lw_nw, va_Nw w s) : ∀ w ∈ lw_nw, va_Nw w U := by
  intro w hw
  have h1 := h w hw
  have h2 := (List.mem_filter.mp hw).2
  cases w <;> first | exact va_Nw.same rfl hv h1 | (simp [nw_is] at h2)
/-! ===== the heap in words of my own ===== -/
/-- a cell: an array (number of its type, length, contents), or an object (number of its class in vwCl, its fields) -/
abbrev Ce : Type := (Nat × vp_A) ⊕ (Nat × (Nat → Value))
/-- the next address, what each address holds, and where the statics' objects are -/
abbrev Hs : Type := Nat × (Nat → Ce) × (Nat → Nat)
/-- classes, slots, array classes -/
abbrev Ev : Type := (Nat → ClassId) × (Nat → Nat → Nat) × (Nat → ClassId) × (Nat → Ce) × (Nat → Nat)
/-- what lies outside: nothing (999), or a thing of the JDK's that is only read, by its number from 500 on -/
def isOld (c : Ce) : Prop := match c with | .inr o => 500 ≤ o.1 | .inl _ => False
def ce_no : Ce := .inr (999, fun _ => .null)
def nF (ci : Nat) : Nat := (vwCl.map (fun q => q.2.2)).getD ci 0
def cn (E : Ev) (c : Ce) : va_E := match c with
  | .inl a => .inl (E.2.2.1 a.1, a.2)
  | .inr o => .inr (o.1, (List.range (nF o.1)).map o.2)
def tysE (E : Ev) : List (ClassId × FieldType) := [(E.2.2.1 0, .int), (E.2.2.1 1, .long), (E.2.2.1 2, .byte), (E.2.2.1 3, .boolean), (E.2.2.1 4, .char), (E.2.2.1 5, .object "LeapNet$Tray"), (E.2.2.1 6, .object "LeapNet$Land"), (E.2.2.1 7, .object "java/lang/Object")]
def wl (E : Ev) (B : Nat) (σ : Hs) : va_W := (List.range (σ.1 - B)).map (fun k => (B + k, cn E (σ.2.1 (B + k))))
theorem wl_at {E : Ev} {B a : Nat} {σ : Hs} (h1 : B ≤ a) (h2 : a < σ.1) : (wl E B σ)[a - B]? = some (a, cn E (σ.2.1 a)) := by
  unfold wl
  rw [List.getElem?_map, List.getElem?_range (by omega)]
  simp only [Option.map_some]
  rw [show B + (a - B) = a by omega]
theorem wl_len {E : Ev} {B : Nat} {σ : Hs} : (wl E B σ).length = σ.1 - B := by simp [wl]
theorem wl_get {E : Ev} {B k : Nat} {σ : Hs} {q : Nat × va_E} (h : (wl E B σ)[k]? = some q) : k < σ.1 - B ∧ q = (B + k, cn E (σ.2.1 (B + k))) := by
  have hk : k < σ.1 - B := by
    have := (List.getElem?_eq_some_iff.mp h).1
    rwa [wl_len] at this
  refine ⟨hk, ?_⟩
  have h2 := wl_at (E := E) (B := B) (a := B + k) (σ := σ) (by omega) (by omega)
  rw [show B + k - B = k by omega, h] at h2
  exact Option.some.inj h2
theorem wl_set {E : Ev} {B a : Nat} {σ : Hs} {c : Ce} (h1 : B ≤ a) : (wl E B σ).set (a - B) (a, cn E c) = wl E B (σ.1, va_up σ.2.1 a c, σ.2.2) := by
  apply List.ext_getElem?
  intro k
  by_cases hk : k < σ.1 - B
  · have e2 := wl_at (E := E) (B := B) (a := B + k) (σ := (σ.1, va_up σ.2.1 a c, σ.2.2)) (by omega) (show B + k < σ.1 by omega)
    rw [show B + k - B = k by omega] at e2
    rw [e2, List.getElem?_set]
    by_cases hq : a - B = k
    · have : a = B + k := by omega
      subst this
      simp [wl_len, hk, va_up]
    · rw [if_neg hq]
      have e1 := wl_at (E := E) (B := B) (a := B + k) (σ := σ) (by omega) (by omega)
      rw [show B + k - B = k by omega] at e1
      rw [e1]
      have : B + k ≠ a := by omega
      simp [va_up, this]
  · rw [List.getElem?_eq_none (by rw [List.length_set, wl_len]; omega), List.getElem?_eq_none (by rw [wl_len]; show σ.1 - B ≤ k; omega)]
theorem wl_push {E : Ev} {B : Nat} {σ : Hs} {c : Ce} (h1 : B ≤ σ.1) : wl E B σ ++ [(σ.1, cn E c)] = wl E B (σ.1 + 1, va_up σ.2.1 σ.1 c, σ.2.2) := by
  apply List.ext_getElem?
  intro k
  by_cases hk : k < σ.1 - B
  · have e2 := wl_at (E := E) (B := B) (a := B + k) (σ := (σ.1 + 1, va_up σ.2.1 σ.1 c, σ.2.2)) (by omega) (show B + k < σ.1 + 1 by omega)
    rw [show B + k - B = k by omega] at e2
    have e1 := wl_at (E := E) (B := B) (a := B + k) (σ := σ) (by omega) (by omega)
    rw [show B + k - B = k by omega] at e1
    rw [List.getElem?_append_left (by rw [wl_len]; exact hk), e1, e2]
    have : B + k ≠ σ.1 := by omega
    simp [va_up, this]
  · by_cases hq : k = σ.1 - B
    · subst hq
      rw [List.getElem?_append_right (by rw [wl_len]; omega), wl_len, Nat.sub_self]
      have e2 := wl_at (E := E) (B := B) (a := σ.1) (σ := (σ.1 + 1, va_up σ.2.1 σ.1 c, σ.2.2)) h1 (show σ.1 < σ.1 + 1 by omega)
      rw [e2]
      simp [va_up]
    · rw [List.getElem?_eq_none (by simp [wl_len]; omega), List.getElem?_eq_none (by rw [wl_len]; show σ.1 + 1 - B ≤ k; omega)]
theorem wl_D {E : Ev} {B : Nat} {σ : Hs} : va_D (fun q : Nat => B ≤ q) (wl E B σ) := by
  refine ⟨fun i j p q hp hq e => ?_, fun k q hq => ?_⟩
  · have h1 := (wl_get hp).2
    have h2 := (wl_get hq).2
    subst h1; subst h2
    simp only at e
    omega
  · have h1 := (wl_get hq).2
    subst h1
    show B ≤ B + k
    omega
/-- the heap H holds σ -/
def Hd (E : Ev) (B : Nat) (σ : Hs) (H : Heap) : Prop := (B ≤ σ.1 ∧ H.size = σ.1 ∧ (∀ a, σ.1 ≤ a → σ.2.1 a = ce_no) ∧ (∀ a, a < B → σ.2.1 a = E.2.2.2.1 a ∧ isOld (σ.2.1 a)) ∧ σ.2.2 = E.2.2.2.2) ∧ va_P (E.1, E.2.1) vwCl (wl E B σ) H
/-- ... and since the start H0 nothing below B has changed -/
def Hw (E : Ev) (B : Nat) (H0 : Heap) (σ : Hs) (H : Heap) (locs : List Loc) : Prop := Hd E B σ H ∧ va_S (fun q : Nat => B ≤ q) H0 H locs
theorem Hd.at {E : Ev} {B a : Nat} {σ : Hs} {H : Heap} (h : Hd E B σ H) {c : Ce} (hc : σ.2.1 a = c) (hn : ¬ isOld c) : (B ≤ a ∧ a < σ.1) ∧ (wl E B σ)[a - B]? = some (a, cn E c) := by
  have h1 : B ≤ a ∧ a < σ.1 := by
    refine ⟨Nat.le_of_not_lt fun q => hn ?_, Nat.lt_of_not_le fun q => hn ?_⟩
    · rw [← hc]; exact (h.1.2.2.2.1 a q).2
    · rw [← hc, h.1.2.2.1 a q]; show 500 ≤ 999; omega
  exact ⟨h1, by rw [← hc]; exact wl_at h1.1 h1.2⟩
theorem Hd.up {E : Ev} {B a : Nat} {σ : Hs} {H H1 : Heap} {c : Ce} (h : Hd E B σ H) (hl : B ≤ a ∧ a < σ.1) (hz : H1.size = H.size) (hP : va_P (E.1, E.2.1) vwCl ((wl E B σ).set (a - B) (a, cn E c)) H1) : Hd E B (σ.1, va_up σ.2.1 a c, σ.2.2) H1 := by
  refine ⟨⟨h.1.1, hz.trans h.1.2.1, fun q hq => ?_, fun q hq => ?_, h.1.2.2.2.2⟩, by rw [← wl_set hl.1]; exact hP⟩
  · have hq2 : σ.1 ≤ q := hq
    have : q ≠ a := by omega
    show va_up σ.2.1 a c q = ce_no
    simp only [va_up, if_neg this]
    exact h.1.2.2.1 q hq2
  · have : q ≠ a := by omega
    show va_up σ.2.1 a c q = _ ∧ isOld (va_up σ.2.1 a c q)
    simp only [va_up, if_neg this]
    exact h.1.2.2.2.1 q hq
theorem Hd.new {E : Ev} {B : Nat} {σ : Hs} {H H1 : Heap} {c : Ce} (h : Hd E B σ H) (hz : H1.size = σ.1 + 1) (hP : va_P (E.1, E.2.1) vwCl (wl E B σ ++ [(σ.1, cn E c)]) H1) : Hd E B (σ.1 + 1, va_up σ.2.1 σ.1 c, σ.2.2) H1 := by
  have h0 := h.1.1
  refine ⟨⟨Nat.le_succ_of_le h.1.1, hz, fun q hq => ?_, fun q hq => ?_, h.1.2.2.2.2⟩, by rw [← wl_push h.1.1]; exact hP⟩
  · have hq2 : σ.1 + 1 ≤ q := hq
    have : q ≠ σ.1 := by omega
    show va_up σ.2.1 σ.1 c q = ce_no
    simp only [va_up, if_neg this]
    exact h.1.2.2.1 q (by omega)
  · have : q ≠ σ.1 := by omega
    show va_up σ.2.1 σ.1 c q = _ ∧ isOld (va_up σ.2.1 σ.1 c q)
    simp only [va_up, if_neg this]
    exact h.1.2.2.2.1 q hq
