/-! ===== the law's loop: by fuel; a turn costs 20 cells and 5000 slots ===== -/
def lawM (xs : Nat → Int32) (L : Nat) : Nat → Hs → Nat → Nat → Int32 → Option Int32
  | 0 => fun _ _ _ _ => none
  | n + 1 => fL_law_18 xs L (lawM xs L n)
theorem wL_loop {p : Program} {l : Launch} {e : Env} {s : State} {m : MethodId} {below : List Frame} {meth : Method} {c : Code} {E : Ev} {B bb L : Nat} {xs : Nat → Int32} (hX : va_X bb L xs s s.heap) (hbl : bb < s.heap.size) (hbB : bb < B) (hBe : B = s.heap.size) (C0 : Cx E B p s m #[Value.ref bb] meth c cL_law RL 4 (some .boolean)) :
    ∀ (n k : Nat), n + k ≤ 600 → ∀ (σ : Hs) (xv1 : Nat) (xv2 : Nat) (xv3 : Int32) (H : Heap) (locs : List Loc) (ls : Array Slot), Hw E B s.heap σ H locs → lv_has ls 4 [(0, .ref bb), (1, .ref xv1), (2, .ref xv2), (3, .int xv3)] → lawM xs L n σ xv1 xv2 xv3 = some 1 →
      W p l e room_1 s m #[Value.ref bb] below meth c H locs (100 + 20 * k) (20000 + 5000 * k) (lw_Z below #[Value.ref bb] s) (F0 m 18 ls []) := by
  intro n
  induction n with
  | zero => intro k _ σ xv1 xv2 xv3 H locs ls _ _ hf; simp [lawM] at hf
  | succ n ih =>
    intro k hk σ xv1 xv2 xv3 H locs ls hH hl hf
    refine wL_law_18 hX hbl hbB hBe C0 (cA := 100 + 20 * k) (sA := 20000 + 5000 * k) (by omega) (by omega) (k18 := lawM xs L n) ?_ σ xv1 xv2 xv3 H locs ls hH hl hf
    intro σ' y1 y2 y3 H' locs' ls' hH' hl' hf'
    have := ih (k + 1) (by omega) σ' y1 y2 y3 H' locs' ls' hH' hl' hf'
    rw [show 100 + 20 * (k + 1) = 100 + 20 * k + 20 by omega, show 20000 + 5000 * (k + 1) = 20000 + 5000 * k + 5000 by omega] at this
    exact this
/-- the whole law as a plain function of the script -/
def lawF (xs : Nat → Int32) (L : Nat) (σ : Hs) : Option Int32 := fL_law_0 xs L (lawM xs L 514) σ
theorem wL_all {p : Program} {l : Launch} {e : Env} {s : State} {m : MethodId} {below : List Frame} {meth : Method} {c : Code} {E : Ev} {B bb L : Nat} {xs : Nat → Int32} (hX : va_X bb L xs s s.heap) (hbl : bb < s.heap.size) (hbB : bb < B) (hBe : B = s.heap.size) (C0 : Cx E B p s m #[Value.ref bb] meth c cL_law RL 4 (some .boolean)) (σ : Hs) (H : Heap) (locs : List Loc) (ls : Array Slot) (hH : Hw E B s.heap σ H locs) (hl : lv_has ls 4 [(0, .ref bb)]) (hf : lawF xs L σ = some 1) :
    W p l e room_1 s m #[Value.ref bb] below meth c H locs 0 0 (lw_Z below #[Value.ref bb] s) (F0 m 0 ls []) := by
  refine wL_law_0 hX hbl hbB hBe C0 (k18 := lawM xs L 514) ?_ σ H locs ls hH hl hf
  intro σ' y1 y2 y3 H' locs' ls' hH' hl' hf'
  exact wL_loop hX hbl hbB hBe C0 514 0 (by omega) σ' y1 y2 y3 H' locs' ls' hH' hl' hf'
