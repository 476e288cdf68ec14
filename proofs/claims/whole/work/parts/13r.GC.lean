theorem lp_2 {S1 S2 R1 R2 : Type} {F1 : (S1 → Option R1) → S1 → Option R1} {F2 : (S2 → Option R2) → S2 → Option R2} (I : Nat → S1 → S2 → Prop) (Q : Option R1 → Option R2 → Prop) (h : ∀ K1 K2 t s1 s2, I t s1 s2 → (∃ t' s1' s2', t' < t ∧ I t' s1' s2' ∧ F1 K1 s1 = K1 s1' ∧ F2 K2 s2 = K2 s2') ∨ Q (F1 K1 s1) (F2 K2 s2)) : ∀ N t s1 s2, I t s1 s2 → t < N → Q (lp F1 N s1) (lp F2 N s2) := by
  intro N; induction N with
  | zero => intro t s1 s2 _ ht; omega
  | succ N ih =>
    intro t s1 s2 hI ht
    show Q (F1 (lp F1 N) s1) (F2 (lp F2 N) s2)
    rcases h (lp F1 N) (lp F2 N) t s1 s2 hI with ⟨t', s1', s2', h1, h2, h3, h4⟩ | hq
    · rw [h3, h4]; exact ih t' s1' s2' h2 (by omega)
    · exact hq
def RAl (tx : Nat → Int) (n D : Nat) (nt : Nat → Nat) (R : Gs) (a rm : Nat) : Prop := RB R false tx n a ∧ fi R 32 = Int32.ofNat rm ∧ fi R 31 = Int32.ofNat D ∧ ∀ d, d < D → (al R 40 d).toInt = vA tx n (nt d)
def mW (R : Gs) (j : Nat) : Nat := wOf (ai R 38 j)
def mV (R : Gs) (j : Nat) : Nat := vOf (ai R 38 j)
def PLk : List Nat := [21, 22, 24, 25, 26, 27, 28, 29, 32, 38]
def Lv (b : Nat) (tx : Nat → Int) (n K D : Nat) (nt : Nat → Nat) (G H R : Gs) (a mk rm : Nat) : Prop := AlG G false tx n K a ∧ HR b K D nt H mk ∧ RAl tx n D nt R a rm ∧ mk ≤ a ∧ rm ≤ a
def Dd (b : Nat) (tx : Nat → Int) (n K D : Nat) (nt : Nat → Nat) (G H R : Gs) (a kd rm : Nat) : Prop := DdG G false tx n K a kd ∧ (∃ mk, HR b K D nt H mk) ∧ fi R 21 = Int32.ofNat kd ∧ fi R 22 = Int32.ofNat (pA tx n a) ∧ fi R 32 = Int32.ofNat rm
section
variable {b : Nat} {σ0 : Hs} {m : Nat} {ρ : Hs} {tx : Nat → Int} {n K D : Nat} {nt : Nat → Nat}
def Rs (b : Nat) (σ0 : Hs) (m : Nat) (ρ : Hs) (tx : Nat → Int) (n K D : Nat) (nt : Nat → Nat) (H R : Gs) (a mk rm N : Nat) (T : (Evm → Option Int64) → Prop) (X Y : Option Hs) : Prop :=
  (∃ G' H' R' a' mk' rm' f, X = some (st6 b σ0 G' H') ∧ Y = some (eR m ρ R') ∧ Lv b tx n K D nt G' H' R' a' mk' rm' ∧ (Fr [2, 3, 4] H H' ∧ Fr PLk R R') ∧ (a < a' ∧ mk' + a ≤ mk + a' ∧ rm' + a ≤ rm + a') ∧ (∀ j, j < mk → ai H' 2 j = ai H 2 j ∧ ai H' 3 j = ai H 3 j) ∧ (∀ j, j < rm → ai R' 38 j = ai R 38 j) ∧ XM D (ai H' 2) (ai H' 3) mk mk' N f ∧ RMf D (mW R') (mV R') rm rm' N f ∧ T f) ∨
  (∃ G' H' R' a' kd rm', X = some (st6 b σ0 G' H') ∧ Y = some (eR m ρ R') ∧ Dd b tx n K D nt G' H' R' a' kd rm' ∧ (Fr [2, 3, 4] H H' ∧ Fr PLk R R') ∧ a ≤ a' ∧ rm' + a ≤ rm + a')
variable {G H R : Gs} {a mk rm : Nat}
theorem Lv.K500 (h : Lv b tx n K D nt G H R a mk rm) : K ≤ 500 ∧ a ≤ K ∧ n ≤ 500 := ⟨by have := h.1.1.1.1; have := h.1.1.2.1; omega, h.1.2.1, h.1.1.1.1⟩
theorem l_adv (h : Lv b tx n K D nt G H R a mk rm) (hk : kA false tx n a ≠ 0 ∧ kA false tx n a ≠ 4) : ∃ G' R', fX5_advance_0 (st6 b σ0 G H) b = some (st6 b σ0 G' H) ∧ fX12_next_0 (eR m ρ R) m = some (eR m ρ R') ∧ Lv b tx n K D nt G' H R' (a + 1) mk rm ∧ Fr PLk R R' ∧ ai R' 38 = ai R 38 := by
  obtain ⟨h1, h2, ⟨h3, h4, h5, h6⟩, h7, h8⟩ := h
  obtain ⟨e1, e2⟩ := x5_advance (st_A5 (b := b) (σ0 := σ0) (G := G) (H := H)) h1 hk
  obtain ⟨R', f1, f2, f3⟩ := rb_next (m := m) (ρ := ρ) h3 hk.1
  rw [st_w5] at e1
  exact ⟨_, R', e1, f1, ⟨e2, h2, ⟨f3, (f2.i 32 (by decide)).trans h4, (f2.i 31 (by decide)).trans h5, fun d hd => by rw [f2.al 40 (by decide)]; exact h6 d hd⟩, by omega, by omega⟩, f2.mono (by decide), f2.ai 38 (by decide)⟩
theorem l_ref (h : Lv b tx n K D nt G H R a mk rm) {f : Nat} (hf : 0 < f ∧ f < 7) : ∃ G' kd, fX5_refuse_0 (st6 b σ0 G H) b (Int32.ofNat f) = some (st6 b σ0 G' H) ∧ kd = (if kA false tx n a = 4 then 1 else f) ∧ DdG G' false tx n K a kd ∧ Dd b tx n K D nt G' H (rfR R tx n a kd) a kd rm := by
  obtain ⟨kd, e1, e2, e3⟩ := x5_refuse (st_A5 (b := b) (σ0 := σ0) (G := G) (H := H)) h.1 hf
  rw [st_w5] at e1
  exact ⟨_, kd, e1, e2, e3, e3, ⟨mk, h.2.1⟩, rfl, rfl, h.2.2.1.2.1⟩
theorem rf_fr (R : Gs) (kd : Nat) : Fr PLk R (rfR R tx n a kd) := ((Fr.refl _ R).sfi (k := 21) (by decide) _).sfi (k := 22) (by decide) _
theorem l_ref2 (h : Lv b tx n K D nt G H R a mk rm) : ∃ G' R' kd, fX5_refuse_0 (st6 b σ0 G H) b 2 = some (st6 b σ0 G' H) ∧ fX12_wrongToken_0 (eR m ρ R) m = some (eR m ρ R') ∧ Dd b tx n K D nt G' H R' a kd rm ∧ Fr PLk R R' := by
  obtain ⟨G', kd, e1, e2, e3, e4⟩ := l_ref (σ0 := σ0) h (f := 2) (by decide)
  refine ⟨G', _, kd, e1, rb_wrong h.2.2.1.1, ?_, rf_fr R _⟩
  rw [← e2]; exact e4
theorem cd_few {kd : Nat} (hG : DdG G false tx n K a kd) (h0 : fr H 0 = some b) : fX6_isFew_0 (st6 b σ0 G H) (b + 6) = some 0 := by
  unfold fX6_isFew_0
  simp only [c_g0 h0, z5_C st_A5, x5d_isWord st_A5 hG, Option.bind_some, if_true, bb_0]
theorem cd_atom {kd j : Nat} (hG : DdG G false tx n K a kd) (h0 : fr H 0 = some b) (d : Int32) : fX6_readAtom_0 (GR6 j) (st6 b σ0 G H) (b + 6) d = some (st6 b σ0 G H) := by
  unfold fX6_readAtom_0
  simp only [c_g0 h0, z5_C st_A5, z6_C st_A6, x5d_isNumber st_A5 hG, x5d_isSign st_A5 hG, cd_few hG h0, x5d_isAnyWord st_A5 hG, x5d_refuse st_A5 hG, Option.bind_some, if_true]
theorem cd_times {kd : Nat} (hG : DdG G false tx n K a kd) (h0 : fr H 0 = some b) : fX6_timesHere_0 (st6 b σ0 G H) (b + 6) = some (-1) := by
  unfold fX6_timesHere_0
  simp only [c_g0 h0, z5_C st_A5, x5d_isSign st_A5 hG, Option.bind_some, if_true]
theorem cd_comp {kd : Nat} (hG : DdG G false tx n K a kd) (h0 : fr H 0 = some b) : fX6_comparesHere_0 (st6 b σ0 G H) (b + 6) = some (-1) := by
  unfold fX6_comparesHere_0
  simp only [c_g0 h0, z5_C st_A5, x5d_isSign st_A5 hG, Option.bind_some, if_true]
theorem cd_item7 {kd j : Nat} (hG : DdG G false tx n K a kd) (h0 : fr H 0 = some b) (d c : Int32) : fX6_readItem_7 (GR6 j) (st6 b σ0 G H) (b + 6) d c = some (st6 b σ0 G H) := by
  unfold fX6_readItem_7
  show fbX6_readItem_7 _ _ _ _ _ _ = _
  unfold fbX6_readItem_7
  simp only [c_g0 h0, z5_g7 st_A5, z6_C st_A6, cd_times hG h0, Option.bind_some, if_true]
  split <;> rfl
theorem cd_item {kd j : Nat} (hG : DdG G false tx n K a kd) (h0 : fr H 0 = some b) (d : Int32) : fX6_readItem_0 (GR6 (j + 1)) (st6 b σ0 G H) (b + 6) d = some (st6 b σ0 G H) := by
  unfold fX6_readItem_0
  simp only [z6_C st_A6, Option.bind_some]
  rw [show (GR6 (j + 1)).2.2.2.2.2.1 (st6 b σ0 G H) (b + 6) d = fX6_readAtom_0 (GR6 j) (st6 b σ0 G H) (b + 6) d from rfl, cd_atom hG h0, Option.bind_some, cd_item7 hG h0]
theorem cd_sum7 {kd j : Nat} (hG : DdG G false tx n K a kd) (h0 : fr H 0 = some b) (d c : Int32) : fX6_readSum_7 (GR6 j) (st6 b σ0 G H) (b + 6) d c = some (st6 b σ0 G H) := by
  unfold fX6_readSum_7
  show fbX6_readSum_7 _ _ _ _ _ _ = _
  unfold fbX6_readSum_7
  simp only [c_g0 h0, z5_g7 st_A5, z5_C st_A5, x5d_isSign st_A5 hG, Option.bind_some, if_true]
  split <;> rfl
theorem cd_sum {kd j : Nat} (hG : DdG G false tx n K a kd) (h0 : fr H 0 = some b) (d : Int32) : fX6_readSum_0 (GR6 (j + 2)) (st6 b σ0 G H) (b + 6) d = some (st6 b σ0 G H) := by
  unfold fX6_readSum_0
  simp only [z6_C st_A6, Option.bind_some]
  rw [show (GR6 (j + 2)).2.2.2.2.1 (st6 b σ0 G H) (b + 6) d = fX6_readItem_0 (GR6 (j + 1)) (st6 b σ0 G H) (b + 6) d from rfl, cd_item hG h0, Option.bind_some, cd_sum7 hG h0]
theorem cd_cbs {kd : Nat} (hG : DdG G false tx n K a kd) (h0 : fr H 0 = some b) : fX6_canBeginSum_0 (st6 b σ0 G H) (b + 6) = some 0 := by
  unfold fX6_canBeginSum_0 fX6_canBeginSum_29
  simp only [c_g0 h0, z5_C st_A5, x5d_isAnyWord st_A5 hG, x5d_isNumber st_A5 hG, x5d_isSign st_A5 hG, Option.bind_some, if_true, bb_0]
theorem cd_part {kd j : Nat} (hG : DdG G false tx n K a kd) (h0 : fr H 0 = some b) (d f : Int32) : fX6_readPart_0 (GR6 (j + 3)) (st6 b σ0 G H) (b + 6) d f = some (st6 b σ0 G H) := by
  have h20 : fX6_readPart_20 (GR6 (j + 3)) (st6 b σ0 G H) (b + 6) d 0 = some (st6 b σ0 G H) := by
    unfold fX6_readPart_20
    simp only [c_g0 h0, z5_C st_A5, z6_C st_A6, cd_cbs hG h0, x5d_refuse st_A5 hG, Option.bind_some, if_true]
    rw [show (GR6 (j + 3)).2.2.2.1 (st6 b σ0 G H) (b + 6) d = fX6_readSum_0 (GR6 (j + 2)) (st6 b σ0 G H) (b + 6) d from rfl, cd_sum hG h0, Option.bind_some]
    split <;> rfl
  unfold fX6_readPart_0
  simp only [c_g0 h0, z5_C st_A5, x5d_isWord st_A5 hG, Option.bind_some, if_true, h20]
  split <;> rfl
theorem mk_w {w v : Nat} (hw : w ≤ 16) (hv : v < 1048576) {R' : Gs} {j : Nat} (h : ai R' 38 j = Int32.ofNat (1048576 * w + v)) : mW R' j = w ∧ mV R' j = v := by
  unfold mW mV wOf vOf; rw [h, c32 (by omega), n32 (by omega), if_pos (by omega), if_pos (by omega)]; omega
theorem mWV_cg {R R' : Gs} {j : Nat} (h : ai R' 38 j = ai R 38 j) : mW R' j = mW R j ∧ mV R' j = mV R j := by unfold mW mV; rw [h]; exact ⟨rfl, rfl⟩
def mkR (R : Gs) (rm w v : Nat) : Gs := sfi (sai R 38 (up (ai R 38) rm (Int32.ofNat (1048576 * w + v)))) 32 (Int32.ofNat (rm + 1))
theorem mkR_fr (R : Gs) (rm w v : Nat) : Fr [32, 38] R (mkR R rm w v) := ((Fr.refl _ R).sai (k := 38) (by decide) _).sfi (k := 32) (by decide) _
theorem mkR_old {R : Gs} {rm w v j : Nat} (h : j ≠ rm) : ai (mkR R rm w v) 38 j = ai R 38 j := by
  show up (ai R 38) rm _ j = _; unfold up; rw [if_neg h]
theorem mkR_new (R : Gs) (rm w v : Nat) : ai (mkR R rm w v) 38 rm = Int32.ofNat (1048576 * w + v) := up_same _ _ _
theorem emH_old {H : Gs} {mk j : Nat} {op v : Int32} (h : j ≠ mk) : ai (emH H mk op v) 2 j = ai H 2 j ∧ ai (emH H mk op v) 3 j = ai H 3 j := by
  constructor
  · show up (ai H 2) mk _ j = _; unfold up; rw [if_neg h]
  · show up (ai H 3) mk _ j = _; unfold up; rw [if_neg h]
theorem emH_new (H : Gs) (mk : Nat) (op v : Int32) : ai (emH H mk op v) 2 mk = op ∧ ai (emH H mk op v) 3 mk = v := ⟨up_same _ _ _, up_same _ _ _⟩
theorem Fr.RB {R R' : Gs} {a : Nat} {L : List Nat} (hF : Fr L R R') (hL : ∀ k, k ∈ [16, 18, 21, 23, 24, 25, 26, 27, 28, 29] → k ∉ L) (h : RB R false tx n a) : RB R' false tx n a := by
  obtain ⟨⟨a1, a2, a3, a4⟩, ⟨c1, c2, c3, c4, c5, c6⟩, b1⟩ := h
  refine ⟨⟨(hF.i 18 (hL _ (by decide))).trans a1, a2, (hF.i 23 (hL _ (by decide))).trans a3, (txR_fr hF (hL _ (by decide))).trans a4⟩, ⟨(hF.i 24 (hL _ (by decide))).trans c1, (hF.i 25 (hL _ (by decide))).trans c2, (hF.i 26 (hL _ (by decide))).trans c3, fun q => ?_, fun q => ?_, fun q => ?_⟩, (hF.i 21 (hL _ (by decide))).trans b1⟩
  · rw [hF.i 28 (hL _ (by decide)), hF.l 29 (hL _ (by decide))]; exact c4 q
  · rw [hF.i 27 (hL _ (by decide))]; exact c5 q
  · rw [hF.i 27 (hL _ (by decide))]; exact c6 q
theorem l_emit (h : Lv b tx n K D nt G H R a mk rm) {op v : Int32} {w u : Nat} (h1 : mk + 1 ≤ a) (h2 : rm + 1 ≤ a) : ∃ H', fX6_emit_0 (st6 b σ0 G H) (b + 6) op v = some (st6 b σ0 G H') ∧ fX12_mark_0 (eR m ρ R) m (Int32.ofNat w) (Int32.ofNat u) = some (eR m ρ (mkR R rm w u)) ∧ Lv b tx n K D nt G H' (mkR R rm w u) a (mk + 1) (rm + 1) ∧ Fr [2, 3, 4] H H' ∧ (ai H' 2 mk = op ∧ ai H' 3 mk = v) ∧ ∀ j, j ≠ mk → ai H' 2 j = ai H 2 j ∧ ai H' 3 j = ai H 3 j := by
  have hK := h.K500
  obtain ⟨k1, k2, ⟨k3, k4, k5, k6⟩, k7, k8⟩ := h
  obtain ⟨e1, e2, e3⟩ := c_emit (G := G) (σ0 := σ0) k2 hK.1 (by omega) op v
  have hf := mkR_fr R rm w u
  refine ⟨_, e1, rb_mark k4 (by omega), ⟨k1, e2, ⟨hf.RB (by decide) k3, rfl, (hf.i 31 (by decide)).trans k5, fun d hd => by rw [hf.al 40 (by decide)]; exact k6 d hd⟩, h1, h2⟩, e3, emH_new _ _ _ _, fun j hj => emH_old hj⟩
end
