def sTgs : List Nat := [1, 1, 1, 2, 2, 2, 2, 5, 6, 7, 8, 9, 3, 3, 3, 1, 330, 331, 332, 333]
def tg (x : Nat) (own : Nat → Nat) (a : Nat) : Nat := if a < x then 0 else if a < x + 78 then sTgs.getD (a - x) 4 else own a
def Chg (x : Nat) (own : Nat → Nat) (W : List Nat) (σ σ' : Hs) : Prop := σ.1 ≤ σ'.1 ∧ σ'.2.2 = σ.2.2 ∧ ∀ a, a < σ.1 → tg x own a ∉ W → σ'.2.1 a = σ.2.1 a
theorem Chg.refl (x : Nat) (own : Nat → Nat) (W : List Nat) (σ : Hs) : Chg x own W σ σ := ⟨Nat.le_refl _, rfl, fun _ _ _ => rfl⟩
theorem Chg.trans {x : Nat} {own : Nat → Nat} {W : List Nat} {a b c : Hs} (h : Chg x own W a b) (g : Chg x own W b c) : Chg x own W a c :=
  ⟨Nat.le_trans h.1 g.1, g.2.1.trans h.2.1, fun q h1 h2 => (g.2.2 q (Nat.lt_of_lt_of_le h1 h.1) h2).trans (h.2.2 q h1 h2)⟩
theorem Chg.mono {x : Nat} {own : Nat → Nat} {W W' : List Nat} {a b : Hs} (h : Chg x own W a b) (hs : ∀ k, k ∈ W → k ∈ W') : Chg x own W' a b := ⟨h.1, h.2.1, fun q h1 h2 => h.2.2 q h1 (fun r => h2 (hs _ r))⟩
theorem Ch.chg {x : Nat} {own : Nat → Nat} {W : List Nat} {D : Nat → Prop} {σ σ' : Hs} (h : Ch D σ σ') (hD : ∀ a, D a → tg x own a ∈ W) : Chg x own W σ σ' := ⟨Nat.le_of_eq h.1.symm, h.2.1, fun a _ h2 => h.2.2 a (fun q => h2 (hD a q))⟩
theorem tg_st {x : Nat} {own : Nat → Nat} {j : Nat} (hj : j < 78) : tg x own (x + j) = sTgs.getD j 4 := by
  unfold tg; rw [if_neg (by omega), if_pos (by omega), show x + j - x = j by omega]
def Ext (own own' : Nat → Nat) (n : Nat) : Prop := ∀ a, a < n → own' a = own a
theorem ext_tg {own own' : Nat → Nat} {n x a : Nat} (h : Ext own own' n) (ha : a < n) : tg x own' a = tg x own a := by
  unfold tg; rw [h a ha]
section
variable (x : Nat) (own : Nat → Nat) (σ : Hs) (R : Gs)
def PX (G : Gs) (st : Int32) : Prop := A11 x G σ ∧ fi G 0 = st ∧ fi G 3 = fi R 17 ∧ fi G 4 = fi R 19 ∧ fi G 5 = fi R 20 ∧ fi G 8 = fi R 12 ∧ fi G 16 = fi R 91 ∧ (ln G 1 = 4 ∧ ln G 2 = 500 ∧ ln G 17 = 4) ∧ (fi G 18 = 0 ∨ fi G 18 = 1) ∧ ∀ i : Nat, (i : Int) < (fi R 17).toInt → ai G 2 i = ai R 16 i
def PTr1 (t a : Nat) : Prop := ∃ H, A10 a H σ ∧ (tg x own a = 10 + t ∧ tg x own (a + 1) = 10 + t) ∧ a + 2 ≤ σ.1 ∧ fi H 0 = ai R 2 t ∧ (ln H 1 : Int) = (ai R 3 t).toInt ∧ ∀ k, k < ln H 1 → al H 1 k = al R 4 (40 * t + k)
def PTr (f : Nat → Option Nat) : Prop := ∀ t, t < 4 → (f t = none ∧ (ai R 3 t).toInt < 0) ∨ ∃ a, f t = some a ∧ PTr1 x own σ R t a
def PTt (T : Gs) (nL : Nat) : Prop := A9 (x + 3) T σ ∧ TW T 20 nL ∧ ∀ p q, mm nL (ai T 0) (ai T 1) p q ↔ mm nL (ai R 7) (ai R 8) p q
def PLs (l n : Nat) (el : Nat → Nat) : Prop := ∃ G, AJ (x + 7 + l) G σ ∧ fi G 2 = Int32.ofNat n ∧ ((n = 0 ∧ fr G 1 = some (σ.2.2 0)) ∨ ∃ d cap f, fr G 1 = some d ∧ σ.2.1 d = .inl (7, cap, .inr (.inr (.inr (.inr f)))) ∧ (n ≤ cap ∧ cap ≤ 100 ∧ 0 < cap) ∧ (tg x own d = 15 + l ∧ d < σ.1) ∧ ∀ i, i < n → f i = some (el i))
def PC1 (nL nN nS : Nat) (bl : Nat → Bool) (stale : Int32) (i c : Nat) : Prop := ∃ G T nt, A1 c G σ ∧ A9 (c + 1) T σ ∧ ((∀ j, j < 7 → tg x own (c + j) = 20 + i) ∧ c + 7 ≤ σ.1) ∧ (fi G 0 = ai R 13 i ∧ ln G 2 = 60 ∧ ln G 3 = 60 ∧ fi G 4 = Int32.ofNat (stN (ai R 14) (Int32.ofNat i) nS)) ∧ (∀ j, j < stN (ai R 14) (Int32.ofNat i) nS → ai G 2 j = stA (ai R 14) (ai R 15) (Int32.ofNat i) nS j) ∧ TV T 60 nt ∧
  (stale = 0 → TW T 60 nt ∧ isTab R nL nN bl (Int32.ofNat i) nt (ai T 0) (ai T 1) ∧ ∀ j, j < stN (ai R 14) (Int32.ofNat i) nS → (ai G 3 j).toInt = ldS (tru R nL) (tt T nt) (stA (ai R 14) (ai R 15) (Int32.ofNat i) nS j).toInt)
def PC (nL nN nS nC : Nat) (bl : Nat → Bool) (stale : Int32) (el : Nat → Nat) : Prop := PLs x own σ 0 nC el ∧ ∀ i, i < nC → PC1 x own σ R nL nN nS bl stale i (el i)
def PN1 (nL : Nat) (bl : Nat → Bool) (stale : Int32) (i a : Nat) : Prop := ∃ G, A3 a G σ ∧ (tg x own a = 100 + i ∧ a < σ.1) ∧ (fi G 0 = ai R 51 i ∧ fi G 1 = ai R 52 i ∧ fi G 2 = ai R 53 i ∧ fi G 3 = ai R 54 i ∧ fi G 4 = ai R 55 i) ∧ (stale = 0 → fi G 5 = b2i (itm R nL i) ∧ fi G 6 = b2i (bl i = true))
def PN (nL nN : Nat) (bl : Nat → Bool) (stale : Int32) (el : Nat → Nat) : Prop := PLs x own σ 2 nN el ∧ ∀ i, i < nN → PN1 x own σ R nL bl stale i (el i)
def PS1 (i a : Nat) : Prop := ∃ G, A8 a G σ ∧ (tg x own a = 200 + i ∧ a < σ.1) ∧ fi G 0 = ai R 58 i ∧ fi G 1 = ai R 59 i
def PS (nX : Nat) (el : Nat → Nat) : Prop := PLs x own σ 4 nX el ∧ ∀ i, i < nX → PS1 x own σ R i (el i)
def PV (nV : Nat) (el : Nat → Nat) : Prop := PLs x own σ 1 nV el ∧ ∀ i, i < nV → (0 ≤ (ai R 50 i).toInt ∧ (ai R 50 i).toInt ≤ 15) ∧ el i < x ∧ ∃ F, σ.2.1 (el i) = .inr (700 + (ai R 50 i).toNatClampNeg, F) ∧ F 0 = .int (ai R 50 i)
def PR1 (RO : Gs → Gs → Nat → Prop) (i a : Nat) : Prop := ∃ G, A6 a G σ ∧ ((∀ j, j < 9 → tg x own (a + j) = 300 + i) ∧ a + 9 ≤ σ.1) ∧ fi G 1 = ai R 33 i ∧ RO G R i
def PR (RO : Gs → Gs → Nat → Prop) (nT : Nat) (el : Nat → Nat) : Prop := PLs x own σ 3 nT el ∧ ∀ i, i < nT → PR1 x own σ R RO i (el i)
def PP (RP : Gs → Gs → Prop) (f : Option Nat) : Prop := (f = none ∧ (fi R 61).toInt < 0) ∨ ∃ a G, f = some a ∧ A4 a G σ ∧ ((∀ j, j < 4 → tg x own (a + j) = 320) ∧ a + 4 ≤ σ.1) ∧ 0 ≤ (fi R 61).toInt ∧ RP G R
def PU : Prop := ∃ G, A7 (x + 12) G σ ∧ (ln G 8 = 40 ∧ ln G 9 = 3) ∧ ((fr G 1 = none ∧ (fi R 68).toInt < 0) ∨ ∃ c, fr G 1 = some c ∧ 0 ≤ (fi R 68).toInt ∧ fi G 3 = fi R 69 ∧ fi G 6 = fi R 70) ∧ ((fi R 68).toInt < 0 → fi G 7 = 0) ∧ (0 ≤ (fi R 68).toInt → fi G 7 = fi R 71 ∧ 0 ≤ (fi R 71).toInt ∧ ∀ k : Nat, k < 40 → (k : Int) < (fi R 71).toInt → al G 8 k = al R 79 k)
def PA (f : Option Nat) : Prop := (f = none ∧ fi R 87 = 0) ∨ ∃ a G n, f = some a ∧ A0 a G σ ∧ ((∀ j, j < 3 → tg x own (a + j) = 321) ∧ a + 3 ≤ σ.1) ∧ fi R 87 = Int32.ofNat n ∧ (0 < n ∧ n ≤ 12) ∧ (ln G 0 = n ∧ ln G 1 = n ∧ fi G 2 = Int32.ofNat n) ∧ fi G 3 = fi R 90 ∧ fl G 4 = (fi R 88).toInt64 ∧ fl G 5 = (fi R 89).toInt64 ∧ ∀ k, k < n → al G 0 k = (ai R 80 k).toInt64 ∧ al G 1 k = (ai R 81 k).toInt64
def PD (f : Nat → Option Nat) : Prop := ∀ l, l < 4 → ∃ a G, f l = some a ∧ A2 a G σ ∧ (tg x own a = 330 + l ∧ a < σ.1) ∧ fi G 0 = ai R 84 l ∧ fi G 1 = ai R 85 l ∧ fi G 2 = ai R 86 l
end
section
variable {x : Nat} {own own' : Nat → Nat} {σ σ' : Hs} {R R' : Gs} {W L : List Nat}
theorem PX.fr {G : Gs} {st : Int32} (h : PX x σ R G st) (hx : x + 78 ≤ σ.1) (hC : Chg x own W σ σ') (hW : 1 ∉ W) (hR : Fr L R R') (hL : ∀ k, k ∈ [12, 16, 17, 19, 20, 91] → k ∉ L) : PX x σ' R' G st := by
  obtain ⟨h1, h2, h3, h4, h5, h6, h7, h8, h9, h10⟩ := h
  refine ⟨A11_fr h1 (fun a ha => hC.2.2 a (by omega) ?_), h2, ?_, ?_, ?_, ?_, ?_, h8, h9, ?_⟩
  · have : ∃ j, j < 16 ∧ a = x + j ∧ sTgs.getD j 4 = 1 := by
      rcases ha with q | q | q | q
      · exact ⟨0, by omega, by omega, rfl⟩
      · exact ⟨1, by omega, by omega, rfl⟩
      · exact ⟨2, by omega, by omega, rfl⟩
      · exact ⟨15, by omega, by omega, rfl⟩
    obtain ⟨j, j1, rfl, j2⟩ := this
    rw [tg_st (by omega), j2]; exact hW
  · rw [hR.i 17 (hL _ (by decide))]; exact h3
  · rw [hR.i 19 (hL _ (by decide))]; exact h4
  · rw [hR.i 20 (hL _ (by decide))]; exact h5
  · rw [hR.i 12 (hL _ (by decide))]; exact h6
  · rw [hR.i 91 (hL _ (by decide))]; exact h7
  · rw [hR.i 17 (hL _ (by decide)), hR.ai 16 (hL _ (by decide))]; exact h10
theorem PTr1.fr {t a : Nat} (h : PTr1 x own σ R t a) (hE : Ext own own' σ.1) (hC : Chg x own W σ σ') (hW : 10 + t ∉ W) (e2 : ai R' 2 t = ai R 2 t) (e3 : ai R' 3 t = ai R 3 t) (e4 : ∀ k : Nat, (k : Int) < (ai R 3 t).toInt → al R' 4 (40 * t + k) = al R 4 (40 * t + k)) : PTr1 x own' σ' R' t a := by
  obtain ⟨H, h1, ⟨h2, h3⟩, h4, h5, h6, h7⟩ := h
  refine ⟨H, A10_fr h1 (fun b hb => hC.2.2 b (by omega) ?_), ⟨(ext_tg hE (by omega)).trans h2, (ext_tg hE (by omega)).trans h3⟩, Nat.le_trans h4 hC.1, by rw [e2]; exact h5, by rw [e3]; exact h6, fun k hk => by rw [h7 k hk, e4 k (by omega)]⟩
  rcases hb with q | q
  · rw [q, h2]; exact hW
  · rw [q, h3]; exact hW
theorem PTr.fr {f : Nat → Option Nat} (h : PTr x own σ R f) (hE : Ext own own' σ.1) (hC : Chg x own W σ σ') (hW : ∀ t, t < 4 → 10 + t ∉ W) (hR : Fr L R R') (hL : ∀ k, k ∈ [2, 3, 4] → k ∉ L) : PTr x own' σ' R' f := by
  intro t ht
  rcases h t ht with ⟨h1, h2⟩ | ⟨a, h1, h2⟩
  · exact Or.inl ⟨h1, by rw [hR.ai 3 (hL _ (by decide))]; exact h2⟩
  · exact Or.inr ⟨a, h1, h2.fr hE hC (hW t ht) (by rw [hR.ai 2 (hL _ (by decide))]) (by rw [hR.ai 3 (hL _ (by decide))]) (fun k _ => by rw [hR.al 4 (hL _ (by decide))])⟩
theorem PTt.fr {T : Gs} {nL : Nat} (h : PTt x σ R T nL) (hx : x + 78 ≤ σ.1) (hC : Chg x own W σ σ') (hW : 2 ∉ W) (hR : Fr L R R') (hL : ∀ k, k ∈ [7, 8] → k ∉ L) : PTt x σ' R' T nL := by
  obtain ⟨h1, h2, h3⟩ := h
  refine ⟨A9_fr h1 (fun a ha => hC.2.2 a (by omega) ?_), h2, fun p q => ?_⟩
  · have : ∃ j, j < 16 ∧ a = x + j ∧ sTgs.getD j 4 = 2 := by
      rcases ha with q | q | q | q
      · exact ⟨3, by omega, by omega, rfl⟩
      · exact ⟨4, by omega, by omega, rfl⟩
      · exact ⟨5, by omega, by omega, rfl⟩
      · exact ⟨6, by omega, by omega, rfl⟩
    obtain ⟨j, j1, rfl, j2⟩ := this
    rw [tg_st (by omega), j2]; exact hW
  · rw [hR.ai 7 (hL _ (by decide)), hR.ai 8 (hL _ (by decide))]; exact h3 p q
theorem sTgs_l {l : Nat} (h : l < 5) : sTgs.getD (7 + l) 4 = 5 + l := by
  match l, h with
  | 0, _ => rfl
  | 1, _ => rfl
  | 2, _ => rfl
  | 3, _ => rfl
  | 4, _ => rfl
theorem PLs.fr {l n : Nat} {el : Nat → Nat} (h : PLs x own σ l n el) (hl : l < 5) (hx : x + 78 ≤ σ.1) (hE : Ext own own' σ.1) (hC : Chg x own W σ σ') (hW : 5 + l ∉ W) (hW2 : 15 + l ∉ W) : PLs x own' σ' l n el := by
  obtain ⟨G, h1, h2, h3⟩ := h
  refine ⟨G, AJ_fr h1 (fun a ha => hC.2.2 a (by omega) ?_), h2, ?_⟩
  · rw [ha, show x + 7 + l = x + (7 + l) by omega, tg_st (by omega), sTgs_l hl]; exact hW
  · rcases h3 with ⟨q1, q2⟩ | ⟨d, cap, f, q1, q2, q3, ⟨q4, q5⟩, q6⟩
    · exact Or.inl ⟨q1, by rw [hC.2.1]; exact q2⟩
    · exact Or.inr ⟨d, cap, f, q1, (hC.2.2 d q5 (by rw [q4]; exact hW2)).trans q2, q3, ⟨(ext_tg hE q5).trans q4, Nat.lt_of_lt_of_le q5 hC.1⟩, q6⟩
theorem PC1.fr {nL nN nS i c : Nat} {bl : Nat → Bool} {stale stale' : Int32} (h : PC1 x own σ R nL nN nS bl stale i c) (hE : Ext own own' σ.1) (hC : Chg x own W σ σ') (hW : 20 + i ∉ W) (hR : Fr L R R') (hL : ∀ k, k ∈ KS2 → k ∉ L) (h13 : ai R' 13 i = ai R 13 i) (hs : stale' = 0 → stale = 0) : PC1 x own' σ' R' nL nN nS bl stale' i c := by
  obtain ⟨G, T, nt, h1, h2, ⟨h3, h4⟩, h5, h6, h7, h8⟩ := h
  have hq : ∀ j, j < 7 → σ'.2.1 (c + j) = σ.2.1 (c + j) := fun j hj => hC.2.2 _ (by omega) (by rw [h3 j hj]; exact hW)
  refine ⟨G, T, nt, A1_fr h1 (fun a ha => ?_), A9_fr h2 (fun a ha => ?_), ⟨fun j hj => (ext_tg hE (by omega)).trans (h3 j hj), Nat.le_trans h4 hC.1⟩, ?_, ?_, h7, fun hst => ?_⟩
  · rcases ha with q | q | q
    · rw [q]; exact hq 0 (by omega)
    · rw [q]; exact hq 5 (by omega)
    · rw [q]; exact hq 6 (by omega)
  · rcases ha with q | q | q | q
    · rw [q]; exact hq 1 (by omega)
    · rw [q]; exact hq 2 (by omega)
    · rw [q]; exact hq 3 (by omega)
    · rw [q]; exact hq 4 (by omega)
  · rw [h13, hR.ai 14 (hL _ (by decide))]; exact h5
  · rw [hR.ai 14 (hL _ (by decide)), hR.ai 15 (hL _ (by decide))]; exact h6
  · obtain ⟨g1, g2, g3⟩ := h8 (hs hst)
    refine ⟨g1, ⟨g2.1, fun p q => (g2.2 p q).trans (mc_fr hR hL).symm⟩, ?_⟩
    rw [hR.ai 14 (hL _ (by decide)), hR.ai 15 (hL _ (by decide)), hR.trE (hL _ (by decide)) (hL _ (by decide))]; exact g3
theorem PC.fr {nL nN nS nC : Nat} {bl : Nat → Bool} {stale stale' : Int32} {el : Nat → Nat} (h : PC x own σ R nL nN nS nC bl stale el) (h12 : nC ≤ 12) (hx : x + 78 ≤ σ.1) (hE : Ext own own' σ.1) (hC : Chg x own W σ σ') (hW : 5 ∉ W ∧ 15 ∉ W ∧ ∀ i, i < 12 → 20 + i ∉ W) (hR : Fr L R R') (hL : ∀ k, k ∈ KSH → k ∉ L) (hs : stale' = 0 → stale = 0) : PC x own' σ' R' nL nN nS nC bl stale' el :=
  ⟨h.1.fr (by omega) hx hE hC hW.1 hW.2.1, fun i hi => (h.2 i hi).fr hE hC (hW.2.2 i (by omega)) hR (fun k hk => hL k (KS2_sub k hk)) (by rw [hR.ai 13 (hL _ (by decide))]) hs⟩
theorem PN1.fr {nL i a : Nat} {bl : Nat → Bool} {stale stale' : Int32} (h : PN1 x own σ R nL bl stale i a) (hE : Ext own own' σ.1) (hC : Chg x own W σ σ') (hW : 100 + i ∉ W) (hR : Fr L R R') (hL : ∀ k, k ∈ [7, 8, 51, 52, 53, 54, 55] → k ∉ L) (hs : stale' = 0 → stale = 0) : PN1 x own' σ' R' nL bl stale' i a := by
  obtain ⟨G, h1, ⟨h2, h3⟩, h4, h5⟩ := h
  refine ⟨G, A3_fr h1 (fun b hb => ?_), ⟨(ext_tg hE h3).trans h2, Nat.lt_of_lt_of_le h3 hC.1⟩, ?_, fun hst => ?_⟩
  · rw [hb]; exact hC.2.2 a h3 (by rw [h2]; exact hW)
  · rw [hR.ai 51 (hL _ (by decide)), hR.ai 52 (hL _ (by decide)), hR.ai 53 (hL _ (by decide)), hR.ai 54 (hL _ (by decide)), hR.ai 55 (hL _ (by decide))]; exact h4
  · have e : itm R' nL i ↔ itm R nL i := by unfold itm; rw [hR.trE (hL _ (by decide)) (hL _ (by decide)), hR.ai 53 (hL _ (by decide)), hR.ai 55 (hL _ (by decide))]
    obtain ⟨g1, g2⟩ := h5 (hs hst)
    refine ⟨?_, g2⟩
    rw [g1]; unfold b2i
    by_cases q : itm R nL i
    · rw [if_pos q, if_pos (e.mpr q)]
    · rw [if_neg q, if_neg (fun r => q (e.mp r))]
theorem PN.fr {nL nN : Nat} {bl : Nat → Bool} {stale stale' : Int32} {el : Nat → Nat} (h : PN x own σ R nL nN bl stale el) (h60 : nN ≤ 60) (hx : x + 78 ≤ σ.1) (hE : Ext own own' σ.1) (hC : Chg x own W σ σ') (hW : 7 ∉ W ∧ 17 ∉ W ∧ ∀ i, i < 60 → 100 + i ∉ W) (hR : Fr L R R') (hL : ∀ k, k ∈ [7, 8, 51, 52, 53, 54, 55] → k ∉ L) (hs : stale' = 0 → stale = 0) : PN x own' σ' R' nL nN bl stale' el :=
  ⟨h.1.fr (by omega) hx hE hC hW.1 hW.2.1, fun i hi => (h.2 i hi).fr hE hC (hW.2.2 i (by omega)) hR hL hs⟩
theorem PS.fr {nX : Nat} {el : Nat → Nat} (h : PS x own σ R nX el) (h60 : nX ≤ 60) (hx : x + 78 ≤ σ.1) (hE : Ext own own' σ.1) (hC : Chg x own W σ σ') (hW : 9 ∉ W ∧ 19 ∉ W ∧ ∀ i, i < 60 → 200 + i ∉ W) (hR : Fr L R R') (hL : ∀ k, k ∈ [58, 59] → k ∉ L) : PS x own' σ' R' nX el := by
  refine ⟨h.1.fr (by omega) hx hE hC hW.1 hW.2.1, fun i hi => ?_⟩
  obtain ⟨G, h1, ⟨h2, h3⟩, h4, h5⟩ := h.2 i hi
  refine ⟨G, A8_fr h1 (fun b hb => ?_), ⟨(ext_tg hE h3).trans h2, Nat.lt_of_lt_of_le h3 hC.1⟩, ?_, ?_⟩
  · rw [hb]; exact hC.2.2 _ h3 (by rw [h2]; exact hW.2.2 i (by omega))
  · rw [hR.ai 58 (hL _ (by decide))]; exact h4
  · rw [hR.ai 59 (hL _ (by decide))]; exact h5
theorem PV.fr {nV : Nat} {el : Nat → Nat} (h : PV x own σ R nV el) (hx : x + 78 ≤ σ.1) (hE : Ext own own' σ.1) (hC : Chg x own W σ σ') (hW : 6 ∉ W ∧ 16 ∉ W ∧ 0 ∉ W) (hR : Fr L R R') (hL : 50 ∉ L) : PV x own' σ' R' nV el := by
  refine ⟨h.1.fr (by omega) hx hE hC hW.1 hW.2.1, fun i hi => ?_⟩
  obtain ⟨h1, h2, F, h3, h4⟩ := h.2 i hi
  rw [hR.ai 50 hL]
  exact ⟨h1, h2, F, (hC.2.2 _ (by omega) (by unfold tg; rw [if_pos h2]; exact hW.2.2)).trans h3, h4⟩
theorem PR.fr {RO : Gs → Gs → Nat → Prop} {nT : Nat} {el : Nat → Nat} (h : PR x own σ R RO nT el) (h4 : nT ≤ 4) (hx : x + 78 ≤ σ.1) (hE : Ext own own' σ.1) (hC : Chg x own W σ σ') (hW : 8 ∉ W ∧ 18 ∉ W ∧ ∀ i, i < 4 → 300 + i ∉ W) (hR : Fr L R R') (hL : 33 ∉ L) (hRO : ∀ G i, RO G R i → RO G R' i) : PR x own' σ' R' RO nT el := by
  refine ⟨h.1.fr (by omega) hx hE hC hW.1 hW.2.1, fun i hi => ?_⟩
  obtain ⟨G, h1, ⟨h2, h3⟩, h5, h6⟩ := h.2 i hi
  have hq : ∀ j, j < 9 → σ'.2.1 (el i + j) = σ.2.1 (el i + j) := fun j hj => hC.2.2 _ (by omega) (by rw [h2 j hj]; exact hW.2.2 i (by omega))
  refine ⟨G, A6_fr h1 (fun b hb => ?_), ⟨fun j hj => (ext_tg hE (by omega)).trans (h2 j hj), Nat.le_trans h3 hC.1⟩, by rw [hR.ai 33 hL]; exact h5, hRO G i h6⟩
  have : ∃ j, j < 9 ∧ b = el i + j := ⟨b - el i, by omega, by omega⟩
  obtain ⟨j, j1, rfl⟩ := this
  exact hq j j1
theorem PP.fr {RP : Gs → Gs → Prop} {f : Option Nat} (h : PP x own σ R RP f) (hE : Ext own own' σ.1) (hC : Chg x own W σ σ') (hW : 320 ∉ W) (hR : Fr L R R') (hL : 61 ∉ L) (hRP : ∀ G, RP G R → RP G R') : PP x own' σ' R' RP f := by
  rcases h with ⟨h1, h2⟩ | ⟨a, G, h1, h2, ⟨h3, h4⟩, h5, h6⟩
  · exact Or.inl ⟨h1, by rw [hR.i 61 hL]; exact h2⟩
  · refine Or.inr ⟨a, G, h1, A4_fr h2 (fun b hb => ?_), ⟨fun j hj => (ext_tg hE (by omega)).trans (h3 j hj), Nat.le_trans h4 hC.1⟩, by rw [hR.i 61 hL]; exact h5, hRP G h6⟩
    have : ∃ j, j < 4 ∧ b = a + j := ⟨b - a, by omega, by omega⟩
    obtain ⟨j, j1, rfl⟩ := this
    exact hC.2.2 _ (by omega) (by rw [h3 j j1]; exact hW)
theorem PU.fr (h : PU x σ R) (hx : x + 78 ≤ σ.1) (hC : Chg x own W σ σ') (hW : 3 ∉ W) (hR : Fr L R R') (hL : ∀ k, k ∈ [68, 69, 70, 71, 79] → k ∉ L) : PU x σ' R' := by
  obtain ⟨G, h1, h2⟩ := h
  refine ⟨G, A7_fr h1 (fun a ha => ?_), ?_⟩
  · have : ∃ j, j < 16 ∧ a = x + j ∧ sTgs.getD j 4 = 3 := by
      rcases ha with q | q | q
      · exact ⟨12, by omega, by omega, rfl⟩
      · exact ⟨13, by omega, by omega, rfl⟩
      · exact ⟨14, by omega, by omega, rfl⟩
    obtain ⟨j, j1, rfl, j2⟩ := this
    exact hC.2.2 _ (by omega) (by rw [tg_st (by omega), j2]; exact hW)
  · rw [hR.i 68 (hL _ (by decide)), hR.i 69 (hL _ (by decide)), hR.i 70 (hL _ (by decide)), hR.i 71 (hL _ (by decide)), hR.al 79 (hL _ (by decide))]; exact h2
theorem PA.fr {f : Option Nat} (h : PA x own σ R f) (hE : Ext own own' σ.1) (hC : Chg x own W σ σ') (hW : 321 ∉ W) (hR : Fr L R R') (hL : ∀ k, k ∈ [80, 81, 87, 88, 89, 90] → k ∉ L) : PA x own' σ' R' f := by
  unfold PA at *
  rw [hR.i 87 (hL _ (by decide)), hR.i 88 (hL _ (by decide)), hR.i 89 (hL _ (by decide)), hR.i 90 (hL _ (by decide)), hR.ai 80 (hL _ (by decide)), hR.ai 81 (hL _ (by decide))]
  rcases h with h | ⟨a, G, n, h1, h2, ⟨h3, h4⟩, h5⟩
  · exact Or.inl h
  · refine Or.inr ⟨a, G, n, h1, A0_fr h2 (fun b hb => ?_), ⟨fun j hj => (ext_tg hE (by omega)).trans (h3 j hj), Nat.le_trans h4 hC.1⟩, h5⟩
    have : ∃ j, j < 3 ∧ b = a + j := ⟨b - a, by omega, by omega⟩
    obtain ⟨j, j1, rfl⟩ := this
    exact hC.2.2 _ (by omega) (by rw [h3 j j1]; exact hW)
theorem PD.fr {f : Nat → Option Nat} (h : PD x own σ R f) (hE : Ext own own' σ.1) (hC : Chg x own W σ σ') (hW : ∀ l, l < 4 → 330 + l ∉ W) (hR : Fr L R R') (hL : ∀ k, k ∈ [84, 85, 86] → k ∉ L) : PD x own' σ' R' f := by
  intro l hl
  obtain ⟨a, G, h1, h2, ⟨h3, h4⟩, h5⟩ := h l hl
  refine ⟨a, G, h1, A2_fr h2 (fun b hb => ?_), ⟨(ext_tg hE h4).trans h3, Nat.lt_of_lt_of_le h4 hC.1⟩, ?_⟩
  · rw [hb]; exact hC.2.2 _ h4 (by rw [h3]; exact hW l hl)
  · rw [hR.ai 84 (hL _ (by decide)), hR.ai 85 (hL _ (by decide)), hR.ai 86 (hL _ (by decide))]; exact h5
end
