def nL (R : Gs) : Nat := (fi R 5).toNatClampNeg
def nC (R : Gs) : Nat := (fi R 11).toNatClampNeg
def nS (R : Gs) : Nat := (fi R 12).toNatClampNeg
def nT (R : Gs) : Nat := (fi R 30).toNatClampNeg
def nV (R : Gs) : Nat := (fi R 47).toNatClampNeg
def nN (R : Gs) : Nat := (fi R 48).toNatClampNeg
def nX (R : Gs) : Nat := (fi R 56).toNatClampNeg
def RCl (R : Gs) : Prop := fi R 11 = Int32.ofNat (nC R) ∧ nC R ≤ 12 ∧ (∀ i, i < nC R → 0 ≤ (ai R 13 i).toInt ∧ (ai R 13 i).toInt ≤ 3) ∧ ∀ i, i < nS R → 0 ≤ (ai R 14 i).toInt ∧ (ai R 14 i).toInt < nC R
def RSv (R : Gs) : Prop := fi R 47 = Int32.ofNat (nV R) ∧ nV R ≤ 8
def RNx (R : Gs) : Prop := (∀ i, i < nN R → (0 ≤ (ai R 51 i).toInt ∧ (ai R 51 i).toInt < nV R) ∧ 0 ≤ (ai R 52 i).toInt ∧ (ai R 52 i).toInt < nC R) ∧ fi R 49 = if nN R = 0 then 0 else ai R 55 (nN R - 1)
def RTx (R : Gs) : Prop := (fi R 30 = Int32.ofNat (nT R) ∧ TxA (nT R) (ai R 34) (ai R 35) (ai R 36)) ∧ nT R ≤ 4
def RSx (R : Gs) : Prop := fi R 56 = Int32.ofNat (nX R) ∧ nX R ≤ 60 ∧ (∀ i, i < nX R → (0 ≤ (ai R 58 i).toInt ∧ (ai R 58 i).toInt < nC R) ∧ 0 ≤ (ai R 59 i).toInt ∧ (ai R 59 i).toInt ≤ 900000000) ∧ Asc (nX R) (ai R 59) ∧ fi R 57 = if nX R = 0 then 0 else ai R 59 (nX R - 1)
def RTp (R : Gs) : Prop := ∃ n, n ≤ 500 ∧ fi R 17 = Int32.ofNat n
def RTs (R : Gs) : Prop := ∀ t, t < 4 → 0 ≤ (ai R 3 t).toInt → 0 ≤ (ai R 2 t).toInt ∧ (ai R 2 t).toInt ≤ 3
def RLd (R : Gs) : Prop := ∀ l, l < 4 → (-720 ≤ (ai R 84 l).toInt ∧ (ai R 84 l).toInt ≤ 840) ∧ 0 ≤ (ai R 85 l).toInt ∧ (ai R 85 l).toInt ≤ (ai R 86 l).toInt ∧ (ai R 86 l).toInt ≤ 364
def hv (L U : Nat → Int32) (v : Int) : Nat → Nat
  | 0 => 0
  | n + 1 => hv L U v n + if (L n).toInt ≤ v ∧ v ≤ (U n).toInt then 1 else 0
def RAn (R : Gs) : Prop := ∃ n, n ≤ 12 ∧ fi R 87 = Int32.ofNat n ∧ ∀ k, k < n → -1000000 ≤ (ai R 80 k).toInt ∧ (ai R 80 k).toInt ≤ (ai R 81 k).toInt ∧ (ai R 81 k).toInt ≤ 1000000 ∧ (hv (ai R 80) (ai R 81) (ai R 80 k).toInt n : Int) ≤ (fi R 90).toInt
def RFw (R : Gs) : Prop := -1 ≤ (fi R 91).toInt ∧ (fi R 91).toInt ≤ 31
def RW (R : Gs) : Prop := RLp R (nL R) ∧ RN R (nN R) ∧ RSt R (nS R) ∧ RCl R ∧ RSv R ∧ RNx R ∧ RTx R ∧ RSx R ∧ RTp R ∧ (RT R ∧ RTs R) ∧ RLd R ∧ RAn R ∧ RFw R
theorem RW.fr {R R' : Gs} (h : RW R) (hF : Fr SCR R R') : RW R' ∧ (nL R' = nL R ∧ nC R' = nC R ∧ nS R' = nS R ∧ nT R' = nT R ∧ nV R' = nV R ∧ nN R' = nN R ∧ nX R' = nX R) := by
  have q : nL R' = nL R ∧ nC R' = nC R ∧ nS R' = nS R ∧ nT R' = nT R ∧ nV R' = nV R ∧ nN R' = nN R ∧ nX R' = nX R := by
    unfold nL nC nS nT nV nN nX
    rw [hF.i 5 (by decide), hF.i 11 (by decide), hF.i 12 (by decide), hF.i 30 (by decide), hF.i 47 (by decide), hF.i 48 (by decide), hF.i 56 (by decide)]
    exact ⟨rfl, rfl, rfl, rfl, rfl, rfl, rfl⟩
  refine ⟨?_, q⟩
  unfold RW RLp RN RSt RCl RSv RNx RTx RSx RTp RT RTs RLd RAn RFw at *
  rw [q.1, q.2.1, q.2.2.1, q.2.2.2.1, q.2.2.2.2.1, q.2.2.2.2.2.1, q.2.2.2.2.2.2]
  rw [hF.i 5 (by decide), hF.i 11 (by decide), hF.i 12 (by decide), hF.i 17 (by decide), hF.i 30 (by decide), hF.i 47 (by decide), hF.i 48 (by decide), hF.i 49 (by decide), hF.i 56 (by decide), hF.i 57 (by decide), hF.i 87 (by decide), hF.i 90 (by decide), hF.i 91 (by decide)]
  rw [hF.ai 2 (by decide), hF.ai 3 (by decide), hF.ai 7 (by decide), hF.ai 8 (by decide), hF.ai 13 (by decide), hF.ai 14 (by decide), hF.ai 15 (by decide), hF.ai 34 (by decide), hF.ai 35 (by decide), hF.ai 36 (by decide), hF.ai 51 (by decide), hF.ai 52 (by decide), hF.ai 53 (by decide), hF.ai 54 (by decide), hF.ai 55 (by decide), hF.ai 58 (by decide), hF.ai 59 (by decide), hF.ai 80 (by decide), hF.ai 81 (by decide), hF.ai 84 (by decide), hF.ai 85 (by decide), hF.ai 86 (by decide)]
  exact h
def PO (x : Nat) (σ : Hs) : Prop := ∃ (vS : Nat → Nat) (ad : Nat → Nat), (σ.2.2 0 < x ∧ σ.2.1 (σ.2.2 0) = .inr (500, fun _ => .ref 0)) ∧ (σ.2.2 1 < x ∧ σ.2.1 (σ.2.2 1) = .inr (640, fun j => .ref (ad j))) ∧ (∀ i, i < 4 → (σ.2.2 (10 + i) < x ∧ σ.2.1 (σ.2.2 (10 + i)) = .inr (600 + i, fun k => if k = 0 then .ref (vS i) else .int 0)) ∧ vS i < x ∧ σ.2.1 (vS i) = .inr (610 + i, fun j => .int (btx i j))) ∧ ∀ i, i < 128 → ad (128 + i) < x ∧ σ.2.1 (ad (128 + i)) = .inr (700 + i, fun _ => .int (vb_c (128 + i)))
theorem PO.fr {x : Nat} {own : Nat → Nat} {W : List Nat} {σ σ' : Hs} (h : PO x σ) (hx : x + 78 ≤ σ.1) (hC : Chg x own W σ σ') (hW : 0 ∉ W) : PO x σ' := by
  have hq : ∀ a, a < x → σ'.2.1 a = σ.2.1 a := fun a ha => hC.2.2 a (by omega) (by unfold tg; rw [if_pos ha]; exact hW)
  obtain ⟨vS, ad, ⟨h1, h2⟩, ⟨h3, h4⟩, h5, h6⟩ := h
  refine ⟨vS, ad, ?_, ?_, ?_, ?_⟩
  · rw [hC.2.1, hq _ h1]; exact ⟨h1, h2⟩
  · rw [hC.2.1, hq _ h3]; exact ⟨h3, h4⟩
  · intro i hi
    obtain ⟨⟨g1, g2⟩, g3, g4⟩ := h5 i hi
    rw [hC.2.1, hq _ g1, hq _ g3]; exact ⟨⟨g1, g2⟩, g3, g4⟩
  · intro i hi
    obtain ⟨g1, g2⟩ := h6 i hi
    rw [hq _ g1]; exact ⟨g1, g2⟩
abbrev Par : Type := (Gs → Gs → Nat → Prop) × (Gs → Gs → Prop) × (Gs → Nat → Bool)
def KRO : List Nat := [33, 34, 35, 36, 39]
def KRP : List Nat := [61, 72, 73, 74]
def Par.ok (P : Par) : Prop := (∀ L R R', Fr L R R' → (∀ k, k ∈ KRO → k ∉ L) → ∀ G i, P.1 G R i → P.1 G R' i) ∧ (∀ L R R', Fr L R R' → (∀ k, k ∈ KRP → k ∉ L) → ∀ G, P.2.1 G R → P.2.1 G R') ∧ ∀ R R', Fr SCR R R' → P.2.2 R' = P.2.2 R
def XWg (P : Par) (x : Nat) (own : Nat → Nat) (σ : Hs) (R : Gs) (st : Int32) (G T : Gs) (eC eV eN eT eS : Nat → Nat) : Prop :=
  x + 78 ≤ σ.1 ∧ PO x σ ∧ PX x σ R G st ∧ PTr x own σ R (ar G 1) ∧ PTt x σ R T (nL R) ∧ PC x own σ R (nL R) (nN R) (nS R) (nC R) (P.2.2 R) (fi G 18) eC ∧ PV x own σ R (nV R) eV ∧ PN x own σ R (nL R) (nN R) (P.2.2 R) (fi G 18) eN ∧ PR x own σ R P.1 (nT R) eT ∧ PS x own σ R (nX R) eS ∧ PP x own σ R P.2.1 (fr G 13) ∧ PU x σ R ∧ PA x own σ R (fr G 15) ∧ PD x own σ R (ar G 17)
def XW (P : Par) (x : Nat) (own : Nat → Nat) (σ : Hs) (R : Gs) (st : Int32) : Prop := ∃ G T eC eV eN eT eS, XWg P x own σ R st G T eC eV eN eT eS
theorem nin2 {k : Nat} (h : 2 < k) : k ∉ [1, 2] := by
  intro q; rcases List.mem_cons.mp q with r | r
  · omega
  · have := List.mem_singleton.mp r; omega
theorem XWg.fr {P : Par} (hP : P.ok) {x : Nat} {own : Nat → Nat} {σ σ' : Hs} {R R' : Gs} {st st' : Int32} {G G' T T' : Gs} {eC eV eN eT eS : Nat → Nat} (h : XWg P x own σ R st G T eC eV eN eT eS) (hW : RW R) (hC : Chg x own [1, 2] σ σ') (hX : PX x σ' R' G' st') (hT : PTt x σ' R' T' (nL R)) (hR : Fr SCR R R') (hG : (ar G' 1 = ar G 1 ∧ ar G' 17 = ar G 17 ∧ fr G' 13 = fr G 13 ∧ fr G' 15 = fr G 15) ∧ (fi G' 18 = 0 → fi G 18 = 0)) : XWg P x own σ' R' st' G' T' eC eV eN eT eS := by
  obtain ⟨h0, h1, h2, h3, h4, h5, h6, h7, h8, h9, h10, h11, h12, h13⟩ := h
  obtain ⟨w1, w2, w3, w4, w5, w6, w7, w8, w9⟩ := hW
  obtain ⟨-, q1, q2, q3, q4, q5, q6, q7⟩ := RW.fr ⟨w1, w2, w3, w4, w5, w6, w7, w8, w9⟩ hR
  have p1 := hP.1 SCR R R' hR (by decide)
  have p2 := hP.2.1 SCR R R' hR (by decide)
  have p3 := hP.2.2 R R' hR
  have hE : Ext own own σ.1 := fun _ _ => rfl
  obtain ⟨⟨g1, g2, g3, g4⟩, g5⟩ := hG
  unfold XWg
  rw [q1, q2, q3, q4, q5, q6, q7, g1, g2, g3, g4, p3]
  refine ⟨Nat.le_trans h0 hC.1, h1.fr h0 hC (by decide), hX, h3.fr hE hC (fun t ht => nin2 (by omega)) hR (by decide), hT, h5.fr w4.2.1 h0 hE hC ⟨by decide, by decide, fun t ht => nin2 (by omega)⟩ hR (by decide) g5, h6.fr h0 hE hC (by decide) hR (by decide), h7.fr w2.2.1 h0 hE hC ⟨by decide, by decide, fun t ht => nin2 (by omega)⟩ hR (by decide) g5, h8.fr w7.2 h0 hE hC ⟨by decide, by decide, fun t ht => nin2 (by omega)⟩ hR (by decide) p1, h9.fr w8.2.1 h0 hE hC ⟨by decide, by decide, fun t ht => nin2 (by omega)⟩ hR (by decide), h10.fr hE hC (by decide) hR (by decide) p2, h11.fr h0 hC (by decide) hR (by decide), h12.fr hE hC (by decide) hR (by decide), h13.fr hE hC (fun t ht => nin2 (by omega)) hR (by decide)⟩
theorem tg_x {x : Nat} {own : Nat → Nat} {a : Nat} (ha : a = x ∨ a = x + 1 ∨ a = x + 2 ∨ a = x + 15) : tg x own a = 1 := by
  rcases ha with q | q | q | q
  · rw [q]; exact tg_st (j := 0) (by omega)
  · rw [q]; exact tg_st (j := 1) (by omega)
  · rw [q]; exact tg_st (j := 2) (by omega)
  · rw [q]; exact tg_st (j := 15) (by omega)
theorem tg_t {x : Nat} {own : Nat → Nat} {a : Nat} (ha : a = x + 3 ∨ a = x + 3 + 1 ∨ a = x + 3 + 2 ∨ a = x + 3 + 3) : tg x own a = 2 := by
  rcases ha with q | q | q | q
  · rw [q]; exact tg_st (j := 3) (by omega)
  · rw [q]; exact tg_st (j := 4) (by omega)
  · rw [q]; exact tg_st (j := 5) (by omega)
  · rw [q]; exact tg_st (j := 6) (by omega)
theorem e11_chg {x : Nat} {own : Nat → Nat} {W : List Nat} (σ : Hs) (G : Gs) (hW : 1 ∈ W) : Chg x own W σ (e11 x σ G) := ⟨Nat.le_refl _, rfl, fun a _ ha => e11_out σ G (fun q => ha (by rw [tg_x q]; exact hW))⟩
theorem e9_chg {x : Nat} {own : Nat → Nat} {W : List Nat} (σ : Hs) (G : Gs) (hW : 2 ∈ W) : Chg x own W σ (e9 (x + 3) σ G) := ⟨Nat.le_refl _, rfl, fun a _ ha => e9_out σ G (fun q => ha (by rw [tg_t q]; exact hW))⟩
theorem PX.st {x : Nat} {σ : Hs} {R G : Gs} {st : Int32} (h : PX x σ R G st) (v : Int32) : PX x (e11 x σ (sfi G 0 v)) R (sfi G 0 v) v := ⟨A11_self _ _, rfl, h.2.2⟩
theorem XWg.st {P : Par} (hP : P.ok) {x : Nat} {own : Nat → Nat} {σ : Hs} {R : Gs} {st : Int32} {G T : Gs} {eC eV eN eT eS : Nat → Nat} (h : XWg P x own σ R st G T eC eV eN eT eS) (hW : RW R) (v : Int32) : XWg P x own (e11 x σ (sfi G 0 v)) R v (sfi G 0 v) T eC eV eN eT eS := by
  have h' := h
  obtain ⟨h0, h1, h2, h3, h4, -⟩ := h'
  refine h.fr hP hW (e11_chg σ _ (by decide)) (h2.st v) (h4.fr h0 (e11_chg (own := own) (W := [1]) σ _ (by decide)) (by decide) (Fr.refl SCR R) (by decide)) (Fr.refl _ _) ⟨⟨rfl, rfl, rfl, rfl⟩, fun q => q⟩
theorem x_isTray (σ : Hs) (t : Int32) : fX11_isTray_0 σ t = some (b2i (0 ≤ t.toInt ∧ t.toInt < 4)) := by
  unfold fX11_isTray_0 b2i
  simp only [lt32, le32, i0, i4]
  (repeat' split) <;> (first | rfl | omega)
theorem x_isWithin (σ : Hs) (v a b : Int32) : fX11_isWithin_0 σ v a b = some (b2i (a.toInt ≤ v.toInt ∧ v.toInt ≤ b.toInt)) := by
  unfold fX11_isWithin_0 b2i
  simp only [lt32]
  (repeat' split) <;> (first | rfl | omega)
theorem x_isCount (σ : Hs) (v : Int32) : fX11_isCount_0 σ v = some (b2i (0 ≤ v.toInt ∧ v.toInt ≤ 900000000)) := by
  unfold fX11_isCount_0; rw [x_isWithin, Option.bind_some, bb_b]; rfl
theorem x_isDay (σ : Hs) (v : Int32) : fX11_isDay_0 σ v = some (b2i (0 ≤ v.toInt ∧ v.toInt ≤ 9999)) := by
  unfold fX11_isDay_0; rw [x_isWithin, Option.bind_some, bb_b]; rfl
def Kp (x : Nat) (σ σ' : Hs) : Prop := σ'.2.2 = σ.2.2 ∧ ∀ a, x + 20 ≤ a → a < x + 78 → σ'.2.1 a = σ.2.1 a
theorem Chg.kp {x : Nat} {own : Nat → Nat} {W : List Nat} {σ σ' : Hs} (h : Chg x own W σ σ') (hx : x + 78 ≤ σ.1) (hW : 4 ∉ W) : Kp x σ σ' := ⟨h.2.1, fun a h1 h2 => h.2.2 a (by omega) (by
  have e : tg x own a = 4 := by
    unfold tg; rw [if_neg (by omega), if_pos h2, List.getD_eq_getElem?_getD, List.getElem?_eq_none (by show 20 ≤ _; omega)]; rfl
  rw [e]; exact hW)⟩
def KI (P : Par) (x : Nat) (σ : Hs) (a : Int32) (st : Int32) (R' : Gs) (X : Option (Int32 × Hs)) : Prop := ∃ σ' own', X = some (a, σ') ∧ XW P x own' σ' R' st ∧ Kp x σ σ'
def KL (P : Par) (x : Nat) (σ : Hs) (a : Int64) (st : Int32) (R' : Gs) (X : Option (Int64 × Hs)) : Prop := ∃ σ' own', X = some (a, σ') ∧ XW P x own' σ' R' st ∧ Kp x σ σ'
section
variable {P : Par} (hP : P.ok) {x : Nat} {own : Nat → Nat} {σ : Hs} {R : Gs} {st : Int32}
theorem PX.at {G : Gs} (h : PX x σ R G st) : A11 x G σ := h.1
theorem k_status (h : XW P x own σ R st) : fX11_status_0 σ x = some st := by
  obtain ⟨G, T, eC, eV, eN, eT, eS, h⟩ := h
  have hA := h.2.2.1.at
  unfold fX11_status_0
  rw [z11_g0 hA, Option.bind_some, h.2.2.1.2.1]
theorem KI.no (hP : P.ok) {G T : Gs} {eC eV eN eT eS : Nat → Nat} (h : XWg P x own σ R st G T eC eV eN eT eS) (hW : RW R) (a v : Int32) : KI P x σ a v R (some (a, e11 x σ (sfi G 0 v))) :=
  ⟨_, own, rfl, ⟨_, _, _, _, _, _, _, h.st hP hW v⟩, (e11_chg (own := own) (W := [1]) σ _ (by decide)).kp h.1 (by decide)⟩
theorem KL.no (hP : P.ok) {G T : Gs} {eC eV eN eT eS : Nat → Nat} (h : XWg P x own σ R st G T eC eV eN eT eS) (hW : RW R) (a : Int64) (v : Int32) : KL P x σ a v R (some (a, e11 x σ (sfi G 0 v))) :=
  ⟨_, own, rfl, ⟨_, _, _, _, _, _, _, h.st hP hW v⟩, (e11_chg (own := own) (W := [1]) σ _ (by decide)).kp h.1 (by decide)⟩
def rf (st a : Int32) : Int32 := if st = 0 then a else -1
def rfL (st : Int32) (a : Int64) : Int64 := if st = 0 then a else -1
theorem k_civil22 (hP : P.ok) (hW : RW R) {G T : Gs} {eC eV eN eT eS : Nat → Nat} (h : XWg P x own σ R st G T eC eV eN eT eS) (c w v : Int32) (hv : v ≠ 0 ∨ (v = 0 ∧ 0 ≤ c.toInt ∧ c.toInt ≤ 900000000)) : KI P x σ (rf v (a_civil (tru R (nL R)) c w)) v R (fX11_civil_22 σ x c w x v) := by
  have hA := h.2.2.1.at
  unfold fX11_civil_22
  have hA2 : A11 x (sfi G 0 v) (e11 x σ (sfi G 0 v)) := A11_self _ _
  simp only [z11_p0 hA, Option.bind_some, z11_g0 hA2, q_fi_sfi, q_fl_sfi, q_fr_sfi, q_ai_sfi, q_al_sfi, q_ar_sfi, q_ln_sfi, q_fi_sfl, q_fl_sfl, q_fr_sfl, q_ai_sfl, q_al_sfl, q_ar_sfl, q_ln_sfl, q_fi_sfr, q_fl_sfr, q_fr_sfr, q_ai_sfr, q_al_sfr, q_ar_sfr, q_ln_sfr, q_fi_sai, q_fl_sai, q_fr_sai, q_ai_sai, q_al_sai, q_ar_sai, q_ln_sai, q_fi_sal, q_fl_sal, q_fr_sal, q_ai_sal, q_al_sal, q_ar_sal, q_ln_sal, q_fi_sar, q_fl_sar, q_fr_sar, q_ai_sar, q_al_sar, q_ar_sar, q_ln_sar, reduceIte, Nat.reduceEqDiff]
  rcases hv with hv | ⟨hv, hc⟩
  · rw [if_neg hv, show rf v (a_civil (tru R (nL R)) c w) = -1 from if_neg hv]; exact KI.no hP h hW _ _
  · rw [if_pos hv, show rf v (a_civil (tru R (nL R)) c w) = a_civil (tru R (nL R)) c w from if_pos hv]
    have hs := h.st hP hW v
    obtain ⟨h0, h1, h2, h3, h4, -⟩ := id hs
    have hp : (tru R (nL R)).Perm (tt T (nL R)) := mm_perm hW.1.2.2.2.2 (h4.2.1.1.tok.2.2) (fun p q => (h4.2.2 p q).symm)
    obtain ⟨T', t1, t2, t3, t4, t5⟩ := x9_turnTo (b := x + 3) (σ := e11 x σ (sfi G 0 v)) h4.2.1 c.toInt64 (by rw [up64]; omega) (by rw [up64]; omega)
    rw [show e9 (x + 3) (e11 x σ (sfi G 0 v)) T = e11 x σ (sfi G 0 v) from h4.1] at t1
    rw [up64] at t3 t4
    have hA3 : A11 x (sfi G 0 v) (e9 (x + 3) (e11 x σ (sfi G 0 v)) T') := A11_fr hA2 (fun a ha => e9_out _ _ (by omega))
    have hT3 : A9 (x + 3) T' (e9 (x + 3) (e11 x σ (sfi G 0 v)) T') := A9_self _ _
    simp only [z11_g6 hA2, z9_C h4.1, Option.bind_some, t1, z11_g6 hA3, z9_g4 hT3, z9_g5 hT3]
    have hC3 : Chg x own [2] (e11 x σ (sfi G 0 v)) (e9 (x + 3) (e11 x σ (sfi G 0 v)) T') := e9_chg _ _ (by decide)
    have hX3 : XWg P x own (e9 (x + 3) (e11 x σ (sfi G 0 v)) T') R v (sfi G 0 v) T' eC eV eN eT eS := by
      obtain ⟨tv1, tv2⟩ := t2.tv h4.2.1
      refine hs.fr hP hW (hC3.mono (by decide)) (h2.fr h0 hC3 (by decide) (Fr.refl SCR R) (by decide)) ⟨hT3, tv1, fun p q => ?_⟩ (Fr.refl _ _) ⟨⟨rfl, rfl, rfl, rfl⟩, fun q => q⟩
      rw [t2.ai 0 (by decide), t2.ai 1 (by decide)]; exact h4.2.2 p q
    have hK : Kp x σ (e9 (x + 3) (e11 x σ (sfi G 0 v)) T') := ((e11_chg (own := own) (W := [1, 2]) σ _ (by decide)).trans (hC3.mono (by decide))).kp h.1 (by decide)
    by_cases hw : w = 0
    · rw [if_pos hw]
      refine ⟨_, own, ?_, ⟨_, _, _, _, _, _, _, hX3⟩, hK⟩
      unfold a_civil; rw [if_pos hw, civ_perm hp, ofI t3]
    · rw [if_neg hw]
      refine ⟨_, own, ?_, ⟨_, _, _, _, _, _, _, hX3⟩, hK⟩
      unfold a_civil; rw [if_neg hw, bg_perm hp, civ_perm hp, ofI t4]
theorem k_civil (hP : P.ok) (hW : RW R) (h : XW P x own σ R st) (c w : Int32) : KI P x σ (rf (st_civil c w) (a_civil (tru R (nL R)) c w)) (st_civil c w) R (fX11_civil_0 σ x c w) := by
  obtain ⟨G, T, eC, eV, eN, eT, eS, h⟩ := h
  unfold fX11_civil_0
  simp only [x_isCount, x_isWithin, Option.bind_some, b2i_0, i0, i1]
  by_cases h1 : 0 ≤ c.toInt ∧ c.toInt ≤ 900000000
  · rw [if_neg (by simpa using h1)]
    by_cases h2 : 0 ≤ w.toInt ∧ w.toInt ≤ 1
    · rw [if_neg (by simpa using h2)]
      have e : st_civil c w = 0 := (by unfold st_civil; (repeat' split) <;> (first | rfl | omega))
      rw [e]
      exact k_civil22 hP hW h c w 0 (Or.inr ⟨rfl, h1⟩)
    · rw [if_pos h2]
      have e : st_civil c w = 5 := (by unfold st_civil; (repeat' split) <;> (first | rfl | omega))
      rw [e]
      exact k_civil22 hP hW h c w 5 (Or.inl (by decide))
  · rw [if_pos h1]
    have e : st_civil c w = 5 := (by unfold st_civil; (repeat' split) <;> (first | rfl | omega))
    rw [e]
    exact k_civil22 hP hW h c w 5 (Or.inl (by decide))
end
