section
variable {R R' : Gs}
theorem bP_fr {L : List Nat} (hF : Fr L R R') (hL : ∀ k, k ∈ KBL → k ∉ L) (i : Nat) : bP R' i ↔ bP R i := by
  have hq : ∀ k, k ∈ KBL → k ∉ L := hL
  have ed : dyB R' i = dyB R i := by
    unfold dyB tru nL
    rw [hF.i 5 (hq _ (by decide)), hF.ai 7 (hq _ (by decide)), hF.ai 8 (hq _ (by decide)), hF.ai 55 (hq _ (by decide))]
  have ev : vrB R' i = vrB R i := by
    unfold vrB
    rw [ed, hF.ai 51 (hq _ (by decide)), hF.ai 50 (hq _ (by decide)), hF.ai 53 (hq _ (by decide)), hF.ai 54 (hq _ (by decide)), hF.ai 52 (hq _ (by decide)), hF.ai 13 (hq _ (by decide))]
  unfold bP
  rw [ed, ev]
  unfold nN nT
  rw [hF.i 48 (hq _ (by decide)), hF.i 30 (hq _ (by decide)), hF.ai 33 (hq _ (by decide)), hF.ai 34 (hq _ (by decide)), hF.ai 35 (hq _ (by decide)), hF.ai 36 (hq _ (by decide)), hF.al 39 (hq _ (by decide))]
theorem bl_eq {bl : Gs → Nat → Bool} (hb : ∀ R i, bl R i = true ↔ bP R i) (h : ∀ i, bP R' i ↔ bP R i) : bl R' = bl R := by
  funext i
  have q := (hb R' i).trans ((h i).trans (hb R i).symm)
  cases h1 : bl R' i <;> cases h2 : bl R i
  · rfl
  · exact absurd (q.mpr h2) (by rw [h1]; decide)
  · exact absurd (q.mp h1) (by rw [h2]; decide)
  · rfl
theorem RO_fr {L : List Nat} (hF : Fr L R R') (hL : ∀ k, k ∈ KRO → k ∉ L) {G : Gs} {t : Nat} (h : RO G R t) : RO G R' t := by
  unfold RO at *
  rw [hF.ai 34 (hL _ (by decide)), hF.ai 35 (hL _ (by decide)), hF.ai 36 (hL _ (by decide)), hF.al 39 (hL _ (by decide))]
  exact h
theorem bP_clock (hW : RW R) (w : Int32) (i : Nat) : bP (u_clock R (nC R) w) i ↔ bP R i := by
  have e : i < nN R → vrB (u_clock R (nC R) w) i = vrB R i := by
    intro hi
    have h2 := (hW.2.2.2.2.2.1.1 i hi).2
    have k52 : (ai R 52 i).toNatClampNeg < nC R := by have : (ai R 52 i).toNatClampNeg = (ai R 52 i).toInt.toNat := rfl; omega
    have q : ai (u_clock R (nC R) w) 13 (ai R 52 i).toNatClampNeg = ai R 13 (ai R 52 i).toNatClampNeg := up_ne _ _ _ _ (by omega)
    unfold vrB
    rw [show ai (u_clock R (nC R) w) 52 = ai R 52 from rfl, q]
    rfl
  constructor
  · intro h hi
    have := h hi
    rw [e hi] at this
    exact this
  · intro h hi
    rw [e hi]
    exact h hi
theorem bP_server (hW : RW R) (w : Int32) (i : Nat) : bP (u_server R (nV R) w) i ↔ bP R i := by
  have e : i < nN R → vrB (u_server R (nV R) w) i = vrB R i := by
    intro hi
    have h2 := (hW.2.2.2.2.2.1.1 i hi).1
    have k51 : (ai R 51 i).toNatClampNeg < nV R := by have : (ai R 51 i).toNatClampNeg = (ai R 51 i).toInt.toNat := rfl; omega
    have q : ai (u_server R (nV R) w) 50 (ai R 51 i).toNatClampNeg = ai R 50 (ai R 51 i).toNatClampNeg := up_ne _ _ _ _ (by omega)
    unfold vrB
    rw [show ai (u_server R (nV R) w) 51 = ai R 51 from rfl, q]
    rfl
  constructor
  · intro h hi
    have := h hi
    rw [e hi] at this
    exact this
  · intro h hi
    rw [e hi]
    exact h hi
theorem Par_all {RP : Gs → Gs → Prop} (hRP : ∀ L R R', Fr L R R' → (∀ k, k ∈ KRP → k ∉ L) → ∀ G, RP G R → RP G R') {bl : Gs → Nat → Bool} (hb : ∀ R i, bl R i = true ↔ bP R i) : Par.ok (RO, RP, bl) ∧ Par.bl (RO, RP, bl) ∧ Par.bk (RO, RP, bl) ∧ ∀ x, Bel (RO, RP, bl) x := by
  refine ⟨⟨fun L R R' hF hL G i h => RO_fr hF hL h, hRP, fun R R' hF => bl_eq hb (bP_fr hF (by decide))⟩, fun R hW => ⟨fun t s n => ?_, fun t k v => ?_, fun w => bl_eq hb (bP_clock hW w), fun s => bl_eq hb (bP_server hW s), fun c t => ?_, fun l o f t => ?_⟩, fun L R R' hF hL => bl_eq hb (bP_fr hF hL), fun x R hW => ⟨KB_all rfl hb hW, fun ρ => HB_all hb hW _ ρ⟩⟩
  · exact bl_eq hb (bP_fr (L := [2, 3, 4]) ((((Fr.refl _ R).sai (k := 2) (by decide) _).sai (k := 3) (by decide) _).sal (k := 4) (by decide) _) (by decide))
  · exact bl_eq hb (bP_fr (L := [4]) ((Fr.refl _ R).sal (k := 4) (by decide) _) (by decide))
  · exact bl_eq hb (bP_fr (L := [56, 57, 58, 59]) (((((Fr.refl _ R).sai (k := 58) (by decide) _).sai (k := 59) (by decide) _).sfi (k := 56) (by decide) _).sfi (k := 57) (by decide) _) (by decide))
  · exact bl_eq hb (bP_fr (L := [84, 85, 86]) ((((Fr.refl _ R).sai (k := 84) (by decide) _).sai (k := 85) (by decide) _).sai (k := 86) (by decide) _) (by decide))
end
