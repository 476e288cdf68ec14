section
variable {b : Nat} {σ0 : Hs} {m : Nat} {ρ : Hs} {tx : Nat → Int} {n K D : Nat} {nt : Nat → Nat}
def AX (b : Nat) (fX : Hs → Option Hs) (op v : Int32) (s : Hs) (k : Hs → Option Hs) : Option Hs := (fX5_advance_0 s b).bind fun s1 => (isC s1 (b + 6) 8).bind fun _ => (fX s1).bind fun s2 => (isC s2 (b + 6) 8).bind fun _ => (fX6_emit_0 s2 (b + 6) op v).bind k
def AR (m : Nat) (fR : Hs → Option Hs) (w u : Int32) (s : Hs) (k : Hs → Option Hs) : Option Hs := (fX12_next_0 s m).bind fun s1 => (isC s1 m 14).bind fun _ => (fR s1).bind fun s2 => (isC s2 m 14).bind fun _ => (fX12_mark_0 s2 m w u).bind k
theorem l_aft {N0 : Nat} {T : (Evm → Option Int64) → Prop} {fX fR : Hs → Option Hs} (hop : ∀ G H R a mk rm, Lv b tx n K D nt G H R a mk rm → Rs b σ0 m ρ tx n K D nt H R a mk rm N0 T (fX (st6 b σ0 G H)) (fR (eR m ρ R))) {G H R : Gs} {a mk rm : Nat} (h : Lv b tx n K D nt G H R a mk rm) (hk : kA false tx n a ≠ 0 ∧ kA false tx n a ≠ 4) {op v : Int32} {w u : Nat} (hw : w ≤ 16) (hu : u < 1048576) (K1 K2 : Hs → Option Hs) :
    (∃ G2 H2 R2 a2 mk2 rm2 f, AX b fX op v (st6 b σ0 G H) K1 = K1 (st6 b σ0 G2 H2) ∧ AR m fR (Int32.ofNat w) (Int32.ofNat u) (eR m ρ R) K2 = K2 (eR m ρ R2) ∧ Lv b tx n K D nt G2 H2 R2 a2 (mk2 + 1) (rm2 + 1) ∧ (Fr [2, 3, 4] H H2 ∧ Fr PLk R R2) ∧ (a + 1 < a2 ∧ mk2 + (a + 1) ≤ mk + a2 ∧ rm2 + (a + 1) ≤ rm + a2) ∧ (∀ j, j < mk → ai H2 2 j = ai H 2 j ∧ ai H2 3 j = ai H 3 j) ∧ (∀ j, j < rm → ai R2 38 j = ai R 38 j) ∧ XM D (ai H2 2) (ai H2 3) mk mk2 N0 f ∧ RMf D (mW R2) (mV R2) rm rm2 N0 f ∧ T f ∧ (ai H2 2 mk2 = op ∧ ai H2 3 mk2 = v) ∧ (mW R2 rm2 = w ∧ mV R2 rm2 = u)) ∨
    (∃ G2 H2 R2 a2 kd rm2, AX b fX op v (st6 b σ0 G H) K1 = K1 (st6 b σ0 G2 H2) ∧ AR m fR (Int32.ofNat w) (Int32.ofNat u) (eR m ρ R) K2 = K2 (eR m ρ R2) ∧ Dd b tx n K D nt G2 H2 R2 a2 kd rm2 ∧ (Fr [2, 3, 4] H H2 ∧ Fr PLk R R2) ∧ a + 1 ≤ a2 ∧ rm2 + a ≤ rm + a2) := by
  have hKK := h.K500
  have q7 := h.2.2.2.1
  have q8 := h.2.2.2.2
  obtain ⟨G1, R1, a1, a2, a3, a4, a5⟩ := l_adv (σ0 := σ0) (m := m) (ρ := ρ) h hk
  unfold AX AR
  rw [a1, a2, Option.bind_some, Option.bind_some, z6_C st_A6, RisC, Option.bind_some, Option.bind_some]
  rcases hop G1 H R1 (a + 1) mk rm a3 with ⟨G3, H3, R3, a3', mk3, rm3, f1, x1, y1, l1, ⟨fr1, fr2⟩, ⟨u1, u2, u3⟩, o1, o2, m1, n1, hT⟩ | ⟨G3, H3, R3, a3', kd, rm3, x1, y1, dd, ⟨fr1, fr2⟩, u1, u3⟩
  · left
    rw [x1, y1, Option.bind_some, Option.bind_some, z6_C st_A6, RisC, Option.bind_some, Option.bind_some]
    obtain ⟨H7, e1, e2, e3, e4, e5, e6⟩ := l_emit (σ0 := σ0) (m := m) (ρ := ρ) l1 (op := op) (v := v) (w := w) (u := u) (by omega) (by omega)
    rw [e1, e2, Option.bind_some, Option.bind_some]
    have q1 := m1.1
    have q2 := n1.1.1
    refine ⟨G3, H7, _, a3', mk3, rm3, f1, rfl, rfl, e3, ⟨fr1.trans e4, a4.trans (fr2.trans ((mkR_fr _ _ _ _).mono (by decide)))⟩, ⟨u1, u2, u3⟩, fun j hj => ?_, fun j hj => ?_, XM_old m1 (fun j hj => e6 j (by omega)), RM_old n1 (fun j hj => mkR_old (by omega)), hT, e5, mk_w hw hu (mkR_new R3 rm3 w u)⟩
    · have r1 := e6 j (by omega)
      have r2 := o1 j hj
      exact ⟨r1.1.trans r2.1, r1.2.trans r2.2⟩
    · rw [mkR_old (by omega), o2 j hj, congrFun a5 j]
  · right
    rw [x1, y1, Option.bind_some, Option.bind_some, z6_C st_A6, RisC, Option.bind_some, Option.bind_some]
    have ha := dd.1.2.1
    obtain ⟨H2, e1, e2, e3⟩ := dd.em (σ0 := σ0) hKK.1 op v
    obtain ⟨g1, g2⟩ := e2.mark (m := m) (ρ := ρ) (by omega) w u
    rw [e1, g1, Option.bind_some, Option.bind_some]
    exact ⟨G3, H2, _, a3', kd, rm3 + 1, rfl, rfl, g2, ⟨fr1.trans e3, a4.trans (fr2.trans ((mkR_fr _ _ _ _).mono (by decide)))⟩, by omega, by omega⟩
theorem l_loop {S1 S2 : Type} {F1 : (S1 → Option Hs) → S1 → Option Hs} {F2 : (S2 → Option Hs) → S2 → Option Hs} (mk1 : Hs → Nat → S1) (mk2 : Hs → S2) {N0 N : Nat} (hN : N0 + 1 ≤ N) (hN2 : 2 ≤ N) {TT : Option Int64 → Prop} {W : Nat → Prop} {cmb : Nat → Option Int64 → Option Int64 → Option Int64} {fX fR : Hs → Option Hs}
    (hop : ∀ G H R a mk rm, Lv b tx n K D nt G H R a mk rm → Rs b σ0 m ρ tx n K D nt H R a mk rm N0 (fun f => ∀ e, TT (f e)) (fX (st6 b σ0 G H)) (fR (eR m ρ R)))
    (hW : ∀ w, W w → 3 ≤ w ∧ w ≤ 14)
    (hx : ∀ w, W w → ∀ A B x y l l', TT A → TT B → VR x l A → VR y l' B → VR (xcv (Int32.ofNat (w + 2)) 0 x y (lkO l l')).1 (xcv (Int32.ofNat (w + 2)) 0 x y (lkO l l')).2 (cmb w A B))
    (hr : ∀ w, W w → ∀ A B x y l l', TT A → TT B → VR x l A → VR y l' B → VR (rcv w 0 x y (lkO l l')).1 (rcv w 0 x y (lkO l l')).2 (cmb w A B))
    (ht : ∀ w, W w → ∀ A B, TT A → TT B → TT (cmb w A B))
    (hb : ∀ K1 K2 G H R a mk rm cnt, Lv b tx n K D nt G H R a mk rm → cnt ≤ a → (∃ w, W w ∧ (kA false tx n a ≠ 0 ∧ kA false tx n a ≠ 4) ∧ F1 K1 (mk1 (st6 b σ0 G H) cnt) = AX b fX (Int32.ofNat (w + 2)) 0 (st6 b σ0 G H) (fun s => K1 (mk1 s (cnt + 1))) ∧ F2 K2 (mk2 (eR m ρ R)) = AR m fR (Int32.ofNat w) 0 (eR m ρ R) (fun s => K2 (mk2 s))) ∨ (F1 K1 (mk1 (st6 b σ0 G H) cnt) = some (st6 b σ0 G H) ∧ F2 K2 (mk2 (eR m ρ R)) = some (eR m ρ R)))
    (hd : ∀ K1 K2 G H R a kd rm cnt, Dd b tx n K D nt G H R a kd rm → F1 K1 (mk1 (st6 b σ0 G H) cnt) = some (st6 b σ0 G H) ∧ F2 K2 (mk2 (eR m ρ R)) = some (eR m ρ R))
    {H R : Gs} {a mk rm : Nat} {G1 H1 R1 : Gs} {a1 mk1' rm1 : Nat} {f0 : Evm → Option Int64} (l1 : Lv b tx n K D nt G1 H1 R1 a1 mk1' rm1) (fr1 : Fr [2, 3, 4] H H1) (fr2 : Fr PLk R R1) (u1 : a < a1) (u2 : mk1' + a ≤ mk + a1) (u3 : rm1 + a ≤ rm + a1) (o1 : ∀ j, j < mk → ai H1 2 j = ai H 2 j ∧ ai H1 3 j = ai H 3 j) (o2 : ∀ j, j < rm → ai R1 38 j = ai R 38 j) (m1 : XM D (ai H1 2) (ai H1 3) mk mk1' N f0) (n1 : RMf D (mW R1) (mV R1) rm rm1 N f0) (t1 : ∀ e, TT (f0 e)) : Rs b σ0 m ρ tx n K D nt H R a mk rm N (fun f => ∀ e, TT (f e)) (lp F1 fu (mk1 (st6 b σ0 G1 H1) 0)) (lp F2 fu (mk2 (eR m ρ R1))) := by
  have hKK := l1.K500
  refine lp_2 (fun t s1 s2 => ∃ G' H' R' a' cnt, s1 = mk1 (st6 b σ0 G' H') cnt ∧ s2 = mk2 (eR m ρ R') ∧ (Fr [2, 3, 4] H H' ∧ Fr PLk R R') ∧ ((∃ mk' rm' f, t = K + 1 - a' ∧ Lv b tx n K D nt G' H' R' a' mk' rm' ∧ cnt ≤ a' ∧ (a < a' ∧ mk' + a ≤ mk + a' ∧ rm' + a ≤ rm + a') ∧ (∀ j, j < mk → ai H' 2 j = ai H 2 j ∧ ai H' 3 j = ai H 3 j) ∧ (∀ j, j < rm → ai R' 38 j = ai R 38 j) ∧ XM D (ai H' 2) (ai H' 3) mk mk' N f ∧ RMf D (mW R') (mV R') rm rm' N f ∧ ∀ e, TT (f e)) ∨ (∃ kd rm', t = 0 ∧ Dd b tx n K D nt G' H' R' a' kd rm' ∧ a ≤ a' ∧ rm' + a ≤ rm + a'))) (Rs b σ0 m ρ tx n K D nt H R a mk rm N (fun f => ∀ e, TT (f e))) ?_ fu (K + 1 - a1) _ _ ⟨G1, H1, R1, a1, 0, rfl, rfl, ⟨fr1, fr2⟩, Or.inl ⟨mk1', rm1, f0, rfl, l1, by omega, ⟨u1, u2, u3⟩, o1, o2, m1, n1, t1⟩⟩ (by unfold fu; omega)
  rintro K1 K2 t s1 s2 ⟨G', H', R', a', cnt, rfl, rfl, ⟨g1, g2⟩, ⟨mk', rm', f, ht', hl, hc, ⟨v1, v2, v3⟩, p1, p2, m2, n2, tt⟩ | ⟨kd, rm', ht', hdd, v1, v3⟩⟩
  · rcases hb K1 K2 G' H' R' a' mk' rm' cnt hl hc with ⟨w, w1, w2, w3, w4⟩ | ⟨w3, w4⟩
    · have hw := hW w w1
      have haK := hl.1.2.1
      have hlt := kA_lt hl.1.1 haK w2.1
      rcases l_aft hop hl w2 (op := Int32.ofNat (w + 2)) (v := 0) (w := w) (u := 0) (by omega) (by decide) (fun s => K1 (mk1 s (cnt + 1))) (fun s => K2 (mk2 s)) with ⟨G2, H2, R2, a2, mk3, rm3, f2, x1, y1, l2, ⟨h1, h2⟩, ⟨z1, z2, z3⟩, p3, p4, m3, n3, t3, ⟨e1, e2⟩, ⟨e3, e4⟩⟩ | ⟨G2, H2, R2, a2, kd, rm3, x1, y1, dd, ⟨h1, h2⟩, z1, z3⟩
      · left
        have l2K := l2.1.2.1
        have c1 := m2.1
        have c2 := n2.1.1
        have c3 := m3.1
        have c4 := n3.1.1
        refine ⟨K + 1 - a2, _, _, by omega, ⟨G2, H2, R2, a2, cnt + 1, rfl, rfl, ⟨g1.trans h1, g2.trans h2⟩, Or.inl ⟨mk3 + 1, rm3 + 1, fun e => cmb w (f e) (f2 e), rfl, l2, by omega, ⟨by omega, by omega, by omega⟩, fun j hj => ?_, fun j hj => ?_, ?_, ?_, fun e => ht w w1 _ _ (tt e) (t3 e)⟩⟩, by rw [w3, x1], by rw [w4]; exact y1⟩
        · have r1 := p3 j (by omega)
          have r2 := p1 j hj
          exact ⟨r1.1.trans r2.1, r1.2.trans r2.2⟩
        · rw [p4 j (by omega), p2 j hj]
        · refine XM_2 (XM_old m2 p3) m3 (Nat.le_refl N) hN ?_ (fun e x y l l' hx1 hx2 => ?_)
          · rw [e1]
            have : ∀ q : Nat, q < 5 → ¬ Int32.ofNat (w + 2) = Int32.ofNat q := fun q hq => by rw [eqn (by omega) (by omega)]; omega
            exact ⟨this 0 (by decide), this 1 (by decide), this 2 (by decide), this 4 (by decide), this 3 (by decide)⟩
          · rw [e1, e2]; exact hx w w1 _ _ x y l l' (tt e) (t3 e) hx1 hx2
        · refine RM_2 (RM_old n2 p4) n3 (Nat.le_refl N) hN hN2 ?_ (fun e x y l l' hx1 hx2 => ?_)
          · rw [e3]; exact hw
          · rw [e3, e4]; exact hr w w1 _ _ x y l l' (tt e) (t3 e) hx1 hx2
      · left
        exact ⟨0, _, _, by omega, ⟨G2, H2, R2, a2, cnt + 1, rfl, rfl, ⟨g1.trans h1, g2.trans h2⟩, Or.inr ⟨kd, rm3, rfl, dd, by omega, by omega⟩⟩, by rw [w3, x1], by rw [w4]; exact y1⟩
    · right
      rw [w3, w4]
      exact Or.inl ⟨G', H', R', a', mk', rm', f, rfl, rfl, hl, ⟨g1, g2⟩, ⟨v1, v2, v3⟩, p1, p2, m2, n2, tt⟩
  · right
    obtain ⟨w3, w4⟩ := hd K1 K2 G' H' R' a' kd rm' cnt hdd
    rw [w3, w4]
    exact Rs.dead rfl rfl hdd g1 g2 v1 v3
theorem Rs_T {T T' : (Evm → Option Int64) → Prop} {H R : Gs} {a mk rm N : Nat} {X Y : Option Hs} (h : Rs b σ0 m ρ tx n K D nt H R a mk rm N T X Y) (hT : ∀ f, T f → T' f) : Rs b σ0 m ρ tx n K D nt H R a mk rm N T' X Y := by
  rcases h with ⟨G', H', R', a', mk', rm', f, h1, h2, h3, h4, h5, h6, h7, h8, h9, h10⟩ | h
  · exact Or.inl ⟨G', H', R', a', mk', rm', f, h1, h2, h3, h4, h5, h6, h7, h8, h9, hT f h10⟩
  · exact Or.inr h
end
