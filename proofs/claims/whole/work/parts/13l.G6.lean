def RdK (b : Nat) (G : Gs) (pr : Bool) (tx : Nat → Int) (n K : Nat) (σ : Hs) : Prop := RdT b G pr tx n σ ∧ K ≤ n ∧ tS tx n K = n ∧ (∀ k, k < K → tS tx n k < n) ∧ fi G 7 = Int32.ofNat (K + 1) ∧ ∀ j, j ≤ K → TkB G pr tx n j
section
variable {b : Nat} {G : Gs} {pr : Bool} {tx : Nat → Int} {n : Nat} {σ : Hs}
theorem x_cut (h : RdT b G pr tx n σ) (h7 : fi G 7 = 0) (htx : ∀ j, 0 ≤ tx j ∧ tx j ≤ 255) : ∃ G' K, fX5_cut_0 σ b = some (e5 b σ G') ∧ Fr [3, 4, 5, 6, 7] G G' ∧ RdK b G' pr tx n K (e5 b σ G') ∧ ∀ j, j ≤ K → ai G' 3 j = Int32.ofNat (tK pr tx n (tS tx n j)) := by
  have hn := h.2.1
  have hself : e5 b σ G = σ := h.1
  have h0 : RdI b G G pr tx n 0 0 σ := ⟨h, Fr.refl _ _, Nat.zero_le _, h7, rfl, fun j hj => absurd hj (by omega), fun j hj => absurd hj (by omega)⟩
  unfold fX5_cut_0 fX5_cut_2
  have key := lp_inv (F := fun (k : Hs × Nat × Int32 → Option Hs) (z : Hs × Nat × Int32) => fbX5_cut_2 (fun σ xv0 xv1 => k (σ, xv0, xv1)) z.1 z.2.1 z.2.2) (fun s => ∃ G' k p, s = (e5 b σ G', b, Int32.ofNat p) ∧ RdI b G G' pr tx n k p (e5 b σ G')) (fun s => n - s.2.2.toNatClampNeg) (fun r => ∃ G' K, r = e5 b σ G' ∧ Fr [3, 4, 5, 6, 7] G G' ∧ RdK b G' pr tx n K (e5 b σ G') ∧ ∀ j, j ≤ K → ai G' 3 j = Int32.ofNat (tK pr tx n (tS tx n j))) ?_ fu (σ, b, 0) ⟨G, 0, 0, by rw [hself]; rfl, by rw [hself]; exact h0⟩ (by show n - (0 : Int32).toNatClampNeg < fu; unfold fu; omega)
  · obtain ⟨r, r1, G', K, r2, r3, r4, r5⟩ := key
    exact ⟨G', K, by rw [r1, r2], r3, r4, r5⟩
  · rintro K _ ⟨G', k, p, rfl, hI⟩
    have hpn := hI.2.2.1
    have hA := hI.1.1
    have hl := hI.1.2.2.1
    show (∃ s', _ ∧ _ ∧ fbX5_cut_2 _ (e5 b σ G') b (Int32.ofNat p) = K s') ∨ ∃ r, fbX5_cut_2 _ (e5 b σ G') b (Int32.ofNat p) = some r ∧ _
    simp only [fbX5_cut_2, z5_g0 hA, z5_n0 hA, hl, Option.bind_some, le_n (show n < 2147483648 by omega) (show p < 2147483648 by omega), z5_C hA]
    have ee : ∀ A B : Gs, e5 b (e5 b σ A) B = e5 b σ B := fun A B => eX_eX _ _ _
    by_cases c : n ≤ p
    · right
      rw [if_pos c]
      have hp : p = n := by omega
      have hs : tS tx n k = n := by rw [← hI.2.2.2.2.1, hp]; exact nx_end (Nat.le_refl n)
      have ek : tK pr tx n n = 0 := by unfold tK; rw [if_pos (Nat.le_refl n)]
      rw [x_add hA hI.2.2.2.1 hI.1.2.2.2.1 hn (RdI_k hI), Option.bind_some, ee]
      have hT := RdT_ad (k := k) hI.1 0 (-1) (Int32.ofNat n) (Int32.ofNat n)
      rw [ee] at hT
      have hF : Fr [3, 4, 5, 6, 7] G (adG G' k 0 (-1) (Int32.ofNat n) (Int32.ofNat n)) := ((((hI.2.1.sai (k := 3) (by decide) _).sai (k := 4) (by decide) _).sai (k := 5) (by decide) _).sai (k := 6) (by decide) _).sfi (k := 7) (by decide) _
      have hA2 : ∀ j, j ≤ k → TkA (adG G' k 0 (-1) (Int32.ofNat n) (Int32.ofNat n)) pr tx n j := by
        intro j hj
        by_cases e : j = k
        · subst e
          unfold TkA TkB
          rw [hs, ek, tE_e (Nat.le_refl n)]
          exact ⟨up_same _ _ _, up_same _ _ _, up_same _ _ _, fun q => absurd q (by decide), fun q => absurd q (by decide), fun q => absurd q (by decide)⟩
        · exact TkA_old (hI.2.2.2.2.2.2 j (by omega)) (by omega) rfl
      exact ⟨_, rfl, _, k, rfl, hF, ⟨hT, RdI_k hI, hs, hI.2.2.2.2.2.1, rfl, fun j hj => (hA2 j hj).2⟩, fun j hj => (hA2 j hj).1⟩
    · left
      rw [if_neg c]
      obtain ⟨G2, k', p', q1, q2, q3⟩ := x_cutOne hI (by omega) htx
      rw [ee] at q3 q1
      have hp' := q3.2.2.1
      rw [q1, Option.bind_some]
      simp only [mx32, Option.bind_some, suc32, n32 (show p + 1 < 2147483648 by omega), n32 (show p' < 2147483648 by omega)]
      have em : (if (p' : Int) ≤ ((p + 1 : Nat) : Int) then Int32.ofNat (p + 1) else Int32.ofNat p') = Int32.ofNat p' := by
        by_cases d : (p' : Int) ≤ ((p + 1 : Nat) : Int)
        · rw [if_pos d, show p + 1 = p' by omega]
        · rw [if_neg d]
      rw [em]
      refine ⟨_, ⟨G2, k', p', rfl, q3⟩, ?_, rfl⟩
      show n - (Int32.ofNat p').toNatClampNeg < n - (Int32.ofNat p).toNatClampNeg
      rw [c32 (by omega), c32 (by omega)]; omega
end
set_option maxRecDepth 100000 in
theorem char255 : ∀ c, c < 256 → vp_nar .char (((Int32.ofNat c).toUInt32 % 65536).toInt32) = Int32.ofNat c := by decide
theorem char_and (v : Int32) : vp_nar .char (((v &&& 255).toUInt32 % 65536).toInt32) = v &&& 255 := by
  have h := and255 v
  obtain ⟨c, hc, -, hc2⟩ := get32 (v &&& 255) h.1
  rw [hc]; exact char255 c (by omega)
theorem x5_new (s : Hs) {pr : Bool} {a n sg wd : Nat} {f : Nat → Int32} (ha : a < s.1) (hf : s.2.1 a = .inl (2, 500, .inl f)) (hn : n ≤ 500) (hsg : StrB s.1 s sg (si pr)) (hwd : StrB s.1 s wd (wi pr)) : ∃ s' G, fX5_init_0 (nwO 7 tyX5 s) s.1 a (Int32.ofNat n) sg wd = some s' ∧ s'.1 = s.1 + 6 ∧ s'.2.2 = s.2.2 ∧ (∀ q, q < s.1 → s'.2.1 q = s.2.1 q) ∧ RdT s.1 G pr (fun j => (f j &&& 255).toInt) n s' ∧ fi G 7 = 0 ∧ fi G 8 = 0 ∧ fi G 9 = 0 ∧ fi G 10 = -1 := by
  have h0 : (nwO 7 tyX5 s).2.1 s.1 = .inr (7, fun k => defaultValue (tyX5 k)) := nw_s _ _
  have hfa : (nwO 7 tyX5 s).2.1 a = .inl (2, 500, .inl f) := (nw_n _ _ (by omega)).trans hf
  have haN : aN (nwO 7 tyX5 s) a = some (Int32.ofNat 500) := by unfold aN; rw [hfa]; exact if_pos (show 2 < 8 by decide)
  unfold fX5_init_0
  rw [haN, Option.bind_some, mn32, Option.bind_some, mn_n (by omega) (by omega), Nat.min_eq_left hn, mx32, Option.bind_some, show (0 : Int32) = Int32.ofNat 0 from rfl, mx_n (by decide) (by omega), Nat.zero_max]
  rw [naI_ok _ (show n ≤ 600 by omega) (by omega), Option.bind_some, pV_raw ((nw_n _ _ (show s.1 ≠ s.1 + 1 by omega)).trans h0), Option.bind_some]
  generalize hs5 : wR _ s.1 _ = s5
  let F1 : Nat → Value := va_up (fun k => defaultValue (tyX5 k)) 0 (.ref (s.1 + 1))
  have q1 : s5.1 = s.1 + 2 := by rw [← hs5]; rfl
  have q2 : s5.2.2 = s.2.2 := by rw [← hs5]; rfl
  have q3 : ∀ q, q < s.1 → s5.2.1 q = s.2.1 q := by
    intro q hq
    rw [← hs5, wR_n _ _ (by omega), nw_n _ _ (show q ≠ s.1 + 1 by omega)]; exact nw_n _ _ (by omega)
  have q4 : s5.2.1 s.1 = .inr (7, F1) := by rw [← hs5, wR_s]; rfl
  have q5 : s5.2.1 (s.1 + 1) = .inl (4, n, .inl (fun _ => 0)) := by
    rw [← hs5, wR_n _ _ (by omega)]; exact nw_s (nwO 7 tyX5 s) _
  let sT : (Nat → Int32) → Hs := fun g => wR s5 (s.1 + 1) (.inl (4, n, .inl g))
  have t1 : ∀ g, (sT g).2.1 s.1 = .inr (7, F1) := fun g => (wR_n _ _ (by omega)).trans q4
  have t2 : ∀ g, (sT g).2.1 (s.1 + 1) = .inl (4, n, .inl g) := fun g => wR_s _ _ _
  have t3 : ∀ g q, q < s.1 → (sT g).2.1 q = s.2.1 q := fun g q hq => (wR_n _ _ (by omega)).trans (q3 q hq)
  have g0' : ∀ g, gN (sT g) s.1 7 0 = some (s.1 + 1) := fun g => by unfold gN gV; rw [t1]; rfl
  have aN' : ∀ g, aN (sT g) (s.1 + 1) = some (Int32.ofNat n) := fun g => by unfold aN; rw [t2]; exact if_pos (show 4 < 8 by decide)
  have ws : ∀ g h, wR (sT g) (s.1 + 1) (.inl (4, n, .inl h)) = sT h := by
    intro g h
    refine Prod.ext rfl (Prod.ext (funext fun q => ?_) rfl)
    show va_up (va_up s5.2.1 (s.1 + 1) _) (s.1 + 1) _ q = va_up s5.2.1 (s.1 + 1) _ q
    unfold va_up
    by_cases c : q = s.1 + 1
    · rw [if_pos c, if_pos c]
    · rw [if_neg c, if_neg c, if_neg c]
  have hst0 : s5 = sT (fun _ => 0) := by
    refine Prod.ext rfl (Prod.ext (funext fun q => ?_) rfl)
    show _ = va_up s5.2.1 (s.1 + 1) _ q
    unfold va_up
    by_cases c : q = s.1 + 1
    · rw [if_pos c, c, q5]
    · rw [if_neg c]
  unfold fX5_init_23
  refine lp_q n (fun k z => ∃ g, z = (sT g, s.1, a, sg, wd, Int32.ofNat k) ∧ ∀ j, j < k → g j = f j &&& 255) (fun X => ∃ s' G, X = some s' ∧ s'.1 = s.1 + 6 ∧ s'.2.2 = s.2.2 ∧ (∀ q, q < s.1 → s'.2.1 q = s.2.1 q) ∧ RdT s.1 G pr (fun j => (f j &&& 255).toInt) n s' ∧ fi G 7 = 0 ∧ fi G 8 = 0 ∧ fi G 9 = 0 ∧ fi G 10 = -1) ?_ ?_ fu 0 _ (by omega) ⟨_, by rw [← hst0], fun j hj => absurd hj (by omega)⟩ (by unfold fu; omega)
  · rintro K k _ hk ⟨g, rfl, hg⟩
    left
    have l1 : ldI 2 (sT g) a (Int32.ofNat k) = some (f k) := by
      unfold ldI; rw [t3 g a ha, hf]
      simp only [ix_n (show k < 2147483648 by omega), decide_eq_true (show k < 500 by omega), and_self, if_true, c32 (show k < 2147483648 by omega)]
    have l2 : ∀ v, stI 4 (sT g) (s.1 + 1) (Int32.ofNat k) v = some (sT (up g k v)) := by
      intro v
      unfold stI; rw [t2]
      simp only [ix_n (show k < 2147483648 by omega), decide_eq_true hk, and_self, if_true, c32 (show k < 2147483648 by omega)]
      exact congrArg some (ws g _)
    simp only [fbX5_init_23, g0', aN', Option.bind_some, le_n (show n < 2147483648 by omega) (show k < 2147483648 by omega), if_neg (show ¬ n ≤ k by omega), l1, l2, char_and, suc32]
    refine ⟨_, ⟨_, rfl, fun j hj => ?_⟩, rfl⟩
    unfold up
    by_cases c : j = k
    · rw [if_pos c, c]
    · rw [if_neg c]; exact hg j (by omega)
  · rintro K _ ⟨g, rfl, hg⟩
    generalize hsg' : sT g = s6 at *
    have u1 : s6.2.1 s.1 = .inr (7, F1) := by rw [← hsg']; exact t1 g
    have u2 : s6.2.1 (s.1 + 1) = .inl (4, n, .inl g) := by rw [← hsg']; exact t2 g
    have u3 : ∀ q, q < s.1 → s6.2.1 q = s.2.1 q := by rw [← hsg']; exact t3 g
    have u4 : s6.1 = s.1 + 2 := by rw [← hsg']; exact q1
    have u5 : s6.2.2 = s.2.2 := by rw [← hsg']; exact q2
    have g6 : gN s6 s.1 7 0 = some (s.1 + 1) := by rw [← hsg']; exact g0' g
    have a6 : aN s6 (s.1 + 1) = some (Int32.ofNat n) := by rw [← hsg']; exact aN' g
    simp only [fbX5_init_23, g6, a6, Option.bind_some, Int32.le_refl, if_true]
    have gN_raw : ∀ {σ : Hs} {F : Nat → Value} {r : Nat}, σ.2.1 s.1 = .inr (7, F) → F 0 = .ref r → gN σ s.1 7 0 = some r := fun h hF => by unfold gN gV; rw [h]; simp only [if_true, Option.bind_some, hF]; rfl
    have aN_raw : ∀ {σ : Hs} {q : Nat} {h : Nat → Int32}, σ.2.1 q = .inl (4, n, .inl h) → aN σ q = some (Int32.ofNat n) := fun h => by unfold aN; rw [h]; exact if_pos (show 4 < 8 by decide)
    rw [pV_raw u1, Option.bind_some]
    generalize hF2 : va_up F1 1 (.ref sg) = F2
    generalize h7e : wR s6 s.1 (.inr (7, F2)) = s7
    have f2 : F2 0 = .ref (s.1 + 1) := by rw [← hF2]; rfl
    have v1 : s7.2.1 s.1 = .inr (7, F2) := by rw [← h7e]; exact wR_s _ _ _
    have v2 : s7.2.1 (s.1 + 1) = .inl (4, n, .inl g) := by rw [← h7e]; exact (wR_n _ _ (by omega)).trans u2
    have v3 : ∀ q, q < s.1 → s7.2.1 q = s.2.1 q := fun q hq => by rw [← h7e]; exact (wR_n _ _ (by omega)).trans (u3 q hq)
    have v4 : s7.1 = s.1 + 2 := by rw [← h7e]; exact u4
    have v5 : s7.2.2 = s.2.2 := by rw [← h7e]; exact u5
    rw [pV_raw v1, Option.bind_some]
    generalize hF3 : va_up F2 2 (.ref wd) = F3
    generalize h8e : wR s7 s.1 (.inr (7, F3)) = s8
    have f3 : F3 0 = .ref (s.1 + 1) := by rw [← hF3]; exact f2
    have w1 : s8.2.1 s.1 = .inr (7, F3) := by rw [← h8e]; exact wR_s _ _ _
    have w2 : s8.2.1 (s.1 + 1) = .inl (4, n, .inl g) := by rw [← h8e]; exact (wR_n _ _ (by omega)).trans v2
    have w3 : ∀ q, q < s.1 → s8.2.1 q = s.2.1 q := fun q hq => by rw [← h8e]; exact (wR_n _ _ (by omega)).trans (v3 q hq)
    have w4 : s8.1 = s.1 + 2 := by rw [← h8e]; exact v4
    have w5 : s8.2.2 = s.2.2 := by rw [← h8e]; exact v5
    have stepA : ∀ (t : Hs) (F : Nat → Value) (c k : Nat), t.2.1 s.1 = .inr (7, F) → F 0 = .ref (s.1 + 1) → t.2.1 (s.1 + 1) = .inl (4, n, .inl g) → t.1 = s.1 + c → 2 ≤ c → t.2.2 = s.2.2 → (∀ q, q < s.1 → t.2.1 q = s.2.1 q) → k ≠ 0 → ∃ t', (∀ (K : Hs → Option Hs), ((gN t s.1 7 0).bind fun v => (aN t v).bind fun v2 => (naI 0 600 t (v2 + 1)).bind fun v3 => (pV v3.2 s.1 7 k (.ref v3.1)).bind K) = K t') ∧ t'.2.1 s.1 = .inr (7, va_up F k (.ref (s.1 + c))) ∧ t'.2.1 (s.1 + c) = .inl (0, n + 1, .inl (fun _ => 0)) ∧ t'.1 = s.1 + (c + 1) ∧ t'.2.2 = s.2.2 ∧ ∀ q, q ≠ s.1 → q < s.1 + c → t'.2.1 q = t.2.1 q := by
      intro t F c k h1 h2 h3 h4 h5 h6 h7 h8
      refine ⟨wR (nw t (.inl (0, n + 1, .inl (fun _ => 0)))) s.1 (.inr (7, va_up F k (.ref (s.1 + c)))), fun K => ?_, wR_s _ _ _, ?_, ?_, h6, fun q hq1 hq2 => ?_⟩
      · rw [gN_raw h1 h2, Option.bind_some, aN_raw h3, Option.bind_some, suc32, naI_ok _ (show n + 1 ≤ 600 by omega) (by omega), Option.bind_some, pV_raw ((nw_n _ _ (show s.1 ≠ t.1 by omega)).trans h1), Option.bind_some, h4]
      · rw [wR_n _ _ (by omega), ← h4]; exact nw_s _ _
      · show t.1 + 1 = _; omega
      · rw [wR_n _ _ hq1]; exact nw_n _ _ (by omega)
    obtain ⟨t1', r1, r2, r3, r4, r5, r6⟩ := stepA s8 F3 2 3 w1 f3 w2 w4 (by omega) w5 w3 (by decide)
    have f4 : va_up F3 3 (.ref (s.1 + 2)) 0 = .ref (s.1 + 1) := f3
    obtain ⟨t2', o1, o2, o3, o4, o5, o6⟩ := stepA t1' _ 3 4 r2 f4 ((r6 _ (by omega) (by omega)).trans w2) r4 (by omega) r5 (fun q hq => (r6 q (by omega) (by omega)).trans (w3 q hq)) (by decide)
    have f5 : va_up (va_up F3 3 (.ref (s.1 + 2))) 4 (.ref (s.1 + 3)) 0 = .ref (s.1 + 1) := f3
    obtain ⟨t3', p1, p2, p3, p4, p5, p6⟩ := stepA t2' _ 4 5 o2 f5 ((o6 _ (by omega) (by omega)).trans ((r6 _ (by omega) (by omega)).trans w2)) o4 (by omega) o5 (fun q hq => (o6 q (by omega) (by omega)).trans ((r6 q (by omega) (by omega)).trans (w3 q hq))) (by decide)
    have f6 : va_up (va_up (va_up F3 3 (.ref (s.1 + 2))) 4 (.ref (s.1 + 3))) 5 (.ref (s.1 + 4)) 0 = .ref (s.1 + 1) := f3
    obtain ⟨t4', m1, m2, m3, m4, m5, m6⟩ := stepA t3' _ 5 6 p2 f6 ((p6 _ (by omega) (by omega)).trans ((o6 _ (by omega) (by omega)).trans ((r6 _ (by omega) (by omega)).trans w2))) p4 (by omega) p5 (fun q hq => (p6 q (by omega) (by omega)).trans ((o6 q (by omega) (by omega)).trans ((r6 q (by omega) (by omega)).trans (w3 q hq)))) (by decide)
    rw [r1, o1, p1, m1, pV_raw m2, Option.bind_some]
    refine ⟨_, sfr (sfr (sfi (sai (g0 (fun k => if k = 0 then n else n + 1)) 0 g) 10 (-1)) 1 (some sg)) 2 (some wd), rfl, m4, m5, fun q hq => ?_, ⟨A5_mk ?_ ?_ ?_ ?_ ?_ ?_, hn, rfl, ⟨rfl, rfl, rfl, rfl⟩, fun j hj => ?_, sg, wd, rfl, rfl, hsg.fr fun q hq => ?_, hwd.fr fun q hq => ?_⟩, rfl, rfl, rfl, rfl⟩
    · rw [wR_n _ _ (by omega), m6 _ (by omega) (by omega), p6 _ (by omega) (by omega), o6 _ (by omega) (by omega), r6 _ (by omega) (by omega)]; exact w3 q hq
    · rw [wR_s]
      refine congrArg (fun F => Sum.inr (7, F)) (funext fun k => ?_)
      rw [← hF3, ← hF2]
      match k with
      | 0 => rfl
      | 1 => rfl
      | 2 => rfl
      | 3 => rfl
      | 4 => rfl
      | 5 => rfl
      | 6 => rfl
      | 7 => rfl
      | 8 => rfl
      | 9 => rfl
      | 10 => rfl
      | k + 11 => rfl
    · rw [wR_n _ _ (by omega), m6 _ (by omega) (by omega), p6 _ (by omega) (by omega), o6 _ (by omega) (by omega), r6 _ (by omega) (by omega)]; exact w2
    · rw [wR_n _ _ (by omega), m6 _ (by omega) (by omega), p6 _ (by omega) (by omega), o6 _ (by omega) (by omega)]; exact r3
    · rw [wR_n _ _ (by omega), m6 _ (by omega) (by omega), p6 _ (by omega) (by omega)]; exact o3
    · rw [wR_n _ _ (by omega), m6 _ (by omega) (by omega)]; exact p3
    · rw [wR_n _ _ (by omega)]; exact m3
    · show (g j).toInt = (f j &&& 255).toInt; rw [hg j hj]
    · rw [wR_n _ _ (by omega), m6 _ (by omega) (by omega), p6 _ (by omega) (by omega), o6 _ (by omega) (by omega), r6 _ (by omega) (by omega)]; exact w3 q hq
    · rw [wR_n _ _ (by omega), m6 _ (by omega) (by omega), p6 _ (by omega) (by omega), o6 _ (by omega) (by omega), r6 _ (by omega) (by omega)]; exact w3 q hq
