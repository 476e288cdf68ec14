set_option maxHeartbeats 4000000 in
theorem init11 (s : Hs) : ∃ s2, fX11_init_0 (nwO 13 tyX11 s) s.1 = some s2 ∧ s2.1 = s.1 + 20 ∧ s2.2.2 = s.2.2 ∧ (∀ a, a < s.1 → s2.2.1 a = s.2.1 a) ∧ A11 s.1 (sar GX 17 (fun l => if l < 4 then some (s.1 + 16 + l) else none)) s2 ∧ A9 (s.1 + 3) (g0 (fun _ => 20)) s2 ∧ (∀ l, l < 5 → AJ (s.1 + 7 + l) (sfr (g0 (fun _ => 0)) 1 (some (s.2.2 0))) s2) ∧ A7 (s.1 + 12) (g0 (fun k => if k = 8 then 40 else 3)) s2 ∧ ∀ l, l < 4 → A2 (s.1 + 16 + l) (sfi (sfi (sfi (g0 (fun _ => 0)) 0 0) 1 0) 2 0) s2 := by
  generalize hx : s.1 = x
  have c0 : (nwO 13 tyX11 s).1 = x + 1 := by rw [← hx]; rfl
  have r0 : (nwO 13 tyX11 s).2.1 x = .inr (13, fun k => defaultValue (tyX11 k)) := by rw [← hx]; exact nw_s _ _
  have b0 : ∀ a, a < x → (nwO 13 tyX11 s).2.1 a = s.2.1 a := fun a ha => nw_n _ _ (by omega)
  have d0 : (nwO 13 tyX11 s).2.2 = s.2.2 := rfl
  generalize nwO 13 tyX11 s = t0 at *
  unfold fX11_init_0
  obtain ⟨t1, ⟨c1, r1, k1⟩, z1, e1⟩ := st_P c0 r0 0 (.int 0)
  refine Eq.subst (motive := fun X => ∃ s2, X = some s2 ∧ s2.1 = x + 20 ∧ s2.2.2 = s.2.2 ∧ (∀ a, a < x → s2.2.1 a = s.2.1 a) ∧ A11 x (sar GX 17 (fun l => if l < 4 then some (x + 16 + l) else none)) s2 ∧ A9 (x + 3) (g0 (fun _ => 20)) s2 ∧ (∀ l, l < 5 → AJ (x + 7 + l) (sfr (g0 (fun _ => 0)) 1 (some (s.2.2 0))) s2) ∧ A7 (x + 12) (g0 (fun k => if k = 8 then 40 else 3)) s2 ∧ ∀ l, l < 4 → A2 (x + 16 + l) (sfi (sfi (sfi (g0 (fun _ => 0)) 0 0) 1 0) 2 0) s2) (e1 _).symm ?_
  clear e1
  try rw [show (4 : Int32) = Int32.ofNat 4 from rfl]
  rw [naR_ok t1 (by omega) (by omega), Option.bind_some]
  obtain ⟨⟨c2, r2, k2⟩, q2⟩ := st_N c1 (by decide) r1 (.inl (5, 4, .inr (.inr (.inr (.inr (fun _ => none))))))
  simp only [c1]
  generalize nw t1 (.inl (5, 4, .inr (.inr (.inr (.inr (fun _ => none)))))) = t2 at *
  obtain ⟨t3, ⟨c3, r3, k3⟩, z3, e3⟩ := st_P c2 r2 1 (.ref (x + 1))
  refine Eq.subst (motive := fun X => ∃ s2, X = some s2 ∧ s2.1 = x + 20 ∧ s2.2.2 = s.2.2 ∧ (∀ a, a < x → s2.2.1 a = s.2.1 a) ∧ A11 x (sar GX 17 (fun l => if l < 4 then some (x + 16 + l) else none)) s2 ∧ A9 (x + 3) (g0 (fun _ => 20)) s2 ∧ (∀ l, l < 5 → AJ (x + 7 + l) (sfr (g0 (fun _ => 0)) 1 (some (s.2.2 0))) s2) ∧ A7 (x + 12) (g0 (fun k => if k = 8 then 40 else 3)) s2 ∧ ∀ l, l < 4 → A2 (x + 16 + l) (sfi (sfi (sfi (g0 (fun _ => 0)) 0 0) 1 0) 2 0) s2) (e3 _).symm ?_
  clear e3
  rw [show (500 : Int32) = Int32.ofNat 500 from rfl, naI_ok t3 (by omega) (by omega), Option.bind_some]
  obtain ⟨⟨c4, r4, k4⟩, q4⟩ := st_N c3 (by decide) r3 (.inl (2, 500, .inl (fun _ => 0)))
  simp only [c3]
  generalize nw t3 (.inl (2, 500, .inl (fun _ => 0))) = t4 at *
  obtain ⟨t5, ⟨c5, r5, k5⟩, z5, e5⟩ := st_P c4 r4 2 (.ref (x + 2))
  refine Eq.subst (motive := fun X => ∃ s2, X = some s2 ∧ s2.1 = x + 20 ∧ s2.2.2 = s.2.2 ∧ (∀ a, a < x → s2.2.1 a = s.2.1 a) ∧ A11 x (sar GX 17 (fun l => if l < 4 then some (x + 16 + l) else none)) s2 ∧ A9 (x + 3) (g0 (fun _ => 20)) s2 ∧ (∀ l, l < 5 → AJ (x + 7 + l) (sfr (g0 (fun _ => 0)) 1 (some (s.2.2 0))) s2) ∧ A7 (x + 12) (g0 (fun k => if k = 8 then 40 else 3)) s2 ∧ ∀ l, l < 4 → A2 (x + 16 + l) (sfi (sfi (sfi (g0 (fun _ => 0)) 0 0) 1 0) 2 0) s2) (e5 _).symm ?_
  clear e5
  obtain ⟨t6, ⟨c6, r6, k6⟩, z6, e6⟩ := st_P c5 r5 4 (.int (-1))
  refine Eq.subst (motive := fun X => ∃ s2, X = some s2 ∧ s2.1 = x + 20 ∧ s2.2.2 = s.2.2 ∧ (∀ a, a < x → s2.2.1 a = s.2.1 a) ∧ A11 x (sar GX 17 (fun l => if l < 4 then some (x + 16 + l) else none)) s2 ∧ A9 (x + 3) (g0 (fun _ => 20)) s2 ∧ (∀ l, l < 5 → AJ (x + 7 + l) (sfr (g0 (fun _ => 0)) 1 (some (s.2.2 0))) s2) ∧ A7 (x + 12) (g0 (fun k => if k = 8 then 40 else 3)) s2 ∧ ∀ l, l < 4 → A2 (x + 16 + l) (sfi (sfi (sfi (g0 (fun _ => 0)) 0 0) 1 0) 2 0) s2) (e6 _).symm ?_
  clear e6
  obtain ⟨t7, ⟨c7, r7, k7⟩, z7, e7⟩ := st_P c6 r6 5 (.int (-1))
  refine Eq.subst (motive := fun X => ∃ s2, X = some s2 ∧ s2.1 = x + 20 ∧ s2.2.2 = s.2.2 ∧ (∀ a, a < x → s2.2.1 a = s.2.1 a) ∧ A11 x (sar GX 17 (fun l => if l < 4 then some (x + 16 + l) else none)) s2 ∧ A9 (x + 3) (g0 (fun _ => 20)) s2 ∧ (∀ l, l < 5 → AJ (x + 7 + l) (sfr (g0 (fun _ => 0)) 1 (some (s.2.2 0))) s2) ∧ A7 (x + 12) (g0 (fun k => if k = 8 then 40 else 3)) s2 ∧ ∀ l, l < 4 → A2 (x + 16 + l) (sfi (sfi (sfi (g0 (fun _ => 0)) 0 0) 1 0) 2 0) s2) (e7 _).symm ?_
  clear e7
  rw [Option.bind_some]
  obtain ⟨t8, w8, a8, f8, g8, q8⟩ := x9_new t7 20 (by omega)
  rw [show (20 : Int32) = Int32.ofNat 20 from rfl, w8, Option.bind_some]
  obtain ⟨c8, r8, k8⟩ := st_O c7 (by decide) r7 a8 f8 g8
  rw [c7] at q8
  simp only [c7]
  obtain ⟨t9, ⟨c9, r9, k9⟩, z9, e9⟩ := st_P c8 r8 6 (.ref (x + 3))
  refine Eq.subst (motive := fun X => ∃ s2, X = some s2 ∧ s2.1 = x + 20 ∧ s2.2.2 = s.2.2 ∧ (∀ a, a < x → s2.2.1 a = s.2.1 a) ∧ A11 x (sar GX 17 (fun l => if l < 4 then some (x + 16 + l) else none)) s2 ∧ A9 (x + 3) (g0 (fun _ => 20)) s2 ∧ (∀ l, l < 5 → AJ (x + 7 + l) (sfr (g0 (fun _ => 0)) 1 (some (s.2.2 0))) s2) ∧ A7 (x + 12) (g0 (fun k => if k = 8 then 40 else 3)) s2 ∧ ∀ l, l < 4 → A2 (x + 16 + l) (sfi (sfi (sfi (g0 (fun _ => 0)) 0 0) 1 0) 2 0) s2) (e9 _).symm ?_
  clear e9
  rw [Option.bind_some]
  obtain ⟨t10, w10, a10, f10, g10, q10⟩ := xJ_new t9
  rw [w10, Option.bind_some]
  obtain ⟨c10, r10, k10⟩ := st_O c9 (by decide) r9 a10 f10 g10
  rw [c9] at q10
  simp only [c9]
  obtain ⟨t11, ⟨c11, r11, k11⟩, z11, e11⟩ := st_P c10 r10 7 (.ref (x + 7))
  refine Eq.subst (motive := fun X => ∃ s2, X = some s2 ∧ s2.1 = x + 20 ∧ s2.2.2 = s.2.2 ∧ (∀ a, a < x → s2.2.1 a = s.2.1 a) ∧ A11 x (sar GX 17 (fun l => if l < 4 then some (x + 16 + l) else none)) s2 ∧ A9 (x + 3) (g0 (fun _ => 20)) s2 ∧ (∀ l, l < 5 → AJ (x + 7 + l) (sfr (g0 (fun _ => 0)) 1 (some (s.2.2 0))) s2) ∧ A7 (x + 12) (g0 (fun k => if k = 8 then 40 else 3)) s2 ∧ ∀ l, l < 4 → A2 (x + 16 + l) (sfi (sfi (sfi (g0 (fun _ => 0)) 0 0) 1 0) 2 0) s2) (e11 _).symm ?_
  clear e11
  rw [Option.bind_some]
  obtain ⟨t12, w12, a12, f12, g12, q12⟩ := xJ_new t11
  rw [w12, Option.bind_some]
  obtain ⟨c12, r12, k12⟩ := st_O c11 (by decide) r11 a12 f12 g12
  rw [c11] at q12
  simp only [c11]
  obtain ⟨t13, ⟨c13, r13, k13⟩, z13, e13⟩ := st_P c12 r12 9 (.ref (x + 8))
  refine Eq.subst (motive := fun X => ∃ s2, X = some s2 ∧ s2.1 = x + 20 ∧ s2.2.2 = s.2.2 ∧ (∀ a, a < x → s2.2.1 a = s.2.1 a) ∧ A11 x (sar GX 17 (fun l => if l < 4 then some (x + 16 + l) else none)) s2 ∧ A9 (x + 3) (g0 (fun _ => 20)) s2 ∧ (∀ l, l < 5 → AJ (x + 7 + l) (sfr (g0 (fun _ => 0)) 1 (some (s.2.2 0))) s2) ∧ A7 (x + 12) (g0 (fun k => if k = 8 then 40 else 3)) s2 ∧ ∀ l, l < 4 → A2 (x + 16 + l) (sfi (sfi (sfi (g0 (fun _ => 0)) 0 0) 1 0) 2 0) s2) (e13 _).symm ?_
  clear e13
  rw [Option.bind_some]
  obtain ⟨t14, w14, a14, f14, g14, q14⟩ := xJ_new t13
  rw [w14, Option.bind_some]
  obtain ⟨c14, r14, k14⟩ := st_O c13 (by decide) r13 a14 f14 g14
  rw [c13] at q14
  simp only [c13]
  obtain ⟨t15, ⟨c15, r15, k15⟩, z15, e15⟩ := st_P c14 r14 10 (.ref (x + 9))
  refine Eq.subst (motive := fun X => ∃ s2, X = some s2 ∧ s2.1 = x + 20 ∧ s2.2.2 = s.2.2 ∧ (∀ a, a < x → s2.2.1 a = s.2.1 a) ∧ A11 x (sar GX 17 (fun l => if l < 4 then some (x + 16 + l) else none)) s2 ∧ A9 (x + 3) (g0 (fun _ => 20)) s2 ∧ (∀ l, l < 5 → AJ (x + 7 + l) (sfr (g0 (fun _ => 0)) 1 (some (s.2.2 0))) s2) ∧ A7 (x + 12) (g0 (fun k => if k = 8 then 40 else 3)) s2 ∧ ∀ l, l < 4 → A2 (x + 16 + l) (sfi (sfi (sfi (g0 (fun _ => 0)) 0 0) 1 0) 2 0) s2) (e15 _).symm ?_
  clear e15
  rw [Option.bind_some]
  obtain ⟨t16, w16, a16, f16, g16, q16⟩ := xJ_new t15
  rw [w16, Option.bind_some]
  obtain ⟨c16, r16, k16⟩ := st_O c15 (by decide) r15 a16 f16 g16
  rw [c15] at q16
  simp only [c15]
  obtain ⟨t17, ⟨c17, r17, k17⟩, z17, e17⟩ := st_P c16 r16 11 (.ref (x + 10))
  refine Eq.subst (motive := fun X => ∃ s2, X = some s2 ∧ s2.1 = x + 20 ∧ s2.2.2 = s.2.2 ∧ (∀ a, a < x → s2.2.1 a = s.2.1 a) ∧ A11 x (sar GX 17 (fun l => if l < 4 then some (x + 16 + l) else none)) s2 ∧ A9 (x + 3) (g0 (fun _ => 20)) s2 ∧ (∀ l, l < 5 → AJ (x + 7 + l) (sfr (g0 (fun _ => 0)) 1 (some (s.2.2 0))) s2) ∧ A7 (x + 12) (g0 (fun k => if k = 8 then 40 else 3)) s2 ∧ ∀ l, l < 4 → A2 (x + 16 + l) (sfi (sfi (sfi (g0 (fun _ => 0)) 0 0) 1 0) 2 0) s2) (e17 _).symm ?_
  clear e17
  rw [Option.bind_some]
  obtain ⟨t18, w18, a18, f18, g18, q18⟩ := xJ_new t17
  rw [w18, Option.bind_some]
  obtain ⟨c18, r18, k18⟩ := st_O c17 (by decide) r17 a18 f18 g18
  rw [c17] at q18
  simp only [c17]
  obtain ⟨t19, ⟨c19, r19, k19⟩, z19, e19⟩ := st_P c18 r18 12 (.ref (x + 11))
  refine Eq.subst (motive := fun X => ∃ s2, X = some s2 ∧ s2.1 = x + 20 ∧ s2.2.2 = s.2.2 ∧ (∀ a, a < x → s2.2.1 a = s.2.1 a) ∧ A11 x (sar GX 17 (fun l => if l < 4 then some (x + 16 + l) else none)) s2 ∧ A9 (x + 3) (g0 (fun _ => 20)) s2 ∧ (∀ l, l < 5 → AJ (x + 7 + l) (sfr (g0 (fun _ => 0)) 1 (some (s.2.2 0))) s2) ∧ A7 (x + 12) (g0 (fun k => if k = 8 then 40 else 3)) s2 ∧ ∀ l, l < 4 → A2 (x + 16 + l) (sfi (sfi (sfi (g0 (fun _ => 0)) 0 0) 1 0) 2 0) s2) (e19 _).symm ?_
  clear e19
  rw [Option.bind_some]
  obtain ⟨t20, w20, a20, f20, g20, q20⟩ := x7_new t19
  rw [w20, Option.bind_some]
  obtain ⟨c20, r20, k20⟩ := st_O c19 (by decide) r19 a20 f20 g20
  rw [c19] at q20
  simp only [c19]
  obtain ⟨t21, ⟨c21, r21, k21⟩, z21, e21⟩ := st_P c20 r20 14 (.ref (x + 12))
  refine Eq.subst (motive := fun X => ∃ s2, X = some s2 ∧ s2.1 = x + 20 ∧ s2.2.2 = s.2.2 ∧ (∀ a, a < x → s2.2.1 a = s.2.1 a) ∧ A11 x (sar GX 17 (fun l => if l < 4 then some (x + 16 + l) else none)) s2 ∧ A9 (x + 3) (g0 (fun _ => 20)) s2 ∧ (∀ l, l < 5 → AJ (x + 7 + l) (sfr (g0 (fun _ => 0)) 1 (some (s.2.2 0))) s2) ∧ A7 (x + 12) (g0 (fun k => if k = 8 then 40 else 3)) s2 ∧ ∀ l, l < 4 → A2 (x + 16 + l) (sfi (sfi (sfi (g0 (fun _ => 0)) 0 0) 1 0) 2 0) s2) (e21 _).symm ?_
  clear e21
  obtain ⟨t22, ⟨c22, r22, k22⟩, z22, e22⟩ := st_P c21 r21 16 (.int (-1))
  refine Eq.subst (motive := fun X => ∃ s2, X = some s2 ∧ s2.1 = x + 20 ∧ s2.2.2 = s.2.2 ∧ (∀ a, a < x → s2.2.1 a = s.2.1 a) ∧ A11 x (sar GX 17 (fun l => if l < 4 then some (x + 16 + l) else none)) s2 ∧ A9 (x + 3) (g0 (fun _ => 20)) s2 ∧ (∀ l, l < 5 → AJ (x + 7 + l) (sfr (g0 (fun _ => 0)) 1 (some (s.2.2 0))) s2) ∧ A7 (x + 12) (g0 (fun k => if k = 8 then 40 else 3)) s2 ∧ ∀ l, l < 4 → A2 (x + 16 + l) (sfi (sfi (sfi (g0 (fun _ => 0)) 0 0) 1 0) 2 0) s2) (e22 _).symm ?_
  clear e22
  try rw [show (4 : Int32) = Int32.ofNat 4 from rfl]
  rw [naR_ok t22 (by omega) (by omega), Option.bind_some]
  obtain ⟨⟨c23, r23, k23⟩, q23⟩ := st_N c22 (by decide) r22 (.inl (6, 4, .inr (.inr (.inr (.inr (fun _ => none))))))
  simp only [c22]
  generalize nw t22 (.inl (6, 4, .inr (.inr (.inr (.inr (fun _ => none)))))) = t23 at *
  obtain ⟨t24, ⟨c24, r24, k24⟩, z24, e24⟩ := st_P c23 r23 17 (.ref (x + 15))
  refine Eq.subst (motive := fun X => ∃ s2, X = some s2 ∧ s2.1 = x + 20 ∧ s2.2.2 = s.2.2 ∧ (∀ a, a < x → s2.2.1 a = s.2.1 a) ∧ A11 x (sar GX 17 (fun l => if l < 4 then some (x + 16 + l) else none)) s2 ∧ A9 (x + 3) (g0 (fun _ => 20)) s2 ∧ (∀ l, l < 5 → AJ (x + 7 + l) (sfr (g0 (fun _ => 0)) 1 (some (s.2.2 0))) s2) ∧ A7 (x + 12) (g0 (fun k => if k = 8 then 40 else 3)) s2 ∧ ∀ l, l < 4 → A2 (x + 16 + l) (sfi (sfi (sfi (g0 (fun _ => 0)) 0 0) 1 0) 2 0) s2) (e24 _).symm ?_
  clear e24
  have y0 : t24.2.1 (x + 15) = .inl (6, 4, .inr (.inr (.inr (.inr (fun _ => none))))) := z24.symm.trans q23
  have u0 : gN t24 x 13 17 = some (x + 15) := gN_raw r24 rfl
  rw [u0, Option.bind_some, Option.bind_some]
  obtain ⟨t25, w25, a25, f25, g25, q25⟩ := x2_new t24 0 0 0
  rw [w25, Option.bind_some]
  obtain ⟨c25, r25, k25⟩ := st_O c24 (by decide) r24 a25 f25 g25
  have yy0 : t25.2.1 (x + 15) = _ := (g25 (x + 15) (x15 c24 (by decide))).trans y0
  rw [stR_raw (i := 0) (iv := 0) rfl (z2_C q25) yy0 (by decide) (by decide), Option.bind_some]
  rw [c24] at q25
  have k26 : Kx x t25 (wR t25 (x + 15) (.inl (6, 4, .inr (.inr (.inr (.inr (va_up (fun _ => none) 0 (some t24.1)))))))) := Kx.w15 _ _ _
  have r26 : (wR t25 (x + 15) (.inl (6, 4, .inr (.inr (.inr (.inr (va_up (fun _ => none) 0 (some t24.1)))))))).2.1 x = _ := wx15 _ _ _ r25
  have y1 : (wR t25 (x + 15) (.inl (6, 4, .inr (.inr (.inr (.inr (va_up (fun _ => none) 0 (some t24.1)))))))).2.1 (x + 15) = .inl (6, 4, .inr (.inr (.inr (.inr (va_up (fun _ => none) 0 (some t24.1)))))) := wR_s _ _ _
  have c26 : (wR t25 (x + 15) (.inl (6, 4, .inr (.inr (.inr (.inr (va_up (fun _ => none) 0 (some t24.1)))))))).1 = x + 17 := c25
  generalize wR t25 (x + 15) (.inl (6, 4, .inr (.inr (.inr (.inr (va_up (fun _ => none) 0 (some t24.1))))))) = t26 at *
  have u1 : gN t26 x 13 17 = some (x + 15) := gN_raw r26 rfl
  rw [u1, Option.bind_some, Option.bind_some]
  obtain ⟨t27, w27, a27, f27, g27, q27⟩ := x2_new t26 0 0 0
  rw [w27, Option.bind_some]
  obtain ⟨c27, r27, k27⟩ := st_O c26 (by decide) r26 a27 f27 g27
  have yy1 : t27.2.1 (x + 15) = _ := (g27 (x + 15) (x15 c26 (by decide))).trans y1
  rw [stR_raw (i := 1) (iv := 1) rfl (z2_C q27) yy1 (by decide) (by decide), Option.bind_some]
  rw [c26] at q27
  have k28 : Kx x t27 (wR t27 (x + 15) (.inl (6, 4, .inr (.inr (.inr (.inr (va_up (va_up (fun _ => none) 0 (some t24.1)) 1 (some t26.1)))))))) := Kx.w15 _ _ _
  have r28 : (wR t27 (x + 15) (.inl (6, 4, .inr (.inr (.inr (.inr (va_up (va_up (fun _ => none) 0 (some t24.1)) 1 (some t26.1)))))))).2.1 x = _ := wx15 _ _ _ r27
  have y2 : (wR t27 (x + 15) (.inl (6, 4, .inr (.inr (.inr (.inr (va_up (va_up (fun _ => none) 0 (some t24.1)) 1 (some t26.1)))))))).2.1 (x + 15) = .inl (6, 4, .inr (.inr (.inr (.inr (va_up (va_up (fun _ => none) 0 (some t24.1)) 1 (some t26.1)))))) := wR_s _ _ _
  have c28 : (wR t27 (x + 15) (.inl (6, 4, .inr (.inr (.inr (.inr (va_up (va_up (fun _ => none) 0 (some t24.1)) 1 (some t26.1)))))))).1 = x + 18 := c27
  generalize wR t27 (x + 15) (.inl (6, 4, .inr (.inr (.inr (.inr (va_up (va_up (fun _ => none) 0 (some t24.1)) 1 (some t26.1))))))) = t28 at *
  have u2 : gN t28 x 13 17 = some (x + 15) := gN_raw r28 rfl
  rw [u2, Option.bind_some, Option.bind_some]
  obtain ⟨t29, w29, a29, f29, g29, q29⟩ := x2_new t28 0 0 0
  rw [w29, Option.bind_some]
  obtain ⟨c29, r29, k29⟩ := st_O c28 (by decide) r28 a29 f29 g29
  have yy2 : t29.2.1 (x + 15) = _ := (g29 (x + 15) (x15 c28 (by decide))).trans y2
  rw [stR_raw (i := 2) (iv := 2) rfl (z2_C q29) yy2 (by decide) (by decide), Option.bind_some]
  rw [c28] at q29
  have k30 : Kx x t29 (wR t29 (x + 15) (.inl (6, 4, .inr (.inr (.inr (.inr (va_up (va_up (va_up (fun _ => none) 0 (some t24.1)) 1 (some t26.1)) 2 (some t28.1)))))))) := Kx.w15 _ _ _
  have r30 : (wR t29 (x + 15) (.inl (6, 4, .inr (.inr (.inr (.inr (va_up (va_up (va_up (fun _ => none) 0 (some t24.1)) 1 (some t26.1)) 2 (some t28.1)))))))).2.1 x = _ := wx15 _ _ _ r29
  have y3 : (wR t29 (x + 15) (.inl (6, 4, .inr (.inr (.inr (.inr (va_up (va_up (va_up (fun _ => none) 0 (some t24.1)) 1 (some t26.1)) 2 (some t28.1)))))))).2.1 (x + 15) = .inl (6, 4, .inr (.inr (.inr (.inr (va_up (va_up (va_up (fun _ => none) 0 (some t24.1)) 1 (some t26.1)) 2 (some t28.1)))))) := wR_s _ _ _
  have c30 : (wR t29 (x + 15) (.inl (6, 4, .inr (.inr (.inr (.inr (va_up (va_up (va_up (fun _ => none) 0 (some t24.1)) 1 (some t26.1)) 2 (some t28.1)))))))).1 = x + 19 := c29
  generalize wR t29 (x + 15) (.inl (6, 4, .inr (.inr (.inr (.inr (va_up (va_up (va_up (fun _ => none) 0 (some t24.1)) 1 (some t26.1)) 2 (some t28.1))))))) = t30 at *
  have u3 : gN t30 x 13 17 = some (x + 15) := gN_raw r30 rfl
  rw [u3, Option.bind_some, Option.bind_some]
  obtain ⟨t31, w31, a31, f31, g31, q31⟩ := x2_new t30 0 0 0
  rw [w31, Option.bind_some]
  obtain ⟨c31, r31, k31⟩ := st_O c30 (by decide) r30 a31 f31 g31
  have yy3 : t31.2.1 (x + 15) = _ := (g31 (x + 15) (x15 c30 (by decide))).trans y3
  rw [stR_raw (i := 3) (iv := 3) rfl (z2_C q31) yy3 (by decide) (by decide), Option.bind_some]
  rw [c30] at q31
  have k32 : Kx x t31 (wR t31 (x + 15) (.inl (6, 4, .inr (.inr (.inr (.inr (va_up (va_up (va_up (va_up (fun _ => none) 0 (some t24.1)) 1 (some t26.1)) 2 (some t28.1)) 3 (some t30.1)))))))) := Kx.w15 _ _ _
  have r32 : (wR t31 (x + 15) (.inl (6, 4, .inr (.inr (.inr (.inr (va_up (va_up (va_up (va_up (fun _ => none) 0 (some t24.1)) 1 (some t26.1)) 2 (some t28.1)) 3 (some t30.1)))))))).2.1 x = _ := wx15 _ _ _ r31
  have y4 : (wR t31 (x + 15) (.inl (6, 4, .inr (.inr (.inr (.inr (va_up (va_up (va_up (va_up (fun _ => none) 0 (some t24.1)) 1 (some t26.1)) 2 (some t28.1)) 3 (some t30.1)))))))).2.1 (x + 15) = .inl (6, 4, .inr (.inr (.inr (.inr (va_up (va_up (va_up (va_up (fun _ => none) 0 (some t24.1)) 1 (some t26.1)) 2 (some t28.1)) 3 (some t30.1)))))) := wR_s _ _ _
  have c32 : (wR t31 (x + 15) (.inl (6, 4, .inr (.inr (.inr (.inr (va_up (va_up (va_up (va_up (fun _ => none) 0 (some t24.1)) 1 (some t26.1)) 2 (some t28.1)) 3 (some t30.1)))))))).1 = x + 20 := c31
  generalize wR t31 (x + 15) (.inl (6, 4, .inr (.inr (.inr (.inr (va_up (va_up (va_up (va_up (fun _ => none) 0 (some t24.1)) 1 (some t26.1)) 2 (some t28.1)) 3 (some t30.1))))))) = t32 at *
  have kz0 : t0.2.2 = s.2.2 := d0
  have kz1 : t1.2.2 = s.2.2 := k1.2.1.trans kz0
  have kz2 : t2.2.2 = s.2.2 := k2.2.1.trans kz1
  have kz3 : t3.2.2 = s.2.2 := k3.2.1.trans kz2
  have kz4 : t4.2.2 = s.2.2 := k4.2.1.trans kz3
  have kz5 : t5.2.2 = s.2.2 := k5.2.1.trans kz4
  have kz6 : t6.2.2 = s.2.2 := k6.2.1.trans kz5
  have kz7 : t7.2.2 = s.2.2 := k7.2.1.trans kz6
  have kz8 : t8.2.2 = s.2.2 := k8.2.1.trans kz7
  have kz9 : t9.2.2 = s.2.2 := k9.2.1.trans kz8
  have kz10 : t10.2.2 = s.2.2 := k10.2.1.trans kz9
  have kz11 : t11.2.2 = s.2.2 := k11.2.1.trans kz10
  have kz12 : t12.2.2 = s.2.2 := k12.2.1.trans kz11
  have kz13 : t13.2.2 = s.2.2 := k13.2.1.trans kz12
  have kz14 : t14.2.2 = s.2.2 := k14.2.1.trans kz13
  have kz15 : t15.2.2 = s.2.2 := k15.2.1.trans kz14
  have kz16 : t16.2.2 = s.2.2 := k16.2.1.trans kz15
  have kz17 : t17.2.2 = s.2.2 := k17.2.1.trans kz16
  have kz18 : t18.2.2 = s.2.2 := k18.2.1.trans kz17
  have kz19 : t19.2.2 = s.2.2 := k19.2.1.trans kz18
  have kz20 : t20.2.2 = s.2.2 := k20.2.1.trans kz19
  have kz21 : t21.2.2 = s.2.2 := k21.2.1.trans kz20
  have kz22 : t22.2.2 = s.2.2 := k22.2.1.trans kz21
  have kz23 : t23.2.2 = s.2.2 := k23.2.1.trans kz22
  have kz24 : t24.2.2 = s.2.2 := k24.2.1.trans kz23
  have kz25 : t25.2.2 = s.2.2 := k25.2.1.trans kz24
  have kz26 : t26.2.2 = s.2.2 := k26.2.1.trans kz25
  have kz27 : t27.2.2 = s.2.2 := k27.2.1.trans kz26
  have kz28 : t28.2.2 = s.2.2 := k28.2.1.trans kz27
  have kz29 : t29.2.2 = s.2.2 := k29.2.1.trans kz28
  have kz30 : t30.2.2 = s.2.2 := k30.2.1.trans kz29
  have kz31 : t31.2.2 = s.2.2 := k31.2.1.trans kz30
  have kz32 : t32.2.2 = s.2.2 := k32.2.1.trans kz31
  have kk32 : Kx x t32 t32 := Kx.refl _ _
  have kk31 : Kx x t31 t32 := k32.trans kk32
  have kk30 : Kx x t30 t32 := k31.trans kk31
  have kk29 : Kx x t29 t32 := k30.trans kk30
  have kk28 : Kx x t28 t32 := k29.trans kk29
  have kk27 : Kx x t27 t32 := k28.trans kk28
  have kk26 : Kx x t26 t32 := k27.trans kk27
  have kk25 : Kx x t25 t32 := k26.trans kk26
  have kk24 : Kx x t24 t32 := k25.trans kk25
  have kk23 : Kx x t23 t32 := k24.trans kk24
  have kk22 : Kx x t22 t32 := k23.trans kk23
  have kk21 : Kx x t21 t32 := k22.trans kk22
  have kk20 : Kx x t20 t32 := k21.trans kk21
  have kk19 : Kx x t19 t32 := k20.trans kk20
  have kk18 : Kx x t18 t32 := k19.trans kk19
  have kk17 : Kx x t17 t32 := k18.trans kk18
  have kk16 : Kx x t16 t32 := k17.trans kk17
  have kk15 : Kx x t15 t32 := k16.trans kk16
  have kk14 : Kx x t14 t32 := k15.trans kk15
  have kk13 : Kx x t13 t32 := k14.trans kk14
  have kk12 : Kx x t12 t32 := k13.trans kk13
  have kk11 : Kx x t11 t32 := k12.trans kk12
  have kk10 : Kx x t10 t32 := k11.trans kk11
  have kk9 : Kx x t9 t32 := k10.trans kk10
  have kk8 : Kx x t8 t32 := k9.trans kk9
  have kk7 : Kx x t7 t32 := k8.trans kk8
  have kk6 : Kx x t6 t32 := k7.trans kk7
  have kk5 : Kx x t5 t32 := k6.trans kk6
  have kk4 : Kx x t4 t32 := k5.trans kk5
  have kk3 : Kx x t3 t32 := k4.trans kk4
  have kk2 : Kx x t2 t32 := k3.trans kk3
  have kk1 : Kx x t1 t32 := k2.trans kk2
  have kk0 : Kx x t0 t32 := k1.trans kk1
  refine ⟨t32, rfl, c32, kk0.2.1.trans d0, trb c0 b0 kk0, A11_mk ?_ ?_ ?_ ?_, tr9 c8 q8 kk8, fun l hl => ?_, tr7 c20 q20 kk20, fun l hl => ?_⟩
  · rw [r32]
    refine congrArg (fun F => Sum.inr (13, F)) (funext fun k => ?_)
    match k with
    | 0 => rfl
    | 1 => rfl
    | 2 => rfl
    | 3 => rfl
    | 4 => rfl
    | 5 => rfl
    | 6 => rfl
    | 7 => rfl
    | 8 => rfl
    | 9 => rfl
    | 10 => rfl
    | 11 => rfl
    | 12 => rfl
    | 13 => rfl
    | 14 => rfl
    | 15 => rfl
    | 16 => rfl
    | 17 => rfl
    | 18 => rfl
    | k + 19 => rfl
  · exact trc (j := 1) (by decide) c2 q2 kk2
  · exact trc (j := 2) (by decide) c4 q4 kk4
  · rw [y4]
    refine congrArg (fun f => Sum.inl (6, 4, Sum.inr (Sum.inr (Sum.inr (Sum.inr f))))) (funext fun l => ?_)
    match l with
    | 0 => exact congrArg some c24
    | 1 => exact congrArg some c26
    | 2 => exact congrArg some c28
    | 3 => exact congrArg some c30
    | l + 4 => rfl
  · match l, hl with
    | 0, _ => exact trJ (l := 0) (by decide) c10 (by have qq := q10; rw [show t9.2.2 = s.2.2 from kz9] at qq; exact qq) kk10
    | 1, _ => exact trJ (l := 1) (by decide) c12 (by have qq := q12; rw [show t11.2.2 = s.2.2 from kz11] at qq; exact qq) kk12
    | 2, _ => exact trJ (l := 2) (by decide) c14 (by have qq := q14; rw [show t13.2.2 = s.2.2 from kz13] at qq; exact qq) kk14
    | 3, _ => exact trJ (l := 3) (by decide) c16 (by have qq := q16; rw [show t15.2.2 = s.2.2 from kz15] at qq; exact qq) kk16
    | 4, _ => exact trJ (l := 4) (by decide) c18 (by have qq := q18; rw [show t17.2.2 = s.2.2 from kz17] at qq; exact qq) kk18
    | l + 5, h => exact absurd h (Nat.not_lt.mpr (Nat.le_add_left _ _))
  · match l, hl with
    | 0, _ => exact tr2 (l := 0) (by decide) c25 q25 kk25
    | 1, _ => exact tr2 (l := 1) (by decide) c27 q27 kk27
    | 2, _ => exact tr2 (l := 2) (by decide) c29 q29 kk29
    | 3, _ => exact tr2 (l := 3) (by decide) c31 q31 kk31
    | l + 4, h => exact absurd h (Nat.not_lt.mpr (Nat.le_add_left _ _))
