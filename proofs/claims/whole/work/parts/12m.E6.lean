section
variable {P : Par} {x : Nat} {own : Nat → Nat} {σ : Hs} {R : Gs} {st : Int32}
def Par.bl (P : Par) : Prop := ∀ R, RW R → (∀ t s n, P.2.2 (u_tray R t s n) = P.2.2 R) ∧ (∀ t k v, P.2.2 (u_write R t k v) = P.2.2 R) ∧ (∀ w, P.2.2 (u_clock R (nC R) w) = P.2.2 R) ∧ (∀ s, P.2.2 (u_server R (nV R) s) = P.2.2 R) ∧ (∀ c t, P.2.2 (u_stamp R (nX R) c t) = P.2.2 R) ∧ (∀ l o f t, P.2.2 (u_land R l o f t) = P.2.2 R)
theorem RW_tray (hW : RW R) {t s n : Int32} (h : st_tray t s n = 0) : RW (u_tray R t s n) := by
  obtain ⟨w1, w2, w3, w4, w5, w6, w7, w8, w9, ⟨w10, w11⟩, w12⟩ := hW
  have hr : ¬ (t.toInt < 0 ∨ 4 ≤ t.toInt ∨ s.toInt < 0 ∨ 3 < s.toInt) ∧ n.toInt ≤ 40 ∧ 0 ≤ n.toInt := by
    unfold st_tray at h
    (repeat' split at h) <;> first | (exact absurd h (by decide)) | omega
  refine ⟨w1, w2, w3, w4, w5, w6, w7, w8, w9, ⟨?_, ?_⟩, w12⟩
  · intro u hu
    show -1 ≤ (up (ai R 3) t.toNatClampNeg n u).toInt ∧ (up (ai R 3) t.toNatClampNeg n u).toInt ≤ 40
    unfold up; split
    · omega
    · exact w10 u hu
  · intro u hu
    show 0 ≤ (up (ai R 3) t.toNatClampNeg n u).toInt → 0 ≤ (up (ai R 2) t.toNatClampNeg s u).toInt ∧ (up (ai R 2) t.toNatClampNeg s u).toInt ≤ 3
    unfold up; split
    · intro _; omega
    · exact w11 u hu
theorem both_status (hP : P.ok) (hI : Inv P x σ) : ∃ v σ2, fX11_status_0 σ x = some v ∧ fX12_status_0 σ (x + 20) = some (v, σ2) ∧ Inv P x σ2 := by
  obtain ⟨own, R, hE, hX, hW, h6⟩ := hI
  obtain ⟨R', q1, q2, q3, q4⟩ := r_status (x + 20) σ R
  rw [hE] at q1
  exact ⟨_, _, k_status hX, q1, inv_mk hP hX hW q3 q2 (q4 h6)⟩
theorem both_fault (hP : P.ok) (hI : Inv P x σ) (w : Int32) : ∃ v σ2, fX11_fault_0 σ x w = some v ∧ fX12_fault_0 σ (x + 20) w = some (v, σ2) ∧ Inv P x σ2 := by
  obtain ⟨own, R, hE, hX, hW, h6⟩ := hI
  obtain ⟨R', q1, q2, q3, q4⟩ := r_fault (x + 20) σ R w
  rw [hE] at q1
  exact ⟨_, _, k_fault hX w, q1, inv_mk hP hX hW q3 q2 (q4 h6)⟩
theorem both_tray (hP : P.ok) (hL : P.bl) (hI : Inv P x σ) (t s n : Int32) : ∃ v σ1 σ2, fX11_tray_0 σ x t s n = some (v, σ1) ∧ fX12_tray_0 σ1 (x + 20) t s n = some (v, σ2) ∧ Inv P x σ2 := by
  obtain ⟨own, R, hE, hX, hW, h6⟩ := hI
  obtain ⟨σ1, σ2, h1, h2, h3⟩ := arm_B (Y := fun y => fX12_tray_0 y (x + 20) t s n) hP h6 hE (k_tray hP hW hX (hL R hW).1 t s n) (fun ρ => r_tray (x + 20) ρ R t s n) (RW_ite (fun h => RW_tray hW h) hW)
  exact ⟨_, σ1, σ2, h1, h2, h3⟩
theorem RW_write (hW : RW R) {t k : Int32} {v : Int64} : RW (u_write R t k v) := hW
theorem both_write (hP : P.ok) (hL : P.bl) (hI : Inv P x σ) (t k : Int32) (v : Int64) : ∃ w σ1 σ2, fX11_write_0 σ x t k v = some (w, σ1) ∧ fX12_write_0 σ1 (x + 20) t k v = some (w, σ2) ∧ Inv P x σ2 := by
  obtain ⟨own, R, hE, hX, hW, h6⟩ := hI
  obtain ⟨σ1, σ2, h1, h2, h3⟩ := arm_B (Y := fun y => fX12_write_0 y (x + 20) t k v) hP h6 hE (k_write hP hW hX (hL R hW).2.1 t k v) (fun ρ => r_write (x + 20) ρ R hW.2.2.2.2.2.2.2.2.2.1.1 t k v) (RW_ite (fun _ => RW_write hW) hW)
  exact ⟨_, σ1, σ2, h1, h2, h3⟩
theorem cn_i {n : Nat} (h : n < 2147483648) {v : Int32} (e : v = Int32.ofNat n) : v.toNatClampNeg = n := by rw [e, c32 h]
theorem RW_clock (hW : RW R) {w : Int32} (h : st_clock (nC R) w = 0) : RW (u_clock R (nC R) w) := by
  obtain ⟨w1, w2, w3, ⟨a1, a2, a3, a4⟩, w5, ⟨b1, b2⟩, w7, ⟨c1, c2, c3, c4⟩, w9⟩ := hW
  have hr : nC R ≠ 12 ∧ 0 ≤ w.toInt ∧ w.toInt ≤ 3 := by
    unfold st_clock at h
    (repeat' split at h) <;> first | (exact absurd h (by decide)) | omega
  have en : nC (u_clock R (nC R) w) = nC R + 1 := cn_i (by omega) rfl
  refine ⟨w1, w2, w3, ⟨?_, ?_, ?_, ?_⟩, w5, ⟨?_, b2⟩, w7, ⟨c1, c2, ?_, c4⟩, w9⟩
  · rw [en]; rfl
  · omega
  · intro i hi
    show 0 ≤ (up (ai R 13) (nC R) w i).toInt ∧ (up (ai R 13) (nC R) w i).toInt ≤ 3
    unfold up; split
    · omega
    · exact a3 i (by omega)
  · intro i hi
    have := a4 i hi
    rw [en]; show 0 ≤ (ai R 14 i).toInt ∧ (ai R 14 i).toInt < _; omega
  · intro i hi
    have := b1 i hi
    rw [en]; show (0 ≤ (ai R 51 i).toInt ∧ (ai R 51 i).toInt < nV R) ∧ 0 ≤ (ai R 52 i).toInt ∧ (ai R 52 i).toInt < _; omega
  · intro i hi
    have := c3 i hi
    rw [en]; show (0 ≤ (ai R 58 i).toInt ∧ (ai R 58 i).toInt < _) ∧ 0 ≤ (ai R 59 i).toInt ∧ (ai R 59 i).toInt ≤ 900000000; omega
theorem both_clock (hP : P.ok) (hL : P.bl) (hI : Inv P x σ) (w : Int32) : ∃ v σ1 σ2, fX11_clock_0 σ x w = some (v, σ1) ∧ fX12_clock_0 σ1 (x + 20) w = some (v, σ2) ∧ Inv P x σ2 := by
  obtain ⟨own, R, hE, hX, hW, h6⟩ := hI
  obtain ⟨σ1, σ2, h1, h2, h3⟩ := arm_I (Y := fun y => fX12_clock_0 y (x + 20) w) hP h6 hE (k_clock hP hW hX (hL R hW).2.2.1 w) (fun ρ => r_clock hW.2.2.2.1.1 hW.2.2.2.1.2.1 w) (RW_ite (fun h => RW_clock hW h) hW)
  exact ⟨_, σ1, σ2, h1, h2, h3⟩
theorem RW_server (hW : RW R) {s : Int32} (h : st_server (nV R) s = 0) : RW (u_server R (nV R) s) := by
  obtain ⟨w1, w2, w3, w4, ⟨a1, a2⟩, ⟨b1, b2⟩, w7⟩ := hW
  have hr : nV R ≠ 8 := by
    unfold st_server at h
    (repeat' split at h) <;> first | (exact absurd h (by decide)) | omega
  have en : nV (u_server R (nV R) s) = nV R + 1 := cn_i (by omega) rfl
  refine ⟨w1, w2, w3, w4, ⟨?_, ?_⟩, ⟨?_, b2⟩, w7⟩
  · rw [en]; rfl
  · omega
  · intro i hi
    have := b1 i hi
    rw [en]; show (0 ≤ (ai R 51 i).toInt ∧ (ai R 51 i).toInt < _) ∧ 0 ≤ (ai R 52 i).toInt ∧ (ai R 52 i).toInt < nC R; omega
theorem both_server (hP : P.ok) (hL : P.bl) (hI : Inv P x σ) (s : Int32) : ∃ v σ1 σ2, fX11_server_0 σ x s = some (v, σ1) ∧ fX12_server_0 σ1 (x + 20) s = some (v, σ2) ∧ Inv P x σ2 := by
  obtain ⟨own, R, hE, hX, hW, h6⟩ := hI
  obtain ⟨σ1, σ2, h1, h2, h3⟩ := arm_I (Y := fun y => fX12_server_0 y (x + 20) s) hP h6 hE (k_server hP hW hX (hL R hW).2.2.2.1 s) (fun ρ => r_server hW.2.2.2.2.1.1 hW.2.2.2.2.1.2 s) (RW_ite (fun h => RW_server hW h) hW)
  exact ⟨_, σ1, σ2, h1, h2, h3⟩
theorem RW_step (hW : RW R) {c t : Int32} (h : st_step (nC R) (nS R) c t = 0) : RW (u_step R (nS R) c t) := by
  obtain ⟨w1, w2, ⟨a1, a2, a3⟩, ⟨b1, b2, b3, b4⟩, w5⟩ := hW
  have hr : (0 ≤ c.toInt ∧ c.toInt < nC R) ∧ (0 ≤ t.toInt ∧ t.toInt ≤ 900000000) ∧ nS R ≠ 60 := by
    unfold st_step at h
    (repeat' split at h) <;> first | (exact absurd h (by decide)) | omega
  have en : nS (u_step R (nS R) c t) = nS R + 1 := cn_i (by omega) rfl
  refine ⟨w1, w2, ⟨?_, ?_, ?_⟩, ⟨b1, b2, b3, ?_⟩, w5⟩
  · rw [en]; rfl
  · omega
  · intro i hi
    show 0 ≤ (up (ai R 15) (nS R) t i).toInt ∧ (up (ai R 15) (nS R) t i).toInt ≤ 900000000
    unfold up; split
    · omega
    · exact a3 i (by omega)
  · intro i hi
    show 0 ≤ (up (ai R 14) (nS R) c i).toInt ∧ (up (ai R 14) (nS R) c i).toInt < nC R
    unfold up; split
    · omega
    · exact b4 i (by omega)
theorem both_step (hP : P.ok) (hI : Inv P x σ) (c t : Int32) : ∃ v σ1 σ2, fX11_step_0 σ x c t = some (v, σ1) ∧ fX12_step_0 σ1 (x + 20) c t = some (v, σ2) ∧ Inv P x σ2 := by
  obtain ⟨own, R, hE, hX, hW, h6⟩ := hI
  obtain ⟨σ1, σ2, h1, h2, h3⟩ := arm_B (Y := fun y => fX12_step_0 y (x + 20) c t) hP h6 hE (k_step hP hW hX c t) (fun ρ => r_step hW.2.2.2.1.1 hW.2.2.2.1.2.1 hW.2.2.1.1 hW.2.2.1.2.1 c t) (RW_ite (fun h => RW_step hW h) hW)
  exact ⟨_, σ1, σ2, h1, h2, h3⟩
theorem up_lst (f : Nat → Int32) (n : Nat) (v : Int32) : up f n v n = v := if_pos rfl
theorem RW_notice (hW : RW R) {v c d k t : Int32} (h : st_notice R (nV R) (nC R) (nN R) v c d k t = 0) : RW (u_notice R (nN R) v c d k t) := by
  obtain ⟨w1, ⟨a1, a2, a3⟩, w3, w4, w5, ⟨b1, b2⟩, w7⟩ := hW
  have hr : ((0 ≤ v.toInt ∧ v.toInt < nV R) ∧ 0 ≤ c.toInt ∧ c.toInt < nC R) ∧ ((0 ≤ d.toInt ∧ d.toInt ≤ 9999) ∧ (k.toInt = 1 ∨ k.toInt = -1) ∧ 0 ≤ t.toInt ∧ t.toInt ≤ 900000000) ∧ nN R ≠ 60 := by
    unfold st_notice at h
    (repeat' split at h) <;> first | (exact absurd h (by decide)) | omega
  have en : nN (u_notice R (nN R) v c d k t) = nN R + 1 := cn_i (by omega) rfl
  refine ⟨w1, ⟨?_, ?_, ?_⟩, w3, w4, w5, ⟨?_, ?_⟩, w7⟩
  · rw [en]; rfl
  · omega
  · intro i hi
    show (0 ≤ (up (ai R 53) (nN R) d i).toInt ∧ (up (ai R 53) (nN R) d i).toInt ≤ 9999) ∧ ((up (ai R 54) (nN R) k i).toInt = 1 ∨ (up (ai R 54) (nN R) k i).toInt = -1) ∧ 0 ≤ (up (ai R 55) (nN R) t i).toInt ∧ (up (ai R 55) (nN R) t i).toInt ≤ 900000000
    by_cases q : i = nN R
    · subst q; simp only [up_lst]; exact hr.2.1
    · simp only [up_ne _ _ _ _ q]; exact a3 i (by omega)
  · intro i hi
    show (0 ≤ (up (ai R 51) (nN R) v i).toInt ∧ (up (ai R 51) (nN R) v i).toInt < nV R) ∧ 0 ≤ (up (ai R 52) (nN R) c i).toInt ∧ (up (ai R 52) (nN R) c i).toInt < nC R
    by_cases q : i = nN R
    · subst q; simp only [up_lst]; exact hr.1
    · simp only [up_ne _ _ _ _ q]; exact b1 i (by omega)
  · rw [en, if_neg (by omega)]
    show t = up (ai R 55) (nN R) t (nN R + 1 - 1)
    rw [show nN R + 1 - 1 = nN R by omega, up_lst]
theorem both_notice (hP : P.ok) (hI : Inv P x σ) (v c d k t : Int32) : ∃ w σ1 σ2, fX11_notice_0 σ x v c d k t = some (w, σ1) ∧ fX12_notice_0 σ1 (x + 20) v c d k t = some (w, σ2) ∧ Inv P x σ2 := by
  obtain ⟨own, R, hE, hX, hW, h6⟩ := hI
  obtain ⟨σ1, σ2, h1, h2, h3⟩ := arm_I (Y := fun y => fX12_notice_0 y (x + 20) v c d k t) hP h6 hE (k_notice hP hW hX v c d k t) (fun ρ => r_notice hW.2.2.2.2.1.1 hW.2.2.2.2.1.2 hW.2.2.2.1.1 hW.2.2.2.1.2.1 hW.2.1.1 hW.2.1.2.1 v c d k t) (RW_ite (fun h => RW_notice hW h) hW)
  exact ⟨_, σ1, σ2, h1, h2, h3⟩
theorem RW_stamp (hW : RW R) {c t : Int32} (h : st_stamp R (nC R) (nX R) c t = 0) : RW (u_stamp R (nX R) c t) := by
  obtain ⟨w1, w2, w3, w4, w5, w6, w7, ⟨a1, a2, a3, a4, a5⟩, w9⟩ := hW
  have hr : (0 ≤ c.toInt ∧ c.toInt < nC R) ∧ (0 ≤ t.toInt ∧ t.toInt ≤ 900000000) ∧ nX R ≠ 60 ∧ (fi R 57).toInt ≤ t.toInt := by
    unfold st_stamp at h
    (repeat' split at h) <;> first | (exact absurd h (by decide)) | omega
  have en : nX (u_stamp R (nX R) c t) = nX R + 1 := cn_i (by omega) rfl
  refine ⟨w1, w2, w3, w4, w5, w6, w7, ⟨?_, ?_, ?_, ?_, ?_⟩, w9⟩
  · rw [en]; rfl
  · omega
  · intro i hi
    show (0 ≤ (up (ai R 58) (nX R) c i).toInt ∧ (up (ai R 58) (nX R) c i).toInt < nC R) ∧ 0 ≤ (up (ai R 59) (nX R) t i).toInt ∧ (up (ai R 59) (nX R) t i).toInt ≤ 900000000
    by_cases q : i = nX R
    · subst q; simp only [up_lst]; exact ⟨hr.1, hr.2.1⟩
    · simp only [up_ne _ _ _ _ q]; exact a3 i (by omega)
  · rw [en]
    intro i j hij hj
    show (up (ai R 59) (nX R) t i).toInt ≤ (up (ai R 59) (nX R) t j).toInt
    by_cases q : j = nX R
    · subst q; rw [up_lst]
      by_cases p : i = nX R
      · subst p; rw [up_lst]; omega
      · rw [up_ne _ _ _ _ p]
        have h57 : fi R 57 = ai R 59 (nX R - 1) := by rw [a5, if_neg (by omega)]
        have h0 := hr.2.2.2
        rw [h57] at h0
        exact Int.le_trans (a4 i (nX R - 1) (by omega) (by omega)) h0
    · rw [up_ne _ _ _ _ q, up_ne _ _ _ _ (show i ≠ nX R by omega)]; exact a4 i j hij (by omega)
  · rw [en, if_neg (by omega)]
    show t = up (ai R 59) (nX R) t (nX R + 1 - 1)
    rw [show nX R + 1 - 1 = nX R by omega, up_lst]
theorem both_stamp (hP : P.ok) (hL : P.bl) (hI : Inv P x σ) (c t : Int32) : ∃ w σ1 σ2, fX11_stamp_0 σ x c t = some (w, σ1) ∧ fX12_stamp_0 σ1 (x + 20) c t = some (w, σ2) ∧ Inv P x σ2 := by
  obtain ⟨own, R, hE, hX, hW, h6⟩ := hI
  obtain ⟨σ1, σ2, h1, h2, h3⟩ := arm_I (Y := fun y => fX12_stamp_0 y (x + 20) c t) hP h6 hE (k_stamp hP hW hX (hL R hW).2.2.2.2.1 c t) (fun ρ => r_stamp hW.2.2.2.1.1 hW.2.2.2.1.2.1 hW.2.2.2.2.2.2.2.1.1 hW.2.2.2.2.2.2.2.1.2.1 c t) (RW_ite (fun h => RW_stamp hW h) hW)
  exact ⟨_, σ1, σ2, h1, h2, h3⟩
theorem RW_land (hW : RW R) {l o f t : Int32} (h : st_land l o f t = 0) : RW (u_land R l o f t) := by
  obtain ⟨w1, w2, w3, w4, w5, w6, w7, w8, w9, w10, w11, w12⟩ := hW
  have hr : (-720 ≤ o.toInt ∧ o.toInt ≤ 840) ∧ (0 ≤ f.toInt ∧ f.toInt ≤ 364) ∧ f.toInt ≤ t.toInt ∧ t.toInt ≤ 364 := by
    unfold st_land at h
    (repeat' split at h) <;> first | (exact absurd h (by decide)) | omega
  refine ⟨w1, w2, w3, w4, w5, w6, w7, w8, w9, w10, ?_, w12⟩
  intro u hu
  show (-720 ≤ (up (ai R 84) l.toNatClampNeg o u).toInt ∧ (up (ai R 84) l.toNatClampNeg o u).toInt ≤ 840) ∧ 0 ≤ (up (ai R 85) l.toNatClampNeg f u).toInt ∧ (up (ai R 85) l.toNatClampNeg f u).toInt ≤ (up (ai R 86) l.toNatClampNeg t u).toInt ∧ (up (ai R 86) l.toNatClampNeg t u).toInt ≤ 364
  by_cases q : u = l.toNatClampNeg
  · subst q; simp only [up_lst]; omega
  · simp only [up_ne _ _ _ _ q]; exact w11 u hu
theorem both_land (hP : P.ok) (hL : P.bl) (hI : Inv P x σ) (l o f t : Int32) : ∃ w σ1 σ2, fX11_land_0 σ x l o f t = some (w, σ1) ∧ fX12_land_0 σ1 (x + 20) l o f t = some (w, σ2) ∧ Inv P x σ2 := by
  obtain ⟨own, R, hE, hX, hW, h6⟩ := hI
  obtain ⟨σ1, σ2, h1, h2, h3⟩ := arm_B (Y := fun y => fX12_land_0 y (x + 20) l o f t) hP h6 hE (k_land hP hW hX (hL R hW).2.2.2.2.2 l o f t) (fun ρ => r_land (x + 20) ρ R l o f t) (RW_ite (fun h => RW_land hW h) hW)
  exact ⟨_, σ1, σ2, h1, h2, h3⟩
theorem both_table (hP : P.ok) (hB : Bel P x) (hI : Inv P x σ) (c d : Int32) : ∃ v σ1 σ2, fX11_table_0 σ x c d = some (v, σ1) ∧ fX12_table_0 σ1 (x + 20) c d = some (v, σ2) ∧ Inv P x σ2 := by
  obtain ⟨own, R, hE, hX, hW, h6⟩ := hI
  obtain ⟨hK, hH⟩ := hB R hW
  obtain ⟨σ1, σ2, h1, h2, h3⟩ := arm_I (Y := fun s => fX12_table_0 s (x + 20) c d) hP h6 hE (by rw [ite_self_R]; exact k_table hP hW hX hK c d) (fun ρ => r_table hW.1 hW.2.1 (hH ρ) hW.2.2.2.1.1 hW.2.2.2.1.2.1 h6 c d) (by rw [ite_self_R]; exact hW)
  exact ⟨_, σ1, σ2, h1, h2, h3⟩
theorem both_told (hP : P.ok) (hB : Bel P x) (hI : Inv P x σ) (n w : Int32) : ∃ v σ1 σ2, fX11_told_0 σ x n w = some (v, σ1) ∧ fX12_told__0 σ1 (x + 20) n w = some (v, σ2) ∧ Inv P x σ2 := by
  obtain ⟨own, R, hE, hX, hW, h6⟩ := hI
  obtain ⟨hK, hH⟩ := hB R hW
  obtain ⟨σ1, σ2, h1, h2, h3⟩ := arm_I (Y := fun s => fX12_told__0 s (x + 20) n w) hP h6 hE (by rw [ite_self_R]; exact k_told hP hW hX hK n w) (fun ρ => r_tld hW.1 hW.2.1 (hH ρ) h6 n w) (by rw [ite_self_R]; exact hW)
  exact ⟨_, σ1, σ2, h1, h2, h3⟩
theorem RW_leap (hW : RW R) {R' : Gs} {d k : Int32} (h : PLeap R R' (nL R) d k) : RW R' := by
  obtain ⟨hF, n', hL, _⟩ := h
  obtain ⟨w1, w2, w3, w4, w5, w6, w7, w8, w9, w10, w11, w12, w13⟩ := hW
  have e5 : nL R' = n' := nL_of hL.1 hL.2.1
  have q : nC R' = nC R ∧ nS R' = nS R ∧ nT R' = nT R ∧ nV R' = nV R ∧ nN R' = nN R ∧ nX R' = nX R := by
    unfold nC nS nT nV nN nX
    rw [hF.i 11 (by decide), hF.i 12 (by decide), hF.i 30 (by decide), hF.i 47 (by decide), hF.i 48 (by decide), hF.i 56 (by decide)]
    exact ⟨rfl, rfl, rfl, rfl, rfl, rfl⟩
  refine ⟨by rw [e5]; exact hL, ?_⟩
  unfold RN RSt RCl RSv RNx RTx RSx RTp RT RTs RLd RAn RFw at *
  rw [q.1, q.2.1, q.2.2.1, q.2.2.2.1, q.2.2.2.2.1, q.2.2.2.2.2]
  rw [hF.i 11 (by decide), hF.i 12 (by decide), hF.i 17 (by decide), hF.i 30 (by decide), hF.i 47 (by decide), hF.i 48 (by decide), hF.i 49 (by decide), hF.i 56 (by decide), hF.i 57 (by decide), hF.i 87 (by decide), hF.i 90 (by decide), hF.i 91 (by decide)]
  rw [hF.ai 2 (by decide), hF.ai 3 (by decide), hF.ai 13 (by decide), hF.ai 14 (by decide), hF.ai 15 (by decide), hF.ai 34 (by decide), hF.ai 35 (by decide), hF.ai 36 (by decide), hF.ai 51 (by decide), hF.ai 52 (by decide), hF.ai 53 (by decide), hF.ai 54 (by decide), hF.ai 55 (by decide), hF.ai 58 (by decide), hF.ai 59 (by decide), hF.ai 80 (by decide), hF.ai 81 (by decide), hF.ai 84 (by decide), hF.ai 85 (by decide), hF.ai 86 (by decide)]
  exact ⟨w2, w3, w4, w5, w6, w7, w8, w9, w10, w11, w12, w13⟩
theorem both_leap (hP : P.ok) (hI : Inv P x σ) (d k : Int32) : ∃ v σ1 σ2, fX11_leap_0 σ x d k = some (v, σ1) ∧ fX12_leap_0 σ1 (x + 20) d k = some (v, σ2) ∧ Inv P x σ2 := by
  obtain ⟨own, R, hE, hX, hW, h6⟩ := hI
  have hq := fun ρ => r_leap (m := x + 20) (ρ := ρ) hW.1 d k
  obtain ⟨Rq, q1, q2, q3, q4, q5⟩ := hq σ
  by_cases hs : st_leap (tru R (nL R)) (nL R) d k = 0
  · obtain ⟨σ1, own', k1, k2, k3⟩ := k_leap hP hW hX d k Rq (fun q => absurd hs q) (fun _ => q4 hs)
    have hE1 : eR (x + 20) σ1 R = σ1 := eR_in hE (fun a h1 h2 => k3.2 a h1 (by omega))
    obtain ⟨R2, p1, p2, p3, p4, p5⟩ := hq σ1
    rw [hE1] at p1
    obtain ⟨σ1', own2, k1', k2', k3'⟩ := k_leap hP hW hX d k R2 (fun q => absurd hs q) (fun _ => p4 hs)
    rw [k1] at k1'
    have e := congrArg Prod.snd (Option.some.inj k1')
    have e' : σ1' = σ1 := e.symm
    subst e'
    exact ⟨_, _, _, k1, p1, inv_mk hP k2' (RW_leap hW (p4 hs)) (Fr.refl _ _) p2 (p5 h6)⟩
  · obtain ⟨σ1, own', k1, k2, k3⟩ := k_leap hP hW hX d k R (fun _ => rfl) (fun q => absurd q hs)
    have hE1 : eR (x + 20) σ1 R = σ1 := eR_in hE (fun a h1 h2 => k3.2 a h1 (by omega))
    obtain ⟨R2, p1, p2, p3, p4, p5⟩ := hq σ1
    rw [hE1] at p1
    exact ⟨_, _, _, k1, p1, inv_mk hP k2 hW (p3 hs) p2 (p5 h6)⟩
end
