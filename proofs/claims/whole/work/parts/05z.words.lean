theorem tb_1 {w : Cond} (h : w ∈ tables_1_1) : w ∈ lw_tbl := List.mem_append_right _ (List.mem_append_left _ h)
theorem tb_2 {w : Cond} (h : w ∈ tables_1_2) : w ∈ lw_tbl := List.mem_append_right _ (List.mem_append_right _ (List.mem_append_left _ h))
theorem tb_3 {w : Cond} (h : w ∈ tables_1_3) : w ∈ lw_tbl := List.mem_append_right _ (List.mem_append_right _ (List.mem_append_right _ (List.mem_append_left _ h)))
theorem tb_4 {w : Cond} (h : w ∈ tables_1_4) : w ∈ lw_tbl := List.mem_append_right _ (List.mem_append_right _ (List.mem_append_right _ (List.mem_append_right _ (List.mem_append_left _ h))))
theorem tb_5 {w : Cond} (h : w ∈ tables_1_5) : w ∈ lw_tbl := List.mem_append_right _ (List.mem_append_right _ (List.mem_append_right _ (List.mem_append_right _ (List.mem_append_right _ (List.mem_append_left _ h)))))
theorem tb_6 {w : Cond} (h : w ∈ tables_1_6) : w ∈ lw_tbl := List.mem_append_right _ (List.mem_append_right _ (List.mem_append_right _ (List.mem_append_right _ (List.mem_append_right _ (List.mem_append_right _ (List.mem_append_left _ h))))))
theorem tb_7 {w : Cond} (h : w ∈ tables_1_7) : w ∈ lw_tbl := List.mem_append_right _ (List.mem_append_right _ (List.mem_append_right _ (List.mem_append_right _ (List.mem_append_right _ (List.mem_append_right _ (List.mem_append_right _ (List.mem_append_left _ h)))))))
theorem tb_8 {w : Cond} (h : w ∈ tables_1_8) : w ∈ lw_tbl := List.mem_append_right _ (List.mem_append_right _ (List.mem_append_right _ (List.mem_append_right _ (List.mem_append_right _ (List.mem_append_right _ (List.mem_append_right _ (List.mem_append_right _ (List.mem_append_left _ h))))))))
theorem tb_9 {w : Cond} (h : w ∈ tables_1_9) : w ∈ lw_tbl := List.mem_append_right _ (List.mem_append_right _ (List.mem_append_right _ (List.mem_append_right _ (List.mem_append_right _ (List.mem_append_right _ (List.mem_append_right _ (List.mem_append_right _ (List.mem_append_right _ (List.mem_append_left _ h)))))))))
theorem tb_10 {w : Cond} (h : w ∈ tables_1_10) : w ∈ lw_tbl := List.mem_append_right _ (List.mem_append_right _ (List.mem_append_right _ (List.mem_append_right _ (List.mem_append_right _ (List.mem_append_right _ (List.mem_append_right _ (List.mem_append_right _ (List.mem_append_right _ (List.mem_append_right _ (h))))))))))
theorem in_X0 : ∀ w ∈ u_ws RX0 TX0 6, w ∈ lw_good := by
  have h : ∀ k, k < 6 → u_lay RX0 TX0 k ∈ lw_good := by
    intro k hk
    match k, hk with
    | 0, _ => exact good_in (tb_6 (List.mem_of_getElem? (i := 144) rfl)) rfl
    | 1, _ => exact good_in (tb_6 (List.mem_of_getElem? (i := 146) rfl)) rfl
    | 2, _ => exact good_in (tb_6 (List.mem_of_getElem? (i := 148) rfl)) rfl
    | 3, _ => exact good_in (tb_6 (List.mem_of_getElem? (i := 150) rfl)) rfl
    | 4, _ => exact good_in (tb_6 (List.mem_of_getElem? (i := 152) rfl)) rfl
    | 5, _ => exact good_in (tb_6 (List.mem_of_getElem? (i := 154) rfl)) rfl
    | k + 6, h => exact absurd h (by omega)
  intro w hw
  obtain ⟨k, hk, rfl⟩ := List.mem_map.mp hw
  exact h k (List.mem_range.mp hk)
theorem kc_X0 : Kc 2 RX0 TX0 6 tyX0 := ⟨rfl, in_X0, tyX0_ok, nmX0⟩
theorem in_X9 : ∀ w ∈ u_ws RX9 TX9 7, w ∈ lw_good := by
  have h : ∀ k, k < 7 → u_lay RX9 TX9 k ∈ lw_good := by
    intro k hk
    match k, hk with
    | 0, _ => exact good_in (tb_1 (List.mem_of_getElem? (i := 58) rfl)) rfl
    | 1, _ => exact good_in (tb_1 (List.mem_of_getElem? (i := 60) rfl)) rfl
    | 2, _ => exact good_in (tb_1 (List.mem_of_getElem? (i := 62) rfl)) rfl
    | 3, _ => exact good_in (tb_1 (List.mem_of_getElem? (i := 64) rfl)) rfl
    | 4, _ => exact good_in (tb_1 (List.mem_of_getElem? (i := 66) rfl)) rfl
    | 5, _ => exact good_in (tb_1 (List.mem_of_getElem? (i := 68) rfl)) rfl
    | 6, _ => exact good_in (tb_1 (List.mem_of_getElem? (i := 70) rfl)) rfl
    | k + 7, h => exact absurd h (by omega)
  intro w hw
  obtain ⟨k, hk, rfl⟩ := List.mem_map.mp hw
  exact h k (List.mem_range.mp hk)
theorem kc_X9 : Kc 11 RX9 TX9 7 tyX9 := ⟨rfl, in_X9, tyX9_ok, nmX9⟩
theorem in_X1 : ∀ w ∈ u_ws RX1 TX1 5, w ∈ lw_good := by
  have h : ∀ k, k < 5 → u_lay RX1 TX1 k ∈ lw_good := by
    intro k hk
    match k, hk with
    | 0, _ => exact good_in (tb_2 (List.mem_of_getElem? (i := 161) rfl)) rfl
    | 1, _ => exact good_in (tb_2 (List.mem_of_getElem? (i := 163) rfl)) rfl
    | 2, _ => exact good_in (tb_2 (List.mem_of_getElem? (i := 165) rfl)) rfl
    | 3, _ => exact good_in (tb_2 (List.mem_of_getElem? (i := 167) rfl)) rfl
    | 4, _ => exact good_in (tb_2 (List.mem_of_getElem? (i := 169) rfl)) rfl
    | k + 5, h => exact absurd h (by omega)
  intro w hw
  obtain ⟨k, hk, rfl⟩ := List.mem_map.mp hw
  exact h k (List.mem_range.mp hk)
theorem kc_X1 : Kc 3 RX1 TX1 5 tyX1 := ⟨rfl, in_X1, tyX1_ok, nmX1⟩
theorem in_X2 : ∀ w ∈ u_ws RX2 TX2 3, w ∈ lw_good := by
  have h : ∀ k, k < 3 → u_lay RX2 TX2 k ∈ lw_good := by
    intro k hk
    match k, hk with
    | 0, _ => exact good_in (tb_1 (List.mem_of_getElem? (i := 155) rfl)) rfl
    | 1, _ => exact good_in (tb_1 (List.mem_of_getElem? (i := 157) rfl)) rfl
    | 2, _ => exact good_in (tb_1 (List.mem_of_getElem? (i := 159) rfl)) rfl
    | k + 3, h => exact absurd h (by omega)
  intro w hw
  obtain ⟨k, hk, rfl⟩ := List.mem_map.mp hw
  exact h k (List.mem_range.mp hk)
theorem kc_X2 : Kc 4 RX2 TX2 3 tyX2 := ⟨rfl, in_X2, tyX2_ok, nmX2⟩
theorem in_X3 : ∀ w ∈ u_ws RX3 TX3 7, w ∈ lw_good := by
  have h : ∀ k, k < 7 → u_lay RX3 TX3 k ∈ lw_good := by
    intro k hk
    match k, hk with
    | 0, _ => exact good_in (tb_5 (List.mem_of_getElem? (i := 108) rfl)) rfl
    | 1, _ => exact good_in (tb_5 (List.mem_of_getElem? (i := 110) rfl)) rfl
    | 2, _ => exact good_in (tb_5 (List.mem_of_getElem? (i := 112) rfl)) rfl
    | 3, _ => exact good_in (tb_5 (List.mem_of_getElem? (i := 114) rfl)) rfl
    | 4, _ => exact good_in (tb_5 (List.mem_of_getElem? (i := 116) rfl)) rfl
    | 5, _ => exact good_in (tb_5 (List.mem_of_getElem? (i := 118) rfl)) rfl
    | 6, _ => exact good_in (tb_5 (List.mem_of_getElem? (i := 120) rfl)) rfl
    | k + 7, h => exact absurd h (by omega)
  intro w hw
  obtain ⟨k, hk, rfl⟩ := List.mem_map.mp hw
  exact h k (List.mem_range.mp hk)
theorem kc_X3 : Kc 5 RX3 TX3 7 tyX3 := ⟨rfl, in_X3, tyX3_ok, nmX3⟩
theorem in_X4 : ∀ w ∈ u_ws RX4 TX4 6, w ∈ lw_good := by
  have h : ∀ k, k < 6 → u_lay RX4 TX4 k ∈ lw_good := by
    intro k hk
    match k, hk with
    | 0, _ => exact good_in (tb_5 (List.mem_of_getElem? (i := 231) rfl)) rfl
    | 1, _ => exact good_in (tb_5 (List.mem_of_getElem? (i := 233) rfl)) rfl
    | 2, _ => exact good_in (tb_5 (List.mem_of_getElem? (i := 235) rfl)) rfl
    | 3, _ => exact good_in (tb_5 (List.mem_of_getElem? (i := 237) rfl)) rfl
    | 4, _ => exact good_in (tb_5 (List.mem_of_getElem? (i := 239) rfl)) rfl
    | 5, _ => exact good_in (tb_6 (List.mem_of_getElem? (i := 1) rfl)) rfl
    | k + 6, h => exact absurd h (by omega)
  intro w hw
  obtain ⟨k, hk, rfl⟩ := List.mem_map.mp hw
  exact h k (List.mem_range.mp hk)
theorem kc_X4 : Kc 6 RX4 TX4 6 tyX4 := ⟨rfl, in_X4, tyX4_ok, nmX4⟩
theorem in_X5 : ∀ w ∈ u_ws RX5 TX5 11, w ∈ lw_good := by
  have h : ∀ k, k < 11 → u_lay RX5 TX5 k ∈ lw_good := by
    intro k hk
    match k, hk with
    | 0, _ => exact good_in (tb_3 (List.mem_of_getElem? (i := 189) rfl)) rfl
    | 1, _ => exact good_in (tb_3 (List.mem_of_getElem? (i := 191) rfl)) rfl
    | 2, _ => exact good_in (tb_3 (List.mem_of_getElem? (i := 193) rfl)) rfl
    | 3, _ => exact good_in (tb_3 (List.mem_of_getElem? (i := 195) rfl)) rfl
    | 4, _ => exact good_in (tb_3 (List.mem_of_getElem? (i := 197) rfl)) rfl
    | 5, _ => exact good_in (tb_3 (List.mem_of_getElem? (i := 199) rfl)) rfl
    | 6, _ => exact good_in (tb_3 (List.mem_of_getElem? (i := 201) rfl)) rfl
    | 7, _ => exact good_in (tb_3 (List.mem_of_getElem? (i := 203) rfl)) rfl
    | 8, _ => exact good_in (tb_3 (List.mem_of_getElem? (i := 205) rfl)) rfl
    | 9, _ => exact good_in (tb_3 (List.mem_of_getElem? (i := 207) rfl)) rfl
    | 10, _ => exact good_in (tb_3 (List.mem_of_getElem? (i := 209) rfl)) rfl
    | k + 11, h => exact absurd h (by omega)
  intro w hw
  obtain ⟨k, hk, rfl⟩ := List.mem_map.mp hw
  exact h k (List.mem_range.mp hk)
theorem kc_X5 : Kc 7 RX5 TX5 11 tyX5 := ⟨rfl, in_X5, tyX5_ok, nmX5⟩
theorem in_X6 : ∀ w ∈ u_ws RX6 TX6 14, w ∈ lw_good := by
  have h : ∀ k, k < 14 → u_lay RX6 TX6 k ∈ lw_good := by
    intro k hk
    match k, hk with
    | 0, _ => exact good_in (tb_4 (List.mem_of_getElem? (i := 125) rfl)) rfl
    | 1, _ => exact good_in (tb_4 (List.mem_of_getElem? (i := 127) rfl)) rfl
    | 2, _ => exact good_in (tb_4 (List.mem_of_getElem? (i := 129) rfl)) rfl
    | 3, _ => exact good_in (tb_4 (List.mem_of_getElem? (i := 131) rfl)) rfl
    | 4, _ => exact good_in (tb_4 (List.mem_of_getElem? (i := 133) rfl)) rfl
    | 5, _ => exact good_in (tb_4 (List.mem_of_getElem? (i := 135) rfl)) rfl
    | 6, _ => exact good_in (tb_4 (List.mem_of_getElem? (i := 137) rfl)) rfl
    | 7, _ => exact good_in (tb_4 (List.mem_of_getElem? (i := 139) rfl)) rfl
    | 8, _ => exact good_in (tb_4 (List.mem_of_getElem? (i := 141) rfl)) rfl
    | 9, _ => exact good_in (tb_4 (List.mem_of_getElem? (i := 143) rfl)) rfl
    | 10, _ => exact good_in (tb_4 (List.mem_of_getElem? (i := 145) rfl)) rfl
    | 11, _ => exact good_in (tb_4 (List.mem_of_getElem? (i := 147) rfl)) rfl
    | 12, _ => exact good_in (tb_4 (List.mem_of_getElem? (i := 149) rfl)) rfl
    | 13, _ => exact good_in (tb_4 (List.mem_of_getElem? (i := 151) rfl)) rfl
    | k + 14, h => exact absurd h (by omega)
  intro w hw
  obtain ⟨k, hk, rfl⟩ := List.mem_map.mp hw
  exact h k (List.mem_range.mp hk)
theorem kc_X6 : Kc 8 RX6 TX6 14 tyX6 := ⟨rfl, in_X6, tyX6_ok, nmX6⟩
theorem in_X7 : ∀ w ∈ u_ws RX7 TX7 10, w ∈ lw_good := by
  have h : ∀ k, k < 10 → u_lay RX7 TX7 k ∈ lw_good := by
    intro k hk
    match k, hk with
    | 0, _ => exact good_in (tb_1 (List.mem_of_getElem? (i := 123) rfl)) rfl
    | 1, _ => exact good_in (tb_1 (List.mem_of_getElem? (i := 125) rfl)) rfl
    | 2, _ => exact good_in (tb_1 (List.mem_of_getElem? (i := 127) rfl)) rfl
    | 3, _ => exact good_in (tb_1 (List.mem_of_getElem? (i := 129) rfl)) rfl
    | 4, _ => exact good_in (tb_1 (List.mem_of_getElem? (i := 131) rfl)) rfl
    | 5, _ => exact good_in (tb_1 (List.mem_of_getElem? (i := 133) rfl)) rfl
    | 6, _ => exact good_in (tb_1 (List.mem_of_getElem? (i := 135) rfl)) rfl
    | 7, _ => exact good_in (tb_1 (List.mem_of_getElem? (i := 137) rfl)) rfl
    | 8, _ => exact good_in (tb_1 (List.mem_of_getElem? (i := 139) rfl)) rfl
    | 9, _ => exact good_in (tb_1 (List.mem_of_getElem? (i := 141) rfl)) rfl
    | k + 10, h => exact absurd h (by omega)
  intro w hw
  obtain ⟨k, hk, rfl⟩ := List.mem_map.mp hw
  exact h k (List.mem_range.mp hk)
theorem kc_X7 : Kc 9 RX7 TX7 10 tyX7 := ⟨rfl, in_X7, tyX7_ok, nmX7⟩
theorem in_X8 : ∀ w ∈ u_ws RX8 TX8 3, w ∈ lw_good := by
  have h : ∀ k, k < 3 → u_lay RX8 TX8 k ∈ lw_good := by
    intro k hk
    match k, hk with
    | 0, _ => exact good_in (tb_5 (List.mem_of_getElem? (i := 171) rfl)) rfl
    | 1, _ => exact good_in (tb_5 (List.mem_of_getElem? (i := 173) rfl)) rfl
    | 2, _ => exact good_in (tb_5 (List.mem_of_getElem? (i := 175) rfl)) rfl
    | k + 3, h => exact absurd h (by omega)
  intro w hw
  obtain ⟨k, hk, rfl⟩ := List.mem_map.mp hw
  exact h k (List.mem_range.mp hk)
theorem kc_X8 : Kc 10 RX8 TX8 3 tyX8 := ⟨rfl, in_X8, tyX8_ok, nmX8⟩
theorem in_X10 : ∀ w ∈ u_ws RX10 TX10 2, w ∈ lw_good := by
  have h : ∀ k, k < 2 → u_lay RX10 TX10 k ∈ lw_good := by
    intro k hk
    match k, hk with
    | 0, _ => exact good_in (tb_2 (List.mem_of_getElem? (i := 6) rfl)) rfl
    | 1, _ => exact good_in (tb_2 (List.mem_of_getElem? (i := 8) rfl)) rfl
    | k + 2, h => exact absurd h (by omega)
  intro w hw
  obtain ⟨k, hk, rfl⟩ := List.mem_map.mp hw
  exact h k (List.mem_range.mp hk)
theorem kc_X10 : Kc 12 RX10 TX10 2 tyX10 := ⟨rfl, in_X10, tyX10_ok, nmX10⟩
theorem in_Jx4a65c : ∀ w ∈ u_ws RJx4a65c TJx4a65c 3, w ∈ lw_good := by
  have h : ∀ k, k < 3 → u_lay RJx4a65c TJx4a65c k ∈ lw_good := by
    intro k hk
    match k, hk with
    | 0, _ => exact good_in (tb_1 (List.mem_of_getElem? (i := 99) rfl)) rfl
    | 1, _ => exact good_in (tb_1 (List.mem_of_getElem? (i := 95) rfl)) rfl
    | 2, _ => exact good_in (tb_1 (List.mem_of_getElem? (i := 97) rfl)) rfl
    | k + 3, h => exact absurd h (by omega)
  intro w hw
  obtain ⟨k, hk, rfl⟩ := List.mem_map.mp hw
  exact h k (List.mem_range.mp hk)
theorem kc_Jx4a65c : Kc 1 RJx4a65c TJx4a65c 3 tyJx4a65c := ⟨rfl, in_Jx4a65c, tyJx4a65c_ok, nmJx4a65c⟩
theorem in_X11 : ∀ w ∈ u_ws RX11 TX11 19, w ∈ lw_good := by
  have h : ∀ k, k < 19 → u_lay RX11 TX11 k ∈ lw_good := by
    intro k hk
    match k, hk with
    | 0, _ => exact good_in (tb_1 (List.mem_of_getElem? (i := 181) rfl)) rfl
    | 1, _ => exact good_in (tb_1 (List.mem_of_getElem? (i := 183) rfl)) rfl
    | 2, _ => exact good_in (tb_1 (List.mem_of_getElem? (i := 185) rfl)) rfl
    | 3, _ => exact good_in (tb_1 (List.mem_of_getElem? (i := 187) rfl)) rfl
    | 4, _ => exact good_in (tb_1 (List.mem_of_getElem? (i := 189) rfl)) rfl
    | 5, _ => exact good_in (tb_1 (List.mem_of_getElem? (i := 191) rfl)) rfl
    | 6, _ => exact good_in (tb_1 (List.mem_of_getElem? (i := 193) rfl)) rfl
    | 7, _ => exact good_in (tb_1 (List.mem_of_getElem? (i := 195) rfl)) rfl
    | 8, _ => exact good_in (tb_1 (List.mem_of_getElem? (i := 197) rfl)) rfl
    | 9, _ => exact good_in (tb_1 (List.mem_of_getElem? (i := 199) rfl)) rfl
    | 10, _ => exact good_in (tb_1 (List.mem_of_getElem? (i := 201) rfl)) rfl
    | 11, _ => exact good_in (tb_1 (List.mem_of_getElem? (i := 203) rfl)) rfl
    | 12, _ => exact good_in (tb_1 (List.mem_of_getElem? (i := 205) rfl)) rfl
    | 13, _ => exact good_in (tb_1 (List.mem_of_getElem? (i := 207) rfl)) rfl
    | 14, _ => exact good_in (tb_1 (List.mem_of_getElem? (i := 209) rfl)) rfl
    | 15, _ => exact good_in (tb_1 (List.mem_of_getElem? (i := 211) rfl)) rfl
    | 16, _ => exact good_in (tb_1 (List.mem_of_getElem? (i := 213) rfl)) rfl
    | 17, _ => exact good_in (tb_1 (List.mem_of_getElem? (i := 215) rfl)) rfl
    | 18, _ => exact good_in (tb_1 (List.mem_of_getElem? (i := 217) rfl)) rfl
    | k + 19, h => exact absurd h (by omega)
  intro w hw
  obtain ⟨k, hk, rfl⟩ := List.mem_map.mp hw
  exact h k (List.mem_range.mp hk)
theorem kc_X11 : Kc 13 RX11 TX11 19 tyX11 := ⟨rfl, in_X11, tyX11_ok, nmX11⟩
theorem in_X12 : ∀ w ∈ u_ws RX12 TX12 106, w ∈ lw_good := by
  have h : ∀ k, k < 106 → u_lay RX12 TX12 k ∈ lw_good := by
    intro k hk
    match k, hk with
    | 0, _ => exact good_in (tb_7 (List.mem_of_getElem? (i := 116) rfl)) rfl
    | 1, _ => exact good_in (tb_7 (List.mem_of_getElem? (i := 118) rfl)) rfl
    | 2, _ => exact good_in (tb_7 (List.mem_of_getElem? (i := 120) rfl)) rfl
    | 3, _ => exact good_in (tb_7 (List.mem_of_getElem? (i := 122) rfl)) rfl
    | 4, _ => exact good_in (tb_7 (List.mem_of_getElem? (i := 124) rfl)) rfl
    | 5, _ => exact good_in (tb_7 (List.mem_of_getElem? (i := 126) rfl)) rfl
    | 6, _ => exact good_in (tb_7 (List.mem_of_getElem? (i := 128) rfl)) rfl
    | 7, _ => exact good_in (tb_7 (List.mem_of_getElem? (i := 130) rfl)) rfl
    | 8, _ => exact good_in (tb_7 (List.mem_of_getElem? (i := 132) rfl)) rfl
    | 9, _ => exact good_in (tb_7 (List.mem_of_getElem? (i := 134) rfl)) rfl
    | 10, _ => exact good_in (tb_7 (List.mem_of_getElem? (i := 136) rfl)) rfl
    | 11, _ => exact good_in (tb_7 (List.mem_of_getElem? (i := 138) rfl)) rfl
    | 12, _ => exact good_in (tb_7 (List.mem_of_getElem? (i := 140) rfl)) rfl
    | 13, _ => exact good_in (tb_7 (List.mem_of_getElem? (i := 142) rfl)) rfl
    | 14, _ => exact good_in (tb_7 (List.mem_of_getElem? (i := 144) rfl)) rfl
    | 15, _ => exact good_in (tb_7 (List.mem_of_getElem? (i := 146) rfl)) rfl
    | 16, _ => exact good_in (tb_7 (List.mem_of_getElem? (i := 148) rfl)) rfl
    | 17, _ => exact good_in (tb_7 (List.mem_of_getElem? (i := 150) rfl)) rfl
    | 18, _ => exact good_in (tb_7 (List.mem_of_getElem? (i := 152) rfl)) rfl
    | 19, _ => exact good_in (tb_7 (List.mem_of_getElem? (i := 154) rfl)) rfl
    | 20, _ => exact good_in (tb_7 (List.mem_of_getElem? (i := 156) rfl)) rfl
    | 21, _ => exact good_in (tb_7 (List.mem_of_getElem? (i := 158) rfl)) rfl
    | 22, _ => exact good_in (tb_7 (List.mem_of_getElem? (i := 160) rfl)) rfl
    | 23, _ => exact good_in (tb_7 (List.mem_of_getElem? (i := 162) rfl)) rfl
    | 24, _ => exact good_in (tb_7 (List.mem_of_getElem? (i := 164) rfl)) rfl
    | 25, _ => exact good_in (tb_7 (List.mem_of_getElem? (i := 166) rfl)) rfl
    | 26, _ => exact good_in (tb_7 (List.mem_of_getElem? (i := 168) rfl)) rfl
    | 27, _ => exact good_in (tb_7 (List.mem_of_getElem? (i := 170) rfl)) rfl
    | 28, _ => exact good_in (tb_7 (List.mem_of_getElem? (i := 172) rfl)) rfl
    | 29, _ => exact good_in (tb_7 (List.mem_of_getElem? (i := 174) rfl)) rfl
    | 30, _ => exact good_in (tb_7 (List.mem_of_getElem? (i := 176) rfl)) rfl
    | 31, _ => exact good_in (tb_7 (List.mem_of_getElem? (i := 178) rfl)) rfl
    | 32, _ => exact good_in (tb_7 (List.mem_of_getElem? (i := 180) rfl)) rfl
    | 33, _ => exact good_in (tb_7 (List.mem_of_getElem? (i := 182) rfl)) rfl
    | 34, _ => exact good_in (tb_7 (List.mem_of_getElem? (i := 184) rfl)) rfl
    | 35, _ => exact good_in (tb_7 (List.mem_of_getElem? (i := 186) rfl)) rfl
    | 36, _ => exact good_in (tb_7 (List.mem_of_getElem? (i := 188) rfl)) rfl
    | 37, _ => exact good_in (tb_7 (List.mem_of_getElem? (i := 190) rfl)) rfl
    | 38, _ => exact good_in (tb_7 (List.mem_of_getElem? (i := 192) rfl)) rfl
    | 39, _ => exact good_in (tb_7 (List.mem_of_getElem? (i := 194) rfl)) rfl
    | 40, _ => exact good_in (tb_7 (List.mem_of_getElem? (i := 196) rfl)) rfl
    | 41, _ => exact good_in (tb_7 (List.mem_of_getElem? (i := 198) rfl)) rfl
    | 42, _ => exact good_in (tb_7 (List.mem_of_getElem? (i := 200) rfl)) rfl
    | 43, _ => exact good_in (tb_7 (List.mem_of_getElem? (i := 202) rfl)) rfl
    | 44, _ => exact good_in (tb_7 (List.mem_of_getElem? (i := 204) rfl)) rfl
    | 45, _ => exact good_in (tb_7 (List.mem_of_getElem? (i := 206) rfl)) rfl
    | 46, _ => exact good_in (tb_7 (List.mem_of_getElem? (i := 208) rfl)) rfl
    | 47, _ => exact good_in (tb_7 (List.mem_of_getElem? (i := 210) rfl)) rfl
    | 48, _ => exact good_in (tb_7 (List.mem_of_getElem? (i := 212) rfl)) rfl
    | 49, _ => exact good_in (tb_7 (List.mem_of_getElem? (i := 214) rfl)) rfl
    | 50, _ => exact good_in (tb_7 (List.mem_of_getElem? (i := 216) rfl)) rfl
    | 51, _ => exact good_in (tb_7 (List.mem_of_getElem? (i := 218) rfl)) rfl
    | 52, _ => exact good_in (tb_7 (List.mem_of_getElem? (i := 220) rfl)) rfl
    | 53, _ => exact good_in (tb_7 (List.mem_of_getElem? (i := 222) rfl)) rfl
    | 54, _ => exact good_in (tb_7 (List.mem_of_getElem? (i := 224) rfl)) rfl
    | 55, _ => exact good_in (tb_7 (List.mem_of_getElem? (i := 226) rfl)) rfl
    | 56, _ => exact good_in (tb_7 (List.mem_of_getElem? (i := 228) rfl)) rfl
    | 57, _ => exact good_in (tb_7 (List.mem_of_getElem? (i := 230) rfl)) rfl
    | 58, _ => exact good_in (tb_7 (List.mem_of_getElem? (i := 232) rfl)) rfl
    | 59, _ => exact good_in (tb_7 (List.mem_of_getElem? (i := 234) rfl)) rfl
    | 60, _ => exact good_in (tb_7 (List.mem_of_getElem? (i := 236) rfl)) rfl
    | 61, _ => exact good_in (tb_7 (List.mem_of_getElem? (i := 238) rfl)) rfl
    | 62, _ => exact good_in (tb_8 (List.mem_of_getElem? (i := 0) rfl)) rfl
    | 63, _ => exact good_in (tb_8 (List.mem_of_getElem? (i := 2) rfl)) rfl
    | 64, _ => exact good_in (tb_8 (List.mem_of_getElem? (i := 4) rfl)) rfl
    | 65, _ => exact good_in (tb_8 (List.mem_of_getElem? (i := 6) rfl)) rfl
    | 66, _ => exact good_in (tb_8 (List.mem_of_getElem? (i := 8) rfl)) rfl
    | 67, _ => exact good_in (tb_8 (List.mem_of_getElem? (i := 10) rfl)) rfl
    | 68, _ => exact good_in (tb_8 (List.mem_of_getElem? (i := 12) rfl)) rfl
    | 69, _ => exact good_in (tb_8 (List.mem_of_getElem? (i := 14) rfl)) rfl
    | 70, _ => exact good_in (tb_8 (List.mem_of_getElem? (i := 16) rfl)) rfl
    | 71, _ => exact good_in (tb_8 (List.mem_of_getElem? (i := 18) rfl)) rfl
    | 72, _ => exact good_in (tb_8 (List.mem_of_getElem? (i := 20) rfl)) rfl
    | 73, _ => exact good_in (tb_8 (List.mem_of_getElem? (i := 22) rfl)) rfl
    | 74, _ => exact good_in (tb_8 (List.mem_of_getElem? (i := 24) rfl)) rfl
    | 75, _ => exact good_in (tb_8 (List.mem_of_getElem? (i := 26) rfl)) rfl
    | 76, _ => exact good_in (tb_8 (List.mem_of_getElem? (i := 28) rfl)) rfl
    | 77, _ => exact good_in (tb_8 (List.mem_of_getElem? (i := 30) rfl)) rfl
    | 78, _ => exact good_in (tb_8 (List.mem_of_getElem? (i := 32) rfl)) rfl
    | 79, _ => exact good_in (tb_8 (List.mem_of_getElem? (i := 34) rfl)) rfl
    | 80, _ => exact good_in (tb_8 (List.mem_of_getElem? (i := 36) rfl)) rfl
    | 81, _ => exact good_in (tb_8 (List.mem_of_getElem? (i := 38) rfl)) rfl
    | 82, _ => exact good_in (tb_8 (List.mem_of_getElem? (i := 40) rfl)) rfl
    | 83, _ => exact good_in (tb_8 (List.mem_of_getElem? (i := 42) rfl)) rfl
    | 84, _ => exact good_in (tb_8 (List.mem_of_getElem? (i := 44) rfl)) rfl
    | 85, _ => exact good_in (tb_8 (List.mem_of_getElem? (i := 46) rfl)) rfl
    | 86, _ => exact good_in (tb_8 (List.mem_of_getElem? (i := 48) rfl)) rfl
    | 87, _ => exact good_in (tb_8 (List.mem_of_getElem? (i := 50) rfl)) rfl
    | 88, _ => exact good_in (tb_8 (List.mem_of_getElem? (i := 52) rfl)) rfl
    | 89, _ => exact good_in (tb_8 (List.mem_of_getElem? (i := 54) rfl)) rfl
    | 90, _ => exact good_in (tb_8 (List.mem_of_getElem? (i := 56) rfl)) rfl
    | 91, _ => exact good_in (tb_8 (List.mem_of_getElem? (i := 58) rfl)) rfl
    | 92, _ => exact good_in (tb_8 (List.mem_of_getElem? (i := 60) rfl)) rfl
    | 93, _ => exact good_in (tb_8 (List.mem_of_getElem? (i := 62) rfl)) rfl
    | 94, _ => exact good_in (tb_8 (List.mem_of_getElem? (i := 64) rfl)) rfl
    | 95, _ => exact good_in (tb_8 (List.mem_of_getElem? (i := 66) rfl)) rfl
    | 96, _ => exact good_in (tb_8 (List.mem_of_getElem? (i := 68) rfl)) rfl
    | 97, _ => exact good_in (tb_8 (List.mem_of_getElem? (i := 70) rfl)) rfl
    | 98, _ => exact good_in (tb_8 (List.mem_of_getElem? (i := 72) rfl)) rfl
    | 99, _ => exact good_in (tb_8 (List.mem_of_getElem? (i := 74) rfl)) rfl
    | 100, _ => exact good_in (tb_8 (List.mem_of_getElem? (i := 76) rfl)) rfl
    | 101, _ => exact good_in (tb_8 (List.mem_of_getElem? (i := 78) rfl)) rfl
    | 102, _ => exact good_in (tb_8 (List.mem_of_getElem? (i := 80) rfl)) rfl
    | 103, _ => exact good_in (tb_8 (List.mem_of_getElem? (i := 82) rfl)) rfl
    | 104, _ => exact good_in (tb_8 (List.mem_of_getElem? (i := 84) rfl)) rfl
    | 105, _ => exact good_in (tb_8 (List.mem_of_getElem? (i := 86) rfl)) rfl
    | k + 106, h => exact absurd h (by omega)
  intro w hw
  obtain ⟨k, hk, rfl⟩ := List.mem_map.mp hw
  exact h k (List.mem_range.mp hk)
theorem kc_X12 : Kc 14 RX12 TX12 106 tyX12 := ⟨rfl, in_X12, tyX12_ok, nmX12⟩
theorem oi_X0_3 : Cond.methodLink RX0 3 Lib.objectInit ∈ lw_good := (good_in (tb_6 (List.mem_of_getElem? (i := 131) rfl)) rfl)
theorem oi_im : Cond.instanceMethod Lib.objectInit ∈ lw_good := (good_in (tb_1 (List.mem_of_getElem? (i := 36) rfl)) rfl)
theorem oi_code : Cond.code Lib.objectInit ⟨#[0xb1]⟩ 1 none ∈ lw_good := (good_in (tb_1 (List.mem_of_getElem? (i := 37) rfl)) rfl)
theorem lk_X0_9 : Lk RX0 9 yJ9_min_7cf53 := Or.inl (good_in (tb_6 (List.mem_of_getElem? (i := 132) rfl)) rfl)
theorem yk_J9_min_7cf53 : Yk yJ9_min_7cf53 cJ9_min_7cf53 2 (some .int) 2 := ⟨(good_in (tb_2 (List.mem_of_getElem? (i := 226) rfl)) rfl), (good_in (tb_1 (List.mem_of_getElem? (i := 10) rfl)) rfl), ⟨by decide +kernel, by decide +kernel⟩, by decide +kernel⟩
theorem ys_J9_min_7cf53 : Cond.static yJ9_min_7cf53 ∈ lw_good := (good_in (tb_2 (List.mem_of_getElem? (i := 225) rfl)) rfl)
theorem ff_X0_15 : Ff RX0 15 2 2 .int := ⟨_, _, _, _, "LeapNet$Answers", kc_X0, by decide, rfl, (good_in (tb_6 (List.mem_of_getElem? (i := 136) rfl)) rfl), rfl, rfl, rfl⟩
theorem fl_X0_15 : Fl RX0 15 2 2 := kc_X0.fl (ref := "LeapNet$Answers") (by decide) (Or.inl (good_in (tb_6 (List.mem_of_getElem? (i := 136) rfl)) rfl)) (Or.inl rfl)
theorem ac_long : Cond.arrayClass .long ∈ lw_good := (good_in (tb_1 (List.mem_of_getElem? (i := 75) rfl)) rfl)
theorem ff_X0_21 : Ff RX0 21 2 0 (.array .long) := ⟨_, _, _, _, "LeapNet$Answers", kc_X0, by decide, rfl, (good_in (tb_6 (List.mem_of_getElem? (i := 134) rfl)) rfl), rfl, rfl, rfl⟩
theorem ff_X0_25 : Ff RX0 25 2 1 (.array .long) := ⟨_, _, _, _, "LeapNet$Answers", kc_X0, by decide, rfl, (good_in (tb_6 (List.mem_of_getElem? (i := 135) rfl)) rfl), rfl, rfl, rfl⟩
theorem fl_X0_21 : Fl RX0 21 2 0 := kc_X0.fl (ref := "LeapNet$Answers") (by decide) (Or.inl (good_in (tb_6 (List.mem_of_getElem? (i := 134) rfl)) rfl)) (Or.inl rfl)
theorem acp_X0_28 : Cond.methodLink RX0 28 arraycopyName ∈ lw_good ∧ Cond.native arraycopyName ∈ lw_good ∧ Cond.static arraycopyName ∈ lw_good ∧ Cond.initialized "java/lang/System" ∈ lw_good := ⟨(good_in (tb_6 (List.mem_of_getElem? (i := 133) rfl)) rfl), (good_in (tb_2 (List.mem_of_getElem? (i := 50) rfl)) rfl), (good_in (tb_2 (List.mem_of_getElem? (i := 49) rfl)) rfl), (good_in (tb_1 (List.mem_of_getElem? (i := 11) rfl)) rfl)⟩
theorem fl_X0_25 : Fl RX0 25 2 1 := kc_X0.fl (ref := "LeapNet$Answers") (by decide) (Or.inl (good_in (tb_6 (List.mem_of_getElem? (i := 135) rfl)) rfl)) (Or.inl rfl)
theorem lk_X0_60 : Lk RX0 60 yX0_isIn := Or.inl (good_in (tb_6 (List.mem_of_getElem? (i := 165) rfl)) rfl)
theorem yk_X0_isIn : Yk yX0_isIn cX0_isIn 4 (some .boolean) 2 := ⟨(good_in (tb_6 (List.mem_of_getElem? (i := 168) rfl)) rfl), (good_in (tb_1 (List.mem_of_getElem? (i := 29) rfl)) rfl), ⟨by decide +kernel, by decide +kernel⟩, by decide +kernel⟩
theorem yv_X0_isIn : Cond.instanceMethod yX0_isIn ∈ lw_good ∧ Cond.selects yX0_isIn.cls yX0_isIn yX0_isIn ∈ lw_good := ⟨(good_in (tb_6 (List.mem_of_getElem? (i := 167) rfl)) rfl), (good_in (List.mem_append_left _ (by decide +kernel)) rfl)⟩
theorem kJ_X0_44 : Cond.constantLong RX0 44 1000000 ∈ lw_good := (good_in (tb_6 (List.mem_of_getElem? (i := 170) rfl)) rfl)
theorem fp_X0_46 : Fp RX0 46 2 4 .long := ⟨_, _, _, _, "LeapNet$Answers", kc_X0, by decide, rfl, Or.inl (good_in (tb_6 (List.mem_of_getElem? (i := 140) rfl)) rfl), Or.inl rfl, rfl⟩
theorem kJ_X0_50 : Cond.constantLong RX0 50 (-1000000) ∈ lw_good := (good_in (tb_6 (List.mem_of_getElem? (i := 171) rfl)) rfl)
theorem fp_X0_52 : Fp RX0 52 2 5 .long := ⟨_, _, _, _, "LeapNet$Answers", kc_X0, by decide, rfl, Or.inl (good_in (tb_6 (List.mem_of_getElem? (i := 142) rfl)) rfl), Or.inl rfl, rfl⟩
theorem fl_X0_34 : Fl RX0 34 2 3 := kc_X0.fl (ref := "LeapNet$Answers") (by decide) (Or.inl (good_in (tb_6 (List.mem_of_getElem? (i := 138) rfl)) rfl)) (Or.inl rfl)
theorem lk_X0_37 : Lk RX0 37 yX0_manyWith := Or.inl (good_in (tb_6 (List.mem_of_getElem? (i := 161) rfl)) rfl)
theorem yk_X0_manyWith : Yk yX0_manyWith cX0_manyWith 5 (some .int) 1 := ⟨(good_in (tb_6 (List.mem_of_getElem? (i := 164) rfl)) rfl), (good_in (tb_1 (List.mem_of_getElem? (i := 29) rfl)) rfl), ⟨by decide +kernel, by decide +kernel⟩, by decide +kernel⟩
theorem yv_X0_manyWith : Cond.instanceMethod yX0_manyWith ∈ lw_good ∧ Cond.selects yX0_manyWith.cls yX0_manyWith yX0_manyWith ∈ lw_good := ⟨(good_in (tb_6 (List.mem_of_getElem? (i := 163) rfl)) rfl), (good_in (List.mem_append_left _ (by decide +kernel)) rfl)⟩
theorem lk_X0_41 : Lk RX0 41 yJ9_max_7cf53 := Or.inl (good_in (tb_6 (List.mem_of_getElem? (i := 169) rfl)) rfl)
theorem yk_J9_max_7cf53 : Yk yJ9_max_7cf53 cJ9_max_7cf53 2 (some .int) 2 := ⟨(good_in (tb_2 (List.mem_of_getElem? (i := 1) rfl)) rfl), (good_in (tb_1 (List.mem_of_getElem? (i := 10) rfl)) rfl), ⟨by decide +kernel, by decide +kernel⟩, by decide +kernel⟩
theorem ys_J9_max_7cf53 : Cond.static yJ9_max_7cf53 ∈ lw_good := (good_in (tb_2 (List.mem_of_getElem? (i := 0) rfl)) rfl)
theorem fp_X0_34 : Fp RX0 34 2 3 .int := ⟨_, _, _, _, "LeapNet$Answers", kc_X0, by decide, rfl, Or.inl (good_in (tb_6 (List.mem_of_getElem? (i := 138) rfl)) rfl), Or.inl rfl, rfl⟩
theorem fl_X0_46 : Fl RX0 46 2 4 := kc_X0.fl (ref := "LeapNet$Answers") (by decide) (Or.inl (good_in (tb_6 (List.mem_of_getElem? (i := 140) rfl)) rfl)) (Or.inl rfl)
theorem lk_X0_55 : Lk RX0 55 yJ9_min_f86c9 := Or.inl (good_in (tb_6 (List.mem_of_getElem? (i := 172) rfl)) rfl)
theorem yk_J9_min_f86c9 : Yk yJ9_min_f86c9 cJ9_min_f86c9 4 (some .long) 2 := ⟨(good_in (tb_3 (List.mem_of_getElem? (i := 148) rfl)) rfl), (good_in (tb_1 (List.mem_of_getElem? (i := 10) rfl)) rfl), ⟨by decide +kernel, by decide +kernel⟩, by decide +kernel⟩
theorem ys_J9_min_f86c9 : Cond.static yJ9_min_f86c9 ∈ lw_good := (good_in (tb_3 (List.mem_of_getElem? (i := 147) rfl)) rfl)
theorem fl_X0_52 : Fl RX0 52 2 5 := kc_X0.fl (ref := "LeapNet$Answers") (by decide) (Or.inl (good_in (tb_6 (List.mem_of_getElem? (i := 142) rfl)) rfl)) (Or.inl rfl)
theorem lk_X0_58 : Lk RX0 58 yJ9_max_f86c9 := Or.inl (good_in (tb_6 (List.mem_of_getElem? (i := 173) rfl)) rfl)
theorem yk_J9_max_f86c9 : Yk yJ9_max_f86c9 cJ9_max_f86c9 4 (some .long) 2 := ⟨(good_in (tb_3 (List.mem_of_getElem? (i := 151) rfl)) rfl), (good_in (tb_1 (List.mem_of_getElem? (i := 10) rfl)) rfl), ⟨by decide +kernel, by decide +kernel⟩, by decide +kernel⟩
theorem ys_J9_max_f86c9 : Cond.static yJ9_max_f86c9 ∈ lw_good := (good_in (tb_3 (List.mem_of_getElem? (i := 150) rfl)) rfl)
theorem oi_X9_3 : Cond.methodLink RX9 3 Lib.objectInit ∈ lw_good := (good_in (tb_1 (List.mem_of_getElem? (i := 45) rfl)) rfl)
theorem ac_int : Cond.arrayClass .int ∈ lw_good := (good_in (tb_1 (List.mem_of_getElem? (i := 74) rfl)) rfl)
theorem ff_X9_9 : Ff RX9 9 11 0 (.array .int) := ⟨_, _, _, _, "LeapNet$Table", kc_X9, by decide, rfl, (good_in (tb_1 (List.mem_of_getElem? (i := 46) rfl)) rfl), rfl, rfl, rfl⟩
theorem ff_X9_15 : Ff RX9 15 11 1 (.array .int) := ⟨_, _, _, _, "LeapNet$Table", kc_X9, by decide, rfl, (good_in (tb_1 (List.mem_of_getElem? (i := 47) rfl)) rfl), rfl, rfl, rfl⟩
theorem ff_X9_18 : Ff RX9 18 11 2 (.array .long) := ⟨_, _, _, _, "LeapNet$Table", kc_X9, by decide, rfl, (good_in (tb_1 (List.mem_of_getElem? (i := 48) rfl)) rfl), rfl, rfl, rfl⟩
theorem oi_X1_3 : Cond.methodLink RX1 3 Lib.objectInit ∈ lw_good := (good_in (tb_2 (List.mem_of_getElem? (i := 151) rfl)) rfl)
theorem ff_X1_9 : Ff RX1 9 3 0 .int := ⟨_, _, _, _, "LeapNet$Clock", kc_X1, by decide, rfl, (good_in (tb_2 (List.mem_of_getElem? (i := 154) rfl)) rfl), rfl, rfl, rfl⟩
theorem cl_X1_15 : Cond.classLink RX1 15 RX9 ∈ lw_good := (good_in (tb_2 (List.mem_of_getElem? (i := 152) rfl)) rfl)
theorem in1_X9 : Cond.instantiable RX9 7 ∈ lw_good := (good_in (tb_1 (List.mem_of_getElem? (i := 41) rfl)) rfl)
theorem in2_X9 : Cond.initialized RX9 ∈ lw_good := (good_in (tb_1 (List.mem_of_getElem? (i := 2) rfl)) rfl)
theorem lk_X1_17 : Lk RX1 17 yX9_init := Or.inl (good_in (tb_2 (List.mem_of_getElem? (i := 153) rfl)) rfl)
theorem yk_X9_init : Yk yX9_init cX9_init 2 none 1 := ⟨(good_in (tb_1 (List.mem_of_getElem? (i := 44) rfl)) rfl), (good_in (tb_1 (List.mem_of_getElem? (i := 2) rfl)) rfl), ⟨by decide +kernel, by decide +kernel⟩, by decide +kernel⟩
theorem yi_X9_init : Cond.instanceMethod yX9_init ∈ lw_good ∧ yX9_init.name = "<init>" := ⟨(good_in (tb_1 (List.mem_of_getElem? (i := 43) rfl)) rfl), rfl⟩
theorem ff_X1_20 : Ff RX1 20 3 1 (.object "LeapNet$Table") := ⟨_, _, _, _, "LeapNet$Clock", kc_X1, by decide, rfl, (good_in (tb_2 (List.mem_of_getElem? (i := 156) rfl)) rfl), rfl, rfl, rfl⟩
theorem ff_X1_24 : Ff RX1 24 3 2 (.array .int) := ⟨_, _, _, _, "LeapNet$Clock", kc_X1, by decide, rfl, (good_in (tb_2 (List.mem_of_getElem? (i := 158) rfl)) rfl), rfl, rfl, rfl⟩
theorem ff_X1_28 : Ff RX1 28 3 3 (.array .int) := ⟨_, _, _, _, "LeapNet$Clock", kc_X1, by decide, rfl, (good_in (tb_2 (List.mem_of_getElem? (i := 159) rfl)) rfl), rfl, rfl, rfl⟩
theorem fl_X1_31 : Fl RX1 31 3 4 := kc_X1.fl (ref := "LeapNet$Clock") (by decide) (Or.inl (good_in (tb_2 (List.mem_of_getElem? (i := 160) rfl)) rfl)) (Or.inl rfl)
theorem fl_X1_24 : Fl RX1 24 3 2 := kc_X1.fl (ref := "LeapNet$Clock") (by decide) (Or.inl (good_in (tb_2 (List.mem_of_getElem? (i := 158) rfl)) rfl)) (Or.inl rfl)
theorem fp_X1_31 : Fp RX1 31 3 4 .int := ⟨_, _, _, _, "LeapNet$Clock", kc_X1, by decide, rfl, Or.inl (good_in (tb_2 (List.mem_of_getElem? (i := 160) rfl)) rfl), Or.inl rfl, rfl⟩
theorem kJ_X9_53 : Cond.constantLong RX9 53 86400 ∈ lw_good := (good_in (tb_2 (List.mem_of_getElem? (i := 98) rfl)) rfl)
theorem fp_X9_66 : Fp RX9 66 11 4 .int := ⟨_, _, _, _, "LeapNet$Table", kc_X9, by decide, rfl, Or.inl (good_in (tb_1 (List.mem_of_getElem? (i := 51) rfl)) rfl), Or.inl rfl, rfl⟩
theorem fp_X9_69 : Fp RX9 69 11 5 .int := ⟨_, _, _, _, "LeapNet$Table", kc_X9, by decide, rfl, Or.inl (good_in (tb_1 (List.mem_of_getElem? (i := 54) rfl)) rfl), Or.inl rfl, rfl⟩
theorem fp_X9_72 : Fp RX9 72 11 6 .int := ⟨_, _, _, _, "LeapNet$Table", kc_X9, by decide, rfl, Or.inl (good_in (tb_1 (List.mem_of_getElem? (i := 57) rfl)) rfl), Or.inl rfl, rfl⟩
theorem fl_X9_22 : Fl RX9 22 11 3 := kc_X9.fl (ref := "LeapNet$Table") (by decide) (Or.inl (good_in (tb_1 (List.mem_of_getElem? (i := 49) rfl)) rfl)) (Or.inl rfl)
theorem fl_X9_18 : Fl RX9 18 11 2 := kc_X9.fl (ref := "LeapNet$Table") (by decide) (Or.inl (good_in (tb_1 (List.mem_of_getElem? (i := 48) rfl)) rfl)) (Or.inl rfl)
theorem kK_X9_34 : Cond.constant RX9 34 86400 ∈ lw_good := (good_in (tb_2 (List.mem_of_getElem? (i := 115) rfl)) rfl)
theorem fl_X9_15 : Fl RX9 15 11 1 := kc_X9.fl (ref := "LeapNet$Table") (by decide) (Or.inl (good_in (tb_1 (List.mem_of_getElem? (i := 47) rfl)) rfl)) (Or.inl rfl)
theorem fl_X9_9 : Fl RX9 9 11 0 := kc_X9.fl (ref := "LeapNet$Table") (by decide) (Or.inl (good_in (tb_1 (List.mem_of_getElem? (i := 46) rfl)) rfl)) (Or.inl rfl)
theorem lk_X9_62 : Lk RX9 62 yX9_turnToPlainDay := Or.inl (good_in (tb_2 (List.mem_of_getElem? (i := 111) rfl)) rfl)
theorem yk_X9_turnToPlainDay : Yk yX9_turnToPlainDay cX9_turnToPlainDay 4 none 2 := ⟨(good_in (tb_2 (List.mem_of_getElem? (i := 114) rfl)) rfl), (good_in (tb_1 (List.mem_of_getElem? (i := 2) rfl)) rfl), ⟨by decide +kernel, by decide +kernel⟩, by decide +kernel⟩
theorem yv_X9_turnToPlainDay : Cond.instanceMethod yX9_turnToPlainDay ∈ lw_good ∧ Cond.selects yX9_turnToPlainDay.cls yX9_turnToPlainDay yX9_turnToPlainDay ∈ lw_good := ⟨(good_in (tb_2 (List.mem_of_getElem? (i := 113) rfl)) rfl), (good_in (List.mem_append_left _ (by decide +kernel)) rfl)⟩
theorem lk_X9_26 : Lk RX9 26 yX9_placeOf := Or.inl (good_in (tb_2 (List.mem_of_getElem? (i := 69) rfl)) rfl)
theorem yk_X9_placeOf : Yk yX9_placeOf cX9_placeOf 3 (some .int) 1 := ⟨(good_in (tb_2 (List.mem_of_getElem? (i := 72) rfl)) rfl), (good_in (tb_1 (List.mem_of_getElem? (i := 2) rfl)) rfl), ⟨by decide +kernel, by decide +kernel⟩, by decide +kernel⟩
theorem yv_X9_placeOf : Cond.instanceMethod yX9_placeOf ∈ lw_good ∧ Cond.selects yX9_placeOf.cls yX9_placeOf yX9_placeOf ∈ lw_good := ⟨(good_in (tb_2 (List.mem_of_getElem? (i := 71) rfl)) rfl), (good_in (List.mem_append_left _ (by decide +kernel)) rfl)⟩
theorem lk_X9_30 : Lk RX9 30 yX9_isAt := Or.inl (good_in (tb_2 (List.mem_of_getElem? (i := 73) rfl)) rfl)
theorem yk_X9_isAt : Yk yX9_isAt cX9_isAt 3 (some .boolean) 2 := ⟨(good_in (tb_2 (List.mem_of_getElem? (i := 76) rfl)) rfl), (good_in (tb_1 (List.mem_of_getElem? (i := 2) rfl)) rfl), ⟨by decide +kernel, by decide +kernel⟩, by decide +kernel⟩
theorem yv_X9_isAt : Cond.instanceMethod yX9_isAt ∈ lw_good ∧ Cond.selects yX9_isAt.cls yX9_isAt yX9_isAt ∈ lw_good := ⟨(good_in (tb_2 (List.mem_of_getElem? (i := 75) rfl)) rfl), (good_in (List.mem_append_left _ (by decide +kernel)) rfl)⟩
theorem lk_X9_35 : Lk RX9 35 yX9_kindOf := Or.inl (good_in (tb_2 (List.mem_of_getElem? (i := 134) rfl)) rfl)
theorem yk_X9_kindOf : Yk yX9_kindOf cX9_kindOf 3 (some .int) 1 := ⟨(good_in (tb_2 (List.mem_of_getElem? (i := 68) rfl)) rfl), (good_in (tb_1 (List.mem_of_getElem? (i := 2) rfl)) rfl), ⟨by decide +kernel, by decide +kernel⟩, by decide +kernel⟩
theorem yv_X9_kindOf : Cond.instanceMethod yX9_kindOf ∈ lw_good ∧ Cond.selects yX9_kindOf.cls yX9_kindOf yX9_kindOf ∈ lw_good := ⟨(good_in (tb_2 (List.mem_of_getElem? (i := 66) rfl)) rfl), (good_in (tb_2 (List.mem_of_getElem? (i := 67) rfl)) rfl)⟩
theorem lk_X9_55 : Lk RX9 55 yX9_lengthOf := Or.inl (good_in (tb_3 (List.mem_of_getElem? (i := 100) rfl)) rfl)
theorem yk_X9_lengthOf : Yk yX9_lengthOf cX9_lengthOf 2 (some .int) 1 := ⟨(good_in (tb_2 (List.mem_of_getElem? (i := 133) rfl)) rfl), (good_in (tb_1 (List.mem_of_getElem? (i := 2) rfl)) rfl), ⟨by decide +kernel, by decide +kernel⟩, by decide +kernel⟩
theorem yv_X9_lengthOf : Cond.instanceMethod yX9_lengthOf ∈ lw_good ∧ Cond.selects yX9_lengthOf.cls yX9_lengthOf yX9_lengthOf ∈ lw_good := ⟨(good_in (tb_2 (List.mem_of_getElem? (i := 131) rfl)) rfl), (good_in (tb_2 (List.mem_of_getElem? (i := 132) rfl)) rfl)⟩
theorem lk_X9_58 : Lk RX9 58 yX9_startOf := Or.inl (good_in (tb_3 (List.mem_of_getElem? (i := 101) rfl)) rfl)
theorem yk_X9_startOf : Yk yX9_startOf cX9_startOf 5 (some .long) 1 := ⟨(good_in (tb_2 (List.mem_of_getElem? (i := 128) rfl)) rfl), (good_in (tb_1 (List.mem_of_getElem? (i := 2) rfl)) rfl), ⟨by decide +kernel, by decide +kernel⟩, by decide +kernel⟩
theorem yv_X9_startOf : Cond.instanceMethod yX9_startOf ∈ lw_good ∧ Cond.selects yX9_startOf.cls yX9_startOf yX9_startOf ∈ lw_good := ⟨(good_in (tb_2 (List.mem_of_getElem? (i := 126) rfl)) rfl), (good_in (tb_2 (List.mem_of_getElem? (i := 127) rfl)) rfl)⟩
theorem lk_X1_34 : Lk RX1 34 yX9_turnTo := Or.inl (good_in (tb_3 (List.mem_of_getElem? (i := 95) rfl)) rfl)
theorem yk_X9_turnTo : Yk yX9_turnTo cX9_turnTo 7 none 1 := ⟨(good_in (tb_2 (List.mem_of_getElem? (i := 110) rfl)) rfl), (good_in (tb_1 (List.mem_of_getElem? (i := 2) rfl)) rfl), ⟨by decide +kernel, by decide +kernel⟩, by decide +kernel⟩
theorem yv_X9_turnTo : Cond.instanceMethod yX9_turnTo ∈ lw_good ∧ Cond.selects yX9_turnTo.cls yX9_turnTo yX9_turnTo ∈ lw_good := ⟨(good_in (tb_2 (List.mem_of_getElem? (i := 108) rfl)) rfl), (good_in (tb_2 (List.mem_of_getElem? (i := 109) rfl)) rfl)⟩
theorem fl_X1_28 : Fl RX1 28 3 3 := kc_X1.fl (ref := "LeapNet$Clock") (by decide) (Or.inl (good_in (tb_2 (List.mem_of_getElem? (i := 159) rfl)) rfl)) (Or.inl rfl)
theorem fl_X1_20 : Fl RX1 20 3 1 := kc_X1.fl (ref := "LeapNet$Clock") (by decide) (Or.inl (good_in (tb_2 (List.mem_of_getElem? (i := 156) rfl)) rfl)) (Or.inl rfl)
theorem fl_X1_38 : Fl RX1 38 11 4 := kc_X9.fl (ref := "LeapNet$Table") (by decide) (Or.inr ⟨"LeapNet", (nw_in (tb_1 (List.mem_of_getElem? (i := 50) rfl)) rfl)⟩) (Or.inl rfl)
theorem fl_X1_41 : Fl RX1 41 11 5 := kc_X9.fl (ref := "LeapNet$Table") (by decide) (Or.inr ⟨"LeapNet", (nw_in (tb_1 (List.mem_of_getElem? (i := 53) rfl)) rfl)⟩) (Or.inl rfl)
theorem lk_X1_44 : Lk RX1 44 yX9_nearestCount := Or.inl (good_in (tb_3 (List.mem_of_getElem? (i := 96) rfl)) rfl)
theorem yk_X9_nearestCount : Yk yX9_nearestCount cX9_nearestCount 3 (some .long) 2 := ⟨(good_in (tb_3 (List.mem_of_getElem? (i := 99) rfl)) rfl), (good_in (tb_1 (List.mem_of_getElem? (i := 2) rfl)) rfl), ⟨by decide +kernel, by decide +kernel⟩, by decide +kernel⟩
theorem yv_X9_nearestCount : Cond.instanceMethod yX9_nearestCount ∈ lw_good ∧ Cond.selects yX9_nearestCount.cls yX9_nearestCount yX9_nearestCount ∈ lw_good := ⟨(good_in (tb_3 (List.mem_of_getElem? (i := 97) rfl)) rfl), (good_in (tb_3 (List.mem_of_getElem? (i := 98) rfl)) rfl)⟩
theorem kJ_X11_235 : Cond.constantLong RX11 235 86400000 ∈ lw_good := (good_in (tb_3 (List.mem_of_getElem? (i := 115) rfl)) rfl)
theorem kJ_X11_239 : Cond.constantLong RX11 239 86399 ∈ lw_good := (good_in (tb_3 (List.mem_of_getElem? (i := 117) rfl)) rfl)
theorem kJ_X11_237 : Cond.constantLong RX11 237 86401 ∈ lw_good := (good_in (tb_3 (List.mem_of_getElem? (i := 116) rfl)) rfl)
theorem kK_X11_170 : Cond.constant RX11 170 86400 ∈ lw_good := (good_in (tb_2 (List.mem_of_getElem? (i := 124) rfl)) rfl)
theorem kJ_X11_241 : Cond.constantLong RX11 241 1000 ∈ lw_good := (good_in (tb_3 (List.mem_of_getElem? (i := 118) rfl)) rfl)
theorem kJ_X11_245 : Cond.constantLong RX11 245 86399999 ∈ lw_good := (good_in (tb_3 (List.mem_of_getElem? (i := 120) rfl)) rfl)
theorem kJ_X11_243 : Cond.constantLong RX11 243 86399000 ∈ lw_good := (good_in (tb_3 (List.mem_of_getElem? (i := 119) rfl)) rfl)
theorem lk_X1_48 : Lk RX1 48 yX1_leadAt := Or.inl (good_in (tb_3 (List.mem_of_getElem? (i := 106) rfl)) rfl)
theorem yk_X1_leadAt : Yk yX1_leadAt cX1_leadAt 4 (some .int) 1 := ⟨(good_in (tb_3 (List.mem_of_getElem? (i := 109) rfl)) rfl), (good_in (tb_1 (List.mem_of_getElem? (i := 12) rfl)) rfl), ⟨by decide +kernel, by decide +kernel⟩, by decide +kernel⟩
theorem yv_X1_leadAt : Cond.instanceMethod yX1_leadAt ∈ lw_good ∧ Cond.selects yX1_leadAt.cls yX1_leadAt yX1_leadAt ∈ lw_good := ⟨(good_in (tb_3 (List.mem_of_getElem? (i := 107) rfl)) rfl), (good_in (tb_3 (List.mem_of_getElem? (i := 108) rfl)) rfl)⟩
theorem lk_X1_52 : Lk RX1 52 yJ9_max_7cf53 := Or.inl (good_in (tb_3 (List.mem_of_getElem? (i := 110) rfl)) rfl)
theorem kJ_X1_58 : Cond.constantLong RX1 58 100000000 ∈ lw_good := (good_in (tb_3 (List.mem_of_getElem? (i := 111) rfl)) rfl)
theorem fl_X1_9 : Fl RX1 9 3 0 := kc_X1.fl (ref := "LeapNet$Clock") (by decide) (Or.inl (good_in (tb_2 (List.mem_of_getElem? (i := 154) rfl)) rfl)) (Or.inl rfl)
theorem fl_X1_60 : Fl RX1 60 11 6 := kc_X9.fl (ref := "LeapNet$Table") (by decide) (Or.inr ⟨"LeapNet", (nw_in (tb_1 (List.mem_of_getElem? (i := 56) rfl)) rfl)⟩) (Or.inl rfl)
theorem lk_X1_63 : Lk RX1 63 yX11_thousandthsShown := Or.inr ⟨"LeapNet", (nw_in (tb_3 (List.mem_of_getElem? (i := 112) rfl)) rfl)⟩
theorem yk_X11_thousandthsShown : Yk yX11_thousandthsShown cX11_thousandthsShown 3 (some .long) 3 := ⟨(good_in (tb_3 (List.mem_of_getElem? (i := 114) rfl)) rfl), (good_in (tb_1 (List.mem_of_getElem? (i := 1) rfl)) rfl), ⟨by decide +kernel, by decide +kernel⟩, by decide +kernel⟩
theorem ys_X11_thousandthsShown : Cond.static yX11_thousandthsShown ∈ lw_good := (good_in (tb_3 (List.mem_of_getElem? (i := 113) rfl)) rfl)
theorem oi_X2_3 : Cond.methodLink RX2 3 Lib.objectInit ∈ lw_good := (good_in (tb_1 (List.mem_of_getElem? (i := 150) rfl)) rfl)
theorem ff_X2_9 : Ff RX2 9 4 0 .int := ⟨_, _, _, _, "LeapNet$Land", kc_X2, by decide, rfl, (good_in (tb_1 (List.mem_of_getElem? (i := 151) rfl)) rfl), rfl, rfl, rfl⟩
theorem ff_X2_15 : Ff RX2 15 4 1 .int := ⟨_, _, _, _, "LeapNet$Land", kc_X2, by decide, rfl, (good_in (tb_1 (List.mem_of_getElem? (i := 153) rfl)) rfl), rfl, rfl, rfl⟩
theorem ff_X2_18 : Ff RX2 18 4 2 .int := ⟨_, _, _, _, "LeapNet$Land", kc_X2, by decide, rfl, (good_in (tb_1 (List.mem_of_getElem? (i := 154) rfl)) rfl), rfl, rfl, rfl⟩
theorem kK_X2_29 : Cond.constant RX2 29 525600 ∈ lw_good := (good_in (tb_6 (List.mem_of_getElem? (i := 231) rfl)) rfl)
theorem lk_X2_30 : Lk RX2 30 yJ9_floorMod_7cf53 := Or.inl (good_in (tb_6 (List.mem_of_getElem? (i := 232) rfl)) rfl)
theorem yk_J9_floorMod_7cf53 : Yk yJ9_floorMod_7cf53 cJ9_floorMod_7cf53 3 (some .int) 2 := ⟨(good_in (tb_6 (List.mem_of_getElem? (i := 234) rfl)) rfl), (good_in (tb_1 (List.mem_of_getElem? (i := 10) rfl)) rfl), ⟨by decide +kernel, by decide +kernel⟩, by decide +kernel⟩
theorem ys_J9_floorMod_7cf53 : Cond.static yJ9_floorMod_7cf53 ∈ lw_good := (good_in (tb_6 (List.mem_of_getElem? (i := 233) rfl)) rfl)
theorem fl_X2_15 : Fl RX2 15 4 1 := kc_X2.fl (ref := "LeapNet$Land") (by decide) (Or.inl (good_in (tb_1 (List.mem_of_getElem? (i := 153) rfl)) rfl)) (Or.inl rfl)
theorem fl_X2_18 : Fl RX2 18 4 2 := kc_X2.fl (ref := "LeapNet$Land") (by decide) (Or.inl (good_in (tb_1 (List.mem_of_getElem? (i := 154) rfl)) rfl)) (Or.inl rfl)
theorem lk_X2_21 : Lk RX2 21 yX2_isSummer := Or.inl (good_in (tb_6 (List.mem_of_getElem? (i := 227) rfl)) rfl)
theorem yk_X2_isSummer : Yk yX2_isSummer cX2_isSummer 3 (some .boolean) 1 := ⟨(good_in (tb_6 (List.mem_of_getElem? (i := 230) rfl)) rfl), (good_in (tb_1 (List.mem_of_getElem? (i := 7) rfl)) rfl), ⟨by decide +kernel, by decide +kernel⟩, by decide +kernel⟩
theorem yv_X2_isSummer : Cond.instanceMethod yX2_isSummer ∈ lw_good ∧ Cond.selects yX2_isSummer.cls yX2_isSummer yX2_isSummer ∈ lw_good := ⟨(good_in (tb_6 (List.mem_of_getElem? (i := 229) rfl)) rfl), (good_in (List.mem_append_left _ (by decide +kernel)) rfl)⟩
theorem lk_X2_25 : Lk RX2 25 yX2_localOf := Or.inl (good_in (tb_7 (List.mem_of_getElem? (i := 3) rfl)) rfl)
theorem yk_X2_localOf : Yk yX2_localOf cX2_localOf 2 (some .int) 1 := ⟨(good_in (tb_6 (List.mem_of_getElem? (i := 226) rfl)) rfl), (good_in (tb_1 (List.mem_of_getElem? (i := 7) rfl)) rfl), ⟨by decide +kernel, by decide +kernel⟩, by decide +kernel⟩
theorem yv_X2_localOf : Cond.instanceMethod yX2_localOf ∈ lw_good ∧ Cond.selects yX2_localOf.cls yX2_localOf yX2_localOf ∈ lw_good := ⟨(good_in (tb_6 (List.mem_of_getElem? (i := 224) rfl)) rfl), (good_in (tb_6 (List.mem_of_getElem? (i := 225) rfl)) rfl)⟩
theorem oi_X3_1 : Cond.methodLink RX3 1 Lib.objectInit ∈ lw_good := (good_in (tb_5 (List.mem_of_getElem? (i := 93) rfl)) rfl)
theorem ff_X3_7 : Ff RX3 7 5 0 .int := ⟨_, _, _, _, "LeapNet$Notice", kc_X3, by decide, rfl, (good_in (tb_5 (List.mem_of_getElem? (i := 94) rfl)) rfl), rfl, rfl, rfl⟩
theorem ff_X3_13 : Ff RX3 13 5 1 .int := ⟨_, _, _, _, "LeapNet$Notice", kc_X3, by decide, rfl, (good_in (tb_5 (List.mem_of_getElem? (i := 96) rfl)) rfl), rfl, rfl, rfl⟩
theorem ff_X3_16 : Ff RX3 16 5 2 .int := ⟨_, _, _, _, "LeapNet$Notice", kc_X3, by decide, rfl, (good_in (tb_5 (List.mem_of_getElem? (i := 98) rfl)) rfl), rfl, rfl, rfl⟩
theorem ff_X3_19 : Ff RX3 19 5 3 .int := ⟨_, _, _, _, "LeapNet$Notice", kc_X3, by decide, rfl, (good_in (tb_5 (List.mem_of_getElem? (i := 100) rfl)) rfl), rfl, rfl, rfl⟩
theorem ff_X3_22 : Ff RX3 22 5 4 .int := ⟨_, _, _, _, "LeapNet$Notice", kc_X3, by decide, rfl, (good_in (tb_5 (List.mem_of_getElem? (i := 102) rfl)) rfl), rfl, rfl, rfl⟩
theorem fl_X3_25 : Fl RX3 25 5 5 := kc_X3.fl (ref := "LeapNet$Notice") (by decide) (Or.inl (good_in (tb_5 (List.mem_of_getElem? (i := 104) rfl)) rfl)) (Or.inl rfl)
theorem fl_X3_29 : Fl RX3 29 5 6 := kc_X3.fl (ref := "LeapNet$Notice") (by decide) (Or.inl (good_in (tb_5 (List.mem_of_getElem? (i := 106) rfl)) rfl)) (Or.inl rfl)
theorem fl_X3_13 : Fl RX3 13 5 1 := kc_X3.fl (ref := "LeapNet$Notice") (by decide) (Or.inl (good_in (tb_5 (List.mem_of_getElem? (i := 96) rfl)) rfl)) (Or.inl rfl)
theorem fl_X3_16 : Fl RX3 16 5 2 := kc_X3.fl (ref := "LeapNet$Notice") (by decide) (Or.inl (good_in (tb_5 (List.mem_of_getElem? (i := 98) rfl)) rfl)) (Or.inl rfl)
theorem oi_X4_1 : Cond.methodLink RX4 1 Lib.objectInit ∈ lw_good := (good_in (tb_5 (List.mem_of_getElem? (i := 219) rfl)) rfl)
theorem ff_X4_7 : Ff RX4 7 6 0 (.object "LeapNet$Reader") := ⟨_, _, _, _, "LeapNet$Program", kc_X4, by decide, rfl, (good_in (tb_5 (List.mem_of_getElem? (i := 220) rfl)) rfl), rfl, rfl, rfl⟩
theorem ff_X4_13 : Ff RX4 13 6 1 (.array .int) := ⟨_, _, _, _, "LeapNet$Program", kc_X4, by decide, rfl, (good_in (tb_5 (List.mem_of_getElem? (i := 221) rfl)) rfl), rfl, rfl, rfl⟩
theorem ff_X4_17 : Ff RX4 17 6 2 (.array .int) := ⟨_, _, _, _, "LeapNet$Program", kc_X4, by decide, rfl, (good_in (tb_5 (List.mem_of_getElem? (i := 223) rfl)) rfl), rfl, rfl, rfl⟩
theorem ff_X4_20 : Ff RX4 20 6 3 (.array .int) := ⟨_, _, _, _, "LeapNet$Program", kc_X4, by decide, rfl, (good_in (tb_5 (List.mem_of_getElem? (i := 225) rfl)) rfl), rfl, rfl, rfl⟩
theorem fl_X5_56 : Fl RX5 56 7 9 := kc_X5.fl (ref := "LeapNet$Reader") (by decide) (Or.inl (good_in (tb_3 (List.mem_of_getElem? (i := 185) rfl)) rfl)) (Or.inl rfl)
theorem fl_X5_31 : Fl RX5 31 7 3 := kc_X5.fl (ref := "LeapNet$Reader") (by decide) (Or.inl (good_in (tb_3 (List.mem_of_getElem? (i := 177) rfl)) rfl)) (Or.inl rfl)
theorem fl_X5_59 : Fl RX5 59 7 8 := kc_X5.fl (ref := "LeapNet$Reader") (by decide) (Or.inl (good_in (tb_3 (List.mem_of_getElem? (i := 184) rfl)) rfl)) (Or.inl rfl)
theorem fl_X5_35 : Fl RX5 35 7 4 := kc_X5.fl (ref := "LeapNet$Reader") (by decide) (Or.inl (good_in (tb_3 (List.mem_of_getElem? (i := 178) rfl)) rfl)) (Or.inl rfl)
theorem fl_X4_7 : Fl RX4 7 6 0 := kc_X4.fl (ref := "LeapNet$Program") (by decide) (Or.inl (good_in (tb_5 (List.mem_of_getElem? (i := 220) rfl)) rfl)) (Or.inl rfl)
theorem lk_X4_42 : Lk RX4 42 yX5_isFine := Or.inl (good_in (tb_6 (List.mem_of_getElem? (i := 16) rfl)) rfl)
theorem yk_X5_isFine : Yk yX5_isFine cX5_isFine 1 (some .boolean) 0 := ⟨(good_in (tb_4 (List.mem_of_getElem? (i := 162) rfl)) rfl), (good_in (tb_1 (List.mem_of_getElem? (i := 18) rfl)) rfl), ⟨by decide +kernel, by decide +kernel⟩, by decide +kernel⟩
theorem yv_X5_isFine : Cond.instanceMethod yX5_isFine ∈ lw_good ∧ Cond.selects yX5_isFine.cls yX5_isFine yX5_isFine ∈ lw_good := ⟨(good_in (tb_4 (List.mem_of_getElem? (i := 160) rfl)) rfl), (good_in (tb_4 (List.mem_of_getElem? (i := 161) rfl)) rfl)⟩
theorem lk_X4_27 : Lk RX4 27 yX5_isEnd := Or.inl (good_in (tb_6 (List.mem_of_getElem? (i := 17) rfl)) rfl)
theorem yk_X5_isEnd : Yk yX5_isEnd cX5_isEnd 1 (some .boolean) 0 := ⟨(good_in (tb_4 (List.mem_of_getElem? (i := 166) rfl)) rfl), (good_in (tb_1 (List.mem_of_getElem? (i := 18) rfl)) rfl), ⟨by decide +kernel, by decide +kernel⟩, by decide +kernel⟩
theorem yv_X5_isEnd : Cond.instanceMethod yX5_isEnd ∈ lw_good ∧ Cond.selects yX5_isEnd.cls yX5_isEnd yX5_isEnd ∈ lw_good := ⟨(good_in (tb_4 (List.mem_of_getElem? (i := 164) rfl)) rfl), (good_in (tb_4 (List.mem_of_getElem? (i := 165) rfl)) rfl)⟩
theorem lk_X4_45 : Lk RX4 45 yX5_isSign := Or.inl (good_in (tb_6 (List.mem_of_getElem? (i := 18) rfl)) rfl)
theorem yk_X5_isSign : Yk yX5_isSign cX5_isSign 2 (some .boolean) 1 := ⟨(good_in (tb_4 (List.mem_of_getElem? (i := 224) rfl)) rfl), (good_in (tb_1 (List.mem_of_getElem? (i := 18) rfl)) rfl), ⟨by decide +kernel, by decide +kernel⟩, by decide +kernel⟩
theorem yv_X5_isSign : Cond.instanceMethod yX5_isSign ∈ lw_good ∧ Cond.selects yX5_isSign.cls yX5_isSign yX5_isSign ∈ lw_good := ⟨(good_in (tb_4 (List.mem_of_getElem? (i := 222) rfl)) rfl), (good_in (tb_4 (List.mem_of_getElem? (i := 223) rfl)) rfl)⟩
theorem fp_X5_56 : Fp RX5 56 7 9 .int := ⟨_, _, _, _, "LeapNet$Reader", kc_X5, by decide, rfl, Or.inl (good_in (tb_3 (List.mem_of_getElem? (i := 185) rfl)) rfl), Or.inl rfl, rfl⟩
theorem fl_X5_38 : Fl RX5 38 7 5 := kc_X5.fl (ref := "LeapNet$Reader") (by decide) (Or.inl (good_in (tb_3 (List.mem_of_getElem? (i := 179) rfl)) rfl)) (Or.inl rfl)
theorem fp_X5_44 : Fp RX5 44 7 10 .int := ⟨_, _, _, _, "LeapNet$Reader", kc_X5, by decide, rfl, Or.inl (good_in (tb_3 (List.mem_of_getElem? (i := 187) rfl)) rfl), Or.inl rfl, rfl⟩
theorem fl_X5_62 : Fl RX5 62 7 7 := kc_X5.fl (ref := "LeapNet$Reader") (by decide) (Or.inl (good_in (tb_3 (List.mem_of_getElem? (i := 182) rfl)) rfl)) (Or.inl rfl)
theorem fp_X5_59 : Fp RX5 59 7 8 .int := ⟨_, _, _, _, "LeapNet$Reader", kc_X5, by decide, rfl, Or.inl (good_in (tb_3 (List.mem_of_getElem? (i := 184) rfl)) rfl), Or.inl rfl, rfl⟩
theorem lk_X4_49 : Lk RX4 49 yX5_code := Or.inl (good_in (tb_6 (List.mem_of_getElem? (i := 23) rfl)) rfl)
theorem yk_X5_code : Yk yX5_code cX5_code 1 (some .int) 0 := ⟨(good_in (tb_4 (List.mem_of_getElem? (i := 190) rfl)) rfl), (good_in (tb_1 (List.mem_of_getElem? (i := 18) rfl)) rfl), ⟨by decide +kernel, by decide +kernel⟩, by decide +kernel⟩
theorem yv_X5_code : Cond.instanceMethod yX5_code ∈ lw_good ∧ Cond.selects yX5_code.cls yX5_code yX5_code ∈ lw_good := ⟨(good_in (tb_4 (List.mem_of_getElem? (i := 188) rfl)) rfl), (good_in (tb_4 (List.mem_of_getElem? (i := 189) rfl)) rfl)⟩
theorem lk_X4_97 : Lk RX4 97 yX5_isNumber := Or.inl (good_in (tb_6 (List.mem_of_getElem? (i := 36) rfl)) rfl)
theorem yk_X5_isNumber : Yk yX5_isNumber cX5_isNumber 1 (some .boolean) 0 := ⟨(good_in (tb_5 (List.mem_of_getElem? (i := 2) rfl)) rfl), (good_in (tb_1 (List.mem_of_getElem? (i := 18) rfl)) rfl), ⟨by decide +kernel, by decide +kernel⟩, by decide +kernel⟩
theorem yv_X5_isNumber : Cond.instanceMethod yX5_isNumber ∈ lw_good ∧ Cond.selects yX5_isNumber.cls yX5_isNumber yX5_isNumber ∈ lw_good := ⟨(good_in (tb_5 (List.mem_of_getElem? (i := 0) rfl)) rfl), (good_in (tb_5 (List.mem_of_getElem? (i := 1) rfl)) rfl)⟩
theorem lk_X4_56 : Lk RX4 56 yX11_isWithin := Or.inr ⟨"LeapNet", (nw_in (tb_6 (List.mem_of_getElem? (i := 25) rfl)) rfl)⟩
theorem yk_X11_isWithin : Yk yX11_isWithin cX11_isWithin 3 (some .boolean) 3 := ⟨(good_in (tb_2 (List.mem_of_getElem? (i := 64) rfl)) rfl), (good_in (tb_1 (List.mem_of_getElem? (i := 1) rfl)) rfl), ⟨by decide +kernel, by decide +kernel⟩, by decide +kernel⟩
theorem ys_X11_isWithin : Cond.static yX11_isWithin ∈ lw_good := (good_in (tb_2 (List.mem_of_getElem? (i := 63) rfl)) rfl)
theorem lk_X4_66 : Lk RX4 66 yX5_advance := Or.inl (good_in (tb_6 (List.mem_of_getElem? (i := 27) rfl)) rfl)
theorem yk_X5_advance : Yk yX5_advance cX5_advance 1 none 0 := ⟨(good_in (tb_4 (List.mem_of_getElem? (i := 216) rfl)) rfl), (good_in (tb_1 (List.mem_of_getElem? (i := 18) rfl)) rfl), ⟨by decide +kernel, by decide +kernel⟩, by decide +kernel⟩
theorem yv_X5_advance : Cond.instanceMethod yX5_advance ∈ lw_good ∧ Cond.selects yX5_advance.cls yX5_advance yX5_advance ∈ lw_good := ⟨(good_in (tb_4 (List.mem_of_getElem? (i := 214) rfl)) rfl), (good_in (tb_4 (List.mem_of_getElem? (i := 215) rfl)) rfl)⟩
theorem lk_X4_33 : Lk RX4 33 yX5_refuse := Or.inl (good_in (tb_6 (List.mem_of_getElem? (i := 26) rfl)) rfl)
theorem yk_X5_refuse : Yk yX5_refuse cX5_refuse 2 none 1 := ⟨(good_in (tb_4 (List.mem_of_getElem? (i := 199) rfl)) rfl), (good_in (tb_1 (List.mem_of_getElem? (i := 18) rfl)) rfl), ⟨by decide +kernel, by decide +kernel⟩, by decide +kernel⟩
theorem yv_X5_refuse : Cond.instanceMethod yX5_refuse ∈ lw_good ∧ Cond.selects yX5_refuse.cls yX5_refuse yX5_refuse ∈ lw_good := ⟨(good_in (tb_4 (List.mem_of_getElem? (i := 197) rfl)) rfl), (good_in (tb_4 (List.mem_of_getElem? (i := 198) rfl)) rfl)⟩
theorem lk_X5_69 : Lk RX5 69 yX5_isSign := Or.inl (good_in (tb_4 (List.mem_of_getElem? (i := 221) rfl)) rfl)
theorem lk_X5_76 : Lk RX5 76 yX5_refuse := Or.inl (good_in (tb_4 (List.mem_of_getElem? (i := 226) rfl)) rfl)
theorem lk_X5_73 : Lk RX5 73 yX5_advance := Or.inl (good_in (tb_4 (List.mem_of_getElem? (i := 225) rfl)) rfl)
theorem lk_X4_84 : Lk RX4 84 yX4_takeNumber := Or.inl (good_in (tb_6 (List.mem_of_getElem? (i := 32) rfl)) rfl)
theorem yk_X4_takeNumber : Yk yX4_takeNumber cX4_takeNumber 4 (some .int) 2 := ⟨(good_in (tb_6 (List.mem_of_getElem? (i := 35) rfl)) rfl), (good_in (tb_1 (List.mem_of_getElem? (i := 28) rfl)) rfl), ⟨by decide +kernel, by decide +kernel⟩, by decide +kernel⟩
theorem yv_X4_takeNumber : Cond.instanceMethod yX4_takeNumber ∈ lw_good ∧ Cond.selects yX4_takeNumber.cls yX4_takeNumber yX4_takeNumber ∈ lw_good := ⟨(good_in (tb_6 (List.mem_of_getElem? (i := 34) rfl)) rfl), (good_in (List.mem_append_left _ (by decide +kernel)) rfl)⟩
theorem lk_X4_80 : Lk RX4 80 yX5_takeSign := Or.inl (good_in (tb_6 (List.mem_of_getElem? (i := 37) rfl)) rfl)
theorem yk_X5_takeSign : Yk yX5_takeSign cX5_takeSign 2 none 1 := ⟨(good_in (tb_4 (List.mem_of_getElem? (i := 220) rfl)) rfl), (good_in (tb_1 (List.mem_of_getElem? (i := 18) rfl)) rfl), ⟨by decide +kernel, by decide +kernel⟩, by decide +kernel⟩
theorem yv_X5_takeSign : Cond.instanceMethod yX5_takeSign ∈ lw_good ∧ Cond.selects yX5_takeSign.cls yX5_takeSign yX5_takeSign ∈ lw_good := ⟨(good_in (tb_4 (List.mem_of_getElem? (i := 218) rfl)) rfl), (good_in (tb_4 (List.mem_of_getElem? (i := 219) rfl)) rfl)⟩
theorem lk_X4_53 : Lk RX4 53 yX5_isAnyWord := Or.inl (good_in (tb_6 (List.mem_of_getElem? (i := 24) rfl)) rfl)
theorem yk_X5_isAnyWord : Yk yX5_isAnyWord cX5_isAnyWord 1 (some .boolean) 0 := ⟨(good_in (tb_4 (List.mem_of_getElem? (i := 178) rfl)) rfl), (good_in (tb_1 (List.mem_of_getElem? (i := 18) rfl)) rfl), ⟨by decide +kernel, by decide +kernel⟩, by decide +kernel⟩
theorem yv_X5_isAnyWord : Cond.instanceMethod yX5_isAnyWord ∈ lw_good ∧ Cond.selects yX5_isAnyWord.cls yX5_isAnyWord yX5_isAnyWord ∈ lw_good := ⟨(good_in (tb_4 (List.mem_of_getElem? (i := 176) rfl)) rfl), (good_in (tb_4 (List.mem_of_getElem? (i := 177) rfl)) rfl)⟩
theorem lk_X4_91 : Lk RX4 91 yX4_readHow := Or.inl (good_in (tb_6 (List.mem_of_getElem? (i := 50) rfl)) rfl)
theorem yk_X4_readHow : Yk yX4_readHow cX4_readHow 2 (some .int) 0 := ⟨(good_in (tb_6 (List.mem_of_getElem? (i := 53) rfl)) rfl), (good_in (tb_1 (List.mem_of_getElem? (i := 28) rfl)) rfl), ⟨by decide +kernel, by decide +kernel⟩, by decide +kernel⟩
theorem yv_X4_readHow : Cond.instanceMethod yX4_readHow ∈ lw_good ∧ Cond.selects yX4_readHow.cls yX4_readHow yX4_readHow ∈ lw_good := ⟨(good_in (tb_6 (List.mem_of_getElem? (i := 52) rfl)) rfl), (good_in (List.mem_append_left _ (by decide +kernel)) rfl)⟩
theorem lk_X4_88 : Lk RX4 88 yX4_readTime := Or.inl (good_in (tb_6 (List.mem_of_getElem? (i := 46) rfl)) rfl)
theorem yk_X4_readTime : Yk yX4_readTime cX4_readTime 4 (some .int) 0 := ⟨(good_in (tb_6 (List.mem_of_getElem? (i := 49) rfl)) rfl), (good_in (tb_1 (List.mem_of_getElem? (i := 28) rfl)) rfl), ⟨by decide +kernel, by decide +kernel⟩, by decide +kernel⟩
theorem yv_X4_readTime : Cond.instanceMethod yX4_readTime ∈ lw_good ∧ Cond.selects yX4_readTime.cls yX4_readTime yX4_readTime ∈ lw_good := ⟨(good_in (tb_6 (List.mem_of_getElem? (i := 48) rfl)) rfl), (good_in (List.mem_append_left _ (by decide +kernel)) rfl)⟩
theorem fl_X4_94 : Fl RX4 94 6 4 := kc_X4.fl (ref := "LeapNet$Program") (by decide) (Or.inl (good_in (tb_5 (List.mem_of_getElem? (i := 228) rfl)) rfl)) (Or.inl rfl)
theorem fl_X4_13 : Fl RX4 13 6 1 := kc_X4.fl (ref := "LeapNet$Program") (by decide) (Or.inl (good_in (tb_5 (List.mem_of_getElem? (i := 221) rfl)) rfl)) (Or.inl rfl)
theorem fl_X4_17 : Fl RX4 17 6 2 := kc_X4.fl (ref := "LeapNet$Program") (by decide) (Or.inl (good_in (tb_5 (List.mem_of_getElem? (i := 223) rfl)) rfl)) (Or.inl rfl)
theorem fl_X4_20 : Fl RX4 20 6 3 := kc_X4.fl (ref := "LeapNet$Program") (by decide) (Or.inl (good_in (tb_5 (List.mem_of_getElem? (i := 225) rfl)) rfl)) (Or.inl rfl)
theorem fp_X4_94 : Fp RX4 94 6 4 .int := ⟨_, _, _, _, "LeapNet$Program", kc_X4, by decide, rfl, Or.inl (good_in (tb_5 (List.mem_of_getElem? (i := 228) rfl)) rfl), Or.inl rfl, rfl⟩
theorem lk_X4_36 : Lk RX4 36 yX4_canBeLine := Or.inl (good_in (tb_6 (List.mem_of_getElem? (i := 12) rfl)) rfl)
theorem yk_X4_canBeLine : Yk yX4_canBeLine cX4_canBeLine 1 (some .boolean) 0 := ⟨(good_in (tb_6 (List.mem_of_getElem? (i := 15) rfl)) rfl), (good_in (tb_1 (List.mem_of_getElem? (i := 28) rfl)) rfl), ⟨by decide +kernel, by decide +kernel⟩, by decide +kernel⟩
theorem yv_X4_canBeLine : Cond.instanceMethod yX4_canBeLine ∈ lw_good ∧ Cond.selects yX4_canBeLine.cls yX4_canBeLine yX4_canBeLine ∈ lw_good := ⟨(good_in (tb_6 (List.mem_of_getElem? (i := 14) rfl)) rfl), (good_in (List.mem_append_left _ (by decide +kernel)) rfl)⟩
theorem lk_X4_39 : Lk RX4 39 yX4_readLine := Or.inl (good_in (tb_6 (List.mem_of_getElem? (i := 19) rfl)) rfl)
theorem yk_X4_readLine : Yk yX4_readLine cX4_readLine 3 none 1 := ⟨(good_in (tb_6 (List.mem_of_getElem? (i := 22) rfl)) rfl), (good_in (tb_1 (List.mem_of_getElem? (i := 28) rfl)) rfl), ⟨by decide +kernel, by decide +kernel⟩, by decide +kernel⟩
theorem yv_X4_readLine : Cond.instanceMethod yX4_readLine ∈ lw_good ∧ Cond.selects yX4_readLine.cls yX4_readLine yX4_readLine ∈ lw_good := ⟨(good_in (tb_6 (List.mem_of_getElem? (i := 21) rfl)) rfl), (good_in (List.mem_append_left _ (by decide +kernel)) rfl)⟩
theorem fl_X4_62 : Fl RX4 62 6 5 := kc_X4.fl (ref := "LeapNet$Program") (by decide) (Or.inl (good_in (tb_5 (List.mem_of_getElem? (i := 229) rfl)) rfl)) (Or.inl rfl)
theorem fp_X4_62 : Fp RX4 62 6 5 .int := ⟨_, _, _, _, "LeapNet$Program", kc_X4, by decide, rfl, Or.inl (good_in (tb_5 (List.mem_of_getElem? (i := 229) rfl)) rfl), Or.inl rfl, rfl⟩
theorem lk_X4_72 : Lk RX4 72 yX4_readOperand := Or.inl (good_in (tb_6 (List.mem_of_getElem? (i := 42) rfl)) rfl)
theorem yk_X4_readOperand : Yk yX4_readOperand cX4_readOperand 2 (some .int) 1 := ⟨(good_in (tb_6 (List.mem_of_getElem? (i := 45) rfl)) rfl), (good_in (tb_1 (List.mem_of_getElem? (i := 28) rfl)) rfl), ⟨by decide +kernel, by decide +kernel⟩, by decide +kernel⟩
theorem yv_X4_readOperand : Cond.instanceMethod yX4_readOperand ∈ lw_good ∧ Cond.selects yX4_readOperand.cls yX4_readOperand yX4_readOperand ∈ lw_good := ⟨(good_in (tb_6 (List.mem_of_getElem? (i := 44) rfl)) rfl), (good_in (List.mem_append_left _ (by decide +kernel)) rfl)⟩
theorem lk_X4_76 : Lk RX4 76 yX4_emit := Or.inl (good_in (tb_6 (List.mem_of_getElem? (i := 38) rfl)) rfl)
theorem yk_X4_emit : Yk yX4_emit cX4_emit 4 none 3 := ⟨(good_in (tb_6 (List.mem_of_getElem? (i := 41) rfl)) rfl), (good_in (tb_1 (List.mem_of_getElem? (i := 28) rfl)) rfl), ⟨by decide +kernel, by decide +kernel⟩, by decide +kernel⟩
theorem yv_X4_emit : Cond.instanceMethod yX4_emit ∈ lw_good ∧ Cond.selects yX4_emit.cls yX4_emit yX4_emit ∈ lw_good := ⟨(good_in (tb_6 (List.mem_of_getElem? (i := 40) rfl)) rfl), (good_in (List.mem_append_left _ (by decide +kernel)) rfl)⟩
theorem lk_X4_69 : Lk RX4 69 yX4_readAgain := Or.inl (good_in (tb_6 (List.mem_of_getElem? (i := 28) rfl)) rfl)
theorem yk_X4_readAgain : Yk yX4_readAgain cX4_readAgain 4 none 1 := ⟨(good_in (tb_6 (List.mem_of_getElem? (i := 31) rfl)) rfl), (good_in (tb_1 (List.mem_of_getElem? (i := 28) rfl)) rfl), ⟨by decide +kernel, by decide +kernel⟩, by decide +kernel⟩
theorem yv_X4_readAgain : Cond.instanceMethod yX4_readAgain ∈ lw_good ∧ Cond.selects yX4_readAgain.cls yX4_readAgain yX4_readAgain ∈ lw_good := ⟨(good_in (tb_6 (List.mem_of_getElem? (i := 30) rfl)) rfl), (good_in (List.mem_append_left _ (by decide +kernel)) rfl)⟩
theorem lk_X4_23 : Lk RX4 23 yX4_readLinesWithin := Or.inl (good_in (tb_6 (List.mem_of_getElem? (i := 8) rfl)) rfl)
theorem yk_X4_readLinesWithin : Yk yX4_readLinesWithin cX4_readLinesWithin 3 none 1 := ⟨(good_in (tb_6 (List.mem_of_getElem? (i := 11) rfl)) rfl), (good_in (tb_1 (List.mem_of_getElem? (i := 28) rfl)) rfl), ⟨by decide +kernel, by decide +kernel⟩, by decide +kernel⟩
theorem yv_X4_readLinesWithin : Cond.instanceMethod yX4_readLinesWithin ∈ lw_good ∧ Cond.selects yX4_readLinesWithin.cls yX4_readLinesWithin yX4_readLinesWithin ∈ lw_good := ⟨(good_in (tb_6 (List.mem_of_getElem? (i := 10) rfl)) rfl), (good_in (List.mem_append_left _ (by decide +kernel)) rfl)⟩
theorem oi_X5_3 : Cond.methodLink RX5 3 Lib.objectInit ∈ lw_good := (good_in (tb_3 (List.mem_of_getElem? (i := 171) rfl)) rfl)
theorem lk_X5_9 : Lk RX5 9 yJ9_min_7cf53 := Or.inl (good_in (tb_3 (List.mem_of_getElem? (i := 172) rfl)) rfl)
theorem lk_X5_15 : Lk RX5 15 yJ9_max_7cf53 := Or.inl (good_in (tb_3 (List.mem_of_getElem? (i := 173) rfl)) rfl)
theorem ac_char : Cond.arrayClass .char ∈ lw_good := (good_in (tb_3 (List.mem_of_getElem? (i := 212) rfl)) rfl)
theorem ff_X5_18 : Ff RX5 18 7 0 (.array .char) := ⟨_, _, _, _, "LeapNet$Reader", kc_X5, by decide, rfl, (good_in (tb_3 (List.mem_of_getElem? (i := 174) rfl)) rfl), rfl, rfl, rfl⟩
theorem fl_X5_18 : Fl RX5 18 7 0 := kc_X5.fl (ref := "LeapNet$Reader") (by decide) (Or.inl (good_in (tb_3 (List.mem_of_getElem? (i := 174) rfl)) rfl)) (Or.inl rfl)
theorem ff_X5_24 : Ff RX5 24 7 1 (.object "java/lang/String") := ⟨_, _, _, _, "LeapNet$Reader", kc_X5, by decide, rfl, (good_in (tb_3 (List.mem_of_getElem? (i := 175) rfl)) rfl), rfl, rfl, rfl⟩
theorem ff_X5_28 : Ff RX5 28 7 2 (.object "java/lang/String") := ⟨_, _, _, _, "LeapNet$Reader", kc_X5, by decide, rfl, (good_in (tb_3 (List.mem_of_getElem? (i := 176) rfl)) rfl), rfl, rfl, rfl⟩
theorem ff_X5_31 : Ff RX5 31 7 3 (.array .int) := ⟨_, _, _, _, "LeapNet$Reader", kc_X5, by decide, rfl, (good_in (tb_3 (List.mem_of_getElem? (i := 177) rfl)) rfl), rfl, rfl, rfl⟩
theorem ff_X5_35 : Ff RX5 35 7 4 (.array .int) := ⟨_, _, _, _, "LeapNet$Reader", kc_X5, by decide, rfl, (good_in (tb_3 (List.mem_of_getElem? (i := 178) rfl)) rfl), rfl, rfl, rfl⟩
theorem ff_X5_38 : Ff RX5 38 7 5 (.array .int) := ⟨_, _, _, _, "LeapNet$Reader", kc_X5, by decide, rfl, (good_in (tb_3 (List.mem_of_getElem? (i := 179) rfl)) rfl), rfl, rfl, rfl⟩
theorem ff_X5_41 : Ff RX5 41 7 6 (.array .int) := ⟨_, _, _, _, "LeapNet$Reader", kc_X5, by decide, rfl, (good_in (tb_3 (List.mem_of_getElem? (i := 180) rfl)) rfl), rfl, rfl, rfl⟩
theorem sl_J0_38 : Cond.fieldLink RJ0 38 "java/lang/String" "COMPACT_STRINGS" "Z" ∈ lw_good := (good_in (tb_3 (List.mem_of_getElem? (i := 238) rfl)) rfl)
theorem sl_J0_15 : Cond.fieldLink RJ0 15 "java/lang/String" "coder" "B" ∈ lw_good := (good_in (tb_10 (List.mem_of_getElem? (i := 141) rfl)) rfl)
theorem sl_J0_9 : Cond.fieldLink RJ0 9 "java/lang/String" "value" "[B" ∈ lw_good := (good_in (tb_10 (List.mem_of_getElem? (i := 140) rfl)) rfl)
theorem lk_J0_335 : Lk RJ0 335 yJ0_coder_7d493 := Or.inl (good_in (tb_3 (List.mem_of_getElem? (i := 234) rfl)) rfl)
theorem yk_J0_coder_7d493 : Yk yJ0_coder_7d493 cJ0_coder_7d493 1 (some .byte) 0 := ⟨(good_in (tb_3 (List.mem_of_getElem? (i := 237) rfl)) rfl), (good_in (tb_1 (List.mem_of_getElem? (i := 19) rfl)) rfl), ⟨by decide +kernel, by decide +kernel⟩, by decide +kernel⟩
theorem yv_J0_coder_7d493 : Cond.instanceMethod yJ0_coder_7d493 ∈ lw_good ∧ Cond.selects yJ0_coder_7d493.cls yJ0_coder_7d493 yJ0_coder_7d493 ∈ lw_good := ⟨(good_in (tb_3 (List.mem_of_getElem? (i := 235) rfl)) rfl), (good_in (tb_3 (List.mem_of_getElem? (i := 236) rfl)) rfl)⟩
theorem gl_J0_335 : Cond.methodLink RJ0 335 yJ0_coder_7d493 ∈ lw_good := (good_in (tb_3 (List.mem_of_getElem? (i := 234) rfl)) rfl)
theorem sl_J0_1053 : Cond.fieldLink RJ0 1053 "jdk/internal/util/Preconditions" "SIOOBE_FORMATTER" "Ljava/util/function/BiFunction;" ∈ lw_good := (good_in (tb_4 (List.mem_of_getElem? (i := 14) rfl)) rfl)
theorem lk_J0_1059 : Lk RJ0 1059 yJ3_checkIndex_8e157 := Or.inl (good_in (tb_4 (List.mem_of_getElem? (i := 16) rfl)) rfl)
theorem yk_J3_checkIndex_8e157 : Yk yJ3_checkIndex_8e157 cJ3_checkIndex_8e157 3 (some .int) 3 := ⟨(good_in (tb_3 (List.mem_of_getElem? (i := 7) rfl)) rfl), (good_in (tb_1 (List.mem_of_getElem? (i := 16) rfl)) rfl), ⟨by decide +kernel, by decide +kernel⟩, by decide +kernel⟩
theorem ys_J3_checkIndex_8e157 : Cond.static yJ3_checkIndex_8e157 ∈ lw_good := (good_in (tb_3 (List.mem_of_getElem? (i := 6) rfl)) rfl)
theorem lk_J1_9 : Lk RJ1 9 yJ0_checkIndex_df160 := Or.inl (good_in (tb_4 (List.mem_of_getElem? (i := 11) rfl)) rfl)
theorem yk_J0_checkIndex_df160 : Yk yJ0_checkIndex_df160 cJ0_checkIndex_df160 2 none 2 := ⟨(good_in (tb_4 (List.mem_of_getElem? (i := 13) rfl)) rfl), (good_in (tb_1 (List.mem_of_getElem? (i := 19) rfl)) rfl), ⟨by decide +kernel, by decide +kernel⟩, by decide +kernel⟩
theorem ys_J0_checkIndex_df160 : Cond.static yJ0_checkIndex_df160 ∈ lw_good := (good_in (tb_4 (List.mem_of_getElem? (i := 12) rfl)) rfl)
theorem lk_J0_492 : Lk RJ0 492 yJ0_isLatin1_aae02 := Or.inl (good_in (tb_4 (List.mem_of_getElem? (i := 4) rfl)) rfl)
theorem yk_J0_isLatin1_aae02 : Yk yJ0_isLatin1_aae02 cJ0_isLatin1_aae02 1 (some .boolean) 0 := ⟨(good_in (tb_4 (List.mem_of_getElem? (i := 7) rfl)) rfl), (good_in (tb_1 (List.mem_of_getElem? (i := 19) rfl)) rfl), ⟨by decide +kernel, by decide +kernel⟩, by decide +kernel⟩
theorem yv_J0_isLatin1_aae02 : Cond.instanceMethod yJ0_isLatin1_aae02 ∈ lw_good ∧ Cond.selects yJ0_isLatin1_aae02.cls yJ0_isLatin1_aae02 yJ0_isLatin1_aae02 ∈ lw_good := ⟨(good_in (tb_4 (List.mem_of_getElem? (i := 5) rfl)) rfl), (good_in (tb_4 (List.mem_of_getElem? (i := 6) rfl)) rfl)⟩
theorem gl_J0_492 : Cond.methodLink RJ0 492 yJ0_isLatin1_aae02 ∈ lw_good := (good_in (tb_4 (List.mem_of_getElem? (i := 4) rfl)) rfl)
theorem lk_J0_495 : Lk RJ0 495 yJ1_charAt_3b067 := Or.inl (good_in (tb_4 (List.mem_of_getElem? (i := 8) rfl)) rfl)
theorem yk_J1_charAt_3b067 : Yk yJ1_charAt_3b067 cJ1_charAt_3b067 2 (some .char) 2 := ⟨(good_in (tb_4 (List.mem_of_getElem? (i := 10) rfl)) rfl), (good_in (tb_1 (List.mem_of_getElem? (i := 20) rfl)) rfl), ⟨by decide +kernel, by decide +kernel⟩, by decide +kernel⟩
theorem ys_J1_charAt_3b067 : Cond.static yJ1_charAt_3b067 ∈ lw_good := (good_in (tb_4 (List.mem_of_getElem? (i := 9) rfl)) rfl)
theorem fl_X5_28 : Fl RX5 28 7 2 := kc_X5.fl (ref := "LeapNet$Reader") (by decide) (Or.inl (good_in (tb_3 (List.mem_of_getElem? (i := 176) rfl)) rfl)) (Or.inl rfl)
theorem lk_X5_106 : Lk RX5 106 yJ0_charAt_5068e := Or.inl (good_in (tb_4 (List.mem_of_getElem? (i := 0) rfl)) rfl)
theorem yk_J0_charAt_5068e : Yk yJ0_charAt_5068e cJ0_charAt_5068e 2 (some .char) 1 := ⟨(good_in (tb_4 (List.mem_of_getElem? (i := 3) rfl)) rfl), (good_in (tb_1 (List.mem_of_getElem? (i := 19) rfl)) rfl), ⟨by decide +kernel, by decide +kernel⟩, by decide +kernel⟩
theorem yv_J0_charAt_5068e : Cond.instanceMethod yJ0_charAt_5068e ∈ lw_good ∧ Cond.selects yJ0_charAt_5068e.cls yJ0_charAt_5068e yJ0_charAt_5068e ∈ lw_good := ⟨(good_in (tb_4 (List.mem_of_getElem? (i := 1) rfl)) rfl), (good_in (tb_4 (List.mem_of_getElem? (i := 2) rfl)) rfl)⟩
theorem gl_X5_106 : Cond.methodLink RX5 106 yJ0_charAt_5068e ∈ lw_good := (good_in (tb_4 (List.mem_of_getElem? (i := 0) rfl)) rfl)
theorem lk_X5_103 : Lk RX5 103 yJ0_length_8abf5 := Or.inl (good_in (tb_3 (List.mem_of_getElem? (i := 230) rfl)) rfl)
theorem yk_J0_length_8abf5 : Yk yJ0_length_8abf5 cJ0_length_8abf5 1 (some .int) 0 := ⟨(good_in (tb_3 (List.mem_of_getElem? (i := 233) rfl)) rfl), (good_in (tb_1 (List.mem_of_getElem? (i := 19) rfl)) rfl), ⟨by decide +kernel, by decide +kernel⟩, by decide +kernel⟩
theorem yv_J0_length_8abf5 : Cond.instanceMethod yJ0_length_8abf5 ∈ lw_good ∧ Cond.selects yJ0_length_8abf5.cls yJ0_length_8abf5 yJ0_length_8abf5 ∈ lw_good := ⟨(good_in (tb_3 (List.mem_of_getElem? (i := 231) rfl)) rfl), (good_in (tb_3 (List.mem_of_getElem? (i := 232) rfl)) rfl)⟩
theorem gl_X5_103 : Cond.methodLink RX5 103 yJ0_length_8abf5 ∈ lw_good := (good_in (tb_3 (List.mem_of_getElem? (i := 230) rfl)) rfl)
theorem lk_X5_110 : Lk RX5 110 yX5_isSpelt := Or.inl (good_in (tb_4 (List.mem_of_getElem? (i := 36) rfl)) rfl)
theorem yk_X5_isSpelt : Yk yX5_isSpelt cX5_isSpelt 6 (some .boolean) 4 := ⟨(good_in (tb_4 (List.mem_of_getElem? (i := 39) rfl)) rfl), (good_in (tb_1 (List.mem_of_getElem? (i := 18) rfl)) rfl), ⟨by decide +kernel, by decide +kernel⟩, by decide +kernel⟩
theorem yv_X5_isSpelt : Cond.instanceMethod yX5_isSpelt ∈ lw_good ∧ Cond.selects yX5_isSpelt.cls yX5_isSpelt yX5_isSpelt ∈ lw_good := ⟨(good_in (tb_4 (List.mem_of_getElem? (i := 38) rfl)) rfl), (good_in (List.mem_append_left _ (by decide +kernel)) rfl)⟩
theorem fl_X5_41 : Fl RX5 41 7 6 := kc_X5.fl (ref := "LeapNet$Reader") (by decide) (Or.inl (good_in (tb_3 (List.mem_of_getElem? (i := 180) rfl)) rfl)) (Or.inl rfl)
theorem fp_X5_62 : Fp RX5 62 7 7 .int := ⟨_, _, _, _, "LeapNet$Reader", kc_X5, by decide, rfl, Or.inl (good_in (tb_3 (List.mem_of_getElem? (i := 182) rfl)) rfl), Or.inl rfl, rfl⟩
theorem lk_J1_88 : Lk RJ1 88 yJ1_canEncode_9a6ad := Or.inl (good_in (tb_4 (List.mem_of_getElem? (i := 60) rfl)) rfl)
theorem yk_J1_canEncode_9a6ad : Yk yJ1_canEncode_9a6ad cJ1_canEncode_9a6ad 1 (some .boolean) 1 := ⟨(good_in (tb_4 (List.mem_of_getElem? (i := 62) rfl)) rfl), (good_in (tb_1 (List.mem_of_getElem? (i := 20) rfl)) rfl), ⟨by decide +kernel, by decide +kernel⟩, by decide +kernel⟩
theorem ys_J1_canEncode_9a6ad : Cond.static yJ1_canEncode_9a6ad ∈ lw_good := (good_in (tb_4 (List.mem_of_getElem? (i := 61) rfl)) rfl)
theorem lk_J1_92 : Lk RJ1 92 yJ9_max_7cf53 := Or.inl (good_in (tb_4 (List.mem_of_getElem? (i := 63) rfl)) rfl)
theorem lk_J1_38 : Lk RJ1 38 yJ9_min_7cf53 := Or.inl (good_in (tb_4 (List.mem_of_getElem? (i := 64) rfl)) rfl)
theorem lk_J1_95 : Lk RJ1 95 yJ1_indexOfChar_4cfef := Or.inl (good_in (tb_4 (List.mem_of_getElem? (i := 65) rfl)) rfl)
theorem yk_J1_indexOfChar_4cfef : Yk yJ1_indexOfChar_4cfef cJ1_indexOfChar_4cfef 6 (some .int) 4 := ⟨(good_in (tb_4 (List.mem_of_getElem? (i := 67) rfl)) rfl), (good_in (tb_1 (List.mem_of_getElem? (i := 20) rfl)) rfl), ⟨by decide +kernel, by decide +kernel⟩, by decide +kernel⟩
theorem ys_J1_indexOfChar_4cfef : Cond.static yJ1_indexOfChar_4cfef ∈ lw_good := (good_in (tb_4 (List.mem_of_getElem? (i := 66) rfl)) rfl)
theorem lk_J0_505 : Lk RJ0 505 yJ0_length_8abf5 := Or.inl (good_in (tb_4 (List.mem_of_getElem? (i := 56) rfl)) rfl)
theorem gl_J0_505 : Cond.methodLink RJ0 505 yJ0_length_8abf5 ∈ lw_good := (good_in (tb_4 (List.mem_of_getElem? (i := 56) rfl)) rfl)
theorem lk_J0_637 : Lk RJ0 637 yJ1_indexOf_4cfef := Or.inl (good_in (tb_4 (List.mem_of_getElem? (i := 57) rfl)) rfl)
theorem yk_J1_indexOf_4cfef : Yk yJ1_indexOf_4cfef cJ1_indexOf_4cfef 4 (some .int) 4 := ⟨(good_in (tb_4 (List.mem_of_getElem? (i := 59) rfl)) rfl), (good_in (tb_1 (List.mem_of_getElem? (i := 20) rfl)) rfl), ⟨by decide +kernel, by decide +kernel⟩, by decide +kernel⟩
theorem ys_J1_indexOf_4cfef : Cond.static yJ1_indexOf_4cfef ∈ lw_good := (good_in (tb_4 (List.mem_of_getElem? (i := 58) rfl)) rfl)
theorem lk_J0_633 : Lk RJ0 633 yJ0_indexOf_7cf53 := Or.inl (good_in (tb_4 (List.mem_of_getElem? (i := 52) rfl)) rfl)
theorem yk_J0_indexOf_7cf53 : Yk yJ0_indexOf_7cf53 cJ0_indexOf_7cf53 3 (some .int) 2 := ⟨(good_in (tb_4 (List.mem_of_getElem? (i := 55) rfl)) rfl), (good_in (tb_1 (List.mem_of_getElem? (i := 19) rfl)) rfl), ⟨by decide +kernel, by decide +kernel⟩, by decide +kernel⟩
theorem yv_J0_indexOf_7cf53 : Cond.instanceMethod yJ0_indexOf_7cf53 ∈ lw_good ∧ Cond.selects yJ0_indexOf_7cf53.cls yJ0_indexOf_7cf53 yJ0_indexOf_7cf53 ∈ lw_good := ⟨(good_in (tb_4 (List.mem_of_getElem? (i := 53) rfl)) rfl), (good_in (tb_4 (List.mem_of_getElem? (i := 54) rfl)) rfl)⟩
theorem gl_J0_633 : Cond.methodLink RJ0 633 yJ0_indexOf_7cf53 ∈ lw_good := (good_in (tb_4 (List.mem_of_getElem? (i := 52) rfl)) rfl)
theorem lk_X5_84 : Lk RX5 84 yX11_isWithin := Or.inr ⟨"LeapNet", (nw_in (tb_3 (List.mem_of_getElem? (i := 221) rfl)) rfl)⟩
theorem fl_X5_24 : Fl RX5 24 7 1 := kc_X5.fl (ref := "LeapNet$Reader") (by decide) (Or.inl (good_in (tb_3 (List.mem_of_getElem? (i := 175) rfl)) rfl)) (Or.inl rfl)
theorem lk_X5_98 : Lk RX5 98 yJ0_indexOf_0f7a4 := Or.inl (good_in (tb_4 (List.mem_of_getElem? (i := 48) rfl)) rfl)
theorem yk_J0_indexOf_0f7a4 : Yk yJ0_indexOf_0f7a4 cJ0_indexOf_0f7a4 2 (some .int) 1 := ⟨(good_in (tb_4 (List.mem_of_getElem? (i := 51) rfl)) rfl), (good_in (tb_1 (List.mem_of_getElem? (i := 19) rfl)) rfl), ⟨by decide +kernel, by decide +kernel⟩, by decide +kernel⟩
theorem yv_J0_indexOf_0f7a4 : Cond.instanceMethod yJ0_indexOf_0f7a4 ∈ lw_good ∧ Cond.selects yJ0_indexOf_0f7a4.cls yJ0_indexOf_0f7a4 yJ0_indexOf_0f7a4 ∈ lw_good := ⟨(good_in (tb_4 (List.mem_of_getElem? (i := 49) rfl)) rfl), (good_in (tb_4 (List.mem_of_getElem? (i := 50) rfl)) rfl)⟩
theorem gl_X5_98 : Cond.methodLink RX5 98 yJ0_indexOf_0f7a4 ∈ lw_good := (good_in (tb_4 (List.mem_of_getElem? (i := 48) rfl)) rfl)
theorem lk_X5_52 : Lk RX5 52 yX5_add := Or.inl (good_in (tb_4 (List.mem_of_getElem? (i := 40) rfl)) rfl)
theorem yk_X5_add : Yk yX5_add cX5_add 5 none 4 := ⟨(good_in (tb_4 (List.mem_of_getElem? (i := 43) rfl)) rfl), (good_in (tb_1 (List.mem_of_getElem? (i := 18) rfl)) rfl), ⟨by decide +kernel, by decide +kernel⟩, by decide +kernel⟩
theorem yv_X5_add : Cond.instanceMethod yX5_add ∈ lw_good ∧ Cond.selects yX5_add.cls yX5_add yX5_add ∈ lw_good := ⟨(good_in (tb_4 (List.mem_of_getElem? (i := 42) rfl)) rfl), (good_in (List.mem_append_left _ (by decide +kernel)) rfl)⟩
theorem lk_X5_88 : Lk RX5 88 yX5_endOfRun := Or.inl (good_in (tb_3 (List.mem_of_getElem? (i := 222) rfl)) rfl)
theorem yk_X5_endOfRun : Yk yX5_endOfRun cX5_endOfRun 5 (some .int) 3 := ⟨(good_in (tb_3 (List.mem_of_getElem? (i := 225) rfl)) rfl), (good_in (tb_1 (List.mem_of_getElem? (i := 18) rfl)) rfl), ⟨by decide +kernel, by decide +kernel⟩, by decide +kernel⟩
theorem yv_X5_endOfRun : Cond.instanceMethod yX5_endOfRun ∈ lw_good ∧ Cond.selects yX5_endOfRun.cls yX5_endOfRun yX5_endOfRun ∈ lw_good := ⟨(good_in (tb_3 (List.mem_of_getElem? (i := 224) rfl)) rfl), (good_in (List.mem_append_left _ (by decide +kernel)) rfl)⟩
theorem lk_X5_92 : Lk RX5 92 yX5_placeInWords := Or.inl (good_in (tb_3 (List.mem_of_getElem? (i := 226) rfl)) rfl)
theorem yk_X5_placeInWords : Yk yX5_placeInWords cX5_placeInWords 6 (some .int) 2 := ⟨(good_in (tb_3 (List.mem_of_getElem? (i := 229) rfl)) rfl), (good_in (tb_1 (List.mem_of_getElem? (i := 18) rfl)) rfl), ⟨by decide +kernel, by decide +kernel⟩, by decide +kernel⟩
theorem yv_X5_placeInWords : Cond.instanceMethod yX5_placeInWords ∈ lw_good ∧ Cond.selects yX5_placeInWords.cls yX5_placeInWords yX5_placeInWords ∈ lw_good := ⟨(good_in (tb_3 (List.mem_of_getElem? (i := 228) rfl)) rfl), (good_in (List.mem_append_left _ (by decide +kernel)) rfl)⟩
theorem lk_X5_95 : Lk RX5 95 yX5_numberOf := Or.inl (good_in (tb_4 (List.mem_of_getElem? (i := 44) rfl)) rfl)
theorem yk_X5_numberOf : Yk yX5_numberOf cX5_numberOf 5 (some .int) 2 := ⟨(good_in (tb_4 (List.mem_of_getElem? (i := 47) rfl)) rfl), (good_in (tb_1 (List.mem_of_getElem? (i := 18) rfl)) rfl), ⟨by decide +kernel, by decide +kernel⟩, by decide +kernel⟩
theorem yv_X5_numberOf : Cond.instanceMethod yX5_numberOf ∈ lw_good ∧ Cond.selects yX5_numberOf.cls yX5_numberOf yX5_numberOf ∈ lw_good := ⟨(good_in (tb_4 (List.mem_of_getElem? (i := 46) rfl)) rfl), (good_in (List.mem_append_left _ (by decide +kernel)) rfl)⟩
theorem lk_X5_48 : Lk RX5 48 yX5_cutOne := Or.inl (good_in (tb_3 (List.mem_of_getElem? (i := 217) rfl)) rfl)
theorem yk_X5_cutOne : Yk yX5_cutOne cX5_cutOne 5 (some .int) 1 := ⟨(good_in (tb_3 (List.mem_of_getElem? (i := 220) rfl)) rfl), (good_in (tb_1 (List.mem_of_getElem? (i := 18) rfl)) rfl), ⟨by decide +kernel, by decide +kernel⟩, by decide +kernel⟩
theorem yv_X5_cutOne : Cond.instanceMethod yX5_cutOne ∈ lw_good ∧ Cond.selects yX5_cutOne.cls yX5_cutOne yX5_cutOne ∈ lw_good := ⟨(good_in (tb_3 (List.mem_of_getElem? (i := 219) rfl)) rfl), (good_in (List.mem_append_left _ (by decide +kernel)) rfl)⟩
theorem lk_X5_65 : Lk RX5 65 yX5_wordLength := Or.inl (good_in (tb_4 (List.mem_of_getElem? (i := 208) rfl)) rfl)
theorem yk_X5_wordLength : Yk yX5_wordLength cX5_wordLength 1 (some .int) 0 := ⟨(good_in (tb_4 (List.mem_of_getElem? (i := 182) rfl)) rfl), (good_in (tb_1 (List.mem_of_getElem? (i := 18) rfl)) rfl), ⟨by decide +kernel, by decide +kernel⟩, by decide +kernel⟩
theorem yv_X5_wordLength : Cond.instanceMethod yX5_wordLength ∈ lw_good ∧ Cond.selects yX5_wordLength.cls yX5_wordLength yX5_wordLength ∈ lw_good := ⟨(good_in (tb_4 (List.mem_of_getElem? (i := 180) rfl)) rfl), (good_in (tb_4 (List.mem_of_getElem? (i := 181) rfl)) rfl)⟩
theorem lk_X5_80 : Lk RX5 80 yX5_isWord := Or.inl (good_in (tb_5 (List.mem_of_getElem? (i := 48) rfl)) rfl)
theorem yk_X5_isWord : Yk yX5_isWord cX5_isWord 2 (some .boolean) 1 := ⟨(good_in (tb_4 (List.mem_of_getElem? (i := 212) rfl)) rfl), (good_in (tb_1 (List.mem_of_getElem? (i := 18) rfl)) rfl), ⟨by decide +kernel, by decide +kernel⟩, by decide +kernel⟩
theorem yv_X5_isWord : Cond.instanceMethod yX5_isWord ∈ lw_good ∧ Cond.selects yX5_isWord.cls yX5_isWord yX5_isWord ∈ lw_good := ⟨(good_in (tb_4 (List.mem_of_getElem? (i := 210) rfl)) rfl), (good_in (tb_4 (List.mem_of_getElem? (i := 211) rfl)) rfl)⟩
theorem oi_X6_5 : Cond.methodLink RX6 5 Lib.objectInit ∈ lw_good := (good_in (tb_4 (List.mem_of_getElem? (i := 106) rfl)) rfl)
theorem ff_X6_11 : Ff RX6 11 8 0 (.object "LeapNet$Reader") := ⟨_, _, _, _, "LeapNet$Rule", kc_X6, by decide, rfl, (good_in (tb_4 (List.mem_of_getElem? (i := 107) rfl)) rfl), rfl, rfl, rfl⟩
theorem ff_X6_15 : Ff RX6 15 8 1 .int := ⟨_, _, _, _, "LeapNet$Rule", kc_X6, by decide, rfl, (good_in (tb_4 (List.mem_of_getElem? (i := 108) rfl)) rfl), rfl, rfl, rfl⟩
theorem fl_X6_19 : Fl RX6 19 7 7 := kc_X5.fl (ref := "LeapNet$Reader") (by decide) (Or.inr ⟨"LeapNet", (nw_in (tb_3 (List.mem_of_getElem? (i := 181) rfl)) rfl)⟩) (Or.inl rfl)
theorem ff_X6_24 : Ff RX6 24 8 2 (.array .int) := ⟨_, _, _, _, "LeapNet$Rule", kc_X6, by decide, rfl, (good_in (tb_4 (List.mem_of_getElem? (i := 110) rfl)) rfl), rfl, rfl, rfl⟩
theorem ff_X6_28 : Ff RX6 28 8 3 (.array .int) := ⟨_, _, _, _, "LeapNet$Rule", kc_X6, by decide, rfl, (good_in (tb_4 (List.mem_of_getElem? (i := 111) rfl)) rfl), rfl, rfl, rfl⟩
theorem fp_X6_31 : Fp RX6 31 8 6 .int := ⟨_, _, _, _, "LeapNet$Rule", kc_X6, by decide, rfl, Or.inl (good_in (tb_4 (List.mem_of_getElem? (i := 115) rfl)) rfl), Or.inl rfl, rfl⟩
theorem ff_X6_34 : Ff RX6 34 8 7 (.array .int) := ⟨_, _, _, _, "LeapNet$Rule", kc_X6, by decide, rfl, (good_in (tb_4 (List.mem_of_getElem? (i := 117) rfl)) rfl), rfl, rfl, rfl⟩
theorem ff_X6_37 : Ff RX6 37 8 8 (.array .long) := ⟨_, _, _, _, "LeapNet$Rule", kc_X6, by decide, rfl, (good_in (tb_4 (List.mem_of_getElem? (i := 118) rfl)) rfl), rfl, rfl, rfl⟩
theorem ff_X6_41 : Ff RX6 41 8 9 (.array .long) := ⟨_, _, _, _, "LeapNet$Rule", kc_X6, by decide, rfl, (good_in (tb_4 (List.mem_of_getElem? (i := 120) rfl)) rfl), rfl, rfl, rfl⟩
theorem ac_boolean : Cond.arrayClass .boolean ∈ lw_good := (good_in (tb_4 (List.mem_of_getElem? (i := 154) rfl)) rfl)
theorem ff_X6_44 : Ff RX6 44 8 10 (.array .boolean) := ⟨_, _, _, _, "LeapNet$Rule", kc_X6, by decide, rfl, (good_in (tb_4 (List.mem_of_getElem? (i := 121) rfl)) rfl), rfl, rfl, rfl⟩
theorem ff_X6_48 : Ff RX6 48 8 12 (.array .long) := ⟨_, _, _, _, "LeapNet$Rule", kc_X6, by decide, rfl, (good_in (tb_4 (List.mem_of_getElem? (i := 123) rfl)) rfl), rfl, rfl, rfl⟩
theorem ff_X6_51 : Ff RX6 51 8 13 (.array .boolean) := ⟨_, _, _, _, "LeapNet$Rule", kc_X6, by decide, rfl, (good_in (tb_4 (List.mem_of_getElem? (i := 124) rfl)) rfl), rfl, rfl, rfl⟩
theorem fl_X6_11 : Fl RX6 11 8 0 := kc_X6.fl (ref := "LeapNet$Rule") (by decide) (Or.inl (good_in (tb_4 (List.mem_of_getElem? (i := 107) rfl)) rfl)) (Or.inl rfl)
theorem lk_X6_100 : Lk RX6 100 yX5_isAnyWord := Or.inl (good_in (tb_4 (List.mem_of_getElem? (i := 175) rfl)) rfl)
theorem lk_X6_112 : Lk RX6 112 yX5_code := Or.inl (good_in (tb_4 (List.mem_of_getElem? (i := 187) rfl)) rfl)
theorem lk_X6_115 : Lk RX6 115 yX11_isWithin := Or.inr ⟨"LeapNet", (nw_in (tb_4 (List.mem_of_getElem? (i := 191) rfl)) rfl)⟩
theorem lk_X6_103 : Lk RX6 103 yX5_wordLength := Or.inl (good_in (tb_4 (List.mem_of_getElem? (i := 179) rfl)) rfl)
theorem lk_X6_106 : Lk RX6 106 yX6_isKeyWord := Or.inl (good_in (tb_4 (List.mem_of_getElem? (i := 183) rfl)) rfl)
theorem yk_X6_isKeyWord : Yk yX6_isKeyWord cX6_isKeyWord 1 (some .boolean) 0 := ⟨(good_in (tb_4 (List.mem_of_getElem? (i := 186) rfl)) rfl), (good_in (tb_1 (List.mem_of_getElem? (i := 17) rfl)) rfl), ⟨by decide +kernel, by decide +kernel⟩, by decide +kernel⟩
theorem yv_X6_isKeyWord : Cond.instanceMethod yX6_isKeyWord ∈ lw_good ∧ Cond.selects yX6_isKeyWord.cls yX6_isKeyWord yX6_isKeyWord ∈ lw_good := ⟨(good_in (tb_4 (List.mem_of_getElem? (i := 185) rfl)) rfl), (good_in (List.mem_append_left _ (by decide +kernel)) rfl)⟩
theorem lk_X6_109 : Lk RX6 109 yX6_isVariable := Or.inl (good_in (tb_4 (List.mem_of_getElem? (i := 192) rfl)) rfl)
theorem yk_X6_isVariable : Yk yX6_isVariable cX6_isVariable 1 (some .boolean) 0 := ⟨(good_in (tb_4 (List.mem_of_getElem? (i := 195) rfl)) rfl), (good_in (tb_1 (List.mem_of_getElem? (i := 17) rfl)) rfl), ⟨by decide +kernel, by decide +kernel⟩, by decide +kernel⟩
theorem yv_X6_isVariable : Cond.instanceMethod yX6_isVariable ∈ lw_good ∧ Cond.selects yX6_isVariable.cls yX6_isVariable yX6_isVariable ∈ lw_good := ⟨(good_in (tb_4 (List.mem_of_getElem? (i := 194) rfl)) rfl), (good_in (List.mem_append_left _ (by decide +kernel)) rfl)⟩
theorem fl_X6_71 : Fl RX6 71 8 5 := kc_X6.fl (ref := "LeapNet$Rule") (by decide) (Or.inl (good_in (tb_4 (List.mem_of_getElem? (i := 113) rfl)) rfl)) (Or.inl rfl)
theorem fl_X6_34 : Fl RX6 34 8 7 := kc_X6.fl (ref := "LeapNet$Rule") (by decide) (Or.inl (good_in (tb_4 (List.mem_of_getElem? (i := 117) rfl)) rfl)) (Or.inl rfl)
theorem lk_X6_119 : Lk RX6 119 yX5_isSameWord := Or.inl (good_in (tb_4 (List.mem_of_getElem? (i := 204) rfl)) rfl)
theorem yk_X5_isSameWord : Yk yX5_isSameWord cX5_isSameWord 3 (some .boolean) 1 := ⟨(good_in (tb_4 (List.mem_of_getElem? (i := 207) rfl)) rfl), (good_in (tb_1 (List.mem_of_getElem? (i := 18) rfl)) rfl), ⟨by decide +kernel, by decide +kernel⟩, by decide +kernel⟩
theorem yv_X5_isSameWord : Cond.instanceMethod yX5_isSameWord ∈ lw_good ∧ Cond.selects yX5_isSameWord.cls yX5_isSameWord yX5_isSameWord ∈ lw_good := ⟨(good_in (tb_4 (List.mem_of_getElem? (i := 205) rfl)) rfl), (good_in (tb_4 (List.mem_of_getElem? (i := 206) rfl)) rfl)⟩
theorem lk_X6_81 : Lk RX6 81 yX5_isWord := Or.inl (good_in (tb_4 (List.mem_of_getElem? (i := 209) rfl)) rfl)
theorem lk_X6_134 : Lk RX6 134 yX6_isFew := Or.inl (good_in (tb_4 (List.mem_of_getElem? (i := 235) rfl)) rfl)
theorem yk_X6_isFew : Yk yX6_isFew cX6_isFew 1 (some .boolean) 0 := ⟨(good_in (tb_4 (List.mem_of_getElem? (i := 238) rfl)) rfl), (good_in (tb_1 (List.mem_of_getElem? (i := 17) rfl)) rfl), ⟨by decide +kernel, by decide +kernel⟩, by decide +kernel⟩
theorem yv_X6_isFew : Cond.instanceMethod yX6_isFew ∈ lw_good ∧ Cond.selects yX6_isFew.cls yX6_isFew yX6_isFew ∈ lw_good := ⟨(good_in (tb_4 (List.mem_of_getElem? (i := 237) rfl)) rfl), (good_in (List.mem_append_left _ (by decide +kernel)) rfl)⟩
theorem lk_X6_137 : Lk RX6 137 yX5_isNumber := Or.inl (good_in (tb_4 (List.mem_of_getElem? (i := 239) rfl)) rfl)
theorem lk_X6_140 : Lk RX6 140 yX5_isSign := Or.inl (good_in (tb_5 (List.mem_of_getElem? (i := 3) rfl)) rfl)
theorem fl_X6_165 : Fl RX6 165 8 4 := kc_X6.fl (ref := "LeapNet$Rule") (by decide) (Or.inl (good_in (tb_4 (List.mem_of_getElem? (i := 112) rfl)) rfl)) (Or.inl rfl)
theorem fl_X6_24 : Fl RX6 24 8 2 := kc_X6.fl (ref := "LeapNet$Rule") (by decide) (Or.inl (good_in (tb_4 (List.mem_of_getElem? (i := 110) rfl)) rfl)) (Or.inl rfl)
theorem fl_X6_28 : Fl RX6 28 8 3 := kc_X6.fl (ref := "LeapNet$Rule") (by decide) (Or.inl (good_in (tb_4 (List.mem_of_getElem? (i := 111) rfl)) rfl)) (Or.inl rfl)
theorem fp_X6_165 : Fp RX6 165 8 4 .int := ⟨_, _, _, _, "LeapNet$Rule", kc_X6, by decide, rfl, Or.inl (good_in (tb_4 (List.mem_of_getElem? (i := 112) rfl)) rfl), Or.inl rfl, rfl⟩
theorem lk_X6_74 : Lk RX6 74 yX6_placeOfName := Or.inl (good_in (tb_4 (List.mem_of_getElem? (i := 200) rfl)) rfl)
theorem yk_X6_placeOfName : Yk yX6_placeOfName cX6_placeOfName 2 (some .int) 0 := ⟨(good_in (tb_4 (List.mem_of_getElem? (i := 203) rfl)) rfl), (good_in (tb_1 (List.mem_of_getElem? (i := 17) rfl)) rfl), ⟨by decide +kernel, by decide +kernel⟩, by decide +kernel⟩
theorem yv_X6_placeOfName : Cond.instanceMethod yX6_placeOfName ∈ lw_good ∧ Cond.selects yX6_placeOfName.cls yX6_placeOfName yX6_placeOfName ∈ lw_good := ⟨(good_in (tb_4 (List.mem_of_getElem? (i := 202) rfl)) rfl), (good_in (List.mem_append_left _ (by decide +kernel)) rfl)⟩
theorem lk_X6_67 : Lk RX6 67 yX5_refuse := Or.inl (good_in (tb_4 (List.mem_of_getElem? (i := 196) rfl)) rfl)
theorem lk_X6_96 : Lk RX6 96 yX6_emit := Or.inl (good_in (tb_5 (List.mem_of_getElem? (i := 24) rfl)) rfl)
theorem yk_X6_emit : Yk yX6_emit cX6_emit 3 none 2 := ⟨(good_in (tb_5 (List.mem_of_getElem? (i := 27) rfl)) rfl), (good_in (tb_1 (List.mem_of_getElem? (i := 17) rfl)) rfl), ⟨by decide +kernel, by decide +kernel⟩, by decide +kernel⟩
theorem yv_X6_emit : Cond.instanceMethod yX6_emit ∈ lw_good ∧ Cond.selects yX6_emit.cls yX6_emit yX6_emit ∈ lw_good := ⟨(good_in (tb_5 (List.mem_of_getElem? (i := 26) rfl)) rfl), (good_in (List.mem_append_left _ (by decide +kernel)) rfl)⟩
theorem lk_X6_85 : Lk RX6 85 yX5_advance := Or.inl (good_in (tb_4 (List.mem_of_getElem? (i := 213) rfl)) rfl)
theorem lk_X6_131 : Lk RX6 131 yX6_readSum := Or.inl (good_in (tb_5 (List.mem_of_getElem? (i := 12) rfl)) rfl)
theorem yk_X6_readSum : Yk yX6_readSum cX6_readSum 4 none 1 := ⟨(good_in (tb_5 (List.mem_of_getElem? (i := 15) rfl)) rfl), (good_in (tb_1 (List.mem_of_getElem? (i := 17) rfl)) rfl), ⟨by decide +kernel, by decide +kernel⟩, by decide +kernel⟩
theorem yv_X6_readSum : Cond.instanceMethod yX6_readSum ∈ lw_good ∧ Cond.selects yX6_readSum.cls yX6_readSum yX6_readSum ∈ lw_good := ⟨(good_in (tb_5 (List.mem_of_getElem? (i := 14) rfl)) rfl), (good_in (List.mem_append_left _ (by decide +kernel)) rfl)⟩
theorem lk_X6_125 : Lk RX6 125 yX6_readTest := Or.inl (good_in (tb_5 (List.mem_of_getElem? (i := 4) rfl)) rfl)
theorem yk_X6_readTest : Yk yX6_readTest cX6_readTest 5 none 1 := ⟨(good_in (tb_5 (List.mem_of_getElem? (i := 7) rfl)) rfl), (good_in (tb_1 (List.mem_of_getElem? (i := 17) rfl)) rfl), ⟨by decide +kernel, by decide +kernel⟩, by decide +kernel⟩
theorem yv_X6_readTest : Cond.instanceMethod yX6_readTest ∈ lw_good ∧ Cond.selects yX6_readTest.cls yX6_readTest yX6_readTest ∈ lw_good := ⟨(good_in (tb_5 (List.mem_of_getElem? (i := 6) rfl)) rfl), (good_in (List.mem_append_left _ (by decide +kernel)) rfl)⟩
theorem lk_X6_128 : Lk RX6 128 yX5_takeWord := Or.inl (good_in (tb_5 (List.mem_of_getElem? (i := 44) rfl)) rfl)
theorem yk_X5_takeWord : Yk yX5_takeWord cX5_takeWord 2 none 1 := ⟨(good_in (tb_5 (List.mem_of_getElem? (i := 47) rfl)) rfl), (good_in (tb_1 (List.mem_of_getElem? (i := 18) rfl)) rfl), ⟨by decide +kernel, by decide +kernel⟩, by decide +kernel⟩
theorem yv_X5_takeWord : Cond.instanceMethod yX5_takeWord ∈ lw_good ∧ Cond.selects yX5_takeWord.cls yX5_takeWord yX5_takeWord ∈ lw_good := ⟨(good_in (tb_5 (List.mem_of_getElem? (i := 45) rfl)) rfl), (good_in (tb_5 (List.mem_of_getElem? (i := 46) rfl)) rfl)⟩
theorem lk_X6_92 : Lk RX6 92 yX6_readPart := Or.inl (good_in (tb_4 (List.mem_of_getElem? (i := 227) rfl)) rfl)
theorem yk_X6_readPart : Yk yX6_readPart cX6_readPart 4 none 2 := ⟨(good_in (tb_4 (List.mem_of_getElem? (i := 230) rfl)) rfl), (good_in (tb_1 (List.mem_of_getElem? (i := 17) rfl)) rfl), ⟨by decide +kernel, by decide +kernel⟩, by decide +kernel⟩
theorem yv_X6_readPart : Cond.instanceMethod yX6_readPart ∈ lw_good ∧ Cond.selects yX6_readPart.cls yX6_readPart yX6_readPart ∈ lw_good := ⟨(good_in (tb_4 (List.mem_of_getElem? (i := 229) rfl)) rfl), (good_in (List.mem_append_left _ (by decide +kernel)) rfl)⟩
theorem lk_X6_122 : Lk RX6 122 yX6_canBeginSum := Or.inl (good_in (tb_4 (List.mem_of_getElem? (i := 231) rfl)) rfl)
theorem yk_X6_canBeginSum : Yk yX6_canBeginSum cX6_canBeginSum 2 (some .boolean) 0 := ⟨(good_in (tb_4 (List.mem_of_getElem? (i := 234) rfl)) rfl), (good_in (tb_1 (List.mem_of_getElem? (i := 17) rfl)) rfl), ⟨by decide +kernel, by decide +kernel⟩, by decide +kernel⟩
theorem yv_X6_canBeginSum : Cond.instanceMethod yX6_canBeginSum ∈ lw_good ∧ Cond.selects yX6_canBeginSum.cls yX6_canBeginSum yX6_canBeginSum ∈ lw_good := ⟨(good_in (tb_4 (List.mem_of_getElem? (i := 233) rfl)) rfl), (good_in (List.mem_append_left _ (by decide +kernel)) rfl)⟩
theorem lk_X6_144 : Lk RX6 144 yX6_readOne := Or.inl (good_in (tb_5 (List.mem_of_getElem? (i := 8) rfl)) rfl)
theorem yk_X6_readOne : Yk yX6_readOne cX6_readOne 4 none 1 := ⟨(good_in (tb_5 (List.mem_of_getElem? (i := 11) rfl)) rfl), (good_in (tb_1 (List.mem_of_getElem? (i := 17) rfl)) rfl), ⟨by decide +kernel, by decide +kernel⟩, by decide +kernel⟩
theorem yv_X6_readOne : Cond.instanceMethod yX6_readOne ∈ lw_good ∧ Cond.selects yX6_readOne.cls yX6_readOne yX6_readOne ∈ lw_good := ⟨(good_in (tb_5 (List.mem_of_getElem? (i := 10) rfl)) rfl), (good_in (List.mem_append_left _ (by decide +kernel)) rfl)⟩
theorem lk_X6_147 : Lk RX6 147 yX6_comparesHere := Or.inl (good_in (tb_5 (List.mem_of_getElem? (i := 40) rfl)) rfl)
theorem yk_X6_comparesHere : Yk yX6_comparesHere cX6_comparesHere 1 (some .int) 0 := ⟨(good_in (tb_5 (List.mem_of_getElem? (i := 43) rfl)) rfl), (good_in (tb_1 (List.mem_of_getElem? (i := 17) rfl)) rfl), ⟨by decide +kernel, by decide +kernel⟩, by decide +kernel⟩
theorem yv_X6_comparesHere : Cond.instanceMethod yX6_comparesHere ∈ lw_good ∧ Cond.selects yX6_comparesHere.cls yX6_comparesHere yX6_comparesHere ∈ lw_good := ⟨(good_in (tb_5 (List.mem_of_getElem? (i := 42) rfl)) rfl), (good_in (List.mem_append_left _ (by decide +kernel)) rfl)⟩
theorem lk_X6_150 : Lk RX6 150 yX6_readItem := Or.inl (good_in (tb_5 (List.mem_of_getElem? (i := 16) rfl)) rfl)
theorem yk_X6_readItem : Yk yX6_readItem cX6_readItem 4 none 1 := ⟨(good_in (tb_5 (List.mem_of_getElem? (i := 19) rfl)) rfl), (good_in (tb_1 (List.mem_of_getElem? (i := 17) rfl)) rfl), ⟨by decide +kernel, by decide +kernel⟩, by decide +kernel⟩
theorem yv_X6_readItem : Cond.instanceMethod yX6_readItem ∈ lw_good ∧ Cond.selects yX6_readItem.cls yX6_readItem yX6_readItem ∈ lw_good := ⟨(good_in (tb_5 (List.mem_of_getElem? (i := 18) rfl)) rfl), (good_in (List.mem_append_left _ (by decide +kernel)) rfl)⟩
theorem lk_X6_153 : Lk RX6 153 yX6_readAtom := Or.inl (good_in (tb_5 (List.mem_of_getElem? (i := 20) rfl)) rfl)
theorem yk_X6_readAtom : Yk yX6_readAtom cX6_readAtom 2 none 1 := ⟨(good_in (tb_5 (List.mem_of_getElem? (i := 23) rfl)) rfl), (good_in (tb_1 (List.mem_of_getElem? (i := 17) rfl)) rfl), ⟨by decide +kernel, by decide +kernel⟩, by decide +kernel⟩
theorem yv_X6_readAtom : Cond.instanceMethod yX6_readAtom ∈ lw_good ∧ Cond.selects yX6_readAtom.cls yX6_readAtom yX6_readAtom ∈ lw_good := ⟨(good_in (tb_5 (List.mem_of_getElem? (i := 22) rfl)) rfl), (good_in (List.mem_append_left _ (by decide +kernel)) rfl)⟩
theorem lk_X6_156 : Lk RX6 156 yX6_timesHere := Or.inl (good_in (tb_5 (List.mem_of_getElem? (i := 36) rfl)) rfl)
theorem yk_X6_timesHere : Yk yX6_timesHere cX6_timesHere 1 (some .int) 0 := ⟨(good_in (tb_5 (List.mem_of_getElem? (i := 39) rfl)) rfl), (good_in (tb_1 (List.mem_of_getElem? (i := 17) rfl)) rfl), ⟨by decide +kernel, by decide +kernel⟩, by decide +kernel⟩
theorem yv_X6_timesHere : Cond.instanceMethod yX6_timesHere ∈ lw_good ∧ Cond.selects yX6_timesHere.cls yX6_timesHere yX6_timesHere ∈ lw_good := ⟨(good_in (tb_5 (List.mem_of_getElem? (i := 38) rfl)) rfl), (good_in (List.mem_append_left _ (by decide +kernel)) rfl)⟩
theorem lk_X6_162 : Lk RX6 162 yX6_readWordAtom := Or.inl (good_in (tb_5 (List.mem_of_getElem? (i := 32) rfl)) rfl)
theorem yk_X6_readWordAtom : Yk yX6_readWordAtom cX6_readWordAtom 2 none 0 := ⟨(good_in (tb_5 (List.mem_of_getElem? (i := 35) rfl)) rfl), (good_in (tb_1 (List.mem_of_getElem? (i := 17) rfl)) rfl), ⟨by decide +kernel, by decide +kernel⟩, by decide +kernel⟩
theorem yv_X6_readWordAtom : Cond.instanceMethod yX6_readWordAtom ∈ lw_good ∧ Cond.selects yX6_readWordAtom.cls yX6_readWordAtom yX6_readWordAtom ∈ lw_good := ⟨(good_in (tb_5 (List.mem_of_getElem? (i := 34) rfl)) rfl), (good_in (List.mem_append_left _ (by decide +kernel)) rfl)⟩
theorem lk_X6_159 : Lk RX6 159 yX6_readFew := Or.inl (good_in (tb_5 (List.mem_of_getElem? (i := 28) rfl)) rfl)
theorem yk_X6_readFew : Yk yX6_readFew cX6_readFew 3 none 1 := ⟨(good_in (tb_5 (List.mem_of_getElem? (i := 31) rfl)) rfl), (good_in (tb_1 (List.mem_of_getElem? (i := 17) rfl)) rfl), ⟨by decide +kernel, by decide +kernel⟩, by decide +kernel⟩
theorem yv_X6_readFew : Cond.instanceMethod yX6_readFew ∈ lw_good ∧ Cond.selects yX6_readFew.cls yX6_readFew yX6_readFew ∈ lw_good := ⟨(good_in (tb_5 (List.mem_of_getElem? (i := 30) rfl)) rfl), (good_in (List.mem_append_left _ (by decide +kernel)) rfl)⟩
theorem lk_X6_88 : Lk RX6 88 yX5_takeSign := Or.inl (good_in (tb_4 (List.mem_of_getElem? (i := 217) rfl)) rfl)
theorem lk_X6_64 : Lk RX6 64 yX6_isName := Or.inl (good_in (tb_4 (List.mem_of_getElem? (i := 171) rfl)) rfl)
theorem yk_X6_isName : Yk yX6_isName cX6_isName 1 (some .boolean) 0 := ⟨(good_in (tb_4 (List.mem_of_getElem? (i := 174) rfl)) rfl), (good_in (tb_1 (List.mem_of_getElem? (i := 17) rfl)) rfl), ⟨by decide +kernel, by decide +kernel⟩, by decide +kernel⟩
theorem yv_X6_isName : Cond.instanceMethod yX6_isName ∈ lw_good ∧ Cond.selects yX6_isName.cls yX6_isName yX6_isName ∈ lw_good := ⟨(good_in (tb_4 (List.mem_of_getElem? (i := 173) rfl)) rfl), (good_in (List.mem_append_left _ (by decide +kernel)) rfl)⟩
theorem fl_X6_78 : Fl RX6 78 7 8 := kc_X5.fl (ref := "LeapNet$Reader") (by decide) (Or.inr ⟨"LeapNet", (nw_in (tb_3 (List.mem_of_getElem? (i := 183) rfl)) rfl)⟩) (Or.inl rfl)
theorem fp_X6_71 : Fp RX6 71 8 5 .int := ⟨_, _, _, _, "LeapNet$Rule", kc_X6, by decide, rfl, Or.inl (good_in (tb_4 (List.mem_of_getElem? (i := 113) rfl)) rfl), Or.inl rfl, rfl⟩
theorem lk_X6_54 : Lk RX6 54 yX5_isFine := Or.inl (good_in (tb_4 (List.mem_of_getElem? (i := 159) rfl)) rfl)
theorem lk_X6_58 : Lk RX6 58 yX5_isEnd := Or.inl (good_in (tb_4 (List.mem_of_getElem? (i := 163) rfl)) rfl)
theorem lk_X6_61 : Lk RX6 61 yX6_readDef := Or.inl (good_in (tb_4 (List.mem_of_getElem? (i := 167) rfl)) rfl)
theorem yk_X6_readDef : Yk yX6_readDef cX6_readDef 1 none 0 := ⟨(good_in (tb_4 (List.mem_of_getElem? (i := 170) rfl)) rfl), (good_in (tb_1 (List.mem_of_getElem? (i := 17) rfl)) rfl), ⟨by decide +kernel, by decide +kernel⟩, by decide +kernel⟩
theorem yv_X6_readDef : Cond.instanceMethod yX6_readDef ∈ lw_good ∧ Cond.selects yX6_readDef.cls yX6_readDef yX6_readDef ∈ lw_good := ⟨(good_in (tb_4 (List.mem_of_getElem? (i := 169) rfl)) rfl), (good_in (List.mem_append_left _ (by decide +kernel)) rfl)⟩
theorem fl_X6_166 : Fl RX6 166 8 11 := kc_X6.fl (ref := "LeapNet$Rule") (by decide) (Or.inl (good_in (tb_4 (List.mem_of_getElem? (i := 122) rfl)) rfl)) (Or.inl rfl)
theorem fl_X6_41 : Fl RX6 41 8 9 := kc_X6.fl (ref := "LeapNet$Rule") (by decide) (Or.inl (good_in (tb_4 (List.mem_of_getElem? (i := 120) rfl)) rfl)) (Or.inl rfl)
theorem fl_X6_44 : Fl RX6 44 8 10 := kc_X6.fl (ref := "LeapNet$Rule") (by decide) (Or.inl (good_in (tb_4 (List.mem_of_getElem? (i := 121) rfl)) rfl)) (Or.inl rfl)
theorem fp_X6_166 : Fp RX6 166 8 11 .int := ⟨_, _, _, _, "LeapNet$Rule", kc_X6, by decide, rfl, Or.inl (good_in (tb_4 (List.mem_of_getElem? (i := 122) rfl)) rfl), Or.inl rfl, rfl⟩
theorem fl_X6_48 : Fl RX6 48 8 12 := kc_X6.fl (ref := "LeapNet$Rule") (by decide) (Or.inl (good_in (tb_4 (List.mem_of_getElem? (i := 123) rfl)) rfl)) (Or.inl rfl)
theorem fl_X6_51 : Fl RX6 51 8 13 := kc_X6.fl (ref := "LeapNet$Rule") (by decide) (Or.inl (good_in (tb_4 (List.mem_of_getElem? (i := 124) rfl)) rfl)) (Or.inl rfl)
theorem lk_X6_172 : Lk RX6 172 yX6_lay := Or.inl (good_in (tb_3 (List.mem_of_getElem? (i := 65) rfl)) rfl)
theorem yk_X6_lay : Yk yX6_lay cX6_lay 4 none 2 := ⟨(good_in (tb_3 (List.mem_of_getElem? (i := 68) rfl)) rfl), (good_in (tb_1 (List.mem_of_getElem? (i := 17) rfl)) rfl), ⟨by decide +kernel, by decide +kernel⟩, by decide +kernel⟩
theorem yv_X6_lay : Cond.instanceMethod yX6_lay ∈ lw_good ∧ Cond.selects yX6_lay.cls yX6_lay yX6_lay ∈ lw_good := ⟨(good_in (tb_3 (List.mem_of_getElem? (i := 67) rfl)) rfl), (good_in (List.mem_append_left _ (by decide +kernel)) rfl)⟩
theorem lk_X6_189 : Lk RX6 189 yX6_outcome := Or.inl (good_in (tb_3 (List.mem_of_getElem? (i := 84) rfl)) rfl)
theorem yk_X6_outcome : Yk yX6_outcome cX6_outcome 5 (some .long) 3 := ⟨(good_in (tb_3 (List.mem_of_getElem? (i := 86) rfl)) rfl), (good_in (tb_1 (List.mem_of_getElem? (i := 17) rfl)) rfl), ⟨by decide +kernel, by decide +kernel⟩, by decide +kernel⟩
theorem ys_X6_outcome : Cond.static yX6_outcome ∈ lw_good := (good_in (tb_3 (List.mem_of_getElem? (i := 85) rfl)) rfl)
theorem lk_X6_185 : Lk RX6 185 yX6_compares := Or.inl (good_in (tb_3 (List.mem_of_getElem? (i := 81) rfl)) rfl)
theorem yk_X6_compares : Yk yX6_compares cX6_compares 5 (some .boolean) 3 := ⟨(good_in (tb_3 (List.mem_of_getElem? (i := 83) rfl)) rfl), (good_in (tb_1 (List.mem_of_getElem? (i := 17) rfl)) rfl), ⟨by decide +kernel, by decide +kernel⟩, by decide +kernel⟩
theorem ys_X6_compares : Cond.static yX6_compares ∈ lw_good := (good_in (tb_3 (List.mem_of_getElem? (i := 82) rfl)) rfl)
theorem fl_X6_37 : Fl RX6 37 8 8 := kc_X6.fl (ref := "LeapNet$Rule") (by decide) (Or.inl (good_in (tb_4 (List.mem_of_getElem? (i := 118) rfl)) rfl)) (Or.inl rfl)
theorem lk_X6_176 : Lk RX6 176 yX6_keepValue := Or.inl (good_in (tb_3 (List.mem_of_getElem? (i := 69) rfl)) rfl)
theorem yk_X6_keepValue : Yk yX6_keepValue cX6_keepValue 2 none 1 := ⟨(good_in (tb_3 (List.mem_of_getElem? (i := 72) rfl)) rfl), (good_in (tb_1 (List.mem_of_getElem? (i := 17) rfl)) rfl), ⟨by decide +kernel, by decide +kernel⟩, by decide +kernel⟩
theorem yv_X6_keepValue : Cond.instanceMethod yX6_keepValue ∈ lw_good ∧ Cond.selects yX6_keepValue.cls yX6_keepValue yX6_keepValue ∈ lw_good := ⟨(good_in (tb_3 (List.mem_of_getElem? (i := 71) rfl)) rfl), (good_in (List.mem_append_left _ (by decide +kernel)) rfl)⟩
theorem lk_X6_179 : Lk RX6 179 yX6_choose := Or.inl (good_in (tb_3 (List.mem_of_getElem? (i := 73) rfl)) rfl)
theorem yk_X6_choose : Yk yX6_choose cX6_choose 2 none 0 := ⟨(good_in (tb_3 (List.mem_of_getElem? (i := 76) rfl)) rfl), (good_in (tb_1 (List.mem_of_getElem? (i := 17) rfl)) rfl), ⟨by decide +kernel, by decide +kernel⟩, by decide +kernel⟩
theorem yv_X6_choose : Cond.instanceMethod yX6_choose ∈ lw_good ∧ Cond.selects yX6_choose.cls yX6_choose yX6_choose ∈ lw_good := ⟨(good_in (tb_3 (List.mem_of_getElem? (i := 75) rfl)) rfl), (good_in (List.mem_append_left _ (by decide +kernel)) rfl)⟩
theorem lk_X6_182 : Lk RX6 182 yX6_combine := Or.inl (good_in (tb_3 (List.mem_of_getElem? (i := 77) rfl)) rfl)
theorem yk_X6_combine : Yk yX6_combine cX6_combine 8 none 2 := ⟨(good_in (tb_3 (List.mem_of_getElem? (i := 80) rfl)) rfl), (good_in (tb_1 (List.mem_of_getElem? (i := 17) rfl)) rfl), ⟨by decide +kernel, by decide +kernel⟩, by decide +kernel⟩
theorem yv_X6_combine : Cond.instanceMethod yX6_combine ∈ lw_good ∧ Cond.selects yX6_combine.cls yX6_combine yX6_combine ∈ lw_good := ⟨(good_in (tb_3 (List.mem_of_getElem? (i := 79) rfl)) rfl), (good_in (List.mem_append_left _ (by decide +kernel)) rfl)⟩
theorem fl_X6_31 : Fl RX6 31 8 6 := kc_X6.fl (ref := "LeapNet$Rule") (by decide) (Or.inl (good_in (tb_4 (List.mem_of_getElem? (i := 115) rfl)) rfl)) (Or.inl rfl)
theorem lk_X6_169 : Lk RX6 169 yX6_perform := Or.inl (good_in (tb_3 (List.mem_of_getElem? (i := 60) rfl)) rfl)
theorem yk_X6_perform : Yk yX6_perform cX6_perform 3 none 2 := ⟨(good_in (tb_3 (List.mem_of_getElem? (i := 64) rfl)) rfl), (good_in (tb_1 (List.mem_of_getElem? (i := 17) rfl)) rfl), ⟨by decide +kernel, by decide +kernel⟩, by decide +kernel⟩
theorem yv_X6_perform : Cond.instanceMethod yX6_perform ∈ lw_good ∧ Cond.selects yX6_perform.cls yX6_perform yX6_perform ∈ lw_good := ⟨(good_in (tb_3 (List.mem_of_getElem? (i := 62) rfl)) rfl), (good_in (List.mem_append_left _ (by decide +kernel)) rfl)⟩
theorem oi_X7_3 : Cond.methodLink RX7 3 Lib.objectInit ∈ lw_good := (good_in (tb_1 (List.mem_of_getElem? (i := 107) rfl)) rfl)
theorem ff_X7_11 : Ff RX7 11 9 8 (.array .long) := ⟨_, _, _, _, "LeapNet$Run", kc_X7, by decide, rfl, (good_in (tb_1 (List.mem_of_getElem? (i := 120) rfl)) rfl), rfl, rfl, rfl⟩
theorem ff_X7_17 : Ff RX7 17 9 9 (.array .int) := ⟨_, _, _, _, "LeapNet$Run", kc_X7, by decide, rfl, (good_in (tb_1 (List.mem_of_getElem? (i := 122) rfl)) rfl), rfl, rfl, rfl⟩
theorem fl_X7_21 : Fl RX7 21 9 7 := kc_X7.fl (ref := "LeapNet$Run") (by decide) (Or.inl (good_in (tb_1 (List.mem_of_getElem? (i := 118) rfl)) rfl)) (Or.inl rfl)
theorem kJ_X11_233 : Cond.constantLong RX11 233 100000000 ∈ lw_good := (good_in (tb_3 (List.mem_of_getElem? (i := 133) rfl)) rfl)
theorem fl_X7_36 : Fl RX7 36 9 3 := kc_X7.fl (ref := "LeapNet$Run") (by decide) (Or.inl (good_in (tb_1 (List.mem_of_getElem? (i := 112) rfl)) rfl)) (Or.inl rfl)
theorem fl_X7_33 : Fl RX7 33 9 2 := kc_X7.fl (ref := "LeapNet$Run") (by decide) (Or.inl (good_in (tb_1 (List.mem_of_getElem? (i := 111) rfl)) rfl)) (Or.inl rfl)
theorem fp_X7_36 : Fp RX7 36 9 3 .int := ⟨_, _, _, _, "LeapNet$Run", kc_X7, by decide, rfl, Or.inl (good_in (tb_1 (List.mem_of_getElem? (i := 112) rfl)) rfl), Or.inl rfl, rfl⟩
theorem fl_X7_29 : Fl RX7 29 9 1 := kc_X7.fl (ref := "LeapNet$Run") (by decide) (Or.inl (good_in (tb_1 (List.mem_of_getElem? (i := 109) rfl)) rfl)) (Or.inl rfl)
theorem lk_X7_39 : Lk RX7 39 yX1_shownAt := Or.inl (good_in (tb_6 (List.mem_of_getElem? (i := 67) rfl)) rfl)
theorem yk_X1_shownAt : Yk yX1_shownAt cX1_shownAt 2 (some .long) 1 := ⟨(good_in (tb_3 (List.mem_of_getElem? (i := 105) rfl)) rfl), (good_in (tb_1 (List.mem_of_getElem? (i := 12) rfl)) rfl), ⟨by decide +kernel, by decide +kernel⟩, by decide +kernel⟩
theorem yv_X1_shownAt : Cond.instanceMethod yX1_shownAt ∈ lw_good ∧ Cond.selects yX1_shownAt.cls yX1_shownAt yX1_shownAt ∈ lw_good := ⟨(good_in (tb_3 (List.mem_of_getElem? (i := 103) rfl)) rfl), (good_in (tb_3 (List.mem_of_getElem? (i := 104) rfl)) rfl)⟩
theorem fp_X7_45 : Fp RX7 45 9 4 .long := ⟨_, _, _, _, "LeapNet$Run", kc_X7, by decide, rfl, Or.inl (good_in (tb_1 (List.mem_of_getElem? (i := 114) rfl)) rfl), Or.inl rfl, rfl⟩
theorem fp_X7_49 : Fp RX7 49 9 5 .int := ⟨_, _, _, _, "LeapNet$Run", kc_X7, by decide, rfl, Or.inl (good_in (tb_1 (List.mem_of_getElem? (i := 115) rfl)) rfl), Or.inl rfl, rfl⟩
theorem fl_X7_45 : Fl RX7 45 9 4 := kc_X7.fl (ref := "LeapNet$Run") (by decide) (Or.inl (good_in (tb_1 (List.mem_of_getElem? (i := 114) rfl)) rfl)) (Or.inl rfl)
theorem lk_X7_91 : Lk RX7 91 yX11_thousandthsInAll := Or.inr ⟨"LeapNet", (nw_in (tb_6 (List.mem_of_getElem? (i := 77) rfl)) rfl)⟩
theorem yk_X11_thousandthsInAll : Yk yX11_thousandthsInAll cX11_thousandthsInAll 2 (some .long) 1 := ⟨(good_in (tb_3 (List.mem_of_getElem? (i := 132) rfl)) rfl), (good_in (tb_1 (List.mem_of_getElem? (i := 1) rfl)) rfl), ⟨by decide +kernel, by decide +kernel⟩, by decide +kernel⟩
theorem ys_X11_thousandthsInAll : Cond.static yX11_thousandthsInAll ∈ lw_good := (good_in (tb_3 (List.mem_of_getElem? (i := 131) rfl)) rfl)
theorem kJ_X7_73 : Cond.constantLong RX7 73 1000 ∈ lw_good := (good_in (tb_6 (List.mem_of_getElem? (i := 78) rfl)) rfl)
theorem fl_X7_49 : Fl RX7 49 9 5 := kc_X7.fl (ref := "LeapNet$Run") (by decide) (Or.inl (good_in (tb_1 (List.mem_of_getElem? (i := 115) rfl)) rfl)) (Or.inl rfl)
theorem lk_X7_95 : Lk RX7 95 yX7_goOn := Or.inl (good_in (tb_6 (List.mem_of_getElem? (i := 79) rfl)) rfl)
theorem yk_X7_goOn : Yk yX7_goOn cX7_goOn 1 none 0 := ⟨(good_in (tb_6 (List.mem_of_getElem? (i := 82) rfl)) rfl), (good_in (tb_1 (List.mem_of_getElem? (i := 6) rfl)) rfl), ⟨by decide +kernel, by decide +kernel⟩, by decide +kernel⟩
theorem yv_X7_goOn : Cond.instanceMethod yX7_goOn ∈ lw_good ∧ Cond.selects yX7_goOn.cls yX7_goOn yX7_goOn ∈ lw_good := ⟨(good_in (tb_6 (List.mem_of_getElem? (i := 81) rfl)) rfl), (good_in (List.mem_append_left _ (by decide +kernel)) rfl)⟩
theorem fl_X7_52 : Fl RX7 52 9 6 := kc_X7.fl (ref := "LeapNet$Run") (by decide) (Or.inl (good_in (tb_1 (List.mem_of_getElem? (i := 116) rfl)) rfl)) (Or.inl rfl)
theorem fp_X7_52 : Fp RX7 52 9 6 .int := ⟨_, _, _, _, "LeapNet$Run", kc_X7, by decide, rfl, Or.inl (good_in (tb_1 (List.mem_of_getElem? (i := 116) rfl)) rfl), Or.inl rfl, rfl⟩
theorem kJ_X7_98 : Cond.constantLong RX7 98 100000000 ∈ lw_good := (good_in (tb_6 (List.mem_of_getElem? (i := 87) rfl)) rfl)
theorem fp_X7_21 : Fp RX7 21 9 7 .int := ⟨_, _, _, _, "LeapNet$Run", kc_X7, by decide, rfl, Or.inl (good_in (tb_1 (List.mem_of_getElem? (i := 118) rfl)) rfl), Or.inl rfl, rfl⟩
theorem fl_X7_11 : Fl RX7 11 9 8 := kc_X7.fl (ref := "LeapNet$Run") (by decide) (Or.inl (good_in (tb_1 (List.mem_of_getElem? (i := 120) rfl)) rfl)) (Or.inl rfl)
theorem kJ_X7_100 : Cond.constantLong RX7 100 86400000 ∈ lw_good := (good_in (tb_6 (List.mem_of_getElem? (i := 96) rfl)) rfl)
theorem lk_X7_79 : Lk RX7 79 yX7_keep := Or.inl (good_in (tb_6 (List.mem_of_getElem? (i := 88) rfl)) rfl)
theorem yk_X7_keep : Yk yX7_keep cX7_keep 3 none 1 := ⟨(good_in (tb_6 (List.mem_of_getElem? (i := 91) rfl)) rfl), (good_in (tb_1 (List.mem_of_getElem? (i := 6) rfl)) rfl), ⟨by decide +kernel, by decide +kernel⟩, by decide +kernel⟩
theorem yv_X7_keep : Cond.instanceMethod yX7_keep ∈ lw_good ∧ Cond.selects yX7_keep.cls yX7_keep yX7_keep ∈ lw_good := ⟨(good_in (tb_6 (List.mem_of_getElem? (i := 90) rfl)) rfl), (good_in (List.mem_append_left _ (by decide +kernel)) rfl)⟩
theorem fl_X7_25 : Fl RX7 25 9 0 := kc_X7.fl (ref := "LeapNet$Run") (by decide) (Or.inl (good_in (tb_1 (List.mem_of_getElem? (i := 108) rfl)) rfl)) (Or.inl rfl)
theorem fl_X7_85 : Fl RX7 85 6 3 := kc_X4.fl (ref := "LeapNet$Program") (by decide) (Or.inr ⟨"LeapNet", (nw_in (tb_5 (List.mem_of_getElem? (i := 226) rfl)) rfl)⟩) (Or.inl rfl)
theorem fl_X7_17 : Fl RX7 17 9 9 := kc_X7.fl (ref := "LeapNet$Run") (by decide) (Or.inl (good_in (tb_1 (List.mem_of_getElem? (i := 122) rfl)) rfl)) (Or.inl rfl)
theorem fl_X7_63 : Fl RX7 63 6 2 := kc_X4.fl (ref := "LeapNet$Program") (by decide) (Or.inr ⟨"LeapNet", (nw_in (tb_5 (List.mem_of_getElem? (i := 224) rfl)) rfl)⟩) (Or.inl rfl)
theorem fl_X7_66 : Fl RX7 66 6 1 := kc_X4.fl (ref := "LeapNet$Program") (by decide) (Or.inr ⟨"LeapNet", (nw_in (tb_5 (List.mem_of_getElem? (i := 222) rfl)) rfl)⟩) (Or.inl rfl)
theorem lk_X7_69 : Lk RX7 69 yX7_waitFor := Or.inl (good_in (tb_6 (List.mem_of_getElem? (i := 73) rfl)) rfl)
theorem yk_X7_waitFor : Yk yX7_waitFor cX7_waitFor 6 none 1 := ⟨(good_in (tb_6 (List.mem_of_getElem? (i := 76) rfl)) rfl), (good_in (tb_1 (List.mem_of_getElem? (i := 6) rfl)) rfl), ⟨by decide +kernel, by decide +kernel⟩, by decide +kernel⟩
theorem yv_X7_waitFor : Cond.instanceMethod yX7_waitFor ∈ lw_good ∧ Cond.selects yX7_waitFor.cls yX7_waitFor yX7_waitFor ∈ lw_good := ⟨(good_in (tb_6 (List.mem_of_getElem? (i := 75) rfl)) rfl), (good_in (List.mem_append_left _ (by decide +kernel)) rfl)⟩
theorem lk_X7_75 : Lk RX7 75 yX7_goOnUntil := Or.inl (good_in (tb_6 (List.mem_of_getElem? (i := 83) rfl)) rfl)
theorem yk_X7_goOnUntil : Yk yX7_goOnUntil cX7_goOnUntil 4 none 1 := ⟨(good_in (tb_6 (List.mem_of_getElem? (i := 86) rfl)) rfl), (good_in (tb_1 (List.mem_of_getElem? (i := 6) rfl)) rfl), ⟨by decide +kernel, by decide +kernel⟩, by decide +kernel⟩
theorem yv_X7_goOnUntil : Cond.instanceMethod yX7_goOnUntil ∈ lw_good ∧ Cond.selects yX7_goOnUntil.cls yX7_goOnUntil yX7_goOnUntil ∈ lw_good := ⟨(good_in (tb_6 (List.mem_of_getElem? (i := 85) rfl)) rfl), (good_in (List.mem_append_left _ (by decide +kernel)) rfl)⟩
theorem lk_X7_82 : Lk RX7 82 yX7_parse := Or.inl (good_in (tb_6 (List.mem_of_getElem? (i := 92) rfl)) rfl)
theorem yk_X7_parse : Yk yX7_parse cX7_parse 3 none 1 := ⟨(good_in (tb_6 (List.mem_of_getElem? (i := 95) rfl)) rfl), (good_in (tb_1 (List.mem_of_getElem? (i := 6) rfl)) rfl), ⟨by decide +kernel, by decide +kernel⟩, by decide +kernel⟩
theorem yv_X7_parse : Cond.instanceMethod yX7_parse ∈ lw_good ∧ Cond.selects yX7_parse.cls yX7_parse yX7_parse ∈ lw_good := ⟨(good_in (tb_6 (List.mem_of_getElem? (i := 94) rfl)) rfl), (good_in (List.mem_append_left _ (by decide +kernel)) rfl)⟩
theorem lk_X7_88 : Lk RX7 88 yX7_rowBehindBack := Or.inl (good_in (tb_6 (List.mem_of_getElem? (i := 97) rfl)) rfl)
theorem yk_X7_rowBehindBack : Yk yX7_rowBehindBack cX7_rowBehindBack 3 (some .int) 1 := ⟨(good_in (tb_6 (List.mem_of_getElem? (i := 100) rfl)) rfl), (good_in (tb_1 (List.mem_of_getElem? (i := 6) rfl)) rfl), ⟨by decide +kernel, by decide +kernel⟩, by decide +kernel⟩
theorem yv_X7_rowBehindBack : Cond.instanceMethod yX7_rowBehindBack ∈ lw_good ∧ Cond.selects yX7_rowBehindBack.cls yX7_rowBehindBack yX7_rowBehindBack ∈ lw_good := ⟨(good_in (tb_6 (List.mem_of_getElem? (i := 99) rfl)) rfl), (good_in (List.mem_append_left _ (by decide +kernel)) rfl)⟩
theorem fp_X7_25 : Fp RX7 25 9 0 (.object "LeapNet$Program") := ⟨_, _, _, _, "LeapNet$Run", kc_X7, by decide, rfl, Or.inl (good_in (tb_1 (List.mem_of_getElem? (i := 108) rfl)) rfl), Or.inl rfl, rfl⟩
theorem fp_X7_29 : Fp RX7 29 9 1 (.object "LeapNet$Clock") := ⟨_, _, _, _, "LeapNet$Run", kc_X7, by decide, rfl, Or.inl (good_in (tb_1 (List.mem_of_getElem? (i := 109) rfl)) rfl), Or.inl rfl, rfl⟩
theorem fp_X7_33 : Fp RX7 33 9 2 .int := ⟨_, _, _, _, "LeapNet$Run", kc_X7, by decide, rfl, Or.inl (good_in (tb_1 (List.mem_of_getElem? (i := 111) rfl)) rfl), Or.inl rfl, rfl⟩
theorem kK_X7_55 : Cond.constant RX7 55 1000000 ∈ lw_good := (good_in (tb_6 (List.mem_of_getElem? (i := 68) rfl)) rfl)
theorem fl_X7_56 : Fl RX7 56 6 4 := kc_X4.fl (ref := "LeapNet$Program") (by decide) (Or.inr ⟨"LeapNet", (nw_in (tb_5 (List.mem_of_getElem? (i := 227) rfl)) rfl)⟩) (Or.inl rfl)
theorem lk_X7_59 : Lk RX7 59 yX7_performRow := Or.inl (good_in (tb_6 (List.mem_of_getElem? (i := 69) rfl)) rfl)
theorem yk_X7_performRow : Yk yX7_performRow cX7_performRow 3 (some .int) 1 := ⟨(good_in (tb_6 (List.mem_of_getElem? (i := 72) rfl)) rfl), (good_in (tb_1 (List.mem_of_getElem? (i := 6) rfl)) rfl), ⟨by decide +kernel, by decide +kernel⟩, by decide +kernel⟩
theorem yv_X7_performRow : Cond.instanceMethod yX7_performRow ∈ lw_good ∧ Cond.selects yX7_performRow.cls yX7_performRow yX7_performRow ∈ lw_good := ⟨(good_in (tb_6 (List.mem_of_getElem? (i := 71) rfl)) rfl), (good_in (List.mem_append_left _ (by decide +kernel)) rfl)⟩
theorem oi_X8_1 : Cond.methodLink RX8 1 Lib.objectInit ∈ lw_good := (good_in (tb_5 (List.mem_of_getElem? (i := 164) rfl)) rfl)
theorem ff_X8_7 : Ff RX8 7 10 0 .int := ⟨_, _, _, _, "LeapNet$Stamp", kc_X8, by decide, rfl, (good_in (tb_5 (List.mem_of_getElem? (i := 165) rfl)) rfl), rfl, rfl, rfl⟩
theorem ff_X8_13 : Ff RX8 13 10 1 .int := ⟨_, _, _, _, "LeapNet$Stamp", kc_X8, by decide, rfl, (good_in (tb_5 (List.mem_of_getElem? (i := 167) rfl)) rfl), rfl, rfl, rfl⟩
theorem fl_X8_13 : Fl RX8 13 10 1 := kc_X8.fl (ref := "LeapNet$Stamp") (by decide) (Or.inl (good_in (tb_5 (List.mem_of_getElem? (i := 167) rfl)) rfl)) (Or.inl rfl)
theorem fl_X8_16 : Fl RX8 16 10 2 := kc_X8.fl (ref := "LeapNet$Stamp") (by decide) (Or.inl (good_in (tb_5 (List.mem_of_getElem? (i := 169) rfl)) rfl)) (Or.inl rfl)
theorem fp_X9_22 : Fp RX9 22 11 3 .int := ⟨_, _, _, _, "LeapNet$Table", kc_X9, by decide, rfl, Or.inl (good_in (tb_1 (List.mem_of_getElem? (i := 49) rfl)) rfl), Or.inl rfl, rfl⟩
theorem lk_X9_50 : Lk RX9 50 yX9_reckonStarts := Or.inl (good_in (tb_2 (List.mem_of_getElem? (i := 94) rfl)) rfl)
theorem yk_X9_reckonStarts : Yk yX9_reckonStarts cX9_reckonStarts 3 none 0 := ⟨(good_in (tb_2 (List.mem_of_getElem? (i := 97) rfl)) rfl), (good_in (tb_1 (List.mem_of_getElem? (i := 2) rfl)) rfl), ⟨by decide +kernel, by decide +kernel⟩, by decide +kernel⟩
theorem yv_X9_reckonStarts : Cond.instanceMethod yX9_reckonStarts ∈ lw_good ∧ Cond.selects yX9_reckonStarts.cls yX9_reckonStarts yX9_reckonStarts ∈ lw_good := ⟨(good_in (tb_2 (List.mem_of_getElem? (i := 96) rfl)) rfl), (good_in (List.mem_append_left _ (by decide +kernel)) rfl)⟩
theorem lk_X9_42 : Lk RX9 42 yX9_isFull := Or.inl (good_in (tb_2 (List.mem_of_getElem? (i := 89) rfl)) rfl)
theorem yk_X9_isFull : Yk yX9_isFull cX9_isFull 1 (some .boolean) 0 := ⟨(good_in (tb_2 (List.mem_of_getElem? (i := 80) rfl)) rfl), (good_in (tb_1 (List.mem_of_getElem? (i := 2) rfl)) rfl), ⟨by decide +kernel, by decide +kernel⟩, by decide +kernel⟩
theorem yv_X9_isFull : Cond.instanceMethod yX9_isFull ∈ lw_good ∧ Cond.selects yX9_isFull.cls yX9_isFull yX9_isFull ∈ lw_good := ⟨(good_in (tb_2 (List.mem_of_getElem? (i := 78) rfl)) rfl), (good_in (tb_2 (List.mem_of_getElem? (i := 79) rfl)) rfl)⟩
theorem lk_X9_46 : Lk RX9 46 yX9_insertAt := Or.inl (good_in (tb_2 (List.mem_of_getElem? (i := 90) rfl)) rfl)
theorem yk_X9_insertAt : Yk yX9_insertAt cX9_insertAt 5 none 3 := ⟨(good_in (tb_2 (List.mem_of_getElem? (i := 93) rfl)) rfl), (good_in (tb_1 (List.mem_of_getElem? (i := 2) rfl)) rfl), ⟨by decide +kernel, by decide +kernel⟩, by decide +kernel⟩
theorem yv_X9_insertAt : Cond.instanceMethod yX9_insertAt ∈ lw_good ∧ Cond.selects yX9_insertAt.cls yX9_insertAt yX9_insertAt ∈ lw_good := ⟨(good_in (tb_2 (List.mem_of_getElem? (i := 92) rfl)) rfl), (good_in (List.mem_append_left _ (by decide +kernel)) rfl)⟩
theorem lk_X9_38 : Lk RX9 38 yX9_removeAt := Or.inl (good_in (tb_2 (List.mem_of_getElem? (i := 85) rfl)) rfl)
theorem yk_X9_removeAt : Yk yX9_removeAt cX9_removeAt 3 none 1 := ⟨(good_in (tb_2 (List.mem_of_getElem? (i := 88) rfl)) rfl), (good_in (tb_1 (List.mem_of_getElem? (i := 2) rfl)) rfl), ⟨by decide +kernel, by decide +kernel⟩, by decide +kernel⟩
theorem yv_X9_removeAt : Cond.instanceMethod yX9_removeAt ∈ lw_good ∧ Cond.selects yX9_removeAt.cls yX9_removeAt yX9_removeAt ∈ lw_good := ⟨(good_in (tb_2 (List.mem_of_getElem? (i := 87) rfl)) rfl), (good_in (List.mem_append_left _ (by decide +kernel)) rfl)⟩
theorem oi_X10_1 : Cond.methodLink RX10 1 Lib.objectInit ∈ lw_good := (good_in (tb_1 (List.mem_of_getElem? (i := 238) rfl)) rfl)
theorem ff_X10_7 : Ff RX10 7 12 0 .int := ⟨_, _, _, _, "LeapNet$Tray", kc_X10, by decide, rfl, (good_in (tb_2 (List.mem_of_getElem? (i := 2) rfl)) rfl), rfl, rfl, rfl⟩
theorem lk_X10_13 : Lk RX10 13 yJ9_max_7cf53 := Or.inl (good_in (tb_1 (List.mem_of_getElem? (i := 239) rfl)) rfl)
theorem ff_X10_19 : Ff RX10 19 12 1 (.array .long) := ⟨_, _, _, _, "LeapNet$Tray", kc_X10, by decide, rfl, (good_in (tb_2 (List.mem_of_getElem? (i := 4) rfl)) rfl), rfl, rfl, rfl⟩
theorem fl_X10_19 : Fl RX10 19 12 1 := kc_X10.fl (ref := "LeapNet$Tray") (by decide) (Or.inl (good_in (tb_2 (List.mem_of_getElem? (i := 4) rfl)) rfl)) (Or.inl rfl)
theorem fl_X10_7 : Fl RX10 7 12 0 := kc_X10.fl (ref := "LeapNet$Tray") (by decide) (Or.inl (good_in (tb_2 (List.mem_of_getElem? (i := 2) rfl)) rfl)) (Or.inl rfl)
theorem oi_Jxa1e45_1 : Cond.methodLink RJxa1e45 1 Lib.objectInit ∈ lw_good := (good_in (tb_1 (List.mem_of_getElem? (i := 87) rfl)) rfl)
theorem lk_Jxc12de_1 : Lk RJxc12de 1 yJxa1e45_init_da8c8 := Or.inl (good_in (tb_1 (List.mem_of_getElem? (i := 84) rfl)) rfl)
theorem yk_Jxa1e45_init_da8c8 : Yk yJxa1e45_init_da8c8 cJxa1e45_init_da8c8 1 none 0 := ⟨(good_in (tb_1 (List.mem_of_getElem? (i := 86) rfl)) rfl), (good_in (tb_1 (List.mem_of_getElem? (i := 3) rfl)) rfl), ⟨by decide +kernel, by decide +kernel⟩, by decide +kernel⟩
theorem yi_Jxa1e45_init_da8c8 : Cond.instanceMethod yJxa1e45_init_da8c8 ∈ lw_good ∧ yJxa1e45_init_da8c8.name = "<init>" := ⟨(good_in (tb_1 (List.mem_of_getElem? (i := 85) rfl)) rfl), rfl⟩
theorem fp_Jxc12de_7 : Fp RJxc12de 7 1 0 .int := ⟨_, _, _, _, "java/util/AbstractList", kc_Jx4a65c, by decide, rfl, Or.inl (good_in (tb_1 (List.mem_of_getElem? (i := 92) rfl)) rfl), Or.inl rfl, rfl⟩
theorem lk_Jx4a65c_1 : Lk RJx4a65c 1 yJxc12de_init_da8c8 := Or.inl (good_in (tb_1 (List.mem_of_getElem? (i := 81) rfl)) rfl)
theorem yk_Jxc12de_init_da8c8 : Yk yJxc12de_init_da8c8 cJxc12de_init_da8c8 1 none 0 := ⟨(good_in (tb_1 (List.mem_of_getElem? (i := 83) rfl)) rfl), (good_in (tb_1 (List.mem_of_getElem? (i := 4) rfl)) rfl), ⟨by decide +kernel, by decide +kernel⟩, by decide +kernel⟩
theorem yi_Jxc12de_init_da8c8 : Cond.instanceMethod yJxc12de_init_da8c8 ∈ lw_good ∧ yJxc12de_init_da8c8.name = "<init>" := ⟨(good_in (tb_1 (List.mem_of_getElem? (i := 82) rfl)) rfl), rfl⟩
theorem sl_Jx4a65c_39 : Cond.fieldLink RJx4a65c 39 "java/util/ArrayList" "DEFAULTCAPACITY_EMPTY_ELEMENTDATA" "[Ljava/lang/Object;" ∈ lw_good := (good_in (tb_1 (List.mem_of_getElem? (i := 88) rfl)) rfl)
theorem fp_Jx4a65c_9 : Fp RJx4a65c 9 1 1 (.array (.object "java/lang/Object")) := ⟨_, _, _, _, "java/util/ArrayList", kc_Jx4a65c, by decide, rfl, Or.inl (good_in (tb_1 (List.mem_of_getElem? (i := 90) rfl)) rfl), Or.inl rfl, rfl⟩
theorem oi_X11_1 : Cond.methodLink RX11 1 Lib.objectInit ∈ lw_good := (good_in (tb_1 (List.mem_of_getElem? (i := 35) rfl)) rfl)
theorem fp_X11_9 : Fp RX11 9 13 0 .int := ⟨_, _, _, _, "LeapNet", kc_X11, by decide, rfl, Or.inl (good_in (tb_1 (List.mem_of_getElem? (i := 162) rfl)) rfl), Or.inl rfl, rfl⟩
theorem cl_X11_13 : Cond.classLink RX11 13 RX10 ∈ lw_good := (good_in (tb_1 (List.mem_of_getElem? (i := 38) rfl)) rfl)
theorem ff_X11_15 : Ff RX11 15 13 1 (.array (.object "LeapNet$Tray")) := ⟨_, _, _, _, "LeapNet", kc_X11, by decide, rfl, (good_in (tb_1 (List.mem_of_getElem? (i := 163) rfl)) rfl), rfl, rfl, rfl⟩
theorem ac_byte : Cond.arrayClass .byte ∈ lw_good := (good_in (tb_1 (List.mem_of_getElem? (i := 73) rfl)) rfl)
theorem ff_X11_19 : Ff RX11 19 13 2 (.array .byte) := ⟨_, _, _, _, "LeapNet", kc_X11, by decide, rfl, (good_in (tb_1 (List.mem_of_getElem? (i := 164) rfl)) rfl), rfl, rfl, rfl⟩
theorem fp_X11_23 : Fp RX11 23 13 4 .int := ⟨_, _, _, _, "LeapNet", kc_X11, by decide, rfl, Or.inl (good_in (tb_1 (List.mem_of_getElem? (i := 166) rfl)) rfl), Or.inl rfl, rfl⟩
theorem fp_X11_26 : Fp RX11 26 13 5 .int := ⟨_, _, _, _, "LeapNet", kc_X11, by decide, rfl, Or.inl (good_in (tb_1 (List.mem_of_getElem? (i := 167) rfl)) rfl), Or.inl rfl, rfl⟩
theorem cl_X11_29 : Cond.classLink RX11 29 RX9 ∈ lw_good := (good_in (tb_1 (List.mem_of_getElem? (i := 40) rfl)) rfl)
theorem lk_X11_31 : Lk RX11 31 yX9_init := Or.inl (good_in (tb_1 (List.mem_of_getElem? (i := 42) rfl)) rfl)
theorem ff_X11_34 : Ff RX11 34 13 6 (.object "LeapNet$Table") := ⟨_, _, _, _, "LeapNet", kc_X11, by decide, rfl, (good_in (tb_1 (List.mem_of_getElem? (i := 168) rfl)) rfl), rfl, rfl, rfl⟩
theorem cl_X11_38 : Cond.classLink RX11 38 RJx4a65c ∈ lw_good := (good_in (tb_1 (List.mem_of_getElem? (i := 76) rfl)) rfl)
theorem in1_Jx4a65c : Cond.instantiable RJx4a65c 3 ∈ lw_good := (good_in (tb_1 (List.mem_of_getElem? (i := 77) rfl)) rfl)
theorem in2_Jx4a65c : Cond.initialized RJx4a65c ∈ lw_good := (good_in (tb_1 (List.mem_of_getElem? (i := 5) rfl)) rfl)
theorem lk_X11_40 : Lk RX11 40 yJx4a65c_init_da8c8 := Or.inl (good_in (tb_1 (List.mem_of_getElem? (i := 78) rfl)) rfl)
theorem yk_Jx4a65c_init_da8c8 : Yk yJx4a65c_init_da8c8 cJx4a65c_init_da8c8 1 none 0 := ⟨(good_in (tb_1 (List.mem_of_getElem? (i := 80) rfl)) rfl), (good_in (tb_1 (List.mem_of_getElem? (i := 5) rfl)) rfl), ⟨by decide +kernel, by decide +kernel⟩, by decide +kernel⟩
theorem yi_Jx4a65c_init_da8c8 : Cond.instanceMethod yJx4a65c_init_da8c8 ∈ lw_good ∧ yJx4a65c_init_da8c8.name = "<init>" := ⟨(good_in (tb_1 (List.mem_of_getElem? (i := 79) rfl)) rfl), rfl⟩
theorem ff_X11_41 : Ff RX11 41 13 7 (.object "java/util/ArrayList") := ⟨_, _, _, _, "LeapNet", kc_X11, by decide, rfl, (good_in (tb_1 (List.mem_of_getElem? (i := 169) rfl)) rfl), rfl, rfl, rfl⟩
theorem ff_X11_45 : Ff RX11 45 13 9 (.object "java/util/ArrayList") := ⟨_, _, _, _, "LeapNet", kc_X11, by decide, rfl, (good_in (tb_1 (List.mem_of_getElem? (i := 171) rfl)) rfl), rfl, rfl, rfl⟩
theorem ff_X11_48 : Ff RX11 48 13 10 (.object "java/util/ArrayList") := ⟨_, _, _, _, "LeapNet", kc_X11, by decide, rfl, (good_in (tb_1 (List.mem_of_getElem? (i := 172) rfl)) rfl), rfl, rfl, rfl⟩
theorem ff_X11_51 : Ff RX11 51 13 11 (.object "java/util/ArrayList") := ⟨_, _, _, _, "LeapNet", kc_X11, by decide, rfl, (good_in (tb_1 (List.mem_of_getElem? (i := 173) rfl)) rfl), rfl, rfl, rfl⟩
theorem ff_X11_54 : Ff RX11 54 13 12 (.object "java/util/ArrayList") := ⟨_, _, _, _, "LeapNet", kc_X11, by decide, rfl, (good_in (tb_1 (List.mem_of_getElem? (i := 174) rfl)) rfl), rfl, rfl, rfl⟩
theorem cl_X11_57 : Cond.classLink RX11 57 RX7 ∈ lw_good := (good_in (tb_1 (List.mem_of_getElem? (i := 102) rfl)) rfl)
theorem in1_X7 : Cond.instantiable RX7 10 ∈ lw_good := (good_in (tb_1 (List.mem_of_getElem? (i := 103) rfl)) rfl)
theorem in2_X7 : Cond.initialized RX7 ∈ lw_good := (good_in (tb_1 (List.mem_of_getElem? (i := 6) rfl)) rfl)
theorem lk_X11_59 : Lk RX11 59 yX7_init := Or.inl (good_in (tb_1 (List.mem_of_getElem? (i := 104) rfl)) rfl)
theorem yk_X7_init : Yk yX7_init cX7_init 1 none 0 := ⟨(good_in (tb_1 (List.mem_of_getElem? (i := 106) rfl)) rfl), (good_in (tb_1 (List.mem_of_getElem? (i := 6) rfl)) rfl), ⟨by decide +kernel, by decide +kernel⟩, by decide +kernel⟩
theorem yi_X7_init : Cond.instanceMethod yX7_init ∈ lw_good ∧ yX7_init.name = "<init>" := ⟨(good_in (tb_1 (List.mem_of_getElem? (i := 105) rfl)) rfl), rfl⟩
theorem ff_X11_60 : Ff RX11 60 13 14 (.object "LeapNet$Run") := ⟨_, _, _, _, "LeapNet", kc_X11, by decide, rfl, (good_in (tb_1 (List.mem_of_getElem? (i := 176) rfl)) rfl), rfl, rfl, rfl⟩
theorem fp_X11_64 : Fp RX11 64 13 16 .int := ⟨_, _, _, _, "LeapNet", kc_X11, by decide, rfl, Or.inl (good_in (tb_1 (List.mem_of_getElem? (i := 178) rfl)) rfl), Or.inl rfl, rfl⟩
theorem cl_X11_67 : Cond.classLink RX11 67 RX2 ∈ lw_good := (good_in (tb_1 (List.mem_of_getElem? (i := 144) rfl)) rfl)
theorem ff_X11_69 : Ff RX11 69 13 17 (.array (.object "LeapNet$Land")) := ⟨_, _, _, _, "LeapNet", kc_X11, by decide, rfl, (good_in (tb_1 (List.mem_of_getElem? (i := 179) rfl)) rfl), rfl, rfl, rfl⟩
theorem fl_X11_69 : Fl RX11 69 13 17 := kc_X11.fl (ref := "LeapNet") (by decide) (Or.inl (good_in (tb_1 (List.mem_of_getElem? (i := 179) rfl)) rfl)) (Or.inl rfl)
theorem in1_X2 : Cond.instantiable RX2 3 ∈ lw_good := (good_in (tb_1 (List.mem_of_getElem? (i := 146) rfl)) rfl)
theorem in2_X2 : Cond.initialized RX2 ∈ lw_good := (good_in (tb_1 (List.mem_of_getElem? (i := 7) rfl)) rfl)
theorem lk_X11_73 : Lk RX11 73 yX2_init := Or.inl (good_in (tb_1 (List.mem_of_getElem? (i := 147) rfl)) rfl)
theorem yk_X2_init : Yk yX2_init cX2_init 4 none 3 := ⟨(good_in (tb_1 (List.mem_of_getElem? (i := 149) rfl)) rfl), (good_in (tb_1 (List.mem_of_getElem? (i := 7) rfl)) rfl), ⟨by decide +kernel, by decide +kernel⟩, by decide +kernel⟩
theorem yi_X2_init : Cond.instanceMethod yX2_init ∈ lw_good ∧ yX2_init.name = "<init>" := ⟨(good_in (tb_1 (List.mem_of_getElem? (i := 148) rfl)) rfl), rfl⟩
theorem fl_X11_9 : Fl RX11 9 13 0 := kc_X11.fl (ref := "LeapNet") (by decide) (Or.inl (good_in (tb_1 (List.mem_of_getElem? (i := 162) rfl)) rfl)) (Or.inl rfl)
theorem lk_X11_111 : Lk RX11 111 yX11_isTray := Or.inl (good_in (tb_1 (List.mem_of_getElem? (i := 231) rfl)) rfl)
theorem yk_X11_isTray : Yk yX11_isTray cX11_isTray 1 (some .boolean) 1 := ⟨(good_in (tb_1 (List.mem_of_getElem? (i := 233) rfl)) rfl), (good_in (tb_1 (List.mem_of_getElem? (i := 1) rfl)) rfl), ⟨by decide +kernel, by decide +kernel⟩, by decide +kernel⟩
theorem ys_X11_isTray : Cond.static yX11_isTray ∈ lw_good := (good_in (tb_1 (List.mem_of_getElem? (i := 232) rfl)) rfl)
theorem lk_X11_76 : Lk RX11 76 yX11_newTrayStatus := Or.inl (good_in (tb_1 (List.mem_of_getElem? (i := 228) rfl)) rfl)
theorem yk_X11_newTrayStatus : Yk yX11_newTrayStatus cX11_newTrayStatus 3 (some .int) 3 := ⟨(good_in (tb_1 (List.mem_of_getElem? (i := 230) rfl)) rfl), (good_in (tb_1 (List.mem_of_getElem? (i := 1) rfl)) rfl), ⟨by decide +kernel, by decide +kernel⟩, by decide +kernel⟩
theorem ys_X11_newTrayStatus : Cond.static yX11_newTrayStatus ∈ lw_good := (good_in (tb_1 (List.mem_of_getElem? (i := 229) rfl)) rfl)
theorem fl_X11_15 : Fl RX11 15 13 1 := kc_X11.fl (ref := "LeapNet") (by decide) (Or.inl (good_in (tb_1 (List.mem_of_getElem? (i := 163) rfl)) rfl)) (Or.inl rfl)
theorem in1_X10 : Cond.instantiable RX10 2 ∈ lw_good := (good_in (tb_1 (List.mem_of_getElem? (i := 234) rfl)) rfl)
theorem in2_X10 : Cond.initialized RX10 ∈ lw_good := (good_in (tb_1 (List.mem_of_getElem? (i := 9) rfl)) rfl)
theorem lk_X11_80 : Lk RX11 80 yX10_init := Or.inl (good_in (tb_1 (List.mem_of_getElem? (i := 235) rfl)) rfl)
theorem yk_X10_init : Yk yX10_init cX10_init 3 none 2 := ⟨(good_in (tb_1 (List.mem_of_getElem? (i := 237) rfl)) rfl), (good_in (tb_1 (List.mem_of_getElem? (i := 9) rfl)) rfl), ⟨by decide +kernel, by decide +kernel⟩, by decide +kernel⟩
theorem yi_X10_init : Cond.instanceMethod yX10_init ∈ lw_good ∧ yX10_init.name = "<init>" := ⟨(good_in (tb_1 (List.mem_of_getElem? (i := 236) rfl)) rfl), rfl⟩
theorem lk_X11_115 : Lk RX11 115 yX10_size := Or.inl (good_in (tb_2 (List.mem_of_getElem? (i := 19) rfl)) rfl)
theorem yk_X10_size : Yk yX10_size cX10_size 1 (some .int) 0 := ⟨(good_in (tb_2 (List.mem_of_getElem? (i := 22) rfl)) rfl), (good_in (tb_1 (List.mem_of_getElem? (i := 9) rfl)) rfl), ⟨by decide +kernel, by decide +kernel⟩, by decide +kernel⟩
theorem yv_X10_size : Cond.instanceMethod yX10_size ∈ lw_good ∧ Cond.selects yX10_size.cls yX10_size yX10_size ∈ lw_good := ⟨(good_in (tb_2 (List.mem_of_getElem? (i := 20) rfl)) rfl), (good_in (tb_2 (List.mem_of_getElem? (i := 21) rfl)) rfl)⟩
theorem lk_X11_83 : Lk RX11 83 yX11_placeStatus := Or.inl (good_in (tb_2 (List.mem_of_getElem? (i := 15) rfl)) rfl)
theorem yk_X11_placeStatus : Yk yX11_placeStatus cX11_placeStatus 3 (some .int) 2 := ⟨(good_in (tb_2 (List.mem_of_getElem? (i := 18) rfl)) rfl), (good_in (tb_1 (List.mem_of_getElem? (i := 1) rfl)) rfl), ⟨by decide +kernel, by decide +kernel⟩, by decide +kernel⟩
theorem yv_X11_placeStatus : Cond.instanceMethod yX11_placeStatus ∈ lw_good ∧ Cond.selects yX11_placeStatus.cls yX11_placeStatus yX11_placeStatus ∈ lw_good := ⟨(good_in (tb_2 (List.mem_of_getElem? (i := 17) rfl)) rfl), (good_in (List.mem_append_left _ (by decide +kernel)) rfl)⟩
theorem lk_X11_87 : Lk RX11 87 yX10_put := Or.inl (good_in (tb_2 (List.mem_of_getElem? (i := 23) rfl)) rfl)
theorem yk_X10_put : Yk yX10_put cX10_put 5 none 2 := ⟨(good_in (tb_2 (List.mem_of_getElem? (i := 26) rfl)) rfl), (good_in (tb_1 (List.mem_of_getElem? (i := 9) rfl)) rfl), ⟨by decide +kernel, by decide +kernel⟩, by decide +kernel⟩
theorem yv_X10_put : Cond.instanceMethod yX10_put ∈ lw_good ∧ Cond.selects yX10_put.cls yX10_put yX10_put ∈ lw_good := ⟨(good_in (tb_2 (List.mem_of_getElem? (i := 24) rfl)) rfl), (good_in (tb_2 (List.mem_of_getElem? (i := 25) rfl)) rfl)⟩
theorem kJ_X11_95 : Cond.constantLong RX11 95 (-1) ∈ lw_good := (good_in (tb_2 (List.mem_of_getElem? (i := 35) rfl)) rfl)
theorem lk_X11_91 : Lk RX11 91 yX10_at := Or.inl (good_in (tb_2 (List.mem_of_getElem? (i := 31) rfl)) rfl)
theorem yk_X10_at : Yk yX10_at cX10_at 2 (some .long) 1 := ⟨(good_in (tb_2 (List.mem_of_getElem? (i := 34) rfl)) rfl), (good_in (tb_1 (List.mem_of_getElem? (i := 9) rfl)) rfl), ⟨by decide +kernel, by decide +kernel⟩, by decide +kernel⟩
theorem yv_X10_at : Cond.instanceMethod yX10_at ∈ lw_good ∧ Cond.selects yX10_at.cls yX10_at yX10_at ∈ lw_good := ⟨(good_in (tb_2 (List.mem_of_getElem? (i := 32) rfl)) rfl), (good_in (tb_2 (List.mem_of_getElem? (i := 33) rfl)) rfl)⟩
theorem fl_X11_119 : Fl RX11 119 12 0 := kc_X10.fl (ref := "LeapNet$Tray") (by decide) (Or.inr ⟨"LeapNet", (nw_in (tb_2 (List.mem_of_getElem? (i := 3) rfl)) rfl)⟩) (Or.inl rfl)
theorem lk_X11_122 : Lk RX11 122 yX10_hasRow := Or.inl (good_in (tb_2 (List.mem_of_getElem? (i := 44) rfl)) rfl)
theorem yk_X10_hasRow : Yk yX10_hasRow cX10_hasRow 3 (some .boolean) 2 := ⟨(good_in (tb_2 (List.mem_of_getElem? (i := 47) rfl)) rfl), (good_in (tb_1 (List.mem_of_getElem? (i := 9) rfl)) rfl), ⟨by decide +kernel, by decide +kernel⟩, by decide +kernel⟩
theorem yv_X10_hasRow : Cond.instanceMethod yX10_hasRow ∈ lw_good ∧ Cond.selects yX10_hasRow.cls yX10_hasRow yX10_hasRow ∈ lw_good := ⟨(good_in (tb_2 (List.mem_of_getElem? (i := 45) rfl)) rfl), (good_in (tb_2 (List.mem_of_getElem? (i := 46) rfl)) rfl)⟩
theorem lk_X11_97 : Lk RX11 97 yX11_pourStatus := Or.inl (good_in (tb_2 (List.mem_of_getElem? (i := 40) rfl)) rfl)
theorem yk_X11_pourStatus : Yk yX11_pourStatus cX11_pourStatus 6 (some .int) 5 := ⟨(good_in (tb_2 (List.mem_of_getElem? (i := 43) rfl)) rfl), (good_in (tb_1 (List.mem_of_getElem? (i := 1) rfl)) rfl), ⟨by decide +kernel, by decide +kernel⟩, by decide +kernel⟩
theorem yv_X11_pourStatus : Cond.instanceMethod yX11_pourStatus ∈ lw_good ∧ Cond.selects yX11_pourStatus.cls yX11_pourStatus yX11_pourStatus ∈ lw_good := ⟨(good_in (tb_2 (List.mem_of_getElem? (i := 42) rfl)) rfl), (good_in (List.mem_append_left _ (by decide +kernel)) rfl)⟩
theorem fl_X11_101 : Fl RX11 101 12 1 := kc_X10.fl (ref := "LeapNet$Tray") (by decide) (Or.inr ⟨"LeapNet", (nw_in (tb_2 (List.mem_of_getElem? (i := 5) rfl)) rfl)⟩) (Or.inl rfl)
theorem acp_X11_105 : Cond.methodLink RX11 105 arraycopyName ∈ lw_good ∧ Cond.native arraycopyName ∈ lw_good ∧ Cond.static arraycopyName ∈ lw_good ∧ Cond.initialized "java/lang/System" ∈ lw_good := ⟨(good_in (tb_2 (List.mem_of_getElem? (i := 48) rfl)) rfl), (good_in (tb_2 (List.mem_of_getElem? (i := 50) rfl)) rfl), (good_in (tb_2 (List.mem_of_getElem? (i := 49) rfl)) rfl), (good_in (tb_1 (List.mem_of_getElem? (i := 11) rfl)) rfl)⟩
theorem lk_X11_139 : Lk RX11 139 yX11_isWithin := Or.inl (good_in (tb_2 (List.mem_of_getElem? (i := 62) rfl)) rfl)
theorem lk_X11_159 : Lk RX11 159 yX11_isDay := Or.inl (good_in (tb_2 (List.mem_of_getElem? (i := 59) rfl)) rfl)
theorem yk_X11_isDay : Yk yX11_isDay cX11_isDay 1 (some .boolean) 1 := ⟨(good_in (tb_2 (List.mem_of_getElem? (i := 61) rfl)) rfl), (good_in (tb_1 (List.mem_of_getElem? (i := 1) rfl)) rfl), ⟨by decide +kernel, by decide +kernel⟩, by decide +kernel⟩
theorem ys_X11_isDay : Cond.static yX11_isDay ∈ lw_good := (good_in (tb_2 (List.mem_of_getElem? (i := 60) rfl)) rfl)
theorem fl_X11_34 : Fl RX11 34 13 6 := kc_X11.fl (ref := "LeapNet") (by decide) (Or.inl (good_in (tb_1 (List.mem_of_getElem? (i := 168) rfl)) rfl)) (Or.inl rfl)
theorem lk_X11_162 : Lk RX11 162 yX9_kindOf := Or.inl (good_in (tb_2 (List.mem_of_getElem? (i := 65) rfl)) rfl)
theorem lk_X11_166 : Lk RX11 166 yX9_isFull := Or.inl (good_in (tb_2 (List.mem_of_getElem? (i := 77) rfl)) rfl)
theorem lk_X11_126 : Lk RX11 126 yX11_leapStatus := Or.inl (good_in (tb_2 (List.mem_of_getElem? (i := 55) rfl)) rfl)
theorem yk_X11_leapStatus : Yk yX11_leapStatus cX11_leapStatus 4 (some .int) 2 := ⟨(good_in (tb_2 (List.mem_of_getElem? (i := 58) rfl)) rfl), (good_in (tb_1 (List.mem_of_getElem? (i := 1) rfl)) rfl), ⟨by decide +kernel, by decide +kernel⟩, by decide +kernel⟩
theorem yv_X11_leapStatus : Cond.instanceMethod yX11_leapStatus ∈ lw_good ∧ Cond.selects yX11_leapStatus.cls yX11_leapStatus yX11_leapStatus ∈ lw_good := ⟨(good_in (tb_2 (List.mem_of_getElem? (i := 57) rfl)) rfl), (good_in (List.mem_append_left _ (by decide +kernel)) rfl)⟩
theorem lk_X11_129 : Lk RX11 129 yX9_tell := Or.inl (good_in (tb_2 (List.mem_of_getElem? (i := 81) rfl)) rfl)
theorem yk_X9_tell : Yk yX9_tell cX9_tell 4 none 2 := ⟨(good_in (tb_2 (List.mem_of_getElem? (i := 84) rfl)) rfl), (good_in (tb_1 (List.mem_of_getElem? (i := 2) rfl)) rfl), ⟨by decide +kernel, by decide +kernel⟩, by decide +kernel⟩
theorem yv_X9_tell : Cond.instanceMethod yX9_tell ∈ lw_good ∧ Cond.selects yX9_tell.cls yX9_tell yX9_tell ∈ lw_good := ⟨(good_in (tb_2 (List.mem_of_getElem? (i := 82) rfl)) rfl), (good_in (tb_2 (List.mem_of_getElem? (i := 83) rfl)) rfl)⟩
theorem fp_X11_132 : Fp RX11 132 13 18 .boolean := ⟨_, _, _, _, "LeapNet", kc_X11, by decide, rfl, Or.inl (good_in (tb_1 (List.mem_of_getElem? (i := 180) rfl)) rfl), Or.inl rfl, rfl⟩
theorem kK_X11_176 : Cond.constant RX11 176 900000000 ∈ lw_good := (good_in (tb_2 (List.mem_of_getElem? (i := 106) rfl)) rfl)
theorem lk_X11_136 : Lk RX11 136 yX11_isCount := Or.inl (good_in (tb_2 (List.mem_of_getElem? (i := 103) rfl)) rfl)
theorem yk_X11_isCount : Yk yX11_isCount cX11_isCount 1 (some .boolean) 1 := ⟨(good_in (tb_2 (List.mem_of_getElem? (i := 105) rfl)) rfl), (good_in (tb_1 (List.mem_of_getElem? (i := 1) rfl)) rfl), ⟨by decide +kernel, by decide +kernel⟩, by decide +kernel⟩
theorem ys_X11_isCount : Cond.static yX11_isCount ∈ lw_good := (good_in (tb_2 (List.mem_of_getElem? (i := 104) rfl)) rfl)
theorem lk_X11_143 : Lk RX11 143 yX9_turnTo := Or.inl (good_in (tb_2 (List.mem_of_getElem? (i := 107) rfl)) rfl)
theorem fl_X11_150 : Fl RX11 150 11 5 := kc_X9.fl (ref := "LeapNet$Table") (by decide) (Or.inr ⟨"LeapNet", (nw_in (tb_1 (List.mem_of_getElem? (i := 55) rfl)) rfl)⟩) (Or.inl rfl)
theorem fl_X11_147 : Fl RX11 147 11 4 := kc_X9.fl (ref := "LeapNet$Table") (by decide) (Or.inr ⟨"LeapNet", (nw_in (tb_1 (List.mem_of_getElem? (i := 52) rfl)) rfl)⟩) (Or.inl rfl)
theorem lk_X11_156 : Lk RX11 156 yX9_startOf := Or.inl (good_in (tb_2 (List.mem_of_getElem? (i := 125) rfl)) rfl)
theorem kJ_X11_171 : Cond.constantLong RX11 171 900000000 ∈ lw_good := (good_in (tb_2 (List.mem_of_getElem? (i := 129) rfl)) rfl)
theorem lk_X11_173 : Lk RX11 173 yX9_lengthOf := Or.inl (good_in (tb_2 (List.mem_of_getElem? (i := 130) rfl)) rfl)
theorem lk_X11_153 : Lk RX11 153 yX11_countStatus := Or.inl (good_in (tb_2 (List.mem_of_getElem? (i := 120) rfl)) rfl)
theorem yk_X11_countStatus : Yk yX11_countStatus cX11_countStatus 3 (some .int) 2 := ⟨(good_in (tb_2 (List.mem_of_getElem? (i := 123) rfl)) rfl), (good_in (tb_1 (List.mem_of_getElem? (i := 1) rfl)) rfl), ⟨by decide +kernel, by decide +kernel⟩, by decide +kernel⟩
theorem yv_X11_countStatus : Cond.instanceMethod yX11_countStatus ∈ lw_good ∧ Cond.selects yX11_countStatus.cls yX11_countStatus yX11_countStatus ∈ lw_good := ⟨(good_in (tb_2 (List.mem_of_getElem? (i := 122) rfl)) rfl), (good_in (List.mem_append_left _ (by decide +kernel)) rfl)⟩
theorem fl_Jx4a65c_48 : Fl RJx4a65c 48 1 2 := kc_Jx4a65c.fl (ref := "java/util/ArrayList") (by decide) (Or.inl (good_in (tb_1 (List.mem_of_getElem? (i := 91) rfl)) rfl)) (Or.inl rfl)
theorem kK_J8_200 : Cond.constant RJ8 200 2147483639 ∈ lw_good := (good_in (tb_2 (List.mem_of_getElem? (i := 192) rfl)) rfl)
theorem lk_J8_194 : Lk RJ8 194 yJ9_max_7cf53 := Or.inl (good_in (tb_2 (List.mem_of_getElem? (i := 191) rfl)) rfl)
theorem lk_J8_201 : Lk RJ8 201 yJ8_hugeLength_7cf53 := Or.inl (good_in (tb_2 (List.mem_of_getElem? (i := 193) rfl)) rfl)
theorem yk_J8_hugeLength_7cf53 : Yk yJ8_hugeLength_7cf53 cJ8_hugeLength_7cf53 3 (some .int) 2 := ⟨(good_in (tb_2 (List.mem_of_getElem? (i := 195) rfl)) rfl), (good_in (tb_1 (List.mem_of_getElem? (i := 13) rfl)) rfl), ⟨by decide +kernel, by decide +kernel⟩, by decide +kernel⟩
theorem ys_J8_hugeLength_7cf53 : Cond.static yJ8_hugeLength_7cf53 ∈ lw_good := (good_in (tb_2 (List.mem_of_getElem? (i := 194) rfl)) rfl)
theorem cl_J7_110 : Cond.classLink RJ7 110 "[Ljava/lang/Object;" ∈ lw_good := (good_in (tb_2 (List.mem_of_getElem? (i := 221) rfl)) rfl)
theorem cl_J7_2 : Cond.classLink RJ7 2 "java/lang/Object" ∈ lw_good := (good_in (tb_2 (List.mem_of_getElem? (i := 223) rfl)) rfl)
theorem lk_J7_304 : Lk RJ7 304 yJ9_min_7cf53 := Or.inl (good_in (tb_2 (List.mem_of_getElem? (i := 224) rfl)) rfl)
theorem cas_all : ∀ (ci : Nat) (r : vw_C), vwCl[ci]? = some r → Cond.castable r.1 "java/lang/Object" ∈ lw_nw := by
  intro ci r h
  match ci, h with
  | 0, h => cases h; exact (nw_in (tb_10 (List.mem_of_getElem? (i := 123) rfl)) rfl)
  | 1, h => cases h; exact (nw_in (tb_10 (List.mem_of_getElem? (i := 117) rfl)) rfl)
  | 2, h => cases h; exact (nw_in (tb_10 (List.mem_of_getElem? (i := 127) rfl)) rfl)
  | 3, h => cases h; exact (nw_in (tb_10 (List.mem_of_getElem? (i := 120) rfl)) rfl)
  | 4, h => cases h; exact (nw_in (tb_10 (List.mem_of_getElem? (i := 114) rfl)) rfl)
  | 5, h => cases h; exact (nw_in (tb_10 (List.mem_of_getElem? (i := 124) rfl)) rfl)
  | 6, h => cases h; exact (nw_in (tb_10 (List.mem_of_getElem? (i := 126) rfl)) rfl)
  | 7, h => cases h; exact (nw_in (tb_10 (List.mem_of_getElem? (i := 121) rfl)) rfl)
  | 8, h => cases h; exact (nw_in (tb_10 (List.mem_of_getElem? (i := 122) rfl)) rfl)
  | 9, h => cases h; exact (nw_in (tb_10 (List.mem_of_getElem? (i := 118) rfl)) rfl)
  | 10, h => cases h; exact (nw_in (tb_10 (List.mem_of_getElem? (i := 125) rfl)) rfl)
  | 11, h => cases h; exact (nw_in (tb_10 (List.mem_of_getElem? (i := 116) rfl)) rfl)
  | 12, h => cases h; exact (nw_in (tb_10 (List.mem_of_getElem? (i := 113) rfl)) rfl)
  | 13, h => cases h; exact (nw_in (tb_10 (List.mem_of_getElem? (i := 115) rfl)) rfl)
  | 14, h => cases h; exact (nw_in (tb_10 (List.mem_of_getElem? (i := 119) rfl)) rfl)
  | k + 15, h => exact absurd (List.getElem?_eq_some_iff.mp h).1 (by show ¬ k + 15 < 15; omega)
theorem cas_int : Cond.castable "java/lang/Integer" "java/lang/Object" ∈ lw_nw := (nw_in (tb_10 (List.mem_of_getElem? (i := 123) rfl)) rfl)
theorem acp_J7_150 : Cond.methodLink RJ7 150 arraycopyName ∈ lw_good ∧ Cond.native arraycopyName ∈ lw_good ∧ Cond.static arraycopyName ∈ lw_good ∧ Cond.initialized "java/lang/System" ∈ lw_good := ⟨(good_in (tb_2 (List.mem_of_getElem? (i := 227) rfl)) rfl), (good_in (tb_2 (List.mem_of_getElem? (i := 50) rfl)) rfl), (good_in (tb_2 (List.mem_of_getElem? (i := 49) rfl)) rfl), (good_in (tb_1 (List.mem_of_getElem? (i := 11) rfl)) rfl)⟩
theorem gc_J7_86 : Cond.methodLink RJ7 86 ⟨"java/lang/Object", "getClass", "()Ljava/lang/Class;"⟩ ∈ lw_good ∧ Cond.selects "[Ljava/lang/Object;" ⟨"java/lang/Object", "getClass", "()Ljava/lang/Class;"⟩ ⟨"java/lang/Object", "getClass", "()Ljava/lang/Class;"⟩ ∈ lw_good ∧ Cond.instanceMethod ⟨"java/lang/Object", "getClass", "()Ljava/lang/Class;"⟩ ∈ lw_good ∧ Cond.native ⟨"java/lang/Object", "getClass", "()Ljava/lang/Class;"⟩ ∈ lw_good := ⟨(good_in (tb_2 (List.mem_of_getElem? (i := 199) rfl)) rfl), (good_in (tb_10 (List.mem_of_getElem? (i := 130) rfl)) rfl), (good_in (tb_2 (List.mem_of_getElem? (i := 200) rfl)) rfl), (good_in (tb_2 (List.mem_of_getElem? (i := 217) rfl)) rfl)⟩
theorem lk_J7_300 : Lk RJ7 300 yJ7_copyOf_6403c := Or.inl (good_in (tb_2 (List.mem_of_getElem? (i := 218) rfl)) rfl)
theorem yk_J7_copyOf_6403c : Yk yJ7_copyOf_6403c cJ7_copyOf_6403c 4 (some (.array (.object "java/lang/Object"))) 3 := ⟨(good_in (tb_2 (List.mem_of_getElem? (i := 220) rfl)) rfl), (good_in (tb_1 (List.mem_of_getElem? (i := 14) rfl)) rfl), ⟨by decide +kernel, by decide +kernel⟩, by decide +kernel⟩
theorem ys_J7_copyOf_6403c : Cond.static yJ7_copyOf_6403c ∈ lw_good := (good_in (tb_2 (List.mem_of_getElem? (i := 219) rfl)) rfl)
theorem fl_Jx4a65c_9 : Fl RJx4a65c 9 1 1 := kc_Jx4a65c.fl (ref := "java/util/ArrayList") (by decide) (Or.inl (good_in (tb_1 (List.mem_of_getElem? (i := 90) rfl)) rfl)) (Or.inl rfl)
theorem lk_Jx4a65c_79 : Lk RJx4a65c 79 yJ9_max_7cf53 := Or.inl (good_in (tb_2 (List.mem_of_getElem? (i := 228) rfl)) rfl)
theorem cl_Jx4a65c_7 : Cond.classLink RJx4a65c 7 "java/lang/Object" ∈ lw_good := (good_in (tb_2 (List.mem_of_getElem? (i := 229) rfl)) rfl)
theorem lk_Jx4a65c_73 : Lk RJx4a65c 73 yJ8_newLength_cabcc := Or.inl (good_in (tb_2 (List.mem_of_getElem? (i := 188) rfl)) rfl)
theorem yk_J8_newLength_cabcc : Yk yJ8_newLength_cabcc cJ8_newLength_cabcc 4 (some .int) 3 := ⟨(good_in (tb_2 (List.mem_of_getElem? (i := 190) rfl)) rfl), (good_in (tb_1 (List.mem_of_getElem? (i := 13) rfl)) rfl), ⟨by decide +kernel, by decide +kernel⟩, by decide +kernel⟩
theorem ys_J8_newLength_cabcc : Cond.static yJ8_newLength_cabcc ∈ lw_good := (good_in (tb_2 (List.mem_of_getElem? (i := 189) rfl)) rfl)
theorem lk_Jx4a65c_66 : Lk RJx4a65c 66 yJ7_copyOf_1904c := Or.inl (good_in (tb_2 (List.mem_of_getElem? (i := 196) rfl)) rfl)
theorem yk_J7_copyOf_1904c : Yk yJ7_copyOf_1904c cJ7_copyOf_1904c 2 (some (.array (.object "java/lang/Object"))) 2 := ⟨(good_in (tb_2 (List.mem_of_getElem? (i := 198) rfl)) rfl), (good_in (tb_1 (List.mem_of_getElem? (i := 14) rfl)) rfl), ⟨by decide +kernel, by decide +kernel⟩, by decide +kernel⟩
theorem ys_J7_copyOf_1904c : Cond.static yJ7_copyOf_1904c ∈ lw_good := (good_in (tb_2 (List.mem_of_getElem? (i := 197) rfl)) rfl)
theorem lk_Jx4a65c_69 : Lk RJx4a65c 69 yJx4a65c_grow_92f84 := Or.inl (good_in (tb_2 (List.mem_of_getElem? (i := 184) rfl)) rfl)
theorem yk_Jx4a65c_grow_92f84 : Yk yJx4a65c_grow_92f84 cJx4a65c_grow_92f84 4 (some (.array (.object "java/lang/Object"))) 1 := ⟨(good_in (tb_2 (List.mem_of_getElem? (i := 187) rfl)) rfl), (good_in (tb_1 (List.mem_of_getElem? (i := 5) rfl)) rfl), ⟨by decide +kernel, by decide +kernel⟩, by decide +kernel⟩
theorem yv_Jx4a65c_grow_92f84 : Cond.instanceMethod yJx4a65c_grow_92f84 ∈ lw_good ∧ Cond.selects yJx4a65c_grow_92f84.cls yJx4a65c_grow_92f84 yJx4a65c_grow_92f84 ∈ lw_good := ⟨(good_in (tb_2 (List.mem_of_getElem? (i := 186) rfl)) rfl), (good_in (List.mem_append_left _ (by decide +kernel)) rfl)⟩
theorem fp_Jx4a65c_48 : Fp RJx4a65c 48 1 2 .int := ⟨_, _, _, _, "java/util/ArrayList", kc_Jx4a65c, by decide, rfl, Or.inl (good_in (tb_1 (List.mem_of_getElem? (i := 91) rfl)) rfl), Or.inl rfl, rfl⟩
theorem lk_Jx4a65c_129 : Lk RJx4a65c 129 yJx4a65c_grow_d5877 := Or.inl (good_in (tb_2 (List.mem_of_getElem? (i := 180) rfl)) rfl)
theorem yk_Jx4a65c_grow_d5877 : Yk yJx4a65c_grow_d5877 cJx4a65c_grow_d5877 1 (some (.array (.object "java/lang/Object"))) 0 := ⟨(good_in (tb_2 (List.mem_of_getElem? (i := 183) rfl)) rfl), (good_in (tb_1 (List.mem_of_getElem? (i := 5) rfl)) rfl), ⟨by decide +kernel, by decide +kernel⟩, by decide +kernel⟩
theorem yv_Jx4a65c_grow_d5877 : Cond.instanceMethod yJx4a65c_grow_d5877 ∈ lw_good ∧ Cond.selects yJx4a65c_grow_d5877.cls yJx4a65c_grow_d5877 yJx4a65c_grow_d5877 ∈ lw_good := ⟨(good_in (tb_2 (List.mem_of_getElem? (i := 182) rfl)) rfl), (good_in (List.mem_append_left _ (by decide +kernel)) rfl)⟩
theorem fl_Jx4a65c_63 : Fl RJx4a65c 63 1 0 := kc_Jx4a65c.fl (ref := "java/util/ArrayList") (by decide) (Or.inl (good_in (tb_1 (List.mem_of_getElem? (i := 93) rfl)) rfl)) (Or.inr (good_in (tb_1 (List.mem_of_getElem? (i := 94) rfl)) rfl))
theorem fp_Jx4a65c_63 : Fp RJx4a65c 63 1 0 .int := ⟨_, _, _, _, "java/util/ArrayList", kc_Jx4a65c, by decide, rfl, Or.inl (good_in (tb_1 (List.mem_of_getElem? (i := 93) rfl)) rfl), Or.inr (good_in (tb_1 (List.mem_of_getElem? (i := 94) rfl)) rfl), rfl⟩
theorem lk_Jx4a65c_131 : Lk RJx4a65c 131 yJx4a65c_add_72be8 := Or.inl (good_in (tb_2 (List.mem_of_getElem? (i := 176) rfl)) rfl)
theorem yk_Jx4a65c_add_72be8 : Yk yJx4a65c_add_72be8 cJx4a65c_add_72be8 4 none 3 := ⟨(good_in (tb_2 (List.mem_of_getElem? (i := 179) rfl)) rfl), (good_in (tb_1 (List.mem_of_getElem? (i := 5) rfl)) rfl), ⟨by decide +kernel, by decide +kernel⟩, by decide +kernel⟩
theorem yv_Jx4a65c_add_72be8 : Cond.instanceMethod yJx4a65c_add_72be8 ∈ lw_good ∧ Cond.selects yJx4a65c_add_72be8.cls yJx4a65c_add_72be8 yJx4a65c_add_72be8 ∈ lw_good := ⟨(good_in (tb_2 (List.mem_of_getElem? (i := 178) rfl)) rfl), (good_in (List.mem_append_left _ (by decide +kernel)) rfl)⟩
theorem fl_X11_41 : Fl RX11 41 13 7 := kc_X11.fl (ref := "LeapNet") (by decide) (Or.inl (good_in (tb_1 (List.mem_of_getElem? (i := 169) rfl)) rfl)) (Or.inl rfl)
theorem lk_X11_177 : Lk RX11 177 yJx4a65c_size_8abf5 := Or.inl (good_in (tb_2 (List.mem_of_getElem? (i := 139) rfl)) rfl)
theorem yk_Jx4a65c_size_8abf5 : Yk yJx4a65c_size_8abf5 cJx4a65c_size_8abf5 1 (some .int) 0 := ⟨(good_in (tb_2 (List.mem_of_getElem? (i := 142) rfl)) rfl), (good_in (tb_1 (List.mem_of_getElem? (i := 5) rfl)) rfl), ⟨by decide +kernel, by decide +kernel⟩, by decide +kernel⟩
theorem yv_Jx4a65c_size_8abf5 : Cond.instanceMethod yJx4a65c_size_8abf5 ∈ lw_good ∧ Cond.selects yJx4a65c_size_8abf5.cls yJx4a65c_size_8abf5 yJx4a65c_size_8abf5 ∈ lw_good := ⟨(good_in (tb_2 (List.mem_of_getElem? (i := 140) rfl)) rfl), (good_in (tb_2 (List.mem_of_getElem? (i := 141) rfl)) rfl)⟩
theorem lk_X11_178 : Lk RX11 178 yX11_moreStatus := Or.inl (good_in (tb_2 (List.mem_of_getElem? (i := 143) rfl)) rfl)
theorem yk_X11_moreStatus : Yk yX11_moreStatus cX11_moreStatus 3 (some .int) 3 := ⟨(good_in (tb_2 (List.mem_of_getElem? (i := 145) rfl)) rfl), (good_in (tb_1 (List.mem_of_getElem? (i := 1) rfl)) rfl), ⟨by decide +kernel, by decide +kernel⟩, by decide +kernel⟩
theorem ys_X11_moreStatus : Cond.static yX11_moreStatus ∈ lw_good := (good_in (tb_2 (List.mem_of_getElem? (i := 144) rfl)) rfl)
theorem cl_X11_182 : Cond.classLink RX11 182 RX1 ∈ lw_good := (good_in (tb_2 (List.mem_of_getElem? (i := 146) rfl)) rfl)
theorem in1_X1 : Cond.instantiable RX1 5 ∈ lw_good := (good_in (tb_2 (List.mem_of_getElem? (i := 147) rfl)) rfl)
theorem in2_X1 : Cond.initialized RX1 ∈ lw_good := (good_in (tb_1 (List.mem_of_getElem? (i := 12) rfl)) rfl)
theorem lk_X11_184 : Lk RX11 184 yX1_init := Or.inl (good_in (tb_2 (List.mem_of_getElem? (i := 148) rfl)) rfl)
theorem yk_X1_init : Yk yX1_init cX1_init 2 none 1 := ⟨(good_in (tb_2 (List.mem_of_getElem? (i := 150) rfl)) rfl), (good_in (tb_1 (List.mem_of_getElem? (i := 12) rfl)) rfl), ⟨by decide +kernel, by decide +kernel⟩, by decide +kernel⟩
theorem yi_X1_init : Cond.instanceMethod yX1_init ∈ lw_good ∧ yX1_init.name = "<init>" := ⟨(good_in (tb_2 (List.mem_of_getElem? (i := 149) rfl)) rfl), rfl⟩
theorem lk_X11_185 : Lk RX11 185 yJx4a65c_add_9ea2d := Or.inl (good_in (tb_2 (List.mem_of_getElem? (i := 172) rfl)) rfl)
theorem yk_Jx4a65c_add_9ea2d : Yk yJx4a65c_add_9ea2d cJx4a65c_add_9ea2d 2 (some .boolean) 1 := ⟨(good_in (tb_2 (List.mem_of_getElem? (i := 175) rfl)) rfl), (good_in (tb_1 (List.mem_of_getElem? (i := 5) rfl)) rfl), ⟨by decide +kernel, by decide +kernel⟩, by decide +kernel⟩
theorem yv_Jx4a65c_add_9ea2d : Cond.instanceMethod yJx4a65c_add_9ea2d ∈ lw_good ∧ Cond.selects yJx4a65c_add_9ea2d.cls yJx4a65c_add_9ea2d yJx4a65c_add_9ea2d ∈ lw_good := ⟨(good_in (tb_2 (List.mem_of_getElem? (i := 173) rfl)) rfl), (good_in (tb_2 (List.mem_of_getElem? (i := 174) rfl)) rfl)⟩
theorem lk_J15_105 : Lk RJ15 105 yJ3_checkIndex_8e157 := Or.inl (good_in (tb_3 (List.mem_of_getElem? (i := 5) rfl)) rfl)
theorem lk_Jx4a65c_118 : Lk RJx4a65c 118 yJ15_checkIndex_7cf53 := Or.inl (good_in (tb_3 (List.mem_of_getElem? (i := 2) rfl)) rfl)
theorem yk_J15_checkIndex_7cf53 : Yk yJ15_checkIndex_7cf53 cJ15_checkIndex_7cf53 2 (some .int) 2 := ⟨(good_in (tb_3 (List.mem_of_getElem? (i := 4) rfl)) rfl), (good_in (tb_1 (List.mem_of_getElem? (i := 15) rfl)) rfl), ⟨by decide +kernel, by decide +kernel⟩, by decide +kernel⟩
theorem ys_J15_checkIndex_7cf53 : Cond.static yJ15_checkIndex_7cf53 ∈ lw_good := (good_in (tb_3 (List.mem_of_getElem? (i := 3) rfl)) rfl)
theorem lk_Jx4a65c_123 : Lk RJx4a65c 123 yJx4a65c_elementData_915e3 := Or.inl (good_in (tb_3 (List.mem_of_getElem? (i := 8) rfl)) rfl)
theorem yk_Jx4a65c_elementData_915e3 : Yk yJx4a65c_elementData_915e3 cJx4a65c_elementData_915e3 2 (some (.object "java/lang/Object")) 1 := ⟨(good_in (tb_3 (List.mem_of_getElem? (i := 11) rfl)) rfl), (good_in (tb_1 (List.mem_of_getElem? (i := 5) rfl)) rfl), ⟨by decide +kernel, by decide +kernel⟩, by decide +kernel⟩
theorem yv_Jx4a65c_elementData_915e3 : Cond.instanceMethod yJx4a65c_elementData_915e3 ∈ lw_good ∧ Cond.selects yJx4a65c_elementData_915e3.cls yJx4a65c_elementData_915e3 yJx4a65c_elementData_915e3 ∈ lw_good := ⟨(good_in (tb_3 (List.mem_of_getElem? (i := 9) rfl)) rfl), (good_in (tb_3 (List.mem_of_getElem? (i := 10) rfl)) rfl)⟩
theorem lk_X11_189 : Lk RX11 189 yX11_isClock := Or.inl (good_in (tb_2 (List.mem_of_getElem? (i := 234) rfl)) rfl)
theorem yk_X11_isClock : Yk yX11_isClock cX11_isClock 2 (some .boolean) 1 := ⟨(good_in (tb_2 (List.mem_of_getElem? (i := 237) rfl)) rfl), (good_in (tb_1 (List.mem_of_getElem? (i := 1) rfl)) rfl), ⟨by decide +kernel, by decide +kernel⟩, by decide +kernel⟩
theorem yv_X11_isClock : Cond.instanceMethod yX11_isClock ∈ lw_good ∧ Cond.selects yX11_isClock.cls yX11_isClock yX11_isClock ∈ lw_good := ⟨(good_in (tb_2 (List.mem_of_getElem? (i := 236) rfl)) rfl), (good_in (List.mem_append_left _ (by decide +kernel)) rfl)⟩
theorem fl_X11_192 : Fl RX11 192 13 8 := kc_X11.fl (ref := "LeapNet") (by decide) (Or.inl (good_in (tb_1 (List.mem_of_getElem? (i := 170) rfl)) rfl)) (Or.inl rfl)
theorem lk_X11_195 : Lk RX11 195 yJx4a65c_get_915e3 := Or.inl (good_in (tb_2 (List.mem_of_getElem? (i := 238) rfl)) rfl)
theorem yk_Jx4a65c_get_915e3 : Yk yJx4a65c_get_915e3 cJx4a65c_get_915e3 2 (some (.object "java/lang/Object")) 1 := ⟨(good_in (tb_3 (List.mem_of_getElem? (i := 1) rfl)) rfl), (good_in (tb_1 (List.mem_of_getElem? (i := 5) rfl)) rfl), ⟨by decide +kernel, by decide +kernel⟩, by decide +kernel⟩
theorem yv_Jx4a65c_get_915e3 : Cond.instanceMethod yJx4a65c_get_915e3 ∈ lw_good ∧ Cond.selects yJx4a65c_get_915e3.cls yJx4a65c_get_915e3 yJx4a65c_get_915e3 ∈ lw_good := ⟨(good_in (tb_2 (List.mem_of_getElem? (i := 239) rfl)) rfl), (good_in (tb_3 (List.mem_of_getElem? (i := 0) rfl)) rfl)⟩
theorem lk_X11_199 : Lk RX11 199 yX1_addStep := Or.inl (good_in (tb_3 (List.mem_of_getElem? (i := 12) rfl)) rfl)
theorem yk_X1_addStep : Yk yX1_addStep cX1_addStep 3 none 1 := ⟨(good_in (tb_3 (List.mem_of_getElem? (i := 15) rfl)) rfl), (good_in (tb_1 (List.mem_of_getElem? (i := 12) rfl)) rfl), ⟨by decide +kernel, by decide +kernel⟩, by decide +kernel⟩
theorem yv_X1_addStep : Cond.instanceMethod yX1_addStep ∈ lw_good ∧ Cond.selects yX1_addStep.cls yX1_addStep yX1_addStep ∈ lw_good := ⟨(good_in (tb_3 (List.mem_of_getElem? (i := 13) rfl)) rfl), (good_in (tb_3 (List.mem_of_getElem? (i := 14) rfl)) rfl)⟩
theorem fp_X11_192 : Fp RX11 192 13 8 .int := ⟨_, _, _, _, "LeapNet", kc_X11, by decide, rfl, Or.inl (good_in (tb_1 (List.mem_of_getElem? (i := 170) rfl)) rfl), Or.inl rfl, rfl⟩
theorem fl_X11_51 : Fl RX11 51 13 11 := kc_X11.fl (ref := "LeapNet") (by decide) (Or.inl (good_in (tb_1 (List.mem_of_getElem? (i := 173) rfl)) rfl)) (Or.inl rfl)
theorem cl_X11_289 : Cond.classLink RX11 289 RX6 ∈ lw_good := (good_in (tb_3 (List.mem_of_getElem? (i := 41) rfl)) rfl)
theorem fl_X11_362 : Fl RX11 362 8 1 := kc_X6.fl (ref := "LeapNet$Rule") (by decide) (Or.inr ⟨"LeapNet", (nw_in (tb_4 (List.mem_of_getElem? (i := 109) rfl)) rfl)⟩) (Or.inl rfl)
theorem sl_J6_205 : Cond.fieldLink RJ6 205 "java/lang/Integer" "value" "I" ∈ lw_good := (good_in (tb_5 (List.mem_of_getElem? (i := 77) rfl)) rfl)
theorem fl_X11_48 : Fl RX11 48 13 10 := kc_X11.fl (ref := "LeapNet") (by decide) (Or.inl (good_in (tb_1 (List.mem_of_getElem? (i := 172) rfl)) rfl)) (Or.inl rfl)
theorem cl_X11_253 : Cond.classLink RX11 253 RX3 ∈ lw_good := (good_in (tb_3 (List.mem_of_getElem? (i := 32) rfl)) rfl)
theorem fl_X11_365 : Fl RX11 365 5 0 := kc_X3.fl (ref := "LeapNet$Notice") (by decide) (Or.inr ⟨"LeapNet", (nw_in (tb_5 (List.mem_of_getElem? (i := 95) rfl)) rfl)⟩) (Or.inl rfl)
theorem fl_X11_45 : Fl RX11 45 13 9 := kc_X11.fl (ref := "LeapNet") (by decide) (Or.inl (good_in (tb_1 (List.mem_of_getElem? (i := 171) rfl)) rfl)) (Or.inl rfl)
theorem cl_X11_315 : Cond.classLink RX11 315 RJ6 ∈ lw_good := (good_in (tb_3 (List.mem_of_getElem? (i := 50) rfl)) rfl)
theorem lk_X11_368 : Lk RX11 368 yJ6_intValue_8abf5 := Or.inl (good_in (tb_3 (List.mem_of_getElem? (i := 51) rfl)) rfl)
theorem yk_J6_intValue_8abf5 : Yk yJ6_intValue_8abf5 cJ6_intValue_8abf5 1 (some .int) 0 := ⟨(good_in (tb_3 (List.mem_of_getElem? (i := 54) rfl)) rfl), (good_in (tb_1 (List.mem_of_getElem? (i := 24) rfl)) rfl), ⟨by decide +kernel, by decide +kernel⟩, by decide +kernel⟩
theorem yv_J6_intValue_8abf5 : Cond.instanceMethod yJ6_intValue_8abf5 ∈ lw_good ∧ Cond.selects yJ6_intValue_8abf5.cls yJ6_intValue_8abf5 yJ6_intValue_8abf5 ∈ lw_good := ⟨(good_in (tb_3 (List.mem_of_getElem? (i := 52) rfl)) rfl), (good_in (tb_3 (List.mem_of_getElem? (i := 53) rfl)) rfl)⟩
theorem gl_X11_368 : Cond.methodLink RX11 368 yJ6_intValue_8abf5 ∈ lw_good := (good_in (tb_3 (List.mem_of_getElem? (i := 51) rfl)) rfl)
theorem fl_X11_258 : Fl RX11 258 5 2 := kc_X3.fl (ref := "LeapNet$Notice") (by decide) (Or.inr ⟨"LeapNet", (nw_in (tb_5 (List.mem_of_getElem? (i := 99) rfl)) rfl)⟩) (Or.inl rfl)
theorem fl_X11_274 : Fl RX11 274 5 3 := kc_X3.fl (ref := "LeapNet$Notice") (by decide) (Or.inr ⟨"LeapNet", (nw_in (tb_5 (List.mem_of_getElem? (i := 101) rfl)) rfl)⟩) (Or.inl rfl)
theorem fl_X11_271 : Fl RX11 271 5 1 := kc_X3.fl (ref := "LeapNet$Notice") (by decide) (Or.inr ⟨"LeapNet", (nw_in (tb_5 (List.mem_of_getElem? (i := 97) rfl)) rfl)⟩) (Or.inl rfl)
theorem fl_X11_371 : Fl RX11 371 3 0 := kc_X1.fl (ref := "LeapNet$Clock") (by decide) (Or.inr ⟨"LeapNet", (nw_in (tb_2 (List.mem_of_getElem? (i := 155) rfl)) rfl)⟩) (Or.inl rfl)
theorem lk_X11_374 : Lk RX11 374 yJ9_min_7cf53 := Or.inl (good_in (tb_3 (List.mem_of_getElem? (i := 55) rfl)) rfl)
theorem lk_X11_341 : Lk RX11 341 yX3_isOfSameDay := Or.inl (good_in (tb_3 (List.mem_of_getElem? (i := 46) rfl)) rfl)
theorem yk_X3_isOfSameDay : Yk yX3_isOfSameDay cX3_isOfSameDay 2 (some .boolean) 1 := ⟨(good_in (tb_3 (List.mem_of_getElem? (i := 49) rfl)) rfl), (good_in (tb_1 (List.mem_of_getElem? (i := 26) rfl)) rfl), ⟨by decide +kernel, by decide +kernel⟩, by decide +kernel⟩
theorem yv_X3_isOfSameDay : Cond.instanceMethod yX3_isOfSameDay ∈ lw_good ∧ Cond.selects yX3_isOfSameDay.cls yX3_isOfSameDay yX3_isOfSameDay ∈ lw_good := ⟨(good_in (tb_3 (List.mem_of_getElem? (i := 47) rfl)) rfl), (good_in (tb_3 (List.mem_of_getElem? (i := 48) rfl)) rfl)⟩
theorem fl_X11_255 : Fl RX11 255 5 4 := kc_X3.fl (ref := "LeapNet$Notice") (by decide) (Or.inr ⟨"LeapNet", (nw_in (tb_5 (List.mem_of_getElem? (i := 103) rfl)) rfl)⟩) (Or.inl rfl)
theorem lk_X11_345 : Lk RX11 345 yX11_textInForce := Or.inl (good_in (tb_3 (List.mem_of_getElem? (i := 37) rfl)) rfl)
theorem yk_X11_textInForce : Yk yX11_textInForce cX11_textInForce 5 (some (.object "LeapNet$Rule")) 1 := ⟨(good_in (tb_3 (List.mem_of_getElem? (i := 40) rfl)) rfl), (good_in (tb_1 (List.mem_of_getElem? (i := 1) rfl)) rfl), ⟨by decide +kernel, by decide +kernel⟩, by decide +kernel⟩
theorem yv_X11_textInForce : Cond.instanceMethod yX11_textInForce ∈ lw_good ∧ Cond.selects yX11_textInForce.cls yX11_textInForce yX11_textInForce ∈ lw_good := ⟨(good_in (tb_3 (List.mem_of_getElem? (i := 39) rfl)) rfl), (good_in (List.mem_append_left _ (by decide +kernel)) rfl)⟩
theorem fl_X11_349 : Fl RX11 349 8 6 := kc_X6.fl (ref := "LeapNet$Rule") (by decide) (Or.inr ⟨"LeapNet", (nw_in (tb_4 (List.mem_of_getElem? (i := 116) rfl)) rfl)⟩) (Or.inl rfl)
theorem fl_X11_352 : Fl RX11 352 8 8 := kc_X6.fl (ref := "LeapNet$Rule") (by decide) (Or.inr ⟨"LeapNet", (nw_in (tb_4 (List.mem_of_getElem? (i := 119) rfl)) rfl)⟩) (Or.inl rfl)
theorem lk_X11_355 : Lk RX11 355 yX11_fillVariables := Or.inl (good_in (tb_3 (List.mem_of_getElem? (i := 42) rfl)) rfl)
theorem yk_X11_fillVariables : Yk yX11_fillVariables cX11_fillVariables 8 none 3 := ⟨(good_in (tb_3 (List.mem_of_getElem? (i := 45) rfl)) rfl), (good_in (tb_1 (List.mem_of_getElem? (i := 1) rfl)) rfl), ⟨by decide +kernel, by decide +kernel⟩, by decide +kernel⟩
theorem yv_X11_fillVariables : Cond.instanceMethod yX11_fillVariables ∈ lw_good ∧ Cond.selects yX11_fillVariables.cls yX11_fillVariables yX11_fillVariables ∈ lw_good := ⟨(good_in (tb_3 (List.mem_of_getElem? (i := 44) rfl)) rfl), (good_in (List.mem_append_left _ (by decide +kernel)) rfl)⟩
theorem lk_X11_359 : Lk RX11 359 yX6_holds := Or.inl (good_in (tb_3 (List.mem_of_getElem? (i := 56) rfl)) rfl)
theorem yk_X6_holds : Yk yX6_holds cX6_holds 2 (some .boolean) 0 := ⟨(good_in (tb_3 (List.mem_of_getElem? (i := 59) rfl)) rfl), (good_in (tb_1 (List.mem_of_getElem? (i := 17) rfl)) rfl), ⟨by decide +kernel, by decide +kernel⟩, by decide +kernel⟩
theorem yv_X6_holds : Cond.instanceMethod yX6_holds ∈ lw_good ∧ Cond.selects yX6_holds.cls yX6_holds yX6_holds ∈ lw_good := ⟨(good_in (tb_3 (List.mem_of_getElem? (i := 57) rfl)) rfl), (good_in (tb_3 (List.mem_of_getElem? (i := 58) rfl)) rfl)⟩
theorem fl_X11_132 : Fl RX11 132 13 18 := kc_X11.fl (ref := "LeapNet") (by decide) (Or.inl (good_in (tb_1 (List.mem_of_getElem? (i := 180) rfl)) rfl)) (Or.inl rfl)
theorem fl_X11_247 : Fl RX11 247 3 1 := kc_X1.fl (ref := "LeapNet$Clock") (by decide) (Or.inr ⟨"LeapNet", (nw_in (tb_2 (List.mem_of_getElem? (i := 157) rfl)) rfl)⟩) (Or.inl rfl)
theorem lk_X11_250 : Lk RX11 250 yX9_clear := Or.inl (good_in (tb_3 (List.mem_of_getElem? (i := 28) rfl)) rfl)
theorem yk_X9_clear : Yk yX9_clear cX9_clear 1 none 0 := ⟨(good_in (tb_3 (List.mem_of_getElem? (i := 31) rfl)) rfl), (good_in (tb_1 (List.mem_of_getElem? (i := 2) rfl)) rfl), ⟨by decide +kernel, by decide +kernel⟩, by decide +kernel⟩
theorem yv_X9_clear : Cond.instanceMethod yX9_clear ∈ lw_good ∧ Cond.selects yX9_clear.cls yX9_clear yX9_clear ∈ lw_good := ⟨(good_in (tb_3 (List.mem_of_getElem? (i := 29) rfl)) rfl), (good_in (tb_3 (List.mem_of_getElem? (i := 30) rfl)) rfl)⟩
theorem fp_X11_259 : Fp RX11 259 5 5 .boolean := ⟨_, _, _, _, "LeapNet$Notice", kc_X3, by decide, rfl, Or.inr ⟨"LeapNet", (nw_in (tb_5 (List.mem_of_getElem? (i := 105) rfl)) rfl)⟩, Or.inl rfl, rfl⟩
theorem lk_X11_262 : Lk RX11 262 yX11_isBelieved := Or.inl (good_in (tb_3 (List.mem_of_getElem? (i := 33) rfl)) rfl)
theorem yk_X11_isBelieved : Yk yX11_isBelieved cX11_isBelieved 4 (some .boolean) 1 := ⟨(good_in (tb_3 (List.mem_of_getElem? (i := 36) rfl)) rfl), (good_in (tb_1 (List.mem_of_getElem? (i := 1) rfl)) rfl), ⟨by decide +kernel, by decide +kernel⟩, by decide +kernel⟩
theorem yv_X11_isBelieved : Cond.instanceMethod yX11_isBelieved ∈ lw_good ∧ Cond.selects yX11_isBelieved.cls yX11_isBelieved yX11_isBelieved ∈ lw_good := ⟨(good_in (tb_3 (List.mem_of_getElem? (i := 35) rfl)) rfl), (good_in (List.mem_append_left _ (by decide +kernel)) rfl)⟩
theorem fp_X11_265 : Fp RX11 265 5 6 .boolean := ⟨_, _, _, _, "LeapNet$Notice", kc_X3, by decide, rfl, Or.inr ⟨"LeapNet", (nw_in (tb_5 (List.mem_of_getElem? (i := 107) rfl)) rfl)⟩, Or.inl rfl, rfl⟩
theorem lk_X11_268 : Lk RX11 268 yX3_governs := Or.inl (good_in (tb_3 (List.mem_of_getElem? (i := 87) rfl)) rfl)
theorem yk_X3_governs : Yk yX3_governs cX3_governs 1 (some .boolean) 0 := ⟨(good_in (tb_3 (List.mem_of_getElem? (i := 90) rfl)) rfl), (good_in (tb_1 (List.mem_of_getElem? (i := 26) rfl)) rfl), ⟨by decide +kernel, by decide +kernel⟩, by decide +kernel⟩
theorem yv_X3_governs : Cond.instanceMethod yX3_governs ∈ lw_good ∧ Cond.selects yX3_governs.cls yX3_governs yX3_governs ∈ lw_good := ⟨(good_in (tb_3 (List.mem_of_getElem? (i := 88) rfl)) rfl), (good_in (tb_3 (List.mem_of_getElem? (i := 89) rfl)) rfl)⟩
theorem lk_X11_277 : Lk RX11 277 yX1_reckonSteps := Or.inl (good_in (tb_3 (List.mem_of_getElem? (i := 91) rfl)) rfl)
theorem yk_X1_reckonSteps : Yk yX1_reckonSteps cX1_reckonSteps 3 none 1 := ⟨(good_in (tb_3 (List.mem_of_getElem? (i := 94) rfl)) rfl), (good_in (tb_1 (List.mem_of_getElem? (i := 12) rfl)) rfl), ⟨by decide +kernel, by decide +kernel⟩, by decide +kernel⟩
theorem yv_X1_reckonSteps : Cond.instanceMethod yX1_reckonSteps ∈ lw_good ∧ Cond.selects yX1_reckonSteps.cls yX1_reckonSteps yX1_reckonSteps ∈ lw_good := ⟨(good_in (tb_3 (List.mem_of_getElem? (i := 92) rfl)) rfl), (good_in (tb_3 (List.mem_of_getElem? (i := 93) rfl)) rfl)⟩
theorem lk_X11_202 : Lk RX11 202 yX11_clockCountStatus := Or.inl (good_in (tb_3 (List.mem_of_getElem? (i := 20) rfl)) rfl)
theorem yk_X11_clockCountStatus : Yk yX11_clockCountStatus cX11_clockCountStatus 3 (some .int) 2 := ⟨(good_in (tb_3 (List.mem_of_getElem? (i := 23) rfl)) rfl), (good_in (tb_1 (List.mem_of_getElem? (i := 1) rfl)) rfl), ⟨by decide +kernel, by decide +kernel⟩, by decide +kernel⟩
theorem yv_X11_clockCountStatus : Cond.instanceMethod yX11_clockCountStatus ∈ lw_good ∧ Cond.selects yX11_clockCountStatus.cls yX11_clockCountStatus yX11_clockCountStatus ∈ lw_good := ⟨(good_in (tb_3 (List.mem_of_getElem? (i := 22) rfl)) rfl), (good_in (List.mem_append_left _ (by decide +kernel)) rfl)⟩
theorem lk_X11_205 : Lk RX11 205 yX11_settle := Or.inl (good_in (tb_3 (List.mem_of_getElem? (i := 24) rfl)) rfl)
theorem yk_X11_settle : Yk yX11_settle cX11_settle 3 none 0 := ⟨(good_in (tb_3 (List.mem_of_getElem? (i := 27) rfl)) rfl), (good_in (tb_1 (List.mem_of_getElem? (i := 1) rfl)) rfl), ⟨by decide +kernel, by decide +kernel⟩, by decide +kernel⟩
theorem yv_X11_settle : Cond.instanceMethod yX11_settle ∈ lw_good ∧ Cond.selects yX11_settle.cls yX11_settle yX11_settle ∈ lw_good := ⟨(good_in (tb_3 (List.mem_of_getElem? (i := 26) rfl)) rfl), (good_in (List.mem_append_left _ (by decide +kernel)) rfl)⟩
theorem lk_X11_208 : Lk RX11 208 yX1_shownAt := Or.inl (good_in (tb_3 (List.mem_of_getElem? (i := 102) rfl)) rfl)
theorem lk_X11_211 : Lk RX11 211 yX1_leadAt := Or.inl (good_in (tb_3 (List.mem_of_getElem? (i := 125) rfl)) rfl)
theorem lk_X11_214 : Lk RX11 214 yX11_thousandthsInAll := Or.inl (good_in (tb_3 (List.mem_of_getElem? (i := 130) rfl)) rfl)
theorem lk_X11_224 : Lk RX11 224 yJ9_min_f86c9 := Or.inl (good_in (tb_3 (List.mem_of_getElem? (i := 146) rfl)) rfl)
theorem lk_X11_230 : Lk RX11 230 yJ9_max_f86c9 := Or.inl (good_in (tb_3 (List.mem_of_getElem? (i := 149) rfl)) rfl)
theorem lk_X11_218 : Lk RX11 218 yX11_worstStatus := Or.inl (good_in (tb_3 (List.mem_of_getElem? (i := 138) rfl)) rfl)
theorem yk_X11_worstStatus : Yk yX11_worstStatus cX11_worstStatus 4 (some .int) 3 := ⟨(good_in (tb_3 (List.mem_of_getElem? (i := 141) rfl)) rfl), (good_in (tb_1 (List.mem_of_getElem? (i := 1) rfl)) rfl), ⟨by decide +kernel, by decide +kernel⟩, by decide +kernel⟩
theorem yv_X11_worstStatus : Cond.instanceMethod yX11_worstStatus ∈ lw_good ∧ Cond.selects yX11_worstStatus.cls yX11_worstStatus yX11_worstStatus ∈ lw_good := ⟨(good_in (tb_3 (List.mem_of_getElem? (i := 140) rfl)) rfl), (good_in (List.mem_append_left _ (by decide +kernel)) rfl)⟩
theorem lk_X11_221 : Lk RX11 221 yX11_spreadAt := Or.inl (good_in (tb_3 (List.mem_of_getElem? (i := 142) rfl)) rfl)
theorem yk_X11_spreadAt : Yk yX11_spreadAt cX11_spreadAt 9 (some .long) 1 := ⟨(good_in (tb_3 (List.mem_of_getElem? (i := 145) rfl)) rfl), (good_in (tb_1 (List.mem_of_getElem? (i := 1) rfl)) rfl), ⟨by decide +kernel, by decide +kernel⟩, by decide +kernel⟩
theorem yv_X11_spreadAt : Cond.instanceMethod yX11_spreadAt ∈ lw_good ∧ Cond.selects yX11_spreadAt.cls yX11_spreadAt yX11_spreadAt ∈ lw_good := ⟨(good_in (tb_3 (List.mem_of_getElem? (i := 144) rfl)) rfl), (good_in (List.mem_append_left _ (by decide +kernel)) rfl)⟩
theorem fl_X11_19 : Fl RX11 19 13 2 := kc_X11.fl (ref := "LeapNet") (by decide) (Or.inl (good_in (tb_1 (List.mem_of_getElem? (i := 164) rfl)) rfl)) (Or.inl rfl)
theorem fl_X11_281 : Fl RX11 281 13 3 := kc_X11.fl (ref := "LeapNet") (by decide) (Or.inl (good_in (tb_1 (List.mem_of_getElem? (i := 165) rfl)) rfl)) (Or.inl rfl)
theorem fp_X11_281 : Fp RX11 281 13 3 .int := ⟨_, _, _, _, "LeapNet", kc_X11, by decide, rfl, Or.inl (good_in (tb_1 (List.mem_of_getElem? (i := 165) rfl)) rfl), Or.inl rfl, rfl⟩
theorem lk_X11_284 : Lk RX11 284 yX11_feedOne := Or.inl (good_in (tb_3 (List.mem_of_getElem? (i := 156) rfl)) rfl)
theorem yk_X11_feedOne : Yk yX11_feedOne cX11_feedOne 3 none 1 := ⟨(good_in (tb_3 (List.mem_of_getElem? (i := 159) rfl)) rfl), (good_in (tb_1 (List.mem_of_getElem? (i := 1) rfl)) rfl), ⟨by decide +kernel, by decide +kernel⟩, by decide +kernel⟩
theorem yv_X11_feedOne : Cond.instanceMethod yX11_feedOne ∈ lw_good ∧ Cond.selects yX11_feedOne.cls yX11_feedOne yX11_feedOne ∈ lw_good := ⟨(good_in (tb_3 (List.mem_of_getElem? (i := 158) rfl)) rfl), (good_in (List.mem_append_left _ (by decide +kernel)) rfl)⟩
theorem fl_X11_336 : Fl RX11 336 7 9 := kc_X5.fl (ref := "LeapNet$Reader") (by decide) (Or.inr ⟨"LeapNet", (nw_in (tb_3 (List.mem_of_getElem? (i := 186) rfl)) rfl)⟩) (Or.inl rfl)
theorem fl_X11_337 : Fl RX11 337 7 10 := kc_X5.fl (ref := "LeapNet$Reader") (by decide) (Or.inr ⟨"LeapNet", (nw_in (tb_3 (List.mem_of_getElem? (i := 188) rfl)) rfl)⟩) (Or.inl rfl)
theorem fl_X11_23 : Fl RX11 23 13 4 := kc_X11.fl (ref := "LeapNet") (by decide) (Or.inl (good_in (tb_1 (List.mem_of_getElem? (i := 166) rfl)) rfl)) (Or.inl rfl)
theorem cl_X11_287 : Cond.classLink RX11 287 RX5 ∈ lw_good := (good_in (tb_3 (List.mem_of_getElem? (i := 164) rfl)) rfl)
theorem in1_X5 : Cond.instantiable RX5 11 ∈ lw_good := (good_in (tb_3 (List.mem_of_getElem? (i := 165) rfl)) rfl)
theorem in2_X5 : Cond.initialized RX5 ∈ lw_good := (good_in (tb_1 (List.mem_of_getElem? (i := 18) rfl)) rfl)
theorem lk_X11_295 : Lk RX11 295 yX5_init := Or.inl (good_in (tb_3 (List.mem_of_getElem? (i := 168) rfl)) rfl)
theorem yk_X5_init : Yk yX5_init cX5_init 6 none 4 := ⟨(good_in (tb_3 (List.mem_of_getElem? (i := 170) rfl)) rfl), (good_in (tb_1 (List.mem_of_getElem? (i := 18) rfl)) rfl), ⟨by decide +kernel, by decide +kernel⟩, by decide +kernel⟩
theorem yi_X5_init : Cond.instanceMethod yX5_init ∈ lw_good ∧ yX5_init.name = "<init>" := ⟨(good_in (tb_3 (List.mem_of_getElem? (i := 169) rfl)) rfl), rfl⟩
theorem lk_X11_298 : Lk RX11 298 yX5_cut := Or.inl (good_in (tb_3 (List.mem_of_getElem? (i := 213) rfl)) rfl)
theorem yk_X5_cut : Yk yX5_cut cX5_cut 2 none 0 := ⟨(good_in (tb_3 (List.mem_of_getElem? (i := 216) rfl)) rfl), (good_in (tb_1 (List.mem_of_getElem? (i := 18) rfl)) rfl), ⟨by decide +kernel, by decide +kernel⟩, by decide +kernel⟩
theorem yv_X5_cut : Cond.instanceMethod yX5_cut ∈ lw_good ∧ Cond.selects yX5_cut.cls yX5_cut yX5_cut ∈ lw_good := ⟨(good_in (tb_3 (List.mem_of_getElem? (i := 214) rfl)) rfl), (good_in (tb_3 (List.mem_of_getElem? (i := 215) rfl)) rfl)⟩
theorem in1_X6 : Cond.instantiable RX6 14 ∈ lw_good := (good_in (tb_3 (List.mem_of_getElem? (i := 63) rfl)) rfl)
theorem in2_X6 : Cond.initialized RX6 ∈ lw_good := (good_in (tb_1 (List.mem_of_getElem? (i := 17) rfl)) rfl)
theorem lk_X11_301 : Lk RX11 301 yX6_init := Or.inl (good_in (tb_4 (List.mem_of_getElem? (i := 103) rfl)) rfl)
theorem yk_X6_init : Yk yX6_init cX6_init 3 none 2 := ⟨(good_in (tb_4 (List.mem_of_getElem? (i := 105) rfl)) rfl), (good_in (tb_1 (List.mem_of_getElem? (i := 17) rfl)) rfl), ⟨by decide +kernel, by decide +kernel⟩, by decide +kernel⟩
theorem yi_X6_init : Cond.instanceMethod yX6_init ∈ lw_good ∧ yX6_init.name = "<init>" := ⟨(good_in (tb_4 (List.mem_of_getElem? (i := 104) rfl)) rfl), rfl⟩
theorem lk_X11_304 : Lk RX11 304 yX6_readDefs := Or.inl (good_in (tb_4 (List.mem_of_getElem? (i := 155) rfl)) rfl)
theorem yk_X6_readDefs : Yk yX6_readDefs cX6_readDefs 2 none 0 := ⟨(good_in (tb_4 (List.mem_of_getElem? (i := 158) rfl)) rfl), (good_in (tb_1 (List.mem_of_getElem? (i := 17) rfl)) rfl), ⟨by decide +kernel, by decide +kernel⟩, by decide +kernel⟩
theorem yv_X6_readDefs : Cond.instanceMethod yX6_readDefs ∈ lw_good ∧ Cond.selects yX6_readDefs.cls yX6_readDefs yX6_readDefs ∈ lw_good := ⟨(good_in (tb_4 (List.mem_of_getElem? (i := 156) rfl)) rfl), (good_in (tb_4 (List.mem_of_getElem? (i := 157) rfl)) rfl)⟩
theorem lk_X11_307 : Lk RX11 307 yX11_endReading := Or.inl (good_in (tb_5 (List.mem_of_getElem? (i := 49) rfl)) rfl)
theorem yk_X11_endReading : Yk yX11_endReading cX11_endReading 2 none 1 := ⟨(good_in (tb_5 (List.mem_of_getElem? (i := 52) rfl)) rfl), (good_in (tb_1 (List.mem_of_getElem? (i := 1) rfl)) rfl), ⟨by decide +kernel, by decide +kernel⟩, by decide +kernel⟩
theorem yv_X11_endReading : Cond.instanceMethod yX11_endReading ∈ lw_good ∧ Cond.selects yX11_endReading.cls yX11_endReading yX11_endReading ∈ lw_good := ⟨(good_in (tb_5 (List.mem_of_getElem? (i := 51) rfl)) rfl), (good_in (List.mem_append_left _ (by decide +kernel)) rfl)⟩
theorem fl_X11_311 : Fl RX11 311 8 5 := kc_X6.fl (ref := "LeapNet$Rule") (by decide) (Or.inr ⟨"LeapNet", (nw_in (tb_4 (List.mem_of_getElem? (i := 114) rfl)) rfl)⟩) (Or.inl rfl)
theorem fl_X11_26 : Fl RX11 26 13 5 := kc_X11.fl (ref := "LeapNet") (by decide) (Or.inl (good_in (tb_1 (List.mem_of_getElem? (i := 167) rfl)) rfl)) (Or.inl rfl)
theorem sl_J6_191 : Cond.fieldLink RJ6 191 "java/lang/Integer$IntegerCache" "high" "I" ∈ lw_good := (good_in (tb_5 (List.mem_of_getElem? (i := 64) rfl)) rfl)
theorem sl_J6_195 : Cond.fieldLink RJ6 195 "java/lang/Integer$IntegerCache" "cache" "[Ljava/lang/Integer;" ∈ lw_good := (good_in (tb_5 (List.mem_of_getElem? (i := 66) rfl)) rfl)
theorem lk_X11_314 : Lk RX11 314 yJ6_valueOf_2dffe := Or.inl (good_in (tb_5 (List.mem_of_getElem? (i := 61) rfl)) rfl)
theorem yk_J6_valueOf_2dffe : Yk yJ6_valueOf_2dffe cJ6_valueOf_2dffe 1 (some (.object "java/lang/Integer")) 1 := ⟨(good_in (tb_5 (List.mem_of_getElem? (i := 63) rfl)) rfl), (good_in (tb_1 (List.mem_of_getElem? (i := 24) rfl)) rfl), ⟨by decide +kernel, by decide +kernel⟩, by decide +kernel⟩
theorem ys_J6_valueOf_2dffe : Cond.static yJ6_valueOf_2dffe ∈ lw_good := (good_in (tb_5 (List.mem_of_getElem? (i := 62) rfl)) rfl)
theorem lk_X11_320 : Lk RX11 320 yX11_noticeStatus := Or.inl (good_in (tb_5 (List.mem_of_getElem? (i := 85) rfl)) rfl)
theorem yk_X11_noticeStatus : Yk yX11_noticeStatus cX11_noticeStatus 7 (some .int) 5 := ⟨(good_in (tb_5 (List.mem_of_getElem? (i := 88) rfl)) rfl), (good_in (tb_1 (List.mem_of_getElem? (i := 1) rfl)) rfl), ⟨by decide +kernel, by decide +kernel⟩, by decide +kernel⟩
theorem yv_X11_noticeStatus : Cond.instanceMethod yX11_noticeStatus ∈ lw_good ∧ Cond.selects yX11_noticeStatus.cls yX11_noticeStatus yX11_noticeStatus ∈ lw_good := ⟨(good_in (tb_5 (List.mem_of_getElem? (i := 87) rfl)) rfl), (good_in (List.mem_append_left _ (by decide +kernel)) rfl)⟩
theorem in1_X3 : Cond.instantiable RX3 7 ∈ lw_good := (good_in (tb_5 (List.mem_of_getElem? (i := 89) rfl)) rfl)
theorem in2_X3 : Cond.initialized RX3 ∈ lw_good := (good_in (tb_1 (List.mem_of_getElem? (i := 26) rfl)) rfl)
theorem lk_X11_323 : Lk RX11 323 yX3_init := Or.inl (good_in (tb_5 (List.mem_of_getElem? (i := 90) rfl)) rfl)
theorem yk_X3_init : Yk yX3_init cX3_init 6 none 5 := ⟨(good_in (tb_5 (List.mem_of_getElem? (i := 92) rfl)) rfl), (good_in (tb_1 (List.mem_of_getElem? (i := 26) rfl)) rfl), ⟨by decide +kernel, by decide +kernel⟩, by decide +kernel⟩
theorem yi_X3_init : Cond.instanceMethod yX3_init ∈ lw_good ∧ yX3_init.name = "<init>" := ⟨(good_in (tb_5 (List.mem_of_getElem? (i := 91) rfl)) rfl), rfl⟩
theorem fl_X11_265 : Fl RX11 265 5 6 := kc_X3.fl (ref := "LeapNet$Notice") (by decide) (Or.inr ⟨"LeapNet", (nw_in (tb_5 (List.mem_of_getElem? (i := 107) rfl)) rfl)⟩) (Or.inl rfl)
theorem fl_X11_259 : Fl RX11 259 5 5 := kc_X3.fl (ref := "LeapNet$Notice") (by decide) (Or.inr ⟨"LeapNet", (nw_in (tb_5 (List.mem_of_getElem? (i := 105) rfl)) rfl)⟩) (Or.inl rfl)
theorem lk_X11_338 : Lk RX11 338 yX11_isLastToGovern := Or.inl (good_in (tb_5 (List.mem_of_getElem? (i := 135) rfl)) rfl)
theorem yk_X11_isLastToGovern : Yk yX11_isLastToGovern cX11_isLastToGovern 4 (some .boolean) 1 := ⟨(good_in (tb_5 (List.mem_of_getElem? (i := 138) rfl)) rfl), (good_in (tb_1 (List.mem_of_getElem? (i := 1) rfl)) rfl), ⟨by decide +kernel, by decide +kernel⟩, by decide +kernel⟩
theorem yv_X11_isLastToGovern : Cond.instanceMethod yX11_isLastToGovern ∈ lw_good ∧ Cond.selects yX11_isLastToGovern.cls yX11_isLastToGovern yX11_isLastToGovern ∈ lw_good := ⟨(good_in (tb_5 (List.mem_of_getElem? (i := 137) rfl)) rfl), (good_in (List.mem_append_left _ (by decide +kernel)) rfl)⟩
theorem lk_X11_326 : Lk RX11 326 yX11_toldStatus := Or.inl (good_in (tb_5 (List.mem_of_getElem? (i := 127) rfl)) rfl)
theorem yk_X11_toldStatus : Yk yX11_toldStatus cX11_toldStatus 3 (some .int) 2 := ⟨(good_in (tb_5 (List.mem_of_getElem? (i := 130) rfl)) rfl), (good_in (tb_1 (List.mem_of_getElem? (i := 1) rfl)) rfl), ⟨by decide +kernel, by decide +kernel⟩, by decide +kernel⟩
theorem yv_X11_toldStatus : Cond.instanceMethod yX11_toldStatus ∈ lw_good ∧ Cond.selects yX11_toldStatus.cls yX11_toldStatus yX11_toldStatus ∈ lw_good := ⟨(good_in (tb_5 (List.mem_of_getElem? (i := 129) rfl)) rfl), (good_in (List.mem_append_left _ (by decide +kernel)) rfl)⟩
theorem lk_X11_329 : Lk RX11 329 yX11_isTold := Or.inl (good_in (tb_5 (List.mem_of_getElem? (i := 131) rfl)) rfl)
theorem yk_X11_isTold : Yk yX11_isTold cX11_isTold 5 (some .boolean) 2 := ⟨(good_in (tb_5 (List.mem_of_getElem? (i := 134) rfl)) rfl), (good_in (tb_1 (List.mem_of_getElem? (i := 1) rfl)) rfl), ⟨by decide +kernel, by decide +kernel⟩, by decide +kernel⟩
theorem yv_X11_isTold : Cond.instanceMethod yX11_isTold ∈ lw_good ∧ Cond.selects yX11_isTold.cls yX11_isTold yX11_isTold ∈ lw_good := ⟨(good_in (tb_5 (List.mem_of_getElem? (i := 133) rfl)) rfl), (good_in (List.mem_append_left _ (by decide +kernel)) rfl)⟩
theorem lk_X11_332 : Lk RX11 332 yX9_unlikeDays := Or.inl (good_in (tb_5 (List.mem_of_getElem? (i := 147) rfl)) rfl)
theorem yk_X9_unlikeDays : Yk yX9_unlikeDays cX9_unlikeDays 4 (some .int) 1 := ⟨(good_in (tb_5 (List.mem_of_getElem? (i := 150) rfl)) rfl), (good_in (tb_1 (List.mem_of_getElem? (i := 2) rfl)) rfl), ⟨by decide +kernel, by decide +kernel⟩, by decide +kernel⟩
theorem yv_X9_unlikeDays : Cond.instanceMethod yX9_unlikeDays ∈ lw_good ∧ Cond.selects yX9_unlikeDays.cls yX9_unlikeDays yX9_unlikeDays ∈ lw_good := ⟨(good_in (tb_5 (List.mem_of_getElem? (i := 148) rfl)) rfl), (good_in (tb_5 (List.mem_of_getElem? (i := 149) rfl)) rfl)⟩
theorem fl_X11_54 : Fl RX11 54 13 12 := kc_X11.fl (ref := "LeapNet") (by decide) (Or.inl (good_in (tb_1 (List.mem_of_getElem? (i := 174) rfl)) rfl)) (Or.inl rfl)
theorem cl_X11_379 : Cond.classLink RX11 379 RX8 ∈ lw_good := (good_in (tb_5 (List.mem_of_getElem? (i := 159) rfl)) rfl)
theorem fl_X11_400 : Fl RX11 400 10 1 := kc_X8.fl (ref := "LeapNet$Stamp") (by decide) (Or.inr ⟨"LeapNet", (nw_in (tb_5 (List.mem_of_getElem? (i := 168) rfl)) rfl)⟩) (Or.inl rfl)
theorem lk_X11_376 : Lk RX11 376 yX11_stampStatus := Or.inl (good_in (tb_5 (List.mem_of_getElem? (i := 155) rfl)) rfl)
theorem yk_X11_stampStatus : Yk yX11_stampStatus cX11_stampStatus 5 (some .int) 2 := ⟨(good_in (tb_5 (List.mem_of_getElem? (i := 158) rfl)) rfl), (good_in (tb_1 (List.mem_of_getElem? (i := 1) rfl)) rfl), ⟨by decide +kernel, by decide +kernel⟩, by decide +kernel⟩
theorem yv_X11_stampStatus : Cond.instanceMethod yX11_stampStatus ∈ lw_good ∧ Cond.selects yX11_stampStatus.cls yX11_stampStatus yX11_stampStatus ∈ lw_good := ⟨(good_in (tb_5 (List.mem_of_getElem? (i := 157) rfl)) rfl), (good_in (List.mem_append_left _ (by decide +kernel)) rfl)⟩
theorem in1_X8 : Cond.instantiable RX8 3 ∈ lw_good := (good_in (tb_5 (List.mem_of_getElem? (i := 160) rfl)) rfl)
theorem in2_X8 : Cond.initialized RX8 ∈ lw_good := (good_in (tb_1 (List.mem_of_getElem? (i := 27) rfl)) rfl)
theorem lk_X11_381 : Lk RX11 381 yX8_init := Or.inl (good_in (tb_5 (List.mem_of_getElem? (i := 161) rfl)) rfl)
theorem yk_X8_init : Yk yX8_init cX8_init 3 none 2 := ⟨(good_in (tb_5 (List.mem_of_getElem? (i := 163) rfl)) rfl), (good_in (tb_1 (List.mem_of_getElem? (i := 27) rfl)) rfl), ⟨by decide +kernel, by decide +kernel⟩, by decide +kernel⟩
theorem yi_X8_init : Cond.instanceMethod yX8_init ∈ lw_good ∧ yX8_init.name = "<init>" := ⟨(good_in (tb_5 (List.mem_of_getElem? (i := 162) rfl)) rfl), rfl⟩
theorem fl_X11_401 : Fl RX11 401 10 0 := kc_X8.fl (ref := "LeapNet$Stamp") (by decide) (Or.inr ⟨"LeapNet", (nw_in (tb_5 (List.mem_of_getElem? (i := 166) rfl)) rfl)⟩) (Or.inl rfl)
theorem fp_X11_402 : Fp RX11 402 10 2 .long := ⟨_, _, _, _, "LeapNet$Stamp", kc_X8, by decide, rfl, Or.inr ⟨"LeapNet", (nw_in (tb_5 (List.mem_of_getElem? (i := 170) rfl)) rfl)⟩, Or.inl rfl, rfl⟩
theorem lk_X11_382 : Lk RX11 382 yX11_readStamps := Or.inl (good_in (tb_5 (List.mem_of_getElem? (i := 182) rfl)) rfl)
theorem yk_X11_readStamps : Yk yX11_readStamps cX11_readStamps 3 none 0 := ⟨(good_in (tb_5 (List.mem_of_getElem? (i := 185) rfl)) rfl), (good_in (tb_1 (List.mem_of_getElem? (i := 1) rfl)) rfl), ⟨by decide +kernel, by decide +kernel⟩, by decide +kernel⟩
theorem yv_X11_readStamps : Cond.instanceMethod yX11_readStamps ∈ lw_good ∧ Cond.selects yX11_readStamps.cls yX11_readStamps yX11_readStamps ∈ lw_good := ⟨(good_in (tb_5 (List.mem_of_getElem? (i := 184) rfl)) rfl), (good_in (List.mem_append_left _ (by decide +kernel)) rfl)⟩
theorem lk_X11_385 : Lk RX11 385 yX8_isWrongWith := Or.inl (good_in (tb_5 (List.mem_of_getElem? (i := 186) rfl)) rfl)
theorem yk_X8_isWrongWith : Yk yX8_isWrongWith cX8_isWrongWith 2 (some .boolean) 1 := ⟨(good_in (tb_5 (List.mem_of_getElem? (i := 189) rfl)) rfl), (good_in (tb_1 (List.mem_of_getElem? (i := 27) rfl)) rfl), ⟨by decide +kernel, by decide +kernel⟩, by decide +kernel⟩
theorem yv_X8_isWrongWith : Cond.instanceMethod yX8_isWrongWith ∈ lw_good ∧ Cond.selects yX8_isWrongWith.cls yX8_isWrongWith yX8_isWrongWith ∈ lw_good := ⟨(good_in (tb_5 (List.mem_of_getElem? (i := 187) rfl)) rfl), (good_in (tb_5 (List.mem_of_getElem? (i := 188) rfl)) rfl)⟩
theorem kK_J6_265 : Cond.constant RJ6 265 1431655765 ∈ lw_good := (good_in (tb_5 (List.mem_of_getElem? (i := 201) rfl)) rfl)
theorem kK_J6_266 : Cond.constant RJ6 266 858993459 ∈ lw_good := (good_in (tb_5 (List.mem_of_getElem? (i := 202) rfl)) rfl)
theorem kK_J6_267 : Cond.constant RJ6 267 252645135 ∈ lw_good := (good_in (tb_5 (List.mem_of_getElem? (i := 203) rfl)) rfl)
theorem lk_X11_389 : Lk RX11 389 yX11_quarrels := Or.inl (good_in (tb_5 (List.mem_of_getElem? (i := 194) rfl)) rfl)
theorem yk_X11_quarrels : Yk yX11_quarrels cX11_quarrels 6 (some (.array .int)) 0 := ⟨(good_in (tb_5 (List.mem_of_getElem? (i := 197) rfl)) rfl), (good_in (tb_1 (List.mem_of_getElem? (i := 1) rfl)) rfl), ⟨by decide +kernel, by decide +kernel⟩, by decide +kernel⟩
theorem yv_X11_quarrels : Cond.instanceMethod yX11_quarrels ∈ lw_good ∧ Cond.selects yX11_quarrels.cls yX11_quarrels yX11_quarrels ∈ lw_good := ⟨(good_in (tb_5 (List.mem_of_getElem? (i := 196) rfl)) rfl), (good_in (List.mem_append_left _ (by decide +kernel)) rfl)⟩
theorem lk_X11_393 : Lk RX11 393 yJ6_bitCount_0f7a4 := Or.inl (good_in (tb_5 (List.mem_of_getElem? (i := 198) rfl)) rfl)
theorem yk_J6_bitCount_0f7a4 : Yk yJ6_bitCount_0f7a4 cJ6_bitCount_0f7a4 1 (some .int) 1 := ⟨(good_in (tb_5 (List.mem_of_getElem? (i := 200) rfl)) rfl), (good_in (tb_1 (List.mem_of_getElem? (i := 24) rfl)) rfl), ⟨by decide +kernel, by decide +kernel⟩, by decide +kernel⟩
theorem ys_J6_bitCount_0f7a4 : Cond.static yJ6_bitCount_0f7a4 ∈ lw_good := (good_in (tb_5 (List.mem_of_getElem? (i := 199) rfl)) rfl)
theorem lk_X11_396 : Lk RX11 396 yX11_isBlamable := Or.inl (good_in (tb_5 (List.mem_of_getElem? (i := 204) rfl)) rfl)
theorem yk_X11_isBlamable : Yk yX11_isBlamable cX11_isBlamable 5 (some .boolean) 2 := ⟨(good_in (tb_5 (List.mem_of_getElem? (i := 207) rfl)) rfl), (good_in (tb_1 (List.mem_of_getElem? (i := 1) rfl)) rfl), ⟨by decide +kernel, by decide +kernel⟩, by decide +kernel⟩
theorem yv_X11_isBlamable : Cond.instanceMethod yX11_isBlamable ∈ lw_good ∧ Cond.selects yX11_isBlamable.cls yX11_isBlamable yX11_isBlamable ∈ lw_good := ⟨(good_in (tb_5 (List.mem_of_getElem? (i := 206) rfl)) rfl), (good_in (List.mem_append_left _ (by decide +kernel)) rfl)⟩
theorem cl_X11_406 : Cond.classLink RX11 406 RX4 ∈ lw_good := (good_in (tb_5 (List.mem_of_getElem? (i := 214) rfl)) rfl)
theorem in1_X4 : Cond.instantiable RX4 6 ∈ lw_good := (good_in (tb_5 (List.mem_of_getElem? (i := 215) rfl)) rfl)
theorem in2_X4 : Cond.initialized RX4 ∈ lw_good := (good_in (tb_1 (List.mem_of_getElem? (i := 28) rfl)) rfl)
theorem lk_X11_412 : Lk RX11 412 yX4_init := Or.inl (good_in (tb_5 (List.mem_of_getElem? (i := 216) rfl)) rfl)
theorem yk_X4_init : Yk yX4_init cX4_init 2 none 1 := ⟨(good_in (tb_5 (List.mem_of_getElem? (i := 218) rfl)) rfl), (good_in (tb_1 (List.mem_of_getElem? (i := 28) rfl)) rfl), ⟨by decide +kernel, by decide +kernel⟩, by decide +kernel⟩
theorem yi_X4_init : Cond.instanceMethod yX4_init ∈ lw_good ∧ yX4_init.name = "<init>" := ⟨(good_in (tb_5 (List.mem_of_getElem? (i := 217) rfl)) rfl), rfl⟩
theorem lk_X11_414 : Lk RX11 414 yX4_readLines := Or.inl (good_in (tb_6 (List.mem_of_getElem? (i := 4) rfl)) rfl)
theorem yk_X4_readLines : Yk yX4_readLines cX4_readLines 1 none 0 := ⟨(good_in (tb_6 (List.mem_of_getElem? (i := 7) rfl)) rfl), (good_in (tb_1 (List.mem_of_getElem? (i := 28) rfl)) rfl), ⟨by decide +kernel, by decide +kernel⟩, by decide +kernel⟩
theorem yv_X4_readLines : Cond.instanceMethod yX4_readLines ∈ lw_good ∧ Cond.selects yX4_readLines.cls yX4_readLines yX4_readLines ∈ lw_good := ⟨(good_in (tb_6 (List.mem_of_getElem? (i := 5) rfl)) rfl), (good_in (tb_6 (List.mem_of_getElem? (i := 6) rfl)) rfl)⟩
theorem fp_X11_417 : Fp RX11 417 13 13 (.object "LeapNet$Program") := ⟨_, _, _, _, "LeapNet", kc_X11, by decide, rfl, Or.inl (good_in (tb_1 (List.mem_of_getElem? (i := 175) rfl)) rfl), Or.inl rfl, rfl⟩
theorem fl_X11_421 : Fl RX11 421 6 5 := kc_X4.fl (ref := "LeapNet$Program") (by decide) (Or.inr ⟨"LeapNet", (nw_in (tb_5 (List.mem_of_getElem? (i := 230) rfl)) rfl)⟩) (Or.inl rfl)
theorem kK_X11_448 : Cond.constant RX11 448 899990000 ∈ lw_good := (good_in (tb_6 (List.mem_of_getElem? (i := 62) rfl)) rfl)
theorem fl_X11_417 : Fl RX11 417 13 13 := kc_X11.fl (ref := "LeapNet") (by decide) (Or.inl (good_in (tb_1 (List.mem_of_getElem? (i := 175) rfl)) rfl)) (Or.inl rfl)
theorem lk_X11_424 : Lk RX11 424 yX11_runStatus := Or.inl (good_in (tb_6 (List.mem_of_getElem? (i := 58) rfl)) rfl)
theorem yk_X11_runStatus : Yk yX11_runStatus cX11_runStatus 3 (some .int) 2 := ⟨(good_in (tb_6 (List.mem_of_getElem? (i := 61) rfl)) rfl), (good_in (tb_1 (List.mem_of_getElem? (i := 1) rfl)) rfl), ⟨by decide +kernel, by decide +kernel⟩, by decide +kernel⟩
theorem yv_X11_runStatus : Cond.instanceMethod yX11_runStatus ∈ lw_good ∧ Cond.selects yX11_runStatus.cls yX11_runStatus yX11_runStatus ∈ lw_good := ⟨(good_in (tb_6 (List.mem_of_getElem? (i := 60) rfl)) rfl), (good_in (List.mem_append_left _ (by decide +kernel)) rfl)⟩
theorem fl_X11_60 : Fl RX11 60 13 14 := kc_X11.fl (ref := "LeapNet") (by decide) (Or.inl (good_in (tb_1 (List.mem_of_getElem? (i := 176) rfl)) rfl)) (Or.inl rfl)
theorem lk_X11_427 : Lk RX11 427 yX7_perform := Or.inl (good_in (tb_6 (List.mem_of_getElem? (i := 63) rfl)) rfl)
theorem yk_X7_perform : Yk yX7_perform cX7_perform 6 (some .int) 3 := ⟨(good_in (tb_6 (List.mem_of_getElem? (i := 66) rfl)) rfl), (good_in (tb_1 (List.mem_of_getElem? (i := 6) rfl)) rfl), ⟨by decide +kernel, by decide +kernel⟩, by decide +kernel⟩
theorem yv_X7_perform : Cond.instanceMethod yX7_perform ∈ lw_good ∧ Cond.selects yX7_perform.cls yX7_perform yX7_perform ∈ lw_good := ⟨(good_in (tb_6 (List.mem_of_getElem? (i := 64) rfl)) rfl), (good_in (tb_6 (List.mem_of_getElem? (i := 65) rfl)) rfl)⟩
theorem fl_X11_431 : Fl RX11 431 9 1 := kc_X7.fl (ref := "LeapNet$Run") (by decide) (Or.inr ⟨"LeapNet", (nw_in (tb_1 (List.mem_of_getElem? (i := 110) rfl)) rfl)⟩) (Or.inl rfl)
theorem fl_X11_439 : Fl RX11 439 9 7 := kc_X7.fl (ref := "LeapNet$Run") (by decide) (Or.inr ⟨"LeapNet", (nw_in (tb_1 (List.mem_of_getElem? (i := 119) rfl)) rfl)⟩) (Or.inl rfl)
theorem fl_X11_436 : Fl RX11 436 9 6 := kc_X7.fl (ref := "LeapNet$Run") (by decide) (Or.inr ⟨"LeapNet", (nw_in (tb_1 (List.mem_of_getElem? (i := 117) rfl)) rfl)⟩) (Or.inl rfl)
theorem fl_X11_434 : Fl RX11 434 9 3 := kc_X7.fl (ref := "LeapNet$Run") (by decide) (Or.inr ⟨"LeapNet", (nw_in (tb_1 (List.mem_of_getElem? (i := 113) rfl)) rfl)⟩) (Or.inl rfl)
theorem lk_X11_442 : Lk RX11 442 yX7_hasKept := Or.inl (good_in (tb_6 (List.mem_of_getElem? (i := 109) rfl)) rfl)
theorem yk_X7_hasKept : Yk yX7_hasKept cX7_hasKept 2 (some .boolean) 1 := ⟨(good_in (tb_6 (List.mem_of_getElem? (i := 112) rfl)) rfl), (good_in (tb_1 (List.mem_of_getElem? (i := 6) rfl)) rfl), ⟨by decide +kernel, by decide +kernel⟩, by decide +kernel⟩
theorem yv_X7_hasKept : Cond.instanceMethod yX7_hasKept ∈ lw_good ∧ Cond.selects yX7_hasKept.cls yX7_hasKept yX7_hasKept ∈ lw_good := ⟨(good_in (tb_6 (List.mem_of_getElem? (i := 110) rfl)) rfl), (good_in (tb_6 (List.mem_of_getElem? (i := 111) rfl)) rfl)⟩
theorem fl_X11_445 : Fl RX11 445 9 8 := kc_X7.fl (ref := "LeapNet$Run") (by decide) (Or.inr ⟨"LeapNet", (nw_in (tb_1 (List.mem_of_getElem? (i := 121) rfl)) rfl)⟩) (Or.inl rfl)
theorem kJ_X11_496 : Cond.constantLong RX11 496 (-1000000) ∈ lw_good := (good_in (tb_6 (List.mem_of_getElem? (i := 124) rfl)) rfl)
theorem kJ_X11_498 : Cond.constantLong RX11 498 1000000 ∈ lw_good := (good_in (tb_6 (List.mem_of_getElem? (i := 125) rfl)) rfl)
theorem lk_X11_449 : Lk RX11 449 yX11_rowsStatus := Or.inl (good_in (tb_6 (List.mem_of_getElem? (i := 117) rfl)) rfl)
theorem yk_X11_rowsStatus : Yk yX11_rowsStatus cX11_rowsStatus 5 (some .int) 4 := ⟨(good_in (tb_6 (List.mem_of_getElem? (i := 120) rfl)) rfl), (good_in (tb_1 (List.mem_of_getElem? (i := 1) rfl)) rfl), ⟨by decide +kernel, by decide +kernel⟩, by decide +kernel⟩
theorem yv_X11_rowsStatus : Cond.instanceMethod yX11_rowsStatus ∈ lw_good ∧ Cond.selects yX11_rowsStatus.cls yX11_rowsStatus yX11_rowsStatus ∈ lw_good := ⟨(good_in (tb_6 (List.mem_of_getElem? (i := 119) rfl)) rfl), (good_in (List.mem_append_left _ (by decide +kernel)) rfl)⟩
theorem lk_X11_453 : Lk RX11 453 yX11_areAnswers := Or.inl (good_in (tb_6 (List.mem_of_getElem? (i := 121) rfl)) rfl)
theorem yk_X11_areAnswers : Yk yX11_areAnswers cX11_areAnswers 4 (some .boolean) 3 := ⟨(good_in (tb_6 (List.mem_of_getElem? (i := 123) rfl)) rfl), (good_in (tb_1 (List.mem_of_getElem? (i := 1) rfl)) rfl), ⟨by decide +kernel, by decide +kernel⟩, by decide +kernel⟩
theorem ys_X11_areAnswers : Cond.static yX11_areAnswers ∈ lw_good := (good_in (tb_6 (List.mem_of_getElem? (i := 122) rfl)) rfl)
theorem cl_X11_457 : Cond.classLink RX11 457 RX0 ∈ lw_good := (good_in (tb_6 (List.mem_of_getElem? (i := 126) rfl)) rfl)
theorem in1_X0 : Cond.instantiable RX0 6 ∈ lw_good := (good_in (tb_6 (List.mem_of_getElem? (i := 127) rfl)) rfl)
theorem in2_X0 : Cond.initialized RX0 ∈ lw_good := (good_in (tb_1 (List.mem_of_getElem? (i := 29) rfl)) rfl)
theorem lk_X11_459 : Lk RX11 459 yX0_init := Or.inl (good_in (tb_6 (List.mem_of_getElem? (i := 128) rfl)) rfl)
theorem yk_X0_init : Yk yX0_init cX0_init 4 none 3 := ⟨(good_in (tb_6 (List.mem_of_getElem? (i := 130) rfl)) rfl), (good_in (tb_1 (List.mem_of_getElem? (i := 29) rfl)) rfl), ⟨by decide +kernel, by decide +kernel⟩, by decide +kernel⟩
theorem yi_X0_init : Cond.instanceMethod yX0_init ∈ lw_good ∧ yX0_init.name = "<init>" := ⟨(good_in (tb_6 (List.mem_of_getElem? (i := 129) rfl)) rfl), rfl⟩
theorem fp_X11_462 : Fp RX11 462 13 15 (.object "LeapNet$Answers") := ⟨_, _, _, _, "LeapNet", kc_X11, by decide, rfl, Or.inl (good_in (tb_1 (List.mem_of_getElem? (i := 177) rfl)) rfl), Or.inl rfl, rfl⟩
theorem fl_X11_462 : Fl RX11 462 13 15 := kc_X11.fl (ref := "LeapNet") (by decide) (Or.inl (good_in (tb_1 (List.mem_of_getElem? (i := 177) rfl)) rfl)) (Or.inl rfl)
theorem lk_X11_466 : Lk RX11 466 yX0_agree := Or.inl (good_in (tb_6 (List.mem_of_getElem? (i := 157) rfl)) rfl)
theorem yk_X0_agree : Yk yX0_agree cX0_agree 2 none 0 := ⟨(good_in (tb_6 (List.mem_of_getElem? (i := 160) rfl)) rfl), (good_in (tb_1 (List.mem_of_getElem? (i := 29) rfl)) rfl), ⟨by decide +kernel, by decide +kernel⟩, by decide +kernel⟩
theorem yv_X0_agree : Cond.instanceMethod yX0_agree ∈ lw_good ∧ Cond.selects yX0_agree.cls yX0_agree yX0_agree ∈ lw_good := ⟨(good_in (tb_6 (List.mem_of_getElem? (i := 158) rfl)) rfl), (good_in (tb_6 (List.mem_of_getElem? (i := 159) rfl)) rfl)⟩
theorem fl_X11_469 : Fl RX11 469 2 3 := kc_X0.fl (ref := "LeapNet$Answers") (by decide) (Or.inr ⟨"LeapNet", (nw_in (tb_6 (List.mem_of_getElem? (i := 139) rfl)) rfl)⟩) (Or.inl rfl)
theorem fl_X11_475 : Fl RX11 475 2 5 := kc_X0.fl (ref := "LeapNet$Answers") (by decide) (Or.inr ⟨"LeapNet", (nw_in (tb_6 (List.mem_of_getElem? (i := 143) rfl)) rfl)⟩) (Or.inl rfl)
theorem fl_X11_472 : Fl RX11 472 2 4 := kc_X0.fl (ref := "LeapNet$Answers") (by decide) (Or.inr ⟨"LeapNet", (nw_in (tb_6 (List.mem_of_getElem? (i := 141) rfl)) rfl)⟩) (Or.inl rfl)
theorem fl_X11_478 : Fl RX11 478 2 2 := kc_X0.fl (ref := "LeapNet$Answers") (by decide) (Or.inr ⟨"LeapNet", (nw_in (tb_6 (List.mem_of_getElem? (i := 137) rfl)) rfl)⟩) (Or.inl rfl)
theorem lk_X11_481 : Lk RX11 481 yX0_isLie := Or.inl (good_in (tb_6 (List.mem_of_getElem? (i := 182) rfl)) rfl)
theorem yk_X0_isLie : Yk yX0_isLie cX0_isLie 3 (some .boolean) 1 := ⟨(good_in (tb_6 (List.mem_of_getElem? (i := 185) rfl)) rfl), (good_in (tb_1 (List.mem_of_getElem? (i := 29) rfl)) rfl), ⟨by decide +kernel, by decide +kernel⟩, by decide +kernel⟩
theorem yv_X0_isLie : Cond.instanceMethod yX0_isLie ∈ lw_good ∧ Cond.selects yX0_isLie.cls yX0_isLie yX0_isLie ∈ lw_good := ⟨(good_in (tb_6 (List.mem_of_getElem? (i := 183) rfl)) rfl), (good_in (tb_6 (List.mem_of_getElem? (i := 184) rfl)) rfl)⟩
theorem kJ_X11_500 : Cond.constantLong RX11 500 86400 ∈ lw_good := (good_in (tb_6 (List.mem_of_getElem? (i := 193) rfl)) rfl)
theorem lk_X11_502 : Lk RX11 502 yX11_thousandthsShown := Or.inl (good_in (tb_6 (List.mem_of_getElem? (i := 197) rfl)) rfl)
theorem lk_X11_484 : Lk RX11 484 yX11_areSeen := Or.inl (good_in (tb_6 (List.mem_of_getElem? (i := 190) rfl)) rfl)
theorem yk_X11_areSeen : Yk yX11_areSeen cX11_areSeen 4 (some .boolean) 3 := ⟨(good_in (tb_6 (List.mem_of_getElem? (i := 192) rfl)) rfl), (good_in (tb_1 (List.mem_of_getElem? (i := 1) rfl)) rfl), ⟨by decide +kernel, by decide +kernel⟩, by decide +kernel⟩
theorem ys_X11_areSeen : Cond.static yX11_areSeen ∈ lw_good := (good_in (tb_6 (List.mem_of_getElem? (i := 191) rfl)) rfl)
theorem fl_X11_64 : Fl RX11 64 13 16 := kc_X11.fl (ref := "LeapNet") (by decide) (Or.inl (good_in (tb_1 (List.mem_of_getElem? (i := 178) rfl)) rfl)) (Or.inl rfl)
theorem lk_X11_487 : Lk RX11 487 yX11_showsAll := Or.inl (good_in (tb_6 (List.mem_of_getElem? (i := 194) rfl)) rfl)
theorem yk_X11_showsAll : Yk yX11_showsAll cX11_showsAll 5 (some .boolean) 4 := ⟨(good_in (tb_6 (List.mem_of_getElem? (i := 196) rfl)) rfl), (good_in (tb_1 (List.mem_of_getElem? (i := 1) rfl)) rfl), ⟨by decide +kernel, by decide +kernel⟩, by decide +kernel⟩
theorem ys_X11_showsAll : Cond.static yX11_showsAll ∈ lw_good := (good_in (tb_6 (List.mem_of_getElem? (i := 195) rfl)) rfl)
theorem lk_X11_506 : Lk RX11 506 yX11_isShownByLower := Or.inl (good_in (tb_6 (List.mem_of_getElem? (i := 205) rfl)) rfl)
theorem yk_X11_isShownByLower : Yk yX11_isShownByLower cX11_isShownByLower 6 (some .boolean) 3 := ⟨(good_in (tb_6 (List.mem_of_getElem? (i := 207) rfl)) rfl), (good_in (tb_1 (List.mem_of_getElem? (i := 1) rfl)) rfl), ⟨by decide +kernel, by decide +kernel⟩, by decide +kernel⟩
theorem ys_X11_isShownByLower : Cond.static yX11_isShownByLower ∈ lw_good := (good_in (tb_6 (List.mem_of_getElem? (i := 206) rfl)) rfl)
theorem lk_X11_491 : Lk RX11 491 yX11_unlikeShown := Or.inl (good_in (tb_6 (List.mem_of_getElem? (i := 202) rfl)) rfl)
theorem yk_X11_unlikeShown : Yk yX11_unlikeShown cX11_unlikeShown 4 (some .int) 2 := ⟨(good_in (tb_6 (List.mem_of_getElem? (i := 204) rfl)) rfl), (good_in (tb_1 (List.mem_of_getElem? (i := 1) rfl)) rfl), ⟨by decide +kernel, by decide +kernel⟩, by decide +kernel⟩
theorem ys_X11_unlikeShown : Cond.static yX11_unlikeShown ∈ lw_good := (good_in (tb_6 (List.mem_of_getElem? (i := 203) rfl)) rfl)
theorem lk_X11_494 : Lk RX11 494 yJ9_max_7cf53 := Or.inl (good_in (tb_6 (List.mem_of_getElem? (i := 208) rfl)) rfl)
theorem lk_X11_512 : Lk RX11 512 yX11_isLand := Or.inl (good_in (tb_6 (List.mem_of_getElem? (i := 216) rfl)) rfl)
theorem yk_X11_isLand : Yk yX11_isLand cX11_isLand 1 (some .boolean) 1 := ⟨(good_in (tb_6 (List.mem_of_getElem? (i := 218) rfl)) rfl), (good_in (tb_1 (List.mem_of_getElem? (i := 1) rfl)) rfl), ⟨by decide +kernel, by decide +kernel⟩, by decide +kernel⟩
theorem ys_X11_isLand : Cond.static yX11_isLand ∈ lw_good := (good_in (tb_6 (List.mem_of_getElem? (i := 217) rfl)) rfl)
theorem lk_X11_509 : Lk RX11 509 yX11_newLandStatus := Or.inl (good_in (tb_6 (List.mem_of_getElem? (i := 213) rfl)) rfl)
theorem yk_X11_newLandStatus : Yk yX11_newLandStatus cX11_newLandStatus 5 (some .int) 4 := ⟨(good_in (tb_6 (List.mem_of_getElem? (i := 215) rfl)) rfl), (good_in (tb_1 (List.mem_of_getElem? (i := 1) rfl)) rfl), ⟨by decide +kernel, by decide +kernel⟩, by decide +kernel⟩
theorem ys_X11_newLandStatus : Cond.static yX11_newLandStatus ∈ lw_good := (good_in (tb_6 (List.mem_of_getElem? (i := 214) rfl)) rfl)
theorem fl_X11_515 : Fl RX11 515 4 0 := kc_X2.fl (ref := "LeapNet$Land") (by decide) (Or.inr ⟨"LeapNet", (nw_in (tb_1 (List.mem_of_getElem? (i := 152) rfl)) rfl)⟩) (Or.inl rfl)
theorem lk_X11_518 : Lk RX11 518 yX2_localOf := Or.inl (good_in (tb_6 (List.mem_of_getElem? (i := 223) rfl)) rfl)
theorem lk_X11_521 : Lk RX11 521 yX2_timesOf := Or.inl (good_in (tb_6 (List.mem_of_getElem? (i := 239) rfl)) rfl)
theorem yk_X2_timesOf : Yk yX2_timesOf cX2_timesOf 4 (some .int) 1 := ⟨(good_in (tb_7 (List.mem_of_getElem? (i := 2) rfl)) rfl), (good_in (tb_1 (List.mem_of_getElem? (i := 7) rfl)) rfl), ⟨by decide +kernel, by decide +kernel⟩, by decide +kernel⟩
theorem yv_X2_timesOf : Cond.instanceMethod yX2_timesOf ∈ lw_good ∧ Cond.selects yX2_timesOf.cls yX2_timesOf yX2_timesOf ∈ lw_good := ⟨(good_in (tb_7 (List.mem_of_getElem? (i := 0) rfl)) rfl), (good_in (tb_7 (List.mem_of_getElem? (i := 1) rfl)) rfl)⟩
theorem oi_X12_3 : Cond.methodLink RX12 3 Lib.objectInit ∈ lw_good := (good_in (tb_7 (List.mem_of_getElem? (i := 9) rfl)) rfl)
theorem ff_X12_9 : Ff RX12 9 14 2 (.array .int) := ⟨_, _, _, _, "LeapNetModel", kc_X12, by decide, rfl, (good_in (tb_7 (List.mem_of_getElem? (i := 12) rfl)) rfl), rfl, rfl, rfl⟩
theorem ff_X12_13 : Ff RX12 13 14 3 (.array .int) := ⟨_, _, _, _, "LeapNetModel", kc_X12, by decide, rfl, (good_in (tb_7 (List.mem_of_getElem? (i := 13) rfl)) rfl), rfl, rfl, rfl⟩
theorem ff_X12_16 : Ff RX12 16 14 4 (.array .long) := ⟨_, _, _, _, "LeapNetModel", kc_X12, by decide, rfl, (good_in (tb_7 (List.mem_of_getElem? (i := 14) rfl)) rfl), rfl, rfl, rfl⟩
theorem ff_X12_20 : Ff RX12 20 14 7 (.array .int) := ⟨_, _, _, _, "LeapNetModel", kc_X12, by decide, rfl, (good_in (tb_7 (List.mem_of_getElem? (i := 17) rfl)) rfl), rfl, rfl, rfl⟩
theorem ff_X12_23 : Ff RX12 23 14 8 (.array .int) := ⟨_, _, _, _, "LeapNetModel", kc_X12, by decide, rfl, (good_in (tb_7 (List.mem_of_getElem? (i := 18) rfl)) rfl), rfl, rfl, rfl⟩
theorem ff_X12_26 : Ff RX12 26 14 9 (.array .int) := ⟨_, _, _, _, "LeapNetModel", kc_X12, by decide, rfl, (good_in (tb_7 (List.mem_of_getElem? (i := 19) rfl)) rfl), rfl, rfl, rfl⟩
theorem ff_X12_29 : Ff RX12 29 14 10 (.array .int) := ⟨_, _, _, _, "LeapNetModel", kc_X12, by decide, rfl, (good_in (tb_7 (List.mem_of_getElem? (i := 20) rfl)) rfl), rfl, rfl, rfl⟩
theorem ff_X12_32 : Ff RX12 32 14 13 (.array .int) := ⟨_, _, _, _, "LeapNetModel", kc_X12, by decide, rfl, (good_in (tb_7 (List.mem_of_getElem? (i := 23) rfl)) rfl), rfl, rfl, rfl⟩
theorem ff_X12_35 : Ff RX12 35 14 14 (.array .int) := ⟨_, _, _, _, "LeapNetModel", kc_X12, by decide, rfl, (good_in (tb_7 (List.mem_of_getElem? (i := 24) rfl)) rfl), rfl, rfl, rfl⟩
theorem ff_X12_38 : Ff RX12 38 14 15 (.array .int) := ⟨_, _, _, _, "LeapNetModel", kc_X12, by decide, rfl, (good_in (tb_7 (List.mem_of_getElem? (i := 25) rfl)) rfl), rfl, rfl, rfl⟩
theorem ff_X12_41 : Ff RX12 41 14 16 (.array .byte) := ⟨_, _, _, _, "LeapNetModel", kc_X12, by decide, rfl, (good_in (tb_7 (List.mem_of_getElem? (i := 26) rfl)) rfl), rfl, rfl, rfl⟩
theorem fp_X12_45 : Fp RX12 45 14 19 .int := ⟨_, _, _, _, "LeapNetModel", kc_X12, by decide, rfl, Or.inl (good_in (tb_7 (List.mem_of_getElem? (i := 29) rfl)) rfl), Or.inl rfl, rfl⟩
theorem fp_X12_49 : Fp RX12 49 14 20 .int := ⟨_, _, _, _, "LeapNetModel", kc_X12, by decide, rfl, Or.inl (good_in (tb_7 (List.mem_of_getElem? (i := 30) rfl)) rfl), Or.inl rfl, rfl⟩
theorem ff_X12_52 : Ff RX12 52 14 33 (.array .int) := ⟨_, _, _, _, "LeapNetModel", kc_X12, by decide, rfl, (good_in (tb_7 (List.mem_of_getElem? (i := 43) rfl)) rfl), rfl, rfl, rfl⟩
theorem ff_X12_55 : Ff RX12 55 14 34 (.array .int) := ⟨_, _, _, _, "LeapNetModel", kc_X12, by decide, rfl, (good_in (tb_7 (List.mem_of_getElem? (i := 44) rfl)) rfl), rfl, rfl, rfl⟩
theorem ff_X12_58 : Ff RX12 58 14 35 (.array .int) := ⟨_, _, _, _, "LeapNetModel", kc_X12, by decide, rfl, (good_in (tb_7 (List.mem_of_getElem? (i := 45) rfl)) rfl), rfl, rfl, rfl⟩
theorem ff_X12_61 : Ff RX12 61 14 36 (.array .int) := ⟨_, _, _, _, "LeapNetModel", kc_X12, by decide, rfl, (good_in (tb_7 (List.mem_of_getElem? (i := 46) rfl)) rfl), rfl, rfl, rfl⟩
theorem ff_X12_64 : Ff RX12 64 14 37 (.array .int) := ⟨_, _, _, _, "LeapNetModel", kc_X12, by decide, rfl, (good_in (tb_7 (List.mem_of_getElem? (i := 47) rfl)) rfl), rfl, rfl, rfl⟩
theorem ff_X12_67 : Ff RX12 67 14 38 (.array .int) := ⟨_, _, _, _, "LeapNetModel", kc_X12, by decide, rfl, (good_in (tb_7 (List.mem_of_getElem? (i := 48) rfl)) rfl), rfl, rfl, rfl⟩
theorem ff_X12_70 : Ff RX12 70 14 39 (.array .long) := ⟨_, _, _, _, "LeapNetModel", kc_X12, by decide, rfl, (good_in (tb_7 (List.mem_of_getElem? (i := 49) rfl)) rfl), rfl, rfl, rfl⟩
theorem ff_X12_73 : Ff RX12 73 14 40 (.array .long) := ⟨_, _, _, _, "LeapNetModel", kc_X12, by decide, rfl, (good_in (tb_7 (List.mem_of_getElem? (i := 50) rfl)) rfl), rfl, rfl, rfl⟩
theorem ff_X12_76 : Ff RX12 76 14 41 (.array .long) := ⟨_, _, _, _, "LeapNetModel", kc_X12, by decide, rfl, (good_in (tb_7 (List.mem_of_getElem? (i := 51) rfl)) rfl), rfl, rfl, rfl⟩
theorem ff_X12_79 : Ff RX12 79 14 42 (.array .long) := ⟨_, _, _, _, "LeapNetModel", kc_X12, by decide, rfl, (good_in (tb_7 (List.mem_of_getElem? (i := 52) rfl)) rfl), rfl, rfl, rfl⟩
theorem ff_X12_82 : Ff RX12 82 14 43 (.array .long) := ⟨_, _, _, _, "LeapNetModel", kc_X12, by decide, rfl, (good_in (tb_7 (List.mem_of_getElem? (i := 53) rfl)) rfl), rfl, rfl, rfl⟩
theorem ff_X12_85 : Ff RX12 85 14 44 (.array .boolean) := ⟨_, _, _, _, "LeapNetModel", kc_X12, by decide, rfl, (good_in (tb_7 (List.mem_of_getElem? (i := 54) rfl)) rfl), rfl, rfl, rfl⟩
theorem ff_X12_89 : Ff RX12 89 14 45 (.array .boolean) := ⟨_, _, _, _, "LeapNetModel", kc_X12, by decide, rfl, (good_in (tb_7 (List.mem_of_getElem? (i := 55) rfl)) rfl), rfl, rfl, rfl⟩
theorem ff_X12_92 : Ff RX12 92 14 50 (.array .int) := ⟨_, _, _, _, "LeapNetModel", kc_X12, by decide, rfl, (good_in (tb_7 (List.mem_of_getElem? (i := 60) rfl)) rfl), rfl, rfl, rfl⟩
theorem ff_X12_95 : Ff RX12 95 14 51 (.array .int) := ⟨_, _, _, _, "LeapNetModel", kc_X12, by decide, rfl, (good_in (tb_7 (List.mem_of_getElem? (i := 61) rfl)) rfl), rfl, rfl, rfl⟩
theorem ff_X12_98 : Ff RX12 98 14 52 (.array .int) := ⟨_, _, _, _, "LeapNetModel", kc_X12, by decide, rfl, (good_in (tb_7 (List.mem_of_getElem? (i := 62) rfl)) rfl), rfl, rfl, rfl⟩
theorem ff_X12_101 : Ff RX12 101 14 53 (.array .int) := ⟨_, _, _, _, "LeapNetModel", kc_X12, by decide, rfl, (good_in (tb_7 (List.mem_of_getElem? (i := 63) rfl)) rfl), rfl, rfl, rfl⟩
theorem ff_X12_104 : Ff RX12 104 14 54 (.array .int) := ⟨_, _, _, _, "LeapNetModel", kc_X12, by decide, rfl, (good_in (tb_7 (List.mem_of_getElem? (i := 64) rfl)) rfl), rfl, rfl, rfl⟩
theorem ff_X12_107 : Ff RX12 107 14 55 (.array .int) := ⟨_, _, _, _, "LeapNetModel", kc_X12, by decide, rfl, (good_in (tb_7 (List.mem_of_getElem? (i := 65) rfl)) rfl), rfl, rfl, rfl⟩
theorem ff_X12_110 : Ff RX12 110 14 58 (.array .int) := ⟨_, _, _, _, "LeapNetModel", kc_X12, by decide, rfl, (good_in (tb_7 (List.mem_of_getElem? (i := 68) rfl)) rfl), rfl, rfl, rfl⟩
theorem ff_X12_113 : Ff RX12 113 14 59 (.array .int) := ⟨_, _, _, _, "LeapNetModel", kc_X12, by decide, rfl, (good_in (tb_7 (List.mem_of_getElem? (i := 69) rfl)) rfl), rfl, rfl, rfl⟩
theorem ff_X12_116 : Ff RX12 116 14 60 (.array .long) := ⟨_, _, _, _, "LeapNetModel", kc_X12, by decide, rfl, (good_in (tb_7 (List.mem_of_getElem? (i := 70) rfl)) rfl), rfl, rfl, rfl⟩
theorem fp_X12_119 : Fp RX12 119 14 61 .int := ⟨_, _, _, _, "LeapNetModel", kc_X12, by decide, rfl, Or.inl (good_in (tb_7 (List.mem_of_getElem? (i := 71) rfl)) rfl), Or.inl rfl, rfl⟩
theorem fp_X12_122 : Fp RX12 122 14 68 .int := ⟨_, _, _, _, "LeapNetModel", kc_X12, by decide, rfl, Or.inl (good_in (tb_7 (List.mem_of_getElem? (i := 78) rfl)) rfl), Or.inl rfl, rfl⟩
theorem ff_X12_125 : Ff RX12 125 14 72 (.array .int) := ⟨_, _, _, _, "LeapNetModel", kc_X12, by decide, rfl, (good_in (tb_7 (List.mem_of_getElem? (i := 82) rfl)) rfl), rfl, rfl, rfl⟩
theorem ff_X12_128 : Ff RX12 128 14 73 (.array .int) := ⟨_, _, _, _, "LeapNetModel", kc_X12, by decide, rfl, (good_in (tb_7 (List.mem_of_getElem? (i := 83) rfl)) rfl), rfl, rfl, rfl⟩
theorem ff_X12_131 : Ff RX12 131 14 74 (.array .int) := ⟨_, _, _, _, "LeapNetModel", kc_X12, by decide, rfl, (good_in (tb_7 (List.mem_of_getElem? (i := 84) rfl)) rfl), rfl, rfl, rfl⟩
theorem ff_X12_134 : Ff RX12 134 14 75 (.array .int) := ⟨_, _, _, _, "LeapNetModel", kc_X12, by decide, rfl, (good_in (tb_7 (List.mem_of_getElem? (i := 85) rfl)) rfl), rfl, rfl, rfl⟩
theorem ff_X12_137 : Ff RX12 137 14 76 (.array .int) := ⟨_, _, _, _, "LeapNetModel", kc_X12, by decide, rfl, (good_in (tb_7 (List.mem_of_getElem? (i := 86) rfl)) rfl), rfl, rfl, rfl⟩
theorem ff_X12_140 : Ff RX12 140 14 77 (.array .int) := ⟨_, _, _, _, "LeapNetModel", kc_X12, by decide, rfl, (good_in (tb_7 (List.mem_of_getElem? (i := 87) rfl)) rfl), rfl, rfl, rfl⟩
theorem ff_X12_143 : Ff RX12 143 14 78 (.array .long) := ⟨_, _, _, _, "LeapNetModel", kc_X12, by decide, rfl, (good_in (tb_7 (List.mem_of_getElem? (i := 88) rfl)) rfl), rfl, rfl, rfl⟩
theorem ff_X12_146 : Ff RX12 146 14 79 (.array .long) := ⟨_, _, _, _, "LeapNetModel", kc_X12, by decide, rfl, (good_in (tb_7 (List.mem_of_getElem? (i := 89) rfl)) rfl), rfl, rfl, rfl⟩
theorem ff_X12_149 : Ff RX12 149 14 80 (.array .int) := ⟨_, _, _, _, "LeapNetModel", kc_X12, by decide, rfl, (good_in (tb_7 (List.mem_of_getElem? (i := 90) rfl)) rfl), rfl, rfl, rfl⟩
theorem ff_X12_152 : Ff RX12 152 14 81 (.array .int) := ⟨_, _, _, _, "LeapNetModel", kc_X12, by decide, rfl, (good_in (tb_7 (List.mem_of_getElem? (i := 91) rfl)) rfl), rfl, rfl, rfl⟩
theorem ff_X12_155 : Ff RX12 155 14 82 (.array .int) := ⟨_, _, _, _, "LeapNetModel", kc_X12, by decide, rfl, (good_in (tb_7 (List.mem_of_getElem? (i := 92) rfl)) rfl), rfl, rfl, rfl⟩
theorem ff_X12_158 : Ff RX12 158 14 83 (.array .int) := ⟨_, _, _, _, "LeapNetModel", kc_X12, by decide, rfl, (good_in (tb_7 (List.mem_of_getElem? (i := 93) rfl)) rfl), rfl, rfl, rfl⟩
theorem ff_X12_161 : Ff RX12 161 14 84 (.array .int) := ⟨_, _, _, _, "LeapNetModel", kc_X12, by decide, rfl, (good_in (tb_7 (List.mem_of_getElem? (i := 94) rfl)) rfl), rfl, rfl, rfl⟩
theorem ff_X12_164 : Ff RX12 164 14 85 (.array .int) := ⟨_, _, _, _, "LeapNetModel", kc_X12, by decide, rfl, (good_in (tb_7 (List.mem_of_getElem? (i := 95) rfl)) rfl), rfl, rfl, rfl⟩
theorem ff_X12_167 : Ff RX12 167 14 86 (.array .int) := ⟨_, _, _, _, "LeapNetModel", kc_X12, by decide, rfl, (good_in (tb_7 (List.mem_of_getElem? (i := 96) rfl)) rfl), rfl, rfl, rfl⟩
theorem fp_X12_170 : Fp RX12 170 14 91 .int := ⟨_, _, _, _, "LeapNetModel", kc_X12, by decide, rfl, Or.inl (good_in (tb_7 (List.mem_of_getElem? (i := 101) rfl)) rfl), Or.inl rfl, rfl⟩
theorem ff_X12_173 : Ff RX12 173 14 94 (.array .int) := ⟨_, _, _, _, "LeapNetModel", kc_X12, by decide, rfl, (good_in (tb_7 (List.mem_of_getElem? (i := 104) rfl)) rfl), rfl, rfl, rfl⟩
theorem ff_X12_176 : Ff RX12 176 14 95 (.array .int) := ⟨_, _, _, _, "LeapNetModel", kc_X12, by decide, rfl, (good_in (tb_7 (List.mem_of_getElem? (i := 105) rfl)) rfl), rfl, rfl, rfl⟩
theorem ff_X12_179 : Ff RX12 179 14 97 (.array .int) := ⟨_, _, _, _, "LeapNetModel", kc_X12, by decide, rfl, (good_in (tb_7 (List.mem_of_getElem? (i := 107) rfl)) rfl), rfl, rfl, rfl⟩
theorem ff_X12_182 : Ff RX12 182 14 98 (.array .int) := ⟨_, _, _, _, "LeapNetModel", kc_X12, by decide, rfl, (good_in (tb_7 (List.mem_of_getElem? (i := 108) rfl)) rfl), rfl, rfl, rfl⟩
theorem ff_X12_185 : Ff RX12 185 14 99 (.array .long) := ⟨_, _, _, _, "LeapNetModel", kc_X12, by decide, rfl, (good_in (tb_7 (List.mem_of_getElem? (i := 109) rfl)) rfl), rfl, rfl, rfl⟩
theorem ff_X12_188 : Ff RX12 188 14 100 (.array .long) := ⟨_, _, _, _, "LeapNetModel", kc_X12, by decide, rfl, (good_in (tb_7 (List.mem_of_getElem? (i := 110) rfl)) rfl), rfl, rfl, rfl⟩
theorem ff_X12_191 : Ff RX12 191 14 102 (.array .int) := ⟨_, _, _, _, "LeapNetModel", kc_X12, by decide, rfl, (good_in (tb_7 (List.mem_of_getElem? (i := 112) rfl)) rfl), rfl, rfl, rfl⟩
theorem ff_X12_194 : Ff RX12 194 14 103 (.array .int) := ⟨_, _, _, _, "LeapNetModel", kc_X12, by decide, rfl, (good_in (tb_7 (List.mem_of_getElem? (i := 113) rfl)) rfl), rfl, rfl, rfl⟩
theorem ff_X12_197 : Ff RX12 197 14 104 (.array .int) := ⟨_, _, _, _, "LeapNetModel", kc_X12, by decide, rfl, (good_in (tb_7 (List.mem_of_getElem? (i := 114) rfl)) rfl), rfl, rfl, rfl⟩
theorem fl_X12_13 : Fl RX12 13 14 3 := kc_X12.fl (ref := "LeapNetModel") (by decide) (Or.inl (good_in (tb_7 (List.mem_of_getElem? (i := 13) rfl)) rfl)) (Or.inl rfl)
theorem fp_X12_200 : Fp RX12 200 14 1 .int := ⟨_, _, _, _, "LeapNetModel", kc_X12, by decide, rfl, Or.inl (good_in (tb_7 (List.mem_of_getElem? (i := 11) rfl)) rfl), Or.inl rfl, rfl⟩
theorem fl_X12_203 : Fl RX12 203 14 0 := kc_X12.fl (ref := "LeapNetModel") (by decide) (Or.inl (good_in (tb_7 (List.mem_of_getElem? (i := 10) rfl)) rfl)) (Or.inl rfl)
theorem fp_X12_203 : Fp RX12 203 14 0 .int := ⟨_, _, _, _, "LeapNetModel", kc_X12, by decide, rfl, Or.inl (good_in (tb_7 (List.mem_of_getElem? (i := 10) rfl)) rfl), Or.inl rfl, rfl⟩
theorem kJ_X12_206 : Cond.constantLong RX12 206 9999 ∈ lw_good := (good_in (tb_8 (List.mem_of_getElem? (i := 132) rfl)) rfl)
theorem lk_X12_208 : Lk RX12 208 yX12_isIn := Or.inl (good_in (tb_8 (List.mem_of_getElem? (i := 133) rfl)) rfl)
theorem yk_X12_isIn : Yk yX12_isIn cX12_isIn 6 (some .boolean) 3 := ⟨(good_in (tb_8 (List.mem_of_getElem? (i := 135) rfl)) rfl), (good_in (tb_1 (List.mem_of_getElem? (i := 8) rfl)) rfl), ⟨by decide +kernel, by decide +kernel⟩, by decide +kernel⟩
theorem ys_X12_isIn : Cond.static yX12_isIn ∈ lw_good := (good_in (tb_8 (List.mem_of_getElem? (i := 134) rfl)) rfl)
theorem kJ_X12_212 : Cond.constantLong RX12 212 900000000 ∈ lw_good := (good_in (tb_8 (List.mem_of_getElem? (i := 144) rfl)) rfl)
theorem lk_X12_214 : Lk RX12 214 yX12_no := Or.inl (good_in (tb_8 (List.mem_of_getElem? (i := 97) rfl)) rfl)
theorem yk_X12_no : Yk yX12_no cX12_no 2 (some .boolean) 1 := ⟨(good_in (tb_8 (List.mem_of_getElem? (i := 100) rfl)) rfl), (good_in (tb_1 (List.mem_of_getElem? (i := 8) rfl)) rfl), ⟨by decide +kernel, by decide +kernel⟩, by decide +kernel⟩
theorem yv_X12_no : Cond.instanceMethod yX12_no ∈ lw_good ∧ Cond.selects yX12_no.cls yX12_no yX12_no ∈ lw_good := ⟨(good_in (tb_8 (List.mem_of_getElem? (i := 99) rfl)) rfl), (good_in (List.mem_append_left _ (by decide +kernel)) rfl)⟩
theorem fl_X12_9 : Fl RX12 9 14 2 := kc_X12.fl (ref := "LeapNetModel") (by decide) (Or.inl (good_in (tb_7 (List.mem_of_getElem? (i := 12) rfl)) rfl)) (Or.inl rfl)
theorem fl_X12_16 : Fl RX12 16 14 4 := kc_X12.fl (ref := "LeapNetModel") (by decide) (Or.inl (good_in (tb_7 (List.mem_of_getElem? (i := 14) rfl)) rfl)) (Or.inl rfl)
theorem lk_X12_218 : Lk RX12 218 yX12_trayed := Or.inl (good_in (tb_8 (List.mem_of_getElem? (i := 109) rfl)) rfl)
theorem yk_X12_trayed : Yk yX12_trayed cX12_trayed 2 (some .int) 1 := ⟨(good_in (tb_8 (List.mem_of_getElem? (i := 112) rfl)) rfl), (good_in (tb_1 (List.mem_of_getElem? (i := 8) rfl)) rfl), ⟨by decide +kernel, by decide +kernel⟩, by decide +kernel⟩
theorem yv_X12_trayed : Cond.instanceMethod yX12_trayed ∈ lw_good ∧ Cond.selects yX12_trayed.cls yX12_trayed yX12_trayed ∈ lw_good := ⟨(good_in (tb_8 (List.mem_of_getElem? (i := 111) rfl)) rfl), (good_in (List.mem_append_left _ (by decide +kernel)) rfl)⟩
theorem lk_X12_222 : Lk RX12 222 yX12_placed := Or.inl (good_in (tb_8 (List.mem_of_getElem? (i := 105) rfl)) rfl)
theorem yk_X12_placed : Yk yX12_placed cX12_placed 4 (some .int) 2 := ⟨(good_in (tb_8 (List.mem_of_getElem? (i := 108) rfl)) rfl), (good_in (tb_1 (List.mem_of_getElem? (i := 8) rfl)) rfl), ⟨by decide +kernel, by decide +kernel⟩, by decide +kernel⟩
theorem yv_X12_placed : Cond.instanceMethod yX12_placed ∈ lw_good ∧ Cond.selects yX12_placed.cls yX12_placed yX12_placed ∈ lw_good := ⟨(good_in (tb_8 (List.mem_of_getElem? (i := 107) rfl)) rfl), (good_in (List.mem_append_left _ (by decide +kernel)) rfl)⟩
theorem lk_X12_226 : Lk RX12 226 yX12_cut := Or.inl (good_in (tb_8 (List.mem_of_getElem? (i := 113) rfl)) rfl)
theorem yk_X12_cut : Yk yX12_cut cX12_cut 3 (some .long) 2 := ⟨(good_in (tb_8 (List.mem_of_getElem? (i := 115) rfl)) rfl), (good_in (tb_1 (List.mem_of_getElem? (i := 8) rfl)) rfl), ⟨by decide +kernel, by decide +kernel⟩, by decide +kernel⟩
theorem ys_X12_cut : Cond.static yX12_cut ∈ lw_good := (good_in (tb_8 (List.mem_of_getElem? (i := 114) rfl)) rfl)
theorem kJ_X12_230 : Cond.constantLong RX12 230 (-1) ∈ lw_good := (good_in (tb_8 (List.mem_of_getElem? (i := 120) rfl)) rfl)
theorem fl_X12_232 : Fl RX12 232 14 5 := kc_X12.fl (ref := "LeapNetModel") (by decide) (Or.inl (good_in (tb_7 (List.mem_of_getElem? (i := 15) rfl)) rfl)) (Or.inl rfl)
theorem fl_X12_20 : Fl RX12 20 14 7 := kc_X12.fl (ref := "LeapNetModel") (by decide) (Or.inl (good_in (tb_7 (List.mem_of_getElem? (i := 17) rfl)) rfl)) (Or.inl rfl)
theorem fl_X12_23 : Fl RX12 23 14 8 := kc_X12.fl (ref := "LeapNetModel") (by decide) (Or.inl (good_in (tb_7 (List.mem_of_getElem? (i := 18) rfl)) rfl)) (Or.inl rfl)
theorem fp_X12_235 : Fp RX12 235 14 6 .int := ⟨_, _, _, _, "LeapNetModel", kc_X12, by decide, rfl, Or.inl (good_in (tb_7 (List.mem_of_getElem? (i := 16) rfl)) rfl), Or.inl rfl, rfl⟩
theorem fl_X12_26 : Fl RX12 26 14 9 := kc_X12.fl (ref := "LeapNetModel") (by decide) (Or.inl (good_in (tb_7 (List.mem_of_getElem? (i := 19) rfl)) rfl)) (Or.inl rfl)
theorem fl_X12_29 : Fl RX12 29 14 10 := kc_X12.fl (ref := "LeapNetModel") (by decide) (Or.inl (good_in (tb_7 (List.mem_of_getElem? (i := 20) rfl)) rfl)) (Or.inl rfl)
theorem fl_X12_235 : Fl RX12 235 14 6 := kc_X12.fl (ref := "LeapNetModel") (by decide) (Or.inl (good_in (tb_7 (List.mem_of_getElem? (i := 16) rfl)) rfl)) (Or.inl rfl)
theorem kJ_X12_238 : Cond.constantLong RX12 238 86400 ∈ lw_good := (good_in (tb_8 (List.mem_of_getElem? (i := 157) rfl)) rfl)
theorem lk_X12_240 : Lk RX12 240 yX12_beginOf := Or.inl (good_in (tb_8 (List.mem_of_getElem? (i := 158) rfl)) rfl)
theorem yk_X12_beginOf : Yk yX12_beginOf cX12_beginOf 5 (some .long) 1 := ⟨(good_in (tb_8 (List.mem_of_getElem? (i := 161) rfl)) rfl), (good_in (tb_1 (List.mem_of_getElem? (i := 8) rfl)) rfl), ⟨by decide +kernel, by decide +kernel⟩, by decide +kernel⟩
theorem yv_X12_beginOf : Cond.instanceMethod yX12_beginOf ∈ lw_good ∧ Cond.selects yX12_beginOf.cls yX12_beginOf yX12_beginOf ∈ lw_good := ⟨(good_in (tb_8 (List.mem_of_getElem? (i := 160) rfl)) rfl), (good_in (List.mem_append_left _ (by decide +kernel)) rfl)⟩
theorem fp_X12_244 : Fp RX12 244 14 92 .int := ⟨_, _, _, _, "LeapNetModel", kc_X12, by decide, rfl, Or.inl (good_in (tb_7 (List.mem_of_getElem? (i := 102) rfl)) rfl), Or.inl rfl, rfl⟩
theorem fp_X12_247 : Fp RX12 247 14 93 .int := ⟨_, _, _, _, "LeapNetModel", kc_X12, by decide, rfl, Or.inl (good_in (tb_7 (List.mem_of_getElem? (i := 103) rfl)) rfl), Or.inl rfl, rfl⟩
theorem lk_X12_250 : Lk RX12 250 yX12_isDay := Or.inl (good_in (tb_8 (List.mem_of_getElem? (i := 129) rfl)) rfl)
theorem yk_X12_isDay : Yk yX12_isDay cX12_isDay 1 (some .boolean) 1 := ⟨(good_in (tb_8 (List.mem_of_getElem? (i := 131) rfl)) rfl), (good_in (tb_1 (List.mem_of_getElem? (i := 8) rfl)) rfl), ⟨by decide +kernel, by decide +kernel⟩, by decide +kernel⟩
theorem ys_X12_isDay : Cond.static yX12_isDay ∈ lw_good := (good_in (tb_8 (List.mem_of_getElem? (i := 130) rfl)) rfl)
theorem lk_X12_253 : Lk RX12 253 yJ9_max_7cf53 := Or.inl (good_in (tb_8 (List.mem_of_getElem? (i := 136) rfl)) rfl)
theorem fp_X12_232 : Fp RX12 232 14 5 .int := ⟨_, _, _, _, "LeapNetModel", kc_X12, by decide, rfl, Or.inl (good_in (tb_7 (List.mem_of_getElem? (i := 15) rfl)) rfl), Or.inl rfl, rfl⟩
theorem lk_X12_258 : Lk RX12 258 yX12_isCount := Or.inl (good_in (tb_8 (List.mem_of_getElem? (i := 141) rfl)) rfl)
theorem yk_X12_isCount : Yk yX12_isCount cX12_isCount 1 (some .boolean) 1 := ⟨(good_in (tb_8 (List.mem_of_getElem? (i := 143) rfl)) rfl), (good_in (tb_1 (List.mem_of_getElem? (i := 8) rfl)) rfl), ⟨by decide +kernel, by decide +kernel⟩, by decide +kernel⟩
theorem ys_X12_isCount : Cond.static yX12_isCount ∈ lw_good := (good_in (tb_8 (List.mem_of_getElem? (i := 142) rfl)) rfl)
theorem lk_X12_261 : Lk RX12 261 yX12_refuse := Or.inl (good_in (tb_8 (List.mem_of_getElem? (i := 145) rfl)) rfl)
theorem yk_X12_refuse : Yk yX12_refuse cX12_refuse 2 (some .int) 1 := ⟨(good_in (tb_8 (List.mem_of_getElem? (i := 148) rfl)) rfl), (good_in (tb_1 (List.mem_of_getElem? (i := 8) rfl)) rfl), ⟨by decide +kernel, by decide +kernel⟩, by decide +kernel⟩
theorem yv_X12_refuse : Cond.instanceMethod yX12_refuse ∈ lw_good ∧ Cond.selects yX12_refuse.cls yX12_refuse yX12_refuse ∈ lw_good := ⟨(good_in (tb_8 (List.mem_of_getElem? (i := 147) rfl)) rfl), (good_in (List.mem_append_left _ (by decide +kernel)) rfl)⟩
theorem lk_X12_264 : Lk RX12 264 yX12_takeTrue := Or.inl (good_in (tb_8 (List.mem_of_getElem? (i := 149) rfl)) rfl)
theorem yk_X12_takeTrue : Yk yX12_takeTrue cX12_takeTrue 2 none 0 := ⟨(good_in (tb_8 (List.mem_of_getElem? (i := 152) rfl)) rfl), (good_in (tb_1 (List.mem_of_getElem? (i := 8) rfl)) rfl), ⟨by decide +kernel, by decide +kernel⟩, by decide +kernel⟩
theorem yv_X12_takeTrue : Cond.instanceMethod yX12_takeTrue ∈ lw_good ∧ Cond.selects yX12_takeTrue.cls yX12_takeTrue yX12_takeTrue ∈ lw_good := ⟨(good_in (tb_8 (List.mem_of_getElem? (i := 151) rfl)) rfl), (good_in (List.mem_append_left _ (by decide +kernel)) rfl)⟩
theorem lk_X12_267 : Lk RX12 267 yX12_findCivil := Or.inl (good_in (tb_8 (List.mem_of_getElem? (i := 153) rfl)) rfl)
theorem yk_X12_findCivil : Yk yX12_findCivil cX12_findCivil 4 none 1 := ⟨(good_in (tb_8 (List.mem_of_getElem? (i := 156) rfl)) rfl), (good_in (tb_1 (List.mem_of_getElem? (i := 8) rfl)) rfl), ⟨by decide +kernel, by decide +kernel⟩, by decide +kernel⟩
theorem yv_X12_findCivil : Cond.instanceMethod yX12_findCivil ∈ lw_good ∧ Cond.selects yX12_findCivil.cls yX12_findCivil yX12_findCivil ∈ lw_good := ⟨(good_in (tb_8 (List.mem_of_getElem? (i := 155) rfl)) rfl), (good_in (List.mem_append_left _ (by decide +kernel)) rfl)⟩
theorem fl_X12_247 : Fl RX12 247 14 93 := kc_X12.fl (ref := "LeapNetModel") (by decide) (Or.inl (good_in (tb_7 (List.mem_of_getElem? (i := 103) rfl)) rfl)) (Or.inl rfl)
theorem fl_X12_244 : Fl RX12 244 14 92 := kc_X12.fl (ref := "LeapNetModel") (by decide) (Or.inl (good_in (tb_7 (List.mem_of_getElem? (i := 102) rfl)) rfl)) (Or.inl rfl)
theorem kK_X12_271 : Cond.constant RX12 271 86400 ∈ lw_good := (good_in (tb_8 (List.mem_of_getElem? (i := 166) rfl)) rfl)
theorem lk_X12_272 : Lk RX12 272 yX12_trueKind := Or.inl (good_in (tb_8 (List.mem_of_getElem? (i := 167) rfl)) rfl)
theorem yk_X12_trueKind : Yk yX12_trueKind cX12_trueKind 3 (some .int) 1 := ⟨(good_in (tb_8 (List.mem_of_getElem? (i := 170) rfl)) rfl), (good_in (tb_1 (List.mem_of_getElem? (i := 8) rfl)) rfl), ⟨by decide +kernel, by decide +kernel⟩, by decide +kernel⟩
theorem yv_X12_trueKind : Cond.instanceMethod yX12_trueKind ∈ lw_good ∧ Cond.selects yX12_trueKind.cls yX12_trueKind yX12_trueKind ∈ lw_good := ⟨(good_in (tb_8 (List.mem_of_getElem? (i := 169) rfl)) rfl), (good_in (List.mem_append_left _ (by decide +kernel)) rfl)⟩
theorem fl_X12_275 : Fl RX12 275 14 11 := kc_X12.fl (ref := "LeapNetModel") (by decide) (Or.inl (good_in (tb_7 (List.mem_of_getElem? (i := 21) rfl)) rfl)) (Or.inl rfl)
theorem kJ_X12_278 : Cond.constantLong RX12 278 3 ∈ lw_good := (good_in (tb_8 (List.mem_of_getElem? (i := 175) rfl)) rfl)
theorem fl_X12_32 : Fl RX12 32 14 13 := kc_X12.fl (ref := "LeapNetModel") (by decide) (Or.inl (good_in (tb_7 (List.mem_of_getElem? (i := 23) rfl)) rfl)) (Or.inl rfl)
theorem fp_X12_275 : Fp RX12 275 14 11 .int := ⟨_, _, _, _, "LeapNetModel", kc_X12, by decide, rfl, Or.inl (good_in (tb_7 (List.mem_of_getElem? (i := 21) rfl)) rfl), Or.inl rfl, rfl⟩
theorem lk_X12_280 : Lk RX12 280 yX12_isClock := Or.inl (good_in (tb_8 (List.mem_of_getElem? (i := 180) rfl)) rfl)
theorem yk_X12_isClock : Yk yX12_isClock cX12_isClock 2 (some .boolean) 1 := ⟨(good_in (tb_8 (List.mem_of_getElem? (i := 183) rfl)) rfl), (good_in (tb_1 (List.mem_of_getElem? (i := 8) rfl)) rfl), ⟨by decide +kernel, by decide +kernel⟩, by decide +kernel⟩
theorem yv_X12_isClock : Cond.instanceMethod yX12_isClock ∈ lw_good ∧ Cond.selects yX12_isClock.cls yX12_isClock yX12_isClock ∈ lw_good := ⟨(good_in (tb_8 (List.mem_of_getElem? (i := 182) rfl)) rfl), (good_in (List.mem_append_left _ (by decide +kernel)) rfl)⟩
theorem fl_X12_283 : Fl RX12 283 14 12 := kc_X12.fl (ref := "LeapNetModel") (by decide) (Or.inl (good_in (tb_7 (List.mem_of_getElem? (i := 22) rfl)) rfl)) (Or.inl rfl)
theorem fl_X12_35 : Fl RX12 35 14 14 := kc_X12.fl (ref := "LeapNetModel") (by decide) (Or.inl (good_in (tb_7 (List.mem_of_getElem? (i := 24) rfl)) rfl)) (Or.inl rfl)
theorem fl_X12_38 : Fl RX12 38 14 15 := kc_X12.fl (ref := "LeapNetModel") (by decide) (Or.inl (good_in (tb_7 (List.mem_of_getElem? (i := 25) rfl)) rfl)) (Or.inl rfl)
theorem fp_X12_283 : Fp RX12 283 14 12 .int := ⟨_, _, _, _, "LeapNetModel", kc_X12, by decide, rfl, Or.inl (good_in (tb_7 (List.mem_of_getElem? (i := 22) rfl)) rfl), Or.inl rfl, rfl⟩
theorem fl_X12_107 : Fl RX12 107 14 55 := kc_X12.fl (ref := "LeapNetModel") (by decide) (Or.inl (good_in (tb_7 (List.mem_of_getElem? (i := 65) rfl)) rfl)) (Or.inl rfl)
theorem fl_X12_101 : Fl RX12 101 14 53 := kc_X12.fl (ref := "LeapNetModel") (by decide) (Or.inl (good_in (tb_7 (List.mem_of_getElem? (i := 63) rfl)) rfl)) (Or.inl rfl)
theorem fl_X12_79 : Fl RX12 79 14 42 := kc_X12.fl (ref := "LeapNetModel") (by decide) (Or.inl (good_in (tb_7 (List.mem_of_getElem? (i := 52) rfl)) rfl)) (Or.inl rfl)
theorem fl_X12_495 : Fl RX12 495 14 30 := kc_X12.fl (ref := "LeapNetModel") (by decide) (Or.inl (good_in (tb_7 (List.mem_of_getElem? (i := 40) rfl)) rfl)) (Or.inl rfl)
theorem fl_X12_52 : Fl RX12 52 14 33 := kc_X12.fl (ref := "LeapNetModel") (by decide) (Or.inl (good_in (tb_7 (List.mem_of_getElem? (i := 43) rfl)) rfl)) (Or.inl rfl)
theorem fl_X12_76 : Fl RX12 76 14 41 := kc_X12.fl (ref := "LeapNetModel") (by decide) (Or.inl (good_in (tb_7 (List.mem_of_getElem? (i := 51) rfl)) rfl)) (Or.inl rfl)
theorem fl_X12_510 : Fl RX12 510 14 46 := kc_X12.fl (ref := "LeapNetModel") (by decide) (Or.inl (good_in (tb_7 (List.mem_of_getElem? (i := 56) rfl)) rfl)) (Or.inl rfl)
theorem fl_X12_85 : Fl RX12 85 14 44 := kc_X12.fl (ref := "LeapNetModel") (by decide) (Or.inl (good_in (tb_7 (List.mem_of_getElem? (i := 54) rfl)) rfl)) (Or.inl rfl)
theorem fp_X12_510 : Fp RX12 510 14 46 .int := ⟨_, _, _, _, "LeapNetModel", kc_X12, by decide, rfl, Or.inl (good_in (tb_7 (List.mem_of_getElem? (i := 56) rfl)) rfl), Or.inl rfl, rfl⟩
theorem lk_X12_516 : Lk RX12 516 yX12_push := Or.inl (good_in (tb_8 (List.mem_of_getElem? (i := 231) rfl)) rfl)
theorem yk_X12_push : Yk yX12_push cX12_push 4 none 2 := ⟨(good_in (tb_8 (List.mem_of_getElem? (i := 234) rfl)) rfl), (good_in (tb_1 (List.mem_of_getElem? (i := 8) rfl)) rfl), ⟨by decide +kernel, by decide +kernel⟩, by decide +kernel⟩
theorem yv_X12_push : Cond.instanceMethod yX12_push ∈ lw_good ∧ Cond.selects yX12_push.cls yX12_push yX12_push ∈ lw_good := ⟨(good_in (tb_8 (List.mem_of_getElem? (i := 233) rfl)) rfl), (good_in (List.mem_append_left _ (by decide +kernel)) rfl)⟩
theorem lk_X12_305 : Lk RX12 305 yJ9_max_f86c9 := Or.inl (good_in (tb_9 (List.mem_of_getElem? (i := 0) rfl)) rfl)
theorem lk_X12_333 : Lk RX12 333 yJ9_min_f86c9 := Or.inl (good_in (tb_8 (List.mem_of_getElem? (i := 239) rfl)) rfl)
theorem kK_X12_436 : Cond.constant RX12 436 1048576 ∈ lw_good := (good_in (tb_8 (List.mem_of_getElem? (i := 230) rfl)) rfl)
theorem fl_X12_82 : Fl RX12 82 14 43 := kc_X12.fl (ref := "LeapNetModel") (by decide) (Or.inl (good_in (tb_7 (List.mem_of_getElem? (i := 53) rfl)) rfl)) (Or.inl rfl)
theorem fl_X12_89 : Fl RX12 89 14 45 := kc_X12.fl (ref := "LeapNetModel") (by decide) (Or.inl (good_in (tb_7 (List.mem_of_getElem? (i := 55) rfl)) rfl)) (Or.inl rfl)
theorem lk_X12_520 : Lk RX12 520 yX12_both := Or.inl (good_in (tb_8 (List.mem_of_getElem? (i := 235) rfl)) rfl)
theorem yk_X12_both : Yk yX12_both cX12_both 9 none 2 := ⟨(good_in (tb_8 (List.mem_of_getElem? (i := 238) rfl)) rfl), (good_in (tb_1 (List.mem_of_getElem? (i := 8) rfl)) rfl), ⟨by decide +kernel, by decide +kernel⟩, by decide +kernel⟩
theorem yv_X12_both : Cond.instanceMethod yX12_both ∈ lw_good ∧ Cond.selects yX12_both.cls yX12_both yX12_both ∈ lw_good := ⟨(good_in (tb_8 (List.mem_of_getElem? (i := 237) rfl)) rfl), (good_in (List.mem_append_left _ (by decide +kernel)) rfl)⟩
theorem fl_X12_58 : Fl RX12 58 14 35 := kc_X12.fl (ref := "LeapNetModel") (by decide) (Or.inl (good_in (tb_7 (List.mem_of_getElem? (i := 45) rfl)) rfl)) (Or.inl rfl)
theorem fl_X12_61 : Fl RX12 61 14 36 := kc_X12.fl (ref := "LeapNetModel") (by decide) (Or.inl (good_in (tb_7 (List.mem_of_getElem? (i := 46) rfl)) rfl)) (Or.inl rfl)
theorem lk_X12_513 : Lk RX12 513 yX12_does := Or.inl (good_in (tb_8 (List.mem_of_getElem? (i := 226) rfl)) rfl)
theorem yk_X12_does : Yk yX12_does cX12_does 5 (some .int) 2 := ⟨(good_in (tb_8 (List.mem_of_getElem? (i := 229) rfl)) rfl), (good_in (tb_1 (List.mem_of_getElem? (i := 8) rfl)) rfl), ⟨by decide +kernel, by decide +kernel⟩, by decide +kernel⟩
theorem yv_X12_does : Cond.instanceMethod yX12_does ∈ lw_good ∧ Cond.selects yX12_does.cls yX12_does yX12_does ∈ lw_good := ⟨(good_in (tb_8 (List.mem_of_getElem? (i := 228) rfl)) rfl), (good_in (List.mem_append_left _ (by decide +kernel)) rfl)⟩
theorem fp_X12_501 : Fp RX12 501 14 101 .boolean := ⟨_, _, _, _, "LeapNetModel", kc_X12, by decide, rfl, Or.inl (good_in (tb_7 (List.mem_of_getElem? (i := 111) rfl)) rfl), Or.inl rfl, rfl⟩
theorem lk_X12_504 : Lk RX12 504 yX12_force := Or.inl (good_in (tb_8 (List.mem_of_getElem? (i := 218) rfl)) rfl)
theorem yk_X12_force : Yk yX12_force cX12_force 4 (some .int) 1 := ⟨(good_in (tb_8 (List.mem_of_getElem? (i := 221) rfl)) rfl), (good_in (tb_1 (List.mem_of_getElem? (i := 8) rfl)) rfl), ⟨by decide +kernel, by decide +kernel⟩, by decide +kernel⟩
theorem yv_X12_force : Cond.instanceMethod yX12_force ∈ lw_good ∧ Cond.selects yX12_force.cls yX12_force yX12_force ∈ lw_good := ⟨(good_in (tb_8 (List.mem_of_getElem? (i := 220) rfl)) rfl), (good_in (List.mem_append_left _ (by decide +kernel)) rfl)⟩
theorem fl_X12_55 : Fl RX12 55 14 34 := kc_X12.fl (ref := "LeapNetModel") (by decide) (Or.inl (good_in (tb_7 (List.mem_of_getElem? (i := 44) rfl)) rfl)) (Or.inl rfl)
theorem fl_X12_70 : Fl RX12 70 14 39 := kc_X12.fl (ref := "LeapNetModel") (by decide) (Or.inl (good_in (tb_7 (List.mem_of_getElem? (i := 49) rfl)) rfl)) (Or.inl rfl)
theorem lk_X12_507 : Lk RX12 507 yX12_work := Or.inl (good_in (tb_8 (List.mem_of_getElem? (i := 222) rfl)) rfl)
theorem yk_X12_work : Yk yX12_work cX12_work 6 none 2 := ⟨(good_in (tb_8 (List.mem_of_getElem? (i := 225) rfl)) rfl), (good_in (tb_1 (List.mem_of_getElem? (i := 8) rfl)) rfl), ⟨by decide +kernel, by decide +kernel⟩, by decide +kernel⟩
theorem yv_X12_work : Cond.instanceMethod yX12_work ∈ lw_good ∧ Cond.selects yX12_work.cls yX12_work yX12_work ∈ lw_good := ⟨(good_in (tb_8 (List.mem_of_getElem? (i := 224) rfl)) rfl), (good_in (List.mem_append_left _ (by decide +kernel)) rfl)⟩
theorem fl_X12_501 : Fl RX12 501 14 101 := kc_X12.fl (ref := "LeapNetModel") (by decide) (Or.inl (good_in (tb_7 (List.mem_of_getElem? (i := 111) rfl)) rfl)) (Or.inl rfl)
theorem lk_X12_531 : Lk RX12 531 yX12_letNothing := Or.inl (good_in (tb_8 (List.mem_of_getElem? (i := 208) rfl)) rfl)
theorem yk_X12_letNothing : Yk yX12_letNothing cX12_letNothing 2 none 0 := ⟨(good_in (tb_8 (List.mem_of_getElem? (i := 211) rfl)) rfl), (good_in (tb_1 (List.mem_of_getElem? (i := 8) rfl)) rfl), ⟨by decide +kernel, by decide +kernel⟩, by decide +kernel⟩
theorem yv_X12_letNothing : Cond.instanceMethod yX12_letNothing ∈ lw_good ∧ Cond.selects yX12_letNothing.cls yX12_letNothing yX12_letNothing ∈ lw_good := ⟨(good_in (tb_8 (List.mem_of_getElem? (i := 210) rfl)) rfl), (good_in (List.mem_append_left _ (by decide +kernel)) rfl)⟩
theorem fl_X12_95 : Fl RX12 95 14 51 := kc_X12.fl (ref := "LeapNetModel") (by decide) (Or.inl (good_in (tb_7 (List.mem_of_getElem? (i := 61) rfl)) rfl)) (Or.inl rfl)
theorem fl_X12_92 : Fl RX12 92 14 50 := kc_X12.fl (ref := "LeapNetModel") (by decide) (Or.inl (good_in (tb_7 (List.mem_of_getElem? (i := 60) rfl)) rfl)) (Or.inl rfl)
theorem fl_X12_104 : Fl RX12 104 14 54 := kc_X12.fl (ref := "LeapNetModel") (by decide) (Or.inl (good_in (tb_7 (List.mem_of_getElem? (i := 64) rfl)) rfl)) (Or.inl rfl)
theorem fl_X12_98 : Fl RX12 98 14 52 := kc_X12.fl (ref := "LeapNetModel") (by decide) (Or.inl (good_in (tb_7 (List.mem_of_getElem? (i := 62) rfl)) rfl)) (Or.inl rfl)
theorem lk_X12_534 : Lk RX12 534 yJ9_min_7cf53 := Or.inl (good_in (tb_8 (List.mem_of_getElem? (i := 212) rfl)) rfl)
theorem kJ_X12_536 : Cond.constantLong RX12 536 2328139461 ∈ lw_good := (good_in (tb_8 (List.mem_of_getElem? (i := 213) rfl)) rfl)
theorem lk_X12_538 : Lk RX12 538 yX12_told := Or.inl (good_in (tb_8 (List.mem_of_getElem? (i := 214) rfl)) rfl)
theorem yk_X12_told : Yk yX12_told cX12_told 9 (some .long) 3 := ⟨(good_in (tb_8 (List.mem_of_getElem? (i := 217) rfl)) rfl), (good_in (tb_1 (List.mem_of_getElem? (i := 8) rfl)) rfl), ⟨by decide +kernel, by decide +kernel⟩, by decide +kernel⟩
theorem yv_X12_told : Cond.instanceMethod yX12_told ∈ lw_good ∧ Cond.selects yX12_told.cls yX12_told yX12_told ∈ lw_good := ⟨(good_in (tb_8 (List.mem_of_getElem? (i := 216) rfl)) rfl), (good_in (List.mem_append_left _ (by decide +kernel)) rfl)⟩
theorem lk_X12_542 : Lk RX12 542 yX12_isInTime := Or.inl (good_in (tb_8 (List.mem_of_getElem? (i := 200) rfl)) rfl)
theorem yk_X12_isInTime : Yk yX12_isInTime cX12_isInTime 2 (some .boolean) 1 := ⟨(good_in (tb_8 (List.mem_of_getElem? (i := 203) rfl)) rfl), (good_in (tb_1 (List.mem_of_getElem? (i := 8) rfl)) rfl), ⟨by decide +kernel, by decide +kernel⟩, by decide +kernel⟩
theorem yv_X12_isInTime : Cond.instanceMethod yX12_isInTime ∈ lw_good ∧ Cond.selects yX12_isInTime.cls yX12_isInTime yX12_isInTime ∈ lw_good := ⟨(good_in (tb_8 (List.mem_of_getElem? (i := 202) rfl)) rfl), (good_in (List.mem_append_left _ (by decide +kernel)) rfl)⟩
theorem lk_X12_545 : Lk RX12 545 yX12_isBelieved := Or.inl (good_in (tb_8 (List.mem_of_getElem? (i := 204) rfl)) rfl)
theorem yk_X12_isBelieved : Yk yX12_isBelieved cX12_isBelieved 5 (some .boolean) 1 := ⟨(good_in (tb_8 (List.mem_of_getElem? (i := 207) rfl)) rfl), (good_in (tb_1 (List.mem_of_getElem? (i := 8) rfl)) rfl), ⟨by decide +kernel, by decide +kernel⟩, by decide +kernel⟩
theorem yv_X12_isBelieved : Cond.instanceMethod yX12_isBelieved ∈ lw_good ∧ Cond.selects yX12_isBelieved.cls yX12_isBelieved yX12_isBelieved ∈ lw_good := ⟨(good_in (tb_8 (List.mem_of_getElem? (i := 206) rfl)) rfl), (good_in (List.mem_append_left _ (by decide +kernel)) rfl)⟩
theorem fl_X12_191 : Fl RX12 191 14 102 := kc_X12.fl (ref := "LeapNetModel") (by decide) (Or.inl (good_in (tb_7 (List.mem_of_getElem? (i := 112) rfl)) rfl)) (Or.inl rfl)
theorem fl_X12_194 : Fl RX12 194 14 103 := kc_X12.fl (ref := "LeapNetModel") (by decide) (Or.inl (good_in (tb_7 (List.mem_of_getElem? (i := 113) rfl)) rfl)) (Or.inl rfl)
theorem fl_X12_286 : Fl RX12 286 14 48 := kc_X12.fl (ref := "LeapNetModel") (by decide) (Or.inl (good_in (tb_7 (List.mem_of_getElem? (i := 58) rfl)) rfl)) (Or.inl rfl)
theorem lk_X12_289 : Lk RX12 289 yX12_counts := Or.inl (good_in (tb_8 (List.mem_of_getElem? (i := 196) rfl)) rfl)
theorem yk_X12_counts : Yk yX12_counts cX12_counts 5 (some .boolean) 1 := ⟨(good_in (tb_8 (List.mem_of_getElem? (i := 199) rfl)) rfl), (good_in (tb_1 (List.mem_of_getElem? (i := 8) rfl)) rfl), ⟨by decide +kernel, by decide +kernel⟩, by decide +kernel⟩
theorem yv_X12_counts : Cond.instanceMethod yX12_counts ∈ lw_good ∧ Cond.selects yX12_counts.cls yX12_counts yX12_counts ∈ lw_good := ⟨(good_in (tb_8 (List.mem_of_getElem? (i := 198) rfl)) rfl), (good_in (List.mem_append_left _ (by decide +kernel)) rfl)⟩
theorem fp_X12_292 : Fp RX12 292 14 96 .int := ⟨_, _, _, _, "LeapNetModel", kc_X12, by decide, rfl, Or.inl (good_in (tb_7 (List.mem_of_getElem? (i := 106) rfl)) rfl), Or.inl rfl, rfl⟩
theorem fl_X12_292 : Fl RX12 292 14 96 := kc_X12.fl (ref := "LeapNetModel") (by decide) (Or.inl (good_in (tb_7 (List.mem_of_getElem? (i := 106) rfl)) rfl)) (Or.inl rfl)
theorem fl_X12_173 : Fl RX12 173 14 94 := kc_X12.fl (ref := "LeapNetModel") (by decide) (Or.inl (good_in (tb_7 (List.mem_of_getElem? (i := 104) rfl)) rfl)) (Or.inl rfl)
theorem lk_X12_295 : Lk RX12 295 yX12_takeClock := Or.inl (good_in (tb_8 (List.mem_of_getElem? (i := 192) rfl)) rfl)
theorem yk_X12_takeClock : Yk yX12_takeClock cX12_takeClock 5 none 1 := ⟨(good_in (tb_8 (List.mem_of_getElem? (i := 195) rfl)) rfl), (good_in (tb_1 (List.mem_of_getElem? (i := 8) rfl)) rfl), ⟨by decide +kernel, by decide +kernel⟩, by decide +kernel⟩
theorem yv_X12_takeClock : Cond.instanceMethod yX12_takeClock ∈ lw_good ∧ Cond.selects yX12_takeClock.cls yX12_takeClock yX12_takeClock ∈ lw_good := ⟨(good_in (tb_8 (List.mem_of_getElem? (i := 194) rfl)) rfl), (good_in (List.mem_append_left _ (by decide +kernel)) rfl)⟩
theorem fl_X12_179 : Fl RX12 179 14 97 := kc_X12.fl (ref := "LeapNetModel") (by decide) (Or.inl (good_in (tb_7 (List.mem_of_getElem? (i := 107) rfl)) rfl)) (Or.inl rfl)
theorem fl_X12_182 : Fl RX12 182 14 98 := kc_X12.fl (ref := "LeapNetModel") (by decide) (Or.inl (good_in (tb_7 (List.mem_of_getElem? (i := 108) rfl)) rfl)) (Or.inl rfl)
theorem lk_X12_299 : Lk RX12 299 yX12_handKindOf := Or.inl (good_in (tb_9 (List.mem_of_getElem? (i := 1) rfl)) rfl)
theorem yk_X12_handKindOf : Yk yX12_handKindOf cX12_handKindOf 3 (some .int) 1 := ⟨(good_in (tb_9 (List.mem_of_getElem? (i := 4) rfl)) rfl), (good_in (tb_1 (List.mem_of_getElem? (i := 8) rfl)) rfl), ⟨by decide +kernel, by decide +kernel⟩, by decide +kernel⟩
theorem yv_X12_handKindOf : Cond.instanceMethod yX12_handKindOf ∈ lw_good ∧ Cond.selects yX12_handKindOf.cls yX12_handKindOf yX12_handKindOf ∈ lw_good := ⟨(good_in (tb_9 (List.mem_of_getElem? (i := 3) rfl)) rfl), (good_in (List.mem_append_left _ (by decide +kernel)) rfl)⟩
theorem fl_X12_176 : Fl RX12 176 14 95 := kc_X12.fl (ref := "LeapNetModel") (by decide) (Or.inl (good_in (tb_7 (List.mem_of_getElem? (i := 105) rfl)) rfl)) (Or.inl rfl)
theorem kJ_X12_314 : Cond.constantLong RX12 314 1000 ∈ lw_good := (good_in (tb_9 (List.mem_of_getElem? (i := 17) rfl)) rfl)
theorem kJ_X12_320 : Cond.constantLong RX12 320 86399999 ∈ lw_good := (good_in (tb_9 (List.mem_of_getElem? (i := 20) rfl)) rfl)
theorem kJ_X12_318 : Cond.constantLong RX12 318 86399000 ∈ lw_good := (good_in (tb_9 (List.mem_of_getElem? (i := 19) rfl)) rfl)
theorem kJ_X12_316 : Cond.constantLong RX12 316 86400000 ∈ lw_good := (good_in (tb_9 (List.mem_of_getElem? (i := 18) rfl)) rfl)
theorem lk_X12_302 : Lk RX12 302 yX12_aheadAt := Or.inl (good_in (tb_9 (List.mem_of_getElem? (i := 9) rfl)) rfl)
theorem yk_X12_aheadAt : Yk yX12_aheadAt cX12_aheadAt 4 (some .int) 1 := ⟨(good_in (tb_9 (List.mem_of_getElem? (i := 12) rfl)) rfl), (good_in (tb_1 (List.mem_of_getElem? (i := 8) rfl)) rfl), ⟨by decide +kernel, by decide +kernel⟩, by decide +kernel⟩
theorem yv_X12_aheadAt : Cond.instanceMethod yX12_aheadAt ∈ lw_good ∧ Cond.selects yX12_aheadAt.cls yX12_aheadAt yX12_aheadAt ∈ lw_good := ⟨(good_in (tb_9 (List.mem_of_getElem? (i := 11) rfl)) rfl), (good_in (List.mem_append_left _ (by decide +kernel)) rfl)⟩
theorem kJ_X12_308 : Cond.constantLong RX12 308 100000000 ∈ lw_good := (good_in (tb_9 (List.mem_of_getElem? (i := 13) rfl)) rfl)
theorem lk_X12_310 : Lk RX12 310 yX12_thousandths := Or.inl (good_in (tb_9 (List.mem_of_getElem? (i := 14) rfl)) rfl)
theorem yk_X12_thousandths : Yk yX12_thousandths cX12_thousandths 3 (some .long) 3 := ⟨(good_in (tb_9 (List.mem_of_getElem? (i := 16) rfl)) rfl), (good_in (tb_1 (List.mem_of_getElem? (i := 8) rfl)) rfl), ⟨by decide +kernel, by decide +kernel⟩, by decide +kernel⟩
theorem ys_X12_thousandths : Cond.static yX12_thousandths ∈ lw_good := (good_in (tb_9 (List.mem_of_getElem? (i := 15) rfl)) rfl)
theorem lk_X12_322 : Lk RX12 322 yX12_findSteps := Or.inl (good_in (tb_8 (List.mem_of_getElem? (i := 188) rfl)) rfl)
theorem yk_X12_findSteps : Yk yX12_findSteps cX12_findSteps 6 none 1 := ⟨(good_in (tb_8 (List.mem_of_getElem? (i := 191) rfl)) rfl), (good_in (tb_1 (List.mem_of_getElem? (i := 8) rfl)) rfl), ⟨by decide +kernel, by decide +kernel⟩, by decide +kernel⟩
theorem yv_X12_findSteps : Cond.instanceMethod yX12_findSteps ∈ lw_good ∧ Cond.selects yX12_findSteps.cls yX12_findSteps yX12_findSteps ∈ lw_good := ⟨(good_in (tb_8 (List.mem_of_getElem? (i := 190) rfl)) rfl), (good_in (List.mem_append_left _ (by decide +kernel)) rfl)⟩
theorem lk_X12_325 : Lk RX12 325 yX12_showsOf := Or.inl (good_in (tb_9 (List.mem_of_getElem? (i := 5) rfl)) rfl)
theorem yk_X12_showsOf : Yk yX12_showsOf cX12_showsOf 3 (some .long) 2 := ⟨(good_in (tb_9 (List.mem_of_getElem? (i := 8) rfl)) rfl), (good_in (tb_1 (List.mem_of_getElem? (i := 8) rfl)) rfl), ⟨by decide +kernel, by decide +kernel⟩, by decide +kernel⟩
theorem yv_X12_showsOf : Cond.instanceMethod yX12_showsOf ∈ lw_good ∧ Cond.selects yX12_showsOf.cls yX12_showsOf yX12_showsOf ∈ lw_good := ⟨(good_in (tb_9 (List.mem_of_getElem? (i := 7) rfl)) rfl), (good_in (List.mem_append_left _ (by decide +kernel)) rfl)⟩
theorem lk_X12_329 : Lk RX12 329 yX12_plain := Or.inl (good_in (tb_9 (List.mem_of_getElem? (i := 29) rfl)) rfl)
theorem yk_X12_plain : Yk yX12_plain cX12_plain 2 (some .long) 1 := ⟨(good_in (tb_9 (List.mem_of_getElem? (i := 31) rfl)) rfl), (good_in (tb_1 (List.mem_of_getElem? (i := 8) rfl)) rfl), ⟨by decide +kernel, by decide +kernel⟩, by decide +kernel⟩
theorem ys_X12_plain : Cond.static yX12_plain ∈ lw_good := (good_in (tb_9 (List.mem_of_getElem? (i := 30) rfl)) rfl)
theorem fl_X12_185 : Fl RX12 185 14 99 := kc_X12.fl (ref := "LeapNetModel") (by decide) (Or.inl (good_in (tb_7 (List.mem_of_getElem? (i := 109) rfl)) rfl)) (Or.inl rfl)
theorem fl_X12_188 : Fl RX12 188 14 100 := kc_X12.fl (ref := "LeapNetModel") (by decide) (Or.inl (good_in (tb_7 (List.mem_of_getElem? (i := 110) rfl)) rfl)) (Or.inl rfl)
theorem fl_X12_336 : Fl RX12 336 14 18 := kc_X12.fl (ref := "LeapNetModel") (by decide) (Or.inl (good_in (tb_7 (List.mem_of_getElem? (i := 28) rfl)) rfl)) (Or.inl rfl)
theorem fl_X12_41 : Fl RX12 41 14 16 := kc_X12.fl (ref := "LeapNetModel") (by decide) (Or.inl (good_in (tb_7 (List.mem_of_getElem? (i := 26) rfl)) rfl)) (Or.inl rfl)
theorem fl_X12_339 : Fl RX12 339 14 26 := kc_X12.fl (ref := "LeapNetModel") (by decide) (Or.inl (good_in (tb_7 (List.mem_of_getElem? (i := 36) rfl)) rfl)) (Or.inl rfl)
theorem fp_X12_342 : Fp RX12 342 14 25 .int := ⟨_, _, _, _, "LeapNetModel", kc_X12, by decide, rfl, Or.inl (good_in (tb_7 (List.mem_of_getElem? (i := 35) rfl)) rfl), Or.inl rfl, rfl⟩
theorem fl_X12_342 : Fl RX12 342 14 25 := kc_X12.fl (ref := "LeapNetModel") (by decide) (Or.inl (good_in (tb_7 (List.mem_of_getElem? (i := 35) rfl)) rfl)) (Or.inl rfl)
theorem lk_X12_345 : Lk RX12 345 yX12_look := Or.inl (good_in (tb_9 (List.mem_of_getElem? (i := 52) rfl)) rfl)
theorem yk_X12_look : Yk yX12_look cX12_look 2 (some .int) 1 := ⟨(good_in (tb_9 (List.mem_of_getElem? (i := 55) rfl)) rfl), (good_in (tb_1 (List.mem_of_getElem? (i := 8) rfl)) rfl), ⟨by decide +kernel, by decide +kernel⟩, by decide +kernel⟩
theorem yv_X12_look : Cond.instanceMethod yX12_look ∈ lw_good ∧ Cond.selects yX12_look.cls yX12_look yX12_look ∈ lw_good := ⟨(good_in (tb_9 (List.mem_of_getElem? (i := 54) rfl)) rfl), (good_in (List.mem_append_left _ (by decide +kernel)) rfl)⟩
theorem fp_X12_339 : Fp RX12 339 14 26 .int := ⟨_, _, _, _, "LeapNetModel", kc_X12, by decide, rfl, Or.inl (good_in (tb_7 (List.mem_of_getElem? (i := 36) rfl)) rfl), Or.inl rfl, rfl⟩
theorem lk_X12_351 : Lk RX12 351 yX12_isLetter := Or.inl (good_in (tb_9 (List.mem_of_getElem? (i := 56) rfl)) rfl)
theorem yk_X12_isLetter : Yk yX12_isLetter cX12_isLetter 1 (some .boolean) 1 := ⟨(good_in (tb_9 (List.mem_of_getElem? (i := 58) rfl)) rfl), (good_in (tb_1 (List.mem_of_getElem? (i := 8) rfl)) rfl), ⟨by decide +kernel, by decide +kernel⟩, by decide +kernel⟩
theorem ys_X12_isLetter : Cond.static yX12_isLetter ∈ lw_good := (good_in (tb_9 (List.mem_of_getElem? (i := 57) rfl)) rfl)
theorem lk_X12_365 : Lk RX12 365 yX12_isDigit := Or.inl (good_in (tb_9 (List.mem_of_getElem? (i := 61) rfl)) rfl)
theorem yk_X12_isDigit : Yk yX12_isDigit cX12_isDigit 1 (some .boolean) 1 := ⟨(good_in (tb_9 (List.mem_of_getElem? (i := 63) rfl)) rfl), (good_in (tb_1 (List.mem_of_getElem? (i := 8) rfl)) rfl), ⟨by decide +kernel, by decide +kernel⟩, by decide +kernel⟩
theorem ys_X12_isDigit : Cond.static yX12_isDigit ∈ lw_good := (good_in (tb_9 (List.mem_of_getElem? (i := 62) rfl)) rfl)
theorem fp_X12_368 : Fp RX12 368 14 27 .int := ⟨_, _, _, _, "LeapNetModel", kc_X12, by decide, rfl, Or.inl (good_in (tb_7 (List.mem_of_getElem? (i := 37) rfl)) rfl), Or.inl rfl, rfl⟩
theorem kJ_X12_371 : Cond.constantLong RX12 371 58 ∈ lw_good := (good_in (tb_9 (List.mem_of_getElem? (i := 64) rfl)) rfl)
theorem kJ_X12_373 : Cond.constantLong RX12 373 62 ∈ lw_good := (good_in (tb_9 (List.mem_of_getElem? (i := 65) rfl)) rfl)
theorem fp_X12_348 : Fp RX12 348 14 24 .int := ⟨_, _, _, _, "LeapNetModel", kc_X12, by decide, rfl, Or.inl (good_in (tb_7 (List.mem_of_getElem? (i := 34) rfl)) rfl), Or.inl rfl, rfl⟩
theorem kJ_X12_375 : Cond.constantLong RX12 375 40 ∈ lw_good := (good_in (tb_9 (List.mem_of_getElem? (i := 66) rfl)) rfl)
theorem kJ_X12_377 : Cond.constantLong RX12 377 45 ∈ lw_good := (good_in (tb_9 (List.mem_of_getElem? (i := 67) rfl)) rfl)
theorem fl_X12_379 : Fl RX12 379 14 23 := kc_X12.fl (ref := "LeapNetModel") (by decide) (Or.inl (good_in (tb_7 (List.mem_of_getElem? (i := 33) rfl)) rfl)) (Or.inl rfl)
theorem fp_X12_354 : Fp RX12 354 14 29 .long := ⟨_, _, _, _, "LeapNetModel", kc_X12, by decide, rfl, Or.inl (good_in (tb_7 (List.mem_of_getElem? (i := 39) rfl)) rfl), Or.inl rfl, rfl⟩
theorem fp_X12_362 : Fp RX12 362 14 28 .int := ⟨_, _, _, _, "LeapNetModel", kc_X12, by decide, rfl, Or.inl (good_in (tb_7 (List.mem_of_getElem? (i := 38) rfl)) rfl), Or.inl rfl, rfl⟩
theorem fl_X12_354 : Fl RX12 354 14 29 := kc_X12.fl (ref := "LeapNetModel") (by decide) (Or.inl (good_in (tb_7 (List.mem_of_getElem? (i := 39) rfl)) rfl)) (Or.inl rfl)
theorem kJ_X12_358 : Cond.constantLong RX12 358 32 ∈ lw_good := (good_in (tb_9 (List.mem_of_getElem? (i := 59) rfl)) rfl)
theorem kJ_X12_360 : Cond.constantLong RX12 360 96 ∈ lw_good := (good_in (tb_9 (List.mem_of_getElem? (i := 60) rfl)) rfl)
theorem fl_X12_368 : Fl RX12 368 14 27 := kc_X12.fl (ref := "LeapNetModel") (by decide) (Or.inl (good_in (tb_7 (List.mem_of_getElem? (i := 37) rfl)) rfl)) (Or.inl rfl)
theorem fl_X12_348 : Fl RX12 348 14 24 := kc_X12.fl (ref := "LeapNetModel") (by decide) (Or.inl (good_in (tb_7 (List.mem_of_getElem? (i := 34) rfl)) rfl)) (Or.inl rfl)
theorem fl_X12_383 : Fl RX12 383 14 21 := kc_X12.fl (ref := "LeapNetModel") (by decide) (Or.inl (good_in (tb_7 (List.mem_of_getElem? (i := 31) rfl)) rfl)) (Or.inl rfl)
theorem fp_X12_383 : Fp RX12 383 14 21 .int := ⟨_, _, _, _, "LeapNetModel", kc_X12, by decide, rfl, Or.inl (good_in (tb_7 (List.mem_of_getElem? (i := 31) rfl)) rfl), Or.inl rfl, rfl⟩
theorem fp_X12_386 : Fp RX12 386 14 22 .int := ⟨_, _, _, _, "LeapNetModel", kc_X12, by decide, rfl, Or.inl (good_in (tb_7 (List.mem_of_getElem? (i := 32) rfl)) rfl), Or.inl rfl, rfl⟩
theorem lk_X12_389 : Lk RX12 389 yX12_fail := Or.inl (good_in (tb_9 (List.mem_of_getElem? (i := 125) rfl)) rfl)
theorem yk_X12_fail : Yk yX12_fail cX12_fail 3 none 2 := ⟨(good_in (tb_9 (List.mem_of_getElem? (i := 128) rfl)) rfl), (good_in (tb_1 (List.mem_of_getElem? (i := 8) rfl)) rfl), ⟨by decide +kernel, by decide +kernel⟩, by decide +kernel⟩
theorem yv_X12_fail : Cond.instanceMethod yX12_fail ∈ lw_good ∧ Cond.selects yX12_fail.cls yX12_fail yX12_fail ∈ lw_good := ⟨(good_in (tb_9 (List.mem_of_getElem? (i := 127) rfl)) rfl), (good_in (List.mem_append_left _ (by decide +kernel)) rfl)⟩
theorem lk_X12_393 : Lk RX12 393 yX12_spelled := Or.inl (good_in (tb_9 (List.mem_of_getElem? (i := 76) rfl)) rfl)
theorem yk_X12_spelled : Yk yX12_spelled cX12_spelled 8 (some .long) 6 := ⟨(good_in (tb_9 (List.mem_of_getElem? (i := 78) rfl)) rfl), (good_in (tb_1 (List.mem_of_getElem? (i := 8) rfl)) rfl), ⟨by decide +kernel, by decide +kernel⟩, by decide +kernel⟩
theorem ys_X12_spelled : Cond.static yX12_spelled ∈ lw_good := (good_in (tb_9 (List.mem_of_getElem? (i := 77) rfl)) rfl)
theorem lk_X12_397 : Lk RX12 397 yX12_isWord := Or.inl (good_in (tb_9 (List.mem_of_getElem? (i := 79) rfl)) rfl)
theorem yk_X12_isWord : Yk yX12_isWord cX12_isWord 3 (some .boolean) 1 := ⟨(good_in (tb_9 (List.mem_of_getElem? (i := 82) rfl)) rfl), (good_in (tb_1 (List.mem_of_getElem? (i := 8) rfl)) rfl), ⟨by decide +kernel, by decide +kernel⟩, by decide +kernel⟩
theorem yv_X12_isWord : Cond.instanceMethod yX12_isWord ∈ lw_good ∧ Cond.selects yX12_isWord.cls yX12_isWord yX12_isWord ∈ lw_good := ⟨(good_in (tb_9 (List.mem_of_getElem? (i := 81) rfl)) rfl), (good_in (List.mem_append_left _ (by decide +kernel)) rfl)⟩
theorem kJ_X12_401 : Cond.constantLong RX12 401 21091111597 ∈ lw_good := (good_in (tb_9 (List.mem_of_getElem? (i := 83) rfl)) rfl)
theorem kJ_X12_403 : Cond.constantLong RX12 403 1309981300 ∈ lw_good := (good_in (tb_9 (List.mem_of_getElem? (i := 84) rfl)) rfl)
theorem lk_X12_405 : Lk RX12 405 yX12_isIf := Or.inl (good_in (tb_9 (List.mem_of_getElem? (i := 89) rfl)) rfl)
theorem yk_X12_isIf : Yk yX12_isIf cX12_isIf 1 (some .boolean) 0 := ⟨(good_in (tb_9 (List.mem_of_getElem? (i := 92) rfl)) rfl), (good_in (tb_1 (List.mem_of_getElem? (i := 8) rfl)) rfl), ⟨by decide +kernel, by decide +kernel⟩, by decide +kernel⟩
theorem yv_X12_isIf : Cond.instanceMethod yX12_isIf ∈ lw_good ∧ Cond.selects yX12_isIf.cls yX12_isIf yX12_isIf ∈ lw_good := ⟨(good_in (tb_9 (List.mem_of_getElem? (i := 91) rfl)) rfl), (good_in (List.mem_append_left _ (by decide +kernel)) rfl)⟩
theorem lk_X12_409 : Lk RX12 409 yX12_isThen := Or.inl (good_in (tb_9 (List.mem_of_getElem? (i := 93) rfl)) rfl)
theorem yk_X12_isThen : Yk yX12_isThen cX12_isThen 1 (some .boolean) 0 := ⟨(good_in (tb_9 (List.mem_of_getElem? (i := 96) rfl)) rfl), (good_in (tb_1 (List.mem_of_getElem? (i := 8) rfl)) rfl), ⟨by decide +kernel, by decide +kernel⟩, by decide +kernel⟩
theorem yv_X12_isThen : Cond.instanceMethod yX12_isThen ∈ lw_good ∧ Cond.selects yX12_isThen.cls yX12_isThen yX12_isThen ∈ lw_good := ⟨(good_in (tb_9 (List.mem_of_getElem? (i := 95) rfl)) rfl), (good_in (List.mem_append_left _ (by decide +kernel)) rfl)⟩
theorem lk_X12_412 : Lk RX12 412 yX12_isElse := Or.inl (good_in (tb_9 (List.mem_of_getElem? (i := 97) rfl)) rfl)
theorem yk_X12_isElse : Yk yX12_isElse cX12_isElse 1 (some .boolean) 0 := ⟨(good_in (tb_9 (List.mem_of_getElem? (i := 100) rfl)) rfl), (good_in (tb_1 (List.mem_of_getElem? (i := 8) rfl)) rfl), ⟨by decide +kernel, by decide +kernel⟩, by decide +kernel⟩
theorem yv_X12_isElse : Cond.instanceMethod yX12_isElse ∈ lw_good ∧ Cond.selects yX12_isElse.cls yX12_isElse yX12_isElse ∈ lw_good := ⟨(good_in (tb_9 (List.mem_of_getElem? (i := 99) rfl)) rfl), (good_in (List.mem_append_left _ (by decide +kernel)) rfl)⟩
theorem lk_X12_415 : Lk RX12 415 yX12_isAnd := Or.inl (good_in (tb_9 (List.mem_of_getElem? (i := 101) rfl)) rfl)
theorem yk_X12_isAnd : Yk yX12_isAnd cX12_isAnd 1 (some .boolean) 0 := ⟨(good_in (tb_9 (List.mem_of_getElem? (i := 104) rfl)) rfl), (good_in (tb_1 (List.mem_of_getElem? (i := 8) rfl)) rfl), ⟨by decide +kernel, by decide +kernel⟩, by decide +kernel⟩
theorem yv_X12_isAnd : Cond.instanceMethod yX12_isAnd ∈ lw_good ∧ Cond.selects yX12_isAnd.cls yX12_isAnd yX12_isAnd ∈ lw_good := ⟨(good_in (tb_9 (List.mem_of_getElem? (i := 103) rfl)) rfl), (good_in (List.mem_append_left _ (by decide +kernel)) rfl)⟩
theorem lk_X12_418 : Lk RX12 418 yX12_isOr := Or.inl (good_in (tb_9 (List.mem_of_getElem? (i := 105) rfl)) rfl)
theorem yk_X12_isOr : Yk yX12_isOr cX12_isOr 1 (some .boolean) 0 := ⟨(good_in (tb_9 (List.mem_of_getElem? (i := 108) rfl)) rfl), (good_in (tb_1 (List.mem_of_getElem? (i := 8) rfl)) rfl), ⟨by decide +kernel, by decide +kernel⟩, by decide +kernel⟩
theorem yv_X12_isOr : Cond.instanceMethod yX12_isOr ∈ lw_good ∧ Cond.selects yX12_isOr.cls yX12_isOr yX12_isOr ∈ lw_good := ⟨(good_in (tb_9 (List.mem_of_getElem? (i := 107) rfl)) rfl), (good_in (List.mem_append_left _ (by decide +kernel)) rfl)⟩
theorem lk_X12_421 : Lk RX12 421 yX12_isNot := Or.inl (good_in (tb_9 (List.mem_of_getElem? (i := 109) rfl)) rfl)
theorem yk_X12_isNot : Yk yX12_isNot cX12_isNot 1 (some .boolean) 0 := ⟨(good_in (tb_9 (List.mem_of_getElem? (i := 112) rfl)) rfl), (good_in (tb_1 (List.mem_of_getElem? (i := 8) rfl)) rfl), ⟨by decide +kernel, by decide +kernel⟩, by decide +kernel⟩
theorem yv_X12_isNot : Cond.instanceMethod yX12_isNot ∈ lw_good ∧ Cond.selects yX12_isNot.cls yX12_isNot yX12_isNot ∈ lw_good := ⟨(good_in (tb_9 (List.mem_of_getElem? (i := 111) rfl)) rfl), (good_in (List.mem_append_left _ (by decide +kernel)) rfl)⟩
theorem lk_X12_424 : Lk RX12 424 yX12_isLeast := Or.inl (good_in (tb_9 (List.mem_of_getElem? (i := 113) rfl)) rfl)
theorem yk_X12_isLeast : Yk yX12_isLeast cX12_isLeast 1 (some .boolean) 0 := ⟨(good_in (tb_9 (List.mem_of_getElem? (i := 116) rfl)) rfl), (good_in (tb_1 (List.mem_of_getElem? (i := 8) rfl)) rfl), ⟨by decide +kernel, by decide +kernel⟩, by decide +kernel⟩
theorem yv_X12_isLeast : Cond.instanceMethod yX12_isLeast ∈ lw_good ∧ Cond.selects yX12_isLeast.cls yX12_isLeast yX12_isLeast ∈ lw_good := ⟨(good_in (tb_9 (List.mem_of_getElem? (i := 115) rfl)) rfl), (good_in (List.mem_append_left _ (by decide +kernel)) rfl)⟩
theorem lk_X12_427 : Lk RX12 427 yX12_isMost := Or.inl (good_in (tb_9 (List.mem_of_getElem? (i := 117) rfl)) rfl)
theorem yk_X12_isMost : Yk yX12_isMost cX12_isMost 1 (some .boolean) 0 := ⟨(good_in (tb_9 (List.mem_of_getElem? (i := 120) rfl)) rfl), (good_in (tb_1 (List.mem_of_getElem? (i := 8) rfl)) rfl), ⟨by decide +kernel, by decide +kernel⟩, by decide +kernel⟩
theorem yv_X12_isMost : Cond.instanceMethod yX12_isMost ∈ lw_good ∧ Cond.selects yX12_isMost.cls yX12_isMost yX12_isMost ∈ lw_good := ⟨(good_in (tb_9 (List.mem_of_getElem? (i := 119) rfl)) rfl), (good_in (List.mem_append_left _ (by decide +kernel)) rfl)⟩
theorem fl_X12_362 : Fl RX12 362 14 28 := kc_X12.fl (ref := "LeapNetModel") (by decide) (Or.inl (good_in (tb_7 (List.mem_of_getElem? (i := 38) rfl)) rfl)) (Or.inl rfl)
theorem fl_X12_430 : Fl RX12 430 14 31 := kc_X12.fl (ref := "LeapNetModel") (by decide) (Or.inl (good_in (tb_7 (List.mem_of_getElem? (i := 41) rfl)) rfl)) (Or.inl rfl)
theorem fl_X12_73 : Fl RX12 73 14 40 := kc_X12.fl (ref := "LeapNetModel") (by decide) (Or.inl (good_in (tb_7 (List.mem_of_getElem? (i := 50) rfl)) rfl)) (Or.inl rfl)
theorem fl_X12_67 : Fl RX12 67 14 38 := kc_X12.fl (ref := "LeapNetModel") (by decide) (Or.inl (good_in (tb_7 (List.mem_of_getElem? (i := 48) rfl)) rfl)) (Or.inl rfl)
theorem fl_X12_433 : Fl RX12 433 14 32 := kc_X12.fl (ref := "LeapNetModel") (by decide) (Or.inl (good_in (tb_7 (List.mem_of_getElem? (i := 42) rfl)) rfl)) (Or.inl rfl)
theorem fp_X12_433 : Fp RX12 433 14 32 .int := ⟨_, _, _, _, "LeapNetModel", kc_X12, by decide, rfl, Or.inl (good_in (tb_7 (List.mem_of_getElem? (i := 42) rfl)) rfl), Or.inl rfl, rfl⟩
theorem lk_X12_440 : Lk RX12 440 yX12_isSign := Or.inl (good_in (tb_9 (List.mem_of_getElem? (i := 133) rfl)) rfl)
theorem yk_X12_isSign : Yk yX12_isSign cX12_isSign 2 (some .boolean) 1 := ⟨(good_in (tb_9 (List.mem_of_getElem? (i := 136) rfl)) rfl), (good_in (tb_1 (List.mem_of_getElem? (i := 8) rfl)) rfl), ⟨by decide +kernel, by decide +kernel⟩, by decide +kernel⟩
theorem yv_X12_isSign : Cond.instanceMethod yX12_isSign ∈ lw_good ∧ Cond.selects yX12_isSign.cls yX12_isSign yX12_isSign ∈ lw_good := ⟨(good_in (tb_9 (List.mem_of_getElem? (i := 135) rfl)) rfl), (good_in (List.mem_append_left _ (by decide +kernel)) rfl)⟩
theorem lk_X12_443 : Lk RX12 443 yX12_isKept := Or.inl (good_in (tb_9 (List.mem_of_getElem? (i := 85) rfl)) rfl)
theorem yk_X12_isKept : Yk yX12_isKept cX12_isKept 1 (some .boolean) 0 := ⟨(good_in (tb_9 (List.mem_of_getElem? (i := 88) rfl)) rfl), (good_in (tb_1 (List.mem_of_getElem? (i := 8) rfl)) rfl), ⟨by decide +kernel, by decide +kernel⟩, by decide +kernel⟩
theorem yv_X12_isKept : Cond.instanceMethod yX12_isKept ∈ lw_good ∧ Cond.selects yX12_isKept.cls yX12_isKept yX12_isKept ∈ lw_good := ⟨(good_in (tb_9 (List.mem_of_getElem? (i := 87) rfl)) rfl), (good_in (List.mem_append_left _ (by decide +kernel)) rfl)⟩
theorem lk_X12_437 : Lk RX12 437 yX12_canBeginSum := Or.inl (good_in (tb_9 (List.mem_of_getElem? (i := 145) rfl)) rfl)
theorem yk_X12_canBeginSum : Yk yX12_canBeginSum cX12_canBeginSum 1 (some .boolean) 0 := ⟨(good_in (tb_9 (List.mem_of_getElem? (i := 148) rfl)) rfl), (good_in (tb_1 (List.mem_of_getElem? (i := 8) rfl)) rfl), ⟨by decide +kernel, by decide +kernel⟩, by decide +kernel⟩
theorem yv_X12_canBeginSum : Cond.instanceMethod yX12_canBeginSum ∈ lw_good ∧ Cond.selects yX12_canBeginSum.cls yX12_canBeginSum yX12_canBeginSum ∈ lw_good := ⟨(good_in (tb_9 (List.mem_of_getElem? (i := 147) rfl)) rfl), (good_in (List.mem_append_left _ (by decide +kernel)) rfl)⟩
theorem lk_X12_446 : Lk RX12 446 yX12_canBegin := Or.inl (good_in (tb_9 (List.mem_of_getElem? (i := 141) rfl)) rfl)
theorem yk_X12_canBegin : Yk yX12_canBegin cX12_canBegin 1 (some .boolean) 0 := ⟨(good_in (tb_9 (List.mem_of_getElem? (i := 144) rfl)) rfl), (good_in (tb_1 (List.mem_of_getElem? (i := 8) rfl)) rfl), ⟨by decide +kernel, by decide +kernel⟩, by decide +kernel⟩
theorem yv_X12_canBegin : Cond.instanceMethod yX12_canBegin ∈ lw_good ∧ Cond.selects yX12_canBegin.cls yX12_canBegin yX12_canBegin ∈ lw_good := ⟨(good_in (tb_9 (List.mem_of_getElem? (i := 143) rfl)) rfl), (good_in (List.mem_append_left _ (by decide +kernel)) rfl)⟩
theorem lk_X12_449 : Lk RX12 449 yX12_wrongToken := Or.inl (good_in (tb_9 (List.mem_of_getElem? (i := 121) rfl)) rfl)
theorem yk_X12_wrongToken : Yk yX12_wrongToken cX12_wrongToken 1 none 0 := ⟨(good_in (tb_9 (List.mem_of_getElem? (i := 124) rfl)) rfl), (good_in (tb_1 (List.mem_of_getElem? (i := 8) rfl)) rfl), ⟨by decide +kernel, by decide +kernel⟩, by decide +kernel⟩
theorem yv_X12_wrongToken : Cond.instanceMethod yX12_wrongToken ∈ lw_good ∧ Cond.selects yX12_wrongToken.cls yX12_wrongToken yX12_wrongToken ∈ lw_good := ⟨(good_in (tb_9 (List.mem_of_getElem? (i := 123) rfl)) rfl), (good_in (List.mem_append_left _ (by decide +kernel)) rfl)⟩
theorem lk_X12_455 : Lk RX12 455 yX12_next := Or.inl (good_in (tb_9 (List.mem_of_getElem? (i := 48) rfl)) rfl)
theorem yk_X12_next : Yk yX12_next cX12_next 2 none 0 := ⟨(good_in (tb_9 (List.mem_of_getElem? (i := 51) rfl)) rfl), (good_in (tb_1 (List.mem_of_getElem? (i := 8) rfl)) rfl), ⟨by decide +kernel, by decide +kernel⟩, by decide +kernel⟩
theorem yv_X12_next : Cond.instanceMethod yX12_next ∈ lw_good ∧ Cond.selects yX12_next.cls yX12_next yX12_next ∈ lw_good := ⟨(good_in (tb_9 (List.mem_of_getElem? (i := 50) rfl)) rfl), (good_in (List.mem_append_left _ (by decide +kernel)) rfl)⟩
theorem lk_X12_458 : Lk RX12 458 yX12_readTest := Or.inl (good_in (tb_9 (List.mem_of_getElem? (i := 173) rfl)) rfl)
theorem yk_X12_readTest : Yk yX12_readTest cX12_readTest 3 none 1 := ⟨(good_in (tb_9 (List.mem_of_getElem? (i := 176) rfl)) rfl), (good_in (tb_1 (List.mem_of_getElem? (i := 8) rfl)) rfl), ⟨by decide +kernel, by decide +kernel⟩, by decide +kernel⟩
theorem yv_X12_readTest : Cond.instanceMethod yX12_readTest ∈ lw_good ∧ Cond.selects yX12_readTest.cls yX12_readTest yX12_readTest ∈ lw_good := ⟨(good_in (tb_9 (List.mem_of_getElem? (i := 175) rfl)) rfl), (good_in (List.mem_append_left _ (by decide +kernel)) rfl)⟩
theorem lk_X12_452 : Lk RX12 452 yX12_readSum := Or.inl (good_in (tb_9 (List.mem_of_getElem? (i := 149) rfl)) rfl)
theorem yk_X12_readSum : Yk yX12_readSum cX12_readSum 3 none 1 := ⟨(good_in (tb_9 (List.mem_of_getElem? (i := 152) rfl)) rfl), (good_in (tb_1 (List.mem_of_getElem? (i := 8) rfl)) rfl), ⟨by decide +kernel, by decide +kernel⟩, by decide +kernel⟩
theorem yv_X12_readSum : Cond.instanceMethod yX12_readSum ∈ lw_good ∧ Cond.selects yX12_readSum.cls yX12_readSum yX12_readSum ∈ lw_good := ⟨(good_in (tb_9 (List.mem_of_getElem? (i := 151) rfl)) rfl), (good_in (List.mem_append_left _ (by decide +kernel)) rfl)⟩
theorem lk_X12_461 : Lk RX12 461 yX12_mark := Or.inl (good_in (tb_9 (List.mem_of_getElem? (i := 161) rfl)) rfl)
theorem yk_X12_mark : Yk yX12_mark cX12_mark 3 none 2 := ⟨(good_in (tb_9 (List.mem_of_getElem? (i := 164) rfl)) rfl), (good_in (tb_1 (List.mem_of_getElem? (i := 8) rfl)) rfl), ⟨by decide +kernel, by decide +kernel⟩, by decide +kernel⟩
theorem yv_X12_mark : Cond.instanceMethod yX12_mark ∈ lw_good ∧ Cond.selects yX12_mark.cls yX12_mark yX12_mark ∈ lw_good := ⟨(good_in (tb_9 (List.mem_of_getElem? (i := 163) rfl)) rfl), (good_in (List.mem_append_left _ (by decide +kernel)) rfl)⟩
theorem lk_X12_464 : Lk RX12 464 yX12_readWhole := Or.inl (good_in (tb_9 (List.mem_of_getElem? (i := 137) rfl)) rfl)
theorem yk_X12_readWhole : Yk yX12_readWhole cX12_readWhole 4 none 1 := ⟨(good_in (tb_9 (List.mem_of_getElem? (i := 140) rfl)) rfl), (good_in (tb_1 (List.mem_of_getElem? (i := 8) rfl)) rfl), ⟨by decide +kernel, by decide +kernel⟩, by decide +kernel⟩
theorem yv_X12_readWhole : Cond.instanceMethod yX12_readWhole ∈ lw_good ∧ Cond.selects yX12_readWhole.cls yX12_readWhole yX12_readWhole ∈ lw_good := ⟨(good_in (tb_9 (List.mem_of_getElem? (i := 139) rfl)) rfl), (good_in (List.mem_append_left _ (by decide +kernel)) rfl)⟩
theorem lk_X12_467 : Lk RX12 467 yX12_readOne := Or.inl (good_in (tb_9 (List.mem_of_getElem? (i := 177) rfl)) rfl)
theorem yk_X12_readOne : Yk yX12_readOne cX12_readOne 4 none 1 := ⟨(good_in (tb_9 (List.mem_of_getElem? (i := 180) rfl)) rfl), (good_in (tb_1 (List.mem_of_getElem? (i := 8) rfl)) rfl), ⟨by decide +kernel, by decide +kernel⟩, by decide +kernel⟩
theorem yv_X12_readOne : Cond.instanceMethod yX12_readOne ∈ lw_good ∧ Cond.selects yX12_readOne.cls yX12_readOne yX12_readOne ∈ lw_good := ⟨(good_in (tb_9 (List.mem_of_getElem? (i := 179) rfl)) rfl), (good_in (List.mem_append_left _ (by decide +kernel)) rfl)⟩
theorem lk_X12_470 : Lk RX12 470 yX12_readItem := Or.inl (good_in (tb_9 (List.mem_of_getElem? (i := 153) rfl)) rfl)
theorem yk_X12_readItem : Yk yX12_readItem cX12_readItem 3 none 1 := ⟨(good_in (tb_9 (List.mem_of_getElem? (i := 156) rfl)) rfl), (good_in (tb_1 (List.mem_of_getElem? (i := 8) rfl)) rfl), ⟨by decide +kernel, by decide +kernel⟩, by decide +kernel⟩
theorem yv_X12_readItem : Cond.instanceMethod yX12_readItem ∈ lw_good ∧ Cond.selects yX12_readItem.cls yX12_readItem yX12_readItem ∈ lw_good := ⟨(good_in (tb_9 (List.mem_of_getElem? (i := 155) rfl)) rfl), (good_in (List.mem_append_left _ (by decide +kernel)) rfl)⟩
theorem lk_X12_473 : Lk RX12 473 yX12_readAtom := Or.inl (good_in (tb_9 (List.mem_of_getElem? (i := 157) rfl)) rfl)
theorem yk_X12_readAtom : Yk yX12_readAtom cX12_readAtom 4 none 1 := ⟨(good_in (tb_9 (List.mem_of_getElem? (i := 160) rfl)) rfl), (good_in (tb_1 (List.mem_of_getElem? (i := 8) rfl)) rfl), ⟨by decide +kernel, by decide +kernel⟩, by decide +kernel⟩
theorem yv_X12_readAtom : Cond.instanceMethod yX12_readAtom ∈ lw_good ∧ Cond.selects yX12_readAtom.cls yX12_readAtom yX12_readAtom ∈ lw_good := ⟨(good_in (tb_9 (List.mem_of_getElem? (i := 159) rfl)) rfl), (good_in (List.mem_append_left _ (by decide +kernel)) rfl)⟩
theorem lk_X12_476 : Lk RX12 476 yX12_readFew := Or.inl (good_in (tb_9 (List.mem_of_getElem? (i := 165) rfl)) rfl)
theorem yk_X12_readFew : Yk yX12_readFew cX12_readFew 3 none 2 := ⟨(good_in (tb_9 (List.mem_of_getElem? (i := 168) rfl)) rfl), (good_in (tb_1 (List.mem_of_getElem? (i := 8) rfl)) rfl), ⟨by decide +kernel, by decide +kernel⟩, by decide +kernel⟩
theorem yv_X12_readFew : Cond.instanceMethod yX12_readFew ∈ lw_good ∧ Cond.selects yX12_readFew.cls yX12_readFew yX12_readFew ∈ lw_good := ⟨(good_in (tb_9 (List.mem_of_getElem? (i := 167) rfl)) rfl), (good_in (List.mem_append_left _ (by decide +kernel)) rfl)⟩
theorem lk_X12_479 : Lk RX12 479 yX12_variable := Or.inl (good_in (tb_9 (List.mem_of_getElem? (i := 72) rfl)) rfl)
theorem yk_X12_variable : Yk yX12_variable cX12_variable 1 (some .int) 0 := ⟨(good_in (tb_9 (List.mem_of_getElem? (i := 75) rfl)) rfl), (good_in (tb_1 (List.mem_of_getElem? (i := 8) rfl)) rfl), ⟨by decide +kernel, by decide +kernel⟩, by decide +kernel⟩
theorem yv_X12_variable : Cond.instanceMethod yX12_variable ∈ lw_good ∧ Cond.selects yX12_variable.cls yX12_variable yX12_variable ∈ lw_good := ⟨(good_in (tb_9 (List.mem_of_getElem? (i := 74) rfl)) rfl), (good_in (List.mem_append_left _ (by decide +kernel)) rfl)⟩
theorem lk_X12_483 : Lk RX12 483 yX12_named := Or.inl (good_in (tb_9 (List.mem_of_getElem? (i := 129) rfl)) rfl)
theorem yk_X12_named : Yk yX12_named cX12_named 2 (some .int) 0 := ⟨(good_in (tb_9 (List.mem_of_getElem? (i := 132) rfl)) rfl), (good_in (tb_1 (List.mem_of_getElem? (i := 8) rfl)) rfl), ⟨by decide +kernel, by decide +kernel⟩, by decide +kernel⟩
theorem yv_X12_named : Cond.instanceMethod yX12_named ∈ lw_good ∧ Cond.selects yX12_named.cls yX12_named yX12_named ∈ lw_good := ⟨(good_in (tb_9 (List.mem_of_getElem? (i := 131) rfl)) rfl), (good_in (List.mem_append_left _ (by decide +kernel)) rfl)⟩
theorem lk_X12_486 : Lk RX12 486 yX12_readDeeper := Or.inl (good_in (tb_9 (List.mem_of_getElem? (i := 169) rfl)) rfl)
theorem yk_X12_readDeeper : Yk yX12_readDeeper cX12_readDeeper 2 none 1 := ⟨(good_in (tb_9 (List.mem_of_getElem? (i := 172) rfl)) rfl), (good_in (tb_1 (List.mem_of_getElem? (i := 8) rfl)) rfl), ⟨by decide +kernel, by decide +kernel⟩, by decide +kernel⟩
theorem yv_X12_readDeeper : Cond.instanceMethod yX12_readDeeper ∈ lw_good ∧ Cond.selects yX12_readDeeper.cls yX12_readDeeper yX12_readDeeper ∈ lw_good := ⟨(good_in (tb_9 (List.mem_of_getElem? (i := 171) rfl)) rfl), (good_in (List.mem_append_left _ (by decide +kernel)) rfl)⟩
theorem fp_X12_430 : Fp RX12 430 14 31 .int := ⟨_, _, _, _, "LeapNetModel", kc_X12, by decide, rfl, Or.inl (good_in (tb_7 (List.mem_of_getElem? (i := 41) rfl)) rfl), Or.inl rfl, rfl⟩
theorem fl_X12_64 : Fl RX12 64 14 37 := kc_X12.fl (ref := "LeapNetModel") (by decide) (Or.inl (good_in (tb_7 (List.mem_of_getElem? (i := 47) rfl)) rfl)) (Or.inl rfl)
theorem fl_X12_489 : Fl RX12 489 14 17 := kc_X12.fl (ref := "LeapNetModel") (by decide) (Or.inl (good_in (tb_7 (List.mem_of_getElem? (i := 27) rfl)) rfl)) (Or.inl rfl)
theorem fp_X12_489 : Fp RX12 489 14 17 .int := ⟨_, _, _, _, "LeapNetModel", kc_X12, by decide, rfl, Or.inl (good_in (tb_7 (List.mem_of_getElem? (i := 27) rfl)) rfl), Or.inl rfl, rfl⟩
theorem lk_X12_492 : Lk RX12 492 yX12_lay := Or.inl (good_in (tb_9 (List.mem_of_getElem? (i := 40) rfl)) rfl)
theorem yk_X12_lay : Yk yX12_lay cX12_lay 3 none 1 := ⟨(good_in (tb_9 (List.mem_of_getElem? (i := 43) rfl)) rfl), (good_in (tb_1 (List.mem_of_getElem? (i := 8) rfl)) rfl), ⟨by decide +kernel, by decide +kernel⟩, by decide +kernel⟩
theorem yv_X12_lay : Cond.instanceMethod yX12_lay ∈ lw_good ∧ Cond.selects yX12_lay.cls yX12_lay yX12_lay ∈ lw_good := ⟨(good_in (tb_9 (List.mem_of_getElem? (i := 42) rfl)) rfl), (good_in (List.mem_append_left _ (by decide +kernel)) rfl)⟩
theorem fp_X12_336 : Fp RX12 336 14 18 .int := ⟨_, _, _, _, "LeapNetModel", kc_X12, by decide, rfl, Or.inl (good_in (tb_7 (List.mem_of_getElem? (i := 28) rfl)) rfl), Or.inl rfl, rfl⟩
theorem fp_X12_379 : Fp RX12 379 14 23 .boolean := ⟨_, _, _, _, "LeapNetModel", kc_X12, by decide, rfl, Or.inl (good_in (tb_7 (List.mem_of_getElem? (i := 33) rfl)) rfl), Or.inl rfl, rfl⟩
theorem lk_X12_498 : Lk RX12 498 yX12_readDef := Or.inl (good_in (tb_9 (List.mem_of_getElem? (i := 68) rfl)) rfl)
theorem yk_X12_readDef : Yk yX12_readDef cX12_readDef 3 none 0 := ⟨(good_in (tb_9 (List.mem_of_getElem? (i := 71) rfl)) rfl), (good_in (tb_1 (List.mem_of_getElem? (i := 8) rfl)) rfl), ⟨by decide +kernel, by decide +kernel⟩, by decide +kernel⟩
theorem yv_X12_readDef : Cond.instanceMethod yX12_readDef ∈ lw_good ∧ Cond.selects yX12_readDef.cls yX12_readDef yX12_readDef ∈ lw_good := ⟨(good_in (tb_9 (List.mem_of_getElem? (i := 70) rfl)) rfl), (good_in (List.mem_append_left _ (by decide +kernel)) rfl)⟩
theorem fl_X12_386 : Fl RX12 386 14 22 := kc_X12.fl (ref := "LeapNetModel") (by decide) (Or.inl (good_in (tb_7 (List.mem_of_getElem? (i := 32) rfl)) rfl)) (Or.inl rfl)
theorem fp_X12_495 : Fp RX12 495 14 30 .int := ⟨_, _, _, _, "LeapNetModel", kc_X12, by decide, rfl, Or.inl (good_in (tb_7 (List.mem_of_getElem? (i := 40) rfl)) rfl), Or.inl rfl, rfl⟩
theorem fl_X12_49 : Fl RX12 49 14 20 := kc_X12.fl (ref := "LeapNetModel") (by decide) (Or.inl (good_in (tb_7 (List.mem_of_getElem? (i := 30) rfl)) rfl)) (Or.inl rfl)
theorem fl_X12_45 : Fl RX12 45 14 19 := kc_X12.fl (ref := "LeapNetModel") (by decide) (Or.inl (good_in (tb_7 (List.mem_of_getElem? (i := 29) rfl)) rfl)) (Or.inl rfl)
theorem kJ_X12_523 : Cond.constantLong RX12 523 15 ∈ lw_good := (good_in (tb_9 (List.mem_of_getElem? (i := 189) rfl)) rfl)
theorem fl_X12_525 : Fl RX12 525 14 47 := kc_X12.fl (ref := "LeapNetModel") (by decide) (Or.inl (good_in (tb_7 (List.mem_of_getElem? (i := 57) rfl)) rfl)) (Or.inl rfl)
theorem fp_X12_525 : Fp RX12 525 14 47 .int := ⟨_, _, _, _, "LeapNetModel", kc_X12, by decide, rfl, Or.inl (good_in (tb_7 (List.mem_of_getElem? (i := 57) rfl)) rfl), Or.inl rfl, rfl⟩
theorem fl_X12_528 : Fl RX12 528 14 49 := kc_X12.fl (ref := "LeapNetModel") (by decide) (Or.inl (good_in (tb_7 (List.mem_of_getElem? (i := 59) rfl)) rfl)) (Or.inl rfl)
theorem fp_X12_286 : Fp RX12 286 14 48 .int := ⟨_, _, _, _, "LeapNetModel", kc_X12, by decide, rfl, Or.inl (good_in (tb_7 (List.mem_of_getElem? (i := 58) rfl)) rfl), Or.inl rfl, rfl⟩
theorem fp_X12_528 : Fp RX12 528 14 49 .int := ⟨_, _, _, _, "LeapNetModel", kc_X12, by decide, rfl, Or.inl (good_in (tb_7 (List.mem_of_getElem? (i := 59) rfl)) rfl), Or.inl rfl, rfl⟩
theorem lk_X12_548 : Lk RX12 548 yX12_noticeOf := Or.inl (good_in (tb_9 (List.mem_of_getElem? (i := 198) rfl)) rfl)
theorem yk_X12_noticeOf : Yk yX12_noticeOf cX12_noticeOf 4 (some .int) 2 := ⟨(good_in (tb_9 (List.mem_of_getElem? (i := 201) rfl)) rfl), (good_in (tb_1 (List.mem_of_getElem? (i := 8) rfl)) rfl), ⟨by decide +kernel, by decide +kernel⟩, by decide +kernel⟩
theorem yv_X12_noticeOf : Cond.instanceMethod yX12_noticeOf ∈ lw_good ∧ Cond.selects yX12_noticeOf.cls yX12_noticeOf yX12_noticeOf ∈ lw_good := ⟨(good_in (tb_9 (List.mem_of_getElem? (i := 200) rfl)) rfl), (good_in (List.mem_append_left _ (by decide +kernel)) rfl)⟩
theorem fl_X12_551 : Fl RX12 551 14 56 := kc_X12.fl (ref := "LeapNetModel") (by decide) (Or.inl (good_in (tb_7 (List.mem_of_getElem? (i := 66) rfl)) rfl)) (Or.inl rfl)
theorem fl_X12_554 : Fl RX12 554 14 57 := kc_X12.fl (ref := "LeapNetModel") (by decide) (Or.inl (good_in (tb_7 (List.mem_of_getElem? (i := 67) rfl)) rfl)) (Or.inl rfl)
theorem fl_X12_110 : Fl RX12 110 14 58 := kc_X12.fl (ref := "LeapNetModel") (by decide) (Or.inl (good_in (tb_7 (List.mem_of_getElem? (i := 68) rfl)) rfl)) (Or.inl rfl)
theorem fl_X12_113 : Fl RX12 113 14 59 := kc_X12.fl (ref := "LeapNetModel") (by decide) (Or.inl (good_in (tb_7 (List.mem_of_getElem? (i := 69) rfl)) rfl)) (Or.inl rfl)
theorem fp_X12_551 : Fp RX12 551 14 56 .int := ⟨_, _, _, _, "LeapNetModel", kc_X12, by decide, rfl, Or.inl (good_in (tb_7 (List.mem_of_getElem? (i := 66) rfl)) rfl), Or.inl rfl, rfl⟩
theorem fp_X12_554 : Fp RX12 554 14 57 .int := ⟨_, _, _, _, "LeapNetModel", kc_X12, by decide, rfl, Or.inl (good_in (tb_7 (List.mem_of_getElem? (i := 67) rfl)) rfl), Or.inl rfl, rfl⟩
theorem fl_X12_116 : Fl RX12 116 14 60 := kc_X12.fl (ref := "LeapNetModel") (by decide) (Or.inl (good_in (tb_7 (List.mem_of_getElem? (i := 70) rfl)) rfl)) (Or.inl rfl)
theorem lk_X12_557 : Lk RX12 557 yX12_findStamps := Or.inl (good_in (tb_9 (List.mem_of_getElem? (i := 218) rfl)) rfl)
theorem yk_X12_findStamps : Yk yX12_findStamps cX12_findStamps 3 none 0 := ⟨(good_in (tb_9 (List.mem_of_getElem? (i := 221) rfl)) rfl), (good_in (tb_1 (List.mem_of_getElem? (i := 8) rfl)) rfl), ⟨by decide +kernel, by decide +kernel⟩, by decide +kernel⟩
theorem yv_X12_findStamps : Cond.instanceMethod yX12_findStamps ∈ lw_good ∧ Cond.selects yX12_findStamps.cls yX12_findStamps yX12_findStamps ∈ lw_good := ⟨(good_in (tb_9 (List.mem_of_getElem? (i := 220) rfl)) rfl), (good_in (List.mem_append_left _ (by decide +kernel)) rfl)⟩
theorem lk_X12_560 : Lk RX12 560 yX12_areWrong := Or.inl (good_in (tb_9 (List.mem_of_getElem? (i := 222) rfl)) rfl)
theorem yk_X12_areWrong : Yk yX12_areWrong cX12_areWrong 3 (some .boolean) 2 := ⟨(good_in (tb_9 (List.mem_of_getElem? (i := 225) rfl)) rfl), (good_in (tb_1 (List.mem_of_getElem? (i := 8) rfl)) rfl), ⟨by decide +kernel, by decide +kernel⟩, by decide +kernel⟩
theorem yv_X12_areWrong : Cond.instanceMethod yX12_areWrong ∈ lw_good ∧ Cond.selects yX12_areWrong.cls yX12_areWrong yX12_areWrong ∈ lw_good := ⟨(good_in (tb_9 (List.mem_of_getElem? (i := 224) rfl)) rfl), (good_in (List.mem_append_left _ (by decide +kernel)) rfl)⟩
theorem kJ_X12_564 : Cond.constantLong RX12 564 2 ∈ lw_good := (good_in (tb_9 (List.mem_of_getElem? (i := 230) rfl)) rfl)
theorem fl_X12_197 : Fl RX12 197 14 104 := kc_X12.fl (ref := "LeapNetModel") (by decide) (Or.inl (good_in (tb_7 (List.mem_of_getElem? (i := 114) rfl)) rfl)) (Or.inl rfl)
theorem lk_X12_566 : Lk RX12 566 yJ6_bitCount_0f7a4 := Or.inl (good_in (tb_9 (List.mem_of_getElem? (i := 231) rfl)) rfl)
theorem lk_X12_574 : Lk RX12 574 yX12_readNumber := Or.inl (good_in (tb_10 (List.mem_of_getElem? (i := 0) rfl)) rfl)
theorem yk_X12_readNumber : Yk yX12_readNumber cX12_readNumber 4 (some .int) 2 := ⟨(good_in (tb_10 (List.mem_of_getElem? (i := 3) rfl)) rfl), (good_in (tb_1 (List.mem_of_getElem? (i := 8) rfl)) rfl), ⟨by decide +kernel, by decide +kernel⟩, by decide +kernel⟩
theorem yv_X12_readNumber : Cond.instanceMethod yX12_readNumber ∈ lw_good ∧ Cond.selects yX12_readNumber.cls yX12_readNumber yX12_readNumber ∈ lw_good := ⟨(good_in (tb_10 (List.mem_of_getElem? (i := 2) rfl)) rfl), (good_in (List.mem_append_left _ (by decide +kernel)) rfl)⟩
theorem lk_X12_577 : Lk RX12 577 yX12_readSign := Or.inl (good_in (tb_10 (List.mem_of_getElem? (i := 4) rfl)) rfl)
theorem yk_X12_readSign : Yk yX12_readSign cX12_readSign 2 none 1 := ⟨(good_in (tb_10 (List.mem_of_getElem? (i := 7) rfl)) rfl), (good_in (tb_1 (List.mem_of_getElem? (i := 8) rfl)) rfl), ⟨by decide +kernel, by decide +kernel⟩, by decide +kernel⟩
theorem yv_X12_readSign : Cond.instanceMethod yX12_readSign ∈ lw_good ∧ Cond.selects yX12_readSign.cls yX12_readSign yX12_readSign ∈ lw_good := ⟨(good_in (tb_10 (List.mem_of_getElem? (i := 6) rfl)) rfl), (good_in (List.mem_append_left _ (by decide +kernel)) rfl)⟩
theorem fl_X12_137 : Fl RX12 137 14 76 := kc_X12.fl (ref := "LeapNetModel") (by decide) (Or.inl (good_in (tb_7 (List.mem_of_getElem? (i := 86) rfl)) rfl)) (Or.inl rfl)
theorem fl_X12_571 : Fl RX12 571 14 62 := kc_X12.fl (ref := "LeapNetModel") (by decide) (Or.inl (good_in (tb_7 (List.mem_of_getElem? (i := 72) rfl)) rfl)) (Or.inl rfl)
theorem fp_X12_571 : Fp RX12 571 14 62 .int := ⟨_, _, _, _, "LeapNetModel", kc_X12, by decide, rfl, Or.inl (good_in (tb_7 (List.mem_of_getElem? (i := 72) rfl)) rfl), Or.inl rfl, rfl⟩
theorem fl_X12_134 : Fl RX12 134 14 75 := kc_X12.fl (ref := "LeapNetModel") (by decide) (Or.inl (good_in (tb_7 (List.mem_of_getElem? (i := 85) rfl)) rfl)) (Or.inl rfl)
theorem lk_X12_583 : Lk RX12 583 yX12_readTime := Or.inl (good_in (tb_10 (List.mem_of_getElem? (i := 8) rfl)) rfl)
theorem yk_X12_readTime : Yk yX12_readTime cX12_readTime 4 none 1 := ⟨(good_in (tb_10 (List.mem_of_getElem? (i := 11) rfl)) rfl), (good_in (tb_1 (List.mem_of_getElem? (i := 8) rfl)) rfl), ⟨by decide +kernel, by decide +kernel⟩, by decide +kernel⟩
theorem yv_X12_readTime : Cond.instanceMethod yX12_readTime ∈ lw_good ∧ Cond.selects yX12_readTime.cls yX12_readTime yX12_readTime ∈ lw_good := ⟨(good_in (tb_10 (List.mem_of_getElem? (i := 10) rfl)) rfl), (good_in (List.mem_append_left _ (by decide +kernel)) rfl)⟩
theorem lk_X12_580 : Lk RX12 580 yX12_readLine := Or.inl (good_in (tb_9 (List.mem_of_getElem? (i := 236) rfl)) rfl)
theorem yk_X12_readLine : Yk yX12_readLine cX12_readLine 4 none 1 := ⟨(good_in (tb_9 (List.mem_of_getElem? (i := 239) rfl)) rfl), (good_in (tb_1 (List.mem_of_getElem? (i := 8) rfl)) rfl), ⟨by decide +kernel, by decide +kernel⟩, by decide +kernel⟩
theorem yv_X12_readLine : Cond.instanceMethod yX12_readLine ∈ lw_good ∧ Cond.selects yX12_readLine.cls yX12_readLine yX12_readLine ∈ lw_good := ⟨(good_in (tb_9 (List.mem_of_getElem? (i := 238) rfl)) rfl), (good_in (List.mem_append_left _ (by decide +kernel)) rfl)⟩
theorem fl_X12_140 : Fl RX12 140 14 77 := kc_X12.fl (ref := "LeapNetModel") (by decide) (Or.inl (good_in (tb_7 (List.mem_of_getElem? (i := 87) rfl)) rfl)) (Or.inl rfl)
theorem lk_X12_586 : Lk RX12 586 yX12_readHow := Or.inl (good_in (tb_10 (List.mem_of_getElem? (i := 12) rfl)) rfl)
theorem yk_X12_readHow : Yk yX12_readHow cX12_readHow 3 none 1 := ⟨(good_in (tb_10 (List.mem_of_getElem? (i := 15) rfl)) rfl), (good_in (tb_1 (List.mem_of_getElem? (i := 8) rfl)) rfl), ⟨by decide +kernel, by decide +kernel⟩, by decide +kernel⟩
theorem yv_X12_readHow : Cond.instanceMethod yX12_readHow ∈ lw_good ∧ Cond.selects yX12_readHow.cls yX12_readHow yX12_readHow ∈ lw_good := ⟨(good_in (tb_10 (List.mem_of_getElem? (i := 14) rfl)) rfl), (good_in (List.mem_append_left _ (by decide +kernel)) rfl)⟩
theorem fl_X12_119 : Fl RX12 119 14 61 := kc_X12.fl (ref := "LeapNetModel") (by decide) (Or.inl (good_in (tb_7 (List.mem_of_getElem? (i := 71) rfl)) rfl)) (Or.inl rfl)
theorem fl_X12_125 : Fl RX12 125 14 72 := kc_X12.fl (ref := "LeapNetModel") (by decide) (Or.inl (good_in (tb_7 (List.mem_of_getElem? (i := 82) rfl)) rfl)) (Or.inl rfl)
theorem fl_X12_128 : Fl RX12 128 14 73 := kc_X12.fl (ref := "LeapNetModel") (by decide) (Or.inl (good_in (tb_7 (List.mem_of_getElem? (i := 83) rfl)) rfl)) (Or.inl rfl)
theorem fl_X12_131 : Fl RX12 131 14 74 := kc_X12.fl (ref := "LeapNetModel") (by decide) (Or.inl (good_in (tb_7 (List.mem_of_getElem? (i := 84) rfl)) rfl)) (Or.inl rfl)
theorem fl_X12_589 : Fl RX12 589 14 67 := kc_X12.fl (ref := "LeapNetModel") (by decide) (Or.inl (good_in (tb_7 (List.mem_of_getElem? (i := 77) rfl)) rfl)) (Or.inl rfl)
theorem fp_X12_589 : Fp RX12 589 14 67 .int := ⟨_, _, _, _, "LeapNetModel", kc_X12, by decide, rfl, Or.inl (good_in (tb_7 (List.mem_of_getElem? (i := 77) rfl)) rfl), Or.inl rfl, rfl⟩
theorem fl_X12_143 : Fl RX12 143 14 78 := kc_X12.fl (ref := "LeapNetModel") (by decide) (Or.inl (good_in (tb_7 (List.mem_of_getElem? (i := 88) rfl)) rfl)) (Or.inl rfl)
theorem fl_X12_604 : Fl RX12 604 14 65 := kc_X12.fl (ref := "LeapNetModel") (by decide) (Or.inl (good_in (tb_7 (List.mem_of_getElem? (i := 75) rfl)) rfl)) (Or.inl rfl)
theorem fl_X12_616 : Fl RX12 616 14 64 := kc_X12.fl (ref := "LeapNetModel") (by decide) (Or.inl (good_in (tb_7 (List.mem_of_getElem? (i := 74) rfl)) rfl)) (Or.inl rfl)
theorem fp_X12_604 : Fp RX12 604 14 65 .int := ⟨_, _, _, _, "LeapNetModel", kc_X12, by decide, rfl, Or.inl (good_in (tb_7 (List.mem_of_getElem? (i := 75) rfl)) rfl), Or.inl rfl, rfl⟩
theorem fp_X12_592 : Fp RX12 592 14 105 .int := ⟨_, _, _, _, "LeapNetModel", kc_X12, by decide, rfl, Or.inl (good_in (tb_7 (List.mem_of_getElem? (i := 115) rfl)) rfl), Or.inl rfl, rfl⟩
theorem fl_X12_601 : Fl RX12 601 14 63 := kc_X12.fl (ref := "LeapNetModel") (by decide) (Or.inl (good_in (tb_7 (List.mem_of_getElem? (i := 73) rfl)) rfl)) (Or.inl rfl)
theorem lk_X12_613 : Lk RX12 613 yX12_keep := Or.inl (good_in (tb_10 (List.mem_of_getElem? (i := 33) rfl)) rfl)
theorem yk_X12_keep : Yk yX12_keep cX12_keep 3 none 1 := ⟨(good_in (tb_10 (List.mem_of_getElem? (i := 36) rfl)) rfl), (good_in (tb_1 (List.mem_of_getElem? (i := 8) rfl)) rfl), ⟨by decide +kernel, by decide +kernel⟩, by decide +kernel⟩
theorem yv_X12_keep : Cond.instanceMethod yX12_keep ∈ lw_good ∧ Cond.selects yX12_keep.cls yX12_keep yX12_keep ∈ lw_good := ⟨(good_in (tb_10 (List.mem_of_getElem? (i := 35) rfl)) rfl), (good_in (List.mem_append_left _ (by decide +kernel)) rfl)⟩
theorem fl_X12_592 : Fl RX12 592 14 105 := kc_X12.fl (ref := "LeapNetModel") (by decide) (Or.inl (good_in (tb_7 (List.mem_of_getElem? (i := 115) rfl)) rfl)) (Or.inl rfl)
theorem lk_X12_607 : Lk RX12 607 yX12_goesOn := Or.inl (good_in (tb_10 (List.mem_of_getElem? (i := 29) rfl)) rfl)
theorem yk_X12_goesOn : Yk yX12_goesOn cX12_goesOn 1 none 0 := ⟨(good_in (tb_10 (List.mem_of_getElem? (i := 32) rfl)) rfl), (good_in (tb_1 (List.mem_of_getElem? (i := 8) rfl)) rfl), ⟨by decide +kernel, by decide +kernel⟩, by decide +kernel⟩
theorem yv_X12_goesOn : Cond.instanceMethod yX12_goesOn ∈ lw_good ∧ Cond.selects yX12_goesOn.cls yX12_goesOn yX12_goesOn ∈ lw_good := ⟨(good_in (tb_10 (List.mem_of_getElem? (i := 31) rfl)) rfl), (good_in (List.mem_append_left _ (by decide +kernel)) rfl)⟩
theorem fl_X12_610 : Fl RX12 610 14 66 := kc_X12.fl (ref := "LeapNetModel") (by decide) (Or.inl (good_in (tb_7 (List.mem_of_getElem? (i := 76) rfl)) rfl)) (Or.inl rfl)
theorem fp_X12_610 : Fp RX12 610 14 66 .int := ⟨_, _, _, _, "LeapNetModel", kc_X12, by decide, rfl, Or.inl (good_in (tb_7 (List.mem_of_getElem? (i := 76) rfl)) rfl), Or.inl rfl, rfl⟩
theorem lk_X12_598 : Lk RX12 598 yX12_runLine := Or.inl (good_in (tb_10 (List.mem_of_getElem? (i := 25) rfl)) rfl)
theorem yk_X12_runLine : Yk yX12_runLine cX12_runLine 7 none 1 := ⟨(good_in (tb_10 (List.mem_of_getElem? (i := 28) rfl)) rfl), (good_in (tb_1 (List.mem_of_getElem? (i := 8) rfl)) rfl), ⟨by decide +kernel, by decide +kernel⟩, by decide +kernel⟩
theorem yv_X12_runLine : Cond.instanceMethod yX12_runLine ∈ lw_good ∧ Cond.selects yX12_runLine.cls yX12_runLine yX12_runLine ∈ lw_good := ⟨(good_in (tb_10 (List.mem_of_getElem? (i := 27) rfl)) rfl), (good_in (List.mem_append_left _ (by decide +kernel)) rfl)⟩
theorem lk_X12_595 : Lk RX12 595 yX12_runLines := Or.inl (good_in (tb_10 (List.mem_of_getElem? (i := 21) rfl)) rfl)
theorem yk_X12_runLines : Yk yX12_runLines cX12_runLines 5 none 2 := ⟨(good_in (tb_10 (List.mem_of_getElem? (i := 24) rfl)) rfl), (good_in (tb_1 (List.mem_of_getElem? (i := 8) rfl)) rfl), ⟨by decide +kernel, by decide +kernel⟩, by decide +kernel⟩
theorem yv_X12_runLines : Cond.instanceMethod yX12_runLines ∈ lw_good ∧ Cond.selects yX12_runLines.cls yX12_runLines yX12_runLines ∈ lw_good := ⟨(good_in (tb_10 (List.mem_of_getElem? (i := 23) rfl)) rfl), (good_in (List.mem_append_left _ (by decide +kernel)) rfl)⟩
theorem kJ_X12_619 : Cond.constantLong RX12 619 899990000 ∈ lw_good := (good_in (tb_10 (List.mem_of_getElem? (i := 20) rfl)) rfl)
theorem fp_X12_601 : Fp RX12 601 14 63 .int := ⟨_, _, _, _, "LeapNetModel", kc_X12, by decide, rfl, Or.inl (good_in (tb_7 (List.mem_of_getElem? (i := 73) rfl)) rfl), Or.inl rfl, rfl⟩
theorem fp_X12_616 : Fp RX12 616 14 64 .int := ⟨_, _, _, _, "LeapNetModel", kc_X12, by decide, rfl, Or.inl (good_in (tb_7 (List.mem_of_getElem? (i := 74) rfl)) rfl), Or.inl rfl, rfl⟩
theorem fp_X12_621 : Fp RX12 621 14 69 .int := ⟨_, _, _, _, "LeapNetModel", kc_X12, by decide, rfl, Or.inl (good_in (tb_7 (List.mem_of_getElem? (i := 79) rfl)) rfl), Or.inl rfl, rfl⟩
theorem fp_X12_624 : Fp RX12 624 14 70 .int := ⟨_, _, _, _, "LeapNetModel", kc_X12, by decide, rfl, Or.inl (good_in (tb_7 (List.mem_of_getElem? (i := 80) rfl)) rfl), Or.inl rfl, rfl⟩
theorem fp_X12_627 : Fp RX12 627 14 71 .int := ⟨_, _, _, _, "LeapNetModel", kc_X12, by decide, rfl, Or.inl (good_in (tb_7 (List.mem_of_getElem? (i := 81) rfl)) rfl), Or.inl rfl, rfl⟩
theorem fl_X12_122 : Fl RX12 122 14 68 := kc_X12.fl (ref := "LeapNetModel") (by decide) (Or.inl (good_in (tb_7 (List.mem_of_getElem? (i := 78) rfl)) rfl)) (Or.inl rfl)
theorem fl_X12_146 : Fl RX12 146 14 79 := kc_X12.fl (ref := "LeapNetModel") (by decide) (Or.inl (good_in (tb_7 (List.mem_of_getElem? (i := 89) rfl)) rfl)) (Or.inl rfl)
theorem fl_X12_627 : Fl RX12 627 14 71 := kc_X12.fl (ref := "LeapNetModel") (by decide) (Or.inl (good_in (tb_7 (List.mem_of_getElem? (i := 81) rfl)) rfl)) (Or.inl rfl)
theorem fl_X12_624 : Fl RX12 624 14 70 := kc_X12.fl (ref := "LeapNetModel") (by decide) (Or.inl (good_in (tb_7 (List.mem_of_getElem? (i := 80) rfl)) rfl)) (Or.inl rfl)
theorem fl_X12_621 : Fl RX12 621 14 69 := kc_X12.fl (ref := "LeapNetModel") (by decide) (Or.inl (good_in (tb_7 (List.mem_of_getElem? (i := 79) rfl)) rfl)) (Or.inl rfl)
theorem fl_X12_630 : Fl RX12 630 14 87 := kc_X12.fl (ref := "LeapNetModel") (by decide) (Or.inl (good_in (tb_7 (List.mem_of_getElem? (i := 97) rfl)) rfl)) (Or.inl rfl)
theorem fl_X12_149 : Fl RX12 149 14 80 := kc_X12.fl (ref := "LeapNetModel") (by decide) (Or.inl (good_in (tb_7 (List.mem_of_getElem? (i := 90) rfl)) rfl)) (Or.inl rfl)
theorem fl_X12_152 : Fl RX12 152 14 81 := kc_X12.fl (ref := "LeapNetModel") (by decide) (Or.inl (good_in (tb_7 (List.mem_of_getElem? (i := 91) rfl)) rfl)) (Or.inl rfl)
theorem kJ_X12_633 : Cond.constantLong RX12 633 12 ∈ lw_good := (good_in (tb_10 (List.mem_of_getElem? (i := 49) rfl)) rfl)
theorem fp_X12_630 : Fp RX12 630 14 87 .int := ⟨_, _, _, _, "LeapNetModel", kc_X12, by decide, rfl, Or.inl (good_in (tb_7 (List.mem_of_getElem? (i := 97) rfl)) rfl), Or.inl rfl, rfl⟩
theorem lk_X12_635 : Lk RX12 635 yX12_numberOf := Or.inl (good_in (tb_10 (List.mem_of_getElem? (i := 50) rfl)) rfl)
theorem yk_X12_numberOf : Yk yX12_numberOf cX12_numberOf 3 (some .long) 2 := ⟨(good_in (tb_10 (List.mem_of_getElem? (i := 53) rfl)) rfl), (good_in (tb_1 (List.mem_of_getElem? (i := 8) rfl)) rfl), ⟨by decide +kernel, by decide +kernel⟩, by decide +kernel⟩
theorem yv_X12_numberOf : Cond.instanceMethod yX12_numberOf ∈ lw_good ∧ Cond.selects yX12_numberOf.cls yX12_numberOf yX12_numberOf ∈ lw_good := ⟨(good_in (tb_10 (List.mem_of_getElem? (i := 52) rfl)) rfl), (good_in (List.mem_append_left _ (by decide +kernel)) rfl)⟩
theorem kJ_X12_638 : Cond.constantLong RX12 638 (-1000000) ∈ lw_good := (good_in (tb_10 (List.mem_of_getElem? (i := 54) rfl)) rfl)
theorem kJ_X12_640 : Cond.constantLong RX12 640 1000000 ∈ lw_good := (good_in (tb_10 (List.mem_of_getElem? (i := 55) rfl)) rfl)
theorem fp_X12_642 : Fp RX12 642 14 90 .int := ⟨_, _, _, _, "LeapNetModel", kc_X12, by decide, rfl, Or.inl (good_in (tb_7 (List.mem_of_getElem? (i := 100) rfl)) rfl), Or.inl rfl, rfl⟩
theorem fl_X12_642 : Fl RX12 642 14 90 := kc_X12.fl (ref := "LeapNetModel") (by decide) (Or.inl (good_in (tb_7 (List.mem_of_getElem? (i := 100) rfl)) rfl)) (Or.inl rfl)
theorem lk_X12_645 : Lk RX12 645 yX12_having := Or.inl (good_in (tb_10 (List.mem_of_getElem? (i := 56) rfl)) rfl)
theorem yk_X12_having : Yk yX12_having cX12_having 4 (some .int) 1 := ⟨(good_in (tb_10 (List.mem_of_getElem? (i := 59) rfl)) rfl), (good_in (tb_1 (List.mem_of_getElem? (i := 8) rfl)) rfl), ⟨by decide +kernel, by decide +kernel⟩, by decide +kernel⟩
theorem yv_X12_having : Cond.instanceMethod yX12_having ∈ lw_good ∧ Cond.selects yX12_having.cls yX12_having yX12_having ∈ lw_good := ⟨(good_in (tb_10 (List.mem_of_getElem? (i := 58) rfl)) rfl), (good_in (List.mem_append_left _ (by decide +kernel)) rfl)⟩
theorem fl_X12_648 : Fl RX12 648 14 88 := kc_X12.fl (ref := "LeapNetModel") (by decide) (Or.inl (good_in (tb_7 (List.mem_of_getElem? (i := 98) rfl)) rfl)) (Or.inl rfl)
theorem fp_X12_651 : Fp RX12 651 14 89 .int := ⟨_, _, _, _, "LeapNetModel", kc_X12, by decide, rfl, Or.inl (good_in (tb_7 (List.mem_of_getElem? (i := 99) rfl)) rfl), Or.inl rfl, rfl⟩
theorem fp_X12_648 : Fp RX12 648 14 88 .int := ⟨_, _, _, _, "LeapNetModel", kc_X12, by decide, rfl, Or.inl (good_in (tb_7 (List.mem_of_getElem? (i := 98) rfl)) rfl), Or.inl rfl, rfl⟩
theorem fl_X12_651 : Fl RX12 651 14 89 := kc_X12.fl (ref := "LeapNetModel") (by decide) (Or.inl (good_in (tb_7 (List.mem_of_getElem? (i := 99) rfl)) rfl)) (Or.inl rfl)
theorem kJ_X12_654 : Cond.constantLong RX12 654 20 ∈ lw_good := (good_in (tb_10 (List.mem_of_getElem? (i := 72) rfl)) rfl)
theorem lk_X12_656 : Lk RX12 656 yX12_showsSo := Or.inl (good_in (tb_10 (List.mem_of_getElem? (i := 73) rfl)) rfl)
theorem yk_X12_showsSo : Yk yX12_showsSo cX12_showsSo 2 (some .long) 2 := ⟨(good_in (tb_10 (List.mem_of_getElem? (i := 75) rfl)) rfl), (good_in (tb_1 (List.mem_of_getElem? (i := 8) rfl)) rfl), ⟨by decide +kernel, by decide +kernel⟩, by decide +kernel⟩
theorem ys_X12_showsSo : Cond.static yX12_showsSo ∈ lw_good := (good_in (tb_10 (List.mem_of_getElem? (i := 74) rfl)) rfl)
theorem fl_X12_170 : Fl RX12 170 14 91 := kc_X12.fl (ref := "LeapNetModel") (by decide) (Or.inl (good_in (tb_7 (List.mem_of_getElem? (i := 101) rfl)) rfl)) (Or.inl rfl)
theorem lk_X12_659 : Lk RX12 659 yX12_unlike := Or.inl (good_in (tb_10 (List.mem_of_getElem? (i := 80) rfl)) rfl)
theorem yk_X12_unlike : Yk yX12_unlike cX12_unlike 6 (some .int) 1 := ⟨(good_in (tb_10 (List.mem_of_getElem? (i := 83) rfl)) rfl), (good_in (tb_1 (List.mem_of_getElem? (i := 8) rfl)) rfl), ⟨by decide +kernel, by decide +kernel⟩, by decide +kernel⟩
theorem yv_X12_unlike : Cond.instanceMethod yX12_unlike ∈ lw_good ∧ Cond.selects yX12_unlike.cls yX12_unlike yX12_unlike ∈ lw_good := ⟨(good_in (tb_10 (List.mem_of_getElem? (i := 82) rfl)) rfl), (good_in (List.mem_append_left _ (by decide +kernel)) rfl)⟩
theorem lk_X12_662 : Lk RX12 662 yX12_isLand := Or.inl (good_in (tb_10 (List.mem_of_getElem? (i := 88) rfl)) rfl)
theorem yk_X12_isLand : Yk yX12_isLand cX12_isLand 1 (some .boolean) 1 := ⟨(good_in (tb_10 (List.mem_of_getElem? (i := 90) rfl)) rfl), (good_in (tb_1 (List.mem_of_getElem? (i := 8) rfl)) rfl), ⟨by decide +kernel, by decide +kernel⟩, by decide +kernel⟩
theorem ys_X12_isLand : Cond.static yX12_isLand ∈ lw_good := (good_in (tb_10 (List.mem_of_getElem? (i := 89) rfl)) rfl)
theorem kJ_X12_665 : Cond.constantLong RX12 665 (-720) ∈ lw_good := (good_in (tb_10 (List.mem_of_getElem? (i := 91) rfl)) rfl)
theorem kJ_X12_667 : Cond.constantLong RX12 667 840 ∈ lw_good := (good_in (tb_10 (List.mem_of_getElem? (i := 92) rfl)) rfl)
theorem kJ_X12_669 : Cond.constantLong RX12 669 364 ∈ lw_good := (good_in (tb_10 (List.mem_of_getElem? (i := 93) rfl)) rfl)
theorem fl_X12_161 : Fl RX12 161 14 84 := kc_X12.fl (ref := "LeapNetModel") (by decide) (Or.inl (good_in (tb_7 (List.mem_of_getElem? (i := 94) rfl)) rfl)) (Or.inl rfl)
theorem fl_X12_164 : Fl RX12 164 14 85 := kc_X12.fl (ref := "LeapNetModel") (by decide) (Or.inl (good_in (tb_7 (List.mem_of_getElem? (i := 95) rfl)) rfl)) (Or.inl rfl)
theorem fl_X12_167 : Fl RX12 167 14 86 := kc_X12.fl (ref := "LeapNetModel") (by decide) (Or.inl (good_in (tb_7 (List.mem_of_getElem? (i := 96) rfl)) rfl)) (Or.inl rfl)
theorem lk_X12_671 : Lk RX12 671 yJ9_floorDiv_7cf53 := Or.inl (good_in (tb_10 (List.mem_of_getElem? (i := 102) rfl)) rfl)
theorem yk_J9_floorDiv_7cf53 : Yk yJ9_floorDiv_7cf53 cJ9_floorDiv_7cf53 3 (some .int) 2 := ⟨(good_in (tb_10 (List.mem_of_getElem? (i := 104) rfl)) rfl), (good_in (tb_1 (List.mem_of_getElem? (i := 10) rfl)) rfl), ⟨by decide +kernel, by decide +kernel⟩, by decide +kernel⟩
theorem ys_J9_floorDiv_7cf53 : Cond.static yJ9_floorDiv_7cf53 ∈ lw_good := (good_in (tb_10 (List.mem_of_getElem? (i := 103) rfl)) rfl)
theorem lk_X12_674 : Lk RX12 674 yJ9_floorMod_7cf53 := Or.inl (good_in (tb_10 (List.mem_of_getElem? (i := 105) rfl)) rfl)
theorem lk_X12_677 : Lk RX12 677 yX12_localOf := Or.inl (good_in (tb_10 (List.mem_of_getElem? (i := 98) rfl)) rfl)
theorem yk_X12_localOf : Yk yX12_localOf cX12_localOf 9 (some .int) 2 := ⟨(good_in (tb_10 (List.mem_of_getElem? (i := 101) rfl)) rfl), (good_in (tb_1 (List.mem_of_getElem? (i := 8) rfl)) rfl), ⟨by decide +kernel, by decide +kernel⟩, by decide +kernel⟩
theorem yv_X12_localOf : Cond.instanceMethod yX12_localOf ∈ lw_good ∧ Cond.selects yX12_localOf.cls yX12_localOf yX12_localOf ∈ lw_good := ⟨(good_in (tb_10 (List.mem_of_getElem? (i := 100) rfl)) rfl), (good_in (List.mem_append_left _ (by decide +kernel)) rfl)⟩
theorem kJ_X12_680 : Cond.constantLong RX12 680 9998 ∈ lw_good := (good_in (tb_10 (List.mem_of_getElem? (i := 110) rfl)) rfl)
theorem kJ_X12_682 : Cond.constantLong RX12 682 1439 ∈ lw_good := (good_in (tb_10 (List.mem_of_getElem? (i := 111) rfl)) rfl)
