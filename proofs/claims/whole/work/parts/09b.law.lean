theorem cl_L_7 : Cond.classLink RL 7 RX11 ∈ lw_good := (good_in (tb_1 (List.mem_of_getElem? (i := 30) rfl)) rfl)
theorem in1_X11 : Cond.instantiable RX11 19 ∈ lw_good := (good_in (tb_1 (List.mem_of_getElem? (i := 31) rfl)) rfl)
theorem in2_X11 : Cond.initialized RX11 ∈ lw_good := (good_in (tb_1 (List.mem_of_getElem? (i := 1) rfl)) rfl)
theorem lk_L_9 : Lk RL 9 yX11_init := Or.inl (good_in (tb_1 (List.mem_of_getElem? (i := 32) rfl)) rfl)
theorem yk_X11_init : Yk yX11_init cX11_init 2 none 0 := ⟨(good_in (tb_1 (List.mem_of_getElem? (i := 34) rfl)) rfl), (good_in (tb_1 (List.mem_of_getElem? (i := 1) rfl)) rfl), ⟨by decide +kernel, by decide +kernel⟩, by decide +kernel⟩
theorem yi_X11_init : Cond.instanceMethod yX11_init ∈ lw_good ∧ yX11_init.name = "<init>" := ⟨(good_in (tb_1 (List.mem_of_getElem? (i := 33) rfl)) rfl), rfl⟩
theorem cl_L_10 : Cond.classLink RL 10 RX12 ∈ lw_good := (good_in (tb_7 (List.mem_of_getElem? (i := 4) rfl)) rfl)
theorem in1_X12 : Cond.instantiable RX12 106 ∈ lw_good := (good_in (tb_7 (List.mem_of_getElem? (i := 5) rfl)) rfl)
theorem in2_X12 : Cond.initialized RX12 ∈ lw_good := (good_in (tb_1 (List.mem_of_getElem? (i := 8) rfl)) rfl)
theorem lk_L_12 : Lk RL 12 yX12_init := Or.inl (good_in (tb_7 (List.mem_of_getElem? (i := 6) rfl)) rfl)
theorem yk_X12_init : Yk yX12_init cX12_init 2 none 0 := ⟨(good_in (tb_7 (List.mem_of_getElem? (i := 8) rfl)) rfl), (good_in (tb_1 (List.mem_of_getElem? (i := 8) rfl)) rfl), ⟨by decide +kernel, by decide +kernel⟩, by decide +kernel⟩
theorem yi_X12_init : Cond.instanceMethod yX12_init ∈ lw_good ∧ yX12_init.name = "<init>" := ⟨(good_in (tb_7 (List.mem_of_getElem? (i := 7) rfl)) rfl), rfl⟩
theorem lk_L_172 : Lk RL 172 yX11_oft := Or.inl (good_in (tb_6 (List.mem_of_getElem? (i := 235) rfl)) rfl)
theorem yk_X11_oft : Yk yX11_oft cX11_oft 5 (some .int) 3 := ⟨(good_in (tb_6 (List.mem_of_getElem? (i := 238) rfl)) rfl), (good_in (tb_1 (List.mem_of_getElem? (i := 1) rfl)) rfl), ⟨by decide +kernel, by decide +kernel⟩, by decide +kernel⟩
theorem yv_X11_oft : Cond.instanceMethod yX11_oft ∈ lw_good ∧ Cond.selects yX11_oft.cls yX11_oft yX11_oft ∈ lw_good := ⟨(good_in (tb_6 (List.mem_of_getElem? (i := 236) rfl)) rfl), (good_in (tb_6 (List.mem_of_getElem? (i := 237) rfl)) rfl)⟩
theorem lk_L_175 : Lk RL 175 yX12_oft := Or.inl (good_in (tb_10 (List.mem_of_getElem? (i := 106) rfl)) rfl)
theorem yk_X12_oft : Yk yX12_oft cX12_oft 5 (some .int) 3 := ⟨(good_in (tb_10 (List.mem_of_getElem? (i := 109) rfl)) rfl), (good_in (tb_1 (List.mem_of_getElem? (i := 8) rfl)) rfl), ⟨by decide +kernel, by decide +kernel⟩, by decide +kernel⟩
theorem yv_X12_oft : Cond.instanceMethod yX12_oft ∈ lw_good ∧ Cond.selects yX12_oft.cls yX12_oft yX12_oft ∈ lw_good := ⟨(good_in (tb_10 (List.mem_of_getElem? (i := 107) rfl)) rfl), (good_in (tb_10 (List.mem_of_getElem? (i := 108) rfl)) rfl)⟩
theorem lk_L_168 : Lk RL 168 yX11_local := Or.inl (good_in (tb_6 (List.mem_of_getElem? (i := 219) rfl)) rfl)
theorem yk_X11_local : Yk yX11_local cX11_local 4 (some .int) 2 := ⟨(good_in (tb_6 (List.mem_of_getElem? (i := 222) rfl)) rfl), (good_in (tb_1 (List.mem_of_getElem? (i := 1) rfl)) rfl), ⟨by decide +kernel, by decide +kernel⟩, by decide +kernel⟩
theorem yv_X11_local : Cond.instanceMethod yX11_local ∈ lw_good ∧ Cond.selects yX11_local.cls yX11_local yX11_local ∈ lw_good := ⟨(good_in (tb_6 (List.mem_of_getElem? (i := 220) rfl)) rfl), (good_in (tb_6 (List.mem_of_getElem? (i := 221) rfl)) rfl)⟩
theorem lk_L_171 : Lk RL 171 yX12_local := Or.inl (good_in (tb_10 (List.mem_of_getElem? (i := 94) rfl)) rfl)
theorem yk_X12_local : Yk yX12_local cX12_local 3 (some .int) 2 := ⟨(good_in (tb_10 (List.mem_of_getElem? (i := 97) rfl)) rfl), (good_in (tb_1 (List.mem_of_getElem? (i := 8) rfl)) rfl), ⟨by decide +kernel, by decide +kernel⟩, by decide +kernel⟩
theorem yv_X12_local : Cond.instanceMethod yX12_local ∈ lw_good ∧ Cond.selects yX12_local.cls yX12_local yX12_local ∈ lw_good := ⟨(good_in (tb_10 (List.mem_of_getElem? (i := 95) rfl)) rfl), (good_in (tb_10 (List.mem_of_getElem? (i := 96) rfl)) rfl)⟩
theorem lk_L_163 : Lk RL 163 yX11_land := Or.inl (good_in (tb_6 (List.mem_of_getElem? (i := 209) rfl)) rfl)
theorem yk_X11_land : Yk yX11_land cX11_land 5 (some .boolean) 4 := ⟨(good_in (tb_6 (List.mem_of_getElem? (i := 212) rfl)) rfl), (good_in (tb_1 (List.mem_of_getElem? (i := 1) rfl)) rfl), ⟨by decide +kernel, by decide +kernel⟩, by decide +kernel⟩
theorem yv_X11_land : Cond.instanceMethod yX11_land ∈ lw_good ∧ Cond.selects yX11_land.cls yX11_land yX11_land ∈ lw_good := ⟨(good_in (tb_6 (List.mem_of_getElem? (i := 210) rfl)) rfl), (good_in (tb_6 (List.mem_of_getElem? (i := 211) rfl)) rfl)⟩
theorem lk_L_167 : Lk RL 167 yX12_land := Or.inl (good_in (tb_10 (List.mem_of_getElem? (i := 84) rfl)) rfl)
theorem yk_X12_land : Yk yX12_land cX12_land 5 (some .boolean) 4 := ⟨(good_in (tb_10 (List.mem_of_getElem? (i := 87) rfl)) rfl), (good_in (tb_1 (List.mem_of_getElem? (i := 8) rfl)) rfl), ⟨by decide +kernel, by decide +kernel⟩, by decide +kernel⟩
theorem yv_X12_land : Cond.instanceMethod yX12_land ∈ lw_good ∧ Cond.selects yX12_land.cls yX12_land yX12_land ∈ lw_good := ⟨(good_in (tb_10 (List.mem_of_getElem? (i := 85) rfl)) rfl), (good_in (tb_10 (List.mem_of_getElem? (i := 86) rfl)) rfl)⟩
theorem lk_L_159 : Lk RL 159 yX11_ask := Or.inl (good_in (tb_6 (List.mem_of_getElem? (i := 198) rfl)) rfl)
theorem yk_X11_ask : Yk yX11_ask cX11_ask 3 (some .int) 0 := ⟨(good_in (tb_6 (List.mem_of_getElem? (i := 201) rfl)) rfl), (good_in (tb_1 (List.mem_of_getElem? (i := 1) rfl)) rfl), ⟨by decide +kernel, by decide +kernel⟩, by decide +kernel⟩
theorem yv_X11_ask : Cond.instanceMethod yX11_ask ∈ lw_good ∧ Cond.selects yX11_ask.cls yX11_ask yX11_ask ∈ lw_good := ⟨(good_in (tb_6 (List.mem_of_getElem? (i := 199) rfl)) rfl), (good_in (tb_6 (List.mem_of_getElem? (i := 200) rfl)) rfl)⟩
theorem lk_L_162 : Lk RL 162 yX12_ask := Or.inl (good_in (tb_10 (List.mem_of_getElem? (i := 76) rfl)) rfl)
theorem yk_X12_ask : Yk yX12_ask cX12_ask 5 (some .int) 0 := ⟨(good_in (tb_10 (List.mem_of_getElem? (i := 79) rfl)) rfl), (good_in (tb_1 (List.mem_of_getElem? (i := 8) rfl)) rfl), ⟨by decide +kernel, by decide +kernel⟩, by decide +kernel⟩
theorem yv_X12_ask : Cond.instanceMethod yX12_ask ∈ lw_good ∧ Cond.selects yX12_ask.cls yX12_ask yX12_ask ∈ lw_good := ⟨(good_in (tb_10 (List.mem_of_getElem? (i := 77) rfl)) rfl), (good_in (tb_10 (List.mem_of_getElem? (i := 78) rfl)) rfl)⟩
theorem lk_L_155 : Lk RL 155 yX11_find := Or.inl (good_in (tb_6 (List.mem_of_getElem? (i := 186) rfl)) rfl)
theorem yk_X11_find : Yk yX11_find cX11_find 5 (some .int) 3 := ⟨(good_in (tb_6 (List.mem_of_getElem? (i := 189) rfl)) rfl), (good_in (tb_1 (List.mem_of_getElem? (i := 1) rfl)) rfl), ⟨by decide +kernel, by decide +kernel⟩, by decide +kernel⟩
theorem yv_X11_find : Cond.instanceMethod yX11_find ∈ lw_good ∧ Cond.selects yX11_find.cls yX11_find yX11_find ∈ lw_good := ⟨(good_in (tb_6 (List.mem_of_getElem? (i := 187) rfl)) rfl), (good_in (tb_6 (List.mem_of_getElem? (i := 188) rfl)) rfl)⟩
theorem lk_L_158 : Lk RL 158 yX12_find := Or.inl (good_in (tb_10 (List.mem_of_getElem? (i := 68) rfl)) rfl)
theorem yk_X12_find : Yk yX12_find cX12_find 8 (some .int) 3 := ⟨(good_in (tb_10 (List.mem_of_getElem? (i := 71) rfl)) rfl), (good_in (tb_1 (List.mem_of_getElem? (i := 8) rfl)) rfl), ⟨by decide +kernel, by decide +kernel⟩, by decide +kernel⟩
theorem yv_X12_find : Cond.instanceMethod yX12_find ∈ lw_good ∧ Cond.selects yX12_find.cls yX12_find yX12_find ∈ lw_good := ⟨(good_in (tb_10 (List.mem_of_getElem? (i := 69) rfl)) rfl), (good_in (tb_10 (List.mem_of_getElem? (i := 70) rfl)) rfl)⟩
theorem lk_L_151 : Lk RL 151 yX11_lies := Or.inl (good_in (tb_6 (List.mem_of_getElem? (i := 178) rfl)) rfl)
theorem yk_X11_lies : Yk yX11_lies cX11_lies 2 (some .int) 1 := ⟨(good_in (tb_6 (List.mem_of_getElem? (i := 181) rfl)) rfl), (good_in (tb_1 (List.mem_of_getElem? (i := 1) rfl)) rfl), ⟨by decide +kernel, by decide +kernel⟩, by decide +kernel⟩
theorem yv_X11_lies : Cond.instanceMethod yX11_lies ∈ lw_good ∧ Cond.selects yX11_lies.cls yX11_lies yX11_lies ∈ lw_good := ⟨(good_in (tb_6 (List.mem_of_getElem? (i := 179) rfl)) rfl), (good_in (tb_6 (List.mem_of_getElem? (i := 180) rfl)) rfl)⟩
theorem lk_L_154 : Lk RL 154 yX12_lies := Or.inl (good_in (tb_10 (List.mem_of_getElem? (i := 64) rfl)) rfl)
theorem yk_X12_lies : Yk yX12_lies cX12_lies 4 (some .int) 1 := ⟨(good_in (tb_10 (List.mem_of_getElem? (i := 67) rfl)) rfl), (good_in (tb_1 (List.mem_of_getElem? (i := 8) rfl)) rfl), ⟨by decide +kernel, by decide +kernel⟩, by decide +kernel⟩
theorem yv_X12_lies : Cond.instanceMethod yX12_lies ∈ lw_good ∧ Cond.selects yX12_lies.cls yX12_lies yX12_lies ∈ lw_good := ⟨(good_in (tb_10 (List.mem_of_getElem? (i := 65) rfl)) rfl), (good_in (tb_10 (List.mem_of_getElem? (i := 66) rfl)) rfl)⟩
theorem lk_L_147 : Lk RL 147 yX11_span := Or.inl (good_in (tb_6 (List.mem_of_getElem? (i := 174) rfl)) rfl)
theorem yk_X11_span : Yk yX11_span cX11_span 2 (some .int) 1 := ⟨(good_in (tb_6 (List.mem_of_getElem? (i := 177) rfl)) rfl), (good_in (tb_1 (List.mem_of_getElem? (i := 1) rfl)) rfl), ⟨by decide +kernel, by decide +kernel⟩, by decide +kernel⟩
theorem yv_X11_span : Cond.instanceMethod yX11_span ∈ lw_good ∧ Cond.selects yX11_span.cls yX11_span yX11_span ∈ lw_good := ⟨(good_in (tb_6 (List.mem_of_getElem? (i := 175) rfl)) rfl), (good_in (tb_6 (List.mem_of_getElem? (i := 176) rfl)) rfl)⟩
theorem lk_L_150 : Lk RL 150 yX12_span := Or.inl (good_in (tb_10 (List.mem_of_getElem? (i := 60) rfl)) rfl)
theorem yk_X12_span : Yk yX12_span cX12_span 2 (some .int) 1 := ⟨(good_in (tb_10 (List.mem_of_getElem? (i := 63) rfl)) rfl), (good_in (tb_1 (List.mem_of_getElem? (i := 8) rfl)) rfl), ⟨by decide +kernel, by decide +kernel⟩, by decide +kernel⟩
theorem yv_X12_span : Cond.instanceMethod yX12_span ∈ lw_good ∧ Cond.selects yX12_span.cls yX12_span yX12_span ∈ lw_good := ⟨(good_in (tb_10 (List.mem_of_getElem? (i := 61) rfl)) rfl), (good_in (tb_10 (List.mem_of_getElem? (i := 62) rfl)) rfl)⟩
theorem lk_L_142 : Lk RL 142 yX11_answers := Or.inl (good_in (tb_6 (List.mem_of_getElem? (i := 113) rfl)) rfl)
theorem yk_X11_answers : Yk yX11_answers cX11_answers 4 (some .int) 3 := ⟨(good_in (tb_6 (List.mem_of_getElem? (i := 116) rfl)) rfl), (good_in (tb_1 (List.mem_of_getElem? (i := 1) rfl)) rfl), ⟨by decide +kernel, by decide +kernel⟩, by decide +kernel⟩
theorem yv_X11_answers : Cond.instanceMethod yX11_answers ∈ lw_good ∧ Cond.selects yX11_answers.cls yX11_answers yX11_answers ∈ lw_good := ⟨(good_in (tb_6 (List.mem_of_getElem? (i := 114) rfl)) rfl), (good_in (tb_6 (List.mem_of_getElem? (i := 115) rfl)) rfl)⟩
theorem lk_L_146 : Lk RL 146 yX12_answers := Or.inl (good_in (tb_10 (List.mem_of_getElem? (i := 45) rfl)) rfl)
theorem yk_X12_answers : Yk yX12_answers cX12_answers 6 (some .int) 3 := ⟨(good_in (tb_10 (List.mem_of_getElem? (i := 48) rfl)) rfl), (good_in (tb_1 (List.mem_of_getElem? (i := 8) rfl)) rfl), ⟨by decide +kernel, by decide +kernel⟩, by decide +kernel⟩
theorem yv_X12_answers : Cond.instanceMethod yX12_answers ∈ lw_good ∧ Cond.selects yX12_answers.cls yX12_answers yX12_answers ∈ lw_good := ⟨(good_in (tb_10 (List.mem_of_getElem? (i := 46) rfl)) rfl), (good_in (tb_10 (List.mem_of_getElem? (i := 47) rfl)) rfl)⟩
theorem lk_L_137 : Lk RL 137 yX11_kept := Or.inl (good_in (tb_6 (List.mem_of_getElem? (i := 105) rfl)) rfl)
theorem yk_X11_kept : Yk yX11_kept cX11_kept 2 (some .long) 1 := ⟨(good_in (tb_6 (List.mem_of_getElem? (i := 108) rfl)) rfl), (good_in (tb_1 (List.mem_of_getElem? (i := 1) rfl)) rfl), ⟨by decide +kernel, by decide +kernel⟩, by decide +kernel⟩
theorem yv_X11_kept : Cond.instanceMethod yX11_kept ∈ lw_good ∧ Cond.selects yX11_kept.cls yX11_kept yX11_kept ∈ lw_good := ⟨(good_in (tb_6 (List.mem_of_getElem? (i := 106) rfl)) rfl), (good_in (tb_6 (List.mem_of_getElem? (i := 107) rfl)) rfl)⟩
theorem lk_L_141 : Lk RL 141 yX12_kept := Or.inl (good_in (tb_10 (List.mem_of_getElem? (i := 41) rfl)) rfl)
theorem yk_X12_kept : Yk yX12_kept cX12_kept 2 (some .long) 1 := ⟨(good_in (tb_10 (List.mem_of_getElem? (i := 44) rfl)) rfl), (good_in (tb_1 (List.mem_of_getElem? (i := 8) rfl)) rfl), ⟨by decide +kernel, by decide +kernel⟩, by decide +kernel⟩
theorem yv_X12_kept : Cond.instanceMethod yX12_kept ∈ lw_good ∧ Cond.selects yX12_kept.cls yX12_kept yX12_kept ∈ lw_good := ⟨(good_in (tb_10 (List.mem_of_getElem? (i := 42) rfl)) rfl), (good_in (tb_10 (List.mem_of_getElem? (i := 43) rfl)) rfl)⟩
theorem lk_L_133 : Lk RL 133 yX11_ran := Or.inl (good_in (tb_6 (List.mem_of_getElem? (i := 101) rfl)) rfl)
theorem yk_X11_ran : Yk yX11_ran cX11_ran 2 (some .int) 1 := ⟨(good_in (tb_6 (List.mem_of_getElem? (i := 104) rfl)) rfl), (good_in (tb_1 (List.mem_of_getElem? (i := 1) rfl)) rfl), ⟨by decide +kernel, by decide +kernel⟩, by decide +kernel⟩
theorem yv_X11_ran : Cond.instanceMethod yX11_ran ∈ lw_good ∧ Cond.selects yX11_ran.cls yX11_ran yX11_ran ∈ lw_good := ⟨(good_in (tb_6 (List.mem_of_getElem? (i := 102) rfl)) rfl), (good_in (tb_6 (List.mem_of_getElem? (i := 103) rfl)) rfl)⟩
theorem lk_L_136 : Lk RL 136 yX12_ran := Or.inl (good_in (tb_10 (List.mem_of_getElem? (i := 37) rfl)) rfl)
theorem yk_X12_ran : Yk yX12_ran cX12_ran 2 (some .int) 1 := ⟨(good_in (tb_10 (List.mem_of_getElem? (i := 40) rfl)) rfl), (good_in (tb_1 (List.mem_of_getElem? (i := 8) rfl)) rfl), ⟨by decide +kernel, by decide +kernel⟩, by decide +kernel⟩
theorem yv_X12_ran : Cond.instanceMethod yX12_ran ∈ lw_good ∧ Cond.selects yX12_ran.cls yX12_ran yX12_ran ∈ lw_good := ⟨(good_in (tb_10 (List.mem_of_getElem? (i := 38) rfl)) rfl), (good_in (tb_10 (List.mem_of_getElem? (i := 39) rfl)) rfl)⟩
theorem lk_L_129 : Lk RL 129 yX11_run := Or.inl (good_in (tb_6 (List.mem_of_getElem? (i := 54) rfl)) rfl)
theorem yk_X11_run : Yk yX11_run cX11_run 3 (some .int) 2 := ⟨(good_in (tb_6 (List.mem_of_getElem? (i := 57) rfl)) rfl), (good_in (tb_1 (List.mem_of_getElem? (i := 1) rfl)) rfl), ⟨by decide +kernel, by decide +kernel⟩, by decide +kernel⟩
theorem yv_X11_run : Cond.instanceMethod yX11_run ∈ lw_good ∧ Cond.selects yX11_run.cls yX11_run yX11_run ∈ lw_good := ⟨(good_in (tb_6 (List.mem_of_getElem? (i := 55) rfl)) rfl), (good_in (tb_6 (List.mem_of_getElem? (i := 56) rfl)) rfl)⟩
theorem lk_L_132 : Lk RL 132 yX12_run := Or.inl (good_in (tb_10 (List.mem_of_getElem? (i := 16) rfl)) rfl)
theorem yk_X12_run : Yk yX12_run cX12_run 4 (some .int) 2 := ⟨(good_in (tb_10 (List.mem_of_getElem? (i := 19) rfl)) rfl), (good_in (tb_1 (List.mem_of_getElem? (i := 8) rfl)) rfl), ⟨by decide +kernel, by decide +kernel⟩, by decide +kernel⟩
theorem yv_X12_run : Cond.instanceMethod yX12_run ∈ lw_good ∧ Cond.selects yX12_run.cls yX12_run yX12_run ∈ lw_good := ⟨(good_in (tb_10 (List.mem_of_getElem? (i := 17) rfl)) rfl), (good_in (tb_10 (List.mem_of_getElem? (i := 18) rfl)) rfl)⟩
theorem lk_L_125 : Lk RL 125 yX11_program := Or.inl (good_in (tb_5 (List.mem_of_getElem? (i := 208) rfl)) rfl)
theorem yk_X11_program : Yk yX11_program cX11_program 4 (some .int) 1 := ⟨(good_in (tb_5 (List.mem_of_getElem? (i := 211) rfl)) rfl), (good_in (tb_1 (List.mem_of_getElem? (i := 1) rfl)) rfl), ⟨by decide +kernel, by decide +kernel⟩, by decide +kernel⟩
theorem yv_X11_program : Cond.instanceMethod yX11_program ∈ lw_good ∧ Cond.selects yX11_program.cls yX11_program yX11_program ∈ lw_good := ⟨(good_in (tb_5 (List.mem_of_getElem? (i := 209) rfl)) rfl), (good_in (tb_5 (List.mem_of_getElem? (i := 210) rfl)) rfl)⟩
theorem lk_L_128 : Lk RL 128 yX12_program := Or.inl (good_in (tb_9 (List.mem_of_getElem? (i := 232) rfl)) rfl)
theorem yk_X12_program : Yk yX12_program cX12_program 3 (some .int) 1 := ⟨(good_in (tb_9 (List.mem_of_getElem? (i := 235) rfl)) rfl), (good_in (tb_1 (List.mem_of_getElem? (i := 8) rfl)) rfl), ⟨by decide +kernel, by decide +kernel⟩, by decide +kernel⟩
theorem yv_X12_program : Cond.instanceMethod yX12_program ∈ lw_good ∧ Cond.selects yX12_program.cls yX12_program yX12_program ∈ lw_good := ⟨(good_in (tb_9 (List.mem_of_getElem? (i := 233) rfl)) rfl), (good_in (tb_9 (List.mem_of_getElem? (i := 234) rfl)) rfl)⟩
theorem lk_L_121 : Lk RL 121 yX11_blamed := Or.inl (good_in (tb_5 (List.mem_of_getElem? (i := 190) rfl)) rfl)
theorem yk_X11_blamed : Yk yX11_blamed cX11_blamed 8 (some .int) 1 := ⟨(good_in (tb_5 (List.mem_of_getElem? (i := 193) rfl)) rfl), (good_in (tb_1 (List.mem_of_getElem? (i := 1) rfl)) rfl), ⟨by decide +kernel, by decide +kernel⟩, by decide +kernel⟩
theorem yv_X11_blamed : Cond.instanceMethod yX11_blamed ∈ lw_good ∧ Cond.selects yX11_blamed.cls yX11_blamed yX11_blamed ∈ lw_good := ⟨(good_in (tb_5 (List.mem_of_getElem? (i := 191) rfl)) rfl), (good_in (tb_5 (List.mem_of_getElem? (i := 192) rfl)) rfl)⟩
theorem lk_L_124 : Lk RL 124 yX12_blamed := Or.inl (good_in (tb_9 (List.mem_of_getElem? (i := 226) rfl)) rfl)
theorem yk_X12_blamed : Yk yX12_blamed cX12_blamed 8 (some .int) 1 := ⟨(good_in (tb_9 (List.mem_of_getElem? (i := 229) rfl)) rfl), (good_in (tb_1 (List.mem_of_getElem? (i := 8) rfl)) rfl), ⟨by decide +kernel, by decide +kernel⟩, by decide +kernel⟩
theorem yv_X12_blamed : Cond.instanceMethod yX12_blamed ∈ lw_good ∧ Cond.selects yX12_blamed.cls yX12_blamed yX12_blamed ∈ lw_good := ⟨(good_in (tb_9 (List.mem_of_getElem? (i := 227) rfl)) rfl), (good_in (tb_9 (List.mem_of_getElem? (i := 228) rfl)) rfl)⟩
theorem lk_L_117 : Lk RL 117 yX11_wrong := Or.inl (good_in (tb_5 (List.mem_of_getElem? (i := 178) rfl)) rfl)
theorem yk_X11_wrong : Yk yX11_wrong cX11_wrong 4 (some .int) 0 := ⟨(good_in (tb_5 (List.mem_of_getElem? (i := 181) rfl)) rfl), (good_in (tb_1 (List.mem_of_getElem? (i := 1) rfl)) rfl), ⟨by decide +kernel, by decide +kernel⟩, by decide +kernel⟩
theorem yv_X11_wrong : Cond.instanceMethod yX11_wrong ∈ lw_good ∧ Cond.selects yX11_wrong.cls yX11_wrong yX11_wrong ∈ lw_good := ⟨(good_in (tb_5 (List.mem_of_getElem? (i := 179) rfl)) rfl), (good_in (tb_5 (List.mem_of_getElem? (i := 180) rfl)) rfl)⟩
theorem lk_L_120 : Lk RL 120 yX12_wrong := Or.inl (good_in (tb_9 (List.mem_of_getElem? (i := 214) rfl)) rfl)
theorem yk_X12_wrong : Yk yX12_wrong cX12_wrong 4 (some .int) 0 := ⟨(good_in (tb_9 (List.mem_of_getElem? (i := 217) rfl)) rfl), (good_in (tb_1 (List.mem_of_getElem? (i := 8) rfl)) rfl), ⟨by decide +kernel, by decide +kernel⟩, by decide +kernel⟩
theorem yv_X12_wrong : Cond.instanceMethod yX12_wrong ∈ lw_good ∧ Cond.selects yX12_wrong.cls yX12_wrong yX12_wrong ∈ lw_good := ⟨(good_in (tb_9 (List.mem_of_getElem? (i := 215) rfl)) rfl), (good_in (tb_9 (List.mem_of_getElem? (i := 216) rfl)) rfl)⟩
theorem lk_L_113 : Lk RL 113 yX11_stamp := Or.inl (good_in (tb_5 (List.mem_of_getElem? (i := 151) rfl)) rfl)
theorem yk_X11_stamp : Yk yX11_stamp cX11_stamp 3 (some .int) 2 := ⟨(good_in (tb_5 (List.mem_of_getElem? (i := 154) rfl)) rfl), (good_in (tb_1 (List.mem_of_getElem? (i := 1) rfl)) rfl), ⟨by decide +kernel, by decide +kernel⟩, by decide +kernel⟩
theorem yv_X11_stamp : Cond.instanceMethod yX11_stamp ∈ lw_good ∧ Cond.selects yX11_stamp.cls yX11_stamp yX11_stamp ∈ lw_good := ⟨(good_in (tb_5 (List.mem_of_getElem? (i := 152) rfl)) rfl), (good_in (tb_5 (List.mem_of_getElem? (i := 153) rfl)) rfl)⟩
theorem lk_L_116 : Lk RL 116 yX12_stamp := Or.inl (good_in (tb_9 (List.mem_of_getElem? (i := 210) rfl)) rfl)
theorem yk_X12_stamp : Yk yX12_stamp cX12_stamp 3 (some .int) 2 := ⟨(good_in (tb_9 (List.mem_of_getElem? (i := 213) rfl)) rfl), (good_in (tb_1 (List.mem_of_getElem? (i := 8) rfl)) rfl), ⟨by decide +kernel, by decide +kernel⟩, by decide +kernel⟩
theorem yv_X12_stamp : Cond.instanceMethod yX12_stamp ∈ lw_good ∧ Cond.selects yX12_stamp.cls yX12_stamp yX12_stamp ∈ lw_good := ⟨(good_in (tb_9 (List.mem_of_getElem? (i := 211) rfl)) rfl), (good_in (tb_9 (List.mem_of_getElem? (i := 212) rfl)) rfl)⟩
theorem lk_L_109 : Lk RL 109 yX11_misses := Or.inl (good_in (tb_5 (List.mem_of_getElem? (i := 143) rfl)) rfl)
theorem yk_X11_misses : Yk yX11_misses cX11_misses 2 (some .int) 1 := ⟨(good_in (tb_5 (List.mem_of_getElem? (i := 146) rfl)) rfl), (good_in (tb_1 (List.mem_of_getElem? (i := 1) rfl)) rfl), ⟨by decide +kernel, by decide +kernel⟩, by decide +kernel⟩
theorem yv_X11_misses : Cond.instanceMethod yX11_misses ∈ lw_good ∧ Cond.selects yX11_misses.cls yX11_misses yX11_misses ∈ lw_good := ⟨(good_in (tb_5 (List.mem_of_getElem? (i := 144) rfl)) rfl), (good_in (tb_5 (List.mem_of_getElem? (i := 145) rfl)) rfl)⟩
theorem lk_L_112 : Lk RL 112 yX12_misses := Or.inl (good_in (tb_9 (List.mem_of_getElem? (i := 206) rfl)) rfl)
theorem yk_X12_misses : Yk yX12_misses cX12_misses 4 (some .int) 1 := ⟨(good_in (tb_9 (List.mem_of_getElem? (i := 209) rfl)) rfl), (good_in (tb_1 (List.mem_of_getElem? (i := 8) rfl)) rfl), ⟨by decide +kernel, by decide +kernel⟩, by decide +kernel⟩
theorem yv_X12_misses : Cond.instanceMethod yX12_misses ∈ lw_good ∧ Cond.selects yX12_misses.cls yX12_misses yX12_misses ∈ lw_good := ⟨(good_in (tb_9 (List.mem_of_getElem? (i := 207) rfl)) rfl), (good_in (tb_9 (List.mem_of_getElem? (i := 208) rfl)) rfl)⟩
theorem lk_L_105 : Lk RL 105 yX11_table := Or.inl (good_in (tb_5 (List.mem_of_getElem? (i := 139) rfl)) rfl)
theorem yk_X11_table : Yk yX11_table cX11_table 3 (some .int) 2 := ⟨(good_in (tb_5 (List.mem_of_getElem? (i := 142) rfl)) rfl), (good_in (tb_1 (List.mem_of_getElem? (i := 1) rfl)) rfl), ⟨by decide +kernel, by decide +kernel⟩, by decide +kernel⟩
theorem yv_X11_table : Cond.instanceMethod yX11_table ∈ lw_good ∧ Cond.selects yX11_table.cls yX11_table yX11_table ∈ lw_good := ⟨(good_in (tb_5 (List.mem_of_getElem? (i := 140) rfl)) rfl), (good_in (tb_5 (List.mem_of_getElem? (i := 141) rfl)) rfl)⟩
theorem lk_L_108 : Lk RL 108 yX12_table := Or.inl (good_in (tb_9 (List.mem_of_getElem? (i := 202) rfl)) rfl)
theorem yk_X12_table : Yk yX12_table cX12_table 4 (some .int) 2 := ⟨(good_in (tb_9 (List.mem_of_getElem? (i := 205) rfl)) rfl), (good_in (tb_1 (List.mem_of_getElem? (i := 8) rfl)) rfl), ⟨by decide +kernel, by decide +kernel⟩, by decide +kernel⟩
theorem yv_X12_table : Cond.instanceMethod yX12_table ∈ lw_good ∧ Cond.selects yX12_table.cls yX12_table yX12_table ∈ lw_good := ⟨(good_in (tb_9 (List.mem_of_getElem? (i := 203) rfl)) rfl), (good_in (tb_9 (List.mem_of_getElem? (i := 204) rfl)) rfl)⟩
theorem lk_L_101 : Lk RL 101 yX11_told := Or.inl (good_in (tb_5 (List.mem_of_getElem? (i := 123) rfl)) rfl)
theorem yk_X11_told : Yk yX11_told cX11_told 3 (some .int) 2 := ⟨(good_in (tb_5 (List.mem_of_getElem? (i := 126) rfl)) rfl), (good_in (tb_1 (List.mem_of_getElem? (i := 1) rfl)) rfl), ⟨by decide +kernel, by decide +kernel⟩, by decide +kernel⟩
theorem yv_X11_told : Cond.instanceMethod yX11_told ∈ lw_good ∧ Cond.selects yX11_told.cls yX11_told yX11_told ∈ lw_good := ⟨(good_in (tb_5 (List.mem_of_getElem? (i := 124) rfl)) rfl), (good_in (tb_5 (List.mem_of_getElem? (i := 125) rfl)) rfl)⟩
theorem lk_L_104 : Lk RL 104 yX12_told_ := Or.inl (good_in (tb_9 (List.mem_of_getElem? (i := 194) rfl)) rfl)
theorem yk_X12_told_ : Yk yX12_told_ cX12_told_ 5 (some .int) 2 := ⟨(good_in (tb_9 (List.mem_of_getElem? (i := 197) rfl)) rfl), (good_in (tb_1 (List.mem_of_getElem? (i := 8) rfl)) rfl), ⟨by decide +kernel, by decide +kernel⟩, by decide +kernel⟩
theorem yv_X12_told_ : Cond.instanceMethod yX12_told_ ∈ lw_good ∧ Cond.selects yX12_told_.cls yX12_told_ yX12_told_ ∈ lw_good := ⟨(good_in (tb_9 (List.mem_of_getElem? (i := 195) rfl)) rfl), (good_in (tb_9 (List.mem_of_getElem? (i := 196) rfl)) rfl)⟩
theorem lk_L_97 : Lk RL 97 yX11_notice := Or.inl (good_in (tb_5 (List.mem_of_getElem? (i := 81) rfl)) rfl)
theorem yk_X11_notice : Yk yX11_notice cX11_notice 6 (some .int) 5 := ⟨(good_in (tb_5 (List.mem_of_getElem? (i := 84) rfl)) rfl), (good_in (tb_1 (List.mem_of_getElem? (i := 1) rfl)) rfl), ⟨by decide +kernel, by decide +kernel⟩, by decide +kernel⟩
theorem yv_X11_notice : Cond.instanceMethod yX11_notice ∈ lw_good ∧ Cond.selects yX11_notice.cls yX11_notice yX11_notice ∈ lw_good := ⟨(good_in (tb_5 (List.mem_of_getElem? (i := 82) rfl)) rfl), (good_in (tb_5 (List.mem_of_getElem? (i := 83) rfl)) rfl)⟩
theorem lk_L_100 : Lk RL 100 yX12_notice := Or.inl (good_in (tb_9 (List.mem_of_getElem? (i := 190) rfl)) rfl)
theorem yk_X12_notice : Yk yX12_notice cX12_notice 6 (some .int) 5 := ⟨(good_in (tb_9 (List.mem_of_getElem? (i := 193) rfl)) rfl), (good_in (tb_1 (List.mem_of_getElem? (i := 8) rfl)) rfl), ⟨by decide +kernel, by decide +kernel⟩, by decide +kernel⟩
theorem yv_X12_notice : Cond.instanceMethod yX12_notice ∈ lw_good ∧ Cond.selects yX12_notice.cls yX12_notice yX12_notice ∈ lw_good := ⟨(good_in (tb_9 (List.mem_of_getElem? (i := 191) rfl)) rfl), (good_in (tb_9 (List.mem_of_getElem? (i := 192) rfl)) rfl)⟩
theorem lk_L_93 : Lk RL 93 yX11_server := Or.inl (good_in (tb_5 (List.mem_of_getElem? (i := 57) rfl)) rfl)
theorem yk_X11_server : Yk yX11_server cX11_server 2 (some .int) 1 := ⟨(good_in (tb_5 (List.mem_of_getElem? (i := 60) rfl)) rfl), (good_in (tb_1 (List.mem_of_getElem? (i := 1) rfl)) rfl), ⟨by decide +kernel, by decide +kernel⟩, by decide +kernel⟩
theorem yv_X11_server : Cond.instanceMethod yX11_server ∈ lw_good ∧ Cond.selects yX11_server.cls yX11_server yX11_server ∈ lw_good := ⟨(good_in (tb_5 (List.mem_of_getElem? (i := 58) rfl)) rfl), (good_in (tb_5 (List.mem_of_getElem? (i := 59) rfl)) rfl)⟩
theorem lk_L_96 : Lk RL 96 yX12_server := Or.inl (good_in (tb_9 (List.mem_of_getElem? (i := 185) rfl)) rfl)
theorem yk_X12_server : Yk yX12_server cX12_server 2 (some .int) 1 := ⟨(good_in (tb_9 (List.mem_of_getElem? (i := 188) rfl)) rfl), (good_in (tb_1 (List.mem_of_getElem? (i := 8) rfl)) rfl), ⟨by decide +kernel, by decide +kernel⟩, by decide +kernel⟩
theorem yv_X12_server : Cond.instanceMethod yX12_server ∈ lw_good ∧ Cond.selects yX12_server.cls yX12_server yX12_server ∈ lw_good := ⟨(good_in (tb_9 (List.mem_of_getElem? (i := 186) rfl)) rfl), (good_in (tb_9 (List.mem_of_getElem? (i := 187) rfl)) rfl)⟩
theorem lk_L_89 : Lk RL 89 yX11_fault := Or.inl (good_in (tb_5 (List.mem_of_getElem? (i := 53) rfl)) rfl)
theorem yk_X11_fault : Yk yX11_fault cX11_fault 2 (some .int) 1 := ⟨(good_in (tb_5 (List.mem_of_getElem? (i := 56) rfl)) rfl), (good_in (tb_1 (List.mem_of_getElem? (i := 1) rfl)) rfl), ⟨by decide +kernel, by decide +kernel⟩, by decide +kernel⟩
theorem yv_X11_fault : Cond.instanceMethod yX11_fault ∈ lw_good ∧ Cond.selects yX11_fault.cls yX11_fault yX11_fault ∈ lw_good := ⟨(good_in (tb_5 (List.mem_of_getElem? (i := 54) rfl)) rfl), (good_in (tb_5 (List.mem_of_getElem? (i := 55) rfl)) rfl)⟩
theorem lk_L_92 : Lk RL 92 yX12_fault := Or.inl (good_in (tb_9 (List.mem_of_getElem? (i := 181) rfl)) rfl)
theorem yk_X12_fault : Yk yX12_fault cX12_fault 2 (some .int) 1 := ⟨(good_in (tb_9 (List.mem_of_getElem? (i := 184) rfl)) rfl), (good_in (tb_1 (List.mem_of_getElem? (i := 8) rfl)) rfl), ⟨by decide +kernel, by decide +kernel⟩, by decide +kernel⟩
theorem yv_X12_fault : Cond.instanceMethod yX12_fault ∈ lw_good ∧ Cond.selects yX12_fault.cls yX12_fault yX12_fault ∈ lw_good := ⟨(good_in (tb_9 (List.mem_of_getElem? (i := 182) rfl)) rfl), (good_in (tb_9 (List.mem_of_getElem? (i := 183) rfl)) rfl)⟩
theorem lk_L_85 : Lk RL 85 yX11_rules := Or.inl (good_in (tb_3 (List.mem_of_getElem? (i := 160) rfl)) rfl)
theorem yk_X11_rules : Yk yX11_rules cX11_rules 5 (some .int) 2 := ⟨(good_in (tb_3 (List.mem_of_getElem? (i := 163) rfl)) rfl), (good_in (tb_1 (List.mem_of_getElem? (i := 1) rfl)) rfl), ⟨by decide +kernel, by decide +kernel⟩, by decide +kernel⟩
theorem yv_X11_rules : Cond.instanceMethod yX11_rules ∈ lw_good ∧ Cond.selects yX11_rules.cls yX11_rules yX11_rules ∈ lw_good := ⟨(good_in (tb_3 (List.mem_of_getElem? (i := 161) rfl)) rfl), (good_in (tb_3 (List.mem_of_getElem? (i := 162) rfl)) rfl)⟩
theorem lk_L_88 : Lk RL 88 yX12_rules := Or.inl (good_in (tb_9 (List.mem_of_getElem? (i := 44) rfl)) rfl)
theorem yk_X12_rules : Yk yX12_rules cX12_rules 4 (some .int) 2 := ⟨(good_in (tb_9 (List.mem_of_getElem? (i := 47) rfl)) rfl), (good_in (tb_1 (List.mem_of_getElem? (i := 8) rfl)) rfl), ⟨by decide +kernel, by decide +kernel⟩, by decide +kernel⟩
theorem yv_X12_rules : Cond.instanceMethod yX12_rules ∈ lw_good ∧ Cond.selects yX12_rules.cls yX12_rules yX12_rules ∈ lw_good := ⟨(good_in (tb_9 (List.mem_of_getElem? (i := 45) rfl)) rfl), (good_in (tb_9 (List.mem_of_getElem? (i := 46) rfl)) rfl)⟩
theorem lk_L_80 : Lk RL 80 yX11_feed := Or.inl (good_in (tb_3 (List.mem_of_getElem? (i := 152) rfl)) rfl)
theorem yk_X11_feed : Yk yX11_feed cX11_feed 6 (some .int) 5 := ⟨(good_in (tb_3 (List.mem_of_getElem? (i := 155) rfl)) rfl), (good_in (tb_1 (List.mem_of_getElem? (i := 1) rfl)) rfl), ⟨by decide +kernel, by decide +kernel⟩, by decide +kernel⟩
theorem yv_X11_feed : Cond.instanceMethod yX11_feed ∈ lw_good ∧ Cond.selects yX11_feed.cls yX11_feed yX11_feed ∈ lw_good := ⟨(good_in (tb_3 (List.mem_of_getElem? (i := 153) rfl)) rfl), (good_in (tb_3 (List.mem_of_getElem? (i := 154) rfl)) rfl)⟩
theorem lk_L_84 : Lk RL 84 yX12_feed := Or.inl (good_in (tb_9 (List.mem_of_getElem? (i := 36) rfl)) rfl)
theorem yk_X12_feed : Yk yX12_feed cX12_feed 6 (some .int) 5 := ⟨(good_in (tb_9 (List.mem_of_getElem? (i := 39) rfl)) rfl), (good_in (tb_1 (List.mem_of_getElem? (i := 8) rfl)) rfl), ⟨by decide +kernel, by decide +kernel⟩, by decide +kernel⟩
theorem yv_X12_feed : Cond.instanceMethod yX12_feed ∈ lw_good ∧ Cond.selects yX12_feed.cls yX12_feed yX12_feed ∈ lw_good := ⟨(good_in (tb_9 (List.mem_of_getElem? (i := 37) rfl)) rfl), (good_in (tb_9 (List.mem_of_getElem? (i := 38) rfl)) rfl)⟩
theorem lk_L_76 : Lk RL 76 yX11_worst := Or.inl (good_in (tb_3 (List.mem_of_getElem? (i := 134) rfl)) rfl)
theorem yk_X11_worst : Yk yX11_worst cX11_worst 10 (some .long) 3 := ⟨(good_in (tb_3 (List.mem_of_getElem? (i := 137) rfl)) rfl), (good_in (tb_1 (List.mem_of_getElem? (i := 1) rfl)) rfl), ⟨by decide +kernel, by decide +kernel⟩, by decide +kernel⟩
theorem yv_X11_worst : Cond.instanceMethod yX11_worst ∈ lw_good ∧ Cond.selects yX11_worst.cls yX11_worst yX11_worst ∈ lw_good := ⟨(good_in (tb_3 (List.mem_of_getElem? (i := 135) rfl)) rfl), (good_in (tb_3 (List.mem_of_getElem? (i := 136) rfl)) rfl)⟩
theorem lk_L_79 : Lk RL 79 yX12_worst := Or.inl (good_in (tb_9 (List.mem_of_getElem? (i := 32) rfl)) rfl)
theorem yk_X12_worst : Yk yX12_worst cX12_worst 8 (some .long) 3 := ⟨(good_in (tb_9 (List.mem_of_getElem? (i := 35) rfl)) rfl), (good_in (tb_1 (List.mem_of_getElem? (i := 8) rfl)) rfl), ⟨by decide +kernel, by decide +kernel⟩, by decide +kernel⟩
theorem yv_X12_worst : Cond.instanceMethod yX12_worst ∈ lw_good ∧ Cond.selects yX12_worst.cls yX12_worst yX12_worst ∈ lw_good := ⟨(good_in (tb_9 (List.mem_of_getElem? (i := 33) rfl)) rfl), (good_in (tb_9 (List.mem_of_getElem? (i := 34) rfl)) rfl)⟩
theorem lk_L_71 : Lk RL 71 yX11_off := Or.inl (good_in (tb_3 (List.mem_of_getElem? (i := 126) rfl)) rfl)
theorem yk_X11_off : Yk yX11_off cX11_off 4 (some .long) 3 := ⟨(good_in (tb_3 (List.mem_of_getElem? (i := 129) rfl)) rfl), (good_in (tb_1 (List.mem_of_getElem? (i := 1) rfl)) rfl), ⟨by decide +kernel, by decide +kernel⟩, by decide +kernel⟩
theorem yv_X11_off : Cond.instanceMethod yX11_off ∈ lw_good ∧ Cond.selects yX11_off.cls yX11_off yX11_off ∈ lw_good := ⟨(good_in (tb_3 (List.mem_of_getElem? (i := 127) rfl)) rfl), (good_in (tb_3 (List.mem_of_getElem? (i := 128) rfl)) rfl)⟩
theorem lk_L_75 : Lk RL 75 yX12_off := Or.inl (good_in (tb_9 (List.mem_of_getElem? (i := 25) rfl)) rfl)
theorem yk_X12_off : Yk yX12_off cX12_off 6 (some .long) 3 := ⟨(good_in (tb_9 (List.mem_of_getElem? (i := 28) rfl)) rfl), (good_in (tb_1 (List.mem_of_getElem? (i := 8) rfl)) rfl), ⟨by decide +kernel, by decide +kernel⟩, by decide +kernel⟩
theorem yv_X12_off : Cond.instanceMethod yX12_off ∈ lw_good ∧ Cond.selects yX12_off.cls yX12_off yX12_off ∈ lw_good := ⟨(good_in (tb_9 (List.mem_of_getElem? (i := 26) rfl)) rfl), (good_in (tb_9 (List.mem_of_getElem? (i := 27) rfl)) rfl)⟩
theorem lk_L_67 : Lk RL 67 yX11_ahead := Or.inl (good_in (tb_3 (List.mem_of_getElem? (i := 121) rfl)) rfl)
theorem yk_X11_ahead : Yk yX11_ahead cX11_ahead 3 (some .int) 2 := ⟨(good_in (tb_3 (List.mem_of_getElem? (i := 124) rfl)) rfl), (good_in (tb_1 (List.mem_of_getElem? (i := 1) rfl)) rfl), ⟨by decide +kernel, by decide +kernel⟩, by decide +kernel⟩
theorem yv_X11_ahead : Cond.instanceMethod yX11_ahead ∈ lw_good ∧ Cond.selects yX11_ahead.cls yX11_ahead yX11_ahead ∈ lw_good := ⟨(good_in (tb_3 (List.mem_of_getElem? (i := 122) rfl)) rfl), (good_in (tb_3 (List.mem_of_getElem? (i := 123) rfl)) rfl)⟩
theorem lk_L_70 : Lk RL 70 yX12_ahead := Or.inl (good_in (tb_9 (List.mem_of_getElem? (i := 21) rfl)) rfl)
theorem yk_X12_ahead : Yk yX12_ahead cX12_ahead 3 (some .int) 2 := ⟨(good_in (tb_9 (List.mem_of_getElem? (i := 24) rfl)) rfl), (good_in (tb_1 (List.mem_of_getElem? (i := 8) rfl)) rfl), ⟨by decide +kernel, by decide +kernel⟩, by decide +kernel⟩
theorem yv_X12_ahead : Cond.instanceMethod yX12_ahead ∈ lw_good ∧ Cond.selects yX12_ahead.cls yX12_ahead yX12_ahead ∈ lw_good := ⟨(good_in (tb_9 (List.mem_of_getElem? (i := 22) rfl)) rfl), (good_in (tb_9 (List.mem_of_getElem? (i := 23) rfl)) rfl)⟩
theorem lk_L_63 : Lk RL 63 yX11_shows := Or.inl (good_in (tb_3 (List.mem_of_getElem? (i := 16) rfl)) rfl)
theorem yk_X11_shows : Yk yX11_shows cX11_shows 3 (some .long) 2 := ⟨(good_in (tb_3 (List.mem_of_getElem? (i := 19) rfl)) rfl), (good_in (tb_1 (List.mem_of_getElem? (i := 1) rfl)) rfl), ⟨by decide +kernel, by decide +kernel⟩, by decide +kernel⟩
theorem yv_X11_shows : Cond.instanceMethod yX11_shows ∈ lw_good ∧ Cond.selects yX11_shows.cls yX11_shows yX11_shows ∈ lw_good := ⟨(good_in (tb_3 (List.mem_of_getElem? (i := 17) rfl)) rfl), (good_in (tb_3 (List.mem_of_getElem? (i := 18) rfl)) rfl)⟩
theorem lk_L_66 : Lk RL 66 yX12_shows := Or.inl (good_in (tb_8 (List.mem_of_getElem? (i := 184) rfl)) rfl)
theorem yk_X12_shows : Yk yX12_shows cX12_shows 3 (some .long) 2 := ⟨(good_in (tb_8 (List.mem_of_getElem? (i := 187) rfl)) rfl), (good_in (tb_1 (List.mem_of_getElem? (i := 8) rfl)) rfl), ⟨by decide +kernel, by decide +kernel⟩, by decide +kernel⟩
theorem yv_X12_shows : Cond.instanceMethod yX12_shows ∈ lw_good ∧ Cond.selects yX12_shows.cls yX12_shows yX12_shows ∈ lw_good := ⟨(good_in (tb_8 (List.mem_of_getElem? (i := 185) rfl)) rfl), (good_in (tb_8 (List.mem_of_getElem? (i := 186) rfl)) rfl)⟩
theorem lk_L_59 : Lk RL 59 yX11_step := Or.inl (good_in (tb_2 (List.mem_of_getElem? (i := 230) rfl)) rfl)
theorem yk_X11_step : Yk yX11_step cX11_step 3 (some .boolean) 2 := ⟨(good_in (tb_2 (List.mem_of_getElem? (i := 233) rfl)) rfl), (good_in (tb_1 (List.mem_of_getElem? (i := 1) rfl)) rfl), ⟨by decide +kernel, by decide +kernel⟩, by decide +kernel⟩
theorem yv_X11_step : Cond.instanceMethod yX11_step ∈ lw_good ∧ Cond.selects yX11_step.cls yX11_step yX11_step ∈ lw_good := ⟨(good_in (tb_2 (List.mem_of_getElem? (i := 231) rfl)) rfl), (good_in (tb_2 (List.mem_of_getElem? (i := 232) rfl)) rfl)⟩
theorem lk_L_62 : Lk RL 62 yX12_step := Or.inl (good_in (tb_8 (List.mem_of_getElem? (i := 176) rfl)) rfl)
theorem yk_X12_step : Yk yX12_step cX12_step 3 (some .boolean) 2 := ⟨(good_in (tb_8 (List.mem_of_getElem? (i := 179) rfl)) rfl), (good_in (tb_1 (List.mem_of_getElem? (i := 8) rfl)) rfl), ⟨by decide +kernel, by decide +kernel⟩, by decide +kernel⟩
theorem yv_X12_step : Cond.instanceMethod yX12_step ∈ lw_good ∧ Cond.selects yX12_step.cls yX12_step yX12_step ∈ lw_good := ⟨(good_in (tb_8 (List.mem_of_getElem? (i := 177) rfl)) rfl), (good_in (tb_8 (List.mem_of_getElem? (i := 178) rfl)) rfl)⟩
theorem lk_L_54 : Lk RL 54 yX11_clock := Or.inl (good_in (tb_2 (List.mem_of_getElem? (i := 135) rfl)) rfl)
theorem yk_X11_clock : Yk yX11_clock cX11_clock 2 (some .int) 1 := ⟨(good_in (tb_2 (List.mem_of_getElem? (i := 138) rfl)) rfl), (good_in (tb_1 (List.mem_of_getElem? (i := 1) rfl)) rfl), ⟨by decide +kernel, by decide +kernel⟩, by decide +kernel⟩
theorem yv_X11_clock : Cond.instanceMethod yX11_clock ∈ lw_good ∧ Cond.selects yX11_clock.cls yX11_clock yX11_clock ∈ lw_good := ⟨(good_in (tb_2 (List.mem_of_getElem? (i := 136) rfl)) rfl), (good_in (tb_2 (List.mem_of_getElem? (i := 137) rfl)) rfl)⟩
theorem lk_L_58 : Lk RL 58 yX12_clock := Or.inl (good_in (tb_8 (List.mem_of_getElem? (i := 171) rfl)) rfl)
theorem yk_X12_clock : Yk yX12_clock cX12_clock 2 (some .int) 1 := ⟨(good_in (tb_8 (List.mem_of_getElem? (i := 174) rfl)) rfl), (good_in (tb_1 (List.mem_of_getElem? (i := 8) rfl)) rfl), ⟨by decide +kernel, by decide +kernel⟩, by decide +kernel⟩
theorem yv_X12_clock : Cond.instanceMethod yX12_clock ∈ lw_good ∧ Cond.selects yX12_clock.cls yX12_clock yX12_clock ∈ lw_good := ⟨(good_in (tb_8 (List.mem_of_getElem? (i := 172) rfl)) rfl), (good_in (tb_8 (List.mem_of_getElem? (i := 173) rfl)) rfl)⟩
theorem lk_L_50 : Lk RL 50 yX11_count := Or.inl (good_in (tb_2 (List.mem_of_getElem? (i := 116) rfl)) rfl)
theorem yk_X11_count : Yk yX11_count cX11_count 3 (some .int) 2 := ⟨(good_in (tb_2 (List.mem_of_getElem? (i := 119) rfl)) rfl), (good_in (tb_1 (List.mem_of_getElem? (i := 1) rfl)) rfl), ⟨by decide +kernel, by decide +kernel⟩, by decide +kernel⟩
theorem yv_X11_count : Cond.instanceMethod yX11_count ∈ lw_good ∧ Cond.selects yX11_count.cls yX11_count yX11_count ∈ lw_good := ⟨(good_in (tb_2 (List.mem_of_getElem? (i := 117) rfl)) rfl), (good_in (tb_2 (List.mem_of_getElem? (i := 118) rfl)) rfl)⟩
theorem lk_L_53 : Lk RL 53 yX12_count := Or.inl (good_in (tb_8 (List.mem_of_getElem? (i := 162) rfl)) rfl)
theorem yk_X12_count : Yk yX12_count cX12_count 5 (some .int) 2 := ⟨(good_in (tb_8 (List.mem_of_getElem? (i := 165) rfl)) rfl), (good_in (tb_1 (List.mem_of_getElem? (i := 8) rfl)) rfl), ⟨by decide +kernel, by decide +kernel⟩, by decide +kernel⟩
theorem yv_X12_count : Cond.instanceMethod yX12_count ∈ lw_good ∧ Cond.selects yX12_count.cls yX12_count yX12_count ∈ lw_good := ⟨(good_in (tb_8 (List.mem_of_getElem? (i := 163) rfl)) rfl), (good_in (tb_8 (List.mem_of_getElem? (i := 164) rfl)) rfl)⟩
theorem lk_L_45 : Lk RL 45 yX11_civil := Or.inl (good_in (tb_2 (List.mem_of_getElem? (i := 99) rfl)) rfl)
theorem yk_X11_civil : Yk yX11_civil cX11_civil 3 (some .int) 2 := ⟨(good_in (tb_2 (List.mem_of_getElem? (i := 102) rfl)) rfl), (good_in (tb_1 (List.mem_of_getElem? (i := 1) rfl)) rfl), ⟨by decide +kernel, by decide +kernel⟩, by decide +kernel⟩
theorem yv_X11_civil : Cond.instanceMethod yX11_civil ∈ lw_good ∧ Cond.selects yX11_civil.cls yX11_civil yX11_civil ∈ lw_good := ⟨(good_in (tb_2 (List.mem_of_getElem? (i := 100) rfl)) rfl), (good_in (tb_2 (List.mem_of_getElem? (i := 101) rfl)) rfl)⟩
theorem lk_L_49 : Lk RL 49 yX12_civil := Or.inl (good_in (tb_8 (List.mem_of_getElem? (i := 137) rfl)) rfl)
theorem yk_X12_civil : Yk yX12_civil cX12_civil 3 (some .int) 2 := ⟨(good_in (tb_8 (List.mem_of_getElem? (i := 140) rfl)) rfl), (good_in (tb_1 (List.mem_of_getElem? (i := 8) rfl)) rfl), ⟨by decide +kernel, by decide +kernel⟩, by decide +kernel⟩
theorem yv_X12_civil : Cond.instanceMethod yX12_civil ∈ lw_good ∧ Cond.selects yX12_civil.cls yX12_civil yX12_civil ∈ lw_good := ⟨(good_in (tb_8 (List.mem_of_getElem? (i := 138) rfl)) rfl), (good_in (tb_8 (List.mem_of_getElem? (i := 139) rfl)) rfl)⟩
theorem lk_L_40 : Lk RL 40 yX11_leap := Or.inl (good_in (tb_2 (List.mem_of_getElem? (i := 51) rfl)) rfl)
theorem yk_X11_leap : Yk yX11_leap cX11_leap 3 (some .boolean) 2 := ⟨(good_in (tb_2 (List.mem_of_getElem? (i := 54) rfl)) rfl), (good_in (tb_1 (List.mem_of_getElem? (i := 1) rfl)) rfl), ⟨by decide +kernel, by decide +kernel⟩, by decide +kernel⟩
theorem yv_X11_leap : Cond.instanceMethod yX11_leap ∈ lw_good ∧ Cond.selects yX11_leap.cls yX11_leap yX11_leap ∈ lw_good := ⟨(good_in (tb_2 (List.mem_of_getElem? (i := 52) rfl)) rfl), (good_in (tb_2 (List.mem_of_getElem? (i := 53) rfl)) rfl)⟩
theorem lk_L_44 : Lk RL 44 yX12_leap := Or.inl (good_in (tb_8 (List.mem_of_getElem? (i := 125) rfl)) rfl)
theorem yk_X12_leap : Yk yX12_leap cX12_leap 5 (some .boolean) 2 := ⟨(good_in (tb_8 (List.mem_of_getElem? (i := 128) rfl)) rfl), (good_in (tb_1 (List.mem_of_getElem? (i := 8) rfl)) rfl), ⟨by decide +kernel, by decide +kernel⟩, by decide +kernel⟩
theorem yv_X12_leap : Cond.instanceMethod yX12_leap ∈ lw_good ∧ Cond.selects yX12_leap.cls yX12_leap yX12_leap ∈ lw_good := ⟨(good_in (tb_8 (List.mem_of_getElem? (i := 126) rfl)) rfl), (good_in (tb_8 (List.mem_of_getElem? (i := 127) rfl)) rfl)⟩
theorem lk_L_35 : Lk RL 35 yX11_pour := Or.inl (good_in (tb_2 (List.mem_of_getElem? (i := 36) rfl)) rfl)
theorem yk_X11_pour : Yk yX11_pour cX11_pour 6 (some .boolean) 5 := ⟨(good_in (tb_2 (List.mem_of_getElem? (i := 39) rfl)) rfl), (good_in (tb_1 (List.mem_of_getElem? (i := 1) rfl)) rfl), ⟨by decide +kernel, by decide +kernel⟩, by decide +kernel⟩
theorem yv_X11_pour : Cond.instanceMethod yX11_pour ∈ lw_good ∧ Cond.selects yX11_pour.cls yX11_pour yX11_pour ∈ lw_good := ⟨(good_in (tb_2 (List.mem_of_getElem? (i := 37) rfl)) rfl), (good_in (tb_2 (List.mem_of_getElem? (i := 38) rfl)) rfl)⟩
theorem lk_L_39 : Lk RL 39 yX12_pour := Or.inl (good_in (tb_8 (List.mem_of_getElem? (i := 121) rfl)) rfl)
theorem yk_X12_pour : Yk yX12_pour cX12_pour 9 (some .boolean) 5 := ⟨(good_in (tb_8 (List.mem_of_getElem? (i := 124) rfl)) rfl), (good_in (tb_1 (List.mem_of_getElem? (i := 8) rfl)) rfl), ⟨by decide +kernel, by decide +kernel⟩, by decide +kernel⟩
theorem yv_X12_pour : Cond.instanceMethod yX12_pour ∈ lw_good ∧ Cond.selects yX12_pour.cls yX12_pour yX12_pour ∈ lw_good := ⟨(good_in (tb_8 (List.mem_of_getElem? (i := 122) rfl)) rfl), (good_in (tb_8 (List.mem_of_getElem? (i := 123) rfl)) rfl)⟩
theorem lk_L_30 : Lk RL 30 yX11_read := Or.inl (good_in (tb_2 (List.mem_of_getElem? (i := 27) rfl)) rfl)
theorem yk_X11_read : Yk yX11_read cX11_read 3 (some .long) 2 := ⟨(good_in (tb_2 (List.mem_of_getElem? (i := 30) rfl)) rfl), (good_in (tb_1 (List.mem_of_getElem? (i := 1) rfl)) rfl), ⟨by decide +kernel, by decide +kernel⟩, by decide +kernel⟩
theorem yv_X11_read : Cond.instanceMethod yX11_read ∈ lw_good ∧ Cond.selects yX11_read.cls yX11_read yX11_read ∈ lw_good := ⟨(good_in (tb_2 (List.mem_of_getElem? (i := 28) rfl)) rfl), (good_in (tb_2 (List.mem_of_getElem? (i := 29) rfl)) rfl)⟩
theorem lk_L_34 : Lk RL 34 yX12_read := Or.inl (good_in (tb_8 (List.mem_of_getElem? (i := 116) rfl)) rfl)
theorem yk_X12_read : Yk yX12_read cX12_read 3 (some .long) 2 := ⟨(good_in (tb_8 (List.mem_of_getElem? (i := 119) rfl)) rfl), (good_in (tb_1 (List.mem_of_getElem? (i := 8) rfl)) rfl), ⟨by decide +kernel, by decide +kernel⟩, by decide +kernel⟩
theorem yv_X12_read : Cond.instanceMethod yX12_read ∈ lw_good ∧ Cond.selects yX12_read.cls yX12_read yX12_read ∈ lw_good := ⟨(good_in (tb_8 (List.mem_of_getElem? (i := 117) rfl)) rfl), (good_in (tb_8 (List.mem_of_getElem? (i := 118) rfl)) rfl)⟩
theorem kJ_L_23 : Cond.constantLong RL 23 4294967295 ∈ lw_good := (good_in (tb_10 (List.mem_of_getElem? (i := 112) rfl)) rfl)
theorem lk_L_25 : Lk RL 25 yX11_write := Or.inl (good_in (tb_2 (List.mem_of_getElem? (i := 11) rfl)) rfl)
theorem yk_X11_write : Yk yX11_write cX11_write 5 (some .boolean) 3 := ⟨(good_in (tb_2 (List.mem_of_getElem? (i := 14) rfl)) rfl), (good_in (tb_1 (List.mem_of_getElem? (i := 1) rfl)) rfl), ⟨by decide +kernel, by decide +kernel⟩, by decide +kernel⟩
theorem yv_X11_write : Cond.instanceMethod yX11_write ∈ lw_good ∧ Cond.selects yX11_write.cls yX11_write yX11_write ∈ lw_good := ⟨(good_in (tb_2 (List.mem_of_getElem? (i := 12) rfl)) rfl), (good_in (tb_2 (List.mem_of_getElem? (i := 13) rfl)) rfl)⟩
theorem lk_L_29 : Lk RL 29 yX12_write := Or.inl (good_in (tb_8 (List.mem_of_getElem? (i := 101) rfl)) rfl)
theorem yk_X12_write : Yk yX12_write cX12_write 5 (some .boolean) 3 := ⟨(good_in (tb_8 (List.mem_of_getElem? (i := 104) rfl)) rfl), (good_in (tb_1 (List.mem_of_getElem? (i := 8) rfl)) rfl), ⟨by decide +kernel, by decide +kernel⟩, by decide +kernel⟩
theorem yv_X12_write : Cond.instanceMethod yX12_write ∈ lw_good ∧ Cond.selects yX12_write.cls yX12_write yX12_write ∈ lw_good := ⟨(good_in (tb_8 (List.mem_of_getElem? (i := 102) rfl)) rfl), (good_in (tb_8 (List.mem_of_getElem? (i := 103) rfl)) rfl)⟩
theorem lk_L_18 : Lk RL 18 yX11_tray := Or.inl (good_in (tb_1 (List.mem_of_getElem? (i := 224) rfl)) rfl)
theorem yk_X11_tray : Yk yX11_tray cX11_tray 4 (some .boolean) 3 := ⟨(good_in (tb_1 (List.mem_of_getElem? (i := 227) rfl)) rfl), (good_in (tb_1 (List.mem_of_getElem? (i := 1) rfl)) rfl), ⟨by decide +kernel, by decide +kernel⟩, by decide +kernel⟩
theorem yv_X11_tray : Cond.instanceMethod yX11_tray ∈ lw_good ∧ Cond.selects yX11_tray.cls yX11_tray yX11_tray ∈ lw_good := ⟨(good_in (tb_1 (List.mem_of_getElem? (i := 225) rfl)) rfl), (good_in (tb_1 (List.mem_of_getElem? (i := 226) rfl)) rfl)⟩
theorem lk_L_22 : Lk RL 22 yX12_tray := Or.inl (good_in (tb_8 (List.mem_of_getElem? (i := 93) rfl)) rfl)
theorem yk_X12_tray : Yk yX12_tray cX12_tray 5 (some .boolean) 3 := ⟨(good_in (tb_8 (List.mem_of_getElem? (i := 96) rfl)) rfl), (good_in (tb_1 (List.mem_of_getElem? (i := 8) rfl)) rfl), ⟨by decide +kernel, by decide +kernel⟩, by decide +kernel⟩
theorem yv_X12_tray : Cond.instanceMethod yX12_tray ∈ lw_good ∧ Cond.selects yX12_tray.cls yX12_tray yX12_tray ∈ lw_good := ⟨(good_in (tb_8 (List.mem_of_getElem? (i := 94) rfl)) rfl), (good_in (tb_8 (List.mem_of_getElem? (i := 95) rfl)) rfl)⟩
theorem lk_L_13 : Lk RL 13 yX11_status := Or.inl (good_in (tb_1 (List.mem_of_getElem? (i := 220) rfl)) rfl)
theorem yk_X11_status : Yk yX11_status cX11_status 1 (some .int) 0 := ⟨(good_in (tb_1 (List.mem_of_getElem? (i := 223) rfl)) rfl), (good_in (tb_1 (List.mem_of_getElem? (i := 1) rfl)) rfl), ⟨by decide +kernel, by decide +kernel⟩, by decide +kernel⟩
theorem yv_X11_status : Cond.instanceMethod yX11_status ∈ lw_good ∧ Cond.selects yX11_status.cls yX11_status yX11_status ∈ lw_good := ⟨(good_in (tb_1 (List.mem_of_getElem? (i := 221) rfl)) rfl), (good_in (tb_1 (List.mem_of_getElem? (i := 222) rfl)) rfl)⟩
theorem lk_L_17 : Lk RL 17 yX12_status := Or.inl (good_in (tb_8 (List.mem_of_getElem? (i := 89) rfl)) rfl)
theorem yk_X12_status : Yk yX12_status cX12_status 1 (some .int) 0 := ⟨(good_in (tb_8 (List.mem_of_getElem? (i := 92) rfl)) rfl), (good_in (tb_1 (List.mem_of_getElem? (i := 8) rfl)) rfl), ⟨by decide +kernel, by decide +kernel⟩, by decide +kernel⟩
theorem yv_X12_status : Cond.instanceMethod yX12_status ∈ lw_good ∧ Cond.selects yX12_status.cls yX12_status yX12_status ∈ lw_good := ⟨(good_in (tb_8 (List.mem_of_getElem? (i := 90) rfl)) rfl), (good_in (tb_8 (List.mem_of_getElem? (i := 91) rfl)) rfl)⟩
def fL_law_196 (xs : Nat → Int32) (L : Nat) (k18 : Hs → Nat → Nat → Int32 → Option Int32) (σ : Hs) (xv1 : Nat) (xv2 : Nat) (xv3 : Int32) : Option Int32 := (isC σ xv1 13).bind fun iq1 => (fX11_status_0 σ xv1).bind fun vq2 => (isC σ xv2 14).bind fun iq3 => (fX12_status_0 σ xv2).bind fun vq4 => if vq2 = vq4.1 then (k18 vq4.2 xv1 xv2 (xv3 + 6)) else (some 0)
set_option maxRecDepth 20000 in
theorem wL_law_196 {p : Program} {l : Launch} {e : Env} {s : State} {m : MethodId} {below : List Frame} {meth : Method} {c : Code} {E : Ev} {B bb L : Nat} {xs : Nat → Int32} (hX : va_X bb L xs s s.heap) (hbl : bb < s.heap.size) (hbB : bb < B) (hBe : B = s.heap.size) (C0 : Cx E B p s m #[Value.ref bb] meth c cL_law RL 4 (some .boolean)) {cA sA : Nat} (hcA : cA + 20 ≤ 590000) (hsA : sA + 5000 ≤ 7000000) {k18 : Hs → Nat → Nat → Int32 → Option Int32} (hk18 : (∀ (σ : Hs) (xv1 : Nat) (xv2 : Nat) (xv3 : Int32) (H : Heap) (locs : List Loc) (ls : Array Slot), Hw E B s.heap σ H locs → lv_has ls 4 [(0, .ref bb), (1, .ref xv1), (2, .ref xv2), (3, .int xv3)] → k18 σ xv1 xv2 xv3 = some 1 → W p l e room_1 s m #[Value.ref bb] below meth c H locs (cA + 20) (sA + 5000) (lw_Z below #[Value.ref bb] s) (F0 m 18 ls []))) (σ : Hs) (xv1 : Nat) (xv2 : Nat) (xv3 : Int32) (H : Heap) (locs : List Loc) (ls : Array Slot) (hH : Hw E B s.heap σ H locs) (hl : lv_has ls 4 [(0, .ref bb), (1, .ref xv1), (2, .ref xv2), (3, .int xv3)]) (hf : fL_law_196 xs L k18 σ xv1 xv2 xv3 = some 1) : W p l e room_1 s m #[Value.ref bb] below meth c H locs cA sA (lw_Z below #[Value.ref bb] s) (F0 m 196 ls []) := by
  obtain ⟨⟨hx, hb, hml, hown, hts⟩, -, hBs, hEk⟩ := id C0
  unfold fL_law_196 at hf
  refine lv_aload_n hx hb dL_law_196 rfl (lv_at hl 1 rfl) ?_
  obtain ⟨iq1, hiq1, hf⟩ := ob hf
  obtain ⟨vq2, hvq2, hf⟩ := ob hf
  refine hw_cV (st2 := [.int vq2]) [] [] C0 hH yk_X11_status yv_X11_status lk_L_13 rfl (ctX11_status hvq2) hiq1 rfl rfl rfl hl.1 (Nat.le_of_ble_eq_true rfl) dL_law_197 ⟨by decide, by decide⟩ ⟨Nat.le_trans (by omega) cl_ok, Nat.le_trans (by omega) sl_ok⟩ (fun H locs hH => ?_)
  refine lv_aload_n hx hb dL_law_200 rfl (lv_at hl 2 rfl) ?_
  obtain ⟨iq3, hiq3, hf⟩ := ob hf
  obtain ⟨vq4, hvq4, hf⟩ := ob hf
  refine hw_cV (st2 := [.int vq4.1, .int vq2]) [] [.int vq2] C0 hH yk_X12_status yv_X12_status lk_L_17 rfl (ctX12_status hvq4) hiq3 rfl rfl rfl hl.1 (Nat.le_of_ble_eq_true rfl) dL_law_201 ⟨by decide, by decide⟩ ⟨Nat.le_trans (by omega) cl_ok, Nat.le_trans (by omega) sl_ok⟩ (fun H locs hH => ?_)
  refine lv_icmp_eq (tgt := 1472) hx hb dL_law_204 (by decide) (fun hc => ?_) (fun hc => ?_)
  · replace hf := if_t hf hc
    refine lv_iinc (v := xv3 + 6) (lv' := [(3, .int (xv3 + 6)), (0, .ref bb), (1, .ref xv1), (2, .ref xv2)]) hx hb dL_law_1472 hl (k := 3) rfl rfl (by decide) rfl (fun ls hl => ?_)
    refine lv_goto (tgt := 18) hx hb dL_law_1475 (by decide) ?_
    refine W.widen (k := cA + 20) (n := sA + 5000) (by omega) (by omega) ?_
    exact hk18 vq4.2 xv1 xv2 (xv3 + 6) H locs ls hH (lv_sub hl [1, 2, 3, 0] rfl) hf
  · replace hf := if_f hf hc
    refine lv_iconst (v := 0) hx hb dL_law_207 (by decide) ?_
    exact absurd (Option.some.inj hf) (by decide)
def fL_law_209 (xs : Nat → Int32) (L : Nat) (k18 : Hs → Nat → Nat → Int32 → Option Int32) (σ : Hs) (xv1 : Nat) (xv2 : Nat) (xv3 : Int32) : Option Int32 := (sc xs L (xv3 + 1)).bind fun vq1 => (sc xs L (xv3 + 2)).bind fun vq2 => (sc xs L (xv3 + 3)).bind fun vq3 => (isC σ xv1 13).bind fun iq4 => (fX11_tray_0 σ xv1 vq1 vq2 vq3).bind fun vq5 => (sc xs L (xv3 + 1)).bind fun vq6 => (sc xs L (xv3 + 2)).bind fun vq7 => (sc xs L (xv3 + 3)).bind fun vq8 => (isC vq5.2 xv2 14).bind fun iq9 => (fX12_tray_0 vq5.2 xv2 vq6 vq7 vq8).bind fun vq10 => if vq5.1 = vq10.1 then (k18 vq10.2 xv1 xv2 (xv3 + 6)) else (some 0)
set_option maxRecDepth 20000 in
theorem wL_law_209 {p : Program} {l : Launch} {e : Env} {s : State} {m : MethodId} {below : List Frame} {meth : Method} {c : Code} {E : Ev} {B bb L : Nat} {xs : Nat → Int32} (hX : va_X bb L xs s s.heap) (hbl : bb < s.heap.size) (hbB : bb < B) (hBe : B = s.heap.size) (C0 : Cx E B p s m #[Value.ref bb] meth c cL_law RL 4 (some .boolean)) {cA sA : Nat} (hcA : cA + 20 ≤ 590000) (hsA : sA + 5000 ≤ 7000000) {k18 : Hs → Nat → Nat → Int32 → Option Int32} (hk18 : (∀ (σ : Hs) (xv1 : Nat) (xv2 : Nat) (xv3 : Int32) (H : Heap) (locs : List Loc) (ls : Array Slot), Hw E B s.heap σ H locs → lv_has ls 4 [(0, .ref bb), (1, .ref xv1), (2, .ref xv2), (3, .int xv3)] → k18 σ xv1 xv2 xv3 = some 1 → W p l e room_1 s m #[Value.ref bb] below meth c H locs (cA + 20) (sA + 5000) (lw_Z below #[Value.ref bb] s) (F0 m 18 ls []))) (σ : Hs) (xv1 : Nat) (xv2 : Nat) (xv3 : Int32) (H : Heap) (locs : List Loc) (ls : Array Slot) (hH : Hw E B s.heap σ H locs) (hl : lv_has ls 4 [(0, .ref bb), (1, .ref xv1), (2, .ref xv2), (3, .int xv3)]) (hf : fL_law_209 xs L k18 σ xv1 xv2 xv3 = some 1) : W p l e room_1 s m #[Value.ref bb] below meth c H locs cA sA (lw_Z below #[Value.ref bb] s) (F0 m 209 ls []) := by
  obtain ⟨⟨hx, hb, hml, hown, hts⟩, -, hBs, hEk⟩ := id C0
  unfold fL_law_209 at hf
  refine lv_aload_n hx hb dL_law_209 rfl (lv_at hl 1 rfl) ?_
  refine lv_aload_n hx hb dL_law_210 rfl (lv_at hl 0 rfl) ?_
  refine lv_iload_n hx hb dL_law_211 rfl (lv_at hl 3 rfl) ?_
  refine lv_iconst (v := 1) hx hb dL_law_212 (by decide) ?_
  refine lv_iadd hx hb dL_law_213 ?_
  obtain ⟨vq1, hvq1, hf⟩ := ob hf
  refine hw_sld hX hbl hbB C0 hH hvq1 dL_law_214 ?_
  refine lv_aload_n hx hb dL_law_215 rfl (lv_at hl 0 rfl) ?_
  refine lv_iload_n hx hb dL_law_216 rfl (lv_at hl 3 rfl) ?_
  refine lv_iconst (v := 2) hx hb dL_law_217 (by decide) ?_
  refine lv_iadd hx hb dL_law_218 ?_
  obtain ⟨vq2, hvq2, hf⟩ := ob hf
  refine hw_sld hX hbl hbB C0 hH hvq2 dL_law_219 ?_
  refine lv_aload_n hx hb dL_law_220 rfl (lv_at hl 0 rfl) ?_
  refine lv_iload_n hx hb dL_law_221 rfl (lv_at hl 3 rfl) ?_
  refine lv_iconst (v := 3) hx hb dL_law_222 (by decide) ?_
  refine lv_iadd hx hb dL_law_223 ?_
  obtain ⟨vq3, hvq3, hf⟩ := ob hf
  refine hw_sld hX hbl hbB C0 hH hvq3 dL_law_224 ?_
  obtain ⟨iq4, hiq4, hf⟩ := ob hf
  obtain ⟨vq5, hvq5, hf⟩ := ob hf
  refine hw_cV (st2 := [.int vq5.1]) [.int vq1, .int vq2, .int vq3] [] C0 hH yk_X11_tray yv_X11_tray lk_L_18 rfl (ctX11_tray hvq5) hiq4 rfl rfl rfl hl.1 (Nat.le_of_ble_eq_true rfl) dL_law_225 ⟨by decide, by decide⟩ ⟨Nat.le_trans (by omega) cl_ok, Nat.le_trans (by omega) sl_ok⟩ (fun H locs hH => ?_)
  refine lv_aload_n hx hb dL_law_228 rfl (lv_at hl 2 rfl) ?_
  refine lv_aload_n hx hb dL_law_229 rfl (lv_at hl 0 rfl) ?_
  refine lv_iload_n hx hb dL_law_230 rfl (lv_at hl 3 rfl) ?_
  refine lv_iconst (v := 1) hx hb dL_law_231 (by decide) ?_
  refine lv_iadd hx hb dL_law_232 ?_
  obtain ⟨vq6, hvq6, hf⟩ := ob hf
  refine hw_sld hX hbl hbB C0 hH hvq6 dL_law_233 ?_
  refine lv_aload_n hx hb dL_law_234 rfl (lv_at hl 0 rfl) ?_
  refine lv_iload_n hx hb dL_law_235 rfl (lv_at hl 3 rfl) ?_
  refine lv_iconst (v := 2) hx hb dL_law_236 (by decide) ?_
  refine lv_iadd hx hb dL_law_237 ?_
  obtain ⟨vq7, hvq7, hf⟩ := ob hf
  refine hw_sld hX hbl hbB C0 hH hvq7 dL_law_238 ?_
  refine lv_aload_n hx hb dL_law_239 rfl (lv_at hl 0 rfl) ?_
  refine lv_iload_n hx hb dL_law_240 rfl (lv_at hl 3 rfl) ?_
  refine lv_iconst (v := 3) hx hb dL_law_241 (by decide) ?_
  refine lv_iadd hx hb dL_law_242 ?_
  obtain ⟨vq8, hvq8, hf⟩ := ob hf
  refine hw_sld hX hbl hbB C0 hH hvq8 dL_law_243 ?_
  obtain ⟨iq9, hiq9, hf⟩ := ob hf
  obtain ⟨vq10, hvq10, hf⟩ := ob hf
  refine hw_cV (st2 := [.int vq10.1, .int vq5.1]) [.int vq6, .int vq7, .int vq8] [.int vq5.1] C0 hH yk_X12_tray yv_X12_tray lk_L_22 rfl (ctX12_tray hvq10) hiq9 rfl rfl rfl hl.1 (Nat.le_of_ble_eq_true rfl) dL_law_244 ⟨by decide, by decide⟩ ⟨Nat.le_trans (by omega) cl_ok, Nat.le_trans (by omega) sl_ok⟩ (fun H locs hH => ?_)
  refine lv_icmp_eq (tgt := 1472) hx hb dL_law_247 (by decide) (fun hc => ?_) (fun hc => ?_)
  · replace hf := if_t hf hc
    refine lv_iinc (v := xv3 + 6) (lv' := [(3, .int (xv3 + 6)), (0, .ref bb), (1, .ref xv1), (2, .ref xv2)]) hx hb dL_law_1472 hl (k := 3) rfl rfl (by decide) rfl (fun ls hl => ?_)
    refine lv_goto (tgt := 18) hx hb dL_law_1475 (by decide) ?_
    refine W.widen (k := cA + 20) (n := sA + 5000) (by omega) (by omega) ?_
    exact hk18 vq10.2 xv1 xv2 (xv3 + 6) H locs ls hH (lv_sub hl [1, 2, 3, 0] rfl) hf
  · replace hf := if_f hf hc
    refine lv_iconst (v := 0) hx hb dL_law_250 (by decide) ?_
    exact absurd (Option.some.inj hf) (by decide)
def fL_law_252 (xs : Nat → Int32) (L : Nat) (k18 : Hs → Nat → Nat → Int32 → Option Int32) (σ : Hs) (xv1 : Nat) (xv2 : Nat) (xv3 : Int32) : Option Int32 := (sc xs L (xv3 + 1)).bind fun vq1 => (sc xs L (xv3 + 2)).bind fun vq2 => (sc xs L (xv3 + 3)).bind fun vq3 => (sc xs L (xv3 + 4)).bind fun vq4 => (isC σ xv1 13).bind fun iq5 => (fX11_write_0 σ xv1 vq1 vq2 ((vq3.toInt64 <<< ((32 : Int32).toInt64 &&& 63)) ||| (vq4.toInt64 &&& 4294967295))).bind fun vq6 => (sc xs L (xv3 + 1)).bind fun vq7 => (sc xs L (xv3 + 2)).bind fun vq8 => (sc xs L (xv3 + 3)).bind fun vq9 => (sc xs L (xv3 + 4)).bind fun vq10 => (isC vq6.2 xv2 14).bind fun iq11 => (fX12_write_0 vq6.2 xv2 vq7 vq8 ((vq9.toInt64 <<< ((32 : Int32).toInt64 &&& 63)) ||| (vq10.toInt64 &&& 4294967295))).bind fun vq12 => if vq6.1 = vq12.1 then (k18 vq12.2 xv1 xv2 (xv3 + 6)) else (some 0)
set_option maxRecDepth 20000 in
theorem wL_law_252 {p : Program} {l : Launch} {e : Env} {s : State} {m : MethodId} {below : List Frame} {meth : Method} {c : Code} {E : Ev} {B bb L : Nat} {xs : Nat → Int32} (hX : va_X bb L xs s s.heap) (hbl : bb < s.heap.size) (hbB : bb < B) (hBe : B = s.heap.size) (C0 : Cx E B p s m #[Value.ref bb] meth c cL_law RL 4 (some .boolean)) {cA sA : Nat} (hcA : cA + 20 ≤ 590000) (hsA : sA + 5000 ≤ 7000000) {k18 : Hs → Nat → Nat → Int32 → Option Int32} (hk18 : (∀ (σ : Hs) (xv1 : Nat) (xv2 : Nat) (xv3 : Int32) (H : Heap) (locs : List Loc) (ls : Array Slot), Hw E B s.heap σ H locs → lv_has ls 4 [(0, .ref bb), (1, .ref xv1), (2, .ref xv2), (3, .int xv3)] → k18 σ xv1 xv2 xv3 = some 1 → W p l e room_1 s m #[Value.ref bb] below meth c H locs (cA + 20) (sA + 5000) (lw_Z below #[Value.ref bb] s) (F0 m 18 ls []))) (σ : Hs) (xv1 : Nat) (xv2 : Nat) (xv3 : Int32) (H : Heap) (locs : List Loc) (ls : Array Slot) (hH : Hw E B s.heap σ H locs) (hl : lv_has ls 4 [(0, .ref bb), (1, .ref xv1), (2, .ref xv2), (3, .int xv3)]) (hf : fL_law_252 xs L k18 σ xv1 xv2 xv3 = some 1) : W p l e room_1 s m #[Value.ref bb] below meth c H locs cA sA (lw_Z below #[Value.ref bb] s) (F0 m 252 ls []) := by
  obtain ⟨⟨hx, hb, hml, hown, hts⟩, -, hBs, hEk⟩ := id C0
  unfold fL_law_252 at hf
  refine lv_aload_n hx hb dL_law_252 rfl (lv_at hl 1 rfl) ?_
  refine lv_aload_n hx hb dL_law_253 rfl (lv_at hl 0 rfl) ?_
  refine lv_iload_n hx hb dL_law_254 rfl (lv_at hl 3 rfl) ?_
  refine lv_iconst (v := 1) hx hb dL_law_255 (by decide) ?_
  refine lv_iadd hx hb dL_law_256 ?_
  obtain ⟨vq1, hvq1, hf⟩ := ob hf
  refine hw_sld hX hbl hbB C0 hH hvq1 dL_law_257 ?_
  refine lv_aload_n hx hb dL_law_258 rfl (lv_at hl 0 rfl) ?_
  refine lv_iload_n hx hb dL_law_259 rfl (lv_at hl 3 rfl) ?_
  refine lv_iconst (v := 2) hx hb dL_law_260 (by decide) ?_
  refine lv_iadd hx hb dL_law_261 ?_
  obtain ⟨vq2, hvq2, hf⟩ := ob hf
  refine hw_sld hX hbl hbB C0 hH hvq2 dL_law_262 ?_
  refine lv_aload_n hx hb dL_law_263 rfl (lv_at hl 0 rfl) ?_
  refine lv_iload_n hx hb dL_law_264 rfl (lv_at hl 3 rfl) ?_
  refine lv_iconst (v := 3) hx hb dL_law_265 (by decide) ?_
  refine lv_iadd hx hb dL_law_266 ?_
  obtain ⟨vq3, hvq3, hf⟩ := ob hf
  refine hw_sld hX hbl hbB C0 hH hvq3 dL_law_267 ?_
  refine lv_i2l hx hb dL_law_268 rfl ?_
  refine lv_bipush (v := 32) hx hb dL_law_269 (by decide) ?_
  refine lv_lshl hx hb dL_law_271 rfl ?_
  refine lv_aload_n hx hb dL_law_272 rfl (lv_at hl 0 rfl) ?_
  refine lv_iload_n hx hb dL_law_273 rfl (lv_at hl 3 rfl) ?_
  refine lv_iconst (v := 4) hx hb dL_law_274 (by decide) ?_
  refine lv_iadd hx hb dL_law_275 ?_
  obtain ⟨vq4, hvq4, hf⟩ := ob hf
  refine hw_sld hX hbl hbB C0 hH hvq4 dL_law_276 ?_
  refine lv_i2l hx hb dL_law_277 rfl ?_
  refine lv_ldc2 (v := 4294967295) hx hb hown (hts _ kJ_L_23) dL_law_278 ?_
  refine lv_land hx hb dL_law_281 ?_
  refine lv_lor hx hb dL_law_282 ?_
  obtain ⟨iq5, hiq5, hf⟩ := ob hf
  obtain ⟨vq6, hvq6, hf⟩ := ob hf
  refine hw_cV (st2 := [.int vq6.1]) [.int vq1, .int vq2, .long ((vq3.toInt64 <<< ((32 : Int32).toInt64 &&& 63)) ||| (vq4.toInt64 &&& 4294967295))] [] C0 hH yk_X11_write yv_X11_write lk_L_25 rfl (ctX11_write hvq6) hiq5 rfl rfl rfl hl.1 (Nat.le_of_ble_eq_true rfl) dL_law_283 ⟨by decide, by decide⟩ ⟨Nat.le_trans (by omega) cl_ok, Nat.le_trans (by omega) sl_ok⟩ (fun H locs hH => ?_)
  refine lv_aload_n hx hb dL_law_286 rfl (lv_at hl 2 rfl) ?_
  refine lv_aload_n hx hb dL_law_287 rfl (lv_at hl 0 rfl) ?_
  refine lv_iload_n hx hb dL_law_288 rfl (lv_at hl 3 rfl) ?_
  refine lv_iconst (v := 1) hx hb dL_law_289 (by decide) ?_
  refine lv_iadd hx hb dL_law_290 ?_
  obtain ⟨vq7, hvq7, hf⟩ := ob hf
  refine hw_sld hX hbl hbB C0 hH hvq7 dL_law_291 ?_
  refine lv_aload_n hx hb dL_law_292 rfl (lv_at hl 0 rfl) ?_
  refine lv_iload_n hx hb dL_law_293 rfl (lv_at hl 3 rfl) ?_
  refine lv_iconst (v := 2) hx hb dL_law_294 (by decide) ?_
  refine lv_iadd hx hb dL_law_295 ?_
  obtain ⟨vq8, hvq8, hf⟩ := ob hf
  refine hw_sld hX hbl hbB C0 hH hvq8 dL_law_296 ?_
  refine lv_aload_n hx hb dL_law_297 rfl (lv_at hl 0 rfl) ?_
  refine lv_iload_n hx hb dL_law_298 rfl (lv_at hl 3 rfl) ?_
  refine lv_iconst (v := 3) hx hb dL_law_299 (by decide) ?_
  refine lv_iadd hx hb dL_law_300 ?_
  obtain ⟨vq9, hvq9, hf⟩ := ob hf
  refine hw_sld hX hbl hbB C0 hH hvq9 dL_law_301 ?_
  refine lv_i2l hx hb dL_law_302 rfl ?_
  refine lv_bipush (v := 32) hx hb dL_law_303 (by decide) ?_
  refine lv_lshl hx hb dL_law_305 rfl ?_
  refine lv_aload_n hx hb dL_law_306 rfl (lv_at hl 0 rfl) ?_
  refine lv_iload_n hx hb dL_law_307 rfl (lv_at hl 3 rfl) ?_
  refine lv_iconst (v := 4) hx hb dL_law_308 (by decide) ?_
  refine lv_iadd hx hb dL_law_309 ?_
  obtain ⟨vq10, hvq10, hf⟩ := ob hf
  refine hw_sld hX hbl hbB C0 hH hvq10 dL_law_310 ?_
  refine lv_i2l hx hb dL_law_311 rfl ?_
  refine lv_ldc2 (v := 4294967295) hx hb hown (hts _ kJ_L_23) dL_law_312 ?_
  refine lv_land hx hb dL_law_315 ?_
  refine lv_lor hx hb dL_law_316 ?_
  obtain ⟨iq11, hiq11, hf⟩ := ob hf
  obtain ⟨vq12, hvq12, hf⟩ := ob hf
  refine hw_cV (st2 := [.int vq12.1, .int vq6.1]) [.int vq7, .int vq8, .long ((vq9.toInt64 <<< ((32 : Int32).toInt64 &&& 63)) ||| (vq10.toInt64 &&& 4294967295))] [.int vq6.1] C0 hH yk_X12_write yv_X12_write lk_L_29 rfl (ctX12_write hvq12) hiq11 rfl rfl rfl hl.1 (Nat.le_of_ble_eq_true rfl) dL_law_317 ⟨by decide, by decide⟩ ⟨Nat.le_trans (by omega) cl_ok, Nat.le_trans (by omega) sl_ok⟩ (fun H locs hH => ?_)
  refine lv_icmp_eq (tgt := 1472) hx hb dL_law_320 (by decide) (fun hc => ?_) (fun hc => ?_)
  · replace hf := if_t hf hc
    refine lv_iinc (v := xv3 + 6) (lv' := [(3, .int (xv3 + 6)), (0, .ref bb), (1, .ref xv1), (2, .ref xv2)]) hx hb dL_law_1472 hl (k := 3) rfl rfl (by decide) rfl (fun ls hl => ?_)
    refine lv_goto (tgt := 18) hx hb dL_law_1475 (by decide) ?_
    refine W.widen (k := cA + 20) (n := sA + 5000) (by omega) (by omega) ?_
    exact hk18 vq12.2 xv1 xv2 (xv3 + 6) H locs ls hH (lv_sub hl [1, 2, 3, 0] rfl) hf
  · replace hf := if_f hf hc
    refine lv_iconst (v := 0) hx hb dL_law_323 (by decide) ?_
    exact absurd (Option.some.inj hf) (by decide)
def fL_law_325 (xs : Nat → Int32) (L : Nat) (k18 : Hs → Nat → Nat → Int32 → Option Int32) (σ : Hs) (xv1 : Nat) (xv2 : Nat) (xv3 : Int32) : Option Int32 := (sc xs L (xv3 + 1)).bind fun vq1 => (sc xs L (xv3 + 2)).bind fun vq2 => (isC σ xv1 13).bind fun iq3 => (fX11_read_0 σ xv1 vq1 vq2).bind fun vq4 => (sc xs L (xv3 + 1)).bind fun vq5 => (sc xs L (xv3 + 2)).bind fun vq6 => (isC vq4.2 xv2 14).bind fun iq7 => (fX12_read_0 vq4.2 xv2 vq5 vq6).bind fun vq8 => if vq4.1 = vq8.1 then (k18 vq8.2 xv1 xv2 (xv3 + 6)) else (some 0)
set_option maxRecDepth 20000 in
theorem wL_law_325 {p : Program} {l : Launch} {e : Env} {s : State} {m : MethodId} {below : List Frame} {meth : Method} {c : Code} {E : Ev} {B bb L : Nat} {xs : Nat → Int32} (hX : va_X bb L xs s s.heap) (hbl : bb < s.heap.size) (hbB : bb < B) (hBe : B = s.heap.size) (C0 : Cx E B p s m #[Value.ref bb] meth c cL_law RL 4 (some .boolean)) {cA sA : Nat} (hcA : cA + 20 ≤ 590000) (hsA : sA + 5000 ≤ 7000000) {k18 : Hs → Nat → Nat → Int32 → Option Int32} (hk18 : (∀ (σ : Hs) (xv1 : Nat) (xv2 : Nat) (xv3 : Int32) (H : Heap) (locs : List Loc) (ls : Array Slot), Hw E B s.heap σ H locs → lv_has ls 4 [(0, .ref bb), (1, .ref xv1), (2, .ref xv2), (3, .int xv3)] → k18 σ xv1 xv2 xv3 = some 1 → W p l e room_1 s m #[Value.ref bb] below meth c H locs (cA + 20) (sA + 5000) (lw_Z below #[Value.ref bb] s) (F0 m 18 ls []))) (σ : Hs) (xv1 : Nat) (xv2 : Nat) (xv3 : Int32) (H : Heap) (locs : List Loc) (ls : Array Slot) (hH : Hw E B s.heap σ H locs) (hl : lv_has ls 4 [(0, .ref bb), (1, .ref xv1), (2, .ref xv2), (3, .int xv3)]) (hf : fL_law_325 xs L k18 σ xv1 xv2 xv3 = some 1) : W p l e room_1 s m #[Value.ref bb] below meth c H locs cA sA (lw_Z below #[Value.ref bb] s) (F0 m 325 ls []) := by
  obtain ⟨⟨hx, hb, hml, hown, hts⟩, -, hBs, hEk⟩ := id C0
  unfold fL_law_325 at hf
  refine lv_aload_n hx hb dL_law_325 rfl (lv_at hl 1 rfl) ?_
  refine lv_aload_n hx hb dL_law_326 rfl (lv_at hl 0 rfl) ?_
  refine lv_iload_n hx hb dL_law_327 rfl (lv_at hl 3 rfl) ?_
  refine lv_iconst (v := 1) hx hb dL_law_328 (by decide) ?_
  refine lv_iadd hx hb dL_law_329 ?_
  obtain ⟨vq1, hvq1, hf⟩ := ob hf
  refine hw_sld hX hbl hbB C0 hH hvq1 dL_law_330 ?_
  refine lv_aload_n hx hb dL_law_331 rfl (lv_at hl 0 rfl) ?_
  refine lv_iload_n hx hb dL_law_332 rfl (lv_at hl 3 rfl) ?_
  refine lv_iconst (v := 2) hx hb dL_law_333 (by decide) ?_
  refine lv_iadd hx hb dL_law_334 ?_
  obtain ⟨vq2, hvq2, hf⟩ := ob hf
  refine hw_sld hX hbl hbB C0 hH hvq2 dL_law_335 ?_
  obtain ⟨iq3, hiq3, hf⟩ := ob hf
  obtain ⟨vq4, hvq4, hf⟩ := ob hf
  refine hw_cV (st2 := [.long vq4.1]) [.int vq1, .int vq2] [] C0 hH yk_X11_read yv_X11_read lk_L_30 rfl (ctX11_read hvq4) hiq3 rfl rfl rfl hl.1 (Nat.le_of_ble_eq_true rfl) dL_law_336 ⟨by decide, by decide⟩ ⟨Nat.le_trans (by omega) cl_ok, Nat.le_trans (by omega) sl_ok⟩ (fun H locs hH => ?_)
  refine lv_aload_n hx hb dL_law_339 rfl (lv_at hl 2 rfl) ?_
  refine lv_aload_n hx hb dL_law_340 rfl (lv_at hl 0 rfl) ?_
  refine lv_iload_n hx hb dL_law_341 rfl (lv_at hl 3 rfl) ?_
  refine lv_iconst (v := 1) hx hb dL_law_342 (by decide) ?_
  refine lv_iadd hx hb dL_law_343 ?_
  obtain ⟨vq5, hvq5, hf⟩ := ob hf
  refine hw_sld hX hbl hbB C0 hH hvq5 dL_law_344 ?_
  refine lv_aload_n hx hb dL_law_345 rfl (lv_at hl 0 rfl) ?_
  refine lv_iload_n hx hb dL_law_346 rfl (lv_at hl 3 rfl) ?_
  refine lv_iconst (v := 2) hx hb dL_law_347 (by decide) ?_
  refine lv_iadd hx hb dL_law_348 ?_
  obtain ⟨vq6, hvq6, hf⟩ := ob hf
  refine hw_sld hX hbl hbB C0 hH hvq6 dL_law_349 ?_
  obtain ⟨iq7, hiq7, hf⟩ := ob hf
  obtain ⟨vq8, hvq8, hf⟩ := ob hf
  refine hw_cV (st2 := [.long vq8.1, .long vq4.1]) [.int vq5, .int vq6] [.long vq4.1] C0 hH yk_X12_read yv_X12_read lk_L_34 rfl (ctX12_read hvq8) hiq7 rfl rfl rfl hl.1 (Nat.le_of_ble_eq_true rfl) dL_law_350 ⟨by decide, by decide⟩ ⟨Nat.le_trans (by omega) cl_ok, Nat.le_trans (by omega) sl_ok⟩ (fun H locs hH => ?_)
  refine hw_leq (tgt := 1472) hx hb dL_law_353 dL_law_354 (by decide) (fun hc => ?_) (fun hc => ?_)
  · replace hf := if_t hf hc
    refine lv_iinc (v := xv3 + 6) (lv' := [(3, .int (xv3 + 6)), (0, .ref bb), (1, .ref xv1), (2, .ref xv2)]) hx hb dL_law_1472 hl (k := 3) rfl rfl (by decide) rfl (fun ls hl => ?_)
    refine lv_goto (tgt := 18) hx hb dL_law_1475 (by decide) ?_
    refine W.widen (k := cA + 20) (n := sA + 5000) (by omega) (by omega) ?_
    exact hk18 vq8.2 xv1 xv2 (xv3 + 6) H locs ls hH (lv_sub hl [1, 2, 3, 0] rfl) hf
  · replace hf := if_f hf hc
    refine lv_iconst (v := 0) hx hb dL_law_357 (by decide) ?_
    exact absurd (Option.some.inj hf) (by decide)
def fL_law_359 (xs : Nat → Int32) (L : Nat) (k18 : Hs → Nat → Nat → Int32 → Option Int32) (σ : Hs) (xv1 : Nat) (xv2 : Nat) (xv3 : Int32) : Option Int32 := (sc xs L (xv3 + 1)).bind fun vq1 => (sc xs L (xv3 + 2)).bind fun vq2 => (sc xs L (xv3 + 3)).bind fun vq3 => (sc xs L (xv3 + 4)).bind fun vq4 => (sc xs L (xv3 + 5)).bind fun vq5 => (isC σ xv1 13).bind fun iq6 => (fX11_pour_0 σ xv1 vq1 vq2 vq3 vq4 vq5).bind fun vq7 => (sc xs L (xv3 + 1)).bind fun vq8 => (sc xs L (xv3 + 2)).bind fun vq9 => (sc xs L (xv3 + 3)).bind fun vq10 => (sc xs L (xv3 + 4)).bind fun vq11 => (sc xs L (xv3 + 5)).bind fun vq12 => (isC vq7.2 xv2 14).bind fun iq13 => (fX12_pour_0 vq7.2 xv2 vq8 vq9 vq10 vq11 vq12).bind fun vq14 => if vq7.1 = vq14.1 then (k18 vq14.2 xv1 xv2 (xv3 + 6)) else (some 0)
set_option maxRecDepth 20000 in
theorem wL_law_359 {p : Program} {l : Launch} {e : Env} {s : State} {m : MethodId} {below : List Frame} {meth : Method} {c : Code} {E : Ev} {B bb L : Nat} {xs : Nat → Int32} (hX : va_X bb L xs s s.heap) (hbl : bb < s.heap.size) (hbB : bb < B) (hBe : B = s.heap.size) (C0 : Cx E B p s m #[Value.ref bb] meth c cL_law RL 4 (some .boolean)) {cA sA : Nat} (hcA : cA + 20 ≤ 590000) (hsA : sA + 5000 ≤ 7000000) {k18 : Hs → Nat → Nat → Int32 → Option Int32} (hk18 : (∀ (σ : Hs) (xv1 : Nat) (xv2 : Nat) (xv3 : Int32) (H : Heap) (locs : List Loc) (ls : Array Slot), Hw E B s.heap σ H locs → lv_has ls 4 [(0, .ref bb), (1, .ref xv1), (2, .ref xv2), (3, .int xv3)] → k18 σ xv1 xv2 xv3 = some 1 → W p l e room_1 s m #[Value.ref bb] below meth c H locs (cA + 20) (sA + 5000) (lw_Z below #[Value.ref bb] s) (F0 m 18 ls []))) (σ : Hs) (xv1 : Nat) (xv2 : Nat) (xv3 : Int32) (H : Heap) (locs : List Loc) (ls : Array Slot) (hH : Hw E B s.heap σ H locs) (hl : lv_has ls 4 [(0, .ref bb), (1, .ref xv1), (2, .ref xv2), (3, .int xv3)]) (hf : fL_law_359 xs L k18 σ xv1 xv2 xv3 = some 1) : W p l e room_1 s m #[Value.ref bb] below meth c H locs cA sA (lw_Z below #[Value.ref bb] s) (F0 m 359 ls []) := by
  obtain ⟨⟨hx, hb, hml, hown, hts⟩, -, hBs, hEk⟩ := id C0
  unfold fL_law_359 at hf
  refine lv_aload_n hx hb dL_law_359 rfl (lv_at hl 1 rfl) ?_
  refine lv_aload_n hx hb dL_law_360 rfl (lv_at hl 0 rfl) ?_
  refine lv_iload_n hx hb dL_law_361 rfl (lv_at hl 3 rfl) ?_
  refine lv_iconst (v := 1) hx hb dL_law_362 (by decide) ?_
  refine lv_iadd hx hb dL_law_363 ?_
  obtain ⟨vq1, hvq1, hf⟩ := ob hf
  refine hw_sld hX hbl hbB C0 hH hvq1 dL_law_364 ?_
  refine lv_aload_n hx hb dL_law_365 rfl (lv_at hl 0 rfl) ?_
  refine lv_iload_n hx hb dL_law_366 rfl (lv_at hl 3 rfl) ?_
  refine lv_iconst (v := 2) hx hb dL_law_367 (by decide) ?_
  refine lv_iadd hx hb dL_law_368 ?_
  obtain ⟨vq2, hvq2, hf⟩ := ob hf
  refine hw_sld hX hbl hbB C0 hH hvq2 dL_law_369 ?_
  refine lv_aload_n hx hb dL_law_370 rfl (lv_at hl 0 rfl) ?_
  refine lv_iload_n hx hb dL_law_371 rfl (lv_at hl 3 rfl) ?_
  refine lv_iconst (v := 3) hx hb dL_law_372 (by decide) ?_
  refine lv_iadd hx hb dL_law_373 ?_
  obtain ⟨vq3, hvq3, hf⟩ := ob hf
  refine hw_sld hX hbl hbB C0 hH hvq3 dL_law_374 ?_
  refine lv_aload_n hx hb dL_law_375 rfl (lv_at hl 0 rfl) ?_
  refine lv_iload_n hx hb dL_law_376 rfl (lv_at hl 3 rfl) ?_
  refine lv_iconst (v := 4) hx hb dL_law_377 (by decide) ?_
  refine lv_iadd hx hb dL_law_378 ?_
  obtain ⟨vq4, hvq4, hf⟩ := ob hf
  refine hw_sld hX hbl hbB C0 hH hvq4 dL_law_379 ?_
  refine lv_aload_n hx hb dL_law_380 rfl (lv_at hl 0 rfl) ?_
  refine lv_iload_n hx hb dL_law_381 rfl (lv_at hl 3 rfl) ?_
  refine lv_iconst (v := 5) hx hb dL_law_382 (by decide) ?_
  refine lv_iadd hx hb dL_law_383 ?_
  obtain ⟨vq5, hvq5, hf⟩ := ob hf
  refine hw_sld hX hbl hbB C0 hH hvq5 dL_law_384 ?_
  obtain ⟨iq6, hiq6, hf⟩ := ob hf
  obtain ⟨vq7, hvq7, hf⟩ := ob hf
  refine hw_cV (st2 := [.int vq7.1]) [.int vq1, .int vq2, .int vq3, .int vq4, .int vq5] [] C0 hH yk_X11_pour yv_X11_pour lk_L_35 rfl (ctX11_pour hvq7) hiq6 rfl rfl rfl hl.1 (Nat.le_of_ble_eq_true rfl) dL_law_385 ⟨by decide, by decide⟩ ⟨Nat.le_trans (by omega) cl_ok, Nat.le_trans (by omega) sl_ok⟩ (fun H locs hH => ?_)
  refine lv_aload_n hx hb dL_law_388 rfl (lv_at hl 2 rfl) ?_
  refine lv_aload_n hx hb dL_law_389 rfl (lv_at hl 0 rfl) ?_
  refine lv_iload_n hx hb dL_law_390 rfl (lv_at hl 3 rfl) ?_
  refine lv_iconst (v := 1) hx hb dL_law_391 (by decide) ?_
  refine lv_iadd hx hb dL_law_392 ?_
  obtain ⟨vq8, hvq8, hf⟩ := ob hf
  refine hw_sld hX hbl hbB C0 hH hvq8 dL_law_393 ?_
  refine lv_aload_n hx hb dL_law_394 rfl (lv_at hl 0 rfl) ?_
  refine lv_iload_n hx hb dL_law_395 rfl (lv_at hl 3 rfl) ?_
  refine lv_iconst (v := 2) hx hb dL_law_396 (by decide) ?_
  refine lv_iadd hx hb dL_law_397 ?_
  obtain ⟨vq9, hvq9, hf⟩ := ob hf
  refine hw_sld hX hbl hbB C0 hH hvq9 dL_law_398 ?_
  refine lv_aload_n hx hb dL_law_399 rfl (lv_at hl 0 rfl) ?_
  refine lv_iload_n hx hb dL_law_400 rfl (lv_at hl 3 rfl) ?_
  refine lv_iconst (v := 3) hx hb dL_law_401 (by decide) ?_
  refine lv_iadd hx hb dL_law_402 ?_
  obtain ⟨vq10, hvq10, hf⟩ := ob hf
  refine hw_sld hX hbl hbB C0 hH hvq10 dL_law_403 ?_
  refine lv_aload_n hx hb dL_law_404 rfl (lv_at hl 0 rfl) ?_
  refine lv_iload_n hx hb dL_law_405 rfl (lv_at hl 3 rfl) ?_
  refine lv_iconst (v := 4) hx hb dL_law_406 (by decide) ?_
  refine lv_iadd hx hb dL_law_407 ?_
  obtain ⟨vq11, hvq11, hf⟩ := ob hf
  refine hw_sld hX hbl hbB C0 hH hvq11 dL_law_408 ?_
  refine lv_aload_n hx hb dL_law_409 rfl (lv_at hl 0 rfl) ?_
  refine lv_iload_n hx hb dL_law_410 rfl (lv_at hl 3 rfl) ?_
  refine lv_iconst (v := 5) hx hb dL_law_411 (by decide) ?_
  refine lv_iadd hx hb dL_law_412 ?_
  obtain ⟨vq12, hvq12, hf⟩ := ob hf
  refine hw_sld hX hbl hbB C0 hH hvq12 dL_law_413 ?_
  obtain ⟨iq13, hiq13, hf⟩ := ob hf
  obtain ⟨vq14, hvq14, hf⟩ := ob hf
  refine hw_cV (st2 := [.int vq14.1, .int vq7.1]) [.int vq8, .int vq9, .int vq10, .int vq11, .int vq12] [.int vq7.1] C0 hH yk_X12_pour yv_X12_pour lk_L_39 rfl (ctX12_pour hvq14) hiq13 rfl rfl rfl hl.1 (Nat.le_of_ble_eq_true rfl) dL_law_414 ⟨by decide, by decide⟩ ⟨Nat.le_trans (by omega) cl_ok, Nat.le_trans (by omega) sl_ok⟩ (fun H locs hH => ?_)
  refine lv_icmp_eq (tgt := 1472) hx hb dL_law_417 (by decide) (fun hc => ?_) (fun hc => ?_)
  · replace hf := if_t hf hc
    refine lv_iinc (v := xv3 + 6) (lv' := [(3, .int (xv3 + 6)), (0, .ref bb), (1, .ref xv1), (2, .ref xv2)]) hx hb dL_law_1472 hl (k := 3) rfl rfl (by decide) rfl (fun ls hl => ?_)
    refine lv_goto (tgt := 18) hx hb dL_law_1475 (by decide) ?_
    refine W.widen (k := cA + 20) (n := sA + 5000) (by omega) (by omega) ?_
    exact hk18 vq14.2 xv1 xv2 (xv3 + 6) H locs ls hH (lv_sub hl [1, 2, 3, 0] rfl) hf
  · replace hf := if_f hf hc
    refine lv_iconst (v := 0) hx hb dL_law_420 (by decide) ?_
    exact absurd (Option.some.inj hf) (by decide)
def fL_law_422 (xs : Nat → Int32) (L : Nat) (k18 : Hs → Nat → Nat → Int32 → Option Int32) (σ : Hs) (xv1 : Nat) (xv2 : Nat) (xv3 : Int32) : Option Int32 := (sc xs L (xv3 + 1)).bind fun vq1 => (sc xs L (xv3 + 2)).bind fun vq2 => (isC σ xv1 13).bind fun iq3 => (fX11_leap_0 σ xv1 vq1 vq2).bind fun vq4 => (sc xs L (xv3 + 1)).bind fun vq5 => (sc xs L (xv3 + 2)).bind fun vq6 => (isC vq4.2 xv2 14).bind fun iq7 => (fX12_leap_0 vq4.2 xv2 vq5 vq6).bind fun vq8 => if vq4.1 = vq8.1 then (k18 vq8.2 xv1 xv2 (xv3 + 6)) else (some 0)
set_option maxRecDepth 20000 in
theorem wL_law_422 {p : Program} {l : Launch} {e : Env} {s : State} {m : MethodId} {below : List Frame} {meth : Method} {c : Code} {E : Ev} {B bb L : Nat} {xs : Nat → Int32} (hX : va_X bb L xs s s.heap) (hbl : bb < s.heap.size) (hbB : bb < B) (hBe : B = s.heap.size) (C0 : Cx E B p s m #[Value.ref bb] meth c cL_law RL 4 (some .boolean)) {cA sA : Nat} (hcA : cA + 20 ≤ 590000) (hsA : sA + 5000 ≤ 7000000) {k18 : Hs → Nat → Nat → Int32 → Option Int32} (hk18 : (∀ (σ : Hs) (xv1 : Nat) (xv2 : Nat) (xv3 : Int32) (H : Heap) (locs : List Loc) (ls : Array Slot), Hw E B s.heap σ H locs → lv_has ls 4 [(0, .ref bb), (1, .ref xv1), (2, .ref xv2), (3, .int xv3)] → k18 σ xv1 xv2 xv3 = some 1 → W p l e room_1 s m #[Value.ref bb] below meth c H locs (cA + 20) (sA + 5000) (lw_Z below #[Value.ref bb] s) (F0 m 18 ls []))) (σ : Hs) (xv1 : Nat) (xv2 : Nat) (xv3 : Int32) (H : Heap) (locs : List Loc) (ls : Array Slot) (hH : Hw E B s.heap σ H locs) (hl : lv_has ls 4 [(0, .ref bb), (1, .ref xv1), (2, .ref xv2), (3, .int xv3)]) (hf : fL_law_422 xs L k18 σ xv1 xv2 xv3 = some 1) : W p l e room_1 s m #[Value.ref bb] below meth c H locs cA sA (lw_Z below #[Value.ref bb] s) (F0 m 422 ls []) := by
  obtain ⟨⟨hx, hb, hml, hown, hts⟩, -, hBs, hEk⟩ := id C0
  unfold fL_law_422 at hf
  refine lv_aload_n hx hb dL_law_422 rfl (lv_at hl 1 rfl) ?_
  refine lv_aload_n hx hb dL_law_423 rfl (lv_at hl 0 rfl) ?_
  refine lv_iload_n hx hb dL_law_424 rfl (lv_at hl 3 rfl) ?_
  refine lv_iconst (v := 1) hx hb dL_law_425 (by decide) ?_
  refine lv_iadd hx hb dL_law_426 ?_
  obtain ⟨vq1, hvq1, hf⟩ := ob hf
  refine hw_sld hX hbl hbB C0 hH hvq1 dL_law_427 ?_
  refine lv_aload_n hx hb dL_law_428 rfl (lv_at hl 0 rfl) ?_
  refine lv_iload_n hx hb dL_law_429 rfl (lv_at hl 3 rfl) ?_
  refine lv_iconst (v := 2) hx hb dL_law_430 (by decide) ?_
  refine lv_iadd hx hb dL_law_431 ?_
  obtain ⟨vq2, hvq2, hf⟩ := ob hf
  refine hw_sld hX hbl hbB C0 hH hvq2 dL_law_432 ?_
  obtain ⟨iq3, hiq3, hf⟩ := ob hf
  obtain ⟨vq4, hvq4, hf⟩ := ob hf
  refine hw_cV (st2 := [.int vq4.1]) [.int vq1, .int vq2] [] C0 hH yk_X11_leap yv_X11_leap lk_L_40 rfl (ctX11_leap hvq4) hiq3 rfl rfl rfl hl.1 (Nat.le_of_ble_eq_true rfl) dL_law_433 ⟨by decide, by decide⟩ ⟨Nat.le_trans (by omega) cl_ok, Nat.le_trans (by omega) sl_ok⟩ (fun H locs hH => ?_)
  refine lv_aload_n hx hb dL_law_436 rfl (lv_at hl 2 rfl) ?_
  refine lv_aload_n hx hb dL_law_437 rfl (lv_at hl 0 rfl) ?_
  refine lv_iload_n hx hb dL_law_438 rfl (lv_at hl 3 rfl) ?_
  refine lv_iconst (v := 1) hx hb dL_law_439 (by decide) ?_
  refine lv_iadd hx hb dL_law_440 ?_
  obtain ⟨vq5, hvq5, hf⟩ := ob hf
  refine hw_sld hX hbl hbB C0 hH hvq5 dL_law_441 ?_
  refine lv_aload_n hx hb dL_law_442 rfl (lv_at hl 0 rfl) ?_
  refine lv_iload_n hx hb dL_law_443 rfl (lv_at hl 3 rfl) ?_
  refine lv_iconst (v := 2) hx hb dL_law_444 (by decide) ?_
  refine lv_iadd hx hb dL_law_445 ?_
  obtain ⟨vq6, hvq6, hf⟩ := ob hf
  refine hw_sld hX hbl hbB C0 hH hvq6 dL_law_446 ?_
  obtain ⟨iq7, hiq7, hf⟩ := ob hf
  obtain ⟨vq8, hvq8, hf⟩ := ob hf
  refine hw_cV (st2 := [.int vq8.1, .int vq4.1]) [.int vq5, .int vq6] [.int vq4.1] C0 hH yk_X12_leap yv_X12_leap lk_L_44 rfl (ctX12_leap hvq8) hiq7 rfl rfl rfl hl.1 (Nat.le_of_ble_eq_true rfl) dL_law_447 ⟨by decide, by decide⟩ ⟨Nat.le_trans (by omega) cl_ok, Nat.le_trans (by omega) sl_ok⟩ (fun H locs hH => ?_)
  refine lv_icmp_eq (tgt := 1472) hx hb dL_law_450 (by decide) (fun hc => ?_) (fun hc => ?_)
  · replace hf := if_t hf hc
    refine lv_iinc (v := xv3 + 6) (lv' := [(3, .int (xv3 + 6)), (0, .ref bb), (1, .ref xv1), (2, .ref xv2)]) hx hb dL_law_1472 hl (k := 3) rfl rfl (by decide) rfl (fun ls hl => ?_)
    refine lv_goto (tgt := 18) hx hb dL_law_1475 (by decide) ?_
    refine W.widen (k := cA + 20) (n := sA + 5000) (by omega) (by omega) ?_
    exact hk18 vq8.2 xv1 xv2 (xv3 + 6) H locs ls hH (lv_sub hl [1, 2, 3, 0] rfl) hf
  · replace hf := if_f hf hc
    refine lv_iconst (v := 0) hx hb dL_law_453 (by decide) ?_
    exact absurd (Option.some.inj hf) (by decide)
def fL_law_455 (xs : Nat → Int32) (L : Nat) (k18 : Hs → Nat → Nat → Int32 → Option Int32) (σ : Hs) (xv1 : Nat) (xv2 : Nat) (xv3 : Int32) : Option Int32 := (sc xs L (xv3 + 1)).bind fun vq1 => (sc xs L (xv3 + 2)).bind fun vq2 => (isC σ xv1 13).bind fun iq3 => (fX11_civil_0 σ xv1 vq1 vq2).bind fun vq4 => (sc xs L (xv3 + 1)).bind fun vq5 => (sc xs L (xv3 + 2)).bind fun vq6 => (isC vq4.2 xv2 14).bind fun iq7 => (fX12_civil_0 vq4.2 xv2 vq5 vq6).bind fun vq8 => if vq4.1 = vq8.1 then (k18 vq8.2 xv1 xv2 (xv3 + 6)) else (some 0)
set_option maxRecDepth 20000 in
theorem wL_law_455 {p : Program} {l : Launch} {e : Env} {s : State} {m : MethodId} {below : List Frame} {meth : Method} {c : Code} {E : Ev} {B bb L : Nat} {xs : Nat → Int32} (hX : va_X bb L xs s s.heap) (hbl : bb < s.heap.size) (hbB : bb < B) (hBe : B = s.heap.size) (C0 : Cx E B p s m #[Value.ref bb] meth c cL_law RL 4 (some .boolean)) {cA sA : Nat} (hcA : cA + 20 ≤ 590000) (hsA : sA + 5000 ≤ 7000000) {k18 : Hs → Nat → Nat → Int32 → Option Int32} (hk18 : (∀ (σ : Hs) (xv1 : Nat) (xv2 : Nat) (xv3 : Int32) (H : Heap) (locs : List Loc) (ls : Array Slot), Hw E B s.heap σ H locs → lv_has ls 4 [(0, .ref bb), (1, .ref xv1), (2, .ref xv2), (3, .int xv3)] → k18 σ xv1 xv2 xv3 = some 1 → W p l e room_1 s m #[Value.ref bb] below meth c H locs (cA + 20) (sA + 5000) (lw_Z below #[Value.ref bb] s) (F0 m 18 ls []))) (σ : Hs) (xv1 : Nat) (xv2 : Nat) (xv3 : Int32) (H : Heap) (locs : List Loc) (ls : Array Slot) (hH : Hw E B s.heap σ H locs) (hl : lv_has ls 4 [(0, .ref bb), (1, .ref xv1), (2, .ref xv2), (3, .int xv3)]) (hf : fL_law_455 xs L k18 σ xv1 xv2 xv3 = some 1) : W p l e room_1 s m #[Value.ref bb] below meth c H locs cA sA (lw_Z below #[Value.ref bb] s) (F0 m 455 ls []) := by
  obtain ⟨⟨hx, hb, hml, hown, hts⟩, -, hBs, hEk⟩ := id C0
  unfold fL_law_455 at hf
  refine lv_aload_n hx hb dL_law_455 rfl (lv_at hl 1 rfl) ?_
  refine lv_aload_n hx hb dL_law_456 rfl (lv_at hl 0 rfl) ?_
  refine lv_iload_n hx hb dL_law_457 rfl (lv_at hl 3 rfl) ?_
  refine lv_iconst (v := 1) hx hb dL_law_458 (by decide) ?_
  refine lv_iadd hx hb dL_law_459 ?_
  obtain ⟨vq1, hvq1, hf⟩ := ob hf
  refine hw_sld hX hbl hbB C0 hH hvq1 dL_law_460 ?_
  refine lv_aload_n hx hb dL_law_461 rfl (lv_at hl 0 rfl) ?_
  refine lv_iload_n hx hb dL_law_462 rfl (lv_at hl 3 rfl) ?_
  refine lv_iconst (v := 2) hx hb dL_law_463 (by decide) ?_
  refine lv_iadd hx hb dL_law_464 ?_
  obtain ⟨vq2, hvq2, hf⟩ := ob hf
  refine hw_sld hX hbl hbB C0 hH hvq2 dL_law_465 ?_
  obtain ⟨iq3, hiq3, hf⟩ := ob hf
  obtain ⟨vq4, hvq4, hf⟩ := ob hf
  refine hw_cV (st2 := [.int vq4.1]) [.int vq1, .int vq2] [] C0 hH yk_X11_civil yv_X11_civil lk_L_45 rfl (ctX11_civil hvq4) hiq3 rfl rfl rfl hl.1 (Nat.le_of_ble_eq_true rfl) dL_law_466 ⟨by decide, by decide⟩ ⟨Nat.le_trans (by omega) cl_ok, Nat.le_trans (by omega) sl_ok⟩ (fun H locs hH => ?_)
  refine lv_aload_n hx hb dL_law_469 rfl (lv_at hl 2 rfl) ?_
  refine lv_aload_n hx hb dL_law_470 rfl (lv_at hl 0 rfl) ?_
  refine lv_iload_n hx hb dL_law_471 rfl (lv_at hl 3 rfl) ?_
  refine lv_iconst (v := 1) hx hb dL_law_472 (by decide) ?_
  refine lv_iadd hx hb dL_law_473 ?_
  obtain ⟨vq5, hvq5, hf⟩ := ob hf
  refine hw_sld hX hbl hbB C0 hH hvq5 dL_law_474 ?_
  refine lv_aload_n hx hb dL_law_475 rfl (lv_at hl 0 rfl) ?_
  refine lv_iload_n hx hb dL_law_476 rfl (lv_at hl 3 rfl) ?_
  refine lv_iconst (v := 2) hx hb dL_law_477 (by decide) ?_
  refine lv_iadd hx hb dL_law_478 ?_
  obtain ⟨vq6, hvq6, hf⟩ := ob hf
  refine hw_sld hX hbl hbB C0 hH hvq6 dL_law_479 ?_
  obtain ⟨iq7, hiq7, hf⟩ := ob hf
  obtain ⟨vq8, hvq8, hf⟩ := ob hf
  refine hw_cV (st2 := [.int vq8.1, .int vq4.1]) [.int vq5, .int vq6] [.int vq4.1] C0 hH yk_X12_civil yv_X12_civil lk_L_49 rfl (ctX12_civil hvq8) hiq7 rfl rfl rfl hl.1 (Nat.le_of_ble_eq_true rfl) dL_law_480 ⟨by decide, by decide⟩ ⟨Nat.le_trans (by omega) cl_ok, Nat.le_trans (by omega) sl_ok⟩ (fun H locs hH => ?_)
  refine lv_icmp_eq (tgt := 1472) hx hb dL_law_483 (by decide) (fun hc => ?_) (fun hc => ?_)
  · replace hf := if_t hf hc
    refine lv_iinc (v := xv3 + 6) (lv' := [(3, .int (xv3 + 6)), (0, .ref bb), (1, .ref xv1), (2, .ref xv2)]) hx hb dL_law_1472 hl (k := 3) rfl rfl (by decide) rfl (fun ls hl => ?_)
    refine lv_goto (tgt := 18) hx hb dL_law_1475 (by decide) ?_
    refine W.widen (k := cA + 20) (n := sA + 5000) (by omega) (by omega) ?_
    exact hk18 vq8.2 xv1 xv2 (xv3 + 6) H locs ls hH (lv_sub hl [1, 2, 3, 0] rfl) hf
  · replace hf := if_f hf hc
    refine lv_iconst (v := 0) hx hb dL_law_486 (by decide) ?_
    exact absurd (Option.some.inj hf) (by decide)
def fL_law_488 (xs : Nat → Int32) (L : Nat) (k18 : Hs → Nat → Nat → Int32 → Option Int32) (σ : Hs) (xv1 : Nat) (xv2 : Nat) (xv3 : Int32) : Option Int32 := (sc xs L (xv3 + 1)).bind fun vq1 => (sc xs L (xv3 + 2)).bind fun vq2 => (isC σ xv1 13).bind fun iq3 => (fX11_count_0 σ xv1 vq1 vq2).bind fun vq4 => (sc xs L (xv3 + 1)).bind fun vq5 => (sc xs L (xv3 + 2)).bind fun vq6 => (isC vq4.2 xv2 14).bind fun iq7 => (fX12_count_0 vq4.2 xv2 vq5 vq6).bind fun vq8 => if vq4.1 = vq8.1 then (k18 vq8.2 xv1 xv2 (xv3 + 6)) else (some 0)
set_option maxRecDepth 20000 in
theorem wL_law_488 {p : Program} {l : Launch} {e : Env} {s : State} {m : MethodId} {below : List Frame} {meth : Method} {c : Code} {E : Ev} {B bb L : Nat} {xs : Nat → Int32} (hX : va_X bb L xs s s.heap) (hbl : bb < s.heap.size) (hbB : bb < B) (hBe : B = s.heap.size) (C0 : Cx E B p s m #[Value.ref bb] meth c cL_law RL 4 (some .boolean)) {cA sA : Nat} (hcA : cA + 20 ≤ 590000) (hsA : sA + 5000 ≤ 7000000) {k18 : Hs → Nat → Nat → Int32 → Option Int32} (hk18 : (∀ (σ : Hs) (xv1 : Nat) (xv2 : Nat) (xv3 : Int32) (H : Heap) (locs : List Loc) (ls : Array Slot), Hw E B s.heap σ H locs → lv_has ls 4 [(0, .ref bb), (1, .ref xv1), (2, .ref xv2), (3, .int xv3)] → k18 σ xv1 xv2 xv3 = some 1 → W p l e room_1 s m #[Value.ref bb] below meth c H locs (cA + 20) (sA + 5000) (lw_Z below #[Value.ref bb] s) (F0 m 18 ls []))) (σ : Hs) (xv1 : Nat) (xv2 : Nat) (xv3 : Int32) (H : Heap) (locs : List Loc) (ls : Array Slot) (hH : Hw E B s.heap σ H locs) (hl : lv_has ls 4 [(0, .ref bb), (1, .ref xv1), (2, .ref xv2), (3, .int xv3)]) (hf : fL_law_488 xs L k18 σ xv1 xv2 xv3 = some 1) : W p l e room_1 s m #[Value.ref bb] below meth c H locs cA sA (lw_Z below #[Value.ref bb] s) (F0 m 488 ls []) := by
  obtain ⟨⟨hx, hb, hml, hown, hts⟩, -, hBs, hEk⟩ := id C0
  unfold fL_law_488 at hf
  refine lv_aload_n hx hb dL_law_488 rfl (lv_at hl 1 rfl) ?_
  refine lv_aload_n hx hb dL_law_489 rfl (lv_at hl 0 rfl) ?_
  refine lv_iload_n hx hb dL_law_490 rfl (lv_at hl 3 rfl) ?_
  refine lv_iconst (v := 1) hx hb dL_law_491 (by decide) ?_
  refine lv_iadd hx hb dL_law_492 ?_
  obtain ⟨vq1, hvq1, hf⟩ := ob hf
  refine hw_sld hX hbl hbB C0 hH hvq1 dL_law_493 ?_
  refine lv_aload_n hx hb dL_law_494 rfl (lv_at hl 0 rfl) ?_
  refine lv_iload_n hx hb dL_law_495 rfl (lv_at hl 3 rfl) ?_
  refine lv_iconst (v := 2) hx hb dL_law_496 (by decide) ?_
  refine lv_iadd hx hb dL_law_497 ?_
  obtain ⟨vq2, hvq2, hf⟩ := ob hf
  refine hw_sld hX hbl hbB C0 hH hvq2 dL_law_498 ?_
  obtain ⟨iq3, hiq3, hf⟩ := ob hf
  obtain ⟨vq4, hvq4, hf⟩ := ob hf
  refine hw_cV (st2 := [.int vq4.1]) [.int vq1, .int vq2] [] C0 hH yk_X11_count yv_X11_count lk_L_50 rfl (ctX11_count hvq4) hiq3 rfl rfl rfl hl.1 (Nat.le_of_ble_eq_true rfl) dL_law_499 ⟨by decide, by decide⟩ ⟨Nat.le_trans (by omega) cl_ok, Nat.le_trans (by omega) sl_ok⟩ (fun H locs hH => ?_)
  refine lv_aload_n hx hb dL_law_502 rfl (lv_at hl 2 rfl) ?_
  refine lv_aload_n hx hb dL_law_503 rfl (lv_at hl 0 rfl) ?_
  refine lv_iload_n hx hb dL_law_504 rfl (lv_at hl 3 rfl) ?_
  refine lv_iconst (v := 1) hx hb dL_law_505 (by decide) ?_
  refine lv_iadd hx hb dL_law_506 ?_
  obtain ⟨vq5, hvq5, hf⟩ := ob hf
  refine hw_sld hX hbl hbB C0 hH hvq5 dL_law_507 ?_
  refine lv_aload_n hx hb dL_law_508 rfl (lv_at hl 0 rfl) ?_
  refine lv_iload_n hx hb dL_law_509 rfl (lv_at hl 3 rfl) ?_
  refine lv_iconst (v := 2) hx hb dL_law_510 (by decide) ?_
  refine lv_iadd hx hb dL_law_511 ?_
  obtain ⟨vq6, hvq6, hf⟩ := ob hf
  refine hw_sld hX hbl hbB C0 hH hvq6 dL_law_512 ?_
  obtain ⟨iq7, hiq7, hf⟩ := ob hf
  obtain ⟨vq8, hvq8, hf⟩ := ob hf
  refine hw_cV (st2 := [.int vq8.1, .int vq4.1]) [.int vq5, .int vq6] [.int vq4.1] C0 hH yk_X12_count yv_X12_count lk_L_53 rfl (ctX12_count hvq8) hiq7 rfl rfl rfl hl.1 (Nat.le_of_ble_eq_true rfl) dL_law_513 ⟨by decide, by decide⟩ ⟨Nat.le_trans (by omega) cl_ok, Nat.le_trans (by omega) sl_ok⟩ (fun H locs hH => ?_)
  refine lv_icmp_eq (tgt := 1472) hx hb dL_law_516 (by decide) (fun hc => ?_) (fun hc => ?_)
  · replace hf := if_t hf hc
    refine lv_iinc (v := xv3 + 6) (lv' := [(3, .int (xv3 + 6)), (0, .ref bb), (1, .ref xv1), (2, .ref xv2)]) hx hb dL_law_1472 hl (k := 3) rfl rfl (by decide) rfl (fun ls hl => ?_)
    refine lv_goto (tgt := 18) hx hb dL_law_1475 (by decide) ?_
    refine W.widen (k := cA + 20) (n := sA + 5000) (by omega) (by omega) ?_
    exact hk18 vq8.2 xv1 xv2 (xv3 + 6) H locs ls hH (lv_sub hl [1, 2, 3, 0] rfl) hf
  · replace hf := if_f hf hc
    refine lv_iconst (v := 0) hx hb dL_law_519 (by decide) ?_
    exact absurd (Option.some.inj hf) (by decide)
def fL_law_521 (xs : Nat → Int32) (L : Nat) (k18 : Hs → Nat → Nat → Int32 → Option Int32) (σ : Hs) (xv1 : Nat) (xv2 : Nat) (xv3 : Int32) : Option Int32 := (sc xs L (xv3 + 1)).bind fun vq1 => (isC σ xv1 13).bind fun iq2 => (fX11_clock_0 σ xv1 vq1).bind fun vq3 => (sc xs L (xv3 + 1)).bind fun vq4 => (isC vq3.2 xv2 14).bind fun iq5 => (fX12_clock_0 vq3.2 xv2 vq4).bind fun vq6 => if vq3.1 = vq6.1 then (k18 vq6.2 xv1 xv2 (xv3 + 6)) else (some 0)
set_option maxRecDepth 20000 in
theorem wL_law_521 {p : Program} {l : Launch} {e : Env} {s : State} {m : MethodId} {below : List Frame} {meth : Method} {c : Code} {E : Ev} {B bb L : Nat} {xs : Nat → Int32} (hX : va_X bb L xs s s.heap) (hbl : bb < s.heap.size) (hbB : bb < B) (hBe : B = s.heap.size) (C0 : Cx E B p s m #[Value.ref bb] meth c cL_law RL 4 (some .boolean)) {cA sA : Nat} (hcA : cA + 20 ≤ 590000) (hsA : sA + 5000 ≤ 7000000) {k18 : Hs → Nat → Nat → Int32 → Option Int32} (hk18 : (∀ (σ : Hs) (xv1 : Nat) (xv2 : Nat) (xv3 : Int32) (H : Heap) (locs : List Loc) (ls : Array Slot), Hw E B s.heap σ H locs → lv_has ls 4 [(0, .ref bb), (1, .ref xv1), (2, .ref xv2), (3, .int xv3)] → k18 σ xv1 xv2 xv3 = some 1 → W p l e room_1 s m #[Value.ref bb] below meth c H locs (cA + 20) (sA + 5000) (lw_Z below #[Value.ref bb] s) (F0 m 18 ls []))) (σ : Hs) (xv1 : Nat) (xv2 : Nat) (xv3 : Int32) (H : Heap) (locs : List Loc) (ls : Array Slot) (hH : Hw E B s.heap σ H locs) (hl : lv_has ls 4 [(0, .ref bb), (1, .ref xv1), (2, .ref xv2), (3, .int xv3)]) (hf : fL_law_521 xs L k18 σ xv1 xv2 xv3 = some 1) : W p l e room_1 s m #[Value.ref bb] below meth c H locs cA sA (lw_Z below #[Value.ref bb] s) (F0 m 521 ls []) := by
  obtain ⟨⟨hx, hb, hml, hown, hts⟩, -, hBs, hEk⟩ := id C0
  unfold fL_law_521 at hf
  refine lv_aload_n hx hb dL_law_521 rfl (lv_at hl 1 rfl) ?_
  refine lv_aload_n hx hb dL_law_522 rfl (lv_at hl 0 rfl) ?_
  refine lv_iload_n hx hb dL_law_523 rfl (lv_at hl 3 rfl) ?_
  refine lv_iconst (v := 1) hx hb dL_law_524 (by decide) ?_
  refine lv_iadd hx hb dL_law_525 ?_
  obtain ⟨vq1, hvq1, hf⟩ := ob hf
  refine hw_sld hX hbl hbB C0 hH hvq1 dL_law_526 ?_
  obtain ⟨iq2, hiq2, hf⟩ := ob hf
  obtain ⟨vq3, hvq3, hf⟩ := ob hf
  refine hw_cV (st2 := [.int vq3.1]) [.int vq1] [] C0 hH yk_X11_clock yv_X11_clock lk_L_54 rfl (ctX11_clock hvq3) hiq2 rfl rfl rfl hl.1 (Nat.le_of_ble_eq_true rfl) dL_law_527 ⟨by decide, by decide⟩ ⟨Nat.le_trans (by omega) cl_ok, Nat.le_trans (by omega) sl_ok⟩ (fun H locs hH => ?_)
  refine lv_aload_n hx hb dL_law_530 rfl (lv_at hl 2 rfl) ?_
  refine lv_aload_n hx hb dL_law_531 rfl (lv_at hl 0 rfl) ?_
  refine lv_iload_n hx hb dL_law_532 rfl (lv_at hl 3 rfl) ?_
  refine lv_iconst (v := 1) hx hb dL_law_533 (by decide) ?_
  refine lv_iadd hx hb dL_law_534 ?_
  obtain ⟨vq4, hvq4, hf⟩ := ob hf
  refine hw_sld hX hbl hbB C0 hH hvq4 dL_law_535 ?_
  obtain ⟨iq5, hiq5, hf⟩ := ob hf
  obtain ⟨vq6, hvq6, hf⟩ := ob hf
  refine hw_cV (st2 := [.int vq6.1, .int vq3.1]) [.int vq4] [.int vq3.1] C0 hH yk_X12_clock yv_X12_clock lk_L_58 rfl (ctX12_clock hvq6) hiq5 rfl rfl rfl hl.1 (Nat.le_of_ble_eq_true rfl) dL_law_536 ⟨by decide, by decide⟩ ⟨Nat.le_trans (by omega) cl_ok, Nat.le_trans (by omega) sl_ok⟩ (fun H locs hH => ?_)
  refine lv_icmp_eq (tgt := 1472) hx hb dL_law_539 (by decide) (fun hc => ?_) (fun hc => ?_)
  · replace hf := if_t hf hc
    refine lv_iinc (v := xv3 + 6) (lv' := [(3, .int (xv3 + 6)), (0, .ref bb), (1, .ref xv1), (2, .ref xv2)]) hx hb dL_law_1472 hl (k := 3) rfl rfl (by decide) rfl (fun ls hl => ?_)
    refine lv_goto (tgt := 18) hx hb dL_law_1475 (by decide) ?_
    refine W.widen (k := cA + 20) (n := sA + 5000) (by omega) (by omega) ?_
    exact hk18 vq6.2 xv1 xv2 (xv3 + 6) H locs ls hH (lv_sub hl [1, 2, 3, 0] rfl) hf
  · replace hf := if_f hf hc
    refine lv_iconst (v := 0) hx hb dL_law_542 (by decide) ?_
    exact absurd (Option.some.inj hf) (by decide)
def fL_law_544 (xs : Nat → Int32) (L : Nat) (k18 : Hs → Nat → Nat → Int32 → Option Int32) (σ : Hs) (xv1 : Nat) (xv2 : Nat) (xv3 : Int32) : Option Int32 := (sc xs L (xv3 + 1)).bind fun vq1 => (sc xs L (xv3 + 2)).bind fun vq2 => (isC σ xv1 13).bind fun iq3 => (fX11_step_0 σ xv1 vq1 vq2).bind fun vq4 => (sc xs L (xv3 + 1)).bind fun vq5 => (sc xs L (xv3 + 2)).bind fun vq6 => (isC vq4.2 xv2 14).bind fun iq7 => (fX12_step_0 vq4.2 xv2 vq5 vq6).bind fun vq8 => if vq4.1 = vq8.1 then (k18 vq8.2 xv1 xv2 (xv3 + 6)) else (some 0)
set_option maxRecDepth 20000 in
theorem wL_law_544 {p : Program} {l : Launch} {e : Env} {s : State} {m : MethodId} {below : List Frame} {meth : Method} {c : Code} {E : Ev} {B bb L : Nat} {xs : Nat → Int32} (hX : va_X bb L xs s s.heap) (hbl : bb < s.heap.size) (hbB : bb < B) (hBe : B = s.heap.size) (C0 : Cx E B p s m #[Value.ref bb] meth c cL_law RL 4 (some .boolean)) {cA sA : Nat} (hcA : cA + 20 ≤ 590000) (hsA : sA + 5000 ≤ 7000000) {k18 : Hs → Nat → Nat → Int32 → Option Int32} (hk18 : (∀ (σ : Hs) (xv1 : Nat) (xv2 : Nat) (xv3 : Int32) (H : Heap) (locs : List Loc) (ls : Array Slot), Hw E B s.heap σ H locs → lv_has ls 4 [(0, .ref bb), (1, .ref xv1), (2, .ref xv2), (3, .int xv3)] → k18 σ xv1 xv2 xv3 = some 1 → W p l e room_1 s m #[Value.ref bb] below meth c H locs (cA + 20) (sA + 5000) (lw_Z below #[Value.ref bb] s) (F0 m 18 ls []))) (σ : Hs) (xv1 : Nat) (xv2 : Nat) (xv3 : Int32) (H : Heap) (locs : List Loc) (ls : Array Slot) (hH : Hw E B s.heap σ H locs) (hl : lv_has ls 4 [(0, .ref bb), (1, .ref xv1), (2, .ref xv2), (3, .int xv3)]) (hf : fL_law_544 xs L k18 σ xv1 xv2 xv3 = some 1) : W p l e room_1 s m #[Value.ref bb] below meth c H locs cA sA (lw_Z below #[Value.ref bb] s) (F0 m 544 ls []) := by
  obtain ⟨⟨hx, hb, hml, hown, hts⟩, -, hBs, hEk⟩ := id C0
  unfold fL_law_544 at hf
  refine lv_aload_n hx hb dL_law_544 rfl (lv_at hl 1 rfl) ?_
  refine lv_aload_n hx hb dL_law_545 rfl (lv_at hl 0 rfl) ?_
  refine lv_iload_n hx hb dL_law_546 rfl (lv_at hl 3 rfl) ?_
  refine lv_iconst (v := 1) hx hb dL_law_547 (by decide) ?_
  refine lv_iadd hx hb dL_law_548 ?_
  obtain ⟨vq1, hvq1, hf⟩ := ob hf
  refine hw_sld hX hbl hbB C0 hH hvq1 dL_law_549 ?_
  refine lv_aload_n hx hb dL_law_550 rfl (lv_at hl 0 rfl) ?_
  refine lv_iload_n hx hb dL_law_551 rfl (lv_at hl 3 rfl) ?_
  refine lv_iconst (v := 2) hx hb dL_law_552 (by decide) ?_
  refine lv_iadd hx hb dL_law_553 ?_
  obtain ⟨vq2, hvq2, hf⟩ := ob hf
  refine hw_sld hX hbl hbB C0 hH hvq2 dL_law_554 ?_
  obtain ⟨iq3, hiq3, hf⟩ := ob hf
  obtain ⟨vq4, hvq4, hf⟩ := ob hf
  refine hw_cV (st2 := [.int vq4.1]) [.int vq1, .int vq2] [] C0 hH yk_X11_step yv_X11_step lk_L_59 rfl (ctX11_step hvq4) hiq3 rfl rfl rfl hl.1 (Nat.le_of_ble_eq_true rfl) dL_law_555 ⟨by decide, by decide⟩ ⟨Nat.le_trans (by omega) cl_ok, Nat.le_trans (by omega) sl_ok⟩ (fun H locs hH => ?_)
  refine lv_aload_n hx hb dL_law_558 rfl (lv_at hl 2 rfl) ?_
  refine lv_aload_n hx hb dL_law_559 rfl (lv_at hl 0 rfl) ?_
  refine lv_iload_n hx hb dL_law_560 rfl (lv_at hl 3 rfl) ?_
  refine lv_iconst (v := 1) hx hb dL_law_561 (by decide) ?_
  refine lv_iadd hx hb dL_law_562 ?_
  obtain ⟨vq5, hvq5, hf⟩ := ob hf
  refine hw_sld hX hbl hbB C0 hH hvq5 dL_law_563 ?_
  refine lv_aload_n hx hb dL_law_564 rfl (lv_at hl 0 rfl) ?_
  refine lv_iload_n hx hb dL_law_565 rfl (lv_at hl 3 rfl) ?_
  refine lv_iconst (v := 2) hx hb dL_law_566 (by decide) ?_
  refine lv_iadd hx hb dL_law_567 ?_
  obtain ⟨vq6, hvq6, hf⟩ := ob hf
  refine hw_sld hX hbl hbB C0 hH hvq6 dL_law_568 ?_
  obtain ⟨iq7, hiq7, hf⟩ := ob hf
  obtain ⟨vq8, hvq8, hf⟩ := ob hf
  refine hw_cV (st2 := [.int vq8.1, .int vq4.1]) [.int vq5, .int vq6] [.int vq4.1] C0 hH yk_X12_step yv_X12_step lk_L_62 rfl (ctX12_step hvq8) hiq7 rfl rfl rfl hl.1 (Nat.le_of_ble_eq_true rfl) dL_law_569 ⟨by decide, by decide⟩ ⟨Nat.le_trans (by omega) cl_ok, Nat.le_trans (by omega) sl_ok⟩ (fun H locs hH => ?_)
  refine lv_icmp_eq (tgt := 1472) hx hb dL_law_572 (by decide) (fun hc => ?_) (fun hc => ?_)
  · replace hf := if_t hf hc
    refine lv_iinc (v := xv3 + 6) (lv' := [(3, .int (xv3 + 6)), (0, .ref bb), (1, .ref xv1), (2, .ref xv2)]) hx hb dL_law_1472 hl (k := 3) rfl rfl (by decide) rfl (fun ls hl => ?_)
    refine lv_goto (tgt := 18) hx hb dL_law_1475 (by decide) ?_
    refine W.widen (k := cA + 20) (n := sA + 5000) (by omega) (by omega) ?_
    exact hk18 vq8.2 xv1 xv2 (xv3 + 6) H locs ls hH (lv_sub hl [1, 2, 3, 0] rfl) hf
  · replace hf := if_f hf hc
    refine lv_iconst (v := 0) hx hb dL_law_575 (by decide) ?_
    exact absurd (Option.some.inj hf) (by decide)
def fL_law_577 (xs : Nat → Int32) (L : Nat) (k18 : Hs → Nat → Nat → Int32 → Option Int32) (σ : Hs) (xv1 : Nat) (xv2 : Nat) (xv3 : Int32) : Option Int32 := (sc xs L (xv3 + 1)).bind fun vq1 => (sc xs L (xv3 + 2)).bind fun vq2 => (isC σ xv1 13).bind fun iq3 => (fX11_shows_0 σ xv1 vq1 vq2).bind fun vq4 => (sc xs L (xv3 + 1)).bind fun vq5 => (sc xs L (xv3 + 2)).bind fun vq6 => (isC vq4.2 xv2 14).bind fun iq7 => (fX12_shows_0 vq4.2 xv2 vq5 vq6).bind fun vq8 => if vq4.1 = vq8.1 then (k18 vq8.2 xv1 xv2 (xv3 + 6)) else (some 0)
set_option maxRecDepth 20000 in
theorem wL_law_577 {p : Program} {l : Launch} {e : Env} {s : State} {m : MethodId} {below : List Frame} {meth : Method} {c : Code} {E : Ev} {B bb L : Nat} {xs : Nat → Int32} (hX : va_X bb L xs s s.heap) (hbl : bb < s.heap.size) (hbB : bb < B) (hBe : B = s.heap.size) (C0 : Cx E B p s m #[Value.ref bb] meth c cL_law RL 4 (some .boolean)) {cA sA : Nat} (hcA : cA + 20 ≤ 590000) (hsA : sA + 5000 ≤ 7000000) {k18 : Hs → Nat → Nat → Int32 → Option Int32} (hk18 : (∀ (σ : Hs) (xv1 : Nat) (xv2 : Nat) (xv3 : Int32) (H : Heap) (locs : List Loc) (ls : Array Slot), Hw E B s.heap σ H locs → lv_has ls 4 [(0, .ref bb), (1, .ref xv1), (2, .ref xv2), (3, .int xv3)] → k18 σ xv1 xv2 xv3 = some 1 → W p l e room_1 s m #[Value.ref bb] below meth c H locs (cA + 20) (sA + 5000) (lw_Z below #[Value.ref bb] s) (F0 m 18 ls []))) (σ : Hs) (xv1 : Nat) (xv2 : Nat) (xv3 : Int32) (H : Heap) (locs : List Loc) (ls : Array Slot) (hH : Hw E B s.heap σ H locs) (hl : lv_has ls 4 [(0, .ref bb), (1, .ref xv1), (2, .ref xv2), (3, .int xv3)]) (hf : fL_law_577 xs L k18 σ xv1 xv2 xv3 = some 1) : W p l e room_1 s m #[Value.ref bb] below meth c H locs cA sA (lw_Z below #[Value.ref bb] s) (F0 m 577 ls []) := by
  obtain ⟨⟨hx, hb, hml, hown, hts⟩, -, hBs, hEk⟩ := id C0
  unfold fL_law_577 at hf
  refine lv_aload_n hx hb dL_law_577 rfl (lv_at hl 1 rfl) ?_
  refine lv_aload_n hx hb dL_law_578 rfl (lv_at hl 0 rfl) ?_
  refine lv_iload_n hx hb dL_law_579 rfl (lv_at hl 3 rfl) ?_
  refine lv_iconst (v := 1) hx hb dL_law_580 (by decide) ?_
  refine lv_iadd hx hb dL_law_581 ?_
  obtain ⟨vq1, hvq1, hf⟩ := ob hf
  refine hw_sld hX hbl hbB C0 hH hvq1 dL_law_582 ?_
  refine lv_aload_n hx hb dL_law_583 rfl (lv_at hl 0 rfl) ?_
  refine lv_iload_n hx hb dL_law_584 rfl (lv_at hl 3 rfl) ?_
  refine lv_iconst (v := 2) hx hb dL_law_585 (by decide) ?_
  refine lv_iadd hx hb dL_law_586 ?_
  obtain ⟨vq2, hvq2, hf⟩ := ob hf
  refine hw_sld hX hbl hbB C0 hH hvq2 dL_law_587 ?_
  obtain ⟨iq3, hiq3, hf⟩ := ob hf
  obtain ⟨vq4, hvq4, hf⟩ := ob hf
  refine hw_cV (st2 := [.long vq4.1]) [.int vq1, .int vq2] [] C0 hH yk_X11_shows yv_X11_shows lk_L_63 rfl (ctX11_shows hvq4) hiq3 rfl rfl rfl hl.1 (Nat.le_of_ble_eq_true rfl) dL_law_588 ⟨by decide, by decide⟩ ⟨Nat.le_trans (by omega) cl_ok, Nat.le_trans (by omega) sl_ok⟩ (fun H locs hH => ?_)
  refine lv_aload_n hx hb dL_law_591 rfl (lv_at hl 2 rfl) ?_
  refine lv_aload_n hx hb dL_law_592 rfl (lv_at hl 0 rfl) ?_
  refine lv_iload_n hx hb dL_law_593 rfl (lv_at hl 3 rfl) ?_
  refine lv_iconst (v := 1) hx hb dL_law_594 (by decide) ?_
  refine lv_iadd hx hb dL_law_595 ?_
  obtain ⟨vq5, hvq5, hf⟩ := ob hf
  refine hw_sld hX hbl hbB C0 hH hvq5 dL_law_596 ?_
  refine lv_aload_n hx hb dL_law_597 rfl (lv_at hl 0 rfl) ?_
  refine lv_iload_n hx hb dL_law_598 rfl (lv_at hl 3 rfl) ?_
  refine lv_iconst (v := 2) hx hb dL_law_599 (by decide) ?_
  refine lv_iadd hx hb dL_law_600 ?_
  obtain ⟨vq6, hvq6, hf⟩ := ob hf
  refine hw_sld hX hbl hbB C0 hH hvq6 dL_law_601 ?_
  obtain ⟨iq7, hiq7, hf⟩ := ob hf
  obtain ⟨vq8, hvq8, hf⟩ := ob hf
  refine hw_cV (st2 := [.long vq8.1, .long vq4.1]) [.int vq5, .int vq6] [.long vq4.1] C0 hH yk_X12_shows yv_X12_shows lk_L_66 rfl (ctX12_shows hvq8) hiq7 rfl rfl rfl hl.1 (Nat.le_of_ble_eq_true rfl) dL_law_602 ⟨by decide, by decide⟩ ⟨Nat.le_trans (by omega) cl_ok, Nat.le_trans (by omega) sl_ok⟩ (fun H locs hH => ?_)
  refine hw_leq (tgt := 1472) hx hb dL_law_605 dL_law_606 (by decide) (fun hc => ?_) (fun hc => ?_)
  · replace hf := if_t hf hc
    refine lv_iinc (v := xv3 + 6) (lv' := [(3, .int (xv3 + 6)), (0, .ref bb), (1, .ref xv1), (2, .ref xv2)]) hx hb dL_law_1472 hl (k := 3) rfl rfl (by decide) rfl (fun ls hl => ?_)
    refine lv_goto (tgt := 18) hx hb dL_law_1475 (by decide) ?_
    refine W.widen (k := cA + 20) (n := sA + 5000) (by omega) (by omega) ?_
    exact hk18 vq8.2 xv1 xv2 (xv3 + 6) H locs ls hH (lv_sub hl [1, 2, 3, 0] rfl) hf
  · replace hf := if_f hf hc
    refine lv_iconst (v := 0) hx hb dL_law_609 (by decide) ?_
    exact absurd (Option.some.inj hf) (by decide)
def fL_law_611 (xs : Nat → Int32) (L : Nat) (k18 : Hs → Nat → Nat → Int32 → Option Int32) (σ : Hs) (xv1 : Nat) (xv2 : Nat) (xv3 : Int32) : Option Int32 := (sc xs L (xv3 + 1)).bind fun vq1 => (sc xs L (xv3 + 2)).bind fun vq2 => (isC σ xv1 13).bind fun iq3 => (fX11_ahead_0 σ xv1 vq1 vq2).bind fun vq4 => (sc xs L (xv3 + 1)).bind fun vq5 => (sc xs L (xv3 + 2)).bind fun vq6 => (isC vq4.2 xv2 14).bind fun iq7 => (fX12_ahead_0 vq4.2 xv2 vq5 vq6).bind fun vq8 => if vq4.1 = vq8.1 then (k18 vq8.2 xv1 xv2 (xv3 + 6)) else (some 0)
set_option maxRecDepth 20000 in
theorem wL_law_611 {p : Program} {l : Launch} {e : Env} {s : State} {m : MethodId} {below : List Frame} {meth : Method} {c : Code} {E : Ev} {B bb L : Nat} {xs : Nat → Int32} (hX : va_X bb L xs s s.heap) (hbl : bb < s.heap.size) (hbB : bb < B) (hBe : B = s.heap.size) (C0 : Cx E B p s m #[Value.ref bb] meth c cL_law RL 4 (some .boolean)) {cA sA : Nat} (hcA : cA + 20 ≤ 590000) (hsA : sA + 5000 ≤ 7000000) {k18 : Hs → Nat → Nat → Int32 → Option Int32} (hk18 : (∀ (σ : Hs) (xv1 : Nat) (xv2 : Nat) (xv3 : Int32) (H : Heap) (locs : List Loc) (ls : Array Slot), Hw E B s.heap σ H locs → lv_has ls 4 [(0, .ref bb), (1, .ref xv1), (2, .ref xv2), (3, .int xv3)] → k18 σ xv1 xv2 xv3 = some 1 → W p l e room_1 s m #[Value.ref bb] below meth c H locs (cA + 20) (sA + 5000) (lw_Z below #[Value.ref bb] s) (F0 m 18 ls []))) (σ : Hs) (xv1 : Nat) (xv2 : Nat) (xv3 : Int32) (H : Heap) (locs : List Loc) (ls : Array Slot) (hH : Hw E B s.heap σ H locs) (hl : lv_has ls 4 [(0, .ref bb), (1, .ref xv1), (2, .ref xv2), (3, .int xv3)]) (hf : fL_law_611 xs L k18 σ xv1 xv2 xv3 = some 1) : W p l e room_1 s m #[Value.ref bb] below meth c H locs cA sA (lw_Z below #[Value.ref bb] s) (F0 m 611 ls []) := by
  obtain ⟨⟨hx, hb, hml, hown, hts⟩, -, hBs, hEk⟩ := id C0
  unfold fL_law_611 at hf
  refine lv_aload_n hx hb dL_law_611 rfl (lv_at hl 1 rfl) ?_
  refine lv_aload_n hx hb dL_law_612 rfl (lv_at hl 0 rfl) ?_
  refine lv_iload_n hx hb dL_law_613 rfl (lv_at hl 3 rfl) ?_
  refine lv_iconst (v := 1) hx hb dL_law_614 (by decide) ?_
  refine lv_iadd hx hb dL_law_615 ?_
  obtain ⟨vq1, hvq1, hf⟩ := ob hf
  refine hw_sld hX hbl hbB C0 hH hvq1 dL_law_616 ?_
  refine lv_aload_n hx hb dL_law_617 rfl (lv_at hl 0 rfl) ?_
  refine lv_iload_n hx hb dL_law_618 rfl (lv_at hl 3 rfl) ?_
  refine lv_iconst (v := 2) hx hb dL_law_619 (by decide) ?_
  refine lv_iadd hx hb dL_law_620 ?_
  obtain ⟨vq2, hvq2, hf⟩ := ob hf
  refine hw_sld hX hbl hbB C0 hH hvq2 dL_law_621 ?_
  obtain ⟨iq3, hiq3, hf⟩ := ob hf
  obtain ⟨vq4, hvq4, hf⟩ := ob hf
  refine hw_cV (st2 := [.int vq4.1]) [.int vq1, .int vq2] [] C0 hH yk_X11_ahead yv_X11_ahead lk_L_67 rfl (ctX11_ahead hvq4) hiq3 rfl rfl rfl hl.1 (Nat.le_of_ble_eq_true rfl) dL_law_622 ⟨by decide, by decide⟩ ⟨Nat.le_trans (by omega) cl_ok, Nat.le_trans (by omega) sl_ok⟩ (fun H locs hH => ?_)
  refine lv_aload_n hx hb dL_law_625 rfl (lv_at hl 2 rfl) ?_
  refine lv_aload_n hx hb dL_law_626 rfl (lv_at hl 0 rfl) ?_
  refine lv_iload_n hx hb dL_law_627 rfl (lv_at hl 3 rfl) ?_
  refine lv_iconst (v := 1) hx hb dL_law_628 (by decide) ?_
  refine lv_iadd hx hb dL_law_629 ?_
  obtain ⟨vq5, hvq5, hf⟩ := ob hf
  refine hw_sld hX hbl hbB C0 hH hvq5 dL_law_630 ?_
  refine lv_aload_n hx hb dL_law_631 rfl (lv_at hl 0 rfl) ?_
  refine lv_iload_n hx hb dL_law_632 rfl (lv_at hl 3 rfl) ?_
  refine lv_iconst (v := 2) hx hb dL_law_633 (by decide) ?_
  refine lv_iadd hx hb dL_law_634 ?_
  obtain ⟨vq6, hvq6, hf⟩ := ob hf
  refine hw_sld hX hbl hbB C0 hH hvq6 dL_law_635 ?_
  obtain ⟨iq7, hiq7, hf⟩ := ob hf
  obtain ⟨vq8, hvq8, hf⟩ := ob hf
  refine hw_cV (st2 := [.int vq8.1, .int vq4.1]) [.int vq5, .int vq6] [.int vq4.1] C0 hH yk_X12_ahead yv_X12_ahead lk_L_70 rfl (ctX12_ahead hvq8) hiq7 rfl rfl rfl hl.1 (Nat.le_of_ble_eq_true rfl) dL_law_636 ⟨by decide, by decide⟩ ⟨Nat.le_trans (by omega) cl_ok, Nat.le_trans (by omega) sl_ok⟩ (fun H locs hH => ?_)
  refine lv_icmp_eq (tgt := 1472) hx hb dL_law_639 (by decide) (fun hc => ?_) (fun hc => ?_)
  · replace hf := if_t hf hc
    refine lv_iinc (v := xv3 + 6) (lv' := [(3, .int (xv3 + 6)), (0, .ref bb), (1, .ref xv1), (2, .ref xv2)]) hx hb dL_law_1472 hl (k := 3) rfl rfl (by decide) rfl (fun ls hl => ?_)
    refine lv_goto (tgt := 18) hx hb dL_law_1475 (by decide) ?_
    refine W.widen (k := cA + 20) (n := sA + 5000) (by omega) (by omega) ?_
    exact hk18 vq8.2 xv1 xv2 (xv3 + 6) H locs ls hH (lv_sub hl [1, 2, 3, 0] rfl) hf
  · replace hf := if_f hf hc
    refine lv_iconst (v := 0) hx hb dL_law_642 (by decide) ?_
    exact absurd (Option.some.inj hf) (by decide)
def fL_law_644 (xs : Nat → Int32) (L : Nat) (k18 : Hs → Nat → Nat → Int32 → Option Int32) (σ : Hs) (xv1 : Nat) (xv2 : Nat) (xv3 : Int32) : Option Int32 := (sc xs L (xv3 + 1)).bind fun vq1 => (sc xs L (xv3 + 2)).bind fun vq2 => (sc xs L (xv3 + 3)).bind fun vq3 => (isC σ xv1 13).bind fun iq4 => (fX11_off_0 σ xv1 vq1 vq2 vq3).bind fun vq5 => (sc xs L (xv3 + 1)).bind fun vq6 => (sc xs L (xv3 + 2)).bind fun vq7 => (sc xs L (xv3 + 3)).bind fun vq8 => (isC vq5.2 xv2 14).bind fun iq9 => (fX12_off_0 vq5.2 xv2 vq6 vq7 vq8).bind fun vq10 => if vq5.1 = vq10.1 then (k18 vq10.2 xv1 xv2 (xv3 + 6)) else (some 0)
set_option maxRecDepth 20000 in
theorem wL_law_644 {p : Program} {l : Launch} {e : Env} {s : State} {m : MethodId} {below : List Frame} {meth : Method} {c : Code} {E : Ev} {B bb L : Nat} {xs : Nat → Int32} (hX : va_X bb L xs s s.heap) (hbl : bb < s.heap.size) (hbB : bb < B) (hBe : B = s.heap.size) (C0 : Cx E B p s m #[Value.ref bb] meth c cL_law RL 4 (some .boolean)) {cA sA : Nat} (hcA : cA + 20 ≤ 590000) (hsA : sA + 5000 ≤ 7000000) {k18 : Hs → Nat → Nat → Int32 → Option Int32} (hk18 : (∀ (σ : Hs) (xv1 : Nat) (xv2 : Nat) (xv3 : Int32) (H : Heap) (locs : List Loc) (ls : Array Slot), Hw E B s.heap σ H locs → lv_has ls 4 [(0, .ref bb), (1, .ref xv1), (2, .ref xv2), (3, .int xv3)] → k18 σ xv1 xv2 xv3 = some 1 → W p l e room_1 s m #[Value.ref bb] below meth c H locs (cA + 20) (sA + 5000) (lw_Z below #[Value.ref bb] s) (F0 m 18 ls []))) (σ : Hs) (xv1 : Nat) (xv2 : Nat) (xv3 : Int32) (H : Heap) (locs : List Loc) (ls : Array Slot) (hH : Hw E B s.heap σ H locs) (hl : lv_has ls 4 [(0, .ref bb), (1, .ref xv1), (2, .ref xv2), (3, .int xv3)]) (hf : fL_law_644 xs L k18 σ xv1 xv2 xv3 = some 1) : W p l e room_1 s m #[Value.ref bb] below meth c H locs cA sA (lw_Z below #[Value.ref bb] s) (F0 m 644 ls []) := by
  obtain ⟨⟨hx, hb, hml, hown, hts⟩, -, hBs, hEk⟩ := id C0
  unfold fL_law_644 at hf
  refine lv_aload_n hx hb dL_law_644 rfl (lv_at hl 1 rfl) ?_
  refine lv_aload_n hx hb dL_law_645 rfl (lv_at hl 0 rfl) ?_
  refine lv_iload_n hx hb dL_law_646 rfl (lv_at hl 3 rfl) ?_
  refine lv_iconst (v := 1) hx hb dL_law_647 (by decide) ?_
  refine lv_iadd hx hb dL_law_648 ?_
  obtain ⟨vq1, hvq1, hf⟩ := ob hf
  refine hw_sld hX hbl hbB C0 hH hvq1 dL_law_649 ?_
  refine lv_aload_n hx hb dL_law_650 rfl (lv_at hl 0 rfl) ?_
  refine lv_iload_n hx hb dL_law_651 rfl (lv_at hl 3 rfl) ?_
  refine lv_iconst (v := 2) hx hb dL_law_652 (by decide) ?_
  refine lv_iadd hx hb dL_law_653 ?_
  obtain ⟨vq2, hvq2, hf⟩ := ob hf
  refine hw_sld hX hbl hbB C0 hH hvq2 dL_law_654 ?_
  refine lv_aload_n hx hb dL_law_655 rfl (lv_at hl 0 rfl) ?_
  refine lv_iload_n hx hb dL_law_656 rfl (lv_at hl 3 rfl) ?_
  refine lv_iconst (v := 3) hx hb dL_law_657 (by decide) ?_
  refine lv_iadd hx hb dL_law_658 ?_
  obtain ⟨vq3, hvq3, hf⟩ := ob hf
  refine hw_sld hX hbl hbB C0 hH hvq3 dL_law_659 ?_
  obtain ⟨iq4, hiq4, hf⟩ := ob hf
  obtain ⟨vq5, hvq5, hf⟩ := ob hf
  refine hw_cV (st2 := [.long vq5.1]) [.int vq1, .int vq2, .int vq3] [] C0 hH yk_X11_off yv_X11_off lk_L_71 rfl (ctX11_off hvq5) hiq4 rfl rfl rfl hl.1 (Nat.le_of_ble_eq_true rfl) dL_law_660 ⟨by decide, by decide⟩ ⟨Nat.le_trans (by omega) cl_ok, Nat.le_trans (by omega) sl_ok⟩ (fun H locs hH => ?_)
  refine lv_aload_n hx hb dL_law_663 rfl (lv_at hl 2 rfl) ?_
  refine lv_aload_n hx hb dL_law_664 rfl (lv_at hl 0 rfl) ?_
  refine lv_iload_n hx hb dL_law_665 rfl (lv_at hl 3 rfl) ?_
  refine lv_iconst (v := 1) hx hb dL_law_666 (by decide) ?_
  refine lv_iadd hx hb dL_law_667 ?_
  obtain ⟨vq6, hvq6, hf⟩ := ob hf
  refine hw_sld hX hbl hbB C0 hH hvq6 dL_law_668 ?_
  refine lv_aload_n hx hb dL_law_669 rfl (lv_at hl 0 rfl) ?_
  refine lv_iload_n hx hb dL_law_670 rfl (lv_at hl 3 rfl) ?_
  refine lv_iconst (v := 2) hx hb dL_law_671 (by decide) ?_
  refine lv_iadd hx hb dL_law_672 ?_
  obtain ⟨vq7, hvq7, hf⟩ := ob hf
  refine hw_sld hX hbl hbB C0 hH hvq7 dL_law_673 ?_
  refine lv_aload_n hx hb dL_law_674 rfl (lv_at hl 0 rfl) ?_
  refine lv_iload_n hx hb dL_law_675 rfl (lv_at hl 3 rfl) ?_
  refine lv_iconst (v := 3) hx hb dL_law_676 (by decide) ?_
  refine lv_iadd hx hb dL_law_677 ?_
  obtain ⟨vq8, hvq8, hf⟩ := ob hf
  refine hw_sld hX hbl hbB C0 hH hvq8 dL_law_678 ?_
  obtain ⟨iq9, hiq9, hf⟩ := ob hf
  obtain ⟨vq10, hvq10, hf⟩ := ob hf
  refine hw_cV (st2 := [.long vq10.1, .long vq5.1]) [.int vq6, .int vq7, .int vq8] [.long vq5.1] C0 hH yk_X12_off yv_X12_off lk_L_75 rfl (ctX12_off hvq10) hiq9 rfl rfl rfl hl.1 (Nat.le_of_ble_eq_true rfl) dL_law_679 ⟨by decide, by decide⟩ ⟨Nat.le_trans (by omega) cl_ok, Nat.le_trans (by omega) sl_ok⟩ (fun H locs hH => ?_)
  refine hw_leq (tgt := 1472) hx hb dL_law_682 dL_law_683 (by decide) (fun hc => ?_) (fun hc => ?_)
  · replace hf := if_t hf hc
    refine lv_iinc (v := xv3 + 6) (lv' := [(3, .int (xv3 + 6)), (0, .ref bb), (1, .ref xv1), (2, .ref xv2)]) hx hb dL_law_1472 hl (k := 3) rfl rfl (by decide) rfl (fun ls hl => ?_)
    refine lv_goto (tgt := 18) hx hb dL_law_1475 (by decide) ?_
    refine W.widen (k := cA + 20) (n := sA + 5000) (by omega) (by omega) ?_
    exact hk18 vq10.2 xv1 xv2 (xv3 + 6) H locs ls hH (lv_sub hl [1, 2, 3, 0] rfl) hf
  · replace hf := if_f hf hc
    refine lv_iconst (v := 0) hx hb dL_law_686 (by decide) ?_
    exact absurd (Option.some.inj hf) (by decide)
def fL_law_688 (xs : Nat → Int32) (L : Nat) (k18 : Hs → Nat → Nat → Int32 → Option Int32) (σ : Hs) (xv1 : Nat) (xv2 : Nat) (xv3 : Int32) : Option Int32 := (sc xs L (xv3 + 1)).bind fun vq1 => (sc xs L (xv3 + 2)).bind fun vq2 => (sc xs L (xv3 + 3)).bind fun vq3 => (isC σ xv1 13).bind fun iq4 => (fX11_worst_0 σ xv1 vq1 vq2 vq3).bind fun vq5 => (sc xs L (xv3 + 1)).bind fun vq6 => (sc xs L (xv3 + 2)).bind fun vq7 => (sc xs L (xv3 + 3)).bind fun vq8 => (isC vq5.2 xv2 14).bind fun iq9 => (fX12_worst_0 vq5.2 xv2 vq6 vq7 vq8).bind fun vq10 => if vq5.1 = vq10.1 then (k18 vq10.2 xv1 xv2 (xv3 + 6)) else (some 0)
set_option maxRecDepth 20000 in
theorem wL_law_688 {p : Program} {l : Launch} {e : Env} {s : State} {m : MethodId} {below : List Frame} {meth : Method} {c : Code} {E : Ev} {B bb L : Nat} {xs : Nat → Int32} (hX : va_X bb L xs s s.heap) (hbl : bb < s.heap.size) (hbB : bb < B) (hBe : B = s.heap.size) (C0 : Cx E B p s m #[Value.ref bb] meth c cL_law RL 4 (some .boolean)) {cA sA : Nat} (hcA : cA + 20 ≤ 590000) (hsA : sA + 5000 ≤ 7000000) {k18 : Hs → Nat → Nat → Int32 → Option Int32} (hk18 : (∀ (σ : Hs) (xv1 : Nat) (xv2 : Nat) (xv3 : Int32) (H : Heap) (locs : List Loc) (ls : Array Slot), Hw E B s.heap σ H locs → lv_has ls 4 [(0, .ref bb), (1, .ref xv1), (2, .ref xv2), (3, .int xv3)] → k18 σ xv1 xv2 xv3 = some 1 → W p l e room_1 s m #[Value.ref bb] below meth c H locs (cA + 20) (sA + 5000) (lw_Z below #[Value.ref bb] s) (F0 m 18 ls []))) (σ : Hs) (xv1 : Nat) (xv2 : Nat) (xv3 : Int32) (H : Heap) (locs : List Loc) (ls : Array Slot) (hH : Hw E B s.heap σ H locs) (hl : lv_has ls 4 [(0, .ref bb), (1, .ref xv1), (2, .ref xv2), (3, .int xv3)]) (hf : fL_law_688 xs L k18 σ xv1 xv2 xv3 = some 1) : W p l e room_1 s m #[Value.ref bb] below meth c H locs cA sA (lw_Z below #[Value.ref bb] s) (F0 m 688 ls []) := by
  obtain ⟨⟨hx, hb, hml, hown, hts⟩, -, hBs, hEk⟩ := id C0
  unfold fL_law_688 at hf
  refine lv_aload_n hx hb dL_law_688 rfl (lv_at hl 1 rfl) ?_
  refine lv_aload_n hx hb dL_law_689 rfl (lv_at hl 0 rfl) ?_
  refine lv_iload_n hx hb dL_law_690 rfl (lv_at hl 3 rfl) ?_
  refine lv_iconst (v := 1) hx hb dL_law_691 (by decide) ?_
  refine lv_iadd hx hb dL_law_692 ?_
  obtain ⟨vq1, hvq1, hf⟩ := ob hf
  refine hw_sld hX hbl hbB C0 hH hvq1 dL_law_693 ?_
  refine lv_aload_n hx hb dL_law_694 rfl (lv_at hl 0 rfl) ?_
  refine lv_iload_n hx hb dL_law_695 rfl (lv_at hl 3 rfl) ?_
  refine lv_iconst (v := 2) hx hb dL_law_696 (by decide) ?_
  refine lv_iadd hx hb dL_law_697 ?_
  obtain ⟨vq2, hvq2, hf⟩ := ob hf
  refine hw_sld hX hbl hbB C0 hH hvq2 dL_law_698 ?_
  refine lv_aload_n hx hb dL_law_699 rfl (lv_at hl 0 rfl) ?_
  refine lv_iload_n hx hb dL_law_700 rfl (lv_at hl 3 rfl) ?_
  refine lv_iconst (v := 3) hx hb dL_law_701 (by decide) ?_
  refine lv_iadd hx hb dL_law_702 ?_
  obtain ⟨vq3, hvq3, hf⟩ := ob hf
  refine hw_sld hX hbl hbB C0 hH hvq3 dL_law_703 ?_
  obtain ⟨iq4, hiq4, hf⟩ := ob hf
  obtain ⟨vq5, hvq5, hf⟩ := ob hf
  refine hw_cV (st2 := [.long vq5.1]) [.int vq1, .int vq2, .int vq3] [] C0 hH yk_X11_worst yv_X11_worst lk_L_76 rfl (ctX11_worst hvq5) hiq4 rfl rfl rfl hl.1 (Nat.le_of_ble_eq_true rfl) dL_law_704 ⟨by decide, by decide⟩ ⟨Nat.le_trans (by omega) cl_ok, Nat.le_trans (by omega) sl_ok⟩ (fun H locs hH => ?_)
  refine lv_aload_n hx hb dL_law_707 rfl (lv_at hl 2 rfl) ?_
  refine lv_aload_n hx hb dL_law_708 rfl (lv_at hl 0 rfl) ?_
  refine lv_iload_n hx hb dL_law_709 rfl (lv_at hl 3 rfl) ?_
  refine lv_iconst (v := 1) hx hb dL_law_710 (by decide) ?_
  refine lv_iadd hx hb dL_law_711 ?_
  obtain ⟨vq6, hvq6, hf⟩ := ob hf
  refine hw_sld hX hbl hbB C0 hH hvq6 dL_law_712 ?_
  refine lv_aload_n hx hb dL_law_713 rfl (lv_at hl 0 rfl) ?_
  refine lv_iload_n hx hb dL_law_714 rfl (lv_at hl 3 rfl) ?_
  refine lv_iconst (v := 2) hx hb dL_law_715 (by decide) ?_
  refine lv_iadd hx hb dL_law_716 ?_
  obtain ⟨vq7, hvq7, hf⟩ := ob hf
  refine hw_sld hX hbl hbB C0 hH hvq7 dL_law_717 ?_
  refine lv_aload_n hx hb dL_law_718 rfl (lv_at hl 0 rfl) ?_
  refine lv_iload_n hx hb dL_law_719 rfl (lv_at hl 3 rfl) ?_
  refine lv_iconst (v := 3) hx hb dL_law_720 (by decide) ?_
  refine lv_iadd hx hb dL_law_721 ?_
  obtain ⟨vq8, hvq8, hf⟩ := ob hf
  refine hw_sld hX hbl hbB C0 hH hvq8 dL_law_722 ?_
  obtain ⟨iq9, hiq9, hf⟩ := ob hf
  obtain ⟨vq10, hvq10, hf⟩ := ob hf
  refine hw_cV (st2 := [.long vq10.1, .long vq5.1]) [.int vq6, .int vq7, .int vq8] [.long vq5.1] C0 hH yk_X12_worst yv_X12_worst lk_L_79 rfl (ctX12_worst hvq10) hiq9 rfl rfl rfl hl.1 (Nat.le_of_ble_eq_true rfl) dL_law_723 ⟨by decide, by decide⟩ ⟨Nat.le_trans (by omega) cl_ok, Nat.le_trans (by omega) sl_ok⟩ (fun H locs hH => ?_)
  refine hw_leq (tgt := 1472) hx hb dL_law_726 dL_law_727 (by decide) (fun hc => ?_) (fun hc => ?_)
  · replace hf := if_t hf hc
    refine lv_iinc (v := xv3 + 6) (lv' := [(3, .int (xv3 + 6)), (0, .ref bb), (1, .ref xv1), (2, .ref xv2)]) hx hb dL_law_1472 hl (k := 3) rfl rfl (by decide) rfl (fun ls hl => ?_)
    refine lv_goto (tgt := 18) hx hb dL_law_1475 (by decide) ?_
    refine W.widen (k := cA + 20) (n := sA + 5000) (by omega) (by omega) ?_
    exact hk18 vq10.2 xv1 xv2 (xv3 + 6) H locs ls hH (lv_sub hl [1, 2, 3, 0] rfl) hf
  · replace hf := if_f hf hc
    refine lv_iconst (v := 0) hx hb dL_law_730 (by decide) ?_
    exact absurd (Option.some.inj hf) (by decide)
def fL_law_732 (xs : Nat → Int32) (L : Nat) (k18 : Hs → Nat → Nat → Int32 → Option Int32) (σ : Hs) (xv1 : Nat) (xv2 : Nat) (xv3 : Int32) : Option Int32 := (sc xs L (xv3 + 1)).bind fun vq1 => (sc xs L (xv3 + 2)).bind fun vq2 => (sc xs L (xv3 + 3)).bind fun vq3 => (sc xs L (xv3 + 4)).bind fun vq4 => (sc xs L (xv3 + 5)).bind fun vq5 => (isC σ xv1 13).bind fun iq6 => (fX11_feed_0 σ xv1 vq1 vq2 vq3 vq4 vq5).bind fun vq7 => (sc xs L (xv3 + 1)).bind fun vq8 => (sc xs L (xv3 + 2)).bind fun vq9 => (sc xs L (xv3 + 3)).bind fun vq10 => (sc xs L (xv3 + 4)).bind fun vq11 => (sc xs L (xv3 + 5)).bind fun vq12 => (isC vq7.2 xv2 14).bind fun iq13 => (fX12_feed_0 vq7.2 xv2 vq8 vq9 vq10 vq11 vq12).bind fun vq14 => if vq7.1 = vq14.1 then (k18 vq14.2 xv1 xv2 (xv3 + 6)) else (some 0)
set_option maxRecDepth 20000 in
theorem wL_law_732 {p : Program} {l : Launch} {e : Env} {s : State} {m : MethodId} {below : List Frame} {meth : Method} {c : Code} {E : Ev} {B bb L : Nat} {xs : Nat → Int32} (hX : va_X bb L xs s s.heap) (hbl : bb < s.heap.size) (hbB : bb < B) (hBe : B = s.heap.size) (C0 : Cx E B p s m #[Value.ref bb] meth c cL_law RL 4 (some .boolean)) {cA sA : Nat} (hcA : cA + 20 ≤ 590000) (hsA : sA + 5000 ≤ 7000000) {k18 : Hs → Nat → Nat → Int32 → Option Int32} (hk18 : (∀ (σ : Hs) (xv1 : Nat) (xv2 : Nat) (xv3 : Int32) (H : Heap) (locs : List Loc) (ls : Array Slot), Hw E B s.heap σ H locs → lv_has ls 4 [(0, .ref bb), (1, .ref xv1), (2, .ref xv2), (3, .int xv3)] → k18 σ xv1 xv2 xv3 = some 1 → W p l e room_1 s m #[Value.ref bb] below meth c H locs (cA + 20) (sA + 5000) (lw_Z below #[Value.ref bb] s) (F0 m 18 ls []))) (σ : Hs) (xv1 : Nat) (xv2 : Nat) (xv3 : Int32) (H : Heap) (locs : List Loc) (ls : Array Slot) (hH : Hw E B s.heap σ H locs) (hl : lv_has ls 4 [(0, .ref bb), (1, .ref xv1), (2, .ref xv2), (3, .int xv3)]) (hf : fL_law_732 xs L k18 σ xv1 xv2 xv3 = some 1) : W p l e room_1 s m #[Value.ref bb] below meth c H locs cA sA (lw_Z below #[Value.ref bb] s) (F0 m 732 ls []) := by
  obtain ⟨⟨hx, hb, hml, hown, hts⟩, -, hBs, hEk⟩ := id C0
  unfold fL_law_732 at hf
  refine lv_aload_n hx hb dL_law_732 rfl (lv_at hl 1 rfl) ?_
  refine lv_aload_n hx hb dL_law_733 rfl (lv_at hl 0 rfl) ?_
  refine lv_iload_n hx hb dL_law_734 rfl (lv_at hl 3 rfl) ?_
  refine lv_iconst (v := 1) hx hb dL_law_735 (by decide) ?_
  refine lv_iadd hx hb dL_law_736 ?_
  obtain ⟨vq1, hvq1, hf⟩ := ob hf
  refine hw_sld hX hbl hbB C0 hH hvq1 dL_law_737 ?_
  refine lv_aload_n hx hb dL_law_738 rfl (lv_at hl 0 rfl) ?_
  refine lv_iload_n hx hb dL_law_739 rfl (lv_at hl 3 rfl) ?_
  refine lv_iconst (v := 2) hx hb dL_law_740 (by decide) ?_
  refine lv_iadd hx hb dL_law_741 ?_
  obtain ⟨vq2, hvq2, hf⟩ := ob hf
  refine hw_sld hX hbl hbB C0 hH hvq2 dL_law_742 ?_
  refine lv_aload_n hx hb dL_law_743 rfl (lv_at hl 0 rfl) ?_
  refine lv_iload_n hx hb dL_law_744 rfl (lv_at hl 3 rfl) ?_
  refine lv_iconst (v := 3) hx hb dL_law_745 (by decide) ?_
  refine lv_iadd hx hb dL_law_746 ?_
  obtain ⟨vq3, hvq3, hf⟩ := ob hf
  refine hw_sld hX hbl hbB C0 hH hvq3 dL_law_747 ?_
  refine lv_aload_n hx hb dL_law_748 rfl (lv_at hl 0 rfl) ?_
  refine lv_iload_n hx hb dL_law_749 rfl (lv_at hl 3 rfl) ?_
  refine lv_iconst (v := 4) hx hb dL_law_750 (by decide) ?_
  refine lv_iadd hx hb dL_law_751 ?_
  obtain ⟨vq4, hvq4, hf⟩ := ob hf
  refine hw_sld hX hbl hbB C0 hH hvq4 dL_law_752 ?_
  refine lv_aload_n hx hb dL_law_753 rfl (lv_at hl 0 rfl) ?_
  refine lv_iload_n hx hb dL_law_754 rfl (lv_at hl 3 rfl) ?_
  refine lv_iconst (v := 5) hx hb dL_law_755 (by decide) ?_
  refine lv_iadd hx hb dL_law_756 ?_
  obtain ⟨vq5, hvq5, hf⟩ := ob hf
  refine hw_sld hX hbl hbB C0 hH hvq5 dL_law_757 ?_
  obtain ⟨iq6, hiq6, hf⟩ := ob hf
  obtain ⟨vq7, hvq7, hf⟩ := ob hf
  refine hw_cV (st2 := [.int vq7.1]) [.int vq1, .int vq2, .int vq3, .int vq4, .int vq5] [] C0 hH yk_X11_feed yv_X11_feed lk_L_80 rfl (ctX11_feed hvq7) hiq6 rfl rfl rfl hl.1 (Nat.le_of_ble_eq_true rfl) dL_law_758 ⟨by decide, by decide⟩ ⟨Nat.le_trans (by omega) cl_ok, Nat.le_trans (by omega) sl_ok⟩ (fun H locs hH => ?_)
  refine lv_aload_n hx hb dL_law_761 rfl (lv_at hl 2 rfl) ?_
  refine lv_aload_n hx hb dL_law_762 rfl (lv_at hl 0 rfl) ?_
  refine lv_iload_n hx hb dL_law_763 rfl (lv_at hl 3 rfl) ?_
  refine lv_iconst (v := 1) hx hb dL_law_764 (by decide) ?_
  refine lv_iadd hx hb dL_law_765 ?_
  obtain ⟨vq8, hvq8, hf⟩ := ob hf
  refine hw_sld hX hbl hbB C0 hH hvq8 dL_law_766 ?_
  refine lv_aload_n hx hb dL_law_767 rfl (lv_at hl 0 rfl) ?_
  refine lv_iload_n hx hb dL_law_768 rfl (lv_at hl 3 rfl) ?_
  refine lv_iconst (v := 2) hx hb dL_law_769 (by decide) ?_
  refine lv_iadd hx hb dL_law_770 ?_
  obtain ⟨vq9, hvq9, hf⟩ := ob hf
  refine hw_sld hX hbl hbB C0 hH hvq9 dL_law_771 ?_
  refine lv_aload_n hx hb dL_law_772 rfl (lv_at hl 0 rfl) ?_
  refine lv_iload_n hx hb dL_law_773 rfl (lv_at hl 3 rfl) ?_
  refine lv_iconst (v := 3) hx hb dL_law_774 (by decide) ?_
  refine lv_iadd hx hb dL_law_775 ?_
  obtain ⟨vq10, hvq10, hf⟩ := ob hf
  refine hw_sld hX hbl hbB C0 hH hvq10 dL_law_776 ?_
  refine lv_aload_n hx hb dL_law_777 rfl (lv_at hl 0 rfl) ?_
  refine lv_iload_n hx hb dL_law_778 rfl (lv_at hl 3 rfl) ?_
  refine lv_iconst (v := 4) hx hb dL_law_779 (by decide) ?_
  refine lv_iadd hx hb dL_law_780 ?_
  obtain ⟨vq11, hvq11, hf⟩ := ob hf
  refine hw_sld hX hbl hbB C0 hH hvq11 dL_law_781 ?_
  refine lv_aload_n hx hb dL_law_782 rfl (lv_at hl 0 rfl) ?_
  refine lv_iload_n hx hb dL_law_783 rfl (lv_at hl 3 rfl) ?_
  refine lv_iconst (v := 5) hx hb dL_law_784 (by decide) ?_
  refine lv_iadd hx hb dL_law_785 ?_
  obtain ⟨vq12, hvq12, hf⟩ := ob hf
  refine hw_sld hX hbl hbB C0 hH hvq12 dL_law_786 ?_
  obtain ⟨iq13, hiq13, hf⟩ := ob hf
  obtain ⟨vq14, hvq14, hf⟩ := ob hf
  refine hw_cV (st2 := [.int vq14.1, .int vq7.1]) [.int vq8, .int vq9, .int vq10, .int vq11, .int vq12] [.int vq7.1] C0 hH yk_X12_feed yv_X12_feed lk_L_84 rfl (ctX12_feed hvq14) hiq13 rfl rfl rfl hl.1 (Nat.le_of_ble_eq_true rfl) dL_law_787 ⟨by decide, by decide⟩ ⟨Nat.le_trans (by omega) cl_ok, Nat.le_trans (by omega) sl_ok⟩ (fun H locs hH => ?_)
  refine lv_icmp_eq (tgt := 1472) hx hb dL_law_790 (by decide) (fun hc => ?_) (fun hc => ?_)
  · replace hf := if_t hf hc
    refine lv_iinc (v := xv3 + 6) (lv' := [(3, .int (xv3 + 6)), (0, .ref bb), (1, .ref xv1), (2, .ref xv2)]) hx hb dL_law_1472 hl (k := 3) rfl rfl (by decide) rfl (fun ls hl => ?_)
    refine lv_goto (tgt := 18) hx hb dL_law_1475 (by decide) ?_
    refine W.widen (k := cA + 20) (n := sA + 5000) (by omega) (by omega) ?_
    exact hk18 vq14.2 xv1 xv2 (xv3 + 6) H locs ls hH (lv_sub hl [1, 2, 3, 0] rfl) hf
  · replace hf := if_f hf hc
    refine lv_iconst (v := 0) hx hb dL_law_793 (by decide) ?_
    exact absurd (Option.some.inj hf) (by decide)
def fL_law_795 (xs : Nat → Int32) (L : Nat) (k18 : Hs → Nat → Nat → Int32 → Option Int32) (σ : Hs) (xv1 : Nat) (xv2 : Nat) (xv3 : Int32) : Option Int32 := (sc xs L (xv3 + 1)).bind fun vq1 => (sc xs L (xv3 + 2)).bind fun vq2 => (isC σ xv1 13).bind fun iq3 => (fX11_rules_0 σ xv1 vq1 vq2).bind fun vq4 => (sc xs L (xv3 + 1)).bind fun vq5 => (sc xs L (xv3 + 2)).bind fun vq6 => (isC vq4.2 xv2 14).bind fun iq7 => (fX12_rules_0 vq4.2 xv2 vq5 vq6).bind fun vq8 => if vq4.1 = vq8.1 then (k18 vq8.2 xv1 xv2 (xv3 + 6)) else (some 0)
set_option maxRecDepth 20000 in
theorem wL_law_795 {p : Program} {l : Launch} {e : Env} {s : State} {m : MethodId} {below : List Frame} {meth : Method} {c : Code} {E : Ev} {B bb L : Nat} {xs : Nat → Int32} (hX : va_X bb L xs s s.heap) (hbl : bb < s.heap.size) (hbB : bb < B) (hBe : B = s.heap.size) (C0 : Cx E B p s m #[Value.ref bb] meth c cL_law RL 4 (some .boolean)) {cA sA : Nat} (hcA : cA + 20 ≤ 590000) (hsA : sA + 5000 ≤ 7000000) {k18 : Hs → Nat → Nat → Int32 → Option Int32} (hk18 : (∀ (σ : Hs) (xv1 : Nat) (xv2 : Nat) (xv3 : Int32) (H : Heap) (locs : List Loc) (ls : Array Slot), Hw E B s.heap σ H locs → lv_has ls 4 [(0, .ref bb), (1, .ref xv1), (2, .ref xv2), (3, .int xv3)] → k18 σ xv1 xv2 xv3 = some 1 → W p l e room_1 s m #[Value.ref bb] below meth c H locs (cA + 20) (sA + 5000) (lw_Z below #[Value.ref bb] s) (F0 m 18 ls []))) (σ : Hs) (xv1 : Nat) (xv2 : Nat) (xv3 : Int32) (H : Heap) (locs : List Loc) (ls : Array Slot) (hH : Hw E B s.heap σ H locs) (hl : lv_has ls 4 [(0, .ref bb), (1, .ref xv1), (2, .ref xv2), (3, .int xv3)]) (hf : fL_law_795 xs L k18 σ xv1 xv2 xv3 = some 1) : W p l e room_1 s m #[Value.ref bb] below meth c H locs cA sA (lw_Z below #[Value.ref bb] s) (F0 m 795 ls []) := by
  obtain ⟨⟨hx, hb, hml, hown, hts⟩, -, hBs, hEk⟩ := id C0
  unfold fL_law_795 at hf
  refine lv_aload_n hx hb dL_law_795 rfl (lv_at hl 1 rfl) ?_
  refine lv_aload_n hx hb dL_law_796 rfl (lv_at hl 0 rfl) ?_
  refine lv_iload_n hx hb dL_law_797 rfl (lv_at hl 3 rfl) ?_
  refine lv_iconst (v := 1) hx hb dL_law_798 (by decide) ?_
  refine lv_iadd hx hb dL_law_799 ?_
  obtain ⟨vq1, hvq1, hf⟩ := ob hf
  refine hw_sld hX hbl hbB C0 hH hvq1 dL_law_800 ?_
  refine lv_aload_n hx hb dL_law_801 rfl (lv_at hl 0 rfl) ?_
  refine lv_iload_n hx hb dL_law_802 rfl (lv_at hl 3 rfl) ?_
  refine lv_iconst (v := 2) hx hb dL_law_803 (by decide) ?_
  refine lv_iadd hx hb dL_law_804 ?_
  obtain ⟨vq2, hvq2, hf⟩ := ob hf
  refine hw_sld hX hbl hbB C0 hH hvq2 dL_law_805 ?_
  obtain ⟨iq3, hiq3, hf⟩ := ob hf
  obtain ⟨vq4, hvq4, hf⟩ := ob hf
  refine hw_cV (st2 := [.int vq4.1]) [.int vq1, .int vq2] [] C0 hH yk_X11_rules yv_X11_rules lk_L_85 rfl (ctX11_rules hvq4) hiq3 rfl rfl rfl hl.1 (Nat.le_of_ble_eq_true rfl) dL_law_806 ⟨by decide, by decide⟩ ⟨Nat.le_trans (by omega) cl_ok, Nat.le_trans (by omega) sl_ok⟩ (fun H locs hH => ?_)
  refine lv_aload_n hx hb dL_law_809 rfl (lv_at hl 2 rfl) ?_
  refine lv_aload_n hx hb dL_law_810 rfl (lv_at hl 0 rfl) ?_
  refine lv_iload_n hx hb dL_law_811 rfl (lv_at hl 3 rfl) ?_
  refine lv_iconst (v := 1) hx hb dL_law_812 (by decide) ?_
  refine lv_iadd hx hb dL_law_813 ?_
  obtain ⟨vq5, hvq5, hf⟩ := ob hf
  refine hw_sld hX hbl hbB C0 hH hvq5 dL_law_814 ?_
  refine lv_aload_n hx hb dL_law_815 rfl (lv_at hl 0 rfl) ?_
  refine lv_iload_n hx hb dL_law_816 rfl (lv_at hl 3 rfl) ?_
  refine lv_iconst (v := 2) hx hb dL_law_817 (by decide) ?_
  refine lv_iadd hx hb dL_law_818 ?_
  obtain ⟨vq6, hvq6, hf⟩ := ob hf
  refine hw_sld hX hbl hbB C0 hH hvq6 dL_law_819 ?_
  obtain ⟨iq7, hiq7, hf⟩ := ob hf
  obtain ⟨vq8, hvq8, hf⟩ := ob hf
  refine hw_cV (st2 := [.int vq8.1, .int vq4.1]) [.int vq5, .int vq6] [.int vq4.1] C0 hH yk_X12_rules yv_X12_rules lk_L_88 rfl (ctX12_rules hvq8) hiq7 rfl rfl rfl hl.1 (Nat.le_of_ble_eq_true rfl) dL_law_820 ⟨by decide, by decide⟩ ⟨Nat.le_trans (by omega) cl_ok, Nat.le_trans (by omega) sl_ok⟩ (fun H locs hH => ?_)
  refine lv_icmp_eq (tgt := 1472) hx hb dL_law_823 (by decide) (fun hc => ?_) (fun hc => ?_)
  · replace hf := if_t hf hc
    refine lv_iinc (v := xv3 + 6) (lv' := [(3, .int (xv3 + 6)), (0, .ref bb), (1, .ref xv1), (2, .ref xv2)]) hx hb dL_law_1472 hl (k := 3) rfl rfl (by decide) rfl (fun ls hl => ?_)
    refine lv_goto (tgt := 18) hx hb dL_law_1475 (by decide) ?_
    refine W.widen (k := cA + 20) (n := sA + 5000) (by omega) (by omega) ?_
    exact hk18 vq8.2 xv1 xv2 (xv3 + 6) H locs ls hH (lv_sub hl [1, 2, 3, 0] rfl) hf
  · replace hf := if_f hf hc
    refine lv_iconst (v := 0) hx hb dL_law_826 (by decide) ?_
    exact absurd (Option.some.inj hf) (by decide)
def fL_law_828 (xs : Nat → Int32) (L : Nat) (k18 : Hs → Nat → Nat → Int32 → Option Int32) (σ : Hs) (xv1 : Nat) (xv2 : Nat) (xv3 : Int32) : Option Int32 := (sc xs L (xv3 + 1)).bind fun vq1 => (isC σ xv1 13).bind fun iq2 => (fX11_fault_0 σ xv1 vq1).bind fun vq3 => (sc xs L (xv3 + 1)).bind fun vq4 => (isC σ xv2 14).bind fun iq5 => (fX12_fault_0 σ xv2 vq4).bind fun vq6 => if vq3 = vq6.1 then (k18 vq6.2 xv1 xv2 (xv3 + 6)) else (some 0)
set_option maxRecDepth 20000 in
theorem wL_law_828 {p : Program} {l : Launch} {e : Env} {s : State} {m : MethodId} {below : List Frame} {meth : Method} {c : Code} {E : Ev} {B bb L : Nat} {xs : Nat → Int32} (hX : va_X bb L xs s s.heap) (hbl : bb < s.heap.size) (hbB : bb < B) (hBe : B = s.heap.size) (C0 : Cx E B p s m #[Value.ref bb] meth c cL_law RL 4 (some .boolean)) {cA sA : Nat} (hcA : cA + 20 ≤ 590000) (hsA : sA + 5000 ≤ 7000000) {k18 : Hs → Nat → Nat → Int32 → Option Int32} (hk18 : (∀ (σ : Hs) (xv1 : Nat) (xv2 : Nat) (xv3 : Int32) (H : Heap) (locs : List Loc) (ls : Array Slot), Hw E B s.heap σ H locs → lv_has ls 4 [(0, .ref bb), (1, .ref xv1), (2, .ref xv2), (3, .int xv3)] → k18 σ xv1 xv2 xv3 = some 1 → W p l e room_1 s m #[Value.ref bb] below meth c H locs (cA + 20) (sA + 5000) (lw_Z below #[Value.ref bb] s) (F0 m 18 ls []))) (σ : Hs) (xv1 : Nat) (xv2 : Nat) (xv3 : Int32) (H : Heap) (locs : List Loc) (ls : Array Slot) (hH : Hw E B s.heap σ H locs) (hl : lv_has ls 4 [(0, .ref bb), (1, .ref xv1), (2, .ref xv2), (3, .int xv3)]) (hf : fL_law_828 xs L k18 σ xv1 xv2 xv3 = some 1) : W p l e room_1 s m #[Value.ref bb] below meth c H locs cA sA (lw_Z below #[Value.ref bb] s) (F0 m 828 ls []) := by
  obtain ⟨⟨hx, hb, hml, hown, hts⟩, -, hBs, hEk⟩ := id C0
  unfold fL_law_828 at hf
  refine lv_aload_n hx hb dL_law_828 rfl (lv_at hl 1 rfl) ?_
  refine lv_aload_n hx hb dL_law_829 rfl (lv_at hl 0 rfl) ?_
  refine lv_iload_n hx hb dL_law_830 rfl (lv_at hl 3 rfl) ?_
  refine lv_iconst (v := 1) hx hb dL_law_831 (by decide) ?_
  refine lv_iadd hx hb dL_law_832 ?_
  obtain ⟨vq1, hvq1, hf⟩ := ob hf
  refine hw_sld hX hbl hbB C0 hH hvq1 dL_law_833 ?_
  obtain ⟨iq2, hiq2, hf⟩ := ob hf
  obtain ⟨vq3, hvq3, hf⟩ := ob hf
  refine hw_cV (st2 := [.int vq3]) [.int vq1] [] C0 hH yk_X11_fault yv_X11_fault lk_L_89 rfl (ctX11_fault hvq3) hiq2 rfl rfl rfl hl.1 (Nat.le_of_ble_eq_true rfl) dL_law_834 ⟨by decide, by decide⟩ ⟨Nat.le_trans (by omega) cl_ok, Nat.le_trans (by omega) sl_ok⟩ (fun H locs hH => ?_)
  refine lv_aload_n hx hb dL_law_837 rfl (lv_at hl 2 rfl) ?_
  refine lv_aload_n hx hb dL_law_838 rfl (lv_at hl 0 rfl) ?_
  refine lv_iload_n hx hb dL_law_839 rfl (lv_at hl 3 rfl) ?_
  refine lv_iconst (v := 1) hx hb dL_law_840 (by decide) ?_
  refine lv_iadd hx hb dL_law_841 ?_
  obtain ⟨vq4, hvq4, hf⟩ := ob hf
  refine hw_sld hX hbl hbB C0 hH hvq4 dL_law_842 ?_
  obtain ⟨iq5, hiq5, hf⟩ := ob hf
  obtain ⟨vq6, hvq6, hf⟩ := ob hf
  refine hw_cV (st2 := [.int vq6.1, .int vq3]) [.int vq4] [.int vq3] C0 hH yk_X12_fault yv_X12_fault lk_L_92 rfl (ctX12_fault hvq6) hiq5 rfl rfl rfl hl.1 (Nat.le_of_ble_eq_true rfl) dL_law_843 ⟨by decide, by decide⟩ ⟨Nat.le_trans (by omega) cl_ok, Nat.le_trans (by omega) sl_ok⟩ (fun H locs hH => ?_)
  refine lv_icmp_eq (tgt := 1472) hx hb dL_law_846 (by decide) (fun hc => ?_) (fun hc => ?_)
  · replace hf := if_t hf hc
    refine lv_iinc (v := xv3 + 6) (lv' := [(3, .int (xv3 + 6)), (0, .ref bb), (1, .ref xv1), (2, .ref xv2)]) hx hb dL_law_1472 hl (k := 3) rfl rfl (by decide) rfl (fun ls hl => ?_)
    refine lv_goto (tgt := 18) hx hb dL_law_1475 (by decide) ?_
    refine W.widen (k := cA + 20) (n := sA + 5000) (by omega) (by omega) ?_
    exact hk18 vq6.2 xv1 xv2 (xv3 + 6) H locs ls hH (lv_sub hl [1, 2, 3, 0] rfl) hf
  · replace hf := if_f hf hc
    refine lv_iconst (v := 0) hx hb dL_law_849 (by decide) ?_
    exact absurd (Option.some.inj hf) (by decide)
def fL_law_851 (xs : Nat → Int32) (L : Nat) (k18 : Hs → Nat → Nat → Int32 → Option Int32) (σ : Hs) (xv1 : Nat) (xv2 : Nat) (xv3 : Int32) : Option Int32 := (sc xs L (xv3 + 1)).bind fun vq1 => (isC σ xv1 13).bind fun iq2 => (fX11_server_0 σ xv1 vq1).bind fun vq3 => (sc xs L (xv3 + 1)).bind fun vq4 => (isC vq3.2 xv2 14).bind fun iq5 => (fX12_server_0 vq3.2 xv2 vq4).bind fun vq6 => if vq3.1 = vq6.1 then (k18 vq6.2 xv1 xv2 (xv3 + 6)) else (some 0)
set_option maxRecDepth 20000 in
theorem wL_law_851 {p : Program} {l : Launch} {e : Env} {s : State} {m : MethodId} {below : List Frame} {meth : Method} {c : Code} {E : Ev} {B bb L : Nat} {xs : Nat → Int32} (hX : va_X bb L xs s s.heap) (hbl : bb < s.heap.size) (hbB : bb < B) (hBe : B = s.heap.size) (C0 : Cx E B p s m #[Value.ref bb] meth c cL_law RL 4 (some .boolean)) {cA sA : Nat} (hcA : cA + 20 ≤ 590000) (hsA : sA + 5000 ≤ 7000000) {k18 : Hs → Nat → Nat → Int32 → Option Int32} (hk18 : (∀ (σ : Hs) (xv1 : Nat) (xv2 : Nat) (xv3 : Int32) (H : Heap) (locs : List Loc) (ls : Array Slot), Hw E B s.heap σ H locs → lv_has ls 4 [(0, .ref bb), (1, .ref xv1), (2, .ref xv2), (3, .int xv3)] → k18 σ xv1 xv2 xv3 = some 1 → W p l e room_1 s m #[Value.ref bb] below meth c H locs (cA + 20) (sA + 5000) (lw_Z below #[Value.ref bb] s) (F0 m 18 ls []))) (σ : Hs) (xv1 : Nat) (xv2 : Nat) (xv3 : Int32) (H : Heap) (locs : List Loc) (ls : Array Slot) (hH : Hw E B s.heap σ H locs) (hl : lv_has ls 4 [(0, .ref bb), (1, .ref xv1), (2, .ref xv2), (3, .int xv3)]) (hf : fL_law_851 xs L k18 σ xv1 xv2 xv3 = some 1) : W p l e room_1 s m #[Value.ref bb] below meth c H locs cA sA (lw_Z below #[Value.ref bb] s) (F0 m 851 ls []) := by
  obtain ⟨⟨hx, hb, hml, hown, hts⟩, -, hBs, hEk⟩ := id C0
  unfold fL_law_851 at hf
  refine lv_aload_n hx hb dL_law_851 rfl (lv_at hl 1 rfl) ?_
  refine lv_aload_n hx hb dL_law_852 rfl (lv_at hl 0 rfl) ?_
  refine lv_iload_n hx hb dL_law_853 rfl (lv_at hl 3 rfl) ?_
  refine lv_iconst (v := 1) hx hb dL_law_854 (by decide) ?_
  refine lv_iadd hx hb dL_law_855 ?_
  obtain ⟨vq1, hvq1, hf⟩ := ob hf
  refine hw_sld hX hbl hbB C0 hH hvq1 dL_law_856 ?_
  obtain ⟨iq2, hiq2, hf⟩ := ob hf
  obtain ⟨vq3, hvq3, hf⟩ := ob hf
  refine hw_cV (st2 := [.int vq3.1]) [.int vq1] [] C0 hH yk_X11_server yv_X11_server lk_L_93 rfl (ctX11_server hvq3) hiq2 rfl rfl rfl hl.1 (Nat.le_of_ble_eq_true rfl) dL_law_857 ⟨by decide, by decide⟩ ⟨Nat.le_trans (by omega) cl_ok, Nat.le_trans (by omega) sl_ok⟩ (fun H locs hH => ?_)
  refine lv_aload_n hx hb dL_law_860 rfl (lv_at hl 2 rfl) ?_
  refine lv_aload_n hx hb dL_law_861 rfl (lv_at hl 0 rfl) ?_
  refine lv_iload_n hx hb dL_law_862 rfl (lv_at hl 3 rfl) ?_
  refine lv_iconst (v := 1) hx hb dL_law_863 (by decide) ?_
  refine lv_iadd hx hb dL_law_864 ?_
  obtain ⟨vq4, hvq4, hf⟩ := ob hf
  refine hw_sld hX hbl hbB C0 hH hvq4 dL_law_865 ?_
  obtain ⟨iq5, hiq5, hf⟩ := ob hf
  obtain ⟨vq6, hvq6, hf⟩ := ob hf
  refine hw_cV (st2 := [.int vq6.1, .int vq3.1]) [.int vq4] [.int vq3.1] C0 hH yk_X12_server yv_X12_server lk_L_96 rfl (ctX12_server hvq6) hiq5 rfl rfl rfl hl.1 (Nat.le_of_ble_eq_true rfl) dL_law_866 ⟨by decide, by decide⟩ ⟨Nat.le_trans (by omega) cl_ok, Nat.le_trans (by omega) sl_ok⟩ (fun H locs hH => ?_)
  refine lv_icmp_eq (tgt := 1472) hx hb dL_law_869 (by decide) (fun hc => ?_) (fun hc => ?_)
  · replace hf := if_t hf hc
    refine lv_iinc (v := xv3 + 6) (lv' := [(3, .int (xv3 + 6)), (0, .ref bb), (1, .ref xv1), (2, .ref xv2)]) hx hb dL_law_1472 hl (k := 3) rfl rfl (by decide) rfl (fun ls hl => ?_)
    refine lv_goto (tgt := 18) hx hb dL_law_1475 (by decide) ?_
    refine W.widen (k := cA + 20) (n := sA + 5000) (by omega) (by omega) ?_
    exact hk18 vq6.2 xv1 xv2 (xv3 + 6) H locs ls hH (lv_sub hl [1, 2, 3, 0] rfl) hf
  · replace hf := if_f hf hc
    refine lv_iconst (v := 0) hx hb dL_law_872 (by decide) ?_
    exact absurd (Option.some.inj hf) (by decide)
def fL_law_874 (xs : Nat → Int32) (L : Nat) (k18 : Hs → Nat → Nat → Int32 → Option Int32) (σ : Hs) (xv1 : Nat) (xv2 : Nat) (xv3 : Int32) : Option Int32 := (sc xs L (xv3 + 1)).bind fun vq1 => (sc xs L (xv3 + 2)).bind fun vq2 => (sc xs L (xv3 + 3)).bind fun vq3 => (sc xs L (xv3 + 4)).bind fun vq4 => (sc xs L (xv3 + 5)).bind fun vq5 => (isC σ xv1 13).bind fun iq6 => (fX11_notice_0 σ xv1 vq1 vq2 vq3 vq4 vq5).bind fun vq7 => (sc xs L (xv3 + 1)).bind fun vq8 => (sc xs L (xv3 + 2)).bind fun vq9 => (sc xs L (xv3 + 3)).bind fun vq10 => (sc xs L (xv3 + 4)).bind fun vq11 => (sc xs L (xv3 + 5)).bind fun vq12 => (isC vq7.2 xv2 14).bind fun iq13 => (fX12_notice_0 vq7.2 xv2 vq8 vq9 vq10 vq11 vq12).bind fun vq14 => if vq7.1 = vq14.1 then (k18 vq14.2 xv1 xv2 (xv3 + 6)) else (some 0)
set_option maxRecDepth 20000 in
theorem wL_law_874 {p : Program} {l : Launch} {e : Env} {s : State} {m : MethodId} {below : List Frame} {meth : Method} {c : Code} {E : Ev} {B bb L : Nat} {xs : Nat → Int32} (hX : va_X bb L xs s s.heap) (hbl : bb < s.heap.size) (hbB : bb < B) (hBe : B = s.heap.size) (C0 : Cx E B p s m #[Value.ref bb] meth c cL_law RL 4 (some .boolean)) {cA sA : Nat} (hcA : cA + 20 ≤ 590000) (hsA : sA + 5000 ≤ 7000000) {k18 : Hs → Nat → Nat → Int32 → Option Int32} (hk18 : (∀ (σ : Hs) (xv1 : Nat) (xv2 : Nat) (xv3 : Int32) (H : Heap) (locs : List Loc) (ls : Array Slot), Hw E B s.heap σ H locs → lv_has ls 4 [(0, .ref bb), (1, .ref xv1), (2, .ref xv2), (3, .int xv3)] → k18 σ xv1 xv2 xv3 = some 1 → W p l e room_1 s m #[Value.ref bb] below meth c H locs (cA + 20) (sA + 5000) (lw_Z below #[Value.ref bb] s) (F0 m 18 ls []))) (σ : Hs) (xv1 : Nat) (xv2 : Nat) (xv3 : Int32) (H : Heap) (locs : List Loc) (ls : Array Slot) (hH : Hw E B s.heap σ H locs) (hl : lv_has ls 4 [(0, .ref bb), (1, .ref xv1), (2, .ref xv2), (3, .int xv3)]) (hf : fL_law_874 xs L k18 σ xv1 xv2 xv3 = some 1) : W p l e room_1 s m #[Value.ref bb] below meth c H locs cA sA (lw_Z below #[Value.ref bb] s) (F0 m 874 ls []) := by
  obtain ⟨⟨hx, hb, hml, hown, hts⟩, -, hBs, hEk⟩ := id C0
  unfold fL_law_874 at hf
  refine lv_aload_n hx hb dL_law_874 rfl (lv_at hl 1 rfl) ?_
  refine lv_aload_n hx hb dL_law_875 rfl (lv_at hl 0 rfl) ?_
  refine lv_iload_n hx hb dL_law_876 rfl (lv_at hl 3 rfl) ?_
  refine lv_iconst (v := 1) hx hb dL_law_877 (by decide) ?_
  refine lv_iadd hx hb dL_law_878 ?_
  obtain ⟨vq1, hvq1, hf⟩ := ob hf
  refine hw_sld hX hbl hbB C0 hH hvq1 dL_law_879 ?_
  refine lv_aload_n hx hb dL_law_880 rfl (lv_at hl 0 rfl) ?_
  refine lv_iload_n hx hb dL_law_881 rfl (lv_at hl 3 rfl) ?_
  refine lv_iconst (v := 2) hx hb dL_law_882 (by decide) ?_
  refine lv_iadd hx hb dL_law_883 ?_
  obtain ⟨vq2, hvq2, hf⟩ := ob hf
  refine hw_sld hX hbl hbB C0 hH hvq2 dL_law_884 ?_
  refine lv_aload_n hx hb dL_law_885 rfl (lv_at hl 0 rfl) ?_
  refine lv_iload_n hx hb dL_law_886 rfl (lv_at hl 3 rfl) ?_
  refine lv_iconst (v := 3) hx hb dL_law_887 (by decide) ?_
  refine lv_iadd hx hb dL_law_888 ?_
  obtain ⟨vq3, hvq3, hf⟩ := ob hf
  refine hw_sld hX hbl hbB C0 hH hvq3 dL_law_889 ?_
  refine lv_aload_n hx hb dL_law_890 rfl (lv_at hl 0 rfl) ?_
  refine lv_iload_n hx hb dL_law_891 rfl (lv_at hl 3 rfl) ?_
  refine lv_iconst (v := 4) hx hb dL_law_892 (by decide) ?_
  refine lv_iadd hx hb dL_law_893 ?_
  obtain ⟨vq4, hvq4, hf⟩ := ob hf
  refine hw_sld hX hbl hbB C0 hH hvq4 dL_law_894 ?_
  refine lv_aload_n hx hb dL_law_895 rfl (lv_at hl 0 rfl) ?_
  refine lv_iload_n hx hb dL_law_896 rfl (lv_at hl 3 rfl) ?_
  refine lv_iconst (v := 5) hx hb dL_law_897 (by decide) ?_
  refine lv_iadd hx hb dL_law_898 ?_
  obtain ⟨vq5, hvq5, hf⟩ := ob hf
  refine hw_sld hX hbl hbB C0 hH hvq5 dL_law_899 ?_
  obtain ⟨iq6, hiq6, hf⟩ := ob hf
  obtain ⟨vq7, hvq7, hf⟩ := ob hf
  refine hw_cV (st2 := [.int vq7.1]) [.int vq1, .int vq2, .int vq3, .int vq4, .int vq5] [] C0 hH yk_X11_notice yv_X11_notice lk_L_97 rfl (ctX11_notice hvq7) hiq6 rfl rfl rfl hl.1 (Nat.le_of_ble_eq_true rfl) dL_law_900 ⟨by decide, by decide⟩ ⟨Nat.le_trans (by omega) cl_ok, Nat.le_trans (by omega) sl_ok⟩ (fun H locs hH => ?_)
  refine lv_aload_n hx hb dL_law_903 rfl (lv_at hl 2 rfl) ?_
  refine lv_aload_n hx hb dL_law_904 rfl (lv_at hl 0 rfl) ?_
  refine lv_iload_n hx hb dL_law_905 rfl (lv_at hl 3 rfl) ?_
  refine lv_iconst (v := 1) hx hb dL_law_906 (by decide) ?_
  refine lv_iadd hx hb dL_law_907 ?_
  obtain ⟨vq8, hvq8, hf⟩ := ob hf
  refine hw_sld hX hbl hbB C0 hH hvq8 dL_law_908 ?_
  refine lv_aload_n hx hb dL_law_909 rfl (lv_at hl 0 rfl) ?_
  refine lv_iload_n hx hb dL_law_910 rfl (lv_at hl 3 rfl) ?_
  refine lv_iconst (v := 2) hx hb dL_law_911 (by decide) ?_
  refine lv_iadd hx hb dL_law_912 ?_
  obtain ⟨vq9, hvq9, hf⟩ := ob hf
  refine hw_sld hX hbl hbB C0 hH hvq9 dL_law_913 ?_
  refine lv_aload_n hx hb dL_law_914 rfl (lv_at hl 0 rfl) ?_
  refine lv_iload_n hx hb dL_law_915 rfl (lv_at hl 3 rfl) ?_
  refine lv_iconst (v := 3) hx hb dL_law_916 (by decide) ?_
  refine lv_iadd hx hb dL_law_917 ?_
  obtain ⟨vq10, hvq10, hf⟩ := ob hf
  refine hw_sld hX hbl hbB C0 hH hvq10 dL_law_918 ?_
  refine lv_aload_n hx hb dL_law_919 rfl (lv_at hl 0 rfl) ?_
  refine lv_iload_n hx hb dL_law_920 rfl (lv_at hl 3 rfl) ?_
  refine lv_iconst (v := 4) hx hb dL_law_921 (by decide) ?_
  refine lv_iadd hx hb dL_law_922 ?_
  obtain ⟨vq11, hvq11, hf⟩ := ob hf
  refine hw_sld hX hbl hbB C0 hH hvq11 dL_law_923 ?_
  refine lv_aload_n hx hb dL_law_924 rfl (lv_at hl 0 rfl) ?_
  refine lv_iload_n hx hb dL_law_925 rfl (lv_at hl 3 rfl) ?_
  refine lv_iconst (v := 5) hx hb dL_law_926 (by decide) ?_
  refine lv_iadd hx hb dL_law_927 ?_
  obtain ⟨vq12, hvq12, hf⟩ := ob hf
  refine hw_sld hX hbl hbB C0 hH hvq12 dL_law_928 ?_
  obtain ⟨iq13, hiq13, hf⟩ := ob hf
  obtain ⟨vq14, hvq14, hf⟩ := ob hf
  refine hw_cV (st2 := [.int vq14.1, .int vq7.1]) [.int vq8, .int vq9, .int vq10, .int vq11, .int vq12] [.int vq7.1] C0 hH yk_X12_notice yv_X12_notice lk_L_100 rfl (ctX12_notice hvq14) hiq13 rfl rfl rfl hl.1 (Nat.le_of_ble_eq_true rfl) dL_law_929 ⟨by decide, by decide⟩ ⟨Nat.le_trans (by omega) cl_ok, Nat.le_trans (by omega) sl_ok⟩ (fun H locs hH => ?_)
  refine lv_icmp_eq (tgt := 1472) hx hb dL_law_932 (by decide) (fun hc => ?_) (fun hc => ?_)
  · replace hf := if_t hf hc
    refine lv_iinc (v := xv3 + 6) (lv' := [(3, .int (xv3 + 6)), (0, .ref bb), (1, .ref xv1), (2, .ref xv2)]) hx hb dL_law_1472 hl (k := 3) rfl rfl (by decide) rfl (fun ls hl => ?_)
    refine lv_goto (tgt := 18) hx hb dL_law_1475 (by decide) ?_
    refine W.widen (k := cA + 20) (n := sA + 5000) (by omega) (by omega) ?_
    exact hk18 vq14.2 xv1 xv2 (xv3 + 6) H locs ls hH (lv_sub hl [1, 2, 3, 0] rfl) hf
  · replace hf := if_f hf hc
    refine lv_iconst (v := 0) hx hb dL_law_935 (by decide) ?_
    exact absurd (Option.some.inj hf) (by decide)
def fL_law_937 (xs : Nat → Int32) (L : Nat) (k18 : Hs → Nat → Nat → Int32 → Option Int32) (σ : Hs) (xv1 : Nat) (xv2 : Nat) (xv3 : Int32) : Option Int32 := (sc xs L (xv3 + 1)).bind fun vq1 => (sc xs L (xv3 + 2)).bind fun vq2 => (isC σ xv1 13).bind fun iq3 => (fX11_told_0 σ xv1 vq1 vq2).bind fun vq4 => (sc xs L (xv3 + 1)).bind fun vq5 => (sc xs L (xv3 + 2)).bind fun vq6 => (isC vq4.2 xv2 14).bind fun iq7 => (fX12_told__0 vq4.2 xv2 vq5 vq6).bind fun vq8 => if vq4.1 = vq8.1 then (k18 vq8.2 xv1 xv2 (xv3 + 6)) else (some 0)
set_option maxRecDepth 20000 in
theorem wL_law_937 {p : Program} {l : Launch} {e : Env} {s : State} {m : MethodId} {below : List Frame} {meth : Method} {c : Code} {E : Ev} {B bb L : Nat} {xs : Nat → Int32} (hX : va_X bb L xs s s.heap) (hbl : bb < s.heap.size) (hbB : bb < B) (hBe : B = s.heap.size) (C0 : Cx E B p s m #[Value.ref bb] meth c cL_law RL 4 (some .boolean)) {cA sA : Nat} (hcA : cA + 20 ≤ 590000) (hsA : sA + 5000 ≤ 7000000) {k18 : Hs → Nat → Nat → Int32 → Option Int32} (hk18 : (∀ (σ : Hs) (xv1 : Nat) (xv2 : Nat) (xv3 : Int32) (H : Heap) (locs : List Loc) (ls : Array Slot), Hw E B s.heap σ H locs → lv_has ls 4 [(0, .ref bb), (1, .ref xv1), (2, .ref xv2), (3, .int xv3)] → k18 σ xv1 xv2 xv3 = some 1 → W p l e room_1 s m #[Value.ref bb] below meth c H locs (cA + 20) (sA + 5000) (lw_Z below #[Value.ref bb] s) (F0 m 18 ls []))) (σ : Hs) (xv1 : Nat) (xv2 : Nat) (xv3 : Int32) (H : Heap) (locs : List Loc) (ls : Array Slot) (hH : Hw E B s.heap σ H locs) (hl : lv_has ls 4 [(0, .ref bb), (1, .ref xv1), (2, .ref xv2), (3, .int xv3)]) (hf : fL_law_937 xs L k18 σ xv1 xv2 xv3 = some 1) : W p l e room_1 s m #[Value.ref bb] below meth c H locs cA sA (lw_Z below #[Value.ref bb] s) (F0 m 937 ls []) := by
  obtain ⟨⟨hx, hb, hml, hown, hts⟩, -, hBs, hEk⟩ := id C0
  unfold fL_law_937 at hf
  refine lv_aload_n hx hb dL_law_937 rfl (lv_at hl 1 rfl) ?_
  refine lv_aload_n hx hb dL_law_938 rfl (lv_at hl 0 rfl) ?_
  refine lv_iload_n hx hb dL_law_939 rfl (lv_at hl 3 rfl) ?_
  refine lv_iconst (v := 1) hx hb dL_law_940 (by decide) ?_
  refine lv_iadd hx hb dL_law_941 ?_
  obtain ⟨vq1, hvq1, hf⟩ := ob hf
  refine hw_sld hX hbl hbB C0 hH hvq1 dL_law_942 ?_
  refine lv_aload_n hx hb dL_law_943 rfl (lv_at hl 0 rfl) ?_
  refine lv_iload_n hx hb dL_law_944 rfl (lv_at hl 3 rfl) ?_
  refine lv_iconst (v := 2) hx hb dL_law_945 (by decide) ?_
  refine lv_iadd hx hb dL_law_946 ?_
  obtain ⟨vq2, hvq2, hf⟩ := ob hf
  refine hw_sld hX hbl hbB C0 hH hvq2 dL_law_947 ?_
  obtain ⟨iq3, hiq3, hf⟩ := ob hf
  obtain ⟨vq4, hvq4, hf⟩ := ob hf
  refine hw_cV (st2 := [.int vq4.1]) [.int vq1, .int vq2] [] C0 hH yk_X11_told yv_X11_told lk_L_101 rfl (ctX11_told hvq4) hiq3 rfl rfl rfl hl.1 (Nat.le_of_ble_eq_true rfl) dL_law_948 ⟨by decide, by decide⟩ ⟨Nat.le_trans (by omega) cl_ok, Nat.le_trans (by omega) sl_ok⟩ (fun H locs hH => ?_)
  refine lv_aload_n hx hb dL_law_951 rfl (lv_at hl 2 rfl) ?_
  refine lv_aload_n hx hb dL_law_952 rfl (lv_at hl 0 rfl) ?_
  refine lv_iload_n hx hb dL_law_953 rfl (lv_at hl 3 rfl) ?_
  refine lv_iconst (v := 1) hx hb dL_law_954 (by decide) ?_
  refine lv_iadd hx hb dL_law_955 ?_
  obtain ⟨vq5, hvq5, hf⟩ := ob hf
  refine hw_sld hX hbl hbB C0 hH hvq5 dL_law_956 ?_
  refine lv_aload_n hx hb dL_law_957 rfl (lv_at hl 0 rfl) ?_
  refine lv_iload_n hx hb dL_law_958 rfl (lv_at hl 3 rfl) ?_
  refine lv_iconst (v := 2) hx hb dL_law_959 (by decide) ?_
  refine lv_iadd hx hb dL_law_960 ?_
  obtain ⟨vq6, hvq6, hf⟩ := ob hf
  refine hw_sld hX hbl hbB C0 hH hvq6 dL_law_961 ?_
  obtain ⟨iq7, hiq7, hf⟩ := ob hf
  obtain ⟨vq8, hvq8, hf⟩ := ob hf
  refine hw_cV (st2 := [.int vq8.1, .int vq4.1]) [.int vq5, .int vq6] [.int vq4.1] C0 hH yk_X12_told_ yv_X12_told_ lk_L_104 rfl (ctX12_told_ hvq8) hiq7 rfl rfl rfl hl.1 (Nat.le_of_ble_eq_true rfl) dL_law_962 ⟨by decide, by decide⟩ ⟨Nat.le_trans (by omega) cl_ok, Nat.le_trans (by omega) sl_ok⟩ (fun H locs hH => ?_)
  refine lv_icmp_eq (tgt := 1472) hx hb dL_law_965 (by decide) (fun hc => ?_) (fun hc => ?_)
  · replace hf := if_t hf hc
    refine lv_iinc (v := xv3 + 6) (lv' := [(3, .int (xv3 + 6)), (0, .ref bb), (1, .ref xv1), (2, .ref xv2)]) hx hb dL_law_1472 hl (k := 3) rfl rfl (by decide) rfl (fun ls hl => ?_)
    refine lv_goto (tgt := 18) hx hb dL_law_1475 (by decide) ?_
    refine W.widen (k := cA + 20) (n := sA + 5000) (by omega) (by omega) ?_
    exact hk18 vq8.2 xv1 xv2 (xv3 + 6) H locs ls hH (lv_sub hl [1, 2, 3, 0] rfl) hf
  · replace hf := if_f hf hc
    refine lv_iconst (v := 0) hx hb dL_law_968 (by decide) ?_
    exact absurd (Option.some.inj hf) (by decide)
def fL_law_970 (xs : Nat → Int32) (L : Nat) (k18 : Hs → Nat → Nat → Int32 → Option Int32) (σ : Hs) (xv1 : Nat) (xv2 : Nat) (xv3 : Int32) : Option Int32 := (sc xs L (xv3 + 1)).bind fun vq1 => (sc xs L (xv3 + 2)).bind fun vq2 => (isC σ xv1 13).bind fun iq3 => (fX11_table_0 σ xv1 vq1 vq2).bind fun vq4 => (sc xs L (xv3 + 1)).bind fun vq5 => (sc xs L (xv3 + 2)).bind fun vq6 => (isC vq4.2 xv2 14).bind fun iq7 => (fX12_table_0 vq4.2 xv2 vq5 vq6).bind fun vq8 => if vq4.1 = vq8.1 then (k18 vq8.2 xv1 xv2 (xv3 + 6)) else (some 0)
set_option maxRecDepth 20000 in
theorem wL_law_970 {p : Program} {l : Launch} {e : Env} {s : State} {m : MethodId} {below : List Frame} {meth : Method} {c : Code} {E : Ev} {B bb L : Nat} {xs : Nat → Int32} (hX : va_X bb L xs s s.heap) (hbl : bb < s.heap.size) (hbB : bb < B) (hBe : B = s.heap.size) (C0 : Cx E B p s m #[Value.ref bb] meth c cL_law RL 4 (some .boolean)) {cA sA : Nat} (hcA : cA + 20 ≤ 590000) (hsA : sA + 5000 ≤ 7000000) {k18 : Hs → Nat → Nat → Int32 → Option Int32} (hk18 : (∀ (σ : Hs) (xv1 : Nat) (xv2 : Nat) (xv3 : Int32) (H : Heap) (locs : List Loc) (ls : Array Slot), Hw E B s.heap σ H locs → lv_has ls 4 [(0, .ref bb), (1, .ref xv1), (2, .ref xv2), (3, .int xv3)] → k18 σ xv1 xv2 xv3 = some 1 → W p l e room_1 s m #[Value.ref bb] below meth c H locs (cA + 20) (sA + 5000) (lw_Z below #[Value.ref bb] s) (F0 m 18 ls []))) (σ : Hs) (xv1 : Nat) (xv2 : Nat) (xv3 : Int32) (H : Heap) (locs : List Loc) (ls : Array Slot) (hH : Hw E B s.heap σ H locs) (hl : lv_has ls 4 [(0, .ref bb), (1, .ref xv1), (2, .ref xv2), (3, .int xv3)]) (hf : fL_law_970 xs L k18 σ xv1 xv2 xv3 = some 1) : W p l e room_1 s m #[Value.ref bb] below meth c H locs cA sA (lw_Z below #[Value.ref bb] s) (F0 m 970 ls []) := by
  obtain ⟨⟨hx, hb, hml, hown, hts⟩, -, hBs, hEk⟩ := id C0
  unfold fL_law_970 at hf
  refine lv_aload_n hx hb dL_law_970 rfl (lv_at hl 1 rfl) ?_
  refine lv_aload_n hx hb dL_law_971 rfl (lv_at hl 0 rfl) ?_
  refine lv_iload_n hx hb dL_law_972 rfl (lv_at hl 3 rfl) ?_
  refine lv_iconst (v := 1) hx hb dL_law_973 (by decide) ?_
  refine lv_iadd hx hb dL_law_974 ?_
  obtain ⟨vq1, hvq1, hf⟩ := ob hf
  refine hw_sld hX hbl hbB C0 hH hvq1 dL_law_975 ?_
  refine lv_aload_n hx hb dL_law_976 rfl (lv_at hl 0 rfl) ?_
  refine lv_iload_n hx hb dL_law_977 rfl (lv_at hl 3 rfl) ?_
  refine lv_iconst (v := 2) hx hb dL_law_978 (by decide) ?_
  refine lv_iadd hx hb dL_law_979 ?_
  obtain ⟨vq2, hvq2, hf⟩ := ob hf
  refine hw_sld hX hbl hbB C0 hH hvq2 dL_law_980 ?_
  obtain ⟨iq3, hiq3, hf⟩ := ob hf
  obtain ⟨vq4, hvq4, hf⟩ := ob hf
  refine hw_cV (st2 := [.int vq4.1]) [.int vq1, .int vq2] [] C0 hH yk_X11_table yv_X11_table lk_L_105 rfl (ctX11_table hvq4) hiq3 rfl rfl rfl hl.1 (Nat.le_of_ble_eq_true rfl) dL_law_981 ⟨by decide, by decide⟩ ⟨Nat.le_trans (by omega) cl_ok, Nat.le_trans (by omega) sl_ok⟩ (fun H locs hH => ?_)
  refine lv_aload_n hx hb dL_law_984 rfl (lv_at hl 2 rfl) ?_
  refine lv_aload_n hx hb dL_law_985 rfl (lv_at hl 0 rfl) ?_
  refine lv_iload_n hx hb dL_law_986 rfl (lv_at hl 3 rfl) ?_
  refine lv_iconst (v := 1) hx hb dL_law_987 (by decide) ?_
  refine lv_iadd hx hb dL_law_988 ?_
  obtain ⟨vq5, hvq5, hf⟩ := ob hf
  refine hw_sld hX hbl hbB C0 hH hvq5 dL_law_989 ?_
  refine lv_aload_n hx hb dL_law_990 rfl (lv_at hl 0 rfl) ?_
  refine lv_iload_n hx hb dL_law_991 rfl (lv_at hl 3 rfl) ?_
  refine lv_iconst (v := 2) hx hb dL_law_992 (by decide) ?_
  refine lv_iadd hx hb dL_law_993 ?_
  obtain ⟨vq6, hvq6, hf⟩ := ob hf
  refine hw_sld hX hbl hbB C0 hH hvq6 dL_law_994 ?_
  obtain ⟨iq7, hiq7, hf⟩ := ob hf
  obtain ⟨vq8, hvq8, hf⟩ := ob hf
  refine hw_cV (st2 := [.int vq8.1, .int vq4.1]) [.int vq5, .int vq6] [.int vq4.1] C0 hH yk_X12_table yv_X12_table lk_L_108 rfl (ctX12_table hvq8) hiq7 rfl rfl rfl hl.1 (Nat.le_of_ble_eq_true rfl) dL_law_995 ⟨by decide, by decide⟩ ⟨Nat.le_trans (by omega) cl_ok, Nat.le_trans (by omega) sl_ok⟩ (fun H locs hH => ?_)
  refine lv_icmp_eq (tgt := 1472) hx hb dL_law_998 (by decide) (fun hc => ?_) (fun hc => ?_)
  · replace hf := if_t hf hc
    refine lv_iinc (v := xv3 + 6) (lv' := [(3, .int (xv3 + 6)), (0, .ref bb), (1, .ref xv1), (2, .ref xv2)]) hx hb dL_law_1472 hl (k := 3) rfl rfl (by decide) rfl (fun ls hl => ?_)
    refine lv_goto (tgt := 18) hx hb dL_law_1475 (by decide) ?_
    refine W.widen (k := cA + 20) (n := sA + 5000) (by omega) (by omega) ?_
    exact hk18 vq8.2 xv1 xv2 (xv3 + 6) H locs ls hH (lv_sub hl [1, 2, 3, 0] rfl) hf
  · replace hf := if_f hf hc
    refine lv_iconst (v := 0) hx hb dL_law_1001 (by decide) ?_
    exact absurd (Option.some.inj hf) (by decide)
def fL_law_1003 (xs : Nat → Int32) (L : Nat) (k18 : Hs → Nat → Nat → Int32 → Option Int32) (σ : Hs) (xv1 : Nat) (xv2 : Nat) (xv3 : Int32) : Option Int32 := (sc xs L (xv3 + 1)).bind fun vq1 => (isC σ xv1 13).bind fun iq2 => (fX11_misses_0 σ xv1 vq1).bind fun vq3 => (sc xs L (xv3 + 1)).bind fun vq4 => (isC vq3.2 xv2 14).bind fun iq5 => (fX12_misses_0 vq3.2 xv2 vq4).bind fun vq6 => if vq3.1 = vq6.1 then (k18 vq6.2 xv1 xv2 (xv3 + 6)) else (some 0)
set_option maxRecDepth 20000 in
theorem wL_law_1003 {p : Program} {l : Launch} {e : Env} {s : State} {m : MethodId} {below : List Frame} {meth : Method} {c : Code} {E : Ev} {B bb L : Nat} {xs : Nat → Int32} (hX : va_X bb L xs s s.heap) (hbl : bb < s.heap.size) (hbB : bb < B) (hBe : B = s.heap.size) (C0 : Cx E B p s m #[Value.ref bb] meth c cL_law RL 4 (some .boolean)) {cA sA : Nat} (hcA : cA + 20 ≤ 590000) (hsA : sA + 5000 ≤ 7000000) {k18 : Hs → Nat → Nat → Int32 → Option Int32} (hk18 : (∀ (σ : Hs) (xv1 : Nat) (xv2 : Nat) (xv3 : Int32) (H : Heap) (locs : List Loc) (ls : Array Slot), Hw E B s.heap σ H locs → lv_has ls 4 [(0, .ref bb), (1, .ref xv1), (2, .ref xv2), (3, .int xv3)] → k18 σ xv1 xv2 xv3 = some 1 → W p l e room_1 s m #[Value.ref bb] below meth c H locs (cA + 20) (sA + 5000) (lw_Z below #[Value.ref bb] s) (F0 m 18 ls []))) (σ : Hs) (xv1 : Nat) (xv2 : Nat) (xv3 : Int32) (H : Heap) (locs : List Loc) (ls : Array Slot) (hH : Hw E B s.heap σ H locs) (hl : lv_has ls 4 [(0, .ref bb), (1, .ref xv1), (2, .ref xv2), (3, .int xv3)]) (hf : fL_law_1003 xs L k18 σ xv1 xv2 xv3 = some 1) : W p l e room_1 s m #[Value.ref bb] below meth c H locs cA sA (lw_Z below #[Value.ref bb] s) (F0 m 1003 ls []) := by
  obtain ⟨⟨hx, hb, hml, hown, hts⟩, -, hBs, hEk⟩ := id C0
  unfold fL_law_1003 at hf
  refine lv_aload_n hx hb dL_law_1003 rfl (lv_at hl 1 rfl) ?_
  refine lv_aload_n hx hb dL_law_1004 rfl (lv_at hl 0 rfl) ?_
  refine lv_iload_n hx hb dL_law_1005 rfl (lv_at hl 3 rfl) ?_
  refine lv_iconst (v := 1) hx hb dL_law_1006 (by decide) ?_
  refine lv_iadd hx hb dL_law_1007 ?_
  obtain ⟨vq1, hvq1, hf⟩ := ob hf
  refine hw_sld hX hbl hbB C0 hH hvq1 dL_law_1008 ?_
  obtain ⟨iq2, hiq2, hf⟩ := ob hf
  obtain ⟨vq3, hvq3, hf⟩ := ob hf
  refine hw_cV (st2 := [.int vq3.1]) [.int vq1] [] C0 hH yk_X11_misses yv_X11_misses lk_L_109 rfl (ctX11_misses hvq3) hiq2 rfl rfl rfl hl.1 (Nat.le_of_ble_eq_true rfl) dL_law_1009 ⟨by decide, by decide⟩ ⟨Nat.le_trans (by omega) cl_ok, Nat.le_trans (by omega) sl_ok⟩ (fun H locs hH => ?_)
  refine lv_aload_n hx hb dL_law_1012 rfl (lv_at hl 2 rfl) ?_
  refine lv_aload_n hx hb dL_law_1013 rfl (lv_at hl 0 rfl) ?_
  refine lv_iload_n hx hb dL_law_1014 rfl (lv_at hl 3 rfl) ?_
  refine lv_iconst (v := 1) hx hb dL_law_1015 (by decide) ?_
  refine lv_iadd hx hb dL_law_1016 ?_
  obtain ⟨vq4, hvq4, hf⟩ := ob hf
  refine hw_sld hX hbl hbB C0 hH hvq4 dL_law_1017 ?_
  obtain ⟨iq5, hiq5, hf⟩ := ob hf
  obtain ⟨vq6, hvq6, hf⟩ := ob hf
  refine hw_cV (st2 := [.int vq6.1, .int vq3.1]) [.int vq4] [.int vq3.1] C0 hH yk_X12_misses yv_X12_misses lk_L_112 rfl (ctX12_misses hvq6) hiq5 rfl rfl rfl hl.1 (Nat.le_of_ble_eq_true rfl) dL_law_1018 ⟨by decide, by decide⟩ ⟨Nat.le_trans (by omega) cl_ok, Nat.le_trans (by omega) sl_ok⟩ (fun H locs hH => ?_)
  refine lv_icmp_eq (tgt := 1472) hx hb dL_law_1021 (by decide) (fun hc => ?_) (fun hc => ?_)
  · replace hf := if_t hf hc
    refine lv_iinc (v := xv3 + 6) (lv' := [(3, .int (xv3 + 6)), (0, .ref bb), (1, .ref xv1), (2, .ref xv2)]) hx hb dL_law_1472 hl (k := 3) rfl rfl (by decide) rfl (fun ls hl => ?_)
    refine lv_goto (tgt := 18) hx hb dL_law_1475 (by decide) ?_
    refine W.widen (k := cA + 20) (n := sA + 5000) (by omega) (by omega) ?_
    exact hk18 vq6.2 xv1 xv2 (xv3 + 6) H locs ls hH (lv_sub hl [1, 2, 3, 0] rfl) hf
  · replace hf := if_f hf hc
    refine lv_iconst (v := 0) hx hb dL_law_1024 (by decide) ?_
    exact absurd (Option.some.inj hf) (by decide)
def fL_law_1026 (xs : Nat → Int32) (L : Nat) (k18 : Hs → Nat → Nat → Int32 → Option Int32) (σ : Hs) (xv1 : Nat) (xv2 : Nat) (xv3 : Int32) : Option Int32 := (sc xs L (xv3 + 1)).bind fun vq1 => (sc xs L (xv3 + 2)).bind fun vq2 => (isC σ xv1 13).bind fun iq3 => (fX11_stamp_0 σ xv1 vq1 vq2).bind fun vq4 => (sc xs L (xv3 + 1)).bind fun vq5 => (sc xs L (xv3 + 2)).bind fun vq6 => (isC vq4.2 xv2 14).bind fun iq7 => (fX12_stamp_0 vq4.2 xv2 vq5 vq6).bind fun vq8 => if vq4.1 = vq8.1 then (k18 vq8.2 xv1 xv2 (xv3 + 6)) else (some 0)
set_option maxRecDepth 20000 in
theorem wL_law_1026 {p : Program} {l : Launch} {e : Env} {s : State} {m : MethodId} {below : List Frame} {meth : Method} {c : Code} {E : Ev} {B bb L : Nat} {xs : Nat → Int32} (hX : va_X bb L xs s s.heap) (hbl : bb < s.heap.size) (hbB : bb < B) (hBe : B = s.heap.size) (C0 : Cx E B p s m #[Value.ref bb] meth c cL_law RL 4 (some .boolean)) {cA sA : Nat} (hcA : cA + 20 ≤ 590000) (hsA : sA + 5000 ≤ 7000000) {k18 : Hs → Nat → Nat → Int32 → Option Int32} (hk18 : (∀ (σ : Hs) (xv1 : Nat) (xv2 : Nat) (xv3 : Int32) (H : Heap) (locs : List Loc) (ls : Array Slot), Hw E B s.heap σ H locs → lv_has ls 4 [(0, .ref bb), (1, .ref xv1), (2, .ref xv2), (3, .int xv3)] → k18 σ xv1 xv2 xv3 = some 1 → W p l e room_1 s m #[Value.ref bb] below meth c H locs (cA + 20) (sA + 5000) (lw_Z below #[Value.ref bb] s) (F0 m 18 ls []))) (σ : Hs) (xv1 : Nat) (xv2 : Nat) (xv3 : Int32) (H : Heap) (locs : List Loc) (ls : Array Slot) (hH : Hw E B s.heap σ H locs) (hl : lv_has ls 4 [(0, .ref bb), (1, .ref xv1), (2, .ref xv2), (3, .int xv3)]) (hf : fL_law_1026 xs L k18 σ xv1 xv2 xv3 = some 1) : W p l e room_1 s m #[Value.ref bb] below meth c H locs cA sA (lw_Z below #[Value.ref bb] s) (F0 m 1026 ls []) := by
  obtain ⟨⟨hx, hb, hml, hown, hts⟩, -, hBs, hEk⟩ := id C0
  unfold fL_law_1026 at hf
  refine lv_aload_n hx hb dL_law_1026 rfl (lv_at hl 1 rfl) ?_
  refine lv_aload_n hx hb dL_law_1027 rfl (lv_at hl 0 rfl) ?_
  refine lv_iload_n hx hb dL_law_1028 rfl (lv_at hl 3 rfl) ?_
  refine lv_iconst (v := 1) hx hb dL_law_1029 (by decide) ?_
  refine lv_iadd hx hb dL_law_1030 ?_
  obtain ⟨vq1, hvq1, hf⟩ := ob hf
  refine hw_sld hX hbl hbB C0 hH hvq1 dL_law_1031 ?_
  refine lv_aload_n hx hb dL_law_1032 rfl (lv_at hl 0 rfl) ?_
  refine lv_iload_n hx hb dL_law_1033 rfl (lv_at hl 3 rfl) ?_
  refine lv_iconst (v := 2) hx hb dL_law_1034 (by decide) ?_
  refine lv_iadd hx hb dL_law_1035 ?_
  obtain ⟨vq2, hvq2, hf⟩ := ob hf
  refine hw_sld hX hbl hbB C0 hH hvq2 dL_law_1036 ?_
  obtain ⟨iq3, hiq3, hf⟩ := ob hf
  obtain ⟨vq4, hvq4, hf⟩ := ob hf
  refine hw_cV (st2 := [.int vq4.1]) [.int vq1, .int vq2] [] C0 hH yk_X11_stamp yv_X11_stamp lk_L_113 rfl (ctX11_stamp hvq4) hiq3 rfl rfl rfl hl.1 (Nat.le_of_ble_eq_true rfl) dL_law_1037 ⟨by decide, by decide⟩ ⟨Nat.le_trans (by omega) cl_ok, Nat.le_trans (by omega) sl_ok⟩ (fun H locs hH => ?_)
  refine lv_aload_n hx hb dL_law_1040 rfl (lv_at hl 2 rfl) ?_
  refine lv_aload_n hx hb dL_law_1041 rfl (lv_at hl 0 rfl) ?_
  refine lv_iload_n hx hb dL_law_1042 rfl (lv_at hl 3 rfl) ?_
  refine lv_iconst (v := 1) hx hb dL_law_1043 (by decide) ?_
  refine lv_iadd hx hb dL_law_1044 ?_
  obtain ⟨vq5, hvq5, hf⟩ := ob hf
  refine hw_sld hX hbl hbB C0 hH hvq5 dL_law_1045 ?_
  refine lv_aload_n hx hb dL_law_1046 rfl (lv_at hl 0 rfl) ?_
  refine lv_iload_n hx hb dL_law_1047 rfl (lv_at hl 3 rfl) ?_
  refine lv_iconst (v := 2) hx hb dL_law_1048 (by decide) ?_
  refine lv_iadd hx hb dL_law_1049 ?_
  obtain ⟨vq6, hvq6, hf⟩ := ob hf
  refine hw_sld hX hbl hbB C0 hH hvq6 dL_law_1050 ?_
  obtain ⟨iq7, hiq7, hf⟩ := ob hf
  obtain ⟨vq8, hvq8, hf⟩ := ob hf
  refine hw_cV (st2 := [.int vq8.1, .int vq4.1]) [.int vq5, .int vq6] [.int vq4.1] C0 hH yk_X12_stamp yv_X12_stamp lk_L_116 rfl (ctX12_stamp hvq8) hiq7 rfl rfl rfl hl.1 (Nat.le_of_ble_eq_true rfl) dL_law_1051 ⟨by decide, by decide⟩ ⟨Nat.le_trans (by omega) cl_ok, Nat.le_trans (by omega) sl_ok⟩ (fun H locs hH => ?_)
  refine lv_icmp_eq (tgt := 1472) hx hb dL_law_1054 (by decide) (fun hc => ?_) (fun hc => ?_)
  · replace hf := if_t hf hc
    refine lv_iinc (v := xv3 + 6) (lv' := [(3, .int (xv3 + 6)), (0, .ref bb), (1, .ref xv1), (2, .ref xv2)]) hx hb dL_law_1472 hl (k := 3) rfl rfl (by decide) rfl (fun ls hl => ?_)
    refine lv_goto (tgt := 18) hx hb dL_law_1475 (by decide) ?_
    refine W.widen (k := cA + 20) (n := sA + 5000) (by omega) (by omega) ?_
    exact hk18 vq8.2 xv1 xv2 (xv3 + 6) H locs ls hH (lv_sub hl [1, 2, 3, 0] rfl) hf
  · replace hf := if_f hf hc
    refine lv_iconst (v := 0) hx hb dL_law_1057 (by decide) ?_
    exact absurd (Option.some.inj hf) (by decide)
def fL_law_1059 (xs : Nat → Int32) (L : Nat) (k18 : Hs → Nat → Nat → Int32 → Option Int32) (σ : Hs) (xv1 : Nat) (xv2 : Nat) (xv3 : Int32) : Option Int32 := (isC σ xv1 13).bind fun iq1 => (fX11_wrong_0 σ xv1).bind fun vq2 => (isC vq2.2 xv2 14).bind fun iq3 => (fX12_wrong_0 vq2.2 xv2).bind fun vq4 => if vq2.1 = vq4.1 then (k18 vq4.2 xv1 xv2 (xv3 + 6)) else (some 0)
set_option maxRecDepth 20000 in
theorem wL_law_1059 {p : Program} {l : Launch} {e : Env} {s : State} {m : MethodId} {below : List Frame} {meth : Method} {c : Code} {E : Ev} {B bb L : Nat} {xs : Nat → Int32} (hX : va_X bb L xs s s.heap) (hbl : bb < s.heap.size) (hbB : bb < B) (hBe : B = s.heap.size) (C0 : Cx E B p s m #[Value.ref bb] meth c cL_law RL 4 (some .boolean)) {cA sA : Nat} (hcA : cA + 20 ≤ 590000) (hsA : sA + 5000 ≤ 7000000) {k18 : Hs → Nat → Nat → Int32 → Option Int32} (hk18 : (∀ (σ : Hs) (xv1 : Nat) (xv2 : Nat) (xv3 : Int32) (H : Heap) (locs : List Loc) (ls : Array Slot), Hw E B s.heap σ H locs → lv_has ls 4 [(0, .ref bb), (1, .ref xv1), (2, .ref xv2), (3, .int xv3)] → k18 σ xv1 xv2 xv3 = some 1 → W p l e room_1 s m #[Value.ref bb] below meth c H locs (cA + 20) (sA + 5000) (lw_Z below #[Value.ref bb] s) (F0 m 18 ls []))) (σ : Hs) (xv1 : Nat) (xv2 : Nat) (xv3 : Int32) (H : Heap) (locs : List Loc) (ls : Array Slot) (hH : Hw E B s.heap σ H locs) (hl : lv_has ls 4 [(0, .ref bb), (1, .ref xv1), (2, .ref xv2), (3, .int xv3)]) (hf : fL_law_1059 xs L k18 σ xv1 xv2 xv3 = some 1) : W p l e room_1 s m #[Value.ref bb] below meth c H locs cA sA (lw_Z below #[Value.ref bb] s) (F0 m 1059 ls []) := by
  obtain ⟨⟨hx, hb, hml, hown, hts⟩, -, hBs, hEk⟩ := id C0
  unfold fL_law_1059 at hf
  refine lv_aload_n hx hb dL_law_1059 rfl (lv_at hl 1 rfl) ?_
  obtain ⟨iq1, hiq1, hf⟩ := ob hf
  obtain ⟨vq2, hvq2, hf⟩ := ob hf
  refine hw_cV (st2 := [.int vq2.1]) [] [] C0 hH yk_X11_wrong yv_X11_wrong lk_L_117 rfl (ctX11_wrong hvq2) hiq1 rfl rfl rfl hl.1 (Nat.le_of_ble_eq_true rfl) dL_law_1060 ⟨by decide, by decide⟩ ⟨Nat.le_trans (by omega) cl_ok, Nat.le_trans (by omega) sl_ok⟩ (fun H locs hH => ?_)
  refine lv_aload_n hx hb dL_law_1063 rfl (lv_at hl 2 rfl) ?_
  obtain ⟨iq3, hiq3, hf⟩ := ob hf
  obtain ⟨vq4, hvq4, hf⟩ := ob hf
  refine hw_cV (st2 := [.int vq4.1, .int vq2.1]) [] [.int vq2.1] C0 hH yk_X12_wrong yv_X12_wrong lk_L_120 rfl (ctX12_wrong hvq4) hiq3 rfl rfl rfl hl.1 (Nat.le_of_ble_eq_true rfl) dL_law_1064 ⟨by decide, by decide⟩ ⟨Nat.le_trans (by omega) cl_ok, Nat.le_trans (by omega) sl_ok⟩ (fun H locs hH => ?_)
  refine lv_icmp_eq (tgt := 1472) hx hb dL_law_1067 (by decide) (fun hc => ?_) (fun hc => ?_)
  · replace hf := if_t hf hc
    refine lv_iinc (v := xv3 + 6) (lv' := [(3, .int (xv3 + 6)), (0, .ref bb), (1, .ref xv1), (2, .ref xv2)]) hx hb dL_law_1472 hl (k := 3) rfl rfl (by decide) rfl (fun ls hl => ?_)
    refine lv_goto (tgt := 18) hx hb dL_law_1475 (by decide) ?_
    refine W.widen (k := cA + 20) (n := sA + 5000) (by omega) (by omega) ?_
    exact hk18 vq4.2 xv1 xv2 (xv3 + 6) H locs ls hH (lv_sub hl [1, 2, 3, 0] rfl) hf
  · replace hf := if_f hf hc
    refine lv_iconst (v := 0) hx hb dL_law_1070 (by decide) ?_
    exact absurd (Option.some.inj hf) (by decide)
def fL_law_1072 (xs : Nat → Int32) (L : Nat) (k18 : Hs → Nat → Nat → Int32 → Option Int32) (σ : Hs) (xv1 : Nat) (xv2 : Nat) (xv3 : Int32) : Option Int32 := (sc xs L (xv3 + 1)).bind fun vq1 => (isC σ xv1 13).bind fun iq2 => (fX11_blamed_0 σ xv1 vq1).bind fun vq3 => (sc xs L (xv3 + 1)).bind fun vq4 => (isC vq3.2 xv2 14).bind fun iq5 => (fX12_blamed_0 vq3.2 xv2 vq4).bind fun vq6 => if vq3.1 = vq6.1 then (k18 vq6.2 xv1 xv2 (xv3 + 6)) else (some 0)
set_option maxRecDepth 20000 in
theorem wL_law_1072 {p : Program} {l : Launch} {e : Env} {s : State} {m : MethodId} {below : List Frame} {meth : Method} {c : Code} {E : Ev} {B bb L : Nat} {xs : Nat → Int32} (hX : va_X bb L xs s s.heap) (hbl : bb < s.heap.size) (hbB : bb < B) (hBe : B = s.heap.size) (C0 : Cx E B p s m #[Value.ref bb] meth c cL_law RL 4 (some .boolean)) {cA sA : Nat} (hcA : cA + 20 ≤ 590000) (hsA : sA + 5000 ≤ 7000000) {k18 : Hs → Nat → Nat → Int32 → Option Int32} (hk18 : (∀ (σ : Hs) (xv1 : Nat) (xv2 : Nat) (xv3 : Int32) (H : Heap) (locs : List Loc) (ls : Array Slot), Hw E B s.heap σ H locs → lv_has ls 4 [(0, .ref bb), (1, .ref xv1), (2, .ref xv2), (3, .int xv3)] → k18 σ xv1 xv2 xv3 = some 1 → W p l e room_1 s m #[Value.ref bb] below meth c H locs (cA + 20) (sA + 5000) (lw_Z below #[Value.ref bb] s) (F0 m 18 ls []))) (σ : Hs) (xv1 : Nat) (xv2 : Nat) (xv3 : Int32) (H : Heap) (locs : List Loc) (ls : Array Slot) (hH : Hw E B s.heap σ H locs) (hl : lv_has ls 4 [(0, .ref bb), (1, .ref xv1), (2, .ref xv2), (3, .int xv3)]) (hf : fL_law_1072 xs L k18 σ xv1 xv2 xv3 = some 1) : W p l e room_1 s m #[Value.ref bb] below meth c H locs cA sA (lw_Z below #[Value.ref bb] s) (F0 m 1072 ls []) := by
  obtain ⟨⟨hx, hb, hml, hown, hts⟩, -, hBs, hEk⟩ := id C0
  unfold fL_law_1072 at hf
  refine lv_aload_n hx hb dL_law_1072 rfl (lv_at hl 1 rfl) ?_
  refine lv_aload_n hx hb dL_law_1073 rfl (lv_at hl 0 rfl) ?_
  refine lv_iload_n hx hb dL_law_1074 rfl (lv_at hl 3 rfl) ?_
  refine lv_iconst (v := 1) hx hb dL_law_1075 (by decide) ?_
  refine lv_iadd hx hb dL_law_1076 ?_
  obtain ⟨vq1, hvq1, hf⟩ := ob hf
  refine hw_sld hX hbl hbB C0 hH hvq1 dL_law_1077 ?_
  obtain ⟨iq2, hiq2, hf⟩ := ob hf
  obtain ⟨vq3, hvq3, hf⟩ := ob hf
  refine hw_cV (st2 := [.int vq3.1]) [.int vq1] [] C0 hH yk_X11_blamed yv_X11_blamed lk_L_121 rfl (ctX11_blamed hvq3) hiq2 rfl rfl rfl hl.1 (Nat.le_of_ble_eq_true rfl) dL_law_1078 ⟨by decide, by decide⟩ ⟨Nat.le_trans (by omega) cl_ok, Nat.le_trans (by omega) sl_ok⟩ (fun H locs hH => ?_)
  refine lv_aload_n hx hb dL_law_1081 rfl (lv_at hl 2 rfl) ?_
  refine lv_aload_n hx hb dL_law_1082 rfl (lv_at hl 0 rfl) ?_
  refine lv_iload_n hx hb dL_law_1083 rfl (lv_at hl 3 rfl) ?_
  refine lv_iconst (v := 1) hx hb dL_law_1084 (by decide) ?_
  refine lv_iadd hx hb dL_law_1085 ?_
  obtain ⟨vq4, hvq4, hf⟩ := ob hf
  refine hw_sld hX hbl hbB C0 hH hvq4 dL_law_1086 ?_
  obtain ⟨iq5, hiq5, hf⟩ := ob hf
  obtain ⟨vq6, hvq6, hf⟩ := ob hf
  refine hw_cV (st2 := [.int vq6.1, .int vq3.1]) [.int vq4] [.int vq3.1] C0 hH yk_X12_blamed yv_X12_blamed lk_L_124 rfl (ctX12_blamed hvq6) hiq5 rfl rfl rfl hl.1 (Nat.le_of_ble_eq_true rfl) dL_law_1087 ⟨by decide, by decide⟩ ⟨Nat.le_trans (by omega) cl_ok, Nat.le_trans (by omega) sl_ok⟩ (fun H locs hH => ?_)
  refine lv_icmp_eq (tgt := 1472) hx hb dL_law_1090 (by decide) (fun hc => ?_) (fun hc => ?_)
  · replace hf := if_t hf hc
    refine lv_iinc (v := xv3 + 6) (lv' := [(3, .int (xv3 + 6)), (0, .ref bb), (1, .ref xv1), (2, .ref xv2)]) hx hb dL_law_1472 hl (k := 3) rfl rfl (by decide) rfl (fun ls hl => ?_)
    refine lv_goto (tgt := 18) hx hb dL_law_1475 (by decide) ?_
    refine W.widen (k := cA + 20) (n := sA + 5000) (by omega) (by omega) ?_
    exact hk18 vq6.2 xv1 xv2 (xv3 + 6) H locs ls hH (lv_sub hl [1, 2, 3, 0] rfl) hf
  · replace hf := if_f hf hc
    refine lv_iconst (v := 0) hx hb dL_law_1093 (by decide) ?_
    exact absurd (Option.some.inj hf) (by decide)
def fL_law_1095 (xs : Nat → Int32) (L : Nat) (k18 : Hs → Nat → Nat → Int32 → Option Int32) (σ : Hs) (xv1 : Nat) (xv2 : Nat) (xv3 : Int32) : Option Int32 := (sc xs L (xv3 + 1)).bind fun vq1 => (isC σ xv1 13).bind fun iq2 => (fX11_program_0 σ xv1 vq1).bind fun vq3 => (sc xs L (xv3 + 1)).bind fun vq4 => (isC vq3.2 xv2 14).bind fun iq5 => (fX12_program_0 vq3.2 xv2 vq4).bind fun vq6 => if vq3.1 = vq6.1 then (k18 vq6.2 xv1 xv2 (xv3 + 6)) else (some 0)
set_option maxRecDepth 20000 in
theorem wL_law_1095 {p : Program} {l : Launch} {e : Env} {s : State} {m : MethodId} {below : List Frame} {meth : Method} {c : Code} {E : Ev} {B bb L : Nat} {xs : Nat → Int32} (hX : va_X bb L xs s s.heap) (hbl : bb < s.heap.size) (hbB : bb < B) (hBe : B = s.heap.size) (C0 : Cx E B p s m #[Value.ref bb] meth c cL_law RL 4 (some .boolean)) {cA sA : Nat} (hcA : cA + 20 ≤ 590000) (hsA : sA + 5000 ≤ 7000000) {k18 : Hs → Nat → Nat → Int32 → Option Int32} (hk18 : (∀ (σ : Hs) (xv1 : Nat) (xv2 : Nat) (xv3 : Int32) (H : Heap) (locs : List Loc) (ls : Array Slot), Hw E B s.heap σ H locs → lv_has ls 4 [(0, .ref bb), (1, .ref xv1), (2, .ref xv2), (3, .int xv3)] → k18 σ xv1 xv2 xv3 = some 1 → W p l e room_1 s m #[Value.ref bb] below meth c H locs (cA + 20) (sA + 5000) (lw_Z below #[Value.ref bb] s) (F0 m 18 ls []))) (σ : Hs) (xv1 : Nat) (xv2 : Nat) (xv3 : Int32) (H : Heap) (locs : List Loc) (ls : Array Slot) (hH : Hw E B s.heap σ H locs) (hl : lv_has ls 4 [(0, .ref bb), (1, .ref xv1), (2, .ref xv2), (3, .int xv3)]) (hf : fL_law_1095 xs L k18 σ xv1 xv2 xv3 = some 1) : W p l e room_1 s m #[Value.ref bb] below meth c H locs cA sA (lw_Z below #[Value.ref bb] s) (F0 m 1095 ls []) := by
  obtain ⟨⟨hx, hb, hml, hown, hts⟩, -, hBs, hEk⟩ := id C0
  unfold fL_law_1095 at hf
  refine lv_aload_n hx hb dL_law_1095 rfl (lv_at hl 1 rfl) ?_
  refine lv_aload_n hx hb dL_law_1096 rfl (lv_at hl 0 rfl) ?_
  refine lv_iload_n hx hb dL_law_1097 rfl (lv_at hl 3 rfl) ?_
  refine lv_iconst (v := 1) hx hb dL_law_1098 (by decide) ?_
  refine lv_iadd hx hb dL_law_1099 ?_
  obtain ⟨vq1, hvq1, hf⟩ := ob hf
  refine hw_sld hX hbl hbB C0 hH hvq1 dL_law_1100 ?_
  obtain ⟨iq2, hiq2, hf⟩ := ob hf
  obtain ⟨vq3, hvq3, hf⟩ := ob hf
  refine hw_cV (st2 := [.int vq3.1]) [.int vq1] [] C0 hH yk_X11_program yv_X11_program lk_L_125 rfl (ctX11_program hvq3) hiq2 rfl rfl rfl hl.1 (Nat.le_of_ble_eq_true rfl) dL_law_1101 ⟨by decide, by decide⟩ ⟨Nat.le_trans (by omega) cl_ok, Nat.le_trans (by omega) sl_ok⟩ (fun H locs hH => ?_)
  refine lv_aload_n hx hb dL_law_1104 rfl (lv_at hl 2 rfl) ?_
  refine lv_aload_n hx hb dL_law_1105 rfl (lv_at hl 0 rfl) ?_
  refine lv_iload_n hx hb dL_law_1106 rfl (lv_at hl 3 rfl) ?_
  refine lv_iconst (v := 1) hx hb dL_law_1107 (by decide) ?_
  refine lv_iadd hx hb dL_law_1108 ?_
  obtain ⟨vq4, hvq4, hf⟩ := ob hf
  refine hw_sld hX hbl hbB C0 hH hvq4 dL_law_1109 ?_
  obtain ⟨iq5, hiq5, hf⟩ := ob hf
  obtain ⟨vq6, hvq6, hf⟩ := ob hf
  refine hw_cV (st2 := [.int vq6.1, .int vq3.1]) [.int vq4] [.int vq3.1] C0 hH yk_X12_program yv_X12_program lk_L_128 rfl (ctX12_program hvq6) hiq5 rfl rfl rfl hl.1 (Nat.le_of_ble_eq_true rfl) dL_law_1110 ⟨by decide, by decide⟩ ⟨Nat.le_trans (by omega) cl_ok, Nat.le_trans (by omega) sl_ok⟩ (fun H locs hH => ?_)
  refine lv_icmp_eq (tgt := 1472) hx hb dL_law_1113 (by decide) (fun hc => ?_) (fun hc => ?_)
  · replace hf := if_t hf hc
    refine lv_iinc (v := xv3 + 6) (lv' := [(3, .int (xv3 + 6)), (0, .ref bb), (1, .ref xv1), (2, .ref xv2)]) hx hb dL_law_1472 hl (k := 3) rfl rfl (by decide) rfl (fun ls hl => ?_)
    refine lv_goto (tgt := 18) hx hb dL_law_1475 (by decide) ?_
    refine W.widen (k := cA + 20) (n := sA + 5000) (by omega) (by omega) ?_
    exact hk18 vq6.2 xv1 xv2 (xv3 + 6) H locs ls hH (lv_sub hl [1, 2, 3, 0] rfl) hf
  · replace hf := if_f hf hc
    refine lv_iconst (v := 0) hx hb dL_law_1116 (by decide) ?_
    exact absurd (Option.some.inj hf) (by decide)
def fL_law_1118 (xs : Nat → Int32) (L : Nat) (k18 : Hs → Nat → Nat → Int32 → Option Int32) (σ : Hs) (xv1 : Nat) (xv2 : Nat) (xv3 : Int32) : Option Int32 := (sc xs L (xv3 + 1)).bind fun vq1 => (sc xs L (xv3 + 2)).bind fun vq2 => (isC σ xv1 13).bind fun iq3 => (fX11_run_0 σ xv1 vq1 vq2).bind fun vq4 => (sc xs L (xv3 + 1)).bind fun vq5 => (sc xs L (xv3 + 2)).bind fun vq6 => (isC vq4.2 xv2 14).bind fun iq7 => (fX12_run_0 vq4.2 xv2 vq5 vq6).bind fun vq8 => if vq4.1 = vq8.1 then (k18 vq8.2 xv1 xv2 (xv3 + 6)) else (some 0)
set_option maxRecDepth 20000 in
theorem wL_law_1118 {p : Program} {l : Launch} {e : Env} {s : State} {m : MethodId} {below : List Frame} {meth : Method} {c : Code} {E : Ev} {B bb L : Nat} {xs : Nat → Int32} (hX : va_X bb L xs s s.heap) (hbl : bb < s.heap.size) (hbB : bb < B) (hBe : B = s.heap.size) (C0 : Cx E B p s m #[Value.ref bb] meth c cL_law RL 4 (some .boolean)) {cA sA : Nat} (hcA : cA + 20 ≤ 590000) (hsA : sA + 5000 ≤ 7000000) {k18 : Hs → Nat → Nat → Int32 → Option Int32} (hk18 : (∀ (σ : Hs) (xv1 : Nat) (xv2 : Nat) (xv3 : Int32) (H : Heap) (locs : List Loc) (ls : Array Slot), Hw E B s.heap σ H locs → lv_has ls 4 [(0, .ref bb), (1, .ref xv1), (2, .ref xv2), (3, .int xv3)] → k18 σ xv1 xv2 xv3 = some 1 → W p l e room_1 s m #[Value.ref bb] below meth c H locs (cA + 20) (sA + 5000) (lw_Z below #[Value.ref bb] s) (F0 m 18 ls []))) (σ : Hs) (xv1 : Nat) (xv2 : Nat) (xv3 : Int32) (H : Heap) (locs : List Loc) (ls : Array Slot) (hH : Hw E B s.heap σ H locs) (hl : lv_has ls 4 [(0, .ref bb), (1, .ref xv1), (2, .ref xv2), (3, .int xv3)]) (hf : fL_law_1118 xs L k18 σ xv1 xv2 xv3 = some 1) : W p l e room_1 s m #[Value.ref bb] below meth c H locs cA sA (lw_Z below #[Value.ref bb] s) (F0 m 1118 ls []) := by
  obtain ⟨⟨hx, hb, hml, hown, hts⟩, -, hBs, hEk⟩ := id C0
  unfold fL_law_1118 at hf
  refine lv_aload_n hx hb dL_law_1118 rfl (lv_at hl 1 rfl) ?_
  refine lv_aload_n hx hb dL_law_1119 rfl (lv_at hl 0 rfl) ?_
  refine lv_iload_n hx hb dL_law_1120 rfl (lv_at hl 3 rfl) ?_
  refine lv_iconst (v := 1) hx hb dL_law_1121 (by decide) ?_
  refine lv_iadd hx hb dL_law_1122 ?_
  obtain ⟨vq1, hvq1, hf⟩ := ob hf
  refine hw_sld hX hbl hbB C0 hH hvq1 dL_law_1123 ?_
  refine lv_aload_n hx hb dL_law_1124 rfl (lv_at hl 0 rfl) ?_
  refine lv_iload_n hx hb dL_law_1125 rfl (lv_at hl 3 rfl) ?_
  refine lv_iconst (v := 2) hx hb dL_law_1126 (by decide) ?_
  refine lv_iadd hx hb dL_law_1127 ?_
  obtain ⟨vq2, hvq2, hf⟩ := ob hf
  refine hw_sld hX hbl hbB C0 hH hvq2 dL_law_1128 ?_
  obtain ⟨iq3, hiq3, hf⟩ := ob hf
  obtain ⟨vq4, hvq4, hf⟩ := ob hf
  refine hw_cV (st2 := [.int vq4.1]) [.int vq1, .int vq2] [] C0 hH yk_X11_run yv_X11_run lk_L_129 rfl (ctX11_run hvq4) hiq3 rfl rfl rfl hl.1 (Nat.le_of_ble_eq_true rfl) dL_law_1129 ⟨by decide, by decide⟩ ⟨Nat.le_trans (by omega) cl_ok, Nat.le_trans (by omega) sl_ok⟩ (fun H locs hH => ?_)
  refine lv_aload_n hx hb dL_law_1132 rfl (lv_at hl 2 rfl) ?_
  refine lv_aload_n hx hb dL_law_1133 rfl (lv_at hl 0 rfl) ?_
  refine lv_iload_n hx hb dL_law_1134 rfl (lv_at hl 3 rfl) ?_
  refine lv_iconst (v := 1) hx hb dL_law_1135 (by decide) ?_
  refine lv_iadd hx hb dL_law_1136 ?_
  obtain ⟨vq5, hvq5, hf⟩ := ob hf
  refine hw_sld hX hbl hbB C0 hH hvq5 dL_law_1137 ?_
  refine lv_aload_n hx hb dL_law_1138 rfl (lv_at hl 0 rfl) ?_
  refine lv_iload_n hx hb dL_law_1139 rfl (lv_at hl 3 rfl) ?_
  refine lv_iconst (v := 2) hx hb dL_law_1140 (by decide) ?_
  refine lv_iadd hx hb dL_law_1141 ?_
  obtain ⟨vq6, hvq6, hf⟩ := ob hf
  refine hw_sld hX hbl hbB C0 hH hvq6 dL_law_1142 ?_
  obtain ⟨iq7, hiq7, hf⟩ := ob hf
  obtain ⟨vq8, hvq8, hf⟩ := ob hf
  refine hw_cV (st2 := [.int vq8.1, .int vq4.1]) [.int vq5, .int vq6] [.int vq4.1] C0 hH yk_X12_run yv_X12_run lk_L_132 rfl (ctX12_run hvq8) hiq7 rfl rfl rfl hl.1 (Nat.le_of_ble_eq_true rfl) dL_law_1143 ⟨by decide, by decide⟩ ⟨Nat.le_trans (by omega) cl_ok, Nat.le_trans (by omega) sl_ok⟩ (fun H locs hH => ?_)
  refine lv_icmp_eq (tgt := 1472) hx hb dL_law_1146 (by decide) (fun hc => ?_) (fun hc => ?_)
  · replace hf := if_t hf hc
    refine lv_iinc (v := xv3 + 6) (lv' := [(3, .int (xv3 + 6)), (0, .ref bb), (1, .ref xv1), (2, .ref xv2)]) hx hb dL_law_1472 hl (k := 3) rfl rfl (by decide) rfl (fun ls hl => ?_)
    refine lv_goto (tgt := 18) hx hb dL_law_1475 (by decide) ?_
    refine W.widen (k := cA + 20) (n := sA + 5000) (by omega) (by omega) ?_
    exact hk18 vq8.2 xv1 xv2 (xv3 + 6) H locs ls hH (lv_sub hl [1, 2, 3, 0] rfl) hf
  · replace hf := if_f hf hc
    refine lv_iconst (v := 0) hx hb dL_law_1149 (by decide) ?_
    exact absurd (Option.some.inj hf) (by decide)
def fL_law_1151 (xs : Nat → Int32) (L : Nat) (k18 : Hs → Nat → Nat → Int32 → Option Int32) (σ : Hs) (xv1 : Nat) (xv2 : Nat) (xv3 : Int32) : Option Int32 := (sc xs L (xv3 + 1)).bind fun vq1 => (isC σ xv1 13).bind fun iq2 => (fX11_ran_0 σ xv1 vq1).bind fun vq3 => (sc xs L (xv3 + 1)).bind fun vq4 => (isC vq3.2 xv2 14).bind fun iq5 => (fX12_ran_0 vq3.2 xv2 vq4).bind fun vq6 => if vq3.1 = vq6.1 then (k18 vq6.2 xv1 xv2 (xv3 + 6)) else (some 0)
set_option maxRecDepth 20000 in
theorem wL_law_1151 {p : Program} {l : Launch} {e : Env} {s : State} {m : MethodId} {below : List Frame} {meth : Method} {c : Code} {E : Ev} {B bb L : Nat} {xs : Nat → Int32} (hX : va_X bb L xs s s.heap) (hbl : bb < s.heap.size) (hbB : bb < B) (hBe : B = s.heap.size) (C0 : Cx E B p s m #[Value.ref bb] meth c cL_law RL 4 (some .boolean)) {cA sA : Nat} (hcA : cA + 20 ≤ 590000) (hsA : sA + 5000 ≤ 7000000) {k18 : Hs → Nat → Nat → Int32 → Option Int32} (hk18 : (∀ (σ : Hs) (xv1 : Nat) (xv2 : Nat) (xv3 : Int32) (H : Heap) (locs : List Loc) (ls : Array Slot), Hw E B s.heap σ H locs → lv_has ls 4 [(0, .ref bb), (1, .ref xv1), (2, .ref xv2), (3, .int xv3)] → k18 σ xv1 xv2 xv3 = some 1 → W p l e room_1 s m #[Value.ref bb] below meth c H locs (cA + 20) (sA + 5000) (lw_Z below #[Value.ref bb] s) (F0 m 18 ls []))) (σ : Hs) (xv1 : Nat) (xv2 : Nat) (xv3 : Int32) (H : Heap) (locs : List Loc) (ls : Array Slot) (hH : Hw E B s.heap σ H locs) (hl : lv_has ls 4 [(0, .ref bb), (1, .ref xv1), (2, .ref xv2), (3, .int xv3)]) (hf : fL_law_1151 xs L k18 σ xv1 xv2 xv3 = some 1) : W p l e room_1 s m #[Value.ref bb] below meth c H locs cA sA (lw_Z below #[Value.ref bb] s) (F0 m 1151 ls []) := by
  obtain ⟨⟨hx, hb, hml, hown, hts⟩, -, hBs, hEk⟩ := id C0
  unfold fL_law_1151 at hf
  refine lv_aload_n hx hb dL_law_1151 rfl (lv_at hl 1 rfl) ?_
  refine lv_aload_n hx hb dL_law_1152 rfl (lv_at hl 0 rfl) ?_
  refine lv_iload_n hx hb dL_law_1153 rfl (lv_at hl 3 rfl) ?_
  refine lv_iconst (v := 1) hx hb dL_law_1154 (by decide) ?_
  refine lv_iadd hx hb dL_law_1155 ?_
  obtain ⟨vq1, hvq1, hf⟩ := ob hf
  refine hw_sld hX hbl hbB C0 hH hvq1 dL_law_1156 ?_
  obtain ⟨iq2, hiq2, hf⟩ := ob hf
  obtain ⟨vq3, hvq3, hf⟩ := ob hf
  refine hw_cV (st2 := [.int vq3.1]) [.int vq1] [] C0 hH yk_X11_ran yv_X11_ran lk_L_133 rfl (ctX11_ran hvq3) hiq2 rfl rfl rfl hl.1 (Nat.le_of_ble_eq_true rfl) dL_law_1157 ⟨by decide, by decide⟩ ⟨Nat.le_trans (by omega) cl_ok, Nat.le_trans (by omega) sl_ok⟩ (fun H locs hH => ?_)
  refine lv_aload_n hx hb dL_law_1160 rfl (lv_at hl 2 rfl) ?_
  refine lv_aload_n hx hb dL_law_1161 rfl (lv_at hl 0 rfl) ?_
  refine lv_iload_n hx hb dL_law_1162 rfl (lv_at hl 3 rfl) ?_
  refine lv_iconst (v := 1) hx hb dL_law_1163 (by decide) ?_
  refine lv_iadd hx hb dL_law_1164 ?_
  obtain ⟨vq4, hvq4, hf⟩ := ob hf
  refine hw_sld hX hbl hbB C0 hH hvq4 dL_law_1165 ?_
  obtain ⟨iq5, hiq5, hf⟩ := ob hf
  obtain ⟨vq6, hvq6, hf⟩ := ob hf
  refine hw_cV (st2 := [.int vq6.1, .int vq3.1]) [.int vq4] [.int vq3.1] C0 hH yk_X12_ran yv_X12_ran lk_L_136 rfl (ctX12_ran hvq6) hiq5 rfl rfl rfl hl.1 (Nat.le_of_ble_eq_true rfl) dL_law_1166 ⟨by decide, by decide⟩ ⟨Nat.le_trans (by omega) cl_ok, Nat.le_trans (by omega) sl_ok⟩ (fun H locs hH => ?_)
  refine lv_icmp_eq (tgt := 1472) hx hb dL_law_1169 (by decide) (fun hc => ?_) (fun hc => ?_)
  · replace hf := if_t hf hc
    refine lv_iinc (v := xv3 + 6) (lv' := [(3, .int (xv3 + 6)), (0, .ref bb), (1, .ref xv1), (2, .ref xv2)]) hx hb dL_law_1472 hl (k := 3) rfl rfl (by decide) rfl (fun ls hl => ?_)
    refine lv_goto (tgt := 18) hx hb dL_law_1475 (by decide) ?_
    refine W.widen (k := cA + 20) (n := sA + 5000) (by omega) (by omega) ?_
    exact hk18 vq6.2 xv1 xv2 (xv3 + 6) H locs ls hH (lv_sub hl [1, 2, 3, 0] rfl) hf
  · replace hf := if_f hf hc
    refine lv_iconst (v := 0) hx hb dL_law_1172 (by decide) ?_
    exact absurd (Option.some.inj hf) (by decide)
def fL_law_1174 (xs : Nat → Int32) (L : Nat) (k18 : Hs → Nat → Nat → Int32 → Option Int32) (σ : Hs) (xv1 : Nat) (xv2 : Nat) (xv3 : Int32) : Option Int32 := (sc xs L (xv3 + 1)).bind fun vq1 => (isC σ xv1 13).bind fun iq2 => (fX11_kept_0 σ xv1 vq1).bind fun vq3 => (sc xs L (xv3 + 1)).bind fun vq4 => (isC vq3.2 xv2 14).bind fun iq5 => (fX12_kept_0 vq3.2 xv2 vq4).bind fun vq6 => if vq3.1 = vq6.1 then (k18 vq6.2 xv1 xv2 (xv3 + 6)) else (some 0)
set_option maxRecDepth 20000 in
theorem wL_law_1174 {p : Program} {l : Launch} {e : Env} {s : State} {m : MethodId} {below : List Frame} {meth : Method} {c : Code} {E : Ev} {B bb L : Nat} {xs : Nat → Int32} (hX : va_X bb L xs s s.heap) (hbl : bb < s.heap.size) (hbB : bb < B) (hBe : B = s.heap.size) (C0 : Cx E B p s m #[Value.ref bb] meth c cL_law RL 4 (some .boolean)) {cA sA : Nat} (hcA : cA + 20 ≤ 590000) (hsA : sA + 5000 ≤ 7000000) {k18 : Hs → Nat → Nat → Int32 → Option Int32} (hk18 : (∀ (σ : Hs) (xv1 : Nat) (xv2 : Nat) (xv3 : Int32) (H : Heap) (locs : List Loc) (ls : Array Slot), Hw E B s.heap σ H locs → lv_has ls 4 [(0, .ref bb), (1, .ref xv1), (2, .ref xv2), (3, .int xv3)] → k18 σ xv1 xv2 xv3 = some 1 → W p l e room_1 s m #[Value.ref bb] below meth c H locs (cA + 20) (sA + 5000) (lw_Z below #[Value.ref bb] s) (F0 m 18 ls []))) (σ : Hs) (xv1 : Nat) (xv2 : Nat) (xv3 : Int32) (H : Heap) (locs : List Loc) (ls : Array Slot) (hH : Hw E B s.heap σ H locs) (hl : lv_has ls 4 [(0, .ref bb), (1, .ref xv1), (2, .ref xv2), (3, .int xv3)]) (hf : fL_law_1174 xs L k18 σ xv1 xv2 xv3 = some 1) : W p l e room_1 s m #[Value.ref bb] below meth c H locs cA sA (lw_Z below #[Value.ref bb] s) (F0 m 1174 ls []) := by
  obtain ⟨⟨hx, hb, hml, hown, hts⟩, -, hBs, hEk⟩ := id C0
  unfold fL_law_1174 at hf
  refine lv_aload_n hx hb dL_law_1174 rfl (lv_at hl 1 rfl) ?_
  refine lv_aload_n hx hb dL_law_1175 rfl (lv_at hl 0 rfl) ?_
  refine lv_iload_n hx hb dL_law_1176 rfl (lv_at hl 3 rfl) ?_
  refine lv_iconst (v := 1) hx hb dL_law_1177 (by decide) ?_
  refine lv_iadd hx hb dL_law_1178 ?_
  obtain ⟨vq1, hvq1, hf⟩ := ob hf
  refine hw_sld hX hbl hbB C0 hH hvq1 dL_law_1179 ?_
  obtain ⟨iq2, hiq2, hf⟩ := ob hf
  obtain ⟨vq3, hvq3, hf⟩ := ob hf
  refine hw_cV (st2 := [.long vq3.1]) [.int vq1] [] C0 hH yk_X11_kept yv_X11_kept lk_L_137 rfl (ctX11_kept hvq3) hiq2 rfl rfl rfl hl.1 (Nat.le_of_ble_eq_true rfl) dL_law_1180 ⟨by decide, by decide⟩ ⟨Nat.le_trans (by omega) cl_ok, Nat.le_trans (by omega) sl_ok⟩ (fun H locs hH => ?_)
  refine lv_aload_n hx hb dL_law_1183 rfl (lv_at hl 2 rfl) ?_
  refine lv_aload_n hx hb dL_law_1184 rfl (lv_at hl 0 rfl) ?_
  refine lv_iload_n hx hb dL_law_1185 rfl (lv_at hl 3 rfl) ?_
  refine lv_iconst (v := 1) hx hb dL_law_1186 (by decide) ?_
  refine lv_iadd hx hb dL_law_1187 ?_
  obtain ⟨vq4, hvq4, hf⟩ := ob hf
  refine hw_sld hX hbl hbB C0 hH hvq4 dL_law_1188 ?_
  obtain ⟨iq5, hiq5, hf⟩ := ob hf
  obtain ⟨vq6, hvq6, hf⟩ := ob hf
  refine hw_cV (st2 := [.long vq6.1, .long vq3.1]) [.int vq4] [.long vq3.1] C0 hH yk_X12_kept yv_X12_kept lk_L_141 rfl (ctX12_kept hvq6) hiq5 rfl rfl rfl hl.1 (Nat.le_of_ble_eq_true rfl) dL_law_1189 ⟨by decide, by decide⟩ ⟨Nat.le_trans (by omega) cl_ok, Nat.le_trans (by omega) sl_ok⟩ (fun H locs hH => ?_)
  refine hw_leq (tgt := 1472) hx hb dL_law_1192 dL_law_1193 (by decide) (fun hc => ?_) (fun hc => ?_)
  · replace hf := if_t hf hc
    refine lv_iinc (v := xv3 + 6) (lv' := [(3, .int (xv3 + 6)), (0, .ref bb), (1, .ref xv1), (2, .ref xv2)]) hx hb dL_law_1472 hl (k := 3) rfl rfl (by decide) rfl (fun ls hl => ?_)
    refine lv_goto (tgt := 18) hx hb dL_law_1475 (by decide) ?_
    refine W.widen (k := cA + 20) (n := sA + 5000) (by omega) (by omega) ?_
    exact hk18 vq6.2 xv1 xv2 (xv3 + 6) H locs ls hH (lv_sub hl [1, 2, 3, 0] rfl) hf
  · replace hf := if_f hf hc
    refine lv_iconst (v := 0) hx hb dL_law_1196 (by decide) ?_
    exact absurd (Option.some.inj hf) (by decide)
def fL_law_1198 (xs : Nat → Int32) (L : Nat) (k18 : Hs → Nat → Nat → Int32 → Option Int32) (σ : Hs) (xv1 : Nat) (xv2 : Nat) (xv3 : Int32) : Option Int32 := (sc xs L (xv3 + 1)).bind fun vq1 => (sc xs L (xv3 + 2)).bind fun vq2 => (sc xs L (xv3 + 3)).bind fun vq3 => (isC σ xv1 13).bind fun iq4 => (fX11_answers_0 σ xv1 vq1 vq2 vq3).bind fun vq5 => (sc xs L (xv3 + 1)).bind fun vq6 => (sc xs L (xv3 + 2)).bind fun vq7 => (sc xs L (xv3 + 3)).bind fun vq8 => (isC vq5.2 xv2 14).bind fun iq9 => (fX12_answers_0 vq5.2 xv2 vq6 vq7 vq8).bind fun vq10 => if vq5.1 = vq10.1 then (k18 vq10.2 xv1 xv2 (xv3 + 6)) else (some 0)
set_option maxRecDepth 20000 in
theorem wL_law_1198 {p : Program} {l : Launch} {e : Env} {s : State} {m : MethodId} {below : List Frame} {meth : Method} {c : Code} {E : Ev} {B bb L : Nat} {xs : Nat → Int32} (hX : va_X bb L xs s s.heap) (hbl : bb < s.heap.size) (hbB : bb < B) (hBe : B = s.heap.size) (C0 : Cx E B p s m #[Value.ref bb] meth c cL_law RL 4 (some .boolean)) {cA sA : Nat} (hcA : cA + 20 ≤ 590000) (hsA : sA + 5000 ≤ 7000000) {k18 : Hs → Nat → Nat → Int32 → Option Int32} (hk18 : (∀ (σ : Hs) (xv1 : Nat) (xv2 : Nat) (xv3 : Int32) (H : Heap) (locs : List Loc) (ls : Array Slot), Hw E B s.heap σ H locs → lv_has ls 4 [(0, .ref bb), (1, .ref xv1), (2, .ref xv2), (3, .int xv3)] → k18 σ xv1 xv2 xv3 = some 1 → W p l e room_1 s m #[Value.ref bb] below meth c H locs (cA + 20) (sA + 5000) (lw_Z below #[Value.ref bb] s) (F0 m 18 ls []))) (σ : Hs) (xv1 : Nat) (xv2 : Nat) (xv3 : Int32) (H : Heap) (locs : List Loc) (ls : Array Slot) (hH : Hw E B s.heap σ H locs) (hl : lv_has ls 4 [(0, .ref bb), (1, .ref xv1), (2, .ref xv2), (3, .int xv3)]) (hf : fL_law_1198 xs L k18 σ xv1 xv2 xv3 = some 1) : W p l e room_1 s m #[Value.ref bb] below meth c H locs cA sA (lw_Z below #[Value.ref bb] s) (F0 m 1198 ls []) := by
  obtain ⟨⟨hx, hb, hml, hown, hts⟩, -, hBs, hEk⟩ := id C0
  unfold fL_law_1198 at hf
  refine lv_aload_n hx hb dL_law_1198 rfl (lv_at hl 1 rfl) ?_
  refine lv_aload_n hx hb dL_law_1199 rfl (lv_at hl 0 rfl) ?_
  refine lv_iload_n hx hb dL_law_1200 rfl (lv_at hl 3 rfl) ?_
  refine lv_iconst (v := 1) hx hb dL_law_1201 (by decide) ?_
  refine lv_iadd hx hb dL_law_1202 ?_
  obtain ⟨vq1, hvq1, hf⟩ := ob hf
  refine hw_sld hX hbl hbB C0 hH hvq1 dL_law_1203 ?_
  refine lv_aload_n hx hb dL_law_1204 rfl (lv_at hl 0 rfl) ?_
  refine lv_iload_n hx hb dL_law_1205 rfl (lv_at hl 3 rfl) ?_
  refine lv_iconst (v := 2) hx hb dL_law_1206 (by decide) ?_
  refine lv_iadd hx hb dL_law_1207 ?_
  obtain ⟨vq2, hvq2, hf⟩ := ob hf
  refine hw_sld hX hbl hbB C0 hH hvq2 dL_law_1208 ?_
  refine lv_aload_n hx hb dL_law_1209 rfl (lv_at hl 0 rfl) ?_
  refine lv_iload_n hx hb dL_law_1210 rfl (lv_at hl 3 rfl) ?_
  refine lv_iconst (v := 3) hx hb dL_law_1211 (by decide) ?_
  refine lv_iadd hx hb dL_law_1212 ?_
  obtain ⟨vq3, hvq3, hf⟩ := ob hf
  refine hw_sld hX hbl hbB C0 hH hvq3 dL_law_1213 ?_
  obtain ⟨iq4, hiq4, hf⟩ := ob hf
  obtain ⟨vq5, hvq5, hf⟩ := ob hf
  refine hw_cV (st2 := [.int vq5.1]) [.int vq1, .int vq2, .int vq3] [] C0 hH yk_X11_answers yv_X11_answers lk_L_142 rfl (ctX11_answers hvq5) hiq4 rfl rfl rfl hl.1 (Nat.le_of_ble_eq_true rfl) dL_law_1214 ⟨by decide, by decide⟩ ⟨Nat.le_trans (by omega) cl_ok, Nat.le_trans (by omega) sl_ok⟩ (fun H locs hH => ?_)
  refine lv_aload_n hx hb dL_law_1217 rfl (lv_at hl 2 rfl) ?_
  refine lv_aload_n hx hb dL_law_1218 rfl (lv_at hl 0 rfl) ?_
  refine lv_iload_n hx hb dL_law_1219 rfl (lv_at hl 3 rfl) ?_
  refine lv_iconst (v := 1) hx hb dL_law_1220 (by decide) ?_
  refine lv_iadd hx hb dL_law_1221 ?_
  obtain ⟨vq6, hvq6, hf⟩ := ob hf
  refine hw_sld hX hbl hbB C0 hH hvq6 dL_law_1222 ?_
  refine lv_aload_n hx hb dL_law_1223 rfl (lv_at hl 0 rfl) ?_
  refine lv_iload_n hx hb dL_law_1224 rfl (lv_at hl 3 rfl) ?_
  refine lv_iconst (v := 2) hx hb dL_law_1225 (by decide) ?_
  refine lv_iadd hx hb dL_law_1226 ?_
  obtain ⟨vq7, hvq7, hf⟩ := ob hf
  refine hw_sld hX hbl hbB C0 hH hvq7 dL_law_1227 ?_
  refine lv_aload_n hx hb dL_law_1228 rfl (lv_at hl 0 rfl) ?_
  refine lv_iload_n hx hb dL_law_1229 rfl (lv_at hl 3 rfl) ?_
  refine lv_iconst (v := 3) hx hb dL_law_1230 (by decide) ?_
  refine lv_iadd hx hb dL_law_1231 ?_
  obtain ⟨vq8, hvq8, hf⟩ := ob hf
  refine hw_sld hX hbl hbB C0 hH hvq8 dL_law_1232 ?_
  obtain ⟨iq9, hiq9, hf⟩ := ob hf
  obtain ⟨vq10, hvq10, hf⟩ := ob hf
  refine hw_cV (st2 := [.int vq10.1, .int vq5.1]) [.int vq6, .int vq7, .int vq8] [.int vq5.1] C0 hH yk_X12_answers yv_X12_answers lk_L_146 rfl (ctX12_answers hvq10) hiq9 rfl rfl rfl hl.1 (Nat.le_of_ble_eq_true rfl) dL_law_1233 ⟨by decide, by decide⟩ ⟨Nat.le_trans (by omega) cl_ok, Nat.le_trans (by omega) sl_ok⟩ (fun H locs hH => ?_)
  refine lv_icmp_eq (tgt := 1472) hx hb dL_law_1236 (by decide) (fun hc => ?_) (fun hc => ?_)
  · replace hf := if_t hf hc
    refine lv_iinc (v := xv3 + 6) (lv' := [(3, .int (xv3 + 6)), (0, .ref bb), (1, .ref xv1), (2, .ref xv2)]) hx hb dL_law_1472 hl (k := 3) rfl rfl (by decide) rfl (fun ls hl => ?_)
    refine lv_goto (tgt := 18) hx hb dL_law_1475 (by decide) ?_
    refine W.widen (k := cA + 20) (n := sA + 5000) (by omega) (by omega) ?_
    exact hk18 vq10.2 xv1 xv2 (xv3 + 6) H locs ls hH (lv_sub hl [1, 2, 3, 0] rfl) hf
  · replace hf := if_f hf hc
    refine lv_iconst (v := 0) hx hb dL_law_1239 (by decide) ?_
    exact absurd (Option.some.inj hf) (by decide)
def fL_law_1241 (xs : Nat → Int32) (L : Nat) (k18 : Hs → Nat → Nat → Int32 → Option Int32) (σ : Hs) (xv1 : Nat) (xv2 : Nat) (xv3 : Int32) : Option Int32 := (sc xs L (xv3 + 1)).bind fun vq1 => (isC σ xv1 13).bind fun iq2 => (fX11_span_0 σ xv1 vq1).bind fun vq3 => (sc xs L (xv3 + 1)).bind fun vq4 => (isC vq3.2 xv2 14).bind fun iq5 => (fX12_span_0 vq3.2 xv2 vq4).bind fun vq6 => if vq3.1 = vq6.1 then (k18 vq6.2 xv1 xv2 (xv3 + 6)) else (some 0)
set_option maxRecDepth 20000 in
theorem wL_law_1241 {p : Program} {l : Launch} {e : Env} {s : State} {m : MethodId} {below : List Frame} {meth : Method} {c : Code} {E : Ev} {B bb L : Nat} {xs : Nat → Int32} (hX : va_X bb L xs s s.heap) (hbl : bb < s.heap.size) (hbB : bb < B) (hBe : B = s.heap.size) (C0 : Cx E B p s m #[Value.ref bb] meth c cL_law RL 4 (some .boolean)) {cA sA : Nat} (hcA : cA + 20 ≤ 590000) (hsA : sA + 5000 ≤ 7000000) {k18 : Hs → Nat → Nat → Int32 → Option Int32} (hk18 : (∀ (σ : Hs) (xv1 : Nat) (xv2 : Nat) (xv3 : Int32) (H : Heap) (locs : List Loc) (ls : Array Slot), Hw E B s.heap σ H locs → lv_has ls 4 [(0, .ref bb), (1, .ref xv1), (2, .ref xv2), (3, .int xv3)] → k18 σ xv1 xv2 xv3 = some 1 → W p l e room_1 s m #[Value.ref bb] below meth c H locs (cA + 20) (sA + 5000) (lw_Z below #[Value.ref bb] s) (F0 m 18 ls []))) (σ : Hs) (xv1 : Nat) (xv2 : Nat) (xv3 : Int32) (H : Heap) (locs : List Loc) (ls : Array Slot) (hH : Hw E B s.heap σ H locs) (hl : lv_has ls 4 [(0, .ref bb), (1, .ref xv1), (2, .ref xv2), (3, .int xv3)]) (hf : fL_law_1241 xs L k18 σ xv1 xv2 xv3 = some 1) : W p l e room_1 s m #[Value.ref bb] below meth c H locs cA sA (lw_Z below #[Value.ref bb] s) (F0 m 1241 ls []) := by
  obtain ⟨⟨hx, hb, hml, hown, hts⟩, -, hBs, hEk⟩ := id C0
  unfold fL_law_1241 at hf
  refine lv_aload_n hx hb dL_law_1241 rfl (lv_at hl 1 rfl) ?_
  refine lv_aload_n hx hb dL_law_1242 rfl (lv_at hl 0 rfl) ?_
  refine lv_iload_n hx hb dL_law_1243 rfl (lv_at hl 3 rfl) ?_
  refine lv_iconst (v := 1) hx hb dL_law_1244 (by decide) ?_
  refine lv_iadd hx hb dL_law_1245 ?_
  obtain ⟨vq1, hvq1, hf⟩ := ob hf
  refine hw_sld hX hbl hbB C0 hH hvq1 dL_law_1246 ?_
  obtain ⟨iq2, hiq2, hf⟩ := ob hf
  obtain ⟨vq3, hvq3, hf⟩ := ob hf
  refine hw_cV (st2 := [.int vq3.1]) [.int vq1] [] C0 hH yk_X11_span yv_X11_span lk_L_147 rfl (ctX11_span hvq3) hiq2 rfl rfl rfl hl.1 (Nat.le_of_ble_eq_true rfl) dL_law_1247 ⟨by decide, by decide⟩ ⟨Nat.le_trans (by omega) cl_ok, Nat.le_trans (by omega) sl_ok⟩ (fun H locs hH => ?_)
  refine lv_aload_n hx hb dL_law_1250 rfl (lv_at hl 2 rfl) ?_
  refine lv_aload_n hx hb dL_law_1251 rfl (lv_at hl 0 rfl) ?_
  refine lv_iload_n hx hb dL_law_1252 rfl (lv_at hl 3 rfl) ?_
  refine lv_iconst (v := 1) hx hb dL_law_1253 (by decide) ?_
  refine lv_iadd hx hb dL_law_1254 ?_
  obtain ⟨vq4, hvq4, hf⟩ := ob hf
  refine hw_sld hX hbl hbB C0 hH hvq4 dL_law_1255 ?_
  obtain ⟨iq5, hiq5, hf⟩ := ob hf
  obtain ⟨vq6, hvq6, hf⟩ := ob hf
  refine hw_cV (st2 := [.int vq6.1, .int vq3.1]) [.int vq4] [.int vq3.1] C0 hH yk_X12_span yv_X12_span lk_L_150 rfl (ctX12_span hvq6) hiq5 rfl rfl rfl hl.1 (Nat.le_of_ble_eq_true rfl) dL_law_1256 ⟨by decide, by decide⟩ ⟨Nat.le_trans (by omega) cl_ok, Nat.le_trans (by omega) sl_ok⟩ (fun H locs hH => ?_)
  refine lv_icmp_eq (tgt := 1472) hx hb dL_law_1259 (by decide) (fun hc => ?_) (fun hc => ?_)
  · replace hf := if_t hf hc
    refine lv_iinc (v := xv3 + 6) (lv' := [(3, .int (xv3 + 6)), (0, .ref bb), (1, .ref xv1), (2, .ref xv2)]) hx hb dL_law_1472 hl (k := 3) rfl rfl (by decide) rfl (fun ls hl => ?_)
    refine lv_goto (tgt := 18) hx hb dL_law_1475 (by decide) ?_
    refine W.widen (k := cA + 20) (n := sA + 5000) (by omega) (by omega) ?_
    exact hk18 vq6.2 xv1 xv2 (xv3 + 6) H locs ls hH (lv_sub hl [1, 2, 3, 0] rfl) hf
  · replace hf := if_f hf hc
    refine lv_iconst (v := 0) hx hb dL_law_1262 (by decide) ?_
    exact absurd (Option.some.inj hf) (by decide)
def fL_law_1264 (xs : Nat → Int32) (L : Nat) (k18 : Hs → Nat → Nat → Int32 → Option Int32) (σ : Hs) (xv1 : Nat) (xv2 : Nat) (xv3 : Int32) : Option Int32 := (sc xs L (xv3 + 1)).bind fun vq1 => (isC σ xv1 13).bind fun iq2 => (fX11_lies_0 σ xv1 vq1).bind fun vq3 => (sc xs L (xv3 + 1)).bind fun vq4 => (isC vq3.2 xv2 14).bind fun iq5 => (fX12_lies_0 vq3.2 xv2 vq4).bind fun vq6 => if vq3.1 = vq6.1 then (k18 vq6.2 xv1 xv2 (xv3 + 6)) else (some 0)
set_option maxRecDepth 20000 in
theorem wL_law_1264 {p : Program} {l : Launch} {e : Env} {s : State} {m : MethodId} {below : List Frame} {meth : Method} {c : Code} {E : Ev} {B bb L : Nat} {xs : Nat → Int32} (hX : va_X bb L xs s s.heap) (hbl : bb < s.heap.size) (hbB : bb < B) (hBe : B = s.heap.size) (C0 : Cx E B p s m #[Value.ref bb] meth c cL_law RL 4 (some .boolean)) {cA sA : Nat} (hcA : cA + 20 ≤ 590000) (hsA : sA + 5000 ≤ 7000000) {k18 : Hs → Nat → Nat → Int32 → Option Int32} (hk18 : (∀ (σ : Hs) (xv1 : Nat) (xv2 : Nat) (xv3 : Int32) (H : Heap) (locs : List Loc) (ls : Array Slot), Hw E B s.heap σ H locs → lv_has ls 4 [(0, .ref bb), (1, .ref xv1), (2, .ref xv2), (3, .int xv3)] → k18 σ xv1 xv2 xv3 = some 1 → W p l e room_1 s m #[Value.ref bb] below meth c H locs (cA + 20) (sA + 5000) (lw_Z below #[Value.ref bb] s) (F0 m 18 ls []))) (σ : Hs) (xv1 : Nat) (xv2 : Nat) (xv3 : Int32) (H : Heap) (locs : List Loc) (ls : Array Slot) (hH : Hw E B s.heap σ H locs) (hl : lv_has ls 4 [(0, .ref bb), (1, .ref xv1), (2, .ref xv2), (3, .int xv3)]) (hf : fL_law_1264 xs L k18 σ xv1 xv2 xv3 = some 1) : W p l e room_1 s m #[Value.ref bb] below meth c H locs cA sA (lw_Z below #[Value.ref bb] s) (F0 m 1264 ls []) := by
  obtain ⟨⟨hx, hb, hml, hown, hts⟩, -, hBs, hEk⟩ := id C0
  unfold fL_law_1264 at hf
  refine lv_aload_n hx hb dL_law_1264 rfl (lv_at hl 1 rfl) ?_
  refine lv_aload_n hx hb dL_law_1265 rfl (lv_at hl 0 rfl) ?_
  refine lv_iload_n hx hb dL_law_1266 rfl (lv_at hl 3 rfl) ?_
  refine lv_iconst (v := 1) hx hb dL_law_1267 (by decide) ?_
  refine lv_iadd hx hb dL_law_1268 ?_
  obtain ⟨vq1, hvq1, hf⟩ := ob hf
  refine hw_sld hX hbl hbB C0 hH hvq1 dL_law_1269 ?_
  obtain ⟨iq2, hiq2, hf⟩ := ob hf
  obtain ⟨vq3, hvq3, hf⟩ := ob hf
  refine hw_cV (st2 := [.int vq3.1]) [.int vq1] [] C0 hH yk_X11_lies yv_X11_lies lk_L_151 rfl (ctX11_lies hvq3) hiq2 rfl rfl rfl hl.1 (Nat.le_of_ble_eq_true rfl) dL_law_1270 ⟨by decide, by decide⟩ ⟨Nat.le_trans (by omega) cl_ok, Nat.le_trans (by omega) sl_ok⟩ (fun H locs hH => ?_)
  refine lv_aload_n hx hb dL_law_1273 rfl (lv_at hl 2 rfl) ?_
  refine lv_aload_n hx hb dL_law_1274 rfl (lv_at hl 0 rfl) ?_
  refine lv_iload_n hx hb dL_law_1275 rfl (lv_at hl 3 rfl) ?_
  refine lv_iconst (v := 1) hx hb dL_law_1276 (by decide) ?_
  refine lv_iadd hx hb dL_law_1277 ?_
  obtain ⟨vq4, hvq4, hf⟩ := ob hf
  refine hw_sld hX hbl hbB C0 hH hvq4 dL_law_1278 ?_
  obtain ⟨iq5, hiq5, hf⟩ := ob hf
  obtain ⟨vq6, hvq6, hf⟩ := ob hf
  refine hw_cV (st2 := [.int vq6.1, .int vq3.1]) [.int vq4] [.int vq3.1] C0 hH yk_X12_lies yv_X12_lies lk_L_154 rfl (ctX12_lies hvq6) hiq5 rfl rfl rfl hl.1 (Nat.le_of_ble_eq_true rfl) dL_law_1279 ⟨by decide, by decide⟩ ⟨Nat.le_trans (by omega) cl_ok, Nat.le_trans (by omega) sl_ok⟩ (fun H locs hH => ?_)
  refine lv_icmp_eq (tgt := 1472) hx hb dL_law_1282 (by decide) (fun hc => ?_) (fun hc => ?_)
  · replace hf := if_t hf hc
    refine lv_iinc (v := xv3 + 6) (lv' := [(3, .int (xv3 + 6)), (0, .ref bb), (1, .ref xv1), (2, .ref xv2)]) hx hb dL_law_1472 hl (k := 3) rfl rfl (by decide) rfl (fun ls hl => ?_)
    refine lv_goto (tgt := 18) hx hb dL_law_1475 (by decide) ?_
    refine W.widen (k := cA + 20) (n := sA + 5000) (by omega) (by omega) ?_
    exact hk18 vq6.2 xv1 xv2 (xv3 + 6) H locs ls hH (lv_sub hl [1, 2, 3, 0] rfl) hf
  · replace hf := if_f hf hc
    refine lv_iconst (v := 0) hx hb dL_law_1285 (by decide) ?_
    exact absurd (Option.some.inj hf) (by decide)
def fL_law_1287 (xs : Nat → Int32) (L : Nat) (k18 : Hs → Nat → Nat → Int32 → Option Int32) (σ : Hs) (xv1 : Nat) (xv2 : Nat) (xv3 : Int32) : Option Int32 := (sc xs L (xv3 + 1)).bind fun vq1 => (sc xs L (xv3 + 2)).bind fun vq2 => (sc xs L (xv3 + 3)).bind fun vq3 => (isC σ xv1 13).bind fun iq4 => (fX11_find_0 σ xv1 vq1 vq2 vq3).bind fun vq5 => (sc xs L (xv3 + 1)).bind fun vq6 => (sc xs L (xv3 + 2)).bind fun vq7 => (sc xs L (xv3 + 3)).bind fun vq8 => (isC vq5.2 xv2 14).bind fun iq9 => (fX12_find_0 vq5.2 xv2 vq6 vq7 vq8).bind fun vq10 => if vq5.1 = vq10.1 then (k18 vq10.2 xv1 xv2 (xv3 + 6)) else (some 0)
set_option maxRecDepth 20000 in
theorem wL_law_1287 {p : Program} {l : Launch} {e : Env} {s : State} {m : MethodId} {below : List Frame} {meth : Method} {c : Code} {E : Ev} {B bb L : Nat} {xs : Nat → Int32} (hX : va_X bb L xs s s.heap) (hbl : bb < s.heap.size) (hbB : bb < B) (hBe : B = s.heap.size) (C0 : Cx E B p s m #[Value.ref bb] meth c cL_law RL 4 (some .boolean)) {cA sA : Nat} (hcA : cA + 20 ≤ 590000) (hsA : sA + 5000 ≤ 7000000) {k18 : Hs → Nat → Nat → Int32 → Option Int32} (hk18 : (∀ (σ : Hs) (xv1 : Nat) (xv2 : Nat) (xv3 : Int32) (H : Heap) (locs : List Loc) (ls : Array Slot), Hw E B s.heap σ H locs → lv_has ls 4 [(0, .ref bb), (1, .ref xv1), (2, .ref xv2), (3, .int xv3)] → k18 σ xv1 xv2 xv3 = some 1 → W p l e room_1 s m #[Value.ref bb] below meth c H locs (cA + 20) (sA + 5000) (lw_Z below #[Value.ref bb] s) (F0 m 18 ls []))) (σ : Hs) (xv1 : Nat) (xv2 : Nat) (xv3 : Int32) (H : Heap) (locs : List Loc) (ls : Array Slot) (hH : Hw E B s.heap σ H locs) (hl : lv_has ls 4 [(0, .ref bb), (1, .ref xv1), (2, .ref xv2), (3, .int xv3)]) (hf : fL_law_1287 xs L k18 σ xv1 xv2 xv3 = some 1) : W p l e room_1 s m #[Value.ref bb] below meth c H locs cA sA (lw_Z below #[Value.ref bb] s) (F0 m 1287 ls []) := by
  obtain ⟨⟨hx, hb, hml, hown, hts⟩, -, hBs, hEk⟩ := id C0
  unfold fL_law_1287 at hf
  refine lv_aload_n hx hb dL_law_1287 rfl (lv_at hl 1 rfl) ?_
  refine lv_aload_n hx hb dL_law_1288 rfl (lv_at hl 0 rfl) ?_
  refine lv_iload_n hx hb dL_law_1289 rfl (lv_at hl 3 rfl) ?_
  refine lv_iconst (v := 1) hx hb dL_law_1290 (by decide) ?_
  refine lv_iadd hx hb dL_law_1291 ?_
  obtain ⟨vq1, hvq1, hf⟩ := ob hf
  refine hw_sld hX hbl hbB C0 hH hvq1 dL_law_1292 ?_
  refine lv_aload_n hx hb dL_law_1293 rfl (lv_at hl 0 rfl) ?_
  refine lv_iload_n hx hb dL_law_1294 rfl (lv_at hl 3 rfl) ?_
  refine lv_iconst (v := 2) hx hb dL_law_1295 (by decide) ?_
  refine lv_iadd hx hb dL_law_1296 ?_
  obtain ⟨vq2, hvq2, hf⟩ := ob hf
  refine hw_sld hX hbl hbB C0 hH hvq2 dL_law_1297 ?_
  refine lv_aload_n hx hb dL_law_1298 rfl (lv_at hl 0 rfl) ?_
  refine lv_iload_n hx hb dL_law_1299 rfl (lv_at hl 3 rfl) ?_
  refine lv_iconst (v := 3) hx hb dL_law_1300 (by decide) ?_
  refine lv_iadd hx hb dL_law_1301 ?_
  obtain ⟨vq3, hvq3, hf⟩ := ob hf
  refine hw_sld hX hbl hbB C0 hH hvq3 dL_law_1302 ?_
  obtain ⟨iq4, hiq4, hf⟩ := ob hf
  obtain ⟨vq5, hvq5, hf⟩ := ob hf
  refine hw_cV (st2 := [.int vq5.1]) [.int vq1, .int vq2, .int vq3] [] C0 hH yk_X11_find yv_X11_find lk_L_155 rfl (ctX11_find hvq5) hiq4 rfl rfl rfl hl.1 (Nat.le_of_ble_eq_true rfl) dL_law_1303 ⟨by decide, by decide⟩ ⟨Nat.le_trans (by omega) cl_ok, Nat.le_trans (by omega) sl_ok⟩ (fun H locs hH => ?_)
  refine lv_aload_n hx hb dL_law_1306 rfl (lv_at hl 2 rfl) ?_
  refine lv_aload_n hx hb dL_law_1307 rfl (lv_at hl 0 rfl) ?_
  refine lv_iload_n hx hb dL_law_1308 rfl (lv_at hl 3 rfl) ?_
  refine lv_iconst (v := 1) hx hb dL_law_1309 (by decide) ?_
  refine lv_iadd hx hb dL_law_1310 ?_
  obtain ⟨vq6, hvq6, hf⟩ := ob hf
  refine hw_sld hX hbl hbB C0 hH hvq6 dL_law_1311 ?_
  refine lv_aload_n hx hb dL_law_1312 rfl (lv_at hl 0 rfl) ?_
  refine lv_iload_n hx hb dL_law_1313 rfl (lv_at hl 3 rfl) ?_
  refine lv_iconst (v := 2) hx hb dL_law_1314 (by decide) ?_
  refine lv_iadd hx hb dL_law_1315 ?_
  obtain ⟨vq7, hvq7, hf⟩ := ob hf
  refine hw_sld hX hbl hbB C0 hH hvq7 dL_law_1316 ?_
  refine lv_aload_n hx hb dL_law_1317 rfl (lv_at hl 0 rfl) ?_
  refine lv_iload_n hx hb dL_law_1318 rfl (lv_at hl 3 rfl) ?_
  refine lv_iconst (v := 3) hx hb dL_law_1319 (by decide) ?_
  refine lv_iadd hx hb dL_law_1320 ?_
  obtain ⟨vq8, hvq8, hf⟩ := ob hf
  refine hw_sld hX hbl hbB C0 hH hvq8 dL_law_1321 ?_
  obtain ⟨iq9, hiq9, hf⟩ := ob hf
  obtain ⟨vq10, hvq10, hf⟩ := ob hf
  refine hw_cV (st2 := [.int vq10.1, .int vq5.1]) [.int vq6, .int vq7, .int vq8] [.int vq5.1] C0 hH yk_X12_find yv_X12_find lk_L_158 rfl (ctX12_find hvq10) hiq9 rfl rfl rfl hl.1 (Nat.le_of_ble_eq_true rfl) dL_law_1322 ⟨by decide, by decide⟩ ⟨Nat.le_trans (by omega) cl_ok, Nat.le_trans (by omega) sl_ok⟩ (fun H locs hH => ?_)
  refine lv_icmp_eq (tgt := 1472) hx hb dL_law_1325 (by decide) (fun hc => ?_) (fun hc => ?_)
  · replace hf := if_t hf hc
    refine lv_iinc (v := xv3 + 6) (lv' := [(3, .int (xv3 + 6)), (0, .ref bb), (1, .ref xv1), (2, .ref xv2)]) hx hb dL_law_1472 hl (k := 3) rfl rfl (by decide) rfl (fun ls hl => ?_)
    refine lv_goto (tgt := 18) hx hb dL_law_1475 (by decide) ?_
    refine W.widen (k := cA + 20) (n := sA + 5000) (by omega) (by omega) ?_
    exact hk18 vq10.2 xv1 xv2 (xv3 + 6) H locs ls hH (lv_sub hl [1, 2, 3, 0] rfl) hf
  · replace hf := if_f hf hc
    refine lv_iconst (v := 0) hx hb dL_law_1328 (by decide) ?_
    exact absurd (Option.some.inj hf) (by decide)
def fL_law_1330 (xs : Nat → Int32) (L : Nat) (k18 : Hs → Nat → Nat → Int32 → Option Int32) (σ : Hs) (xv1 : Nat) (xv2 : Nat) (xv3 : Int32) : Option Int32 := (isC σ xv1 13).bind fun iq1 => (fX11_ask_0 σ xv1).bind fun vq2 => (isC vq2.2 xv2 14).bind fun iq3 => (fX12_ask_0 vq2.2 xv2).bind fun vq4 => if vq2.1 = vq4.1 then (k18 vq4.2 xv1 xv2 (xv3 + 6)) else (some 0)
set_option maxRecDepth 20000 in
theorem wL_law_1330 {p : Program} {l : Launch} {e : Env} {s : State} {m : MethodId} {below : List Frame} {meth : Method} {c : Code} {E : Ev} {B bb L : Nat} {xs : Nat → Int32} (hX : va_X bb L xs s s.heap) (hbl : bb < s.heap.size) (hbB : bb < B) (hBe : B = s.heap.size) (C0 : Cx E B p s m #[Value.ref bb] meth c cL_law RL 4 (some .boolean)) {cA sA : Nat} (hcA : cA + 20 ≤ 590000) (hsA : sA + 5000 ≤ 7000000) {k18 : Hs → Nat → Nat → Int32 → Option Int32} (hk18 : (∀ (σ : Hs) (xv1 : Nat) (xv2 : Nat) (xv3 : Int32) (H : Heap) (locs : List Loc) (ls : Array Slot), Hw E B s.heap σ H locs → lv_has ls 4 [(0, .ref bb), (1, .ref xv1), (2, .ref xv2), (3, .int xv3)] → k18 σ xv1 xv2 xv3 = some 1 → W p l e room_1 s m #[Value.ref bb] below meth c H locs (cA + 20) (sA + 5000) (lw_Z below #[Value.ref bb] s) (F0 m 18 ls []))) (σ : Hs) (xv1 : Nat) (xv2 : Nat) (xv3 : Int32) (H : Heap) (locs : List Loc) (ls : Array Slot) (hH : Hw E B s.heap σ H locs) (hl : lv_has ls 4 [(0, .ref bb), (1, .ref xv1), (2, .ref xv2), (3, .int xv3)]) (hf : fL_law_1330 xs L k18 σ xv1 xv2 xv3 = some 1) : W p l e room_1 s m #[Value.ref bb] below meth c H locs cA sA (lw_Z below #[Value.ref bb] s) (F0 m 1330 ls []) := by
  obtain ⟨⟨hx, hb, hml, hown, hts⟩, -, hBs, hEk⟩ := id C0
  unfold fL_law_1330 at hf
  refine lv_aload_n hx hb dL_law_1330 rfl (lv_at hl 1 rfl) ?_
  obtain ⟨iq1, hiq1, hf⟩ := ob hf
  obtain ⟨vq2, hvq2, hf⟩ := ob hf
  refine hw_cV (st2 := [.int vq2.1]) [] [] C0 hH yk_X11_ask yv_X11_ask lk_L_159 rfl (ctX11_ask hvq2) hiq1 rfl rfl rfl hl.1 (Nat.le_of_ble_eq_true rfl) dL_law_1331 ⟨by decide, by decide⟩ ⟨Nat.le_trans (by omega) cl_ok, Nat.le_trans (by omega) sl_ok⟩ (fun H locs hH => ?_)
  refine lv_aload_n hx hb dL_law_1334 rfl (lv_at hl 2 rfl) ?_
  obtain ⟨iq3, hiq3, hf⟩ := ob hf
  obtain ⟨vq4, hvq4, hf⟩ := ob hf
  refine hw_cV (st2 := [.int vq4.1, .int vq2.1]) [] [.int vq2.1] C0 hH yk_X12_ask yv_X12_ask lk_L_162 rfl (ctX12_ask hvq4) hiq3 rfl rfl rfl hl.1 (Nat.le_of_ble_eq_true rfl) dL_law_1335 ⟨by decide, by decide⟩ ⟨Nat.le_trans (by omega) cl_ok, Nat.le_trans (by omega) sl_ok⟩ (fun H locs hH => ?_)
  refine lv_icmp_eq (tgt := 1472) hx hb dL_law_1338 (by decide) (fun hc => ?_) (fun hc => ?_)
  · replace hf := if_t hf hc
    refine lv_iinc (v := xv3 + 6) (lv' := [(3, .int (xv3 + 6)), (0, .ref bb), (1, .ref xv1), (2, .ref xv2)]) hx hb dL_law_1472 hl (k := 3) rfl rfl (by decide) rfl (fun ls hl => ?_)
    refine lv_goto (tgt := 18) hx hb dL_law_1475 (by decide) ?_
    refine W.widen (k := cA + 20) (n := sA + 5000) (by omega) (by omega) ?_
    exact hk18 vq4.2 xv1 xv2 (xv3 + 6) H locs ls hH (lv_sub hl [1, 2, 3, 0] rfl) hf
  · replace hf := if_f hf hc
    refine lv_iconst (v := 0) hx hb dL_law_1341 (by decide) ?_
    exact absurd (Option.some.inj hf) (by decide)
def fL_law_1343 (xs : Nat → Int32) (L : Nat) (k18 : Hs → Nat → Nat → Int32 → Option Int32) (σ : Hs) (xv1 : Nat) (xv2 : Nat) (xv3 : Int32) : Option Int32 := (sc xs L (xv3 + 1)).bind fun vq1 => (sc xs L (xv3 + 2)).bind fun vq2 => (sc xs L (xv3 + 3)).bind fun vq3 => (sc xs L (xv3 + 4)).bind fun vq4 => (isC σ xv1 13).bind fun iq5 => (fX11_land_0 σ xv1 vq1 vq2 vq3 vq4).bind fun vq6 => (sc xs L (xv3 + 1)).bind fun vq7 => (sc xs L (xv3 + 2)).bind fun vq8 => (sc xs L (xv3 + 3)).bind fun vq9 => (sc xs L (xv3 + 4)).bind fun vq10 => (isC vq6.2 xv2 14).bind fun iq11 => (fX12_land_0 vq6.2 xv2 vq7 vq8 vq9 vq10).bind fun vq12 => if vq6.1 = vq12.1 then (k18 vq12.2 xv1 xv2 (xv3 + 6)) else (some 0)
set_option maxRecDepth 20000 in
theorem wL_law_1343 {p : Program} {l : Launch} {e : Env} {s : State} {m : MethodId} {below : List Frame} {meth : Method} {c : Code} {E : Ev} {B bb L : Nat} {xs : Nat → Int32} (hX : va_X bb L xs s s.heap) (hbl : bb < s.heap.size) (hbB : bb < B) (hBe : B = s.heap.size) (C0 : Cx E B p s m #[Value.ref bb] meth c cL_law RL 4 (some .boolean)) {cA sA : Nat} (hcA : cA + 20 ≤ 590000) (hsA : sA + 5000 ≤ 7000000) {k18 : Hs → Nat → Nat → Int32 → Option Int32} (hk18 : (∀ (σ : Hs) (xv1 : Nat) (xv2 : Nat) (xv3 : Int32) (H : Heap) (locs : List Loc) (ls : Array Slot), Hw E B s.heap σ H locs → lv_has ls 4 [(0, .ref bb), (1, .ref xv1), (2, .ref xv2), (3, .int xv3)] → k18 σ xv1 xv2 xv3 = some 1 → W p l e room_1 s m #[Value.ref bb] below meth c H locs (cA + 20) (sA + 5000) (lw_Z below #[Value.ref bb] s) (F0 m 18 ls []))) (σ : Hs) (xv1 : Nat) (xv2 : Nat) (xv3 : Int32) (H : Heap) (locs : List Loc) (ls : Array Slot) (hH : Hw E B s.heap σ H locs) (hl : lv_has ls 4 [(0, .ref bb), (1, .ref xv1), (2, .ref xv2), (3, .int xv3)]) (hf : fL_law_1343 xs L k18 σ xv1 xv2 xv3 = some 1) : W p l e room_1 s m #[Value.ref bb] below meth c H locs cA sA (lw_Z below #[Value.ref bb] s) (F0 m 1343 ls []) := by
  obtain ⟨⟨hx, hb, hml, hown, hts⟩, -, hBs, hEk⟩ := id C0
  unfold fL_law_1343 at hf
  refine lv_aload_n hx hb dL_law_1343 rfl (lv_at hl 1 rfl) ?_
  refine lv_aload_n hx hb dL_law_1344 rfl (lv_at hl 0 rfl) ?_
  refine lv_iload_n hx hb dL_law_1345 rfl (lv_at hl 3 rfl) ?_
  refine lv_iconst (v := 1) hx hb dL_law_1346 (by decide) ?_
  refine lv_iadd hx hb dL_law_1347 ?_
  obtain ⟨vq1, hvq1, hf⟩ := ob hf
  refine hw_sld hX hbl hbB C0 hH hvq1 dL_law_1348 ?_
  refine lv_aload_n hx hb dL_law_1349 rfl (lv_at hl 0 rfl) ?_
  refine lv_iload_n hx hb dL_law_1350 rfl (lv_at hl 3 rfl) ?_
  refine lv_iconst (v := 2) hx hb dL_law_1351 (by decide) ?_
  refine lv_iadd hx hb dL_law_1352 ?_
  obtain ⟨vq2, hvq2, hf⟩ := ob hf
  refine hw_sld hX hbl hbB C0 hH hvq2 dL_law_1353 ?_
  refine lv_aload_n hx hb dL_law_1354 rfl (lv_at hl 0 rfl) ?_
  refine lv_iload_n hx hb dL_law_1355 rfl (lv_at hl 3 rfl) ?_
  refine lv_iconst (v := 3) hx hb dL_law_1356 (by decide) ?_
  refine lv_iadd hx hb dL_law_1357 ?_
  obtain ⟨vq3, hvq3, hf⟩ := ob hf
  refine hw_sld hX hbl hbB C0 hH hvq3 dL_law_1358 ?_
  refine lv_aload_n hx hb dL_law_1359 rfl (lv_at hl 0 rfl) ?_
  refine lv_iload_n hx hb dL_law_1360 rfl (lv_at hl 3 rfl) ?_
  refine lv_iconst (v := 4) hx hb dL_law_1361 (by decide) ?_
  refine lv_iadd hx hb dL_law_1362 ?_
  obtain ⟨vq4, hvq4, hf⟩ := ob hf
  refine hw_sld hX hbl hbB C0 hH hvq4 dL_law_1363 ?_
  obtain ⟨iq5, hiq5, hf⟩ := ob hf
  obtain ⟨vq6, hvq6, hf⟩ := ob hf
  refine hw_cV (st2 := [.int vq6.1]) [.int vq1, .int vq2, .int vq3, .int vq4] [] C0 hH yk_X11_land yv_X11_land lk_L_163 rfl (ctX11_land hvq6) hiq5 rfl rfl rfl hl.1 (Nat.le_of_ble_eq_true rfl) dL_law_1364 ⟨by decide, by decide⟩ ⟨Nat.le_trans (by omega) cl_ok, Nat.le_trans (by omega) sl_ok⟩ (fun H locs hH => ?_)
  refine lv_aload_n hx hb dL_law_1367 rfl (lv_at hl 2 rfl) ?_
  refine lv_aload_n hx hb dL_law_1368 rfl (lv_at hl 0 rfl) ?_
  refine lv_iload_n hx hb dL_law_1369 rfl (lv_at hl 3 rfl) ?_
  refine lv_iconst (v := 1) hx hb dL_law_1370 (by decide) ?_
  refine lv_iadd hx hb dL_law_1371 ?_
  obtain ⟨vq7, hvq7, hf⟩ := ob hf
  refine hw_sld hX hbl hbB C0 hH hvq7 dL_law_1372 ?_
  refine lv_aload_n hx hb dL_law_1373 rfl (lv_at hl 0 rfl) ?_
  refine lv_iload_n hx hb dL_law_1374 rfl (lv_at hl 3 rfl) ?_
  refine lv_iconst (v := 2) hx hb dL_law_1375 (by decide) ?_
  refine lv_iadd hx hb dL_law_1376 ?_
  obtain ⟨vq8, hvq8, hf⟩ := ob hf
  refine hw_sld hX hbl hbB C0 hH hvq8 dL_law_1377 ?_
  refine lv_aload_n hx hb dL_law_1378 rfl (lv_at hl 0 rfl) ?_
  refine lv_iload_n hx hb dL_law_1379 rfl (lv_at hl 3 rfl) ?_
  refine lv_iconst (v := 3) hx hb dL_law_1380 (by decide) ?_
  refine lv_iadd hx hb dL_law_1381 ?_
  obtain ⟨vq9, hvq9, hf⟩ := ob hf
  refine hw_sld hX hbl hbB C0 hH hvq9 dL_law_1382 ?_
  refine lv_aload_n hx hb dL_law_1383 rfl (lv_at hl 0 rfl) ?_
  refine lv_iload_n hx hb dL_law_1384 rfl (lv_at hl 3 rfl) ?_
  refine lv_iconst (v := 4) hx hb dL_law_1385 (by decide) ?_
  refine lv_iadd hx hb dL_law_1386 ?_
  obtain ⟨vq10, hvq10, hf⟩ := ob hf
  refine hw_sld hX hbl hbB C0 hH hvq10 dL_law_1387 ?_
  obtain ⟨iq11, hiq11, hf⟩ := ob hf
  obtain ⟨vq12, hvq12, hf⟩ := ob hf
  refine hw_cV (st2 := [.int vq12.1, .int vq6.1]) [.int vq7, .int vq8, .int vq9, .int vq10] [.int vq6.1] C0 hH yk_X12_land yv_X12_land lk_L_167 rfl (ctX12_land hvq12) hiq11 rfl rfl rfl hl.1 (Nat.le_of_ble_eq_true rfl) dL_law_1388 ⟨by decide, by decide⟩ ⟨Nat.le_trans (by omega) cl_ok, Nat.le_trans (by omega) sl_ok⟩ (fun H locs hH => ?_)
  refine lv_icmp_eq (tgt := 1472) hx hb dL_law_1391 (by decide) (fun hc => ?_) (fun hc => ?_)
  · replace hf := if_t hf hc
    refine lv_iinc (v := xv3 + 6) (lv' := [(3, .int (xv3 + 6)), (0, .ref bb), (1, .ref xv1), (2, .ref xv2)]) hx hb dL_law_1472 hl (k := 3) rfl rfl (by decide) rfl (fun ls hl => ?_)
    refine lv_goto (tgt := 18) hx hb dL_law_1475 (by decide) ?_
    refine W.widen (k := cA + 20) (n := sA + 5000) (by omega) (by omega) ?_
    exact hk18 vq12.2 xv1 xv2 (xv3 + 6) H locs ls hH (lv_sub hl [1, 2, 3, 0] rfl) hf
  · replace hf := if_f hf hc
    refine lv_iconst (v := 0) hx hb dL_law_1394 (by decide) ?_
    exact absurd (Option.some.inj hf) (by decide)
def fL_law_1396 (xs : Nat → Int32) (L : Nat) (k18 : Hs → Nat → Nat → Int32 → Option Int32) (σ : Hs) (xv1 : Nat) (xv2 : Nat) (xv3 : Int32) : Option Int32 := (sc xs L (xv3 + 1)).bind fun vq1 => (sc xs L (xv3 + 2)).bind fun vq2 => (isC σ xv1 13).bind fun iq3 => (fX11_local_0 σ xv1 vq1 vq2).bind fun vq4 => (sc xs L (xv3 + 1)).bind fun vq5 => (sc xs L (xv3 + 2)).bind fun vq6 => (isC vq4.2 xv2 14).bind fun iq7 => (fX12_local_0 vq4.2 xv2 vq5 vq6).bind fun vq8 => if vq4.1 = vq8.1 then (k18 vq8.2 xv1 xv2 (xv3 + 6)) else (some 0)
set_option maxRecDepth 20000 in
theorem wL_law_1396 {p : Program} {l : Launch} {e : Env} {s : State} {m : MethodId} {below : List Frame} {meth : Method} {c : Code} {E : Ev} {B bb L : Nat} {xs : Nat → Int32} (hX : va_X bb L xs s s.heap) (hbl : bb < s.heap.size) (hbB : bb < B) (hBe : B = s.heap.size) (C0 : Cx E B p s m #[Value.ref bb] meth c cL_law RL 4 (some .boolean)) {cA sA : Nat} (hcA : cA + 20 ≤ 590000) (hsA : sA + 5000 ≤ 7000000) {k18 : Hs → Nat → Nat → Int32 → Option Int32} (hk18 : (∀ (σ : Hs) (xv1 : Nat) (xv2 : Nat) (xv3 : Int32) (H : Heap) (locs : List Loc) (ls : Array Slot), Hw E B s.heap σ H locs → lv_has ls 4 [(0, .ref bb), (1, .ref xv1), (2, .ref xv2), (3, .int xv3)] → k18 σ xv1 xv2 xv3 = some 1 → W p l e room_1 s m #[Value.ref bb] below meth c H locs (cA + 20) (sA + 5000) (lw_Z below #[Value.ref bb] s) (F0 m 18 ls []))) (σ : Hs) (xv1 : Nat) (xv2 : Nat) (xv3 : Int32) (H : Heap) (locs : List Loc) (ls : Array Slot) (hH : Hw E B s.heap σ H locs) (hl : lv_has ls 4 [(0, .ref bb), (1, .ref xv1), (2, .ref xv2), (3, .int xv3)]) (hf : fL_law_1396 xs L k18 σ xv1 xv2 xv3 = some 1) : W p l e room_1 s m #[Value.ref bb] below meth c H locs cA sA (lw_Z below #[Value.ref bb] s) (F0 m 1396 ls []) := by
  obtain ⟨⟨hx, hb, hml, hown, hts⟩, -, hBs, hEk⟩ := id C0
  unfold fL_law_1396 at hf
  refine lv_aload_n hx hb dL_law_1396 rfl (lv_at hl 1 rfl) ?_
  refine lv_aload_n hx hb dL_law_1397 rfl (lv_at hl 0 rfl) ?_
  refine lv_iload_n hx hb dL_law_1398 rfl (lv_at hl 3 rfl) ?_
  refine lv_iconst (v := 1) hx hb dL_law_1399 (by decide) ?_
  refine lv_iadd hx hb dL_law_1400 ?_
  obtain ⟨vq1, hvq1, hf⟩ := ob hf
  refine hw_sld hX hbl hbB C0 hH hvq1 dL_law_1401 ?_
  refine lv_aload_n hx hb dL_law_1402 rfl (lv_at hl 0 rfl) ?_
  refine lv_iload_n hx hb dL_law_1403 rfl (lv_at hl 3 rfl) ?_
  refine lv_iconst (v := 2) hx hb dL_law_1404 (by decide) ?_
  refine lv_iadd hx hb dL_law_1405 ?_
  obtain ⟨vq2, hvq2, hf⟩ := ob hf
  refine hw_sld hX hbl hbB C0 hH hvq2 dL_law_1406 ?_
  obtain ⟨iq3, hiq3, hf⟩ := ob hf
  obtain ⟨vq4, hvq4, hf⟩ := ob hf
  refine hw_cV (st2 := [.int vq4.1]) [.int vq1, .int vq2] [] C0 hH yk_X11_local yv_X11_local lk_L_168 rfl (ctX11_local hvq4) hiq3 rfl rfl rfl hl.1 (Nat.le_of_ble_eq_true rfl) dL_law_1407 ⟨by decide, by decide⟩ ⟨Nat.le_trans (by omega) cl_ok, Nat.le_trans (by omega) sl_ok⟩ (fun H locs hH => ?_)
  refine lv_aload_n hx hb dL_law_1410 rfl (lv_at hl 2 rfl) ?_
  refine lv_aload_n hx hb dL_law_1411 rfl (lv_at hl 0 rfl) ?_
  refine lv_iload_n hx hb dL_law_1412 rfl (lv_at hl 3 rfl) ?_
  refine lv_iconst (v := 1) hx hb dL_law_1413 (by decide) ?_
  refine lv_iadd hx hb dL_law_1414 ?_
  obtain ⟨vq5, hvq5, hf⟩ := ob hf
  refine hw_sld hX hbl hbB C0 hH hvq5 dL_law_1415 ?_
  refine lv_aload_n hx hb dL_law_1416 rfl (lv_at hl 0 rfl) ?_
  refine lv_iload_n hx hb dL_law_1417 rfl (lv_at hl 3 rfl) ?_
  refine lv_iconst (v := 2) hx hb dL_law_1418 (by decide) ?_
  refine lv_iadd hx hb dL_law_1419 ?_
  obtain ⟨vq6, hvq6, hf⟩ := ob hf
  refine hw_sld hX hbl hbB C0 hH hvq6 dL_law_1420 ?_
  obtain ⟨iq7, hiq7, hf⟩ := ob hf
  obtain ⟨vq8, hvq8, hf⟩ := ob hf
  refine hw_cV (st2 := [.int vq8.1, .int vq4.1]) [.int vq5, .int vq6] [.int vq4.1] C0 hH yk_X12_local yv_X12_local lk_L_171 rfl (ctX12_local hvq8) hiq7 rfl rfl rfl hl.1 (Nat.le_of_ble_eq_true rfl) dL_law_1421 ⟨by decide, by decide⟩ ⟨Nat.le_trans (by omega) cl_ok, Nat.le_trans (by omega) sl_ok⟩ (fun H locs hH => ?_)
  refine lv_icmp_eq (tgt := 1472) hx hb dL_law_1424 (by decide) (fun hc => ?_) (fun hc => ?_)
  · replace hf := if_t hf hc
    refine lv_iinc (v := xv3 + 6) (lv' := [(3, .int (xv3 + 6)), (0, .ref bb), (1, .ref xv1), (2, .ref xv2)]) hx hb dL_law_1472 hl (k := 3) rfl rfl (by decide) rfl (fun ls hl => ?_)
    refine lv_goto (tgt := 18) hx hb dL_law_1475 (by decide) ?_
    refine W.widen (k := cA + 20) (n := sA + 5000) (by omega) (by omega) ?_
    exact hk18 vq8.2 xv1 xv2 (xv3 + 6) H locs ls hH (lv_sub hl [1, 2, 3, 0] rfl) hf
  · replace hf := if_f hf hc
    refine lv_iconst (v := 0) hx hb dL_law_1427 (by decide) ?_
    exact absurd (Option.some.inj hf) (by decide)
def fL_law_1429 (xs : Nat → Int32) (L : Nat) (k18 : Hs → Nat → Nat → Int32 → Option Int32) (σ : Hs) (xv1 : Nat) (xv2 : Nat) (xv3 : Int32) : Option Int32 := (sc xs L (xv3 + 1)).bind fun vq1 => (sc xs L (xv3 + 2)).bind fun vq2 => (sc xs L (xv3 + 3)).bind fun vq3 => (isC σ xv1 13).bind fun iq4 => (fX11_oft_0 σ xv1 vq1 vq2 vq3).bind fun vq5 => (sc xs L (xv3 + 1)).bind fun vq6 => (sc xs L (xv3 + 2)).bind fun vq7 => (sc xs L (xv3 + 3)).bind fun vq8 => (isC vq5.2 xv2 14).bind fun iq9 => (fX12_oft_0 vq5.2 xv2 vq6 vq7 vq8).bind fun vq10 => if vq5.1 = vq10.1 then (k18 vq10.2 xv1 xv2 (xv3 + 6)) else (some 0)
set_option maxRecDepth 20000 in
theorem wL_law_1429 {p : Program} {l : Launch} {e : Env} {s : State} {m : MethodId} {below : List Frame} {meth : Method} {c : Code} {E : Ev} {B bb L : Nat} {xs : Nat → Int32} (hX : va_X bb L xs s s.heap) (hbl : bb < s.heap.size) (hbB : bb < B) (hBe : B = s.heap.size) (C0 : Cx E B p s m #[Value.ref bb] meth c cL_law RL 4 (some .boolean)) {cA sA : Nat} (hcA : cA + 20 ≤ 590000) (hsA : sA + 5000 ≤ 7000000) {k18 : Hs → Nat → Nat → Int32 → Option Int32} (hk18 : (∀ (σ : Hs) (xv1 : Nat) (xv2 : Nat) (xv3 : Int32) (H : Heap) (locs : List Loc) (ls : Array Slot), Hw E B s.heap σ H locs → lv_has ls 4 [(0, .ref bb), (1, .ref xv1), (2, .ref xv2), (3, .int xv3)] → k18 σ xv1 xv2 xv3 = some 1 → W p l e room_1 s m #[Value.ref bb] below meth c H locs (cA + 20) (sA + 5000) (lw_Z below #[Value.ref bb] s) (F0 m 18 ls []))) (σ : Hs) (xv1 : Nat) (xv2 : Nat) (xv3 : Int32) (H : Heap) (locs : List Loc) (ls : Array Slot) (hH : Hw E B s.heap σ H locs) (hl : lv_has ls 4 [(0, .ref bb), (1, .ref xv1), (2, .ref xv2), (3, .int xv3)]) (hf : fL_law_1429 xs L k18 σ xv1 xv2 xv3 = some 1) : W p l e room_1 s m #[Value.ref bb] below meth c H locs cA sA (lw_Z below #[Value.ref bb] s) (F0 m 1429 ls []) := by
  obtain ⟨⟨hx, hb, hml, hown, hts⟩, -, hBs, hEk⟩ := id C0
  unfold fL_law_1429 at hf
  refine lv_aload_n hx hb dL_law_1429 rfl (lv_at hl 1 rfl) ?_
  refine lv_aload_n hx hb dL_law_1430 rfl (lv_at hl 0 rfl) ?_
  refine lv_iload_n hx hb dL_law_1431 rfl (lv_at hl 3 rfl) ?_
  refine lv_iconst (v := 1) hx hb dL_law_1432 (by decide) ?_
  refine lv_iadd hx hb dL_law_1433 ?_
  obtain ⟨vq1, hvq1, hf⟩ := ob hf
  refine hw_sld hX hbl hbB C0 hH hvq1 dL_law_1434 ?_
  refine lv_aload_n hx hb dL_law_1435 rfl (lv_at hl 0 rfl) ?_
  refine lv_iload_n hx hb dL_law_1436 rfl (lv_at hl 3 rfl) ?_
  refine lv_iconst (v := 2) hx hb dL_law_1437 (by decide) ?_
  refine lv_iadd hx hb dL_law_1438 ?_
  obtain ⟨vq2, hvq2, hf⟩ := ob hf
  refine hw_sld hX hbl hbB C0 hH hvq2 dL_law_1439 ?_
  refine lv_aload_n hx hb dL_law_1440 rfl (lv_at hl 0 rfl) ?_
  refine lv_iload_n hx hb dL_law_1441 rfl (lv_at hl 3 rfl) ?_
  refine lv_iconst (v := 3) hx hb dL_law_1442 (by decide) ?_
  refine lv_iadd hx hb dL_law_1443 ?_
  obtain ⟨vq3, hvq3, hf⟩ := ob hf
  refine hw_sld hX hbl hbB C0 hH hvq3 dL_law_1444 ?_
  obtain ⟨iq4, hiq4, hf⟩ := ob hf
  obtain ⟨vq5, hvq5, hf⟩ := ob hf
  refine hw_cV (st2 := [.int vq5.1]) [.int vq1, .int vq2, .int vq3] [] C0 hH yk_X11_oft yv_X11_oft lk_L_172 rfl (ctX11_oft hvq5) hiq4 rfl rfl rfl hl.1 (Nat.le_of_ble_eq_true rfl) dL_law_1445 ⟨by decide, by decide⟩ ⟨Nat.le_trans (by omega) cl_ok, Nat.le_trans (by omega) sl_ok⟩ (fun H locs hH => ?_)
  refine lv_aload_n hx hb dL_law_1448 rfl (lv_at hl 2 rfl) ?_
  refine lv_aload_n hx hb dL_law_1449 rfl (lv_at hl 0 rfl) ?_
  refine lv_iload_n hx hb dL_law_1450 rfl (lv_at hl 3 rfl) ?_
  refine lv_iconst (v := 1) hx hb dL_law_1451 (by decide) ?_
  refine lv_iadd hx hb dL_law_1452 ?_
  obtain ⟨vq6, hvq6, hf⟩ := ob hf
  refine hw_sld hX hbl hbB C0 hH hvq6 dL_law_1453 ?_
  refine lv_aload_n hx hb dL_law_1454 rfl (lv_at hl 0 rfl) ?_
  refine lv_iload_n hx hb dL_law_1455 rfl (lv_at hl 3 rfl) ?_
  refine lv_iconst (v := 2) hx hb dL_law_1456 (by decide) ?_
  refine lv_iadd hx hb dL_law_1457 ?_
  obtain ⟨vq7, hvq7, hf⟩ := ob hf
  refine hw_sld hX hbl hbB C0 hH hvq7 dL_law_1458 ?_
  refine lv_aload_n hx hb dL_law_1459 rfl (lv_at hl 0 rfl) ?_
  refine lv_iload_n hx hb dL_law_1460 rfl (lv_at hl 3 rfl) ?_
  refine lv_iconst (v := 3) hx hb dL_law_1461 (by decide) ?_
  refine lv_iadd hx hb dL_law_1462 ?_
  obtain ⟨vq8, hvq8, hf⟩ := ob hf
  refine hw_sld hX hbl hbB C0 hH hvq8 dL_law_1463 ?_
  obtain ⟨iq9, hiq9, hf⟩ := ob hf
  obtain ⟨vq10, hvq10, hf⟩ := ob hf
  refine hw_cV (st2 := [.int vq10.1, .int vq5.1]) [.int vq6, .int vq7, .int vq8] [.int vq5.1] C0 hH yk_X12_oft yv_X12_oft lk_L_175 rfl (ctX12_oft hvq10) hiq9 rfl rfl rfl hl.1 (Nat.le_of_ble_eq_true rfl) dL_law_1464 ⟨by decide, by decide⟩ ⟨Nat.le_trans (by omega) cl_ok, Nat.le_trans (by omega) sl_ok⟩ (fun H locs hH => ?_)
  refine lv_icmp_eq (tgt := 1472) hx hb dL_law_1467 (by decide) (fun hc => ?_) (fun hc => ?_)
  · replace hf := if_t hf hc
    refine lv_iinc (v := xv3 + 6) (lv' := [(3, .int (xv3 + 6)), (0, .ref bb), (1, .ref xv1), (2, .ref xv2)]) hx hb dL_law_1472 hl (k := 3) rfl rfl (by decide) rfl (fun ls hl => ?_)
    refine lv_goto (tgt := 18) hx hb dL_law_1475 (by decide) ?_
    refine W.widen (k := cA + 20) (n := sA + 5000) (by omega) (by omega) ?_
    exact hk18 vq10.2 xv1 xv2 (xv3 + 6) H locs ls hH (lv_sub hl [1, 2, 3, 0] rfl) hf
  · replace hf := if_f hf hc
    refine lv_iconst (v := 0) hx hb dL_law_1470 (by decide) ?_
    exact absurd (Option.some.inj hf) (by decide)
def fL_law_18 (xs : Nat → Int32) (L : Nat) (k18 : Hs → Nat → Nat → Int32 → Option Int32) (σ : Hs) (xv1 : Nat) (xv2 : Nat) (xv3 : Int32) : Option Int32 := if (Int32.ofNat L) - 6 < xv3 then (some 1) else ((sc xs L xv3).bind fun vq1 => if vq1 &&& 63 = 0 then (fL_law_196 xs L k18 σ xv1 xv2 xv3) else (if vq1 &&& 63 = 1 then (fL_law_209 xs L k18 σ xv1 xv2 xv3) else (if vq1 &&& 63 = 2 then (fL_law_252 xs L k18 σ xv1 xv2 xv3) else (if vq1 &&& 63 = 3 then (fL_law_325 xs L k18 σ xv1 xv2 xv3) else (if vq1 &&& 63 = 4 then (fL_law_359 xs L k18 σ xv1 xv2 xv3) else (if vq1 &&& 63 = 5 then (fL_law_422 xs L k18 σ xv1 xv2 xv3) else (if vq1 &&& 63 = 6 then (fL_law_455 xs L k18 σ xv1 xv2 xv3) else (if vq1 &&& 63 = 7 then (fL_law_488 xs L k18 σ xv1 xv2 xv3) else (if vq1 &&& 63 = 8 then (fL_law_521 xs L k18 σ xv1 xv2 xv3) else (if vq1 &&& 63 = 9 then (fL_law_544 xs L k18 σ xv1 xv2 xv3) else (if vq1 &&& 63 = 10 then (fL_law_577 xs L k18 σ xv1 xv2 xv3) else (if vq1 &&& 63 = 11 then (fL_law_611 xs L k18 σ xv1 xv2 xv3) else (if vq1 &&& 63 = 12 then (fL_law_644 xs L k18 σ xv1 xv2 xv3) else (if vq1 &&& 63 = 13 then (fL_law_688 xs L k18 σ xv1 xv2 xv3) else (if vq1 &&& 63 = 14 then (fL_law_732 xs L k18 σ xv1 xv2 xv3) else (if vq1 &&& 63 = 15 then (fL_law_795 xs L k18 σ xv1 xv2 xv3) else (if vq1 &&& 63 = 16 then (fL_law_828 xs L k18 σ xv1 xv2 xv3) else (if vq1 &&& 63 = 17 then (fL_law_851 xs L k18 σ xv1 xv2 xv3) else (if vq1 &&& 63 = 18 then (fL_law_874 xs L k18 σ xv1 xv2 xv3) else (if vq1 &&& 63 = 19 then (fL_law_937 xs L k18 σ xv1 xv2 xv3) else (if vq1 &&& 63 = 20 then (fL_law_970 xs L k18 σ xv1 xv2 xv3) else (if vq1 &&& 63 = 21 then (fL_law_1003 xs L k18 σ xv1 xv2 xv3) else (if vq1 &&& 63 = 22 then (fL_law_1026 xs L k18 σ xv1 xv2 xv3) else (if vq1 &&& 63 = 23 then (fL_law_1059 xs L k18 σ xv1 xv2 xv3) else (if vq1 &&& 63 = 24 then (fL_law_1072 xs L k18 σ xv1 xv2 xv3) else (if vq1 &&& 63 = 25 then (fL_law_1095 xs L k18 σ xv1 xv2 xv3) else (if vq1 &&& 63 = 26 then (fL_law_1118 xs L k18 σ xv1 xv2 xv3) else (if vq1 &&& 63 = 27 then (fL_law_1151 xs L k18 σ xv1 xv2 xv3) else (if vq1 &&& 63 = 28 then (fL_law_1174 xs L k18 σ xv1 xv2 xv3) else (if vq1 &&& 63 = 29 then (fL_law_1198 xs L k18 σ xv1 xv2 xv3) else (if vq1 &&& 63 = 30 then (fL_law_1241 xs L k18 σ xv1 xv2 xv3) else (if vq1 &&& 63 = 31 then (fL_law_1264 xs L k18 σ xv1 xv2 xv3) else (if vq1 &&& 63 = 32 then (fL_law_1287 xs L k18 σ xv1 xv2 xv3) else (if vq1 &&& 63 = 33 then (fL_law_1330 xs L k18 σ xv1 xv2 xv3) else (if vq1 &&& 63 = 34 then (fL_law_1343 xs L k18 σ xv1 xv2 xv3) else (if vq1 &&& 63 = 35 then (fL_law_1396 xs L k18 σ xv1 xv2 xv3) else (if vq1 &&& 63 = 36 then (fL_law_1429 xs L k18 σ xv1 xv2 xv3) else (k18 σ xv1 xv2 (xv3 + 6)))))))))))))))))))))))))))))))))))))))
set_option maxRecDepth 20000 in
theorem wL_law_18 {p : Program} {l : Launch} {e : Env} {s : State} {m : MethodId} {below : List Frame} {meth : Method} {c : Code} {E : Ev} {B bb L : Nat} {xs : Nat → Int32} (hX : va_X bb L xs s s.heap) (hbl : bb < s.heap.size) (hbB : bb < B) (hBe : B = s.heap.size) (C0 : Cx E B p s m #[Value.ref bb] meth c cL_law RL 4 (some .boolean)) {cA sA : Nat} (hcA : cA + 20 ≤ 590000) (hsA : sA + 5000 ≤ 7000000) {k18 : Hs → Nat → Nat → Int32 → Option Int32} (hk18 : (∀ (σ : Hs) (xv1 : Nat) (xv2 : Nat) (xv3 : Int32) (H : Heap) (locs : List Loc) (ls : Array Slot), Hw E B s.heap σ H locs → lv_has ls 4 [(0, .ref bb), (1, .ref xv1), (2, .ref xv2), (3, .int xv3)] → k18 σ xv1 xv2 xv3 = some 1 → W p l e room_1 s m #[Value.ref bb] below meth c H locs (cA + 20) (sA + 5000) (lw_Z below #[Value.ref bb] s) (F0 m 18 ls []))) (σ : Hs) (xv1 : Nat) (xv2 : Nat) (xv3 : Int32) (H : Heap) (locs : List Loc) (ls : Array Slot) (hH : Hw E B s.heap σ H locs) (hl : lv_has ls 4 [(0, .ref bb), (1, .ref xv1), (2, .ref xv2), (3, .int xv3)]) (hf : fL_law_18 xs L k18 σ xv1 xv2 xv3 = some 1) : W p l e room_1 s m #[Value.ref bb] below meth c H locs cA sA (lw_Z below #[Value.ref bb] s) (F0 m 18 ls []) := by
  obtain ⟨⟨hx, hb, hml, hown, hts⟩, -, hBs, hEk⟩ := id C0
  unfold fL_law_18 at hf
  refine lv_iload_n hx hb dL_law_18 rfl (lv_at hl 3 rfl) ?_
  refine lv_aload_n hx hb dL_law_19 rfl (lv_at hl 0 rfl) ?_
  refine hw_slen hX hbl hbB C0 hH dL_law_20 ?_
  refine lv_bipush (v := 6) hx hb dL_law_21 (by decide) ?_
  refine lv_isub hx hb dL_law_23 ?_
  refine lv_icmp_gt (tgt := 1478) hx hb dL_law_24 (by decide) (fun hc => ?_) (fun hc => ?_)
  · replace hf := if_t hf hc
    refine lv_iconst (v := 1) hx hb dL_law_1478 (by decide) ?_
    exact hw_lawend hBe C0 hH (by omega) (by omega) dL_law_1479
  · replace hf := if_f hf hc
    refine lv_aload_n hx hb dL_law_27 rfl (lv_at hl 0 rfl) ?_
    refine lv_iload_n hx hb dL_law_28 rfl (lv_at hl 3 rfl) ?_
    obtain ⟨vq1, hvq1, hf⟩ := ob hf
    refine hw_sld hX hbl hbB C0 hH hvq1 dL_law_29 ?_
    refine lv_bipush (v := 63) hx hb dL_law_30 (by decide) ?_
    refine lv_iand hx hb dL_law_32 ?_
    by_cases hc0 : vq1 &&& 63 = 0
    · replace hf := if_t hf hc0
      refine lv_tableIn (off := 163) (tgt := 196) hx hb dL_law_33 (by rw [hc0]; decide) (by rw [hc0]; decide) (by rw [hc0]; decide) (by decide) ?_
      exact wL_law_196 hX hbl hbB hBe C0 hcA hsA hk18 σ xv1 xv2 xv3 H locs ls hH (lv_sub hl [0, 1, 2, 3] rfl) hf
    · replace hf := if_f hf hc0
      by_cases hc1 : vq1 &&& 63 = 1
      · replace hf := if_t hf hc1
        refine lv_tableIn (off := 176) (tgt := 209) hx hb dL_law_33 (by rw [hc1]; decide) (by rw [hc1]; decide) (by rw [hc1]; decide) (by decide) ?_
        exact wL_law_209 hX hbl hbB hBe C0 hcA hsA hk18 σ xv1 xv2 xv3 H locs ls hH (lv_sub hl [0, 1, 2, 3] rfl) hf
      · replace hf := if_f hf hc1
        by_cases hc2 : vq1 &&& 63 = 2
        · replace hf := if_t hf hc2
          refine lv_tableIn (off := 219) (tgt := 252) hx hb dL_law_33 (by rw [hc2]; decide) (by rw [hc2]; decide) (by rw [hc2]; decide) (by decide) ?_
          exact wL_law_252 hX hbl hbB hBe C0 hcA hsA hk18 σ xv1 xv2 xv3 H locs ls hH (lv_sub hl [0, 1, 2, 3] rfl) hf
        · replace hf := if_f hf hc2
          by_cases hc3 : vq1 &&& 63 = 3
          · replace hf := if_t hf hc3
            refine lv_tableIn (off := 292) (tgt := 325) hx hb dL_law_33 (by rw [hc3]; decide) (by rw [hc3]; decide) (by rw [hc3]; decide) (by decide) ?_
            exact wL_law_325 hX hbl hbB hBe C0 hcA hsA hk18 σ xv1 xv2 xv3 H locs ls hH (lv_sub hl [0, 1, 2, 3] rfl) hf
          · replace hf := if_f hf hc3
            by_cases hc4 : vq1 &&& 63 = 4
            · replace hf := if_t hf hc4
              refine lv_tableIn (off := 326) (tgt := 359) hx hb dL_law_33 (by rw [hc4]; decide) (by rw [hc4]; decide) (by rw [hc4]; decide) (by decide) ?_
              exact wL_law_359 hX hbl hbB hBe C0 hcA hsA hk18 σ xv1 xv2 xv3 H locs ls hH (lv_sub hl [0, 1, 2, 3] rfl) hf
            · replace hf := if_f hf hc4
              by_cases hc5 : vq1 &&& 63 = 5
              · replace hf := if_t hf hc5
                refine lv_tableIn (off := 389) (tgt := 422) hx hb dL_law_33 (by rw [hc5]; decide) (by rw [hc5]; decide) (by rw [hc5]; decide) (by decide) ?_
                exact wL_law_422 hX hbl hbB hBe C0 hcA hsA hk18 σ xv1 xv2 xv3 H locs ls hH (lv_sub hl [0, 1, 2, 3] rfl) hf
              · replace hf := if_f hf hc5
                by_cases hc6 : vq1 &&& 63 = 6
                · replace hf := if_t hf hc6
                  refine lv_tableIn (off := 422) (tgt := 455) hx hb dL_law_33 (by rw [hc6]; decide) (by rw [hc6]; decide) (by rw [hc6]; decide) (by decide) ?_
                  exact wL_law_455 hX hbl hbB hBe C0 hcA hsA hk18 σ xv1 xv2 xv3 H locs ls hH (lv_sub hl [0, 1, 2, 3] rfl) hf
                · replace hf := if_f hf hc6
                  by_cases hc7 : vq1 &&& 63 = 7
                  · replace hf := if_t hf hc7
                    refine lv_tableIn (off := 455) (tgt := 488) hx hb dL_law_33 (by rw [hc7]; decide) (by rw [hc7]; decide) (by rw [hc7]; decide) (by decide) ?_
                    exact wL_law_488 hX hbl hbB hBe C0 hcA hsA hk18 σ xv1 xv2 xv3 H locs ls hH (lv_sub hl [0, 1, 2, 3] rfl) hf
                  · replace hf := if_f hf hc7
                    by_cases hc8 : vq1 &&& 63 = 8
                    · replace hf := if_t hf hc8
                      refine lv_tableIn (off := 488) (tgt := 521) hx hb dL_law_33 (by rw [hc8]; decide) (by rw [hc8]; decide) (by rw [hc8]; decide) (by decide) ?_
                      exact wL_law_521 hX hbl hbB hBe C0 hcA hsA hk18 σ xv1 xv2 xv3 H locs ls hH (lv_sub hl [0, 1, 2, 3] rfl) hf
                    · replace hf := if_f hf hc8
                      by_cases hc9 : vq1 &&& 63 = 9
                      · replace hf := if_t hf hc9
                        refine lv_tableIn (off := 511) (tgt := 544) hx hb dL_law_33 (by rw [hc9]; decide) (by rw [hc9]; decide) (by rw [hc9]; decide) (by decide) ?_
                        exact wL_law_544 hX hbl hbB hBe C0 hcA hsA hk18 σ xv1 xv2 xv3 H locs ls hH (lv_sub hl [0, 1, 2, 3] rfl) hf
                      · replace hf := if_f hf hc9
                        by_cases hc10 : vq1 &&& 63 = 10
                        · replace hf := if_t hf hc10
                          refine lv_tableIn (off := 544) (tgt := 577) hx hb dL_law_33 (by rw [hc10]; decide) (by rw [hc10]; decide) (by rw [hc10]; decide) (by decide) ?_
                          exact wL_law_577 hX hbl hbB hBe C0 hcA hsA hk18 σ xv1 xv2 xv3 H locs ls hH (lv_sub hl [0, 1, 2, 3] rfl) hf
                        · replace hf := if_f hf hc10
                          by_cases hc11 : vq1 &&& 63 = 11
                          · replace hf := if_t hf hc11
                            refine lv_tableIn (off := 578) (tgt := 611) hx hb dL_law_33 (by rw [hc11]; decide) (by rw [hc11]; decide) (by rw [hc11]; decide) (by decide) ?_
                            exact wL_law_611 hX hbl hbB hBe C0 hcA hsA hk18 σ xv1 xv2 xv3 H locs ls hH (lv_sub hl [0, 1, 2, 3] rfl) hf
                          · replace hf := if_f hf hc11
                            by_cases hc12 : vq1 &&& 63 = 12
                            · replace hf := if_t hf hc12
                              refine lv_tableIn (off := 611) (tgt := 644) hx hb dL_law_33 (by rw [hc12]; decide) (by rw [hc12]; decide) (by rw [hc12]; decide) (by decide) ?_
                              exact wL_law_644 hX hbl hbB hBe C0 hcA hsA hk18 σ xv1 xv2 xv3 H locs ls hH (lv_sub hl [0, 1, 2, 3] rfl) hf
                            · replace hf := if_f hf hc12
                              by_cases hc13 : vq1 &&& 63 = 13
                              · replace hf := if_t hf hc13
                                refine lv_tableIn (off := 655) (tgt := 688) hx hb dL_law_33 (by rw [hc13]; decide) (by rw [hc13]; decide) (by rw [hc13]; decide) (by decide) ?_
                                exact wL_law_688 hX hbl hbB hBe C0 hcA hsA hk18 σ xv1 xv2 xv3 H locs ls hH (lv_sub hl [0, 1, 2, 3] rfl) hf
                              · replace hf := if_f hf hc13
                                by_cases hc14 : vq1 &&& 63 = 14
                                · replace hf := if_t hf hc14
                                  refine lv_tableIn (off := 699) (tgt := 732) hx hb dL_law_33 (by rw [hc14]; decide) (by rw [hc14]; decide) (by rw [hc14]; decide) (by decide) ?_
                                  exact wL_law_732 hX hbl hbB hBe C0 hcA hsA hk18 σ xv1 xv2 xv3 H locs ls hH (lv_sub hl [0, 1, 2, 3] rfl) hf
                                · replace hf := if_f hf hc14
                                  by_cases hc15 : vq1 &&& 63 = 15
                                  · replace hf := if_t hf hc15
                                    refine lv_tableIn (off := 762) (tgt := 795) hx hb dL_law_33 (by rw [hc15]; decide) (by rw [hc15]; decide) (by rw [hc15]; decide) (by decide) ?_
                                    exact wL_law_795 hX hbl hbB hBe C0 hcA hsA hk18 σ xv1 xv2 xv3 H locs ls hH (lv_sub hl [0, 1, 2, 3] rfl) hf
                                  · replace hf := if_f hf hc15
                                    by_cases hc16 : vq1 &&& 63 = 16
                                    · replace hf := if_t hf hc16
                                      refine lv_tableIn (off := 795) (tgt := 828) hx hb dL_law_33 (by rw [hc16]; decide) (by rw [hc16]; decide) (by rw [hc16]; decide) (by decide) ?_
                                      exact wL_law_828 hX hbl hbB hBe C0 hcA hsA hk18 σ xv1 xv2 xv3 H locs ls hH (lv_sub hl [0, 1, 2, 3] rfl) hf
                                    · replace hf := if_f hf hc16
                                      by_cases hc17 : vq1 &&& 63 = 17
                                      · replace hf := if_t hf hc17
                                        refine lv_tableIn (off := 818) (tgt := 851) hx hb dL_law_33 (by rw [hc17]; decide) (by rw [hc17]; decide) (by rw [hc17]; decide) (by decide) ?_
                                        exact wL_law_851 hX hbl hbB hBe C0 hcA hsA hk18 σ xv1 xv2 xv3 H locs ls hH (lv_sub hl [0, 1, 2, 3] rfl) hf
                                      · replace hf := if_f hf hc17
                                        by_cases hc18 : vq1 &&& 63 = 18
                                        · replace hf := if_t hf hc18
                                          refine lv_tableIn (off := 841) (tgt := 874) hx hb dL_law_33 (by rw [hc18]; decide) (by rw [hc18]; decide) (by rw [hc18]; decide) (by decide) ?_
                                          exact wL_law_874 hX hbl hbB hBe C0 hcA hsA hk18 σ xv1 xv2 xv3 H locs ls hH (lv_sub hl [0, 1, 2, 3] rfl) hf
                                        · replace hf := if_f hf hc18
                                          by_cases hc19 : vq1 &&& 63 = 19
                                          · replace hf := if_t hf hc19
                                            refine lv_tableIn (off := 904) (tgt := 937) hx hb dL_law_33 (by rw [hc19]; decide) (by rw [hc19]; decide) (by rw [hc19]; decide) (by decide) ?_
                                            exact wL_law_937 hX hbl hbB hBe C0 hcA hsA hk18 σ xv1 xv2 xv3 H locs ls hH (lv_sub hl [0, 1, 2, 3] rfl) hf
                                          · replace hf := if_f hf hc19
                                            by_cases hc20 : vq1 &&& 63 = 20
                                            · replace hf := if_t hf hc20
                                              refine lv_tableIn (off := 937) (tgt := 970) hx hb dL_law_33 (by rw [hc20]; decide) (by rw [hc20]; decide) (by rw [hc20]; decide) (by decide) ?_
                                              exact wL_law_970 hX hbl hbB hBe C0 hcA hsA hk18 σ xv1 xv2 xv3 H locs ls hH (lv_sub hl [0, 1, 2, 3] rfl) hf
                                            · replace hf := if_f hf hc20
                                              by_cases hc21 : vq1 &&& 63 = 21
                                              · replace hf := if_t hf hc21
                                                refine lv_tableIn (off := 970) (tgt := 1003) hx hb dL_law_33 (by rw [hc21]; decide) (by rw [hc21]; decide) (by rw [hc21]; decide) (by decide) ?_
                                                exact wL_law_1003 hX hbl hbB hBe C0 hcA hsA hk18 σ xv1 xv2 xv3 H locs ls hH (lv_sub hl [0, 1, 2, 3] rfl) hf
                                              · replace hf := if_f hf hc21
                                                by_cases hc22 : vq1 &&& 63 = 22
                                                · replace hf := if_t hf hc22
                                                  refine lv_tableIn (off := 993) (tgt := 1026) hx hb dL_law_33 (by rw [hc22]; decide) (by rw [hc22]; decide) (by rw [hc22]; decide) (by decide) ?_
                                                  exact wL_law_1026 hX hbl hbB hBe C0 hcA hsA hk18 σ xv1 xv2 xv3 H locs ls hH (lv_sub hl [0, 1, 2, 3] rfl) hf
                                                · replace hf := if_f hf hc22
                                                  by_cases hc23 : vq1 &&& 63 = 23
                                                  · replace hf := if_t hf hc23
                                                    refine lv_tableIn (off := 1026) (tgt := 1059) hx hb dL_law_33 (by rw [hc23]; decide) (by rw [hc23]; decide) (by rw [hc23]; decide) (by decide) ?_
                                                    exact wL_law_1059 hX hbl hbB hBe C0 hcA hsA hk18 σ xv1 xv2 xv3 H locs ls hH (lv_sub hl [0, 1, 2, 3] rfl) hf
                                                  · replace hf := if_f hf hc23
                                                    by_cases hc24 : vq1 &&& 63 = 24
                                                    · replace hf := if_t hf hc24
                                                      refine lv_tableIn (off := 1039) (tgt := 1072) hx hb dL_law_33 (by rw [hc24]; decide) (by rw [hc24]; decide) (by rw [hc24]; decide) (by decide) ?_
                                                      exact wL_law_1072 hX hbl hbB hBe C0 hcA hsA hk18 σ xv1 xv2 xv3 H locs ls hH (lv_sub hl [0, 1, 2, 3] rfl) hf
                                                    · replace hf := if_f hf hc24
                                                      by_cases hc25 : vq1 &&& 63 = 25
                                                      · replace hf := if_t hf hc25
                                                        refine lv_tableIn (off := 1062) (tgt := 1095) hx hb dL_law_33 (by rw [hc25]; decide) (by rw [hc25]; decide) (by rw [hc25]; decide) (by decide) ?_
                                                        exact wL_law_1095 hX hbl hbB hBe C0 hcA hsA hk18 σ xv1 xv2 xv3 H locs ls hH (lv_sub hl [0, 1, 2, 3] rfl) hf
                                                      · replace hf := if_f hf hc25
                                                        by_cases hc26 : vq1 &&& 63 = 26
                                                        · replace hf := if_t hf hc26
                                                          refine lv_tableIn (off := 1085) (tgt := 1118) hx hb dL_law_33 (by rw [hc26]; decide) (by rw [hc26]; decide) (by rw [hc26]; decide) (by decide) ?_
                                                          exact wL_law_1118 hX hbl hbB hBe C0 hcA hsA hk18 σ xv1 xv2 xv3 H locs ls hH (lv_sub hl [0, 1, 2, 3] rfl) hf
                                                        · replace hf := if_f hf hc26
                                                          by_cases hc27 : vq1 &&& 63 = 27
                                                          · replace hf := if_t hf hc27
                                                            refine lv_tableIn (off := 1118) (tgt := 1151) hx hb dL_law_33 (by rw [hc27]; decide) (by rw [hc27]; decide) (by rw [hc27]; decide) (by decide) ?_
                                                            exact wL_law_1151 hX hbl hbB hBe C0 hcA hsA hk18 σ xv1 xv2 xv3 H locs ls hH (lv_sub hl [0, 1, 2, 3] rfl) hf
                                                          · replace hf := if_f hf hc27
                                                            by_cases hc28 : vq1 &&& 63 = 28
                                                            · replace hf := if_t hf hc28
                                                              refine lv_tableIn (off := 1141) (tgt := 1174) hx hb dL_law_33 (by rw [hc28]; decide) (by rw [hc28]; decide) (by rw [hc28]; decide) (by decide) ?_
                                                              exact wL_law_1174 hX hbl hbB hBe C0 hcA hsA hk18 σ xv1 xv2 xv3 H locs ls hH (lv_sub hl [0, 1, 2, 3] rfl) hf
                                                            · replace hf := if_f hf hc28
                                                              by_cases hc29 : vq1 &&& 63 = 29
                                                              · replace hf := if_t hf hc29
                                                                refine lv_tableIn (off := 1165) (tgt := 1198) hx hb dL_law_33 (by rw [hc29]; decide) (by rw [hc29]; decide) (by rw [hc29]; decide) (by decide) ?_
                                                                exact wL_law_1198 hX hbl hbB hBe C0 hcA hsA hk18 σ xv1 xv2 xv3 H locs ls hH (lv_sub hl [0, 1, 2, 3] rfl) hf
                                                              · replace hf := if_f hf hc29
                                                                by_cases hc30 : vq1 &&& 63 = 30
                                                                · replace hf := if_t hf hc30
                                                                  refine lv_tableIn (off := 1208) (tgt := 1241) hx hb dL_law_33 (by rw [hc30]; decide) (by rw [hc30]; decide) (by rw [hc30]; decide) (by decide) ?_
                                                                  exact wL_law_1241 hX hbl hbB hBe C0 hcA hsA hk18 σ xv1 xv2 xv3 H locs ls hH (lv_sub hl [0, 1, 2, 3] rfl) hf
                                                                · replace hf := if_f hf hc30
                                                                  by_cases hc31 : vq1 &&& 63 = 31
                                                                  · replace hf := if_t hf hc31
                                                                    refine lv_tableIn (off := 1231) (tgt := 1264) hx hb dL_law_33 (by rw [hc31]; decide) (by rw [hc31]; decide) (by rw [hc31]; decide) (by decide) ?_
                                                                    exact wL_law_1264 hX hbl hbB hBe C0 hcA hsA hk18 σ xv1 xv2 xv3 H locs ls hH (lv_sub hl [0, 1, 2, 3] rfl) hf
                                                                  · replace hf := if_f hf hc31
                                                                    by_cases hc32 : vq1 &&& 63 = 32
                                                                    · replace hf := if_t hf hc32
                                                                      refine lv_tableIn (off := 1254) (tgt := 1287) hx hb dL_law_33 (by rw [hc32]; decide) (by rw [hc32]; decide) (by rw [hc32]; decide) (by decide) ?_
                                                                      exact wL_law_1287 hX hbl hbB hBe C0 hcA hsA hk18 σ xv1 xv2 xv3 H locs ls hH (lv_sub hl [0, 1, 2, 3] rfl) hf
                                                                    · replace hf := if_f hf hc32
                                                                      by_cases hc33 : vq1 &&& 63 = 33
                                                                      · replace hf := if_t hf hc33
                                                                        refine lv_tableIn (off := 1297) (tgt := 1330) hx hb dL_law_33 (by rw [hc33]; decide) (by rw [hc33]; decide) (by rw [hc33]; decide) (by decide) ?_
                                                                        exact wL_law_1330 hX hbl hbB hBe C0 hcA hsA hk18 σ xv1 xv2 xv3 H locs ls hH (lv_sub hl [0, 1, 2, 3] rfl) hf
                                                                      · replace hf := if_f hf hc33
                                                                        by_cases hc34 : vq1 &&& 63 = 34
                                                                        · replace hf := if_t hf hc34
                                                                          refine lv_tableIn (off := 1310) (tgt := 1343) hx hb dL_law_33 (by rw [hc34]; decide) (by rw [hc34]; decide) (by rw [hc34]; decide) (by decide) ?_
                                                                          exact wL_law_1343 hX hbl hbB hBe C0 hcA hsA hk18 σ xv1 xv2 xv3 H locs ls hH (lv_sub hl [0, 1, 2, 3] rfl) hf
                                                                        · replace hf := if_f hf hc34
                                                                          by_cases hc35 : vq1 &&& 63 = 35
                                                                          · replace hf := if_t hf hc35
                                                                            refine lv_tableIn (off := 1363) (tgt := 1396) hx hb dL_law_33 (by rw [hc35]; decide) (by rw [hc35]; decide) (by rw [hc35]; decide) (by decide) ?_
                                                                            exact wL_law_1396 hX hbl hbB hBe C0 hcA hsA hk18 σ xv1 xv2 xv3 H locs ls hH (lv_sub hl [0, 1, 2, 3] rfl) hf
                                                                          · replace hf := if_f hf hc35
                                                                            by_cases hc36 : vq1 &&& 63 = 36
                                                                            · replace hf := if_t hf hc36
                                                                              refine lv_tableIn (off := 1396) (tgt := 1429) hx hb dL_law_33 (by rw [hc36]; decide) (by rw [hc36]; decide) (by rw [hc36]; decide) (by decide) ?_
                                                                              exact wL_law_1429 hX hbl hbB hBe C0 hcA hsA hk18 σ xv1 xv2 xv3 H locs ls hH (lv_sub hl [0, 1, 2, 3] rfl) hf
                                                                            · replace hf := if_f hf hc36
                                                                              have hn0 := lv_neT (k := 0) (a := 0) hc0 (by decide)
                                                                              have hn1 := lv_neT (k := 1) (a := 1) hc1 (by decide)
                                                                              have hn2 := lv_neT (k := 2) (a := 2) hc2 (by decide)
                                                                              have hn3 := lv_neT (k := 3) (a := 3) hc3 (by decide)
                                                                              have hn4 := lv_neT (k := 4) (a := 4) hc4 (by decide)
                                                                              have hn5 := lv_neT (k := 5) (a := 5) hc5 (by decide)
                                                                              have hn6 := lv_neT (k := 6) (a := 6) hc6 (by decide)
                                                                              have hn7 := lv_neT (k := 7) (a := 7) hc7 (by decide)
                                                                              have hn8 := lv_neT (k := 8) (a := 8) hc8 (by decide)
                                                                              have hn9 := lv_neT (k := 9) (a := 9) hc9 (by decide)
                                                                              have hn10 := lv_neT (k := 10) (a := 10) hc10 (by decide)
                                                                              have hn11 := lv_neT (k := 11) (a := 11) hc11 (by decide)
                                                                              have hn12 := lv_neT (k := 12) (a := 12) hc12 (by decide)
                                                                              have hn13 := lv_neT (k := 13) (a := 13) hc13 (by decide)
                                                                              have hn14 := lv_neT (k := 14) (a := 14) hc14 (by decide)
                                                                              have hn15 := lv_neT (k := 15) (a := 15) hc15 (by decide)
                                                                              have hn16 := lv_neT (k := 16) (a := 16) hc16 (by decide)
                                                                              have hn17 := lv_neT (k := 17) (a := 17) hc17 (by decide)
                                                                              have hn18 := lv_neT (k := 18) (a := 18) hc18 (by decide)
                                                                              have hn19 := lv_neT (k := 19) (a := 19) hc19 (by decide)
                                                                              have hn20 := lv_neT (k := 20) (a := 20) hc20 (by decide)
                                                                              have hn21 := lv_neT (k := 21) (a := 21) hc21 (by decide)
                                                                              have hn22 := lv_neT (k := 22) (a := 22) hc22 (by decide)
                                                                              have hn23 := lv_neT (k := 23) (a := 23) hc23 (by decide)
                                                                              have hn24 := lv_neT (k := 24) (a := 24) hc24 (by decide)
                                                                              have hn25 := lv_neT (k := 25) (a := 25) hc25 (by decide)
                                                                              have hn26 := lv_neT (k := 26) (a := 26) hc26 (by decide)
                                                                              have hn27 := lv_neT (k := 27) (a := 27) hc27 (by decide)
                                                                              have hn28 := lv_neT (k := 28) (a := 28) hc28 (by decide)
                                                                              have hn29 := lv_neT (k := 29) (a := 29) hc29 (by decide)
                                                                              have hn30 := lv_neT (k := 30) (a := 30) hc30 (by decide)
                                                                              have hn31 := lv_neT (k := 31) (a := 31) hc31 (by decide)
                                                                              have hn32 := lv_neT (k := 32) (a := 32) hc32 (by decide)
                                                                              have hn33 := lv_neT (k := 33) (a := 33) hc33 (by decide)
                                                                              have hn34 := lv_neT (k := 34) (a := 34) hc34 (by decide)
                                                                              have hn35 := lv_neT (k := 35) (a := 35) hc35 (by decide)
                                                                              have hn36 := lv_neT (k := 36) (a := 36) hc36 (by decide)
                                                                              refine lv_tableOut (tgt := 1472) hx hb dL_law_33 (by omega) (by decide) ?_
                                                                              refine lv_iinc (v := xv3 + 6) (lv' := [(3, .int (xv3 + 6)), (0, .ref bb), (1, .ref xv1), (2, .ref xv2)]) hx hb dL_law_1472 hl (k := 3) rfl rfl (by decide) rfl (fun ls hl => ?_)
                                                                              refine lv_goto (tgt := 18) hx hb dL_law_1475 (by decide) ?_
                                                                              refine W.widen (k := cA + 20) (n := sA + 5000) (by omega) (by omega) ?_
                                                                              exact hk18 σ xv1 xv2 (xv3 + 6) H locs ls hH (lv_sub hl [1, 2, 3, 0] rfl) hf
def fL_law_0 (xs : Nat → Int32) (L : Nat) (k18 : Hs → Nat → Nat → Int32 → Option Int32) (σ : Hs) : Option Int32 := (some (nwO 13 tyX11 σ)).bind fun sq1 => (fX11_init_0 sq1 σ.1).bind fun sq2 => (some (nwO 14 tyX12 sq2)).bind fun sq3 => (fX12_init_0 sq3 sq2.1).bind fun sq4 => k18 sq4 σ.1 sq2.1 0
set_option maxRecDepth 20000 in
theorem wL_law_0 {p : Program} {l : Launch} {e : Env} {s : State} {m : MethodId} {below : List Frame} {meth : Method} {c : Code} {E : Ev} {B bb L : Nat} {xs : Nat → Int32} (hX : va_X bb L xs s s.heap) (hbl : bb < s.heap.size) (hbB : bb < B) (hBe : B = s.heap.size) (C0 : Cx E B p s m #[Value.ref bb] meth c cL_law RL 4 (some .boolean)) {k18 : Hs → Nat → Nat → Int32 → Option Int32} (hk18 : (∀ (σ : Hs) (xv1 : Nat) (xv2 : Nat) (xv3 : Int32) (H : Heap) (locs : List Loc) (ls : Array Slot), Hw E B s.heap σ H locs → lv_has ls 4 [(0, .ref bb), (1, .ref xv1), (2, .ref xv2), (3, .int xv3)] → k18 σ xv1 xv2 xv3 = some 1 → W p l e room_1 s m #[Value.ref bb] below meth c H locs 100 20000 (lw_Z below #[Value.ref bb] s) (F0 m 18 ls []))) (σ : Hs) (H : Heap) (locs : List Loc) (ls : Array Slot) (hH : Hw E B s.heap σ H locs) (hl : lv_has ls 4 [(0, .ref bb)]) (hf : fL_law_0 xs L k18 σ = some 1) : W p l e room_1 s m #[Value.ref bb] below meth c H locs 0 0 (lw_Z below #[Value.ref bb] s) (F0 m 0 ls []) := by
  obtain ⟨⟨hx, hb, hml, hown, hts⟩, -, hBs, hEk⟩ := id C0
  unfold fL_law_0 at hf
  obtain ⟨sq1, hsq1, hf⟩ := ob hf
  replace hsq1 := Option.some.inj hsq1
  refine hw_new C0 hH kc_X11 cl_L_7 in1_X11 in2_X11 (Nat.le_trans (by omega) cl_ok) (Nat.le_trans (by omega) sl_ok) dL_law_0 (fun H hH => ?_)
  rw [hsq1] at hH
  refine lv_dup hx hb dL_law_3 rfl ?_
  obtain ⟨sq2, hsq2, hf⟩ := ob hf
  refine hw_cI (st2 := [.ref σ.1]) [] [.ref σ.1] C0 hH yk_X11_init yi_X11_init lk_L_9 (ctX11_init hsq2) rfl rfl rfl hl.1 (Nat.le_of_ble_eq_true rfl) dL_law_4 ⟨by decide, by decide⟩ ⟨Nat.le_trans (by omega) cl_ok, Nat.le_trans (by omega) sl_ok⟩ (fun H locs hH => ?_)
  refine lv_astore_n (lv' := [(1, .ref σ.1), (0, .ref bb)]) hx hb dL_law_7 rfl hl (by decide) rfl (fun ls hl => ?_)
  obtain ⟨sq3, hsq3, hf⟩ := ob hf
  replace hsq3 := Option.some.inj hsq3
  refine hw_new C0 hH kc_X12 cl_L_10 in1_X12 in2_X12 (Nat.le_trans (by omega) cl_ok) (Nat.le_trans (by omega) sl_ok) dL_law_8 (fun H hH => ?_)
  rw [hsq3] at hH
  refine lv_dup hx hb dL_law_11 rfl ?_
  obtain ⟨sq4, hsq4, hf⟩ := ob hf
  refine hw_cI (st2 := [.ref sq2.1]) [] [.ref sq2.1] C0 hH yk_X12_init yi_X12_init lk_L_12 (ctX12_init hsq4) rfl rfl rfl hl.1 (Nat.le_of_ble_eq_true rfl) dL_law_12 ⟨by decide, by decide⟩ ⟨Nat.le_trans (by omega) cl_ok, Nat.le_trans (by omega) sl_ok⟩ (fun H locs hH => ?_)
  refine lv_astore_n (lv' := [(2, .ref sq2.1), (1, .ref σ.1), (0, .ref bb)]) hx hb dL_law_15 rfl hl (by decide) rfl (fun ls hl => ?_)
  refine lv_iconst (v := 0) hx hb dL_law_16 (by decide) ?_
  refine lv_istore_n (lv' := [(3, .int 0), (2, .ref sq2.1), (1, .ref σ.1), (0, .ref bb)]) hx hb dL_law_17 rfl hl (by decide) rfl (fun ls hl => ?_)
  refine W.widen (k := 100) (n := 20000) (by decide) (by decide) ?_
  exact hk18 sq4 σ.1 sq2.1 0 H locs ls hH (lv_sub hl [3, 2, 1, 0] rfl) hf
