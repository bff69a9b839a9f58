theorem z_tm {w : Cond} (i : Nat) (h : tables_1[i]? = some w) (g : goodWord w = true) : w ∈ z_TB := List.mem_filter.mpr ⟨List.mem_append_right _ (List.mem_of_getElem? h), g⟩
theorem z_pm {w : Cond} (i : Nat) (h : (k2_sels lw_privs)[i]? = some w) (g : goodWord w = true) : w ∈ z_TB := List.mem_filter.mpr ⟨List.mem_append_left _ (List.mem_of_getElem? h), g⟩
theorem z_tms {ws : List Cond} (ps : List Nat) (hp : ws = ps.filterMap (fun i => tables_1[i]?)) (h : ws.all goodWord = true) : ∀ w ∈ ws, w ∈ z_TB := by
  intro w hw
  have h1 := List.all_eq_true.mp h w hw
  rw [hp] at hw
  obtain ⟨i, -, hi⟩ := List.mem_filterMap.mp hw
  exact z_tm i hi h1
theorem inz_X0 : ∀ w ∈ u_ws RX0 TX0 3, w ∈ z_TB := z_tms [147, 149, 151] (by decide +kernel) (by decide +kernel)
theorem vcz_X0 : vwCl[0]? = some (RX0, TX0, 3) := rfl
theorem inz_X1 : ∀ w ∈ u_ws RX1 TX1 6, w ∈ z_TB := z_tms [68, 70, 72, 74, 76, 78] (by decide +kernel) (by decide +kernel)
theorem vcz_X1 : vwCl[1]? = some (RX1, TX1, 6) := rfl
theorem inz_X2 : ∀ w ∈ u_ws RX2 TX2 6, w ∈ z_TB := z_tms [98, 100, 102, 104, 106, 108] (by decide +kernel) (by decide +kernel)
theorem vcz_X2 : vwCl[2]? = some (RX2, TX2, 6) := rfl
theorem inz_X3 : ∀ w ∈ u_ws RX3 TX3 6, w ∈ z_TB := z_tms [36, 38, 40, 42, 44, 46] (by decide +kernel) (by decide +kernel)
theorem vcz_X3 : vwCl[3]? = some (RX3, TX3, 6) := rfl
theorem inz_X4 : ∀ w ∈ u_ws RX4 TX4 15, w ∈ z_TB := z_tms [190, 192, 194, 196, 198, 200, 202, 204, 206, 208, 210, 212, 214, 216, 218] (by decide +kernel) (by decide +kernel)
theorem vcz_X4 : vwCl[4]? = some (RX4, TX4, 15) := rfl
theorem inz_X5 : ∀ w ∈ u_ws RX5 TX5 2, w ∈ z_TB := z_tms [233, 235] (by decide +kernel) (by decide +kernel)
theorem vcz_X5 : vwCl[5]? = some (RX5, TX5, 2) := rfl
theorem inz_X6 : ∀ w ∈ u_ws RX6 TX6 4, w ∈ z_TB := z_tms [126, 128, 130, 132] (by decide +kernel) (by decide +kernel)
theorem vcz_X6 : vwCl[6]? = some (RX6, TX6, 4) := rfl
theorem inz_X7 : ∀ w ∈ u_ws RX7 TX7 9, w ∈ z_TB := z_tms [247, 249, 251, 253, 255, 257, 259, 261, 263] (by decide +kernel) (by decide +kernel)
theorem vcz_X7 : vwCl[7]? = some (RX7, TX7, 9) := rfl
theorem inz_X8 : ∀ w ∈ u_ws RX8 TX8 32, w ∈ z_TB := z_tms [570, 572, 574, 576, 578, 580, 582, 584, 586, 588, 590, 592, 594, 596, 598, 600, 602, 604, 606, 608, 610, 612, 614, 616, 618, 620, 622, 624, 626, 628, 630, 632] (by decide +kernel) (by decide +kernel)
theorem vcz_X8 : vwCl[8]? = some (RX8, TX8, 32) := rfl
theorem wf_X7_12 : zF RX7 12 7 0 RX7 TX7 9 := ⟨(z_tm 238 (by decide +kernel) (by decide +kernel)), rfl, by decide, inz_X7⟩
theorem wf_X7_19 : zF RX7 19 7 1 RX7 TX7 9 := ⟨(z_tm 239 (by decide +kernel) (by decide +kernel)), rfl, by decide, inz_X7⟩
theorem wf_X7_26 : zF RX7 26 7 2 RX7 TX7 9 := ⟨(z_tm 240 (by decide +kernel) (by decide +kernel)), rfl, by decide, inz_X7⟩
theorem wf_X7_33 : zF RX7 33 7 3 RX7 TX7 9 := ⟨(z_tm 241 (by decide +kernel) (by decide +kernel)), rfl, by decide, inz_X7⟩
theorem wf_X7_40 : zF RX7 40 7 4 RX7 TX7 9 := ⟨(z_tm 242 (by decide +kernel) (by decide +kernel)), rfl, by decide, inz_X7⟩
theorem wf_X7_47 : zF RX7 47 7 5 RX7 TX7 9 := ⟨(z_tm 243 (by decide +kernel) (by decide +kernel)), rfl, by decide, inz_X7⟩
theorem wf_X7_54 : zF RX7 54 7 6 RX7 TX7 9 := ⟨(z_tm 244 (by decide +kernel) (by decide +kernel)), rfl, by decide, inz_X7⟩
theorem wf_X7_58 : zF RX7 58 7 7 RX7 TX7 9 := ⟨(z_tm 245 (by decide +kernel) (by decide +kernel)), rfl, by decide, inz_X7⟩
theorem wf_X7_70 : zF RX7 70 3 0 RX3 TX3 6 := ⟨(z_tm 27 (by decide +kernel) (by decide +kernel)), rfl, by decide, inz_X3⟩
theorem wp_X7_70 : zP RX7 70 3 0 RX3 TX3 6 .int := ⟨wf_X7_70, ⟨tyX3, tyX3_ok⟩, nmX3, rfl, by decide +kernel⟩
theorem wf_X7_85 : zF RX7 85 3 2 RX3 TX3 6 := ⟨(z_tm 31 (by decide +kernel) (by decide +kernel)), rfl, by decide, inz_X3⟩
theorem wp_X7_85 : zP RX7 85 3 2 RX3 TX3 6 .int := ⟨wf_X7_85, ⟨tyX3, tyX3_ok⟩, nmX3, rfl, by decide +kernel⟩
theorem wf_X7_88 : zF RX7 88 4 10 RX4 TX4 15 := ⟨(z_tm 181 (by decide +kernel) (by decide +kernel)), rfl, by decide, inz_X4⟩
theorem wf_X7_92 : zF RX7 92 4 11 RX4 TX4 15 := ⟨(z_tm 183 (by decide +kernel) (by decide +kernel)), rfl, by decide, inz_X4⟩
theorem wf_X7_110 : zF RX7 110 1 0 RX1 TX1 6 := ⟨(z_tm 57 (by decide +kernel) (by decide +kernel)), rfl, by decide, inz_X1⟩
theorem wp_X7_110 : zP RX7 110 1 0 RX1 TX1 6 .int := ⟨wf_X7_110, ⟨tyX1, tyX1_ok⟩, nmX1, rfl, by decide +kernel⟩
theorem wf_X7_113 : zF RX7 113 1 4 RX1 TX1 6 := ⟨(z_tm 65 (by decide +kernel) (by decide +kernel)), rfl, by decide, inz_X1⟩
theorem wf_X7_116 : zF RX7 116 1 5 RX1 TX1 6 := ⟨(z_tm 67 (by decide +kernel) (by decide +kernel)), rfl, by decide, inz_X1⟩
theorem wf_X7_132 : zF RX7 132 4 3 RX4 TX4 15 := ⟨(z_tm 167 (by decide +kernel) (by decide +kernel)), rfl, by decide, inz_X4⟩
theorem wp_X7_132 : zP RX7 132 4 3 RX4 TX4 15 .int := ⟨wf_X7_132, ⟨tyX4, tyX4_ok⟩, nmX4, rfl, by decide +kernel⟩
theorem wf_X7_139 : zF RX7 139 4 2 RX4 TX4 15 := ⟨(z_tm 165 (by decide +kernel) (by decide +kernel)), rfl, by decide, inz_X4⟩
theorem wp_X7_139 : zP RX7 139 4 2 RX4 TX4 15 .int := ⟨wf_X7_139, ⟨tyX4, tyX4_ok⟩, nmX4, rfl, by decide +kernel⟩
theorem wf_X7_142 : zF RX7 142 4 5 RX4 TX4 15 := ⟨(z_tm 171 (by decide +kernel) (by decide +kernel)), rfl, by decide, inz_X4⟩
theorem wp_X7_142 : zP RX7 142 4 5 RX4 TX4 15 .int := ⟨wf_X7_142, ⟨tyX4, tyX4_ok⟩, nmX4, rfl, by decide +kernel⟩
theorem wf_X7_145 : zF RX7 145 7 8 RX7 TX7 9 := ⟨(z_tm 246 (by decide +kernel) (by decide +kernel)), rfl, by decide, inz_X7⟩
theorem wp_X7_145 : zP RX7 145 7 8 RX7 TX7 9 .boolean := ⟨wf_X7_145, ⟨tyX7, tyX7_ok⟩, nmX7, rfl, by decide +kernel⟩
theorem wf_X7_161 : zF RX7 161 5 0 RX5 TX5 2 := ⟨(z_tm 231 (by decide +kernel) (by decide +kernel)), rfl, by decide, inz_X5⟩
theorem wp_X7_161 : zP RX7 161 5 0 RX5 TX5 2 .int := ⟨wf_X7_161, ⟨tyX5, tyX5_ok⟩, nmX5, rfl, by decide +kernel⟩
theorem wf_X7_165 : zF RX7 165 4 0 RX4 TX4 15 := ⟨(z_tm 161 (by decide +kernel) (by decide +kernel)), rfl, by decide, inz_X4⟩
theorem wp_X7_165 : zP RX7 165 4 0 RX4 TX4 15 .int := ⟨wf_X7_165, ⟨tyX4, tyX4_ok⟩, nmX4, rfl, by decide +kernel⟩
theorem wf_X7_168 : zF RX7 168 4 1 RX4 TX4 15 := ⟨(z_tm 163 (by decide +kernel) (by decide +kernel)), rfl, by decide, inz_X4⟩
theorem wp_X7_168 : zP RX7 168 4 1 RX4 TX4 15 .int := ⟨wf_X7_168, ⟨tyX4, tyX4_ok⟩, nmX4, rfl, by decide +kernel⟩
theorem wf_X7_171 : zF RX7 171 4 4 RX4 TX4 15 := ⟨(z_tm 169 (by decide +kernel) (by decide +kernel)), rfl, by decide, inz_X4⟩
theorem wp_X7_171 : zP RX7 171 4 4 RX4 TX4 15 .int := ⟨wf_X7_171, ⟨tyX4, tyX4_ok⟩, nmX4, rfl, by decide +kernel⟩
theorem wf_X7_174 : zF RX7 174 3 1 RX3 TX3 6 := ⟨(z_tm 29 (by decide +kernel) (by decide +kernel)), rfl, by decide, inz_X3⟩
theorem wp_X7_174 : zP RX7 174 3 1 RX3 TX3 6 .int := ⟨wf_X7_174, ⟨tyX3, tyX3_ok⟩, nmX3, rfl, by decide +kernel⟩
theorem wf_X7_177 : zF RX7 177 2 0 RX2 TX2 6 := ⟨(z_tm 88 (by decide +kernel) (by decide +kernel)), rfl, by decide, inz_X2⟩
theorem wp_X7_177 : zP RX7 177 2 0 RX2 TX2 6 .int := ⟨wf_X7_177, ⟨tyX2, tyX2_ok⟩, nmX2, rfl, by decide +kernel⟩
theorem wf_X7_178 : zF RX7 178 6 0 RX6 TX6 4 := ⟨(z_tm 119 (by decide +kernel) (by decide +kernel)), rfl, by decide, inz_X6⟩
theorem wp_X7_178 : zP RX7 178 6 0 RX6 TX6 4 .int := ⟨wf_X7_178, ⟨tyX6, tyX6_ok⟩, nmX6, rfl, by decide +kernel⟩
theorem wf_X7_179 : zF RX7 179 0 0 RX0 TX0 3 := ⟨(z_tm 142 (by decide +kernel) (by decide +kernel)), rfl, by decide, inz_X0⟩
theorem wp_X7_179 : zP RX7 179 0 0 RX0 TX0 3 .int := ⟨wf_X7_179, ⟨tyX0, tyX0_ok⟩, nmX0, rfl, by decide +kernel⟩
theorem wf_X7_180 : zF RX7 180 4 8 RX4 TX4 15 := ⟨(z_tm 177 (by decide +kernel) (by decide +kernel)), rfl, by decide, inz_X4⟩
theorem wf_X7_183 : zF RX7 183 4 12 RX4 TX4 15 := ⟨(z_tm 185 (by decide +kernel) (by decide +kernel)), rfl, by decide, inz_X4⟩
theorem wf_X7_186 : zF RX7 186 4 13 RX4 TX4 15 := ⟨(z_tm 187 (by decide +kernel) (by decide +kernel)), rfl, by decide, inz_X4⟩
theorem wf_X7_193 : zF RX7 193 4 9 RX4 TX4 15 := ⟨(z_tm 179 (by decide +kernel) (by decide +kernel)), rfl, by decide, inz_X4⟩
theorem wf_X7_196 : zF RX7 196 4 14 RX4 TX4 15 := ⟨(z_tm 189 (by decide +kernel) (by decide +kernel)), rfl, by decide, inz_X4⟩
theorem wf_X7_203 : zF RX7 203 3 5 RX3 TX3 6 := ⟨(z_tm 35 (by decide +kernel) (by decide +kernel)), rfl, by decide, inz_X3⟩
theorem wf_X7_206 : zF RX7 206 4 6 RX4 TX4 15 := ⟨(z_tm 173 (by decide +kernel) (by decide +kernel)), rfl, by decide, inz_X4⟩
theorem wf_X7_209 : zF RX7 209 4 7 RX4 TX4 15 := ⟨(z_tm 175 (by decide +kernel) (by decide +kernel)), rfl, by decide, inz_X4⟩
theorem wf_X7_212 : zF RX7 212 2 2 RX2 TX2 6 := ⟨(z_tm 92 (by decide +kernel) (by decide +kernel)), rfl, by decide, inz_X2⟩
theorem wf_X7_225 : zF RX7 225 2 4 RX2 TX2 6 := ⟨(z_tm 96 (by decide +kernel) (by decide +kernel)), rfl, by decide, inz_X2⟩
theorem wf_X7_235 : zF RX7 235 2 3 RX2 TX2 6 := ⟨(z_tm 94 (by decide +kernel) (by decide +kernel)), rfl, by decide, inz_X2⟩
theorem wf_X7_242 : zF RX7 242 2 1 RX2 TX2 6 := ⟨(z_tm 90 (by decide +kernel) (by decide +kernel)), rfl, by decide, inz_X2⟩
theorem wf_X7_248 : zF RX7 248 6 3 RX6 TX6 4 := ⟨(z_tm 125 (by decide +kernel) (by decide +kernel)), rfl, by decide, inz_X6⟩
theorem wf_X7_251 : zF RX7 251 6 2 RX6 TX6 4 := ⟨(z_tm 123 (by decide +kernel) (by decide +kernel)), rfl, by decide, inz_X6⟩
theorem wf_X7_254 : zF RX7 254 6 1 RX6 TX6 4 := ⟨(z_tm 121 (by decide +kernel) (by decide +kernel)), rfl, by decide, inz_X6⟩
theorem wf_X7_258 : zF RX7 258 0 2 RX0 TX0 3 := ⟨(z_tm 146 (by decide +kernel) (by decide +kernel)), rfl, by decide, inz_X0⟩
theorem wf_X7_261 : zF RX7 261 0 1 RX0 TX0 3 := ⟨(z_tm 144 (by decide +kernel) (by decide +kernel)), rfl, by decide, inz_X0⟩
theorem wf_X7_269 : zF RX7 269 1 1 RX1 TX1 6 := ⟨(z_tm 59 (by decide +kernel) (by decide +kernel)), rfl, by decide, inz_X1⟩
theorem wf_X7_272 : zF RX7 272 1 2 RX1 TX1 6 := ⟨(z_tm 61 (by decide +kernel) (by decide +kernel)), rfl, by decide, inz_X1⟩
theorem wf_X7_275 : zF RX7 275 1 3 RX1 TX1 6 := ⟨(z_tm 63 (by decide +kernel) (by decide +kernel)), rfl, by decide, inz_X1⟩
theorem wf_X0_9 : zF RX0 9 0 1 RX0 TX0 3 := ⟨(z_tm 143 (by decide +kernel) (by decide +kernel)), rfl, by decide, inz_X0⟩
theorem wf_X0_15 : zF RX0 15 0 2 RX0 TX0 3 := ⟨(z_tm 145 (by decide +kernel) (by decide +kernel)), rfl, by decide, inz_X0⟩
theorem wf_X0_18 : zF RX0 18 0 0 RX0 TX0 3 := ⟨(z_tm 141 (by decide +kernel) (by decide +kernel)), rfl, by decide, inz_X0⟩
theorem wp_X0_18 : zP RX0 18 0 0 RX0 TX0 3 .int := ⟨wf_X0_18, ⟨tyX0, tyX0_ok⟩, nmX0, rfl, by decide +kernel⟩
theorem wf_X1_9 : zF RX1 9 1 1 RX1 TX1 6 := ⟨(z_tm 58 (by decide +kernel) (by decide +kernel)), rfl, by decide, inz_X1⟩
theorem wf_X1_15 : zF RX1 15 1 2 RX1 TX1 6 := ⟨(z_tm 60 (by decide +kernel) (by decide +kernel)), rfl, by decide, inz_X1⟩
theorem wf_X1_18 : zF RX1 18 1 3 RX1 TX1 6 := ⟨(z_tm 62 (by decide +kernel) (by decide +kernel)), rfl, by decide, inz_X1⟩
theorem wf_X1_21 : zF RX1 21 1 4 RX1 TX1 6 := ⟨(z_tm 64 (by decide +kernel) (by decide +kernel)), rfl, by decide, inz_X1⟩
theorem wf_X1_24 : zF RX1 24 1 5 RX1 TX1 6 := ⟨(z_tm 66 (by decide +kernel) (by decide +kernel)), rfl, by decide, inz_X1⟩
theorem wf_X1_27 : zF RX1 27 1 0 RX1 TX1 6 := ⟨(z_tm 56 (by decide +kernel) (by decide +kernel)), rfl, by decide, inz_X1⟩
theorem wp_X1_27 : zP RX1 27 1 0 RX1 TX1 6 .int := ⟨wf_X1_27, ⟨tyX1, tyX1_ok⟩, nmX1, rfl, by decide +kernel⟩
theorem wf_X2_9 : zF RX2 9 2 1 RX2 TX2 6 := ⟨(z_tm 89 (by decide +kernel) (by decide +kernel)), rfl, by decide, inz_X2⟩
theorem wf_X2_15 : zF RX2 15 2 2 RX2 TX2 6 := ⟨(z_tm 91 (by decide +kernel) (by decide +kernel)), rfl, by decide, inz_X2⟩
theorem wf_X2_18 : zF RX2 18 2 3 RX2 TX2 6 := ⟨(z_tm 93 (by decide +kernel) (by decide +kernel)), rfl, by decide, inz_X2⟩
theorem wf_X2_22 : zF RX2 22 2 4 RX2 TX2 6 := ⟨(z_tm 95 (by decide +kernel) (by decide +kernel)), rfl, by decide, inz_X2⟩
theorem wf_X2_25 : zF RX2 25 2 5 RX2 TX2 6 := ⟨(z_tm 97 (by decide +kernel) (by decide +kernel)), rfl, by decide, inz_X2⟩
theorem wf_X2_28 : zF RX2 28 2 0 RX2 TX2 6 := ⟨(z_tm 87 (by decide +kernel) (by decide +kernel)), rfl, by decide, inz_X2⟩
theorem wp_X2_28 : zP RX2 28 2 0 RX2 TX2 6 .int := ⟨wf_X2_28, ⟨tyX2, tyX2_ok⟩, nmX2, rfl, by decide +kernel⟩
theorem wf_X3_9 : zF RX3 9 3 3 RX3 TX3 6 := ⟨(z_tm 32 (by decide +kernel) (by decide +kernel)), rfl, by decide, inz_X3⟩
theorem wf_X3_15 : zF RX3 15 3 4 RX3 TX3 6 := ⟨(z_tm 33 (by decide +kernel) (by decide +kernel)), rfl, by decide, inz_X3⟩
theorem wf_X3_18 : zF RX3 18 3 5 RX3 TX3 6 := ⟨(z_tm 34 (by decide +kernel) (by decide +kernel)), rfl, by decide, inz_X3⟩
theorem wf_X3_21 : zF RX3 21 3 0 RX3 TX3 6 := ⟨(z_tm 26 (by decide +kernel) (by decide +kernel)), rfl, by decide, inz_X3⟩
theorem wp_X3_21 : zP RX3 21 3 0 RX3 TX3 6 .int := ⟨wf_X3_21, ⟨tyX3, tyX3_ok⟩, nmX3, rfl, by decide +kernel⟩
theorem wf_X3_25 : zF RX3 25 3 1 RX3 TX3 6 := ⟨(z_tm 28 (by decide +kernel) (by decide +kernel)), rfl, by decide, inz_X3⟩
theorem wp_X3_25 : zP RX3 25 3 1 RX3 TX3 6 .int := ⟨wf_X3_25, ⟨tyX3, tyX3_ok⟩, nmX3, rfl, by decide +kernel⟩
theorem wf_X3_28 : zF RX3 28 3 2 RX3 TX3 6 := ⟨(z_tm 30 (by decide +kernel) (by decide +kernel)), rfl, by decide, inz_X3⟩
theorem wp_X3_28 : zP RX3 28 3 2 RX3 TX3 6 .int := ⟨wf_X3_28, ⟨tyX3, tyX3_ok⟩, nmX3, rfl, by decide +kernel⟩
theorem wf_X4_9 : zF RX4 9 4 3 RX4 TX4 15 := ⟨(z_tm 166 (by decide +kernel) (by decide +kernel)), rfl, by decide, inz_X4⟩
theorem wp_X4_9 : zP RX4 9 4 3 RX4 TX4 15 .int := ⟨wf_X4_9, ⟨tyX4, tyX4_ok⟩, nmX4, rfl, by decide +kernel⟩
theorem wf_X4_15 : zF RX4 15 4 6 RX4 TX4 15 := ⟨(z_tm 172 (by decide +kernel) (by decide +kernel)), rfl, by decide, inz_X4⟩
theorem wf_X4_19 : zF RX4 19 4 7 RX4 TX4 15 := ⟨(z_tm 174 (by decide +kernel) (by decide +kernel)), rfl, by decide, inz_X4⟩
theorem wf_X4_22 : zF RX4 22 4 8 RX4 TX4 15 := ⟨(z_tm 176 (by decide +kernel) (by decide +kernel)), rfl, by decide, inz_X4⟩
theorem wf_X4_25 : zF RX4 25 4 9 RX4 TX4 15 := ⟨(z_tm 178 (by decide +kernel) (by decide +kernel)), rfl, by decide, inz_X4⟩
theorem wf_X4_29 : zF RX4 29 4 10 RX4 TX4 15 := ⟨(z_tm 180 (by decide +kernel) (by decide +kernel)), rfl, by decide, inz_X4⟩
theorem wf_X4_32 : zF RX4 32 4 11 RX4 TX4 15 := ⟨(z_tm 182 (by decide +kernel) (by decide +kernel)), rfl, by decide, inz_X4⟩
theorem wf_X4_35 : zF RX4 35 4 12 RX4 TX4 15 := ⟨(z_tm 184 (by decide +kernel) (by decide +kernel)), rfl, by decide, inz_X4⟩
theorem wf_X4_38 : zF RX4 38 4 13 RX4 TX4 15 := ⟨(z_tm 186 (by decide +kernel) (by decide +kernel)), rfl, by decide, inz_X4⟩
theorem wf_X4_41 : zF RX4 41 4 14 RX4 TX4 15 := ⟨(z_tm 188 (by decide +kernel) (by decide +kernel)), rfl, by decide, inz_X4⟩
theorem wf_X4_44 : zF RX4 44 4 0 RX4 TX4 15 := ⟨(z_tm 160 (by decide +kernel) (by decide +kernel)), rfl, by decide, inz_X4⟩
theorem wp_X4_44 : zP RX4 44 4 0 RX4 TX4 15 .int := ⟨wf_X4_44, ⟨tyX4, tyX4_ok⟩, nmX4, rfl, by decide +kernel⟩
theorem wf_X4_47 : zF RX4 47 4 1 RX4 TX4 15 := ⟨(z_tm 162 (by decide +kernel) (by decide +kernel)), rfl, by decide, inz_X4⟩
theorem wp_X4_47 : zP RX4 47 4 1 RX4 TX4 15 .int := ⟨wf_X4_47, ⟨tyX4, tyX4_ok⟩, nmX4, rfl, by decide +kernel⟩
theorem wf_X4_63 : zF RX4 63 4 5 RX4 TX4 15 := ⟨(z_tm 170 (by decide +kernel) (by decide +kernel)), rfl, by decide, inz_X4⟩
theorem wp_X4_63 : zP RX4 63 4 5 RX4 TX4 15 .int := ⟨wf_X4_63, ⟨tyX4, tyX4_ok⟩, nmX4, rfl, by decide +kernel⟩
theorem wf_X4_66 : zF RX4 66 4 2 RX4 TX4 15 := ⟨(z_tm 164 (by decide +kernel) (by decide +kernel)), rfl, by decide, inz_X4⟩
theorem wp_X4_66 : zP RX4 66 4 2 RX4 TX4 15 .int := ⟨wf_X4_66, ⟨tyX4, tyX4_ok⟩, nmX4, rfl, by decide +kernel⟩
theorem wf_X4_69 : zF RX4 69 4 4 RX4 TX4 15 := ⟨(z_tm 168 (by decide +kernel) (by decide +kernel)), rfl, by decide, inz_X4⟩
theorem wp_X4_69 : zP RX4 69 4 4 RX4 TX4 15 .int := ⟨wf_X4_69, ⟨tyX4, tyX4_ok⟩, nmX4, rfl, by decide +kernel⟩
theorem wf_X5_11 : zF RX5 11 5 1 RX5 TX5 2 := ⟨(z_tm 232 (by decide +kernel) (by decide +kernel)), rfl, by decide, inz_X5⟩
theorem wf_X5_18 : zF RX5 18 5 0 RX5 TX5 2 := ⟨(z_tm 230 (by decide +kernel) (by decide +kernel)), rfl, by decide, inz_X5⟩
theorem wp_X5_18 : zP RX5 18 5 0 RX5 TX5 2 .int := ⟨wf_X5_18, ⟨tyX5, tyX5_ok⟩, nmX5, rfl, by decide +kernel⟩
theorem wf_X6_9 : zF RX6 9 6 1 RX6 TX6 4 := ⟨(z_tm 120 (by decide +kernel) (by decide +kernel)), rfl, by decide, inz_X6⟩
theorem wf_X6_15 : zF RX6 15 6 2 RX6 TX6 4 := ⟨(z_tm 122 (by decide +kernel) (by decide +kernel)), rfl, by decide, inz_X6⟩
theorem wf_X6_18 : zF RX6 18 6 3 RX6 TX6 4 := ⟨(z_tm 124 (by decide +kernel) (by decide +kernel)), rfl, by decide, inz_X6⟩
theorem wf_X6_22 : zF RX6 22 6 0 RX6 TX6 4 := ⟨(z_tm 118 (by decide +kernel) (by decide +kernel)), rfl, by decide, inz_X6⟩
theorem wp_X6_22 : zP RX6 22 6 0 RX6 TX6 4 .int := ⟨wf_X6_22, ⟨tyX6, tyX6_ok⟩, nmX6, rfl, by decide +kernel⟩
theorem wf_X8_7 : zF RX8 7 8 0 RX8 TX8 32 := ⟨(z_tm 538 (by decide +kernel) (by decide +kernel)), rfl, by decide, inz_X8⟩
theorem wf_X8_13 : zF RX8 13 8 1 RX8 TX8 32 := ⟨(z_tm 539 (by decide +kernel) (by decide +kernel)), rfl, by decide, inz_X8⟩
theorem wf_X8_16 : zF RX8 16 8 3 RX8 TX8 32 := ⟨(z_tm 541 (by decide +kernel) (by decide +kernel)), rfl, by decide, inz_X8⟩
theorem wp_X8_16 : zP RX8 16 8 3 RX8 TX8 32 .int := ⟨wf_X8_16, ⟨tyX8, tyX8_ok⟩, nmX8, rfl, by decide +kernel⟩
theorem wf_X8_20 : zF RX8 20 8 6 RX8 TX8 32 := ⟨(z_tm 544 (by decide +kernel) (by decide +kernel)), rfl, by decide, inz_X8⟩
theorem wf_X8_23 : zF RX8 23 8 7 RX8 TX8 32 := ⟨(z_tm 545 (by decide +kernel) (by decide +kernel)), rfl, by decide, inz_X8⟩
theorem wf_X8_26 : zF RX8 26 8 10 RX8 TX8 32 := ⟨(z_tm 548 (by decide +kernel) (by decide +kernel)), rfl, by decide, inz_X8⟩
theorem wf_X8_29 : zF RX8 29 8 11 RX8 TX8 32 := ⟨(z_tm 549 (by decide +kernel) (by decide +kernel)), rfl, by decide, inz_X8⟩
theorem wf_X8_32 : zF RX8 32 8 12 RX8 TX8 32 := ⟨(z_tm 550 (by decide +kernel) (by decide +kernel)), rfl, by decide, inz_X8⟩
theorem wf_X8_35 : zF RX8 35 8 13 RX8 TX8 32 := ⟨(z_tm 551 (by decide +kernel) (by decide +kernel)), rfl, by decide, inz_X8⟩
theorem wf_X8_38 : zF RX8 38 8 14 RX8 TX8 32 := ⟨(z_tm 552 (by decide +kernel) (by decide +kernel)), rfl, by decide, inz_X8⟩
theorem wf_X8_41 : zF RX8 41 8 16 RX8 TX8 32 := ⟨(z_tm 554 (by decide +kernel) (by decide +kernel)), rfl, by decide, inz_X8⟩
theorem wf_X8_44 : zF RX8 44 8 17 RX8 TX8 32 := ⟨(z_tm 555 (by decide +kernel) (by decide +kernel)), rfl, by decide, inz_X8⟩
theorem wf_X8_47 : zF RX8 47 8 18 RX8 TX8 32 := ⟨(z_tm 556 (by decide +kernel) (by decide +kernel)), rfl, by decide, inz_X8⟩
theorem wf_X8_51 : zF RX8 51 8 20 RX8 TX8 32 := ⟨(z_tm 558 (by decide +kernel) (by decide +kernel)), rfl, by decide, inz_X8⟩
theorem wf_X8_54 : zF RX8 54 8 21 RX8 TX8 32 := ⟨(z_tm 559 (by decide +kernel) (by decide +kernel)), rfl, by decide, inz_X8⟩
theorem wf_X8_57 : zF RX8 57 8 22 RX8 TX8 32 := ⟨(z_tm 560 (by decide +kernel) (by decide +kernel)), rfl, by decide, inz_X8⟩
theorem wf_X8_60 : zF RX8 60 8 24 RX8 TX8 32 := ⟨(z_tm 562 (by decide +kernel) (by decide +kernel)), rfl, by decide, inz_X8⟩
theorem wf_X8_63 : zF RX8 63 8 25 RX8 TX8 32 := ⟨(z_tm 563 (by decide +kernel) (by decide +kernel)), rfl, by decide, inz_X8⟩
theorem wf_X8_66 : zF RX8 66 8 29 RX8 TX8 32 := ⟨(z_tm 567 (by decide +kernel) (by decide +kernel)), rfl, by decide, inz_X8⟩
theorem wf_X8_69 : zF RX8 69 8 30 RX8 TX8 32 := ⟨(z_tm 568 (by decide +kernel) (by decide +kernel)), rfl, by decide, inz_X8⟩
theorem wf_X8_72 : zF RX8 72 8 31 RX8 TX8 32 := ⟨(z_tm 569 (by decide +kernel) (by decide +kernel)), rfl, by decide, inz_X8⟩
theorem wf_X8_75 : zF RX8 75 8 2 RX8 TX8 32 := ⟨(z_tm 540 (by decide +kernel) (by decide +kernel)), rfl, by decide, inz_X8⟩
theorem wp_X8_75 : zP RX8 75 8 2 RX8 TX8 32 .int := ⟨wf_X8_75, ⟨tyX8, tyX8_ok⟩, nmX8, rfl, by decide +kernel⟩
theorem wf_X8_82 : zF RX8 82 8 4 RX8 TX8 32 := ⟨(z_tm 542 (by decide +kernel) (by decide +kernel)), rfl, by decide, inz_X8⟩
theorem wp_X8_82 : zP RX8 82 8 4 RX8 TX8 32 .int := ⟨wf_X8_82, ⟨tyX8, tyX8_ok⟩, nmX8, rfl, by decide +kernel⟩
theorem wf_X8_93 : zF RX8 93 8 5 RX8 TX8 32 := ⟨(z_tm 543 (by decide +kernel) (by decide +kernel)), rfl, by decide, inz_X8⟩
theorem wp_X8_93 : zP RX8 93 8 5 RX8 TX8 32 .int := ⟨wf_X8_93, ⟨tyX8, tyX8_ok⟩, nmX8, rfl, by decide +kernel⟩
theorem wf_X8_96 : zF RX8 96 8 8 RX8 TX8 32 := ⟨(z_tm 546 (by decide +kernel) (by decide +kernel)), rfl, by decide, inz_X8⟩
theorem wp_X8_96 : zP RX8 96 8 8 RX8 TX8 32 .int := ⟨wf_X8_96, ⟨tyX8, tyX8_ok⟩, nmX8, rfl, by decide +kernel⟩
theorem wf_X8_99 : zF RX8 99 8 9 RX8 TX8 32 := ⟨(z_tm 547 (by decide +kernel) (by decide +kernel)), rfl, by decide, inz_X8⟩
theorem wp_X8_99 : zP RX8 99 8 9 RX8 TX8 32 .int := ⟨wf_X8_99, ⟨tyX8, tyX8_ok⟩, nmX8, rfl, by decide +kernel⟩
theorem wf_X8_102 : zF RX8 102 8 15 RX8 TX8 32 := ⟨(z_tm 553 (by decide +kernel) (by decide +kernel)), rfl, by decide, inz_X8⟩
theorem wp_X8_102 : zP RX8 102 8 15 RX8 TX8 32 .int := ⟨wf_X8_102, ⟨tyX8, tyX8_ok⟩, nmX8, rfl, by decide +kernel⟩
theorem wf_X8_105 : zF RX8 105 8 19 RX8 TX8 32 := ⟨(z_tm 557 (by decide +kernel) (by decide +kernel)), rfl, by decide, inz_X8⟩
theorem wp_X8_105 : zP RX8 105 8 19 RX8 TX8 32 .int := ⟨wf_X8_105, ⟨tyX8, tyX8_ok⟩, nmX8, rfl, by decide +kernel⟩
theorem wf_X8_108 : zF RX8 108 8 23 RX8 TX8 32 := ⟨(z_tm 561 (by decide +kernel) (by decide +kernel)), rfl, by decide, inz_X8⟩
theorem wp_X8_108 : zP RX8 108 8 23 RX8 TX8 32 .int := ⟨wf_X8_108, ⟨tyX8, tyX8_ok⟩, nmX8, rfl, by decide +kernel⟩
theorem wf_X8_119 : zF RX8 119 8 26 RX8 TX8 32 := ⟨(z_tm 564 (by decide +kernel) (by decide +kernel)), rfl, by decide, inz_X8⟩
theorem wp_X8_119 : zP RX8 119 8 26 RX8 TX8 32 .boolean := ⟨wf_X8_119, ⟨tyX8, tyX8_ok⟩, nmX8, rfl, by decide +kernel⟩
theorem wf_X8_123 : zF RX8 123 8 27 RX8 TX8 32 := ⟨(z_tm 565 (by decide +kernel) (by decide +kernel)), rfl, by decide, inz_X8⟩
theorem wp_X8_123 : zP RX8 123 8 27 RX8 TX8 32 .boolean := ⟨wf_X8_123, ⟨tyX8, tyX8_ok⟩, nmX8, rfl, by decide +kernel⟩
theorem wf_X8_130 : zF RX8 130 8 28 RX8 TX8 32 := ⟨(z_tm 566 (by decide +kernel) (by decide +kernel)), rfl, by decide, inz_X8⟩
theorem wp_X8_130 : zP RX8 130 8 28 RX8 TX8 32 .int := ⟨wf_X8_130, ⟨tyX8, tyX8_ok⟩, nmX8, rfl, by decide +kernel⟩
theorem yy_X0_addDaemon : zY yX0_addDaemon cX0_addDaemon 3 (some .int) RX0 2 := ⟨(z_tm 339 (by decide +kernel) (by decide +kernel)), (z_tm 340 (by decide +kernel) (by decide +kernel)), (z_tm 6 (by decide +kernel) (by decide +kernel)), (z_tm 341 (by decide +kernel) (by decide +kernel)), rfl, by decide, by decide, by decide +kernel⟩
theorem yy_X1_addDeed : zY yX1_addDeed cX1_addDeed 4 (some .int) RX1 3 := ⟨(z_tm 311 (by decide +kernel) (by decide +kernel)), (z_tm 312 (by decide +kernel) (by decide +kernel)), (z_tm 3 (by decide +kernel) (by decide +kernel)), (z_tm 313 (by decide +kernel) (by decide +kernel)), rfl, by decide, by decide, by decide +kernel⟩
theorem yy_X2_addEvent : zY yX2_addEvent cX2_addEvent 4 (some .int) RX2 3 := ⟨(z_tm 323 (by decide +kernel) (by decide +kernel)), (z_tm 324 (by decide +kernel) (by decide +kernel)), (z_tm 4 (by decide +kernel) (by decide +kernel)), (z_tm 325 (by decide +kernel) (by decide +kernel)), rfl, by decide, by decide, by decide +kernel⟩
theorem yy_X2_putInOrder : zY yX2_putInOrder cX2_putInOrder 5 none RX2 3 := ⟨(z_tm 425 (by decide +kernel) (by decide +kernel)), (z_tm 426 (by decide +kernel) (by decide +kernel)), (z_tm 4 (by decide +kernel) (by decide +kernel)), (z_tm 427 (by decide +kernel) (by decide +kernel)), rfl, by decide, by decide, by decide +kernel⟩
theorem yy_X3_addDoor : zY yX3_addDoor cX3_addDoor 3 (some .int) RX3 2 := ⟨(z_tm 286 (by decide +kernel) (by decide +kernel)), (z_tm 287 (by decide +kernel) (by decide +kernel)), (z_tm 2 (by decide +kernel) (by decide +kernel)), (z_tm 288 (by decide +kernel) (by decide +kernel)), rfl, by decide, by decide, by decide +kernel⟩
theorem yy_X3_addRoom : zY yX3_addRoom cX3_addRoom 1 (some .int) RX3 0 := ⟨(z_tm 271 (by decide +kernel) (by decide +kernel)), (z_tm 272 (by decide +kernel) (by decide +kernel)), (z_tm 2 (by decide +kernel) (by decide +kernel)), (z_tm 273 (by decide +kernel) (by decide +kernel)), rfl, by decide, by decide, by decide +kernel⟩
theorem yy_X3_addWalker : zY yX3_addWalker cX3_addWalker 1 (some .int) RX3 0 := ⟨(z_tm 294 (by decide +kernel) (by decide +kernel)), (z_tm 295 (by decide +kernel) (by decide +kernel)), (z_tm 2 (by decide +kernel) (by decide +kernel)), (z_tm 296 (by decide +kernel) (by decide +kernel)), rfl, by decide, by decide, by decide +kernel⟩
theorem yy_X3_beyondDoor : zY yX3_beyondDoor cX3_beyondDoor 3 (some .int) RX3 2 := ⟨(z_tm 478 (by decide +kernel) (by decide +kernel)), (z_pm 20 (by decide +kernel) (by decide +kernel)), (z_tm 2 (by decide +kernel) (by decide +kernel)), (z_tm 479 (by decide +kernel) (by decide +kernel)), rfl, by decide, by decide, by decide +kernel⟩
theorem yy_X3_isNearer : zY yX3_isNearer cX3_isNearer 3 (some .boolean) RX3 2 := ⟨(z_tm 482 (by decide +kernel) (by decide +kernel)), (z_pm 21 (by decide +kernel) (by decide +kernel)), (z_tm 2 (by decide +kernel) (by decide +kernel)), (z_tm 483 (by decide +kernel) (by decide +kernel)), rfl, by decide, by decide, by decide +kernel⟩
theorem yy_X3_measureTo : zY yX3_measureTo cX3_measureTo 5 none RX3 2 := ⟨(z_tm 469 (by decide +kernel) (by decide +kernel)), (z_tm 470 (by decide +kernel) (by decide +kernel)), (z_tm 2 (by decide +kernel) (by decide +kernel)), (z_tm 471 (by decide +kernel) (by decide +kernel)), rfl, by decide, by decide, by decide +kernel⟩
theorem yy_X3_nextRoom : zY yX3_nextRoom cX3_nextRoom 7 (some .int) RX3 3 := ⟨(z_tm 465 (by decide +kernel) (by decide +kernel)), (z_tm 466 (by decide +kernel) (by decide +kernel)), (z_tm 2 (by decide +kernel) (by decide +kernel)), (z_tm 467 (by decide +kernel) (by decide +kernel)), rfl, by decide, by decide, by decide +kernel⟩
theorem yy_X3_spread : zY yX3_spread cX3_spread 4 none RX3 3 := ⟨(z_tm 474 (by decide +kernel) (by decide +kernel)), (z_pm 19 (by decide +kernel) (by decide +kernel)), (z_tm 2 (by decide +kernel) (by decide +kernel)), (z_tm 475 (by decide +kernel) (by decide +kernel)), rfl, by decide, by decide, by decide +kernel⟩
theorem yy_X4_addRow : zY yX4_addRow cX4_addRow 3 none RX4 2 := ⟨(z_tm 437 (by decide +kernel) (by decide +kernel)), (z_tm 438 (by decide +kernel) (by decide +kernel)), (z_tm 7 (by decide +kernel) (by decide +kernel)), (z_tm 439 (by decide +kernel) (by decide +kernel)), rfl, by decide, by decide, by decide +kernel⟩
theorem yy_X4_copyFlags : zYs yX4_copyFlags cX4_copyFlags 3 none 2 := ⟨(z_tm 410 (by decide +kernel) (by decide +kernel)), (z_tm 7 (by decide +kernel) (by decide +kernel)), (z_tm 411 (by decide +kernel) (by decide +kernel)), by decide, by decide, by decide +kernel⟩
theorem yy_X4_copyFrom : zY yX4_copyFrom cX4_copyFrom 2 none RX4 1 := ⟨(z_tm 403 (by decide +kernel) (by decide +kernel)), (z_tm 404 (by decide +kernel) (by decide +kernel)), (z_tm 7 (by decide +kernel) (by decide +kernel)), (z_tm 405 (by decide +kernel) (by decide +kernel)), rfl, by decide, by decide, by decide +kernel⟩
theorem yy_X4_goOn : zY yX4_goOn cX4_goOn 2 none RX4 1 := ⟨(z_tm 429 (by decide +kernel) (by decide +kernel)), (z_tm 430 (by decide +kernel) (by decide +kernel)), (z_tm 7 (by decide +kernel) (by decide +kernel)), (z_tm 431 (by decide +kernel) (by decide +kernel)), rfl, by decide, by decide, by decide +kernel⟩
theorem yy_X4_growCounter : zY yX4_growCounter cX4_growCounter 3 none RX4 2 := ⟨(z_tm 355 (by decide +kernel) (by decide +kernel)), (z_tm 356 (by decide +kernel) (by decide +kernel)), (z_tm 7 (by decide +kernel) (by decide +kernel)), (z_tm 357 (by decide +kernel) (by decide +kernel)), rfl, by decide, by decide, by decide +kernel⟩
theorem yy_X5_dropOldest : zY yX5_dropOldest cX5_dropOldest 3 none RX5 0 := ⟨(z_tm 400 (by decide +kernel) (by decide +kernel)), (z_pm 8 (by decide +kernel) (by decide +kernel)), (z_tm 8 (by decide +kernel) (by decide +kernel)), (z_tm 401 (by decide +kernel) (by decide +kernel)), rfl, by decide, by decide, by decide +kernel⟩
theorem yy_X5_giveBack : zY yX5_giveBack cX5_giveBack 2 none RX5 1 := ⟨(z_tm 489 (by decide +kernel) (by decide +kernel)), (z_tm 490 (by decide +kernel) (by decide +kernel)), (z_tm 8 (by decide +kernel) (by decide +kernel)), (z_tm 491 (by decide +kernel) (by decide +kernel)), rfl, by decide, by decide, by decide +kernel⟩
theorem yy_X5_keep : zY yX5_keep cX5_keep 2 none RX5 1 := ⟨(z_tm 395 (by decide +kernel) (by decide +kernel)), (z_tm 396 (by decide +kernel) (by decide +kernel)), (z_tm 8 (by decide +kernel) (by decide +kernel)), (z_tm 397 (by decide +kernel) (by decide +kernel)), rfl, by decide, by decide, by decide +kernel⟩
theorem yy_X6_addTimer : zY yX6_addTimer cX6_addTimer 4 (some .int) RX6 3 := ⟨(z_tm 331 (by decide +kernel) (by decide +kernel)), (z_tm 332 (by decide +kernel) (by decide +kernel)), (z_tm 5 (by decide +kernel) (by decide +kernel)), (z_tm 333 (by decide +kernel) (by decide +kernel)), rfl, by decide, by decide, by decide +kernel⟩
theorem yy_X7_act : zY yX7_act cX7_act 2 (some .int) RX7 1 := ⟨(z_tm 343 (by decide +kernel) (by decide +kernel)), (z_tm 344 (by decide +kernel) (by decide +kernel)), (z_tm 1 (by decide +kernel) (by decide +kernel)), (z_tm 345 (by decide +kernel) (by decide +kernel)), rfl, by decide, by decide, by decide +kernel⟩
theorem yy_X7_asNumber : zYs yX7_asNumber cX7_asNumber 1 (some .int) 1 := ⟨(z_tm 513 (by decide +kernel) (by decide +kernel)), (z_tm 1 (by decide +kernel) (by decide +kernel)), (z_tm 514 (by decide +kernel) (by decide +kernel)), by decide, by decide, by decide +kernel⟩
theorem yy_X7_back : zY yX7_back cX7_back 1 (some .int) RX7 0 := ⟨(z_tm 485 (by decide +kernel) (by decide +kernel)), (z_tm 486 (by decide +kernel) (by decide +kernel)), (z_tm 1 (by decide +kernel) (by decide +kernel)), (z_tm 487 (by decide +kernel) (by decide +kernel)), rfl, by decide, by decide, by decide +kernel⟩
theorem yy_X7_bringEvent : zY yX7_bringEvent cX7_bringEvent 2 none RX7 1 := ⟨(z_tm 434 (by decide +kernel) (by decide +kernel)), (z_pm 12 (by decide +kernel) (by decide +kernel)), (z_tm 1 (by decide +kernel) (by decide +kernel)), (z_tm 435 (by decide +kernel) (by decide +kernel)), rfl, by decide, by decide, by decide +kernel⟩
theorem yy_X7_bringEvents : zY yX7_bringEvents cX7_bringEvents 4 none RX7 0 := ⟨(z_tm 414 (by decide +kernel) (by decide +kernel)), (z_pm 9 (by decide +kernel) (by decide +kernel)), (z_tm 1 (by decide +kernel) (by decide +kernel)), (z_tm 415 (by decide +kernel) (by decide +kernel)), rfl, by decide, by decide, by decide +kernel⟩
theorem yy_X7_carryOut : zY yX7_carryOut cX7_carryOut 4 none RX7 3 := ⟨(z_tm 352 (by decide +kernel) (by decide +kernel)), (z_pm 2 (by decide +kernel) (by decide +kernel)), (z_tm 1 (by decide +kernel) (by decide +kernel)), (z_tm 353 (by decide +kernel) (by decide +kernel)), rfl, by decide, by decide, by decide +kernel⟩
theorem yy_X7_closePast : zY yX7_closePast cX7_closePast 2 (some .int) RX7 1 := ⟨(z_tm 276 (by decide +kernel) (by decide +kernel)), (z_pm 0 (by decide +kernel) (by decide +kernel)), (z_tm 1 (by decide +kernel) (by decide +kernel)), (z_tm 277 (by decide +kernel) (by decide +kernel)), rfl, by decide, by decide, by decide +kernel⟩
theorem yy_X7_condition : zY yX7_condition cX7_condition 4 (some .int) RX7 3 := ⟨(z_tm 315 (by decide +kernel) (by decide +kernel)), (z_tm 316 (by decide +kernel) (by decide +kernel)), (z_tm 1 (by decide +kernel) (by decide +kernel)), (z_tm 317 (by decide +kernel) (by decide +kernel)), rfl, by decide, by decide, by decide +kernel⟩
theorem yy_X7_count : zY yX7_count cX7_count 2 (some .int) RX7 1 := ⟨(z_tm 497 (by decide +kernel) (by decide +kernel)), (z_tm 498 (by decide +kernel) (by decide +kernel)), (z_tm 1 (by decide +kernel) (by decide +kernel)), (z_tm 499 (by decide +kernel) (by decide +kernel)), rfl, by decide, by decide, by decide +kernel⟩
theorem yy_X7_counter : zY yX7_counter cX7_counter 2 (some .int) RX7 1 := ⟨(z_tm 501 (by decide +kernel) (by decide +kernel)), (z_tm 502 (by decide +kernel) (by decide +kernel)), (z_tm 1 (by decide +kernel) (by decide +kernel)), (z_tm 503 (by decide +kernel) (by decide +kernel)), rfl, by decide, by decide, by decide +kernel⟩
theorem yy_X7_daemon : zY yX7_daemon cX7_daemon 3 (some .int) RX7 2 := ⟨(z_tm 335 (by decide +kernel) (by decide +kernel)), (z_tm 336 (by decide +kernel) (by decide +kernel)), (z_tm 1 (by decide +kernel) (by decide +kernel)), (z_tm 337 (by decide +kernel) (by decide +kernel)), rfl, by decide, by decide, by decide +kernel⟩
theorem yy_X7_deed : zY yX7_deed cX7_deed 4 (some .int) RX7 3 := ⟨(z_tm 298 (by decide +kernel) (by decide +kernel)), (z_tm 299 (by decide +kernel) (by decide +kernel)), (z_tm 1 (by decide +kernel) (by decide +kernel)), (z_tm 300 (by decide +kernel) (by decide +kernel)), rfl, by decide, by decide, by decide +kernel⟩
theorem yy_X7_doDeed : zY yX7_doDeed cX7_doDeed 3 (some .boolean) RX7 1 := ⟨(z_tm 348 (by decide +kernel) (by decide +kernel)), (z_pm 1 (by decide +kernel) (by decide +kernel)), (z_tm 1 (by decide +kernel) (by decide +kernel)), (z_tm 349 (by decide +kernel) (by decide +kernel)), rfl, by decide, by decide, by decide +kernel⟩
theorem yy_X7_door : zY yX7_door cX7_door 3 (some .int) RX7 2 := ⟨(z_tm 279 (by decide +kernel) (by decide +kernel)), (z_tm 280 (by decide +kernel) (by decide +kernel)), (z_tm 1 (by decide +kernel) (by decide +kernel)), (z_tm 281 (by decide +kernel) (by decide +kernel)), rfl, by decide, by decide, by decide +kernel⟩
theorem yy_X7_event : zY yX7_event cX7_event 4 (some .int) RX7 3 := ⟨(z_tm 319 (by decide +kernel) (by decide +kernel)), (z_tm 320 (by decide +kernel) (by decide +kernel)), (z_tm 1 (by decide +kernel) (by decide +kernel)), (z_tm 321 (by decide +kernel) (by decide +kernel)), rfl, by decide, by decide, by decide +kernel⟩
theorem yy_X7_giveGoal : zY yX7_giveGoal cX7_giveGoal 3 none RX7 2 := ⟨(z_tm 383 (by decide +kernel) (by decide +kernel)), (z_pm 7 (by decide +kernel) (by decide +kernel)), (z_tm 1 (by decide +kernel) (by decide +kernel)), (z_tm 384 (by decide +kernel) (by decide +kernel)), rfl, by decide, by decide, by decide +kernel⟩
theorem yy_X7_is : zY yX7_is cX7_is 3 (some .int) RX7 2 := ⟨(z_tm 509 (by decide +kernel) (by decide +kernel)), (z_tm 510 (by decide +kernel) (by decide +kernel)), (z_tm 1 (by decide +kernel) (by decide +kernel)), (z_tm 511 (by decide +kernel) (by decide +kernel)), rfl, by decide, by decide, by decide +kernel⟩
theorem yy_X7_isCounter : zYs yX7_isCounter cX7_isCounter 1 (some .boolean) 1 := ⟨(z_tm 305 (by decide +kernel) (by decide +kernel)), (z_tm 1 (by decide +kernel) (by decide +kernel)), (z_tm 306 (by decide +kernel) (by decide +kernel)), by decide, by decide, by decide +kernel⟩
theorem yy_X7_isCounterValue : zYs yX7_isCounterValue cX7_isCounterValue 1 (some .boolean) 1 := ⟨(z_tm 308 (by decide +kernel) (by decide +kernel)), (z_tm 1 (by decide +kernel) (by decide +kernel)), (z_tm 309 (by decide +kernel) (by decide +kernel)), by decide, by decide, by decide +kernel⟩
theorem yy_X7_isThere : zYs yX7_isThere cX7_isThere 2 (some .boolean) 2 := ⟨(z_tm 283 (by decide +kernel) (by decide +kernel)), (z_tm 1 (by decide +kernel) (by decide +kernel)), (z_tm 284 (by decide +kernel) (by decide +kernel)), by decide, by decide, by decide +kernel⟩
theorem yy_X7_isWithin : zYs yX7_isWithin cX7_isWithin 3 (some .boolean) 3 := ⟨(z_tm 302 (by decide +kernel) (by decide +kernel)), (z_tm 1 (by decide +kernel) (by decide +kernel)), (z_tm 303 (by decide +kernel) (by decide +kernel)), by decide, by decide, by decide +kernel⟩
theorem yy_X7_left : zY yX7_left cX7_left 2 (some .int) RX7 1 := ⟨(z_tm 505 (by decide +kernel) (by decide +kernel)), (z_tm 506 (by decide +kernel) (by decide +kernel)), (z_tm 1 (by decide +kernel) (by decide +kernel)), (z_tm 507 (by decide +kernel) (by decide +kernel)), rfl, by decide, by decide, by decide +kernel⟩
theorem yy_X7_lineUpEvents : zY yX7_lineUpEvents cX7_lineUpEvents 5 (some .int) RX7 1 := ⟨(z_tm 418 (by decide +kernel) (by decide +kernel)), (z_pm 10 (by decide +kernel) (by decide +kernel)), (z_tm 1 (by decide +kernel) (by decide +kernel)), (z_tm 419 (by decide +kernel) (by decide +kernel)), rfl, by decide, by decide, by decide +kernel⟩
theorem yy_X7_minutes : zY yX7_minutes cX7_minutes 2 (some .int) RX7 1 := ⟨(z_tm 529 (by decide +kernel) (by decide +kernel)), (z_tm 530 (by decide +kernel) (by decide +kernel)), (z_tm 1 (by decide +kernel) (by decide +kernel)), (z_tm 531 (by decide +kernel) (by decide +kernel)), rfl, by decide, by decide, by decide +kernel⟩
theorem yy_X7_minutesUntil : zY yX7_minutesUntil cX7_minutesUntil 3 (some .int) RX7 1 := ⟨(z_tm 422 (by decide +kernel) (by decide +kernel)), (z_pm 11 (by decide +kernel) (by decide +kernel)), (z_tm 1 (by decide +kernel) (by decide +kernel)), (z_tm 423 (by decide +kernel) (by decide +kernel)), rfl, by decide, by decide, by decide +kernel⟩
theorem yy_X7_moveWalker : zY yX7_moveWalker cX7_moveWalker 3 none RX7 1 := ⟨(z_tm 462 (by decide +kernel) (by decide +kernel)), (z_pm 18 (by decide +kernel) (by decide +kernel)), (z_tm 1 (by decide +kernel) (by decide +kernel)), (z_tm 463 (by decide +kernel) (by decide +kernel)), rfl, by decide, by decide, by decide +kernel⟩
theorem yy_X7_moveWalkers : zY yX7_moveWalkers cX7_moveWalkers 2 none RX7 0 := ⟨(z_tm 458 (by decide +kernel) (by decide +kernel)), (z_pm 17 (by decide +kernel) (by decide +kernel)), (z_tm 1 (by decide +kernel) (by decide +kernel)), (z_tm 459 (by decide +kernel) (by decide +kernel)), rfl, by decide, by decide, by decide +kernel⟩
theorem yy_X7_pace : zY yX7_pace cX7_pace 3 (some .int) RX7 1 := ⟨(z_tm 387 (by decide +kernel) (by decide +kernel)), (z_tm 388 (by decide +kernel) (by decide +kernel)), (z_tm 1 (by decide +kernel) (by decide +kernel)), (z_tm 389 (by decide +kernel) (by decide +kernel)), rfl, by decide, by decide, by decide +kernel⟩
theorem yy_X7_room : zY yX7_room cX7_room 1 (some .int) RX7 0 := ⟨(z_tm 267 (by decide +kernel) (by decide +kernel)), (z_tm 268 (by decide +kernel) (by decide +kernel)), (z_tm 1 (by decide +kernel) (by decide +kernel)), (z_tm 269 (by decide +kernel) (by decide +kernel)), rfl, by decide, by decide, by decide +kernel⟩
theorem yy_X7_row : zY yX7_row cX7_row 3 (some .int) RX7 2 := ⟨(z_tm 525 (by decide +kernel) (by decide +kernel)), (z_tm 526 (by decide +kernel) (by decide +kernel)), (z_tm 1 (by decide +kernel) (by decide +kernel)), (z_tm 527 (by decide +kernel) (by decide +kernel)), rfl, by decide, by decide, by decide +kernel⟩
theorem yy_X7_runDaemons : zY yX7_runDaemons cX7_runDaemons 2 none RX7 0 := ⟨(z_tm 450 (by decide +kernel) (by decide +kernel)), (z_pm 15 (by decide +kernel) (by decide +kernel)), (z_tm 1 (by decide +kernel) (by decide +kernel)), (z_tm 451 (by decide +kernel) (by decide +kernel)), rfl, by decide, by decide, by decide +kernel⟩
theorem yy_X7_runDaemonsOf : zY yX7_runDaemonsOf cX7_runDaemonsOf 3 none RX7 1 := ⟨(z_tm 454 (by decide +kernel) (by decide +kernel)), (z_pm 16 (by decide +kernel) (by decide +kernel)), (z_tm 1 (by decide +kernel) (by decide +kernel)), (z_tm 455 (by decide +kernel) (by decide +kernel)), rfl, by decide, by decide, by decide +kernel⟩
theorem yy_X7_runTimer : zY yX7_runTimer cX7_runTimer 2 none RX7 1 := ⟨(z_tm 446 (by decide +kernel) (by decide +kernel)), (z_pm 14 (by decide +kernel) (by decide +kernel)), (z_tm 1 (by decide +kernel) (by decide +kernel)), (z_tm 447 (by decide +kernel) (by decide +kernel)), rfl, by decide, by decide, by decide +kernel⟩
theorem yy_X7_runTimers : zY yX7_runTimers cX7_runTimers 2 none RX7 0 := ⟨(z_tm 442 (by decide +kernel) (by decide +kernel)), (z_pm 13 (by decide +kernel) (by decide +kernel)), (z_tm 1 (by decide +kernel) (by decide +kernel)), (z_tm 443 (by decide +kernel) (by decide +kernel)), rfl, by decide, by decide, by decide +kernel⟩
theorem yy_X7_startTimer : zY yX7_startTimer cX7_startTimer 2 none RX7 1 := ⟨(z_tm 367 (by decide +kernel) (by decide +kernel)), (z_pm 3 (by decide +kernel) (by decide +kernel)), (z_tm 1 (by decide +kernel) (by decide +kernel)), (z_tm 368 (by decide +kernel) (by decide +kernel)), rfl, by decide, by decide, by decide +kernel⟩
theorem yy_X7_stopTimer : zY yX7_stopTimer cX7_stopTimer 2 none RX7 1 := ⟨(z_tm 371 (by decide +kernel) (by decide +kernel)), (z_pm 4 (by decide +kernel) (by decide +kernel)), (z_tm 1 (by decide +kernel) (by decide +kernel)), (z_tm 372 (by decide +kernel) (by decide +kernel)), rfl, by decide, by decide, by decide +kernel⟩
theorem yy_X7_switchDaemon : zY yX7_switchDaemon cX7_switchDaemon 3 none RX7 2 := ⟨(z_tm 375 (by decide +kernel) (by decide +kernel)), (z_pm 5 (by decide +kernel) (by decide +kernel)), (z_tm 1 (by decide +kernel) (by decide +kernel)), (z_tm 376 (by decide +kernel) (by decide +kernel)), rfl, by decide, by decide, by decide +kernel⟩
theorem yy_X7_timer : zY yX7_timer cX7_timer 4 (some .int) RX7 3 := ⟨(z_tm 327 (by decide +kernel) (by decide +kernel)), (z_tm 328 (by decide +kernel) (by decide +kernel)), (z_tm 1 (by decide +kernel) (by decide +kernel)), (z_tm 329 (by decide +kernel) (by decide +kernel)), rfl, by decide, by decide, by decide +kernel⟩
theorem yy_X7_told : zY yX7_told cX7_told 2 (some .int) RX7 1 := ⟨(z_tm 493 (by decide +kernel) (by decide +kernel)), (z_tm 494 (by decide +kernel) (by decide +kernel)), (z_tm 1 (by decide +kernel) (by decide +kernel)), (z_tm 495 (by decide +kernel) (by decide +kernel)), rfl, by decide, by decide, by decide +kernel⟩
theorem yy_X7_turn : zY yX7_turn cX7_turn 1 (some .int) RX7 0 := ⟨(z_tm 391 (by decide +kernel) (by decide +kernel)), (z_tm 392 (by decide +kernel) (by decide +kernel)), (z_tm 1 (by decide +kernel) (by decide +kernel)), (z_tm 393 (by decide +kernel) (by decide +kernel)), rfl, by decide, by decide, by decide +kernel⟩
theorem yy_X7_turnDoor : zY yX7_turnDoor cX7_turnDoor 2 none RX7 1 := ⟨(z_tm 379 (by decide +kernel) (by decide +kernel)), (z_pm 6 (by decide +kernel) (by decide +kernel)), (z_tm 1 (by decide +kernel) (by decide +kernel)), (z_tm 380 (by decide +kernel) (by decide +kernel)), rfl, by decide, by decide, by decide +kernel⟩
theorem yy_X7_walker : zY yX7_walker cX7_walker 3 (some .int) RX7 1 := ⟨(z_tm 290 (by decide +kernel) (by decide +kernel)), (z_tm 291 (by decide +kernel) (by decide +kernel)), (z_tm 1 (by decide +kernel) (by decide +kernel)), (z_tm 292 (by decide +kernel) (by decide +kernel)), rfl, by decide, by decide, by decide +kernel⟩
theorem yy_X7_walks : zY yX7_walks cX7_walks 3 (some .int) RX7 2 := ⟨(z_tm 516 (by decide +kernel) (by decide +kernel)), (z_tm 517 (by decide +kernel) (by decide +kernel)), (z_tm 1 (by decide +kernel) (by decide +kernel)), (z_tm 518 (by decide +kernel) (by decide +kernel)), rfl, by decide, by decide, by decide +kernel⟩
theorem yy_X7_way : zY yX7_way cX7_way 3 (some .int) RX7 2 := ⟨(z_tm 520 (by decide +kernel) (by decide +kernel)), (z_tm 521 (by decide +kernel) (by decide +kernel)), (z_tm 1 (by decide +kernel) (by decide +kernel)), (z_tm 522 (by decide +kernel) (by decide +kernel)), rfl, by decide, by decide, by decide +kernel⟩
theorem yy_X8_act : zY yX8_act cX8_act 3 (some .int) RX8 1 := ⟨(z_tm 678 (by decide +kernel) (by decide +kernel)), (z_tm 679 (by decide +kernel) (by decide +kernel)), (z_tm 9 (by decide +kernel) (by decide +kernel)), (z_tm 680 (by decide +kernel) (by decide +kernel)), rfl, by decide, by decide, by decide +kernel⟩
theorem yy_X8_back : zY yX8_back cX8_back 2 (some .int) RX8 0 := ⟨(z_tm 733 (by decide +kernel) (by decide +kernel)), (z_tm 734 (by decide +kernel) (by decide +kernel)), (z_tm 9 (by decide +kernel) (by decide +kernel)), (z_tm 735 (by decide +kernel) (by decide +kernel)), rfl, by decide, by decide, by decide +kernel⟩
theorem yy_X8_bound : zYs yX8_bound cX8_bound 3 (some .int) 3 := ⟨(z_tm 690 (by decide +kernel) (by decide +kernel)), (z_tm 9 (by decide +kernel) (by decide +kernel)), (z_tm 691 (by decide +kernel) (by decide +kernel)), by decide, by decide, by decide +kernel⟩
theorem yy_X8_changed : zY yX8_changed cX8_changed 2 (some .int) RX8 1 := ⟨(z_tm 641 (by decide +kernel) (by decide +kernel)), (z_pm 22 (by decide +kernel) (by decide +kernel)), (z_tm 9 (by decide +kernel) (by decide +kernel)), (z_tm 642 (by decide +kernel) (by decide +kernel)), rfl, by decide, by decide, by decide +kernel⟩
theorem yy_X8_condition : zY yX8_condition cX8_condition 4 (some .int) RX8 3 := ⟨(z_tm 662 (by decide +kernel) (by decide +kernel)), (z_tm 663 (by decide +kernel) (by decide +kernel)), (z_tm 9 (by decide +kernel) (by decide +kernel)), (z_tm 664 (by decide +kernel) (by decide +kernel)), rfl, by decide, by decide, by decide +kernel⟩
theorem yy_X8_count : zY yX8_count cX8_count 2 (some .int) RX8 1 := ⟨(z_tm 741 (by decide +kernel) (by decide +kernel)), (z_tm 742 (by decide +kernel) (by decide +kernel)), (z_tm 9 (by decide +kernel) (by decide +kernel)), (z_tm 743 (by decide +kernel) (by decide +kernel)), rfl, by decide, by decide, by decide +kernel⟩
theorem yy_X8_counter : zY yX8_counter cX8_counter 2 (some .int) RX8 1 := ⟨(z_tm 745 (by decide +kernel) (by decide +kernel)), (z_tm 746 (by decide +kernel) (by decide +kernel)), (z_tm 9 (by decide +kernel) (by decide +kernel)), (z_tm 747 (by decide +kernel) (by decide +kernel)), rfl, by decide, by decide, by decide +kernel⟩
theorem yy_X8_daemon : zY yX8_daemon cX8_daemon 3 (some .int) RX8 2 := ⟨(z_tm 674 (by decide +kernel) (by decide +kernel)), (z_tm 675 (by decide +kernel) (by decide +kernel)), (z_tm 9 (by decide +kernel) (by decide +kernel)), (z_tm 676 (by decide +kernel) (by decide +kernel)), rfl, by decide, by decide, by decide +kernel⟩
theorem yy_X8_deed : zY yX8_deed cX8_deed 5 (some .int) RX8 3 := ⟨(z_tm 658 (by decide +kernel) (by decide +kernel)), (z_tm 659 (by decide +kernel) (by decide +kernel)), (z_tm 9 (by decide +kernel) (by decide +kernel)), (z_tm 660 (by decide +kernel) (by decide +kernel)), rfl, by decide, by decide, by decide +kernel⟩
theorem yy_X8_door : zY yX8_door cX8_door 3 (some .int) RX8 2 := ⟨(z_tm 644 (by decide +kernel) (by decide +kernel)), (z_tm 645 (by decide +kernel) (by decide +kernel)), (z_tm 9 (by decide +kernel) (by decide +kernel)), (z_tm 646 (by decide +kernel) (by decide +kernel)), rfl, by decide, by decide, by decide +kernel⟩
theorem yy_X8_event : zY yX8_event cX8_event 4 (some .int) RX8 3 := ⟨(z_tm 666 (by decide +kernel) (by decide +kernel)), (z_tm 667 (by decide +kernel) (by decide +kernel)), (z_tm 9 (by decide +kernel) (by decide +kernel)), (z_tm 668 (by decide +kernel) (by decide +kernel)), rfl, by decide, by decide, by decide +kernel⟩
theorem yy_X8_findWays : zY yX8_findWays cX8_findWays 4 none RX8 1 := ⟨(z_tm 722 (by decide +kernel) (by decide +kernel)), (z_pm 30 (by decide +kernel) (by decide +kernel)), (z_tm 9 (by decide +kernel) (by decide +kernel)), (z_tm 723 (by decide +kernel) (by decide +kernel)), rfl, by decide, by decide, by decide +kernel⟩
theorem yy_X8_goDaemons : zY yX8_goDaemons cX8_goDaemons 3 none RX8 0 := ⟨(z_tm 714 (by decide +kernel) (by decide +kernel)), (z_pm 28 (by decide +kernel) (by decide +kernel)), (z_tm 9 (by decide +kernel) (by decide +kernel)), (z_tm 715 (by decide +kernel) (by decide +kernel)), rfl, by decide, by decide, by decide +kernel⟩
theorem yy_X8_goTime : zY yX8_goTime cX8_goTime 7 none RX8 0 := ⟨(z_tm 702 (by decide +kernel) (by decide +kernel)), (z_pm 25 (by decide +kernel) (by decide +kernel)), (z_tm 9 (by decide +kernel) (by decide +kernel)), (z_tm 703 (by decide +kernel) (by decide +kernel)), rfl, by decide, by decide, by decide +kernel⟩
theorem yy_X8_goTimers : zY yX8_goTimers cX8_goTimers 2 none RX8 0 := ⟨(z_tm 710 (by decide +kernel) (by decide +kernel)), (z_pm 27 (by decide +kernel) (by decide +kernel)), (z_tm 9 (by decide +kernel) (by decide +kernel)), (z_tm 711 (by decide +kernel) (by decide +kernel)), rfl, by decide, by decide, by decide +kernel⟩
theorem yy_X8_goWalkers : zY yX8_goWalkers cX8_goWalkers 6 none RX8 0 := ⟨(z_tm 718 (by decide +kernel) (by decide +kernel)), (z_pm 29 (by decide +kernel) (by decide +kernel)), (z_tm 9 (by decide +kernel) (by decide +kernel)), (z_tm 719 (by decide +kernel) (by decide +kernel)), rfl, by decide, by decide, by decide +kernel⟩
theorem yy_X8_holds : zY yX8_holds cX8_holds 2 (some .boolean) RX8 1 := ⟨(z_tm 683 (by decide +kernel) (by decide +kernel)), (z_pm 23 (by decide +kernel) (by decide +kernel)), (z_tm 9 (by decide +kernel) (by decide +kernel)), (z_tm 684 (by decide +kernel) (by decide +kernel)), rfl, by decide, by decide, by decide +kernel⟩
theorem yy_X8_in : zYs yX8_in cX8_in 3 (some .boolean) 3 := ⟨(z_tm 651 (by decide +kernel) (by decide +kernel)), (z_tm 9 (by decide +kernel) (by decide +kernel)), (z_tm 652 (by decide +kernel) (by decide +kernel)), by decide, by decide, by decide +kernel⟩
theorem yy_X8_is : zY yX8_is cX8_is 3 (some .int) RX8 2 := ⟨(z_tm 753 (by decide +kernel) (by decide +kernel)), (z_tm 754 (by decide +kernel) (by decide +kernel)), (z_tm 9 (by decide +kernel) (by decide +kernel)), (z_tm 755 (by decide +kernel) (by decide +kernel)), rfl, by decide, by decide, by decide +kernel⟩
theorem yy_X8_isJoined : zY yX8_isJoined cX8_isJoined 6 (some .boolean) RX8 2 := ⟨(z_tm 730 (by decide +kernel) (by decide +kernel)), (z_pm 32 (by decide +kernel) (by decide +kernel)), (z_tm 9 (by decide +kernel) (by decide +kernel)), (z_tm 731 (by decide +kernel) (by decide +kernel)), rfl, by decide, by decide, by decide +kernel⟩
theorem yy_X8_isOf : zYs yX8_isOf cX8_isOf 2 (some .boolean) 2 := ⟨(z_tm 648 (by decide +kernel) (by decide +kernel)), (z_tm 9 (by decide +kernel) (by decide +kernel)), (z_tm 649 (by decide +kernel) (by decide +kernel)), by decide, by decide, by decide +kernel⟩
theorem yy_X8_left : zY yX8_left cX8_left 2 (some .int) RX8 1 := ⟨(z_tm 749 (by decide +kernel) (by decide +kernel)), (z_tm 750 (by decide +kernel) (by decide +kernel)), (z_tm 9 (by decide +kernel) (by decide +kernel)), (z_tm 751 (by decide +kernel) (by decide +kernel)), rfl, by decide, by decide, by decide +kernel⟩
theorem yy_X8_minutes : zY yX8_minutes cX8_minutes 3 (some .int) RX8 1 := ⟨(z_tm 769 (by decide +kernel) (by decide +kernel)), (z_tm 770 (by decide +kernel) (by decide +kernel)), (z_tm 9 (by decide +kernel) (by decide +kernel)), (z_tm 771 (by decide +kernel) (by decide +kernel)), rfl, by decide, by decide, by decide +kernel⟩
theorem yy_X8_pace : zY yX8_pace cX8_pace 3 (some .int) RX8 1 := ⟨(z_tm 693 (by decide +kernel) (by decide +kernel)), (z_tm 694 (by decide +kernel) (by decide +kernel)), (z_tm 9 (by decide +kernel) (by decide +kernel)), (z_tm 695 (by decide +kernel) (by decide +kernel)), rfl, by decide, by decide, by decide +kernel⟩
theorem yy_X8_perform : zY yX8_perform cX8_perform 4 none RX8 1 := ⟨(z_tm 687 (by decide +kernel) (by decide +kernel)), (z_pm 24 (by decide +kernel) (by decide +kernel)), (z_tm 9 (by decide +kernel) (by decide +kernel)), (z_tm 688 (by decide +kernel) (by decide +kernel)), rfl, by decide, by decide, by decide +kernel⟩
theorem yy_X8_room : zY yX8_room cX8_room 1 (some .int) RX8 0 := ⟨(z_tm 636 (by decide +kernel) (by decide +kernel)), (z_tm 637 (by decide +kernel) (by decide +kernel)), (z_tm 9 (by decide +kernel) (by decide +kernel)), (z_tm 638 (by decide +kernel) (by decide +kernel)), rfl, by decide, by decide, by decide +kernel⟩
theorem yy_X8_row : zY yX8_row cX8_row 3 (some .int) RX8 2 := ⟨(z_tm 765 (by decide +kernel) (by decide +kernel)), (z_tm 766 (by decide +kernel) (by decide +kernel)), (z_tm 9 (by decide +kernel) (by decide +kernel)), (z_tm 767 (by decide +kernel) (by decide +kernel)), rfl, by decide, by decide, by decide +kernel⟩
theorem yy_X8_step : zY yX8_step cX8_step 3 none RX8 2 := ⟨(z_tm 726 (by decide +kernel) (by decide +kernel)), (z_pm 31 (by decide +kernel) (by decide +kernel)), (z_tm 9 (by decide +kernel) (by decide +kernel)), (z_tm 727 (by decide +kernel) (by decide +kernel)), rfl, by decide, by decide, by decide +kernel⟩
theorem yy_X8_tell : zY yX8_tell cX8_tell 3 none RX8 2 := ⟨(z_tm 706 (by decide +kernel) (by decide +kernel)), (z_pm 26 (by decide +kernel) (by decide +kernel)), (z_tm 9 (by decide +kernel) (by decide +kernel)), (z_tm 707 (by decide +kernel) (by decide +kernel)), rfl, by decide, by decide, by decide +kernel⟩
theorem yy_X8_timer : zY yX8_timer cX8_timer 4 (some .int) RX8 3 := ⟨(z_tm 670 (by decide +kernel) (by decide +kernel)), (z_tm 671 (by decide +kernel) (by decide +kernel)), (z_tm 9 (by decide +kernel) (by decide +kernel)), (z_tm 672 (by decide +kernel) (by decide +kernel)), rfl, by decide, by decide, by decide +kernel⟩
theorem yy_X8_told : zY yX8_told cX8_told 2 (some .int) RX8 1 := ⟨(z_tm 737 (by decide +kernel) (by decide +kernel)), (z_tm 738 (by decide +kernel) (by decide +kernel)), (z_tm 9 (by decide +kernel) (by decide +kernel)), (z_tm 739 (by decide +kernel) (by decide +kernel)), rfl, by decide, by decide, by decide +kernel⟩
theorem yy_X8_turn : zY yX8_turn cX8_turn 2 (some .int) RX8 0 := ⟨(z_tm 697 (by decide +kernel) (by decide +kernel)), (z_tm 698 (by decide +kernel) (by decide +kernel)), (z_tm 9 (by decide +kernel) (by decide +kernel)), (z_tm 699 (by decide +kernel) (by decide +kernel)), rfl, by decide, by decide, by decide +kernel⟩
theorem yy_X8_walker : zY yX8_walker cX8_walker 2 (some .int) RX8 1 := ⟨(z_tm 654 (by decide +kernel) (by decide +kernel)), (z_tm 655 (by decide +kernel) (by decide +kernel)), (z_tm 9 (by decide +kernel) (by decide +kernel)), (z_tm 656 (by decide +kernel) (by decide +kernel)), rfl, by decide, by decide, by decide +kernel⟩
theorem yy_X8_walks : zY yX8_walks cX8_walks 3 (some .int) RX8 2 := ⟨(z_tm 757 (by decide +kernel) (by decide +kernel)), (z_tm 758 (by decide +kernel) (by decide +kernel)), (z_tm 9 (by decide +kernel) (by decide +kernel)), (z_tm 759 (by decide +kernel) (by decide +kernel)), rfl, by decide, by decide, by decide +kernel⟩
theorem yy_X8_way : zY yX8_way cX8_way 3 (some .int) RX8 2 := ⟨(z_tm 761 (by decide +kernel) (by decide +kernel)), (z_tm 762 (by decide +kernel) (by decide +kernel)), (z_tm 9 (by decide +kernel) (by decide +kernel)), (z_tm 763 (by decide +kernel) (by decide +kernel)), rfl, by decide, by decide, by decide +kernel⟩
theorem wl_X7_62 : Cond.methodLink RX7 62 yX3_addRoom ∈ z_TB := (z_tm 270 (by decide +kernel) (by decide +kernel))
theorem wl_X7_66 : Cond.methodLink RX7 66 yX7_closePast ∈ z_TB := (z_tm 274 (by decide +kernel) (by decide +kernel))
theorem wl_X7_74 : Cond.methodLink RX7 74 yX7_isThere ∈ z_TB := (z_tm 282 (by decide +kernel) (by decide +kernel))
theorem wl_X7_78 : Cond.methodLink RX7 78 yX3_addDoor ∈ z_TB := (z_tm 285 (by decide +kernel) (by decide +kernel))
theorem wl_X7_82 : Cond.methodLink RX7 82 yX3_addWalker ∈ z_TB := (z_tm 293 (by decide +kernel) (by decide +kernel))
theorem wl_X7_95 : Cond.methodLink RX7 95 yX7_isWithin ∈ z_TB := (z_tm 301 (by decide +kernel) (by decide +kernel))
theorem wl_X7_99 : Cond.methodLink RX7 99 yX7_isCounter ∈ z_TB := (z_tm 304 (by decide +kernel) (by decide +kernel))
theorem wl_X7_103 : Cond.methodLink RX7 103 yX7_isCounterValue ∈ z_TB := (z_tm 307 (by decide +kernel) (by decide +kernel))
theorem wl_X7_106 : Cond.methodLink RX7 106 yX1_addDeed ∈ z_TB := (z_tm 310 (by decide +kernel) (by decide +kernel))
theorem wl_X7_119 : Cond.methodLink RX7 119 yX2_addEvent ∈ z_TB := (z_tm 322 (by decide +kernel) (by decide +kernel))
theorem wl_X7_123 : Cond.methodLink RX7 123 yX6_addTimer ∈ z_TB := (z_tm 330 (by decide +kernel) (by decide +kernel))
theorem wl_X7_126 : Cond.methodLink RX7 126 yX0_addDaemon ∈ z_TB := (z_tm 338 (by decide +kernel) (by decide +kernel))
theorem wl_X7_129 : Cond.methodLink RX7 129 yX7_doDeed ∈ z_TB := (z_tm 346 (by decide +kernel) (by decide +kernel))
theorem wl_X7_135 : Cond.methodLink RX7 135 yX5_keep ∈ z_TB := (z_tm 394 (by decide +kernel) (by decide +kernel))
theorem wl_X7_149 : Cond.methodLink RX7 149 yX7_bringEvents ∈ z_TB := (z_tm 412 (by decide +kernel) (by decide +kernel))
theorem wl_X7_152 : Cond.methodLink RX7 152 yX7_runTimers ∈ z_TB := (z_tm 440 (by decide +kernel) (by decide +kernel))
theorem wl_X7_155 : Cond.methodLink RX7 155 yX7_runDaemons ∈ z_TB := (z_tm 448 (by decide +kernel) (by decide +kernel))
theorem wl_X7_158 : Cond.methodLink RX7 158 yX7_moveWalkers ∈ z_TB := (z_tm 456 (by decide +kernel) (by decide +kernel))
theorem wl_X7_162 : Cond.methodLink RX7 162 yX5_giveBack ∈ z_TB := (z_tm 488 (by decide +kernel) (by decide +kernel))
theorem wl_X7_189 : Cond.methodLink RX7 189 yX7_asNumber ∈ z_TB := (z_tm 512 (by decide +kernel) (by decide +kernel))
theorem wl_X7_199 : Cond.methodLink RX7 199 yX3_measureTo ∈ z_TB := (z_tm 523 (by decide +kernel) (by decide +kernel))
theorem wl_X7_215 : Cond.methodLink RX7 215 yX7_minutesUntil ∈ z_TB := (z_tm 420 (by decide +kernel) (by decide +kernel))
theorem wl_X7_218 : Cond.methodLink RX7 218 yX7_lineUpEvents ∈ z_TB := (z_tm 416 (by decide +kernel) (by decide +kernel))
theorem wl_X7_221 : Cond.methodLink RX7 221 yX4_goOn ∈ z_TB := (z_tm 428 (by decide +kernel) (by decide +kernel))
theorem wl_X7_228 : Cond.methodLink RX7 228 yX7_bringEvent ∈ z_TB := (z_tm 432 (by decide +kernel) (by decide +kernel))
theorem wl_X7_231 : Cond.methodLink RX7 231 yX2_putInOrder ∈ z_TB := (z_tm 424 (by decide +kernel) (by decide +kernel))
theorem wl_X7_238 : Cond.methodLink RX7 238 yX4_addRow ∈ z_TB := (z_tm 436 (by decide +kernel) (by decide +kernel))
theorem wl_X7_245 : Cond.methodLink RX7 245 yX7_runTimer ∈ z_TB := (z_tm 444 (by decide +kernel) (by decide +kernel))
theorem wl_X7_255 : Cond.methodLink RX7 255 yX7_runDaemonsOf ∈ z_TB := (z_tm 452 (by decide +kernel) (by decide +kernel))
theorem wl_X7_262 : Cond.methodLink RX7 262 yX7_moveWalker ∈ z_TB := (z_tm 460 (by decide +kernel) (by decide +kernel))
theorem wl_X7_265 : Cond.methodLink RX7 265 yX3_nextRoom ∈ z_TB := (z_tm 464 (by decide +kernel) (by decide +kernel))
theorem wl_X7_278 : Cond.methodLink RX7 278 yX7_carryOut ∈ z_TB := (z_tm 350 (by decide +kernel) (by decide +kernel))
theorem wl_X7_281 : Cond.methodLink RX7 281 yX4_growCounter ∈ z_TB := (z_tm 354 (by decide +kernel) (by decide +kernel))
theorem wl_X7_284 : Cond.methodLink RX7 284 yX7_startTimer ∈ z_TB := (z_tm 365 (by decide +kernel) (by decide +kernel))
theorem wl_X7_287 : Cond.methodLink RX7 287 yX7_stopTimer ∈ z_TB := (z_tm 369 (by decide +kernel) (by decide +kernel))
theorem wl_X7_290 : Cond.methodLink RX7 290 yX7_switchDaemon ∈ z_TB := (z_tm 373 (by decide +kernel) (by decide +kernel))
theorem wl_X7_294 : Cond.methodLink RX7 294 yX7_turnDoor ∈ z_TB := (z_tm 377 (by decide +kernel) (by decide +kernel))
theorem wl_X7_297 : Cond.methodLink RX7 297 yX7_giveGoal ∈ z_TB := (z_tm 381 (by decide +kernel) (by decide +kernel))
theorem wl_X7_300 : Cond.methodLink RX7 300 Lib.Math.min.name ∈ z_TB := (z_tm 385 (by decide +kernel) (by decide +kernel))
theorem wl_X3_31 : Cond.methodLink RX3 31 yX3_measureTo ∈ z_TB := (z_tm 468 (by decide +kernel) (by decide +kernel))
theorem wl_X3_35 : Cond.methodLink RX3 35 yX3_beyondDoor ∈ z_TB := (z_tm 476 (by decide +kernel) (by decide +kernel))
theorem wl_X3_39 : Cond.methodLink RX3 39 yX3_isNearer ∈ z_TB := (z_tm 480 (by decide +kernel) (by decide +kernel))
theorem wl_X3_43 : Cond.methodLink RX3 43 yX3_spread ∈ z_TB := (z_tm 472 (by decide +kernel) (by decide +kernel))
theorem wl_X4_54 : Cond.methodLink RX4 54 Lib.Math.min.name ∈ z_TB := (z_tm 359 (by decide +kernel) (by decide +kernel))
theorem wl_X4_60 : Cond.methodLink RX4 60 Lib.Math.max.name ∈ z_TB := (z_tm 362 (by decide +kernel) (by decide +kernel))
theorem wl_X4_72 : Cond.methodLink RX4 72 arraycopyName ∈ z_TB := (z_tm 406 (by decide +kernel) (by decide +kernel))
theorem wl_X4_78 : Cond.methodLink RX4 78 yX4_copyFlags ∈ z_TB := (z_tm 409 (by decide +kernel) (by decide +kernel))
theorem wl_X5_22 : Cond.methodLink RX5 22 yX5_dropOldest ∈ z_TB := (z_tm 398 (by decide +kernel) (by decide +kernel))
theorem wl_X5_25 : Cond.methodLink RX5 25 yX4_copyFrom ∈ z_TB := (z_tm 402 (by decide +kernel) (by decide +kernel))
theorem wl_L_13 : Cond.methodLink RL 13 yX7_room ∈ z_TB := (z_tm 266 (by decide +kernel) (by decide +kernel))
theorem wl_L_17 : Cond.methodLink RL 17 yX8_room ∈ z_TB := (z_tm 635 (by decide +kernel) (by decide +kernel))
theorem wl_L_18 : Cond.methodLink RL 18 yX7_door ∈ z_TB := (z_tm 278 (by decide +kernel) (by decide +kernel))
theorem wl_L_22 : Cond.methodLink RL 22 yX8_door ∈ z_TB := (z_tm 643 (by decide +kernel) (by decide +kernel))
theorem wl_L_23 : Cond.methodLink RL 23 yX7_walker ∈ z_TB := (z_tm 289 (by decide +kernel) (by decide +kernel))
theorem wl_L_27 : Cond.methodLink RL 27 yX8_walker ∈ z_TB := (z_tm 653 (by decide +kernel) (by decide +kernel))
theorem wl_L_28 : Cond.methodLink RL 28 yX7_deed ∈ z_TB := (z_tm 297 (by decide +kernel) (by decide +kernel))
theorem wl_L_32 : Cond.methodLink RL 32 yX8_deed ∈ z_TB := (z_tm 657 (by decide +kernel) (by decide +kernel))
theorem wl_L_33 : Cond.methodLink RL 33 yX7_condition ∈ z_TB := (z_tm 314 (by decide +kernel) (by decide +kernel))
theorem wl_L_36 : Cond.methodLink RL 36 yX8_condition ∈ z_TB := (z_tm 661 (by decide +kernel) (by decide +kernel))
theorem wl_L_37 : Cond.methodLink RL 37 yX7_event ∈ z_TB := (z_tm 318 (by decide +kernel) (by decide +kernel))
theorem wl_L_41 : Cond.methodLink RL 41 yX8_event ∈ z_TB := (z_tm 665 (by decide +kernel) (by decide +kernel))
theorem wl_L_42 : Cond.methodLink RL 42 yX7_timer ∈ z_TB := (z_tm 326 (by decide +kernel) (by decide +kernel))
theorem wl_L_45 : Cond.methodLink RL 45 yX8_timer ∈ z_TB := (z_tm 669 (by decide +kernel) (by decide +kernel))
theorem wl_L_46 : Cond.methodLink RL 46 yX7_daemon ∈ z_TB := (z_tm 334 (by decide +kernel) (by decide +kernel))
theorem wl_L_49 : Cond.methodLink RL 49 yX8_daemon ∈ z_TB := (z_tm 673 (by decide +kernel) (by decide +kernel))
theorem wl_L_50 : Cond.methodLink RL 50 yX7_act ∈ z_TB := (z_tm 342 (by decide +kernel) (by decide +kernel))
theorem wl_L_53 : Cond.methodLink RL 53 yX8_act ∈ z_TB := (z_tm 677 (by decide +kernel) (by decide +kernel))
theorem wl_L_54 : Cond.methodLink RL 54 yX7_pace ∈ z_TB := (z_tm 386 (by decide +kernel) (by decide +kernel))
theorem wl_L_57 : Cond.methodLink RL 57 yX8_pace ∈ z_TB := (z_tm 692 (by decide +kernel) (by decide +kernel))
theorem wl_L_58 : Cond.methodLink RL 58 yX7_turn ∈ z_TB := (z_tm 390 (by decide +kernel) (by decide +kernel))
theorem wl_L_61 : Cond.methodLink RL 61 yX8_turn ∈ z_TB := (z_tm 696 (by decide +kernel) (by decide +kernel))
theorem wl_L_62 : Cond.methodLink RL 62 yX7_back ∈ z_TB := (z_tm 484 (by decide +kernel) (by decide +kernel))
theorem wl_L_65 : Cond.methodLink RL 65 yX8_back ∈ z_TB := (z_tm 732 (by decide +kernel) (by decide +kernel))
theorem wl_L_66 : Cond.methodLink RL 66 yX7_told ∈ z_TB := (z_tm 492 (by decide +kernel) (by decide +kernel))
theorem wl_L_69 : Cond.methodLink RL 69 yX8_told ∈ z_TB := (z_tm 736 (by decide +kernel) (by decide +kernel))
theorem wl_L_70 : Cond.methodLink RL 70 yX7_count ∈ z_TB := (z_tm 496 (by decide +kernel) (by decide +kernel))
theorem wl_L_73 : Cond.methodLink RL 73 yX8_count ∈ z_TB := (z_tm 740 (by decide +kernel) (by decide +kernel))
theorem wl_L_74 : Cond.methodLink RL 74 yX7_counter ∈ z_TB := (z_tm 500 (by decide +kernel) (by decide +kernel))
theorem wl_L_77 : Cond.methodLink RL 77 yX8_counter ∈ z_TB := (z_tm 744 (by decide +kernel) (by decide +kernel))
theorem wl_L_78 : Cond.methodLink RL 78 yX7_left ∈ z_TB := (z_tm 504 (by decide +kernel) (by decide +kernel))
theorem wl_L_81 : Cond.methodLink RL 81 yX8_left ∈ z_TB := (z_tm 748 (by decide +kernel) (by decide +kernel))
theorem wl_L_82 : Cond.methodLink RL 82 yX7_is ∈ z_TB := (z_tm 508 (by decide +kernel) (by decide +kernel))
theorem wl_L_85 : Cond.methodLink RL 85 yX8_is ∈ z_TB := (z_tm 752 (by decide +kernel) (by decide +kernel))
theorem wl_L_86 : Cond.methodLink RL 86 yX7_walks ∈ z_TB := (z_tm 515 (by decide +kernel) (by decide +kernel))
theorem wl_L_89 : Cond.methodLink RL 89 yX8_walks ∈ z_TB := (z_tm 756 (by decide +kernel) (by decide +kernel))
theorem wl_L_90 : Cond.methodLink RL 90 yX7_way ∈ z_TB := (z_tm 519 (by decide +kernel) (by decide +kernel))
theorem wl_L_93 : Cond.methodLink RL 93 yX8_way ∈ z_TB := (z_tm 760 (by decide +kernel) (by decide +kernel))
theorem wl_L_94 : Cond.methodLink RL 94 yX7_row ∈ z_TB := (z_tm 524 (by decide +kernel) (by decide +kernel))
theorem wl_L_97 : Cond.methodLink RL 97 yX8_row ∈ z_TB := (z_tm 764 (by decide +kernel) (by decide +kernel))
theorem wl_L_98 : Cond.methodLink RL 98 yX7_minutes ∈ z_TB := (z_tm 528 (by decide +kernel) (by decide +kernel))
theorem wl_L_101 : Cond.methodLink RL 101 yX8_minutes ∈ z_TB := (z_tm 768 (by decide +kernel) (by decide +kernel))
theorem wl_X8_78 : Cond.methodLink RX8 78 yX8_in ∈ z_TB := (z_tm 650 (by decide +kernel) (by decide +kernel))
theorem wl_X8_85 : Cond.methodLink RX8 85 yX8_changed ∈ z_TB := (z_tm 639 (by decide +kernel) (by decide +kernel))
theorem wl_X8_89 : Cond.methodLink RX8 89 yX8_isOf ∈ z_TB := (z_tm 647 (by decide +kernel) (by decide +kernel))
theorem wl_X8_111 : Cond.methodLink RX8 111 yX8_holds ∈ z_TB := (z_tm 681 (by decide +kernel) (by decide +kernel))
theorem wl_X8_115 : Cond.methodLink RX8 115 yX8_bound ∈ z_TB := (z_tm 689 (by decide +kernel) (by decide +kernel))
theorem wl_X8_126 : Cond.methodLink RX8 126 yX8_perform ∈ z_TB := (z_tm 685 (by decide +kernel) (by decide +kernel))
theorem wl_X8_133 : Cond.methodLink RX8 133 yX8_tell ∈ z_TB := (z_tm 704 (by decide +kernel) (by decide +kernel))
theorem wl_X8_137 : Cond.methodLink RX8 137 yX8_step ∈ z_TB := (z_tm 724 (by decide +kernel) (by decide +kernel))
theorem wl_X8_140 : Cond.methodLink RX8 140 yX8_findWays ∈ z_TB := (z_tm 720 (by decide +kernel) (by decide +kernel))
theorem wl_X8_143 : Cond.methodLink RX8 143 yX8_isJoined ∈ z_TB := (z_tm 728 (by decide +kernel) (by decide +kernel))
theorem wl_X8_146 : Cond.methodLink RX8 146 yX8_goTime ∈ z_TB := (z_tm 700 (by decide +kernel) (by decide +kernel))
theorem wl_X8_149 : Cond.methodLink RX8 149 yX8_goTimers ∈ z_TB := (z_tm 708 (by decide +kernel) (by decide +kernel))
theorem wl_X8_152 : Cond.methodLink RX8 152 yX8_goDaemons ∈ z_TB := (z_tm 712 (by decide +kernel) (by decide +kernel))
theorem wl_X8_155 : Cond.methodLink RX8 155 yX8_goWalkers ∈ z_TB := (z_tm 716 (by decide +kernel) (by decide +kernel))
theorem wm_acn : Cond.native arraycopyName ∈ z_TB := (z_tm 408 (by decide +kernel) (by decide +kernel))
theorem wm_acs : Cond.static arraycopyName ∈ z_TB := (z_tm 407 (by decide +kernel) (by decide +kernel))
theorem wm_sys : Cond.initialized "java/lang/System" ∈ z_TB := (z_tm 11 (by decide +kernel) (by decide +kernel))
theorem wm_mth : Cond.initialized "java/lang/Math" ∈ z_TB := (z_tm 10 (by decide +kernel) (by decide +kernel))
theorem wm_maxs : Cond.static Lib.Math.max.name ∈ z_TB := (z_tm 363 (by decide +kernel) (by decide +kernel))
theorem wm_maxc : Cond.code Lib.Math.max.name Lib.Math.max.code 2 (some .int) ∈ z_TB := (z_tm 364 (by decide +kernel) (by decide +kernel))
theorem wm_mins : Cond.static Lib.Math.min.name ∈ z_TB := (z_tm 360 (by decide +kernel) (by decide +kernel))
theorem wm_minc : Cond.code Lib.Math.min.name Lib.Math.min.code 2 (some .int) ∈ z_TB := (z_tm 361 (by decide +kernel) (by decide +kernel))
theorem kb_m5 : (Int8.ofInt (-5)).toInt32 = ((-5) : Int32) := by decide
theorem kb_m4 : (Int8.ofInt (-4)).toInt32 = ((-4) : Int32) := by decide
theorem kb_m3 : (Int8.ofInt (-3)).toInt32 = ((-3) : Int32) := by decide
theorem kb_m2 : (Int8.ofInt (-2)).toInt32 = ((-2) : Int32) := by decide
theorem kb_6 : (Int8.ofInt 6).toInt32 = (6 : Int32) := by decide
theorem kb_7 : (Int8.ofInt 7).toInt32 = (7 : Int32) := by decide
theorem kb_8 : (Int8.ofInt 8).toInt32 = (8 : Int32) := by decide
theorem kb_9 : (Int8.ofInt 9).toInt32 = (9 : Int32) := by decide
theorem kb_10 : (Int8.ofInt 10).toInt32 = (10 : Int32) := by decide
theorem kb_12 : (Int8.ofInt 12).toInt32 = (12 : Int32) := by decide
theorem kb_15 : (Int8.ofInt 15).toInt32 = (15 : Int32) := by decide
theorem kb_27 : (Int8.ofInt 27).toInt32 = (27 : Int32) := by decide
theorem kb_31 : (Int8.ofInt 31).toInt32 = (31 : Int32) := by decide
theorem kb_35 : (Int8.ofInt 35).toInt32 = (35 : Int32) := by decide
theorem kb_40 : (Int8.ofInt 40).toInt32 = (40 : Int32) := by decide
theorem kb_47 : (Int8.ofInt 47).toInt32 = (47 : Int32) := by decide
theorem kb_50 : (Int8.ofInt 50).toInt32 = (50 : Int32) := by decide
theorem kb_59 : (Int8.ofInt 59).toInt32 = (59 : Int32) := by decide
theorem kb_60 : (Int8.ofInt 60).toInt32 = (60 : Int32) := by decide
theorem kb_71 : (Int8.ofInt 71).toInt32 = (71 : Int32) := by decide
theorem kb_72 : (Int8.ofInt 72).toInt32 = (72 : Int32) := by decide
theorem ki_m1 : Int32.ofInt (-1) = ((-1) : Int32) := by decide
theorem ki_0 : Int32.ofInt 0 = (0 : Int32) := by decide
theorem ki_1 : Int32.ofInt 1 = (1 : Int32) := by decide
theorem ki_2 : Int32.ofInt 2 = (2 : Int32) := by decide
theorem ki_3 : Int32.ofInt 3 = (3 : Int32) := by decide
theorem ki_4 : Int32.ofInt 4 = (4 : Int32) := by decide
theorem ks_m1000 : (Int16.ofInt (-1000)).toInt32 = ((-1000) : Int32) := by decide
theorem ks_192 : (Int16.ofInt 192).toInt32 = (192 : Int32) := by decide
theorem ks_600 : (Int16.ofInt 600).toInt32 = (600 : Int32) := by decide
theorem ks_1000 : (Int16.ofInt 1000).toInt32 = (1000 : Int32) := by decide
theorem ks_1344 : (Int16.ofInt 1344).toInt32 = (1344 : Int32) := by decide
theorem ks_1439 : (Int16.ofInt 1439).toInt32 = (1439 : Int32) := by decide
theorem ks_1440 : (Int16.ofInt 1440).toInt32 = (1440 : Int32) := by decide
theorem ks_1536 : (Int16.ofInt 1536).toInt32 = (1536 : Int32) := by decide
abbrev nC : Nat := 117
abbrev nM : Nat := 21
def z_mk (b j : Nat) : zL := match j with
  | 0 => .inr (4, [none, none, none, none, none, none, some (b + 1), some (b + 2), some (b + 3), some (b + 4), some (b + 5), some (b + 6), some (b + 7), some (b + 8), some (b + 9)])
  | 1 => .inl (0, 40)
  | 2 => .inl (0, 40)
  | 3 => .inl (0, 8)
  | 4 => .inl (1, 15)
  | 5 => .inl (0, 4)
  | 6 => .inl (0, 4)
  | 7 => .inl (0, 12)
  | 8 => .inl (1, 12)
  | 9 => .inl (1, 12)
  | _ => .inl (0, 0)
def layC (k : Nat) : zL := match k with
  | 0 => .inr (7, [some 1, some 5, some 11, some 17, some 21, some 24, some 34, some 116, none])
  | 1 => .inr (3, [none, none, none, some 2, some 3, some 4])
  | 2 => .inl (0, 15)
  | 3 => .inl (0, 15)
  | 4 => .inl (0, 10)
  | 5 => .inr (1, [none, some 6, some 7, some 8, some 9, some 10])
  | 6 => .inl (0, 40)
  | 7 => .inl (0, 40)
  | 8 => .inl (0, 40)
  | 9 => .inl (0, 40)
  | 10 => .inl (0, 40)
  | 11 => .inr (2, [none, some 12, some 13, some 14, some 15, some 16])
  | 12 => .inl (0, 12)
  | 13 => .inl (0, 12)
  | 14 => .inl (1, 12)
  | 15 => .inl (0, 12)
  | 16 => .inl (0, 12)
  | 17 => .inr (6, [none, some 18, some 19, some 20])
  | 18 => .inl (0, 12)
  | 19 => .inl (0, 12)
  | 20 => .inl (1, 12)
  | 21 => .inr (0, [none, some 22, some 23])
  | 22 => .inl (0, 12)
  | 23 => .inl (0, 12)
  | 24 => .inr (4, [none, none, none, none, none, none, some 25, some 26, some 27, some 28, some 29, some 30, some 31, some 32, some 33])
  | 25 => .inl (0, 40)
  | 26 => .inl (0, 40)
  | 27 => .inl (0, 8)
  | 28 => .inl (1, 15)
  | 29 => .inl (0, 4)
  | 30 => .inl (0, 4)
  | 31 => .inl (0, 12)
  | 32 => .inl (1, 12)
  | 33 => .inl (1, 12)
  | 34 => .inr (5, [none, some 35])
  | 35 => .inl (2, 8)
  | k + 36 => if k = 80 then .inl (1, 12) else z_mk (36 + 10 * (k / 10)) (k % 10)
def layM (k : Nat) : zL := match k with
  | 0 => .inr (8, [some 1, some 2, none, none, none, none, some 3, some 4, none, none, some 5, some 6, some 7, some 8, some 9, none, some 10, some 11, some 12, none, some 13, some 14, some 15, none, some 16, some 17, none, none, none, some 18, some 19, some 20])
  | 1 => .inl (0, 192)
  | 2 => .inl (0, 1536)
  | 3 => .inl (0, 15)
  | 4 => .inl (0, 15)
  | 5 => .inl (0, 40)
  | 6 => .inl (0, 40)
  | 7 => .inl (0, 40)
  | 8 => .inl (0, 40)
  | 9 => .inl (0, 40)
  | 10 => .inl (0, 12)
  | 11 => .inl (0, 12)
  | 12 => .inl (1, 12)
  | 13 => .inl (0, 12)
  | 14 => .inl (0, 12)
  | 15 => .inl (1, 12)
  | 16 => .inl (0, 12)
  | 17 => .inl (0, 12)
  | 18 => .inl (1, 12)
  | 19 => .inl (1, 12)
  | 20 => .inl (0, 10)
  | _ => .inl (0, 0)
theorem layC_116 : layC 116 = .inl (1, 12) := rfl
theorem ltC_116 : 116 < nC := by decide
theorem layC_0 : layC 0 = .inr (7, [some 1, some 5, some 11, some 17, some 21, some 24, some 34, some 116, none]) := rfl
theorem ltC_0 : 0 < nC := by decide
theorem layC_1 : layC 1 = .inr (3, [none, none, none, some 2, some 3, some 4]) := rfl
theorem ltC_1 : 1 < nC := by decide
theorem layC_2 : layC 2 = .inl (0, 15) := rfl
theorem ltC_2 : 2 < nC := by decide
theorem layC_3 : layC 3 = .inl (0, 15) := rfl
theorem ltC_3 : 3 < nC := by decide
theorem layC_4 : layC 4 = .inl (0, 10) := rfl
theorem ltC_4 : 4 < nC := by decide
theorem layC_5 : layC 5 = .inr (1, [none, some 6, some 7, some 8, some 9, some 10]) := rfl
theorem ltC_5 : 5 < nC := by decide
theorem layC_6 : layC 6 = .inl (0, 40) := rfl
theorem ltC_6 : 6 < nC := by decide
theorem layC_7 : layC 7 = .inl (0, 40) := rfl
theorem ltC_7 : 7 < nC := by decide
theorem layC_8 : layC 8 = .inl (0, 40) := rfl
theorem ltC_8 : 8 < nC := by decide
theorem layC_9 : layC 9 = .inl (0, 40) := rfl
theorem ltC_9 : 9 < nC := by decide
theorem layC_10 : layC 10 = .inl (0, 40) := rfl
theorem ltC_10 : 10 < nC := by decide
theorem layC_11 : layC 11 = .inr (2, [none, some 12, some 13, some 14, some 15, some 16]) := rfl
theorem ltC_11 : 11 < nC := by decide
theorem layC_12 : layC 12 = .inl (0, 12) := rfl
theorem ltC_12 : 12 < nC := by decide
theorem layC_13 : layC 13 = .inl (0, 12) := rfl
theorem ltC_13 : 13 < nC := by decide
theorem layC_14 : layC 14 = .inl (1, 12) := rfl
theorem ltC_14 : 14 < nC := by decide
theorem layC_15 : layC 15 = .inl (0, 12) := rfl
theorem ltC_15 : 15 < nC := by decide
theorem layC_16 : layC 16 = .inl (0, 12) := rfl
theorem ltC_16 : 16 < nC := by decide
theorem layC_17 : layC 17 = .inr (6, [none, some 18, some 19, some 20]) := rfl
theorem ltC_17 : 17 < nC := by decide
theorem layC_18 : layC 18 = .inl (0, 12) := rfl
theorem ltC_18 : 18 < nC := by decide
theorem layC_19 : layC 19 = .inl (0, 12) := rfl
theorem ltC_19 : 19 < nC := by decide
theorem layC_20 : layC 20 = .inl (1, 12) := rfl
theorem ltC_20 : 20 < nC := by decide
theorem layC_21 : layC 21 = .inr (0, [none, some 22, some 23]) := rfl
theorem ltC_21 : 21 < nC := by decide
theorem layC_22 : layC 22 = .inl (0, 12) := rfl
theorem ltC_22 : 22 < nC := by decide
theorem layC_23 : layC 23 = .inl (0, 12) := rfl
theorem ltC_23 : 23 < nC := by decide
theorem layC_24 : layC 24 = .inr (4, [none, none, none, none, none, none, some 25, some 26, some 27, some 28, some 29, some 30, some 31, some 32, some 33]) := rfl
theorem ltC_24 : 24 < nC := by decide
theorem layC_25 : layC 25 = .inl (0, 40) := rfl
theorem ltC_25 : 25 < nC := by decide
theorem layC_26 : layC 26 = .inl (0, 40) := rfl
theorem ltC_26 : 26 < nC := by decide
theorem layC_27 : layC 27 = .inl (0, 8) := rfl
theorem ltC_27 : 27 < nC := by decide
theorem layC_28 : layC 28 = .inl (1, 15) := rfl
theorem ltC_28 : 28 < nC := by decide
theorem layC_29 : layC 29 = .inl (0, 4) := rfl
theorem ltC_29 : 29 < nC := by decide
theorem layC_30 : layC 30 = .inl (0, 4) := rfl
theorem ltC_30 : 30 < nC := by decide
theorem layC_31 : layC 31 = .inl (0, 12) := rfl
theorem ltC_31 : 31 < nC := by decide
theorem layC_32 : layC 32 = .inl (1, 12) := rfl
theorem ltC_32 : 32 < nC := by decide
theorem layC_33 : layC 33 = .inl (1, 12) := rfl
theorem ltC_33 : 33 < nC := by decide
theorem layC_34 : layC 34 = .inr (5, [none, some 35]) := rfl
theorem ltC_34 : 34 < nC := by decide
theorem layC_35 : layC 35 = .inl (2, 8) := rfl
theorem ltC_35 : 35 < nC := by decide
theorem layM_0 : layM 0 = .inr (8, [some 1, some 2, none, none, none, none, some 3, some 4, none, none, some 5, some 6, some 7, some 8, some 9, none, some 10, some 11, some 12, none, some 13, some 14, some 15, none, some 16, some 17, none, none, none, some 18, some 19, some 20]) := rfl
theorem ltM_0 : 0 < nM := by decide
theorem layM_1 : layM 1 = .inl (0, 192) := rfl
theorem ltM_1 : 1 < nM := by decide
theorem layM_2 : layM 2 = .inl (0, 1536) := rfl
theorem ltM_2 : 2 < nM := by decide
theorem layM_3 : layM 3 = .inl (0, 15) := rfl
theorem ltM_3 : 3 < nM := by decide
theorem layM_4 : layM 4 = .inl (0, 15) := rfl
theorem ltM_4 : 4 < nM := by decide
theorem layM_5 : layM 5 = .inl (0, 40) := rfl
theorem ltM_5 : 5 < nM := by decide
theorem layM_6 : layM 6 = .inl (0, 40) := rfl
theorem ltM_6 : 6 < nM := by decide
theorem layM_7 : layM 7 = .inl (0, 40) := rfl
theorem ltM_7 : 7 < nM := by decide
theorem layM_8 : layM 8 = .inl (0, 40) := rfl
theorem ltM_8 : 8 < nM := by decide
theorem layM_9 : layM 9 = .inl (0, 40) := rfl
theorem ltM_9 : 9 < nM := by decide
theorem layM_10 : layM 10 = .inl (0, 12) := rfl
theorem ltM_10 : 10 < nM := by decide
theorem layM_11 : layM 11 = .inl (0, 12) := rfl
theorem ltM_11 : 11 < nM := by decide
theorem layM_12 : layM 12 = .inl (1, 12) := rfl
theorem ltM_12 : 12 < nM := by decide
theorem layM_13 : layM 13 = .inl (0, 12) := rfl
theorem ltM_13 : 13 < nM := by decide
theorem layM_14 : layM 14 = .inl (0, 12) := rfl
theorem ltM_14 : 14 < nM := by decide
theorem layM_15 : layM 15 = .inl (1, 12) := rfl
theorem ltM_15 : 15 < nM := by decide
theorem layM_16 : layM 16 = .inl (0, 12) := rfl
theorem ltM_16 : 16 < nM := by decide
theorem layM_17 : layM 17 = .inl (0, 12) := rfl
theorem ltM_17 : 17 < nM := by decide
theorem layM_18 : layM 18 = .inl (1, 12) := rfl
theorem ltM_18 : 18 < nM := by decide
theorem layM_19 : layM 19 = .inl (1, 12) := rfl
theorem ltM_19 : 19 < nM := by decide
theorem layM_20 : layM 20 = .inl (0, 10) := rfl
theorem ltM_20 : 20 < nM := by decide
theorem layC_m0 {a : Nat} (h : a < 9) : layC (z_mo a) = .inr (4, [none, none, none, none, none, none, some (z_mo a + 1), some (z_mo a + 2), some (z_mo a + 3), some (z_mo a + 4), some (z_mo a + 5), some (z_mo a + 6), some (z_mo a + 7), some (z_mo a + 8), some (z_mo a + 9)]) := by
  have h9 : a = 0 ∨ a = 1 ∨ a = 2 ∨ a = 3 ∨ a = 4 ∨ a = 5 ∨ a = 6 ∨ a = 7 ∨ a = 8 := by omega
  rcases h9 with rfl | rfl | rfl | rfl | rfl | rfl | rfl | rfl | rfl <;> rfl
theorem ltC_m0 {a : Nat} (h : a < 9) : z_mo a < nC := by
  have h9 : a = 0 ∨ a = 1 ∨ a = 2 ∨ a = 3 ∨ a = 4 ∨ a = 5 ∨ a = 6 ∨ a = 7 ∨ a = 8 := by omega
  rcases h9 with rfl | rfl | rfl | rfl | rfl | rfl | rfl | rfl | rfl <;> decide
theorem layC_m1 {a : Nat} (h : a < 9) : layC (z_mo a + 1) = .inl (0, 40) := by
  have h9 : a = 0 ∨ a = 1 ∨ a = 2 ∨ a = 3 ∨ a = 4 ∨ a = 5 ∨ a = 6 ∨ a = 7 ∨ a = 8 := by omega
  rcases h9 with rfl | rfl | rfl | rfl | rfl | rfl | rfl | rfl | rfl <;> rfl
theorem ltC_m1 {a : Nat} (h : a < 9) : z_mo a + 1 < nC := by
  have h9 : a = 0 ∨ a = 1 ∨ a = 2 ∨ a = 3 ∨ a = 4 ∨ a = 5 ∨ a = 6 ∨ a = 7 ∨ a = 8 := by omega
  rcases h9 with rfl | rfl | rfl | rfl | rfl | rfl | rfl | rfl | rfl <;> decide
theorem layC_m2 {a : Nat} (h : a < 9) : layC (z_mo a + 2) = .inl (0, 40) := by
  have h9 : a = 0 ∨ a = 1 ∨ a = 2 ∨ a = 3 ∨ a = 4 ∨ a = 5 ∨ a = 6 ∨ a = 7 ∨ a = 8 := by omega
  rcases h9 with rfl | rfl | rfl | rfl | rfl | rfl | rfl | rfl | rfl <;> rfl
theorem ltC_m2 {a : Nat} (h : a < 9) : z_mo a + 2 < nC := by
  have h9 : a = 0 ∨ a = 1 ∨ a = 2 ∨ a = 3 ∨ a = 4 ∨ a = 5 ∨ a = 6 ∨ a = 7 ∨ a = 8 := by omega
  rcases h9 with rfl | rfl | rfl | rfl | rfl | rfl | rfl | rfl | rfl <;> decide
theorem layC_m3 {a : Nat} (h : a < 9) : layC (z_mo a + 3) = .inl (0, 8) := by
  have h9 : a = 0 ∨ a = 1 ∨ a = 2 ∨ a = 3 ∨ a = 4 ∨ a = 5 ∨ a = 6 ∨ a = 7 ∨ a = 8 := by omega
  rcases h9 with rfl | rfl | rfl | rfl | rfl | rfl | rfl | rfl | rfl <;> rfl
theorem ltC_m3 {a : Nat} (h : a < 9) : z_mo a + 3 < nC := by
  have h9 : a = 0 ∨ a = 1 ∨ a = 2 ∨ a = 3 ∨ a = 4 ∨ a = 5 ∨ a = 6 ∨ a = 7 ∨ a = 8 := by omega
  rcases h9 with rfl | rfl | rfl | rfl | rfl | rfl | rfl | rfl | rfl <;> decide
theorem layC_m4 {a : Nat} (h : a < 9) : layC (z_mo a + 4) = .inl (1, 15) := by
  have h9 : a = 0 ∨ a = 1 ∨ a = 2 ∨ a = 3 ∨ a = 4 ∨ a = 5 ∨ a = 6 ∨ a = 7 ∨ a = 8 := by omega
  rcases h9 with rfl | rfl | rfl | rfl | rfl | rfl | rfl | rfl | rfl <;> rfl
theorem ltC_m4 {a : Nat} (h : a < 9) : z_mo a + 4 < nC := by
  have h9 : a = 0 ∨ a = 1 ∨ a = 2 ∨ a = 3 ∨ a = 4 ∨ a = 5 ∨ a = 6 ∨ a = 7 ∨ a = 8 := by omega
  rcases h9 with rfl | rfl | rfl | rfl | rfl | rfl | rfl | rfl | rfl <;> decide
theorem layC_m5 {a : Nat} (h : a < 9) : layC (z_mo a + 5) = .inl (0, 4) := by
  have h9 : a = 0 ∨ a = 1 ∨ a = 2 ∨ a = 3 ∨ a = 4 ∨ a = 5 ∨ a = 6 ∨ a = 7 ∨ a = 8 := by omega
  rcases h9 with rfl | rfl | rfl | rfl | rfl | rfl | rfl | rfl | rfl <;> rfl
theorem ltC_m5 {a : Nat} (h : a < 9) : z_mo a + 5 < nC := by
  have h9 : a = 0 ∨ a = 1 ∨ a = 2 ∨ a = 3 ∨ a = 4 ∨ a = 5 ∨ a = 6 ∨ a = 7 ∨ a = 8 := by omega
  rcases h9 with rfl | rfl | rfl | rfl | rfl | rfl | rfl | rfl | rfl <;> decide
theorem layC_m6 {a : Nat} (h : a < 9) : layC (z_mo a + 6) = .inl (0, 4) := by
  have h9 : a = 0 ∨ a = 1 ∨ a = 2 ∨ a = 3 ∨ a = 4 ∨ a = 5 ∨ a = 6 ∨ a = 7 ∨ a = 8 := by omega
  rcases h9 with rfl | rfl | rfl | rfl | rfl | rfl | rfl | rfl | rfl <;> rfl
theorem ltC_m6 {a : Nat} (h : a < 9) : z_mo a + 6 < nC := by
  have h9 : a = 0 ∨ a = 1 ∨ a = 2 ∨ a = 3 ∨ a = 4 ∨ a = 5 ∨ a = 6 ∨ a = 7 ∨ a = 8 := by omega
  rcases h9 with rfl | rfl | rfl | rfl | rfl | rfl | rfl | rfl | rfl <;> decide
theorem layC_m7 {a : Nat} (h : a < 9) : layC (z_mo a + 7) = .inl (0, 12) := by
  have h9 : a = 0 ∨ a = 1 ∨ a = 2 ∨ a = 3 ∨ a = 4 ∨ a = 5 ∨ a = 6 ∨ a = 7 ∨ a = 8 := by omega
  rcases h9 with rfl | rfl | rfl | rfl | rfl | rfl | rfl | rfl | rfl <;> rfl
theorem ltC_m7 {a : Nat} (h : a < 9) : z_mo a + 7 < nC := by
  have h9 : a = 0 ∨ a = 1 ∨ a = 2 ∨ a = 3 ∨ a = 4 ∨ a = 5 ∨ a = 6 ∨ a = 7 ∨ a = 8 := by omega
  rcases h9 with rfl | rfl | rfl | rfl | rfl | rfl | rfl | rfl | rfl <;> decide
theorem layC_m8 {a : Nat} (h : a < 9) : layC (z_mo a + 8) = .inl (1, 12) := by
  have h9 : a = 0 ∨ a = 1 ∨ a = 2 ∨ a = 3 ∨ a = 4 ∨ a = 5 ∨ a = 6 ∨ a = 7 ∨ a = 8 := by omega
  rcases h9 with rfl | rfl | rfl | rfl | rfl | rfl | rfl | rfl | rfl <;> rfl
theorem ltC_m8 {a : Nat} (h : a < 9) : z_mo a + 8 < nC := by
  have h9 : a = 0 ∨ a = 1 ∨ a = 2 ∨ a = 3 ∨ a = 4 ∨ a = 5 ∨ a = 6 ∨ a = 7 ∨ a = 8 := by omega
  rcases h9 with rfl | rfl | rfl | rfl | rfl | rfl | rfl | rfl | rfl <;> decide
theorem layC_m9 {a : Nat} (h : a < 9) : layC (z_mo a + 9) = .inl (1, 12) := by
  have h9 : a = 0 ∨ a = 1 ∨ a = 2 ∨ a = 3 ∨ a = 4 ∨ a = 5 ∨ a = 6 ∨ a = 7 ∨ a = 8 := by omega
  rcases h9 with rfl | rfl | rfl | rfl | rfl | rfl | rfl | rfl | rfl <;> rfl
theorem ltC_m9 {a : Nat} (h : a < 9) : z_mo a + 9 < nC := by
  have h9 : a = 0 ∨ a = 1 ∨ a = 2 ∨ a = 3 ∨ a = 4 ∨ a = 5 ∨ a = 6 ∨ a = 7 ∨ a = 8 := by omega
  rcases h9 with rfl | rfl | rfl | rfl | rfl | rfl | rfl | rfl | rfl <;> decide
