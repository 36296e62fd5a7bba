theorem inTX0 : ∀ w ∈ u_ws RX0 TX0 2, w ∈ lw_g := fun w hw => gm (List.all_eq_true.mp (show (u_ws RX0 TX0 2).all (fun w => decide (w ∈ lw_tbl)) = true by decide +kernel) w hw |> of_decide_eq_true) (List.all_eq_true.mp (show (u_ws RX0 TX0 2).all goodWord = true by decide +kernel) w hw)
theorem inTX1 : ∀ w ∈ u_ws RX1 TX1 3, w ∈ lw_g := fun w hw => gm (List.all_eq_true.mp (show (u_ws RX1 TX1 3).all (fun w => decide (w ∈ lw_tbl)) = true by decide +kernel) w hw |> of_decide_eq_true) (List.all_eq_true.mp (show (u_ws RX1 TX1 3).all goodWord = true by decide +kernel) w hw)
theorem inTX2 : ∀ w ∈ u_ws RX2 TX2 3, w ∈ lw_g := fun w hw => gm (List.all_eq_true.mp (show (u_ws RX2 TX2 3).all (fun w => decide (w ∈ lw_tbl)) = true by decide +kernel) w hw |> of_decide_eq_true) (List.all_eq_true.mp (show (u_ws RX2 TX2 3).all goodWord = true by decide +kernel) w hw)
theorem inTX3 : ∀ w ∈ u_ws RX3 TX3 3, w ∈ lw_g := fun w hw => gm (List.all_eq_true.mp (show (u_ws RX3 TX3 3).all (fun w => decide (w ∈ lw_tbl)) = true by decide +kernel) w hw |> of_decide_eq_true) (List.all_eq_true.mp (show (u_ws RX3 TX3 3).all goodWord = true by decide +kernel) w hw)
theorem inTX4 : ∀ w ∈ u_ws RX4 TX4 3, w ∈ lw_g := fun w hw => gm (List.all_eq_true.mp (show (u_ws RX4 TX4 3).all (fun w => decide (w ∈ lw_tbl)) = true by decide +kernel) w hw |> of_decide_eq_true) (List.all_eq_true.mp (show (u_ws RX4 TX4 3).all goodWord = true by decide +kernel) w hw)
theorem inTX5 : ∀ w ∈ u_ws RX5 TX5 7, w ∈ lw_g := fun w hw => gm (List.all_eq_true.mp (show (u_ws RX5 TX5 7).all (fun w => decide (w ∈ lw_tbl)) = true by decide +kernel) w hw |> of_decide_eq_true) (List.all_eq_true.mp (show (u_ws RX5 TX5 7).all goodWord = true by decide +kernel) w hw)
theorem inTX6 : ∀ w ∈ u_ws RX6 TX6 4, w ∈ lw_g := fun w hw => gm (List.all_eq_true.mp (show (u_ws RX6 TX6 4).all (fun w => decide (w ∈ lw_tbl)) = true by decide +kernel) w hw |> of_decide_eq_true) (List.all_eq_true.mp (show (u_ws RX6 TX6 4).all goodWord = true by decide +kernel) w hw)
theorem inTX7 : ∀ w ∈ u_ws RX7 TX7 3, w ∈ lw_g := fun w hw => gm (List.all_eq_true.mp (show (u_ws RX7 TX7 3).all (fun w => decide (w ∈ lw_tbl)) = true by decide +kernel) w hw |> of_decide_eq_true) (List.all_eq_true.mp (show (u_ws RX7 TX7 3).all goodWord = true by decide +kernel) w hw)
theorem inTX8 : ∀ w ∈ u_ws RX8 TX8 6, w ∈ lw_g := fun w hw => gm (List.all_eq_true.mp (show (u_ws RX8 TX8 6).all (fun w => decide (w ∈ lw_tbl)) = true by decide +kernel) w hw |> of_decide_eq_true) (List.all_eq_true.mp (show (u_ws RX8 TX8 6).all goodWord = true by decide +kernel) w hw)
theorem inTX9 : ∀ w ∈ u_ws RX9 TX9 3, w ∈ lw_g := fun w hw => gm (List.all_eq_true.mp (show (u_ws RX9 TX9 3).all (fun w => decide (w ∈ lw_tbl)) = true by decide +kernel) w hw |> of_decide_eq_true) (List.all_eq_true.mp (show (u_ws RX9 TX9 3).all goodWord = true by decide +kernel) w hw)
theorem inTX10 : ∀ w ∈ u_ws RX10 TX10 3, w ∈ lw_g := fun w hw => gm (List.all_eq_true.mp (show (u_ws RX10 TX10 3).all (fun w => decide (w ∈ lw_tbl)) = true by decide +kernel) w hw |> of_decide_eq_true) (List.all_eq_true.mp (show (u_ws RX10 TX10 3).all goodWord = true by decide +kernel) w hw)
theorem inTX11 : ∀ w ∈ u_ws RX11 TX11 13, w ∈ lw_g := fun w hw => gm (List.all_eq_true.mp (show (u_ws RX11 TX11 13).all (fun w => decide (w ∈ lw_tbl)) = true by decide +kernel) w hw |> of_decide_eq_true) (List.all_eq_true.mp (show (u_ws RX11 TX11 13).all goodWord = true by decide +kernel) w hw)
theorem inTX12 : ∀ w ∈ u_ws RX12 TX12 28, w ∈ lw_g := fun w hw => gm (List.all_eq_true.mp (show (u_ws RX12 TX12 28).all (fun w => decide (w ∈ lw_tbl)) = true by decide +kernel) w hw |> of_decide_eq_true) (List.all_eq_true.mp (show (u_ws RX12 TX12 28).all goodWord = true by decide +kernel) w hw)
theorem fl_X8_27_X8 : FL RX8 27 8 0 := ⟨RX8, TX8, 6, "WheatSea$Seen", tyX8, rfl, inTX8, by decide, gmi 81 (by decide +kernel) (by decide +kernel), Or.inl rfl, tyX8_ok, nmX8⟩
theorem fl_X11_189_X8 : FL RX11 189 8 0 := ⟨RX8, TX8, 6, "WheatSea$Seen", tyX8, rfl, inTX8, by decide, gmi 82 (by decide +kernel) (by decide +kernel), Or.inl rfl, tyX8_ok, nmX8⟩
theorem fl_X8_9_X8 : FL RX8 9 8 1 := ⟨RX8, TX8, 6, "WheatSea$Seen", tyX8, rfl, inTX8, by decide, gmi 83 (by decide +kernel) (by decide +kernel), Or.inl rfl, tyX8_ok, nmX8⟩
theorem fl_X8_15_X8 : FL RX8 15 8 2 := ⟨RX8, TX8, 6, "WheatSea$Seen", tyX8, rfl, inTX8, by decide, gmi 84 (by decide +kernel) (by decide +kernel), Or.inl rfl, tyX8_ok, nmX8⟩
theorem fl_X8_18_X8 : FL RX8 18 8 3 := ⟨RX8, TX8, 6, "WheatSea$Seen", tyX8, rfl, inTX8, by decide, gmi 85 (by decide +kernel) (by decide +kernel), Or.inl rfl, tyX8_ok, nmX8⟩
theorem fl_X8_21_X8 : FL RX8 21 8 4 := ⟨RX8, TX8, 6, "WheatSea$Seen", tyX8, rfl, inTX8, by decide, gmi 86 (by decide +kernel) (by decide +kernel), Or.inl rfl, tyX8_ok, nmX8⟩
theorem fl_X8_24_X8 : FL RX8 24 8 5 := ⟨RX8, TX8, 6, "WheatSea$Seen", tyX8, rfl, inTX8, by decide, gmi 87 (by decide +kernel) (by decide +kernel), Or.inl rfl, tyX8_ok, nmX8⟩
theorem fl_X5_25_X5 : FL RX5 25 5 0 := ⟨RX5, TX5, 7, "WheatSea$Image", tyX5, rfl, inTX5, by decide, gmi 110 (by decide +kernel) (by decide +kernel), Or.inl rfl, tyX5_ok, nmX5⟩
theorem fl_X11_224_X5 : FL RX11 224 5 0 := ⟨RX5, TX5, 7, "WheatSea$Image", tyX5, rfl, inTX5, by decide, gmi 111 (by decide +kernel) (by decide +kernel), Or.inl rfl, tyX5_ok, nmX5⟩
theorem fl_X5_29_X5 : FL RX5 29 5 1 := ⟨RX5, TX5, 7, "WheatSea$Image", tyX5, rfl, inTX5, by decide, gmi 112 (by decide +kernel) (by decide +kernel), Or.inl rfl, tyX5_ok, nmX5⟩
theorem fl_X11_232_X5 : FL RX11 232 5 1 := ⟨RX5, TX5, 7, "WheatSea$Image", tyX5, rfl, inTX5, by decide, gmi 113 (by decide +kernel) (by decide +kernel), Or.inl rfl, tyX5_ok, nmX5⟩
theorem fl_X11_217_X5 : FL RX11 217 5 2 := ⟨RX5, TX5, 7, "WheatSea$Image", tyX5, rfl, inTX5, by decide, gmi 114 (by decide +kernel) (by decide +kernel), Or.inl rfl, tyX5_ok, nmX5⟩
theorem fl_X11_218_X5 : FL RX11 218 5 3 := ⟨RX5, TX5, 7, "WheatSea$Image", tyX5, rfl, inTX5, by decide, gmi 115 (by decide +kernel) (by decide +kernel), Or.inl rfl, tyX5_ok, nmX5⟩
theorem fl_X5_12_X5 : FL RX5 12 5 4 := ⟨RX5, TX5, 7, "WheatSea$Image", tyX5, rfl, inTX5, by decide, gmi 116 (by decide +kernel) (by decide +kernel), Or.inl rfl, tyX5_ok, nmX5⟩
theorem fl_X11_219_X5 : FL RX11 219 5 4 := ⟨RX5, TX5, 7, "WheatSea$Image", tyX5, rfl, inTX5, by decide, gmi 117 (by decide +kernel) (by decide +kernel), Or.inl rfl, tyX5_ok, nmX5⟩
theorem fl_X5_18_X5 : FL RX5 18 5 5 := ⟨RX5, TX5, 7, "WheatSea$Image", tyX5, rfl, inTX5, by decide, gmi 118 (by decide +kernel) (by decide +kernel), Or.inl rfl, tyX5_ok, nmX5⟩
theorem fl_X5_22_X5 : FL RX5 22 5 6 := ⟨RX5, TX5, 7, "WheatSea$Image", tyX5, rfl, inTX5, by decide, gmi 119 (by decide +kernel) (by decide +kernel), Or.inl rfl, tyX5_ok, nmX5⟩
theorem fl_X0_9_X0 : FL RX0 9 0 0 := ⟨RX0, TX0, 2, "WheatSea$Chart", tyX0, rfl, inTX0, by decide, gmi 141 (by decide +kernel) (by decide +kernel), Or.inl rfl, tyX0_ok, nmX0⟩
theorem fl_X0_15_X0 : FL RX0 15 0 1 := ⟨RX0, TX0, 2, "WheatSea$Chart", tyX0, rfl, inTX0, by decide, gmi 142 (by decide +kernel) (by decide +kernel), Or.inl rfl, tyX0_ok, nmX0⟩
theorem fl_X3_9_X3 : FL RX3 9 3 0 := ⟨RX3, TX3, 3, "WheatSea$Homecoming", tyX3, rfl, inTX3, by decide, gmi 154 (by decide +kernel) (by decide +kernel), Or.inl rfl, tyX3_ok, nmX3⟩
theorem fl_X11_181_X3 : FL RX11 181 3 0 := ⟨RX3, TX3, 3, "WheatSea$Homecoming", tyX3, rfl, inTX3, by decide, gmi 155 (by decide +kernel) (by decide +kernel), Or.inl rfl, tyX3_ok, nmX3⟩
theorem fl_X3_15_X3 : FL RX3 15 3 1 := ⟨RX3, TX3, 3, "WheatSea$Homecoming", tyX3, rfl, inTX3, by decide, gmi 156 (by decide +kernel) (by decide +kernel), Or.inl rfl, tyX3_ok, nmX3⟩
theorem fl_X11_184_X3 : FL RX11 184 3 1 := ⟨RX3, TX3, 3, "WheatSea$Homecoming", tyX3, rfl, inTX3, by decide, gmi 157 (by decide +kernel) (by decide +kernel), Or.inl rfl, tyX3_ok, nmX3⟩
theorem fl_X3_18_X3 : FL RX3 18 3 2 := ⟨RX3, TX3, 3, "WheatSea$Homecoming", tyX3, rfl, inTX3, by decide, gmi 158 (by decide +kernel) (by decide +kernel), Or.inl rfl, tyX3_ok, nmX3⟩
theorem fl_X6_9_X6 : FL RX6 9 6 0 := ⟨RX6, TX6, 4, "WheatSea$June", tyX6, rfl, inTX6, by decide, gmi 172 (by decide +kernel) (by decide +kernel), Or.inl rfl, tyX6_ok, nmX6⟩
theorem fl_X6_15_X6 : FL RX6 15 6 1 := ⟨RX6, TX6, 4, "WheatSea$June", tyX6, rfl, inTX6, by decide, gmi 173 (by decide +kernel) (by decide +kernel), Or.inl rfl, tyX6_ok, nmX6⟩
theorem fl_X11_209_X6 : FL RX11 209 6 1 := ⟨RX6, TX6, 4, "WheatSea$June", tyX6, rfl, inTX6, by decide, gmi 174 (by decide +kernel) (by decide +kernel), Or.inl rfl, tyX6_ok, nmX6⟩
theorem fl_X6_19_X6 : FL RX6 19 6 2 := ⟨RX6, TX6, 4, "WheatSea$June", tyX6, rfl, inTX6, by decide, gmi 175 (by decide +kernel) (by decide +kernel), Or.inl rfl, tyX6_ok, nmX6⟩
theorem fl_X11_210_X6 : FL RX11 210 6 2 := ⟨RX6, TX6, 4, "WheatSea$June", tyX6, rfl, inTX6, by decide, gmi 176 (by decide +kernel) (by decide +kernel), Or.inl rfl, tyX6_ok, nmX6⟩
theorem fl_X6_22_X6 : FL RX6 22 6 3 := ⟨RX6, TX6, 4, "WheatSea$June", tyX6, rfl, inTX6, by decide, gmi 177 (by decide +kernel) (by decide +kernel), Or.inl rfl, tyX6_ok, nmX6⟩
theorem fl_X11_202_X6 : FL RX11 202 6 3 := ⟨RX6, TX6, 4, "WheatSea$June", tyX6, rfl, inTX6, by decide, gmi 178 (by decide +kernel) (by decide +kernel), Or.inl rfl, tyX6_ok, nmX6⟩
theorem fl_X7_15_X7 : FL RX7 15 7 0 := ⟨RX7, TX7, 3, "WheatSea$Sea", tyX7, rfl, inTX7, by decide, gmi 194 (by decide +kernel) (by decide +kernel), Or.inl rfl, tyX7_ok, nmX7⟩
theorem fl_X7_19_X7 : FL RX7 19 7 1 := ⟨RX7, TX7, 3, "WheatSea$Sea", tyX7, rfl, inTX7, by decide, gmi 195 (by decide +kernel) (by decide +kernel), Or.inl rfl, tyX7_ok, nmX7⟩
theorem fl_X11_96_X7 : FL RX11 96 7 1 := ⟨RX7, TX7, 3, "WheatSea$Sea", tyX7, rfl, inTX7, by decide, gmi 196 (by decide +kernel) (by decide +kernel), Or.inl rfl, tyX7_ok, nmX7⟩
theorem fl_X7_9_X7 : FL RX7 9 7 2 := ⟨RX7, TX7, 3, "WheatSea$Sea", tyX7, rfl, inTX7, by decide, gmi 197 (by decide +kernel) (by decide +kernel), Or.inl rfl, tyX7_ok, nmX7⟩
theorem fl_X6_34_X7 : FL RX6 34 7 2 := ⟨RX7, TX7, 3, "WheatSea$Sea", tyX7, rfl, inTX7, by decide, gmi 198 (by decide +kernel) (by decide +kernel), Or.inl rfl, tyX7_ok, nmX7⟩
theorem fl_X11_123_X7 : FL RX11 123 7 2 := ⟨RX7, TX7, 3, "WheatSea$Sea", tyX7, rfl, inTX7, by decide, gmi 199 (by decide +kernel) (by decide +kernel), Or.inl rfl, tyX7_ok, nmX7⟩
theorem fl_X11_9_X11 : FL RX11 9 11 0 := ⟨RX11, TX11, 13, "WheatSea", tyX11, rfl, inTX11, by decide, gmi 207 (by decide +kernel) (by decide +kernel), Or.inl rfl, tyX11_ok, nmX11⟩
theorem fl_X11_66_X11 : FL RX11 66 11 1 := ⟨RX11, TX11, 13, "WheatSea", tyX11, rfl, inTX11, by decide, gmi 208 (by decide +kernel) (by decide +kernel), Or.inl rfl, tyX11_ok, nmX11⟩
theorem fl_X11_99_X11 : FL RX11 99 11 2 := ⟨RX11, TX11, 13, "WheatSea", tyX11, rfl, inTX11, by decide, gmi 209 (by decide +kernel) (by decide +kernel), Or.inl rfl, tyX11_ok, nmX11⟩
theorem fl_X11_59_X11 : FL RX11 59 11 3 := ⟨RX11, TX11, 13, "WheatSea", tyX11, rfl, inTX11, by decide, gmi 210 (by decide +kernel) (by decide +kernel), Or.inl rfl, tyX11_ok, nmX11⟩
theorem fl_X11_63_X11 : FL RX11 63 11 4 := ⟨RX11, TX11, 13, "WheatSea", tyX11, rfl, inTX11, by decide, gmi 211 (by decide +kernel) (by decide +kernel), Or.inl rfl, tyX11_ok, nmX11⟩
theorem fl_X11_15_X11 : FL RX11 15 11 5 := ⟨RX11, TX11, 13, "WheatSea", tyX11, rfl, inTX11, by decide, gmi 212 (by decide +kernel) (by decide +kernel), Or.inl rfl, tyX11_ok, nmX11⟩
theorem fl_X11_126_X11 : FL RX11 126 11 6 := ⟨RX11, TX11, 13, "WheatSea", tyX11, rfl, inTX11, by decide, gmi 213 (by decide +kernel) (by decide +kernel), Or.inl rfl, tyX11_ok, nmX11⟩
theorem fl_X11_106_X11 : FL RX11 106 11 7 := ⟨RX11, TX11, 13, "WheatSea", tyX11, rfl, inTX11, by decide, gmi 214 (by decide +kernel) (by decide +kernel), Or.inl rfl, tyX11_ok, nmX11⟩
theorem fl_X11_22_X11 : FL RX11 22 11 8 := ⟨RX11, TX11, 13, "WheatSea", tyX11, rfl, inTX11, by decide, gmi 215 (by decide +kernel) (by decide +kernel), Or.inl rfl, tyX11_ok, nmX11⟩
theorem fl_X11_29_X11 : FL RX11 29 11 9 := ⟨RX11, TX11, 13, "WheatSea", tyX11, rfl, inTX11, by decide, gmi 216 (by decide +kernel) (by decide +kernel), Or.inl rfl, tyX11_ok, nmX11⟩
theorem fl_X11_36_X11 : FL RX11 36 11 10 := ⟨RX11, TX11, 13, "WheatSea", tyX11, rfl, inTX11, by decide, gmi 217 (by decide +kernel) (by decide +kernel), Or.inl rfl, tyX11_ok, nmX11⟩
theorem fl_X11_43_X11 : FL RX11 43 11 11 := ⟨RX11, TX11, 13, "WheatSea", tyX11, rfl, inTX11, by decide, gmi 218 (by decide +kernel) (by decide +kernel), Or.inl rfl, tyX11_ok, nmX11⟩
theorem fl_X11_50_X11 : FL RX11 50 11 12 := ⟨RX11, TX11, 13, "WheatSea", tyX11, rfl, inTX11, by decide, gmi 219 (by decide +kernel) (by decide +kernel), Or.inl rfl, tyX11_ok, nmX11⟩
theorem fl_X4_9_X1 : FL RX4 9 1 0 := ⟨RX1, TX1, 3, "WheatSea$Hull", tyX1, rfl, inTX1, by decide, gmi 380 (by decide +kernel) (by decide +kernel), Or.inl rfl, tyX1_ok, nmX1⟩
theorem fl_X4_9_X2 : FL RX4 9 2 0 := ⟨RX2, TX2, 3, "WheatSea$Hull", tyX2, rfl, inTX2, by decide, gmi 380 (by decide +kernel) (by decide +kernel), Or.inl rfl, tyX2_ok, nmX2⟩
theorem fl_X4_9_X4 : FL RX4 9 4 0 := ⟨RX4, TX4, 3, "WheatSea$Hull", tyX4, rfl, inTX4, by decide, gmi 380 (by decide +kernel) (by decide +kernel), Or.inl rfl, tyX4_ok, nmX4⟩
theorem fl_X4_9_X9 : FL RX4 9 9 0 := ⟨RX9, TX9, 3, "WheatSea$Hull", tyX9, rfl, inTX9, by decide, gmi 380 (by decide +kernel) (by decide +kernel), Or.inl rfl, tyX9_ok, nmX9⟩
theorem fl_X4_9_X10 : FL RX4 9 10 0 := ⟨RX10, TX10, 3, "WheatSea$Hull", tyX10, rfl, inTX10, by decide, gmi 380 (by decide +kernel) (by decide +kernel), Or.inl rfl, tyX10_ok, nmX10⟩
theorem fl_X10_7_X1 : FL RX10 7 1 0 := ⟨RX1, TX1, 3, "WheatSea$Sloop", tyX1, rfl, inTX1, by decide, gmi 381 (by decide +kernel) (by decide +kernel), Or.inr (gm (by decide +kernel) (by decide +kernel)), tyX1_ok, nmX1⟩
theorem fl_X10_7_X2 : FL RX10 7 2 0 := ⟨RX2, TX2, 3, "WheatSea$Sloop", tyX2, rfl, inTX2, by decide, gmi 381 (by decide +kernel) (by decide +kernel), Or.inr (gm (by decide +kernel) (by decide +kernel)), tyX2_ok, nmX2⟩
theorem fl_X10_7_X4 : FL RX10 7 4 0 := ⟨RX4, TX4, 3, "WheatSea$Sloop", tyX4, rfl, inTX4, by decide, gmi 381 (by decide +kernel) (by decide +kernel), Or.inr (gm (by decide +kernel) (by decide +kernel)), tyX4_ok, nmX4⟩
theorem fl_X10_7_X9 : FL RX10 7 9 0 := ⟨RX9, TX9, 3, "WheatSea$Sloop", tyX9, rfl, inTX9, by decide, gmi 381 (by decide +kernel) (by decide +kernel), Or.inr (gm (by decide +kernel) (by decide +kernel)), tyX9_ok, nmX9⟩
theorem fl_X10_7_X10 : FL RX10 7 10 0 := ⟨RX10, TX10, 3, "WheatSea$Sloop", tyX10, rfl, inTX10, by decide, gmi 381 (by decide +kernel) (by decide +kernel), Or.inr (gm (by decide +kernel) (by decide +kernel)), tyX10_ok, nmX10⟩
theorem fl_X11_140_X1 : FL RX11 140 1 0 := ⟨RX1, TX1, 3, "WheatSea$Hull", tyX1, rfl, inTX1, by decide, gmi 383 (by decide +kernel) (by decide +kernel), Or.inl rfl, tyX1_ok, nmX1⟩
theorem fl_X11_140_X2 : FL RX11 140 2 0 := ⟨RX2, TX2, 3, "WheatSea$Hull", tyX2, rfl, inTX2, by decide, gmi 383 (by decide +kernel) (by decide +kernel), Or.inl rfl, tyX2_ok, nmX2⟩
theorem fl_X11_140_X4 : FL RX11 140 4 0 := ⟨RX4, TX4, 3, "WheatSea$Hull", tyX4, rfl, inTX4, by decide, gmi 383 (by decide +kernel) (by decide +kernel), Or.inl rfl, tyX4_ok, nmX4⟩
theorem fl_X11_140_X9 : FL RX11 140 9 0 := ⟨RX9, TX9, 3, "WheatSea$Hull", tyX9, rfl, inTX9, by decide, gmi 383 (by decide +kernel) (by decide +kernel), Or.inl rfl, tyX9_ok, nmX9⟩
theorem fl_X11_140_X10 : FL RX11 140 10 0 := ⟨RX10, TX10, 3, "WheatSea$Hull", tyX10, rfl, inTX10, by decide, gmi 383 (by decide +kernel) (by decide +kernel), Or.inl rfl, tyX10_ok, nmX10⟩
theorem fl_X4_15_X1 : FL RX4 15 1 1 := ⟨RX1, TX1, 3, "WheatSea$Hull", tyX1, rfl, inTX1, by decide, gmi 384 (by decide +kernel) (by decide +kernel), Or.inl rfl, tyX1_ok, nmX1⟩
theorem fl_X4_15_X2 : FL RX4 15 2 1 := ⟨RX2, TX2, 3, "WheatSea$Hull", tyX2, rfl, inTX2, by decide, gmi 384 (by decide +kernel) (by decide +kernel), Or.inl rfl, tyX2_ok, nmX2⟩
theorem fl_X4_15_X4 : FL RX4 15 4 1 := ⟨RX4, TX4, 3, "WheatSea$Hull", tyX4, rfl, inTX4, by decide, gmi 384 (by decide +kernel) (by decide +kernel), Or.inl rfl, tyX4_ok, nmX4⟩
theorem fl_X4_15_X9 : FL RX4 15 9 1 := ⟨RX9, TX9, 3, "WheatSea$Hull", tyX9, rfl, inTX9, by decide, gmi 384 (by decide +kernel) (by decide +kernel), Or.inl rfl, tyX9_ok, nmX9⟩
theorem fl_X4_15_X10 : FL RX4 15 10 1 := ⟨RX10, TX10, 3, "WheatSea$Hull", tyX10, rfl, inTX10, by decide, gmi 384 (by decide +kernel) (by decide +kernel), Or.inl rfl, tyX10_ok, nmX10⟩
theorem fl_X5_33_X1 : FL RX5 33 1 1 := ⟨RX1, TX1, 3, "WheatSea$Hull", tyX1, rfl, inTX1, by decide, gmi 385 (by decide +kernel) (by decide +kernel), Or.inl rfl, tyX1_ok, nmX1⟩
theorem fl_X5_33_X2 : FL RX5 33 2 1 := ⟨RX2, TX2, 3, "WheatSea$Hull", tyX2, rfl, inTX2, by decide, gmi 385 (by decide +kernel) (by decide +kernel), Or.inl rfl, tyX2_ok, nmX2⟩
theorem fl_X5_33_X4 : FL RX5 33 4 1 := ⟨RX4, TX4, 3, "WheatSea$Hull", tyX4, rfl, inTX4, by decide, gmi 385 (by decide +kernel) (by decide +kernel), Or.inl rfl, tyX4_ok, nmX4⟩
theorem fl_X5_33_X9 : FL RX5 33 9 1 := ⟨RX9, TX9, 3, "WheatSea$Hull", tyX9, rfl, inTX9, by decide, gmi 385 (by decide +kernel) (by decide +kernel), Or.inl rfl, tyX9_ok, nmX9⟩
theorem fl_X5_33_X10 : FL RX5 33 10 1 := ⟨RX10, TX10, 3, "WheatSea$Hull", tyX10, rfl, inTX10, by decide, gmi 385 (by decide +kernel) (by decide +kernel), Or.inl rfl, tyX10_ok, nmX10⟩
theorem fl_X6_25_X1 : FL RX6 25 1 1 := ⟨RX1, TX1, 3, "WheatSea$Hull", tyX1, rfl, inTX1, by decide, gmi 386 (by decide +kernel) (by decide +kernel), Or.inl rfl, tyX1_ok, nmX1⟩
theorem fl_X6_25_X2 : FL RX6 25 2 1 := ⟨RX2, TX2, 3, "WheatSea$Hull", tyX2, rfl, inTX2, by decide, gmi 386 (by decide +kernel) (by decide +kernel), Or.inl rfl, tyX2_ok, nmX2⟩
theorem fl_X6_25_X4 : FL RX6 25 4 1 := ⟨RX4, TX4, 3, "WheatSea$Hull", tyX4, rfl, inTX4, by decide, gmi 386 (by decide +kernel) (by decide +kernel), Or.inl rfl, tyX4_ok, nmX4⟩
theorem fl_X6_25_X9 : FL RX6 25 9 1 := ⟨RX9, TX9, 3, "WheatSea$Hull", tyX9, rfl, inTX9, by decide, gmi 386 (by decide +kernel) (by decide +kernel), Or.inl rfl, tyX9_ok, nmX9⟩
theorem fl_X6_25_X10 : FL RX6 25 10 1 := ⟨RX10, TX10, 3, "WheatSea$Hull", tyX10, rfl, inTX10, by decide, gmi 386 (by decide +kernel) (by decide +kernel), Or.inl rfl, tyX10_ok, nmX10⟩
theorem fl_X3_29_X1 : FL RX3 29 1 1 := ⟨RX1, TX1, 3, "WheatSea$Hull", tyX1, rfl, inTX1, by decide, gmi 387 (by decide +kernel) (by decide +kernel), Or.inl rfl, tyX1_ok, nmX1⟩
theorem fl_X3_29_X2 : FL RX3 29 2 1 := ⟨RX2, TX2, 3, "WheatSea$Hull", tyX2, rfl, inTX2, by decide, gmi 387 (by decide +kernel) (by decide +kernel), Or.inl rfl, tyX2_ok, nmX2⟩
theorem fl_X3_29_X4 : FL RX3 29 4 1 := ⟨RX4, TX4, 3, "WheatSea$Hull", tyX4, rfl, inTX4, by decide, gmi 387 (by decide +kernel) (by decide +kernel), Or.inl rfl, tyX4_ok, nmX4⟩
theorem fl_X3_29_X9 : FL RX3 29 9 1 := ⟨RX9, TX9, 3, "WheatSea$Hull", tyX9, rfl, inTX9, by decide, gmi 387 (by decide +kernel) (by decide +kernel), Or.inl rfl, tyX9_ok, nmX9⟩
theorem fl_X3_29_X10 : FL RX3 29 10 1 := ⟨RX10, TX10, 3, "WheatSea$Hull", tyX10, rfl, inTX10, by decide, gmi 387 (by decide +kernel) (by decide +kernel), Or.inl rfl, tyX10_ok, nmX10⟩
theorem fl_X11_143_X1 : FL RX11 143 1 1 := ⟨RX1, TX1, 3, "WheatSea$Hull", tyX1, rfl, inTX1, by decide, gmi 388 (by decide +kernel) (by decide +kernel), Or.inl rfl, tyX1_ok, nmX1⟩
theorem fl_X11_143_X2 : FL RX11 143 2 1 := ⟨RX2, TX2, 3, "WheatSea$Hull", tyX2, rfl, inTX2, by decide, gmi 388 (by decide +kernel) (by decide +kernel), Or.inl rfl, tyX2_ok, nmX2⟩
theorem fl_X11_143_X4 : FL RX11 143 4 1 := ⟨RX4, TX4, 3, "WheatSea$Hull", tyX4, rfl, inTX4, by decide, gmi 388 (by decide +kernel) (by decide +kernel), Or.inl rfl, tyX4_ok, nmX4⟩
theorem fl_X11_143_X9 : FL RX11 143 9 1 := ⟨RX9, TX9, 3, "WheatSea$Hull", tyX9, rfl, inTX9, by decide, gmi 388 (by decide +kernel) (by decide +kernel), Or.inl rfl, tyX9_ok, nmX9⟩
theorem fl_X11_143_X10 : FL RX11 143 10 1 := ⟨RX10, TX10, 3, "WheatSea$Hull", tyX10, rfl, inTX10, by decide, gmi 388 (by decide +kernel) (by decide +kernel), Or.inl rfl, tyX10_ok, nmX10⟩
theorem fl_X5_38_X1 : FL RX5 38 1 2 := ⟨RX1, TX1, 3, "WheatSea$Hull", tyX1, rfl, inTX1, by decide, gmi 389 (by decide +kernel) (by decide +kernel), Or.inl rfl, tyX1_ok, nmX1⟩
theorem fl_X5_38_X2 : FL RX5 38 2 2 := ⟨RX2, TX2, 3, "WheatSea$Hull", tyX2, rfl, inTX2, by decide, gmi 389 (by decide +kernel) (by decide +kernel), Or.inl rfl, tyX2_ok, nmX2⟩
theorem fl_X5_38_X4 : FL RX5 38 4 2 := ⟨RX4, TX4, 3, "WheatSea$Hull", tyX4, rfl, inTX4, by decide, gmi 389 (by decide +kernel) (by decide +kernel), Or.inl rfl, tyX4_ok, nmX4⟩
theorem fl_X5_38_X9 : FL RX5 38 9 2 := ⟨RX9, TX9, 3, "WheatSea$Hull", tyX9, rfl, inTX9, by decide, gmi 389 (by decide +kernel) (by decide +kernel), Or.inl rfl, tyX9_ok, nmX9⟩
theorem fl_X5_38_X10 : FL RX5 38 10 2 := ⟨RX10, TX10, 3, "WheatSea$Hull", tyX10, rfl, inTX10, by decide, gmi 389 (by decide +kernel) (by decide +kernel), Or.inl rfl, tyX10_ok, nmX10⟩
theorem fl_X11_150_X1 : FL RX11 150 1 2 := ⟨RX1, TX1, 3, "WheatSea$Hull", tyX1, rfl, inTX1, by decide, gmi 390 (by decide +kernel) (by decide +kernel), Or.inl rfl, tyX1_ok, nmX1⟩
theorem fl_X11_150_X2 : FL RX11 150 2 2 := ⟨RX2, TX2, 3, "WheatSea$Hull", tyX2, rfl, inTX2, by decide, gmi 390 (by decide +kernel) (by decide +kernel), Or.inl rfl, tyX2_ok, nmX2⟩
theorem fl_X11_150_X4 : FL RX11 150 4 2 := ⟨RX4, TX4, 3, "WheatSea$Hull", tyX4, rfl, inTX4, by decide, gmi 390 (by decide +kernel) (by decide +kernel), Or.inl rfl, tyX4_ok, nmX4⟩
theorem fl_X11_150_X9 : FL RX11 150 9 2 := ⟨RX9, TX9, 3, "WheatSea$Hull", tyX9, rfl, inTX9, by decide, gmi 390 (by decide +kernel) (by decide +kernel), Or.inl rfl, tyX9_ok, nmX9⟩
theorem fl_X11_150_X10 : FL RX11 150 10 2 := ⟨RX10, TX10, 3, "WheatSea$Hull", tyX10, rfl, inTX10, by decide, gmi 390 (by decide +kernel) (by decide +kernel), Or.inl rfl, tyX10_ok, nmX10⟩
theorem fl_X12_7_X12 : FL RX12 7 12 0 := ⟨RX12, TX12, 28, "WheatSeaModel", tyX12, rfl, inTX12, by decide, gmi 745 (by decide +kernel) (by decide +kernel), Or.inl rfl, tyX12_ok, nmX12⟩
theorem fl_X12_59_X12 : FL RX12 59 12 1 := ⟨RX12, TX12, 28, "WheatSeaModel", tyX12, rfl, inTX12, by decide, gmi 746 (by decide +kernel) (by decide +kernel), Or.inl rfl, tyX12_ok, nmX12⟩
theorem fl_X12_72_X12 : FL RX12 72 12 2 := ⟨RX12, TX12, 28, "WheatSeaModel", tyX12, rfl, inTX12, by decide, gmi 747 (by decide +kernel) (by decide +kernel), Or.inl rfl, tyX12_ok, nmX12⟩
theorem fl_X12_75_X12 : FL RX12 75 12 3 := ⟨RX12, TX12, 28, "WheatSeaModel", tyX12, rfl, inTX12, by decide, gmi 748 (by decide +kernel) (by decide +kernel), Or.inl rfl, tyX12_ok, nmX12⟩
theorem fl_X12_50_X12 : FL RX12 50 12 4 := ⟨RX12, TX12, 28, "WheatSeaModel", tyX12, rfl, inTX12, by decide, gmi 749 (by decide +kernel) (by decide +kernel), Or.inl rfl, tyX12_ok, nmX12⟩
theorem fl_X12_84_X12 : FL RX12 84 12 5 := ⟨RX12, TX12, 28, "WheatSeaModel", tyX12, rfl, inTX12, by decide, gmi 750 (by decide +kernel) (by decide +kernel), Or.inl rfl, tyX12_ok, nmX12⟩
theorem fl_X12_13_X12 : FL RX12 13 12 6 := ⟨RX12, TX12, 28, "WheatSeaModel", tyX12, rfl, inTX12, by decide, gmi 751 (by decide +kernel) (by decide +kernel), Or.inl rfl, tyX12_ok, nmX12⟩
theorem fl_X12_78_X12 : FL RX12 78 12 7 := ⟨RX12, TX12, 28, "WheatSeaModel", tyX12, rfl, inTX12, by decide, gmi 752 (by decide +kernel) (by decide +kernel), Or.inl rfl, tyX12_ok, nmX12⟩
theorem fl_X12_16_X12 : FL RX12 16 12 8 := ⟨RX12, TX12, 28, "WheatSeaModel", tyX12, rfl, inTX12, by decide, gmi 753 (by decide +kernel) (by decide +kernel), Or.inl rfl, tyX12_ok, nmX12⟩
theorem fl_X12_19_X12 : FL RX12 19 12 9 := ⟨RX12, TX12, 28, "WheatSeaModel", tyX12, rfl, inTX12, by decide, gmi 754 (by decide +kernel) (by decide +kernel), Or.inl rfl, tyX12_ok, nmX12⟩
theorem fl_X12_22_X12 : FL RX12 22 12 10 := ⟨RX12, TX12, 28, "WheatSeaModel", tyX12, rfl, inTX12, by decide, gmi 755 (by decide +kernel) (by decide +kernel), Or.inl rfl, tyX12_ok, nmX12⟩
theorem fl_X12_25_X12 : FL RX12 25 12 11 := ⟨RX12, TX12, 28, "WheatSeaModel", tyX12, rfl, inTX12, by decide, gmi 756 (by decide +kernel) (by decide +kernel), Or.inl rfl, tyX12_ok, nmX12⟩
theorem fl_X12_28_X12 : FL RX12 28 12 12 := ⟨RX12, TX12, 28, "WheatSeaModel", tyX12, rfl, inTX12, by decide, gmi 757 (by decide +kernel) (by decide +kernel), Or.inl rfl, tyX12_ok, nmX12⟩
theorem fl_X12_151_X12 : FL RX12 151 12 13 := ⟨RX12, TX12, 28, "WheatSeaModel", tyX12, rfl, inTX12, by decide, gmi 758 (by decide +kernel) (by decide +kernel), Or.inl rfl, tyX12_ok, nmX12⟩
theorem fl_X12_154_X12 : FL RX12 154 12 14 := ⟨RX12, TX12, 28, "WheatSeaModel", tyX12, rfl, inTX12, by decide, gmi 759 (by decide +kernel) (by decide +kernel), Or.inl rfl, tyX12_ok, nmX12⟩
theorem fl_X12_81_X12 : FL RX12 81 12 15 := ⟨RX12, TX12, 28, "WheatSeaModel", tyX12, rfl, inTX12, by decide, gmi 760 (by decide +kernel) (by decide +kernel), Or.inl rfl, tyX12_ok, nmX12⟩
theorem fl_X12_31_X12 : FL RX12 31 12 16 := ⟨RX12, TX12, 28, "WheatSeaModel", tyX12, rfl, inTX12, by decide, gmi 761 (by decide +kernel) (by decide +kernel), Or.inl rfl, tyX12_ok, nmX12⟩
theorem fl_X12_34_X12 : FL RX12 34 12 17 := ⟨RX12, TX12, 28, "WheatSeaModel", tyX12, rfl, inTX12, by decide, gmi 762 (by decide +kernel) (by decide +kernel), Or.inl rfl, tyX12_ok, nmX12⟩
theorem fl_X12_187_X12 : FL RX12 187 12 18 := ⟨RX12, TX12, 28, "WheatSeaModel", tyX12, rfl, inTX12, by decide, gmi 763 (by decide +kernel) (by decide +kernel), Or.inl rfl, tyX12_ok, nmX12⟩
theorem fl_X12_37_X12 : FL RX12 37 12 19 := ⟨RX12, TX12, 28, "WheatSeaModel", tyX12, rfl, inTX12, by decide, gmi 764 (by decide +kernel) (by decide +kernel), Or.inl rfl, tyX12_ok, nmX12⟩
theorem fl_X12_46_X12 : FL RX12 46 12 20 := ⟨RX12, TX12, 28, "WheatSeaModel", tyX12, rfl, inTX12, by decide, gmi 765 (by decide +kernel) (by decide +kernel), Or.inl rfl, tyX12_ok, nmX12⟩
theorem fl_X12_203_X12 : FL RX12 203 12 21 := ⟨RX12, TX12, 28, "WheatSeaModel", tyX12, rfl, inTX12, by decide, gmi 766 (by decide +kernel) (by decide +kernel), Or.inl rfl, tyX12_ok, nmX12⟩
theorem fl_X12_206_X12 : FL RX12 206 12 22 := ⟨RX12, TX12, 28, "WheatSeaModel", tyX12, rfl, inTX12, by decide, gmi 767 (by decide +kernel) (by decide +kernel), Or.inl rfl, tyX12_ok, nmX12⟩
theorem fl_X12_209_X12 : FL RX12 209 12 23 := ⟨RX12, TX12, 28, "WheatSeaModel", tyX12, rfl, inTX12, by decide, gmi 768 (by decide +kernel) (by decide +kernel), Or.inl rfl, tyX12_ok, nmX12⟩
theorem fl_X12_212_X12 : FL RX12 212 12 24 := ⟨RX12, TX12, 28, "WheatSeaModel", tyX12, rfl, inTX12, by decide, gmi 769 (by decide +kernel) (by decide +kernel), Or.inl rfl, tyX12_ok, nmX12⟩
theorem fl_X12_40_X12 : FL RX12 40 12 25 := ⟨RX12, TX12, 28, "WheatSeaModel", tyX12, rfl, inTX12, by decide, gmi 770 (by decide +kernel) (by decide +kernel), Or.inl rfl, tyX12_ok, nmX12⟩
theorem fl_X12_43_X12 : FL RX12 43 12 26 := ⟨RX12, TX12, 28, "WheatSeaModel", tyX12, rfl, inTX12, by decide, gmi 771 (by decide +kernel) (by decide +kernel), Or.inl rfl, tyX12_ok, nmX12⟩
theorem fl_X12_223_X12 : FL RX12 223 12 27 := ⟨RX12, TX12, 28, "WheatSeaModel", tyX12, rfl, inTX12, by decide, gmi 772 (by decide +kernel) (by decide +kernel), Or.inl rfl, tyX12_ok, nmX12⟩
theorem fp_X0_0 : FP RX0 0 0 true (.array .int) := fun C T N h => by
  have h' : some (RX0, TX0, 2) = some (C, T, N) := h
  cases h'
  exact ⟨by decide +kernel, rfl, fun _ => rfl⟩
theorem fp_X0_1 : FP RX0 0 1 true (.array .int) := fun C T N h => by
  have h' : some (RX0, TX0, 2) = some (C, T, N) := h
  cases h'
  exact ⟨by decide +kernel, rfl, fun _ => rfl⟩
theorem fp_X1_0 : FP RX4 1 0 true (.int) := fun C T N h => by
  have h' : some (RX1, TX1, 3) = some (C, T, N) := h
  cases h'
  exact ⟨by decide +kernel, rfl, fun _ => rfl⟩
theorem fp_X1_1 : FP RX4 1 1 false (.int) := fun C T N h => by
  have h' : some (RX1, TX1, 3) = some (C, T, N) := h
  cases h'
  exact ⟨by decide +kernel, rfl, fun _ => rfl⟩
theorem fp_X1_2 : FP RX4 1 2 false (.int) := fun C T N h => by
  have h' : some (RX1, TX1, 3) = some (C, T, N) := h
  cases h'
  exact ⟨by decide +kernel, rfl, fun _ => rfl⟩
theorem fp_X2_0 : FP RX4 2 0 true (.int) := fun C T N h => by
  have h' : some (RX2, TX2, 3) = some (C, T, N) := h
  cases h'
  exact ⟨by decide +kernel, rfl, fun _ => rfl⟩
theorem fp_X2_1 : FP RX4 2 1 false (.int) := fun C T N h => by
  have h' : some (RX2, TX2, 3) = some (C, T, N) := h
  cases h'
  exact ⟨by decide +kernel, rfl, fun _ => rfl⟩
theorem fp_X2_2 : FP RX4 2 2 false (.int) := fun C T N h => by
  have h' : some (RX2, TX2, 3) = some (C, T, N) := h
  cases h'
  exact ⟨by decide +kernel, rfl, fun _ => rfl⟩
theorem fp_X3_0 : FP RX3 3 0 false (.int) := fun C T N h => by
  have h' : some (RX3, TX3, 3) = some (C, T, N) := h
  cases h'
  exact ⟨by decide +kernel, rfl, fun _ => rfl⟩
theorem fp_X3_1 : FP RX3 3 1 false (.int) := fun C T N h => by
  have h' : some (RX3, TX3, 3) = some (C, T, N) := h
  cases h'
  exact ⟨by decide +kernel, rfl, fun _ => rfl⟩
theorem fp_X3_2 : FP RX3 3 2 false (.int) := fun C T N h => by
  have h' : some (RX3, TX3, 3) = some (C, T, N) := h
  cases h'
  exact ⟨by decide +kernel, rfl, fun _ => rfl⟩
theorem fp_X4_0 : FP RX4 4 0 true (.int) := fun C T N h => by
  have h' : some (RX4, TX4, 3) = some (C, T, N) := h
  cases h'
  exact ⟨by decide +kernel, rfl, fun _ => rfl⟩
theorem fp_X4_1 : FP RX4 4 1 false (.int) := fun C T N h => by
  have h' : some (RX4, TX4, 3) = some (C, T, N) := h
  cases h'
  exact ⟨by decide +kernel, rfl, fun _ => rfl⟩
theorem fp_X4_2 : FP RX4 4 2 false (.int) := fun C T N h => by
  have h' : some (RX4, TX4, 3) = some (C, T, N) := h
  cases h'
  exact ⟨by decide +kernel, rfl, fun _ => rfl⟩
theorem fp_X5_0 : FP RX5 5 0 false (.boolean) := fun C T N h => by
  have h' : some (RX5, TX5, 7) = some (C, T, N) := h
  cases h'
  exact ⟨by decide +kernel, rfl, fun _ => rfl⟩
theorem fp_X5_1 : FP RX5 5 1 false (.int) := fun C T N h => by
  have h' : some (RX5, TX5, 7) = some (C, T, N) := h
  cases h'
  exact ⟨by decide +kernel, rfl, fun _ => rfl⟩
theorem fp_X5_2 : FP RX5 5 2 false (.int) := fun C T N h => by
  have h' : some (RX5, TX5, 7) = some (C, T, N) := h
  cases h'
  exact ⟨by decide +kernel, rfl, fun _ => rfl⟩
theorem fp_X5_3 : FP RX5 5 3 false (.int) := fun C T N h => by
  have h' : some (RX5, TX5, 7) = some (C, T, N) := h
  cases h'
  exact ⟨by decide +kernel, rfl, fun _ => rfl⟩
theorem fp_X5_4 : FP RX5 5 4 true (.object "WheatSea$Seen") := fun C T N h => by
  have h' : some (RX5, TX5, 7) = some (C, T, N) := h
  cases h'
  exact ⟨by decide +kernel, rfl, fun _ => rfl⟩
theorem fp_X5_5 : FP RX5 5 5 true (.array .int) := fun C T N h => by
  have h' : some (RX5, TX5, 7) = some (C, T, N) := h
  cases h'
  exact ⟨by decide +kernel, rfl, fun _ => rfl⟩
theorem fp_X5_6 : FP RX5 5 6 true (.array .int) := fun C T N h => by
  have h' : some (RX5, TX5, 7) = some (C, T, N) := h
  cases h'
  exact ⟨by decide +kernel, rfl, fun _ => rfl⟩
theorem fp_X6_0 : FP RX6 6 0 true (.array .int) := fun C T N h => by
  have h' : some (RX6, TX6, 4) = some (C, T, N) := h
  cases h'
  exact ⟨by decide +kernel, rfl, fun _ => rfl⟩
theorem fp_X6_1 : FP RX6 6 1 false (.int) := fun C T N h => by
  have h' : some (RX6, TX6, 4) = some (C, T, N) := h
  cases h'
  exact ⟨by decide +kernel, rfl, fun _ => rfl⟩
theorem fp_X6_2 : FP RX6 6 2 false (.int) := fun C T N h => by
  have h' : some (RX6, TX6, 4) = some (C, T, N) := h
  cases h'
  exact ⟨by decide +kernel, rfl, fun _ => rfl⟩
theorem fp_X6_3 : FP RX6 6 3 false (.int) := fun C T N h => by
  have h' : some (RX6, TX6, 4) = some (C, T, N) := h
  cases h'
  exact ⟨by decide +kernel, rfl, fun _ => rfl⟩
theorem fp_X7_0 : FP RX7 7 0 true (.array .int) := fun C T N h => by
  have h' : some (RX7, TX7, 3) = some (C, T, N) := h
  cases h'
  exact ⟨by decide +kernel, rfl, fun _ => rfl⟩
theorem fp_X7_1 : FP RX7 7 1 false (.int) := fun C T N h => by
  have h' : some (RX7, TX7, 3) = some (C, T, N) := h
  cases h'
  exact ⟨by decide +kernel, rfl, fun _ => rfl⟩
theorem fp_X7_2 : FP RX7 7 2 false (.int) := fun C T N h => by
  have h' : some (RX7, TX7, 3) = some (C, T, N) := h
  cases h'
  exact ⟨by decide +kernel, rfl, fun _ => rfl⟩
theorem fp_X8_0 : FP RX8 8 0 false (.int) := fun C T N h => by
  have h' : some (RX8, TX8, 6) = some (C, T, N) := h
  cases h'
  exact ⟨by decide +kernel, rfl, fun _ => rfl⟩
theorem fp_X8_1 : FP RX8 8 1 true (.array .int) := fun C T N h => by
  have h' : some (RX8, TX8, 6) = some (C, T, N) := h
  cases h'
  exact ⟨by decide +kernel, rfl, fun _ => rfl⟩
theorem fp_X8_2 : FP RX8 8 2 true (.array .int) := fun C T N h => by
  have h' : some (RX8, TX8, 6) = some (C, T, N) := h
  cases h'
  exact ⟨by decide +kernel, rfl, fun _ => rfl⟩
theorem fp_X8_3 : FP RX8 8 3 true (.array .int) := fun C T N h => by
  have h' : some (RX8, TX8, 6) = some (C, T, N) := h
  cases h'
  exact ⟨by decide +kernel, rfl, fun _ => rfl⟩
theorem fp_X8_4 : FP RX8 8 4 true (.array .int) := fun C T N h => by
  have h' : some (RX8, TX8, 6) = some (C, T, N) := h
  cases h'
  exact ⟨by decide +kernel, rfl, fun _ => rfl⟩
theorem fp_X8_5 : FP RX8 8 5 true (.array .int) := fun C T N h => by
  have h' : some (RX8, TX8, 6) = some (C, T, N) := h
  cases h'
  exact ⟨by decide +kernel, rfl, fun _ => rfl⟩
theorem fp_X9_0 : FP RX4 9 0 true (.int) := fun C T N h => by
  have h' : some (RX9, TX9, 3) = some (C, T, N) := h
  cases h'
  exact ⟨by decide +kernel, rfl, fun _ => rfl⟩
theorem fp_X9_1 : FP RX4 9 1 false (.int) := fun C T N h => by
  have h' : some (RX9, TX9, 3) = some (C, T, N) := h
  cases h'
  exact ⟨by decide +kernel, rfl, fun _ => rfl⟩
theorem fp_X9_2 : FP RX4 9 2 false (.int) := fun C T N h => by
  have h' : some (RX9, TX9, 3) = some (C, T, N) := h
  cases h'
  exact ⟨by decide +kernel, rfl, fun _ => rfl⟩
theorem fp_X10_0 : FP RX4 10 0 true (.int) := fun C T N h => by
  have h' : some (RX10, TX10, 3) = some (C, T, N) := h
  cases h'
  exact ⟨by decide +kernel, rfl, fun _ => rfl⟩
theorem fp_X10_1 : FP RX4 10 1 false (.int) := fun C T N h => by
  have h' : some (RX10, TX10, 3) = some (C, T, N) := h
  cases h'
  exact ⟨by decide +kernel, rfl, fun _ => rfl⟩
theorem fp_X10_2 : FP RX4 10 2 false (.int) := fun C T N h => by
  have h' : some (RX10, TX10, 3) = some (C, T, N) := h
  cases h'
  exact ⟨by decide +kernel, rfl, fun _ => rfl⟩
theorem fp_X11_0 : FP RX11 11 0 true (.array .int) := fun C T N h => by
  have h' : some (RX11, TX11, 13) = some (C, T, N) := h
  cases h'
  exact ⟨by decide +kernel, rfl, fun _ => rfl⟩
theorem fp_X11_1 : FP RX11 11 1 false (.int) := fun C T N h => by
  have h' : some (RX11, TX11, 13) = some (C, T, N) := h
  cases h'
  exact ⟨by decide +kernel, rfl, fun _ => rfl⟩
theorem fp_X11_2 : FP RX11 11 2 false (.int) := fun C T N h => by
  have h' : some (RX11, TX11, 13) = some (C, T, N) := h
  cases h'
  exact ⟨by decide +kernel, rfl, fun _ => rfl⟩
theorem fp_X11_3 : FP RX11 11 3 true (.object "WheatSea$Sea") := fun C T N h => by
  have h' : some (RX11, TX11, 13) = some (C, T, N) := h
  cases h'
  exact ⟨by decide +kernel, rfl, fun _ => rfl⟩
theorem fp_X11_4 : FP RX11 11 4 true (.object "WheatSea$Sea") := fun C T N h => by
  have h' : some (RX11, TX11, 13) = some (C, T, N) := h
  cases h'
  exact ⟨by decide +kernel, rfl, fun _ => rfl⟩
theorem fp_X11_5 : FP RX11 11 5 true (.array (.object "WheatSea$Hull")) := fun C T N h => by
  have h' : some (RX11, TX11, 13) = some (C, T, N) := h
  cases h'
  exact ⟨by decide +kernel, rfl, fun _ => rfl⟩
theorem fp_X11_6 : FP RX11 11 6 false (.int) := fun C T N h => by
  have h' : some (RX11, TX11, 13) = some (C, T, N) := h
  cases h'
  exact ⟨by decide +kernel, rfl, fun _ => rfl⟩
theorem fp_X11_7 : FP RX11 11 7 false (.int) := fun C T N h => by
  have h' : some (RX11, TX11, 13) = some (C, T, N) := h
  cases h'
  exact ⟨by decide +kernel, rfl, fun _ => rfl⟩
theorem fp_X11_8 : FP RX11 11 8 true (.object "WheatSea$Seen") := fun C T N h => by
  have h' : some (RX11, TX11, 13) = some (C, T, N) := h
  cases h'
  exact ⟨by decide +kernel, rfl, fun _ => rfl⟩
theorem fp_X11_9 : FP RX11 11 9 true (.object "WheatSea$Image") := fun C T N h => by
  have h' : some (RX11, TX11, 13) = some (C, T, N) := h
  cases h'
  exact ⟨by decide +kernel, rfl, fun _ => rfl⟩
theorem fp_X11_10 : FP RX11 11 10 true (.object "WheatSea$Chart") := fun C T N h => by
  have h' : some (RX11, TX11, 13) = some (C, T, N) := h
  cases h'
  exact ⟨by decide +kernel, rfl, fun _ => rfl⟩
theorem fp_X11_11 : FP RX11 11 11 true (.object "WheatSea$Homecoming") := fun C T N h => by
  have h' : some (RX11, TX11, 13) = some (C, T, N) := h
  cases h'
  exact ⟨by decide +kernel, rfl, fun _ => rfl⟩
theorem fp_X11_12 : FP RX11 11 12 true (.object "WheatSea$June") := fun C T N h => by
  have h' : some (RX11, TX11, 13) = some (C, T, N) := h
  cases h'
  exact ⟨by decide +kernel, rfl, fun _ => rfl⟩
theorem fp_X12_0 : FP RX12 12 0 true (.array .int) := fun C T N h => by
  have h' : some (RX12, TX12, 28) = some (C, T, N) := h
  cases h'
  exact ⟨by decide +kernel, rfl, fun _ => rfl⟩
theorem fp_X12_1 : FP RX12 12 1 false (.int) := fun C T N h => by
  have h' : some (RX12, TX12, 28) = some (C, T, N) := h
  cases h'
  exact ⟨by decide +kernel, rfl, fun _ => rfl⟩
theorem fp_X12_2 : FP RX12 12 2 false (.int) := fun C T N h => by
  have h' : some (RX12, TX12, 28) = some (C, T, N) := h
  cases h'
  exact ⟨by decide +kernel, rfl, fun _ => rfl⟩
theorem fp_X12_3 : FP RX12 12 3 false (.int) := fun C T N h => by
  have h' : some (RX12, TX12, 28) = some (C, T, N) := h
  cases h'
  exact ⟨by decide +kernel, rfl, fun _ => rfl⟩
theorem fp_X12_4 : FP RX12 12 4 false (.int) := fun C T N h => by
  have h' : some (RX12, TX12, 28) = some (C, T, N) := h
  cases h'
  exact ⟨by decide +kernel, rfl, fun _ => rfl⟩
theorem fp_X12_5 : FP RX12 12 5 false (.int) := fun C T N h => by
  have h' : some (RX12, TX12, 28) = some (C, T, N) := h
  cases h'
  exact ⟨by decide +kernel, rfl, fun _ => rfl⟩
theorem fp_X12_6 : FP RX12 12 6 true (.array .int) := fun C T N h => by
  have h' : some (RX12, TX12, 28) = some (C, T, N) := h
  cases h'
  exact ⟨by decide +kernel, rfl, fun _ => rfl⟩
theorem fp_X12_7 : FP RX12 12 7 false (.int) := fun C T N h => by
  have h' : some (RX12, TX12, 28) = some (C, T, N) := h
  cases h'
  exact ⟨by decide +kernel, rfl, fun _ => rfl⟩
theorem fp_X12_8 : FP RX12 12 8 true (.array .int) := fun C T N h => by
  have h' : some (RX12, TX12, 28) = some (C, T, N) := h
  cases h'
  exact ⟨by decide +kernel, rfl, fun _ => rfl⟩
theorem fp_X12_9 : FP RX12 12 9 true (.array .int) := fun C T N h => by
  have h' : some (RX12, TX12, 28) = some (C, T, N) := h
  cases h'
  exact ⟨by decide +kernel, rfl, fun _ => rfl⟩
theorem fp_X12_10 : FP RX12 12 10 true (.array .int) := fun C T N h => by
  have h' : some (RX12, TX12, 28) = some (C, T, N) := h
  cases h'
  exact ⟨by decide +kernel, rfl, fun _ => rfl⟩
theorem fp_X12_11 : FP RX12 12 11 true (.array .int) := fun C T N h => by
  have h' : some (RX12, TX12, 28) = some (C, T, N) := h
  cases h'
  exact ⟨by decide +kernel, rfl, fun _ => rfl⟩
theorem fp_X12_12 : FP RX12 12 12 true (.array .int) := fun C T N h => by
  have h' : some (RX12, TX12, 28) = some (C, T, N) := h
  cases h'
  exact ⟨by decide +kernel, rfl, fun _ => rfl⟩
theorem fp_X12_13 : FP RX12 12 13 false (.int) := fun C T N h => by
  have h' : some (RX12, TX12, 28) = some (C, T, N) := h
  cases h'
  exact ⟨by decide +kernel, rfl, fun _ => rfl⟩
theorem fp_X12_14 : FP RX12 12 14 false (.int) := fun C T N h => by
  have h' : some (RX12, TX12, 28) = some (C, T, N) := h
  cases h'
  exact ⟨by decide +kernel, rfl, fun _ => rfl⟩
theorem fp_X12_15 : FP RX12 12 15 false (.int) := fun C T N h => by
  have h' : some (RX12, TX12, 28) = some (C, T, N) := h
  cases h'
  exact ⟨by decide +kernel, rfl, fun _ => rfl⟩
theorem fp_X12_16 : FP RX12 12 16 true (.array .int) := fun C T N h => by
  have h' : some (RX12, TX12, 28) = some (C, T, N) := h
  cases h'
  exact ⟨by decide +kernel, rfl, fun _ => rfl⟩
theorem fp_X12_17 : FP RX12 12 17 true (.array .int) := fun C T N h => by
  have h' : some (RX12, TX12, 28) = some (C, T, N) := h
  cases h'
  exact ⟨by decide +kernel, rfl, fun _ => rfl⟩
theorem fp_X12_18 : FP RX12 12 18 false (.int) := fun C T N h => by
  have h' : some (RX12, TX12, 28) = some (C, T, N) := h
  cases h'
  exact ⟨by decide +kernel, rfl, fun _ => rfl⟩
theorem fp_X12_19 : FP RX12 12 19 true (.array .int) := fun C T N h => by
  have h' : some (RX12, TX12, 28) = some (C, T, N) := h
  cases h'
  exact ⟨by decide +kernel, rfl, fun _ => rfl⟩
theorem fp_X12_20 : FP RX12 12 20 false (.int) := fun C T N h => by
  have h' : some (RX12, TX12, 28) = some (C, T, N) := h
  cases h'
  exact ⟨by decide +kernel, rfl, fun _ => rfl⟩
theorem fp_X12_21 : FP RX12 12 21 false (.int) := fun C T N h => by
  have h' : some (RX12, TX12, 28) = some (C, T, N) := h
  cases h'
  exact ⟨by decide +kernel, rfl, fun _ => rfl⟩
theorem fp_X12_22 : FP RX12 12 22 false (.int) := fun C T N h => by
  have h' : some (RX12, TX12, 28) = some (C, T, N) := h
  cases h'
  exact ⟨by decide +kernel, rfl, fun _ => rfl⟩
theorem fp_X12_23 : FP RX12 12 23 false (.int) := fun C T N h => by
  have h' : some (RX12, TX12, 28) = some (C, T, N) := h
  cases h'
  exact ⟨by decide +kernel, rfl, fun _ => rfl⟩
theorem fp_X12_24 : FP RX12 12 24 false (.int) := fun C T N h => by
  have h' : some (RX12, TX12, 28) = some (C, T, N) := h
  cases h'
  exact ⟨by decide +kernel, rfl, fun _ => rfl⟩
theorem fp_X12_25 : FP RX12 12 25 true (.array .int) := fun C T N h => by
  have h' : some (RX12, TX12, 28) = some (C, T, N) := h
  cases h'
  exact ⟨by decide +kernel, rfl, fun _ => rfl⟩
theorem fp_X12_26 : FP RX12 12 26 true (.array .int) := fun C T N h => by
  have h' : some (RX12, TX12, 28) = some (C, T, N) := h
  cases h'
  exact ⟨by decide +kernel, rfl, fun _ => rfl⟩
theorem fp_X12_27 : FP RX12 12 27 false (.long) := fun C T N h => by
  have h' : some (RX12, TX12, 28) = some (C, T, N) := h
  cases h'
  exact ⟨by decide +kernel, rfl, fun _ => rfl⟩
theorem fp_any {own own2 : String} {ci k : Nat} {ty : FieldType} (h : FP own ci k false ty) : FP own2 ci k false ty := fun C T N hc => ⟨(h C T N hc).1, (h C T N hc).2.1, fun q => by cases q⟩
theorem nw_L_7 : NW RL 7 11 [.null, .int 0, .int 0, .null, .null, .null, .int 0, .int 0, .null, .null, .null, .null, .null] := ⟨RX11, TX11, 13, tyX11, rfl, inTX11, tyX11_ok, gmi 65 (by decide +kernel) (by decide +kernel), gmi 66 (by decide +kernel) (by decide +kernel), gmi 47 (by decide +kernel) (by decide +kernel), (by decide +kernel), rfl⟩
theorem cl_L_7 : Cond.classLink RL 7 RX11 ∈ lw_g := gmi 65 (by decide +kernel) (by decide +kernel)
theorem nw_X11_13 : NW RX11 13 4 [.int 0, .int 0, .int 0] := ⟨RX4, TX4, 3, tyX4, rfl, inTX4, tyX4_ok, gmi 73 (by decide +kernel) (by decide +kernel), gmi 428 (by decide +kernel) (by decide +kernel), gmi 59 (by decide +kernel) (by decide +kernel), (by decide +kernel), rfl⟩
theorem cl_X11_13 : Cond.classLink RX11 13 RX4 ∈ lw_g := gmi 73 (by decide +kernel) (by decide +kernel)
theorem nw_X11_19 : NW RX11 19 8 [.int 0, .null, .null, .null, .null, .null] := ⟨RX8, TX8, 6, tyX8, rfl, inTX8, tyX8_ok, gmi 75 (by decide +kernel) (by decide +kernel), gmi 76 (by decide +kernel) (by decide +kernel), gmi 48 (by decide +kernel) (by decide +kernel), (by decide +kernel), rfl⟩
theorem cl_X11_19 : Cond.classLink RX11 19 RX8 ∈ lw_g := gmi 75 (by decide +kernel) (by decide +kernel)
theorem nw_X11_26 : NW RX11 26 5 [.int 0, .int 0, .int 0, .int 0, .null, .null, .null] := ⟨RX5, TX5, 7, tyX5, rfl, inTX5, tyX5_ok, gmi 102 (by decide +kernel) (by decide +kernel), gmi 103 (by decide +kernel) (by decide +kernel), gmi 49 (by decide +kernel) (by decide +kernel), (by decide +kernel), rfl⟩
theorem cl_X11_26 : Cond.classLink RX11 26 RX5 ∈ lw_g := gmi 102 (by decide +kernel) (by decide +kernel)
theorem nw_X5_9 : NW RX5 9 8 [.int 0, .null, .null, .null, .null, .null] := ⟨RX8, TX8, 6, tyX8, rfl, inTX8, tyX8_ok, gmi 108 (by decide +kernel) (by decide +kernel), gmi 76 (by decide +kernel) (by decide +kernel), gmi 48 (by decide +kernel) (by decide +kernel), (by decide +kernel), rfl⟩
theorem cl_X5_9 : Cond.classLink RX5 9 RX8 ∈ lw_g := gmi 108 (by decide +kernel) (by decide +kernel)
theorem nw_X11_33 : NW RX11 33 0 [.null, .null] := ⟨RX0, TX0, 2, tyX0, rfl, inTX0, tyX0_ok, gmi 135 (by decide +kernel) (by decide +kernel), gmi 136 (by decide +kernel) (by decide +kernel), gmi 50 (by decide +kernel) (by decide +kernel), (by decide +kernel), rfl⟩
theorem cl_X11_33 : Cond.classLink RX11 33 RX0 ∈ lw_g := gmi 135 (by decide +kernel) (by decide +kernel)
theorem nw_X11_40 : NW RX11 40 3 [.int 0, .int 0, .int 0] := ⟨RX3, TX3, 3, tyX3, rfl, inTX3, tyX3_ok, gmi 148 (by decide +kernel) (by decide +kernel), gmi 149 (by decide +kernel) (by decide +kernel), gmi 51 (by decide +kernel) (by decide +kernel), (by decide +kernel), rfl⟩
theorem cl_X11_40 : Cond.classLink RX11 40 RX3 ∈ lw_g := gmi 148 (by decide +kernel) (by decide +kernel)
theorem nw_X11_47 : NW RX11 47 6 [.null, .int 0, .int 0, .int 0] := ⟨RX6, TX6, 4, tyX6, rfl, inTX6, tyX6_ok, gmi 166 (by decide +kernel) (by decide +kernel), gmi 167 (by decide +kernel) (by decide +kernel), gmi 52 (by decide +kernel) (by decide +kernel), (by decide +kernel), rfl⟩
theorem cl_X11_47 : Cond.classLink RX11 47 RX6 ∈ lw_g := gmi 166 (by decide +kernel) (by decide +kernel)
theorem nw_X11_54 : NW RX11 54 7 [.null, .int 0, .int 0] := ⟨RX7, TX7, 3, tyX7, rfl, inTX7, tyX7_ok, gmi 188 (by decide +kernel) (by decide +kernel), gmi 189 (by decide +kernel) (by decide +kernel), gmi 53 (by decide +kernel) (by decide +kernel), (by decide +kernel), rfl⟩
theorem cl_X11_54 : Cond.classLink RX11 54 RX7 ∈ lw_g := gmi 188 (by decide +kernel) (by decide +kernel)
theorem nw_X11_266 : NW RX11 266 10 [.int 0, .int 0, .int 0] := ⟨RX10, TX10, 3, tyX10, rfl, inTX10, tyX10_ok, gmi 371 (by decide +kernel) (by decide +kernel), gmi 372 (by decide +kernel) (by decide +kernel), gmi 60 (by decide +kernel) (by decide +kernel), (by decide +kernel), rfl⟩
theorem cl_X11_266 : Cond.classLink RX11 266 RX10 ∈ lw_g := gmi 371 (by decide +kernel) (by decide +kernel)
theorem nw_X11_270 : NW RX11 270 2 [.int 0, .int 0, .int 0] := ⟨RX2, TX2, 3, tyX2, rfl, inTX2, tyX2_ok, gmi 398 (by decide +kernel) (by decide +kernel), gmi 399 (by decide +kernel) (by decide +kernel), gmi 61 (by decide +kernel) (by decide +kernel), (by decide +kernel), rfl⟩
theorem cl_X11_270 : Cond.classLink RX11 270 RX2 ∈ lw_g := gmi 398 (by decide +kernel) (by decide +kernel)
theorem nw_X11_273 : NW RX11 273 9 [.int 0, .int 0, .int 0] := ⟨RX9, TX9, 3, tyX9, rfl, inTX9, tyX9_ok, gmi 408 (by decide +kernel) (by decide +kernel), gmi 409 (by decide +kernel) (by decide +kernel), gmi 62 (by decide +kernel) (by decide +kernel), (by decide +kernel), rfl⟩
theorem cl_X11_273 : Cond.classLink RX11 273 RX9 ∈ lw_g := gmi 408 (by decide +kernel) (by decide +kernel)
theorem nw_X11_276 : NW RX11 276 1 [.int 0, .int 0, .int 0] := ⟨RX1, TX1, 3, tyX1, rfl, inTX1, tyX1_ok, gmi 418 (by decide +kernel) (by decide +kernel), gmi 419 (by decide +kernel) (by decide +kernel), gmi 63 (by decide +kernel) (by decide +kernel), (by decide +kernel), rfl⟩
theorem cl_X11_276 : Cond.classLink RX11 276 RX1 ∈ lw_g := gmi 418 (by decide +kernel) (by decide +kernel)
theorem nw_L_10 : NW RL 10 12 [.null, .int 0, .int 0, .int 0, .int 0, .int 0, .null, .int 0, .null, .null, .null, .null, .null, .int 0, .int 0, .int 0, .null, .null, .int 0, .null, .int 0, .int 0, .int 0, .int 0, .int 0, .null, .null, .long 0] := ⟨RX12, TX12, 28, tyX12, rfl, inTX12, tyX12_ok, gmi 739 (by decide +kernel) (by decide +kernel), gmi 740 (by decide +kernel) (by decide +kernel), gmi 54 (by decide +kernel) (by decide +kernel), (by decide +kernel), rfl⟩
theorem cl_L_10 : Cond.classLink RL 10 RX12 ∈ lw_g := gmi 739 (by decide +kernel) (by decide +kernel)
theorem wm_X0_init : WM yX0_init cX0_init 1 none 0 := ⟨gmi 139 (by decide +kernel) (by decide +kernel), gmi 50 (by decide +kernel) (by decide +kernel), by decide +kernel, by decide +kernel, by decide +kernel⟩
theorem wm_X11_isCell : WM yX11_isCell cX11_isCell 1 (some .boolean) 1 := ⟨gmi 343 (by decide +kernel) (by decide +kernel), gmi 47 (by decide +kernel) (by decide +kernel), by decide +kernel, by decide +kernel, by decide +kernel⟩
theorem wm_X11_beside : WM yX11_beside cX11_beside 2 (some .int) 2 := ⟨gmi 483 (by decide +kernel) (by decide +kernel), gmi 47 (by decide +kernel) (by decide +kernel), by decide +kernel, by decide +kernel, by decide +kernel⟩
theorem wm_X7_highAt : WM yX7_highAt cX7_highAt 3 (some .int) 2 := ⟨gmi 347 (by decide +kernel) (by decide +kernel), gmi 53 (by decide +kernel) (by decide +kernel), by decide +kernel, by decide +kernel, by decide +kernel⟩
theorem wm_X10_cornNeeded : WM yX10_cornNeeded cX10_cornNeeded 1 (some .int) 0 := ⟨gmi 470 (by decide +kernel) (by decide +kernel), gmi 60 (by decide +kernel) (by decide +kernel), by decide +kernel, by decide +kernel, by decide +kernel⟩
theorem wm_X4_cornNeeded : WM yX4_cornNeeded cX4_cornNeeded 1 (some .int) 0 := ⟨gmi 476 (by decide +kernel) (by decide +kernel), gmi 59 (by decide +kernel) (by decide +kernel), by decide +kernel, by decide +kernel, by decide +kernel⟩
theorem wm_X9_cornNeeded : WM yX9_cornNeeded cX9_cornNeeded 1 (some .int) 0 := ⟨gmi 474 (by decide +kernel) (by decide +kernel), gmi 62 (by decide +kernel) (by decide +kernel), by decide +kernel, by decide +kernel, by decide +kernel⟩
theorem wm_X7_floats : WM yX7_floats cX7_floats 4 (some .boolean) 3 := ⟨gmi 462 (by decide +kernel) (by decide +kernel), gmi 53 (by decide +kernel) (by decide +kernel), by decide +kernel, by decide +kernel, by decide +kernel⟩
theorem wm_X1_hoursBecalmed : WM yX1_hoursBecalmed cX1_hoursBecalmed 1 (some .int) 0 := ⟨gmi 500 (by decide +kernel) (by decide +kernel), gmi 63 (by decide +kernel) (by decide +kernel), by decide +kernel, by decide +kernel, by decide +kernel⟩
theorem wm_X4_hoursBecalmed : WM yX4_hoursBecalmed cX4_hoursBecalmed 1 (some .int) 0 := ⟨gmi 506 (by decide +kernel) (by decide +kernel), gmi 59 (by decide +kernel) (by decide +kernel), by decide +kernel, by decide +kernel, by decide +kernel⟩
theorem wm_X9_hoursBecalmed : WM yX9_hoursBecalmed cX9_hoursBecalmed 1 (some .int) 0 := ⟨gmi 504 (by decide +kernel) (by decide +kernel), gmi 62 (by decide +kernel) (by decide +kernel), by decide +kernel, by decide +kernel, by decide +kernel⟩
theorem wm_X4_hoursWith : WM yX4_hoursWith cX4_hoursWith 1 (some .int) 0 := ⟨gmi 517 (by decide +kernel) (by decide +kernel), gmi 59 (by decide +kernel) (by decide +kernel), by decide +kernel, by decide +kernel, by decide +kernel⟩
theorem wm_X9_hoursWith : WM yX9_hoursWith cX9_hoursWith 1 (some .int) 0 := ⟨gmi 515 (by decide +kernel) (by decide +kernel), gmi 62 (by decide +kernel) (by decide +kernel), by decide +kernel, by decide +kernel, by decide +kernel⟩
theorem wm_X1_hoursAgainst : WM yX1_hoursAgainst cX1_hoursAgainst 1 (some .int) 0 := ⟨gmi 524 (by decide +kernel) (by decide +kernel), gmi 63 (by decide +kernel) (by decide +kernel), by decide +kernel, by decide +kernel, by decide +kernel⟩
theorem wm_X4_hoursAgainst : WM yX4_hoursAgainst cX4_hoursAgainst 1 (some .int) 0 := ⟨gmi 530 (by decide +kernel) (by decide +kernel), gmi 59 (by decide +kernel) (by decide +kernel), by decide +kernel, by decide +kernel, by decide +kernel⟩
theorem wm_X2_hoursAgainst : WM yX2_hoursAgainst cX2_hoursAgainst 1 (some .int) 0 := ⟨gmi 527 (by decide +kernel) (by decide +kernel), gmi 61 (by decide +kernel) (by decide +kernel), by decide +kernel, by decide +kernel, by decide +kernel⟩
theorem wm_X4_hoursAcross : WM yX4_hoursAcross cX4_hoursAcross 1 (some .int) 0 := ⟨gmi 541 (by decide +kernel) (by decide +kernel), gmi 59 (by decide +kernel) (by decide +kernel), by decide +kernel, by decide +kernel, by decide +kernel⟩
theorem wm_X9_hoursAcross : WM yX9_hoursAcross cX9_hoursAcross 1 (some .int) 0 := ⟨gmi 539 (by decide +kernel) (by decide +kernel), gmi 62 (by decide +kernel) (by decide +kernel), by decide +kernel, by decide +kernel, by decide +kernel⟩
theorem wm_X4_hoursFor : WM yX4_hoursFor cX4_hoursFor 3 (some .int) 2 := ⟨gmi 493 (by decide +kernel) (by decide +kernel), gmi 59 (by decide +kernel) (by decide +kernel), by decide +kernel, by decide +kernel, by decide +kernel⟩
theorem wm_X7_hoursToSail : WM yX7_hoursToSail cX7_hoursToSail 7 (some .int) 4 := ⟨gmi 480 (by decide +kernel) (by decide +kernel), gmi 53 (by decide +kernel) (by decide +kernel), by decide +kernel, by decide +kernel, by decide +kernel⟩
theorem wm_X0_arrive : WM yX0_arrive cX0_arrive 5 none 3 := ⟨gmi 572 (by decide +kernel) (by decide +kernel), gmi 50 (by decide +kernel) (by decide +kernel), by decide +kernel, by decide +kernel, by decide +kernel⟩
theorem wm_X0_sailOnFrom : WM yX0_sailOnFrom cX0_sailOnFrom 7 none 3 := ⟨gmi 566 (by decide +kernel) (by decide +kernel), gmi 50 (by decide +kernel) (by decide +kernel), by decide +kernel, by decide +kernel, by decide +kernel⟩
theorem wm_X0_soonestOpen : WM yX0_soonestOpen cX0_soonestOpen 5 (some .int) 1 := ⟨gmi 576 (by decide +kernel) (by decide +kernel), gmi 50 (by decide +kernel) (by decide +kernel), by decide +kernel, by decide +kernel, by decide +kernel⟩
theorem wm_X0_plot : WM yX0_plot cX0_plot 8 none 4 := ⟨gmi 561 (by decide +kernel) (by decide +kernel), gmi 50 (by decide +kernel) (by decide +kernel), by decide +kernel, by decide +kernel, by decide +kernel⟩
theorem wm_X0_hourAt : WM yX0_hourAt cX0_hourAt 2 (some .int) 1 := ⟨gmi 580 (by decide +kernel) (by decide +kernel), gmi 50 (by decide +kernel) (by decide +kernel), by decide +kernel, by decide +kernel, by decide +kernel⟩
theorem wm_X0_firstWayTo : WM yX0_firstWayTo cX0_firstWayTo 2 (some .int) 1 := ⟨gmi 584 (by decide +kernel) (by decide +kernel), gmi 50 (by decide +kernel) (by decide +kernel), by decide +kernel, by decide +kernel, by decide +kernel⟩
theorem wm_X4_init : WM yX4_init cX4_init 3 none 2 := ⟨gmi 378 (by decide +kernel) (by decide +kernel), gmi 59 (by decide +kernel) (by decide +kernel), by decide +kernel, by decide +kernel, by decide +kernel⟩
theorem wm_X10_init : WM yX10_init cX10_init 3 none 2 := ⟨gmi 375 (by decide +kernel) (by decide +kernel), gmi 60 (by decide +kernel) (by decide +kernel), by decide +kernel, by decide +kernel, by decide +kernel⟩
theorem wm_X1_init : WM yX1_init cX1_init 3 none 2 := ⟨gmi 422 (by decide +kernel) (by decide +kernel), gmi 63 (by decide +kernel) (by decide +kernel), by decide +kernel, by decide +kernel, by decide +kernel⟩
theorem wm_X1_kind : WM yX1_kind cX1_kind 1 (some .int) 0 := ⟨gmi 448 (by decide +kernel) (by decide +kernel), gmi 63 (by decide +kernel) (by decide +kernel), by decide +kernel, by decide +kernel, by decide +kernel⟩
theorem wm_X2_init : WM yX2_init cX2_init 3 none 2 := ⟨gmi 402 (by decide +kernel) (by decide +kernel), gmi 61 (by decide +kernel) (by decide +kernel), by decide +kernel, by decide +kernel, by decide +kernel⟩
theorem wm_X2_kind : WM yX2_kind cX2_kind 1 (some .int) 0 := ⟨gmi 451 (by decide +kernel) (by decide +kernel), gmi 61 (by decide +kernel) (by decide +kernel), by decide +kernel, by decide +kernel, by decide +kernel⟩
theorem wm_X3_init : WM yX3_init cX3_init 1 none 0 := ⟨gmi 152 (by decide +kernel) (by decide +kernel), gmi 51 (by decide +kernel) (by decide +kernel), by decide +kernel, by decide +kernel, by decide +kernel⟩
theorem wm_X3_numberIn : WM yX3_numberIn cX3_numberIn 4 (some .int) 2 := ⟨gmi 606 (by decide +kernel) (by decide +kernel), gmi 51 (by decide +kernel) (by decide +kernel), by decide +kernel, by decide +kernel, by decide +kernel⟩
theorem wm_X3_hullIn : WM yX3_hullIn cX3_hullIn 5 (some (.object "WheatSea$Hull")) 3 := ⟨gmi 602 (by decide +kernel) (by decide +kernel), gmi 51 (by decide +kernel) (by decide +kernel), by decide +kernel, by decide +kernel, by decide +kernel⟩
theorem wm_X3_find : WM yX3_find cX3_find 12 none 5 := ⟨gmi 596 (by decide +kernel) (by decide +kernel), gmi 51 (by decide +kernel) (by decide +kernel), by decide +kernel, by decide +kernel, by decide +kernel⟩
theorem wm_X3_hullInPlace : WM yX3_hullInPlace cX3_hullInPlace 2 (some .int) 1 := ⟨gmi 612 (by decide +kernel) (by decide +kernel), gmi 51 (by decide +kernel) (by decide +kernel), by decide +kernel, by decide +kernel, by decide +kernel⟩
theorem wm_X4_kind : WM yX4_kind cX4_kind 1 (some .int) 0 := ⟨gmi 458 (by decide +kernel) (by decide +kernel), gmi 59 (by decide +kernel) (by decide +kernel), by decide +kernel, by decide +kernel, by decide +kernel⟩
theorem wm_X8_init : WM yX8_init cX8_init 1 none 0 := ⟨gmi 79 (by decide +kernel) (by decide +kernel), gmi 48 (by decide +kernel) (by decide +kernel), by decide +kernel, by decide +kernel, by decide +kernel⟩
theorem wm_X5_init : WM yX5_init cX5_init 1 none 0 := ⟨gmi 106 (by decide +kernel) (by decide +kernel), gmi 49 (by decide +kernel) (by decide +kernel), by decide +kernel, by decide +kernel, by decide +kernel⟩
theorem wm_X5_keep : WM yX5_keep cX5_keep 5 none 2 := ⟨gmi 697 (by decide +kernel) (by decide +kernel), gmi 49 (by decide +kernel) (by decide +kernel), by decide +kernel, by decide +kernel, by decide +kernel⟩
theorem wm_X5_giveBack : WM yX5_giveBack cX5_giveBack 4 none 1 := ⟨gmi 709 (by decide +kernel) (by decide +kernel), gmi 49 (by decide +kernel) (by decide +kernel), by decide +kernel, by decide +kernel, by decide +kernel⟩
theorem wm_X6_init : WM yX6_init cX6_init 1 none 0 := ⟨gmi 170 (by decide +kernel) (by decide +kernel), gmi 52 (by decide +kernel) (by decide +kernel), by decide +kernel, by decide +kernel, by decide +kernel⟩
theorem wm_X6_begin : WM yX6_begin cX6_begin 6 none 3 := ⟨gmi 666 (by decide +kernel) (by decide +kernel), gmi 52 (by decide +kernel) (by decide +kernel), by decide +kernel, by decide +kernel, by decide +kernel⟩
theorem wm_X6_drawn : WM yX6_drawn cX6_drawn 2 (some .int) 1 := ⟨gmi 674 (by decide +kernel) (by decide +kernel), gmi 52 (by decide +kernel) (by decide +kernel), by decide +kernel, by decide +kernel, by decide +kernel⟩
theorem wm_X6_afterSailing : WM yX6_afterSailing cX6_afterSailing 6 (some .int) 4 := ⟨gmi 682 (by decide +kernel) (by decide +kernel), gmi 52 (by decide +kernel) (by decide +kernel), by decide +kernel, by decide +kernel, by decide +kernel⟩
theorem wm_X6_run : WM yX6_run cX6_run 7 none 3 := ⟨gmi 670 (by decide +kernel) (by decide +kernel), gmi 52 (by decide +kernel) (by decide +kernel), by decide +kernel, by decide +kernel, by decide +kernel⟩
theorem wm_X6_stranded : WM yX6_stranded cX6_stranded 6 (some .int) 2 := ⟨gmi 688 (by decide +kernel) (by decide +kernel), gmi 52 (by decide +kernel) (by decide +kernel), by decide +kernel, by decide +kernel, by decide +kernel⟩
theorem wm_X7_init : WM yX7_init cX7_init 2 none 1 := ⟨gmi 192 (by decide +kernel) (by decide +kernel), gmi 53 (by decide +kernel) (by decide +kernel), by decide +kernel, by decide +kernel, by decide +kernel⟩
theorem wm_X7_sow : WM yX7_sow cX7_sow 3 none 2 := ⟨gmi 328 (by decide +kernel) (by decide +kernel), gmi 53 (by decide +kernel) (by decide +kernel), by decide +kernel, by decide +kernel, by decide +kernel⟩
theorem wm_X7_cutHour : WM yX7_cutHour cX7_cutHour 2 (some .int) 1 := ⟨gmi 351 (by decide +kernel) (by decide +kernel), gmi 53 (by decide +kernel) (by decide +kernel), by decide +kernel, by decide +kernel, by decide +kernel⟩
theorem wm_X8_add : WM yX8_add cX8_add 4 (some .boolean) 3 := ⟨gmi 624 (by decide +kernel) (by decide +kernel), gmi 48 (by decide +kernel) (by decide +kernel), by decide +kernel, by decide +kernel, by decide +kernel⟩
theorem wm_X8_become : WM yX8_become cX8_become 3 none 1 := ⟨gmi 701 (by decide +kernel) (by decide +kernel), gmi 48 (by decide +kernel) (by decide +kernel), by decide +kernel, by decide +kernel, by decide +kernel⟩
theorem wm_X8_lookUp : WM yX8_lookUp cX8_lookUp 5 (some .int) 1 := ⟨gmi 640 (by decide +kernel) (by decide +kernel), gmi 48 (by decide +kernel) (by decide +kernel), by decide +kernel, by decide +kernel, by decide +kernel⟩
theorem wm_X8_canBe : WM yX8_canBe cX8_canBe 4 (some .boolean) 3 := ⟨gmi 651 (by decide +kernel) (by decide +kernel), gmi 48 (by decide +kernel) (by decide +kernel), by decide +kernel, by decide +kernel, by decide +kernel⟩
theorem wm_X8_unseenBetween : WM yX8_unseenBetween cX8_unseenBetween 4 (some .boolean) 2 := ⟨gmi 657 (by decide +kernel) (by decide +kernel), gmi 48 (by decide +kernel) (by decide +kernel), by decide +kernel, by decide +kernel, by decide +kernel⟩
theorem wm_X8_goesOn : WM yX8_goesOn cX8_goesOn 8 (some .boolean) 5 := ⟨gmi 647 (by decide +kernel) (by decide +kernel), gmi 48 (by decide +kernel) (by decide +kernel), by decide +kernel, by decide +kernel, by decide +kernel⟩
theorem wm_X8_startsOf : WM yX8_startsOf cX8_startsOf 8 (some .int) 3 := ⟨gmi 636 (by decide +kernel) (by decide +kernel), gmi 48 (by decide +kernel) (by decide +kernel), by decide +kernel, by decide +kernel, by decide +kernel⟩
theorem wm_X9_init : WM yX9_init cX9_init 3 none 2 := ⟨gmi 412 (by decide +kernel) (by decide +kernel), gmi 62 (by decide +kernel) (by decide +kernel), by decide +kernel, by decide +kernel, by decide +kernel⟩
theorem wm_X9_kind : WM yX9_kind cX9_kind 1 (some .int) 0 := ⟨gmi 454 (by decide +kernel) (by decide +kernel), gmi 62 (by decide +kernel) (by decide +kernel), by decide +kernel, by decide +kernel, by decide +kernel⟩
theorem wm_X10_kind : WM yX10_kind cX10_kind 1 (some .int) 0 := ⟨gmi 457 (by decide +kernel) (by decide +kernel), gmi 60 (by decide +kernel) (by decide +kernel), by decide +kernel, by decide +kernel, by decide +kernel⟩
theorem wm_X11_init : WM yX11_init cX11_init 2 none 0 := ⟨gmi 69 (by decide +kernel) (by decide +kernel), gmi 47 (by decide +kernel) (by decide +kernel), by decide +kernel, by decide +kernel, by decide +kernel⟩
theorem wm_X11_letter : WM yX11_letter cX11_letter 2 (some .int) 1 := ⟨gmi 250 (by decide +kernel) (by decide +kernel), gmi 47 (by decide +kernel) (by decide +kernel), by decide +kernel, by decide +kernel, by decide +kernel⟩
theorem wm_X11_blank : WM yX11_blank cX11_blank 2 (some .int) 0 := ⟨gmi 254 (by decide +kernel) (by decide +kernel), gmi 47 (by decide +kernel) (by decide +kernel), by decide +kernel, by decide +kernel, by decide +kernel⟩
theorem wm_J0_coder_7d493 : WM yJ0_coder_7d493 cJ0_coder_7d493 1 (some .byte) 0 := ⟨gmi 270 (by decide +kernel) (by decide +kernel), gmi 55 (by decide +kernel) (by decide +kernel), by decide +kernel, by decide +kernel, by decide +kernel⟩
theorem wm_J0_length_8abf5 : WM yJ0_length_8abf5 cJ0_length_8abf5 1 (some .int) 0 := ⟨gmi 266 (by decide +kernel) (by decide +kernel), gmi 55 (by decide +kernel) (by decide +kernel), by decide +kernel, by decide +kernel, by decide +kernel⟩
theorem wm_J0_isLatin1_aae02 : WM yJ0_isLatin1_aae02 cJ0_isLatin1_aae02 1 (some .boolean) 0 := ⟨gmi 280 (by decide +kernel) (by decide +kernel), gmi 55 (by decide +kernel) (by decide +kernel), by decide +kernel, by decide +kernel, by decide +kernel⟩
theorem wm_J3_checkIndex_8e157 : WM yJ3_checkIndex_8e157 cJ3_checkIndex_8e157 3 (some .int) 3 := ⟨gmi 291 (by decide +kernel) (by decide +kernel), gmi 57 (by decide +kernel) (by decide +kernel), by decide +kernel, by decide +kernel, by decide +kernel⟩
theorem wm_J0_checkIndex_df160 : WM yJ0_checkIndex_df160 cJ0_checkIndex_df160 2 none 2 := ⟨gmi 286 (by decide +kernel) (by decide +kernel), gmi 55 (by decide +kernel) (by decide +kernel), by decide +kernel, by decide +kernel, by decide +kernel⟩
theorem wm_J1_charAt_3b067 : WM yJ1_charAt_3b067 cJ1_charAt_3b067 2 (some .char) 2 := ⟨gmi 283 (by decide +kernel) (by decide +kernel), gmi 56 (by decide +kernel) (by decide +kernel), by decide +kernel, by decide +kernel, by decide +kernel⟩
theorem wm_J2_length_9d52b : WM yJ2_length_9d52b cJ2_length_9d52b 1 (some .int) 1 := ⟨gmi 300 (by decide +kernel) (by decide +kernel), gmi 58 (by decide +kernel) (by decide +kernel), by decide +kernel, by decide +kernel, by decide +kernel⟩
theorem wm_J2_checkIndex_2214a : WM yJ2_checkIndex_2214a cJ2_checkIndex_2214a 2 none 2 := ⟨gmi 297 (by decide +kernel) (by decide +kernel), gmi 58 (by decide +kernel) (by decide +kernel), by decide +kernel, by decide +kernel, by decide +kernel⟩
theorem wm_J2_getChar_3b067 : WM yJ2_getChar_3b067 cJ2_getChar_3b067 2 (some .char) 2 := ⟨gmi 304 (by decide +kernel) (by decide +kernel), gmi 58 (by decide +kernel) (by decide +kernel), by decide +kernel, by decide +kernel, by decide +kernel⟩
theorem wm_J2_charAt_3b067 : WM yJ2_charAt_3b067 cJ2_charAt_3b067 2 (some .char) 2 := ⟨gmi 294 (by decide +kernel) (by decide +kernel), gmi 58 (by decide +kernel) (by decide +kernel), by decide +kernel, by decide +kernel, by decide +kernel⟩
theorem wm_J0_charAt_5068e : WM yJ0_charAt_5068e cJ0_charAt_5068e 2 (some .char) 1 := ⟨gmi 276 (by decide +kernel) (by decide +kernel), gmi 55 (by decide +kernel) (by decide +kernel), by decide +kernel, by decide +kernel, by decide +kernel⟩
theorem wm_X11_fits : WM yX11_fits cX11_fits 3 (some .boolean) 2 := ⟨gmi 261 (by decide +kernel) (by decide +kernel), gmi 47 (by decide +kernel) (by decide +kernel), by decide +kernel, by decide +kernel, by decide +kernel⟩
theorem wm_X11_fault : WM yX11_fault cX11_fault 2 (some .int) 0 := ⟨gmi 258 (by decide +kernel) (by decide +kernel), gmi 47 (by decide +kernel) (by decide +kernel), by decide +kernel, by decide +kernel, by decide +kernel⟩
theorem wm_X11_forgetAll : WM yX11_forgetAll cX11_forgetAll 2 none 0 := ⟨gmi 320 (by decide +kernel) (by decide +kernel), gmi 47 (by decide +kernel) (by decide +kernel), by decide +kernel, by decide +kernel, by decide +kernel⟩
theorem wm_X11_digitAt : WM yX11_digitAt cX11_digitAt 2 (some .int) 1 := ⟨gmi 324 (by decide +kernel) (by decide +kernel), gmi 47 (by decide +kernel) (by decide +kernel), by decide +kernel, by decide +kernel, by decide +kernel⟩
theorem wm_X11_plain : WM yX11_plain cX11_plain 4 (some .int) 0 := ⟨gmi 315 (by decide +kernel) (by decide +kernel), gmi 47 (by decide +kernel) (by decide +kernel), by decide +kernel, by decide +kernel, by decide +kernel⟩
theorem wm_X11_hasPlain : WM yX11_hasPlain cX11_hasPlain 1 (some .boolean) 0 := ⟨gmi 340 (by decide +kernel) (by decide +kernel), gmi 47 (by decide +kernel) (by decide +kernel), by decide +kernel, by decide +kernel, by decide +kernel⟩
theorem wm_X11_isThere : WM yX11_isThere cX11_isThere 2 (some .boolean) 1 := ⟨gmi 336 (by decide +kernel) (by decide +kernel), gmi 47 (by decide +kernel) (by decide +kernel), by decide +kernel, by decide +kernel, by decide +kernel⟩
theorem wm_X11_hullsOn : WM yX11_hullsOn cX11_hullsOn 5 (some .int) 1 := ⟨gmi 355 (by decide +kernel) (by decide +kernel), gmi 47 (by decide +kernel) (by decide +kernel), by decide +kernel, by decide +kernel, by decide +kernel⟩
theorem wm_X11_cell : WM yX11_cell cX11_cell 3 (some .int) 2 := ⟨gmi 332 (by decide +kernel) (by decide +kernel), gmi 47 (by decide +kernel) (by decide +kernel), by decide +kernel, by decide +kernel, by decide +kernel⟩
theorem wm_X11_wind : WM yX11_wind cX11_wind 3 (some .int) 1 := ⟨gmi 359 (by decide +kernel) (by decide +kernel), gmi 47 (by decide +kernel) (by decide +kernel), by decide +kernel, by decide +kernel, by decide +kernel⟩
theorem wm_X11_pass : WM yX11_pass cX11_pass 2 (some .int) 1 := ⟨gmi 363 (by decide +kernel) (by decide +kernel), gmi 47 (by decide +kernel) (by decide +kernel), by decide +kernel, by decide +kernel, by decide +kernel⟩
theorem wm_X11_built : WM yX11_built cX11_built 3 (some (.object "WheatSea$Hull")) 3 := ⟨gmi 370 (by decide +kernel) (by decide +kernel), gmi 47 (by decide +kernel) (by decide +kernel), by decide +kernel, by decide +kernel, by decide +kernel⟩
theorem wm_X11_hull : WM yX11_hull cX11_hull 4 (some .int) 3 := ⟨gmi 367 (by decide +kernel) (by decide +kernel), gmi 47 (by decide +kernel) (by decide +kernel), by decide +kernel, by decide +kernel, by decide +kernel⟩
theorem wm_X11_hullNumbered : WM yX11_hullNumbered cX11_hullNumbered 2 (some (.object "WheatSea$Hull")) 1 := ⟨gmi 441 (by decide +kernel) (by decide +kernel), gmi 47 (by decide +kernel) (by decide +kernel), by decide +kernel, by decide +kernel, by decide +kernel⟩
theorem wm_X11_about : WM yX11_about cX11_about 4 (some .int) 2 := ⟨gmi 437 (by decide +kernel) (by decide +kernel), gmi 47 (by decide +kernel) (by decide +kernel), by decide +kernel, by decide +kernel, by decide +kernel⟩
theorem wm_X11_isKind : WM yX11_isKind cX11_isKind 2 (some .boolean) 2 := ⟨gmi 548 (by decide +kernel) (by decide +kernel), gmi 47 (by decide +kernel) (by decide +kernel), by decide +kernel, by decide +kernel, by decide +kernel⟩
theorem wm_X11_as : WM yX11_as cX11_as 4 (some .int) 2 := ⟨gmi 545 (by decide +kernel) (by decide +kernel), gmi 47 (by decide +kernel) (by decide +kernel), by decide +kernel, by decide +kernel, by decide +kernel⟩
theorem wm_X11_sail : WM yX11_sail cX11_sail 5 (some .int) 2 := ⟨gmi 552 (by decide +kernel) (by decide +kernel), gmi 47 (by decide +kernel) (by decide +kernel), by decide +kernel, by decide +kernel, by decide +kernel⟩
theorem wm_X11_voyage : WM yX11_voyage cX11_voyage 5 (some .int) 3 := ⟨gmi 557 (by decide +kernel) (by decide +kernel), gmi 47 (by decide +kernel) (by decide +kernel), by decide +kernel, by decide +kernel, by decide +kernel⟩
theorem wm_X11_latest : WM yX11_latest cX11_latest 5 (some .int) 2 := ⟨gmi 588 (by decide +kernel) (by decide +kernel), gmi 47 (by decide +kernel) (by decide +kernel), by decide +kernel, by decide +kernel, by decide +kernel⟩
theorem wm_X11_home : WM yX11_home cX11_home 4 (some .int) 2 := ⟨gmi 592 (by decide +kernel) (by decide +kernel), gmi 47 (by decide +kernel) (by decide +kernel), by decide +kernel, by decide +kernel, by decide +kernel⟩
theorem wm_X11_bestWind : WM yX11_bestWind cX11_bestWind 8 (some .int) 2 := ⟨gmi 616 (by decide +kernel) (by decide +kernel), gmi 47 (by decide +kernel) (by decide +kernel), by decide +kernel, by decide +kernel, by decide +kernel⟩
theorem wm_X11_see : WM yX11_see cX11_see 4 (some .int) 3 := ⟨gmi 620 (by decide +kernel) (by decide +kernel), gmi 47 (by decide +kernel) (by decide +kernel), by decide +kernel, by decide +kernel, by decide +kernel⟩
theorem wm_X11_forget : WM yX11_forget cX11_forget 2 (some .int) 0 := ⟨gmi 628 (by decide +kernel) (by decide +kernel), gmi 47 (by decide +kernel) (by decide +kernel), by decide +kernel, by decide +kernel, by decide +kernel⟩
theorem wm_X11_start : WM yX11_start cX11_start 3 (some .int) 1 := ⟨gmi 632 (by decide +kernel) (by decide +kernel), gmi 47 (by decide +kernel) (by decide +kernel), by decide +kernel, by decide +kernel, by decide +kernel⟩
theorem wm_X11_junes : WM yX11_junes cX11_junes 4 (some .int) 3 := ⟨gmi 662 (by decide +kernel) (by decide +kernel), gmi 47 (by decide +kernel) (by decide +kernel), by decide +kernel, by decide +kernel, by decide +kernel⟩
theorem wm_X11_image : WM yX11_image cX11_image 1 (some .int) 0 := ⟨gmi 693 (by decide +kernel) (by decide +kernel), gmi 47 (by decide +kernel) (by decide +kernel), by decide +kernel, by decide +kernel, by decide +kernel⟩
theorem wm_X11_restore : WM yX11_restore cX11_restore 1 (some .int) 0 := ⟨gmi 705 (by decide +kernel) (by decide +kernel), gmi 47 (by decide +kernel) (by decide +kernel), by decide +kernel, by decide +kernel, by decide +kernel⟩
theorem wm_X11_cutCells : WM yX11_cutCells cX11_cutCells 3 (some .int) 0 := ⟨gmi 717 (by decide +kernel) (by decide +kernel), gmi 47 (by decide +kernel) (by decide +kernel), by decide +kernel, by decide +kernel, by decide +kernel⟩
theorem wm_X11_strandedHulls : WM yX11_strandedHulls cX11_strandedHulls 4 (some .int) 0 := ⟨gmi 721 (by decide +kernel) (by decide +kernel), gmi 47 (by decide +kernel) (by decide +kernel), by decide +kernel, by decide +kernel, by decide +kernel⟩
theorem wm_X11_count : WM yX11_count cX11_count 2 (some .int) 1 := ⟨gmi 713 (by decide +kernel) (by decide +kernel), gmi 47 (by decide +kernel) (by decide +kernel), by decide +kernel, by decide +kernel, by decide +kernel⟩
theorem wm_X11_digestOfCells : WM yX11_digestOfCells cX11_digestOfCells 7 (some .long) 1 := ⟨gmi 730 (by decide +kernel) (by decide +kernel), gmi 47 (by decide +kernel) (by decide +kernel), by decide +kernel, by decide +kernel, by decide +kernel⟩
theorem wm_X11_digestOfHull : WM yX11_digestOfHull cX11_digestOfHull 8 (some .long) 3 := ⟨gmi 736 (by decide +kernel) (by decide +kernel), gmi 47 (by decide +kernel) (by decide +kernel), by decide +kernel, by decide +kernel, by decide +kernel⟩
theorem wm_X11_digest : WM yX11_digest cX11_digest 5 (some .long) 0 := ⟨gmi 725 (by decide +kernel) (by decide +kernel), gmi 47 (by decide +kernel) (by decide +kernel), by decide +kernel, by decide +kernel, by decide +kernel⟩
theorem wm_X12_init : WM yX12_init cX12_init 1 none 0 := ⟨gmi 743 (by decide +kernel) (by decide +kernel), gmi 54 (by decide +kernel) (by decide +kernel), by decide +kernel, by decide +kernel, by decide +kernel⟩
theorem wm_X12_in : WM yX12_in cX12_in 6 (some .boolean) 3 := ⟨gmi 837 (by decide +kernel) (by decide +kernel), gmi 54 (by decide +kernel) (by decide +kernel), by decide +kernel, by decide +kernel, by decide +kernel⟩
theorem wm_X12_letter : WM yX12_letter cX12_letter 2 (some .int) 1 := ⟨gmi 833 (by decide +kernel) (by decide +kernel), gmi 54 (by decide +kernel) (by decide +kernel), by decide +kernel, by decide +kernel, by decide +kernel⟩
theorem wm_X12_blank : WM yX12_blank cX12_blank 2 (some .int) 0 := ⟨gmi 841 (by decide +kernel) (by decide +kernel), gmi 54 (by decide +kernel) (by decide +kernel), by decide +kernel, by decide +kernel, by decide +kernel⟩
theorem wm_X12_isGood : WM yX12_isGood cX12_isGood 2 (some .boolean) 2 := ⟨gmi 852 (by decide +kernel) (by decide +kernel), gmi 54 (by decide +kernel) (by decide +kernel), by decide +kernel, by decide +kernel, by decide +kernel⟩
theorem wm_X12_faultOf : WM yX12_faultOf cX12_faultOf 2 (some .int) 0 := ⟨gmi 849 (by decide +kernel) (by decide +kernel), gmi 54 (by decide +kernel) (by decide +kernel), by decide +kernel, by decide +kernel, by decide +kernel⟩
theorem wm_X12_fault : WM yX12_fault cX12_fault 1 (some .int) 0 := ⟨gmi 845 (by decide +kernel) (by decide +kernel), gmi 54 (by decide +kernel) (by decide +kernel), by decide +kernel, by decide +kernel, by decide +kernel⟩
theorem wm_X12_plain : WM yX12_plain cX12_plain 3 (some .int) 0 := ⟨gmi 857 (by decide +kernel) (by decide +kernel), gmi 54 (by decide +kernel) (by decide +kernel), by decide +kernel, by decide +kernel, by decide +kernel⟩
theorem wm_X12_lacks : WM yX12_lacks cX12_lacks 1 (some .boolean) 0 := ⟨gmi 870 (by decide +kernel) (by decide +kernel), gmi 54 (by decide +kernel) (by decide +kernel), by decide +kernel, by decide +kernel, by decide +kernel⟩
theorem wm_X12_isCell : WM yX12_isCell cX12_isCell 2 (some .boolean) 1 := ⟨gmi 865 (by decide +kernel) (by decide +kernel), gmi 54 (by decide +kernel) (by decide +kernel), by decide +kernel, by decide +kernel, by decide +kernel⟩
theorem wm_X12_highAt : WM yX12_highAt cX12_highAt 4 (some .int) 3 := ⟨gmi 878 (by decide +kernel) (by decide +kernel), gmi 54 (by decide +kernel) (by decide +kernel), by decide +kernel, by decide +kernel, by decide +kernel⟩
theorem wm_X12_hullsAt : WM yX12_hullsAt cX12_hullsAt 4 (some .int) 1 := ⟨gmi 882 (by decide +kernel) (by decide +kernel), gmi 54 (by decide +kernel) (by decide +kernel), by decide +kernel, by decide +kernel, by decide +kernel⟩
theorem wm_X12_tellCell : WM yX12_tellCell cX12_tellCell 3 (some .int) 2 := ⟨gmi 874 (by decide +kernel) (by decide +kernel), gmi 54 (by decide +kernel) (by decide +kernel), by decide +kernel, by decide +kernel, by decide +kernel⟩
theorem wm_X12_cell : WM yX12_cell cX12_cell 3 (some .int) 2 := ⟨gmi 861 (by decide +kernel) (by decide +kernel), gmi 54 (by decide +kernel) (by decide +kernel), by decide +kernel, by decide +kernel, by decide +kernel⟩
theorem wm_X12_wind : WM yX12_wind cX12_wind 3 (some .int) 1 := ⟨gmi 886 (by decide +kernel) (by decide +kernel), gmi 54 (by decide +kernel) (by decide +kernel), by decide +kernel, by decide +kernel, by decide +kernel⟩
theorem wm_X12_pass : WM yX12_pass cX12_pass 2 (some .int) 1 := ⟨gmi 891 (by decide +kernel) (by decide +kernel), gmi 54 (by decide +kernel) (by decide +kernel), by decide +kernel, by decide +kernel, by decide +kernel⟩
theorem wm_X12_isHull : WM yX12_isHull cX12_isHull 2 (some .boolean) 1 := ⟨gmi 904 (by decide +kernel) (by decide +kernel), gmi 54 (by decide +kernel) (by decide +kernel), by decide +kernel, by decide +kernel, by decide +kernel⟩
theorem wm_X12_floats : WM yX12_floats cX12_floats 7 (some .boolean) 4 := ⟨gmi 924 (by decide +kernel) (by decide +kernel), gmi 54 (by decide +kernel) (by decide +kernel), by decide +kernel, by decide +kernel, by decide +kernel⟩
theorem wm_X12_beside : WM yX12_beside cX12_beside 3 (some .int) 2 := ⟨gmi 917 (by decide +kernel) (by decide +kernel), gmi 54 (by decide +kernel) (by decide +kernel), by decide +kernel, by decide +kernel, by decide +kernel⟩
theorem wm_X12_needs : WM yX12_needs cX12_needs 4 (some .int) 3 := ⟨gmi 920 (by decide +kernel) (by decide +kernel), gmi 54 (by decide +kernel) (by decide +kernel), by decide +kernel, by decide +kernel, by decide +kernel⟩
theorem wm_X12_hoursOf : WM yX12_hoursOf cX12_hoursOf 10 (some .int) 6 := ⟨gmi 914 (by decide +kernel) (by decide +kernel), gmi 54 (by decide +kernel) (by decide +kernel), by decide +kernel, by decide +kernel, by decide +kernel⟩
theorem wm_X12_hull : WM yX12_hull cX12_hull 4 (some .int) 3 := ⟨gmi 896 (by decide +kernel) (by decide +kernel), gmi 54 (by decide +kernel) (by decide +kernel), by decide +kernel, by decide +kernel, by decide +kernel⟩
theorem wm_X12_isStranded : WM yX12_isStranded cX12_isStranded 2 (some .boolean) 1 := ⟨gmi 928 (by decide +kernel) (by decide +kernel), gmi 54 (by decide +kernel) (by decide +kernel), by decide +kernel, by decide +kernel, by decide +kernel⟩
theorem wm_X12_tell : WM yX12_tell cX12_tell 3 (some .int) 2 := ⟨gmi 908 (by decide +kernel) (by decide +kernel), gmi 54 (by decide +kernel) (by decide +kernel), by decide +kernel, by decide +kernel, by decide +kernel⟩
theorem wm_X12_about : WM yX12_about cX12_about 3 (some .int) 2 := ⟨gmi 900 (by decide +kernel) (by decide +kernel), gmi 54 (by decide +kernel) (by decide +kernel), by decide +kernel, by decide +kernel, by decide +kernel⟩
theorem wm_X12_as : WM yX12_as cX12_as 5 (some .int) 2 := ⟨gmi 932 (by decide +kernel) (by decide +kernel), gmi 54 (by decide +kernel) (by decide +kernel), by decide +kernel, by decide +kernel, by decide +kernel⟩
theorem wm_X12_sail : WM yX12_sail cX12_sail 4 (some .int) 2 := ⟨gmi 936 (by decide +kernel) (by decide +kernel), gmi 54 (by decide +kernel) (by decide +kernel), by decide +kernel, by decide +kernel, by decide +kernel⟩
theorem wm_X12_layVoyage : WM yX12_layVoyage cX12_layVoyage 14 none 4 := ⟨gmi 949 (by decide +kernel) (by decide +kernel), gmi 54 (by decide +kernel) (by decide +kernel), by decide +kernel, by decide +kernel, by decide +kernel⟩
theorem wm_X12_hourBy : WM yX12_hourBy cX12_hourBy 6 (some .int) 5 := ⟨gmi 945 (by decide +kernel) (by decide +kernel), gmi 54 (by decide +kernel) (by decide +kernel), by decide +kernel, by decide +kernel, by decide +kernel⟩
theorem wm_X12_voyage : WM yX12_voyage cX12_voyage 5 (some .int) 3 := ⟨gmi 941 (by decide +kernel) (by decide +kernel), gmi 54 (by decide +kernel) (by decide +kernel), by decide +kernel, by decide +kernel, by decide +kernel⟩
theorem wm_X12_latest : WM yX12_latest cX12_latest 4 (some .int) 2 := ⟨gmi 954 (by decide +kernel) (by decide +kernel), gmi 54 (by decide +kernel) (by decide +kernel), by decide +kernel, by decide +kernel, by decide +kernel⟩
theorem wm_X12_isOrder : WM yX12_isOrder cX12_isOrder 5 (some .boolean) 1 := ⟨gmi 967 (by decide +kernel) (by decide +kernel), gmi 54 (by decide +kernel) (by decide +kernel), by decide +kernel, by decide +kernel, by decide +kernel⟩
theorem wm_X12_copy : WM yX12_copy cX12_copy 3 none 2 := ⟨gmi 970 (by decide +kernel) (by decide +kernel), gmi 54 (by decide +kernel) (by decide +kernel), by decide +kernel, by decide +kernel, by decide +kernel⟩
theorem wm_X12_layHome : WM yX12_layHome cX12_layHome 8 none 1 := ⟨gmi 963 (by decide +kernel) (by decide +kernel), gmi 54 (by decide +kernel) (by decide +kernel), by decide +kernel, by decide +kernel, by decide +kernel⟩
theorem wm_X12_home : WM yX12_home cX12_home 3 (some .int) 2 := ⟨gmi 958 (by decide +kernel) (by decide +kernel), gmi 54 (by decide +kernel) (by decide +kernel), by decide +kernel, by decide +kernel, by decide +kernel⟩
theorem wm_X12_bestWind : WM yX12_bestWind cX12_bestWind 8 (some .int) 2 := ⟨gmi 974 (by decide +kernel) (by decide +kernel), gmi 54 (by decide +kernel) (by decide +kernel), by decide +kernel, by decide +kernel, by decide +kernel⟩
theorem wm_X12_see : WM yX12_see cX12_see 4 (some .int) 3 := ⟨gmi 978 (by decide +kernel) (by decide +kernel), gmi 54 (by decide +kernel) (by decide +kernel), by decide +kernel, by decide +kernel, by decide +kernel⟩
theorem wm_X12_forget : WM yX12_forget cX12_forget 2 (some .int) 0 := ⟨gmi 983 (by decide +kernel) (by decide +kernel), gmi 54 (by decide +kernel) (by decide +kernel), by decide +kernel, by decide +kernel, by decide +kernel⟩
theorem wm_X12_seenAt : WM yX12_seenAt cX12_seenAt 5 (some .int) 2 := ⟨gmi 999 (by decide +kernel) (by decide +kernel), gmi 54 (by decide +kernel) (by decide +kernel), by decide +kernel, by decide +kernel, by decide +kernel⟩
theorem wm_X12_isSeenBetween : WM yX12_isSeenBetween cX12_isSeenBetween 6 (some .boolean) 3 := ⟨gmi 1003 (by decide +kernel) (by decide +kernel), gmi 54 (by decide +kernel) (by decide +kernel), by decide +kernel, by decide +kernel, by decide +kernel⟩
theorem wm_X12_canStart : WM yX12_canStart cX12_canStart 7 (some .boolean) 2 := ⟨gmi 995 (by decide +kernel) (by decide +kernel), gmi 54 (by decide +kernel) (by decide +kernel), by decide +kernel, by decide +kernel, by decide +kernel⟩
theorem wm_X12_startOf : WM yX12_startOf cX12_startOf 4 (some .int) 1 := ⟨gmi 991 (by decide +kernel) (by decide +kernel), gmi 54 (by decide +kernel) (by decide +kernel), by decide +kernel, by decide +kernel, by decide +kernel⟩
theorem wm_X12_start : WM yX12_start cX12_start 2 (some .int) 1 := ⟨gmi 987 (by decide +kernel) (by decide +kernel), gmi 54 (by decide +kernel) (by decide +kernel), by decide +kernel, by decide +kernel, by decide +kernel⟩
theorem wm_X12_draw : WM yX12_draw cX12_draw 2 (some .int) 1 := ⟨gmi 1012 (by decide +kernel) (by decide +kernel), gmi 54 (by decide +kernel) (by decide +kernel), by decide +kernel, by decide +kernel, by decide +kernel⟩
theorem wm_X12_strandedMany : WM yX12_strandedMany cX12_strandedMany 3 (some .int) 0 := ⟨gmi 1020 (by decide +kernel) (by decide +kernel), gmi 54 (by decide +kernel) (by decide +kernel), by decide +kernel, by decide +kernel, by decide +kernel⟩
theorem wm_X12_junes : WM yX12_junes cX12_junes 11 (some .int) 3 := ⟨gmi 1007 (by decide +kernel) (by decide +kernel), gmi 54 (by decide +kernel) (by decide +kernel), by decide +kernel, by decide +kernel, by decide +kernel⟩
theorem wm_X12_image : WM yX12_image cX12_image 1 (some .int) 0 := ⟨gmi 1024 (by decide +kernel) (by decide +kernel), gmi 54 (by decide +kernel) (by decide +kernel), by decide +kernel, by decide +kernel, by decide +kernel⟩
theorem wm_X12_restore : WM yX12_restore cX12_restore 1 (some .int) 0 := ⟨gmi 1028 (by decide +kernel) (by decide +kernel), gmi 54 (by decide +kernel) (by decide +kernel), by decide +kernel, by decide +kernel, by decide +kernel⟩
theorem wm_X12_cutMany : WM yX12_cutMany cX12_cutMany 3 (some .int) 0 := ⟨gmi 1040 (by decide +kernel) (by decide +kernel), gmi 54 (by decide +kernel) (by decide +kernel), by decide +kernel, by decide +kernel, by decide +kernel⟩
theorem wm_X12_countOf : WM yX12_countOf cX12_countOf 2 (some .int) 1 := ⟨gmi 1036 (by decide +kernel) (by decide +kernel), gmi 54 (by decide +kernel) (by decide +kernel), by decide +kernel, by decide +kernel, by decide +kernel⟩
theorem wm_X12_count : WM yX12_count cX12_count 2 (some .int) 1 := ⟨gmi 1032 (by decide +kernel) (by decide +kernel), gmi 54 (by decide +kernel) (by decide +kernel), by decide +kernel, by decide +kernel, by decide +kernel⟩
theorem wm_X12_say : WM yX12_say cX12_say 3 none 1 := ⟨gmi 1049 (by decide +kernel) (by decide +kernel), gmi 54 (by decide +kernel) (by decide +kernel), by decide +kernel, by decide +kernel, by decide +kernel⟩
theorem wm_X12_sayHull : WM yX12_sayHull cX12_sayHull 3 none 1 := ⟨gmi 1054 (by decide +kernel) (by decide +kernel), gmi 54 (by decide +kernel) (by decide +kernel), by decide +kernel, by decide +kernel, by decide +kernel⟩
theorem wm_X12_digest : WM yX12_digest cX12_digest 3 (some .long) 0 := ⟨gmi 1044 (by decide +kernel) (by decide +kernel), gmi 54 (by decide +kernel) (by decide +kernel), by decide +kernel, by decide +kernel, by decide +kernel⟩
theorem wm_J9_max_7cf53 : WM yJ9_max_7cf53 cJ9_max_7cf53 2 (some .int) 2 := ⟨gmi 643 (by decide +kernel) (by decide +kernel), gmi 64 (by decide +kernel) (by decide +kernel), by decide +kernel, by decide +kernel, by decide +kernel⟩
theorem lk_L_9 : Cond.methodLink RL 9 yX11_init ∈ lw_g := gmi 67 (by decide +kernel) (by decide +kernel)
theorem im_X11_init : Cond.instanceMethod yX11_init ∈ lw_g := gmi 68 (by decide +kernel) (by decide +kernel)
theorem lk_X11_3 : Cond.methodLink RX11 3 objectInit ∈ lw_g := gmi 70 (by decide +kernel) (by decide +kernel)
theorem lk_X11_21 : (RX11, 21, yX8_init) ∈ nestK := by decide +kernel
theorem im_X8_init : Cond.instanceMethod yX8_init ∈ lw_g := gmi 78 (by decide +kernel) (by decide +kernel)
theorem lk_X8_3 : Cond.methodLink RX8 3 objectInit ∈ lw_g := gmi 80 (by decide +kernel) (by decide +kernel)
theorem lk_X11_28 : (RX11, 28, yX5_init) ∈ nestK := by decide +kernel
theorem im_X5_init : Cond.instanceMethod yX5_init ∈ lw_g := gmi 105 (by decide +kernel) (by decide +kernel)
theorem lk_X5_3 : Cond.methodLink RX5 3 objectInit ∈ lw_g := gmi 107 (by decide +kernel) (by decide +kernel)
theorem lk_X5_11 : (RX5, 11, yX8_init) ∈ nestK := by decide +kernel
theorem lk_X11_35 : (RX11, 35, yX0_init) ∈ nestK := by decide +kernel
theorem im_X0_init : Cond.instanceMethod yX0_init ∈ lw_g := gmi 138 (by decide +kernel) (by decide +kernel)
theorem lk_X0_3 : Cond.methodLink RX0 3 objectInit ∈ lw_g := gmi 140 (by decide +kernel) (by decide +kernel)
theorem lk_X11_42 : (RX11, 42, yX3_init) ∈ nestK := by decide +kernel
theorem im_X3_init : Cond.instanceMethod yX3_init ∈ lw_g := gmi 151 (by decide +kernel) (by decide +kernel)
theorem lk_X3_3 : Cond.methodLink RX3 3 objectInit ∈ lw_g := gmi 153 (by decide +kernel) (by decide +kernel)
theorem lk_X11_49 : (RX11, 49, yX6_init) ∈ nestK := by decide +kernel
theorem im_X6_init : Cond.instanceMethod yX6_init ∈ lw_g := gmi 169 (by decide +kernel) (by decide +kernel)
theorem lk_X6_3 : Cond.methodLink RX6 3 objectInit ∈ lw_g := gmi 171 (by decide +kernel) (by decide +kernel)
theorem lk_X11_56 : Cond.methodLink RX11 56 yX7_init ∈ lw_g := gmi 190 (by decide +kernel) (by decide +kernel)
theorem im_X7_init : Cond.instanceMethod yX7_init ∈ lw_g := gmi 191 (by decide +kernel) (by decide +kernel)
theorem lk_X7_3 : Cond.methodLink RX7 3 objectInit ∈ lw_g := gmi 193 (by decide +kernel) (by decide +kernel)
theorem lk_L_13 : Cond.methodLink RL 13 yX11_letter ∈ lw_g := gmi 247 (by decide +kernel) (by decide +kernel)
theorem im_X11_letter : Cond.instanceMethod yX11_letter ∈ lw_g := gmi 248 (by decide +kernel) (by decide +kernel)
theorem se_X11_letter : Cond.selects RX11 yX11_letter yX11_letter ∈ lw_g := gmi 249 (by decide +kernel) (by decide +kernel)
theorem lk_L_18 : Cond.methodLink RL 18 yX11_blank ∈ lw_g := gmi 251 (by decide +kernel) (by decide +kernel)
theorem im_X11_blank : Cond.instanceMethod yX11_blank ∈ lw_g := gmi 252 (by decide +kernel) (by decide +kernel)
theorem se_X11_blank : Cond.selects RX11 yX11_blank yX11_blank ∈ lw_g := gmi 253 (by decide +kernel) (by decide +kernel)
theorem lk_L_23 : Cond.methodLink RL 23 yX11_fault ∈ lw_g := gmi 255 (by decide +kernel) (by decide +kernel)
theorem im_X11_fault : Cond.instanceMethod yX11_fault ∈ lw_g := gmi 256 (by decide +kernel) (by decide +kernel)
theorem se_X11_fault : Cond.selects RX11 yX11_fault yX11_fault ∈ lw_g := gmi 257 (by decide +kernel) (by decide +kernel)
theorem lk_X11_70 : Cond.methodLink RX11 70 yX11_fits ∈ lw_g := gmi 259 (by decide +kernel) (by decide +kernel)
theorem st_X11_fits : Cond.static yX11_fits ∈ lw_g := gmi 260 (by decide +kernel) (by decide +kernel)
theorem lk_X11_76 : Cond.methodLink RX11 76 yJ0_length_8abf5 ∈ lw_g := gmi 263 (by decide +kernel) (by decide +kernel)
theorem im_J0_length_8abf5 : Cond.instanceMethod yJ0_length_8abf5 ∈ lw_g := gmi 264 (by decide +kernel) (by decide +kernel)
theorem se_J0_length_8abf5 : Cond.selects RJ0 yJ0_length_8abf5 yJ0_length_8abf5 ∈ lw_g := gmi 265 (by decide +kernel) (by decide +kernel)
theorem lk_J0_335 : Cond.methodLink RJ0 335 yJ0_coder_7d493 ∈ lw_g := gmi 267 (by decide +kernel) (by decide +kernel)
theorem im_J0_coder_7d493 : Cond.instanceMethod yJ0_coder_7d493 ∈ lw_g := gmi 268 (by decide +kernel) (by decide +kernel)
theorem se_J0_coder_7d493 : Cond.selects RJ0 yJ0_coder_7d493 yJ0_coder_7d493 ∈ lw_g := gmi 269 (by decide +kernel) (by decide +kernel)
theorem lk_X11_262 : Cond.methodLink RX11 262 yJ0_charAt_5068e ∈ lw_g := gmi 273 (by decide +kernel) (by decide +kernel)
theorem im_J0_charAt_5068e : Cond.instanceMethod yJ0_charAt_5068e ∈ lw_g := gmi 274 (by decide +kernel) (by decide +kernel)
theorem se_J0_charAt_5068e : Cond.selects RJ0 yJ0_charAt_5068e yJ0_charAt_5068e ∈ lw_g := gmi 275 (by decide +kernel) (by decide +kernel)
theorem lk_J0_492 : Cond.methodLink RJ0 492 yJ0_isLatin1_aae02 ∈ lw_g := gmi 277 (by decide +kernel) (by decide +kernel)
theorem im_J0_isLatin1_aae02 : Cond.instanceMethod yJ0_isLatin1_aae02 ∈ lw_g := gmi 278 (by decide +kernel) (by decide +kernel)
theorem se_J0_isLatin1_aae02 : Cond.selects RJ0 yJ0_isLatin1_aae02 yJ0_isLatin1_aae02 ∈ lw_g := gmi 279 (by decide +kernel) (by decide +kernel)
theorem lk_J0_495 : Cond.methodLink RJ0 495 yJ1_charAt_3b067 ∈ lw_g := gmi 281 (by decide +kernel) (by decide +kernel)
theorem st_J1_charAt_3b067 : Cond.static yJ1_charAt_3b067 ∈ lw_g := gmi 282 (by decide +kernel) (by decide +kernel)
theorem lk_J1_9 : Cond.methodLink RJ1 9 yJ0_checkIndex_df160 ∈ lw_g := gmi 284 (by decide +kernel) (by decide +kernel)
theorem st_J0_checkIndex_df160 : Cond.static yJ0_checkIndex_df160 ∈ lw_g := gmi 285 (by decide +kernel) (by decide +kernel)
theorem lk_J0_1059 : Cond.methodLink RJ0 1059 yJ3_checkIndex_8e157 ∈ lw_g := gmi 289 (by decide +kernel) (by decide +kernel)
theorem st_J3_checkIndex_8e157 : Cond.static yJ3_checkIndex_8e157 ∈ lw_g := gmi 290 (by decide +kernel) (by decide +kernel)
theorem lk_J0_498 : Cond.methodLink RJ0 498 yJ2_charAt_3b067 ∈ lw_g := gmi 292 (by decide +kernel) (by decide +kernel)
theorem st_J2_charAt_3b067 : Cond.static yJ2_charAt_3b067 ∈ lw_g := gmi 293 (by decide +kernel) (by decide +kernel)
theorem lk_J2_67 : Cond.methodLink RJ2 67 yJ2_checkIndex_2214a ∈ lw_g := gmi 295 (by decide +kernel) (by decide +kernel)
theorem st_J2_checkIndex_2214a : Cond.static yJ2_checkIndex_2214a ∈ lw_g := gmi 296 (by decide +kernel) (by decide +kernel)
theorem lk_J2_48 : Cond.methodLink RJ2 48 yJ2_length_9d52b ∈ lw_g := gmi 298 (by decide +kernel) (by decide +kernel)
theorem st_J2_length_9d52b : Cond.static yJ2_length_9d52b ∈ lw_g := gmi 299 (by decide +kernel) (by decide +kernel)
theorem lk_J2_414 : Cond.methodLink RJ2 414 yJ0_checkIndex_df160 ∈ lw_g := gmi 301 (by decide +kernel) (by decide +kernel)
theorem lk_J2_71 : Cond.methodLink RJ2 71 yJ2_getChar_3b067 ∈ lw_g := gmi 302 (by decide +kernel) (by decide +kernel)
theorem st_J2_getChar_3b067 : Cond.static yJ2_getChar_3b067 ∈ lw_g := gmi 303 (by decide +kernel) (by decide +kernel)
theorem lk_L_27 : Cond.methodLink RL 27 yX11_plain ∈ lw_g := gmi 312 (by decide +kernel) (by decide +kernel)
theorem im_X11_plain : Cond.instanceMethod yX11_plain ∈ lw_g := gmi 313 (by decide +kernel) (by decide +kernel)
theorem se_X11_plain : Cond.selects RX11 yX11_plain yX11_plain ∈ lw_g := gmi 314 (by decide +kernel) (by decide +kernel)
theorem lk_X11_82 : Cond.methodLink RX11 82 yX11_fault ∈ lw_g := gmi 316 (by decide +kernel) (by decide +kernel)
theorem lk_X11_85 : Cond.methodLink RX11 85 yX11_forgetAll ∈ lw_g := gmi 317 (by decide +kernel) (by decide +kernel)
theorem im_X11_forgetAll : Cond.instanceMethod yX11_forgetAll ∈ lw_g := gmi 319 (by decide +kernel) (by decide +kernel)
theorem lk_X11_88 : Cond.methodLink RX11 88 yX11_digitAt ∈ lw_g := gmi 321 (by decide +kernel) (by decide +kernel)
theorem im_X11_digitAt : Cond.instanceMethod yX11_digitAt ∈ lw_g := gmi 323 (by decide +kernel) (by decide +kernel)
theorem lk_X11_92 : Cond.methodLink RX11 92 yX7_sow ∈ lw_g := gmi 325 (by decide +kernel) (by decide +kernel)
theorem im_X7_sow : Cond.instanceMethod yX7_sow ∈ lw_g := gmi 326 (by decide +kernel) (by decide +kernel)
theorem se_X7_sow : Cond.selects RX7 yX7_sow yX7_sow ∈ lw_g := gmi 327 (by decide +kernel) (by decide +kernel)
theorem lk_L_31 : Cond.methodLink RL 31 yX11_cell ∈ lw_g := gmi 329 (by decide +kernel) (by decide +kernel)
theorem im_X11_cell : Cond.instanceMethod yX11_cell ∈ lw_g := gmi 330 (by decide +kernel) (by decide +kernel)
theorem se_X11_cell : Cond.selects RX11 yX11_cell yX11_cell ∈ lw_g := gmi 331 (by decide +kernel) (by decide +kernel)
theorem lk_X11_102 : Cond.methodLink RX11 102 yX11_isThere ∈ lw_g := gmi 333 (by decide +kernel) (by decide +kernel)
theorem im_X11_isThere : Cond.instanceMethod yX11_isThere ∈ lw_g := gmi 335 (by decide +kernel) (by decide +kernel)
theorem lk_X11_119 : Cond.methodLink RX11 119 yX11_hasPlain ∈ lw_g := gmi 337 (by decide +kernel) (by decide +kernel)
theorem im_X11_hasPlain : Cond.instanceMethod yX11_hasPlain ∈ lw_g := gmi 339 (by decide +kernel) (by decide +kernel)
theorem lk_X11_259 : Cond.methodLink RX11 259 yX11_isCell ∈ lw_g := gmi 341 (by decide +kernel) (by decide +kernel)
theorem st_X11_isCell : Cond.static yX11_isCell ∈ lw_g := gmi 342 (by decide +kernel) (by decide +kernel)
theorem lk_X11_109 : Cond.methodLink RX11 109 yX7_highAt ∈ lw_g := gmi 344 (by decide +kernel) (by decide +kernel)
theorem im_X7_highAt : Cond.instanceMethod yX7_highAt ∈ lw_g := gmi 345 (by decide +kernel) (by decide +kernel)
theorem se_X7_highAt : Cond.selects RX7 yX7_highAt yX7_highAt ∈ lw_g := gmi 346 (by decide +kernel) (by decide +kernel)
theorem lk_X11_113 : Cond.methodLink RX11 113 yX7_cutHour ∈ lw_g := gmi 348 (by decide +kernel) (by decide +kernel)
theorem im_X7_cutHour : Cond.instanceMethod yX7_cutHour ∈ lw_g := gmi 349 (by decide +kernel) (by decide +kernel)
theorem se_X7_cutHour : Cond.selects RX7 yX7_cutHour yX7_cutHour ∈ lw_g := gmi 350 (by decide +kernel) (by decide +kernel)
theorem lk_X11_116 : Cond.methodLink RX11 116 yX11_hullsOn ∈ lw_g := gmi 352 (by decide +kernel) (by decide +kernel)
theorem im_X11_hullsOn : Cond.instanceMethod yX11_hullsOn ∈ lw_g := gmi 354 (by decide +kernel) (by decide +kernel)
theorem lk_L_36 : Cond.methodLink RL 36 yX11_wind ∈ lw_g := gmi 356 (by decide +kernel) (by decide +kernel)
theorem im_X11_wind : Cond.instanceMethod yX11_wind ∈ lw_g := gmi 357 (by decide +kernel) (by decide +kernel)
theorem se_X11_wind : Cond.selects RX11 yX11_wind yX11_wind ∈ lw_g := gmi 358 (by decide +kernel) (by decide +kernel)
theorem lk_L_40 : Cond.methodLink RL 40 yX11_pass ∈ lw_g := gmi 360 (by decide +kernel) (by decide +kernel)
theorem im_X11_pass : Cond.instanceMethod yX11_pass ∈ lw_g := gmi 361 (by decide +kernel) (by decide +kernel)
theorem se_X11_pass : Cond.selects RX11 yX11_pass yX11_pass ∈ lw_g := gmi 362 (by decide +kernel) (by decide +kernel)
theorem lk_L_44 : Cond.methodLink RL 44 yX11_hull ∈ lw_g := gmi 364 (by decide +kernel) (by decide +kernel)
theorem im_X11_hull : Cond.instanceMethod yX11_hull ∈ lw_g := gmi 365 (by decide +kernel) (by decide +kernel)
theorem se_X11_hull : Cond.selects RX11 yX11_hull yX11_hull ∈ lw_g := gmi 366 (by decide +kernel) (by decide +kernel)
theorem lk_X11_129 : Cond.methodLink RX11 129 yX11_built ∈ lw_g := gmi 368 (by decide +kernel) (by decide +kernel)
theorem st_X11_built : Cond.static yX11_built ∈ lw_g := gmi 369 (by decide +kernel) (by decide +kernel)
theorem lk_X11_268 : Cond.methodLink RX11 268 yX10_init ∈ lw_g := gmi 373 (by decide +kernel) (by decide +kernel)
theorem im_X10_init : Cond.instanceMethod yX10_init ∈ lw_g := gmi 374 (by decide +kernel) (by decide +kernel)
theorem lk_X10_1 : Cond.methodLink RX10 1 yX4_init ∈ lw_g := gmi 376 (by decide +kernel) (by decide +kernel)
theorem im_X4_init : Cond.instanceMethod yX4_init ∈ lw_g := gmi 377 (by decide +kernel) (by decide +kernel)
theorem lk_X4_3 : Cond.methodLink RX4 3 objectInit ∈ lw_g := gmi 379 (by decide +kernel) (by decide +kernel)
theorem lk_X11_272 : Cond.methodLink RX11 272 yX2_init ∈ lw_g := gmi 400 (by decide +kernel) (by decide +kernel)
theorem im_X2_init : Cond.instanceMethod yX2_init ∈ lw_g := gmi 401 (by decide +kernel) (by decide +kernel)
theorem lk_X2_1 : Cond.methodLink RX2 1 yX4_init ∈ lw_g := gmi 403 (by decide +kernel) (by decide +kernel)
theorem lk_X11_275 : Cond.methodLink RX11 275 yX9_init ∈ lw_g := gmi 410 (by decide +kernel) (by decide +kernel)
theorem im_X9_init : Cond.instanceMethod yX9_init ∈ lw_g := gmi 411 (by decide +kernel) (by decide +kernel)
theorem lk_X9_1 : Cond.methodLink RX9 1 yX4_init ∈ lw_g := gmi 413 (by decide +kernel) (by decide +kernel)
theorem lk_X11_278 : Cond.methodLink RX11 278 yX1_init ∈ lw_g := gmi 420 (by decide +kernel) (by decide +kernel)
theorem im_X1_init : Cond.instanceMethod yX1_init ∈ lw_g := gmi 421 (by decide +kernel) (by decide +kernel)
theorem lk_X1_1 : Cond.methodLink RX1 1 yX10_init ∈ lw_g := gmi 423 (by decide +kernel) (by decide +kernel)
theorem lk_X11_279 : Cond.methodLink RX11 279 yX4_init ∈ lw_g := gmi 429 (by decide +kernel) (by decide +kernel)
theorem lk_L_49 : Cond.methodLink RL 49 yX11_about ∈ lw_g := gmi 434 (by decide +kernel) (by decide +kernel)
theorem im_X11_about : Cond.instanceMethod yX11_about ∈ lw_g := gmi 435 (by decide +kernel) (by decide +kernel)
theorem se_X11_about : Cond.selects RX11 yX11_about yX11_about ∈ lw_g := gmi 436 (by decide +kernel) (by decide +kernel)
theorem lk_X11_133 : Cond.methodLink RX11 133 yX11_hullNumbered ∈ lw_g := gmi 438 (by decide +kernel) (by decide +kernel)
theorem im_X11_hullNumbered : Cond.instanceMethod yX11_hullNumbered ∈ lw_g := gmi 440 (by decide +kernel) (by decide +kernel)
theorem lk_X11_137 : Cond.methodLink RX11 137 yX4_kind ∈ lw_g := gmi 442 (by decide +kernel) (by decide +kernel)
theorem im_X4_kind : Cond.instanceMethod yX4_kind ∈ lw_g := gmi 443 (by decide +kernel) (by decide +kernel)
theorem se_X4_kind : Cond.selects RX4 yX4_kind yX4_kind ∈ lw_g := gmi 444 (by decide +kernel) (by decide +kernel)
theorem im_X1_kind : Cond.instanceMethod yX1_kind ∈ lw_g := gmi 447 (by decide +kernel) (by decide +kernel)
theorem im_X2_kind : Cond.instanceMethod yX2_kind ∈ lw_g := gmi 450 (by decide +kernel) (by decide +kernel)
theorem im_X9_kind : Cond.instanceMethod yX9_kind ∈ lw_g := gmi 453 (by decide +kernel) (by decide +kernel)
theorem im_X10_kind : Cond.instanceMethod yX10_kind ∈ lw_g := gmi 456 (by decide +kernel) (by decide +kernel)
theorem lk_X11_146 : Cond.methodLink RX11 146 yX7_floats ∈ lw_g := gmi 459 (by decide +kernel) (by decide +kernel)
theorem im_X7_floats : Cond.instanceMethod yX7_floats ∈ lw_g := gmi 460 (by decide +kernel) (by decide +kernel)
theorem se_X7_floats : Cond.selects RX7 yX7_floats yX7_floats ∈ lw_g := gmi 461 (by decide +kernel) (by decide +kernel)
theorem lk_X7_22 : Cond.methodLink RX7 22 yX7_highAt ∈ lw_g := gmi 463 (by decide +kernel) (by decide +kernel)
theorem lk_X7_26 : Cond.methodLink RX7 26 yX4_cornNeeded ∈ lw_g := gmi 464 (by decide +kernel) (by decide +kernel)
theorem im_X4_cornNeeded : Cond.instanceMethod yX4_cornNeeded ∈ lw_g := gmi 465 (by decide +kernel) (by decide +kernel)
theorem se_X4_cornNeeded : Cond.selects RX4 yX4_cornNeeded yX4_cornNeeded ∈ lw_g := gmi 466 (by decide +kernel) (by decide +kernel)
theorem im_X10_cornNeeded : Cond.instanceMethod yX10_cornNeeded ∈ lw_g := gmi 469 (by decide +kernel) (by decide +kernel)
theorem im_X9_cornNeeded : Cond.instanceMethod yX9_cornNeeded ∈ lw_g := gmi 473 (by decide +kernel) (by decide +kernel)
theorem lk_X11_153 : Cond.methodLink RX11 153 yX7_hoursToSail ∈ lw_g := gmi 477 (by decide +kernel) (by decide +kernel)
theorem im_X7_hoursToSail : Cond.instanceMethod yX7_hoursToSail ∈ lw_g := gmi 478 (by decide +kernel) (by decide +kernel)
theorem se_X7_hoursToSail : Cond.selects RX7 yX7_hoursToSail yX7_hoursToSail ∈ lw_g := gmi 479 (by decide +kernel) (by decide +kernel)
theorem lk_X7_32 : (RX7, 32, yX11_beside) ∈ nestK := by decide +kernel
theorem st_X11_beside : Cond.static yX11_beside ∈ lw_g := gmi 482 (by decide +kernel) (by decide +kernel)
theorem lk_X7_35 : Cond.methodLink RX7 35 yX7_floats ∈ lw_g := gmi 484 (by decide +kernel) (by decide +kernel)
theorem lk_X7_39 : Cond.methodLink RX7 39 yX4_hoursFor ∈ lw_g := gmi 485 (by decide +kernel) (by decide +kernel)
theorem im_X4_hoursFor : Cond.instanceMethod yX4_hoursFor ∈ lw_g := gmi 486 (by decide +kernel) (by decide +kernel)
theorem se_X4_hoursFor : Cond.selects RX4 yX4_hoursFor yX4_hoursFor ∈ lw_g := gmi 487 (by decide +kernel) (by decide +kernel)
theorem lk_X4_18 : Cond.methodLink RX4 18 yX4_hoursBecalmed ∈ lw_g := gmi 494 (by decide +kernel) (by decide +kernel)
theorem im_X4_hoursBecalmed : Cond.instanceMethod yX4_hoursBecalmed ∈ lw_g := gmi 495 (by decide +kernel) (by decide +kernel)
theorem se_X4_hoursBecalmed : Cond.selects RX4 yX4_hoursBecalmed yX4_hoursBecalmed ∈ lw_g := gmi 496 (by decide +kernel) (by decide +kernel)
theorem im_X1_hoursBecalmed : Cond.instanceMethod yX1_hoursBecalmed ∈ lw_g := gmi 499 (by decide +kernel) (by decide +kernel)
theorem im_X9_hoursBecalmed : Cond.instanceMethod yX9_hoursBecalmed ∈ lw_g := gmi 503 (by decide +kernel) (by decide +kernel)
theorem lk_X4_22 : Cond.methodLink RX4 22 yX4_hoursWith ∈ lw_g := gmi 507 (by decide +kernel) (by decide +kernel)
theorem im_X4_hoursWith : Cond.instanceMethod yX4_hoursWith ∈ lw_g := gmi 508 (by decide +kernel) (by decide +kernel)
theorem se_X4_hoursWith : Cond.selects RX4 yX4_hoursWith yX4_hoursWith ∈ lw_g := gmi 509 (by decide +kernel) (by decide +kernel)
theorem im_X9_hoursWith : Cond.instanceMethod yX9_hoursWith ∈ lw_g := gmi 514 (by decide +kernel) (by decide +kernel)
theorem lk_X4_25 : Cond.methodLink RX4 25 yX4_hoursAgainst ∈ lw_g := gmi 518 (by decide +kernel) (by decide +kernel)
theorem im_X4_hoursAgainst : Cond.instanceMethod yX4_hoursAgainst ∈ lw_g := gmi 519 (by decide +kernel) (by decide +kernel)
theorem se_X4_hoursAgainst : Cond.selects RX4 yX4_hoursAgainst yX4_hoursAgainst ∈ lw_g := gmi 520 (by decide +kernel) (by decide +kernel)
theorem im_X1_hoursAgainst : Cond.instanceMethod yX1_hoursAgainst ∈ lw_g := gmi 523 (by decide +kernel) (by decide +kernel)
theorem im_X2_hoursAgainst : Cond.instanceMethod yX2_hoursAgainst ∈ lw_g := gmi 526 (by decide +kernel) (by decide +kernel)
theorem lk_X4_28 : Cond.methodLink RX4 28 yX4_hoursAcross ∈ lw_g := gmi 531 (by decide +kernel) (by decide +kernel)
theorem im_X4_hoursAcross : Cond.instanceMethod yX4_hoursAcross ∈ lw_g := gmi 532 (by decide +kernel) (by decide +kernel)
theorem se_X4_hoursAcross : Cond.selects RX4 yX4_hoursAcross yX4_hoursAcross ∈ lw_g := gmi 533 (by decide +kernel) (by decide +kernel)
theorem im_X9_hoursAcross : Cond.instanceMethod yX9_hoursAcross ∈ lw_g := gmi 538 (by decide +kernel) (by decide +kernel)
theorem lk_L_53 : Cond.methodLink RL 53 yX11_as ∈ lw_g := gmi 542 (by decide +kernel) (by decide +kernel)
theorem im_X11_as : Cond.instanceMethod yX11_as ∈ lw_g := gmi 543 (by decide +kernel) (by decide +kernel)
theorem se_X11_as : Cond.selects RX11 yX11_as yX11_as ∈ lw_g := gmi 544 (by decide +kernel) (by decide +kernel)
theorem lk_X11_157 : Cond.methodLink RX11 157 yX11_isKind ∈ lw_g := gmi 546 (by decide +kernel) (by decide +kernel)
theorem st_X11_isKind : Cond.static yX11_isKind ∈ lw_g := gmi 547 (by decide +kernel) (by decide +kernel)
theorem lk_L_57 : Cond.methodLink RL 57 yX11_sail ∈ lw_g := gmi 549 (by decide +kernel) (by decide +kernel)
theorem im_X11_sail : Cond.instanceMethod yX11_sail ∈ lw_g := gmi 550 (by decide +kernel) (by decide +kernel)
theorem se_X11_sail : Cond.selects RX11 yX11_sail yX11_sail ∈ lw_g := gmi 551 (by decide +kernel) (by decide +kernel)
theorem lk_X11_161 : Cond.methodLink RX11 161 yX11_beside ∈ lw_g := gmi 553 (by decide +kernel) (by decide +kernel)
theorem lk_L_61 : Cond.methodLink RL 61 yX11_voyage ∈ lw_g := gmi 554 (by decide +kernel) (by decide +kernel)
theorem im_X11_voyage : Cond.instanceMethod yX11_voyage ∈ lw_g := gmi 555 (by decide +kernel) (by decide +kernel)
theorem se_X11_voyage : Cond.selects RX11 yX11_voyage yX11_voyage ∈ lw_g := gmi 556 (by decide +kernel) (by decide +kernel)
theorem lk_X11_164 : Cond.methodLink RX11 164 yX0_plot ∈ lw_g := gmi 558 (by decide +kernel) (by decide +kernel)
theorem im_X0_plot : Cond.instanceMethod yX0_plot ∈ lw_g := gmi 559 (by decide +kernel) (by decide +kernel)
theorem se_X0_plot : Cond.selects RX0 yX0_plot yX0_plot ∈ lw_g := gmi 560 (by decide +kernel) (by decide +kernel)
theorem lk_X0_18 : (RX0, 18, yX11_isCell) ∈ nestK := by decide +kernel
theorem lk_X0_22 : Cond.methodLink RX0 22 yX0_sailOnFrom ∈ lw_g := gmi 563 (by decide +kernel) (by decide +kernel)
theorem im_X0_sailOnFrom : Cond.instanceMethod yX0_sailOnFrom ∈ lw_g := gmi 565 (by decide +kernel) (by decide +kernel)
theorem lk_X0_30 : Cond.methodLink RX0 30 yX7_hoursToSail ∈ lw_g := gmi 567 (by decide +kernel) (by decide +kernel)
theorem lk_X0_36 : (RX0, 36, yX11_beside) ∈ nestK := by decide +kernel
theorem lk_X0_40 : Cond.methodLink RX0 40 yX0_arrive ∈ lw_g := gmi 569 (by decide +kernel) (by decide +kernel)
theorem im_X0_arrive : Cond.instanceMethod yX0_arrive ∈ lw_g := gmi 571 (by decide +kernel) (by decide +kernel)
theorem lk_X0_26 : Cond.methodLink RX0 26 yX0_soonestOpen ∈ lw_g := gmi 573 (by decide +kernel) (by decide +kernel)
theorem im_X0_soonestOpen : Cond.instanceMethod yX0_soonestOpen ∈ lw_g := gmi 575 (by decide +kernel) (by decide +kernel)
theorem lk_X11_168 : Cond.methodLink RX11 168 yX0_hourAt ∈ lw_g := gmi 577 (by decide +kernel) (by decide +kernel)
theorem im_X0_hourAt : Cond.instanceMethod yX0_hourAt ∈ lw_g := gmi 578 (by decide +kernel) (by decide +kernel)
theorem se_X0_hourAt : Cond.selects RX0 yX0_hourAt yX0_hourAt ∈ lw_g := gmi 579 (by decide +kernel) (by decide +kernel)
theorem lk_X11_171 : Cond.methodLink RX11 171 yX0_firstWayTo ∈ lw_g := gmi 581 (by decide +kernel) (by decide +kernel)
theorem im_X0_firstWayTo : Cond.instanceMethod yX0_firstWayTo ∈ lw_g := gmi 582 (by decide +kernel) (by decide +kernel)
theorem se_X0_firstWayTo : Cond.selects RX0 yX0_firstWayTo yX0_firstWayTo ∈ lw_g := gmi 583 (by decide +kernel) (by decide +kernel)
theorem lk_L_65 : Cond.methodLink RL 65 yX11_latest ∈ lw_g := gmi 585 (by decide +kernel) (by decide +kernel)
theorem im_X11_latest : Cond.instanceMethod yX11_latest ∈ lw_g := gmi 586 (by decide +kernel) (by decide +kernel)
theorem se_X11_latest : Cond.selects RX11 yX11_latest yX11_latest ∈ lw_g := gmi 587 (by decide +kernel) (by decide +kernel)
theorem lk_L_69 : Cond.methodLink RL 69 yX11_home ∈ lw_g := gmi 589 (by decide +kernel) (by decide +kernel)
theorem im_X11_home : Cond.instanceMethod yX11_home ∈ lw_g := gmi 590 (by decide +kernel) (by decide +kernel)
theorem se_X11_home : Cond.selects RX11 yX11_home yX11_home ∈ lw_g := gmi 591 (by decide +kernel) (by decide +kernel)
theorem lk_X11_174 : Cond.methodLink RX11 174 yX3_find ∈ lw_g := gmi 593 (by decide +kernel) (by decide +kernel)
theorem im_X3_find : Cond.instanceMethod yX3_find ∈ lw_g := gmi 594 (by decide +kernel) (by decide +kernel)
theorem se_X3_find : Cond.selects RX3 yX3_find yX3_find ∈ lw_g := gmi 595 (by decide +kernel) (by decide +kernel)
theorem lk_X3_25 : Cond.methodLink RX3 25 yX3_hullIn ∈ lw_g := gmi 599 (by decide +kernel) (by decide +kernel)
theorem im_X3_hullIn : Cond.instanceMethod yX3_hullIn ∈ lw_g := gmi 601 (by decide +kernel) (by decide +kernel)
theorem lk_X3_44 : Cond.methodLink RX3 44 yX3_numberIn ∈ lw_g := gmi 603 (by decide +kernel) (by decide +kernel)
theorem im_X3_numberIn : Cond.instanceMethod yX3_numberIn ∈ lw_g := gmi 605 (by decide +kernel) (by decide +kernel)
theorem lk_X3_34 : Cond.methodLink RX3 34 yX0_plot ∈ lw_g := gmi 607 (by decide +kernel) (by decide +kernel)
theorem lk_X3_40 : Cond.methodLink RX3 40 yX0_hourAt ∈ lw_g := gmi 608 (by decide +kernel) (by decide +kernel)
theorem lk_X11_178 : Cond.methodLink RX11 178 yX3_hullInPlace ∈ lw_g := gmi 609 (by decide +kernel) (by decide +kernel)
theorem im_X3_hullInPlace : Cond.instanceMethod yX3_hullInPlace ∈ lw_g := gmi 610 (by decide +kernel) (by decide +kernel)
theorem se_X3_hullInPlace : Cond.selects RX3 yX3_hullInPlace yX3_hullInPlace ∈ lw_g := gmi 611 (by decide +kernel) (by decide +kernel)
theorem lk_L_73 : Cond.methodLink RL 73 yX11_bestWind ∈ lw_g := gmi 613 (by decide +kernel) (by decide +kernel)
theorem im_X11_bestWind : Cond.instanceMethod yX11_bestWind ∈ lw_g := gmi 614 (by decide +kernel) (by decide +kernel)
theorem se_X11_bestWind : Cond.selects RX11 yX11_bestWind yX11_bestWind ∈ lw_g := gmi 615 (by decide +kernel) (by decide +kernel)
theorem lk_L_77 : Cond.methodLink RL 77 yX11_see ∈ lw_g := gmi 617 (by decide +kernel) (by decide +kernel)
theorem im_X11_see : Cond.instanceMethod yX11_see ∈ lw_g := gmi 618 (by decide +kernel) (by decide +kernel)
theorem se_X11_see : Cond.selects RX11 yX11_see yX11_see ∈ lw_g := gmi 619 (by decide +kernel) (by decide +kernel)
theorem lk_X11_185 : Cond.methodLink RX11 185 yX8_add ∈ lw_g := gmi 621 (by decide +kernel) (by decide +kernel)
theorem im_X8_add : Cond.instanceMethod yX8_add ∈ lw_g := gmi 622 (by decide +kernel) (by decide +kernel)
theorem se_X8_add : Cond.selects RX8 yX8_add yX8_add ∈ lw_g := gmi 623 (by decide +kernel) (by decide +kernel)
theorem lk_L_81 : Cond.methodLink RL 81 yX11_forget ∈ lw_g := gmi 625 (by decide +kernel) (by decide +kernel)
theorem im_X11_forget : Cond.instanceMethod yX11_forget ∈ lw_g := gmi 626 (by decide +kernel) (by decide +kernel)
theorem se_X11_forget : Cond.selects RX11 yX11_forget yX11_forget ∈ lw_g := gmi 627 (by decide +kernel) (by decide +kernel)
theorem lk_L_85 : Cond.methodLink RL 85 yX11_start ∈ lw_g := gmi 629 (by decide +kernel) (by decide +kernel)
theorem im_X11_start : Cond.instanceMethod yX11_start ∈ lw_g := gmi 630 (by decide +kernel) (by decide +kernel)
theorem se_X11_start : Cond.selects RX11 yX11_start yX11_start ∈ lw_g := gmi 631 (by decide +kernel) (by decide +kernel)
theorem lk_X11_190 : Cond.methodLink RX11 190 yX8_startsOf ∈ lw_g := gmi 633 (by decide +kernel) (by decide +kernel)
theorem im_X8_startsOf : Cond.instanceMethod yX8_startsOf ∈ lw_g := gmi 634 (by decide +kernel) (by decide +kernel)
theorem se_X8_startsOf : Cond.selects RX8 yX8_startsOf yX8_startsOf ∈ lw_g := gmi 635 (by decide +kernel) (by decide +kernel)
theorem lk_X8_31 : Cond.methodLink RX8 31 yX8_lookUp ∈ lw_g := gmi 637 (by decide +kernel) (by decide +kernel)
theorem im_X8_lookUp : Cond.instanceMethod yX8_lookUp ∈ lw_g := gmi 639 (by decide +kernel) (by decide +kernel)
theorem lk_X8_39 : Cond.methodLink RX8 39 yJ9_max_7cf53 ∈ lw_g := gmi 641 (by decide +kernel) (by decide +kernel)
theorem st_J9_max_7cf53 : Cond.static yJ9_max_7cf53 ∈ lw_g := gmi 642 (by decide +kernel) (by decide +kernel)
theorem lk_X8_35 : Cond.methodLink RX8 35 yX8_goesOn ∈ lw_g := gmi 644 (by decide +kernel) (by decide +kernel)
theorem im_X8_goesOn : Cond.instanceMethod yX8_goesOn ∈ lw_g := gmi 646 (by decide +kernel) (by decide +kernel)
theorem lk_X8_45 : Cond.methodLink RX8 45 yX8_canBe ∈ lw_g := gmi 648 (by decide +kernel) (by decide +kernel)
theorem im_X8_canBe : Cond.instanceMethod yX8_canBe ∈ lw_g := gmi 650 (by decide +kernel) (by decide +kernel)
theorem lk_X8_62 : (RX8, 62, yX11_isCell) ∈ nestK := by decide +kernel
theorem lk_X8_49 : Cond.methodLink RX8 49 yX7_hoursToSail ∈ lw_g := gmi 653 (by decide +kernel) (by decide +kernel)
theorem lk_X8_55 : Cond.methodLink RX8 55 yX8_unseenBetween ∈ lw_g := gmi 654 (by decide +kernel) (by decide +kernel)
theorem im_X8_unseenBetween : Cond.instanceMethod yX8_unseenBetween ∈ lw_g := gmi 656 (by decide +kernel) (by decide +kernel)
theorem lk_X8_59 : (RX8, 59, yX11_beside) ∈ nestK := by decide +kernel
theorem lk_L_89 : Cond.methodLink RL 89 yX11_junes ∈ lw_g := gmi 659 (by decide +kernel) (by decide +kernel)
theorem im_X11_junes : Cond.instanceMethod yX11_junes ∈ lw_g := gmi 660 (by decide +kernel) (by decide +kernel)
theorem se_X11_junes : Cond.selects RX11 yX11_junes yX11_junes ∈ lw_g := gmi 661 (by decide +kernel) (by decide +kernel)
theorem lk_X11_194 : Cond.methodLink RX11 194 yX6_begin ∈ lw_g := gmi 663 (by decide +kernel) (by decide +kernel)
theorem im_X6_begin : Cond.instanceMethod yX6_begin ∈ lw_g := gmi 664 (by decide +kernel) (by decide +kernel)
theorem se_X6_begin : Cond.selects RX6 yX6_begin yX6_begin ∈ lw_g := gmi 665 (by decide +kernel) (by decide +kernel)
theorem lk_X11_198 : Cond.methodLink RX11 198 yX6_run ∈ lw_g := gmi 667 (by decide +kernel) (by decide +kernel)
theorem im_X6_run : Cond.instanceMethod yX6_run ∈ lw_g := gmi 668 (by decide +kernel) (by decide +kernel)
theorem se_X6_run : Cond.selects RX6 yX6_run yX6_run ∈ lw_g := gmi 669 (by decide +kernel) (by decide +kernel)
theorem lk_X6_30 : Cond.methodLink RX6 30 yX6_drawn ∈ lw_g := gmi 671 (by decide +kernel) (by decide +kernel)
theorem im_X6_drawn : Cond.instanceMethod yX6_drawn ∈ lw_g := gmi 673 (by decide +kernel) (by decide +kernel)
theorem lk_X6_39 : Cond.methodLink RX6 39 yX6_afterSailing ∈ lw_g := gmi 679 (by decide +kernel) (by decide +kernel)
theorem im_X6_afterSailing : Cond.instanceMethod yX6_afterSailing ∈ lw_g := gmi 681 (by decide +kernel) (by decide +kernel)
theorem lk_X6_47 : Cond.methodLink RX6 47 yX7_hoursToSail ∈ lw_g := gmi 683 (by decide +kernel) (by decide +kernel)
theorem lk_X6_51 : (RX6, 51, yX11_beside) ∈ nestK := by decide +kernel
theorem lk_X11_205 : Cond.methodLink RX11 205 yX6_stranded ∈ lw_g := gmi 685 (by decide +kernel) (by decide +kernel)
theorem im_X6_stranded : Cond.instanceMethod yX6_stranded ∈ lw_g := gmi 686 (by decide +kernel) (by decide +kernel)
theorem se_X6_stranded : Cond.selects RX6 yX6_stranded yX6_stranded ∈ lw_g := gmi 687 (by decide +kernel) (by decide +kernel)
theorem lk_X6_43 : Cond.methodLink RX6 43 yX7_floats ∈ lw_g := gmi 689 (by decide +kernel) (by decide +kernel)
theorem lk_L_93 : Cond.methodLink RL 93 yX11_image ∈ lw_g := gmi 690 (by decide +kernel) (by decide +kernel)
theorem im_X11_image : Cond.instanceMethod yX11_image ∈ lw_g := gmi 691 (by decide +kernel) (by decide +kernel)
theorem se_X11_image : Cond.selects RX11 yX11_image yX11_image ∈ lw_g := gmi 692 (by decide +kernel) (by decide +kernel)
theorem lk_X11_213 : Cond.methodLink RX11 213 yX5_keep ∈ lw_g := gmi 694 (by decide +kernel) (by decide +kernel)
theorem im_X5_keep : Cond.instanceMethod yX5_keep ∈ lw_g := gmi 695 (by decide +kernel) (by decide +kernel)
theorem se_X5_keep : Cond.selects RX5 yX5_keep yX5_keep ∈ lw_g := gmi 696 (by decide +kernel) (by decide +kernel)
theorem lk_X11_220 : Cond.methodLink RX11 220 yX8_become ∈ lw_g := gmi 698 (by decide +kernel) (by decide +kernel)
theorem im_X8_become : Cond.instanceMethod yX8_become ∈ lw_g := gmi 699 (by decide +kernel) (by decide +kernel)
theorem se_X8_become : Cond.selects RX8 yX8_become yX8_become ∈ lw_g := gmi 700 (by decide +kernel) (by decide +kernel)
theorem lk_L_97 : Cond.methodLink RL 97 yX11_restore ∈ lw_g := gmi 702 (by decide +kernel) (by decide +kernel)
theorem im_X11_restore : Cond.instanceMethod yX11_restore ∈ lw_g := gmi 703 (by decide +kernel) (by decide +kernel)
theorem se_X11_restore : Cond.selects RX11 yX11_restore yX11_restore ∈ lw_g := gmi 704 (by decide +kernel) (by decide +kernel)
theorem lk_X11_228 : Cond.methodLink RX11 228 yX5_giveBack ∈ lw_g := gmi 706 (by decide +kernel) (by decide +kernel)
theorem im_X5_giveBack : Cond.instanceMethod yX5_giveBack ∈ lw_g := gmi 707 (by decide +kernel) (by decide +kernel)
theorem se_X5_giveBack : Cond.selects RX5 yX5_giveBack yX5_giveBack ∈ lw_g := gmi 708 (by decide +kernel) (by decide +kernel)
theorem lk_L_101 : Cond.methodLink RL 101 yX11_count ∈ lw_g := gmi 710 (by decide +kernel) (by decide +kernel)
theorem im_X11_count : Cond.instanceMethod yX11_count ∈ lw_g := gmi 711 (by decide +kernel) (by decide +kernel)
theorem se_X11_count : Cond.selects RX11 yX11_count yX11_count ∈ lw_g := gmi 712 (by decide +kernel) (by decide +kernel)
theorem lk_X11_233 : Cond.methodLink RX11 233 yX11_cutCells ∈ lw_g := gmi 714 (by decide +kernel) (by decide +kernel)
theorem im_X11_cutCells : Cond.instanceMethod yX11_cutCells ∈ lw_g := gmi 716 (by decide +kernel) (by decide +kernel)
theorem lk_X11_236 : Cond.methodLink RX11 236 yX11_strandedHulls ∈ lw_g := gmi 718 (by decide +kernel) (by decide +kernel)
theorem im_X11_strandedHulls : Cond.instanceMethod yX11_strandedHulls ∈ lw_g := gmi 720 (by decide +kernel) (by decide +kernel)
theorem lk_L_105 : Cond.methodLink RL 105 yX11_digest ∈ lw_g := gmi 722 (by decide +kernel) (by decide +kernel)
theorem im_X11_digest : Cond.instanceMethod yX11_digest ∈ lw_g := gmi 723 (by decide +kernel) (by decide +kernel)
theorem se_X11_digest : Cond.selects RX11 yX11_digest yX11_digest ∈ lw_g := gmi 724 (by decide +kernel) (by decide +kernel)
theorem lk_X11_241 : Cond.methodLink RX11 241 yX11_digestOfCells ∈ lw_g := gmi 727 (by decide +kernel) (by decide +kernel)
theorem im_X11_digestOfCells : Cond.instanceMethod yX11_digestOfCells ∈ lw_g := gmi 729 (by decide +kernel) (by decide +kernel)
theorem lk_X11_254 : Cond.methodLink RX11 254 yX11_cell ∈ lw_g := gmi 732 (by decide +kernel) (by decide +kernel)
theorem lk_X11_245 : Cond.methodLink RX11 245 yX11_digestOfHull ∈ lw_g := gmi 733 (by decide +kernel) (by decide +kernel)
theorem im_X11_digestOfHull : Cond.instanceMethod yX11_digestOfHull ∈ lw_g := gmi 735 (by decide +kernel) (by decide +kernel)
theorem lk_X11_256 : Cond.methodLink RX11 256 yX11_about ∈ lw_g := gmi 737 (by decide +kernel) (by decide +kernel)
theorem lk_X11_251 : Cond.methodLink RX11 251 yX11_count ∈ lw_g := gmi 738 (by decide +kernel) (by decide +kernel)
theorem lk_L_12 : Cond.methodLink RL 12 yX12_init ∈ lw_g := gmi 741 (by decide +kernel) (by decide +kernel)
theorem im_X12_init : Cond.instanceMethod yX12_init ∈ lw_g := gmi 742 (by decide +kernel) (by decide +kernel)
theorem lk_X12_1 : Cond.methodLink RX12 1 objectInit ∈ lw_g := gmi 744 (by decide +kernel) (by decide +kernel)
theorem lk_L_17 : Cond.methodLink RL 17 yX12_letter ∈ lw_g := gmi 830 (by decide +kernel) (by decide +kernel)
theorem im_X12_letter : Cond.instanceMethod yX12_letter ∈ lw_g := gmi 831 (by decide +kernel) (by decide +kernel)
theorem se_X12_letter : Cond.selects RX12 yX12_letter yX12_letter ∈ lw_g := gmi 832 (by decide +kernel) (by decide +kernel)
theorem lk_X12_55 : Cond.methodLink RX12 55 yX12_in ∈ lw_g := gmi 835 (by decide +kernel) (by decide +kernel)
theorem st_X12_in : Cond.static yX12_in ∈ lw_g := gmi 836 (by decide +kernel) (by decide +kernel)
theorem lk_L_22 : Cond.methodLink RL 22 yX12_blank ∈ lw_g := gmi 838 (by decide +kernel) (by decide +kernel)
theorem im_X12_blank : Cond.instanceMethod yX12_blank ∈ lw_g := gmi 839 (by decide +kernel) (by decide +kernel)
theorem se_X12_blank : Cond.selects RX12 yX12_blank yX12_blank ∈ lw_g := gmi 840 (by decide +kernel) (by decide +kernel)
theorem lk_L_26 : Cond.methodLink RL 26 yX12_fault ∈ lw_g := gmi 842 (by decide +kernel) (by decide +kernel)
theorem im_X12_fault : Cond.instanceMethod yX12_fault ∈ lw_g := gmi 843 (by decide +kernel) (by decide +kernel)
theorem se_X12_fault : Cond.selects RX12 yX12_fault yX12_fault ∈ lw_g := gmi 844 (by decide +kernel) (by decide +kernel)
theorem lk_X12_68 : Cond.methodLink RX12 68 yX12_faultOf ∈ lw_g := gmi 846 (by decide +kernel) (by decide +kernel)
theorem im_X12_faultOf : Cond.instanceMethod yX12_faultOf ∈ lw_g := gmi 848 (by decide +kernel) (by decide +kernel)
theorem lk_X12_64 : Cond.methodLink RX12 64 yX12_isGood ∈ lw_g := gmi 850 (by decide +kernel) (by decide +kernel)
theorem st_X12_isGood : Cond.static yX12_isGood ∈ lw_g := gmi 851 (by decide +kernel) (by decide +kernel)
theorem lk_L_30 : Cond.methodLink RL 30 yX12_plain ∈ lw_g := gmi 854 (by decide +kernel) (by decide +kernel)
theorem im_X12_plain : Cond.instanceMethod yX12_plain ∈ lw_g := gmi 855 (by decide +kernel) (by decide +kernel)
theorem se_X12_plain : Cond.selects RX12 yX12_plain yX12_plain ∈ lw_g := gmi 856 (by decide +kernel) (by decide +kernel)
theorem lk_L_35 : Cond.methodLink RL 35 yX12_cell ∈ lw_g := gmi 858 (by decide +kernel) (by decide +kernel)
theorem im_X12_cell : Cond.instanceMethod yX12_cell ∈ lw_g := gmi 859 (by decide +kernel) (by decide +kernel)
theorem se_X12_cell : Cond.selects RX12 yX12_cell yX12_cell ∈ lw_g := gmi 860 (by decide +kernel) (by decide +kernel)
theorem lk_X12_101 : Cond.methodLink RX12 101 yX12_isCell ∈ lw_g := gmi 862 (by decide +kernel) (by decide +kernel)
theorem im_X12_isCell : Cond.instanceMethod yX12_isCell ∈ lw_g := gmi 864 (by decide +kernel) (by decide +kernel)
theorem lk_X12_89 : Cond.methodLink RX12 89 yX12_lacks ∈ lw_g := gmi 867 (by decide +kernel) (by decide +kernel)
theorem im_X12_lacks : Cond.instanceMethod yX12_lacks ∈ lw_g := gmi 869 (by decide +kernel) (by decide +kernel)
theorem lk_X12_105 : Cond.methodLink RX12 105 yX12_tellCell ∈ lw_g := gmi 871 (by decide +kernel) (by decide +kernel)
theorem im_X12_tellCell : Cond.instanceMethod yX12_tellCell ∈ lw_g := gmi 873 (by decide +kernel) (by decide +kernel)
theorem lk_X12_93 : Cond.methodLink RX12 93 yX12_highAt ∈ lw_g := gmi 875 (by decide +kernel) (by decide +kernel)
theorem im_X12_highAt : Cond.instanceMethod yX12_highAt ∈ lw_g := gmi 877 (by decide +kernel) (by decide +kernel)
theorem lk_X12_97 : Cond.methodLink RX12 97 yX12_hullsAt ∈ lw_g := gmi 879 (by decide +kernel) (by decide +kernel)
theorem im_X12_hullsAt : Cond.instanceMethod yX12_hullsAt ∈ lw_g := gmi 881 (by decide +kernel) (by decide +kernel)
theorem lk_L_39 : Cond.methodLink RL 39 yX12_wind ∈ lw_g := gmi 883 (by decide +kernel) (by decide +kernel)
theorem im_X12_wind : Cond.instanceMethod yX12_wind ∈ lw_g := gmi 884 (by decide +kernel) (by decide +kernel)
theorem se_X12_wind : Cond.selects RX12 yX12_wind yX12_wind ∈ lw_g := gmi 885 (by decide +kernel) (by decide +kernel)
theorem lk_L_43 : Cond.methodLink RL 43 yX12_pass ∈ lw_g := gmi 888 (by decide +kernel) (by decide +kernel)
theorem im_X12_pass : Cond.instanceMethod yX12_pass ∈ lw_g := gmi 889 (by decide +kernel) (by decide +kernel)
theorem se_X12_pass : Cond.selects RX12 yX12_pass yX12_pass ∈ lw_g := gmi 890 (by decide +kernel) (by decide +kernel)
theorem lk_L_48 : Cond.methodLink RL 48 yX12_hull ∈ lw_g := gmi 893 (by decide +kernel) (by decide +kernel)
theorem im_X12_hull : Cond.instanceMethod yX12_hull ∈ lw_g := gmi 894 (by decide +kernel) (by decide +kernel)
theorem se_X12_hull : Cond.selects RX12 yX12_hull yX12_hull ∈ lw_g := gmi 895 (by decide +kernel) (by decide +kernel)
theorem lk_L_52 : Cond.methodLink RL 52 yX12_about ∈ lw_g := gmi 897 (by decide +kernel) (by decide +kernel)
theorem im_X12_about : Cond.instanceMethod yX12_about ∈ lw_g := gmi 898 (by decide +kernel) (by decide +kernel)
theorem se_X12_about : Cond.selects RX12 yX12_about yX12_about ∈ lw_g := gmi 899 (by decide +kernel) (by decide +kernel)
theorem lk_X12_134 : Cond.methodLink RX12 134 yX12_isHull ∈ lw_g := gmi 901 (by decide +kernel) (by decide +kernel)
theorem im_X12_isHull : Cond.instanceMethod yX12_isHull ∈ lw_g := gmi 903 (by decide +kernel) (by decide +kernel)
theorem lk_X12_137 : Cond.methodLink RX12 137 yX12_tell ∈ lw_g := gmi 905 (by decide +kernel) (by decide +kernel)
theorem im_X12_tell : Cond.instanceMethod yX12_tell ∈ lw_g := gmi 907 (by decide +kernel) (by decide +kernel)
theorem lk_X12_127 : Cond.methodLink RX12 127 yX12_hoursOf ∈ lw_g := gmi 911 (by decide +kernel) (by decide +kernel)
theorem im_X12_hoursOf : Cond.instanceMethod yX12_hoursOf ∈ lw_g := gmi 913 (by decide +kernel) (by decide +kernel)
theorem lk_X12_113 : Cond.methodLink RX12 113 yX12_beside ∈ lw_g := gmi 915 (by decide +kernel) (by decide +kernel)
theorem st_X12_beside : Cond.static yX12_beside ∈ lw_g := gmi 916 (by decide +kernel) (by decide +kernel)
theorem lk_X12_116 : Cond.methodLink RX12 116 yX12_needs ∈ lw_g := gmi 918 (by decide +kernel) (by decide +kernel)
theorem st_X12_needs : Cond.static yX12_needs ∈ lw_g := gmi 919 (by decide +kernel) (by decide +kernel)
theorem lk_X12_119 : Cond.methodLink RX12 119 yX12_floats ∈ lw_g := gmi 921 (by decide +kernel) (by decide +kernel)
theorem im_X12_floats : Cond.instanceMethod yX12_floats ∈ lw_g := gmi 923 (by decide +kernel) (by decide +kernel)
theorem lk_X12_131 : Cond.methodLink RX12 131 yX12_isStranded ∈ lw_g := gmi 925 (by decide +kernel) (by decide +kernel)
theorem im_X12_isStranded : Cond.instanceMethod yX12_isStranded ∈ lw_g := gmi 927 (by decide +kernel) (by decide +kernel)
theorem lk_L_56 : Cond.methodLink RL 56 yX12_as ∈ lw_g := gmi 929 (by decide +kernel) (by decide +kernel)
theorem im_X12_as : Cond.instanceMethod yX12_as ∈ lw_g := gmi 930 (by decide +kernel) (by decide +kernel)
theorem se_X12_as : Cond.selects RX12 yX12_as yX12_as ∈ lw_g := gmi 931 (by decide +kernel) (by decide +kernel)
theorem lk_L_60 : Cond.methodLink RL 60 yX12_sail ∈ lw_g := gmi 933 (by decide +kernel) (by decide +kernel)
theorem im_X12_sail : Cond.instanceMethod yX12_sail ∈ lw_g := gmi 934 (by decide +kernel) (by decide +kernel)
theorem se_X12_sail : Cond.selects RX12 yX12_sail yX12_sail ∈ lw_g := gmi 935 (by decide +kernel) (by decide +kernel)
theorem lk_L_64 : Cond.methodLink RL 64 yX12_voyage ∈ lw_g := gmi 938 (by decide +kernel) (by decide +kernel)
theorem im_X12_voyage : Cond.instanceMethod yX12_voyage ∈ lw_g := gmi 939 (by decide +kernel) (by decide +kernel)
theorem se_X12_voyage : Cond.selects RX12 yX12_voyage yX12_voyage ∈ lw_g := gmi 940 (by decide +kernel) (by decide +kernel)
theorem lk_X12_147 : Cond.methodLink RX12 147 yX12_hourBy ∈ lw_g := gmi 942 (by decide +kernel) (by decide +kernel)
theorem im_X12_hourBy : Cond.instanceMethod yX12_hourBy ∈ lw_g := gmi 944 (by decide +kernel) (by decide +kernel)
theorem lk_X12_143 : Cond.methodLink RX12 143 yX12_layVoyage ∈ lw_g := gmi 946 (by decide +kernel) (by decide +kernel)
theorem im_X12_layVoyage : Cond.instanceMethod yX12_layVoyage ∈ lw_g := gmi 948 (by decide +kernel) (by decide +kernel)
theorem lk_L_68 : Cond.methodLink RL 68 yX12_latest ∈ lw_g := gmi 951 (by decide +kernel) (by decide +kernel)
theorem im_X12_latest : Cond.instanceMethod yX12_latest ∈ lw_g := gmi 952 (by decide +kernel) (by decide +kernel)
theorem se_X12_latest : Cond.selects RX12 yX12_latest yX12_latest ∈ lw_g := gmi 953 (by decide +kernel) (by decide +kernel)
theorem lk_L_72 : Cond.methodLink RL 72 yX12_home ∈ lw_g := gmi 955 (by decide +kernel) (by decide +kernel)
theorem im_X12_home : Cond.instanceMethod yX12_home ∈ lw_g := gmi 956 (by decide +kernel) (by decide +kernel)
theorem se_X12_home : Cond.selects RX12 yX12_home yX12_home ∈ lw_g := gmi 957 (by decide +kernel) (by decide +kernel)
theorem lk_X12_166 : Cond.methodLink RX12 166 yX12_layHome ∈ lw_g := gmi 960 (by decide +kernel) (by decide +kernel)
theorem im_X12_layHome : Cond.instanceMethod yX12_layHome ∈ lw_g := gmi 962 (by decide +kernel) (by decide +kernel)
theorem lk_X12_157 : Cond.methodLink RX12 157 yX12_isOrder ∈ lw_g := gmi 964 (by decide +kernel) (by decide +kernel)
theorem im_X12_isOrder : Cond.instanceMethod yX12_isOrder ∈ lw_g := gmi 966 (by decide +kernel) (by decide +kernel)
theorem lk_X12_160 : Cond.methodLink RX12 160 yX12_copy ∈ lw_g := gmi 968 (by decide +kernel) (by decide +kernel)
theorem st_X12_copy : Cond.static yX12_copy ∈ lw_g := gmi 969 (by decide +kernel) (by decide +kernel)
theorem lk_L_76 : Cond.methodLink RL 76 yX12_bestWind ∈ lw_g := gmi 971 (by decide +kernel) (by decide +kernel)
theorem im_X12_bestWind : Cond.instanceMethod yX12_bestWind ∈ lw_g := gmi 972 (by decide +kernel) (by decide +kernel)
theorem se_X12_bestWind : Cond.selects RX12 yX12_bestWind yX12_bestWind ∈ lw_g := gmi 973 (by decide +kernel) (by decide +kernel)
theorem lk_L_80 : Cond.methodLink RL 80 yX12_see ∈ lw_g := gmi 975 (by decide +kernel) (by decide +kernel)
theorem im_X12_see : Cond.instanceMethod yX12_see ∈ lw_g := gmi 976 (by decide +kernel) (by decide +kernel)
theorem se_X12_see : Cond.selects RX12 yX12_see yX12_see ∈ lw_g := gmi 977 (by decide +kernel) (by decide +kernel)
theorem lk_L_84 : Cond.methodLink RL 84 yX12_forget ∈ lw_g := gmi 980 (by decide +kernel) (by decide +kernel)
theorem im_X12_forget : Cond.instanceMethod yX12_forget ∈ lw_g := gmi 981 (by decide +kernel) (by decide +kernel)
theorem se_X12_forget : Cond.selects RX12 yX12_forget yX12_forget ∈ lw_g := gmi 982 (by decide +kernel) (by decide +kernel)
theorem lk_L_88 : Cond.methodLink RL 88 yX12_start ∈ lw_g := gmi 984 (by decide +kernel) (by decide +kernel)
theorem im_X12_start : Cond.instanceMethod yX12_start ∈ lw_g := gmi 985 (by decide +kernel) (by decide +kernel)
theorem se_X12_start : Cond.selects RX12 yX12_start yX12_start ∈ lw_g := gmi 986 (by decide +kernel) (by decide +kernel)
theorem lk_X12_182 : Cond.methodLink RX12 182 yX12_startOf ∈ lw_g := gmi 988 (by decide +kernel) (by decide +kernel)
theorem im_X12_startOf : Cond.instanceMethod yX12_startOf ∈ lw_g := gmi 990 (by decide +kernel) (by decide +kernel)
theorem lk_X12_179 : Cond.methodLink RX12 179 yX12_canStart ∈ lw_g := gmi 992 (by decide +kernel) (by decide +kernel)
theorem im_X12_canStart : Cond.instanceMethod yX12_canStart ∈ lw_g := gmi 994 (by decide +kernel) (by decide +kernel)
theorem lk_X12_172 : Cond.methodLink RX12 172 yX12_seenAt ∈ lw_g := gmi 996 (by decide +kernel) (by decide +kernel)
theorem im_X12_seenAt : Cond.instanceMethod yX12_seenAt ∈ lw_g := gmi 998 (by decide +kernel) (by decide +kernel)
theorem lk_X12_175 : Cond.methodLink RX12 175 yX12_isSeenBetween ∈ lw_g := gmi 1000 (by decide +kernel) (by decide +kernel)
theorem im_X12_isSeenBetween : Cond.instanceMethod yX12_isSeenBetween ∈ lw_g := gmi 1002 (by decide +kernel) (by decide +kernel)
theorem lk_L_92 : Cond.methodLink RL 92 yX12_junes ∈ lw_g := gmi 1004 (by decide +kernel) (by decide +kernel)
theorem im_X12_junes : Cond.instanceMethod yX12_junes ∈ lw_g := gmi 1005 (by decide +kernel) (by decide +kernel)
theorem se_X12_junes : Cond.selects RX12 yX12_junes yX12_junes ∈ lw_g := gmi 1006 (by decide +kernel) (by decide +kernel)
theorem lk_X12_197 : Cond.methodLink RX12 197 yX12_draw ∈ lw_g := gmi 1009 (by decide +kernel) (by decide +kernel)
theorem im_X12_draw : Cond.instanceMethod yX12_draw ∈ lw_g := gmi 1011 (by decide +kernel) (by decide +kernel)
theorem lk_X12_200 : Cond.methodLink RX12 200 yX12_strandedMany ∈ lw_g := gmi 1017 (by decide +kernel) (by decide +kernel)
theorem im_X12_strandedMany : Cond.instanceMethod yX12_strandedMany ∈ lw_g := gmi 1019 (by decide +kernel) (by decide +kernel)
theorem lk_L_96 : Cond.methodLink RL 96 yX12_image ∈ lw_g := gmi 1021 (by decide +kernel) (by decide +kernel)
theorem im_X12_image : Cond.instanceMethod yX12_image ∈ lw_g := gmi 1022 (by decide +kernel) (by decide +kernel)
theorem se_X12_image : Cond.selects RX12 yX12_image yX12_image ∈ lw_g := gmi 1023 (by decide +kernel) (by decide +kernel)
theorem lk_L_100 : Cond.methodLink RL 100 yX12_restore ∈ lw_g := gmi 1025 (by decide +kernel) (by decide +kernel)
theorem im_X12_restore : Cond.instanceMethod yX12_restore ∈ lw_g := gmi 1026 (by decide +kernel) (by decide +kernel)
theorem se_X12_restore : Cond.selects RX12 yX12_restore yX12_restore ∈ lw_g := gmi 1027 (by decide +kernel) (by decide +kernel)
theorem lk_L_104 : Cond.methodLink RL 104 yX12_count ∈ lw_g := gmi 1029 (by decide +kernel) (by decide +kernel)
theorem im_X12_count : Cond.instanceMethod yX12_count ∈ lw_g := gmi 1030 (by decide +kernel) (by decide +kernel)
theorem se_X12_count : Cond.selects RX12 yX12_count yX12_count ∈ lw_g := gmi 1031 (by decide +kernel) (by decide +kernel)
theorem lk_X12_218 : Cond.methodLink RX12 218 yX12_countOf ∈ lw_g := gmi 1033 (by decide +kernel) (by decide +kernel)
theorem im_X12_countOf : Cond.instanceMethod yX12_countOf ∈ lw_g := gmi 1035 (by decide +kernel) (by decide +kernel)
theorem lk_X12_215 : Cond.methodLink RX12 215 yX12_cutMany ∈ lw_g := gmi 1037 (by decide +kernel) (by decide +kernel)
theorem im_X12_cutMany : Cond.instanceMethod yX12_cutMany ∈ lw_g := gmi 1039 (by decide +kernel) (by decide +kernel)
theorem lk_L_109 : Cond.methodLink RL 109 yX12_digest ∈ lw_g := gmi 1041 (by decide +kernel) (by decide +kernel)
theorem im_X12_digest : Cond.instanceMethod yX12_digest ∈ lw_g := gmi 1042 (by decide +kernel) (by decide +kernel)
theorem se_X12_digest : Cond.selects RX12 yX12_digest yX12_digest ∈ lw_g := gmi 1043 (by decide +kernel) (by decide +kernel)
theorem lk_X12_227 : Cond.methodLink RX12 227 yX12_say ∈ lw_g := gmi 1046 (by decide +kernel) (by decide +kernel)
theorem im_X12_say : Cond.instanceMethod yX12_say ∈ lw_g := gmi 1048 (by decide +kernel) (by decide +kernel)
theorem lk_X12_233 : Cond.methodLink RX12 233 yX12_sayHull ∈ lw_g := gmi 1051 (by decide +kernel) (by decide +kernel)
theorem im_X12_sayHull : Cond.instanceMethod yX12_sayHull ∈ lw_g := gmi 1053 (by decide +kernel) (by decide +kernel)
theorem se_X11_forgetAll : Cond.selects RX11 yX11_forgetAll yX11_forgetAll ∈ lw_g := gmi 0 (by decide +kernel) (by decide +kernel)
theorem se_X11_digitAt : Cond.selects RX11 yX11_digitAt yX11_digitAt ∈ lw_g := gmi 1 (by decide +kernel) (by decide +kernel)
theorem se_X11_isThere : Cond.selects RX11 yX11_isThere yX11_isThere ∈ lw_g := gmi 2 (by decide +kernel) (by decide +kernel)
theorem se_X11_hasPlain : Cond.selects RX11 yX11_hasPlain yX11_hasPlain ∈ lw_g := gmi 3 (by decide +kernel) (by decide +kernel)
theorem se_X11_hullsOn : Cond.selects RX11 yX11_hullsOn yX11_hullsOn ∈ lw_g := gmi 4 (by decide +kernel) (by decide +kernel)
theorem se_X11_hullNumbered : Cond.selects RX11 yX11_hullNumbered yX11_hullNumbered ∈ lw_g := gmi 5 (by decide +kernel) (by decide +kernel)
theorem se_X0_sailOnFrom : Cond.selects RX0 yX0_sailOnFrom yX0_sailOnFrom ∈ lw_g := gmi 6 (by decide +kernel) (by decide +kernel)
theorem se_X0_arrive : Cond.selects RX0 yX0_arrive yX0_arrive ∈ lw_g := gmi 7 (by decide +kernel) (by decide +kernel)
theorem se_X0_soonestOpen : Cond.selects RX0 yX0_soonestOpen yX0_soonestOpen ∈ lw_g := gmi 8 (by decide +kernel) (by decide +kernel)
theorem se_X3_hullIn : Cond.selects RX3 yX3_hullIn yX3_hullIn ∈ lw_g := gmi 9 (by decide +kernel) (by decide +kernel)
theorem se_X3_numberIn : Cond.selects RX3 yX3_numberIn yX3_numberIn ∈ lw_g := gmi 10 (by decide +kernel) (by decide +kernel)
theorem se_X8_lookUp : Cond.selects RX8 yX8_lookUp yX8_lookUp ∈ lw_g := gmi 11 (by decide +kernel) (by decide +kernel)
theorem se_X8_goesOn : Cond.selects RX8 yX8_goesOn yX8_goesOn ∈ lw_g := gmi 12 (by decide +kernel) (by decide +kernel)
theorem se_X8_canBe : Cond.selects RX8 yX8_canBe yX8_canBe ∈ lw_g := gmi 13 (by decide +kernel) (by decide +kernel)
theorem se_X8_unseenBetween : Cond.selects RX8 yX8_unseenBetween yX8_unseenBetween ∈ lw_g := gmi 14 (by decide +kernel) (by decide +kernel)
theorem se_X6_drawn : Cond.selects RX6 yX6_drawn yX6_drawn ∈ lw_g := gmi 15 (by decide +kernel) (by decide +kernel)
theorem se_X6_afterSailing : Cond.selects RX6 yX6_afterSailing yX6_afterSailing ∈ lw_g := gmi 16 (by decide +kernel) (by decide +kernel)
theorem se_X11_cutCells : Cond.selects RX11 yX11_cutCells yX11_cutCells ∈ lw_g := gmi 17 (by decide +kernel) (by decide +kernel)
theorem se_X11_strandedHulls : Cond.selects RX11 yX11_strandedHulls yX11_strandedHulls ∈ lw_g := gmi 18 (by decide +kernel) (by decide +kernel)
theorem se_X11_digestOfCells : Cond.selects RX11 yX11_digestOfCells yX11_digestOfCells ∈ lw_g := gmi 19 (by decide +kernel) (by decide +kernel)
theorem se_X11_digestOfHull : Cond.selects RX11 yX11_digestOfHull yX11_digestOfHull ∈ lw_g := gmi 20 (by decide +kernel) (by decide +kernel)
theorem se_X12_faultOf : Cond.selects RX12 yX12_faultOf yX12_faultOf ∈ lw_g := gmi 21 (by decide +kernel) (by decide +kernel)
theorem se_X12_isCell : Cond.selects RX12 yX12_isCell yX12_isCell ∈ lw_g := gmi 22 (by decide +kernel) (by decide +kernel)
theorem se_X12_lacks : Cond.selects RX12 yX12_lacks yX12_lacks ∈ lw_g := gmi 23 (by decide +kernel) (by decide +kernel)
theorem se_X12_tellCell : Cond.selects RX12 yX12_tellCell yX12_tellCell ∈ lw_g := gmi 24 (by decide +kernel) (by decide +kernel)
theorem se_X12_highAt : Cond.selects RX12 yX12_highAt yX12_highAt ∈ lw_g := gmi 25 (by decide +kernel) (by decide +kernel)
theorem se_X12_hullsAt : Cond.selects RX12 yX12_hullsAt yX12_hullsAt ∈ lw_g := gmi 26 (by decide +kernel) (by decide +kernel)
theorem se_X12_isHull : Cond.selects RX12 yX12_isHull yX12_isHull ∈ lw_g := gmi 27 (by decide +kernel) (by decide +kernel)
theorem se_X12_tell : Cond.selects RX12 yX12_tell yX12_tell ∈ lw_g := gmi 28 (by decide +kernel) (by decide +kernel)
theorem se_X12_hoursOf : Cond.selects RX12 yX12_hoursOf yX12_hoursOf ∈ lw_g := gmi 29 (by decide +kernel) (by decide +kernel)
theorem se_X12_floats : Cond.selects RX12 yX12_floats yX12_floats ∈ lw_g := gmi 30 (by decide +kernel) (by decide +kernel)
theorem se_X12_isStranded : Cond.selects RX12 yX12_isStranded yX12_isStranded ∈ lw_g := gmi 31 (by decide +kernel) (by decide +kernel)
theorem se_X12_hourBy : Cond.selects RX12 yX12_hourBy yX12_hourBy ∈ lw_g := gmi 32 (by decide +kernel) (by decide +kernel)
theorem se_X12_layVoyage : Cond.selects RX12 yX12_layVoyage yX12_layVoyage ∈ lw_g := gmi 33 (by decide +kernel) (by decide +kernel)
theorem se_X12_layHome : Cond.selects RX12 yX12_layHome yX12_layHome ∈ lw_g := gmi 34 (by decide +kernel) (by decide +kernel)
theorem se_X12_isOrder : Cond.selects RX12 yX12_isOrder yX12_isOrder ∈ lw_g := gmi 35 (by decide +kernel) (by decide +kernel)
theorem se_X12_startOf : Cond.selects RX12 yX12_startOf yX12_startOf ∈ lw_g := gmi 36 (by decide +kernel) (by decide +kernel)
theorem se_X12_canStart : Cond.selects RX12 yX12_canStart yX12_canStart ∈ lw_g := gmi 37 (by decide +kernel) (by decide +kernel)
theorem se_X12_seenAt : Cond.selects RX12 yX12_seenAt yX12_seenAt ∈ lw_g := gmi 38 (by decide +kernel) (by decide +kernel)
theorem se_X12_isSeenBetween : Cond.selects RX12 yX12_isSeenBetween yX12_isSeenBetween ∈ lw_g := gmi 39 (by decide +kernel) (by decide +kernel)
theorem se_X12_draw : Cond.selects RX12 yX12_draw yX12_draw ∈ lw_g := gmi 40 (by decide +kernel) (by decide +kernel)
theorem se_X12_strandedMany : Cond.selects RX12 yX12_strandedMany yX12_strandedMany ∈ lw_g := gmi 41 (by decide +kernel) (by decide +kernel)
theorem se_X12_countOf : Cond.selects RX12 yX12_countOf yX12_countOf ∈ lw_g := gmi 42 (by decide +kernel) (by decide +kernel)
theorem se_X12_cutMany : Cond.selects RX12 yX12_cutMany yX12_cutMany ∈ lw_g := gmi 43 (by decide +kernel) (by decide +kernel)
theorem se_X12_say : Cond.selects RX12 yX12_say yX12_say ∈ lw_g := gmi 44 (by decide +kernel) (by decide +kernel)
theorem se_X12_sayHull : Cond.selects RX12 yX12_sayHull yX12_sayHull ∈ lw_g := gmi 45 (by decide +kernel) (by decide +kernel)
theorem im_objectInit : Cond.instanceMethod objectInit ∈ lw_g := gm (by decide +kernel) (by decide +kernel)
theorem wc_objectInit : Cond.code objectInit ⟨#[0xb1]⟩ 1 none ∈ lw_g := gm (by decide +kernel) (by decide +kernel)
theorem ac_int : Cond.arrayClass .int ∈ lw_g := gm (by decide +kernel) (by decide +kernel)
theorem kl_X6_55 : Cond.constantLong RX6 55 (1103515245) ∈ lw_g := gmi 675 (by decide +kernel) (by decide +kernel)
theorem kl_X6_57 : Cond.constantLong RX6 57 (12345) ∈ lw_g := gmi 676 (by decide +kernel) (by decide +kernel)
theorem kl_X6_59 : Cond.constantLong RX6 59 (2147483647) ∈ lw_g := gmi 677 (by decide +kernel) (by decide +kernel)
theorem ki_X6_61 : Cond.constant RX6 61 (65536) ∈ lw_g := gmi 678 (by decide +kernel) (by decide +kernel)
theorem kl_X11_239 : Cond.constantLong RX11 239 (863) ∈ lw_g := gmi 726 (by decide +kernel) (by decide +kernel)
theorem kl_X11_249 : Cond.constantLong RX11 249 (31) ∈ lw_g := gmi 731 (by decide +kernel) (by decide +kernel)
theorem kl_X12_53 : Cond.constantLong RX12 53 (126) ∈ lw_g := gmi 834 (by decide +kernel) (by decide +kernel)
theorem kl_X12_62 : Cond.constantLong RX12 62 (9) ∈ lw_g := gmi 853 (by decide +kernel) (by decide +kernel)
theorem kl_X12_87 : Cond.constantLong RX12 87 (11) ∈ lw_g := gmi 866 (by decide +kernel) (by decide +kernel)
theorem kl_X12_109 : Cond.constantLong RX12 109 (4) ∈ lw_g := gmi 887 (by decide +kernel) (by decide +kernel)
theorem kl_X12_111 : Cond.constantLong RX12 111 (30) ∈ lw_g := gmi 892 (by decide +kernel) (by decide +kernel)
theorem kl_X12_123 : Cond.constantLong RX12 123 (10) ∈ lw_g := gmi 909 (by decide +kernel) (by decide +kernel)
theorem kl_X12_125 : Cond.constantLong RX12 125 (13) ∈ lw_g := gmi 910 (by decide +kernel) (by decide +kernel)
theorem kl_X12_140 : Cond.constantLong RX12 140 (3) ∈ lw_g := gmi 937 (by decide +kernel) (by decide +kernel)
theorem ki_X12_142 : Cond.constant RX12 142 (100000) ∈ lw_g := gmi 950 (by decide +kernel) (by decide +kernel)
theorem kl_X12_164 : Cond.constantLong RX12 164 (12) ∈ lw_g := gmi 959 (by decide +kernel) (by decide +kernel)
theorem kl_X12_170 : Cond.constantLong RX12 170 (40) ∈ lw_g := gmi 979 (by decide +kernel) (by decide +kernel)
theorem kl_X12_195 : Cond.constantLong RX12 195 (20) ∈ lw_g := gmi 1008 (by decide +kernel) (by decide +kernel)
theorem kl_X12_185 : Cond.constantLong RX12 185 (1103515245) ∈ lw_g := gmi 1013 (by decide +kernel) (by decide +kernel)
theorem kl_X12_190 : Cond.constantLong RX12 190 (12345) ∈ lw_g := gmi 1014 (by decide +kernel) (by decide +kernel)
theorem kl_X12_192 : Cond.constantLong RX12 192 (2147483647) ∈ lw_g := gmi 1015 (by decide +kernel) (by decide +kernel)
theorem ki_X12_194 : Cond.constant RX12 194 (65536) ∈ lw_g := gmi 1016 (by decide +kernel) (by decide +kernel)
theorem kl_X12_231 : Cond.constantLong RX12 231 (863) ∈ lw_g := gmi 1045 (by decide +kernel) (by decide +kernel)
theorem kl_X12_221 : Cond.constantLong RX12 221 (31) ∈ lw_g := gmi 1050 (by decide +kernel) (by decide +kernel)
