set_option maxHeartbeats 4000000 in
set_option maxRecDepth 100000 in
theorem c_image (l : Launch) (D : va_G) (b : Nat) (sc : Nat → Int32) (ar : Nat → Nat → Int32) (hn : Nat → Option Nat) (mh : Int64) (G : List va_E) (hv : HV) (hr : HVr hn G hv) : Con l yX11_image cX11_image 1 (some .int) 1 24 D b 0 0 (wl D b sc ar hn mh G) [.ref (b + 0)] (fun r es' => r = some (.int (imgS sc ar hv).1) ∧ wl D b (imgS sc ar hv).2.1 (imgS sc ar hv).2.2 hn mh G = es') := by
  refine con_of (by decide) (Nat.le_of_ble_eq_true rfl) (fun p e s m args below meth c C hsz => ?_)
  have C : vC p s m args meth c cX11_image 1 RX11 "image" (some .int) D b := C
  change V p l e _ s m args below meth c D b 1 _ 0 0 (wl D b sc ar hn mh G) [(0, .ref (b + 0))] [] 0
  refine v_aload_n (n := 1) C dX11_image_0 rfl rfl rfl ?_
  refine v_go (n := 4) C (vRun_V (As := []) (rest := []) C wl_c0 rfl lk_X11_119 im_X11_hasPlain se_X11_hasPlain dX11_image_1 (c_hasPlain l D b sc ar hn mh G) wm_X11_hasPlain rfl rfl ⟨Nat.le_of_ble_eq_true rfl, Nat.le_of_ble_eq_true rfl⟩ ⟨Nat.le_of_ble_eq_true rfl, Nat.le_of_ble_eq_true rfl⟩ (Nat.le_of_ble_eq_true rfl)) rfl ?_
  rintro _ _ ⟨rfl, rfl⟩ -
  by_cases p_1 : (sc 16) ≤ 0
  · skip
    refine v_stk (st' := .int 0 :: []) (congrArg (fun z : Int32 => Value.int z :: []) (show hpF (sc 16) = 0 by simp only [hpF, if_pos p_1])) ?_
    refine v_if_ne (t := 10) (n := 7) C dX11_image_4 (by decide) rfl (fun c_2 => ?_) (fun c_2 => ?_)
    · exact absurd c_2 (by decide)
    · skip
      refine v_bipush (n := 9) (v := -103) C dX11_image_7 rfl (by decide) ?_
      exact v_iret C dX11_image_9 rfl rfl ⟨by first | rfl | (simp only [imgS, if_pos p_1, if_neg (Int32.not_lt.mpr p_1), if_pos c_2]; done) | (simp only [imgS, eq_true p_1, eq_false (Int32.not_lt.mpr p_1), eq_true c_2, ↓reduceIte]; done) | (simp only [imgS, eq_true p_1, eq_false (Int32.not_lt.mpr p_1), eq_true c_2, ↓reduceIte] <;> rfl) | (simp [imgS, p_1, c_2]; done), by first | rfl | (simp only [imgS, if_pos p_1, if_neg (Int32.not_lt.mpr p_1), if_pos c_2]; done) | (simp only [imgS, eq_true p_1, eq_false (Int32.not_lt.mpr p_1), eq_true c_2, ↓reduceIte]; done) | (simp only [imgS, eq_true p_1, eq_false (Int32.not_lt.mpr p_1), eq_true c_2, ↓reduceIte] <;> rfl) | (simp [imgS, p_1, c_2]; done)⟩
  refine v_stk (st' := .int 1 :: []) (congrArg (fun z : Int32 => Value.int z :: []) (show hpF (sc 16) = 1 by simp only [hpF, if_neg p_1])) ?_
  refine v_if_ne (t := 10) (n := 7) C dX11_image_4 (by decide) rfl (fun c_3 => ?_) (fun c_3 => ?_)
  · skip
    refine v_aload_n (n := 11) C dX11_image_10 rfl rfl rfl ?_
    refine v_get (n := 14) C dX11_image_11 rfl fl_X11_29_X11 wl_c0 rfl ?_
    refine v_aload_n (n := 15) C dX11_image_14 rfl rfl rfl ?_
    refine v_get (n := 18) C dX11_image_15 rfl fl_X11_15_X11 wl_c0 rfl ?_
    refine v_aload_n (n := 19) C dX11_image_18 rfl rfl rfl ?_
    refine v_get (n := 22) C dX11_image_19 rfl fl_X11_126_X11 wl_c0 rfl ?_
    refine v_go (n := 25) C (vRun_V (As := [.ref (b + 2), .int (sc 2)]) (rest := []) C wl_c9 rfl lk_X11_213 im_X5_keep se_X5_keep dX11_image_22 (c_keep l D b sc ar hn mh G (sc 2) hv hr) wm_X5_keep rfl rfl ⟨Nat.le_of_ble_eq_true rfl, Nat.le_of_ble_eq_true rfl⟩ ⟨Nat.le_of_ble_eq_true rfl, Nat.le_of_ble_eq_true rfl⟩ (Nat.le_of_ble_eq_true rfl)) rfl ?_
    rintro _ _ ⟨rfl, rfl⟩ -
    refine v_aload_n (n := 26) C dX11_image_25 rfl rfl rfl ?_
    refine v_get (n := 29) C dX11_image_26 rfl fl_X11_29_X11 (show (wl D b (va_up (va_up sc 6 1) 7 (sc 2)) (va_up (va_up ar 16 (kpN hv (ar 16) (ar 17) 3).1) 17 (kpN hv (ar 16) (ar 17) 3).2) hn mh G)[0]? = some (.inr (11, [.ref (b + 1), .int (sc 0), .int (sc 1), .ref (b + 25), .ref (b + 26), .ref (b + 2), .int (sc 2), .int (sc 3), .ref (b + 3), .ref (b + 9), .ref (b + 18), .ref (b + 21), .ref (b + 22)])) from wl_c0) rfl ?_
    refine v_aload_n (n := 30) C dX11_image_29 rfl rfl rfl ?_
    refine v_get (n := 33) C dX11_image_30 rfl fl_X11_106_X11 (show (wl D b (va_up (va_up sc 6 1) 7 (sc 2)) (va_up (va_up ar 16 (kpN hv (ar 16) (ar 17) 3).1) 17 (kpN hv (ar 16) (ar 17) 3).2) hn mh G)[0]? = some (.inr (11, [.ref (b + 1), .int (sc 0), .int (sc 1), .ref (b + 25), .ref (b + 26), .ref (b + 2), .int (sc 2), .int (sc 3), .ref (b + 3), .ref (b + 9), .ref (b + 18), .ref (b + 21), .ref (b + 22)])) from wl_c0) rfl ?_
    refine v_put (n := 36) (es' := (wl D b (va_up (va_up (va_up sc 6 1) 7 (sc 2)) 8 (sc 3)) (va_up (va_up ar 16 (kpN hv (ar 16) (ar 17) 3).1) 17 (kpN hv (ar 16) (ar 17) 3).2) hn mh G)) C dX11_image_33 rfl fl_X11_217_X5 (fp_any fp_X5_2) (show (wl D b (va_up (va_up sc 6 1) 7 (sc 2)) (va_up (va_up ar 16 (kpN hv (ar 16) (ar 17) 3).1) 17 (kpN hv (ar 16) (ar 17) 3).2) hn mh G)[9]? = some (.inr (5, [.int 1, .int (sc 2), .int (sc 8), .int (sc 9), .ref (b + 10), .ref (b + 16), .ref (b + 17)])) from wl_c9) rfl rfl (Nat.le_of_ble_eq_true rfl) wl_p9_2 ?_
    refine v_aload_n (n := 37) C dX11_image_36 rfl rfl rfl ?_
    refine v_get (n := 40) C dX11_image_37 rfl fl_X11_29_X11 (show (wl D b (va_up (va_up (va_up sc 6 1) 7 (sc 2)) 8 (sc 3)) (va_up (va_up ar 16 (kpN hv (ar 16) (ar 17) 3).1) 17 (kpN hv (ar 16) (ar 17) 3).2) hn mh G)[0]? = some (.inr (11, [.ref (b + 1), .int (sc 0), .int (sc 1), .ref (b + 25), .ref (b + 26), .ref (b + 2), .int (sc 2), .int (sc 3), .ref (b + 3), .ref (b + 9), .ref (b + 18), .ref (b + 21), .ref (b + 22)])) from wl_c0) rfl ?_
    refine v_aload_n (n := 41) C dX11_image_40 rfl rfl rfl ?_
    refine v_get (n := 44) C dX11_image_41 rfl fl_X11_59_X11 (show (wl D b (va_up (va_up (va_up sc 6 1) 7 (sc 2)) 8 (sc 3)) (va_up (va_up ar 16 (kpN hv (ar 16) (ar 17) 3).1) 17 (kpN hv (ar 16) (ar 17) 3).2) hn mh G)[0]? = some (.inr (11, [.ref (b + 1), .int (sc 0), .int (sc 1), .ref (b + 25), .ref (b + 26), .ref (b + 2), .int (sc 2), .int (sc 3), .ref (b + 3), .ref (b + 9), .ref (b + 18), .ref (b + 21), .ref (b + 22)])) from wl_c0) rfl ?_
    refine v_get (n := 47) C dX11_image_44 rfl fl_X11_123_X7 (show (wl D b (va_up (va_up (va_up sc 6 1) 7 (sc 2)) 8 (sc 3)) (va_up (va_up ar 16 (kpN hv (ar 16) (ar 17) 3).1) 17 (kpN hv (ar 16) (ar 17) 3).2) hn mh G)[25]? = some (.inr (7, [.ref (b + 24), .int (sc 16), .int (sc 17)])) from wl_c25) rfl ?_
    refine v_put (n := 50) (es' := (wl D b (va_up (va_up (va_up (va_up sc 6 1) 7 (sc 2)) 8 (sc 3)) 9 (sc 17)) (va_up (va_up ar 16 (kpN hv (ar 16) (ar 17) 3).1) 17 (kpN hv (ar 16) (ar 17) 3).2) hn mh G)) C dX11_image_47 rfl fl_X11_218_X5 (fp_any fp_X5_3) (show (wl D b (va_up (va_up (va_up sc 6 1) 7 (sc 2)) 8 (sc 3)) (va_up (va_up ar 16 (kpN hv (ar 16) (ar 17) 3).1) 17 (kpN hv (ar 16) (ar 17) 3).2) hn mh G)[9]? = some (.inr (5, [.int 1, .int (sc 2), .int (sc 3), .int (sc 9), .ref (b + 10), .ref (b + 16), .ref (b + 17)])) from wl_c9) rfl rfl (Nat.le_of_ble_eq_true rfl) wl_p9_3 ?_
    refine v_aload_n (n := 51) C dX11_image_50 rfl rfl rfl ?_
    refine v_get (n := 54) C dX11_image_51 rfl fl_X11_29_X11 (show (wl D b (va_up (va_up (va_up (va_up sc 6 1) 7 (sc 2)) 8 (sc 3)) 9 (sc 17)) (va_up (va_up ar 16 (kpN hv (ar 16) (ar 17) 3).1) 17 (kpN hv (ar 16) (ar 17) 3).2) hn mh G)[0]? = some (.inr (11, [.ref (b + 1), .int (sc 0), .int (sc 1), .ref (b + 25), .ref (b + 26), .ref (b + 2), .int (sc 2), .int (sc 3), .ref (b + 3), .ref (b + 9), .ref (b + 18), .ref (b + 21), .ref (b + 22)])) from wl_c0) rfl ?_
    refine v_get (n := 57) C dX11_image_54 rfl fl_X11_219_X5 (show (wl D b (va_up (va_up (va_up (va_up sc 6 1) 7 (sc 2)) 8 (sc 3)) 9 (sc 17)) (va_up (va_up ar 16 (kpN hv (ar 16) (ar 17) 3).1) 17 (kpN hv (ar 16) (ar 17) 3).2) hn mh G)[9]? = some (.inr (5, [.int 1, .int (sc 2), .int (sc 3), .int (sc 17), .ref (b + 10), .ref (b + 16), .ref (b + 17)])) from wl_c9) rfl ?_
    refine v_aload_n (n := 58) C dX11_image_57 rfl rfl rfl ?_
    refine v_get (n := 61) C dX11_image_58 rfl fl_X11_22_X11 (show (wl D b (va_up (va_up (va_up (va_up sc 6 1) 7 (sc 2)) 8 (sc 3)) 9 (sc 17)) (va_up (va_up ar 16 (kpN hv (ar 16) (ar 17) 3).1) 17 (kpN hv (ar 16) (ar 17) 3).2) hn mh G)[0]? = some (.inr (11, [.ref (b + 1), .int (sc 0), .int (sc 1), .ref (b + 25), .ref (b + 26), .ref (b + 2), .int (sc 2), .int (sc 3), .ref (b + 3), .ref (b + 9), .ref (b + 18), .ref (b + 21), .ref (b + 22)])) from wl_c0) rfl ?_
    refine v_go (n := 64) C (vRun_V (As := [.ref (b + 3)]) (rest := []) C (show (wl D b (va_up (va_up (va_up (va_up sc 6 1) 7 (sc 2)) 8 (sc 3)) 9 (sc 17)) (va_up (va_up ar 16 (kpN hv (ar 16) (ar 17) 3).1) 17 (kpN hv (ar 16) (ar 17) 3).2) hn mh G)[10]? = some (.inr (8, [.int (sc 5), .ref (b + 11), .ref (b + 12), .ref (b + 13), .ref (b + 14), .ref (b + 15)])) from wl_c10) rfl lk_X11_220 im_X8_become se_X8_become dX11_image_61 (c_become10 l D b (va_up (va_up (va_up (va_up sc 6 1) 7 (sc 2)) 8 (sc 3)) 9 (sc 17)) (va_up (va_up ar 16 (kpN hv (ar 16) (ar 17) 3).1) 17 (kpN hv (ar 16) (ar 17) 3).2) hn mh G) wm_X8_become rfl rfl ⟨Nat.le_of_ble_eq_true rfl, Nat.le_of_ble_eq_true rfl⟩ ⟨Nat.le_of_ble_eq_true rfl, Nat.le_of_ble_eq_true rfl⟩ (Nat.le_of_ble_eq_true rfl)) rfl ?_
    rintro _ _ ⟨rfl, rfl⟩ -
    refine v_cong (es' := (wl D b (va_up (va_up (va_up (va_up (va_up sc 6 1) 7 (sc 2)) 8 (sc 3)) 9 (sc 17)) 5 (sc 4)) (va_up (va_up (va_up (va_up (va_up ar 16 (kpN hv (ar 16) (ar 17) 3).1) 17 (kpN hv (ar 16) (ar 17) 3).2) 11 (copN (ar 4) (ar 11) 6)) 12 (copN (ar 5) (ar 12) 6)) 13 (copN (ar 6) (ar 13) 6)) hn mh G)) (lv' := [(0, .ref (b + 0))]) rfl rfl ?_
    refine v_aload_n (n := 65) C dX11_image_64 rfl rfl rfl ?_
    refine v_get (n := 68) C dX11_image_65 rfl fl_X11_106_X11 (show (wl D b (va_up (va_up (va_up (va_up (va_up sc 6 1) 7 (sc 2)) 8 (sc 3)) 9 (sc 17)) 5 (sc 4)) (va_up (va_up (va_up (va_up (va_up ar 16 (kpN hv (ar 16) (ar 17) 3).1) 17 (kpN hv (ar 16) (ar 17) 3).2) 11 (copN (ar 4) (ar 11) 6)) 12 (copN (ar 5) (ar 12) 6)) 13 (copN (ar 6) (ar 13) 6)) hn mh G)[0]? = some (.inr (11, [.ref (b + 1), .int (sc 0), .int (sc 1), .ref (b + 25), .ref (b + 26), .ref (b + 2), .int (sc 2), .int (sc 3), .ref (b + 3), .ref (b + 9), .ref (b + 18), .ref (b + 21), .ref (b + 22)])) from wl_c0) rfl ?_
    exact v_iret C dX11_image_68 rfl rfl ⟨by first | rfl | (simp only [imgS, if_neg p_1, if_pos (Int32.not_le.mp p_1), if_neg c_3]; done) | (simp only [imgS, eq_false p_1, eq_true (Int32.not_le.mp p_1), eq_false c_3, ↓reduceIte]; done) | (simp only [imgS, eq_false p_1, eq_true (Int32.not_le.mp p_1), eq_false c_3, ↓reduceIte] <;> rfl) | (simp [imgS, p_1, c_3]; done), by first | rfl | (simp only [imgS, if_neg p_1, if_pos (Int32.not_le.mp p_1), if_neg c_3]; done) | (simp only [imgS, eq_false p_1, eq_true (Int32.not_le.mp p_1), eq_false c_3, ↓reduceIte]; done) | (simp only [imgS, eq_false p_1, eq_true (Int32.not_le.mp p_1), eq_false c_3, ↓reduceIte] <;> rfl) | (simp [imgS, p_1, c_3]; done)⟩
  · exact absurd c_3 (by decide)
set_option maxHeartbeats 4000000 in
set_option maxRecDepth 100000 in
theorem c_restore (l : Launch) (D : va_G) (b : Nat) (sc : Nat → Int32) (ar : Nat → Nat → Int32) (hn : Nat → Option Nat) (mh : Int64) (G : List va_E) (hv : HV) (hr : HVr hn G hv) : Con l yX11_restore cX11_restore 1 (some .int) 1 23 D b 0 0 (wl D b sc ar hn mh G) [.ref (b + 0)] (fun r es' => r = some (.int (resS sc ar hv).1) ∧ ∃ hn' G', HVr hn' G' (resS sc ar hv).2.2.2 ∧ wl D b (resS sc ar hv).2.1 (resS sc ar hv).2.2.1 hn' mh G' = es') := by
  refine con_of (by decide) (Nat.le_of_ble_eq_true rfl) (fun p e s m args below meth c C hsz => ?_)
  have C : vC p s m args meth c cX11_restore 1 RX11 "restore" (some .int) D b := C
  change V p l e _ s m args below meth c D b 1 _ 0 0 (wl D b sc ar hn mh G) [(0, .ref (b + 0))] [] 0
  refine v_aload_n (n := 1) C dX11_restore_0 rfl rfl rfl ?_
  refine v_get (n := 4) C dX11_restore_1 rfl fl_X11_29_X11 wl_c0 rfl ?_
  refine v_get (n := 7) C dX11_restore_4 rfl fl_X11_224_X5 wl_c9 rfl ?_
  refine v_if_ne (t := 13) (n := 10) C dX11_restore_7 (by decide) rfl (fun c_1 => ?_) (fun c_1 => ?_)
  · skip
    refine v_aload_n (n := 14) C dX11_restore_13 rfl rfl rfl ?_
    refine v_get (n := 17) C dX11_restore_14 rfl fl_X11_29_X11 wl_c0 rfl ?_
    refine v_aload_n (n := 18) C dX11_restore_17 rfl rfl rfl ?_
    refine v_get (n := 21) C dX11_restore_18 rfl fl_X11_15_X11 wl_c0 rfl ?_
    refine v_go (n := 24) C (vRun_V (As := [.ref (b + 2)]) (rest := []) C wl_c9 rfl lk_X11_228 im_X5_giveBack se_X5_giveBack dX11_restore_21 (c_giveBack l D b sc ar hn mh G hv hr) wm_X5_giveBack rfl rfl ⟨Nat.le_of_ble_eq_true rfl, Nat.le_of_ble_eq_true rfl⟩ ⟨Nat.le_of_ble_eq_true rfl, Nat.le_of_ble_eq_true rfl⟩ (Nat.le_of_ble_eq_true rfl)) rfl ?_
    rintro _ _ ⟨rfl, hn2, G2, hr2, rfl⟩ -
    refine v_aload_n (n := 25) C dX11_restore_24 rfl rfl rfl ?_
    refine v_aload_n (n := 26) C dX11_restore_25 rfl rfl rfl ?_
    refine v_get (n := 29) C dX11_restore_26 rfl fl_X11_29_X11 wl_c0 rfl ?_
    refine v_get (n := 32) C dX11_restore_29 rfl fl_X11_232_X5 wl_c9 rfl ?_
    refine v_put (n := 35) (es' := (wl D b (va_up sc 2 (sc 7)) ar hn2 mh G2)) C dX11_restore_32 rfl fl_X11_126_X11 (fp_any fp_X11_6) wl_c0 rfl rfl (Nat.le_of_ble_eq_true rfl) wl_p0_6 ?_
    refine v_aload_n (n := 36) C dX11_restore_35 rfl rfl rfl ?_
    refine v_aload_n (n := 37) C dX11_restore_36 rfl rfl rfl ?_
    refine v_get (n := 40) C dX11_restore_37 rfl fl_X11_29_X11 (show (wl D b (va_up sc 2 (sc 7)) ar hn2 mh G2)[0]? = some (.inr (11, [.ref (b + 1), .int (sc 0), .int (sc 1), .ref (b + 25), .ref (b + 26), .ref (b + 2), .int (sc 7), .int (sc 3), .ref (b + 3), .ref (b + 9), .ref (b + 18), .ref (b + 21), .ref (b + 22)])) from wl_c0) rfl ?_
    refine v_get (n := 43) C dX11_restore_40 rfl fl_X11_217_X5 (show (wl D b (va_up sc 2 (sc 7)) ar hn2 mh G2)[9]? = some (.inr (5, [.int (sc 6), .int (sc 7), .int (sc 8), .int (sc 9), .ref (b + 10), .ref (b + 16), .ref (b + 17)])) from wl_c9) rfl ?_
    refine v_put (n := 46) (es' := (wl D b (va_up (va_up sc 2 (sc 7)) 3 (sc 8)) ar hn2 mh G2)) C dX11_restore_43 rfl fl_X11_106_X11 (fp_any fp_X11_7) (show (wl D b (va_up sc 2 (sc 7)) ar hn2 mh G2)[0]? = some (.inr (11, [.ref (b + 1), .int (sc 0), .int (sc 1), .ref (b + 25), .ref (b + 26), .ref (b + 2), .int (sc 7), .int (sc 3), .ref (b + 3), .ref (b + 9), .ref (b + 18), .ref (b + 21), .ref (b + 22)])) from wl_c0) rfl rfl (Nat.le_of_ble_eq_true rfl) wl_p0_7 ?_
    refine v_aload_n (n := 47) C dX11_restore_46 rfl rfl rfl ?_
    refine v_get (n := 50) C dX11_restore_47 rfl fl_X11_59_X11 (show (wl D b (va_up (va_up sc 2 (sc 7)) 3 (sc 8)) ar hn2 mh G2)[0]? = some (.inr (11, [.ref (b + 1), .int (sc 0), .int (sc 1), .ref (b + 25), .ref (b + 26), .ref (b + 2), .int (sc 7), .int (sc 8), .ref (b + 3), .ref (b + 9), .ref (b + 18), .ref (b + 21), .ref (b + 22)])) from wl_c0) rfl ?_
    refine v_aload_n (n := 51) C dX11_restore_50 rfl rfl rfl ?_
    refine v_get (n := 54) C dX11_restore_51 rfl fl_X11_29_X11 (show (wl D b (va_up (va_up sc 2 (sc 7)) 3 (sc 8)) ar hn2 mh G2)[0]? = some (.inr (11, [.ref (b + 1), .int (sc 0), .int (sc 1), .ref (b + 25), .ref (b + 26), .ref (b + 2), .int (sc 7), .int (sc 8), .ref (b + 3), .ref (b + 9), .ref (b + 18), .ref (b + 21), .ref (b + 22)])) from wl_c0) rfl ?_
    refine v_get (n := 57) C dX11_restore_54 rfl fl_X11_218_X5 (show (wl D b (va_up (va_up sc 2 (sc 7)) 3 (sc 8)) ar hn2 mh G2)[9]? = some (.inr (5, [.int (sc 6), .int (sc 7), .int (sc 8), .int (sc 9), .ref (b + 10), .ref (b + 16), .ref (b + 17)])) from wl_c9) rfl ?_
    refine v_put (n := 60) (es' := (wl D b (va_up (va_up (va_up sc 2 (sc 7)) 3 (sc 8)) 17 (sc 9)) ar hn2 mh G2)) C dX11_restore_57 rfl fl_X11_123_X7 (fp_any fp_X7_2) (show (wl D b (va_up (va_up sc 2 (sc 7)) 3 (sc 8)) ar hn2 mh G2)[25]? = some (.inr (7, [.ref (b + 24), .int (sc 16), .int (sc 17)])) from wl_c25) rfl rfl (Nat.le_of_ble_eq_true rfl) wl_p25_2 ?_
    refine v_aload_n (n := 61) C dX11_restore_60 rfl rfl rfl ?_
    refine v_get (n := 64) C dX11_restore_61 rfl fl_X11_22_X11 (show (wl D b (va_up (va_up (va_up sc 2 (sc 7)) 3 (sc 8)) 17 (sc 9)) ar hn2 mh G2)[0]? = some (.inr (11, [.ref (b + 1), .int (sc 0), .int (sc 1), .ref (b + 25), .ref (b + 26), .ref (b + 2), .int (sc 7), .int (sc 8), .ref (b + 3), .ref (b + 9), .ref (b + 18), .ref (b + 21), .ref (b + 22)])) from wl_c0) rfl ?_
    refine v_aload_n (n := 65) C dX11_restore_64 rfl rfl rfl ?_
    refine v_get (n := 68) C dX11_restore_65 rfl fl_X11_29_X11 (show (wl D b (va_up (va_up (va_up sc 2 (sc 7)) 3 (sc 8)) 17 (sc 9)) ar hn2 mh G2)[0]? = some (.inr (11, [.ref (b + 1), .int (sc 0), .int (sc 1), .ref (b + 25), .ref (b + 26), .ref (b + 2), .int (sc 7), .int (sc 8), .ref (b + 3), .ref (b + 9), .ref (b + 18), .ref (b + 21), .ref (b + 22)])) from wl_c0) rfl ?_
    refine v_get (n := 71) C dX11_restore_68 rfl fl_X11_219_X5 (show (wl D b (va_up (va_up (va_up sc 2 (sc 7)) 3 (sc 8)) 17 (sc 9)) ar hn2 mh G2)[9]? = some (.inr (5, [.int (sc 6), .int (sc 7), .int (sc 8), .int (sc 9), .ref (b + 10), .ref (b + 16), .ref (b + 17)])) from wl_c9) rfl ?_
    refine v_go (n := 74) C (vRun_V (As := [.ref (b + 10)]) (rest := []) C (show (wl D b (va_up (va_up (va_up sc 2 (sc 7)) 3 (sc 8)) 17 (sc 9)) ar hn2 mh G2)[3]? = some (.inr (8, [.int (sc 4), .ref (b + 4), .ref (b + 5), .ref (b + 6), .ref (b + 7), .ref (b + 8)])) from wl_c3) rfl lk_X11_220 im_X8_become se_X8_become dX11_restore_71 (c_become3 l D b (va_up (va_up (va_up sc 2 (sc 7)) 3 (sc 8)) 17 (sc 9)) ar hn2 mh G2) wm_X8_become rfl rfl ⟨Nat.le_of_ble_eq_true rfl, Nat.le_of_ble_eq_true rfl⟩ ⟨Nat.le_of_ble_eq_true rfl, Nat.le_of_ble_eq_true rfl⟩ (Nat.le_of_ble_eq_true rfl)) rfl ?_
    rintro _ _ ⟨rfl, rfl⟩ -
    refine v_cong (es' := (wl D b (va_up (va_up (va_up (va_up sc 2 (sc 7)) 3 (sc 8)) 17 (sc 9)) 4 (sc 5)) (va_up (va_up (va_up ar 4 (copN (ar 11) (ar 4) 6)) 5 (copN (ar 12) (ar 5) 6)) 6 (copN (ar 13) (ar 6) 6)) hn2 mh G2)) (lv' := [(0, .ref (b + 0))]) rfl rfl ?_
    refine v_aload_n (n := 75) C dX11_restore_74 rfl rfl rfl ?_
    refine v_get (n := 78) C dX11_restore_75 rfl fl_X11_106_X11 (show (wl D b (va_up (va_up (va_up (va_up sc 2 (sc 7)) 3 (sc 8)) 17 (sc 9)) 4 (sc 5)) (va_up (va_up (va_up ar 4 (copN (ar 11) (ar 4) 6)) 5 (copN (ar 12) (ar 5) 6)) 6 (copN (ar 13) (ar 6) 6)) hn2 mh G2)[0]? = some (.inr (11, [.ref (b + 1), .int (sc 0), .int (sc 1), .ref (b + 25), .ref (b + 26), .ref (b + 2), .int (sc 7), .int (sc 8), .ref (b + 3), .ref (b + 9), .ref (b + 18), .ref (b + 21), .ref (b + 22)])) from wl_c0) rfl ?_
    exact v_iret C dX11_restore_78 rfl rfl ⟨by first | rfl | (simp only [resS, if_neg c_1]; done) | (simp only [resS, eq_false c_1, ↓reduceIte]; done) | (simp only [resS, eq_false c_1, ↓reduceIte] <;> rfl) | (simp [resS, c_1]; done), hn2, G2, by simp only [resS, eq_false c_1, ↓reduceIte]; exact hr2, by first | (simp only [resS, eq_false c_1, ↓reduceIte]; done) | (simp only [resS, eq_false c_1, ↓reduceIte] <;> rfl)⟩
  · skip
    refine v_bipush (n := 12) (v := -103) C dX11_restore_10 rfl (by decide) ?_
    exact v_iret C dX11_restore_12 rfl rfl ⟨by first | rfl | (simp only [resS, if_pos c_1]; done) | (simp only [resS, eq_true c_1, ↓reduceIte]; done) | (simp only [resS, eq_true c_1, ↓reduceIte] <;> rfl) | (simp [resS, c_1]; done), hn, G, by simp only [resS, eq_true c_1, ↓reduceIte]; exact hr, by first | (simp only [resS, eq_true c_1, ↓reduceIte]; done) | (simp only [resS, eq_true c_1, ↓reduceIte] <;> rfl)⟩
def jbN (hv : HV) (c : Nat → Int32) : Nat → (Nat → Int32)
  | 0 => c
  | i + 1 => match hv i with
    | none => upd (jbN hv c i) i (-1)
    | some q => upd (jbN hv c i) i q.2.2.1
def drS (s : Int32) : Int32 := Int64.toInt32 ((((1103515245 : Int64) * Int32.toInt64 s) + 12345) &&& 2147483647)
def drV (s w : Int32) : Int32 := if w ≤ 0 then 0 else drS s / 65536 - drS s / 65536 / w * w
/-- hour, seed, failed, wind, cells -/
abbrev JS : Type := Int32 × Int32 × Int32 × Int32 × (Nat → Int32)
def juH (f : Nat → Int32) (rp : Int32) (k : Nat) (dr : Int32) (j : Nat) (q : JS) : JS :=
  if htF f rp (drV q.2.1 5) k dr (q.2.2.2.2 j) (drV (drS q.2.1) 4) q.1 = -1 then (q.1, drS (drS q.2.1), q.2.2.1 + 1, drV q.2.1 5, upd q.2.2.2.2 j (q.2.2.2.2 j)) else
  (q.1 + htF f rp (drV q.2.1 5) k dr (q.2.2.2.2 j) (drV (drS q.2.1) 4) q.1, drS (drS q.2.1), q.2.2.1, drV q.2.1 5, upd q.2.2.2.2 j (beF (q.2.2.2.2 j) (drV (drS q.2.1) 4)))
def juI (f : Nat → Int32) (rp : Int32) (hv : HV) (q : JS) : Nat → JS
  | 0 => q
  | j + 1 => match hv j with
    | none => juI f rp hv q j
    | some a => juH f rp a.1 a.2.1 j (juI f rp hv q j)
def juT (f : Nat → Int32) (rp : Int32) (hv : HV) (q : JS) : Nat → JS
  | 0 => q
  | t + 1 => juI f rp hv (juT f rp hv q t) 3
def jsN (f : Nat → Int32) (rp h : Int32) (hv : HV) (c : Nat → Int32) : Nat → Int32
  | 0 => 0
  | i + 1 => match hv i with
    | none => jsN f rp h hv c i
    | some q => if flP f rp q.1 q.2.1 (c i) h then jsN f rp h hv c i else jsN f rp h hv c i + 1
theorem ju_eq {f : Nat → Int32} {rp : Int32} {k : Nat} {dr : Int32} {j : Nat} {d0 d1 d2 d3 s1 w1 s2 w2 y h g : Int32} {d4 : Nat → Int32} (hs1 : s1 = drS d1) (hw1 : w1 = drV d1 5) (hs2 : s2 = drS s1) (hw2 : w2 = drV s1 4)
    (hy : y = (if htF f rp w1 k dr (d4 j) w2 d0 = -1 then d4 j else beF (d4 j) w2)) (hh : h = (if htF f rp w1 k dr (d4 j) w2 d0 = -1 then d0 else d0 + htF f rp w1 k dr (d4 j) w2 d0)) (hf : g = (if htF f rp w1 k dr (d4 j) w2 d0 = -1 then d2 + 1 else d2)) :
    (h, s2, g, w1, upd d4 j y) = juH f rp k dr j (d0, d1, d2, d3, d4) := by
  subst hs1 hw1 hs2 hw2 hy hh hf
  unfold juH
  dsimp only
  split <;> rfl
set_option maxHeartbeats 4000000 in
set_option maxRecDepth 100000 in
theorem c_begin (l : Launch) (D : va_G) (b : Nat) (sc : Nat → Int32) (ar : Nat → Nat → Int32) (hn : Nat → Option Nat) (mh : Int64) (G : List va_E) (x y : Int32) (hv : HV) (hr : HVr hn G hv) : Con l yX6_begin cX6_begin 6 none 0 0 D b 0 0 (wl D b sc ar hn mh G) [.ref (b + 22), .ref (b + 2), .int x, .int y] (fun r es' => r = none ∧ wl D b (va_up (va_up (va_up sc 13 x) 14 y) 15 0) (va_up ar 23 (jbN hv (ar 23) 3)) hn mh G = es') := by
  refine con_of (by decide) (Nat.le_of_ble_eq_true rfl) (fun p e s m args below meth c C hsz => ?_)
  have C : vC p s m args meth c cX6_begin 6 RX6 "begin" none D b := C
  change V p l e _ s m args below meth c D b 6 _ 0 0 (wl D b sc ar hn mh G) [(0, .ref (b + 22)), (1, .ref (b + 2)), (2, .int x), (3, .int y)] [] 0
  refine v_aload_n (n := 1) C dX6_begin_0 rfl rfl rfl ?_
  refine v_iload_n (n := 2) C dX6_begin_1 rfl rfl rfl ?_
  refine v_put (n := 5) (es' := (wl D b (va_up sc 13 x) ar hn mh G)) C dX6_begin_2 rfl fl_X6_15_X6 (fp_any fp_X6_1) wl_c22 rfl rfl (Nat.le_of_ble_eq_true rfl) wl_p22_1 ?_
  refine v_aload_n (n := 6) C dX6_begin_5 rfl rfl rfl ?_
  refine v_iload_n (n := 7) C dX6_begin_6 rfl rfl rfl ?_
  refine v_put (n := 10) (es' := (wl D b (va_up (va_up sc 13 x) 14 y) ar hn mh G)) C dX6_begin_7 rfl fl_X6_19_X6 (fp_any fp_X6_2) (show (wl D b (va_up sc 13 x) ar hn mh G)[22]? = some (.inr (6, [.ref (b + 23), .int x, .int (sc 14), .int (sc 15)])) from wl_c22) rfl rfl (Nat.le_of_ble_eq_true rfl) wl_p22_2 ?_
  refine v_aload_n (n := 11) C dX6_begin_10 rfl rfl rfl ?_
  refine v_iconst (n := 12) (v := 0) C dX6_begin_11 rfl (by decide) ?_
  refine v_put (n := 15) (es' := (wl D b (va_up (va_up (va_up sc 13 x) 14 y) 15 0) ar hn mh G)) C dX6_begin_12 rfl fl_X6_22_X6 (fp_any fp_X6_3) (show (wl D b (va_up (va_up sc 13 x) 14 y) ar hn mh G)[22]? = some (.inr (6, [.ref (b + 23), .int x, .int y, .int (sc 15)])) from wl_c22) rfl rfl (Nat.le_of_ble_eq_true rfl) wl_p22_3 ?_
  refine v_iconst (n := 16) (v := 0) C dX6_begin_15 rfl (by decide) ?_
  refine v_istore (n := 18) (lv' := [(4, .int 0), (0, .ref (b + 22)), (1, .ref (b + 2)), (2, .int x), (3, .int y)]) C dX6_begin_16 rfl (Nat.le_of_ble_eq_true rfl) rfl ?_
  refine v_pick (lv' := [(4, .int 0), (0, .ref (b + 22)), (1, .ref (b + 2)), (2, .int x), (3, .int y)]) [0, 1, 2, 3, 4] rfl ?_
  have e_1 : (0 : Int32) = (nI 0) := rfl
  refine v_cong (es' := (wl D b (va_up (va_up (va_up sc 13 x) 14 y) 15 0) (va_up ar 23 (ar 23)) hn mh G)) (lv' := [(4, .int 0), (0, .ref (b + 22)), (1, .ref (b + 2)), (2, .int x), (3, .int y)]) rfl rfl ?_
  have e_2 : ((ar 23) : Nat → Int32) = (jbN hv (ar 23) 0) := by first | (rw [jbN]; done) | (rw [jbN]; simp only []; done) | (rw [jbN]; simp only [↓reduceIte]; done) | (rw [jbN]; simp only [↓reduceIte] <;> rfl) | rfl | (rw [jbN]; simp []; done)
  refine v_cong (es' := (wl D b (va_up (va_up (va_up sc 13 x) 14 y) 15 0) (va_up ar 23 (jbN hv (ar 23) 0)) hn mh G)) (lv' := [(4, .int (nI 0)), (0, .ref (b + 22)), (1, .ref (b + 2)), (2, .int x), (3, .int y)]) (cg1 (fun (y0 : Nat → Int32) => wl D b (va_up (va_up (va_up sc 13 x) 14 y) 15 0) (va_up ar 23 y0) hn mh G) e_2) (cg1 (fun (z0 : Int32) => ([(4, .int z0), (0, .ref (b + 22)), (1, .ref (b + 2)), (2, .int x), (3, .int y)] : List (Nat × Value))) e_1) ?_
  refine loop_dn (P := fun i_18 => V p l e { frames := 0, cells := 0, slots := 0, locals := 0 } s m args below meth c D b 6 (MQ below (cQ D b 0 (fun r es' => r = none ∧ wl D b (va_up (va_up (va_up sc 13 x) 14 y) 15 0) (va_up ar 23 (jbN hv (ar 23) 3)) hn mh G = es')) args s 0 0 (fun q => b ≤ q)) 0 0 (wl D b (va_up (va_up (va_up sc 13 x) 14 y) 15 0) (va_up ar 23 (jbN hv (ar 23) i_18)) hn mh G) [(4, .int (nI i_18)), (0, .ref (b + 22)), (1, .ref (b + 2)), (2, .int x), (3, .int y)] [] 18) 3 ?_ (fun i_18 hi_18 ih_18 => ?_)
  · skip
    have g_3 : (3 : Int32) ≤ (nI 3) := by decide
    refine v_iload (n := 20) C dX6_begin_18 rfl rfl ?_
    refine v_iconst (n := 21) (v := 3) C dX6_begin_20 rfl (by decide) ?_
    refine v_icmp_ge (t := 64) (n := 24) C dX6_begin_21 (by decide) rfl (fun c_4 => ?_) (fun c_4 => ?_)
    · skip
      exact v_vret C dX6_begin_64 rfl ⟨rfl, rfl⟩
    · first | exact absurd c_4 g_3 | exact absurd g_3 c_4 | exact absurd c_4 (Int32.not_le.mpr g_3) | exact absurd c_4 (Int32.not_lt.mpr g_3) | exact absurd (Int32.not_le.mp g_3) c_4 | exact absurd (Int32.not_lt.mp g_3) c_4 | exact absurd (Int32.not_le.mp g_3) (Int32.not_lt.mpr c_4) | exact absurd (Int32.not_lt.mp g_3) (Int32.not_le.mpr c_4) | exact absurd (Int32.not_lt.mp c_4) (Int32.not_le.mpr (Int32.not_le.mp g_3))
  · skip
    have g_5 : ¬ (3 : Int32) ≤ (nI i_18) := nI_ge (a := i_18 + 0) (b := 3) (by omega) (by decide)
    refine v_iload (n := 20) C dX6_begin_18 rfl rfl ?_
    refine v_iconst (n := 21) (v := 3) C dX6_begin_20 rfl (by decide) ?_
    refine v_icmp_ge (t := 64) (n := 24) C dX6_begin_21 (by decide) rfl (fun c_6 => ?_) (fun c_6 => ?_)
    · first | exact absurd c_6 g_5 | exact absurd g_5 c_6 | exact absurd c_6 (Int32.not_le.mpr g_5) | exact absurd c_6 (Int32.not_lt.mpr g_5) | exact absurd (Int32.not_le.mp g_5) c_6 | exact absurd (Int32.not_lt.mp g_5) c_6 | exact absurd (Int32.not_le.mp g_5) (Int32.not_lt.mpr c_6) | exact absurd (Int32.not_lt.mp g_5) (Int32.not_le.mpr c_6) | exact absurd (Int32.not_lt.mp c_6) (Int32.not_le.mpr (Int32.not_le.mp g_5))
    · skip
      refine v_iload (n := 26) C dX6_begin_24 rfl rfl ?_
      refine v_aload_n (n := 27) C dX6_begin_26 rfl rfl rfl ?_
      refine v_alenQ (n := 28) (v := 3) C dX6_begin_27 rfl wl_c2 rfl ?_
      refine v_icmp_ge (t := 64) (n := 31) C dX6_begin_28 (by decide) rfl (fun c_7 => ?_) (fun c_7 => ?_)
      · first | exact absurd c_7 g_5 | exact absurd g_5 c_7 | exact absurd c_7 (Int32.not_le.mpr g_5) | exact absurd c_7 (Int32.not_lt.mpr g_5) | exact absurd (Int32.not_le.mp g_5) c_7 | exact absurd (Int32.not_lt.mp g_5) c_7 | exact absurd (Int32.not_le.mp g_5) (Int32.not_lt.mpr c_7) | exact absurd (Int32.not_lt.mp g_5) (Int32.not_le.mpr c_7) | exact absurd (Int32.not_lt.mp c_7) (Int32.not_le.mpr (Int32.not_le.mp g_5))
      · skip
        refine v_aload_n (n := 32) C dX6_begin_31 rfl rfl rfl ?_
        refine v_iload (n := 34) C dX6_begin_32 rfl rfl ?_
        refine v_aald (n := 35) C dX6_begin_34 rfl wl_c2 (nI_vp hi_18 (by decide) (by decide)) ?_
        refine v_stk (st' := va_rf ((hn i_18).map (fun t => b + t)) :: []) (congrArg (fun z : Nat => va_rf ((hn z).map (fun t => b + t)) :: []) (nI_clamp (show i_18 < 2 ^ 31 by omega))) ?_
        rcases q_8 : hv i_18 with _ | ⟨k8, dr8, ce8, sa8⟩
        · skip
          refine v_stk (st' := .null :: []) (congrArg (fun z : Option Nat => va_rf (z.map (fun t => b + t)) :: []) (hr.1 i_18 q_8)) ?_
          refine v_astoreN (n := 37) (lv' := [(5, .null), (4, .int (nI i_18)), (0, .ref (b + 22)), (1, .ref (b + 2)), (2, .int x), (3, .int y)]) C dX6_begin_35 rfl (Nat.le_of_ble_eq_true rfl) rfl ?_
          refine v_aload_n (n := 38) C dX6_begin_37 rfl rfl rfl ?_
          refine v_get (n := 41) C dX6_begin_38 rfl fl_X6_9_X6 (show (wl D b (va_up (va_up (va_up sc 13 x) 14 y) 15 0) (va_up ar 23 (jbN hv (ar 23) i_18)) hn mh G)[22]? = some (.inr (6, [.ref (b + 23), .int x, .int y, .int 0])) from wl_c22) rfl ?_
          refine v_iload (n := 43) C dX6_begin_41 rfl rfl ?_
          refine v_aloadN (n := 45) C dX6_begin_43 rfl rfl ?_
          refine v_ifnonnullN (n := 48) C dX6_begin_45 rfl ?_
          refine v_iconst (n := 49) (v := -1) C dX6_begin_48 rfl (by decide) ?_
          refine v_goto (t := 57) C dX6_begin_49 (by decide) ?_
          refine v_iast (n := 58) (es' := (wl D b (va_up (va_up (va_up sc 13 x) 14 y) 15 0) (va_up ar 23 (upd (jbN hv (ar 23) i_18) i_18 (-1))) hn mh G)) C dX6_begin_57 rfl (show (wl D b (va_up (va_up (va_up sc 13 x) 14 y) 15 0) (va_up ar 23 (jbN hv (ar 23) i_18)) hn mh G)[23]? = some (.inl (D.1 13, 3, .inl (jbN hv (ar 23) i_18))) from wl_c23) (nI_vp hi_18 (by decide) (by decide)) (by rw [nI_clamp (show i_18 < 2 ^ 31 by omega)]; exact rfl) ?_
          refine v_iinc (n := 61) (v := ((nI i_18) + 1)) (lv' := [(4, .int ((nI i_18) + 1)), (5, .null), (0, .ref (b + 22)), (1, .ref (b + 2)), (2, .int x), (3, .int y)]) C dX6_begin_58 rfl rfl rfl (Nat.le_of_ble_eq_true rfl) rfl ?_
          refine v_goto (t := 18) C dX6_begin_61 (by decide) ?_
          refine v_pick (lv' := [(4, .int ((nI i_18) + 1)), (0, .ref (b + 22)), (1, .ref (b + 2)), (2, .int x), (3, .int y)]) [0, 2, 3, 4, 5] rfl ?_
          have e_9 : ((nI i_18) + 1) = (nI (i_18 + 1)) := nI_1 _
          have e_10 : ((upd (jbN hv (ar 23) i_18) i_18 (-1)) : Nat → Int32) = (jbN hv (ar 23) (i_18 + 1)) := by first | (rw [jbN]; done) | (rw [jbN]; simp only [if_neg g_5, if_pos (Int32.not_le.mp g_5), if_neg c_6, if_pos (Int32.not_le.mp c_6), if_neg c_7, if_pos (Int32.not_le.mp c_7), q_8]; done) | (rw [jbN]; simp only [eq_false g_5, eq_true (Int32.not_le.mp g_5), eq_false c_6, eq_true (Int32.not_le.mp c_6), eq_false c_7, eq_true (Int32.not_le.mp c_7), q_8, ↓reduceIte]; done) | (rw [jbN]; simp only [eq_false g_5, eq_true (Int32.not_le.mp g_5), eq_false c_6, eq_true (Int32.not_le.mp c_6), eq_false c_7, eq_true (Int32.not_le.mp c_7), q_8, ↓reduceIte] <;> rfl) | rfl | (rw [jbN]; simp [g_5, c_6, c_7, q_8]; done)
          refine v_cong (es' := (wl D b (va_up (va_up (va_up sc 13 x) 14 y) 15 0) (va_up ar 23 (jbN hv (ar 23) (i_18 + 1))) hn mh G)) (lv' := [(4, .int (nI (i_18 + 1))), (0, .ref (b + 22)), (1, .ref (b + 2)), (2, .int x), (3, .int y)]) (cg1 (fun (y0 : Nat → Int32) => wl D b (va_up (va_up (va_up sc 13 x) 14 y) 15 0) (va_up ar 23 y0) hn mh G) e_10) (cg1 (fun (z0 : Int32) => ([(4, .int z0), (0, .ref (b + 22)), (1, .ref (b + 2)), (2, .int x), (3, .int y)] : List (Nat × Value))) e_9) ?_
          exact ih_18
        · obtain ⟨u8, hu8, hk8, hg8⟩ := hr.2.1 i_18 k8 dr8 ce8 sa8 q_8
          refine v_stk (st' := .ref (b + (u8 + 40)) :: []) (congrArg (fun z : Option Nat => va_rf (z.map (fun t => b + t)) :: []) hu8) ?_
          refine v_astore (n := 37) (lv' := [(5, .ref (b + (u8 + 40))), (4, .int (nI i_18)), (0, .ref (b + 22)), (1, .ref (b + 2)), (2, .int x), (3, .int y)]) C dX6_begin_35 rfl (Nat.le_of_ble_eq_true rfl) rfl ?_
          refine v_aload_n (n := 38) C dX6_begin_37 rfl rfl rfl ?_
          refine v_get (n := 41) C dX6_begin_38 rfl fl_X6_9_X6 (show (wl D b (va_up (va_up (va_up sc 13 x) 14 y) 15 0) (va_up ar 23 (jbN hv (ar 23) i_18)) hn mh G)[22]? = some (.inr (6, [.ref (b + 23), .int x, .int y, .int 0])) from wl_c22) rfl ?_
          refine v_iload (n := 43) C dX6_begin_41 rfl rfl ?_
          refine v_aload (n := 45) C dX6_begin_43 rfl rfl ?_
          refine v_ifnonnull (t := 52) C dX6_begin_45 (by decide) ?_
          refine v_aload (n := 54) C dX6_begin_52 rfl rfl ?_
          refine v_get (n := 57) C dX6_begin_54 rfl (flk_X6_25 hk8) (wl_tail hg8) rfl ?_
          refine v_iast (n := 58) (es' := (wl D b (va_up (va_up (va_up sc 13 x) 14 y) 15 0) (va_up ar 23 (upd (jbN hv (ar 23) i_18) i_18 ce8)) hn mh G)) C dX6_begin_57 rfl (show (wl D b (va_up (va_up (va_up sc 13 x) 14 y) 15 0) (va_up ar 23 (jbN hv (ar 23) i_18)) hn mh G)[23]? = some (.inl (D.1 13, 3, .inl (jbN hv (ar 23) i_18))) from wl_c23) (nI_vp hi_18 (by decide) (by decide)) (by rw [nI_clamp (show i_18 < 2 ^ 31 by omega)]; exact rfl) ?_
          refine v_iinc (n := 61) (v := ((nI i_18) + 1)) (lv' := [(4, .int ((nI i_18) + 1)), (5, .ref (b + (u8 + 40))), (0, .ref (b + 22)), (1, .ref (b + 2)), (2, .int x), (3, .int y)]) C dX6_begin_58 rfl rfl rfl (Nat.le_of_ble_eq_true rfl) rfl ?_
          refine v_goto (t := 18) C dX6_begin_61 (by decide) ?_
          refine v_pick (lv' := [(4, .int ((nI i_18) + 1)), (0, .ref (b + 22)), (1, .ref (b + 2)), (2, .int x), (3, .int y)]) [0, 2, 3, 4, 5] rfl ?_
          have e_11 : ((nI i_18) + 1) = (nI (i_18 + 1)) := nI_1 _
          have e_12 : ((upd (jbN hv (ar 23) i_18) i_18 ce8) : Nat → Int32) = (jbN hv (ar 23) (i_18 + 1)) := by first | (rw [jbN]; done) | (rw [jbN]; simp only [if_neg g_5, if_pos (Int32.not_le.mp g_5), if_neg c_6, if_pos (Int32.not_le.mp c_6), if_neg c_7, if_pos (Int32.not_le.mp c_7), q_8]; done) | (rw [jbN]; simp only [eq_false g_5, eq_true (Int32.not_le.mp g_5), eq_false c_6, eq_true (Int32.not_le.mp c_6), eq_false c_7, eq_true (Int32.not_le.mp c_7), q_8, ↓reduceIte]; done) | (rw [jbN]; simp only [eq_false g_5, eq_true (Int32.not_le.mp g_5), eq_false c_6, eq_true (Int32.not_le.mp c_6), eq_false c_7, eq_true (Int32.not_le.mp c_7), q_8, ↓reduceIte] <;> rfl) | rfl | (rw [jbN]; simp [g_5, c_6, c_7, q_8]; done)
          refine v_cong (es' := (wl D b (va_up (va_up (va_up sc 13 x) 14 y) 15 0) (va_up ar 23 (jbN hv (ar 23) (i_18 + 1))) hn mh G)) (lv' := [(4, .int (nI (i_18 + 1))), (0, .ref (b + 22)), (1, .ref (b + 2)), (2, .int x), (3, .int y)]) (cg1 (fun (y0 : Nat → Int32) => wl D b (va_up (va_up (va_up sc 13 x) 14 y) 15 0) (va_up ar 23 y0) hn mh G) e_12) (cg1 (fun (z0 : Int32) => ([(4, .int z0), (0, .ref (b + 22)), (1, .ref (b + 2)), (2, .int x), (3, .int y)] : List (Nat × Value))) e_11) ?_
          exact ih_18
set_option maxHeartbeats 4000000 in
set_option maxRecDepth 100000 in
theorem c_drawn (l : Launch) (D : va_G) (b : Nat) (sc : Nat → Int32) (ar : Nat → Nat → Int32) (hn : Nat → Option Nat) (mh : Int64) (G : List va_E) (x : Int32) : Con l yX6_drawn cX6_drawn 2 (some .int) 0 0 D b 0 0 (wl D b sc ar hn mh G) [.ref (b + 22), .int x] (fun r es' => ∃ sd v : Int32, sd = drS (sc 14) ∧ v = drV (sc 14) x ∧ r = some (.int v) ∧ wl D b (va_up sc 14 sd) ar hn mh G = es') := by
  refine con_of (by decide) (Nat.le_of_ble_eq_true rfl) (fun p e s m args below meth c C hsz => ?_)
  have C : vC p s m args meth c cX6_drawn 2 RX6 "drawn" (some .int) D b := C
  change V p l e _ s m args below meth c D b 2 _ 0 0 (wl D b sc ar hn mh G) [(0, .ref (b + 22)), (1, .int x)] [] 0
  refine v_aload_n (n := 1) C dX6_drawn_0 rfl rfl rfl ?_
  refine v_ldc2 (n := 4) C dX6_drawn_1 rfl kl_X6_55 ?_
  refine v_aload_n (n := 5) C dX6_drawn_4 rfl rfl rfl ?_
  refine v_get (n := 8) C dX6_drawn_5 rfl fl_X6_19_X6 wl_c22 rfl ?_
  refine v_i2l (n := 9) C dX6_drawn_8 rfl ?_
  refine v_lmul (n := 10) C dX6_drawn_9 rfl ?_
  refine v_ldc2 (n := 13) C dX6_drawn_10 rfl kl_X6_57 ?_
  refine v_ladd (n := 14) C dX6_drawn_13 rfl ?_
  refine v_ldc2 (n := 17) C dX6_drawn_14 rfl kl_X6_59 ?_
  refine v_land (n := 18) C dX6_drawn_17 rfl ?_
  refine v_l2i (n := 19) C dX6_drawn_18 rfl ?_
  refine v_put (n := 22) (es' := (wl D b (va_up sc 14 (Int64.toInt32 (((1103515245 * (Int32.toInt64 (sc 14))) + 12345) &&& 2147483647))) ar hn mh G)) C dX6_drawn_19 rfl fl_X6_19_X6 (fp_any fp_X6_2) wl_c22 rfl rfl (Nat.le_of_ble_eq_true rfl) wl_p22_2 ?_
  refine v_iload_n (n := 23) C dX6_drawn_22 rfl rfl rfl ?_
  refine v_if_le (t := 38) (n := 26) C dX6_drawn_23 (by decide) rfl (fun c_1 => ?_) (fun c_1 => ?_)
  · skip
    refine v_iconst (n := 39) (v := 0) C dX6_drawn_38 rfl (by decide) ?_
    exact v_iret C dX6_drawn_39 rfl rfl ⟨drS (sc 14), drV (sc 14) x, rfl, rfl, by first | rfl | (simp only [drV, drS, if_pos c_1, if_neg (Int32.not_lt.mpr c_1)]; done) | (simp only [drV, drS, eq_true c_1, eq_false (Int32.not_lt.mpr c_1), ↓reduceIte]; done) | (simp only [drV, drS, eq_true c_1, eq_false (Int32.not_lt.mpr c_1), ↓reduceIte] <;> rfl) | (simp [drV, drS, c_1]; done), rfl⟩
  · skip
    refine v_aload_n (n := 27) C dX6_drawn_26 rfl rfl rfl ?_
    refine v_get (n := 30) C dX6_drawn_27 rfl fl_X6_19_X6 (show (wl D b (va_up sc 14 (Int64.toInt32 (((1103515245 * (Int32.toInt64 (sc 14))) + 12345) &&& 2147483647))) ar hn mh G)[22]? = some (.inr (6, [.ref (b + 23), .int (sc 13), .int (Int64.toInt32 (((1103515245 * (Int32.toInt64 (sc 14))) + 12345) &&& 2147483647)), .int (sc 15)])) from wl_c22) rfl ?_
    refine v_ldc (n := 32) C dX6_drawn_30 rfl ki_X6_61 ?_
    refine v_idiv (n := 33) C dX6_drawn_32 rfl (by decide) ?_
    refine v_iload_n (n := 34) C dX6_drawn_33 rfl rfl rfl ?_
    refine v_irem (n := 35) C dX6_drawn_34 rfl (fun h => c_1 (by rw [h]; exact Int32.le_refl _)) ?_
    refine v_goto (t := 39) C dX6_drawn_35 (by decide) ?_
    exact v_iret C dX6_drawn_39 rfl rfl ⟨drS (sc 14), drV (sc 14) x, rfl, rfl, by first | rfl | (simp only [drV, drS, if_neg c_1, if_pos (Int32.not_le.mp c_1)]; done) | (simp only [drV, drS, eq_false c_1, eq_true (Int32.not_le.mp c_1), ↓reduceIte]; done) | (simp only [drV, drS, eq_false c_1, eq_true (Int32.not_le.mp c_1), ↓reduceIte] <;> rfl) | (simp [drV, drS, c_1]; done), rfl⟩
set_option maxHeartbeats 4000000 in
set_option maxRecDepth 100000 in
theorem c_afterSailing (l : Launch) (D : va_G) (b : Nat) (sc : Nat → Int32) (ar : Nat → Nat → Int32) (hn : Nat → Option Nat) (mh : Int64) (G : List va_E) (u k : Nat) (dr ce sa : Int32) (hk : k < 5) (hg : G[u]? = some (hcl k dr ce sa)) (x w : Int32) : Con l yX6_afterSailing cX6_afterSailing 6 (some .int) 3 71 D b 0 0 (wl D b sc ar hn mh G) [.ref (b + 22), .ref (b + 26), .ref (b + (u + 40)), .int x, .int w] (fun r es' => ∃ y h f : Int32, y = (if htF (ar 24) (sc 18) (sc 19) k dr x w (sc 13) = -1 then x else beF x w) ∧ h = (if htF (ar 24) (sc 18) (sc 19) k dr x w (sc 13) = -1 then sc 13 else sc 13 + htF (ar 24) (sc 18) (sc 19) k dr x w (sc 13)) ∧ f = (if htF (ar 24) (sc 18) (sc 19) k dr x w (sc 13) = -1 then sc 15 + 1 else sc 15) ∧ r = some (.int y) ∧ wl D b (va_up (va_up sc 13 h) 15 f) ar hn mh G = es') := by
  refine con_of (by decide) (Nat.le_of_ble_eq_true rfl) (fun p e s m args below meth c C hsz => ?_)
  have C : vC p s m args meth c cX6_afterSailing 6 RX6 "afterSailing" (some .int) D b := C
  change V p l e _ s m args below meth c D b 6 _ 0 0 (wl D b sc ar hn mh G) [(0, .ref (b + 22)), (1, .ref (b + 26)), (2, .ref (b + (u + 40))), (3, .int x), (4, .int w)] [] 0
  refine v_aload_n (n := 1) C dX6_afterSailing_0 rfl rfl rfl ?_
  refine v_aload_n (n := 2) C dX6_afterSailing_1 rfl rfl rfl ?_
  refine v_iload_n (n := 3) C dX6_afterSailing_2 rfl rfl rfl ?_
  refine v_iload (n := 5) C dX6_afterSailing_3 rfl rfl ?_
  refine v_aload_n (n := 6) C dX6_afterSailing_5 rfl rfl rfl ?_
  refine v_get (n := 9) C dX6_afterSailing_6 rfl fl_X6_15_X6 wl_c22 rfl ?_
  refine v_go (n := 12) C (vRun_V (As := [.ref (b + (u + 40)), .int x, .int w, .int (sc 13)]) (rest := []) C wl_c26 rfl lk_X6_47 im_X7_hoursToSail se_X7_hoursToSail dX6_afterSailing_9 (c_hoursToSail l D b (wl D b sc ar hn mh G) 26 24 (ar 24) (sc 18) (sc 19) wl_c26 wl_c24 (u + 40) k dr ce sa hk (wl_tail hg) x w (sc 13)) wm_X7_hoursToSail rfl rfl ⟨Nat.le_of_ble_eq_true rfl, Nat.le_of_ble_eq_true rfl⟩ ⟨Nat.le_of_ble_eq_true rfl, Nat.le_of_ble_eq_true rfl⟩ (Nat.le_of_ble_eq_true rfl)) rfl ?_
  rintro _ _ ⟨rfl, rfl⟩ -
  refine v_istore (n := 14) (lv' := [(5, .int (htF (ar 24) (sc 18) (sc 19) k dr x w (sc 13))), (0, .ref (b + 22)), (1, .ref (b + 26)), (2, .ref (b + (u + 40))), (3, .int x), (4, .int w)]) C dX6_afterSailing_12 rfl (Nat.le_of_ble_eq_true rfl) rfl ?_
  refine v_iload (n := 16) C dX6_afterSailing_14 rfl rfl ?_
  refine v_iconst (n := 17) (v := -1) C dX6_afterSailing_16 rfl (by decide) ?_
  refine v_icmp_ne (t := 32) (n := 20) C dX6_afterSailing_17 (by decide) rfl (fun c_1 => ?_) (fun c_1 => ?_)
  · skip
    refine v_aload_n (n := 33) C dX6_afterSailing_32 rfl rfl rfl ?_
    refine v_dup (n := 34) C dX6_afterSailing_33 rfl rfl ?_
    refine v_get (n := 37) C dX6_afterSailing_34 rfl fl_X6_15_X6 wl_c22 rfl ?_
    refine v_iload (n := 39) C dX6_afterSailing_37 rfl rfl ?_
    refine v_iadd (n := 40) C dX6_afterSailing_39 rfl ?_
    refine v_put (n := 43) (es' := (wl D b (va_up sc 13 ((sc 13) + (htF (ar 24) (sc 18) (sc 19) k dr x w (sc 13)))) ar hn mh G)) C dX6_afterSailing_40 rfl fl_X6_15_X6 (fp_any fp_X6_1) wl_c22 rfl rfl (Nat.le_of_ble_eq_true rfl) wl_p22_1 ?_
    refine v_iload_n (n := 44) C dX6_afterSailing_43 rfl rfl rfl ?_
    refine v_iload (n := 46) C dX6_afterSailing_44 rfl rfl ?_
    refine v_go (n := 49) C (vRun_SN (As := [.int x, .int w]) (rest := []) C lk_X6_51 st_X11_beside dX6_afterSailing_46 (c_beside l D b (wl D b (va_up sc 13 ((sc 13) + (htF (ar 24) (sc 18) (sc 19) k dr x w (sc 13)))) ar hn mh G) x w) wm_X11_beside rfl rfl ⟨Nat.le_of_ble_eq_true rfl, Nat.le_of_ble_eq_true rfl⟩ ⟨Nat.le_of_ble_eq_true rfl, Nat.le_of_ble_eq_true rfl⟩ (Nat.le_of_ble_eq_true rfl)) rfl ?_
    rintro _ _ ⟨rfl, rfl⟩ -
    exact v_iret C dX6_afterSailing_49 rfl rfl ⟨(beF x w), ((sc 13) + (htF (ar 24) (sc 18) (sc 19) k dr x w (sc 13))), (sc 15), by first | rfl | (simp only [if_neg c_1]; done) | (simp only [eq_false c_1, ↓reduceIte]; done) | (simp only [eq_false c_1, ↓reduceIte] <;> rfl) | (simp [c_1]; done), by first | rfl | (simp only [if_neg c_1]; done) | (simp only [eq_false c_1, ↓reduceIte]; done) | (simp only [eq_false c_1, ↓reduceIte] <;> rfl) | (simp [c_1]; done), by first | rfl | (simp only [if_neg c_1]; done) | (simp only [eq_false c_1, ↓reduceIte]; done) | (simp only [eq_false c_1, ↓reduceIte] <;> rfl) | (simp [c_1]; done), rfl, rfl⟩
  · skip
    refine v_aload_n (n := 21) C dX6_afterSailing_20 rfl rfl rfl ?_
    refine v_dup (n := 22) C dX6_afterSailing_21 rfl rfl ?_
    refine v_get (n := 25) C dX6_afterSailing_22 rfl fl_X6_22_X6 wl_c22 rfl ?_
    refine v_iconst (n := 26) (v := 1) C dX6_afterSailing_25 rfl (by decide) ?_
    refine v_iadd (n := 27) C dX6_afterSailing_26 rfl ?_
    refine v_put (n := 30) (es' := (wl D b (va_up sc 15 ((sc 15) + 1)) ar hn mh G)) C dX6_afterSailing_27 rfl fl_X6_22_X6 (fp_any fp_X6_3) wl_c22 rfl rfl (Nat.le_of_ble_eq_true rfl) wl_p22_3 ?_
    refine v_iload_n (n := 31) C dX6_afterSailing_30 rfl rfl rfl ?_
    exact v_iret C dX6_afterSailing_31 rfl rfl ⟨x, (sc 13), ((sc 15) + 1), by first | rfl | (simp only [if_pos c_1]; done) | (simp only [eq_true c_1, ↓reduceIte]; done) | (simp only [eq_true c_1, ↓reduceIte] <;> rfl) | (simp [c_1]; done), by first | rfl | (simp only [if_pos c_1]; done) | (simp only [eq_true c_1, ↓reduceIte]; done) | (simp only [eq_true c_1, ↓reduceIte] <;> rfl) | (simp [c_1]; done), by first | rfl | (simp only [if_pos c_1]; done) | (simp only [eq_true c_1, ↓reduceIte]; done) | (simp only [eq_true c_1, ↓reduceIte] <;> rfl) | (simp [c_1]; done), rfl, rfl⟩
set_option maxHeartbeats 4000000 in
set_option maxRecDepth 100000 in
theorem c_run (l : Launch) (D : va_G) (b : Nat) (sc : Nat → Int32) (ar : Nat → Nat → Int32) (hn : Nat → Option Nat) (mh : Int64) (G : List va_E) (T : Nat) (hT20 : T ≤ 20) (hv : HV) (hr : HVr hn G hv) : Con l yX6_run cX6_run 7 none 4 96 D b 0 0 (wl D b sc ar hn mh G) [.ref (b + 22), .ref (b + 26), .ref (b + 2), .int (nI T)] (fun r es' => r = none ∧ wl D b (va_up (va_up (va_up (va_up sc 13 (juT (ar 24) (sc 18) hv (sc 13, sc 14, sc 15, sc 19, ar 23) T).1) 14 (juT (ar 24) (sc 18) hv (sc 13, sc 14, sc 15, sc 19, ar 23) T).2.1) 15 (juT (ar 24) (sc 18) hv (sc 13, sc 14, sc 15, sc 19, ar 23) T).2.2.1) 19 (juT (ar 24) (sc 18) hv (sc 13, sc 14, sc 15, sc 19, ar 23) T).2.2.2.1) (va_up ar 23 (juT (ar 24) (sc 18) hv (sc 13, sc 14, sc 15, sc 19, ar 23) T).2.2.2.2) hn mh G = es') := by
  refine con_of (by decide) (Nat.le_of_ble_eq_true rfl) (fun p e s m args below meth c C hsz => ?_)
  have C : vC p s m args meth c cX6_run 7 RX6 "run" none D b := C
  change V p l e _ s m args below meth c D b 7 _ 0 0 (wl D b sc ar hn mh G) [(0, .ref (b + 22)), (1, .ref (b + 26)), (2, .ref (b + 2)), (3, .int (nI T))] [] 0
  refine v_iconst (n := 1) (v := 0) C dX6_run_0 rfl (by decide) ?_
  refine v_istore (n := 3) (lv' := [(4, .int 0), (0, .ref (b + 22)), (1, .ref (b + 26)), (2, .ref (b + 2)), (3, .int (nI T))]) C dX6_run_1 rfl (Nat.le_of_ble_eq_true rfl) rfl ?_
  refine v_pick (lv' := [(4, .int 0), (0, .ref (b + 22)), (1, .ref (b + 26)), (2, .ref (b + 2)), (3, .int (nI T))]) [0, 1, 2, 3, 4] rfl ?_
  have e_1 : (0 : Int32) = nI 0 := rfl
  refine v_cong (es' := (wl D b (va_up (va_up (va_up (va_up sc 13 (sc 13)) 14 (sc 14)) 15 (sc 15)) 19 (sc 19)) (va_up ar 23 (ar 23)) hn mh G)) (lv' := [(4, .int (nI 0)), (0, .ref (b + 22)), (1, .ref (b + 26)), (2, .ref (b + 2)), (3, .int (nI T))]) rfl (cg1 (fun (z0 : Int32) => ([(4, .int z0), (0, .ref (b + 22)), (1, .ref (b + 26)), (2, .ref (b + 2)), (3, .int (nI T))] : List (Nat × Value))) e_1) ?_
  refine loop_dn (P := fun i_3 => ∀ (a0 : Int32) (a1 : Int32) (a2 : Int32) (a3 : Int32) (a4 : Nat → Int32), (a0, a1, a2, a3, a4) = (juT (ar 24) (sc 18) hv (sc 13, sc 14, sc 15, sc 19, ar 23) i_3) → V p l e { frames := 4, cells := 0, slots := 0, locals := 96 } s m args below meth c D b 7 (MQ below (cQ D b 0 (fun r es' => r = none ∧ wl D b (va_up (va_up (va_up (va_up sc 13 (juT (ar 24) (sc 18) hv (sc 13, sc 14, sc 15, sc 19, ar 23) T).1) 14 (juT (ar 24) (sc 18) hv (sc 13, sc 14, sc 15, sc 19, ar 23) T).2.1) 15 (juT (ar 24) (sc 18) hv (sc 13, sc 14, sc 15, sc 19, ar 23) T).2.2.1) 19 (juT (ar 24) (sc 18) hv (sc 13, sc 14, sc 15, sc 19, ar 23) T).2.2.2.1) (va_up ar 23 (juT (ar 24) (sc 18) hv (sc 13, sc 14, sc 15, sc 19, ar 23) T).2.2.2.2) hn mh G = es')) args s 0 0 (fun q => b ≤ q)) 0 0 (wl D b (va_up (va_up (va_up (va_up sc 13 a0) 14 a1) 15 a2) 19 a3) (va_up ar 23 a4) hn mh G) [(4, .int (nI i_3)), (0, .ref (b + 22)), (1, .ref (b + 26)), (2, .ref (b + 2)), (3, .int (nI T))] [] 3) T ?_ (fun i_3 hi_3 ih_3 => ?_) (sc 13) (sc 14) (sc 15) (sc 19) (ar 23) rfl
  · intro a0 a1 a2 a3 a4 ha_3
    have g_2 : ((nI T) : Int32) ≤ nI T := Int32.le_refl _
    refine v_iload (n := 5) C dX6_run_3 rfl rfl ?_
    refine v_iload_n (n := 6) C dX6_run_5 rfl rfl rfl ?_
    refine v_icmp_ge (t := 83) (n := 9) C dX6_run_6 (by decide) rfl (fun c_3 => ?_) (fun c_3 => ?_)
    · skip
      exact v_vret C dX6_run_83 rfl ⟨rfl, by rw [← ha_3]⟩
    · first | exact absurd c_3 g_2 | exact absurd g_2 c_3 | exact absurd c_3 (Int32.not_le.mpr g_2) | exact absurd c_3 (Int32.not_lt.mpr g_2) | exact absurd (Int32.not_le.mp g_2) c_3 | exact absurd (Int32.not_lt.mp g_2) c_3 | exact absurd (Int32.not_le.mp g_2) (Int32.not_lt.mpr c_3) | exact absurd (Int32.not_lt.mp g_2) (Int32.not_le.mpr c_3) | exact absurd (Int32.not_lt.mp c_3) (Int32.not_le.mpr (Int32.not_le.mp g_2))
  · intro a0 a1 a2 a3 a4 ha_3
    have g_4 : ¬ ((nI T) : Int32) ≤ nI i_3 := nI_ge (by omega) (by omega)
    refine v_iload (n := 5) C dX6_run_3 rfl rfl ?_
    refine v_iload_n (n := 6) C dX6_run_5 rfl rfl rfl ?_
    refine v_icmp_ge (t := 83) (n := 9) C dX6_run_6 (by decide) rfl (fun c_5 => ?_) (fun c_5 => ?_)
    · first | exact absurd c_5 g_4 | exact absurd g_4 c_5 | exact absurd c_5 (Int32.not_le.mpr g_4) | exact absurd c_5 (Int32.not_lt.mpr g_4) | exact absurd (Int32.not_le.mp g_4) c_5 | exact absurd (Int32.not_lt.mp g_4) c_5 | exact absurd (Int32.not_le.mp g_4) (Int32.not_lt.mpr c_5) | exact absurd (Int32.not_lt.mp g_4) (Int32.not_le.mpr c_5) | exact absurd (Int32.not_lt.mp c_5) (Int32.not_le.mpr (Int32.not_le.mp g_4))
    · skip
      refine v_iconst (n := 10) (v := 0) C dX6_run_9 rfl (by decide) ?_
      refine v_istore (n := 12) (lv' := [(5, .int 0), (4, .int (nI i_3)), (0, .ref (b + 22)), (1, .ref (b + 26)), (2, .ref (b + 2)), (3, .int (nI T))]) C dX6_run_10 rfl (Nat.le_of_ble_eq_true rfl) rfl ?_
      refine v_pick (lv' := [(5, .int 0), (0, .ref (b + 22)), (1, .ref (b + 26)), (2, .ref (b + 2)), (3, .int (nI T)), (4, .int (nI i_3))]) [0, 2, 3, 4, 5, 1] rfl ?_
      have e_6 : (0 : Int32) = nI 0 := rfl
      refine v_cong (es' := (wl D b (va_up (va_up (va_up (va_up sc 13 a0) 14 a1) 15 a2) 19 a3) (va_up ar 23 a4) hn mh G)) (lv' := [(5, .int (nI 0)), (0, .ref (b + 22)), (1, .ref (b + 26)), (2, .ref (b + 2)), (3, .int (nI T)), (4, .int (nI i_3))]) rfl (cg1 (fun (z0 : Int32) => ([(5, .int z0), (0, .ref (b + 22)), (1, .ref (b + 26)), (2, .ref (b + 2)), (3, .int (nI T)), (4, .int (nI i_3))] : List (Nat × Value))) e_6) ?_
      refine loop_dn (P := fun i_12 => ∀ (d0 : Int32) (d1 : Int32) (d2 : Int32) (d3 : Int32) (d4 : Nat → Int32), (d0, d1, d2, d3, d4) = (juI (ar 24) (sc 18) hv (juT (ar 24) (sc 18) hv (sc 13, sc 14, sc 15, sc 19, ar 23) i_3) i_12) → V p l e { frames := 4, cells := 0, slots := 0, locals := 96 } s m args below meth c D b 7 (MQ below (cQ D b 0 (fun r es' => r = none ∧ wl D b (va_up (va_up (va_up (va_up sc 13 (juT (ar 24) (sc 18) hv (sc 13, sc 14, sc 15, sc 19, ar 23) T).1) 14 (juT (ar 24) (sc 18) hv (sc 13, sc 14, sc 15, sc 19, ar 23) T).2.1) 15 (juT (ar 24) (sc 18) hv (sc 13, sc 14, sc 15, sc 19, ar 23) T).2.2.1) 19 (juT (ar 24) (sc 18) hv (sc 13, sc 14, sc 15, sc 19, ar 23) T).2.2.2.1) (va_up ar 23 (juT (ar 24) (sc 18) hv (sc 13, sc 14, sc 15, sc 19, ar 23) T).2.2.2.2) hn mh G = es')) args s 0 0 (fun q => b ≤ q)) 0 0 (wl D b (va_up (va_up (va_up (va_up sc 13 d0) 14 d1) 15 d2) 19 d3) (va_up ar 23 d4) hn mh G) [(5, .int (nI i_12)), (0, .ref (b + 22)), (1, .ref (b + 26)), (2, .ref (b + 2)), (3, .int (nI T)), (4, .int (nI i_3))] [] 12) 3 ?_ (fun i_12 hi_12 ih_12 => ?_) a0 a1 a2 a3 a4 ha_3
      · intro d0 d1 d2 d3 d4 ha_12
        have g_7 : (3 : Int32) ≤ nI 3 := by decide
        refine v_iload (n := 14) C dX6_run_12 rfl rfl ?_
        refine v_iconst (n := 15) (v := 3) C dX6_run_14 rfl (by decide) ?_
        refine v_icmp_ge (t := 77) (n := 18) C dX6_run_15 (by decide) rfl (fun c_8 => ?_) (fun c_8 => ?_)
        · skip
          refine v_iinc (n := 80) (v := ((nI i_3) + 1)) (lv' := [(4, .int ((nI i_3) + 1)), (5, .int (nI 3)), (0, .ref (b + 22)), (1, .ref (b + 26)), (2, .ref (b + 2)), (3, .int (nI T))]) C dX6_run_77 rfl rfl rfl (Nat.le_of_ble_eq_true rfl) rfl ?_
          refine v_goto (t := 3) C dX6_run_80 (by decide) ?_
          refine v_pick (lv' := [(4, .int ((nI i_3) + 1)), (0, .ref (b + 22)), (1, .ref (b + 26)), (2, .ref (b + 2)), (3, .int (nI T))]) [0, 2, 3, 4, 5] rfl ?_
          have e_9 : (((nI i_3) + 1) : Int32) = nI (i_3 + 1) := nI_1 _
          refine v_cong (es' := (wl D b (va_up (va_up (va_up (va_up sc 13 d0) 14 d1) 15 d2) 19 d3) (va_up ar 23 d4) hn mh G)) (lv' := [(4, .int (nI (i_3 + 1))), (0, .ref (b + 22)), (1, .ref (b + 26)), (2, .ref (b + 2)), (3, .int (nI T))]) rfl (cg1 (fun (z0 : Int32) => ([(4, .int z0), (0, .ref (b + 22)), (1, .ref (b + 26)), (2, .ref (b + 2)), (3, .int (nI T))] : List (Nat × Value))) e_9) ?_
          exact ih_3 d0 d1 d2 d3 d4 (ha_12)
        · first | exact absurd c_8 g_7 | exact absurd g_7 c_8 | exact absurd c_8 (Int32.not_le.mpr g_7) | exact absurd c_8 (Int32.not_lt.mpr g_7) | exact absurd (Int32.not_le.mp g_7) c_8 | exact absurd (Int32.not_lt.mp g_7) c_8 | exact absurd (Int32.not_le.mp g_7) (Int32.not_lt.mpr c_8) | exact absurd (Int32.not_lt.mp g_7) (Int32.not_le.mpr c_8) | exact absurd (Int32.not_lt.mp c_8) (Int32.not_le.mpr (Int32.not_le.mp g_7))
      · intro d0 d1 d2 d3 d4 ha_12
        have g_10 : ¬ (3 : Int32) ≤ nI i_12 := nI_n12 hi_12 (by decide)
        refine v_iload (n := 14) C dX6_run_12 rfl rfl ?_
        refine v_iconst (n := 15) (v := 3) C dX6_run_14 rfl (by decide) ?_
        refine v_icmp_ge (t := 77) (n := 18) C dX6_run_15 (by decide) rfl (fun c_11 => ?_) (fun c_11 => ?_)
        · first | exact absurd c_11 g_10 | exact absurd g_10 c_11 | exact absurd c_11 (Int32.not_le.mpr g_10) | exact absurd c_11 (Int32.not_lt.mpr g_10) | exact absurd (Int32.not_le.mp g_10) c_11 | exact absurd (Int32.not_lt.mp g_10) c_11 | exact absurd (Int32.not_le.mp g_10) (Int32.not_lt.mpr c_11) | exact absurd (Int32.not_lt.mp g_10) (Int32.not_le.mpr c_11) | exact absurd (Int32.not_lt.mp c_11) (Int32.not_le.mpr (Int32.not_le.mp g_10))
        · skip
          refine v_iload (n := 20) C dX6_run_18 rfl rfl ?_
          refine v_aload_n (n := 21) C dX6_run_20 rfl rfl rfl ?_
          refine v_alenQ (n := 22) (v := 3) C dX6_run_21 rfl wl_c2 rfl ?_
          refine v_icmp_ge (t := 77) (n := 25) C dX6_run_22 (by decide) rfl (fun c_12 => ?_) (fun c_12 => ?_)
          · first | exact absurd c_12 g_10 | exact absurd g_10 c_12 | exact absurd c_12 (Int32.not_le.mpr g_10) | exact absurd c_12 (Int32.not_lt.mpr g_10) | exact absurd (Int32.not_le.mp g_10) c_12 | exact absurd (Int32.not_lt.mp g_10) c_12 | exact absurd (Int32.not_le.mp g_10) (Int32.not_lt.mpr c_12) | exact absurd (Int32.not_lt.mp g_10) (Int32.not_le.mpr c_12) | exact absurd (Int32.not_lt.mp c_12) (Int32.not_le.mpr (Int32.not_le.mp g_10))
          · skip
            refine v_aload_n (n := 26) C dX6_run_25 rfl rfl rfl ?_
            refine v_iload (n := 28) C dX6_run_26 rfl rfl ?_
            refine v_aald (n := 29) C dX6_run_28 rfl wl_c2 (nI_vp hi_12 (by decide) (by decide)) ?_
            refine v_stk (st' := va_rf ((hn i_12).map (fun t => b + t)) :: []) (congrArg (fun z : Nat => va_rf ((hn z).map (fun t => b + t)) :: []) (nI_clamp (show i_12 < 2 ^ 31 by omega))) ?_
            rcases q_13 : hv i_12 with _ | ⟨k13, dr13, ce13, sa13⟩
            · skip
              refine v_stk (st' := .null :: []) (congrArg (fun z : Option Nat => va_rf (z.map (fun t => b + t)) :: []) (hr.1 i_12 q_13)) ?_
              refine v_astoreN (n := 31) (lv' := [(6, .null), (5, .int (nI i_12)), (0, .ref (b + 22)), (1, .ref (b + 26)), (2, .ref (b + 2)), (3, .int (nI T)), (4, .int (nI i_3))]) C dX6_run_29 rfl (Nat.le_of_ble_eq_true rfl) rfl ?_
              refine v_aloadN (n := 33) C dX6_run_31 rfl rfl ?_
              refine v_ifnullN (t := 71) C dX6_run_33 (by decide) ?_
              refine v_iinc (n := 74) (v := ((nI i_12) + 1)) (lv' := [(5, .int ((nI i_12) + 1)), (6, .null), (0, .ref (b + 22)), (1, .ref (b + 26)), (2, .ref (b + 2)), (3, .int (nI T)), (4, .int (nI i_3))]) C dX6_run_71 rfl rfl rfl (Nat.le_of_ble_eq_true rfl) rfl ?_
              refine v_goto (t := 12) C dX6_run_74 (by decide) ?_
              refine v_pick (lv' := [(5, .int ((nI i_12) + 1)), (0, .ref (b + 22)), (1, .ref (b + 26)), (2, .ref (b + 2)), (3, .int (nI T)), (4, .int (nI i_3))]) [0, 2, 3, 4, 5, 6] rfl ?_
              have e_14 : (((nI i_12) + 1) : Int32) = nI (i_12 + 1) := nI_1 _
              refine v_cong (es' := (wl D b (va_up (va_up (va_up (va_up sc 13 d0) 14 d1) 15 d2) 19 d3) (va_up ar 23 d4) hn mh G)) (lv' := [(5, .int (nI (i_12 + 1))), (0, .ref (b + 22)), (1, .ref (b + 26)), (2, .ref (b + 2)), (3, .int (nI T)), (4, .int (nI i_3))]) rfl (cg1 (fun (z0 : Int32) => ([(5, .int z0), (0, .ref (b + 22)), (1, .ref (b + 26)), (2, .ref (b + 2)), (3, .int (nI T)), (4, .int (nI i_3))] : List (Nat × Value))) e_14) ?_
              exact ih_12 d0 d1 d2 d3 d4 (by rw [juI]; simp only [q_13]; exact ha_12)
            · obtain ⟨u13, hu13, hk13, hg13⟩ := hr.2.1 i_12 k13 dr13 ce13 sa13 q_13
              refine v_stk (st' := .ref (b + (u13 + 40)) :: []) (congrArg (fun z : Option Nat => va_rf (z.map (fun t => b + t)) :: []) hu13) ?_
              refine v_astore (n := 31) (lv' := [(6, .ref (b + (u13 + 40))), (5, .int (nI i_12)), (0, .ref (b + 22)), (1, .ref (b + 26)), (2, .ref (b + 2)), (3, .int (nI T)), (4, .int (nI i_3))]) C dX6_run_29 rfl (Nat.le_of_ble_eq_true rfl) rfl ?_
              refine v_aload (n := 33) C dX6_run_31 rfl rfl ?_
              refine v_ifnull (n := 36) C dX6_run_33 rfl ?_
              refine v_aload_n (n := 37) C dX6_run_36 rfl rfl rfl ?_
              refine v_aload_n (n := 38) C dX6_run_37 rfl rfl rfl ?_
              refine v_iconst (n := 39) (v := 5) C dX6_run_38 rfl (by decide) ?_
              refine v_go (n := 42) C (vRun_V (As := [.int 5]) (rest := [.ref (b + 26)]) C (show (wl D b (va_up (va_up (va_up (va_up sc 13 d0) 14 d1) 15 d2) 19 d3) (va_up ar 23 d4) hn mh G)[22]? = some (.inr (6, [.ref (b + 23), .int d0, .int d1, .int d2])) from wl_c22) rfl lk_X6_30 im_X6_drawn se_X6_drawn dX6_run_39 (c_drawn l D b (va_up (va_up (va_up (va_up sc 13 d0) 14 d1) 15 d2) 19 d3) (va_up ar 23 d4) hn mh G 5) wm_X6_drawn rfl rfl ⟨Nat.le_of_ble_eq_true rfl, Nat.le_of_ble_eq_true rfl⟩ ⟨Nat.le_of_ble_eq_true rfl, Nat.le_of_ble_eq_true rfl⟩ (Nat.le_of_ble_eq_true rfl)) rfl ?_
              rintro _ _ ⟨sd15, v15, hs15, hw15, rfl, rfl⟩ -
              refine v_cong (es' := (wl D b (va_up (va_up (va_up (va_up sc 13 d0) 14 sd15) 15 d2) 19 d3) (va_up ar 23 d4) hn mh G)) (lv' := [(6, .ref (b + (u13 + 40))), (5, .int (nI i_12)), (0, .ref (b + 22)), (1, .ref (b + 26)), (2, .ref (b + 2)), (3, .int (nI T)), (4, .int (nI i_3))]) rfl rfl ?_
              refine v_put (n := 45) (es' := (wl D b (va_up (va_up (va_up (va_up sc 13 d0) 14 sd15) 15 d2) 19 v15) (va_up ar 23 d4) hn mh G)) C dX6_run_42 rfl fl_X6_34_X7 (fp_any fp_X7_2) (show (wl D b (va_up (va_up (va_up (va_up sc 13 d0) 14 sd15) 15 d2) 19 d3) (va_up ar 23 d4) hn mh G)[26]? = some (.inr (7, [.ref (b + 24), .int (sc 18), .int d3])) from wl_c26) rfl rfl (Nat.le_of_ble_eq_true rfl) rfl ?_
              refine v_aload_n (n := 46) C dX6_run_45 rfl rfl rfl ?_
              refine v_get (n := 49) C dX6_run_46 rfl fl_X6_9_X6 (show (wl D b (va_up (va_up (va_up (va_up sc 13 d0) 14 sd15) 15 d2) 19 v15) (va_up ar 23 d4) hn mh G)[22]? = some (.inr (6, [.ref (b + 23), .int d0, .int sd15, .int d2])) from wl_c22) rfl ?_
              refine v_iload (n := 51) C dX6_run_49 rfl rfl ?_
              refine v_aload_n (n := 52) C dX6_run_51 rfl rfl rfl ?_
              refine v_aload_n (n := 53) C dX6_run_52 rfl rfl rfl ?_
              refine v_aload (n := 55) C dX6_run_53 rfl rfl ?_
              refine v_aload_n (n := 56) C dX6_run_55 rfl rfl rfl ?_
              refine v_get (n := 59) C dX6_run_56 rfl fl_X6_9_X6 (show (wl D b (va_up (va_up (va_up (va_up sc 13 d0) 14 sd15) 15 d2) 19 v15) (va_up ar 23 d4) hn mh G)[22]? = some (.inr (6, [.ref (b + 23), .int d0, .int sd15, .int d2])) from wl_c22) rfl ?_
              refine v_iload (n := 61) C dX6_run_59 rfl rfl ?_
              refine v_iald (n := 62) C dX6_run_61 rfl (show (wl D b (va_up (va_up (va_up (va_up sc 13 d0) 14 sd15) 15 d2) 19 v15) (va_up ar 23 d4) hn mh G)[23]? = some (.inl (D.1 13, 3, .inl d4)) from wl_c23) (nI_vp hi_12 (by decide) (by decide)) ?_
              refine v_stk (st' := .int (d4 i_12) :: [.ref (b + (u13 + 40)), .ref (b + 26), .ref (b + 22), .int (nI i_12), .ref (b + 23)]) (congrArg (fun z : Nat => Value.int (d4 z) :: [.ref (b + (u13 + 40)), .ref (b + 26), .ref (b + 22), .int (nI i_12), .ref (b + 23)]) (nI_clamp (show i_12 < 2 ^ 31 by omega))) ?_
              refine v_aload_n (n := 63) C dX6_run_62 rfl rfl rfl ?_
              refine v_iconst (n := 64) (v := 4) C dX6_run_63 rfl (by decide) ?_
              refine v_go (n := 67) C (vRun_V (As := [.int 4]) (rest := [.int (d4 i_12), .ref (b + (u13 + 40)), .ref (b + 26), .ref (b + 22), .int (nI i_12), .ref (b + 23)]) C (show (wl D b (va_up (va_up (va_up (va_up sc 13 d0) 14 sd15) 15 d2) 19 v15) (va_up ar 23 d4) hn mh G)[22]? = some (.inr (6, [.ref (b + 23), .int d0, .int sd15, .int d2])) from wl_c22) rfl lk_X6_30 im_X6_drawn se_X6_drawn dX6_run_64 (c_drawn l D b (va_up (va_up (va_up (va_up sc 13 d0) 14 sd15) 15 d2) 19 v15) (va_up ar 23 d4) hn mh G 4) wm_X6_drawn rfl rfl ⟨Nat.le_of_ble_eq_true rfl, Nat.le_of_ble_eq_true rfl⟩ ⟨Nat.le_of_ble_eq_true rfl, Nat.le_of_ble_eq_true rfl⟩ (Nat.le_of_ble_eq_true rfl)) rfl ?_
              rintro _ _ ⟨sd16, v16, hs16, hw16, rfl, rfl⟩ -
              refine v_cong (es' := (wl D b (va_up (va_up (va_up (va_up sc 13 d0) 14 sd16) 15 d2) 19 v15) (va_up ar 23 d4) hn mh G)) (lv' := [(6, .ref (b + (u13 + 40))), (5, .int (nI i_12)), (0, .ref (b + 22)), (1, .ref (b + 26)), (2, .ref (b + 2)), (3, .int (nI T)), (4, .int (nI i_3))]) rfl rfl ?_
              refine v_go (n := 70) C (vRun_V (As := [.ref (b + 26), .ref (b + (u13 + 40)), .int (d4 i_12), .int v16]) (rest := [.int (nI i_12), .ref (b + 23)]) C (show (wl D b (va_up (va_up (va_up (va_up sc 13 d0) 14 sd16) 15 d2) 19 v15) (va_up ar 23 d4) hn mh G)[22]? = some (.inr (6, [.ref (b + 23), .int d0, .int sd16, .int d2])) from wl_c22) rfl lk_X6_39 im_X6_afterSailing se_X6_afterSailing dX6_run_67 (c_afterSailing l D b (va_up (va_up (va_up (va_up sc 13 d0) 14 sd16) 15 d2) 19 v15) (va_up ar 23 d4) hn mh G u13 k13 dr13 ce13 sa13 hk13 hg13 (d4 i_12) v16) wm_X6_afterSailing rfl rfl ⟨Nat.le_of_ble_eq_true rfl, Nat.le_of_ble_eq_true rfl⟩ ⟨Nat.le_of_ble_eq_true rfl, Nat.le_of_ble_eq_true rfl⟩ (Nat.le_of_ble_eq_true rfl)) rfl ?_
              rintro _ _ ⟨y17, h17, f17, hy17, hh17, hf17, rfl, rfl⟩ -
              refine v_cong (es' := (wl D b (va_up (va_up (va_up (va_up sc 13 h17) 14 sd16) 15 f17) 19 v15) (va_up ar 23 d4) hn mh G)) (lv' := [(6, .ref (b + (u13 + 40))), (5, .int (nI i_12)), (0, .ref (b + 22)), (1, .ref (b + 26)), (2, .ref (b + 2)), (3, .int (nI T)), (4, .int (nI i_3))]) rfl rfl ?_
              refine v_iast (n := 71) (es' := (wl D b (va_up (va_up (va_up (va_up sc 13 h17) 14 sd16) 15 f17) 19 v15) (va_up ar 23 (upd d4 i_12 y17)) hn mh G)) C dX6_run_70 rfl (show (wl D b (va_up (va_up (va_up (va_up sc 13 h17) 14 sd16) 15 f17) 19 v15) (va_up ar 23 d4) hn mh G)[23]? = some (.inl (D.1 13, 3, .inl d4)) from wl_c23) (nI_vp hi_12 (by decide) (by decide)) (by rw [nI_clamp (show i_12 < 2 ^ 31 by omega)]; exact rfl) ?_
              refine v_iinc (n := 74) (v := ((nI i_12) + 1)) (lv' := [(5, .int ((nI i_12) + 1)), (6, .ref (b + (u13 + 40))), (0, .ref (b + 22)), (1, .ref (b + 26)), (2, .ref (b + 2)), (3, .int (nI T)), (4, .int (nI i_3))]) C dX6_run_71 rfl rfl rfl (Nat.le_of_ble_eq_true rfl) rfl ?_
              refine v_goto (t := 12) C dX6_run_74 (by decide) ?_
              refine v_pick (lv' := [(5, .int ((nI i_12) + 1)), (0, .ref (b + 22)), (1, .ref (b + 26)), (2, .ref (b + 2)), (3, .int (nI T)), (4, .int (nI i_3))]) [0, 2, 3, 4, 5, 6] rfl ?_
              have e_18 : (((nI i_12) + 1) : Int32) = nI (i_12 + 1) := nI_1 _
              refine v_cong (es' := (wl D b (va_up (va_up (va_up (va_up sc 13 h17) 14 sd16) 15 f17) 19 v15) (va_up ar 23 (upd d4 i_12 y17)) hn mh G)) (lv' := [(5, .int (nI (i_12 + 1))), (0, .ref (b + 22)), (1, .ref (b + 26)), (2, .ref (b + 2)), (3, .int (nI T)), (4, .int (nI i_3))]) rfl (cg1 (fun (z0 : Int32) => ([(5, .int z0), (0, .ref (b + 22)), (1, .ref (b + 26)), (2, .ref (b + 2)), (3, .int (nI T)), (4, .int (nI i_3))] : List (Nat × Value))) e_18) ?_
              exact ih_12 h17 sd16 f17 v15 (upd d4 i_12 y17) (by rw [juI]; simp only [q_13]; rw [← ha_12]; exact ju_eq hs15 hw15 hs16 hw16 hy17 hh17 hf17)
set_option maxHeartbeats 4000000 in
set_option maxRecDepth 100000 in
theorem c_stranded (l : Launch) (D : va_G) (b : Nat) (sc : Nat → Int32) (ar : Nat → Nat → Int32) (hn : Nat → Option Nat) (mh : Int64) (G : List va_E) (hv : HV) (hr : HVr hn G hv) : Con l yX6_stranded cX6_stranded 6 (some .int) 2 45 D b 0 0 (wl D b sc ar hn mh G) [.ref (b + 22), .ref (b + 26), .ref (b + 2)] (fun r es' => r = some (.int (jsN (ar 24) (sc 18) (sc 13) hv (ar 23) 3)) ∧ (wl D b sc ar hn mh G) = es') := by
  refine con_of (by decide) (Nat.le_of_ble_eq_true rfl) (fun p e s m args below meth c C hsz => ?_)
  have C : vC p s m args meth c cX6_stranded 6 RX6 "stranded" (some .int) D b := C
  change V p l e _ s m args below meth c D b 6 _ 0 0 (wl D b sc ar hn mh G) [(0, .ref (b + 22)), (1, .ref (b + 26)), (2, .ref (b + 2))] [] 0
  refine v_iconst (n := 1) (v := 0) C dX6_stranded_0 rfl (by decide) ?_
  refine v_istore_n (n := 2) (lv' := [(3, .int 0), (0, .ref (b + 22)), (1, .ref (b + 26)), (2, .ref (b + 2))]) C dX6_stranded_1 rfl rfl (Nat.le_of_ble_eq_true rfl) rfl ?_
  refine v_iconst (n := 3) (v := 0) C dX6_stranded_2 rfl (by decide) ?_
  refine v_istore (n := 5) (lv' := [(4, .int 0), (3, .int 0), (0, .ref (b + 22)), (1, .ref (b + 26)), (2, .ref (b + 2))]) C dX6_stranded_3 rfl (Nat.le_of_ble_eq_true rfl) rfl ?_
  refine v_pick (lv' := [(4, .int 0), (0, .ref (b + 22)), (1, .ref (b + 26)), (2, .ref (b + 2)), (3, .int 0)]) [0, 2, 3, 4, 1] rfl ?_
  have e_1 : (0 : Int32) = (nI 0) := rfl
  have e_2 : (0 : Int32) = (jsN (ar 24) (sc 18) (sc 13) hv (ar 23) 0) := by first | (rw [jsN]; done) | (rw [jsN]; simp only []; done) | (rw [jsN]; simp only [↓reduceIte]; done) | (rw [jsN]; simp only [↓reduceIte] <;> rfl) | rfl | (rw [jsN]; simp []; done)
  refine v_cong (es' := (wl D b sc ar hn mh G)) (lv' := [(4, .int (nI 0)), (0, .ref (b + 22)), (1, .ref (b + 26)), (2, .ref (b + 2)), (3, .int (jsN (ar 24) (sc 18) (sc 13) hv (ar 23) 0))]) rfl (cg2 (fun (z0 : Int32) (z1 : Int32) => ([(4, .int z0), (0, .ref (b + 22)), (1, .ref (b + 26)), (2, .ref (b + 2)), (3, .int z1)] : List (Nat × Value))) e_1 e_2) ?_
  refine loop_dn (P := fun i_5 => V p l e { frames := 2, cells := 0, slots := 0, locals := 45 } s m args below meth c D b 6 (MQ below (cQ D b 0 (fun r es' => r = some (.int (jsN (ar 24) (sc 18) (sc 13) hv (ar 23) 3)) ∧ (wl D b sc ar hn mh G) = es')) args s 0 0 (fun q => b ≤ q)) 0 0 (wl D b sc ar hn mh G) [(4, .int (nI i_5)), (0, .ref (b + 22)), (1, .ref (b + 26)), (2, .ref (b + 2)), (3, .int (jsN (ar 24) (sc 18) (sc 13) hv (ar 23) i_5))] [] 5) 3 ?_ (fun i_5 hi_5 ih_5 => ?_)
  · skip
    have g_3 : (3 : Int32) ≤ (nI 3) := by decide
    refine v_iload (n := 7) C dX6_stranded_5 rfl rfl ?_
    refine v_iconst (n := 8) (v := 3) C dX6_stranded_7 rfl (by decide) ?_
    refine v_icmp_ge (t := 58) (n := 11) C dX6_stranded_8 (by decide) rfl (fun c_4 => ?_) (fun c_4 => ?_)
    · skip
      refine v_iload_n (n := 59) C dX6_stranded_58 rfl rfl rfl ?_
      exact v_iret C dX6_stranded_59 rfl rfl ⟨by first | rfl | (simp only [if_pos g_3, if_neg (Int32.not_lt.mpr g_3), if_pos c_4, if_neg (Int32.not_lt.mpr c_4)]; done) | (simp only [eq_true g_3, eq_false (Int32.not_lt.mpr g_3), eq_true c_4, eq_false (Int32.not_lt.mpr c_4), ↓reduceIte]; done) | (simp only [eq_true g_3, eq_false (Int32.not_lt.mpr g_3), eq_true c_4, eq_false (Int32.not_lt.mpr c_4), ↓reduceIte] <;> rfl) | (simp [g_3, c_4]; done), rfl⟩
    · first | exact absurd c_4 g_3 | exact absurd g_3 c_4 | exact absurd c_4 (Int32.not_le.mpr g_3) | exact absurd c_4 (Int32.not_lt.mpr g_3) | exact absurd (Int32.not_le.mp g_3) c_4 | exact absurd (Int32.not_lt.mp g_3) c_4 | exact absurd (Int32.not_le.mp g_3) (Int32.not_lt.mpr c_4) | exact absurd (Int32.not_lt.mp g_3) (Int32.not_le.mpr c_4) | exact absurd (Int32.not_lt.mp c_4) (Int32.not_le.mpr (Int32.not_le.mp g_3))
  · skip
    have g_5 : ¬ (3 : Int32) ≤ (nI i_5) := nI_ge (a := i_5 + 0) (b := 3) (by omega) (by decide)
    refine v_iload (n := 7) C dX6_stranded_5 rfl rfl ?_
    refine v_iconst (n := 8) (v := 3) C dX6_stranded_7 rfl (by decide) ?_
    refine v_icmp_ge (t := 58) (n := 11) C dX6_stranded_8 (by decide) rfl (fun c_6 => ?_) (fun c_6 => ?_)
    · first | exact absurd c_6 g_5 | exact absurd g_5 c_6 | exact absurd c_6 (Int32.not_le.mpr g_5) | exact absurd c_6 (Int32.not_lt.mpr g_5) | exact absurd (Int32.not_le.mp g_5) c_6 | exact absurd (Int32.not_lt.mp g_5) c_6 | exact absurd (Int32.not_le.mp g_5) (Int32.not_lt.mpr c_6) | exact absurd (Int32.not_lt.mp g_5) (Int32.not_le.mpr c_6) | exact absurd (Int32.not_lt.mp c_6) (Int32.not_le.mpr (Int32.not_le.mp g_5))
    · skip
      refine v_iload (n := 13) C dX6_stranded_11 rfl rfl ?_
      refine v_aload_n (n := 14) C dX6_stranded_13 rfl rfl rfl ?_
      refine v_alenQ (n := 15) (v := 3) C dX6_stranded_14 rfl wl_c2 rfl ?_
      refine v_icmp_ge (t := 58) (n := 18) C dX6_stranded_15 (by decide) rfl (fun c_7 => ?_) (fun c_7 => ?_)
      · first | exact absurd c_7 g_5 | exact absurd g_5 c_7 | exact absurd c_7 (Int32.not_le.mpr g_5) | exact absurd c_7 (Int32.not_lt.mpr g_5) | exact absurd (Int32.not_le.mp g_5) c_7 | exact absurd (Int32.not_lt.mp g_5) c_7 | exact absurd (Int32.not_le.mp g_5) (Int32.not_lt.mpr c_7) | exact absurd (Int32.not_lt.mp g_5) (Int32.not_le.mpr c_7) | exact absurd (Int32.not_lt.mp c_7) (Int32.not_le.mpr (Int32.not_le.mp g_5))
      · skip
        refine v_aload_n (n := 19) C dX6_stranded_18 rfl rfl rfl ?_
        refine v_iload (n := 21) C dX6_stranded_19 rfl rfl ?_
        refine v_aald (n := 22) C dX6_stranded_21 rfl wl_c2 (nI_vp hi_5 (by decide) (by decide)) ?_
        refine v_stk (st' := va_rf ((hn i_5).map (fun t => b + t)) :: []) (congrArg (fun z : Nat => va_rf ((hn z).map (fun t => b + t)) :: []) (nI_clamp (show i_5 < 2 ^ 31 by omega))) ?_
        rcases q_8 : hv i_5 with _ | ⟨k8, dr8, ce8, sa8⟩
        · skip
          refine v_stk (st' := .null :: []) (congrArg (fun z : Option Nat => va_rf (z.map (fun t => b + t)) :: []) (hr.1 i_5 q_8)) ?_
          refine v_astoreN (n := 24) (lv' := [(5, .null), (4, .int (nI i_5)), (0, .ref (b + 22)), (1, .ref (b + 26)), (2, .ref (b + 2)), (3, .int (jsN (ar 24) (sc 18) (sc 13) hv (ar 23) i_5))]) C dX6_stranded_22 rfl (Nat.le_of_ble_eq_true rfl) rfl ?_
          refine v_aloadN (n := 26) C dX6_stranded_24 rfl rfl ?_
          refine v_ifnullN (t := 52) C dX6_stranded_26 (by decide) ?_
          refine v_iinc (n := 55) (v := ((nI i_5) + 1)) (lv' := [(4, .int ((nI i_5) + 1)), (5, .null), (0, .ref (b + 22)), (1, .ref (b + 26)), (2, .ref (b + 2)), (3, .int (jsN (ar 24) (sc 18) (sc 13) hv (ar 23) i_5))]) C dX6_stranded_52 rfl rfl rfl (Nat.le_of_ble_eq_true rfl) rfl ?_
          refine v_goto (t := 5) C dX6_stranded_55 (by decide) ?_
          refine v_pick (lv' := [(4, .int ((nI i_5) + 1)), (0, .ref (b + 22)), (1, .ref (b + 26)), (2, .ref (b + 2)), (3, .int (jsN (ar 24) (sc 18) (sc 13) hv (ar 23) i_5))]) [0, 2, 3, 4, 5] rfl ?_
          have e_9 : ((nI i_5) + 1) = (nI (i_5 + 1)) := nI_1 _
          have e_10 : ((jsN (ar 24) (sc 18) (sc 13) hv (ar 23) i_5) : Int32) = (jsN (ar 24) (sc 18) (sc 13) hv (ar 23) (i_5 + 1)) := by first | (rw [jsN]; done) | (rw [jsN]; simp only [if_neg g_5, if_pos (Int32.not_le.mp g_5), if_neg c_6, if_pos (Int32.not_le.mp c_6), if_neg c_7, if_pos (Int32.not_le.mp c_7), q_8]; done) | (rw [jsN]; simp only [eq_false g_5, eq_true (Int32.not_le.mp g_5), eq_false c_6, eq_true (Int32.not_le.mp c_6), eq_false c_7, eq_true (Int32.not_le.mp c_7), q_8, ↓reduceIte]; done) | (rw [jsN]; simp only [eq_false g_5, eq_true (Int32.not_le.mp g_5), eq_false c_6, eq_true (Int32.not_le.mp c_6), eq_false c_7, eq_true (Int32.not_le.mp c_7), q_8, ↓reduceIte] <;> rfl) | rfl | (rw [jsN]; simp [g_5, c_6, c_7, q_8]; done)
          refine v_cong (es' := (wl D b sc ar hn mh G)) (lv' := [(4, .int (nI (i_5 + 1))), (0, .ref (b + 22)), (1, .ref (b + 26)), (2, .ref (b + 2)), (3, .int (jsN (ar 24) (sc 18) (sc 13) hv (ar 23) (i_5 + 1)))]) rfl (cg2 (fun (z0 : Int32) (z1 : Int32) => ([(4, .int z0), (0, .ref (b + 22)), (1, .ref (b + 26)), (2, .ref (b + 2)), (3, .int z1)] : List (Nat × Value))) e_9 e_10) ?_
          exact ih_5
        · obtain ⟨u8, hu8, hk8, hg8⟩ := hr.2.1 i_5 k8 dr8 ce8 sa8 q_8
          refine v_stk (st' := .ref (b + (u8 + 40)) :: []) (congrArg (fun z : Option Nat => va_rf (z.map (fun t => b + t)) :: []) hu8) ?_
          refine v_astore (n := 24) (lv' := [(5, .ref (b + (u8 + 40))), (4, .int (nI i_5)), (0, .ref (b + 22)), (1, .ref (b + 26)), (2, .ref (b + 2)), (3, .int (jsN (ar 24) (sc 18) (sc 13) hv (ar 23) i_5))]) C dX6_stranded_22 rfl (Nat.le_of_ble_eq_true rfl) rfl ?_
          refine v_aload (n := 26) C dX6_stranded_24 rfl rfl ?_
          refine v_ifnull (n := 29) C dX6_stranded_26 rfl ?_
          refine v_aload_n (n := 30) C dX6_stranded_29 rfl rfl rfl ?_
          refine v_aload (n := 32) C dX6_stranded_30 rfl rfl ?_
          refine v_aload_n (n := 33) C dX6_stranded_32 rfl rfl rfl ?_
          refine v_get (n := 36) C dX6_stranded_33 rfl fl_X6_9_X6 wl_c22 rfl ?_
          refine v_iload (n := 38) C dX6_stranded_36 rfl rfl ?_
          refine v_iald (n := 39) C dX6_stranded_38 rfl wl_c23 (nI_vp hi_5 (by decide) (by decide)) ?_
          refine v_stk (st' := .int ((ar 23) i_5) :: [.ref (b + (u8 + 40)), .ref (b + 26)]) (congrArg (fun z : Nat => Value.int ((ar 23) z) :: [.ref (b + (u8 + 40)), .ref (b + 26)]) (nI_clamp (show i_5 < 2 ^ 31 by omega))) ?_
          refine v_aload_n (n := 40) C dX6_stranded_39 rfl rfl rfl ?_
          refine v_get (n := 43) C dX6_stranded_40 rfl fl_X6_15_X6 wl_c22 rfl ?_
          refine v_go (n := 46) C (vRun_V (As := [.ref (b + (u8 + 40)), .int ((ar 23) i_5), .int (sc 13)]) (rest := []) C wl_c26 rfl lk_X6_43 im_X7_floats se_X7_floats dX6_stranded_43 (c_floats l D b (wl D b sc ar hn mh G) 26 24 (ar 24) (sc 18) (sc 19) wl_c26 wl_c24 (u8 + 40) k8 dr8 ce8 sa8 hk8 (wl_tail hg8) ((ar 23) i_5) (sc 13)) wm_X7_floats rfl rfl ⟨Nat.le_of_ble_eq_true rfl, Nat.le_of_ble_eq_true rfl⟩ ⟨Nat.le_of_ble_eq_true rfl, Nat.le_of_ble_eq_true rfl⟩ (Nat.le_of_ble_eq_true rfl)) rfl ?_
          rintro _ _ ⟨rfl, rfl⟩ -
          by_cases p_11 : flP (ar 24) (sc 18) k8 dr8 ((ar 23) i_5) (sc 13)
          · skip
            refine v_stk (st' := .int 1 :: []) (congrArg (fun z : Int32 => Value.int z :: []) (if_pos p_11 : (if flP (ar 24) (sc 18) k8 dr8 ((ar 23) i_5) (sc 13) then (1 : Int32) else 0) = 1)) ?_
            refine v_if_ne (t := 52) (n := 49) C dX6_stranded_46 (by decide) rfl (fun c_12 => ?_) (fun c_12 => ?_)
            · skip
              refine v_iinc (n := 55) (v := ((nI i_5) + 1)) (lv' := [(4, .int ((nI i_5) + 1)), (5, .ref (b + (u8 + 40))), (0, .ref (b + 22)), (1, .ref (b + 26)), (2, .ref (b + 2)), (3, .int (jsN (ar 24) (sc 18) (sc 13) hv (ar 23) i_5))]) C dX6_stranded_52 rfl rfl rfl (Nat.le_of_ble_eq_true rfl) rfl ?_
              refine v_goto (t := 5) C dX6_stranded_55 (by decide) ?_
              refine v_pick (lv' := [(4, .int ((nI i_5) + 1)), (0, .ref (b + 22)), (1, .ref (b + 26)), (2, .ref (b + 2)), (3, .int (jsN (ar 24) (sc 18) (sc 13) hv (ar 23) i_5))]) [0, 2, 3, 4, 5] rfl ?_
              have e_13 : ((nI i_5) + 1) = (nI (i_5 + 1)) := nI_1 _
              have e_14 : ((jsN (ar 24) (sc 18) (sc 13) hv (ar 23) i_5) : Int32) = (jsN (ar 24) (sc 18) (sc 13) hv (ar 23) (i_5 + 1)) := by first | (rw [jsN]; done) | (rw [jsN]; simp only [if_neg g_5, if_pos (Int32.not_le.mp g_5), if_neg c_6, if_pos (Int32.not_le.mp c_6), if_neg c_7, if_pos (Int32.not_le.mp c_7), q_8, if_pos p_11, if_neg c_12]; done) | (rw [jsN]; simp only [eq_false g_5, eq_true (Int32.not_le.mp g_5), eq_false c_6, eq_true (Int32.not_le.mp c_6), eq_false c_7, eq_true (Int32.not_le.mp c_7), q_8, eq_true p_11, eq_false c_12, ↓reduceIte]; done) | (rw [jsN]; simp only [eq_false g_5, eq_true (Int32.not_le.mp g_5), eq_false c_6, eq_true (Int32.not_le.mp c_6), eq_false c_7, eq_true (Int32.not_le.mp c_7), q_8, eq_true p_11, eq_false c_12, ↓reduceIte] <;> rfl) | rfl | (rw [jsN]; simp [g_5, c_6, c_7, q_8, p_11, c_12]; done)
              refine v_cong (es' := (wl D b sc ar hn mh G)) (lv' := [(4, .int (nI (i_5 + 1))), (0, .ref (b + 22)), (1, .ref (b + 26)), (2, .ref (b + 2)), (3, .int (jsN (ar 24) (sc 18) (sc 13) hv (ar 23) (i_5 + 1)))]) rfl (cg2 (fun (z0 : Int32) (z1 : Int32) => ([(4, .int z0), (0, .ref (b + 22)), (1, .ref (b + 26)), (2, .ref (b + 2)), (3, .int z1)] : List (Nat × Value))) e_13 e_14) ?_
              exact ih_5
            · exact absurd c_12 (by decide)
          · skip
            refine v_stk (st' := .int 0 :: []) (congrArg (fun z : Int32 => Value.int z :: []) (if_neg p_11 : (if flP (ar 24) (sc 18) k8 dr8 ((ar 23) i_5) (sc 13) then (1 : Int32) else 0) = 0)) ?_
            refine v_if_ne (t := 52) (n := 49) C dX6_stranded_46 (by decide) rfl (fun c_15 => ?_) (fun c_15 => ?_)
            · exact absurd c_15 (by decide)
            · skip
              refine v_iinc (n := 52) (v := ((jsN (ar 24) (sc 18) (sc 13) hv (ar 23) i_5) + 1)) (lv' := [(3, .int ((jsN (ar 24) (sc 18) (sc 13) hv (ar 23) i_5) + 1)), (5, .ref (b + (u8 + 40))), (4, .int (nI i_5)), (0, .ref (b + 22)), (1, .ref (b + 26)), (2, .ref (b + 2))]) C dX6_stranded_49 rfl rfl rfl (Nat.le_of_ble_eq_true rfl) rfl ?_
              refine v_iinc (n := 55) (v := ((nI i_5) + 1)) (lv' := [(4, .int ((nI i_5) + 1)), (3, .int ((jsN (ar 24) (sc 18) (sc 13) hv (ar 23) i_5) + 1)), (5, .ref (b + (u8 + 40))), (0, .ref (b + 22)), (1, .ref (b + 26)), (2, .ref (b + 2))]) C dX6_stranded_52 rfl rfl rfl (Nat.le_of_ble_eq_true rfl) rfl ?_
              refine v_goto (t := 5) C dX6_stranded_55 (by decide) ?_
              refine v_pick (lv' := [(4, .int ((nI i_5) + 1)), (0, .ref (b + 22)), (1, .ref (b + 26)), (2, .ref (b + 2)), (3, .int ((jsN (ar 24) (sc 18) (sc 13) hv (ar 23) i_5) + 1))]) [0, 3, 4, 5, 1] rfl ?_
              have e_16 : ((nI i_5) + 1) = (nI (i_5 + 1)) := nI_1 _
              have e_17 : (((jsN (ar 24) (sc 18) (sc 13) hv (ar 23) i_5) + 1) : Int32) = (jsN (ar 24) (sc 18) (sc 13) hv (ar 23) (i_5 + 1)) := by first | (rw [jsN]; done) | (rw [jsN]; simp only [if_neg g_5, if_pos (Int32.not_le.mp g_5), if_neg c_6, if_pos (Int32.not_le.mp c_6), if_neg c_7, if_pos (Int32.not_le.mp c_7), q_8, if_neg p_11, if_pos c_15]; done) | (rw [jsN]; simp only [eq_false g_5, eq_true (Int32.not_le.mp g_5), eq_false c_6, eq_true (Int32.not_le.mp c_6), eq_false c_7, eq_true (Int32.not_le.mp c_7), q_8, eq_false p_11, eq_true c_15, ↓reduceIte]; done) | (rw [jsN]; simp only [eq_false g_5, eq_true (Int32.not_le.mp g_5), eq_false c_6, eq_true (Int32.not_le.mp c_6), eq_false c_7, eq_true (Int32.not_le.mp c_7), q_8, eq_false p_11, eq_true c_15, ↓reduceIte] <;> rfl) | rfl | (rw [jsN]; simp [g_5, c_6, c_7, q_8, p_11, c_15]; done)
              refine v_cong (es' := (wl D b sc ar hn mh G)) (lv' := [(4, .int (nI (i_5 + 1))), (0, .ref (b + 22)), (1, .ref (b + 26)), (2, .ref (b + 2)), (3, .int (jsN (ar 24) (sc 18) (sc 13) hv (ar 23) (i_5 + 1)))]) rfl (cg2 (fun (z0 : Int32) (z1 : Int32) => ([(4, .int z0), (0, .ref (b + 22)), (1, .ref (b + 26)), (2, .ref (b + 2)), (3, .int z1)] : List (Nat × Value))) e_16 e_17) ?_
              exact ih_5
