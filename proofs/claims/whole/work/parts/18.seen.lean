def hmA (w : Int32) : Int32 := if w < 10 then 0 else if w < 13 then 1 else 0
def hmR (sc : Nat → Int32) (n : Int32 × Int32 × Int32 × HF) (w : Int32) : Int32 := if hmA w = 0 then (if w = 0 then n.1 else n.2.1) else if w - 10 < sc 2 then nuF n.2.2.1 (w - 10) else -1
def homF (sc : Nat → Int32) (ar : Nat → Nat → Int32) (hv : HV) (x w : Int32) : Int32 := if sc 16 ≤ 0 then -101 else if x < 0 then -101 else if 12 ≤ x then -101 else
  if w = 0 then hmR sc (hmN (ar 24) (sc 16) (sc 17) hv x (sc 3) (ar 19, ar 20) 6) w else if w = 1 then hmR sc (hmN (ar 24) (sc 16) (sc 17) hv x (sc 3) (ar 19, ar 20) 6) w else
  if hmA w = 0 then -102 else hmR sc (hmN (ar 24) (sc 16) (sc 17) hv x (sc 3) (ar 19, ar 20) 6) w
set_option maxHeartbeats 4000000 in
set_option maxRecDepth 100000 in
theorem c_home (l : Launch) (D : va_G) (b : Nat) (sc : Nat → Int32) (ar : Nat → Nat → Int32) (hn : Nat → Option Nat) (mh : Int64) (G : List va_E) (x w : Int32) (hv : HV) (hr : HVr hn G hv) : Con l yX11_home cX11_home 4 (some .int) 6 155 D b 0 0 (wl D b sc ar hn mh G) [.ref (b + 0), .int x, .int w] (fun r es' => r = some (.int (homF sc ar hv x w)) ∧ ∃ sc' ar', Per sc ar sc' ar' ∧ wl D b sc' ar' hn mh G = es') := by
  refine con_of (by decide) (Nat.le_of_ble_eq_true rfl) (fun p e s m args below meth c C hsz => ?_)
  have C : vC p s m args meth c cX11_home 4 RX11 "home" (some .int) D b := C
  change V p l e _ s m args below meth c D b 4 _ 0 0 (wl D b sc ar hn mh G) [(0, .ref (b + 0)), (1, .int x), (2, .int w)] [] 0
  refine v_aload_n (n := 1) C dX11_home_0 rfl rfl rfl ?_
  refine v_iload_n (n := 2) C dX11_home_1 rfl rfl rfl ?_
  refine v_go (n := 5) C (vRun_V (As := [.int x]) (rest := []) C wl_c0 rfl lk_X11_102 im_X11_isThere se_X11_isThere dX11_home_2 (c_isThere l D b sc ar hn mh G x) wm_X11_isThere rfl rfl ⟨Nat.le_of_ble_eq_true rfl, Nat.le_of_ble_eq_true rfl⟩ ⟨Nat.le_of_ble_eq_true rfl, Nat.le_of_ble_eq_true rfl⟩ (Nat.le_of_ble_eq_true rfl)) rfl ?_
  rintro _ _ ⟨rfl, rfl⟩ -
  by_cases p_1 : (sc 16) ≤ 0
  · skip
    refine v_stk (st' := .int 0 :: []) (congrArg (fun z : Int32 => Value.int z :: []) (show thF (sc 16) x = 0 by simp only [thF, icF, if_pos p_1])) ?_
    refine v_if_ne (t := 11) (n := 8) C dX11_home_5 (by decide) rfl (fun c_2 => ?_) (fun c_2 => ?_)
    · exact absurd c_2 (by decide)
    · skip
      refine v_bipush (n := 10) (v := -101) C dX11_home_8 rfl (by decide) ?_
      exact v_iret C dX11_home_10 rfl rfl ⟨by first | (simp only [homF, hmR, hmA, if_pos p_1, if_neg (Int32.not_lt.mpr p_1), if_pos c_2]; done) | (simp only [homF, hmR, hmA, eq_true p_1, eq_false (Int32.not_lt.mpr p_1), eq_true c_2, ↓reduceIte]; done) | (simp only [homF, hmR, hmA, eq_true p_1, eq_false (Int32.not_lt.mpr p_1), eq_true c_2, ↓reduceIte] <;> rfl) | (simp [homF, hmR, hmA, p_1, c_2]; done), sc, ar, Per_rf, rfl⟩
  by_cases p_3 : x < 0
  · skip
    refine v_stk (st' := .int 0 :: []) (congrArg (fun z : Int32 => Value.int z :: []) (show thF (sc 16) x = 0 by simp only [thF, icF, if_neg p_1, if_pos p_3])) ?_
    refine v_if_ne (t := 11) (n := 8) C dX11_home_5 (by decide) rfl (fun c_4 => ?_) (fun c_4 => ?_)
    · exact absurd c_4 (by decide)
    · skip
      refine v_bipush (n := 10) (v := -101) C dX11_home_8 rfl (by decide) ?_
      exact v_iret C dX11_home_10 rfl rfl ⟨by first | (simp only [homF, hmR, hmA, if_neg p_1, if_pos (Int32.not_le.mp p_1), if_pos p_3, if_neg (Int32.not_le.mpr p_3), if_pos c_4]; done) | (simp only [homF, hmR, hmA, eq_false p_1, eq_true (Int32.not_le.mp p_1), eq_true p_3, eq_false (Int32.not_le.mpr p_3), eq_true c_4, ↓reduceIte]; done) | (simp only [homF, hmR, hmA, eq_false p_1, eq_true (Int32.not_le.mp p_1), eq_true p_3, eq_false (Int32.not_le.mpr p_3), eq_true c_4, ↓reduceIte] <;> rfl) | (simp [homF, hmR, hmA, p_1, p_3, c_4]; done), sc, ar, Per_rf, rfl⟩
  by_cases p_5 : 12 ≤ x
  · skip
    refine v_stk (st' := .int 0 :: []) (congrArg (fun z : Int32 => Value.int z :: []) (show thF (sc 16) x = 0 by simp only [thF, icF, if_neg p_1, if_neg p_3, if_pos p_5])) ?_
    refine v_if_ne (t := 11) (n := 8) C dX11_home_5 (by decide) rfl (fun c_6 => ?_) (fun c_6 => ?_)
    · exact absurd c_6 (by decide)
    · skip
      refine v_bipush (n := 10) (v := -101) C dX11_home_8 rfl (by decide) ?_
      exact v_iret C dX11_home_10 rfl rfl ⟨by first | (simp only [homF, hmR, hmA, if_neg p_1, if_pos (Int32.not_le.mp p_1), if_neg p_3, if_pos (Int32.not_lt.mp p_3), if_pos p_5, if_neg (Int32.not_lt.mpr p_5), if_pos c_6]; done) | (simp only [homF, hmR, hmA, eq_false p_1, eq_true (Int32.not_le.mp p_1), eq_false p_3, eq_true (Int32.not_lt.mp p_3), eq_true p_5, eq_false (Int32.not_lt.mpr p_5), eq_true c_6, ↓reduceIte]; done) | (simp only [homF, hmR, hmA, eq_false p_1, eq_true (Int32.not_le.mp p_1), eq_false p_3, eq_true (Int32.not_lt.mp p_3), eq_true p_5, eq_false (Int32.not_lt.mpr p_5), eq_true c_6, ↓reduceIte] <;> rfl) | (simp [homF, hmR, hmA, p_1, p_3, p_5, c_6]; done), sc, ar, Per_rf, rfl⟩
  refine v_stk (st' := .int 1 :: []) (congrArg (fun z : Int32 => Value.int z :: []) (show thF (sc 16) x = 1 by simp only [thF, icF, if_neg p_1, if_neg p_3, if_neg p_5])) ?_
  refine v_if_ne (t := 11) (n := 8) C dX11_home_5 (by decide) rfl (fun c_7 => ?_) (fun c_7 => ?_)
  · skip
    refine v_iload_n (n := 12) C dX11_home_11 rfl rfl rfl ?_
    refine v_bipush (n := 14) (v := 10) C dX11_home_12 rfl (by decide) ?_
    refine v_icmp_lt (t := 27) (n := 17) C dX11_home_14 (by decide) rfl (fun c_8 => ?_) (fun c_8 => ?_)
    · skip
      refine v_iconst (n := 28) (v := 0) C dX11_home_27 rfl (by decide) ?_
      refine v_istore_n (n := 29) (lv' := [(3, .int 0), (0, .ref (b + 0)), (1, .int x), (2, .int w)]) C dX11_home_28 rfl rfl (Nat.le_of_ble_eq_true rfl) rfl ?_
      refine v_iload_n (n := 30) C dX11_home_29 rfl rfl rfl ?_
      refine v_if_eq (t := 45) (n := 33) C dX11_home_30 (by decide) rfl (fun c_9 => ?_) (fun c_9 => ?_)
      · skip
        refine v_aload_n (n := 46) C dX11_home_45 rfl rfl rfl ?_
        refine v_get (n := 49) C dX11_home_46 rfl fl_X11_43_X11 wl_c0 rfl ?_
        refine v_aload_n (n := 50) C dX11_home_49 rfl rfl rfl ?_
        refine v_get (n := 53) C dX11_home_50 rfl fl_X11_59_X11 wl_c0 rfl ?_
        refine v_aload_n (n := 54) C dX11_home_53 rfl rfl rfl ?_
        refine v_get (n := 57) C dX11_home_54 rfl fl_X11_36_X11 wl_c0 rfl ?_
        refine v_aload_n (n := 58) C dX11_home_57 rfl rfl rfl ?_
        refine v_get (n := 61) C dX11_home_58 rfl fl_X11_15_X11 wl_c0 rfl ?_
        refine v_iload_n (n := 62) C dX11_home_61 rfl rfl rfl ?_
        refine v_aload_n (n := 63) C dX11_home_62 rfl rfl rfl ?_
        refine v_get (n := 66) C dX11_home_63 rfl fl_X11_106_X11 wl_c0 rfl ?_
        refine v_go (n := 69) C (vRun_V (As := [.ref (b + 25), .ref (b + 18), .ref (b + 2), .int x, .int (sc 3)]) (rest := []) C wl_c21 rfl lk_X11_174 im_X3_find se_X3_find dX11_home_66 (c_find l D b sc ar hn mh G x (sc 3) hv hr) wm_X3_find rfl rfl ⟨Nat.le_of_ble_eq_true rfl, Nat.le_of_ble_eq_true rfl⟩ ⟨Nat.le_of_ble_eq_true rfl, Nat.le_of_ble_eq_true rfl⟩ (Nat.le_of_ble_eq_true rfl)) rfl ?_
        rintro _ _ ⟨rfl, rfl⟩ -
        refine v_iload_n (n := 70) C dX11_home_69 rfl rfl rfl ?_
        refine v_if_eq (t := 100) (n := 73) C dX11_home_70 (by decide) rfl (fun c_10 => ?_) (fun c_10 => ?_)
        · skip
          refine v_iload_n (n := 101) C dX11_home_100 rfl rfl rfl ?_
          refine v_if_ne (t := 114) (n := 104) C dX11_home_101 (by decide) rfl (fun c_11 => ?_) (fun c_11 => ?_)
          · first | exact absurd c_11 c_9 | exact absurd c_9 c_11 | exact absurd c_11 (Int32.not_le.mpr c_9) | exact absurd c_11 (Int32.not_lt.mpr c_9) | exact absurd (Int32.not_le.mp c_9) c_11 | exact absurd (Int32.not_lt.mp c_9) c_11 | exact absurd (Int32.not_le.mp c_9) (Int32.not_lt.mpr c_11) | exact absurd (Int32.not_lt.mp c_9) (Int32.not_le.mpr c_11) | exact absurd (Int32.not_lt.mp c_11) (Int32.not_le.mpr (Int32.not_le.mp c_9))
          · skip
            refine v_aload_n (n := 105) C dX11_home_104 rfl rfl rfl ?_
            refine v_get (n := 108) C dX11_home_105 rfl fl_X11_43_X11 (show (wl D b (va_up (va_up (va_up sc 10 (hmN (ar 24) (sc 16) (sc 17) hv x (sc 3) ((ar 19), (ar 20)) 6).1) 11 (hmN (ar 24) (sc 16) (sc 17) hv x (sc 3) ((ar 19), (ar 20)) 6).2.1) 12 (hmN (ar 24) (sc 16) (sc 17) hv x (sc 3) ((ar 19), (ar 20)) 6).2.2.1) (va_up (va_up ar 19 ((hmN (ar 24) (sc 16) (sc 17) hv x (sc 3) ((ar 19), (ar 20)) 6).2.2.2).1) 20 ((hmN (ar 24) (sc 16) (sc 17) hv x (sc 3) ((ar 19), (ar 20)) 6).2.2.2).2) hn mh G)[0]? = some (.inr (11, [.ref (b + 1), .int (sc 0), .int (sc 1), .ref (b + 25), .ref (b + 26), .ref (b + 2), .int (sc 2), .int (sc 3), .ref (b + 3), .ref (b + 9), .ref (b + 18), .ref (b + 21), .ref (b + 22)])) from wl_c0) rfl ?_
            refine v_get (n := 111) C dX11_home_108 rfl fl_X11_181_X3 (show (wl D b (va_up (va_up (va_up sc 10 (hmN (ar 24) (sc 16) (sc 17) hv x (sc 3) ((ar 19), (ar 20)) 6).1) 11 (hmN (ar 24) (sc 16) (sc 17) hv x (sc 3) ((ar 19), (ar 20)) 6).2.1) 12 (hmN (ar 24) (sc 16) (sc 17) hv x (sc 3) ((ar 19), (ar 20)) 6).2.2.1) (va_up (va_up ar 19 ((hmN (ar 24) (sc 16) (sc 17) hv x (sc 3) ((ar 19), (ar 20)) 6).2.2.2).1) 20 ((hmN (ar 24) (sc 16) (sc 17) hv x (sc 3) ((ar 19), (ar 20)) 6).2.2.2).2) hn mh G)[21]? = some (.inr (3, [.int (hmN (ar 24) (sc 16) (sc 17) hv x (sc 3) ((ar 19), (ar 20)) 6).1, .int (hmN (ar 24) (sc 16) (sc 17) hv x (sc 3) ((ar 19), (ar 20)) 6).2.1, .int (hmN (ar 24) (sc 16) (sc 17) hv x (sc 3) ((ar 19), (ar 20)) 6).2.2.1])) from wl_c21) rfl ?_
            refine v_goto (t := 121) C dX11_home_111 (by decide) ?_
            exact v_iret C dX11_home_121 rfl rfl ⟨by first | (simp only [homF, hmR, hmA, if_neg p_1, if_pos (Int32.not_le.mp p_1), if_neg p_3, if_pos (Int32.not_lt.mp p_3), if_neg p_5, if_pos (Int32.not_le.mp p_5), if_neg c_7, if_pos c_8, if_neg (Int32.not_le.mpr c_8), if_pos c_9, if_pos c_10, if_pos c_11]; done) | (simp only [homF, hmR, hmA, eq_false p_1, eq_true (Int32.not_le.mp p_1), eq_false p_3, eq_true (Int32.not_lt.mp p_3), eq_false p_5, eq_true (Int32.not_le.mp p_5), eq_false c_7, eq_true c_8, eq_false (Int32.not_le.mpr c_8), eq_true c_9, eq_true c_10, eq_true c_11, ↓reduceIte]; done) | (simp only [homF, hmR, hmA, eq_false p_1, eq_true (Int32.not_le.mp p_1), eq_false p_3, eq_true (Int32.not_lt.mp p_3), eq_false p_5, eq_true (Int32.not_le.mp p_5), eq_false c_7, eq_true c_8, eq_false (Int32.not_le.mpr c_8), eq_true c_9, eq_true c_10, eq_true c_11, ↓reduceIte] <;> rfl) | (simp [homF, hmR, hmA, p_1, p_3, p_5, c_7, c_8, c_9, c_10, c_11]; done), (va_up (va_up (va_up sc 10 (hmN (ar 24) (sc 16) (sc 17) hv x (sc 3) ((ar 19), (ar 20)) 6).1) 11 (hmN (ar 24) (sc 16) (sc 17) hv x (sc 3) ((ar 19), (ar 20)) 6).2.1) 12 (hmN (ar 24) (sc 16) (sc 17) hv x (sc 3) ((ar 19), (ar 20)) 6).2.2.1), (va_up (va_up ar 19 ((hmN (ar 24) (sc 16) (sc 17) hv x (sc 3) ((ar 19), (ar 20)) 6).2.2.2).1) 20 ((hmN (ar 24) (sc 16) (sc 17) hv x (sc 3) ((ar 19), (ar 20)) 6).2.2.2).2), (Per_a (by decide) (Per_a (by decide) (Per_s (by decide) (Per_s (by decide) (Per_s (by decide) Per_rf))))), rfl⟩
        · exact absurd c_10 (by decide)
      · skip
        refine v_iload_n (n := 34) C dX11_home_33 rfl rfl rfl ?_
        refine v_iconst (n := 35) (v := 1) C dX11_home_34 rfl (by decide) ?_
        refine v_icmp_eq (t := 45) (n := 38) C dX11_home_35 (by decide) rfl (fun c_12 => ?_) (fun c_12 => ?_)
        · skip
          refine v_aload_n (n := 46) C dX11_home_45 rfl rfl rfl ?_
          refine v_get (n := 49) C dX11_home_46 rfl fl_X11_43_X11 wl_c0 rfl ?_
          refine v_aload_n (n := 50) C dX11_home_49 rfl rfl rfl ?_
          refine v_get (n := 53) C dX11_home_50 rfl fl_X11_59_X11 wl_c0 rfl ?_
          refine v_aload_n (n := 54) C dX11_home_53 rfl rfl rfl ?_
          refine v_get (n := 57) C dX11_home_54 rfl fl_X11_36_X11 wl_c0 rfl ?_
          refine v_aload_n (n := 58) C dX11_home_57 rfl rfl rfl ?_
          refine v_get (n := 61) C dX11_home_58 rfl fl_X11_15_X11 wl_c0 rfl ?_
          refine v_iload_n (n := 62) C dX11_home_61 rfl rfl rfl ?_
          refine v_aload_n (n := 63) C dX11_home_62 rfl rfl rfl ?_
          refine v_get (n := 66) C dX11_home_63 rfl fl_X11_106_X11 wl_c0 rfl ?_
          refine v_go (n := 69) C (vRun_V (As := [.ref (b + 25), .ref (b + 18), .ref (b + 2), .int x, .int (sc 3)]) (rest := []) C wl_c21 rfl lk_X11_174 im_X3_find se_X3_find dX11_home_66 (c_find l D b sc ar hn mh G x (sc 3) hv hr) wm_X3_find rfl rfl ⟨Nat.le_of_ble_eq_true rfl, Nat.le_of_ble_eq_true rfl⟩ ⟨Nat.le_of_ble_eq_true rfl, Nat.le_of_ble_eq_true rfl⟩ (Nat.le_of_ble_eq_true rfl)) rfl ?_
          rintro _ _ ⟨rfl, rfl⟩ -
          refine v_iload_n (n := 70) C dX11_home_69 rfl rfl rfl ?_
          refine v_if_eq (t := 100) (n := 73) C dX11_home_70 (by decide) rfl (fun c_13 => ?_) (fun c_13 => ?_)
          · skip
            refine v_iload_n (n := 101) C dX11_home_100 rfl rfl rfl ?_
            refine v_if_ne (t := 114) (n := 104) C dX11_home_101 (by decide) rfl (fun c_14 => ?_) (fun c_14 => ?_)
            · skip
              refine v_aload_n (n := 115) C dX11_home_114 rfl rfl rfl ?_
              refine v_get (n := 118) C dX11_home_115 rfl fl_X11_43_X11 (show (wl D b (va_up (va_up (va_up sc 10 (hmN (ar 24) (sc 16) (sc 17) hv x (sc 3) ((ar 19), (ar 20)) 6).1) 11 (hmN (ar 24) (sc 16) (sc 17) hv x (sc 3) ((ar 19), (ar 20)) 6).2.1) 12 (hmN (ar 24) (sc 16) (sc 17) hv x (sc 3) ((ar 19), (ar 20)) 6).2.2.1) (va_up (va_up ar 19 ((hmN (ar 24) (sc 16) (sc 17) hv x (sc 3) ((ar 19), (ar 20)) 6).2.2.2).1) 20 ((hmN (ar 24) (sc 16) (sc 17) hv x (sc 3) ((ar 19), (ar 20)) 6).2.2.2).2) hn mh G)[0]? = some (.inr (11, [.ref (b + 1), .int (sc 0), .int (sc 1), .ref (b + 25), .ref (b + 26), .ref (b + 2), .int (sc 2), .int (sc 3), .ref (b + 3), .ref (b + 9), .ref (b + 18), .ref (b + 21), .ref (b + 22)])) from wl_c0) rfl ?_
              refine v_get (n := 121) C dX11_home_118 rfl fl_X11_184_X3 (show (wl D b (va_up (va_up (va_up sc 10 (hmN (ar 24) (sc 16) (sc 17) hv x (sc 3) ((ar 19), (ar 20)) 6).1) 11 (hmN (ar 24) (sc 16) (sc 17) hv x (sc 3) ((ar 19), (ar 20)) 6).2.1) 12 (hmN (ar 24) (sc 16) (sc 17) hv x (sc 3) ((ar 19), (ar 20)) 6).2.2.1) (va_up (va_up ar 19 ((hmN (ar 24) (sc 16) (sc 17) hv x (sc 3) ((ar 19), (ar 20)) 6).2.2.2).1) 20 ((hmN (ar 24) (sc 16) (sc 17) hv x (sc 3) ((ar 19), (ar 20)) 6).2.2.2).2) hn mh G)[21]? = some (.inr (3, [.int (hmN (ar 24) (sc 16) (sc 17) hv x (sc 3) ((ar 19), (ar 20)) 6).1, .int (hmN (ar 24) (sc 16) (sc 17) hv x (sc 3) ((ar 19), (ar 20)) 6).2.1, .int (hmN (ar 24) (sc 16) (sc 17) hv x (sc 3) ((ar 19), (ar 20)) 6).2.2.1])) from wl_c21) rfl ?_
              exact v_iret C dX11_home_121 rfl rfl ⟨by first | (simp only [homF, hmR, hmA, if_neg p_1, if_pos (Int32.not_le.mp p_1), if_neg p_3, if_pos (Int32.not_lt.mp p_3), if_neg p_5, if_pos (Int32.not_le.mp p_5), if_neg c_7, if_pos c_8, if_neg (Int32.not_le.mpr c_8), if_neg c_9, if_pos c_12, if_pos c_13, if_neg c_14]; done) | (simp only [homF, hmR, hmA, eq_false p_1, eq_true (Int32.not_le.mp p_1), eq_false p_3, eq_true (Int32.not_lt.mp p_3), eq_false p_5, eq_true (Int32.not_le.mp p_5), eq_false c_7, eq_true c_8, eq_false (Int32.not_le.mpr c_8), eq_false c_9, eq_true c_12, eq_true c_13, eq_false c_14, ↓reduceIte]; done) | (simp only [homF, hmR, hmA, eq_false p_1, eq_true (Int32.not_le.mp p_1), eq_false p_3, eq_true (Int32.not_lt.mp p_3), eq_false p_5, eq_true (Int32.not_le.mp p_5), eq_false c_7, eq_true c_8, eq_false (Int32.not_le.mpr c_8), eq_false c_9, eq_true c_12, eq_true c_13, eq_false c_14, ↓reduceIte] <;> rfl) | (simp [homF, hmR, hmA, p_1, p_3, p_5, c_7, c_8, c_9, c_12, c_13, c_14]; done), (va_up (va_up (va_up sc 10 (hmN (ar 24) (sc 16) (sc 17) hv x (sc 3) ((ar 19), (ar 20)) 6).1) 11 (hmN (ar 24) (sc 16) (sc 17) hv x (sc 3) ((ar 19), (ar 20)) 6).2.1) 12 (hmN (ar 24) (sc 16) (sc 17) hv x (sc 3) ((ar 19), (ar 20)) 6).2.2.1), (va_up (va_up ar 19 ((hmN (ar 24) (sc 16) (sc 17) hv x (sc 3) ((ar 19), (ar 20)) 6).2.2.2).1) 20 ((hmN (ar 24) (sc 16) (sc 17) hv x (sc 3) ((ar 19), (ar 20)) 6).2.2.2).2), (Per_a (by decide) (Per_a (by decide) (Per_s (by decide) (Per_s (by decide) (Per_s (by decide) Per_rf))))), rfl⟩
            · first | exact absurd c_14 c_9 | exact absurd c_9 c_14 | exact absurd c_14 (Int32.not_le.mpr c_9) | exact absurd c_14 (Int32.not_lt.mpr c_9) | exact absurd (Int32.not_le.mp c_9) c_14 | exact absurd (Int32.not_lt.mp c_9) c_14 | exact absurd (Int32.not_le.mp c_9) (Int32.not_lt.mpr c_14) | exact absurd (Int32.not_lt.mp c_9) (Int32.not_le.mpr c_14) | exact absurd (Int32.not_lt.mp c_14) (Int32.not_le.mpr (Int32.not_le.mp c_9))
          · exact absurd c_13 (by decide)
        · skip
          refine v_iload_n (n := 39) C dX11_home_38 rfl rfl rfl ?_
          refine v_if_ne (t := 45) (n := 42) C dX11_home_39 (by decide) rfl (fun c_15 => ?_) (fun c_15 => ?_)
          · exact absurd c_15 (by decide)
          · skip
            refine v_bipush (n := 44) (v := -102) C dX11_home_42 rfl (by decide) ?_
            exact v_iret C dX11_home_44 rfl rfl ⟨by first | (simp only [homF, hmR, hmA, if_neg p_1, if_pos (Int32.not_le.mp p_1), if_neg p_3, if_pos (Int32.not_lt.mp p_3), if_neg p_5, if_pos (Int32.not_le.mp p_5), if_neg c_7, if_pos c_8, if_neg (Int32.not_le.mpr c_8), if_neg c_9, if_neg c_12, if_pos c_15]; done) | (simp only [homF, hmR, hmA, eq_false p_1, eq_true (Int32.not_le.mp p_1), eq_false p_3, eq_true (Int32.not_lt.mp p_3), eq_false p_5, eq_true (Int32.not_le.mp p_5), eq_false c_7, eq_true c_8, eq_false (Int32.not_le.mpr c_8), eq_false c_9, eq_false c_12, eq_true c_15, ↓reduceIte]; done) | (simp only [homF, hmR, hmA, eq_false p_1, eq_true (Int32.not_le.mp p_1), eq_false p_3, eq_true (Int32.not_lt.mp p_3), eq_false p_5, eq_true (Int32.not_le.mp p_5), eq_false c_7, eq_true c_8, eq_false (Int32.not_le.mpr c_8), eq_false c_9, eq_false c_12, eq_true c_15, ↓reduceIte] <;> rfl) | (simp [homF, hmR, hmA, p_1, p_3, p_5, c_7, c_8, c_9, c_12, c_15]; done), sc, ar, Per_rf, rfl⟩
    · skip
      refine v_iload_n (n := 18) C dX11_home_17 rfl rfl rfl ?_
      refine v_bipush (n := 20) (v := 13) C dX11_home_18 rfl (by decide) ?_
      refine v_icmp_ge (t := 27) (n := 23) C dX11_home_20 (by decide) rfl (fun c_16 => ?_) (fun c_16 => ?_)
      · skip
        refine v_iconst (n := 28) (v := 0) C dX11_home_27 rfl (by decide) ?_
        refine v_istore_n (n := 29) (lv' := [(3, .int 0), (0, .ref (b + 0)), (1, .int x), (2, .int w)]) C dX11_home_28 rfl rfl (Nat.le_of_ble_eq_true rfl) rfl ?_
        refine v_iload_n (n := 30) C dX11_home_29 rfl rfl rfl ?_
        refine v_if_eq (t := 45) (n := 33) C dX11_home_30 (by decide) rfl (fun c_17 => ?_) (fun c_17 => ?_)
        · skip
          refine v_aload_n (n := 46) C dX11_home_45 rfl rfl rfl ?_
          refine v_get (n := 49) C dX11_home_46 rfl fl_X11_43_X11 wl_c0 rfl ?_
          refine v_aload_n (n := 50) C dX11_home_49 rfl rfl rfl ?_
          refine v_get (n := 53) C dX11_home_50 rfl fl_X11_59_X11 wl_c0 rfl ?_
          refine v_aload_n (n := 54) C dX11_home_53 rfl rfl rfl ?_
          refine v_get (n := 57) C dX11_home_54 rfl fl_X11_36_X11 wl_c0 rfl ?_
          refine v_aload_n (n := 58) C dX11_home_57 rfl rfl rfl ?_
          refine v_get (n := 61) C dX11_home_58 rfl fl_X11_15_X11 wl_c0 rfl ?_
          refine v_iload_n (n := 62) C dX11_home_61 rfl rfl rfl ?_
          refine v_aload_n (n := 63) C dX11_home_62 rfl rfl rfl ?_
          refine v_get (n := 66) C dX11_home_63 rfl fl_X11_106_X11 wl_c0 rfl ?_
          refine v_go (n := 69) C (vRun_V (As := [.ref (b + 25), .ref (b + 18), .ref (b + 2), .int x, .int (sc 3)]) (rest := []) C wl_c21 rfl lk_X11_174 im_X3_find se_X3_find dX11_home_66 (c_find l D b sc ar hn mh G x (sc 3) hv hr) wm_X3_find rfl rfl ⟨Nat.le_of_ble_eq_true rfl, Nat.le_of_ble_eq_true rfl⟩ ⟨Nat.le_of_ble_eq_true rfl, Nat.le_of_ble_eq_true rfl⟩ (Nat.le_of_ble_eq_true rfl)) rfl ?_
          rintro _ _ ⟨rfl, rfl⟩ -
          refine v_iload_n (n := 70) C dX11_home_69 rfl rfl rfl ?_
          refine v_if_eq (t := 100) (n := 73) C dX11_home_70 (by decide) rfl (fun c_18 => ?_) (fun c_18 => ?_)
          · skip
            refine v_iload_n (n := 101) C dX11_home_100 rfl rfl rfl ?_
            refine v_if_ne (t := 114) (n := 104) C dX11_home_101 (by decide) rfl (fun c_19 => ?_) (fun c_19 => ?_)
            · first | exact absurd c_19 c_17 | exact absurd c_17 c_19 | exact absurd c_19 (Int32.not_le.mpr c_17) | exact absurd c_19 (Int32.not_lt.mpr c_17) | exact absurd (Int32.not_le.mp c_17) c_19 | exact absurd (Int32.not_lt.mp c_17) c_19 | exact absurd (Int32.not_le.mp c_17) (Int32.not_lt.mpr c_19) | exact absurd (Int32.not_lt.mp c_17) (Int32.not_le.mpr c_19) | exact absurd (Int32.not_lt.mp c_19) (Int32.not_le.mpr (Int32.not_le.mp c_17))
            · skip
              refine v_aload_n (n := 105) C dX11_home_104 rfl rfl rfl ?_
              refine v_get (n := 108) C dX11_home_105 rfl fl_X11_43_X11 (show (wl D b (va_up (va_up (va_up sc 10 (hmN (ar 24) (sc 16) (sc 17) hv x (sc 3) ((ar 19), (ar 20)) 6).1) 11 (hmN (ar 24) (sc 16) (sc 17) hv x (sc 3) ((ar 19), (ar 20)) 6).2.1) 12 (hmN (ar 24) (sc 16) (sc 17) hv x (sc 3) ((ar 19), (ar 20)) 6).2.2.1) (va_up (va_up ar 19 ((hmN (ar 24) (sc 16) (sc 17) hv x (sc 3) ((ar 19), (ar 20)) 6).2.2.2).1) 20 ((hmN (ar 24) (sc 16) (sc 17) hv x (sc 3) ((ar 19), (ar 20)) 6).2.2.2).2) hn mh G)[0]? = some (.inr (11, [.ref (b + 1), .int (sc 0), .int (sc 1), .ref (b + 25), .ref (b + 26), .ref (b + 2), .int (sc 2), .int (sc 3), .ref (b + 3), .ref (b + 9), .ref (b + 18), .ref (b + 21), .ref (b + 22)])) from wl_c0) rfl ?_
              refine v_get (n := 111) C dX11_home_108 rfl fl_X11_181_X3 (show (wl D b (va_up (va_up (va_up sc 10 (hmN (ar 24) (sc 16) (sc 17) hv x (sc 3) ((ar 19), (ar 20)) 6).1) 11 (hmN (ar 24) (sc 16) (sc 17) hv x (sc 3) ((ar 19), (ar 20)) 6).2.1) 12 (hmN (ar 24) (sc 16) (sc 17) hv x (sc 3) ((ar 19), (ar 20)) 6).2.2.1) (va_up (va_up ar 19 ((hmN (ar 24) (sc 16) (sc 17) hv x (sc 3) ((ar 19), (ar 20)) 6).2.2.2).1) 20 ((hmN (ar 24) (sc 16) (sc 17) hv x (sc 3) ((ar 19), (ar 20)) 6).2.2.2).2) hn mh G)[21]? = some (.inr (3, [.int (hmN (ar 24) (sc 16) (sc 17) hv x (sc 3) ((ar 19), (ar 20)) 6).1, .int (hmN (ar 24) (sc 16) (sc 17) hv x (sc 3) ((ar 19), (ar 20)) 6).2.1, .int (hmN (ar 24) (sc 16) (sc 17) hv x (sc 3) ((ar 19), (ar 20)) 6).2.2.1])) from wl_c21) rfl ?_
              refine v_goto (t := 121) C dX11_home_111 (by decide) ?_
              exact v_iret C dX11_home_121 rfl rfl ⟨by first | (simp only [homF, hmR, hmA, if_neg p_1, if_pos (Int32.not_le.mp p_1), if_neg p_3, if_pos (Int32.not_lt.mp p_3), if_neg p_5, if_pos (Int32.not_le.mp p_5), if_neg c_7, if_neg c_8, if_pos (Int32.not_lt.mp c_8), if_pos c_16, if_neg (Int32.not_lt.mpr c_16), if_pos c_17, if_pos c_18, if_pos c_19]; done) | (simp only [homF, hmR, hmA, eq_false p_1, eq_true (Int32.not_le.mp p_1), eq_false p_3, eq_true (Int32.not_lt.mp p_3), eq_false p_5, eq_true (Int32.not_le.mp p_5), eq_false c_7, eq_false c_8, eq_true (Int32.not_lt.mp c_8), eq_true c_16, eq_false (Int32.not_lt.mpr c_16), eq_true c_17, eq_true c_18, eq_true c_19, ↓reduceIte]; done) | (simp only [homF, hmR, hmA, eq_false p_1, eq_true (Int32.not_le.mp p_1), eq_false p_3, eq_true (Int32.not_lt.mp p_3), eq_false p_5, eq_true (Int32.not_le.mp p_5), eq_false c_7, eq_false c_8, eq_true (Int32.not_lt.mp c_8), eq_true c_16, eq_false (Int32.not_lt.mpr c_16), eq_true c_17, eq_true c_18, eq_true c_19, ↓reduceIte] <;> rfl) | (simp [homF, hmR, hmA, p_1, p_3, p_5, c_7, c_8, c_16, c_17, c_18, c_19]; done), (va_up (va_up (va_up sc 10 (hmN (ar 24) (sc 16) (sc 17) hv x (sc 3) ((ar 19), (ar 20)) 6).1) 11 (hmN (ar 24) (sc 16) (sc 17) hv x (sc 3) ((ar 19), (ar 20)) 6).2.1) 12 (hmN (ar 24) (sc 16) (sc 17) hv x (sc 3) ((ar 19), (ar 20)) 6).2.2.1), (va_up (va_up ar 19 ((hmN (ar 24) (sc 16) (sc 17) hv x (sc 3) ((ar 19), (ar 20)) 6).2.2.2).1) 20 ((hmN (ar 24) (sc 16) (sc 17) hv x (sc 3) ((ar 19), (ar 20)) 6).2.2.2).2), (Per_a (by decide) (Per_a (by decide) (Per_s (by decide) (Per_s (by decide) (Per_s (by decide) Per_rf))))), rfl⟩
          · exact absurd c_18 (by decide)
        · skip
          refine v_iload_n (n := 34) C dX11_home_33 rfl rfl rfl ?_
          refine v_iconst (n := 35) (v := 1) C dX11_home_34 rfl (by decide) ?_
          refine v_icmp_eq (t := 45) (n := 38) C dX11_home_35 (by decide) rfl (fun c_20 => ?_) (fun c_20 => ?_)
          · skip
            refine v_aload_n (n := 46) C dX11_home_45 rfl rfl rfl ?_
            refine v_get (n := 49) C dX11_home_46 rfl fl_X11_43_X11 wl_c0 rfl ?_
            refine v_aload_n (n := 50) C dX11_home_49 rfl rfl rfl ?_
            refine v_get (n := 53) C dX11_home_50 rfl fl_X11_59_X11 wl_c0 rfl ?_
            refine v_aload_n (n := 54) C dX11_home_53 rfl rfl rfl ?_
            refine v_get (n := 57) C dX11_home_54 rfl fl_X11_36_X11 wl_c0 rfl ?_
            refine v_aload_n (n := 58) C dX11_home_57 rfl rfl rfl ?_
            refine v_get (n := 61) C dX11_home_58 rfl fl_X11_15_X11 wl_c0 rfl ?_
            refine v_iload_n (n := 62) C dX11_home_61 rfl rfl rfl ?_
            refine v_aload_n (n := 63) C dX11_home_62 rfl rfl rfl ?_
            refine v_get (n := 66) C dX11_home_63 rfl fl_X11_106_X11 wl_c0 rfl ?_
            refine v_go (n := 69) C (vRun_V (As := [.ref (b + 25), .ref (b + 18), .ref (b + 2), .int x, .int (sc 3)]) (rest := []) C wl_c21 rfl lk_X11_174 im_X3_find se_X3_find dX11_home_66 (c_find l D b sc ar hn mh G x (sc 3) hv hr) wm_X3_find rfl rfl ⟨Nat.le_of_ble_eq_true rfl, Nat.le_of_ble_eq_true rfl⟩ ⟨Nat.le_of_ble_eq_true rfl, Nat.le_of_ble_eq_true rfl⟩ (Nat.le_of_ble_eq_true rfl)) rfl ?_
            rintro _ _ ⟨rfl, rfl⟩ -
            refine v_iload_n (n := 70) C dX11_home_69 rfl rfl rfl ?_
            refine v_if_eq (t := 100) (n := 73) C dX11_home_70 (by decide) rfl (fun c_21 => ?_) (fun c_21 => ?_)
            · skip
              refine v_iload_n (n := 101) C dX11_home_100 rfl rfl rfl ?_
              refine v_if_ne (t := 114) (n := 104) C dX11_home_101 (by decide) rfl (fun c_22 => ?_) (fun c_22 => ?_)
              · skip
                refine v_aload_n (n := 115) C dX11_home_114 rfl rfl rfl ?_
                refine v_get (n := 118) C dX11_home_115 rfl fl_X11_43_X11 (show (wl D b (va_up (va_up (va_up sc 10 (hmN (ar 24) (sc 16) (sc 17) hv x (sc 3) ((ar 19), (ar 20)) 6).1) 11 (hmN (ar 24) (sc 16) (sc 17) hv x (sc 3) ((ar 19), (ar 20)) 6).2.1) 12 (hmN (ar 24) (sc 16) (sc 17) hv x (sc 3) ((ar 19), (ar 20)) 6).2.2.1) (va_up (va_up ar 19 ((hmN (ar 24) (sc 16) (sc 17) hv x (sc 3) ((ar 19), (ar 20)) 6).2.2.2).1) 20 ((hmN (ar 24) (sc 16) (sc 17) hv x (sc 3) ((ar 19), (ar 20)) 6).2.2.2).2) hn mh G)[0]? = some (.inr (11, [.ref (b + 1), .int (sc 0), .int (sc 1), .ref (b + 25), .ref (b + 26), .ref (b + 2), .int (sc 2), .int (sc 3), .ref (b + 3), .ref (b + 9), .ref (b + 18), .ref (b + 21), .ref (b + 22)])) from wl_c0) rfl ?_
                refine v_get (n := 121) C dX11_home_118 rfl fl_X11_184_X3 (show (wl D b (va_up (va_up (va_up sc 10 (hmN (ar 24) (sc 16) (sc 17) hv x (sc 3) ((ar 19), (ar 20)) 6).1) 11 (hmN (ar 24) (sc 16) (sc 17) hv x (sc 3) ((ar 19), (ar 20)) 6).2.1) 12 (hmN (ar 24) (sc 16) (sc 17) hv x (sc 3) ((ar 19), (ar 20)) 6).2.2.1) (va_up (va_up ar 19 ((hmN (ar 24) (sc 16) (sc 17) hv x (sc 3) ((ar 19), (ar 20)) 6).2.2.2).1) 20 ((hmN (ar 24) (sc 16) (sc 17) hv x (sc 3) ((ar 19), (ar 20)) 6).2.2.2).2) hn mh G)[21]? = some (.inr (3, [.int (hmN (ar 24) (sc 16) (sc 17) hv x (sc 3) ((ar 19), (ar 20)) 6).1, .int (hmN (ar 24) (sc 16) (sc 17) hv x (sc 3) ((ar 19), (ar 20)) 6).2.1, .int (hmN (ar 24) (sc 16) (sc 17) hv x (sc 3) ((ar 19), (ar 20)) 6).2.2.1])) from wl_c21) rfl ?_
                exact v_iret C dX11_home_121 rfl rfl ⟨by first | (simp only [homF, hmR, hmA, if_neg p_1, if_pos (Int32.not_le.mp p_1), if_neg p_3, if_pos (Int32.not_lt.mp p_3), if_neg p_5, if_pos (Int32.not_le.mp p_5), if_neg c_7, if_neg c_8, if_pos (Int32.not_lt.mp c_8), if_pos c_16, if_neg (Int32.not_lt.mpr c_16), if_neg c_17, if_pos c_20, if_pos c_21, if_neg c_22]; done) | (simp only [homF, hmR, hmA, eq_false p_1, eq_true (Int32.not_le.mp p_1), eq_false p_3, eq_true (Int32.not_lt.mp p_3), eq_false p_5, eq_true (Int32.not_le.mp p_5), eq_false c_7, eq_false c_8, eq_true (Int32.not_lt.mp c_8), eq_true c_16, eq_false (Int32.not_lt.mpr c_16), eq_false c_17, eq_true c_20, eq_true c_21, eq_false c_22, ↓reduceIte]; done) | (simp only [homF, hmR, hmA, eq_false p_1, eq_true (Int32.not_le.mp p_1), eq_false p_3, eq_true (Int32.not_lt.mp p_3), eq_false p_5, eq_true (Int32.not_le.mp p_5), eq_false c_7, eq_false c_8, eq_true (Int32.not_lt.mp c_8), eq_true c_16, eq_false (Int32.not_lt.mpr c_16), eq_false c_17, eq_true c_20, eq_true c_21, eq_false c_22, ↓reduceIte] <;> rfl) | (simp [homF, hmR, hmA, p_1, p_3, p_5, c_7, c_8, c_16, c_17, c_20, c_21, c_22]; done), (va_up (va_up (va_up sc 10 (hmN (ar 24) (sc 16) (sc 17) hv x (sc 3) ((ar 19), (ar 20)) 6).1) 11 (hmN (ar 24) (sc 16) (sc 17) hv x (sc 3) ((ar 19), (ar 20)) 6).2.1) 12 (hmN (ar 24) (sc 16) (sc 17) hv x (sc 3) ((ar 19), (ar 20)) 6).2.2.1), (va_up (va_up ar 19 ((hmN (ar 24) (sc 16) (sc 17) hv x (sc 3) ((ar 19), (ar 20)) 6).2.2.2).1) 20 ((hmN (ar 24) (sc 16) (sc 17) hv x (sc 3) ((ar 19), (ar 20)) 6).2.2.2).2), (Per_a (by decide) (Per_a (by decide) (Per_s (by decide) (Per_s (by decide) (Per_s (by decide) Per_rf))))), rfl⟩
              · first | exact absurd c_22 c_17 | exact absurd c_17 c_22 | exact absurd c_22 (Int32.not_le.mpr c_17) | exact absurd c_22 (Int32.not_lt.mpr c_17) | exact absurd (Int32.not_le.mp c_17) c_22 | exact absurd (Int32.not_lt.mp c_17) c_22 | exact absurd (Int32.not_le.mp c_17) (Int32.not_lt.mpr c_22) | exact absurd (Int32.not_lt.mp c_17) (Int32.not_le.mpr c_22) | exact absurd (Int32.not_lt.mp c_22) (Int32.not_le.mpr (Int32.not_le.mp c_17))
            · exact absurd c_21 (by decide)
          · skip
            refine v_iload_n (n := 39) C dX11_home_38 rfl rfl rfl ?_
            refine v_if_ne (t := 45) (n := 42) C dX11_home_39 (by decide) rfl (fun c_23 => ?_) (fun c_23 => ?_)
            · exact absurd c_23 (by decide)
            · skip
              refine v_bipush (n := 44) (v := -102) C dX11_home_42 rfl (by decide) ?_
              exact v_iret C dX11_home_44 rfl rfl ⟨by first | (simp only [homF, hmR, hmA, if_neg p_1, if_pos (Int32.not_le.mp p_1), if_neg p_3, if_pos (Int32.not_lt.mp p_3), if_neg p_5, if_pos (Int32.not_le.mp p_5), if_neg c_7, if_neg c_8, if_pos (Int32.not_lt.mp c_8), if_pos c_16, if_neg (Int32.not_lt.mpr c_16), if_neg c_17, if_neg c_20, if_pos c_23]; done) | (simp only [homF, hmR, hmA, eq_false p_1, eq_true (Int32.not_le.mp p_1), eq_false p_3, eq_true (Int32.not_lt.mp p_3), eq_false p_5, eq_true (Int32.not_le.mp p_5), eq_false c_7, eq_false c_8, eq_true (Int32.not_lt.mp c_8), eq_true c_16, eq_false (Int32.not_lt.mpr c_16), eq_false c_17, eq_false c_20, eq_true c_23, ↓reduceIte]; done) | (simp only [homF, hmR, hmA, eq_false p_1, eq_true (Int32.not_le.mp p_1), eq_false p_3, eq_true (Int32.not_lt.mp p_3), eq_false p_5, eq_true (Int32.not_le.mp p_5), eq_false c_7, eq_false c_8, eq_true (Int32.not_lt.mp c_8), eq_true c_16, eq_false (Int32.not_lt.mpr c_16), eq_false c_17, eq_false c_20, eq_true c_23, ↓reduceIte] <;> rfl) | (simp [homF, hmR, hmA, p_1, p_3, p_5, c_7, c_8, c_16, c_17, c_20, c_23]; done), sc, ar, Per_rf, rfl⟩
      · skip
        refine v_iconst (n := 24) (v := 1) C dX11_home_23 rfl (by decide) ?_
        refine v_goto (t := 28) C dX11_home_24 (by decide) ?_
        refine v_istore_n (n := 29) (lv' := [(3, .int 1), (0, .ref (b + 0)), (1, .int x), (2, .int w)]) C dX11_home_28 rfl rfl (Nat.le_of_ble_eq_true rfl) rfl ?_
        refine v_iload_n (n := 30) C dX11_home_29 rfl rfl rfl ?_
        refine v_if_eq (t := 45) (n := 33) C dX11_home_30 (by decide) rfl (fun c_24 => ?_) (fun c_24 => ?_)
        · skip
          refine v_aload_n (n := 46) C dX11_home_45 rfl rfl rfl ?_
          refine v_get (n := 49) C dX11_home_46 rfl fl_X11_43_X11 wl_c0 rfl ?_
          refine v_aload_n (n := 50) C dX11_home_49 rfl rfl rfl ?_
          refine v_get (n := 53) C dX11_home_50 rfl fl_X11_59_X11 wl_c0 rfl ?_
          refine v_aload_n (n := 54) C dX11_home_53 rfl rfl rfl ?_
          refine v_get (n := 57) C dX11_home_54 rfl fl_X11_36_X11 wl_c0 rfl ?_
          refine v_aload_n (n := 58) C dX11_home_57 rfl rfl rfl ?_
          refine v_get (n := 61) C dX11_home_58 rfl fl_X11_15_X11 wl_c0 rfl ?_
          refine v_iload_n (n := 62) C dX11_home_61 rfl rfl rfl ?_
          refine v_aload_n (n := 63) C dX11_home_62 rfl rfl rfl ?_
          refine v_get (n := 66) C dX11_home_63 rfl fl_X11_106_X11 wl_c0 rfl ?_
          refine v_go (n := 69) C (vRun_V (As := [.ref (b + 25), .ref (b + 18), .ref (b + 2), .int x, .int (sc 3)]) (rest := []) C wl_c21 rfl lk_X11_174 im_X3_find se_X3_find dX11_home_66 (c_find l D b sc ar hn mh G x (sc 3) hv hr) wm_X3_find rfl rfl ⟨Nat.le_of_ble_eq_true rfl, Nat.le_of_ble_eq_true rfl⟩ ⟨Nat.le_of_ble_eq_true rfl, Nat.le_of_ble_eq_true rfl⟩ (Nat.le_of_ble_eq_true rfl)) rfl ?_
          rintro _ _ ⟨rfl, rfl⟩ -
          refine v_iload_n (n := 70) C dX11_home_69 rfl rfl rfl ?_
          refine v_if_eq (t := 100) (n := 73) C dX11_home_70 (by decide) rfl (fun c_25 => ?_) (fun c_25 => ?_)
          · exact absurd c_25 (by decide)
          · skip
            refine v_iload_n (n := 74) C dX11_home_73 rfl rfl rfl ?_
            refine v_bipush (n := 76) (v := 10) C dX11_home_74 rfl (by decide) ?_
            refine v_isub (n := 77) C dX11_home_76 rfl ?_
            refine v_aload_n (n := 78) C dX11_home_77 rfl rfl rfl ?_
            refine v_get (n := 81) C dX11_home_78 rfl fl_X11_126_X11 (show (wl D b (va_up (va_up (va_up sc 10 (hmN (ar 24) (sc 16) (sc 17) hv x (sc 3) ((ar 19), (ar 20)) 6).1) 11 (hmN (ar 24) (sc 16) (sc 17) hv x (sc 3) ((ar 19), (ar 20)) 6).2.1) 12 (hmN (ar 24) (sc 16) (sc 17) hv x (sc 3) ((ar 19), (ar 20)) 6).2.2.1) (va_up (va_up ar 19 ((hmN (ar 24) (sc 16) (sc 17) hv x (sc 3) ((ar 19), (ar 20)) 6).2.2.2).1) 20 ((hmN (ar 24) (sc 16) (sc 17) hv x (sc 3) ((ar 19), (ar 20)) 6).2.2.2).2) hn mh G)[0]? = some (.inr (11, [.ref (b + 1), .int (sc 0), .int (sc 1), .ref (b + 25), .ref (b + 26), .ref (b + 2), .int (sc 2), .int (sc 3), .ref (b + 3), .ref (b + 9), .ref (b + 18), .ref (b + 21), .ref (b + 22)])) from wl_c0) rfl ?_
            refine v_icmp_ge (t := 98) (n := 84) C dX11_home_81 (by decide) rfl (fun c_26 => ?_) (fun c_26 => ?_)
            · skip
              refine v_iconst (n := 99) (v := -1) C dX11_home_98 rfl (by decide) ?_
              exact v_iret C dX11_home_99 rfl rfl ⟨by first | (simp only [homF, hmR, hmA, if_neg p_1, if_pos (Int32.not_le.mp p_1), if_neg p_3, if_pos (Int32.not_lt.mp p_3), if_neg p_5, if_pos (Int32.not_le.mp p_5), if_neg c_7, if_neg c_8, if_pos (Int32.not_lt.mp c_8), if_neg c_16, if_pos (Int32.not_le.mp c_16), if_pos c_24, if_neg c_25, if_pos c_26, if_neg (Int32.not_lt.mpr c_26)]; done) | (simp only [homF, hmR, hmA, eq_false p_1, eq_true (Int32.not_le.mp p_1), eq_false p_3, eq_true (Int32.not_lt.mp p_3), eq_false p_5, eq_true (Int32.not_le.mp p_5), eq_false c_7, eq_false c_8, eq_true (Int32.not_lt.mp c_8), eq_false c_16, eq_true (Int32.not_le.mp c_16), eq_true c_24, eq_false c_25, eq_true c_26, eq_false (Int32.not_lt.mpr c_26), ↓reduceIte]; done) | (simp only [homF, hmR, hmA, eq_false p_1, eq_true (Int32.not_le.mp p_1), eq_false p_3, eq_true (Int32.not_lt.mp p_3), eq_false p_5, eq_true (Int32.not_le.mp p_5), eq_false c_7, eq_false c_8, eq_true (Int32.not_lt.mp c_8), eq_false c_16, eq_true (Int32.not_le.mp c_16), eq_true c_24, eq_false c_25, eq_true c_26, eq_false (Int32.not_lt.mpr c_26), ↓reduceIte] <;> rfl) | (simp [homF, hmR, hmA, p_1, p_3, p_5, c_7, c_8, c_16, c_24, c_25, c_26]; done), (va_up (va_up (va_up sc 10 (hmN (ar 24) (sc 16) (sc 17) hv x (sc 3) ((ar 19), (ar 20)) 6).1) 11 (hmN (ar 24) (sc 16) (sc 17) hv x (sc 3) ((ar 19), (ar 20)) 6).2.1) 12 (hmN (ar 24) (sc 16) (sc 17) hv x (sc 3) ((ar 19), (ar 20)) 6).2.2.1), (va_up (va_up ar 19 ((hmN (ar 24) (sc 16) (sc 17) hv x (sc 3) ((ar 19), (ar 20)) 6).2.2.2).1) 20 ((hmN (ar 24) (sc 16) (sc 17) hv x (sc 3) ((ar 19), (ar 20)) 6).2.2.2).2), (Per_a (by decide) (Per_a (by decide) (Per_s (by decide) (Per_s (by decide) (Per_s (by decide) Per_rf))))), rfl⟩
            · skip
              refine v_aload_n (n := 85) C dX11_home_84 rfl rfl rfl ?_
              refine v_get (n := 88) C dX11_home_85 rfl fl_X11_43_X11 (show (wl D b (va_up (va_up (va_up sc 10 (hmN (ar 24) (sc 16) (sc 17) hv x (sc 3) ((ar 19), (ar 20)) 6).1) 11 (hmN (ar 24) (sc 16) (sc 17) hv x (sc 3) ((ar 19), (ar 20)) 6).2.1) 12 (hmN (ar 24) (sc 16) (sc 17) hv x (sc 3) ((ar 19), (ar 20)) 6).2.2.1) (va_up (va_up ar 19 ((hmN (ar 24) (sc 16) (sc 17) hv x (sc 3) ((ar 19), (ar 20)) 6).2.2.2).1) 20 ((hmN (ar 24) (sc 16) (sc 17) hv x (sc 3) ((ar 19), (ar 20)) 6).2.2.2).2) hn mh G)[0]? = some (.inr (11, [.ref (b + 1), .int (sc 0), .int (sc 1), .ref (b + 25), .ref (b + 26), .ref (b + 2), .int (sc 2), .int (sc 3), .ref (b + 3), .ref (b + 9), .ref (b + 18), .ref (b + 21), .ref (b + 22)])) from wl_c0) rfl ?_
              refine v_iload_n (n := 89) C dX11_home_88 rfl rfl rfl ?_
              refine v_bipush (n := 91) (v := 10) C dX11_home_89 rfl (by decide) ?_
              refine v_isub (n := 92) C dX11_home_91 rfl ?_
              refine v_go (n := 95) C (vRun_V (As := [.int (w - 10)]) (rest := []) C (show (wl D b (va_up (va_up (va_up sc 10 (hmN (ar 24) (sc 16) (sc 17) hv x (sc 3) ((ar 19), (ar 20)) 6).1) 11 (hmN (ar 24) (sc 16) (sc 17) hv x (sc 3) ((ar 19), (ar 20)) 6).2.1) 12 (hmN (ar 24) (sc 16) (sc 17) hv x (sc 3) ((ar 19), (ar 20)) 6).2.2.1) (va_up (va_up ar 19 ((hmN (ar 24) (sc 16) (sc 17) hv x (sc 3) ((ar 19), (ar 20)) 6).2.2.2).1) 20 ((hmN (ar 24) (sc 16) (sc 17) hv x (sc 3) ((ar 19), (ar 20)) 6).2.2.2).2) hn mh G)[21]? = some (.inr (3, [.int (hmN (ar 24) (sc 16) (sc 17) hv x (sc 3) ((ar 19), (ar 20)) 6).1, .int (hmN (ar 24) (sc 16) (sc 17) hv x (sc 3) ((ar 19), (ar 20)) 6).2.1, .int (hmN (ar 24) (sc 16) (sc 17) hv x (sc 3) ((ar 19), (ar 20)) 6).2.2.1])) from wl_c21) rfl lk_X11_178 im_X3_hullInPlace se_X3_hullInPlace dX11_home_92 (c_hullInPlace l D b (va_up (va_up (va_up sc 10 (hmN (ar 24) (sc 16) (sc 17) hv x (sc 3) ((ar 19), (ar 20)) 6).1) 11 (hmN (ar 24) (sc 16) (sc 17) hv x (sc 3) ((ar 19), (ar 20)) 6).2.1) 12 (hmN (ar 24) (sc 16) (sc 17) hv x (sc 3) ((ar 19), (ar 20)) 6).2.2.1) (va_up (va_up ar 19 ((hmN (ar 24) (sc 16) (sc 17) hv x (sc 3) ((ar 19), (ar 20)) 6).2.2.2).1) 20 ((hmN (ar 24) (sc 16) (sc 17) hv x (sc 3) ((ar 19), (ar 20)) 6).2.2.2).2) hn mh G (w - 10)) wm_X3_hullInPlace rfl rfl ⟨Nat.le_of_ble_eq_true rfl, Nat.le_of_ble_eq_true rfl⟩ ⟨Nat.le_of_ble_eq_true rfl, Nat.le_of_ble_eq_true rfl⟩ (Nat.le_of_ble_eq_true rfl)) rfl ?_
              rintro _ _ ⟨rfl, rfl⟩ -
              refine v_goto (t := 99) C dX11_home_95 (by decide) ?_
              exact v_iret C dX11_home_99 rfl rfl ⟨by first | (simp only [homF, hmR, hmA, if_neg p_1, if_pos (Int32.not_le.mp p_1), if_neg p_3, if_pos (Int32.not_lt.mp p_3), if_neg p_5, if_pos (Int32.not_le.mp p_5), if_neg c_7, if_neg c_8, if_pos (Int32.not_lt.mp c_8), if_neg c_16, if_pos (Int32.not_le.mp c_16), if_pos c_24, if_neg c_25, if_neg c_26, if_pos (Int32.not_le.mp c_26)]; done) | (simp only [homF, hmR, hmA, eq_false p_1, eq_true (Int32.not_le.mp p_1), eq_false p_3, eq_true (Int32.not_lt.mp p_3), eq_false p_5, eq_true (Int32.not_le.mp p_5), eq_false c_7, eq_false c_8, eq_true (Int32.not_lt.mp c_8), eq_false c_16, eq_true (Int32.not_le.mp c_16), eq_true c_24, eq_false c_25, eq_false c_26, eq_true (Int32.not_le.mp c_26), ↓reduceIte]; done) | (simp only [homF, hmR, hmA, eq_false p_1, eq_true (Int32.not_le.mp p_1), eq_false p_3, eq_true (Int32.not_lt.mp p_3), eq_false p_5, eq_true (Int32.not_le.mp p_5), eq_false c_7, eq_false c_8, eq_true (Int32.not_lt.mp c_8), eq_false c_16, eq_true (Int32.not_le.mp c_16), eq_true c_24, eq_false c_25, eq_false c_26, eq_true (Int32.not_le.mp c_26), ↓reduceIte] <;> rfl) | (simp [homF, hmR, hmA, p_1, p_3, p_5, c_7, c_8, c_16, c_24, c_25, c_26]; done), (va_up (va_up (va_up sc 10 (hmN (ar 24) (sc 16) (sc 17) hv x (sc 3) ((ar 19), (ar 20)) 6).1) 11 (hmN (ar 24) (sc 16) (sc 17) hv x (sc 3) ((ar 19), (ar 20)) 6).2.1) 12 (hmN (ar 24) (sc 16) (sc 17) hv x (sc 3) ((ar 19), (ar 20)) 6).2.2.1), (va_up (va_up ar 19 ((hmN (ar 24) (sc 16) (sc 17) hv x (sc 3) ((ar 19), (ar 20)) 6).2.2.2).1) 20 ((hmN (ar 24) (sc 16) (sc 17) hv x (sc 3) ((ar 19), (ar 20)) 6).2.2.2).2), (Per_a (by decide) (Per_a (by decide) (Per_s (by decide) (Per_s (by decide) (Per_s (by decide) Per_rf))))), rfl⟩
        · skip
          refine v_iload_n (n := 34) C dX11_home_33 rfl rfl rfl ?_
          refine v_iconst (n := 35) (v := 1) C dX11_home_34 rfl (by decide) ?_
          refine v_icmp_eq (t := 45) (n := 38) C dX11_home_35 (by decide) rfl (fun c_27 => ?_) (fun c_27 => ?_)
          · skip
            refine v_aload_n (n := 46) C dX11_home_45 rfl rfl rfl ?_
            refine v_get (n := 49) C dX11_home_46 rfl fl_X11_43_X11 wl_c0 rfl ?_
            refine v_aload_n (n := 50) C dX11_home_49 rfl rfl rfl ?_
            refine v_get (n := 53) C dX11_home_50 rfl fl_X11_59_X11 wl_c0 rfl ?_
            refine v_aload_n (n := 54) C dX11_home_53 rfl rfl rfl ?_
            refine v_get (n := 57) C dX11_home_54 rfl fl_X11_36_X11 wl_c0 rfl ?_
            refine v_aload_n (n := 58) C dX11_home_57 rfl rfl rfl ?_
            refine v_get (n := 61) C dX11_home_58 rfl fl_X11_15_X11 wl_c0 rfl ?_
            refine v_iload_n (n := 62) C dX11_home_61 rfl rfl rfl ?_
            refine v_aload_n (n := 63) C dX11_home_62 rfl rfl rfl ?_
            refine v_get (n := 66) C dX11_home_63 rfl fl_X11_106_X11 wl_c0 rfl ?_
            refine v_go (n := 69) C (vRun_V (As := [.ref (b + 25), .ref (b + 18), .ref (b + 2), .int x, .int (sc 3)]) (rest := []) C wl_c21 rfl lk_X11_174 im_X3_find se_X3_find dX11_home_66 (c_find l D b sc ar hn mh G x (sc 3) hv hr) wm_X3_find rfl rfl ⟨Nat.le_of_ble_eq_true rfl, Nat.le_of_ble_eq_true rfl⟩ ⟨Nat.le_of_ble_eq_true rfl, Nat.le_of_ble_eq_true rfl⟩ (Nat.le_of_ble_eq_true rfl)) rfl ?_
            rintro _ _ ⟨rfl, rfl⟩ -
            refine v_iload_n (n := 70) C dX11_home_69 rfl rfl rfl ?_
            refine v_if_eq (t := 100) (n := 73) C dX11_home_70 (by decide) rfl (fun c_28 => ?_) (fun c_28 => ?_)
            · exact absurd c_28 (by decide)
            · skip
              refine v_iload_n (n := 74) C dX11_home_73 rfl rfl rfl ?_
              refine v_bipush (n := 76) (v := 10) C dX11_home_74 rfl (by decide) ?_
              refine v_isub (n := 77) C dX11_home_76 rfl ?_
              refine v_aload_n (n := 78) C dX11_home_77 rfl rfl rfl ?_
              refine v_get (n := 81) C dX11_home_78 rfl fl_X11_126_X11 (show (wl D b (va_up (va_up (va_up sc 10 (hmN (ar 24) (sc 16) (sc 17) hv x (sc 3) ((ar 19), (ar 20)) 6).1) 11 (hmN (ar 24) (sc 16) (sc 17) hv x (sc 3) ((ar 19), (ar 20)) 6).2.1) 12 (hmN (ar 24) (sc 16) (sc 17) hv x (sc 3) ((ar 19), (ar 20)) 6).2.2.1) (va_up (va_up ar 19 ((hmN (ar 24) (sc 16) (sc 17) hv x (sc 3) ((ar 19), (ar 20)) 6).2.2.2).1) 20 ((hmN (ar 24) (sc 16) (sc 17) hv x (sc 3) ((ar 19), (ar 20)) 6).2.2.2).2) hn mh G)[0]? = some (.inr (11, [.ref (b + 1), .int (sc 0), .int (sc 1), .ref (b + 25), .ref (b + 26), .ref (b + 2), .int (sc 2), .int (sc 3), .ref (b + 3), .ref (b + 9), .ref (b + 18), .ref (b + 21), .ref (b + 22)])) from wl_c0) rfl ?_
              refine v_icmp_ge (t := 98) (n := 84) C dX11_home_81 (by decide) rfl (fun c_29 => ?_) (fun c_29 => ?_)
              · skip
                refine v_iconst (n := 99) (v := -1) C dX11_home_98 rfl (by decide) ?_
                exact v_iret C dX11_home_99 rfl rfl ⟨by first | (simp only [homF, hmR, hmA, if_neg p_1, if_pos (Int32.not_le.mp p_1), if_neg p_3, if_pos (Int32.not_lt.mp p_3), if_neg p_5, if_pos (Int32.not_le.mp p_5), if_neg c_7, if_neg c_8, if_pos (Int32.not_lt.mp c_8), if_neg c_16, if_pos (Int32.not_le.mp c_16), if_neg c_24, if_pos c_27, if_neg c_28, if_pos c_29, if_neg (Int32.not_lt.mpr c_29)]; done) | (simp only [homF, hmR, hmA, eq_false p_1, eq_true (Int32.not_le.mp p_1), eq_false p_3, eq_true (Int32.not_lt.mp p_3), eq_false p_5, eq_true (Int32.not_le.mp p_5), eq_false c_7, eq_false c_8, eq_true (Int32.not_lt.mp c_8), eq_false c_16, eq_true (Int32.not_le.mp c_16), eq_false c_24, eq_true c_27, eq_false c_28, eq_true c_29, eq_false (Int32.not_lt.mpr c_29), ↓reduceIte]; done) | (simp only [homF, hmR, hmA, eq_false p_1, eq_true (Int32.not_le.mp p_1), eq_false p_3, eq_true (Int32.not_lt.mp p_3), eq_false p_5, eq_true (Int32.not_le.mp p_5), eq_false c_7, eq_false c_8, eq_true (Int32.not_lt.mp c_8), eq_false c_16, eq_true (Int32.not_le.mp c_16), eq_false c_24, eq_true c_27, eq_false c_28, eq_true c_29, eq_false (Int32.not_lt.mpr c_29), ↓reduceIte] <;> rfl) | (simp [homF, hmR, hmA, p_1, p_3, p_5, c_7, c_8, c_16, c_24, c_27, c_28, c_29]; done), (va_up (va_up (va_up sc 10 (hmN (ar 24) (sc 16) (sc 17) hv x (sc 3) ((ar 19), (ar 20)) 6).1) 11 (hmN (ar 24) (sc 16) (sc 17) hv x (sc 3) ((ar 19), (ar 20)) 6).2.1) 12 (hmN (ar 24) (sc 16) (sc 17) hv x (sc 3) ((ar 19), (ar 20)) 6).2.2.1), (va_up (va_up ar 19 ((hmN (ar 24) (sc 16) (sc 17) hv x (sc 3) ((ar 19), (ar 20)) 6).2.2.2).1) 20 ((hmN (ar 24) (sc 16) (sc 17) hv x (sc 3) ((ar 19), (ar 20)) 6).2.2.2).2), (Per_a (by decide) (Per_a (by decide) (Per_s (by decide) (Per_s (by decide) (Per_s (by decide) Per_rf))))), rfl⟩
              · skip
                refine v_aload_n (n := 85) C dX11_home_84 rfl rfl rfl ?_
                refine v_get (n := 88) C dX11_home_85 rfl fl_X11_43_X11 (show (wl D b (va_up (va_up (va_up sc 10 (hmN (ar 24) (sc 16) (sc 17) hv x (sc 3) ((ar 19), (ar 20)) 6).1) 11 (hmN (ar 24) (sc 16) (sc 17) hv x (sc 3) ((ar 19), (ar 20)) 6).2.1) 12 (hmN (ar 24) (sc 16) (sc 17) hv x (sc 3) ((ar 19), (ar 20)) 6).2.2.1) (va_up (va_up ar 19 ((hmN (ar 24) (sc 16) (sc 17) hv x (sc 3) ((ar 19), (ar 20)) 6).2.2.2).1) 20 ((hmN (ar 24) (sc 16) (sc 17) hv x (sc 3) ((ar 19), (ar 20)) 6).2.2.2).2) hn mh G)[0]? = some (.inr (11, [.ref (b + 1), .int (sc 0), .int (sc 1), .ref (b + 25), .ref (b + 26), .ref (b + 2), .int (sc 2), .int (sc 3), .ref (b + 3), .ref (b + 9), .ref (b + 18), .ref (b + 21), .ref (b + 22)])) from wl_c0) rfl ?_
                refine v_iload_n (n := 89) C dX11_home_88 rfl rfl rfl ?_
                refine v_bipush (n := 91) (v := 10) C dX11_home_89 rfl (by decide) ?_
                refine v_isub (n := 92) C dX11_home_91 rfl ?_
                refine v_go (n := 95) C (vRun_V (As := [.int (w - 10)]) (rest := []) C (show (wl D b (va_up (va_up (va_up sc 10 (hmN (ar 24) (sc 16) (sc 17) hv x (sc 3) ((ar 19), (ar 20)) 6).1) 11 (hmN (ar 24) (sc 16) (sc 17) hv x (sc 3) ((ar 19), (ar 20)) 6).2.1) 12 (hmN (ar 24) (sc 16) (sc 17) hv x (sc 3) ((ar 19), (ar 20)) 6).2.2.1) (va_up (va_up ar 19 ((hmN (ar 24) (sc 16) (sc 17) hv x (sc 3) ((ar 19), (ar 20)) 6).2.2.2).1) 20 ((hmN (ar 24) (sc 16) (sc 17) hv x (sc 3) ((ar 19), (ar 20)) 6).2.2.2).2) hn mh G)[21]? = some (.inr (3, [.int (hmN (ar 24) (sc 16) (sc 17) hv x (sc 3) ((ar 19), (ar 20)) 6).1, .int (hmN (ar 24) (sc 16) (sc 17) hv x (sc 3) ((ar 19), (ar 20)) 6).2.1, .int (hmN (ar 24) (sc 16) (sc 17) hv x (sc 3) ((ar 19), (ar 20)) 6).2.2.1])) from wl_c21) rfl lk_X11_178 im_X3_hullInPlace se_X3_hullInPlace dX11_home_92 (c_hullInPlace l D b (va_up (va_up (va_up sc 10 (hmN (ar 24) (sc 16) (sc 17) hv x (sc 3) ((ar 19), (ar 20)) 6).1) 11 (hmN (ar 24) (sc 16) (sc 17) hv x (sc 3) ((ar 19), (ar 20)) 6).2.1) 12 (hmN (ar 24) (sc 16) (sc 17) hv x (sc 3) ((ar 19), (ar 20)) 6).2.2.1) (va_up (va_up ar 19 ((hmN (ar 24) (sc 16) (sc 17) hv x (sc 3) ((ar 19), (ar 20)) 6).2.2.2).1) 20 ((hmN (ar 24) (sc 16) (sc 17) hv x (sc 3) ((ar 19), (ar 20)) 6).2.2.2).2) hn mh G (w - 10)) wm_X3_hullInPlace rfl rfl ⟨Nat.le_of_ble_eq_true rfl, Nat.le_of_ble_eq_true rfl⟩ ⟨Nat.le_of_ble_eq_true rfl, Nat.le_of_ble_eq_true rfl⟩ (Nat.le_of_ble_eq_true rfl)) rfl ?_
                rintro _ _ ⟨rfl, rfl⟩ -
                refine v_goto (t := 99) C dX11_home_95 (by decide) ?_
                exact v_iret C dX11_home_99 rfl rfl ⟨by first | (simp only [homF, hmR, hmA, if_neg p_1, if_pos (Int32.not_le.mp p_1), if_neg p_3, if_pos (Int32.not_lt.mp p_3), if_neg p_5, if_pos (Int32.not_le.mp p_5), if_neg c_7, if_neg c_8, if_pos (Int32.not_lt.mp c_8), if_neg c_16, if_pos (Int32.not_le.mp c_16), if_neg c_24, if_pos c_27, if_neg c_28, if_neg c_29, if_pos (Int32.not_le.mp c_29)]; done) | (simp only [homF, hmR, hmA, eq_false p_1, eq_true (Int32.not_le.mp p_1), eq_false p_3, eq_true (Int32.not_lt.mp p_3), eq_false p_5, eq_true (Int32.not_le.mp p_5), eq_false c_7, eq_false c_8, eq_true (Int32.not_lt.mp c_8), eq_false c_16, eq_true (Int32.not_le.mp c_16), eq_false c_24, eq_true c_27, eq_false c_28, eq_false c_29, eq_true (Int32.not_le.mp c_29), ↓reduceIte]; done) | (simp only [homF, hmR, hmA, eq_false p_1, eq_true (Int32.not_le.mp p_1), eq_false p_3, eq_true (Int32.not_lt.mp p_3), eq_false p_5, eq_true (Int32.not_le.mp p_5), eq_false c_7, eq_false c_8, eq_true (Int32.not_lt.mp c_8), eq_false c_16, eq_true (Int32.not_le.mp c_16), eq_false c_24, eq_true c_27, eq_false c_28, eq_false c_29, eq_true (Int32.not_le.mp c_29), ↓reduceIte] <;> rfl) | (simp [homF, hmR, hmA, p_1, p_3, p_5, c_7, c_8, c_16, c_24, c_27, c_28, c_29]; done), (va_up (va_up (va_up sc 10 (hmN (ar 24) (sc 16) (sc 17) hv x (sc 3) ((ar 19), (ar 20)) 6).1) 11 (hmN (ar 24) (sc 16) (sc 17) hv x (sc 3) ((ar 19), (ar 20)) 6).2.1) 12 (hmN (ar 24) (sc 16) (sc 17) hv x (sc 3) ((ar 19), (ar 20)) 6).2.2.1), (va_up (va_up ar 19 ((hmN (ar 24) (sc 16) (sc 17) hv x (sc 3) ((ar 19), (ar 20)) 6).2.2.2).1) 20 ((hmN (ar 24) (sc 16) (sc 17) hv x (sc 3) ((ar 19), (ar 20)) 6).2.2.2).2), (Per_a (by decide) (Per_a (by decide) (Per_s (by decide) (Per_s (by decide) (Per_s (by decide) Per_rf))))), rfl⟩
          · skip
            refine v_iload_n (n := 39) C dX11_home_38 rfl rfl rfl ?_
            refine v_if_ne (t := 45) (n := 42) C dX11_home_39 (by decide) rfl (fun c_30 => ?_) (fun c_30 => ?_)
            · skip
              refine v_aload_n (n := 46) C dX11_home_45 rfl rfl rfl ?_
              refine v_get (n := 49) C dX11_home_46 rfl fl_X11_43_X11 wl_c0 rfl ?_
              refine v_aload_n (n := 50) C dX11_home_49 rfl rfl rfl ?_
              refine v_get (n := 53) C dX11_home_50 rfl fl_X11_59_X11 wl_c0 rfl ?_
              refine v_aload_n (n := 54) C dX11_home_53 rfl rfl rfl ?_
              refine v_get (n := 57) C dX11_home_54 rfl fl_X11_36_X11 wl_c0 rfl ?_
              refine v_aload_n (n := 58) C dX11_home_57 rfl rfl rfl ?_
              refine v_get (n := 61) C dX11_home_58 rfl fl_X11_15_X11 wl_c0 rfl ?_
              refine v_iload_n (n := 62) C dX11_home_61 rfl rfl rfl ?_
              refine v_aload_n (n := 63) C dX11_home_62 rfl rfl rfl ?_
              refine v_get (n := 66) C dX11_home_63 rfl fl_X11_106_X11 wl_c0 rfl ?_
              refine v_go (n := 69) C (vRun_V (As := [.ref (b + 25), .ref (b + 18), .ref (b + 2), .int x, .int (sc 3)]) (rest := []) C wl_c21 rfl lk_X11_174 im_X3_find se_X3_find dX11_home_66 (c_find l D b sc ar hn mh G x (sc 3) hv hr) wm_X3_find rfl rfl ⟨Nat.le_of_ble_eq_true rfl, Nat.le_of_ble_eq_true rfl⟩ ⟨Nat.le_of_ble_eq_true rfl, Nat.le_of_ble_eq_true rfl⟩ (Nat.le_of_ble_eq_true rfl)) rfl ?_
              rintro _ _ ⟨rfl, rfl⟩ -
              refine v_iload_n (n := 70) C dX11_home_69 rfl rfl rfl ?_
              refine v_if_eq (t := 100) (n := 73) C dX11_home_70 (by decide) rfl (fun c_31 => ?_) (fun c_31 => ?_)
              · exact absurd c_31 (by decide)
              · skip
                refine v_iload_n (n := 74) C dX11_home_73 rfl rfl rfl ?_
                refine v_bipush (n := 76) (v := 10) C dX11_home_74 rfl (by decide) ?_
                refine v_isub (n := 77) C dX11_home_76 rfl ?_
                refine v_aload_n (n := 78) C dX11_home_77 rfl rfl rfl ?_
                refine v_get (n := 81) C dX11_home_78 rfl fl_X11_126_X11 (show (wl D b (va_up (va_up (va_up sc 10 (hmN (ar 24) (sc 16) (sc 17) hv x (sc 3) ((ar 19), (ar 20)) 6).1) 11 (hmN (ar 24) (sc 16) (sc 17) hv x (sc 3) ((ar 19), (ar 20)) 6).2.1) 12 (hmN (ar 24) (sc 16) (sc 17) hv x (sc 3) ((ar 19), (ar 20)) 6).2.2.1) (va_up (va_up ar 19 ((hmN (ar 24) (sc 16) (sc 17) hv x (sc 3) ((ar 19), (ar 20)) 6).2.2.2).1) 20 ((hmN (ar 24) (sc 16) (sc 17) hv x (sc 3) ((ar 19), (ar 20)) 6).2.2.2).2) hn mh G)[0]? = some (.inr (11, [.ref (b + 1), .int (sc 0), .int (sc 1), .ref (b + 25), .ref (b + 26), .ref (b + 2), .int (sc 2), .int (sc 3), .ref (b + 3), .ref (b + 9), .ref (b + 18), .ref (b + 21), .ref (b + 22)])) from wl_c0) rfl ?_
                refine v_icmp_ge (t := 98) (n := 84) C dX11_home_81 (by decide) rfl (fun c_32 => ?_) (fun c_32 => ?_)
                · skip
                  refine v_iconst (n := 99) (v := -1) C dX11_home_98 rfl (by decide) ?_
                  exact v_iret C dX11_home_99 rfl rfl ⟨by first | (simp only [homF, hmR, hmA, if_neg p_1, if_pos (Int32.not_le.mp p_1), if_neg p_3, if_pos (Int32.not_lt.mp p_3), if_neg p_5, if_pos (Int32.not_le.mp p_5), if_neg c_7, if_neg c_8, if_pos (Int32.not_lt.mp c_8), if_neg c_16, if_pos (Int32.not_le.mp c_16), if_neg c_24, if_neg c_27, if_neg c_30, if_neg c_31, if_pos c_32, if_neg (Int32.not_lt.mpr c_32)]; done) | (simp only [homF, hmR, hmA, eq_false p_1, eq_true (Int32.not_le.mp p_1), eq_false p_3, eq_true (Int32.not_lt.mp p_3), eq_false p_5, eq_true (Int32.not_le.mp p_5), eq_false c_7, eq_false c_8, eq_true (Int32.not_lt.mp c_8), eq_false c_16, eq_true (Int32.not_le.mp c_16), eq_false c_24, eq_false c_27, eq_false c_30, eq_false c_31, eq_true c_32, eq_false (Int32.not_lt.mpr c_32), ↓reduceIte]; done) | (simp only [homF, hmR, hmA, eq_false p_1, eq_true (Int32.not_le.mp p_1), eq_false p_3, eq_true (Int32.not_lt.mp p_3), eq_false p_5, eq_true (Int32.not_le.mp p_5), eq_false c_7, eq_false c_8, eq_true (Int32.not_lt.mp c_8), eq_false c_16, eq_true (Int32.not_le.mp c_16), eq_false c_24, eq_false c_27, eq_false c_30, eq_false c_31, eq_true c_32, eq_false (Int32.not_lt.mpr c_32), ↓reduceIte] <;> rfl) | (simp [homF, hmR, hmA, p_1, p_3, p_5, c_7, c_8, c_16, c_24, c_27, c_30, c_31, c_32]; done), (va_up (va_up (va_up sc 10 (hmN (ar 24) (sc 16) (sc 17) hv x (sc 3) ((ar 19), (ar 20)) 6).1) 11 (hmN (ar 24) (sc 16) (sc 17) hv x (sc 3) ((ar 19), (ar 20)) 6).2.1) 12 (hmN (ar 24) (sc 16) (sc 17) hv x (sc 3) ((ar 19), (ar 20)) 6).2.2.1), (va_up (va_up ar 19 ((hmN (ar 24) (sc 16) (sc 17) hv x (sc 3) ((ar 19), (ar 20)) 6).2.2.2).1) 20 ((hmN (ar 24) (sc 16) (sc 17) hv x (sc 3) ((ar 19), (ar 20)) 6).2.2.2).2), (Per_a (by decide) (Per_a (by decide) (Per_s (by decide) (Per_s (by decide) (Per_s (by decide) Per_rf))))), rfl⟩
                · skip
                  refine v_aload_n (n := 85) C dX11_home_84 rfl rfl rfl ?_
                  refine v_get (n := 88) C dX11_home_85 rfl fl_X11_43_X11 (show (wl D b (va_up (va_up (va_up sc 10 (hmN (ar 24) (sc 16) (sc 17) hv x (sc 3) ((ar 19), (ar 20)) 6).1) 11 (hmN (ar 24) (sc 16) (sc 17) hv x (sc 3) ((ar 19), (ar 20)) 6).2.1) 12 (hmN (ar 24) (sc 16) (sc 17) hv x (sc 3) ((ar 19), (ar 20)) 6).2.2.1) (va_up (va_up ar 19 ((hmN (ar 24) (sc 16) (sc 17) hv x (sc 3) ((ar 19), (ar 20)) 6).2.2.2).1) 20 ((hmN (ar 24) (sc 16) (sc 17) hv x (sc 3) ((ar 19), (ar 20)) 6).2.2.2).2) hn mh G)[0]? = some (.inr (11, [.ref (b + 1), .int (sc 0), .int (sc 1), .ref (b + 25), .ref (b + 26), .ref (b + 2), .int (sc 2), .int (sc 3), .ref (b + 3), .ref (b + 9), .ref (b + 18), .ref (b + 21), .ref (b + 22)])) from wl_c0) rfl ?_
                  refine v_iload_n (n := 89) C dX11_home_88 rfl rfl rfl ?_
                  refine v_bipush (n := 91) (v := 10) C dX11_home_89 rfl (by decide) ?_
                  refine v_isub (n := 92) C dX11_home_91 rfl ?_
                  refine v_go (n := 95) C (vRun_V (As := [.int (w - 10)]) (rest := []) C (show (wl D b (va_up (va_up (va_up sc 10 (hmN (ar 24) (sc 16) (sc 17) hv x (sc 3) ((ar 19), (ar 20)) 6).1) 11 (hmN (ar 24) (sc 16) (sc 17) hv x (sc 3) ((ar 19), (ar 20)) 6).2.1) 12 (hmN (ar 24) (sc 16) (sc 17) hv x (sc 3) ((ar 19), (ar 20)) 6).2.2.1) (va_up (va_up ar 19 ((hmN (ar 24) (sc 16) (sc 17) hv x (sc 3) ((ar 19), (ar 20)) 6).2.2.2).1) 20 ((hmN (ar 24) (sc 16) (sc 17) hv x (sc 3) ((ar 19), (ar 20)) 6).2.2.2).2) hn mh G)[21]? = some (.inr (3, [.int (hmN (ar 24) (sc 16) (sc 17) hv x (sc 3) ((ar 19), (ar 20)) 6).1, .int (hmN (ar 24) (sc 16) (sc 17) hv x (sc 3) ((ar 19), (ar 20)) 6).2.1, .int (hmN (ar 24) (sc 16) (sc 17) hv x (sc 3) ((ar 19), (ar 20)) 6).2.2.1])) from wl_c21) rfl lk_X11_178 im_X3_hullInPlace se_X3_hullInPlace dX11_home_92 (c_hullInPlace l D b (va_up (va_up (va_up sc 10 (hmN (ar 24) (sc 16) (sc 17) hv x (sc 3) ((ar 19), (ar 20)) 6).1) 11 (hmN (ar 24) (sc 16) (sc 17) hv x (sc 3) ((ar 19), (ar 20)) 6).2.1) 12 (hmN (ar 24) (sc 16) (sc 17) hv x (sc 3) ((ar 19), (ar 20)) 6).2.2.1) (va_up (va_up ar 19 ((hmN (ar 24) (sc 16) (sc 17) hv x (sc 3) ((ar 19), (ar 20)) 6).2.2.2).1) 20 ((hmN (ar 24) (sc 16) (sc 17) hv x (sc 3) ((ar 19), (ar 20)) 6).2.2.2).2) hn mh G (w - 10)) wm_X3_hullInPlace rfl rfl ⟨Nat.le_of_ble_eq_true rfl, Nat.le_of_ble_eq_true rfl⟩ ⟨Nat.le_of_ble_eq_true rfl, Nat.le_of_ble_eq_true rfl⟩ (Nat.le_of_ble_eq_true rfl)) rfl ?_
                  rintro _ _ ⟨rfl, rfl⟩ -
                  refine v_goto (t := 99) C dX11_home_95 (by decide) ?_
                  exact v_iret C dX11_home_99 rfl rfl ⟨by first | (simp only [homF, hmR, hmA, if_neg p_1, if_pos (Int32.not_le.mp p_1), if_neg p_3, if_pos (Int32.not_lt.mp p_3), if_neg p_5, if_pos (Int32.not_le.mp p_5), if_neg c_7, if_neg c_8, if_pos (Int32.not_lt.mp c_8), if_neg c_16, if_pos (Int32.not_le.mp c_16), if_neg c_24, if_neg c_27, if_neg c_30, if_neg c_31, if_neg c_32, if_pos (Int32.not_le.mp c_32)]; done) | (simp only [homF, hmR, hmA, eq_false p_1, eq_true (Int32.not_le.mp p_1), eq_false p_3, eq_true (Int32.not_lt.mp p_3), eq_false p_5, eq_true (Int32.not_le.mp p_5), eq_false c_7, eq_false c_8, eq_true (Int32.not_lt.mp c_8), eq_false c_16, eq_true (Int32.not_le.mp c_16), eq_false c_24, eq_false c_27, eq_false c_30, eq_false c_31, eq_false c_32, eq_true (Int32.not_le.mp c_32), ↓reduceIte]; done) | (simp only [homF, hmR, hmA, eq_false p_1, eq_true (Int32.not_le.mp p_1), eq_false p_3, eq_true (Int32.not_lt.mp p_3), eq_false p_5, eq_true (Int32.not_le.mp p_5), eq_false c_7, eq_false c_8, eq_true (Int32.not_lt.mp c_8), eq_false c_16, eq_true (Int32.not_le.mp c_16), eq_false c_24, eq_false c_27, eq_false c_30, eq_false c_31, eq_false c_32, eq_true (Int32.not_le.mp c_32), ↓reduceIte] <;> rfl) | (simp [homF, hmR, hmA, p_1, p_3, p_5, c_7, c_8, c_16, c_24, c_27, c_30, c_31, c_32]; done), (va_up (va_up (va_up sc 10 (hmN (ar 24) (sc 16) (sc 17) hv x (sc 3) ((ar 19), (ar 20)) 6).1) 11 (hmN (ar 24) (sc 16) (sc 17) hv x (sc 3) ((ar 19), (ar 20)) 6).2.1) 12 (hmN (ar 24) (sc 16) (sc 17) hv x (sc 3) ((ar 19), (ar 20)) 6).2.2.1), (va_up (va_up ar 19 ((hmN (ar 24) (sc 16) (sc 17) hv x (sc 3) ((ar 19), (ar 20)) 6).2.2.2).1) 20 ((hmN (ar 24) (sc 16) (sc 17) hv x (sc 3) ((ar 19), (ar 20)) 6).2.2.2).2), (Per_a (by decide) (Per_a (by decide) (Per_s (by decide) (Per_s (by decide) (Per_s (by decide) Per_rf))))), rfl⟩
            · exact absurd c_30 (by decide)
  · exact absurd c_7 (by decide)
def adS (sc : Nat → Int32) (ar : Nat → Nat → Int32) (n c h : Int32) : Int32 × (Nat → Int32) × (Nat → Nat → Int32) := if sc 4 < 0 then (0, sc, ar) else if 6 ≤ sc 4 then (0, sc, ar) else
  (1, va_up sc 4 (sc 4 + 1), va_up (va_up (va_up ar 4 (upd (ar 4) (sc 4).toNatClampNeg n)) 5 (upd (ar 5) (sc 4).toNatClampNeg c)) 6 (upd (ar 6) (sc 4).toNatClampNeg h))
def copN (g f : Nat → Int32) : Nat → Nat → Int32
  | 0 => f
  | i + 1 => upd (copN g f i) i (g i)
set_option maxHeartbeats 4000000 in
set_option maxRecDepth 100000 in
theorem c_add (l : Launch) (D : va_G) (b : Nat) (sc : Nat → Int32) (ar : Nat → Nat → Int32) (hn : Nat → Option Nat) (mh : Int64) (G : List va_E) (x y z : Int32) : Con l yX8_add cX8_add 4 (some .boolean) 0 0 D b 0 0 (wl D b sc ar hn mh G) [.ref (b + 3), .int x, .int y, .int z] (fun r es' => r = some (.int (adS sc ar x y z).1) ∧ wl D b (adS sc ar x y z).2.1 (adS sc ar x y z).2.2 hn mh G = es') := by
  refine con_of (by decide) (Nat.le_of_ble_eq_true rfl) (fun p e s m args below meth c C hsz => ?_)
  have C : vC p s m args meth c cX8_add 4 RX8 "add" (some .boolean) D b := C
  change V p l e _ s m args below meth c D b 4 _ 0 0 (wl D b sc ar hn mh G) [(0, .ref (b + 3)), (1, .int x), (2, .int y), (3, .int z)] [] 0
  refine v_aload_n (n := 1) C dX8_add_0 rfl rfl rfl ?_
  refine v_get (n := 4) C dX8_add_1 rfl fl_X8_27_X8 wl_c3 rfl ?_
  refine v_if_lt (t := 16) (n := 7) C dX8_add_4 (by decide) rfl (fun c_1 => ?_) (fun c_1 => ?_)
  · skip
    refine v_iconst (n := 17) (v := 0) C dX8_add_16 rfl (by decide) ?_
    exact v_iret C dX8_add_17 rfl rfl ⟨by first | rfl | (simp only [adS, if_pos c_1, if_neg (Int32.not_le.mpr c_1)]; done) | (simp only [adS, eq_true c_1, eq_false (Int32.not_le.mpr c_1), ↓reduceIte]; done) | (simp only [adS, eq_true c_1, eq_false (Int32.not_le.mpr c_1), ↓reduceIte] <;> rfl) | (simp [adS, c_1]; done), by first | rfl | (simp only [adS, if_pos c_1, if_neg (Int32.not_le.mpr c_1)]; done) | (simp only [adS, eq_true c_1, eq_false (Int32.not_le.mpr c_1), ↓reduceIte]; done) | (simp only [adS, eq_true c_1, eq_false (Int32.not_le.mpr c_1), ↓reduceIte] <;> rfl) | (simp [adS, c_1]; done)⟩
  · skip
    refine v_aload_n (n := 8) C dX8_add_7 rfl rfl rfl ?_
    refine v_get (n := 11) C dX8_add_8 rfl fl_X8_27_X8 wl_c3 rfl ?_
    refine v_bipush (n := 13) (v := 6) C dX8_add_11 rfl (by decide) ?_
    refine v_icmp_lt (t := 18) (n := 16) C dX8_add_13 (by decide) rfl (fun c_2 => ?_) (fun c_2 => ?_)
    · skip
      refine v_aload_n (n := 19) C dX8_add_18 rfl rfl rfl ?_
      refine v_get (n := 22) C dX8_add_19 rfl fl_X8_9_X8 wl_c3 rfl ?_
      refine v_aload_n (n := 23) C dX8_add_22 rfl rfl rfl ?_
      refine v_get (n := 26) C dX8_add_23 rfl fl_X8_27_X8 wl_c3 rfl ?_
      refine v_iload_n (n := 27) C dX8_add_26 rfl rfl rfl ?_
      refine v_iast (n := 28) (es' := (wl D b sc (va_up ar 4 (upd (ar 4) (Int32.toNatClampNeg (sc 4)) x)) hn mh G)) C dX8_add_27 rfl wl_c4 (vp_b (Int32.not_lt.mp c_1) c_2 (by decide)) (wl_a4 _) ?_
      refine v_aload_n (n := 29) C dX8_add_28 rfl rfl rfl ?_
      refine v_get (n := 32) C dX8_add_29 rfl fl_X8_15_X8 wl_c3 rfl ?_
      refine v_aload_n (n := 33) C dX8_add_32 rfl rfl rfl ?_
      refine v_get (n := 36) C dX8_add_33 rfl fl_X8_27_X8 wl_c3 rfl ?_
      refine v_iload_n (n := 37) C dX8_add_36 rfl rfl rfl ?_
      refine v_iast (n := 38) (es' := (wl D b sc (va_up (va_up ar 4 (upd (ar 4) (Int32.toNatClampNeg (sc 4)) x)) 5 (upd (ar 5) (Int32.toNatClampNeg (sc 4)) y)) hn mh G)) C dX8_add_37 rfl (show (wl D b sc (va_up ar 4 (upd (ar 4) (Int32.toNatClampNeg (sc 4)) x)) hn mh G)[5]? = some (.inl (D.1 13, 6, .inl (ar 5))) from wl_c5) (vp_b (Int32.not_lt.mp c_1) c_2 (by decide)) (wl_a5 _) ?_
      refine v_aload_n (n := 39) C dX8_add_38 rfl rfl rfl ?_
      refine v_get (n := 42) C dX8_add_39 rfl fl_X8_18_X8 wl_c3 rfl ?_
      refine v_aload_n (n := 43) C dX8_add_42 rfl rfl rfl ?_
      refine v_get (n := 46) C dX8_add_43 rfl fl_X8_27_X8 wl_c3 rfl ?_
      refine v_iload_n (n := 47) C dX8_add_46 rfl rfl rfl ?_
      refine v_iast (n := 48) (es' := (wl D b sc (va_up (va_up (va_up ar 4 (upd (ar 4) (Int32.toNatClampNeg (sc 4)) x)) 5 (upd (ar 5) (Int32.toNatClampNeg (sc 4)) y)) 6 (upd (ar 6) (Int32.toNatClampNeg (sc 4)) z)) hn mh G)) C dX8_add_47 rfl (show (wl D b sc (va_up (va_up ar 4 (upd (ar 4) (Int32.toNatClampNeg (sc 4)) x)) 5 (upd (ar 5) (Int32.toNatClampNeg (sc 4)) y)) hn mh G)[6]? = some (.inl (D.1 13, 6, .inl (ar 6))) from wl_c6) (vp_b (Int32.not_lt.mp c_1) c_2 (by decide)) (wl_a6 _) ?_
      refine v_aload_n (n := 49) C dX8_add_48 rfl rfl rfl ?_
      refine v_dup (n := 50) C dX8_add_49 rfl rfl ?_
      refine v_get (n := 53) C dX8_add_50 rfl fl_X8_27_X8 wl_c3 rfl ?_
      refine v_iconst (n := 54) (v := 1) C dX8_add_53 rfl (by decide) ?_
      refine v_iadd (n := 55) C dX8_add_54 rfl ?_
      refine v_put (n := 58) (es' := (wl D b (va_up sc 4 ((sc 4) + 1)) (va_up (va_up (va_up ar 4 (upd (ar 4) (Int32.toNatClampNeg (sc 4)) x)) 5 (upd (ar 5) (Int32.toNatClampNeg (sc 4)) y)) 6 (upd (ar 6) (Int32.toNatClampNeg (sc 4)) z)) hn mh G)) C dX8_add_55 rfl fl_X8_27_X8 (fp_any fp_X8_0) wl_c3 rfl rfl (Nat.le_of_ble_eq_true rfl) wl_p3_0 ?_
      refine v_iconst (n := 59) (v := 1) C dX8_add_58 rfl (by decide) ?_
      exact v_iret C dX8_add_59 rfl rfl ⟨by first | rfl | (simp only [adS, if_neg c_1, if_pos (Int32.not_lt.mp c_1), if_pos c_2, if_neg (Int32.not_le.mpr c_2)]; done) | (simp only [adS, eq_false c_1, eq_true (Int32.not_lt.mp c_1), eq_true c_2, eq_false (Int32.not_le.mpr c_2), ↓reduceIte]; done) | (simp only [adS, eq_false c_1, eq_true (Int32.not_lt.mp c_1), eq_true c_2, eq_false (Int32.not_le.mpr c_2), ↓reduceIte] <;> rfl) | (simp [adS, c_1, c_2]; done), by first | rfl | (simp only [adS, if_neg c_1, if_pos (Int32.not_lt.mp c_1), if_pos c_2, if_neg (Int32.not_le.mpr c_2)]; done) | (simp only [adS, eq_false c_1, eq_true (Int32.not_lt.mp c_1), eq_true c_2, eq_false (Int32.not_le.mpr c_2), ↓reduceIte]; done) | (simp only [adS, eq_false c_1, eq_true (Int32.not_lt.mp c_1), eq_true c_2, eq_false (Int32.not_le.mpr c_2), ↓reduceIte] <;> rfl) | (simp [adS, c_1, c_2]; done)⟩
    · skip
      refine v_iconst (n := 17) (v := 0) C dX8_add_16 rfl (by decide) ?_
      exact v_iret C dX8_add_17 rfl rfl ⟨by first | rfl | (simp only [adS, if_neg c_1, if_pos (Int32.not_lt.mp c_1), if_neg c_2, if_pos (Int32.not_lt.mp c_2)]; done) | (simp only [adS, eq_false c_1, eq_true (Int32.not_lt.mp c_1), eq_false c_2, eq_true (Int32.not_lt.mp c_2), ↓reduceIte]; done) | (simp only [adS, eq_false c_1, eq_true (Int32.not_lt.mp c_1), eq_false c_2, eq_true (Int32.not_lt.mp c_2), ↓reduceIte] <;> rfl) | (simp [adS, c_1, c_2]; done), by first | rfl | (simp only [adS, if_neg c_1, if_pos (Int32.not_lt.mp c_1), if_neg c_2, if_pos (Int32.not_lt.mp c_2)]; done) | (simp only [adS, eq_false c_1, eq_true (Int32.not_lt.mp c_1), eq_false c_2, eq_true (Int32.not_lt.mp c_2), ↓reduceIte]; done) | (simp only [adS, eq_false c_1, eq_true (Int32.not_lt.mp c_1), eq_false c_2, eq_true (Int32.not_lt.mp c_2), ↓reduceIte] <;> rfl) | (simp [adS, c_1, c_2]; done)⟩
set_option maxHeartbeats 4000000 in
set_option maxRecDepth 100000 in
theorem c_become3 (l : Launch) (D : va_G) (b : Nat) (sc : Nat → Int32) (ar : Nat → Nat → Int32) (hn : Nat → Option Nat) (mh : Int64) (G : List va_E)  : Con l yX8_become cX8_become 3 none 0 0 D b 0 0 (wl D b sc ar hn mh G) [.ref (b + 3), .ref (b + 10)] (fun r es' => r = none ∧ wl D b (va_up sc 4 (sc 5)) (va_up (va_up (va_up ar 4 (copN (ar 11) (ar 4) 6)) 5 (copN (ar 12) (ar 5) 6)) 6 (copN (ar 13) (ar 6) 6)) hn mh G = es') := by
  refine con_of (by decide) (Nat.le_of_ble_eq_true rfl) (fun p e s m args below meth c C hsz => ?_)
  have C : vC p s m args meth c cX8_become 3 RX8 "become" none D b := C
  change V p l e _ s m args below meth c D b 3 _ 0 0 (wl D b sc ar hn mh G) [(0, .ref (b + 3)), (1, .ref (b + 10))] [] 0
  refine v_aload_n (n := 1) C dX8_become_0 rfl rfl rfl ?_
  refine v_aload_n (n := 2) C dX8_become_1 rfl rfl rfl ?_
  refine v_get (n := 5) C dX8_become_2 rfl fl_X8_27_X8 wl_c10 rfl ?_
  refine v_put (n := 8) (es' := (wl D b (va_up sc 4 (sc 5)) ar hn mh G)) C dX8_become_5 rfl fl_X8_27_X8 (fp_any fp_X8_0) wl_c3 rfl rfl (Nat.le_of_ble_eq_true rfl) wl_p3_0 ?_
  refine v_iconst (n := 9) (v := 0) C dX8_become_8 rfl (by decide) ?_
  refine v_istore_n (n := 10) (lv' := [(2, .int 0), (0, .ref (b + 3)), (1, .ref (b + 10))]) C dX8_become_9 rfl rfl (Nat.le_of_ble_eq_true rfl) rfl ?_
  refine v_pick (lv' := [(2, .int 0), (0, .ref (b + 3)), (1, .ref (b + 10))]) [0, 1, 2] rfl ?_
  have e_1 : (0 : Int32) = (nI 0) := rfl
  refine v_cong (es' := (wl D b (va_up sc 4 (sc 5)) (va_up (va_up (va_up ar 4 (ar 4)) 5 (ar 5)) 6 (ar 6)) hn mh G)) (lv' := [(2, .int 0), (0, .ref (b + 3)), (1, .ref (b + 10))]) rfl rfl ?_
  have e_2 : ((ar 4) : Nat → Int32) = (copN (ar 11) (ar 4) 0) := by first | rfl | (simp only [copN]; done) | (simp only [copN, ↓reduceIte]; done) | (simp only [copN, ↓reduceIte] <;> rfl) | (simp [copN]; done)
  have e_3 : ((ar 5) : Nat → Int32) = (copN (ar 12) (ar 5) 0) := by first | rfl | (simp only [copN]; done) | (simp only [copN, ↓reduceIte]; done) | (simp only [copN, ↓reduceIte] <;> rfl) | (simp [copN]; done)
  have e_4 : ((ar 6) : Nat → Int32) = (copN (ar 13) (ar 6) 0) := by first | rfl | (simp only [copN]; done) | (simp only [copN, ↓reduceIte]; done) | (simp only [copN, ↓reduceIte] <;> rfl) | (simp [copN]; done)
  refine v_cong (es' := (wl D b (va_up sc 4 (sc 5)) (va_up (va_up (va_up ar 4 (copN (ar 11) (ar 4) 0)) 5 (copN (ar 12) (ar 5) 0)) 6 (copN (ar 13) (ar 6) 0)) hn mh G)) (lv' := [(2, .int (nI 0)), (0, .ref (b + 3)), (1, .ref (b + 10))]) (cg3 (fun (y0 : Nat → Int32) (y1 : Nat → Int32) (y2 : Nat → Int32) => wl D b (va_up sc 4 (sc 5)) (va_up (va_up (va_up ar 4 y0) 5 y1) 6 y2) hn mh G) e_2 e_3 e_4) (cg1 (fun (z0 : Int32) => ([(2, .int z0), (0, .ref (b + 3)), (1, .ref (b + 10))] : List (Nat × Value))) e_1) ?_
  refine loop_dn (P := fun i_10 => V p l e { frames := 0, cells := 0, slots := 0, locals := 0 } s m args below meth c D b 3 (MQ below (cQ D b 0 (fun r es' => r = none ∧ wl D b (va_up sc 4 (sc 5)) (va_up (va_up (va_up ar 4 (copN (ar 11) (ar 4) 6)) 5 (copN (ar 12) (ar 5) 6)) 6 (copN (ar 13) (ar 6) 6)) hn mh G = es')) args s 0 0 (fun q => b ≤ q)) 0 0 (wl D b (va_up sc 4 (sc 5)) (va_up (va_up (va_up ar 4 (copN (ar 11) (ar 4) i_10)) 5 (copN (ar 12) (ar 5) i_10)) 6 (copN (ar 13) (ar 6) i_10)) hn mh G) [(2, .int (nI i_10)), (0, .ref (b + 3)), (1, .ref (b + 10))] [] 10) 6 ?_ (fun i_10 hi_10 ih_10 => ?_)
  · skip
    have g_5 : (6 : Int32) ≤ (nI 6) := by decide
    refine v_iload_n (n := 11) C dX8_become_10 rfl rfl rfl ?_
    refine v_bipush (n := 13) (v := 6) C dX8_become_11 rfl (by decide) ?_
    refine v_icmp_ge (t := 58) (n := 16) C dX8_become_13 (by decide) rfl (fun c_6 => ?_) (fun c_6 => ?_)
    · skip
      exact v_vret C dX8_become_58 rfl ⟨rfl, rfl⟩
    · first | exact absurd c_6 g_5 | exact absurd g_5 c_6 | exact absurd c_6 (Int32.not_le.mpr g_5) | exact absurd c_6 (Int32.not_lt.mpr g_5) | exact absurd (Int32.not_le.mp g_5) c_6 | exact absurd (Int32.not_lt.mp g_5) c_6 | exact absurd (Int32.not_le.mp g_5) (Int32.not_lt.mpr c_6) | exact absurd (Int32.not_lt.mp g_5) (Int32.not_le.mpr c_6) | exact absurd (Int32.not_lt.mp c_6) (Int32.not_le.mpr (Int32.not_le.mp g_5))
  · skip
    have g_7 : ¬ (6 : Int32) ≤ (nI i_10) := nI_ge (a := i_10 + 0) (b := 6) (by omega) (by decide)
    refine v_iload_n (n := 11) C dX8_become_10 rfl rfl rfl ?_
    refine v_bipush (n := 13) (v := 6) C dX8_become_11 rfl (by decide) ?_
    refine v_icmp_ge (t := 58) (n := 16) C dX8_become_13 (by decide) rfl (fun c_8 => ?_) (fun c_8 => ?_)
    · first | exact absurd c_8 g_7 | exact absurd g_7 c_8 | exact absurd c_8 (Int32.not_le.mpr g_7) | exact absurd c_8 (Int32.not_lt.mpr g_7) | exact absurd (Int32.not_le.mp g_7) c_8 | exact absurd (Int32.not_lt.mp g_7) c_8 | exact absurd (Int32.not_le.mp g_7) (Int32.not_lt.mpr c_8) | exact absurd (Int32.not_lt.mp g_7) (Int32.not_le.mpr c_8) | exact absurd (Int32.not_lt.mp c_8) (Int32.not_le.mpr (Int32.not_le.mp g_7))
    · skip
      refine v_aload_n (n := 17) C dX8_become_16 rfl rfl rfl ?_
      refine v_get (n := 20) C dX8_become_17 rfl fl_X8_9_X8 (show (wl D b (va_up sc 4 (sc 5)) (va_up (va_up (va_up ar 4 (copN (ar 11) (ar 4) i_10)) 5 (copN (ar 12) (ar 5) i_10)) 6 (copN (ar 13) (ar 6) i_10)) hn mh G)[3]? = some (.inr (8, [.int (sc 5), .ref (b + 4), .ref (b + 5), .ref (b + 6), .ref (b + 7), .ref (b + 8)])) from wl_c3) rfl ?_
      refine v_iload_n (n := 21) C dX8_become_20 rfl rfl rfl ?_
      refine v_aload_n (n := 22) C dX8_become_21 rfl rfl rfl ?_
      refine v_get (n := 25) C dX8_become_22 rfl fl_X8_9_X8 (show (wl D b (va_up sc 4 (sc 5)) (va_up (va_up (va_up ar 4 (copN (ar 11) (ar 4) i_10)) 5 (copN (ar 12) (ar 5) i_10)) 6 (copN (ar 13) (ar 6) i_10)) hn mh G)[10]? = some (.inr (8, [.int (sc 5), .ref (b + 11), .ref (b + 12), .ref (b + 13), .ref (b + 14), .ref (b + 15)])) from wl_c10) rfl ?_
      refine v_iload_n (n := 26) C dX8_become_25 rfl rfl rfl ?_
      refine v_iald (n := 27) C dX8_become_26 rfl (show (wl D b (va_up sc 4 (sc 5)) (va_up (va_up (va_up ar 4 (copN (ar 11) (ar 4) i_10)) 5 (copN (ar 12) (ar 5) i_10)) 6 (copN (ar 13) (ar 6) i_10)) hn mh G)[11]? = some (.inl (D.1 13, 6, .inl (ar 11))) from wl_c11) (nI_vp hi_10 (by decide) (by decide)) ?_
      refine v_stk (st' := .int ((ar 11) i_10) :: [.int (nI i_10), .ref (b + 4)]) (congrArg (fun z : Nat => Value.int ((ar 11) z) :: [.int (nI i_10), .ref (b + 4)]) (nI_clamp (show i_10 < 2 ^ 31 by omega))) ?_
      refine v_iast (n := 28) (es' := (wl D b (va_up sc 4 (sc 5)) (va_up (va_up (va_up ar 4 (upd (copN (ar 11) (ar 4) i_10) i_10 ((ar 11) i_10))) 5 (copN (ar 12) (ar 5) i_10)) 6 (copN (ar 13) (ar 6) i_10)) hn mh G)) C dX8_become_27 rfl (show (wl D b (va_up sc 4 (sc 5)) (va_up (va_up (va_up ar 4 (copN (ar 11) (ar 4) i_10)) 5 (copN (ar 12) (ar 5) i_10)) 6 (copN (ar 13) (ar 6) i_10)) hn mh G)[4]? = some (.inl (D.1 13, 6, .inl (copN (ar 11) (ar 4) i_10))) from wl_c4) (nI_vp hi_10 (by decide) (by decide)) (by rw [nI_clamp (show i_10 < 2 ^ 31 by omega)]; exact rfl) ?_
      refine v_aload_n (n := 29) C dX8_become_28 rfl rfl rfl ?_
      refine v_get (n := 32) C dX8_become_29 rfl fl_X8_15_X8 (show (wl D b (va_up sc 4 (sc 5)) (va_up (va_up (va_up ar 4 (upd (copN (ar 11) (ar 4) i_10) i_10 ((ar 11) i_10))) 5 (copN (ar 12) (ar 5) i_10)) 6 (copN (ar 13) (ar 6) i_10)) hn mh G)[3]? = some (.inr (8, [.int (sc 5), .ref (b + 4), .ref (b + 5), .ref (b + 6), .ref (b + 7), .ref (b + 8)])) from wl_c3) rfl ?_
      refine v_iload_n (n := 33) C dX8_become_32 rfl rfl rfl ?_
      refine v_aload_n (n := 34) C dX8_become_33 rfl rfl rfl ?_
      refine v_get (n := 37) C dX8_become_34 rfl fl_X8_15_X8 (show (wl D b (va_up sc 4 (sc 5)) (va_up (va_up (va_up ar 4 (upd (copN (ar 11) (ar 4) i_10) i_10 ((ar 11) i_10))) 5 (copN (ar 12) (ar 5) i_10)) 6 (copN (ar 13) (ar 6) i_10)) hn mh G)[10]? = some (.inr (8, [.int (sc 5), .ref (b + 11), .ref (b + 12), .ref (b + 13), .ref (b + 14), .ref (b + 15)])) from wl_c10) rfl ?_
      refine v_iload_n (n := 38) C dX8_become_37 rfl rfl rfl ?_
      refine v_iald (n := 39) C dX8_become_38 rfl (show (wl D b (va_up sc 4 (sc 5)) (va_up (va_up (va_up ar 4 (upd (copN (ar 11) (ar 4) i_10) i_10 ((ar 11) i_10))) 5 (copN (ar 12) (ar 5) i_10)) 6 (copN (ar 13) (ar 6) i_10)) hn mh G)[12]? = some (.inl (D.1 13, 6, .inl (ar 12))) from wl_c12) (nI_vp hi_10 (by decide) (by decide)) ?_
      refine v_stk (st' := .int ((ar 12) i_10) :: [.int (nI i_10), .ref (b + 5)]) (congrArg (fun z : Nat => Value.int ((ar 12) z) :: [.int (nI i_10), .ref (b + 5)]) (nI_clamp (show i_10 < 2 ^ 31 by omega))) ?_
      refine v_iast (n := 40) (es' := (wl D b (va_up sc 4 (sc 5)) (va_up (va_up (va_up ar 4 (upd (copN (ar 11) (ar 4) i_10) i_10 ((ar 11) i_10))) 5 (upd (copN (ar 12) (ar 5) i_10) i_10 ((ar 12) i_10))) 6 (copN (ar 13) (ar 6) i_10)) hn mh G)) C dX8_become_39 rfl (show (wl D b (va_up sc 4 (sc 5)) (va_up (va_up (va_up ar 4 (upd (copN (ar 11) (ar 4) i_10) i_10 ((ar 11) i_10))) 5 (copN (ar 12) (ar 5) i_10)) 6 (copN (ar 13) (ar 6) i_10)) hn mh G)[5]? = some (.inl (D.1 13, 6, .inl (copN (ar 12) (ar 5) i_10))) from wl_c5) (nI_vp hi_10 (by decide) (by decide)) (by rw [nI_clamp (show i_10 < 2 ^ 31 by omega)]; exact rfl) ?_
      refine v_aload_n (n := 41) C dX8_become_40 rfl rfl rfl ?_
      refine v_get (n := 44) C dX8_become_41 rfl fl_X8_18_X8 (show (wl D b (va_up sc 4 (sc 5)) (va_up (va_up (va_up ar 4 (upd (copN (ar 11) (ar 4) i_10) i_10 ((ar 11) i_10))) 5 (upd (copN (ar 12) (ar 5) i_10) i_10 ((ar 12) i_10))) 6 (copN (ar 13) (ar 6) i_10)) hn mh G)[3]? = some (.inr (8, [.int (sc 5), .ref (b + 4), .ref (b + 5), .ref (b + 6), .ref (b + 7), .ref (b + 8)])) from wl_c3) rfl ?_
      refine v_iload_n (n := 45) C dX8_become_44 rfl rfl rfl ?_
      refine v_aload_n (n := 46) C dX8_become_45 rfl rfl rfl ?_
      refine v_get (n := 49) C dX8_become_46 rfl fl_X8_18_X8 (show (wl D b (va_up sc 4 (sc 5)) (va_up (va_up (va_up ar 4 (upd (copN (ar 11) (ar 4) i_10) i_10 ((ar 11) i_10))) 5 (upd (copN (ar 12) (ar 5) i_10) i_10 ((ar 12) i_10))) 6 (copN (ar 13) (ar 6) i_10)) hn mh G)[10]? = some (.inr (8, [.int (sc 5), .ref (b + 11), .ref (b + 12), .ref (b + 13), .ref (b + 14), .ref (b + 15)])) from wl_c10) rfl ?_
      refine v_iload_n (n := 50) C dX8_become_49 rfl rfl rfl ?_
      refine v_iald (n := 51) C dX8_become_50 rfl (show (wl D b (va_up sc 4 (sc 5)) (va_up (va_up (va_up ar 4 (upd (copN (ar 11) (ar 4) i_10) i_10 ((ar 11) i_10))) 5 (upd (copN (ar 12) (ar 5) i_10) i_10 ((ar 12) i_10))) 6 (copN (ar 13) (ar 6) i_10)) hn mh G)[13]? = some (.inl (D.1 13, 6, .inl (ar 13))) from wl_c13) (nI_vp hi_10 (by decide) (by decide)) ?_
      refine v_stk (st' := .int ((ar 13) i_10) :: [.int (nI i_10), .ref (b + 6)]) (congrArg (fun z : Nat => Value.int ((ar 13) z) :: [.int (nI i_10), .ref (b + 6)]) (nI_clamp (show i_10 < 2 ^ 31 by omega))) ?_
      refine v_iast (n := 52) (es' := (wl D b (va_up sc 4 (sc 5)) (va_up (va_up (va_up ar 4 (upd (copN (ar 11) (ar 4) i_10) i_10 ((ar 11) i_10))) 5 (upd (copN (ar 12) (ar 5) i_10) i_10 ((ar 12) i_10))) 6 (upd (copN (ar 13) (ar 6) i_10) i_10 ((ar 13) i_10))) hn mh G)) C dX8_become_51 rfl (show (wl D b (va_up sc 4 (sc 5)) (va_up (va_up (va_up ar 4 (upd (copN (ar 11) (ar 4) i_10) i_10 ((ar 11) i_10))) 5 (upd (copN (ar 12) (ar 5) i_10) i_10 ((ar 12) i_10))) 6 (copN (ar 13) (ar 6) i_10)) hn mh G)[6]? = some (.inl (D.1 13, 6, .inl (copN (ar 13) (ar 6) i_10))) from wl_c6) (nI_vp hi_10 (by decide) (by decide)) (by rw [nI_clamp (show i_10 < 2 ^ 31 by omega)]; exact rfl) ?_
      refine v_iinc (n := 55) (v := ((nI i_10) + 1)) (lv' := [(2, .int ((nI i_10) + 1)), (0, .ref (b + 3)), (1, .ref (b + 10))]) C dX8_become_52 rfl rfl rfl (Nat.le_of_ble_eq_true rfl) rfl ?_
      refine v_goto (t := 10) C dX8_become_55 (by decide) ?_
      refine v_pick (lv' := [(2, .int ((nI i_10) + 1)), (0, .ref (b + 3)), (1, .ref (b + 10))]) [0, 1, 2] rfl ?_
      have e_9 : ((nI i_10) + 1) = (nI (i_10 + 1)) := nI_1 _
      have e_10 : ((upd (copN (ar 11) (ar 4) i_10) i_10 ((ar 11) i_10)) : Nat → Int32) = (copN (ar 11) (ar 4) (i_10 + 1)) := by first | rfl | (simp only [copN, if_neg g_7, if_pos (Int32.not_le.mp g_7), if_neg c_8, if_pos (Int32.not_le.mp c_8)]; done) | (simp only [copN, eq_false g_7, eq_true (Int32.not_le.mp g_7), eq_false c_8, eq_true (Int32.not_le.mp c_8), ↓reduceIte]; done) | (simp only [copN, eq_false g_7, eq_true (Int32.not_le.mp g_7), eq_false c_8, eq_true (Int32.not_le.mp c_8), ↓reduceIte] <;> rfl) | (simp [copN, g_7, c_8]; done)
      have e_11 : ((upd (copN (ar 12) (ar 5) i_10) i_10 ((ar 12) i_10)) : Nat → Int32) = (copN (ar 12) (ar 5) (i_10 + 1)) := by first | rfl | (simp only [copN, if_neg g_7, if_pos (Int32.not_le.mp g_7), if_neg c_8, if_pos (Int32.not_le.mp c_8)]; done) | (simp only [copN, eq_false g_7, eq_true (Int32.not_le.mp g_7), eq_false c_8, eq_true (Int32.not_le.mp c_8), ↓reduceIte]; done) | (simp only [copN, eq_false g_7, eq_true (Int32.not_le.mp g_7), eq_false c_8, eq_true (Int32.not_le.mp c_8), ↓reduceIte] <;> rfl) | (simp [copN, g_7, c_8]; done)
      have e_12 : ((upd (copN (ar 13) (ar 6) i_10) i_10 ((ar 13) i_10)) : Nat → Int32) = (copN (ar 13) (ar 6) (i_10 + 1)) := by first | rfl | (simp only [copN, if_neg g_7, if_pos (Int32.not_le.mp g_7), if_neg c_8, if_pos (Int32.not_le.mp c_8)]; done) | (simp only [copN, eq_false g_7, eq_true (Int32.not_le.mp g_7), eq_false c_8, eq_true (Int32.not_le.mp c_8), ↓reduceIte]; done) | (simp only [copN, eq_false g_7, eq_true (Int32.not_le.mp g_7), eq_false c_8, eq_true (Int32.not_le.mp c_8), ↓reduceIte] <;> rfl) | (simp [copN, g_7, c_8]; done)
      refine v_cong (es' := (wl D b (va_up sc 4 (sc 5)) (va_up (va_up (va_up ar 4 (copN (ar 11) (ar 4) (i_10 + 1))) 5 (copN (ar 12) (ar 5) (i_10 + 1))) 6 (copN (ar 13) (ar 6) (i_10 + 1))) hn mh G)) (lv' := [(2, .int (nI (i_10 + 1))), (0, .ref (b + 3)), (1, .ref (b + 10))]) (cg3 (fun (y0 : Nat → Int32) (y1 : Nat → Int32) (y2 : Nat → Int32) => wl D b (va_up sc 4 (sc 5)) (va_up (va_up (va_up ar 4 y0) 5 y1) 6 y2) hn mh G) e_10 e_11 e_12) (cg1 (fun (z0 : Int32) => ([(2, .int z0), (0, .ref (b + 3)), (1, .ref (b + 10))] : List (Nat × Value))) e_9) ?_
      exact ih_10
set_option maxHeartbeats 4000000 in
set_option maxRecDepth 100000 in
theorem c_become10 (l : Launch) (D : va_G) (b : Nat) (sc : Nat → Int32) (ar : Nat → Nat → Int32) (hn : Nat → Option Nat) (mh : Int64) (G : List va_E)  : Con l yX8_become cX8_become 3 none 0 0 D b 0 0 (wl D b sc ar hn mh G) [.ref (b + 10), .ref (b + 3)] (fun r es' => r = none ∧ wl D b (va_up sc 5 (sc 4)) (va_up (va_up (va_up ar 11 (copN (ar 4) (ar 11) 6)) 12 (copN (ar 5) (ar 12) 6)) 13 (copN (ar 6) (ar 13) 6)) hn mh G = es') := by
  refine con_of (by decide) (Nat.le_of_ble_eq_true rfl) (fun p e s m args below meth c C hsz => ?_)
  have C : vC p s m args meth c cX8_become 3 RX8 "become" none D b := C
  change V p l e _ s m args below meth c D b 3 _ 0 0 (wl D b sc ar hn mh G) [(0, .ref (b + 10)), (1, .ref (b + 3))] [] 0
  refine v_aload_n (n := 1) C dX8_become_0 rfl rfl rfl ?_
  refine v_aload_n (n := 2) C dX8_become_1 rfl rfl rfl ?_
  refine v_get (n := 5) C dX8_become_2 rfl fl_X8_27_X8 wl_c3 rfl ?_
  refine v_put (n := 8) (es' := (wl D b (va_up sc 5 (sc 4)) ar hn mh G)) C dX8_become_5 rfl fl_X8_27_X8 (fp_any fp_X8_0) wl_c10 rfl rfl (Nat.le_of_ble_eq_true rfl) wl_p10_0 ?_
  refine v_iconst (n := 9) (v := 0) C dX8_become_8 rfl (by decide) ?_
  refine v_istore_n (n := 10) (lv' := [(2, .int 0), (0, .ref (b + 10)), (1, .ref (b + 3))]) C dX8_become_9 rfl rfl (Nat.le_of_ble_eq_true rfl) rfl ?_
  refine v_pick (lv' := [(2, .int 0), (0, .ref (b + 10)), (1, .ref (b + 3))]) [0, 1, 2] rfl ?_
  have e_1 : (0 : Int32) = (nI 0) := rfl
  refine v_cong (es' := (wl D b (va_up sc 5 (sc 4)) (va_up (va_up (va_up ar 11 (ar 11)) 12 (ar 12)) 13 (ar 13)) hn mh G)) (lv' := [(2, .int 0), (0, .ref (b + 10)), (1, .ref (b + 3))]) rfl rfl ?_
  have e_2 : ((ar 11) : Nat → Int32) = (copN (ar 4) (ar 11) 0) := by first | rfl | (simp only [copN]; done) | (simp only [copN, ↓reduceIte]; done) | (simp only [copN, ↓reduceIte] <;> rfl) | (simp [copN]; done)
  have e_3 : ((ar 12) : Nat → Int32) = (copN (ar 5) (ar 12) 0) := by first | rfl | (simp only [copN]; done) | (simp only [copN, ↓reduceIte]; done) | (simp only [copN, ↓reduceIte] <;> rfl) | (simp [copN]; done)
  have e_4 : ((ar 13) : Nat → Int32) = (copN (ar 6) (ar 13) 0) := by first | rfl | (simp only [copN]; done) | (simp only [copN, ↓reduceIte]; done) | (simp only [copN, ↓reduceIte] <;> rfl) | (simp [copN]; done)
  refine v_cong (es' := (wl D b (va_up sc 5 (sc 4)) (va_up (va_up (va_up ar 11 (copN (ar 4) (ar 11) 0)) 12 (copN (ar 5) (ar 12) 0)) 13 (copN (ar 6) (ar 13) 0)) hn mh G)) (lv' := [(2, .int (nI 0)), (0, .ref (b + 10)), (1, .ref (b + 3))]) (cg3 (fun (y0 : Nat → Int32) (y1 : Nat → Int32) (y2 : Nat → Int32) => wl D b (va_up sc 5 (sc 4)) (va_up (va_up (va_up ar 11 y0) 12 y1) 13 y2) hn mh G) e_2 e_3 e_4) (cg1 (fun (z0 : Int32) => ([(2, .int z0), (0, .ref (b + 10)), (1, .ref (b + 3))] : List (Nat × Value))) e_1) ?_
  refine loop_dn (P := fun i_10 => V p l e { frames := 0, cells := 0, slots := 0, locals := 0 } s m args below meth c D b 3 (MQ below (cQ D b 0 (fun r es' => r = none ∧ wl D b (va_up sc 5 (sc 4)) (va_up (va_up (va_up ar 11 (copN (ar 4) (ar 11) 6)) 12 (copN (ar 5) (ar 12) 6)) 13 (copN (ar 6) (ar 13) 6)) hn mh G = es')) args s 0 0 (fun q => b ≤ q)) 0 0 (wl D b (va_up sc 5 (sc 4)) (va_up (va_up (va_up ar 11 (copN (ar 4) (ar 11) i_10)) 12 (copN (ar 5) (ar 12) i_10)) 13 (copN (ar 6) (ar 13) i_10)) hn mh G) [(2, .int (nI i_10)), (0, .ref (b + 10)), (1, .ref (b + 3))] [] 10) 6 ?_ (fun i_10 hi_10 ih_10 => ?_)
  · skip
    have g_5 : (6 : Int32) ≤ (nI 6) := by decide
    refine v_iload_n (n := 11) C dX8_become_10 rfl rfl rfl ?_
    refine v_bipush (n := 13) (v := 6) C dX8_become_11 rfl (by decide) ?_
    refine v_icmp_ge (t := 58) (n := 16) C dX8_become_13 (by decide) rfl (fun c_6 => ?_) (fun c_6 => ?_)
    · skip
      exact v_vret C dX8_become_58 rfl ⟨rfl, rfl⟩
    · first | exact absurd c_6 g_5 | exact absurd g_5 c_6 | exact absurd c_6 (Int32.not_le.mpr g_5) | exact absurd c_6 (Int32.not_lt.mpr g_5) | exact absurd (Int32.not_le.mp g_5) c_6 | exact absurd (Int32.not_lt.mp g_5) c_6 | exact absurd (Int32.not_le.mp g_5) (Int32.not_lt.mpr c_6) | exact absurd (Int32.not_lt.mp g_5) (Int32.not_le.mpr c_6) | exact absurd (Int32.not_lt.mp c_6) (Int32.not_le.mpr (Int32.not_le.mp g_5))
  · skip
    have g_7 : ¬ (6 : Int32) ≤ (nI i_10) := nI_ge (a := i_10 + 0) (b := 6) (by omega) (by decide)
    refine v_iload_n (n := 11) C dX8_become_10 rfl rfl rfl ?_
    refine v_bipush (n := 13) (v := 6) C dX8_become_11 rfl (by decide) ?_
    refine v_icmp_ge (t := 58) (n := 16) C dX8_become_13 (by decide) rfl (fun c_8 => ?_) (fun c_8 => ?_)
    · first | exact absurd c_8 g_7 | exact absurd g_7 c_8 | exact absurd c_8 (Int32.not_le.mpr g_7) | exact absurd c_8 (Int32.not_lt.mpr g_7) | exact absurd (Int32.not_le.mp g_7) c_8 | exact absurd (Int32.not_lt.mp g_7) c_8 | exact absurd (Int32.not_le.mp g_7) (Int32.not_lt.mpr c_8) | exact absurd (Int32.not_lt.mp g_7) (Int32.not_le.mpr c_8) | exact absurd (Int32.not_lt.mp c_8) (Int32.not_le.mpr (Int32.not_le.mp g_7))
    · skip
      refine v_aload_n (n := 17) C dX8_become_16 rfl rfl rfl ?_
      refine v_get (n := 20) C dX8_become_17 rfl fl_X8_9_X8 (show (wl D b (va_up sc 5 (sc 4)) (va_up (va_up (va_up ar 11 (copN (ar 4) (ar 11) i_10)) 12 (copN (ar 5) (ar 12) i_10)) 13 (copN (ar 6) (ar 13) i_10)) hn mh G)[10]? = some (.inr (8, [.int (sc 4), .ref (b + 11), .ref (b + 12), .ref (b + 13), .ref (b + 14), .ref (b + 15)])) from wl_c10) rfl ?_
      refine v_iload_n (n := 21) C dX8_become_20 rfl rfl rfl ?_
      refine v_aload_n (n := 22) C dX8_become_21 rfl rfl rfl ?_
      refine v_get (n := 25) C dX8_become_22 rfl fl_X8_9_X8 (show (wl D b (va_up sc 5 (sc 4)) (va_up (va_up (va_up ar 11 (copN (ar 4) (ar 11) i_10)) 12 (copN (ar 5) (ar 12) i_10)) 13 (copN (ar 6) (ar 13) i_10)) hn mh G)[3]? = some (.inr (8, [.int (sc 4), .ref (b + 4), .ref (b + 5), .ref (b + 6), .ref (b + 7), .ref (b + 8)])) from wl_c3) rfl ?_
      refine v_iload_n (n := 26) C dX8_become_25 rfl rfl rfl ?_
      refine v_iald (n := 27) C dX8_become_26 rfl (show (wl D b (va_up sc 5 (sc 4)) (va_up (va_up (va_up ar 11 (copN (ar 4) (ar 11) i_10)) 12 (copN (ar 5) (ar 12) i_10)) 13 (copN (ar 6) (ar 13) i_10)) hn mh G)[4]? = some (.inl (D.1 13, 6, .inl (ar 4))) from wl_c4) (nI_vp hi_10 (by decide) (by decide)) ?_
      refine v_stk (st' := .int ((ar 4) i_10) :: [.int (nI i_10), .ref (b + 11)]) (congrArg (fun z : Nat => Value.int ((ar 4) z) :: [.int (nI i_10), .ref (b + 11)]) (nI_clamp (show i_10 < 2 ^ 31 by omega))) ?_
      refine v_iast (n := 28) (es' := (wl D b (va_up sc 5 (sc 4)) (va_up (va_up (va_up ar 11 (upd (copN (ar 4) (ar 11) i_10) i_10 ((ar 4) i_10))) 12 (copN (ar 5) (ar 12) i_10)) 13 (copN (ar 6) (ar 13) i_10)) hn mh G)) C dX8_become_27 rfl (show (wl D b (va_up sc 5 (sc 4)) (va_up (va_up (va_up ar 11 (copN (ar 4) (ar 11) i_10)) 12 (copN (ar 5) (ar 12) i_10)) 13 (copN (ar 6) (ar 13) i_10)) hn mh G)[11]? = some (.inl (D.1 13, 6, .inl (copN (ar 4) (ar 11) i_10))) from wl_c11) (nI_vp hi_10 (by decide) (by decide)) (by rw [nI_clamp (show i_10 < 2 ^ 31 by omega)]; exact rfl) ?_
      refine v_aload_n (n := 29) C dX8_become_28 rfl rfl rfl ?_
      refine v_get (n := 32) C dX8_become_29 rfl fl_X8_15_X8 (show (wl D b (va_up sc 5 (sc 4)) (va_up (va_up (va_up ar 11 (upd (copN (ar 4) (ar 11) i_10) i_10 ((ar 4) i_10))) 12 (copN (ar 5) (ar 12) i_10)) 13 (copN (ar 6) (ar 13) i_10)) hn mh G)[10]? = some (.inr (8, [.int (sc 4), .ref (b + 11), .ref (b + 12), .ref (b + 13), .ref (b + 14), .ref (b + 15)])) from wl_c10) rfl ?_
      refine v_iload_n (n := 33) C dX8_become_32 rfl rfl rfl ?_
      refine v_aload_n (n := 34) C dX8_become_33 rfl rfl rfl ?_
      refine v_get (n := 37) C dX8_become_34 rfl fl_X8_15_X8 (show (wl D b (va_up sc 5 (sc 4)) (va_up (va_up (va_up ar 11 (upd (copN (ar 4) (ar 11) i_10) i_10 ((ar 4) i_10))) 12 (copN (ar 5) (ar 12) i_10)) 13 (copN (ar 6) (ar 13) i_10)) hn mh G)[3]? = some (.inr (8, [.int (sc 4), .ref (b + 4), .ref (b + 5), .ref (b + 6), .ref (b + 7), .ref (b + 8)])) from wl_c3) rfl ?_
      refine v_iload_n (n := 38) C dX8_become_37 rfl rfl rfl ?_
      refine v_iald (n := 39) C dX8_become_38 rfl (show (wl D b (va_up sc 5 (sc 4)) (va_up (va_up (va_up ar 11 (upd (copN (ar 4) (ar 11) i_10) i_10 ((ar 4) i_10))) 12 (copN (ar 5) (ar 12) i_10)) 13 (copN (ar 6) (ar 13) i_10)) hn mh G)[5]? = some (.inl (D.1 13, 6, .inl (ar 5))) from wl_c5) (nI_vp hi_10 (by decide) (by decide)) ?_
      refine v_stk (st' := .int ((ar 5) i_10) :: [.int (nI i_10), .ref (b + 12)]) (congrArg (fun z : Nat => Value.int ((ar 5) z) :: [.int (nI i_10), .ref (b + 12)]) (nI_clamp (show i_10 < 2 ^ 31 by omega))) ?_
      refine v_iast (n := 40) (es' := (wl D b (va_up sc 5 (sc 4)) (va_up (va_up (va_up ar 11 (upd (copN (ar 4) (ar 11) i_10) i_10 ((ar 4) i_10))) 12 (upd (copN (ar 5) (ar 12) i_10) i_10 ((ar 5) i_10))) 13 (copN (ar 6) (ar 13) i_10)) hn mh G)) C dX8_become_39 rfl (show (wl D b (va_up sc 5 (sc 4)) (va_up (va_up (va_up ar 11 (upd (copN (ar 4) (ar 11) i_10) i_10 ((ar 4) i_10))) 12 (copN (ar 5) (ar 12) i_10)) 13 (copN (ar 6) (ar 13) i_10)) hn mh G)[12]? = some (.inl (D.1 13, 6, .inl (copN (ar 5) (ar 12) i_10))) from wl_c12) (nI_vp hi_10 (by decide) (by decide)) (by rw [nI_clamp (show i_10 < 2 ^ 31 by omega)]; exact rfl) ?_
      refine v_aload_n (n := 41) C dX8_become_40 rfl rfl rfl ?_
      refine v_get (n := 44) C dX8_become_41 rfl fl_X8_18_X8 (show (wl D b (va_up sc 5 (sc 4)) (va_up (va_up (va_up ar 11 (upd (copN (ar 4) (ar 11) i_10) i_10 ((ar 4) i_10))) 12 (upd (copN (ar 5) (ar 12) i_10) i_10 ((ar 5) i_10))) 13 (copN (ar 6) (ar 13) i_10)) hn mh G)[10]? = some (.inr (8, [.int (sc 4), .ref (b + 11), .ref (b + 12), .ref (b + 13), .ref (b + 14), .ref (b + 15)])) from wl_c10) rfl ?_
      refine v_iload_n (n := 45) C dX8_become_44 rfl rfl rfl ?_
      refine v_aload_n (n := 46) C dX8_become_45 rfl rfl rfl ?_
      refine v_get (n := 49) C dX8_become_46 rfl fl_X8_18_X8 (show (wl D b (va_up sc 5 (sc 4)) (va_up (va_up (va_up ar 11 (upd (copN (ar 4) (ar 11) i_10) i_10 ((ar 4) i_10))) 12 (upd (copN (ar 5) (ar 12) i_10) i_10 ((ar 5) i_10))) 13 (copN (ar 6) (ar 13) i_10)) hn mh G)[3]? = some (.inr (8, [.int (sc 4), .ref (b + 4), .ref (b + 5), .ref (b + 6), .ref (b + 7), .ref (b + 8)])) from wl_c3) rfl ?_
      refine v_iload_n (n := 50) C dX8_become_49 rfl rfl rfl ?_
      refine v_iald (n := 51) C dX8_become_50 rfl (show (wl D b (va_up sc 5 (sc 4)) (va_up (va_up (va_up ar 11 (upd (copN (ar 4) (ar 11) i_10) i_10 ((ar 4) i_10))) 12 (upd (copN (ar 5) (ar 12) i_10) i_10 ((ar 5) i_10))) 13 (copN (ar 6) (ar 13) i_10)) hn mh G)[6]? = some (.inl (D.1 13, 6, .inl (ar 6))) from wl_c6) (nI_vp hi_10 (by decide) (by decide)) ?_
      refine v_stk (st' := .int ((ar 6) i_10) :: [.int (nI i_10), .ref (b + 13)]) (congrArg (fun z : Nat => Value.int ((ar 6) z) :: [.int (nI i_10), .ref (b + 13)]) (nI_clamp (show i_10 < 2 ^ 31 by omega))) ?_
      refine v_iast (n := 52) (es' := (wl D b (va_up sc 5 (sc 4)) (va_up (va_up (va_up ar 11 (upd (copN (ar 4) (ar 11) i_10) i_10 ((ar 4) i_10))) 12 (upd (copN (ar 5) (ar 12) i_10) i_10 ((ar 5) i_10))) 13 (upd (copN (ar 6) (ar 13) i_10) i_10 ((ar 6) i_10))) hn mh G)) C dX8_become_51 rfl (show (wl D b (va_up sc 5 (sc 4)) (va_up (va_up (va_up ar 11 (upd (copN (ar 4) (ar 11) i_10) i_10 ((ar 4) i_10))) 12 (upd (copN (ar 5) (ar 12) i_10) i_10 ((ar 5) i_10))) 13 (copN (ar 6) (ar 13) i_10)) hn mh G)[13]? = some (.inl (D.1 13, 6, .inl (copN (ar 6) (ar 13) i_10))) from wl_c13) (nI_vp hi_10 (by decide) (by decide)) (by rw [nI_clamp (show i_10 < 2 ^ 31 by omega)]; exact rfl) ?_
      refine v_iinc (n := 55) (v := ((nI i_10) + 1)) (lv' := [(2, .int ((nI i_10) + 1)), (0, .ref (b + 10)), (1, .ref (b + 3))]) C dX8_become_52 rfl rfl rfl (Nat.le_of_ble_eq_true rfl) rfl ?_
      refine v_goto (t := 10) C dX8_become_55 (by decide) ?_
      refine v_pick (lv' := [(2, .int ((nI i_10) + 1)), (0, .ref (b + 10)), (1, .ref (b + 3))]) [0, 1, 2] rfl ?_
      have e_9 : ((nI i_10) + 1) = (nI (i_10 + 1)) := nI_1 _
      have e_10 : ((upd (copN (ar 4) (ar 11) i_10) i_10 ((ar 4) i_10)) : Nat → Int32) = (copN (ar 4) (ar 11) (i_10 + 1)) := by first | rfl | (simp only [copN, if_neg g_7, if_pos (Int32.not_le.mp g_7), if_neg c_8, if_pos (Int32.not_le.mp c_8)]; done) | (simp only [copN, eq_false g_7, eq_true (Int32.not_le.mp g_7), eq_false c_8, eq_true (Int32.not_le.mp c_8), ↓reduceIte]; done) | (simp only [copN, eq_false g_7, eq_true (Int32.not_le.mp g_7), eq_false c_8, eq_true (Int32.not_le.mp c_8), ↓reduceIte] <;> rfl) | (simp [copN, g_7, c_8]; done)
      have e_11 : ((upd (copN (ar 5) (ar 12) i_10) i_10 ((ar 5) i_10)) : Nat → Int32) = (copN (ar 5) (ar 12) (i_10 + 1)) := by first | rfl | (simp only [copN, if_neg g_7, if_pos (Int32.not_le.mp g_7), if_neg c_8, if_pos (Int32.not_le.mp c_8)]; done) | (simp only [copN, eq_false g_7, eq_true (Int32.not_le.mp g_7), eq_false c_8, eq_true (Int32.not_le.mp c_8), ↓reduceIte]; done) | (simp only [copN, eq_false g_7, eq_true (Int32.not_le.mp g_7), eq_false c_8, eq_true (Int32.not_le.mp c_8), ↓reduceIte] <;> rfl) | (simp [copN, g_7, c_8]; done)
      have e_12 : ((upd (copN (ar 6) (ar 13) i_10) i_10 ((ar 6) i_10)) : Nat → Int32) = (copN (ar 6) (ar 13) (i_10 + 1)) := by first | rfl | (simp only [copN, if_neg g_7, if_pos (Int32.not_le.mp g_7), if_neg c_8, if_pos (Int32.not_le.mp c_8)]; done) | (simp only [copN, eq_false g_7, eq_true (Int32.not_le.mp g_7), eq_false c_8, eq_true (Int32.not_le.mp c_8), ↓reduceIte]; done) | (simp only [copN, eq_false g_7, eq_true (Int32.not_le.mp g_7), eq_false c_8, eq_true (Int32.not_le.mp c_8), ↓reduceIte] <;> rfl) | (simp [copN, g_7, c_8]; done)
      refine v_cong (es' := (wl D b (va_up sc 5 (sc 4)) (va_up (va_up (va_up ar 11 (copN (ar 4) (ar 11) (i_10 + 1))) 12 (copN (ar 5) (ar 12) (i_10 + 1))) 13 (copN (ar 6) (ar 13) (i_10 + 1))) hn mh G)) (lv' := [(2, .int (nI (i_10 + 1))), (0, .ref (b + 10)), (1, .ref (b + 3))]) (cg3 (fun (y0 : Nat → Int32) (y1 : Nat → Int32) (y2 : Nat → Int32) => wl D b (va_up sc 5 (sc 4)) (va_up (va_up (va_up ar 11 y0) 12 y1) 13 y2) hn mh G) e_10 e_11 e_12) (cg1 (fun (z0 : Int32) => ([(2, .int z0), (0, .ref (b + 10)), (1, .ref (b + 3))] : List (Nat × Value))) e_9) ?_
      exact ih_10
def lkN (ar : Nat → Nat → Int32) (mn : Int32) (x : Int32) (my : Nat → Int32) : Nat → Int32 × (Nat → Int32)
  | 0 => (0, my)
  | i + 1 => if mn ≤ nI i then lkN ar mn x my i else if ar 4 i = x then (if ar 6 i < 0 then lkN ar mn x my i else if 41 ≤ ar 6 i then lkN ar mn x my i else
      (if (lkN ar mn x my i).1 ≤ ar 6 i then ar 6 i else (lkN ar mn x my i).1, upd (lkN ar mn x my i).2 (ar 6 i).toNatClampNeg ((lkN ar mn x my i).2 (ar 6 i).toNatClampNeg &&& ((1 : Int32) <<< (ar 5 i &&& 31))))) else lkN ar mn x my i
theorem lkN_stop {ar : Nat → Nat → Int32} {mn x : Int32} {my : Nat → Int32} {i : Nat} (hi : i < 6) (h : mn ≤ nI i) : lkN ar mn x my 6 = lkN ar mn x my i := by
  have k : ∀ n, i + n ≤ 6 → lkN ar mn x my (i + n) = lkN ar mn x my i := by
    intro n
    induction n with
    | zero => intro _; rfl
    | succ n ih =>
      intro hn
      have h2 : mn ≤ nI (i + n) := Int32.le_trans h (nI_le (by omega) (by omega))
      rw [← Nat.add_assoc, lkN, if_pos h2]
      exact ih (by omega)
  have := k (6 - i) (by omega)
  rwa [show i + (6 - i) = 6 by omega] at this
