def jnQ (sc : Nat → Int32) (ar : Nat → Nat → Int32) (hv : HV) (t s : Int32) : JS := juT (ar 24) (sc 16) hv (sc 3, s, 0, sc 19, jbN hv (ar 23) 3) t.toNatClampNeg
def jnF (sc : Nat → Int32) (ar : Nat → Nat → Int32) (hv : HV) (t s w : Int32) : Int32 := if t < 1 then -102 else if 20 < t then -102 else if s < 0 then -102 else if w < 0 then -102 else if 3 < w then -102 else if sc 16 ≤ 0 then -103 else
  if w = 0 then (jnQ sc ar hv t s).2.2.1 else if w = 1 then jsN (ar 24) (sc 16) (jnQ sc ar hv t s).1 hv (jnQ sc ar hv t s).2.2.2.2 3 else if w = 2 then (jnQ sc ar hv t s).1 else (jnQ sc ar hv t s).2.1
theorem ju_t {t : Int32} (h1 : ¬ t < 1) (h2 : ¬ 20 < t) : ∃ T, T ≤ 20 ∧ t = nI T := by
  have h3 : ¬ t < 0 := fun q => h1 (by
    rw [Int32.lt_iff_toInt_lt] at q ⊢
    have e0 : (0 : Int32).toInt = 0 := rfl
    have e1 : (1 : Int32).toInt = 1 := rfl
    omega)
  exact nI_of2 (n := 20) (M := 20) rfl h3 (Int32.not_lt.mp h2)
set_option maxHeartbeats 4000000 in
set_option maxRecDepth 100000 in
theorem c_junes (l : Launch) (D : va_G) (b : Nat) (sc : Nat → Int32) (ar : Nat → Nat → Int32) (hn : Nat → Option Nat) (mh : Int64) (G : List va_E) (x y w : Int32) (hv : HV) (hr : HVr hn G hv) : Con l yX11_junes cX11_junes 4 (some .int) 5 122 D b 0 0 (wl D b sc ar hn mh G) [.ref (b + 0), .int x, .int y, .int w] (fun r es' => r = some (.int (jnF sc ar hv x y w)) ∧ ∃ sc' ar', Per sc ar sc' ar' ∧ wl D b sc' ar' hn mh G = es') := by
  refine con_of (by decide) (Nat.le_of_ble_eq_true rfl) (fun p e s m args below meth c C hsz => ?_)
  have C : vC p s m args meth c cX11_junes 4 RX11 "junes" (some .int) D b := C
  change V p l e _ s m args below meth c D b 4 _ 0 0 (wl D b sc ar hn mh G) [(0, .ref (b + 0)), (1, .int x), (2, .int y), (3, .int w)] [] 0
  refine v_iload_n (n := 1) C dX11_junes_0 rfl rfl rfl ?_
  refine v_iconst (n := 2) (v := 1) C dX11_junes_1 rfl (by decide) ?_
  refine v_icmp_lt (t := 24) (n := 5) C dX11_junes_2 (by decide) rfl (fun c_1 => ?_) (fun c_1 => ?_)
  · skip
    refine v_bipush (n := 26) (v := -102) C dX11_junes_24 rfl (by decide) ?_
    exact v_iret C dX11_junes_26 rfl rfl ⟨by simp only [jnF, eq_true c_1, eq_false (Int32.not_le.mpr c_1), ↓reduceIte], sc, ar, Per_rf, rfl⟩
  · skip
    refine v_iload_n (n := 6) C dX11_junes_5 rfl rfl rfl ?_
    refine v_bipush (n := 8) (v := 20) C dX11_junes_6 rfl (by decide) ?_
    refine v_icmp_gt (t := 24) (n := 11) C dX11_junes_8 (by decide) rfl (fun c_2 => ?_) (fun c_2 => ?_)
    · skip
      refine v_bipush (n := 26) (v := -102) C dX11_junes_24 rfl (by decide) ?_
      exact v_iret C dX11_junes_26 rfl rfl ⟨by simp only [jnF, eq_false c_1, eq_true (Int32.not_lt.mp c_1), eq_true c_2, eq_false (Int32.not_le.mpr c_2), ↓reduceIte], sc, ar, Per_rf, rfl⟩
    · skip
      refine v_iload_n (n := 12) C dX11_junes_11 rfl rfl rfl ?_
      refine v_if_lt (t := 24) (n := 15) C dX11_junes_12 (by decide) rfl (fun c_3 => ?_) (fun c_3 => ?_)
      · skip
        refine v_bipush (n := 26) (v := -102) C dX11_junes_24 rfl (by decide) ?_
        exact v_iret C dX11_junes_26 rfl rfl ⟨by simp only [jnF, eq_false c_1, eq_true (Int32.not_lt.mp c_1), eq_false c_2, eq_true (Int32.not_lt.mp c_2), eq_true c_3, eq_false (Int32.not_le.mpr c_3), ↓reduceIte], sc, ar, Per_rf, rfl⟩
      · skip
        refine v_iload_n (n := 16) C dX11_junes_15 rfl rfl rfl ?_
        refine v_if_lt (t := 24) (n := 19) C dX11_junes_16 (by decide) rfl (fun c_4 => ?_) (fun c_4 => ?_)
        · skip
          refine v_bipush (n := 26) (v := -102) C dX11_junes_24 rfl (by decide) ?_
          exact v_iret C dX11_junes_26 rfl rfl ⟨by simp only [jnF, eq_false c_1, eq_true (Int32.not_lt.mp c_1), eq_false c_2, eq_true (Int32.not_lt.mp c_2), eq_false c_3, eq_true (Int32.not_lt.mp c_3), eq_true c_4, eq_false (Int32.not_le.mpr c_4), ↓reduceIte], sc, ar, Per_rf, rfl⟩
        · skip
          refine v_iload_n (n := 20) C dX11_junes_19 rfl rfl rfl ?_
          refine v_iconst (n := 21) (v := 3) C dX11_junes_20 rfl (by decide) ?_
          refine v_icmp_le (t := 27) (n := 24) C dX11_junes_21 (by decide) rfl (fun c_5 => ?_) (fun c_5 => ?_)
          · skip
            refine v_aload_n (n := 28) C dX11_junes_27 rfl rfl rfl ?_
            refine v_go (n := 31) C (vRun_V (As := []) (rest := []) C wl_c0 rfl lk_X11_119 im_X11_hasPlain se_X11_hasPlain dX11_junes_28 (c_hasPlain l D b sc ar hn mh G) wm_X11_hasPlain rfl rfl ⟨Nat.le_of_ble_eq_true rfl, Nat.le_of_ble_eq_true rfl⟩ ⟨Nat.le_of_ble_eq_true rfl, Nat.le_of_ble_eq_true rfl⟩ (Nat.le_of_ble_eq_true rfl)) rfl ?_
            rintro _ _ ⟨rfl, rfl⟩ -
            by_cases p_6 : (sc 16) ≤ 0
            · skip
              refine v_stk (st' := .int 0 :: []) (congrArg (fun z : Int32 => Value.int z :: []) (show hpF (sc 16) = 0 by simp only [hpF, if_pos p_6])) ?_
              refine v_if_ne (t := 37) (n := 34) C dX11_junes_31 (by decide) rfl (fun c_7 => ?_) (fun c_7 => ?_)
              · exact absurd c_7 (by decide)
              · skip
                refine v_bipush (n := 36) (v := -103) C dX11_junes_34 rfl (by decide) ?_
                exact v_iret C dX11_junes_36 rfl rfl ⟨by simp only [jnF, eq_false c_1, eq_true (Int32.not_lt.mp c_1), eq_false c_2, eq_true (Int32.not_lt.mp c_2), eq_false c_3, eq_true (Int32.not_lt.mp c_3), eq_false c_4, eq_true (Int32.not_lt.mp c_4), eq_true c_5, eq_false (Int32.not_lt.mpr c_5), eq_true p_6, eq_false (Int32.not_lt.mpr p_6), eq_true c_7, ↓reduceIte], sc, ar, Per_rf, rfl⟩
            refine v_stk (st' := .int 1 :: []) (congrArg (fun z : Int32 => Value.int z :: []) (show hpF (sc 16) = 1 by simp only [hpF, if_neg p_6])) ?_
            refine v_if_ne (t := 37) (n := 34) C dX11_junes_31 (by decide) rfl (fun c_8 => ?_) (fun c_8 => ?_)
            · skip
              refine v_aload_n (n := 38) C dX11_junes_37 rfl rfl rfl ?_
              refine v_get (n := 41) C dX11_junes_38 rfl fl_X11_63_X11 wl_c0 rfl ?_
              refine v_aload_n (n := 42) C dX11_junes_41 rfl rfl rfl ?_
              refine v_get (n := 45) C dX11_junes_42 rfl fl_X11_59_X11 wl_c0 rfl ?_
              refine v_get (n := 48) C dX11_junes_45 rfl fl_X11_96_X7 wl_c25 rfl ?_
              refine v_put (n := 51) (es' := (wl D b (va_up sc 18 (sc 16)) ar hn mh G)) C dX11_junes_48 rfl fl_X11_96_X7 (fp_any fp_X7_1) wl_c26 rfl rfl (Nat.le_of_ble_eq_true rfl) wl_p26_1 ?_
              refine v_aload_n (n := 52) C dX11_junes_51 rfl rfl rfl ?_
              refine v_get (n := 55) C dX11_junes_52 rfl fl_X11_50_X11 (show (wl D b (va_up sc 18 (sc 16)) ar hn mh G)[0]? = some (.inr (11, [.ref (b + 1), .int (sc 0), .int (sc 1), .ref (b + 25), .ref (b + 26), .ref (b + 2), .int (sc 2), .int (sc 3), .ref (b + 3), .ref (b + 9), .ref (b + 18), .ref (b + 21), .ref (b + 22)])) from wl_c0) rfl ?_
              refine v_aload_n (n := 56) C dX11_junes_55 rfl rfl rfl ?_
              refine v_get (n := 59) C dX11_junes_56 rfl fl_X11_15_X11 (show (wl D b (va_up sc 18 (sc 16)) ar hn mh G)[0]? = some (.inr (11, [.ref (b + 1), .int (sc 0), .int (sc 1), .ref (b + 25), .ref (b + 26), .ref (b + 2), .int (sc 2), .int (sc 3), .ref (b + 3), .ref (b + 9), .ref (b + 18), .ref (b + 21), .ref (b + 22)])) from wl_c0) rfl ?_
              refine v_aload_n (n := 60) C dX11_junes_59 rfl rfl rfl ?_
              refine v_get (n := 63) C dX11_junes_60 rfl fl_X11_106_X11 (show (wl D b (va_up sc 18 (sc 16)) ar hn mh G)[0]? = some (.inr (11, [.ref (b + 1), .int (sc 0), .int (sc 1), .ref (b + 25), .ref (b + 26), .ref (b + 2), .int (sc 2), .int (sc 3), .ref (b + 3), .ref (b + 9), .ref (b + 18), .ref (b + 21), .ref (b + 22)])) from wl_c0) rfl ?_
              refine v_iload_n (n := 64) C dX11_junes_63 rfl rfl rfl ?_
              refine v_go (n := 67) C (vRun_V (As := [.ref (b + 2), .int (sc 3), .int y]) (rest := []) C (show (wl D b (va_up sc 18 (sc 16)) ar hn mh G)[22]? = some (.inr (6, [.ref (b + 23), .int (sc 13), .int (sc 14), .int (sc 15)])) from wl_c22) rfl lk_X11_194 im_X6_begin se_X6_begin dX11_junes_64 (c_begin l D b (va_up sc 18 (sc 16)) ar hn mh G (sc 3) y hv hr) wm_X6_begin rfl rfl ⟨Nat.le_of_ble_eq_true rfl, Nat.le_of_ble_eq_true rfl⟩ ⟨Nat.le_of_ble_eq_true rfl, Nat.le_of_ble_eq_true rfl⟩ (Nat.le_of_ble_eq_true rfl)) rfl ?_
              rintro _ _ ⟨rfl, rfl⟩ -
              refine v_aload_n (n := 68) C dX11_junes_67 rfl rfl rfl ?_
              refine v_get (n := 71) C dX11_junes_68 rfl fl_X11_50_X11 (show (wl D b (va_up (va_up (va_up (va_up sc 18 (sc 16)) 13 (sc 3)) 14 y) 15 0) (va_up ar 23 (jbN hv (ar 23) 3)) hn mh G)[0]? = some (.inr (11, [.ref (b + 1), .int (sc 0), .int (sc 1), .ref (b + 25), .ref (b + 26), .ref (b + 2), .int (sc 2), .int (sc 3), .ref (b + 3), .ref (b + 9), .ref (b + 18), .ref (b + 21), .ref (b + 22)])) from wl_c0) rfl ?_
              refine v_aload_n (n := 72) C dX11_junes_71 rfl rfl rfl ?_
              refine v_get (n := 75) C dX11_junes_72 rfl fl_X11_63_X11 (show (wl D b (va_up (va_up (va_up (va_up sc 18 (sc 16)) 13 (sc 3)) 14 y) 15 0) (va_up ar 23 (jbN hv (ar 23) 3)) hn mh G)[0]? = some (.inr (11, [.ref (b + 1), .int (sc 0), .int (sc 1), .ref (b + 25), .ref (b + 26), .ref (b + 2), .int (sc 2), .int (sc 3), .ref (b + 3), .ref (b + 9), .ref (b + 18), .ref (b + 21), .ref (b + 22)])) from wl_c0) rfl ?_
              refine v_aload_n (n := 76) C dX11_junes_75 rfl rfl rfl ?_
              refine v_get (n := 79) C dX11_junes_76 rfl fl_X11_15_X11 (show (wl D b (va_up (va_up (va_up (va_up sc 18 (sc 16)) 13 (sc 3)) 14 y) 15 0) (va_up ar 23 (jbN hv (ar 23) 3)) hn mh G)[0]? = some (.inr (11, [.ref (b + 1), .int (sc 0), .int (sc 1), .ref (b + 25), .ref (b + 26), .ref (b + 2), .int (sc 2), .int (sc 3), .ref (b + 3), .ref (b + 9), .ref (b + 18), .ref (b + 21), .ref (b + 22)])) from wl_c0) rfl ?_
              refine v_iload_n (n := 80) C dX11_junes_79 rfl rfl rfl ?_
              obtain ⟨T, hT20, eT⟩ := ju_t c_1 c_2
              have eT2 : Int32.toNatClampNeg x = T := by rw [eT]; exact nI_clamp (by omega)
              refine v_stk (st' := .int (nI T) :: [.ref (b + 2), .ref (b + 26), .ref (b + 22)]) (congrArg (fun z : Int32 => Value.int z :: [.ref (b + 2), .ref (b + 26), .ref (b + 22)]) eT) ?_
              refine v_go (n := 83) C (vRun_V (As := [.ref (b + 26), .ref (b + 2), .int (nI T)]) (rest := []) C (show (wl D b (va_up (va_up (va_up (va_up sc 18 (sc 16)) 13 (sc 3)) 14 y) 15 0) (va_up ar 23 (jbN hv (ar 23) 3)) hn mh G)[22]? = some (.inr (6, [.ref (b + 23), .int (sc 3), .int y, .int 0])) from wl_c22) rfl lk_X11_198 im_X6_run se_X6_run dX11_junes_80 (c_run l D b (va_up (va_up (va_up (va_up sc 18 (sc 16)) 13 (sc 3)) 14 y) 15 0) (va_up ar 23 (jbN hv (ar 23) 3)) hn mh G T hT20 hv hr) wm_X6_run rfl rfl ⟨Nat.le_of_ble_eq_true rfl, Nat.le_of_ble_eq_true rfl⟩ ⟨Nat.le_of_ble_eq_true rfl, Nat.le_of_ble_eq_true rfl⟩ (Nat.le_of_ble_eq_true rfl)) rfl ?_
              rintro _ _ ⟨rfl, rfl⟩ -
              refine v_cong (es' := (wl D b (va_up (va_up (va_up (va_up (va_up sc 18 (sc 16)) 13 (juT (ar 24) (sc 16) hv ((sc 3), y, 0, (sc 19), (jbN hv (ar 23) 3)) T).1) 14 (juT (ar 24) (sc 16) hv ((sc 3), y, 0, (sc 19), (jbN hv (ar 23) 3)) T).2.1) 15 (juT (ar 24) (sc 16) hv ((sc 3), y, 0, (sc 19), (jbN hv (ar 23) 3)) T).2.2.1) 19 (juT (ar 24) (sc 16) hv ((sc 3), y, 0, (sc 19), (jbN hv (ar 23) 3)) T).2.2.2.1) (va_up ar 23 (juT (ar 24) (sc 16) hv ((sc 3), y, 0, (sc 19), (jbN hv (ar 23) 3)) T).2.2.2.2) hn mh G)) (lv' := [(0, .ref (b + 0)), (1, .int x), (2, .int y), (3, .int w)]) rfl rfl ?_
              refine v_iload_n (n := 84) C dX11_junes_83 rfl rfl rfl ?_
              by_cases c_12 : w = 0
              · refine v_tableIn (t := 112) C dX11_junes_84 (by rw [c_12]; decide) (by rw [c_12]; decide) (by rw [c_12]; rfl) (by decide) ?_
                refine v_aload_n (n := 113) C dX11_junes_112 rfl rfl rfl ?_
                refine v_get (n := 116) C dX11_junes_113 rfl fl_X11_50_X11 (show (wl D b (va_up (va_up (va_up (va_up (va_up sc 18 (sc 16)) 13 (juT (ar 24) (sc 16) hv ((sc 3), y, 0, (sc 19), (jbN hv (ar 23) 3)) T).1) 14 (juT (ar 24) (sc 16) hv ((sc 3), y, 0, (sc 19), (jbN hv (ar 23) 3)) T).2.1) 15 (juT (ar 24) (sc 16) hv ((sc 3), y, 0, (sc 19), (jbN hv (ar 23) 3)) T).2.2.1) 19 (juT (ar 24) (sc 16) hv ((sc 3), y, 0, (sc 19), (jbN hv (ar 23) 3)) T).2.2.2.1) (va_up ar 23 (juT (ar 24) (sc 16) hv ((sc 3), y, 0, (sc 19), (jbN hv (ar 23) 3)) T).2.2.2.2) hn mh G)[0]? = some (.inr (11, [.ref (b + 1), .int (sc 0), .int (sc 1), .ref (b + 25), .ref (b + 26), .ref (b + 2), .int (sc 2), .int (sc 3), .ref (b + 3), .ref (b + 9), .ref (b + 18), .ref (b + 21), .ref (b + 22)])) from wl_c0) rfl ?_
                refine v_get (n := 119) C dX11_junes_116 rfl fl_X11_202_X6 (show (wl D b (va_up (va_up (va_up (va_up (va_up sc 18 (sc 16)) 13 (juT (ar 24) (sc 16) hv ((sc 3), y, 0, (sc 19), (jbN hv (ar 23) 3)) T).1) 14 (juT (ar 24) (sc 16) hv ((sc 3), y, 0, (sc 19), (jbN hv (ar 23) 3)) T).2.1) 15 (juT (ar 24) (sc 16) hv ((sc 3), y, 0, (sc 19), (jbN hv (ar 23) 3)) T).2.2.1) 19 (juT (ar 24) (sc 16) hv ((sc 3), y, 0, (sc 19), (jbN hv (ar 23) 3)) T).2.2.2.1) (va_up ar 23 (juT (ar 24) (sc 16) hv ((sc 3), y, 0, (sc 19), (jbN hv (ar 23) 3)) T).2.2.2.2) hn mh G)[22]? = some (.inr (6, [.ref (b + 23), .int (juT (ar 24) (sc 16) hv ((sc 3), y, 0, (sc 19), (jbN hv (ar 23) 3)) T).1, .int (juT (ar 24) (sc 16) hv ((sc 3), y, 0, (sc 19), (jbN hv (ar 23) 3)) T).2.1, .int (juT (ar 24) (sc 16) hv ((sc 3), y, 0, (sc 19), (jbN hv (ar 23) 3)) T).2.2.1])) from wl_c22) rfl ?_
                exact v_iret C dX11_junes_119 rfl rfl ⟨by first | (simp only [jnF, eq_false c_1, eq_true (Int32.not_lt.mp c_1), eq_false c_2, eq_true (Int32.not_lt.mp c_2), eq_false c_3, eq_true (Int32.not_lt.mp c_3), eq_false c_4, eq_true (Int32.not_lt.mp c_4), eq_true c_5, eq_false (Int32.not_lt.mpr c_5), eq_false p_6, eq_true (Int32.not_le.mp p_6), eq_false c_8, eq_true c_12, ↓reduceIte, jnQ, eT2]; done) | (simp only [jnF, eq_false c_1, eq_true (Int32.not_lt.mp c_1), eq_false c_2, eq_true (Int32.not_lt.mp c_2), eq_false c_3, eq_true (Int32.not_lt.mp c_3), eq_false c_4, eq_true (Int32.not_lt.mp c_4), eq_true c_5, eq_false (Int32.not_lt.mpr c_5), eq_false p_6, eq_true (Int32.not_le.mp p_6), eq_false c_8, eq_true c_12, ↓reduceIte, jnQ, eT2] <;> rfl), (va_up (va_up (va_up (va_up (va_up sc 18 (sc 16)) 13 (juT (ar 24) (sc 16) hv ((sc 3), y, 0, (sc 19), (jbN hv (ar 23) 3)) T).1) 14 (juT (ar 24) (sc 16) hv ((sc 3), y, 0, (sc 19), (jbN hv (ar 23) 3)) T).2.1) 15 (juT (ar 24) (sc 16) hv ((sc 3), y, 0, (sc 19), (jbN hv (ar 23) 3)) T).2.2.1) 19 (juT (ar 24) (sc 16) hv ((sc 3), y, 0, (sc 19), (jbN hv (ar 23) 3)) T).2.2.2.1), (va_up ar 23 (juT (ar 24) (sc 16) hv ((sc 3), y, 0, (sc 19), (jbN hv (ar 23) 3)) T).2.2.2.2), (Per_a (by decide) (Per_s (by decide) (Per_s (by decide) (Per_s (by decide) (Per_s (by decide) (Per_s (by decide) Per_rf)))))), rfl⟩
              by_cases c_13 : w = 1
              · refine v_tableIn (t := 120) C dX11_junes_84 (by rw [c_13]; decide) (by rw [c_13]; decide) (by rw [c_13]; rfl) (by decide) ?_
                refine v_aload_n (n := 121) C dX11_junes_120 rfl rfl rfl ?_
                refine v_get (n := 124) C dX11_junes_121 rfl fl_X11_50_X11 (show (wl D b (va_up (va_up (va_up (va_up (va_up sc 18 (sc 16)) 13 (juT (ar 24) (sc 16) hv ((sc 3), y, 0, (sc 19), (jbN hv (ar 23) 3)) T).1) 14 (juT (ar 24) (sc 16) hv ((sc 3), y, 0, (sc 19), (jbN hv (ar 23) 3)) T).2.1) 15 (juT (ar 24) (sc 16) hv ((sc 3), y, 0, (sc 19), (jbN hv (ar 23) 3)) T).2.2.1) 19 (juT (ar 24) (sc 16) hv ((sc 3), y, 0, (sc 19), (jbN hv (ar 23) 3)) T).2.2.2.1) (va_up ar 23 (juT (ar 24) (sc 16) hv ((sc 3), y, 0, (sc 19), (jbN hv (ar 23) 3)) T).2.2.2.2) hn mh G)[0]? = some (.inr (11, [.ref (b + 1), .int (sc 0), .int (sc 1), .ref (b + 25), .ref (b + 26), .ref (b + 2), .int (sc 2), .int (sc 3), .ref (b + 3), .ref (b + 9), .ref (b + 18), .ref (b + 21), .ref (b + 22)])) from wl_c0) rfl ?_
                refine v_aload_n (n := 125) C dX11_junes_124 rfl rfl rfl ?_
                refine v_get (n := 128) C dX11_junes_125 rfl fl_X11_63_X11 (show (wl D b (va_up (va_up (va_up (va_up (va_up sc 18 (sc 16)) 13 (juT (ar 24) (sc 16) hv ((sc 3), y, 0, (sc 19), (jbN hv (ar 23) 3)) T).1) 14 (juT (ar 24) (sc 16) hv ((sc 3), y, 0, (sc 19), (jbN hv (ar 23) 3)) T).2.1) 15 (juT (ar 24) (sc 16) hv ((sc 3), y, 0, (sc 19), (jbN hv (ar 23) 3)) T).2.2.1) 19 (juT (ar 24) (sc 16) hv ((sc 3), y, 0, (sc 19), (jbN hv (ar 23) 3)) T).2.2.2.1) (va_up ar 23 (juT (ar 24) (sc 16) hv ((sc 3), y, 0, (sc 19), (jbN hv (ar 23) 3)) T).2.2.2.2) hn mh G)[0]? = some (.inr (11, [.ref (b + 1), .int (sc 0), .int (sc 1), .ref (b + 25), .ref (b + 26), .ref (b + 2), .int (sc 2), .int (sc 3), .ref (b + 3), .ref (b + 9), .ref (b + 18), .ref (b + 21), .ref (b + 22)])) from wl_c0) rfl ?_
                refine v_aload_n (n := 129) C dX11_junes_128 rfl rfl rfl ?_
                refine v_get (n := 132) C dX11_junes_129 rfl fl_X11_15_X11 (show (wl D b (va_up (va_up (va_up (va_up (va_up sc 18 (sc 16)) 13 (juT (ar 24) (sc 16) hv ((sc 3), y, 0, (sc 19), (jbN hv (ar 23) 3)) T).1) 14 (juT (ar 24) (sc 16) hv ((sc 3), y, 0, (sc 19), (jbN hv (ar 23) 3)) T).2.1) 15 (juT (ar 24) (sc 16) hv ((sc 3), y, 0, (sc 19), (jbN hv (ar 23) 3)) T).2.2.1) 19 (juT (ar 24) (sc 16) hv ((sc 3), y, 0, (sc 19), (jbN hv (ar 23) 3)) T).2.2.2.1) (va_up ar 23 (juT (ar 24) (sc 16) hv ((sc 3), y, 0, (sc 19), (jbN hv (ar 23) 3)) T).2.2.2.2) hn mh G)[0]? = some (.inr (11, [.ref (b + 1), .int (sc 0), .int (sc 1), .ref (b + 25), .ref (b + 26), .ref (b + 2), .int (sc 2), .int (sc 3), .ref (b + 3), .ref (b + 9), .ref (b + 18), .ref (b + 21), .ref (b + 22)])) from wl_c0) rfl ?_
                refine v_go (n := 135) C (vRun_V (As := [.ref (b + 26), .ref (b + 2)]) (rest := []) C (show (wl D b (va_up (va_up (va_up (va_up (va_up sc 18 (sc 16)) 13 (juT (ar 24) (sc 16) hv ((sc 3), y, 0, (sc 19), (jbN hv (ar 23) 3)) T).1) 14 (juT (ar 24) (sc 16) hv ((sc 3), y, 0, (sc 19), (jbN hv (ar 23) 3)) T).2.1) 15 (juT (ar 24) (sc 16) hv ((sc 3), y, 0, (sc 19), (jbN hv (ar 23) 3)) T).2.2.1) 19 (juT (ar 24) (sc 16) hv ((sc 3), y, 0, (sc 19), (jbN hv (ar 23) 3)) T).2.2.2.1) (va_up ar 23 (juT (ar 24) (sc 16) hv ((sc 3), y, 0, (sc 19), (jbN hv (ar 23) 3)) T).2.2.2.2) hn mh G)[22]? = some (.inr (6, [.ref (b + 23), .int (juT (ar 24) (sc 16) hv ((sc 3), y, 0, (sc 19), (jbN hv (ar 23) 3)) T).1, .int (juT (ar 24) (sc 16) hv ((sc 3), y, 0, (sc 19), (jbN hv (ar 23) 3)) T).2.1, .int (juT (ar 24) (sc 16) hv ((sc 3), y, 0, (sc 19), (jbN hv (ar 23) 3)) T).2.2.1])) from wl_c22) rfl lk_X11_205 im_X6_stranded se_X6_stranded dX11_junes_132 (c_stranded l D b (va_up (va_up (va_up (va_up (va_up sc 18 (sc 16)) 13 (juT (ar 24) (sc 16) hv ((sc 3), y, 0, (sc 19), (jbN hv (ar 23) 3)) T).1) 14 (juT (ar 24) (sc 16) hv ((sc 3), y, 0, (sc 19), (jbN hv (ar 23) 3)) T).2.1) 15 (juT (ar 24) (sc 16) hv ((sc 3), y, 0, (sc 19), (jbN hv (ar 23) 3)) T).2.2.1) 19 (juT (ar 24) (sc 16) hv ((sc 3), y, 0, (sc 19), (jbN hv (ar 23) 3)) T).2.2.2.1) (va_up ar 23 (juT (ar 24) (sc 16) hv ((sc 3), y, 0, (sc 19), (jbN hv (ar 23) 3)) T).2.2.2.2) hn mh G hv hr) wm_X6_stranded rfl rfl ⟨Nat.le_of_ble_eq_true rfl, Nat.le_of_ble_eq_true rfl⟩ ⟨Nat.le_of_ble_eq_true rfl, Nat.le_of_ble_eq_true rfl⟩ (Nat.le_of_ble_eq_true rfl)) rfl ?_
                rintro _ _ ⟨rfl, rfl⟩ -
                exact v_iret C dX11_junes_135 rfl rfl ⟨by first | (simp only [jnF, eq_false c_1, eq_true (Int32.not_lt.mp c_1), eq_false c_2, eq_true (Int32.not_lt.mp c_2), eq_false c_3, eq_true (Int32.not_lt.mp c_3), eq_false c_4, eq_true (Int32.not_lt.mp c_4), eq_true c_5, eq_false (Int32.not_lt.mpr c_5), eq_false p_6, eq_true (Int32.not_le.mp p_6), eq_false c_8, eq_false c_12, eq_true c_13, ↓reduceIte, jnQ, eT2]; done) | (simp only [jnF, eq_false c_1, eq_true (Int32.not_lt.mp c_1), eq_false c_2, eq_true (Int32.not_lt.mp c_2), eq_false c_3, eq_true (Int32.not_lt.mp c_3), eq_false c_4, eq_true (Int32.not_lt.mp c_4), eq_true c_5, eq_false (Int32.not_lt.mpr c_5), eq_false p_6, eq_true (Int32.not_le.mp p_6), eq_false c_8, eq_false c_12, eq_true c_13, ↓reduceIte, jnQ, eT2] <;> rfl), (va_up (va_up (va_up (va_up (va_up sc 18 (sc 16)) 13 (juT (ar 24) (sc 16) hv ((sc 3), y, 0, (sc 19), (jbN hv (ar 23) 3)) T).1) 14 (juT (ar 24) (sc 16) hv ((sc 3), y, 0, (sc 19), (jbN hv (ar 23) 3)) T).2.1) 15 (juT (ar 24) (sc 16) hv ((sc 3), y, 0, (sc 19), (jbN hv (ar 23) 3)) T).2.2.1) 19 (juT (ar 24) (sc 16) hv ((sc 3), y, 0, (sc 19), (jbN hv (ar 23) 3)) T).2.2.2.1), (va_up ar 23 (juT (ar 24) (sc 16) hv ((sc 3), y, 0, (sc 19), (jbN hv (ar 23) 3)) T).2.2.2.2), (Per_a (by decide) (Per_s (by decide) (Per_s (by decide) (Per_s (by decide) (Per_s (by decide) (Per_s (by decide) Per_rf)))))), rfl⟩
              by_cases c_14 : w = 2
              · refine v_tableIn (t := 136) C dX11_junes_84 (by rw [c_14]; decide) (by rw [c_14]; decide) (by rw [c_14]; rfl) (by decide) ?_
                refine v_aload_n (n := 137) C dX11_junes_136 rfl rfl rfl ?_
                refine v_get (n := 140) C dX11_junes_137 rfl fl_X11_50_X11 (show (wl D b (va_up (va_up (va_up (va_up (va_up sc 18 (sc 16)) 13 (juT (ar 24) (sc 16) hv ((sc 3), y, 0, (sc 19), (jbN hv (ar 23) 3)) T).1) 14 (juT (ar 24) (sc 16) hv ((sc 3), y, 0, (sc 19), (jbN hv (ar 23) 3)) T).2.1) 15 (juT (ar 24) (sc 16) hv ((sc 3), y, 0, (sc 19), (jbN hv (ar 23) 3)) T).2.2.1) 19 (juT (ar 24) (sc 16) hv ((sc 3), y, 0, (sc 19), (jbN hv (ar 23) 3)) T).2.2.2.1) (va_up ar 23 (juT (ar 24) (sc 16) hv ((sc 3), y, 0, (sc 19), (jbN hv (ar 23) 3)) T).2.2.2.2) hn mh G)[0]? = some (.inr (11, [.ref (b + 1), .int (sc 0), .int (sc 1), .ref (b + 25), .ref (b + 26), .ref (b + 2), .int (sc 2), .int (sc 3), .ref (b + 3), .ref (b + 9), .ref (b + 18), .ref (b + 21), .ref (b + 22)])) from wl_c0) rfl ?_
                refine v_get (n := 143) C dX11_junes_140 rfl fl_X11_209_X6 (show (wl D b (va_up (va_up (va_up (va_up (va_up sc 18 (sc 16)) 13 (juT (ar 24) (sc 16) hv ((sc 3), y, 0, (sc 19), (jbN hv (ar 23) 3)) T).1) 14 (juT (ar 24) (sc 16) hv ((sc 3), y, 0, (sc 19), (jbN hv (ar 23) 3)) T).2.1) 15 (juT (ar 24) (sc 16) hv ((sc 3), y, 0, (sc 19), (jbN hv (ar 23) 3)) T).2.2.1) 19 (juT (ar 24) (sc 16) hv ((sc 3), y, 0, (sc 19), (jbN hv (ar 23) 3)) T).2.2.2.1) (va_up ar 23 (juT (ar 24) (sc 16) hv ((sc 3), y, 0, (sc 19), (jbN hv (ar 23) 3)) T).2.2.2.2) hn mh G)[22]? = some (.inr (6, [.ref (b + 23), .int (juT (ar 24) (sc 16) hv ((sc 3), y, 0, (sc 19), (jbN hv (ar 23) 3)) T).1, .int (juT (ar 24) (sc 16) hv ((sc 3), y, 0, (sc 19), (jbN hv (ar 23) 3)) T).2.1, .int (juT (ar 24) (sc 16) hv ((sc 3), y, 0, (sc 19), (jbN hv (ar 23) 3)) T).2.2.1])) from wl_c22) rfl ?_
                exact v_iret C dX11_junes_143 rfl rfl ⟨by first | (simp only [jnF, eq_false c_1, eq_true (Int32.not_lt.mp c_1), eq_false c_2, eq_true (Int32.not_lt.mp c_2), eq_false c_3, eq_true (Int32.not_lt.mp c_3), eq_false c_4, eq_true (Int32.not_lt.mp c_4), eq_true c_5, eq_false (Int32.not_lt.mpr c_5), eq_false p_6, eq_true (Int32.not_le.mp p_6), eq_false c_8, eq_false c_12, eq_false c_13, eq_true c_14, ↓reduceIte, jnQ, eT2]; done) | (simp only [jnF, eq_false c_1, eq_true (Int32.not_lt.mp c_1), eq_false c_2, eq_true (Int32.not_lt.mp c_2), eq_false c_3, eq_true (Int32.not_lt.mp c_3), eq_false c_4, eq_true (Int32.not_lt.mp c_4), eq_true c_5, eq_false (Int32.not_lt.mpr c_5), eq_false p_6, eq_true (Int32.not_le.mp p_6), eq_false c_8, eq_false c_12, eq_false c_13, eq_true c_14, ↓reduceIte, jnQ, eT2] <;> rfl), (va_up (va_up (va_up (va_up (va_up sc 18 (sc 16)) 13 (juT (ar 24) (sc 16) hv ((sc 3), y, 0, (sc 19), (jbN hv (ar 23) 3)) T).1) 14 (juT (ar 24) (sc 16) hv ((sc 3), y, 0, (sc 19), (jbN hv (ar 23) 3)) T).2.1) 15 (juT (ar 24) (sc 16) hv ((sc 3), y, 0, (sc 19), (jbN hv (ar 23) 3)) T).2.2.1) 19 (juT (ar 24) (sc 16) hv ((sc 3), y, 0, (sc 19), (jbN hv (ar 23) 3)) T).2.2.2.1), (va_up ar 23 (juT (ar 24) (sc 16) hv ((sc 3), y, 0, (sc 19), (jbN hv (ar 23) 3)) T).2.2.2.2), (Per_a (by decide) (Per_s (by decide) (Per_s (by decide) (Per_s (by decide) (Per_s (by decide) (Per_s (by decide) Per_rf)))))), rfl⟩
              refine v_tableOut (t := 144) C dX11_junes_84 (sw_out3 c_12 c_13 c_14) (by decide) ?_
              refine v_aload_n (n := 145) C dX11_junes_144 rfl rfl rfl ?_
              refine v_get (n := 148) C dX11_junes_145 rfl fl_X11_50_X11 (show (wl D b (va_up (va_up (va_up (va_up (va_up sc 18 (sc 16)) 13 (juT (ar 24) (sc 16) hv ((sc 3), y, 0, (sc 19), (jbN hv (ar 23) 3)) T).1) 14 (juT (ar 24) (sc 16) hv ((sc 3), y, 0, (sc 19), (jbN hv (ar 23) 3)) T).2.1) 15 (juT (ar 24) (sc 16) hv ((sc 3), y, 0, (sc 19), (jbN hv (ar 23) 3)) T).2.2.1) 19 (juT (ar 24) (sc 16) hv ((sc 3), y, 0, (sc 19), (jbN hv (ar 23) 3)) T).2.2.2.1) (va_up ar 23 (juT (ar 24) (sc 16) hv ((sc 3), y, 0, (sc 19), (jbN hv (ar 23) 3)) T).2.2.2.2) hn mh G)[0]? = some (.inr (11, [.ref (b + 1), .int (sc 0), .int (sc 1), .ref (b + 25), .ref (b + 26), .ref (b + 2), .int (sc 2), .int (sc 3), .ref (b + 3), .ref (b + 9), .ref (b + 18), .ref (b + 21), .ref (b + 22)])) from wl_c0) rfl ?_
              refine v_get (n := 151) C dX11_junes_148 rfl fl_X11_210_X6 (show (wl D b (va_up (va_up (va_up (va_up (va_up sc 18 (sc 16)) 13 (juT (ar 24) (sc 16) hv ((sc 3), y, 0, (sc 19), (jbN hv (ar 23) 3)) T).1) 14 (juT (ar 24) (sc 16) hv ((sc 3), y, 0, (sc 19), (jbN hv (ar 23) 3)) T).2.1) 15 (juT (ar 24) (sc 16) hv ((sc 3), y, 0, (sc 19), (jbN hv (ar 23) 3)) T).2.2.1) 19 (juT (ar 24) (sc 16) hv ((sc 3), y, 0, (sc 19), (jbN hv (ar 23) 3)) T).2.2.2.1) (va_up ar 23 (juT (ar 24) (sc 16) hv ((sc 3), y, 0, (sc 19), (jbN hv (ar 23) 3)) T).2.2.2.2) hn mh G)[22]? = some (.inr (6, [.ref (b + 23), .int (juT (ar 24) (sc 16) hv ((sc 3), y, 0, (sc 19), (jbN hv (ar 23) 3)) T).1, .int (juT (ar 24) (sc 16) hv ((sc 3), y, 0, (sc 19), (jbN hv (ar 23) 3)) T).2.1, .int (juT (ar 24) (sc 16) hv ((sc 3), y, 0, (sc 19), (jbN hv (ar 23) 3)) T).2.2.1])) from wl_c22) rfl ?_
              exact v_iret C dX11_junes_151 rfl rfl ⟨by first | (simp only [jnF, eq_false c_1, eq_true (Int32.not_lt.mp c_1), eq_false c_2, eq_true (Int32.not_lt.mp c_2), eq_false c_3, eq_true (Int32.not_lt.mp c_3), eq_false c_4, eq_true (Int32.not_lt.mp c_4), eq_true c_5, eq_false (Int32.not_lt.mpr c_5), eq_false p_6, eq_true (Int32.not_le.mp p_6), eq_false c_8, eq_false c_12, eq_false c_13, eq_false c_14, ↓reduceIte, jnQ, eT2]; done) | (simp only [jnF, eq_false c_1, eq_true (Int32.not_lt.mp c_1), eq_false c_2, eq_true (Int32.not_lt.mp c_2), eq_false c_3, eq_true (Int32.not_lt.mp c_3), eq_false c_4, eq_true (Int32.not_lt.mp c_4), eq_true c_5, eq_false (Int32.not_lt.mpr c_5), eq_false p_6, eq_true (Int32.not_le.mp p_6), eq_false c_8, eq_false c_12, eq_false c_13, eq_false c_14, ↓reduceIte, jnQ, eT2] <;> rfl), (va_up (va_up (va_up (va_up (va_up sc 18 (sc 16)) 13 (juT (ar 24) (sc 16) hv ((sc 3), y, 0, (sc 19), (jbN hv (ar 23) 3)) T).1) 14 (juT (ar 24) (sc 16) hv ((sc 3), y, 0, (sc 19), (jbN hv (ar 23) 3)) T).2.1) 15 (juT (ar 24) (sc 16) hv ((sc 3), y, 0, (sc 19), (jbN hv (ar 23) 3)) T).2.2.1) 19 (juT (ar 24) (sc 16) hv ((sc 3), y, 0, (sc 19), (jbN hv (ar 23) 3)) T).2.2.2.1), (va_up ar 23 (juT (ar 24) (sc 16) hv ((sc 3), y, 0, (sc 19), (jbN hv (ar 23) 3)) T).2.2.2.2), (Per_a (by decide) (Per_s (by decide) (Per_s (by decide) (Per_s (by decide) (Per_s (by decide) (Per_s (by decide) Per_rf)))))), rfl⟩
            · exact absurd c_8 (by decide)
          · skip
            refine v_bipush (n := 26) (v := -102) C dX11_junes_24 rfl (by decide) ?_
            exact v_iret C dX11_junes_26 rfl rfl ⟨by simp only [jnF, eq_false c_1, eq_true (Int32.not_lt.mp c_1), eq_false c_2, eq_true (Int32.not_lt.mp c_2), eq_false c_3, eq_true (Int32.not_lt.mp c_3), eq_false c_4, eq_true (Int32.not_lt.mp c_4), eq_false c_5, eq_true (Int32.not_le.mp c_5), ↓reduceIte], sc, ar, Per_rf, rfl⟩
section VI
variable {p : Program} {l : Launch} {e : Env} {R : Room} {s : State} {m : MethodId} {args : Array Value} {below : List Frame} {meth : Method} {c : Code} {D : va_G} {b nL : Nat} {Q : State → Prop} {cells slots : Nat} {es : List va_E} {lv : List (Nat × Value)} {rest : List Value} {pc n : Nat} {cc : ByteArray} {own nm : String} {ret : Option FieldType}
theorem v_instS (C : vC p s m args meth c cc nL own nm ret D b) {idx j ci N : Nat} {fs : List Value} {Cn : String} {T : u_T} (hdg : decode cc pc = .ok (.instanceof idx, 3)) (hn : pc + 3 = n) (he : es[j]? = some (.inr (ci, fs))) (hc : vwCl[ci]? = some (Cn, T, N)) (hcl : Cond.classLink own idx Cn ∈ lw_g)
    (K : V p l e R s m args below meth c D b nL Q cells slots es lv (.int 1 :: rest) n) : V p l e R s m args below meth c D b nL Q cells slots es lv (.ref (b + j) :: rest) pc := by
  subst hn
  intro H locs ls hz hP hS hl
  exact va_instS C.1 C.2.1 C.2.2.2.1 (C.2.2.2.2.1 _ hcl) (C.2.2.2.2.2.1.1 ci _ hc).2 (v_recv C hP he hc) hdg (K H locs ls hz hP hS hl)
theorem v_instY (C : vC p s m args meth c cc nL own nm ret D b) {idx j ci N : Nat} {fs : List Value} {Cn tn : String} {T : u_T} (hdg : decode cc pc = .ok (.instanceof idx, 3)) (hn : pc + 3 = n) (he : es[j]? = some (.inr (ci, fs))) (hc : vwCl[ci]? = some (Cn, T, N)) (hcl : Cond.classLink own idx tn ∈ lw_g) (hy : (Cn, tn) = ("WheatSea$Cutter", "WheatSea$Sloop"))
    (K : V p l e R s m args below meth c D b nL Q cells slots es lv (.int 1 :: rest) n) : V p l e R s m args below meth c D b nL Q cells slots es lv (.ref (b + j) :: rest) pc := by
  subst hn
  intro H locs ls hz hP hS hl
  exact va_instY C.1 C.2.1 C.2.2.2.1 (C.2.2.2.2.1 _ hcl) (by cases hy; exact C.2.2.2.2.2.2.2.2.2.2.2.2.2.2.2.2.2) (v_recv C hP he hc) hdg (K H locs ls hz hP hS hl)
theorem v_instN (C : vC p s m args meth c cc nL own nm ret D b) {idx j ci N : Nat} {fs : List Value} {Cn tn : String} {T : u_T} (hdg : decode cc pc = .ok (.instanceof idx, 3)) (hn : pc + 3 = n) (he : es[j]? = some (.inr (ci, fs))) (hc : vwCl[ci]? = some (Cn, T, N)) (hcl : Cond.classLink own idx tn ∈ lw_g) (hy : (Cn, tn) ∈ ncK)
    (K : V p l e R s m args below meth c D b nL Q cells slots es lv (.int 0 :: rest) n) : V p l e R s m args below meth c D b nL Q cells slots es lv (.ref (b + j) :: rest) pc := by
  subst hn
  intro H locs ls hz hP hS hl
  exact va_instNo C.1 C.2.1 C.2.2.2.1 (C.2.2.2.2.1 _ hcl) (C.2.2.2.2.2.2.2.2.2.2.1 _ hy) (v_recv C hP he hc) hdg (K H locs ls hz hP hS hl)
end VI
def ik1 (k : Nat) : Int32 := match k with | 1 => 1 | 4 => 1 | _ => 0
def ik2 (k : Nat) : Int32 := match k with | 2 => 1 | _ => 0
def ik3 (k : Nat) : Int32 := match k with | 3 => 1 | _ => 0
def ik4 (k : Nat) : Int32 := match k with | 4 => 1 | _ => 0
def ikF (k : Nat) (w : Int32) : Int32 := if w = 0 then 1 else if w = 1 then ik1 k else if w = 2 then ik2 k else if w = 3 then ik3 k else if w = 4 then ik4 k else 0
set_option maxHeartbeats 4000000 in
set_option maxRecDepth 100000 in
theorem c_isKind0 (l : Launch) (D : va_G) (b : Nat) (sc : Nat → Int32) (ar : Nat → Nat → Int32) (hn : Nat → Option Nat) (mh : Int64) (G : List va_E) (u : Nat) (dr ce sa w : Int32) (hg : G[u]? = some (hcl 0 dr ce sa)) : Con l yX11_isKind cX11_isKind 2 (some .boolean) 0 0 D b 0 0 (wl D b sc ar hn mh G) [.ref (b + (u + 40)), .int w] (fun r es' => r = some (.int (ikF 0 w)) ∧ (wl D b sc ar hn mh G) = es') := by
  refine con_of (by decide) (Nat.le_of_ble_eq_true rfl) (fun p e s m args below meth c C hsz => ?_)
  have C : vC p s m args meth c cX11_isKind 2 RX11 "isKind" (some .boolean) D b := C
  change V p l e _ s m args below meth c D b 2 _ 0 0 (wl D b sc ar hn mh G) [(0, .ref (b + (u + 40))), (1, .int w)] [] 0
  refine v_iload_n (n := 1) C dX11_isKind_0 rfl rfl rfl ?_
  by_cases c_6 : w = 0
  · refine v_tableIn (t := 36) C dX11_isKind_1 (by rw [c_6]; decide) (by rw [c_6]; decide) (by rw [c_6]; rfl) (by decide) ?_
    refine v_aload_n (n := 37) C dX11_isKind_36 rfl rfl rfl ?_
    refine v_ifnull (n := 40) C dX11_isKind_37 rfl ?_
    refine v_iconst (n := 41) (v := 1) C dX11_isKind_40 rfl (by decide) ?_
    refine v_goto (t := 45) C dX11_isKind_41 (by decide) ?_
    exact v_iret C dX11_isKind_45 rfl rfl ⟨by first | rfl | (simp only [ikF, ik1, ik2, ik3, ik4, if_pos c_6]; done) | (simp only [ikF, ik1, ik2, ik3, ik4, eq_true c_6, ↓reduceIte]; done) | (simp only [ikF, ik1, ik2, ik3, ik4, eq_true c_6, ↓reduceIte] <;> rfl) | (simp [ikF, ik1, ik2, ik3, ik4, c_6]; done), rfl⟩
  by_cases c_7 : w = 1
  · refine v_tableIn (t := 46) C dX11_isKind_1 (by rw [c_7]; decide) (by rw [c_7]; decide) (by rw [c_7]; rfl) (by decide) ?_
    refine v_aload_n (n := 47) C dX11_isKind_46 rfl rfl rfl ?_
    refine v_instN (n := 50) C dX11_isKind_47 rfl (wl_tail hg) rfl cl_X11_266 (by decide +kernel) ?_
    exact v_iret C dX11_isKind_50 rfl rfl ⟨by first | rfl | (simp only [ikF, ik1, ik2, ik3, ik4, if_neg c_6, if_pos c_7]; done) | (simp only [ikF, ik1, ik2, ik3, ik4, eq_false c_6, eq_true c_7, ↓reduceIte]; done) | (simp only [ikF, ik1, ik2, ik3, ik4, eq_false c_6, eq_true c_7, ↓reduceIte] <;> rfl) | (simp [ikF, ik1, ik2, ik3, ik4, c_6, c_7]; done), rfl⟩
  by_cases c_8 : w = 2
  · refine v_tableIn (t := 51) C dX11_isKind_1 (by rw [c_8]; decide) (by rw [c_8]; decide) (by rw [c_8]; rfl) (by decide) ?_
    refine v_aload_n (n := 52) C dX11_isKind_51 rfl rfl rfl ?_
    refine v_instN (n := 55) C dX11_isKind_52 rfl (wl_tail hg) rfl cl_X11_270 (by decide +kernel) ?_
    exact v_iret C dX11_isKind_55 rfl rfl ⟨by first | rfl | (simp only [ikF, ik1, ik2, ik3, ik4, if_neg c_6, if_neg c_7, if_pos c_8]; done) | (simp only [ikF, ik1, ik2, ik3, ik4, eq_false c_6, eq_false c_7, eq_true c_8, ↓reduceIte]; done) | (simp only [ikF, ik1, ik2, ik3, ik4, eq_false c_6, eq_false c_7, eq_true c_8, ↓reduceIte] <;> rfl) | (simp [ikF, ik1, ik2, ik3, ik4, c_6, c_7, c_8]; done), rfl⟩
  by_cases c_9 : w = 3
  · refine v_tableIn (t := 56) C dX11_isKind_1 (by rw [c_9]; decide) (by rw [c_9]; decide) (by rw [c_9]; rfl) (by decide) ?_
    refine v_aload_n (n := 57) C dX11_isKind_56 rfl rfl rfl ?_
    refine v_instN (n := 60) C dX11_isKind_57 rfl (wl_tail hg) rfl cl_X11_273 (by decide +kernel) ?_
    exact v_iret C dX11_isKind_60 rfl rfl ⟨by first | rfl | (simp only [ikF, ik1, ik2, ik3, ik4, if_neg c_6, if_neg c_7, if_neg c_8, if_pos c_9]; done) | (simp only [ikF, ik1, ik2, ik3, ik4, eq_false c_6, eq_false c_7, eq_false c_8, eq_true c_9, ↓reduceIte]; done) | (simp only [ikF, ik1, ik2, ik3, ik4, eq_false c_6, eq_false c_7, eq_false c_8, eq_true c_9, ↓reduceIte] <;> rfl) | (simp [ikF, ik1, ik2, ik3, ik4, c_6, c_7, c_8, c_9]; done), rfl⟩
  by_cases c_10 : w = 4
  · refine v_tableIn (t := 61) C dX11_isKind_1 (by rw [c_10]; decide) (by rw [c_10]; decide) (by rw [c_10]; rfl) (by decide) ?_
    refine v_aload_n (n := 62) C dX11_isKind_61 rfl rfl rfl ?_
    refine v_instN (n := 65) C dX11_isKind_62 rfl (wl_tail hg) rfl cl_X11_276 (by decide +kernel) ?_
    exact v_iret C dX11_isKind_65 rfl rfl ⟨by first | rfl | (simp only [ikF, ik1, ik2, ik3, ik4, if_neg c_6, if_neg c_7, if_neg c_8, if_neg c_9, if_pos c_10]; done) | (simp only [ikF, ik1, ik2, ik3, ik4, eq_false c_6, eq_false c_7, eq_false c_8, eq_false c_9, eq_true c_10, ↓reduceIte]; done) | (simp only [ikF, ik1, ik2, ik3, ik4, eq_false c_6, eq_false c_7, eq_false c_8, eq_false c_9, eq_true c_10, ↓reduceIte] <;> rfl) | (simp [ikF, ik1, ik2, ik3, ik4, c_6, c_7, c_8, c_9, c_10]; done), rfl⟩
  refine v_tableOut (t := 66) C dX11_isKind_1 (sw_out5 c_6 c_7 c_8 c_9 c_10) (by decide) ?_
  refine v_iconst (n := 67) (v := 0) C dX11_isKind_66 rfl (by decide) ?_
  exact v_iret C dX11_isKind_67 rfl rfl ⟨by first | rfl | (simp only [ikF, ik1, ik2, ik3, ik4, if_neg c_6, if_neg c_7, if_neg c_8, if_neg c_9, if_neg c_10]; done) | (simp only [ikF, ik1, ik2, ik3, ik4, eq_false c_6, eq_false c_7, eq_false c_8, eq_false c_9, eq_false c_10, ↓reduceIte]; done) | (simp only [ikF, ik1, ik2, ik3, ik4, eq_false c_6, eq_false c_7, eq_false c_8, eq_false c_9, eq_false c_10, ↓reduceIte] <;> rfl) | (simp [ikF, ik1, ik2, ik3, ik4, c_6, c_7, c_8, c_9, c_10]; done), rfl⟩
set_option maxHeartbeats 4000000 in
set_option maxRecDepth 100000 in
theorem c_isKind1 (l : Launch) (D : va_G) (b : Nat) (sc : Nat → Int32) (ar : Nat → Nat → Int32) (hn : Nat → Option Nat) (mh : Int64) (G : List va_E) (u : Nat) (dr ce sa w : Int32) (hg : G[u]? = some (hcl 1 dr ce sa)) : Con l yX11_isKind cX11_isKind 2 (some .boolean) 0 0 D b 0 0 (wl D b sc ar hn mh G) [.ref (b + (u + 40)), .int w] (fun r es' => r = some (.int (ikF 1 w)) ∧ (wl D b sc ar hn mh G) = es') := by
  refine con_of (by decide) (Nat.le_of_ble_eq_true rfl) (fun p e s m args below meth c C hsz => ?_)
  have C : vC p s m args meth c cX11_isKind 2 RX11 "isKind" (some .boolean) D b := C
  change V p l e _ s m args below meth c D b 2 _ 0 0 (wl D b sc ar hn mh G) [(0, .ref (b + (u + 40))), (1, .int w)] [] 0
  refine v_iload_n (n := 1) C dX11_isKind_0 rfl rfl rfl ?_
  by_cases c_6 : w = 0
  · refine v_tableIn (t := 36) C dX11_isKind_1 (by rw [c_6]; decide) (by rw [c_6]; decide) (by rw [c_6]; rfl) (by decide) ?_
    refine v_aload_n (n := 37) C dX11_isKind_36 rfl rfl rfl ?_
    refine v_ifnull (n := 40) C dX11_isKind_37 rfl ?_
    refine v_iconst (n := 41) (v := 1) C dX11_isKind_40 rfl (by decide) ?_
    refine v_goto (t := 45) C dX11_isKind_41 (by decide) ?_
    exact v_iret C dX11_isKind_45 rfl rfl ⟨by first | rfl | (simp only [ikF, ik1, ik2, ik3, ik4, if_pos c_6]; done) | (simp only [ikF, ik1, ik2, ik3, ik4, eq_true c_6, ↓reduceIte]; done) | (simp only [ikF, ik1, ik2, ik3, ik4, eq_true c_6, ↓reduceIte] <;> rfl) | (simp [ikF, ik1, ik2, ik3, ik4, c_6]; done), rfl⟩
  by_cases c_7 : w = 1
  · refine v_tableIn (t := 46) C dX11_isKind_1 (by rw [c_7]; decide) (by rw [c_7]; decide) (by rw [c_7]; rfl) (by decide) ?_
    refine v_aload_n (n := 47) C dX11_isKind_46 rfl rfl rfl ?_
    refine v_instS (n := 50) C dX11_isKind_47 rfl (wl_tail hg) rfl cl_X11_266 ?_
    exact v_iret C dX11_isKind_50 rfl rfl ⟨by first | rfl | (simp only [ikF, ik1, ik2, ik3, ik4, if_neg c_6, if_pos c_7]; done) | (simp only [ikF, ik1, ik2, ik3, ik4, eq_false c_6, eq_true c_7, ↓reduceIte]; done) | (simp only [ikF, ik1, ik2, ik3, ik4, eq_false c_6, eq_true c_7, ↓reduceIte] <;> rfl) | (simp [ikF, ik1, ik2, ik3, ik4, c_6, c_7]; done), rfl⟩
  by_cases c_8 : w = 2
  · refine v_tableIn (t := 51) C dX11_isKind_1 (by rw [c_8]; decide) (by rw [c_8]; decide) (by rw [c_8]; rfl) (by decide) ?_
    refine v_aload_n (n := 52) C dX11_isKind_51 rfl rfl rfl ?_
    refine v_instN (n := 55) C dX11_isKind_52 rfl (wl_tail hg) rfl cl_X11_270 (by decide +kernel) ?_
    exact v_iret C dX11_isKind_55 rfl rfl ⟨by first | rfl | (simp only [ikF, ik1, ik2, ik3, ik4, if_neg c_6, if_neg c_7, if_pos c_8]; done) | (simp only [ikF, ik1, ik2, ik3, ik4, eq_false c_6, eq_false c_7, eq_true c_8, ↓reduceIte]; done) | (simp only [ikF, ik1, ik2, ik3, ik4, eq_false c_6, eq_false c_7, eq_true c_8, ↓reduceIte] <;> rfl) | (simp [ikF, ik1, ik2, ik3, ik4, c_6, c_7, c_8]; done), rfl⟩
  by_cases c_9 : w = 3
  · refine v_tableIn (t := 56) C dX11_isKind_1 (by rw [c_9]; decide) (by rw [c_9]; decide) (by rw [c_9]; rfl) (by decide) ?_
    refine v_aload_n (n := 57) C dX11_isKind_56 rfl rfl rfl ?_
    refine v_instN (n := 60) C dX11_isKind_57 rfl (wl_tail hg) rfl cl_X11_273 (by decide +kernel) ?_
    exact v_iret C dX11_isKind_60 rfl rfl ⟨by first | rfl | (simp only [ikF, ik1, ik2, ik3, ik4, if_neg c_6, if_neg c_7, if_neg c_8, if_pos c_9]; done) | (simp only [ikF, ik1, ik2, ik3, ik4, eq_false c_6, eq_false c_7, eq_false c_8, eq_true c_9, ↓reduceIte]; done) | (simp only [ikF, ik1, ik2, ik3, ik4, eq_false c_6, eq_false c_7, eq_false c_8, eq_true c_9, ↓reduceIte] <;> rfl) | (simp [ikF, ik1, ik2, ik3, ik4, c_6, c_7, c_8, c_9]; done), rfl⟩
  by_cases c_10 : w = 4
  · refine v_tableIn (t := 61) C dX11_isKind_1 (by rw [c_10]; decide) (by rw [c_10]; decide) (by rw [c_10]; rfl) (by decide) ?_
    refine v_aload_n (n := 62) C dX11_isKind_61 rfl rfl rfl ?_
    refine v_instN (n := 65) C dX11_isKind_62 rfl (wl_tail hg) rfl cl_X11_276 (by decide +kernel) ?_
    exact v_iret C dX11_isKind_65 rfl rfl ⟨by first | rfl | (simp only [ikF, ik1, ik2, ik3, ik4, if_neg c_6, if_neg c_7, if_neg c_8, if_neg c_9, if_pos c_10]; done) | (simp only [ikF, ik1, ik2, ik3, ik4, eq_false c_6, eq_false c_7, eq_false c_8, eq_false c_9, eq_true c_10, ↓reduceIte]; done) | (simp only [ikF, ik1, ik2, ik3, ik4, eq_false c_6, eq_false c_7, eq_false c_8, eq_false c_9, eq_true c_10, ↓reduceIte] <;> rfl) | (simp [ikF, ik1, ik2, ik3, ik4, c_6, c_7, c_8, c_9, c_10]; done), rfl⟩
  refine v_tableOut (t := 66) C dX11_isKind_1 (sw_out5 c_6 c_7 c_8 c_9 c_10) (by decide) ?_
  refine v_iconst (n := 67) (v := 0) C dX11_isKind_66 rfl (by decide) ?_
  exact v_iret C dX11_isKind_67 rfl rfl ⟨by first | rfl | (simp only [ikF, ik1, ik2, ik3, ik4, if_neg c_6, if_neg c_7, if_neg c_8, if_neg c_9, if_neg c_10]; done) | (simp only [ikF, ik1, ik2, ik3, ik4, eq_false c_6, eq_false c_7, eq_false c_8, eq_false c_9, eq_false c_10, ↓reduceIte]; done) | (simp only [ikF, ik1, ik2, ik3, ik4, eq_false c_6, eq_false c_7, eq_false c_8, eq_false c_9, eq_false c_10, ↓reduceIte] <;> rfl) | (simp [ikF, ik1, ik2, ik3, ik4, c_6, c_7, c_8, c_9, c_10]; done), rfl⟩
set_option maxHeartbeats 4000000 in
set_option maxRecDepth 100000 in
theorem c_isKind2 (l : Launch) (D : va_G) (b : Nat) (sc : Nat → Int32) (ar : Nat → Nat → Int32) (hn : Nat → Option Nat) (mh : Int64) (G : List va_E) (u : Nat) (dr ce sa w : Int32) (hg : G[u]? = some (hcl 2 dr ce sa)) : Con l yX11_isKind cX11_isKind 2 (some .boolean) 0 0 D b 0 0 (wl D b sc ar hn mh G) [.ref (b + (u + 40)), .int w] (fun r es' => r = some (.int (ikF 2 w)) ∧ (wl D b sc ar hn mh G) = es') := by
  refine con_of (by decide) (Nat.le_of_ble_eq_true rfl) (fun p e s m args below meth c C hsz => ?_)
  have C : vC p s m args meth c cX11_isKind 2 RX11 "isKind" (some .boolean) D b := C
  change V p l e _ s m args below meth c D b 2 _ 0 0 (wl D b sc ar hn mh G) [(0, .ref (b + (u + 40))), (1, .int w)] [] 0
  refine v_iload_n (n := 1) C dX11_isKind_0 rfl rfl rfl ?_
  by_cases c_6 : w = 0
  · refine v_tableIn (t := 36) C dX11_isKind_1 (by rw [c_6]; decide) (by rw [c_6]; decide) (by rw [c_6]; rfl) (by decide) ?_
    refine v_aload_n (n := 37) C dX11_isKind_36 rfl rfl rfl ?_
    refine v_ifnull (n := 40) C dX11_isKind_37 rfl ?_
    refine v_iconst (n := 41) (v := 1) C dX11_isKind_40 rfl (by decide) ?_
    refine v_goto (t := 45) C dX11_isKind_41 (by decide) ?_
    exact v_iret C dX11_isKind_45 rfl rfl ⟨by first | rfl | (simp only [ikF, ik1, ik2, ik3, ik4, if_pos c_6]; done) | (simp only [ikF, ik1, ik2, ik3, ik4, eq_true c_6, ↓reduceIte]; done) | (simp only [ikF, ik1, ik2, ik3, ik4, eq_true c_6, ↓reduceIte] <;> rfl) | (simp [ikF, ik1, ik2, ik3, ik4, c_6]; done), rfl⟩
  by_cases c_7 : w = 1
  · refine v_tableIn (t := 46) C dX11_isKind_1 (by rw [c_7]; decide) (by rw [c_7]; decide) (by rw [c_7]; rfl) (by decide) ?_
    refine v_aload_n (n := 47) C dX11_isKind_46 rfl rfl rfl ?_
    refine v_instN (n := 50) C dX11_isKind_47 rfl (wl_tail hg) rfl cl_X11_266 (by decide +kernel) ?_
    exact v_iret C dX11_isKind_50 rfl rfl ⟨by first | rfl | (simp only [ikF, ik1, ik2, ik3, ik4, if_neg c_6, if_pos c_7]; done) | (simp only [ikF, ik1, ik2, ik3, ik4, eq_false c_6, eq_true c_7, ↓reduceIte]; done) | (simp only [ikF, ik1, ik2, ik3, ik4, eq_false c_6, eq_true c_7, ↓reduceIte] <;> rfl) | (simp [ikF, ik1, ik2, ik3, ik4, c_6, c_7]; done), rfl⟩
  by_cases c_8 : w = 2
  · refine v_tableIn (t := 51) C dX11_isKind_1 (by rw [c_8]; decide) (by rw [c_8]; decide) (by rw [c_8]; rfl) (by decide) ?_
    refine v_aload_n (n := 52) C dX11_isKind_51 rfl rfl rfl ?_
    refine v_instS (n := 55) C dX11_isKind_52 rfl (wl_tail hg) rfl cl_X11_270 ?_
    exact v_iret C dX11_isKind_55 rfl rfl ⟨by first | rfl | (simp only [ikF, ik1, ik2, ik3, ik4, if_neg c_6, if_neg c_7, if_pos c_8]; done) | (simp only [ikF, ik1, ik2, ik3, ik4, eq_false c_6, eq_false c_7, eq_true c_8, ↓reduceIte]; done) | (simp only [ikF, ik1, ik2, ik3, ik4, eq_false c_6, eq_false c_7, eq_true c_8, ↓reduceIte] <;> rfl) | (simp [ikF, ik1, ik2, ik3, ik4, c_6, c_7, c_8]; done), rfl⟩
  by_cases c_9 : w = 3
  · refine v_tableIn (t := 56) C dX11_isKind_1 (by rw [c_9]; decide) (by rw [c_9]; decide) (by rw [c_9]; rfl) (by decide) ?_
    refine v_aload_n (n := 57) C dX11_isKind_56 rfl rfl rfl ?_
    refine v_instN (n := 60) C dX11_isKind_57 rfl (wl_tail hg) rfl cl_X11_273 (by decide +kernel) ?_
    exact v_iret C dX11_isKind_60 rfl rfl ⟨by first | rfl | (simp only [ikF, ik1, ik2, ik3, ik4, if_neg c_6, if_neg c_7, if_neg c_8, if_pos c_9]; done) | (simp only [ikF, ik1, ik2, ik3, ik4, eq_false c_6, eq_false c_7, eq_false c_8, eq_true c_9, ↓reduceIte]; done) | (simp only [ikF, ik1, ik2, ik3, ik4, eq_false c_6, eq_false c_7, eq_false c_8, eq_true c_9, ↓reduceIte] <;> rfl) | (simp [ikF, ik1, ik2, ik3, ik4, c_6, c_7, c_8, c_9]; done), rfl⟩
  by_cases c_10 : w = 4
  · refine v_tableIn (t := 61) C dX11_isKind_1 (by rw [c_10]; decide) (by rw [c_10]; decide) (by rw [c_10]; rfl) (by decide) ?_
    refine v_aload_n (n := 62) C dX11_isKind_61 rfl rfl rfl ?_
    refine v_instN (n := 65) C dX11_isKind_62 rfl (wl_tail hg) rfl cl_X11_276 (by decide +kernel) ?_
    exact v_iret C dX11_isKind_65 rfl rfl ⟨by first | rfl | (simp only [ikF, ik1, ik2, ik3, ik4, if_neg c_6, if_neg c_7, if_neg c_8, if_neg c_9, if_pos c_10]; done) | (simp only [ikF, ik1, ik2, ik3, ik4, eq_false c_6, eq_false c_7, eq_false c_8, eq_false c_9, eq_true c_10, ↓reduceIte]; done) | (simp only [ikF, ik1, ik2, ik3, ik4, eq_false c_6, eq_false c_7, eq_false c_8, eq_false c_9, eq_true c_10, ↓reduceIte] <;> rfl) | (simp [ikF, ik1, ik2, ik3, ik4, c_6, c_7, c_8, c_9, c_10]; done), rfl⟩
  refine v_tableOut (t := 66) C dX11_isKind_1 (sw_out5 c_6 c_7 c_8 c_9 c_10) (by decide) ?_
  refine v_iconst (n := 67) (v := 0) C dX11_isKind_66 rfl (by decide) ?_
  exact v_iret C dX11_isKind_67 rfl rfl ⟨by first | rfl | (simp only [ikF, ik1, ik2, ik3, ik4, if_neg c_6, if_neg c_7, if_neg c_8, if_neg c_9, if_neg c_10]; done) | (simp only [ikF, ik1, ik2, ik3, ik4, eq_false c_6, eq_false c_7, eq_false c_8, eq_false c_9, eq_false c_10, ↓reduceIte]; done) | (simp only [ikF, ik1, ik2, ik3, ik4, eq_false c_6, eq_false c_7, eq_false c_8, eq_false c_9, eq_false c_10, ↓reduceIte] <;> rfl) | (simp [ikF, ik1, ik2, ik3, ik4, c_6, c_7, c_8, c_9, c_10]; done), rfl⟩
set_option maxHeartbeats 4000000 in
set_option maxRecDepth 100000 in
theorem c_isKind3 (l : Launch) (D : va_G) (b : Nat) (sc : Nat → Int32) (ar : Nat → Nat → Int32) (hn : Nat → Option Nat) (mh : Int64) (G : List va_E) (u : Nat) (dr ce sa w : Int32) (hg : G[u]? = some (hcl 3 dr ce sa)) : Con l yX11_isKind cX11_isKind 2 (some .boolean) 0 0 D b 0 0 (wl D b sc ar hn mh G) [.ref (b + (u + 40)), .int w] (fun r es' => r = some (.int (ikF 3 w)) ∧ (wl D b sc ar hn mh G) = es') := by
  refine con_of (by decide) (Nat.le_of_ble_eq_true rfl) (fun p e s m args below meth c C hsz => ?_)
  have C : vC p s m args meth c cX11_isKind 2 RX11 "isKind" (some .boolean) D b := C
  change V p l e _ s m args below meth c D b 2 _ 0 0 (wl D b sc ar hn mh G) [(0, .ref (b + (u + 40))), (1, .int w)] [] 0
  refine v_iload_n (n := 1) C dX11_isKind_0 rfl rfl rfl ?_
  by_cases c_6 : w = 0
  · refine v_tableIn (t := 36) C dX11_isKind_1 (by rw [c_6]; decide) (by rw [c_6]; decide) (by rw [c_6]; rfl) (by decide) ?_
    refine v_aload_n (n := 37) C dX11_isKind_36 rfl rfl rfl ?_
    refine v_ifnull (n := 40) C dX11_isKind_37 rfl ?_
    refine v_iconst (n := 41) (v := 1) C dX11_isKind_40 rfl (by decide) ?_
    refine v_goto (t := 45) C dX11_isKind_41 (by decide) ?_
    exact v_iret C dX11_isKind_45 rfl rfl ⟨by first | rfl | (simp only [ikF, ik1, ik2, ik3, ik4, if_pos c_6]; done) | (simp only [ikF, ik1, ik2, ik3, ik4, eq_true c_6, ↓reduceIte]; done) | (simp only [ikF, ik1, ik2, ik3, ik4, eq_true c_6, ↓reduceIte] <;> rfl) | (simp [ikF, ik1, ik2, ik3, ik4, c_6]; done), rfl⟩
  by_cases c_7 : w = 1
  · refine v_tableIn (t := 46) C dX11_isKind_1 (by rw [c_7]; decide) (by rw [c_7]; decide) (by rw [c_7]; rfl) (by decide) ?_
    refine v_aload_n (n := 47) C dX11_isKind_46 rfl rfl rfl ?_
    refine v_instN (n := 50) C dX11_isKind_47 rfl (wl_tail hg) rfl cl_X11_266 (by decide +kernel) ?_
    exact v_iret C dX11_isKind_50 rfl rfl ⟨by first | rfl | (simp only [ikF, ik1, ik2, ik3, ik4, if_neg c_6, if_pos c_7]; done) | (simp only [ikF, ik1, ik2, ik3, ik4, eq_false c_6, eq_true c_7, ↓reduceIte]; done) | (simp only [ikF, ik1, ik2, ik3, ik4, eq_false c_6, eq_true c_7, ↓reduceIte] <;> rfl) | (simp [ikF, ik1, ik2, ik3, ik4, c_6, c_7]; done), rfl⟩
  by_cases c_8 : w = 2
  · refine v_tableIn (t := 51) C dX11_isKind_1 (by rw [c_8]; decide) (by rw [c_8]; decide) (by rw [c_8]; rfl) (by decide) ?_
    refine v_aload_n (n := 52) C dX11_isKind_51 rfl rfl rfl ?_
    refine v_instN (n := 55) C dX11_isKind_52 rfl (wl_tail hg) rfl cl_X11_270 (by decide +kernel) ?_
    exact v_iret C dX11_isKind_55 rfl rfl ⟨by first | rfl | (simp only [ikF, ik1, ik2, ik3, ik4, if_neg c_6, if_neg c_7, if_pos c_8]; done) | (simp only [ikF, ik1, ik2, ik3, ik4, eq_false c_6, eq_false c_7, eq_true c_8, ↓reduceIte]; done) | (simp only [ikF, ik1, ik2, ik3, ik4, eq_false c_6, eq_false c_7, eq_true c_8, ↓reduceIte] <;> rfl) | (simp [ikF, ik1, ik2, ik3, ik4, c_6, c_7, c_8]; done), rfl⟩
  by_cases c_9 : w = 3
  · refine v_tableIn (t := 56) C dX11_isKind_1 (by rw [c_9]; decide) (by rw [c_9]; decide) (by rw [c_9]; rfl) (by decide) ?_
    refine v_aload_n (n := 57) C dX11_isKind_56 rfl rfl rfl ?_
    refine v_instS (n := 60) C dX11_isKind_57 rfl (wl_tail hg) rfl cl_X11_273 ?_
    exact v_iret C dX11_isKind_60 rfl rfl ⟨by first | rfl | (simp only [ikF, ik1, ik2, ik3, ik4, if_neg c_6, if_neg c_7, if_neg c_8, if_pos c_9]; done) | (simp only [ikF, ik1, ik2, ik3, ik4, eq_false c_6, eq_false c_7, eq_false c_8, eq_true c_9, ↓reduceIte]; done) | (simp only [ikF, ik1, ik2, ik3, ik4, eq_false c_6, eq_false c_7, eq_false c_8, eq_true c_9, ↓reduceIte] <;> rfl) | (simp [ikF, ik1, ik2, ik3, ik4, c_6, c_7, c_8, c_9]; done), rfl⟩
  by_cases c_10 : w = 4
  · refine v_tableIn (t := 61) C dX11_isKind_1 (by rw [c_10]; decide) (by rw [c_10]; decide) (by rw [c_10]; rfl) (by decide) ?_
    refine v_aload_n (n := 62) C dX11_isKind_61 rfl rfl rfl ?_
    refine v_instN (n := 65) C dX11_isKind_62 rfl (wl_tail hg) rfl cl_X11_276 (by decide +kernel) ?_
    exact v_iret C dX11_isKind_65 rfl rfl ⟨by first | rfl | (simp only [ikF, ik1, ik2, ik3, ik4, if_neg c_6, if_neg c_7, if_neg c_8, if_neg c_9, if_pos c_10]; done) | (simp only [ikF, ik1, ik2, ik3, ik4, eq_false c_6, eq_false c_7, eq_false c_8, eq_false c_9, eq_true c_10, ↓reduceIte]; done) | (simp only [ikF, ik1, ik2, ik3, ik4, eq_false c_6, eq_false c_7, eq_false c_8, eq_false c_9, eq_true c_10, ↓reduceIte] <;> rfl) | (simp [ikF, ik1, ik2, ik3, ik4, c_6, c_7, c_8, c_9, c_10]; done), rfl⟩
  refine v_tableOut (t := 66) C dX11_isKind_1 (sw_out5 c_6 c_7 c_8 c_9 c_10) (by decide) ?_
  refine v_iconst (n := 67) (v := 0) C dX11_isKind_66 rfl (by decide) ?_
  exact v_iret C dX11_isKind_67 rfl rfl ⟨by first | rfl | (simp only [ikF, ik1, ik2, ik3, ik4, if_neg c_6, if_neg c_7, if_neg c_8, if_neg c_9, if_neg c_10]; done) | (simp only [ikF, ik1, ik2, ik3, ik4, eq_false c_6, eq_false c_7, eq_false c_8, eq_false c_9, eq_false c_10, ↓reduceIte]; done) | (simp only [ikF, ik1, ik2, ik3, ik4, eq_false c_6, eq_false c_7, eq_false c_8, eq_false c_9, eq_false c_10, ↓reduceIte] <;> rfl) | (simp [ikF, ik1, ik2, ik3, ik4, c_6, c_7, c_8, c_9, c_10]; done), rfl⟩
set_option maxHeartbeats 4000000 in
set_option maxRecDepth 100000 in
theorem c_isKind4 (l : Launch) (D : va_G) (b : Nat) (sc : Nat → Int32) (ar : Nat → Nat → Int32) (hn : Nat → Option Nat) (mh : Int64) (G : List va_E) (u : Nat) (dr ce sa w : Int32) (hg : G[u]? = some (hcl 4 dr ce sa)) : Con l yX11_isKind cX11_isKind 2 (some .boolean) 0 0 D b 0 0 (wl D b sc ar hn mh G) [.ref (b + (u + 40)), .int w] (fun r es' => r = some (.int (ikF 4 w)) ∧ (wl D b sc ar hn mh G) = es') := by
  refine con_of (by decide) (Nat.le_of_ble_eq_true rfl) (fun p e s m args below meth c C hsz => ?_)
  have C : vC p s m args meth c cX11_isKind 2 RX11 "isKind" (some .boolean) D b := C
  change V p l e _ s m args below meth c D b 2 _ 0 0 (wl D b sc ar hn mh G) [(0, .ref (b + (u + 40))), (1, .int w)] [] 0
  refine v_iload_n (n := 1) C dX11_isKind_0 rfl rfl rfl ?_
  by_cases c_6 : w = 0
  · refine v_tableIn (t := 36) C dX11_isKind_1 (by rw [c_6]; decide) (by rw [c_6]; decide) (by rw [c_6]; rfl) (by decide) ?_
    refine v_aload_n (n := 37) C dX11_isKind_36 rfl rfl rfl ?_
    refine v_ifnull (n := 40) C dX11_isKind_37 rfl ?_
    refine v_iconst (n := 41) (v := 1) C dX11_isKind_40 rfl (by decide) ?_
    refine v_goto (t := 45) C dX11_isKind_41 (by decide) ?_
    exact v_iret C dX11_isKind_45 rfl rfl ⟨by first | rfl | (simp only [ikF, ik1, ik2, ik3, ik4, if_pos c_6]; done) | (simp only [ikF, ik1, ik2, ik3, ik4, eq_true c_6, ↓reduceIte]; done) | (simp only [ikF, ik1, ik2, ik3, ik4, eq_true c_6, ↓reduceIte] <;> rfl) | (simp [ikF, ik1, ik2, ik3, ik4, c_6]; done), rfl⟩
  by_cases c_7 : w = 1
  · refine v_tableIn (t := 46) C dX11_isKind_1 (by rw [c_7]; decide) (by rw [c_7]; decide) (by rw [c_7]; rfl) (by decide) ?_
    refine v_aload_n (n := 47) C dX11_isKind_46 rfl rfl rfl ?_
    refine v_instY (n := 50) C dX11_isKind_47 rfl (wl_tail hg) rfl cl_X11_266 rfl ?_
    exact v_iret C dX11_isKind_50 rfl rfl ⟨by first | rfl | (simp only [ikF, ik1, ik2, ik3, ik4, if_neg c_6, if_pos c_7]; done) | (simp only [ikF, ik1, ik2, ik3, ik4, eq_false c_6, eq_true c_7, ↓reduceIte]; done) | (simp only [ikF, ik1, ik2, ik3, ik4, eq_false c_6, eq_true c_7, ↓reduceIte] <;> rfl) | (simp [ikF, ik1, ik2, ik3, ik4, c_6, c_7]; done), rfl⟩
  by_cases c_8 : w = 2
  · refine v_tableIn (t := 51) C dX11_isKind_1 (by rw [c_8]; decide) (by rw [c_8]; decide) (by rw [c_8]; rfl) (by decide) ?_
    refine v_aload_n (n := 52) C dX11_isKind_51 rfl rfl rfl ?_
    refine v_instN (n := 55) C dX11_isKind_52 rfl (wl_tail hg) rfl cl_X11_270 (by decide +kernel) ?_
    exact v_iret C dX11_isKind_55 rfl rfl ⟨by first | rfl | (simp only [ikF, ik1, ik2, ik3, ik4, if_neg c_6, if_neg c_7, if_pos c_8]; done) | (simp only [ikF, ik1, ik2, ik3, ik4, eq_false c_6, eq_false c_7, eq_true c_8, ↓reduceIte]; done) | (simp only [ikF, ik1, ik2, ik3, ik4, eq_false c_6, eq_false c_7, eq_true c_8, ↓reduceIte] <;> rfl) | (simp [ikF, ik1, ik2, ik3, ik4, c_6, c_7, c_8]; done), rfl⟩
  by_cases c_9 : w = 3
  · refine v_tableIn (t := 56) C dX11_isKind_1 (by rw [c_9]; decide) (by rw [c_9]; decide) (by rw [c_9]; rfl) (by decide) ?_
    refine v_aload_n (n := 57) C dX11_isKind_56 rfl rfl rfl ?_
    refine v_instN (n := 60) C dX11_isKind_57 rfl (wl_tail hg) rfl cl_X11_273 (by decide +kernel) ?_
    exact v_iret C dX11_isKind_60 rfl rfl ⟨by first | rfl | (simp only [ikF, ik1, ik2, ik3, ik4, if_neg c_6, if_neg c_7, if_neg c_8, if_pos c_9]; done) | (simp only [ikF, ik1, ik2, ik3, ik4, eq_false c_6, eq_false c_7, eq_false c_8, eq_true c_9, ↓reduceIte]; done) | (simp only [ikF, ik1, ik2, ik3, ik4, eq_false c_6, eq_false c_7, eq_false c_8, eq_true c_9, ↓reduceIte] <;> rfl) | (simp [ikF, ik1, ik2, ik3, ik4, c_6, c_7, c_8, c_9]; done), rfl⟩
  by_cases c_10 : w = 4
  · refine v_tableIn (t := 61) C dX11_isKind_1 (by rw [c_10]; decide) (by rw [c_10]; decide) (by rw [c_10]; rfl) (by decide) ?_
    refine v_aload_n (n := 62) C dX11_isKind_61 rfl rfl rfl ?_
    refine v_instS (n := 65) C dX11_isKind_62 rfl (wl_tail hg) rfl cl_X11_276 ?_
    exact v_iret C dX11_isKind_65 rfl rfl ⟨by first | rfl | (simp only [ikF, ik1, ik2, ik3, ik4, if_neg c_6, if_neg c_7, if_neg c_8, if_neg c_9, if_pos c_10]; done) | (simp only [ikF, ik1, ik2, ik3, ik4, eq_false c_6, eq_false c_7, eq_false c_8, eq_false c_9, eq_true c_10, ↓reduceIte]; done) | (simp only [ikF, ik1, ik2, ik3, ik4, eq_false c_6, eq_false c_7, eq_false c_8, eq_false c_9, eq_true c_10, ↓reduceIte] <;> rfl) | (simp [ikF, ik1, ik2, ik3, ik4, c_6, c_7, c_8, c_9, c_10]; done), rfl⟩
  refine v_tableOut (t := 66) C dX11_isKind_1 (sw_out5 c_6 c_7 c_8 c_9 c_10) (by decide) ?_
  refine v_iconst (n := 67) (v := 0) C dX11_isKind_66 rfl (by decide) ?_
  exact v_iret C dX11_isKind_67 rfl rfl ⟨by first | rfl | (simp only [ikF, ik1, ik2, ik3, ik4, if_neg c_6, if_neg c_7, if_neg c_8, if_neg c_9, if_neg c_10]; done) | (simp only [ikF, ik1, ik2, ik3, ik4, eq_false c_6, eq_false c_7, eq_false c_8, eq_false c_9, eq_false c_10, ↓reduceIte]; done) | (simp only [ikF, ik1, ik2, ik3, ik4, eq_false c_6, eq_false c_7, eq_false c_8, eq_false c_9, eq_false c_10, ↓reduceIte] <;> rfl) | (simp [ikF, ik1, ik2, ik3, ik4, c_6, c_7, c_8, c_9, c_10]; done), rfl⟩
theorem c_isKind (l : Launch) (D : va_G) (b : Nat) (sc : Nat → Int32) (ar : Nat → Nat → Int32) (hn : Nat → Option Nat) (mh : Int64) (G : List va_E) (u k : Nat) (dr ce sa w : Int32) (hk : k < 5) (hg : G[u]? = some (hcl k dr ce sa)) : Con l yX11_isKind cX11_isKind 2 (some .boolean) 0 0 D b 0 0 (wl D b sc ar hn mh G) [.ref (b + (u + 40)), .int w] (fun r es' => r = some (.int (ikF k w)) ∧ wl D b sc ar hn mh G = es') := by
  match k, hk, hg with
  | 0, _, hg => exact c_isKind0 l D b sc ar hn mh G u dr ce sa w hg
  | 1, _, hg => exact c_isKind1 l D b sc ar hn mh G u dr ce sa w hg
  | 2, _, hg => exact c_isKind2 l D b sc ar hn mh G u dr ce sa w hg
  | 3, _, hg => exact c_isKind3 l D b sc ar hn mh G u dr ce sa w hg
  | 4, _, hg => exact c_isKind4 l D b sc ar hn mh G u dr ce sa w hg
def asF (sc : Nat → Int32) (hv : HV) (x w : Int32) : Int32 := match hvF (sc 2) hv x with
  | none => -101
  | some q => if w < 0 then -102 else if 5 ≤ w then -102 else if ikF q.1 w = 0 then -1 else x
set_option maxHeartbeats 4000000 in
set_option maxRecDepth 100000 in
theorem c_as (l : Launch) (D : va_G) (b : Nat) (sc : Nat → Int32) (ar : Nat → Nat → Int32) (hn : Nat → Option Nat) (mh : Int64) (G : List va_E) (x w : Int32) (hv : HV) (hr : HVr hn G hv) : Con l yX11_as cX11_as 4 (some .int) 1 21 D b 0 0 (wl D b sc ar hn mh G) [.ref (b + 0), .int x, .int w] (fun r es' => r = some (.int (asF sc hv x w)) ∧ (wl D b sc ar hn mh G) = es') := by
  refine con_of (by decide) (Nat.le_of_ble_eq_true rfl) (fun p e s m args below meth c C hsz => ?_)
  have C : vC p s m args meth c cX11_as 4 RX11 "as" (some .int) D b := C
  change V p l e _ s m args below meth c D b 4 _ 0 0 (wl D b sc ar hn mh G) [(0, .ref (b + 0)), (1, .int x), (2, .int w)] [] 0
  refine v_aload_n (n := 1) C dX11_as_0 rfl rfl rfl ?_
  refine v_iload_n (n := 2) C dX11_as_1 rfl rfl rfl ?_
  refine v_go (n := 5) C (vRun_V (As := [.int x]) (rest := []) C wl_c0 rfl lk_X11_133 im_X11_hullNumbered se_X11_hullNumbered dX11_as_2 (c_hullNumbered l D b sc ar hn mh G x hv hr) wm_X11_hullNumbered rfl rfl ⟨Nat.le_of_ble_eq_true rfl, Nat.le_of_ble_eq_true rfl⟩ ⟨Nat.le_of_ble_eq_true rfl, Nat.le_of_ble_eq_true rfl⟩ (Nat.le_of_ble_eq_true rfl)) rfl ?_
  rintro _ _ ⟨⟨hq_1, rfl⟩ | ⟨k1, dr1, ce1, sa1, u1, hq_1, hu1, hk1, hg1, rfl⟩, rfl⟩ -
  · skip
    refine v_astore_nN (n := 6) (lv' := [(3, .null), (0, .ref (b + 0)), (1, .int x), (2, .int w)]) C dX11_as_5 rfl rfl (Nat.le_of_ble_eq_true rfl) rfl ?_
    refine v_aload_nN (n := 7) C dX11_as_6 rfl rfl rfl ?_
    refine v_ifnonnullN (n := 10) C dX11_as_7 rfl ?_
    refine v_bipush (n := 12) (v := -101) C dX11_as_10 rfl (by decide) ?_
    exact v_iret C dX11_as_12 rfl rfl ⟨by first | rfl | (simp only [asF, hq_1]; done) | (simp only [asF, hq_1, ↓reduceIte]; done) | (simp only [asF, hq_1, ↓reduceIte] <;> rfl) | (simp [asF, hq_1]; done), rfl⟩
  · skip
    refine v_astore_n (n := 6) (lv' := [(3, .ref (b + (u1 + 40))), (0, .ref (b + 0)), (1, .int x), (2, .int w)]) C dX11_as_5 rfl rfl (Nat.le_of_ble_eq_true rfl) rfl ?_
    refine v_aload_n (n := 7) C dX11_as_6 rfl rfl rfl ?_
    refine v_ifnonnull (t := 13) C dX11_as_7 (by decide) ?_
    refine v_iload_n (n := 14) C dX11_as_13 rfl rfl rfl ?_
    refine v_if_lt (t := 22) (n := 17) C dX11_as_14 (by decide) rfl (fun c_2 => ?_) (fun c_2 => ?_)
    · skip
      refine v_bipush (n := 24) (v := -102) C dX11_as_22 rfl (by decide) ?_
      exact v_iret C dX11_as_24 rfl rfl ⟨by first | rfl | (simp only [asF, hq_1, if_pos c_2, if_neg (Int32.not_le.mpr c_2)]; done) | (simp only [asF, hq_1, eq_true c_2, eq_false (Int32.not_le.mpr c_2), ↓reduceIte]; done) | (simp only [asF, hq_1, eq_true c_2, eq_false (Int32.not_le.mpr c_2), ↓reduceIte] <;> rfl) | (simp [asF, hq_1, c_2]; done), rfl⟩
    · skip
      refine v_iload_n (n := 18) C dX11_as_17 rfl rfl rfl ?_
      refine v_iconst (n := 19) (v := 5) C dX11_as_18 rfl (by decide) ?_
      refine v_icmp_lt (t := 25) (n := 22) C dX11_as_19 (by decide) rfl (fun c_3 => ?_) (fun c_3 => ?_)
      · skip
        refine v_aload_n (n := 26) C dX11_as_25 rfl rfl rfl ?_
        refine v_iload_n (n := 27) C dX11_as_26 rfl rfl rfl ?_
        refine v_go (n := 30) C (vRun_S (As := [.ref (b + (u1 + 40)), .int w]) (rest := []) C lk_X11_157 st_X11_isKind dX11_as_27 (c_isKind l D b sc ar hn mh G u1 k1 dr1 ce1 sa1 w hk1 hg1) wm_X11_isKind rfl rfl ⟨Nat.le_of_ble_eq_true rfl, Nat.le_of_ble_eq_true rfl⟩ ⟨Nat.le_of_ble_eq_true rfl, Nat.le_of_ble_eq_true rfl⟩ (Nat.le_of_ble_eq_true rfl)) rfl ?_
        rintro _ _ ⟨rfl, rfl⟩ -
        refine v_if_eq (t := 37) (n := 33) C dX11_as_30 (by decide) rfl (fun c_4 => ?_) (fun c_4 => ?_)
        · skip
          refine v_iconst (n := 38) (v := -1) C dX11_as_37 rfl (by decide) ?_
          exact v_iret C dX11_as_38 rfl rfl ⟨by first | rfl | (simp only [asF, hq_1, if_neg c_2, if_pos (Int32.not_lt.mp c_2), if_pos c_3, if_neg (Int32.not_le.mpr c_3), if_pos c_4]; done) | (simp only [asF, hq_1, eq_false c_2, eq_true (Int32.not_lt.mp c_2), eq_true c_3, eq_false (Int32.not_le.mpr c_3), eq_true c_4, ↓reduceIte]; done) | (simp only [asF, hq_1, eq_false c_2, eq_true (Int32.not_lt.mp c_2), eq_true c_3, eq_false (Int32.not_le.mpr c_3), eq_true c_4, ↓reduceIte] <;> rfl) | (simp [asF, hq_1, c_2, c_3, c_4]; done), rfl⟩
        · skip
          refine v_iload_n (n := 34) C dX11_as_33 rfl rfl rfl ?_
          refine v_goto (t := 38) C dX11_as_34 (by decide) ?_
          exact v_iret C dX11_as_38 rfl rfl ⟨by first | rfl | (simp only [asF, hq_1, if_neg c_2, if_pos (Int32.not_lt.mp c_2), if_pos c_3, if_neg (Int32.not_le.mpr c_3), if_neg c_4]; done) | (simp only [asF, hq_1, eq_false c_2, eq_true (Int32.not_lt.mp c_2), eq_true c_3, eq_false (Int32.not_le.mpr c_3), eq_false c_4, ↓reduceIte]; done) | (simp only [asF, hq_1, eq_false c_2, eq_true (Int32.not_lt.mp c_2), eq_true c_3, eq_false (Int32.not_le.mpr c_3), eq_false c_4, ↓reduceIte] <;> rfl) | (simp [asF, hq_1, c_2, c_3, c_4]; done), rfl⟩
      · skip
        refine v_bipush (n := 24) (v := -102) C dX11_as_22 rfl (by decide) ?_
        exact v_iret C dX11_as_24 rfl rfl ⟨by first | rfl | (simp only [asF, hq_1, if_neg c_2, if_pos (Int32.not_lt.mp c_2), if_neg c_3, if_pos (Int32.not_lt.mp c_3)]; done) | (simp only [asF, hq_1, eq_false c_2, eq_true (Int32.not_lt.mp c_2), eq_false c_3, eq_true (Int32.not_lt.mp c_3), ↓reduceIte]; done) | (simp only [asF, hq_1, eq_false c_2, eq_true (Int32.not_lt.mp c_2), eq_false c_3, eq_true (Int32.not_lt.mp c_3), ↓reduceIte] <;> rfl) | (simp [asF, hq_1, c_2, c_3]; done), rfl⟩
