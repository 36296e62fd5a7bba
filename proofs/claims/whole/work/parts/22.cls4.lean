theorem HVr_none {hn : Nat → Option Nat} {G : List va_E} {hv : HV} {i : Nat} (h : HVr hn G hv) : HVr (va_up hn i none) G (va_up hv i none) := by
  refine ⟨fun j hj => ?_, fun j k dr ce sa hj => ?_, fun a c t h1 h2 => ?_⟩
  · rw [va_up] at hj ⊢
    by_cases hji : j = i
    · rw [if_pos hji]
    · rw [if_neg hji] at hj ⊢; exact h.1 j hj
  · rw [va_up] at hj
    by_cases hji : j = i
    · rw [if_pos hji] at hj; cases hj
    · rw [if_neg hji] at hj
      obtain ⟨u, a1, a2, a3⟩ := h.2.1 _ _ _ _ _ hj
      exact ⟨u, by rw [va_up, if_neg hji]; exact a1, a2, a3⟩
  · rw [va_up] at h1 h2
    by_cases hai : a = i
    · rw [if_pos hai] at h1; cases h1
    · by_cases hci : c = i
      · rw [if_pos hci] at h2; cases h2
      · rw [if_neg hai] at h1; rw [if_neg hci] at h2; exact h.2.2 _ _ _ h1 h2
theorem sw_out9 {x : Int32} (h0 : ¬ x = 0) (h1 : ¬ x = 1) (h2 : ¬ x = 2) (h3 : ¬ x = 3) (h4 : ¬ x = 4) (h5 : ¬ x = 5) (h6 : ¬ x = 6) (h7 : ¬ x = 7) (h8 : ¬ x = 8) : x.toInt < 0 ∨ 8 < x.toInt := by
  have := sw_out5 h0 h1 h2 h3 h4
  have a5 := ti_ne h5
  have a6 := ti_ne h6
  have a7 := ti_ne h7
  have a8 := ti_ne h8
  have e5 : (5 : Int32).toInt = 5 := rfl
  have e6 : (6 : Int32).toInt = 6 := rfl
  have e7 : (7 : Int32).toInt = 7 := rfl
  have e8 : (8 : Int32).toInt = 8 := rfl
  omega
def coF (sc : Nat → Int32) (ar : Nat → Nat → Int32) (hv : HV) (w : Int32) : Int32 := if w = 0 then sc 16 else if w = 1 then cuF (sc 16) (sc 3) else if w = 2 then sc 2 else if w = 3 then stN (ar 24) (sc 16) (sc 3) hv 3 else
  if w = 4 then sc 3 else if w = 5 then sc 17 else if w = 6 then sc 4 else if w = 7 then sc 0 else if w = 8 then sc 1 else -102
def seS (sc : Nat → Int32) (ar : Nat → Nat → Int32) (hv : HV) (x c h : Int32) : Int32 × (Nat → Int32) × (Nat → Nat → Int32) := match hvF (sc 2) hv x with
  | none => (-101, sc, ar)
  | some _ => if sc 16 ≤ 0 then (-101, sc, ar) else if c < 0 then (-101, sc, ar) else if 12 ≤ c then (-101, sc, ar) else if h < 0 then (-102, sc, ar) else if 40 < h then (-102, sc, ar) else
    if (adS sc ar x c h).1 = 0 then (-104, (adS sc ar x c h).2.1, (adS sc ar x c h).2.2) else ((adS sc ar x c h).2.1 4, (adS sc ar x c h).2.1, (adS sc ar x c h).2.2)
def stP (sc : Nat → Int32) (ar : Nat → Nat → Int32) (hv : HV) (x v : Int32) : Prop := match hvF (sc 2) hv x with
  | none => v = -101
  | some q => ∃ L, L ≤ 40 ∧ (lkN ar (sc 4) x (fillN 4095 (ar 7) 41) 6).1 = nI L ∧ v = csD (ar 24) (sc 16) (sc 17) q.1 q.2.1 (lkN ar (sc 4) x (fillN 4095 (ar 7) 41) 6).2 L (ar 8) (L + 1) 0
set_option maxHeartbeats 4000000 in
set_option maxRecDepth 100000 in
theorem c_count (l : Launch) (D : va_G) (b : Nat) (sc : Nat → Int32) (ar : Nat → Nat → Int32) (hn : Nat → Option Nat) (mh : Int64) (G : List va_E) (w : Int32) (hv : HV) (hr : HVr hn G hv) : Con l yX11_count cX11_count 2 (some .int) 3 68 D b 0 0 (wl D b sc ar hn mh G) [.ref (b + 0), .int w] (fun r es' => r = some (.int (coF sc ar hv w)) ∧ (wl D b sc ar hn mh G) = es') := by
  refine con_of (by decide) (Nat.le_of_ble_eq_true rfl) (fun p e s m args below meth c C hsz => ?_)
  have C : vC p s m args meth c cX11_count 2 RX11 "count" (some .int) D b := C
  change V p l e _ s m args below meth c D b 2 _ 0 0 (wl D b sc ar hn mh G) [(0, .ref (b + 0)), (1, .int w)] [] 0
  refine v_iload_n (n := 1) C dX11_count_0 rfl rfl rfl ?_
  by_cases c_10 : w = 0
  · refine v_tableIn (t := 52) C dX11_count_1 (by rw [c_10]; decide) (by rw [c_10]; decide) (by rw [c_10]; rfl) (by decide) ?_
    refine v_aload_n (n := 53) C dX11_count_52 rfl rfl rfl ?_
    refine v_get (n := 56) C dX11_count_53 rfl fl_X11_59_X11 wl_c0 rfl ?_
    refine v_get (n := 59) C dX11_count_56 rfl fl_X11_96_X7 wl_c25 rfl ?_
    exact v_iret C dX11_count_59 rfl rfl ⟨by first | rfl | (simp only [coF, if_pos c_10]; done) | (simp only [coF, eq_true c_10, ↓reduceIte]; done) | (simp only [coF, eq_true c_10, ↓reduceIte] <;> rfl) | (simp [coF, c_10]; done), rfl⟩
  by_cases c_11 : w = 1
  · refine v_tableIn (t := 60) C dX11_count_1 (by rw [c_11]; decide) (by rw [c_11]; decide) (by rw [c_11]; rfl) (by decide) ?_
    refine v_aload_n (n := 61) C dX11_count_60 rfl rfl rfl ?_
    refine v_go (n := 64) C (vRun_V (As := []) (rest := []) C wl_c0 rfl lk_X11_233 im_X11_cutCells se_X11_cutCells dX11_count_61 (c_cutCells l D b sc ar hn mh G) wm_X11_cutCells rfl rfl ⟨Nat.le_of_ble_eq_true rfl, Nat.le_of_ble_eq_true rfl⟩ ⟨Nat.le_of_ble_eq_true rfl, Nat.le_of_ble_eq_true rfl⟩ (Nat.le_of_ble_eq_true rfl)) rfl ?_
    rintro _ _ ⟨rfl, rfl⟩ -
    exact v_iret C dX11_count_64 rfl rfl ⟨by first | rfl | (simp only [coF, if_neg c_10, if_pos c_11]; done) | (simp only [coF, eq_false c_10, eq_true c_11, ↓reduceIte]; done) | (simp only [coF, eq_false c_10, eq_true c_11, ↓reduceIte] <;> rfl) | (simp [coF, c_10, c_11]; done), rfl⟩
  by_cases c_12 : w = 2
  · refine v_tableIn (t := 65) C dX11_count_1 (by rw [c_12]; decide) (by rw [c_12]; decide) (by rw [c_12]; rfl) (by decide) ?_
    refine v_aload_n (n := 66) C dX11_count_65 rfl rfl rfl ?_
    refine v_get (n := 69) C dX11_count_66 rfl fl_X11_126_X11 wl_c0 rfl ?_
    exact v_iret C dX11_count_69 rfl rfl ⟨by first | rfl | (simp only [coF, if_neg c_10, if_neg c_11, if_pos c_12]; done) | (simp only [coF, eq_false c_10, eq_false c_11, eq_true c_12, ↓reduceIte]; done) | (simp only [coF, eq_false c_10, eq_false c_11, eq_true c_12, ↓reduceIte] <;> rfl) | (simp [coF, c_10, c_11, c_12]; done), rfl⟩
  by_cases c_13 : w = 3
  · refine v_tableIn (t := 70) C dX11_count_1 (by rw [c_13]; decide) (by rw [c_13]; decide) (by rw [c_13]; rfl) (by decide) ?_
    refine v_aload_n (n := 71) C dX11_count_70 rfl rfl rfl ?_
    refine v_go (n := 74) C (vRun_V (As := []) (rest := []) C wl_c0 rfl lk_X11_236 im_X11_strandedHulls se_X11_strandedHulls dX11_count_71 (c_strandedHulls l D b sc ar hn mh G hv hr) wm_X11_strandedHulls rfl rfl ⟨Nat.le_of_ble_eq_true rfl, Nat.le_of_ble_eq_true rfl⟩ ⟨Nat.le_of_ble_eq_true rfl, Nat.le_of_ble_eq_true rfl⟩ (Nat.le_of_ble_eq_true rfl)) rfl ?_
    rintro _ _ ⟨rfl, rfl⟩ -
    exact v_iret C dX11_count_74 rfl rfl ⟨by first | rfl | (simp only [coF, if_neg c_10, if_neg c_11, if_neg c_12, if_pos c_13]; done) | (simp only [coF, eq_false c_10, eq_false c_11, eq_false c_12, eq_true c_13, ↓reduceIte]; done) | (simp only [coF, eq_false c_10, eq_false c_11, eq_false c_12, eq_true c_13, ↓reduceIte] <;> rfl) | (simp [coF, c_10, c_11, c_12, c_13]; done), rfl⟩
  by_cases c_14 : w = 4
  · refine v_tableIn (t := 75) C dX11_count_1 (by rw [c_14]; decide) (by rw [c_14]; decide) (by rw [c_14]; rfl) (by decide) ?_
    refine v_aload_n (n := 76) C dX11_count_75 rfl rfl rfl ?_
    refine v_get (n := 79) C dX11_count_76 rfl fl_X11_106_X11 wl_c0 rfl ?_
    exact v_iret C dX11_count_79 rfl rfl ⟨by first | rfl | (simp only [coF, if_neg c_10, if_neg c_11, if_neg c_12, if_neg c_13, if_pos c_14]; done) | (simp only [coF, eq_false c_10, eq_false c_11, eq_false c_12, eq_false c_13, eq_true c_14, ↓reduceIte]; done) | (simp only [coF, eq_false c_10, eq_false c_11, eq_false c_12, eq_false c_13, eq_true c_14, ↓reduceIte] <;> rfl) | (simp [coF, c_10, c_11, c_12, c_13, c_14]; done), rfl⟩
  by_cases c_15 : w = 5
  · refine v_tableIn (t := 80) C dX11_count_1 (by rw [c_15]; decide) (by rw [c_15]; decide) (by rw [c_15]; rfl) (by decide) ?_
    refine v_aload_n (n := 81) C dX11_count_80 rfl rfl rfl ?_
    refine v_get (n := 84) C dX11_count_81 rfl fl_X11_59_X11 wl_c0 rfl ?_
    refine v_get (n := 87) C dX11_count_84 rfl fl_X11_123_X7 wl_c25 rfl ?_
    exact v_iret C dX11_count_87 rfl rfl ⟨by first | rfl | (simp only [coF, if_neg c_10, if_neg c_11, if_neg c_12, if_neg c_13, if_neg c_14, if_pos c_15]; done) | (simp only [coF, eq_false c_10, eq_false c_11, eq_false c_12, eq_false c_13, eq_false c_14, eq_true c_15, ↓reduceIte]; done) | (simp only [coF, eq_false c_10, eq_false c_11, eq_false c_12, eq_false c_13, eq_false c_14, eq_true c_15, ↓reduceIte] <;> rfl) | (simp [coF, c_10, c_11, c_12, c_13, c_14, c_15]; done), rfl⟩
  by_cases c_16 : w = 6
  · refine v_tableIn (t := 88) C dX11_count_1 (by rw [c_16]; decide) (by rw [c_16]; decide) (by rw [c_16]; rfl) (by decide) ?_
    refine v_aload_n (n := 89) C dX11_count_88 rfl rfl rfl ?_
    refine v_get (n := 92) C dX11_count_89 rfl fl_X11_22_X11 wl_c0 rfl ?_
    refine v_get (n := 95) C dX11_count_92 rfl fl_X11_189_X8 wl_c3 rfl ?_
    exact v_iret C dX11_count_95 rfl rfl ⟨by first | rfl | (simp only [coF, if_neg c_10, if_neg c_11, if_neg c_12, if_neg c_13, if_neg c_14, if_neg c_15, if_pos c_16]; done) | (simp only [coF, eq_false c_10, eq_false c_11, eq_false c_12, eq_false c_13, eq_false c_14, eq_false c_15, eq_true c_16, ↓reduceIte]; done) | (simp only [coF, eq_false c_10, eq_false c_11, eq_false c_12, eq_false c_13, eq_false c_14, eq_false c_15, eq_true c_16, ↓reduceIte] <;> rfl) | (simp [coF, c_10, c_11, c_12, c_13, c_14, c_15, c_16]; done), rfl⟩
  by_cases c_17 : w = 7
  · refine v_tableIn (t := 96) C dX11_count_1 (by rw [c_17]; decide) (by rw [c_17]; decide) (by rw [c_17]; rfl) (by decide) ?_
    refine v_aload_n (n := 97) C dX11_count_96 rfl rfl rfl ?_
    refine v_get (n := 100) C dX11_count_97 rfl fl_X11_66_X11 wl_c0 rfl ?_
    exact v_iret C dX11_count_100 rfl rfl ⟨by first | rfl | (simp only [coF, if_neg c_10, if_neg c_11, if_neg c_12, if_neg c_13, if_neg c_14, if_neg c_15, if_neg c_16, if_pos c_17]; done) | (simp only [coF, eq_false c_10, eq_false c_11, eq_false c_12, eq_false c_13, eq_false c_14, eq_false c_15, eq_false c_16, eq_true c_17, ↓reduceIte]; done) | (simp only [coF, eq_false c_10, eq_false c_11, eq_false c_12, eq_false c_13, eq_false c_14, eq_false c_15, eq_false c_16, eq_true c_17, ↓reduceIte] <;> rfl) | (simp [coF, c_10, c_11, c_12, c_13, c_14, c_15, c_16, c_17]; done), rfl⟩
  by_cases c_18 : w = 8
  · refine v_tableIn (t := 101) C dX11_count_1 (by rw [c_18]; decide) (by rw [c_18]; decide) (by rw [c_18]; rfl) (by decide) ?_
    refine v_aload_n (n := 102) C dX11_count_101 rfl rfl rfl ?_
    refine v_get (n := 105) C dX11_count_102 rfl fl_X11_99_X11 wl_c0 rfl ?_
    exact v_iret C dX11_count_105 rfl rfl ⟨by first | rfl | (simp only [coF, if_neg c_10, if_neg c_11, if_neg c_12, if_neg c_13, if_neg c_14, if_neg c_15, if_neg c_16, if_neg c_17, if_pos c_18]; done) | (simp only [coF, eq_false c_10, eq_false c_11, eq_false c_12, eq_false c_13, eq_false c_14, eq_false c_15, eq_false c_16, eq_false c_17, eq_true c_18, ↓reduceIte]; done) | (simp only [coF, eq_false c_10, eq_false c_11, eq_false c_12, eq_false c_13, eq_false c_14, eq_false c_15, eq_false c_16, eq_false c_17, eq_true c_18, ↓reduceIte] <;> rfl) | (simp [coF, c_10, c_11, c_12, c_13, c_14, c_15, c_16, c_17, c_18]; done), rfl⟩
  refine v_tableOut (t := 106) C dX11_count_1 (sw_out9 c_10 c_11 c_12 c_13 c_14 c_15 c_16 c_17 c_18) (by decide) ?_
  refine v_bipush (n := 108) (v := -102) C dX11_count_106 rfl (by decide) ?_
  exact v_iret C dX11_count_108 rfl rfl ⟨by first | rfl | (simp only [coF, if_neg c_10, if_neg c_11, if_neg c_12, if_neg c_13, if_neg c_14, if_neg c_15, if_neg c_16, if_neg c_17, if_neg c_18]; done) | (simp only [coF, eq_false c_10, eq_false c_11, eq_false c_12, eq_false c_13, eq_false c_14, eq_false c_15, eq_false c_16, eq_false c_17, eq_false c_18, ↓reduceIte]; done) | (simp only [coF, eq_false c_10, eq_false c_11, eq_false c_12, eq_false c_13, eq_false c_14, eq_false c_15, eq_false c_16, eq_false c_17, eq_false c_18, ↓reduceIte] <;> rfl) | (simp [coF, c_10, c_11, c_12, c_13, c_14, c_15, c_16, c_17, c_18]; done), rfl⟩
set_option maxHeartbeats 4000000 in
set_option maxRecDepth 100000 in
theorem c_see (l : Launch) (D : va_G) (b : Nat) (sc : Nat → Int32) (ar : Nat → Nat → Int32) (hn : Nat → Option Nat) (mh : Int64) (G : List va_E) (x c0 h : Int32) (hv : HV) (hr : HVr hn G hv) : Con l yX11_see cX11_see 4 (some .int) 2 41 D b 0 0 (wl D b sc ar hn mh G) [.ref (b + 0), .int x, .int c0, .int h] (fun r es' => r = some (.int (seS sc ar hv x c0 h).1) ∧ wl D b (seS sc ar hv x c0 h).2.1 (seS sc ar hv x c0 h).2.2 hn mh G = es') := by
  refine con_of (by decide) (Nat.le_of_ble_eq_true rfl) (fun p e s m args below meth c C hsz => ?_)
  have C : vC p s m args meth c cX11_see 4 RX11 "see" (some .int) D b := C
  change V p l e _ s m args below meth c D b 4 _ 0 0 (wl D b sc ar hn mh G) [(0, .ref (b + 0)), (1, .int x), (2, .int c0), (3, .int h)] [] 0
  refine v_aload_n (n := 1) C dX11_see_0 rfl rfl rfl ?_
  refine v_iload_n (n := 2) C dX11_see_1 rfl rfl rfl ?_
  refine v_go (n := 5) C (vRun_V (As := [.int x]) (rest := []) C wl_c0 rfl lk_X11_133 im_X11_hullNumbered se_X11_hullNumbered dX11_see_2 (c_hullNumbered l D b sc ar hn mh G x hv hr) wm_X11_hullNumbered rfl rfl ⟨Nat.le_of_ble_eq_true rfl, Nat.le_of_ble_eq_true rfl⟩ ⟨Nat.le_of_ble_eq_true rfl, Nat.le_of_ble_eq_true rfl⟩ (Nat.le_of_ble_eq_true rfl)) rfl ?_
  rintro _ _ ⟨⟨hq_1, rfl⟩ | ⟨k1, dr1, ce1, sa1, u1, hq_1, hu1, hk1, hg1, rfl⟩, rfl⟩ -
  · skip
    refine v_ifnullN (t := 16) C dX11_see_5 (by decide) ?_
    refine v_bipush (n := 18) (v := -101) C dX11_see_16 rfl (by decide) ?_
    exact v_iret C dX11_see_18 rfl rfl ⟨by first | rfl | (simp only [seS, hq_1]; done) | (simp only [seS, hq_1, ↓reduceIte]; done) | (simp only [seS, hq_1, ↓reduceIte] <;> rfl) | (simp [seS, hq_1]; done), by first | rfl | (simp only [seS, hq_1]; done) | (simp only [seS, hq_1, ↓reduceIte]; done) | (simp only [seS, hq_1, ↓reduceIte] <;> rfl) | (simp [seS, hq_1]; done)⟩
  · skip
    refine v_ifnull (n := 8) C dX11_see_5 rfl ?_
    refine v_aload_n (n := 9) C dX11_see_8 rfl rfl rfl ?_
    refine v_iload_n (n := 10) C dX11_see_9 rfl rfl rfl ?_
    refine v_go (n := 13) C (vRun_V (As := [.int c0]) (rest := []) C wl_c0 rfl lk_X11_102 im_X11_isThere se_X11_isThere dX11_see_10 (c_isThere l D b sc ar hn mh G c0) wm_X11_isThere rfl rfl ⟨Nat.le_of_ble_eq_true rfl, Nat.le_of_ble_eq_true rfl⟩ ⟨Nat.le_of_ble_eq_true rfl, Nat.le_of_ble_eq_true rfl⟩ (Nat.le_of_ble_eq_true rfl)) rfl ?_
    rintro _ _ ⟨rfl, rfl⟩ -
    by_cases p_2 : (sc 16) ≤ 0
    · skip
      refine v_stk (st' := .int 0 :: []) (congrArg (fun z : Int32 => Value.int z :: []) (show thF (sc 16) c0 = 0 by simp only [thF, icF, if_pos p_2])) ?_
      refine v_if_ne (t := 19) (n := 16) C dX11_see_13 (by decide) rfl (fun c_3 => ?_) (fun c_3 => ?_)
      · exact absurd c_3 (by decide)
      · skip
        refine v_bipush (n := 18) (v := -101) C dX11_see_16 rfl (by decide) ?_
        exact v_iret C dX11_see_18 rfl rfl ⟨by first | rfl | (simp only [seS, hq_1, if_pos p_2, if_neg (Int32.not_lt.mpr p_2), if_pos c_3]; done) | (simp only [seS, hq_1, eq_true p_2, eq_false (Int32.not_lt.mpr p_2), eq_true c_3, ↓reduceIte]; done) | (simp only [seS, hq_1, eq_true p_2, eq_false (Int32.not_lt.mpr p_2), eq_true c_3, ↓reduceIte] <;> rfl) | (simp [seS, hq_1, p_2, c_3]; done), by first | rfl | (simp only [seS, hq_1, if_pos p_2, if_neg (Int32.not_lt.mpr p_2), if_pos c_3]; done) | (simp only [seS, hq_1, eq_true p_2, eq_false (Int32.not_lt.mpr p_2), eq_true c_3, ↓reduceIte]; done) | (simp only [seS, hq_1, eq_true p_2, eq_false (Int32.not_lt.mpr p_2), eq_true c_3, ↓reduceIte] <;> rfl) | (simp [seS, hq_1, p_2, c_3]; done)⟩
    by_cases p_4 : c0 < 0
    · skip
      refine v_stk (st' := .int 0 :: []) (congrArg (fun z : Int32 => Value.int z :: []) (show thF (sc 16) c0 = 0 by simp only [thF, icF, if_neg p_2, if_pos p_4])) ?_
      refine v_if_ne (t := 19) (n := 16) C dX11_see_13 (by decide) rfl (fun c_5 => ?_) (fun c_5 => ?_)
      · exact absurd c_5 (by decide)
      · skip
        refine v_bipush (n := 18) (v := -101) C dX11_see_16 rfl (by decide) ?_
        exact v_iret C dX11_see_18 rfl rfl ⟨by first | rfl | (simp only [seS, hq_1, if_neg p_2, if_pos (Int32.not_le.mp p_2), if_pos p_4, if_neg (Int32.not_le.mpr p_4), if_pos c_5]; done) | (simp only [seS, hq_1, eq_false p_2, eq_true (Int32.not_le.mp p_2), eq_true p_4, eq_false (Int32.not_le.mpr p_4), eq_true c_5, ↓reduceIte]; done) | (simp only [seS, hq_1, eq_false p_2, eq_true (Int32.not_le.mp p_2), eq_true p_4, eq_false (Int32.not_le.mpr p_4), eq_true c_5, ↓reduceIte] <;> rfl) | (simp [seS, hq_1, p_2, p_4, c_5]; done), by first | rfl | (simp only [seS, hq_1, if_neg p_2, if_pos (Int32.not_le.mp p_2), if_pos p_4, if_neg (Int32.not_le.mpr p_4), if_pos c_5]; done) | (simp only [seS, hq_1, eq_false p_2, eq_true (Int32.not_le.mp p_2), eq_true p_4, eq_false (Int32.not_le.mpr p_4), eq_true c_5, ↓reduceIte]; done) | (simp only [seS, hq_1, eq_false p_2, eq_true (Int32.not_le.mp p_2), eq_true p_4, eq_false (Int32.not_le.mpr p_4), eq_true c_5, ↓reduceIte] <;> rfl) | (simp [seS, hq_1, p_2, p_4, c_5]; done)⟩
    by_cases p_6 : 12 ≤ c0
    · skip
      refine v_stk (st' := .int 0 :: []) (congrArg (fun z : Int32 => Value.int z :: []) (show thF (sc 16) c0 = 0 by simp only [thF, icF, if_neg p_2, if_neg p_4, if_pos p_6])) ?_
      refine v_if_ne (t := 19) (n := 16) C dX11_see_13 (by decide) rfl (fun c_7 => ?_) (fun c_7 => ?_)
      · exact absurd c_7 (by decide)
      · skip
        refine v_bipush (n := 18) (v := -101) C dX11_see_16 rfl (by decide) ?_
        exact v_iret C dX11_see_18 rfl rfl ⟨by first | rfl | (simp only [seS, hq_1, if_neg p_2, if_pos (Int32.not_le.mp p_2), if_neg p_4, if_pos (Int32.not_lt.mp p_4), if_pos p_6, if_neg (Int32.not_lt.mpr p_6), if_pos c_7]; done) | (simp only [seS, hq_1, eq_false p_2, eq_true (Int32.not_le.mp p_2), eq_false p_4, eq_true (Int32.not_lt.mp p_4), eq_true p_6, eq_false (Int32.not_lt.mpr p_6), eq_true c_7, ↓reduceIte]; done) | (simp only [seS, hq_1, eq_false p_2, eq_true (Int32.not_le.mp p_2), eq_false p_4, eq_true (Int32.not_lt.mp p_4), eq_true p_6, eq_false (Int32.not_lt.mpr p_6), eq_true c_7, ↓reduceIte] <;> rfl) | (simp [seS, hq_1, p_2, p_4, p_6, c_7]; done), by first | rfl | (simp only [seS, hq_1, if_neg p_2, if_pos (Int32.not_le.mp p_2), if_neg p_4, if_pos (Int32.not_lt.mp p_4), if_pos p_6, if_neg (Int32.not_lt.mpr p_6), if_pos c_7]; done) | (simp only [seS, hq_1, eq_false p_2, eq_true (Int32.not_le.mp p_2), eq_false p_4, eq_true (Int32.not_lt.mp p_4), eq_true p_6, eq_false (Int32.not_lt.mpr p_6), eq_true c_7, ↓reduceIte]; done) | (simp only [seS, hq_1, eq_false p_2, eq_true (Int32.not_le.mp p_2), eq_false p_4, eq_true (Int32.not_lt.mp p_4), eq_true p_6, eq_false (Int32.not_lt.mpr p_6), eq_true c_7, ↓reduceIte] <;> rfl) | (simp [seS, hq_1, p_2, p_4, p_6, c_7]; done)⟩
    refine v_stk (st' := .int 1 :: []) (congrArg (fun z : Int32 => Value.int z :: []) (show thF (sc 16) c0 = 1 by simp only [thF, icF, if_neg p_2, if_neg p_4, if_neg p_6])) ?_
    refine v_if_ne (t := 19) (n := 16) C dX11_see_13 (by decide) rfl (fun c_8 => ?_) (fun c_8 => ?_)
    · skip
      refine v_iload_n (n := 20) C dX11_see_19 rfl rfl rfl ?_
      refine v_if_lt (t := 29) (n := 23) C dX11_see_20 (by decide) rfl (fun c_9 => ?_) (fun c_9 => ?_)
      · skip
        refine v_bipush (n := 31) (v := -102) C dX11_see_29 rfl (by decide) ?_
        exact v_iret C dX11_see_31 rfl rfl ⟨by first | rfl | (simp only [seS, hq_1, if_neg p_2, if_pos (Int32.not_le.mp p_2), if_neg p_4, if_pos (Int32.not_lt.mp p_4), if_neg p_6, if_pos (Int32.not_le.mp p_6), if_neg c_8, if_pos c_9, if_neg (Int32.not_le.mpr c_9)]; done) | (simp only [seS, hq_1, eq_false p_2, eq_true (Int32.not_le.mp p_2), eq_false p_4, eq_true (Int32.not_lt.mp p_4), eq_false p_6, eq_true (Int32.not_le.mp p_6), eq_false c_8, eq_true c_9, eq_false (Int32.not_le.mpr c_9), ↓reduceIte]; done) | (simp only [seS, hq_1, eq_false p_2, eq_true (Int32.not_le.mp p_2), eq_false p_4, eq_true (Int32.not_lt.mp p_4), eq_false p_6, eq_true (Int32.not_le.mp p_6), eq_false c_8, eq_true c_9, eq_false (Int32.not_le.mpr c_9), ↓reduceIte] <;> rfl) | (simp [seS, hq_1, p_2, p_4, p_6, c_8, c_9]; done), by first | rfl | (simp only [seS, hq_1, if_neg p_2, if_pos (Int32.not_le.mp p_2), if_neg p_4, if_pos (Int32.not_lt.mp p_4), if_neg p_6, if_pos (Int32.not_le.mp p_6), if_neg c_8, if_pos c_9, if_neg (Int32.not_le.mpr c_9)]; done) | (simp only [seS, hq_1, eq_false p_2, eq_true (Int32.not_le.mp p_2), eq_false p_4, eq_true (Int32.not_lt.mp p_4), eq_false p_6, eq_true (Int32.not_le.mp p_6), eq_false c_8, eq_true c_9, eq_false (Int32.not_le.mpr c_9), ↓reduceIte]; done) | (simp only [seS, hq_1, eq_false p_2, eq_true (Int32.not_le.mp p_2), eq_false p_4, eq_true (Int32.not_lt.mp p_4), eq_false p_6, eq_true (Int32.not_le.mp p_6), eq_false c_8, eq_true c_9, eq_false (Int32.not_le.mpr c_9), ↓reduceIte] <;> rfl) | (simp [seS, hq_1, p_2, p_4, p_6, c_8, c_9]; done)⟩
      · skip
        refine v_iload_n (n := 24) C dX11_see_23 rfl rfl rfl ?_
        refine v_bipush (n := 26) (v := 40) C dX11_see_24 rfl (by decide) ?_
        refine v_icmp_le (t := 32) (n := 29) C dX11_see_26 (by decide) rfl (fun c_10 => ?_) (fun c_10 => ?_)
        · skip
          refine v_aload_n (n := 33) C dX11_see_32 rfl rfl rfl ?_
          refine v_get (n := 36) C dX11_see_33 rfl fl_X11_22_X11 wl_c0 rfl ?_
          refine v_iload_n (n := 37) C dX11_see_36 rfl rfl rfl ?_
          refine v_iload_n (n := 38) C dX11_see_37 rfl rfl rfl ?_
          refine v_iload_n (n := 39) C dX11_see_38 rfl rfl rfl ?_
          refine v_go (n := 42) C (vRun_V (As := [.int x, .int c0, .int h]) (rest := []) C wl_c3 rfl lk_X11_185 im_X8_add se_X8_add dX11_see_39 (c_add l D b sc ar hn mh G x c0 h) wm_X8_add rfl rfl ⟨Nat.le_of_ble_eq_true rfl, Nat.le_of_ble_eq_true rfl⟩ ⟨Nat.le_of_ble_eq_true rfl, Nat.le_of_ble_eq_true rfl⟩ (Nat.le_of_ble_eq_true rfl)) rfl ?_
          rintro _ _ ⟨rfl, rfl⟩ -
          refine v_if_eq (t := 55) (n := 45) C dX11_see_42 (by decide) rfl (fun c_11 => ?_) (fun c_11 => ?_)
          · skip
            refine v_bipush (n := 57) (v := -104) C dX11_see_55 rfl (by decide) ?_
            exact v_iret C dX11_see_57 rfl rfl ⟨by first | rfl | (simp only [seS, hq_1, if_neg p_2, if_pos (Int32.not_le.mp p_2), if_neg p_4, if_pos (Int32.not_lt.mp p_4), if_neg p_6, if_pos (Int32.not_le.mp p_6), if_neg c_8, if_neg c_9, if_pos (Int32.not_lt.mp c_9), if_pos c_10, if_neg (Int32.not_lt.mpr c_10), if_pos c_11]; done) | (simp only [seS, hq_1, eq_false p_2, eq_true (Int32.not_le.mp p_2), eq_false p_4, eq_true (Int32.not_lt.mp p_4), eq_false p_6, eq_true (Int32.not_le.mp p_6), eq_false c_8, eq_false c_9, eq_true (Int32.not_lt.mp c_9), eq_true c_10, eq_false (Int32.not_lt.mpr c_10), eq_true c_11, ↓reduceIte]; done) | (simp only [seS, hq_1, eq_false p_2, eq_true (Int32.not_le.mp p_2), eq_false p_4, eq_true (Int32.not_lt.mp p_4), eq_false p_6, eq_true (Int32.not_le.mp p_6), eq_false c_8, eq_false c_9, eq_true (Int32.not_lt.mp c_9), eq_true c_10, eq_false (Int32.not_lt.mpr c_10), eq_true c_11, ↓reduceIte] <;> rfl) | (simp [seS, hq_1, p_2, p_4, p_6, c_8, c_9, c_10, c_11]; done), by first | rfl | (simp only [seS, hq_1, if_neg p_2, if_pos (Int32.not_le.mp p_2), if_neg p_4, if_pos (Int32.not_lt.mp p_4), if_neg p_6, if_pos (Int32.not_le.mp p_6), if_neg c_8, if_neg c_9, if_pos (Int32.not_lt.mp c_9), if_pos c_10, if_neg (Int32.not_lt.mpr c_10), if_pos c_11]; done) | (simp only [seS, hq_1, eq_false p_2, eq_true (Int32.not_le.mp p_2), eq_false p_4, eq_true (Int32.not_lt.mp p_4), eq_false p_6, eq_true (Int32.not_le.mp p_6), eq_false c_8, eq_false c_9, eq_true (Int32.not_lt.mp c_9), eq_true c_10, eq_false (Int32.not_lt.mpr c_10), eq_true c_11, ↓reduceIte]; done) | (simp only [seS, hq_1, eq_false p_2, eq_true (Int32.not_le.mp p_2), eq_false p_4, eq_true (Int32.not_lt.mp p_4), eq_false p_6, eq_true (Int32.not_le.mp p_6), eq_false c_8, eq_false c_9, eq_true (Int32.not_lt.mp c_9), eq_true c_10, eq_false (Int32.not_lt.mpr c_10), eq_true c_11, ↓reduceIte] <;> rfl) | (simp [seS, hq_1, p_2, p_4, p_6, c_8, c_9, c_10, c_11]; done)⟩
          · skip
            refine v_aload_n (n := 46) C dX11_see_45 rfl rfl rfl ?_
            refine v_get (n := 49) C dX11_see_46 rfl fl_X11_22_X11 wl_c0 rfl ?_
            refine v_get (n := 52) C dX11_see_49 rfl fl_X11_189_X8 wl_c3 rfl ?_
            refine v_goto (t := 57) C dX11_see_52 (by decide) ?_
            exact v_iret C dX11_see_57 rfl rfl ⟨by first | rfl | (simp only [seS, hq_1, if_neg p_2, if_pos (Int32.not_le.mp p_2), if_neg p_4, if_pos (Int32.not_lt.mp p_4), if_neg p_6, if_pos (Int32.not_le.mp p_6), if_neg c_8, if_neg c_9, if_pos (Int32.not_lt.mp c_9), if_pos c_10, if_neg (Int32.not_lt.mpr c_10), if_neg c_11]; done) | (simp only [seS, hq_1, eq_false p_2, eq_true (Int32.not_le.mp p_2), eq_false p_4, eq_true (Int32.not_lt.mp p_4), eq_false p_6, eq_true (Int32.not_le.mp p_6), eq_false c_8, eq_false c_9, eq_true (Int32.not_lt.mp c_9), eq_true c_10, eq_false (Int32.not_lt.mpr c_10), eq_false c_11, ↓reduceIte]; done) | (simp only [seS, hq_1, eq_false p_2, eq_true (Int32.not_le.mp p_2), eq_false p_4, eq_true (Int32.not_lt.mp p_4), eq_false p_6, eq_true (Int32.not_le.mp p_6), eq_false c_8, eq_false c_9, eq_true (Int32.not_lt.mp c_9), eq_true c_10, eq_false (Int32.not_lt.mpr c_10), eq_false c_11, ↓reduceIte] <;> rfl) | (simp [seS, hq_1, p_2, p_4, p_6, c_8, c_9, c_10, c_11]; done), by first | rfl | (simp only [seS, hq_1, if_neg p_2, if_pos (Int32.not_le.mp p_2), if_neg p_4, if_pos (Int32.not_lt.mp p_4), if_neg p_6, if_pos (Int32.not_le.mp p_6), if_neg c_8, if_neg c_9, if_pos (Int32.not_lt.mp c_9), if_pos c_10, if_neg (Int32.not_lt.mpr c_10), if_neg c_11]; done) | (simp only [seS, hq_1, eq_false p_2, eq_true (Int32.not_le.mp p_2), eq_false p_4, eq_true (Int32.not_lt.mp p_4), eq_false p_6, eq_true (Int32.not_le.mp p_6), eq_false c_8, eq_false c_9, eq_true (Int32.not_lt.mp c_9), eq_true c_10, eq_false (Int32.not_lt.mpr c_10), eq_false c_11, ↓reduceIte]; done) | (simp only [seS, hq_1, eq_false p_2, eq_true (Int32.not_le.mp p_2), eq_false p_4, eq_true (Int32.not_lt.mp p_4), eq_false p_6, eq_true (Int32.not_le.mp p_6), eq_false c_8, eq_false c_9, eq_true (Int32.not_lt.mp c_9), eq_true c_10, eq_false (Int32.not_lt.mpr c_10), eq_false c_11, ↓reduceIte] <;> rfl) | (simp [seS, hq_1, p_2, p_4, p_6, c_8, c_9, c_10, c_11]; done)⟩
        · skip
          refine v_bipush (n := 31) (v := -102) C dX11_see_29 rfl (by decide) ?_
          exact v_iret C dX11_see_31 rfl rfl ⟨by first | rfl | (simp only [seS, hq_1, if_neg p_2, if_pos (Int32.not_le.mp p_2), if_neg p_4, if_pos (Int32.not_lt.mp p_4), if_neg p_6, if_pos (Int32.not_le.mp p_6), if_neg c_8, if_neg c_9, if_pos (Int32.not_lt.mp c_9), if_neg c_10, if_pos (Int32.not_le.mp c_10)]; done) | (simp only [seS, hq_1, eq_false p_2, eq_true (Int32.not_le.mp p_2), eq_false p_4, eq_true (Int32.not_lt.mp p_4), eq_false p_6, eq_true (Int32.not_le.mp p_6), eq_false c_8, eq_false c_9, eq_true (Int32.not_lt.mp c_9), eq_false c_10, eq_true (Int32.not_le.mp c_10), ↓reduceIte]; done) | (simp only [seS, hq_1, eq_false p_2, eq_true (Int32.not_le.mp p_2), eq_false p_4, eq_true (Int32.not_lt.mp p_4), eq_false p_6, eq_true (Int32.not_le.mp p_6), eq_false c_8, eq_false c_9, eq_true (Int32.not_lt.mp c_9), eq_false c_10, eq_true (Int32.not_le.mp c_10), ↓reduceIte] <;> rfl) | (simp [seS, hq_1, p_2, p_4, p_6, c_8, c_9, c_10]; done), by first | rfl | (simp only [seS, hq_1, if_neg p_2, if_pos (Int32.not_le.mp p_2), if_neg p_4, if_pos (Int32.not_lt.mp p_4), if_neg p_6, if_pos (Int32.not_le.mp p_6), if_neg c_8, if_neg c_9, if_pos (Int32.not_lt.mp c_9), if_neg c_10, if_pos (Int32.not_le.mp c_10)]; done) | (simp only [seS, hq_1, eq_false p_2, eq_true (Int32.not_le.mp p_2), eq_false p_4, eq_true (Int32.not_lt.mp p_4), eq_false p_6, eq_true (Int32.not_le.mp p_6), eq_false c_8, eq_false c_9, eq_true (Int32.not_lt.mp c_9), eq_false c_10, eq_true (Int32.not_le.mp c_10), ↓reduceIte]; done) | (simp only [seS, hq_1, eq_false p_2, eq_true (Int32.not_le.mp p_2), eq_false p_4, eq_true (Int32.not_lt.mp p_4), eq_false p_6, eq_true (Int32.not_le.mp p_6), eq_false c_8, eq_false c_9, eq_true (Int32.not_lt.mp c_9), eq_false c_10, eq_true (Int32.not_le.mp c_10), ↓reduceIte] <;> rfl) | (simp [seS, hq_1, p_2, p_4, p_6, c_8, c_9, c_10]; done)⟩
    · exact absurd c_8 (by decide)
set_option maxHeartbeats 4000000 in
set_option maxRecDepth 100000 in
theorem c_start (l : Launch) (D : va_G) (b : Nat) (sc : Nat → Int32) (ar : Nat → Nat → Int32) (hn : Nat → Option Nat) (mh : Int64) (G : List va_E) (x : Int32) (hv : HV) (hr : HVr hn G hv) : Con l yX11_start cX11_start 3 (some .int) 5 125 D b 0 0 (wl D b sc ar hn mh G) [.ref (b + 0), .int x] (fun r es' => ∃ v, r = some (.int v) ∧ stP sc ar hv x v ∧ ∃ sc' ar', Per sc ar sc' ar' ∧ wl D b sc' ar' hn mh G = es') := by
  refine con_of (by decide) (Nat.le_of_ble_eq_true rfl) (fun p e s m args below meth c C hsz => ?_)
  have C : vC p s m args meth c cX11_start 3 RX11 "start" (some .int) D b := C
  change V p l e _ s m args below meth c D b 3 _ 0 0 (wl D b sc ar hn mh G) [(0, .ref (b + 0)), (1, .int x)] [] 0
  refine v_aload_n (n := 1) C dX11_start_0 rfl rfl rfl ?_
  refine v_iload_n (n := 2) C dX11_start_1 rfl rfl rfl ?_
  refine v_go (n := 5) C (vRun_V (As := [.int x]) (rest := []) C wl_c0 rfl lk_X11_133 im_X11_hullNumbered se_X11_hullNumbered dX11_start_2 (c_hullNumbered l D b sc ar hn mh G x hv hr) wm_X11_hullNumbered rfl rfl ⟨Nat.le_of_ble_eq_true rfl, Nat.le_of_ble_eq_true rfl⟩ ⟨Nat.le_of_ble_eq_true rfl, Nat.le_of_ble_eq_true rfl⟩ (Nat.le_of_ble_eq_true rfl)) rfl ?_
  rintro _ _ ⟨⟨hq_1, rfl⟩ | ⟨k1, dr1, ce1, sa1, u1, hq_1, hu1, hk1, hg1, rfl⟩, rfl⟩ -
  · skip
    refine v_astore_nN (n := 6) (lv' := [(2, .null), (0, .ref (b + 0)), (1, .int x)]) C dX11_start_5 rfl rfl (Nat.le_of_ble_eq_true rfl) rfl ?_
    refine v_aload_nN (n := 7) C dX11_start_6 rfl rfl rfl ?_
    refine v_ifnonnullN (n := 10) C dX11_start_7 rfl ?_
    refine v_bipush (n := 12) (v := -101) C dX11_start_10 rfl (by decide) ?_
    exact v_iret C dX11_start_12 rfl rfl ⟨_, rfl, by simp only [stP, hq_1], sc, ar, Per_rf, rfl⟩
  · skip
    refine v_astore_n (n := 6) (lv' := [(2, .ref (b + (u1 + 40))), (0, .ref (b + 0)), (1, .int x)]) C dX11_start_5 rfl rfl (Nat.le_of_ble_eq_true rfl) rfl ?_
    refine v_aload_n (n := 7) C dX11_start_6 rfl rfl rfl ?_
    refine v_ifnonnull (t := 13) C dX11_start_7 (by decide) ?_
    refine v_aload_n (n := 14) C dX11_start_13 rfl rfl rfl ?_
    refine v_get (n := 17) C dX11_start_14 rfl fl_X11_22_X11 wl_c0 rfl ?_
    refine v_aload_n (n := 18) C dX11_start_17 rfl rfl rfl ?_
    refine v_get (n := 21) C dX11_start_18 rfl fl_X11_59_X11 wl_c0 rfl ?_
    refine v_aload_n (n := 22) C dX11_start_21 rfl rfl rfl ?_
    refine v_iload_n (n := 23) C dX11_start_22 rfl rfl rfl ?_
    refine v_go (n := 26) C (vRun_V (As := [.ref (b + 25), .ref (b + (u1 + 40)), .int x]) (rest := []) C wl_c3 rfl lk_X11_190 im_X8_startsOf se_X8_startsOf dX11_start_23 (c_startsOf l D b sc ar hn mh G 25 (sc 16) (sc 17) (fun _ => wl_c25) u1 k1 dr1 ce1 sa1 hk1 hg1 x) wm_X8_startsOf rfl rfl ⟨Nat.le_of_ble_eq_true rfl, Nat.le_of_ble_eq_true rfl⟩ ⟨Nat.le_of_ble_eq_true rfl, Nat.le_of_ble_eq_true rfl⟩ (Nat.le_of_ble_eq_true rfl)) rfl ?_
    rintro _ _ ⟨L2, hL2, eL2, rfl, rfl⟩ -
    exact v_iret C dX11_start_26 rfl rfl ⟨_, rfl, by simp only [stP, hq_1]; exact ⟨L2, hL2, eL2, rfl⟩, sc, (va_up (va_up ar 7 (lkN ar (sc 4) x (fillN 4095 (ar 7) 41) 6).2) 8 (csD (ar 24) (sc 16) (sc 17) k1 dr1 (lkN ar (sc 4) x (fillN 4095 (ar 7) 41) 6).2 L2 (ar 8) (L2 + 1))), (Per_a (by decide) (Per_a (by decide) Per_rf)), rfl⟩
set_option maxHeartbeats 4000000 in
set_option maxRecDepth 100000 in
theorem c_forgetAll (l : Launch) (D : va_G) (b : Nat) (sc : Nat → Int32) (ar : Nat → Nat → Int32) (hn : Nat → Option Nat) (mh : Int64) (G : List va_E)  : Con l yX11_forgetAll cX11_forgetAll 2 none 0 0 D b 0 0 (wl D b sc ar hn mh G) [.ref (b + 0)] (fun r es' => r = none ∧ wl D b (va_up (va_up (va_up (va_up (va_up sc 2 0) 3 0) 17 4) 4 0) 6 0) ar (va_up (va_up (va_up hn 0 none) 1 none) 2 none) mh G = es') := by
  refine con_of (by decide) (Nat.le_of_ble_eq_true rfl) (fun p e s m args below meth c C hsz => ?_)
  have C : vC p s m args meth c cX11_forgetAll 2 RX11 "forgetAll" none D b := C
  change V p l e _ s m args below meth c D b 2 _ 0 0 (wl D b sc ar hn mh G) [(0, .ref (b + 0))] [] 0
  refine v_iconst (n := 1) (v := 0) C dX11_forgetAll_0 rfl (by decide) ?_
  refine v_istore_n (n := 2) (lv' := [(1, .int 0), (0, .ref (b + 0))]) C dX11_forgetAll_1 rfl rfl (Nat.le_of_ble_eq_true rfl) rfl ?_
  refine v_iload_n (n := 3) C dX11_forgetAll_2 rfl rfl rfl ?_
  refine v_aload_n (n := 4) C dX11_forgetAll_3 rfl rfl rfl ?_
  refine v_get (n := 7) C dX11_forgetAll_4 rfl fl_X11_15_X11 wl_c0 rfl ?_
  refine v_alenQ (n := 8) (v := 3) C dX11_forgetAll_7 rfl wl_c2 rfl ?_
  refine v_icmp_ge (t := 24) (n := 11) C dX11_forgetAll_8 (by decide) rfl (fun c_1 => ?_) (fun c_1 => ?_)
  · exact absurd c_1 (by decide)
  · skip
    refine v_aload_n (n := 12) C dX11_forgetAll_11 rfl rfl rfl ?_
    refine v_get (n := 15) C dX11_forgetAll_12 rfl fl_X11_15_X11 wl_c0 rfl ?_
    refine v_iload_n (n := 16) C dX11_forgetAll_15 rfl rfl rfl ?_
    refine v_null (n := 17) C dX11_forgetAll_16 rfl ?_
    refine v_aastN (n := 18) (es' := (wl D b sc ar (va_up hn 0 none) mh G)) C dX11_forgetAll_17 rfl wl_c2 (vp_lit (by decide) (by decide)) (wl_h (i := 0) (v := none)) ?_
    refine v_iinc (n := 21) (v := 1) (lv' := [(1, .int 1), (0, .ref (b + 0))]) C dX11_forgetAll_18 rfl rfl rfl (Nat.le_of_ble_eq_true rfl) rfl ?_
    refine v_goto (t := 2) C dX11_forgetAll_21 (by decide) ?_
    refine v_iload_n (n := 3) C dX11_forgetAll_2 rfl rfl rfl ?_
    refine v_aload_n (n := 4) C dX11_forgetAll_3 rfl rfl rfl ?_
    refine v_get (n := 7) C dX11_forgetAll_4 rfl fl_X11_15_X11 wl_c0 rfl ?_
    refine v_alenQ (n := 8) (v := 3) C dX11_forgetAll_7 rfl wl_c2 rfl ?_
    refine v_icmp_ge (t := 24) (n := 11) C dX11_forgetAll_8 (by decide) rfl (fun c_2 => ?_) (fun c_2 => ?_)
    · exact absurd c_2 (by decide)
    · skip
      refine v_aload_n (n := 12) C dX11_forgetAll_11 rfl rfl rfl ?_
      refine v_get (n := 15) C dX11_forgetAll_12 rfl fl_X11_15_X11 wl_c0 rfl ?_
      refine v_iload_n (n := 16) C dX11_forgetAll_15 rfl rfl rfl ?_
      refine v_null (n := 17) C dX11_forgetAll_16 rfl ?_
      refine v_aastN (n := 18) (es' := (wl D b sc ar (va_up (va_up hn 0 none) 1 none) mh G)) C dX11_forgetAll_17 rfl wl_c2 (vp_lit (by decide) (by decide)) (wl_h (i := 1) (v := none)) ?_
      refine v_iinc (n := 21) (v := 2) (lv' := [(1, .int 2), (0, .ref (b + 0))]) C dX11_forgetAll_18 rfl rfl rfl (Nat.le_of_ble_eq_true rfl) rfl ?_
      refine v_goto (t := 2) C dX11_forgetAll_21 (by decide) ?_
      refine v_iload_n (n := 3) C dX11_forgetAll_2 rfl rfl rfl ?_
      refine v_aload_n (n := 4) C dX11_forgetAll_3 rfl rfl rfl ?_
      refine v_get (n := 7) C dX11_forgetAll_4 rfl fl_X11_15_X11 wl_c0 rfl ?_
      refine v_alenQ (n := 8) (v := 3) C dX11_forgetAll_7 rfl wl_c2 rfl ?_
      refine v_icmp_ge (t := 24) (n := 11) C dX11_forgetAll_8 (by decide) rfl (fun c_3 => ?_) (fun c_3 => ?_)
      · exact absurd c_3 (by decide)
      · skip
        refine v_aload_n (n := 12) C dX11_forgetAll_11 rfl rfl rfl ?_
        refine v_get (n := 15) C dX11_forgetAll_12 rfl fl_X11_15_X11 wl_c0 rfl ?_
        refine v_iload_n (n := 16) C dX11_forgetAll_15 rfl rfl rfl ?_
        refine v_null (n := 17) C dX11_forgetAll_16 rfl ?_
        refine v_aastN (n := 18) (es' := (wl D b sc ar (va_up (va_up (va_up hn 0 none) 1 none) 2 none) mh G)) C dX11_forgetAll_17 rfl wl_c2 (vp_lit (by decide) (by decide)) (wl_h (i := 2) (v := none)) ?_
        refine v_iinc (n := 21) (v := 3) (lv' := [(1, .int 3), (0, .ref (b + 0))]) C dX11_forgetAll_18 rfl rfl rfl (Nat.le_of_ble_eq_true rfl) rfl ?_
        refine v_goto (t := 2) C dX11_forgetAll_21 (by decide) ?_
        refine v_iload_n (n := 3) C dX11_forgetAll_2 rfl rfl rfl ?_
        refine v_aload_n (n := 4) C dX11_forgetAll_3 rfl rfl rfl ?_
        refine v_get (n := 7) C dX11_forgetAll_4 rfl fl_X11_15_X11 wl_c0 rfl ?_
        refine v_alenQ (n := 8) (v := 3) C dX11_forgetAll_7 rfl wl_c2 rfl ?_
        refine v_icmp_ge (t := 24) (n := 11) C dX11_forgetAll_8 (by decide) rfl (fun c_4 => ?_) (fun c_4 => ?_)
        · skip
          refine v_aload_n (n := 25) C dX11_forgetAll_24 rfl rfl rfl ?_
          refine v_iconst (n := 26) (v := 0) C dX11_forgetAll_25 rfl (by decide) ?_
          refine v_put (n := 29) (es' := (wl D b (va_up sc 2 0) ar (va_up (va_up (va_up hn 0 none) 1 none) 2 none) mh G)) C dX11_forgetAll_26 rfl fl_X11_126_X11 (fp_any fp_X11_6) wl_c0 rfl rfl (Nat.le_of_ble_eq_true rfl) wl_p0_6 ?_
          refine v_aload_n (n := 30) C dX11_forgetAll_29 rfl rfl rfl ?_
          refine v_iconst (n := 31) (v := 0) C dX11_forgetAll_30 rfl (by decide) ?_
          refine v_put (n := 34) (es' := (wl D b (va_up (va_up sc 2 0) 3 0) ar (va_up (va_up (va_up hn 0 none) 1 none) 2 none) mh G)) C dX11_forgetAll_31 rfl fl_X11_106_X11 (fp_any fp_X11_7) (show (wl D b (va_up sc 2 0) ar (va_up (va_up (va_up hn 0 none) 1 none) 2 none) mh G)[0]? = some (.inr (11, [.ref (b + 1), .int (sc 0), .int (sc 1), .ref (b + 25), .ref (b + 26), .ref (b + 2), .int 0, .int (sc 3), .ref (b + 3), .ref (b + 9), .ref (b + 18), .ref (b + 21), .ref (b + 22)])) from wl_c0) rfl rfl (Nat.le_of_ble_eq_true rfl) wl_p0_7 ?_
          refine v_aload_n (n := 35) C dX11_forgetAll_34 rfl rfl rfl ?_
          refine v_get (n := 38) C dX11_forgetAll_35 rfl fl_X11_59_X11 (show (wl D b (va_up (va_up sc 2 0) 3 0) ar (va_up (va_up (va_up hn 0 none) 1 none) 2 none) mh G)[0]? = some (.inr (11, [.ref (b + 1), .int (sc 0), .int (sc 1), .ref (b + 25), .ref (b + 26), .ref (b + 2), .int 0, .int 0, .ref (b + 3), .ref (b + 9), .ref (b + 18), .ref (b + 21), .ref (b + 22)])) from wl_c0) rfl ?_
          refine v_iconst (n := 39) (v := 4) C dX11_forgetAll_38 rfl (by decide) ?_
          refine v_put (n := 42) (es' := (wl D b (va_up (va_up (va_up sc 2 0) 3 0) 17 4) ar (va_up (va_up (va_up hn 0 none) 1 none) 2 none) mh G)) C dX11_forgetAll_39 rfl fl_X11_123_X7 (fp_any fp_X7_2) (show (wl D b (va_up (va_up sc 2 0) 3 0) ar (va_up (va_up (va_up hn 0 none) 1 none) 2 none) mh G)[25]? = some (.inr (7, [.ref (b + 24), .int (sc 16), .int (sc 17)])) from wl_c25) rfl rfl (Nat.le_of_ble_eq_true rfl) wl_p25_2 ?_
          refine v_aload_n (n := 43) C dX11_forgetAll_42 rfl rfl rfl ?_
          refine v_get (n := 46) C dX11_forgetAll_43 rfl fl_X11_22_X11 (show (wl D b (va_up (va_up (va_up sc 2 0) 3 0) 17 4) ar (va_up (va_up (va_up hn 0 none) 1 none) 2 none) mh G)[0]? = some (.inr (11, [.ref (b + 1), .int (sc 0), .int (sc 1), .ref (b + 25), .ref (b + 26), .ref (b + 2), .int 0, .int 0, .ref (b + 3), .ref (b + 9), .ref (b + 18), .ref (b + 21), .ref (b + 22)])) from wl_c0) rfl ?_
          refine v_iconst (n := 47) (v := 0) C dX11_forgetAll_46 rfl (by decide) ?_
          refine v_put (n := 50) (es' := (wl D b (va_up (va_up (va_up (va_up sc 2 0) 3 0) 17 4) 4 0) ar (va_up (va_up (va_up hn 0 none) 1 none) 2 none) mh G)) C dX11_forgetAll_47 rfl fl_X11_189_X8 (fp_any fp_X8_0) (show (wl D b (va_up (va_up (va_up sc 2 0) 3 0) 17 4) ar (va_up (va_up (va_up hn 0 none) 1 none) 2 none) mh G)[3]? = some (.inr (8, [.int (sc 4), .ref (b + 4), .ref (b + 5), .ref (b + 6), .ref (b + 7), .ref (b + 8)])) from wl_c3) rfl rfl (Nat.le_of_ble_eq_true rfl) wl_p3_0 ?_
          refine v_aload_n (n := 51) C dX11_forgetAll_50 rfl rfl rfl ?_
          refine v_get (n := 54) C dX11_forgetAll_51 rfl fl_X11_29_X11 (show (wl D b (va_up (va_up (va_up (va_up sc 2 0) 3 0) 17 4) 4 0) ar (va_up (va_up (va_up hn 0 none) 1 none) 2 none) mh G)[0]? = some (.inr (11, [.ref (b + 1), .int (sc 0), .int (sc 1), .ref (b + 25), .ref (b + 26), .ref (b + 2), .int 0, .int 0, .ref (b + 3), .ref (b + 9), .ref (b + 18), .ref (b + 21), .ref (b + 22)])) from wl_c0) rfl ?_
          refine v_iconst (n := 55) (v := 0) C dX11_forgetAll_54 rfl (by decide) ?_
          refine v_put (n := 58) (es' := (wl D b (va_up (va_up (va_up (va_up (va_up sc 2 0) 3 0) 17 4) 4 0) 6 0) ar (va_up (va_up (va_up hn 0 none) 1 none) 2 none) mh G)) C dX11_forgetAll_55 rfl fl_X11_224_X5 (fp_any fp_X5_0) (show (wl D b (va_up (va_up (va_up (va_up sc 2 0) 3 0) 17 4) 4 0) ar (va_up (va_up (va_up hn 0 none) 1 none) 2 none) mh G)[9]? = some (.inr (5, [.int (sc 6), .int (sc 7), .int (sc 8), .int (sc 9), .ref (b + 10), .ref (b + 16), .ref (b + 17)])) from wl_c9) rfl rfl (Nat.le_of_ble_eq_true rfl) wl_p9_0 ?_
          exact v_vret C dX11_forgetAll_58 rfl ⟨rfl, by first | rfl | (simp only [if_neg c_1, if_pos (Int32.not_le.mp c_1), if_neg c_2, if_pos (Int32.not_le.mp c_2), if_neg c_3, if_pos (Int32.not_le.mp c_3), if_pos c_4, if_neg (Int32.not_lt.mpr c_4)]; done) | (simp only [eq_false c_1, eq_true (Int32.not_le.mp c_1), eq_false c_2, eq_true (Int32.not_le.mp c_2), eq_false c_3, eq_true (Int32.not_le.mp c_3), eq_true c_4, eq_false (Int32.not_lt.mpr c_4), ↓reduceIte]; done) | (simp only [eq_false c_1, eq_true (Int32.not_le.mp c_1), eq_false c_2, eq_true (Int32.not_le.mp c_2), eq_false c_3, eq_true (Int32.not_le.mp c_3), eq_true c_4, eq_false (Int32.not_lt.mpr c_4), ↓reduceIte] <;> rfl) | (simp [c_1, c_2, c_3, c_4]; done)⟩
        · exact absurd c_4 (by decide)
