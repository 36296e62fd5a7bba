/-- the class's digest -/
def dcI (sc : Nat → Int32) (ar : Nat → Nat → Int32) (hv : HV) (c : Nat) (h : Int64) : Nat → Int64
  | 0 => h
  | w + 1 => 31 * dcI sc ar hv c h w + Int32.toInt64 (ceF sc ar hv (nI c) (nI w))
def dcC (sc : Nat → Int32) (ar : Nat → Nat → Int32) (hv : HV) (h : Int64) : Nat → Int64
  | 0 => h
  | c + 1 => dcI sc ar hv c (dcC sc ar hv h c) 4
def dhA (sc : Nat → Int32) (ar : Nat → Nat → Int32) (hv : HV) (x : Int32) (o : Nat) (h : Int64) : Nat → Int64
  | 0 => h
  | w + 1 => 31 * dhA sc ar hv x o h w + Int32.toInt64 (aboF sc ar hv x (nI (w + o)))
def dkN (sc : Nat → Int32) (ar : Nat → Nat → Int32) (hv : HV) (h : Int64) : Nat → Int64
  | 0 => h
  | w + 1 => 31 * dkN sc ar hv h w + Int32.toInt64 (coF sc ar hv (nI w))
def dgC (sc : Nat → Int32) (ar : Nat → Nat → Int32) (hv : HV) : Int64 := if sc 16 ≤ 0 then 863 else dcC sc ar hv 863 12
noncomputable def dgH (F : Nat → Int64 → Int64) (n : Nat) (h : Int64) : Nat → Int64
  | 0 => h
  | k + 1 => if k < n then F k (dgH F n h k) else dgH F n h k
set_option maxHeartbeats 4000000 in
set_option maxRecDepth 100000 in
theorem c_digestOfCells (l : Launch) (D : va_G) (b : Nat) (sc : Nat → Int32) (ar : Nat → Nat → Int32) (hn : Nat → Option Nat) (mh : Int64) (G : List va_E) (h0 : Int64) (hv : HV) (hr : HVr hn G hv) : Con l yX11_digestOfCells cX11_digestOfCells 7 (some .long) 3 63 D b 0 0 (wl D b sc ar hn mh G) [.ref (b + 0), .long h0] (fun r es' => r = some (.long (dcC sc ar hv h0 12)) ∧ (wl D b sc ar hn mh G) = es') := by
  refine con_of (by decide) (Nat.le_of_ble_eq_true rfl) (fun p e s m args below meth c C hsz => ?_)
  have C : vC p s m args meth c cX11_digestOfCells 7 RX11 "digestOfCells" (some .long) D b := C
  change V p l e _ s m args below meth c D b 7 _ 0 0 (wl D b sc ar hn mh G) [(0, .ref (b + 0)), (1, .long h0)] [] 0
  refine v_lload_n (n := 1) C dX11_digestOfCells_0 rfl rfl rfl ?_
  refine v_lstore_n (n := 2) (lv' := [(3, .long h0), (0, .ref (b + 0)), (1, .long h0)]) C dX11_digestOfCells_1 rfl rfl (Nat.le_of_ble_eq_true rfl) rfl ?_
  refine v_iconst (n := 3) (v := 0) C dX11_digestOfCells_2 rfl (by decide) ?_
  refine v_istore (n := 5) (lv' := [(5, .int 0), (3, .long h0), (0, .ref (b + 0)), (1, .long h0)]) C dX11_digestOfCells_3 rfl (Nat.le_of_ble_eq_true rfl) rfl ?_
  refine v_pick (lv' := [(5, .int 0), (0, .ref (b + 0)), (1, .long h0), (3, .long h0)]) [0, 2, 3, 1] rfl ?_
  have e_1 : (0 : Int32) = (nI 0) := rfl
  have e_2 : (h0 : Int64) = (dcC sc ar hv h0 0) := rfl
  refine v_cong (es' := (wl D b sc ar hn mh G)) (lv' := [(5, .int (nI 0)), (0, .ref (b + 0)), (1, .long h0), (3, .long (dcC sc ar hv h0 0))]) rfl (cg2 (fun (z0 : Int32) (z1 : Int64) => ([(5, .int z0), (0, .ref (b + 0)), (1, .long h0), (3, .long z1)] : List (Nat × Value))) e_1 e_2) ?_
  refine loop_dn (P := fun i_5 => V p l e { frames := 3, cells := 0, slots := 0, locals := 63 } s m args below meth c D b 7 (MQ below (cQ D b 0 (fun r es' => r = some (.long (dcC sc ar hv h0 12)) ∧ (wl D b sc ar hn mh G) = es')) args s 0 0 (fun q => b ≤ q)) 0 0 (wl D b sc ar hn mh G) [(5, .int (nI i_5)), (0, .ref (b + 0)), (1, .long h0), (3, .long (dcC sc ar hv h0 i_5))] [] 5) 12 ?_ (fun i_5 hi_5 ih_5 => ?_)
  · skip
    have g_3 : (12 : Int32) ≤ (nI 12) := by decide
    refine v_iload (n := 7) C dX11_digestOfCells_5 rfl rfl ?_
    refine v_bipush (n := 9) (v := 12) C dX11_digestOfCells_7 rfl (by decide) ?_
    refine v_icmp_ge (t := 49) (n := 12) C dX11_digestOfCells_9 (by decide) rfl (fun c_4 => ?_) (fun c_4 => ?_)
    · skip
      refine v_lload_n (n := 50) C dX11_digestOfCells_49 rfl rfl rfl ?_
      exact v_lret C dX11_digestOfCells_50 rfl ⟨rfl, rfl⟩
    · first | exact absurd c_4 g_3 | exact absurd g_3 c_4 | exact absurd c_4 (Int32.not_le.mpr g_3) | exact absurd c_4 (Int32.not_lt.mpr g_3) | exact absurd (Int32.not_le.mp g_3) c_4 | exact absurd (Int32.not_lt.mp g_3) c_4 | exact absurd (Int32.not_le.mp g_3) (Int32.not_lt.mpr c_4) | exact absurd (Int32.not_lt.mp g_3) (Int32.not_le.mpr c_4) | exact absurd (Int32.not_lt.mp c_4) (Int32.not_le.mpr (Int32.not_le.mp g_3))
  · skip
    have g_5 : ¬ (12 : Int32) ≤ (nI i_5) := nI_ge (a := i_5 + 0) (b := 12) (by omega) (by decide)
    refine v_iload (n := 7) C dX11_digestOfCells_5 rfl rfl ?_
    refine v_bipush (n := 9) (v := 12) C dX11_digestOfCells_7 rfl (by decide) ?_
    refine v_icmp_ge (t := 49) (n := 12) C dX11_digestOfCells_9 (by decide) rfl (fun c_6 => ?_) (fun c_6 => ?_)
    · first | exact absurd c_6 g_5 | exact absurd g_5 c_6 | exact absurd c_6 (Int32.not_le.mpr g_5) | exact absurd c_6 (Int32.not_lt.mpr g_5) | exact absurd (Int32.not_le.mp g_5) c_6 | exact absurd (Int32.not_lt.mp g_5) c_6 | exact absurd (Int32.not_le.mp g_5) (Int32.not_lt.mpr c_6) | exact absurd (Int32.not_lt.mp g_5) (Int32.not_le.mpr c_6) | exact absurd (Int32.not_lt.mp c_6) (Int32.not_le.mpr (Int32.not_le.mp g_5))
    · skip
      refine v_iconst (n := 13) (v := 0) C dX11_digestOfCells_12 rfl (by decide) ?_
      refine v_istore (n := 15) (lv' := [(6, .int 0), (5, .int (nI i_5)), (0, .ref (b + 0)), (1, .long h0), (3, .long (dcC sc ar hv h0 i_5))]) C dX11_digestOfCells_13 rfl (Nat.le_of_ble_eq_true rfl) rfl ?_
      refine v_pick (lv' := [(6, .int 0), (0, .ref (b + 0)), (1, .long h0), (3, .long (dcC sc ar hv h0 i_5)), (5, .int (nI i_5))]) [0, 2, 3, 4, 1] rfl ?_
      have e_7 : (0 : Int32) = (nI 0) := rfl
      have e_8 : ((dcC sc ar hv h0 i_5) : Int64) = (dcI sc ar hv i_5 (dcC sc ar hv h0 i_5) 0) := rfl
      refine v_cong (es' := (wl D b sc ar hn mh G)) (lv' := [(6, .int (nI 0)), (0, .ref (b + 0)), (1, .long h0), (3, .long (dcI sc ar hv i_5 (dcC sc ar hv h0 i_5) 0)), (5, .int (nI i_5))]) rfl (cg2 (fun (z0 : Int32) (z1 : Int64) => ([(6, .int z0), (0, .ref (b + 0)), (1, .long h0), (3, .long z1), (5, .int (nI i_5))] : List (Nat × Value))) e_7 e_8) ?_
      refine loop_dn (P := fun i_15 => V p l e { frames := 3, cells := 0, slots := 0, locals := 63 } s m args below meth c D b 7 (MQ below (cQ D b 0 (fun r es' => r = some (.long (dcC sc ar hv h0 12)) ∧ (wl D b sc ar hn mh G) = es')) args s 0 0 (fun q => b ≤ q)) 0 0 (wl D b sc ar hn mh G) [(6, .int (nI i_15)), (0, .ref (b + 0)), (1, .long h0), (3, .long (dcI sc ar hv i_5 (dcC sc ar hv h0 i_5) i_15)), (5, .int (nI i_5))] [] 15) 4 ?_ (fun i_15 hi_15 ih_15 => ?_)
      · skip
        have g_9 : (3 : Int32) < (nI 4) := by decide
        refine v_iload (n := 17) C dX11_digestOfCells_15 rfl rfl ?_
        refine v_iconst (n := 18) (v := 3) C dX11_digestOfCells_17 rfl (by decide) ?_
        refine v_icmp_gt (t := 43) (n := 21) C dX11_digestOfCells_18 (by decide) rfl (fun c_10 => ?_) (fun c_10 => ?_)
        · skip
          refine v_iinc (n := 46) (v := ((nI i_5) + 1)) (lv' := [(5, .int ((nI i_5) + 1)), (6, .int (nI 4)), (0, .ref (b + 0)), (1, .long h0), (3, .long (dcI sc ar hv i_5 (dcC sc ar hv h0 i_5) 4))]) C dX11_digestOfCells_43 rfl rfl rfl (Nat.le_of_ble_eq_true rfl) rfl ?_
          refine v_goto (t := 5) C dX11_digestOfCells_46 (by decide) ?_
          refine v_pick (lv' := [(5, .int ((nI i_5) + 1)), (0, .ref (b + 0)), (1, .long h0), (3, .long (dcI sc ar hv i_5 (dcC sc ar hv h0 i_5) 4))]) [0, 2, 3, 4] rfl ?_
          have e_11 : ((nI i_5) + 1) = (nI (i_5 + 1)) := nI_1 _
          have e_12 : ((dcI sc ar hv i_5 (dcC sc ar hv h0 i_5) 4) : Int64) = (dcC sc ar hv h0 (i_5 + 1)) := rfl
          refine v_cong (es' := (wl D b sc ar hn mh G)) (lv' := [(5, .int (nI (i_5 + 1))), (0, .ref (b + 0)), (1, .long h0), (3, .long (dcC sc ar hv h0 (i_5 + 1)))]) rfl (cg2 (fun (z0 : Int32) (z1 : Int64) => ([(5, .int z0), (0, .ref (b + 0)), (1, .long h0), (3, .long z1)] : List (Nat × Value))) e_11 e_12) ?_
          exact ih_5
        · first | exact absurd c_10 g_9 | exact absurd g_9 c_10 | exact absurd c_10 (Int32.not_le.mpr g_9) | exact absurd c_10 (Int32.not_lt.mpr g_9) | exact absurd (Int32.not_le.mp g_9) c_10 | exact absurd (Int32.not_lt.mp g_9) c_10 | exact absurd (Int32.not_le.mp g_9) (Int32.not_lt.mpr c_10) | exact absurd (Int32.not_lt.mp g_9) (Int32.not_le.mpr c_10) | exact absurd (Int32.not_lt.mp c_10) (Int32.not_le.mpr (Int32.not_le.mp g_9))
      · skip
        have g_13 : ¬ (3 : Int32) < (nI i_15) := nI_nlt (a := 3) (b := i_15 + 0) (by omega) (by decide)
        refine v_iload (n := 17) C dX11_digestOfCells_15 rfl rfl ?_
        refine v_iconst (n := 18) (v := 3) C dX11_digestOfCells_17 rfl (by decide) ?_
        refine v_icmp_gt (t := 43) (n := 21) C dX11_digestOfCells_18 (by decide) rfl (fun c_14 => ?_) (fun c_14 => ?_)
        · first | exact absurd c_14 g_13 | exact absurd g_13 c_14 | exact absurd c_14 (Int32.not_le.mpr g_13) | exact absurd c_14 (Int32.not_lt.mpr g_13) | exact absurd (Int32.not_le.mp g_13) c_14 | exact absurd (Int32.not_lt.mp g_13) c_14 | exact absurd (Int32.not_le.mp g_13) (Int32.not_lt.mpr c_14) | exact absurd (Int32.not_lt.mp g_13) (Int32.not_le.mpr c_14) | exact absurd (Int32.not_lt.mp c_14) (Int32.not_le.mpr (Int32.not_le.mp g_13))
        · skip
          refine v_ldc2 (n := 24) C dX11_digestOfCells_21 rfl kl_X11_249 ?_
          refine v_lload_n (n := 25) C dX11_digestOfCells_24 rfl rfl rfl ?_
          refine v_lmul (n := 26) C dX11_digestOfCells_25 rfl ?_
          refine v_aload_n (n := 27) C dX11_digestOfCells_26 rfl rfl rfl ?_
          refine v_iload (n := 29) C dX11_digestOfCells_27 rfl rfl ?_
          refine v_iload (n := 31) C dX11_digestOfCells_29 rfl rfl ?_
          refine v_go (n := 34) C (vRun_V (As := [.int (nI i_5), .int (nI i_15)]) (rest := [.long (31 * (dcI sc ar hv i_5 (dcC sc ar hv h0 i_5) i_15))]) C wl_c0 rfl lk_X11_254 im_X11_cell se_X11_cell dX11_digestOfCells_31 (c_cell l D b sc ar hn mh G (nI i_5) (nI i_15) hv hr) wm_X11_cell rfl rfl ⟨Nat.le_of_ble_eq_true rfl, Nat.le_of_ble_eq_true rfl⟩ ⟨Nat.le_of_ble_eq_true rfl, Nat.le_of_ble_eq_true rfl⟩ (Nat.le_of_ble_eq_true rfl)) rfl ?_
          rintro _ _ ⟨rfl, rfl⟩ -
          refine v_i2l (n := 35) C dX11_digestOfCells_34 rfl ?_
          refine v_ladd (n := 36) C dX11_digestOfCells_35 rfl ?_
          refine v_lstore_n (n := 37) (lv' := [(3, .long ((31 * (dcI sc ar hv i_5 (dcC sc ar hv h0 i_5) i_15)) + (Int32.toInt64 (ceF sc ar hv (nI i_5) (nI i_15))))), (6, .int (nI i_15)), (0, .ref (b + 0)), (1, .long h0), (5, .int (nI i_5))]) C dX11_digestOfCells_36 rfl rfl (Nat.le_of_ble_eq_true rfl) rfl ?_
          refine v_iinc (n := 40) (v := ((nI i_15) + 1)) (lv' := [(6, .int ((nI i_15) + 1)), (3, .long ((31 * (dcI sc ar hv i_5 (dcC sc ar hv h0 i_5) i_15)) + (Int32.toInt64 (ceF sc ar hv (nI i_5) (nI i_15))))), (0, .ref (b + 0)), (1, .long h0), (5, .int (nI i_5))]) C dX11_digestOfCells_37 rfl rfl rfl (Nat.le_of_ble_eq_true rfl) rfl ?_
          refine v_goto (t := 15) C dX11_digestOfCells_40 (by decide) ?_
          refine v_pick (lv' := [(6, .int ((nI i_15) + 1)), (0, .ref (b + 0)), (1, .long h0), (3, .long ((31 * (dcI sc ar hv i_5 (dcC sc ar hv h0 i_5) i_15)) + (Int32.toInt64 (ceF sc ar hv (nI i_5) (nI i_15))))), (5, .int (nI i_5))]) [0, 2, 3, 1, 4] rfl ?_
          have e_15 : ((nI i_15) + 1) = (nI (i_15 + 1)) := nI_1 _
          have e_16 : (((31 * (dcI sc ar hv i_5 (dcC sc ar hv h0 i_5) i_15)) + (Int32.toInt64 (ceF sc ar hv (nI i_5) (nI i_15)))) : Int64) = (dcI sc ar hv i_5 (dcC sc ar hv h0 i_5) (i_15 + 1)) := rfl
          refine v_cong (es' := (wl D b sc ar hn mh G)) (lv' := [(6, .int (nI (i_15 + 1))), (0, .ref (b + 0)), (1, .long h0), (3, .long (dcI sc ar hv i_5 (dcC sc ar hv h0 i_5) (i_15 + 1))), (5, .int (nI i_5))]) rfl (cg2 (fun (z0 : Int32) (z1 : Int64) => ([(6, .int z0), (0, .ref (b + 0)), (1, .long h0), (3, .long z1), (5, .int (nI i_5))] : List (Nat × Value))) e_15 e_16) ?_
          exact ih_15
set_option maxHeartbeats 4000000 in
set_option maxRecDepth 100000 in
theorem c_digestOfHull (l : Launch) (D : va_G) (b : Nat) (sc : Nat → Int32) (ar : Nat → Nat → Int32) (hn : Nat → Option Nat) (mh : Int64) (G : List va_E) (h0 : Int64) (u k : Nat) (dr ce sa : Int32) (hk : k < 5) (hg : G[u]? = some (hcl k dr ce sa)) (x : Int32) (hv : HV) (hr : HVr hn G hv) : Con l yX11_digestOfHull cX11_digestOfHull 8 (some .long) 5 125 D b 0 0 (wl D b sc ar hn mh G) [.ref (b + 0), .long h0, .ref (b + (u + 40)), .int x] (fun r es' => ∃ (ar1 : Nat → Nat → Int32) (L : Nat), Per sc ar sc ar1 ∧ L ≤ 40 ∧ (lkN ar1 (sc 4) x (fillN 4095 (ar1 7) 41) 6).1 = nI L ∧ r = some (.long (31 * (mhV (fun c => atF (plF (ar 24) (sc 16) (sc 17) k dr (ar 19, ar 20) ce (sc 3)).1 (nI c)) (dhA sc ar hv x 10 (dhA sc ar hv x 0 h0 5) 4) 12) + Int32.toInt64 (csD (ar1 24) (sc 16) (sc 17) k dr (lkN ar1 (sc 4) x (fillN 4095 (ar1 7) 41) 6).2 L (ar1 8) (L + 1) 0))) ∧ ∃ sc' ar', Per sc ar sc' ar' ∧ wl D b sc' ar' hn mh G = es') := by
  refine con_of (by decide) (Nat.le_of_ble_eq_true rfl) (fun p e s m args below meth c C hsz => ?_)
  have C : vC p s m args meth c cX11_digestOfHull 8 RX11 "digestOfHull" (some .long) D b := C
  change V p l e _ s m args below meth c D b 8 _ 0 0 (wl D b sc ar hn mh G) [(0, .ref (b + 0)), (1, .long h0), (3, .ref (b + (u + 40))), (4, .int x)] [] 0
  refine v_lload_n (n := 1) C dX11_digestOfHull_0 rfl rfl rfl ?_
  refine v_lstore (n := 3) (lv' := [(5, .long h0), (0, .ref (b + 0)), (1, .long h0), (3, .ref (b + (u + 40))), (4, .int x)]) C dX11_digestOfHull_1 rfl (Nat.le_of_ble_eq_true rfl) rfl ?_
  refine v_iconst (n := 4) (v := 0) C dX11_digestOfHull_3 rfl (by decide) ?_
  refine v_istore (n := 6) (lv' := [(7, .int 0), (5, .long h0), (0, .ref (b + 0)), (1, .long h0), (3, .ref (b + (u + 40))), (4, .int x)]) C dX11_digestOfHull_4 rfl (Nat.le_of_ble_eq_true rfl) rfl ?_
  refine v_pick (lv' := [(7, .int 0), (0, .ref (b + 0)), (3, .ref (b + (u + 40))), (4, .int x), (5, .long h0)]) [0, 2, 4, 5, 1] rfl ?_
  have e_1 : (0 : Int32) = (nI 0) := rfl
  have e_2 : (h0 : Int64) = (dhA sc ar hv x 0 h0 0) := rfl
  refine v_cong (es' := (wl D b sc ar hn mh G)) (lv' := [(7, .int (nI 0)), (0, .ref (b + 0)), (3, .ref (b + (u + 40))), (4, .int x), (5, .long (dhA sc ar hv x 0 h0 0))]) rfl (cg2 (fun (z0 : Int32) (z1 : Int64) => ([(7, .int z0), (0, .ref (b + 0)), (3, .ref (b + (u + 40))), (4, .int x), (5, .long z1)] : List (Nat × Value))) e_1 e_2) ?_
  refine loop_dn (P := fun i_6 => V p l e { frames := 5, cells := 0, slots := 0, locals := 125 } s m args below meth c D b 8 (MQ below (cQ D b 0 (fun r es' => ∃ (ar1 : Nat → Nat → Int32) (L : Nat), Per sc ar sc ar1 ∧ L ≤ 40 ∧ (lkN ar1 (sc 4) x (fillN 4095 (ar1 7) 41) 6).1 = nI L ∧ r = some (.long (31 * (mhV (fun c => atF (plF (ar 24) (sc 16) (sc 17) k dr (ar 19, ar 20) ce (sc 3)).1 (nI c)) (dhA sc ar hv x 10 (dhA sc ar hv x 0 h0 5) 4) 12) + Int32.toInt64 (csD (ar1 24) (sc 16) (sc 17) k dr (lkN ar1 (sc 4) x (fillN 4095 (ar1 7) 41) 6).2 L (ar1 8) (L + 1) 0))) ∧ ∃ sc' ar', Per sc ar sc' ar' ∧ wl D b sc' ar' hn mh G = es')) args s 0 0 (fun q => b ≤ q)) 0 0 (wl D b sc ar hn mh G) [(7, .int (nI i_6)), (0, .ref (b + 0)), (3, .ref (b + (u + 40))), (4, .int x), (5, .long (dhA sc ar hv x 0 h0 i_6))] [] 6) 5 ?_ (fun i_6 hi_6 ih_6 => ?_)
  · skip
    have g_3 : (4 : Int32) < (nI 5) := by decide
    refine v_iload (n := 8) C dX11_digestOfHull_6 rfl rfl ?_
    refine v_iconst (n := 9) (v := 4) C dX11_digestOfHull_8 rfl (by decide) ?_
    refine v_icmp_gt (t := 36) (n := 12) C dX11_digestOfHull_9 (by decide) rfl (fun c_4 => ?_) (fun c_4 => ?_)
    · skip
      refine v_bipush (n := 38) (v := 10) C dX11_digestOfHull_36 rfl (by decide) ?_
      refine v_istore (n := 40) (lv' := [(7, .int 10), (0, .ref (b + 0)), (3, .ref (b + (u + 40))), (4, .int x), (5, .long (dhA sc ar hv x 0 h0 5))]) C dX11_digestOfHull_38 rfl (Nat.le_of_ble_eq_true rfl) rfl ?_
      refine v_pick (lv' := [(7, .int 10), (0, .ref (b + 0)), (3, .ref (b + (u + 40))), (4, .int x), (5, .long (dhA sc ar hv x 0 h0 5))]) [0, 1, 2, 3, 4] rfl ?_
      have e_5 : (10 : Int32) = (nI (0 + 10)) := rfl
      have e_6 : ((dhA sc ar hv x 0 h0 5) : Int64) = (dhA sc ar hv x 10 (dhA sc ar hv x 0 h0 5) 0) := rfl
      refine v_cong (es' := (wl D b sc ar hn mh G)) (lv' := [(7, .int (nI (0 + 10))), (0, .ref (b + 0)), (3, .ref (b + (u + 40))), (4, .int x), (5, .long (dhA sc ar hv x 10 (dhA sc ar hv x 0 h0 5) 0))]) rfl (cg2 (fun (z0 : Int32) (z1 : Int64) => ([(7, .int z0), (0, .ref (b + 0)), (3, .ref (b + (u + 40))), (4, .int x), (5, .long z1)] : List (Nat × Value))) e_5 e_6) ?_
      refine loop_dn (P := fun i_40 => V p l e { frames := 5, cells := 0, slots := 0, locals := 125 } s m args below meth c D b 8 (MQ below (cQ D b 0 (fun r es' => ∃ (ar1 : Nat → Nat → Int32) (L : Nat), Per sc ar sc ar1 ∧ L ≤ 40 ∧ (lkN ar1 (sc 4) x (fillN 4095 (ar1 7) 41) 6).1 = nI L ∧ r = some (.long (31 * (mhV (fun c => atF (plF (ar 24) (sc 16) (sc 17) k dr (ar 19, ar 20) ce (sc 3)).1 (nI c)) (dhA sc ar hv x 10 (dhA sc ar hv x 0 h0 5) 4) 12) + Int32.toInt64 (csD (ar1 24) (sc 16) (sc 17) k dr (lkN ar1 (sc 4) x (fillN 4095 (ar1 7) 41) 6).2 L (ar1 8) (L + 1) 0))) ∧ ∃ sc' ar', Per sc ar sc' ar' ∧ wl D b sc' ar' hn mh G = es')) args s 0 0 (fun q => b ≤ q)) 0 0 (wl D b sc ar hn mh G) [(7, .int (nI (i_40 + 10))), (0, .ref (b + 0)), (3, .ref (b + (u + 40))), (4, .int x), (5, .long (dhA sc ar hv x 10 (dhA sc ar hv x 0 h0 5) i_40))] [] 40) 4 ?_ (fun i_40 hi_40 ih_40 => ?_)
      · skip
        have g_7 : (13 : Int32) < (nI (4 + 10)) := by decide
        refine v_iload (n := 42) C dX11_digestOfHull_40 rfl rfl ?_
        refine v_bipush (n := 44) (v := 13) C dX11_digestOfHull_42 rfl (by decide) ?_
        refine v_icmp_gt (t := 71) (n := 47) C dX11_digestOfHull_44 (by decide) rfl (fun c_8 => ?_) (fun c_8 => ?_)
        · skip
          refine v_aload_n (n := 72) C dX11_digestOfHull_71 rfl rfl rfl ?_
          refine v_get (n := 75) C dX11_digestOfHull_72 rfl fl_X11_36_X11 wl_c0 rfl ?_
          refine v_aload_n (n := 76) C dX11_digestOfHull_75 rfl rfl rfl ?_
          refine v_get (n := 79) C dX11_digestOfHull_76 rfl fl_X11_59_X11 wl_c0 rfl ?_
          refine v_aload_n (n := 80) C dX11_digestOfHull_79 rfl rfl rfl ?_
          refine v_aload_n (n := 81) C dX11_digestOfHull_80 rfl rfl rfl ?_
          refine v_get (n := 84) C dX11_digestOfHull_81 rfl (flk_X11_143 hk) (wl_tail hg) rfl ?_
          refine v_aload_n (n := 85) C dX11_digestOfHull_84 rfl rfl rfl ?_
          refine v_get (n := 88) C dX11_digestOfHull_85 rfl fl_X11_106_X11 wl_c0 rfl ?_
          refine v_go (n := 91) C (vRun_V (As := [.ref (b + 25), .ref (b + (u + 40)), .int ce, .int (sc 3)]) (rest := []) C wl_c18 rfl lk_X11_164 im_X0_plot se_X0_plot dX11_digestOfHull_88 (c_plot l D b sc ar hn mh G 25 (sc 16) (sc 17) (fun _ => wl_c25) u k dr ce sa hk hg ce (sc 3)) wm_X0_plot rfl rfl ⟨Nat.le_of_ble_eq_true rfl, Nat.le_of_ble_eq_true rfl⟩ ⟨Nat.le_of_ble_eq_true rfl, Nat.le_of_ble_eq_true rfl⟩ (Nat.le_of_ble_eq_true rfl)) rfl ?_
          rintro _ _ ⟨rfl, rfl⟩ -
          refine v_cong (es' := (wl D b sc (va_up (va_up ar 19 (plF (ar 24) (sc 16) (sc 17) k dr ((ar 19), (ar 20)) ce (sc 3)).1) 20 (plF (ar 24) (sc 16) (sc 17) k dr ((ar 19), (ar 20)) ce (sc 3)).2) hn mh G)) (lv' := [(7, .int (nI (4 + 10))), (0, .ref (b + 0)), (3, .ref (b + (u + 40))), (4, .int x), (5, .long (dhA sc ar hv x 10 (dhA sc ar hv x 0 h0 5) 4))]) rfl rfl ?_
          refine v_iconst (n := 92) (v := 0) C dX11_digestOfHull_91 rfl (by decide) ?_
          refine v_istore (n := 94) (lv' := [(7, .int 0), (0, .ref (b + 0)), (3, .ref (b + (u + 40))), (4, .int x), (5, .long (dhA sc ar hv x 10 (dhA sc ar hv x 0 h0 5) 4))]) C dX11_digestOfHull_92 rfl (Nat.le_of_ble_eq_true rfl) rfl ?_
          refine v_pick (lv' := [(7, .int 0), (0, .ref (b + 0)), (3, .ref (b + (u + 40))), (4, .int x), (5, .long (dhA sc ar hv x 10 (dhA sc ar hv x 0 h0 5) 4))]) [0, 1, 2, 3, 4] rfl ?_
          have e_9 : (0 : Int32) = (nI 0) := rfl
          have e_10 : ((dhA sc ar hv x 10 (dhA sc ar hv x 0 h0 5) 4) : Int64) = (mhV (fun c => atF (plF (ar 24) (sc 16) (sc 17) k dr (ar 19, ar 20) ce (sc 3)).1 (nI c)) (dhA sc ar hv x 10 (dhA sc ar hv x 0 h0 5) 4) 0) := rfl
          refine v_cong (es' := (wl D b sc (va_up (va_up ar 19 (plF (ar 24) (sc 16) (sc 17) k dr ((ar 19), (ar 20)) ce (sc 3)).1) 20 (plF (ar 24) (sc 16) (sc 17) k dr ((ar 19), (ar 20)) ce (sc 3)).2) hn mh G)) (lv' := [(7, .int (nI 0)), (0, .ref (b + 0)), (3, .ref (b + (u + 40))), (4, .int x), (5, .long (mhV (fun c => atF (plF (ar 24) (sc 16) (sc 17) k dr (ar 19, ar 20) ce (sc 3)).1 (nI c)) (dhA sc ar hv x 10 (dhA sc ar hv x 0 h0 5) 4) 0))]) rfl (cg2 (fun (z0 : Int32) (z1 : Int64) => ([(7, .int z0), (0, .ref (b + 0)), (3, .ref (b + (u + 40))), (4, .int x), (5, .long z1)] : List (Nat × Value))) e_9 e_10) ?_
          refine loop_dn (P := fun i_94 => V p l e { frames := 5, cells := 0, slots := 0, locals := 125 } s m args below meth c D b 8 (MQ below (cQ D b 0 (fun r es' => ∃ (ar1 : Nat → Nat → Int32) (L : Nat), Per sc ar sc ar1 ∧ L ≤ 40 ∧ (lkN ar1 (sc 4) x (fillN 4095 (ar1 7) 41) 6).1 = nI L ∧ r = some (.long (31 * (mhV (fun c => atF (plF (ar 24) (sc 16) (sc 17) k dr (ar 19, ar 20) ce (sc 3)).1 (nI c)) (dhA sc ar hv x 10 (dhA sc ar hv x 0 h0 5) 4) 12) + Int32.toInt64 (csD (ar1 24) (sc 16) (sc 17) k dr (lkN ar1 (sc 4) x (fillN 4095 (ar1 7) 41) 6).2 L (ar1 8) (L + 1) 0))) ∧ ∃ sc' ar', Per sc ar sc' ar' ∧ wl D b sc' ar' hn mh G = es')) args s 0 0 (fun q => b ≤ q)) 0 0 (wl D b sc (va_up (va_up ar 19 (plF (ar 24) (sc 16) (sc 17) k dr ((ar 19), (ar 20)) ce (sc 3)).1) 20 (plF (ar 24) (sc 16) (sc 17) k dr ((ar 19), (ar 20)) ce (sc 3)).2) hn mh G) [(7, .int (nI i_94)), (0, .ref (b + 0)), (3, .ref (b + (u + 40))), (4, .int x), (5, .long (mhV (fun c => atF (plF (ar 24) (sc 16) (sc 17) k dr (ar 19, ar 20) ce (sc 3)).1 (nI c)) (dhA sc ar hv x 10 (dhA sc ar hv x 0 h0 5) 4) i_94))] [] 94) 12 ?_ (fun i_94 hi_94 ih_94 => ?_)
          · skip
            have g_11 : (12 : Int32) ≤ (nI 12) := by decide
            refine v_iload (n := 96) C dX11_digestOfHull_94 rfl rfl ?_
            refine v_bipush (n := 98) (v := 12) C dX11_digestOfHull_96 rfl (by decide) ?_
            refine v_icmp_ge (t := 126) (n := 101) C dX11_digestOfHull_98 (by decide) rfl (fun c_12 => ?_) (fun c_12 => ?_)
            · skip
              refine v_ldc2 (n := 129) C dX11_digestOfHull_126 rfl kl_X11_249 ?_
              refine v_lload (n := 131) C dX11_digestOfHull_129 rfl rfl ?_
              refine v_lmul (n := 132) C dX11_digestOfHull_131 rfl ?_
              refine v_aload_n (n := 133) C dX11_digestOfHull_132 rfl rfl rfl ?_
              refine v_get (n := 136) C dX11_digestOfHull_133 rfl fl_X11_22_X11 wl_c0 rfl ?_
              refine v_aload_n (n := 137) C dX11_digestOfHull_136 rfl rfl rfl ?_
              refine v_get (n := 140) C dX11_digestOfHull_137 rfl fl_X11_59_X11 wl_c0 rfl ?_
              refine v_aload_n (n := 141) C dX11_digestOfHull_140 rfl rfl rfl ?_
              refine v_iload (n := 143) C dX11_digestOfHull_141 rfl rfl ?_
              refine v_go (n := 146) C (vRun_V (As := [.ref (b + 25), .ref (b + (u + 40)), .int x]) (rest := [.long (31 * (mhV (fun c => atF (plF (ar 24) (sc 16) (sc 17) k dr (ar 19, ar 20) ce (sc 3)).1 (nI c)) (dhA sc ar hv x 10 (dhA sc ar hv x 0 h0 5) 4) 12))]) C wl_c3 rfl lk_X11_190 im_X8_startsOf se_X8_startsOf dX11_digestOfHull_143 (c_startsOf l D b sc (va_up (va_up ar 19 (plF (ar 24) (sc 16) (sc 17) k dr ((ar 19), (ar 20)) ce (sc 3)).1) 20 (plF (ar 24) (sc 16) (sc 17) k dr ((ar 19), (ar 20)) ce (sc 3)).2) hn mh G 25 (sc 16) (sc 17) (fun _ => wl_c25) u k dr ce sa hk hg x) wm_X8_startsOf rfl rfl ⟨Nat.le_of_ble_eq_true rfl, Nat.le_of_ble_eq_true rfl⟩ ⟨Nat.le_of_ble_eq_true rfl, Nat.le_of_ble_eq_true rfl⟩ (Nat.le_of_ble_eq_true rfl)) rfl ?_
              rintro _ _ ⟨L13, hL13, eL13, rfl, rfl⟩ -
              refine v_i2l (n := 147) C dX11_digestOfHull_146 rfl ?_
              refine v_ladd (n := 148) C dX11_digestOfHull_147 rfl ?_
              exact v_lret C dX11_digestOfHull_148 rfl ⟨(va_up (va_up ar 19 (plF (ar 24) (sc 16) (sc 17) k dr (ar 19, ar 20) ce (sc 3)).1) 20 (plF (ar 24) (sc 16) (sc 17) k dr (ar 19, ar 20) ce (sc 3)).2), L13, Per_a (by decide) (Per_a (by decide) Per_rf), hL13, eL13, rfl, sc, (va_up (va_up (va_up (va_up ar 19 (plF (ar 24) (sc 16) (sc 17) k dr ((ar 19), (ar 20)) ce (sc 3)).1) 20 (plF (ar 24) (sc 16) (sc 17) k dr ((ar 19), (ar 20)) ce (sc 3)).2) 7 (lkN (va_up (va_up ar 19 (plF (ar 24) (sc 16) (sc 17) k dr ((ar 19), (ar 20)) ce (sc 3)).1) 20 (plF (ar 24) (sc 16) (sc 17) k dr ((ar 19), (ar 20)) ce (sc 3)).2) (sc 4) x (fillN 4095 (ar 7) 41) 6).2) 8 (csD (ar 24) (sc 16) (sc 17) k dr (lkN (va_up (va_up ar 19 (plF (ar 24) (sc 16) (sc 17) k dr ((ar 19), (ar 20)) ce (sc 3)).1) 20 (plF (ar 24) (sc 16) (sc 17) k dr ((ar 19), (ar 20)) ce (sc 3)).2) (sc 4) x (fillN 4095 (ar 7) 41) 6).2 L13 (ar 8) (L13 + 1))), (Per_a (by decide) (Per_a (by decide) (Per_a (by decide) (Per_a (by decide) Per_rf)))), rfl⟩
            · first | exact absurd c_12 g_11 | exact absurd g_11 c_12 | exact absurd c_12 (Int32.not_le.mpr g_11) | exact absurd c_12 (Int32.not_lt.mpr g_11) | exact absurd (Int32.not_le.mp g_11) c_12 | exact absurd (Int32.not_lt.mp g_11) c_12 | exact absurd (Int32.not_le.mp g_11) (Int32.not_lt.mpr c_12) | exact absurd (Int32.not_lt.mp g_11) (Int32.not_le.mpr c_12) | exact absurd (Int32.not_lt.mp c_12) (Int32.not_le.mpr (Int32.not_le.mp g_11))
          · skip
            have g_14 : ¬ (12 : Int32) ≤ (nI i_94) := nI_ge (a := i_94 + 0) (b := 12) (by omega) (by decide)
            refine v_iload (n := 96) C dX11_digestOfHull_94 rfl rfl ?_
            refine v_bipush (n := 98) (v := 12) C dX11_digestOfHull_96 rfl (by decide) ?_
            refine v_icmp_ge (t := 126) (n := 101) C dX11_digestOfHull_98 (by decide) rfl (fun c_15 => ?_) (fun c_15 => ?_)
            · first | exact absurd c_15 g_14 | exact absurd g_14 c_15 | exact absurd c_15 (Int32.not_le.mpr g_14) | exact absurd c_15 (Int32.not_lt.mpr g_14) | exact absurd (Int32.not_le.mp g_14) c_15 | exact absurd (Int32.not_lt.mp g_14) c_15 | exact absurd (Int32.not_le.mp g_14) (Int32.not_lt.mpr c_15) | exact absurd (Int32.not_lt.mp g_14) (Int32.not_le.mpr c_15) | exact absurd (Int32.not_lt.mp c_15) (Int32.not_le.mpr (Int32.not_le.mp g_14))
            · skip
              refine v_ldc2 (n := 104) C dX11_digestOfHull_101 rfl kl_X11_249 ?_
              refine v_lload (n := 106) C dX11_digestOfHull_104 rfl rfl ?_
              refine v_lmul (n := 107) C dX11_digestOfHull_106 rfl ?_
              refine v_aload_n (n := 108) C dX11_digestOfHull_107 rfl rfl rfl ?_
              refine v_get (n := 111) C dX11_digestOfHull_108 rfl fl_X11_36_X11 wl_c0 rfl ?_
              refine v_iload (n := 113) C dX11_digestOfHull_111 rfl rfl ?_
              refine v_go (n := 116) C (vRun_V (As := [.int (nI i_94)]) (rest := [.long (31 * (mhV (fun c => atF (plF (ar 24) (sc 16) (sc 17) k dr (ar 19, ar 20) ce (sc 3)).1 (nI c)) (dhA sc ar hv x 10 (dhA sc ar hv x 0 h0 5) 4) i_94))]) C wl_c18 rfl lk_X11_168 im_X0_hourAt se_X0_hourAt dX11_digestOfHull_113 (c_hourAt l D b sc (va_up (va_up ar 19 (plF (ar 24) (sc 16) (sc 17) k dr ((ar 19), (ar 20)) ce (sc 3)).1) 20 (plF (ar 24) (sc 16) (sc 17) k dr ((ar 19), (ar 20)) ce (sc 3)).2) hn mh G (nI i_94)) wm_X0_hourAt rfl rfl ⟨Nat.le_of_ble_eq_true rfl, Nat.le_of_ble_eq_true rfl⟩ ⟨Nat.le_of_ble_eq_true rfl, Nat.le_of_ble_eq_true rfl⟩ (Nat.le_of_ble_eq_true rfl)) rfl ?_
              rintro _ _ ⟨rfl, rfl⟩ -
              refine v_i2l (n := 117) C dX11_digestOfHull_116 rfl ?_
              refine v_ladd (n := 118) C dX11_digestOfHull_117 rfl ?_
              refine v_lstore (n := 120) (lv' := [(5, .long ((31 * (mhV (fun c => atF (plF (ar 24) (sc 16) (sc 17) k dr (ar 19, ar 20) ce (sc 3)).1 (nI c)) (dhA sc ar hv x 10 (dhA sc ar hv x 0 h0 5) 4) i_94)) + (Int32.toInt64 (atF (plF (ar 24) (sc 16) (sc 17) k dr ((ar 19), (ar 20)) ce (sc 3)).1 (nI i_94))))), (7, .int (nI i_94)), (0, .ref (b + 0)), (3, .ref (b + (u + 40))), (4, .int x)]) C dX11_digestOfHull_118 rfl (Nat.le_of_ble_eq_true rfl) rfl ?_
              refine v_iinc (n := 123) (v := ((nI i_94) + 1)) (lv' := [(7, .int ((nI i_94) + 1)), (5, .long ((31 * (mhV (fun c => atF (plF (ar 24) (sc 16) (sc 17) k dr (ar 19, ar 20) ce (sc 3)).1 (nI c)) (dhA sc ar hv x 10 (dhA sc ar hv x 0 h0 5) 4) i_94)) + (Int32.toInt64 (atF (plF (ar 24) (sc 16) (sc 17) k dr ((ar 19), (ar 20)) ce (sc 3)).1 (nI i_94))))), (0, .ref (b + 0)), (3, .ref (b + (u + 40))), (4, .int x)]) C dX11_digestOfHull_120 rfl rfl rfl (Nat.le_of_ble_eq_true rfl) rfl ?_
              refine v_goto (t := 94) C dX11_digestOfHull_123 (by decide) ?_
              refine v_pick (lv' := [(7, .int ((nI i_94) + 1)), (0, .ref (b + 0)), (3, .ref (b + (u + 40))), (4, .int x), (5, .long ((31 * (mhV (fun c => atF (plF (ar 24) (sc 16) (sc 17) k dr (ar 19, ar 20) ce (sc 3)).1 (nI c)) (dhA sc ar hv x 10 (dhA sc ar hv x 0 h0 5) 4) i_94)) + (Int32.toInt64 (atF (plF (ar 24) (sc 16) (sc 17) k dr ((ar 19), (ar 20)) ce (sc 3)).1 (nI i_94)))))]) [0, 2, 3, 4, 1] rfl ?_
              have e_16 : ((nI i_94) + 1) = (nI (i_94 + 1)) := nI_1 _
              have e_17 : (((31 * (mhV (fun c => atF (plF (ar 24) (sc 16) (sc 17) k dr (ar 19, ar 20) ce (sc 3)).1 (nI c)) (dhA sc ar hv x 10 (dhA sc ar hv x 0 h0 5) 4) i_94)) + (Int32.toInt64 (atF (plF (ar 24) (sc 16) (sc 17) k dr ((ar 19), (ar 20)) ce (sc 3)).1 (nI i_94)))) : Int64) = (mhV (fun c => atF (plF (ar 24) (sc 16) (sc 17) k dr (ar 19, ar 20) ce (sc 3)).1 (nI c)) (dhA sc ar hv x 10 (dhA sc ar hv x 0 h0 5) 4) (i_94 + 1)) := rfl
              refine v_cong (es' := (wl D b sc (va_up (va_up ar 19 (plF (ar 24) (sc 16) (sc 17) k dr ((ar 19), (ar 20)) ce (sc 3)).1) 20 (plF (ar 24) (sc 16) (sc 17) k dr ((ar 19), (ar 20)) ce (sc 3)).2) hn mh G)) (lv' := [(7, .int (nI (i_94 + 1))), (0, .ref (b + 0)), (3, .ref (b + (u + 40))), (4, .int x), (5, .long (mhV (fun c => atF (plF (ar 24) (sc 16) (sc 17) k dr (ar 19, ar 20) ce (sc 3)).1 (nI c)) (dhA sc ar hv x 10 (dhA sc ar hv x 0 h0 5) 4) (i_94 + 1)))]) rfl (cg2 (fun (z0 : Int32) (z1 : Int64) => ([(7, .int z0), (0, .ref (b + 0)), (3, .ref (b + (u + 40))), (4, .int x), (5, .long z1)] : List (Nat × Value))) e_16 e_17) ?_
              exact ih_94
        · first | exact absurd c_8 g_7 | exact absurd g_7 c_8 | exact absurd c_8 (Int32.not_le.mpr g_7) | exact absurd c_8 (Int32.not_lt.mpr g_7) | exact absurd (Int32.not_le.mp g_7) c_8 | exact absurd (Int32.not_lt.mp g_7) c_8 | exact absurd (Int32.not_le.mp g_7) (Int32.not_lt.mpr c_8) | exact absurd (Int32.not_lt.mp g_7) (Int32.not_le.mpr c_8) | exact absurd (Int32.not_lt.mp c_8) (Int32.not_le.mpr (Int32.not_le.mp g_7))
      · skip
        have g_18 : ¬ (13 : Int32) < (nI (i_40 + 10)) := nI_nlt (a := 13) (b := i_40 + 10) (by omega) (by decide)
        refine v_iload (n := 42) C dX11_digestOfHull_40 rfl rfl ?_
        refine v_bipush (n := 44) (v := 13) C dX11_digestOfHull_42 rfl (by decide) ?_
        refine v_icmp_gt (t := 71) (n := 47) C dX11_digestOfHull_44 (by decide) rfl (fun c_19 => ?_) (fun c_19 => ?_)
        · first | exact absurd c_19 g_18 | exact absurd g_18 c_19 | exact absurd c_19 (Int32.not_le.mpr g_18) | exact absurd c_19 (Int32.not_lt.mpr g_18) | exact absurd (Int32.not_le.mp g_18) c_19 | exact absurd (Int32.not_lt.mp g_18) c_19 | exact absurd (Int32.not_le.mp g_18) (Int32.not_lt.mpr c_19) | exact absurd (Int32.not_lt.mp g_18) (Int32.not_le.mpr c_19) | exact absurd (Int32.not_lt.mp c_19) (Int32.not_le.mpr (Int32.not_le.mp g_18))
        · skip
          refine v_ldc2 (n := 50) C dX11_digestOfHull_47 rfl kl_X11_249 ?_
          refine v_lload (n := 52) C dX11_digestOfHull_50 rfl rfl ?_
          refine v_lmul (n := 53) C dX11_digestOfHull_52 rfl ?_
          refine v_aload_n (n := 54) C dX11_digestOfHull_53 rfl rfl rfl ?_
          refine v_iload (n := 56) C dX11_digestOfHull_54 rfl rfl ?_
          refine v_iload (n := 58) C dX11_digestOfHull_56 rfl rfl ?_
          refine v_go (n := 61) C (vRun_V (As := [.int x, .int (nI (i_40 + 10))]) (rest := [.long (31 * (dhA sc ar hv x 10 (dhA sc ar hv x 0 h0 5) i_40))]) C wl_c0 rfl lk_X11_256 im_X11_about se_X11_about dX11_digestOfHull_58 (c_about l D b sc ar hn mh G x (nI (i_40 + 10)) hv hr) wm_X11_about rfl rfl ⟨Nat.le_of_ble_eq_true rfl, Nat.le_of_ble_eq_true rfl⟩ ⟨Nat.le_of_ble_eq_true rfl, Nat.le_of_ble_eq_true rfl⟩ (Nat.le_of_ble_eq_true rfl)) rfl ?_
          rintro _ _ ⟨rfl, rfl⟩ -
          refine v_i2l (n := 62) C dX11_digestOfHull_61 rfl ?_
          refine v_ladd (n := 63) C dX11_digestOfHull_62 rfl ?_
          refine v_lstore (n := 65) (lv' := [(5, .long ((31 * (dhA sc ar hv x 10 (dhA sc ar hv x 0 h0 5) i_40)) + (Int32.toInt64 (aboF sc ar hv x (nI (i_40 + 10)))))), (7, .int (nI (i_40 + 10))), (0, .ref (b + 0)), (3, .ref (b + (u + 40))), (4, .int x)]) C dX11_digestOfHull_63 rfl (Nat.le_of_ble_eq_true rfl) rfl ?_
          refine v_iinc (n := 68) (v := ((nI (i_40 + 10)) + 1)) (lv' := [(7, .int ((nI (i_40 + 10)) + 1)), (5, .long ((31 * (dhA sc ar hv x 10 (dhA sc ar hv x 0 h0 5) i_40)) + (Int32.toInt64 (aboF sc ar hv x (nI (i_40 + 10)))))), (0, .ref (b + 0)), (3, .ref (b + (u + 40))), (4, .int x)]) C dX11_digestOfHull_65 rfl rfl rfl (Nat.le_of_ble_eq_true rfl) rfl ?_
          refine v_goto (t := 40) C dX11_digestOfHull_68 (by decide) ?_
          refine v_pick (lv' := [(7, .int ((nI (i_40 + 10)) + 1)), (0, .ref (b + 0)), (3, .ref (b + (u + 40))), (4, .int x), (5, .long ((31 * (dhA sc ar hv x 10 (dhA sc ar hv x 0 h0 5) i_40)) + (Int32.toInt64 (aboF sc ar hv x (nI (i_40 + 10))))))]) [0, 2, 3, 4, 1] rfl ?_
          have e_20 : ((nI (i_40 + 10)) + 1) = (nI ((i_40 + 1) + 10)) := nI_1 _
          have e_21 : (((31 * (dhA sc ar hv x 10 (dhA sc ar hv x 0 h0 5) i_40)) + (Int32.toInt64 (aboF sc ar hv x (nI (i_40 + 10))))) : Int64) = (dhA sc ar hv x 10 (dhA sc ar hv x 0 h0 5) (i_40 + 1)) := rfl
          refine v_cong (es' := (wl D b sc ar hn mh G)) (lv' := [(7, .int (nI ((i_40 + 1) + 10))), (0, .ref (b + 0)), (3, .ref (b + (u + 40))), (4, .int x), (5, .long (dhA sc ar hv x 10 (dhA sc ar hv x 0 h0 5) (i_40 + 1)))]) rfl (cg2 (fun (z0 : Int32) (z1 : Int64) => ([(7, .int z0), (0, .ref (b + 0)), (3, .ref (b + (u + 40))), (4, .int x), (5, .long z1)] : List (Nat × Value))) e_20 e_21) ?_
          exact ih_40
    · first | exact absurd c_4 g_3 | exact absurd g_3 c_4 | exact absurd c_4 (Int32.not_le.mpr g_3) | exact absurd c_4 (Int32.not_lt.mpr g_3) | exact absurd (Int32.not_le.mp g_3) c_4 | exact absurd (Int32.not_lt.mp g_3) c_4 | exact absurd (Int32.not_le.mp g_3) (Int32.not_lt.mpr c_4) | exact absurd (Int32.not_lt.mp g_3) (Int32.not_le.mpr c_4) | exact absurd (Int32.not_lt.mp c_4) (Int32.not_le.mpr (Int32.not_le.mp g_3))
  · skip
    have g_22 : ¬ (4 : Int32) < (nI i_6) := nI_nlt (a := 4) (b := i_6 + 0) (by omega) (by decide)
    refine v_iload (n := 8) C dX11_digestOfHull_6 rfl rfl ?_
    refine v_iconst (n := 9) (v := 4) C dX11_digestOfHull_8 rfl (by decide) ?_
    refine v_icmp_gt (t := 36) (n := 12) C dX11_digestOfHull_9 (by decide) rfl (fun c_23 => ?_) (fun c_23 => ?_)
    · first | exact absurd c_23 g_22 | exact absurd g_22 c_23 | exact absurd c_23 (Int32.not_le.mpr g_22) | exact absurd c_23 (Int32.not_lt.mpr g_22) | exact absurd (Int32.not_le.mp g_22) c_23 | exact absurd (Int32.not_lt.mp g_22) c_23 | exact absurd (Int32.not_le.mp g_22) (Int32.not_lt.mpr c_23) | exact absurd (Int32.not_lt.mp g_22) (Int32.not_le.mpr c_23) | exact absurd (Int32.not_lt.mp c_23) (Int32.not_le.mpr (Int32.not_le.mp g_22))
    · skip
      refine v_ldc2 (n := 15) C dX11_digestOfHull_12 rfl kl_X11_249 ?_
      refine v_lload (n := 17) C dX11_digestOfHull_15 rfl rfl ?_
      refine v_lmul (n := 18) C dX11_digestOfHull_17 rfl ?_
      refine v_aload_n (n := 19) C dX11_digestOfHull_18 rfl rfl rfl ?_
      refine v_iload (n := 21) C dX11_digestOfHull_19 rfl rfl ?_
      refine v_iload (n := 23) C dX11_digestOfHull_21 rfl rfl ?_
      refine v_go (n := 26) C (vRun_V (As := [.int x, .int (nI i_6)]) (rest := [.long (31 * (dhA sc ar hv x 0 h0 i_6))]) C wl_c0 rfl lk_X11_256 im_X11_about se_X11_about dX11_digestOfHull_23 (c_about l D b sc ar hn mh G x (nI i_6) hv hr) wm_X11_about rfl rfl ⟨Nat.le_of_ble_eq_true rfl, Nat.le_of_ble_eq_true rfl⟩ ⟨Nat.le_of_ble_eq_true rfl, Nat.le_of_ble_eq_true rfl⟩ (Nat.le_of_ble_eq_true rfl)) rfl ?_
      rintro _ _ ⟨rfl, rfl⟩ -
      refine v_i2l (n := 27) C dX11_digestOfHull_26 rfl ?_
      refine v_ladd (n := 28) C dX11_digestOfHull_27 rfl ?_
      refine v_lstore (n := 30) (lv' := [(5, .long ((31 * (dhA sc ar hv x 0 h0 i_6)) + (Int32.toInt64 (aboF sc ar hv x (nI i_6))))), (7, .int (nI i_6)), (0, .ref (b + 0)), (3, .ref (b + (u + 40))), (4, .int x)]) C dX11_digestOfHull_28 rfl (Nat.le_of_ble_eq_true rfl) rfl ?_
      refine v_iinc (n := 33) (v := ((nI i_6) + 1)) (lv' := [(7, .int ((nI i_6) + 1)), (5, .long ((31 * (dhA sc ar hv x 0 h0 i_6)) + (Int32.toInt64 (aboF sc ar hv x (nI i_6))))), (0, .ref (b + 0)), (3, .ref (b + (u + 40))), (4, .int x)]) C dX11_digestOfHull_30 rfl rfl rfl (Nat.le_of_ble_eq_true rfl) rfl ?_
      refine v_goto (t := 6) C dX11_digestOfHull_33 (by decide) ?_
      refine v_pick (lv' := [(7, .int ((nI i_6) + 1)), (0, .ref (b + 0)), (3, .ref (b + (u + 40))), (4, .int x), (5, .long ((31 * (dhA sc ar hv x 0 h0 i_6)) + (Int32.toInt64 (aboF sc ar hv x (nI i_6)))))]) [0, 2, 3, 4, 1] rfl ?_
      have e_24 : ((nI i_6) + 1) = (nI (i_6 + 1)) := nI_1 _
      have e_25 : (((31 * (dhA sc ar hv x 0 h0 i_6)) + (Int32.toInt64 (aboF sc ar hv x (nI i_6)))) : Int64) = (dhA sc ar hv x 0 h0 (i_6 + 1)) := rfl
      refine v_cong (es' := (wl D b sc ar hn mh G)) (lv' := [(7, .int (nI (i_6 + 1))), (0, .ref (b + 0)), (3, .ref (b + (u + 40))), (4, .int x), (5, .long (dhA sc ar hv x 0 h0 (i_6 + 1)))]) rfl (cg2 (fun (z0 : Int32) (z1 : Int64) => ([(7, .int z0), (0, .ref (b + 0)), (3, .ref (b + (u + 40))), (4, .int x), (5, .long z1)] : List (Nat × Value))) e_24 e_25) ?_
      exact ih_6
theorem dh_cg {sc sc' : Nat → Int32} {ar ar' : Nat → Nat → Int32} {hv : HV} {hi kk dd FF cc hh : Nat → Nat} {R H W Hn Sn Pn : Nat} (h : zRL sc ar hv hi kk dd FF cc hh R H W Hn Sn Pn) (p : Per sc ar sc' ar') {n k : Nat} {dr ce sa : Int32} (hn : n < 3) (e : hv n = some (k, dr, ce, sa)) {ar1 : Nat → Nat → Int32} {L : Nat} (p1 : Per sc' ar' sc' ar1) (hL : L ≤ 40) (eL : (lkN ar1 (sc' 4) (nI n) (fillN 4095 (ar1 7) 41) 6).1 = nI L) (h0 : Int64) :
    n < Hn ∧ 31 * mhV (fun c => atF (plF (ar' 24) (sc' 16) (sc' 17) k dr (ar' 19, ar' 20) ce (sc' 3)).1 (nI c)) (dhA sc' ar' hv (nI n) 10 (dhA sc' ar' hv (nI n) 0 h0 5) 4) 12 + Int32.toInt64 (csD (ar1 24) (sc' 16) (sc' 17) k dr (lkN ar1 (sc' 4) (nI n) (fillN 4095 (ar1 7) 41) 6).2 L (ar1 8) (L + 1) 0) = mshF sc ar n (fun c => (vyQ hi R W (kk n) (dd n) (FF n) H).1 c) (fun c => stQ hi R W (kk n) (dd n) (ar 35) (nI n) Sn c) h0 := by
  have hnH : n < Hn := by
    apply Classical.byContradiction
    intro q
    obtain ⟨-, -, -, -, -, -, -, -, -, -, hno, -⟩ := h
    rw [hno n (by omega) hn] at e
    cases e
  refine ⟨hnH, ?_⟩
  have h' := rl_per h p
  have h1 := rl_per h' p1
  have ht : ∀ w, aboF sc' ar' hv (nI n) w = mteF sc ar n w := fun w => by
    rw [eq_about h']
    unfold mabF
    rcases rl_hv h' (nI n) with ⟨-, q | ⟨q1, q2⟩⟩ | ⟨n', hn', en, -, q1, q2, q3⟩
    · exact absurd q (nI_pos (by omega))
    · obtain ⟨-, -, -, ⟨-, a25, hH3⟩, -⟩ := h'
      exfalso
      rw [a25, Int32.lt_iff_toInt_lt, nI_toInt (show n < 2 ^ 31 by omega)] at q2
      have hsub : (nI Hn - 1).toInt = (Hn : Int) - 1 := by
        rcases (show Hn = 0 ∨ Hn = 1 ∨ Hn = 2 ∨ Hn = 3 by omega) with q | q | q | q <;> subst q <;> decide
      omega
    · have : n = n' := (nI_eq (by omega) (by have := h'.2.2.2.1.2.2; omega)).mp en
      subst this
      rw [if_neg q1, if_neg q2, q3]
      unfold mteF mstF
      rw [p.1 21 (by decide), p.1 22 (by decide), p.1 23 (by decide), p.2 29 (by decide), p.2 30 (by decide)]
  have hA : ∀ o m h0, dhA sc' ar' hv (nI n) o h0 m = Nat.rec (motive := fun _ => Int64) h0 (fun w r => 31 * r + Int32.toInt64 (mteF sc ar n (nI (w + o)))) m := by
    intro o m h0
    induction m with
    | zero => rfl
    | succ m ih => rw [dhA, ih, ht]
  have hT : dhA sc' ar' hv (nI n) 10 (dhA sc' ar' hv (nI n) 0 h0 5) 4 = mhT sc ar n h0 14 := by
    rw [hA, hA]
    rw [mhT, if_neg (show ¬ nI 13 < 5 by decide), if_neg (show ¬ nI 13 ≤ 9 by decide), mhT, if_neg (show ¬ nI 12 < 5 by decide), if_neg (show ¬ nI 12 ≤ 9 by decide), mhT, if_neg (show ¬ nI 11 < 5 by decide), if_neg (show ¬ nI 11 ≤ 9 by decide), mhT, if_neg (show ¬ nI 10 < 5 by decide), if_neg (show ¬ nI 10 ≤ 9 by decide),
      mhT, if_neg (show ¬ nI 9 < 5 by decide), if_pos (show nI 9 ≤ 9 by decide), mhT, if_neg (show ¬ nI 8 < 5 by decide), if_pos (show nI 8 ≤ 9 by decide), mhT, if_neg (show ¬ nI 7 < 5 by decide), if_pos (show nI 7 ≤ 9 by decide), mhT, if_neg (show ¬ nI 6 < 5 by decide), if_pos (show nI 6 ≤ 9 by decide), mhT, if_neg (show ¬ nI 5 < 5 by decide), if_pos (show nI 5 ≤ 9 by decide),
      mhT, if_pos (show nI 4 < 5 by decide), mhT, if_pos (show nI 3 < 5 by decide), mhT, if_pos (show nI 2 < 5 by decide), mhT, if_pos (show nI 1 < 5 by decide), mhT, if_pos (show nI 0 < 5 by decide), mhT]
    rfl
  obtain ⟨⟨a16, -, hR⟩, ⟨a3, -, hH⟩, ⟨a17, -, hW⟩, ⟨-, -, hH3⟩, ⟨a4, -, hS6⟩, -, -, ⟨hp, -⟩, -, hrow, -, hse⟩ := h1
  obtain ⟨⟨k5, d1, d9, hF⟩, -, -, -, eh⟩ := hrow n hnH
  rw [e] at eh
  have e1 := Option.some.inj eh
  have x1 : k = kk n := congrArg (fun q => q.1) e1
  have x2 : dr = nI (dd n) := congrArg (fun q => q.2.1) e1
  have x3 : ce = nI (FF n) := congrArg (fun q => q.2.2.1) e1
  subst x1 x2 x3
  have hV : ∀ m h0, m ≤ 12 → mhV (fun c => atF (plF (ar' 24) (sc' 16) (sc' 17) (kk n) (nI (dd n)) (ar' 19, ar' 20) (nI (FF n)) (sc' 3)).1 (nI c)) h0 m = mhV (fun c => (vyQ hi R W (kk n) (dd n) (FF n) H).1 c) h0 m := by
    intro m h0
    induction m with
    | zero => intro _; rfl
    | succ m ih =>
      intro hm
      rw [mhV, mhV, ih (by omega)]
      rw [a16, a17, a3, (at_vy h' hnH (show m < 12 by omega) hR hW (show H < 90000 by omega) _).1]
  rw [a4] at eL
  unfold mshF
  rw [hT, hV 12 _ (Nat.le_refl _), a16, a17, a4, st_eq hse hS6 hp hR hW k5 d1 d9 hL eL, p1.2 35 (by decide), p.2 35 (by decide)]
theorem Per_tr {sc sc1 sc2 : Nat → Int32} {ar ar1 ar2 : Nat → Nat → Int32} (a : Per sc ar sc1 ar1) (c : Per sc1 ar1 sc2 ar2) : Per sc ar sc2 ar2 := ⟨fun i hi => (c.1 i hi).trans (a.1 i hi), fun k hk => (c.2 k hk).trans (a.2 k hk)⟩
theorem dg_no {sc : Nat → Int32} {ar : Nat → Nat → Int32} {hv : HV} {hi kk dd FF cc hh : Nat → Nat} {R H W Hn Sn Pn n : Nat} (h : zRL sc ar hv hi kk dd FF cc hh R H W Hn Sn Pn) (q : n < Hn) (e : hv n = none) : False := by
  obtain ⟨-, -, -, -, -, -, -, -, -, hrow, -⟩ := h
  rw [(hrow n q).2.2.2.2] at e
  cases e
set_option maxHeartbeats 4000000 in
set_option maxRecDepth 100000 in
theorem c_digest (l : Launch) (D : va_G) (b : Nat) (sc : Nat → Int32) (ar : Nat → Nat → Int32) (hn : Nat → Option Nat) (mh : Int64) (G : List va_E) (hv : HV) (hr : HVr hn G hv) (hi kk dd FF cc hh : Nat → Nat) (R H W Hn Sn Pn : Nat) (rl : zRL sc ar hv hi kk dd FF cc hh R H W Hn Sn Pn) : Con l yX11_digest cX11_digest 5 (some .long) 6 152 D b 0 0 (wl D b sc ar hn mh G) [.ref (b + 0)] (fun r es' => ∃ sc1 ar1, Per sc ar sc1 ar1 ∧ r = some (.long (dkN sc1 ar1 hv (mdP (ar1 1) (dgH (fun k h => mshF sc ar k (fun c => (vyQ hi R W (kk k) (dd k) (FF k) H).1 c) (fun c => stQ hi R W (kk k) (dd k) (ar 35) (nI k) Sn c) h) Hn (dgC sc ar hv) 3) Pn) 9)) ∧ wl D b sc1 ar1 hn mh G = es') := by
  refine con_of (by decide) (Nat.le_of_ble_eq_true rfl) (fun p e s m args below meth c C hsz => ?_)
  have C : vC p s m args meth c cX11_digest 5 RX11 "digest" (some .long) D b := C
  change V p l e _ s m args below meth c D b 5 _ 0 0 (wl D b sc ar hn mh G) [(0, .ref (b + 0))] [] 0
  refine v_ldc2 (n := 3) C dX11_digest_0 rfl kl_X11_239 ?_
  refine v_lstore_n (n := 4) (lv' := [(1, .long 863), (0, .ref (b + 0))]) C dX11_digest_3 rfl rfl (Nat.le_of_ble_eq_true rfl) rfl ?_
  refine v_aload_n (n := 5) C dX11_digest_4 rfl rfl rfl ?_
  refine v_go (n := 8) C (vRun_V (As := []) (rest := []) C wl_c0 rfl lk_X11_119 im_X11_hasPlain se_X11_hasPlain dX11_digest_5 (c_hasPlain l D b sc ar hn mh G) wm_X11_hasPlain rfl rfl ⟨Nat.le_of_ble_eq_true rfl, Nat.le_of_ble_eq_true rfl⟩ ⟨Nat.le_of_ble_eq_true rfl, Nat.le_of_ble_eq_true rfl⟩ (Nat.le_of_ble_eq_true rfl)) rfl ?_
  rintro _ _ ⟨rfl, rfl⟩ -
  by_cases p_1 : (sc 16) ≤ 0
  · skip
    refine v_stk (st' := .int 0 :: []) (congrArg (fun z : Int32 => Value.int z :: []) (show hpF (sc 16) = 0 by simp only [hpF, if_pos p_1])) ?_
    refine v_if_eq (t := 17) (n := 11) C dX11_digest_8 (by decide) rfl (fun c_2 => ?_) (fun c_2 => ?_)
    · skip
      have e_3 : (863 : Int64) = dgC sc ar hv := by unfold dgC; rw [if_pos p_1]
      refine v_cong (es' := (wl D b sc ar hn mh G)) (lv' := [(1, .long (dgC sc ar hv)), (0, .ref (b + 0))]) rfl (cg1 (fun (z0 : Int64) => ([(1, .long z0), (0, .ref (b + 0))] : List (Nat × Value))) e_3) ?_
      refine v_iconst (n := 18) (v := 0) C dX11_digest_17 rfl (by decide) ?_
      refine v_istore_n (n := 19) (lv' := [(3, .int 0), (1, .long (dgC sc ar hv)), (0, .ref (b + 0))]) C dX11_digest_18 rfl rfl (Nat.le_of_ble_eq_true rfl) rfl ?_
      refine v_pick (lv' := [(3, .int 0), (0, .ref (b + 0)), (1, .long (dgC sc ar hv))]) [0, 2, 1] rfl ?_
      have e_4 : (0 : Int32) = (nI 0) := rfl
      refine v_cong (es' := (wl D b sc ar hn mh G)) (lv' := [(3, .int (nI 0)), (0, .ref (b + 0)), (1, .long (dgC sc ar hv))]) rfl (cg1 (fun (z0 : Int32) => ([(3, .int z0), (0, .ref (b + 0)), (1, .long (dgC sc ar hv))] : List (Nat × Value))) e_4) ?_
      refine loop_dn (P := fun i_19 => ∀ (h1 : Int64) (sc1 : Nat → Int32) (ar1 : Nat → Nat → Int32), (Per sc ar sc1 ar1 ∧ h1 = (dgH (fun k h => mshF sc ar k (fun c => (vyQ hi R W (kk k) (dd k) (FF k) H).1 c) (fun c => stQ hi R W (kk k) (dd k) (ar 35) (nI k) Sn c) h) Hn (dgC sc ar hv) i_19)) → V p l e { frames := 6, cells := 0, slots := 0, locals := 152 } s m args below meth c D b 5 (MQ below (cQ D b 0 (fun r es' => ∃ sc1 ar1, Per sc ar sc1 ar1 ∧ r = some (.long (dkN sc1 ar1 hv (mdP (ar1 1) (dgH (fun k h => mshF sc ar k (fun c => (vyQ hi R W (kk k) (dd k) (FF k) H).1 c) (fun c => stQ hi R W (kk k) (dd k) (ar 35) (nI k) Sn c) h) Hn (dgC sc ar hv) 3) Pn) 9)) ∧ wl D b sc1 ar1 hn mh G = es')) args s 0 0 (fun q => b ≤ q)) 0 0 (wl D b sc1 ar1 hn mh G) [(3, .int (nI i_19)), (0, .ref (b + 0)), (1, .long h1)] [] 19) 3 ?_ (fun i_19 hi_19 ih_19 => ?_) (dgC sc ar hv) sc ar ⟨Per_rf, rfl⟩
      · intro h1 sc1 ar1 hp_19
        have g_5 : (3 : Int32) ≤ (nI 3) := by decide
        refine v_iload_n (n := 20) C dX11_digest_19 rfl rfl rfl ?_
        refine v_aload_n (n := 21) C dX11_digest_20 rfl rfl rfl ?_
        refine v_get (n := 24) C dX11_digest_21 rfl fl_X11_15_X11 wl_c0 rfl ?_
        refine v_alenQ (n := 25) (v := 3) C dX11_digest_24 rfl wl_c2 rfl ?_
        refine v_icmp_ge (t := 56) (n := 28) C dX11_digest_25 (by decide) rfl (fun c_6 => ?_) (fun c_6 => ?_)
        · skip
          have hP1 : sc1 0 = nI Pn := (hp_19.1.1 0 (by decide)).trans rl.2.2.2.2.2.1.1
          have hP18 : Pn ≤ 18 := rl.2.2.2.2.2.1.2.2
          refine v_cong (es' := (wl D b sc1 ar1 hn mh G)) (lv' := [(3, .int (nI 3)), (0, .ref (b + 0)), (1, .long (dgH (fun k h => mshF sc ar k (fun c => (vyQ hi R W (kk k) (dd k) (FF k) H).1 c) (fun c => stQ hi R W (kk k) (dd k) (ar 35) (nI k) Sn c) h) Hn (dgC sc ar hv) 3))]) rfl (cg1 (fun (z0 : Int64) => ([(3, .int (nI 3)), (0, .ref (b + 0)), (1, .long z0)] : List (Nat × Value))) hp_19.2) ?_
          refine v_iconst (n := 57) (v := 0) C dX11_digest_56 rfl (by decide) ?_
          refine v_istore_n (n := 58) (lv' := [(3, .int 0), (0, .ref (b + 0)), (1, .long (dgH (fun k h => mshF sc ar k (fun c => (vyQ hi R W (kk k) (dd k) (FF k) H).1 c) (fun c => stQ hi R W (kk k) (dd k) (ar 35) (nI k) Sn c) h) Hn (dgC sc ar hv) 3))]) C dX11_digest_57 rfl rfl (Nat.le_of_ble_eq_true rfl) rfl ?_
          refine v_pick (lv' := [(3, .int 0), (0, .ref (b + 0)), (1, .long (dgH (fun k h => mshF sc ar k (fun c => (vyQ hi R W (kk k) (dd k) (FF k) H).1 c) (fun c => stQ hi R W (kk k) (dd k) (ar 35) (nI k) Sn c) h) Hn (dgC sc ar hv) 3))]) [0, 1, 2] rfl ?_
          have e_7 : (0 : Int32) = (nI 0) := rfl
          have e_8 : ((dgH (fun k h => mshF sc ar k (fun c => (vyQ hi R W (kk k) (dd k) (FF k) H).1 c) (fun c => stQ hi R W (kk k) (dd k) (ar 35) (nI k) Sn c) h) Hn (dgC sc ar hv) 3) : Int64) = (mdP (ar1 1) (dgH (fun k h => mshF sc ar k (fun c => (vyQ hi R W (kk k) (dd k) (FF k) H).1 c) (fun c => stQ hi R W (kk k) (dd k) (ar 35) (nI k) Sn c) h) Hn (dgC sc ar hv) 3) 0) := rfl
          refine v_cong (es' := (wl D b sc1 ar1 hn mh G)) (lv' := [(3, .int (nI 0)), (0, .ref (b + 0)), (1, .long (mdP (ar1 1) (dgH (fun k h => mshF sc ar k (fun c => (vyQ hi R W (kk k) (dd k) (FF k) H).1 c) (fun c => stQ hi R W (kk k) (dd k) (ar 35) (nI k) Sn c) h) Hn (dgC sc ar hv) 3) 0))]) rfl (cg2 (fun (z0 : Int32) (z1 : Int64) => ([(3, .int z0), (0, .ref (b + 0)), (1, .long z1)] : List (Nat × Value))) e_7 e_8) ?_
          refine loop_dn (P := fun i_58 => V p l e { frames := 6, cells := 0, slots := 0, locals := 152 } s m args below meth c D b 5 (MQ below (cQ D b 0 (fun r es' => ∃ sc1 ar1, Per sc ar sc1 ar1 ∧ r = some (.long (dkN sc1 ar1 hv (mdP (ar1 1) (dgH (fun k h => mshF sc ar k (fun c => (vyQ hi R W (kk k) (dd k) (FF k) H).1 c) (fun c => stQ hi R W (kk k) (dd k) (ar 35) (nI k) Sn c) h) Hn (dgC sc ar hv) 3) Pn) 9)) ∧ wl D b sc1 ar1 hn mh G = es')) args s 0 0 (fun q => b ≤ q)) 0 0 (wl D b sc1 ar1 hn mh G) [(3, .int (nI i_58)), (0, .ref (b + 0)), (1, .long (mdP (ar1 1) (dgH (fun k h => mshF sc ar k (fun c => (vyQ hi R W (kk k) (dd k) (FF k) H).1 c) (fun c => stQ hi R W (kk k) (dd k) (ar 35) (nI k) Sn c) h) Hn (dgC sc ar hv) 3) i_58))] [] 58) Pn ?_ (fun i_58 hi_58 ih_58 => ?_)
          · skip
            have g_9 : ((sc1 0) : Int32) ≤ (nI Pn) := by rw [hP1]; exact Int32.le_refl _
            refine v_iload_n (n := 59) C dX11_digest_58 rfl rfl rfl ?_
            refine v_aload_n (n := 60) C dX11_digest_59 rfl rfl rfl ?_
            refine v_get (n := 63) C dX11_digest_60 rfl fl_X11_66_X11 wl_c0 rfl ?_
            refine v_icmp_ge (t := 95) (n := 66) C dX11_digest_63 (by decide) rfl (fun c_10 => ?_) (fun c_10 => ?_)
            · skip
              refine v_iconst (n := 96) (v := 0) C dX11_digest_95 rfl (by decide) ?_
              refine v_istore_n (n := 97) (lv' := [(3, .int 0), (0, .ref (b + 0)), (1, .long (mdP (ar1 1) (dgH (fun k h => mshF sc ar k (fun c => (vyQ hi R W (kk k) (dd k) (FF k) H).1 c) (fun c => stQ hi R W (kk k) (dd k) (ar 35) (nI k) Sn c) h) Hn (dgC sc ar hv) 3) Pn))]) C dX11_digest_96 rfl rfl (Nat.le_of_ble_eq_true rfl) rfl ?_
              refine v_pick (lv' := [(3, .int 0), (0, .ref (b + 0)), (1, .long (mdP (ar1 1) (dgH (fun k h => mshF sc ar k (fun c => (vyQ hi R W (kk k) (dd k) (FF k) H).1 c) (fun c => stQ hi R W (kk k) (dd k) (ar 35) (nI k) Sn c) h) Hn (dgC sc ar hv) 3) Pn))]) [0, 1, 2] rfl ?_
              have e_11 : (0 : Int32) = (nI 0) := rfl
              have e_12 : ((mdP (ar1 1) (dgH (fun k h => mshF sc ar k (fun c => (vyQ hi R W (kk k) (dd k) (FF k) H).1 c) (fun c => stQ hi R W (kk k) (dd k) (ar 35) (nI k) Sn c) h) Hn (dgC sc ar hv) 3) Pn) : Int64) = (dkN sc1 ar1 hv (mdP (ar1 1) (dgH (fun k h => mshF sc ar k (fun c => (vyQ hi R W (kk k) (dd k) (FF k) H).1 c) (fun c => stQ hi R W (kk k) (dd k) (ar 35) (nI k) Sn c) h) Hn (dgC sc ar hv) 3) Pn) 0) := rfl
              refine v_cong (es' := (wl D b sc1 ar1 hn mh G)) (lv' := [(3, .int (nI 0)), (0, .ref (b + 0)), (1, .long (dkN sc1 ar1 hv (mdP (ar1 1) (dgH (fun k h => mshF sc ar k (fun c => (vyQ hi R W (kk k) (dd k) (FF k) H).1 c) (fun c => stQ hi R W (kk k) (dd k) (ar 35) (nI k) Sn c) h) Hn (dgC sc ar hv) 3) Pn) 0))]) rfl (cg2 (fun (z0 : Int32) (z1 : Int64) => ([(3, .int z0), (0, .ref (b + 0)), (1, .long z1)] : List (Nat × Value))) e_11 e_12) ?_
              refine loop_dn (P := fun i_97 => V p l e { frames := 6, cells := 0, slots := 0, locals := 152 } s m args below meth c D b 5 (MQ below (cQ D b 0 (fun r es' => ∃ sc1 ar1, Per sc ar sc1 ar1 ∧ r = some (.long (dkN sc1 ar1 hv (mdP (ar1 1) (dgH (fun k h => mshF sc ar k (fun c => (vyQ hi R W (kk k) (dd k) (FF k) H).1 c) (fun c => stQ hi R W (kk k) (dd k) (ar 35) (nI k) Sn c) h) Hn (dgC sc ar hv) 3) Pn) 9)) ∧ wl D b sc1 ar1 hn mh G = es')) args s 0 0 (fun q => b ≤ q)) 0 0 (wl D b sc1 ar1 hn mh G) [(3, .int (nI i_97)), (0, .ref (b + 0)), (1, .long (dkN sc1 ar1 hv (mdP (ar1 1) (dgH (fun k h => mshF sc ar k (fun c => (vyQ hi R W (kk k) (dd k) (FF k) H).1 c) (fun c => stQ hi R W (kk k) (dd k) (ar 35) (nI k) Sn c) h) Hn (dgC sc ar hv) 3) Pn) i_97))] [] 97) 9 ?_ (fun i_97 hi_97 ih_97 => ?_)
              · skip
                have g_13 : (9 : Int32) ≤ (nI 9) := by decide
                refine v_iload_n (n := 98) C dX11_digest_97 rfl rfl rfl ?_
                refine v_bipush (n := 100) (v := 9) C dX11_digest_98 rfl (by decide) ?_
                refine v_icmp_ge (t := 122) (n := 103) C dX11_digest_100 (by decide) rfl (fun c_14 => ?_) (fun c_14 => ?_)
                · skip
                  refine v_lload_n (n := 123) C dX11_digest_122 rfl rfl rfl ?_
                  exact v_lret C dX11_digest_123 rfl ⟨sc1, ar1, hp_19.1, rfl, rfl⟩
                · first | exact absurd c_14 g_13 | exact absurd g_13 c_14 | exact absurd c_14 (Int32.not_le.mpr g_13) | exact absurd c_14 (Int32.not_lt.mpr g_13) | exact absurd (Int32.not_le.mp g_13) c_14 | exact absurd (Int32.not_lt.mp g_13) c_14 | exact absurd (Int32.not_le.mp g_13) (Int32.not_lt.mpr c_14) | exact absurd (Int32.not_lt.mp g_13) (Int32.not_le.mpr c_14) | exact absurd (Int32.not_lt.mp c_14) (Int32.not_le.mpr (Int32.not_le.mp g_13))
              · skip
                have g_15 : ¬ (9 : Int32) ≤ (nI i_97) := nI_ge (a := i_97 + 0) (b := 9) (by omega) (by decide)
                refine v_iload_n (n := 98) C dX11_digest_97 rfl rfl rfl ?_
                refine v_bipush (n := 100) (v := 9) C dX11_digest_98 rfl (by decide) ?_
                refine v_icmp_ge (t := 122) (n := 103) C dX11_digest_100 (by decide) rfl (fun c_16 => ?_) (fun c_16 => ?_)
                · first | exact absurd c_16 g_15 | exact absurd g_15 c_16 | exact absurd c_16 (Int32.not_le.mpr g_15) | exact absurd c_16 (Int32.not_lt.mpr g_15) | exact absurd (Int32.not_le.mp g_15) c_16 | exact absurd (Int32.not_lt.mp g_15) c_16 | exact absurd (Int32.not_le.mp g_15) (Int32.not_lt.mpr c_16) | exact absurd (Int32.not_lt.mp g_15) (Int32.not_le.mpr c_16) | exact absurd (Int32.not_lt.mp c_16) (Int32.not_le.mpr (Int32.not_le.mp g_15))
                · skip
                  refine v_ldc2 (n := 106) C dX11_digest_103 rfl kl_X11_249 ?_
                  refine v_lload_n (n := 107) C dX11_digest_106 rfl rfl rfl ?_
                  refine v_lmul (n := 108) C dX11_digest_107 rfl ?_
                  refine v_aload_n (n := 109) C dX11_digest_108 rfl rfl rfl ?_
                  refine v_iload_n (n := 110) C dX11_digest_109 rfl rfl rfl ?_
                  refine v_go (n := 113) C (vRun_V (As := [.int (nI i_97)]) (rest := [.long (31 * (dkN sc1 ar1 hv (mdP (ar1 1) (dgH (fun k h => mshF sc ar k (fun c => (vyQ hi R W (kk k) (dd k) (FF k) H).1 c) (fun c => stQ hi R W (kk k) (dd k) (ar 35) (nI k) Sn c) h) Hn (dgC sc ar hv) 3) Pn) i_97))]) C wl_c0 rfl lk_X11_251 im_X11_count se_X11_count dX11_digest_110 (c_count l D b sc1 ar1 hn mh G (nI i_97) hv hr) wm_X11_count rfl rfl ⟨Nat.le_of_ble_eq_true rfl, Nat.le_of_ble_eq_true rfl⟩ ⟨Nat.le_of_ble_eq_true rfl, Nat.le_of_ble_eq_true rfl⟩ (Nat.le_of_ble_eq_true rfl)) rfl ?_
                  rintro _ _ ⟨rfl, rfl⟩ -
                  refine v_i2l (n := 114) C dX11_digest_113 rfl ?_
                  refine v_ladd (n := 115) C dX11_digest_114 rfl ?_
                  refine v_lstore_n (n := 116) (lv' := [(1, .long ((31 * (dkN sc1 ar1 hv (mdP (ar1 1) (dgH (fun k h => mshF sc ar k (fun c => (vyQ hi R W (kk k) (dd k) (FF k) H).1 c) (fun c => stQ hi R W (kk k) (dd k) (ar 35) (nI k) Sn c) h) Hn (dgC sc ar hv) 3) Pn) i_97)) + (Int32.toInt64 (coF sc1 ar1 hv (nI i_97))))), (3, .int (nI i_97)), (0, .ref (b + 0))]) C dX11_digest_115 rfl rfl (Nat.le_of_ble_eq_true rfl) rfl ?_
                  refine v_iinc (n := 119) (v := ((nI i_97) + 1)) (lv' := [(3, .int ((nI i_97) + 1)), (1, .long ((31 * (dkN sc1 ar1 hv (mdP (ar1 1) (dgH (fun k h => mshF sc ar k (fun c => (vyQ hi R W (kk k) (dd k) (FF k) H).1 c) (fun c => stQ hi R W (kk k) (dd k) (ar 35) (nI k) Sn c) h) Hn (dgC sc ar hv) 3) Pn) i_97)) + (Int32.toInt64 (coF sc1 ar1 hv (nI i_97))))), (0, .ref (b + 0))]) C dX11_digest_116 rfl rfl rfl (Nat.le_of_ble_eq_true rfl) rfl ?_
                  refine v_goto (t := 97) C dX11_digest_119 (by decide) ?_
                  refine v_pick (lv' := [(3, .int ((nI i_97) + 1)), (0, .ref (b + 0)), (1, .long ((31 * (dkN sc1 ar1 hv (mdP (ar1 1) (dgH (fun k h => mshF sc ar k (fun c => (vyQ hi R W (kk k) (dd k) (FF k) H).1 c) (fun c => stQ hi R W (kk k) (dd k) (ar 35) (nI k) Sn c) h) Hn (dgC sc ar hv) 3) Pn) i_97)) + (Int32.toInt64 (coF sc1 ar1 hv (nI i_97)))))]) [0, 2, 1] rfl ?_
                  have e_17 : ((nI i_97) + 1) = (nI (i_97 + 1)) := nI_1 _
                  have e_18 : (((31 * (dkN sc1 ar1 hv (mdP (ar1 1) (dgH (fun k h => mshF sc ar k (fun c => (vyQ hi R W (kk k) (dd k) (FF k) H).1 c) (fun c => stQ hi R W (kk k) (dd k) (ar 35) (nI k) Sn c) h) Hn (dgC sc ar hv) 3) Pn) i_97)) + (Int32.toInt64 (coF sc1 ar1 hv (nI i_97)))) : Int64) = (dkN sc1 ar1 hv (mdP (ar1 1) (dgH (fun k h => mshF sc ar k (fun c => (vyQ hi R W (kk k) (dd k) (FF k) H).1 c) (fun c => stQ hi R W (kk k) (dd k) (ar 35) (nI k) Sn c) h) Hn (dgC sc ar hv) 3) Pn) (i_97 + 1)) := rfl
                  refine v_cong (es' := (wl D b sc1 ar1 hn mh G)) (lv' := [(3, .int (nI (i_97 + 1))), (0, .ref (b + 0)), (1, .long (dkN sc1 ar1 hv (mdP (ar1 1) (dgH (fun k h => mshF sc ar k (fun c => (vyQ hi R W (kk k) (dd k) (FF k) H).1 c) (fun c => stQ hi R W (kk k) (dd k) (ar 35) (nI k) Sn c) h) Hn (dgC sc ar hv) 3) Pn) (i_97 + 1)))]) rfl (cg2 (fun (z0 : Int32) (z1 : Int64) => ([(3, .int z0), (0, .ref (b + 0)), (1, .long z1)] : List (Nat × Value))) e_17 e_18) ?_
                  exact ih_97
            · first | exact absurd c_10 g_9 | exact absurd g_9 c_10 | exact absurd c_10 (Int32.not_le.mpr g_9) | exact absurd c_10 (Int32.not_lt.mpr g_9) | exact absurd (Int32.not_le.mp g_9) c_10 | exact absurd (Int32.not_lt.mp g_9) c_10 | exact absurd (Int32.not_le.mp g_9) (Int32.not_lt.mpr c_10) | exact absurd (Int32.not_lt.mp g_9) (Int32.not_le.mpr c_10) | exact absurd (Int32.not_lt.mp c_10) (Int32.not_le.mpr (Int32.not_le.mp g_9))
          · skip
            have g_19 : ¬ ((sc1 0) : Int32) ≤ (nI i_58) := by rw [hP1]; exact nI_ge hi_58 (by omega)
            have x_20 : ¬ (18 : Int32) ≤ nI i_58 := nI_ge (b := 18) (by omega) (by decide)
            refine v_iload_n (n := 59) C dX11_digest_58 rfl rfl rfl ?_
            refine v_aload_n (n := 60) C dX11_digest_59 rfl rfl rfl ?_
            refine v_get (n := 63) C dX11_digest_60 rfl fl_X11_66_X11 wl_c0 rfl ?_
            refine v_icmp_ge (t := 95) (n := 66) C dX11_digest_63 (by decide) rfl (fun c_21 => ?_) (fun c_21 => ?_)
            · first | exact absurd c_21 g_19 | exact absurd g_19 c_21 | exact absurd c_21 (Int32.not_le.mpr g_19) | exact absurd c_21 (Int32.not_lt.mpr g_19) | exact absurd (Int32.not_le.mp g_19) c_21 | exact absurd (Int32.not_lt.mp g_19) c_21 | exact absurd (Int32.not_le.mp g_19) (Int32.not_lt.mpr c_21) | exact absurd (Int32.not_lt.mp g_19) (Int32.not_le.mpr c_21) | exact absurd (Int32.not_lt.mp c_21) (Int32.not_le.mpr (Int32.not_le.mp g_19))
            · skip
              refine v_iload_n (n := 67) C dX11_digest_66 rfl rfl rfl ?_
              refine v_aload_n (n := 68) C dX11_digest_67 rfl rfl rfl ?_
              refine v_get (n := 71) C dX11_digest_68 rfl fl_X11_9_X11 wl_c0 rfl ?_
              refine v_alen (n := 72) (v := 18) C dX11_digest_71 rfl wl_c1 rfl ?_
              refine v_icmp_ge (t := 95) (n := 75) C dX11_digest_72 (by decide) rfl (fun c_22 => ?_) (fun c_22 => ?_)
              · first | exact absurd c_22 x_20 | exact absurd x_20 c_22 | exact absurd c_22 (Int32.not_le.mpr x_20) | exact absurd c_22 (Int32.not_lt.mpr x_20) | exact absurd (Int32.not_le.mp x_20) c_22 | exact absurd (Int32.not_lt.mp x_20) c_22 | exact absurd (Int32.not_le.mp x_20) (Int32.not_lt.mpr c_22) | exact absurd (Int32.not_lt.mp x_20) (Int32.not_le.mpr c_22) | exact absurd (Int32.not_lt.mp c_22) (Int32.not_le.mpr (Int32.not_le.mp x_20))
              · skip
                refine v_ldc2 (n := 78) C dX11_digest_75 rfl kl_X11_249 ?_
                refine v_lload_n (n := 79) C dX11_digest_78 rfl rfl rfl ?_
                refine v_lmul (n := 80) C dX11_digest_79 rfl ?_
                refine v_aload_n (n := 81) C dX11_digest_80 rfl rfl rfl ?_
                refine v_get (n := 84) C dX11_digest_81 rfl fl_X11_9_X11 wl_c0 rfl ?_
                refine v_iload_n (n := 85) C dX11_digest_84 rfl rfl rfl ?_
                refine v_iald (n := 86) C dX11_digest_85 rfl wl_c1 (vp_in_nI (show i_58 < 18 by omega) (by decide)) ?_
                refine v_stk (st' := .int ((ar1 1) i_58) :: [.long (31 * (mdP (ar1 1) (dgH (fun k h => mshF sc ar k (fun c => (vyQ hi R W (kk k) (dd k) (FF k) H).1 c) (fun c => stQ hi R W (kk k) (dd k) (ar 35) (nI k) Sn c) h) Hn (dgC sc ar hv) 3) i_58))]) (congrArg (fun z : Nat => Value.int ((ar1 1) z) :: [.long (31 * (mdP (ar1 1) (dgH (fun k h => mshF sc ar k (fun c => (vyQ hi R W (kk k) (dd k) (FF k) H).1 c) (fun c => stQ hi R W (kk k) (dd k) (ar 35) (nI k) Sn c) h) Hn (dgC sc ar hv) 3) i_58))]) (nI_clamp (show i_58 < 2 ^ 31 by omega))) ?_
                refine v_i2l (n := 87) C dX11_digest_86 rfl ?_
                refine v_ladd (n := 88) C dX11_digest_87 rfl ?_
                refine v_lstore_n (n := 89) (lv' := [(1, .long ((31 * (mdP (ar1 1) (dgH (fun k h => mshF sc ar k (fun c => (vyQ hi R W (kk k) (dd k) (FF k) H).1 c) (fun c => stQ hi R W (kk k) (dd k) (ar 35) (nI k) Sn c) h) Hn (dgC sc ar hv) 3) i_58)) + (Int32.toInt64 ((ar1 1) i_58)))), (3, .int (nI i_58)), (0, .ref (b + 0))]) C dX11_digest_88 rfl rfl (Nat.le_of_ble_eq_true rfl) rfl ?_
                refine v_iinc (n := 92) (v := ((nI i_58) + 1)) (lv' := [(3, .int ((nI i_58) + 1)), (1, .long ((31 * (mdP (ar1 1) (dgH (fun k h => mshF sc ar k (fun c => (vyQ hi R W (kk k) (dd k) (FF k) H).1 c) (fun c => stQ hi R W (kk k) (dd k) (ar 35) (nI k) Sn c) h) Hn (dgC sc ar hv) 3) i_58)) + (Int32.toInt64 ((ar1 1) i_58)))), (0, .ref (b + 0))]) C dX11_digest_89 rfl rfl rfl (Nat.le_of_ble_eq_true rfl) rfl ?_
                refine v_goto (t := 58) C dX11_digest_92 (by decide) ?_
                refine v_pick (lv' := [(3, .int ((nI i_58) + 1)), (0, .ref (b + 0)), (1, .long ((31 * (mdP (ar1 1) (dgH (fun k h => mshF sc ar k (fun c => (vyQ hi R W (kk k) (dd k) (FF k) H).1 c) (fun c => stQ hi R W (kk k) (dd k) (ar 35) (nI k) Sn c) h) Hn (dgC sc ar hv) 3) i_58)) + (Int32.toInt64 ((ar1 1) i_58))))]) [0, 2, 1] rfl ?_
                have e_23 : ((nI i_58) + 1) = (nI (i_58 + 1)) := nI_1 _
                have e_24 : (((31 * (mdP (ar1 1) (dgH (fun k h => mshF sc ar k (fun c => (vyQ hi R W (kk k) (dd k) (FF k) H).1 c) (fun c => stQ hi R W (kk k) (dd k) (ar 35) (nI k) Sn c) h) Hn (dgC sc ar hv) 3) i_58)) + (Int32.toInt64 ((ar1 1) i_58))) : Int64) = (mdP (ar1 1) (dgH (fun k h => mshF sc ar k (fun c => (vyQ hi R W (kk k) (dd k) (FF k) H).1 c) (fun c => stQ hi R W (kk k) (dd k) (ar 35) (nI k) Sn c) h) Hn (dgC sc ar hv) 3) (i_58 + 1)) := rfl
                refine v_cong (es' := (wl D b sc1 ar1 hn mh G)) (lv' := [(3, .int (nI (i_58 + 1))), (0, .ref (b + 0)), (1, .long (mdP (ar1 1) (dgH (fun k h => mshF sc ar k (fun c => (vyQ hi R W (kk k) (dd k) (FF k) H).1 c) (fun c => stQ hi R W (kk k) (dd k) (ar 35) (nI k) Sn c) h) Hn (dgC sc ar hv) 3) (i_58 + 1)))]) rfl (cg2 (fun (z0 : Int32) (z1 : Int64) => ([(3, .int z0), (0, .ref (b + 0)), (1, .long z1)] : List (Nat × Value))) e_23 e_24) ?_
                exact ih_58
        · first | exact absurd c_6 g_5 | exact absurd g_5 c_6 | exact absurd c_6 (Int32.not_le.mpr g_5) | exact absurd c_6 (Int32.not_lt.mpr g_5) | exact absurd (Int32.not_le.mp g_5) c_6 | exact absurd (Int32.not_lt.mp g_5) c_6 | exact absurd (Int32.not_le.mp g_5) (Int32.not_lt.mpr c_6) | exact absurd (Int32.not_lt.mp g_5) (Int32.not_le.mpr c_6) | exact absurd (Int32.not_lt.mp c_6) (Int32.not_le.mpr (Int32.not_le.mp g_5))
      · intro h1 sc1 ar1 hp_19
        have g_25 : ¬ (3 : Int32) ≤ (nI i_19) := nI_ge (a := i_19 + 0) (b := 3) (by omega) (by decide)
        refine v_iload_n (n := 20) C dX11_digest_19 rfl rfl rfl ?_
        refine v_aload_n (n := 21) C dX11_digest_20 rfl rfl rfl ?_
        refine v_get (n := 24) C dX11_digest_21 rfl fl_X11_15_X11 wl_c0 rfl ?_
        refine v_alenQ (n := 25) (v := 3) C dX11_digest_24 rfl wl_c2 rfl ?_
        refine v_icmp_ge (t := 56) (n := 28) C dX11_digest_25 (by decide) rfl (fun c_26 => ?_) (fun c_26 => ?_)
        · first | exact absurd c_26 g_25 | exact absurd g_25 c_26 | exact absurd c_26 (Int32.not_le.mpr g_25) | exact absurd c_26 (Int32.not_lt.mpr g_25) | exact absurd (Int32.not_le.mp g_25) c_26 | exact absurd (Int32.not_lt.mp g_25) c_26 | exact absurd (Int32.not_le.mp g_25) (Int32.not_lt.mpr c_26) | exact absurd (Int32.not_lt.mp g_25) (Int32.not_le.mpr c_26) | exact absurd (Int32.not_lt.mp c_26) (Int32.not_le.mpr (Int32.not_le.mp g_25))
        · skip
          refine v_aload_n (n := 29) C dX11_digest_28 rfl rfl rfl ?_
          refine v_get (n := 32) C dX11_digest_29 rfl fl_X11_15_X11 wl_c0 rfl ?_
          refine v_iload_n (n := 33) C dX11_digest_32 rfl rfl rfl ?_
          refine v_aald (n := 34) C dX11_digest_33 rfl wl_c2 (nI_vp hi_19 (by decide) (by decide)) ?_
          refine v_stk (st' := va_rf ((hn i_19).map (fun t => b + t)) :: []) (congrArg (fun z : Nat => va_rf ((hn z).map (fun t => b + t)) :: []) (nI_clamp (show i_19 < 2 ^ 31 by omega))) ?_
          rcases q_27 : hv i_19 with _ | ⟨k27, dr27, ce27, sa27⟩
          · skip
            refine v_stk (st' := .null :: []) (congrArg (fun z : Option Nat => va_rf (z.map (fun t => b + t)) :: []) (hr.1 i_19 q_27)) ?_
            refine v_astoreN (n := 36) (lv' := [(4, .null), (3, .int (nI i_19)), (0, .ref (b + 0)), (1, .long h1)]) C dX11_digest_34 rfl (Nat.le_of_ble_eq_true rfl) rfl ?_
            refine v_aloadN (n := 38) C dX11_digest_36 rfl rfl ?_
            refine v_ifnullN (t := 50) C dX11_digest_38 (by decide) ?_
            refine v_iinc (n := 53) (v := ((nI i_19) + 1)) (lv' := [(3, .int ((nI i_19) + 1)), (4, .null), (0, .ref (b + 0)), (1, .long h1)]) C dX11_digest_50 rfl rfl rfl (Nat.le_of_ble_eq_true rfl) rfl ?_
            refine v_goto (t := 19) C dX11_digest_53 (by decide) ?_
            refine v_pick (lv' := [(3, .int ((nI i_19) + 1)), (0, .ref (b + 0)), (1, .long h1)]) [0, 2, 3] rfl ?_
            have e_28 : (((nI i_19) + 1) : Int32) = (nI (i_19 + 1)) := nI_1 _
            refine v_cong (es' := (wl D b sc1 ar1 hn mh G)) (lv' := [(3, .int (nI (i_19 + 1))), (0, .ref (b + 0)), (1, .long h1)]) rfl (cg1 (fun (z0 : Int32) => ([(3, .int z0), (0, .ref (b + 0)), (1, .long h1)] : List (Nat × Value))) e_28) ?_
            exact ih_19 h1 sc1 ar1 (⟨hp_19.1, by rw [dgH, if_neg (fun q => dg_no rl q q_27)]; exact hp_19.2⟩)
          · obtain ⟨u27, hu27, hk27, hg27⟩ := hr.2.1 i_19 k27 dr27 ce27 sa27 q_27
            refine v_stk (st' := .ref (b + (u27 + 40)) :: []) (congrArg (fun z : Option Nat => va_rf (z.map (fun t => b + t)) :: []) hu27) ?_
            refine v_astore (n := 36) (lv' := [(4, .ref (b + (u27 + 40))), (3, .int (nI i_19)), (0, .ref (b + 0)), (1, .long h1)]) C dX11_digest_34 rfl (Nat.le_of_ble_eq_true rfl) rfl ?_
            refine v_aload (n := 38) C dX11_digest_36 rfl rfl ?_
            refine v_ifnull (n := 41) C dX11_digest_38 rfl ?_
            refine v_aload_n (n := 42) C dX11_digest_41 rfl rfl rfl ?_
            refine v_lload_n (n := 43) C dX11_digest_42 rfl rfl rfl ?_
            refine v_aload (n := 45) C dX11_digest_43 rfl rfl ?_
            refine v_iload_n (n := 46) C dX11_digest_45 rfl rfl rfl ?_
            refine v_go (n := 49) C (vRun_V (As := [.long h1, .ref (b + (u27 + 40)), .int (nI i_19)]) (rest := []) C wl_c0 rfl lk_X11_245 im_X11_digestOfHull se_X11_digestOfHull dX11_digest_46 (c_digestOfHull l D b sc1 ar1 hn mh G h1 u27 k27 dr27 ce27 sa27 hk27 hg27 (nI i_19) hv hr) wm_X11_digestOfHull rfl rfl ⟨Nat.le_of_ble_eq_true rfl, Nat.le_of_ble_eq_true rfl⟩ ⟨Nat.le_of_ble_eq_true rfl, Nat.le_of_ble_eq_true rfl⟩ (Nat.le_of_ble_eq_true rfl)) rfl ?_
            rintro _ _ ⟨arx29, Lx29, px29, hx29, ex29, rfl, sc29, ar29, hp29, rfl⟩ -
            have dq29 := dh_cg rl hp_19.1 (show i_19 < 3 by omega) q_27 px29 hx29 ex29 h1
            generalize hgv29 : 31 * mhV _ _ 12 + Int32.toInt64 _ = v29 at dq29 ⊢
            refine v_lstore_n (n := 50) (lv' := [(1, .long v29), (4, .ref (b + (u27 + 40))), (3, .int (nI i_19)), (0, .ref (b + 0))]) C dX11_digest_49 rfl rfl (Nat.le_of_ble_eq_true rfl) rfl ?_
            refine v_iinc (n := 53) (v := ((nI i_19) + 1)) (lv' := [(3, .int ((nI i_19) + 1)), (1, .long v29), (4, .ref (b + (u27 + 40))), (0, .ref (b + 0))]) C dX11_digest_50 rfl rfl rfl (Nat.le_of_ble_eq_true rfl) rfl ?_
            refine v_goto (t := 19) C dX11_digest_53 (by decide) ?_
            refine v_pick (lv' := [(3, .int ((nI i_19) + 1)), (0, .ref (b + 0)), (1, .long v29)]) [0, 3, 1] rfl ?_
            have e_30 : (((nI i_19) + 1) : Int32) = (nI (i_19 + 1)) := nI_1 _
            refine v_cong (es' := (wl D b sc29 ar29 hn mh G)) (lv' := [(3, .int (nI (i_19 + 1))), (0, .ref (b + 0)), (1, .long v29)]) rfl (cg1 (fun (z0 : Int32) => ([(3, .int z0), (0, .ref (b + 0)), (1, .long v29)] : List (Nat × Value))) e_30) ?_
            exact ih_19 v29 sc29 ar29 (⟨Per_tr hp_19.1 hp29, by rw [dgH, if_pos dq29.1, ← hp_19.2]; exact dq29.2⟩)
    · exact absurd c_2 (by decide)
  refine v_stk (st' := .int 1 :: []) (congrArg (fun z : Int32 => Value.int z :: []) (show hpF (sc 16) = 1 by simp only [hpF, if_neg p_1])) ?_
  refine v_if_eq (t := 17) (n := 11) C dX11_digest_8 (by decide) rfl (fun c_31 => ?_) (fun c_31 => ?_)
  · exact absurd c_31 (by decide)
  · skip
    refine v_aload_n (n := 12) C dX11_digest_11 rfl rfl rfl ?_
    refine v_lload_n (n := 13) C dX11_digest_12 rfl rfl rfl ?_
    refine v_go (n := 16) C (vRun_V (As := [.long 863]) (rest := []) C wl_c0 rfl lk_X11_241 im_X11_digestOfCells se_X11_digestOfCells dX11_digest_13 (c_digestOfCells l D b sc ar hn mh G 863 hv hr) wm_X11_digestOfCells rfl rfl ⟨Nat.le_of_ble_eq_true rfl, Nat.le_of_ble_eq_true rfl⟩ ⟨Nat.le_of_ble_eq_true rfl, Nat.le_of_ble_eq_true rfl⟩ (Nat.le_of_ble_eq_true rfl)) rfl ?_
    rintro _ _ ⟨rfl, rfl⟩ -
    refine v_lstore_n (n := 17) (lv' := [(1, .long (dcC sc ar hv 863 12)), (0, .ref (b + 0))]) C dX11_digest_16 rfl rfl (Nat.le_of_ble_eq_true rfl) rfl ?_
    have e_32 : ((dcC sc ar hv 863 12) : Int64) = dgC sc ar hv := by unfold dgC; rw [if_neg p_1]
    refine v_cong (es' := (wl D b sc ar hn mh G)) (lv' := [(1, .long (dgC sc ar hv)), (0, .ref (b + 0))]) rfl (cg1 (fun (z0 : Int64) => ([(1, .long z0), (0, .ref (b + 0))] : List (Nat × Value))) e_32) ?_
    refine v_iconst (n := 18) (v := 0) C dX11_digest_17 rfl (by decide) ?_
    refine v_istore_n (n := 19) (lv' := [(3, .int 0), (1, .long (dgC sc ar hv)), (0, .ref (b + 0))]) C dX11_digest_18 rfl rfl (Nat.le_of_ble_eq_true rfl) rfl ?_
    refine v_pick (lv' := [(3, .int 0), (0, .ref (b + 0)), (1, .long (dgC sc ar hv))]) [0, 2, 1] rfl ?_
    have e_33 : (0 : Int32) = (nI 0) := rfl
    refine v_cong (es' := (wl D b sc ar hn mh G)) (lv' := [(3, .int (nI 0)), (0, .ref (b + 0)), (1, .long (dgC sc ar hv))]) rfl (cg1 (fun (z0 : Int32) => ([(3, .int z0), (0, .ref (b + 0)), (1, .long (dgC sc ar hv))] : List (Nat × Value))) e_33) ?_
    refine loop_dn (P := fun i_19 => ∀ (h1 : Int64) (sc1 : Nat → Int32) (ar1 : Nat → Nat → Int32), (Per sc ar sc1 ar1 ∧ h1 = (dgH (fun k h => mshF sc ar k (fun c => (vyQ hi R W (kk k) (dd k) (FF k) H).1 c) (fun c => stQ hi R W (kk k) (dd k) (ar 35) (nI k) Sn c) h) Hn (dgC sc ar hv) i_19)) → V p l e { frames := 6, cells := 0, slots := 0, locals := 152 } s m args below meth c D b 5 (MQ below (cQ D b 0 (fun r es' => ∃ sc1 ar1, Per sc ar sc1 ar1 ∧ r = some (.long (dkN sc1 ar1 hv (mdP (ar1 1) (dgH (fun k h => mshF sc ar k (fun c => (vyQ hi R W (kk k) (dd k) (FF k) H).1 c) (fun c => stQ hi R W (kk k) (dd k) (ar 35) (nI k) Sn c) h) Hn (dgC sc ar hv) 3) Pn) 9)) ∧ wl D b sc1 ar1 hn mh G = es')) args s 0 0 (fun q => b ≤ q)) 0 0 (wl D b sc1 ar1 hn mh G) [(3, .int (nI i_19)), (0, .ref (b + 0)), (1, .long h1)] [] 19) 3 ?_ (fun i_19 hi_19 ih_19 => ?_) (dgC sc ar hv) sc ar ⟨Per_rf, rfl⟩
    · intro h1 sc1 ar1 hp_19
      have g_34 : (3 : Int32) ≤ (nI 3) := by decide
      refine v_iload_n (n := 20) C dX11_digest_19 rfl rfl rfl ?_
      refine v_aload_n (n := 21) C dX11_digest_20 rfl rfl rfl ?_
      refine v_get (n := 24) C dX11_digest_21 rfl fl_X11_15_X11 wl_c0 rfl ?_
      refine v_alenQ (n := 25) (v := 3) C dX11_digest_24 rfl wl_c2 rfl ?_
      refine v_icmp_ge (t := 56) (n := 28) C dX11_digest_25 (by decide) rfl (fun c_35 => ?_) (fun c_35 => ?_)
      · skip
        have hP1 : sc1 0 = nI Pn := (hp_19.1.1 0 (by decide)).trans rl.2.2.2.2.2.1.1
        have hP18 : Pn ≤ 18 := rl.2.2.2.2.2.1.2.2
        refine v_cong (es' := (wl D b sc1 ar1 hn mh G)) (lv' := [(3, .int (nI 3)), (0, .ref (b + 0)), (1, .long (dgH (fun k h => mshF sc ar k (fun c => (vyQ hi R W (kk k) (dd k) (FF k) H).1 c) (fun c => stQ hi R W (kk k) (dd k) (ar 35) (nI k) Sn c) h) Hn (dgC sc ar hv) 3))]) rfl (cg1 (fun (z0 : Int64) => ([(3, .int (nI 3)), (0, .ref (b + 0)), (1, .long z0)] : List (Nat × Value))) hp_19.2) ?_
        refine v_iconst (n := 57) (v := 0) C dX11_digest_56 rfl (by decide) ?_
        refine v_istore_n (n := 58) (lv' := [(3, .int 0), (0, .ref (b + 0)), (1, .long (dgH (fun k h => mshF sc ar k (fun c => (vyQ hi R W (kk k) (dd k) (FF k) H).1 c) (fun c => stQ hi R W (kk k) (dd k) (ar 35) (nI k) Sn c) h) Hn (dgC sc ar hv) 3))]) C dX11_digest_57 rfl rfl (Nat.le_of_ble_eq_true rfl) rfl ?_
        refine v_pick (lv' := [(3, .int 0), (0, .ref (b + 0)), (1, .long (dgH (fun k h => mshF sc ar k (fun c => (vyQ hi R W (kk k) (dd k) (FF k) H).1 c) (fun c => stQ hi R W (kk k) (dd k) (ar 35) (nI k) Sn c) h) Hn (dgC sc ar hv) 3))]) [0, 1, 2] rfl ?_
        have e_36 : (0 : Int32) = (nI 0) := rfl
        have e_37 : ((dgH (fun k h => mshF sc ar k (fun c => (vyQ hi R W (kk k) (dd k) (FF k) H).1 c) (fun c => stQ hi R W (kk k) (dd k) (ar 35) (nI k) Sn c) h) Hn (dgC sc ar hv) 3) : Int64) = (mdP (ar1 1) (dgH (fun k h => mshF sc ar k (fun c => (vyQ hi R W (kk k) (dd k) (FF k) H).1 c) (fun c => stQ hi R W (kk k) (dd k) (ar 35) (nI k) Sn c) h) Hn (dgC sc ar hv) 3) 0) := rfl
        refine v_cong (es' := (wl D b sc1 ar1 hn mh G)) (lv' := [(3, .int (nI 0)), (0, .ref (b + 0)), (1, .long (mdP (ar1 1) (dgH (fun k h => mshF sc ar k (fun c => (vyQ hi R W (kk k) (dd k) (FF k) H).1 c) (fun c => stQ hi R W (kk k) (dd k) (ar 35) (nI k) Sn c) h) Hn (dgC sc ar hv) 3) 0))]) rfl (cg2 (fun (z0 : Int32) (z1 : Int64) => ([(3, .int z0), (0, .ref (b + 0)), (1, .long z1)] : List (Nat × Value))) e_36 e_37) ?_
        refine loop_dn (P := fun i_58 => V p l e { frames := 6, cells := 0, slots := 0, locals := 152 } s m args below meth c D b 5 (MQ below (cQ D b 0 (fun r es' => ∃ sc1 ar1, Per sc ar sc1 ar1 ∧ r = some (.long (dkN sc1 ar1 hv (mdP (ar1 1) (dgH (fun k h => mshF sc ar k (fun c => (vyQ hi R W (kk k) (dd k) (FF k) H).1 c) (fun c => stQ hi R W (kk k) (dd k) (ar 35) (nI k) Sn c) h) Hn (dgC sc ar hv) 3) Pn) 9)) ∧ wl D b sc1 ar1 hn mh G = es')) args s 0 0 (fun q => b ≤ q)) 0 0 (wl D b sc1 ar1 hn mh G) [(3, .int (nI i_58)), (0, .ref (b + 0)), (1, .long (mdP (ar1 1) (dgH (fun k h => mshF sc ar k (fun c => (vyQ hi R W (kk k) (dd k) (FF k) H).1 c) (fun c => stQ hi R W (kk k) (dd k) (ar 35) (nI k) Sn c) h) Hn (dgC sc ar hv) 3) i_58))] [] 58) Pn ?_ (fun i_58 hi_58 ih_58 => ?_)
        · skip
          have g_38 : ((sc1 0) : Int32) ≤ (nI Pn) := by rw [hP1]; exact Int32.le_refl _
          refine v_iload_n (n := 59) C dX11_digest_58 rfl rfl rfl ?_
          refine v_aload_n (n := 60) C dX11_digest_59 rfl rfl rfl ?_
          refine v_get (n := 63) C dX11_digest_60 rfl fl_X11_66_X11 wl_c0 rfl ?_
          refine v_icmp_ge (t := 95) (n := 66) C dX11_digest_63 (by decide) rfl (fun c_39 => ?_) (fun c_39 => ?_)
          · skip
            refine v_iconst (n := 96) (v := 0) C dX11_digest_95 rfl (by decide) ?_
            refine v_istore_n (n := 97) (lv' := [(3, .int 0), (0, .ref (b + 0)), (1, .long (mdP (ar1 1) (dgH (fun k h => mshF sc ar k (fun c => (vyQ hi R W (kk k) (dd k) (FF k) H).1 c) (fun c => stQ hi R W (kk k) (dd k) (ar 35) (nI k) Sn c) h) Hn (dgC sc ar hv) 3) Pn))]) C dX11_digest_96 rfl rfl (Nat.le_of_ble_eq_true rfl) rfl ?_
            refine v_pick (lv' := [(3, .int 0), (0, .ref (b + 0)), (1, .long (mdP (ar1 1) (dgH (fun k h => mshF sc ar k (fun c => (vyQ hi R W (kk k) (dd k) (FF k) H).1 c) (fun c => stQ hi R W (kk k) (dd k) (ar 35) (nI k) Sn c) h) Hn (dgC sc ar hv) 3) Pn))]) [0, 1, 2] rfl ?_
            have e_40 : (0 : Int32) = (nI 0) := rfl
            have e_41 : ((mdP (ar1 1) (dgH (fun k h => mshF sc ar k (fun c => (vyQ hi R W (kk k) (dd k) (FF k) H).1 c) (fun c => stQ hi R W (kk k) (dd k) (ar 35) (nI k) Sn c) h) Hn (dgC sc ar hv) 3) Pn) : Int64) = (dkN sc1 ar1 hv (mdP (ar1 1) (dgH (fun k h => mshF sc ar k (fun c => (vyQ hi R W (kk k) (dd k) (FF k) H).1 c) (fun c => stQ hi R W (kk k) (dd k) (ar 35) (nI k) Sn c) h) Hn (dgC sc ar hv) 3) Pn) 0) := rfl
            refine v_cong (es' := (wl D b sc1 ar1 hn mh G)) (lv' := [(3, .int (nI 0)), (0, .ref (b + 0)), (1, .long (dkN sc1 ar1 hv (mdP (ar1 1) (dgH (fun k h => mshF sc ar k (fun c => (vyQ hi R W (kk k) (dd k) (FF k) H).1 c) (fun c => stQ hi R W (kk k) (dd k) (ar 35) (nI k) Sn c) h) Hn (dgC sc ar hv) 3) Pn) 0))]) rfl (cg2 (fun (z0 : Int32) (z1 : Int64) => ([(3, .int z0), (0, .ref (b + 0)), (1, .long z1)] : List (Nat × Value))) e_40 e_41) ?_
            refine loop_dn (P := fun i_97 => V p l e { frames := 6, cells := 0, slots := 0, locals := 152 } s m args below meth c D b 5 (MQ below (cQ D b 0 (fun r es' => ∃ sc1 ar1, Per sc ar sc1 ar1 ∧ r = some (.long (dkN sc1 ar1 hv (mdP (ar1 1) (dgH (fun k h => mshF sc ar k (fun c => (vyQ hi R W (kk k) (dd k) (FF k) H).1 c) (fun c => stQ hi R W (kk k) (dd k) (ar 35) (nI k) Sn c) h) Hn (dgC sc ar hv) 3) Pn) 9)) ∧ wl D b sc1 ar1 hn mh G = es')) args s 0 0 (fun q => b ≤ q)) 0 0 (wl D b sc1 ar1 hn mh G) [(3, .int (nI i_97)), (0, .ref (b + 0)), (1, .long (dkN sc1 ar1 hv (mdP (ar1 1) (dgH (fun k h => mshF sc ar k (fun c => (vyQ hi R W (kk k) (dd k) (FF k) H).1 c) (fun c => stQ hi R W (kk k) (dd k) (ar 35) (nI k) Sn c) h) Hn (dgC sc ar hv) 3) Pn) i_97))] [] 97) 9 ?_ (fun i_97 hi_97 ih_97 => ?_)
            · skip
              have g_42 : (9 : Int32) ≤ (nI 9) := by decide
              refine v_iload_n (n := 98) C dX11_digest_97 rfl rfl rfl ?_
              refine v_bipush (n := 100) (v := 9) C dX11_digest_98 rfl (by decide) ?_
              refine v_icmp_ge (t := 122) (n := 103) C dX11_digest_100 (by decide) rfl (fun c_43 => ?_) (fun c_43 => ?_)
              · skip
                refine v_lload_n (n := 123) C dX11_digest_122 rfl rfl rfl ?_
                exact v_lret C dX11_digest_123 rfl ⟨sc1, ar1, hp_19.1, rfl, rfl⟩
              · first | exact absurd c_43 g_42 | exact absurd g_42 c_43 | exact absurd c_43 (Int32.not_le.mpr g_42) | exact absurd c_43 (Int32.not_lt.mpr g_42) | exact absurd (Int32.not_le.mp g_42) c_43 | exact absurd (Int32.not_lt.mp g_42) c_43 | exact absurd (Int32.not_le.mp g_42) (Int32.not_lt.mpr c_43) | exact absurd (Int32.not_lt.mp g_42) (Int32.not_le.mpr c_43) | exact absurd (Int32.not_lt.mp c_43) (Int32.not_le.mpr (Int32.not_le.mp g_42))
            · skip
              have g_44 : ¬ (9 : Int32) ≤ (nI i_97) := nI_ge (a := i_97 + 0) (b := 9) (by omega) (by decide)
              refine v_iload_n (n := 98) C dX11_digest_97 rfl rfl rfl ?_
              refine v_bipush (n := 100) (v := 9) C dX11_digest_98 rfl (by decide) ?_
              refine v_icmp_ge (t := 122) (n := 103) C dX11_digest_100 (by decide) rfl (fun c_45 => ?_) (fun c_45 => ?_)
              · first | exact absurd c_45 g_44 | exact absurd g_44 c_45 | exact absurd c_45 (Int32.not_le.mpr g_44) | exact absurd c_45 (Int32.not_lt.mpr g_44) | exact absurd (Int32.not_le.mp g_44) c_45 | exact absurd (Int32.not_lt.mp g_44) c_45 | exact absurd (Int32.not_le.mp g_44) (Int32.not_lt.mpr c_45) | exact absurd (Int32.not_lt.mp g_44) (Int32.not_le.mpr c_45) | exact absurd (Int32.not_lt.mp c_45) (Int32.not_le.mpr (Int32.not_le.mp g_44))
              · skip
                refine v_ldc2 (n := 106) C dX11_digest_103 rfl kl_X11_249 ?_
                refine v_lload_n (n := 107) C dX11_digest_106 rfl rfl rfl ?_
                refine v_lmul (n := 108) C dX11_digest_107 rfl ?_
                refine v_aload_n (n := 109) C dX11_digest_108 rfl rfl rfl ?_
                refine v_iload_n (n := 110) C dX11_digest_109 rfl rfl rfl ?_
                refine v_go (n := 113) C (vRun_V (As := [.int (nI i_97)]) (rest := [.long (31 * (dkN sc1 ar1 hv (mdP (ar1 1) (dgH (fun k h => mshF sc ar k (fun c => (vyQ hi R W (kk k) (dd k) (FF k) H).1 c) (fun c => stQ hi R W (kk k) (dd k) (ar 35) (nI k) Sn c) h) Hn (dgC sc ar hv) 3) Pn) i_97))]) C wl_c0 rfl lk_X11_251 im_X11_count se_X11_count dX11_digest_110 (c_count l D b sc1 ar1 hn mh G (nI i_97) hv hr) wm_X11_count rfl rfl ⟨Nat.le_of_ble_eq_true rfl, Nat.le_of_ble_eq_true rfl⟩ ⟨Nat.le_of_ble_eq_true rfl, Nat.le_of_ble_eq_true rfl⟩ (Nat.le_of_ble_eq_true rfl)) rfl ?_
                rintro _ _ ⟨rfl, rfl⟩ -
                refine v_i2l (n := 114) C dX11_digest_113 rfl ?_
                refine v_ladd (n := 115) C dX11_digest_114 rfl ?_
                refine v_lstore_n (n := 116) (lv' := [(1, .long ((31 * (dkN sc1 ar1 hv (mdP (ar1 1) (dgH (fun k h => mshF sc ar k (fun c => (vyQ hi R W (kk k) (dd k) (FF k) H).1 c) (fun c => stQ hi R W (kk k) (dd k) (ar 35) (nI k) Sn c) h) Hn (dgC sc ar hv) 3) Pn) i_97)) + (Int32.toInt64 (coF sc1 ar1 hv (nI i_97))))), (3, .int (nI i_97)), (0, .ref (b + 0))]) C dX11_digest_115 rfl rfl (Nat.le_of_ble_eq_true rfl) rfl ?_
                refine v_iinc (n := 119) (v := ((nI i_97) + 1)) (lv' := [(3, .int ((nI i_97) + 1)), (1, .long ((31 * (dkN sc1 ar1 hv (mdP (ar1 1) (dgH (fun k h => mshF sc ar k (fun c => (vyQ hi R W (kk k) (dd k) (FF k) H).1 c) (fun c => stQ hi R W (kk k) (dd k) (ar 35) (nI k) Sn c) h) Hn (dgC sc ar hv) 3) Pn) i_97)) + (Int32.toInt64 (coF sc1 ar1 hv (nI i_97))))), (0, .ref (b + 0))]) C dX11_digest_116 rfl rfl rfl (Nat.le_of_ble_eq_true rfl) rfl ?_
                refine v_goto (t := 97) C dX11_digest_119 (by decide) ?_
                refine v_pick (lv' := [(3, .int ((nI i_97) + 1)), (0, .ref (b + 0)), (1, .long ((31 * (dkN sc1 ar1 hv (mdP (ar1 1) (dgH (fun k h => mshF sc ar k (fun c => (vyQ hi R W (kk k) (dd k) (FF k) H).1 c) (fun c => stQ hi R W (kk k) (dd k) (ar 35) (nI k) Sn c) h) Hn (dgC sc ar hv) 3) Pn) i_97)) + (Int32.toInt64 (coF sc1 ar1 hv (nI i_97)))))]) [0, 2, 1] rfl ?_
                have e_46 : ((nI i_97) + 1) = (nI (i_97 + 1)) := nI_1 _
                have e_47 : (((31 * (dkN sc1 ar1 hv (mdP (ar1 1) (dgH (fun k h => mshF sc ar k (fun c => (vyQ hi R W (kk k) (dd k) (FF k) H).1 c) (fun c => stQ hi R W (kk k) (dd k) (ar 35) (nI k) Sn c) h) Hn (dgC sc ar hv) 3) Pn) i_97)) + (Int32.toInt64 (coF sc1 ar1 hv (nI i_97)))) : Int64) = (dkN sc1 ar1 hv (mdP (ar1 1) (dgH (fun k h => mshF sc ar k (fun c => (vyQ hi R W (kk k) (dd k) (FF k) H).1 c) (fun c => stQ hi R W (kk k) (dd k) (ar 35) (nI k) Sn c) h) Hn (dgC sc ar hv) 3) Pn) (i_97 + 1)) := rfl
                refine v_cong (es' := (wl D b sc1 ar1 hn mh G)) (lv' := [(3, .int (nI (i_97 + 1))), (0, .ref (b + 0)), (1, .long (dkN sc1 ar1 hv (mdP (ar1 1) (dgH (fun k h => mshF sc ar k (fun c => (vyQ hi R W (kk k) (dd k) (FF k) H).1 c) (fun c => stQ hi R W (kk k) (dd k) (ar 35) (nI k) Sn c) h) Hn (dgC sc ar hv) 3) Pn) (i_97 + 1)))]) rfl (cg2 (fun (z0 : Int32) (z1 : Int64) => ([(3, .int z0), (0, .ref (b + 0)), (1, .long z1)] : List (Nat × Value))) e_46 e_47) ?_
                exact ih_97
          · first | exact absurd c_39 g_38 | exact absurd g_38 c_39 | exact absurd c_39 (Int32.not_le.mpr g_38) | exact absurd c_39 (Int32.not_lt.mpr g_38) | exact absurd (Int32.not_le.mp g_38) c_39 | exact absurd (Int32.not_lt.mp g_38) c_39 | exact absurd (Int32.not_le.mp g_38) (Int32.not_lt.mpr c_39) | exact absurd (Int32.not_lt.mp g_38) (Int32.not_le.mpr c_39) | exact absurd (Int32.not_lt.mp c_39) (Int32.not_le.mpr (Int32.not_le.mp g_38))
        · skip
          have g_48 : ¬ ((sc1 0) : Int32) ≤ (nI i_58) := by rw [hP1]; exact nI_ge hi_58 (by omega)
          have x_49 : ¬ (18 : Int32) ≤ nI i_58 := nI_ge (b := 18) (by omega) (by decide)
          refine v_iload_n (n := 59) C dX11_digest_58 rfl rfl rfl ?_
          refine v_aload_n (n := 60) C dX11_digest_59 rfl rfl rfl ?_
          refine v_get (n := 63) C dX11_digest_60 rfl fl_X11_66_X11 wl_c0 rfl ?_
          refine v_icmp_ge (t := 95) (n := 66) C dX11_digest_63 (by decide) rfl (fun c_50 => ?_) (fun c_50 => ?_)
          · first | exact absurd c_50 g_48 | exact absurd g_48 c_50 | exact absurd c_50 (Int32.not_le.mpr g_48) | exact absurd c_50 (Int32.not_lt.mpr g_48) | exact absurd (Int32.not_le.mp g_48) c_50 | exact absurd (Int32.not_lt.mp g_48) c_50 | exact absurd (Int32.not_le.mp g_48) (Int32.not_lt.mpr c_50) | exact absurd (Int32.not_lt.mp g_48) (Int32.not_le.mpr c_50) | exact absurd (Int32.not_lt.mp c_50) (Int32.not_le.mpr (Int32.not_le.mp g_48))
          · skip
            refine v_iload_n (n := 67) C dX11_digest_66 rfl rfl rfl ?_
            refine v_aload_n (n := 68) C dX11_digest_67 rfl rfl rfl ?_
            refine v_get (n := 71) C dX11_digest_68 rfl fl_X11_9_X11 wl_c0 rfl ?_
            refine v_alen (n := 72) (v := 18) C dX11_digest_71 rfl wl_c1 rfl ?_
            refine v_icmp_ge (t := 95) (n := 75) C dX11_digest_72 (by decide) rfl (fun c_51 => ?_) (fun c_51 => ?_)
            · first | exact absurd c_51 x_49 | exact absurd x_49 c_51 | exact absurd c_51 (Int32.not_le.mpr x_49) | exact absurd c_51 (Int32.not_lt.mpr x_49) | exact absurd (Int32.not_le.mp x_49) c_51 | exact absurd (Int32.not_lt.mp x_49) c_51 | exact absurd (Int32.not_le.mp x_49) (Int32.not_lt.mpr c_51) | exact absurd (Int32.not_lt.mp x_49) (Int32.not_le.mpr c_51) | exact absurd (Int32.not_lt.mp c_51) (Int32.not_le.mpr (Int32.not_le.mp x_49))
            · skip
              refine v_ldc2 (n := 78) C dX11_digest_75 rfl kl_X11_249 ?_
              refine v_lload_n (n := 79) C dX11_digest_78 rfl rfl rfl ?_
              refine v_lmul (n := 80) C dX11_digest_79 rfl ?_
              refine v_aload_n (n := 81) C dX11_digest_80 rfl rfl rfl ?_
              refine v_get (n := 84) C dX11_digest_81 rfl fl_X11_9_X11 wl_c0 rfl ?_
              refine v_iload_n (n := 85) C dX11_digest_84 rfl rfl rfl ?_
              refine v_iald (n := 86) C dX11_digest_85 rfl wl_c1 (vp_in_nI (show i_58 < 18 by omega) (by decide)) ?_
              refine v_stk (st' := .int ((ar1 1) i_58) :: [.long (31 * (mdP (ar1 1) (dgH (fun k h => mshF sc ar k (fun c => (vyQ hi R W (kk k) (dd k) (FF k) H).1 c) (fun c => stQ hi R W (kk k) (dd k) (ar 35) (nI k) Sn c) h) Hn (dgC sc ar hv) 3) i_58))]) (congrArg (fun z : Nat => Value.int ((ar1 1) z) :: [.long (31 * (mdP (ar1 1) (dgH (fun k h => mshF sc ar k (fun c => (vyQ hi R W (kk k) (dd k) (FF k) H).1 c) (fun c => stQ hi R W (kk k) (dd k) (ar 35) (nI k) Sn c) h) Hn (dgC sc ar hv) 3) i_58))]) (nI_clamp (show i_58 < 2 ^ 31 by omega))) ?_
              refine v_i2l (n := 87) C dX11_digest_86 rfl ?_
              refine v_ladd (n := 88) C dX11_digest_87 rfl ?_
              refine v_lstore_n (n := 89) (lv' := [(1, .long ((31 * (mdP (ar1 1) (dgH (fun k h => mshF sc ar k (fun c => (vyQ hi R W (kk k) (dd k) (FF k) H).1 c) (fun c => stQ hi R W (kk k) (dd k) (ar 35) (nI k) Sn c) h) Hn (dgC sc ar hv) 3) i_58)) + (Int32.toInt64 ((ar1 1) i_58)))), (3, .int (nI i_58)), (0, .ref (b + 0))]) C dX11_digest_88 rfl rfl (Nat.le_of_ble_eq_true rfl) rfl ?_
              refine v_iinc (n := 92) (v := ((nI i_58) + 1)) (lv' := [(3, .int ((nI i_58) + 1)), (1, .long ((31 * (mdP (ar1 1) (dgH (fun k h => mshF sc ar k (fun c => (vyQ hi R W (kk k) (dd k) (FF k) H).1 c) (fun c => stQ hi R W (kk k) (dd k) (ar 35) (nI k) Sn c) h) Hn (dgC sc ar hv) 3) i_58)) + (Int32.toInt64 ((ar1 1) i_58)))), (0, .ref (b + 0))]) C dX11_digest_89 rfl rfl rfl (Nat.le_of_ble_eq_true rfl) rfl ?_
              refine v_goto (t := 58) C dX11_digest_92 (by decide) ?_
              refine v_pick (lv' := [(3, .int ((nI i_58) + 1)), (0, .ref (b + 0)), (1, .long ((31 * (mdP (ar1 1) (dgH (fun k h => mshF sc ar k (fun c => (vyQ hi R W (kk k) (dd k) (FF k) H).1 c) (fun c => stQ hi R W (kk k) (dd k) (ar 35) (nI k) Sn c) h) Hn (dgC sc ar hv) 3) i_58)) + (Int32.toInt64 ((ar1 1) i_58))))]) [0, 2, 1] rfl ?_
              have e_52 : ((nI i_58) + 1) = (nI (i_58 + 1)) := nI_1 _
              have e_53 : (((31 * (mdP (ar1 1) (dgH (fun k h => mshF sc ar k (fun c => (vyQ hi R W (kk k) (dd k) (FF k) H).1 c) (fun c => stQ hi R W (kk k) (dd k) (ar 35) (nI k) Sn c) h) Hn (dgC sc ar hv) 3) i_58)) + (Int32.toInt64 ((ar1 1) i_58))) : Int64) = (mdP (ar1 1) (dgH (fun k h => mshF sc ar k (fun c => (vyQ hi R W (kk k) (dd k) (FF k) H).1 c) (fun c => stQ hi R W (kk k) (dd k) (ar 35) (nI k) Sn c) h) Hn (dgC sc ar hv) 3) (i_58 + 1)) := rfl
              refine v_cong (es' := (wl D b sc1 ar1 hn mh G)) (lv' := [(3, .int (nI (i_58 + 1))), (0, .ref (b + 0)), (1, .long (mdP (ar1 1) (dgH (fun k h => mshF sc ar k (fun c => (vyQ hi R W (kk k) (dd k) (FF k) H).1 c) (fun c => stQ hi R W (kk k) (dd k) (ar 35) (nI k) Sn c) h) Hn (dgC sc ar hv) 3) (i_58 + 1)))]) rfl (cg2 (fun (z0 : Int32) (z1 : Int64) => ([(3, .int z0), (0, .ref (b + 0)), (1, .long z1)] : List (Nat × Value))) e_52 e_53) ?_
              exact ih_58
      · first | exact absurd c_35 g_34 | exact absurd g_34 c_35 | exact absurd c_35 (Int32.not_le.mpr g_34) | exact absurd c_35 (Int32.not_lt.mpr g_34) | exact absurd (Int32.not_le.mp g_34) c_35 | exact absurd (Int32.not_lt.mp g_34) c_35 | exact absurd (Int32.not_le.mp g_34) (Int32.not_lt.mpr c_35) | exact absurd (Int32.not_lt.mp g_34) (Int32.not_le.mpr c_35) | exact absurd (Int32.not_lt.mp c_35) (Int32.not_le.mpr (Int32.not_le.mp g_34))
    · intro h1 sc1 ar1 hp_19
      have g_54 : ¬ (3 : Int32) ≤ (nI i_19) := nI_ge (a := i_19 + 0) (b := 3) (by omega) (by decide)
      refine v_iload_n (n := 20) C dX11_digest_19 rfl rfl rfl ?_
      refine v_aload_n (n := 21) C dX11_digest_20 rfl rfl rfl ?_
      refine v_get (n := 24) C dX11_digest_21 rfl fl_X11_15_X11 wl_c0 rfl ?_
      refine v_alenQ (n := 25) (v := 3) C dX11_digest_24 rfl wl_c2 rfl ?_
      refine v_icmp_ge (t := 56) (n := 28) C dX11_digest_25 (by decide) rfl (fun c_55 => ?_) (fun c_55 => ?_)
      · first | exact absurd c_55 g_54 | exact absurd g_54 c_55 | exact absurd c_55 (Int32.not_le.mpr g_54) | exact absurd c_55 (Int32.not_lt.mpr g_54) | exact absurd (Int32.not_le.mp g_54) c_55 | exact absurd (Int32.not_lt.mp g_54) c_55 | exact absurd (Int32.not_le.mp g_54) (Int32.not_lt.mpr c_55) | exact absurd (Int32.not_lt.mp g_54) (Int32.not_le.mpr c_55) | exact absurd (Int32.not_lt.mp c_55) (Int32.not_le.mpr (Int32.not_le.mp g_54))
      · skip
        refine v_aload_n (n := 29) C dX11_digest_28 rfl rfl rfl ?_
        refine v_get (n := 32) C dX11_digest_29 rfl fl_X11_15_X11 wl_c0 rfl ?_
        refine v_iload_n (n := 33) C dX11_digest_32 rfl rfl rfl ?_
        refine v_aald (n := 34) C dX11_digest_33 rfl wl_c2 (nI_vp hi_19 (by decide) (by decide)) ?_
        refine v_stk (st' := va_rf ((hn i_19).map (fun t => b + t)) :: []) (congrArg (fun z : Nat => va_rf ((hn z).map (fun t => b + t)) :: []) (nI_clamp (show i_19 < 2 ^ 31 by omega))) ?_
        rcases q_56 : hv i_19 with _ | ⟨k56, dr56, ce56, sa56⟩
        · skip
          refine v_stk (st' := .null :: []) (congrArg (fun z : Option Nat => va_rf (z.map (fun t => b + t)) :: []) (hr.1 i_19 q_56)) ?_
          refine v_astoreN (n := 36) (lv' := [(4, .null), (3, .int (nI i_19)), (0, .ref (b + 0)), (1, .long h1)]) C dX11_digest_34 rfl (Nat.le_of_ble_eq_true rfl) rfl ?_
          refine v_aloadN (n := 38) C dX11_digest_36 rfl rfl ?_
          refine v_ifnullN (t := 50) C dX11_digest_38 (by decide) ?_
          refine v_iinc (n := 53) (v := ((nI i_19) + 1)) (lv' := [(3, .int ((nI i_19) + 1)), (4, .null), (0, .ref (b + 0)), (1, .long h1)]) C dX11_digest_50 rfl rfl rfl (Nat.le_of_ble_eq_true rfl) rfl ?_
          refine v_goto (t := 19) C dX11_digest_53 (by decide) ?_
          refine v_pick (lv' := [(3, .int ((nI i_19) + 1)), (0, .ref (b + 0)), (1, .long h1)]) [0, 2, 3] rfl ?_
          have e_57 : (((nI i_19) + 1) : Int32) = (nI (i_19 + 1)) := nI_1 _
          refine v_cong (es' := (wl D b sc1 ar1 hn mh G)) (lv' := [(3, .int (nI (i_19 + 1))), (0, .ref (b + 0)), (1, .long h1)]) rfl (cg1 (fun (z0 : Int32) => ([(3, .int z0), (0, .ref (b + 0)), (1, .long h1)] : List (Nat × Value))) e_57) ?_
          exact ih_19 h1 sc1 ar1 (⟨hp_19.1, by rw [dgH, if_neg (fun q => dg_no rl q q_56)]; exact hp_19.2⟩)
        · obtain ⟨u56, hu56, hk56, hg56⟩ := hr.2.1 i_19 k56 dr56 ce56 sa56 q_56
          refine v_stk (st' := .ref (b + (u56 + 40)) :: []) (congrArg (fun z : Option Nat => va_rf (z.map (fun t => b + t)) :: []) hu56) ?_
          refine v_astore (n := 36) (lv' := [(4, .ref (b + (u56 + 40))), (3, .int (nI i_19)), (0, .ref (b + 0)), (1, .long h1)]) C dX11_digest_34 rfl (Nat.le_of_ble_eq_true rfl) rfl ?_
          refine v_aload (n := 38) C dX11_digest_36 rfl rfl ?_
          refine v_ifnull (n := 41) C dX11_digest_38 rfl ?_
          refine v_aload_n (n := 42) C dX11_digest_41 rfl rfl rfl ?_
          refine v_lload_n (n := 43) C dX11_digest_42 rfl rfl rfl ?_
          refine v_aload (n := 45) C dX11_digest_43 rfl rfl ?_
          refine v_iload_n (n := 46) C dX11_digest_45 rfl rfl rfl ?_
          refine v_go (n := 49) C (vRun_V (As := [.long h1, .ref (b + (u56 + 40)), .int (nI i_19)]) (rest := []) C wl_c0 rfl lk_X11_245 im_X11_digestOfHull se_X11_digestOfHull dX11_digest_46 (c_digestOfHull l D b sc1 ar1 hn mh G h1 u56 k56 dr56 ce56 sa56 hk56 hg56 (nI i_19) hv hr) wm_X11_digestOfHull rfl rfl ⟨Nat.le_of_ble_eq_true rfl, Nat.le_of_ble_eq_true rfl⟩ ⟨Nat.le_of_ble_eq_true rfl, Nat.le_of_ble_eq_true rfl⟩ (Nat.le_of_ble_eq_true rfl)) rfl ?_
          rintro _ _ ⟨arx58, Lx58, px58, hx58, ex58, rfl, sc58, ar58, hp58, rfl⟩ -
          have dq58 := dh_cg rl hp_19.1 (show i_19 < 3 by omega) q_56 px58 hx58 ex58 h1
          generalize hgv58 : 31 * mhV _ _ 12 + Int32.toInt64 _ = v58 at dq58 ⊢
          refine v_lstore_n (n := 50) (lv' := [(1, .long v58), (4, .ref (b + (u56 + 40))), (3, .int (nI i_19)), (0, .ref (b + 0))]) C dX11_digest_49 rfl rfl (Nat.le_of_ble_eq_true rfl) rfl ?_
          refine v_iinc (n := 53) (v := ((nI i_19) + 1)) (lv' := [(3, .int ((nI i_19) + 1)), (1, .long v58), (4, .ref (b + (u56 + 40))), (0, .ref (b + 0))]) C dX11_digest_50 rfl rfl rfl (Nat.le_of_ble_eq_true rfl) rfl ?_
          refine v_goto (t := 19) C dX11_digest_53 (by decide) ?_
          refine v_pick (lv' := [(3, .int ((nI i_19) + 1)), (0, .ref (b + 0)), (1, .long v58)]) [0, 3, 1] rfl ?_
          have e_59 : (((nI i_19) + 1) : Int32) = (nI (i_19 + 1)) := nI_1 _
          refine v_cong (es' := (wl D b sc58 ar58 hn mh G)) (lv' := [(3, .int (nI (i_19 + 1))), (0, .ref (b + 0)), (1, .long v58)]) rfl (cg1 (fun (z0 : Int32) => ([(3, .int z0), (0, .ref (b + 0)), (1, .long v58)] : List (Nat × Value))) e_59) ?_
          exact ih_19 v58 sc58 ar58 (⟨Per_tr hp_19.1 hp58, by rw [dgH, if_pos dq58.1, ← hp_19.2]; exact dq58.2⟩)
