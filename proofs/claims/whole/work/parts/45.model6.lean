theorem h4_c {s : Int32} {Hn j : Nat} (hH : s = nI Hn) (hH3 : Hn ≤ 3) (hne : ¬ s = 3) (hj : j < 4) : ((4 : Int32) * s + nI j).toNatClampNeg = 4 * Hn + j := by
  have h6 : ¬ Hn = 3 := fun q => hne (by rw [hH, q]; rfl)
  rw [hH]
  exact rw_c (by omega) hj
theorem h4_c0 {s : Int32} {Hn : Nat} (hH : s = nI Hn) (hH3 : Hn ≤ 3) (hne : ¬ s = 3) : ((4 : Int32) * s).toNatClampNeg = 4 * Hn + 0 := by
  have h6 : ¬ Hn = 3 := fun q => hne (by rw [hH, q]; rfl)
  rw [hH]
  exact rw_c0 (by omega)
def mhuT (sc : Nat → Int32) (ar : Nat → Nat → Int32) (Hn : Nat) (w x c : Int32) : Int32 × (Nat → Int32) × (Nat → Nat → Int32) := if w < 0 then (-102, sc, ar) else if 4 < w then (-102, sc, ar) else if x < 1 then (-102, sc, ar) else if 9 < x then (-102, sc, ar) else
  if c < 0 then (-101, sc, ar) else if 11 < c then (-101, sc, ar) else if sc 21 = 0 then (-101, sc, ar) else if sc 25 = 3 then (-104, sc, ar) else
  (sc 25 + 1 - 1, va_up sc 25 (sc 25 + 1), va_up ar 30 (upd (upd (upd (upd (ar 30) (4 * Hn + 0) w) (4 * Hn + 1) x) (4 * Hn + 2) c) (4 * Hn + 3) 0))
set_option maxHeartbeats 4000000 in
set_option maxRecDepth 100000 in
theorem m_hull (l : Launch) (D : va_G) (b : Nat) (sc : Nat → Int32) (ar : Nat → Nat → Int32) (hn : Nat → Option Nat) (mh : Int64) (G : List va_E) (w x y : Int32) (Hn : Nat) (hH : sc 25 = nI Hn) (hH3 : Hn ≤ 3) : Con l yX12_hull cX12_hull 4 (some .int) 2 46 D b 0 0 (wl D b sc ar hn mh G) [.ref (b + 27), .int w, .int x, .int y] (fun r es' => r = some (.int (mhuT sc ar Hn w x y).1) ∧ wl D b (mhuT sc ar Hn w x y).2.1 (mhuT sc ar Hn w x y).2.2 hn mh G = es') := by
  refine con_of (by decide) (Nat.le_of_ble_eq_true rfl) (fun p e s m args below meth c C hsz => ?_)
  have C : vC p s m args meth c cX12_hull 4 RX12 "hull" (some .int) D b := C
  change V p l e _ s m args below meth c D b 4 _ 0 0 (wl D b sc ar hn mh G) [(0, .ref (b + 27)), (1, .int w), (2, .int x), (3, .int y)] [] 0
  refine v_iload_n (n := 1) C dX12_hull_0 rfl rfl rfl ?_
  refine v_i2l (n := 2) C dX12_hull_1 rfl ?_
  refine v_lconst (n := 3) (v := 0) C dX12_hull_2 rfl (by decide) ?_
  refine v_ldc2 (n := 6) C dX12_hull_3 rfl kl_X12_109 ?_
  refine v_stk (st' := [.long (Int32.toInt64 4), .long (Int32.toInt64 0), .long (Int32.toInt64 w)]) rfl ?_
  refine v_go (n := 9) C (vRun_S (As := [.long (Int32.toInt64 w), .long (Int32.toInt64 0), .long (Int32.toInt64 4)]) (rest := []) C lk_X12_55 st_X12_in dX12_hull_6 (c_in l D b (wl D b sc ar hn mh G) w 0 4) wm_X12_in rfl rfl ⟨Nat.le_of_ble_eq_true rfl, Nat.le_of_ble_eq_true rfl⟩ ⟨Nat.le_of_ble_eq_true rfl, Nat.le_of_ble_eq_true rfl⟩ (Nat.le_of_ble_eq_true rfl)) rfl ?_
  rintro _ _ ⟨rfl, rfl⟩ -
  by_cases p_1 : w < 0
  · skip
    refine v_stk (st' := .int 0 :: []) (congrArg (fun z : Int32 => Value.int z :: []) (show niF w 0 4 = 0 by simp only [niF, if_pos p_1])) ?_
    refine v_if_eq (t := 24) (n := 12) C dX12_hull_9 (by decide) rfl (fun c_2 => ?_) (fun c_2 => ?_)
    · skip
      refine v_bipush (n := 26) (v := -102) C dX12_hull_24 rfl (by decide) ?_
      exact v_iret C dX12_hull_26 rfl rfl ⟨by simp only [mhuT, eq_true p_1, eq_false (Int32.not_le.mpr p_1), eq_true c_2, ↓reduceIte], by simp only [mhuT, eq_true p_1, eq_false (Int32.not_le.mpr p_1), eq_true c_2, ↓reduceIte]⟩
    · exact absurd c_2 (by decide)
  by_cases p_3 : 4 < w
  · skip
    refine v_stk (st' := .int 0 :: []) (congrArg (fun z : Int32 => Value.int z :: []) (show niF w 0 4 = 0 by simp only [niF, if_neg p_1, if_pos p_3])) ?_
    refine v_if_eq (t := 24) (n := 12) C dX12_hull_9 (by decide) rfl (fun c_4 => ?_) (fun c_4 => ?_)
    · skip
      refine v_bipush (n := 26) (v := -102) C dX12_hull_24 rfl (by decide) ?_
      exact v_iret C dX12_hull_26 rfl rfl ⟨by simp only [mhuT, eq_false p_1, eq_true (Int32.not_lt.mp p_1), eq_true p_3, eq_false (Int32.not_le.mpr p_3), eq_true c_4, ↓reduceIte], by simp only [mhuT, eq_false p_1, eq_true (Int32.not_lt.mp p_1), eq_true p_3, eq_false (Int32.not_le.mpr p_3), eq_true c_4, ↓reduceIte]⟩
    · exact absurd c_4 (by decide)
  refine v_stk (st' := .int 1 :: []) (congrArg (fun z : Int32 => Value.int z :: []) (show niF w 0 4 = 1 by simp only [niF, if_neg p_1, if_neg p_3])) ?_
  refine v_if_eq (t := 24) (n := 12) C dX12_hull_9 (by decide) rfl (fun c_5 => ?_) (fun c_5 => ?_)
  · exact absurd c_5 (by decide)
  · skip
    refine v_iload_n (n := 13) C dX12_hull_12 rfl rfl rfl ?_
    refine v_i2l (n := 14) C dX12_hull_13 rfl ?_
    refine v_lconst (n := 15) (v := 1) C dX12_hull_14 rfl (by decide) ?_
    refine v_ldc2 (n := 18) C dX12_hull_15 rfl kl_X12_62 ?_
    refine v_stk (st' := [.long (Int32.toInt64 9), .long (Int32.toInt64 1), .long (Int32.toInt64 x)]) rfl ?_
    refine v_go (n := 21) C (vRun_S (As := [.long (Int32.toInt64 x), .long (Int32.toInt64 1), .long (Int32.toInt64 9)]) (rest := []) C lk_X12_55 st_X12_in dX12_hull_18 (c_in l D b (wl D b sc ar hn mh G) x 1 9) wm_X12_in rfl rfl ⟨Nat.le_of_ble_eq_true rfl, Nat.le_of_ble_eq_true rfl⟩ ⟨Nat.le_of_ble_eq_true rfl, Nat.le_of_ble_eq_true rfl⟩ (Nat.le_of_ble_eq_true rfl)) rfl ?_
    rintro _ _ ⟨rfl, rfl⟩ -
    by_cases p_6 : x < 1
    · skip
      refine v_stk (st' := .int 0 :: []) (congrArg (fun z : Int32 => Value.int z :: []) (show niF x 1 9 = 0 by simp only [niF, if_pos p_6])) ?_
      refine v_if_ne (t := 27) (n := 24) C dX12_hull_21 (by decide) rfl (fun c_7 => ?_) (fun c_7 => ?_)
      · exact absurd c_7 (by decide)
      · skip
        refine v_bipush (n := 26) (v := -102) C dX12_hull_24 rfl (by decide) ?_
        exact v_iret C dX12_hull_26 rfl rfl ⟨by simp only [mhuT, eq_false p_1, eq_true (Int32.not_lt.mp p_1), eq_false p_3, eq_true (Int32.not_lt.mp p_3), eq_false c_5, eq_true p_6, eq_false (Int32.not_le.mpr p_6), eq_true c_7, ↓reduceIte], by simp only [mhuT, eq_false p_1, eq_true (Int32.not_lt.mp p_1), eq_false p_3, eq_true (Int32.not_lt.mp p_3), eq_false c_5, eq_true p_6, eq_false (Int32.not_le.mpr p_6), eq_true c_7, ↓reduceIte]⟩
    by_cases p_8 : 9 < x
    · skip
      refine v_stk (st' := .int 0 :: []) (congrArg (fun z : Int32 => Value.int z :: []) (show niF x 1 9 = 0 by simp only [niF, if_neg p_6, if_pos p_8])) ?_
      refine v_if_ne (t := 27) (n := 24) C dX12_hull_21 (by decide) rfl (fun c_9 => ?_) (fun c_9 => ?_)
      · exact absurd c_9 (by decide)
      · skip
        refine v_bipush (n := 26) (v := -102) C dX12_hull_24 rfl (by decide) ?_
        exact v_iret C dX12_hull_26 rfl rfl ⟨by simp only [mhuT, eq_false p_1, eq_true (Int32.not_lt.mp p_1), eq_false p_3, eq_true (Int32.not_lt.mp p_3), eq_false c_5, eq_false p_6, eq_true (Int32.not_lt.mp p_6), eq_true p_8, eq_false (Int32.not_le.mpr p_8), eq_true c_9, ↓reduceIte], by simp only [mhuT, eq_false p_1, eq_true (Int32.not_lt.mp p_1), eq_false p_3, eq_true (Int32.not_lt.mp p_3), eq_false c_5, eq_false p_6, eq_true (Int32.not_lt.mp p_6), eq_true p_8, eq_false (Int32.not_le.mpr p_8), eq_true c_9, ↓reduceIte]⟩
    refine v_stk (st' := .int 1 :: []) (congrArg (fun z : Int32 => Value.int z :: []) (show niF x 1 9 = 1 by simp only [niF, if_neg p_6, if_neg p_8])) ?_
    refine v_if_ne (t := 27) (n := 24) C dX12_hull_21 (by decide) rfl (fun c_10 => ?_) (fun c_10 => ?_)
    · skip
      refine v_aload_n (n := 28) C dX12_hull_27 rfl rfl rfl ?_
      refine v_iload_n (n := 29) C dX12_hull_28 rfl rfl rfl ?_
      refine v_go (n := 32) C (vRun_V (As := [.int y]) (rest := []) C wl_c27 rfl lk_X12_101 im_X12_isCell se_X12_isCell dX12_hull_29 (m_isCell l D b sc ar hn mh G y) wm_X12_isCell rfl rfl ⟨Nat.le_of_ble_eq_true rfl, Nat.le_of_ble_eq_true rfl⟩ ⟨Nat.le_of_ble_eq_true rfl, Nat.le_of_ble_eq_true rfl⟩ (Nat.le_of_ble_eq_true rfl)) rfl ?_
      rintro _ _ ⟨rfl, rfl⟩ -
      by_cases p_11 : y < 0
      · skip
        refine v_stk (st' := .int 0 :: []) (congrArg (fun z : Int32 => Value.int z :: []) (show micF (sc 21) y = 0 by simp only [micF, if_pos p_11])) ?_
        refine v_if_ne (t := 38) (n := 35) C dX12_hull_32 (by decide) rfl (fun c_12 => ?_) (fun c_12 => ?_)
        · exact absurd c_12 (by decide)
        · skip
          refine v_bipush (n := 37) (v := -101) C dX12_hull_35 rfl (by decide) ?_
          exact v_iret C dX12_hull_37 rfl rfl ⟨by simp only [mhuT, eq_false p_1, eq_true (Int32.not_lt.mp p_1), eq_false p_3, eq_true (Int32.not_lt.mp p_3), eq_false c_5, eq_false p_6, eq_true (Int32.not_lt.mp p_6), eq_false p_8, eq_true (Int32.not_lt.mp p_8), eq_false c_10, eq_true p_11, eq_false (Int32.not_le.mpr p_11), eq_true c_12, ↓reduceIte], by simp only [mhuT, eq_false p_1, eq_true (Int32.not_lt.mp p_1), eq_false p_3, eq_true (Int32.not_lt.mp p_3), eq_false c_5, eq_false p_6, eq_true (Int32.not_lt.mp p_6), eq_false p_8, eq_true (Int32.not_lt.mp p_8), eq_false c_10, eq_true p_11, eq_false (Int32.not_le.mpr p_11), eq_true c_12, ↓reduceIte]⟩
      by_cases p_13 : 11 < y
      · skip
        refine v_stk (st' := .int 0 :: []) (congrArg (fun z : Int32 => Value.int z :: []) (show micF (sc 21) y = 0 by simp only [micF, if_neg p_11, if_pos p_13])) ?_
        refine v_if_ne (t := 38) (n := 35) C dX12_hull_32 (by decide) rfl (fun c_14 => ?_) (fun c_14 => ?_)
        · exact absurd c_14 (by decide)
        · skip
          refine v_bipush (n := 37) (v := -101) C dX12_hull_35 rfl (by decide) ?_
          exact v_iret C dX12_hull_37 rfl rfl ⟨by simp only [mhuT, eq_false p_1, eq_true (Int32.not_lt.mp p_1), eq_false p_3, eq_true (Int32.not_lt.mp p_3), eq_false c_5, eq_false p_6, eq_true (Int32.not_lt.mp p_6), eq_false p_8, eq_true (Int32.not_lt.mp p_8), eq_false c_10, eq_false p_11, eq_true (Int32.not_lt.mp p_11), eq_true p_13, eq_false (Int32.not_le.mpr p_13), eq_true c_14, ↓reduceIte], by simp only [mhuT, eq_false p_1, eq_true (Int32.not_lt.mp p_1), eq_false p_3, eq_true (Int32.not_lt.mp p_3), eq_false c_5, eq_false p_6, eq_true (Int32.not_lt.mp p_6), eq_false p_8, eq_true (Int32.not_lt.mp p_8), eq_false c_10, eq_false p_11, eq_true (Int32.not_lt.mp p_11), eq_true p_13, eq_false (Int32.not_le.mpr p_13), eq_true c_14, ↓reduceIte]⟩
      by_cases p_15 : (sc 21) = 0
      · skip
        refine v_stk (st' := .int 0 :: []) (congrArg (fun z : Int32 => Value.int z :: []) (show micF (sc 21) y = 0 by simp only [micF, if_neg p_11, if_neg p_13, if_pos p_15])) ?_
        refine v_if_ne (t := 38) (n := 35) C dX12_hull_32 (by decide) rfl (fun c_16 => ?_) (fun c_16 => ?_)
        · exact absurd c_16 (by decide)
        · skip
          refine v_bipush (n := 37) (v := -101) C dX12_hull_35 rfl (by decide) ?_
          exact v_iret C dX12_hull_37 rfl rfl ⟨by simp only [mhuT, eq_false p_1, eq_true (Int32.not_lt.mp p_1), eq_false p_3, eq_true (Int32.not_lt.mp p_3), eq_false c_5, eq_false p_6, eq_true (Int32.not_lt.mp p_6), eq_false p_8, eq_true (Int32.not_lt.mp p_8), eq_false c_10, eq_false p_11, eq_true (Int32.not_lt.mp p_11), eq_false p_13, eq_true (Int32.not_lt.mp p_13), eq_true p_15, eq_true c_16, ↓reduceIte], by simp only [mhuT, eq_false p_1, eq_true (Int32.not_lt.mp p_1), eq_false p_3, eq_true (Int32.not_lt.mp p_3), eq_false c_5, eq_false p_6, eq_true (Int32.not_lt.mp p_6), eq_false p_8, eq_true (Int32.not_lt.mp p_8), eq_false c_10, eq_false p_11, eq_true (Int32.not_lt.mp p_11), eq_false p_13, eq_true (Int32.not_lt.mp p_13), eq_true p_15, eq_true c_16, ↓reduceIte]⟩
      refine v_stk (st' := .int 1 :: []) (congrArg (fun z : Int32 => Value.int z :: []) (show micF (sc 21) y = 1 by simp only [micF, if_neg p_11, if_neg p_13, if_neg p_15])) ?_
      have hx_17 : vp_in y 12 := ic_vp p_11 p_13
      refine v_if_ne (t := 38) (n := 35) C dX12_hull_32 (by decide) rfl (fun c_18 => ?_) (fun c_18 => ?_)
      · skip
        refine v_aload_n (n := 39) C dX12_hull_38 rfl rfl rfl ?_
        refine v_get (n := 42) C dX12_hull_39 rfl fl_X12_78_X12 wl_c27 rfl ?_
        refine v_iconst (n := 43) (v := 3) C dX12_hull_42 rfl (by decide) ?_
        refine v_icmp_ne (t := 49) (n := 46) C dX12_hull_43 (by decide) rfl (fun c_19 => ?_) (fun c_19 => ?_)
        · skip
          refine v_aload_n (n := 50) C dX12_hull_49 rfl rfl rfl ?_
          refine v_get (n := 53) C dX12_hull_50 rfl fl_X12_16_X12 wl_c27 rfl ?_
          refine v_iconst (n := 54) (v := 4) C dX12_hull_53 rfl (by decide) ?_
          refine v_aload_n (n := 55) C dX12_hull_54 rfl rfl rfl ?_
          refine v_get (n := 58) C dX12_hull_55 rfl fl_X12_78_X12 wl_c27 rfl ?_
          refine v_imul (n := 59) C dX12_hull_58 rfl ?_
          refine v_iload_n (n := 60) C dX12_hull_59 rfl rfl rfl ?_
          refine v_iast (n := 61) (es' := (wl D b sc (va_up ar 30 (upd (ar 30) (4 * Hn + 0) w)) hn mh G)) C dX12_hull_60 rfl wl_c30 (h4_vp0 hH hH3 c_19) (by rw [show ((4 : Int32) * sc 25).toNatClampNeg = (4 * Hn + 0) from (h4_c0 hH hH3 c_19)]; exact (wl_a30 _)) ?_
          refine v_aload_n (n := 62) C dX12_hull_61 rfl rfl rfl ?_
          refine v_get (n := 65) C dX12_hull_62 rfl fl_X12_16_X12 wl_c27 rfl ?_
          refine v_iconst (n := 66) (v := 4) C dX12_hull_65 rfl (by decide) ?_
          refine v_aload_n (n := 67) C dX12_hull_66 rfl rfl rfl ?_
          refine v_get (n := 70) C dX12_hull_67 rfl fl_X12_78_X12 wl_c27 rfl ?_
          refine v_imul (n := 71) C dX12_hull_70 rfl ?_
          refine v_iconst (n := 72) (v := 1) C dX12_hull_71 rfl (by decide) ?_
          refine v_iadd (n := 73) C dX12_hull_72 rfl ?_
          refine v_iload_n (n := 74) C dX12_hull_73 rfl rfl rfl ?_
          refine v_iast (n := 75) (es' := (wl D b sc (va_up ar 30 (upd (upd (ar 30) (4 * Hn + 0) w) (4 * Hn + 1) x)) hn mh G)) C dX12_hull_74 rfl (show (wl D b sc (va_up ar 30 (upd (ar 30) (4 * Hn + 0) w)) hn mh G)[30]? = some (.inl (D.1 13, 12, .inl (upd (ar 30) (4 * Hn + 0) w))) from wl_c30) (h4_vp (j := 1) hH hH3 c_19 (by decide)) (by rw [show ((4 : Int32) * sc 25 + 1).toNatClampNeg = (4 * Hn + 1) from (h4_c (j := 1) hH hH3 c_19 (by decide))]; exact rfl) ?_
          refine v_aload_n (n := 76) C dX12_hull_75 rfl rfl rfl ?_
          refine v_get (n := 79) C dX12_hull_76 rfl fl_X12_16_X12 wl_c27 rfl ?_
          refine v_iconst (n := 80) (v := 4) C dX12_hull_79 rfl (by decide) ?_
          refine v_aload_n (n := 81) C dX12_hull_80 rfl rfl rfl ?_
          refine v_get (n := 84) C dX12_hull_81 rfl fl_X12_78_X12 wl_c27 rfl ?_
          refine v_imul (n := 85) C dX12_hull_84 rfl ?_
          refine v_iconst (n := 86) (v := 2) C dX12_hull_85 rfl (by decide) ?_
          refine v_iadd (n := 87) C dX12_hull_86 rfl ?_
          refine v_iload_n (n := 88) C dX12_hull_87 rfl rfl rfl ?_
          refine v_iast (n := 89) (es' := (wl D b sc (va_up ar 30 (upd (upd (upd (ar 30) (4 * Hn + 0) w) (4 * Hn + 1) x) (4 * Hn + 2) y)) hn mh G)) C dX12_hull_88 rfl (show (wl D b sc (va_up ar 30 (upd (upd (ar 30) (4 * Hn + 0) w) (4 * Hn + 1) x)) hn mh G)[30]? = some (.inl (D.1 13, 12, .inl (upd (upd (ar 30) (4 * Hn + 0) w) (4 * Hn + 1) x))) from wl_c30) (h4_vp (j := 2) hH hH3 c_19 (by decide)) (by rw [show ((4 : Int32) * sc 25 + 2).toNatClampNeg = (4 * Hn + 2) from (h4_c (j := 2) hH hH3 c_19 (by decide))]; exact rfl) ?_
          refine v_aload_n (n := 90) C dX12_hull_89 rfl rfl rfl ?_
          refine v_get (n := 93) C dX12_hull_90 rfl fl_X12_16_X12 wl_c27 rfl ?_
          refine v_iconst (n := 94) (v := 4) C dX12_hull_93 rfl (by decide) ?_
          refine v_aload_n (n := 95) C dX12_hull_94 rfl rfl rfl ?_
          refine v_get (n := 98) C dX12_hull_95 rfl fl_X12_78_X12 wl_c27 rfl ?_
          refine v_imul (n := 99) C dX12_hull_98 rfl ?_
          refine v_iconst (n := 100) (v := 3) C dX12_hull_99 rfl (by decide) ?_
          refine v_iadd (n := 101) C dX12_hull_100 rfl ?_
          refine v_iconst (n := 102) (v := 0) C dX12_hull_101 rfl (by decide) ?_
          refine v_iast (n := 103) (es' := (wl D b sc (va_up ar 30 (upd (upd (upd (upd (ar 30) (4 * Hn + 0) w) (4 * Hn + 1) x) (4 * Hn + 2) y) (4 * Hn + 3) 0)) hn mh G)) C dX12_hull_102 rfl (show (wl D b sc (va_up ar 30 (upd (upd (upd (ar 30) (4 * Hn + 0) w) (4 * Hn + 1) x) (4 * Hn + 2) y)) hn mh G)[30]? = some (.inl (D.1 13, 12, .inl (upd (upd (upd (ar 30) (4 * Hn + 0) w) (4 * Hn + 1) x) (4 * Hn + 2) y))) from wl_c30) (h4_vp (j := 3) hH hH3 c_19 (by decide)) (by rw [show ((4 : Int32) * sc 25 + 3).toNatClampNeg = (4 * Hn + 3) from (h4_c (j := 3) hH hH3 c_19 (by decide))]; exact rfl) ?_
          refine v_aload_n (n := 104) C dX12_hull_103 rfl rfl rfl ?_
          refine v_dup (n := 105) C dX12_hull_104 rfl rfl ?_
          refine v_get (n := 108) C dX12_hull_105 rfl fl_X12_78_X12 wl_c27 rfl ?_
          refine v_iconst (n := 109) (v := 1) C dX12_hull_108 rfl (by decide) ?_
          refine v_iadd (n := 110) C dX12_hull_109 rfl ?_
          refine v_put (n := 113) (es' := (wl D b (va_up sc 25 ((sc 25) + 1)) (va_up ar 30 (upd (upd (upd (upd (ar 30) (4 * Hn + 0) w) (4 * Hn + 1) x) (4 * Hn + 2) y) (4 * Hn + 3) 0)) hn mh G)) C dX12_hull_110 rfl fl_X12_78_X12 (fp_any fp_X12_7) wl_c27 rfl rfl (Nat.le_of_ble_eq_true rfl) wl_p27_7 ?_
          refine v_aload_n (n := 114) C dX12_hull_113 rfl rfl rfl ?_
          refine v_get (n := 117) C dX12_hull_114 rfl fl_X12_78_X12 (show (wl D b (va_up sc 25 ((sc 25) + 1)) (va_up ar 30 (upd (upd (upd (upd (ar 30) (4 * Hn + 0) w) (4 * Hn + 1) x) (4 * Hn + 2) y) (4 * Hn + 3) 0)) hn mh G)[27]? = some (.inr (12, [.ref (b + 28), .int (sc 20), .int (sc 21), .int (sc 22), .int (sc 23), .int (sc 24), .ref (b + 29), .int ((sc 25) + 1), .ref (b + 30), .ref (b + 31), .ref (b + 32), .ref (b + 33), .ref (b + 34), .int (sc 26), .int (sc 27), .int (sc 28), .ref (b + 35), .ref (b + 36), .int (sc 29), .ref (b + 37), .int (sc 30), .int (sc 31), .int (sc 32), .int (sc 33), .int (sc 34), .ref (b + 38), .ref (b + 39), .long mh])) from wl_c27) rfl ?_
          refine v_iconst (n := 118) (v := 1) C dX12_hull_117 rfl (by decide) ?_
          refine v_isub (n := 119) C dX12_hull_118 rfl ?_
          exact v_iret C dX12_hull_119 rfl rfl ⟨by simp only [mhuT, eq_false p_1, eq_true (Int32.not_lt.mp p_1), eq_false p_3, eq_true (Int32.not_lt.mp p_3), eq_false c_5, eq_false p_6, eq_true (Int32.not_lt.mp p_6), eq_false p_8, eq_true (Int32.not_lt.mp p_8), eq_false c_10, eq_false p_11, eq_true (Int32.not_lt.mp p_11), eq_false p_13, eq_true (Int32.not_lt.mp p_13), eq_false p_15, eq_false c_18, eq_false c_19, ↓reduceIte], by simp only [mhuT, eq_false p_1, eq_true (Int32.not_lt.mp p_1), eq_false p_3, eq_true (Int32.not_lt.mp p_3), eq_false c_5, eq_false p_6, eq_true (Int32.not_lt.mp p_6), eq_false p_8, eq_true (Int32.not_lt.mp p_8), eq_false c_10, eq_false p_11, eq_true (Int32.not_lt.mp p_11), eq_false p_13, eq_true (Int32.not_lt.mp p_13), eq_false p_15, eq_false c_18, eq_false c_19, ↓reduceIte]⟩
        · skip
          refine v_bipush (n := 48) (v := -104) C dX12_hull_46 rfl (by decide) ?_
          exact v_iret C dX12_hull_48 rfl rfl ⟨by simp only [mhuT, eq_false p_1, eq_true (Int32.not_lt.mp p_1), eq_false p_3, eq_true (Int32.not_lt.mp p_3), eq_false c_5, eq_false p_6, eq_true (Int32.not_lt.mp p_6), eq_false p_8, eq_true (Int32.not_lt.mp p_8), eq_false c_10, eq_false p_11, eq_true (Int32.not_lt.mp p_11), eq_false p_13, eq_true (Int32.not_lt.mp p_13), eq_false p_15, eq_false c_18, eq_true c_19, ↓reduceIte], by simp only [mhuT, eq_false p_1, eq_true (Int32.not_lt.mp p_1), eq_false p_3, eq_true (Int32.not_lt.mp p_3), eq_false c_5, eq_false p_6, eq_true (Int32.not_lt.mp p_6), eq_false p_8, eq_true (Int32.not_lt.mp p_8), eq_false c_10, eq_false p_11, eq_true (Int32.not_lt.mp p_11), eq_false p_13, eq_true (Int32.not_lt.mp p_13), eq_false p_15, eq_false c_18, eq_true c_19, ↓reduceIte]⟩
      · exact absurd c_18 (by decide)
    · exact absurd c_10 (by decide)
