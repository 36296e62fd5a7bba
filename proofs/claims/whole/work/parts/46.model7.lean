theorem s3_c {s : Int32} {Sn j : Nat} (hS : s = nI Sn) (hS6 : Sn ≤ 6) (hne : ¬ s = 6) (hj : j < 3) : ((3 : Int32) * s + nI j).toNatClampNeg = 3 * Sn + j := by
  have h6 : ¬ Sn = 6 := fun q => hne (by rw [hS, q]; rfl)
  have e : (3 : Int32) * nI Sn + nI j = nI (3 * Sn + j) := by
    unfold nI
    rw [Int32.ofNat_add, Int32.ofNat_mul]
    rfl
  rw [hS, e]
  exact nI_clamp (by omega)
theorem s3_c0 {s : Int32} {Sn : Nat} (hS : s = nI Sn) (hS6 : Sn ≤ 6) (hne : ¬ s = 6) : ((3 : Int32) * s).toNatClampNeg = 3 * Sn + 0 := by
  have h := s3_c (j := 0) hS hS6 hne (by decide)
  rwa [show nI 0 = 0 from rfl, Int32.add_zero] at h
def mseT (sc : Nat → Int32) (ar : Nat → Nat → Int32) (Sn : Nat) (x c h : Int32) : Int32 × (Nat → Int32) × (Nat → Nat → Int32) := if x < 0 then (-101, sc, ar) else if sc 25 - 1 < x then (-101, sc, ar) else if c < 0 then (-101, sc, ar) else if 11 < c then (-101, sc, ar) else if sc 21 = 0 then (-101, sc, ar) else
  if h < 0 then (-102, sc, ar) else if 40 < h then (-102, sc, ar) else if sc 28 = 6 then (-104, sc, ar) else
  (sc 28 + 1, va_up sc 28 (sc 28 + 1), va_up ar 35 (upd (upd (upd (ar 35) (3 * Sn + 0) x) (3 * Sn + 1) c) (3 * Sn + 2) h))
set_option maxHeartbeats 4000000 in
set_option maxRecDepth 100000 in
theorem m_see (l : Launch) (D : va_G) (b : Nat) (sc : Nat → Int32) (ar : Nat → Nat → Int32) (hn : Nat → Option Nat) (mh : Int64) (G : List va_E) (x y z : Int32) (Hn : Nat) (hH : sc 25 = nI Hn) (hH3 : Hn ≤ 3) (Sn : Nat) (hS : sc 28 = nI Sn) (hS6 : Sn ≤ 6) : Con l yX12_see cX12_see 4 (some .int) 2 46 D b 0 0 (wl D b sc ar hn mh G) [.ref (b + 27), .int x, .int y, .int z] (fun r es' => r = some (.int (mseT sc ar Sn x y z).1) ∧ wl D b (mseT sc ar Sn x y z).2.1 (mseT sc ar Sn x y z).2.2 hn mh G = es') := by
  refine con_of (by decide) (Nat.le_of_ble_eq_true rfl) (fun p e s m args below meth c C hsz => ?_)
  have C : vC p s m args meth c cX12_see 4 RX12 "see" (some .int) D b := C
  change V p l e _ s m args below meth c D b 4 _ 0 0 (wl D b sc ar hn mh G) [(0, .ref (b + 27)), (1, .int x), (2, .int y), (3, .int z)] [] 0
  refine v_aload_n (n := 1) C dX12_see_0 rfl rfl rfl ?_
  refine v_iload_n (n := 2) C dX12_see_1 rfl rfl rfl ?_
  refine v_go (n := 5) C (vRun_V (As := [.int x]) (rest := []) C wl_c27 rfl lk_X12_134 im_X12_isHull se_X12_isHull dX12_see_2 (m_isHull l D b sc ar hn mh G x) wm_X12_isHull rfl rfl ⟨Nat.le_of_ble_eq_true rfl, Nat.le_of_ble_eq_true rfl⟩ ⟨Nat.le_of_ble_eq_true rfl, Nat.le_of_ble_eq_true rfl⟩ (Nat.le_of_ble_eq_true rfl)) rfl ?_
  rintro _ _ ⟨rfl, rfl⟩ -
  by_cases p_1 : x < 0
  · skip
    refine v_stk (st' := .int 0 :: []) (congrArg (fun z : Int32 => Value.int z :: []) (show mihF (sc 25) x = 0 by simp only [mihF, if_pos p_1])) ?_
    refine v_if_eq (t := 16) (n := 8) C dX12_see_5 (by decide) rfl (fun c_2 => ?_) (fun c_2 => ?_)
    · skip
      refine v_bipush (n := 18) (v := -101) C dX12_see_16 rfl (by decide) ?_
      exact v_iret C dX12_see_18 rfl rfl ⟨by simp only [mseT, eq_true p_1, eq_false (Int32.not_le.mpr p_1), eq_true c_2, ↓reduceIte], by simp only [mseT, eq_true p_1, eq_false (Int32.not_le.mpr p_1), eq_true c_2, ↓reduceIte]⟩
    · exact absurd c_2 (by decide)
  by_cases p_3 : (sc 25) - 1 < x
  · skip
    refine v_stk (st' := .int 0 :: []) (congrArg (fun z : Int32 => Value.int z :: []) (show mihF (sc 25) x = 0 by simp only [mihF, if_neg p_1, if_pos p_3])) ?_
    refine v_if_eq (t := 16) (n := 8) C dX12_see_5 (by decide) rfl (fun c_4 => ?_) (fun c_4 => ?_)
    · skip
      refine v_bipush (n := 18) (v := -101) C dX12_see_16 rfl (by decide) ?_
      exact v_iret C dX12_see_18 rfl rfl ⟨by simp only [mseT, eq_false p_1, eq_true (Int32.not_lt.mp p_1), eq_true p_3, eq_false (Int32.not_le.mpr p_3), eq_true c_4, ↓reduceIte], by simp only [mseT, eq_false p_1, eq_true (Int32.not_lt.mp p_1), eq_true p_3, eq_false (Int32.not_le.mpr p_3), eq_true c_4, ↓reduceIte]⟩
    · exact absurd c_4 (by decide)
  refine v_stk (st' := .int 1 :: []) (congrArg (fun z : Int32 => Value.int z :: []) (show mihF (sc 25) x = 1 by simp only [mihF, if_neg p_1, if_neg p_3])) ?_
  obtain ⟨kN, hkN, rfl⟩ := ih_k hH hH3 p_1 p_3
  have hkc : (nI kN).toNatClampNeg = kN := nI_clamp (by omega)
  refine v_if_eq (t := 16) (n := 8) C dX12_see_5 (by decide) rfl (fun c_5 => ?_) (fun c_5 => ?_)
  · exact absurd c_5 (by decide)
  · skip
    refine v_aload_n (n := 9) C dX12_see_8 rfl rfl rfl ?_
    refine v_iload_n (n := 10) C dX12_see_9 rfl rfl rfl ?_
    refine v_go (n := 13) C (vRun_V (As := [.int y]) (rest := []) C wl_c27 rfl lk_X12_101 im_X12_isCell se_X12_isCell dX12_see_10 (m_isCell l D b sc ar hn mh G y) wm_X12_isCell rfl rfl ⟨Nat.le_of_ble_eq_true rfl, Nat.le_of_ble_eq_true rfl⟩ ⟨Nat.le_of_ble_eq_true rfl, Nat.le_of_ble_eq_true rfl⟩ (Nat.le_of_ble_eq_true rfl)) rfl ?_
    rintro _ _ ⟨rfl, rfl⟩ -
    by_cases p_6 : y < 0
    · skip
      refine v_stk (st' := .int 0 :: []) (congrArg (fun z : Int32 => Value.int z :: []) (show micF (sc 21) y = 0 by simp only [micF, if_pos p_6])) ?_
      refine v_if_ne (t := 19) (n := 16) C dX12_see_13 (by decide) rfl (fun c_7 => ?_) (fun c_7 => ?_)
      · exact absurd c_7 (by decide)
      · skip
        refine v_bipush (n := 18) (v := -101) C dX12_see_16 rfl (by decide) ?_
        exact v_iret C dX12_see_18 rfl rfl ⟨by simp only [mseT, eq_false p_1, eq_true (Int32.not_lt.mp p_1), eq_false p_3, eq_true (Int32.not_lt.mp p_3), hkc, eq_false c_5, eq_true p_6, eq_false (Int32.not_le.mpr p_6), eq_true c_7, ↓reduceIte], by simp only [mseT, eq_false p_1, eq_true (Int32.not_lt.mp p_1), eq_false p_3, eq_true (Int32.not_lt.mp p_3), hkc, eq_false c_5, eq_true p_6, eq_false (Int32.not_le.mpr p_6), eq_true c_7, ↓reduceIte]⟩
    by_cases p_8 : 11 < y
    · skip
      refine v_stk (st' := .int 0 :: []) (congrArg (fun z : Int32 => Value.int z :: []) (show micF (sc 21) y = 0 by simp only [micF, if_neg p_6, if_pos p_8])) ?_
      refine v_if_ne (t := 19) (n := 16) C dX12_see_13 (by decide) rfl (fun c_9 => ?_) (fun c_9 => ?_)
      · exact absurd c_9 (by decide)
      · skip
        refine v_bipush (n := 18) (v := -101) C dX12_see_16 rfl (by decide) ?_
        exact v_iret C dX12_see_18 rfl rfl ⟨by simp only [mseT, eq_false p_1, eq_true (Int32.not_lt.mp p_1), eq_false p_3, eq_true (Int32.not_lt.mp p_3), hkc, eq_false c_5, eq_false p_6, eq_true (Int32.not_lt.mp p_6), eq_true p_8, eq_false (Int32.not_le.mpr p_8), eq_true c_9, ↓reduceIte], by simp only [mseT, eq_false p_1, eq_true (Int32.not_lt.mp p_1), eq_false p_3, eq_true (Int32.not_lt.mp p_3), hkc, eq_false c_5, eq_false p_6, eq_true (Int32.not_lt.mp p_6), eq_true p_8, eq_false (Int32.not_le.mpr p_8), eq_true c_9, ↓reduceIte]⟩
    by_cases p_10 : (sc 21) = 0
    · skip
      refine v_stk (st' := .int 0 :: []) (congrArg (fun z : Int32 => Value.int z :: []) (show micF (sc 21) y = 0 by simp only [micF, if_neg p_6, if_neg p_8, if_pos p_10])) ?_
      refine v_if_ne (t := 19) (n := 16) C dX12_see_13 (by decide) rfl (fun c_11 => ?_) (fun c_11 => ?_)
      · exact absurd c_11 (by decide)
      · skip
        refine v_bipush (n := 18) (v := -101) C dX12_see_16 rfl (by decide) ?_
        exact v_iret C dX12_see_18 rfl rfl ⟨by simp only [mseT, eq_false p_1, eq_true (Int32.not_lt.mp p_1), eq_false p_3, eq_true (Int32.not_lt.mp p_3), hkc, eq_false c_5, eq_false p_6, eq_true (Int32.not_lt.mp p_6), eq_false p_8, eq_true (Int32.not_lt.mp p_8), eq_true p_10, eq_true c_11, ↓reduceIte], by simp only [mseT, eq_false p_1, eq_true (Int32.not_lt.mp p_1), eq_false p_3, eq_true (Int32.not_lt.mp p_3), hkc, eq_false c_5, eq_false p_6, eq_true (Int32.not_lt.mp p_6), eq_false p_8, eq_true (Int32.not_lt.mp p_8), eq_true p_10, eq_true c_11, ↓reduceIte]⟩
    refine v_stk (st' := .int 1 :: []) (congrArg (fun z : Int32 => Value.int z :: []) (show micF (sc 21) y = 1 by simp only [micF, if_neg p_6, if_neg p_8, if_neg p_10])) ?_
    have hx_12 : vp_in y 12 := ic_vp p_6 p_8
    refine v_if_ne (t := 19) (n := 16) C dX12_see_13 (by decide) rfl (fun c_13 => ?_) (fun c_13 => ?_)
    · skip
      refine v_iload_n (n := 20) C dX12_see_19 rfl rfl rfl ?_
      refine v_i2l (n := 21) C dX12_see_20 rfl ?_
      refine v_lconst (n := 22) (v := 0) C dX12_see_21 rfl (by decide) ?_
      refine v_ldc2 (n := 25) C dX12_see_22 rfl kl_X12_170 ?_
      refine v_stk (st' := [.long (Int32.toInt64 40), .long (Int32.toInt64 0), .long (Int32.toInt64 z)]) rfl ?_
      refine v_go (n := 28) C (vRun_S (As := [.long (Int32.toInt64 z), .long (Int32.toInt64 0), .long (Int32.toInt64 40)]) (rest := []) C lk_X12_55 st_X12_in dX12_see_25 (c_in l D b (wl D b sc ar hn mh G) z 0 40) wm_X12_in rfl rfl ⟨Nat.le_of_ble_eq_true rfl, Nat.le_of_ble_eq_true rfl⟩ ⟨Nat.le_of_ble_eq_true rfl, Nat.le_of_ble_eq_true rfl⟩ (Nat.le_of_ble_eq_true rfl)) rfl ?_
      rintro _ _ ⟨rfl, rfl⟩ -
      by_cases p_14 : z < 0
      · skip
        refine v_stk (st' := .int 0 :: []) (congrArg (fun z : Int32 => Value.int z :: []) (show niF z 0 40 = 0 by simp only [niF, if_pos p_14])) ?_
        refine v_if_ne (t := 34) (n := 31) C dX12_see_28 (by decide) rfl (fun c_15 => ?_) (fun c_15 => ?_)
        · exact absurd c_15 (by decide)
        · skip
          refine v_bipush (n := 33) (v := -102) C dX12_see_31 rfl (by decide) ?_
          exact v_iret C dX12_see_33 rfl rfl ⟨by simp only [mseT, eq_false p_1, eq_true (Int32.not_lt.mp p_1), eq_false p_3, eq_true (Int32.not_lt.mp p_3), hkc, eq_false c_5, eq_false p_6, eq_true (Int32.not_lt.mp p_6), eq_false p_8, eq_true (Int32.not_lt.mp p_8), eq_false p_10, eq_false c_13, eq_true p_14, eq_false (Int32.not_le.mpr p_14), eq_true c_15, ↓reduceIte], by simp only [mseT, eq_false p_1, eq_true (Int32.not_lt.mp p_1), eq_false p_3, eq_true (Int32.not_lt.mp p_3), hkc, eq_false c_5, eq_false p_6, eq_true (Int32.not_lt.mp p_6), eq_false p_8, eq_true (Int32.not_lt.mp p_8), eq_false p_10, eq_false c_13, eq_true p_14, eq_false (Int32.not_le.mpr p_14), eq_true c_15, ↓reduceIte]⟩
      by_cases p_16 : 40 < z
      · skip
        refine v_stk (st' := .int 0 :: []) (congrArg (fun z : Int32 => Value.int z :: []) (show niF z 0 40 = 0 by simp only [niF, if_neg p_14, if_pos p_16])) ?_
        refine v_if_ne (t := 34) (n := 31) C dX12_see_28 (by decide) rfl (fun c_17 => ?_) (fun c_17 => ?_)
        · exact absurd c_17 (by decide)
        · skip
          refine v_bipush (n := 33) (v := -102) C dX12_see_31 rfl (by decide) ?_
          exact v_iret C dX12_see_33 rfl rfl ⟨by simp only [mseT, eq_false p_1, eq_true (Int32.not_lt.mp p_1), eq_false p_3, eq_true (Int32.not_lt.mp p_3), hkc, eq_false c_5, eq_false p_6, eq_true (Int32.not_lt.mp p_6), eq_false p_8, eq_true (Int32.not_lt.mp p_8), eq_false p_10, eq_false c_13, eq_false p_14, eq_true (Int32.not_lt.mp p_14), eq_true p_16, eq_false (Int32.not_le.mpr p_16), eq_true c_17, ↓reduceIte], by simp only [mseT, eq_false p_1, eq_true (Int32.not_lt.mp p_1), eq_false p_3, eq_true (Int32.not_lt.mp p_3), hkc, eq_false c_5, eq_false p_6, eq_true (Int32.not_lt.mp p_6), eq_false p_8, eq_true (Int32.not_lt.mp p_8), eq_false p_10, eq_false c_13, eq_false p_14, eq_true (Int32.not_lt.mp p_14), eq_true p_16, eq_false (Int32.not_le.mpr p_16), eq_true c_17, ↓reduceIte]⟩
      refine v_stk (st' := .int 1 :: []) (congrArg (fun z : Int32 => Value.int z :: []) (show niF z 0 40 = 1 by simp only [niF, if_neg p_14, if_neg p_16])) ?_
      refine v_if_ne (t := 34) (n := 31) C dX12_see_28 (by decide) rfl (fun c_18 => ?_) (fun c_18 => ?_)
      · skip
        refine v_aload_n (n := 35) C dX12_see_34 rfl rfl rfl ?_
        refine v_get (n := 38) C dX12_see_35 rfl fl_X12_81_X12 wl_c27 rfl ?_
        refine v_bipush (n := 40) (v := 6) C dX12_see_38 rfl (by decide) ?_
        refine v_icmp_ne (t := 46) (n := 43) C dX12_see_40 (by decide) rfl (fun c_19 => ?_) (fun c_19 => ?_)
        · skip
          refine v_aload_n (n := 47) C dX12_see_46 rfl rfl rfl ?_
          refine v_get (n := 50) C dX12_see_47 rfl fl_X12_31_X12 wl_c27 rfl ?_
          refine v_iconst (n := 51) (v := 3) C dX12_see_50 rfl (by decide) ?_
          refine v_aload_n (n := 52) C dX12_see_51 rfl rfl rfl ?_
          refine v_get (n := 55) C dX12_see_52 rfl fl_X12_81_X12 wl_c27 rfl ?_
          refine v_imul (n := 56) C dX12_see_55 rfl ?_
          refine v_iload_n (n := 57) C dX12_see_56 rfl rfl rfl ?_
          refine v_iast (n := 58) (es' := (wl D b sc (va_up ar 35 (upd (ar 35) (3 * Sn + 0) (nI kN))) hn mh G)) C dX12_see_57 rfl wl_c35 (s3_vp0 hS hS6 c_19) (by rw [show ((3 : Int32) * sc 28).toNatClampNeg = (3 * Sn + 0) from (s3_c0 hS hS6 c_19)]; exact (wl_a35 _)) ?_
          refine v_aload_n (n := 59) C dX12_see_58 rfl rfl rfl ?_
          refine v_get (n := 62) C dX12_see_59 rfl fl_X12_31_X12 wl_c27 rfl ?_
          refine v_iconst (n := 63) (v := 3) C dX12_see_62 rfl (by decide) ?_
          refine v_aload_n (n := 64) C dX12_see_63 rfl rfl rfl ?_
          refine v_get (n := 67) C dX12_see_64 rfl fl_X12_81_X12 wl_c27 rfl ?_
          refine v_imul (n := 68) C dX12_see_67 rfl ?_
          refine v_iconst (n := 69) (v := 1) C dX12_see_68 rfl (by decide) ?_
          refine v_iadd (n := 70) C dX12_see_69 rfl ?_
          refine v_iload_n (n := 71) C dX12_see_70 rfl rfl rfl ?_
          refine v_iast (n := 72) (es' := (wl D b sc (va_up ar 35 (upd (upd (ar 35) (3 * Sn + 0) (nI kN)) (3 * Sn + 1) y)) hn mh G)) C dX12_see_71 rfl (show (wl D b sc (va_up ar 35 (upd (ar 35) (3 * Sn + 0) (nI kN))) hn mh G)[35]? = some (.inl (D.1 13, 18, .inl (upd (ar 35) (3 * Sn + 0) (nI kN)))) from wl_c35) (s3_vp (j := 1) hS hS6 c_19 (by decide)) (by rw [show ((3 : Int32) * sc 28 + 1).toNatClampNeg = (3 * Sn + 1) from (s3_c (j := 1) hS hS6 c_19 (by decide))]; exact rfl) ?_
          refine v_aload_n (n := 73) C dX12_see_72 rfl rfl rfl ?_
          refine v_get (n := 76) C dX12_see_73 rfl fl_X12_31_X12 wl_c27 rfl ?_
          refine v_iconst (n := 77) (v := 3) C dX12_see_76 rfl (by decide) ?_
          refine v_aload_n (n := 78) C dX12_see_77 rfl rfl rfl ?_
          refine v_get (n := 81) C dX12_see_78 rfl fl_X12_81_X12 wl_c27 rfl ?_
          refine v_imul (n := 82) C dX12_see_81 rfl ?_
          refine v_iconst (n := 83) (v := 2) C dX12_see_82 rfl (by decide) ?_
          refine v_iadd (n := 84) C dX12_see_83 rfl ?_
          refine v_iload_n (n := 85) C dX12_see_84 rfl rfl rfl ?_
          refine v_iast (n := 86) (es' := (wl D b sc (va_up ar 35 (upd (upd (upd (ar 35) (3 * Sn + 0) (nI kN)) (3 * Sn + 1) y) (3 * Sn + 2) z)) hn mh G)) C dX12_see_85 rfl (show (wl D b sc (va_up ar 35 (upd (upd (ar 35) (3 * Sn + 0) (nI kN)) (3 * Sn + 1) y)) hn mh G)[35]? = some (.inl (D.1 13, 18, .inl (upd (upd (ar 35) (3 * Sn + 0) (nI kN)) (3 * Sn + 1) y))) from wl_c35) (s3_vp (j := 2) hS hS6 c_19 (by decide)) (by rw [show ((3 : Int32) * sc 28 + 2).toNatClampNeg = (3 * Sn + 2) from (s3_c (j := 2) hS hS6 c_19 (by decide))]; exact rfl) ?_
          refine v_aload_n (n := 87) C dX12_see_86 rfl rfl rfl ?_
          refine v_dup (n := 88) C dX12_see_87 rfl rfl ?_
          refine v_get (n := 91) C dX12_see_88 rfl fl_X12_81_X12 wl_c27 rfl ?_
          refine v_iconst (n := 92) (v := 1) C dX12_see_91 rfl (by decide) ?_
          refine v_iadd (n := 93) C dX12_see_92 rfl ?_
          refine v_put (n := 96) (es' := (wl D b (va_up sc 28 ((sc 28) + 1)) (va_up ar 35 (upd (upd (upd (ar 35) (3 * Sn + 0) (nI kN)) (3 * Sn + 1) y) (3 * Sn + 2) z)) hn mh G)) C dX12_see_93 rfl fl_X12_81_X12 (fp_any fp_X12_15) wl_c27 rfl rfl (Nat.le_of_ble_eq_true rfl) wl_p27_15 ?_
          refine v_aload_n (n := 97) C dX12_see_96 rfl rfl rfl ?_
          refine v_get (n := 100) C dX12_see_97 rfl fl_X12_81_X12 (show (wl D b (va_up sc 28 ((sc 28) + 1)) (va_up ar 35 (upd (upd (upd (ar 35) (3 * Sn + 0) (nI kN)) (3 * Sn + 1) y) (3 * Sn + 2) z)) hn mh G)[27]? = some (.inr (12, [.ref (b + 28), .int (sc 20), .int (sc 21), .int (sc 22), .int (sc 23), .int (sc 24), .ref (b + 29), .int (sc 25), .ref (b + 30), .ref (b + 31), .ref (b + 32), .ref (b + 33), .ref (b + 34), .int (sc 26), .int (sc 27), .int ((sc 28) + 1), .ref (b + 35), .ref (b + 36), .int (sc 29), .ref (b + 37), .int (sc 30), .int (sc 31), .int (sc 32), .int (sc 33), .int (sc 34), .ref (b + 38), .ref (b + 39), .long mh])) from wl_c27) rfl ?_
          exact v_iret C dX12_see_100 rfl rfl ⟨by simp only [mseT, eq_false p_1, eq_true (Int32.not_lt.mp p_1), eq_false p_3, eq_true (Int32.not_lt.mp p_3), hkc, eq_false c_5, eq_false p_6, eq_true (Int32.not_lt.mp p_6), eq_false p_8, eq_true (Int32.not_lt.mp p_8), eq_false p_10, eq_false c_13, eq_false p_14, eq_true (Int32.not_lt.mp p_14), eq_false p_16, eq_true (Int32.not_lt.mp p_16), eq_false c_18, eq_false c_19, ↓reduceIte], by simp only [mseT, eq_false p_1, eq_true (Int32.not_lt.mp p_1), eq_false p_3, eq_true (Int32.not_lt.mp p_3), hkc, eq_false c_5, eq_false p_6, eq_true (Int32.not_lt.mp p_6), eq_false p_8, eq_true (Int32.not_lt.mp p_8), eq_false p_10, eq_false c_13, eq_false p_14, eq_true (Int32.not_lt.mp p_14), eq_false p_16, eq_true (Int32.not_lt.mp p_16), eq_false c_18, eq_false c_19, ↓reduceIte]⟩
        · skip
          refine v_bipush (n := 45) (v := -104) C dX12_see_43 rfl (by decide) ?_
          exact v_iret C dX12_see_45 rfl rfl ⟨by simp only [mseT, eq_false p_1, eq_true (Int32.not_lt.mp p_1), eq_false p_3, eq_true (Int32.not_lt.mp p_3), hkc, eq_false c_5, eq_false p_6, eq_true (Int32.not_lt.mp p_6), eq_false p_8, eq_true (Int32.not_lt.mp p_8), eq_false p_10, eq_false c_13, eq_false p_14, eq_true (Int32.not_lt.mp p_14), eq_false p_16, eq_true (Int32.not_lt.mp p_16), eq_false c_18, eq_true c_19, ↓reduceIte], by simp only [mseT, eq_false p_1, eq_true (Int32.not_lt.mp p_1), eq_false p_3, eq_true (Int32.not_lt.mp p_3), hkc, eq_false c_5, eq_false p_6, eq_true (Int32.not_lt.mp p_6), eq_false p_8, eq_true (Int32.not_lt.mp p_8), eq_false p_10, eq_false c_13, eq_false p_14, eq_true (Int32.not_lt.mp p_14), eq_false p_16, eq_true (Int32.not_lt.mp p_16), eq_false c_18, eq_true c_19, ↓reduceIte]⟩
      · exact absurd c_18 (by decide)
    · exact absurd c_13 (by decide)
