def mcutF (sc : Nat → Int32) : Int32 := if sc 21 = 0 then 0 else mcoN (sc 21) (sc 22) 12
def mctF (sc : Nat → Int32) (ar : Nat → Nat → Int32) (Hn : Nat) (w : Int32) : Int32 := if w = 0 then sc 21 else if w = 1 then mcutF sc else if w = 2 then sc 25 else if w = 3 then mstN sc ar Hn else if w = 4 then sc 22 else if w = 5 then sc 23 else
  if w = 6 then sc 28 else if w = 7 then sc 20 else if w = 8 then sc 24 else -102
theorem s3_vp {s : Int32} {Sn j : Nat} (hS : s = nI Sn) (hS6 : Sn ≤ 6) (hne : ¬ s = 6) (hj : j < 3) : vp_in ((3 : Int32) * s + nI j) 18 := by
  have h6 : ¬ Sn = 6 := fun q => hne (by rw [hS, q]; rfl)
  have e : (3 : Int32) * nI Sn + nI j = nI (3 * Sn + j) := by
    unfold nI
    rw [Int32.ofNat_add, Int32.ofNat_mul]
    rfl
  rw [hS, e]
  exact vp_in_nI (by omega) (by decide)
theorem s3_vp0 {s : Int32} {Sn : Nat} (hS : s = nI Sn) (hS6 : Sn ≤ 6) (hne : ¬ s = 6) : vp_in ((3 : Int32) * s) 18 := by
  have h := s3_vp (j := 0) hS hS6 hne (by decide)
  rwa [show nI 0 = 0 from rfl, Int32.add_zero] at h
theorem h4_vp {s : Int32} {Hn j : Nat} (hH : s = nI Hn) (hH3 : Hn ≤ 3) (hne : ¬ s = 3) (hj : j < 4) : vp_in ((4 : Int32) * s + nI j) 12 := by
  have h6 : ¬ Hn = 3 := fun q => hne (by rw [hH, q]; rfl)
  rw [hH]
  exact rw_vp (by omega) hj
theorem h4_vp0 {s : Int32} {Hn : Nat} (hH : s = nI Hn) (hH3 : Hn ≤ 3) (hne : ¬ s = 3) : vp_in ((4 : Int32) * s) 12 := by
  have h6 : ¬ Hn = 3 := fun q => hne (by rw [hH, q]; rfl)
  rw [hH]
  exact rw_vp0 (by omega)
def mhuS (sc : Nat → Int32) (ar : Nat → Nat → Int32) (w x c : Int32) : Int32 × (Nat → Int32) × (Nat → Nat → Int32) := if w < 0 then (-102, sc, ar) else if 4 < w then (-102, sc, ar) else if x < 1 then (-102, sc, ar) else if 9 < x then (-102, sc, ar) else
  if c < 0 then (-101, sc, ar) else if 11 < c then (-101, sc, ar) else if sc 21 = 0 then (-101, sc, ar) else if sc 25 = 3 then (-104, sc, ar) else
  (sc 25 + 1 - 1, va_up sc 25 (sc 25 + 1), va_up ar 30 (upd (upd (upd (upd (ar 30) ((4 : Int32) * sc 25).toNatClampNeg w) ((4 : Int32) * sc 25 + 1).toNatClampNeg x) ((4 : Int32) * sc 25 + 2).toNatClampNeg c) ((4 : Int32) * sc 25 + 3).toNatClampNeg 0))
def mfu2 (ar : Nat → Nat → Int32) (Pn : Nat) (v : Int32) : Prop := (∃ i, i < Pn ∧ v = nI i ∧ igF (nI i) (ar 28 i) = 0 ∧ ∀ j, j < i → ¬ igF (nI j) (ar 28 j) = 0) ∨ (v = nI Pn ∧ ∀ j, j < Pn → ¬ igF (nI j) (ar 28 j) = 0)
set_option maxHeartbeats 4000000 in
set_option maxRecDepth 100000 in
theorem m_cutMany (l : Launch) (D : va_G) (b : Nat) (sc : Nat → Int32) (ar : Nat → Nat → Int32) (hn : Nat → Option Nat) (mh : Int64) (G : List va_E)  : Con l yX12_cutMany cX12_cutMany 3 (some .int) 1 20 D b 0 0 (wl D b sc ar hn mh G) [.ref (b + 27)] (fun r es' => r = some (.int (mcutF sc)) ∧ (wl D b sc ar hn mh G) = es') := by
  refine con_of (by decide) (Nat.le_of_ble_eq_true rfl) (fun p e s m args below meth c C hsz => ?_)
  have C : vC p s m args meth c cX12_cutMany 3 RX12 "cutMany" (some .int) D b := C
  change V p l e _ s m args below meth c D b 3 _ 0 0 (wl D b sc ar hn mh G) [(0, .ref (b + 27))] [] 0
  refine v_iconst (n := 1) (v := 0) C dX12_cutMany_0 rfl (by decide) ?_
  refine v_istore_n (n := 2) (lv' := [(1, .int 0), (0, .ref (b + 27))]) C dX12_cutMany_1 rfl rfl (Nat.le_of_ble_eq_true rfl) rfl ?_
  refine v_iconst (n := 3) (v := 0) C dX12_cutMany_2 rfl (by decide) ?_
  refine v_istore_n (n := 4) (lv' := [(2, .int 0), (1, .int 0), (0, .ref (b + 27))]) C dX12_cutMany_3 rfl rfl (Nat.le_of_ble_eq_true rfl) rfl ?_
  refine v_pick (lv' := [(2, .int 0), (0, .ref (b + 27)), (1, .int 0)]) [0, 2, 1] rfl ?_
  have e_1 : (0 : Int32) = (nI 0) := rfl
  have e_2 : (0 : Int32) = (mcoN (sc 21) (sc 22) 0) := by first | (rw [mcoN]; done) | (rw [mcoN]; simp only []; done) | (rw [mcoN]; simp only [↓reduceIte]; done) | (rw [mcoN]; simp only [↓reduceIte] <;> rfl) | rfl | (rw [mcoN]; simp []; done)
  refine v_cong (es' := (wl D b sc ar hn mh G)) (lv' := [(2, .int (nI 0)), (0, .ref (b + 27)), (1, .int (mcoN (sc 21) (sc 22) 0))]) rfl (cg2 (fun (z0 : Int32) (z1 : Int32) => ([(2, .int z0), (0, .ref (b + 27)), (1, .int z1)] : List (Nat × Value))) e_1 e_2) ?_
  refine loop_dn (P := fun i_4 => (i_4 = 0 ∨ ¬ sc 21 = 0) → V p l e { frames := 1, cells := 0, slots := 0, locals := 20 } s m args below meth c D b 3 (MQ below (cQ D b 0 (fun r es' => r = some (.int (mcutF sc)) ∧ (wl D b sc ar hn mh G) = es')) args s 0 0 (fun q => b ≤ q)) 0 0 (wl D b sc ar hn mh G) [(2, .int (nI i_4)), (0, .ref (b + 27)), (1, .int (mcoN (sc 21) (sc 22) i_4))] [] 4) 12 ?_ (fun i_4 hi_4 ih_4 => ?_) (Or.inl rfl)
  · skip
    intro hp_4
    have g_3 : (12 : Int32) ≤ (nI 12) := by decide
    refine v_iload_n (n := 5) C dX12_cutMany_4 rfl rfl rfl ?_
    refine v_bipush (n := 7) (v := 12) C dX12_cutMany_5 rfl (by decide) ?_
    refine v_icmp_ge (t := 46) (n := 10) C dX12_cutMany_7 (by decide) rfl (fun c_4 => ?_) (fun c_4 => ?_)
    · skip
      refine v_iload_n (n := 47) C dX12_cutMany_46 rfl rfl rfl ?_
      exact v_iret C dX12_cutMany_47 rfl rfl ⟨by rw [mcutF, if_neg (hp_4.elim (fun h => absurd h (by decide)) id)], rfl⟩
    · first | exact absurd c_4 g_3 | exact absurd g_3 c_4 | exact absurd c_4 (Int32.not_le.mpr g_3) | exact absurd c_4 (Int32.not_lt.mpr g_3) | exact absurd (Int32.not_le.mp g_3) c_4 | exact absurd (Int32.not_lt.mp g_3) c_4 | exact absurd (Int32.not_le.mp g_3) (Int32.not_lt.mpr c_4) | exact absurd (Int32.not_lt.mp g_3) (Int32.not_le.mpr c_4) | exact absurd (Int32.not_lt.mp c_4) (Int32.not_le.mpr (Int32.not_le.mp g_3))
  · skip
    intro hp_4
    have g_5 : ¬ (12 : Int32) ≤ (nI i_4) := nI_ge (a := i_4 + 0) (b := 12) (by omega) (by decide)
    refine v_iload_n (n := 5) C dX12_cutMany_4 rfl rfl rfl ?_
    refine v_bipush (n := 7) (v := 12) C dX12_cutMany_5 rfl (by decide) ?_
    refine v_icmp_ge (t := 46) (n := 10) C dX12_cutMany_7 (by decide) rfl (fun c_6 => ?_) (fun c_6 => ?_)
    · first | exact absurd c_6 g_5 | exact absurd g_5 c_6 | exact absurd c_6 (Int32.not_le.mpr g_5) | exact absurd c_6 (Int32.not_lt.mpr g_5) | exact absurd (Int32.not_le.mp g_5) c_6 | exact absurd (Int32.not_lt.mp g_5) c_6 | exact absurd (Int32.not_le.mp g_5) (Int32.not_lt.mpr c_6) | exact absurd (Int32.not_lt.mp g_5) (Int32.not_le.mpr c_6) | exact absurd (Int32.not_lt.mp c_6) (Int32.not_le.mpr (Int32.not_le.mp g_5))
    · skip
      refine v_aload_n (n := 11) C dX12_cutMany_10 rfl rfl rfl ?_
      refine v_go (n := 14) C (vRun_V (As := []) (rest := []) C wl_c27 rfl lk_X12_89 im_X12_lacks se_X12_lacks dX12_cutMany_11 (m_lacks l D b sc ar hn mh G) wm_X12_lacks rfl rfl ⟨Nat.le_of_ble_eq_true rfl, Nat.le_of_ble_eq_true rfl⟩ ⟨Nat.le_of_ble_eq_true rfl, Nat.le_of_ble_eq_true rfl⟩ (Nat.le_of_ble_eq_true rfl)) rfl ?_
      rintro _ _ ⟨rfl, rfl⟩ -
      by_cases p_7 : (sc 21) = 0
      · skip
        refine v_stk (st' := .int 1 :: []) (congrArg (fun z : Int32 => Value.int z :: []) (show mlaF (sc 21) = 1 by simp only [mlaF, if_pos p_7])) ?_
        refine v_if_ne (t := 46) (n := 17) C dX12_cutMany_14 (by decide) rfl (fun c_8 => ?_) (fun c_8 => ?_)
        · skip
          refine v_iload_n (n := 47) C dX12_cutMany_46 rfl rfl rfl ?_
          exact v_iret C dX12_cutMany_47 rfl rfl ⟨by rw [mcutF, if_pos p_7]; exact hp_4.elim (fun h => by rw [h]; rfl) (fun h => absurd p_7 h), rfl⟩
        · exact absurd c_8 (by decide)
      refine v_stk (st' := .int 0 :: []) (congrArg (fun z : Int32 => Value.int z :: []) (show mlaF (sc 21) = 0 by simp only [mlaF, if_neg p_7])) ?_
      refine v_if_ne (t := 46) (n := 17) C dX12_cutMany_14 (by decide) rfl (fun c_9 => ?_) (fun c_9 => ?_)
      · exact absurd c_9 (by decide)
      · skip
        refine v_iload_n (n := 18) C dX12_cutMany_17 rfl rfl rfl ?_
        refine v_aload_n (n := 19) C dX12_cutMany_18 rfl rfl rfl ?_
        refine v_get (n := 22) C dX12_cutMany_19 rfl fl_X12_75_X12 wl_c27 rfl ?_
        refine v_aload_n (n := 23) C dX12_cutMany_22 rfl rfl rfl ?_
        refine v_get (n := 26) C dX12_cutMany_23 rfl fl_X12_72_X12 wl_c27 rfl ?_
        refine v_iload_n (n := 27) C dX12_cutMany_26 rfl rfl rfl ?_
        refine v_iconst (n := 28) (v := 1) C dX12_cutMany_27 rfl (by decide) ?_
        refine v_iadd (n := 29) C dX12_cutMany_28 rfl ?_
        refine v_imul (n := 30) C dX12_cutMany_29 rfl ?_
        refine v_icmp_lt (t := 37) (n := 33) C dX12_cutMany_30 (by decide) rfl (fun c_10 => ?_) (fun c_10 => ?_)
        · skip
          refine v_iconst (n := 38) (v := 0) C dX12_cutMany_37 rfl (by decide) ?_
          refine v_iadd (n := 39) C dX12_cutMany_38 rfl ?_
          refine v_istore_n (n := 40) (lv' := [(1, .int ((mcoN (sc 21) (sc 22) i_4) + 0)), (2, .int (nI i_4)), (0, .ref (b + 27))]) C dX12_cutMany_39 rfl rfl (Nat.le_of_ble_eq_true rfl) rfl ?_
          refine v_iinc (n := 43) (v := ((nI i_4) + 1)) (lv' := [(2, .int ((nI i_4) + 1)), (1, .int ((mcoN (sc 21) (sc 22) i_4) + 0)), (0, .ref (b + 27))]) C dX12_cutMany_40 rfl rfl rfl (Nat.le_of_ble_eq_true rfl) rfl ?_
          refine v_goto (t := 4) C dX12_cutMany_43 (by decide) ?_
          refine v_pick (lv' := [(2, .int ((nI i_4) + 1)), (0, .ref (b + 27)), (1, .int ((mcoN (sc 21) (sc 22) i_4) + 0))]) [0, 2, 1] rfl ?_
          have e_11 : ((nI i_4) + 1) = (nI (i_4 + 1)) := nI_1 _
          have e_12 : (((mcoN (sc 21) (sc 22) i_4) + 0) : Int32) = (mcoN (sc 21) (sc 22) (i_4 + 1)) := by first | (rw [mcoN]; done) | (rw [mcoN]; simp only [if_neg g_5, if_pos (Int32.not_le.mp g_5), if_neg c_6, if_pos (Int32.not_le.mp c_6), if_neg p_7, if_pos c_9, if_pos c_10, if_neg (Int32.not_le.mpr c_10)]; done) | (rw [mcoN]; simp only [eq_false g_5, eq_true (Int32.not_le.mp g_5), eq_false c_6, eq_true (Int32.not_le.mp c_6), eq_false p_7, eq_true c_9, eq_true c_10, eq_false (Int32.not_le.mpr c_10), ↓reduceIte]; done) | (rw [mcoN]; simp only [eq_false g_5, eq_true (Int32.not_le.mp g_5), eq_false c_6, eq_true (Int32.not_le.mp c_6), eq_false p_7, eq_true c_9, eq_true c_10, eq_false (Int32.not_le.mpr c_10), ↓reduceIte] <;> rfl) | rfl | (rw [mcoN]; simp [g_5, c_6, p_7, c_9, c_10]; done)
          refine v_cong (es' := (wl D b sc ar hn mh G)) (lv' := [(2, .int (nI (i_4 + 1))), (0, .ref (b + 27)), (1, .int (mcoN (sc 21) (sc 22) (i_4 + 1)))]) rfl (cg2 (fun (z0 : Int32) (z1 : Int32) => ([(2, .int z0), (0, .ref (b + 27)), (1, .int z1)] : List (Nat × Value))) e_11 e_12) ?_
          exact ih_4 (Or.inr p_7)
        · skip
          refine v_iconst (n := 34) (v := 1) C dX12_cutMany_33 rfl (by decide) ?_
          refine v_goto (t := 38) C dX12_cutMany_34 (by decide) ?_
          refine v_iadd (n := 39) C dX12_cutMany_38 rfl ?_
          refine v_istore_n (n := 40) (lv' := [(1, .int ((mcoN (sc 21) (sc 22) i_4) + 1)), (2, .int (nI i_4)), (0, .ref (b + 27))]) C dX12_cutMany_39 rfl rfl (Nat.le_of_ble_eq_true rfl) rfl ?_
          refine v_iinc (n := 43) (v := ((nI i_4) + 1)) (lv' := [(2, .int ((nI i_4) + 1)), (1, .int ((mcoN (sc 21) (sc 22) i_4) + 1)), (0, .ref (b + 27))]) C dX12_cutMany_40 rfl rfl rfl (Nat.le_of_ble_eq_true rfl) rfl ?_
          refine v_goto (t := 4) C dX12_cutMany_43 (by decide) ?_
          refine v_pick (lv' := [(2, .int ((nI i_4) + 1)), (0, .ref (b + 27)), (1, .int ((mcoN (sc 21) (sc 22) i_4) + 1))]) [0, 2, 1] rfl ?_
          have e_13 : ((nI i_4) + 1) = (nI (i_4 + 1)) := nI_1 _
          have e_14 : (((mcoN (sc 21) (sc 22) i_4) + 1) : Int32) = (mcoN (sc 21) (sc 22) (i_4 + 1)) := by first | (rw [mcoN]; done) | (rw [mcoN]; simp only [if_neg g_5, if_pos (Int32.not_le.mp g_5), if_neg c_6, if_pos (Int32.not_le.mp c_6), if_neg p_7, if_pos c_9, if_neg c_10, if_pos (Int32.not_lt.mp c_10)]; done) | (rw [mcoN]; simp only [eq_false g_5, eq_true (Int32.not_le.mp g_5), eq_false c_6, eq_true (Int32.not_le.mp c_6), eq_false p_7, eq_true c_9, eq_false c_10, eq_true (Int32.not_lt.mp c_10), ↓reduceIte]; done) | (rw [mcoN]; simp only [eq_false g_5, eq_true (Int32.not_le.mp g_5), eq_false c_6, eq_true (Int32.not_le.mp c_6), eq_false p_7, eq_true c_9, eq_false c_10, eq_true (Int32.not_lt.mp c_10), ↓reduceIte] <;> rfl) | rfl | (rw [mcoN]; simp [g_5, c_6, p_7, c_9, c_10]; done)
          refine v_cong (es' := (wl D b sc ar hn mh G)) (lv' := [(2, .int (nI (i_4 + 1))), (0, .ref (b + 27)), (1, .int (mcoN (sc 21) (sc 22) (i_4 + 1)))]) rfl (cg2 (fun (z0 : Int32) (z1 : Int32) => ([(2, .int z0), (0, .ref (b + 27)), (1, .int z1)] : List (Nat × Value))) e_13 e_14) ?_
          exact ih_4 (Or.inr p_7)
set_option maxHeartbeats 4000000 in
set_option maxRecDepth 100000 in
theorem m_countOf (l : Launch) (D : va_G) (b : Nat) (sc : Nat → Int32) (ar : Nat → Nat → Int32) (hn : Nat → Option Nat) (mh : Int64) (G : List va_E) (w : Int32) (Hn : Nat) (hH : sc 25 = nI Hn) (hH3 : Hn ≤ 3) (hrc : ∀ k, k < Hn → vp_in (ar 30 (4 * k + 2)) 12) : Con l yX12_countOf cX12_countOf 2 (some .int) 4 92 D b 0 0 (wl D b sc ar hn mh G) [.ref (b + 27), .int w] (fun r es' => r = some (.int (mctF sc ar Hn w)) ∧ (wl D b sc ar hn mh G) = es') := by
  refine con_of (by decide) (Nat.le_of_ble_eq_true rfl) (fun p e s m args below meth c C hsz => ?_)
  have C : vC p s m args meth c cX12_countOf 2 RX12 "countOf" (some .int) D b := C
  change V p l e _ s m args below meth c D b 2 _ 0 0 (wl D b sc ar hn mh G) [(0, .ref (b + 27)), (1, .int w)] [] 0
  refine v_iload_n (n := 1) C dX12_countOf_0 rfl rfl rfl ?_
  by_cases c_10 : w = 0
  · refine v_tableIn (t := 52) C dX12_countOf_1 (by rw [c_10]; decide) (by rw [c_10]; decide) (by rw [c_10]; rfl) (by decide) ?_
    refine v_aload_n (n := 53) C dX12_countOf_52 rfl rfl rfl ?_
    refine v_get (n := 56) C dX12_countOf_53 rfl fl_X12_72_X12 wl_c27 rfl ?_
    exact v_iret C dX12_countOf_56 rfl rfl ⟨by first | rfl | (simp only [mctF, if_pos c_10]; done) | (simp only [mctF, eq_true c_10, ↓reduceIte]; done) | (simp only [mctF, eq_true c_10, ↓reduceIte] <;> rfl) | (simp [mctF, c_10]; done), rfl⟩
  by_cases c_11 : w = 1
  · refine v_tableIn (t := 57) C dX12_countOf_1 (by rw [c_11]; decide) (by rw [c_11]; decide) (by rw [c_11]; rfl) (by decide) ?_
    refine v_aload_n (n := 58) C dX12_countOf_57 rfl rfl rfl ?_
    refine v_go (n := 61) C (vRun_V (As := []) (rest := []) C wl_c27 rfl lk_X12_215 im_X12_cutMany se_X12_cutMany dX12_countOf_58 (m_cutMany l D b sc ar hn mh G) wm_X12_cutMany rfl rfl ⟨Nat.le_of_ble_eq_true rfl, Nat.le_of_ble_eq_true rfl⟩ ⟨Nat.le_of_ble_eq_true rfl, Nat.le_of_ble_eq_true rfl⟩ (Nat.le_of_ble_eq_true rfl)) rfl ?_
    rintro _ _ ⟨rfl, rfl⟩ -
    exact v_iret C dX12_countOf_61 rfl rfl ⟨by first | rfl | (simp only [mctF, if_neg c_10, if_pos c_11]; done) | (simp only [mctF, eq_false c_10, eq_true c_11, ↓reduceIte]; done) | (simp only [mctF, eq_false c_10, eq_true c_11, ↓reduceIte] <;> rfl) | (simp [mctF, c_10, c_11]; done), rfl⟩
  by_cases c_12 : w = 2
  · refine v_tableIn (t := 62) C dX12_countOf_1 (by rw [c_12]; decide) (by rw [c_12]; decide) (by rw [c_12]; rfl) (by decide) ?_
    refine v_aload_n (n := 63) C dX12_countOf_62 rfl rfl rfl ?_
    refine v_get (n := 66) C dX12_countOf_63 rfl fl_X12_78_X12 wl_c27 rfl ?_
    exact v_iret C dX12_countOf_66 rfl rfl ⟨by first | rfl | (simp only [mctF, if_neg c_10, if_neg c_11, if_pos c_12]; done) | (simp only [mctF, eq_false c_10, eq_false c_11, eq_true c_12, ↓reduceIte]; done) | (simp only [mctF, eq_false c_10, eq_false c_11, eq_true c_12, ↓reduceIte] <;> rfl) | (simp [mctF, c_10, c_11, c_12]; done), rfl⟩
  by_cases c_13 : w = 3
  · refine v_tableIn (t := 67) C dX12_countOf_1 (by rw [c_13]; decide) (by rw [c_13]; decide) (by rw [c_13]; rfl) (by decide) ?_
    refine v_aload_n (n := 68) C dX12_countOf_67 rfl rfl rfl ?_
    refine v_go (n := 71) C (vRun_V (As := []) (rest := []) C wl_c27 rfl lk_X12_200 im_X12_strandedMany se_X12_strandedMany dX12_countOf_68 (m_strandedMany l D b sc ar hn mh G Hn hH hH3 hrc) wm_X12_strandedMany rfl rfl ⟨Nat.le_of_ble_eq_true rfl, Nat.le_of_ble_eq_true rfl⟩ ⟨Nat.le_of_ble_eq_true rfl, Nat.le_of_ble_eq_true rfl⟩ (Nat.le_of_ble_eq_true rfl)) rfl ?_
    rintro _ _ ⟨rfl, rfl⟩ -
    exact v_iret C dX12_countOf_71 rfl rfl ⟨by first | rfl | (simp only [mctF, if_neg c_10, if_neg c_11, if_neg c_12, if_pos c_13]; done) | (simp only [mctF, eq_false c_10, eq_false c_11, eq_false c_12, eq_true c_13, ↓reduceIte]; done) | (simp only [mctF, eq_false c_10, eq_false c_11, eq_false c_12, eq_true c_13, ↓reduceIte] <;> rfl) | (simp [mctF, c_10, c_11, c_12, c_13]; done), rfl⟩
  by_cases c_14 : w = 4
  · refine v_tableIn (t := 72) C dX12_countOf_1 (by rw [c_14]; decide) (by rw [c_14]; decide) (by rw [c_14]; rfl) (by decide) ?_
    refine v_aload_n (n := 73) C dX12_countOf_72 rfl rfl rfl ?_
    refine v_get (n := 76) C dX12_countOf_73 rfl fl_X12_75_X12 wl_c27 rfl ?_
    exact v_iret C dX12_countOf_76 rfl rfl ⟨by first | rfl | (simp only [mctF, if_neg c_10, if_neg c_11, if_neg c_12, if_neg c_13, if_pos c_14]; done) | (simp only [mctF, eq_false c_10, eq_false c_11, eq_false c_12, eq_false c_13, eq_true c_14, ↓reduceIte]; done) | (simp only [mctF, eq_false c_10, eq_false c_11, eq_false c_12, eq_false c_13, eq_true c_14, ↓reduceIte] <;> rfl) | (simp [mctF, c_10, c_11, c_12, c_13, c_14]; done), rfl⟩
  by_cases c_15 : w = 5
  · refine v_tableIn (t := 77) C dX12_countOf_1 (by rw [c_15]; decide) (by rw [c_15]; decide) (by rw [c_15]; rfl) (by decide) ?_
    refine v_aload_n (n := 78) C dX12_countOf_77 rfl rfl rfl ?_
    refine v_get (n := 81) C dX12_countOf_78 rfl fl_X12_50_X12 wl_c27 rfl ?_
    exact v_iret C dX12_countOf_81 rfl rfl ⟨by first | rfl | (simp only [mctF, if_neg c_10, if_neg c_11, if_neg c_12, if_neg c_13, if_neg c_14, if_pos c_15]; done) | (simp only [mctF, eq_false c_10, eq_false c_11, eq_false c_12, eq_false c_13, eq_false c_14, eq_true c_15, ↓reduceIte]; done) | (simp only [mctF, eq_false c_10, eq_false c_11, eq_false c_12, eq_false c_13, eq_false c_14, eq_true c_15, ↓reduceIte] <;> rfl) | (simp [mctF, c_10, c_11, c_12, c_13, c_14, c_15]; done), rfl⟩
  by_cases c_16 : w = 6
  · refine v_tableIn (t := 82) C dX12_countOf_1 (by rw [c_16]; decide) (by rw [c_16]; decide) (by rw [c_16]; rfl) (by decide) ?_
    refine v_aload_n (n := 83) C dX12_countOf_82 rfl rfl rfl ?_
    refine v_get (n := 86) C dX12_countOf_83 rfl fl_X12_81_X12 wl_c27 rfl ?_
    exact v_iret C dX12_countOf_86 rfl rfl ⟨by first | rfl | (simp only [mctF, if_neg c_10, if_neg c_11, if_neg c_12, if_neg c_13, if_neg c_14, if_neg c_15, if_pos c_16]; done) | (simp only [mctF, eq_false c_10, eq_false c_11, eq_false c_12, eq_false c_13, eq_false c_14, eq_false c_15, eq_true c_16, ↓reduceIte]; done) | (simp only [mctF, eq_false c_10, eq_false c_11, eq_false c_12, eq_false c_13, eq_false c_14, eq_false c_15, eq_true c_16, ↓reduceIte] <;> rfl) | (simp [mctF, c_10, c_11, c_12, c_13, c_14, c_15, c_16]; done), rfl⟩
  by_cases c_17 : w = 7
  · refine v_tableIn (t := 87) C dX12_countOf_1 (by rw [c_17]; decide) (by rw [c_17]; decide) (by rw [c_17]; rfl) (by decide) ?_
    refine v_aload_n (n := 88) C dX12_countOf_87 rfl rfl rfl ?_
    refine v_get (n := 91) C dX12_countOf_88 rfl fl_X12_59_X12 wl_c27 rfl ?_
    exact v_iret C dX12_countOf_91 rfl rfl ⟨by first | rfl | (simp only [mctF, if_neg c_10, if_neg c_11, if_neg c_12, if_neg c_13, if_neg c_14, if_neg c_15, if_neg c_16, if_pos c_17]; done) | (simp only [mctF, eq_false c_10, eq_false c_11, eq_false c_12, eq_false c_13, eq_false c_14, eq_false c_15, eq_false c_16, eq_true c_17, ↓reduceIte]; done) | (simp only [mctF, eq_false c_10, eq_false c_11, eq_false c_12, eq_false c_13, eq_false c_14, eq_false c_15, eq_false c_16, eq_true c_17, ↓reduceIte] <;> rfl) | (simp [mctF, c_10, c_11, c_12, c_13, c_14, c_15, c_16, c_17]; done), rfl⟩
  by_cases c_18 : w = 8
  · refine v_tableIn (t := 92) C dX12_countOf_1 (by rw [c_18]; decide) (by rw [c_18]; decide) (by rw [c_18]; rfl) (by decide) ?_
    refine v_aload_n (n := 93) C dX12_countOf_92 rfl rfl rfl ?_
    refine v_get (n := 96) C dX12_countOf_93 rfl fl_X12_84_X12 wl_c27 rfl ?_
    exact v_iret C dX12_countOf_96 rfl rfl ⟨by first | rfl | (simp only [mctF, if_neg c_10, if_neg c_11, if_neg c_12, if_neg c_13, if_neg c_14, if_neg c_15, if_neg c_16, if_neg c_17, if_pos c_18]; done) | (simp only [mctF, eq_false c_10, eq_false c_11, eq_false c_12, eq_false c_13, eq_false c_14, eq_false c_15, eq_false c_16, eq_false c_17, eq_true c_18, ↓reduceIte]; done) | (simp only [mctF, eq_false c_10, eq_false c_11, eq_false c_12, eq_false c_13, eq_false c_14, eq_false c_15, eq_false c_16, eq_false c_17, eq_true c_18, ↓reduceIte] <;> rfl) | (simp [mctF, c_10, c_11, c_12, c_13, c_14, c_15, c_16, c_17, c_18]; done), rfl⟩
  refine v_tableOut (t := 97) C dX12_countOf_1 (sw_out9 c_10 c_11 c_12 c_13 c_14 c_15 c_16 c_17 c_18) (by decide) ?_
  refine v_bipush (n := 99) (v := -102) C dX12_countOf_97 rfl (by decide) ?_
  exact v_iret C dX12_countOf_99 rfl rfl ⟨by first | rfl | (simp only [mctF, if_neg c_10, if_neg c_11, if_neg c_12, if_neg c_13, if_neg c_14, if_neg c_15, if_neg c_16, if_neg c_17, if_neg c_18]; done) | (simp only [mctF, eq_false c_10, eq_false c_11, eq_false c_12, eq_false c_13, eq_false c_14, eq_false c_15, eq_false c_16, eq_false c_17, eq_false c_18, ↓reduceIte]; done) | (simp only [mctF, eq_false c_10, eq_false c_11, eq_false c_12, eq_false c_13, eq_false c_14, eq_false c_15, eq_false c_16, eq_false c_17, eq_false c_18, ↓reduceIte] <;> rfl) | (simp [mctF, c_10, c_11, c_12, c_13, c_14, c_15, c_16, c_17, c_18]; done), rfl⟩
set_option maxHeartbeats 4000000 in
set_option maxRecDepth 100000 in
theorem m_count (l : Launch) (D : va_G) (b : Nat) (sc : Nat → Int32) (ar : Nat → Nat → Int32) (hn : Nat → Option Nat) (mh : Int64) (G : List va_E) (w : Int32) (Hn : Nat) (hH : sc 25 = nI Hn) (hH3 : Hn ≤ 3) (hrc : ∀ k, k < Hn → vp_in (ar 30 (4 * k + 2)) 12) : Con l yX12_count cX12_count 2 (some .int) 5 113 D b 0 0 (wl D b sc ar hn mh G) [.ref (b + 27), .int w] (fun r es' => r = some (.int (mctF sc ar Hn w)) ∧ (wl D b sc ar hn mh G) = es') := by
  refine con_of (by decide) (Nat.le_of_ble_eq_true rfl) (fun p e s m args below meth c C hsz => ?_)
  have C : vC p s m args meth c cX12_count 2 RX12 "count" (some .int) D b := C
  change V p l e _ s m args below meth c D b 2 _ 0 0 (wl D b sc ar hn mh G) [(0, .ref (b + 27)), (1, .int w)] [] 0
  refine v_aload_n (n := 1) C dX12_count_0 rfl rfl rfl ?_
  refine v_iload_n (n := 2) C dX12_count_1 rfl rfl rfl ?_
  refine v_go (n := 5) C (vRun_V (As := [.int w]) (rest := []) C wl_c27 rfl lk_X12_218 im_X12_countOf se_X12_countOf dX12_count_2 (m_countOf l D b sc ar hn mh G w Hn hH hH3 hrc) wm_X12_countOf rfl rfl ⟨Nat.le_of_ble_eq_true rfl, Nat.le_of_ble_eq_true rfl⟩ ⟨Nat.le_of_ble_eq_true rfl, Nat.le_of_ble_eq_true rfl⟩ (Nat.le_of_ble_eq_true rfl)) rfl ?_
  rintro _ _ ⟨rfl, rfl⟩ -
  exact v_iret C dX12_count_5 rfl rfl ⟨by first | rfl | (simp only []; done) | (simp only [↓reduceIte]; done) | (simp only [↓reduceIte] <;> rfl) | (simp []; done), rfl⟩
set_option maxHeartbeats 4000000 in
set_option maxRecDepth 100000 in
theorem m_faultOf (l : Launch) (D : va_G) (b : Nat) (sc : Nat → Int32) (ar : Nat → Nat → Int32) (hn : Nat → Option Nat) (mh : Int64) (G : List va_E) (Pn : Nat) (hP : sc 20 = nI Pn) (hP18 : Pn ≤ 18) : Con l yX12_faultOf cX12_faultOf 2 (some .int) 2 46 D b 0 0 (wl D b sc ar hn mh G) [.ref (b + 27)] (fun r es' => ∃ v, r = some (.int v) ∧ mfu2 ar Pn v ∧ wl D b sc ar hn mh G = es') := by
  refine con_of (by decide) (Nat.le_of_ble_eq_true rfl) (fun p e s m args below meth c C hsz => ?_)
  have C : vC p s m args meth c cX12_faultOf 2 RX12 "faultOf" (some .int) D b := C
  change V p l e _ s m args below meth c D b 2 _ 0 0 (wl D b sc ar hn mh G) [(0, .ref (b + 27))] [] 0
  refine v_iconst (n := 1) (v := 0) C dX12_faultOf_0 rfl (by decide) ?_
  refine v_istore_n (n := 2) (lv' := [(1, .int 0), (0, .ref (b + 27))]) C dX12_faultOf_1 rfl rfl (Nat.le_of_ble_eq_true rfl) rfl ?_
  refine v_pick (lv' := [(1, .int 0), (0, .ref (b + 27))]) [0, 1] rfl ?_
  have e_1 : (0 : Int32) = (nI 0) := rfl
  refine v_cong (es' := (wl D b sc ar hn mh G)) (lv' := [(1, .int (nI 0)), (0, .ref (b + 27))]) rfl (cg1 (fun (z0 : Int32) => ([(1, .int z0), (0, .ref (b + 27))] : List (Nat × Value))) e_1) ?_
  refine loop_dn (P := fun i_2 => (∀ j, j < i_2 → ¬ igF (nI j) (ar 28 j) = 0) → V p l e { frames := 2, cells := 0, slots := 0, locals := 46 } s m args below meth c D b 2 (MQ below (cQ D b 0 (fun r es' => ∃ v, r = some (.int v) ∧ mfu2 ar Pn v ∧ wl D b sc ar hn mh G = es')) args s 0 0 (fun q => b ≤ q)) 0 0 (wl D b sc ar hn mh G) [(1, .int (nI i_2)), (0, .ref (b + 27))] [] 2) Pn ?_ (fun i_2 hi_2 ih_2 => ?_) (fun j h => absurd h (Nat.not_lt_zero j))
  · skip
    intro hp_2
    have g_2 : ((sc 20) : Int32) ≤ (nI Pn) := by rw [hP]; exact Int32.le_refl _
    refine v_iload_n (n := 3) C dX12_faultOf_2 rfl rfl rfl ?_
    refine v_aload_n (n := 4) C dX12_faultOf_3 rfl rfl rfl ?_
    refine v_get (n := 7) C dX12_faultOf_4 rfl fl_X12_59_X12 wl_c27 rfl ?_
    refine v_icmp_ge (t := 29) (n := 10) C dX12_faultOf_7 (by decide) rfl (fun c_3 => ?_) (fun c_3 => ?_)
    · skip
      refine v_iload_n (n := 30) C dX12_faultOf_29 rfl rfl rfl ?_
      exact v_iret C dX12_faultOf_30 rfl rfl ⟨_, rfl, Or.inr ⟨rfl, hp_2⟩, rfl⟩
    · first | exact absurd c_3 g_2 | exact absurd g_2 c_3 | exact absurd c_3 (Int32.not_le.mpr g_2) | exact absurd c_3 (Int32.not_lt.mpr g_2) | exact absurd (Int32.not_le.mp g_2) c_3 | exact absurd (Int32.not_lt.mp g_2) c_3 | exact absurd (Int32.not_le.mp g_2) (Int32.not_lt.mpr c_3) | exact absurd (Int32.not_lt.mp g_2) (Int32.not_le.mpr c_3) | exact absurd (Int32.not_lt.mp c_3) (Int32.not_le.mpr (Int32.not_le.mp g_2))
  · skip
    intro hp_2
    have g_4 : ¬ ((sc 20) : Int32) ≤ (nI i_2) := by rw [hP]; exact nI_ge hi_2 (by omega)
    refine v_iload_n (n := 3) C dX12_faultOf_2 rfl rfl rfl ?_
    refine v_aload_n (n := 4) C dX12_faultOf_3 rfl rfl rfl ?_
    refine v_get (n := 7) C dX12_faultOf_4 rfl fl_X12_59_X12 wl_c27 rfl ?_
    refine v_icmp_ge (t := 29) (n := 10) C dX12_faultOf_7 (by decide) rfl (fun c_5 => ?_) (fun c_5 => ?_)
    · first | exact absurd c_5 g_4 | exact absurd g_4 c_5 | exact absurd c_5 (Int32.not_le.mpr g_4) | exact absurd c_5 (Int32.not_lt.mpr g_4) | exact absurd (Int32.not_le.mp g_4) c_5 | exact absurd (Int32.not_lt.mp g_4) c_5 | exact absurd (Int32.not_le.mp g_4) (Int32.not_lt.mpr c_5) | exact absurd (Int32.not_lt.mp g_4) (Int32.not_le.mpr c_5) | exact absurd (Int32.not_lt.mp c_5) (Int32.not_le.mpr (Int32.not_le.mp g_4))
    · skip
      refine v_iload_n (n := 11) C dX12_faultOf_10 rfl rfl rfl ?_
      refine v_aload_n (n := 12) C dX12_faultOf_11 rfl rfl rfl ?_
      refine v_get (n := 15) C dX12_faultOf_12 rfl fl_X12_7_X12 wl_c27 rfl ?_
      refine v_iload_n (n := 16) C dX12_faultOf_15 rfl rfl rfl ?_
      refine v_iald (n := 17) C dX12_faultOf_16 rfl wl_c28 (vp_in_nI (by omega) (by decide)) ?_
      refine v_stk (st' := .int ((ar 28) i_2) :: [.int (nI i_2)]) (congrArg (fun z : Nat => Value.int ((ar 28) z) :: [.int (nI i_2)]) (nI_clamp (show i_2 < 2 ^ 31 by omega))) ?_
      refine v_go (n := 20) C (vRun_S (As := [.int (nI i_2), .int ((ar 28) i_2)]) (rest := []) C lk_X12_64 st_X12_isGood dX12_faultOf_17 (m_isGood l D b (wl D b sc ar hn mh G) (nI i_2) ((ar 28) i_2)) wm_X12_isGood rfl rfl ⟨Nat.le_of_ble_eq_true rfl, Nat.le_of_ble_eq_true rfl⟩ ⟨Nat.le_of_ble_eq_true rfl, Nat.le_of_ble_eq_true rfl⟩ (Nat.le_of_ble_eq_true rfl)) rfl ?_
      rintro _ _ ⟨rfl, rfl⟩ -
      refine v_if_eq (t := 29) (n := 23) C dX12_faultOf_20 (by decide) rfl (fun c_6 => ?_) (fun c_6 => ?_)
      · skip
        refine v_iload_n (n := 30) C dX12_faultOf_29 rfl rfl rfl ?_
        exact v_iret C dX12_faultOf_30 rfl rfl ⟨_, rfl, Or.inl ⟨i_2, hi_2, rfl, c_6, hp_2⟩, rfl⟩
      · skip
        refine v_iinc (n := 26) (v := ((nI i_2) + 1)) (lv' := [(1, .int ((nI i_2) + 1)), (0, .ref (b + 27))]) C dX12_faultOf_23 rfl rfl rfl (Nat.le_of_ble_eq_true rfl) rfl ?_
        refine v_goto (t := 2) C dX12_faultOf_26 (by decide) ?_
        refine v_pick (lv' := [(1, .int ((nI i_2) + 1)), (0, .ref (b + 27))]) [0, 1] rfl ?_
        have e_7 : ((nI i_2) + 1) = (nI (i_2 + 1)) := nI_1 _
        refine v_cong (es' := (wl D b sc ar hn mh G)) (lv' := [(1, .int (nI (i_2 + 1))), (0, .ref (b + 27))]) rfl (cg1 (fun (z0 : Int32) => ([(1, .int z0), (0, .ref (b + 27))] : List (Nat × Value))) e_7) ?_
        exact ih_2 (fun j hj => (Nat.lt_or_eq_of_le (Nat.le_of_lt_succ hj)).elim (fun q => hp_2 j q) (fun q => by subst q; exact c_6))
set_option maxHeartbeats 4000000 in
set_option maxRecDepth 100000 in
theorem m_fault (l : Launch) (D : va_G) (b : Nat) (sc : Nat → Int32) (ar : Nat → Nat → Int32) (hn : Nat → Option Nat) (mh : Int64) (G : List va_E) (Pn : Nat) (hP : sc 20 = nI Pn) (hP18 : Pn ≤ 18) : Con l yX12_fault cX12_fault 1 (some .int) 3 67 D b 0 0 (wl D b sc ar hn mh G) [.ref (b + 27)] (fun r es' => ∃ v, r = some (.int v) ∧ mfu2 ar Pn v ∧ wl D b sc ar hn mh G = es') := by
  refine con_of (by decide) (Nat.le_of_ble_eq_true rfl) (fun p e s m args below meth c C hsz => ?_)
  have C : vC p s m args meth c cX12_fault 1 RX12 "fault" (some .int) D b := C
  change V p l e _ s m args below meth c D b 1 _ 0 0 (wl D b sc ar hn mh G) [(0, .ref (b + 27))] [] 0
  refine v_aload_n (n := 1) C dX12_fault_0 rfl rfl rfl ?_
  refine v_go (n := 4) C (vRun_V (As := []) (rest := []) C wl_c27 rfl lk_X12_68 im_X12_faultOf se_X12_faultOf dX12_fault_1 (m_faultOf l D b sc ar hn mh G Pn hP hP18) wm_X12_faultOf rfl rfl ⟨Nat.le_of_ble_eq_true rfl, Nat.le_of_ble_eq_true rfl⟩ ⟨Nat.le_of_ble_eq_true rfl, Nat.le_of_ble_eq_true rfl⟩ (Nat.le_of_ble_eq_true rfl)) rfl ?_
  rintro _ _ ⟨v1, rfl, hfu, rfl⟩ -
  exact v_iret C dX12_fault_4 rfl rfl ⟨_, rfl, hfu, rfl⟩
