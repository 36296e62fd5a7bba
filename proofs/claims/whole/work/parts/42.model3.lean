theorem ih_k {cnt x : Int32} {Hn : Nat} (hH : cnt = nI Hn) (hH3 : Hn ≤ 3) (h0 : ¬ x < 0) (h1 : ¬ cnt - 1 < x) : ∃ k, k < Hn ∧ x = nI k := by
  obtain ⟨j, hj, e⟩ := nI_of h0
  refine ⟨j, ?_, e⟩
  subst e
  subst hH
  have h2 := Int32.not_lt.mp h1
  have hs : (nI Hn - 1).toInt = (Hn : Int) - 1 := by
    rcases (show Hn = 0 ∨ Hn = 1 ∨ Hn = 2 ∨ Hn = 3 by omega) with rfl | rfl | rfl | rfl <;> decide
  rw [Int32.le_iff_toInt_le, hs, nI_toInt hj] at h2
  omega
def mhN (r : Nat → Int32) (x : Int32) : Nat → Int32
  | 0 => 0
  | i + 1 => mhN r x i + (if r (4 * i + 2) = x then 1 else 0)
def mtcF (sc : Nat → Int32) (ar : Nat → Nat → Int32) (Hn : Nat) (x w : Int32) : Int32 := if w = 0 then mhiF (ar 29) x (sc 22) (sc 21) else if w = 1 then ar 29 x.toNatClampNeg else if w = 2 then sc 21 * (x + 1) else if w = 3 then mhN (ar 30) x Hn else -102
def mceF (sc : Nat → Int32) (ar : Nat → Nat → Int32) (Hn : Nat) (x w : Int32) : Int32 := if x < 0 then -101 else if 11 < x then -101 else if sc 21 = 0 then -101 else mtcF sc ar Hn x w
def mstF (sc : Nat → Int32) (ar : Nat → Nat → Int32) (k : Nat) : Int32 := if mflF (ar 29) (ar 30) k (ar 30 (4 * k + 2)) (sc 22) (sc 21) = 0 then 1 else 0
def mteF (sc : Nat → Int32) (ar : Nat → Nat → Int32) (k : Nat) (w : Int32) : Int32 := if niF w 10 13 = 0 then (if w = 0 then ar 30 (4 * k + 0) else if w = 1 then ar 30 (4 * k + 1) else if w = 2 then ar 30 (4 * k + 2) else if w = 3 then (if mstF sc ar k = 0 then 0 else 1) else if w = 4 then ar 30 (4 * k + 3) else -102) else
  mhtF (ar 29) (ar 30) k (ar 30 (4 * k + 2)) (sc 22) (w - 10) (sc 23) (sc 21)
def mabF (sc : Nat → Int32) (ar : Nat → Nat → Int32) (x w : Int32) : Int32 := if x < 0 then -101 else if sc 25 - 1 < x then -101 else mteF sc ar x.toNatClampNeg w
def masF (sc : Nat → Int32) (ar : Nat → Nat → Int32) (x w : Int32) : Int32 := if x < 0 then -101 else if sc 25 - 1 < x then -101 else if w < 0 then -102 else if 4 < w then -102 else
  if w = 0 then x else if w = ar 30 (4 * x.toNatClampNeg + 0) then x else if w = 1 then (if ar 30 (4 * x.toNatClampNeg + 0) = 4 then x else -1) else -1
set_option maxHeartbeats 4000000 in
set_option maxRecDepth 100000 in
theorem m_hullsAt (l : Launch) (D : va_G) (b : Nat) (sc : Nat → Int32) (ar : Nat → Nat → Int32) (hn : Nat → Option Nat) (mh : Int64) (G : List va_E) (x : Int32) (Hn : Nat) (hH : sc 25 = nI Hn) (hH3 : Hn ≤ 3) : Con l yX12_hullsAt cX12_hullsAt 4 (some .int) 0 0 D b 0 0 (wl D b sc ar hn mh G) [.ref (b + 27), .int x] (fun r es' => r = some (.int (mhN (ar 30) x Hn)) ∧ (wl D b sc ar hn mh G) = es') := by
  refine con_of (by decide) (Nat.le_of_ble_eq_true rfl) (fun p e s m args below meth c C hsz => ?_)
  have C : vC p s m args meth c cX12_hullsAt 4 RX12 "hullsAt" (some .int) D b := C
  change V p l e _ s m args below meth c D b 4 _ 0 0 (wl D b sc ar hn mh G) [(0, .ref (b + 27)), (1, .int x)] [] 0
  refine v_iconst (n := 1) (v := 0) C dX12_hullsAt_0 rfl (by decide) ?_
  refine v_istore_n (n := 2) (lv' := [(2, .int 0), (0, .ref (b + 27)), (1, .int x)]) C dX12_hullsAt_1 rfl rfl (Nat.le_of_ble_eq_true rfl) rfl ?_
  refine v_iconst (n := 3) (v := 0) C dX12_hullsAt_2 rfl (by decide) ?_
  refine v_istore_n (n := 4) (lv' := [(3, .int 0), (2, .int 0), (0, .ref (b + 27)), (1, .int x)]) C dX12_hullsAt_3 rfl rfl (Nat.le_of_ble_eq_true rfl) rfl ?_
  refine v_pick (lv' := [(3, .int 0), (0, .ref (b + 27)), (1, .int x), (2, .int 0)]) [0, 2, 3, 1] rfl ?_
  have e_1 : (0 : Int32) = (nI 0) := rfl
  have e_2 : (0 : Int32) = (mhN (ar 30) x 0) := by first | (rw [mhN]; done) | (rw [mhN]; simp only []; done) | (rw [mhN]; simp only [↓reduceIte]; done) | (rw [mhN]; simp only [↓reduceIte] <;> rfl) | rfl | (rw [mhN]; simp []; done)
  refine v_cong (es' := (wl D b sc ar hn mh G)) (lv' := [(3, .int (nI 0)), (0, .ref (b + 27)), (1, .int x), (2, .int (mhN (ar 30) x 0))]) rfl (cg2 (fun (z0 : Int32) (z1 : Int32) => ([(3, .int z0), (0, .ref (b + 27)), (1, .int x), (2, .int z1)] : List (Nat × Value))) e_1 e_2) ?_
  refine loop_dn (P := fun i_4 => V p l e { frames := 0, cells := 0, slots := 0, locals := 0 } s m args below meth c D b 4 (MQ below (cQ D b 0 (fun r es' => r = some (.int (mhN (ar 30) x Hn)) ∧ (wl D b sc ar hn mh G) = es')) args s 0 0 (fun q => b ≤ q)) 0 0 (wl D b sc ar hn mh G) [(3, .int (nI i_4)), (0, .ref (b + 27)), (1, .int x), (2, .int (mhN (ar 30) x i_4))] [] 4) Hn ?_ (fun i_4 hi_4 ih_4 => ?_)
  · skip
    have g_3 : ((sc 25) : Int32) ≤ (nI Hn) := by rw [hH]; exact Int32.le_refl _
    refine v_iload_n (n := 5) C dX12_hullsAt_4 rfl rfl rfl ?_
    refine v_aload_n (n := 6) C dX12_hullsAt_5 rfl rfl rfl ?_
    refine v_get (n := 9) C dX12_hullsAt_6 rfl fl_X12_78_X12 wl_c27 rfl ?_
    refine v_icmp_ge (t := 40) (n := 12) C dX12_hullsAt_9 (by decide) rfl (fun c_4 => ?_) (fun c_4 => ?_)
    · skip
      refine v_iload_n (n := 41) C dX12_hullsAt_40 rfl rfl rfl ?_
      exact v_iret C dX12_hullsAt_41 rfl rfl ⟨rfl, rfl⟩
    · first | exact absurd c_4 g_3 | exact absurd g_3 c_4 | exact absurd c_4 (Int32.not_le.mpr g_3) | exact absurd c_4 (Int32.not_lt.mpr g_3) | exact absurd (Int32.not_le.mp g_3) c_4 | exact absurd (Int32.not_lt.mp g_3) c_4 | exact absurd (Int32.not_le.mp g_3) (Int32.not_lt.mpr c_4) | exact absurd (Int32.not_lt.mp g_3) (Int32.not_le.mpr c_4) | exact absurd (Int32.not_lt.mp c_4) (Int32.not_le.mpr (Int32.not_le.mp g_3))
  · skip
    have g_5 : ¬ ((sc 25) : Int32) ≤ (nI i_4) := by rw [hH]; exact nI_ge hi_4 (by omega)
    refine v_iload_n (n := 5) C dX12_hullsAt_4 rfl rfl rfl ?_
    refine v_aload_n (n := 6) C dX12_hullsAt_5 rfl rfl rfl ?_
    refine v_get (n := 9) C dX12_hullsAt_6 rfl fl_X12_78_X12 wl_c27 rfl ?_
    refine v_icmp_ge (t := 40) (n := 12) C dX12_hullsAt_9 (by decide) rfl (fun c_6 => ?_) (fun c_6 => ?_)
    · first | exact absurd c_6 g_5 | exact absurd g_5 c_6 | exact absurd c_6 (Int32.not_le.mpr g_5) | exact absurd c_6 (Int32.not_lt.mpr g_5) | exact absurd (Int32.not_le.mp g_5) c_6 | exact absurd (Int32.not_lt.mp g_5) c_6 | exact absurd (Int32.not_le.mp g_5) (Int32.not_lt.mpr c_6) | exact absurd (Int32.not_lt.mp g_5) (Int32.not_le.mpr c_6) | exact absurd (Int32.not_lt.mp c_6) (Int32.not_le.mpr (Int32.not_le.mp g_5))
    · skip
      refine v_iload_n (n := 13) C dX12_hullsAt_12 rfl rfl rfl ?_
      refine v_aload_n (n := 14) C dX12_hullsAt_13 rfl rfl rfl ?_
      refine v_get (n := 17) C dX12_hullsAt_14 rfl fl_X12_16_X12 wl_c27 rfl ?_
      refine v_iconst (n := 18) (v := 4) C dX12_hullsAt_17 rfl (by decide) ?_
      refine v_iload_n (n := 19) C dX12_hullsAt_18 rfl rfl rfl ?_
      refine v_imul (n := 20) C dX12_hullsAt_19 rfl ?_
      refine v_iconst (n := 21) (v := 2) C dX12_hullsAt_20 rfl (by decide) ?_
      refine v_iadd (n := 22) C dX12_hullsAt_21 rfl ?_
      refine v_iald (n := 23) C dX12_hullsAt_22 rfl wl_c30 (rw_vp (j := 2) (show i_4 < 3 by omega) (by decide)) ?_
      refine v_stk (st' := .int ((ar 30) (4 * i_4 + 2)) :: [.int (mhN (ar 30) x i_4)]) (congrArg (fun z : Nat => Value.int ((ar 30) z) :: [.int (mhN (ar 30) x i_4)]) (rw_c (j := 2) (show i_4 < 3 by omega) (by decide))) ?_
      refine v_iload_n (n := 24) C dX12_hullsAt_23 rfl rfl rfl ?_
      refine v_icmp_ne (t := 31) (n := 27) C dX12_hullsAt_24 (by decide) rfl (fun c_7 => ?_) (fun c_7 => ?_)
      · skip
        refine v_iconst (n := 32) (v := 0) C dX12_hullsAt_31 rfl (by decide) ?_
        refine v_iadd (n := 33) C dX12_hullsAt_32 rfl ?_
        refine v_istore_n (n := 34) (lv' := [(2, .int ((mhN (ar 30) x i_4) + 0)), (3, .int (nI i_4)), (0, .ref (b + 27)), (1, .int x)]) C dX12_hullsAt_33 rfl rfl (Nat.le_of_ble_eq_true rfl) rfl ?_
        refine v_iinc (n := 37) (v := ((nI i_4) + 1)) (lv' := [(3, .int ((nI i_4) + 1)), (2, .int ((mhN (ar 30) x i_4) + 0)), (0, .ref (b + 27)), (1, .int x)]) C dX12_hullsAt_34 rfl rfl rfl (Nat.le_of_ble_eq_true rfl) rfl ?_
        refine v_goto (t := 4) C dX12_hullsAt_37 (by decide) ?_
        refine v_pick (lv' := [(3, .int ((nI i_4) + 1)), (0, .ref (b + 27)), (1, .int x), (2, .int ((mhN (ar 30) x i_4) + 0))]) [0, 2, 3, 1] rfl ?_
        have e_8 : ((nI i_4) + 1) = (nI (i_4 + 1)) := nI_1 _
        have e_9 : (((mhN (ar 30) x i_4) + 0) : Int32) = (mhN (ar 30) x (i_4 + 1)) := by first | (rw [mhN]; done) | (rw [mhN]; simp only [if_neg g_5, if_pos (Int32.not_le.mp g_5), if_neg c_6, if_pos (Int32.not_le.mp c_6), if_neg c_7, if_neg (fun h => c_7 (Eq.symm h))]; done) | (rw [mhN]; simp only [eq_false g_5, eq_true (Int32.not_le.mp g_5), eq_false c_6, eq_true (Int32.not_le.mp c_6), eq_false c_7, eq_false (fun h => c_7 (Eq.symm h)), ↓reduceIte]; done) | (rw [mhN]; simp only [eq_false g_5, eq_true (Int32.not_le.mp g_5), eq_false c_6, eq_true (Int32.not_le.mp c_6), eq_false c_7, eq_false (fun h => c_7 (Eq.symm h)), ↓reduceIte] <;> rfl) | rfl | (rw [mhN]; simp [g_5, c_6, c_7]; done)
        refine v_cong (es' := (wl D b sc ar hn mh G)) (lv' := [(3, .int (nI (i_4 + 1))), (0, .ref (b + 27)), (1, .int x), (2, .int (mhN (ar 30) x (i_4 + 1)))]) rfl (cg2 (fun (z0 : Int32) (z1 : Int32) => ([(3, .int z0), (0, .ref (b + 27)), (1, .int x), (2, .int z1)] : List (Nat × Value))) e_8 e_9) ?_
        exact ih_4
      · skip
        refine v_iconst (n := 28) (v := 1) C dX12_hullsAt_27 rfl (by decide) ?_
        refine v_goto (t := 32) C dX12_hullsAt_28 (by decide) ?_
        refine v_iadd (n := 33) C dX12_hullsAt_32 rfl ?_
        refine v_istore_n (n := 34) (lv' := [(2, .int ((mhN (ar 30) x i_4) + 1)), (3, .int (nI i_4)), (0, .ref (b + 27)), (1, .int x)]) C dX12_hullsAt_33 rfl rfl (Nat.le_of_ble_eq_true rfl) rfl ?_
        refine v_iinc (n := 37) (v := ((nI i_4) + 1)) (lv' := [(3, .int ((nI i_4) + 1)), (2, .int ((mhN (ar 30) x i_4) + 1)), (0, .ref (b + 27)), (1, .int x)]) C dX12_hullsAt_34 rfl rfl rfl (Nat.le_of_ble_eq_true rfl) rfl ?_
        refine v_goto (t := 4) C dX12_hullsAt_37 (by decide) ?_
        refine v_pick (lv' := [(3, .int ((nI i_4) + 1)), (0, .ref (b + 27)), (1, .int x), (2, .int ((mhN (ar 30) x i_4) + 1))]) [0, 2, 3, 1] rfl ?_
        have e_10 : ((nI i_4) + 1) = (nI (i_4 + 1)) := nI_1 _
        have e_11 : (((mhN (ar 30) x i_4) + 1) : Int32) = (mhN (ar 30) x (i_4 + 1)) := by first | (rw [mhN]; done) | (rw [mhN]; simp only [if_neg g_5, if_pos (Int32.not_le.mp g_5), if_neg c_6, if_pos (Int32.not_le.mp c_6), if_pos c_7, if_pos (Eq.symm c_7)]; done) | (rw [mhN]; simp only [eq_false g_5, eq_true (Int32.not_le.mp g_5), eq_false c_6, eq_true (Int32.not_le.mp c_6), eq_true c_7, eq_true (Eq.symm c_7), ↓reduceIte]; done) | (rw [mhN]; simp only [eq_false g_5, eq_true (Int32.not_le.mp g_5), eq_false c_6, eq_true (Int32.not_le.mp c_6), eq_true c_7, eq_true (Eq.symm c_7), ↓reduceIte] <;> rfl) | rfl | (rw [mhN]; simp [g_5, c_6, c_7]; done)
        refine v_cong (es' := (wl D b sc ar hn mh G)) (lv' := [(3, .int (nI (i_4 + 1))), (0, .ref (b + 27)), (1, .int x), (2, .int (mhN (ar 30) x (i_4 + 1)))]) rfl (cg2 (fun (z0 : Int32) (z1 : Int32) => ([(3, .int z0), (0, .ref (b + 27)), (1, .int x), (2, .int z1)] : List (Nat × Value))) e_10 e_11) ?_
        exact ih_4
set_option maxHeartbeats 4000000 in
set_option maxRecDepth 100000 in
theorem m_tellCell (l : Launch) (D : va_G) (b : Nat) (sc : Nat → Int32) (ar : Nat → Nat → Int32) (hn : Nat → Option Nat) (mh : Int64) (G : List va_E) (x w : Int32) (hx : vp_in x 12) (Hn : Nat) (hH : sc 25 = nI Hn) (hH3 : Hn ≤ 3) : Con l yX12_tellCell cX12_tellCell 3 (some .int) 1 23 D b 0 0 (wl D b sc ar hn mh G) [.ref (b + 27), .int x, .int w] (fun r es' => r = some (.int (mtcF sc ar Hn x w)) ∧ (wl D b sc ar hn mh G) = es') := by
  refine con_of (by decide) (Nat.le_of_ble_eq_true rfl) (fun p e s m args below meth c C hsz => ?_)
  have C : vC p s m args meth c cX12_tellCell 3 RX12 "tellCell" (some .int) D b := C
  change V p l e _ s m args below meth c D b 3 _ 0 0 (wl D b sc ar hn mh G) [(0, .ref (b + 27)), (1, .int x), (2, .int w)] [] 0
  refine v_iload_n (n := 1) C dX12_tellCell_0 rfl rfl rfl ?_
  by_cases c_5 : w = 0
  · refine v_tableIn (t := 32) C dX12_tellCell_1 (by rw [c_5]; decide) (by rw [c_5]; decide) (by rw [c_5]; rfl) (by decide) ?_
    refine v_aload_n (n := 33) C dX12_tellCell_32 rfl rfl rfl ?_
    refine v_iload_n (n := 34) C dX12_tellCell_33 rfl rfl rfl ?_
    refine v_aload_n (n := 35) C dX12_tellCell_34 rfl rfl rfl ?_
    refine v_get (n := 38) C dX12_tellCell_35 rfl fl_X12_75_X12 wl_c27 rfl ?_
    refine v_aload_n (n := 39) C dX12_tellCell_38 rfl rfl rfl ?_
    refine v_get (n := 42) C dX12_tellCell_39 rfl fl_X12_72_X12 wl_c27 rfl ?_
    refine v_go (n := 45) C (vRun_V (As := [.int x, .int (sc 22), .int (sc 21)]) (rest := []) C wl_c27 rfl lk_X12_93 im_X12_highAt se_X12_highAt dX12_tellCell_42 (m_highAt l D b sc ar hn mh G x (sc 22) (sc 21) hx) wm_X12_highAt rfl rfl ⟨Nat.le_of_ble_eq_true rfl, Nat.le_of_ble_eq_true rfl⟩ ⟨Nat.le_of_ble_eq_true rfl, Nat.le_of_ble_eq_true rfl⟩ (Nat.le_of_ble_eq_true rfl)) rfl ?_
    rintro _ _ ⟨rfl, rfl⟩ -
    exact v_iret C dX12_tellCell_45 rfl rfl ⟨by first | rfl | (simp only [mtcF, if_pos c_5]; done) | (simp only [mtcF, eq_true c_5, ↓reduceIte]; done) | (simp only [mtcF, eq_true c_5, ↓reduceIte] <;> rfl) | (simp [mtcF, c_5]; done), rfl⟩
  by_cases c_6 : w = 1
  · refine v_tableIn (t := 46) C dX12_tellCell_1 (by rw [c_6]; decide) (by rw [c_6]; decide) (by rw [c_6]; rfl) (by decide) ?_
    refine v_aload_n (n := 47) C dX12_tellCell_46 rfl rfl rfl ?_
    refine v_get (n := 50) C dX12_tellCell_47 rfl fl_X12_13_X12 wl_c27 rfl ?_
    refine v_iload_n (n := 51) C dX12_tellCell_50 rfl rfl rfl ?_
    refine v_iald (n := 52) C dX12_tellCell_51 rfl wl_c29 hx ?_
    exact v_iret C dX12_tellCell_52 rfl rfl ⟨by first | rfl | (simp only [mtcF, if_neg c_5, if_pos c_6]; done) | (simp only [mtcF, eq_false c_5, eq_true c_6, ↓reduceIte]; done) | (simp only [mtcF, eq_false c_5, eq_true c_6, ↓reduceIte] <;> rfl) | (simp [mtcF, c_5, c_6]; done), rfl⟩
  by_cases c_7 : w = 2
  · refine v_tableIn (t := 53) C dX12_tellCell_1 (by rw [c_7]; decide) (by rw [c_7]; decide) (by rw [c_7]; rfl) (by decide) ?_
    refine v_aload_n (n := 54) C dX12_tellCell_53 rfl rfl rfl ?_
    refine v_get (n := 57) C dX12_tellCell_54 rfl fl_X12_72_X12 wl_c27 rfl ?_
    refine v_iload_n (n := 58) C dX12_tellCell_57 rfl rfl rfl ?_
    refine v_iconst (n := 59) (v := 1) C dX12_tellCell_58 rfl (by decide) ?_
    refine v_iadd (n := 60) C dX12_tellCell_59 rfl ?_
    refine v_imul (n := 61) C dX12_tellCell_60 rfl ?_
    exact v_iret C dX12_tellCell_61 rfl rfl ⟨by first | rfl | (simp only [mtcF, if_neg c_5, if_neg c_6, if_pos c_7]; done) | (simp only [mtcF, eq_false c_5, eq_false c_6, eq_true c_7, ↓reduceIte]; done) | (simp only [mtcF, eq_false c_5, eq_false c_6, eq_true c_7, ↓reduceIte] <;> rfl) | (simp [mtcF, c_5, c_6, c_7]; done), rfl⟩
  by_cases c_8 : w = 3
  · refine v_tableIn (t := 62) C dX12_tellCell_1 (by rw [c_8]; decide) (by rw [c_8]; decide) (by rw [c_8]; rfl) (by decide) ?_
    refine v_aload_n (n := 63) C dX12_tellCell_62 rfl rfl rfl ?_
    refine v_iload_n (n := 64) C dX12_tellCell_63 rfl rfl rfl ?_
    refine v_go (n := 67) C (vRun_V (As := [.int x]) (rest := []) C wl_c27 rfl lk_X12_97 im_X12_hullsAt se_X12_hullsAt dX12_tellCell_64 (m_hullsAt l D b sc ar hn mh G x Hn hH hH3) wm_X12_hullsAt rfl rfl ⟨Nat.le_of_ble_eq_true rfl, Nat.le_of_ble_eq_true rfl⟩ ⟨Nat.le_of_ble_eq_true rfl, Nat.le_of_ble_eq_true rfl⟩ (Nat.le_of_ble_eq_true rfl)) rfl ?_
    rintro _ _ ⟨rfl, rfl⟩ -
    exact v_iret C dX12_tellCell_67 rfl rfl ⟨by first | rfl | (simp only [mtcF, if_neg c_5, if_neg c_6, if_neg c_7, if_pos c_8]; done) | (simp only [mtcF, eq_false c_5, eq_false c_6, eq_false c_7, eq_true c_8, ↓reduceIte]; done) | (simp only [mtcF, eq_false c_5, eq_false c_6, eq_false c_7, eq_true c_8, ↓reduceIte] <;> rfl) | (simp [mtcF, c_5, c_6, c_7, c_8]; done), rfl⟩
  refine v_tableOut (t := 68) C dX12_tellCell_1 (sw_out4 c_5 c_6 c_7 c_8) (by decide) ?_
  refine v_bipush (n := 70) (v := -102) C dX12_tellCell_68 rfl (by decide) ?_
  exact v_iret C dX12_tellCell_70 rfl rfl ⟨by first | rfl | (simp only [mtcF, if_neg c_5, if_neg c_6, if_neg c_7, if_neg c_8]; done) | (simp only [mtcF, eq_false c_5, eq_false c_6, eq_false c_7, eq_false c_8, ↓reduceIte]; done) | (simp only [mtcF, eq_false c_5, eq_false c_6, eq_false c_7, eq_false c_8, ↓reduceIte] <;> rfl) | (simp [mtcF, c_5, c_6, c_7, c_8]; done), rfl⟩
theorem ic_vp {x : Int32} (h0 : ¬ x < 0) (h1 : ¬ 11 < x) : vp_in x 12 := by
  have e0 : (0 : Int32).toInt = 0 := rfl
  have e8 : (11 : Int32).toInt = 11 := rfl
  rw [Int32.lt_iff_toInt_lt] at h0 h1
  exact vp_lit (by omega) (by omega)
set_option maxHeartbeats 4000000 in
set_option maxRecDepth 100000 in
theorem m_cell (l : Launch) (D : va_G) (b : Nat) (sc : Nat → Int32) (ar : Nat → Nat → Int32) (hn : Nat → Option Nat) (mh : Int64) (G : List va_E) (y w : Int32) (Hn : Nat) (hH : sc 25 = nI Hn) (hH3 : Hn ≤ 3) : Con l yX12_cell cX12_cell 3 (some .int) 2 46 D b 0 0 (wl D b sc ar hn mh G) [.ref (b + 27), .int y, .int w] (fun r es' => r = some (.int (mceF sc ar Hn y w)) ∧ (wl D b sc ar hn mh G) = es') := by
  refine con_of (by decide) (Nat.le_of_ble_eq_true rfl) (fun p e s m args below meth c C hsz => ?_)
  have C : vC p s m args meth c cX12_cell 3 RX12 "cell" (some .int) D b := C
  change V p l e _ s m args below meth c D b 3 _ 0 0 (wl D b sc ar hn mh G) [(0, .ref (b + 27)), (1, .int y), (2, .int w)] [] 0
  refine v_aload_n (n := 1) C dX12_cell_0 rfl rfl rfl ?_
  refine v_iload_n (n := 2) C dX12_cell_1 rfl rfl rfl ?_
  refine v_go (n := 5) C (vRun_V (As := [.int y]) (rest := []) C wl_c27 rfl lk_X12_101 im_X12_isCell se_X12_isCell dX12_cell_2 (m_isCell l D b sc ar hn mh G y) wm_X12_isCell rfl rfl ⟨Nat.le_of_ble_eq_true rfl, Nat.le_of_ble_eq_true rfl⟩ ⟨Nat.le_of_ble_eq_true rfl, Nat.le_of_ble_eq_true rfl⟩ (Nat.le_of_ble_eq_true rfl)) rfl ?_
  rintro _ _ ⟨rfl, rfl⟩ -
  by_cases p_1 : y < 0
  · skip
    refine v_stk (st' := .int 0 :: []) (congrArg (fun z : Int32 => Value.int z :: []) (show micF (sc 21) y = 0 by simp only [micF, if_pos p_1])) ?_
    refine v_if_eq (t := 17) (n := 8) C dX12_cell_5 (by decide) rfl (fun c_2 => ?_) (fun c_2 => ?_)
    · skip
      refine v_bipush (n := 19) (v := -101) C dX12_cell_17 rfl (by decide) ?_
      exact v_iret C dX12_cell_19 rfl rfl ⟨by first | rfl | (simp only [mceF, if_pos p_1, if_neg (Int32.not_le.mpr p_1), if_pos c_2]; done) | (simp only [mceF, eq_true p_1, eq_false (Int32.not_le.mpr p_1), eq_true c_2, ↓reduceIte]; done) | (simp only [mceF, eq_true p_1, eq_false (Int32.not_le.mpr p_1), eq_true c_2, ↓reduceIte] <;> rfl) | (simp [mceF, p_1, c_2]; done), rfl⟩
    · exact absurd c_2 (by decide)
  by_cases p_3 : 11 < y
  · skip
    refine v_stk (st' := .int 0 :: []) (congrArg (fun z : Int32 => Value.int z :: []) (show micF (sc 21) y = 0 by simp only [micF, if_neg p_1, if_pos p_3])) ?_
    refine v_if_eq (t := 17) (n := 8) C dX12_cell_5 (by decide) rfl (fun c_4 => ?_) (fun c_4 => ?_)
    · skip
      refine v_bipush (n := 19) (v := -101) C dX12_cell_17 rfl (by decide) ?_
      exact v_iret C dX12_cell_19 rfl rfl ⟨by first | rfl | (simp only [mceF, if_neg p_1, if_pos (Int32.not_lt.mp p_1), if_pos p_3, if_neg (Int32.not_le.mpr p_3), if_pos c_4]; done) | (simp only [mceF, eq_false p_1, eq_true (Int32.not_lt.mp p_1), eq_true p_3, eq_false (Int32.not_le.mpr p_3), eq_true c_4, ↓reduceIte]; done) | (simp only [mceF, eq_false p_1, eq_true (Int32.not_lt.mp p_1), eq_true p_3, eq_false (Int32.not_le.mpr p_3), eq_true c_4, ↓reduceIte] <;> rfl) | (simp [mceF, p_1, p_3, c_4]; done), rfl⟩
    · exact absurd c_4 (by decide)
  by_cases p_5 : (sc 21) = 0
  · skip
    refine v_stk (st' := .int 0 :: []) (congrArg (fun z : Int32 => Value.int z :: []) (show micF (sc 21) y = 0 by simp only [micF, if_neg p_1, if_neg p_3, if_pos p_5])) ?_
    refine v_if_eq (t := 17) (n := 8) C dX12_cell_5 (by decide) rfl (fun c_6 => ?_) (fun c_6 => ?_)
    · skip
      refine v_bipush (n := 19) (v := -101) C dX12_cell_17 rfl (by decide) ?_
      exact v_iret C dX12_cell_19 rfl rfl ⟨by first | rfl | (simp only [mceF, if_neg p_1, if_pos (Int32.not_lt.mp p_1), if_neg p_3, if_pos (Int32.not_lt.mp p_3), if_pos p_5, if_pos c_6]; done) | (simp only [mceF, eq_false p_1, eq_true (Int32.not_lt.mp p_1), eq_false p_3, eq_true (Int32.not_lt.mp p_3), eq_true p_5, eq_true c_6, ↓reduceIte]; done) | (simp only [mceF, eq_false p_1, eq_true (Int32.not_lt.mp p_1), eq_false p_3, eq_true (Int32.not_lt.mp p_3), eq_true p_5, eq_true c_6, ↓reduceIte] <;> rfl) | (simp [mceF, p_1, p_3, p_5, c_6]; done), rfl⟩
    · exact absurd c_6 (by decide)
  refine v_stk (st' := .int 1 :: []) (congrArg (fun z : Int32 => Value.int z :: []) (show micF (sc 21) y = 1 by simp only [micF, if_neg p_1, if_neg p_3, if_neg p_5])) ?_
  have hx_7 : vp_in y 12 := ic_vp p_1 p_3
  refine v_if_eq (t := 17) (n := 8) C dX12_cell_5 (by decide) rfl (fun c_8 => ?_) (fun c_8 => ?_)
  · exact absurd c_8 (by decide)
  · skip
    refine v_aload_n (n := 9) C dX12_cell_8 rfl rfl rfl ?_
    refine v_iload_n (n := 10) C dX12_cell_9 rfl rfl rfl ?_
    refine v_iload_n (n := 11) C dX12_cell_10 rfl rfl rfl ?_
    refine v_go (n := 14) C (vRun_V (As := [.int y, .int w]) (rest := []) C wl_c27 rfl lk_X12_105 im_X12_tellCell se_X12_tellCell dX12_cell_11 (m_tellCell l D b sc ar hn mh G y w hx_7 Hn hH hH3) wm_X12_tellCell rfl rfl ⟨Nat.le_of_ble_eq_true rfl, Nat.le_of_ble_eq_true rfl⟩ ⟨Nat.le_of_ble_eq_true rfl, Nat.le_of_ble_eq_true rfl⟩ (Nat.le_of_ble_eq_true rfl)) rfl ?_
    rintro _ _ ⟨rfl, rfl⟩ -
    refine v_goto (t := 19) C dX12_cell_14 (by decide) ?_
    exact v_iret C dX12_cell_19 rfl rfl ⟨by first | rfl | (simp only [mceF, if_neg p_1, if_pos (Int32.not_lt.mp p_1), if_neg p_3, if_pos (Int32.not_lt.mp p_3), if_neg p_5, if_neg c_8]; done) | (simp only [mceF, eq_false p_1, eq_true (Int32.not_lt.mp p_1), eq_false p_3, eq_true (Int32.not_lt.mp p_3), eq_false p_5, eq_false c_8, ↓reduceIte]; done) | (simp only [mceF, eq_false p_1, eq_true (Int32.not_lt.mp p_1), eq_false p_3, eq_true (Int32.not_lt.mp p_3), eq_false p_5, eq_false c_8, ↓reduceIte] <;> rfl) | (simp [mceF, p_1, p_3, p_5, c_8]; done), rfl⟩
set_option maxHeartbeats 4000000 in
set_option maxRecDepth 100000 in
theorem m_isStranded (l : Launch) (D : va_G) (b : Nat) (sc : Nat → Int32) (ar : Nat → Nat → Int32) (hn : Nat → Option Nat) (mh : Int64) (G : List va_E) (k : Nat) (hk3 : k < 3) (hxr : vp_in (ar 30 (4 * k + 2)) 12) : Con l yX12_isStranded cX12_isStranded 2 (some .boolean) 2 49 D b 0 0 (wl D b sc ar hn mh G) [.ref (b + 27), .int (nI k)] (fun r es' => r = some (.int (mstF sc ar k)) ∧ (wl D b sc ar hn mh G) = es') := by
  refine con_of (by decide) (Nat.le_of_ble_eq_true rfl) (fun p e s m args below meth c C hsz => ?_)
  have C : vC p s m args meth c cX12_isStranded 2 RX12 "isStranded" (some .boolean) D b := C
  change V p l e _ s m args below meth c D b 2 _ 0 0 (wl D b sc ar hn mh G) [(0, .ref (b + 27)), (1, .int (nI k))] [] 0
  refine v_aload_n (n := 1) C dX12_isStranded_0 rfl rfl rfl ?_
  refine v_iload_n (n := 2) C dX12_isStranded_1 rfl rfl rfl ?_
  refine v_aload_n (n := 3) C dX12_isStranded_2 rfl rfl rfl ?_
  refine v_get (n := 6) C dX12_isStranded_3 rfl fl_X12_16_X12 wl_c27 rfl ?_
  refine v_iconst (n := 7) (v := 4) C dX12_isStranded_6 rfl (by decide) ?_
  refine v_iload_n (n := 8) C dX12_isStranded_7 rfl rfl rfl ?_
  refine v_imul (n := 9) C dX12_isStranded_8 rfl ?_
  refine v_iconst (n := 10) (v := 2) C dX12_isStranded_9 rfl (by decide) ?_
  refine v_iadd (n := 11) C dX12_isStranded_10 rfl ?_
  refine v_iald (n := 12) C dX12_isStranded_11 rfl wl_c30 (rw_vp (j := 2) hk3 (by decide)) ?_
  refine v_stk (st' := .int ((ar 30) (4 * k + 2)) :: [.int (nI k), .ref (b + 27)]) (congrArg (fun z : Nat => Value.int ((ar 30) z) :: [.int (nI k), .ref (b + 27)]) (rw_c (j := 2) hk3 (by decide))) ?_
  refine v_aload_n (n := 13) C dX12_isStranded_12 rfl rfl rfl ?_
  refine v_get (n := 16) C dX12_isStranded_13 rfl fl_X12_75_X12 wl_c27 rfl ?_
  refine v_aload_n (n := 17) C dX12_isStranded_16 rfl rfl rfl ?_
  refine v_get (n := 20) C dX12_isStranded_17 rfl fl_X12_72_X12 wl_c27 rfl ?_
  refine v_go (n := 23) C (vRun_V (As := [.int (nI k), .int ((ar 30) (4 * k + 2)), .int (sc 22), .int (sc 21)]) (rest := []) C wl_c27 rfl lk_X12_119 im_X12_floats se_X12_floats dX12_isStranded_20 (m_floats l D b sc ar hn mh G k hk3 ((ar 30) (4 * k + 2)) (sc 22) (sc 21) hxr) wm_X12_floats rfl rfl ⟨Nat.le_of_ble_eq_true rfl, Nat.le_of_ble_eq_true rfl⟩ ⟨Nat.le_of_ble_eq_true rfl, Nat.le_of_ble_eq_true rfl⟩ (Nat.le_of_ble_eq_true rfl)) rfl ?_
  rintro _ _ ⟨rfl, rfl⟩ -
  refine v_if_ne (t := 30) (n := 26) C dX12_isStranded_23 (by decide) rfl (fun c_1 => ?_) (fun c_1 => ?_)
  · skip
    refine v_iconst (n := 31) (v := 0) C dX12_isStranded_30 rfl (by decide) ?_
    exact v_iret C dX12_isStranded_31 rfl rfl ⟨by first | rfl | (simp only [mstF, if_neg c_1]; done) | (simp only [mstF, eq_false c_1, ↓reduceIte]; done) | (simp only [mstF, eq_false c_1, ↓reduceIte] <;> rfl) | (simp [mstF, c_1]; done), rfl⟩
  · skip
    refine v_iconst (n := 27) (v := 1) C dX12_isStranded_26 rfl (by decide) ?_
    refine v_goto (t := 31) C dX12_isStranded_27 (by decide) ?_
    exact v_iret C dX12_isStranded_31 rfl rfl ⟨by first | rfl | (simp only [mstF, if_pos c_1]; done) | (simp only [mstF, eq_true c_1, ↓reduceIte]; done) | (simp only [mstF, eq_true c_1, ↓reduceIte] <;> rfl) | (simp [mstF, c_1]; done), rfl⟩
set_option maxHeartbeats 4000000 in
set_option maxRecDepth 100000 in
theorem m_tell (l : Launch) (D : va_G) (b : Nat) (sc : Nat → Int32) (ar : Nat → Nat → Int32) (hn : Nat → Option Nat) (mh : Int64) (G : List va_E) (k : Nat) (hk3 : k < 3) (w : Int32) (hxr : vp_in (ar 30 (4 * k + 2)) 12) : Con l yX12_tell cX12_tell 3 (some .int) 3 78 D b 0 0 (wl D b sc ar hn mh G) [.ref (b + 27), .int (nI k), .int w] (fun r es' => r = some (.int (mteF sc ar k w)) ∧ (wl D b sc ar hn mh G) = es') := by
  refine con_of (by decide) (Nat.le_of_ble_eq_true rfl) (fun p e s m args below meth c C hsz => ?_)
  have C : vC p s m args meth c cX12_tell 3 RX12 "tell" (some .int) D b := C
  change V p l e _ s m args below meth c D b 3 _ 0 0 (wl D b sc ar hn mh G) [(0, .ref (b + 27)), (1, .int (nI k)), (2, .int w)] [] 0
  refine v_iload_n (n := 1) C dX12_tell_0 rfl rfl rfl ?_
  refine v_i2l (n := 2) C dX12_tell_1 rfl ?_
  refine v_ldc2 (n := 5) C dX12_tell_2 rfl kl_X12_123 ?_
  refine v_ldc2 (n := 8) C dX12_tell_5 rfl kl_X12_125 ?_
  refine v_stk (st' := [.long (Int32.toInt64 13), .long (Int32.toInt64 10), .long (Int32.toInt64 w)]) rfl ?_
  refine v_go (n := 11) C (vRun_S (As := [.long (Int32.toInt64 w), .long (Int32.toInt64 10), .long (Int32.toInt64 13)]) (rest := []) C lk_X12_55 st_X12_in dX12_tell_8 (c_in l D b (wl D b sc ar hn mh G) w 10 13) wm_X12_in rfl rfl ⟨Nat.le_of_ble_eq_true rfl, Nat.le_of_ble_eq_true rfl⟩ ⟨Nat.le_of_ble_eq_true rfl, Nat.le_of_ble_eq_true rfl⟩ (Nat.le_of_ble_eq_true rfl)) rfl ?_
  rintro _ _ ⟨rfl, rfl⟩ -
  by_cases p_1 : w < 10
  · skip
    refine v_stk (st' := .int 0 :: []) (congrArg (fun z : Int32 => Value.int z :: []) (show niF w 10 13 = 0 by simp only [niF, if_pos p_1])) ?_
    refine v_if_eq (t := 46) (n := 14) C dX12_tell_11 (by decide) rfl (fun c_2 => ?_) (fun c_2 => ?_)
    · skip
      refine v_iload_n (n := 47) C dX12_tell_46 rfl rfl rfl ?_
      by_cases c_8 : w = 0
      · refine v_tableIn (t := 80) C dX12_tell_47 (by rw [c_8]; decide) (by rw [c_8]; decide) (by rw [c_8]; rfl) (by decide) ?_
        refine v_aload_n (n := 81) C dX12_tell_80 rfl rfl rfl ?_
        refine v_get (n := 84) C dX12_tell_81 rfl fl_X12_16_X12 wl_c27 rfl ?_
        refine v_iconst (n := 85) (v := 4) C dX12_tell_84 rfl (by decide) ?_
        refine v_iload_n (n := 86) C dX12_tell_85 rfl rfl rfl ?_
        refine v_imul (n := 87) C dX12_tell_86 rfl ?_
        refine v_iload_n (n := 88) C dX12_tell_87 rfl rfl rfl ?_
        refine v_iadd (n := 89) C dX12_tell_88 rfl ?_
        refine v_stk (st' := .int ((4 * (nI k)) + 0) :: [.ref (b + 30)]) (congrArg (fun z : Int32 => Value.int ((4 * (nI k)) + z) :: [.ref (b + 30)]) c_8) ?_
        refine v_iald (n := 90) C dX12_tell_89 rfl wl_c30 (rw_vp (j := 0) hk3 (by decide)) ?_
        refine v_stk (st' := .int ((ar 30) (4 * k + 0)) :: []) (congrArg (fun z : Nat => Value.int ((ar 30) z) :: []) (rw_c (j := 0) hk3 (by decide))) ?_
        exact v_iret C dX12_tell_90 rfl rfl ⟨by first | rfl | (simp only [mteF, niF, if_pos p_1, if_neg (Int32.not_le.mpr p_1), if_pos c_2, if_pos c_8]; done) | (simp only [mteF, niF, eq_true p_1, eq_false (Int32.not_le.mpr p_1), eq_true c_2, eq_true c_8, ↓reduceIte]; done) | (simp only [mteF, niF, eq_true p_1, eq_false (Int32.not_le.mpr p_1), eq_true c_2, eq_true c_8, ↓reduceIte] <;> rfl) | (simp [mteF, niF, p_1, c_2, c_8]; done), rfl⟩
      by_cases c_9 : w = 1
      · refine v_tableIn (t := 80) C dX12_tell_47 (by rw [c_9]; decide) (by rw [c_9]; decide) (by rw [c_9]; rfl) (by decide) ?_
        refine v_aload_n (n := 81) C dX12_tell_80 rfl rfl rfl ?_
        refine v_get (n := 84) C dX12_tell_81 rfl fl_X12_16_X12 wl_c27 rfl ?_
        refine v_iconst (n := 85) (v := 4) C dX12_tell_84 rfl (by decide) ?_
        refine v_iload_n (n := 86) C dX12_tell_85 rfl rfl rfl ?_
        refine v_imul (n := 87) C dX12_tell_86 rfl ?_
        refine v_iload_n (n := 88) C dX12_tell_87 rfl rfl rfl ?_
        refine v_iadd (n := 89) C dX12_tell_88 rfl ?_
        refine v_stk (st' := .int ((4 * (nI k)) + 1) :: [.ref (b + 30)]) (congrArg (fun z : Int32 => Value.int ((4 * (nI k)) + z) :: [.ref (b + 30)]) c_9) ?_
        refine v_iald (n := 90) C dX12_tell_89 rfl wl_c30 (rw_vp (j := 1) hk3 (by decide)) ?_
        refine v_stk (st' := .int ((ar 30) (4 * k + 1)) :: []) (congrArg (fun z : Nat => Value.int ((ar 30) z) :: []) (rw_c (j := 1) hk3 (by decide))) ?_
        exact v_iret C dX12_tell_90 rfl rfl ⟨by first | rfl | (simp only [mteF, niF, if_pos p_1, if_neg (Int32.not_le.mpr p_1), if_pos c_2, if_neg c_8, if_pos c_9]; done) | (simp only [mteF, niF, eq_true p_1, eq_false (Int32.not_le.mpr p_1), eq_true c_2, eq_false c_8, eq_true c_9, ↓reduceIte]; done) | (simp only [mteF, niF, eq_true p_1, eq_false (Int32.not_le.mpr p_1), eq_true c_2, eq_false c_8, eq_true c_9, ↓reduceIte] <;> rfl) | (simp [mteF, niF, p_1, c_2, c_8, c_9]; done), rfl⟩
      by_cases c_10 : w = 2
      · refine v_tableIn (t := 80) C dX12_tell_47 (by rw [c_10]; decide) (by rw [c_10]; decide) (by rw [c_10]; rfl) (by decide) ?_
        refine v_aload_n (n := 81) C dX12_tell_80 rfl rfl rfl ?_
        refine v_get (n := 84) C dX12_tell_81 rfl fl_X12_16_X12 wl_c27 rfl ?_
        refine v_iconst (n := 85) (v := 4) C dX12_tell_84 rfl (by decide) ?_
        refine v_iload_n (n := 86) C dX12_tell_85 rfl rfl rfl ?_
        refine v_imul (n := 87) C dX12_tell_86 rfl ?_
        refine v_iload_n (n := 88) C dX12_tell_87 rfl rfl rfl ?_
        refine v_iadd (n := 89) C dX12_tell_88 rfl ?_
        refine v_stk (st' := .int ((4 * (nI k)) + 2) :: [.ref (b + 30)]) (congrArg (fun z : Int32 => Value.int ((4 * (nI k)) + z) :: [.ref (b + 30)]) c_10) ?_
        refine v_iald (n := 90) C dX12_tell_89 rfl wl_c30 (rw_vp (j := 2) hk3 (by decide)) ?_
        refine v_stk (st' := .int ((ar 30) (4 * k + 2)) :: []) (congrArg (fun z : Nat => Value.int ((ar 30) z) :: []) (rw_c (j := 2) hk3 (by decide))) ?_
        exact v_iret C dX12_tell_90 rfl rfl ⟨by first | rfl | (simp only [mteF, niF, if_pos p_1, if_neg (Int32.not_le.mpr p_1), if_pos c_2, if_neg c_8, if_neg c_9, if_pos c_10]; done) | (simp only [mteF, niF, eq_true p_1, eq_false (Int32.not_le.mpr p_1), eq_true c_2, eq_false c_8, eq_false c_9, eq_true c_10, ↓reduceIte]; done) | (simp only [mteF, niF, eq_true p_1, eq_false (Int32.not_le.mpr p_1), eq_true c_2, eq_false c_8, eq_false c_9, eq_true c_10, ↓reduceIte] <;> rfl) | (simp [mteF, niF, p_1, c_2, c_8, c_9, c_10]; done), rfl⟩
      by_cases c_11 : w = 3
      · refine v_tableIn (t := 91) C dX12_tell_47 (by rw [c_11]; decide) (by rw [c_11]; decide) (by rw [c_11]; rfl) (by decide) ?_
        refine v_aload_n (n := 92) C dX12_tell_91 rfl rfl rfl ?_
        refine v_iload_n (n := 93) C dX12_tell_92 rfl rfl rfl ?_
        refine v_go (n := 96) C (vRun_V (As := [.int (nI k)]) (rest := []) C wl_c27 rfl lk_X12_131 im_X12_isStranded se_X12_isStranded dX12_tell_93 (m_isStranded l D b sc ar hn mh G k hk3 hxr) wm_X12_isStranded rfl rfl ⟨Nat.le_of_ble_eq_true rfl, Nat.le_of_ble_eq_true rfl⟩ ⟨Nat.le_of_ble_eq_true rfl, Nat.le_of_ble_eq_true rfl⟩ (Nat.le_of_ble_eq_true rfl)) rfl ?_
        rintro _ _ ⟨rfl, rfl⟩ -
        refine v_if_eq (t := 103) (n := 99) C dX12_tell_96 (by decide) rfl (fun c_12 => ?_) (fun c_12 => ?_)
        · skip
          refine v_iconst (n := 104) (v := 0) C dX12_tell_103 rfl (by decide) ?_
          exact v_iret C dX12_tell_104 rfl rfl ⟨by first | rfl | (simp only [mteF, niF, if_pos p_1, if_neg (Int32.not_le.mpr p_1), if_pos c_2, if_neg c_8, if_neg c_9, if_neg c_10, if_pos c_11, if_pos c_12]; done) | (simp only [mteF, niF, eq_true p_1, eq_false (Int32.not_le.mpr p_1), eq_true c_2, eq_false c_8, eq_false c_9, eq_false c_10, eq_true c_11, eq_true c_12, ↓reduceIte]; done) | (simp only [mteF, niF, eq_true p_1, eq_false (Int32.not_le.mpr p_1), eq_true c_2, eq_false c_8, eq_false c_9, eq_false c_10, eq_true c_11, eq_true c_12, ↓reduceIte] <;> rfl) | (simp [mteF, niF, p_1, c_2, c_8, c_9, c_10, c_11, c_12]; done), rfl⟩
        · skip
          refine v_iconst (n := 100) (v := 1) C dX12_tell_99 rfl (by decide) ?_
          refine v_goto (t := 104) C dX12_tell_100 (by decide) ?_
          exact v_iret C dX12_tell_104 rfl rfl ⟨by first | rfl | (simp only [mteF, niF, if_pos p_1, if_neg (Int32.not_le.mpr p_1), if_pos c_2, if_neg c_8, if_neg c_9, if_neg c_10, if_pos c_11, if_neg c_12]; done) | (simp only [mteF, niF, eq_true p_1, eq_false (Int32.not_le.mpr p_1), eq_true c_2, eq_false c_8, eq_false c_9, eq_false c_10, eq_true c_11, eq_false c_12, ↓reduceIte]; done) | (simp only [mteF, niF, eq_true p_1, eq_false (Int32.not_le.mpr p_1), eq_true c_2, eq_false c_8, eq_false c_9, eq_false c_10, eq_true c_11, eq_false c_12, ↓reduceIte] <;> rfl) | (simp [mteF, niF, p_1, c_2, c_8, c_9, c_10, c_11, c_12]; done), rfl⟩
      by_cases c_13 : w = 4
      · refine v_tableIn (t := 105) C dX12_tell_47 (by rw [c_13]; decide) (by rw [c_13]; decide) (by rw [c_13]; rfl) (by decide) ?_
        refine v_aload_n (n := 106) C dX12_tell_105 rfl rfl rfl ?_
        refine v_get (n := 109) C dX12_tell_106 rfl fl_X12_16_X12 wl_c27 rfl ?_
        refine v_iconst (n := 110) (v := 4) C dX12_tell_109 rfl (by decide) ?_
        refine v_iload_n (n := 111) C dX12_tell_110 rfl rfl rfl ?_
        refine v_imul (n := 112) C dX12_tell_111 rfl ?_
        refine v_iconst (n := 113) (v := 3) C dX12_tell_112 rfl (by decide) ?_
        refine v_iadd (n := 114) C dX12_tell_113 rfl ?_
        refine v_iald (n := 115) C dX12_tell_114 rfl wl_c30 (rw_vp (j := 3) hk3 (by decide)) ?_
        refine v_stk (st' := .int ((ar 30) (4 * k + 3)) :: []) (congrArg (fun z : Nat => Value.int ((ar 30) z) :: []) (rw_c (j := 3) hk3 (by decide))) ?_
        exact v_iret C dX12_tell_115 rfl rfl ⟨by first | rfl | (simp only [mteF, niF, if_pos p_1, if_neg (Int32.not_le.mpr p_1), if_pos c_2, if_neg c_8, if_neg c_9, if_neg c_10, if_neg c_11, if_pos c_13]; done) | (simp only [mteF, niF, eq_true p_1, eq_false (Int32.not_le.mpr p_1), eq_true c_2, eq_false c_8, eq_false c_9, eq_false c_10, eq_false c_11, eq_true c_13, ↓reduceIte]; done) | (simp only [mteF, niF, eq_true p_1, eq_false (Int32.not_le.mpr p_1), eq_true c_2, eq_false c_8, eq_false c_9, eq_false c_10, eq_false c_11, eq_true c_13, ↓reduceIte] <;> rfl) | (simp [mteF, niF, p_1, c_2, c_8, c_9, c_10, c_11, c_13]; done), rfl⟩
      refine v_tableOut (t := 116) C dX12_tell_47 (sw_out5 c_8 c_9 c_10 c_11 c_13) (by decide) ?_
      refine v_bipush (n := 118) (v := -102) C dX12_tell_116 rfl (by decide) ?_
      exact v_iret C dX12_tell_118 rfl rfl ⟨by first | rfl | (simp only [mteF, niF, if_pos p_1, if_neg (Int32.not_le.mpr p_1), if_pos c_2, if_neg c_8, if_neg c_9, if_neg c_10, if_neg c_11, if_neg c_13]; done) | (simp only [mteF, niF, eq_true p_1, eq_false (Int32.not_le.mpr p_1), eq_true c_2, eq_false c_8, eq_false c_9, eq_false c_10, eq_false c_11, eq_false c_13, ↓reduceIte]; done) | (simp only [mteF, niF, eq_true p_1, eq_false (Int32.not_le.mpr p_1), eq_true c_2, eq_false c_8, eq_false c_9, eq_false c_10, eq_false c_11, eq_false c_13, ↓reduceIte] <;> rfl) | (simp [mteF, niF, p_1, c_2, c_8, c_9, c_10, c_11, c_13]; done), rfl⟩
    · exact absurd c_2 (by decide)
  by_cases p_14 : 13 < w
  · skip
    refine v_stk (st' := .int 0 :: []) (congrArg (fun z : Int32 => Value.int z :: []) (show niF w 10 13 = 0 by simp only [niF, if_neg p_1, if_pos p_14])) ?_
    refine v_if_eq (t := 46) (n := 14) C dX12_tell_11 (by decide) rfl (fun c_15 => ?_) (fun c_15 => ?_)
    · skip
      refine v_iload_n (n := 47) C dX12_tell_46 rfl rfl rfl ?_
      by_cases c_21 : w = 0
      · refine v_tableIn (t := 80) C dX12_tell_47 (by rw [c_21]; decide) (by rw [c_21]; decide) (by rw [c_21]; rfl) (by decide) ?_
        refine v_aload_n (n := 81) C dX12_tell_80 rfl rfl rfl ?_
        refine v_get (n := 84) C dX12_tell_81 rfl fl_X12_16_X12 wl_c27 rfl ?_
        refine v_iconst (n := 85) (v := 4) C dX12_tell_84 rfl (by decide) ?_
        refine v_iload_n (n := 86) C dX12_tell_85 rfl rfl rfl ?_
        refine v_imul (n := 87) C dX12_tell_86 rfl ?_
        refine v_iload_n (n := 88) C dX12_tell_87 rfl rfl rfl ?_
        refine v_iadd (n := 89) C dX12_tell_88 rfl ?_
        refine v_stk (st' := .int ((4 * (nI k)) + 0) :: [.ref (b + 30)]) (congrArg (fun z : Int32 => Value.int ((4 * (nI k)) + z) :: [.ref (b + 30)]) c_21) ?_
        refine v_iald (n := 90) C dX12_tell_89 rfl wl_c30 (rw_vp (j := 0) hk3 (by decide)) ?_
        refine v_stk (st' := .int ((ar 30) (4 * k + 0)) :: []) (congrArg (fun z : Nat => Value.int ((ar 30) z) :: []) (rw_c (j := 0) hk3 (by decide))) ?_
        exact v_iret C dX12_tell_90 rfl rfl ⟨by first | rfl | (simp only [mteF, niF, if_neg p_1, if_pos (Int32.not_lt.mp p_1), if_pos p_14, if_neg (Int32.not_le.mpr p_14), if_pos c_15, if_pos c_21]; done) | (simp only [mteF, niF, eq_false p_1, eq_true (Int32.not_lt.mp p_1), eq_true p_14, eq_false (Int32.not_le.mpr p_14), eq_true c_15, eq_true c_21, ↓reduceIte]; done) | (simp only [mteF, niF, eq_false p_1, eq_true (Int32.not_lt.mp p_1), eq_true p_14, eq_false (Int32.not_le.mpr p_14), eq_true c_15, eq_true c_21, ↓reduceIte] <;> rfl) | (simp [mteF, niF, p_1, p_14, c_15, c_21]; done), rfl⟩
      by_cases c_22 : w = 1
      · refine v_tableIn (t := 80) C dX12_tell_47 (by rw [c_22]; decide) (by rw [c_22]; decide) (by rw [c_22]; rfl) (by decide) ?_
        refine v_aload_n (n := 81) C dX12_tell_80 rfl rfl rfl ?_
        refine v_get (n := 84) C dX12_tell_81 rfl fl_X12_16_X12 wl_c27 rfl ?_
        refine v_iconst (n := 85) (v := 4) C dX12_tell_84 rfl (by decide) ?_
        refine v_iload_n (n := 86) C dX12_tell_85 rfl rfl rfl ?_
        refine v_imul (n := 87) C dX12_tell_86 rfl ?_
        refine v_iload_n (n := 88) C dX12_tell_87 rfl rfl rfl ?_
        refine v_iadd (n := 89) C dX12_tell_88 rfl ?_
        refine v_stk (st' := .int ((4 * (nI k)) + 1) :: [.ref (b + 30)]) (congrArg (fun z : Int32 => Value.int ((4 * (nI k)) + z) :: [.ref (b + 30)]) c_22) ?_
        refine v_iald (n := 90) C dX12_tell_89 rfl wl_c30 (rw_vp (j := 1) hk3 (by decide)) ?_
        refine v_stk (st' := .int ((ar 30) (4 * k + 1)) :: []) (congrArg (fun z : Nat => Value.int ((ar 30) z) :: []) (rw_c (j := 1) hk3 (by decide))) ?_
        exact v_iret C dX12_tell_90 rfl rfl ⟨by first | rfl | (simp only [mteF, niF, if_neg p_1, if_pos (Int32.not_lt.mp p_1), if_pos p_14, if_neg (Int32.not_le.mpr p_14), if_pos c_15, if_neg c_21, if_pos c_22]; done) | (simp only [mteF, niF, eq_false p_1, eq_true (Int32.not_lt.mp p_1), eq_true p_14, eq_false (Int32.not_le.mpr p_14), eq_true c_15, eq_false c_21, eq_true c_22, ↓reduceIte]; done) | (simp only [mteF, niF, eq_false p_1, eq_true (Int32.not_lt.mp p_1), eq_true p_14, eq_false (Int32.not_le.mpr p_14), eq_true c_15, eq_false c_21, eq_true c_22, ↓reduceIte] <;> rfl) | (simp [mteF, niF, p_1, p_14, c_15, c_21, c_22]; done), rfl⟩
      by_cases c_23 : w = 2
      · refine v_tableIn (t := 80) C dX12_tell_47 (by rw [c_23]; decide) (by rw [c_23]; decide) (by rw [c_23]; rfl) (by decide) ?_
        refine v_aload_n (n := 81) C dX12_tell_80 rfl rfl rfl ?_
        refine v_get (n := 84) C dX12_tell_81 rfl fl_X12_16_X12 wl_c27 rfl ?_
        refine v_iconst (n := 85) (v := 4) C dX12_tell_84 rfl (by decide) ?_
        refine v_iload_n (n := 86) C dX12_tell_85 rfl rfl rfl ?_
        refine v_imul (n := 87) C dX12_tell_86 rfl ?_
        refine v_iload_n (n := 88) C dX12_tell_87 rfl rfl rfl ?_
        refine v_iadd (n := 89) C dX12_tell_88 rfl ?_
        refine v_stk (st' := .int ((4 * (nI k)) + 2) :: [.ref (b + 30)]) (congrArg (fun z : Int32 => Value.int ((4 * (nI k)) + z) :: [.ref (b + 30)]) c_23) ?_
        refine v_iald (n := 90) C dX12_tell_89 rfl wl_c30 (rw_vp (j := 2) hk3 (by decide)) ?_
        refine v_stk (st' := .int ((ar 30) (4 * k + 2)) :: []) (congrArg (fun z : Nat => Value.int ((ar 30) z) :: []) (rw_c (j := 2) hk3 (by decide))) ?_
        exact v_iret C dX12_tell_90 rfl rfl ⟨by first | rfl | (simp only [mteF, niF, if_neg p_1, if_pos (Int32.not_lt.mp p_1), if_pos p_14, if_neg (Int32.not_le.mpr p_14), if_pos c_15, if_neg c_21, if_neg c_22, if_pos c_23]; done) | (simp only [mteF, niF, eq_false p_1, eq_true (Int32.not_lt.mp p_1), eq_true p_14, eq_false (Int32.not_le.mpr p_14), eq_true c_15, eq_false c_21, eq_false c_22, eq_true c_23, ↓reduceIte]; done) | (simp only [mteF, niF, eq_false p_1, eq_true (Int32.not_lt.mp p_1), eq_true p_14, eq_false (Int32.not_le.mpr p_14), eq_true c_15, eq_false c_21, eq_false c_22, eq_true c_23, ↓reduceIte] <;> rfl) | (simp [mteF, niF, p_1, p_14, c_15, c_21, c_22, c_23]; done), rfl⟩
      by_cases c_24 : w = 3
      · refine v_tableIn (t := 91) C dX12_tell_47 (by rw [c_24]; decide) (by rw [c_24]; decide) (by rw [c_24]; rfl) (by decide) ?_
        refine v_aload_n (n := 92) C dX12_tell_91 rfl rfl rfl ?_
        refine v_iload_n (n := 93) C dX12_tell_92 rfl rfl rfl ?_
        refine v_go (n := 96) C (vRun_V (As := [.int (nI k)]) (rest := []) C wl_c27 rfl lk_X12_131 im_X12_isStranded se_X12_isStranded dX12_tell_93 (m_isStranded l D b sc ar hn mh G k hk3 hxr) wm_X12_isStranded rfl rfl ⟨Nat.le_of_ble_eq_true rfl, Nat.le_of_ble_eq_true rfl⟩ ⟨Nat.le_of_ble_eq_true rfl, Nat.le_of_ble_eq_true rfl⟩ (Nat.le_of_ble_eq_true rfl)) rfl ?_
        rintro _ _ ⟨rfl, rfl⟩ -
        refine v_if_eq (t := 103) (n := 99) C dX12_tell_96 (by decide) rfl (fun c_25 => ?_) (fun c_25 => ?_)
        · skip
          refine v_iconst (n := 104) (v := 0) C dX12_tell_103 rfl (by decide) ?_
          exact v_iret C dX12_tell_104 rfl rfl ⟨by first | rfl | (simp only [mteF, niF, if_neg p_1, if_pos (Int32.not_lt.mp p_1), if_pos p_14, if_neg (Int32.not_le.mpr p_14), if_pos c_15, if_neg c_21, if_neg c_22, if_neg c_23, if_pos c_24, if_pos c_25]; done) | (simp only [mteF, niF, eq_false p_1, eq_true (Int32.not_lt.mp p_1), eq_true p_14, eq_false (Int32.not_le.mpr p_14), eq_true c_15, eq_false c_21, eq_false c_22, eq_false c_23, eq_true c_24, eq_true c_25, ↓reduceIte]; done) | (simp only [mteF, niF, eq_false p_1, eq_true (Int32.not_lt.mp p_1), eq_true p_14, eq_false (Int32.not_le.mpr p_14), eq_true c_15, eq_false c_21, eq_false c_22, eq_false c_23, eq_true c_24, eq_true c_25, ↓reduceIte] <;> rfl) | (simp [mteF, niF, p_1, p_14, c_15, c_21, c_22, c_23, c_24, c_25]; done), rfl⟩
        · skip
          refine v_iconst (n := 100) (v := 1) C dX12_tell_99 rfl (by decide) ?_
          refine v_goto (t := 104) C dX12_tell_100 (by decide) ?_
          exact v_iret C dX12_tell_104 rfl rfl ⟨by first | rfl | (simp only [mteF, niF, if_neg p_1, if_pos (Int32.not_lt.mp p_1), if_pos p_14, if_neg (Int32.not_le.mpr p_14), if_pos c_15, if_neg c_21, if_neg c_22, if_neg c_23, if_pos c_24, if_neg c_25]; done) | (simp only [mteF, niF, eq_false p_1, eq_true (Int32.not_lt.mp p_1), eq_true p_14, eq_false (Int32.not_le.mpr p_14), eq_true c_15, eq_false c_21, eq_false c_22, eq_false c_23, eq_true c_24, eq_false c_25, ↓reduceIte]; done) | (simp only [mteF, niF, eq_false p_1, eq_true (Int32.not_lt.mp p_1), eq_true p_14, eq_false (Int32.not_le.mpr p_14), eq_true c_15, eq_false c_21, eq_false c_22, eq_false c_23, eq_true c_24, eq_false c_25, ↓reduceIte] <;> rfl) | (simp [mteF, niF, p_1, p_14, c_15, c_21, c_22, c_23, c_24, c_25]; done), rfl⟩
      by_cases c_26 : w = 4
      · refine v_tableIn (t := 105) C dX12_tell_47 (by rw [c_26]; decide) (by rw [c_26]; decide) (by rw [c_26]; rfl) (by decide) ?_
        refine v_aload_n (n := 106) C dX12_tell_105 rfl rfl rfl ?_
        refine v_get (n := 109) C dX12_tell_106 rfl fl_X12_16_X12 wl_c27 rfl ?_
        refine v_iconst (n := 110) (v := 4) C dX12_tell_109 rfl (by decide) ?_
        refine v_iload_n (n := 111) C dX12_tell_110 rfl rfl rfl ?_
        refine v_imul (n := 112) C dX12_tell_111 rfl ?_
        refine v_iconst (n := 113) (v := 3) C dX12_tell_112 rfl (by decide) ?_
        refine v_iadd (n := 114) C dX12_tell_113 rfl ?_
        refine v_iald (n := 115) C dX12_tell_114 rfl wl_c30 (rw_vp (j := 3) hk3 (by decide)) ?_
        refine v_stk (st' := .int ((ar 30) (4 * k + 3)) :: []) (congrArg (fun z : Nat => Value.int ((ar 30) z) :: []) (rw_c (j := 3) hk3 (by decide))) ?_
        exact v_iret C dX12_tell_115 rfl rfl ⟨by first | rfl | (simp only [mteF, niF, if_neg p_1, if_pos (Int32.not_lt.mp p_1), if_pos p_14, if_neg (Int32.not_le.mpr p_14), if_pos c_15, if_neg c_21, if_neg c_22, if_neg c_23, if_neg c_24, if_pos c_26]; done) | (simp only [mteF, niF, eq_false p_1, eq_true (Int32.not_lt.mp p_1), eq_true p_14, eq_false (Int32.not_le.mpr p_14), eq_true c_15, eq_false c_21, eq_false c_22, eq_false c_23, eq_false c_24, eq_true c_26, ↓reduceIte]; done) | (simp only [mteF, niF, eq_false p_1, eq_true (Int32.not_lt.mp p_1), eq_true p_14, eq_false (Int32.not_le.mpr p_14), eq_true c_15, eq_false c_21, eq_false c_22, eq_false c_23, eq_false c_24, eq_true c_26, ↓reduceIte] <;> rfl) | (simp [mteF, niF, p_1, p_14, c_15, c_21, c_22, c_23, c_24, c_26]; done), rfl⟩
      refine v_tableOut (t := 116) C dX12_tell_47 (sw_out5 c_21 c_22 c_23 c_24 c_26) (by decide) ?_
      refine v_bipush (n := 118) (v := -102) C dX12_tell_116 rfl (by decide) ?_
      exact v_iret C dX12_tell_118 rfl rfl ⟨by first | rfl | (simp only [mteF, niF, if_neg p_1, if_pos (Int32.not_lt.mp p_1), if_pos p_14, if_neg (Int32.not_le.mpr p_14), if_pos c_15, if_neg c_21, if_neg c_22, if_neg c_23, if_neg c_24, if_neg c_26]; done) | (simp only [mteF, niF, eq_false p_1, eq_true (Int32.not_lt.mp p_1), eq_true p_14, eq_false (Int32.not_le.mpr p_14), eq_true c_15, eq_false c_21, eq_false c_22, eq_false c_23, eq_false c_24, eq_false c_26, ↓reduceIte]; done) | (simp only [mteF, niF, eq_false p_1, eq_true (Int32.not_lt.mp p_1), eq_true p_14, eq_false (Int32.not_le.mpr p_14), eq_true c_15, eq_false c_21, eq_false c_22, eq_false c_23, eq_false c_24, eq_false c_26, ↓reduceIte] <;> rfl) | (simp [mteF, niF, p_1, p_14, c_15, c_21, c_22, c_23, c_24, c_26]; done), rfl⟩
    · exact absurd c_15 (by decide)
  refine v_stk (st' := .int 1 :: []) (congrArg (fun z : Int32 => Value.int z :: []) (show niF w 10 13 = 1 by simp only [niF, if_neg p_1, if_neg p_14])) ?_
  refine v_if_eq (t := 46) (n := 14) C dX12_tell_11 (by decide) rfl (fun c_27 => ?_) (fun c_27 => ?_)
  · exact absurd c_27 (by decide)
  · skip
    refine v_aload_n (n := 15) C dX12_tell_14 rfl rfl rfl ?_
    refine v_iload_n (n := 16) C dX12_tell_15 rfl rfl rfl ?_
    refine v_aload_n (n := 17) C dX12_tell_16 rfl rfl rfl ?_
    refine v_get (n := 20) C dX12_tell_17 rfl fl_X12_16_X12 wl_c27 rfl ?_
    refine v_iconst (n := 21) (v := 4) C dX12_tell_20 rfl (by decide) ?_
    refine v_iload_n (n := 22) C dX12_tell_21 rfl rfl rfl ?_
    refine v_imul (n := 23) C dX12_tell_22 rfl ?_
    refine v_iconst (n := 24) (v := 2) C dX12_tell_23 rfl (by decide) ?_
    refine v_iadd (n := 25) C dX12_tell_24 rfl ?_
    refine v_iald (n := 26) C dX12_tell_25 rfl wl_c30 (rw_vp (j := 2) hk3 (by decide)) ?_
    refine v_stk (st' := .int ((ar 30) (4 * k + 2)) :: [.int (nI k), .ref (b + 27)]) (congrArg (fun z : Nat => Value.int ((ar 30) z) :: [.int (nI k), .ref (b + 27)]) (rw_c (j := 2) hk3 (by decide))) ?_
    refine v_aload_n (n := 27) C dX12_tell_26 rfl rfl rfl ?_
    refine v_get (n := 30) C dX12_tell_27 rfl fl_X12_75_X12 wl_c27 rfl ?_
    refine v_iload_n (n := 31) C dX12_tell_30 rfl rfl rfl ?_
    refine v_bipush (n := 33) (v := 10) C dX12_tell_31 rfl (by decide) ?_
    refine v_isub (n := 34) C dX12_tell_33 rfl ?_
    refine v_aload_n (n := 35) C dX12_tell_34 rfl rfl rfl ?_
    refine v_get (n := 38) C dX12_tell_35 rfl fl_X12_50_X12 wl_c27 rfl ?_
    refine v_aload_n (n := 39) C dX12_tell_38 rfl rfl rfl ?_
    refine v_get (n := 42) C dX12_tell_39 rfl fl_X12_72_X12 wl_c27 rfl ?_
    refine v_go (n := 45) C (vRun_V (As := [.int (nI k), .int ((ar 30) (4 * k + 2)), .int (sc 22), .int (w - 10), .int (sc 23), .int (sc 21)]) (rest := []) C wl_c27 rfl lk_X12_127 im_X12_hoursOf se_X12_hoursOf dX12_tell_42 (m_hoursOf l D b sc ar hn mh G k hk3 ((ar 30) (4 * k + 2)) (sc 22) (w - 10) (sc 23) (sc 21) hxr) wm_X12_hoursOf rfl rfl ⟨Nat.le_of_ble_eq_true rfl, Nat.le_of_ble_eq_true rfl⟩ ⟨Nat.le_of_ble_eq_true rfl, Nat.le_of_ble_eq_true rfl⟩ (Nat.le_of_ble_eq_true rfl)) rfl ?_
    rintro _ _ ⟨rfl, rfl⟩ -
    exact v_iret C dX12_tell_45 rfl rfl ⟨by first | rfl | (simp only [mteF, niF, if_neg p_1, if_pos (Int32.not_lt.mp p_1), if_neg p_14, if_pos (Int32.not_lt.mp p_14), if_neg c_27]; done) | (simp only [mteF, niF, eq_false p_1, eq_true (Int32.not_lt.mp p_1), eq_false p_14, eq_true (Int32.not_lt.mp p_14), eq_false c_27, ↓reduceIte]; done) | (simp only [mteF, niF, eq_false p_1, eq_true (Int32.not_lt.mp p_1), eq_false p_14, eq_true (Int32.not_lt.mp p_14), eq_false c_27, ↓reduceIte] <;> rfl) | (simp [mteF, niF, p_1, p_14, c_27]; done), rfl⟩
set_option maxHeartbeats 4000000 in
set_option maxRecDepth 100000 in
theorem m_about (l : Launch) (D : va_G) (b : Nat) (sc : Nat → Int32) (ar : Nat → Nat → Int32) (hn : Nat → Option Nat) (mh : Int64) (G : List va_E) (x w : Int32) (Hn : Nat) (hH : sc 25 = nI Hn) (hH3 : Hn ≤ 3) (hrc : ∀ k, k < Hn → vp_in (ar 30 (4 * k + 2)) 12) : Con l yX12_about cX12_about 3 (some .int) 4 100 D b 0 0 (wl D b sc ar hn mh G) [.ref (b + 27), .int x, .int w] (fun r es' => r = some (.int (mabF sc ar x w)) ∧ (wl D b sc ar hn mh G) = es') := by
  refine con_of (by decide) (Nat.le_of_ble_eq_true rfl) (fun p e s m args below meth c C hsz => ?_)
  have C : vC p s m args meth c cX12_about 3 RX12 "about" (some .int) D b := C
  change V p l e _ s m args below meth c D b 3 _ 0 0 (wl D b sc ar hn mh G) [(0, .ref (b + 27)), (1, .int x), (2, .int w)] [] 0
  refine v_aload_n (n := 1) C dX12_about_0 rfl rfl rfl ?_
  refine v_iload_n (n := 2) C dX12_about_1 rfl rfl rfl ?_
  refine v_go (n := 5) C (vRun_V (As := [.int x]) (rest := []) C wl_c27 rfl lk_X12_134 im_X12_isHull se_X12_isHull dX12_about_2 (m_isHull l D b sc ar hn mh G x) wm_X12_isHull rfl rfl ⟨Nat.le_of_ble_eq_true rfl, Nat.le_of_ble_eq_true rfl⟩ ⟨Nat.le_of_ble_eq_true rfl, Nat.le_of_ble_eq_true rfl⟩ (Nat.le_of_ble_eq_true rfl)) rfl ?_
  rintro _ _ ⟨rfl, rfl⟩ -
  by_cases p_1 : x < 0
  · skip
    refine v_stk (st' := .int 0 :: []) (congrArg (fun z : Int32 => Value.int z :: []) (show mihF (sc 25) x = 0 by simp only [mihF, if_pos p_1])) ?_
    refine v_if_eq (t := 17) (n := 8) C dX12_about_5 (by decide) rfl (fun c_2 => ?_) (fun c_2 => ?_)
    · skip
      refine v_bipush (n := 19) (v := -101) C dX12_about_17 rfl (by decide) ?_
      exact v_iret C dX12_about_19 rfl rfl ⟨by first | rfl | (simp only [mabF, if_pos p_1, if_neg (Int32.not_le.mpr p_1), if_pos c_2]; done) | (simp only [mabF, eq_true p_1, eq_false (Int32.not_le.mpr p_1), eq_true c_2, ↓reduceIte]; done) | (simp only [mabF, eq_true p_1, eq_false (Int32.not_le.mpr p_1), eq_true c_2, ↓reduceIte] <;> rfl) | (simp [mabF, p_1, c_2]; done), rfl⟩
    · exact absurd c_2 (by decide)
  by_cases p_3 : (sc 25) - 1 < x
  · skip
    refine v_stk (st' := .int 0 :: []) (congrArg (fun z : Int32 => Value.int z :: []) (show mihF (sc 25) x = 0 by simp only [mihF, if_neg p_1, if_pos p_3])) ?_
    refine v_if_eq (t := 17) (n := 8) C dX12_about_5 (by decide) rfl (fun c_4 => ?_) (fun c_4 => ?_)
    · skip
      refine v_bipush (n := 19) (v := -101) C dX12_about_17 rfl (by decide) ?_
      exact v_iret C dX12_about_19 rfl rfl ⟨by first | rfl | (simp only [mabF, if_neg p_1, if_pos (Int32.not_lt.mp p_1), if_pos p_3, if_neg (Int32.not_le.mpr p_3), if_pos c_4]; done) | (simp only [mabF, eq_false p_1, eq_true (Int32.not_lt.mp p_1), eq_true p_3, eq_false (Int32.not_le.mpr p_3), eq_true c_4, ↓reduceIte]; done) | (simp only [mabF, eq_false p_1, eq_true (Int32.not_lt.mp p_1), eq_true p_3, eq_false (Int32.not_le.mpr p_3), eq_true c_4, ↓reduceIte] <;> rfl) | (simp [mabF, p_1, p_3, c_4]; done), rfl⟩
    · exact absurd c_4 (by decide)
  refine v_stk (st' := .int 1 :: []) (congrArg (fun z : Int32 => Value.int z :: []) (show mihF (sc 25) x = 1 by simp only [mihF, if_neg p_1, if_neg p_3])) ?_
  obtain ⟨kN, hkN, rfl⟩ := ih_k hH hH3 p_1 p_3
  have hkc : (nI kN).toNatClampNeg = kN := nI_clamp (by omega)
  refine v_if_eq (t := 17) (n := 8) C dX12_about_5 (by decide) rfl (fun c_5 => ?_) (fun c_5 => ?_)
  · exact absurd c_5 (by decide)
  · skip
    refine v_aload_n (n := 9) C dX12_about_8 rfl rfl rfl ?_
    refine v_iload_n (n := 10) C dX12_about_9 rfl rfl rfl ?_
    refine v_iload_n (n := 11) C dX12_about_10 rfl rfl rfl ?_
    refine v_go (n := 14) C (vRun_V (As := [.int (nI kN), .int w]) (rest := []) C wl_c27 rfl lk_X12_137 im_X12_tell se_X12_tell dX12_about_11 (m_tell l D b sc ar hn mh G kN (by omega) w (hrc kN (by omega))) wm_X12_tell rfl rfl ⟨Nat.le_of_ble_eq_true rfl, Nat.le_of_ble_eq_true rfl⟩ ⟨Nat.le_of_ble_eq_true rfl, Nat.le_of_ble_eq_true rfl⟩ (Nat.le_of_ble_eq_true rfl)) rfl ?_
    rintro _ _ ⟨rfl, rfl⟩ -
    refine v_goto (t := 19) C dX12_about_14 (by decide) ?_
    exact v_iret C dX12_about_19 rfl rfl ⟨by first | rfl | (simp only [mabF, if_neg p_1, if_pos (Int32.not_lt.mp p_1), if_neg p_3, if_pos (Int32.not_lt.mp p_3), hkc, if_neg c_5]; done) | (simp only [mabF, eq_false p_1, eq_true (Int32.not_lt.mp p_1), eq_false p_3, eq_true (Int32.not_lt.mp p_3), hkc, eq_false c_5, ↓reduceIte]; done) | (simp only [mabF, eq_false p_1, eq_true (Int32.not_lt.mp p_1), eq_false p_3, eq_true (Int32.not_lt.mp p_3), hkc, eq_false c_5, ↓reduceIte] <;> rfl) | (simp [mabF, p_1, p_3, hkc, c_5]; done), rfl⟩
set_option maxHeartbeats 4000000 in
set_option maxRecDepth 100000 in
theorem m_as (l : Launch) (D : va_G) (b : Nat) (sc : Nat → Int32) (ar : Nat → Nat → Int32) (hn : Nat → Option Nat) (mh : Int64) (G : List va_E) (x w : Int32) (Hn : Nat) (hH : sc 25 = nI Hn) (hH3 : Hn ≤ 3) : Con l yX12_as cX12_as 5 (some .int) 2 46 D b 0 0 (wl D b sc ar hn mh G) [.ref (b + 27), .int x, .int w] (fun r es' => r = some (.int (masF sc ar x w)) ∧ (wl D b sc ar hn mh G) = es') := by
  refine con_of (by decide) (Nat.le_of_ble_eq_true rfl) (fun p e s m args below meth c C hsz => ?_)
  have C : vC p s m args meth c cX12_as 5 RX12 "as" (some .int) D b := C
  change V p l e _ s m args below meth c D b 5 _ 0 0 (wl D b sc ar hn mh G) [(0, .ref (b + 27)), (1, .int x), (2, .int w)] [] 0
  refine v_aload_n (n := 1) C dX12_as_0 rfl rfl rfl ?_
  refine v_iload_n (n := 2) C dX12_as_1 rfl rfl rfl ?_
  refine v_go (n := 5) C (vRun_V (As := [.int x]) (rest := []) C wl_c27 rfl lk_X12_134 im_X12_isHull se_X12_isHull dX12_as_2 (m_isHull l D b sc ar hn mh G x) wm_X12_isHull rfl rfl ⟨Nat.le_of_ble_eq_true rfl, Nat.le_of_ble_eq_true rfl⟩ ⟨Nat.le_of_ble_eq_true rfl, Nat.le_of_ble_eq_true rfl⟩ (Nat.le_of_ble_eq_true rfl)) rfl ?_
  rintro _ _ ⟨rfl, rfl⟩ -
  by_cases p_1 : x < 0
  · skip
    refine v_stk (st' := .int 0 :: []) (congrArg (fun z : Int32 => Value.int z :: []) (show mihF (sc 25) x = 0 by simp only [mihF, if_pos p_1])) ?_
    refine v_if_ne (t := 11) (n := 8) C dX12_as_5 (by decide) rfl (fun c_2 => ?_) (fun c_2 => ?_)
    · exact absurd c_2 (by decide)
    · skip
      refine v_bipush (n := 10) (v := -101) C dX12_as_8 rfl (by decide) ?_
      exact v_iret C dX12_as_10 rfl rfl ⟨by first | rfl | (simp only [masF, if_pos p_1, if_neg (Int32.not_le.mpr p_1), if_pos c_2]; done) | (simp only [masF, eq_true p_1, eq_false (Int32.not_le.mpr p_1), eq_true c_2, ↓reduceIte]; done) | (simp only [masF, eq_true p_1, eq_false (Int32.not_le.mpr p_1), eq_true c_2, ↓reduceIte] <;> rfl) | (simp [masF, p_1, c_2]; done), rfl⟩
  by_cases p_3 : (sc 25) - 1 < x
  · skip
    refine v_stk (st' := .int 0 :: []) (congrArg (fun z : Int32 => Value.int z :: []) (show mihF (sc 25) x = 0 by simp only [mihF, if_neg p_1, if_pos p_3])) ?_
    refine v_if_ne (t := 11) (n := 8) C dX12_as_5 (by decide) rfl (fun c_4 => ?_) (fun c_4 => ?_)
    · exact absurd c_4 (by decide)
    · skip
      refine v_bipush (n := 10) (v := -101) C dX12_as_8 rfl (by decide) ?_
      exact v_iret C dX12_as_10 rfl rfl ⟨by first | rfl | (simp only [masF, if_neg p_1, if_pos (Int32.not_lt.mp p_1), if_pos p_3, if_neg (Int32.not_le.mpr p_3), if_pos c_4]; done) | (simp only [masF, eq_false p_1, eq_true (Int32.not_lt.mp p_1), eq_true p_3, eq_false (Int32.not_le.mpr p_3), eq_true c_4, ↓reduceIte]; done) | (simp only [masF, eq_false p_1, eq_true (Int32.not_lt.mp p_1), eq_true p_3, eq_false (Int32.not_le.mpr p_3), eq_true c_4, ↓reduceIte] <;> rfl) | (simp [masF, p_1, p_3, c_4]; done), rfl⟩
  refine v_stk (st' := .int 1 :: []) (congrArg (fun z : Int32 => Value.int z :: []) (show mihF (sc 25) x = 1 by simp only [mihF, if_neg p_1, if_neg p_3])) ?_
  obtain ⟨kN, hkN, rfl⟩ := ih_k hH hH3 p_1 p_3
  have hkc : (nI kN).toNatClampNeg = kN := nI_clamp (by omega)
  refine v_if_ne (t := 11) (n := 8) C dX12_as_5 (by decide) rfl (fun c_5 => ?_) (fun c_5 => ?_)
  · skip
    refine v_iload_n (n := 12) C dX12_as_11 rfl rfl rfl ?_
    refine v_i2l (n := 13) C dX12_as_12 rfl ?_
    refine v_lconst (n := 14) (v := 0) C dX12_as_13 rfl (by decide) ?_
    refine v_ldc2 (n := 17) C dX12_as_14 rfl kl_X12_109 ?_
    refine v_stk (st' := [.long (Int32.toInt64 4), .long (Int32.toInt64 0), .long (Int32.toInt64 w)]) rfl ?_
    refine v_go (n := 20) C (vRun_S (As := [.long (Int32.toInt64 w), .long (Int32.toInt64 0), .long (Int32.toInt64 4)]) (rest := []) C lk_X12_55 st_X12_in dX12_as_17 (c_in l D b (wl D b sc ar hn mh G) w 0 4) wm_X12_in rfl rfl ⟨Nat.le_of_ble_eq_true rfl, Nat.le_of_ble_eq_true rfl⟩ ⟨Nat.le_of_ble_eq_true rfl, Nat.le_of_ble_eq_true rfl⟩ (Nat.le_of_ble_eq_true rfl)) rfl ?_
    rintro _ _ ⟨rfl, rfl⟩ -
    by_cases p_6 : w < 0
    · skip
      refine v_stk (st' := .int 0 :: []) (congrArg (fun z : Int32 => Value.int z :: []) (show niF w 0 4 = 0 by simp only [niF, if_pos p_6])) ?_
      refine v_if_ne (t := 26) (n := 23) C dX12_as_20 (by decide) rfl (fun c_7 => ?_) (fun c_7 => ?_)
      · exact absurd c_7 (by decide)
      · skip
        refine v_bipush (n := 25) (v := -102) C dX12_as_23 rfl (by decide) ?_
        exact v_iret C dX12_as_25 rfl rfl ⟨by first | rfl | (simp only [masF, if_neg p_1, if_pos (Int32.not_lt.mp p_1), if_neg p_3, if_pos (Int32.not_lt.mp p_3), hkc, if_neg c_5, if_pos p_6, if_neg (Int32.not_le.mpr p_6), if_pos c_7]; done) | (simp only [masF, eq_false p_1, eq_true (Int32.not_lt.mp p_1), eq_false p_3, eq_true (Int32.not_lt.mp p_3), hkc, eq_false c_5, eq_true p_6, eq_false (Int32.not_le.mpr p_6), eq_true c_7, ↓reduceIte]; done) | (simp only [masF, eq_false p_1, eq_true (Int32.not_lt.mp p_1), eq_false p_3, eq_true (Int32.not_lt.mp p_3), hkc, eq_false c_5, eq_true p_6, eq_false (Int32.not_le.mpr p_6), eq_true c_7, ↓reduceIte] <;> rfl) | (simp [masF, p_1, p_3, hkc, c_5, p_6, c_7]; done), rfl⟩
    by_cases p_8 : 4 < w
    · skip
      refine v_stk (st' := .int 0 :: []) (congrArg (fun z : Int32 => Value.int z :: []) (show niF w 0 4 = 0 by simp only [niF, if_neg p_6, if_pos p_8])) ?_
      refine v_if_ne (t := 26) (n := 23) C dX12_as_20 (by decide) rfl (fun c_9 => ?_) (fun c_9 => ?_)
      · exact absurd c_9 (by decide)
      · skip
        refine v_bipush (n := 25) (v := -102) C dX12_as_23 rfl (by decide) ?_
        exact v_iret C dX12_as_25 rfl rfl ⟨by first | rfl | (simp only [masF, if_neg p_1, if_pos (Int32.not_lt.mp p_1), if_neg p_3, if_pos (Int32.not_lt.mp p_3), hkc, if_neg c_5, if_neg p_6, if_pos (Int32.not_lt.mp p_6), if_pos p_8, if_neg (Int32.not_le.mpr p_8), if_pos c_9]; done) | (simp only [masF, eq_false p_1, eq_true (Int32.not_lt.mp p_1), eq_false p_3, eq_true (Int32.not_lt.mp p_3), hkc, eq_false c_5, eq_false p_6, eq_true (Int32.not_lt.mp p_6), eq_true p_8, eq_false (Int32.not_le.mpr p_8), eq_true c_9, ↓reduceIte]; done) | (simp only [masF, eq_false p_1, eq_true (Int32.not_lt.mp p_1), eq_false p_3, eq_true (Int32.not_lt.mp p_3), hkc, eq_false c_5, eq_false p_6, eq_true (Int32.not_lt.mp p_6), eq_true p_8, eq_false (Int32.not_le.mpr p_8), eq_true c_9, ↓reduceIte] <;> rfl) | (simp [masF, p_1, p_3, hkc, c_5, p_6, p_8, c_9]; done), rfl⟩
    refine v_stk (st' := .int 1 :: []) (congrArg (fun z : Int32 => Value.int z :: []) (show niF w 0 4 = 1 by simp only [niF, if_neg p_6, if_neg p_8])) ?_
    refine v_if_ne (t := 26) (n := 23) C dX12_as_20 (by decide) rfl (fun c_10 => ?_) (fun c_10 => ?_)
    · skip
      refine v_aload_n (n := 27) C dX12_as_26 rfl rfl rfl ?_
      refine v_get (n := 30) C dX12_as_27 rfl fl_X12_16_X12 wl_c27 rfl ?_
      refine v_iconst (n := 31) (v := 4) C dX12_as_30 rfl (by decide) ?_
      refine v_iload_n (n := 32) C dX12_as_31 rfl rfl rfl ?_
      refine v_imul (n := 33) C dX12_as_32 rfl ?_
      refine v_iald (n := 34) C dX12_as_33 rfl wl_c30 (rw_vp0 (show kN < 3 by omega)) ?_
      refine v_stk (st' := .int ((ar 30) (4 * kN + 0)) :: []) (congrArg (fun z : Nat => Value.int ((ar 30) z) :: []) (rw_c0 (show kN < 3 by omega))) ?_
      refine v_istore_n (n := 35) (lv' := [(3, .int ((ar 30) (4 * kN + 0))), (0, .ref (b + 27)), (1, .int (nI kN)), (2, .int w)]) C dX12_as_34 rfl rfl (Nat.le_of_ble_eq_true rfl) rfl ?_
      refine v_iload_n (n := 36) C dX12_as_35 rfl rfl rfl ?_
      refine v_if_eq (t := 54) (n := 39) C dX12_as_36 (by decide) rfl (fun c_11 => ?_) (fun c_11 => ?_)
      · skip
        refine v_iconst (n := 55) (v := 1) C dX12_as_54 rfl (by decide) ?_
        refine v_goto (t := 59) C dX12_as_55 (by decide) ?_
        refine v_istore (n := 61) (lv' := [(4, .int 1), (3, .int ((ar 30) (4 * kN + 0))), (0, .ref (b + 27)), (1, .int (nI kN)), (2, .int w)]) C dX12_as_59 rfl (Nat.le_of_ble_eq_true rfl) rfl ?_
        refine v_iload (n := 63) C dX12_as_61 rfl rfl ?_
        refine v_if_eq (t := 70) (n := 66) C dX12_as_63 (by decide) rfl (fun c_12 => ?_) (fun c_12 => ?_)
        · exact absurd c_12 (by decide)
        · skip
          refine v_iload_n (n := 67) C dX12_as_66 rfl rfl rfl ?_
          refine v_goto (t := 71) C dX12_as_67 (by decide) ?_
          exact v_iret C dX12_as_71 rfl rfl ⟨by first | rfl | (simp only [masF, if_neg p_1, if_pos (Int32.not_lt.mp p_1), if_neg p_3, if_pos (Int32.not_lt.mp p_3), hkc, if_neg c_5, if_neg p_6, if_pos (Int32.not_lt.mp p_6), if_neg p_8, if_pos (Int32.not_lt.mp p_8), if_neg c_10, if_pos c_11, if_neg c_12]; done) | (simp only [masF, eq_false p_1, eq_true (Int32.not_lt.mp p_1), eq_false p_3, eq_true (Int32.not_lt.mp p_3), hkc, eq_false c_5, eq_false p_6, eq_true (Int32.not_lt.mp p_6), eq_false p_8, eq_true (Int32.not_lt.mp p_8), eq_false c_10, eq_true c_11, eq_false c_12, ↓reduceIte]; done) | (simp only [masF, eq_false p_1, eq_true (Int32.not_lt.mp p_1), eq_false p_3, eq_true (Int32.not_lt.mp p_3), hkc, eq_false c_5, eq_false p_6, eq_true (Int32.not_lt.mp p_6), eq_false p_8, eq_true (Int32.not_lt.mp p_8), eq_false c_10, eq_true c_11, eq_false c_12, ↓reduceIte] <;> rfl) | (simp [masF, p_1, p_3, hkc, c_5, p_6, p_8, c_10, c_11, c_12]; done), rfl⟩
      · skip
        refine v_iload_n (n := 40) C dX12_as_39 rfl rfl rfl ?_
        refine v_iload_n (n := 41) C dX12_as_40 rfl rfl rfl ?_
        refine v_icmp_eq (t := 54) (n := 44) C dX12_as_41 (by decide) rfl (fun c_13 => ?_) (fun c_13 => ?_)
        · skip
          refine v_iconst (n := 55) (v := 1) C dX12_as_54 rfl (by decide) ?_
          refine v_goto (t := 59) C dX12_as_55 (by decide) ?_
          refine v_istore (n := 61) (lv' := [(4, .int 1), (3, .int ((ar 30) (4 * kN + 0))), (0, .ref (b + 27)), (1, .int (nI kN)), (2, .int w)]) C dX12_as_59 rfl (Nat.le_of_ble_eq_true rfl) rfl ?_
          refine v_iload (n := 63) C dX12_as_61 rfl rfl ?_
          refine v_if_eq (t := 70) (n := 66) C dX12_as_63 (by decide) rfl (fun c_14 => ?_) (fun c_14 => ?_)
          · exact absurd c_14 (by decide)
          · skip
            refine v_iload_n (n := 67) C dX12_as_66 rfl rfl rfl ?_
            refine v_goto (t := 71) C dX12_as_67 (by decide) ?_
            exact v_iret C dX12_as_71 rfl rfl ⟨by first | rfl | (simp only [masF, if_neg p_1, if_pos (Int32.not_lt.mp p_1), if_neg p_3, if_pos (Int32.not_lt.mp p_3), hkc, if_neg c_5, if_neg p_6, if_pos (Int32.not_lt.mp p_6), if_neg p_8, if_pos (Int32.not_lt.mp p_8), if_neg c_10, if_neg c_11, if_pos c_13, if_pos (Eq.symm c_13), if_neg c_14]; done) | (simp only [masF, eq_false p_1, eq_true (Int32.not_lt.mp p_1), eq_false p_3, eq_true (Int32.not_lt.mp p_3), hkc, eq_false c_5, eq_false p_6, eq_true (Int32.not_lt.mp p_6), eq_false p_8, eq_true (Int32.not_lt.mp p_8), eq_false c_10, eq_false c_11, eq_true c_13, eq_true (Eq.symm c_13), eq_false c_14, ↓reduceIte]; done) | (simp only [masF, eq_false p_1, eq_true (Int32.not_lt.mp p_1), eq_false p_3, eq_true (Int32.not_lt.mp p_3), hkc, eq_false c_5, eq_false p_6, eq_true (Int32.not_lt.mp p_6), eq_false p_8, eq_true (Int32.not_lt.mp p_8), eq_false c_10, eq_false c_11, eq_true c_13, eq_true (Eq.symm c_13), eq_false c_14, ↓reduceIte] <;> rfl) | (simp [masF, p_1, p_3, hkc, c_5, p_6, p_8, c_10, c_11, c_13, c_14]; done), rfl⟩
        · skip
          refine v_iload_n (n := 45) C dX12_as_44 rfl rfl rfl ?_
          refine v_iconst (n := 46) (v := 1) C dX12_as_45 rfl (by decide) ?_
          refine v_icmp_ne (t := 58) (n := 49) C dX12_as_46 (by decide) rfl (fun c_15 => ?_) (fun c_15 => ?_)
          · skip
            refine v_iconst (n := 59) (v := 0) C dX12_as_58 rfl (by decide) ?_
            refine v_istore (n := 61) (lv' := [(4, .int 0), (3, .int ((ar 30) (4 * kN + 0))), (0, .ref (b + 27)), (1, .int (nI kN)), (2, .int w)]) C dX12_as_59 rfl (Nat.le_of_ble_eq_true rfl) rfl ?_
            refine v_iload (n := 63) C dX12_as_61 rfl rfl ?_
            refine v_if_eq (t := 70) (n := 66) C dX12_as_63 (by decide) rfl (fun c_16 => ?_) (fun c_16 => ?_)
            · skip
              refine v_iconst (n := 71) (v := -1) C dX12_as_70 rfl (by decide) ?_
              exact v_iret C dX12_as_71 rfl rfl ⟨by first | rfl | (simp only [masF, if_neg p_1, if_pos (Int32.not_lt.mp p_1), if_neg p_3, if_pos (Int32.not_lt.mp p_3), hkc, if_neg c_5, if_neg p_6, if_pos (Int32.not_lt.mp p_6), if_neg p_8, if_pos (Int32.not_lt.mp p_8), if_neg c_10, if_neg c_11, if_neg c_13, if_neg (fun h => c_13 (Eq.symm h)), if_neg c_15, if_pos c_16]; done) | (simp only [masF, eq_false p_1, eq_true (Int32.not_lt.mp p_1), eq_false p_3, eq_true (Int32.not_lt.mp p_3), hkc, eq_false c_5, eq_false p_6, eq_true (Int32.not_lt.mp p_6), eq_false p_8, eq_true (Int32.not_lt.mp p_8), eq_false c_10, eq_false c_11, eq_false c_13, eq_false (fun h => c_13 (Eq.symm h)), eq_false c_15, eq_true c_16, ↓reduceIte]; done) | (simp only [masF, eq_false p_1, eq_true (Int32.not_lt.mp p_1), eq_false p_3, eq_true (Int32.not_lt.mp p_3), hkc, eq_false c_5, eq_false p_6, eq_true (Int32.not_lt.mp p_6), eq_false p_8, eq_true (Int32.not_lt.mp p_8), eq_false c_10, eq_false c_11, eq_false c_13, eq_false (fun h => c_13 (Eq.symm h)), eq_false c_15, eq_true c_16, ↓reduceIte] <;> rfl) | (simp [masF, p_1, p_3, hkc, c_5, p_6, p_8, c_10, c_11, c_13, c_15, c_16]; done), rfl⟩
            · exact absurd c_16 (by decide)
          · skip
            refine v_iload_n (n := 50) C dX12_as_49 rfl rfl rfl ?_
            refine v_iconst (n := 51) (v := 4) C dX12_as_50 rfl (by decide) ?_
            refine v_icmp_ne (t := 58) (n := 54) C dX12_as_51 (by decide) rfl (fun c_17 => ?_) (fun c_17 => ?_)
            · skip
              refine v_iconst (n := 59) (v := 0) C dX12_as_58 rfl (by decide) ?_
              refine v_istore (n := 61) (lv' := [(4, .int 0), (3, .int ((ar 30) (4 * kN + 0))), (0, .ref (b + 27)), (1, .int (nI kN)), (2, .int w)]) C dX12_as_59 rfl (Nat.le_of_ble_eq_true rfl) rfl ?_
              refine v_iload (n := 63) C dX12_as_61 rfl rfl ?_
              refine v_if_eq (t := 70) (n := 66) C dX12_as_63 (by decide) rfl (fun c_18 => ?_) (fun c_18 => ?_)
              · skip
                refine v_iconst (n := 71) (v := -1) C dX12_as_70 rfl (by decide) ?_
                exact v_iret C dX12_as_71 rfl rfl ⟨by first | rfl | (simp only [masF, if_neg p_1, if_pos (Int32.not_lt.mp p_1), if_neg p_3, if_pos (Int32.not_lt.mp p_3), hkc, if_neg c_5, if_neg p_6, if_pos (Int32.not_lt.mp p_6), if_neg p_8, if_pos (Int32.not_lt.mp p_8), if_neg c_10, if_neg c_11, if_neg c_13, if_neg (fun h => c_13 (Eq.symm h)), if_pos c_15, if_neg c_17, if_pos c_18]; done) | (simp only [masF, eq_false p_1, eq_true (Int32.not_lt.mp p_1), eq_false p_3, eq_true (Int32.not_lt.mp p_3), hkc, eq_false c_5, eq_false p_6, eq_true (Int32.not_lt.mp p_6), eq_false p_8, eq_true (Int32.not_lt.mp p_8), eq_false c_10, eq_false c_11, eq_false c_13, eq_false (fun h => c_13 (Eq.symm h)), eq_true c_15, eq_false c_17, eq_true c_18, ↓reduceIte]; done) | (simp only [masF, eq_false p_1, eq_true (Int32.not_lt.mp p_1), eq_false p_3, eq_true (Int32.not_lt.mp p_3), hkc, eq_false c_5, eq_false p_6, eq_true (Int32.not_lt.mp p_6), eq_false p_8, eq_true (Int32.not_lt.mp p_8), eq_false c_10, eq_false c_11, eq_false c_13, eq_false (fun h => c_13 (Eq.symm h)), eq_true c_15, eq_false c_17, eq_true c_18, ↓reduceIte] <;> rfl) | (simp [masF, p_1, p_3, hkc, c_5, p_6, p_8, c_10, c_11, c_13, c_15, c_17, c_18]; done), rfl⟩
              · exact absurd c_18 (by decide)
            · skip
              refine v_iconst (n := 55) (v := 1) C dX12_as_54 rfl (by decide) ?_
              refine v_goto (t := 59) C dX12_as_55 (by decide) ?_
              refine v_istore (n := 61) (lv' := [(4, .int 1), (3, .int ((ar 30) (4 * kN + 0))), (0, .ref (b + 27)), (1, .int (nI kN)), (2, .int w)]) C dX12_as_59 rfl (Nat.le_of_ble_eq_true rfl) rfl ?_
              refine v_iload (n := 63) C dX12_as_61 rfl rfl ?_
              refine v_if_eq (t := 70) (n := 66) C dX12_as_63 (by decide) rfl (fun c_19 => ?_) (fun c_19 => ?_)
              · exact absurd c_19 (by decide)
              · skip
                refine v_iload_n (n := 67) C dX12_as_66 rfl rfl rfl ?_
                refine v_goto (t := 71) C dX12_as_67 (by decide) ?_
                exact v_iret C dX12_as_71 rfl rfl ⟨by first | rfl | (simp only [masF, if_neg p_1, if_pos (Int32.not_lt.mp p_1), if_neg p_3, if_pos (Int32.not_lt.mp p_3), hkc, if_neg c_5, if_neg p_6, if_pos (Int32.not_lt.mp p_6), if_neg p_8, if_pos (Int32.not_lt.mp p_8), if_neg c_10, if_neg c_11, if_neg c_13, if_neg (fun h => c_13 (Eq.symm h)), if_pos c_15, if_pos c_17, if_neg c_19]; done) | (simp only [masF, eq_false p_1, eq_true (Int32.not_lt.mp p_1), eq_false p_3, eq_true (Int32.not_lt.mp p_3), hkc, eq_false c_5, eq_false p_6, eq_true (Int32.not_lt.mp p_6), eq_false p_8, eq_true (Int32.not_lt.mp p_8), eq_false c_10, eq_false c_11, eq_false c_13, eq_false (fun h => c_13 (Eq.symm h)), eq_true c_15, eq_true c_17, eq_false c_19, ↓reduceIte]; done) | (simp only [masF, eq_false p_1, eq_true (Int32.not_lt.mp p_1), eq_false p_3, eq_true (Int32.not_lt.mp p_3), hkc, eq_false c_5, eq_false p_6, eq_true (Int32.not_lt.mp p_6), eq_false p_8, eq_true (Int32.not_lt.mp p_8), eq_false c_10, eq_false c_11, eq_false c_13, eq_false (fun h => c_13 (Eq.symm h)), eq_true c_15, eq_true c_17, eq_false c_19, ↓reduceIte] <;> rfl) | (simp [masF, p_1, p_3, hkc, c_5, p_6, p_8, c_10, c_11, c_13, c_15, c_17, c_19]; done), rfl⟩
    · exact absurd c_10 (by decide)
  · exact absurd c_5 (by decide)
