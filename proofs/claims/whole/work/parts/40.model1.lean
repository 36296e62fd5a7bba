theorem lgl {x a : Int32} : lg_cmp (Int32.toInt64 x) (Int32.toInt64 a) < 0 ↔ x < a := by
  unfold lg_cmp
  simp only [gt_iff_lt, Int64.lt_iff_toInt_lt, Int32.toInt_toInt64, ← Int64.toInt_inj, Int32.lt_iff_toInt_lt]
  split
  · rename_i h; constructor
    · intro q; exact absurd q (by decide)
    · intro q; omega
  · split
    · rename_i h1 h2; constructor
      · intro q; exact absurd q (by decide)
      · intro q; omega
    · rename_i h1 h2; constructor
      · intro _; omega
      · intro _; decide
theorem lgg {x a : Int32} : 0 < lg_cmp (Int32.toInt64 x) (Int32.toInt64 a) ↔ a < x := by
  unfold lg_cmp
  simp only [gt_iff_lt, Int64.lt_iff_toInt_lt, Int32.toInt_toInt64, ← Int64.toInt_inj, Int32.lt_iff_toInt_lt]
  split
  · rename_i h; constructor
    · intro _; exact h
    · intro _; decide
  · split
    · rename_i h1 h2; constructor
      · intro q; exact absurd q (by decide)
      · intro q; omega
    · rename_i h1 h2; constructor
      · intro q; exact absurd q (by decide)
      · intro q; omega
/-- in -/
def niF (x a z : Int32) : Int32 := if x < a then 0 else if z < x then 0 else 1
set_option maxHeartbeats 4000000 in
set_option maxRecDepth 100000 in
theorem c_in (l : Launch) (D : va_G) (b : Nat) (es : List va_E) (x a z : Int32) : Con l yX12_in cX12_in 6 (some .boolean) 0 0 D b 0 0 es [.long (Int32.toInt64 x), .long (Int32.toInt64 a), .long (Int32.toInt64 z)] (fun r es' => r = some (.int (niF x a z)) ∧ es = es') := by
  refine con_of (by decide) (Nat.le_of_ble_eq_true rfl) (fun p e s m args below meth c C hsz => ?_)
  have C : vC p s m args meth c cX12_in 6 RX12 "in" (some .boolean) D b := C
  change V p l e _ s m args below meth c D b 6 _ 0 0 es [(0, .long (Int32.toInt64 x)), (2, .long (Int32.toInt64 a)), (4, .long (Int32.toInt64 z))] [] 0
  refine v_lload_n (n := 1) C dX12_in_0 rfl rfl rfl ?_
  refine v_lload_n (n := 2) C dX12_in_1 rfl rfl rfl ?_
  refine v_lcmp (n := 3) C dX12_in_2 rfl ?_
  refine v_if_lt (t := 17) (n := 6) C dX12_in_3 (by decide) rfl (fun c_1 => ?_) (fun c_1 => ?_)
  · skip
    refine v_iconst (n := 18) (v := 0) C dX12_in_17 rfl (by decide) ?_
    exact v_iret C dX12_in_18 rfl rfl ⟨by simp only [niF, eq_true (lgl.mp c_1), ↓reduceIte], rfl⟩
  · skip
    refine v_lload_n (n := 7) C dX12_in_6 rfl rfl rfl ?_
    refine v_lload (n := 9) C dX12_in_7 rfl rfl ?_
    refine v_lcmp (n := 10) C dX12_in_9 rfl ?_
    refine v_if_gt (t := 17) (n := 13) C dX12_in_10 (by decide) rfl (fun c_2 => ?_) (fun c_2 => ?_)
    · skip
      refine v_iconst (n := 18) (v := 0) C dX12_in_17 rfl (by decide) ?_
      exact v_iret C dX12_in_18 rfl rfl ⟨by simp only [niF, eq_false (fun h => c_1 (lgl.mpr h)), eq_true (lgg.mp c_2), ↓reduceIte], rfl⟩
    · skip
      refine v_iconst (n := 14) (v := 1) C dX12_in_13 rfl (by decide) ?_
      refine v_goto (t := 18) C dX12_in_14 (by decide) ?_
      exact v_iret C dX12_in_18 rfl rfl ⟨by simp only [niF, eq_false (fun h => c_1 (lgl.mpr h)), eq_false (fun h => c_2 (lgg.mpr h)), ↓reduceIte], rfl⟩
theorem le_vp {x : Int32} (h0 : ¬ x < 0) (h1 : x ≤ 18) (h2 : ¬ x = 18) : vp_in x 18 := by
  have e0 : (0 : Int32).toInt = 0 := rfl
  have e8 : (18 : Int32).toInt = 18 := rfl
  have h3 := ti_ne h2
  rw [Int32.lt_iff_toInt_lt] at h0
  rw [Int32.le_iff_toInt_le] at h1
  exact vp_lit (by omega) (by omega)
def mleS (sc : Nat → Int32) (ar : Nat → Nat → Int32) (c : Int32) : Int32 × (Nat → Int32) × (Nat → Nat → Int32) :=
  if c < 1 then (-102, sc, ar) else if 126 < c then (-102, sc, ar) else if sc 20 = 18 then (-104, sc, ar) else
  (sc 20 + 1, va_up sc 20 (sc 20 + 1), va_up ar 28 (upd (ar 28) (sc 20).toNatClampNeg c))
/-- isGood -/
def igF (x c : Int32) : Int32 := if 13 < x then (if x = 14 then (if c = 59 then 1 else 0) else if x = 15 then niF (c - 48) 1 9 else 0) else if x - x / 5 * 5 = 4 then (if c = 44 then 1 else 0) else niF (c - 48) 0 9
def mlaF (rp : Int32) : Int32 := if rp = 0 then 1 else 0
def micF (rp x : Int32) : Int32 := if x < 0 then 0 else if 11 < x then 0 else if rp = 0 then 0 else 1
def mwiS (sc : Nat → Int32) (w : Int32) : Int32 × (Nat → Int32) := if w < 0 then (-102, sc) else if 4 < w then (-102, sc) else if sc 21 = 0 then (-103, sc) else (sc 23, va_up sc 23 w)
def mpaS (sc : Nat → Int32) (h : Int32) : Int32 × (Nat → Int32) := if h < 1 then (-102, sc) else if 30 < h then (-102, sc) else if sc 21 = 0 then (-103, sc) else if 999 < sc 22 + h then (-103, sc) else (sc 22 + h, va_up sc 22 (sc 22 + h))
def mbeF (x w : Int32) : Int32 := if w = 0 then (if 3 ≤ x - x / 4 * 4 then -1 else x + 1) else if w = 2 then (if x - x / 4 * 4 ≤ 0 then -1 else x - 1) else if w = 1 then (if 8 ≤ x then -1 else x + 4) else if 3 < x then x - 4 else -1
def mneF (k w wd : Int32) : Int32 := if wd = 4 then (if k = 4 then 2 else 3 + (if k = 3 then 1 else 0)) else if w = wd then 1 + (if k = 3 then 1 else 0) else
  if w = wd + 2 - (wd + 2) / 4 * 4 then (if k = 2 then 4 else if k = 4 then 3 else -1) else 2 + (if k = 3 then 1 else 0)
def mhiF (f : Nat → Int32) (x h rp : Int32) : Int32 := if h < rp * (x + 1) then f x.toNatClampNeg else 0
set_option maxHeartbeats 4000000 in
set_option maxRecDepth 100000 in
theorem m_letter (l : Launch) (D : va_G) (b : Nat) (sc : Nat → Int32) (ar : Nat → Nat → Int32) (hn : Nat → Option Nat) (mh : Int64) (G : List va_E) (x : Int32) (hpm : ¬ sc 20 < 0) (hp8 : sc 20 ≤ 18) : Con l yX12_letter cX12_letter 2 (some .int) 1 25 D b 0 0 (wl D b sc ar hn mh G) [.ref (b + 27), .int x] (fun r es' => r = some (.int (mleS sc ar x).1) ∧ wl D b (mleS sc ar x).2.1 (mleS sc ar x).2.2 hn mh G = es') := by
  refine con_of (by decide) (Nat.le_of_ble_eq_true rfl) (fun p e s m args below meth c C hsz => ?_)
  have C : vC p s m args meth c cX12_letter 2 RX12 "letter" (some .int) D b := C
  change V p l e _ s m args below meth c D b 2 _ 0 0 (wl D b sc ar hn mh G) [(0, .ref (b + 27)), (1, .int x)] [] 0
  refine v_iload_n (n := 1) C dX12_letter_0 rfl rfl rfl ?_
  refine v_i2l (n := 2) C dX12_letter_1 rfl ?_
  refine v_lconst (n := 3) (v := 1) C dX12_letter_2 rfl (by decide) ?_
  refine v_ldc2 (n := 6) C dX12_letter_3 rfl kl_X12_53 ?_
  refine v_stk (st' := [.long (Int32.toInt64 126), .long (Int32.toInt64 1), .long (Int32.toInt64 x)]) rfl ?_
  refine v_go (n := 9) C (vRun_S (As := [.long (Int32.toInt64 x), .long (Int32.toInt64 1), .long (Int32.toInt64 126)]) (rest := []) C lk_X12_55 st_X12_in dX12_letter_6 (c_in l D b (wl D b sc ar hn mh G) x 1 126) wm_X12_in rfl rfl ⟨Nat.le_of_ble_eq_true rfl, Nat.le_of_ble_eq_true rfl⟩ ⟨Nat.le_of_ble_eq_true rfl, Nat.le_of_ble_eq_true rfl⟩ (Nat.le_of_ble_eq_true rfl)) rfl ?_
  rintro _ _ ⟨rfl, rfl⟩ -
  by_cases p_1 : x < 1
  · skip
    refine v_stk (st' := .int 0 :: []) (congrArg (fun z : Int32 => Value.int z :: []) (show niF x 1 126 = 0 by simp only [niF, if_pos p_1])) ?_
    refine v_if_ne (t := 15) (n := 12) C dX12_letter_9 (by decide) rfl (fun c_2 => ?_) (fun c_2 => ?_)
    · exact absurd c_2 (by decide)
    · skip
      refine v_bipush (n := 14) (v := -102) C dX12_letter_12 rfl (by decide) ?_
      exact v_iret C dX12_letter_14 rfl rfl ⟨by first | rfl | (simp only [mleS, if_pos p_1, if_neg (Int32.not_le.mpr p_1), if_pos c_2]; done) | (simp only [mleS, eq_true p_1, eq_false (Int32.not_le.mpr p_1), eq_true c_2, ↓reduceIte]; done) | (simp only [mleS, eq_true p_1, eq_false (Int32.not_le.mpr p_1), eq_true c_2, ↓reduceIte] <;> rfl) | (simp [mleS, p_1, c_2]; done), by first | rfl | (simp only [mleS, if_pos p_1, if_neg (Int32.not_le.mpr p_1), if_pos c_2]; done) | (simp only [mleS, eq_true p_1, eq_false (Int32.not_le.mpr p_1), eq_true c_2, ↓reduceIte]; done) | (simp only [mleS, eq_true p_1, eq_false (Int32.not_le.mpr p_1), eq_true c_2, ↓reduceIte] <;> rfl) | (simp [mleS, p_1, c_2]; done)⟩
  by_cases p_3 : 126 < x
  · skip
    refine v_stk (st' := .int 0 :: []) (congrArg (fun z : Int32 => Value.int z :: []) (show niF x 1 126 = 0 by simp only [niF, if_neg p_1, if_pos p_3])) ?_
    refine v_if_ne (t := 15) (n := 12) C dX12_letter_9 (by decide) rfl (fun c_4 => ?_) (fun c_4 => ?_)
    · exact absurd c_4 (by decide)
    · skip
      refine v_bipush (n := 14) (v := -102) C dX12_letter_12 rfl (by decide) ?_
      exact v_iret C dX12_letter_14 rfl rfl ⟨by first | rfl | (simp only [mleS, if_neg p_1, if_pos (Int32.not_lt.mp p_1), if_pos p_3, if_neg (Int32.not_le.mpr p_3), if_pos c_4]; done) | (simp only [mleS, eq_false p_1, eq_true (Int32.not_lt.mp p_1), eq_true p_3, eq_false (Int32.not_le.mpr p_3), eq_true c_4, ↓reduceIte]; done) | (simp only [mleS, eq_false p_1, eq_true (Int32.not_lt.mp p_1), eq_true p_3, eq_false (Int32.not_le.mpr p_3), eq_true c_4, ↓reduceIte] <;> rfl) | (simp [mleS, p_1, p_3, c_4]; done), by first | rfl | (simp only [mleS, if_neg p_1, if_pos (Int32.not_lt.mp p_1), if_pos p_3, if_neg (Int32.not_le.mpr p_3), if_pos c_4]; done) | (simp only [mleS, eq_false p_1, eq_true (Int32.not_lt.mp p_1), eq_true p_3, eq_false (Int32.not_le.mpr p_3), eq_true c_4, ↓reduceIte]; done) | (simp only [mleS, eq_false p_1, eq_true (Int32.not_lt.mp p_1), eq_true p_3, eq_false (Int32.not_le.mpr p_3), eq_true c_4, ↓reduceIte] <;> rfl) | (simp [mleS, p_1, p_3, c_4]; done)⟩
  refine v_stk (st' := .int 1 :: []) (congrArg (fun z : Int32 => Value.int z :: []) (show niF x 1 126 = 1 by simp only [niF, if_neg p_1, if_neg p_3])) ?_
  refine v_if_ne (t := 15) (n := 12) C dX12_letter_9 (by decide) rfl (fun c_5 => ?_) (fun c_5 => ?_)
  · skip
    refine v_aload_n (n := 16) C dX12_letter_15 rfl rfl rfl ?_
    refine v_get (n := 19) C dX12_letter_16 rfl fl_X12_59_X12 wl_c27 rfl ?_
    refine v_bipush (n := 21) (v := 18) C dX12_letter_19 rfl (by decide) ?_
    refine v_icmp_ne (t := 27) (n := 24) C dX12_letter_21 (by decide) rfl (fun c_6 => ?_) (fun c_6 => ?_)
    · skip
      refine v_aload_n (n := 28) C dX12_letter_27 rfl rfl rfl ?_
      refine v_get (n := 31) C dX12_letter_28 rfl fl_X12_7_X12 wl_c27 rfl ?_
      refine v_aload_n (n := 32) C dX12_letter_31 rfl rfl rfl ?_
      refine v_get (n := 35) C dX12_letter_32 rfl fl_X12_59_X12 wl_c27 rfl ?_
      refine v_iload_n (n := 36) C dX12_letter_35 rfl rfl rfl ?_
      refine v_iast (n := 37) (es' := (wl D b sc (va_up ar 28 (upd (ar 28) (Int32.toNatClampNeg (sc 20)) x)) hn mh G)) C dX12_letter_36 rfl wl_c28 (le_vp hpm hp8 c_6) (wl_a28 _) ?_
      refine v_aload_n (n := 38) C dX12_letter_37 rfl rfl rfl ?_
      refine v_dup (n := 39) C dX12_letter_38 rfl rfl ?_
      refine v_get (n := 42) C dX12_letter_39 rfl fl_X12_59_X12 wl_c27 rfl ?_
      refine v_iconst (n := 43) (v := 1) C dX12_letter_42 rfl (by decide) ?_
      refine v_iadd (n := 44) C dX12_letter_43 rfl ?_
      refine v_put (n := 47) (es' := (wl D b (va_up sc 20 ((sc 20) + 1)) (va_up ar 28 (upd (ar 28) (Int32.toNatClampNeg (sc 20)) x)) hn mh G)) C dX12_letter_44 rfl fl_X12_59_X12 (fp_any fp_X12_1) wl_c27 rfl rfl (Nat.le_of_ble_eq_true rfl) wl_p27_1 ?_
      refine v_aload_n (n := 48) C dX12_letter_47 rfl rfl rfl ?_
      refine v_get (n := 51) C dX12_letter_48 rfl fl_X12_59_X12 (show (wl D b (va_up sc 20 ((sc 20) + 1)) (va_up ar 28 (upd (ar 28) (Int32.toNatClampNeg (sc 20)) x)) hn mh G)[27]? = some (.inr (12, [.ref (b + 28), .int ((sc 20) + 1), .int (sc 21), .int (sc 22), .int (sc 23), .int (sc 24), .ref (b + 29), .int (sc 25), .ref (b + 30), .ref (b + 31), .ref (b + 32), .ref (b + 33), .ref (b + 34), .int (sc 26), .int (sc 27), .int (sc 28), .ref (b + 35), .ref (b + 36), .int (sc 29), .ref (b + 37), .int (sc 30), .int (sc 31), .int (sc 32), .int (sc 33), .int (sc 34), .ref (b + 38), .ref (b + 39), .long mh])) from wl_c27) rfl ?_
      exact v_iret C dX12_letter_51 rfl rfl ⟨by first | rfl | (simp only [mleS, if_neg p_1, if_pos (Int32.not_lt.mp p_1), if_neg p_3, if_pos (Int32.not_lt.mp p_3), if_neg c_5, if_neg c_6]; done) | (simp only [mleS, eq_false p_1, eq_true (Int32.not_lt.mp p_1), eq_false p_3, eq_true (Int32.not_lt.mp p_3), eq_false c_5, eq_false c_6, ↓reduceIte]; done) | (simp only [mleS, eq_false p_1, eq_true (Int32.not_lt.mp p_1), eq_false p_3, eq_true (Int32.not_lt.mp p_3), eq_false c_5, eq_false c_6, ↓reduceIte] <;> rfl) | (simp [mleS, p_1, p_3, c_5, c_6]; done), by first | rfl | (simp only [mleS, if_neg p_1, if_pos (Int32.not_lt.mp p_1), if_neg p_3, if_pos (Int32.not_lt.mp p_3), if_neg c_5, if_neg c_6]; done) | (simp only [mleS, eq_false p_1, eq_true (Int32.not_lt.mp p_1), eq_false p_3, eq_true (Int32.not_lt.mp p_3), eq_false c_5, eq_false c_6, ↓reduceIte]; done) | (simp only [mleS, eq_false p_1, eq_true (Int32.not_lt.mp p_1), eq_false p_3, eq_true (Int32.not_lt.mp p_3), eq_false c_5, eq_false c_6, ↓reduceIte] <;> rfl) | (simp [mleS, p_1, p_3, c_5, c_6]; done)⟩
    · skip
      refine v_bipush (n := 26) (v := -104) C dX12_letter_24 rfl (by decide) ?_
      exact v_iret C dX12_letter_26 rfl rfl ⟨by first | rfl | (simp only [mleS, if_neg p_1, if_pos (Int32.not_lt.mp p_1), if_neg p_3, if_pos (Int32.not_lt.mp p_3), if_neg c_5, if_pos c_6]; done) | (simp only [mleS, eq_false p_1, eq_true (Int32.not_lt.mp p_1), eq_false p_3, eq_true (Int32.not_lt.mp p_3), eq_false c_5, eq_true c_6, ↓reduceIte]; done) | (simp only [mleS, eq_false p_1, eq_true (Int32.not_lt.mp p_1), eq_false p_3, eq_true (Int32.not_lt.mp p_3), eq_false c_5, eq_true c_6, ↓reduceIte] <;> rfl) | (simp [mleS, p_1, p_3, c_5, c_6]; done), by first | rfl | (simp only [mleS, if_neg p_1, if_pos (Int32.not_lt.mp p_1), if_neg p_3, if_pos (Int32.not_lt.mp p_3), if_neg c_5, if_pos c_6]; done) | (simp only [mleS, eq_false p_1, eq_true (Int32.not_lt.mp p_1), eq_false p_3, eq_true (Int32.not_lt.mp p_3), eq_false c_5, eq_true c_6, ↓reduceIte]; done) | (simp only [mleS, eq_false p_1, eq_true (Int32.not_lt.mp p_1), eq_false p_3, eq_true (Int32.not_lt.mp p_3), eq_false c_5, eq_true c_6, ↓reduceIte] <;> rfl) | (simp [mleS, p_1, p_3, c_5, c_6]; done)⟩
  · exact absurd c_5 (by decide)
set_option maxHeartbeats 4000000 in
set_option maxRecDepth 100000 in
theorem m_blank (l : Launch) (D : va_G) (b : Nat) (sc : Nat → Int32) (ar : Nat → Nat → Int32) (hn : Nat → Option Nat) (mh : Int64) (G : List va_E)  : Con l yX12_blank cX12_blank 2 (some .int) 0 0 D b 0 0 (wl D b sc ar hn mh G) [.ref (b + 27)] (fun r es' => r = some (.int (sc 20)) ∧ wl D b (va_up sc 20 0) ar hn mh G = es') := by
  refine con_of (by decide) (Nat.le_of_ble_eq_true rfl) (fun p e s m args below meth c C hsz => ?_)
  have C : vC p s m args meth c cX12_blank 2 RX12 "blank" (some .int) D b := C
  change V p l e _ s m args below meth c D b 2 _ 0 0 (wl D b sc ar hn mh G) [(0, .ref (b + 27))] [] 0
  refine v_aload_n (n := 1) C dX12_blank_0 rfl rfl rfl ?_
  refine v_get (n := 4) C dX12_blank_1 rfl fl_X12_59_X12 wl_c27 rfl ?_
  refine v_istore_n (n := 5) (lv' := [(1, .int (sc 20)), (0, .ref (b + 27))]) C dX12_blank_4 rfl rfl (Nat.le_of_ble_eq_true rfl) rfl ?_
  refine v_aload_n (n := 6) C dX12_blank_5 rfl rfl rfl ?_
  refine v_iconst (n := 7) (v := 0) C dX12_blank_6 rfl (by decide) ?_
  refine v_put (n := 10) (es' := (wl D b (va_up sc 20 0) ar hn mh G)) C dX12_blank_7 rfl fl_X12_59_X12 (fp_any fp_X12_1) wl_c27 rfl rfl (Nat.le_of_ble_eq_true rfl) wl_p27_1 ?_
  refine v_iload_n (n := 11) C dX12_blank_10 rfl rfl rfl ?_
  exact v_iret C dX12_blank_11 rfl rfl ⟨by first | rfl | (simp only []; done) | (simp only [↓reduceIte]; done) | (simp only [↓reduceIte] <;> rfl) | (simp []; done), by first | rfl | (simp only []; done) | (simp only [↓reduceIte]; done) | (simp only [↓reduceIte] <;> rfl) | (simp []; done)⟩
set_option maxHeartbeats 4000000 in
set_option maxRecDepth 100000 in
theorem m_lacks (l : Launch) (D : va_G) (b : Nat) (sc : Nat → Int32) (ar : Nat → Nat → Int32) (hn : Nat → Option Nat) (mh : Int64) (G : List va_E)  : Con l yX12_lacks cX12_lacks 1 (some .boolean) 0 0 D b 0 0 (wl D b sc ar hn mh G) [.ref (b + 27)] (fun r es' => r = some (.int (mlaF (sc 21))) ∧ (wl D b sc ar hn mh G) = es') := by
  refine con_of (by decide) (Nat.le_of_ble_eq_true rfl) (fun p e s m args below meth c C hsz => ?_)
  have C : vC p s m args meth c cX12_lacks 1 RX12 "lacks" (some .boolean) D b := C
  change V p l e _ s m args below meth c D b 1 _ 0 0 (wl D b sc ar hn mh G) [(0, .ref (b + 27))] [] 0
  refine v_aload_n (n := 1) C dX12_lacks_0 rfl rfl rfl ?_
  refine v_get (n := 4) C dX12_lacks_1 rfl fl_X12_72_X12 wl_c27 rfl ?_
  refine v_if_ne (t := 11) (n := 7) C dX12_lacks_4 (by decide) rfl (fun c_1 => ?_) (fun c_1 => ?_)
  · skip
    refine v_iconst (n := 12) (v := 0) C dX12_lacks_11 rfl (by decide) ?_
    exact v_iret C dX12_lacks_12 rfl rfl ⟨by first | rfl | (simp only [mlaF, if_neg c_1]; done) | (simp only [mlaF, eq_false c_1, ↓reduceIte]; done) | (simp only [mlaF, eq_false c_1, ↓reduceIte] <;> rfl) | (simp [mlaF, c_1]; done), rfl⟩
  · skip
    refine v_iconst (n := 8) (v := 1) C dX12_lacks_7 rfl (by decide) ?_
    refine v_goto (t := 12) C dX12_lacks_8 (by decide) ?_
    exact v_iret C dX12_lacks_12 rfl rfl ⟨by first | rfl | (simp only [mlaF, if_pos c_1]; done) | (simp only [mlaF, eq_true c_1, ↓reduceIte]; done) | (simp only [mlaF, eq_true c_1, ↓reduceIte] <;> rfl) | (simp [mlaF, c_1]; done), rfl⟩
set_option maxHeartbeats 4000000 in
set_option maxRecDepth 100000 in
theorem m_isCell (l : Launch) (D : va_G) (b : Nat) (sc : Nat → Int32) (ar : Nat → Nat → Int32) (hn : Nat → Option Nat) (mh : Int64) (G : List va_E) (x : Int32) : Con l yX12_isCell cX12_isCell 2 (some .boolean) 1 25 D b 0 0 (wl D b sc ar hn mh G) [.ref (b + 27), .int x] (fun r es' => r = some (.int (micF (sc 21) x)) ∧ (wl D b sc ar hn mh G) = es') := by
  refine con_of (by decide) (Nat.le_of_ble_eq_true rfl) (fun p e s m args below meth c C hsz => ?_)
  have C : vC p s m args meth c cX12_isCell 2 RX12 "isCell" (some .boolean) D b := C
  change V p l e _ s m args below meth c D b 2 _ 0 0 (wl D b sc ar hn mh G) [(0, .ref (b + 27)), (1, .int x)] [] 0
  refine v_iload_n (n := 1) C dX12_isCell_0 rfl rfl rfl ?_
  refine v_i2l (n := 2) C dX12_isCell_1 rfl ?_
  refine v_lconst (n := 3) (v := 0) C dX12_isCell_2 rfl (by decide) ?_
  refine v_ldc2 (n := 6) C dX12_isCell_3 rfl kl_X12_87 ?_
  refine v_stk (st' := [.long (Int32.toInt64 11), .long (Int32.toInt64 0), .long (Int32.toInt64 x)]) rfl ?_
  refine v_go (n := 9) C (vRun_S (As := [.long (Int32.toInt64 x), .long (Int32.toInt64 0), .long (Int32.toInt64 11)]) (rest := []) C lk_X12_55 st_X12_in dX12_isCell_6 (c_in l D b (wl D b sc ar hn mh G) x 0 11) wm_X12_in rfl rfl ⟨Nat.le_of_ble_eq_true rfl, Nat.le_of_ble_eq_true rfl⟩ ⟨Nat.le_of_ble_eq_true rfl, Nat.le_of_ble_eq_true rfl⟩ (Nat.le_of_ble_eq_true rfl)) rfl ?_
  rintro _ _ ⟨rfl, rfl⟩ -
  by_cases p_1 : x < 0
  · skip
    refine v_stk (st' := .int 0 :: []) (congrArg (fun z : Int32 => Value.int z :: []) (show niF x 0 11 = 0 by simp only [niF, if_pos p_1])) ?_
    refine v_if_eq (t := 23) (n := 12) C dX12_isCell_9 (by decide) rfl (fun c_2 => ?_) (fun c_2 => ?_)
    · skip
      refine v_iconst (n := 24) (v := 0) C dX12_isCell_23 rfl (by decide) ?_
      exact v_iret C dX12_isCell_24 rfl rfl ⟨by first | rfl | (simp only [micF, if_pos p_1, if_neg (Int32.not_le.mpr p_1), if_pos c_2]; done) | (simp only [micF, eq_true p_1, eq_false (Int32.not_le.mpr p_1), eq_true c_2, ↓reduceIte]; done) | (simp only [micF, eq_true p_1, eq_false (Int32.not_le.mpr p_1), eq_true c_2, ↓reduceIte] <;> rfl) | (simp [micF, p_1, c_2]; done), rfl⟩
    · exact absurd c_2 (by decide)
  by_cases p_3 : 11 < x
  · skip
    refine v_stk (st' := .int 0 :: []) (congrArg (fun z : Int32 => Value.int z :: []) (show niF x 0 11 = 0 by simp only [niF, if_neg p_1, if_pos p_3])) ?_
    refine v_if_eq (t := 23) (n := 12) C dX12_isCell_9 (by decide) rfl (fun c_4 => ?_) (fun c_4 => ?_)
    · skip
      refine v_iconst (n := 24) (v := 0) C dX12_isCell_23 rfl (by decide) ?_
      exact v_iret C dX12_isCell_24 rfl rfl ⟨by first | rfl | (simp only [micF, if_neg p_1, if_pos (Int32.not_lt.mp p_1), if_pos p_3, if_neg (Int32.not_le.mpr p_3), if_pos c_4]; done) | (simp only [micF, eq_false p_1, eq_true (Int32.not_lt.mp p_1), eq_true p_3, eq_false (Int32.not_le.mpr p_3), eq_true c_4, ↓reduceIte]; done) | (simp only [micF, eq_false p_1, eq_true (Int32.not_lt.mp p_1), eq_true p_3, eq_false (Int32.not_le.mpr p_3), eq_true c_4, ↓reduceIte] <;> rfl) | (simp [micF, p_1, p_3, c_4]; done), rfl⟩
    · exact absurd c_4 (by decide)
  refine v_stk (st' := .int 1 :: []) (congrArg (fun z : Int32 => Value.int z :: []) (show niF x 0 11 = 1 by simp only [niF, if_neg p_1, if_neg p_3])) ?_
  refine v_if_eq (t := 23) (n := 12) C dX12_isCell_9 (by decide) rfl (fun c_5 => ?_) (fun c_5 => ?_)
  · exact absurd c_5 (by decide)
  · skip
    refine v_aload_n (n := 13) C dX12_isCell_12 rfl rfl rfl ?_
    refine v_go (n := 16) C (vRun_V (As := []) (rest := []) C wl_c27 rfl lk_X12_89 im_X12_lacks se_X12_lacks dX12_isCell_13 (m_lacks l D b sc ar hn mh G) wm_X12_lacks rfl rfl ⟨Nat.le_of_ble_eq_true rfl, Nat.le_of_ble_eq_true rfl⟩ ⟨Nat.le_of_ble_eq_true rfl, Nat.le_of_ble_eq_true rfl⟩ (Nat.le_of_ble_eq_true rfl)) rfl ?_
    rintro _ _ ⟨rfl, rfl⟩ -
    by_cases p_6 : (sc 21) = 0
    · skip
      refine v_stk (st' := .int 1 :: []) (congrArg (fun z : Int32 => Value.int z :: []) (show mlaF (sc 21) = 1 by simp only [mlaF, if_pos p_6])) ?_
      refine v_if_ne (t := 23) (n := 19) C dX12_isCell_16 (by decide) rfl (fun c_7 => ?_) (fun c_7 => ?_)
      · skip
        refine v_iconst (n := 24) (v := 0) C dX12_isCell_23 rfl (by decide) ?_
        exact v_iret C dX12_isCell_24 rfl rfl ⟨by first | rfl | (simp only [micF, if_neg p_1, if_pos (Int32.not_lt.mp p_1), if_neg p_3, if_pos (Int32.not_lt.mp p_3), if_neg c_5, if_pos p_6, if_neg c_7]; done) | (simp only [micF, eq_false p_1, eq_true (Int32.not_lt.mp p_1), eq_false p_3, eq_true (Int32.not_lt.mp p_3), eq_false c_5, eq_true p_6, eq_false c_7, ↓reduceIte]; done) | (simp only [micF, eq_false p_1, eq_true (Int32.not_lt.mp p_1), eq_false p_3, eq_true (Int32.not_lt.mp p_3), eq_false c_5, eq_true p_6, eq_false c_7, ↓reduceIte] <;> rfl) | (simp [micF, p_1, p_3, c_5, p_6, c_7]; done), rfl⟩
      · exact absurd c_7 (by decide)
    refine v_stk (st' := .int 0 :: []) (congrArg (fun z : Int32 => Value.int z :: []) (show mlaF (sc 21) = 0 by simp only [mlaF, if_neg p_6])) ?_
    refine v_if_ne (t := 23) (n := 19) C dX12_isCell_16 (by decide) rfl (fun c_8 => ?_) (fun c_8 => ?_)
    · exact absurd c_8 (by decide)
    · skip
      refine v_iconst (n := 20) (v := 1) C dX12_isCell_19 rfl (by decide) ?_
      refine v_goto (t := 24) C dX12_isCell_20 (by decide) ?_
      exact v_iret C dX12_isCell_24 rfl rfl ⟨by first | rfl | (simp only [micF, if_neg p_1, if_pos (Int32.not_lt.mp p_1), if_neg p_3, if_pos (Int32.not_lt.mp p_3), if_neg c_5, if_neg p_6, if_pos c_8]; done) | (simp only [micF, eq_false p_1, eq_true (Int32.not_lt.mp p_1), eq_false p_3, eq_true (Int32.not_lt.mp p_3), eq_false c_5, eq_false p_6, eq_true c_8, ↓reduceIte]; done) | (simp only [micF, eq_false p_1, eq_true (Int32.not_lt.mp p_1), eq_false p_3, eq_true (Int32.not_lt.mp p_3), eq_false c_5, eq_false p_6, eq_true c_8, ↓reduceIte] <;> rfl) | (simp [micF, p_1, p_3, c_5, p_6, c_8]; done), rfl⟩
set_option maxHeartbeats 4000000 in
set_option maxRecDepth 100000 in
theorem m_wind (l : Launch) (D : va_G) (b : Nat) (sc : Nat → Int32) (ar : Nat → Nat → Int32) (hn : Nat → Option Nat) (mh : Int64) (G : List va_E) (x : Int32) : Con l yX12_wind cX12_wind 3 (some .int) 1 25 D b 0 0 (wl D b sc ar hn mh G) [.ref (b + 27), .int x] (fun r es' => r = some (.int (mwiS sc x).1) ∧ wl D b (mwiS sc x).2 ar hn mh G = es') := by
  refine con_of (by decide) (Nat.le_of_ble_eq_true rfl) (fun p e s m args below meth c C hsz => ?_)
  have C : vC p s m args meth c cX12_wind 3 RX12 "wind" (some .int) D b := C
  change V p l e _ s m args below meth c D b 3 _ 0 0 (wl D b sc ar hn mh G) [(0, .ref (b + 27)), (1, .int x)] [] 0
  refine v_iload_n (n := 1) C dX12_wind_0 rfl rfl rfl ?_
  refine v_i2l (n := 2) C dX12_wind_1 rfl ?_
  refine v_lconst (n := 3) (v := 0) C dX12_wind_2 rfl (by decide) ?_
  refine v_ldc2 (n := 6) C dX12_wind_3 rfl kl_X12_109 ?_
  refine v_stk (st' := [.long (Int32.toInt64 4), .long (Int32.toInt64 0), .long (Int32.toInt64 x)]) rfl ?_
  refine v_go (n := 9) C (vRun_S (As := [.long (Int32.toInt64 x), .long (Int32.toInt64 0), .long (Int32.toInt64 4)]) (rest := []) C lk_X12_55 st_X12_in dX12_wind_6 (c_in l D b (wl D b sc ar hn mh G) x 0 4) wm_X12_in rfl rfl ⟨Nat.le_of_ble_eq_true rfl, Nat.le_of_ble_eq_true rfl⟩ ⟨Nat.le_of_ble_eq_true rfl, Nat.le_of_ble_eq_true rfl⟩ (Nat.le_of_ble_eq_true rfl)) rfl ?_
  rintro _ _ ⟨rfl, rfl⟩ -
  by_cases p_1 : x < 0
  · skip
    refine v_stk (st' := .int 0 :: []) (congrArg (fun z : Int32 => Value.int z :: []) (show niF x 0 4 = 0 by simp only [niF, if_pos p_1])) ?_
    refine v_if_ne (t := 15) (n := 12) C dX12_wind_9 (by decide) rfl (fun c_2 => ?_) (fun c_2 => ?_)
    · exact absurd c_2 (by decide)
    · skip
      refine v_bipush (n := 14) (v := -102) C dX12_wind_12 rfl (by decide) ?_
      exact v_iret C dX12_wind_14 rfl rfl ⟨by first | rfl | (simp only [mwiS, if_pos p_1, if_neg (Int32.not_le.mpr p_1), if_pos c_2]; done) | (simp only [mwiS, eq_true p_1, eq_false (Int32.not_le.mpr p_1), eq_true c_2, ↓reduceIte]; done) | (simp only [mwiS, eq_true p_1, eq_false (Int32.not_le.mpr p_1), eq_true c_2, ↓reduceIte] <;> rfl) | (simp [mwiS, p_1, c_2]; done), by first | rfl | (simp only [mwiS, if_pos p_1, if_neg (Int32.not_le.mpr p_1), if_pos c_2]; done) | (simp only [mwiS, eq_true p_1, eq_false (Int32.not_le.mpr p_1), eq_true c_2, ↓reduceIte]; done) | (simp only [mwiS, eq_true p_1, eq_false (Int32.not_le.mpr p_1), eq_true c_2, ↓reduceIte] <;> rfl) | (simp [mwiS, p_1, c_2]; done)⟩
  by_cases p_3 : 4 < x
  · skip
    refine v_stk (st' := .int 0 :: []) (congrArg (fun z : Int32 => Value.int z :: []) (show niF x 0 4 = 0 by simp only [niF, if_neg p_1, if_pos p_3])) ?_
    refine v_if_ne (t := 15) (n := 12) C dX12_wind_9 (by decide) rfl (fun c_4 => ?_) (fun c_4 => ?_)
    · exact absurd c_4 (by decide)
    · skip
      refine v_bipush (n := 14) (v := -102) C dX12_wind_12 rfl (by decide) ?_
      exact v_iret C dX12_wind_14 rfl rfl ⟨by first | rfl | (simp only [mwiS, if_neg p_1, if_pos (Int32.not_lt.mp p_1), if_pos p_3, if_neg (Int32.not_le.mpr p_3), if_pos c_4]; done) | (simp only [mwiS, eq_false p_1, eq_true (Int32.not_lt.mp p_1), eq_true p_3, eq_false (Int32.not_le.mpr p_3), eq_true c_4, ↓reduceIte]; done) | (simp only [mwiS, eq_false p_1, eq_true (Int32.not_lt.mp p_1), eq_true p_3, eq_false (Int32.not_le.mpr p_3), eq_true c_4, ↓reduceIte] <;> rfl) | (simp [mwiS, p_1, p_3, c_4]; done), by first | rfl | (simp only [mwiS, if_neg p_1, if_pos (Int32.not_lt.mp p_1), if_pos p_3, if_neg (Int32.not_le.mpr p_3), if_pos c_4]; done) | (simp only [mwiS, eq_false p_1, eq_true (Int32.not_lt.mp p_1), eq_true p_3, eq_false (Int32.not_le.mpr p_3), eq_true c_4, ↓reduceIte]; done) | (simp only [mwiS, eq_false p_1, eq_true (Int32.not_lt.mp p_1), eq_true p_3, eq_false (Int32.not_le.mpr p_3), eq_true c_4, ↓reduceIte] <;> rfl) | (simp [mwiS, p_1, p_3, c_4]; done)⟩
  refine v_stk (st' := .int 1 :: []) (congrArg (fun z : Int32 => Value.int z :: []) (show niF x 0 4 = 1 by simp only [niF, if_neg p_1, if_neg p_3])) ?_
  refine v_if_ne (t := 15) (n := 12) C dX12_wind_9 (by decide) rfl (fun c_5 => ?_) (fun c_5 => ?_)
  · skip
    refine v_aload_n (n := 16) C dX12_wind_15 rfl rfl rfl ?_
    refine v_go (n := 19) C (vRun_V (As := []) (rest := []) C wl_c27 rfl lk_X12_89 im_X12_lacks se_X12_lacks dX12_wind_16 (m_lacks l D b sc ar hn mh G) wm_X12_lacks rfl rfl ⟨Nat.le_of_ble_eq_true rfl, Nat.le_of_ble_eq_true rfl⟩ ⟨Nat.le_of_ble_eq_true rfl, Nat.le_of_ble_eq_true rfl⟩ (Nat.le_of_ble_eq_true rfl)) rfl ?_
    rintro _ _ ⟨rfl, rfl⟩ -
    by_cases p_6 : (sc 21) = 0
    · skip
      refine v_stk (st' := .int 1 :: []) (congrArg (fun z : Int32 => Value.int z :: []) (show mlaF (sc 21) = 1 by simp only [mlaF, if_pos p_6])) ?_
      refine v_if_eq (t := 25) (n := 22) C dX12_wind_19 (by decide) rfl (fun c_7 => ?_) (fun c_7 => ?_)
      · exact absurd c_7 (by decide)
      · skip
        refine v_bipush (n := 24) (v := -103) C dX12_wind_22 rfl (by decide) ?_
        exact v_iret C dX12_wind_24 rfl rfl ⟨by first | rfl | (simp only [mwiS, if_neg p_1, if_pos (Int32.not_lt.mp p_1), if_neg p_3, if_pos (Int32.not_lt.mp p_3), if_neg c_5, if_pos p_6, if_neg c_7]; done) | (simp only [mwiS, eq_false p_1, eq_true (Int32.not_lt.mp p_1), eq_false p_3, eq_true (Int32.not_lt.mp p_3), eq_false c_5, eq_true p_6, eq_false c_7, ↓reduceIte]; done) | (simp only [mwiS, eq_false p_1, eq_true (Int32.not_lt.mp p_1), eq_false p_3, eq_true (Int32.not_lt.mp p_3), eq_false c_5, eq_true p_6, eq_false c_7, ↓reduceIte] <;> rfl) | (simp [mwiS, p_1, p_3, c_5, p_6, c_7]; done), by first | rfl | (simp only [mwiS, if_neg p_1, if_pos (Int32.not_lt.mp p_1), if_neg p_3, if_pos (Int32.not_lt.mp p_3), if_neg c_5, if_pos p_6, if_neg c_7]; done) | (simp only [mwiS, eq_false p_1, eq_true (Int32.not_lt.mp p_1), eq_false p_3, eq_true (Int32.not_lt.mp p_3), eq_false c_5, eq_true p_6, eq_false c_7, ↓reduceIte]; done) | (simp only [mwiS, eq_false p_1, eq_true (Int32.not_lt.mp p_1), eq_false p_3, eq_true (Int32.not_lt.mp p_3), eq_false c_5, eq_true p_6, eq_false c_7, ↓reduceIte] <;> rfl) | (simp [mwiS, p_1, p_3, c_5, p_6, c_7]; done)⟩
    refine v_stk (st' := .int 0 :: []) (congrArg (fun z : Int32 => Value.int z :: []) (show mlaF (sc 21) = 0 by simp only [mlaF, if_neg p_6])) ?_
    refine v_if_eq (t := 25) (n := 22) C dX12_wind_19 (by decide) rfl (fun c_8 => ?_) (fun c_8 => ?_)
    · skip
      refine v_aload_n (n := 26) C dX12_wind_25 rfl rfl rfl ?_
      refine v_get (n := 29) C dX12_wind_26 rfl fl_X12_50_X12 wl_c27 rfl ?_
      refine v_istore_n (n := 30) (lv' := [(2, .int (sc 23)), (0, .ref (b + 27)), (1, .int x)]) C dX12_wind_29 rfl rfl (Nat.le_of_ble_eq_true rfl) rfl ?_
      refine v_aload_n (n := 31) C dX12_wind_30 rfl rfl rfl ?_
      refine v_iload_n (n := 32) C dX12_wind_31 rfl rfl rfl ?_
      refine v_put (n := 35) (es' := (wl D b (va_up sc 23 x) ar hn mh G)) C dX12_wind_32 rfl fl_X12_50_X12 (fp_any fp_X12_4) wl_c27 rfl rfl (Nat.le_of_ble_eq_true rfl) wl_p27_4 ?_
      refine v_iload_n (n := 36) C dX12_wind_35 rfl rfl rfl ?_
      exact v_iret C dX12_wind_36 rfl rfl ⟨by first | rfl | (simp only [mwiS, if_neg p_1, if_pos (Int32.not_lt.mp p_1), if_neg p_3, if_pos (Int32.not_lt.mp p_3), if_neg c_5, if_neg p_6, if_pos c_8]; done) | (simp only [mwiS, eq_false p_1, eq_true (Int32.not_lt.mp p_1), eq_false p_3, eq_true (Int32.not_lt.mp p_3), eq_false c_5, eq_false p_6, eq_true c_8, ↓reduceIte]; done) | (simp only [mwiS, eq_false p_1, eq_true (Int32.not_lt.mp p_1), eq_false p_3, eq_true (Int32.not_lt.mp p_3), eq_false c_5, eq_false p_6, eq_true c_8, ↓reduceIte] <;> rfl) | (simp [mwiS, p_1, p_3, c_5, p_6, c_8]; done), by first | rfl | (simp only [mwiS, if_neg p_1, if_pos (Int32.not_lt.mp p_1), if_neg p_3, if_pos (Int32.not_lt.mp p_3), if_neg c_5, if_neg p_6, if_pos c_8]; done) | (simp only [mwiS, eq_false p_1, eq_true (Int32.not_lt.mp p_1), eq_false p_3, eq_true (Int32.not_lt.mp p_3), eq_false c_5, eq_false p_6, eq_true c_8, ↓reduceIte]; done) | (simp only [mwiS, eq_false p_1, eq_true (Int32.not_lt.mp p_1), eq_false p_3, eq_true (Int32.not_lt.mp p_3), eq_false c_5, eq_false p_6, eq_true c_8, ↓reduceIte] <;> rfl) | (simp [mwiS, p_1, p_3, c_5, p_6, c_8]; done)⟩
    · exact absurd c_8 (by decide)
  · exact absurd c_5 (by decide)
set_option maxHeartbeats 4000000 in
set_option maxRecDepth 100000 in
theorem m_pass (l : Launch) (D : va_G) (b : Nat) (sc : Nat → Int32) (ar : Nat → Nat → Int32) (hn : Nat → Option Nat) (mh : Int64) (G : List va_E) (x : Int32) : Con l yX12_pass cX12_pass 2 (some .int) 1 25 D b 0 0 (wl D b sc ar hn mh G) [.ref (b + 27), .int x] (fun r es' => r = some (.int (mpaS sc x).1) ∧ wl D b (mpaS sc x).2 ar hn mh G = es') := by
  refine con_of (by decide) (Nat.le_of_ble_eq_true rfl) (fun p e s m args below meth c C hsz => ?_)
  have C : vC p s m args meth c cX12_pass 2 RX12 "pass" (some .int) D b := C
  change V p l e _ s m args below meth c D b 2 _ 0 0 (wl D b sc ar hn mh G) [(0, .ref (b + 27)), (1, .int x)] [] 0
  refine v_iload_n (n := 1) C dX12_pass_0 rfl rfl rfl ?_
  refine v_i2l (n := 2) C dX12_pass_1 rfl ?_
  refine v_lconst (n := 3) (v := 1) C dX12_pass_2 rfl (by decide) ?_
  refine v_ldc2 (n := 6) C dX12_pass_3 rfl kl_X12_111 ?_
  refine v_stk (st' := [.long (Int32.toInt64 30), .long (Int32.toInt64 1), .long (Int32.toInt64 x)]) rfl ?_
  refine v_go (n := 9) C (vRun_S (As := [.long (Int32.toInt64 x), .long (Int32.toInt64 1), .long (Int32.toInt64 30)]) (rest := []) C lk_X12_55 st_X12_in dX12_pass_6 (c_in l D b (wl D b sc ar hn mh G) x 1 30) wm_X12_in rfl rfl ⟨Nat.le_of_ble_eq_true rfl, Nat.le_of_ble_eq_true rfl⟩ ⟨Nat.le_of_ble_eq_true rfl, Nat.le_of_ble_eq_true rfl⟩ (Nat.le_of_ble_eq_true rfl)) rfl ?_
  rintro _ _ ⟨rfl, rfl⟩ -
  by_cases p_1 : x < 1
  · skip
    refine v_stk (st' := .int 0 :: []) (congrArg (fun z : Int32 => Value.int z :: []) (show niF x 1 30 = 0 by simp only [niF, if_pos p_1])) ?_
    refine v_if_ne (t := 15) (n := 12) C dX12_pass_9 (by decide) rfl (fun c_2 => ?_) (fun c_2 => ?_)
    · exact absurd c_2 (by decide)
    · skip
      refine v_bipush (n := 14) (v := -102) C dX12_pass_12 rfl (by decide) ?_
      exact v_iret C dX12_pass_14 rfl rfl ⟨by first | rfl | (simp only [mpaS, if_pos p_1, if_neg (Int32.not_le.mpr p_1), if_pos c_2]; done) | (simp only [mpaS, eq_true p_1, eq_false (Int32.not_le.mpr p_1), eq_true c_2, ↓reduceIte]; done) | (simp only [mpaS, eq_true p_1, eq_false (Int32.not_le.mpr p_1), eq_true c_2, ↓reduceIte] <;> rfl) | (simp [mpaS, p_1, c_2]; done), by first | rfl | (simp only [mpaS, if_pos p_1, if_neg (Int32.not_le.mpr p_1), if_pos c_2]; done) | (simp only [mpaS, eq_true p_1, eq_false (Int32.not_le.mpr p_1), eq_true c_2, ↓reduceIte]; done) | (simp only [mpaS, eq_true p_1, eq_false (Int32.not_le.mpr p_1), eq_true c_2, ↓reduceIte] <;> rfl) | (simp [mpaS, p_1, c_2]; done)⟩
  by_cases p_3 : 30 < x
  · skip
    refine v_stk (st' := .int 0 :: []) (congrArg (fun z : Int32 => Value.int z :: []) (show niF x 1 30 = 0 by simp only [niF, if_neg p_1, if_pos p_3])) ?_
    refine v_if_ne (t := 15) (n := 12) C dX12_pass_9 (by decide) rfl (fun c_4 => ?_) (fun c_4 => ?_)
    · exact absurd c_4 (by decide)
    · skip
      refine v_bipush (n := 14) (v := -102) C dX12_pass_12 rfl (by decide) ?_
      exact v_iret C dX12_pass_14 rfl rfl ⟨by first | rfl | (simp only [mpaS, if_neg p_1, if_pos (Int32.not_lt.mp p_1), if_pos p_3, if_neg (Int32.not_le.mpr p_3), if_pos c_4]; done) | (simp only [mpaS, eq_false p_1, eq_true (Int32.not_lt.mp p_1), eq_true p_3, eq_false (Int32.not_le.mpr p_3), eq_true c_4, ↓reduceIte]; done) | (simp only [mpaS, eq_false p_1, eq_true (Int32.not_lt.mp p_1), eq_true p_3, eq_false (Int32.not_le.mpr p_3), eq_true c_4, ↓reduceIte] <;> rfl) | (simp [mpaS, p_1, p_3, c_4]; done), by first | rfl | (simp only [mpaS, if_neg p_1, if_pos (Int32.not_lt.mp p_1), if_pos p_3, if_neg (Int32.not_le.mpr p_3), if_pos c_4]; done) | (simp only [mpaS, eq_false p_1, eq_true (Int32.not_lt.mp p_1), eq_true p_3, eq_false (Int32.not_le.mpr p_3), eq_true c_4, ↓reduceIte]; done) | (simp only [mpaS, eq_false p_1, eq_true (Int32.not_lt.mp p_1), eq_true p_3, eq_false (Int32.not_le.mpr p_3), eq_true c_4, ↓reduceIte] <;> rfl) | (simp [mpaS, p_1, p_3, c_4]; done)⟩
  refine v_stk (st' := .int 1 :: []) (congrArg (fun z : Int32 => Value.int z :: []) (show niF x 1 30 = 1 by simp only [niF, if_neg p_1, if_neg p_3])) ?_
  refine v_if_ne (t := 15) (n := 12) C dX12_pass_9 (by decide) rfl (fun c_5 => ?_) (fun c_5 => ?_)
  · skip
    refine v_aload_n (n := 16) C dX12_pass_15 rfl rfl rfl ?_
    refine v_go (n := 19) C (vRun_V (As := []) (rest := []) C wl_c27 rfl lk_X12_89 im_X12_lacks se_X12_lacks dX12_pass_16 (m_lacks l D b sc ar hn mh G) wm_X12_lacks rfl rfl ⟨Nat.le_of_ble_eq_true rfl, Nat.le_of_ble_eq_true rfl⟩ ⟨Nat.le_of_ble_eq_true rfl, Nat.le_of_ble_eq_true rfl⟩ (Nat.le_of_ble_eq_true rfl)) rfl ?_
    rintro _ _ ⟨rfl, rfl⟩ -
    by_cases p_6 : (sc 21) = 0
    · skip
      refine v_stk (st' := .int 1 :: []) (congrArg (fun z : Int32 => Value.int z :: []) (show mlaF (sc 21) = 1 by simp only [mlaF, if_pos p_6])) ?_
      refine v_if_ne (t := 34) (n := 22) C dX12_pass_19 (by decide) rfl (fun c_7 => ?_) (fun c_7 => ?_)
      · skip
        refine v_bipush (n := 36) (v := -103) C dX12_pass_34 rfl (by decide) ?_
        exact v_iret C dX12_pass_36 rfl rfl ⟨by first | rfl | (simp only [mpaS, if_neg p_1, if_pos (Int32.not_lt.mp p_1), if_neg p_3, if_pos (Int32.not_lt.mp p_3), if_neg c_5, if_pos p_6, if_neg c_7]; done) | (simp only [mpaS, eq_false p_1, eq_true (Int32.not_lt.mp p_1), eq_false p_3, eq_true (Int32.not_lt.mp p_3), eq_false c_5, eq_true p_6, eq_false c_7, ↓reduceIte]; done) | (simp only [mpaS, eq_false p_1, eq_true (Int32.not_lt.mp p_1), eq_false p_3, eq_true (Int32.not_lt.mp p_3), eq_false c_5, eq_true p_6, eq_false c_7, ↓reduceIte] <;> rfl) | (simp [mpaS, p_1, p_3, c_5, p_6, c_7]; done), by first | rfl | (simp only [mpaS, if_neg p_1, if_pos (Int32.not_lt.mp p_1), if_neg p_3, if_pos (Int32.not_lt.mp p_3), if_neg c_5, if_pos p_6, if_neg c_7]; done) | (simp only [mpaS, eq_false p_1, eq_true (Int32.not_lt.mp p_1), eq_false p_3, eq_true (Int32.not_lt.mp p_3), eq_false c_5, eq_true p_6, eq_false c_7, ↓reduceIte]; done) | (simp only [mpaS, eq_false p_1, eq_true (Int32.not_lt.mp p_1), eq_false p_3, eq_true (Int32.not_lt.mp p_3), eq_false c_5, eq_true p_6, eq_false c_7, ↓reduceIte] <;> rfl) | (simp [mpaS, p_1, p_3, c_5, p_6, c_7]; done)⟩
      · exact absurd c_7 (by decide)
    refine v_stk (st' := .int 0 :: []) (congrArg (fun z : Int32 => Value.int z :: []) (show mlaF (sc 21) = 0 by simp only [mlaF, if_neg p_6])) ?_
    refine v_if_ne (t := 34) (n := 22) C dX12_pass_19 (by decide) rfl (fun c_8 => ?_) (fun c_8 => ?_)
    · exact absurd c_8 (by decide)
    · skip
      refine v_aload_n (n := 23) C dX12_pass_22 rfl rfl rfl ?_
      refine v_get (n := 26) C dX12_pass_23 rfl fl_X12_75_X12 wl_c27 rfl ?_
      refine v_iload_n (n := 27) C dX12_pass_26 rfl rfl rfl ?_
      refine v_iadd (n := 28) C dX12_pass_27 rfl ?_
      refine v_sipush (n := 31) (v := 999) C dX12_pass_28 rfl (by decide) ?_
      refine v_icmp_le (t := 37) (n := 34) C dX12_pass_31 (by decide) rfl (fun c_9 => ?_) (fun c_9 => ?_)
      · skip
        refine v_aload_n (n := 38) C dX12_pass_37 rfl rfl rfl ?_
        refine v_dup (n := 39) C dX12_pass_38 rfl rfl ?_
        refine v_get (n := 42) C dX12_pass_39 rfl fl_X12_75_X12 wl_c27 rfl ?_
        refine v_iload_n (n := 43) C dX12_pass_42 rfl rfl rfl ?_
        refine v_iadd (n := 44) C dX12_pass_43 rfl ?_
        refine v_put (n := 47) (es' := (wl D b (va_up sc 22 ((sc 22) + x)) ar hn mh G)) C dX12_pass_44 rfl fl_X12_75_X12 (fp_any fp_X12_3) wl_c27 rfl rfl (Nat.le_of_ble_eq_true rfl) wl_p27_3 ?_
        refine v_aload_n (n := 48) C dX12_pass_47 rfl rfl rfl ?_
        refine v_get (n := 51) C dX12_pass_48 rfl fl_X12_75_X12 (show (wl D b (va_up sc 22 ((sc 22) + x)) ar hn mh G)[27]? = some (.inr (12, [.ref (b + 28), .int (sc 20), .int (sc 21), .int ((sc 22) + x), .int (sc 23), .int (sc 24), .ref (b + 29), .int (sc 25), .ref (b + 30), .ref (b + 31), .ref (b + 32), .ref (b + 33), .ref (b + 34), .int (sc 26), .int (sc 27), .int (sc 28), .ref (b + 35), .ref (b + 36), .int (sc 29), .ref (b + 37), .int (sc 30), .int (sc 31), .int (sc 32), .int (sc 33), .int (sc 34), .ref (b + 38), .ref (b + 39), .long mh])) from wl_c27) rfl ?_
        exact v_iret C dX12_pass_51 rfl rfl ⟨by first | rfl | (simp only [mpaS, if_neg p_1, if_pos (Int32.not_lt.mp p_1), if_neg p_3, if_pos (Int32.not_lt.mp p_3), if_neg c_5, if_neg p_6, if_pos c_8, if_pos c_9, if_neg (Int32.not_lt.mpr c_9)]; done) | (simp only [mpaS, eq_false p_1, eq_true (Int32.not_lt.mp p_1), eq_false p_3, eq_true (Int32.not_lt.mp p_3), eq_false c_5, eq_false p_6, eq_true c_8, eq_true c_9, eq_false (Int32.not_lt.mpr c_9), ↓reduceIte]; done) | (simp only [mpaS, eq_false p_1, eq_true (Int32.not_lt.mp p_1), eq_false p_3, eq_true (Int32.not_lt.mp p_3), eq_false c_5, eq_false p_6, eq_true c_8, eq_true c_9, eq_false (Int32.not_lt.mpr c_9), ↓reduceIte] <;> rfl) | (simp [mpaS, p_1, p_3, c_5, p_6, c_8, c_9]; done), by first | rfl | (simp only [mpaS, if_neg p_1, if_pos (Int32.not_lt.mp p_1), if_neg p_3, if_pos (Int32.not_lt.mp p_3), if_neg c_5, if_neg p_6, if_pos c_8, if_pos c_9, if_neg (Int32.not_lt.mpr c_9)]; done) | (simp only [mpaS, eq_false p_1, eq_true (Int32.not_lt.mp p_1), eq_false p_3, eq_true (Int32.not_lt.mp p_3), eq_false c_5, eq_false p_6, eq_true c_8, eq_true c_9, eq_false (Int32.not_lt.mpr c_9), ↓reduceIte]; done) | (simp only [mpaS, eq_false p_1, eq_true (Int32.not_lt.mp p_1), eq_false p_3, eq_true (Int32.not_lt.mp p_3), eq_false c_5, eq_false p_6, eq_true c_8, eq_true c_9, eq_false (Int32.not_lt.mpr c_9), ↓reduceIte] <;> rfl) | (simp [mpaS, p_1, p_3, c_5, p_6, c_8, c_9]; done)⟩
      · skip
        refine v_bipush (n := 36) (v := -103) C dX12_pass_34 rfl (by decide) ?_
        exact v_iret C dX12_pass_36 rfl rfl ⟨by first | rfl | (simp only [mpaS, if_neg p_1, if_pos (Int32.not_lt.mp p_1), if_neg p_3, if_pos (Int32.not_lt.mp p_3), if_neg c_5, if_neg p_6, if_pos c_8, if_neg c_9, if_pos (Int32.not_le.mp c_9)]; done) | (simp only [mpaS, eq_false p_1, eq_true (Int32.not_lt.mp p_1), eq_false p_3, eq_true (Int32.not_lt.mp p_3), eq_false c_5, eq_false p_6, eq_true c_8, eq_false c_9, eq_true (Int32.not_le.mp c_9), ↓reduceIte]; done) | (simp only [mpaS, eq_false p_1, eq_true (Int32.not_lt.mp p_1), eq_false p_3, eq_true (Int32.not_lt.mp p_3), eq_false c_5, eq_false p_6, eq_true c_8, eq_false c_9, eq_true (Int32.not_le.mp c_9), ↓reduceIte] <;> rfl) | (simp [mpaS, p_1, p_3, c_5, p_6, c_8, c_9]; done), by first | rfl | (simp only [mpaS, if_neg p_1, if_pos (Int32.not_lt.mp p_1), if_neg p_3, if_pos (Int32.not_lt.mp p_3), if_neg c_5, if_neg p_6, if_pos c_8, if_neg c_9, if_pos (Int32.not_le.mp c_9)]; done) | (simp only [mpaS, eq_false p_1, eq_true (Int32.not_lt.mp p_1), eq_false p_3, eq_true (Int32.not_lt.mp p_3), eq_false c_5, eq_false p_6, eq_true c_8, eq_false c_9, eq_true (Int32.not_le.mp c_9), ↓reduceIte]; done) | (simp only [mpaS, eq_false p_1, eq_true (Int32.not_lt.mp p_1), eq_false p_3, eq_true (Int32.not_lt.mp p_3), eq_false c_5, eq_false p_6, eq_true c_8, eq_false c_9, eq_true (Int32.not_le.mp c_9), ↓reduceIte] <;> rfl) | (simp [mpaS, p_1, p_3, c_5, p_6, c_8, c_9]; done)⟩
  · exact absurd c_5 (by decide)
set_option maxHeartbeats 4000000 in
set_option maxRecDepth 100000 in
theorem m_isGood (l : Launch) (D : va_G) (b : Nat) (es : List va_E) (x y : Int32) : Con l yX12_isGood cX12_isGood 2 (some .boolean) 1 25 D b 0 0 es [.int x, .int y] (fun r es' => r = some (.int (igF x y)) ∧ es = es') := by
  refine con_of (by decide) (Nat.le_of_ble_eq_true rfl) (fun p e s m args below meth c C hsz => ?_)
  have C : vC p s m args meth c cX12_isGood 2 RX12 "isGood" (some .boolean) D b := C
  change V p l e _ s m args below meth c D b 2 _ 0 0 es [(0, .int x), (1, .int y)] [] 0
  refine v_iload_n (n := 1) C dX12_isGood_0 rfl rfl rfl ?_
  refine v_bipush (n := 3) (v := 13) C dX12_isGood_1 rfl (by decide) ?_
  refine v_icmp_le (t := 53) (n := 6) C dX12_isGood_3 (by decide) rfl (fun c_1 => ?_) (fun c_1 => ?_)
  · skip
    refine v_iload_n (n := 54) C dX12_isGood_53 rfl rfl rfl ?_
    refine v_iconst (n := 55) (v := 5) C dX12_isGood_54 rfl (by decide) ?_
    refine v_irem (n := 56) C dX12_isGood_55 rfl (by decide) ?_
    refine v_iconst (n := 57) (v := 4) C dX12_isGood_56 rfl (by decide) ?_
    refine v_icmp_ne (t := 74) (n := 60) C dX12_isGood_57 (by decide) rfl (fun c_2 => ?_) (fun c_2 => ?_)
    · skip
      refine v_iload_n (n := 75) C dX12_isGood_74 rfl rfl rfl ?_
      refine v_bipush (n := 77) (v := 48) C dX12_isGood_75 rfl (by decide) ?_
      refine v_isub (n := 78) C dX12_isGood_77 rfl ?_
      refine v_i2l (n := 79) C dX12_isGood_78 rfl ?_
      refine v_lconst (n := 80) (v := 0) C dX12_isGood_79 rfl (by decide) ?_
      refine v_ldc2 (n := 83) C dX12_isGood_80 rfl kl_X12_62 ?_
      refine v_stk (st' := [.long (Int32.toInt64 9), .long (Int32.toInt64 0), .long (Int32.toInt64 (y - 48))]) rfl ?_
      refine v_go (n := 86) C (vRun_S (As := [.long (Int32.toInt64 (y - 48)), .long (Int32.toInt64 0), .long (Int32.toInt64 9)]) (rest := []) C lk_X12_55 st_X12_in dX12_isGood_83 (c_in l D b es (y - 48) 0 9) wm_X12_in rfl rfl ⟨Nat.le_of_ble_eq_true rfl, Nat.le_of_ble_eq_true rfl⟩ ⟨Nat.le_of_ble_eq_true rfl, Nat.le_of_ble_eq_true rfl⟩ (Nat.le_of_ble_eq_true rfl)) rfl ?_
      rintro _ _ ⟨rfl, rfl⟩ -
      by_cases p_3 : (y - 48) < 0
      · skip
        refine v_stk (st' := .int 0 :: []) (congrArg (fun z : Int32 => Value.int z :: []) (show niF (y - 48) 0 9 = 0 by simp only [niF, if_pos p_3])) ?_
        exact v_iret C dX12_isGood_86 rfl rfl ⟨by first | rfl | (simp only [igF, niF, if_pos c_1, if_neg (Int32.not_lt.mpr c_1), if_neg c_2, if_pos p_3, if_neg (Int32.not_le.mpr p_3)]; done) | simp [igF, niF, c_1, c_2, p_3] , rfl⟩
      by_cases p_4 : 9 < (y - 48)
      · skip
        refine v_stk (st' := .int 0 :: []) (congrArg (fun z : Int32 => Value.int z :: []) (show niF (y - 48) 0 9 = 0 by simp only [niF, if_neg p_3, if_pos p_4])) ?_
        exact v_iret C dX12_isGood_86 rfl rfl ⟨by first | rfl | (simp only [igF, niF, if_pos c_1, if_neg (Int32.not_lt.mpr c_1), if_neg c_2, if_neg p_3, if_pos (Int32.not_lt.mp p_3), if_pos p_4, if_neg (Int32.not_le.mpr p_4)]; done) | simp [igF, niF, c_1, c_2, p_3, p_4] , rfl⟩
      refine v_stk (st' := .int 1 :: []) (congrArg (fun z : Int32 => Value.int z :: []) (show niF (y - 48) 0 9 = 1 by simp only [niF, if_neg p_3, if_neg p_4])) ?_
      exact v_iret C dX12_isGood_86 rfl rfl ⟨by first | rfl | (simp only [igF, niF, if_pos c_1, if_neg (Int32.not_lt.mpr c_1), if_neg c_2, if_neg p_3, if_pos (Int32.not_lt.mp p_3), if_neg p_4, if_pos (Int32.not_lt.mp p_4)]; done) | simp [igF, niF, c_1, c_2, p_3, p_4] , rfl⟩
    · skip
      refine v_iload_n (n := 61) C dX12_isGood_60 rfl rfl rfl ?_
      refine v_bipush (n := 63) (v := 44) C dX12_isGood_61 rfl (by decide) ?_
      refine v_icmp_ne (t := 70) (n := 66) C dX12_isGood_63 (by decide) rfl (fun c_5 => ?_) (fun c_5 => ?_)
      · skip
        refine v_iconst (n := 71) (v := 0) C dX12_isGood_70 rfl (by decide) ?_
        refine v_goto (t := 86) C dX12_isGood_71 (by decide) ?_
        exact v_iret C dX12_isGood_86 rfl rfl ⟨by first | rfl | (simp only [igF, niF, if_pos c_1, if_neg (Int32.not_lt.mpr c_1), if_pos c_2, if_neg c_5]; done) | simp [igF, niF, c_1, c_2, c_5] , rfl⟩
      · skip
        refine v_iconst (n := 67) (v := 1) C dX12_isGood_66 rfl (by decide) ?_
        refine v_goto (t := 86) C dX12_isGood_67 (by decide) ?_
        exact v_iret C dX12_isGood_86 rfl rfl ⟨by first | rfl | (simp only [igF, niF, if_pos c_1, if_neg (Int32.not_lt.mpr c_1), if_pos c_2, if_pos c_5]; done) | simp [igF, niF, c_1, c_2, c_5] , rfl⟩
  · skip
    refine v_iload_n (n := 7) C dX12_isGood_6 rfl rfl rfl ?_
    refine v_bipush (n := 9) (v := 14) C dX12_isGood_7 rfl (by decide) ?_
    refine v_icmp_ne (t := 26) (n := 12) C dX12_isGood_9 (by decide) rfl (fun c_6 => ?_) (fun c_6 => ?_)
    · skip
      refine v_iload_n (n := 27) C dX12_isGood_26 rfl rfl rfl ?_
      refine v_bipush (n := 29) (v := 15) C dX12_isGood_27 rfl (by decide) ?_
      refine v_icmp_ne (t := 51) (n := 32) C dX12_isGood_29 (by decide) rfl (fun c_7 => ?_) (fun c_7 => ?_)
      · skip
        refine v_iconst (n := 52) (v := 0) C dX12_isGood_51 rfl (by decide) ?_
        exact v_iret C dX12_isGood_52 rfl rfl ⟨by first | rfl | (simp only [igF, niF, if_neg c_1, if_pos (Int32.not_le.mp c_1), if_neg c_6, if_neg c_7]; done) | simp [igF, niF, c_1, c_6, c_7] , rfl⟩
      · skip
        refine v_iload_n (n := 33) C dX12_isGood_32 rfl rfl rfl ?_
        refine v_bipush (n := 35) (v := 48) C dX12_isGood_33 rfl (by decide) ?_
        refine v_isub (n := 36) C dX12_isGood_35 rfl ?_
        refine v_i2l (n := 37) C dX12_isGood_36 rfl ?_
        refine v_lconst (n := 38) (v := 1) C dX12_isGood_37 rfl (by decide) ?_
        refine v_ldc2 (n := 41) C dX12_isGood_38 rfl kl_X12_62 ?_
        refine v_stk (st' := [.long (Int32.toInt64 9), .long (Int32.toInt64 1), .long (Int32.toInt64 (y - 48))]) rfl ?_
        refine v_go (n := 44) C (vRun_S (As := [.long (Int32.toInt64 (y - 48)), .long (Int32.toInt64 1), .long (Int32.toInt64 9)]) (rest := []) C lk_X12_55 st_X12_in dX12_isGood_41 (c_in l D b es (y - 48) 1 9) wm_X12_in rfl rfl ⟨Nat.le_of_ble_eq_true rfl, Nat.le_of_ble_eq_true rfl⟩ ⟨Nat.le_of_ble_eq_true rfl, Nat.le_of_ble_eq_true rfl⟩ (Nat.le_of_ble_eq_true rfl)) rfl ?_
        rintro _ _ ⟨rfl, rfl⟩ -
        by_cases p_8 : (y - 48) < 1
        · skip
          refine v_stk (st' := .int 0 :: []) (congrArg (fun z : Int32 => Value.int z :: []) (show niF (y - 48) 1 9 = 0 by simp only [niF, if_pos p_8])) ?_
          refine v_if_eq (t := 51) (n := 47) C dX12_isGood_44 (by decide) rfl (fun c_9 => ?_) (fun c_9 => ?_)
          · skip
            refine v_iconst (n := 52) (v := 0) C dX12_isGood_51 rfl (by decide) ?_
            exact v_iret C dX12_isGood_52 rfl rfl ⟨by first | rfl | (simp only [igF, niF, if_neg c_1, if_pos (Int32.not_le.mp c_1), if_neg c_6, if_pos c_7, if_pos p_8, if_neg (Int32.not_le.mpr p_8), if_pos c_9]; done) | simp [igF, niF, c_1, c_6, c_7, p_8, c_9] , rfl⟩
          · exact absurd c_9 (by decide)
        by_cases p_10 : 9 < (y - 48)
        · skip
          refine v_stk (st' := .int 0 :: []) (congrArg (fun z : Int32 => Value.int z :: []) (show niF (y - 48) 1 9 = 0 by simp only [niF, if_neg p_8, if_pos p_10])) ?_
          refine v_if_eq (t := 51) (n := 47) C dX12_isGood_44 (by decide) rfl (fun c_11 => ?_) (fun c_11 => ?_)
          · skip
            refine v_iconst (n := 52) (v := 0) C dX12_isGood_51 rfl (by decide) ?_
            exact v_iret C dX12_isGood_52 rfl rfl ⟨by first | rfl | (simp only [igF, niF, if_neg c_1, if_pos (Int32.not_le.mp c_1), if_neg c_6, if_pos c_7, if_neg p_8, if_pos (Int32.not_lt.mp p_8), if_pos p_10, if_neg (Int32.not_le.mpr p_10), if_pos c_11]; done) | simp [igF, niF, c_1, c_6, c_7, p_8, p_10, c_11] , rfl⟩
          · exact absurd c_11 (by decide)
        refine v_stk (st' := .int 1 :: []) (congrArg (fun z : Int32 => Value.int z :: []) (show niF (y - 48) 1 9 = 1 by simp only [niF, if_neg p_8, if_neg p_10])) ?_
        refine v_if_eq (t := 51) (n := 47) C dX12_isGood_44 (by decide) rfl (fun c_12 => ?_) (fun c_12 => ?_)
        · exact absurd c_12 (by decide)
        · skip
          refine v_iconst (n := 48) (v := 1) C dX12_isGood_47 rfl (by decide) ?_
          refine v_goto (t := 52) C dX12_isGood_48 (by decide) ?_
          exact v_iret C dX12_isGood_52 rfl rfl ⟨by first | rfl | (simp only [igF, niF, if_neg c_1, if_pos (Int32.not_le.mp c_1), if_neg c_6, if_pos c_7, if_neg p_8, if_pos (Int32.not_lt.mp p_8), if_neg p_10, if_pos (Int32.not_lt.mp p_10), if_neg c_12]; done) | simp [igF, niF, c_1, c_6, c_7, p_8, p_10, c_12] , rfl⟩
    · skip
      refine v_iload_n (n := 13) C dX12_isGood_12 rfl rfl rfl ?_
      refine v_bipush (n := 15) (v := 59) C dX12_isGood_13 rfl (by decide) ?_
      refine v_icmp_ne (t := 22) (n := 18) C dX12_isGood_15 (by decide) rfl (fun c_13 => ?_) (fun c_13 => ?_)
      · skip
        refine v_iconst (n := 23) (v := 0) C dX12_isGood_22 rfl (by decide) ?_
        refine v_goto (t := 52) C dX12_isGood_23 (by decide) ?_
        exact v_iret C dX12_isGood_52 rfl rfl ⟨by first | rfl | (simp only [igF, niF, if_neg c_1, if_pos (Int32.not_le.mp c_1), if_pos c_6, if_neg c_13]; done) | simp [igF, niF, c_1, c_6, c_13] , rfl⟩
      · skip
        refine v_iconst (n := 19) (v := 1) C dX12_isGood_18 rfl (by decide) ?_
        refine v_goto (t := 52) C dX12_isGood_19 (by decide) ?_
        exact v_iret C dX12_isGood_52 rfl rfl ⟨by first | rfl | (simp only [igF, niF, if_neg c_1, if_pos (Int32.not_le.mp c_1), if_pos c_6, if_pos c_13]; done) | simp [igF, niF, c_1, c_6, c_13] , rfl⟩
set_option maxHeartbeats 4000000 in
set_option maxRecDepth 100000 in
theorem m_beside (l : Launch) (D : va_G) (b : Nat) (es : List va_E) (x w : Int32) : Con l yX12_beside cX12_beside 3 (some .int) 0 0 D b 0 0 es [.int x, .int w] (fun r es' => r = some (.int (mbeF x w)) ∧ es = es') := by
  refine con_of (by decide) (Nat.le_of_ble_eq_true rfl) (fun p e s m args below meth c C hsz => ?_)
  have C : vC p s m args meth c cX12_beside 3 RX12 "beside" (some .int) D b := C
  change V p l e _ s m args below meth c D b 3 _ 0 0 es [(0, .int x), (1, .int w)] [] 0
  refine v_iload_n (n := 1) C dX12_beside_0 rfl rfl rfl ?_
  refine v_iconst (n := 2) (v := 4) C dX12_beside_1 rfl (by decide) ?_
  refine v_irem (n := 3) C dX12_beside_2 rfl (by decide) ?_
  refine v_istore_n (n := 4) (lv' := [(2, .int (x - x / 4 * 4)), (0, .int x), (1, .int w)]) C dX12_beside_3 rfl rfl (Nat.le_of_ble_eq_true rfl) rfl ?_
  refine v_iload_n (n := 5) C dX12_beside_4 rfl rfl rfl ?_
  refine v_if_ne (t := 21) (n := 8) C dX12_beside_5 (by decide) rfl (fun c_1 => ?_) (fun c_1 => ?_)
  · skip
    refine v_iload_n (n := 22) C dX12_beside_21 rfl rfl rfl ?_
    refine v_iconst (n := 23) (v := 2) C dX12_beside_22 rfl (by decide) ?_
    refine v_icmp_ne (t := 38) (n := 26) C dX12_beside_23 (by decide) rfl (fun c_2 => ?_) (fun c_2 => ?_)
    · skip
      refine v_iload_n (n := 39) C dX12_beside_38 rfl rfl rfl ?_
      refine v_iconst (n := 40) (v := 1) C dX12_beside_39 rfl (by decide) ?_
      refine v_icmp_ne (t := 59) (n := 43) C dX12_beside_40 (by decide) rfl (fun c_3 => ?_) (fun c_3 => ?_)
      · skip
        refine v_iload_n (n := 60) C dX12_beside_59 rfl rfl rfl ?_
        refine v_iconst (n := 61) (v := 3) C dX12_beside_60 rfl (by decide) ?_
        refine v_icmp_le (t := 70) (n := 64) C dX12_beside_61 (by decide) rfl (fun c_4 => ?_) (fun c_4 => ?_)
        · skip
          refine v_iconst (n := 71) (v := -1) C dX12_beside_70 rfl (by decide) ?_
          exact v_iret C dX12_beside_71 rfl rfl ⟨by first | rfl | (simp only [mbeF, if_neg c_1, if_neg c_2, if_neg c_3, if_pos c_4, if_neg (Int32.not_lt.mpr c_4)]; done) | simp [mbeF, c_1, c_2, c_3, c_4] , rfl⟩
        · skip
          refine v_iload_n (n := 65) C dX12_beside_64 rfl rfl rfl ?_
          refine v_iconst (n := 66) (v := 4) C dX12_beside_65 rfl (by decide) ?_
          refine v_isub (n := 67) C dX12_beside_66 rfl ?_
          refine v_goto (t := 71) C dX12_beside_67 (by decide) ?_
          exact v_iret C dX12_beside_71 rfl rfl ⟨by first | rfl | (simp only [mbeF, if_neg c_1, if_neg c_2, if_neg c_3, if_neg c_4, if_pos (Int32.not_le.mp c_4)]; done) | simp [mbeF, c_1, c_2, c_3, c_4] , rfl⟩
      · skip
        refine v_iload_n (n := 44) C dX12_beside_43 rfl rfl rfl ?_
        refine v_bipush (n := 46) (v := 8) C dX12_beside_44 rfl (by decide) ?_
        refine v_icmp_ge (t := 55) (n := 49) C dX12_beside_46 (by decide) rfl (fun c_5 => ?_) (fun c_5 => ?_)
        · skip
          refine v_iconst (n := 56) (v := -1) C dX12_beside_55 rfl (by decide) ?_
          refine v_goto (t := 71) C dX12_beside_56 (by decide) ?_
          exact v_iret C dX12_beside_71 rfl rfl ⟨by first | rfl | (simp only [mbeF, if_neg c_1, if_neg c_2, if_pos c_3, if_pos c_5, if_neg (Int32.not_lt.mpr c_5)]; done) | simp [mbeF, c_1, c_2, c_3, c_5] , rfl⟩
        · skip
          refine v_iload_n (n := 50) C dX12_beside_49 rfl rfl rfl ?_
          refine v_iconst (n := 51) (v := 4) C dX12_beside_50 rfl (by decide) ?_
          refine v_iadd (n := 52) C dX12_beside_51 rfl ?_
          refine v_goto (t := 71) C dX12_beside_52 (by decide) ?_
          exact v_iret C dX12_beside_71 rfl rfl ⟨by first | rfl | (simp only [mbeF, if_neg c_1, if_neg c_2, if_pos c_3, if_neg c_5, if_pos (Int32.not_le.mp c_5)]; done) | simp [mbeF, c_1, c_2, c_3, c_5] , rfl⟩
    · skip
      refine v_iload_n (n := 27) C dX12_beside_26 rfl rfl rfl ?_
      refine v_if_le (t := 36) (n := 30) C dX12_beside_27 (by decide) rfl (fun c_6 => ?_) (fun c_6 => ?_)
      · skip
        refine v_iconst (n := 37) (v := -1) C dX12_beside_36 rfl (by decide) ?_
        exact v_iret C dX12_beside_37 rfl rfl ⟨by first | rfl | (simp only [mbeF, if_neg c_1, if_pos c_2, if_pos c_6, if_neg (Int32.not_lt.mpr c_6)]; done) | simp [mbeF, c_1, c_2, c_6] , rfl⟩
      · skip
        refine v_iload_n (n := 31) C dX12_beside_30 rfl rfl rfl ?_
        refine v_iconst (n := 32) (v := 1) C dX12_beside_31 rfl (by decide) ?_
        refine v_isub (n := 33) C dX12_beside_32 rfl ?_
        refine v_goto (t := 37) C dX12_beside_33 (by decide) ?_
        exact v_iret C dX12_beside_37 rfl rfl ⟨by first | rfl | (simp only [mbeF, if_neg c_1, if_pos c_2, if_neg c_6, if_pos (Int32.not_le.mp c_6)]; done) | simp [mbeF, c_1, c_2, c_6] , rfl⟩
  · skip
    refine v_iload_n (n := 9) C dX12_beside_8 rfl rfl rfl ?_
    refine v_iconst (n := 10) (v := 3) C dX12_beside_9 rfl (by decide) ?_
    refine v_icmp_ge (t := 19) (n := 13) C dX12_beside_10 (by decide) rfl (fun c_7 => ?_) (fun c_7 => ?_)
    · skip
      refine v_iconst (n := 20) (v := -1) C dX12_beside_19 rfl (by decide) ?_
      exact v_iret C dX12_beside_20 rfl rfl ⟨by first | rfl | (simp only [mbeF, if_pos c_1, if_pos c_7, if_neg (Int32.not_lt.mpr c_7)]; done) | simp [mbeF, c_1, c_7] , rfl⟩
    · skip
      refine v_iload_n (n := 14) C dX12_beside_13 rfl rfl rfl ?_
      refine v_iconst (n := 15) (v := 1) C dX12_beside_14 rfl (by decide) ?_
      refine v_iadd (n := 16) C dX12_beside_15 rfl ?_
      refine v_goto (t := 20) C dX12_beside_16 (by decide) ?_
      exact v_iret C dX12_beside_20 rfl rfl ⟨by first | rfl | (simp only [mbeF, if_pos c_1, if_neg c_7, if_pos (Int32.not_le.mp c_7)]; done) | simp [mbeF, c_1, c_7] , rfl⟩
set_option maxHeartbeats 4000000 in
set_option maxRecDepth 100000 in
theorem m_needs (l : Launch) (D : va_G) (b : Nat) (es : List va_E) (k w wd : Int32) : Con l yX12_needs cX12_needs 4 (some .int) 0 0 D b 0 0 es [.int k, .int w, .int wd] (fun r es' => r = some (.int (mneF k w wd)) ∧ es = es') := by
  refine con_of (by decide) (Nat.le_of_ble_eq_true rfl) (fun p e s m args below meth c C hsz => ?_)
  have C : vC p s m args meth c cX12_needs 4 RX12 "needs" (some .int) D b := C
  change V p l e _ s m args below meth c D b 4 _ 0 0 es [(0, .int k), (1, .int w), (2, .int wd)] [] 0
  refine v_iload_n (n := 1) C dX12_needs_0 rfl rfl rfl ?_
  refine v_iconst (n := 2) (v := 3) C dX12_needs_1 rfl (by decide) ?_
  refine v_icmp_ne (t := 9) (n := 5) C dX12_needs_2 (by decide) rfl (fun c_1 => ?_) (fun c_1 => ?_)
  · skip
    refine v_iconst (n := 10) (v := 0) C dX12_needs_9 rfl (by decide) ?_
    refine v_istore_n (n := 11) (lv' := [(3, .int 0), (0, .int k), (1, .int w), (2, .int wd)]) C dX12_needs_10 rfl rfl (Nat.le_of_ble_eq_true rfl) rfl ?_
    refine v_iload_n (n := 12) C dX12_needs_11 rfl rfl rfl ?_
    refine v_iconst (n := 13) (v := 4) C dX12_needs_12 rfl (by decide) ?_
    refine v_icmp_ne (t := 29) (n := 16) C dX12_needs_13 (by decide) rfl (fun c_2 => ?_) (fun c_2 => ?_)
    · skip
      refine v_iload_n (n := 30) C dX12_needs_29 rfl rfl rfl ?_
      refine v_iload_n (n := 31) C dX12_needs_30 rfl rfl rfl ?_
      refine v_icmp_ne (t := 38) (n := 34) C dX12_needs_31 (by decide) rfl (fun c_3 => ?_) (fun c_3 => ?_)
      · skip
        refine v_iload_n (n := 39) C dX12_needs_38 rfl rfl rfl ?_
        refine v_iload_n (n := 40) C dX12_needs_39 rfl rfl rfl ?_
        refine v_iconst (n := 41) (v := 2) C dX12_needs_40 rfl (by decide) ?_
        refine v_iadd (n := 42) C dX12_needs_41 rfl ?_
        refine v_iconst (n := 43) (v := 4) C dX12_needs_42 rfl (by decide) ?_
        refine v_irem (n := 44) C dX12_needs_43 rfl (by decide) ?_
        refine v_icmp_ne (t := 67) (n := 47) C dX12_needs_44 (by decide) rfl (fun c_4 => ?_) (fun c_4 => ?_)
        · skip
          refine v_iconst (n := 68) (v := 2) C dX12_needs_67 rfl (by decide) ?_
          refine v_iload_n (n := 69) C dX12_needs_68 rfl rfl rfl ?_
          refine v_iadd (n := 70) C dX12_needs_69 rfl ?_
          exact v_iret C dX12_needs_70 rfl rfl ⟨by first | rfl | (simp only [mneF, if_neg c_1, if_neg c_2, if_neg c_3, if_neg (fun h => c_3 (Eq.symm h)), if_neg c_4, if_neg (fun h => c_4 (Eq.symm h))]; done) | simp [mneF, c_1, c_2, c_3, c_4] , rfl⟩
        · skip
          refine v_iload_n (n := 48) C dX12_needs_47 rfl rfl rfl ?_
          refine v_iconst (n := 49) (v := 2) C dX12_needs_48 rfl (by decide) ?_
          refine v_icmp_ne (t := 56) (n := 52) C dX12_needs_49 (by decide) rfl (fun c_5 => ?_) (fun c_5 => ?_)
          · skip
            refine v_iload_n (n := 57) C dX12_needs_56 rfl rfl rfl ?_
            refine v_iconst (n := 58) (v := 4) C dX12_needs_57 rfl (by decide) ?_
            refine v_icmp_ne (t := 65) (n := 61) C dX12_needs_58 (by decide) rfl (fun c_6 => ?_) (fun c_6 => ?_)
            · skip
              refine v_iconst (n := 66) (v := -1) C dX12_needs_65 rfl (by decide) ?_
              exact v_iret C dX12_needs_66 rfl rfl ⟨by first | rfl | (simp only [mneF, if_neg c_1, if_neg c_2, if_neg c_3, if_neg (fun h => c_3 (Eq.symm h)), if_pos c_4, if_pos (Eq.symm c_4), if_neg c_5, if_neg c_6]; done) | simp [mneF, c_1, c_2, c_3, c_4, c_5, c_6] , rfl⟩
            · skip
              refine v_iconst (n := 62) (v := 3) C dX12_needs_61 rfl (by decide) ?_
              refine v_goto (t := 66) C dX12_needs_62 (by decide) ?_
              exact v_iret C dX12_needs_66 rfl rfl ⟨by first | rfl | (simp only [mneF, if_neg c_1, if_neg c_2, if_neg c_3, if_neg (fun h => c_3 (Eq.symm h)), if_pos c_4, if_pos (Eq.symm c_4), if_neg c_5, if_pos c_6]; done) | simp [mneF, c_1, c_2, c_3, c_4, c_5, c_6] , rfl⟩
          · skip
            refine v_iconst (n := 53) (v := 4) C dX12_needs_52 rfl (by decide) ?_
            refine v_goto (t := 66) C dX12_needs_53 (by decide) ?_
            exact v_iret C dX12_needs_66 rfl rfl ⟨by first | rfl | (simp only [mneF, if_neg c_1, if_neg c_2, if_neg c_3, if_neg (fun h => c_3 (Eq.symm h)), if_pos c_4, if_pos (Eq.symm c_4), if_pos c_5]; done) | simp [mneF, c_1, c_2, c_3, c_4, c_5] , rfl⟩
      · skip
        refine v_iconst (n := 35) (v := 1) C dX12_needs_34 rfl (by decide) ?_
        refine v_iload_n (n := 36) C dX12_needs_35 rfl rfl rfl ?_
        refine v_iadd (n := 37) C dX12_needs_36 rfl ?_
        exact v_iret C dX12_needs_37 rfl rfl ⟨by first | rfl | (simp only [mneF, if_neg c_1, if_neg c_2, if_pos c_3, if_pos (Eq.symm c_3)]; done) | simp [mneF, c_1, c_2, c_3] , rfl⟩
    · skip
      refine v_iload_n (n := 17) C dX12_needs_16 rfl rfl rfl ?_
      refine v_iconst (n := 18) (v := 4) C dX12_needs_17 rfl (by decide) ?_
      refine v_icmp_ne (t := 25) (n := 21) C dX12_needs_18 (by decide) rfl (fun c_7 => ?_) (fun c_7 => ?_)
      · skip
        refine v_iconst (n := 26) (v := 3) C dX12_needs_25 rfl (by decide) ?_
        refine v_iload_n (n := 27) C dX12_needs_26 rfl rfl rfl ?_
        refine v_iadd (n := 28) C dX12_needs_27 rfl ?_
        exact v_iret C dX12_needs_28 rfl rfl ⟨by first | rfl | (simp only [mneF, if_neg c_1, if_pos c_2, if_neg c_7]; done) | simp [mneF, c_1, c_2, c_7] , rfl⟩
      · skip
        refine v_iconst (n := 22) (v := 2) C dX12_needs_21 rfl (by decide) ?_
        refine v_goto (t := 28) C dX12_needs_22 (by decide) ?_
        exact v_iret C dX12_needs_28 rfl rfl ⟨by first | rfl | (simp only [mneF, if_neg c_1, if_pos c_2, if_pos c_7]; done) | simp [mneF, c_1, c_2, c_7] , rfl⟩
  · skip
    refine v_iconst (n := 6) (v := 1) C dX12_needs_5 rfl (by decide) ?_
    refine v_goto (t := 10) C dX12_needs_6 (by decide) ?_
    refine v_istore_n (n := 11) (lv' := [(3, .int 1), (0, .int k), (1, .int w), (2, .int wd)]) C dX12_needs_10 rfl rfl (Nat.le_of_ble_eq_true rfl) rfl ?_
    refine v_iload_n (n := 12) C dX12_needs_11 rfl rfl rfl ?_
    refine v_iconst (n := 13) (v := 4) C dX12_needs_12 rfl (by decide) ?_
    refine v_icmp_ne (t := 29) (n := 16) C dX12_needs_13 (by decide) rfl (fun c_8 => ?_) (fun c_8 => ?_)
    · skip
      refine v_iload_n (n := 30) C dX12_needs_29 rfl rfl rfl ?_
      refine v_iload_n (n := 31) C dX12_needs_30 rfl rfl rfl ?_
      refine v_icmp_ne (t := 38) (n := 34) C dX12_needs_31 (by decide) rfl (fun c_9 => ?_) (fun c_9 => ?_)
      · skip
        refine v_iload_n (n := 39) C dX12_needs_38 rfl rfl rfl ?_
        refine v_iload_n (n := 40) C dX12_needs_39 rfl rfl rfl ?_
        refine v_iconst (n := 41) (v := 2) C dX12_needs_40 rfl (by decide) ?_
        refine v_iadd (n := 42) C dX12_needs_41 rfl ?_
        refine v_iconst (n := 43) (v := 4) C dX12_needs_42 rfl (by decide) ?_
        refine v_irem (n := 44) C dX12_needs_43 rfl (by decide) ?_
        refine v_icmp_ne (t := 67) (n := 47) C dX12_needs_44 (by decide) rfl (fun c_10 => ?_) (fun c_10 => ?_)
        · skip
          refine v_iconst (n := 68) (v := 2) C dX12_needs_67 rfl (by decide) ?_
          refine v_iload_n (n := 69) C dX12_needs_68 rfl rfl rfl ?_
          refine v_iadd (n := 70) C dX12_needs_69 rfl ?_
          exact v_iret C dX12_needs_70 rfl rfl ⟨by first | rfl | (simp only [mneF, if_pos c_1, if_neg c_8, if_neg c_9, if_neg (fun h => c_9 (Eq.symm h)), if_neg c_10, if_neg (fun h => c_10 (Eq.symm h))]; done) | simp [mneF, c_1, c_8, c_9, c_10] , rfl⟩
        · skip
          refine v_iload_n (n := 48) C dX12_needs_47 rfl rfl rfl ?_
          refine v_iconst (n := 49) (v := 2) C dX12_needs_48 rfl (by decide) ?_
          refine v_icmp_ne (t := 56) (n := 52) C dX12_needs_49 (by decide) rfl (fun c_11 => ?_) (fun c_11 => ?_)
          · skip
            refine v_iload_n (n := 57) C dX12_needs_56 rfl rfl rfl ?_
            refine v_iconst (n := 58) (v := 4) C dX12_needs_57 rfl (by decide) ?_
            refine v_icmp_ne (t := 65) (n := 61) C dX12_needs_58 (by decide) rfl (fun c_12 => ?_) (fun c_12 => ?_)
            · skip
              refine v_iconst (n := 66) (v := -1) C dX12_needs_65 rfl (by decide) ?_
              exact v_iret C dX12_needs_66 rfl rfl ⟨by first | rfl | (simp only [mneF, if_pos c_1, if_neg c_8, if_neg c_9, if_neg (fun h => c_9 (Eq.symm h)), if_pos c_10, if_pos (Eq.symm c_10), if_neg c_11, if_neg c_12]; done) | simp [mneF, c_1, c_8, c_9, c_10, c_11, c_12] , rfl⟩
            · skip
              refine v_iconst (n := 62) (v := 3) C dX12_needs_61 rfl (by decide) ?_
              refine v_goto (t := 66) C dX12_needs_62 (by decide) ?_
              exact v_iret C dX12_needs_66 rfl rfl ⟨by first | rfl | (simp only [mneF, if_pos c_1, if_neg c_8, if_neg c_9, if_neg (fun h => c_9 (Eq.symm h)), if_pos c_10, if_pos (Eq.symm c_10), if_neg c_11, if_pos c_12]; done) | simp [mneF, c_1, c_8, c_9, c_10, c_11, c_12] , rfl⟩
          · skip
            refine v_iconst (n := 53) (v := 4) C dX12_needs_52 rfl (by decide) ?_
            refine v_goto (t := 66) C dX12_needs_53 (by decide) ?_
            exact v_iret C dX12_needs_66 rfl rfl ⟨by first | rfl | (simp only [mneF, if_pos c_1, if_neg c_8, if_neg c_9, if_neg (fun h => c_9 (Eq.symm h)), if_pos c_10, if_pos (Eq.symm c_10), if_pos c_11]; done) | simp [mneF, c_1, c_8, c_9, c_10, c_11] , rfl⟩
      · skip
        refine v_iconst (n := 35) (v := 1) C dX12_needs_34 rfl (by decide) ?_
        refine v_iload_n (n := 36) C dX12_needs_35 rfl rfl rfl ?_
        refine v_iadd (n := 37) C dX12_needs_36 rfl ?_
        exact v_iret C dX12_needs_37 rfl rfl ⟨by first | rfl | (simp only [mneF, if_pos c_1, if_neg c_8, if_pos c_9, if_pos (Eq.symm c_9)]; done) | simp [mneF, c_1, c_8, c_9] , rfl⟩
    · skip
      refine v_iload_n (n := 17) C dX12_needs_16 rfl rfl rfl ?_
      refine v_iconst (n := 18) (v := 4) C dX12_needs_17 rfl (by decide) ?_
      refine v_icmp_ne (t := 25) (n := 21) C dX12_needs_18 (by decide) rfl (fun c_13 => ?_) (fun c_13 => ?_)
      · skip
        refine v_iconst (n := 26) (v := 3) C dX12_needs_25 rfl (by decide) ?_
        refine v_iload_n (n := 27) C dX12_needs_26 rfl rfl rfl ?_
        refine v_iadd (n := 28) C dX12_needs_27 rfl ?_
        exact v_iret C dX12_needs_28 rfl rfl ⟨by first | rfl | (simp only [mneF, if_pos c_1, if_pos c_8, if_neg c_13]; done) | simp [mneF, c_1, c_8, c_13] , rfl⟩
      · skip
        refine v_iconst (n := 22) (v := 2) C dX12_needs_21 rfl (by decide) ?_
        refine v_goto (t := 28) C dX12_needs_22 (by decide) ?_
        exact v_iret C dX12_needs_28 rfl rfl ⟨by first | rfl | (simp only [mneF, if_pos c_1, if_pos c_8, if_pos c_13]; done) | simp [mneF, c_1, c_8, c_13] , rfl⟩
set_option maxHeartbeats 4000000 in
set_option maxRecDepth 100000 in
theorem m_highAt (l : Launch) (D : va_G) (b : Nat) (sc : Nat → Int32) (ar : Nat → Nat → Int32) (hn : Nat → Option Nat) (mh : Int64) (G : List va_E) (x h rp : Int32) (hx : vp_in x 12) : Con l yX12_highAt cX12_highAt 4 (some .int) 0 0 D b 0 0 (wl D b sc ar hn mh G) [.ref (b + 27), .int x, .int h, .int rp] (fun r es' => r = some (.int (mhiF (ar 29) x h rp)) ∧ (wl D b sc ar hn mh G) = es') := by
  refine con_of (by decide) (Nat.le_of_ble_eq_true rfl) (fun p e s m args below meth c C hsz => ?_)
  have C : vC p s m args meth c cX12_highAt 4 RX12 "highAt" (some .int) D b := C
  change V p l e _ s m args below meth c D b 4 _ 0 0 (wl D b sc ar hn mh G) [(0, .ref (b + 27)), (1, .int x), (2, .int h), (3, .int rp)] [] 0
  refine v_iload_n (n := 1) C dX12_highAt_0 rfl rfl rfl ?_
  refine v_iload_n (n := 2) C dX12_highAt_1 rfl rfl rfl ?_
  refine v_iload_n (n := 3) C dX12_highAt_2 rfl rfl rfl ?_
  refine v_iconst (n := 4) (v := 1) C dX12_highAt_3 rfl (by decide) ?_
  refine v_iadd (n := 5) C dX12_highAt_4 rfl ?_
  refine v_imul (n := 6) C dX12_highAt_5 rfl ?_
  refine v_icmp_lt (t := 13) (n := 9) C dX12_highAt_6 (by decide) rfl (fun c_1 => ?_) (fun c_1 => ?_)
  · skip
    refine v_aload_n (n := 14) C dX12_highAt_13 rfl rfl rfl ?_
    refine v_get (n := 17) C dX12_highAt_14 rfl fl_X12_13_X12 wl_c27 rfl ?_
    refine v_iload_n (n := 18) C dX12_highAt_17 rfl rfl rfl ?_
    refine v_iald (n := 19) C dX12_highAt_18 rfl wl_c29 hx ?_
    exact v_iret C dX12_highAt_19 rfl rfl ⟨by first | rfl | (simp only [mhiF, if_pos c_1, if_neg (Int32.not_le.mpr c_1)]; done) | (simp only [mhiF, eq_true c_1, eq_false (Int32.not_le.mpr c_1), ↓reduceIte]; done) | (simp only [mhiF, eq_true c_1, eq_false (Int32.not_le.mpr c_1), ↓reduceIte] <;> rfl) | (simp [mhiF, c_1]; done), rfl⟩
  · skip
    refine v_iconst (n := 10) (v := 0) C dX12_highAt_9 rfl (by decide) ?_
    refine v_goto (t := 19) C dX12_highAt_10 (by decide) ?_
    exact v_iret C dX12_highAt_19 rfl rfl ⟨by first | rfl | (simp only [mhiF, if_neg c_1, if_pos (Int32.not_lt.mp c_1)]; done) | (simp only [mhiF, eq_false c_1, eq_true (Int32.not_lt.mp c_1), ↓reduceIte]; done) | (simp only [mhiF, eq_false c_1, eq_true (Int32.not_lt.mp c_1), ↓reduceIte] <;> rfl) | (simp [mhiF, c_1]; done), rfl⟩
