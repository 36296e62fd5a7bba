def mfuP (sc : Nat → Int32) (ar : Nat → Nat → Int32) (v : Int32) : Prop :=
  (∃ i, i < 18 ∧ v = nI i ∧ (sc 20 ≤ nI i ∨ (¬ sc 20 ≤ nI i ∧ igF (nI i) (ar 28 i) = 0)) ∧ ∀ j, j < i → ¬ sc 20 ≤ nI j ∧ ¬ igF (nI j) (ar 28 j) = 0) ∨
  (v = nI 18 ∧ ∀ j, j < 18 → ¬ sc 20 ≤ nI j ∧ ¬ igF (nI j) (ar 28 j) = 0)
def mstN (sc : Nat → Int32) (ar : Nat → Nat → Int32) : Nat → Int32
  | 0 => 0
  | i + 1 => mstN sc ar i + (if mstF sc ar i = 0 then 0 else 1)
def mseS (sc : Nat → Int32) (ar : Nat → Nat → Int32) (x c h : Int32) : Int32 × (Nat → Int32) × (Nat → Nat → Int32) := if x < 0 then (-101, sc, ar) else if sc 25 - 1 < x then (-101, sc, ar) else if c < 0 then (-101, sc, ar) else if 11 < c then (-101, sc, ar) else if sc 21 = 0 then (-101, sc, ar) else
  if h < 0 then (-102, sc, ar) else if 40 < h then (-102, sc, ar) else if sc 28 = 6 then (-104, sc, ar) else
  (sc 28 + 1, va_up sc 28 (sc 28 + 1), va_up ar 35 (upd (upd (upd (ar 35) ((3 : Int32) * sc 28).toNatClampNeg x) ((3 : Int32) * sc 28 + 1).toNatClampNeg c) ((3 : Int32) * sc 28 + 2).toNatClampNeg h))
def mcoN (rp h : Int32) : Nat → Int32
  | 0 => 0
  | i + 1 => mcoN rp h i + (if h < rp * (nI i + 1) then 0 else 1)
def msaS (sc : Nat → Int32) (ar : Nat → Nat → Int32) (x w : Int32) : Int32 × (Nat → Int32) × (Nat → Nat → Int32) := if x < 0 then (-101, sc, ar) else if sc 25 - 1 < x then (-101, sc, ar) else if w < 0 then (-102, sc, ar) else if 3 < w then (-102, sc, ar) else
  if mhtF (ar 29) (ar 30) x.toNatClampNeg (ar 30 (4 * x.toNatClampNeg + 2)) (sc 22) w (sc 23) (sc 21) = -1 then (-103, sc, ar) else
  if 999 < sc 22 + mhtF (ar 29) (ar 30) x.toNatClampNeg (ar 30 (4 * x.toNatClampNeg + 2)) (sc 22) w (sc 23) (sc 21) then (-103, sc, ar) else
  (sc 22 + mhtF (ar 29) (ar 30) x.toNatClampNeg (ar 30 (4 * x.toNatClampNeg + 2)) (sc 22) w (sc 23) (sc 21), va_up sc 22 (sc 22 + mhtF (ar 29) (ar 30) x.toNatClampNeg (ar 30 (4 * x.toNatClampNeg + 2)) (sc 22) w (sc 23) (sc 21)),
   va_up ar 30 (upd (upd (ar 30) (4 * x.toNatClampNeg + 2) (mbeF (ar 30 (4 * x.toNatClampNeg + 2)) w)) (4 * x.toNatClampNeg + 3) ((upd (ar 30) (4 * x.toNatClampNeg + 2) (mbeF (ar 30 (4 * x.toNatClampNeg + 2)) w)) (4 * x.toNatClampNeg + 3) + mhtF (ar 29) (ar 30) x.toNatClampNeg (ar 30 (4 * x.toNatClampNeg + 2)) (sc 22) w (sc 23) (sc 21))))
set_option maxHeartbeats 4000000 in
set_option maxRecDepth 100000 in
theorem m_forget (l : Launch) (D : va_G) (b : Nat) (sc : Nat → Int32) (ar : Nat → Nat → Int32) (hn : Nat → Option Nat) (mh : Int64) (G : List va_E)  : Con l yX12_forget cX12_forget 2 (some .int) 0 0 D b 0 0 (wl D b sc ar hn mh G) [.ref (b + 27)] (fun r es' => r = some (.int (sc 28)) ∧ wl D b (va_up sc 28 0) ar hn mh G = es') := by
  refine con_of (by decide) (Nat.le_of_ble_eq_true rfl) (fun p e s m args below meth c C hsz => ?_)
  have C : vC p s m args meth c cX12_forget 2 RX12 "forget" (some .int) D b := C
  change V p l e _ s m args below meth c D b 2 _ 0 0 (wl D b sc ar hn mh G) [(0, .ref (b + 27))] [] 0
  refine v_aload_n (n := 1) C dX12_forget_0 rfl rfl rfl ?_
  refine v_get (n := 4) C dX12_forget_1 rfl fl_X12_81_X12 wl_c27 rfl ?_
  refine v_istore_n (n := 5) (lv' := [(1, .int (sc 28)), (0, .ref (b + 27))]) C dX12_forget_4 rfl rfl (Nat.le_of_ble_eq_true rfl) rfl ?_
  refine v_aload_n (n := 6) C dX12_forget_5 rfl rfl rfl ?_
  refine v_iconst (n := 7) (v := 0) C dX12_forget_6 rfl (by decide) ?_
  refine v_put (n := 10) (es' := (wl D b (va_up sc 28 0) ar hn mh G)) C dX12_forget_7 rfl fl_X12_81_X12 (fp_any fp_X12_15) wl_c27 rfl rfl (Nat.le_of_ble_eq_true rfl) wl_p27_15 ?_
  refine v_iload_n (n := 11) C dX12_forget_10 rfl rfl rfl ?_
  exact v_iret C dX12_forget_11 rfl rfl ⟨by first | rfl | (simp only []; done) | (simp only [↓reduceIte]; done) | (simp only [↓reduceIte] <;> rfl) | (simp []; done), by first | rfl | (simp only []; done) | (simp only [↓reduceIte]; done) | (simp only [↓reduceIte] <;> rfl) | (simp []; done)⟩
set_option maxHeartbeats 4000000 in
set_option maxRecDepth 100000 in
theorem m_copy_30_38 (l : Launch) (D : va_G) (b : Nat) (sc : Nat → Int32) (ar : Nat → Nat → Int32) (hn : Nat → Option Nat) (mh : Int64) (G : List va_E)  : Con l yX12_copy cX12_copy 3 none 0 0 D b 0 0 (wl D b sc ar hn mh G) [.ref (b + 30), .ref (b + 38)] (fun r es' => r = none ∧ wl D b sc (va_up ar 38 (copN (ar 30) (ar 38) 12)) hn mh G = es') := by
  refine con_of (by decide) (Nat.le_of_ble_eq_true rfl) (fun p e s m args below meth c C hsz => ?_)
  have C : vC p s m args meth c cX12_copy 3 RX12 "copy" none D b := C
  change V p l e _ s m args below meth c D b 3 _ 0 0 (wl D b sc ar hn mh G) [(0, .ref (b + 30)), (1, .ref (b + 38))] [] 0
  refine v_iconst (n := 1) (v := 0) C dX12_copy_0 rfl (by decide) ?_
  refine v_istore_n (n := 2) (lv' := [(2, .int 0), (0, .ref (b + 30)), (1, .ref (b + 38))]) C dX12_copy_1 rfl rfl (Nat.le_of_ble_eq_true rfl) rfl ?_
  refine v_pick (lv' := [(2, .int 0), (0, .ref (b + 30)), (1, .ref (b + 38))]) [0, 1, 2] rfl ?_
  have e_1 : (0 : Int32) = (nI 0) := rfl
  refine v_cong (es' := (wl D b sc (va_up ar 38 (ar 38)) hn mh G)) (lv' := [(2, .int 0), (0, .ref (b + 30)), (1, .ref (b + 38))]) rfl rfl ?_
  have e_2 : ((ar 38) : Nat → Int32) = (copN (ar 30) (ar 38) 0) := by first | rfl | (simp only [copN]; done) | (simp only [copN, ↓reduceIte]; done) | (simp only [copN, ↓reduceIte] <;> rfl) | (simp [copN]; done)
  refine v_cong (es' := (wl D b sc (va_up ar 38 (copN (ar 30) (ar 38) 0)) hn mh G)) (lv' := [(2, .int (nI 0)), (0, .ref (b + 30)), (1, .ref (b + 38))]) (cg1 (fun (y0 : Nat → Int32) => wl D b sc (va_up ar 38 y0) hn mh G) e_2) (cg1 (fun (z0 : Int32) => ([(2, .int z0), (0, .ref (b + 30)), (1, .ref (b + 38))] : List (Nat × Value))) e_1) ?_
  refine loop_dn (P := fun i_2 => V p l e { frames := 0, cells := 0, slots := 0, locals := 0 } s m args below meth c D b 3 (MQ below (cQ D b 0 (fun r es' => r = none ∧ wl D b sc (va_up ar 38 (copN (ar 30) (ar 38) 12)) hn mh G = es')) args s 0 0 (fun q => b ≤ q)) 0 0 (wl D b sc (va_up ar 38 (copN (ar 30) (ar 38) i_2)) hn mh G) [(2, .int (nI i_2)), (0, .ref (b + 30)), (1, .ref (b + 38))] [] 2) 12 ?_ (fun i_2 hi_2 ih_2 => ?_)
  · skip
    have g_3 : (12 : Int32) ≤ (nI 12) := by decide
    refine v_iload_n (n := 3) C dX12_copy_2 rfl rfl rfl ?_
    refine v_aload_n (n := 4) C dX12_copy_3 rfl rfl rfl ?_
    refine v_alen (n := 5) (v := 12) C dX12_copy_4 rfl (show (wl D b sc (va_up ar 38 (copN (ar 30) (ar 38) 12)) hn mh G)[30]? = some (.inl (D.1 13, 12, .inl (ar 30))) from wl_c30) rfl ?_
    refine v_icmp_ge (t := 20) (n := 8) C dX12_copy_5 (by decide) rfl (fun c_4 => ?_) (fun c_4 => ?_)
    · skip
      exact v_vret C dX12_copy_20 rfl ⟨rfl, rfl⟩
    · first | exact absurd c_4 g_3 | exact absurd g_3 c_4 | exact absurd c_4 (Int32.not_le.mpr g_3) | exact absurd c_4 (Int32.not_lt.mpr g_3) | exact absurd (Int32.not_le.mp g_3) c_4 | exact absurd (Int32.not_lt.mp g_3) c_4 | exact absurd (Int32.not_le.mp g_3) (Int32.not_lt.mpr c_4) | exact absurd (Int32.not_lt.mp g_3) (Int32.not_le.mpr c_4) | exact absurd (Int32.not_lt.mp c_4) (Int32.not_le.mpr (Int32.not_le.mp g_3))
  · skip
    have g_5 : ¬ (12 : Int32) ≤ (nI i_2) := nI_ge (a := i_2 + 0) (b := 12) (by omega) (by decide)
    refine v_iload_n (n := 3) C dX12_copy_2 rfl rfl rfl ?_
    refine v_aload_n (n := 4) C dX12_copy_3 rfl rfl rfl ?_
    refine v_alen (n := 5) (v := 12) C dX12_copy_4 rfl (show (wl D b sc (va_up ar 38 (copN (ar 30) (ar 38) i_2)) hn mh G)[30]? = some (.inl (D.1 13, 12, .inl (ar 30))) from wl_c30) rfl ?_
    refine v_icmp_ge (t := 20) (n := 8) C dX12_copy_5 (by decide) rfl (fun c_6 => ?_) (fun c_6 => ?_)
    · first | exact absurd c_6 g_5 | exact absurd g_5 c_6 | exact absurd c_6 (Int32.not_le.mpr g_5) | exact absurd c_6 (Int32.not_lt.mpr g_5) | exact absurd (Int32.not_le.mp g_5) c_6 | exact absurd (Int32.not_lt.mp g_5) c_6 | exact absurd (Int32.not_le.mp g_5) (Int32.not_lt.mpr c_6) | exact absurd (Int32.not_lt.mp g_5) (Int32.not_le.mpr c_6) | exact absurd (Int32.not_lt.mp c_6) (Int32.not_le.mpr (Int32.not_le.mp g_5))
    · skip
      refine v_aload_n (n := 9) C dX12_copy_8 rfl rfl rfl ?_
      refine v_iload_n (n := 10) C dX12_copy_9 rfl rfl rfl ?_
      refine v_aload_n (n := 11) C dX12_copy_10 rfl rfl rfl ?_
      refine v_iload_n (n := 12) C dX12_copy_11 rfl rfl rfl ?_
      refine v_iald (n := 13) C dX12_copy_12 rfl (show (wl D b sc (va_up ar 38 (copN (ar 30) (ar 38) i_2)) hn mh G)[30]? = some (.inl (D.1 13, 12, .inl (ar 30))) from wl_c30) (nI_vp hi_2 (by decide) (by decide)) ?_
      refine v_stk (st' := .int ((ar 30) i_2) :: [.int (nI i_2), .ref (b + 38)]) (congrArg (fun z : Nat => Value.int ((ar 30) z) :: [.int (nI i_2), .ref (b + 38)]) (nI_clamp (show i_2 < 2 ^ 31 by omega))) ?_
      refine v_iast (n := 14) (es' := (wl D b sc (va_up ar 38 (upd (copN (ar 30) (ar 38) i_2) i_2 ((ar 30) i_2))) hn mh G)) C dX12_copy_13 rfl (show (wl D b sc (va_up ar 38 (copN (ar 30) (ar 38) i_2)) hn mh G)[38]? = some (.inl (D.1 13, 12, .inl (copN (ar 30) (ar 38) i_2))) from wl_c38) (nI_vp hi_2 (by decide) (by decide)) (by rw [nI_clamp (show i_2 < 2 ^ 31 by omega)]; exact rfl) ?_
      refine v_iinc (n := 17) (v := ((nI i_2) + 1)) (lv' := [(2, .int ((nI i_2) + 1)), (0, .ref (b + 30)), (1, .ref (b + 38))]) C dX12_copy_14 rfl rfl rfl (Nat.le_of_ble_eq_true rfl) rfl ?_
      refine v_goto (t := 2) C dX12_copy_17 (by decide) ?_
      refine v_pick (lv' := [(2, .int ((nI i_2) + 1)), (0, .ref (b + 30)), (1, .ref (b + 38))]) [0, 1, 2] rfl ?_
      have e_7 : ((nI i_2) + 1) = (nI (i_2 + 1)) := nI_1 _
      have e_8 : ((upd (copN (ar 30) (ar 38) i_2) i_2 ((ar 30) i_2)) : Nat → Int32) = (copN (ar 30) (ar 38) (i_2 + 1)) := by first | rfl | (simp only [copN, if_neg g_5, if_pos (Int32.not_le.mp g_5), if_neg c_6, if_pos (Int32.not_le.mp c_6)]; done) | (simp only [copN, eq_false g_5, eq_true (Int32.not_le.mp g_5), eq_false c_6, eq_true (Int32.not_le.mp c_6), ↓reduceIte]; done) | (simp only [copN, eq_false g_5, eq_true (Int32.not_le.mp g_5), eq_false c_6, eq_true (Int32.not_le.mp c_6), ↓reduceIte] <;> rfl) | (simp [copN, g_5, c_6]; done)
      refine v_cong (es' := (wl D b sc (va_up ar 38 (copN (ar 30) (ar 38) (i_2 + 1))) hn mh G)) (lv' := [(2, .int (nI (i_2 + 1))), (0, .ref (b + 30)), (1, .ref (b + 38))]) (cg1 (fun (y0 : Nat → Int32) => wl D b sc (va_up ar 38 y0) hn mh G) e_8) (cg1 (fun (z0 : Int32) => ([(2, .int z0), (0, .ref (b + 30)), (1, .ref (b + 38))] : List (Nat × Value))) e_7) ?_
      exact ih_2
set_option maxHeartbeats 4000000 in
set_option maxRecDepth 100000 in
theorem m_copy_35_39 (l : Launch) (D : va_G) (b : Nat) (sc : Nat → Int32) (ar : Nat → Nat → Int32) (hn : Nat → Option Nat) (mh : Int64) (G : List va_E)  : Con l yX12_copy cX12_copy 3 none 0 0 D b 0 0 (wl D b sc ar hn mh G) [.ref (b + 35), .ref (b + 39)] (fun r es' => r = none ∧ wl D b sc (va_up ar 39 (copN (ar 35) (ar 39) 18)) hn mh G = es') := by
  refine con_of (by decide) (Nat.le_of_ble_eq_true rfl) (fun p e s m args below meth c C hsz => ?_)
  have C : vC p s m args meth c cX12_copy 3 RX12 "copy" none D b := C
  change V p l e _ s m args below meth c D b 3 _ 0 0 (wl D b sc ar hn mh G) [(0, .ref (b + 35)), (1, .ref (b + 39))] [] 0
  refine v_iconst (n := 1) (v := 0) C dX12_copy_0 rfl (by decide) ?_
  refine v_istore_n (n := 2) (lv' := [(2, .int 0), (0, .ref (b + 35)), (1, .ref (b + 39))]) C dX12_copy_1 rfl rfl (Nat.le_of_ble_eq_true rfl) rfl ?_
  refine v_pick (lv' := [(2, .int 0), (0, .ref (b + 35)), (1, .ref (b + 39))]) [0, 1, 2] rfl ?_
  have e_1 : (0 : Int32) = (nI 0) := rfl
  refine v_cong (es' := (wl D b sc (va_up ar 39 (ar 39)) hn mh G)) (lv' := [(2, .int 0), (0, .ref (b + 35)), (1, .ref (b + 39))]) rfl rfl ?_
  have e_2 : ((ar 39) : Nat → Int32) = (copN (ar 35) (ar 39) 0) := by first | rfl | (simp only [copN]; done) | (simp only [copN, ↓reduceIte]; done) | (simp only [copN, ↓reduceIte] <;> rfl) | (simp [copN]; done)
  refine v_cong (es' := (wl D b sc (va_up ar 39 (copN (ar 35) (ar 39) 0)) hn mh G)) (lv' := [(2, .int (nI 0)), (0, .ref (b + 35)), (1, .ref (b + 39))]) (cg1 (fun (y0 : Nat → Int32) => wl D b sc (va_up ar 39 y0) hn mh G) e_2) (cg1 (fun (z0 : Int32) => ([(2, .int z0), (0, .ref (b + 35)), (1, .ref (b + 39))] : List (Nat × Value))) e_1) ?_
  refine loop_dn (P := fun i_2 => V p l e { frames := 0, cells := 0, slots := 0, locals := 0 } s m args below meth c D b 3 (MQ below (cQ D b 0 (fun r es' => r = none ∧ wl D b sc (va_up ar 39 (copN (ar 35) (ar 39) 18)) hn mh G = es')) args s 0 0 (fun q => b ≤ q)) 0 0 (wl D b sc (va_up ar 39 (copN (ar 35) (ar 39) i_2)) hn mh G) [(2, .int (nI i_2)), (0, .ref (b + 35)), (1, .ref (b + 39))] [] 2) 18 ?_ (fun i_2 hi_2 ih_2 => ?_)
  · skip
    have g_3 : (18 : Int32) ≤ (nI 18) := by decide
    refine v_iload_n (n := 3) C dX12_copy_2 rfl rfl rfl ?_
    refine v_aload_n (n := 4) C dX12_copy_3 rfl rfl rfl ?_
    refine v_alen (n := 5) (v := 18) C dX12_copy_4 rfl (show (wl D b sc (va_up ar 39 (copN (ar 35) (ar 39) 18)) hn mh G)[35]? = some (.inl (D.1 13, 18, .inl (ar 35))) from wl_c35) rfl ?_
    refine v_icmp_ge (t := 20) (n := 8) C dX12_copy_5 (by decide) rfl (fun c_4 => ?_) (fun c_4 => ?_)
    · skip
      exact v_vret C dX12_copy_20 rfl ⟨rfl, rfl⟩
    · first | exact absurd c_4 g_3 | exact absurd g_3 c_4 | exact absurd c_4 (Int32.not_le.mpr g_3) | exact absurd c_4 (Int32.not_lt.mpr g_3) | exact absurd (Int32.not_le.mp g_3) c_4 | exact absurd (Int32.not_lt.mp g_3) c_4 | exact absurd (Int32.not_le.mp g_3) (Int32.not_lt.mpr c_4) | exact absurd (Int32.not_lt.mp g_3) (Int32.not_le.mpr c_4) | exact absurd (Int32.not_lt.mp c_4) (Int32.not_le.mpr (Int32.not_le.mp g_3))
  · skip
    have g_5 : ¬ (18 : Int32) ≤ (nI i_2) := nI_ge (a := i_2 + 0) (b := 18) (by omega) (by decide)
    refine v_iload_n (n := 3) C dX12_copy_2 rfl rfl rfl ?_
    refine v_aload_n (n := 4) C dX12_copy_3 rfl rfl rfl ?_
    refine v_alen (n := 5) (v := 18) C dX12_copy_4 rfl (show (wl D b sc (va_up ar 39 (copN (ar 35) (ar 39) i_2)) hn mh G)[35]? = some (.inl (D.1 13, 18, .inl (ar 35))) from wl_c35) rfl ?_
    refine v_icmp_ge (t := 20) (n := 8) C dX12_copy_5 (by decide) rfl (fun c_6 => ?_) (fun c_6 => ?_)
    · first | exact absurd c_6 g_5 | exact absurd g_5 c_6 | exact absurd c_6 (Int32.not_le.mpr g_5) | exact absurd c_6 (Int32.not_lt.mpr g_5) | exact absurd (Int32.not_le.mp g_5) c_6 | exact absurd (Int32.not_lt.mp g_5) c_6 | exact absurd (Int32.not_le.mp g_5) (Int32.not_lt.mpr c_6) | exact absurd (Int32.not_lt.mp g_5) (Int32.not_le.mpr c_6) | exact absurd (Int32.not_lt.mp c_6) (Int32.not_le.mpr (Int32.not_le.mp g_5))
    · skip
      refine v_aload_n (n := 9) C dX12_copy_8 rfl rfl rfl ?_
      refine v_iload_n (n := 10) C dX12_copy_9 rfl rfl rfl ?_
      refine v_aload_n (n := 11) C dX12_copy_10 rfl rfl rfl ?_
      refine v_iload_n (n := 12) C dX12_copy_11 rfl rfl rfl ?_
      refine v_iald (n := 13) C dX12_copy_12 rfl (show (wl D b sc (va_up ar 39 (copN (ar 35) (ar 39) i_2)) hn mh G)[35]? = some (.inl (D.1 13, 18, .inl (ar 35))) from wl_c35) (nI_vp hi_2 (by decide) (by decide)) ?_
      refine v_stk (st' := .int ((ar 35) i_2) :: [.int (nI i_2), .ref (b + 39)]) (congrArg (fun z : Nat => Value.int ((ar 35) z) :: [.int (nI i_2), .ref (b + 39)]) (nI_clamp (show i_2 < 2 ^ 31 by omega))) ?_
      refine v_iast (n := 14) (es' := (wl D b sc (va_up ar 39 (upd (copN (ar 35) (ar 39) i_2) i_2 ((ar 35) i_2))) hn mh G)) C dX12_copy_13 rfl (show (wl D b sc (va_up ar 39 (copN (ar 35) (ar 39) i_2)) hn mh G)[39]? = some (.inl (D.1 13, 18, .inl (copN (ar 35) (ar 39) i_2))) from wl_c39) (nI_vp hi_2 (by decide) (by decide)) (by rw [nI_clamp (show i_2 < 2 ^ 31 by omega)]; exact rfl) ?_
      refine v_iinc (n := 17) (v := ((nI i_2) + 1)) (lv' := [(2, .int ((nI i_2) + 1)), (0, .ref (b + 35)), (1, .ref (b + 39))]) C dX12_copy_14 rfl rfl rfl (Nat.le_of_ble_eq_true rfl) rfl ?_
      refine v_goto (t := 2) C dX12_copy_17 (by decide) ?_
      refine v_pick (lv' := [(2, .int ((nI i_2) + 1)), (0, .ref (b + 35)), (1, .ref (b + 39))]) [0, 1, 2] rfl ?_
      have e_7 : ((nI i_2) + 1) = (nI (i_2 + 1)) := nI_1 _
      have e_8 : ((upd (copN (ar 35) (ar 39) i_2) i_2 ((ar 35) i_2)) : Nat → Int32) = (copN (ar 35) (ar 39) (i_2 + 1)) := by first | rfl | (simp only [copN, if_neg g_5, if_pos (Int32.not_le.mp g_5), if_neg c_6, if_pos (Int32.not_le.mp c_6)]; done) | (simp only [copN, eq_false g_5, eq_true (Int32.not_le.mp g_5), eq_false c_6, eq_true (Int32.not_le.mp c_6), ↓reduceIte]; done) | (simp only [copN, eq_false g_5, eq_true (Int32.not_le.mp g_5), eq_false c_6, eq_true (Int32.not_le.mp c_6), ↓reduceIte] <;> rfl) | (simp [copN, g_5, c_6]; done)
      refine v_cong (es' := (wl D b sc (va_up ar 39 (copN (ar 35) (ar 39) (i_2 + 1))) hn mh G)) (lv' := [(2, .int (nI (i_2 + 1))), (0, .ref (b + 35)), (1, .ref (b + 39))]) (cg1 (fun (y0 : Nat → Int32) => wl D b sc (va_up ar 39 y0) hn mh G) e_8) (cg1 (fun (z0 : Int32) => ([(2, .int z0), (0, .ref (b + 35)), (1, .ref (b + 39))] : List (Nat × Value))) e_7) ?_
      exact ih_2
set_option maxHeartbeats 4000000 in
set_option maxRecDepth 100000 in
theorem m_copy_38_30 (l : Launch) (D : va_G) (b : Nat) (sc : Nat → Int32) (ar : Nat → Nat → Int32) (hn : Nat → Option Nat) (mh : Int64) (G : List va_E)  : Con l yX12_copy cX12_copy 3 none 0 0 D b 0 0 (wl D b sc ar hn mh G) [.ref (b + 38), .ref (b + 30)] (fun r es' => r = none ∧ wl D b sc (va_up ar 30 (copN (ar 38) (ar 30) 12)) hn mh G = es') := by
  refine con_of (by decide) (Nat.le_of_ble_eq_true rfl) (fun p e s m args below meth c C hsz => ?_)
  have C : vC p s m args meth c cX12_copy 3 RX12 "copy" none D b := C
  change V p l e _ s m args below meth c D b 3 _ 0 0 (wl D b sc ar hn mh G) [(0, .ref (b + 38)), (1, .ref (b + 30))] [] 0
  refine v_iconst (n := 1) (v := 0) C dX12_copy_0 rfl (by decide) ?_
  refine v_istore_n (n := 2) (lv' := [(2, .int 0), (0, .ref (b + 38)), (1, .ref (b + 30))]) C dX12_copy_1 rfl rfl (Nat.le_of_ble_eq_true rfl) rfl ?_
  refine v_pick (lv' := [(2, .int 0), (0, .ref (b + 38)), (1, .ref (b + 30))]) [0, 1, 2] rfl ?_
  have e_1 : (0 : Int32) = (nI 0) := rfl
  refine v_cong (es' := (wl D b sc (va_up ar 30 (ar 30)) hn mh G)) (lv' := [(2, .int 0), (0, .ref (b + 38)), (1, .ref (b + 30))]) rfl rfl ?_
  have e_2 : ((ar 30) : Nat → Int32) = (copN (ar 38) (ar 30) 0) := by first | rfl | (simp only [copN]; done) | (simp only [copN, ↓reduceIte]; done) | (simp only [copN, ↓reduceIte] <;> rfl) | (simp [copN]; done)
  refine v_cong (es' := (wl D b sc (va_up ar 30 (copN (ar 38) (ar 30) 0)) hn mh G)) (lv' := [(2, .int (nI 0)), (0, .ref (b + 38)), (1, .ref (b + 30))]) (cg1 (fun (y0 : Nat → Int32) => wl D b sc (va_up ar 30 y0) hn mh G) e_2) (cg1 (fun (z0 : Int32) => ([(2, .int z0), (0, .ref (b + 38)), (1, .ref (b + 30))] : List (Nat × Value))) e_1) ?_
  refine loop_dn (P := fun i_2 => V p l e { frames := 0, cells := 0, slots := 0, locals := 0 } s m args below meth c D b 3 (MQ below (cQ D b 0 (fun r es' => r = none ∧ wl D b sc (va_up ar 30 (copN (ar 38) (ar 30) 12)) hn mh G = es')) args s 0 0 (fun q => b ≤ q)) 0 0 (wl D b sc (va_up ar 30 (copN (ar 38) (ar 30) i_2)) hn mh G) [(2, .int (nI i_2)), (0, .ref (b + 38)), (1, .ref (b + 30))] [] 2) 12 ?_ (fun i_2 hi_2 ih_2 => ?_)
  · skip
    have g_3 : (12 : Int32) ≤ (nI 12) := by decide
    refine v_iload_n (n := 3) C dX12_copy_2 rfl rfl rfl ?_
    refine v_aload_n (n := 4) C dX12_copy_3 rfl rfl rfl ?_
    refine v_alen (n := 5) (v := 12) C dX12_copy_4 rfl (show (wl D b sc (va_up ar 30 (copN (ar 38) (ar 30) 12)) hn mh G)[38]? = some (.inl (D.1 13, 12, .inl (ar 38))) from wl_c38) rfl ?_
    refine v_icmp_ge (t := 20) (n := 8) C dX12_copy_5 (by decide) rfl (fun c_4 => ?_) (fun c_4 => ?_)
    · skip
      exact v_vret C dX12_copy_20 rfl ⟨rfl, rfl⟩
    · first | exact absurd c_4 g_3 | exact absurd g_3 c_4 | exact absurd c_4 (Int32.not_le.mpr g_3) | exact absurd c_4 (Int32.not_lt.mpr g_3) | exact absurd (Int32.not_le.mp g_3) c_4 | exact absurd (Int32.not_lt.mp g_3) c_4 | exact absurd (Int32.not_le.mp g_3) (Int32.not_lt.mpr c_4) | exact absurd (Int32.not_lt.mp g_3) (Int32.not_le.mpr c_4) | exact absurd (Int32.not_lt.mp c_4) (Int32.not_le.mpr (Int32.not_le.mp g_3))
  · skip
    have g_5 : ¬ (12 : Int32) ≤ (nI i_2) := nI_ge (a := i_2 + 0) (b := 12) (by omega) (by decide)
    refine v_iload_n (n := 3) C dX12_copy_2 rfl rfl rfl ?_
    refine v_aload_n (n := 4) C dX12_copy_3 rfl rfl rfl ?_
    refine v_alen (n := 5) (v := 12) C dX12_copy_4 rfl (show (wl D b sc (va_up ar 30 (copN (ar 38) (ar 30) i_2)) hn mh G)[38]? = some (.inl (D.1 13, 12, .inl (ar 38))) from wl_c38) rfl ?_
    refine v_icmp_ge (t := 20) (n := 8) C dX12_copy_5 (by decide) rfl (fun c_6 => ?_) (fun c_6 => ?_)
    · first | exact absurd c_6 g_5 | exact absurd g_5 c_6 | exact absurd c_6 (Int32.not_le.mpr g_5) | exact absurd c_6 (Int32.not_lt.mpr g_5) | exact absurd (Int32.not_le.mp g_5) c_6 | exact absurd (Int32.not_lt.mp g_5) c_6 | exact absurd (Int32.not_le.mp g_5) (Int32.not_lt.mpr c_6) | exact absurd (Int32.not_lt.mp g_5) (Int32.not_le.mpr c_6) | exact absurd (Int32.not_lt.mp c_6) (Int32.not_le.mpr (Int32.not_le.mp g_5))
    · skip
      refine v_aload_n (n := 9) C dX12_copy_8 rfl rfl rfl ?_
      refine v_iload_n (n := 10) C dX12_copy_9 rfl rfl rfl ?_
      refine v_aload_n (n := 11) C dX12_copy_10 rfl rfl rfl ?_
      refine v_iload_n (n := 12) C dX12_copy_11 rfl rfl rfl ?_
      refine v_iald (n := 13) C dX12_copy_12 rfl (show (wl D b sc (va_up ar 30 (copN (ar 38) (ar 30) i_2)) hn mh G)[38]? = some (.inl (D.1 13, 12, .inl (ar 38))) from wl_c38) (nI_vp hi_2 (by decide) (by decide)) ?_
      refine v_stk (st' := .int ((ar 38) i_2) :: [.int (nI i_2), .ref (b + 30)]) (congrArg (fun z : Nat => Value.int ((ar 38) z) :: [.int (nI i_2), .ref (b + 30)]) (nI_clamp (show i_2 < 2 ^ 31 by omega))) ?_
      refine v_iast (n := 14) (es' := (wl D b sc (va_up ar 30 (upd (copN (ar 38) (ar 30) i_2) i_2 ((ar 38) i_2))) hn mh G)) C dX12_copy_13 rfl (show (wl D b sc (va_up ar 30 (copN (ar 38) (ar 30) i_2)) hn mh G)[30]? = some (.inl (D.1 13, 12, .inl (copN (ar 38) (ar 30) i_2))) from wl_c30) (nI_vp hi_2 (by decide) (by decide)) (by rw [nI_clamp (show i_2 < 2 ^ 31 by omega)]; exact rfl) ?_
      refine v_iinc (n := 17) (v := ((nI i_2) + 1)) (lv' := [(2, .int ((nI i_2) + 1)), (0, .ref (b + 38)), (1, .ref (b + 30))]) C dX12_copy_14 rfl rfl rfl (Nat.le_of_ble_eq_true rfl) rfl ?_
      refine v_goto (t := 2) C dX12_copy_17 (by decide) ?_
      refine v_pick (lv' := [(2, .int ((nI i_2) + 1)), (0, .ref (b + 38)), (1, .ref (b + 30))]) [0, 1, 2] rfl ?_
      have e_7 : ((nI i_2) + 1) = (nI (i_2 + 1)) := nI_1 _
      have e_8 : ((upd (copN (ar 38) (ar 30) i_2) i_2 ((ar 38) i_2)) : Nat → Int32) = (copN (ar 38) (ar 30) (i_2 + 1)) := by first | rfl | (simp only [copN, if_neg g_5, if_pos (Int32.not_le.mp g_5), if_neg c_6, if_pos (Int32.not_le.mp c_6)]; done) | (simp only [copN, eq_false g_5, eq_true (Int32.not_le.mp g_5), eq_false c_6, eq_true (Int32.not_le.mp c_6), ↓reduceIte]; done) | (simp only [copN, eq_false g_5, eq_true (Int32.not_le.mp g_5), eq_false c_6, eq_true (Int32.not_le.mp c_6), ↓reduceIte] <;> rfl) | (simp [copN, g_5, c_6]; done)
      refine v_cong (es' := (wl D b sc (va_up ar 30 (copN (ar 38) (ar 30) (i_2 + 1))) hn mh G)) (lv' := [(2, .int (nI (i_2 + 1))), (0, .ref (b + 38)), (1, .ref (b + 30))]) (cg1 (fun (y0 : Nat → Int32) => wl D b sc (va_up ar 30 y0) hn mh G) e_8) (cg1 (fun (z0 : Int32) => ([(2, .int z0), (0, .ref (b + 38)), (1, .ref (b + 30))] : List (Nat × Value))) e_7) ?_
      exact ih_2
set_option maxHeartbeats 4000000 in
set_option maxRecDepth 100000 in
theorem m_copy_39_35 (l : Launch) (D : va_G) (b : Nat) (sc : Nat → Int32) (ar : Nat → Nat → Int32) (hn : Nat → Option Nat) (mh : Int64) (G : List va_E)  : Con l yX12_copy cX12_copy 3 none 0 0 D b 0 0 (wl D b sc ar hn mh G) [.ref (b + 39), .ref (b + 35)] (fun r es' => r = none ∧ wl D b sc (va_up ar 35 (copN (ar 39) (ar 35) 18)) hn mh G = es') := by
  refine con_of (by decide) (Nat.le_of_ble_eq_true rfl) (fun p e s m args below meth c C hsz => ?_)
  have C : vC p s m args meth c cX12_copy 3 RX12 "copy" none D b := C
  change V p l e _ s m args below meth c D b 3 _ 0 0 (wl D b sc ar hn mh G) [(0, .ref (b + 39)), (1, .ref (b + 35))] [] 0
  refine v_iconst (n := 1) (v := 0) C dX12_copy_0 rfl (by decide) ?_
  refine v_istore_n (n := 2) (lv' := [(2, .int 0), (0, .ref (b + 39)), (1, .ref (b + 35))]) C dX12_copy_1 rfl rfl (Nat.le_of_ble_eq_true rfl) rfl ?_
  refine v_pick (lv' := [(2, .int 0), (0, .ref (b + 39)), (1, .ref (b + 35))]) [0, 1, 2] rfl ?_
  have e_1 : (0 : Int32) = (nI 0) := rfl
  refine v_cong (es' := (wl D b sc (va_up ar 35 (ar 35)) hn mh G)) (lv' := [(2, .int 0), (0, .ref (b + 39)), (1, .ref (b + 35))]) rfl rfl ?_
  have e_2 : ((ar 35) : Nat → Int32) = (copN (ar 39) (ar 35) 0) := by first | rfl | (simp only [copN]; done) | (simp only [copN, ↓reduceIte]; done) | (simp only [copN, ↓reduceIte] <;> rfl) | (simp [copN]; done)
  refine v_cong (es' := (wl D b sc (va_up ar 35 (copN (ar 39) (ar 35) 0)) hn mh G)) (lv' := [(2, .int (nI 0)), (0, .ref (b + 39)), (1, .ref (b + 35))]) (cg1 (fun (y0 : Nat → Int32) => wl D b sc (va_up ar 35 y0) hn mh G) e_2) (cg1 (fun (z0 : Int32) => ([(2, .int z0), (0, .ref (b + 39)), (1, .ref (b + 35))] : List (Nat × Value))) e_1) ?_
  refine loop_dn (P := fun i_2 => V p l e { frames := 0, cells := 0, slots := 0, locals := 0 } s m args below meth c D b 3 (MQ below (cQ D b 0 (fun r es' => r = none ∧ wl D b sc (va_up ar 35 (copN (ar 39) (ar 35) 18)) hn mh G = es')) args s 0 0 (fun q => b ≤ q)) 0 0 (wl D b sc (va_up ar 35 (copN (ar 39) (ar 35) i_2)) hn mh G) [(2, .int (nI i_2)), (0, .ref (b + 39)), (1, .ref (b + 35))] [] 2) 18 ?_ (fun i_2 hi_2 ih_2 => ?_)
  · skip
    have g_3 : (18 : Int32) ≤ (nI 18) := by decide
    refine v_iload_n (n := 3) C dX12_copy_2 rfl rfl rfl ?_
    refine v_aload_n (n := 4) C dX12_copy_3 rfl rfl rfl ?_
    refine v_alen (n := 5) (v := 18) C dX12_copy_4 rfl (show (wl D b sc (va_up ar 35 (copN (ar 39) (ar 35) 18)) hn mh G)[39]? = some (.inl (D.1 13, 18, .inl (ar 39))) from wl_c39) rfl ?_
    refine v_icmp_ge (t := 20) (n := 8) C dX12_copy_5 (by decide) rfl (fun c_4 => ?_) (fun c_4 => ?_)
    · skip
      exact v_vret C dX12_copy_20 rfl ⟨rfl, rfl⟩
    · first | exact absurd c_4 g_3 | exact absurd g_3 c_4 | exact absurd c_4 (Int32.not_le.mpr g_3) | exact absurd c_4 (Int32.not_lt.mpr g_3) | exact absurd (Int32.not_le.mp g_3) c_4 | exact absurd (Int32.not_lt.mp g_3) c_4 | exact absurd (Int32.not_le.mp g_3) (Int32.not_lt.mpr c_4) | exact absurd (Int32.not_lt.mp g_3) (Int32.not_le.mpr c_4) | exact absurd (Int32.not_lt.mp c_4) (Int32.not_le.mpr (Int32.not_le.mp g_3))
  · skip
    have g_5 : ¬ (18 : Int32) ≤ (nI i_2) := nI_ge (a := i_2 + 0) (b := 18) (by omega) (by decide)
    refine v_iload_n (n := 3) C dX12_copy_2 rfl rfl rfl ?_
    refine v_aload_n (n := 4) C dX12_copy_3 rfl rfl rfl ?_
    refine v_alen (n := 5) (v := 18) C dX12_copy_4 rfl (show (wl D b sc (va_up ar 35 (copN (ar 39) (ar 35) i_2)) hn mh G)[39]? = some (.inl (D.1 13, 18, .inl (ar 39))) from wl_c39) rfl ?_
    refine v_icmp_ge (t := 20) (n := 8) C dX12_copy_5 (by decide) rfl (fun c_6 => ?_) (fun c_6 => ?_)
    · first | exact absurd c_6 g_5 | exact absurd g_5 c_6 | exact absurd c_6 (Int32.not_le.mpr g_5) | exact absurd c_6 (Int32.not_lt.mpr g_5) | exact absurd (Int32.not_le.mp g_5) c_6 | exact absurd (Int32.not_lt.mp g_5) c_6 | exact absurd (Int32.not_le.mp g_5) (Int32.not_lt.mpr c_6) | exact absurd (Int32.not_lt.mp g_5) (Int32.not_le.mpr c_6) | exact absurd (Int32.not_lt.mp c_6) (Int32.not_le.mpr (Int32.not_le.mp g_5))
    · skip
      refine v_aload_n (n := 9) C dX12_copy_8 rfl rfl rfl ?_
      refine v_iload_n (n := 10) C dX12_copy_9 rfl rfl rfl ?_
      refine v_aload_n (n := 11) C dX12_copy_10 rfl rfl rfl ?_
      refine v_iload_n (n := 12) C dX12_copy_11 rfl rfl rfl ?_
      refine v_iald (n := 13) C dX12_copy_12 rfl (show (wl D b sc (va_up ar 35 (copN (ar 39) (ar 35) i_2)) hn mh G)[39]? = some (.inl (D.1 13, 18, .inl (ar 39))) from wl_c39) (nI_vp hi_2 (by decide) (by decide)) ?_
      refine v_stk (st' := .int ((ar 39) i_2) :: [.int (nI i_2), .ref (b + 35)]) (congrArg (fun z : Nat => Value.int ((ar 39) z) :: [.int (nI i_2), .ref (b + 35)]) (nI_clamp (show i_2 < 2 ^ 31 by omega))) ?_
      refine v_iast (n := 14) (es' := (wl D b sc (va_up ar 35 (upd (copN (ar 39) (ar 35) i_2) i_2 ((ar 39) i_2))) hn mh G)) C dX12_copy_13 rfl (show (wl D b sc (va_up ar 35 (copN (ar 39) (ar 35) i_2)) hn mh G)[35]? = some (.inl (D.1 13, 18, .inl (copN (ar 39) (ar 35) i_2))) from wl_c35) (nI_vp hi_2 (by decide) (by decide)) (by rw [nI_clamp (show i_2 < 2 ^ 31 by omega)]; exact rfl) ?_
      refine v_iinc (n := 17) (v := ((nI i_2) + 1)) (lv' := [(2, .int ((nI i_2) + 1)), (0, .ref (b + 39)), (1, .ref (b + 35))]) C dX12_copy_14 rfl rfl rfl (Nat.le_of_ble_eq_true rfl) rfl ?_
      refine v_goto (t := 2) C dX12_copy_17 (by decide) ?_
      refine v_pick (lv' := [(2, .int ((nI i_2) + 1)), (0, .ref (b + 39)), (1, .ref (b + 35))]) [0, 1, 2] rfl ?_
      have e_7 : ((nI i_2) + 1) = (nI (i_2 + 1)) := nI_1 _
      have e_8 : ((upd (copN (ar 39) (ar 35) i_2) i_2 ((ar 39) i_2)) : Nat → Int32) = (copN (ar 39) (ar 35) (i_2 + 1)) := by first | rfl | (simp only [copN, if_neg g_5, if_pos (Int32.not_le.mp g_5), if_neg c_6, if_pos (Int32.not_le.mp c_6)]; done) | (simp only [copN, eq_false g_5, eq_true (Int32.not_le.mp g_5), eq_false c_6, eq_true (Int32.not_le.mp c_6), ↓reduceIte]; done) | (simp only [copN, eq_false g_5, eq_true (Int32.not_le.mp g_5), eq_false c_6, eq_true (Int32.not_le.mp c_6), ↓reduceIte] <;> rfl) | (simp [copN, g_5, c_6]; done)
      refine v_cong (es' := (wl D b sc (va_up ar 35 (copN (ar 39) (ar 35) (i_2 + 1))) hn mh G)) (lv' := [(2, .int (nI (i_2 + 1))), (0, .ref (b + 39)), (1, .ref (b + 35))]) (cg1 (fun (y0 : Nat → Int32) => wl D b sc (va_up ar 35 y0) hn mh G) e_8) (cg1 (fun (z0 : Int32) => ([(2, .int z0), (0, .ref (b + 39)), (1, .ref (b + 35))] : List (Nat × Value))) e_7) ?_
      exact ih_2
set_option maxHeartbeats 4000000 in
set_option maxRecDepth 100000 in
theorem m_copy_30_37 (l : Launch) (D : va_G) (b : Nat) (sc : Nat → Int32) (ar : Nat → Nat → Int32) (hn : Nat → Option Nat) (mh : Int64) (G : List va_E)  : Con l yX12_copy cX12_copy 3 none 0 0 D b 0 0 (wl D b sc ar hn mh G) [.ref (b + 30), .ref (b + 37)] (fun r es' => r = none ∧ wl D b sc (va_up ar 37 (copN (ar 30) (ar 37) 12)) hn mh G = es') := by
  refine con_of (by decide) (Nat.le_of_ble_eq_true rfl) (fun p e s m args below meth c C hsz => ?_)
  have C : vC p s m args meth c cX12_copy 3 RX12 "copy" none D b := C
  change V p l e _ s m args below meth c D b 3 _ 0 0 (wl D b sc ar hn mh G) [(0, .ref (b + 30)), (1, .ref (b + 37))] [] 0
  refine v_iconst (n := 1) (v := 0) C dX12_copy_0 rfl (by decide) ?_
  refine v_istore_n (n := 2) (lv' := [(2, .int 0), (0, .ref (b + 30)), (1, .ref (b + 37))]) C dX12_copy_1 rfl rfl (Nat.le_of_ble_eq_true rfl) rfl ?_
  refine v_pick (lv' := [(2, .int 0), (0, .ref (b + 30)), (1, .ref (b + 37))]) [0, 1, 2] rfl ?_
  have e_1 : (0 : Int32) = (nI 0) := rfl
  refine v_cong (es' := (wl D b sc (va_up ar 37 (ar 37)) hn mh G)) (lv' := [(2, .int 0), (0, .ref (b + 30)), (1, .ref (b + 37))]) rfl rfl ?_
  have e_2 : ((ar 37) : Nat → Int32) = (copN (ar 30) (ar 37) 0) := by first | rfl | (simp only [copN]; done) | (simp only [copN, ↓reduceIte]; done) | (simp only [copN, ↓reduceIte] <;> rfl) | (simp [copN]; done)
  refine v_cong (es' := (wl D b sc (va_up ar 37 (copN (ar 30) (ar 37) 0)) hn mh G)) (lv' := [(2, .int (nI 0)), (0, .ref (b + 30)), (1, .ref (b + 37))]) (cg1 (fun (y0 : Nat → Int32) => wl D b sc (va_up ar 37 y0) hn mh G) e_2) (cg1 (fun (z0 : Int32) => ([(2, .int z0), (0, .ref (b + 30)), (1, .ref (b + 37))] : List (Nat × Value))) e_1) ?_
  refine loop_dn (P := fun i_2 => V p l e { frames := 0, cells := 0, slots := 0, locals := 0 } s m args below meth c D b 3 (MQ below (cQ D b 0 (fun r es' => r = none ∧ wl D b sc (va_up ar 37 (copN (ar 30) (ar 37) 12)) hn mh G = es')) args s 0 0 (fun q => b ≤ q)) 0 0 (wl D b sc (va_up ar 37 (copN (ar 30) (ar 37) i_2)) hn mh G) [(2, .int (nI i_2)), (0, .ref (b + 30)), (1, .ref (b + 37))] [] 2) 12 ?_ (fun i_2 hi_2 ih_2 => ?_)
  · skip
    have g_3 : (12 : Int32) ≤ (nI 12) := by decide
    refine v_iload_n (n := 3) C dX12_copy_2 rfl rfl rfl ?_
    refine v_aload_n (n := 4) C dX12_copy_3 rfl rfl rfl ?_
    refine v_alen (n := 5) (v := 12) C dX12_copy_4 rfl (show (wl D b sc (va_up ar 37 (copN (ar 30) (ar 37) 12)) hn mh G)[30]? = some (.inl (D.1 13, 12, .inl (ar 30))) from wl_c30) rfl ?_
    refine v_icmp_ge (t := 20) (n := 8) C dX12_copy_5 (by decide) rfl (fun c_4 => ?_) (fun c_4 => ?_)
    · skip
      exact v_vret C dX12_copy_20 rfl ⟨rfl, rfl⟩
    · first | exact absurd c_4 g_3 | exact absurd g_3 c_4 | exact absurd c_4 (Int32.not_le.mpr g_3) | exact absurd c_4 (Int32.not_lt.mpr g_3) | exact absurd (Int32.not_le.mp g_3) c_4 | exact absurd (Int32.not_lt.mp g_3) c_4 | exact absurd (Int32.not_le.mp g_3) (Int32.not_lt.mpr c_4) | exact absurd (Int32.not_lt.mp g_3) (Int32.not_le.mpr c_4) | exact absurd (Int32.not_lt.mp c_4) (Int32.not_le.mpr (Int32.not_le.mp g_3))
  · skip
    have g_5 : ¬ (12 : Int32) ≤ (nI i_2) := nI_ge (a := i_2 + 0) (b := 12) (by omega) (by decide)
    refine v_iload_n (n := 3) C dX12_copy_2 rfl rfl rfl ?_
    refine v_aload_n (n := 4) C dX12_copy_3 rfl rfl rfl ?_
    refine v_alen (n := 5) (v := 12) C dX12_copy_4 rfl (show (wl D b sc (va_up ar 37 (copN (ar 30) (ar 37) i_2)) hn mh G)[30]? = some (.inl (D.1 13, 12, .inl (ar 30))) from wl_c30) rfl ?_
    refine v_icmp_ge (t := 20) (n := 8) C dX12_copy_5 (by decide) rfl (fun c_6 => ?_) (fun c_6 => ?_)
    · first | exact absurd c_6 g_5 | exact absurd g_5 c_6 | exact absurd c_6 (Int32.not_le.mpr g_5) | exact absurd c_6 (Int32.not_lt.mpr g_5) | exact absurd (Int32.not_le.mp g_5) c_6 | exact absurd (Int32.not_lt.mp g_5) c_6 | exact absurd (Int32.not_le.mp g_5) (Int32.not_lt.mpr c_6) | exact absurd (Int32.not_lt.mp g_5) (Int32.not_le.mpr c_6) | exact absurd (Int32.not_lt.mp c_6) (Int32.not_le.mpr (Int32.not_le.mp g_5))
    · skip
      refine v_aload_n (n := 9) C dX12_copy_8 rfl rfl rfl ?_
      refine v_iload_n (n := 10) C dX12_copy_9 rfl rfl rfl ?_
      refine v_aload_n (n := 11) C dX12_copy_10 rfl rfl rfl ?_
      refine v_iload_n (n := 12) C dX12_copy_11 rfl rfl rfl ?_
      refine v_iald (n := 13) C dX12_copy_12 rfl (show (wl D b sc (va_up ar 37 (copN (ar 30) (ar 37) i_2)) hn mh G)[30]? = some (.inl (D.1 13, 12, .inl (ar 30))) from wl_c30) (nI_vp hi_2 (by decide) (by decide)) ?_
      refine v_stk (st' := .int ((ar 30) i_2) :: [.int (nI i_2), .ref (b + 37)]) (congrArg (fun z : Nat => Value.int ((ar 30) z) :: [.int (nI i_2), .ref (b + 37)]) (nI_clamp (show i_2 < 2 ^ 31 by omega))) ?_
      refine v_iast (n := 14) (es' := (wl D b sc (va_up ar 37 (upd (copN (ar 30) (ar 37) i_2) i_2 ((ar 30) i_2))) hn mh G)) C dX12_copy_13 rfl (show (wl D b sc (va_up ar 37 (copN (ar 30) (ar 37) i_2)) hn mh G)[37]? = some (.inl (D.1 13, 12, .inl (copN (ar 30) (ar 37) i_2))) from wl_c37) (nI_vp hi_2 (by decide) (by decide)) (by rw [nI_clamp (show i_2 < 2 ^ 31 by omega)]; exact rfl) ?_
      refine v_iinc (n := 17) (v := ((nI i_2) + 1)) (lv' := [(2, .int ((nI i_2) + 1)), (0, .ref (b + 30)), (1, .ref (b + 37))]) C dX12_copy_14 rfl rfl rfl (Nat.le_of_ble_eq_true rfl) rfl ?_
      refine v_goto (t := 2) C dX12_copy_17 (by decide) ?_
      refine v_pick (lv' := [(2, .int ((nI i_2) + 1)), (0, .ref (b + 30)), (1, .ref (b + 37))]) [0, 1, 2] rfl ?_
      have e_7 : ((nI i_2) + 1) = (nI (i_2 + 1)) := nI_1 _
      have e_8 : ((upd (copN (ar 30) (ar 37) i_2) i_2 ((ar 30) i_2)) : Nat → Int32) = (copN (ar 30) (ar 37) (i_2 + 1)) := by first | rfl | (simp only [copN, if_neg g_5, if_pos (Int32.not_le.mp g_5), if_neg c_6, if_pos (Int32.not_le.mp c_6)]; done) | (simp only [copN, eq_false g_5, eq_true (Int32.not_le.mp g_5), eq_false c_6, eq_true (Int32.not_le.mp c_6), ↓reduceIte]; done) | (simp only [copN, eq_false g_5, eq_true (Int32.not_le.mp g_5), eq_false c_6, eq_true (Int32.not_le.mp c_6), ↓reduceIte] <;> rfl) | (simp [copN, g_5, c_6]; done)
      refine v_cong (es' := (wl D b sc (va_up ar 37 (copN (ar 30) (ar 37) (i_2 + 1))) hn mh G)) (lv' := [(2, .int (nI (i_2 + 1))), (0, .ref (b + 30)), (1, .ref (b + 37))]) (cg1 (fun (y0 : Nat → Int32) => wl D b sc (va_up ar 37 y0) hn mh G) e_8) (cg1 (fun (z0 : Int32) => ([(2, .int z0), (0, .ref (b + 30)), (1, .ref (b + 37))] : List (Nat × Value))) e_7) ?_
      exact ih_2
set_option maxHeartbeats 4000000 in
set_option maxRecDepth 100000 in
theorem m_copy_37_30 (l : Launch) (D : va_G) (b : Nat) (sc : Nat → Int32) (ar : Nat → Nat → Int32) (hn : Nat → Option Nat) (mh : Int64) (G : List va_E)  : Con l yX12_copy cX12_copy 3 none 0 0 D b 0 0 (wl D b sc ar hn mh G) [.ref (b + 37), .ref (b + 30)] (fun r es' => r = none ∧ wl D b sc (va_up ar 30 (copN (ar 37) (ar 30) 12)) hn mh G = es') := by
  refine con_of (by decide) (Nat.le_of_ble_eq_true rfl) (fun p e s m args below meth c C hsz => ?_)
  have C : vC p s m args meth c cX12_copy 3 RX12 "copy" none D b := C
  change V p l e _ s m args below meth c D b 3 _ 0 0 (wl D b sc ar hn mh G) [(0, .ref (b + 37)), (1, .ref (b + 30))] [] 0
  refine v_iconst (n := 1) (v := 0) C dX12_copy_0 rfl (by decide) ?_
  refine v_istore_n (n := 2) (lv' := [(2, .int 0), (0, .ref (b + 37)), (1, .ref (b + 30))]) C dX12_copy_1 rfl rfl (Nat.le_of_ble_eq_true rfl) rfl ?_
  refine v_pick (lv' := [(2, .int 0), (0, .ref (b + 37)), (1, .ref (b + 30))]) [0, 1, 2] rfl ?_
  have e_1 : (0 : Int32) = (nI 0) := rfl
  refine v_cong (es' := (wl D b sc (va_up ar 30 (ar 30)) hn mh G)) (lv' := [(2, .int 0), (0, .ref (b + 37)), (1, .ref (b + 30))]) rfl rfl ?_
  have e_2 : ((ar 30) : Nat → Int32) = (copN (ar 37) (ar 30) 0) := by first | rfl | (simp only [copN]; done) | (simp only [copN, ↓reduceIte]; done) | (simp only [copN, ↓reduceIte] <;> rfl) | (simp [copN]; done)
  refine v_cong (es' := (wl D b sc (va_up ar 30 (copN (ar 37) (ar 30) 0)) hn mh G)) (lv' := [(2, .int (nI 0)), (0, .ref (b + 37)), (1, .ref (b + 30))]) (cg1 (fun (y0 : Nat → Int32) => wl D b sc (va_up ar 30 y0) hn mh G) e_2) (cg1 (fun (z0 : Int32) => ([(2, .int z0), (0, .ref (b + 37)), (1, .ref (b + 30))] : List (Nat × Value))) e_1) ?_
  refine loop_dn (P := fun i_2 => V p l e { frames := 0, cells := 0, slots := 0, locals := 0 } s m args below meth c D b 3 (MQ below (cQ D b 0 (fun r es' => r = none ∧ wl D b sc (va_up ar 30 (copN (ar 37) (ar 30) 12)) hn mh G = es')) args s 0 0 (fun q => b ≤ q)) 0 0 (wl D b sc (va_up ar 30 (copN (ar 37) (ar 30) i_2)) hn mh G) [(2, .int (nI i_2)), (0, .ref (b + 37)), (1, .ref (b + 30))] [] 2) 12 ?_ (fun i_2 hi_2 ih_2 => ?_)
  · skip
    have g_3 : (12 : Int32) ≤ (nI 12) := by decide
    refine v_iload_n (n := 3) C dX12_copy_2 rfl rfl rfl ?_
    refine v_aload_n (n := 4) C dX12_copy_3 rfl rfl rfl ?_
    refine v_alen (n := 5) (v := 12) C dX12_copy_4 rfl (show (wl D b sc (va_up ar 30 (copN (ar 37) (ar 30) 12)) hn mh G)[37]? = some (.inl (D.1 13, 12, .inl (ar 37))) from wl_c37) rfl ?_
    refine v_icmp_ge (t := 20) (n := 8) C dX12_copy_5 (by decide) rfl (fun c_4 => ?_) (fun c_4 => ?_)
    · skip
      exact v_vret C dX12_copy_20 rfl ⟨rfl, rfl⟩
    · first | exact absurd c_4 g_3 | exact absurd g_3 c_4 | exact absurd c_4 (Int32.not_le.mpr g_3) | exact absurd c_4 (Int32.not_lt.mpr g_3) | exact absurd (Int32.not_le.mp g_3) c_4 | exact absurd (Int32.not_lt.mp g_3) c_4 | exact absurd (Int32.not_le.mp g_3) (Int32.not_lt.mpr c_4) | exact absurd (Int32.not_lt.mp g_3) (Int32.not_le.mpr c_4) | exact absurd (Int32.not_lt.mp c_4) (Int32.not_le.mpr (Int32.not_le.mp g_3))
  · skip
    have g_5 : ¬ (12 : Int32) ≤ (nI i_2) := nI_ge (a := i_2 + 0) (b := 12) (by omega) (by decide)
    refine v_iload_n (n := 3) C dX12_copy_2 rfl rfl rfl ?_
    refine v_aload_n (n := 4) C dX12_copy_3 rfl rfl rfl ?_
    refine v_alen (n := 5) (v := 12) C dX12_copy_4 rfl (show (wl D b sc (va_up ar 30 (copN (ar 37) (ar 30) i_2)) hn mh G)[37]? = some (.inl (D.1 13, 12, .inl (ar 37))) from wl_c37) rfl ?_
    refine v_icmp_ge (t := 20) (n := 8) C dX12_copy_5 (by decide) rfl (fun c_6 => ?_) (fun c_6 => ?_)
    · first | exact absurd c_6 g_5 | exact absurd g_5 c_6 | exact absurd c_6 (Int32.not_le.mpr g_5) | exact absurd c_6 (Int32.not_lt.mpr g_5) | exact absurd (Int32.not_le.mp g_5) c_6 | exact absurd (Int32.not_lt.mp g_5) c_6 | exact absurd (Int32.not_le.mp g_5) (Int32.not_lt.mpr c_6) | exact absurd (Int32.not_lt.mp g_5) (Int32.not_le.mpr c_6) | exact absurd (Int32.not_lt.mp c_6) (Int32.not_le.mpr (Int32.not_le.mp g_5))
    · skip
      refine v_aload_n (n := 9) C dX12_copy_8 rfl rfl rfl ?_
      refine v_iload_n (n := 10) C dX12_copy_9 rfl rfl rfl ?_
      refine v_aload_n (n := 11) C dX12_copy_10 rfl rfl rfl ?_
      refine v_iload_n (n := 12) C dX12_copy_11 rfl rfl rfl ?_
      refine v_iald (n := 13) C dX12_copy_12 rfl (show (wl D b sc (va_up ar 30 (copN (ar 37) (ar 30) i_2)) hn mh G)[37]? = some (.inl (D.1 13, 12, .inl (ar 37))) from wl_c37) (nI_vp hi_2 (by decide) (by decide)) ?_
      refine v_stk (st' := .int ((ar 37) i_2) :: [.int (nI i_2), .ref (b + 30)]) (congrArg (fun z : Nat => Value.int ((ar 37) z) :: [.int (nI i_2), .ref (b + 30)]) (nI_clamp (show i_2 < 2 ^ 31 by omega))) ?_
      refine v_iast (n := 14) (es' := (wl D b sc (va_up ar 30 (upd (copN (ar 37) (ar 30) i_2) i_2 ((ar 37) i_2))) hn mh G)) C dX12_copy_13 rfl (show (wl D b sc (va_up ar 30 (copN (ar 37) (ar 30) i_2)) hn mh G)[30]? = some (.inl (D.1 13, 12, .inl (copN (ar 37) (ar 30) i_2))) from wl_c30) (nI_vp hi_2 (by decide) (by decide)) (by rw [nI_clamp (show i_2 < 2 ^ 31 by omega)]; exact rfl) ?_
      refine v_iinc (n := 17) (v := ((nI i_2) + 1)) (lv' := [(2, .int ((nI i_2) + 1)), (0, .ref (b + 37)), (1, .ref (b + 30))]) C dX12_copy_14 rfl rfl rfl (Nat.le_of_ble_eq_true rfl) rfl ?_
      refine v_goto (t := 2) C dX12_copy_17 (by decide) ?_
      refine v_pick (lv' := [(2, .int ((nI i_2) + 1)), (0, .ref (b + 37)), (1, .ref (b + 30))]) [0, 1, 2] rfl ?_
      have e_7 : ((nI i_2) + 1) = (nI (i_2 + 1)) := nI_1 _
      have e_8 : ((upd (copN (ar 37) (ar 30) i_2) i_2 ((ar 37) i_2)) : Nat → Int32) = (copN (ar 37) (ar 30) (i_2 + 1)) := by first | rfl | (simp only [copN, if_neg g_5, if_pos (Int32.not_le.mp g_5), if_neg c_6, if_pos (Int32.not_le.mp c_6)]; done) | (simp only [copN, eq_false g_5, eq_true (Int32.not_le.mp g_5), eq_false c_6, eq_true (Int32.not_le.mp c_6), ↓reduceIte]; done) | (simp only [copN, eq_false g_5, eq_true (Int32.not_le.mp g_5), eq_false c_6, eq_true (Int32.not_le.mp c_6), ↓reduceIte] <;> rfl) | (simp [copN, g_5, c_6]; done)
      refine v_cong (es' := (wl D b sc (va_up ar 30 (copN (ar 37) (ar 30) (i_2 + 1))) hn mh G)) (lv' := [(2, .int (nI (i_2 + 1))), (0, .ref (b + 37)), (1, .ref (b + 30))]) (cg1 (fun (y0 : Nat → Int32) => wl D b sc (va_up ar 30 y0) hn mh G) e_8) (cg1 (fun (z0 : Int32) => ([(2, .int z0), (0, .ref (b + 37)), (1, .ref (b + 30))] : List (Nat × Value))) e_7) ?_
      exact ih_2
set_option maxHeartbeats 4000000 in
set_option maxRecDepth 100000 in
theorem m_copy_33_34 (l : Launch) (D : va_G) (b : Nat) (sc : Nat → Int32) (ar : Nat → Nat → Int32) (hn : Nat → Option Nat) (mh : Int64) (G : List va_E)  : Con l yX12_copy cX12_copy 3 none 0 0 D b 0 0 (wl D b sc ar hn mh G) [.ref (b + 33), .ref (b + 34)] (fun r es' => r = none ∧ wl D b sc (va_up ar 34 (copN (ar 33) (ar 34) 3)) hn mh G = es') := by
  refine con_of (by decide) (Nat.le_of_ble_eq_true rfl) (fun p e s m args below meth c C hsz => ?_)
  have C : vC p s m args meth c cX12_copy 3 RX12 "copy" none D b := C
  change V p l e _ s m args below meth c D b 3 _ 0 0 (wl D b sc ar hn mh G) [(0, .ref (b + 33)), (1, .ref (b + 34))] [] 0
  refine v_iconst (n := 1) (v := 0) C dX12_copy_0 rfl (by decide) ?_
  refine v_istore_n (n := 2) (lv' := [(2, .int 0), (0, .ref (b + 33)), (1, .ref (b + 34))]) C dX12_copy_1 rfl rfl (Nat.le_of_ble_eq_true rfl) rfl ?_
  refine v_pick (lv' := [(2, .int 0), (0, .ref (b + 33)), (1, .ref (b + 34))]) [0, 1, 2] rfl ?_
  have e_1 : (0 : Int32) = (nI 0) := rfl
  refine v_cong (es' := (wl D b sc (va_up ar 34 (ar 34)) hn mh G)) (lv' := [(2, .int 0), (0, .ref (b + 33)), (1, .ref (b + 34))]) rfl rfl ?_
  have e_2 : ((ar 34) : Nat → Int32) = (copN (ar 33) (ar 34) 0) := by first | rfl | (simp only [copN]; done) | (simp only [copN, ↓reduceIte]; done) | (simp only [copN, ↓reduceIte] <;> rfl) | (simp [copN]; done)
  refine v_cong (es' := (wl D b sc (va_up ar 34 (copN (ar 33) (ar 34) 0)) hn mh G)) (lv' := [(2, .int (nI 0)), (0, .ref (b + 33)), (1, .ref (b + 34))]) (cg1 (fun (y0 : Nat → Int32) => wl D b sc (va_up ar 34 y0) hn mh G) e_2) (cg1 (fun (z0 : Int32) => ([(2, .int z0), (0, .ref (b + 33)), (1, .ref (b + 34))] : List (Nat × Value))) e_1) ?_
  refine loop_dn (P := fun i_2 => V p l e { frames := 0, cells := 0, slots := 0, locals := 0 } s m args below meth c D b 3 (MQ below (cQ D b 0 (fun r es' => r = none ∧ wl D b sc (va_up ar 34 (copN (ar 33) (ar 34) 3)) hn mh G = es')) args s 0 0 (fun q => b ≤ q)) 0 0 (wl D b sc (va_up ar 34 (copN (ar 33) (ar 34) i_2)) hn mh G) [(2, .int (nI i_2)), (0, .ref (b + 33)), (1, .ref (b + 34))] [] 2) 3 ?_ (fun i_2 hi_2 ih_2 => ?_)
  · skip
    have g_3 : (3 : Int32) ≤ (nI 3) := by decide
    refine v_iload_n (n := 3) C dX12_copy_2 rfl rfl rfl ?_
    refine v_aload_n (n := 4) C dX12_copy_3 rfl rfl rfl ?_
    refine v_alen (n := 5) (v := 3) C dX12_copy_4 rfl (show (wl D b sc (va_up ar 34 (copN (ar 33) (ar 34) 3)) hn mh G)[33]? = some (.inl (D.1 13, 3, .inl (ar 33))) from wl_c33) rfl ?_
    refine v_icmp_ge (t := 20) (n := 8) C dX12_copy_5 (by decide) rfl (fun c_4 => ?_) (fun c_4 => ?_)
    · skip
      exact v_vret C dX12_copy_20 rfl ⟨rfl, rfl⟩
    · first | exact absurd c_4 g_3 | exact absurd g_3 c_4 | exact absurd c_4 (Int32.not_le.mpr g_3) | exact absurd c_4 (Int32.not_lt.mpr g_3) | exact absurd (Int32.not_le.mp g_3) c_4 | exact absurd (Int32.not_lt.mp g_3) c_4 | exact absurd (Int32.not_le.mp g_3) (Int32.not_lt.mpr c_4) | exact absurd (Int32.not_lt.mp g_3) (Int32.not_le.mpr c_4) | exact absurd (Int32.not_lt.mp c_4) (Int32.not_le.mpr (Int32.not_le.mp g_3))
  · skip
    have g_5 : ¬ (3 : Int32) ≤ (nI i_2) := nI_ge (a := i_2 + 0) (b := 3) (by omega) (by decide)
    refine v_iload_n (n := 3) C dX12_copy_2 rfl rfl rfl ?_
    refine v_aload_n (n := 4) C dX12_copy_3 rfl rfl rfl ?_
    refine v_alen (n := 5) (v := 3) C dX12_copy_4 rfl (show (wl D b sc (va_up ar 34 (copN (ar 33) (ar 34) i_2)) hn mh G)[33]? = some (.inl (D.1 13, 3, .inl (ar 33))) from wl_c33) rfl ?_
    refine v_icmp_ge (t := 20) (n := 8) C dX12_copy_5 (by decide) rfl (fun c_6 => ?_) (fun c_6 => ?_)
    · first | exact absurd c_6 g_5 | exact absurd g_5 c_6 | exact absurd c_6 (Int32.not_le.mpr g_5) | exact absurd c_6 (Int32.not_lt.mpr g_5) | exact absurd (Int32.not_le.mp g_5) c_6 | exact absurd (Int32.not_lt.mp g_5) c_6 | exact absurd (Int32.not_le.mp g_5) (Int32.not_lt.mpr c_6) | exact absurd (Int32.not_lt.mp g_5) (Int32.not_le.mpr c_6) | exact absurd (Int32.not_lt.mp c_6) (Int32.not_le.mpr (Int32.not_le.mp g_5))
    · skip
      refine v_aload_n (n := 9) C dX12_copy_8 rfl rfl rfl ?_
      refine v_iload_n (n := 10) C dX12_copy_9 rfl rfl rfl ?_
      refine v_aload_n (n := 11) C dX12_copy_10 rfl rfl rfl ?_
      refine v_iload_n (n := 12) C dX12_copy_11 rfl rfl rfl ?_
      refine v_iald (n := 13) C dX12_copy_12 rfl (show (wl D b sc (va_up ar 34 (copN (ar 33) (ar 34) i_2)) hn mh G)[33]? = some (.inl (D.1 13, 3, .inl (ar 33))) from wl_c33) (nI_vp hi_2 (by decide) (by decide)) ?_
      refine v_stk (st' := .int ((ar 33) i_2) :: [.int (nI i_2), .ref (b + 34)]) (congrArg (fun z : Nat => Value.int ((ar 33) z) :: [.int (nI i_2), .ref (b + 34)]) (nI_clamp (show i_2 < 2 ^ 31 by omega))) ?_
      refine v_iast (n := 14) (es' := (wl D b sc (va_up ar 34 (upd (copN (ar 33) (ar 34) i_2) i_2 ((ar 33) i_2))) hn mh G)) C dX12_copy_13 rfl (show (wl D b sc (va_up ar 34 (copN (ar 33) (ar 34) i_2)) hn mh G)[34]? = some (.inl (D.1 13, 3, .inl (copN (ar 33) (ar 34) i_2))) from wl_c34) (nI_vp hi_2 (by decide) (by decide)) (by rw [nI_clamp (show i_2 < 2 ^ 31 by omega)]; exact rfl) ?_
      refine v_iinc (n := 17) (v := ((nI i_2) + 1)) (lv' := [(2, .int ((nI i_2) + 1)), (0, .ref (b + 33)), (1, .ref (b + 34))]) C dX12_copy_14 rfl rfl rfl (Nat.le_of_ble_eq_true rfl) rfl ?_
      refine v_goto (t := 2) C dX12_copy_17 (by decide) ?_
      refine v_pick (lv' := [(2, .int ((nI i_2) + 1)), (0, .ref (b + 33)), (1, .ref (b + 34))]) [0, 1, 2] rfl ?_
      have e_7 : ((nI i_2) + 1) = (nI (i_2 + 1)) := nI_1 _
      have e_8 : ((upd (copN (ar 33) (ar 34) i_2) i_2 ((ar 33) i_2)) : Nat → Int32) = (copN (ar 33) (ar 34) (i_2 + 1)) := by first | rfl | (simp only [copN, if_neg g_5, if_pos (Int32.not_le.mp g_5), if_neg c_6, if_pos (Int32.not_le.mp c_6)]; done) | (simp only [copN, eq_false g_5, eq_true (Int32.not_le.mp g_5), eq_false c_6, eq_true (Int32.not_le.mp c_6), ↓reduceIte]; done) | (simp only [copN, eq_false g_5, eq_true (Int32.not_le.mp g_5), eq_false c_6, eq_true (Int32.not_le.mp c_6), ↓reduceIte] <;> rfl) | (simp [copN, g_5, c_6]; done)
      refine v_cong (es' := (wl D b sc (va_up ar 34 (copN (ar 33) (ar 34) (i_2 + 1))) hn mh G)) (lv' := [(2, .int (nI (i_2 + 1))), (0, .ref (b + 33)), (1, .ref (b + 34))]) (cg1 (fun (y0 : Nat → Int32) => wl D b sc (va_up ar 34 y0) hn mh G) e_8) (cg1 (fun (z0 : Int32) => ([(2, .int z0), (0, .ref (b + 33)), (1, .ref (b + 34))] : List (Nat × Value))) e_7) ?_
      exact ih_2
def mimS (sc : Nat → Int32) (ar : Nat → Nat → Int32) : Int32 × (Nat → Int32) × (Nat → Nat → Int32) := if sc 21 = 0 then (-103, sc, ar) else
  (sc 22, va_up (va_up (va_up (va_up (va_up sc 31 (sc 25)) 32 (sc 22)) 33 (sc 23)) 34 (sc 28)) 30 (sc 24), va_up (va_up ar 38 (copN (ar 30) (ar 38) 12)) 39 (copN (ar 35) (ar 39) 18))
def mreS (sc : Nat → Int32) (ar : Nat → Nat → Int32) : Int32 × (Nat → Int32) × (Nat → Nat → Int32) := if sc 30 = sc 24 then
  (sc 32, va_up (va_up (va_up (va_up sc 25 (sc 31)) 22 (sc 32)) 23 (sc 33)) 28 (sc 34), va_up (va_up ar 30 (copN (ar 38) (ar 30) 12)) 35 (copN (ar 39) (ar 35) 18)) else (-103, sc, ar)
set_option maxHeartbeats 4000000 in
set_option maxRecDepth 100000 in
theorem m_image (l : Launch) (D : va_G) (b : Nat) (sc : Nat → Int32) (ar : Nat → Nat → Int32) (hn : Nat → Option Nat) (mh : Int64) (G : List va_E)  : Con l yX12_image cX12_image 1 (some .int) 1 22 D b 0 0 (wl D b sc ar hn mh G) [.ref (b + 27)] (fun r es' => r = some (.int (mimS sc ar).1) ∧ wl D b (mimS sc ar).2.1 (mimS sc ar).2.2 hn mh G = es') := by
  refine con_of (by decide) (Nat.le_of_ble_eq_true rfl) (fun p e s m args below meth c C hsz => ?_)
  have C : vC p s m args meth c cX12_image 1 RX12 "image" (some .int) D b := C
  change V p l e _ s m args below meth c D b 1 _ 0 0 (wl D b sc ar hn mh G) [(0, .ref (b + 27))] [] 0
  refine v_aload_n (n := 1) C dX12_image_0 rfl rfl rfl ?_
  refine v_go (n := 4) C (vRun_V (As := []) (rest := []) C wl_c27 rfl lk_X12_89 im_X12_lacks se_X12_lacks dX12_image_1 (m_lacks l D b sc ar hn mh G) wm_X12_lacks rfl rfl ⟨Nat.le_of_ble_eq_true rfl, Nat.le_of_ble_eq_true rfl⟩ ⟨Nat.le_of_ble_eq_true rfl, Nat.le_of_ble_eq_true rfl⟩ (Nat.le_of_ble_eq_true rfl)) rfl ?_
  rintro _ _ ⟨rfl, rfl⟩ -
  by_cases p_1 : (sc 21) = 0
  · skip
    refine v_stk (st' := .int 1 :: []) (congrArg (fun z : Int32 => Value.int z :: []) (show mlaF (sc 21) = 1 by simp only [mlaF, if_pos p_1])) ?_
    refine v_if_eq (t := 10) (n := 7) C dX12_image_4 (by decide) rfl (fun c_2 => ?_) (fun c_2 => ?_)
    · exact absurd c_2 (by decide)
    · skip
      refine v_bipush (n := 9) (v := -103) C dX12_image_7 rfl (by decide) ?_
      exact v_iret C dX12_image_9 rfl rfl ⟨by first | rfl | (simp only [mimS, if_pos p_1, if_neg c_2]; done) | (simp only [mimS, eq_true p_1, eq_false c_2, ↓reduceIte]; done) | (simp only [mimS, eq_true p_1, eq_false c_2, ↓reduceIte] <;> rfl) | (simp [mimS, p_1, c_2]; done), by first | (simp only [mimS, eq_true p_1, eq_false c_2, ↓reduceIte]; done) | (simp only [mimS, eq_true p_1, eq_false c_2, ↓reduceIte] <;> rfl)⟩
  refine v_stk (st' := .int 0 :: []) (congrArg (fun z : Int32 => Value.int z :: []) (show mlaF (sc 21) = 0 by simp only [mlaF, if_neg p_1])) ?_
  refine v_if_eq (t := 10) (n := 7) C dX12_image_4 (by decide) rfl (fun c_3 => ?_) (fun c_3 => ?_)
  · skip
    refine v_aload_n (n := 11) C dX12_image_10 rfl rfl rfl ?_
    refine v_get (n := 14) C dX12_image_11 rfl fl_X12_16_X12 wl_c27 rfl ?_
    refine v_aload_n (n := 15) C dX12_image_14 rfl rfl rfl ?_
    refine v_get (n := 18) C dX12_image_15 rfl fl_X12_40_X12 wl_c27 rfl ?_
    refine v_go (n := 21) C (vRun_S (As := [.ref (b + 30), .ref (b + 38)]) (rest := []) C lk_X12_160 st_X12_copy dX12_image_18 (m_copy_30_38 l D b sc ar hn mh G) wm_X12_copy rfl rfl ⟨Nat.le_of_ble_eq_true rfl, Nat.le_of_ble_eq_true rfl⟩ ⟨Nat.le_of_ble_eq_true rfl, Nat.le_of_ble_eq_true rfl⟩ (Nat.le_of_ble_eq_true rfl)) rfl ?_
    rintro _ _ ⟨rfl, rfl⟩ -
    refine v_aload_n (n := 22) C dX12_image_21 rfl rfl rfl ?_
    refine v_get (n := 25) C dX12_image_22 rfl fl_X12_31_X12 wl_c27 rfl ?_
    refine v_aload_n (n := 26) C dX12_image_25 rfl rfl rfl ?_
    refine v_get (n := 29) C dX12_image_26 rfl fl_X12_43_X12 wl_c27 rfl ?_
    refine v_go (n := 32) C (vRun_S (As := [.ref (b + 35), .ref (b + 39)]) (rest := []) C lk_X12_160 st_X12_copy dX12_image_29 (m_copy_35_39 l D b sc (va_up ar 38 (copN (ar 30) (ar 38) 12)) hn mh G) wm_X12_copy rfl rfl ⟨Nat.le_of_ble_eq_true rfl, Nat.le_of_ble_eq_true rfl⟩ ⟨Nat.le_of_ble_eq_true rfl, Nat.le_of_ble_eq_true rfl⟩ (Nat.le_of_ble_eq_true rfl)) rfl ?_
    rintro _ _ ⟨rfl, rfl⟩ -
    refine v_cong (es' := (wl D b sc (va_up (va_up ar 38 (copN (ar 30) (ar 38) 12)) 39 (copN (ar 35) (ar 39) 18)) hn mh G)) (lv' := [(0, .ref (b + 27))]) rfl rfl ?_
    refine v_aload_n (n := 33) C dX12_image_32 rfl rfl rfl ?_
    refine v_aload_n (n := 34) C dX12_image_33 rfl rfl rfl ?_
    refine v_get (n := 37) C dX12_image_34 rfl fl_X12_78_X12 wl_c27 rfl ?_
    refine v_put (n := 40) (es' := (wl D b (va_up sc 31 (sc 25)) (va_up (va_up ar 38 (copN (ar 30) (ar 38) 12)) 39 (copN (ar 35) (ar 39) 18)) hn mh G)) C dX12_image_37 rfl fl_X12_203_X12 (fp_any fp_X12_21) wl_c27 rfl rfl (Nat.le_of_ble_eq_true rfl) wl_p27_21 ?_
    refine v_aload_n (n := 41) C dX12_image_40 rfl rfl rfl ?_
    refine v_aload_n (n := 42) C dX12_image_41 rfl rfl rfl ?_
    refine v_get (n := 45) C dX12_image_42 rfl fl_X12_75_X12 (show (wl D b (va_up sc 31 (sc 25)) (va_up (va_up ar 38 (copN (ar 30) (ar 38) 12)) 39 (copN (ar 35) (ar 39) 18)) hn mh G)[27]? = some (.inr (12, [.ref (b + 28), .int (sc 20), .int (sc 21), .int (sc 22), .int (sc 23), .int (sc 24), .ref (b + 29), .int (sc 25), .ref (b + 30), .ref (b + 31), .ref (b + 32), .ref (b + 33), .ref (b + 34), .int (sc 26), .int (sc 27), .int (sc 28), .ref (b + 35), .ref (b + 36), .int (sc 29), .ref (b + 37), .int (sc 30), .int (sc 25), .int (sc 32), .int (sc 33), .int (sc 34), .ref (b + 38), .ref (b + 39), .long mh])) from wl_c27) rfl ?_
    refine v_put (n := 48) (es' := (wl D b (va_up (va_up sc 31 (sc 25)) 32 (sc 22)) (va_up (va_up ar 38 (copN (ar 30) (ar 38) 12)) 39 (copN (ar 35) (ar 39) 18)) hn mh G)) C dX12_image_45 rfl fl_X12_206_X12 (fp_any fp_X12_22) (show (wl D b (va_up sc 31 (sc 25)) (va_up (va_up ar 38 (copN (ar 30) (ar 38) 12)) 39 (copN (ar 35) (ar 39) 18)) hn mh G)[27]? = some (.inr (12, [.ref (b + 28), .int (sc 20), .int (sc 21), .int (sc 22), .int (sc 23), .int (sc 24), .ref (b + 29), .int (sc 25), .ref (b + 30), .ref (b + 31), .ref (b + 32), .ref (b + 33), .ref (b + 34), .int (sc 26), .int (sc 27), .int (sc 28), .ref (b + 35), .ref (b + 36), .int (sc 29), .ref (b + 37), .int (sc 30), .int (sc 25), .int (sc 32), .int (sc 33), .int (sc 34), .ref (b + 38), .ref (b + 39), .long mh])) from wl_c27) rfl rfl (Nat.le_of_ble_eq_true rfl) wl_p27_22 ?_
    refine v_aload_n (n := 49) C dX12_image_48 rfl rfl rfl ?_
    refine v_aload_n (n := 50) C dX12_image_49 rfl rfl rfl ?_
    refine v_get (n := 53) C dX12_image_50 rfl fl_X12_50_X12 (show (wl D b (va_up (va_up sc 31 (sc 25)) 32 (sc 22)) (va_up (va_up ar 38 (copN (ar 30) (ar 38) 12)) 39 (copN (ar 35) (ar 39) 18)) hn mh G)[27]? = some (.inr (12, [.ref (b + 28), .int (sc 20), .int (sc 21), .int (sc 22), .int (sc 23), .int (sc 24), .ref (b + 29), .int (sc 25), .ref (b + 30), .ref (b + 31), .ref (b + 32), .ref (b + 33), .ref (b + 34), .int (sc 26), .int (sc 27), .int (sc 28), .ref (b + 35), .ref (b + 36), .int (sc 29), .ref (b + 37), .int (sc 30), .int (sc 25), .int (sc 22), .int (sc 33), .int (sc 34), .ref (b + 38), .ref (b + 39), .long mh])) from wl_c27) rfl ?_
    refine v_put (n := 56) (es' := (wl D b (va_up (va_up (va_up sc 31 (sc 25)) 32 (sc 22)) 33 (sc 23)) (va_up (va_up ar 38 (copN (ar 30) (ar 38) 12)) 39 (copN (ar 35) (ar 39) 18)) hn mh G)) C dX12_image_53 rfl fl_X12_209_X12 (fp_any fp_X12_23) (show (wl D b (va_up (va_up sc 31 (sc 25)) 32 (sc 22)) (va_up (va_up ar 38 (copN (ar 30) (ar 38) 12)) 39 (copN (ar 35) (ar 39) 18)) hn mh G)[27]? = some (.inr (12, [.ref (b + 28), .int (sc 20), .int (sc 21), .int (sc 22), .int (sc 23), .int (sc 24), .ref (b + 29), .int (sc 25), .ref (b + 30), .ref (b + 31), .ref (b + 32), .ref (b + 33), .ref (b + 34), .int (sc 26), .int (sc 27), .int (sc 28), .ref (b + 35), .ref (b + 36), .int (sc 29), .ref (b + 37), .int (sc 30), .int (sc 25), .int (sc 22), .int (sc 33), .int (sc 34), .ref (b + 38), .ref (b + 39), .long mh])) from wl_c27) rfl rfl (Nat.le_of_ble_eq_true rfl) wl_p27_23 ?_
    refine v_aload_n (n := 57) C dX12_image_56 rfl rfl rfl ?_
    refine v_aload_n (n := 58) C dX12_image_57 rfl rfl rfl ?_
    refine v_get (n := 61) C dX12_image_58 rfl fl_X12_81_X12 (show (wl D b (va_up (va_up (va_up sc 31 (sc 25)) 32 (sc 22)) 33 (sc 23)) (va_up (va_up ar 38 (copN (ar 30) (ar 38) 12)) 39 (copN (ar 35) (ar 39) 18)) hn mh G)[27]? = some (.inr (12, [.ref (b + 28), .int (sc 20), .int (sc 21), .int (sc 22), .int (sc 23), .int (sc 24), .ref (b + 29), .int (sc 25), .ref (b + 30), .ref (b + 31), .ref (b + 32), .ref (b + 33), .ref (b + 34), .int (sc 26), .int (sc 27), .int (sc 28), .ref (b + 35), .ref (b + 36), .int (sc 29), .ref (b + 37), .int (sc 30), .int (sc 25), .int (sc 22), .int (sc 23), .int (sc 34), .ref (b + 38), .ref (b + 39), .long mh])) from wl_c27) rfl ?_
    refine v_put (n := 64) (es' := (wl D b (va_up (va_up (va_up (va_up sc 31 (sc 25)) 32 (sc 22)) 33 (sc 23)) 34 (sc 28)) (va_up (va_up ar 38 (copN (ar 30) (ar 38) 12)) 39 (copN (ar 35) (ar 39) 18)) hn mh G)) C dX12_image_61 rfl fl_X12_212_X12 (fp_any fp_X12_24) (show (wl D b (va_up (va_up (va_up sc 31 (sc 25)) 32 (sc 22)) 33 (sc 23)) (va_up (va_up ar 38 (copN (ar 30) (ar 38) 12)) 39 (copN (ar 35) (ar 39) 18)) hn mh G)[27]? = some (.inr (12, [.ref (b + 28), .int (sc 20), .int (sc 21), .int (sc 22), .int (sc 23), .int (sc 24), .ref (b + 29), .int (sc 25), .ref (b + 30), .ref (b + 31), .ref (b + 32), .ref (b + 33), .ref (b + 34), .int (sc 26), .int (sc 27), .int (sc 28), .ref (b + 35), .ref (b + 36), .int (sc 29), .ref (b + 37), .int (sc 30), .int (sc 25), .int (sc 22), .int (sc 23), .int (sc 34), .ref (b + 38), .ref (b + 39), .long mh])) from wl_c27) rfl rfl (Nat.le_of_ble_eq_true rfl) wl_p27_24 ?_
    refine v_aload_n (n := 65) C dX12_image_64 rfl rfl rfl ?_
    refine v_aload_n (n := 66) C dX12_image_65 rfl rfl rfl ?_
    refine v_get (n := 69) C dX12_image_66 rfl fl_X12_84_X12 (show (wl D b (va_up (va_up (va_up (va_up sc 31 (sc 25)) 32 (sc 22)) 33 (sc 23)) 34 (sc 28)) (va_up (va_up ar 38 (copN (ar 30) (ar 38) 12)) 39 (copN (ar 35) (ar 39) 18)) hn mh G)[27]? = some (.inr (12, [.ref (b + 28), .int (sc 20), .int (sc 21), .int (sc 22), .int (sc 23), .int (sc 24), .ref (b + 29), .int (sc 25), .ref (b + 30), .ref (b + 31), .ref (b + 32), .ref (b + 33), .ref (b + 34), .int (sc 26), .int (sc 27), .int (sc 28), .ref (b + 35), .ref (b + 36), .int (sc 29), .ref (b + 37), .int (sc 30), .int (sc 25), .int (sc 22), .int (sc 23), .int (sc 28), .ref (b + 38), .ref (b + 39), .long mh])) from wl_c27) rfl ?_
    refine v_put (n := 72) (es' := (wl D b (va_up (va_up (va_up (va_up (va_up sc 31 (sc 25)) 32 (sc 22)) 33 (sc 23)) 34 (sc 28)) 30 (sc 24)) (va_up (va_up ar 38 (copN (ar 30) (ar 38) 12)) 39 (copN (ar 35) (ar 39) 18)) hn mh G)) C dX12_image_69 rfl fl_X12_46_X12 (fp_any fp_X12_20) (show (wl D b (va_up (va_up (va_up (va_up sc 31 (sc 25)) 32 (sc 22)) 33 (sc 23)) 34 (sc 28)) (va_up (va_up ar 38 (copN (ar 30) (ar 38) 12)) 39 (copN (ar 35) (ar 39) 18)) hn mh G)[27]? = some (.inr (12, [.ref (b + 28), .int (sc 20), .int (sc 21), .int (sc 22), .int (sc 23), .int (sc 24), .ref (b + 29), .int (sc 25), .ref (b + 30), .ref (b + 31), .ref (b + 32), .ref (b + 33), .ref (b + 34), .int (sc 26), .int (sc 27), .int (sc 28), .ref (b + 35), .ref (b + 36), .int (sc 29), .ref (b + 37), .int (sc 30), .int (sc 25), .int (sc 22), .int (sc 23), .int (sc 28), .ref (b + 38), .ref (b + 39), .long mh])) from wl_c27) rfl rfl (Nat.le_of_ble_eq_true rfl) wl_p27_20 ?_
    refine v_aload_n (n := 73) C dX12_image_72 rfl rfl rfl ?_
    refine v_get (n := 76) C dX12_image_73 rfl fl_X12_75_X12 (show (wl D b (va_up (va_up (va_up (va_up (va_up sc 31 (sc 25)) 32 (sc 22)) 33 (sc 23)) 34 (sc 28)) 30 (sc 24)) (va_up (va_up ar 38 (copN (ar 30) (ar 38) 12)) 39 (copN (ar 35) (ar 39) 18)) hn mh G)[27]? = some (.inr (12, [.ref (b + 28), .int (sc 20), .int (sc 21), .int (sc 22), .int (sc 23), .int (sc 24), .ref (b + 29), .int (sc 25), .ref (b + 30), .ref (b + 31), .ref (b + 32), .ref (b + 33), .ref (b + 34), .int (sc 26), .int (sc 27), .int (sc 28), .ref (b + 35), .ref (b + 36), .int (sc 29), .ref (b + 37), .int (sc 24), .int (sc 25), .int (sc 22), .int (sc 23), .int (sc 28), .ref (b + 38), .ref (b + 39), .long mh])) from wl_c27) rfl ?_
    exact v_iret C dX12_image_76 rfl rfl ⟨by first | rfl | (simp only [mimS, if_neg p_1, if_pos c_3]; done) | (simp only [mimS, eq_false p_1, eq_true c_3, ↓reduceIte]; done) | (simp only [mimS, eq_false p_1, eq_true c_3, ↓reduceIte] <;> rfl) | (simp [mimS, p_1, c_3]; done), by first | (simp only [mimS, eq_false p_1, eq_true c_3, ↓reduceIte]; done) | (simp only [mimS, eq_false p_1, eq_true c_3, ↓reduceIte] <;> rfl)⟩
  · exact absurd c_3 (by decide)
set_option maxHeartbeats 4000000 in
set_option maxRecDepth 100000 in
theorem m_restore (l : Launch) (D : va_G) (b : Nat) (sc : Nat → Int32) (ar : Nat → Nat → Int32) (hn : Nat → Option Nat) (mh : Int64) (G : List va_E)  : Con l yX12_restore cX12_restore 1 (some .int) 1 22 D b 0 0 (wl D b sc ar hn mh G) [.ref (b + 27)] (fun r es' => r = some (.int (mreS sc ar).1) ∧ wl D b (mreS sc ar).2.1 (mreS sc ar).2.2 hn mh G = es') := by
  refine con_of (by decide) (Nat.le_of_ble_eq_true rfl) (fun p e s m args below meth c C hsz => ?_)
  have C : vC p s m args meth c cX12_restore 1 RX12 "restore" (some .int) D b := C
  change V p l e _ s m args below meth c D b 1 _ 0 0 (wl D b sc ar hn mh G) [(0, .ref (b + 27))] [] 0
  refine v_aload_n (n := 1) C dX12_restore_0 rfl rfl rfl ?_
  refine v_get (n := 4) C dX12_restore_1 rfl fl_X12_46_X12 wl_c27 rfl ?_
  refine v_aload_n (n := 5) C dX12_restore_4 rfl rfl rfl ?_
  refine v_get (n := 8) C dX12_restore_5 rfl fl_X12_84_X12 wl_c27 rfl ?_
  refine v_icmp_eq (t := 14) (n := 11) C dX12_restore_8 (by decide) rfl (fun c_1 => ?_) (fun c_1 => ?_)
  · skip
    refine v_aload_n (n := 15) C dX12_restore_14 rfl rfl rfl ?_
    refine v_get (n := 18) C dX12_restore_15 rfl fl_X12_40_X12 wl_c27 rfl ?_
    refine v_aload_n (n := 19) C dX12_restore_18 rfl rfl rfl ?_
    refine v_get (n := 22) C dX12_restore_19 rfl fl_X12_16_X12 wl_c27 rfl ?_
    refine v_go (n := 25) C (vRun_S (As := [.ref (b + 38), .ref (b + 30)]) (rest := []) C lk_X12_160 st_X12_copy dX12_restore_22 (m_copy_38_30 l D b sc ar hn mh G) wm_X12_copy rfl rfl ⟨Nat.le_of_ble_eq_true rfl, Nat.le_of_ble_eq_true rfl⟩ ⟨Nat.le_of_ble_eq_true rfl, Nat.le_of_ble_eq_true rfl⟩ (Nat.le_of_ble_eq_true rfl)) rfl ?_
    rintro _ _ ⟨rfl, rfl⟩ -
    refine v_aload_n (n := 26) C dX12_restore_25 rfl rfl rfl ?_
    refine v_get (n := 29) C dX12_restore_26 rfl fl_X12_43_X12 wl_c27 rfl ?_
    refine v_aload_n (n := 30) C dX12_restore_29 rfl rfl rfl ?_
    refine v_get (n := 33) C dX12_restore_30 rfl fl_X12_31_X12 wl_c27 rfl ?_
    refine v_go (n := 36) C (vRun_S (As := [.ref (b + 39), .ref (b + 35)]) (rest := []) C lk_X12_160 st_X12_copy dX12_restore_33 (m_copy_39_35 l D b sc (va_up ar 30 (copN (ar 38) (ar 30) 12)) hn mh G) wm_X12_copy rfl rfl ⟨Nat.le_of_ble_eq_true rfl, Nat.le_of_ble_eq_true rfl⟩ ⟨Nat.le_of_ble_eq_true rfl, Nat.le_of_ble_eq_true rfl⟩ (Nat.le_of_ble_eq_true rfl)) rfl ?_
    rintro _ _ ⟨rfl, rfl⟩ -
    refine v_cong (es' := (wl D b sc (va_up (va_up ar 30 (copN (ar 38) (ar 30) 12)) 35 (copN (ar 39) (ar 35) 18)) hn mh G)) (lv' := [(0, .ref (b + 27))]) rfl rfl ?_
    refine v_aload_n (n := 37) C dX12_restore_36 rfl rfl rfl ?_
    refine v_aload_n (n := 38) C dX12_restore_37 rfl rfl rfl ?_
    refine v_get (n := 41) C dX12_restore_38 rfl fl_X12_203_X12 wl_c27 rfl ?_
    refine v_put (n := 44) (es' := (wl D b (va_up sc 25 (sc 31)) (va_up (va_up ar 30 (copN (ar 38) (ar 30) 12)) 35 (copN (ar 39) (ar 35) 18)) hn mh G)) C dX12_restore_41 rfl fl_X12_78_X12 (fp_any fp_X12_7) wl_c27 rfl rfl (Nat.le_of_ble_eq_true rfl) wl_p27_7 ?_
    refine v_aload_n (n := 45) C dX12_restore_44 rfl rfl rfl ?_
    refine v_aload_n (n := 46) C dX12_restore_45 rfl rfl rfl ?_
    refine v_get (n := 49) C dX12_restore_46 rfl fl_X12_206_X12 (show (wl D b (va_up sc 25 (sc 31)) (va_up (va_up ar 30 (copN (ar 38) (ar 30) 12)) 35 (copN (ar 39) (ar 35) 18)) hn mh G)[27]? = some (.inr (12, [.ref (b + 28), .int (sc 20), .int (sc 21), .int (sc 22), .int (sc 23), .int (sc 24), .ref (b + 29), .int (sc 31), .ref (b + 30), .ref (b + 31), .ref (b + 32), .ref (b + 33), .ref (b + 34), .int (sc 26), .int (sc 27), .int (sc 28), .ref (b + 35), .ref (b + 36), .int (sc 29), .ref (b + 37), .int (sc 30), .int (sc 31), .int (sc 32), .int (sc 33), .int (sc 34), .ref (b + 38), .ref (b + 39), .long mh])) from wl_c27) rfl ?_
    refine v_put (n := 52) (es' := (wl D b (va_up (va_up sc 25 (sc 31)) 22 (sc 32)) (va_up (va_up ar 30 (copN (ar 38) (ar 30) 12)) 35 (copN (ar 39) (ar 35) 18)) hn mh G)) C dX12_restore_49 rfl fl_X12_75_X12 (fp_any fp_X12_3) (show (wl D b (va_up sc 25 (sc 31)) (va_up (va_up ar 30 (copN (ar 38) (ar 30) 12)) 35 (copN (ar 39) (ar 35) 18)) hn mh G)[27]? = some (.inr (12, [.ref (b + 28), .int (sc 20), .int (sc 21), .int (sc 22), .int (sc 23), .int (sc 24), .ref (b + 29), .int (sc 31), .ref (b + 30), .ref (b + 31), .ref (b + 32), .ref (b + 33), .ref (b + 34), .int (sc 26), .int (sc 27), .int (sc 28), .ref (b + 35), .ref (b + 36), .int (sc 29), .ref (b + 37), .int (sc 30), .int (sc 31), .int (sc 32), .int (sc 33), .int (sc 34), .ref (b + 38), .ref (b + 39), .long mh])) from wl_c27) rfl rfl (Nat.le_of_ble_eq_true rfl) wl_p27_3 ?_
    refine v_aload_n (n := 53) C dX12_restore_52 rfl rfl rfl ?_
    refine v_aload_n (n := 54) C dX12_restore_53 rfl rfl rfl ?_
    refine v_get (n := 57) C dX12_restore_54 rfl fl_X12_209_X12 (show (wl D b (va_up (va_up sc 25 (sc 31)) 22 (sc 32)) (va_up (va_up ar 30 (copN (ar 38) (ar 30) 12)) 35 (copN (ar 39) (ar 35) 18)) hn mh G)[27]? = some (.inr (12, [.ref (b + 28), .int (sc 20), .int (sc 21), .int (sc 32), .int (sc 23), .int (sc 24), .ref (b + 29), .int (sc 31), .ref (b + 30), .ref (b + 31), .ref (b + 32), .ref (b + 33), .ref (b + 34), .int (sc 26), .int (sc 27), .int (sc 28), .ref (b + 35), .ref (b + 36), .int (sc 29), .ref (b + 37), .int (sc 30), .int (sc 31), .int (sc 32), .int (sc 33), .int (sc 34), .ref (b + 38), .ref (b + 39), .long mh])) from wl_c27) rfl ?_
    refine v_put (n := 60) (es' := (wl D b (va_up (va_up (va_up sc 25 (sc 31)) 22 (sc 32)) 23 (sc 33)) (va_up (va_up ar 30 (copN (ar 38) (ar 30) 12)) 35 (copN (ar 39) (ar 35) 18)) hn mh G)) C dX12_restore_57 rfl fl_X12_50_X12 (fp_any fp_X12_4) (show (wl D b (va_up (va_up sc 25 (sc 31)) 22 (sc 32)) (va_up (va_up ar 30 (copN (ar 38) (ar 30) 12)) 35 (copN (ar 39) (ar 35) 18)) hn mh G)[27]? = some (.inr (12, [.ref (b + 28), .int (sc 20), .int (sc 21), .int (sc 32), .int (sc 23), .int (sc 24), .ref (b + 29), .int (sc 31), .ref (b + 30), .ref (b + 31), .ref (b + 32), .ref (b + 33), .ref (b + 34), .int (sc 26), .int (sc 27), .int (sc 28), .ref (b + 35), .ref (b + 36), .int (sc 29), .ref (b + 37), .int (sc 30), .int (sc 31), .int (sc 32), .int (sc 33), .int (sc 34), .ref (b + 38), .ref (b + 39), .long mh])) from wl_c27) rfl rfl (Nat.le_of_ble_eq_true rfl) wl_p27_4 ?_
    refine v_aload_n (n := 61) C dX12_restore_60 rfl rfl rfl ?_
    refine v_aload_n (n := 62) C dX12_restore_61 rfl rfl rfl ?_
    refine v_get (n := 65) C dX12_restore_62 rfl fl_X12_212_X12 (show (wl D b (va_up (va_up (va_up sc 25 (sc 31)) 22 (sc 32)) 23 (sc 33)) (va_up (va_up ar 30 (copN (ar 38) (ar 30) 12)) 35 (copN (ar 39) (ar 35) 18)) hn mh G)[27]? = some (.inr (12, [.ref (b + 28), .int (sc 20), .int (sc 21), .int (sc 32), .int (sc 33), .int (sc 24), .ref (b + 29), .int (sc 31), .ref (b + 30), .ref (b + 31), .ref (b + 32), .ref (b + 33), .ref (b + 34), .int (sc 26), .int (sc 27), .int (sc 28), .ref (b + 35), .ref (b + 36), .int (sc 29), .ref (b + 37), .int (sc 30), .int (sc 31), .int (sc 32), .int (sc 33), .int (sc 34), .ref (b + 38), .ref (b + 39), .long mh])) from wl_c27) rfl ?_
    refine v_put (n := 68) (es' := (wl D b (va_up (va_up (va_up (va_up sc 25 (sc 31)) 22 (sc 32)) 23 (sc 33)) 28 (sc 34)) (va_up (va_up ar 30 (copN (ar 38) (ar 30) 12)) 35 (copN (ar 39) (ar 35) 18)) hn mh G)) C dX12_restore_65 rfl fl_X12_81_X12 (fp_any fp_X12_15) (show (wl D b (va_up (va_up (va_up sc 25 (sc 31)) 22 (sc 32)) 23 (sc 33)) (va_up (va_up ar 30 (copN (ar 38) (ar 30) 12)) 35 (copN (ar 39) (ar 35) 18)) hn mh G)[27]? = some (.inr (12, [.ref (b + 28), .int (sc 20), .int (sc 21), .int (sc 32), .int (sc 33), .int (sc 24), .ref (b + 29), .int (sc 31), .ref (b + 30), .ref (b + 31), .ref (b + 32), .ref (b + 33), .ref (b + 34), .int (sc 26), .int (sc 27), .int (sc 28), .ref (b + 35), .ref (b + 36), .int (sc 29), .ref (b + 37), .int (sc 30), .int (sc 31), .int (sc 32), .int (sc 33), .int (sc 34), .ref (b + 38), .ref (b + 39), .long mh])) from wl_c27) rfl rfl (Nat.le_of_ble_eq_true rfl) wl_p27_15 ?_
    refine v_aload_n (n := 69) C dX12_restore_68 rfl rfl rfl ?_
    refine v_get (n := 72) C dX12_restore_69 rfl fl_X12_75_X12 (show (wl D b (va_up (va_up (va_up (va_up sc 25 (sc 31)) 22 (sc 32)) 23 (sc 33)) 28 (sc 34)) (va_up (va_up ar 30 (copN (ar 38) (ar 30) 12)) 35 (copN (ar 39) (ar 35) 18)) hn mh G)[27]? = some (.inr (12, [.ref (b + 28), .int (sc 20), .int (sc 21), .int (sc 32), .int (sc 33), .int (sc 24), .ref (b + 29), .int (sc 31), .ref (b + 30), .ref (b + 31), .ref (b + 32), .ref (b + 33), .ref (b + 34), .int (sc 26), .int (sc 27), .int (sc 34), .ref (b + 35), .ref (b + 36), .int (sc 29), .ref (b + 37), .int (sc 30), .int (sc 31), .int (sc 32), .int (sc 33), .int (sc 34), .ref (b + 38), .ref (b + 39), .long mh])) from wl_c27) rfl ?_
    exact v_iret C dX12_restore_72 rfl rfl ⟨by first | rfl | (simp only [mreS, if_pos c_1, if_pos (Eq.symm c_1)]; done) | (simp only [mreS, eq_true c_1, eq_true (Eq.symm c_1), ↓reduceIte]; done) | (simp only [mreS, eq_true c_1, eq_true (Eq.symm c_1), ↓reduceIte] <;> rfl) | (simp [mreS, c_1]; done), by first | (simp only [mreS, eq_true c_1, eq_true (Eq.symm c_1), ↓reduceIte]; done) | (simp only [mreS, eq_true c_1, eq_true (Eq.symm c_1), ↓reduceIte] <;> rfl)⟩
  · skip
    refine v_bipush (n := 13) (v := -103) C dX12_restore_11 rfl (by decide) ?_
    exact v_iret C dX12_restore_13 rfl rfl ⟨by first | rfl | (simp only [mreS, if_neg c_1, if_neg (fun h => c_1 (Eq.symm h))]; done) | (simp only [mreS, eq_false c_1, eq_false (fun h => c_1 (Eq.symm h)), ↓reduceIte]; done) | (simp only [mreS, eq_false c_1, eq_false (fun h => c_1 (Eq.symm h)), ↓reduceIte] <;> rfl) | (simp [mreS, c_1]; done), by first | (simp only [mreS, eq_false c_1, eq_false (fun h => c_1 (Eq.symm h)), ↓reduceIte]; done) | (simp only [mreS, eq_false c_1, eq_false (fun h => c_1 (Eq.symm h)), ↓reduceIte] <;> rfl)⟩
set_option maxHeartbeats 4000000 in
set_option maxRecDepth 100000 in
theorem m_strandedMany (l : Launch) (D : va_G) (b : Nat) (sc : Nat → Int32) (ar : Nat → Nat → Int32) (hn : Nat → Option Nat) (mh : Int64) (G : List va_E) (Hn : Nat) (hH : sc 25 = nI Hn) (hH3 : Hn ≤ 3) (hrc : ∀ k, k < Hn → vp_in (ar 30 (4 * k + 2)) 12) : Con l yX12_strandedMany cX12_strandedMany 3 (some .int) 3 70 D b 0 0 (wl D b sc ar hn mh G) [.ref (b + 27)] (fun r es' => r = some (.int (mstN sc ar Hn)) ∧ (wl D b sc ar hn mh G) = es') := by
  refine con_of (by decide) (Nat.le_of_ble_eq_true rfl) (fun p e s m args below meth c C hsz => ?_)
  have C : vC p s m args meth c cX12_strandedMany 3 RX12 "strandedMany" (some .int) D b := C
  change V p l e _ s m args below meth c D b 3 _ 0 0 (wl D b sc ar hn mh G) [(0, .ref (b + 27))] [] 0
  refine v_iconst (n := 1) (v := 0) C dX12_strandedMany_0 rfl (by decide) ?_
  refine v_istore_n (n := 2) (lv' := [(1, .int 0), (0, .ref (b + 27))]) C dX12_strandedMany_1 rfl rfl (Nat.le_of_ble_eq_true rfl) rfl ?_
  refine v_iconst (n := 3) (v := 0) C dX12_strandedMany_2 rfl (by decide) ?_
  refine v_istore_n (n := 4) (lv' := [(2, .int 0), (1, .int 0), (0, .ref (b + 27))]) C dX12_strandedMany_3 rfl rfl (Nat.le_of_ble_eq_true rfl) rfl ?_
  refine v_pick (lv' := [(2, .int 0), (0, .ref (b + 27)), (1, .int 0)]) [0, 2, 1] rfl ?_
  have e_1 : (0 : Int32) = (nI 0) := rfl
  have e_2 : (0 : Int32) = (mstN sc ar 0) := by first | (rw [mstN]; done) | (rw [mstN]; simp only []; done) | (rw [mstN]; simp only [↓reduceIte]; done) | (rw [mstN]; simp only [↓reduceIte] <;> rfl) | rfl | (rw [mstN]; simp []; done)
  refine v_cong (es' := (wl D b sc ar hn mh G)) (lv' := [(2, .int (nI 0)), (0, .ref (b + 27)), (1, .int (mstN sc ar 0))]) rfl (cg2 (fun (z0 : Int32) (z1 : Int32) => ([(2, .int z0), (0, .ref (b + 27)), (1, .int z1)] : List (Nat × Value))) e_1 e_2) ?_
  refine loop_dn (P := fun i_4 => V p l e { frames := 3, cells := 0, slots := 0, locals := 70 } s m args below meth c D b 3 (MQ below (cQ D b 0 (fun r es' => r = some (.int (mstN sc ar Hn)) ∧ (wl D b sc ar hn mh G) = es')) args s 0 0 (fun q => b ≤ q)) 0 0 (wl D b sc ar hn mh G) [(2, .int (nI i_4)), (0, .ref (b + 27)), (1, .int (mstN sc ar i_4))] [] 4) Hn ?_ (fun i_4 hi_4 ih_4 => ?_)
  · skip
    have g_3 : ((sc 25) : Int32) ≤ (nI Hn) := by rw [hH]; exact Int32.le_refl _
    refine v_iload_n (n := 5) C dX12_strandedMany_4 rfl rfl rfl ?_
    refine v_aload_n (n := 6) C dX12_strandedMany_5 rfl rfl rfl ?_
    refine v_get (n := 9) C dX12_strandedMany_6 rfl fl_X12_78_X12 wl_c27 rfl ?_
    refine v_icmp_ge (t := 34) (n := 12) C dX12_strandedMany_9 (by decide) rfl (fun c_4 => ?_) (fun c_4 => ?_)
    · skip
      refine v_iload_n (n := 35) C dX12_strandedMany_34 rfl rfl rfl ?_
      exact v_iret C dX12_strandedMany_35 rfl rfl ⟨rfl, rfl⟩
    · first | exact absurd c_4 g_3 | exact absurd g_3 c_4 | exact absurd c_4 (Int32.not_le.mpr g_3) | exact absurd c_4 (Int32.not_lt.mpr g_3) | exact absurd (Int32.not_le.mp g_3) c_4 | exact absurd (Int32.not_lt.mp g_3) c_4 | exact absurd (Int32.not_le.mp g_3) (Int32.not_lt.mpr c_4) | exact absurd (Int32.not_lt.mp g_3) (Int32.not_le.mpr c_4) | exact absurd (Int32.not_lt.mp c_4) (Int32.not_le.mpr (Int32.not_le.mp g_3))
  · skip
    have g_5 : ¬ ((sc 25) : Int32) ≤ (nI i_4) := by rw [hH]; exact nI_ge hi_4 (by omega)
    refine v_iload_n (n := 5) C dX12_strandedMany_4 rfl rfl rfl ?_
    refine v_aload_n (n := 6) C dX12_strandedMany_5 rfl rfl rfl ?_
    refine v_get (n := 9) C dX12_strandedMany_6 rfl fl_X12_78_X12 wl_c27 rfl ?_
    refine v_icmp_ge (t := 34) (n := 12) C dX12_strandedMany_9 (by decide) rfl (fun c_6 => ?_) (fun c_6 => ?_)
    · first | exact absurd c_6 g_5 | exact absurd g_5 c_6 | exact absurd c_6 (Int32.not_le.mpr g_5) | exact absurd c_6 (Int32.not_lt.mpr g_5) | exact absurd (Int32.not_le.mp g_5) c_6 | exact absurd (Int32.not_lt.mp g_5) c_6 | exact absurd (Int32.not_le.mp g_5) (Int32.not_lt.mpr c_6) | exact absurd (Int32.not_lt.mp g_5) (Int32.not_le.mpr c_6) | exact absurd (Int32.not_lt.mp c_6) (Int32.not_le.mpr (Int32.not_le.mp g_5))
    · skip
      refine v_iload_n (n := 13) C dX12_strandedMany_12 rfl rfl rfl ?_
      refine v_aload_n (n := 14) C dX12_strandedMany_13 rfl rfl rfl ?_
      refine v_iload_n (n := 15) C dX12_strandedMany_14 rfl rfl rfl ?_
      refine v_go (n := 18) C (vRun_V (As := [.int (nI i_4)]) (rest := [.int (mstN sc ar i_4)]) C wl_c27 rfl lk_X12_131 im_X12_isStranded se_X12_isStranded dX12_strandedMany_15 (m_isStranded l D b sc ar hn mh G i_4 (by omega) (hrc i_4 (by omega))) wm_X12_isStranded rfl rfl ⟨Nat.le_of_ble_eq_true rfl, Nat.le_of_ble_eq_true rfl⟩ ⟨Nat.le_of_ble_eq_true rfl, Nat.le_of_ble_eq_true rfl⟩ (Nat.le_of_ble_eq_true rfl)) rfl ?_
      rintro _ _ ⟨rfl, rfl⟩ -
      refine v_if_eq (t := 25) (n := 21) C dX12_strandedMany_18 (by decide) rfl (fun c_7 => ?_) (fun c_7 => ?_)
      · skip
        refine v_iconst (n := 26) (v := 0) C dX12_strandedMany_25 rfl (by decide) ?_
        refine v_iadd (n := 27) C dX12_strandedMany_26 rfl ?_
        refine v_istore_n (n := 28) (lv' := [(1, .int ((mstN sc ar i_4) + 0)), (2, .int (nI i_4)), (0, .ref (b + 27))]) C dX12_strandedMany_27 rfl rfl (Nat.le_of_ble_eq_true rfl) rfl ?_
        refine v_iinc (n := 31) (v := ((nI i_4) + 1)) (lv' := [(2, .int ((nI i_4) + 1)), (1, .int ((mstN sc ar i_4) + 0)), (0, .ref (b + 27))]) C dX12_strandedMany_28 rfl rfl rfl (Nat.le_of_ble_eq_true rfl) rfl ?_
        refine v_goto (t := 4) C dX12_strandedMany_31 (by decide) ?_
        refine v_pick (lv' := [(2, .int ((nI i_4) + 1)), (0, .ref (b + 27)), (1, .int ((mstN sc ar i_4) + 0))]) [0, 2, 1] rfl ?_
        have e_8 : ((nI i_4) + 1) = (nI (i_4 + 1)) := nI_1 _
        have e_9 : (((mstN sc ar i_4) + 0) : Int32) = (mstN sc ar (i_4 + 1)) := by first | (rw [mstN]; done) | (rw [mstN]; simp only [if_neg g_5, if_pos (Int32.not_le.mp g_5), if_neg c_6, if_pos (Int32.not_le.mp c_6), if_pos c_7]; done) | (rw [mstN]; simp only [eq_false g_5, eq_true (Int32.not_le.mp g_5), eq_false c_6, eq_true (Int32.not_le.mp c_6), eq_true c_7, ↓reduceIte]; done) | (rw [mstN]; simp only [eq_false g_5, eq_true (Int32.not_le.mp g_5), eq_false c_6, eq_true (Int32.not_le.mp c_6), eq_true c_7, ↓reduceIte] <;> rfl) | rfl | (rw [mstN]; simp [g_5, c_6, c_7]; done)
        refine v_cong (es' := (wl D b sc ar hn mh G)) (lv' := [(2, .int (nI (i_4 + 1))), (0, .ref (b + 27)), (1, .int (mstN sc ar (i_4 + 1)))]) rfl (cg2 (fun (z0 : Int32) (z1 : Int32) => ([(2, .int z0), (0, .ref (b + 27)), (1, .int z1)] : List (Nat × Value))) e_8 e_9) ?_
        exact ih_4
      · skip
        refine v_iconst (n := 22) (v := 1) C dX12_strandedMany_21 rfl (by decide) ?_
        refine v_goto (t := 26) C dX12_strandedMany_22 (by decide) ?_
        refine v_iadd (n := 27) C dX12_strandedMany_26 rfl ?_
        refine v_istore_n (n := 28) (lv' := [(1, .int ((mstN sc ar i_4) + 1)), (2, .int (nI i_4)), (0, .ref (b + 27))]) C dX12_strandedMany_27 rfl rfl (Nat.le_of_ble_eq_true rfl) rfl ?_
        refine v_iinc (n := 31) (v := ((nI i_4) + 1)) (lv' := [(2, .int ((nI i_4) + 1)), (1, .int ((mstN sc ar i_4) + 1)), (0, .ref (b + 27))]) C dX12_strandedMany_28 rfl rfl rfl (Nat.le_of_ble_eq_true rfl) rfl ?_
        refine v_goto (t := 4) C dX12_strandedMany_31 (by decide) ?_
        refine v_pick (lv' := [(2, .int ((nI i_4) + 1)), (0, .ref (b + 27)), (1, .int ((mstN sc ar i_4) + 1))]) [0, 2, 1] rfl ?_
        have e_10 : ((nI i_4) + 1) = (nI (i_4 + 1)) := nI_1 _
        have e_11 : (((mstN sc ar i_4) + 1) : Int32) = (mstN sc ar (i_4 + 1)) := by first | (rw [mstN]; done) | (rw [mstN]; simp only [if_neg g_5, if_pos (Int32.not_le.mp g_5), if_neg c_6, if_pos (Int32.not_le.mp c_6), if_neg c_7]; done) | (rw [mstN]; simp only [eq_false g_5, eq_true (Int32.not_le.mp g_5), eq_false c_6, eq_true (Int32.not_le.mp c_6), eq_false c_7, ↓reduceIte]; done) | (rw [mstN]; simp only [eq_false g_5, eq_true (Int32.not_le.mp g_5), eq_false c_6, eq_true (Int32.not_le.mp c_6), eq_false c_7, ↓reduceIte] <;> rfl) | rfl | (rw [mstN]; simp [g_5, c_6, c_7]; done)
        refine v_cong (es' := (wl D b sc ar hn mh G)) (lv' := [(2, .int (nI (i_4 + 1))), (0, .ref (b + 27)), (1, .int (mstN sc ar (i_4 + 1)))]) rfl (cg2 (fun (z0 : Int32) (z1 : Int32) => ([(2, .int z0), (0, .ref (b + 27)), (1, .int z1)] : List (Nat × Value))) e_10 e_11) ?_
        exact ih_4
def mdrV (s w : Int32) : Int32 := drS s / 65536 - drS s / 65536 / w * w
set_option maxHeartbeats 4000000 in
set_option maxRecDepth 100000 in
theorem m_draw (l : Launch) (D : va_G) (b : Nat) (sc : Nat → Int32) (ar : Nat → Nat → Int32) (hn : Nat → Option Nat) (mh : Int64) (G : List va_E) (x : Int32) (hx0 : ¬ x = 0) : Con l yX12_draw cX12_draw 2 (some .int) 0 0 D b 0 0 (wl D b sc ar hn mh G) [.ref (b + 27), .int x] (fun r es' => ∃ sd v : Int32, sd = drS (sc 29) ∧ v = mdrV (sc 29) x ∧ r = some (.int v) ∧ wl D b (va_up sc 29 sd) ar hn mh G = es') := by
  refine con_of (by decide) (Nat.le_of_ble_eq_true rfl) (fun p e s m args below meth c C hsz => ?_)
  have C : vC p s m args meth c cX12_draw 2 RX12 "draw" (some .int) D b := C
  change V p l e _ s m args below meth c D b 2 _ 0 0 (wl D b sc ar hn mh G) [(0, .ref (b + 27)), (1, .int x)] [] 0
  refine v_aload_n (n := 1) C dX12_draw_0 rfl rfl rfl ?_
  refine v_ldc2 (n := 4) C dX12_draw_1 rfl kl_X12_185 ?_
  refine v_aload_n (n := 5) C dX12_draw_4 rfl rfl rfl ?_
  refine v_get (n := 8) C dX12_draw_5 rfl fl_X12_187_X12 wl_c27 rfl ?_
  refine v_i2l (n := 9) C dX12_draw_8 rfl ?_
  refine v_lmul (n := 10) C dX12_draw_9 rfl ?_
  refine v_ldc2 (n := 13) C dX12_draw_10 rfl kl_X12_190 ?_
  refine v_ladd (n := 14) C dX12_draw_13 rfl ?_
  refine v_ldc2 (n := 17) C dX12_draw_14 rfl kl_X12_192 ?_
  refine v_land (n := 18) C dX12_draw_17 rfl ?_
  refine v_l2i (n := 19) C dX12_draw_18 rfl ?_
  refine v_put (n := 22) (es' := (wl D b (va_up sc 29 (Int64.toInt32 (((1103515245 * (Int32.toInt64 (sc 29))) + 12345) &&& 2147483647))) ar hn mh G)) C dX12_draw_19 rfl fl_X12_187_X12 (fp_any fp_X12_18) wl_c27 rfl rfl (Nat.le_of_ble_eq_true rfl) wl_p27_18 ?_
  refine v_aload_n (n := 23) C dX12_draw_22 rfl rfl rfl ?_
  refine v_get (n := 26) C dX12_draw_23 rfl fl_X12_187_X12 (show (wl D b (va_up sc 29 (Int64.toInt32 (((1103515245 * (Int32.toInt64 (sc 29))) + 12345) &&& 2147483647))) ar hn mh G)[27]? = some (.inr (12, [.ref (b + 28), .int (sc 20), .int (sc 21), .int (sc 22), .int (sc 23), .int (sc 24), .ref (b + 29), .int (sc 25), .ref (b + 30), .ref (b + 31), .ref (b + 32), .ref (b + 33), .ref (b + 34), .int (sc 26), .int (sc 27), .int (sc 28), .ref (b + 35), .ref (b + 36), .int (Int64.toInt32 (((1103515245 * (Int32.toInt64 (sc 29))) + 12345) &&& 2147483647)), .ref (b + 37), .int (sc 30), .int (sc 31), .int (sc 32), .int (sc 33), .int (sc 34), .ref (b + 38), .ref (b + 39), .long mh])) from wl_c27) rfl ?_
  refine v_ldc (n := 28) C dX12_draw_26 rfl ki_X12_194 ?_
  refine v_idiv (n := 29) C dX12_draw_28 rfl (by decide) ?_
  refine v_iload_n (n := 30) C dX12_draw_29 rfl rfl rfl ?_
  refine v_irem (n := 31) C dX12_draw_30 rfl hx0 ?_
  exact v_iret C dX12_draw_31 rfl rfl ⟨drS (sc 29), mdrV (sc 29) x, rfl, rfl, rfl, rfl⟩
set_option maxHeartbeats 4000000 in
set_option maxRecDepth 100000 in
theorem m_sail (l : Launch) (D : va_G) (b : Nat) (sc : Nat → Int32) (ar : Nat → Nat → Int32) (hn : Nat → Option Nat) (mh : Int64) (G : List va_E) (x w : Int32) (Hn : Nat) (hH : sc 25 = nI Hn) (hH3 : Hn ≤ 3) (hrc : ∀ k, k < Hn → vp_in (ar 30 (4 * k + 2)) 12) : Con l yX12_sail cX12_sail 4 (some .int) 3 78 D b 0 0 (wl D b sc ar hn mh G) [.ref (b + 27), .int x, .int w] (fun r es' => r = some (.int (msaS sc ar x w).1) ∧ wl D b (msaS sc ar x w).2.1 (msaS sc ar x w).2.2 hn mh G = es') := by
  refine con_of (by decide) (Nat.le_of_ble_eq_true rfl) (fun p e s m args below meth c C hsz => ?_)
  have C : vC p s m args meth c cX12_sail 4 RX12 "sail" (some .int) D b := C
  change V p l e _ s m args below meth c D b 4 _ 0 0 (wl D b sc ar hn mh G) [(0, .ref (b + 27)), (1, .int x), (2, .int w)] [] 0
  refine v_aload_n (n := 1) C dX12_sail_0 rfl rfl rfl ?_
  refine v_iload_n (n := 2) C dX12_sail_1 rfl rfl rfl ?_
  refine v_go (n := 5) C (vRun_V (As := [.int x]) (rest := []) C wl_c27 rfl lk_X12_134 im_X12_isHull se_X12_isHull dX12_sail_2 (m_isHull l D b sc ar hn mh G x) wm_X12_isHull rfl rfl ⟨Nat.le_of_ble_eq_true rfl, Nat.le_of_ble_eq_true rfl⟩ ⟨Nat.le_of_ble_eq_true rfl, Nat.le_of_ble_eq_true rfl⟩ (Nat.le_of_ble_eq_true rfl)) rfl ?_
  rintro _ _ ⟨rfl, rfl⟩ -
  by_cases p_1 : x < 0
  · skip
    refine v_stk (st' := .int 0 :: []) (congrArg (fun z : Int32 => Value.int z :: []) (show mihF (sc 25) x = 0 by simp only [mihF, if_pos p_1])) ?_
    refine v_if_ne (t := 11) (n := 8) C dX12_sail_5 (by decide) rfl (fun c_2 => ?_) (fun c_2 => ?_)
    · exact absurd c_2 (by decide)
    · skip
      refine v_bipush (n := 10) (v := -101) C dX12_sail_8 rfl (by decide) ?_
      exact v_iret C dX12_sail_10 rfl rfl ⟨by first | rfl | (simp only [msaS, if_pos p_1, if_neg (Int32.not_le.mpr p_1), if_pos c_2]; done) | (simp only [msaS, eq_true p_1, eq_false (Int32.not_le.mpr p_1), eq_true c_2, ↓reduceIte]; done) | (simp only [msaS, eq_true p_1, eq_false (Int32.not_le.mpr p_1), eq_true c_2, ↓reduceIte] <;> rfl) | (simp [msaS, p_1, c_2]; done), by first | (simp only [msaS, eq_true p_1, eq_false (Int32.not_le.mpr p_1), eq_true c_2, ↓reduceIte]; done) | (simp only [msaS, eq_true p_1, eq_false (Int32.not_le.mpr p_1), eq_true c_2, ↓reduceIte] <;> rfl)⟩
  by_cases p_3 : (sc 25) - 1 < x
  · skip
    refine v_stk (st' := .int 0 :: []) (congrArg (fun z : Int32 => Value.int z :: []) (show mihF (sc 25) x = 0 by simp only [mihF, if_neg p_1, if_pos p_3])) ?_
    refine v_if_ne (t := 11) (n := 8) C dX12_sail_5 (by decide) rfl (fun c_4 => ?_) (fun c_4 => ?_)
    · exact absurd c_4 (by decide)
    · skip
      refine v_bipush (n := 10) (v := -101) C dX12_sail_8 rfl (by decide) ?_
      exact v_iret C dX12_sail_10 rfl rfl ⟨by first | rfl | (simp only [msaS, if_neg p_1, if_pos (Int32.not_lt.mp p_1), if_pos p_3, if_neg (Int32.not_le.mpr p_3), if_pos c_4]; done) | (simp only [msaS, eq_false p_1, eq_true (Int32.not_lt.mp p_1), eq_true p_3, eq_false (Int32.not_le.mpr p_3), eq_true c_4, ↓reduceIte]; done) | (simp only [msaS, eq_false p_1, eq_true (Int32.not_lt.mp p_1), eq_true p_3, eq_false (Int32.not_le.mpr p_3), eq_true c_4, ↓reduceIte] <;> rfl) | (simp [msaS, p_1, p_3, c_4]; done), by first | (simp only [msaS, eq_false p_1, eq_true (Int32.not_lt.mp p_1), eq_true p_3, eq_false (Int32.not_le.mpr p_3), eq_true c_4, ↓reduceIte]; done) | (simp only [msaS, eq_false p_1, eq_true (Int32.not_lt.mp p_1), eq_true p_3, eq_false (Int32.not_le.mpr p_3), eq_true c_4, ↓reduceIte] <;> rfl)⟩
  refine v_stk (st' := .int 1 :: []) (congrArg (fun z : Int32 => Value.int z :: []) (show mihF (sc 25) x = 1 by simp only [mihF, if_neg p_1, if_neg p_3])) ?_
  obtain ⟨kN, hkN, rfl⟩ := ih_k hH hH3 p_1 p_3
  have hkc : (nI kN).toNatClampNeg = kN := nI_clamp (by omega)
  refine v_if_ne (t := 11) (n := 8) C dX12_sail_5 (by decide) rfl (fun c_5 => ?_) (fun c_5 => ?_)
  · skip
    refine v_iload_n (n := 12) C dX12_sail_11 rfl rfl rfl ?_
    refine v_i2l (n := 13) C dX12_sail_12 rfl ?_
    refine v_lconst (n := 14) (v := 0) C dX12_sail_13 rfl (by decide) ?_
    refine v_ldc2 (n := 17) C dX12_sail_14 rfl kl_X12_140 ?_
    refine v_stk (st' := [.long (Int32.toInt64 3), .long (Int32.toInt64 0), .long (Int32.toInt64 w)]) rfl ?_
    refine v_go (n := 20) C (vRun_S (As := [.long (Int32.toInt64 w), .long (Int32.toInt64 0), .long (Int32.toInt64 3)]) (rest := []) C lk_X12_55 st_X12_in dX12_sail_17 (c_in l D b (wl D b sc ar hn mh G) w 0 3) wm_X12_in rfl rfl ⟨Nat.le_of_ble_eq_true rfl, Nat.le_of_ble_eq_true rfl⟩ ⟨Nat.le_of_ble_eq_true rfl, Nat.le_of_ble_eq_true rfl⟩ (Nat.le_of_ble_eq_true rfl)) rfl ?_
    rintro _ _ ⟨rfl, rfl⟩ -
    by_cases p_6 : w < 0
    · skip
      refine v_stk (st' := .int 0 :: []) (congrArg (fun z : Int32 => Value.int z :: []) (show niF w 0 3 = 0 by simp only [niF, if_pos p_6])) ?_
      refine v_if_ne (t := 26) (n := 23) C dX12_sail_20 (by decide) rfl (fun c_7 => ?_) (fun c_7 => ?_)
      · exact absurd c_7 (by decide)
      · skip
        refine v_bipush (n := 25) (v := -102) C dX12_sail_23 rfl (by decide) ?_
        exact v_iret C dX12_sail_25 rfl rfl ⟨by first | rfl | (simp only [msaS, if_neg p_1, if_pos (Int32.not_lt.mp p_1), if_neg p_3, if_pos (Int32.not_lt.mp p_3), hkc, if_neg c_5, if_pos p_6, if_neg (Int32.not_le.mpr p_6), if_pos c_7]; done) | (simp only [msaS, eq_false p_1, eq_true (Int32.not_lt.mp p_1), eq_false p_3, eq_true (Int32.not_lt.mp p_3), hkc, eq_false c_5, eq_true p_6, eq_false (Int32.not_le.mpr p_6), eq_true c_7, ↓reduceIte]; done) | (simp only [msaS, eq_false p_1, eq_true (Int32.not_lt.mp p_1), eq_false p_3, eq_true (Int32.not_lt.mp p_3), hkc, eq_false c_5, eq_true p_6, eq_false (Int32.not_le.mpr p_6), eq_true c_7, ↓reduceIte] <;> rfl) | (simp [msaS, p_1, p_3, hkc, c_5, p_6, c_7]; done), by first | (simp only [msaS, eq_false p_1, eq_true (Int32.not_lt.mp p_1), eq_false p_3, eq_true (Int32.not_lt.mp p_3), hkc, eq_false c_5, eq_true p_6, eq_false (Int32.not_le.mpr p_6), eq_true c_7, ↓reduceIte]; done) | (simp only [msaS, eq_false p_1, eq_true (Int32.not_lt.mp p_1), eq_false p_3, eq_true (Int32.not_lt.mp p_3), hkc, eq_false c_5, eq_true p_6, eq_false (Int32.not_le.mpr p_6), eq_true c_7, ↓reduceIte] <;> rfl)⟩
    by_cases p_8 : 3 < w
    · skip
      refine v_stk (st' := .int 0 :: []) (congrArg (fun z : Int32 => Value.int z :: []) (show niF w 0 3 = 0 by simp only [niF, if_neg p_6, if_pos p_8])) ?_
      refine v_if_ne (t := 26) (n := 23) C dX12_sail_20 (by decide) rfl (fun c_9 => ?_) (fun c_9 => ?_)
      · exact absurd c_9 (by decide)
      · skip
        refine v_bipush (n := 25) (v := -102) C dX12_sail_23 rfl (by decide) ?_
        exact v_iret C dX12_sail_25 rfl rfl ⟨by first | rfl | (simp only [msaS, if_neg p_1, if_pos (Int32.not_lt.mp p_1), if_neg p_3, if_pos (Int32.not_lt.mp p_3), hkc, if_neg c_5, if_neg p_6, if_pos (Int32.not_lt.mp p_6), if_pos p_8, if_neg (Int32.not_le.mpr p_8), if_pos c_9]; done) | (simp only [msaS, eq_false p_1, eq_true (Int32.not_lt.mp p_1), eq_false p_3, eq_true (Int32.not_lt.mp p_3), hkc, eq_false c_5, eq_false p_6, eq_true (Int32.not_lt.mp p_6), eq_true p_8, eq_false (Int32.not_le.mpr p_8), eq_true c_9, ↓reduceIte]; done) | (simp only [msaS, eq_false p_1, eq_true (Int32.not_lt.mp p_1), eq_false p_3, eq_true (Int32.not_lt.mp p_3), hkc, eq_false c_5, eq_false p_6, eq_true (Int32.not_lt.mp p_6), eq_true p_8, eq_false (Int32.not_le.mpr p_8), eq_true c_9, ↓reduceIte] <;> rfl) | (simp [msaS, p_1, p_3, hkc, c_5, p_6, p_8, c_9]; done), by first | (simp only [msaS, eq_false p_1, eq_true (Int32.not_lt.mp p_1), eq_false p_3, eq_true (Int32.not_lt.mp p_3), hkc, eq_false c_5, eq_false p_6, eq_true (Int32.not_lt.mp p_6), eq_true p_8, eq_false (Int32.not_le.mpr p_8), eq_true c_9, ↓reduceIte]; done) | (simp only [msaS, eq_false p_1, eq_true (Int32.not_lt.mp p_1), eq_false p_3, eq_true (Int32.not_lt.mp p_3), hkc, eq_false c_5, eq_false p_6, eq_true (Int32.not_lt.mp p_6), eq_true p_8, eq_false (Int32.not_le.mpr p_8), eq_true c_9, ↓reduceIte] <;> rfl)⟩
    refine v_stk (st' := .int 1 :: []) (congrArg (fun z : Int32 => Value.int z :: []) (show niF w 0 3 = 1 by simp only [niF, if_neg p_6, if_neg p_8])) ?_
    refine v_if_ne (t := 26) (n := 23) C dX12_sail_20 (by decide) rfl (fun c_10 => ?_) (fun c_10 => ?_)
    · skip
      refine v_aload_n (n := 27) C dX12_sail_26 rfl rfl rfl ?_
      refine v_iload_n (n := 28) C dX12_sail_27 rfl rfl rfl ?_
      refine v_aload_n (n := 29) C dX12_sail_28 rfl rfl rfl ?_
      refine v_get (n := 32) C dX12_sail_29 rfl fl_X12_16_X12 wl_c27 rfl ?_
      refine v_iconst (n := 33) (v := 4) C dX12_sail_32 rfl (by decide) ?_
      refine v_iload_n (n := 34) C dX12_sail_33 rfl rfl rfl ?_
      refine v_imul (n := 35) C dX12_sail_34 rfl ?_
      refine v_iconst (n := 36) (v := 2) C dX12_sail_35 rfl (by decide) ?_
      refine v_iadd (n := 37) C dX12_sail_36 rfl ?_
      refine v_iald (n := 38) C dX12_sail_37 rfl wl_c30 (rw_vp (j := 2) (show kN < 3 by omega) (by decide)) ?_
      refine v_stk (st' := .int ((ar 30) (4 * kN + 2)) :: [.int (nI kN), .ref (b + 27)]) (congrArg (fun z : Nat => Value.int ((ar 30) z) :: [.int (nI kN), .ref (b + 27)]) (rw_c (j := 2) (show kN < 3 by omega) (by decide))) ?_
      refine v_aload_n (n := 39) C dX12_sail_38 rfl rfl rfl ?_
      refine v_get (n := 42) C dX12_sail_39 rfl fl_X12_75_X12 wl_c27 rfl ?_
      refine v_iload_n (n := 43) C dX12_sail_42 rfl rfl rfl ?_
      refine v_aload_n (n := 44) C dX12_sail_43 rfl rfl rfl ?_
      refine v_get (n := 47) C dX12_sail_44 rfl fl_X12_50_X12 wl_c27 rfl ?_
      refine v_aload_n (n := 48) C dX12_sail_47 rfl rfl rfl ?_
      refine v_get (n := 51) C dX12_sail_48 rfl fl_X12_72_X12 wl_c27 rfl ?_
      refine v_go (n := 54) C (vRun_V (As := [.int (nI kN), .int ((ar 30) (4 * kN + 2)), .int (sc 22), .int w, .int (sc 23), .int (sc 21)]) (rest := []) C wl_c27 rfl lk_X12_127 im_X12_hoursOf se_X12_hoursOf dX12_sail_51 (m_hoursOf l D b sc ar hn mh G kN (by omega) ((ar 30) (4 * kN + 2)) (sc 22) w (sc 23) (sc 21) (hrc kN (by omega))) wm_X12_hoursOf rfl rfl ⟨Nat.le_of_ble_eq_true rfl, Nat.le_of_ble_eq_true rfl⟩ ⟨Nat.le_of_ble_eq_true rfl, Nat.le_of_ble_eq_true rfl⟩ (Nat.le_of_ble_eq_true rfl)) rfl ?_
      rintro _ _ ⟨rfl, rfl⟩ -
      refine v_istore_n (n := 55) (lv' := [(3, .int (mhtF (ar 29) (ar 30) kN ((ar 30) (4 * kN + 2)) (sc 22) w (sc 23) (sc 21))), (0, .ref (b + 27)), (1, .int (nI kN)), (2, .int w)]) C dX12_sail_54 rfl rfl (Nat.le_of_ble_eq_true rfl) rfl ?_
      refine v_iload_n (n := 56) C dX12_sail_55 rfl rfl rfl ?_
      refine v_iconst (n := 57) (v := -1) C dX12_sail_56 rfl (by decide) ?_
      refine v_icmp_eq (t := 72) (n := 60) C dX12_sail_57 (by decide) rfl (fun c_11 => ?_) (fun c_11 => ?_)
      · skip
        refine v_bipush (n := 74) (v := -103) C dX12_sail_72 rfl (by decide) ?_
        exact v_iret C dX12_sail_74 rfl rfl ⟨by first | rfl | (simp only [msaS, if_neg p_1, if_pos (Int32.not_lt.mp p_1), if_neg p_3, if_pos (Int32.not_lt.mp p_3), hkc, if_neg c_5, if_neg p_6, if_pos (Int32.not_lt.mp p_6), if_neg p_8, if_pos (Int32.not_lt.mp p_8), if_neg c_10, if_pos c_11]; done) | (simp only [msaS, eq_false p_1, eq_true (Int32.not_lt.mp p_1), eq_false p_3, eq_true (Int32.not_lt.mp p_3), hkc, eq_false c_5, eq_false p_6, eq_true (Int32.not_lt.mp p_6), eq_false p_8, eq_true (Int32.not_lt.mp p_8), eq_false c_10, eq_true c_11, ↓reduceIte]; done) | (simp only [msaS, eq_false p_1, eq_true (Int32.not_lt.mp p_1), eq_false p_3, eq_true (Int32.not_lt.mp p_3), hkc, eq_false c_5, eq_false p_6, eq_true (Int32.not_lt.mp p_6), eq_false p_8, eq_true (Int32.not_lt.mp p_8), eq_false c_10, eq_true c_11, ↓reduceIte] <;> rfl) | (simp [msaS, p_1, p_3, hkc, c_5, p_6, p_8, c_10, c_11]; done), by first | (simp only [msaS, eq_false p_1, eq_true (Int32.not_lt.mp p_1), eq_false p_3, eq_true (Int32.not_lt.mp p_3), hkc, eq_false c_5, eq_false p_6, eq_true (Int32.not_lt.mp p_6), eq_false p_8, eq_true (Int32.not_lt.mp p_8), eq_false c_10, eq_true c_11, ↓reduceIte]; done) | (simp only [msaS, eq_false p_1, eq_true (Int32.not_lt.mp p_1), eq_false p_3, eq_true (Int32.not_lt.mp p_3), hkc, eq_false c_5, eq_false p_6, eq_true (Int32.not_lt.mp p_6), eq_false p_8, eq_true (Int32.not_lt.mp p_8), eq_false c_10, eq_true c_11, ↓reduceIte] <;> rfl)⟩
      · skip
        refine v_aload_n (n := 61) C dX12_sail_60 rfl rfl rfl ?_
        refine v_get (n := 64) C dX12_sail_61 rfl fl_X12_75_X12 wl_c27 rfl ?_
        refine v_iload_n (n := 65) C dX12_sail_64 rfl rfl rfl ?_
        refine v_iadd (n := 66) C dX12_sail_65 rfl ?_
        refine v_sipush (n := 69) (v := 999) C dX12_sail_66 rfl (by decide) ?_
        refine v_icmp_le (t := 75) (n := 72) C dX12_sail_69 (by decide) rfl (fun c_12 => ?_) (fun c_12 => ?_)
        · skip
          refine v_aload_n (n := 76) C dX12_sail_75 rfl rfl rfl ?_
          refine v_get (n := 79) C dX12_sail_76 rfl fl_X12_16_X12 wl_c27 rfl ?_
          refine v_iconst (n := 80) (v := 4) C dX12_sail_79 rfl (by decide) ?_
          refine v_iload_n (n := 81) C dX12_sail_80 rfl rfl rfl ?_
          refine v_imul (n := 82) C dX12_sail_81 rfl ?_
          refine v_iconst (n := 83) (v := 2) C dX12_sail_82 rfl (by decide) ?_
          refine v_iadd (n := 84) C dX12_sail_83 rfl ?_
          refine v_aload_n (n := 85) C dX12_sail_84 rfl rfl rfl ?_
          refine v_get (n := 88) C dX12_sail_85 rfl fl_X12_16_X12 wl_c27 rfl ?_
          refine v_iconst (n := 89) (v := 4) C dX12_sail_88 rfl (by decide) ?_
          refine v_iload_n (n := 90) C dX12_sail_89 rfl rfl rfl ?_
          refine v_imul (n := 91) C dX12_sail_90 rfl ?_
          refine v_iconst (n := 92) (v := 2) C dX12_sail_91 rfl (by decide) ?_
          refine v_iadd (n := 93) C dX12_sail_92 rfl ?_
          refine v_iald (n := 94) C dX12_sail_93 rfl wl_c30 (rw_vp (j := 2) (show kN < 3 by omega) (by decide)) ?_
          refine v_stk (st' := .int ((ar 30) (4 * kN + 2)) :: [.int ((4 * (nI kN)) + 2), .ref (b + 30)]) (congrArg (fun z : Nat => Value.int ((ar 30) z) :: [.int ((4 * (nI kN)) + 2), .ref (b + 30)]) (rw_c (j := 2) (show kN < 3 by omega) (by decide))) ?_
          refine v_iload_n (n := 95) C dX12_sail_94 rfl rfl rfl ?_
          refine v_go (n := 98) C (vRun_S (As := [.int ((ar 30) (4 * kN + 2)), .int w]) (rest := [.int ((4 * (nI kN)) + 2), .ref (b + 30)]) C lk_X12_113 st_X12_beside dX12_sail_95 (m_beside l D b (wl D b sc ar hn mh G) ((ar 30) (4 * kN + 2)) w) wm_X12_beside rfl rfl ⟨Nat.le_of_ble_eq_true rfl, Nat.le_of_ble_eq_true rfl⟩ ⟨Nat.le_of_ble_eq_true rfl, Nat.le_of_ble_eq_true rfl⟩ (Nat.le_of_ble_eq_true rfl)) rfl ?_
          rintro _ _ ⟨rfl, rfl⟩ -
          refine v_iast (n := 99) (es' := (wl D b sc (va_up ar 30 (upd (ar 30) (4 * kN + 2) (mbeF ((ar 30) (4 * kN + 2)) w))) hn mh G)) C dX12_sail_98 rfl wl_c30 (rw_vp (j := 2) (show kN < 3 by omega) (by decide)) (by rw [show ((4 : Int32) * nI kN + 2).toNatClampNeg = 4 * kN + 2 from (rw_c (j := 2) (show kN < 3 by omega) (by decide))]; exact (wl_a30 _)) ?_
          refine v_aload_n (n := 100) C dX12_sail_99 rfl rfl rfl ?_
          refine v_get (n := 103) C dX12_sail_100 rfl fl_X12_16_X12 wl_c27 rfl ?_
          refine v_iconst (n := 104) (v := 4) C dX12_sail_103 rfl (by decide) ?_
          refine v_iload_n (n := 105) C dX12_sail_104 rfl rfl rfl ?_
          refine v_imul (n := 106) C dX12_sail_105 rfl ?_
          refine v_iconst (n := 107) (v := 3) C dX12_sail_106 rfl (by decide) ?_
          refine v_iadd (n := 108) C dX12_sail_107 rfl ?_
          refine v_dup2 (n := 109) C dX12_sail_108 rfl rfl rfl ?_
          refine v_iald (n := 110) C dX12_sail_109 rfl (show (wl D b sc (va_up ar 30 (upd (ar 30) (4 * kN + 2) (mbeF ((ar 30) (4 * kN + 2)) w))) hn mh G)[30]? = some (.inl (D.1 13, 12, .inl (upd (ar 30) (4 * kN + 2) (mbeF ((ar 30) (4 * kN + 2)) w)))) from wl_c30) (rw_vp (j := 3) (show kN < 3 by omega) (by decide)) ?_
          refine v_stk (st' := .int ((upd (ar 30) (4 * kN + 2) (mbeF ((ar 30) (4 * kN + 2)) w)) (4 * kN + 3)) :: [.int ((4 * (nI kN)) + 3), .ref (b + 30)]) (congrArg (fun z : Nat => Value.int ((upd (ar 30) (4 * kN + 2) (mbeF ((ar 30) (4 * kN + 2)) w)) z) :: [.int ((4 * (nI kN)) + 3), .ref (b + 30)]) (rw_c (j := 3) (show kN < 3 by omega) (by decide))) ?_
          refine v_iload_n (n := 111) C dX12_sail_110 rfl rfl rfl ?_
          refine v_iadd (n := 112) C dX12_sail_111 rfl ?_
          refine v_iast (n := 113) (es' := (wl D b sc (va_up ar 30 (upd (upd (ar 30) (4 * kN + 2) (mbeF ((ar 30) (4 * kN + 2)) w)) (4 * kN + 3) (((upd (ar 30) (4 * kN + 2) (mbeF ((ar 30) (4 * kN + 2)) w)) (4 * kN + 3)) + (mhtF (ar 29) (ar 30) kN ((ar 30) (4 * kN + 2)) (sc 22) w (sc 23) (sc 21))))) hn mh G)) C dX12_sail_112 rfl (show (wl D b sc (va_up ar 30 (upd (ar 30) (4 * kN + 2) (mbeF ((ar 30) (4 * kN + 2)) w))) hn mh G)[30]? = some (.inl (D.1 13, 12, .inl (upd (ar 30) (4 * kN + 2) (mbeF ((ar 30) (4 * kN + 2)) w)))) from wl_c30) (rw_vp (j := 3) (show kN < 3 by omega) (by decide)) (by rw [show ((4 : Int32) * nI kN + 3).toNatClampNeg = 4 * kN + 3 from (rw_c (j := 3) (show kN < 3 by omega) (by decide))]; exact rfl) ?_
          refine v_aload_n (n := 114) C dX12_sail_113 rfl rfl rfl ?_
          refine v_dup (n := 115) C dX12_sail_114 rfl rfl ?_
          refine v_get (n := 118) C dX12_sail_115 rfl fl_X12_75_X12 wl_c27 rfl ?_
          refine v_iload_n (n := 119) C dX12_sail_118 rfl rfl rfl ?_
          refine v_iadd (n := 120) C dX12_sail_119 rfl ?_
          refine v_put (n := 123) (es' := (wl D b (va_up sc 22 ((sc 22) + (mhtF (ar 29) (ar 30) kN ((ar 30) (4 * kN + 2)) (sc 22) w (sc 23) (sc 21)))) (va_up ar 30 (upd (upd (ar 30) (4 * kN + 2) (mbeF ((ar 30) (4 * kN + 2)) w)) (4 * kN + 3) (((upd (ar 30) (4 * kN + 2) (mbeF ((ar 30) (4 * kN + 2)) w)) (4 * kN + 3)) + (mhtF (ar 29) (ar 30) kN ((ar 30) (4 * kN + 2)) (sc 22) w (sc 23) (sc 21))))) hn mh G)) C dX12_sail_120 rfl fl_X12_75_X12 (fp_any fp_X12_3) wl_c27 rfl rfl (Nat.le_of_ble_eq_true rfl) wl_p27_3 ?_
          refine v_aload_n (n := 124) C dX12_sail_123 rfl rfl rfl ?_
          refine v_get (n := 127) C dX12_sail_124 rfl fl_X12_75_X12 (show (wl D b (va_up sc 22 ((sc 22) + (mhtF (ar 29) (ar 30) kN ((ar 30) (4 * kN + 2)) (sc 22) w (sc 23) (sc 21)))) (va_up ar 30 (upd (upd (ar 30) (4 * kN + 2) (mbeF ((ar 30) (4 * kN + 2)) w)) (4 * kN + 3) (((upd (ar 30) (4 * kN + 2) (mbeF ((ar 30) (4 * kN + 2)) w)) (4 * kN + 3)) + (mhtF (ar 29) (ar 30) kN ((ar 30) (4 * kN + 2)) (sc 22) w (sc 23) (sc 21))))) hn mh G)[27]? = some (.inr (12, [.ref (b + 28), .int (sc 20), .int (sc 21), .int ((sc 22) + (mhtF (ar 29) (ar 30) kN ((ar 30) (4 * kN + 2)) (sc 22) w (sc 23) (sc 21))), .int (sc 23), .int (sc 24), .ref (b + 29), .int (sc 25), .ref (b + 30), .ref (b + 31), .ref (b + 32), .ref (b + 33), .ref (b + 34), .int (sc 26), .int (sc 27), .int (sc 28), .ref (b + 35), .ref (b + 36), .int (sc 29), .ref (b + 37), .int (sc 30), .int (sc 31), .int (sc 32), .int (sc 33), .int (sc 34), .ref (b + 38), .ref (b + 39), .long mh])) from wl_c27) rfl ?_
          exact v_iret C dX12_sail_127 rfl rfl ⟨by first | rfl | (simp only [msaS, if_neg p_1, if_pos (Int32.not_lt.mp p_1), if_neg p_3, if_pos (Int32.not_lt.mp p_3), hkc, if_neg c_5, if_neg p_6, if_pos (Int32.not_lt.mp p_6), if_neg p_8, if_pos (Int32.not_lt.mp p_8), if_neg c_10, if_neg c_11, if_pos c_12, if_neg (Int32.not_lt.mpr c_12)]; done) | (simp only [msaS, eq_false p_1, eq_true (Int32.not_lt.mp p_1), eq_false p_3, eq_true (Int32.not_lt.mp p_3), hkc, eq_false c_5, eq_false p_6, eq_true (Int32.not_lt.mp p_6), eq_false p_8, eq_true (Int32.not_lt.mp p_8), eq_false c_10, eq_false c_11, eq_true c_12, eq_false (Int32.not_lt.mpr c_12), ↓reduceIte]; done) | (simp only [msaS, eq_false p_1, eq_true (Int32.not_lt.mp p_1), eq_false p_3, eq_true (Int32.not_lt.mp p_3), hkc, eq_false c_5, eq_false p_6, eq_true (Int32.not_lt.mp p_6), eq_false p_8, eq_true (Int32.not_lt.mp p_8), eq_false c_10, eq_false c_11, eq_true c_12, eq_false (Int32.not_lt.mpr c_12), ↓reduceIte] <;> rfl) | (simp [msaS, p_1, p_3, hkc, c_5, p_6, p_8, c_10, c_11, c_12]; done), by first | (simp only [msaS, eq_false p_1, eq_true (Int32.not_lt.mp p_1), eq_false p_3, eq_true (Int32.not_lt.mp p_3), hkc, eq_false c_5, eq_false p_6, eq_true (Int32.not_lt.mp p_6), eq_false p_8, eq_true (Int32.not_lt.mp p_8), eq_false c_10, eq_false c_11, eq_true c_12, eq_false (Int32.not_lt.mpr c_12), ↓reduceIte]; done) | (simp only [msaS, eq_false p_1, eq_true (Int32.not_lt.mp p_1), eq_false p_3, eq_true (Int32.not_lt.mp p_3), hkc, eq_false c_5, eq_false p_6, eq_true (Int32.not_lt.mp p_6), eq_false p_8, eq_true (Int32.not_lt.mp p_8), eq_false c_10, eq_false c_11, eq_true c_12, eq_false (Int32.not_lt.mpr c_12), ↓reduceIte] <;> rfl)⟩
        · skip
          refine v_bipush (n := 74) (v := -103) C dX12_sail_72 rfl (by decide) ?_
          exact v_iret C dX12_sail_74 rfl rfl ⟨by first | rfl | (simp only [msaS, if_neg p_1, if_pos (Int32.not_lt.mp p_1), if_neg p_3, if_pos (Int32.not_lt.mp p_3), hkc, if_neg c_5, if_neg p_6, if_pos (Int32.not_lt.mp p_6), if_neg p_8, if_pos (Int32.not_lt.mp p_8), if_neg c_10, if_neg c_11, if_neg c_12, if_pos (Int32.not_le.mp c_12)]; done) | (simp only [msaS, eq_false p_1, eq_true (Int32.not_lt.mp p_1), eq_false p_3, eq_true (Int32.not_lt.mp p_3), hkc, eq_false c_5, eq_false p_6, eq_true (Int32.not_lt.mp p_6), eq_false p_8, eq_true (Int32.not_lt.mp p_8), eq_false c_10, eq_false c_11, eq_false c_12, eq_true (Int32.not_le.mp c_12), ↓reduceIte]; done) | (simp only [msaS, eq_false p_1, eq_true (Int32.not_lt.mp p_1), eq_false p_3, eq_true (Int32.not_lt.mp p_3), hkc, eq_false c_5, eq_false p_6, eq_true (Int32.not_lt.mp p_6), eq_false p_8, eq_true (Int32.not_lt.mp p_8), eq_false c_10, eq_false c_11, eq_false c_12, eq_true (Int32.not_le.mp c_12), ↓reduceIte] <;> rfl) | (simp [msaS, p_1, p_3, hkc, c_5, p_6, p_8, c_10, c_11, c_12]; done), by first | (simp only [msaS, eq_false p_1, eq_true (Int32.not_lt.mp p_1), eq_false p_3, eq_true (Int32.not_lt.mp p_3), hkc, eq_false c_5, eq_false p_6, eq_true (Int32.not_lt.mp p_6), eq_false p_8, eq_true (Int32.not_lt.mp p_8), eq_false c_10, eq_false c_11, eq_false c_12, eq_true (Int32.not_le.mp c_12), ↓reduceIte]; done) | (simp only [msaS, eq_false p_1, eq_true (Int32.not_lt.mp p_1), eq_false p_3, eq_true (Int32.not_lt.mp p_3), hkc, eq_false c_5, eq_false p_6, eq_true (Int32.not_lt.mp p_6), eq_false p_8, eq_true (Int32.not_lt.mp p_8), eq_false c_10, eq_false c_11, eq_false c_12, eq_true (Int32.not_le.mp c_12), ↓reduceIte] <;> rfl)⟩
    · exact absurd c_10 (by decide)
  · exact absurd c_5 (by decide)
