def kpN (hv : HV) (c s : Nat → Int32) : Nat → HF
  | 0 => (c, s)
  | i + 1 => match hv i with
    | none => kpN hv c s i
    | some q => (upd (kpN hv c s i).1 i q.2.2.1, upd (kpN hv c s i).2 i q.2.2.2)
def gbF (cnt : Int32) (c s : Nat → Int32) (hv : HV) (i : Nat) : Option (Nat × Int32 × Int32 × Int32) := if i < 3 then (if nI i < cnt then (match hv i with
  | none => none
  | some q => some (q.1, q.2.1, c i, s i)) else none) else hv i
def imgS (sc : Nat → Int32) (ar : Nat → Nat → Int32) (hv : HV) : Int32 × (Nat → Int32) × (Nat → Nat → Int32) := if sc 16 ≤ 0 then (-103, sc, ar) else
  (sc 3, va_up (va_up (va_up (va_up (va_up sc 6 1) 7 (sc 2)) 8 (sc 3)) 9 (sc 17)) 5 (sc 4), va_up (va_up (va_up (va_up (va_up ar 16 (kpN hv (ar 16) (ar 17) 3).1) 17 (kpN hv (ar 16) (ar 17) 3).2) 11 (copN (ar 4) (ar 11) 6)) 12 (copN (ar 5) (ar 12) 6)) 13 (copN (ar 6) (ar 13) 6))
def resS (sc : Nat → Int32) (ar : Nat → Nat → Int32) (hv : HV) : Int32 × (Nat → Int32) × (Nat → Nat → Int32) × HV := if sc 6 = 0 then (-103, sc, ar, hv) else
  (sc 8, va_up (va_up (va_up (va_up sc 2 (sc 7)) 3 (sc 8)) 17 (sc 9)) 4 (sc 5), va_up (va_up (va_up ar 4 (copN (ar 11) (ar 4) 6)) 5 (copN (ar 12) (ar 5) 6)) 6 (copN (ar 13) (ar 6) 6), gbF (sc 7) (ar 16) (ar 17) hv)
set_option maxHeartbeats 4000000 in
set_option maxRecDepth 100000 in
theorem c_keep (l : Launch) (D : va_G) (b : Nat) (sc : Nat → Int32) (ar : Nat → Nat → Int32) (hn : Nat → Option Nat) (mh : Int64) (G : List va_E) (x : Int32) (hv : HV) (hr : HVr hn G hv) : Con l yX5_keep cX5_keep 5 none 0 0 D b 0 0 (wl D b sc ar hn mh G) [.ref (b + 9), .ref (b + 2), .int x] (fun r es' => r = none ∧ wl D b (va_up (va_up sc 6 1) 7 x) (va_up (va_up ar 16 (kpN hv (ar 16) (ar 17) 3).1) 17 (kpN hv (ar 16) (ar 17) 3).2) hn mh G = es') := by
  refine con_of (by decide) (Nat.le_of_ble_eq_true rfl) (fun p e s m args below meth c C hsz => ?_)
  have C : vC p s m args meth c cX5_keep 5 RX5 "keep" none D b := C
  change V p l e _ s m args below meth c D b 5 _ 0 0 (wl D b sc ar hn mh G) [(0, .ref (b + 9)), (1, .ref (b + 2)), (2, .int x)] [] 0
  refine v_aload_n (n := 1) C dX5_keep_0 rfl rfl rfl ?_
  refine v_iconst (n := 2) (v := 1) C dX5_keep_1 rfl (by decide) ?_
  refine v_put (n := 5) (es' := (wl D b (va_up sc 6 1) ar hn mh G)) C dX5_keep_2 rfl fl_X5_25_X5 (fp_any fp_X5_0) wl_c9 rfl rfl (Nat.le_of_ble_eq_true rfl) wl_p9_0 ?_
  refine v_aload_n (n := 6) C dX5_keep_5 rfl rfl rfl ?_
  refine v_iload_n (n := 7) C dX5_keep_6 rfl rfl rfl ?_
  refine v_put (n := 10) (es' := (wl D b (va_up (va_up sc 6 1) 7 x) ar hn mh G)) C dX5_keep_7 rfl fl_X5_29_X5 (fp_any fp_X5_1) (show (wl D b (va_up sc 6 1) ar hn mh G)[9]? = some (.inr (5, [.int 1, .int (sc 7), .int (sc 8), .int (sc 9), .ref (b + 10), .ref (b + 16), .ref (b + 17)])) from wl_c9) rfl rfl (Nat.le_of_ble_eq_true rfl) wl_p9_1 ?_
  refine v_iconst (n := 11) (v := 0) C dX5_keep_10 rfl (by decide) ?_
  refine v_istore_n (n := 12) (lv' := [(3, .int 0), (0, .ref (b + 9)), (1, .ref (b + 2)), (2, .int x)]) C dX5_keep_11 rfl rfl (Nat.le_of_ble_eq_true rfl) rfl ?_
  refine v_pick (lv' := [(3, .int 0), (0, .ref (b + 9)), (1, .ref (b + 2)), (2, .int x)]) [0, 1, 2, 3] rfl ?_
  have e_1 : (0 : Int32) = (nI 0) := rfl
  refine v_cong (es' := (wl D b (va_up (va_up sc 6 1) 7 x) (va_up (va_up ar 16 (ar 16)) 17 (ar 17)) hn mh G)) (lv' := [(3, .int 0), (0, .ref (b + 9)), (1, .ref (b + 2)), (2, .int x)]) rfl rfl ?_
  have e_2 : ((ar 16) : Nat → Int32) = (kpN hv (ar 16) (ar 17) 0).1 := by first | (rw [kpN]; done) | (rw [kpN]; simp only []; done) | (rw [kpN]; simp only [↓reduceIte]; done) | (rw [kpN]; simp only [↓reduceIte] <;> rfl) | rfl | (rw [kpN]; simp []; done)
  have e_3 : ((ar 17) : Nat → Int32) = (kpN hv (ar 16) (ar 17) 0).2 := by first | (rw [kpN]; done) | (rw [kpN]; simp only []; done) | (rw [kpN]; simp only [↓reduceIte]; done) | (rw [kpN]; simp only [↓reduceIte] <;> rfl) | rfl | (rw [kpN]; simp []; done)
  refine v_cong (es' := (wl D b (va_up (va_up sc 6 1) 7 x) (va_up (va_up ar 16 (kpN hv (ar 16) (ar 17) 0).1) 17 (kpN hv (ar 16) (ar 17) 0).2) hn mh G)) (lv' := [(3, .int (nI 0)), (0, .ref (b + 9)), (1, .ref (b + 2)), (2, .int x)]) (cg2 (fun (y0 : Nat → Int32) (y1 : Nat → Int32) => wl D b (va_up (va_up sc 6 1) 7 x) (va_up (va_up ar 16 y0) 17 y1) hn mh G) e_2 e_3) (cg1 (fun (z0 : Int32) => ([(3, .int z0), (0, .ref (b + 9)), (1, .ref (b + 2)), (2, .int x)] : List (Nat × Value))) e_1) ?_
  refine loop_dn (P := fun i_12 => V p l e { frames := 0, cells := 0, slots := 0, locals := 0 } s m args below meth c D b 5 (MQ below (cQ D b 0 (fun r es' => r = none ∧ wl D b (va_up (va_up sc 6 1) 7 x) (va_up (va_up ar 16 (kpN hv (ar 16) (ar 17) 3).1) 17 (kpN hv (ar 16) (ar 17) 3).2) hn mh G = es')) args s 0 0 (fun q => b ≤ q)) 0 0 (wl D b (va_up (va_up sc 6 1) 7 x) (va_up (va_up ar 16 (kpN hv (ar 16) (ar 17) i_12).1) 17 (kpN hv (ar 16) (ar 17) i_12).2) hn mh G) [(3, .int (nI i_12)), (0, .ref (b + 9)), (1, .ref (b + 2)), (2, .int x)] [] 12) 3 ?_ (fun i_12 hi_12 ih_12 => ?_)
  · skip
    have g_4 : (3 : Int32) ≤ (nI 3) := by decide
    refine v_iload_n (n := 13) C dX5_keep_12 rfl rfl rfl ?_
    refine v_iconst (n := 14) (v := 3) C dX5_keep_13 rfl (by decide) ?_
    refine v_icmp_ge (t := 61) (n := 17) C dX5_keep_14 (by decide) rfl (fun c_5 => ?_) (fun c_5 => ?_)
    · skip
      exact v_vret C dX5_keep_61 rfl ⟨rfl, rfl⟩
    · first | exact absurd c_5 g_4 | exact absurd g_4 c_5 | exact absurd c_5 (Int32.not_le.mpr g_4) | exact absurd c_5 (Int32.not_lt.mpr g_4) | exact absurd (Int32.not_le.mp g_4) c_5 | exact absurd (Int32.not_lt.mp g_4) c_5 | exact absurd (Int32.not_le.mp g_4) (Int32.not_lt.mpr c_5) | exact absurd (Int32.not_lt.mp g_4) (Int32.not_le.mpr c_5) | exact absurd (Int32.not_lt.mp c_5) (Int32.not_le.mpr (Int32.not_le.mp g_4))
  · skip
    have g_6 : ¬ (3 : Int32) ≤ (nI i_12) := nI_ge (a := i_12 + 0) (b := 3) (by omega) (by decide)
    refine v_iload_n (n := 13) C dX5_keep_12 rfl rfl rfl ?_
    refine v_iconst (n := 14) (v := 3) C dX5_keep_13 rfl (by decide) ?_
    refine v_icmp_ge (t := 61) (n := 17) C dX5_keep_14 (by decide) rfl (fun c_7 => ?_) (fun c_7 => ?_)
    · first | exact absurd c_7 g_6 | exact absurd g_6 c_7 | exact absurd c_7 (Int32.not_le.mpr g_6) | exact absurd c_7 (Int32.not_lt.mpr g_6) | exact absurd (Int32.not_le.mp g_6) c_7 | exact absurd (Int32.not_lt.mp g_6) c_7 | exact absurd (Int32.not_le.mp g_6) (Int32.not_lt.mpr c_7) | exact absurd (Int32.not_lt.mp g_6) (Int32.not_le.mpr c_7) | exact absurd (Int32.not_lt.mp c_7) (Int32.not_le.mpr (Int32.not_le.mp g_6))
    · skip
      refine v_iload_n (n := 18) C dX5_keep_17 rfl rfl rfl ?_
      refine v_aload_n (n := 19) C dX5_keep_18 rfl rfl rfl ?_
      refine v_alenQ (n := 20) (v := 3) C dX5_keep_19 rfl wl_c2 rfl ?_
      refine v_icmp_ge (t := 61) (n := 23) C dX5_keep_20 (by decide) rfl (fun c_8 => ?_) (fun c_8 => ?_)
      · first | exact absurd c_8 g_6 | exact absurd g_6 c_8 | exact absurd c_8 (Int32.not_le.mpr g_6) | exact absurd c_8 (Int32.not_lt.mpr g_6) | exact absurd (Int32.not_le.mp g_6) c_8 | exact absurd (Int32.not_lt.mp g_6) c_8 | exact absurd (Int32.not_le.mp g_6) (Int32.not_lt.mpr c_8) | exact absurd (Int32.not_lt.mp g_6) (Int32.not_le.mpr c_8) | exact absurd (Int32.not_lt.mp c_8) (Int32.not_le.mpr (Int32.not_le.mp g_6))
      · skip
        refine v_aload_n (n := 24) C dX5_keep_23 rfl rfl rfl ?_
        refine v_iload_n (n := 25) C dX5_keep_24 rfl rfl rfl ?_
        refine v_aald (n := 26) C dX5_keep_25 rfl wl_c2 (nI_vp hi_12 (by decide) (by decide)) ?_
        refine v_stk (st' := va_rf ((hn i_12).map (fun t => b + t)) :: []) (congrArg (fun z : Nat => va_rf ((hn z).map (fun t => b + t)) :: []) (nI_clamp (show i_12 < 2 ^ 31 by omega))) ?_
        rcases q_9 : hv i_12 with _ | ⟨k9, dr9, ce9, sa9⟩
        · skip
          refine v_stk (st' := .null :: []) (congrArg (fun z : Option Nat => va_rf (z.map (fun t => b + t)) :: []) (hr.1 i_12 q_9)) ?_
          refine v_astoreN (n := 28) (lv' := [(4, .null), (3, .int (nI i_12)), (0, .ref (b + 9)), (1, .ref (b + 2)), (2, .int x)]) C dX5_keep_26 rfl (Nat.le_of_ble_eq_true rfl) rfl ?_
          refine v_aloadN (n := 30) C dX5_keep_28 rfl rfl ?_
          refine v_ifnullN (t := 55) C dX5_keep_30 (by decide) ?_
          refine v_iinc (n := 58) (v := ((nI i_12) + 1)) (lv' := [(3, .int ((nI i_12) + 1)), (4, .null), (0, .ref (b + 9)), (1, .ref (b + 2)), (2, .int x)]) C dX5_keep_55 rfl rfl rfl (Nat.le_of_ble_eq_true rfl) rfl ?_
          refine v_goto (t := 12) C dX5_keep_58 (by decide) ?_
          refine v_pick (lv' := [(3, .int ((nI i_12) + 1)), (0, .ref (b + 9)), (1, .ref (b + 2)), (2, .int x)]) [0, 2, 3, 4] rfl ?_
          have e_10 : ((nI i_12) + 1) = (nI (i_12 + 1)) := nI_1 _
          have e_11 : ((kpN hv (ar 16) (ar 17) i_12).1 : Nat → Int32) = (kpN hv (ar 16) (ar 17) (i_12 + 1)).1 := by first | (rw [kpN]; done) | (rw [kpN]; simp only [if_neg g_6, if_pos (Int32.not_le.mp g_6), if_neg c_7, if_pos (Int32.not_le.mp c_7), if_neg c_8, if_pos (Int32.not_le.mp c_8), q_9]; done) | (rw [kpN]; simp only [eq_false g_6, eq_true (Int32.not_le.mp g_6), eq_false c_7, eq_true (Int32.not_le.mp c_7), eq_false c_8, eq_true (Int32.not_le.mp c_8), q_9, ↓reduceIte]; done) | (rw [kpN]; simp only [eq_false g_6, eq_true (Int32.not_le.mp g_6), eq_false c_7, eq_true (Int32.not_le.mp c_7), eq_false c_8, eq_true (Int32.not_le.mp c_8), q_9, ↓reduceIte] <;> rfl) | rfl | (rw [kpN]; simp [g_6, c_7, c_8, q_9]; done)
          have e_12 : ((kpN hv (ar 16) (ar 17) i_12).2 : Nat → Int32) = (kpN hv (ar 16) (ar 17) (i_12 + 1)).2 := by first | (rw [kpN]; done) | (rw [kpN]; simp only [if_neg g_6, if_pos (Int32.not_le.mp g_6), if_neg c_7, if_pos (Int32.not_le.mp c_7), if_neg c_8, if_pos (Int32.not_le.mp c_8), q_9]; done) | (rw [kpN]; simp only [eq_false g_6, eq_true (Int32.not_le.mp g_6), eq_false c_7, eq_true (Int32.not_le.mp c_7), eq_false c_8, eq_true (Int32.not_le.mp c_8), q_9, ↓reduceIte]; done) | (rw [kpN]; simp only [eq_false g_6, eq_true (Int32.not_le.mp g_6), eq_false c_7, eq_true (Int32.not_le.mp c_7), eq_false c_8, eq_true (Int32.not_le.mp c_8), q_9, ↓reduceIte] <;> rfl) | rfl | (rw [kpN]; simp [g_6, c_7, c_8, q_9]; done)
          refine v_cong (es' := (wl D b (va_up (va_up sc 6 1) 7 x) (va_up (va_up ar 16 (kpN hv (ar 16) (ar 17) (i_12 + 1)).1) 17 (kpN hv (ar 16) (ar 17) (i_12 + 1)).2) hn mh G)) (lv' := [(3, .int (nI (i_12 + 1))), (0, .ref (b + 9)), (1, .ref (b + 2)), (2, .int x)]) (cg2 (fun (y0 : Nat → Int32) (y1 : Nat → Int32) => wl D b (va_up (va_up sc 6 1) 7 x) (va_up (va_up ar 16 y0) 17 y1) hn mh G) e_11 e_12) (cg1 (fun (z0 : Int32) => ([(3, .int z0), (0, .ref (b + 9)), (1, .ref (b + 2)), (2, .int x)] : List (Nat × Value))) e_10) ?_
          exact ih_12
        · obtain ⟨u9, hu9, hk9, hg9⟩ := hr.2.1 i_12 k9 dr9 ce9 sa9 q_9
          refine v_stk (st' := .ref (b + (u9 + 40)) :: []) (congrArg (fun z : Option Nat => va_rf (z.map (fun t => b + t)) :: []) hu9) ?_
          refine v_astore (n := 28) (lv' := [(4, .ref (b + (u9 + 40))), (3, .int (nI i_12)), (0, .ref (b + 9)), (1, .ref (b + 2)), (2, .int x)]) C dX5_keep_26 rfl (Nat.le_of_ble_eq_true rfl) rfl ?_
          refine v_aload (n := 30) C dX5_keep_28 rfl rfl ?_
          refine v_ifnull (n := 33) C dX5_keep_30 rfl ?_
          refine v_aload_n (n := 34) C dX5_keep_33 rfl rfl rfl ?_
          refine v_get (n := 37) C dX5_keep_34 rfl fl_X5_18_X5 (show (wl D b (va_up (va_up sc 6 1) 7 x) (va_up (va_up ar 16 (kpN hv (ar 16) (ar 17) i_12).1) 17 (kpN hv (ar 16) (ar 17) i_12).2) hn mh G)[9]? = some (.inr (5, [.int 1, .int x, .int (sc 8), .int (sc 9), .ref (b + 10), .ref (b + 16), .ref (b + 17)])) from wl_c9) rfl ?_
          refine v_iload_n (n := 38) C dX5_keep_37 rfl rfl rfl ?_
          refine v_aload (n := 40) C dX5_keep_38 rfl rfl ?_
          refine v_get (n := 43) C dX5_keep_40 rfl (flk_X5_33 hk9) (wl_tail hg9) rfl ?_
          refine v_iast (n := 44) (es' := (wl D b (va_up (va_up sc 6 1) 7 x) (va_up (va_up ar 16 (upd (kpN hv (ar 16) (ar 17) i_12).1 i_12 ce9)) 17 (kpN hv (ar 16) (ar 17) i_12).2) hn mh G)) C dX5_keep_43 rfl (show (wl D b (va_up (va_up sc 6 1) 7 x) (va_up (va_up ar 16 (kpN hv (ar 16) (ar 17) i_12).1) 17 (kpN hv (ar 16) (ar 17) i_12).2) hn mh G)[16]? = some (.inl (D.1 13, 3, .inl (kpN hv (ar 16) (ar 17) i_12).1)) from wl_c16) (nI_vp hi_12 (by decide) (by decide)) (by rw [nI_clamp (show i_12 < 2 ^ 31 by omega)]; exact rfl) ?_
          refine v_aload_n (n := 45) C dX5_keep_44 rfl rfl rfl ?_
          refine v_get (n := 48) C dX5_keep_45 rfl fl_X5_22_X5 (show (wl D b (va_up (va_up sc 6 1) 7 x) (va_up (va_up ar 16 (upd (kpN hv (ar 16) (ar 17) i_12).1 i_12 ce9)) 17 (kpN hv (ar 16) (ar 17) i_12).2) hn mh G)[9]? = some (.inr (5, [.int 1, .int x, .int (sc 8), .int (sc 9), .ref (b + 10), .ref (b + 16), .ref (b + 17)])) from wl_c9) rfl ?_
          refine v_iload_n (n := 49) C dX5_keep_48 rfl rfl rfl ?_
          refine v_aload (n := 51) C dX5_keep_49 rfl rfl ?_
          refine v_get (n := 54) C dX5_keep_51 rfl (flk_X5_38 hk9) (wl_tail hg9) rfl ?_
          refine v_iast (n := 55) (es' := (wl D b (va_up (va_up sc 6 1) 7 x) (va_up (va_up ar 16 (upd (kpN hv (ar 16) (ar 17) i_12).1 i_12 ce9)) 17 (upd (kpN hv (ar 16) (ar 17) i_12).2 i_12 sa9)) hn mh G)) C dX5_keep_54 rfl (show (wl D b (va_up (va_up sc 6 1) 7 x) (va_up (va_up ar 16 (upd (kpN hv (ar 16) (ar 17) i_12).1 i_12 ce9)) 17 (kpN hv (ar 16) (ar 17) i_12).2) hn mh G)[17]? = some (.inl (D.1 13, 3, .inl (kpN hv (ar 16) (ar 17) i_12).2)) from wl_c17) (nI_vp hi_12 (by decide) (by decide)) (by rw [nI_clamp (show i_12 < 2 ^ 31 by omega)]; exact rfl) ?_
          refine v_iinc (n := 58) (v := ((nI i_12) + 1)) (lv' := [(3, .int ((nI i_12) + 1)), (4, .ref (b + (u9 + 40))), (0, .ref (b + 9)), (1, .ref (b + 2)), (2, .int x)]) C dX5_keep_55 rfl rfl rfl (Nat.le_of_ble_eq_true rfl) rfl ?_
          refine v_goto (t := 12) C dX5_keep_58 (by decide) ?_
          refine v_pick (lv' := [(3, .int ((nI i_12) + 1)), (0, .ref (b + 9)), (1, .ref (b + 2)), (2, .int x)]) [0, 2, 3, 4] rfl ?_
          have e_13 : ((nI i_12) + 1) = (nI (i_12 + 1)) := nI_1 _
          have e_14 : ((upd (kpN hv (ar 16) (ar 17) i_12).1 i_12 ce9) : Nat → Int32) = (kpN hv (ar 16) (ar 17) (i_12 + 1)).1 := by first | (rw [kpN]; done) | (rw [kpN]; simp only [if_neg g_6, if_pos (Int32.not_le.mp g_6), if_neg c_7, if_pos (Int32.not_le.mp c_7), if_neg c_8, if_pos (Int32.not_le.mp c_8), q_9]; done) | (rw [kpN]; simp only [eq_false g_6, eq_true (Int32.not_le.mp g_6), eq_false c_7, eq_true (Int32.not_le.mp c_7), eq_false c_8, eq_true (Int32.not_le.mp c_8), q_9, ↓reduceIte]; done) | (rw [kpN]; simp only [eq_false g_6, eq_true (Int32.not_le.mp g_6), eq_false c_7, eq_true (Int32.not_le.mp c_7), eq_false c_8, eq_true (Int32.not_le.mp c_8), q_9, ↓reduceIte] <;> rfl) | rfl | (rw [kpN]; simp [g_6, c_7, c_8, q_9]; done)
          have e_15 : ((upd (kpN hv (ar 16) (ar 17) i_12).2 i_12 sa9) : Nat → Int32) = (kpN hv (ar 16) (ar 17) (i_12 + 1)).2 := by first | (rw [kpN]; done) | (rw [kpN]; simp only [if_neg g_6, if_pos (Int32.not_le.mp g_6), if_neg c_7, if_pos (Int32.not_le.mp c_7), if_neg c_8, if_pos (Int32.not_le.mp c_8), q_9]; done) | (rw [kpN]; simp only [eq_false g_6, eq_true (Int32.not_le.mp g_6), eq_false c_7, eq_true (Int32.not_le.mp c_7), eq_false c_8, eq_true (Int32.not_le.mp c_8), q_9, ↓reduceIte]; done) | (rw [kpN]; simp only [eq_false g_6, eq_true (Int32.not_le.mp g_6), eq_false c_7, eq_true (Int32.not_le.mp c_7), eq_false c_8, eq_true (Int32.not_le.mp c_8), q_9, ↓reduceIte] <;> rfl) | rfl | (rw [kpN]; simp [g_6, c_7, c_8, q_9]; done)
          refine v_cong (es' := (wl D b (va_up (va_up sc 6 1) 7 x) (va_up (va_up ar 16 (kpN hv (ar 16) (ar 17) (i_12 + 1)).1) 17 (kpN hv (ar 16) (ar 17) (i_12 + 1)).2) hn mh G)) (lv' := [(3, .int (nI (i_12 + 1))), (0, .ref (b + 9)), (1, .ref (b + 2)), (2, .int x)]) (cg2 (fun (y0 : Nat → Int32) (y1 : Nat → Int32) => wl D b (va_up (va_up sc 6 1) 7 x) (va_up (va_up ar 16 y0) 17 y1) hn mh G) e_14 e_15) (cg1 (fun (z0 : Int32) => ([(3, .int z0), (0, .ref (b + 9)), (1, .ref (b + 2)), (2, .int x)] : List (Nat × Value))) e_13) ?_
          exact ih_12
theorem gb_eq {f g : HV} (h0 : f 0 = g 0) (h1 : f 1 = g 1) (h2 : f 2 = g 2) (h3 : ∀ i, 3 ≤ i → f i = g i) : f = g := by
  funext i
  match i with
  | 0 => exact h0
  | 1 => exact h1
  | 2 => exact h2
  | n + 3 => exact h3 _ (by omega)
theorem nI0 : nI 0 = 0 := rfl
theorem nI1 : nI 1 = 1 := rfl
theorem nI2 : nI 2 = 2 := rfl
set_option maxHeartbeats 4000000 in
set_option maxRecDepth 100000 in
theorem c_giveBack (l : Launch) (D : va_G) (b : Nat) (sc : Nat → Int32) (ar : Nat → Nat → Int32) (hn : Nat → Option Nat) (mh : Int64) (G : List va_E) (hv : HV) (hr : HVr hn G hv) : Con l yX5_giveBack cX5_giveBack 4 none 0 0 D b 0 0 (wl D b sc ar hn mh G) [.ref (b + 9), .ref (b + 2)] (fun r es' => r = none ∧ ∃ hn' G', HVr hn' G' (gbF (sc 7) (ar 16) (ar 17) hv) ∧ wl D b sc ar hn' mh G' = es') := by
  refine con_of (by decide) (Nat.le_of_ble_eq_true rfl) (fun p e s m args below meth c C hsz => ?_)
  have C : vC p s m args meth c cX5_giveBack 4 RX5 "giveBack" none D b := C
  change V p l e _ s m args below meth c D b 4 _ 0 0 (wl D b sc ar hn mh G) [(0, .ref (b + 9)), (1, .ref (b + 2))] [] 0
  refine v_iconst (n := 1) (v := 0) C dX5_giveBack_0 rfl (by decide) ?_
  refine v_istore_n (n := 2) (lv' := [(2, .int 0), (0, .ref (b + 9)), (1, .ref (b + 2))]) C dX5_giveBack_1 rfl rfl (Nat.le_of_ble_eq_true rfl) rfl ?_
  refine v_iload_n (n := 3) C dX5_giveBack_2 rfl rfl rfl ?_
  refine v_iconst (n := 4) (v := 3) C dX5_giveBack_3 rfl (by decide) ?_
  refine v_icmp_ge (t := 62) (n := 7) C dX5_giveBack_4 (by decide) rfl (fun c_1 => ?_) (fun c_1 => ?_)
  · exact absurd c_1 (by decide)
  · skip
    refine v_iload_n (n := 8) C dX5_giveBack_7 rfl rfl rfl ?_
    refine v_aload_n (n := 9) C dX5_giveBack_8 rfl rfl rfl ?_
    refine v_alenQ (n := 10) (v := 3) C dX5_giveBack_9 rfl wl_c2 rfl ?_
    refine v_icmp_ge (t := 62) (n := 13) C dX5_giveBack_10 (by decide) rfl (fun c_2 => ?_) (fun c_2 => ?_)
    · exact absurd c_2 (by decide)
    · skip
      refine v_aload_n (n := 14) C dX5_giveBack_13 rfl rfl rfl ?_
      refine v_iload_n (n := 15) C dX5_giveBack_14 rfl rfl rfl ?_
      refine v_aald (n := 16) C dX5_giveBack_15 rfl wl_c2 (vp_lit (by decide) (by decide)) ?_
      change V p l e _ s m args below meth c D b 4 _ 0 0 (wl D b sc ar hn mh G) [(2, .int 0), (0, .ref (b + 9)), (1, .ref (b + 2))] (va_rf ((hn 0).map (fun t => b + t)) :: []) 16
      rcases q_3 : hv 0 with _ | ⟨k3, dr3, ce3, sa3⟩
      · skip
        refine v_stk (st' := .null :: []) (congrArg (fun z : Option Nat => va_rf (z.map (fun t => b + t)) :: []) (hr.1 0 q_3)) ?_
        refine v_astore_nN (n := 17) (lv' := [(3, .null), (2, .int 0), (0, .ref (b + 9)), (1, .ref (b + 2))]) C dX5_giveBack_16 rfl rfl (Nat.le_of_ble_eq_true rfl) rfl ?_
        refine v_iload_n (n := 18) C dX5_giveBack_17 rfl rfl rfl ?_
        refine v_aload_n (n := 19) C dX5_giveBack_18 rfl rfl rfl ?_
        refine v_get (n := 22) C dX5_giveBack_19 rfl fl_X5_29_X5 wl_c9 rfl ?_
        refine v_icmp_lt (t := 32) (n := 25) C dX5_giveBack_22 (by decide) rfl (fun c_4 => ?_) (fun c_4 => ?_)
        · skip
          refine v_aload_nN (n := 33) C dX5_giveBack_32 rfl rfl rfl ?_
          refine v_ifnullN (t := 56) C dX5_giveBack_33 (by decide) ?_
          refine v_iinc (n := 59) (v := 1) (lv' := [(2, .int 1), (3, .null), (0, .ref (b + 9)), (1, .ref (b + 2))]) C dX5_giveBack_56 rfl rfl rfl (Nat.le_of_ble_eq_true rfl) rfl ?_
          refine v_goto (t := 2) C dX5_giveBack_59 (by decide) ?_
          refine v_iload_n (n := 3) C dX5_giveBack_2 rfl rfl rfl ?_
          refine v_iconst (n := 4) (v := 3) C dX5_giveBack_3 rfl (by decide) ?_
          refine v_icmp_ge (t := 62) (n := 7) C dX5_giveBack_4 (by decide) rfl (fun c_5 => ?_) (fun c_5 => ?_)
          · exact absurd c_5 (by decide)
          · skip
            refine v_iload_n (n := 8) C dX5_giveBack_7 rfl rfl rfl ?_
            refine v_aload_n (n := 9) C dX5_giveBack_8 rfl rfl rfl ?_
            refine v_alenQ (n := 10) (v := 3) C dX5_giveBack_9 rfl wl_c2 rfl ?_
            refine v_icmp_ge (t := 62) (n := 13) C dX5_giveBack_10 (by decide) rfl (fun c_6 => ?_) (fun c_6 => ?_)
            · exact absurd c_6 (by decide)
            · skip
              refine v_aload_n (n := 14) C dX5_giveBack_13 rfl rfl rfl ?_
              refine v_iload_n (n := 15) C dX5_giveBack_14 rfl rfl rfl ?_
              refine v_aald (n := 16) C dX5_giveBack_15 rfl wl_c2 (vp_lit (by decide) (by decide)) ?_
              change V p l e _ s m args below meth c D b 4 _ 0 0 (wl D b sc ar hn mh G) [(2, .int 1), (3, .null), (0, .ref (b + 9)), (1, .ref (b + 2))] (va_rf ((hn 1).map (fun t => b + t)) :: []) 16
              rcases q_7 : hv 1 with _ | ⟨k7, dr7, ce7, sa7⟩
              · skip
                refine v_stk (st' := .null :: []) (congrArg (fun z : Option Nat => va_rf (z.map (fun t => b + t)) :: []) (hr.1 1 q_7)) ?_
                refine v_astore_nN (n := 17) (lv' := [(3, .null), (2, .int 1), (0, .ref (b + 9)), (1, .ref (b + 2))]) C dX5_giveBack_16 rfl rfl (Nat.le_of_ble_eq_true rfl) rfl ?_
                refine v_iload_n (n := 18) C dX5_giveBack_17 rfl rfl rfl ?_
                refine v_aload_n (n := 19) C dX5_giveBack_18 rfl rfl rfl ?_
                refine v_get (n := 22) C dX5_giveBack_19 rfl fl_X5_29_X5 wl_c9 rfl ?_
                refine v_icmp_lt (t := 32) (n := 25) C dX5_giveBack_22 (by decide) rfl (fun c_8 => ?_) (fun c_8 => ?_)
                · skip
                  refine v_aload_nN (n := 33) C dX5_giveBack_32 rfl rfl rfl ?_
                  refine v_ifnullN (t := 56) C dX5_giveBack_33 (by decide) ?_
                  refine v_iinc (n := 59) (v := 2) (lv' := [(2, .int 2), (3, .null), (0, .ref (b + 9)), (1, .ref (b + 2))]) C dX5_giveBack_56 rfl rfl rfl (Nat.le_of_ble_eq_true rfl) rfl ?_
                  refine v_goto (t := 2) C dX5_giveBack_59 (by decide) ?_
                  refine v_iload_n (n := 3) C dX5_giveBack_2 rfl rfl rfl ?_
                  refine v_iconst (n := 4) (v := 3) C dX5_giveBack_3 rfl (by decide) ?_
                  refine v_icmp_ge (t := 62) (n := 7) C dX5_giveBack_4 (by decide) rfl (fun c_9 => ?_) (fun c_9 => ?_)
                  · exact absurd c_9 (by decide)
                  · skip
                    refine v_iload_n (n := 8) C dX5_giveBack_7 rfl rfl rfl ?_
                    refine v_aload_n (n := 9) C dX5_giveBack_8 rfl rfl rfl ?_
                    refine v_alenQ (n := 10) (v := 3) C dX5_giveBack_9 rfl wl_c2 rfl ?_
                    refine v_icmp_ge (t := 62) (n := 13) C dX5_giveBack_10 (by decide) rfl (fun c_10 => ?_) (fun c_10 => ?_)
                    · exact absurd c_10 (by decide)
                    · skip
                      refine v_aload_n (n := 14) C dX5_giveBack_13 rfl rfl rfl ?_
                      refine v_iload_n (n := 15) C dX5_giveBack_14 rfl rfl rfl ?_
                      refine v_aald (n := 16) C dX5_giveBack_15 rfl wl_c2 (vp_lit (by decide) (by decide)) ?_
                      change V p l e _ s m args below meth c D b 4 _ 0 0 (wl D b sc ar hn mh G) [(2, .int 2), (3, .null), (0, .ref (b + 9)), (1, .ref (b + 2))] (va_rf ((hn 2).map (fun t => b + t)) :: []) 16
                      rcases q_11 : hv 2 with _ | ⟨k11, dr11, ce11, sa11⟩
                      · skip
                        refine v_stk (st' := .null :: []) (congrArg (fun z : Option Nat => va_rf (z.map (fun t => b + t)) :: []) (hr.1 2 q_11)) ?_
                        refine v_astore_nN (n := 17) (lv' := [(3, .null), (2, .int 2), (0, .ref (b + 9)), (1, .ref (b + 2))]) C dX5_giveBack_16 rfl rfl (Nat.le_of_ble_eq_true rfl) rfl ?_
                        refine v_iload_n (n := 18) C dX5_giveBack_17 rfl rfl rfl ?_
                        refine v_aload_n (n := 19) C dX5_giveBack_18 rfl rfl rfl ?_
                        refine v_get (n := 22) C dX5_giveBack_19 rfl fl_X5_29_X5 wl_c9 rfl ?_
                        refine v_icmp_lt (t := 32) (n := 25) C dX5_giveBack_22 (by decide) rfl (fun c_12 => ?_) (fun c_12 => ?_)
                        · skip
                          refine v_aload_nN (n := 33) C dX5_giveBack_32 rfl rfl rfl ?_
                          refine v_ifnullN (t := 56) C dX5_giveBack_33 (by decide) ?_
                          refine v_iinc (n := 59) (v := 3) (lv' := [(2, .int 3), (3, .null), (0, .ref (b + 9)), (1, .ref (b + 2))]) C dX5_giveBack_56 rfl rfl rfl (Nat.le_of_ble_eq_true rfl) rfl ?_
                          refine v_goto (t := 2) C dX5_giveBack_59 (by decide) ?_
                          refine v_iload_n (n := 3) C dX5_giveBack_2 rfl rfl rfl ?_
                          refine v_iconst (n := 4) (v := 3) C dX5_giveBack_3 rfl (by decide) ?_
                          refine v_icmp_ge (t := 62) (n := 7) C dX5_giveBack_4 (by decide) rfl (fun c_13 => ?_) (fun c_13 => ?_)
                          · skip
                            exact v_vret C dX5_giveBack_62 rfl ⟨rfl, hn, G, gb_eq (f := hv) (g := gbF (sc 7) (ar 16) (ar 17) hv) (by simp [gbF, va_up, nI0, nI1, nI2, c_1, c_2, q_3, c_4, c_5, c_6, q_7, c_8, c_9, c_10, q_11, c_12, c_13]) (by simp [gbF, va_up, nI0, nI1, nI2, c_1, c_2, q_3, c_4, c_5, c_6, q_7, c_8, c_9, c_10, q_11, c_12, c_13]) (by simp [gbF, va_up, nI0, nI1, nI2, c_1, c_2, q_3, c_4, c_5, c_6, q_7, c_8, c_9, c_10, q_11, c_12, c_13]) (fun i h3 => by simp [gbF, va_up, show ¬ i = 0 by omega, show ¬ i = 1 by omega, show ¬ i = 2 by omega, show ¬ i < 3 by omega]) ▸ hr, rfl⟩
                          · exact absurd c_13 (by decide)
                        · skip
                          refine v_aload_n (n := 26) C dX5_giveBack_25 rfl rfl rfl ?_
                          refine v_iload_n (n := 27) C dX5_giveBack_26 rfl rfl rfl ?_
                          refine v_null (n := 28) C dX5_giveBack_27 rfl ?_
                          refine v_aastN (n := 29) (es' := (wl D b sc ar (va_up hn 2 none) mh G)) C dX5_giveBack_28 rfl wl_c2 (vp_lit (by decide) (by decide)) (wl_h (i := 2) (v := none)) ?_
                          refine v_goto (t := 56) C dX5_giveBack_29 (by decide) ?_
                          refine v_iinc (n := 59) (v := 3) (lv' := [(2, .int 3), (3, .null), (0, .ref (b + 9)), (1, .ref (b + 2))]) C dX5_giveBack_56 rfl rfl rfl (Nat.le_of_ble_eq_true rfl) rfl ?_
                          refine v_goto (t := 2) C dX5_giveBack_59 (by decide) ?_
                          refine v_iload_n (n := 3) C dX5_giveBack_2 rfl rfl rfl ?_
                          refine v_iconst (n := 4) (v := 3) C dX5_giveBack_3 rfl (by decide) ?_
                          refine v_icmp_ge (t := 62) (n := 7) C dX5_giveBack_4 (by decide) rfl (fun c_14 => ?_) (fun c_14 => ?_)
                          · skip
                            exact v_vret C dX5_giveBack_62 rfl ⟨rfl, (va_up hn 2 none), G, gb_eq (f := (va_up hv 2 none)) (g := gbF (sc 7) (ar 16) (ar 17) hv) (by simp [gbF, va_up, nI0, nI1, nI2, c_1, c_2, q_3, c_4, c_5, c_6, q_7, c_8, c_9, c_10, q_11, c_12, c_14]) (by simp [gbF, va_up, nI0, nI1, nI2, c_1, c_2, q_3, c_4, c_5, c_6, q_7, c_8, c_9, c_10, q_11, c_12, c_14]) (by simp [gbF, va_up, nI0, nI1, nI2, c_1, c_2, q_3, c_4, c_5, c_6, q_7, c_8, c_9, c_10, q_11, c_12, c_14]) (fun i h3 => by simp [gbF, va_up, show ¬ i = 0 by omega, show ¬ i = 1 by omega, show ¬ i = 2 by omega, show ¬ i < 3 by omega]) ▸ (HVr_none (i := 2) hr), rfl⟩
                          · exact absurd c_14 (by decide)
                      · obtain ⟨u11, hu11, hk11, hg11⟩ := hr.2.1 2 k11 dr11 ce11 sa11 q_11
                        refine v_stk (st' := .ref (b + (u11 + 40)) :: []) (congrArg (fun z : Option Nat => va_rf (z.map (fun t => b + t)) :: []) hu11) ?_
                        refine v_astore_n (n := 17) (lv' := [(3, .ref (b + (u11 + 40))), (2, .int 2), (0, .ref (b + 9)), (1, .ref (b + 2))]) C dX5_giveBack_16 rfl rfl (Nat.le_of_ble_eq_true rfl) rfl ?_
                        refine v_iload_n (n := 18) C dX5_giveBack_17 rfl rfl rfl ?_
                        refine v_aload_n (n := 19) C dX5_giveBack_18 rfl rfl rfl ?_
                        refine v_get (n := 22) C dX5_giveBack_19 rfl fl_X5_29_X5 wl_c9 rfl ?_
                        refine v_icmp_lt (t := 32) (n := 25) C dX5_giveBack_22 (by decide) rfl (fun c_15 => ?_) (fun c_15 => ?_)
                        · skip
                          refine v_aload_n (n := 33) C dX5_giveBack_32 rfl rfl rfl ?_
                          refine v_ifnull (n := 36) C dX5_giveBack_33 rfl ?_
                          refine v_aload_n (n := 37) C dX5_giveBack_36 rfl rfl rfl ?_
                          refine v_aload_n (n := 38) C dX5_giveBack_37 rfl rfl rfl ?_
                          refine v_get (n := 41) C dX5_giveBack_38 rfl fl_X5_18_X5 wl_c9 rfl ?_
                          refine v_iload_n (n := 42) C dX5_giveBack_41 rfl rfl rfl ?_
                          refine v_iald (n := 43) C dX5_giveBack_42 rfl wl_c16 (vp_lit (by decide) (by decide)) ?_
                          refine v_put (n := 46) (es' := (wl D b sc ar hn mh (List.set G u11 (hcl k11 dr11 ((ar 16) (Int32.toNatClampNeg 2)) sa11)))) C dX5_giveBack_43 rfl (flk_X5_33 hk11) (fp_any (fpk_1 hk11)) (wl_tail hg11) rfl rfl (Nat.le_of_ble_eq_true rfl) wl_t ?_
                          refine v_aload_n (n := 47) C dX5_giveBack_46 rfl rfl rfl ?_
                          refine v_aload_n (n := 48) C dX5_giveBack_47 rfl rfl rfl ?_
                          refine v_get (n := 51) C dX5_giveBack_48 rfl fl_X5_22_X5 wl_c9 rfl ?_
                          refine v_iload_n (n := 52) C dX5_giveBack_51 rfl rfl rfl ?_
                          refine v_iald (n := 53) C dX5_giveBack_52 rfl wl_c17 (vp_lit (by decide) (by decide)) ?_
                          refine v_put (n := 56) (es' := (wl D b sc ar hn mh (List.set G u11 (hcl k11 dr11 ((ar 16) (Int32.toNatClampNeg 2)) ((ar 17) (Int32.toNatClampNeg 2)))))) C dX5_giveBack_53 rfl (flk_X5_38 hk11) (fp_any (fpk_2 hk11)) (wl_tail (gset_self hg11)) rfl rfl (Nat.le_of_ble_eq_true rfl) (wl_t.trans (by rw [List.set_set]; rfl)) ?_
                          refine v_iinc (n := 59) (v := 3) (lv' := [(2, .int 3), (3, .ref (b + (u11 + 40))), (0, .ref (b + 9)), (1, .ref (b + 2))]) C dX5_giveBack_56 rfl rfl rfl (Nat.le_of_ble_eq_true rfl) rfl ?_
                          refine v_goto (t := 2) C dX5_giveBack_59 (by decide) ?_
                          refine v_iload_n (n := 3) C dX5_giveBack_2 rfl rfl rfl ?_
                          refine v_iconst (n := 4) (v := 3) C dX5_giveBack_3 rfl (by decide) ?_
                          refine v_icmp_ge (t := 62) (n := 7) C dX5_giveBack_4 (by decide) rfl (fun c_16 => ?_) (fun c_16 => ?_)
                          · skip
                            exact v_vret C dX5_giveBack_62 rfl ⟨rfl, hn, (List.set G u11 (hcl k11 dr11 ((ar 16) (Int32.toNatClampNeg 2)) ((ar 17) (Int32.toNatClampNeg 2)))), gb_eq (f := (va_up hv 2 (some (k11, dr11, ((ar 16) (Int32.toNatClampNeg 2)), ((ar 17) (Int32.toNatClampNeg 2)))))) (g := gbF (sc 7) (ar 16) (ar 17) hv) (by simp [gbF, va_up, nI0, nI1, nI2, c_1, c_2, q_3, c_4, c_5, c_6, q_7, c_8, c_9, c_10, q_11, c_15, c_16]) (by simp [gbF, va_up, nI0, nI1, nI2, c_1, c_2, q_3, c_4, c_5, c_6, q_7, c_8, c_9, c_10, q_11, c_15, c_16]) (by simp [gbF, va_up, nI0, nI1, nI2, c_1, c_2, q_3, c_4, c_5, c_6, q_7, c_8, c_9, c_10, q_11, c_15, c_16]) (fun i h3 => by simp [gbF, va_up, show ¬ i = 0 by omega, show ¬ i = 1 by omega, show ¬ i = 2 by omega, show ¬ i < 3 by omega]) ▸ (HVr_set (i := 2) (dr := dr11) (ce := ((ar 16) (Int32.toNatClampNeg 2))) (sa := ((ar 17) (Int32.toNatClampNeg 2))) hr hu11 hk11 hg11), rfl⟩
                          · exact absurd c_16 (by decide)
                        · skip
                          refine v_aload_n (n := 26) C dX5_giveBack_25 rfl rfl rfl ?_
                          refine v_iload_n (n := 27) C dX5_giveBack_26 rfl rfl rfl ?_
                          refine v_null (n := 28) C dX5_giveBack_27 rfl ?_
                          refine v_aastN (n := 29) (es' := (wl D b sc ar (va_up hn 2 none) mh G)) C dX5_giveBack_28 rfl wl_c2 (vp_lit (by decide) (by decide)) (wl_h (i := 2) (v := none)) ?_
                          refine v_goto (t := 56) C dX5_giveBack_29 (by decide) ?_
                          refine v_iinc (n := 59) (v := 3) (lv' := [(2, .int 3), (3, .ref (b + (u11 + 40))), (0, .ref (b + 9)), (1, .ref (b + 2))]) C dX5_giveBack_56 rfl rfl rfl (Nat.le_of_ble_eq_true rfl) rfl ?_
                          refine v_goto (t := 2) C dX5_giveBack_59 (by decide) ?_
                          refine v_iload_n (n := 3) C dX5_giveBack_2 rfl rfl rfl ?_
                          refine v_iconst (n := 4) (v := 3) C dX5_giveBack_3 rfl (by decide) ?_
                          refine v_icmp_ge (t := 62) (n := 7) C dX5_giveBack_4 (by decide) rfl (fun c_17 => ?_) (fun c_17 => ?_)
                          · skip
                            exact v_vret C dX5_giveBack_62 rfl ⟨rfl, (va_up hn 2 none), G, gb_eq (f := (va_up hv 2 none)) (g := gbF (sc 7) (ar 16) (ar 17) hv) (by simp [gbF, va_up, nI0, nI1, nI2, c_1, c_2, q_3, c_4, c_5, c_6, q_7, c_8, c_9, c_10, q_11, c_15, c_17]) (by simp [gbF, va_up, nI0, nI1, nI2, c_1, c_2, q_3, c_4, c_5, c_6, q_7, c_8, c_9, c_10, q_11, c_15, c_17]) (by simp [gbF, va_up, nI0, nI1, nI2, c_1, c_2, q_3, c_4, c_5, c_6, q_7, c_8, c_9, c_10, q_11, c_15, c_17]) (fun i h3 => by simp [gbF, va_up, show ¬ i = 0 by omega, show ¬ i = 1 by omega, show ¬ i = 2 by omega, show ¬ i < 3 by omega]) ▸ (HVr_none (i := 2) hr), rfl⟩
                          · exact absurd c_17 (by decide)
                · skip
                  refine v_aload_n (n := 26) C dX5_giveBack_25 rfl rfl rfl ?_
                  refine v_iload_n (n := 27) C dX5_giveBack_26 rfl rfl rfl ?_
                  refine v_null (n := 28) C dX5_giveBack_27 rfl ?_
                  refine v_aastN (n := 29) (es' := (wl D b sc ar (va_up hn 1 none) mh G)) C dX5_giveBack_28 rfl wl_c2 (vp_lit (by decide) (by decide)) (wl_h (i := 1) (v := none)) ?_
                  refine v_goto (t := 56) C dX5_giveBack_29 (by decide) ?_
                  refine v_iinc (n := 59) (v := 2) (lv' := [(2, .int 2), (3, .null), (0, .ref (b + 9)), (1, .ref (b + 2))]) C dX5_giveBack_56 rfl rfl rfl (Nat.le_of_ble_eq_true rfl) rfl ?_
                  refine v_goto (t := 2) C dX5_giveBack_59 (by decide) ?_
                  refine v_iload_n (n := 3) C dX5_giveBack_2 rfl rfl rfl ?_
                  refine v_iconst (n := 4) (v := 3) C dX5_giveBack_3 rfl (by decide) ?_
                  refine v_icmp_ge (t := 62) (n := 7) C dX5_giveBack_4 (by decide) rfl (fun c_18 => ?_) (fun c_18 => ?_)
                  · exact absurd c_18 (by decide)
                  · skip
                    refine v_iload_n (n := 8) C dX5_giveBack_7 rfl rfl rfl ?_
                    refine v_aload_n (n := 9) C dX5_giveBack_8 rfl rfl rfl ?_
                    refine v_alenQ (n := 10) (v := 3) C dX5_giveBack_9 rfl wl_c2 rfl ?_
                    refine v_icmp_ge (t := 62) (n := 13) C dX5_giveBack_10 (by decide) rfl (fun c_19 => ?_) (fun c_19 => ?_)
                    · exact absurd c_19 (by decide)
                    · skip
                      refine v_aload_n (n := 14) C dX5_giveBack_13 rfl rfl rfl ?_
                      refine v_iload_n (n := 15) C dX5_giveBack_14 rfl rfl rfl ?_
                      refine v_aald (n := 16) C dX5_giveBack_15 rfl wl_c2 (vp_lit (by decide) (by decide)) ?_
                      change V p l e _ s m args below meth c D b 4 _ 0 0 (wl D b sc ar (va_up hn 1 none) mh G) [(2, .int 2), (3, .null), (0, .ref (b + 9)), (1, .ref (b + 2))] (va_rf (((va_up hn 1 none) 2).map (fun t => b + t)) :: []) 16
                      rcases q_20 : hv 2 with _ | ⟨k20, dr20, ce20, sa20⟩
                      · skip
                        refine v_stk (st' := .null :: []) (congrArg (fun z : Option Nat => va_rf (z.map (fun t => b + t)) :: []) ((HVr_none (i := 1) hr).1 2 q_20)) ?_
                        refine v_astore_nN (n := 17) (lv' := [(3, .null), (2, .int 2), (0, .ref (b + 9)), (1, .ref (b + 2))]) C dX5_giveBack_16 rfl rfl (Nat.le_of_ble_eq_true rfl) rfl ?_
                        refine v_iload_n (n := 18) C dX5_giveBack_17 rfl rfl rfl ?_
                        refine v_aload_n (n := 19) C dX5_giveBack_18 rfl rfl rfl ?_
                        refine v_get (n := 22) C dX5_giveBack_19 rfl fl_X5_29_X5 wl_c9 rfl ?_
                        refine v_icmp_lt (t := 32) (n := 25) C dX5_giveBack_22 (by decide) rfl (fun c_21 => ?_) (fun c_21 => ?_)
                        · skip
                          refine v_aload_nN (n := 33) C dX5_giveBack_32 rfl rfl rfl ?_
                          refine v_ifnullN (t := 56) C dX5_giveBack_33 (by decide) ?_
                          refine v_iinc (n := 59) (v := 3) (lv' := [(2, .int 3), (3, .null), (0, .ref (b + 9)), (1, .ref (b + 2))]) C dX5_giveBack_56 rfl rfl rfl (Nat.le_of_ble_eq_true rfl) rfl ?_
                          refine v_goto (t := 2) C dX5_giveBack_59 (by decide) ?_
                          refine v_iload_n (n := 3) C dX5_giveBack_2 rfl rfl rfl ?_
                          refine v_iconst (n := 4) (v := 3) C dX5_giveBack_3 rfl (by decide) ?_
                          refine v_icmp_ge (t := 62) (n := 7) C dX5_giveBack_4 (by decide) rfl (fun c_22 => ?_) (fun c_22 => ?_)
                          · skip
                            exact v_vret C dX5_giveBack_62 rfl ⟨rfl, (va_up hn 1 none), G, gb_eq (f := (va_up hv 1 none)) (g := gbF (sc 7) (ar 16) (ar 17) hv) (by simp [gbF, va_up, nI0, nI1, nI2, c_1, c_2, q_3, c_4, c_5, c_6, q_7, c_8, c_18, c_19, q_20, c_21, c_22]) (by simp [gbF, va_up, nI0, nI1, nI2, c_1, c_2, q_3, c_4, c_5, c_6, q_7, c_8, c_18, c_19, q_20, c_21, c_22]) (by simp [gbF, va_up, nI0, nI1, nI2, c_1, c_2, q_3, c_4, c_5, c_6, q_7, c_8, c_18, c_19, q_20, c_21, c_22]) (fun i h3 => by simp [gbF, va_up, show ¬ i = 0 by omega, show ¬ i = 1 by omega, show ¬ i = 2 by omega, show ¬ i < 3 by omega]) ▸ (HVr_none (i := 1) hr), rfl⟩
                          · exact absurd c_22 (by decide)
                        · skip
                          refine v_aload_n (n := 26) C dX5_giveBack_25 rfl rfl rfl ?_
                          refine v_iload_n (n := 27) C dX5_giveBack_26 rfl rfl rfl ?_
                          refine v_null (n := 28) C dX5_giveBack_27 rfl ?_
                          refine v_aastN (n := 29) (es' := (wl D b sc ar (va_up (va_up hn 1 none) 2 none) mh G)) C dX5_giveBack_28 rfl wl_c2 (vp_lit (by decide) (by decide)) (wl_h (i := 2) (v := none)) ?_
                          refine v_goto (t := 56) C dX5_giveBack_29 (by decide) ?_
                          refine v_iinc (n := 59) (v := 3) (lv' := [(2, .int 3), (3, .null), (0, .ref (b + 9)), (1, .ref (b + 2))]) C dX5_giveBack_56 rfl rfl rfl (Nat.le_of_ble_eq_true rfl) rfl ?_
                          refine v_goto (t := 2) C dX5_giveBack_59 (by decide) ?_
                          refine v_iload_n (n := 3) C dX5_giveBack_2 rfl rfl rfl ?_
                          refine v_iconst (n := 4) (v := 3) C dX5_giveBack_3 rfl (by decide) ?_
                          refine v_icmp_ge (t := 62) (n := 7) C dX5_giveBack_4 (by decide) rfl (fun c_23 => ?_) (fun c_23 => ?_)
                          · skip
                            exact v_vret C dX5_giveBack_62 rfl ⟨rfl, (va_up (va_up hn 1 none) 2 none), G, gb_eq (f := (va_up (va_up hv 1 none) 2 none)) (g := gbF (sc 7) (ar 16) (ar 17) hv) (by simp [gbF, va_up, nI0, nI1, nI2, c_1, c_2, q_3, c_4, c_5, c_6, q_7, c_8, c_18, c_19, q_20, c_21, c_23]) (by simp [gbF, va_up, nI0, nI1, nI2, c_1, c_2, q_3, c_4, c_5, c_6, q_7, c_8, c_18, c_19, q_20, c_21, c_23]) (by simp [gbF, va_up, nI0, nI1, nI2, c_1, c_2, q_3, c_4, c_5, c_6, q_7, c_8, c_18, c_19, q_20, c_21, c_23]) (fun i h3 => by simp [gbF, va_up, show ¬ i = 0 by omega, show ¬ i = 1 by omega, show ¬ i = 2 by omega, show ¬ i < 3 by omega]) ▸ (HVr_none (i := 2) (HVr_none (i := 1) hr)), rfl⟩
                          · exact absurd c_23 (by decide)
                      · obtain ⟨u20, hu20, hk20, hg20⟩ := (HVr_none (i := 1) hr).2.1 2 k20 dr20 ce20 sa20 q_20
                        refine v_stk (st' := .ref (b + (u20 + 40)) :: []) (congrArg (fun z : Option Nat => va_rf (z.map (fun t => b + t)) :: []) hu20) ?_
                        refine v_astore_n (n := 17) (lv' := [(3, .ref (b + (u20 + 40))), (2, .int 2), (0, .ref (b + 9)), (1, .ref (b + 2))]) C dX5_giveBack_16 rfl rfl (Nat.le_of_ble_eq_true rfl) rfl ?_
                        refine v_iload_n (n := 18) C dX5_giveBack_17 rfl rfl rfl ?_
                        refine v_aload_n (n := 19) C dX5_giveBack_18 rfl rfl rfl ?_
                        refine v_get (n := 22) C dX5_giveBack_19 rfl fl_X5_29_X5 wl_c9 rfl ?_
                        refine v_icmp_lt (t := 32) (n := 25) C dX5_giveBack_22 (by decide) rfl (fun c_24 => ?_) (fun c_24 => ?_)
                        · skip
                          refine v_aload_n (n := 33) C dX5_giveBack_32 rfl rfl rfl ?_
                          refine v_ifnull (n := 36) C dX5_giveBack_33 rfl ?_
                          refine v_aload_n (n := 37) C dX5_giveBack_36 rfl rfl rfl ?_
                          refine v_aload_n (n := 38) C dX5_giveBack_37 rfl rfl rfl ?_
                          refine v_get (n := 41) C dX5_giveBack_38 rfl fl_X5_18_X5 wl_c9 rfl ?_
                          refine v_iload_n (n := 42) C dX5_giveBack_41 rfl rfl rfl ?_
                          refine v_iald (n := 43) C dX5_giveBack_42 rfl wl_c16 (vp_lit (by decide) (by decide)) ?_
                          refine v_put (n := 46) (es' := (wl D b sc ar (va_up hn 1 none) mh (List.set G u20 (hcl k20 dr20 ((ar 16) (Int32.toNatClampNeg 2)) sa20)))) C dX5_giveBack_43 rfl (flk_X5_33 hk20) (fp_any (fpk_1 hk20)) (wl_tail hg20) rfl rfl (Nat.le_of_ble_eq_true rfl) wl_t ?_
                          refine v_aload_n (n := 47) C dX5_giveBack_46 rfl rfl rfl ?_
                          refine v_aload_n (n := 48) C dX5_giveBack_47 rfl rfl rfl ?_
                          refine v_get (n := 51) C dX5_giveBack_48 rfl fl_X5_22_X5 wl_c9 rfl ?_
                          refine v_iload_n (n := 52) C dX5_giveBack_51 rfl rfl rfl ?_
                          refine v_iald (n := 53) C dX5_giveBack_52 rfl wl_c17 (vp_lit (by decide) (by decide)) ?_
                          refine v_put (n := 56) (es' := (wl D b sc ar (va_up hn 1 none) mh (List.set G u20 (hcl k20 dr20 ((ar 16) (Int32.toNatClampNeg 2)) ((ar 17) (Int32.toNatClampNeg 2)))))) C dX5_giveBack_53 rfl (flk_X5_38 hk20) (fp_any (fpk_2 hk20)) (wl_tail (gset_self hg20)) rfl rfl (Nat.le_of_ble_eq_true rfl) (wl_t.trans (by rw [List.set_set]; rfl)) ?_
                          refine v_iinc (n := 59) (v := 3) (lv' := [(2, .int 3), (3, .ref (b + (u20 + 40))), (0, .ref (b + 9)), (1, .ref (b + 2))]) C dX5_giveBack_56 rfl rfl rfl (Nat.le_of_ble_eq_true rfl) rfl ?_
                          refine v_goto (t := 2) C dX5_giveBack_59 (by decide) ?_
                          refine v_iload_n (n := 3) C dX5_giveBack_2 rfl rfl rfl ?_
                          refine v_iconst (n := 4) (v := 3) C dX5_giveBack_3 rfl (by decide) ?_
                          refine v_icmp_ge (t := 62) (n := 7) C dX5_giveBack_4 (by decide) rfl (fun c_25 => ?_) (fun c_25 => ?_)
                          · skip
                            exact v_vret C dX5_giveBack_62 rfl ⟨rfl, (va_up hn 1 none), (List.set G u20 (hcl k20 dr20 ((ar 16) (Int32.toNatClampNeg 2)) ((ar 17) (Int32.toNatClampNeg 2)))), gb_eq (f := (va_up (va_up hv 1 none) 2 (some (k20, dr20, ((ar 16) (Int32.toNatClampNeg 2)), ((ar 17) (Int32.toNatClampNeg 2)))))) (g := gbF (sc 7) (ar 16) (ar 17) hv) (by simp [gbF, va_up, nI0, nI1, nI2, c_1, c_2, q_3, c_4, c_5, c_6, q_7, c_8, c_18, c_19, q_20, c_24, c_25]) (by simp [gbF, va_up, nI0, nI1, nI2, c_1, c_2, q_3, c_4, c_5, c_6, q_7, c_8, c_18, c_19, q_20, c_24, c_25]) (by simp [gbF, va_up, nI0, nI1, nI2, c_1, c_2, q_3, c_4, c_5, c_6, q_7, c_8, c_18, c_19, q_20, c_24, c_25]) (fun i h3 => by simp [gbF, va_up, show ¬ i = 0 by omega, show ¬ i = 1 by omega, show ¬ i = 2 by omega, show ¬ i < 3 by omega]) ▸ (HVr_set (i := 2) (dr := dr20) (ce := ((ar 16) (Int32.toNatClampNeg 2))) (sa := ((ar 17) (Int32.toNatClampNeg 2))) (HVr_none (i := 1) hr) hu20 hk20 hg20), rfl⟩
                          · exact absurd c_25 (by decide)
                        · skip
                          refine v_aload_n (n := 26) C dX5_giveBack_25 rfl rfl rfl ?_
                          refine v_iload_n (n := 27) C dX5_giveBack_26 rfl rfl rfl ?_
                          refine v_null (n := 28) C dX5_giveBack_27 rfl ?_
                          refine v_aastN (n := 29) (es' := (wl D b sc ar (va_up (va_up hn 1 none) 2 none) mh G)) C dX5_giveBack_28 rfl wl_c2 (vp_lit (by decide) (by decide)) (wl_h (i := 2) (v := none)) ?_
                          refine v_goto (t := 56) C dX5_giveBack_29 (by decide) ?_
                          refine v_iinc (n := 59) (v := 3) (lv' := [(2, .int 3), (3, .ref (b + (u20 + 40))), (0, .ref (b + 9)), (1, .ref (b + 2))]) C dX5_giveBack_56 rfl rfl rfl (Nat.le_of_ble_eq_true rfl) rfl ?_
                          refine v_goto (t := 2) C dX5_giveBack_59 (by decide) ?_
                          refine v_iload_n (n := 3) C dX5_giveBack_2 rfl rfl rfl ?_
                          refine v_iconst (n := 4) (v := 3) C dX5_giveBack_3 rfl (by decide) ?_
                          refine v_icmp_ge (t := 62) (n := 7) C dX5_giveBack_4 (by decide) rfl (fun c_26 => ?_) (fun c_26 => ?_)
                          · skip
                            exact v_vret C dX5_giveBack_62 rfl ⟨rfl, (va_up (va_up hn 1 none) 2 none), G, gb_eq (f := (va_up (va_up hv 1 none) 2 none)) (g := gbF (sc 7) (ar 16) (ar 17) hv) (by simp [gbF, va_up, nI0, nI1, nI2, c_1, c_2, q_3, c_4, c_5, c_6, q_7, c_8, c_18, c_19, q_20, c_24, c_26]) (by simp [gbF, va_up, nI0, nI1, nI2, c_1, c_2, q_3, c_4, c_5, c_6, q_7, c_8, c_18, c_19, q_20, c_24, c_26]) (by simp [gbF, va_up, nI0, nI1, nI2, c_1, c_2, q_3, c_4, c_5, c_6, q_7, c_8, c_18, c_19, q_20, c_24, c_26]) (fun i h3 => by simp [gbF, va_up, show ¬ i = 0 by omega, show ¬ i = 1 by omega, show ¬ i = 2 by omega, show ¬ i < 3 by omega]) ▸ (HVr_none (i := 2) (HVr_none (i := 1) hr)), rfl⟩
                          · exact absurd c_26 (by decide)
              · obtain ⟨u7, hu7, hk7, hg7⟩ := hr.2.1 1 k7 dr7 ce7 sa7 q_7
                refine v_stk (st' := .ref (b + (u7 + 40)) :: []) (congrArg (fun z : Option Nat => va_rf (z.map (fun t => b + t)) :: []) hu7) ?_
                refine v_astore_n (n := 17) (lv' := [(3, .ref (b + (u7 + 40))), (2, .int 1), (0, .ref (b + 9)), (1, .ref (b + 2))]) C dX5_giveBack_16 rfl rfl (Nat.le_of_ble_eq_true rfl) rfl ?_
                refine v_iload_n (n := 18) C dX5_giveBack_17 rfl rfl rfl ?_
                refine v_aload_n (n := 19) C dX5_giveBack_18 rfl rfl rfl ?_
                refine v_get (n := 22) C dX5_giveBack_19 rfl fl_X5_29_X5 wl_c9 rfl ?_
                refine v_icmp_lt (t := 32) (n := 25) C dX5_giveBack_22 (by decide) rfl (fun c_27 => ?_) (fun c_27 => ?_)
                · skip
                  refine v_aload_n (n := 33) C dX5_giveBack_32 rfl rfl rfl ?_
                  refine v_ifnull (n := 36) C dX5_giveBack_33 rfl ?_
                  refine v_aload_n (n := 37) C dX5_giveBack_36 rfl rfl rfl ?_
                  refine v_aload_n (n := 38) C dX5_giveBack_37 rfl rfl rfl ?_
                  refine v_get (n := 41) C dX5_giveBack_38 rfl fl_X5_18_X5 wl_c9 rfl ?_
                  refine v_iload_n (n := 42) C dX5_giveBack_41 rfl rfl rfl ?_
                  refine v_iald (n := 43) C dX5_giveBack_42 rfl wl_c16 (vp_lit (by decide) (by decide)) ?_
                  refine v_put (n := 46) (es' := (wl D b sc ar hn mh (List.set G u7 (hcl k7 dr7 ((ar 16) (Int32.toNatClampNeg 1)) sa7)))) C dX5_giveBack_43 rfl (flk_X5_33 hk7) (fp_any (fpk_1 hk7)) (wl_tail hg7) rfl rfl (Nat.le_of_ble_eq_true rfl) wl_t ?_
                  refine v_aload_n (n := 47) C dX5_giveBack_46 rfl rfl rfl ?_
                  refine v_aload_n (n := 48) C dX5_giveBack_47 rfl rfl rfl ?_
                  refine v_get (n := 51) C dX5_giveBack_48 rfl fl_X5_22_X5 wl_c9 rfl ?_
                  refine v_iload_n (n := 52) C dX5_giveBack_51 rfl rfl rfl ?_
                  refine v_iald (n := 53) C dX5_giveBack_52 rfl wl_c17 (vp_lit (by decide) (by decide)) ?_
                  refine v_put (n := 56) (es' := (wl D b sc ar hn mh (List.set G u7 (hcl k7 dr7 ((ar 16) (Int32.toNatClampNeg 1)) ((ar 17) (Int32.toNatClampNeg 1)))))) C dX5_giveBack_53 rfl (flk_X5_38 hk7) (fp_any (fpk_2 hk7)) (wl_tail (gset_self hg7)) rfl rfl (Nat.le_of_ble_eq_true rfl) (wl_t.trans (by rw [List.set_set]; rfl)) ?_
                  refine v_iinc (n := 59) (v := 2) (lv' := [(2, .int 2), (3, .ref (b + (u7 + 40))), (0, .ref (b + 9)), (1, .ref (b + 2))]) C dX5_giveBack_56 rfl rfl rfl (Nat.le_of_ble_eq_true rfl) rfl ?_
                  refine v_goto (t := 2) C dX5_giveBack_59 (by decide) ?_
                  refine v_iload_n (n := 3) C dX5_giveBack_2 rfl rfl rfl ?_
                  refine v_iconst (n := 4) (v := 3) C dX5_giveBack_3 rfl (by decide) ?_
                  refine v_icmp_ge (t := 62) (n := 7) C dX5_giveBack_4 (by decide) rfl (fun c_28 => ?_) (fun c_28 => ?_)
                  · exact absurd c_28 (by decide)
                  · skip
                    refine v_iload_n (n := 8) C dX5_giveBack_7 rfl rfl rfl ?_
                    refine v_aload_n (n := 9) C dX5_giveBack_8 rfl rfl rfl ?_
                    refine v_alenQ (n := 10) (v := 3) C dX5_giveBack_9 rfl wl_c2 rfl ?_
                    refine v_icmp_ge (t := 62) (n := 13) C dX5_giveBack_10 (by decide) rfl (fun c_29 => ?_) (fun c_29 => ?_)
                    · exact absurd c_29 (by decide)
                    · skip
                      refine v_aload_n (n := 14) C dX5_giveBack_13 rfl rfl rfl ?_
                      refine v_iload_n (n := 15) C dX5_giveBack_14 rfl rfl rfl ?_
                      refine v_aald (n := 16) C dX5_giveBack_15 rfl wl_c2 (vp_lit (by decide) (by decide)) ?_
                      change V p l e _ s m args below meth c D b 4 _ 0 0 (wl D b sc ar hn mh (List.set G u7 (hcl k7 dr7 ((ar 16) (Int32.toNatClampNeg 1)) ((ar 17) (Int32.toNatClampNeg 1))))) [(2, .int 2), (3, .ref (b + (u7 + 40))), (0, .ref (b + 9)), (1, .ref (b + 2))] (va_rf ((hn 2).map (fun t => b + t)) :: []) 16
                      rcases q_30 : hv 2 with _ | ⟨k30, dr30, ce30, sa30⟩
                      · skip
                        refine v_stk (st' := .null :: []) (congrArg (fun z : Option Nat => va_rf (z.map (fun t => b + t)) :: []) ((HVr_set (i := 1) (dr := dr7) (ce := ((ar 16) (Int32.toNatClampNeg 1))) (sa := ((ar 17) (Int32.toNatClampNeg 1))) hr hu7 hk7 hg7).1 2 q_30)) ?_
                        refine v_astore_nN (n := 17) (lv' := [(3, .null), (2, .int 2), (0, .ref (b + 9)), (1, .ref (b + 2))]) C dX5_giveBack_16 rfl rfl (Nat.le_of_ble_eq_true rfl) rfl ?_
                        refine v_iload_n (n := 18) C dX5_giveBack_17 rfl rfl rfl ?_
                        refine v_aload_n (n := 19) C dX5_giveBack_18 rfl rfl rfl ?_
                        refine v_get (n := 22) C dX5_giveBack_19 rfl fl_X5_29_X5 wl_c9 rfl ?_
                        refine v_icmp_lt (t := 32) (n := 25) C dX5_giveBack_22 (by decide) rfl (fun c_31 => ?_) (fun c_31 => ?_)
                        · skip
                          refine v_aload_nN (n := 33) C dX5_giveBack_32 rfl rfl rfl ?_
                          refine v_ifnullN (t := 56) C dX5_giveBack_33 (by decide) ?_
                          refine v_iinc (n := 59) (v := 3) (lv' := [(2, .int 3), (3, .null), (0, .ref (b + 9)), (1, .ref (b + 2))]) C dX5_giveBack_56 rfl rfl rfl (Nat.le_of_ble_eq_true rfl) rfl ?_
                          refine v_goto (t := 2) C dX5_giveBack_59 (by decide) ?_
                          refine v_iload_n (n := 3) C dX5_giveBack_2 rfl rfl rfl ?_
                          refine v_iconst (n := 4) (v := 3) C dX5_giveBack_3 rfl (by decide) ?_
                          refine v_icmp_ge (t := 62) (n := 7) C dX5_giveBack_4 (by decide) rfl (fun c_32 => ?_) (fun c_32 => ?_)
                          · skip
                            exact v_vret C dX5_giveBack_62 rfl ⟨rfl, hn, (List.set G u7 (hcl k7 dr7 ((ar 16) (Int32.toNatClampNeg 1)) ((ar 17) (Int32.toNatClampNeg 1)))), gb_eq (f := (va_up hv 1 (some (k7, dr7, ((ar 16) (Int32.toNatClampNeg 1)), ((ar 17) (Int32.toNatClampNeg 1)))))) (g := gbF (sc 7) (ar 16) (ar 17) hv) (by simp [gbF, va_up, nI0, nI1, nI2, c_1, c_2, q_3, c_4, c_5, c_6, q_7, c_27, c_28, c_29, q_30, c_31, c_32]) (by simp [gbF, va_up, nI0, nI1, nI2, c_1, c_2, q_3, c_4, c_5, c_6, q_7, c_27, c_28, c_29, q_30, c_31, c_32]) (by simp [gbF, va_up, nI0, nI1, nI2, c_1, c_2, q_3, c_4, c_5, c_6, q_7, c_27, c_28, c_29, q_30, c_31, c_32]) (fun i h3 => by simp [gbF, va_up, show ¬ i = 0 by omega, show ¬ i = 1 by omega, show ¬ i = 2 by omega, show ¬ i < 3 by omega]) ▸ (HVr_set (i := 1) (dr := dr7) (ce := ((ar 16) (Int32.toNatClampNeg 1))) (sa := ((ar 17) (Int32.toNatClampNeg 1))) hr hu7 hk7 hg7), rfl⟩
                          · exact absurd c_32 (by decide)
                        · skip
                          refine v_aload_n (n := 26) C dX5_giveBack_25 rfl rfl rfl ?_
                          refine v_iload_n (n := 27) C dX5_giveBack_26 rfl rfl rfl ?_
                          refine v_null (n := 28) C dX5_giveBack_27 rfl ?_
                          refine v_aastN (n := 29) (es' := (wl D b sc ar (va_up hn 2 none) mh (List.set G u7 (hcl k7 dr7 ((ar 16) (Int32.toNatClampNeg 1)) ((ar 17) (Int32.toNatClampNeg 1)))))) C dX5_giveBack_28 rfl wl_c2 (vp_lit (by decide) (by decide)) (wl_h (i := 2) (v := none)) ?_
                          refine v_goto (t := 56) C dX5_giveBack_29 (by decide) ?_
                          refine v_iinc (n := 59) (v := 3) (lv' := [(2, .int 3), (3, .null), (0, .ref (b + 9)), (1, .ref (b + 2))]) C dX5_giveBack_56 rfl rfl rfl (Nat.le_of_ble_eq_true rfl) rfl ?_
                          refine v_goto (t := 2) C dX5_giveBack_59 (by decide) ?_
                          refine v_iload_n (n := 3) C dX5_giveBack_2 rfl rfl rfl ?_
                          refine v_iconst (n := 4) (v := 3) C dX5_giveBack_3 rfl (by decide) ?_
                          refine v_icmp_ge (t := 62) (n := 7) C dX5_giveBack_4 (by decide) rfl (fun c_33 => ?_) (fun c_33 => ?_)
                          · skip
                            exact v_vret C dX5_giveBack_62 rfl ⟨rfl, (va_up hn 2 none), (List.set G u7 (hcl k7 dr7 ((ar 16) (Int32.toNatClampNeg 1)) ((ar 17) (Int32.toNatClampNeg 1)))), gb_eq (f := (va_up (va_up hv 1 (some (k7, dr7, ((ar 16) (Int32.toNatClampNeg 1)), ((ar 17) (Int32.toNatClampNeg 1))))) 2 none)) (g := gbF (sc 7) (ar 16) (ar 17) hv) (by simp [gbF, va_up, nI0, nI1, nI2, c_1, c_2, q_3, c_4, c_5, c_6, q_7, c_27, c_28, c_29, q_30, c_31, c_33]) (by simp [gbF, va_up, nI0, nI1, nI2, c_1, c_2, q_3, c_4, c_5, c_6, q_7, c_27, c_28, c_29, q_30, c_31, c_33]) (by simp [gbF, va_up, nI0, nI1, nI2, c_1, c_2, q_3, c_4, c_5, c_6, q_7, c_27, c_28, c_29, q_30, c_31, c_33]) (fun i h3 => by simp [gbF, va_up, show ¬ i = 0 by omega, show ¬ i = 1 by omega, show ¬ i = 2 by omega, show ¬ i < 3 by omega]) ▸ (HVr_none (i := 2) (HVr_set (i := 1) (dr := dr7) (ce := ((ar 16) (Int32.toNatClampNeg 1))) (sa := ((ar 17) (Int32.toNatClampNeg 1))) hr hu7 hk7 hg7)), rfl⟩
                          · exact absurd c_33 (by decide)
                      · obtain ⟨u30, hu30, hk30, hg30⟩ := (HVr_set (i := 1) (dr := dr7) (ce := ((ar 16) (Int32.toNatClampNeg 1))) (sa := ((ar 17) (Int32.toNatClampNeg 1))) hr hu7 hk7 hg7).2.1 2 k30 dr30 ce30 sa30 q_30
                        refine v_stk (st' := .ref (b + (u30 + 40)) :: []) (congrArg (fun z : Option Nat => va_rf (z.map (fun t => b + t)) :: []) hu30) ?_
                        refine v_astore_n (n := 17) (lv' := [(3, .ref (b + (u30 + 40))), (2, .int 2), (0, .ref (b + 9)), (1, .ref (b + 2))]) C dX5_giveBack_16 rfl rfl (Nat.le_of_ble_eq_true rfl) rfl ?_
                        refine v_iload_n (n := 18) C dX5_giveBack_17 rfl rfl rfl ?_
                        refine v_aload_n (n := 19) C dX5_giveBack_18 rfl rfl rfl ?_
                        refine v_get (n := 22) C dX5_giveBack_19 rfl fl_X5_29_X5 wl_c9 rfl ?_
                        refine v_icmp_lt (t := 32) (n := 25) C dX5_giveBack_22 (by decide) rfl (fun c_34 => ?_) (fun c_34 => ?_)
                        · skip
                          refine v_aload_n (n := 33) C dX5_giveBack_32 rfl rfl rfl ?_
                          refine v_ifnull (n := 36) C dX5_giveBack_33 rfl ?_
                          refine v_aload_n (n := 37) C dX5_giveBack_36 rfl rfl rfl ?_
                          refine v_aload_n (n := 38) C dX5_giveBack_37 rfl rfl rfl ?_
                          refine v_get (n := 41) C dX5_giveBack_38 rfl fl_X5_18_X5 wl_c9 rfl ?_
                          refine v_iload_n (n := 42) C dX5_giveBack_41 rfl rfl rfl ?_
                          refine v_iald (n := 43) C dX5_giveBack_42 rfl wl_c16 (vp_lit (by decide) (by decide)) ?_
                          refine v_put (n := 46) (es' := (wl D b sc ar hn mh (List.set (List.set G u7 (hcl k7 dr7 ((ar 16) (Int32.toNatClampNeg 1)) ((ar 17) (Int32.toNatClampNeg 1)))) u30 (hcl k30 dr30 ((ar 16) (Int32.toNatClampNeg 2)) sa30)))) C dX5_giveBack_43 rfl (flk_X5_33 hk30) (fp_any (fpk_1 hk30)) (wl_tail hg30) rfl rfl (Nat.le_of_ble_eq_true rfl) wl_t ?_
                          refine v_aload_n (n := 47) C dX5_giveBack_46 rfl rfl rfl ?_
                          refine v_aload_n (n := 48) C dX5_giveBack_47 rfl rfl rfl ?_
                          refine v_get (n := 51) C dX5_giveBack_48 rfl fl_X5_22_X5 wl_c9 rfl ?_
                          refine v_iload_n (n := 52) C dX5_giveBack_51 rfl rfl rfl ?_
                          refine v_iald (n := 53) C dX5_giveBack_52 rfl wl_c17 (vp_lit (by decide) (by decide)) ?_
                          refine v_put (n := 56) (es' := (wl D b sc ar hn mh (List.set (List.set G u7 (hcl k7 dr7 ((ar 16) (Int32.toNatClampNeg 1)) ((ar 17) (Int32.toNatClampNeg 1)))) u30 (hcl k30 dr30 ((ar 16) (Int32.toNatClampNeg 2)) ((ar 17) (Int32.toNatClampNeg 2)))))) C dX5_giveBack_53 rfl (flk_X5_38 hk30) (fp_any (fpk_2 hk30)) (wl_tail (gset_self hg30)) rfl rfl (Nat.le_of_ble_eq_true rfl) (wl_t.trans (by rw [List.set_set]; rfl)) ?_
                          refine v_iinc (n := 59) (v := 3) (lv' := [(2, .int 3), (3, .ref (b + (u30 + 40))), (0, .ref (b + 9)), (1, .ref (b + 2))]) C dX5_giveBack_56 rfl rfl rfl (Nat.le_of_ble_eq_true rfl) rfl ?_
                          refine v_goto (t := 2) C dX5_giveBack_59 (by decide) ?_
                          refine v_iload_n (n := 3) C dX5_giveBack_2 rfl rfl rfl ?_
                          refine v_iconst (n := 4) (v := 3) C dX5_giveBack_3 rfl (by decide) ?_
                          refine v_icmp_ge (t := 62) (n := 7) C dX5_giveBack_4 (by decide) rfl (fun c_35 => ?_) (fun c_35 => ?_)
                          · skip
                            exact v_vret C dX5_giveBack_62 rfl ⟨rfl, hn, (List.set (List.set G u7 (hcl k7 dr7 ((ar 16) (Int32.toNatClampNeg 1)) ((ar 17) (Int32.toNatClampNeg 1)))) u30 (hcl k30 dr30 ((ar 16) (Int32.toNatClampNeg 2)) ((ar 17) (Int32.toNatClampNeg 2)))), gb_eq (f := (va_up (va_up hv 1 (some (k7, dr7, ((ar 16) (Int32.toNatClampNeg 1)), ((ar 17) (Int32.toNatClampNeg 1))))) 2 (some (k30, dr30, ((ar 16) (Int32.toNatClampNeg 2)), ((ar 17) (Int32.toNatClampNeg 2)))))) (g := gbF (sc 7) (ar 16) (ar 17) hv) (by simp [gbF, va_up, nI0, nI1, nI2, c_1, c_2, q_3, c_4, c_5, c_6, q_7, c_27, c_28, c_29, q_30, c_34, c_35]) (by simp [gbF, va_up, nI0, nI1, nI2, c_1, c_2, q_3, c_4, c_5, c_6, q_7, c_27, c_28, c_29, q_30, c_34, c_35]) (by simp [gbF, va_up, nI0, nI1, nI2, c_1, c_2, q_3, c_4, c_5, c_6, q_7, c_27, c_28, c_29, q_30, c_34, c_35]) (fun i h3 => by simp [gbF, va_up, show ¬ i = 0 by omega, show ¬ i = 1 by omega, show ¬ i = 2 by omega, show ¬ i < 3 by omega]) ▸ (HVr_set (i := 2) (dr := dr30) (ce := ((ar 16) (Int32.toNatClampNeg 2))) (sa := ((ar 17) (Int32.toNatClampNeg 2))) (HVr_set (i := 1) (dr := dr7) (ce := ((ar 16) (Int32.toNatClampNeg 1))) (sa := ((ar 17) (Int32.toNatClampNeg 1))) hr hu7 hk7 hg7) hu30 hk30 hg30), rfl⟩
                          · exact absurd c_35 (by decide)
                        · skip
                          refine v_aload_n (n := 26) C dX5_giveBack_25 rfl rfl rfl ?_
                          refine v_iload_n (n := 27) C dX5_giveBack_26 rfl rfl rfl ?_
                          refine v_null (n := 28) C dX5_giveBack_27 rfl ?_
                          refine v_aastN (n := 29) (es' := (wl D b sc ar (va_up hn 2 none) mh (List.set G u7 (hcl k7 dr7 ((ar 16) (Int32.toNatClampNeg 1)) ((ar 17) (Int32.toNatClampNeg 1)))))) C dX5_giveBack_28 rfl wl_c2 (vp_lit (by decide) (by decide)) (wl_h (i := 2) (v := none)) ?_
                          refine v_goto (t := 56) C dX5_giveBack_29 (by decide) ?_
                          refine v_iinc (n := 59) (v := 3) (lv' := [(2, .int 3), (3, .ref (b + (u30 + 40))), (0, .ref (b + 9)), (1, .ref (b + 2))]) C dX5_giveBack_56 rfl rfl rfl (Nat.le_of_ble_eq_true rfl) rfl ?_
                          refine v_goto (t := 2) C dX5_giveBack_59 (by decide) ?_
                          refine v_iload_n (n := 3) C dX5_giveBack_2 rfl rfl rfl ?_
                          refine v_iconst (n := 4) (v := 3) C dX5_giveBack_3 rfl (by decide) ?_
                          refine v_icmp_ge (t := 62) (n := 7) C dX5_giveBack_4 (by decide) rfl (fun c_36 => ?_) (fun c_36 => ?_)
                          · skip
                            exact v_vret C dX5_giveBack_62 rfl ⟨rfl, (va_up hn 2 none), (List.set G u7 (hcl k7 dr7 ((ar 16) (Int32.toNatClampNeg 1)) ((ar 17) (Int32.toNatClampNeg 1)))), gb_eq (f := (va_up (va_up hv 1 (some (k7, dr7, ((ar 16) (Int32.toNatClampNeg 1)), ((ar 17) (Int32.toNatClampNeg 1))))) 2 none)) (g := gbF (sc 7) (ar 16) (ar 17) hv) (by simp [gbF, va_up, nI0, nI1, nI2, c_1, c_2, q_3, c_4, c_5, c_6, q_7, c_27, c_28, c_29, q_30, c_34, c_36]) (by simp [gbF, va_up, nI0, nI1, nI2, c_1, c_2, q_3, c_4, c_5, c_6, q_7, c_27, c_28, c_29, q_30, c_34, c_36]) (by simp [gbF, va_up, nI0, nI1, nI2, c_1, c_2, q_3, c_4, c_5, c_6, q_7, c_27, c_28, c_29, q_30, c_34, c_36]) (fun i h3 => by simp [gbF, va_up, show ¬ i = 0 by omega, show ¬ i = 1 by omega, show ¬ i = 2 by omega, show ¬ i < 3 by omega]) ▸ (HVr_none (i := 2) (HVr_set (i := 1) (dr := dr7) (ce := ((ar 16) (Int32.toNatClampNeg 1))) (sa := ((ar 17) (Int32.toNatClampNeg 1))) hr hu7 hk7 hg7)), rfl⟩
                          · exact absurd c_36 (by decide)
                · skip
                  refine v_aload_n (n := 26) C dX5_giveBack_25 rfl rfl rfl ?_
                  refine v_iload_n (n := 27) C dX5_giveBack_26 rfl rfl rfl ?_
                  refine v_null (n := 28) C dX5_giveBack_27 rfl ?_
                  refine v_aastN (n := 29) (es' := (wl D b sc ar (va_up hn 1 none) mh G)) C dX5_giveBack_28 rfl wl_c2 (vp_lit (by decide) (by decide)) (wl_h (i := 1) (v := none)) ?_
                  refine v_goto (t := 56) C dX5_giveBack_29 (by decide) ?_
                  refine v_iinc (n := 59) (v := 2) (lv' := [(2, .int 2), (3, .ref (b + (u7 + 40))), (0, .ref (b + 9)), (1, .ref (b + 2))]) C dX5_giveBack_56 rfl rfl rfl (Nat.le_of_ble_eq_true rfl) rfl ?_
                  refine v_goto (t := 2) C dX5_giveBack_59 (by decide) ?_
                  refine v_iload_n (n := 3) C dX5_giveBack_2 rfl rfl rfl ?_
                  refine v_iconst (n := 4) (v := 3) C dX5_giveBack_3 rfl (by decide) ?_
                  refine v_icmp_ge (t := 62) (n := 7) C dX5_giveBack_4 (by decide) rfl (fun c_37 => ?_) (fun c_37 => ?_)
                  · exact absurd c_37 (by decide)
                  · skip
                    refine v_iload_n (n := 8) C dX5_giveBack_7 rfl rfl rfl ?_
                    refine v_aload_n (n := 9) C dX5_giveBack_8 rfl rfl rfl ?_
                    refine v_alenQ (n := 10) (v := 3) C dX5_giveBack_9 rfl wl_c2 rfl ?_
                    refine v_icmp_ge (t := 62) (n := 13) C dX5_giveBack_10 (by decide) rfl (fun c_38 => ?_) (fun c_38 => ?_)
                    · exact absurd c_38 (by decide)
                    · skip
                      refine v_aload_n (n := 14) C dX5_giveBack_13 rfl rfl rfl ?_
                      refine v_iload_n (n := 15) C dX5_giveBack_14 rfl rfl rfl ?_
                      refine v_aald (n := 16) C dX5_giveBack_15 rfl wl_c2 (vp_lit (by decide) (by decide)) ?_
                      change V p l e _ s m args below meth c D b 4 _ 0 0 (wl D b sc ar (va_up hn 1 none) mh G) [(2, .int 2), (3, .ref (b + (u7 + 40))), (0, .ref (b + 9)), (1, .ref (b + 2))] (va_rf (((va_up hn 1 none) 2).map (fun t => b + t)) :: []) 16
                      rcases q_39 : hv 2 with _ | ⟨k39, dr39, ce39, sa39⟩
                      · skip
                        refine v_stk (st' := .null :: []) (congrArg (fun z : Option Nat => va_rf (z.map (fun t => b + t)) :: []) ((HVr_none (i := 1) hr).1 2 q_39)) ?_
                        refine v_astore_nN (n := 17) (lv' := [(3, .null), (2, .int 2), (0, .ref (b + 9)), (1, .ref (b + 2))]) C dX5_giveBack_16 rfl rfl (Nat.le_of_ble_eq_true rfl) rfl ?_
                        refine v_iload_n (n := 18) C dX5_giveBack_17 rfl rfl rfl ?_
                        refine v_aload_n (n := 19) C dX5_giveBack_18 rfl rfl rfl ?_
                        refine v_get (n := 22) C dX5_giveBack_19 rfl fl_X5_29_X5 wl_c9 rfl ?_
                        refine v_icmp_lt (t := 32) (n := 25) C dX5_giveBack_22 (by decide) rfl (fun c_40 => ?_) (fun c_40 => ?_)
                        · skip
                          refine v_aload_nN (n := 33) C dX5_giveBack_32 rfl rfl rfl ?_
                          refine v_ifnullN (t := 56) C dX5_giveBack_33 (by decide) ?_
                          refine v_iinc (n := 59) (v := 3) (lv' := [(2, .int 3), (3, .null), (0, .ref (b + 9)), (1, .ref (b + 2))]) C dX5_giveBack_56 rfl rfl rfl (Nat.le_of_ble_eq_true rfl) rfl ?_
                          refine v_goto (t := 2) C dX5_giveBack_59 (by decide) ?_
                          refine v_iload_n (n := 3) C dX5_giveBack_2 rfl rfl rfl ?_
                          refine v_iconst (n := 4) (v := 3) C dX5_giveBack_3 rfl (by decide) ?_
                          refine v_icmp_ge (t := 62) (n := 7) C dX5_giveBack_4 (by decide) rfl (fun c_41 => ?_) (fun c_41 => ?_)
                          · skip
                            exact v_vret C dX5_giveBack_62 rfl ⟨rfl, (va_up hn 1 none), G, gb_eq (f := (va_up hv 1 none)) (g := gbF (sc 7) (ar 16) (ar 17) hv) (by simp [gbF, va_up, nI0, nI1, nI2, c_1, c_2, q_3, c_4, c_5, c_6, q_7, c_27, c_37, c_38, q_39, c_40, c_41]) (by simp [gbF, va_up, nI0, nI1, nI2, c_1, c_2, q_3, c_4, c_5, c_6, q_7, c_27, c_37, c_38, q_39, c_40, c_41]) (by simp [gbF, va_up, nI0, nI1, nI2, c_1, c_2, q_3, c_4, c_5, c_6, q_7, c_27, c_37, c_38, q_39, c_40, c_41]) (fun i h3 => by simp [gbF, va_up, show ¬ i = 0 by omega, show ¬ i = 1 by omega, show ¬ i = 2 by omega, show ¬ i < 3 by omega]) ▸ (HVr_none (i := 1) hr), rfl⟩
                          · exact absurd c_41 (by decide)
                        · skip
                          refine v_aload_n (n := 26) C dX5_giveBack_25 rfl rfl rfl ?_
                          refine v_iload_n (n := 27) C dX5_giveBack_26 rfl rfl rfl ?_
                          refine v_null (n := 28) C dX5_giveBack_27 rfl ?_
                          refine v_aastN (n := 29) (es' := (wl D b sc ar (va_up (va_up hn 1 none) 2 none) mh G)) C dX5_giveBack_28 rfl wl_c2 (vp_lit (by decide) (by decide)) (wl_h (i := 2) (v := none)) ?_
                          refine v_goto (t := 56) C dX5_giveBack_29 (by decide) ?_
                          refine v_iinc (n := 59) (v := 3) (lv' := [(2, .int 3), (3, .null), (0, .ref (b + 9)), (1, .ref (b + 2))]) C dX5_giveBack_56 rfl rfl rfl (Nat.le_of_ble_eq_true rfl) rfl ?_
                          refine v_goto (t := 2) C dX5_giveBack_59 (by decide) ?_
                          refine v_iload_n (n := 3) C dX5_giveBack_2 rfl rfl rfl ?_
                          refine v_iconst (n := 4) (v := 3) C dX5_giveBack_3 rfl (by decide) ?_
                          refine v_icmp_ge (t := 62) (n := 7) C dX5_giveBack_4 (by decide) rfl (fun c_42 => ?_) (fun c_42 => ?_)
                          · skip
                            exact v_vret C dX5_giveBack_62 rfl ⟨rfl, (va_up (va_up hn 1 none) 2 none), G, gb_eq (f := (va_up (va_up hv 1 none) 2 none)) (g := gbF (sc 7) (ar 16) (ar 17) hv) (by simp [gbF, va_up, nI0, nI1, nI2, c_1, c_2, q_3, c_4, c_5, c_6, q_7, c_27, c_37, c_38, q_39, c_40, c_42]) (by simp [gbF, va_up, nI0, nI1, nI2, c_1, c_2, q_3, c_4, c_5, c_6, q_7, c_27, c_37, c_38, q_39, c_40, c_42]) (by simp [gbF, va_up, nI0, nI1, nI2, c_1, c_2, q_3, c_4, c_5, c_6, q_7, c_27, c_37, c_38, q_39, c_40, c_42]) (fun i h3 => by simp [gbF, va_up, show ¬ i = 0 by omega, show ¬ i = 1 by omega, show ¬ i = 2 by omega, show ¬ i < 3 by omega]) ▸ (HVr_none (i := 2) (HVr_none (i := 1) hr)), rfl⟩
                          · exact absurd c_42 (by decide)
                      · obtain ⟨u39, hu39, hk39, hg39⟩ := (HVr_none (i := 1) hr).2.1 2 k39 dr39 ce39 sa39 q_39
                        refine v_stk (st' := .ref (b + (u39 + 40)) :: []) (congrArg (fun z : Option Nat => va_rf (z.map (fun t => b + t)) :: []) hu39) ?_
                        refine v_astore_n (n := 17) (lv' := [(3, .ref (b + (u39 + 40))), (2, .int 2), (0, .ref (b + 9)), (1, .ref (b + 2))]) C dX5_giveBack_16 rfl rfl (Nat.le_of_ble_eq_true rfl) rfl ?_
                        refine v_iload_n (n := 18) C dX5_giveBack_17 rfl rfl rfl ?_
                        refine v_aload_n (n := 19) C dX5_giveBack_18 rfl rfl rfl ?_
                        refine v_get (n := 22) C dX5_giveBack_19 rfl fl_X5_29_X5 wl_c9 rfl ?_
                        refine v_icmp_lt (t := 32) (n := 25) C dX5_giveBack_22 (by decide) rfl (fun c_43 => ?_) (fun c_43 => ?_)
                        · skip
                          refine v_aload_n (n := 33) C dX5_giveBack_32 rfl rfl rfl ?_
                          refine v_ifnull (n := 36) C dX5_giveBack_33 rfl ?_
                          refine v_aload_n (n := 37) C dX5_giveBack_36 rfl rfl rfl ?_
                          refine v_aload_n (n := 38) C dX5_giveBack_37 rfl rfl rfl ?_
                          refine v_get (n := 41) C dX5_giveBack_38 rfl fl_X5_18_X5 wl_c9 rfl ?_
                          refine v_iload_n (n := 42) C dX5_giveBack_41 rfl rfl rfl ?_
                          refine v_iald (n := 43) C dX5_giveBack_42 rfl wl_c16 (vp_lit (by decide) (by decide)) ?_
                          refine v_put (n := 46) (es' := (wl D b sc ar (va_up hn 1 none) mh (List.set G u39 (hcl k39 dr39 ((ar 16) (Int32.toNatClampNeg 2)) sa39)))) C dX5_giveBack_43 rfl (flk_X5_33 hk39) (fp_any (fpk_1 hk39)) (wl_tail hg39) rfl rfl (Nat.le_of_ble_eq_true rfl) wl_t ?_
                          refine v_aload_n (n := 47) C dX5_giveBack_46 rfl rfl rfl ?_
                          refine v_aload_n (n := 48) C dX5_giveBack_47 rfl rfl rfl ?_
                          refine v_get (n := 51) C dX5_giveBack_48 rfl fl_X5_22_X5 wl_c9 rfl ?_
                          refine v_iload_n (n := 52) C dX5_giveBack_51 rfl rfl rfl ?_
                          refine v_iald (n := 53) C dX5_giveBack_52 rfl wl_c17 (vp_lit (by decide) (by decide)) ?_
                          refine v_put (n := 56) (es' := (wl D b sc ar (va_up hn 1 none) mh (List.set G u39 (hcl k39 dr39 ((ar 16) (Int32.toNatClampNeg 2)) ((ar 17) (Int32.toNatClampNeg 2)))))) C dX5_giveBack_53 rfl (flk_X5_38 hk39) (fp_any (fpk_2 hk39)) (wl_tail (gset_self hg39)) rfl rfl (Nat.le_of_ble_eq_true rfl) (wl_t.trans (by rw [List.set_set]; rfl)) ?_
                          refine v_iinc (n := 59) (v := 3) (lv' := [(2, .int 3), (3, .ref (b + (u39 + 40))), (0, .ref (b + 9)), (1, .ref (b + 2))]) C dX5_giveBack_56 rfl rfl rfl (Nat.le_of_ble_eq_true rfl) rfl ?_
                          refine v_goto (t := 2) C dX5_giveBack_59 (by decide) ?_
                          refine v_iload_n (n := 3) C dX5_giveBack_2 rfl rfl rfl ?_
                          refine v_iconst (n := 4) (v := 3) C dX5_giveBack_3 rfl (by decide) ?_
                          refine v_icmp_ge (t := 62) (n := 7) C dX5_giveBack_4 (by decide) rfl (fun c_44 => ?_) (fun c_44 => ?_)
                          · skip
                            exact v_vret C dX5_giveBack_62 rfl ⟨rfl, (va_up hn 1 none), (List.set G u39 (hcl k39 dr39 ((ar 16) (Int32.toNatClampNeg 2)) ((ar 17) (Int32.toNatClampNeg 2)))), gb_eq (f := (va_up (va_up hv 1 none) 2 (some (k39, dr39, ((ar 16) (Int32.toNatClampNeg 2)), ((ar 17) (Int32.toNatClampNeg 2)))))) (g := gbF (sc 7) (ar 16) (ar 17) hv) (by simp [gbF, va_up, nI0, nI1, nI2, c_1, c_2, q_3, c_4, c_5, c_6, q_7, c_27, c_37, c_38, q_39, c_43, c_44]) (by simp [gbF, va_up, nI0, nI1, nI2, c_1, c_2, q_3, c_4, c_5, c_6, q_7, c_27, c_37, c_38, q_39, c_43, c_44]) (by simp [gbF, va_up, nI0, nI1, nI2, c_1, c_2, q_3, c_4, c_5, c_6, q_7, c_27, c_37, c_38, q_39, c_43, c_44]) (fun i h3 => by simp [gbF, va_up, show ¬ i = 0 by omega, show ¬ i = 1 by omega, show ¬ i = 2 by omega, show ¬ i < 3 by omega]) ▸ (HVr_set (i := 2) (dr := dr39) (ce := ((ar 16) (Int32.toNatClampNeg 2))) (sa := ((ar 17) (Int32.toNatClampNeg 2))) (HVr_none (i := 1) hr) hu39 hk39 hg39), rfl⟩
                          · exact absurd c_44 (by decide)
                        · skip
                          refine v_aload_n (n := 26) C dX5_giveBack_25 rfl rfl rfl ?_
                          refine v_iload_n (n := 27) C dX5_giveBack_26 rfl rfl rfl ?_
                          refine v_null (n := 28) C dX5_giveBack_27 rfl ?_
                          refine v_aastN (n := 29) (es' := (wl D b sc ar (va_up (va_up hn 1 none) 2 none) mh G)) C dX5_giveBack_28 rfl wl_c2 (vp_lit (by decide) (by decide)) (wl_h (i := 2) (v := none)) ?_
                          refine v_goto (t := 56) C dX5_giveBack_29 (by decide) ?_
                          refine v_iinc (n := 59) (v := 3) (lv' := [(2, .int 3), (3, .ref (b + (u39 + 40))), (0, .ref (b + 9)), (1, .ref (b + 2))]) C dX5_giveBack_56 rfl rfl rfl (Nat.le_of_ble_eq_true rfl) rfl ?_
                          refine v_goto (t := 2) C dX5_giveBack_59 (by decide) ?_
                          refine v_iload_n (n := 3) C dX5_giveBack_2 rfl rfl rfl ?_
                          refine v_iconst (n := 4) (v := 3) C dX5_giveBack_3 rfl (by decide) ?_
                          refine v_icmp_ge (t := 62) (n := 7) C dX5_giveBack_4 (by decide) rfl (fun c_45 => ?_) (fun c_45 => ?_)
                          · skip
                            exact v_vret C dX5_giveBack_62 rfl ⟨rfl, (va_up (va_up hn 1 none) 2 none), G, gb_eq (f := (va_up (va_up hv 1 none) 2 none)) (g := gbF (sc 7) (ar 16) (ar 17) hv) (by simp [gbF, va_up, nI0, nI1, nI2, c_1, c_2, q_3, c_4, c_5, c_6, q_7, c_27, c_37, c_38, q_39, c_43, c_45]) (by simp [gbF, va_up, nI0, nI1, nI2, c_1, c_2, q_3, c_4, c_5, c_6, q_7, c_27, c_37, c_38, q_39, c_43, c_45]) (by simp [gbF, va_up, nI0, nI1, nI2, c_1, c_2, q_3, c_4, c_5, c_6, q_7, c_27, c_37, c_38, q_39, c_43, c_45]) (fun i h3 => by simp [gbF, va_up, show ¬ i = 0 by omega, show ¬ i = 1 by omega, show ¬ i = 2 by omega, show ¬ i < 3 by omega]) ▸ (HVr_none (i := 2) (HVr_none (i := 1) hr)), rfl⟩
                          · exact absurd c_45 (by decide)
        · skip
          refine v_aload_n (n := 26) C dX5_giveBack_25 rfl rfl rfl ?_
          refine v_iload_n (n := 27) C dX5_giveBack_26 rfl rfl rfl ?_
          refine v_null (n := 28) C dX5_giveBack_27 rfl ?_
          refine v_aastN (n := 29) (es' := (wl D b sc ar (va_up hn 0 none) mh G)) C dX5_giveBack_28 rfl wl_c2 (vp_lit (by decide) (by decide)) (wl_h (i := 0) (v := none)) ?_
          refine v_goto (t := 56) C dX5_giveBack_29 (by decide) ?_
          refine v_iinc (n := 59) (v := 1) (lv' := [(2, .int 1), (3, .null), (0, .ref (b + 9)), (1, .ref (b + 2))]) C dX5_giveBack_56 rfl rfl rfl (Nat.le_of_ble_eq_true rfl) rfl ?_
          refine v_goto (t := 2) C dX5_giveBack_59 (by decide) ?_
          refine v_iload_n (n := 3) C dX5_giveBack_2 rfl rfl rfl ?_
          refine v_iconst (n := 4) (v := 3) C dX5_giveBack_3 rfl (by decide) ?_
          refine v_icmp_ge (t := 62) (n := 7) C dX5_giveBack_4 (by decide) rfl (fun c_46 => ?_) (fun c_46 => ?_)
          · exact absurd c_46 (by decide)
          · skip
            refine v_iload_n (n := 8) C dX5_giveBack_7 rfl rfl rfl ?_
            refine v_aload_n (n := 9) C dX5_giveBack_8 rfl rfl rfl ?_
            refine v_alenQ (n := 10) (v := 3) C dX5_giveBack_9 rfl wl_c2 rfl ?_
            refine v_icmp_ge (t := 62) (n := 13) C dX5_giveBack_10 (by decide) rfl (fun c_47 => ?_) (fun c_47 => ?_)
            · exact absurd c_47 (by decide)
            · skip
              refine v_aload_n (n := 14) C dX5_giveBack_13 rfl rfl rfl ?_
              refine v_iload_n (n := 15) C dX5_giveBack_14 rfl rfl rfl ?_
              refine v_aald (n := 16) C dX5_giveBack_15 rfl wl_c2 (vp_lit (by decide) (by decide)) ?_
              change V p l e _ s m args below meth c D b 4 _ 0 0 (wl D b sc ar (va_up hn 0 none) mh G) [(2, .int 1), (3, .null), (0, .ref (b + 9)), (1, .ref (b + 2))] (va_rf (((va_up hn 0 none) 1).map (fun t => b + t)) :: []) 16
              rcases q_48 : hv 1 with _ | ⟨k48, dr48, ce48, sa48⟩
              · skip
                refine v_stk (st' := .null :: []) (congrArg (fun z : Option Nat => va_rf (z.map (fun t => b + t)) :: []) ((HVr_none (i := 0) hr).1 1 q_48)) ?_
                refine v_astore_nN (n := 17) (lv' := [(3, .null), (2, .int 1), (0, .ref (b + 9)), (1, .ref (b + 2))]) C dX5_giveBack_16 rfl rfl (Nat.le_of_ble_eq_true rfl) rfl ?_
                refine v_iload_n (n := 18) C dX5_giveBack_17 rfl rfl rfl ?_
                refine v_aload_n (n := 19) C dX5_giveBack_18 rfl rfl rfl ?_
                refine v_get (n := 22) C dX5_giveBack_19 rfl fl_X5_29_X5 wl_c9 rfl ?_
                refine v_icmp_lt (t := 32) (n := 25) C dX5_giveBack_22 (by decide) rfl (fun c_49 => ?_) (fun c_49 => ?_)
                · skip
                  refine v_aload_nN (n := 33) C dX5_giveBack_32 rfl rfl rfl ?_
                  refine v_ifnullN (t := 56) C dX5_giveBack_33 (by decide) ?_
                  refine v_iinc (n := 59) (v := 2) (lv' := [(2, .int 2), (3, .null), (0, .ref (b + 9)), (1, .ref (b + 2))]) C dX5_giveBack_56 rfl rfl rfl (Nat.le_of_ble_eq_true rfl) rfl ?_
                  refine v_goto (t := 2) C dX5_giveBack_59 (by decide) ?_
                  refine v_iload_n (n := 3) C dX5_giveBack_2 rfl rfl rfl ?_
                  refine v_iconst (n := 4) (v := 3) C dX5_giveBack_3 rfl (by decide) ?_
                  refine v_icmp_ge (t := 62) (n := 7) C dX5_giveBack_4 (by decide) rfl (fun c_50 => ?_) (fun c_50 => ?_)
                  · exact absurd c_50 (by decide)
                  · skip
                    refine v_iload_n (n := 8) C dX5_giveBack_7 rfl rfl rfl ?_
                    refine v_aload_n (n := 9) C dX5_giveBack_8 rfl rfl rfl ?_
                    refine v_alenQ (n := 10) (v := 3) C dX5_giveBack_9 rfl wl_c2 rfl ?_
                    refine v_icmp_ge (t := 62) (n := 13) C dX5_giveBack_10 (by decide) rfl (fun c_51 => ?_) (fun c_51 => ?_)
                    · exact absurd c_51 (by decide)
                    · skip
                      refine v_aload_n (n := 14) C dX5_giveBack_13 rfl rfl rfl ?_
                      refine v_iload_n (n := 15) C dX5_giveBack_14 rfl rfl rfl ?_
                      refine v_aald (n := 16) C dX5_giveBack_15 rfl wl_c2 (vp_lit (by decide) (by decide)) ?_
                      change V p l e _ s m args below meth c D b 4 _ 0 0 (wl D b sc ar (va_up hn 0 none) mh G) [(2, .int 2), (3, .null), (0, .ref (b + 9)), (1, .ref (b + 2))] (va_rf (((va_up hn 0 none) 2).map (fun t => b + t)) :: []) 16
                      rcases q_52 : hv 2 with _ | ⟨k52, dr52, ce52, sa52⟩
                      · skip
                        refine v_stk (st' := .null :: []) (congrArg (fun z : Option Nat => va_rf (z.map (fun t => b + t)) :: []) ((HVr_none (i := 0) hr).1 2 q_52)) ?_
                        refine v_astore_nN (n := 17) (lv' := [(3, .null), (2, .int 2), (0, .ref (b + 9)), (1, .ref (b + 2))]) C dX5_giveBack_16 rfl rfl (Nat.le_of_ble_eq_true rfl) rfl ?_
                        refine v_iload_n (n := 18) C dX5_giveBack_17 rfl rfl rfl ?_
                        refine v_aload_n (n := 19) C dX5_giveBack_18 rfl rfl rfl ?_
                        refine v_get (n := 22) C dX5_giveBack_19 rfl fl_X5_29_X5 wl_c9 rfl ?_
                        refine v_icmp_lt (t := 32) (n := 25) C dX5_giveBack_22 (by decide) rfl (fun c_53 => ?_) (fun c_53 => ?_)
                        · skip
                          refine v_aload_nN (n := 33) C dX5_giveBack_32 rfl rfl rfl ?_
                          refine v_ifnullN (t := 56) C dX5_giveBack_33 (by decide) ?_
                          refine v_iinc (n := 59) (v := 3) (lv' := [(2, .int 3), (3, .null), (0, .ref (b + 9)), (1, .ref (b + 2))]) C dX5_giveBack_56 rfl rfl rfl (Nat.le_of_ble_eq_true rfl) rfl ?_
                          refine v_goto (t := 2) C dX5_giveBack_59 (by decide) ?_
                          refine v_iload_n (n := 3) C dX5_giveBack_2 rfl rfl rfl ?_
                          refine v_iconst (n := 4) (v := 3) C dX5_giveBack_3 rfl (by decide) ?_
                          refine v_icmp_ge (t := 62) (n := 7) C dX5_giveBack_4 (by decide) rfl (fun c_54 => ?_) (fun c_54 => ?_)
                          · skip
                            exact v_vret C dX5_giveBack_62 rfl ⟨rfl, (va_up hn 0 none), G, gb_eq (f := (va_up hv 0 none)) (g := gbF (sc 7) (ar 16) (ar 17) hv) (by simp [gbF, va_up, nI0, nI1, nI2, c_1, c_2, q_3, c_4, c_46, c_47, q_48, c_49, c_50, c_51, q_52, c_53, c_54]) (by simp [gbF, va_up, nI0, nI1, nI2, c_1, c_2, q_3, c_4, c_46, c_47, q_48, c_49, c_50, c_51, q_52, c_53, c_54]) (by simp [gbF, va_up, nI0, nI1, nI2, c_1, c_2, q_3, c_4, c_46, c_47, q_48, c_49, c_50, c_51, q_52, c_53, c_54]) (fun i h3 => by simp [gbF, va_up, show ¬ i = 0 by omega, show ¬ i = 1 by omega, show ¬ i = 2 by omega, show ¬ i < 3 by omega]) ▸ (HVr_none (i := 0) hr), rfl⟩
                          · exact absurd c_54 (by decide)
                        · skip
                          refine v_aload_n (n := 26) C dX5_giveBack_25 rfl rfl rfl ?_
                          refine v_iload_n (n := 27) C dX5_giveBack_26 rfl rfl rfl ?_
                          refine v_null (n := 28) C dX5_giveBack_27 rfl ?_
                          refine v_aastN (n := 29) (es' := (wl D b sc ar (va_up (va_up hn 0 none) 2 none) mh G)) C dX5_giveBack_28 rfl wl_c2 (vp_lit (by decide) (by decide)) (wl_h (i := 2) (v := none)) ?_
                          refine v_goto (t := 56) C dX5_giveBack_29 (by decide) ?_
                          refine v_iinc (n := 59) (v := 3) (lv' := [(2, .int 3), (3, .null), (0, .ref (b + 9)), (1, .ref (b + 2))]) C dX5_giveBack_56 rfl rfl rfl (Nat.le_of_ble_eq_true rfl) rfl ?_
                          refine v_goto (t := 2) C dX5_giveBack_59 (by decide) ?_
                          refine v_iload_n (n := 3) C dX5_giveBack_2 rfl rfl rfl ?_
                          refine v_iconst (n := 4) (v := 3) C dX5_giveBack_3 rfl (by decide) ?_
                          refine v_icmp_ge (t := 62) (n := 7) C dX5_giveBack_4 (by decide) rfl (fun c_55 => ?_) (fun c_55 => ?_)
                          · skip
                            exact v_vret C dX5_giveBack_62 rfl ⟨rfl, (va_up (va_up hn 0 none) 2 none), G, gb_eq (f := (va_up (va_up hv 0 none) 2 none)) (g := gbF (sc 7) (ar 16) (ar 17) hv) (by simp [gbF, va_up, nI0, nI1, nI2, c_1, c_2, q_3, c_4, c_46, c_47, q_48, c_49, c_50, c_51, q_52, c_53, c_55]) (by simp [gbF, va_up, nI0, nI1, nI2, c_1, c_2, q_3, c_4, c_46, c_47, q_48, c_49, c_50, c_51, q_52, c_53, c_55]) (by simp [gbF, va_up, nI0, nI1, nI2, c_1, c_2, q_3, c_4, c_46, c_47, q_48, c_49, c_50, c_51, q_52, c_53, c_55]) (fun i h3 => by simp [gbF, va_up, show ¬ i = 0 by omega, show ¬ i = 1 by omega, show ¬ i = 2 by omega, show ¬ i < 3 by omega]) ▸ (HVr_none (i := 2) (HVr_none (i := 0) hr)), rfl⟩
                          · exact absurd c_55 (by decide)
                      · obtain ⟨u52, hu52, hk52, hg52⟩ := (HVr_none (i := 0) hr).2.1 2 k52 dr52 ce52 sa52 q_52
                        refine v_stk (st' := .ref (b + (u52 + 40)) :: []) (congrArg (fun z : Option Nat => va_rf (z.map (fun t => b + t)) :: []) hu52) ?_
                        refine v_astore_n (n := 17) (lv' := [(3, .ref (b + (u52 + 40))), (2, .int 2), (0, .ref (b + 9)), (1, .ref (b + 2))]) C dX5_giveBack_16 rfl rfl (Nat.le_of_ble_eq_true rfl) rfl ?_
                        refine v_iload_n (n := 18) C dX5_giveBack_17 rfl rfl rfl ?_
                        refine v_aload_n (n := 19) C dX5_giveBack_18 rfl rfl rfl ?_
                        refine v_get (n := 22) C dX5_giveBack_19 rfl fl_X5_29_X5 wl_c9 rfl ?_
                        refine v_icmp_lt (t := 32) (n := 25) C dX5_giveBack_22 (by decide) rfl (fun c_56 => ?_) (fun c_56 => ?_)
                        · skip
                          refine v_aload_n (n := 33) C dX5_giveBack_32 rfl rfl rfl ?_
                          refine v_ifnull (n := 36) C dX5_giveBack_33 rfl ?_
                          refine v_aload_n (n := 37) C dX5_giveBack_36 rfl rfl rfl ?_
                          refine v_aload_n (n := 38) C dX5_giveBack_37 rfl rfl rfl ?_
                          refine v_get (n := 41) C dX5_giveBack_38 rfl fl_X5_18_X5 wl_c9 rfl ?_
                          refine v_iload_n (n := 42) C dX5_giveBack_41 rfl rfl rfl ?_
                          refine v_iald (n := 43) C dX5_giveBack_42 rfl wl_c16 (vp_lit (by decide) (by decide)) ?_
                          refine v_put (n := 46) (es' := (wl D b sc ar (va_up hn 0 none) mh (List.set G u52 (hcl k52 dr52 ((ar 16) (Int32.toNatClampNeg 2)) sa52)))) C dX5_giveBack_43 rfl (flk_X5_33 hk52) (fp_any (fpk_1 hk52)) (wl_tail hg52) rfl rfl (Nat.le_of_ble_eq_true rfl) wl_t ?_
                          refine v_aload_n (n := 47) C dX5_giveBack_46 rfl rfl rfl ?_
                          refine v_aload_n (n := 48) C dX5_giveBack_47 rfl rfl rfl ?_
                          refine v_get (n := 51) C dX5_giveBack_48 rfl fl_X5_22_X5 wl_c9 rfl ?_
                          refine v_iload_n (n := 52) C dX5_giveBack_51 rfl rfl rfl ?_
                          refine v_iald (n := 53) C dX5_giveBack_52 rfl wl_c17 (vp_lit (by decide) (by decide)) ?_
                          refine v_put (n := 56) (es' := (wl D b sc ar (va_up hn 0 none) mh (List.set G u52 (hcl k52 dr52 ((ar 16) (Int32.toNatClampNeg 2)) ((ar 17) (Int32.toNatClampNeg 2)))))) C dX5_giveBack_53 rfl (flk_X5_38 hk52) (fp_any (fpk_2 hk52)) (wl_tail (gset_self hg52)) rfl rfl (Nat.le_of_ble_eq_true rfl) (wl_t.trans (by rw [List.set_set]; rfl)) ?_
                          refine v_iinc (n := 59) (v := 3) (lv' := [(2, .int 3), (3, .ref (b + (u52 + 40))), (0, .ref (b + 9)), (1, .ref (b + 2))]) C dX5_giveBack_56 rfl rfl rfl (Nat.le_of_ble_eq_true rfl) rfl ?_
                          refine v_goto (t := 2) C dX5_giveBack_59 (by decide) ?_
                          refine v_iload_n (n := 3) C dX5_giveBack_2 rfl rfl rfl ?_
                          refine v_iconst (n := 4) (v := 3) C dX5_giveBack_3 rfl (by decide) ?_
                          refine v_icmp_ge (t := 62) (n := 7) C dX5_giveBack_4 (by decide) rfl (fun c_57 => ?_) (fun c_57 => ?_)
                          · skip
                            exact v_vret C dX5_giveBack_62 rfl ⟨rfl, (va_up hn 0 none), (List.set G u52 (hcl k52 dr52 ((ar 16) (Int32.toNatClampNeg 2)) ((ar 17) (Int32.toNatClampNeg 2)))), gb_eq (f := (va_up (va_up hv 0 none) 2 (some (k52, dr52, ((ar 16) (Int32.toNatClampNeg 2)), ((ar 17) (Int32.toNatClampNeg 2)))))) (g := gbF (sc 7) (ar 16) (ar 17) hv) (by simp [gbF, va_up, nI0, nI1, nI2, c_1, c_2, q_3, c_4, c_46, c_47, q_48, c_49, c_50, c_51, q_52, c_56, c_57]) (by simp [gbF, va_up, nI0, nI1, nI2, c_1, c_2, q_3, c_4, c_46, c_47, q_48, c_49, c_50, c_51, q_52, c_56, c_57]) (by simp [gbF, va_up, nI0, nI1, nI2, c_1, c_2, q_3, c_4, c_46, c_47, q_48, c_49, c_50, c_51, q_52, c_56, c_57]) (fun i h3 => by simp [gbF, va_up, show ¬ i = 0 by omega, show ¬ i = 1 by omega, show ¬ i = 2 by omega, show ¬ i < 3 by omega]) ▸ (HVr_set (i := 2) (dr := dr52) (ce := ((ar 16) (Int32.toNatClampNeg 2))) (sa := ((ar 17) (Int32.toNatClampNeg 2))) (HVr_none (i := 0) hr) hu52 hk52 hg52), rfl⟩
                          · exact absurd c_57 (by decide)
                        · skip
                          refine v_aload_n (n := 26) C dX5_giveBack_25 rfl rfl rfl ?_
                          refine v_iload_n (n := 27) C dX5_giveBack_26 rfl rfl rfl ?_
                          refine v_null (n := 28) C dX5_giveBack_27 rfl ?_
                          refine v_aastN (n := 29) (es' := (wl D b sc ar (va_up (va_up hn 0 none) 2 none) mh G)) C dX5_giveBack_28 rfl wl_c2 (vp_lit (by decide) (by decide)) (wl_h (i := 2) (v := none)) ?_
                          refine v_goto (t := 56) C dX5_giveBack_29 (by decide) ?_
                          refine v_iinc (n := 59) (v := 3) (lv' := [(2, .int 3), (3, .ref (b + (u52 + 40))), (0, .ref (b + 9)), (1, .ref (b + 2))]) C dX5_giveBack_56 rfl rfl rfl (Nat.le_of_ble_eq_true rfl) rfl ?_
                          refine v_goto (t := 2) C dX5_giveBack_59 (by decide) ?_
                          refine v_iload_n (n := 3) C dX5_giveBack_2 rfl rfl rfl ?_
                          refine v_iconst (n := 4) (v := 3) C dX5_giveBack_3 rfl (by decide) ?_
                          refine v_icmp_ge (t := 62) (n := 7) C dX5_giveBack_4 (by decide) rfl (fun c_58 => ?_) (fun c_58 => ?_)
                          · skip
                            exact v_vret C dX5_giveBack_62 rfl ⟨rfl, (va_up (va_up hn 0 none) 2 none), G, gb_eq (f := (va_up (va_up hv 0 none) 2 none)) (g := gbF (sc 7) (ar 16) (ar 17) hv) (by simp [gbF, va_up, nI0, nI1, nI2, c_1, c_2, q_3, c_4, c_46, c_47, q_48, c_49, c_50, c_51, q_52, c_56, c_58]) (by simp [gbF, va_up, nI0, nI1, nI2, c_1, c_2, q_3, c_4, c_46, c_47, q_48, c_49, c_50, c_51, q_52, c_56, c_58]) (by simp [gbF, va_up, nI0, nI1, nI2, c_1, c_2, q_3, c_4, c_46, c_47, q_48, c_49, c_50, c_51, q_52, c_56, c_58]) (fun i h3 => by simp [gbF, va_up, show ¬ i = 0 by omega, show ¬ i = 1 by omega, show ¬ i = 2 by omega, show ¬ i < 3 by omega]) ▸ (HVr_none (i := 2) (HVr_none (i := 0) hr)), rfl⟩
                          · exact absurd c_58 (by decide)
                · skip
                  refine v_aload_n (n := 26) C dX5_giveBack_25 rfl rfl rfl ?_
                  refine v_iload_n (n := 27) C dX5_giveBack_26 rfl rfl rfl ?_
                  refine v_null (n := 28) C dX5_giveBack_27 rfl ?_
                  refine v_aastN (n := 29) (es' := (wl D b sc ar (va_up (va_up hn 0 none) 1 none) mh G)) C dX5_giveBack_28 rfl wl_c2 (vp_lit (by decide) (by decide)) (wl_h (i := 1) (v := none)) ?_
                  refine v_goto (t := 56) C dX5_giveBack_29 (by decide) ?_
                  refine v_iinc (n := 59) (v := 2) (lv' := [(2, .int 2), (3, .null), (0, .ref (b + 9)), (1, .ref (b + 2))]) C dX5_giveBack_56 rfl rfl rfl (Nat.le_of_ble_eq_true rfl) rfl ?_
                  refine v_goto (t := 2) C dX5_giveBack_59 (by decide) ?_
                  refine v_iload_n (n := 3) C dX5_giveBack_2 rfl rfl rfl ?_
                  refine v_iconst (n := 4) (v := 3) C dX5_giveBack_3 rfl (by decide) ?_
                  refine v_icmp_ge (t := 62) (n := 7) C dX5_giveBack_4 (by decide) rfl (fun c_59 => ?_) (fun c_59 => ?_)
                  · exact absurd c_59 (by decide)
                  · skip
                    refine v_iload_n (n := 8) C dX5_giveBack_7 rfl rfl rfl ?_
                    refine v_aload_n (n := 9) C dX5_giveBack_8 rfl rfl rfl ?_
                    refine v_alenQ (n := 10) (v := 3) C dX5_giveBack_9 rfl wl_c2 rfl ?_
                    refine v_icmp_ge (t := 62) (n := 13) C dX5_giveBack_10 (by decide) rfl (fun c_60 => ?_) (fun c_60 => ?_)
                    · exact absurd c_60 (by decide)
                    · skip
                      refine v_aload_n (n := 14) C dX5_giveBack_13 rfl rfl rfl ?_
                      refine v_iload_n (n := 15) C dX5_giveBack_14 rfl rfl rfl ?_
                      refine v_aald (n := 16) C dX5_giveBack_15 rfl wl_c2 (vp_lit (by decide) (by decide)) ?_
                      change V p l e _ s m args below meth c D b 4 _ 0 0 (wl D b sc ar (va_up (va_up hn 0 none) 1 none) mh G) [(2, .int 2), (3, .null), (0, .ref (b + 9)), (1, .ref (b + 2))] (va_rf (((va_up (va_up hn 0 none) 1 none) 2).map (fun t => b + t)) :: []) 16
                      rcases q_61 : hv 2 with _ | ⟨k61, dr61, ce61, sa61⟩
                      · skip
                        refine v_stk (st' := .null :: []) (congrArg (fun z : Option Nat => va_rf (z.map (fun t => b + t)) :: []) ((HVr_none (i := 1) (HVr_none (i := 0) hr)).1 2 q_61)) ?_
                        refine v_astore_nN (n := 17) (lv' := [(3, .null), (2, .int 2), (0, .ref (b + 9)), (1, .ref (b + 2))]) C dX5_giveBack_16 rfl rfl (Nat.le_of_ble_eq_true rfl) rfl ?_
                        refine v_iload_n (n := 18) C dX5_giveBack_17 rfl rfl rfl ?_
                        refine v_aload_n (n := 19) C dX5_giveBack_18 rfl rfl rfl ?_
                        refine v_get (n := 22) C dX5_giveBack_19 rfl fl_X5_29_X5 wl_c9 rfl ?_
                        refine v_icmp_lt (t := 32) (n := 25) C dX5_giveBack_22 (by decide) rfl (fun c_62 => ?_) (fun c_62 => ?_)
                        · skip
                          refine v_aload_nN (n := 33) C dX5_giveBack_32 rfl rfl rfl ?_
                          refine v_ifnullN (t := 56) C dX5_giveBack_33 (by decide) ?_
                          refine v_iinc (n := 59) (v := 3) (lv' := [(2, .int 3), (3, .null), (0, .ref (b + 9)), (1, .ref (b + 2))]) C dX5_giveBack_56 rfl rfl rfl (Nat.le_of_ble_eq_true rfl) rfl ?_
                          refine v_goto (t := 2) C dX5_giveBack_59 (by decide) ?_
                          refine v_iload_n (n := 3) C dX5_giveBack_2 rfl rfl rfl ?_
                          refine v_iconst (n := 4) (v := 3) C dX5_giveBack_3 rfl (by decide) ?_
                          refine v_icmp_ge (t := 62) (n := 7) C dX5_giveBack_4 (by decide) rfl (fun c_63 => ?_) (fun c_63 => ?_)
                          · skip
                            exact v_vret C dX5_giveBack_62 rfl ⟨rfl, (va_up (va_up hn 0 none) 1 none), G, gb_eq (f := (va_up (va_up hv 0 none) 1 none)) (g := gbF (sc 7) (ar 16) (ar 17) hv) (by simp [gbF, va_up, nI0, nI1, nI2, c_1, c_2, q_3, c_4, c_46, c_47, q_48, c_49, c_59, c_60, q_61, c_62, c_63]) (by simp [gbF, va_up, nI0, nI1, nI2, c_1, c_2, q_3, c_4, c_46, c_47, q_48, c_49, c_59, c_60, q_61, c_62, c_63]) (by simp [gbF, va_up, nI0, nI1, nI2, c_1, c_2, q_3, c_4, c_46, c_47, q_48, c_49, c_59, c_60, q_61, c_62, c_63]) (fun i h3 => by simp [gbF, va_up, show ¬ i = 0 by omega, show ¬ i = 1 by omega, show ¬ i = 2 by omega, show ¬ i < 3 by omega]) ▸ (HVr_none (i := 1) (HVr_none (i := 0) hr)), rfl⟩
                          · exact absurd c_63 (by decide)
                        · skip
                          refine v_aload_n (n := 26) C dX5_giveBack_25 rfl rfl rfl ?_
                          refine v_iload_n (n := 27) C dX5_giveBack_26 rfl rfl rfl ?_
                          refine v_null (n := 28) C dX5_giveBack_27 rfl ?_
                          refine v_aastN (n := 29) (es' := (wl D b sc ar (va_up (va_up (va_up hn 0 none) 1 none) 2 none) mh G)) C dX5_giveBack_28 rfl wl_c2 (vp_lit (by decide) (by decide)) (wl_h (i := 2) (v := none)) ?_
                          refine v_goto (t := 56) C dX5_giveBack_29 (by decide) ?_
                          refine v_iinc (n := 59) (v := 3) (lv' := [(2, .int 3), (3, .null), (0, .ref (b + 9)), (1, .ref (b + 2))]) C dX5_giveBack_56 rfl rfl rfl (Nat.le_of_ble_eq_true rfl) rfl ?_
                          refine v_goto (t := 2) C dX5_giveBack_59 (by decide) ?_
                          refine v_iload_n (n := 3) C dX5_giveBack_2 rfl rfl rfl ?_
                          refine v_iconst (n := 4) (v := 3) C dX5_giveBack_3 rfl (by decide) ?_
                          refine v_icmp_ge (t := 62) (n := 7) C dX5_giveBack_4 (by decide) rfl (fun c_64 => ?_) (fun c_64 => ?_)
                          · skip
                            exact v_vret C dX5_giveBack_62 rfl ⟨rfl, (va_up (va_up (va_up hn 0 none) 1 none) 2 none), G, gb_eq (f := (va_up (va_up (va_up hv 0 none) 1 none) 2 none)) (g := gbF (sc 7) (ar 16) (ar 17) hv) (by simp [gbF, va_up, nI0, nI1, nI2, c_1, c_2, q_3, c_4, c_46, c_47, q_48, c_49, c_59, c_60, q_61, c_62, c_64]) (by simp [gbF, va_up, nI0, nI1, nI2, c_1, c_2, q_3, c_4, c_46, c_47, q_48, c_49, c_59, c_60, q_61, c_62, c_64]) (by simp [gbF, va_up, nI0, nI1, nI2, c_1, c_2, q_3, c_4, c_46, c_47, q_48, c_49, c_59, c_60, q_61, c_62, c_64]) (fun i h3 => by simp [gbF, va_up, show ¬ i = 0 by omega, show ¬ i = 1 by omega, show ¬ i = 2 by omega, show ¬ i < 3 by omega]) ▸ (HVr_none (i := 2) (HVr_none (i := 1) (HVr_none (i := 0) hr))), rfl⟩
                          · exact absurd c_64 (by decide)
                      · obtain ⟨u61, hu61, hk61, hg61⟩ := (HVr_none (i := 1) (HVr_none (i := 0) hr)).2.1 2 k61 dr61 ce61 sa61 q_61
                        refine v_stk (st' := .ref (b + (u61 + 40)) :: []) (congrArg (fun z : Option Nat => va_rf (z.map (fun t => b + t)) :: []) hu61) ?_
                        refine v_astore_n (n := 17) (lv' := [(3, .ref (b + (u61 + 40))), (2, .int 2), (0, .ref (b + 9)), (1, .ref (b + 2))]) C dX5_giveBack_16 rfl rfl (Nat.le_of_ble_eq_true rfl) rfl ?_
                        refine v_iload_n (n := 18) C dX5_giveBack_17 rfl rfl rfl ?_
                        refine v_aload_n (n := 19) C dX5_giveBack_18 rfl rfl rfl ?_
                        refine v_get (n := 22) C dX5_giveBack_19 rfl fl_X5_29_X5 wl_c9 rfl ?_
                        refine v_icmp_lt (t := 32) (n := 25) C dX5_giveBack_22 (by decide) rfl (fun c_65 => ?_) (fun c_65 => ?_)
                        · skip
                          refine v_aload_n (n := 33) C dX5_giveBack_32 rfl rfl rfl ?_
                          refine v_ifnull (n := 36) C dX5_giveBack_33 rfl ?_
                          refine v_aload_n (n := 37) C dX5_giveBack_36 rfl rfl rfl ?_
                          refine v_aload_n (n := 38) C dX5_giveBack_37 rfl rfl rfl ?_
                          refine v_get (n := 41) C dX5_giveBack_38 rfl fl_X5_18_X5 wl_c9 rfl ?_
                          refine v_iload_n (n := 42) C dX5_giveBack_41 rfl rfl rfl ?_
                          refine v_iald (n := 43) C dX5_giveBack_42 rfl wl_c16 (vp_lit (by decide) (by decide)) ?_
                          refine v_put (n := 46) (es' := (wl D b sc ar (va_up (va_up hn 0 none) 1 none) mh (List.set G u61 (hcl k61 dr61 ((ar 16) (Int32.toNatClampNeg 2)) sa61)))) C dX5_giveBack_43 rfl (flk_X5_33 hk61) (fp_any (fpk_1 hk61)) (wl_tail hg61) rfl rfl (Nat.le_of_ble_eq_true rfl) wl_t ?_
                          refine v_aload_n (n := 47) C dX5_giveBack_46 rfl rfl rfl ?_
                          refine v_aload_n (n := 48) C dX5_giveBack_47 rfl rfl rfl ?_
                          refine v_get (n := 51) C dX5_giveBack_48 rfl fl_X5_22_X5 wl_c9 rfl ?_
                          refine v_iload_n (n := 52) C dX5_giveBack_51 rfl rfl rfl ?_
                          refine v_iald (n := 53) C dX5_giveBack_52 rfl wl_c17 (vp_lit (by decide) (by decide)) ?_
                          refine v_put (n := 56) (es' := (wl D b sc ar (va_up (va_up hn 0 none) 1 none) mh (List.set G u61 (hcl k61 dr61 ((ar 16) (Int32.toNatClampNeg 2)) ((ar 17) (Int32.toNatClampNeg 2)))))) C dX5_giveBack_53 rfl (flk_X5_38 hk61) (fp_any (fpk_2 hk61)) (wl_tail (gset_self hg61)) rfl rfl (Nat.le_of_ble_eq_true rfl) (wl_t.trans (by rw [List.set_set]; rfl)) ?_
                          refine v_iinc (n := 59) (v := 3) (lv' := [(2, .int 3), (3, .ref (b + (u61 + 40))), (0, .ref (b + 9)), (1, .ref (b + 2))]) C dX5_giveBack_56 rfl rfl rfl (Nat.le_of_ble_eq_true rfl) rfl ?_
                          refine v_goto (t := 2) C dX5_giveBack_59 (by decide) ?_
                          refine v_iload_n (n := 3) C dX5_giveBack_2 rfl rfl rfl ?_
                          refine v_iconst (n := 4) (v := 3) C dX5_giveBack_3 rfl (by decide) ?_
                          refine v_icmp_ge (t := 62) (n := 7) C dX5_giveBack_4 (by decide) rfl (fun c_66 => ?_) (fun c_66 => ?_)
                          · skip
                            exact v_vret C dX5_giveBack_62 rfl ⟨rfl, (va_up (va_up hn 0 none) 1 none), (List.set G u61 (hcl k61 dr61 ((ar 16) (Int32.toNatClampNeg 2)) ((ar 17) (Int32.toNatClampNeg 2)))), gb_eq (f := (va_up (va_up (va_up hv 0 none) 1 none) 2 (some (k61, dr61, ((ar 16) (Int32.toNatClampNeg 2)), ((ar 17) (Int32.toNatClampNeg 2)))))) (g := gbF (sc 7) (ar 16) (ar 17) hv) (by simp [gbF, va_up, nI0, nI1, nI2, c_1, c_2, q_3, c_4, c_46, c_47, q_48, c_49, c_59, c_60, q_61, c_65, c_66]) (by simp [gbF, va_up, nI0, nI1, nI2, c_1, c_2, q_3, c_4, c_46, c_47, q_48, c_49, c_59, c_60, q_61, c_65, c_66]) (by simp [gbF, va_up, nI0, nI1, nI2, c_1, c_2, q_3, c_4, c_46, c_47, q_48, c_49, c_59, c_60, q_61, c_65, c_66]) (fun i h3 => by simp [gbF, va_up, show ¬ i = 0 by omega, show ¬ i = 1 by omega, show ¬ i = 2 by omega, show ¬ i < 3 by omega]) ▸ (HVr_set (i := 2) (dr := dr61) (ce := ((ar 16) (Int32.toNatClampNeg 2))) (sa := ((ar 17) (Int32.toNatClampNeg 2))) (HVr_none (i := 1) (HVr_none (i := 0) hr)) hu61 hk61 hg61), rfl⟩
                          · exact absurd c_66 (by decide)
                        · skip
                          refine v_aload_n (n := 26) C dX5_giveBack_25 rfl rfl rfl ?_
                          refine v_iload_n (n := 27) C dX5_giveBack_26 rfl rfl rfl ?_
                          refine v_null (n := 28) C dX5_giveBack_27 rfl ?_
                          refine v_aastN (n := 29) (es' := (wl D b sc ar (va_up (va_up (va_up hn 0 none) 1 none) 2 none) mh G)) C dX5_giveBack_28 rfl wl_c2 (vp_lit (by decide) (by decide)) (wl_h (i := 2) (v := none)) ?_
                          refine v_goto (t := 56) C dX5_giveBack_29 (by decide) ?_
                          refine v_iinc (n := 59) (v := 3) (lv' := [(2, .int 3), (3, .ref (b + (u61 + 40))), (0, .ref (b + 9)), (1, .ref (b + 2))]) C dX5_giveBack_56 rfl rfl rfl (Nat.le_of_ble_eq_true rfl) rfl ?_
                          refine v_goto (t := 2) C dX5_giveBack_59 (by decide) ?_
                          refine v_iload_n (n := 3) C dX5_giveBack_2 rfl rfl rfl ?_
                          refine v_iconst (n := 4) (v := 3) C dX5_giveBack_3 rfl (by decide) ?_
                          refine v_icmp_ge (t := 62) (n := 7) C dX5_giveBack_4 (by decide) rfl (fun c_67 => ?_) (fun c_67 => ?_)
                          · skip
                            exact v_vret C dX5_giveBack_62 rfl ⟨rfl, (va_up (va_up (va_up hn 0 none) 1 none) 2 none), G, gb_eq (f := (va_up (va_up (va_up hv 0 none) 1 none) 2 none)) (g := gbF (sc 7) (ar 16) (ar 17) hv) (by simp [gbF, va_up, nI0, nI1, nI2, c_1, c_2, q_3, c_4, c_46, c_47, q_48, c_49, c_59, c_60, q_61, c_65, c_67]) (by simp [gbF, va_up, nI0, nI1, nI2, c_1, c_2, q_3, c_4, c_46, c_47, q_48, c_49, c_59, c_60, q_61, c_65, c_67]) (by simp [gbF, va_up, nI0, nI1, nI2, c_1, c_2, q_3, c_4, c_46, c_47, q_48, c_49, c_59, c_60, q_61, c_65, c_67]) (fun i h3 => by simp [gbF, va_up, show ¬ i = 0 by omega, show ¬ i = 1 by omega, show ¬ i = 2 by omega, show ¬ i < 3 by omega]) ▸ (HVr_none (i := 2) (HVr_none (i := 1) (HVr_none (i := 0) hr))), rfl⟩
                          · exact absurd c_67 (by decide)
              · obtain ⟨u48, hu48, hk48, hg48⟩ := (HVr_none (i := 0) hr).2.1 1 k48 dr48 ce48 sa48 q_48
                refine v_stk (st' := .ref (b + (u48 + 40)) :: []) (congrArg (fun z : Option Nat => va_rf (z.map (fun t => b + t)) :: []) hu48) ?_
                refine v_astore_n (n := 17) (lv' := [(3, .ref (b + (u48 + 40))), (2, .int 1), (0, .ref (b + 9)), (1, .ref (b + 2))]) C dX5_giveBack_16 rfl rfl (Nat.le_of_ble_eq_true rfl) rfl ?_
                refine v_iload_n (n := 18) C dX5_giveBack_17 rfl rfl rfl ?_
                refine v_aload_n (n := 19) C dX5_giveBack_18 rfl rfl rfl ?_
                refine v_get (n := 22) C dX5_giveBack_19 rfl fl_X5_29_X5 wl_c9 rfl ?_
                refine v_icmp_lt (t := 32) (n := 25) C dX5_giveBack_22 (by decide) rfl (fun c_68 => ?_) (fun c_68 => ?_)
                · skip
                  refine v_aload_n (n := 33) C dX5_giveBack_32 rfl rfl rfl ?_
                  refine v_ifnull (n := 36) C dX5_giveBack_33 rfl ?_
                  refine v_aload_n (n := 37) C dX5_giveBack_36 rfl rfl rfl ?_
                  refine v_aload_n (n := 38) C dX5_giveBack_37 rfl rfl rfl ?_
                  refine v_get (n := 41) C dX5_giveBack_38 rfl fl_X5_18_X5 wl_c9 rfl ?_
                  refine v_iload_n (n := 42) C dX5_giveBack_41 rfl rfl rfl ?_
                  refine v_iald (n := 43) C dX5_giveBack_42 rfl wl_c16 (vp_lit (by decide) (by decide)) ?_
                  refine v_put (n := 46) (es' := (wl D b sc ar (va_up hn 0 none) mh (List.set G u48 (hcl k48 dr48 ((ar 16) (Int32.toNatClampNeg 1)) sa48)))) C dX5_giveBack_43 rfl (flk_X5_33 hk48) (fp_any (fpk_1 hk48)) (wl_tail hg48) rfl rfl (Nat.le_of_ble_eq_true rfl) wl_t ?_
                  refine v_aload_n (n := 47) C dX5_giveBack_46 rfl rfl rfl ?_
                  refine v_aload_n (n := 48) C dX5_giveBack_47 rfl rfl rfl ?_
                  refine v_get (n := 51) C dX5_giveBack_48 rfl fl_X5_22_X5 wl_c9 rfl ?_
                  refine v_iload_n (n := 52) C dX5_giveBack_51 rfl rfl rfl ?_
                  refine v_iald (n := 53) C dX5_giveBack_52 rfl wl_c17 (vp_lit (by decide) (by decide)) ?_
                  refine v_put (n := 56) (es' := (wl D b sc ar (va_up hn 0 none) mh (List.set G u48 (hcl k48 dr48 ((ar 16) (Int32.toNatClampNeg 1)) ((ar 17) (Int32.toNatClampNeg 1)))))) C dX5_giveBack_53 rfl (flk_X5_38 hk48) (fp_any (fpk_2 hk48)) (wl_tail (gset_self hg48)) rfl rfl (Nat.le_of_ble_eq_true rfl) (wl_t.trans (by rw [List.set_set]; rfl)) ?_
                  refine v_iinc (n := 59) (v := 2) (lv' := [(2, .int 2), (3, .ref (b + (u48 + 40))), (0, .ref (b + 9)), (1, .ref (b + 2))]) C dX5_giveBack_56 rfl rfl rfl (Nat.le_of_ble_eq_true rfl) rfl ?_
                  refine v_goto (t := 2) C dX5_giveBack_59 (by decide) ?_
                  refine v_iload_n (n := 3) C dX5_giveBack_2 rfl rfl rfl ?_
                  refine v_iconst (n := 4) (v := 3) C dX5_giveBack_3 rfl (by decide) ?_
                  refine v_icmp_ge (t := 62) (n := 7) C dX5_giveBack_4 (by decide) rfl (fun c_69 => ?_) (fun c_69 => ?_)
                  · exact absurd c_69 (by decide)
                  · skip
                    refine v_iload_n (n := 8) C dX5_giveBack_7 rfl rfl rfl ?_
                    refine v_aload_n (n := 9) C dX5_giveBack_8 rfl rfl rfl ?_
                    refine v_alenQ (n := 10) (v := 3) C dX5_giveBack_9 rfl wl_c2 rfl ?_
                    refine v_icmp_ge (t := 62) (n := 13) C dX5_giveBack_10 (by decide) rfl (fun c_70 => ?_) (fun c_70 => ?_)
                    · exact absurd c_70 (by decide)
                    · skip
                      refine v_aload_n (n := 14) C dX5_giveBack_13 rfl rfl rfl ?_
                      refine v_iload_n (n := 15) C dX5_giveBack_14 rfl rfl rfl ?_
                      refine v_aald (n := 16) C dX5_giveBack_15 rfl wl_c2 (vp_lit (by decide) (by decide)) ?_
                      change V p l e _ s m args below meth c D b 4 _ 0 0 (wl D b sc ar (va_up hn 0 none) mh (List.set G u48 (hcl k48 dr48 ((ar 16) (Int32.toNatClampNeg 1)) ((ar 17) (Int32.toNatClampNeg 1))))) [(2, .int 2), (3, .ref (b + (u48 + 40))), (0, .ref (b + 9)), (1, .ref (b + 2))] (va_rf (((va_up hn 0 none) 2).map (fun t => b + t)) :: []) 16
                      rcases q_71 : hv 2 with _ | ⟨k71, dr71, ce71, sa71⟩
                      · skip
                        refine v_stk (st' := .null :: []) (congrArg (fun z : Option Nat => va_rf (z.map (fun t => b + t)) :: []) ((HVr_set (i := 1) (dr := dr48) (ce := ((ar 16) (Int32.toNatClampNeg 1))) (sa := ((ar 17) (Int32.toNatClampNeg 1))) (HVr_none (i := 0) hr) hu48 hk48 hg48).1 2 q_71)) ?_
                        refine v_astore_nN (n := 17) (lv' := [(3, .null), (2, .int 2), (0, .ref (b + 9)), (1, .ref (b + 2))]) C dX5_giveBack_16 rfl rfl (Nat.le_of_ble_eq_true rfl) rfl ?_
                        refine v_iload_n (n := 18) C dX5_giveBack_17 rfl rfl rfl ?_
                        refine v_aload_n (n := 19) C dX5_giveBack_18 rfl rfl rfl ?_
                        refine v_get (n := 22) C dX5_giveBack_19 rfl fl_X5_29_X5 wl_c9 rfl ?_
                        refine v_icmp_lt (t := 32) (n := 25) C dX5_giveBack_22 (by decide) rfl (fun c_72 => ?_) (fun c_72 => ?_)
                        · skip
                          refine v_aload_nN (n := 33) C dX5_giveBack_32 rfl rfl rfl ?_
                          refine v_ifnullN (t := 56) C dX5_giveBack_33 (by decide) ?_
                          refine v_iinc (n := 59) (v := 3) (lv' := [(2, .int 3), (3, .null), (0, .ref (b + 9)), (1, .ref (b + 2))]) C dX5_giveBack_56 rfl rfl rfl (Nat.le_of_ble_eq_true rfl) rfl ?_
                          refine v_goto (t := 2) C dX5_giveBack_59 (by decide) ?_
                          refine v_iload_n (n := 3) C dX5_giveBack_2 rfl rfl rfl ?_
                          refine v_iconst (n := 4) (v := 3) C dX5_giveBack_3 rfl (by decide) ?_
                          refine v_icmp_ge (t := 62) (n := 7) C dX5_giveBack_4 (by decide) rfl (fun c_73 => ?_) (fun c_73 => ?_)
                          · skip
                            exact v_vret C dX5_giveBack_62 rfl ⟨rfl, (va_up hn 0 none), (List.set G u48 (hcl k48 dr48 ((ar 16) (Int32.toNatClampNeg 1)) ((ar 17) (Int32.toNatClampNeg 1)))), gb_eq (f := (va_up (va_up hv 0 none) 1 (some (k48, dr48, ((ar 16) (Int32.toNatClampNeg 1)), ((ar 17) (Int32.toNatClampNeg 1)))))) (g := gbF (sc 7) (ar 16) (ar 17) hv) (by simp [gbF, va_up, nI0, nI1, nI2, c_1, c_2, q_3, c_4, c_46, c_47, q_48, c_68, c_69, c_70, q_71, c_72, c_73]) (by simp [gbF, va_up, nI0, nI1, nI2, c_1, c_2, q_3, c_4, c_46, c_47, q_48, c_68, c_69, c_70, q_71, c_72, c_73]) (by simp [gbF, va_up, nI0, nI1, nI2, c_1, c_2, q_3, c_4, c_46, c_47, q_48, c_68, c_69, c_70, q_71, c_72, c_73]) (fun i h3 => by simp [gbF, va_up, show ¬ i = 0 by omega, show ¬ i = 1 by omega, show ¬ i = 2 by omega, show ¬ i < 3 by omega]) ▸ (HVr_set (i := 1) (dr := dr48) (ce := ((ar 16) (Int32.toNatClampNeg 1))) (sa := ((ar 17) (Int32.toNatClampNeg 1))) (HVr_none (i := 0) hr) hu48 hk48 hg48), rfl⟩
                          · exact absurd c_73 (by decide)
                        · skip
                          refine v_aload_n (n := 26) C dX5_giveBack_25 rfl rfl rfl ?_
                          refine v_iload_n (n := 27) C dX5_giveBack_26 rfl rfl rfl ?_
                          refine v_null (n := 28) C dX5_giveBack_27 rfl ?_
                          refine v_aastN (n := 29) (es' := (wl D b sc ar (va_up (va_up hn 0 none) 2 none) mh (List.set G u48 (hcl k48 dr48 ((ar 16) (Int32.toNatClampNeg 1)) ((ar 17) (Int32.toNatClampNeg 1)))))) C dX5_giveBack_28 rfl wl_c2 (vp_lit (by decide) (by decide)) (wl_h (i := 2) (v := none)) ?_
                          refine v_goto (t := 56) C dX5_giveBack_29 (by decide) ?_
                          refine v_iinc (n := 59) (v := 3) (lv' := [(2, .int 3), (3, .null), (0, .ref (b + 9)), (1, .ref (b + 2))]) C dX5_giveBack_56 rfl rfl rfl (Nat.le_of_ble_eq_true rfl) rfl ?_
                          refine v_goto (t := 2) C dX5_giveBack_59 (by decide) ?_
                          refine v_iload_n (n := 3) C dX5_giveBack_2 rfl rfl rfl ?_
                          refine v_iconst (n := 4) (v := 3) C dX5_giveBack_3 rfl (by decide) ?_
                          refine v_icmp_ge (t := 62) (n := 7) C dX5_giveBack_4 (by decide) rfl (fun c_74 => ?_) (fun c_74 => ?_)
                          · skip
                            exact v_vret C dX5_giveBack_62 rfl ⟨rfl, (va_up (va_up hn 0 none) 2 none), (List.set G u48 (hcl k48 dr48 ((ar 16) (Int32.toNatClampNeg 1)) ((ar 17) (Int32.toNatClampNeg 1)))), gb_eq (f := (va_up (va_up (va_up hv 0 none) 1 (some (k48, dr48, ((ar 16) (Int32.toNatClampNeg 1)), ((ar 17) (Int32.toNatClampNeg 1))))) 2 none)) (g := gbF (sc 7) (ar 16) (ar 17) hv) (by simp [gbF, va_up, nI0, nI1, nI2, c_1, c_2, q_3, c_4, c_46, c_47, q_48, c_68, c_69, c_70, q_71, c_72, c_74]) (by simp [gbF, va_up, nI0, nI1, nI2, c_1, c_2, q_3, c_4, c_46, c_47, q_48, c_68, c_69, c_70, q_71, c_72, c_74]) (by simp [gbF, va_up, nI0, nI1, nI2, c_1, c_2, q_3, c_4, c_46, c_47, q_48, c_68, c_69, c_70, q_71, c_72, c_74]) (fun i h3 => by simp [gbF, va_up, show ¬ i = 0 by omega, show ¬ i = 1 by omega, show ¬ i = 2 by omega, show ¬ i < 3 by omega]) ▸ (HVr_none (i := 2) (HVr_set (i := 1) (dr := dr48) (ce := ((ar 16) (Int32.toNatClampNeg 1))) (sa := ((ar 17) (Int32.toNatClampNeg 1))) (HVr_none (i := 0) hr) hu48 hk48 hg48)), rfl⟩
                          · exact absurd c_74 (by decide)
                      · obtain ⟨u71, hu71, hk71, hg71⟩ := (HVr_set (i := 1) (dr := dr48) (ce := ((ar 16) (Int32.toNatClampNeg 1))) (sa := ((ar 17) (Int32.toNatClampNeg 1))) (HVr_none (i := 0) hr) hu48 hk48 hg48).2.1 2 k71 dr71 ce71 sa71 q_71
                        refine v_stk (st' := .ref (b + (u71 + 40)) :: []) (congrArg (fun z : Option Nat => va_rf (z.map (fun t => b + t)) :: []) hu71) ?_
                        refine v_astore_n (n := 17) (lv' := [(3, .ref (b + (u71 + 40))), (2, .int 2), (0, .ref (b + 9)), (1, .ref (b + 2))]) C dX5_giveBack_16 rfl rfl (Nat.le_of_ble_eq_true rfl) rfl ?_
                        refine v_iload_n (n := 18) C dX5_giveBack_17 rfl rfl rfl ?_
                        refine v_aload_n (n := 19) C dX5_giveBack_18 rfl rfl rfl ?_
                        refine v_get (n := 22) C dX5_giveBack_19 rfl fl_X5_29_X5 wl_c9 rfl ?_
                        refine v_icmp_lt (t := 32) (n := 25) C dX5_giveBack_22 (by decide) rfl (fun c_75 => ?_) (fun c_75 => ?_)
                        · skip
                          refine v_aload_n (n := 33) C dX5_giveBack_32 rfl rfl rfl ?_
                          refine v_ifnull (n := 36) C dX5_giveBack_33 rfl ?_
                          refine v_aload_n (n := 37) C dX5_giveBack_36 rfl rfl rfl ?_
                          refine v_aload_n (n := 38) C dX5_giveBack_37 rfl rfl rfl ?_
                          refine v_get (n := 41) C dX5_giveBack_38 rfl fl_X5_18_X5 wl_c9 rfl ?_
                          refine v_iload_n (n := 42) C dX5_giveBack_41 rfl rfl rfl ?_
                          refine v_iald (n := 43) C dX5_giveBack_42 rfl wl_c16 (vp_lit (by decide) (by decide)) ?_
                          refine v_put (n := 46) (es' := (wl D b sc ar (va_up hn 0 none) mh (List.set (List.set G u48 (hcl k48 dr48 ((ar 16) (Int32.toNatClampNeg 1)) ((ar 17) (Int32.toNatClampNeg 1)))) u71 (hcl k71 dr71 ((ar 16) (Int32.toNatClampNeg 2)) sa71)))) C dX5_giveBack_43 rfl (flk_X5_33 hk71) (fp_any (fpk_1 hk71)) (wl_tail hg71) rfl rfl (Nat.le_of_ble_eq_true rfl) wl_t ?_
                          refine v_aload_n (n := 47) C dX5_giveBack_46 rfl rfl rfl ?_
                          refine v_aload_n (n := 48) C dX5_giveBack_47 rfl rfl rfl ?_
                          refine v_get (n := 51) C dX5_giveBack_48 rfl fl_X5_22_X5 wl_c9 rfl ?_
                          refine v_iload_n (n := 52) C dX5_giveBack_51 rfl rfl rfl ?_
                          refine v_iald (n := 53) C dX5_giveBack_52 rfl wl_c17 (vp_lit (by decide) (by decide)) ?_
                          refine v_put (n := 56) (es' := (wl D b sc ar (va_up hn 0 none) mh (List.set (List.set G u48 (hcl k48 dr48 ((ar 16) (Int32.toNatClampNeg 1)) ((ar 17) (Int32.toNatClampNeg 1)))) u71 (hcl k71 dr71 ((ar 16) (Int32.toNatClampNeg 2)) ((ar 17) (Int32.toNatClampNeg 2)))))) C dX5_giveBack_53 rfl (flk_X5_38 hk71) (fp_any (fpk_2 hk71)) (wl_tail (gset_self hg71)) rfl rfl (Nat.le_of_ble_eq_true rfl) (wl_t.trans (by rw [List.set_set]; rfl)) ?_
                          refine v_iinc (n := 59) (v := 3) (lv' := [(2, .int 3), (3, .ref (b + (u71 + 40))), (0, .ref (b + 9)), (1, .ref (b + 2))]) C dX5_giveBack_56 rfl rfl rfl (Nat.le_of_ble_eq_true rfl) rfl ?_
                          refine v_goto (t := 2) C dX5_giveBack_59 (by decide) ?_
                          refine v_iload_n (n := 3) C dX5_giveBack_2 rfl rfl rfl ?_
                          refine v_iconst (n := 4) (v := 3) C dX5_giveBack_3 rfl (by decide) ?_
                          refine v_icmp_ge (t := 62) (n := 7) C dX5_giveBack_4 (by decide) rfl (fun c_76 => ?_) (fun c_76 => ?_)
                          · skip
                            exact v_vret C dX5_giveBack_62 rfl ⟨rfl, (va_up hn 0 none), (List.set (List.set G u48 (hcl k48 dr48 ((ar 16) (Int32.toNatClampNeg 1)) ((ar 17) (Int32.toNatClampNeg 1)))) u71 (hcl k71 dr71 ((ar 16) (Int32.toNatClampNeg 2)) ((ar 17) (Int32.toNatClampNeg 2)))), gb_eq (f := (va_up (va_up (va_up hv 0 none) 1 (some (k48, dr48, ((ar 16) (Int32.toNatClampNeg 1)), ((ar 17) (Int32.toNatClampNeg 1))))) 2 (some (k71, dr71, ((ar 16) (Int32.toNatClampNeg 2)), ((ar 17) (Int32.toNatClampNeg 2)))))) (g := gbF (sc 7) (ar 16) (ar 17) hv) (by simp [gbF, va_up, nI0, nI1, nI2, c_1, c_2, q_3, c_4, c_46, c_47, q_48, c_68, c_69, c_70, q_71, c_75, c_76]) (by simp [gbF, va_up, nI0, nI1, nI2, c_1, c_2, q_3, c_4, c_46, c_47, q_48, c_68, c_69, c_70, q_71, c_75, c_76]) (by simp [gbF, va_up, nI0, nI1, nI2, c_1, c_2, q_3, c_4, c_46, c_47, q_48, c_68, c_69, c_70, q_71, c_75, c_76]) (fun i h3 => by simp [gbF, va_up, show ¬ i = 0 by omega, show ¬ i = 1 by omega, show ¬ i = 2 by omega, show ¬ i < 3 by omega]) ▸ (HVr_set (i := 2) (dr := dr71) (ce := ((ar 16) (Int32.toNatClampNeg 2))) (sa := ((ar 17) (Int32.toNatClampNeg 2))) (HVr_set (i := 1) (dr := dr48) (ce := ((ar 16) (Int32.toNatClampNeg 1))) (sa := ((ar 17) (Int32.toNatClampNeg 1))) (HVr_none (i := 0) hr) hu48 hk48 hg48) hu71 hk71 hg71), rfl⟩
                          · exact absurd c_76 (by decide)
                        · skip
                          refine v_aload_n (n := 26) C dX5_giveBack_25 rfl rfl rfl ?_
                          refine v_iload_n (n := 27) C dX5_giveBack_26 rfl rfl rfl ?_
                          refine v_null (n := 28) C dX5_giveBack_27 rfl ?_
                          refine v_aastN (n := 29) (es' := (wl D b sc ar (va_up (va_up hn 0 none) 2 none) mh (List.set G u48 (hcl k48 dr48 ((ar 16) (Int32.toNatClampNeg 1)) ((ar 17) (Int32.toNatClampNeg 1)))))) C dX5_giveBack_28 rfl wl_c2 (vp_lit (by decide) (by decide)) (wl_h (i := 2) (v := none)) ?_
                          refine v_goto (t := 56) C dX5_giveBack_29 (by decide) ?_
                          refine v_iinc (n := 59) (v := 3) (lv' := [(2, .int 3), (3, .ref (b + (u71 + 40))), (0, .ref (b + 9)), (1, .ref (b + 2))]) C dX5_giveBack_56 rfl rfl rfl (Nat.le_of_ble_eq_true rfl) rfl ?_
                          refine v_goto (t := 2) C dX5_giveBack_59 (by decide) ?_
                          refine v_iload_n (n := 3) C dX5_giveBack_2 rfl rfl rfl ?_
                          refine v_iconst (n := 4) (v := 3) C dX5_giveBack_3 rfl (by decide) ?_
                          refine v_icmp_ge (t := 62) (n := 7) C dX5_giveBack_4 (by decide) rfl (fun c_77 => ?_) (fun c_77 => ?_)
                          · skip
                            exact v_vret C dX5_giveBack_62 rfl ⟨rfl, (va_up (va_up hn 0 none) 2 none), (List.set G u48 (hcl k48 dr48 ((ar 16) (Int32.toNatClampNeg 1)) ((ar 17) (Int32.toNatClampNeg 1)))), gb_eq (f := (va_up (va_up (va_up hv 0 none) 1 (some (k48, dr48, ((ar 16) (Int32.toNatClampNeg 1)), ((ar 17) (Int32.toNatClampNeg 1))))) 2 none)) (g := gbF (sc 7) (ar 16) (ar 17) hv) (by simp [gbF, va_up, nI0, nI1, nI2, c_1, c_2, q_3, c_4, c_46, c_47, q_48, c_68, c_69, c_70, q_71, c_75, c_77]) (by simp [gbF, va_up, nI0, nI1, nI2, c_1, c_2, q_3, c_4, c_46, c_47, q_48, c_68, c_69, c_70, q_71, c_75, c_77]) (by simp [gbF, va_up, nI0, nI1, nI2, c_1, c_2, q_3, c_4, c_46, c_47, q_48, c_68, c_69, c_70, q_71, c_75, c_77]) (fun i h3 => by simp [gbF, va_up, show ¬ i = 0 by omega, show ¬ i = 1 by omega, show ¬ i = 2 by omega, show ¬ i < 3 by omega]) ▸ (HVr_none (i := 2) (HVr_set (i := 1) (dr := dr48) (ce := ((ar 16) (Int32.toNatClampNeg 1))) (sa := ((ar 17) (Int32.toNatClampNeg 1))) (HVr_none (i := 0) hr) hu48 hk48 hg48)), rfl⟩
                          · exact absurd c_77 (by decide)
                · skip
                  refine v_aload_n (n := 26) C dX5_giveBack_25 rfl rfl rfl ?_
                  refine v_iload_n (n := 27) C dX5_giveBack_26 rfl rfl rfl ?_
                  refine v_null (n := 28) C dX5_giveBack_27 rfl ?_
                  refine v_aastN (n := 29) (es' := (wl D b sc ar (va_up (va_up hn 0 none) 1 none) mh G)) C dX5_giveBack_28 rfl wl_c2 (vp_lit (by decide) (by decide)) (wl_h (i := 1) (v := none)) ?_
                  refine v_goto (t := 56) C dX5_giveBack_29 (by decide) ?_
                  refine v_iinc (n := 59) (v := 2) (lv' := [(2, .int 2), (3, .ref (b + (u48 + 40))), (0, .ref (b + 9)), (1, .ref (b + 2))]) C dX5_giveBack_56 rfl rfl rfl (Nat.le_of_ble_eq_true rfl) rfl ?_
                  refine v_goto (t := 2) C dX5_giveBack_59 (by decide) ?_
                  refine v_iload_n (n := 3) C dX5_giveBack_2 rfl rfl rfl ?_
                  refine v_iconst (n := 4) (v := 3) C dX5_giveBack_3 rfl (by decide) ?_
                  refine v_icmp_ge (t := 62) (n := 7) C dX5_giveBack_4 (by decide) rfl (fun c_78 => ?_) (fun c_78 => ?_)
                  · exact absurd c_78 (by decide)
                  · skip
                    refine v_iload_n (n := 8) C dX5_giveBack_7 rfl rfl rfl ?_
                    refine v_aload_n (n := 9) C dX5_giveBack_8 rfl rfl rfl ?_
                    refine v_alenQ (n := 10) (v := 3) C dX5_giveBack_9 rfl wl_c2 rfl ?_
                    refine v_icmp_ge (t := 62) (n := 13) C dX5_giveBack_10 (by decide) rfl (fun c_79 => ?_) (fun c_79 => ?_)
                    · exact absurd c_79 (by decide)
                    · skip
                      refine v_aload_n (n := 14) C dX5_giveBack_13 rfl rfl rfl ?_
                      refine v_iload_n (n := 15) C dX5_giveBack_14 rfl rfl rfl ?_
                      refine v_aald (n := 16) C dX5_giveBack_15 rfl wl_c2 (vp_lit (by decide) (by decide)) ?_
                      change V p l e _ s m args below meth c D b 4 _ 0 0 (wl D b sc ar (va_up (va_up hn 0 none) 1 none) mh G) [(2, .int 2), (3, .ref (b + (u48 + 40))), (0, .ref (b + 9)), (1, .ref (b + 2))] (va_rf (((va_up (va_up hn 0 none) 1 none) 2).map (fun t => b + t)) :: []) 16
                      rcases q_80 : hv 2 with _ | ⟨k80, dr80, ce80, sa80⟩
                      · skip
                        refine v_stk (st' := .null :: []) (congrArg (fun z : Option Nat => va_rf (z.map (fun t => b + t)) :: []) ((HVr_none (i := 1) (HVr_none (i := 0) hr)).1 2 q_80)) ?_
                        refine v_astore_nN (n := 17) (lv' := [(3, .null), (2, .int 2), (0, .ref (b + 9)), (1, .ref (b + 2))]) C dX5_giveBack_16 rfl rfl (Nat.le_of_ble_eq_true rfl) rfl ?_
                        refine v_iload_n (n := 18) C dX5_giveBack_17 rfl rfl rfl ?_
                        refine v_aload_n (n := 19) C dX5_giveBack_18 rfl rfl rfl ?_
                        refine v_get (n := 22) C dX5_giveBack_19 rfl fl_X5_29_X5 wl_c9 rfl ?_
                        refine v_icmp_lt (t := 32) (n := 25) C dX5_giveBack_22 (by decide) rfl (fun c_81 => ?_) (fun c_81 => ?_)
                        · skip
                          refine v_aload_nN (n := 33) C dX5_giveBack_32 rfl rfl rfl ?_
                          refine v_ifnullN (t := 56) C dX5_giveBack_33 (by decide) ?_
                          refine v_iinc (n := 59) (v := 3) (lv' := [(2, .int 3), (3, .null), (0, .ref (b + 9)), (1, .ref (b + 2))]) C dX5_giveBack_56 rfl rfl rfl (Nat.le_of_ble_eq_true rfl) rfl ?_
                          refine v_goto (t := 2) C dX5_giveBack_59 (by decide) ?_
                          refine v_iload_n (n := 3) C dX5_giveBack_2 rfl rfl rfl ?_
                          refine v_iconst (n := 4) (v := 3) C dX5_giveBack_3 rfl (by decide) ?_
                          refine v_icmp_ge (t := 62) (n := 7) C dX5_giveBack_4 (by decide) rfl (fun c_82 => ?_) (fun c_82 => ?_)
                          · skip
                            exact v_vret C dX5_giveBack_62 rfl ⟨rfl, (va_up (va_up hn 0 none) 1 none), G, gb_eq (f := (va_up (va_up hv 0 none) 1 none)) (g := gbF (sc 7) (ar 16) (ar 17) hv) (by simp [gbF, va_up, nI0, nI1, nI2, c_1, c_2, q_3, c_4, c_46, c_47, q_48, c_68, c_78, c_79, q_80, c_81, c_82]) (by simp [gbF, va_up, nI0, nI1, nI2, c_1, c_2, q_3, c_4, c_46, c_47, q_48, c_68, c_78, c_79, q_80, c_81, c_82]) (by simp [gbF, va_up, nI0, nI1, nI2, c_1, c_2, q_3, c_4, c_46, c_47, q_48, c_68, c_78, c_79, q_80, c_81, c_82]) (fun i h3 => by simp [gbF, va_up, show ¬ i = 0 by omega, show ¬ i = 1 by omega, show ¬ i = 2 by omega, show ¬ i < 3 by omega]) ▸ (HVr_none (i := 1) (HVr_none (i := 0) hr)), rfl⟩
                          · exact absurd c_82 (by decide)
                        · skip
                          refine v_aload_n (n := 26) C dX5_giveBack_25 rfl rfl rfl ?_
                          refine v_iload_n (n := 27) C dX5_giveBack_26 rfl rfl rfl ?_
                          refine v_null (n := 28) C dX5_giveBack_27 rfl ?_
                          refine v_aastN (n := 29) (es' := (wl D b sc ar (va_up (va_up (va_up hn 0 none) 1 none) 2 none) mh G)) C dX5_giveBack_28 rfl wl_c2 (vp_lit (by decide) (by decide)) (wl_h (i := 2) (v := none)) ?_
                          refine v_goto (t := 56) C dX5_giveBack_29 (by decide) ?_
                          refine v_iinc (n := 59) (v := 3) (lv' := [(2, .int 3), (3, .null), (0, .ref (b + 9)), (1, .ref (b + 2))]) C dX5_giveBack_56 rfl rfl rfl (Nat.le_of_ble_eq_true rfl) rfl ?_
                          refine v_goto (t := 2) C dX5_giveBack_59 (by decide) ?_
                          refine v_iload_n (n := 3) C dX5_giveBack_2 rfl rfl rfl ?_
                          refine v_iconst (n := 4) (v := 3) C dX5_giveBack_3 rfl (by decide) ?_
                          refine v_icmp_ge (t := 62) (n := 7) C dX5_giveBack_4 (by decide) rfl (fun c_83 => ?_) (fun c_83 => ?_)
                          · skip
                            exact v_vret C dX5_giveBack_62 rfl ⟨rfl, (va_up (va_up (va_up hn 0 none) 1 none) 2 none), G, gb_eq (f := (va_up (va_up (va_up hv 0 none) 1 none) 2 none)) (g := gbF (sc 7) (ar 16) (ar 17) hv) (by simp [gbF, va_up, nI0, nI1, nI2, c_1, c_2, q_3, c_4, c_46, c_47, q_48, c_68, c_78, c_79, q_80, c_81, c_83]) (by simp [gbF, va_up, nI0, nI1, nI2, c_1, c_2, q_3, c_4, c_46, c_47, q_48, c_68, c_78, c_79, q_80, c_81, c_83]) (by simp [gbF, va_up, nI0, nI1, nI2, c_1, c_2, q_3, c_4, c_46, c_47, q_48, c_68, c_78, c_79, q_80, c_81, c_83]) (fun i h3 => by simp [gbF, va_up, show ¬ i = 0 by omega, show ¬ i = 1 by omega, show ¬ i = 2 by omega, show ¬ i < 3 by omega]) ▸ (HVr_none (i := 2) (HVr_none (i := 1) (HVr_none (i := 0) hr))), rfl⟩
                          · exact absurd c_83 (by decide)
                      · obtain ⟨u80, hu80, hk80, hg80⟩ := (HVr_none (i := 1) (HVr_none (i := 0) hr)).2.1 2 k80 dr80 ce80 sa80 q_80
                        refine v_stk (st' := .ref (b + (u80 + 40)) :: []) (congrArg (fun z : Option Nat => va_rf (z.map (fun t => b + t)) :: []) hu80) ?_
                        refine v_astore_n (n := 17) (lv' := [(3, .ref (b + (u80 + 40))), (2, .int 2), (0, .ref (b + 9)), (1, .ref (b + 2))]) C dX5_giveBack_16 rfl rfl (Nat.le_of_ble_eq_true rfl) rfl ?_
                        refine v_iload_n (n := 18) C dX5_giveBack_17 rfl rfl rfl ?_
                        refine v_aload_n (n := 19) C dX5_giveBack_18 rfl rfl rfl ?_
                        refine v_get (n := 22) C dX5_giveBack_19 rfl fl_X5_29_X5 wl_c9 rfl ?_
                        refine v_icmp_lt (t := 32) (n := 25) C dX5_giveBack_22 (by decide) rfl (fun c_84 => ?_) (fun c_84 => ?_)
                        · skip
                          refine v_aload_n (n := 33) C dX5_giveBack_32 rfl rfl rfl ?_
                          refine v_ifnull (n := 36) C dX5_giveBack_33 rfl ?_
                          refine v_aload_n (n := 37) C dX5_giveBack_36 rfl rfl rfl ?_
                          refine v_aload_n (n := 38) C dX5_giveBack_37 rfl rfl rfl ?_
                          refine v_get (n := 41) C dX5_giveBack_38 rfl fl_X5_18_X5 wl_c9 rfl ?_
                          refine v_iload_n (n := 42) C dX5_giveBack_41 rfl rfl rfl ?_
                          refine v_iald (n := 43) C dX5_giveBack_42 rfl wl_c16 (vp_lit (by decide) (by decide)) ?_
                          refine v_put (n := 46) (es' := (wl D b sc ar (va_up (va_up hn 0 none) 1 none) mh (List.set G u80 (hcl k80 dr80 ((ar 16) (Int32.toNatClampNeg 2)) sa80)))) C dX5_giveBack_43 rfl (flk_X5_33 hk80) (fp_any (fpk_1 hk80)) (wl_tail hg80) rfl rfl (Nat.le_of_ble_eq_true rfl) wl_t ?_
                          refine v_aload_n (n := 47) C dX5_giveBack_46 rfl rfl rfl ?_
                          refine v_aload_n (n := 48) C dX5_giveBack_47 rfl rfl rfl ?_
                          refine v_get (n := 51) C dX5_giveBack_48 rfl fl_X5_22_X5 wl_c9 rfl ?_
                          refine v_iload_n (n := 52) C dX5_giveBack_51 rfl rfl rfl ?_
                          refine v_iald (n := 53) C dX5_giveBack_52 rfl wl_c17 (vp_lit (by decide) (by decide)) ?_
                          refine v_put (n := 56) (es' := (wl D b sc ar (va_up (va_up hn 0 none) 1 none) mh (List.set G u80 (hcl k80 dr80 ((ar 16) (Int32.toNatClampNeg 2)) ((ar 17) (Int32.toNatClampNeg 2)))))) C dX5_giveBack_53 rfl (flk_X5_38 hk80) (fp_any (fpk_2 hk80)) (wl_tail (gset_self hg80)) rfl rfl (Nat.le_of_ble_eq_true rfl) (wl_t.trans (by rw [List.set_set]; rfl)) ?_
                          refine v_iinc (n := 59) (v := 3) (lv' := [(2, .int 3), (3, .ref (b + (u80 + 40))), (0, .ref (b + 9)), (1, .ref (b + 2))]) C dX5_giveBack_56 rfl rfl rfl (Nat.le_of_ble_eq_true rfl) rfl ?_
                          refine v_goto (t := 2) C dX5_giveBack_59 (by decide) ?_
                          refine v_iload_n (n := 3) C dX5_giveBack_2 rfl rfl rfl ?_
                          refine v_iconst (n := 4) (v := 3) C dX5_giveBack_3 rfl (by decide) ?_
                          refine v_icmp_ge (t := 62) (n := 7) C dX5_giveBack_4 (by decide) rfl (fun c_85 => ?_) (fun c_85 => ?_)
                          · skip
                            exact v_vret C dX5_giveBack_62 rfl ⟨rfl, (va_up (va_up hn 0 none) 1 none), (List.set G u80 (hcl k80 dr80 ((ar 16) (Int32.toNatClampNeg 2)) ((ar 17) (Int32.toNatClampNeg 2)))), gb_eq (f := (va_up (va_up (va_up hv 0 none) 1 none) 2 (some (k80, dr80, ((ar 16) (Int32.toNatClampNeg 2)), ((ar 17) (Int32.toNatClampNeg 2)))))) (g := gbF (sc 7) (ar 16) (ar 17) hv) (by simp [gbF, va_up, nI0, nI1, nI2, c_1, c_2, q_3, c_4, c_46, c_47, q_48, c_68, c_78, c_79, q_80, c_84, c_85]) (by simp [gbF, va_up, nI0, nI1, nI2, c_1, c_2, q_3, c_4, c_46, c_47, q_48, c_68, c_78, c_79, q_80, c_84, c_85]) (by simp [gbF, va_up, nI0, nI1, nI2, c_1, c_2, q_3, c_4, c_46, c_47, q_48, c_68, c_78, c_79, q_80, c_84, c_85]) (fun i h3 => by simp [gbF, va_up, show ¬ i = 0 by omega, show ¬ i = 1 by omega, show ¬ i = 2 by omega, show ¬ i < 3 by omega]) ▸ (HVr_set (i := 2) (dr := dr80) (ce := ((ar 16) (Int32.toNatClampNeg 2))) (sa := ((ar 17) (Int32.toNatClampNeg 2))) (HVr_none (i := 1) (HVr_none (i := 0) hr)) hu80 hk80 hg80), rfl⟩
                          · exact absurd c_85 (by decide)
                        · skip
                          refine v_aload_n (n := 26) C dX5_giveBack_25 rfl rfl rfl ?_
                          refine v_iload_n (n := 27) C dX5_giveBack_26 rfl rfl rfl ?_
                          refine v_null (n := 28) C dX5_giveBack_27 rfl ?_
                          refine v_aastN (n := 29) (es' := (wl D b sc ar (va_up (va_up (va_up hn 0 none) 1 none) 2 none) mh G)) C dX5_giveBack_28 rfl wl_c2 (vp_lit (by decide) (by decide)) (wl_h (i := 2) (v := none)) ?_
                          refine v_goto (t := 56) C dX5_giveBack_29 (by decide) ?_
                          refine v_iinc (n := 59) (v := 3) (lv' := [(2, .int 3), (3, .ref (b + (u80 + 40))), (0, .ref (b + 9)), (1, .ref (b + 2))]) C dX5_giveBack_56 rfl rfl rfl (Nat.le_of_ble_eq_true rfl) rfl ?_
                          refine v_goto (t := 2) C dX5_giveBack_59 (by decide) ?_
                          refine v_iload_n (n := 3) C dX5_giveBack_2 rfl rfl rfl ?_
                          refine v_iconst (n := 4) (v := 3) C dX5_giveBack_3 rfl (by decide) ?_
                          refine v_icmp_ge (t := 62) (n := 7) C dX5_giveBack_4 (by decide) rfl (fun c_86 => ?_) (fun c_86 => ?_)
                          · skip
                            exact v_vret C dX5_giveBack_62 rfl ⟨rfl, (va_up (va_up (va_up hn 0 none) 1 none) 2 none), G, gb_eq (f := (va_up (va_up (va_up hv 0 none) 1 none) 2 none)) (g := gbF (sc 7) (ar 16) (ar 17) hv) (by simp [gbF, va_up, nI0, nI1, nI2, c_1, c_2, q_3, c_4, c_46, c_47, q_48, c_68, c_78, c_79, q_80, c_84, c_86]) (by simp [gbF, va_up, nI0, nI1, nI2, c_1, c_2, q_3, c_4, c_46, c_47, q_48, c_68, c_78, c_79, q_80, c_84, c_86]) (by simp [gbF, va_up, nI0, nI1, nI2, c_1, c_2, q_3, c_4, c_46, c_47, q_48, c_68, c_78, c_79, q_80, c_84, c_86]) (fun i h3 => by simp [gbF, va_up, show ¬ i = 0 by omega, show ¬ i = 1 by omega, show ¬ i = 2 by omega, show ¬ i < 3 by omega]) ▸ (HVr_none (i := 2) (HVr_none (i := 1) (HVr_none (i := 0) hr))), rfl⟩
                          · exact absurd c_86 (by decide)
      · obtain ⟨u3, hu3, hk3, hg3⟩ := hr.2.1 0 k3 dr3 ce3 sa3 q_3
        refine v_stk (st' := .ref (b + (u3 + 40)) :: []) (congrArg (fun z : Option Nat => va_rf (z.map (fun t => b + t)) :: []) hu3) ?_
        refine v_astore_n (n := 17) (lv' := [(3, .ref (b + (u3 + 40))), (2, .int 0), (0, .ref (b + 9)), (1, .ref (b + 2))]) C dX5_giveBack_16 rfl rfl (Nat.le_of_ble_eq_true rfl) rfl ?_
        refine v_iload_n (n := 18) C dX5_giveBack_17 rfl rfl rfl ?_
        refine v_aload_n (n := 19) C dX5_giveBack_18 rfl rfl rfl ?_
        refine v_get (n := 22) C dX5_giveBack_19 rfl fl_X5_29_X5 wl_c9 rfl ?_
        refine v_icmp_lt (t := 32) (n := 25) C dX5_giveBack_22 (by decide) rfl (fun c_87 => ?_) (fun c_87 => ?_)
        · skip
          refine v_aload_n (n := 33) C dX5_giveBack_32 rfl rfl rfl ?_
          refine v_ifnull (n := 36) C dX5_giveBack_33 rfl ?_
          refine v_aload_n (n := 37) C dX5_giveBack_36 rfl rfl rfl ?_
          refine v_aload_n (n := 38) C dX5_giveBack_37 rfl rfl rfl ?_
          refine v_get (n := 41) C dX5_giveBack_38 rfl fl_X5_18_X5 wl_c9 rfl ?_
          refine v_iload_n (n := 42) C dX5_giveBack_41 rfl rfl rfl ?_
          refine v_iald (n := 43) C dX5_giveBack_42 rfl wl_c16 (vp_lit (by decide) (by decide)) ?_
          refine v_put (n := 46) (es' := (wl D b sc ar hn mh (List.set G u3 (hcl k3 dr3 ((ar 16) (Int32.toNatClampNeg 0)) sa3)))) C dX5_giveBack_43 rfl (flk_X5_33 hk3) (fp_any (fpk_1 hk3)) (wl_tail hg3) rfl rfl (Nat.le_of_ble_eq_true rfl) wl_t ?_
          refine v_aload_n (n := 47) C dX5_giveBack_46 rfl rfl rfl ?_
          refine v_aload_n (n := 48) C dX5_giveBack_47 rfl rfl rfl ?_
          refine v_get (n := 51) C dX5_giveBack_48 rfl fl_X5_22_X5 wl_c9 rfl ?_
          refine v_iload_n (n := 52) C dX5_giveBack_51 rfl rfl rfl ?_
          refine v_iald (n := 53) C dX5_giveBack_52 rfl wl_c17 (vp_lit (by decide) (by decide)) ?_
          refine v_put (n := 56) (es' := (wl D b sc ar hn mh (List.set G u3 (hcl k3 dr3 ((ar 16) (Int32.toNatClampNeg 0)) ((ar 17) (Int32.toNatClampNeg 0)))))) C dX5_giveBack_53 rfl (flk_X5_38 hk3) (fp_any (fpk_2 hk3)) (wl_tail (gset_self hg3)) rfl rfl (Nat.le_of_ble_eq_true rfl) (wl_t.trans (by rw [List.set_set]; rfl)) ?_
          refine v_iinc (n := 59) (v := 1) (lv' := [(2, .int 1), (3, .ref (b + (u3 + 40))), (0, .ref (b + 9)), (1, .ref (b + 2))]) C dX5_giveBack_56 rfl rfl rfl (Nat.le_of_ble_eq_true rfl) rfl ?_
          refine v_goto (t := 2) C dX5_giveBack_59 (by decide) ?_
          refine v_iload_n (n := 3) C dX5_giveBack_2 rfl rfl rfl ?_
          refine v_iconst (n := 4) (v := 3) C dX5_giveBack_3 rfl (by decide) ?_
          refine v_icmp_ge (t := 62) (n := 7) C dX5_giveBack_4 (by decide) rfl (fun c_88 => ?_) (fun c_88 => ?_)
          · exact absurd c_88 (by decide)
          · skip
            refine v_iload_n (n := 8) C dX5_giveBack_7 rfl rfl rfl ?_
            refine v_aload_n (n := 9) C dX5_giveBack_8 rfl rfl rfl ?_
            refine v_alenQ (n := 10) (v := 3) C dX5_giveBack_9 rfl wl_c2 rfl ?_
            refine v_icmp_ge (t := 62) (n := 13) C dX5_giveBack_10 (by decide) rfl (fun c_89 => ?_) (fun c_89 => ?_)
            · exact absurd c_89 (by decide)
            · skip
              refine v_aload_n (n := 14) C dX5_giveBack_13 rfl rfl rfl ?_
              refine v_iload_n (n := 15) C dX5_giveBack_14 rfl rfl rfl ?_
              refine v_aald (n := 16) C dX5_giveBack_15 rfl wl_c2 (vp_lit (by decide) (by decide)) ?_
              change V p l e _ s m args below meth c D b 4 _ 0 0 (wl D b sc ar hn mh (List.set G u3 (hcl k3 dr3 ((ar 16) (Int32.toNatClampNeg 0)) ((ar 17) (Int32.toNatClampNeg 0))))) [(2, .int 1), (3, .ref (b + (u3 + 40))), (0, .ref (b + 9)), (1, .ref (b + 2))] (va_rf ((hn 1).map (fun t => b + t)) :: []) 16
              rcases q_90 : hv 1 with _ | ⟨k90, dr90, ce90, sa90⟩
              · skip
                refine v_stk (st' := .null :: []) (congrArg (fun z : Option Nat => va_rf (z.map (fun t => b + t)) :: []) ((HVr_set (i := 0) (dr := dr3) (ce := ((ar 16) (Int32.toNatClampNeg 0))) (sa := ((ar 17) (Int32.toNatClampNeg 0))) hr hu3 hk3 hg3).1 1 q_90)) ?_
                refine v_astore_nN (n := 17) (lv' := [(3, .null), (2, .int 1), (0, .ref (b + 9)), (1, .ref (b + 2))]) C dX5_giveBack_16 rfl rfl (Nat.le_of_ble_eq_true rfl) rfl ?_
                refine v_iload_n (n := 18) C dX5_giveBack_17 rfl rfl rfl ?_
                refine v_aload_n (n := 19) C dX5_giveBack_18 rfl rfl rfl ?_
                refine v_get (n := 22) C dX5_giveBack_19 rfl fl_X5_29_X5 wl_c9 rfl ?_
                refine v_icmp_lt (t := 32) (n := 25) C dX5_giveBack_22 (by decide) rfl (fun c_91 => ?_) (fun c_91 => ?_)
                · skip
                  refine v_aload_nN (n := 33) C dX5_giveBack_32 rfl rfl rfl ?_
                  refine v_ifnullN (t := 56) C dX5_giveBack_33 (by decide) ?_
                  refine v_iinc (n := 59) (v := 2) (lv' := [(2, .int 2), (3, .null), (0, .ref (b + 9)), (1, .ref (b + 2))]) C dX5_giveBack_56 rfl rfl rfl (Nat.le_of_ble_eq_true rfl) rfl ?_
                  refine v_goto (t := 2) C dX5_giveBack_59 (by decide) ?_
                  refine v_iload_n (n := 3) C dX5_giveBack_2 rfl rfl rfl ?_
                  refine v_iconst (n := 4) (v := 3) C dX5_giveBack_3 rfl (by decide) ?_
                  refine v_icmp_ge (t := 62) (n := 7) C dX5_giveBack_4 (by decide) rfl (fun c_92 => ?_) (fun c_92 => ?_)
                  · exact absurd c_92 (by decide)
                  · skip
                    refine v_iload_n (n := 8) C dX5_giveBack_7 rfl rfl rfl ?_
                    refine v_aload_n (n := 9) C dX5_giveBack_8 rfl rfl rfl ?_
                    refine v_alenQ (n := 10) (v := 3) C dX5_giveBack_9 rfl wl_c2 rfl ?_
                    refine v_icmp_ge (t := 62) (n := 13) C dX5_giveBack_10 (by decide) rfl (fun c_93 => ?_) (fun c_93 => ?_)
                    · exact absurd c_93 (by decide)
                    · skip
                      refine v_aload_n (n := 14) C dX5_giveBack_13 rfl rfl rfl ?_
                      refine v_iload_n (n := 15) C dX5_giveBack_14 rfl rfl rfl ?_
                      refine v_aald (n := 16) C dX5_giveBack_15 rfl wl_c2 (vp_lit (by decide) (by decide)) ?_
                      change V p l e _ s m args below meth c D b 4 _ 0 0 (wl D b sc ar hn mh (List.set G u3 (hcl k3 dr3 ((ar 16) (Int32.toNatClampNeg 0)) ((ar 17) (Int32.toNatClampNeg 0))))) [(2, .int 2), (3, .null), (0, .ref (b + 9)), (1, .ref (b + 2))] (va_rf ((hn 2).map (fun t => b + t)) :: []) 16
                      rcases q_94 : hv 2 with _ | ⟨k94, dr94, ce94, sa94⟩
                      · skip
                        refine v_stk (st' := .null :: []) (congrArg (fun z : Option Nat => va_rf (z.map (fun t => b + t)) :: []) ((HVr_set (i := 0) (dr := dr3) (ce := ((ar 16) (Int32.toNatClampNeg 0))) (sa := ((ar 17) (Int32.toNatClampNeg 0))) hr hu3 hk3 hg3).1 2 q_94)) ?_
                        refine v_astore_nN (n := 17) (lv' := [(3, .null), (2, .int 2), (0, .ref (b + 9)), (1, .ref (b + 2))]) C dX5_giveBack_16 rfl rfl (Nat.le_of_ble_eq_true rfl) rfl ?_
                        refine v_iload_n (n := 18) C dX5_giveBack_17 rfl rfl rfl ?_
                        refine v_aload_n (n := 19) C dX5_giveBack_18 rfl rfl rfl ?_
                        refine v_get (n := 22) C dX5_giveBack_19 rfl fl_X5_29_X5 wl_c9 rfl ?_
                        refine v_icmp_lt (t := 32) (n := 25) C dX5_giveBack_22 (by decide) rfl (fun c_95 => ?_) (fun c_95 => ?_)
                        · skip
                          refine v_aload_nN (n := 33) C dX5_giveBack_32 rfl rfl rfl ?_
                          refine v_ifnullN (t := 56) C dX5_giveBack_33 (by decide) ?_
                          refine v_iinc (n := 59) (v := 3) (lv' := [(2, .int 3), (3, .null), (0, .ref (b + 9)), (1, .ref (b + 2))]) C dX5_giveBack_56 rfl rfl rfl (Nat.le_of_ble_eq_true rfl) rfl ?_
                          refine v_goto (t := 2) C dX5_giveBack_59 (by decide) ?_
                          refine v_iload_n (n := 3) C dX5_giveBack_2 rfl rfl rfl ?_
                          refine v_iconst (n := 4) (v := 3) C dX5_giveBack_3 rfl (by decide) ?_
                          refine v_icmp_ge (t := 62) (n := 7) C dX5_giveBack_4 (by decide) rfl (fun c_96 => ?_) (fun c_96 => ?_)
                          · skip
                            exact v_vret C dX5_giveBack_62 rfl ⟨rfl, hn, (List.set G u3 (hcl k3 dr3 ((ar 16) (Int32.toNatClampNeg 0)) ((ar 17) (Int32.toNatClampNeg 0)))), gb_eq (f := (va_up hv 0 (some (k3, dr3, ((ar 16) (Int32.toNatClampNeg 0)), ((ar 17) (Int32.toNatClampNeg 0)))))) (g := gbF (sc 7) (ar 16) (ar 17) hv) (by simp [gbF, va_up, nI0, nI1, nI2, c_1, c_2, q_3, c_87, c_88, c_89, q_90, c_91, c_92, c_93, q_94, c_95, c_96]) (by simp [gbF, va_up, nI0, nI1, nI2, c_1, c_2, q_3, c_87, c_88, c_89, q_90, c_91, c_92, c_93, q_94, c_95, c_96]) (by simp [gbF, va_up, nI0, nI1, nI2, c_1, c_2, q_3, c_87, c_88, c_89, q_90, c_91, c_92, c_93, q_94, c_95, c_96]) (fun i h3 => by simp [gbF, va_up, show ¬ i = 0 by omega, show ¬ i = 1 by omega, show ¬ i = 2 by omega, show ¬ i < 3 by omega]) ▸ (HVr_set (i := 0) (dr := dr3) (ce := ((ar 16) (Int32.toNatClampNeg 0))) (sa := ((ar 17) (Int32.toNatClampNeg 0))) hr hu3 hk3 hg3), rfl⟩
                          · exact absurd c_96 (by decide)
                        · skip
                          refine v_aload_n (n := 26) C dX5_giveBack_25 rfl rfl rfl ?_
                          refine v_iload_n (n := 27) C dX5_giveBack_26 rfl rfl rfl ?_
                          refine v_null (n := 28) C dX5_giveBack_27 rfl ?_
                          refine v_aastN (n := 29) (es' := (wl D b sc ar (va_up hn 2 none) mh (List.set G u3 (hcl k3 dr3 ((ar 16) (Int32.toNatClampNeg 0)) ((ar 17) (Int32.toNatClampNeg 0)))))) C dX5_giveBack_28 rfl wl_c2 (vp_lit (by decide) (by decide)) (wl_h (i := 2) (v := none)) ?_
                          refine v_goto (t := 56) C dX5_giveBack_29 (by decide) ?_
                          refine v_iinc (n := 59) (v := 3) (lv' := [(2, .int 3), (3, .null), (0, .ref (b + 9)), (1, .ref (b + 2))]) C dX5_giveBack_56 rfl rfl rfl (Nat.le_of_ble_eq_true rfl) rfl ?_
                          refine v_goto (t := 2) C dX5_giveBack_59 (by decide) ?_
                          refine v_iload_n (n := 3) C dX5_giveBack_2 rfl rfl rfl ?_
                          refine v_iconst (n := 4) (v := 3) C dX5_giveBack_3 rfl (by decide) ?_
                          refine v_icmp_ge (t := 62) (n := 7) C dX5_giveBack_4 (by decide) rfl (fun c_97 => ?_) (fun c_97 => ?_)
                          · skip
                            exact v_vret C dX5_giveBack_62 rfl ⟨rfl, (va_up hn 2 none), (List.set G u3 (hcl k3 dr3 ((ar 16) (Int32.toNatClampNeg 0)) ((ar 17) (Int32.toNatClampNeg 0)))), gb_eq (f := (va_up (va_up hv 0 (some (k3, dr3, ((ar 16) (Int32.toNatClampNeg 0)), ((ar 17) (Int32.toNatClampNeg 0))))) 2 none)) (g := gbF (sc 7) (ar 16) (ar 17) hv) (by simp [gbF, va_up, nI0, nI1, nI2, c_1, c_2, q_3, c_87, c_88, c_89, q_90, c_91, c_92, c_93, q_94, c_95, c_97]) (by simp [gbF, va_up, nI0, nI1, nI2, c_1, c_2, q_3, c_87, c_88, c_89, q_90, c_91, c_92, c_93, q_94, c_95, c_97]) (by simp [gbF, va_up, nI0, nI1, nI2, c_1, c_2, q_3, c_87, c_88, c_89, q_90, c_91, c_92, c_93, q_94, c_95, c_97]) (fun i h3 => by simp [gbF, va_up, show ¬ i = 0 by omega, show ¬ i = 1 by omega, show ¬ i = 2 by omega, show ¬ i < 3 by omega]) ▸ (HVr_none (i := 2) (HVr_set (i := 0) (dr := dr3) (ce := ((ar 16) (Int32.toNatClampNeg 0))) (sa := ((ar 17) (Int32.toNatClampNeg 0))) hr hu3 hk3 hg3)), rfl⟩
                          · exact absurd c_97 (by decide)
                      · obtain ⟨u94, hu94, hk94, hg94⟩ := (HVr_set (i := 0) (dr := dr3) (ce := ((ar 16) (Int32.toNatClampNeg 0))) (sa := ((ar 17) (Int32.toNatClampNeg 0))) hr hu3 hk3 hg3).2.1 2 k94 dr94 ce94 sa94 q_94
                        refine v_stk (st' := .ref (b + (u94 + 40)) :: []) (congrArg (fun z : Option Nat => va_rf (z.map (fun t => b + t)) :: []) hu94) ?_
                        refine v_astore_n (n := 17) (lv' := [(3, .ref (b + (u94 + 40))), (2, .int 2), (0, .ref (b + 9)), (1, .ref (b + 2))]) C dX5_giveBack_16 rfl rfl (Nat.le_of_ble_eq_true rfl) rfl ?_
                        refine v_iload_n (n := 18) C dX5_giveBack_17 rfl rfl rfl ?_
                        refine v_aload_n (n := 19) C dX5_giveBack_18 rfl rfl rfl ?_
                        refine v_get (n := 22) C dX5_giveBack_19 rfl fl_X5_29_X5 wl_c9 rfl ?_
                        refine v_icmp_lt (t := 32) (n := 25) C dX5_giveBack_22 (by decide) rfl (fun c_98 => ?_) (fun c_98 => ?_)
                        · skip
                          refine v_aload_n (n := 33) C dX5_giveBack_32 rfl rfl rfl ?_
                          refine v_ifnull (n := 36) C dX5_giveBack_33 rfl ?_
                          refine v_aload_n (n := 37) C dX5_giveBack_36 rfl rfl rfl ?_
                          refine v_aload_n (n := 38) C dX5_giveBack_37 rfl rfl rfl ?_
                          refine v_get (n := 41) C dX5_giveBack_38 rfl fl_X5_18_X5 wl_c9 rfl ?_
                          refine v_iload_n (n := 42) C dX5_giveBack_41 rfl rfl rfl ?_
                          refine v_iald (n := 43) C dX5_giveBack_42 rfl wl_c16 (vp_lit (by decide) (by decide)) ?_
                          refine v_put (n := 46) (es' := (wl D b sc ar hn mh (List.set (List.set G u3 (hcl k3 dr3 ((ar 16) (Int32.toNatClampNeg 0)) ((ar 17) (Int32.toNatClampNeg 0)))) u94 (hcl k94 dr94 ((ar 16) (Int32.toNatClampNeg 2)) sa94)))) C dX5_giveBack_43 rfl (flk_X5_33 hk94) (fp_any (fpk_1 hk94)) (wl_tail hg94) rfl rfl (Nat.le_of_ble_eq_true rfl) wl_t ?_
                          refine v_aload_n (n := 47) C dX5_giveBack_46 rfl rfl rfl ?_
                          refine v_aload_n (n := 48) C dX5_giveBack_47 rfl rfl rfl ?_
                          refine v_get (n := 51) C dX5_giveBack_48 rfl fl_X5_22_X5 wl_c9 rfl ?_
                          refine v_iload_n (n := 52) C dX5_giveBack_51 rfl rfl rfl ?_
                          refine v_iald (n := 53) C dX5_giveBack_52 rfl wl_c17 (vp_lit (by decide) (by decide)) ?_
                          refine v_put (n := 56) (es' := (wl D b sc ar hn mh (List.set (List.set G u3 (hcl k3 dr3 ((ar 16) (Int32.toNatClampNeg 0)) ((ar 17) (Int32.toNatClampNeg 0)))) u94 (hcl k94 dr94 ((ar 16) (Int32.toNatClampNeg 2)) ((ar 17) (Int32.toNatClampNeg 2)))))) C dX5_giveBack_53 rfl (flk_X5_38 hk94) (fp_any (fpk_2 hk94)) (wl_tail (gset_self hg94)) rfl rfl (Nat.le_of_ble_eq_true rfl) (wl_t.trans (by rw [List.set_set]; rfl)) ?_
                          refine v_iinc (n := 59) (v := 3) (lv' := [(2, .int 3), (3, .ref (b + (u94 + 40))), (0, .ref (b + 9)), (1, .ref (b + 2))]) C dX5_giveBack_56 rfl rfl rfl (Nat.le_of_ble_eq_true rfl) rfl ?_
                          refine v_goto (t := 2) C dX5_giveBack_59 (by decide) ?_
                          refine v_iload_n (n := 3) C dX5_giveBack_2 rfl rfl rfl ?_
                          refine v_iconst (n := 4) (v := 3) C dX5_giveBack_3 rfl (by decide) ?_
                          refine v_icmp_ge (t := 62) (n := 7) C dX5_giveBack_4 (by decide) rfl (fun c_99 => ?_) (fun c_99 => ?_)
                          · skip
                            exact v_vret C dX5_giveBack_62 rfl ⟨rfl, hn, (List.set (List.set G u3 (hcl k3 dr3 ((ar 16) (Int32.toNatClampNeg 0)) ((ar 17) (Int32.toNatClampNeg 0)))) u94 (hcl k94 dr94 ((ar 16) (Int32.toNatClampNeg 2)) ((ar 17) (Int32.toNatClampNeg 2)))), gb_eq (f := (va_up (va_up hv 0 (some (k3, dr3, ((ar 16) (Int32.toNatClampNeg 0)), ((ar 17) (Int32.toNatClampNeg 0))))) 2 (some (k94, dr94, ((ar 16) (Int32.toNatClampNeg 2)), ((ar 17) (Int32.toNatClampNeg 2)))))) (g := gbF (sc 7) (ar 16) (ar 17) hv) (by simp [gbF, va_up, nI0, nI1, nI2, c_1, c_2, q_3, c_87, c_88, c_89, q_90, c_91, c_92, c_93, q_94, c_98, c_99]) (by simp [gbF, va_up, nI0, nI1, nI2, c_1, c_2, q_3, c_87, c_88, c_89, q_90, c_91, c_92, c_93, q_94, c_98, c_99]) (by simp [gbF, va_up, nI0, nI1, nI2, c_1, c_2, q_3, c_87, c_88, c_89, q_90, c_91, c_92, c_93, q_94, c_98, c_99]) (fun i h3 => by simp [gbF, va_up, show ¬ i = 0 by omega, show ¬ i = 1 by omega, show ¬ i = 2 by omega, show ¬ i < 3 by omega]) ▸ (HVr_set (i := 2) (dr := dr94) (ce := ((ar 16) (Int32.toNatClampNeg 2))) (sa := ((ar 17) (Int32.toNatClampNeg 2))) (HVr_set (i := 0) (dr := dr3) (ce := ((ar 16) (Int32.toNatClampNeg 0))) (sa := ((ar 17) (Int32.toNatClampNeg 0))) hr hu3 hk3 hg3) hu94 hk94 hg94), rfl⟩
                          · exact absurd c_99 (by decide)
                        · skip
                          refine v_aload_n (n := 26) C dX5_giveBack_25 rfl rfl rfl ?_
                          refine v_iload_n (n := 27) C dX5_giveBack_26 rfl rfl rfl ?_
                          refine v_null (n := 28) C dX5_giveBack_27 rfl ?_
                          refine v_aastN (n := 29) (es' := (wl D b sc ar (va_up hn 2 none) mh (List.set G u3 (hcl k3 dr3 ((ar 16) (Int32.toNatClampNeg 0)) ((ar 17) (Int32.toNatClampNeg 0)))))) C dX5_giveBack_28 rfl wl_c2 (vp_lit (by decide) (by decide)) (wl_h (i := 2) (v := none)) ?_
                          refine v_goto (t := 56) C dX5_giveBack_29 (by decide) ?_
                          refine v_iinc (n := 59) (v := 3) (lv' := [(2, .int 3), (3, .ref (b + (u94 + 40))), (0, .ref (b + 9)), (1, .ref (b + 2))]) C dX5_giveBack_56 rfl rfl rfl (Nat.le_of_ble_eq_true rfl) rfl ?_
                          refine v_goto (t := 2) C dX5_giveBack_59 (by decide) ?_
                          refine v_iload_n (n := 3) C dX5_giveBack_2 rfl rfl rfl ?_
                          refine v_iconst (n := 4) (v := 3) C dX5_giveBack_3 rfl (by decide) ?_
                          refine v_icmp_ge (t := 62) (n := 7) C dX5_giveBack_4 (by decide) rfl (fun c_100 => ?_) (fun c_100 => ?_)
                          · skip
                            exact v_vret C dX5_giveBack_62 rfl ⟨rfl, (va_up hn 2 none), (List.set G u3 (hcl k3 dr3 ((ar 16) (Int32.toNatClampNeg 0)) ((ar 17) (Int32.toNatClampNeg 0)))), gb_eq (f := (va_up (va_up hv 0 (some (k3, dr3, ((ar 16) (Int32.toNatClampNeg 0)), ((ar 17) (Int32.toNatClampNeg 0))))) 2 none)) (g := gbF (sc 7) (ar 16) (ar 17) hv) (by simp [gbF, va_up, nI0, nI1, nI2, c_1, c_2, q_3, c_87, c_88, c_89, q_90, c_91, c_92, c_93, q_94, c_98, c_100]) (by simp [gbF, va_up, nI0, nI1, nI2, c_1, c_2, q_3, c_87, c_88, c_89, q_90, c_91, c_92, c_93, q_94, c_98, c_100]) (by simp [gbF, va_up, nI0, nI1, nI2, c_1, c_2, q_3, c_87, c_88, c_89, q_90, c_91, c_92, c_93, q_94, c_98, c_100]) (fun i h3 => by simp [gbF, va_up, show ¬ i = 0 by omega, show ¬ i = 1 by omega, show ¬ i = 2 by omega, show ¬ i < 3 by omega]) ▸ (HVr_none (i := 2) (HVr_set (i := 0) (dr := dr3) (ce := ((ar 16) (Int32.toNatClampNeg 0))) (sa := ((ar 17) (Int32.toNatClampNeg 0))) hr hu3 hk3 hg3)), rfl⟩
                          · exact absurd c_100 (by decide)
                · skip
                  refine v_aload_n (n := 26) C dX5_giveBack_25 rfl rfl rfl ?_
                  refine v_iload_n (n := 27) C dX5_giveBack_26 rfl rfl rfl ?_
                  refine v_null (n := 28) C dX5_giveBack_27 rfl ?_
                  refine v_aastN (n := 29) (es' := (wl D b sc ar (va_up hn 1 none) mh (List.set G u3 (hcl k3 dr3 ((ar 16) (Int32.toNatClampNeg 0)) ((ar 17) (Int32.toNatClampNeg 0)))))) C dX5_giveBack_28 rfl wl_c2 (vp_lit (by decide) (by decide)) (wl_h (i := 1) (v := none)) ?_
                  refine v_goto (t := 56) C dX5_giveBack_29 (by decide) ?_
                  refine v_iinc (n := 59) (v := 2) (lv' := [(2, .int 2), (3, .null), (0, .ref (b + 9)), (1, .ref (b + 2))]) C dX5_giveBack_56 rfl rfl rfl (Nat.le_of_ble_eq_true rfl) rfl ?_
                  refine v_goto (t := 2) C dX5_giveBack_59 (by decide) ?_
                  refine v_iload_n (n := 3) C dX5_giveBack_2 rfl rfl rfl ?_
                  refine v_iconst (n := 4) (v := 3) C dX5_giveBack_3 rfl (by decide) ?_
                  refine v_icmp_ge (t := 62) (n := 7) C dX5_giveBack_4 (by decide) rfl (fun c_101 => ?_) (fun c_101 => ?_)
                  · exact absurd c_101 (by decide)
                  · skip
                    refine v_iload_n (n := 8) C dX5_giveBack_7 rfl rfl rfl ?_
                    refine v_aload_n (n := 9) C dX5_giveBack_8 rfl rfl rfl ?_
                    refine v_alenQ (n := 10) (v := 3) C dX5_giveBack_9 rfl wl_c2 rfl ?_
                    refine v_icmp_ge (t := 62) (n := 13) C dX5_giveBack_10 (by decide) rfl (fun c_102 => ?_) (fun c_102 => ?_)
                    · exact absurd c_102 (by decide)
                    · skip
                      refine v_aload_n (n := 14) C dX5_giveBack_13 rfl rfl rfl ?_
                      refine v_iload_n (n := 15) C dX5_giveBack_14 rfl rfl rfl ?_
                      refine v_aald (n := 16) C dX5_giveBack_15 rfl wl_c2 (vp_lit (by decide) (by decide)) ?_
                      change V p l e _ s m args below meth c D b 4 _ 0 0 (wl D b sc ar (va_up hn 1 none) mh (List.set G u3 (hcl k3 dr3 ((ar 16) (Int32.toNatClampNeg 0)) ((ar 17) (Int32.toNatClampNeg 0))))) [(2, .int 2), (3, .null), (0, .ref (b + 9)), (1, .ref (b + 2))] (va_rf (((va_up hn 1 none) 2).map (fun t => b + t)) :: []) 16
                      rcases q_103 : hv 2 with _ | ⟨k103, dr103, ce103, sa103⟩
                      · skip
                        refine v_stk (st' := .null :: []) (congrArg (fun z : Option Nat => va_rf (z.map (fun t => b + t)) :: []) ((HVr_none (i := 1) (HVr_set (i := 0) (dr := dr3) (ce := ((ar 16) (Int32.toNatClampNeg 0))) (sa := ((ar 17) (Int32.toNatClampNeg 0))) hr hu3 hk3 hg3)).1 2 q_103)) ?_
                        refine v_astore_nN (n := 17) (lv' := [(3, .null), (2, .int 2), (0, .ref (b + 9)), (1, .ref (b + 2))]) C dX5_giveBack_16 rfl rfl (Nat.le_of_ble_eq_true rfl) rfl ?_
                        refine v_iload_n (n := 18) C dX5_giveBack_17 rfl rfl rfl ?_
                        refine v_aload_n (n := 19) C dX5_giveBack_18 rfl rfl rfl ?_
                        refine v_get (n := 22) C dX5_giveBack_19 rfl fl_X5_29_X5 wl_c9 rfl ?_
                        refine v_icmp_lt (t := 32) (n := 25) C dX5_giveBack_22 (by decide) rfl (fun c_104 => ?_) (fun c_104 => ?_)
                        · skip
                          refine v_aload_nN (n := 33) C dX5_giveBack_32 rfl rfl rfl ?_
                          refine v_ifnullN (t := 56) C dX5_giveBack_33 (by decide) ?_
                          refine v_iinc (n := 59) (v := 3) (lv' := [(2, .int 3), (3, .null), (0, .ref (b + 9)), (1, .ref (b + 2))]) C dX5_giveBack_56 rfl rfl rfl (Nat.le_of_ble_eq_true rfl) rfl ?_
                          refine v_goto (t := 2) C dX5_giveBack_59 (by decide) ?_
                          refine v_iload_n (n := 3) C dX5_giveBack_2 rfl rfl rfl ?_
                          refine v_iconst (n := 4) (v := 3) C dX5_giveBack_3 rfl (by decide) ?_
                          refine v_icmp_ge (t := 62) (n := 7) C dX5_giveBack_4 (by decide) rfl (fun c_105 => ?_) (fun c_105 => ?_)
                          · skip
                            exact v_vret C dX5_giveBack_62 rfl ⟨rfl, (va_up hn 1 none), (List.set G u3 (hcl k3 dr3 ((ar 16) (Int32.toNatClampNeg 0)) ((ar 17) (Int32.toNatClampNeg 0)))), gb_eq (f := (va_up (va_up hv 0 (some (k3, dr3, ((ar 16) (Int32.toNatClampNeg 0)), ((ar 17) (Int32.toNatClampNeg 0))))) 1 none)) (g := gbF (sc 7) (ar 16) (ar 17) hv) (by simp [gbF, va_up, nI0, nI1, nI2, c_1, c_2, q_3, c_87, c_88, c_89, q_90, c_91, c_101, c_102, q_103, c_104, c_105]) (by simp [gbF, va_up, nI0, nI1, nI2, c_1, c_2, q_3, c_87, c_88, c_89, q_90, c_91, c_101, c_102, q_103, c_104, c_105]) (by simp [gbF, va_up, nI0, nI1, nI2, c_1, c_2, q_3, c_87, c_88, c_89, q_90, c_91, c_101, c_102, q_103, c_104, c_105]) (fun i h3 => by simp [gbF, va_up, show ¬ i = 0 by omega, show ¬ i = 1 by omega, show ¬ i = 2 by omega, show ¬ i < 3 by omega]) ▸ (HVr_none (i := 1) (HVr_set (i := 0) (dr := dr3) (ce := ((ar 16) (Int32.toNatClampNeg 0))) (sa := ((ar 17) (Int32.toNatClampNeg 0))) hr hu3 hk3 hg3)), rfl⟩
                          · exact absurd c_105 (by decide)
                        · skip
                          refine v_aload_n (n := 26) C dX5_giveBack_25 rfl rfl rfl ?_
                          refine v_iload_n (n := 27) C dX5_giveBack_26 rfl rfl rfl ?_
                          refine v_null (n := 28) C dX5_giveBack_27 rfl ?_
                          refine v_aastN (n := 29) (es' := (wl D b sc ar (va_up (va_up hn 1 none) 2 none) mh (List.set G u3 (hcl k3 dr3 ((ar 16) (Int32.toNatClampNeg 0)) ((ar 17) (Int32.toNatClampNeg 0)))))) C dX5_giveBack_28 rfl wl_c2 (vp_lit (by decide) (by decide)) (wl_h (i := 2) (v := none)) ?_
                          refine v_goto (t := 56) C dX5_giveBack_29 (by decide) ?_
                          refine v_iinc (n := 59) (v := 3) (lv' := [(2, .int 3), (3, .null), (0, .ref (b + 9)), (1, .ref (b + 2))]) C dX5_giveBack_56 rfl rfl rfl (Nat.le_of_ble_eq_true rfl) rfl ?_
                          refine v_goto (t := 2) C dX5_giveBack_59 (by decide) ?_
                          refine v_iload_n (n := 3) C dX5_giveBack_2 rfl rfl rfl ?_
                          refine v_iconst (n := 4) (v := 3) C dX5_giveBack_3 rfl (by decide) ?_
                          refine v_icmp_ge (t := 62) (n := 7) C dX5_giveBack_4 (by decide) rfl (fun c_106 => ?_) (fun c_106 => ?_)
                          · skip
                            exact v_vret C dX5_giveBack_62 rfl ⟨rfl, (va_up (va_up hn 1 none) 2 none), (List.set G u3 (hcl k3 dr3 ((ar 16) (Int32.toNatClampNeg 0)) ((ar 17) (Int32.toNatClampNeg 0)))), gb_eq (f := (va_up (va_up (va_up hv 0 (some (k3, dr3, ((ar 16) (Int32.toNatClampNeg 0)), ((ar 17) (Int32.toNatClampNeg 0))))) 1 none) 2 none)) (g := gbF (sc 7) (ar 16) (ar 17) hv) (by simp [gbF, va_up, nI0, nI1, nI2, c_1, c_2, q_3, c_87, c_88, c_89, q_90, c_91, c_101, c_102, q_103, c_104, c_106]) (by simp [gbF, va_up, nI0, nI1, nI2, c_1, c_2, q_3, c_87, c_88, c_89, q_90, c_91, c_101, c_102, q_103, c_104, c_106]) (by simp [gbF, va_up, nI0, nI1, nI2, c_1, c_2, q_3, c_87, c_88, c_89, q_90, c_91, c_101, c_102, q_103, c_104, c_106]) (fun i h3 => by simp [gbF, va_up, show ¬ i = 0 by omega, show ¬ i = 1 by omega, show ¬ i = 2 by omega, show ¬ i < 3 by omega]) ▸ (HVr_none (i := 2) (HVr_none (i := 1) (HVr_set (i := 0) (dr := dr3) (ce := ((ar 16) (Int32.toNatClampNeg 0))) (sa := ((ar 17) (Int32.toNatClampNeg 0))) hr hu3 hk3 hg3))), rfl⟩
                          · exact absurd c_106 (by decide)
                      · obtain ⟨u103, hu103, hk103, hg103⟩ := (HVr_none (i := 1) (HVr_set (i := 0) (dr := dr3) (ce := ((ar 16) (Int32.toNatClampNeg 0))) (sa := ((ar 17) (Int32.toNatClampNeg 0))) hr hu3 hk3 hg3)).2.1 2 k103 dr103 ce103 sa103 q_103
                        refine v_stk (st' := .ref (b + (u103 + 40)) :: []) (congrArg (fun z : Option Nat => va_rf (z.map (fun t => b + t)) :: []) hu103) ?_
                        refine v_astore_n (n := 17) (lv' := [(3, .ref (b + (u103 + 40))), (2, .int 2), (0, .ref (b + 9)), (1, .ref (b + 2))]) C dX5_giveBack_16 rfl rfl (Nat.le_of_ble_eq_true rfl) rfl ?_
                        refine v_iload_n (n := 18) C dX5_giveBack_17 rfl rfl rfl ?_
                        refine v_aload_n (n := 19) C dX5_giveBack_18 rfl rfl rfl ?_
                        refine v_get (n := 22) C dX5_giveBack_19 rfl fl_X5_29_X5 wl_c9 rfl ?_
                        refine v_icmp_lt (t := 32) (n := 25) C dX5_giveBack_22 (by decide) rfl (fun c_107 => ?_) (fun c_107 => ?_)
                        · skip
                          refine v_aload_n (n := 33) C dX5_giveBack_32 rfl rfl rfl ?_
                          refine v_ifnull (n := 36) C dX5_giveBack_33 rfl ?_
                          refine v_aload_n (n := 37) C dX5_giveBack_36 rfl rfl rfl ?_
                          refine v_aload_n (n := 38) C dX5_giveBack_37 rfl rfl rfl ?_
                          refine v_get (n := 41) C dX5_giveBack_38 rfl fl_X5_18_X5 wl_c9 rfl ?_
                          refine v_iload_n (n := 42) C dX5_giveBack_41 rfl rfl rfl ?_
                          refine v_iald (n := 43) C dX5_giveBack_42 rfl wl_c16 (vp_lit (by decide) (by decide)) ?_
                          refine v_put (n := 46) (es' := (wl D b sc ar (va_up hn 1 none) mh (List.set (List.set G u3 (hcl k3 dr3 ((ar 16) (Int32.toNatClampNeg 0)) ((ar 17) (Int32.toNatClampNeg 0)))) u103 (hcl k103 dr103 ((ar 16) (Int32.toNatClampNeg 2)) sa103)))) C dX5_giveBack_43 rfl (flk_X5_33 hk103) (fp_any (fpk_1 hk103)) (wl_tail hg103) rfl rfl (Nat.le_of_ble_eq_true rfl) wl_t ?_
                          refine v_aload_n (n := 47) C dX5_giveBack_46 rfl rfl rfl ?_
                          refine v_aload_n (n := 48) C dX5_giveBack_47 rfl rfl rfl ?_
                          refine v_get (n := 51) C dX5_giveBack_48 rfl fl_X5_22_X5 wl_c9 rfl ?_
                          refine v_iload_n (n := 52) C dX5_giveBack_51 rfl rfl rfl ?_
                          refine v_iald (n := 53) C dX5_giveBack_52 rfl wl_c17 (vp_lit (by decide) (by decide)) ?_
                          refine v_put (n := 56) (es' := (wl D b sc ar (va_up hn 1 none) mh (List.set (List.set G u3 (hcl k3 dr3 ((ar 16) (Int32.toNatClampNeg 0)) ((ar 17) (Int32.toNatClampNeg 0)))) u103 (hcl k103 dr103 ((ar 16) (Int32.toNatClampNeg 2)) ((ar 17) (Int32.toNatClampNeg 2)))))) C dX5_giveBack_53 rfl (flk_X5_38 hk103) (fp_any (fpk_2 hk103)) (wl_tail (gset_self hg103)) rfl rfl (Nat.le_of_ble_eq_true rfl) (wl_t.trans (by rw [List.set_set]; rfl)) ?_
                          refine v_iinc (n := 59) (v := 3) (lv' := [(2, .int 3), (3, .ref (b + (u103 + 40))), (0, .ref (b + 9)), (1, .ref (b + 2))]) C dX5_giveBack_56 rfl rfl rfl (Nat.le_of_ble_eq_true rfl) rfl ?_
                          refine v_goto (t := 2) C dX5_giveBack_59 (by decide) ?_
                          refine v_iload_n (n := 3) C dX5_giveBack_2 rfl rfl rfl ?_
                          refine v_iconst (n := 4) (v := 3) C dX5_giveBack_3 rfl (by decide) ?_
                          refine v_icmp_ge (t := 62) (n := 7) C dX5_giveBack_4 (by decide) rfl (fun c_108 => ?_) (fun c_108 => ?_)
                          · skip
                            exact v_vret C dX5_giveBack_62 rfl ⟨rfl, (va_up hn 1 none), (List.set (List.set G u3 (hcl k3 dr3 ((ar 16) (Int32.toNatClampNeg 0)) ((ar 17) (Int32.toNatClampNeg 0)))) u103 (hcl k103 dr103 ((ar 16) (Int32.toNatClampNeg 2)) ((ar 17) (Int32.toNatClampNeg 2)))), gb_eq (f := (va_up (va_up (va_up hv 0 (some (k3, dr3, ((ar 16) (Int32.toNatClampNeg 0)), ((ar 17) (Int32.toNatClampNeg 0))))) 1 none) 2 (some (k103, dr103, ((ar 16) (Int32.toNatClampNeg 2)), ((ar 17) (Int32.toNatClampNeg 2)))))) (g := gbF (sc 7) (ar 16) (ar 17) hv) (by simp [gbF, va_up, nI0, nI1, nI2, c_1, c_2, q_3, c_87, c_88, c_89, q_90, c_91, c_101, c_102, q_103, c_107, c_108]) (by simp [gbF, va_up, nI0, nI1, nI2, c_1, c_2, q_3, c_87, c_88, c_89, q_90, c_91, c_101, c_102, q_103, c_107, c_108]) (by simp [gbF, va_up, nI0, nI1, nI2, c_1, c_2, q_3, c_87, c_88, c_89, q_90, c_91, c_101, c_102, q_103, c_107, c_108]) (fun i h3 => by simp [gbF, va_up, show ¬ i = 0 by omega, show ¬ i = 1 by omega, show ¬ i = 2 by omega, show ¬ i < 3 by omega]) ▸ (HVr_set (i := 2) (dr := dr103) (ce := ((ar 16) (Int32.toNatClampNeg 2))) (sa := ((ar 17) (Int32.toNatClampNeg 2))) (HVr_none (i := 1) (HVr_set (i := 0) (dr := dr3) (ce := ((ar 16) (Int32.toNatClampNeg 0))) (sa := ((ar 17) (Int32.toNatClampNeg 0))) hr hu3 hk3 hg3)) hu103 hk103 hg103), rfl⟩
                          · exact absurd c_108 (by decide)
                        · skip
                          refine v_aload_n (n := 26) C dX5_giveBack_25 rfl rfl rfl ?_
                          refine v_iload_n (n := 27) C dX5_giveBack_26 rfl rfl rfl ?_
                          refine v_null (n := 28) C dX5_giveBack_27 rfl ?_
                          refine v_aastN (n := 29) (es' := (wl D b sc ar (va_up (va_up hn 1 none) 2 none) mh (List.set G u3 (hcl k3 dr3 ((ar 16) (Int32.toNatClampNeg 0)) ((ar 17) (Int32.toNatClampNeg 0)))))) C dX5_giveBack_28 rfl wl_c2 (vp_lit (by decide) (by decide)) (wl_h (i := 2) (v := none)) ?_
                          refine v_goto (t := 56) C dX5_giveBack_29 (by decide) ?_
                          refine v_iinc (n := 59) (v := 3) (lv' := [(2, .int 3), (3, .ref (b + (u103 + 40))), (0, .ref (b + 9)), (1, .ref (b + 2))]) C dX5_giveBack_56 rfl rfl rfl (Nat.le_of_ble_eq_true rfl) rfl ?_
                          refine v_goto (t := 2) C dX5_giveBack_59 (by decide) ?_
                          refine v_iload_n (n := 3) C dX5_giveBack_2 rfl rfl rfl ?_
                          refine v_iconst (n := 4) (v := 3) C dX5_giveBack_3 rfl (by decide) ?_
                          refine v_icmp_ge (t := 62) (n := 7) C dX5_giveBack_4 (by decide) rfl (fun c_109 => ?_) (fun c_109 => ?_)
                          · skip
                            exact v_vret C dX5_giveBack_62 rfl ⟨rfl, (va_up (va_up hn 1 none) 2 none), (List.set G u3 (hcl k3 dr3 ((ar 16) (Int32.toNatClampNeg 0)) ((ar 17) (Int32.toNatClampNeg 0)))), gb_eq (f := (va_up (va_up (va_up hv 0 (some (k3, dr3, ((ar 16) (Int32.toNatClampNeg 0)), ((ar 17) (Int32.toNatClampNeg 0))))) 1 none) 2 none)) (g := gbF (sc 7) (ar 16) (ar 17) hv) (by simp [gbF, va_up, nI0, nI1, nI2, c_1, c_2, q_3, c_87, c_88, c_89, q_90, c_91, c_101, c_102, q_103, c_107, c_109]) (by simp [gbF, va_up, nI0, nI1, nI2, c_1, c_2, q_3, c_87, c_88, c_89, q_90, c_91, c_101, c_102, q_103, c_107, c_109]) (by simp [gbF, va_up, nI0, nI1, nI2, c_1, c_2, q_3, c_87, c_88, c_89, q_90, c_91, c_101, c_102, q_103, c_107, c_109]) (fun i h3 => by simp [gbF, va_up, show ¬ i = 0 by omega, show ¬ i = 1 by omega, show ¬ i = 2 by omega, show ¬ i < 3 by omega]) ▸ (HVr_none (i := 2) (HVr_none (i := 1) (HVr_set (i := 0) (dr := dr3) (ce := ((ar 16) (Int32.toNatClampNeg 0))) (sa := ((ar 17) (Int32.toNatClampNeg 0))) hr hu3 hk3 hg3))), rfl⟩
                          · exact absurd c_109 (by decide)
              · obtain ⟨u90, hu90, hk90, hg90⟩ := (HVr_set (i := 0) (dr := dr3) (ce := ((ar 16) (Int32.toNatClampNeg 0))) (sa := ((ar 17) (Int32.toNatClampNeg 0))) hr hu3 hk3 hg3).2.1 1 k90 dr90 ce90 sa90 q_90
                refine v_stk (st' := .ref (b + (u90 + 40)) :: []) (congrArg (fun z : Option Nat => va_rf (z.map (fun t => b + t)) :: []) hu90) ?_
                refine v_astore_n (n := 17) (lv' := [(3, .ref (b + (u90 + 40))), (2, .int 1), (0, .ref (b + 9)), (1, .ref (b + 2))]) C dX5_giveBack_16 rfl rfl (Nat.le_of_ble_eq_true rfl) rfl ?_
                refine v_iload_n (n := 18) C dX5_giveBack_17 rfl rfl rfl ?_
                refine v_aload_n (n := 19) C dX5_giveBack_18 rfl rfl rfl ?_
                refine v_get (n := 22) C dX5_giveBack_19 rfl fl_X5_29_X5 wl_c9 rfl ?_
                refine v_icmp_lt (t := 32) (n := 25) C dX5_giveBack_22 (by decide) rfl (fun c_110 => ?_) (fun c_110 => ?_)
                · skip
                  refine v_aload_n (n := 33) C dX5_giveBack_32 rfl rfl rfl ?_
                  refine v_ifnull (n := 36) C dX5_giveBack_33 rfl ?_
                  refine v_aload_n (n := 37) C dX5_giveBack_36 rfl rfl rfl ?_
                  refine v_aload_n (n := 38) C dX5_giveBack_37 rfl rfl rfl ?_
                  refine v_get (n := 41) C dX5_giveBack_38 rfl fl_X5_18_X5 wl_c9 rfl ?_
                  refine v_iload_n (n := 42) C dX5_giveBack_41 rfl rfl rfl ?_
                  refine v_iald (n := 43) C dX5_giveBack_42 rfl wl_c16 (vp_lit (by decide) (by decide)) ?_
                  refine v_put (n := 46) (es' := (wl D b sc ar hn mh (List.set (List.set G u3 (hcl k3 dr3 ((ar 16) (Int32.toNatClampNeg 0)) ((ar 17) (Int32.toNatClampNeg 0)))) u90 (hcl k90 dr90 ((ar 16) (Int32.toNatClampNeg 1)) sa90)))) C dX5_giveBack_43 rfl (flk_X5_33 hk90) (fp_any (fpk_1 hk90)) (wl_tail hg90) rfl rfl (Nat.le_of_ble_eq_true rfl) wl_t ?_
                  refine v_aload_n (n := 47) C dX5_giveBack_46 rfl rfl rfl ?_
                  refine v_aload_n (n := 48) C dX5_giveBack_47 rfl rfl rfl ?_
                  refine v_get (n := 51) C dX5_giveBack_48 rfl fl_X5_22_X5 wl_c9 rfl ?_
                  refine v_iload_n (n := 52) C dX5_giveBack_51 rfl rfl rfl ?_
                  refine v_iald (n := 53) C dX5_giveBack_52 rfl wl_c17 (vp_lit (by decide) (by decide)) ?_
                  refine v_put (n := 56) (es' := (wl D b sc ar hn mh (List.set (List.set G u3 (hcl k3 dr3 ((ar 16) (Int32.toNatClampNeg 0)) ((ar 17) (Int32.toNatClampNeg 0)))) u90 (hcl k90 dr90 ((ar 16) (Int32.toNatClampNeg 1)) ((ar 17) (Int32.toNatClampNeg 1)))))) C dX5_giveBack_53 rfl (flk_X5_38 hk90) (fp_any (fpk_2 hk90)) (wl_tail (gset_self hg90)) rfl rfl (Nat.le_of_ble_eq_true rfl) (wl_t.trans (by rw [List.set_set]; rfl)) ?_
                  refine v_iinc (n := 59) (v := 2) (lv' := [(2, .int 2), (3, .ref (b + (u90 + 40))), (0, .ref (b + 9)), (1, .ref (b + 2))]) C dX5_giveBack_56 rfl rfl rfl (Nat.le_of_ble_eq_true rfl) rfl ?_
                  refine v_goto (t := 2) C dX5_giveBack_59 (by decide) ?_
                  refine v_iload_n (n := 3) C dX5_giveBack_2 rfl rfl rfl ?_
                  refine v_iconst (n := 4) (v := 3) C dX5_giveBack_3 rfl (by decide) ?_
                  refine v_icmp_ge (t := 62) (n := 7) C dX5_giveBack_4 (by decide) rfl (fun c_111 => ?_) (fun c_111 => ?_)
                  · exact absurd c_111 (by decide)
                  · skip
                    refine v_iload_n (n := 8) C dX5_giveBack_7 rfl rfl rfl ?_
                    refine v_aload_n (n := 9) C dX5_giveBack_8 rfl rfl rfl ?_
                    refine v_alenQ (n := 10) (v := 3) C dX5_giveBack_9 rfl wl_c2 rfl ?_
                    refine v_icmp_ge (t := 62) (n := 13) C dX5_giveBack_10 (by decide) rfl (fun c_112 => ?_) (fun c_112 => ?_)
                    · exact absurd c_112 (by decide)
                    · skip
                      refine v_aload_n (n := 14) C dX5_giveBack_13 rfl rfl rfl ?_
                      refine v_iload_n (n := 15) C dX5_giveBack_14 rfl rfl rfl ?_
                      refine v_aald (n := 16) C dX5_giveBack_15 rfl wl_c2 (vp_lit (by decide) (by decide)) ?_
                      change V p l e _ s m args below meth c D b 4 _ 0 0 (wl D b sc ar hn mh (List.set (List.set G u3 (hcl k3 dr3 ((ar 16) (Int32.toNatClampNeg 0)) ((ar 17) (Int32.toNatClampNeg 0)))) u90 (hcl k90 dr90 ((ar 16) (Int32.toNatClampNeg 1)) ((ar 17) (Int32.toNatClampNeg 1))))) [(2, .int 2), (3, .ref (b + (u90 + 40))), (0, .ref (b + 9)), (1, .ref (b + 2))] (va_rf ((hn 2).map (fun t => b + t)) :: []) 16
                      rcases q_113 : hv 2 with _ | ⟨k113, dr113, ce113, sa113⟩
                      · skip
                        refine v_stk (st' := .null :: []) (congrArg (fun z : Option Nat => va_rf (z.map (fun t => b + t)) :: []) ((HVr_set (i := 1) (dr := dr90) (ce := ((ar 16) (Int32.toNatClampNeg 1))) (sa := ((ar 17) (Int32.toNatClampNeg 1))) (HVr_set (i := 0) (dr := dr3) (ce := ((ar 16) (Int32.toNatClampNeg 0))) (sa := ((ar 17) (Int32.toNatClampNeg 0))) hr hu3 hk3 hg3) hu90 hk90 hg90).1 2 q_113)) ?_
                        refine v_astore_nN (n := 17) (lv' := [(3, .null), (2, .int 2), (0, .ref (b + 9)), (1, .ref (b + 2))]) C dX5_giveBack_16 rfl rfl (Nat.le_of_ble_eq_true rfl) rfl ?_
                        refine v_iload_n (n := 18) C dX5_giveBack_17 rfl rfl rfl ?_
                        refine v_aload_n (n := 19) C dX5_giveBack_18 rfl rfl rfl ?_
                        refine v_get (n := 22) C dX5_giveBack_19 rfl fl_X5_29_X5 wl_c9 rfl ?_
                        refine v_icmp_lt (t := 32) (n := 25) C dX5_giveBack_22 (by decide) rfl (fun c_114 => ?_) (fun c_114 => ?_)
                        · skip
                          refine v_aload_nN (n := 33) C dX5_giveBack_32 rfl rfl rfl ?_
                          refine v_ifnullN (t := 56) C dX5_giveBack_33 (by decide) ?_
                          refine v_iinc (n := 59) (v := 3) (lv' := [(2, .int 3), (3, .null), (0, .ref (b + 9)), (1, .ref (b + 2))]) C dX5_giveBack_56 rfl rfl rfl (Nat.le_of_ble_eq_true rfl) rfl ?_
                          refine v_goto (t := 2) C dX5_giveBack_59 (by decide) ?_
                          refine v_iload_n (n := 3) C dX5_giveBack_2 rfl rfl rfl ?_
                          refine v_iconst (n := 4) (v := 3) C dX5_giveBack_3 rfl (by decide) ?_
                          refine v_icmp_ge (t := 62) (n := 7) C dX5_giveBack_4 (by decide) rfl (fun c_115 => ?_) (fun c_115 => ?_)
                          · skip
                            exact v_vret C dX5_giveBack_62 rfl ⟨rfl, hn, (List.set (List.set G u3 (hcl k3 dr3 ((ar 16) (Int32.toNatClampNeg 0)) ((ar 17) (Int32.toNatClampNeg 0)))) u90 (hcl k90 dr90 ((ar 16) (Int32.toNatClampNeg 1)) ((ar 17) (Int32.toNatClampNeg 1)))), gb_eq (f := (va_up (va_up hv 0 (some (k3, dr3, ((ar 16) (Int32.toNatClampNeg 0)), ((ar 17) (Int32.toNatClampNeg 0))))) 1 (some (k90, dr90, ((ar 16) (Int32.toNatClampNeg 1)), ((ar 17) (Int32.toNatClampNeg 1)))))) (g := gbF (sc 7) (ar 16) (ar 17) hv) (by simp [gbF, va_up, nI0, nI1, nI2, c_1, c_2, q_3, c_87, c_88, c_89, q_90, c_110, c_111, c_112, q_113, c_114, c_115]) (by simp [gbF, va_up, nI0, nI1, nI2, c_1, c_2, q_3, c_87, c_88, c_89, q_90, c_110, c_111, c_112, q_113, c_114, c_115]) (by simp [gbF, va_up, nI0, nI1, nI2, c_1, c_2, q_3, c_87, c_88, c_89, q_90, c_110, c_111, c_112, q_113, c_114, c_115]) (fun i h3 => by simp [gbF, va_up, show ¬ i = 0 by omega, show ¬ i = 1 by omega, show ¬ i = 2 by omega, show ¬ i < 3 by omega]) ▸ (HVr_set (i := 1) (dr := dr90) (ce := ((ar 16) (Int32.toNatClampNeg 1))) (sa := ((ar 17) (Int32.toNatClampNeg 1))) (HVr_set (i := 0) (dr := dr3) (ce := ((ar 16) (Int32.toNatClampNeg 0))) (sa := ((ar 17) (Int32.toNatClampNeg 0))) hr hu3 hk3 hg3) hu90 hk90 hg90), rfl⟩
                          · exact absurd c_115 (by decide)
                        · skip
                          refine v_aload_n (n := 26) C dX5_giveBack_25 rfl rfl rfl ?_
                          refine v_iload_n (n := 27) C dX5_giveBack_26 rfl rfl rfl ?_
                          refine v_null (n := 28) C dX5_giveBack_27 rfl ?_
                          refine v_aastN (n := 29) (es' := (wl D b sc ar (va_up hn 2 none) mh (List.set (List.set G u3 (hcl k3 dr3 ((ar 16) (Int32.toNatClampNeg 0)) ((ar 17) (Int32.toNatClampNeg 0)))) u90 (hcl k90 dr90 ((ar 16) (Int32.toNatClampNeg 1)) ((ar 17) (Int32.toNatClampNeg 1)))))) C dX5_giveBack_28 rfl wl_c2 (vp_lit (by decide) (by decide)) (wl_h (i := 2) (v := none)) ?_
                          refine v_goto (t := 56) C dX5_giveBack_29 (by decide) ?_
                          refine v_iinc (n := 59) (v := 3) (lv' := [(2, .int 3), (3, .null), (0, .ref (b + 9)), (1, .ref (b + 2))]) C dX5_giveBack_56 rfl rfl rfl (Nat.le_of_ble_eq_true rfl) rfl ?_
                          refine v_goto (t := 2) C dX5_giveBack_59 (by decide) ?_
                          refine v_iload_n (n := 3) C dX5_giveBack_2 rfl rfl rfl ?_
                          refine v_iconst (n := 4) (v := 3) C dX5_giveBack_3 rfl (by decide) ?_
                          refine v_icmp_ge (t := 62) (n := 7) C dX5_giveBack_4 (by decide) rfl (fun c_116 => ?_) (fun c_116 => ?_)
                          · skip
                            exact v_vret C dX5_giveBack_62 rfl ⟨rfl, (va_up hn 2 none), (List.set (List.set G u3 (hcl k3 dr3 ((ar 16) (Int32.toNatClampNeg 0)) ((ar 17) (Int32.toNatClampNeg 0)))) u90 (hcl k90 dr90 ((ar 16) (Int32.toNatClampNeg 1)) ((ar 17) (Int32.toNatClampNeg 1)))), gb_eq (f := (va_up (va_up (va_up hv 0 (some (k3, dr3, ((ar 16) (Int32.toNatClampNeg 0)), ((ar 17) (Int32.toNatClampNeg 0))))) 1 (some (k90, dr90, ((ar 16) (Int32.toNatClampNeg 1)), ((ar 17) (Int32.toNatClampNeg 1))))) 2 none)) (g := gbF (sc 7) (ar 16) (ar 17) hv) (by simp [gbF, va_up, nI0, nI1, nI2, c_1, c_2, q_3, c_87, c_88, c_89, q_90, c_110, c_111, c_112, q_113, c_114, c_116]) (by simp [gbF, va_up, nI0, nI1, nI2, c_1, c_2, q_3, c_87, c_88, c_89, q_90, c_110, c_111, c_112, q_113, c_114, c_116]) (by simp [gbF, va_up, nI0, nI1, nI2, c_1, c_2, q_3, c_87, c_88, c_89, q_90, c_110, c_111, c_112, q_113, c_114, c_116]) (fun i h3 => by simp [gbF, va_up, show ¬ i = 0 by omega, show ¬ i = 1 by omega, show ¬ i = 2 by omega, show ¬ i < 3 by omega]) ▸ (HVr_none (i := 2) (HVr_set (i := 1) (dr := dr90) (ce := ((ar 16) (Int32.toNatClampNeg 1))) (sa := ((ar 17) (Int32.toNatClampNeg 1))) (HVr_set (i := 0) (dr := dr3) (ce := ((ar 16) (Int32.toNatClampNeg 0))) (sa := ((ar 17) (Int32.toNatClampNeg 0))) hr hu3 hk3 hg3) hu90 hk90 hg90)), rfl⟩
                          · exact absurd c_116 (by decide)
                      · obtain ⟨u113, hu113, hk113, hg113⟩ := (HVr_set (i := 1) (dr := dr90) (ce := ((ar 16) (Int32.toNatClampNeg 1))) (sa := ((ar 17) (Int32.toNatClampNeg 1))) (HVr_set (i := 0) (dr := dr3) (ce := ((ar 16) (Int32.toNatClampNeg 0))) (sa := ((ar 17) (Int32.toNatClampNeg 0))) hr hu3 hk3 hg3) hu90 hk90 hg90).2.1 2 k113 dr113 ce113 sa113 q_113
                        refine v_stk (st' := .ref (b + (u113 + 40)) :: []) (congrArg (fun z : Option Nat => va_rf (z.map (fun t => b + t)) :: []) hu113) ?_
                        refine v_astore_n (n := 17) (lv' := [(3, .ref (b + (u113 + 40))), (2, .int 2), (0, .ref (b + 9)), (1, .ref (b + 2))]) C dX5_giveBack_16 rfl rfl (Nat.le_of_ble_eq_true rfl) rfl ?_
                        refine v_iload_n (n := 18) C dX5_giveBack_17 rfl rfl rfl ?_
                        refine v_aload_n (n := 19) C dX5_giveBack_18 rfl rfl rfl ?_
                        refine v_get (n := 22) C dX5_giveBack_19 rfl fl_X5_29_X5 wl_c9 rfl ?_
                        refine v_icmp_lt (t := 32) (n := 25) C dX5_giveBack_22 (by decide) rfl (fun c_117 => ?_) (fun c_117 => ?_)
                        · skip
                          refine v_aload_n (n := 33) C dX5_giveBack_32 rfl rfl rfl ?_
                          refine v_ifnull (n := 36) C dX5_giveBack_33 rfl ?_
                          refine v_aload_n (n := 37) C dX5_giveBack_36 rfl rfl rfl ?_
                          refine v_aload_n (n := 38) C dX5_giveBack_37 rfl rfl rfl ?_
                          refine v_get (n := 41) C dX5_giveBack_38 rfl fl_X5_18_X5 wl_c9 rfl ?_
                          refine v_iload_n (n := 42) C dX5_giveBack_41 rfl rfl rfl ?_
                          refine v_iald (n := 43) C dX5_giveBack_42 rfl wl_c16 (vp_lit (by decide) (by decide)) ?_
                          refine v_put (n := 46) (es' := (wl D b sc ar hn mh (List.set (List.set (List.set G u3 (hcl k3 dr3 ((ar 16) (Int32.toNatClampNeg 0)) ((ar 17) (Int32.toNatClampNeg 0)))) u90 (hcl k90 dr90 ((ar 16) (Int32.toNatClampNeg 1)) ((ar 17) (Int32.toNatClampNeg 1)))) u113 (hcl k113 dr113 ((ar 16) (Int32.toNatClampNeg 2)) sa113)))) C dX5_giveBack_43 rfl (flk_X5_33 hk113) (fp_any (fpk_1 hk113)) (wl_tail hg113) rfl rfl (Nat.le_of_ble_eq_true rfl) wl_t ?_
                          refine v_aload_n (n := 47) C dX5_giveBack_46 rfl rfl rfl ?_
                          refine v_aload_n (n := 48) C dX5_giveBack_47 rfl rfl rfl ?_
                          refine v_get (n := 51) C dX5_giveBack_48 rfl fl_X5_22_X5 wl_c9 rfl ?_
                          refine v_iload_n (n := 52) C dX5_giveBack_51 rfl rfl rfl ?_
                          refine v_iald (n := 53) C dX5_giveBack_52 rfl wl_c17 (vp_lit (by decide) (by decide)) ?_
                          refine v_put (n := 56) (es' := (wl D b sc ar hn mh (List.set (List.set (List.set G u3 (hcl k3 dr3 ((ar 16) (Int32.toNatClampNeg 0)) ((ar 17) (Int32.toNatClampNeg 0)))) u90 (hcl k90 dr90 ((ar 16) (Int32.toNatClampNeg 1)) ((ar 17) (Int32.toNatClampNeg 1)))) u113 (hcl k113 dr113 ((ar 16) (Int32.toNatClampNeg 2)) ((ar 17) (Int32.toNatClampNeg 2)))))) C dX5_giveBack_53 rfl (flk_X5_38 hk113) (fp_any (fpk_2 hk113)) (wl_tail (gset_self hg113)) rfl rfl (Nat.le_of_ble_eq_true rfl) (wl_t.trans (by rw [List.set_set]; rfl)) ?_
                          refine v_iinc (n := 59) (v := 3) (lv' := [(2, .int 3), (3, .ref (b + (u113 + 40))), (0, .ref (b + 9)), (1, .ref (b + 2))]) C dX5_giveBack_56 rfl rfl rfl (Nat.le_of_ble_eq_true rfl) rfl ?_
                          refine v_goto (t := 2) C dX5_giveBack_59 (by decide) ?_
                          refine v_iload_n (n := 3) C dX5_giveBack_2 rfl rfl rfl ?_
                          refine v_iconst (n := 4) (v := 3) C dX5_giveBack_3 rfl (by decide) ?_
                          refine v_icmp_ge (t := 62) (n := 7) C dX5_giveBack_4 (by decide) rfl (fun c_118 => ?_) (fun c_118 => ?_)
                          · skip
                            exact v_vret C dX5_giveBack_62 rfl ⟨rfl, hn, (List.set (List.set (List.set G u3 (hcl k3 dr3 ((ar 16) (Int32.toNatClampNeg 0)) ((ar 17) (Int32.toNatClampNeg 0)))) u90 (hcl k90 dr90 ((ar 16) (Int32.toNatClampNeg 1)) ((ar 17) (Int32.toNatClampNeg 1)))) u113 (hcl k113 dr113 ((ar 16) (Int32.toNatClampNeg 2)) ((ar 17) (Int32.toNatClampNeg 2)))), gb_eq (f := (va_up (va_up (va_up hv 0 (some (k3, dr3, ((ar 16) (Int32.toNatClampNeg 0)), ((ar 17) (Int32.toNatClampNeg 0))))) 1 (some (k90, dr90, ((ar 16) (Int32.toNatClampNeg 1)), ((ar 17) (Int32.toNatClampNeg 1))))) 2 (some (k113, dr113, ((ar 16) (Int32.toNatClampNeg 2)), ((ar 17) (Int32.toNatClampNeg 2)))))) (g := gbF (sc 7) (ar 16) (ar 17) hv) (by simp [gbF, va_up, nI0, nI1, nI2, c_1, c_2, q_3, c_87, c_88, c_89, q_90, c_110, c_111, c_112, q_113, c_117, c_118]) (by simp [gbF, va_up, nI0, nI1, nI2, c_1, c_2, q_3, c_87, c_88, c_89, q_90, c_110, c_111, c_112, q_113, c_117, c_118]) (by simp [gbF, va_up, nI0, nI1, nI2, c_1, c_2, q_3, c_87, c_88, c_89, q_90, c_110, c_111, c_112, q_113, c_117, c_118]) (fun i h3 => by simp [gbF, va_up, show ¬ i = 0 by omega, show ¬ i = 1 by omega, show ¬ i = 2 by omega, show ¬ i < 3 by omega]) ▸ (HVr_set (i := 2) (dr := dr113) (ce := ((ar 16) (Int32.toNatClampNeg 2))) (sa := ((ar 17) (Int32.toNatClampNeg 2))) (HVr_set (i := 1) (dr := dr90) (ce := ((ar 16) (Int32.toNatClampNeg 1))) (sa := ((ar 17) (Int32.toNatClampNeg 1))) (HVr_set (i := 0) (dr := dr3) (ce := ((ar 16) (Int32.toNatClampNeg 0))) (sa := ((ar 17) (Int32.toNatClampNeg 0))) hr hu3 hk3 hg3) hu90 hk90 hg90) hu113 hk113 hg113), rfl⟩
                          · exact absurd c_118 (by decide)
                        · skip
                          refine v_aload_n (n := 26) C dX5_giveBack_25 rfl rfl rfl ?_
                          refine v_iload_n (n := 27) C dX5_giveBack_26 rfl rfl rfl ?_
                          refine v_null (n := 28) C dX5_giveBack_27 rfl ?_
                          refine v_aastN (n := 29) (es' := (wl D b sc ar (va_up hn 2 none) mh (List.set (List.set G u3 (hcl k3 dr3 ((ar 16) (Int32.toNatClampNeg 0)) ((ar 17) (Int32.toNatClampNeg 0)))) u90 (hcl k90 dr90 ((ar 16) (Int32.toNatClampNeg 1)) ((ar 17) (Int32.toNatClampNeg 1)))))) C dX5_giveBack_28 rfl wl_c2 (vp_lit (by decide) (by decide)) (wl_h (i := 2) (v := none)) ?_
                          refine v_goto (t := 56) C dX5_giveBack_29 (by decide) ?_
                          refine v_iinc (n := 59) (v := 3) (lv' := [(2, .int 3), (3, .ref (b + (u113 + 40))), (0, .ref (b + 9)), (1, .ref (b + 2))]) C dX5_giveBack_56 rfl rfl rfl (Nat.le_of_ble_eq_true rfl) rfl ?_
                          refine v_goto (t := 2) C dX5_giveBack_59 (by decide) ?_
                          refine v_iload_n (n := 3) C dX5_giveBack_2 rfl rfl rfl ?_
                          refine v_iconst (n := 4) (v := 3) C dX5_giveBack_3 rfl (by decide) ?_
                          refine v_icmp_ge (t := 62) (n := 7) C dX5_giveBack_4 (by decide) rfl (fun c_119 => ?_) (fun c_119 => ?_)
                          · skip
                            exact v_vret C dX5_giveBack_62 rfl ⟨rfl, (va_up hn 2 none), (List.set (List.set G u3 (hcl k3 dr3 ((ar 16) (Int32.toNatClampNeg 0)) ((ar 17) (Int32.toNatClampNeg 0)))) u90 (hcl k90 dr90 ((ar 16) (Int32.toNatClampNeg 1)) ((ar 17) (Int32.toNatClampNeg 1)))), gb_eq (f := (va_up (va_up (va_up hv 0 (some (k3, dr3, ((ar 16) (Int32.toNatClampNeg 0)), ((ar 17) (Int32.toNatClampNeg 0))))) 1 (some (k90, dr90, ((ar 16) (Int32.toNatClampNeg 1)), ((ar 17) (Int32.toNatClampNeg 1))))) 2 none)) (g := gbF (sc 7) (ar 16) (ar 17) hv) (by simp [gbF, va_up, nI0, nI1, nI2, c_1, c_2, q_3, c_87, c_88, c_89, q_90, c_110, c_111, c_112, q_113, c_117, c_119]) (by simp [gbF, va_up, nI0, nI1, nI2, c_1, c_2, q_3, c_87, c_88, c_89, q_90, c_110, c_111, c_112, q_113, c_117, c_119]) (by simp [gbF, va_up, nI0, nI1, nI2, c_1, c_2, q_3, c_87, c_88, c_89, q_90, c_110, c_111, c_112, q_113, c_117, c_119]) (fun i h3 => by simp [gbF, va_up, show ¬ i = 0 by omega, show ¬ i = 1 by omega, show ¬ i = 2 by omega, show ¬ i < 3 by omega]) ▸ (HVr_none (i := 2) (HVr_set (i := 1) (dr := dr90) (ce := ((ar 16) (Int32.toNatClampNeg 1))) (sa := ((ar 17) (Int32.toNatClampNeg 1))) (HVr_set (i := 0) (dr := dr3) (ce := ((ar 16) (Int32.toNatClampNeg 0))) (sa := ((ar 17) (Int32.toNatClampNeg 0))) hr hu3 hk3 hg3) hu90 hk90 hg90)), rfl⟩
                          · exact absurd c_119 (by decide)
                · skip
                  refine v_aload_n (n := 26) C dX5_giveBack_25 rfl rfl rfl ?_
                  refine v_iload_n (n := 27) C dX5_giveBack_26 rfl rfl rfl ?_
                  refine v_null (n := 28) C dX5_giveBack_27 rfl ?_
                  refine v_aastN (n := 29) (es' := (wl D b sc ar (va_up hn 1 none) mh (List.set G u3 (hcl k3 dr3 ((ar 16) (Int32.toNatClampNeg 0)) ((ar 17) (Int32.toNatClampNeg 0)))))) C dX5_giveBack_28 rfl wl_c2 (vp_lit (by decide) (by decide)) (wl_h (i := 1) (v := none)) ?_
                  refine v_goto (t := 56) C dX5_giveBack_29 (by decide) ?_
                  refine v_iinc (n := 59) (v := 2) (lv' := [(2, .int 2), (3, .ref (b + (u90 + 40))), (0, .ref (b + 9)), (1, .ref (b + 2))]) C dX5_giveBack_56 rfl rfl rfl (Nat.le_of_ble_eq_true rfl) rfl ?_
                  refine v_goto (t := 2) C dX5_giveBack_59 (by decide) ?_
                  refine v_iload_n (n := 3) C dX5_giveBack_2 rfl rfl rfl ?_
                  refine v_iconst (n := 4) (v := 3) C dX5_giveBack_3 rfl (by decide) ?_
                  refine v_icmp_ge (t := 62) (n := 7) C dX5_giveBack_4 (by decide) rfl (fun c_120 => ?_) (fun c_120 => ?_)
                  · exact absurd c_120 (by decide)
                  · skip
                    refine v_iload_n (n := 8) C dX5_giveBack_7 rfl rfl rfl ?_
                    refine v_aload_n (n := 9) C dX5_giveBack_8 rfl rfl rfl ?_
                    refine v_alenQ (n := 10) (v := 3) C dX5_giveBack_9 rfl wl_c2 rfl ?_
                    refine v_icmp_ge (t := 62) (n := 13) C dX5_giveBack_10 (by decide) rfl (fun c_121 => ?_) (fun c_121 => ?_)
                    · exact absurd c_121 (by decide)
                    · skip
                      refine v_aload_n (n := 14) C dX5_giveBack_13 rfl rfl rfl ?_
                      refine v_iload_n (n := 15) C dX5_giveBack_14 rfl rfl rfl ?_
                      refine v_aald (n := 16) C dX5_giveBack_15 rfl wl_c2 (vp_lit (by decide) (by decide)) ?_
                      change V p l e _ s m args below meth c D b 4 _ 0 0 (wl D b sc ar (va_up hn 1 none) mh (List.set G u3 (hcl k3 dr3 ((ar 16) (Int32.toNatClampNeg 0)) ((ar 17) (Int32.toNatClampNeg 0))))) [(2, .int 2), (3, .ref (b + (u90 + 40))), (0, .ref (b + 9)), (1, .ref (b + 2))] (va_rf (((va_up hn 1 none) 2).map (fun t => b + t)) :: []) 16
                      rcases q_122 : hv 2 with _ | ⟨k122, dr122, ce122, sa122⟩
                      · skip
                        refine v_stk (st' := .null :: []) (congrArg (fun z : Option Nat => va_rf (z.map (fun t => b + t)) :: []) ((HVr_none (i := 1) (HVr_set (i := 0) (dr := dr3) (ce := ((ar 16) (Int32.toNatClampNeg 0))) (sa := ((ar 17) (Int32.toNatClampNeg 0))) hr hu3 hk3 hg3)).1 2 q_122)) ?_
                        refine v_astore_nN (n := 17) (lv' := [(3, .null), (2, .int 2), (0, .ref (b + 9)), (1, .ref (b + 2))]) C dX5_giveBack_16 rfl rfl (Nat.le_of_ble_eq_true rfl) rfl ?_
                        refine v_iload_n (n := 18) C dX5_giveBack_17 rfl rfl rfl ?_
                        refine v_aload_n (n := 19) C dX5_giveBack_18 rfl rfl rfl ?_
                        refine v_get (n := 22) C dX5_giveBack_19 rfl fl_X5_29_X5 wl_c9 rfl ?_
                        refine v_icmp_lt (t := 32) (n := 25) C dX5_giveBack_22 (by decide) rfl (fun c_123 => ?_) (fun c_123 => ?_)
                        · skip
                          refine v_aload_nN (n := 33) C dX5_giveBack_32 rfl rfl rfl ?_
                          refine v_ifnullN (t := 56) C dX5_giveBack_33 (by decide) ?_
                          refine v_iinc (n := 59) (v := 3) (lv' := [(2, .int 3), (3, .null), (0, .ref (b + 9)), (1, .ref (b + 2))]) C dX5_giveBack_56 rfl rfl rfl (Nat.le_of_ble_eq_true rfl) rfl ?_
                          refine v_goto (t := 2) C dX5_giveBack_59 (by decide) ?_
                          refine v_iload_n (n := 3) C dX5_giveBack_2 rfl rfl rfl ?_
                          refine v_iconst (n := 4) (v := 3) C dX5_giveBack_3 rfl (by decide) ?_
                          refine v_icmp_ge (t := 62) (n := 7) C dX5_giveBack_4 (by decide) rfl (fun c_124 => ?_) (fun c_124 => ?_)
                          · skip
                            exact v_vret C dX5_giveBack_62 rfl ⟨rfl, (va_up hn 1 none), (List.set G u3 (hcl k3 dr3 ((ar 16) (Int32.toNatClampNeg 0)) ((ar 17) (Int32.toNatClampNeg 0)))), gb_eq (f := (va_up (va_up hv 0 (some (k3, dr3, ((ar 16) (Int32.toNatClampNeg 0)), ((ar 17) (Int32.toNatClampNeg 0))))) 1 none)) (g := gbF (sc 7) (ar 16) (ar 17) hv) (by simp [gbF, va_up, nI0, nI1, nI2, c_1, c_2, q_3, c_87, c_88, c_89, q_90, c_110, c_120, c_121, q_122, c_123, c_124]) (by simp [gbF, va_up, nI0, nI1, nI2, c_1, c_2, q_3, c_87, c_88, c_89, q_90, c_110, c_120, c_121, q_122, c_123, c_124]) (by simp [gbF, va_up, nI0, nI1, nI2, c_1, c_2, q_3, c_87, c_88, c_89, q_90, c_110, c_120, c_121, q_122, c_123, c_124]) (fun i h3 => by simp [gbF, va_up, show ¬ i = 0 by omega, show ¬ i = 1 by omega, show ¬ i = 2 by omega, show ¬ i < 3 by omega]) ▸ (HVr_none (i := 1) (HVr_set (i := 0) (dr := dr3) (ce := ((ar 16) (Int32.toNatClampNeg 0))) (sa := ((ar 17) (Int32.toNatClampNeg 0))) hr hu3 hk3 hg3)), rfl⟩
                          · exact absurd c_124 (by decide)
                        · skip
                          refine v_aload_n (n := 26) C dX5_giveBack_25 rfl rfl rfl ?_
                          refine v_iload_n (n := 27) C dX5_giveBack_26 rfl rfl rfl ?_
                          refine v_null (n := 28) C dX5_giveBack_27 rfl ?_
                          refine v_aastN (n := 29) (es' := (wl D b sc ar (va_up (va_up hn 1 none) 2 none) mh (List.set G u3 (hcl k3 dr3 ((ar 16) (Int32.toNatClampNeg 0)) ((ar 17) (Int32.toNatClampNeg 0)))))) C dX5_giveBack_28 rfl wl_c2 (vp_lit (by decide) (by decide)) (wl_h (i := 2) (v := none)) ?_
                          refine v_goto (t := 56) C dX5_giveBack_29 (by decide) ?_
                          refine v_iinc (n := 59) (v := 3) (lv' := [(2, .int 3), (3, .null), (0, .ref (b + 9)), (1, .ref (b + 2))]) C dX5_giveBack_56 rfl rfl rfl (Nat.le_of_ble_eq_true rfl) rfl ?_
                          refine v_goto (t := 2) C dX5_giveBack_59 (by decide) ?_
                          refine v_iload_n (n := 3) C dX5_giveBack_2 rfl rfl rfl ?_
                          refine v_iconst (n := 4) (v := 3) C dX5_giveBack_3 rfl (by decide) ?_
                          refine v_icmp_ge (t := 62) (n := 7) C dX5_giveBack_4 (by decide) rfl (fun c_125 => ?_) (fun c_125 => ?_)
                          · skip
                            exact v_vret C dX5_giveBack_62 rfl ⟨rfl, (va_up (va_up hn 1 none) 2 none), (List.set G u3 (hcl k3 dr3 ((ar 16) (Int32.toNatClampNeg 0)) ((ar 17) (Int32.toNatClampNeg 0)))), gb_eq (f := (va_up (va_up (va_up hv 0 (some (k3, dr3, ((ar 16) (Int32.toNatClampNeg 0)), ((ar 17) (Int32.toNatClampNeg 0))))) 1 none) 2 none)) (g := gbF (sc 7) (ar 16) (ar 17) hv) (by simp [gbF, va_up, nI0, nI1, nI2, c_1, c_2, q_3, c_87, c_88, c_89, q_90, c_110, c_120, c_121, q_122, c_123, c_125]) (by simp [gbF, va_up, nI0, nI1, nI2, c_1, c_2, q_3, c_87, c_88, c_89, q_90, c_110, c_120, c_121, q_122, c_123, c_125]) (by simp [gbF, va_up, nI0, nI1, nI2, c_1, c_2, q_3, c_87, c_88, c_89, q_90, c_110, c_120, c_121, q_122, c_123, c_125]) (fun i h3 => by simp [gbF, va_up, show ¬ i = 0 by omega, show ¬ i = 1 by omega, show ¬ i = 2 by omega, show ¬ i < 3 by omega]) ▸ (HVr_none (i := 2) (HVr_none (i := 1) (HVr_set (i := 0) (dr := dr3) (ce := ((ar 16) (Int32.toNatClampNeg 0))) (sa := ((ar 17) (Int32.toNatClampNeg 0))) hr hu3 hk3 hg3))), rfl⟩
                          · exact absurd c_125 (by decide)
                      · obtain ⟨u122, hu122, hk122, hg122⟩ := (HVr_none (i := 1) (HVr_set (i := 0) (dr := dr3) (ce := ((ar 16) (Int32.toNatClampNeg 0))) (sa := ((ar 17) (Int32.toNatClampNeg 0))) hr hu3 hk3 hg3)).2.1 2 k122 dr122 ce122 sa122 q_122
                        refine v_stk (st' := .ref (b + (u122 + 40)) :: []) (congrArg (fun z : Option Nat => va_rf (z.map (fun t => b + t)) :: []) hu122) ?_
                        refine v_astore_n (n := 17) (lv' := [(3, .ref (b + (u122 + 40))), (2, .int 2), (0, .ref (b + 9)), (1, .ref (b + 2))]) C dX5_giveBack_16 rfl rfl (Nat.le_of_ble_eq_true rfl) rfl ?_
                        refine v_iload_n (n := 18) C dX5_giveBack_17 rfl rfl rfl ?_
                        refine v_aload_n (n := 19) C dX5_giveBack_18 rfl rfl rfl ?_
                        refine v_get (n := 22) C dX5_giveBack_19 rfl fl_X5_29_X5 wl_c9 rfl ?_
                        refine v_icmp_lt (t := 32) (n := 25) C dX5_giveBack_22 (by decide) rfl (fun c_126 => ?_) (fun c_126 => ?_)
                        · skip
                          refine v_aload_n (n := 33) C dX5_giveBack_32 rfl rfl rfl ?_
                          refine v_ifnull (n := 36) C dX5_giveBack_33 rfl ?_
                          refine v_aload_n (n := 37) C dX5_giveBack_36 rfl rfl rfl ?_
                          refine v_aload_n (n := 38) C dX5_giveBack_37 rfl rfl rfl ?_
                          refine v_get (n := 41) C dX5_giveBack_38 rfl fl_X5_18_X5 wl_c9 rfl ?_
                          refine v_iload_n (n := 42) C dX5_giveBack_41 rfl rfl rfl ?_
                          refine v_iald (n := 43) C dX5_giveBack_42 rfl wl_c16 (vp_lit (by decide) (by decide)) ?_
                          refine v_put (n := 46) (es' := (wl D b sc ar (va_up hn 1 none) mh (List.set (List.set G u3 (hcl k3 dr3 ((ar 16) (Int32.toNatClampNeg 0)) ((ar 17) (Int32.toNatClampNeg 0)))) u122 (hcl k122 dr122 ((ar 16) (Int32.toNatClampNeg 2)) sa122)))) C dX5_giveBack_43 rfl (flk_X5_33 hk122) (fp_any (fpk_1 hk122)) (wl_tail hg122) rfl rfl (Nat.le_of_ble_eq_true rfl) wl_t ?_
                          refine v_aload_n (n := 47) C dX5_giveBack_46 rfl rfl rfl ?_
                          refine v_aload_n (n := 48) C dX5_giveBack_47 rfl rfl rfl ?_
                          refine v_get (n := 51) C dX5_giveBack_48 rfl fl_X5_22_X5 wl_c9 rfl ?_
                          refine v_iload_n (n := 52) C dX5_giveBack_51 rfl rfl rfl ?_
                          refine v_iald (n := 53) C dX5_giveBack_52 rfl wl_c17 (vp_lit (by decide) (by decide)) ?_
                          refine v_put (n := 56) (es' := (wl D b sc ar (va_up hn 1 none) mh (List.set (List.set G u3 (hcl k3 dr3 ((ar 16) (Int32.toNatClampNeg 0)) ((ar 17) (Int32.toNatClampNeg 0)))) u122 (hcl k122 dr122 ((ar 16) (Int32.toNatClampNeg 2)) ((ar 17) (Int32.toNatClampNeg 2)))))) C dX5_giveBack_53 rfl (flk_X5_38 hk122) (fp_any (fpk_2 hk122)) (wl_tail (gset_self hg122)) rfl rfl (Nat.le_of_ble_eq_true rfl) (wl_t.trans (by rw [List.set_set]; rfl)) ?_
                          refine v_iinc (n := 59) (v := 3) (lv' := [(2, .int 3), (3, .ref (b + (u122 + 40))), (0, .ref (b + 9)), (1, .ref (b + 2))]) C dX5_giveBack_56 rfl rfl rfl (Nat.le_of_ble_eq_true rfl) rfl ?_
                          refine v_goto (t := 2) C dX5_giveBack_59 (by decide) ?_
                          refine v_iload_n (n := 3) C dX5_giveBack_2 rfl rfl rfl ?_
                          refine v_iconst (n := 4) (v := 3) C dX5_giveBack_3 rfl (by decide) ?_
                          refine v_icmp_ge (t := 62) (n := 7) C dX5_giveBack_4 (by decide) rfl (fun c_127 => ?_) (fun c_127 => ?_)
                          · skip
                            exact v_vret C dX5_giveBack_62 rfl ⟨rfl, (va_up hn 1 none), (List.set (List.set G u3 (hcl k3 dr3 ((ar 16) (Int32.toNatClampNeg 0)) ((ar 17) (Int32.toNatClampNeg 0)))) u122 (hcl k122 dr122 ((ar 16) (Int32.toNatClampNeg 2)) ((ar 17) (Int32.toNatClampNeg 2)))), gb_eq (f := (va_up (va_up (va_up hv 0 (some (k3, dr3, ((ar 16) (Int32.toNatClampNeg 0)), ((ar 17) (Int32.toNatClampNeg 0))))) 1 none) 2 (some (k122, dr122, ((ar 16) (Int32.toNatClampNeg 2)), ((ar 17) (Int32.toNatClampNeg 2)))))) (g := gbF (sc 7) (ar 16) (ar 17) hv) (by simp [gbF, va_up, nI0, nI1, nI2, c_1, c_2, q_3, c_87, c_88, c_89, q_90, c_110, c_120, c_121, q_122, c_126, c_127]) (by simp [gbF, va_up, nI0, nI1, nI2, c_1, c_2, q_3, c_87, c_88, c_89, q_90, c_110, c_120, c_121, q_122, c_126, c_127]) (by simp [gbF, va_up, nI0, nI1, nI2, c_1, c_2, q_3, c_87, c_88, c_89, q_90, c_110, c_120, c_121, q_122, c_126, c_127]) (fun i h3 => by simp [gbF, va_up, show ¬ i = 0 by omega, show ¬ i = 1 by omega, show ¬ i = 2 by omega, show ¬ i < 3 by omega]) ▸ (HVr_set (i := 2) (dr := dr122) (ce := ((ar 16) (Int32.toNatClampNeg 2))) (sa := ((ar 17) (Int32.toNatClampNeg 2))) (HVr_none (i := 1) (HVr_set (i := 0) (dr := dr3) (ce := ((ar 16) (Int32.toNatClampNeg 0))) (sa := ((ar 17) (Int32.toNatClampNeg 0))) hr hu3 hk3 hg3)) hu122 hk122 hg122), rfl⟩
                          · exact absurd c_127 (by decide)
                        · skip
                          refine v_aload_n (n := 26) C dX5_giveBack_25 rfl rfl rfl ?_
                          refine v_iload_n (n := 27) C dX5_giveBack_26 rfl rfl rfl ?_
                          refine v_null (n := 28) C dX5_giveBack_27 rfl ?_
                          refine v_aastN (n := 29) (es' := (wl D b sc ar (va_up (va_up hn 1 none) 2 none) mh (List.set G u3 (hcl k3 dr3 ((ar 16) (Int32.toNatClampNeg 0)) ((ar 17) (Int32.toNatClampNeg 0)))))) C dX5_giveBack_28 rfl wl_c2 (vp_lit (by decide) (by decide)) (wl_h (i := 2) (v := none)) ?_
                          refine v_goto (t := 56) C dX5_giveBack_29 (by decide) ?_
                          refine v_iinc (n := 59) (v := 3) (lv' := [(2, .int 3), (3, .ref (b + (u122 + 40))), (0, .ref (b + 9)), (1, .ref (b + 2))]) C dX5_giveBack_56 rfl rfl rfl (Nat.le_of_ble_eq_true rfl) rfl ?_
                          refine v_goto (t := 2) C dX5_giveBack_59 (by decide) ?_
                          refine v_iload_n (n := 3) C dX5_giveBack_2 rfl rfl rfl ?_
                          refine v_iconst (n := 4) (v := 3) C dX5_giveBack_3 rfl (by decide) ?_
                          refine v_icmp_ge (t := 62) (n := 7) C dX5_giveBack_4 (by decide) rfl (fun c_128 => ?_) (fun c_128 => ?_)
                          · skip
                            exact v_vret C dX5_giveBack_62 rfl ⟨rfl, (va_up (va_up hn 1 none) 2 none), (List.set G u3 (hcl k3 dr3 ((ar 16) (Int32.toNatClampNeg 0)) ((ar 17) (Int32.toNatClampNeg 0)))), gb_eq (f := (va_up (va_up (va_up hv 0 (some (k3, dr3, ((ar 16) (Int32.toNatClampNeg 0)), ((ar 17) (Int32.toNatClampNeg 0))))) 1 none) 2 none)) (g := gbF (sc 7) (ar 16) (ar 17) hv) (by simp [gbF, va_up, nI0, nI1, nI2, c_1, c_2, q_3, c_87, c_88, c_89, q_90, c_110, c_120, c_121, q_122, c_126, c_128]) (by simp [gbF, va_up, nI0, nI1, nI2, c_1, c_2, q_3, c_87, c_88, c_89, q_90, c_110, c_120, c_121, q_122, c_126, c_128]) (by simp [gbF, va_up, nI0, nI1, nI2, c_1, c_2, q_3, c_87, c_88, c_89, q_90, c_110, c_120, c_121, q_122, c_126, c_128]) (fun i h3 => by simp [gbF, va_up, show ¬ i = 0 by omega, show ¬ i = 1 by omega, show ¬ i = 2 by omega, show ¬ i < 3 by omega]) ▸ (HVr_none (i := 2) (HVr_none (i := 1) (HVr_set (i := 0) (dr := dr3) (ce := ((ar 16) (Int32.toNatClampNeg 0))) (sa := ((ar 17) (Int32.toNatClampNeg 0))) hr hu3 hk3 hg3))), rfl⟩
                          · exact absurd c_128 (by decide)
        · skip
          refine v_aload_n (n := 26) C dX5_giveBack_25 rfl rfl rfl ?_
          refine v_iload_n (n := 27) C dX5_giveBack_26 rfl rfl rfl ?_
          refine v_null (n := 28) C dX5_giveBack_27 rfl ?_
          refine v_aastN (n := 29) (es' := (wl D b sc ar (va_up hn 0 none) mh G)) C dX5_giveBack_28 rfl wl_c2 (vp_lit (by decide) (by decide)) (wl_h (i := 0) (v := none)) ?_
          refine v_goto (t := 56) C dX5_giveBack_29 (by decide) ?_
          refine v_iinc (n := 59) (v := 1) (lv' := [(2, .int 1), (3, .ref (b + (u3 + 40))), (0, .ref (b + 9)), (1, .ref (b + 2))]) C dX5_giveBack_56 rfl rfl rfl (Nat.le_of_ble_eq_true rfl) rfl ?_
          refine v_goto (t := 2) C dX5_giveBack_59 (by decide) ?_
          refine v_iload_n (n := 3) C dX5_giveBack_2 rfl rfl rfl ?_
          refine v_iconst (n := 4) (v := 3) C dX5_giveBack_3 rfl (by decide) ?_
          refine v_icmp_ge (t := 62) (n := 7) C dX5_giveBack_4 (by decide) rfl (fun c_129 => ?_) (fun c_129 => ?_)
          · exact absurd c_129 (by decide)
          · skip
            refine v_iload_n (n := 8) C dX5_giveBack_7 rfl rfl rfl ?_
            refine v_aload_n (n := 9) C dX5_giveBack_8 rfl rfl rfl ?_
            refine v_alenQ (n := 10) (v := 3) C dX5_giveBack_9 rfl wl_c2 rfl ?_
            refine v_icmp_ge (t := 62) (n := 13) C dX5_giveBack_10 (by decide) rfl (fun c_130 => ?_) (fun c_130 => ?_)
            · exact absurd c_130 (by decide)
            · skip
              refine v_aload_n (n := 14) C dX5_giveBack_13 rfl rfl rfl ?_
              refine v_iload_n (n := 15) C dX5_giveBack_14 rfl rfl rfl ?_
              refine v_aald (n := 16) C dX5_giveBack_15 rfl wl_c2 (vp_lit (by decide) (by decide)) ?_
              change V p l e _ s m args below meth c D b 4 _ 0 0 (wl D b sc ar (va_up hn 0 none) mh G) [(2, .int 1), (3, .ref (b + (u3 + 40))), (0, .ref (b + 9)), (1, .ref (b + 2))] (va_rf (((va_up hn 0 none) 1).map (fun t => b + t)) :: []) 16
              rcases q_131 : hv 1 with _ | ⟨k131, dr131, ce131, sa131⟩
              · skip
                refine v_stk (st' := .null :: []) (congrArg (fun z : Option Nat => va_rf (z.map (fun t => b + t)) :: []) ((HVr_none (i := 0) hr).1 1 q_131)) ?_
                refine v_astore_nN (n := 17) (lv' := [(3, .null), (2, .int 1), (0, .ref (b + 9)), (1, .ref (b + 2))]) C dX5_giveBack_16 rfl rfl (Nat.le_of_ble_eq_true rfl) rfl ?_
                refine v_iload_n (n := 18) C dX5_giveBack_17 rfl rfl rfl ?_
                refine v_aload_n (n := 19) C dX5_giveBack_18 rfl rfl rfl ?_
                refine v_get (n := 22) C dX5_giveBack_19 rfl fl_X5_29_X5 wl_c9 rfl ?_
                refine v_icmp_lt (t := 32) (n := 25) C dX5_giveBack_22 (by decide) rfl (fun c_132 => ?_) (fun c_132 => ?_)
                · skip
                  refine v_aload_nN (n := 33) C dX5_giveBack_32 rfl rfl rfl ?_
                  refine v_ifnullN (t := 56) C dX5_giveBack_33 (by decide) ?_
                  refine v_iinc (n := 59) (v := 2) (lv' := [(2, .int 2), (3, .null), (0, .ref (b + 9)), (1, .ref (b + 2))]) C dX5_giveBack_56 rfl rfl rfl (Nat.le_of_ble_eq_true rfl) rfl ?_
                  refine v_goto (t := 2) C dX5_giveBack_59 (by decide) ?_
                  refine v_iload_n (n := 3) C dX5_giveBack_2 rfl rfl rfl ?_
                  refine v_iconst (n := 4) (v := 3) C dX5_giveBack_3 rfl (by decide) ?_
                  refine v_icmp_ge (t := 62) (n := 7) C dX5_giveBack_4 (by decide) rfl (fun c_133 => ?_) (fun c_133 => ?_)
                  · exact absurd c_133 (by decide)
                  · skip
                    refine v_iload_n (n := 8) C dX5_giveBack_7 rfl rfl rfl ?_
                    refine v_aload_n (n := 9) C dX5_giveBack_8 rfl rfl rfl ?_
                    refine v_alenQ (n := 10) (v := 3) C dX5_giveBack_9 rfl wl_c2 rfl ?_
                    refine v_icmp_ge (t := 62) (n := 13) C dX5_giveBack_10 (by decide) rfl (fun c_134 => ?_) (fun c_134 => ?_)
                    · exact absurd c_134 (by decide)
                    · skip
                      refine v_aload_n (n := 14) C dX5_giveBack_13 rfl rfl rfl ?_
                      refine v_iload_n (n := 15) C dX5_giveBack_14 rfl rfl rfl ?_
                      refine v_aald (n := 16) C dX5_giveBack_15 rfl wl_c2 (vp_lit (by decide) (by decide)) ?_
                      change V p l e _ s m args below meth c D b 4 _ 0 0 (wl D b sc ar (va_up hn 0 none) mh G) [(2, .int 2), (3, .null), (0, .ref (b + 9)), (1, .ref (b + 2))] (va_rf (((va_up hn 0 none) 2).map (fun t => b + t)) :: []) 16
                      rcases q_135 : hv 2 with _ | ⟨k135, dr135, ce135, sa135⟩
                      · skip
                        refine v_stk (st' := .null :: []) (congrArg (fun z : Option Nat => va_rf (z.map (fun t => b + t)) :: []) ((HVr_none (i := 0) hr).1 2 q_135)) ?_
                        refine v_astore_nN (n := 17) (lv' := [(3, .null), (2, .int 2), (0, .ref (b + 9)), (1, .ref (b + 2))]) C dX5_giveBack_16 rfl rfl (Nat.le_of_ble_eq_true rfl) rfl ?_
                        refine v_iload_n (n := 18) C dX5_giveBack_17 rfl rfl rfl ?_
                        refine v_aload_n (n := 19) C dX5_giveBack_18 rfl rfl rfl ?_
                        refine v_get (n := 22) C dX5_giveBack_19 rfl fl_X5_29_X5 wl_c9 rfl ?_
                        refine v_icmp_lt (t := 32) (n := 25) C dX5_giveBack_22 (by decide) rfl (fun c_136 => ?_) (fun c_136 => ?_)
                        · skip
                          refine v_aload_nN (n := 33) C dX5_giveBack_32 rfl rfl rfl ?_
                          refine v_ifnullN (t := 56) C dX5_giveBack_33 (by decide) ?_
                          refine v_iinc (n := 59) (v := 3) (lv' := [(2, .int 3), (3, .null), (0, .ref (b + 9)), (1, .ref (b + 2))]) C dX5_giveBack_56 rfl rfl rfl (Nat.le_of_ble_eq_true rfl) rfl ?_
                          refine v_goto (t := 2) C dX5_giveBack_59 (by decide) ?_
                          refine v_iload_n (n := 3) C dX5_giveBack_2 rfl rfl rfl ?_
                          refine v_iconst (n := 4) (v := 3) C dX5_giveBack_3 rfl (by decide) ?_
                          refine v_icmp_ge (t := 62) (n := 7) C dX5_giveBack_4 (by decide) rfl (fun c_137 => ?_) (fun c_137 => ?_)
                          · skip
                            exact v_vret C dX5_giveBack_62 rfl ⟨rfl, (va_up hn 0 none), G, gb_eq (f := (va_up hv 0 none)) (g := gbF (sc 7) (ar 16) (ar 17) hv) (by simp [gbF, va_up, nI0, nI1, nI2, c_1, c_2, q_3, c_87, c_129, c_130, q_131, c_132, c_133, c_134, q_135, c_136, c_137]) (by simp [gbF, va_up, nI0, nI1, nI2, c_1, c_2, q_3, c_87, c_129, c_130, q_131, c_132, c_133, c_134, q_135, c_136, c_137]) (by simp [gbF, va_up, nI0, nI1, nI2, c_1, c_2, q_3, c_87, c_129, c_130, q_131, c_132, c_133, c_134, q_135, c_136, c_137]) (fun i h3 => by simp [gbF, va_up, show ¬ i = 0 by omega, show ¬ i = 1 by omega, show ¬ i = 2 by omega, show ¬ i < 3 by omega]) ▸ (HVr_none (i := 0) hr), rfl⟩
                          · exact absurd c_137 (by decide)
                        · skip
                          refine v_aload_n (n := 26) C dX5_giveBack_25 rfl rfl rfl ?_
                          refine v_iload_n (n := 27) C dX5_giveBack_26 rfl rfl rfl ?_
                          refine v_null (n := 28) C dX5_giveBack_27 rfl ?_
                          refine v_aastN (n := 29) (es' := (wl D b sc ar (va_up (va_up hn 0 none) 2 none) mh G)) C dX5_giveBack_28 rfl wl_c2 (vp_lit (by decide) (by decide)) (wl_h (i := 2) (v := none)) ?_
                          refine v_goto (t := 56) C dX5_giveBack_29 (by decide) ?_
                          refine v_iinc (n := 59) (v := 3) (lv' := [(2, .int 3), (3, .null), (0, .ref (b + 9)), (1, .ref (b + 2))]) C dX5_giveBack_56 rfl rfl rfl (Nat.le_of_ble_eq_true rfl) rfl ?_
                          refine v_goto (t := 2) C dX5_giveBack_59 (by decide) ?_
                          refine v_iload_n (n := 3) C dX5_giveBack_2 rfl rfl rfl ?_
                          refine v_iconst (n := 4) (v := 3) C dX5_giveBack_3 rfl (by decide) ?_
                          refine v_icmp_ge (t := 62) (n := 7) C dX5_giveBack_4 (by decide) rfl (fun c_138 => ?_) (fun c_138 => ?_)
                          · skip
                            exact v_vret C dX5_giveBack_62 rfl ⟨rfl, (va_up (va_up hn 0 none) 2 none), G, gb_eq (f := (va_up (va_up hv 0 none) 2 none)) (g := gbF (sc 7) (ar 16) (ar 17) hv) (by simp [gbF, va_up, nI0, nI1, nI2, c_1, c_2, q_3, c_87, c_129, c_130, q_131, c_132, c_133, c_134, q_135, c_136, c_138]) (by simp [gbF, va_up, nI0, nI1, nI2, c_1, c_2, q_3, c_87, c_129, c_130, q_131, c_132, c_133, c_134, q_135, c_136, c_138]) (by simp [gbF, va_up, nI0, nI1, nI2, c_1, c_2, q_3, c_87, c_129, c_130, q_131, c_132, c_133, c_134, q_135, c_136, c_138]) (fun i h3 => by simp [gbF, va_up, show ¬ i = 0 by omega, show ¬ i = 1 by omega, show ¬ i = 2 by omega, show ¬ i < 3 by omega]) ▸ (HVr_none (i := 2) (HVr_none (i := 0) hr)), rfl⟩
                          · exact absurd c_138 (by decide)
                      · obtain ⟨u135, hu135, hk135, hg135⟩ := (HVr_none (i := 0) hr).2.1 2 k135 dr135 ce135 sa135 q_135
                        refine v_stk (st' := .ref (b + (u135 + 40)) :: []) (congrArg (fun z : Option Nat => va_rf (z.map (fun t => b + t)) :: []) hu135) ?_
                        refine v_astore_n (n := 17) (lv' := [(3, .ref (b + (u135 + 40))), (2, .int 2), (0, .ref (b + 9)), (1, .ref (b + 2))]) C dX5_giveBack_16 rfl rfl (Nat.le_of_ble_eq_true rfl) rfl ?_
                        refine v_iload_n (n := 18) C dX5_giveBack_17 rfl rfl rfl ?_
                        refine v_aload_n (n := 19) C dX5_giveBack_18 rfl rfl rfl ?_
                        refine v_get (n := 22) C dX5_giveBack_19 rfl fl_X5_29_X5 wl_c9 rfl ?_
                        refine v_icmp_lt (t := 32) (n := 25) C dX5_giveBack_22 (by decide) rfl (fun c_139 => ?_) (fun c_139 => ?_)
                        · skip
                          refine v_aload_n (n := 33) C dX5_giveBack_32 rfl rfl rfl ?_
                          refine v_ifnull (n := 36) C dX5_giveBack_33 rfl ?_
                          refine v_aload_n (n := 37) C dX5_giveBack_36 rfl rfl rfl ?_
                          refine v_aload_n (n := 38) C dX5_giveBack_37 rfl rfl rfl ?_
                          refine v_get (n := 41) C dX5_giveBack_38 rfl fl_X5_18_X5 wl_c9 rfl ?_
                          refine v_iload_n (n := 42) C dX5_giveBack_41 rfl rfl rfl ?_
                          refine v_iald (n := 43) C dX5_giveBack_42 rfl wl_c16 (vp_lit (by decide) (by decide)) ?_
                          refine v_put (n := 46) (es' := (wl D b sc ar (va_up hn 0 none) mh (List.set G u135 (hcl k135 dr135 ((ar 16) (Int32.toNatClampNeg 2)) sa135)))) C dX5_giveBack_43 rfl (flk_X5_33 hk135) (fp_any (fpk_1 hk135)) (wl_tail hg135) rfl rfl (Nat.le_of_ble_eq_true rfl) wl_t ?_
                          refine v_aload_n (n := 47) C dX5_giveBack_46 rfl rfl rfl ?_
                          refine v_aload_n (n := 48) C dX5_giveBack_47 rfl rfl rfl ?_
                          refine v_get (n := 51) C dX5_giveBack_48 rfl fl_X5_22_X5 wl_c9 rfl ?_
                          refine v_iload_n (n := 52) C dX5_giveBack_51 rfl rfl rfl ?_
                          refine v_iald (n := 53) C dX5_giveBack_52 rfl wl_c17 (vp_lit (by decide) (by decide)) ?_
                          refine v_put (n := 56) (es' := (wl D b sc ar (va_up hn 0 none) mh (List.set G u135 (hcl k135 dr135 ((ar 16) (Int32.toNatClampNeg 2)) ((ar 17) (Int32.toNatClampNeg 2)))))) C dX5_giveBack_53 rfl (flk_X5_38 hk135) (fp_any (fpk_2 hk135)) (wl_tail (gset_self hg135)) rfl rfl (Nat.le_of_ble_eq_true rfl) (wl_t.trans (by rw [List.set_set]; rfl)) ?_
                          refine v_iinc (n := 59) (v := 3) (lv' := [(2, .int 3), (3, .ref (b + (u135 + 40))), (0, .ref (b + 9)), (1, .ref (b + 2))]) C dX5_giveBack_56 rfl rfl rfl (Nat.le_of_ble_eq_true rfl) rfl ?_
                          refine v_goto (t := 2) C dX5_giveBack_59 (by decide) ?_
                          refine v_iload_n (n := 3) C dX5_giveBack_2 rfl rfl rfl ?_
                          refine v_iconst (n := 4) (v := 3) C dX5_giveBack_3 rfl (by decide) ?_
                          refine v_icmp_ge (t := 62) (n := 7) C dX5_giveBack_4 (by decide) rfl (fun c_140 => ?_) (fun c_140 => ?_)
                          · skip
                            exact v_vret C dX5_giveBack_62 rfl ⟨rfl, (va_up hn 0 none), (List.set G u135 (hcl k135 dr135 ((ar 16) (Int32.toNatClampNeg 2)) ((ar 17) (Int32.toNatClampNeg 2)))), gb_eq (f := (va_up (va_up hv 0 none) 2 (some (k135, dr135, ((ar 16) (Int32.toNatClampNeg 2)), ((ar 17) (Int32.toNatClampNeg 2)))))) (g := gbF (sc 7) (ar 16) (ar 17) hv) (by simp [gbF, va_up, nI0, nI1, nI2, c_1, c_2, q_3, c_87, c_129, c_130, q_131, c_132, c_133, c_134, q_135, c_139, c_140]) (by simp [gbF, va_up, nI0, nI1, nI2, c_1, c_2, q_3, c_87, c_129, c_130, q_131, c_132, c_133, c_134, q_135, c_139, c_140]) (by simp [gbF, va_up, nI0, nI1, nI2, c_1, c_2, q_3, c_87, c_129, c_130, q_131, c_132, c_133, c_134, q_135, c_139, c_140]) (fun i h3 => by simp [gbF, va_up, show ¬ i = 0 by omega, show ¬ i = 1 by omega, show ¬ i = 2 by omega, show ¬ i < 3 by omega]) ▸ (HVr_set (i := 2) (dr := dr135) (ce := ((ar 16) (Int32.toNatClampNeg 2))) (sa := ((ar 17) (Int32.toNatClampNeg 2))) (HVr_none (i := 0) hr) hu135 hk135 hg135), rfl⟩
                          · exact absurd c_140 (by decide)
                        · skip
                          refine v_aload_n (n := 26) C dX5_giveBack_25 rfl rfl rfl ?_
                          refine v_iload_n (n := 27) C dX5_giveBack_26 rfl rfl rfl ?_
                          refine v_null (n := 28) C dX5_giveBack_27 rfl ?_
                          refine v_aastN (n := 29) (es' := (wl D b sc ar (va_up (va_up hn 0 none) 2 none) mh G)) C dX5_giveBack_28 rfl wl_c2 (vp_lit (by decide) (by decide)) (wl_h (i := 2) (v := none)) ?_
                          refine v_goto (t := 56) C dX5_giveBack_29 (by decide) ?_
                          refine v_iinc (n := 59) (v := 3) (lv' := [(2, .int 3), (3, .ref (b + (u135 + 40))), (0, .ref (b + 9)), (1, .ref (b + 2))]) C dX5_giveBack_56 rfl rfl rfl (Nat.le_of_ble_eq_true rfl) rfl ?_
                          refine v_goto (t := 2) C dX5_giveBack_59 (by decide) ?_
                          refine v_iload_n (n := 3) C dX5_giveBack_2 rfl rfl rfl ?_
                          refine v_iconst (n := 4) (v := 3) C dX5_giveBack_3 rfl (by decide) ?_
                          refine v_icmp_ge (t := 62) (n := 7) C dX5_giveBack_4 (by decide) rfl (fun c_141 => ?_) (fun c_141 => ?_)
                          · skip
                            exact v_vret C dX5_giveBack_62 rfl ⟨rfl, (va_up (va_up hn 0 none) 2 none), G, gb_eq (f := (va_up (va_up hv 0 none) 2 none)) (g := gbF (sc 7) (ar 16) (ar 17) hv) (by simp [gbF, va_up, nI0, nI1, nI2, c_1, c_2, q_3, c_87, c_129, c_130, q_131, c_132, c_133, c_134, q_135, c_139, c_141]) (by simp [gbF, va_up, nI0, nI1, nI2, c_1, c_2, q_3, c_87, c_129, c_130, q_131, c_132, c_133, c_134, q_135, c_139, c_141]) (by simp [gbF, va_up, nI0, nI1, nI2, c_1, c_2, q_3, c_87, c_129, c_130, q_131, c_132, c_133, c_134, q_135, c_139, c_141]) (fun i h3 => by simp [gbF, va_up, show ¬ i = 0 by omega, show ¬ i = 1 by omega, show ¬ i = 2 by omega, show ¬ i < 3 by omega]) ▸ (HVr_none (i := 2) (HVr_none (i := 0) hr)), rfl⟩
                          · exact absurd c_141 (by decide)
                · skip
                  refine v_aload_n (n := 26) C dX5_giveBack_25 rfl rfl rfl ?_
                  refine v_iload_n (n := 27) C dX5_giveBack_26 rfl rfl rfl ?_
                  refine v_null (n := 28) C dX5_giveBack_27 rfl ?_
                  refine v_aastN (n := 29) (es' := (wl D b sc ar (va_up (va_up hn 0 none) 1 none) mh G)) C dX5_giveBack_28 rfl wl_c2 (vp_lit (by decide) (by decide)) (wl_h (i := 1) (v := none)) ?_
                  refine v_goto (t := 56) C dX5_giveBack_29 (by decide) ?_
                  refine v_iinc (n := 59) (v := 2) (lv' := [(2, .int 2), (3, .null), (0, .ref (b + 9)), (1, .ref (b + 2))]) C dX5_giveBack_56 rfl rfl rfl (Nat.le_of_ble_eq_true rfl) rfl ?_
                  refine v_goto (t := 2) C dX5_giveBack_59 (by decide) ?_
                  refine v_iload_n (n := 3) C dX5_giveBack_2 rfl rfl rfl ?_
                  refine v_iconst (n := 4) (v := 3) C dX5_giveBack_3 rfl (by decide) ?_
                  refine v_icmp_ge (t := 62) (n := 7) C dX5_giveBack_4 (by decide) rfl (fun c_142 => ?_) (fun c_142 => ?_)
                  · exact absurd c_142 (by decide)
                  · skip
                    refine v_iload_n (n := 8) C dX5_giveBack_7 rfl rfl rfl ?_
                    refine v_aload_n (n := 9) C dX5_giveBack_8 rfl rfl rfl ?_
                    refine v_alenQ (n := 10) (v := 3) C dX5_giveBack_9 rfl wl_c2 rfl ?_
                    refine v_icmp_ge (t := 62) (n := 13) C dX5_giveBack_10 (by decide) rfl (fun c_143 => ?_) (fun c_143 => ?_)
                    · exact absurd c_143 (by decide)
                    · skip
                      refine v_aload_n (n := 14) C dX5_giveBack_13 rfl rfl rfl ?_
                      refine v_iload_n (n := 15) C dX5_giveBack_14 rfl rfl rfl ?_
                      refine v_aald (n := 16) C dX5_giveBack_15 rfl wl_c2 (vp_lit (by decide) (by decide)) ?_
                      change V p l e _ s m args below meth c D b 4 _ 0 0 (wl D b sc ar (va_up (va_up hn 0 none) 1 none) mh G) [(2, .int 2), (3, .null), (0, .ref (b + 9)), (1, .ref (b + 2))] (va_rf (((va_up (va_up hn 0 none) 1 none) 2).map (fun t => b + t)) :: []) 16
                      rcases q_144 : hv 2 with _ | ⟨k144, dr144, ce144, sa144⟩
                      · skip
                        refine v_stk (st' := .null :: []) (congrArg (fun z : Option Nat => va_rf (z.map (fun t => b + t)) :: []) ((HVr_none (i := 1) (HVr_none (i := 0) hr)).1 2 q_144)) ?_
                        refine v_astore_nN (n := 17) (lv' := [(3, .null), (2, .int 2), (0, .ref (b + 9)), (1, .ref (b + 2))]) C dX5_giveBack_16 rfl rfl (Nat.le_of_ble_eq_true rfl) rfl ?_
                        refine v_iload_n (n := 18) C dX5_giveBack_17 rfl rfl rfl ?_
                        refine v_aload_n (n := 19) C dX5_giveBack_18 rfl rfl rfl ?_
                        refine v_get (n := 22) C dX5_giveBack_19 rfl fl_X5_29_X5 wl_c9 rfl ?_
                        refine v_icmp_lt (t := 32) (n := 25) C dX5_giveBack_22 (by decide) rfl (fun c_145 => ?_) (fun c_145 => ?_)
                        · skip
                          refine v_aload_nN (n := 33) C dX5_giveBack_32 rfl rfl rfl ?_
                          refine v_ifnullN (t := 56) C dX5_giveBack_33 (by decide) ?_
                          refine v_iinc (n := 59) (v := 3) (lv' := [(2, .int 3), (3, .null), (0, .ref (b + 9)), (1, .ref (b + 2))]) C dX5_giveBack_56 rfl rfl rfl (Nat.le_of_ble_eq_true rfl) rfl ?_
                          refine v_goto (t := 2) C dX5_giveBack_59 (by decide) ?_
                          refine v_iload_n (n := 3) C dX5_giveBack_2 rfl rfl rfl ?_
                          refine v_iconst (n := 4) (v := 3) C dX5_giveBack_3 rfl (by decide) ?_
                          refine v_icmp_ge (t := 62) (n := 7) C dX5_giveBack_4 (by decide) rfl (fun c_146 => ?_) (fun c_146 => ?_)
                          · skip
                            exact v_vret C dX5_giveBack_62 rfl ⟨rfl, (va_up (va_up hn 0 none) 1 none), G, gb_eq (f := (va_up (va_up hv 0 none) 1 none)) (g := gbF (sc 7) (ar 16) (ar 17) hv) (by simp [gbF, va_up, nI0, nI1, nI2, c_1, c_2, q_3, c_87, c_129, c_130, q_131, c_132, c_142, c_143, q_144, c_145, c_146]) (by simp [gbF, va_up, nI0, nI1, nI2, c_1, c_2, q_3, c_87, c_129, c_130, q_131, c_132, c_142, c_143, q_144, c_145, c_146]) (by simp [gbF, va_up, nI0, nI1, nI2, c_1, c_2, q_3, c_87, c_129, c_130, q_131, c_132, c_142, c_143, q_144, c_145, c_146]) (fun i h3 => by simp [gbF, va_up, show ¬ i = 0 by omega, show ¬ i = 1 by omega, show ¬ i = 2 by omega, show ¬ i < 3 by omega]) ▸ (HVr_none (i := 1) (HVr_none (i := 0) hr)), rfl⟩
                          · exact absurd c_146 (by decide)
                        · skip
                          refine v_aload_n (n := 26) C dX5_giveBack_25 rfl rfl rfl ?_
                          refine v_iload_n (n := 27) C dX5_giveBack_26 rfl rfl rfl ?_
                          refine v_null (n := 28) C dX5_giveBack_27 rfl ?_
                          refine v_aastN (n := 29) (es' := (wl D b sc ar (va_up (va_up (va_up hn 0 none) 1 none) 2 none) mh G)) C dX5_giveBack_28 rfl wl_c2 (vp_lit (by decide) (by decide)) (wl_h (i := 2) (v := none)) ?_
                          refine v_goto (t := 56) C dX5_giveBack_29 (by decide) ?_
                          refine v_iinc (n := 59) (v := 3) (lv' := [(2, .int 3), (3, .null), (0, .ref (b + 9)), (1, .ref (b + 2))]) C dX5_giveBack_56 rfl rfl rfl (Nat.le_of_ble_eq_true rfl) rfl ?_
                          refine v_goto (t := 2) C dX5_giveBack_59 (by decide) ?_
                          refine v_iload_n (n := 3) C dX5_giveBack_2 rfl rfl rfl ?_
                          refine v_iconst (n := 4) (v := 3) C dX5_giveBack_3 rfl (by decide) ?_
                          refine v_icmp_ge (t := 62) (n := 7) C dX5_giveBack_4 (by decide) rfl (fun c_147 => ?_) (fun c_147 => ?_)
                          · skip
                            exact v_vret C dX5_giveBack_62 rfl ⟨rfl, (va_up (va_up (va_up hn 0 none) 1 none) 2 none), G, gb_eq (f := (va_up (va_up (va_up hv 0 none) 1 none) 2 none)) (g := gbF (sc 7) (ar 16) (ar 17) hv) (by simp [gbF, va_up, nI0, nI1, nI2, c_1, c_2, q_3, c_87, c_129, c_130, q_131, c_132, c_142, c_143, q_144, c_145, c_147]) (by simp [gbF, va_up, nI0, nI1, nI2, c_1, c_2, q_3, c_87, c_129, c_130, q_131, c_132, c_142, c_143, q_144, c_145, c_147]) (by simp [gbF, va_up, nI0, nI1, nI2, c_1, c_2, q_3, c_87, c_129, c_130, q_131, c_132, c_142, c_143, q_144, c_145, c_147]) (fun i h3 => by simp [gbF, va_up, show ¬ i = 0 by omega, show ¬ i = 1 by omega, show ¬ i = 2 by omega, show ¬ i < 3 by omega]) ▸ (HVr_none (i := 2) (HVr_none (i := 1) (HVr_none (i := 0) hr))), rfl⟩
                          · exact absurd c_147 (by decide)
                      · obtain ⟨u144, hu144, hk144, hg144⟩ := (HVr_none (i := 1) (HVr_none (i := 0) hr)).2.1 2 k144 dr144 ce144 sa144 q_144
                        refine v_stk (st' := .ref (b + (u144 + 40)) :: []) (congrArg (fun z : Option Nat => va_rf (z.map (fun t => b + t)) :: []) hu144) ?_
                        refine v_astore_n (n := 17) (lv' := [(3, .ref (b + (u144 + 40))), (2, .int 2), (0, .ref (b + 9)), (1, .ref (b + 2))]) C dX5_giveBack_16 rfl rfl (Nat.le_of_ble_eq_true rfl) rfl ?_
                        refine v_iload_n (n := 18) C dX5_giveBack_17 rfl rfl rfl ?_
                        refine v_aload_n (n := 19) C dX5_giveBack_18 rfl rfl rfl ?_
                        refine v_get (n := 22) C dX5_giveBack_19 rfl fl_X5_29_X5 wl_c9 rfl ?_
                        refine v_icmp_lt (t := 32) (n := 25) C dX5_giveBack_22 (by decide) rfl (fun c_148 => ?_) (fun c_148 => ?_)
                        · skip
                          refine v_aload_n (n := 33) C dX5_giveBack_32 rfl rfl rfl ?_
                          refine v_ifnull (n := 36) C dX5_giveBack_33 rfl ?_
                          refine v_aload_n (n := 37) C dX5_giveBack_36 rfl rfl rfl ?_
                          refine v_aload_n (n := 38) C dX5_giveBack_37 rfl rfl rfl ?_
                          refine v_get (n := 41) C dX5_giveBack_38 rfl fl_X5_18_X5 wl_c9 rfl ?_
                          refine v_iload_n (n := 42) C dX5_giveBack_41 rfl rfl rfl ?_
                          refine v_iald (n := 43) C dX5_giveBack_42 rfl wl_c16 (vp_lit (by decide) (by decide)) ?_
                          refine v_put (n := 46) (es' := (wl D b sc ar (va_up (va_up hn 0 none) 1 none) mh (List.set G u144 (hcl k144 dr144 ((ar 16) (Int32.toNatClampNeg 2)) sa144)))) C dX5_giveBack_43 rfl (flk_X5_33 hk144) (fp_any (fpk_1 hk144)) (wl_tail hg144) rfl rfl (Nat.le_of_ble_eq_true rfl) wl_t ?_
                          refine v_aload_n (n := 47) C dX5_giveBack_46 rfl rfl rfl ?_
                          refine v_aload_n (n := 48) C dX5_giveBack_47 rfl rfl rfl ?_
                          refine v_get (n := 51) C dX5_giveBack_48 rfl fl_X5_22_X5 wl_c9 rfl ?_
                          refine v_iload_n (n := 52) C dX5_giveBack_51 rfl rfl rfl ?_
                          refine v_iald (n := 53) C dX5_giveBack_52 rfl wl_c17 (vp_lit (by decide) (by decide)) ?_
                          refine v_put (n := 56) (es' := (wl D b sc ar (va_up (va_up hn 0 none) 1 none) mh (List.set G u144 (hcl k144 dr144 ((ar 16) (Int32.toNatClampNeg 2)) ((ar 17) (Int32.toNatClampNeg 2)))))) C dX5_giveBack_53 rfl (flk_X5_38 hk144) (fp_any (fpk_2 hk144)) (wl_tail (gset_self hg144)) rfl rfl (Nat.le_of_ble_eq_true rfl) (wl_t.trans (by rw [List.set_set]; rfl)) ?_
                          refine v_iinc (n := 59) (v := 3) (lv' := [(2, .int 3), (3, .ref (b + (u144 + 40))), (0, .ref (b + 9)), (1, .ref (b + 2))]) C dX5_giveBack_56 rfl rfl rfl (Nat.le_of_ble_eq_true rfl) rfl ?_
                          refine v_goto (t := 2) C dX5_giveBack_59 (by decide) ?_
                          refine v_iload_n (n := 3) C dX5_giveBack_2 rfl rfl rfl ?_
                          refine v_iconst (n := 4) (v := 3) C dX5_giveBack_3 rfl (by decide) ?_
                          refine v_icmp_ge (t := 62) (n := 7) C dX5_giveBack_4 (by decide) rfl (fun c_149 => ?_) (fun c_149 => ?_)
                          · skip
                            exact v_vret C dX5_giveBack_62 rfl ⟨rfl, (va_up (va_up hn 0 none) 1 none), (List.set G u144 (hcl k144 dr144 ((ar 16) (Int32.toNatClampNeg 2)) ((ar 17) (Int32.toNatClampNeg 2)))), gb_eq (f := (va_up (va_up (va_up hv 0 none) 1 none) 2 (some (k144, dr144, ((ar 16) (Int32.toNatClampNeg 2)), ((ar 17) (Int32.toNatClampNeg 2)))))) (g := gbF (sc 7) (ar 16) (ar 17) hv) (by simp [gbF, va_up, nI0, nI1, nI2, c_1, c_2, q_3, c_87, c_129, c_130, q_131, c_132, c_142, c_143, q_144, c_148, c_149]) (by simp [gbF, va_up, nI0, nI1, nI2, c_1, c_2, q_3, c_87, c_129, c_130, q_131, c_132, c_142, c_143, q_144, c_148, c_149]) (by simp [gbF, va_up, nI0, nI1, nI2, c_1, c_2, q_3, c_87, c_129, c_130, q_131, c_132, c_142, c_143, q_144, c_148, c_149]) (fun i h3 => by simp [gbF, va_up, show ¬ i = 0 by omega, show ¬ i = 1 by omega, show ¬ i = 2 by omega, show ¬ i < 3 by omega]) ▸ (HVr_set (i := 2) (dr := dr144) (ce := ((ar 16) (Int32.toNatClampNeg 2))) (sa := ((ar 17) (Int32.toNatClampNeg 2))) (HVr_none (i := 1) (HVr_none (i := 0) hr)) hu144 hk144 hg144), rfl⟩
                          · exact absurd c_149 (by decide)
                        · skip
                          refine v_aload_n (n := 26) C dX5_giveBack_25 rfl rfl rfl ?_
                          refine v_iload_n (n := 27) C dX5_giveBack_26 rfl rfl rfl ?_
                          refine v_null (n := 28) C dX5_giveBack_27 rfl ?_
                          refine v_aastN (n := 29) (es' := (wl D b sc ar (va_up (va_up (va_up hn 0 none) 1 none) 2 none) mh G)) C dX5_giveBack_28 rfl wl_c2 (vp_lit (by decide) (by decide)) (wl_h (i := 2) (v := none)) ?_
                          refine v_goto (t := 56) C dX5_giveBack_29 (by decide) ?_
                          refine v_iinc (n := 59) (v := 3) (lv' := [(2, .int 3), (3, .ref (b + (u144 + 40))), (0, .ref (b + 9)), (1, .ref (b + 2))]) C dX5_giveBack_56 rfl rfl rfl (Nat.le_of_ble_eq_true rfl) rfl ?_
                          refine v_goto (t := 2) C dX5_giveBack_59 (by decide) ?_
                          refine v_iload_n (n := 3) C dX5_giveBack_2 rfl rfl rfl ?_
                          refine v_iconst (n := 4) (v := 3) C dX5_giveBack_3 rfl (by decide) ?_
                          refine v_icmp_ge (t := 62) (n := 7) C dX5_giveBack_4 (by decide) rfl (fun c_150 => ?_) (fun c_150 => ?_)
                          · skip
                            exact v_vret C dX5_giveBack_62 rfl ⟨rfl, (va_up (va_up (va_up hn 0 none) 1 none) 2 none), G, gb_eq (f := (va_up (va_up (va_up hv 0 none) 1 none) 2 none)) (g := gbF (sc 7) (ar 16) (ar 17) hv) (by simp [gbF, va_up, nI0, nI1, nI2, c_1, c_2, q_3, c_87, c_129, c_130, q_131, c_132, c_142, c_143, q_144, c_148, c_150]) (by simp [gbF, va_up, nI0, nI1, nI2, c_1, c_2, q_3, c_87, c_129, c_130, q_131, c_132, c_142, c_143, q_144, c_148, c_150]) (by simp [gbF, va_up, nI0, nI1, nI2, c_1, c_2, q_3, c_87, c_129, c_130, q_131, c_132, c_142, c_143, q_144, c_148, c_150]) (fun i h3 => by simp [gbF, va_up, show ¬ i = 0 by omega, show ¬ i = 1 by omega, show ¬ i = 2 by omega, show ¬ i < 3 by omega]) ▸ (HVr_none (i := 2) (HVr_none (i := 1) (HVr_none (i := 0) hr))), rfl⟩
                          · exact absurd c_150 (by decide)
              · obtain ⟨u131, hu131, hk131, hg131⟩ := (HVr_none (i := 0) hr).2.1 1 k131 dr131 ce131 sa131 q_131
                refine v_stk (st' := .ref (b + (u131 + 40)) :: []) (congrArg (fun z : Option Nat => va_rf (z.map (fun t => b + t)) :: []) hu131) ?_
                refine v_astore_n (n := 17) (lv' := [(3, .ref (b + (u131 + 40))), (2, .int 1), (0, .ref (b + 9)), (1, .ref (b + 2))]) C dX5_giveBack_16 rfl rfl (Nat.le_of_ble_eq_true rfl) rfl ?_
                refine v_iload_n (n := 18) C dX5_giveBack_17 rfl rfl rfl ?_
                refine v_aload_n (n := 19) C dX5_giveBack_18 rfl rfl rfl ?_
                refine v_get (n := 22) C dX5_giveBack_19 rfl fl_X5_29_X5 wl_c9 rfl ?_
                refine v_icmp_lt (t := 32) (n := 25) C dX5_giveBack_22 (by decide) rfl (fun c_151 => ?_) (fun c_151 => ?_)
                · skip
                  refine v_aload_n (n := 33) C dX5_giveBack_32 rfl rfl rfl ?_
                  refine v_ifnull (n := 36) C dX5_giveBack_33 rfl ?_
                  refine v_aload_n (n := 37) C dX5_giveBack_36 rfl rfl rfl ?_
                  refine v_aload_n (n := 38) C dX5_giveBack_37 rfl rfl rfl ?_
                  refine v_get (n := 41) C dX5_giveBack_38 rfl fl_X5_18_X5 wl_c9 rfl ?_
                  refine v_iload_n (n := 42) C dX5_giveBack_41 rfl rfl rfl ?_
                  refine v_iald (n := 43) C dX5_giveBack_42 rfl wl_c16 (vp_lit (by decide) (by decide)) ?_
                  refine v_put (n := 46) (es' := (wl D b sc ar (va_up hn 0 none) mh (List.set G u131 (hcl k131 dr131 ((ar 16) (Int32.toNatClampNeg 1)) sa131)))) C dX5_giveBack_43 rfl (flk_X5_33 hk131) (fp_any (fpk_1 hk131)) (wl_tail hg131) rfl rfl (Nat.le_of_ble_eq_true rfl) wl_t ?_
                  refine v_aload_n (n := 47) C dX5_giveBack_46 rfl rfl rfl ?_
                  refine v_aload_n (n := 48) C dX5_giveBack_47 rfl rfl rfl ?_
                  refine v_get (n := 51) C dX5_giveBack_48 rfl fl_X5_22_X5 wl_c9 rfl ?_
                  refine v_iload_n (n := 52) C dX5_giveBack_51 rfl rfl rfl ?_
                  refine v_iald (n := 53) C dX5_giveBack_52 rfl wl_c17 (vp_lit (by decide) (by decide)) ?_
                  refine v_put (n := 56) (es' := (wl D b sc ar (va_up hn 0 none) mh (List.set G u131 (hcl k131 dr131 ((ar 16) (Int32.toNatClampNeg 1)) ((ar 17) (Int32.toNatClampNeg 1)))))) C dX5_giveBack_53 rfl (flk_X5_38 hk131) (fp_any (fpk_2 hk131)) (wl_tail (gset_self hg131)) rfl rfl (Nat.le_of_ble_eq_true rfl) (wl_t.trans (by rw [List.set_set]; rfl)) ?_
                  refine v_iinc (n := 59) (v := 2) (lv' := [(2, .int 2), (3, .ref (b + (u131 + 40))), (0, .ref (b + 9)), (1, .ref (b + 2))]) C dX5_giveBack_56 rfl rfl rfl (Nat.le_of_ble_eq_true rfl) rfl ?_
                  refine v_goto (t := 2) C dX5_giveBack_59 (by decide) ?_
                  refine v_iload_n (n := 3) C dX5_giveBack_2 rfl rfl rfl ?_
                  refine v_iconst (n := 4) (v := 3) C dX5_giveBack_3 rfl (by decide) ?_
                  refine v_icmp_ge (t := 62) (n := 7) C dX5_giveBack_4 (by decide) rfl (fun c_152 => ?_) (fun c_152 => ?_)
                  · exact absurd c_152 (by decide)
                  · skip
                    refine v_iload_n (n := 8) C dX5_giveBack_7 rfl rfl rfl ?_
                    refine v_aload_n (n := 9) C dX5_giveBack_8 rfl rfl rfl ?_
                    refine v_alenQ (n := 10) (v := 3) C dX5_giveBack_9 rfl wl_c2 rfl ?_
                    refine v_icmp_ge (t := 62) (n := 13) C dX5_giveBack_10 (by decide) rfl (fun c_153 => ?_) (fun c_153 => ?_)
                    · exact absurd c_153 (by decide)
                    · skip
                      refine v_aload_n (n := 14) C dX5_giveBack_13 rfl rfl rfl ?_
                      refine v_iload_n (n := 15) C dX5_giveBack_14 rfl rfl rfl ?_
                      refine v_aald (n := 16) C dX5_giveBack_15 rfl wl_c2 (vp_lit (by decide) (by decide)) ?_
                      change V p l e _ s m args below meth c D b 4 _ 0 0 (wl D b sc ar (va_up hn 0 none) mh (List.set G u131 (hcl k131 dr131 ((ar 16) (Int32.toNatClampNeg 1)) ((ar 17) (Int32.toNatClampNeg 1))))) [(2, .int 2), (3, .ref (b + (u131 + 40))), (0, .ref (b + 9)), (1, .ref (b + 2))] (va_rf (((va_up hn 0 none) 2).map (fun t => b + t)) :: []) 16
                      rcases q_154 : hv 2 with _ | ⟨k154, dr154, ce154, sa154⟩
                      · skip
                        refine v_stk (st' := .null :: []) (congrArg (fun z : Option Nat => va_rf (z.map (fun t => b + t)) :: []) ((HVr_set (i := 1) (dr := dr131) (ce := ((ar 16) (Int32.toNatClampNeg 1))) (sa := ((ar 17) (Int32.toNatClampNeg 1))) (HVr_none (i := 0) hr) hu131 hk131 hg131).1 2 q_154)) ?_
                        refine v_astore_nN (n := 17) (lv' := [(3, .null), (2, .int 2), (0, .ref (b + 9)), (1, .ref (b + 2))]) C dX5_giveBack_16 rfl rfl (Nat.le_of_ble_eq_true rfl) rfl ?_
                        refine v_iload_n (n := 18) C dX5_giveBack_17 rfl rfl rfl ?_
                        refine v_aload_n (n := 19) C dX5_giveBack_18 rfl rfl rfl ?_
                        refine v_get (n := 22) C dX5_giveBack_19 rfl fl_X5_29_X5 wl_c9 rfl ?_
                        refine v_icmp_lt (t := 32) (n := 25) C dX5_giveBack_22 (by decide) rfl (fun c_155 => ?_) (fun c_155 => ?_)
                        · skip
                          refine v_aload_nN (n := 33) C dX5_giveBack_32 rfl rfl rfl ?_
                          refine v_ifnullN (t := 56) C dX5_giveBack_33 (by decide) ?_
                          refine v_iinc (n := 59) (v := 3) (lv' := [(2, .int 3), (3, .null), (0, .ref (b + 9)), (1, .ref (b + 2))]) C dX5_giveBack_56 rfl rfl rfl (Nat.le_of_ble_eq_true rfl) rfl ?_
                          refine v_goto (t := 2) C dX5_giveBack_59 (by decide) ?_
                          refine v_iload_n (n := 3) C dX5_giveBack_2 rfl rfl rfl ?_
                          refine v_iconst (n := 4) (v := 3) C dX5_giveBack_3 rfl (by decide) ?_
                          refine v_icmp_ge (t := 62) (n := 7) C dX5_giveBack_4 (by decide) rfl (fun c_156 => ?_) (fun c_156 => ?_)
                          · skip
                            exact v_vret C dX5_giveBack_62 rfl ⟨rfl, (va_up hn 0 none), (List.set G u131 (hcl k131 dr131 ((ar 16) (Int32.toNatClampNeg 1)) ((ar 17) (Int32.toNatClampNeg 1)))), gb_eq (f := (va_up (va_up hv 0 none) 1 (some (k131, dr131, ((ar 16) (Int32.toNatClampNeg 1)), ((ar 17) (Int32.toNatClampNeg 1)))))) (g := gbF (sc 7) (ar 16) (ar 17) hv) (by simp [gbF, va_up, nI0, nI1, nI2, c_1, c_2, q_3, c_87, c_129, c_130, q_131, c_151, c_152, c_153, q_154, c_155, c_156]) (by simp [gbF, va_up, nI0, nI1, nI2, c_1, c_2, q_3, c_87, c_129, c_130, q_131, c_151, c_152, c_153, q_154, c_155, c_156]) (by simp [gbF, va_up, nI0, nI1, nI2, c_1, c_2, q_3, c_87, c_129, c_130, q_131, c_151, c_152, c_153, q_154, c_155, c_156]) (fun i h3 => by simp [gbF, va_up, show ¬ i = 0 by omega, show ¬ i = 1 by omega, show ¬ i = 2 by omega, show ¬ i < 3 by omega]) ▸ (HVr_set (i := 1) (dr := dr131) (ce := ((ar 16) (Int32.toNatClampNeg 1))) (sa := ((ar 17) (Int32.toNatClampNeg 1))) (HVr_none (i := 0) hr) hu131 hk131 hg131), rfl⟩
                          · exact absurd c_156 (by decide)
                        · skip
                          refine v_aload_n (n := 26) C dX5_giveBack_25 rfl rfl rfl ?_
                          refine v_iload_n (n := 27) C dX5_giveBack_26 rfl rfl rfl ?_
                          refine v_null (n := 28) C dX5_giveBack_27 rfl ?_
                          refine v_aastN (n := 29) (es' := (wl D b sc ar (va_up (va_up hn 0 none) 2 none) mh (List.set G u131 (hcl k131 dr131 ((ar 16) (Int32.toNatClampNeg 1)) ((ar 17) (Int32.toNatClampNeg 1)))))) C dX5_giveBack_28 rfl wl_c2 (vp_lit (by decide) (by decide)) (wl_h (i := 2) (v := none)) ?_
                          refine v_goto (t := 56) C dX5_giveBack_29 (by decide) ?_
                          refine v_iinc (n := 59) (v := 3) (lv' := [(2, .int 3), (3, .null), (0, .ref (b + 9)), (1, .ref (b + 2))]) C dX5_giveBack_56 rfl rfl rfl (Nat.le_of_ble_eq_true rfl) rfl ?_
                          refine v_goto (t := 2) C dX5_giveBack_59 (by decide) ?_
                          refine v_iload_n (n := 3) C dX5_giveBack_2 rfl rfl rfl ?_
                          refine v_iconst (n := 4) (v := 3) C dX5_giveBack_3 rfl (by decide) ?_
                          refine v_icmp_ge (t := 62) (n := 7) C dX5_giveBack_4 (by decide) rfl (fun c_157 => ?_) (fun c_157 => ?_)
                          · skip
                            exact v_vret C dX5_giveBack_62 rfl ⟨rfl, (va_up (va_up hn 0 none) 2 none), (List.set G u131 (hcl k131 dr131 ((ar 16) (Int32.toNatClampNeg 1)) ((ar 17) (Int32.toNatClampNeg 1)))), gb_eq (f := (va_up (va_up (va_up hv 0 none) 1 (some (k131, dr131, ((ar 16) (Int32.toNatClampNeg 1)), ((ar 17) (Int32.toNatClampNeg 1))))) 2 none)) (g := gbF (sc 7) (ar 16) (ar 17) hv) (by simp [gbF, va_up, nI0, nI1, nI2, c_1, c_2, q_3, c_87, c_129, c_130, q_131, c_151, c_152, c_153, q_154, c_155, c_157]) (by simp [gbF, va_up, nI0, nI1, nI2, c_1, c_2, q_3, c_87, c_129, c_130, q_131, c_151, c_152, c_153, q_154, c_155, c_157]) (by simp [gbF, va_up, nI0, nI1, nI2, c_1, c_2, q_3, c_87, c_129, c_130, q_131, c_151, c_152, c_153, q_154, c_155, c_157]) (fun i h3 => by simp [gbF, va_up, show ¬ i = 0 by omega, show ¬ i = 1 by omega, show ¬ i = 2 by omega, show ¬ i < 3 by omega]) ▸ (HVr_none (i := 2) (HVr_set (i := 1) (dr := dr131) (ce := ((ar 16) (Int32.toNatClampNeg 1))) (sa := ((ar 17) (Int32.toNatClampNeg 1))) (HVr_none (i := 0) hr) hu131 hk131 hg131)), rfl⟩
                          · exact absurd c_157 (by decide)
                      · obtain ⟨u154, hu154, hk154, hg154⟩ := (HVr_set (i := 1) (dr := dr131) (ce := ((ar 16) (Int32.toNatClampNeg 1))) (sa := ((ar 17) (Int32.toNatClampNeg 1))) (HVr_none (i := 0) hr) hu131 hk131 hg131).2.1 2 k154 dr154 ce154 sa154 q_154
                        refine v_stk (st' := .ref (b + (u154 + 40)) :: []) (congrArg (fun z : Option Nat => va_rf (z.map (fun t => b + t)) :: []) hu154) ?_
                        refine v_astore_n (n := 17) (lv' := [(3, .ref (b + (u154 + 40))), (2, .int 2), (0, .ref (b + 9)), (1, .ref (b + 2))]) C dX5_giveBack_16 rfl rfl (Nat.le_of_ble_eq_true rfl) rfl ?_
                        refine v_iload_n (n := 18) C dX5_giveBack_17 rfl rfl rfl ?_
                        refine v_aload_n (n := 19) C dX5_giveBack_18 rfl rfl rfl ?_
                        refine v_get (n := 22) C dX5_giveBack_19 rfl fl_X5_29_X5 wl_c9 rfl ?_
                        refine v_icmp_lt (t := 32) (n := 25) C dX5_giveBack_22 (by decide) rfl (fun c_158 => ?_) (fun c_158 => ?_)
                        · skip
                          refine v_aload_n (n := 33) C dX5_giveBack_32 rfl rfl rfl ?_
                          refine v_ifnull (n := 36) C dX5_giveBack_33 rfl ?_
                          refine v_aload_n (n := 37) C dX5_giveBack_36 rfl rfl rfl ?_
                          refine v_aload_n (n := 38) C dX5_giveBack_37 rfl rfl rfl ?_
                          refine v_get (n := 41) C dX5_giveBack_38 rfl fl_X5_18_X5 wl_c9 rfl ?_
                          refine v_iload_n (n := 42) C dX5_giveBack_41 rfl rfl rfl ?_
                          refine v_iald (n := 43) C dX5_giveBack_42 rfl wl_c16 (vp_lit (by decide) (by decide)) ?_
                          refine v_put (n := 46) (es' := (wl D b sc ar (va_up hn 0 none) mh (List.set (List.set G u131 (hcl k131 dr131 ((ar 16) (Int32.toNatClampNeg 1)) ((ar 17) (Int32.toNatClampNeg 1)))) u154 (hcl k154 dr154 ((ar 16) (Int32.toNatClampNeg 2)) sa154)))) C dX5_giveBack_43 rfl (flk_X5_33 hk154) (fp_any (fpk_1 hk154)) (wl_tail hg154) rfl rfl (Nat.le_of_ble_eq_true rfl) wl_t ?_
                          refine v_aload_n (n := 47) C dX5_giveBack_46 rfl rfl rfl ?_
                          refine v_aload_n (n := 48) C dX5_giveBack_47 rfl rfl rfl ?_
                          refine v_get (n := 51) C dX5_giveBack_48 rfl fl_X5_22_X5 wl_c9 rfl ?_
                          refine v_iload_n (n := 52) C dX5_giveBack_51 rfl rfl rfl ?_
                          refine v_iald (n := 53) C dX5_giveBack_52 rfl wl_c17 (vp_lit (by decide) (by decide)) ?_
                          refine v_put (n := 56) (es' := (wl D b sc ar (va_up hn 0 none) mh (List.set (List.set G u131 (hcl k131 dr131 ((ar 16) (Int32.toNatClampNeg 1)) ((ar 17) (Int32.toNatClampNeg 1)))) u154 (hcl k154 dr154 ((ar 16) (Int32.toNatClampNeg 2)) ((ar 17) (Int32.toNatClampNeg 2)))))) C dX5_giveBack_53 rfl (flk_X5_38 hk154) (fp_any (fpk_2 hk154)) (wl_tail (gset_self hg154)) rfl rfl (Nat.le_of_ble_eq_true rfl) (wl_t.trans (by rw [List.set_set]; rfl)) ?_
                          refine v_iinc (n := 59) (v := 3) (lv' := [(2, .int 3), (3, .ref (b + (u154 + 40))), (0, .ref (b + 9)), (1, .ref (b + 2))]) C dX5_giveBack_56 rfl rfl rfl (Nat.le_of_ble_eq_true rfl) rfl ?_
                          refine v_goto (t := 2) C dX5_giveBack_59 (by decide) ?_
                          refine v_iload_n (n := 3) C dX5_giveBack_2 rfl rfl rfl ?_
                          refine v_iconst (n := 4) (v := 3) C dX5_giveBack_3 rfl (by decide) ?_
                          refine v_icmp_ge (t := 62) (n := 7) C dX5_giveBack_4 (by decide) rfl (fun c_159 => ?_) (fun c_159 => ?_)
                          · skip
                            exact v_vret C dX5_giveBack_62 rfl ⟨rfl, (va_up hn 0 none), (List.set (List.set G u131 (hcl k131 dr131 ((ar 16) (Int32.toNatClampNeg 1)) ((ar 17) (Int32.toNatClampNeg 1)))) u154 (hcl k154 dr154 ((ar 16) (Int32.toNatClampNeg 2)) ((ar 17) (Int32.toNatClampNeg 2)))), gb_eq (f := (va_up (va_up (va_up hv 0 none) 1 (some (k131, dr131, ((ar 16) (Int32.toNatClampNeg 1)), ((ar 17) (Int32.toNatClampNeg 1))))) 2 (some (k154, dr154, ((ar 16) (Int32.toNatClampNeg 2)), ((ar 17) (Int32.toNatClampNeg 2)))))) (g := gbF (sc 7) (ar 16) (ar 17) hv) (by simp [gbF, va_up, nI0, nI1, nI2, c_1, c_2, q_3, c_87, c_129, c_130, q_131, c_151, c_152, c_153, q_154, c_158, c_159]) (by simp [gbF, va_up, nI0, nI1, nI2, c_1, c_2, q_3, c_87, c_129, c_130, q_131, c_151, c_152, c_153, q_154, c_158, c_159]) (by simp [gbF, va_up, nI0, nI1, nI2, c_1, c_2, q_3, c_87, c_129, c_130, q_131, c_151, c_152, c_153, q_154, c_158, c_159]) (fun i h3 => by simp [gbF, va_up, show ¬ i = 0 by omega, show ¬ i = 1 by omega, show ¬ i = 2 by omega, show ¬ i < 3 by omega]) ▸ (HVr_set (i := 2) (dr := dr154) (ce := ((ar 16) (Int32.toNatClampNeg 2))) (sa := ((ar 17) (Int32.toNatClampNeg 2))) (HVr_set (i := 1) (dr := dr131) (ce := ((ar 16) (Int32.toNatClampNeg 1))) (sa := ((ar 17) (Int32.toNatClampNeg 1))) (HVr_none (i := 0) hr) hu131 hk131 hg131) hu154 hk154 hg154), rfl⟩
                          · exact absurd c_159 (by decide)
                        · skip
                          refine v_aload_n (n := 26) C dX5_giveBack_25 rfl rfl rfl ?_
                          refine v_iload_n (n := 27) C dX5_giveBack_26 rfl rfl rfl ?_
                          refine v_null (n := 28) C dX5_giveBack_27 rfl ?_
                          refine v_aastN (n := 29) (es' := (wl D b sc ar (va_up (va_up hn 0 none) 2 none) mh (List.set G u131 (hcl k131 dr131 ((ar 16) (Int32.toNatClampNeg 1)) ((ar 17) (Int32.toNatClampNeg 1)))))) C dX5_giveBack_28 rfl wl_c2 (vp_lit (by decide) (by decide)) (wl_h (i := 2) (v := none)) ?_
                          refine v_goto (t := 56) C dX5_giveBack_29 (by decide) ?_
                          refine v_iinc (n := 59) (v := 3) (lv' := [(2, .int 3), (3, .ref (b + (u154 + 40))), (0, .ref (b + 9)), (1, .ref (b + 2))]) C dX5_giveBack_56 rfl rfl rfl (Nat.le_of_ble_eq_true rfl) rfl ?_
                          refine v_goto (t := 2) C dX5_giveBack_59 (by decide) ?_
                          refine v_iload_n (n := 3) C dX5_giveBack_2 rfl rfl rfl ?_
                          refine v_iconst (n := 4) (v := 3) C dX5_giveBack_3 rfl (by decide) ?_
                          refine v_icmp_ge (t := 62) (n := 7) C dX5_giveBack_4 (by decide) rfl (fun c_160 => ?_) (fun c_160 => ?_)
                          · skip
                            exact v_vret C dX5_giveBack_62 rfl ⟨rfl, (va_up (va_up hn 0 none) 2 none), (List.set G u131 (hcl k131 dr131 ((ar 16) (Int32.toNatClampNeg 1)) ((ar 17) (Int32.toNatClampNeg 1)))), gb_eq (f := (va_up (va_up (va_up hv 0 none) 1 (some (k131, dr131, ((ar 16) (Int32.toNatClampNeg 1)), ((ar 17) (Int32.toNatClampNeg 1))))) 2 none)) (g := gbF (sc 7) (ar 16) (ar 17) hv) (by simp [gbF, va_up, nI0, nI1, nI2, c_1, c_2, q_3, c_87, c_129, c_130, q_131, c_151, c_152, c_153, q_154, c_158, c_160]) (by simp [gbF, va_up, nI0, nI1, nI2, c_1, c_2, q_3, c_87, c_129, c_130, q_131, c_151, c_152, c_153, q_154, c_158, c_160]) (by simp [gbF, va_up, nI0, nI1, nI2, c_1, c_2, q_3, c_87, c_129, c_130, q_131, c_151, c_152, c_153, q_154, c_158, c_160]) (fun i h3 => by simp [gbF, va_up, show ¬ i = 0 by omega, show ¬ i = 1 by omega, show ¬ i = 2 by omega, show ¬ i < 3 by omega]) ▸ (HVr_none (i := 2) (HVr_set (i := 1) (dr := dr131) (ce := ((ar 16) (Int32.toNatClampNeg 1))) (sa := ((ar 17) (Int32.toNatClampNeg 1))) (HVr_none (i := 0) hr) hu131 hk131 hg131)), rfl⟩
                          · exact absurd c_160 (by decide)
                · skip
                  refine v_aload_n (n := 26) C dX5_giveBack_25 rfl rfl rfl ?_
                  refine v_iload_n (n := 27) C dX5_giveBack_26 rfl rfl rfl ?_
                  refine v_null (n := 28) C dX5_giveBack_27 rfl ?_
                  refine v_aastN (n := 29) (es' := (wl D b sc ar (va_up (va_up hn 0 none) 1 none) mh G)) C dX5_giveBack_28 rfl wl_c2 (vp_lit (by decide) (by decide)) (wl_h (i := 1) (v := none)) ?_
                  refine v_goto (t := 56) C dX5_giveBack_29 (by decide) ?_
                  refine v_iinc (n := 59) (v := 2) (lv' := [(2, .int 2), (3, .ref (b + (u131 + 40))), (0, .ref (b + 9)), (1, .ref (b + 2))]) C dX5_giveBack_56 rfl rfl rfl (Nat.le_of_ble_eq_true rfl) rfl ?_
                  refine v_goto (t := 2) C dX5_giveBack_59 (by decide) ?_
                  refine v_iload_n (n := 3) C dX5_giveBack_2 rfl rfl rfl ?_
                  refine v_iconst (n := 4) (v := 3) C dX5_giveBack_3 rfl (by decide) ?_
                  refine v_icmp_ge (t := 62) (n := 7) C dX5_giveBack_4 (by decide) rfl (fun c_161 => ?_) (fun c_161 => ?_)
                  · exact absurd c_161 (by decide)
                  · skip
                    refine v_iload_n (n := 8) C dX5_giveBack_7 rfl rfl rfl ?_
                    refine v_aload_n (n := 9) C dX5_giveBack_8 rfl rfl rfl ?_
                    refine v_alenQ (n := 10) (v := 3) C dX5_giveBack_9 rfl wl_c2 rfl ?_
                    refine v_icmp_ge (t := 62) (n := 13) C dX5_giveBack_10 (by decide) rfl (fun c_162 => ?_) (fun c_162 => ?_)
                    · exact absurd c_162 (by decide)
                    · skip
                      refine v_aload_n (n := 14) C dX5_giveBack_13 rfl rfl rfl ?_
                      refine v_iload_n (n := 15) C dX5_giveBack_14 rfl rfl rfl ?_
                      refine v_aald (n := 16) C dX5_giveBack_15 rfl wl_c2 (vp_lit (by decide) (by decide)) ?_
                      change V p l e _ s m args below meth c D b 4 _ 0 0 (wl D b sc ar (va_up (va_up hn 0 none) 1 none) mh G) [(2, .int 2), (3, .ref (b + (u131 + 40))), (0, .ref (b + 9)), (1, .ref (b + 2))] (va_rf (((va_up (va_up hn 0 none) 1 none) 2).map (fun t => b + t)) :: []) 16
                      rcases q_163 : hv 2 with _ | ⟨k163, dr163, ce163, sa163⟩
                      · skip
                        refine v_stk (st' := .null :: []) (congrArg (fun z : Option Nat => va_rf (z.map (fun t => b + t)) :: []) ((HVr_none (i := 1) (HVr_none (i := 0) hr)).1 2 q_163)) ?_
                        refine v_astore_nN (n := 17) (lv' := [(3, .null), (2, .int 2), (0, .ref (b + 9)), (1, .ref (b + 2))]) C dX5_giveBack_16 rfl rfl (Nat.le_of_ble_eq_true rfl) rfl ?_
                        refine v_iload_n (n := 18) C dX5_giveBack_17 rfl rfl rfl ?_
                        refine v_aload_n (n := 19) C dX5_giveBack_18 rfl rfl rfl ?_
                        refine v_get (n := 22) C dX5_giveBack_19 rfl fl_X5_29_X5 wl_c9 rfl ?_
                        refine v_icmp_lt (t := 32) (n := 25) C dX5_giveBack_22 (by decide) rfl (fun c_164 => ?_) (fun c_164 => ?_)
                        · skip
                          refine v_aload_nN (n := 33) C dX5_giveBack_32 rfl rfl rfl ?_
                          refine v_ifnullN (t := 56) C dX5_giveBack_33 (by decide) ?_
                          refine v_iinc (n := 59) (v := 3) (lv' := [(2, .int 3), (3, .null), (0, .ref (b + 9)), (1, .ref (b + 2))]) C dX5_giveBack_56 rfl rfl rfl (Nat.le_of_ble_eq_true rfl) rfl ?_
                          refine v_goto (t := 2) C dX5_giveBack_59 (by decide) ?_
                          refine v_iload_n (n := 3) C dX5_giveBack_2 rfl rfl rfl ?_
                          refine v_iconst (n := 4) (v := 3) C dX5_giveBack_3 rfl (by decide) ?_
                          refine v_icmp_ge (t := 62) (n := 7) C dX5_giveBack_4 (by decide) rfl (fun c_165 => ?_) (fun c_165 => ?_)
                          · skip
                            exact v_vret C dX5_giveBack_62 rfl ⟨rfl, (va_up (va_up hn 0 none) 1 none), G, gb_eq (f := (va_up (va_up hv 0 none) 1 none)) (g := gbF (sc 7) (ar 16) (ar 17) hv) (by simp [gbF, va_up, nI0, nI1, nI2, c_1, c_2, q_3, c_87, c_129, c_130, q_131, c_151, c_161, c_162, q_163, c_164, c_165]) (by simp [gbF, va_up, nI0, nI1, nI2, c_1, c_2, q_3, c_87, c_129, c_130, q_131, c_151, c_161, c_162, q_163, c_164, c_165]) (by simp [gbF, va_up, nI0, nI1, nI2, c_1, c_2, q_3, c_87, c_129, c_130, q_131, c_151, c_161, c_162, q_163, c_164, c_165]) (fun i h3 => by simp [gbF, va_up, show ¬ i = 0 by omega, show ¬ i = 1 by omega, show ¬ i = 2 by omega, show ¬ i < 3 by omega]) ▸ (HVr_none (i := 1) (HVr_none (i := 0) hr)), rfl⟩
                          · exact absurd c_165 (by decide)
                        · skip
                          refine v_aload_n (n := 26) C dX5_giveBack_25 rfl rfl rfl ?_
                          refine v_iload_n (n := 27) C dX5_giveBack_26 rfl rfl rfl ?_
                          refine v_null (n := 28) C dX5_giveBack_27 rfl ?_
                          refine v_aastN (n := 29) (es' := (wl D b sc ar (va_up (va_up (va_up hn 0 none) 1 none) 2 none) mh G)) C dX5_giveBack_28 rfl wl_c2 (vp_lit (by decide) (by decide)) (wl_h (i := 2) (v := none)) ?_
                          refine v_goto (t := 56) C dX5_giveBack_29 (by decide) ?_
                          refine v_iinc (n := 59) (v := 3) (lv' := [(2, .int 3), (3, .null), (0, .ref (b + 9)), (1, .ref (b + 2))]) C dX5_giveBack_56 rfl rfl rfl (Nat.le_of_ble_eq_true rfl) rfl ?_
                          refine v_goto (t := 2) C dX5_giveBack_59 (by decide) ?_
                          refine v_iload_n (n := 3) C dX5_giveBack_2 rfl rfl rfl ?_
                          refine v_iconst (n := 4) (v := 3) C dX5_giveBack_3 rfl (by decide) ?_
                          refine v_icmp_ge (t := 62) (n := 7) C dX5_giveBack_4 (by decide) rfl (fun c_166 => ?_) (fun c_166 => ?_)
                          · skip
                            exact v_vret C dX5_giveBack_62 rfl ⟨rfl, (va_up (va_up (va_up hn 0 none) 1 none) 2 none), G, gb_eq (f := (va_up (va_up (va_up hv 0 none) 1 none) 2 none)) (g := gbF (sc 7) (ar 16) (ar 17) hv) (by simp [gbF, va_up, nI0, nI1, nI2, c_1, c_2, q_3, c_87, c_129, c_130, q_131, c_151, c_161, c_162, q_163, c_164, c_166]) (by simp [gbF, va_up, nI0, nI1, nI2, c_1, c_2, q_3, c_87, c_129, c_130, q_131, c_151, c_161, c_162, q_163, c_164, c_166]) (by simp [gbF, va_up, nI0, nI1, nI2, c_1, c_2, q_3, c_87, c_129, c_130, q_131, c_151, c_161, c_162, q_163, c_164, c_166]) (fun i h3 => by simp [gbF, va_up, show ¬ i = 0 by omega, show ¬ i = 1 by omega, show ¬ i = 2 by omega, show ¬ i < 3 by omega]) ▸ (HVr_none (i := 2) (HVr_none (i := 1) (HVr_none (i := 0) hr))), rfl⟩
                          · exact absurd c_166 (by decide)
                      · obtain ⟨u163, hu163, hk163, hg163⟩ := (HVr_none (i := 1) (HVr_none (i := 0) hr)).2.1 2 k163 dr163 ce163 sa163 q_163
                        refine v_stk (st' := .ref (b + (u163 + 40)) :: []) (congrArg (fun z : Option Nat => va_rf (z.map (fun t => b + t)) :: []) hu163) ?_
                        refine v_astore_n (n := 17) (lv' := [(3, .ref (b + (u163 + 40))), (2, .int 2), (0, .ref (b + 9)), (1, .ref (b + 2))]) C dX5_giveBack_16 rfl rfl (Nat.le_of_ble_eq_true rfl) rfl ?_
                        refine v_iload_n (n := 18) C dX5_giveBack_17 rfl rfl rfl ?_
                        refine v_aload_n (n := 19) C dX5_giveBack_18 rfl rfl rfl ?_
                        refine v_get (n := 22) C dX5_giveBack_19 rfl fl_X5_29_X5 wl_c9 rfl ?_
                        refine v_icmp_lt (t := 32) (n := 25) C dX5_giveBack_22 (by decide) rfl (fun c_167 => ?_) (fun c_167 => ?_)
                        · skip
                          refine v_aload_n (n := 33) C dX5_giveBack_32 rfl rfl rfl ?_
                          refine v_ifnull (n := 36) C dX5_giveBack_33 rfl ?_
                          refine v_aload_n (n := 37) C dX5_giveBack_36 rfl rfl rfl ?_
                          refine v_aload_n (n := 38) C dX5_giveBack_37 rfl rfl rfl ?_
                          refine v_get (n := 41) C dX5_giveBack_38 rfl fl_X5_18_X5 wl_c9 rfl ?_
                          refine v_iload_n (n := 42) C dX5_giveBack_41 rfl rfl rfl ?_
                          refine v_iald (n := 43) C dX5_giveBack_42 rfl wl_c16 (vp_lit (by decide) (by decide)) ?_
                          refine v_put (n := 46) (es' := (wl D b sc ar (va_up (va_up hn 0 none) 1 none) mh (List.set G u163 (hcl k163 dr163 ((ar 16) (Int32.toNatClampNeg 2)) sa163)))) C dX5_giveBack_43 rfl (flk_X5_33 hk163) (fp_any (fpk_1 hk163)) (wl_tail hg163) rfl rfl (Nat.le_of_ble_eq_true rfl) wl_t ?_
                          refine v_aload_n (n := 47) C dX5_giveBack_46 rfl rfl rfl ?_
                          refine v_aload_n (n := 48) C dX5_giveBack_47 rfl rfl rfl ?_
                          refine v_get (n := 51) C dX5_giveBack_48 rfl fl_X5_22_X5 wl_c9 rfl ?_
                          refine v_iload_n (n := 52) C dX5_giveBack_51 rfl rfl rfl ?_
                          refine v_iald (n := 53) C dX5_giveBack_52 rfl wl_c17 (vp_lit (by decide) (by decide)) ?_
                          refine v_put (n := 56) (es' := (wl D b sc ar (va_up (va_up hn 0 none) 1 none) mh (List.set G u163 (hcl k163 dr163 ((ar 16) (Int32.toNatClampNeg 2)) ((ar 17) (Int32.toNatClampNeg 2)))))) C dX5_giveBack_53 rfl (flk_X5_38 hk163) (fp_any (fpk_2 hk163)) (wl_tail (gset_self hg163)) rfl rfl (Nat.le_of_ble_eq_true rfl) (wl_t.trans (by rw [List.set_set]; rfl)) ?_
                          refine v_iinc (n := 59) (v := 3) (lv' := [(2, .int 3), (3, .ref (b + (u163 + 40))), (0, .ref (b + 9)), (1, .ref (b + 2))]) C dX5_giveBack_56 rfl rfl rfl (Nat.le_of_ble_eq_true rfl) rfl ?_
                          refine v_goto (t := 2) C dX5_giveBack_59 (by decide) ?_
                          refine v_iload_n (n := 3) C dX5_giveBack_2 rfl rfl rfl ?_
                          refine v_iconst (n := 4) (v := 3) C dX5_giveBack_3 rfl (by decide) ?_
                          refine v_icmp_ge (t := 62) (n := 7) C dX5_giveBack_4 (by decide) rfl (fun c_168 => ?_) (fun c_168 => ?_)
                          · skip
                            exact v_vret C dX5_giveBack_62 rfl ⟨rfl, (va_up (va_up hn 0 none) 1 none), (List.set G u163 (hcl k163 dr163 ((ar 16) (Int32.toNatClampNeg 2)) ((ar 17) (Int32.toNatClampNeg 2)))), gb_eq (f := (va_up (va_up (va_up hv 0 none) 1 none) 2 (some (k163, dr163, ((ar 16) (Int32.toNatClampNeg 2)), ((ar 17) (Int32.toNatClampNeg 2)))))) (g := gbF (sc 7) (ar 16) (ar 17) hv) (by simp [gbF, va_up, nI0, nI1, nI2, c_1, c_2, q_3, c_87, c_129, c_130, q_131, c_151, c_161, c_162, q_163, c_167, c_168]) (by simp [gbF, va_up, nI0, nI1, nI2, c_1, c_2, q_3, c_87, c_129, c_130, q_131, c_151, c_161, c_162, q_163, c_167, c_168]) (by simp [gbF, va_up, nI0, nI1, nI2, c_1, c_2, q_3, c_87, c_129, c_130, q_131, c_151, c_161, c_162, q_163, c_167, c_168]) (fun i h3 => by simp [gbF, va_up, show ¬ i = 0 by omega, show ¬ i = 1 by omega, show ¬ i = 2 by omega, show ¬ i < 3 by omega]) ▸ (HVr_set (i := 2) (dr := dr163) (ce := ((ar 16) (Int32.toNatClampNeg 2))) (sa := ((ar 17) (Int32.toNatClampNeg 2))) (HVr_none (i := 1) (HVr_none (i := 0) hr)) hu163 hk163 hg163), rfl⟩
                          · exact absurd c_168 (by decide)
                        · skip
                          refine v_aload_n (n := 26) C dX5_giveBack_25 rfl rfl rfl ?_
                          refine v_iload_n (n := 27) C dX5_giveBack_26 rfl rfl rfl ?_
                          refine v_null (n := 28) C dX5_giveBack_27 rfl ?_
                          refine v_aastN (n := 29) (es' := (wl D b sc ar (va_up (va_up (va_up hn 0 none) 1 none) 2 none) mh G)) C dX5_giveBack_28 rfl wl_c2 (vp_lit (by decide) (by decide)) (wl_h (i := 2) (v := none)) ?_
                          refine v_goto (t := 56) C dX5_giveBack_29 (by decide) ?_
                          refine v_iinc (n := 59) (v := 3) (lv' := [(2, .int 3), (3, .ref (b + (u163 + 40))), (0, .ref (b + 9)), (1, .ref (b + 2))]) C dX5_giveBack_56 rfl rfl rfl (Nat.le_of_ble_eq_true rfl) rfl ?_
                          refine v_goto (t := 2) C dX5_giveBack_59 (by decide) ?_
                          refine v_iload_n (n := 3) C dX5_giveBack_2 rfl rfl rfl ?_
                          refine v_iconst (n := 4) (v := 3) C dX5_giveBack_3 rfl (by decide) ?_
                          refine v_icmp_ge (t := 62) (n := 7) C dX5_giveBack_4 (by decide) rfl (fun c_169 => ?_) (fun c_169 => ?_)
                          · skip
                            exact v_vret C dX5_giveBack_62 rfl ⟨rfl, (va_up (va_up (va_up hn 0 none) 1 none) 2 none), G, gb_eq (f := (va_up (va_up (va_up hv 0 none) 1 none) 2 none)) (g := gbF (sc 7) (ar 16) (ar 17) hv) (by simp [gbF, va_up, nI0, nI1, nI2, c_1, c_2, q_3, c_87, c_129, c_130, q_131, c_151, c_161, c_162, q_163, c_167, c_169]) (by simp [gbF, va_up, nI0, nI1, nI2, c_1, c_2, q_3, c_87, c_129, c_130, q_131, c_151, c_161, c_162, q_163, c_167, c_169]) (by simp [gbF, va_up, nI0, nI1, nI2, c_1, c_2, q_3, c_87, c_129, c_130, q_131, c_151, c_161, c_162, q_163, c_167, c_169]) (fun i h3 => by simp [gbF, va_up, show ¬ i = 0 by omega, show ¬ i = 1 by omega, show ¬ i = 2 by omega, show ¬ i < 3 by omega]) ▸ (HVr_none (i := 2) (HVr_none (i := 1) (HVr_none (i := 0) hr))), rfl⟩
                          · exact absurd c_169 (by decide)
