def mxF (x y : Int32) : Int32 := if x < y then y else x
section VM
variable {p : Program} {l : Launch} {e : Env} {R : Room} {s : State} {m : MethodId} {args : Array Value} {below : List Frame} {meth : Method} {c : Code} {D : va_G} {b nL : Nat} {Q : State → Prop} {cells slots : Nat} {es : List va_E} {lv : List (Nat × Value)} {rest : List Value} {pc n : Nat} {cc : ByteArray} {own nm : String} {ret : Option FieldType}
theorem v_max (C : vC p s m args meth c cc nL own nm ret D b) {idx : Nat} {x y : Int32} (hdg : decode cc pc = .ok (.invokestatic idx, 3)) (hn : pc + 3 = n) (hlink : Cond.methodLink own idx yJ9_max_7cf53 ∈ lw_g) (hstat : Cond.static yJ9_max_7cf53 ∈ lw_g) (hw : WM yJ9_max_7cf53 cJ9_max_7cf53 2 (some .int) 2) (hR : 1 ≤ R.frames ∧ (rest.map fun v => v.category).sum + 13 ≤ R.locals) (hf : cells ≤ R.cells ∧ slots ≤ R.slots)
    (K : V p l e R s m args below meth c D b nL Q cells slots es lv (.int (mxF x y) :: rest) n) : V p l e R s m args below meth c D b nL Q cells slots es lv (.int y :: .int x :: rest) pc := by
  subst hn
  intro H locs ls hz hP hS hl
  exact va_mmax C.1 C.2.1 (C.2.2.1.trans hl.1.symm) C.2.2.2.1 (C.2.2.2.2.1 _ hlink) (C.2.2.2.2.1 _ hstat) (C.2.2.2.2.1 _ hw.2.1) (C.2.2.2.2.1 _ hw.1) hR.1 hR.2 hf.1 hf.2 hdg (K H locs ls hz hP hS hl)
end VM
theorem mx_le {x y : Int32} : mxF x y = if x ≤ y then y else x := by
  unfold mxF
  by_cases h : x < y
  · rw [if_pos h, if_pos (Int32.le_of_lt h)]
  · rw [if_neg h]
    by_cases h2 : x ≤ y
    · rw [if_pos h2]; exact (Int32.le_antisymm h2 (Int32.not_lt.mp h)) ▸ rfl
    · rw [if_neg h2]
set_option maxHeartbeats 4000000 in
set_option maxRecDepth 100000 in
theorem c_lookUp (l : Launch) (D : va_G) (b : Nat) (sc : Nat → Int32) (ar : Nat → Nat → Int32) (hn : Nat → Option Nat) (mh : Int64) (G : List va_E) (x : Int32) : Con l yX8_lookUp cX8_lookUp 5 (some .int) 1 21 D b 0 0 (wl D b sc ar hn mh G) [.ref (b + 3), .int x] (fun r es' => r = some (.int (lkN ar (sc 4) x (fillN 4095 (ar 7) 41) 6).1) ∧ wl D b sc (va_up ar 7 (lkN ar (sc 4) x (fillN 4095 (ar 7) 41) 6).2) hn mh G = es') := by
  refine con_of (by decide) (Nat.le_of_ble_eq_true rfl) (fun p e s m args below meth c C hsz => ?_)
  have C : vC p s m args meth c cX8_lookUp 5 RX8 "lookUp" (some .int) D b := C
  change V p l e _ s m args below meth c D b 5 _ 0 0 (wl D b sc ar hn mh G) [(0, .ref (b + 3)), (1, .int x)] [] 0
  refine v_iconst (n := 1) (v := 0) C dX8_lookUp_0 rfl (by decide) ?_
  refine v_istore_n (n := 2) (lv' := [(2, .int 0), (0, .ref (b + 3)), (1, .int x)]) C dX8_lookUp_1 rfl rfl (Nat.le_of_ble_eq_true rfl) rfl ?_
  refine v_pick (lv' := [(2, .int 0), (0, .ref (b + 3)), (1, .int x)]) [0, 1, 2] rfl ?_
  have e_1 : (0 : Int32) = (nI 0) := rfl
  refine v_cong (es' := (wl D b sc (va_up ar 7 (ar 7)) hn mh G)) (lv' := [(2, .int 0), (0, .ref (b + 3)), (1, .int x)]) rfl rfl ?_
  have e_2 : ((ar 7) : Nat → Int32) = (fillN 4095 (ar 7) 0) := by first | rfl | (simp only [fillN]; done) | (simp only [fillN, ↓reduceIte]; done) | (simp only [fillN, ↓reduceIte] <;> rfl) | (simp [fillN]; done)
  refine v_cong (es' := (wl D b sc (va_up ar 7 (fillN 4095 (ar 7) 0)) hn mh G)) (lv' := [(2, .int (nI 0)), (0, .ref (b + 3)), (1, .int x)]) (cg1 (fun (y0 : Nat → Int32) => wl D b sc (va_up ar 7 y0) hn mh G) e_2) (cg1 (fun (z0 : Int32) => ([(2, .int z0), (0, .ref (b + 3)), (1, .int x)] : List (Nat × Value))) e_1) ?_
  refine loop_dn (P := fun i_2 => V p l e { frames := 1, cells := 0, slots := 0, locals := 21 } s m args below meth c D b 5 (MQ below (cQ D b 0 (fun r es' => r = some (.int (lkN ar (sc 4) x (fillN 4095 (ar 7) 41) 6).1) ∧ wl D b sc (va_up ar 7 (lkN ar (sc 4) x (fillN 4095 (ar 7) 41) 6).2) hn mh G = es')) args s 0 0 (fun q => b ≤ q)) 0 0 (wl D b sc (va_up ar 7 (fillN 4095 (ar 7) i_2)) hn mh G) [(2, .int (nI i_2)), (0, .ref (b + 3)), (1, .int x)] [] 2) 41 ?_ (fun i_2 hi_2 ih_2 => ?_)
  · skip
    have g_3 : (41 : Int32) ≤ (nI 41) := by decide
    refine v_iload_n (n := 3) C dX8_lookUp_2 rfl rfl rfl ?_
    refine v_aload_n (n := 4) C dX8_lookUp_3 rfl rfl rfl ?_
    refine v_get (n := 7) C dX8_lookUp_4 rfl fl_X8_21_X8 wl_c3 rfl ?_
    refine v_alen (n := 8) (v := 41) C dX8_lookUp_7 rfl (show (wl D b sc (va_up ar 7 (fillN 4095 (ar 7) 41)) hn mh G)[7]? = some (.inl (D.1 13, 41, .inl (fillN 4095 (ar 7) 41))) from wl_c7) rfl ?_
    refine v_icmp_ge (t := 26) (n := 11) C dX8_lookUp_8 (by decide) rfl (fun c_4 => ?_) (fun c_4 => ?_)
    · skip
      refine v_iconst (n := 27) (v := 0) C dX8_lookUp_26 rfl (by decide) ?_
      refine v_istore_n (n := 28) (lv' := [(2, .int 0), (0, .ref (b + 3)), (1, .int x)]) C dX8_lookUp_27 rfl rfl (Nat.le_of_ble_eq_true rfl) rfl ?_
      refine v_iconst (n := 29) (v := 0) C dX8_lookUp_28 rfl (by decide) ?_
      refine v_istore_n (n := 30) (lv' := [(3, .int 0), (2, .int 0), (0, .ref (b + 3)), (1, .int x)]) C dX8_lookUp_29 rfl rfl (Nat.le_of_ble_eq_true rfl) rfl ?_
      refine v_pick (lv' := [(3, .int 0), (0, .ref (b + 3)), (1, .int x), (2, .int 0)]) [0, 2, 3, 1] rfl ?_
      have e_5 : (0 : Int32) = (nI 0) := rfl
      have e_6 : (0 : Int32) = (lkN ar (sc 4) x (fillN 4095 (ar 7) 41) 0).1 := by first | (rw [lkN]; done) | (rw [lkN]; simp only [mx_le, if_pos g_3, if_neg (Int32.not_lt.mpr g_3), if_pos c_4, if_neg (Int32.not_lt.mpr c_4)]; done) | (rw [lkN]; simp only [mx_le, eq_true g_3, eq_false (Int32.not_lt.mpr g_3), eq_true c_4, eq_false (Int32.not_lt.mpr c_4), ↓reduceIte]; done) | (rw [lkN]; simp only [mx_le, eq_true g_3, eq_false (Int32.not_lt.mpr g_3), eq_true c_4, eq_false (Int32.not_lt.mpr c_4), ↓reduceIte] <;> rfl) | rfl | (rw [lkN]; simp [mx_le, g_3, c_4]; done)
      have e_7 : ((fillN 4095 (ar 7) 41) : Nat → Int32) = (lkN ar (sc 4) x (fillN 4095 (ar 7) 41) 0).2 := by first | (rw [lkN]; done) | (rw [lkN]; simp only [mx_le, if_pos g_3, if_neg (Int32.not_lt.mpr g_3), if_pos c_4, if_neg (Int32.not_lt.mpr c_4)]; done) | (rw [lkN]; simp only [mx_le, eq_true g_3, eq_false (Int32.not_lt.mpr g_3), eq_true c_4, eq_false (Int32.not_lt.mpr c_4), ↓reduceIte]; done) | (rw [lkN]; simp only [mx_le, eq_true g_3, eq_false (Int32.not_lt.mpr g_3), eq_true c_4, eq_false (Int32.not_lt.mpr c_4), ↓reduceIte] <;> rfl) | rfl | (rw [lkN]; simp [mx_le, g_3, c_4]; done)
      refine v_cong (es' := (wl D b sc (va_up ar 7 (lkN ar (sc 4) x (fillN 4095 (ar 7) 41) 0).2) hn mh G)) (lv' := [(3, .int (nI 0)), (0, .ref (b + 3)), (1, .int x), (2, .int (lkN ar (sc 4) x (fillN 4095 (ar 7) 41) 0).1)]) (cg1 (fun (y0 : Nat → Int32) => wl D b sc (va_up ar 7 y0) hn mh G) e_7) (cg2 (fun (z0 : Int32) (z1 : Int32) => ([(3, .int z0), (0, .ref (b + 3)), (1, .int x), (2, .int z1)] : List (Nat × Value))) e_5 e_6) ?_
      refine loop_dn (P := fun i_30 => V p l e { frames := 1, cells := 0, slots := 0, locals := 21 } s m args below meth c D b 5 (MQ below (cQ D b 0 (fun r es' => r = some (.int (lkN ar (sc 4) x (fillN 4095 (ar 7) 41) 6).1) ∧ wl D b sc (va_up ar 7 (lkN ar (sc 4) x (fillN 4095 (ar 7) 41) 6).2) hn mh G = es')) args s 0 0 (fun q => b ≤ q)) 0 0 (wl D b sc (va_up ar 7 (lkN ar (sc 4) x (fillN 4095 (ar 7) 41) i_30).2) hn mh G) [(3, .int (nI i_30)), (0, .ref (b + 3)), (1, .int x), (2, .int (lkN ar (sc 4) x (fillN 4095 (ar 7) 41) i_30).1)] [] 30) 6 ?_ (fun i_30 hi_30 ih_30 => ?_)
      · skip
        have g_8 : (6 : Int32) ≤ (nI 6) := by decide
        refine v_iload_n (n := 31) C dX8_lookUp_30 rfl rfl rfl ?_
        refine v_aload_n (n := 32) C dX8_lookUp_31 rfl rfl rfl ?_
        refine v_get (n := 35) C dX8_lookUp_32 rfl fl_X8_27_X8 wl_c3 rfl ?_
        refine v_icmp_ge (t := 108) (n := 38) C dX8_lookUp_35 (by decide) rfl (fun c_9 => ?_) (fun c_9 => ?_)
        · skip
          refine v_iload_n (n := 109) C dX8_lookUp_108 rfl rfl rfl ?_
          exact v_iret C dX8_lookUp_109 rfl rfl ⟨rfl, rfl⟩
        · skip
          refine v_iload_n (n := 39) C dX8_lookUp_38 rfl rfl rfl ?_
          refine v_bipush (n := 41) (v := 6) C dX8_lookUp_39 rfl (by decide) ?_
          refine v_icmp_ge (t := 108) (n := 44) C dX8_lookUp_41 (by decide) rfl (fun c_10 => ?_) (fun c_10 => ?_)
          · skip
            refine v_iload_n (n := 109) C dX8_lookUp_108 rfl rfl rfl ?_
            exact v_iret C dX8_lookUp_109 rfl rfl ⟨rfl, rfl⟩
          · first | exact absurd c_10 g_8 | exact absurd g_8 c_10 | exact absurd c_10 (Int32.not_le.mpr g_8) | exact absurd c_10 (Int32.not_lt.mpr g_8) | exact absurd (Int32.not_le.mp g_8) c_10 | exact absurd (Int32.not_lt.mp g_8) c_10 | exact absurd (Int32.not_le.mp g_8) (Int32.not_lt.mpr c_10) | exact absurd (Int32.not_lt.mp g_8) (Int32.not_le.mpr c_10) | exact absurd (Int32.not_lt.mp c_10) (Int32.not_le.mpr (Int32.not_le.mp g_8))
      · skip
        have g_11 : ¬ (6 : Int32) ≤ (nI i_30) := nI_ge (a := i_30 + 0) (b := 6) (by omega) (by decide)
        refine v_iload_n (n := 31) C dX8_lookUp_30 rfl rfl rfl ?_
        refine v_aload_n (n := 32) C dX8_lookUp_31 rfl rfl rfl ?_
        refine v_get (n := 35) C dX8_lookUp_32 rfl fl_X8_27_X8 wl_c3 rfl ?_
        refine v_icmp_ge (t := 108) (n := 38) C dX8_lookUp_35 (by decide) rfl (fun c_12 => ?_) (fun c_12 => ?_)
        · skip
          refine v_iload_n (n := 109) C dX8_lookUp_108 rfl rfl rfl ?_
          exact v_iret C dX8_lookUp_109 rfl rfl ⟨by rw [lkN_stop hi_30 c_12], by rw [lkN_stop hi_30 c_12]⟩
        · skip
          refine v_iload_n (n := 39) C dX8_lookUp_38 rfl rfl rfl ?_
          refine v_bipush (n := 41) (v := 6) C dX8_lookUp_39 rfl (by decide) ?_
          refine v_icmp_ge (t := 108) (n := 44) C dX8_lookUp_41 (by decide) rfl (fun c_13 => ?_) (fun c_13 => ?_)
          · first | exact absurd c_13 g_11 | exact absurd g_11 c_13 | exact absurd c_13 (Int32.not_le.mpr g_11) | exact absurd c_13 (Int32.not_lt.mpr g_11) | exact absurd (Int32.not_le.mp g_11) c_13 | exact absurd (Int32.not_lt.mp g_11) c_13 | exact absurd (Int32.not_le.mp g_11) (Int32.not_lt.mpr c_13) | exact absurd (Int32.not_lt.mp g_11) (Int32.not_le.mpr c_13) | exact absurd (Int32.not_lt.mp c_13) (Int32.not_le.mpr (Int32.not_le.mp g_11))
          · skip
            refine v_aload_n (n := 45) C dX8_lookUp_44 rfl rfl rfl ?_
            refine v_get (n := 48) C dX8_lookUp_45 rfl fl_X8_18_X8 wl_c3 rfl ?_
            refine v_iload_n (n := 49) C dX8_lookUp_48 rfl rfl rfl ?_
            refine v_iald (n := 50) C dX8_lookUp_49 rfl (show (wl D b sc (va_up ar 7 (lkN ar (sc 4) x (fillN 4095 (ar 7) 41) i_30).2) hn mh G)[6]? = some (.inl (D.1 13, 6, .inl (ar 6))) from wl_c6) (nI_vp hi_30 (by decide) (by decide)) ?_
            refine v_stk (st' := .int ((ar 6) i_30) :: []) (congrArg (fun z : Nat => Value.int ((ar 6) z) :: []) (nI_clamp (show i_30 < 2 ^ 31 by omega))) ?_
            refine v_istore (n := 52) (lv' := [(4, .int ((ar 6) i_30)), (3, .int (nI i_30)), (0, .ref (b + 3)), (1, .int x), (2, .int (lkN ar (sc 4) x (fillN 4095 (ar 7) 41) i_30).1)]) C dX8_lookUp_50 rfl (Nat.le_of_ble_eq_true rfl) rfl ?_
            refine v_aload_n (n := 53) C dX8_lookUp_52 rfl rfl rfl ?_
            refine v_get (n := 56) C dX8_lookUp_53 rfl fl_X8_9_X8 wl_c3 rfl ?_
            refine v_iload_n (n := 57) C dX8_lookUp_56 rfl rfl rfl ?_
            refine v_iald (n := 58) C dX8_lookUp_57 rfl (show (wl D b sc (va_up ar 7 (lkN ar (sc 4) x (fillN 4095 (ar 7) 41) i_30).2) hn mh G)[4]? = some (.inl (D.1 13, 6, .inl (ar 4))) from wl_c4) (nI_vp hi_30 (by decide) (by decide)) ?_
            refine v_stk (st' := .int ((ar 4) i_30) :: []) (congrArg (fun z : Nat => Value.int ((ar 4) z) :: []) (nI_clamp (show i_30 < 2 ^ 31 by omega))) ?_
            refine v_iload_n (n := 59) C dX8_lookUp_58 rfl rfl rfl ?_
            refine v_icmp_ne (t := 102) (n := 62) C dX8_lookUp_59 (by decide) rfl (fun c_14 => ?_) (fun c_14 => ?_)
            · skip
              refine v_iinc (n := 105) (v := ((nI i_30) + 1)) (lv' := [(3, .int ((nI i_30) + 1)), (4, .int ((ar 6) i_30)), (0, .ref (b + 3)), (1, .int x), (2, .int (lkN ar (sc 4) x (fillN 4095 (ar 7) 41) i_30).1)]) C dX8_lookUp_102 rfl rfl rfl (Nat.le_of_ble_eq_true rfl) rfl ?_
              refine v_goto (t := 30) C dX8_lookUp_105 (by decide) ?_
              refine v_pick (lv' := [(3, .int ((nI i_30) + 1)), (0, .ref (b + 3)), (1, .int x), (2, .int (lkN ar (sc 4) x (fillN 4095 (ar 7) 41) i_30).1)]) [0, 2, 3, 4] rfl ?_
              have e_15 : ((nI i_30) + 1) = (nI (i_30 + 1)) := nI_1 _
              have e_16 : ((lkN ar (sc 4) x (fillN 4095 (ar 7) 41) i_30).1 : Int32) = (lkN ar (sc 4) x (fillN 4095 (ar 7) 41) (i_30 + 1)).1 := by first | (rw [lkN]; done) | (rw [lkN]; simp only [mx_le, if_pos g_3, if_neg (Int32.not_lt.mpr g_3), if_pos c_4, if_neg (Int32.not_lt.mpr c_4), if_neg g_11, if_pos (Int32.not_le.mp g_11), if_neg c_12, if_pos (Int32.not_le.mp c_12), if_neg c_13, if_pos (Int32.not_le.mp c_13), if_neg c_14, if_neg (fun h => c_14 (Eq.symm h))]; done) | (rw [lkN]; simp only [mx_le, eq_true g_3, eq_false (Int32.not_lt.mpr g_3), eq_true c_4, eq_false (Int32.not_lt.mpr c_4), eq_false g_11, eq_true (Int32.not_le.mp g_11), eq_false c_12, eq_true (Int32.not_le.mp c_12), eq_false c_13, eq_true (Int32.not_le.mp c_13), eq_false c_14, eq_false (fun h => c_14 (Eq.symm h)), ↓reduceIte]; done) | (rw [lkN]; simp only [mx_le, eq_true g_3, eq_false (Int32.not_lt.mpr g_3), eq_true c_4, eq_false (Int32.not_lt.mpr c_4), eq_false g_11, eq_true (Int32.not_le.mp g_11), eq_false c_12, eq_true (Int32.not_le.mp c_12), eq_false c_13, eq_true (Int32.not_le.mp c_13), eq_false c_14, eq_false (fun h => c_14 (Eq.symm h)), ↓reduceIte] <;> rfl) | rfl | (rw [lkN]; simp [mx_le, g_3, c_4, g_11, c_12, c_13, c_14]; done)
              have e_17 : ((lkN ar (sc 4) x (fillN 4095 (ar 7) 41) i_30).2 : Nat → Int32) = (lkN ar (sc 4) x (fillN 4095 (ar 7) 41) (i_30 + 1)).2 := by first | (rw [lkN]; done) | (rw [lkN]; simp only [mx_le, if_pos g_3, if_neg (Int32.not_lt.mpr g_3), if_pos c_4, if_neg (Int32.not_lt.mpr c_4), if_neg g_11, if_pos (Int32.not_le.mp g_11), if_neg c_12, if_pos (Int32.not_le.mp c_12), if_neg c_13, if_pos (Int32.not_le.mp c_13), if_neg c_14, if_neg (fun h => c_14 (Eq.symm h))]; done) | (rw [lkN]; simp only [mx_le, eq_true g_3, eq_false (Int32.not_lt.mpr g_3), eq_true c_4, eq_false (Int32.not_lt.mpr c_4), eq_false g_11, eq_true (Int32.not_le.mp g_11), eq_false c_12, eq_true (Int32.not_le.mp c_12), eq_false c_13, eq_true (Int32.not_le.mp c_13), eq_false c_14, eq_false (fun h => c_14 (Eq.symm h)), ↓reduceIte]; done) | (rw [lkN]; simp only [mx_le, eq_true g_3, eq_false (Int32.not_lt.mpr g_3), eq_true c_4, eq_false (Int32.not_lt.mpr c_4), eq_false g_11, eq_true (Int32.not_le.mp g_11), eq_false c_12, eq_true (Int32.not_le.mp c_12), eq_false c_13, eq_true (Int32.not_le.mp c_13), eq_false c_14, eq_false (fun h => c_14 (Eq.symm h)), ↓reduceIte] <;> rfl) | rfl | (rw [lkN]; simp [mx_le, g_3, c_4, g_11, c_12, c_13, c_14]; done)
              refine v_cong (es' := (wl D b sc (va_up ar 7 (lkN ar (sc 4) x (fillN 4095 (ar 7) 41) (i_30 + 1)).2) hn mh G)) (lv' := [(3, .int (nI (i_30 + 1))), (0, .ref (b + 3)), (1, .int x), (2, .int (lkN ar (sc 4) x (fillN 4095 (ar 7) 41) (i_30 + 1)).1)]) (cg1 (fun (y0 : Nat → Int32) => wl D b sc (va_up ar 7 y0) hn mh G) e_17) (cg2 (fun (z0 : Int32) (z1 : Int32) => ([(3, .int z0), (0, .ref (b + 3)), (1, .int x), (2, .int z1)] : List (Nat × Value))) e_15 e_16) ?_
              exact ih_30
            · skip
              refine v_iload (n := 64) C dX8_lookUp_62 rfl rfl ?_
              refine v_if_lt (t := 102) (n := 67) C dX8_lookUp_64 (by decide) rfl (fun c_18 => ?_) (fun c_18 => ?_)
              · skip
                refine v_iinc (n := 105) (v := ((nI i_30) + 1)) (lv' := [(3, .int ((nI i_30) + 1)), (4, .int ((ar 6) i_30)), (0, .ref (b + 3)), (1, .int x), (2, .int (lkN ar (sc 4) x (fillN 4095 (ar 7) 41) i_30).1)]) C dX8_lookUp_102 rfl rfl rfl (Nat.le_of_ble_eq_true rfl) rfl ?_
                refine v_goto (t := 30) C dX8_lookUp_105 (by decide) ?_
                refine v_pick (lv' := [(3, .int ((nI i_30) + 1)), (0, .ref (b + 3)), (1, .int x), (2, .int (lkN ar (sc 4) x (fillN 4095 (ar 7) 41) i_30).1)]) [0, 2, 3, 4] rfl ?_
                have e_19 : ((nI i_30) + 1) = (nI (i_30 + 1)) := nI_1 _
                have e_20 : ((lkN ar (sc 4) x (fillN 4095 (ar 7) 41) i_30).1 : Int32) = (lkN ar (sc 4) x (fillN 4095 (ar 7) 41) (i_30 + 1)).1 := by first | (rw [lkN]; done) | (rw [lkN]; simp only [mx_le, if_pos g_3, if_neg (Int32.not_lt.mpr g_3), if_pos c_4, if_neg (Int32.not_lt.mpr c_4), if_neg g_11, if_pos (Int32.not_le.mp g_11), if_neg c_12, if_pos (Int32.not_le.mp c_12), if_neg c_13, if_pos (Int32.not_le.mp c_13), if_pos c_14, if_pos (Eq.symm c_14), if_pos c_18, if_neg (Int32.not_le.mpr c_18)]; done) | (rw [lkN]; simp only [mx_le, eq_true g_3, eq_false (Int32.not_lt.mpr g_3), eq_true c_4, eq_false (Int32.not_lt.mpr c_4), eq_false g_11, eq_true (Int32.not_le.mp g_11), eq_false c_12, eq_true (Int32.not_le.mp c_12), eq_false c_13, eq_true (Int32.not_le.mp c_13), eq_true c_14, eq_true (Eq.symm c_14), eq_true c_18, eq_false (Int32.not_le.mpr c_18), ↓reduceIte]; done) | (rw [lkN]; simp only [mx_le, eq_true g_3, eq_false (Int32.not_lt.mpr g_3), eq_true c_4, eq_false (Int32.not_lt.mpr c_4), eq_false g_11, eq_true (Int32.not_le.mp g_11), eq_false c_12, eq_true (Int32.not_le.mp c_12), eq_false c_13, eq_true (Int32.not_le.mp c_13), eq_true c_14, eq_true (Eq.symm c_14), eq_true c_18, eq_false (Int32.not_le.mpr c_18), ↓reduceIte] <;> rfl) | rfl | (rw [lkN]; simp [mx_le, g_3, c_4, g_11, c_12, c_13, c_14, c_18]; done)
                have e_21 : ((lkN ar (sc 4) x (fillN 4095 (ar 7) 41) i_30).2 : Nat → Int32) = (lkN ar (sc 4) x (fillN 4095 (ar 7) 41) (i_30 + 1)).2 := by first | (rw [lkN]; done) | (rw [lkN]; simp only [mx_le, if_pos g_3, if_neg (Int32.not_lt.mpr g_3), if_pos c_4, if_neg (Int32.not_lt.mpr c_4), if_neg g_11, if_pos (Int32.not_le.mp g_11), if_neg c_12, if_pos (Int32.not_le.mp c_12), if_neg c_13, if_pos (Int32.not_le.mp c_13), if_pos c_14, if_pos (Eq.symm c_14), if_pos c_18, if_neg (Int32.not_le.mpr c_18)]; done) | (rw [lkN]; simp only [mx_le, eq_true g_3, eq_false (Int32.not_lt.mpr g_3), eq_true c_4, eq_false (Int32.not_lt.mpr c_4), eq_false g_11, eq_true (Int32.not_le.mp g_11), eq_false c_12, eq_true (Int32.not_le.mp c_12), eq_false c_13, eq_true (Int32.not_le.mp c_13), eq_true c_14, eq_true (Eq.symm c_14), eq_true c_18, eq_false (Int32.not_le.mpr c_18), ↓reduceIte]; done) | (rw [lkN]; simp only [mx_le, eq_true g_3, eq_false (Int32.not_lt.mpr g_3), eq_true c_4, eq_false (Int32.not_lt.mpr c_4), eq_false g_11, eq_true (Int32.not_le.mp g_11), eq_false c_12, eq_true (Int32.not_le.mp c_12), eq_false c_13, eq_true (Int32.not_le.mp c_13), eq_true c_14, eq_true (Eq.symm c_14), eq_true c_18, eq_false (Int32.not_le.mpr c_18), ↓reduceIte] <;> rfl) | rfl | (rw [lkN]; simp [mx_le, g_3, c_4, g_11, c_12, c_13, c_14, c_18]; done)
                refine v_cong (es' := (wl D b sc (va_up ar 7 (lkN ar (sc 4) x (fillN 4095 (ar 7) 41) (i_30 + 1)).2) hn mh G)) (lv' := [(3, .int (nI (i_30 + 1))), (0, .ref (b + 3)), (1, .int x), (2, .int (lkN ar (sc 4) x (fillN 4095 (ar 7) 41) (i_30 + 1)).1)]) (cg1 (fun (y0 : Nat → Int32) => wl D b sc (va_up ar 7 y0) hn mh G) e_21) (cg2 (fun (z0 : Int32) (z1 : Int32) => ([(3, .int z0), (0, .ref (b + 3)), (1, .int x), (2, .int z1)] : List (Nat × Value))) e_19 e_20) ?_
                exact ih_30
              · skip
                refine v_iload (n := 69) C dX8_lookUp_67 rfl rfl ?_
                refine v_aload_n (n := 70) C dX8_lookUp_69 rfl rfl rfl ?_
                refine v_get (n := 73) C dX8_lookUp_70 rfl fl_X8_21_X8 wl_c3 rfl ?_
                refine v_alen (n := 74) (v := 41) C dX8_lookUp_73 rfl (show (wl D b sc (va_up ar 7 (lkN ar (sc 4) x (fillN 4095 (ar 7) 41) i_30).2) hn mh G)[7]? = some (.inl (D.1 13, 41, .inl (lkN ar (sc 4) x (fillN 4095 (ar 7) 41) i_30).2)) from wl_c7) rfl ?_
                refine v_icmp_ge (t := 102) (n := 77) C dX8_lookUp_74 (by decide) rfl (fun c_22 => ?_) (fun c_22 => ?_)
                · skip
                  refine v_iinc (n := 105) (v := ((nI i_30) + 1)) (lv' := [(3, .int ((nI i_30) + 1)), (4, .int ((ar 6) i_30)), (0, .ref (b + 3)), (1, .int x), (2, .int (lkN ar (sc 4) x (fillN 4095 (ar 7) 41) i_30).1)]) C dX8_lookUp_102 rfl rfl rfl (Nat.le_of_ble_eq_true rfl) rfl ?_
                  refine v_goto (t := 30) C dX8_lookUp_105 (by decide) ?_
                  refine v_pick (lv' := [(3, .int ((nI i_30) + 1)), (0, .ref (b + 3)), (1, .int x), (2, .int (lkN ar (sc 4) x (fillN 4095 (ar 7) 41) i_30).1)]) [0, 2, 3, 4] rfl ?_
                  have e_23 : ((nI i_30) + 1) = (nI (i_30 + 1)) := nI_1 _
                  have e_24 : ((lkN ar (sc 4) x (fillN 4095 (ar 7) 41) i_30).1 : Int32) = (lkN ar (sc 4) x (fillN 4095 (ar 7) 41) (i_30 + 1)).1 := by first | (rw [lkN]; done) | (rw [lkN]; simp only [mx_le, if_pos g_3, if_neg (Int32.not_lt.mpr g_3), if_pos c_4, if_neg (Int32.not_lt.mpr c_4), if_neg g_11, if_pos (Int32.not_le.mp g_11), if_neg c_12, if_pos (Int32.not_le.mp c_12), if_neg c_13, if_pos (Int32.not_le.mp c_13), if_pos c_14, if_pos (Eq.symm c_14), if_neg c_18, if_pos (Int32.not_lt.mp c_18), if_pos c_22, if_neg (Int32.not_lt.mpr c_22)]; done) | (rw [lkN]; simp only [mx_le, eq_true g_3, eq_false (Int32.not_lt.mpr g_3), eq_true c_4, eq_false (Int32.not_lt.mpr c_4), eq_false g_11, eq_true (Int32.not_le.mp g_11), eq_false c_12, eq_true (Int32.not_le.mp c_12), eq_false c_13, eq_true (Int32.not_le.mp c_13), eq_true c_14, eq_true (Eq.symm c_14), eq_false c_18, eq_true (Int32.not_lt.mp c_18), eq_true c_22, eq_false (Int32.not_lt.mpr c_22), ↓reduceIte]; done) | (rw [lkN]; simp only [mx_le, eq_true g_3, eq_false (Int32.not_lt.mpr g_3), eq_true c_4, eq_false (Int32.not_lt.mpr c_4), eq_false g_11, eq_true (Int32.not_le.mp g_11), eq_false c_12, eq_true (Int32.not_le.mp c_12), eq_false c_13, eq_true (Int32.not_le.mp c_13), eq_true c_14, eq_true (Eq.symm c_14), eq_false c_18, eq_true (Int32.not_lt.mp c_18), eq_true c_22, eq_false (Int32.not_lt.mpr c_22), ↓reduceIte] <;> rfl) | rfl | (rw [lkN]; simp [mx_le, g_3, c_4, g_11, c_12, c_13, c_14, c_18, c_22]; done)
                  have e_25 : ((lkN ar (sc 4) x (fillN 4095 (ar 7) 41) i_30).2 : Nat → Int32) = (lkN ar (sc 4) x (fillN 4095 (ar 7) 41) (i_30 + 1)).2 := by first | (rw [lkN]; done) | (rw [lkN]; simp only [mx_le, if_pos g_3, if_neg (Int32.not_lt.mpr g_3), if_pos c_4, if_neg (Int32.not_lt.mpr c_4), if_neg g_11, if_pos (Int32.not_le.mp g_11), if_neg c_12, if_pos (Int32.not_le.mp c_12), if_neg c_13, if_pos (Int32.not_le.mp c_13), if_pos c_14, if_pos (Eq.symm c_14), if_neg c_18, if_pos (Int32.not_lt.mp c_18), if_pos c_22, if_neg (Int32.not_lt.mpr c_22)]; done) | (rw [lkN]; simp only [mx_le, eq_true g_3, eq_false (Int32.not_lt.mpr g_3), eq_true c_4, eq_false (Int32.not_lt.mpr c_4), eq_false g_11, eq_true (Int32.not_le.mp g_11), eq_false c_12, eq_true (Int32.not_le.mp c_12), eq_false c_13, eq_true (Int32.not_le.mp c_13), eq_true c_14, eq_true (Eq.symm c_14), eq_false c_18, eq_true (Int32.not_lt.mp c_18), eq_true c_22, eq_false (Int32.not_lt.mpr c_22), ↓reduceIte]; done) | (rw [lkN]; simp only [mx_le, eq_true g_3, eq_false (Int32.not_lt.mpr g_3), eq_true c_4, eq_false (Int32.not_lt.mpr c_4), eq_false g_11, eq_true (Int32.not_le.mp g_11), eq_false c_12, eq_true (Int32.not_le.mp c_12), eq_false c_13, eq_true (Int32.not_le.mp c_13), eq_true c_14, eq_true (Eq.symm c_14), eq_false c_18, eq_true (Int32.not_lt.mp c_18), eq_true c_22, eq_false (Int32.not_lt.mpr c_22), ↓reduceIte] <;> rfl) | rfl | (rw [lkN]; simp [mx_le, g_3, c_4, g_11, c_12, c_13, c_14, c_18, c_22]; done)
                  refine v_cong (es' := (wl D b sc (va_up ar 7 (lkN ar (sc 4) x (fillN 4095 (ar 7) 41) (i_30 + 1)).2) hn mh G)) (lv' := [(3, .int (nI (i_30 + 1))), (0, .ref (b + 3)), (1, .int x), (2, .int (lkN ar (sc 4) x (fillN 4095 (ar 7) 41) (i_30 + 1)).1)]) (cg1 (fun (y0 : Nat → Int32) => wl D b sc (va_up ar 7 y0) hn mh G) e_25) (cg2 (fun (z0 : Int32) (z1 : Int32) => ([(3, .int z0), (0, .ref (b + 3)), (1, .int x), (2, .int z1)] : List (Nat × Value))) e_23 e_24) ?_
                  exact ih_30
                · skip
                  refine v_aload_n (n := 78) C dX8_lookUp_77 rfl rfl rfl ?_
                  refine v_get (n := 81) C dX8_lookUp_78 rfl fl_X8_21_X8 wl_c3 rfl ?_
                  refine v_iload (n := 83) C dX8_lookUp_81 rfl rfl ?_
                  refine v_dup2 (n := 84) C dX8_lookUp_83 rfl rfl rfl ?_
                  refine v_iald (n := 85) C dX8_lookUp_84 rfl (show (wl D b sc (va_up ar 7 (lkN ar (sc 4) x (fillN 4095 (ar 7) 41) i_30).2) hn mh G)[7]? = some (.inl (D.1 13, 41, .inl (lkN ar (sc 4) x (fillN 4095 (ar 7) 41) i_30).2)) from wl_c7) (vp_b (Int32.not_lt.mp c_18) (Int32.not_le.mp c_22) (by decide)) ?_
                  refine v_iconst (n := 86) (v := 1) C dX8_lookUp_85 rfl (by decide) ?_
                  refine v_aload_n (n := 87) C dX8_lookUp_86 rfl rfl rfl ?_
                  refine v_get (n := 90) C dX8_lookUp_87 rfl fl_X8_15_X8 wl_c3 rfl ?_
                  refine v_iload_n (n := 91) C dX8_lookUp_90 rfl rfl rfl ?_
                  refine v_iald (n := 92) C dX8_lookUp_91 rfl (show (wl D b sc (va_up ar 7 (lkN ar (sc 4) x (fillN 4095 (ar 7) 41) i_30).2) hn mh G)[5]? = some (.inl (D.1 13, 6, .inl (ar 5))) from wl_c5) (nI_vp hi_30 (by decide) (by decide)) ?_
                  refine v_stk (st' := .int ((ar 5) i_30) :: [.int 1, .int ((lkN ar (sc 4) x (fillN 4095 (ar 7) 41) i_30).2 (Int32.toNatClampNeg ((ar 6) i_30))), .int ((ar 6) i_30), .ref (b + 7)]) (congrArg (fun z : Nat => Value.int ((ar 5) z) :: [.int 1, .int ((lkN ar (sc 4) x (fillN 4095 (ar 7) 41) i_30).2 (Int32.toNatClampNeg ((ar 6) i_30))), .int ((ar 6) i_30), .ref (b + 7)]) (nI_clamp (show i_30 < 2 ^ 31 by omega))) ?_
                  refine v_ishl (n := 93) C dX8_lookUp_92 rfl ?_
                  refine v_iand (n := 94) C dX8_lookUp_93 rfl ?_
                  refine v_iast (n := 95) (es' := (wl D b sc (va_up ar 7 (upd (lkN ar (sc 4) x (fillN 4095 (ar 7) 41) i_30).2 (Int32.toNatClampNeg ((ar 6) i_30)) (((lkN ar (sc 4) x (fillN 4095 (ar 7) 41) i_30).2 (Int32.toNatClampNeg ((ar 6) i_30))) &&& (1 <<< (((ar 5) i_30) &&& 31))))) hn mh G)) C dX8_lookUp_94 rfl (show (wl D b sc (va_up ar 7 (lkN ar (sc 4) x (fillN 4095 (ar 7) 41) i_30).2) hn mh G)[7]? = some (.inl (D.1 13, 41, .inl (lkN ar (sc 4) x (fillN 4095 (ar 7) 41) i_30).2)) from wl_c7) (vp_b (Int32.not_lt.mp c_18) (Int32.not_le.mp c_22) (by decide)) rfl ?_
                  refine v_iload_n (n := 96) C dX8_lookUp_95 rfl rfl rfl ?_
                  refine v_iload (n := 98) C dX8_lookUp_96 rfl rfl ?_
                  refine v_max (n := 101) C dX8_lookUp_98 rfl lk_X8_39 st_J9_max_7cf53 wm_J9_max_7cf53 ⟨Nat.le_of_ble_eq_true rfl, Nat.le_of_ble_eq_true rfl⟩ ⟨Nat.le_of_ble_eq_true rfl, Nat.le_of_ble_eq_true rfl⟩ ?_
                  refine v_istore_n (n := 102) (lv' := [(2, .int (mxF (lkN ar (sc 4) x (fillN 4095 (ar 7) 41) i_30).1 ((ar 6) i_30))), (4, .int ((ar 6) i_30)), (3, .int (nI i_30)), (0, .ref (b + 3)), (1, .int x)]) C dX8_lookUp_101 rfl rfl (Nat.le_of_ble_eq_true rfl) rfl ?_
                  refine v_iinc (n := 105) (v := ((nI i_30) + 1)) (lv' := [(3, .int ((nI i_30) + 1)), (2, .int (mxF (lkN ar (sc 4) x (fillN 4095 (ar 7) 41) i_30).1 ((ar 6) i_30))), (4, .int ((ar 6) i_30)), (0, .ref (b + 3)), (1, .int x)]) C dX8_lookUp_102 rfl rfl rfl (Nat.le_of_ble_eq_true rfl) rfl ?_
                  refine v_goto (t := 30) C dX8_lookUp_105 (by decide) ?_
                  refine v_pick (lv' := [(3, .int ((nI i_30) + 1)), (0, .ref (b + 3)), (1, .int x), (2, .int (mxF (lkN ar (sc 4) x (fillN 4095 (ar 7) 41) i_30).1 ((ar 6) i_30)))]) [0, 3, 4, 1] rfl ?_
                  have e_26 : ((nI i_30) + 1) = (nI (i_30 + 1)) := nI_1 _
                  have e_27 : ((mxF (lkN ar (sc 4) x (fillN 4095 (ar 7) 41) i_30).1 ((ar 6) i_30)) : Int32) = (lkN ar (sc 4) x (fillN 4095 (ar 7) 41) (i_30 + 1)).1 := by first | (rw [lkN]; done) | (rw [lkN]; simp only [mx_le, if_pos g_3, if_neg (Int32.not_lt.mpr g_3), if_pos c_4, if_neg (Int32.not_lt.mpr c_4), if_neg g_11, if_pos (Int32.not_le.mp g_11), if_neg c_12, if_pos (Int32.not_le.mp c_12), if_neg c_13, if_pos (Int32.not_le.mp c_13), if_pos c_14, if_pos (Eq.symm c_14), if_neg c_18, if_pos (Int32.not_lt.mp c_18), if_neg c_22, if_pos (Int32.not_le.mp c_22)]; done) | (rw [lkN]; simp only [mx_le, eq_true g_3, eq_false (Int32.not_lt.mpr g_3), eq_true c_4, eq_false (Int32.not_lt.mpr c_4), eq_false g_11, eq_true (Int32.not_le.mp g_11), eq_false c_12, eq_true (Int32.not_le.mp c_12), eq_false c_13, eq_true (Int32.not_le.mp c_13), eq_true c_14, eq_true (Eq.symm c_14), eq_false c_18, eq_true (Int32.not_lt.mp c_18), eq_false c_22, eq_true (Int32.not_le.mp c_22), ↓reduceIte]; done) | (rw [lkN]; simp only [mx_le, eq_true g_3, eq_false (Int32.not_lt.mpr g_3), eq_true c_4, eq_false (Int32.not_lt.mpr c_4), eq_false g_11, eq_true (Int32.not_le.mp g_11), eq_false c_12, eq_true (Int32.not_le.mp c_12), eq_false c_13, eq_true (Int32.not_le.mp c_13), eq_true c_14, eq_true (Eq.symm c_14), eq_false c_18, eq_true (Int32.not_lt.mp c_18), eq_false c_22, eq_true (Int32.not_le.mp c_22), ↓reduceIte] <;> rfl) | rfl | (rw [lkN]; simp [mx_le, g_3, c_4, g_11, c_12, c_13, c_14, c_18, c_22]; done)
                  have e_28 : ((upd (lkN ar (sc 4) x (fillN 4095 (ar 7) 41) i_30).2 (Int32.toNatClampNeg ((ar 6) i_30)) (((lkN ar (sc 4) x (fillN 4095 (ar 7) 41) i_30).2 (Int32.toNatClampNeg ((ar 6) i_30))) &&& (1 <<< (((ar 5) i_30) &&& 31)))) : Nat → Int32) = (lkN ar (sc 4) x (fillN 4095 (ar 7) 41) (i_30 + 1)).2 := by first | (rw [lkN]; done) | (rw [lkN]; simp only [mx_le, if_pos g_3, if_neg (Int32.not_lt.mpr g_3), if_pos c_4, if_neg (Int32.not_lt.mpr c_4), if_neg g_11, if_pos (Int32.not_le.mp g_11), if_neg c_12, if_pos (Int32.not_le.mp c_12), if_neg c_13, if_pos (Int32.not_le.mp c_13), if_pos c_14, if_pos (Eq.symm c_14), if_neg c_18, if_pos (Int32.not_lt.mp c_18), if_neg c_22, if_pos (Int32.not_le.mp c_22)]; done) | (rw [lkN]; simp only [mx_le, eq_true g_3, eq_false (Int32.not_lt.mpr g_3), eq_true c_4, eq_false (Int32.not_lt.mpr c_4), eq_false g_11, eq_true (Int32.not_le.mp g_11), eq_false c_12, eq_true (Int32.not_le.mp c_12), eq_false c_13, eq_true (Int32.not_le.mp c_13), eq_true c_14, eq_true (Eq.symm c_14), eq_false c_18, eq_true (Int32.not_lt.mp c_18), eq_false c_22, eq_true (Int32.not_le.mp c_22), ↓reduceIte]; done) | (rw [lkN]; simp only [mx_le, eq_true g_3, eq_false (Int32.not_lt.mpr g_3), eq_true c_4, eq_false (Int32.not_lt.mpr c_4), eq_false g_11, eq_true (Int32.not_le.mp g_11), eq_false c_12, eq_true (Int32.not_le.mp c_12), eq_false c_13, eq_true (Int32.not_le.mp c_13), eq_true c_14, eq_true (Eq.symm c_14), eq_false c_18, eq_true (Int32.not_lt.mp c_18), eq_false c_22, eq_true (Int32.not_le.mp c_22), ↓reduceIte] <;> rfl) | rfl | (rw [lkN]; simp [mx_le, g_3, c_4, g_11, c_12, c_13, c_14, c_18, c_22]; done)
                  refine v_cong (es' := (wl D b sc (va_up ar 7 (lkN ar (sc 4) x (fillN 4095 (ar 7) 41) (i_30 + 1)).2) hn mh G)) (lv' := [(3, .int (nI (i_30 + 1))), (0, .ref (b + 3)), (1, .int x), (2, .int (lkN ar (sc 4) x (fillN 4095 (ar 7) 41) (i_30 + 1)).1)]) (cg1 (fun (y0 : Nat → Int32) => wl D b sc (va_up ar 7 y0) hn mh G) e_28) (cg2 (fun (z0 : Int32) (z1 : Int32) => ([(3, .int z0), (0, .ref (b + 3)), (1, .int x), (2, .int z1)] : List (Nat × Value))) e_26 e_27) ?_
                  exact ih_30
    · first | exact absurd c_4 g_3 | exact absurd g_3 c_4 | exact absurd c_4 (Int32.not_le.mpr g_3) | exact absurd c_4 (Int32.not_lt.mpr g_3) | exact absurd (Int32.not_le.mp g_3) c_4 | exact absurd (Int32.not_lt.mp g_3) c_4 | exact absurd (Int32.not_le.mp g_3) (Int32.not_lt.mpr c_4) | exact absurd (Int32.not_lt.mp g_3) (Int32.not_le.mpr c_4) | exact absurd (Int32.not_lt.mp c_4) (Int32.not_le.mpr (Int32.not_le.mp g_3))
  · skip
    have g_29 : ¬ (41 : Int32) ≤ (nI i_2) := nI_ge (a := i_2 + 0) (b := 41) (by omega) (by decide)
    refine v_iload_n (n := 3) C dX8_lookUp_2 rfl rfl rfl ?_
    refine v_aload_n (n := 4) C dX8_lookUp_3 rfl rfl rfl ?_
    refine v_get (n := 7) C dX8_lookUp_4 rfl fl_X8_21_X8 wl_c3 rfl ?_
    refine v_alen (n := 8) (v := 41) C dX8_lookUp_7 rfl (show (wl D b sc (va_up ar 7 (fillN 4095 (ar 7) i_2)) hn mh G)[7]? = some (.inl (D.1 13, 41, .inl (fillN 4095 (ar 7) i_2))) from wl_c7) rfl ?_
    refine v_icmp_ge (t := 26) (n := 11) C dX8_lookUp_8 (by decide) rfl (fun c_30 => ?_) (fun c_30 => ?_)
    · first | exact absurd c_30 g_29 | exact absurd g_29 c_30 | exact absurd c_30 (Int32.not_le.mpr g_29) | exact absurd c_30 (Int32.not_lt.mpr g_29) | exact absurd (Int32.not_le.mp g_29) c_30 | exact absurd (Int32.not_lt.mp g_29) c_30 | exact absurd (Int32.not_le.mp g_29) (Int32.not_lt.mpr c_30) | exact absurd (Int32.not_lt.mp g_29) (Int32.not_le.mpr c_30) | exact absurd (Int32.not_lt.mp c_30) (Int32.not_le.mpr (Int32.not_le.mp g_29))
    · skip
      refine v_aload_n (n := 12) C dX8_lookUp_11 rfl rfl rfl ?_
      refine v_get (n := 15) C dX8_lookUp_12 rfl fl_X8_21_X8 wl_c3 rfl ?_
      refine v_iload_n (n := 16) C dX8_lookUp_15 rfl rfl rfl ?_
      refine v_sipush (n := 19) (v := 4095) C dX8_lookUp_16 rfl (by decide) ?_
      refine v_iast (n := 20) (es' := (wl D b sc (va_up ar 7 (upd (fillN 4095 (ar 7) i_2) i_2 4095)) hn mh G)) C dX8_lookUp_19 rfl (show (wl D b sc (va_up ar 7 (fillN 4095 (ar 7) i_2)) hn mh G)[7]? = some (.inl (D.1 13, 41, .inl (fillN 4095 (ar 7) i_2))) from wl_c7) (nI_vp hi_2 (by decide) (by decide)) (by rw [nI_clamp (show i_2 < 2 ^ 31 by omega)]; exact rfl) ?_
      refine v_iinc (n := 23) (v := ((nI i_2) + 1)) (lv' := [(2, .int ((nI i_2) + 1)), (0, .ref (b + 3)), (1, .int x)]) C dX8_lookUp_20 rfl rfl rfl (Nat.le_of_ble_eq_true rfl) rfl ?_
      refine v_goto (t := 2) C dX8_lookUp_23 (by decide) ?_
      refine v_pick (lv' := [(2, .int ((nI i_2) + 1)), (0, .ref (b + 3)), (1, .int x)]) [0, 1, 2] rfl ?_
      have e_31 : ((nI i_2) + 1) = (nI (i_2 + 1)) := nI_1 _
      have e_32 : ((upd (fillN 4095 (ar 7) i_2) i_2 4095) : Nat → Int32) = (fillN 4095 (ar 7) (i_2 + 1)) := by first | rfl | (simp only [fillN, if_neg g_29, if_pos (Int32.not_le.mp g_29), if_neg c_30, if_pos (Int32.not_le.mp c_30)]; done) | (simp only [fillN, eq_false g_29, eq_true (Int32.not_le.mp g_29), eq_false c_30, eq_true (Int32.not_le.mp c_30), ↓reduceIte]; done) | (simp only [fillN, eq_false g_29, eq_true (Int32.not_le.mp g_29), eq_false c_30, eq_true (Int32.not_le.mp c_30), ↓reduceIte] <;> rfl) | (simp [fillN, g_29, c_30]; done)
      refine v_cong (es' := (wl D b sc (va_up ar 7 (fillN 4095 (ar 7) (i_2 + 1))) hn mh G)) (lv' := [(2, .int (nI (i_2 + 1))), (0, .ref (b + 3)), (1, .int x)]) (cg1 (fun (y0 : Nat → Int32) => wl D b sc (va_up ar 7 y0) hn mh G) e_32) (cg1 (fun (z0 : Int32) => ([(2, .int z0), (0, .ref (b + 3)), (1, .int x)] : List (Nat × Value))) e_31) ?_
      exact ih_2
def cbF (cn : Nat → Int32) (x h y : Int32) : Int32 := if x < 0 then 0 else if 12 ≤ x then 0 else if h < 0 then 0 else if y < h then 0 else if 41 ≤ h then 0 else if (cn h.toNatClampNeg >>> (x &&& 31)) &&& 1 = 1 then 1 else 0
def unA (my : Nat → Int32) (o n : Nat) : Prop := ∀ i, i < n → o + 1 + i < 41 → my (o + 1 + i) = 4095
set_option maxHeartbeats 4000000 in
set_option maxRecDepth 100000 in
theorem c_canBe (l : Launch) (D : va_G) (b : Nat) (sc : Nat → Int32) (ar : Nat → Nat → Int32) (hn : Nat → Option Nat) (mh : Int64) (G : List va_E) (x h y : Int32) : Con l yX8_canBe cX8_canBe 4 (some .boolean) 1 20 D b 0 0 (wl D b sc ar hn mh G) [.ref (b + 3), .int x, .int h, .int y] (fun r es' => r = some (.int (cbF (ar 8) x h y)) ∧ (wl D b sc ar hn mh G) = es') := by
  refine con_of (by decide) (Nat.le_of_ble_eq_true rfl) (fun p e s m args below meth c C hsz => ?_)
  have C : vC p s m args meth c cX8_canBe 4 RX8 "canBe" (some .boolean) D b := C
  change V p l e _ s m args below meth c D b 4 _ 0 0 (wl D b sc ar hn mh G) [(0, .ref (b + 3)), (1, .int x), (2, .int h), (3, .int y)] [] 0
  refine v_iload_n (n := 1) C dX8_canBe_0 rfl rfl rfl ?_
  refine v_go (n := 4) C (vRun_SN (As := [.int x]) (rest := []) C lk_X8_62 st_X11_isCell dX8_canBe_1 (c_isCell l D b (wl D b sc ar hn mh G) x) wm_X11_isCell rfl rfl ⟨Nat.le_of_ble_eq_true rfl, Nat.le_of_ble_eq_true rfl⟩ ⟨Nat.le_of_ble_eq_true rfl, Nat.le_of_ble_eq_true rfl⟩ (Nat.le_of_ble_eq_true rfl)) rfl ?_
  rintro _ _ ⟨rfl, rfl⟩ -
  by_cases p_1 : x < 0
  · skip
    refine v_stk (st' := .int 0 :: []) (congrArg (fun z : Int32 => Value.int z :: []) (show icF x = 0 by simp only [icF, if_pos p_1])) ?_
    refine v_if_eq (t := 43) (n := 7) C dX8_canBe_4 (by decide) rfl (fun c_2 => ?_) (fun c_2 => ?_)
    · skip
      refine v_iconst (n := 44) (v := 0) C dX8_canBe_43 rfl (by decide) ?_
      exact v_iret C dX8_canBe_44 rfl rfl ⟨by first | rfl | (simp only [cbF, if_pos p_1, if_neg (Int32.not_le.mpr p_1), if_pos c_2]; done) | (simp only [cbF, eq_true p_1, eq_false (Int32.not_le.mpr p_1), eq_true c_2, ↓reduceIte]; done) | (simp only [cbF, eq_true p_1, eq_false (Int32.not_le.mpr p_1), eq_true c_2, ↓reduceIte] <;> rfl) | (simp [cbF, p_1, c_2]; done), rfl⟩
    · exact absurd c_2 (by decide)
  by_cases p_3 : 12 ≤ x
  · skip
    refine v_stk (st' := .int 0 :: []) (congrArg (fun z : Int32 => Value.int z :: []) (show icF x = 0 by simp only [icF, if_neg p_1, if_pos p_3])) ?_
    refine v_if_eq (t := 43) (n := 7) C dX8_canBe_4 (by decide) rfl (fun c_4 => ?_) (fun c_4 => ?_)
    · skip
      refine v_iconst (n := 44) (v := 0) C dX8_canBe_43 rfl (by decide) ?_
      exact v_iret C dX8_canBe_44 rfl rfl ⟨by first | rfl | (simp only [cbF, if_neg p_1, if_pos (Int32.not_lt.mp p_1), if_pos p_3, if_neg (Int32.not_lt.mpr p_3), if_pos c_4]; done) | (simp only [cbF, eq_false p_1, eq_true (Int32.not_lt.mp p_1), eq_true p_3, eq_false (Int32.not_lt.mpr p_3), eq_true c_4, ↓reduceIte]; done) | (simp only [cbF, eq_false p_1, eq_true (Int32.not_lt.mp p_1), eq_true p_3, eq_false (Int32.not_lt.mpr p_3), eq_true c_4, ↓reduceIte] <;> rfl) | (simp [cbF, p_1, p_3, c_4]; done), rfl⟩
    · exact absurd c_4 (by decide)
  refine v_stk (st' := .int 1 :: []) (congrArg (fun z : Int32 => Value.int z :: []) (show icF x = 1 by simp only [icF, if_neg p_1, if_neg p_3])) ?_
  refine v_if_eq (t := 43) (n := 7) C dX8_canBe_4 (by decide) rfl (fun c_5 => ?_) (fun c_5 => ?_)
  · exact absurd c_5 (by decide)
  · skip
    refine v_iload_n (n := 8) C dX8_canBe_7 rfl rfl rfl ?_
    refine v_if_lt (t := 43) (n := 11) C dX8_canBe_8 (by decide) rfl (fun c_6 => ?_) (fun c_6 => ?_)
    · skip
      refine v_iconst (n := 44) (v := 0) C dX8_canBe_43 rfl (by decide) ?_
      exact v_iret C dX8_canBe_44 rfl rfl ⟨by first | rfl | (simp only [cbF, if_neg p_1, if_pos (Int32.not_lt.mp p_1), if_neg p_3, if_pos (Int32.not_le.mp p_3), if_neg c_5, if_pos c_6, if_neg (Int32.not_le.mpr c_6)]; done) | (simp only [cbF, eq_false p_1, eq_true (Int32.not_lt.mp p_1), eq_false p_3, eq_true (Int32.not_le.mp p_3), eq_false c_5, eq_true c_6, eq_false (Int32.not_le.mpr c_6), ↓reduceIte]; done) | (simp only [cbF, eq_false p_1, eq_true (Int32.not_lt.mp p_1), eq_false p_3, eq_true (Int32.not_le.mp p_3), eq_false c_5, eq_true c_6, eq_false (Int32.not_le.mpr c_6), ↓reduceIte] <;> rfl) | (simp [cbF, p_1, p_3, c_5, c_6]; done), rfl⟩
    · skip
      refine v_iload_n (n := 12) C dX8_canBe_11 rfl rfl rfl ?_
      refine v_iload_n (n := 13) C dX8_canBe_12 rfl rfl rfl ?_
      refine v_icmp_gt (t := 43) (n := 16) C dX8_canBe_13 (by decide) rfl (fun c_7 => ?_) (fun c_7 => ?_)
      · skip
        refine v_iconst (n := 44) (v := 0) C dX8_canBe_43 rfl (by decide) ?_
        exact v_iret C dX8_canBe_44 rfl rfl ⟨by first | rfl | (simp only [cbF, if_neg p_1, if_pos (Int32.not_lt.mp p_1), if_neg p_3, if_pos (Int32.not_le.mp p_3), if_neg c_5, if_neg c_6, if_pos (Int32.not_lt.mp c_6), if_pos c_7, if_neg (Int32.not_le.mpr c_7)]; done) | (simp only [cbF, eq_false p_1, eq_true (Int32.not_lt.mp p_1), eq_false p_3, eq_true (Int32.not_le.mp p_3), eq_false c_5, eq_false c_6, eq_true (Int32.not_lt.mp c_6), eq_true c_7, eq_false (Int32.not_le.mpr c_7), ↓reduceIte]; done) | (simp only [cbF, eq_false p_1, eq_true (Int32.not_lt.mp p_1), eq_false p_3, eq_true (Int32.not_le.mp p_3), eq_false c_5, eq_false c_6, eq_true (Int32.not_lt.mp c_6), eq_true c_7, eq_false (Int32.not_le.mpr c_7), ↓reduceIte] <;> rfl) | (simp [cbF, p_1, p_3, c_5, c_6, c_7]; done), rfl⟩
      · skip
        refine v_iload_n (n := 17) C dX8_canBe_16 rfl rfl rfl ?_
        refine v_aload_n (n := 18) C dX8_canBe_17 rfl rfl rfl ?_
        refine v_get (n := 21) C dX8_canBe_18 rfl fl_X8_24_X8 wl_c3 rfl ?_
        refine v_alen (n := 22) (v := 41) C dX8_canBe_21 rfl wl_c8 rfl ?_
        refine v_icmp_ge (t := 43) (n := 25) C dX8_canBe_22 (by decide) rfl (fun c_8 => ?_) (fun c_8 => ?_)
        · skip
          refine v_iconst (n := 44) (v := 0) C dX8_canBe_43 rfl (by decide) ?_
          exact v_iret C dX8_canBe_44 rfl rfl ⟨by first | rfl | (simp only [cbF, if_neg p_1, if_pos (Int32.not_lt.mp p_1), if_neg p_3, if_pos (Int32.not_le.mp p_3), if_neg c_5, if_neg c_6, if_pos (Int32.not_lt.mp c_6), if_neg c_7, if_pos (Int32.not_lt.mp c_7), if_pos c_8, if_neg (Int32.not_lt.mpr c_8)]; done) | (simp only [cbF, eq_false p_1, eq_true (Int32.not_lt.mp p_1), eq_false p_3, eq_true (Int32.not_le.mp p_3), eq_false c_5, eq_false c_6, eq_true (Int32.not_lt.mp c_6), eq_false c_7, eq_true (Int32.not_lt.mp c_7), eq_true c_8, eq_false (Int32.not_lt.mpr c_8), ↓reduceIte]; done) | (simp only [cbF, eq_false p_1, eq_true (Int32.not_lt.mp p_1), eq_false p_3, eq_true (Int32.not_le.mp p_3), eq_false c_5, eq_false c_6, eq_true (Int32.not_lt.mp c_6), eq_false c_7, eq_true (Int32.not_lt.mp c_7), eq_true c_8, eq_false (Int32.not_lt.mpr c_8), ↓reduceIte] <;> rfl) | (simp [cbF, p_1, p_3, c_5, c_6, c_7, c_8]; done), rfl⟩
        · skip
          refine v_aload_n (n := 26) C dX8_canBe_25 rfl rfl rfl ?_
          refine v_get (n := 29) C dX8_canBe_26 rfl fl_X8_24_X8 wl_c3 rfl ?_
          refine v_iload_n (n := 30) C dX8_canBe_29 rfl rfl rfl ?_
          refine v_iald (n := 31) C dX8_canBe_30 rfl wl_c8 (vp_b (Int32.not_lt.mp c_6) (Int32.not_le.mp c_8) (by decide)) ?_
          refine v_iload_n (n := 32) C dX8_canBe_31 rfl rfl rfl ?_
          refine v_ishr (n := 33) C dX8_canBe_32 rfl ?_
          refine v_iconst (n := 34) (v := 1) C dX8_canBe_33 rfl (by decide) ?_
          refine v_iand (n := 35) C dX8_canBe_34 rfl ?_
          refine v_iconst (n := 36) (v := 1) C dX8_canBe_35 rfl (by decide) ?_
          refine v_icmp_ne (t := 43) (n := 39) C dX8_canBe_36 (by decide) rfl (fun c_9 => ?_) (fun c_9 => ?_)
          · skip
            refine v_iconst (n := 44) (v := 0) C dX8_canBe_43 rfl (by decide) ?_
            exact v_iret C dX8_canBe_44 rfl rfl ⟨by first | rfl | (simp only [cbF, if_neg p_1, if_pos (Int32.not_lt.mp p_1), if_neg p_3, if_pos (Int32.not_le.mp p_3), if_neg c_5, if_neg c_6, if_pos (Int32.not_lt.mp c_6), if_neg c_7, if_pos (Int32.not_lt.mp c_7), if_neg c_8, if_pos (Int32.not_le.mp c_8), if_neg c_9]; done) | (simp only [cbF, eq_false p_1, eq_true (Int32.not_lt.mp p_1), eq_false p_3, eq_true (Int32.not_le.mp p_3), eq_false c_5, eq_false c_6, eq_true (Int32.not_lt.mp c_6), eq_false c_7, eq_true (Int32.not_lt.mp c_7), eq_false c_8, eq_true (Int32.not_le.mp c_8), eq_false c_9, ↓reduceIte]; done) | (simp only [cbF, eq_false p_1, eq_true (Int32.not_lt.mp p_1), eq_false p_3, eq_true (Int32.not_le.mp p_3), eq_false c_5, eq_false c_6, eq_true (Int32.not_lt.mp c_6), eq_false c_7, eq_true (Int32.not_lt.mp c_7), eq_false c_8, eq_true (Int32.not_le.mp c_8), eq_false c_9, ↓reduceIte] <;> rfl) | (simp [cbF, p_1, p_3, c_5, c_6, c_7, c_8, c_9]; done), rfl⟩
          · skip
            refine v_iconst (n := 40) (v := 1) C dX8_canBe_39 rfl (by decide) ?_
            refine v_goto (t := 44) C dX8_canBe_40 (by decide) ?_
            exact v_iret C dX8_canBe_44 rfl rfl ⟨by first | rfl | (simp only [cbF, if_neg p_1, if_pos (Int32.not_lt.mp p_1), if_neg p_3, if_pos (Int32.not_le.mp p_3), if_neg c_5, if_neg c_6, if_pos (Int32.not_lt.mp c_6), if_neg c_7, if_pos (Int32.not_lt.mp c_7), if_neg c_8, if_pos (Int32.not_le.mp c_8), if_pos c_9]; done) | (simp only [cbF, eq_false p_1, eq_true (Int32.not_lt.mp p_1), eq_false p_3, eq_true (Int32.not_le.mp p_3), eq_false c_5, eq_false c_6, eq_true (Int32.not_lt.mp c_6), eq_false c_7, eq_true (Int32.not_lt.mp c_7), eq_false c_8, eq_true (Int32.not_le.mp c_8), eq_true c_9, ↓reduceIte]; done) | (simp only [cbF, eq_false p_1, eq_true (Int32.not_lt.mp p_1), eq_false p_3, eq_true (Int32.not_le.mp p_3), eq_false c_5, eq_false c_6, eq_true (Int32.not_lt.mp c_6), eq_false c_7, eq_true (Int32.not_lt.mp c_7), eq_false c_8, eq_true (Int32.not_le.mp c_8), eq_true c_9, ↓reduceIte] <;> rfl) | (simp [cbF, p_1, p_3, c_5, c_6, c_7, c_8, c_9]; done), rfl⟩
set_option maxHeartbeats 4000000 in
set_option maxRecDepth 100000 in
theorem c_unseenBetween (l : Launch) (D : va_G) (b : Nat) (sc : Nat → Int32) (ar : Nat → Nat → Int32) (hn : Nat → Option Nat) (mh : Int64) (G : List va_E) (o n : Nat) (ho : o ≤ 40) (hn8 : n ≤ 8) : Con l yX8_unseenBetween cX8_unseenBetween 4 (some .boolean) 0 0 D b 0 0 (wl D b sc ar hn mh G) [.ref (b + 3), .int (nI o), .int (nI (o + 1 + n))] (fun r es' => ((r = some (.int 1) ∧ unA (ar 7) o n) ∨ (r = some (.int 0) ∧ ¬ unA (ar 7) o n)) ∧ wl D b sc ar hn mh G = es') := by
  refine con_of (by decide) (Nat.le_of_ble_eq_true rfl) (fun p e s m args below meth c C hsz => ?_)
  have C : vC p s m args meth c cX8_unseenBetween 4 RX8 "unseenBetween" (some .boolean) D b := C
  change V p l e _ s m args below meth c D b 4 _ 0 0 (wl D b sc ar hn mh G) [(0, .ref (b + 3)), (1, .int (nI o)), (2, .int (nI (o + 1 + n)))] [] 0
  refine v_iload_n (n := 1) C dX8_unseenBetween_0 rfl rfl rfl ?_
  refine v_iconst (n := 2) (v := 1) C dX8_unseenBetween_1 rfl (by decide) ?_
  refine v_iadd (n := 3) C dX8_unseenBetween_2 rfl ?_
  refine v_istore_n (n := 4) (lv' := [(3, .int ((nI o) + 1)), (0, .ref (b + 3)), (1, .int (nI o)), (2, .int (nI (o + 1 + n)))]) C dX8_unseenBetween_3 rfl rfl (Nat.le_of_ble_eq_true rfl) rfl ?_
  refine v_pick (lv' := [(3, .int ((nI o) + 1)), (0, .ref (b + 3)), (1, .int (nI o)), (2, .int (nI (o + 1 + n)))]) [0, 1, 2, 3] rfl ?_
  have e_1 : ((nI o) + 1) = (nI (o + 1 + 0)) := nI_1 _
  refine v_cong (es' := (wl D b sc ar hn mh G)) (lv' := [(3, .int (nI (o + 1 + 0))), (0, .ref (b + 3)), (1, .int (nI o)), (2, .int (nI (o + 1 + n)))]) rfl (cg1 (fun (z0 : Int32) => ([(3, .int z0), (0, .ref (b + 3)), (1, .int (nI o)), (2, .int (nI (o + 1 + n)))] : List (Nat × Value))) e_1) ?_
  refine loop_dn (P := fun i_4 => (∀ j, j < i_4 → o + 1 + j < 41 → ar 7 (o + 1 + j) = 4095) → V p l e { frames := 0, cells := 0, slots := 0, locals := 0 } s m args below meth c D b 4 (MQ below (cQ D b 0 (fun r es' => ((r = some (.int 1) ∧ unA (ar 7) o n) ∨ (r = some (.int 0) ∧ ¬ unA (ar 7) o n)) ∧ wl D b sc ar hn mh G = es')) args s 0 0 (fun q => b ≤ q)) 0 0 (wl D b sc ar hn mh G) [(3, .int (nI (o + 1 + i_4))), (0, .ref (b + 3)), (1, .int (nI o)), (2, .int (nI (o + 1 + n)))] [] 4) n ?_ (fun i_4 hi_4 ih_4 => ?_) (fun j h => absurd h (Nat.not_lt_zero j))
  · skip
    intro hp_4
    have g_2 : ((nI (o + 1 + n)) : Int32) ≤ (nI (o + 1 + n)) := Int32.le_refl _
    refine v_iload_n (n := 5) C dX8_unseenBetween_4 rfl rfl rfl ?_
    refine v_iload_n (n := 6) C dX8_unseenBetween_5 rfl rfl rfl ?_
    refine v_icmp_ge (t := 42) (n := 9) C dX8_unseenBetween_6 (by decide) rfl (fun c_3 => ?_) (fun c_3 => ?_)
    · skip
      refine v_iconst (n := 43) (v := 1) C dX8_unseenBetween_42 rfl (by decide) ?_
      exact v_iret C dX8_unseenBetween_43 rfl rfl ⟨Or.inl ⟨rfl, hp_4⟩, rfl⟩
    · first | exact absurd c_3 g_2 | exact absurd g_2 c_3 | exact absurd c_3 (Int32.not_le.mpr g_2) | exact absurd c_3 (Int32.not_lt.mpr g_2) | exact absurd (Int32.not_le.mp g_2) c_3 | exact absurd (Int32.not_lt.mp g_2) c_3 | exact absurd (Int32.not_le.mp g_2) (Int32.not_lt.mpr c_3) | exact absurd (Int32.not_lt.mp g_2) (Int32.not_le.mpr c_3) | exact absurd (Int32.not_lt.mp c_3) (Int32.not_le.mpr (Int32.not_le.mp g_2))
  · skip
    intro hp_4
    have g_4 : ¬ ((nI (o + 1 + n)) : Int32) ≤ (nI (o + 1 + i_4)) := nI_ge (by omega) (by omega)
    have x_5 : ¬ nI (o + 1 + i_4) < 0 := nI_pos (by omega)
    refine v_iload_n (n := 5) C dX8_unseenBetween_4 rfl rfl rfl ?_
    refine v_iload_n (n := 6) C dX8_unseenBetween_5 rfl rfl rfl ?_
    refine v_icmp_ge (t := 42) (n := 9) C dX8_unseenBetween_6 (by decide) rfl (fun c_6 => ?_) (fun c_6 => ?_)
    · first | exact absurd c_6 g_4 | exact absurd g_4 c_6 | exact absurd c_6 (Int32.not_le.mpr g_4) | exact absurd c_6 (Int32.not_lt.mpr g_4) | exact absurd (Int32.not_le.mp g_4) c_6 | exact absurd (Int32.not_lt.mp g_4) c_6 | exact absurd (Int32.not_le.mp g_4) (Int32.not_lt.mpr c_6) | exact absurd (Int32.not_lt.mp g_4) (Int32.not_le.mpr c_6) | exact absurd (Int32.not_lt.mp c_6) (Int32.not_le.mpr (Int32.not_le.mp g_4))
    · skip
      refine v_iload_n (n := 10) C dX8_unseenBetween_9 rfl rfl rfl ?_
      refine v_aload_n (n := 11) C dX8_unseenBetween_10 rfl rfl rfl ?_
      refine v_get (n := 14) C dX8_unseenBetween_11 rfl fl_X8_21_X8 wl_c3 rfl ?_
      refine v_alen (n := 15) (v := 41) C dX8_unseenBetween_14 rfl wl_c7 rfl ?_
      refine v_icmp_ge (t := 42) (n := 18) C dX8_unseenBetween_15 (by decide) rfl (fun c_7 => ?_) (fun c_7 => ?_)
      · skip
        refine v_iconst (n := 43) (v := 1) C dX8_unseenBetween_42 rfl (by decide) ?_
        exact v_iret C dX8_unseenBetween_43 rfl rfl ⟨Or.inl ⟨rfl, fun j hj h => (Nat.lt_or_ge j i_4).elim (fun q => hp_4 j q h) (fun q => absurd h (by have h41 := c_7; rw [show (41 : Int32) = nI 41 from rfl, nI_leI (by decide) (by omega)] at h41; omega))⟩, rfl⟩
      · skip
        refine v_iload_n (n := 19) C dX8_unseenBetween_18 rfl rfl rfl ?_
        refine v_if_lt (t := 36) (n := 22) C dX8_unseenBetween_19 (by decide) rfl (fun c_8 => ?_) (fun c_8 => ?_)
        · first | exact absurd c_8 x_5 | exact absurd x_5 c_8 | exact absurd c_8 (Int32.not_le.mpr x_5) | exact absurd c_8 (Int32.not_lt.mpr x_5) | exact absurd (Int32.not_le.mp x_5) c_8 | exact absurd (Int32.not_lt.mp x_5) c_8 | exact absurd (Int32.not_le.mp x_5) (Int32.not_lt.mpr c_8) | exact absurd (Int32.not_lt.mp x_5) (Int32.not_le.mpr c_8) | exact absurd (Int32.not_lt.mp c_8) (Int32.not_le.mpr (Int32.not_le.mp x_5))
        · skip
          refine v_aload_n (n := 23) C dX8_unseenBetween_22 rfl rfl rfl ?_
          refine v_get (n := 26) C dX8_unseenBetween_23 rfl fl_X8_21_X8 wl_c3 rfl ?_
          refine v_iload_n (n := 27) C dX8_unseenBetween_26 rfl rfl rfl ?_
          refine v_iald (n := 28) C dX8_unseenBetween_27 rfl wl_c7 (vp_b (Int32.not_lt.mp x_5) (Int32.not_le.mp c_7) (by decide)) ?_
          refine v_stk (st' := .int ((ar 7) (o + 1 + i_4)) :: []) (congrArg (fun z : Nat => Value.int ((ar 7) z) :: []) (nI_clamp (show (o + 1 + i_4) < 2 ^ 31 by omega))) ?_
          refine v_sipush (n := 31) (v := 4095) C dX8_unseenBetween_28 rfl (by decide) ?_
          refine v_icmp_eq (t := 36) (n := 34) C dX8_unseenBetween_31 (by decide) rfl (fun c_9 => ?_) (fun c_9 => ?_)
          · skip
            refine v_iinc (n := 39) (v := ((nI (o + 1 + i_4)) + 1)) (lv' := [(3, .int ((nI (o + 1 + i_4)) + 1)), (0, .ref (b + 3)), (1, .int (nI o)), (2, .int (nI (o + 1 + n)))]) C dX8_unseenBetween_36 rfl rfl rfl (Nat.le_of_ble_eq_true rfl) rfl ?_
            refine v_goto (t := 4) C dX8_unseenBetween_39 (by decide) ?_
            refine v_pick (lv' := [(3, .int ((nI (o + 1 + i_4)) + 1)), (0, .ref (b + 3)), (1, .int (nI o)), (2, .int (nI (o + 1 + n)))]) [0, 1, 2, 3] rfl ?_
            have e_10 : ((nI (o + 1 + i_4)) + 1) = (nI (o + 1 + (i_4 + 1))) := nI_1 _
            refine v_cong (es' := (wl D b sc ar hn mh G)) (lv' := [(3, .int (nI (o + 1 + (i_4 + 1)))), (0, .ref (b + 3)), (1, .int (nI o)), (2, .int (nI (o + 1 + n)))]) rfl (cg1 (fun (z0 : Int32) => ([(3, .int z0), (0, .ref (b + 3)), (1, .int (nI o)), (2, .int (nI (o + 1 + n)))] : List (Nat × Value))) e_10) ?_
            exact ih_4 (fun j hj h => (Nat.lt_or_eq_of_le (Nat.le_of_lt_succ hj)).elim (fun q => hp_4 j q h) (fun q => by subst q; exact c_9))
          · skip
            refine v_iconst (n := 35) (v := 0) C dX8_unseenBetween_34 rfl (by decide) ?_
            exact v_iret C dX8_unseenBetween_35 rfl rfl ⟨Or.inr ⟨rfl, fun q => c_9 (q i_4 hi_4 (by have h41 := c_7; rw [show (41 : Int32) = nI 41 from rfl, nI_leI (by decide) (by omega)] at h41; omega))⟩, rfl⟩
