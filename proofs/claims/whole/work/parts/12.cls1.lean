/-- the plain is there, the cell is on it -/
def hpF (rp : Int32) : Int32 := if rp ≤ 0 then 0 else 1
def thF (rp x : Int32) : Int32 := if rp ≤ 0 then 0 else icF x
def diF (f : Nat → Int32) (x : Int32) : Int32 := if x < 0 then 0 else if 18 ≤ x then 0 else f x.toNatClampNeg - 48
/-- a hull by its number, as its slot has it -/
def hvF (cnt : Int32) (hv : HV) (x : Int32) : Option (Nat × Int32 × Int32 × Int32) := if x < 0 then none else if cnt ≤ x then none else if x < 3 then hv x.toNatClampNeg else none
set_option maxHeartbeats 4000000 in
set_option maxRecDepth 100000 in
theorem c_hasPlain (l : Launch) (D : va_G) (b : Nat) (sc : Nat → Int32) (ar : Nat → Nat → Int32) (hn : Nat → Option Nat) (mh : Int64) (G : List va_E)  : Con l yX11_hasPlain cX11_hasPlain 1 (some .boolean) 0 0 D b 0 0 (wl D b sc ar hn mh G) [.ref (b + 0)] (fun r es' => r = some (.int (hpF (sc 16))) ∧ (wl D b sc ar hn mh G) = es') := by
  refine con_of (by decide) (Nat.le_of_ble_eq_true rfl) (fun p e s m args below meth c C hsz => ?_)
  have C : vC p s m args meth c cX11_hasPlain 1 RX11 "hasPlain" (some .boolean) D b := C
  change V p l e _ s m args below meth c D b 1 _ 0 0 (wl D b sc ar hn mh G) [(0, .ref (b + 0))] [] 0
  refine v_aload_n (n := 1) C dX11_hasPlain_0 rfl rfl rfl ?_
  refine v_get (n := 4) C dX11_hasPlain_1 rfl fl_X11_59_X11 wl_c0 rfl ?_
  refine v_get (n := 7) C dX11_hasPlain_4 rfl fl_X11_96_X7 wl_c25 rfl ?_
  refine v_if_le (t := 14) (n := 10) C dX11_hasPlain_7 (by decide) rfl (fun c_1 => ?_) (fun c_1 => ?_)
  · skip
    refine v_iconst (n := 15) (v := 0) C dX11_hasPlain_14 rfl (by decide) ?_
    exact v_iret C dX11_hasPlain_15 rfl rfl ⟨by first | rfl | (simp only [hpF, if_pos c_1, if_neg (Int32.not_lt.mpr c_1)]; done) | (simp only [hpF, eq_true c_1, eq_false (Int32.not_lt.mpr c_1), ↓reduceIte]; done) | (simp only [hpF, eq_true c_1, eq_false (Int32.not_lt.mpr c_1), ↓reduceIte] <;> rfl) | (simp [hpF, c_1]; done), rfl⟩
  · skip
    refine v_iconst (n := 11) (v := 1) C dX11_hasPlain_10 rfl (by decide) ?_
    refine v_goto (t := 15) C dX11_hasPlain_11 (by decide) ?_
    exact v_iret C dX11_hasPlain_15 rfl rfl ⟨by first | rfl | (simp only [hpF, if_neg c_1, if_pos (Int32.not_le.mp c_1)]; done) | (simp only [hpF, eq_false c_1, eq_true (Int32.not_le.mp c_1), ↓reduceIte]; done) | (simp only [hpF, eq_false c_1, eq_true (Int32.not_le.mp c_1), ↓reduceIte] <;> rfl) | (simp [hpF, c_1]; done), rfl⟩
set_option maxHeartbeats 4000000 in
set_option maxRecDepth 100000 in
theorem c_isThere (l : Launch) (D : va_G) (b : Nat) (sc : Nat → Int32) (ar : Nat → Nat → Int32) (hn : Nat → Option Nat) (mh : Int64) (G : List va_E) (x : Int32) : Con l yX11_isThere cX11_isThere 2 (some .boolean) 1 20 D b 0 0 (wl D b sc ar hn mh G) [.ref (b + 0), .int x] (fun r es' => r = some (.int (thF (sc 16) x)) ∧ (wl D b sc ar hn mh G) = es') := by
  refine con_of (by decide) (Nat.le_of_ble_eq_true rfl) (fun p e s m args below meth c C hsz => ?_)
  have C : vC p s m args meth c cX11_isThere 2 RX11 "isThere" (some .boolean) D b := C
  change V p l e _ s m args below meth c D b 2 _ 0 0 (wl D b sc ar hn mh G) [(0, .ref (b + 0)), (1, .int x)] [] 0
  refine v_aload_n (n := 1) C dX11_isThere_0 rfl rfl rfl ?_
  refine v_go (n := 4) C (vRun_V (As := []) (rest := []) C wl_c0 rfl lk_X11_119 im_X11_hasPlain se_X11_hasPlain dX11_isThere_1 (c_hasPlain l D b sc ar hn mh G) wm_X11_hasPlain rfl rfl ⟨Nat.le_of_ble_eq_true rfl, Nat.le_of_ble_eq_true rfl⟩ ⟨Nat.le_of_ble_eq_true rfl, Nat.le_of_ble_eq_true rfl⟩ (Nat.le_of_ble_eq_true rfl)) rfl ?_
  rintro _ _ ⟨rfl, rfl⟩ -
  by_cases p_1 : (sc 16) ≤ 0
  · skip
    refine v_stk (st' := .int 0 :: []) (congrArg (fun z : Int32 => Value.int z :: []) (show hpF (sc 16) = 0 by simp only [hpF, if_pos p_1])) ?_
    refine v_if_eq (t := 18) (n := 7) C dX11_isThere_4 (by decide) rfl (fun c_2 => ?_) (fun c_2 => ?_)
    · skip
      refine v_iconst (n := 19) (v := 0) C dX11_isThere_18 rfl (by decide) ?_
      exact v_iret C dX11_isThere_19 rfl rfl ⟨by first | rfl | (simp only [thF, icF, if_pos p_1, if_neg (Int32.not_lt.mpr p_1), if_pos c_2]; done) | (simp only [thF, icF, eq_true p_1, eq_false (Int32.not_lt.mpr p_1), eq_true c_2, ↓reduceIte]; done) | (simp only [thF, icF, eq_true p_1, eq_false (Int32.not_lt.mpr p_1), eq_true c_2, ↓reduceIte] <;> rfl) | (simp [thF, icF, p_1, c_2]; done), rfl⟩
    · exact absurd c_2 (by decide)
  refine v_stk (st' := .int 1 :: []) (congrArg (fun z : Int32 => Value.int z :: []) (show hpF (sc 16) = 1 by simp only [hpF, if_neg p_1])) ?_
  refine v_if_eq (t := 18) (n := 7) C dX11_isThere_4 (by decide) rfl (fun c_3 => ?_) (fun c_3 => ?_)
  · exact absurd c_3 (by decide)
  · skip
    refine v_iload_n (n := 8) C dX11_isThere_7 rfl rfl rfl ?_
    refine v_go (n := 11) C (vRun_S (As := [.int x]) (rest := []) C lk_X11_259 st_X11_isCell dX11_isThere_8 (c_isCell l D b (wl D b sc ar hn mh G) x) wm_X11_isCell rfl rfl ⟨Nat.le_of_ble_eq_true rfl, Nat.le_of_ble_eq_true rfl⟩ ⟨Nat.le_of_ble_eq_true rfl, Nat.le_of_ble_eq_true rfl⟩ (Nat.le_of_ble_eq_true rfl)) rfl ?_
    rintro _ _ ⟨rfl, rfl⟩ -
    by_cases p_4 : x < 0
    · skip
      refine v_stk (st' := .int 0 :: []) (congrArg (fun z : Int32 => Value.int z :: []) (show icF x = 0 by simp only [icF, if_pos p_4])) ?_
      refine v_if_eq (t := 18) (n := 14) C dX11_isThere_11 (by decide) rfl (fun c_5 => ?_) (fun c_5 => ?_)
      · skip
        refine v_iconst (n := 19) (v := 0) C dX11_isThere_18 rfl (by decide) ?_
        exact v_iret C dX11_isThere_19 rfl rfl ⟨by first | rfl | (simp only [thF, icF, if_neg p_1, if_pos (Int32.not_le.mp p_1), if_neg c_3, if_pos p_4, if_neg (Int32.not_le.mpr p_4), if_pos c_5]; done) | (simp only [thF, icF, eq_false p_1, eq_true (Int32.not_le.mp p_1), eq_false c_3, eq_true p_4, eq_false (Int32.not_le.mpr p_4), eq_true c_5, ↓reduceIte]; done) | (simp only [thF, icF, eq_false p_1, eq_true (Int32.not_le.mp p_1), eq_false c_3, eq_true p_4, eq_false (Int32.not_le.mpr p_4), eq_true c_5, ↓reduceIte] <;> rfl) | (simp [thF, icF, p_1, c_3, p_4, c_5]; done), rfl⟩
      · exact absurd c_5 (by decide)
    by_cases p_6 : 12 ≤ x
    · skip
      refine v_stk (st' := .int 0 :: []) (congrArg (fun z : Int32 => Value.int z :: []) (show icF x = 0 by simp only [icF, if_neg p_4, if_pos p_6])) ?_
      refine v_if_eq (t := 18) (n := 14) C dX11_isThere_11 (by decide) rfl (fun c_7 => ?_) (fun c_7 => ?_)
      · skip
        refine v_iconst (n := 19) (v := 0) C dX11_isThere_18 rfl (by decide) ?_
        exact v_iret C dX11_isThere_19 rfl rfl ⟨by first | rfl | (simp only [thF, icF, if_neg p_1, if_pos (Int32.not_le.mp p_1), if_neg c_3, if_neg p_4, if_pos (Int32.not_lt.mp p_4), if_pos p_6, if_neg (Int32.not_lt.mpr p_6), if_pos c_7]; done) | (simp only [thF, icF, eq_false p_1, eq_true (Int32.not_le.mp p_1), eq_false c_3, eq_false p_4, eq_true (Int32.not_lt.mp p_4), eq_true p_6, eq_false (Int32.not_lt.mpr p_6), eq_true c_7, ↓reduceIte]; done) | (simp only [thF, icF, eq_false p_1, eq_true (Int32.not_le.mp p_1), eq_false c_3, eq_false p_4, eq_true (Int32.not_lt.mp p_4), eq_true p_6, eq_false (Int32.not_lt.mpr p_6), eq_true c_7, ↓reduceIte] <;> rfl) | (simp [thF, icF, p_1, c_3, p_4, p_6, c_7]; done), rfl⟩
      · exact absurd c_7 (by decide)
    refine v_stk (st' := .int 1 :: []) (congrArg (fun z : Int32 => Value.int z :: []) (show icF x = 1 by simp only [icF, if_neg p_4, if_neg p_6])) ?_
    refine v_if_eq (t := 18) (n := 14) C dX11_isThere_11 (by decide) rfl (fun c_8 => ?_) (fun c_8 => ?_)
    · exact absurd c_8 (by decide)
    · skip
      refine v_iconst (n := 15) (v := 1) C dX11_isThere_14 rfl (by decide) ?_
      refine v_goto (t := 19) C dX11_isThere_15 (by decide) ?_
      exact v_iret C dX11_isThere_19 rfl rfl ⟨by first | rfl | (simp only [thF, icF, if_neg p_1, if_pos (Int32.not_le.mp p_1), if_neg c_3, if_neg p_4, if_pos (Int32.not_lt.mp p_4), if_neg p_6, if_pos (Int32.not_le.mp p_6), if_neg c_8]; done) | (simp only [thF, icF, eq_false p_1, eq_true (Int32.not_le.mp p_1), eq_false c_3, eq_false p_4, eq_true (Int32.not_lt.mp p_4), eq_false p_6, eq_true (Int32.not_le.mp p_6), eq_false c_8, ↓reduceIte]; done) | (simp only [thF, icF, eq_false p_1, eq_true (Int32.not_le.mp p_1), eq_false c_3, eq_false p_4, eq_true (Int32.not_lt.mp p_4), eq_false p_6, eq_true (Int32.not_le.mp p_6), eq_false c_8, ↓reduceIte] <;> rfl) | (simp [thF, icF, p_1, c_3, p_4, p_6, c_8]; done), rfl⟩
set_option maxHeartbeats 4000000 in
set_option maxRecDepth 100000 in
theorem c_digitAt (l : Launch) (D : va_G) (b : Nat) (sc : Nat → Int32) (ar : Nat → Nat → Int32) (hn : Nat → Option Nat) (mh : Int64) (G : List va_E) (x : Int32) : Con l yX11_digitAt cX11_digitAt 2 (some .int) 0 0 D b 0 0 (wl D b sc ar hn mh G) [.ref (b + 0), .int x] (fun r es' => r = some (.int (diF (ar 1) x)) ∧ (wl D b sc ar hn mh G) = es') := by
  refine con_of (by decide) (Nat.le_of_ble_eq_true rfl) (fun p e s m args below meth c C hsz => ?_)
  have C : vC p s m args meth c cX11_digitAt 2 RX11 "digitAt" (some .int) D b := C
  change V p l e _ s m args below meth c D b 2 _ 0 0 (wl D b sc ar hn mh G) [(0, .ref (b + 0)), (1, .int x)] [] 0
  refine v_iload_n (n := 1) C dX11_digitAt_0 rfl rfl rfl ?_
  refine v_if_lt (t := 25) (n := 4) C dX11_digitAt_1 (by decide) rfl (fun c_1 => ?_) (fun c_1 => ?_)
  · skip
    refine v_iconst (n := 26) (v := 0) C dX11_digitAt_25 rfl (by decide) ?_
    exact v_iret C dX11_digitAt_26 rfl rfl ⟨by first | rfl | (simp only [diF, if_pos c_1, if_neg (Int32.not_le.mpr c_1)]; done) | (simp only [diF, eq_true c_1, eq_false (Int32.not_le.mpr c_1), ↓reduceIte]; done) | (simp only [diF, eq_true c_1, eq_false (Int32.not_le.mpr c_1), ↓reduceIte] <;> rfl) | (simp [diF, c_1]; done), rfl⟩
  · skip
    refine v_iload_n (n := 5) C dX11_digitAt_4 rfl rfl rfl ?_
    refine v_aload_n (n := 6) C dX11_digitAt_5 rfl rfl rfl ?_
    refine v_get (n := 9) C dX11_digitAt_6 rfl fl_X11_9_X11 wl_c0 rfl ?_
    refine v_alen (n := 10) (v := 18) C dX11_digitAt_9 rfl wl_c1 rfl ?_
    refine v_icmp_ge (t := 25) (n := 13) C dX11_digitAt_10 (by decide) rfl (fun c_2 => ?_) (fun c_2 => ?_)
    · skip
      refine v_iconst (n := 26) (v := 0) C dX11_digitAt_25 rfl (by decide) ?_
      exact v_iret C dX11_digitAt_26 rfl rfl ⟨by first | rfl | (simp only [diF, if_neg c_1, if_pos (Int32.not_lt.mp c_1), if_pos c_2, if_neg (Int32.not_lt.mpr c_2)]; done) | (simp only [diF, eq_false c_1, eq_true (Int32.not_lt.mp c_1), eq_true c_2, eq_false (Int32.not_lt.mpr c_2), ↓reduceIte]; done) | (simp only [diF, eq_false c_1, eq_true (Int32.not_lt.mp c_1), eq_true c_2, eq_false (Int32.not_lt.mpr c_2), ↓reduceIte] <;> rfl) | (simp [diF, c_1, c_2]; done), rfl⟩
    · skip
      refine v_aload_n (n := 14) C dX11_digitAt_13 rfl rfl rfl ?_
      refine v_get (n := 17) C dX11_digitAt_14 rfl fl_X11_9_X11 wl_c0 rfl ?_
      refine v_iload_n (n := 18) C dX11_digitAt_17 rfl rfl rfl ?_
      refine v_iald (n := 19) C dX11_digitAt_18 rfl wl_c1 (vp_b (Int32.not_lt.mp c_1) (Int32.not_le.mp c_2) (by decide)) ?_
      refine v_bipush (n := 21) (v := 48) C dX11_digitAt_19 rfl (by decide) ?_
      refine v_isub (n := 22) C dX11_digitAt_21 rfl ?_
      refine v_goto (t := 26) C dX11_digitAt_22 (by decide) ?_
      exact v_iret C dX11_digitAt_26 rfl rfl ⟨by first | rfl | (simp only [diF, if_neg c_1, if_pos (Int32.not_lt.mp c_1), if_neg c_2, if_pos (Int32.not_le.mp c_2)]; done) | (simp only [diF, eq_false c_1, eq_true (Int32.not_lt.mp c_1), eq_false c_2, eq_true (Int32.not_le.mp c_2), ↓reduceIte]; done) | (simp only [diF, eq_false c_1, eq_true (Int32.not_lt.mp c_1), eq_false c_2, eq_true (Int32.not_le.mp c_2), ↓reduceIte] <;> rfl) | (simp [diF, c_1, c_2]; done), rfl⟩
set_option maxHeartbeats 4000000 in
set_option maxRecDepth 100000 in
theorem c_hullNumbered (l : Launch) (D : va_G) (b : Nat) (sc : Nat → Int32) (ar : Nat → Nat → Int32) (hn : Nat → Option Nat) (mh : Int64) (G : List va_E) (x : Int32) (hv : HV) (hr : HVr hn G hv) : Con l yX11_hullNumbered cX11_hullNumbered 2 (some (.object "WheatSea$Hull")) 0 0 D b 0 0 (wl D b sc ar hn mh G) [.ref (b + 0), .int x] (fun r es' => ((hvF (sc 2) hv x = none ∧ r = some .null) ∨ ∃ k dr ce sa u, hvF (sc 2) hv x = some (k, dr, ce, sa) ∧ hn x.toNatClampNeg = some (u + 40) ∧ k < 5 ∧ G[u]? = some (hcl k dr ce sa) ∧ r = some (.ref (b + (u + 40)))) ∧ wl D b sc ar hn mh G = es') := by
  refine con_of (by decide) (Nat.le_of_ble_eq_true rfl) (fun p e s m args below meth c C hsz => ?_)
  have C : vC p s m args meth c cX11_hullNumbered 2 RX11 "hullNumbered" (some (.object "WheatSea$Hull")) D b := C
  change V p l e _ s m args below meth c D b 2 _ 0 0 (wl D b sc ar hn mh G) [(0, .ref (b + 0)), (1, .int x)] [] 0
  refine v_iload_n (n := 1) C dX11_hullNumbered_0 rfl rfl rfl ?_
  refine v_if_lt (t := 21) (n := 4) C dX11_hullNumbered_1 (by decide) rfl (fun c_1 => ?_) (fun c_1 => ?_)
  · skip
    refine v_null (n := 22) C dX11_hullNumbered_21 rfl ?_
    exact v_aret C dX11_hullNumbered_22 rfl (Or.inl ⟨_, rfl⟩) (Or.inl rfl) ⟨Or.inl ⟨by simp only [hvF, if_pos c_1], rfl⟩, rfl⟩
  · skip
    refine v_iload_n (n := 5) C dX11_hullNumbered_4 rfl rfl rfl ?_
    refine v_aload_n (n := 6) C dX11_hullNumbered_5 rfl rfl rfl ?_
    refine v_get (n := 9) C dX11_hullNumbered_6 rfl fl_X11_126_X11 wl_c0 rfl ?_
    refine v_icmp_ge (t := 21) (n := 12) C dX11_hullNumbered_9 (by decide) rfl (fun c_2 => ?_) (fun c_2 => ?_)
    · skip
      refine v_null (n := 22) C dX11_hullNumbered_21 rfl ?_
      exact v_aret C dX11_hullNumbered_22 rfl (Or.inl ⟨_, rfl⟩) (Or.inl rfl) ⟨Or.inl ⟨by simp only [hvF, if_neg c_1, if_pos c_2], rfl⟩, rfl⟩
    · skip
      refine v_iload_n (n := 13) C dX11_hullNumbered_12 rfl rfl rfl ?_
      refine v_aload_n (n := 14) C dX11_hullNumbered_13 rfl rfl rfl ?_
      refine v_get (n := 17) C dX11_hullNumbered_14 rfl fl_X11_15_X11 wl_c0 rfl ?_
      refine v_alenQ (n := 18) (v := 3) C dX11_hullNumbered_17 rfl wl_c2 rfl ?_
      refine v_icmp_lt (t := 23) (n := 21) C dX11_hullNumbered_18 (by decide) rfl (fun c_3 => ?_) (fun c_3 => ?_)
      · skip
        refine v_aload_n (n := 24) C dX11_hullNumbered_23 rfl rfl rfl ?_
        refine v_get (n := 27) C dX11_hullNumbered_24 rfl fl_X11_15_X11 wl_c0 rfl ?_
        refine v_iload_n (n := 28) C dX11_hullNumbered_27 rfl rfl rfl ?_
        refine v_aald (n := 29) C dX11_hullNumbered_28 rfl wl_c2 (vp_b (Int32.not_lt.mp c_1) c_3 (by decide)) ?_
        rcases q_4 : hv (x.toNatClampNeg) with _ | ⟨k4, dr4, ce4, sa4⟩
        · skip
          refine v_stk (st' := .null :: []) (congrArg (fun z : Option Nat => va_rf (z.map (fun t => b + t)) :: []) (hr.1 (x.toNatClampNeg) q_4)) ?_
          exact v_aret C dX11_hullNumbered_29 rfl (Or.inl ⟨_, rfl⟩) (Or.inl rfl) ⟨Or.inl ⟨by simp only [hvF, if_neg c_1, if_neg c_2, if_pos c_3, q_4], rfl⟩, rfl⟩
        · obtain ⟨u4, hu4, hk4, hg4⟩ := hr.2.1 (x.toNatClampNeg) k4 dr4 ce4 sa4 q_4
          refine v_stk (st' := .ref (b + (u4 + 40)) :: []) (congrArg (fun z : Option Nat => va_rf (z.map (fun t => b + t)) :: []) hu4) ?_
          exact v_aret C dX11_hullNumbered_29 rfl (Or.inl ⟨_, rfl⟩) (Or.inr ⟨_, rfl⟩) ⟨Or.inr ⟨k4, dr4, ce4, sa4, u4, by simp only [hvF, if_neg c_1, if_neg c_2, if_pos c_3, q_4], hu4, hk4, hg4, rfl⟩, rfl⟩
      · skip
        refine v_null (n := 22) C dX11_hullNumbered_21 rfl ?_
        exact v_aret C dX11_hullNumbered_22 rfl (Or.inl ⟨_, rfl⟩) (Or.inl rfl) ⟨Or.inl ⟨by simp only [hvF, if_neg c_1, if_neg c_2, if_neg c_3], rfl⟩, rfl⟩
/-- hulls on a cell, stranded hulls, cut cells: by counting -/
def hoN (hv : HV) (x : Int32) : Nat → Int32
  | 0 => 0
  | i + 1 => match hv i with
    | none => hoN hv x i
    | some q => if q.2.2.1 = x then hoN hv x i + 1 else hoN hv x i
def stN (f : Nat → Int32) (rp h : Int32) (hv : HV) : Nat → Int32
  | 0 => 0
  | i + 1 => match hv i with
    | none => stN f rp h hv i
    | some q => if flP f rp q.1 q.2.1 q.2.2.1 h then stN f rp h hv i else stN f rp h hv i + 1
def cuN (rp h : Int32) : Nat → Int32
  | 0 => 0
  | i + 1 => if h < rp * (nI i + 1) then cuN rp h i else cuN rp h i + 1
def cuF (rp h : Int32) : Int32 := if rp ≤ 0 then 0 else cuN rp h 12
set_option maxHeartbeats 4000000 in
set_option maxRecDepth 100000 in
theorem c_hullsOn (l : Launch) (D : va_G) (b : Nat) (sc : Nat → Int32) (ar : Nat → Nat → Int32) (hn : Nat → Option Nat) (mh : Int64) (G : List va_E) (x : Int32) (hv : HV) (hr : HVr hn G hv) : Con l yX11_hullsOn cX11_hullsOn 5 (some .int) 0 0 D b 0 0 (wl D b sc ar hn mh G) [.ref (b + 0), .int x] (fun r es' => r = some (.int (hoN hv x 3)) ∧ (wl D b sc ar hn mh G) = es') := by
  refine con_of (by decide) (Nat.le_of_ble_eq_true rfl) (fun p e s m args below meth c C hsz => ?_)
  have C : vC p s m args meth c cX11_hullsOn 5 RX11 "hullsOn" (some .int) D b := C
  change V p l e _ s m args below meth c D b 5 _ 0 0 (wl D b sc ar hn mh G) [(0, .ref (b + 0)), (1, .int x)] [] 0
  refine v_iconst (n := 1) (v := 0) C dX11_hullsOn_0 rfl (by decide) ?_
  refine v_istore_n (n := 2) (lv' := [(2, .int 0), (0, .ref (b + 0)), (1, .int x)]) C dX11_hullsOn_1 rfl rfl (Nat.le_of_ble_eq_true rfl) rfl ?_
  refine v_iconst (n := 3) (v := 0) C dX11_hullsOn_2 rfl (by decide) ?_
  refine v_istore_n (n := 4) (lv' := [(3, .int 0), (2, .int 0), (0, .ref (b + 0)), (1, .int x)]) C dX11_hullsOn_3 rfl rfl (Nat.le_of_ble_eq_true rfl) rfl ?_
  refine v_pick (lv' := [(3, .int 0), (0, .ref (b + 0)), (1, .int x), (2, .int 0)]) [0, 2, 3, 1] rfl ?_
  have e_1 : (0 : Int32) = (nI 0) := rfl
  have e_2 : (0 : Int32) = (hoN hv x 0) := by first | rfl | (simp only [hoN]; done) | (simp only [hoN, ↓reduceIte]; done) | (simp only [hoN, ↓reduceIte] <;> rfl) | (simp [hoN]; done)
  refine v_cong (es' := (wl D b sc ar hn mh G)) (lv' := [(3, .int (nI 0)), (0, .ref (b + 0)), (1, .int x), (2, .int (hoN hv x 0))]) rfl (cg2 (fun (z0 : Int32) (z1 : Int32) => ([(3, .int z0), (0, .ref (b + 0)), (1, .int x), (2, .int z1)] : List (Nat × Value))) e_1 e_2) ?_
  refine loop_dn (P := fun i_4 => V p l e { frames := 0, cells := 0, slots := 0, locals := 0 } s m args below meth c D b 5 (MQ below (cQ D b 0 (fun r es' => r = some (.int (hoN hv x 3)) ∧ (wl D b sc ar hn mh G) = es')) args s 0 0 (fun q => b ≤ q)) 0 0 (wl D b sc ar hn mh G) [(3, .int (nI i_4)), (0, .ref (b + 0)), (1, .int x), (2, .int (hoN hv x i_4))] [] 4) 3 ?_ (fun i_4 hi_4 ih_4 => ?_)
  · skip
    have g_3 : (3 : Int32) ≤ (nI 3) := by decide
    refine v_iload_n (n := 5) C dX11_hullsOn_4 rfl rfl rfl ?_
    refine v_aload_n (n := 6) C dX11_hullsOn_5 rfl rfl rfl ?_
    refine v_get (n := 9) C dX11_hullsOn_6 rfl fl_X11_15_X11 wl_c0 rfl ?_
    refine v_alenQ (n := 10) (v := 3) C dX11_hullsOn_9 rfl wl_c2 rfl ?_
    refine v_icmp_ge (t := 44) (n := 13) C dX11_hullsOn_10 (by decide) rfl (fun c_4 => ?_) (fun c_4 => ?_)
    · skip
      refine v_iload_n (n := 45) C dX11_hullsOn_44 rfl rfl rfl ?_
      exact v_iret C dX11_hullsOn_45 rfl rfl ⟨by first | rfl | (simp only [hoN, if_pos g_3, if_neg (Int32.not_lt.mpr g_3), if_pos c_4, if_neg (Int32.not_lt.mpr c_4)]; done) | (simp only [hoN, eq_true g_3, eq_false (Int32.not_lt.mpr g_3), eq_true c_4, eq_false (Int32.not_lt.mpr c_4), ↓reduceIte]; done) | (simp only [hoN, eq_true g_3, eq_false (Int32.not_lt.mpr g_3), eq_true c_4, eq_false (Int32.not_lt.mpr c_4), ↓reduceIte] <;> rfl) | (simp [hoN, g_3, c_4]; done), rfl⟩
    · first | exact absurd c_4 g_3 | exact absurd g_3 c_4 | exact absurd c_4 (Int32.not_le.mpr g_3) | exact absurd c_4 (Int32.not_lt.mpr g_3) | exact absurd (Int32.not_le.mp g_3) c_4 | exact absurd (Int32.not_lt.mp g_3) c_4 | exact absurd (Int32.not_le.mp g_3) (Int32.not_lt.mpr c_4) | exact absurd (Int32.not_lt.mp g_3) (Int32.not_le.mpr c_4) | exact absurd (Int32.not_lt.mp c_4) (Int32.not_le.mpr (Int32.not_le.mp g_3))
  · skip
    have g_5 : ¬ (3 : Int32) ≤ (nI i_4) := nI_ge (a := i_4 + 0) (b := 3) (by omega) (by decide)
    refine v_iload_n (n := 5) C dX11_hullsOn_4 rfl rfl rfl ?_
    refine v_aload_n (n := 6) C dX11_hullsOn_5 rfl rfl rfl ?_
    refine v_get (n := 9) C dX11_hullsOn_6 rfl fl_X11_15_X11 wl_c0 rfl ?_
    refine v_alenQ (n := 10) (v := 3) C dX11_hullsOn_9 rfl wl_c2 rfl ?_
    refine v_icmp_ge (t := 44) (n := 13) C dX11_hullsOn_10 (by decide) rfl (fun c_6 => ?_) (fun c_6 => ?_)
    · first | exact absurd c_6 g_5 | exact absurd g_5 c_6 | exact absurd c_6 (Int32.not_le.mpr g_5) | exact absurd c_6 (Int32.not_lt.mpr g_5) | exact absurd (Int32.not_le.mp g_5) c_6 | exact absurd (Int32.not_lt.mp g_5) c_6 | exact absurd (Int32.not_le.mp g_5) (Int32.not_lt.mpr c_6) | exact absurd (Int32.not_lt.mp g_5) (Int32.not_le.mpr c_6) | exact absurd (Int32.not_lt.mp c_6) (Int32.not_le.mpr (Int32.not_le.mp g_5))
    · skip
      refine v_aload_n (n := 14) C dX11_hullsOn_13 rfl rfl rfl ?_
      refine v_get (n := 17) C dX11_hullsOn_14 rfl fl_X11_15_X11 wl_c0 rfl ?_
      refine v_iload_n (n := 18) C dX11_hullsOn_17 rfl rfl rfl ?_
      refine v_aald (n := 19) C dX11_hullsOn_18 rfl wl_c2 (nI_vp hi_4 (by decide) (by decide)) ?_
      refine v_stk (st' := va_rf ((hn i_4).map (fun t => b + t)) :: []) (congrArg (fun z : Nat => va_rf ((hn z).map (fun t => b + t)) :: []) (nI_clamp (show i_4 < 2 ^ 31 by omega))) ?_
      rcases q_7 : hv i_4 with _ | ⟨k7, dr7, ce7, sa7⟩
      · skip
        refine v_stk (st' := .null :: []) (congrArg (fun z : Option Nat => va_rf (z.map (fun t => b + t)) :: []) (hr.1 i_4 q_7)) ?_
        refine v_astoreN (n := 21) (lv' := [(4, .null), (3, .int (nI i_4)), (0, .ref (b + 0)), (1, .int x), (2, .int (hoN hv x i_4))]) C dX11_hullsOn_19 rfl (Nat.le_of_ble_eq_true rfl) rfl ?_
        refine v_aloadN (n := 23) C dX11_hullsOn_21 rfl rfl ?_
        refine v_ifnullN (t := 38) C dX11_hullsOn_23 (by decide) ?_
        refine v_iinc (n := 41) (v := ((nI i_4) + 1)) (lv' := [(3, .int ((nI i_4) + 1)), (4, .null), (0, .ref (b + 0)), (1, .int x), (2, .int (hoN hv x i_4))]) C dX11_hullsOn_38 rfl rfl rfl (Nat.le_of_ble_eq_true rfl) rfl ?_
        refine v_goto (t := 4) C dX11_hullsOn_41 (by decide) ?_
        refine v_pick (lv' := [(3, .int ((nI i_4) + 1)), (0, .ref (b + 0)), (1, .int x), (2, .int (hoN hv x i_4))]) [0, 2, 3, 4] rfl ?_
        have e_8 : ((nI i_4) + 1) = (nI (i_4 + 1)) := nI_1 _
        have e_9 : ((hoN hv x i_4) : Int32) = (hoN hv x (i_4 + 1)) := by first | rfl | (simp only [hoN, if_neg g_5, if_pos (Int32.not_le.mp g_5), if_neg c_6, if_pos (Int32.not_le.mp c_6), q_7]; done) | (simp only [hoN, eq_false g_5, eq_true (Int32.not_le.mp g_5), eq_false c_6, eq_true (Int32.not_le.mp c_6), q_7, ↓reduceIte]; done) | (simp only [hoN, eq_false g_5, eq_true (Int32.not_le.mp g_5), eq_false c_6, eq_true (Int32.not_le.mp c_6), q_7, ↓reduceIte] <;> rfl) | (simp [hoN, g_5, c_6, q_7]; done)
        refine v_cong (es' := (wl D b sc ar hn mh G)) (lv' := [(3, .int (nI (i_4 + 1))), (0, .ref (b + 0)), (1, .int x), (2, .int (hoN hv x (i_4 + 1)))]) rfl (cg2 (fun (z0 : Int32) (z1 : Int32) => ([(3, .int z0), (0, .ref (b + 0)), (1, .int x), (2, .int z1)] : List (Nat × Value))) e_8 e_9) ?_
        exact ih_4
      · obtain ⟨u7, hu7, hk7, hg7⟩ := hr.2.1 i_4 k7 dr7 ce7 sa7 q_7
        refine v_stk (st' := .ref (b + (u7 + 40)) :: []) (congrArg (fun z : Option Nat => va_rf (z.map (fun t => b + t)) :: []) hu7) ?_
        refine v_astore (n := 21) (lv' := [(4, .ref (b + (u7 + 40))), (3, .int (nI i_4)), (0, .ref (b + 0)), (1, .int x), (2, .int (hoN hv x i_4))]) C dX11_hullsOn_19 rfl (Nat.le_of_ble_eq_true rfl) rfl ?_
        refine v_aload (n := 23) C dX11_hullsOn_21 rfl rfl ?_
        refine v_ifnull (n := 26) C dX11_hullsOn_23 rfl ?_
        refine v_aload (n := 28) C dX11_hullsOn_26 rfl rfl ?_
        refine v_get (n := 31) C dX11_hullsOn_28 rfl (flk_X11_143 hk7) (wl_tail hg7) rfl ?_
        refine v_iload_n (n := 32) C dX11_hullsOn_31 rfl rfl rfl ?_
        refine v_icmp_ne (t := 38) (n := 35) C dX11_hullsOn_32 (by decide) rfl (fun c_10 => ?_) (fun c_10 => ?_)
        · skip
          refine v_iinc (n := 41) (v := ((nI i_4) + 1)) (lv' := [(3, .int ((nI i_4) + 1)), (4, .ref (b + (u7 + 40))), (0, .ref (b + 0)), (1, .int x), (2, .int (hoN hv x i_4))]) C dX11_hullsOn_38 rfl rfl rfl (Nat.le_of_ble_eq_true rfl) rfl ?_
          refine v_goto (t := 4) C dX11_hullsOn_41 (by decide) ?_
          refine v_pick (lv' := [(3, .int ((nI i_4) + 1)), (0, .ref (b + 0)), (1, .int x), (2, .int (hoN hv x i_4))]) [0, 2, 3, 4] rfl ?_
          have e_11 : ((nI i_4) + 1) = (nI (i_4 + 1)) := nI_1 _
          have e_12 : ((hoN hv x i_4) : Int32) = (hoN hv x (i_4 + 1)) := by first | rfl | (simp only [hoN, if_neg g_5, if_pos (Int32.not_le.mp g_5), if_neg c_6, if_pos (Int32.not_le.mp c_6), q_7, if_neg c_10, if_neg (fun h => c_10 (Eq.symm h))]; done) | (simp only [hoN, eq_false g_5, eq_true (Int32.not_le.mp g_5), eq_false c_6, eq_true (Int32.not_le.mp c_6), q_7, eq_false c_10, eq_false (fun h => c_10 (Eq.symm h)), ↓reduceIte]; done) | (simp only [hoN, eq_false g_5, eq_true (Int32.not_le.mp g_5), eq_false c_6, eq_true (Int32.not_le.mp c_6), q_7, eq_false c_10, eq_false (fun h => c_10 (Eq.symm h)), ↓reduceIte] <;> rfl) | (simp [hoN, g_5, c_6, q_7, c_10]; done)
          refine v_cong (es' := (wl D b sc ar hn mh G)) (lv' := [(3, .int (nI (i_4 + 1))), (0, .ref (b + 0)), (1, .int x), (2, .int (hoN hv x (i_4 + 1)))]) rfl (cg2 (fun (z0 : Int32) (z1 : Int32) => ([(3, .int z0), (0, .ref (b + 0)), (1, .int x), (2, .int z1)] : List (Nat × Value))) e_11 e_12) ?_
          exact ih_4
        · skip
          refine v_iinc (n := 38) (v := ((hoN hv x i_4) + 1)) (lv' := [(2, .int ((hoN hv x i_4) + 1)), (4, .ref (b + (u7 + 40))), (3, .int (nI i_4)), (0, .ref (b + 0)), (1, .int x)]) C dX11_hullsOn_35 rfl rfl rfl (Nat.le_of_ble_eq_true rfl) rfl ?_
          refine v_iinc (n := 41) (v := ((nI i_4) + 1)) (lv' := [(3, .int ((nI i_4) + 1)), (2, .int ((hoN hv x i_4) + 1)), (4, .ref (b + (u7 + 40))), (0, .ref (b + 0)), (1, .int x)]) C dX11_hullsOn_38 rfl rfl rfl (Nat.le_of_ble_eq_true rfl) rfl ?_
          refine v_goto (t := 4) C dX11_hullsOn_41 (by decide) ?_
          refine v_pick (lv' := [(3, .int ((nI i_4) + 1)), (0, .ref (b + 0)), (1, .int x), (2, .int ((hoN hv x i_4) + 1))]) [0, 3, 4, 1] rfl ?_
          have e_13 : ((nI i_4) + 1) = (nI (i_4 + 1)) := nI_1 _
          have e_14 : (((hoN hv x i_4) + 1) : Int32) = (hoN hv x (i_4 + 1)) := by first | rfl | (simp only [hoN, if_neg g_5, if_pos (Int32.not_le.mp g_5), if_neg c_6, if_pos (Int32.not_le.mp c_6), q_7, if_pos c_10, if_pos (Eq.symm c_10)]; done) | (simp only [hoN, eq_false g_5, eq_true (Int32.not_le.mp g_5), eq_false c_6, eq_true (Int32.not_le.mp c_6), q_7, eq_true c_10, eq_true (Eq.symm c_10), ↓reduceIte]; done) | (simp only [hoN, eq_false g_5, eq_true (Int32.not_le.mp g_5), eq_false c_6, eq_true (Int32.not_le.mp c_6), q_7, eq_true c_10, eq_true (Eq.symm c_10), ↓reduceIte] <;> rfl) | (simp [hoN, g_5, c_6, q_7, c_10]; done)
          refine v_cong (es' := (wl D b sc ar hn mh G)) (lv' := [(3, .int (nI (i_4 + 1))), (0, .ref (b + 0)), (1, .int x), (2, .int (hoN hv x (i_4 + 1)))]) rfl (cg2 (fun (z0 : Int32) (z1 : Int32) => ([(3, .int z0), (0, .ref (b + 0)), (1, .int x), (2, .int z1)] : List (Nat × Value))) e_13 e_14) ?_
          exact ih_4
set_option maxHeartbeats 4000000 in
set_option maxRecDepth 100000 in
theorem c_strandedHulls (l : Launch) (D : va_G) (b : Nat) (sc : Nat → Int32) (ar : Nat → Nat → Int32) (hn : Nat → Option Nat) (mh : Int64) (G : List va_E) (hv : HV) (hr : HVr hn G hv) : Con l yX11_strandedHulls cX11_strandedHulls 4 (some .int) 2 45 D b 0 0 (wl D b sc ar hn mh G) [.ref (b + 0)] (fun r es' => r = some (.int (stN (ar 24) (sc 16) (sc 3) hv 3)) ∧ (wl D b sc ar hn mh G) = es') := by
  refine con_of (by decide) (Nat.le_of_ble_eq_true rfl) (fun p e s m args below meth c C hsz => ?_)
  have C : vC p s m args meth c cX11_strandedHulls 4 RX11 "strandedHulls" (some .int) D b := C
  change V p l e _ s m args below meth c D b 4 _ 0 0 (wl D b sc ar hn mh G) [(0, .ref (b + 0))] [] 0
  refine v_iconst (n := 1) (v := 0) C dX11_strandedHulls_0 rfl (by decide) ?_
  refine v_istore_n (n := 2) (lv' := [(1, .int 0), (0, .ref (b + 0))]) C dX11_strandedHulls_1 rfl rfl (Nat.le_of_ble_eq_true rfl) rfl ?_
  refine v_iconst (n := 3) (v := 0) C dX11_strandedHulls_2 rfl (by decide) ?_
  refine v_istore_n (n := 4) (lv' := [(2, .int 0), (1, .int 0), (0, .ref (b + 0))]) C dX11_strandedHulls_3 rfl rfl (Nat.le_of_ble_eq_true rfl) rfl ?_
  refine v_pick (lv' := [(2, .int 0), (0, .ref (b + 0)), (1, .int 0)]) [0, 2, 1] rfl ?_
  have e_1 : (0 : Int32) = (nI 0) := rfl
  have e_2 : (0 : Int32) = (stN (ar 24) (sc 16) (sc 3) hv 0) := by first | rfl | (simp only [stN]; done) | (simp only [stN, ↓reduceIte]; done) | (simp only [stN, ↓reduceIte] <;> rfl) | (simp [stN]; done)
  refine v_cong (es' := (wl D b sc ar hn mh G)) (lv' := [(2, .int (nI 0)), (0, .ref (b + 0)), (1, .int (stN (ar 24) (sc 16) (sc 3) hv 0))]) rfl (cg2 (fun (z0 : Int32) (z1 : Int32) => ([(2, .int z0), (0, .ref (b + 0)), (1, .int z1)] : List (Nat × Value))) e_1 e_2) ?_
  refine loop_dn (P := fun i_4 => V p l e { frames := 2, cells := 0, slots := 0, locals := 45 } s m args below meth c D b 4 (MQ below (cQ D b 0 (fun r es' => r = some (.int (stN (ar 24) (sc 16) (sc 3) hv 3)) ∧ (wl D b sc ar hn mh G) = es')) args s 0 0 (fun q => b ≤ q)) 0 0 (wl D b sc ar hn mh G) [(2, .int (nI i_4)), (0, .ref (b + 0)), (1, .int (stN (ar 24) (sc 16) (sc 3) hv i_4))] [] 4) 3 ?_ (fun i_4 hi_4 ih_4 => ?_)
  · skip
    have g_3 : (3 : Int32) ≤ (nI 3) := by decide
    refine v_iload_n (n := 5) C dX11_strandedHulls_4 rfl rfl rfl ?_
    refine v_aload_n (n := 6) C dX11_strandedHulls_5 rfl rfl rfl ?_
    refine v_get (n := 9) C dX11_strandedHulls_6 rfl fl_X11_15_X11 wl_c0 rfl ?_
    refine v_alenQ (n := 10) (v := 3) C dX11_strandedHulls_9 rfl wl_c2 rfl ?_
    refine v_icmp_ge (t := 52) (n := 13) C dX11_strandedHulls_10 (by decide) rfl (fun c_4 => ?_) (fun c_4 => ?_)
    · skip
      refine v_iload_n (n := 53) C dX11_strandedHulls_52 rfl rfl rfl ?_
      exact v_iret C dX11_strandedHulls_53 rfl rfl ⟨by first | rfl | (simp only [stN, if_pos g_3, if_neg (Int32.not_lt.mpr g_3), if_pos c_4, if_neg (Int32.not_lt.mpr c_4)]; done) | (simp only [stN, eq_true g_3, eq_false (Int32.not_lt.mpr g_3), eq_true c_4, eq_false (Int32.not_lt.mpr c_4), ↓reduceIte]; done) | (simp only [stN, eq_true g_3, eq_false (Int32.not_lt.mpr g_3), eq_true c_4, eq_false (Int32.not_lt.mpr c_4), ↓reduceIte] <;> rfl) | (simp [stN, g_3, c_4]; done), rfl⟩
    · first | exact absurd c_4 g_3 | exact absurd g_3 c_4 | exact absurd c_4 (Int32.not_le.mpr g_3) | exact absurd c_4 (Int32.not_lt.mpr g_3) | exact absurd (Int32.not_le.mp g_3) c_4 | exact absurd (Int32.not_lt.mp g_3) c_4 | exact absurd (Int32.not_le.mp g_3) (Int32.not_lt.mpr c_4) | exact absurd (Int32.not_lt.mp g_3) (Int32.not_le.mpr c_4) | exact absurd (Int32.not_lt.mp c_4) (Int32.not_le.mpr (Int32.not_le.mp g_3))
  · skip
    have g_5 : ¬ (3 : Int32) ≤ (nI i_4) := nI_ge (a := i_4 + 0) (b := 3) (by omega) (by decide)
    refine v_iload_n (n := 5) C dX11_strandedHulls_4 rfl rfl rfl ?_
    refine v_aload_n (n := 6) C dX11_strandedHulls_5 rfl rfl rfl ?_
    refine v_get (n := 9) C dX11_strandedHulls_6 rfl fl_X11_15_X11 wl_c0 rfl ?_
    refine v_alenQ (n := 10) (v := 3) C dX11_strandedHulls_9 rfl wl_c2 rfl ?_
    refine v_icmp_ge (t := 52) (n := 13) C dX11_strandedHulls_10 (by decide) rfl (fun c_6 => ?_) (fun c_6 => ?_)
    · first | exact absurd c_6 g_5 | exact absurd g_5 c_6 | exact absurd c_6 (Int32.not_le.mpr g_5) | exact absurd c_6 (Int32.not_lt.mpr g_5) | exact absurd (Int32.not_le.mp g_5) c_6 | exact absurd (Int32.not_lt.mp g_5) c_6 | exact absurd (Int32.not_le.mp g_5) (Int32.not_lt.mpr c_6) | exact absurd (Int32.not_lt.mp g_5) (Int32.not_le.mpr c_6) | exact absurd (Int32.not_lt.mp c_6) (Int32.not_le.mpr (Int32.not_le.mp g_5))
    · skip
      refine v_aload_n (n := 14) C dX11_strandedHulls_13 rfl rfl rfl ?_
      refine v_get (n := 17) C dX11_strandedHulls_14 rfl fl_X11_15_X11 wl_c0 rfl ?_
      refine v_iload_n (n := 18) C dX11_strandedHulls_17 rfl rfl rfl ?_
      refine v_aald (n := 19) C dX11_strandedHulls_18 rfl wl_c2 (nI_vp hi_4 (by decide) (by decide)) ?_
      refine v_stk (st' := va_rf ((hn i_4).map (fun t => b + t)) :: []) (congrArg (fun z : Nat => va_rf ((hn z).map (fun t => b + t)) :: []) (nI_clamp (show i_4 < 2 ^ 31 by omega))) ?_
      rcases q_7 : hv i_4 with _ | ⟨k7, dr7, ce7, sa7⟩
      · skip
        refine v_stk (st' := .null :: []) (congrArg (fun z : Option Nat => va_rf (z.map (fun t => b + t)) :: []) (hr.1 i_4 q_7)) ?_
        refine v_astore_nN (n := 20) (lv' := [(3, .null), (2, .int (nI i_4)), (0, .ref (b + 0)), (1, .int (stN (ar 24) (sc 16) (sc 3) hv i_4))]) C dX11_strandedHulls_19 rfl rfl (Nat.le_of_ble_eq_true rfl) rfl ?_
        refine v_aload_nN (n := 21) C dX11_strandedHulls_20 rfl rfl rfl ?_
        refine v_ifnullN (t := 46) C dX11_strandedHulls_21 (by decide) ?_
        refine v_iinc (n := 49) (v := ((nI i_4) + 1)) (lv' := [(2, .int ((nI i_4) + 1)), (3, .null), (0, .ref (b + 0)), (1, .int (stN (ar 24) (sc 16) (sc 3) hv i_4))]) C dX11_strandedHulls_46 rfl rfl rfl (Nat.le_of_ble_eq_true rfl) rfl ?_
        refine v_goto (t := 4) C dX11_strandedHulls_49 (by decide) ?_
        refine v_pick (lv' := [(2, .int ((nI i_4) + 1)), (0, .ref (b + 0)), (1, .int (stN (ar 24) (sc 16) (sc 3) hv i_4))]) [0, 2, 3] rfl ?_
        have e_8 : ((nI i_4) + 1) = (nI (i_4 + 1)) := nI_1 _
        have e_9 : ((stN (ar 24) (sc 16) (sc 3) hv i_4) : Int32) = (stN (ar 24) (sc 16) (sc 3) hv (i_4 + 1)) := by first | rfl | (simp only [stN, if_neg g_5, if_pos (Int32.not_le.mp g_5), if_neg c_6, if_pos (Int32.not_le.mp c_6), q_7]; done) | (simp only [stN, eq_false g_5, eq_true (Int32.not_le.mp g_5), eq_false c_6, eq_true (Int32.not_le.mp c_6), q_7, ↓reduceIte]; done) | (simp only [stN, eq_false g_5, eq_true (Int32.not_le.mp g_5), eq_false c_6, eq_true (Int32.not_le.mp c_6), q_7, ↓reduceIte] <;> rfl) | (simp [stN, g_5, c_6, q_7]; done)
        refine v_cong (es' := (wl D b sc ar hn mh G)) (lv' := [(2, .int (nI (i_4 + 1))), (0, .ref (b + 0)), (1, .int (stN (ar 24) (sc 16) (sc 3) hv (i_4 + 1)))]) rfl (cg2 (fun (z0 : Int32) (z1 : Int32) => ([(2, .int z0), (0, .ref (b + 0)), (1, .int z1)] : List (Nat × Value))) e_8 e_9) ?_
        exact ih_4
      · obtain ⟨u7, hu7, hk7, hg7⟩ := hr.2.1 i_4 k7 dr7 ce7 sa7 q_7
        refine v_stk (st' := .ref (b + (u7 + 40)) :: []) (congrArg (fun z : Option Nat => va_rf (z.map (fun t => b + t)) :: []) hu7) ?_
        refine v_astore_n (n := 20) (lv' := [(3, .ref (b + (u7 + 40))), (2, .int (nI i_4)), (0, .ref (b + 0)), (1, .int (stN (ar 24) (sc 16) (sc 3) hv i_4))]) C dX11_strandedHulls_19 rfl rfl (Nat.le_of_ble_eq_true rfl) rfl ?_
        refine v_aload_n (n := 21) C dX11_strandedHulls_20 rfl rfl rfl ?_
        refine v_ifnull (n := 24) C dX11_strandedHulls_21 rfl ?_
        refine v_aload_n (n := 25) C dX11_strandedHulls_24 rfl rfl rfl ?_
        refine v_get (n := 28) C dX11_strandedHulls_25 rfl fl_X11_59_X11 wl_c0 rfl ?_
        refine v_aload_n (n := 29) C dX11_strandedHulls_28 rfl rfl rfl ?_
        refine v_aload_n (n := 30) C dX11_strandedHulls_29 rfl rfl rfl ?_
        refine v_get (n := 33) C dX11_strandedHulls_30 rfl (flk_X11_143 hk7) (wl_tail hg7) rfl ?_
        refine v_aload_n (n := 34) C dX11_strandedHulls_33 rfl rfl rfl ?_
        refine v_get (n := 37) C dX11_strandedHulls_34 rfl fl_X11_106_X11 wl_c0 rfl ?_
        refine v_go (n := 40) C (vRun_V (As := [.ref (b + (u7 + 40)), .int ce7, .int (sc 3)]) (rest := []) C wl_c25 rfl lk_X11_146 im_X7_floats se_X7_floats dX11_strandedHulls_37 (c_floats l D b (wl D b sc ar hn mh G) 25 24 (ar 24) (sc 16) (sc 17) wl_c25 wl_c24 (u7 + 40) k7 dr7 ce7 sa7 hk7 (wl_tail hg7) ce7 (sc 3)) wm_X7_floats rfl rfl ⟨Nat.le_of_ble_eq_true rfl, Nat.le_of_ble_eq_true rfl⟩ ⟨Nat.le_of_ble_eq_true rfl, Nat.le_of_ble_eq_true rfl⟩ (Nat.le_of_ble_eq_true rfl)) rfl ?_
        rintro _ _ ⟨rfl, rfl⟩ -
        by_cases p_10 : flP (ar 24) (sc 16) k7 dr7 ce7 (sc 3)
        · skip
          refine v_stk (st' := .int 1 :: []) (congrArg (fun z : Int32 => Value.int z :: []) (if_pos p_10 : (if flP (ar 24) (sc 16) k7 dr7 ce7 (sc 3) then (1 : Int32) else 0) = 1)) ?_
          refine v_if_ne (t := 46) (n := 43) C dX11_strandedHulls_40 (by decide) rfl (fun c_11 => ?_) (fun c_11 => ?_)
          · skip
            refine v_iinc (n := 49) (v := ((nI i_4) + 1)) (lv' := [(2, .int ((nI i_4) + 1)), (3, .ref (b + (u7 + 40))), (0, .ref (b + 0)), (1, .int (stN (ar 24) (sc 16) (sc 3) hv i_4))]) C dX11_strandedHulls_46 rfl rfl rfl (Nat.le_of_ble_eq_true rfl) rfl ?_
            refine v_goto (t := 4) C dX11_strandedHulls_49 (by decide) ?_
            refine v_pick (lv' := [(2, .int ((nI i_4) + 1)), (0, .ref (b + 0)), (1, .int (stN (ar 24) (sc 16) (sc 3) hv i_4))]) [0, 2, 3] rfl ?_
            have e_12 : ((nI i_4) + 1) = (nI (i_4 + 1)) := nI_1 _
            have e_13 : ((stN (ar 24) (sc 16) (sc 3) hv i_4) : Int32) = (stN (ar 24) (sc 16) (sc 3) hv (i_4 + 1)) := by first | rfl | (simp only [stN, if_neg g_5, if_pos (Int32.not_le.mp g_5), if_neg c_6, if_pos (Int32.not_le.mp c_6), q_7, if_pos p_10, if_neg c_11]; done) | (simp only [stN, eq_false g_5, eq_true (Int32.not_le.mp g_5), eq_false c_6, eq_true (Int32.not_le.mp c_6), q_7, eq_true p_10, eq_false c_11, ↓reduceIte]; done) | (simp only [stN, eq_false g_5, eq_true (Int32.not_le.mp g_5), eq_false c_6, eq_true (Int32.not_le.mp c_6), q_7, eq_true p_10, eq_false c_11, ↓reduceIte] <;> rfl) | (simp [stN, g_5, c_6, q_7, p_10, c_11]; done)
            refine v_cong (es' := (wl D b sc ar hn mh G)) (lv' := [(2, .int (nI (i_4 + 1))), (0, .ref (b + 0)), (1, .int (stN (ar 24) (sc 16) (sc 3) hv (i_4 + 1)))]) rfl (cg2 (fun (z0 : Int32) (z1 : Int32) => ([(2, .int z0), (0, .ref (b + 0)), (1, .int z1)] : List (Nat × Value))) e_12 e_13) ?_
            exact ih_4
          · exact absurd c_11 (by decide)
        · skip
          refine v_stk (st' := .int 0 :: []) (congrArg (fun z : Int32 => Value.int z :: []) (if_neg p_10 : (if flP (ar 24) (sc 16) k7 dr7 ce7 (sc 3) then (1 : Int32) else 0) = 0)) ?_
          refine v_if_ne (t := 46) (n := 43) C dX11_strandedHulls_40 (by decide) rfl (fun c_14 => ?_) (fun c_14 => ?_)
          · exact absurd c_14 (by decide)
          · skip
            refine v_iinc (n := 46) (v := ((stN (ar 24) (sc 16) (sc 3) hv i_4) + 1)) (lv' := [(1, .int ((stN (ar 24) (sc 16) (sc 3) hv i_4) + 1)), (3, .ref (b + (u7 + 40))), (2, .int (nI i_4)), (0, .ref (b + 0))]) C dX11_strandedHulls_43 rfl rfl rfl (Nat.le_of_ble_eq_true rfl) rfl ?_
            refine v_iinc (n := 49) (v := ((nI i_4) + 1)) (lv' := [(2, .int ((nI i_4) + 1)), (1, .int ((stN (ar 24) (sc 16) (sc 3) hv i_4) + 1)), (3, .ref (b + (u7 + 40))), (0, .ref (b + 0))]) C dX11_strandedHulls_46 rfl rfl rfl (Nat.le_of_ble_eq_true rfl) rfl ?_
            refine v_goto (t := 4) C dX11_strandedHulls_49 (by decide) ?_
            refine v_pick (lv' := [(2, .int ((nI i_4) + 1)), (0, .ref (b + 0)), (1, .int ((stN (ar 24) (sc 16) (sc 3) hv i_4) + 1))]) [0, 3, 1] rfl ?_
            have e_15 : ((nI i_4) + 1) = (nI (i_4 + 1)) := nI_1 _
            have e_16 : (((stN (ar 24) (sc 16) (sc 3) hv i_4) + 1) : Int32) = (stN (ar 24) (sc 16) (sc 3) hv (i_4 + 1)) := by first | rfl | (simp only [stN, if_neg g_5, if_pos (Int32.not_le.mp g_5), if_neg c_6, if_pos (Int32.not_le.mp c_6), q_7, if_neg p_10, if_pos c_14]; done) | (simp only [stN, eq_false g_5, eq_true (Int32.not_le.mp g_5), eq_false c_6, eq_true (Int32.not_le.mp c_6), q_7, eq_false p_10, eq_true c_14, ↓reduceIte]; done) | (simp only [stN, eq_false g_5, eq_true (Int32.not_le.mp g_5), eq_false c_6, eq_true (Int32.not_le.mp c_6), q_7, eq_false p_10, eq_true c_14, ↓reduceIte] <;> rfl) | (simp [stN, g_5, c_6, q_7, p_10, c_14]; done)
            refine v_cong (es' := (wl D b sc ar hn mh G)) (lv' := [(2, .int (nI (i_4 + 1))), (0, .ref (b + 0)), (1, .int (stN (ar 24) (sc 16) (sc 3) hv (i_4 + 1)))]) rfl (cg2 (fun (z0 : Int32) (z1 : Int32) => ([(2, .int z0), (0, .ref (b + 0)), (1, .int z1)] : List (Nat × Value))) e_15 e_16) ?_
            exact ih_4
set_option maxHeartbeats 4000000 in
set_option maxRecDepth 100000 in
theorem c_cutCells (l : Launch) (D : va_G) (b : Nat) (sc : Nat → Int32) (ar : Nat → Nat → Int32) (hn : Nat → Option Nat) (mh : Int64) (G : List va_E)  : Con l yX11_cutCells cX11_cutCells 3 (some .int) 1 21 D b 0 0 (wl D b sc ar hn mh G) [.ref (b + 0)] (fun r es' => r = some (.int (cuF (sc 16) (sc 3))) ∧ (wl D b sc ar hn mh G) = es') := by
  refine con_of (by decide) (Nat.le_of_ble_eq_true rfl) (fun p e s m args below meth c C hsz => ?_)
  have C : vC p s m args meth c cX11_cutCells 3 RX11 "cutCells" (some .int) D b := C
  change V p l e _ s m args below meth c D b 3 _ 0 0 (wl D b sc ar hn mh G) [(0, .ref (b + 0))] [] 0
  refine v_aload_n (n := 1) C dX11_cutCells_0 rfl rfl rfl ?_
  refine v_go (n := 4) C (vRun_V (As := []) (rest := []) C wl_c0 rfl lk_X11_119 im_X11_hasPlain se_X11_hasPlain dX11_cutCells_1 (c_hasPlain l D b sc ar hn mh G) wm_X11_hasPlain rfl rfl ⟨Nat.le_of_ble_eq_true rfl, Nat.le_of_ble_eq_true rfl⟩ ⟨Nat.le_of_ble_eq_true rfl, Nat.le_of_ble_eq_true rfl⟩ (Nat.le_of_ble_eq_true rfl)) rfl ?_
  rintro _ _ ⟨rfl, rfl⟩ -
  by_cases p_1 : (sc 16) ≤ 0
  · skip
    refine v_stk (st' := .int 0 :: []) (congrArg (fun z : Int32 => Value.int z :: []) (show hpF (sc 16) = 0 by simp only [hpF, if_pos p_1])) ?_
    refine v_if_ne (t := 9) (n := 7) C dX11_cutCells_4 (by decide) rfl (fun c_2 => ?_) (fun c_2 => ?_)
    · exact absurd c_2 (by decide)
    · skip
      refine v_iconst (n := 8) (v := 0) C dX11_cutCells_7 rfl (by decide) ?_
      exact v_iret C dX11_cutCells_8 rfl rfl ⟨by first | rfl | (simp only [cuF, if_pos p_1, if_neg (Int32.not_lt.mpr p_1), if_pos c_2]; done) | (simp only [cuF, eq_true p_1, eq_false (Int32.not_lt.mpr p_1), eq_true c_2, ↓reduceIte]; done) | (simp only [cuF, eq_true p_1, eq_false (Int32.not_lt.mpr p_1), eq_true c_2, ↓reduceIte] <;> rfl) | (simp [cuF, p_1, c_2]; done), rfl⟩
  refine v_stk (st' := .int 1 :: []) (congrArg (fun z : Int32 => Value.int z :: []) (show hpF (sc 16) = 1 by simp only [hpF, if_neg p_1])) ?_
  refine v_if_ne (t := 9) (n := 7) C dX11_cutCells_4 (by decide) rfl (fun c_3 => ?_) (fun c_3 => ?_)
  · skip
    refine v_iconst (n := 10) (v := 0) C dX11_cutCells_9 rfl (by decide) ?_
    refine v_istore_n (n := 11) (lv' := [(1, .int 0), (0, .ref (b + 0))]) C dX11_cutCells_10 rfl rfl (Nat.le_of_ble_eq_true rfl) rfl ?_
    refine v_iconst (n := 12) (v := 0) C dX11_cutCells_11 rfl (by decide) ?_
    refine v_istore_n (n := 13) (lv' := [(2, .int 0), (1, .int 0), (0, .ref (b + 0))]) C dX11_cutCells_12 rfl rfl (Nat.le_of_ble_eq_true rfl) rfl ?_
    refine v_pick (lv' := [(2, .int 0), (0, .ref (b + 0)), (1, .int 0)]) [0, 2, 1] rfl ?_
    have e_4 : (0 : Int32) = (nI 0) := rfl
    have e_5 : (0 : Int32) = (cuN (sc 16) (sc 3) 0) := by first | rfl | (simp only [cuN, if_neg p_1, if_pos (Int32.not_le.mp p_1), if_neg c_3]; done) | (simp only [cuN, eq_false p_1, eq_true (Int32.not_le.mp p_1), eq_false c_3, ↓reduceIte]; done) | (simp only [cuN, eq_false p_1, eq_true (Int32.not_le.mp p_1), eq_false c_3, ↓reduceIte] <;> rfl) | (simp [cuN, p_1, c_3]; done)
    refine v_cong (es' := (wl D b sc ar hn mh G)) (lv' := [(2, .int (nI 0)), (0, .ref (b + 0)), (1, .int (cuN (sc 16) (sc 3) 0))]) rfl (cg2 (fun (z0 : Int32) (z1 : Int32) => ([(2, .int z0), (0, .ref (b + 0)), (1, .int z1)] : List (Nat × Value))) e_4 e_5) ?_
    refine loop_dn (P := fun i_13 => V p l e { frames := 1, cells := 0, slots := 0, locals := 21 } s m args below meth c D b 3 (MQ below (cQ D b 0 (fun r es' => r = some (.int (cuF (sc 16) (sc 3))) ∧ (wl D b sc ar hn mh G) = es')) args s 0 0 (fun q => b ≤ q)) 0 0 (wl D b sc ar hn mh G) [(2, .int (nI i_13)), (0, .ref (b + 0)), (1, .int (cuN (sc 16) (sc 3) i_13))] [] 13) 12 ?_ (fun i_13 hi_13 ih_13 => ?_)
    · skip
      have g_6 : (12 : Int32) ≤ (nI 12) := by decide
      refine v_iload_n (n := 14) C dX11_cutCells_13 rfl rfl rfl ?_
      refine v_bipush (n := 16) (v := 12) C dX11_cutCells_14 rfl (by decide) ?_
      refine v_icmp_ge (t := 43) (n := 19) C dX11_cutCells_16 (by decide) rfl (fun c_7 => ?_) (fun c_7 => ?_)
      · skip
        refine v_iload_n (n := 44) C dX11_cutCells_43 rfl rfl rfl ?_
        exact v_iret C dX11_cutCells_44 rfl rfl ⟨by first | rfl | (simp only [cuF, if_neg p_1, if_pos (Int32.not_le.mp p_1), if_neg c_3, if_pos g_6, if_neg (Int32.not_lt.mpr g_6), if_pos c_7, if_neg (Int32.not_lt.mpr c_7)]; done) | (simp only [cuF, eq_false p_1, eq_true (Int32.not_le.mp p_1), eq_false c_3, eq_true g_6, eq_false (Int32.not_lt.mpr g_6), eq_true c_7, eq_false (Int32.not_lt.mpr c_7), ↓reduceIte]; done) | (simp only [cuF, eq_false p_1, eq_true (Int32.not_le.mp p_1), eq_false c_3, eq_true g_6, eq_false (Int32.not_lt.mpr g_6), eq_true c_7, eq_false (Int32.not_lt.mpr c_7), ↓reduceIte] <;> rfl) | (simp [cuF, p_1, c_3, g_6, c_7]; done), rfl⟩
      · first | exact absurd c_7 g_6 | exact absurd g_6 c_7 | exact absurd c_7 (Int32.not_le.mpr g_6) | exact absurd c_7 (Int32.not_lt.mpr g_6) | exact absurd (Int32.not_le.mp g_6) c_7 | exact absurd (Int32.not_lt.mp g_6) c_7 | exact absurd (Int32.not_le.mp g_6) (Int32.not_lt.mpr c_7) | exact absurd (Int32.not_lt.mp g_6) (Int32.not_le.mpr c_7) | exact absurd (Int32.not_lt.mp c_7) (Int32.not_le.mpr (Int32.not_le.mp g_6))
    · skip
      have g_8 : ¬ (12 : Int32) ≤ (nI i_13) := nI_ge (a := i_13 + 0) (b := 12) (by omega) (by decide)
      refine v_iload_n (n := 14) C dX11_cutCells_13 rfl rfl rfl ?_
      refine v_bipush (n := 16) (v := 12) C dX11_cutCells_14 rfl (by decide) ?_
      refine v_icmp_ge (t := 43) (n := 19) C dX11_cutCells_16 (by decide) rfl (fun c_9 => ?_) (fun c_9 => ?_)
      · first | exact absurd c_9 g_8 | exact absurd g_8 c_9 | exact absurd c_9 (Int32.not_le.mpr g_8) | exact absurd c_9 (Int32.not_lt.mpr g_8) | exact absurd (Int32.not_le.mp g_8) c_9 | exact absurd (Int32.not_lt.mp g_8) c_9 | exact absurd (Int32.not_le.mp g_8) (Int32.not_lt.mpr c_9) | exact absurd (Int32.not_lt.mp g_8) (Int32.not_le.mpr c_9) | exact absurd (Int32.not_lt.mp c_9) (Int32.not_le.mpr (Int32.not_le.mp g_8))
      · skip
        refine v_aload_n (n := 20) C dX11_cutCells_19 rfl rfl rfl ?_
        refine v_get (n := 23) C dX11_cutCells_20 rfl fl_X11_106_X11 wl_c0 rfl ?_
        refine v_aload_n (n := 24) C dX11_cutCells_23 rfl rfl rfl ?_
        refine v_get (n := 27) C dX11_cutCells_24 rfl fl_X11_59_X11 wl_c0 rfl ?_
        refine v_iload_n (n := 28) C dX11_cutCells_27 rfl rfl rfl ?_
        refine v_go (n := 31) C (vRun_V (As := [.int (nI i_13)]) (rest := [.int (sc 3)]) C wl_c25 rfl lk_X11_113 im_X7_cutHour se_X7_cutHour dX11_cutCells_28 (c_cutHour l D b (wl D b sc ar hn mh G) 25 24 (ar 24) (sc 16) (sc 17) wl_c25 wl_c24 (nI i_13)) wm_X7_cutHour rfl rfl ⟨Nat.le_of_ble_eq_true rfl, Nat.le_of_ble_eq_true rfl⟩ ⟨Nat.le_of_ble_eq_true rfl, Nat.le_of_ble_eq_true rfl⟩ (Nat.le_of_ble_eq_true rfl)) rfl ?_
        rintro _ _ ⟨rfl, rfl⟩ -
        refine v_icmp_lt (t := 37) (n := 34) C dX11_cutCells_31 (by decide) rfl (fun c_10 => ?_) (fun c_10 => ?_)
        · skip
          refine v_iinc (n := 40) (v := ((nI i_13) + 1)) (lv' := [(2, .int ((nI i_13) + 1)), (0, .ref (b + 0)), (1, .int (cuN (sc 16) (sc 3) i_13))]) C dX11_cutCells_37 rfl rfl rfl (Nat.le_of_ble_eq_true rfl) rfl ?_
          refine v_goto (t := 13) C dX11_cutCells_40 (by decide) ?_
          refine v_pick (lv' := [(2, .int ((nI i_13) + 1)), (0, .ref (b + 0)), (1, .int (cuN (sc 16) (sc 3) i_13))]) [0, 1, 2] rfl ?_
          have e_11 : ((nI i_13) + 1) = (nI (i_13 + 1)) := nI_1 _
          have e_12 : ((cuN (sc 16) (sc 3) i_13) : Int32) = (cuN (sc 16) (sc 3) (i_13 + 1)) := by first | rfl | (simp only [cuN, if_neg p_1, if_pos (Int32.not_le.mp p_1), if_neg c_3, if_neg g_8, if_pos (Int32.not_le.mp g_8), if_neg c_9, if_pos (Int32.not_le.mp c_9), if_pos c_10, if_neg (Int32.not_le.mpr c_10)]; done) | (simp only [cuN, eq_false p_1, eq_true (Int32.not_le.mp p_1), eq_false c_3, eq_false g_8, eq_true (Int32.not_le.mp g_8), eq_false c_9, eq_true (Int32.not_le.mp c_9), eq_true c_10, eq_false (Int32.not_le.mpr c_10), ↓reduceIte]; done) | (simp only [cuN, eq_false p_1, eq_true (Int32.not_le.mp p_1), eq_false c_3, eq_false g_8, eq_true (Int32.not_le.mp g_8), eq_false c_9, eq_true (Int32.not_le.mp c_9), eq_true c_10, eq_false (Int32.not_le.mpr c_10), ↓reduceIte] <;> rfl) | (simp [cuN, p_1, c_3, g_8, c_9, c_10]; done)
          refine v_cong (es' := (wl D b sc ar hn mh G)) (lv' := [(2, .int (nI (i_13 + 1))), (0, .ref (b + 0)), (1, .int (cuN (sc 16) (sc 3) (i_13 + 1)))]) rfl (cg2 (fun (z0 : Int32) (z1 : Int32) => ([(2, .int z0), (0, .ref (b + 0)), (1, .int z1)] : List (Nat × Value))) e_11 e_12) ?_
          exact ih_13
        · skip
          refine v_iinc (n := 37) (v := ((cuN (sc 16) (sc 3) i_13) + 1)) (lv' := [(1, .int ((cuN (sc 16) (sc 3) i_13) + 1)), (2, .int (nI i_13)), (0, .ref (b + 0))]) C dX11_cutCells_34 rfl rfl rfl (Nat.le_of_ble_eq_true rfl) rfl ?_
          refine v_iinc (n := 40) (v := ((nI i_13) + 1)) (lv' := [(2, .int ((nI i_13) + 1)), (1, .int ((cuN (sc 16) (sc 3) i_13) + 1)), (0, .ref (b + 0))]) C dX11_cutCells_37 rfl rfl rfl (Nat.le_of_ble_eq_true rfl) rfl ?_
          refine v_goto (t := 13) C dX11_cutCells_40 (by decide) ?_
          refine v_pick (lv' := [(2, .int ((nI i_13) + 1)), (0, .ref (b + 0)), (1, .int ((cuN (sc 16) (sc 3) i_13) + 1))]) [0, 2, 1] rfl ?_
          have e_13 : ((nI i_13) + 1) = (nI (i_13 + 1)) := nI_1 _
          have e_14 : (((cuN (sc 16) (sc 3) i_13) + 1) : Int32) = (cuN (sc 16) (sc 3) (i_13 + 1)) := by first | rfl | (simp only [cuN, if_neg p_1, if_pos (Int32.not_le.mp p_1), if_neg c_3, if_neg g_8, if_pos (Int32.not_le.mp g_8), if_neg c_9, if_pos (Int32.not_le.mp c_9), if_neg c_10, if_pos (Int32.not_lt.mp c_10)]; done) | (simp only [cuN, eq_false p_1, eq_true (Int32.not_le.mp p_1), eq_false c_3, eq_false g_8, eq_true (Int32.not_le.mp g_8), eq_false c_9, eq_true (Int32.not_le.mp c_9), eq_false c_10, eq_true (Int32.not_lt.mp c_10), ↓reduceIte]; done) | (simp only [cuN, eq_false p_1, eq_true (Int32.not_le.mp p_1), eq_false c_3, eq_false g_8, eq_true (Int32.not_le.mp g_8), eq_false c_9, eq_true (Int32.not_le.mp c_9), eq_false c_10, eq_true (Int32.not_lt.mp c_10), ↓reduceIte] <;> rfl) | (simp [cuN, p_1, c_3, g_8, c_9, c_10]; done)
          refine v_cong (es' := (wl D b sc ar hn mh G)) (lv' := [(2, .int (nI (i_13 + 1))), (0, .ref (b + 0)), (1, .int (cuN (sc 16) (sc 3) (i_13 + 1)))]) rfl (cg2 (fun (z0 : Int32) (z1 : Int32) => ([(2, .int z0), (0, .ref (b + 0)), (1, .int z1)] : List (Nat × Value))) e_13 e_14) ?_
          exact ih_13
  · exact absurd c_3 (by decide)
