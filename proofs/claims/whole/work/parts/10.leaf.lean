/-- isCell -/
def icP (x : Int32) : Prop := ¬ x < 0 ∧ ¬ 12 ≤ x
def icF (x : Int32) : Int32 := if x < 0 then 0 else if 12 ≤ x then 0 else 1
/-- beside -/
def beF (x w : Int32) : Int32 := if x < 0 then -1 else if 12 ≤ x then -1 else
  if w = 0 then (if 3 ≤ x - x / 4 * 4 then -1 else x + 1) else
  if w = 1 then (if 12 ≤ x + 4 then -1 else x + 4) else
  if w = 2 then (if x - x / 4 * 4 ≤ 0 then -1 else x - 1) else
  if w = 3 then (if x - 4 < 0 then -1 else x - 4) else -1
set_option maxHeartbeats 4000000 in
set_option maxRecDepth 100000 in
theorem c_isCell (l : Launch) (D : va_G) (b : Nat) (es : List va_E) (x : Int32) : Con l yX11_isCell cX11_isCell 1 (some .boolean) 0 0 D b 0 0 es [.int x] (fun r es' => r = some (.int (icF x)) ∧ es = es') := by
  refine con_of (by decide) (Nat.le_of_ble_eq_true rfl) (fun p e s m args below meth c C hsz => ?_)
  have C : vC p s m args meth c cX11_isCell 1 RX11 "isCell" (some .boolean) D b := C
  change V p l e _ s m args below meth c D b 1 _ 0 0 es [(0, .int x)] [] 0
  refine v_iload_n (n := 1) C dX11_isCell_0 rfl rfl rfl ?_
  refine v_if_lt (t := 14) (n := 4) C dX11_isCell_1 (by decide) rfl (fun c_1 => ?_) (fun c_1 => ?_)
  · skip
    refine v_iconst (n := 15) (v := 0) C dX11_isCell_14 rfl (by decide) ?_
    exact v_iret C dX11_isCell_15 rfl rfl ⟨by first | rfl | (simp only [icF, if_pos c_1, if_neg (Int32.not_le.mpr c_1)]; done) | simp [icF, c_1] , rfl⟩
  · skip
    refine v_iload_n (n := 5) C dX11_isCell_4 rfl rfl rfl ?_
    refine v_bipush (n := 7) (v := 12) C dX11_isCell_5 rfl (by decide) ?_
    refine v_icmp_ge (t := 14) (n := 10) C dX11_isCell_7 (by decide) rfl (fun c_2 => ?_) (fun c_2 => ?_)
    · skip
      refine v_iconst (n := 15) (v := 0) C dX11_isCell_14 rfl (by decide) ?_
      exact v_iret C dX11_isCell_15 rfl rfl ⟨by first | rfl | (simp only [icF, if_neg c_1, if_pos (Int32.not_lt.mp c_1), if_pos c_2, if_neg (Int32.not_lt.mpr c_2)]; done) | simp [icF, c_1, c_2] , rfl⟩
    · skip
      refine v_iconst (n := 11) (v := 1) C dX11_isCell_10 rfl (by decide) ?_
      refine v_goto (t := 15) C dX11_isCell_11 (by decide) ?_
      exact v_iret C dX11_isCell_15 rfl rfl ⟨by first | rfl | (simp only [icF, if_neg c_1, if_pos (Int32.not_lt.mp c_1), if_neg c_2, if_pos (Int32.not_le.mp c_2)]; done) | simp [icF, c_1, c_2] , rfl⟩
set_option maxHeartbeats 4000000 in
set_option maxRecDepth 100000 in
theorem c_beside (l : Launch) (D : va_G) (b : Nat) (es : List va_E) (x w : Int32) : Con l yX11_beside cX11_beside 2 (some .int) 1 20 D b 0 0 es [.int x, .int w] (fun r es' => r = some (.int (beF x w)) ∧ es = es') := by
  refine con_of (by decide) (Nat.le_of_ble_eq_true rfl) (fun p e s m args below meth c C hsz => ?_)
  have C : vC p s m args meth c cX11_beside 2 RX11 "beside" (some .int) D b := C
  change V p l e _ s m args below meth c D b 2 _ 0 0 es [(0, .int x), (1, .int w)] [] 0
  refine v_iload_n (n := 1) C dX11_beside_0 rfl rfl rfl ?_
  refine v_go (n := 4) C (vRun_S (As := [.int x]) (rest := []) C lk_X11_259 st_X11_isCell dX11_beside_1 (c_isCell l D b es x) wm_X11_isCell rfl rfl ⟨Nat.le_of_ble_eq_true rfl, Nat.le_of_ble_eq_true rfl⟩ ⟨Nat.le_of_ble_eq_true rfl, Nat.le_of_ble_eq_true rfl⟩ (Nat.le_of_ble_eq_true rfl)) rfl ?_
  rintro _ _ ⟨rfl, rfl⟩ -
  by_cases c_1 : x < 0
  · rw [show icF x = 0 by simp only [icF, if_pos c_1]]
    refine v_if_ne (t := 9) (n := 7) C dX11_beside_4 (by decide) rfl (fun c_3 => ?_) (fun c_3 => ?_)
    · exact absurd c_3 (by decide)
    · skip
      refine v_iconst (n := 8) (v := -1) C dX11_beside_7 rfl (by decide) ?_
      exact v_iret C dX11_beside_8 rfl rfl ⟨by first | rfl | (simp only [beF, if_pos c_1, if_neg (Int32.not_le.mpr c_1), if_pos c_3]; done) | simp [beF, c_1, c_3] , rfl⟩
  by_cases c_2 : 12 ≤ x
  · rw [show icF x = 0 by simp only [icF, if_neg c_1, if_pos c_2]]
    refine v_if_ne (t := 9) (n := 7) C dX11_beside_4 (by decide) rfl (fun c_4 => ?_) (fun c_4 => ?_)
    · exact absurd c_4 (by decide)
    · skip
      refine v_iconst (n := 8) (v := -1) C dX11_beside_7 rfl (by decide) ?_
      exact v_iret C dX11_beside_8 rfl rfl ⟨by first | rfl | (simp only [beF, if_neg c_1, if_pos (Int32.not_lt.mp c_1), if_pos c_2, if_neg (Int32.not_lt.mpr c_2), if_pos c_4]; done) | simp [beF, c_1, c_2, c_4] , rfl⟩
  rw [show icF x = 1 by simp only [icF, if_neg c_1, if_neg c_2]]
  refine v_if_ne (t := 9) (n := 7) C dX11_beside_4 (by decide) rfl (fun c_5 => ?_) (fun c_5 => ?_)
  · skip
    refine v_iload_n (n := 10) C dX11_beside_9 rfl rfl rfl ?_
    by_cases c_10 : w = 0
    · refine v_tableIn (t := 40) C dX11_beside_10 (by rw [c_10]; decide) (by rw [c_10]; decide) (by rw [c_10]; rfl) (by decide) ?_
      refine v_iload_n (n := 41) C dX11_beside_40 rfl rfl rfl ?_
      refine v_iconst (n := 42) (v := 4) C dX11_beside_41 rfl (by decide) ?_
      refine v_irem (n := 43) C dX11_beside_42 rfl (by decide) ?_
      refine v_iconst (n := 44) (v := 3) C dX11_beside_43 rfl (by decide) ?_
      refine v_icmp_ge (t := 53) (n := 47) C dX11_beside_44 (by decide) rfl (fun c_11 => ?_) (fun c_11 => ?_)
      · skip
        refine v_iconst (n := 54) (v := -1) C dX11_beside_53 rfl (by decide) ?_
        exact v_iret C dX11_beside_54 rfl rfl ⟨by first | rfl | (simp only [beF, if_neg c_1, if_pos (Int32.not_lt.mp c_1), if_neg c_2, if_pos (Int32.not_le.mp c_2), if_neg c_5, if_pos c_10, if_pos c_11, if_neg (Int32.not_lt.mpr c_11)]; done) | simp [beF, c_1, c_2, c_5, c_10, c_11] , rfl⟩
      · skip
        refine v_iload_n (n := 48) C dX11_beside_47 rfl rfl rfl ?_
        refine v_iconst (n := 49) (v := 1) C dX11_beside_48 rfl (by decide) ?_
        refine v_iadd (n := 50) C dX11_beside_49 rfl ?_
        refine v_goto (t := 54) C dX11_beside_50 (by decide) ?_
        exact v_iret C dX11_beside_54 rfl rfl ⟨by first | rfl | (simp only [beF, if_neg c_1, if_pos (Int32.not_lt.mp c_1), if_neg c_2, if_pos (Int32.not_le.mp c_2), if_neg c_5, if_pos c_10, if_neg c_11, if_pos (Int32.not_le.mp c_11)]; done) | simp [beF, c_1, c_2, c_5, c_10, c_11] , rfl⟩
    by_cases c_12 : w = 1
    · refine v_tableIn (t := 55) C dX11_beside_10 (by rw [c_12]; decide) (by rw [c_12]; decide) (by rw [c_12]; rfl) (by decide) ?_
      refine v_iload_n (n := 56) C dX11_beside_55 rfl rfl rfl ?_
      refine v_iconst (n := 57) (v := 4) C dX11_beside_56 rfl (by decide) ?_
      refine v_iadd (n := 58) C dX11_beside_57 rfl ?_
      refine v_bipush (n := 60) (v := 12) C dX11_beside_58 rfl (by decide) ?_
      refine v_icmp_ge (t := 69) (n := 63) C dX11_beside_60 (by decide) rfl (fun c_13 => ?_) (fun c_13 => ?_)
      · skip
        refine v_iconst (n := 70) (v := -1) C dX11_beside_69 rfl (by decide) ?_
        exact v_iret C dX11_beside_70 rfl rfl ⟨by first | rfl | (simp only [beF, if_neg c_1, if_pos (Int32.not_lt.mp c_1), if_neg c_2, if_pos (Int32.not_le.mp c_2), if_neg c_5, if_neg c_10, if_pos c_12, if_pos c_13, if_neg (Int32.not_lt.mpr c_13)]; done) | simp [beF, c_1, c_2, c_5, c_10, c_12, c_13] , rfl⟩
      · skip
        refine v_iload_n (n := 64) C dX11_beside_63 rfl rfl rfl ?_
        refine v_iconst (n := 65) (v := 4) C dX11_beside_64 rfl (by decide) ?_
        refine v_iadd (n := 66) C dX11_beside_65 rfl ?_
        refine v_goto (t := 70) C dX11_beside_66 (by decide) ?_
        exact v_iret C dX11_beside_70 rfl rfl ⟨by first | rfl | (simp only [beF, if_neg c_1, if_pos (Int32.not_lt.mp c_1), if_neg c_2, if_pos (Int32.not_le.mp c_2), if_neg c_5, if_neg c_10, if_pos c_12, if_neg c_13, if_pos (Int32.not_le.mp c_13)]; done) | simp [beF, c_1, c_2, c_5, c_10, c_12, c_13] , rfl⟩
    by_cases c_14 : w = 2
    · refine v_tableIn (t := 71) C dX11_beside_10 (by rw [c_14]; decide) (by rw [c_14]; decide) (by rw [c_14]; rfl) (by decide) ?_
      refine v_iload_n (n := 72) C dX11_beside_71 rfl rfl rfl ?_
      refine v_iconst (n := 73) (v := 4) C dX11_beside_72 rfl (by decide) ?_
      refine v_irem (n := 74) C dX11_beside_73 rfl (by decide) ?_
      refine v_if_le (t := 83) (n := 77) C dX11_beside_74 (by decide) rfl (fun c_15 => ?_) (fun c_15 => ?_)
      · skip
        refine v_iconst (n := 84) (v := -1) C dX11_beside_83 rfl (by decide) ?_
        exact v_iret C dX11_beside_84 rfl rfl ⟨by first | rfl | (simp only [beF, if_neg c_1, if_pos (Int32.not_lt.mp c_1), if_neg c_2, if_pos (Int32.not_le.mp c_2), if_neg c_5, if_neg c_10, if_neg c_12, if_pos c_14, if_pos c_15, if_neg (Int32.not_lt.mpr c_15)]; done) | simp [beF, c_1, c_2, c_5, c_10, c_12, c_14, c_15] , rfl⟩
      · skip
        refine v_iload_n (n := 78) C dX11_beside_77 rfl rfl rfl ?_
        refine v_iconst (n := 79) (v := 1) C dX11_beside_78 rfl (by decide) ?_
        refine v_isub (n := 80) C dX11_beside_79 rfl ?_
        refine v_goto (t := 84) C dX11_beside_80 (by decide) ?_
        exact v_iret C dX11_beside_84 rfl rfl ⟨by first | rfl | (simp only [beF, if_neg c_1, if_pos (Int32.not_lt.mp c_1), if_neg c_2, if_pos (Int32.not_le.mp c_2), if_neg c_5, if_neg c_10, if_neg c_12, if_pos c_14, if_neg c_15, if_pos (Int32.not_le.mp c_15)]; done) | simp [beF, c_1, c_2, c_5, c_10, c_12, c_14, c_15] , rfl⟩
    by_cases c_16 : w = 3
    · refine v_tableIn (t := 85) C dX11_beside_10 (by rw [c_16]; decide) (by rw [c_16]; decide) (by rw [c_16]; rfl) (by decide) ?_
      refine v_iload_n (n := 86) C dX11_beside_85 rfl rfl rfl ?_
      refine v_iconst (n := 87) (v := 4) C dX11_beside_86 rfl (by decide) ?_
      refine v_isub (n := 88) C dX11_beside_87 rfl ?_
      refine v_if_lt (t := 97) (n := 91) C dX11_beside_88 (by decide) rfl (fun c_17 => ?_) (fun c_17 => ?_)
      · skip
        refine v_iconst (n := 98) (v := -1) C dX11_beside_97 rfl (by decide) ?_
        exact v_iret C dX11_beside_98 rfl rfl ⟨by first | rfl | (simp only [beF, if_neg c_1, if_pos (Int32.not_lt.mp c_1), if_neg c_2, if_pos (Int32.not_le.mp c_2), if_neg c_5, if_neg c_10, if_neg c_12, if_neg c_14, if_pos c_16, if_pos c_17, if_neg (Int32.not_le.mpr c_17)]; done) | simp [beF, c_1, c_2, c_5, c_10, c_12, c_14, c_16, c_17] , rfl⟩
      · skip
        refine v_iload_n (n := 92) C dX11_beside_91 rfl rfl rfl ?_
        refine v_iconst (n := 93) (v := 4) C dX11_beside_92 rfl (by decide) ?_
        refine v_isub (n := 94) C dX11_beside_93 rfl ?_
        refine v_goto (t := 98) C dX11_beside_94 (by decide) ?_
        exact v_iret C dX11_beside_98 rfl rfl ⟨by first | rfl | (simp only [beF, if_neg c_1, if_pos (Int32.not_lt.mp c_1), if_neg c_2, if_pos (Int32.not_le.mp c_2), if_neg c_5, if_neg c_10, if_neg c_12, if_neg c_14, if_pos c_16, if_neg c_17, if_pos (Int32.not_lt.mp c_17)]; done) | simp [beF, c_1, c_2, c_5, c_10, c_12, c_14, c_16, c_17] , rfl⟩
    refine v_tableOut (t := 99) C dX11_beside_10 (sw_out4 c_10 c_12 c_14 c_16) (by decide) ?_
    refine v_iconst (n := 100) (v := -1) C dX11_beside_99 rfl (by decide) ?_
    exact v_iret C dX11_beside_100 rfl rfl ⟨by first | rfl | (simp only [beF, if_neg c_1, if_pos (Int32.not_lt.mp c_1), if_neg c_2, if_pos (Int32.not_le.mp c_2), if_neg c_5, if_neg c_10, if_neg c_12, if_neg c_14, if_neg c_16]; done) | simp [beF, c_1, c_2, c_5, c_10, c_12, c_14, c_16] , rfl⟩
  · exact absurd c_5 (by decide)
/-- what a kind of hull answers -/
def kiN (k : Nat) : Int32 := match k with | 0 => 0 | 1 => 1 | 2 => 2 | 3 => 3 | _ => 4
def cornN (k : Nat) (dr : Int32) : Int32 := match k with | 0 => dr | 1 => dr - 1 | 2 => dr | 3 => 0 | _ => dr - 1
def withN (k : Nat) : Int32 := match k with | 3 => 2 | _ => 1
def acrN (k : Nat) : Int32 := match k with | 3 => 3 | _ => 2
def becN (k : Nat) : Int32 := match k with | 3 => 4 | 4 => 2 | _ => 3
def agN (k : Nat) : Int32 := match k with | 2 => 4 | 4 => 3 | _ => -1
set_option maxHeartbeats 4000000 in
set_option maxRecDepth 100000 in
theorem c_X4_kind (l : Launch) (D : va_G) (b : Nat) (es : List va_E) (j : Nat)  : Con l yX4_kind cX4_kind 1 (some .int) 0 0 D b 0 0 es [.ref (b + j)] (fun r es' => r = some (.int (0)) ∧ es = es') := by
  refine con_of (by decide) (Nat.le_of_ble_eq_true rfl) (fun p e s m args below meth c C hsz => ?_)
  have C : vC p s m args meth c cX4_kind 1 RX4 "kind" (some .int) D b := C
  change V p l e _ s m args below meth c D b 1 _ 0 0 es [(0, .ref (b + j))] [] 0
  refine v_iconst (n := 1) (v := 0) C dX4_kind_0 rfl (by decide) ?_
  exact v_iret C dX4_kind_1 rfl rfl ⟨by first | rfl | (simp only []; done) | simp [] , rfl⟩
set_option maxHeartbeats 4000000 in
set_option maxRecDepth 100000 in
theorem c_X10_kind (l : Launch) (D : va_G) (b : Nat) (es : List va_E) (j : Nat)  : Con l yX10_kind cX10_kind 1 (some .int) 0 0 D b 0 0 es [.ref (b + j)] (fun r es' => r = some (.int (1)) ∧ es = es') := by
  refine con_of (by decide) (Nat.le_of_ble_eq_true rfl) (fun p e s m args below meth c C hsz => ?_)
  have C : vC p s m args meth c cX10_kind 1 RX10 "kind" (some .int) D b := C
  change V p l e _ s m args below meth c D b 1 _ 0 0 es [(0, .ref (b + j))] [] 0
  refine v_iconst (n := 1) (v := 1) C dX10_kind_0 rfl (by decide) ?_
  exact v_iret C dX10_kind_1 rfl rfl ⟨by first | rfl | (simp only []; done) | simp [] , rfl⟩
set_option maxHeartbeats 4000000 in
set_option maxRecDepth 100000 in
theorem c_X2_kind (l : Launch) (D : va_G) (b : Nat) (es : List va_E) (j : Nat)  : Con l yX2_kind cX2_kind 1 (some .int) 0 0 D b 0 0 es [.ref (b + j)] (fun r es' => r = some (.int (2)) ∧ es = es') := by
  refine con_of (by decide) (Nat.le_of_ble_eq_true rfl) (fun p e s m args below meth c C hsz => ?_)
  have C : vC p s m args meth c cX2_kind 1 RX2 "kind" (some .int) D b := C
  change V p l e _ s m args below meth c D b 1 _ 0 0 es [(0, .ref (b + j))] [] 0
  refine v_iconst (n := 1) (v := 2) C dX2_kind_0 rfl (by decide) ?_
  exact v_iret C dX2_kind_1 rfl rfl ⟨by first | rfl | (simp only []; done) | simp [] , rfl⟩
set_option maxHeartbeats 4000000 in
set_option maxRecDepth 100000 in
theorem c_X9_kind (l : Launch) (D : va_G) (b : Nat) (es : List va_E) (j : Nat)  : Con l yX9_kind cX9_kind 1 (some .int) 0 0 D b 0 0 es [.ref (b + j)] (fun r es' => r = some (.int (3)) ∧ es = es') := by
  refine con_of (by decide) (Nat.le_of_ble_eq_true rfl) (fun p e s m args below meth c C hsz => ?_)
  have C : vC p s m args meth c cX9_kind 1 RX9 "kind" (some .int) D b := C
  change V p l e _ s m args below meth c D b 1 _ 0 0 es [(0, .ref (b + j))] [] 0
  refine v_iconst (n := 1) (v := 3) C dX9_kind_0 rfl (by decide) ?_
  exact v_iret C dX9_kind_1 rfl rfl ⟨by first | rfl | (simp only []; done) | simp [] , rfl⟩
set_option maxHeartbeats 4000000 in
set_option maxRecDepth 100000 in
theorem c_X1_kind (l : Launch) (D : va_G) (b : Nat) (es : List va_E) (j : Nat)  : Con l yX1_kind cX1_kind 1 (some .int) 0 0 D b 0 0 es [.ref (b + j)] (fun r es' => r = some (.int (4)) ∧ es = es') := by
  refine con_of (by decide) (Nat.le_of_ble_eq_true rfl) (fun p e s m args below meth c C hsz => ?_)
  have C : vC p s m args meth c cX1_kind 1 RX1 "kind" (some .int) D b := C
  change V p l e _ s m args below meth c D b 1 _ 0 0 es [(0, .ref (b + j))] [] 0
  refine v_iconst (n := 1) (v := 4) C dX1_kind_0 rfl (by decide) ?_
  exact v_iret C dX1_kind_1 rfl rfl ⟨by first | rfl | (simp only []; done) | simp [] , rfl⟩
set_option maxHeartbeats 4000000 in
set_option maxRecDepth 100000 in
theorem c_X4_hoursWith (l : Launch) (D : va_G) (b : Nat) (es : List va_E) (j : Nat)  : Con l yX4_hoursWith cX4_hoursWith 1 (some .int) 0 0 D b 0 0 es [.ref (b + j)] (fun r es' => r = some (.int (1)) ∧ es = es') := by
  refine con_of (by decide) (Nat.le_of_ble_eq_true rfl) (fun p e s m args below meth c C hsz => ?_)
  have C : vC p s m args meth c cX4_hoursWith 1 RX4 "hoursWith" (some .int) D b := C
  change V p l e _ s m args below meth c D b 1 _ 0 0 es [(0, .ref (b + j))] [] 0
  refine v_iconst (n := 1) (v := 1) C dX4_hoursWith_0 rfl (by decide) ?_
  exact v_iret C dX4_hoursWith_1 rfl rfl ⟨by first | rfl | (simp only []; done) | simp [] , rfl⟩
set_option maxHeartbeats 4000000 in
set_option maxRecDepth 100000 in
theorem c_X9_hoursWith (l : Launch) (D : va_G) (b : Nat) (es : List va_E) (j : Nat)  : Con l yX9_hoursWith cX9_hoursWith 1 (some .int) 0 0 D b 0 0 es [.ref (b + j)] (fun r es' => r = some (.int (2)) ∧ es = es') := by
  refine con_of (by decide) (Nat.le_of_ble_eq_true rfl) (fun p e s m args below meth c C hsz => ?_)
  have C : vC p s m args meth c cX9_hoursWith 1 RX9 "hoursWith" (some .int) D b := C
  change V p l e _ s m args below meth c D b 1 _ 0 0 es [(0, .ref (b + j))] [] 0
  refine v_iconst (n := 1) (v := 2) C dX9_hoursWith_0 rfl (by decide) ?_
  exact v_iret C dX9_hoursWith_1 rfl rfl ⟨by first | rfl | (simp only []; done) | simp [] , rfl⟩
set_option maxHeartbeats 4000000 in
set_option maxRecDepth 100000 in
theorem c_X4_hoursAcross (l : Launch) (D : va_G) (b : Nat) (es : List va_E) (j : Nat)  : Con l yX4_hoursAcross cX4_hoursAcross 1 (some .int) 0 0 D b 0 0 es [.ref (b + j)] (fun r es' => r = some (.int (2)) ∧ es = es') := by
  refine con_of (by decide) (Nat.le_of_ble_eq_true rfl) (fun p e s m args below meth c C hsz => ?_)
  have C : vC p s m args meth c cX4_hoursAcross 1 RX4 "hoursAcross" (some .int) D b := C
  change V p l e _ s m args below meth c D b 1 _ 0 0 es [(0, .ref (b + j))] [] 0
  refine v_iconst (n := 1) (v := 2) C dX4_hoursAcross_0 rfl (by decide) ?_
  exact v_iret C dX4_hoursAcross_1 rfl rfl ⟨by first | rfl | (simp only []; done) | simp [] , rfl⟩
set_option maxHeartbeats 4000000 in
set_option maxRecDepth 100000 in
theorem c_X9_hoursAcross (l : Launch) (D : va_G) (b : Nat) (es : List va_E) (j : Nat)  : Con l yX9_hoursAcross cX9_hoursAcross 1 (some .int) 0 0 D b 0 0 es [.ref (b + j)] (fun r es' => r = some (.int (3)) ∧ es = es') := by
  refine con_of (by decide) (Nat.le_of_ble_eq_true rfl) (fun p e s m args below meth c C hsz => ?_)
  have C : vC p s m args meth c cX9_hoursAcross 1 RX9 "hoursAcross" (some .int) D b := C
  change V p l e _ s m args below meth c D b 1 _ 0 0 es [(0, .ref (b + j))] [] 0
  refine v_iconst (n := 1) (v := 3) C dX9_hoursAcross_0 rfl (by decide) ?_
  exact v_iret C dX9_hoursAcross_1 rfl rfl ⟨by first | rfl | (simp only []; done) | simp [] , rfl⟩
set_option maxHeartbeats 4000000 in
set_option maxRecDepth 100000 in
theorem c_X4_hoursBecalmed (l : Launch) (D : va_G) (b : Nat) (es : List va_E) (j : Nat)  : Con l yX4_hoursBecalmed cX4_hoursBecalmed 1 (some .int) 0 0 D b 0 0 es [.ref (b + j)] (fun r es' => r = some (.int (3)) ∧ es = es') := by
  refine con_of (by decide) (Nat.le_of_ble_eq_true rfl) (fun p e s m args below meth c C hsz => ?_)
  have C : vC p s m args meth c cX4_hoursBecalmed 1 RX4 "hoursBecalmed" (some .int) D b := C
  change V p l e _ s m args below meth c D b 1 _ 0 0 es [(0, .ref (b + j))] [] 0
  refine v_iconst (n := 1) (v := 3) C dX4_hoursBecalmed_0 rfl (by decide) ?_
  exact v_iret C dX4_hoursBecalmed_1 rfl rfl ⟨by first | rfl | (simp only []; done) | simp [] , rfl⟩
set_option maxHeartbeats 4000000 in
set_option maxRecDepth 100000 in
theorem c_X9_hoursBecalmed (l : Launch) (D : va_G) (b : Nat) (es : List va_E) (j : Nat)  : Con l yX9_hoursBecalmed cX9_hoursBecalmed 1 (some .int) 0 0 D b 0 0 es [.ref (b + j)] (fun r es' => r = some (.int (4)) ∧ es = es') := by
  refine con_of (by decide) (Nat.le_of_ble_eq_true rfl) (fun p e s m args below meth c C hsz => ?_)
  have C : vC p s m args meth c cX9_hoursBecalmed 1 RX9 "hoursBecalmed" (some .int) D b := C
  change V p l e _ s m args below meth c D b 1 _ 0 0 es [(0, .ref (b + j))] [] 0
  refine v_iconst (n := 1) (v := 4) C dX9_hoursBecalmed_0 rfl (by decide) ?_
  exact v_iret C dX9_hoursBecalmed_1 rfl rfl ⟨by first | rfl | (simp only []; done) | simp [] , rfl⟩
set_option maxHeartbeats 4000000 in
set_option maxRecDepth 100000 in
theorem c_X1_hoursBecalmed (l : Launch) (D : va_G) (b : Nat) (es : List va_E) (j : Nat)  : Con l yX1_hoursBecalmed cX1_hoursBecalmed 1 (some .int) 0 0 D b 0 0 es [.ref (b + j)] (fun r es' => r = some (.int (2)) ∧ es = es') := by
  refine con_of (by decide) (Nat.le_of_ble_eq_true rfl) (fun p e s m args below meth c C hsz => ?_)
  have C : vC p s m args meth c cX1_hoursBecalmed 1 RX1 "hoursBecalmed" (some .int) D b := C
  change V p l e _ s m args below meth c D b 1 _ 0 0 es [(0, .ref (b + j))] [] 0
  refine v_iconst (n := 1) (v := 2) C dX1_hoursBecalmed_0 rfl (by decide) ?_
  exact v_iret C dX1_hoursBecalmed_1 rfl rfl ⟨by first | rfl | (simp only []; done) | simp [] , rfl⟩
set_option maxHeartbeats 4000000 in
set_option maxRecDepth 100000 in
theorem c_X4_hoursAgainst (l : Launch) (D : va_G) (b : Nat) (es : List va_E) (j : Nat)  : Con l yX4_hoursAgainst cX4_hoursAgainst 1 (some .int) 0 0 D b 0 0 es [.ref (b + j)] (fun r es' => r = some (.int ((-1))) ∧ es = es') := by
  refine con_of (by decide) (Nat.le_of_ble_eq_true rfl) (fun p e s m args below meth c C hsz => ?_)
  have C : vC p s m args meth c cX4_hoursAgainst 1 RX4 "hoursAgainst" (some .int) D b := C
  change V p l e _ s m args below meth c D b 1 _ 0 0 es [(0, .ref (b + j))] [] 0
  refine v_iconst (n := 1) (v := -1) C dX4_hoursAgainst_0 rfl (by decide) ?_
  exact v_iret C dX4_hoursAgainst_1 rfl rfl ⟨by first | rfl | (simp only []; done) | simp [] , rfl⟩
set_option maxHeartbeats 4000000 in
set_option maxRecDepth 100000 in
theorem c_X2_hoursAgainst (l : Launch) (D : va_G) (b : Nat) (es : List va_E) (j : Nat)  : Con l yX2_hoursAgainst cX2_hoursAgainst 1 (some .int) 0 0 D b 0 0 es [.ref (b + j)] (fun r es' => r = some (.int (4)) ∧ es = es') := by
  refine con_of (by decide) (Nat.le_of_ble_eq_true rfl) (fun p e s m args below meth c C hsz => ?_)
  have C : vC p s m args meth c cX2_hoursAgainst 1 RX2 "hoursAgainst" (some .int) D b := C
  change V p l e _ s m args below meth c D b 1 _ 0 0 es [(0, .ref (b + j))] [] 0
  refine v_iconst (n := 1) (v := 4) C dX2_hoursAgainst_0 rfl (by decide) ?_
  exact v_iret C dX2_hoursAgainst_1 rfl rfl ⟨by first | rfl | (simp only []; done) | simp [] , rfl⟩
set_option maxHeartbeats 4000000 in
set_option maxRecDepth 100000 in
theorem c_X1_hoursAgainst (l : Launch) (D : va_G) (b : Nat) (es : List va_E) (j : Nat)  : Con l yX1_hoursAgainst cX1_hoursAgainst 1 (some .int) 0 0 D b 0 0 es [.ref (b + j)] (fun r es' => r = some (.int (3)) ∧ es = es') := by
  refine con_of (by decide) (Nat.le_of_ble_eq_true rfl) (fun p e s m args below meth c C hsz => ?_)
  have C : vC p s m args meth c cX1_hoursAgainst 1 RX1 "hoursAgainst" (some .int) D b := C
  change V p l e _ s m args below meth c D b 1 _ 0 0 es [(0, .ref (b + j))] [] 0
  refine v_iconst (n := 1) (v := 3) C dX1_hoursAgainst_0 rfl (by decide) ?_
  exact v_iret C dX1_hoursAgainst_1 rfl rfl ⟨by first | rfl | (simp only []; done) | simp [] , rfl⟩
set_option maxHeartbeats 4000000 in
set_option maxRecDepth 100000 in
theorem c_X9_cornNeeded (l : Launch) (D : va_G) (b : Nat) (es : List va_E) (j : Nat)  : Con l yX9_cornNeeded cX9_cornNeeded 1 (some .int) 0 0 D b 0 0 es [.ref (b + j)] (fun r es' => r = some (.int (0)) ∧ es = es') := by
  refine con_of (by decide) (Nat.le_of_ble_eq_true rfl) (fun p e s m args below meth c C hsz => ?_)
  have C : vC p s m args meth c cX9_cornNeeded 1 RX9 "cornNeeded" (some .int) D b := C
  change V p l e _ s m args below meth c D b 1 _ 0 0 es [(0, .ref (b + j))] [] 0
  refine v_iconst (n := 1) (v := 0) C dX9_cornNeeded_0 rfl (by decide) ?_
  exact v_iret C dX9_cornNeeded_1 rfl rfl ⟨by first | rfl | (simp only []; done) | simp [] , rfl⟩
set_option maxHeartbeats 4000000 in
set_option maxRecDepth 100000 in
theorem c_X4_cornNeeded (l : Launch) (D : va_G) (b : Nat) (es : List va_E) (j : Nat) (ci : Nat) (dr ce sa : Int32) (F : FL RX4 9 ci 0) (he : es[j]? = some (.inr (ci, [.int dr, .int ce, .int sa]))) : Con l yX4_cornNeeded cX4_cornNeeded 1 (some .int) 0 0 D b 0 0 es [.ref (b + j)] (fun r es' => r = some (.int (dr)) ∧ es = es') := by
  refine con_of (by decide) (Nat.le_of_ble_eq_true rfl) (fun p e s m args below meth c C hsz => ?_)
  have C : vC p s m args meth c cX4_cornNeeded 1 RX4 "cornNeeded" (some .int) D b := C
  change V p l e _ s m args below meth c D b 1 _ 0 0 es [(0, .ref (b + j))] [] 0
  refine v_aload_n (n := 1) C dX4_cornNeeded_0 rfl rfl rfl ?_
  refine v_get (n := 4) C dX4_cornNeeded_1 rfl F he rfl ?_
  exact v_iret C dX4_cornNeeded_4 rfl rfl ⟨by first | rfl | (simp only []; done) | simp [] , rfl⟩
set_option maxHeartbeats 4000000 in
set_option maxRecDepth 100000 in
theorem c_X10_cornNeeded (l : Launch) (D : va_G) (b : Nat) (es : List va_E) (j : Nat) (ci : Nat) (dr ce sa : Int32) (F : FL RX10 7 ci 0) (he : es[j]? = some (.inr (ci, [.int dr, .int ce, .int sa]))) : Con l yX10_cornNeeded cX10_cornNeeded 1 (some .int) 0 0 D b 0 0 es [.ref (b + j)] (fun r es' => r = some (.int ((dr - 1))) ∧ es = es') := by
  refine con_of (by decide) (Nat.le_of_ble_eq_true rfl) (fun p e s m args below meth c C hsz => ?_)
  have C : vC p s m args meth c cX10_cornNeeded 1 RX10 "cornNeeded" (some .int) D b := C
  change V p l e _ s m args below meth c D b 1 _ 0 0 es [(0, .ref (b + j))] [] 0
  refine v_aload_n (n := 1) C dX10_cornNeeded_0 rfl rfl rfl ?_
  refine v_get (n := 4) C dX10_cornNeeded_1 rfl F he rfl ?_
  refine v_iconst (n := 5) (v := 1) C dX10_cornNeeded_4 rfl (by decide) ?_
  refine v_isub (n := 6) C dX10_cornNeeded_5 rfl ?_
  exact v_iret C dX10_cornNeeded_6 rfl rfl ⟨by first | rfl | (simp only []; done) | simp [] , rfl⟩
theorem vr_X4_18 {p : Program} {l : Launch} {e : Env} {R : Room} {s : State} {m : MethodId} {args : Array Value} {below : List Frame} {meth : Method} {c : Code} {D : va_G} {b nL : Nat} {cells slots : Nat} {es : List va_E} {rest : List Value} {pc : Nat} {cc : ByteArray} {nm : String} {ret : Option FieldType} (C : vC p s m args meth c cc nL RX4 nm ret D b) {k j : Nat} {dr ce sa : Int32}  (hk : k < 5) (he : es[j]? = some (hcl k dr ce sa)) (hdg : decode cc pc = .ok (.invokevirtual 18, 3)) (hR : 1 ≤ R.frames ∧ 20 ≤ R.locals) (hf : cells ≤ R.cells ∧ slots ≤ R.slots) (hW : (rest.map fun v => v.category).sum ≤ 8) : vRun p l e R s m args below meth c D b nL cells slots es rest (.ref (b + j) :: rest) pc 0 0 (fun r es' => r = some (.int (becN k)) ∧ es = es') := by
  match k, hk, he with
  | 0, _, he => exact vRun_V (As := []) C he rfl lk_X4_18 im_X4_hoursBecalmed se_X4_hoursBecalmed hdg (c_X4_hoursBecalmed l D b es j) wm_X4_hoursBecalmed rfl rfl ⟨Nat.le_trans (Nat.le_of_ble_eq_true rfl) hR.1, Nat.le_trans (Nat.le_of_ble_eq_true rfl) hR.2⟩ hf hW
  | 1, _, he => exact vRun_U (As := []) (owner := "WheatSea$Hull") (x := ⟨"WheatSea$Hull", "hoursBecalmed", "()I"⟩) C he rfl vw_X4_18_X10 rfl ⟨by decide, by decide, by decide +kernel⟩ hdg (c_X4_hoursBecalmed l D b es j) wm_X4_hoursBecalmed rfl rfl ⟨Nat.le_trans (Nat.le_of_ble_eq_true rfl) hR.1, Nat.le_trans (Nat.le_of_ble_eq_true rfl) hR.2⟩ hf hW
  | 2, _, he => exact vRun_U (As := []) (owner := "WheatSea$Hull") (x := ⟨"WheatSea$Hull", "hoursBecalmed", "()I"⟩) C he rfl vw_X4_18_X2 rfl ⟨by decide, by decide, by decide +kernel⟩ hdg (c_X4_hoursBecalmed l D b es j) wm_X4_hoursBecalmed rfl rfl ⟨Nat.le_trans (Nat.le_of_ble_eq_true rfl) hR.1, Nat.le_trans (Nat.le_of_ble_eq_true rfl) hR.2⟩ hf hW
  | 3, _, he => exact vRun_O (As := []) (owner := "WheatSea$Hull") (x := ⟨"WheatSea$Hull", "hoursBecalmed", "()I"⟩) C he rfl vw_X4_18_X9 wm_X4_hoursBecalmed.1 ⟨by decide, by decide, by decide +kernel⟩ hdg (c_X9_hoursBecalmed l D b es j) wm_X9_hoursBecalmed rfl rfl ⟨Nat.le_trans (Nat.le_of_ble_eq_true rfl) hR.1, Nat.le_trans (Nat.le_of_ble_eq_true rfl) hR.2⟩ hf hW
  | 4, _, he => exact vRun_O (As := []) (owner := "WheatSea$Hull") (x := ⟨"WheatSea$Hull", "hoursBecalmed", "()I"⟩) C he rfl vw_X4_18_X1 wm_X4_hoursBecalmed.1 ⟨by decide, by decide, by decide +kernel⟩ hdg (c_X1_hoursBecalmed l D b es j) wm_X1_hoursBecalmed rfl rfl ⟨Nat.le_trans (Nat.le_of_ble_eq_true rfl) hR.1, Nat.le_trans (Nat.le_of_ble_eq_true rfl) hR.2⟩ hf hW
theorem vr_X4_22 {p : Program} {l : Launch} {e : Env} {R : Room} {s : State} {m : MethodId} {args : Array Value} {below : List Frame} {meth : Method} {c : Code} {D : va_G} {b nL : Nat} {cells slots : Nat} {es : List va_E} {rest : List Value} {pc : Nat} {cc : ByteArray} {nm : String} {ret : Option FieldType} (C : vC p s m args meth c cc nL RX4 nm ret D b) {k j : Nat} {dr ce sa : Int32}  (hk : k < 5) (he : es[j]? = some (hcl k dr ce sa)) (hdg : decode cc pc = .ok (.invokevirtual 22, 3)) (hR : 1 ≤ R.frames ∧ 20 ≤ R.locals) (hf : cells ≤ R.cells ∧ slots ≤ R.slots) (hW : (rest.map fun v => v.category).sum ≤ 8) : vRun p l e R s m args below meth c D b nL cells slots es rest (.ref (b + j) :: rest) pc 0 0 (fun r es' => r = some (.int (withN k)) ∧ es = es') := by
  match k, hk, he with
  | 0, _, he => exact vRun_V (As := []) C he rfl lk_X4_22 im_X4_hoursWith se_X4_hoursWith hdg (c_X4_hoursWith l D b es j) wm_X4_hoursWith rfl rfl ⟨Nat.le_trans (Nat.le_of_ble_eq_true rfl) hR.1, Nat.le_trans (Nat.le_of_ble_eq_true rfl) hR.2⟩ hf hW
  | 1, _, he => exact vRun_U (As := []) (owner := "WheatSea$Hull") (x := ⟨"WheatSea$Hull", "hoursWith", "()I"⟩) C he rfl vw_X4_22_X10 rfl ⟨by decide, by decide, by decide +kernel⟩ hdg (c_X4_hoursWith l D b es j) wm_X4_hoursWith rfl rfl ⟨Nat.le_trans (Nat.le_of_ble_eq_true rfl) hR.1, Nat.le_trans (Nat.le_of_ble_eq_true rfl) hR.2⟩ hf hW
  | 2, _, he => exact vRun_U (As := []) (owner := "WheatSea$Hull") (x := ⟨"WheatSea$Hull", "hoursWith", "()I"⟩) C he rfl vw_X4_22_X2 rfl ⟨by decide, by decide, by decide +kernel⟩ hdg (c_X4_hoursWith l D b es j) wm_X4_hoursWith rfl rfl ⟨Nat.le_trans (Nat.le_of_ble_eq_true rfl) hR.1, Nat.le_trans (Nat.le_of_ble_eq_true rfl) hR.2⟩ hf hW
  | 3, _, he => exact vRun_O (As := []) (owner := "WheatSea$Hull") (x := ⟨"WheatSea$Hull", "hoursWith", "()I"⟩) C he rfl vw_X4_22_X9 wm_X4_hoursWith.1 ⟨by decide, by decide, by decide +kernel⟩ hdg (c_X9_hoursWith l D b es j) wm_X9_hoursWith rfl rfl ⟨Nat.le_trans (Nat.le_of_ble_eq_true rfl) hR.1, Nat.le_trans (Nat.le_of_ble_eq_true rfl) hR.2⟩ hf hW
  | 4, _, he => exact vRun_U (As := []) (owner := "WheatSea$Hull") (x := ⟨"WheatSea$Hull", "hoursWith", "()I"⟩) C he rfl vw_X4_22_X1 rfl ⟨by decide, by decide, by decide +kernel⟩ hdg (c_X4_hoursWith l D b es j) wm_X4_hoursWith rfl rfl ⟨Nat.le_trans (Nat.le_of_ble_eq_true rfl) hR.1, Nat.le_trans (Nat.le_of_ble_eq_true rfl) hR.2⟩ hf hW
theorem vr_X4_25 {p : Program} {l : Launch} {e : Env} {R : Room} {s : State} {m : MethodId} {args : Array Value} {below : List Frame} {meth : Method} {c : Code} {D : va_G} {b nL : Nat} {cells slots : Nat} {es : List va_E} {rest : List Value} {pc : Nat} {cc : ByteArray} {nm : String} {ret : Option FieldType} (C : vC p s m args meth c cc nL RX4 nm ret D b) {k j : Nat} {dr ce sa : Int32}  (hk : k < 5) (he : es[j]? = some (hcl k dr ce sa)) (hdg : decode cc pc = .ok (.invokevirtual 25, 3)) (hR : 1 ≤ R.frames ∧ 20 ≤ R.locals) (hf : cells ≤ R.cells ∧ slots ≤ R.slots) (hW : (rest.map fun v => v.category).sum ≤ 8) : vRun p l e R s m args below meth c D b nL cells slots es rest (.ref (b + j) :: rest) pc 0 0 (fun r es' => r = some (.int (agN k)) ∧ es = es') := by
  match k, hk, he with
  | 0, _, he => exact vRun_V (As := []) C he rfl lk_X4_25 im_X4_hoursAgainst se_X4_hoursAgainst hdg (c_X4_hoursAgainst l D b es j) wm_X4_hoursAgainst rfl rfl ⟨Nat.le_trans (Nat.le_of_ble_eq_true rfl) hR.1, Nat.le_trans (Nat.le_of_ble_eq_true rfl) hR.2⟩ hf hW
  | 1, _, he => exact vRun_U (As := []) (owner := "WheatSea$Hull") (x := ⟨"WheatSea$Hull", "hoursAgainst", "()I"⟩) C he rfl vw_X4_25_X10 rfl ⟨by decide, by decide, by decide +kernel⟩ hdg (c_X4_hoursAgainst l D b es j) wm_X4_hoursAgainst rfl rfl ⟨Nat.le_trans (Nat.le_of_ble_eq_true rfl) hR.1, Nat.le_trans (Nat.le_of_ble_eq_true rfl) hR.2⟩ hf hW
  | 2, _, he => exact vRun_O (As := []) (owner := "WheatSea$Hull") (x := ⟨"WheatSea$Hull", "hoursAgainst", "()I"⟩) C he rfl vw_X4_25_X2 wm_X4_hoursAgainst.1 ⟨by decide, by decide, by decide +kernel⟩ hdg (c_X2_hoursAgainst l D b es j) wm_X2_hoursAgainst rfl rfl ⟨Nat.le_trans (Nat.le_of_ble_eq_true rfl) hR.1, Nat.le_trans (Nat.le_of_ble_eq_true rfl) hR.2⟩ hf hW
  | 3, _, he => exact vRun_U (As := []) (owner := "WheatSea$Hull") (x := ⟨"WheatSea$Hull", "hoursAgainst", "()I"⟩) C he rfl vw_X4_25_X9 rfl ⟨by decide, by decide, by decide +kernel⟩ hdg (c_X4_hoursAgainst l D b es j) wm_X4_hoursAgainst rfl rfl ⟨Nat.le_trans (Nat.le_of_ble_eq_true rfl) hR.1, Nat.le_trans (Nat.le_of_ble_eq_true rfl) hR.2⟩ hf hW
  | 4, _, he => exact vRun_O (As := []) (owner := "WheatSea$Hull") (x := ⟨"WheatSea$Hull", "hoursAgainst", "()I"⟩) C he rfl vw_X4_25_X1 wm_X4_hoursAgainst.1 ⟨by decide, by decide, by decide +kernel⟩ hdg (c_X1_hoursAgainst l D b es j) wm_X1_hoursAgainst rfl rfl ⟨Nat.le_trans (Nat.le_of_ble_eq_true rfl) hR.1, Nat.le_trans (Nat.le_of_ble_eq_true rfl) hR.2⟩ hf hW
theorem vr_X4_28 {p : Program} {l : Launch} {e : Env} {R : Room} {s : State} {m : MethodId} {args : Array Value} {below : List Frame} {meth : Method} {c : Code} {D : va_G} {b nL : Nat} {cells slots : Nat} {es : List va_E} {rest : List Value} {pc : Nat} {cc : ByteArray} {nm : String} {ret : Option FieldType} (C : vC p s m args meth c cc nL RX4 nm ret D b) {k j : Nat} {dr ce sa : Int32}  (hk : k < 5) (he : es[j]? = some (hcl k dr ce sa)) (hdg : decode cc pc = .ok (.invokevirtual 28, 3)) (hR : 1 ≤ R.frames ∧ 20 ≤ R.locals) (hf : cells ≤ R.cells ∧ slots ≤ R.slots) (hW : (rest.map fun v => v.category).sum ≤ 8) : vRun p l e R s m args below meth c D b nL cells slots es rest (.ref (b + j) :: rest) pc 0 0 (fun r es' => r = some (.int (acrN k)) ∧ es = es') := by
  match k, hk, he with
  | 0, _, he => exact vRun_V (As := []) C he rfl lk_X4_28 im_X4_hoursAcross se_X4_hoursAcross hdg (c_X4_hoursAcross l D b es j) wm_X4_hoursAcross rfl rfl ⟨Nat.le_trans (Nat.le_of_ble_eq_true rfl) hR.1, Nat.le_trans (Nat.le_of_ble_eq_true rfl) hR.2⟩ hf hW
  | 1, _, he => exact vRun_U (As := []) (owner := "WheatSea$Hull") (x := ⟨"WheatSea$Hull", "hoursAcross", "()I"⟩) C he rfl vw_X4_28_X10 rfl ⟨by decide, by decide, by decide +kernel⟩ hdg (c_X4_hoursAcross l D b es j) wm_X4_hoursAcross rfl rfl ⟨Nat.le_trans (Nat.le_of_ble_eq_true rfl) hR.1, Nat.le_trans (Nat.le_of_ble_eq_true rfl) hR.2⟩ hf hW
  | 2, _, he => exact vRun_U (As := []) (owner := "WheatSea$Hull") (x := ⟨"WheatSea$Hull", "hoursAcross", "()I"⟩) C he rfl vw_X4_28_X2 rfl ⟨by decide, by decide, by decide +kernel⟩ hdg (c_X4_hoursAcross l D b es j) wm_X4_hoursAcross rfl rfl ⟨Nat.le_trans (Nat.le_of_ble_eq_true rfl) hR.1, Nat.le_trans (Nat.le_of_ble_eq_true rfl) hR.2⟩ hf hW
  | 3, _, he => exact vRun_O (As := []) (owner := "WheatSea$Hull") (x := ⟨"WheatSea$Hull", "hoursAcross", "()I"⟩) C he rfl vw_X4_28_X9 wm_X4_hoursAcross.1 ⟨by decide, by decide, by decide +kernel⟩ hdg (c_X9_hoursAcross l D b es j) wm_X9_hoursAcross rfl rfl ⟨Nat.le_trans (Nat.le_of_ble_eq_true rfl) hR.1, Nat.le_trans (Nat.le_of_ble_eq_true rfl) hR.2⟩ hf hW
  | 4, _, he => exact vRun_U (As := []) (owner := "WheatSea$Hull") (x := ⟨"WheatSea$Hull", "hoursAcross", "()I"⟩) C he rfl vw_X4_28_X1 rfl ⟨by decide, by decide, by decide +kernel⟩ hdg (c_X4_hoursAcross l D b es j) wm_X4_hoursAcross rfl rfl ⟨Nat.le_trans (Nat.le_of_ble_eq_true rfl) hR.1, Nat.le_trans (Nat.le_of_ble_eq_true rfl) hR.2⟩ hf hW
theorem vr_X7_26 {p : Program} {l : Launch} {e : Env} {R : Room} {s : State} {m : MethodId} {args : Array Value} {below : List Frame} {meth : Method} {c : Code} {D : va_G} {b nL : Nat} {cells slots : Nat} {es : List va_E} {rest : List Value} {pc : Nat} {cc : ByteArray} {nm : String} {ret : Option FieldType} (C : vC p s m args meth c cc nL RX7 nm ret D b) {k j : Nat} {dr ce sa : Int32}  (hk : k < 5) (he : es[j]? = some (hcl k dr ce sa)) (hdg : decode cc pc = .ok (.invokevirtual 26, 3)) (hR : 1 ≤ R.frames ∧ 20 ≤ R.locals) (hf : cells ≤ R.cells ∧ slots ≤ R.slots) (hW : (rest.map fun v => v.category).sum ≤ 8) : vRun p l e R s m args below meth c D b nL cells slots es rest (.ref (b + j) :: rest) pc 0 0 (fun r es' => r = some (.int (cornN k dr)) ∧ es = es') := by
  match k, hk, he with
  | 0, _, he => exact vRun_V (As := []) C he rfl lk_X7_26 im_X4_cornNeeded se_X4_cornNeeded hdg (c_X4_cornNeeded l D b es j _ dr ce sa fl_X4_9_X4 he) wm_X4_cornNeeded rfl rfl ⟨Nat.le_trans (Nat.le_of_ble_eq_true rfl) hR.1, Nat.le_trans (Nat.le_of_ble_eq_true rfl) hR.2⟩ hf hW
  | 1, _, he => exact vRun_O (As := []) (owner := "WheatSea$Hull") (x := ⟨"WheatSea$Hull", "cornNeeded", "()I"⟩) C he rfl vw_X7_26_X10 wm_X4_cornNeeded.1 ⟨by decide, by decide, by decide +kernel⟩ hdg (c_X10_cornNeeded l D b es j _ dr ce sa fl_X10_7_X10 he) wm_X10_cornNeeded rfl rfl ⟨Nat.le_trans (Nat.le_of_ble_eq_true rfl) hR.1, Nat.le_trans (Nat.le_of_ble_eq_true rfl) hR.2⟩ hf hW
  | 2, _, he => exact vRun_U (As := []) (owner := "WheatSea$Hull") (x := ⟨"WheatSea$Hull", "cornNeeded", "()I"⟩) C he rfl vw_X7_26_X2 rfl ⟨by decide, by decide, by decide +kernel⟩ hdg (c_X4_cornNeeded l D b es j _ dr ce sa fl_X4_9_X2 he) wm_X4_cornNeeded rfl rfl ⟨Nat.le_trans (Nat.le_of_ble_eq_true rfl) hR.1, Nat.le_trans (Nat.le_of_ble_eq_true rfl) hR.2⟩ hf hW
  | 3, _, he => exact vRun_O (As := []) (owner := "WheatSea$Hull") (x := ⟨"WheatSea$Hull", "cornNeeded", "()I"⟩) C he rfl vw_X7_26_X9 wm_X4_cornNeeded.1 ⟨by decide, by decide, by decide +kernel⟩ hdg (c_X9_cornNeeded l D b es j) wm_X9_cornNeeded rfl rfl ⟨Nat.le_trans (Nat.le_of_ble_eq_true rfl) hR.1, Nat.le_trans (Nat.le_of_ble_eq_true rfl) hR.2⟩ hf hW
  | 4, _, he => exact vRun_O (As := []) (owner := "WheatSea$Hull") (x := ⟨"WheatSea$Hull", "cornNeeded", "()I"⟩) C he rfl vw_X7_26_X1 wm_X4_cornNeeded.1 ⟨by decide, by decide, by decide +kernel⟩ hdg (c_X10_cornNeeded l D b es j _ dr ce sa fl_X10_7_X1 he) wm_X10_cornNeeded rfl rfl ⟨Nat.le_trans (Nat.le_of_ble_eq_true rfl) hR.1, Nat.le_trans (Nat.le_of_ble_eq_true rfl) hR.2⟩ hf hW
theorem vr_X11_137 {p : Program} {l : Launch} {e : Env} {R : Room} {s : State} {m : MethodId} {args : Array Value} {below : List Frame} {meth : Method} {c : Code} {D : va_G} {b nL : Nat} {cells slots : Nat} {es : List va_E} {rest : List Value} {pc : Nat} {cc : ByteArray} {nm : String} {ret : Option FieldType} (C : vC p s m args meth c cc nL RX11 nm ret D b) {k j : Nat} {dr ce sa : Int32}  (hk : k < 5) (he : es[j]? = some (hcl k dr ce sa)) (hdg : decode cc pc = .ok (.invokevirtual 137, 3)) (hR : 1 ≤ R.frames ∧ 20 ≤ R.locals) (hf : cells ≤ R.cells ∧ slots ≤ R.slots) (hW : (rest.map fun v => v.category).sum ≤ 8) : vRun p l e R s m args below meth c D b nL cells slots es rest (.ref (b + j) :: rest) pc 0 0 (fun r es' => r = some (.int (kiN k)) ∧ es = es') := by
  match k, hk, he with
  | 0, _, he => exact vRun_V (As := []) C he rfl lk_X11_137 im_X4_kind se_X4_kind hdg (c_X4_kind l D b es j) wm_X4_kind rfl rfl ⟨Nat.le_trans (Nat.le_of_ble_eq_true rfl) hR.1, Nat.le_trans (Nat.le_of_ble_eq_true rfl) hR.2⟩ hf hW
  | 1, _, he => exact vRun_O (As := []) (owner := "WheatSea$Hull") (x := ⟨"WheatSea$Hull", "kind", "()I"⟩) C he rfl vw_X11_137_X10 wm_X4_kind.1 ⟨by decide, by decide, by decide +kernel⟩ hdg (c_X10_kind l D b es j) wm_X10_kind rfl rfl ⟨Nat.le_trans (Nat.le_of_ble_eq_true rfl) hR.1, Nat.le_trans (Nat.le_of_ble_eq_true rfl) hR.2⟩ hf hW
  | 2, _, he => exact vRun_O (As := []) (owner := "WheatSea$Hull") (x := ⟨"WheatSea$Hull", "kind", "()I"⟩) C he rfl vw_X11_137_X2 wm_X4_kind.1 ⟨by decide, by decide, by decide +kernel⟩ hdg (c_X2_kind l D b es j) wm_X2_kind rfl rfl ⟨Nat.le_trans (Nat.le_of_ble_eq_true rfl) hR.1, Nat.le_trans (Nat.le_of_ble_eq_true rfl) hR.2⟩ hf hW
  | 3, _, he => exact vRun_O (As := []) (owner := "WheatSea$Hull") (x := ⟨"WheatSea$Hull", "kind", "()I"⟩) C he rfl vw_X11_137_X9 wm_X4_kind.1 ⟨by decide, by decide, by decide +kernel⟩ hdg (c_X9_kind l D b es j) wm_X9_kind rfl rfl ⟨Nat.le_trans (Nat.le_of_ble_eq_true rfl) hR.1, Nat.le_trans (Nat.le_of_ble_eq_true rfl) hR.2⟩ hf hW
  | 4, _, he => exact vRun_O (As := []) (owner := "WheatSea$Hull") (x := ⟨"WheatSea$Hull", "kind", "()I"⟩) C he rfl vw_X11_137_X1 wm_X4_kind.1 ⟨by decide, by decide, by decide +kernel⟩ hdg (c_X1_kind l D b es j) wm_X1_kind rfl rfl ⟨Nat.le_trans (Nat.le_of_ble_eq_true rfl) hR.1, Nat.le_trans (Nat.le_of_ble_eq_true rfl) hR.2⟩ hf hW
/-- hoursFor -/
def hfF (k : Nat) (w wd : Int32) : Int32 := if wd = 4 then becN k else if w = wd then withN k else if w = wd + 2 then agN k else if w = wd - 2 then agN k else acrN k
set_option maxHeartbeats 4000000 in
set_option maxRecDepth 100000 in
theorem c_X4_hoursFor (l : Launch) (D : va_G) (b : Nat) (es : List va_E) (j k : Nat) (dr ce sa w wd : Int32) (hk : k < 5) (he : es[j]? = some (hcl k dr ce sa)) : Con l yX4_hoursFor cX4_hoursFor 3 (some .int) 1 20 D b 0 0 es [.ref (b + j), .int w, .int wd] (fun r es' => r = some (.int (hfF k w wd)) ∧ es = es') := by
  refine con_of (by decide) (Nat.le_of_ble_eq_true rfl) (fun p e s m args below meth c C hsz => ?_)
  have C : vC p s m args meth c cX4_hoursFor 3 RX4 "hoursFor" (some .int) D b := C
  change V p l e _ s m args below meth c D b 3 _ 0 0 es [(0, .ref (b + j)), (1, .int w), (2, .int wd)] [] 0
  refine v_iload_n (n := 1) C dX4_hoursFor_0 rfl rfl rfl ?_
  refine v_iconst (n := 2) (v := 4) C dX4_hoursFor_1 rfl (by decide) ?_
  refine v_icmp_ne (t := 10) (n := 5) C dX4_hoursFor_2 (by decide) rfl (fun c_1 => ?_) (fun c_1 => ?_)
  · skip
    refine v_iload_n (n := 11) C dX4_hoursFor_10 rfl rfl rfl ?_
    refine v_iload_n (n := 12) C dX4_hoursFor_11 rfl rfl rfl ?_
    refine v_icmp_ne (t := 20) (n := 15) C dX4_hoursFor_12 (by decide) rfl (fun c_2 => ?_) (fun c_2 => ?_)
    · skip
      refine v_iload_n (n := 21) C dX4_hoursFor_20 rfl rfl rfl ?_
      refine v_iload_n (n := 22) C dX4_hoursFor_21 rfl rfl rfl ?_
      refine v_iconst (n := 23) (v := 2) C dX4_hoursFor_22 rfl (by decide) ?_
      refine v_iadd (n := 24) C dX4_hoursFor_23 rfl ?_
      refine v_icmp_eq (t := 34) (n := 27) C dX4_hoursFor_24 (by decide) rfl (fun c_3 => ?_) (fun c_3 => ?_)
      · skip
        refine v_aload_n (n := 35) C dX4_hoursFor_34 rfl rfl rfl ?_
        refine v_go (n := 38) C (vr_X4_25 (rest := []) C hk he dX4_hoursFor_35 ⟨Nat.le_of_ble_eq_true rfl, Nat.le_of_ble_eq_true rfl⟩ ⟨Nat.le_of_ble_eq_true rfl, Nat.le_of_ble_eq_true rfl⟩ (Nat.le_of_ble_eq_true rfl)) rfl ?_
        rintro _ _ ⟨rfl, rfl⟩ -
        exact v_iret C dX4_hoursFor_38 rfl rfl ⟨by first | rfl | (simp only [hfF, if_neg c_1, if_neg c_2, if_neg (fun h => c_2 (Eq.symm h)), if_pos c_3, if_pos (Eq.symm c_3)]; done) | simp [hfF, c_1, c_2, c_3] , rfl⟩
      · skip
        refine v_iload_n (n := 28) C dX4_hoursFor_27 rfl rfl rfl ?_
        refine v_iload_n (n := 29) C dX4_hoursFor_28 rfl rfl rfl ?_
        refine v_iconst (n := 30) (v := 2) C dX4_hoursFor_29 rfl (by decide) ?_
        refine v_isub (n := 31) C dX4_hoursFor_30 rfl ?_
        refine v_icmp_ne (t := 39) (n := 34) C dX4_hoursFor_31 (by decide) rfl (fun c_4 => ?_) (fun c_4 => ?_)
        · skip
          refine v_aload_n (n := 40) C dX4_hoursFor_39 rfl rfl rfl ?_
          refine v_go (n := 43) C (vr_X4_28 (rest := []) C hk he dX4_hoursFor_40 ⟨Nat.le_of_ble_eq_true rfl, Nat.le_of_ble_eq_true rfl⟩ ⟨Nat.le_of_ble_eq_true rfl, Nat.le_of_ble_eq_true rfl⟩ (Nat.le_of_ble_eq_true rfl)) rfl ?_
          rintro _ _ ⟨rfl, rfl⟩ -
          exact v_iret C dX4_hoursFor_43 rfl rfl ⟨by first | rfl | (simp only [hfF, if_neg c_1, if_neg c_2, if_neg (fun h => c_2 (Eq.symm h)), if_neg c_3, if_neg (fun h => c_3 (Eq.symm h)), if_neg c_4, if_neg (fun h => c_4 (Eq.symm h))]; done) | simp [hfF, c_1, c_2, c_3, c_4] , rfl⟩
        · skip
          refine v_aload_n (n := 35) C dX4_hoursFor_34 rfl rfl rfl ?_
          refine v_go (n := 38) C (vr_X4_25 (rest := []) C hk he dX4_hoursFor_35 ⟨Nat.le_of_ble_eq_true rfl, Nat.le_of_ble_eq_true rfl⟩ ⟨Nat.le_of_ble_eq_true rfl, Nat.le_of_ble_eq_true rfl⟩ (Nat.le_of_ble_eq_true rfl)) rfl ?_
          rintro _ _ ⟨rfl, rfl⟩ -
          exact v_iret C dX4_hoursFor_38 rfl rfl ⟨by first | rfl | (simp only [hfF, if_neg c_1, if_neg c_2, if_neg (fun h => c_2 (Eq.symm h)), if_neg c_3, if_neg (fun h => c_3 (Eq.symm h)), if_pos c_4, if_pos (Eq.symm c_4)]; done) | simp [hfF, c_1, c_2, c_3, c_4] , rfl⟩
    · skip
      refine v_aload_n (n := 16) C dX4_hoursFor_15 rfl rfl rfl ?_
      refine v_go (n := 19) C (vr_X4_22 (rest := []) C hk he dX4_hoursFor_16 ⟨Nat.le_of_ble_eq_true rfl, Nat.le_of_ble_eq_true rfl⟩ ⟨Nat.le_of_ble_eq_true rfl, Nat.le_of_ble_eq_true rfl⟩ (Nat.le_of_ble_eq_true rfl)) rfl ?_
      rintro _ _ ⟨rfl, rfl⟩ -
      exact v_iret C dX4_hoursFor_19 rfl rfl ⟨by first | rfl | (simp only [hfF, if_neg c_1, if_pos c_2, if_pos (Eq.symm c_2)]; done) | simp [hfF, c_1, c_2] , rfl⟩
  · skip
    refine v_aload_n (n := 6) C dX4_hoursFor_5 rfl rfl rfl ?_
    refine v_go (n := 9) C (vr_X4_18 (rest := []) C hk he dX4_hoursFor_6 ⟨Nat.le_of_ble_eq_true rfl, Nat.le_of_ble_eq_true rfl⟩ ⟨Nat.le_of_ble_eq_true rfl, Nat.le_of_ble_eq_true rfl⟩ (Nat.le_of_ble_eq_true rfl)) rfl ?_
    rintro _ _ ⟨rfl, rfl⟩ -
    exact v_iret C dX4_hoursFor_9 rfl rfl ⟨by first | rfl | (simp only [hfF, if_pos c_1]; done) | simp [hfF, c_1] , rfl⟩
theorem vr_X7_39 {p : Program} {l : Launch} {e : Env} {R : Room} {s : State} {m : MethodId} {args : Array Value} {below : List Frame} {meth : Method} {c : Code} {D : va_G} {b nL : Nat} {cells slots : Nat} {es : List va_E} {rest : List Value} {pc : Nat} {cc : ByteArray} {nm : String} {ret : Option FieldType} (C : vC p s m args meth c cc nL RX7 nm ret D b) {k j : Nat} {dr ce sa : Int32} {w wd : Int32} (hk : k < 5) (he : es[j]? = some (hcl k dr ce sa)) (hdg : decode cc pc = .ok (.invokevirtual 39, 3)) (hR : 2 ≤ R.frames ∧ 42 ≤ R.locals) (hf : cells ≤ R.cells ∧ slots ≤ R.slots) (hW : (rest.map fun v => v.category).sum ≤ 8) : vRun p l e R s m args below meth c D b nL cells slots es rest (.int wd :: .int w :: .ref (b + j) :: rest) pc 0 0 (fun r es' => r = some (.int (hfF k w wd)) ∧ es = es') := by
  match k, hk, he with
  | 0, _, he => exact vRun_V (As := [.int w, .int wd]) C he rfl lk_X7_39 im_X4_hoursFor se_X4_hoursFor hdg (c_X4_hoursFor l D b es j 0 dr ce sa w wd (by decide) he) wm_X4_hoursFor rfl rfl ⟨Nat.le_trans (Nat.le_of_ble_eq_true rfl) hR.1, Nat.le_trans (Nat.le_of_ble_eq_true rfl) hR.2⟩ hf hW
  | 1, _, he => exact vRun_U (As := [.int w, .int wd]) (owner := "WheatSea$Hull") (x := ⟨"WheatSea$Hull", "hoursFor", "(II)I"⟩) C he rfl vw_X7_39_X10 rfl ⟨by decide, by decide, by decide +kernel⟩ hdg (c_X4_hoursFor l D b es j 1 dr ce sa w wd (by decide) he) wm_X4_hoursFor rfl rfl ⟨Nat.le_trans (Nat.le_of_ble_eq_true rfl) hR.1, Nat.le_trans (Nat.le_of_ble_eq_true rfl) hR.2⟩ hf hW
  | 2, _, he => exact vRun_U (As := [.int w, .int wd]) (owner := "WheatSea$Hull") (x := ⟨"WheatSea$Hull", "hoursFor", "(II)I"⟩) C he rfl vw_X7_39_X2 rfl ⟨by decide, by decide, by decide +kernel⟩ hdg (c_X4_hoursFor l D b es j 2 dr ce sa w wd (by decide) he) wm_X4_hoursFor rfl rfl ⟨Nat.le_trans (Nat.le_of_ble_eq_true rfl) hR.1, Nat.le_trans (Nat.le_of_ble_eq_true rfl) hR.2⟩ hf hW
  | 3, _, he => exact vRun_U (As := [.int w, .int wd]) (owner := "WheatSea$Hull") (x := ⟨"WheatSea$Hull", "hoursFor", "(II)I"⟩) C he rfl vw_X7_39_X9 rfl ⟨by decide, by decide, by decide +kernel⟩ hdg (c_X4_hoursFor l D b es j 3 dr ce sa w wd (by decide) he) wm_X4_hoursFor rfl rfl ⟨Nat.le_trans (Nat.le_of_ble_eq_true rfl) hR.1, Nat.le_trans (Nat.le_of_ble_eq_true rfl) hR.2⟩ hf hW
  | 4, _, he => exact vRun_U (As := [.int w, .int wd]) (owner := "WheatSea$Hull") (x := ⟨"WheatSea$Hull", "hoursFor", "(II)I"⟩) C he rfl vw_X7_39_X1 rfl ⟨by decide, by decide, by decide +kernel⟩ hdg (c_X4_hoursFor l D b es j 4 dr ce sa w wd (by decide) he) wm_X4_hoursFor rfl rfl ⟨Nat.le_trans (Nat.le_of_ble_eq_true rfl) hR.1, Nat.le_trans (Nat.le_of_ble_eq_true rfl) hR.2⟩ hf hW
/-- highAt, floats, hoursToSail -/
def hiF (f : Nat → Int32) (rp c h : Int32) : Int32 := if c < 0 then 0 else if 12 ≤ c then 0 else if h < rp * (c + 1) then f c.toNatClampNeg else 0
abbrev flP (f : Nat → Int32) (rp : Int32) (k : Nat) (dr c h : Int32) : Prop := ¬ hiF f rp c h < cornN k dr
def htF (f : Nat → Int32) (rp wd : Int32) (k : Nat) (dr c w h : Int32) : Int32 := if beF c w = -1 then -1 else if flP f rp k dr c h then (if hfF k w wd = -1 then -1 else if flP f rp k dr (beF c w) (h + hfF k w wd) then hfF k w wd else -1) else -1
set_option maxHeartbeats 4000000 in
set_option maxRecDepth 100000 in
theorem c_cutHour (l : Launch) (D : va_G) (b : Nat) (es : List va_E) (q : Nat) (qh : Nat) (f : Nat → Int32) (rp wd : Int32) (hs : es[q]? = some (.inr (7, [.ref (b + qh), .int rp, .int wd]))) (hh : es[qh]? = some (.inl (D.1 13, 12, .inl f))) (x : Int32) : Con l yX7_cutHour cX7_cutHour 2 (some .int) 0 0 D b 0 0 es [.ref (b + q), .int x] (fun r es' => r = some (.int (rp * (x + 1))) ∧ es = es') := by
  refine con_of (by decide) (Nat.le_of_ble_eq_true rfl) (fun p e s m args below meth c C hsz => ?_)
  have C : vC p s m args meth c cX7_cutHour 2 RX7 "cutHour" (some .int) D b := C
  change V p l e _ s m args below meth c D b 2 _ 0 0 es [(0, .ref (b + q)), (1, .int x)] [] 0
  refine v_aload_n (n := 1) C dX7_cutHour_0 rfl rfl rfl ?_
  refine v_get (n := 4) C dX7_cutHour_1 rfl fl_X7_19_X7 hs rfl ?_
  refine v_iload_n (n := 5) C dX7_cutHour_4 rfl rfl rfl ?_
  refine v_iconst (n := 6) (v := 1) C dX7_cutHour_5 rfl (by decide) ?_
  refine v_iadd (n := 7) C dX7_cutHour_6 rfl ?_
  refine v_imul (n := 8) C dX7_cutHour_7 rfl ?_
  exact v_iret C dX7_cutHour_8 rfl rfl ⟨by first | rfl | (simp only []; done) | simp [] , rfl⟩
set_option maxHeartbeats 4000000 in
set_option maxRecDepth 100000 in
theorem c_highAt (l : Launch) (D : va_G) (b : Nat) (es : List va_E) (q : Nat) (qh : Nat) (f : Nat → Int32) (rp wd : Int32) (hs : es[q]? = some (.inr (7, [.ref (b + qh), .int rp, .int wd]))) (hh : es[qh]? = some (.inl (D.1 13, 12, .inl f))) (x h : Int32) : Con l yX7_highAt cX7_highAt 3 (some .int) 0 0 D b 0 0 es [.ref (b + q), .int x, .int h] (fun r es' => r = some (.int (hiF f rp x h)) ∧ es = es') := by
  refine con_of (by decide) (Nat.le_of_ble_eq_true rfl) (fun p e s m args below meth c C hsz => ?_)
  have C : vC p s m args meth c cX7_highAt 3 RX7 "highAt" (some .int) D b := C
  change V p l e _ s m args below meth c D b 3 _ 0 0 es [(0, .ref (b + q)), (1, .int x), (2, .int h)] [] 0
  refine v_iload_n (n := 1) C dX7_highAt_0 rfl rfl rfl ?_
  refine v_if_lt (t := 25) (n := 4) C dX7_highAt_1 (by decide) rfl (fun c_1 => ?_) (fun c_1 => ?_)
  · skip
    refine v_iconst (n := 26) (v := 0) C dX7_highAt_25 rfl (by decide) ?_
    exact v_iret C dX7_highAt_26 rfl rfl ⟨by first | rfl | (simp only [hiF, if_pos c_1, if_neg (Int32.not_le.mpr c_1)]; done) | simp [hiF, c_1] , rfl⟩
  · skip
    refine v_iload_n (n := 5) C dX7_highAt_4 rfl rfl rfl ?_
    refine v_aload_n (n := 6) C dX7_highAt_5 rfl rfl rfl ?_
    refine v_get (n := 9) C dX7_highAt_6 rfl fl_X7_15_X7 hs rfl ?_
    refine v_alen (n := 10) (v := 12) C dX7_highAt_9 rfl hh rfl ?_
    refine v_icmp_ge (t := 25) (n := 13) C dX7_highAt_10 (by decide) rfl (fun c_2 => ?_) (fun c_2 => ?_)
    · skip
      refine v_iconst (n := 26) (v := 0) C dX7_highAt_25 rfl (by decide) ?_
      exact v_iret C dX7_highAt_26 rfl rfl ⟨by first | rfl | (simp only [hiF, if_neg c_1, if_pos (Int32.not_lt.mp c_1), if_pos c_2, if_neg (Int32.not_lt.mpr c_2)]; done) | simp [hiF, c_1, c_2] , rfl⟩
    · skip
      refine v_iload_n (n := 14) C dX7_highAt_13 rfl rfl rfl ?_
      refine v_aload_n (n := 15) C dX7_highAt_14 rfl rfl rfl ?_
      refine v_get (n := 18) C dX7_highAt_15 rfl fl_X7_19_X7 hs rfl ?_
      refine v_iload_n (n := 19) C dX7_highAt_18 rfl rfl rfl ?_
      refine v_iconst (n := 20) (v := 1) C dX7_highAt_19 rfl (by decide) ?_
      refine v_iadd (n := 21) C dX7_highAt_20 rfl ?_
      refine v_imul (n := 22) C dX7_highAt_21 rfl ?_
      refine v_icmp_lt (t := 27) (n := 25) C dX7_highAt_22 (by decide) rfl (fun c_3 => ?_) (fun c_3 => ?_)
      · skip
        refine v_aload_n (n := 28) C dX7_highAt_27 rfl rfl rfl ?_
        refine v_get (n := 31) C dX7_highAt_28 rfl fl_X7_15_X7 hs rfl ?_
        refine v_iload_n (n := 32) C dX7_highAt_31 rfl rfl rfl ?_
        refine v_iald (n := 33) C dX7_highAt_32 rfl hh (vp_b (Int32.not_lt.mp c_1) (Int32.not_le.mp c_2) (by decide)) ?_
        exact v_iret C dX7_highAt_33 rfl rfl ⟨by first | rfl | (simp only [hiF, if_neg c_1, if_pos (Int32.not_lt.mp c_1), if_neg c_2, if_pos (Int32.not_le.mp c_2), if_pos c_3, if_neg (Int32.not_le.mpr c_3)]; done) | simp [hiF, c_1, c_2, c_3] , rfl⟩
      · skip
        refine v_iconst (n := 26) (v := 0) C dX7_highAt_25 rfl (by decide) ?_
        exact v_iret C dX7_highAt_26 rfl rfl ⟨by first | rfl | (simp only [hiF, if_neg c_1, if_pos (Int32.not_lt.mp c_1), if_neg c_2, if_pos (Int32.not_le.mp c_2), if_neg c_3, if_pos (Int32.not_lt.mp c_3)]; done) | simp [hiF, c_1, c_2, c_3] , rfl⟩
set_option maxHeartbeats 4000000 in
set_option maxRecDepth 100000 in
theorem c_floats (l : Launch) (D : va_G) (b : Nat) (es : List va_E) (q : Nat) (qh : Nat) (f : Nat → Int32) (rp wd : Int32) (hs : es[q]? = some (.inr (7, [.ref (b + qh), .int rp, .int wd]))) (hh : es[qh]? = some (.inl (D.1 13, 12, .inl f))) (j k : Nat) (dr ce sa : Int32) (hk : k < 5) (he : es[j]? = some (hcl k dr ce sa)) (x h : Int32) : Con l yX7_floats cX7_floats 4 (some .boolean) 1 22 D b 0 0 es [.ref (b + q), .ref (b + j), .int x, .int h] (fun r es' => r = some (.int (if flP f rp k dr x h then 1 else 0)) ∧ es = es') := by
  refine con_of (by decide) (Nat.le_of_ble_eq_true rfl) (fun p e s m args below meth c C hsz => ?_)
  have C : vC p s m args meth c cX7_floats 4 RX7 "floats" (some .boolean) D b := C
  change V p l e _ s m args below meth c D b 4 _ 0 0 es [(0, .ref (b + q)), (1, .ref (b + j)), (2, .int x), (3, .int h)] [] 0
  refine v_aload_n (n := 1) C dX7_floats_0 rfl rfl rfl ?_
  refine v_ifnull (n := 4) C dX7_floats_1 rfl ?_
  refine v_aload_n (n := 5) C dX7_floats_4 rfl rfl rfl ?_
  refine v_iload_n (n := 6) C dX7_floats_5 rfl rfl rfl ?_
  refine v_iload_n (n := 7) C dX7_floats_6 rfl rfl rfl ?_
  refine v_go (n := 10) C (vRun_V (As := [.int x, .int h]) (rest := []) C hs rfl lk_X7_22 im_X7_highAt se_X7_highAt dX7_floats_7 (c_highAt l D b es q qh f rp wd hs hh x h) wm_X7_highAt rfl rfl ⟨Nat.le_of_ble_eq_true rfl, Nat.le_of_ble_eq_true rfl⟩ ⟨Nat.le_of_ble_eq_true rfl, Nat.le_of_ble_eq_true rfl⟩ (Nat.le_of_ble_eq_true rfl)) rfl ?_
  rintro _ _ ⟨rfl, rfl⟩ -
  refine v_aload_n (n := 11) C dX7_floats_10 rfl rfl rfl ?_
  refine v_go (n := 14) C (vr_X7_26 (rest := [.int (hiF f rp x h)]) C hk he dX7_floats_11 ⟨Nat.le_of_ble_eq_true rfl, Nat.le_of_ble_eq_true rfl⟩ ⟨Nat.le_of_ble_eq_true rfl, Nat.le_of_ble_eq_true rfl⟩ (Nat.le_of_ble_eq_true rfl)) rfl ?_
  rintro _ _ ⟨rfl, rfl⟩ -
  refine v_icmp_lt (t := 21) (n := 17) C dX7_floats_14 (by decide) rfl (fun c_1 => ?_) (fun c_1 => ?_)
  · skip
    refine v_iconst (n := 22) (v := 0) C dX7_floats_21 rfl (by decide) ?_
    exact v_iret C dX7_floats_22 rfl rfl ⟨by first | rfl | (simp only [flP, if_pos c_1, if_neg (Int32.not_le.mpr c_1)]; done) | simp [flP, c_1] , rfl⟩
  · skip
    refine v_iconst (n := 18) (v := 1) C dX7_floats_17 rfl (by decide) ?_
    refine v_goto (t := 22) C dX7_floats_18 (by decide) ?_
    exact v_iret C dX7_floats_22 rfl rfl ⟨by first | rfl | (simp only [flP, if_neg c_1, if_pos (Int32.not_lt.mp c_1)]; done) | simp [flP, c_1] , rfl⟩
set_option maxHeartbeats 4000000 in
set_option maxRecDepth 100000 in
theorem c_hoursToSail (l : Launch) (D : va_G) (b : Nat) (es : List va_E) (q : Nat) (qh : Nat) (f : Nat → Int32) (rp wd : Int32) (hs : es[q]? = some (.inr (7, [.ref (b + qh), .int rp, .int wd]))) (hh : es[qh]? = some (.inl (D.1 13, 12, .inl f))) (j k : Nat) (dr ce sa : Int32) (hk : k < 5) (he : es[j]? = some (hcl k dr ce sa)) (x w h : Int32) : Con l yX7_hoursToSail cX7_hoursToSail 7 (some .int) 2 45 D b 0 0 es [.ref (b + q), .ref (b + j), .int x, .int w, .int h] (fun r es' => r = some (.int (htF f rp wd k dr x w h)) ∧ es = es') := by
  refine con_of (by decide) (Nat.le_of_ble_eq_true rfl) (fun p e s m args below meth c C hsz => ?_)
  have C : vC p s m args meth c cX7_hoursToSail 7 RX7 "hoursToSail" (some .int) D b := C
  change V p l e _ s m args below meth c D b 7 _ 0 0 es [(0, .ref (b + q)), (1, .ref (b + j)), (2, .int x), (3, .int w), (4, .int h)] [] 0
  refine v_iload_n (n := 1) C dX7_hoursToSail_0 rfl rfl rfl ?_
  refine v_iload_n (n := 2) C dX7_hoursToSail_1 rfl rfl rfl ?_
  refine v_go (n := 5) C (vRun_SN (As := [.int x, .int w]) (rest := []) C lk_X7_32 st_X11_beside dX7_hoursToSail_2 (c_beside l D b es x w) wm_X11_beside rfl rfl ⟨Nat.le_of_ble_eq_true rfl, Nat.le_of_ble_eq_true rfl⟩ ⟨Nat.le_of_ble_eq_true rfl, Nat.le_of_ble_eq_true rfl⟩ (Nat.le_of_ble_eq_true rfl)) rfl ?_
  rintro _ _ ⟨rfl, rfl⟩ -
  refine v_istore (n := 7) (lv' := [(5, .int (beF x w)), (0, .ref (b + q)), (1, .ref (b + j)), (2, .int x), (3, .int w), (4, .int h)]) C dX7_hoursToSail_5 rfl (Nat.le_of_ble_eq_true rfl) rfl ?_
  refine v_aload_n (n := 8) C dX7_hoursToSail_7 rfl rfl rfl ?_
  refine v_ifnull (n := 11) C dX7_hoursToSail_8 rfl ?_
  refine v_iload (n := 13) C dX7_hoursToSail_11 rfl rfl ?_
  refine v_iconst (n := 14) (v := -1) C dX7_hoursToSail_13 rfl (by decide) ?_
  refine v_icmp_eq (t := 28) (n := 17) C dX7_hoursToSail_14 (by decide) rfl (fun c_1 => ?_) (fun c_1 => ?_)
  · skip
    refine v_iconst (n := 29) (v := -1) C dX7_hoursToSail_28 rfl (by decide) ?_
    exact v_iret C dX7_hoursToSail_29 rfl rfl ⟨by first | rfl | (simp only [htF, if_pos c_1]; done) | simp [htF, c_1] , rfl⟩
  · skip
    refine v_aload_n (n := 18) C dX7_hoursToSail_17 rfl rfl rfl ?_
    refine v_aload_n (n := 19) C dX7_hoursToSail_18 rfl rfl rfl ?_
    refine v_iload_n (n := 20) C dX7_hoursToSail_19 rfl rfl rfl ?_
    refine v_iload (n := 22) C dX7_hoursToSail_20 rfl rfl ?_
    refine v_go (n := 25) C (vRun_V (As := [.ref (b + j), .int x, .int h]) (rest := []) C hs rfl lk_X7_35 im_X7_floats se_X7_floats dX7_hoursToSail_22 (c_floats l D b es q qh f rp wd hs hh j k dr ce sa hk he x h) wm_X7_floats rfl rfl ⟨Nat.le_of_ble_eq_true rfl, Nat.le_of_ble_eq_true rfl⟩ ⟨Nat.le_of_ble_eq_true rfl, Nat.le_of_ble_eq_true rfl⟩ (Nat.le_of_ble_eq_true rfl)) rfl ?_
    rintro _ _ ⟨rfl, rfl⟩ -
    by_cases p_2 : flP f rp k dr x h
    · skip
      refine v_stk (st' := .int 1 :: []) (congrArg (fun z : Int32 => Value.int z :: []) (if_pos p_2 : (if flP f rp k dr x h then (1 : Int32) else 0) = 1)) ?_
      refine v_if_ne (t := 30) (n := 28) C dX7_hoursToSail_25 (by decide) rfl (fun c_3 => ?_) (fun c_3 => ?_)
      · skip
        refine v_aload_n (n := 31) C dX7_hoursToSail_30 rfl rfl rfl ?_
        refine v_iload_n (n := 32) C dX7_hoursToSail_31 rfl rfl rfl ?_
        refine v_aload_n (n := 33) C dX7_hoursToSail_32 rfl rfl rfl ?_
        refine v_get (n := 36) C dX7_hoursToSail_33 rfl fl_X7_9_X7 hs rfl ?_
        refine v_go (n := 39) C (vr_X7_39 (rest := []) C hk he dX7_hoursToSail_36 ⟨Nat.le_of_ble_eq_true rfl, Nat.le_of_ble_eq_true rfl⟩ ⟨Nat.le_of_ble_eq_true rfl, Nat.le_of_ble_eq_true rfl⟩ (Nat.le_of_ble_eq_true rfl)) rfl ?_
        rintro _ _ ⟨rfl, rfl⟩ -
        refine v_istore (n := 41) (lv' := [(6, .int (hfF k w wd)), (5, .int (beF x w)), (0, .ref (b + q)), (1, .ref (b + j)), (2, .int x), (3, .int w), (4, .int h)]) C dX7_hoursToSail_39 rfl (Nat.le_of_ble_eq_true rfl) rfl ?_
        refine v_iload (n := 43) C dX7_hoursToSail_41 rfl rfl ?_
        refine v_iconst (n := 44) (v := -1) C dX7_hoursToSail_43 rfl (by decide) ?_
        refine v_icmp_eq (t := 62) (n := 47) C dX7_hoursToSail_44 (by decide) rfl (fun c_4 => ?_) (fun c_4 => ?_)
        · skip
          refine v_iconst (n := 63) (v := -1) C dX7_hoursToSail_62 rfl (by decide) ?_
          exact v_iret C dX7_hoursToSail_63 rfl rfl ⟨by first | rfl | (simp only [htF, if_neg c_1, if_pos p_2, if_neg c_3, if_pos c_4]; done) | simp [htF, c_1, p_2, c_3, c_4] , rfl⟩
        · skip
          refine v_aload_n (n := 48) C dX7_hoursToSail_47 rfl rfl rfl ?_
          refine v_aload_n (n := 49) C dX7_hoursToSail_48 rfl rfl rfl ?_
          refine v_iload (n := 51) C dX7_hoursToSail_49 rfl rfl ?_
          refine v_iload (n := 53) C dX7_hoursToSail_51 rfl rfl ?_
          refine v_iload (n := 55) C dX7_hoursToSail_53 rfl rfl ?_
          refine v_iadd (n := 56) C dX7_hoursToSail_55 rfl ?_
          refine v_go (n := 59) C (vRun_V (As := [.ref (b + j), .int (beF x w), .int (h + (hfF k w wd))]) (rest := []) C hs rfl lk_X7_35 im_X7_floats se_X7_floats dX7_hoursToSail_56 (c_floats l D b es q qh f rp wd hs hh j k dr ce sa hk he (beF x w) (h + (hfF k w wd))) wm_X7_floats rfl rfl ⟨Nat.le_of_ble_eq_true rfl, Nat.le_of_ble_eq_true rfl⟩ ⟨Nat.le_of_ble_eq_true rfl, Nat.le_of_ble_eq_true rfl⟩ (Nat.le_of_ble_eq_true rfl)) rfl ?_
          rintro _ _ ⟨rfl, rfl⟩ -
          by_cases p_5 : flP f rp k dr (beF x w) (h + (hfF k w wd))
          · skip
            refine v_stk (st' := .int 1 :: []) (congrArg (fun z : Int32 => Value.int z :: []) (if_pos p_5 : (if flP f rp k dr (beF x w) (h + (hfF k w wd)) then (1 : Int32) else 0) = 1)) ?_
            refine v_if_ne (t := 64) (n := 62) C dX7_hoursToSail_59 (by decide) rfl (fun c_6 => ?_) (fun c_6 => ?_)
            · skip
              refine v_iload (n := 66) C dX7_hoursToSail_64 rfl rfl ?_
              exact v_iret C dX7_hoursToSail_66 rfl rfl ⟨by first | rfl | (simp only [htF, if_neg c_1, if_pos p_2, if_neg c_3, if_neg c_4, if_pos p_5, if_neg c_6]; done) | simp [htF, c_1, p_2, c_3, c_4, p_5, c_6] , rfl⟩
            · exact absurd c_6 (by decide)
          · skip
            refine v_stk (st' := .int 0 :: []) (congrArg (fun z : Int32 => Value.int z :: []) (if_neg p_5 : (if flP f rp k dr (beF x w) (h + (hfF k w wd)) then (1 : Int32) else 0) = 0)) ?_
            refine v_if_ne (t := 64) (n := 62) C dX7_hoursToSail_59 (by decide) rfl (fun c_7 => ?_) (fun c_7 => ?_)
            · exact absurd c_7 (by decide)
            · skip
              refine v_iconst (n := 63) (v := -1) C dX7_hoursToSail_62 rfl (by decide) ?_
              exact v_iret C dX7_hoursToSail_63 rfl rfl ⟨by first | rfl | (simp only [htF, if_neg c_1, if_pos p_2, if_neg c_3, if_neg c_4, if_neg p_5, if_pos c_7]; done) | simp [htF, c_1, p_2, c_3, c_4, p_5, c_7] , rfl⟩
      · exact absurd c_3 (by decide)
    · skip
      refine v_stk (st' := .int 0 :: []) (congrArg (fun z : Int32 => Value.int z :: []) (if_neg p_2 : (if flP f rp k dr x h then (1 : Int32) else 0) = 0)) ?_
      refine v_if_ne (t := 30) (n := 28) C dX7_hoursToSail_25 (by decide) rfl (fun c_8 => ?_) (fun c_8 => ?_)
      · exact absurd c_8 (by decide)
      · skip
        refine v_iconst (n := 29) (v := -1) C dX7_hoursToSail_28 rfl (by decide) ?_
        exact v_iret C dX7_hoursToSail_29 rfl rfl ⟨by first | rfl | (simp only [htF, if_neg c_1, if_neg p_2, if_pos c_8]; done) | simp [htF, c_1, p_2, c_8] , rfl⟩
