/-- isCell -/
def icP (x : Int32) : Prop := ¬ x < 0 ∧ ¬ 12 ≤ x
def icF (x : Int32) : Int32 := if x < 0 then 0 else if 12 ≤ x then 0 else 1
/-- beside -/
def beF (x w : Int32) : Int32 := if x < 0 then -1 else if 12 ≤ x then -1 else
  if w = 0 then (if 3 ≤ x - x / 4 * 4 then -1 else x + 1) else
  if w = 1 then (if 12 ≤ x + 4 then -1 else x + 4) else
  if w = 2 then (if x - x / 4 * 4 ≤ 0 then -1 else x - 1) else
  if w = 3 then (if x - 4 < 0 then -1 else x - 4) else -1
set_option maxHeartbeats 4000000 in
set_option maxRecDepth 100000 in
theorem c_isCell (l : Launch) (D : va_G) (b : Nat) (es : List va_E) (x : Int32) : Con l yX11_isCell cX11_isCell 1 (some .boolean) 0 0 D b 0 0 es [.int x] (fun r es' => r = some (.int (icF x)) ∧ es' = es) := by
  refine con_of (by decide) (Nat.le_of_ble_eq_true rfl) (fun p e s m args below meth c C hsz => ?_)
  have C : vC p s m args meth c cX11_isCell 1 RX11 "isCell" (some .boolean) D b := C
  change V p l e _ s m args below meth c D b 1 _ 0 0 es [(0, .int x)] [] 0
  refine v_iload_n (n := 1) C dX11_isCell_0 rfl rfl rfl ?_
  refine v_if_lt (t := 14) (n := 4) C dX11_isCell_1 (by decide) rfl (fun c_1 => ?_) (fun c_1 => ?_)
  · skip
    refine v_iconst (n := 15) (v := 0) C dX11_isCell_14 rfl (by decide) ?_
    exact v_iret C dX11_isCell_15 rfl rfl ⟨by simp [icF, c_1], rfl⟩
  · skip
    refine v_iload_n (n := 5) C dX11_isCell_4 rfl rfl rfl ?_
    refine v_bipush (n := 7) (v := 12) C dX11_isCell_5 rfl (by decide) ?_
    refine v_icmp_ge (t := 14) (n := 10) C dX11_isCell_7 (by decide) rfl (fun c_2 => ?_) (fun c_2 => ?_)
    · skip
      refine v_iconst (n := 15) (v := 0) C dX11_isCell_14 rfl (by decide) ?_
      exact v_iret C dX11_isCell_15 rfl rfl ⟨by simp [icF, c_1, c_2], rfl⟩
    · skip
      refine v_iconst (n := 11) (v := 1) C dX11_isCell_10 rfl (by decide) ?_
      refine v_goto (t := 15) C dX11_isCell_11 (by decide) ?_
      exact v_iret C dX11_isCell_15 rfl rfl ⟨by simp [icF, c_1, c_2], rfl⟩
set_option maxHeartbeats 4000000 in
set_option maxRecDepth 100000 in
theorem c_beside (l : Launch) (D : va_G) (b : Nat) (es : List va_E) (x w : Int32) : Con l yX11_beside cX11_beside 2 (some .int) 1 20 D b 0 0 es [.int x, .int w] (fun r es' => r = some (.int (beF x w)) ∧ es' = es) := by
  refine con_of (by decide) (Nat.le_of_ble_eq_true rfl) (fun p e s m args below meth c C hsz => ?_)
  have C : vC p s m args meth c cX11_beside 2 RX11 "beside" (some .int) D b := C
  change V p l e _ s m args below meth c D b 2 _ 0 0 es [(0, .int x), (1, .int w)] [] 0
  refine v_iload_n (n := 1) C dX11_beside_0 rfl rfl rfl ?_
  refine v_go (n := 4) C (vRun_S (As := [.int x]) (rest := []) C lk_X11_259 st_X11_isCell dX11_beside_1 (c_isCell l D b es x) wm_X11_isCell rfl rfl ⟨Nat.le_of_ble_eq_true rfl, Nat.le_of_ble_eq_true rfl⟩ ⟨Nat.le_of_ble_eq_true rfl, Nat.le_of_ble_eq_true rfl⟩ (Nat.le_of_ble_eq_true rfl)) rfl ?_
  rintro _ _ ⟨rfl, rfl⟩ -
  by_cases c_1 : x < 0
  · rw [show icF x = 0 by simp only [icF, if_pos c_1]]
    refine v_if_ne (t := 9) (n := 7) C dX11_beside_4 (by decide) rfl (fun c_3 => ?_) (fun c_3 => ?_)
    · exact absurd c_3 (by decide)
    · skip
      refine v_iconst (n := 8) (v := -1) C dX11_beside_7 rfl (by decide) ?_
      exact v_iret C dX11_beside_8 rfl rfl ⟨by simp [beF, c_1, c_3], rfl⟩
  by_cases c_2 : 12 ≤ x
  · rw [show icF x = 0 by simp only [icF, if_neg c_1, if_pos c_2]]
    refine v_if_ne (t := 9) (n := 7) C dX11_beside_4 (by decide) rfl (fun c_4 => ?_) (fun c_4 => ?_)
    · exact absurd c_4 (by decide)
    · skip
      refine v_iconst (n := 8) (v := -1) C dX11_beside_7 rfl (by decide) ?_
      exact v_iret C dX11_beside_8 rfl rfl ⟨by simp [beF, c_1, c_2, c_4], rfl⟩
  rw [show icF x = 1 by simp only [icF, if_neg c_1, if_neg c_2]]
  refine v_if_ne (t := 9) (n := 7) C dX11_beside_4 (by decide) rfl (fun c_5 => ?_) (fun c_5 => ?_)
  · skip
    refine v_iload_n (n := 10) C dX11_beside_9 rfl rfl rfl ?_
    by_cases c_10 : w = 0
    · refine v_tableIn (t := 40) C dX11_beside_10 (by rw [c_10]; decide) (by rw [c_10]; decide) (by rw [c_10]; rfl) (by decide) ?_
      refine v_iload_n (n := 41) C dX11_beside_40 rfl rfl rfl ?_
      refine v_iconst (n := 42) (v := 4) C dX11_beside_41 rfl (by decide) ?_
      refine v_irem (n := 43) C dX11_beside_42 rfl (by decide) ?_
      refine v_iconst (n := 44) (v := 3) C dX11_beside_43 rfl (by decide) ?_
      refine v_icmp_ge (t := 53) (n := 47) C dX11_beside_44 (by decide) rfl (fun c_11 => ?_) (fun c_11 => ?_)
      · skip
        refine v_iconst (n := 54) (v := -1) C dX11_beside_53 rfl (by decide) ?_
        exact v_iret C dX11_beside_54 rfl rfl ⟨by simp [beF, c_1, c_2, c_5, c_10, c_11], rfl⟩
      · skip
        refine v_iload_n (n := 48) C dX11_beside_47 rfl rfl rfl ?_
        refine v_iconst (n := 49) (v := 1) C dX11_beside_48 rfl (by decide) ?_
        refine v_iadd (n := 50) C dX11_beside_49 rfl ?_
        refine v_goto (t := 54) C dX11_beside_50 (by decide) ?_
        exact v_iret C dX11_beside_54 rfl rfl ⟨by simp [beF, c_1, c_2, c_5, c_10, c_11], rfl⟩
    by_cases c_12 : w = 1
    · refine v_tableIn (t := 55) C dX11_beside_10 (by rw [c_12]; decide) (by rw [c_12]; decide) (by rw [c_12]; rfl) (by decide) ?_
      refine v_iload_n (n := 56) C dX11_beside_55 rfl rfl rfl ?_
      refine v_iconst (n := 57) (v := 4) C dX11_beside_56 rfl (by decide) ?_
      refine v_iadd (n := 58) C dX11_beside_57 rfl ?_
      refine v_bipush (n := 60) (v := 12) C dX11_beside_58 rfl (by decide) ?_
      refine v_icmp_ge (t := 69) (n := 63) C dX11_beside_60 (by decide) rfl (fun c_13 => ?_) (fun c_13 => ?_)
      · skip
        refine v_iconst (n := 70) (v := -1) C dX11_beside_69 rfl (by decide) ?_
        exact v_iret C dX11_beside_70 rfl rfl ⟨by simp [beF, c_1, c_2, c_5, c_10, c_12, c_13], rfl⟩
      · skip
        refine v_iload_n (n := 64) C dX11_beside_63 rfl rfl rfl ?_
        refine v_iconst (n := 65) (v := 4) C dX11_beside_64 rfl (by decide) ?_
        refine v_iadd (n := 66) C dX11_beside_65 rfl ?_
        refine v_goto (t := 70) C dX11_beside_66 (by decide) ?_
        exact v_iret C dX11_beside_70 rfl rfl ⟨by simp [beF, c_1, c_2, c_5, c_10, c_12, c_13], rfl⟩
    by_cases c_14 : w = 2
    · refine v_tableIn (t := 71) C dX11_beside_10 (by rw [c_14]; decide) (by rw [c_14]; decide) (by rw [c_14]; rfl) (by decide) ?_
      refine v_iload_n (n := 72) C dX11_beside_71 rfl rfl rfl ?_
      refine v_iconst (n := 73) (v := 4) C dX11_beside_72 rfl (by decide) ?_
      refine v_irem (n := 74) C dX11_beside_73 rfl (by decide) ?_
      refine v_if_le (t := 83) (n := 77) C dX11_beside_74 (by decide) rfl (fun c_15 => ?_) (fun c_15 => ?_)
      · skip
        refine v_iconst (n := 84) (v := -1) C dX11_beside_83 rfl (by decide) ?_
        exact v_iret C dX11_beside_84 rfl rfl ⟨by simp [beF, c_1, c_2, c_5, c_10, c_12, c_14, c_15], rfl⟩
      · skip
        refine v_iload_n (n := 78) C dX11_beside_77 rfl rfl rfl ?_
        refine v_iconst (n := 79) (v := 1) C dX11_beside_78 rfl (by decide) ?_
        refine v_isub (n := 80) C dX11_beside_79 rfl ?_
        refine v_goto (t := 84) C dX11_beside_80 (by decide) ?_
        exact v_iret C dX11_beside_84 rfl rfl ⟨by simp [beF, c_1, c_2, c_5, c_10, c_12, c_14, c_15], rfl⟩
    by_cases c_16 : w = 3
    · refine v_tableIn (t := 85) C dX11_beside_10 (by rw [c_16]; decide) (by rw [c_16]; decide) (by rw [c_16]; rfl) (by decide) ?_
      refine v_iload_n (n := 86) C dX11_beside_85 rfl rfl rfl ?_
      refine v_iconst (n := 87) (v := 4) C dX11_beside_86 rfl (by decide) ?_
      refine v_isub (n := 88) C dX11_beside_87 rfl ?_
      refine v_if_lt (t := 97) (n := 91) C dX11_beside_88 (by decide) rfl (fun c_17 => ?_) (fun c_17 => ?_)
      · skip
        refine v_iconst (n := 98) (v := -1) C dX11_beside_97 rfl (by decide) ?_
        exact v_iret C dX11_beside_98 rfl rfl ⟨by simp [beF, c_1, c_2, c_5, c_10, c_12, c_14, c_16, c_17], rfl⟩
      · skip
        refine v_iload_n (n := 92) C dX11_beside_91 rfl rfl rfl ?_
        refine v_iconst (n := 93) (v := 4) C dX11_beside_92 rfl (by decide) ?_
        refine v_isub (n := 94) C dX11_beside_93 rfl ?_
        refine v_goto (t := 98) C dX11_beside_94 (by decide) ?_
        exact v_iret C dX11_beside_98 rfl rfl ⟨by simp [beF, c_1, c_2, c_5, c_10, c_12, c_14, c_16, c_17], rfl⟩
    refine v_tableOut (t := 99) C dX11_beside_10 (sw_out4 c_10 c_12 c_14 c_16) (by decide) ?_
    refine v_iconst (n := 100) (v := -1) C dX11_beside_99 rfl (by decide) ?_
    exact v_iret C dX11_beside_100 rfl rfl ⟨by simp [beF, c_1, c_2, c_5, c_10, c_12, c_14, c_16], rfl⟩
  · exact absurd c_5 (by decide)
