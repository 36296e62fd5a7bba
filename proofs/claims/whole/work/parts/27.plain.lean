def soS (f : Nat → Int32) (c v : Int32) : Nat → Int32 := if c < 0 then f else if c < 12 then upd f c.toNatClampNeg v else f
/-- the first letter that does not fit -/
def fuP (sc : Nat → Int32) (ar : Nat → Nat → Int32) (v : Int32) : Prop :=
  (∃ i, i < 18 ∧ ¬ sc 0 ≤ nI i ∧ v = nI i ∧ ftF (nI i) (ar 1 i) = 0 ∧ ∀ j, j < i → ¬ sc 0 ≤ nI j ∧ ¬ ftF (nI j) (ar 1 j) = 0) ∨
  (v = sc 0 ∧ ((∃ i, i < 18 ∧ sc 0 ≤ nI i ∧ ∀ j, j < i → ¬ sc 0 ≤ nI j ∧ ¬ ftF (nI j) (ar 1 j) = 0) ∨ ∀ j, j < 18 → ¬ sc 0 ≤ nI j ∧ ¬ ftF (nI j) (ar 1 j) = 0))
set_option maxHeartbeats 4000000 in
set_option maxRecDepth 100000 in
theorem c_sow (l : Launch) (D : va_G) (b : Nat) (sc : Nat → Int32) (ar : Nat → Nat → Int32) (hn : Nat → Option Nat) (mh : Int64) (G : List va_E) (x y : Int32) : Con l yX7_sow cX7_sow 3 none 0 0 D b 0 0 (wl D b sc ar hn mh G) [.ref (b + 25), .int x, .int y] (fun r es' => r = none ∧ wl D b sc (va_up ar 24 (soS (ar 24) x y)) hn mh G = es') := by
  refine con_of (by decide) (Nat.le_of_ble_eq_true rfl) (fun p e s m args below meth c C hsz => ?_)
  have C : vC p s m args meth c cX7_sow 3 RX7 "sow" none D b := C
  change V p l e _ s m args below meth c D b 3 _ 0 0 (wl D b sc ar hn mh G) [(0, .ref (b + 25)), (1, .int x), (2, .int y)] [] 0
  refine v_iload_n (n := 1) C dX7_sow_0 rfl rfl rfl ?_
  refine v_if_lt (t := 20) (n := 4) C dX7_sow_1 (by decide) rfl (fun c_1 => ?_) (fun c_1 => ?_)
  · skip
    exact v_vret C dX7_sow_20 rfl ⟨rfl, by first | (simp only [soS, eq_true c_1, eq_false (Int32.not_le.mpr c_1), ↓reduceIte]; done) | (simp only [soS, eq_true c_1, eq_false (Int32.not_le.mpr c_1), ↓reduceIte] <;> rfl)⟩
  · skip
    refine v_iload_n (n := 5) C dX7_sow_4 rfl rfl rfl ?_
    refine v_aload_n (n := 6) C dX7_sow_5 rfl rfl rfl ?_
    refine v_get (n := 9) C dX7_sow_6 rfl fl_X7_15_X7 wl_c25 rfl ?_
    refine v_alen (n := 10) (v := 12) C dX7_sow_9 rfl wl_c24 rfl ?_
    refine v_icmp_ge (t := 20) (n := 13) C dX7_sow_10 (by decide) rfl (fun c_2 => ?_) (fun c_2 => ?_)
    · skip
      exact v_vret C dX7_sow_20 rfl ⟨rfl, by first | (simp only [soS, eq_false c_1, eq_true (Int32.not_lt.mp c_1), eq_true c_2, eq_false (Int32.not_lt.mpr c_2), ↓reduceIte]; done) | (simp only [soS, eq_false c_1, eq_true (Int32.not_lt.mp c_1), eq_true c_2, eq_false (Int32.not_lt.mpr c_2), ↓reduceIte] <;> rfl)⟩
    · skip
      refine v_aload_n (n := 14) C dX7_sow_13 rfl rfl rfl ?_
      refine v_get (n := 17) C dX7_sow_14 rfl fl_X7_15_X7 wl_c25 rfl ?_
      refine v_iload_n (n := 18) C dX7_sow_17 rfl rfl rfl ?_
      refine v_iload_n (n := 19) C dX7_sow_18 rfl rfl rfl ?_
      refine v_iast (n := 20) (es' := (wl D b sc (va_up ar 24 (upd (ar 24) (Int32.toNatClampNeg x) y)) hn mh G)) C dX7_sow_19 rfl wl_c24 (vp_b (Int32.not_lt.mp c_1) (Int32.not_le.mp c_2) (by decide)) (wl_a24 _) ?_
      exact v_vret C dX7_sow_20 rfl ⟨rfl, by first | (simp only [soS, eq_false c_1, eq_true (Int32.not_lt.mp c_1), eq_false c_2, eq_true (Int32.not_le.mp c_2), ↓reduceIte]; done) | (simp only [soS, eq_false c_1, eq_true (Int32.not_lt.mp c_1), eq_false c_2, eq_true (Int32.not_le.mp c_2), ↓reduceIte] <;> rfl)⟩
set_option maxHeartbeats 4000000 in
set_option maxRecDepth 100000 in
theorem c_fault (l : Launch) (D : va_G) (b : Nat) (sc : Nat → Int32) (ar : Nat → Nat → Int32) (hn : Nat → Option Nat) (mh : Int64) (G : List va_E)  : Con l yX11_fault cX11_fault 2 (some .int) 5 107 D b 0 0 (wl D b sc ar hn mh G) [.ref (b + 0)] (fun r es' => ∃ v, r = some (.int v) ∧ fuP sc ar v ∧ wl D b sc ar hn mh G = es') := by
  refine con_of (by decide) (Nat.le_of_ble_eq_true rfl) (fun p e s m args below meth c C hsz => ?_)
  have C : vC p s m args meth c cX11_fault 2 RX11 "fault" (some .int) D b := C
  change V p l e _ s m args below meth c D b 2 _ 0 0 (wl D b sc ar hn mh G) [(0, .ref (b + 0))] [] 0
  refine v_iconst (n := 1) (v := 0) C dX11_fault_0 rfl (by decide) ?_
  refine v_istore_n (n := 2) (lv' := [(1, .int 0), (0, .ref (b + 0))]) C dX11_fault_1 rfl rfl (Nat.le_of_ble_eq_true rfl) rfl ?_
  refine v_pick (lv' := [(1, .int 0), (0, .ref (b + 0))]) [0, 1] rfl ?_
  have e_1 : (0 : Int32) = (nI 0) := rfl
  refine v_cong (es' := (wl D b sc ar hn mh G)) (lv' := [(1, .int (nI 0)), (0, .ref (b + 0))]) rfl (cg1 (fun (z0 : Int32) => ([(1, .int z0), (0, .ref (b + 0))] : List (Nat × Value))) e_1) ?_
  refine loop_dn (P := fun i_2 => (∀ j, j < i_2 → ¬ sc 0 ≤ nI j ∧ ¬ ftF (nI j) (ar 1 j) = 0) → V p l e { frames := 5, cells := 0, slots := 0, locals := 107 } s m args below meth c D b 2 (MQ below (cQ D b 0 (fun r es' => ∃ v, r = some (.int v) ∧ fuP sc ar v ∧ wl D b sc ar hn mh G = es')) args s 0 0 (fun q => b ≤ q)) 0 0 (wl D b sc ar hn mh G) [(1, .int (nI i_2)), (0, .ref (b + 0))] [] 2) 18 ?_ (fun i_2 hi_2 ih_2 => ?_) (fun j h => absurd h (Nat.not_lt_zero j))
  · skip
    intro hp_2
    have g_2 : (18 : Int32) ≤ (nI 18) := by decide
    refine v_iload_n (n := 3) C dX11_fault_2 rfl rfl rfl ?_
    refine v_aload_n (n := 4) C dX11_fault_3 rfl rfl rfl ?_
    refine v_get (n := 7) C dX11_fault_4 rfl fl_X11_66_X11 wl_c0 rfl ?_
    refine v_icmp_ge (t := 40) (n := 10) C dX11_fault_7 (by decide) rfl (fun c_3 => ?_) (fun c_3 => ?_)
    · skip
      refine v_aload_n (n := 41) C dX11_fault_40 rfl rfl rfl ?_
      refine v_get (n := 44) C dX11_fault_41 rfl fl_X11_66_X11 wl_c0 rfl ?_
      exact v_iret C dX11_fault_44 rfl rfl ⟨_, rfl, Or.inr ⟨rfl, Or.inr hp_2⟩, rfl⟩
    · skip
      refine v_iload_n (n := 11) C dX11_fault_10 rfl rfl rfl ?_
      refine v_aload_n (n := 12) C dX11_fault_11 rfl rfl rfl ?_
      refine v_get (n := 15) C dX11_fault_12 rfl fl_X11_9_X11 wl_c0 rfl ?_
      refine v_alen (n := 16) (v := 18) C dX11_fault_15 rfl wl_c1 rfl ?_
      refine v_icmp_ge (t := 40) (n := 19) C dX11_fault_16 (by decide) rfl (fun c_4 => ?_) (fun c_4 => ?_)
      · skip
        refine v_aload_n (n := 41) C dX11_fault_40 rfl rfl rfl ?_
        refine v_get (n := 44) C dX11_fault_41 rfl fl_X11_66_X11 wl_c0 rfl ?_
        exact v_iret C dX11_fault_44 rfl rfl ⟨_, rfl, Or.inr ⟨rfl, Or.inr hp_2⟩, rfl⟩
      · first | exact absurd c_4 g_2 | exact absurd g_2 c_4 | exact absurd c_4 (Int32.not_le.mpr g_2) | exact absurd c_4 (Int32.not_lt.mpr g_2) | exact absurd (Int32.not_le.mp g_2) c_4 | exact absurd (Int32.not_lt.mp g_2) c_4 | exact absurd (Int32.not_le.mp g_2) (Int32.not_lt.mpr c_4) | exact absurd (Int32.not_lt.mp g_2) (Int32.not_le.mpr c_4) | exact absurd (Int32.not_lt.mp c_4) (Int32.not_le.mpr (Int32.not_le.mp g_2))
  · skip
    intro hp_2
    have g_5 : ¬ (18 : Int32) ≤ (nI i_2) := nI_ge (a := i_2 + 0) (b := 18) (by omega) (by decide)
    refine v_iload_n (n := 3) C dX11_fault_2 rfl rfl rfl ?_
    refine v_aload_n (n := 4) C dX11_fault_3 rfl rfl rfl ?_
    refine v_get (n := 7) C dX11_fault_4 rfl fl_X11_66_X11 wl_c0 rfl ?_
    refine v_icmp_ge (t := 40) (n := 10) C dX11_fault_7 (by decide) rfl (fun c_6 => ?_) (fun c_6 => ?_)
    · skip
      refine v_aload_n (n := 41) C dX11_fault_40 rfl rfl rfl ?_
      refine v_get (n := 44) C dX11_fault_41 rfl fl_X11_66_X11 wl_c0 rfl ?_
      exact v_iret C dX11_fault_44 rfl rfl ⟨_, rfl, Or.inr ⟨rfl, Or.inl ⟨i_2, hi_2, c_6, hp_2⟩⟩, rfl⟩
    · skip
      refine v_iload_n (n := 11) C dX11_fault_10 rfl rfl rfl ?_
      refine v_aload_n (n := 12) C dX11_fault_11 rfl rfl rfl ?_
      refine v_get (n := 15) C dX11_fault_12 rfl fl_X11_9_X11 wl_c0 rfl ?_
      refine v_alen (n := 16) (v := 18) C dX11_fault_15 rfl wl_c1 rfl ?_
      refine v_icmp_ge (t := 40) (n := 19) C dX11_fault_16 (by decide) rfl (fun c_7 => ?_) (fun c_7 => ?_)
      · first | exact absurd c_7 g_5 | exact absurd g_5 c_7 | exact absurd c_7 (Int32.not_le.mpr g_5) | exact absurd c_7 (Int32.not_lt.mpr g_5) | exact absurd (Int32.not_le.mp g_5) c_7 | exact absurd (Int32.not_lt.mp g_5) c_7 | exact absurd (Int32.not_le.mp g_5) (Int32.not_lt.mpr c_7) | exact absurd (Int32.not_lt.mp g_5) (Int32.not_le.mpr c_7) | exact absurd (Int32.not_lt.mp c_7) (Int32.not_le.mpr (Int32.not_le.mp g_5))
      · skip
        refine v_iload_n (n := 20) C dX11_fault_19 rfl rfl rfl ?_
        refine v_aload_n (n := 21) C dX11_fault_20 rfl rfl rfl ?_
        refine v_get (n := 24) C dX11_fault_21 rfl fl_X11_9_X11 wl_c0 rfl ?_
        refine v_iload_n (n := 25) C dX11_fault_24 rfl rfl rfl ?_
        refine v_iald (n := 26) C dX11_fault_25 rfl wl_c1 (nI_vp hi_2 (by decide) (by decide)) ?_
        refine v_stk (st' := .int ((ar 1) i_2) :: [.int (nI i_2)]) (congrArg (fun z : Nat => Value.int ((ar 1) z) :: [.int (nI i_2)]) (nI_clamp (show i_2 < 2 ^ 31 by omega))) ?_
        refine v_go (n := 29) C (vRun_S (As := [.int (nI i_2), .int ((ar 1) i_2)]) (rest := []) C lk_X11_70 st_X11_fits dX11_fault_26 (c_fits l D b (wl D b sc ar hn mh G) (nI i_2) ((ar 1) i_2)) wm_X11_fits rfl rfl ⟨Nat.le_of_ble_eq_true rfl, Nat.le_of_ble_eq_true rfl⟩ ⟨Nat.le_of_ble_eq_true rfl, Nat.le_of_ble_eq_true rfl⟩ (Nat.le_of_ble_eq_true rfl)) rfl ?_
        rintro _ _ ⟨rfl, rfl⟩ -
        refine v_if_ne (t := 34) (n := 32) C dX11_fault_29 (by decide) rfl (fun c_8 => ?_) (fun c_8 => ?_)
        · skip
          refine v_iinc (n := 37) (v := ((nI i_2) + 1)) (lv' := [(1, .int ((nI i_2) + 1)), (0, .ref (b + 0))]) C dX11_fault_34 rfl rfl rfl (Nat.le_of_ble_eq_true rfl) rfl ?_
          refine v_goto (t := 2) C dX11_fault_37 (by decide) ?_
          refine v_pick (lv' := [(1, .int ((nI i_2) + 1)), (0, .ref (b + 0))]) [0, 1] rfl ?_
          have e_9 : ((nI i_2) + 1) = (nI (i_2 + 1)) := nI_1 _
          refine v_cong (es' := (wl D b sc ar hn mh G)) (lv' := [(1, .int (nI (i_2 + 1))), (0, .ref (b + 0))]) rfl (cg1 (fun (z0 : Int32) => ([(1, .int z0), (0, .ref (b + 0))] : List (Nat × Value))) e_9) ?_
          exact ih_2 (fun j hj => (Nat.lt_or_eq_of_le (Nat.le_of_lt_succ hj)).elim (fun q => hp_2 j q) (fun q => by subst q; exact ⟨c_6, c_8⟩))
        · skip
          refine v_iload_n (n := 33) C dX11_fault_32 rfl rfl rfl ?_
          exact v_iret C dX11_fault_33 rfl rfl ⟨_, rfl, Or.inl ⟨i_2, hi_2, c_6, rfl, c_8, hp_2⟩, rfl⟩
def dgF (ar : Nat → Nat → Int32) (i : Nat) : Int32 := diF (ar 1) (nI i + nI i / 4)
def hgN (ar : Nat → Nat → Int32) : Nat → (Nat → Int32)
  | 0 => ar 24
  | i + 1 => soS (hgN ar i) (nI i) (dgF ar i)
def smN (ar : Nat → Nat → Int32) : Nat → Int32
  | 0 => 0
  | i + 1 => smN ar i + dgF ar i
def plP (sc : Nat → Int32) (ar : Nat → Nat → Int32) (v : Int32) : Prop := ¬ sc 0 = 16 ∨ (∃ v, fuP sc ar v ∧ ¬ v = sc 0)
def plSc (sc : Nat → Int32) (ar : Nat → Nat → Int32) : Nat → Int32 := va_up (va_up (va_up (va_up (va_up (va_up (va_up (va_up sc 2 0) 3 0) 17 4) 4 0) 6 0) 16 (diF (ar 1) 15)) 1 (sc 1 + 1)) 0 0
set_option maxHeartbeats 4000000 in
set_option maxRecDepth 100000 in
theorem c_plain (l : Launch) (D : va_G) (b : Nat) (sc : Nat → Int32) (ar : Nat → Nat → Int32) (hn : Nat → Option Nat) (mh : Int64) (G : List va_E)  : Con l yX11_plain cX11_plain 4 (some .int) 6 128 D b 0 0 (wl D b sc ar hn mh G) [.ref (b + 0)] (fun r es' => (r = some (.int (-103)) ∧ (¬ sc 0 = 16 ∨ ∃ v, fuP sc ar v ∧ ¬ v = sc 0) ∧ wl D b sc ar hn mh G = es') ∨ (r = some (.int (smN ar 12)) ∧ sc 0 = 16 ∧ fuP sc ar (sc 0) ∧ wl D b (plSc sc ar) (va_up ar 24 (hgN ar 12)) (va_up (va_up (va_up hn 0 none) 1 none) 2 none) mh G = es')) := by
  refine con_of (by decide) (Nat.le_of_ble_eq_true rfl) (fun p e s m args below meth c C hsz => ?_)
  have C : vC p s m args meth c cX11_plain 4 RX11 "plain" (some .int) D b := C
  change V p l e _ s m args below meth c D b 4 _ 0 0 (wl D b sc ar hn mh G) [(0, .ref (b + 0))] [] 0
  refine v_aload_n (n := 1) C dX11_plain_0 rfl rfl rfl ?_
  refine v_get (n := 4) C dX11_plain_1 rfl fl_X11_66_X11 wl_c0 rfl ?_
  refine v_ldcS (n := 6) C rfl dX11_plain_4 rfl ?_
  refine v_go (n := 9) C (vRun_VS (As := []) (rest := [.int (sc 0)]) C lk_X11_76 im_J0_length_8abf5 se_J0_length_8abf5 dX11_plain_6 (c_Slength l D b (wl D b sc ar hn mh G)) wm_J0_length_8abf5 rfl rfl ⟨Nat.le_of_ble_eq_true rfl, Nat.le_of_ble_eq_true rfl⟩ ⟨Nat.le_of_ble_eq_true rfl, Nat.le_of_ble_eq_true rfl⟩ (Nat.le_of_ble_eq_true rfl)) rfl ?_
  rintro _ _ ⟨rfl, rfl⟩ -
  refine v_icmp_ne (t := 23) (n := 12) C dX11_plain_9 (by decide) rfl (fun c_1 => ?_) (fun c_1 => ?_)
  · skip
    refine v_bipush (n := 25) (v := -103) C dX11_plain_23 rfl (by decide) ?_
    exact v_iret C dX11_plain_25 rfl rfl (Or.inl ⟨rfl, Or.inl c_1, rfl⟩)
  · skip
    refine v_aload_n (n := 13) C dX11_plain_12 rfl rfl rfl ?_
    refine v_go (n := 16) C (vRun_V (As := []) (rest := []) C wl_c0 rfl lk_X11_82 im_X11_fault se_X11_fault dX11_plain_13 (c_fault l D b sc ar hn mh G) wm_X11_fault rfl rfl ⟨Nat.le_of_ble_eq_true rfl, Nat.le_of_ble_eq_true rfl⟩ ⟨Nat.le_of_ble_eq_true rfl, Nat.le_of_ble_eq_true rfl⟩ (Nat.le_of_ble_eq_true rfl)) rfl ?_
    rintro _ _ ⟨v2, rfl, hfu, rfl⟩ -
    refine v_aload_n (n := 17) C dX11_plain_16 rfl rfl rfl ?_
    refine v_get (n := 20) C dX11_plain_17 rfl fl_X11_66_X11 wl_c0 rfl ?_
    refine v_icmp_eq (t := 26) (n := 23) C dX11_plain_20 (by decide) rfl (fun c_3 => ?_) (fun c_3 => ?_)
    · skip
      refine v_aload_n (n := 27) C dX11_plain_26 rfl rfl rfl ?_
      refine v_go (n := 30) C (vRun_V (As := []) (rest := []) C wl_c0 rfl lk_X11_85 im_X11_forgetAll se_X11_forgetAll dX11_plain_27 (c_forgetAll l D b sc ar hn mh G) wm_X11_forgetAll rfl rfl ⟨Nat.le_of_ble_eq_true rfl, Nat.le_of_ble_eq_true rfl⟩ ⟨Nat.le_of_ble_eq_true rfl, Nat.le_of_ble_eq_true rfl⟩ (Nat.le_of_ble_eq_true rfl)) rfl ?_
      rintro _ _ ⟨rfl, rfl⟩ -
      refine v_iconst (n := 31) (v := 0) C dX11_plain_30 rfl (by decide) ?_
      refine v_istore_n (n := 32) (lv' := [(1, .int 0), (0, .ref (b + 0))]) C dX11_plain_31 rfl rfl (Nat.le_of_ble_eq_true rfl) rfl ?_
      refine v_iconst (n := 33) (v := 0) C dX11_plain_32 rfl (by decide) ?_
      refine v_istore_n (n := 34) (lv' := [(2, .int 0), (1, .int 0), (0, .ref (b + 0))]) C dX11_plain_33 rfl rfl (Nat.le_of_ble_eq_true rfl) rfl ?_
      refine v_pick (lv' := [(2, .int 0), (0, .ref (b + 0)), (1, .int 0)]) [0, 2, 1] rfl ?_
      have e_4 : (0 : Int32) = (nI 0) := rfl
      have e_5 : (0 : Int32) = (smN ar 0) := rfl
      refine v_cong (es' := (wl D b (va_up (va_up (va_up (va_up (va_up sc 2 0) 3 0) 17 4) 4 0) 6 0) (va_up ar 24 (ar 24)) (va_up (va_up (va_up hn 0 none) 1 none) 2 none) mh G)) (lv' := [(2, .int 0), (0, .ref (b + 0)), (1, .int 0)]) rfl rfl ?_
      have e_6 : ((ar 24) : Nat → Int32) = (hgN ar 0) := rfl
      refine v_cong (es' := (wl D b (va_up (va_up (va_up (va_up (va_up sc 2 0) 3 0) 17 4) 4 0) 6 0) (va_up ar 24 (hgN ar 0)) (va_up (va_up (va_up hn 0 none) 1 none) 2 none) mh G)) (lv' := [(2, .int (nI 0)), (0, .ref (b + 0)), (1, .int (smN ar 0))]) (cg1 (fun (y0 : Nat → Int32) => wl D b (va_up (va_up (va_up (va_up (va_up sc 2 0) 3 0) 17 4) 4 0) 6 0) (va_up ar 24 y0) (va_up (va_up (va_up hn 0 none) 1 none) 2 none) mh G) e_6) (cg2 (fun (z0 : Int32) (z1 : Int32) => ([(2, .int z0), (0, .ref (b + 0)), (1, .int z1)] : List (Nat × Value))) e_4 e_5) ?_
      refine loop_dn (P := fun i_34 => V p l e { frames := 6, cells := 0, slots := 0, locals := 128 } s m args below meth c D b 4 (MQ below (cQ D b 0 (fun r es' => (r = some (.int (-103)) ∧ (¬ sc 0 = 16 ∨ ∃ v, fuP sc ar v ∧ ¬ v = sc 0) ∧ wl D b sc ar hn mh G = es') ∨ (r = some (.int (smN ar 12)) ∧ sc 0 = 16 ∧ fuP sc ar (sc 0) ∧ wl D b (plSc sc ar) (va_up ar 24 (hgN ar 12)) (va_up (va_up (va_up hn 0 none) 1 none) 2 none) mh G = es'))) args s 0 0 (fun q => b ≤ q)) 0 0 (wl D b (va_up (va_up (va_up (va_up (va_up sc 2 0) 3 0) 17 4) 4 0) 6 0) (va_up ar 24 (hgN ar i_34)) (va_up (va_up (va_up hn 0 none) 1 none) 2 none) mh G) [(2, .int (nI i_34)), (0, .ref (b + 0)), (1, .int (smN ar i_34))] [] 34) 12 ?_ (fun i_34 hi_34 ih_34 => ?_)
      · skip
        have g_7 : (12 : Int32) ≤ (nI 12) := by decide
        refine v_iload_n (n := 35) C dX11_plain_34 rfl rfl rfl ?_
        refine v_bipush (n := 37) (v := 12) C dX11_plain_35 rfl (by decide) ?_
        refine v_icmp_ge (t := 69) (n := 40) C dX11_plain_37 (by decide) rfl (fun c_8 => ?_) (fun c_8 => ?_)
        · skip
          refine v_aload_n (n := 70) C dX11_plain_69 rfl rfl rfl ?_
          refine v_get (n := 73) C dX11_plain_70 rfl fl_X11_59_X11 (show (wl D b (va_up (va_up (va_up (va_up (va_up sc 2 0) 3 0) 17 4) 4 0) 6 0) (va_up ar 24 (hgN ar 12)) (va_up (va_up (va_up hn 0 none) 1 none) 2 none) mh G)[0]? = some (.inr (11, [.ref (b + 1), .int (sc 0), .int (sc 1), .ref (b + 25), .ref (b + 26), .ref (b + 2), .int 0, .int 0, .ref (b + 3), .ref (b + 9), .ref (b + 18), .ref (b + 21), .ref (b + 22)])) from wl_c0) rfl ?_
          refine v_aload_n (n := 74) C dX11_plain_73 rfl rfl rfl ?_
          refine v_ldcS (n := 76) C rfl dX11_plain_74 rfl ?_
          refine v_go (n := 79) C (vRun_VS (As := []) (rest := [.ref (b + 0), .ref (b + 25)]) C lk_X11_76 im_J0_length_8abf5 se_J0_length_8abf5 dX11_plain_76 (c_Slength l D b (wl D b (va_up (va_up (va_up (va_up (va_up sc 2 0) 3 0) 17 4) 4 0) 6 0) (va_up ar 24 (hgN ar 12)) (va_up (va_up (va_up hn 0 none) 1 none) 2 none) mh G)) wm_J0_length_8abf5 rfl rfl ⟨Nat.le_of_ble_eq_true rfl, Nat.le_of_ble_eq_true rfl⟩ ⟨Nat.le_of_ble_eq_true rfl, Nat.le_of_ble_eq_true rfl⟩ (Nat.le_of_ble_eq_true rfl)) rfl ?_
          rintro _ _ ⟨rfl, rfl⟩ -
          refine v_iconst (n := 80) (v := 1) C dX11_plain_79 rfl (by decide) ?_
          refine v_isub (n := 81) C dX11_plain_80 rfl ?_
          refine v_go (n := 84) C (vRun_V (As := [.int (16 - 1)]) (rest := [.ref (b + 25)]) C (show (wl D b (va_up (va_up (va_up (va_up (va_up sc 2 0) 3 0) 17 4) 4 0) 6 0) (va_up ar 24 (hgN ar 12)) (va_up (va_up (va_up hn 0 none) 1 none) 2 none) mh G)[0]? = some (.inr (11, [.ref (b + 1), .int (sc 0), .int (sc 1), .ref (b + 25), .ref (b + 26), .ref (b + 2), .int 0, .int 0, .ref (b + 3), .ref (b + 9), .ref (b + 18), .ref (b + 21), .ref (b + 22)])) from wl_c0) rfl lk_X11_88 im_X11_digitAt se_X11_digitAt dX11_plain_81 (c_digitAt l D b (va_up (va_up (va_up (va_up (va_up sc 2 0) 3 0) 17 4) 4 0) 6 0) (va_up ar 24 (hgN ar 12)) (va_up (va_up (va_up hn 0 none) 1 none) 2 none) mh G (16 - 1)) wm_X11_digitAt rfl rfl ⟨Nat.le_of_ble_eq_true rfl, Nat.le_of_ble_eq_true rfl⟩ ⟨Nat.le_of_ble_eq_true rfl, Nat.le_of_ble_eq_true rfl⟩ (Nat.le_of_ble_eq_true rfl)) rfl ?_
          rintro _ _ ⟨rfl, rfl⟩ -
          refine v_put (n := 87) (es' := (wl D b (va_up (va_up (va_up (va_up (va_up (va_up sc 2 0) 3 0) 17 4) 4 0) 6 0) 16 (diF (ar 1) (16 - 1))) (va_up ar 24 (hgN ar 12)) (va_up (va_up (va_up hn 0 none) 1 none) 2 none) mh G)) C dX11_plain_84 rfl fl_X11_96_X7 (fp_any fp_X7_1) (show (wl D b (va_up (va_up (va_up (va_up (va_up sc 2 0) 3 0) 17 4) 4 0) 6 0) (va_up ar 24 (hgN ar 12)) (va_up (va_up (va_up hn 0 none) 1 none) 2 none) mh G)[25]? = some (.inr (7, [.ref (b + 24), .int (sc 16), .int 4])) from wl_c25) rfl rfl (Nat.le_of_ble_eq_true rfl) wl_p25_1 ?_
          refine v_aload_n (n := 88) C dX11_plain_87 rfl rfl rfl ?_
          refine v_dup (n := 89) C dX11_plain_88 rfl rfl ?_
          refine v_get (n := 92) C dX11_plain_89 rfl fl_X11_99_X11 (show (wl D b (va_up (va_up (va_up (va_up (va_up (va_up sc 2 0) 3 0) 17 4) 4 0) 6 0) 16 (diF (ar 1) (16 - 1))) (va_up ar 24 (hgN ar 12)) (va_up (va_up (va_up hn 0 none) 1 none) 2 none) mh G)[0]? = some (.inr (11, [.ref (b + 1), .int (sc 0), .int (sc 1), .ref (b + 25), .ref (b + 26), .ref (b + 2), .int 0, .int 0, .ref (b + 3), .ref (b + 9), .ref (b + 18), .ref (b + 21), .ref (b + 22)])) from wl_c0) rfl ?_
          refine v_iconst (n := 93) (v := 1) C dX11_plain_92 rfl (by decide) ?_
          refine v_iadd (n := 94) C dX11_plain_93 rfl ?_
          refine v_put (n := 97) (es' := (wl D b (va_up (va_up (va_up (va_up (va_up (va_up (va_up sc 2 0) 3 0) 17 4) 4 0) 6 0) 16 (diF (ar 1) (16 - 1))) 1 ((sc 1) + 1)) (va_up ar 24 (hgN ar 12)) (va_up (va_up (va_up hn 0 none) 1 none) 2 none) mh G)) C dX11_plain_94 rfl fl_X11_99_X11 (fp_any fp_X11_2) (show (wl D b (va_up (va_up (va_up (va_up (va_up (va_up sc 2 0) 3 0) 17 4) 4 0) 6 0) 16 (diF (ar 1) (16 - 1))) (va_up ar 24 (hgN ar 12)) (va_up (va_up (va_up hn 0 none) 1 none) 2 none) mh G)[0]? = some (.inr (11, [.ref (b + 1), .int (sc 0), .int (sc 1), .ref (b + 25), .ref (b + 26), .ref (b + 2), .int 0, .int 0, .ref (b + 3), .ref (b + 9), .ref (b + 18), .ref (b + 21), .ref (b + 22)])) from wl_c0) rfl rfl (Nat.le_of_ble_eq_true rfl) wl_p0_2 ?_
          refine v_aload_n (n := 98) C dX11_plain_97 rfl rfl rfl ?_
          refine v_iconst (n := 99) (v := 0) C dX11_plain_98 rfl (by decide) ?_
          refine v_put (n := 102) (es' := (wl D b (va_up (va_up (va_up (va_up (va_up (va_up (va_up (va_up sc 2 0) 3 0) 17 4) 4 0) 6 0) 16 (diF (ar 1) (16 - 1))) 1 ((sc 1) + 1)) 0 0) (va_up ar 24 (hgN ar 12)) (va_up (va_up (va_up hn 0 none) 1 none) 2 none) mh G)) C dX11_plain_99 rfl fl_X11_66_X11 (fp_any fp_X11_1) (show (wl D b (va_up (va_up (va_up (va_up (va_up (va_up (va_up sc 2 0) 3 0) 17 4) 4 0) 6 0) 16 (diF (ar 1) (16 - 1))) 1 ((sc 1) + 1)) (va_up ar 24 (hgN ar 12)) (va_up (va_up (va_up hn 0 none) 1 none) 2 none) mh G)[0]? = some (.inr (11, [.ref (b + 1), .int (sc 0), .int ((sc 1) + 1), .ref (b + 25), .ref (b + 26), .ref (b + 2), .int 0, .int 0, .ref (b + 3), .ref (b + 9), .ref (b + 18), .ref (b + 21), .ref (b + 22)])) from wl_c0) rfl rfl (Nat.le_of_ble_eq_true rfl) wl_p0_1 ?_
          refine v_iload_n (n := 103) C dX11_plain_102 rfl rfl rfl ?_
          exact v_iret C dX11_plain_103 rfl rfl (Or.inr ⟨rfl, c_1, c_3 ▸ hfu, rfl⟩)
        · first | exact absurd c_8 g_7 | exact absurd g_7 c_8 | exact absurd c_8 (Int32.not_le.mpr g_7) | exact absurd c_8 (Int32.not_lt.mpr g_7) | exact absurd (Int32.not_le.mp g_7) c_8 | exact absurd (Int32.not_lt.mp g_7) c_8 | exact absurd (Int32.not_le.mp g_7) (Int32.not_lt.mpr c_8) | exact absurd (Int32.not_lt.mp g_7) (Int32.not_le.mpr c_8) | exact absurd (Int32.not_lt.mp c_8) (Int32.not_le.mpr (Int32.not_le.mp g_7))
      · skip
        have g_9 : ¬ (12 : Int32) ≤ (nI i_34) := nI_ge (a := i_34 + 0) (b := 12) (by omega) (by decide)
        refine v_iload_n (n := 35) C dX11_plain_34 rfl rfl rfl ?_
        refine v_bipush (n := 37) (v := 12) C dX11_plain_35 rfl (by decide) ?_
        refine v_icmp_ge (t := 69) (n := 40) C dX11_plain_37 (by decide) rfl (fun c_10 => ?_) (fun c_10 => ?_)
        · first | exact absurd c_10 g_9 | exact absurd g_9 c_10 | exact absurd c_10 (Int32.not_le.mpr g_9) | exact absurd c_10 (Int32.not_lt.mpr g_9) | exact absurd (Int32.not_le.mp g_9) c_10 | exact absurd (Int32.not_lt.mp g_9) c_10 | exact absurd (Int32.not_le.mp g_9) (Int32.not_lt.mpr c_10) | exact absurd (Int32.not_lt.mp g_9) (Int32.not_le.mpr c_10) | exact absurd (Int32.not_lt.mp c_10) (Int32.not_le.mpr (Int32.not_le.mp g_9))
        · skip
          refine v_aload_n (n := 41) C dX11_plain_40 rfl rfl rfl ?_
          refine v_iload_n (n := 42) C dX11_plain_41 rfl rfl rfl ?_
          refine v_iload_n (n := 43) C dX11_plain_42 rfl rfl rfl ?_
          refine v_iconst (n := 44) (v := 4) C dX11_plain_43 rfl (by decide) ?_
          refine v_idiv (n := 45) C dX11_plain_44 rfl (by decide) ?_
          refine v_iadd (n := 46) C dX11_plain_45 rfl ?_
          refine v_go (n := 49) C (vRun_V (As := [.int ((nI i_34) + ((nI i_34) / 4))]) (rest := []) C (show (wl D b (va_up (va_up (va_up (va_up (va_up sc 2 0) 3 0) 17 4) 4 0) 6 0) (va_up ar 24 (hgN ar i_34)) (va_up (va_up (va_up hn 0 none) 1 none) 2 none) mh G)[0]? = some (.inr (11, [.ref (b + 1), .int (sc 0), .int (sc 1), .ref (b + 25), .ref (b + 26), .ref (b + 2), .int 0, .int 0, .ref (b + 3), .ref (b + 9), .ref (b + 18), .ref (b + 21), .ref (b + 22)])) from wl_c0) rfl lk_X11_88 im_X11_digitAt se_X11_digitAt dX11_plain_46 (c_digitAt l D b (va_up (va_up (va_up (va_up (va_up sc 2 0) 3 0) 17 4) 4 0) 6 0) (va_up ar 24 (hgN ar i_34)) (va_up (va_up (va_up hn 0 none) 1 none) 2 none) mh G ((nI i_34) + ((nI i_34) / 4))) wm_X11_digitAt rfl rfl ⟨Nat.le_of_ble_eq_true rfl, Nat.le_of_ble_eq_true rfl⟩ ⟨Nat.le_of_ble_eq_true rfl, Nat.le_of_ble_eq_true rfl⟩ (Nat.le_of_ble_eq_true rfl)) rfl ?_
          rintro _ _ ⟨rfl, rfl⟩ -
          refine v_istore_n (n := 50) (lv' := [(3, .int (diF (ar 1) ((nI i_34) + ((nI i_34) / 4)))), (2, .int (nI i_34)), (0, .ref (b + 0)), (1, .int (smN ar i_34))]) C dX11_plain_49 rfl rfl (Nat.le_of_ble_eq_true rfl) rfl ?_
          refine v_aload_n (n := 51) C dX11_plain_50 rfl rfl rfl ?_
          refine v_get (n := 54) C dX11_plain_51 rfl fl_X11_59_X11 (show (wl D b (va_up (va_up (va_up (va_up (va_up sc 2 0) 3 0) 17 4) 4 0) 6 0) (va_up ar 24 (hgN ar i_34)) (va_up (va_up (va_up hn 0 none) 1 none) 2 none) mh G)[0]? = some (.inr (11, [.ref (b + 1), .int (sc 0), .int (sc 1), .ref (b + 25), .ref (b + 26), .ref (b + 2), .int 0, .int 0, .ref (b + 3), .ref (b + 9), .ref (b + 18), .ref (b + 21), .ref (b + 22)])) from wl_c0) rfl ?_
          refine v_iload_n (n := 55) C dX11_plain_54 rfl rfl rfl ?_
          refine v_iload_n (n := 56) C dX11_plain_55 rfl rfl rfl ?_
          refine v_go (n := 59) C (vRun_V (As := [.int (nI i_34), .int (diF (ar 1) ((nI i_34) + ((nI i_34) / 4)))]) (rest := []) C (show (wl D b (va_up (va_up (va_up (va_up (va_up sc 2 0) 3 0) 17 4) 4 0) 6 0) (va_up ar 24 (hgN ar i_34)) (va_up (va_up (va_up hn 0 none) 1 none) 2 none) mh G)[25]? = some (.inr (7, [.ref (b + 24), .int (sc 16), .int 4])) from wl_c25) rfl lk_X11_92 im_X7_sow se_X7_sow dX11_plain_56 (c_sow l D b (va_up (va_up (va_up (va_up (va_up sc 2 0) 3 0) 17 4) 4 0) 6 0) (va_up ar 24 (hgN ar i_34)) (va_up (va_up (va_up hn 0 none) 1 none) 2 none) mh G (nI i_34) (diF (ar 1) ((nI i_34) + ((nI i_34) / 4)))) wm_X7_sow rfl rfl ⟨Nat.le_of_ble_eq_true rfl, Nat.le_of_ble_eq_true rfl⟩ ⟨Nat.le_of_ble_eq_true rfl, Nat.le_of_ble_eq_true rfl⟩ (Nat.le_of_ble_eq_true rfl)) rfl ?_
          rintro _ _ ⟨rfl, rfl⟩ -
          refine v_cong (es' := (wl D b (va_up (va_up (va_up (va_up (va_up sc 2 0) 3 0) 17 4) 4 0) 6 0) (va_up ar 24 (soS (hgN ar i_34) (nI i_34) (diF (ar 1) ((nI i_34) + ((nI i_34) / 4))))) (va_up (va_up (va_up hn 0 none) 1 none) 2 none) mh G)) (lv' := [(3, .int (diF (ar 1) ((nI i_34) + ((nI i_34) / 4)))), (2, .int (nI i_34)), (0, .ref (b + 0)), (1, .int (smN ar i_34))]) rfl rfl ?_
          refine v_iload_n (n := 60) C dX11_plain_59 rfl rfl rfl ?_
          refine v_iload_n (n := 61) C dX11_plain_60 rfl rfl rfl ?_
          refine v_iadd (n := 62) C dX11_plain_61 rfl ?_
          refine v_istore_n (n := 63) (lv' := [(1, .int ((smN ar i_34) + (diF (ar 1) ((nI i_34) + ((nI i_34) / 4))))), (3, .int (diF (ar 1) ((nI i_34) + ((nI i_34) / 4)))), (2, .int (nI i_34)), (0, .ref (b + 0))]) C dX11_plain_62 rfl rfl (Nat.le_of_ble_eq_true rfl) rfl ?_
          refine v_iinc (n := 66) (v := ((nI i_34) + 1)) (lv' := [(2, .int ((nI i_34) + 1)), (1, .int ((smN ar i_34) + (diF (ar 1) ((nI i_34) + ((nI i_34) / 4))))), (3, .int (diF (ar 1) ((nI i_34) + ((nI i_34) / 4)))), (0, .ref (b + 0))]) C dX11_plain_63 rfl rfl rfl (Nat.le_of_ble_eq_true rfl) rfl ?_
          refine v_goto (t := 34) C dX11_plain_66 (by decide) ?_
          refine v_pick (lv' := [(2, .int ((nI i_34) + 1)), (0, .ref (b + 0)), (1, .int ((smN ar i_34) + (diF (ar 1) ((nI i_34) + ((nI i_34) / 4)))))]) [0, 3, 1] rfl ?_
          have e_11 : ((nI i_34) + 1) = (nI (i_34 + 1)) := nI_1 _
          have e_12 : (((smN ar i_34) + (diF (ar 1) ((nI i_34) + ((nI i_34) / 4)))) : Int32) = (smN ar (i_34 + 1)) := rfl
          have e_13 : ((soS (hgN ar i_34) (nI i_34) (diF (ar 1) ((nI i_34) + ((nI i_34) / 4)))) : Nat → Int32) = (hgN ar (i_34 + 1)) := rfl
          refine v_cong (es' := (wl D b (va_up (va_up (va_up (va_up (va_up sc 2 0) 3 0) 17 4) 4 0) 6 0) (va_up ar 24 (hgN ar (i_34 + 1))) (va_up (va_up (va_up hn 0 none) 1 none) 2 none) mh G)) (lv' := [(2, .int (nI (i_34 + 1))), (0, .ref (b + 0)), (1, .int (smN ar (i_34 + 1)))]) (cg1 (fun (y0 : Nat → Int32) => wl D b (va_up (va_up (va_up (va_up (va_up sc 2 0) 3 0) 17 4) 4 0) 6 0) (va_up ar 24 y0) (va_up (va_up (va_up hn 0 none) 1 none) 2 none) mh G) e_13) (cg2 (fun (z0 : Int32) (z1 : Int32) => ([(2, .int z0), (0, .ref (b + 0)), (1, .int z1)] : List (Nat × Value))) e_11 e_12) ?_
          exact ih_34
    · skip
      refine v_bipush (n := 25) (v := -103) C dX11_plain_23 rfl (by decide) ?_
      exact v_iret C dX11_plain_25 rfl rfl (Or.inl ⟨rfl, Or.inr ⟨_, hfu, c_3⟩, rfl⟩)
