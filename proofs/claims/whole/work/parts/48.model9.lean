theorem pg_all : ∀ i, i < 12 → 0 ≤ (nI i + nI i / 4).toInt ∧ (nI i + nI i / 4).toInt < ((18 : Nat) : Int) := by decide +kernel
def mhgN (ar : Nat → Nat → Int32) : Nat → (Nat → Int32)
  | 0 => ar 29
  | i + 1 => upd (mhgN ar i) i (ar 28 (nI i + nI i / 4).toNatClampNeg - 48)
def msmN (ar : Nat → Nat → Int32) : Nat → Int32
  | 0 => 0
  | i + 1 => msmN ar i + mhgN ar (i + 1) i
def mplSc (sc : Nat → Int32) (ar : Nat → Nat → Int32) : Nat → Int32 := va_up (va_up (va_up (va_up (va_up (va_up (va_up sc 21 (ar 28 15 - 48)) 22 0) 23 4) 25 0) 28 0) 24 (sc 24 + 1)) 20 0
set_option maxHeartbeats 4000000 in
set_option maxRecDepth 100000 in
theorem m_plain (l : Launch) (D : va_G) (b : Nat) (sc : Nat → Int32) (ar : Nat → Nat → Int32) (hn : Nat → Option Nat) (mh : Int64) (G : List va_E) (Pn : Nat) (hP : sc 20 = nI Pn) (hP18 : Pn ≤ 18) : Con l yX12_plain cX12_plain 3 (some .int) 3 67 D b 0 0 (wl D b sc ar hn mh G) [.ref (b + 27)] (fun r es' => (r = some (.int (-103)) ∧ (¬ sc 20 = 16 ∨ ∃ v, mfu2 ar Pn v ∧ v < 16) ∧ wl D b sc ar hn mh G = es') ∨ (r = some (.int (msmN ar 12)) ∧ sc 20 = 16 ∧ (∃ v, mfu2 ar Pn v ∧ ¬ v < 16) ∧ wl D b (mplSc sc ar) (va_up ar 29 (mhgN ar 12)) hn mh G = es')) := by
  refine con_of (by decide) (Nat.le_of_ble_eq_true rfl) (fun p e s m args below meth c C hsz => ?_)
  have C : vC p s m args meth c cX12_plain 3 RX12 "plain" (some .int) D b := C
  change V p l e _ s m args below meth c D b 3 _ 0 0 (wl D b sc ar hn mh G) [(0, .ref (b + 27))] [] 0
  refine v_aload_n (n := 1) C dX12_plain_0 rfl rfl rfl ?_
  refine v_get (n := 4) C dX12_plain_1 rfl fl_X12_59_X12 wl_c27 rfl ?_
  refine v_bipush (n := 6) (v := 16) C dX12_plain_4 rfl (by decide) ?_
  refine v_icmp_ne (t := 18) (n := 9) C dX12_plain_6 (by decide) rfl (fun c_1 => ?_) (fun c_1 => ?_)
  · skip
    refine v_bipush (n := 20) (v := -103) C dX12_plain_18 rfl (by decide) ?_
    exact v_iret C dX12_plain_20 rfl rfl (Or.inl ⟨rfl, Or.inl c_1, rfl⟩)
  · skip
    refine v_aload_n (n := 10) C dX12_plain_9 rfl rfl rfl ?_
    refine v_go (n := 13) C (vRun_V (As := []) (rest := []) C wl_c27 rfl lk_X12_68 im_X12_faultOf se_X12_faultOf dX12_plain_10 (m_faultOf l D b sc ar hn mh G Pn hP hP18) wm_X12_faultOf rfl rfl ⟨Nat.le_of_ble_eq_true rfl, Nat.le_of_ble_eq_true rfl⟩ ⟨Nat.le_of_ble_eq_true rfl, Nat.le_of_ble_eq_true rfl⟩ (Nat.le_of_ble_eq_true rfl)) rfl ?_
    rintro _ _ ⟨v2, rfl, hfu, rfl⟩ -
    refine v_bipush (n := 15) (v := 16) C dX12_plain_13 rfl (by decide) ?_
    refine v_icmp_ge (t := 21) (n := 18) C dX12_plain_15 (by decide) rfl (fun c_3 => ?_) (fun c_3 => ?_)
    · skip
      refine v_iconst (n := 22) (v := 0) C dX12_plain_21 rfl (by decide) ?_
      refine v_istore_n (n := 23) (lv' := [(1, .int 0), (0, .ref (b + 27))]) C dX12_plain_22 rfl rfl (Nat.le_of_ble_eq_true rfl) rfl ?_
      refine v_iconst (n := 24) (v := 0) C dX12_plain_23 rfl (by decide) ?_
      refine v_istore_n (n := 25) (lv' := [(2, .int 0), (1, .int 0), (0, .ref (b + 27))]) C dX12_plain_24 rfl rfl (Nat.le_of_ble_eq_true rfl) rfl ?_
      refine v_pick (lv' := [(2, .int 0), (0, .ref (b + 27)), (1, .int 0)]) [0, 2, 1] rfl ?_
      have e_4 : (0 : Int32) = (nI 0) := rfl
      have e_5 : (0 : Int32) = (msmN ar 0) := rfl
      refine v_cong (es' := (wl D b sc (va_up ar 29 (ar 29)) hn mh G)) (lv' := [(2, .int 0), (0, .ref (b + 27)), (1, .int 0)]) rfl rfl ?_
      have e_6 : ((ar 29) : Nat → Int32) = (mhgN ar 0) := rfl
      refine v_cong (es' := (wl D b sc (va_up ar 29 (mhgN ar 0)) hn mh G)) (lv' := [(2, .int (nI 0)), (0, .ref (b + 27)), (1, .int (msmN ar 0))]) (cg1 (fun (y0 : Nat → Int32) => wl D b sc (va_up ar 29 y0) hn mh G) e_6) (cg2 (fun (z0 : Int32) (z1 : Int32) => ([(2, .int z0), (0, .ref (b + 27)), (1, .int z1)] : List (Nat × Value))) e_4 e_5) ?_
      refine loop_dn (P := fun i_25 => V p l e { frames := 3, cells := 0, slots := 0, locals := 67 } s m args below meth c D b 3 (MQ below (cQ D b 0 (fun r es' => (r = some (.int (-103)) ∧ (¬ sc 20 = 16 ∨ ∃ v, mfu2 ar Pn v ∧ v < 16) ∧ wl D b sc ar hn mh G = es') ∨ (r = some (.int (msmN ar 12)) ∧ sc 20 = 16 ∧ (∃ v, mfu2 ar Pn v ∧ ¬ v < 16) ∧ wl D b (mplSc sc ar) (va_up ar 29 (mhgN ar 12)) hn mh G = es'))) args s 0 0 (fun q => b ≤ q)) 0 0 (wl D b sc (va_up ar 29 (mhgN ar i_25)) hn mh G) [(2, .int (nI i_25)), (0, .ref (b + 27)), (1, .int (msmN ar i_25))] [] 25) 12 ?_ (fun i_25 hi_25 ih_25 => ?_)
      · skip
        have g_7 : (12 : Int32) ≤ (nI 12) := by decide
        refine v_iload_n (n := 26) C dX12_plain_25 rfl rfl rfl ?_
        refine v_bipush (n := 28) (v := 12) C dX12_plain_26 rfl (by decide) ?_
        refine v_icmp_ge (t := 65) (n := 31) C dX12_plain_28 (by decide) rfl (fun c_8 => ?_) (fun c_8 => ?_)
        · skip
          refine v_aload_n (n := 66) C dX12_plain_65 rfl rfl rfl ?_
          refine v_aload_n (n := 67) C dX12_plain_66 rfl rfl rfl ?_
          refine v_get (n := 70) C dX12_plain_67 rfl fl_X12_7_X12 wl_c27 rfl ?_
          refine v_bipush (n := 72) (v := 15) C dX12_plain_70 rfl (by decide) ?_
          refine v_iald (n := 73) C dX12_plain_72 rfl (show (wl D b sc (va_up ar 29 (mhgN ar 12)) hn mh G)[28]? = some (.inl (D.1 13, 18, .inl (ar 28))) from wl_c28) (vp_lit (by decide) (by decide)) ?_
          refine v_bipush (n := 75) (v := 48) C dX12_plain_73 rfl (by decide) ?_
          refine v_isub (n := 76) C dX12_plain_75 rfl ?_
          refine v_put (n := 79) (es' := (wl D b (va_up sc 21 (((ar 28) (Int32.toNatClampNeg 15)) - 48)) (va_up ar 29 (mhgN ar 12)) hn mh G)) C dX12_plain_76 rfl fl_X12_72_X12 (fp_any fp_X12_2) wl_c27 rfl rfl (Nat.le_of_ble_eq_true rfl) wl_p27_2 ?_
          refine v_aload_n (n := 80) C dX12_plain_79 rfl rfl rfl ?_
          refine v_iconst (n := 81) (v := 0) C dX12_plain_80 rfl (by decide) ?_
          refine v_put (n := 84) (es' := (wl D b (va_up (va_up sc 21 (((ar 28) (Int32.toNatClampNeg 15)) - 48)) 22 0) (va_up ar 29 (mhgN ar 12)) hn mh G)) C dX12_plain_81 rfl fl_X12_75_X12 (fp_any fp_X12_3) (show (wl D b (va_up sc 21 (((ar 28) (Int32.toNatClampNeg 15)) - 48)) (va_up ar 29 (mhgN ar 12)) hn mh G)[27]? = some (.inr (12, [.ref (b + 28), .int (sc 20), .int (((ar 28) (Int32.toNatClampNeg 15)) - 48), .int (sc 22), .int (sc 23), .int (sc 24), .ref (b + 29), .int (sc 25), .ref (b + 30), .ref (b + 31), .ref (b + 32), .ref (b + 33), .ref (b + 34), .int (sc 26), .int (sc 27), .int (sc 28), .ref (b + 35), .ref (b + 36), .int (sc 29), .ref (b + 37), .int (sc 30), .int (sc 31), .int (sc 32), .int (sc 33), .int (sc 34), .ref (b + 38), .ref (b + 39), .long mh])) from wl_c27) rfl rfl (Nat.le_of_ble_eq_true rfl) wl_p27_3 ?_
          refine v_aload_n (n := 85) C dX12_plain_84 rfl rfl rfl ?_
          refine v_iconst (n := 86) (v := 4) C dX12_plain_85 rfl (by decide) ?_
          refine v_put (n := 89) (es' := (wl D b (va_up (va_up (va_up sc 21 (((ar 28) (Int32.toNatClampNeg 15)) - 48)) 22 0) 23 4) (va_up ar 29 (mhgN ar 12)) hn mh G)) C dX12_plain_86 rfl fl_X12_50_X12 (fp_any fp_X12_4) (show (wl D b (va_up (va_up sc 21 (((ar 28) (Int32.toNatClampNeg 15)) - 48)) 22 0) (va_up ar 29 (mhgN ar 12)) hn mh G)[27]? = some (.inr (12, [.ref (b + 28), .int (sc 20), .int (((ar 28) (Int32.toNatClampNeg 15)) - 48), .int 0, .int (sc 23), .int (sc 24), .ref (b + 29), .int (sc 25), .ref (b + 30), .ref (b + 31), .ref (b + 32), .ref (b + 33), .ref (b + 34), .int (sc 26), .int (sc 27), .int (sc 28), .ref (b + 35), .ref (b + 36), .int (sc 29), .ref (b + 37), .int (sc 30), .int (sc 31), .int (sc 32), .int (sc 33), .int (sc 34), .ref (b + 38), .ref (b + 39), .long mh])) from wl_c27) rfl rfl (Nat.le_of_ble_eq_true rfl) wl_p27_4 ?_
          refine v_aload_n (n := 90) C dX12_plain_89 rfl rfl rfl ?_
          refine v_iconst (n := 91) (v := 0) C dX12_plain_90 rfl (by decide) ?_
          refine v_put (n := 94) (es' := (wl D b (va_up (va_up (va_up (va_up sc 21 (((ar 28) (Int32.toNatClampNeg 15)) - 48)) 22 0) 23 4) 25 0) (va_up ar 29 (mhgN ar 12)) hn mh G)) C dX12_plain_91 rfl fl_X12_78_X12 (fp_any fp_X12_7) (show (wl D b (va_up (va_up (va_up sc 21 (((ar 28) (Int32.toNatClampNeg 15)) - 48)) 22 0) 23 4) (va_up ar 29 (mhgN ar 12)) hn mh G)[27]? = some (.inr (12, [.ref (b + 28), .int (sc 20), .int (((ar 28) (Int32.toNatClampNeg 15)) - 48), .int 0, .int 4, .int (sc 24), .ref (b + 29), .int (sc 25), .ref (b + 30), .ref (b + 31), .ref (b + 32), .ref (b + 33), .ref (b + 34), .int (sc 26), .int (sc 27), .int (sc 28), .ref (b + 35), .ref (b + 36), .int (sc 29), .ref (b + 37), .int (sc 30), .int (sc 31), .int (sc 32), .int (sc 33), .int (sc 34), .ref (b + 38), .ref (b + 39), .long mh])) from wl_c27) rfl rfl (Nat.le_of_ble_eq_true rfl) wl_p27_7 ?_
          refine v_aload_n (n := 95) C dX12_plain_94 rfl rfl rfl ?_
          refine v_iconst (n := 96) (v := 0) C dX12_plain_95 rfl (by decide) ?_
          refine v_put (n := 99) (es' := (wl D b (va_up (va_up (va_up (va_up (va_up sc 21 (((ar 28) (Int32.toNatClampNeg 15)) - 48)) 22 0) 23 4) 25 0) 28 0) (va_up ar 29 (mhgN ar 12)) hn mh G)) C dX12_plain_96 rfl fl_X12_81_X12 (fp_any fp_X12_15) (show (wl D b (va_up (va_up (va_up (va_up sc 21 (((ar 28) (Int32.toNatClampNeg 15)) - 48)) 22 0) 23 4) 25 0) (va_up ar 29 (mhgN ar 12)) hn mh G)[27]? = some (.inr (12, [.ref (b + 28), .int (sc 20), .int (((ar 28) (Int32.toNatClampNeg 15)) - 48), .int 0, .int 4, .int (sc 24), .ref (b + 29), .int 0, .ref (b + 30), .ref (b + 31), .ref (b + 32), .ref (b + 33), .ref (b + 34), .int (sc 26), .int (sc 27), .int (sc 28), .ref (b + 35), .ref (b + 36), .int (sc 29), .ref (b + 37), .int (sc 30), .int (sc 31), .int (sc 32), .int (sc 33), .int (sc 34), .ref (b + 38), .ref (b + 39), .long mh])) from wl_c27) rfl rfl (Nat.le_of_ble_eq_true rfl) wl_p27_15 ?_
          refine v_aload_n (n := 100) C dX12_plain_99 rfl rfl rfl ?_
          refine v_dup (n := 101) C dX12_plain_100 rfl rfl ?_
          refine v_get (n := 104) C dX12_plain_101 rfl fl_X12_84_X12 (show (wl D b (va_up (va_up (va_up (va_up (va_up sc 21 (((ar 28) (Int32.toNatClampNeg 15)) - 48)) 22 0) 23 4) 25 0) 28 0) (va_up ar 29 (mhgN ar 12)) hn mh G)[27]? = some (.inr (12, [.ref (b + 28), .int (sc 20), .int (((ar 28) (Int32.toNatClampNeg 15)) - 48), .int 0, .int 4, .int (sc 24), .ref (b + 29), .int 0, .ref (b + 30), .ref (b + 31), .ref (b + 32), .ref (b + 33), .ref (b + 34), .int (sc 26), .int (sc 27), .int 0, .ref (b + 35), .ref (b + 36), .int (sc 29), .ref (b + 37), .int (sc 30), .int (sc 31), .int (sc 32), .int (sc 33), .int (sc 34), .ref (b + 38), .ref (b + 39), .long mh])) from wl_c27) rfl ?_
          refine v_iconst (n := 105) (v := 1) C dX12_plain_104 rfl (by decide) ?_
          refine v_iadd (n := 106) C dX12_plain_105 rfl ?_
          refine v_put (n := 109) (es' := (wl D b (va_up (va_up (va_up (va_up (va_up (va_up sc 21 (((ar 28) (Int32.toNatClampNeg 15)) - 48)) 22 0) 23 4) 25 0) 28 0) 24 ((sc 24) + 1)) (va_up ar 29 (mhgN ar 12)) hn mh G)) C dX12_plain_106 rfl fl_X12_84_X12 (fp_any fp_X12_5) (show (wl D b (va_up (va_up (va_up (va_up (va_up sc 21 (((ar 28) (Int32.toNatClampNeg 15)) - 48)) 22 0) 23 4) 25 0) 28 0) (va_up ar 29 (mhgN ar 12)) hn mh G)[27]? = some (.inr (12, [.ref (b + 28), .int (sc 20), .int (((ar 28) (Int32.toNatClampNeg 15)) - 48), .int 0, .int 4, .int (sc 24), .ref (b + 29), .int 0, .ref (b + 30), .ref (b + 31), .ref (b + 32), .ref (b + 33), .ref (b + 34), .int (sc 26), .int (sc 27), .int 0, .ref (b + 35), .ref (b + 36), .int (sc 29), .ref (b + 37), .int (sc 30), .int (sc 31), .int (sc 32), .int (sc 33), .int (sc 34), .ref (b + 38), .ref (b + 39), .long mh])) from wl_c27) rfl rfl (Nat.le_of_ble_eq_true rfl) wl_p27_5 ?_
          refine v_aload_n (n := 110) C dX12_plain_109 rfl rfl rfl ?_
          refine v_iconst (n := 111) (v := 0) C dX12_plain_110 rfl (by decide) ?_
          refine v_put (n := 114) (es' := (wl D b (va_up (va_up (va_up (va_up (va_up (va_up (va_up sc 21 (((ar 28) (Int32.toNatClampNeg 15)) - 48)) 22 0) 23 4) 25 0) 28 0) 24 ((sc 24) + 1)) 20 0) (va_up ar 29 (mhgN ar 12)) hn mh G)) C dX12_plain_111 rfl fl_X12_59_X12 (fp_any fp_X12_1) (show (wl D b (va_up (va_up (va_up (va_up (va_up (va_up sc 21 (((ar 28) (Int32.toNatClampNeg 15)) - 48)) 22 0) 23 4) 25 0) 28 0) 24 ((sc 24) + 1)) (va_up ar 29 (mhgN ar 12)) hn mh G)[27]? = some (.inr (12, [.ref (b + 28), .int (sc 20), .int (((ar 28) (Int32.toNatClampNeg 15)) - 48), .int 0, .int 4, .int ((sc 24) + 1), .ref (b + 29), .int 0, .ref (b + 30), .ref (b + 31), .ref (b + 32), .ref (b + 33), .ref (b + 34), .int (sc 26), .int (sc 27), .int 0, .ref (b + 35), .ref (b + 36), .int (sc 29), .ref (b + 37), .int (sc 30), .int (sc 31), .int (sc 32), .int (sc 33), .int (sc 34), .ref (b + 38), .ref (b + 39), .long mh])) from wl_c27) rfl rfl (Nat.le_of_ble_eq_true rfl) wl_p27_1 ?_
          refine v_iload_n (n := 115) C dX12_plain_114 rfl rfl rfl ?_
          exact v_iret C dX12_plain_115 rfl rfl (Or.inr ⟨rfl, c_1, ⟨_, hfu, (Int32.not_lt.mpr c_3)⟩, rfl⟩)
        · first | exact absurd c_8 g_7 | exact absurd g_7 c_8 | exact absurd c_8 (Int32.not_le.mpr g_7) | exact absurd c_8 (Int32.not_lt.mpr g_7) | exact absurd (Int32.not_le.mp g_7) c_8 | exact absurd (Int32.not_lt.mp g_7) c_8 | exact absurd (Int32.not_le.mp g_7) (Int32.not_lt.mpr c_8) | exact absurd (Int32.not_lt.mp g_7) (Int32.not_le.mpr c_8) | exact absurd (Int32.not_lt.mp c_8) (Int32.not_le.mpr (Int32.not_le.mp g_7))
      · skip
        have g_9 : ¬ (12 : Int32) ≤ (nI i_25) := nI_ge (a := i_25 + 0) (b := 12) (by omega) (by decide)
        refine v_iload_n (n := 26) C dX12_plain_25 rfl rfl rfl ?_
        refine v_bipush (n := 28) (v := 12) C dX12_plain_26 rfl (by decide) ?_
        refine v_icmp_ge (t := 65) (n := 31) C dX12_plain_28 (by decide) rfl (fun c_10 => ?_) (fun c_10 => ?_)
        · first | exact absurd c_10 g_9 | exact absurd g_9 c_10 | exact absurd c_10 (Int32.not_le.mpr g_9) | exact absurd c_10 (Int32.not_lt.mpr g_9) | exact absurd (Int32.not_le.mp g_9) c_10 | exact absurd (Int32.not_lt.mp g_9) c_10 | exact absurd (Int32.not_le.mp g_9) (Int32.not_lt.mpr c_10) | exact absurd (Int32.not_lt.mp g_9) (Int32.not_le.mpr c_10) | exact absurd (Int32.not_lt.mp c_10) (Int32.not_le.mpr (Int32.not_le.mp g_9))
        · skip
          refine v_aload_n (n := 32) C dX12_plain_31 rfl rfl rfl ?_
          refine v_get (n := 35) C dX12_plain_32 rfl fl_X12_13_X12 wl_c27 rfl ?_
          refine v_iload_n (n := 36) C dX12_plain_35 rfl rfl rfl ?_
          refine v_aload_n (n := 37) C dX12_plain_36 rfl rfl rfl ?_
          refine v_get (n := 40) C dX12_plain_37 rfl fl_X12_7_X12 wl_c27 rfl ?_
          refine v_iload_n (n := 41) C dX12_plain_40 rfl rfl rfl ?_
          refine v_iload_n (n := 42) C dX12_plain_41 rfl rfl rfl ?_
          refine v_iconst (n := 43) (v := 4) C dX12_plain_42 rfl (by decide) ?_
          refine v_idiv (n := 44) C dX12_plain_43 rfl (by decide) ?_
          refine v_iadd (n := 45) C dX12_plain_44 rfl ?_
          refine v_iald (n := 46) C dX12_plain_45 rfl (show (wl D b sc (va_up ar 29 (mhgN ar i_25)) hn mh G)[28]? = some (.inl (D.1 13, 18, .inl (ar 28))) from wl_c28) (vp_lit (pg_all i_25 hi_25).1 (pg_all i_25 hi_25).2) ?_
          refine v_bipush (n := 48) (v := 48) C dX12_plain_46 rfl (by decide) ?_
          refine v_isub (n := 49) C dX12_plain_48 rfl ?_
          refine v_iast (n := 50) (es' := (wl D b sc (va_up ar 29 (upd (mhgN ar i_25) i_25 (((ar 28) (Int32.toNatClampNeg ((nI i_25) + ((nI i_25) / 4)))) - 48))) hn mh G)) C dX12_plain_49 rfl (show (wl D b sc (va_up ar 29 (mhgN ar i_25)) hn mh G)[29]? = some (.inl (D.1 13, 12, .inl (mhgN ar i_25))) from wl_c29) (nI_vp hi_25 (by decide) (by decide)) (by rw [nI_clamp (show i_25 < 2 ^ 31 by omega)]; exact rfl) ?_
          refine v_iload_n (n := 51) C dX12_plain_50 rfl rfl rfl ?_
          refine v_aload_n (n := 52) C dX12_plain_51 rfl rfl rfl ?_
          refine v_get (n := 55) C dX12_plain_52 rfl fl_X12_13_X12 wl_c27 rfl ?_
          refine v_iload_n (n := 56) C dX12_plain_55 rfl rfl rfl ?_
          refine v_iald (n := 57) C dX12_plain_56 rfl (show (wl D b sc (va_up ar 29 (upd (mhgN ar i_25) i_25 (((ar 28) (Int32.toNatClampNeg ((nI i_25) + ((nI i_25) / 4)))) - 48))) hn mh G)[29]? = some (.inl (D.1 13, 12, .inl (upd (mhgN ar i_25) i_25 (((ar 28) (Int32.toNatClampNeg ((nI i_25) + ((nI i_25) / 4)))) - 48)))) from wl_c29) (nI_vp hi_25 (by decide) (by decide)) ?_
          refine v_stk (st' := .int ((upd (mhgN ar i_25) i_25 (((ar 28) (Int32.toNatClampNeg ((nI i_25) + ((nI i_25) / 4)))) - 48)) i_25) :: [.int (msmN ar i_25)]) (congrArg (fun z : Nat => Value.int ((upd (mhgN ar i_25) i_25 (((ar 28) (Int32.toNatClampNeg ((nI i_25) + ((nI i_25) / 4)))) - 48)) z) :: [.int (msmN ar i_25)]) (nI_clamp (show i_25 < 2 ^ 31 by omega))) ?_
          refine v_iadd (n := 58) C dX12_plain_57 rfl ?_
          refine v_istore_n (n := 59) (lv' := [(1, .int ((msmN ar i_25) + ((upd (mhgN ar i_25) i_25 (((ar 28) (Int32.toNatClampNeg ((nI i_25) + ((nI i_25) / 4)))) - 48)) i_25))), (2, .int (nI i_25)), (0, .ref (b + 27))]) C dX12_plain_58 rfl rfl (Nat.le_of_ble_eq_true rfl) rfl ?_
          refine v_iinc (n := 62) (v := ((nI i_25) + 1)) (lv' := [(2, .int ((nI i_25) + 1)), (1, .int ((msmN ar i_25) + ((upd (mhgN ar i_25) i_25 (((ar 28) (Int32.toNatClampNeg ((nI i_25) + ((nI i_25) / 4)))) - 48)) i_25))), (0, .ref (b + 27))]) C dX12_plain_59 rfl rfl rfl (Nat.le_of_ble_eq_true rfl) rfl ?_
          refine v_goto (t := 25) C dX12_plain_62 (by decide) ?_
          refine v_pick (lv' := [(2, .int ((nI i_25) + 1)), (0, .ref (b + 27)), (1, .int ((msmN ar i_25) + ((upd (mhgN ar i_25) i_25 (((ar 28) (Int32.toNatClampNeg ((nI i_25) + ((nI i_25) / 4)))) - 48)) i_25)))]) [0, 2, 1] rfl ?_
          have e_11 : ((nI i_25) + 1) = (nI (i_25 + 1)) := nI_1 _
          have e_12 : (((msmN ar i_25) + ((upd (mhgN ar i_25) i_25 (((ar 28) (Int32.toNatClampNeg ((nI i_25) + ((nI i_25) / 4)))) - 48)) i_25)) : Int32) = (msmN ar (i_25 + 1)) := rfl
          have e_13 : ((upd (mhgN ar i_25) i_25 (((ar 28) (Int32.toNatClampNeg ((nI i_25) + ((nI i_25) / 4)))) - 48)) : Nat → Int32) = (mhgN ar (i_25 + 1)) := rfl
          refine v_cong (es' := (wl D b sc (va_up ar 29 (mhgN ar (i_25 + 1))) hn mh G)) (lv' := [(2, .int (nI (i_25 + 1))), (0, .ref (b + 27)), (1, .int (msmN ar (i_25 + 1)))]) (cg1 (fun (y0 : Nat → Int32) => wl D b sc (va_up ar 29 y0) hn mh G) e_13) (cg2 (fun (z0 : Int32) (z1 : Int32) => ([(2, .int z0), (0, .ref (b + 27)), (1, .int z1)] : List (Nat × Value))) e_11 e_12) ?_
          exact ih_25
    · skip
      refine v_bipush (n := 20) (v := -103) C dX12_plain_18 rfl (by decide) ?_
      exact v_iret C dX12_plain_20 rfl rfl (Or.inl ⟨rfl, Or.inr ⟨_, hfu, (Int32.not_le.mp c_3)⟩, rfl⟩)
set_option maxHeartbeats 4000000 in
set_option maxRecDepth 100000 in
theorem m_say (l : Launch) (D : va_G) (b : Nat) (sc : Nat → Int32) (ar : Nat → Nat → Int32) (hn : Nat → Option Nat) (mh : Int64) (G : List va_E) (v0 : Int64) : Con l yX12_say cX12_say 3 none 0 0 D b 0 0 (wl D b sc ar hn mh G) [.ref (b + 27), .long v0] (fun r es' => r = none ∧ wl D b sc ar hn (31 * mh + v0) G = es') := by
  refine con_of (by decide) (Nat.le_of_ble_eq_true rfl) (fun p e s m args below meth c C hsz => ?_)
  have C : vC p s m args meth c cX12_say 3 RX12 "say" none D b := C
  change V p l e _ s m args below meth c D b 3 _ 0 0 (wl D b sc ar hn mh G) [(0, .ref (b + 27)), (1, .long v0)] [] 0
  refine v_aload_n (n := 1) C dX12_say_0 rfl rfl rfl ?_
  refine v_ldc2 (n := 4) C dX12_say_1 rfl kl_X12_221 ?_
  refine v_aload_n (n := 5) C dX12_say_4 rfl rfl rfl ?_
  refine v_get (n := 8) C dX12_say_5 rfl fl_X12_223_X12 wl_c27 rfl ?_
  refine v_lmul (n := 9) C dX12_say_8 rfl ?_
  refine v_lload_n (n := 10) C dX12_say_9 rfl rfl rfl ?_
  refine v_ladd (n := 11) C dX12_say_10 rfl ?_
  refine v_put (n := 14) (es' := (wl D b sc ar hn ((31 * mh) + v0) G)) C dX12_say_11 rfl fl_X12_223_X12 (fp_any fp_X12_27) wl_c27 rfl rfl (Nat.le_of_ble_eq_true rfl) wl_p27_27 ?_
  exact v_vret C dX12_say_14 rfl ⟨rfl, by first | rfl | (simp only []; done) | (simp only [↓reduceIte]; done) | (simp only [↓reduceIte] <;> rfl) | (simp []; done)⟩
