theorem t3_e {k j : Nat} : (3 : Int32) * nI k + nI j = nI (3 * k + j) := by
  unfold nI
  rw [Int32.ofNat_add, Int32.ofNat_mul]
  rfl
theorem t3_e0 {k : Nat} : (3 : Int32) * nI k = nI (3 * k + 0) := by
  unfold nI
  rw [Nat.add_zero, Int32.ofNat_mul]
  rfl
theorem t3_c {k j : Nat} (hk : k < 6) (hj : j < 3) : ((3 : Int32) * nI k + nI j).toNatClampNeg = 3 * k + j := by rw [t3_e]; exact nI_clamp (by omega)
theorem t3_c0 {k : Nat} (hk : k < 6) : ((3 : Int32) * nI k).toNatClampNeg = 3 * k + 0 := by rw [t3_e0]; exact nI_clamp (by omega)
theorem t3_vp {k j : Nat} (hk : k < 6) (hj : j < 3) : vp_in ((3 : Int32) * nI k + nI j) 18 := by rw [t3_e]; exact vp_in_nI (by omega) (by decide)
theorem t3_vp0 {k : Nat} (hk : k < 6) : vp_in ((3 : Int32) * nI k) 18 := by rw [t3_e0]; exact vp_in_nI (by omega) (by decide)
def msaN (r : Nat → Int32) (k h : Int32) : Nat → Int32
  | 0 => 4095
  | i + 1 => msaN r k h i &&& (if r (3 * i + 0) = k then (if r (3 * i + 2) = h then (1 : Int32) <<< (r (3 * i + 1) &&& 31) else 4095) else 4095)
def mibN (r : Nat → Int32) (k a z : Int32) : Nat → Int32
  | 0 => 0
  | i + 1 => if mibN r k a z i = 0 then (if r (3 * i + 0) = k then (if a < r (3 * i + 2) then (if r (3 * i + 2) < z then 1 else 0) else 0) else 0) else 1
theorem mib_nar (r : Nat → Int32) (k a z : Int32) (n : Nat) : narrow .boolean (.int (mibN r k a z n)) = .int (mibN r k a z n) := by
  have h : mibN r k a z n = 0 ∨ mibN r k a z n = 1 := by
    cases n with
    | zero => exact Or.inl rfl
    | succ n =>
      rw [mibN]
      split
      · split
        · split
          · split
            · exact Or.inr rfl
            · exact Or.inl rfl
          · exact Or.inl rfl
        · exact Or.inl rfl
      · exact Or.inr rfl
  rcases h with h | h <;> rw [h] <;> rfl
set_option maxHeartbeats 4000000 in
set_option maxRecDepth 100000 in
theorem m_seenAt (l : Launch) (D : va_G) (b : Nat) (sc : Nat → Int32) (ar : Nat → Nat → Int32) (hn : Nat → Option Nat) (mh : Int64) (G : List va_E) (x h : Int32) (Sn : Nat) (hS : sc 28 = nI Sn) (hS6 : Sn ≤ 6) : Con l yX12_seenAt cX12_seenAt 5 (some .int) 0 0 D b 0 0 (wl D b sc ar hn mh G) [.ref (b + 27), .int x, .int h] (fun r es' => r = some (.int (msaN (ar 35) x h Sn)) ∧ (wl D b sc ar hn mh G) = es') := by
  refine con_of (by decide) (Nat.le_of_ble_eq_true rfl) (fun p e s m args below meth c C hsz => ?_)
  have C : vC p s m args meth c cX12_seenAt 5 RX12 "seenAt" (some .int) D b := C
  change V p l e _ s m args below meth c D b 5 _ 0 0 (wl D b sc ar hn mh G) [(0, .ref (b + 27)), (1, .int x), (2, .int h)] [] 0
  refine v_sipush (n := 3) (v := 4095) C dX12_seenAt_0 rfl (by decide) ?_
  refine v_istore_n (n := 4) (lv' := [(3, .int 4095), (0, .ref (b + 27)), (1, .int x), (2, .int h)]) C dX12_seenAt_3 rfl rfl (Nat.le_of_ble_eq_true rfl) rfl ?_
  refine v_iconst (n := 5) (v := 0) C dX12_seenAt_4 rfl (by decide) ?_
  refine v_istore (n := 7) (lv' := [(4, .int 0), (3, .int 4095), (0, .ref (b + 27)), (1, .int x), (2, .int h)]) C dX12_seenAt_5 rfl (Nat.le_of_ble_eq_true rfl) rfl ?_
  refine v_pick (lv' := [(4, .int 0), (0, .ref (b + 27)), (1, .int x), (2, .int h), (3, .int 4095)]) [0, 2, 3, 4, 1] rfl ?_
  have e_1 : (0 : Int32) = (nI 0) := rfl
  have e_2 : (4095 : Int32) = (msaN (ar 35) x h 0) := by first | (rw [msaN]; done) | (rw [msaN]; simp only []; done) | (rw [msaN]; simp only [↓reduceIte]; done) | (rw [msaN]; simp only [↓reduceIte] <;> rfl) | rfl | (rw [msaN]; simp []; done)
  refine v_cong (es' := (wl D b sc ar hn mh G)) (lv' := [(4, .int (nI 0)), (0, .ref (b + 27)), (1, .int x), (2, .int h), (3, .int (msaN (ar 35) x h 0))]) rfl (cg2 (fun (z0 : Int32) (z1 : Int32) => ([(4, .int z0), (0, .ref (b + 27)), (1, .int x), (2, .int h), (3, .int z1)] : List (Nat × Value))) e_1 e_2) ?_
  refine loop_dn (P := fun i_7 => V p l e { frames := 0, cells := 0, slots := 0, locals := 0 } s m args below meth c D b 5 (MQ below (cQ D b 0 (fun r es' => r = some (.int (msaN (ar 35) x h Sn)) ∧ (wl D b sc ar hn mh G) = es')) args s 0 0 (fun q => b ≤ q)) 0 0 (wl D b sc ar hn mh G) [(4, .int (nI i_7)), (0, .ref (b + 27)), (1, .int x), (2, .int h), (3, .int (msaN (ar 35) x h i_7))] [] 7) Sn ?_ (fun i_7 hi_7 ih_7 => ?_)
  · skip
    have g_3 : ((sc 28) : Int32) ≤ (nI Sn) := by rw [hS]; exact Int32.le_refl _
    refine v_iload (n := 9) C dX12_seenAt_7 rfl rfl ?_
    refine v_aload_n (n := 10) C dX12_seenAt_9 rfl rfl rfl ?_
    refine v_get (n := 13) C dX12_seenAt_10 rfl fl_X12_81_X12 wl_c27 rfl ?_
    refine v_icmp_ge (t := 72) (n := 16) C dX12_seenAt_13 (by decide) rfl (fun c_4 => ?_) (fun c_4 => ?_)
    · skip
      refine v_iload_n (n := 73) C dX12_seenAt_72 rfl rfl rfl ?_
      exact v_iret C dX12_seenAt_73 rfl rfl ⟨rfl, rfl⟩
    · first | exact absurd c_4 g_3 | exact absurd g_3 c_4 | exact absurd c_4 (Int32.not_le.mpr g_3) | exact absurd c_4 (Int32.not_lt.mpr g_3) | exact absurd (Int32.not_le.mp g_3) c_4 | exact absurd (Int32.not_lt.mp g_3) c_4 | exact absurd (Int32.not_le.mp g_3) (Int32.not_lt.mpr c_4) | exact absurd (Int32.not_lt.mp g_3) (Int32.not_le.mpr c_4) | exact absurd (Int32.not_lt.mp c_4) (Int32.not_le.mpr (Int32.not_le.mp g_3))
  · skip
    have g_5 : ¬ ((sc 28) : Int32) ≤ (nI i_7) := by rw [hS]; exact nI_ge hi_7 (by omega)
    refine v_iload (n := 9) C dX12_seenAt_7 rfl rfl ?_
    refine v_aload_n (n := 10) C dX12_seenAt_9 rfl rfl rfl ?_
    refine v_get (n := 13) C dX12_seenAt_10 rfl fl_X12_81_X12 wl_c27 rfl ?_
    refine v_icmp_ge (t := 72) (n := 16) C dX12_seenAt_13 (by decide) rfl (fun c_6 => ?_) (fun c_6 => ?_)
    · first | exact absurd c_6 g_5 | exact absurd g_5 c_6 | exact absurd c_6 (Int32.not_le.mpr g_5) | exact absurd c_6 (Int32.not_lt.mpr g_5) | exact absurd (Int32.not_le.mp g_5) c_6 | exact absurd (Int32.not_lt.mp g_5) c_6 | exact absurd (Int32.not_le.mp g_5) (Int32.not_lt.mpr c_6) | exact absurd (Int32.not_lt.mp g_5) (Int32.not_le.mpr c_6) | exact absurd (Int32.not_lt.mp c_6) (Int32.not_le.mpr (Int32.not_le.mp g_5))
    · skip
      refine v_iload_n (n := 17) C dX12_seenAt_16 rfl rfl rfl ?_
      refine v_aload_n (n := 18) C dX12_seenAt_17 rfl rfl rfl ?_
      refine v_get (n := 21) C dX12_seenAt_18 rfl fl_X12_31_X12 wl_c27 rfl ?_
      refine v_iconst (n := 22) (v := 3) C dX12_seenAt_21 rfl (by decide) ?_
      refine v_iload (n := 24) C dX12_seenAt_22 rfl rfl ?_
      refine v_imul (n := 25) C dX12_seenAt_24 rfl ?_
      refine v_iald (n := 26) C dX12_seenAt_25 rfl wl_c35 (t3_vp0 (show i_7 < 6 by omega)) ?_
      refine v_stk (st' := .int ((ar 35) (3 * i_7 + 0)) :: [.int (msaN (ar 35) x h i_7)]) (congrArg (fun z : Nat => Value.int ((ar 35) z) :: [.int (msaN (ar 35) x h i_7)]) (t3_c0 (show i_7 < 6 by omega))) ?_
      refine v_iload_n (n := 27) C dX12_seenAt_26 rfl rfl rfl ?_
      refine v_icmp_ne (t := 61) (n := 30) C dX12_seenAt_27 (by decide) rfl (fun c_7 => ?_) (fun c_7 => ?_)
      · skip
        refine v_sipush (n := 64) (v := 4095) C dX12_seenAt_61 rfl (by decide) ?_
        refine v_iand (n := 65) C dX12_seenAt_64 rfl ?_
        refine v_istore_n (n := 66) (lv' := [(3, .int ((msaN (ar 35) x h i_7) &&& 4095)), (4, .int (nI i_7)), (0, .ref (b + 27)), (1, .int x), (2, .int h)]) C dX12_seenAt_65 rfl rfl (Nat.le_of_ble_eq_true rfl) rfl ?_
        refine v_iinc (n := 69) (v := ((nI i_7) + 1)) (lv' := [(4, .int ((nI i_7) + 1)), (3, .int ((msaN (ar 35) x h i_7) &&& 4095)), (0, .ref (b + 27)), (1, .int x), (2, .int h)]) C dX12_seenAt_66 rfl rfl rfl (Nat.le_of_ble_eq_true rfl) rfl ?_
        refine v_goto (t := 7) C dX12_seenAt_69 (by decide) ?_
        refine v_pick (lv' := [(4, .int ((nI i_7) + 1)), (0, .ref (b + 27)), (1, .int x), (2, .int h), (3, .int ((msaN (ar 35) x h i_7) &&& 4095))]) [0, 2, 3, 4, 1] rfl ?_
        have e_8 : ((nI i_7) + 1) = (nI (i_7 + 1)) := nI_1 _
        have e_9 : (((msaN (ar 35) x h i_7) &&& 4095) : Int32) = (msaN (ar 35) x h (i_7 + 1)) := by first | (rw [msaN]; done) | (rw [msaN]; simp only [if_neg g_5, if_pos (Int32.not_le.mp g_5), if_neg c_6, if_pos (Int32.not_le.mp c_6), if_neg c_7, if_neg (fun h => c_7 (Eq.symm h))]; done) | (rw [msaN]; simp only [eq_false g_5, eq_true (Int32.not_le.mp g_5), eq_false c_6, eq_true (Int32.not_le.mp c_6), eq_false c_7, eq_false (fun h => c_7 (Eq.symm h)), ↓reduceIte]; done) | (rw [msaN]; simp only [eq_false g_5, eq_true (Int32.not_le.mp g_5), eq_false c_6, eq_true (Int32.not_le.mp c_6), eq_false c_7, eq_false (fun h => c_7 (Eq.symm h)), ↓reduceIte] <;> rfl) | rfl | (rw [msaN]; simp [g_5, c_6, c_7]; done)
        refine v_cong (es' := (wl D b sc ar hn mh G)) (lv' := [(4, .int (nI (i_7 + 1))), (0, .ref (b + 27)), (1, .int x), (2, .int h), (3, .int (msaN (ar 35) x h (i_7 + 1)))]) rfl (cg2 (fun (z0 : Int32) (z1 : Int32) => ([(4, .int z0), (0, .ref (b + 27)), (1, .int x), (2, .int h), (3, .int z1)] : List (Nat × Value))) e_8 e_9) ?_
        exact ih_7
      · skip
        refine v_aload_n (n := 31) C dX12_seenAt_30 rfl rfl rfl ?_
        refine v_get (n := 34) C dX12_seenAt_31 rfl fl_X12_31_X12 wl_c27 rfl ?_
        refine v_iconst (n := 35) (v := 3) C dX12_seenAt_34 rfl (by decide) ?_
        refine v_iload (n := 37) C dX12_seenAt_35 rfl rfl ?_
        refine v_imul (n := 38) C dX12_seenAt_37 rfl ?_
        refine v_iconst (n := 39) (v := 2) C dX12_seenAt_38 rfl (by decide) ?_
        refine v_iadd (n := 40) C dX12_seenAt_39 rfl ?_
        refine v_iald (n := 41) C dX12_seenAt_40 rfl wl_c35 (t3_vp (j := 2) (show i_7 < 6 by omega) (by decide)) ?_
        refine v_stk (st' := .int ((ar 35) (3 * i_7 + 2)) :: [.int (msaN (ar 35) x h i_7)]) (congrArg (fun z : Nat => Value.int ((ar 35) z) :: [.int (msaN (ar 35) x h i_7)]) (t3_c (j := 2) (show i_7 < 6 by omega) (by decide))) ?_
        refine v_iload_n (n := 42) C dX12_seenAt_41 rfl rfl rfl ?_
        refine v_icmp_ne (t := 61) (n := 45) C dX12_seenAt_42 (by decide) rfl (fun c_10 => ?_) (fun c_10 => ?_)
        · skip
          refine v_sipush (n := 64) (v := 4095) C dX12_seenAt_61 rfl (by decide) ?_
          refine v_iand (n := 65) C dX12_seenAt_64 rfl ?_
          refine v_istore_n (n := 66) (lv' := [(3, .int ((msaN (ar 35) x h i_7) &&& 4095)), (4, .int (nI i_7)), (0, .ref (b + 27)), (1, .int x), (2, .int h)]) C dX12_seenAt_65 rfl rfl (Nat.le_of_ble_eq_true rfl) rfl ?_
          refine v_iinc (n := 69) (v := ((nI i_7) + 1)) (lv' := [(4, .int ((nI i_7) + 1)), (3, .int ((msaN (ar 35) x h i_7) &&& 4095)), (0, .ref (b + 27)), (1, .int x), (2, .int h)]) C dX12_seenAt_66 rfl rfl rfl (Nat.le_of_ble_eq_true rfl) rfl ?_
          refine v_goto (t := 7) C dX12_seenAt_69 (by decide) ?_
          refine v_pick (lv' := [(4, .int ((nI i_7) + 1)), (0, .ref (b + 27)), (1, .int x), (2, .int h), (3, .int ((msaN (ar 35) x h i_7) &&& 4095))]) [0, 2, 3, 4, 1] rfl ?_
          have e_11 : ((nI i_7) + 1) = (nI (i_7 + 1)) := nI_1 _
          have e_12 : (((msaN (ar 35) x h i_7) &&& 4095) : Int32) = (msaN (ar 35) x h (i_7 + 1)) := by first | (rw [msaN]; done) | (rw [msaN]; simp only [if_neg g_5, if_pos (Int32.not_le.mp g_5), if_neg c_6, if_pos (Int32.not_le.mp c_6), if_pos c_7, if_pos (Eq.symm c_7), if_neg c_10, if_neg (fun h => c_10 (Eq.symm h))]; done) | (rw [msaN]; simp only [eq_false g_5, eq_true (Int32.not_le.mp g_5), eq_false c_6, eq_true (Int32.not_le.mp c_6), eq_true c_7, eq_true (Eq.symm c_7), eq_false c_10, eq_false (fun h => c_10 (Eq.symm h)), ↓reduceIte]; done) | (rw [msaN]; simp only [eq_false g_5, eq_true (Int32.not_le.mp g_5), eq_false c_6, eq_true (Int32.not_le.mp c_6), eq_true c_7, eq_true (Eq.symm c_7), eq_false c_10, eq_false (fun h => c_10 (Eq.symm h)), ↓reduceIte] <;> rfl) | rfl | (rw [msaN]; simp [g_5, c_6, c_7, c_10]; done)
          refine v_cong (es' := (wl D b sc ar hn mh G)) (lv' := [(4, .int (nI (i_7 + 1))), (0, .ref (b + 27)), (1, .int x), (2, .int h), (3, .int (msaN (ar 35) x h (i_7 + 1)))]) rfl (cg2 (fun (z0 : Int32) (z1 : Int32) => ([(4, .int z0), (0, .ref (b + 27)), (1, .int x), (2, .int h), (3, .int z1)] : List (Nat × Value))) e_11 e_12) ?_
          exact ih_7
        · skip
          refine v_iconst (n := 46) (v := 1) C dX12_seenAt_45 rfl (by decide) ?_
          refine v_aload_n (n := 47) C dX12_seenAt_46 rfl rfl rfl ?_
          refine v_get (n := 50) C dX12_seenAt_47 rfl fl_X12_31_X12 wl_c27 rfl ?_
          refine v_iconst (n := 51) (v := 3) C dX12_seenAt_50 rfl (by decide) ?_
          refine v_iload (n := 53) C dX12_seenAt_51 rfl rfl ?_
          refine v_imul (n := 54) C dX12_seenAt_53 rfl ?_
          refine v_iconst (n := 55) (v := 1) C dX12_seenAt_54 rfl (by decide) ?_
          refine v_iadd (n := 56) C dX12_seenAt_55 rfl ?_
          refine v_iald (n := 57) C dX12_seenAt_56 rfl wl_c35 (t3_vp (j := 1) (show i_7 < 6 by omega) (by decide)) ?_
          refine v_stk (st' := .int ((ar 35) (3 * i_7 + 1)) :: [.int 1, .int (msaN (ar 35) x h i_7)]) (congrArg (fun z : Nat => Value.int ((ar 35) z) :: [.int 1, .int (msaN (ar 35) x h i_7)]) (t3_c (j := 1) (show i_7 < 6 by omega) (by decide))) ?_
          refine v_ishl (n := 58) C dX12_seenAt_57 rfl ?_
          refine v_goto (t := 64) C dX12_seenAt_58 (by decide) ?_
          refine v_iand (n := 65) C dX12_seenAt_64 rfl ?_
          refine v_istore_n (n := 66) (lv' := [(3, .int ((msaN (ar 35) x h i_7) &&& (1 <<< (((ar 35) (3 * i_7 + 1)) &&& 31)))), (4, .int (nI i_7)), (0, .ref (b + 27)), (1, .int x), (2, .int h)]) C dX12_seenAt_65 rfl rfl (Nat.le_of_ble_eq_true rfl) rfl ?_
          refine v_iinc (n := 69) (v := ((nI i_7) + 1)) (lv' := [(4, .int ((nI i_7) + 1)), (3, .int ((msaN (ar 35) x h i_7) &&& (1 <<< (((ar 35) (3 * i_7 + 1)) &&& 31)))), (0, .ref (b + 27)), (1, .int x), (2, .int h)]) C dX12_seenAt_66 rfl rfl rfl (Nat.le_of_ble_eq_true rfl) rfl ?_
          refine v_goto (t := 7) C dX12_seenAt_69 (by decide) ?_
          refine v_pick (lv' := [(4, .int ((nI i_7) + 1)), (0, .ref (b + 27)), (1, .int x), (2, .int h), (3, .int ((msaN (ar 35) x h i_7) &&& (1 <<< (((ar 35) (3 * i_7 + 1)) &&& 31))))]) [0, 2, 3, 4, 1] rfl ?_
          have e_13 : ((nI i_7) + 1) = (nI (i_7 + 1)) := nI_1 _
          have e_14 : (((msaN (ar 35) x h i_7) &&& (1 <<< (((ar 35) (3 * i_7 + 1)) &&& 31))) : Int32) = (msaN (ar 35) x h (i_7 + 1)) := by first | (rw [msaN]; done) | (rw [msaN]; simp only [if_neg g_5, if_pos (Int32.not_le.mp g_5), if_neg c_6, if_pos (Int32.not_le.mp c_6), if_pos c_7, if_pos (Eq.symm c_7), if_pos c_10, if_pos (Eq.symm c_10)]; done) | (rw [msaN]; simp only [eq_false g_5, eq_true (Int32.not_le.mp g_5), eq_false c_6, eq_true (Int32.not_le.mp c_6), eq_true c_7, eq_true (Eq.symm c_7), eq_true c_10, eq_true (Eq.symm c_10), ↓reduceIte]; done) | (rw [msaN]; simp only [eq_false g_5, eq_true (Int32.not_le.mp g_5), eq_false c_6, eq_true (Int32.not_le.mp c_6), eq_true c_7, eq_true (Eq.symm c_7), eq_true c_10, eq_true (Eq.symm c_10), ↓reduceIte] <;> rfl) | rfl | (rw [msaN]; simp [g_5, c_6, c_7, c_10]; done)
          refine v_cong (es' := (wl D b sc ar hn mh G)) (lv' := [(4, .int (nI (i_7 + 1))), (0, .ref (b + 27)), (1, .int x), (2, .int h), (3, .int (msaN (ar 35) x h (i_7 + 1)))]) rfl (cg2 (fun (z0 : Int32) (z1 : Int32) => ([(4, .int z0), (0, .ref (b + 27)), (1, .int x), (2, .int h), (3, .int z1)] : List (Nat × Value))) e_13 e_14) ?_
          exact ih_7
set_option maxHeartbeats 4000000 in
set_option maxRecDepth 100000 in
theorem m_isSeenBetween (l : Launch) (D : va_G) (b : Nat) (sc : Nat → Int32) (ar : Nat → Nat → Int32) (hn : Nat → Option Nat) (mh : Int64) (G : List va_E) (x a z : Int32) (Sn : Nat) (hS : sc 28 = nI Sn) (hS6 : Sn ≤ 6) : Con l yX12_isSeenBetween cX12_isSeenBetween 6 (some .boolean) 0 0 D b 0 0 (wl D b sc ar hn mh G) [.ref (b + 27), .int x, .int a, .int z] (fun r es' => r = some (.int (mibN (ar 35) x a z Sn)) ∧ (wl D b sc ar hn mh G) = es') := by
  refine con_of (by decide) (Nat.le_of_ble_eq_true rfl) (fun p e s m args below meth c C hsz => ?_)
  have C : vC p s m args meth c cX12_isSeenBetween 6 RX12 "isSeenBetween" (some .boolean) D b := C
  change V p l e _ s m args below meth c D b 6 _ 0 0 (wl D b sc ar hn mh G) [(0, .ref (b + 27)), (1, .int x), (2, .int a), (3, .int z)] [] 0
  refine v_iconst (n := 1) (v := 0) C dX12_isSeenBetween_0 rfl (by decide) ?_
  refine v_istore (n := 3) (lv' := [(4, .int 0), (0, .ref (b + 27)), (1, .int x), (2, .int a), (3, .int z)]) C dX12_isSeenBetween_1 rfl (Nat.le_of_ble_eq_true rfl) rfl ?_
  refine v_iconst (n := 4) (v := 0) C dX12_isSeenBetween_3 rfl (by decide) ?_
  refine v_istore (n := 6) (lv' := [(5, .int 0), (4, .int 0), (0, .ref (b + 27)), (1, .int x), (2, .int a), (3, .int z)]) C dX12_isSeenBetween_4 rfl (Nat.le_of_ble_eq_true rfl) rfl ?_
  refine v_pick (lv' := [(5, .int 0), (0, .ref (b + 27)), (1, .int x), (2, .int a), (3, .int z), (4, .int 0)]) [0, 2, 3, 4, 5, 1] rfl ?_
  have e_1 : (0 : Int32) = (nI 0) := rfl
  have e_2 : (0 : Int32) = (mibN (ar 35) x a z 0) := by first | (rw [mibN]; done) | (rw [mibN]; simp only []; done) | (rw [mibN]; simp only [↓reduceIte]; done) | (rw [mibN]; simp only [↓reduceIte] <;> rfl) | rfl | (rw [mibN]; simp []; done)
  refine v_cong (es' := (wl D b sc ar hn mh G)) (lv' := [(5, .int (nI 0)), (0, .ref (b + 27)), (1, .int x), (2, .int a), (3, .int z), (4, .int (mibN (ar 35) x a z 0))]) rfl (cg2 (fun (z0 : Int32) (z1 : Int32) => ([(5, .int z0), (0, .ref (b + 27)), (1, .int x), (2, .int a), (3, .int z), (4, .int z1)] : List (Nat × Value))) e_1 e_2) ?_
  refine loop_dn (P := fun i_6 => V p l e { frames := 0, cells := 0, slots := 0, locals := 0 } s m args below meth c D b 6 (MQ below (cQ D b 0 (fun r es' => r = some (.int (mibN (ar 35) x a z Sn)) ∧ (wl D b sc ar hn mh G) = es')) args s 0 0 (fun q => b ≤ q)) 0 0 (wl D b sc ar hn mh G) [(5, .int (nI i_6)), (0, .ref (b + 27)), (1, .int x), (2, .int a), (3, .int z), (4, .int (mibN (ar 35) x a z i_6))] [] 6) Sn ?_ (fun i_6 hi_6 ih_6 => ?_)
  · skip
    have g_3 : ((sc 28) : Int32) ≤ (nI Sn) := by rw [hS]; exact Int32.le_refl _
    refine v_iload (n := 8) C dX12_isSeenBetween_6 rfl rfl ?_
    refine v_aload_n (n := 9) C dX12_isSeenBetween_8 rfl rfl rfl ?_
    refine v_get (n := 12) C dX12_isSeenBetween_9 rfl fl_X12_81_X12 wl_c27 rfl ?_
    refine v_icmp_ge (t := 76) (n := 15) C dX12_isSeenBetween_12 (by decide) rfl (fun c_4 => ?_) (fun c_4 => ?_)
    · skip
      refine v_iload (n := 78) C dX12_isSeenBetween_76 rfl rfl ?_
      exact v_iret C dX12_isSeenBetween_78 rfl (mib_nar _ _ _ _ _) ⟨rfl, rfl⟩
    · first | exact absurd c_4 g_3 | exact absurd g_3 c_4 | exact absurd c_4 (Int32.not_le.mpr g_3) | exact absurd c_4 (Int32.not_lt.mpr g_3) | exact absurd (Int32.not_le.mp g_3) c_4 | exact absurd (Int32.not_lt.mp g_3) c_4 | exact absurd (Int32.not_le.mp g_3) (Int32.not_lt.mpr c_4) | exact absurd (Int32.not_lt.mp g_3) (Int32.not_le.mpr c_4) | exact absurd (Int32.not_lt.mp c_4) (Int32.not_le.mpr (Int32.not_le.mp g_3))
  · skip
    have g_5 : ¬ ((sc 28) : Int32) ≤ (nI i_6) := by rw [hS]; exact nI_ge hi_6 (by omega)
    refine v_iload (n := 8) C dX12_isSeenBetween_6 rfl rfl ?_
    refine v_aload_n (n := 9) C dX12_isSeenBetween_8 rfl rfl rfl ?_
    refine v_get (n := 12) C dX12_isSeenBetween_9 rfl fl_X12_81_X12 wl_c27 rfl ?_
    refine v_icmp_ge (t := 76) (n := 15) C dX12_isSeenBetween_12 (by decide) rfl (fun c_6 => ?_) (fun c_6 => ?_)
    · first | exact absurd c_6 g_5 | exact absurd g_5 c_6 | exact absurd c_6 (Int32.not_le.mpr g_5) | exact absurd c_6 (Int32.not_lt.mpr g_5) | exact absurd (Int32.not_le.mp g_5) c_6 | exact absurd (Int32.not_lt.mp g_5) c_6 | exact absurd (Int32.not_le.mp g_5) (Int32.not_lt.mpr c_6) | exact absurd (Int32.not_lt.mp g_5) (Int32.not_le.mpr c_6) | exact absurd (Int32.not_lt.mp c_6) (Int32.not_le.mpr (Int32.not_le.mp g_5))
    · skip
      refine v_iload (n := 17) C dX12_isSeenBetween_15 rfl rfl ?_
      refine v_if_ne (t := 63) (n := 20) C dX12_isSeenBetween_17 (by decide) rfl (fun c_7 => ?_) (fun c_7 => ?_)
      · skip
        refine v_iconst (n := 64) (v := 1) C dX12_isSeenBetween_63 rfl (by decide) ?_
        refine v_goto (t := 68) C dX12_isSeenBetween_64 (by decide) ?_
        refine v_istore (n := 70) (lv' := [(4, .int 1), (5, .int (nI i_6)), (0, .ref (b + 27)), (1, .int x), (2, .int a), (3, .int z)]) C dX12_isSeenBetween_68 rfl (Nat.le_of_ble_eq_true rfl) rfl ?_
        refine v_iinc (n := 73) (v := ((nI i_6) + 1)) (lv' := [(5, .int ((nI i_6) + 1)), (4, .int 1), (0, .ref (b + 27)), (1, .int x), (2, .int a), (3, .int z)]) C dX12_isSeenBetween_70 rfl rfl rfl (Nat.le_of_ble_eq_true rfl) rfl ?_
        refine v_goto (t := 6) C dX12_isSeenBetween_73 (by decide) ?_
        refine v_pick (lv' := [(5, .int ((nI i_6) + 1)), (0, .ref (b + 27)), (1, .int x), (2, .int a), (3, .int z), (4, .int 1)]) [0, 2, 3, 4, 5, 1] rfl ?_
        have e_8 : ((nI i_6) + 1) = (nI (i_6 + 1)) := nI_1 _
        have e_9 : (1 : Int32) = (mibN (ar 35) x a z (i_6 + 1)) := by first | (rw [mibN]; done) | (rw [mibN]; simp only [if_neg g_5, if_pos (Int32.not_le.mp g_5), if_neg c_6, if_pos (Int32.not_le.mp c_6), if_neg c_7]; done) | (rw [mibN]; simp only [eq_false g_5, eq_true (Int32.not_le.mp g_5), eq_false c_6, eq_true (Int32.not_le.mp c_6), eq_false c_7, ↓reduceIte]; done) | (rw [mibN]; simp only [eq_false g_5, eq_true (Int32.not_le.mp g_5), eq_false c_6, eq_true (Int32.not_le.mp c_6), eq_false c_7, ↓reduceIte] <;> rfl) | rfl | (rw [mibN]; simp [g_5, c_6, c_7]; done)
        refine v_cong (es' := (wl D b sc ar hn mh G)) (lv' := [(5, .int (nI (i_6 + 1))), (0, .ref (b + 27)), (1, .int x), (2, .int a), (3, .int z), (4, .int (mibN (ar 35) x a z (i_6 + 1)))]) rfl (cg2 (fun (z0 : Int32) (z1 : Int32) => ([(5, .int z0), (0, .ref (b + 27)), (1, .int x), (2, .int a), (3, .int z), (4, .int z1)] : List (Nat × Value))) e_8 e_9) ?_
        exact ih_6
      · skip
        refine v_aload_n (n := 21) C dX12_isSeenBetween_20 rfl rfl rfl ?_
        refine v_get (n := 24) C dX12_isSeenBetween_21 rfl fl_X12_31_X12 wl_c27 rfl ?_
        refine v_iconst (n := 25) (v := 3) C dX12_isSeenBetween_24 rfl (by decide) ?_
        refine v_iload (n := 27) C dX12_isSeenBetween_25 rfl rfl ?_
        refine v_imul (n := 28) C dX12_isSeenBetween_27 rfl ?_
        refine v_iald (n := 29) C dX12_isSeenBetween_28 rfl wl_c35 (t3_vp0 (show i_6 < 6 by omega)) ?_
        refine v_stk (st' := .int ((ar 35) (3 * i_6 + 0)) :: []) (congrArg (fun z : Nat => Value.int ((ar 35) z) :: []) (t3_c0 (show i_6 < 6 by omega))) ?_
        refine v_iload_n (n := 30) C dX12_isSeenBetween_29 rfl rfl rfl ?_
        refine v_icmp_ne (t := 67) (n := 33) C dX12_isSeenBetween_30 (by decide) rfl (fun c_10 => ?_) (fun c_10 => ?_)
        · skip
          refine v_iconst (n := 68) (v := 0) C dX12_isSeenBetween_67 rfl (by decide) ?_
          refine v_istore (n := 70) (lv' := [(4, .int 0), (5, .int (nI i_6)), (0, .ref (b + 27)), (1, .int x), (2, .int a), (3, .int z)]) C dX12_isSeenBetween_68 rfl (Nat.le_of_ble_eq_true rfl) rfl ?_
          refine v_iinc (n := 73) (v := ((nI i_6) + 1)) (lv' := [(5, .int ((nI i_6) + 1)), (4, .int 0), (0, .ref (b + 27)), (1, .int x), (2, .int a), (3, .int z)]) C dX12_isSeenBetween_70 rfl rfl rfl (Nat.le_of_ble_eq_true rfl) rfl ?_
          refine v_goto (t := 6) C dX12_isSeenBetween_73 (by decide) ?_
          refine v_pick (lv' := [(5, .int ((nI i_6) + 1)), (0, .ref (b + 27)), (1, .int x), (2, .int a), (3, .int z), (4, .int 0)]) [0, 2, 3, 4, 5, 1] rfl ?_
          have e_11 : ((nI i_6) + 1) = (nI (i_6 + 1)) := nI_1 _
          have e_12 : (0 : Int32) = (mibN (ar 35) x a z (i_6 + 1)) := by first | (rw [mibN]; done) | (rw [mibN]; simp only [if_neg g_5, if_pos (Int32.not_le.mp g_5), if_neg c_6, if_pos (Int32.not_le.mp c_6), if_pos c_7, if_neg c_10, if_neg (fun h => c_10 (Eq.symm h))]; done) | (rw [mibN]; simp only [eq_false g_5, eq_true (Int32.not_le.mp g_5), eq_false c_6, eq_true (Int32.not_le.mp c_6), eq_true c_7, eq_false c_10, eq_false (fun h => c_10 (Eq.symm h)), ↓reduceIte]; done) | (rw [mibN]; simp only [eq_false g_5, eq_true (Int32.not_le.mp g_5), eq_false c_6, eq_true (Int32.not_le.mp c_6), eq_true c_7, eq_false c_10, eq_false (fun h => c_10 (Eq.symm h)), ↓reduceIte] <;> rfl) | rfl | (rw [mibN]; simp [g_5, c_6, c_7, c_10]; done)
          refine v_cong (es' := (wl D b sc ar hn mh G)) (lv' := [(5, .int (nI (i_6 + 1))), (0, .ref (b + 27)), (1, .int x), (2, .int a), (3, .int z), (4, .int (mibN (ar 35) x a z (i_6 + 1)))]) rfl (cg2 (fun (z0 : Int32) (z1 : Int32) => ([(5, .int z0), (0, .ref (b + 27)), (1, .int x), (2, .int a), (3, .int z), (4, .int z1)] : List (Nat × Value))) e_11 e_12) ?_
          exact ih_6
        · skip
          refine v_aload_n (n := 34) C dX12_isSeenBetween_33 rfl rfl rfl ?_
          refine v_get (n := 37) C dX12_isSeenBetween_34 rfl fl_X12_31_X12 wl_c27 rfl ?_
          refine v_iconst (n := 38) (v := 3) C dX12_isSeenBetween_37 rfl (by decide) ?_
          refine v_iload (n := 40) C dX12_isSeenBetween_38 rfl rfl ?_
          refine v_imul (n := 41) C dX12_isSeenBetween_40 rfl ?_
          refine v_iconst (n := 42) (v := 2) C dX12_isSeenBetween_41 rfl (by decide) ?_
          refine v_iadd (n := 43) C dX12_isSeenBetween_42 rfl ?_
          refine v_iald (n := 44) C dX12_isSeenBetween_43 rfl wl_c35 (t3_vp (j := 2) (show i_6 < 6 by omega) (by decide)) ?_
          refine v_stk (st' := .int ((ar 35) (3 * i_6 + 2)) :: []) (congrArg (fun z : Nat => Value.int ((ar 35) z) :: []) (t3_c (j := 2) (show i_6 < 6 by omega) (by decide))) ?_
          refine v_iload_n (n := 45) C dX12_isSeenBetween_44 rfl rfl rfl ?_
          refine v_icmp_le (t := 67) (n := 48) C dX12_isSeenBetween_45 (by decide) rfl (fun c_13 => ?_) (fun c_13 => ?_)
          · skip
            refine v_iconst (n := 68) (v := 0) C dX12_isSeenBetween_67 rfl (by decide) ?_
            refine v_istore (n := 70) (lv' := [(4, .int 0), (5, .int (nI i_6)), (0, .ref (b + 27)), (1, .int x), (2, .int a), (3, .int z)]) C dX12_isSeenBetween_68 rfl (Nat.le_of_ble_eq_true rfl) rfl ?_
            refine v_iinc (n := 73) (v := ((nI i_6) + 1)) (lv' := [(5, .int ((nI i_6) + 1)), (4, .int 0), (0, .ref (b + 27)), (1, .int x), (2, .int a), (3, .int z)]) C dX12_isSeenBetween_70 rfl rfl rfl (Nat.le_of_ble_eq_true rfl) rfl ?_
            refine v_goto (t := 6) C dX12_isSeenBetween_73 (by decide) ?_
            refine v_pick (lv' := [(5, .int ((nI i_6) + 1)), (0, .ref (b + 27)), (1, .int x), (2, .int a), (3, .int z), (4, .int 0)]) [0, 2, 3, 4, 5, 1] rfl ?_
            have e_14 : ((nI i_6) + 1) = (nI (i_6 + 1)) := nI_1 _
            have e_15 : (0 : Int32) = (mibN (ar 35) x a z (i_6 + 1)) := by first | (rw [mibN]; done) | (rw [mibN]; simp only [if_neg g_5, if_pos (Int32.not_le.mp g_5), if_neg c_6, if_pos (Int32.not_le.mp c_6), if_pos c_7, if_pos c_10, if_pos (Eq.symm c_10), if_pos c_13, if_neg (Int32.not_lt.mpr c_13)]; done) | (rw [mibN]; simp only [eq_false g_5, eq_true (Int32.not_le.mp g_5), eq_false c_6, eq_true (Int32.not_le.mp c_6), eq_true c_7, eq_true c_10, eq_true (Eq.symm c_10), eq_true c_13, eq_false (Int32.not_lt.mpr c_13), ↓reduceIte]; done) | (rw [mibN]; simp only [eq_false g_5, eq_true (Int32.not_le.mp g_5), eq_false c_6, eq_true (Int32.not_le.mp c_6), eq_true c_7, eq_true c_10, eq_true (Eq.symm c_10), eq_true c_13, eq_false (Int32.not_lt.mpr c_13), ↓reduceIte] <;> rfl) | rfl | (rw [mibN]; simp [g_5, c_6, c_7, c_10, c_13]; done)
            refine v_cong (es' := (wl D b sc ar hn mh G)) (lv' := [(5, .int (nI (i_6 + 1))), (0, .ref (b + 27)), (1, .int x), (2, .int a), (3, .int z), (4, .int (mibN (ar 35) x a z (i_6 + 1)))]) rfl (cg2 (fun (z0 : Int32) (z1 : Int32) => ([(5, .int z0), (0, .ref (b + 27)), (1, .int x), (2, .int a), (3, .int z), (4, .int z1)] : List (Nat × Value))) e_14 e_15) ?_
            exact ih_6
          · skip
            refine v_aload_n (n := 49) C dX12_isSeenBetween_48 rfl rfl rfl ?_
            refine v_get (n := 52) C dX12_isSeenBetween_49 rfl fl_X12_31_X12 wl_c27 rfl ?_
            refine v_iconst (n := 53) (v := 3) C dX12_isSeenBetween_52 rfl (by decide) ?_
            refine v_iload (n := 55) C dX12_isSeenBetween_53 rfl rfl ?_
            refine v_imul (n := 56) C dX12_isSeenBetween_55 rfl ?_
            refine v_iconst (n := 57) (v := 2) C dX12_isSeenBetween_56 rfl (by decide) ?_
            refine v_iadd (n := 58) C dX12_isSeenBetween_57 rfl ?_
            refine v_iald (n := 59) C dX12_isSeenBetween_58 rfl wl_c35 (t3_vp (j := 2) (show i_6 < 6 by omega) (by decide)) ?_
            refine v_stk (st' := .int ((ar 35) (3 * i_6 + 2)) :: []) (congrArg (fun z : Nat => Value.int ((ar 35) z) :: []) (t3_c (j := 2) (show i_6 < 6 by omega) (by decide))) ?_
            refine v_iload_n (n := 60) C dX12_isSeenBetween_59 rfl rfl rfl ?_
            refine v_icmp_ge (t := 67) (n := 63) C dX12_isSeenBetween_60 (by decide) rfl (fun c_16 => ?_) (fun c_16 => ?_)
            · skip
              refine v_iconst (n := 68) (v := 0) C dX12_isSeenBetween_67 rfl (by decide) ?_
              refine v_istore (n := 70) (lv' := [(4, .int 0), (5, .int (nI i_6)), (0, .ref (b + 27)), (1, .int x), (2, .int a), (3, .int z)]) C dX12_isSeenBetween_68 rfl (Nat.le_of_ble_eq_true rfl) rfl ?_
              refine v_iinc (n := 73) (v := ((nI i_6) + 1)) (lv' := [(5, .int ((nI i_6) + 1)), (4, .int 0), (0, .ref (b + 27)), (1, .int x), (2, .int a), (3, .int z)]) C dX12_isSeenBetween_70 rfl rfl rfl (Nat.le_of_ble_eq_true rfl) rfl ?_
              refine v_goto (t := 6) C dX12_isSeenBetween_73 (by decide) ?_
              refine v_pick (lv' := [(5, .int ((nI i_6) + 1)), (0, .ref (b + 27)), (1, .int x), (2, .int a), (3, .int z), (4, .int 0)]) [0, 2, 3, 4, 5, 1] rfl ?_
              have e_17 : ((nI i_6) + 1) = (nI (i_6 + 1)) := nI_1 _
              have e_18 : (0 : Int32) = (mibN (ar 35) x a z (i_6 + 1)) := by first | (rw [mibN]; done) | (rw [mibN]; simp only [if_neg g_5, if_pos (Int32.not_le.mp g_5), if_neg c_6, if_pos (Int32.not_le.mp c_6), if_pos c_7, if_pos c_10, if_pos (Eq.symm c_10), if_neg c_13, if_pos (Int32.not_le.mp c_13), if_pos c_16, if_neg (Int32.not_lt.mpr c_16)]; done) | (rw [mibN]; simp only [eq_false g_5, eq_true (Int32.not_le.mp g_5), eq_false c_6, eq_true (Int32.not_le.mp c_6), eq_true c_7, eq_true c_10, eq_true (Eq.symm c_10), eq_false c_13, eq_true (Int32.not_le.mp c_13), eq_true c_16, eq_false (Int32.not_lt.mpr c_16), ↓reduceIte]; done) | (rw [mibN]; simp only [eq_false g_5, eq_true (Int32.not_le.mp g_5), eq_false c_6, eq_true (Int32.not_le.mp c_6), eq_true c_7, eq_true c_10, eq_true (Eq.symm c_10), eq_false c_13, eq_true (Int32.not_le.mp c_13), eq_true c_16, eq_false (Int32.not_lt.mpr c_16), ↓reduceIte] <;> rfl) | rfl | (rw [mibN]; simp [g_5, c_6, c_7, c_10, c_13, c_16]; done)
              refine v_cong (es' := (wl D b sc ar hn mh G)) (lv' := [(5, .int (nI (i_6 + 1))), (0, .ref (b + 27)), (1, .int x), (2, .int a), (3, .int z), (4, .int (mibN (ar 35) x a z (i_6 + 1)))]) rfl (cg2 (fun (z0 : Int32) (z1 : Int32) => ([(5, .int z0), (0, .ref (b + 27)), (1, .int x), (2, .int a), (3, .int z), (4, .int z1)] : List (Nat × Value))) e_17 e_18) ?_
              exact ih_6
            · skip
              refine v_iconst (n := 64) (v := 1) C dX12_isSeenBetween_63 rfl (by decide) ?_
              refine v_goto (t := 68) C dX12_isSeenBetween_64 (by decide) ?_
              refine v_istore (n := 70) (lv' := [(4, .int 1), (5, .int (nI i_6)), (0, .ref (b + 27)), (1, .int x), (2, .int a), (3, .int z)]) C dX12_isSeenBetween_68 rfl (Nat.le_of_ble_eq_true rfl) rfl ?_
              refine v_iinc (n := 73) (v := ((nI i_6) + 1)) (lv' := [(5, .int ((nI i_6) + 1)), (4, .int 1), (0, .ref (b + 27)), (1, .int x), (2, .int a), (3, .int z)]) C dX12_isSeenBetween_70 rfl rfl rfl (Nat.le_of_ble_eq_true rfl) rfl ?_
              refine v_goto (t := 6) C dX12_isSeenBetween_73 (by decide) ?_
              refine v_pick (lv' := [(5, .int ((nI i_6) + 1)), (0, .ref (b + 27)), (1, .int x), (2, .int a), (3, .int z), (4, .int 1)]) [0, 2, 3, 4, 5, 1] rfl ?_
              have e_19 : ((nI i_6) + 1) = (nI (i_6 + 1)) := nI_1 _
              have e_20 : (1 : Int32) = (mibN (ar 35) x a z (i_6 + 1)) := by first | (rw [mibN]; done) | (rw [mibN]; simp only [if_neg g_5, if_pos (Int32.not_le.mp g_5), if_neg c_6, if_pos (Int32.not_le.mp c_6), if_pos c_7, if_pos c_10, if_pos (Eq.symm c_10), if_neg c_13, if_pos (Int32.not_le.mp c_13), if_neg c_16, if_pos (Int32.not_le.mp c_16)]; done) | (rw [mibN]; simp only [eq_false g_5, eq_true (Int32.not_le.mp g_5), eq_false c_6, eq_true (Int32.not_le.mp c_6), eq_true c_7, eq_true c_10, eq_true (Eq.symm c_10), eq_false c_13, eq_true (Int32.not_le.mp c_13), eq_false c_16, eq_true (Int32.not_le.mp c_16), ↓reduceIte]; done) | (rw [mibN]; simp only [eq_false g_5, eq_true (Int32.not_le.mp g_5), eq_false c_6, eq_true (Int32.not_le.mp c_6), eq_true c_7, eq_true c_10, eq_true (Eq.symm c_10), eq_false c_13, eq_true (Int32.not_le.mp c_13), eq_false c_16, eq_true (Int32.not_le.mp c_16), ↓reduceIte] <;> rfl) | rfl | (rw [mibN]; simp [g_5, c_6, c_7, c_10, c_13, c_16]; done)
              refine v_cong (es' := (wl D b sc ar hn mh G)) (lv' := [(5, .int (nI (i_6 + 1))), (0, .ref (b + 27)), (1, .int x), (2, .int a), (3, .int z), (4, .int (mibN (ar 35) x a z (i_6 + 1)))]) rfl (cg2 (fun (z0 : Int32) (z1 : Int32) => ([(5, .int z0), (0, .ref (b + 27)), (1, .int x), (2, .int a), (3, .int z), (4, .int z1)] : List (Nat × Value))) e_19 e_20) ?_
              exact ih_6
