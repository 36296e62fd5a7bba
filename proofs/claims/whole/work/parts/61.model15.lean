set_option maxHeartbeats 4000000 in
set_option maxRecDepth 100000 in
theorem m_startOf (l : Launch) (D : va_G) (b : Nat) (sc : Nat → Int32) (ar : Nat → Nat → Int32) (hn : Nat → Option Nat) (mh : Int64) (G : List va_E) (k : Nat) (hk3 : k < 3) (hi : Nat → Nat) (R W kk d F : Nat) (Z : zM ar k hi kk d F) (h21 : sc 21 = nI R) (hR : R ≤ 9) (h23 : sc 23 = nI W) (hW : W < 5) (Sn : Nat) (hS : sc 28 = nI Sn) (hS6 : Sn ≤ 6) : Con l yX12_startOf cX12_startOf 4 (some .int) 4 104 D b 0 0 (wl D b sc ar hn mh G) [.ref (b + 27), .int (nI k)] (fun r es' => r = some (.int (stB (fun c => stQ hi R W kk d (ar 35) (nI k) Sn c) 12)) ∧ ∃ L : Nat → Int32, wl D b sc (va_up ar 36 L) hn mh G = es') := by
  refine con_of (by decide) (Nat.le_of_ble_eq_true rfl) (fun p e s m args below meth c C hsz => ?_)
  have C : vC p s m args meth c cX12_startOf 4 RX12 "startOf" (some .int) D b := C
  change V p l e _ s m args below meth c D b 4 _ 0 0 (wl D b sc ar hn mh G) [(0, .ref (b + 27)), (1, .int (nI k))] [] 0
  refine v_iconst (n := 1) (v := 0) C dX12_startOf_0 rfl (by decide) ?_
  refine v_istore_n (n := 2) (lv' := [(2, .int 0), (0, .ref (b + 27)), (1, .int (nI k))]) C dX12_startOf_1 rfl rfl (Nat.le_of_ble_eq_true rfl) rfl ?_
  refine v_iconst (n := 3) (v := 0) C dX12_startOf_2 rfl (by decide) ?_
  refine v_istore_n (n := 4) (lv' := [(3, .int 0), (2, .int 0), (0, .ref (b + 27)), (1, .int (nI k))]) C dX12_startOf_3 rfl rfl (Nat.le_of_ble_eq_true rfl) rfl ?_
  refine v_pick (lv' := [(3, .int 0), (0, .ref (b + 27)), (1, .int (nI k)), (2, .int 0)]) [0, 2, 3, 1] rfl ?_
  have e_1 : (0 : Int32) = (nI 0) := rfl
  have e_2 : (0 : Int32) = (stB (fun c => stQ hi R W kk d (ar 35) (nI k) Sn c) 0) := rfl
  refine v_cong (es' := (wl D b sc (va_up ar 36 (ar 36)) hn mh G)) (lv' := [(3, .int 0), (0, .ref (b + 27)), (1, .int (nI k)), (2, .int 0)]) rfl rfl ?_
  refine v_cong (es' := (wl D b sc (va_up ar 36 (ar 36)) hn mh G)) (lv' := [(3, .int (nI 0)), (0, .ref (b + 27)), (1, .int (nI k)), (2, .int (stB (fun c => stQ hi R W kk d (ar 35) (nI k) Sn c) 0))]) rfl (cg2 (fun (z0 : Int32) (z1 : Int32) => ([(3, .int z0), (0, .ref (b + 27)), (1, .int (nI k)), (2, .int z1)] : List (Nat × Value))) e_1 e_2) ?_
  refine loop_dn (P := fun i_4 => ∀ (L : Nat → Int32), V p l e { frames := 4, cells := 0, slots := 0, locals := 104 } s m args below meth c D b 4 (MQ below (cQ D b 0 (fun r es' => r = some (.int (stB (fun c => stQ hi R W kk d (ar 35) (nI k) Sn c) 12)) ∧ ∃ L : Nat → Int32, wl D b sc (va_up ar 36 L) hn mh G = es')) args s 0 0 (fun q => b ≤ q)) 0 0 (wl D b sc (va_up ar 36 L) hn mh G) [(3, .int (nI i_4)), (0, .ref (b + 27)), (1, .int (nI k)), (2, .int (stB (fun c => stQ hi R W kk d (ar 35) (nI k) Sn c) i_4))] [] 4) 12 ?_ (fun i_4 hi_4 ih_4 => ?_) (ar 36)
  · intro L
    have g_3 : (12 : Int32) ≤ (nI 12) := by decide
    refine v_iload_n (n := 5) C dX12_startOf_4 rfl rfl rfl ?_
    refine v_bipush (n := 7) (v := 12) C dX12_startOf_5 rfl (by decide) ?_
    refine v_icmp_ge (t := 35) (n := 10) C dX12_startOf_7 (by decide) rfl (fun c_4 => ?_) (fun c_4 => ?_)
    · skip
      refine v_iload_n (n := 36) C dX12_startOf_35 rfl rfl rfl ?_
      exact v_iret C dX12_startOf_36 rfl rfl ⟨rfl, L, rfl⟩
    · first | exact absurd c_4 g_3 | exact absurd g_3 c_4 | exact absurd c_4 (Int32.not_le.mpr g_3) | exact absurd c_4 (Int32.not_lt.mpr g_3) | exact absurd (Int32.not_le.mp g_3) c_4 | exact absurd (Int32.not_lt.mp g_3) c_4 | exact absurd (Int32.not_le.mp g_3) (Int32.not_lt.mpr c_4) | exact absurd (Int32.not_lt.mp g_3) (Int32.not_le.mpr c_4) | exact absurd (Int32.not_lt.mp c_4) (Int32.not_le.mpr (Int32.not_le.mp g_3))
  · intro L
    have g_5 : ¬ (12 : Int32) ≤ (nI i_4) := nI_ge (a := i_4 + 0) (b := 12) (by omega) (by decide)
    refine v_iload_n (n := 5) C dX12_startOf_4 rfl rfl rfl ?_
    refine v_bipush (n := 7) (v := 12) C dX12_startOf_5 rfl (by decide) ?_
    refine v_icmp_ge (t := 35) (n := 10) C dX12_startOf_7 (by decide) rfl (fun c_6 => ?_) (fun c_6 => ?_)
    · first | exact absurd c_6 g_5 | exact absurd g_5 c_6 | exact absurd c_6 (Int32.not_le.mpr g_5) | exact absurd c_6 (Int32.not_lt.mpr g_5) | exact absurd (Int32.not_le.mp g_5) c_6 | exact absurd (Int32.not_lt.mp g_5) c_6 | exact absurd (Int32.not_le.mp g_5) (Int32.not_lt.mpr c_6) | exact absurd (Int32.not_lt.mp g_5) (Int32.not_le.mpr c_6) | exact absurd (Int32.not_lt.mp c_6) (Int32.not_le.mpr (Int32.not_le.mp g_5))
    · skip
      refine v_iload_n (n := 11) C dX12_startOf_10 rfl rfl rfl ?_
      refine v_aload_n (n := 12) C dX12_startOf_11 rfl rfl rfl ?_
      refine v_iload_n (n := 13) C dX12_startOf_12 rfl rfl rfl ?_
      refine v_iload_n (n := 14) C dX12_startOf_13 rfl rfl rfl ?_
      refine v_go (n := 17) C (vRun_V (As := [.int (nI k), .int (nI i_4)]) (rest := [.int (stB (fun c => stQ hi R W kk d (ar 35) (nI k) Sn c) i_4)]) C wl_c27 rfl lk_X12_179 im_X12_canStart se_X12_canStart dX12_startOf_14 (m_canStart l D b sc (va_up ar 36 L) hn mh G k hk3 hi R W kk d F Z h21 hR h23 hW Sn hS hS6 i_4 (by omega) 48 41 rfl rfl) wm_X12_canStart rfl rfl ⟨Nat.le_of_ble_eq_true rfl, Nat.le_of_ble_eq_true rfl⟩ ⟨Nat.le_of_ble_eq_true rfl, Nat.le_of_ble_eq_true rfl⟩ (Nat.le_of_ble_eq_true rfl)) rfl ?_
      rintro _ _ ⟨v7, rfl, hv7, L7, rfl⟩ -
      refine v_cong (es' := (wl D b sc (va_up ar 36 L7) hn mh G)) (lv' := [(3, .int (nI i_4)), (0, .ref (b + 27)), (1, .int (nI k)), (2, .int (stB (fun c => stQ hi R W kk d (ar 35) (nI k) Sn c) i_4))]) rfl rfl ?_
      refine v_if_eq (t := 26) (n := 20) C dX12_startOf_17 (by decide) rfl (fun c_8 => ?_) (fun c_8 => ?_)
      · skip
        refine v_iconst (n := 27) (v := 0) C dX12_startOf_26 rfl (by decide) ?_
        refine v_ior (n := 28) C dX12_startOf_27 rfl ?_
        refine v_istore_n (n := 29) (lv' := [(2, .int ((stB (fun c => stQ hi R W kk d (ar 35) (nI k) Sn c) i_4) ||| (0 : Int32))), (3, .int (nI i_4)), (0, .ref (b + 27)), (1, .int (nI k))]) C dX12_startOf_28 rfl rfl (Nat.le_of_ble_eq_true rfl) rfl ?_
        refine v_iinc (n := 32) (v := ((nI i_4) + 1)) (lv' := [(3, .int ((nI i_4) + 1)), (2, .int ((stB (fun c => stQ hi R W kk d (ar 35) (nI k) Sn c) i_4) ||| (0 : Int32))), (0, .ref (b + 27)), (1, .int (nI k))]) C dX12_startOf_29 rfl rfl rfl (Nat.le_of_ble_eq_true rfl) rfl ?_
        refine v_goto (t := 4) C dX12_startOf_32 (by decide) ?_
        refine v_pick (lv' := [(3, .int ((nI i_4) + 1)), (0, .ref (b + 27)), (1, .int (nI k)), (2, .int ((stB (fun c => stQ hi R W kk d (ar 35) (nI k) Sn c) i_4) ||| (0 : Int32)))]) [0, 2, 3, 1] rfl ?_
        have e_9 : (((nI i_4) + 1) : Int32) = (nI (i_4 + 1)) := nI_1 _
        have e_10 : (((stB (fun c => stQ hi R W kk d (ar 35) (nI k) Sn c) i_4) ||| (0 : Int32)) : Int32) = (stB (fun c => stQ hi R W kk d (ar 35) (nI k) Sn c) (i_4 + 1)) := (stB_1 (P := (fun c => stQ hi R W kk d (ar 35) (nI k) Sn c)) hv7 c_8).symm
        refine v_cong (es' := (wl D b sc (va_up ar 36 L7) hn mh G)) (lv' := [(3, .int (nI (i_4 + 1))), (0, .ref (b + 27)), (1, .int (nI k)), (2, .int (stB (fun c => stQ hi R W kk d (ar 35) (nI k) Sn c) (i_4 + 1)))]) rfl (cg2 (fun (z0 : Int32) (z1 : Int32) => ([(3, .int z0), (0, .ref (b + 27)), (1, .int (nI k)), (2, .int z1)] : List (Nat × Value))) e_9 e_10) ?_
        exact ih_4 L7
      · skip
        refine v_iconst (n := 21) (v := 1) C dX12_startOf_20 rfl (by decide) ?_
        refine v_iload_n (n := 22) C dX12_startOf_21 rfl rfl rfl ?_
        refine v_ishl (n := 23) C dX12_startOf_22 rfl ?_
        refine v_goto (t := 27) C dX12_startOf_23 (by decide) ?_
        refine v_ior (n := 28) C dX12_startOf_27 rfl ?_
        refine v_istore_n (n := 29) (lv' := [(2, .int ((stB (fun c => stQ hi R W kk d (ar 35) (nI k) Sn c) i_4) ||| ((1 : Int32) <<< ((nI i_4) &&& 31)))), (3, .int (nI i_4)), (0, .ref (b + 27)), (1, .int (nI k))]) C dX12_startOf_28 rfl rfl (Nat.le_of_ble_eq_true rfl) rfl ?_
        refine v_iinc (n := 32) (v := ((nI i_4) + 1)) (lv' := [(3, .int ((nI i_4) + 1)), (2, .int ((stB (fun c => stQ hi R W kk d (ar 35) (nI k) Sn c) i_4) ||| ((1 : Int32) <<< ((nI i_4) &&& 31)))), (0, .ref (b + 27)), (1, .int (nI k))]) C dX12_startOf_29 rfl rfl rfl (Nat.le_of_ble_eq_true rfl) rfl ?_
        refine v_goto (t := 4) C dX12_startOf_32 (by decide) ?_
        refine v_pick (lv' := [(3, .int ((nI i_4) + 1)), (0, .ref (b + 27)), (1, .int (nI k)), (2, .int ((stB (fun c => stQ hi R W kk d (ar 35) (nI k) Sn c) i_4) ||| ((1 : Int32) <<< ((nI i_4) &&& 31))))]) [0, 2, 3, 1] rfl ?_
        have e_11 : (((nI i_4) + 1) : Int32) = (nI (i_4 + 1)) := nI_1 _
        have e_12 : (((stB (fun c => stQ hi R W kk d (ar 35) (nI k) Sn c) i_4) ||| ((1 : Int32) <<< ((nI i_4) &&& 31))) : Int32) = (stB (fun c => stQ hi R W kk d (ar 35) (nI k) Sn c) (i_4 + 1)) := (stB_2 (P := (fun c => stQ hi R W kk d (ar 35) (nI k) Sn c)) hv7 c_8).symm
        refine v_cong (es' := (wl D b sc (va_up ar 36 L7) hn mh G)) (lv' := [(3, .int (nI (i_4 + 1))), (0, .ref (b + 27)), (1, .int (nI k)), (2, .int (stB (fun c => stQ hi R W kk d (ar 35) (nI k) Sn c) (i_4 + 1)))]) rfl (cg2 (fun (z0 : Int32) (z1 : Int32) => ([(3, .int z0), (0, .ref (b + 27)), (1, .int (nI k)), (2, .int z1)] : List (Nat × Value))) e_11 e_12) ?_
        exact ih_4 L7
def mstaF (sc : Nat → Int32) (P : Nat → Nat → Prop) (x : Int32) : Int32 → Prop := fun v => if x < 0 then v = -101 else if sc 25 - 1 < x then v = -101 else v = stB (P x.toNatClampNeg) 12
set_option maxHeartbeats 4000000 in
set_option maxRecDepth 100000 in
theorem m_start (l : Launch) (D : va_G) (b : Nat) (sc : Nat → Int32) (ar : Nat → Nat → Int32) (hn : Nat → Option Nat) (mh : Int64) (G : List va_E) (x : Int32) (hi kk dd FF : Nat → Nat) (R H W : Nat) (h21 : sc 21 = nI R) (hR : R ≤ 9) (h22 : sc 22 = nI H) (hHb : H ≤ 999) (h23 : sc 23 = nI W) (hW : W < 5) (Hn : Nat) (hH : sc 25 = nI Hn) (hH3 : Hn ≤ 3) (hZ : ∀ k, k < Hn → zM ar k hi (kk k) (dd k) (FF k)) (Sn : Nat) (hS : sc 28 = nI Sn) (hS6 : Sn ≤ 6) : Con l yX12_start cX12_start 2 (some .int) 5 127 D b 0 0 (wl D b sc ar hn mh G) [.ref (b + 27), .int x] (fun r es' => ∃ v, r = some (.int v) ∧ mstaF sc (fun k c => stQ hi R W (kk k) (dd k) (ar 35) (nI k) Sn c) x v ∧ ∃ sc' ar', PerM sc ar sc' ar' ∧ wl D b sc' ar' hn mh G = es') := by
  refine con_of (by decide) (Nat.le_of_ble_eq_true rfl) (fun p e s m args below meth c C hsz => ?_)
  have C : vC p s m args meth c cX12_start 2 RX12 "start" (some .int) D b := C
  change V p l e _ s m args below meth c D b 2 _ 0 0 (wl D b sc ar hn mh G) [(0, .ref (b + 27)), (1, .int x)] [] 0
  refine v_aload_n (n := 1) C dX12_start_0 rfl rfl rfl ?_
  refine v_iload_n (n := 2) C dX12_start_1 rfl rfl rfl ?_
  refine v_go (n := 5) C (vRun_V (As := [.int x]) (rest := []) C wl_c27 rfl lk_X12_134 im_X12_isHull se_X12_isHull dX12_start_2 (m_isHull l D b sc ar hn mh G x) wm_X12_isHull rfl rfl ⟨Nat.le_of_ble_eq_true rfl, Nat.le_of_ble_eq_true rfl⟩ ⟨Nat.le_of_ble_eq_true rfl, Nat.le_of_ble_eq_true rfl⟩ (Nat.le_of_ble_eq_true rfl)) rfl ?_
  rintro _ _ ⟨rfl, rfl⟩ -
  by_cases p_1 : x < 0
  · skip
    refine v_stk (st' := .int 0 :: []) (congrArg (fun z : Int32 => Value.int z :: []) (show mihF (sc 25) x = 0 by simp only [mihF, if_pos p_1])) ?_
    refine v_if_eq (t := 16) (n := 8) C dX12_start_5 (by decide) rfl (fun c_2 => ?_) (fun c_2 => ?_)
    · skip
      refine v_bipush (n := 18) (v := -101) C dX12_start_16 rfl (by decide) ?_
      exact v_iret C dX12_start_18 rfl rfl ⟨_, rfl, by simp only [mstaF, eq_true p_1, eq_false (Int32.not_le.mpr p_1), eq_true c_2, ↓reduceIte], sc, ar, PerM_rf, rfl⟩
    · exact absurd c_2 (by decide)
  by_cases p_3 : (sc 25) - 1 < x
  · skip
    refine v_stk (st' := .int 0 :: []) (congrArg (fun z : Int32 => Value.int z :: []) (show mihF (sc 25) x = 0 by simp only [mihF, if_neg p_1, if_pos p_3])) ?_
    refine v_if_eq (t := 16) (n := 8) C dX12_start_5 (by decide) rfl (fun c_4 => ?_) (fun c_4 => ?_)
    · skip
      refine v_bipush (n := 18) (v := -101) C dX12_start_16 rfl (by decide) ?_
      exact v_iret C dX12_start_18 rfl rfl ⟨_, rfl, by simp only [mstaF, eq_false p_1, eq_true (Int32.not_lt.mp p_1), eq_true p_3, eq_false (Int32.not_le.mpr p_3), eq_true c_4, ↓reduceIte], sc, ar, PerM_rf, rfl⟩
    · exact absurd c_4 (by decide)
  refine v_stk (st' := .int 1 :: []) (congrArg (fun z : Int32 => Value.int z :: []) (show mihF (sc 25) x = 1 by simp only [mihF, if_neg p_1, if_neg p_3])) ?_
  obtain ⟨kN, hkN, rfl⟩ := ih_k hH hH3 p_1 p_3
  have hkc : (nI kN).toNatClampNeg = kN := nI_clamp (by omega)
  refine v_if_eq (t := 16) (n := 8) C dX12_start_5 (by decide) rfl (fun c_5 => ?_) (fun c_5 => ?_)
  · exact absurd c_5 (by decide)
  · skip
    refine v_aload_n (n := 9) C dX12_start_8 rfl rfl rfl ?_
    refine v_iload_n (n := 10) C dX12_start_9 rfl rfl rfl ?_
    refine v_go (n := 13) C (vRun_V (As := [.int (nI kN)]) (rest := []) C wl_c27 rfl lk_X12_182 im_X12_startOf se_X12_startOf dX12_start_10 (m_startOf l D b sc ar hn mh G kN (show kN < 3 by omega) hi R W (kk kN) (dd kN) (FF kN) (hZ kN (by omega)) h21 hR h23 hW Sn hS hS6) wm_X12_startOf rfl rfl ⟨Nat.le_of_ble_eq_true rfl, Nat.le_of_ble_eq_true rfl⟩ ⟨Nat.le_of_ble_eq_true rfl, Nat.le_of_ble_eq_true rfl⟩ (Nat.le_of_ble_eq_true rfl)) rfl ?_
    rintro _ _ ⟨rfl, L6, rfl⟩ -
    refine v_stk (st' := .int (stB (fun c => stQ hi R W (kk kN) (dd kN) (ar 35) (nI kN) Sn c) 12) :: []) (congrArg (fun z : Int32 => Value.int z :: []) rfl) ?_
    refine v_goto (t := 18) C dX12_start_13 (by decide) ?_
    exact v_iret C dX12_start_18 rfl rfl ⟨_, rfl, by simp only [mstaF, eq_false p_1, eq_true (Int32.not_lt.mp p_1), eq_false p_3, eq_true (Int32.not_lt.mp p_3), hkc, eq_false c_5, ↓reduceIte], sc, (va_up ar 36 L6), (PerM_a (by decide) PerM_rf), rfl⟩
/-- the hash of a hull -/
def mhT (sc : Nat → Int32) (ar : Nat → Nat → Int32) (k : Nat) (h : Int64) : Nat → Int64
  | 0 => h
  | w + 1 => if nI w < 5 then 31 * mhT sc ar k h w + Int32.toInt64 (mteF sc ar k (nI w)) else if nI w ≤ 9 then mhT sc ar k h w else 31 * mhT sc ar k h w + Int32.toInt64 (mteF sc ar k (nI w))
def mhV (g : Nat → Int32) (h : Int64) : Nat → Int64
  | 0 => h
  | c + 1 => 31 * mhV g h c + Int32.toInt64 (g c)
noncomputable def mshF (sc : Nat → Int32) (ar : Nat → Nat → Int32) (k : Nat) (g : Nat → Int32) (P : Nat → Prop) (h : Int64) : Int64 := 31 * mhV g (mhT sc ar k h 14) 12 + Int32.toInt64 (stB P 12)
theorem mte_cg {sc : Nat → Int32} {ar ar' : Nat → Nat → Int32} {k : Nat} {w : Int32} (h1 : ar' 29 = ar 29) (h2 : ar' 30 = ar 30) : mteF sc ar' k w = mteF sc ar k w := by
  unfold mteF mstF
  rw [h1, h2]
theorem mhT_cg {sc : Nat → Int32} {ar ar' : Nat → Nat → Int32} {k : Nat} {h : Int64} (h1 : ar' 29 = ar 29) (h2 : ar' 30 = ar 30) : ∀ n, mhT sc ar' k h n = mhT sc ar k h n := by
  intro n
  induction n with
  | zero => rfl
  | succ n ih => rw [mhT, mhT, ih, mte_cg h1 h2]
theorem msh_cg {sc : Nat → Int32} {ar ar' : Nat → Nat → Int32} {k : Nat} {g : Nat → Int32} {P : Nat → Prop} {h : Int64} (h1 : ar' 29 = ar 29) (h2 : ar' 30 = ar 30) : mshF sc ar' k g P h = mshF sc ar k g P h := by
  unfold mshF
  rw [mhT_cg h1 h2]
theorem mst_cg {sc : Nat → Int32} {ar ar' : Nat → Nat → Int32} (h1 : ar' 29 = ar 29) (h2 : ar' 30 = ar 30) : ∀ n, mstN sc ar' n = mstN sc ar n := by
  intro n
  induction n with
  | zero => rfl
  | succ n ih => rw [mstN, mstN, ih]; unfold mstF; rw [h1, h2]
theorem mct_cg {sc : Nat → Int32} {ar ar' : Nat → Nat → Int32} {Hn : Nat} {w : Int32} (h1 : ar' 29 = ar 29) (h2 : ar' 30 = ar 30) : mctF sc ar' Hn w = mctF sc ar Hn w := by
  unfold mctF
  rw [mst_cg h1 h2]
set_option maxHeartbeats 4000000 in
set_option maxRecDepth 100000 in
theorem m_sayHull (l : Launch) (D : va_G) (b : Nat) (sc : Nat → Int32) (ar : Nat → Nat → Int32) (hn : Nat → Option Nat) (mh : Int64) (G : List va_E) (k : Nat) (hk3 : k < 3) (hi : Nat → Nat) (R W kk d F : Nat) (Z : zM ar k hi kk d F) (h21 : sc 21 = nI R) (hR : R ≤ 9) (h23 : sc 23 = nI W) (hW : W < 5) (Sn : Nat) (hS : sc 28 = nI Sn) (hS6 : Sn ≤ 6) (H : Nat) (h22 : sc 22 = nI H) (hHb : H ≤ 999) (hxr : vp_in (ar 30 (4 * k + 2)) 12) : Con l yX12_sayHull cX12_sayHull 3 none 5 136 D b 0 0 (wl D b sc ar hn mh G) [.ref (b + 27), .int (nI k)] (fun r es' => r = none ∧ ∃ (q : HF) (L : Nat → Int32), wl D b sc (va_up (va_up (va_up ar 31 q.1) 32 q.2) 36 L) hn (mshF sc ar k (fun c => (vyQ hi R W kk d F H).1 c) (fun c => stQ hi R W kk d (ar 35) (nI k) Sn c) mh) G = es') := by
  refine con_of (by decide) (Nat.le_of_ble_eq_true rfl) (fun p e s m args below meth c C hsz => ?_)
  have C : vC p s m args meth c cX12_sayHull 3 RX12 "sayHull" none D b := C
  change V p l e _ s m args below meth c D b 3 _ 0 0 (wl D b sc ar hn mh G) [(0, .ref (b + 27)), (1, .int (nI k))] [] 0
  refine v_iconst (n := 1) (v := 0) C dX12_sayHull_0 rfl (by decide) ?_
  refine v_istore_n (n := 2) (lv' := [(2, .int 0), (0, .ref (b + 27)), (1, .int (nI k))]) C dX12_sayHull_1 rfl rfl (Nat.le_of_ble_eq_true rfl) rfl ?_
  refine v_pick (lv' := [(2, .int 0), (0, .ref (b + 27)), (1, .int (nI k))]) [0, 1, 2] rfl ?_
  have e_1 : (0 : Int32) = (nI 0) := rfl
  have e_2 : (mh : Int64) = (mhT sc ar k mh 0) := by first | rfl | (simp only [mhT, ↓reduceIte]; done)
  refine v_cong (es' := (wl D b sc ar hn (mhT sc ar k mh 0) G)) (lv' := [(2, .int (nI 0)), (0, .ref (b + 27)), (1, .int (nI k))]) (cg1 (fun (y0 : Int64) => wl D b sc ar hn y0 G) e_2) (cg1 (fun (z0 : Int32) => ([(2, .int z0), (0, .ref (b + 27)), (1, .int (nI k))] : List (Nat × Value))) e_1) ?_
  refine loop_dn (P := fun i_2 => V p l e { frames := 5, cells := 0, slots := 0, locals := 136 } s m args below meth c D b 3 (MQ below (cQ D b 0 (fun r es' => r = none ∧ ∃ (q : HF) (L : Nat → Int32), wl D b sc (va_up (va_up (va_up ar 31 q.1) 32 q.2) 36 L) hn (mshF sc ar k (fun c => (vyQ hi R W kk d F H).1 c) (fun c => stQ hi R W kk d (ar 35) (nI k) Sn c) mh) G = es')) args s 0 0 (fun q => b ≤ q)) 0 0 (wl D b sc ar hn (mhT sc ar k mh i_2) G) [(2, .int (nI i_2)), (0, .ref (b + 27)), (1, .int (nI k))] [] 2) 14 ?_ (fun i_2 hi_2 ih_2 => ?_)
  · skip
    have g_3 : (14 : Int32) ≤ (nI 14) := by decide
    refine v_iload_n (n := 3) C dX12_sayHull_2 rfl rfl rfl ?_
    refine v_bipush (n := 5) (v := 14) C dX12_sayHull_3 rfl (by decide) ?_
    refine v_icmp_ge (t := 36) (n := 8) C dX12_sayHull_5 (by decide) rfl (fun c_4 => ?_) (fun c_4 => ?_)
    · skip
      refine v_iconst (n := 37) (v := 0) C dX12_sayHull_36 rfl (by decide) ?_
      refine v_istore_n (n := 38) (lv' := [(2, .int 0), (0, .ref (b + 27)), (1, .int (nI k))]) C dX12_sayHull_37 rfl rfl (Nat.le_of_ble_eq_true rfl) rfl ?_
      refine v_pick (lv' := [(2, .int 0), (0, .ref (b + 27)), (1, .int (nI k))]) [0, 1, 2] rfl ?_
      have e_5 : (0 : Int32) = (nI 0) := rfl
      refine v_cong (es' := (wl D b sc (va_up (va_up ar 31 (ar 31)) 32 (ar 32)) hn (mhT sc ar k mh 14) G)) (lv' := [(2, .int 0), (0, .ref (b + 27)), (1, .int (nI k))]) rfl rfl ?_
      have e_6 : ((ar 31) : Nat → Int32) = (ar 31, ar 32).1 := rfl
      have e_7 : ((ar 32) : Nat → Int32) = (ar 31, ar 32).2 := rfl
      have e_8 : ((mhT sc ar k mh 14) : Int64) = (mhV (fun c => (vyQ hi R W kk d F H).1 c) (mhT sc ar k mh 14) 0) := rfl
      refine v_cong (es' := (wl D b sc (va_up (va_up ar 31 (ar 31, ar 32).1) 32 (ar 31, ar 32).2) hn (mhV (fun c => (vyQ hi R W kk d F H).1 c) (mhT sc ar k mh 14) 0) G)) (lv' := [(2, .int (nI 0)), (0, .ref (b + 27)), (1, .int (nI k))]) (cg3 (fun (y0 : Nat → Int32) (y1 : Nat → Int32) (y2 : Int64) => wl D b sc (va_up (va_up ar 31 y0) 32 y1) hn y2 G) e_6 e_7 e_8) (cg1 (fun (z0 : Int32) => ([(2, .int z0), (0, .ref (b + 27)), (1, .int (nI k))] : List (Nat × Value))) e_5) ?_
      refine loop_dn (P := fun i_38 => ∀ (q : HF), V p l e { frames := 5, cells := 0, slots := 0, locals := 136 } s m args below meth c D b 3 (MQ below (cQ D b 0 (fun r es' => r = none ∧ ∃ (q : HF) (L : Nat → Int32), wl D b sc (va_up (va_up (va_up ar 31 q.1) 32 q.2) 36 L) hn (mshF sc ar k (fun c => (vyQ hi R W kk d F H).1 c) (fun c => stQ hi R W kk d (ar 35) (nI k) Sn c) mh) G = es')) args s 0 0 (fun q => b ≤ q)) 0 0 (wl D b sc (va_up (va_up ar 31 q.1) 32 q.2) hn (mhV (fun c => (vyQ hi R W kk d F H).1 c) (mhT sc ar k mh 14) i_38) G) [(2, .int (nI i_38)), (0, .ref (b + 27)), (1, .int (nI k))] [] 38) 12 ?_ (fun i_38 hi_38 ih_38 => ?_) (ar 31, ar 32)
      · intro q
        have g_9 : (12 : Int32) ≤ (nI 12) := by decide
        refine v_iload_n (n := 39) C dX12_sayHull_38 rfl rfl rfl ?_
        refine v_bipush (n := 41) (v := 12) C dX12_sayHull_39 rfl (by decide) ?_
        refine v_icmp_ge (t := 73) (n := 44) C dX12_sayHull_41 (by decide) rfl (fun c_10 => ?_) (fun c_10 => ?_)
        · skip
          refine v_aload_n (n := 74) C dX12_sayHull_73 rfl rfl rfl ?_
          refine v_aload_n (n := 75) C dX12_sayHull_74 rfl rfl rfl ?_
          refine v_iload_n (n := 76) C dX12_sayHull_75 rfl rfl rfl ?_
          refine v_go (n := 79) C (vRun_V (As := [.int (nI k)]) (rest := [.ref (b + 27)]) C wl_c27 rfl lk_X12_182 im_X12_startOf se_X12_startOf dX12_sayHull_76 (m_startOf l D b sc (va_up (va_up ar 31 q.1) 32 q.2) hn (mhV (fun c => (vyQ hi R W kk d F H).1 c) (mhT sc ar k mh 14) 12) G k hk3 hi R W kk d F Z h21 hR h23 hW Sn hS hS6) wm_X12_startOf rfl rfl ⟨Nat.le_of_ble_eq_true rfl, Nat.le_of_ble_eq_true rfl⟩ ⟨Nat.le_of_ble_eq_true rfl, Nat.le_of_ble_eq_true rfl⟩ (Nat.le_of_ble_eq_true rfl)) rfl ?_
          rintro _ _ ⟨rfl, L11, rfl⟩ -
          refine v_cong (es' := (wl D b sc (va_up (va_up (va_up ar 31 q.1) 32 q.2) 36 L11) hn (mhV (fun c => (vyQ hi R W kk d F H).1 c) (mhT sc ar k mh 14) 12) G)) (lv' := [(2, .int (nI 12)), (0, .ref (b + 27)), (1, .int (nI k))]) rfl rfl ?_
          refine v_stk (st' := .int (stB (fun c => stQ hi R W kk d (ar 35) (nI k) Sn c) 12) :: [.ref (b + 27)]) (congrArg (fun z : Int32 => Value.int z :: [.ref (b + 27)]) rfl) ?_
          refine v_i2l (n := 80) C dX12_sayHull_79 rfl ?_
          refine v_go (n := 83) C (vRun_V (As := [.long (Int32.toInt64 (stB (fun c => stQ hi R W kk d (ar 35) (nI k) Sn c) 12))]) (rest := []) C wl_c27 rfl lk_X12_227 im_X12_say se_X12_say dX12_sayHull_80 (m_say l D b sc (va_up (va_up (va_up ar 31 q.1) 32 q.2) 36 L11) hn (mhV (fun c => (vyQ hi R W kk d F H).1 c) (mhT sc ar k mh 14) 12) G (Int32.toInt64 (stB (fun c => stQ hi R W kk d (ar 35) (nI k) Sn c) 12))) wm_X12_say rfl rfl ⟨Nat.le_of_ble_eq_true rfl, Nat.le_of_ble_eq_true rfl⟩ ⟨Nat.le_of_ble_eq_true rfl, Nat.le_of_ble_eq_true rfl⟩ (Nat.le_of_ble_eq_true rfl)) rfl ?_
          rintro _ _ ⟨rfl, rfl⟩ -
          exact v_vret C dX12_sayHull_83 rfl ⟨rfl, q, L11, rfl⟩
        · first | exact absurd c_10 g_9 | exact absurd g_9 c_10 | exact absurd c_10 (Int32.not_le.mpr g_9) | exact absurd c_10 (Int32.not_lt.mpr g_9) | exact absurd (Int32.not_le.mp g_9) c_10 | exact absurd (Int32.not_lt.mp g_9) c_10 | exact absurd (Int32.not_le.mp g_9) (Int32.not_lt.mpr c_10) | exact absurd (Int32.not_lt.mp g_9) (Int32.not_le.mpr c_10) | exact absurd (Int32.not_lt.mp c_10) (Int32.not_le.mpr (Int32.not_le.mp g_9))
      · intro q
        have g_12 : ¬ (12 : Int32) ≤ (nI i_38) := nI_ge (a := i_38 + 0) (b := 12) (by omega) (by decide)
        refine v_iload_n (n := 39) C dX12_sayHull_38 rfl rfl rfl ?_
        refine v_bipush (n := 41) (v := 12) C dX12_sayHull_39 rfl (by decide) ?_
        refine v_icmp_ge (t := 73) (n := 44) C dX12_sayHull_41 (by decide) rfl (fun c_13 => ?_) (fun c_13 => ?_)
        · first | exact absurd c_13 g_12 | exact absurd g_12 c_13 | exact absurd c_13 (Int32.not_le.mpr g_12) | exact absurd c_13 (Int32.not_lt.mpr g_12) | exact absurd (Int32.not_le.mp g_12) c_13 | exact absurd (Int32.not_lt.mp g_12) c_13 | exact absurd (Int32.not_le.mp g_12) (Int32.not_lt.mpr c_13) | exact absurd (Int32.not_lt.mp g_12) (Int32.not_le.mpr c_13) | exact absurd (Int32.not_lt.mp c_13) (Int32.not_le.mpr (Int32.not_le.mp g_12))
        · skip
          refine v_aload_n (n := 45) C dX12_sayHull_44 rfl rfl rfl ?_
          refine v_aload_n (n := 46) C dX12_sayHull_45 rfl rfl rfl ?_
          refine v_iload_n (n := 47) C dX12_sayHull_46 rfl rfl rfl ?_
          refine v_iload_n (n := 48) C dX12_sayHull_47 rfl rfl rfl ?_
          refine v_aload_n (n := 49) C dX12_sayHull_48 rfl rfl rfl ?_
          refine v_get (n := 52) C dX12_sayHull_49 rfl fl_X12_75_X12 wl_c27 rfl ?_
          refine v_aload_n (n := 53) C dX12_sayHull_52 rfl rfl rfl ?_
          refine v_get (n := 56) C dX12_sayHull_53 rfl fl_X12_50_X12 wl_c27 rfl ?_
          refine v_aload_n (n := 57) C dX12_sayHull_56 rfl rfl rfl ?_
          refine v_get (n := 60) C dX12_sayHull_57 rfl fl_X12_72_X12 wl_c27 rfl ?_
          refine v_stk (st' := [.int (nI R), .int (nI W), .int (nI H), .int (nI i_38), .int (nI k), .ref (b + 27), .ref (b + 27)]) (by rw [h21, h22, h23]) ?_
          refine v_go (n := 63) C (vRun_V (As := [.int (nI k), .int (nI i_38), .int (nI H), .int (nI W), .int (nI R)]) (rest := [.ref (b + 27)]) C wl_c27 rfl lk_X12_147 im_X12_hourBy se_X12_hourBy dX12_sayHull_60 (m_hourBy l D b sc (va_up (va_up ar 31 q.1) 32 q.2) hn (mhV (fun c => (vyQ hi R W kk d F H).1 c) (mhT sc ar k mh 14) i_38) G k hk3 hi R W kk d F H Z hR hW (by omega) i_38 (by omega)) wm_X12_hourBy rfl rfl ⟨Nat.le_of_ble_eq_true rfl, Nat.le_of_ble_eq_true rfl⟩ ⟨Nat.le_of_ble_eq_true rfl, Nat.le_of_ble_eq_true rfl⟩ (Nat.le_of_ble_eq_true rfl)) rfl ?_
          rintro _ _ ⟨q14, hq14, rfl, rfl⟩ -
          refine v_cong (es' := (wl D b sc (va_up (va_up ar 31 q14.1) 32 q14.2) hn (mhV (fun c => (vyQ hi R W kk d F H).1 c) (mhT sc ar k mh 14) i_38) G)) (lv' := [(2, .int (nI i_38)), (0, .ref (b + 27)), (1, .int (nI k))]) rfl rfl ?_
          refine v_i2l (n := 64) C dX12_sayHull_63 rfl ?_
          refine v_go (n := 67) C (vRun_V (As := [.long (Int32.toInt64 ((vyQ hi R W kk d F H).1 i_38))]) (rest := []) C wl_c27 rfl lk_X12_227 im_X12_say se_X12_say dX12_sayHull_64 (m_say l D b sc (va_up (va_up ar 31 q14.1) 32 q14.2) hn (mhV (fun c => (vyQ hi R W kk d F H).1 c) (mhT sc ar k mh 14) i_38) G (Int32.toInt64 ((vyQ hi R W kk d F H).1 i_38))) wm_X12_say rfl rfl ⟨Nat.le_of_ble_eq_true rfl, Nat.le_of_ble_eq_true rfl⟩ ⟨Nat.le_of_ble_eq_true rfl, Nat.le_of_ble_eq_true rfl⟩ (Nat.le_of_ble_eq_true rfl)) rfl ?_
          rintro _ _ ⟨rfl, rfl⟩ -
          refine v_iinc (n := 70) (v := ((nI i_38) + 1)) (lv' := [(2, .int ((nI i_38) + 1)), (0, .ref (b + 27)), (1, .int (nI k))]) C dX12_sayHull_67 rfl rfl rfl (Nat.le_of_ble_eq_true rfl) rfl ?_
          refine v_goto (t := 38) C dX12_sayHull_70 (by decide) ?_
          refine v_pick (lv' := [(2, .int ((nI i_38) + 1)), (0, .ref (b + 27)), (1, .int (nI k))]) [0, 1, 2] rfl ?_
          have e_15 : (((nI i_38) + 1) : Int32) = (nI (i_38 + 1)) := nI_1 _
          have e_16 : ((31 * (mhV (fun c => (vyQ hi R W kk d F H).1 c) (mhT sc ar k mh 14) i_38) + (Int32.toInt64 ((vyQ hi R W kk d F H).1 i_38))) : Int64) = (mhV (fun c => (vyQ hi R W kk d F H).1 c) (mhT sc ar k mh 14) (i_38 + 1)) := rfl
          refine v_cong (es' := (wl D b sc (va_up (va_up ar 31 q14.1) 32 q14.2) hn (mhV (fun c => (vyQ hi R W kk d F H).1 c) (mhT sc ar k mh 14) (i_38 + 1)) G)) (lv' := [(2, .int (nI (i_38 + 1))), (0, .ref (b + 27)), (1, .int (nI k))]) (cg1 (fun (y0 : Int64) => wl D b sc (va_up (va_up ar 31 q14.1) 32 q14.2) hn y0 G) e_16) (cg1 (fun (z0 : Int32) => ([(2, .int z0), (0, .ref (b + 27)), (1, .int (nI k))] : List (Nat × Value))) e_15) ?_
          exact ih_38 q14
    · first | exact absurd c_4 g_3 | exact absurd g_3 c_4 | exact absurd c_4 (Int32.not_le.mpr g_3) | exact absurd c_4 (Int32.not_lt.mpr g_3) | exact absurd (Int32.not_le.mp g_3) c_4 | exact absurd (Int32.not_lt.mp g_3) c_4 | exact absurd (Int32.not_le.mp g_3) (Int32.not_lt.mpr c_4) | exact absurd (Int32.not_lt.mp g_3) (Int32.not_le.mpr c_4) | exact absurd (Int32.not_lt.mp c_4) (Int32.not_le.mpr (Int32.not_le.mp g_3))
  · skip
    have g_17 : ¬ (14 : Int32) ≤ (nI i_2) := nI_ge (a := i_2 + 0) (b := 14) (by omega) (by decide)
    refine v_iload_n (n := 3) C dX12_sayHull_2 rfl rfl rfl ?_
    refine v_bipush (n := 5) (v := 14) C dX12_sayHull_3 rfl (by decide) ?_
    refine v_icmp_ge (t := 36) (n := 8) C dX12_sayHull_5 (by decide) rfl (fun c_18 => ?_) (fun c_18 => ?_)
    · first | exact absurd c_18 g_17 | exact absurd g_17 c_18 | exact absurd c_18 (Int32.not_le.mpr g_17) | exact absurd c_18 (Int32.not_lt.mpr g_17) | exact absurd (Int32.not_le.mp g_17) c_18 | exact absurd (Int32.not_lt.mp g_17) c_18 | exact absurd (Int32.not_le.mp g_17) (Int32.not_lt.mpr c_18) | exact absurd (Int32.not_lt.mp g_17) (Int32.not_le.mpr c_18) | exact absurd (Int32.not_lt.mp c_18) (Int32.not_le.mpr (Int32.not_le.mp g_17))
    · skip
      refine v_iload_n (n := 9) C dX12_sayHull_8 rfl rfl rfl ?_
      refine v_iconst (n := 10) (v := 5) C dX12_sayHull_9 rfl (by decide) ?_
      refine v_icmp_lt (t := 19) (n := 13) C dX12_sayHull_10 (by decide) rfl (fun c_19 => ?_) (fun c_19 => ?_)
      · skip
        refine v_aload_n (n := 20) C dX12_sayHull_19 rfl rfl rfl ?_
        refine v_aload_n (n := 21) C dX12_sayHull_20 rfl rfl rfl ?_
        refine v_iload_n (n := 22) C dX12_sayHull_21 rfl rfl rfl ?_
        refine v_iload_n (n := 23) C dX12_sayHull_22 rfl rfl rfl ?_
        refine v_go (n := 26) C (vRun_V (As := [.int (nI k), .int (nI i_2)]) (rest := [.ref (b + 27)]) C wl_c27 rfl lk_X12_137 im_X12_tell se_X12_tell dX12_sayHull_23 (m_tell l D b sc ar hn (mhT sc ar k mh i_2) G k hk3 (nI i_2) hxr) wm_X12_tell rfl rfl ⟨Nat.le_of_ble_eq_true rfl, Nat.le_of_ble_eq_true rfl⟩ ⟨Nat.le_of_ble_eq_true rfl, Nat.le_of_ble_eq_true rfl⟩ (Nat.le_of_ble_eq_true rfl)) rfl ?_
        rintro _ _ ⟨rfl, rfl⟩ -
        refine v_i2l (n := 27) C dX12_sayHull_26 rfl ?_
        refine v_go (n := 30) C (vRun_V (As := [.long (Int32.toInt64 (mteF sc ar k (nI i_2)))]) (rest := []) C wl_c27 rfl lk_X12_227 im_X12_say se_X12_say dX12_sayHull_27 (m_say l D b sc ar hn (mhT sc ar k mh i_2) G (Int32.toInt64 (mteF sc ar k (nI i_2)))) wm_X12_say rfl rfl ⟨Nat.le_of_ble_eq_true rfl, Nat.le_of_ble_eq_true rfl⟩ ⟨Nat.le_of_ble_eq_true rfl, Nat.le_of_ble_eq_true rfl⟩ (Nat.le_of_ble_eq_true rfl)) rfl ?_
        rintro _ _ ⟨rfl, rfl⟩ -
        refine v_iinc (n := 33) (v := ((nI i_2) + 1)) (lv' := [(2, .int ((nI i_2) + 1)), (0, .ref (b + 27)), (1, .int (nI k))]) C dX12_sayHull_30 rfl rfl rfl (Nat.le_of_ble_eq_true rfl) rfl ?_
        refine v_goto (t := 2) C dX12_sayHull_33 (by decide) ?_
        refine v_pick (lv' := [(2, .int ((nI i_2) + 1)), (0, .ref (b + 27)), (1, .int (nI k))]) [0, 1, 2] rfl ?_
        have e_20 : ((nI i_2) + 1) = (nI (i_2 + 1)) := nI_1 _
        have e_21 : ((31 * (mhT sc ar k mh i_2) + (Int32.toInt64 (mteF sc ar k (nI i_2)))) : Int64) = (mhT sc ar k mh (i_2 + 1)) := by first | rfl | (simp only [mhT, eq_false g_17, eq_true (Int32.not_le.mp g_17), eq_false c_18, eq_true (Int32.not_le.mp c_18), eq_true c_19, eq_false (Int32.not_le.mpr c_19), ↓reduceIte]; done)
        refine v_cong (es' := (wl D b sc ar hn (mhT sc ar k mh (i_2 + 1)) G)) (lv' := [(2, .int (nI (i_2 + 1))), (0, .ref (b + 27)), (1, .int (nI k))]) (cg1 (fun (y0 : Int64) => wl D b sc ar hn y0 G) e_21) (cg1 (fun (z0 : Int32) => ([(2, .int z0), (0, .ref (b + 27)), (1, .int (nI k))] : List (Nat × Value))) e_20) ?_
        exact ih_2
      · skip
        refine v_iload_n (n := 14) C dX12_sayHull_13 rfl rfl rfl ?_
        refine v_bipush (n := 16) (v := 9) C dX12_sayHull_14 rfl (by decide) ?_
        refine v_icmp_le (t := 30) (n := 19) C dX12_sayHull_16 (by decide) rfl (fun c_22 => ?_) (fun c_22 => ?_)
        · skip
          refine v_iinc (n := 33) (v := ((nI i_2) + 1)) (lv' := [(2, .int ((nI i_2) + 1)), (0, .ref (b + 27)), (1, .int (nI k))]) C dX12_sayHull_30 rfl rfl rfl (Nat.le_of_ble_eq_true rfl) rfl ?_
          refine v_goto (t := 2) C dX12_sayHull_33 (by decide) ?_
          refine v_pick (lv' := [(2, .int ((nI i_2) + 1)), (0, .ref (b + 27)), (1, .int (nI k))]) [0, 1, 2] rfl ?_
          have e_23 : ((nI i_2) + 1) = (nI (i_2 + 1)) := nI_1 _
          have e_24 : ((mhT sc ar k mh i_2) : Int64) = (mhT sc ar k mh (i_2 + 1)) := by first | rfl | (simp only [mhT, eq_false g_17, eq_true (Int32.not_le.mp g_17), eq_false c_18, eq_true (Int32.not_le.mp c_18), eq_false c_19, eq_true (Int32.not_lt.mp c_19), eq_true c_22, eq_false (Int32.not_lt.mpr c_22), ↓reduceIte]; done)
          refine v_cong (es' := (wl D b sc ar hn (mhT sc ar k mh (i_2 + 1)) G)) (lv' := [(2, .int (nI (i_2 + 1))), (0, .ref (b + 27)), (1, .int (nI k))]) (cg1 (fun (y0 : Int64) => wl D b sc ar hn y0 G) e_24) (cg1 (fun (z0 : Int32) => ([(2, .int z0), (0, .ref (b + 27)), (1, .int (nI k))] : List (Nat × Value))) e_23) ?_
          exact ih_2
        · skip
          refine v_aload_n (n := 20) C dX12_sayHull_19 rfl rfl rfl ?_
          refine v_aload_n (n := 21) C dX12_sayHull_20 rfl rfl rfl ?_
          refine v_iload_n (n := 22) C dX12_sayHull_21 rfl rfl rfl ?_
          refine v_iload_n (n := 23) C dX12_sayHull_22 rfl rfl rfl ?_
          refine v_go (n := 26) C (vRun_V (As := [.int (nI k), .int (nI i_2)]) (rest := [.ref (b + 27)]) C wl_c27 rfl lk_X12_137 im_X12_tell se_X12_tell dX12_sayHull_23 (m_tell l D b sc ar hn (mhT sc ar k mh i_2) G k hk3 (nI i_2) hxr) wm_X12_tell rfl rfl ⟨Nat.le_of_ble_eq_true rfl, Nat.le_of_ble_eq_true rfl⟩ ⟨Nat.le_of_ble_eq_true rfl, Nat.le_of_ble_eq_true rfl⟩ (Nat.le_of_ble_eq_true rfl)) rfl ?_
          rintro _ _ ⟨rfl, rfl⟩ -
          refine v_i2l (n := 27) C dX12_sayHull_26 rfl ?_
          refine v_go (n := 30) C (vRun_V (As := [.long (Int32.toInt64 (mteF sc ar k (nI i_2)))]) (rest := []) C wl_c27 rfl lk_X12_227 im_X12_say se_X12_say dX12_sayHull_27 (m_say l D b sc ar hn (mhT sc ar k mh i_2) G (Int32.toInt64 (mteF sc ar k (nI i_2)))) wm_X12_say rfl rfl ⟨Nat.le_of_ble_eq_true rfl, Nat.le_of_ble_eq_true rfl⟩ ⟨Nat.le_of_ble_eq_true rfl, Nat.le_of_ble_eq_true rfl⟩ (Nat.le_of_ble_eq_true rfl)) rfl ?_
          rintro _ _ ⟨rfl, rfl⟩ -
          refine v_iinc (n := 33) (v := ((nI i_2) + 1)) (lv' := [(2, .int ((nI i_2) + 1)), (0, .ref (b + 27)), (1, .int (nI k))]) C dX12_sayHull_30 rfl rfl rfl (Nat.le_of_ble_eq_true rfl) rfl ?_
          refine v_goto (t := 2) C dX12_sayHull_33 (by decide) ?_
          refine v_pick (lv' := [(2, .int ((nI i_2) + 1)), (0, .ref (b + 27)), (1, .int (nI k))]) [0, 1, 2] rfl ?_
          have e_25 : ((nI i_2) + 1) = (nI (i_2 + 1)) := nI_1 _
          have e_26 : ((31 * (mhT sc ar k mh i_2) + (Int32.toInt64 (mteF sc ar k (nI i_2)))) : Int64) = (mhT sc ar k mh (i_2 + 1)) := by first | rfl | (simp only [mhT, eq_false g_17, eq_true (Int32.not_le.mp g_17), eq_false c_18, eq_true (Int32.not_le.mp c_18), eq_false c_19, eq_true (Int32.not_lt.mp c_19), eq_false c_22, eq_true (Int32.not_le.mp c_22), ↓reduceIte]; done)
          refine v_cong (es' := (wl D b sc ar hn (mhT sc ar k mh (i_2 + 1)) G)) (lv' := [(2, .int (nI (i_2 + 1))), (0, .ref (b + 27)), (1, .int (nI k))]) (cg1 (fun (y0 : Int64) => wl D b sc ar hn y0 G) e_26) (cg1 (fun (z0 : Int32) => ([(2, .int z0), (0, .ref (b + 27)), (1, .int (nI k))] : List (Nat × Value))) e_25) ?_
          exact ih_2
