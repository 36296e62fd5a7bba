theorem rw_e {k j : Nat} : (4 : Int32) * nI k + nI j = nI (4 * k + j) := by
  unfold nI
  rw [Int32.ofNat_add, Int32.ofNat_mul]
  rfl
theorem rw_e0 {k : Nat} : (4 : Int32) * nI k = nI (4 * k + 0) := by
  unfold nI
  rw [Nat.add_zero, Int32.ofNat_mul]
  rfl
theorem rw_c {k j : Nat} (hk : k < 3) (hj : j < 4) : ((4 : Int32) * nI k + nI j).toNatClampNeg = 4 * k + j := by rw [rw_e]; exact nI_clamp (by omega)
theorem rw_c0 {k : Nat} (hk : k < 3) : ((4 : Int32) * nI k).toNatClampNeg = 4 * k + 0 := by rw [rw_e0]; exact nI_clamp (by omega)
theorem rw_vp {k j : Nat} (hk : k < 3) (hj : j < 4) : vp_in ((4 : Int32) * nI k + nI j) 12 := by rw [rw_e]; exact vp_in_nI (by omega) (by decide)
theorem rw_vp0 {k : Nat} (hk : k < 3) : vp_in ((4 : Int32) * nI k) 12 := by rw [rw_e0]; exact vp_in_nI (by omega) (by decide)
theorem vp_nat {x : Int32} {N : Nat} (h : vp_in x N) : ∃ n, n < N ∧ x = nI n := by
  have h0 : ¬ x < 0 := fun q => h (Or.inl q)
  obtain ⟨j, hj, e⟩ := nI_of h0
  refine ⟨j, ?_, e⟩
  rcases Nat.lt_or_ge j N with q | q
  · exact q
  · exact absurd (Or.inr (by rw [e, nI_clamp hj]; exact q)) h
theorem mbe_all : ∀ n, n < 12 → ∀ w, w < 4 → (mbeF (nI n) (nI w) = -1 ∨ (0 ≤ (mbeF (nI n) (nI w)).toInt ∧ (mbeF (nI n) (nI w)).toInt < 12)) := by decide +kernel
theorem mbe_w {x w : Int32} : ∃ v, v < 4 ∧ mbeF x w = mbeF x (nI v) := by
  by_cases h0 : w = 0
  · exact ⟨0, by decide, by rw [h0]; rfl⟩
  · by_cases h1 : w = 1
    · exact ⟨1, by decide, by rw [h1]; rfl⟩
    · by_cases h2 : w = 2
      · exact ⟨2, by decide, by rw [h2]; rfl⟩
      · refine ⟨3, by decide, ?_⟩
        unfold mbeF
        rw [if_neg h0, if_neg h2, if_neg h1, if_neg (show ¬ nI 3 = 0 by decide), if_neg (show ¬ nI 3 = 2 by decide), if_neg (show ¬ nI 3 = 1 by decide)]
theorem mbe_vp {x w : Int32} (hx : vp_in x 12) (h : ¬ mbeF x w = -1) : vp_in (mbeF x w) 12 := by
  obtain ⟨n, hn, e⟩ := vp_nat hx
  obtain ⟨v, hv, e2⟩ := mbe_w (x := x) (w := w)
  rw [e2] at h ⊢
  rw [e] at h ⊢
  rcases mbe_all n hn v hv with q | q
  · exact absurd q h
  · exact vp_lit q.1 q.2
def mihF (cnt k : Int32) : Int32 := if k < 0 then 0 else if cnt - 1 < k then 0 else 1
def mneD (r : Nat → Int32) (k : Nat) : Int32 := r (4 * k + 1) - (if r (4 * k + 0) = 1 then 1 else if r (4 * k + 0) = 4 then 1 else 0)
def mflF (f r : Nat → Int32) (k : Nat) (x h rp : Int32) : Int32 := if r (4 * k + 0) = 3 then 1 else if mhiF f x h rp < mneD r k then 0 else 1
def mhtF (f r : Nat → Int32) (k : Nat) (x h w wd rp : Int32) : Int32 := if mbeF x w = -1 then -1 else if mneF (r (4 * k + 0)) w wd = -1 then -1 else if mflF f r k x h rp = 0 then -1 else
  if mflF f r k (mbeF x w) (h + mneF (r (4 * k + 0)) w wd) rp = 0 then -1 else mneF (r (4 * k + 0)) w wd
def mhaN (cnt : Int32) (r : Nat → Int32) (x : Int32) : Nat → Int32
  | 0 => 0
  | i + 1 => if cnt ≤ nI i then mhaN cnt r x i else mhaN cnt r x i + (if r (4 * i + 2) = x then 1 else 0)
theorem mhaN_stop {cnt : Int32} {r : Nat → Int32} {x : Int32} {i : Nat} (hi : i < 3) (h : cnt ≤ nI i) : mhaN cnt r x 3 = mhaN cnt r x i := by
  have k : ∀ n, i + n ≤ 3 → mhaN cnt r x (i + n) = mhaN cnt r x i := by
    intro n
    induction n with
    | zero => intro _; rfl
    | succ n ih =>
      intro hn
      have h2 : cnt ≤ nI (i + n) := Int32.le_trans h (nI_le (by omega) (by omega))
      rw [← Nat.add_assoc, mhaN, if_pos h2]
      exact ih (by omega)
  have := k (3 - i) (by omega)
  rwa [show i + (3 - i) = 3 by omega] at this
set_option maxHeartbeats 4000000 in
set_option maxRecDepth 100000 in
theorem m_isHull (l : Launch) (D : va_G) (b : Nat) (sc : Nat → Int32) (ar : Nat → Nat → Int32) (hn : Nat → Option Nat) (mh : Int64) (G : List va_E) (x : Int32) : Con l yX12_isHull cX12_isHull 2 (some .boolean) 1 25 D b 0 0 (wl D b sc ar hn mh G) [.ref (b + 27), .int x] (fun r es' => r = some (.int (mihF (sc 25) x)) ∧ (wl D b sc ar hn mh G) = es') := by
  refine con_of (by decide) (Nat.le_of_ble_eq_true rfl) (fun p e s m args below meth c C hsz => ?_)
  have C : vC p s m args meth c cX12_isHull 2 RX12 "isHull" (some .boolean) D b := C
  change V p l e _ s m args below meth c D b 2 _ 0 0 (wl D b sc ar hn mh G) [(0, .ref (b + 27)), (1, .int x)] [] 0
  refine v_iload_n (n := 1) C dX12_isHull_0 rfl rfl rfl ?_
  refine v_i2l (n := 2) C dX12_isHull_1 rfl ?_
  refine v_lconst (n := 3) (v := 0) C dX12_isHull_2 rfl (by decide) ?_
  refine v_aload_n (n := 4) C dX12_isHull_3 rfl rfl rfl ?_
  refine v_get (n := 7) C dX12_isHull_4 rfl fl_X12_78_X12 wl_c27 rfl ?_
  refine v_iconst (n := 8) (v := 1) C dX12_isHull_7 rfl (by decide) ?_
  refine v_isub (n := 9) C dX12_isHull_8 rfl ?_
  refine v_i2l (n := 10) C dX12_isHull_9 rfl ?_
  refine v_stk (st' := [.long (Int32.toInt64 ((sc 25) - 1)), .long (Int32.toInt64 0), .long (Int32.toInt64 x)]) rfl ?_
  refine v_go (n := 13) C (vRun_S (As := [.long (Int32.toInt64 x), .long (Int32.toInt64 0), .long (Int32.toInt64 ((sc 25) - 1))]) (rest := []) C lk_X12_55 st_X12_in dX12_isHull_10 (c_in l D b (wl D b sc ar hn mh G) x 0 ((sc 25) - 1)) wm_X12_in rfl rfl ⟨Nat.le_of_ble_eq_true rfl, Nat.le_of_ble_eq_true rfl⟩ ⟨Nat.le_of_ble_eq_true rfl, Nat.le_of_ble_eq_true rfl⟩ (Nat.le_of_ble_eq_true rfl)) rfl ?_
  rintro _ _ ⟨rfl, rfl⟩ -
  by_cases p_1 : x < 0
  · skip
    refine v_stk (st' := .int 0 :: []) (congrArg (fun z : Int32 => Value.int z :: []) (show niF x 0 ((sc 25) - 1) = 0 by simp only [niF, if_pos p_1])) ?_
    exact v_iret C dX12_isHull_13 rfl rfl ⟨by first | rfl | (simp only [mihF, if_pos p_1, if_neg (Int32.not_le.mpr p_1)]; done) | (simp only [mihF, eq_true p_1, eq_false (Int32.not_le.mpr p_1), ↓reduceIte]; done) | (simp only [mihF, eq_true p_1, eq_false (Int32.not_le.mpr p_1), ↓reduceIte] <;> rfl) | (simp [mihF, p_1]; done), rfl⟩
  by_cases p_2 : ((sc 25) - 1) < x
  · skip
    refine v_stk (st' := .int 0 :: []) (congrArg (fun z : Int32 => Value.int z :: []) (show niF x 0 ((sc 25) - 1) = 0 by simp only [niF, if_neg p_1, if_pos p_2])) ?_
    exact v_iret C dX12_isHull_13 rfl rfl ⟨by first | rfl | (simp only [mihF, if_neg p_1, if_pos (Int32.not_lt.mp p_1), if_pos p_2, if_neg (Int32.not_le.mpr p_2)]; done) | (simp only [mihF, eq_false p_1, eq_true (Int32.not_lt.mp p_1), eq_true p_2, eq_false (Int32.not_le.mpr p_2), ↓reduceIte]; done) | (simp only [mihF, eq_false p_1, eq_true (Int32.not_lt.mp p_1), eq_true p_2, eq_false (Int32.not_le.mpr p_2), ↓reduceIte] <;> rfl) | (simp [mihF, p_1, p_2]; done), rfl⟩
  refine v_stk (st' := .int 1 :: []) (congrArg (fun z : Int32 => Value.int z :: []) (show niF x 0 ((sc 25) - 1) = 1 by simp only [niF, if_neg p_1, if_neg p_2])) ?_
  exact v_iret C dX12_isHull_13 rfl rfl ⟨by first | rfl | (simp only [mihF, if_neg p_1, if_pos (Int32.not_lt.mp p_1), if_neg p_2, if_pos (Int32.not_lt.mp p_2)]; done) | (simp only [mihF, eq_false p_1, eq_true (Int32.not_lt.mp p_1), eq_false p_2, eq_true (Int32.not_lt.mp p_2), ↓reduceIte]; done) | (simp only [mihF, eq_false p_1, eq_true (Int32.not_lt.mp p_1), eq_false p_2, eq_true (Int32.not_lt.mp p_2), ↓reduceIte] <;> rfl) | (simp [mihF, p_1, p_2]; done), rfl⟩
set_option maxHeartbeats 4000000 in
set_option maxRecDepth 100000 in
theorem m_floats (l : Launch) (D : va_G) (b : Nat) (sc : Nat → Int32) (ar : Nat → Nat → Int32) (hn : Nat → Option Nat) (mh : Int64) (G : List va_E) (k : Nat) (hk3 : k < 3) (x h rp : Int32) (hx : vp_in x 12) : Con l yX12_floats cX12_floats 7 (some .boolean) 1 23 D b 0 0 (wl D b sc ar hn mh G) [.ref (b + 27), .int (nI k), .int x, .int h, .int rp] (fun r es' => r = some (.int (mflF (ar 29) (ar 30) k x h rp)) ∧ (wl D b sc ar hn mh G) = es') := by
  refine con_of (by decide) (Nat.le_of_ble_eq_true rfl) (fun p e s m args below meth c C hsz => ?_)
  have C : vC p s m args meth c cX12_floats 7 RX12 "floats" (some .boolean) D b := C
  change V p l e _ s m args below meth c D b 7 _ 0 0 (wl D b sc ar hn mh G) [(0, .ref (b + 27)), (1, .int (nI k)), (2, .int x), (3, .int h), (4, .int rp)] [] 0
  refine v_aload_n (n := 1) C dX12_floats_0 rfl rfl rfl ?_
  refine v_get (n := 4) C dX12_floats_1 rfl fl_X12_16_X12 wl_c27 rfl ?_
  refine v_iconst (n := 5) (v := 4) C dX12_floats_4 rfl (by decide) ?_
  refine v_iload_n (n := 6) C dX12_floats_5 rfl rfl rfl ?_
  refine v_imul (n := 7) C dX12_floats_6 rfl ?_
  refine v_iald (n := 8) C dX12_floats_7 rfl wl_c30 (rw_vp0 hk3) ?_
  refine v_stk (st' := .int ((ar 30) (4 * k + 0)) :: []) (congrArg (fun z : Nat => Value.int ((ar 30) z) :: []) (rw_c0 hk3)) ?_
  refine v_istore (n := 10) (lv' := [(5, .int ((ar 30) (4 * k + 0))), (0, .ref (b + 27)), (1, .int (nI k)), (2, .int x), (3, .int h), (4, .int rp)]) C dX12_floats_8 rfl (Nat.le_of_ble_eq_true rfl) rfl ?_
  refine v_aload_n (n := 11) C dX12_floats_10 rfl rfl rfl ?_
  refine v_get (n := 14) C dX12_floats_11 rfl fl_X12_16_X12 wl_c27 rfl ?_
  refine v_iconst (n := 15) (v := 4) C dX12_floats_14 rfl (by decide) ?_
  refine v_iload_n (n := 16) C dX12_floats_15 rfl rfl rfl ?_
  refine v_imul (n := 17) C dX12_floats_16 rfl ?_
  refine v_iconst (n := 18) (v := 1) C dX12_floats_17 rfl (by decide) ?_
  refine v_iadd (n := 19) C dX12_floats_18 rfl ?_
  refine v_iald (n := 20) C dX12_floats_19 rfl wl_c30 (rw_vp (j := 1) hk3 (by decide)) ?_
  refine v_stk (st' := .int ((ar 30) (4 * k + 1)) :: []) (congrArg (fun z : Nat => Value.int ((ar 30) z) :: []) (rw_c (j := 1) hk3 (by decide))) ?_
  refine v_iload (n := 22) C dX12_floats_20 rfl rfl ?_
  refine v_iconst (n := 23) (v := 1) C dX12_floats_22 rfl (by decide) ?_
  refine v_icmp_eq (t := 32) (n := 26) C dX12_floats_23 (by decide) rfl (fun c_1 => ?_) (fun c_1 => ?_)
  · skip
    refine v_iconst (n := 33) (v := 1) C dX12_floats_32 rfl (by decide) ?_
    refine v_goto (t := 37) C dX12_floats_33 (by decide) ?_
    refine v_isub (n := 38) C dX12_floats_37 rfl ?_
    refine v_istore (n := 40) (lv' := [(6, .int (((ar 30) (4 * k + 1)) - 1)), (5, .int ((ar 30) (4 * k + 0))), (0, .ref (b + 27)), (1, .int (nI k)), (2, .int x), (3, .int h), (4, .int rp)]) C dX12_floats_38 rfl (Nat.le_of_ble_eq_true rfl) rfl ?_
    refine v_iload (n := 42) C dX12_floats_40 rfl rfl ?_
    refine v_iconst (n := 43) (v := 3) C dX12_floats_42 rfl (by decide) ?_
    refine v_icmp_eq (t := 59) (n := 46) C dX12_floats_43 (by decide) rfl (fun c_2 => ?_) (fun c_2 => ?_)
    · skip
      refine v_iconst (n := 60) (v := 1) C dX12_floats_59 rfl (by decide) ?_
      refine v_goto (t := 64) C dX12_floats_60 (by decide) ?_
      exact v_iret C dX12_floats_64 rfl rfl ⟨by first | rfl | (simp only [mflF, mneD, if_pos c_1, if_pos c_2]; done) | (simp only [mflF, mneD, eq_true c_1, eq_true c_2, ↓reduceIte]; done) | (simp only [mflF, mneD, eq_true c_1, eq_true c_2, ↓reduceIte] <;> rfl) | (simp [mflF, mneD, c_1, c_2]; done), rfl⟩
    · skip
      refine v_aload_n (n := 47) C dX12_floats_46 rfl rfl rfl ?_
      refine v_iload_n (n := 48) C dX12_floats_47 rfl rfl rfl ?_
      refine v_iload_n (n := 49) C dX12_floats_48 rfl rfl rfl ?_
      refine v_iload (n := 51) C dX12_floats_49 rfl rfl ?_
      refine v_go (n := 54) C (vRun_V (As := [.int x, .int h, .int rp]) (rest := []) C wl_c27 rfl lk_X12_93 im_X12_highAt se_X12_highAt dX12_floats_51 (m_highAt l D b sc ar hn mh G x h rp hx) wm_X12_highAt rfl rfl ⟨Nat.le_of_ble_eq_true rfl, Nat.le_of_ble_eq_true rfl⟩ ⟨Nat.le_of_ble_eq_true rfl, Nat.le_of_ble_eq_true rfl⟩ (Nat.le_of_ble_eq_true rfl)) rfl ?_
      rintro _ _ ⟨rfl, rfl⟩ -
      refine v_iload (n := 56) C dX12_floats_54 rfl rfl ?_
      refine v_icmp_lt (t := 63) (n := 59) C dX12_floats_56 (by decide) rfl (fun c_3 => ?_) (fun c_3 => ?_)
      · skip
        refine v_iconst (n := 64) (v := 0) C dX12_floats_63 rfl (by decide) ?_
        exact v_iret C dX12_floats_64 rfl rfl ⟨by first | rfl | (simp only [mflF, mneD, if_pos c_1, if_neg c_2, if_pos c_3, if_neg (Int32.not_le.mpr c_3)]; done) | (simp only [mflF, mneD, eq_true c_1, eq_false c_2, eq_true c_3, eq_false (Int32.not_le.mpr c_3), ↓reduceIte]; done) | (simp only [mflF, mneD, eq_true c_1, eq_false c_2, eq_true c_3, eq_false (Int32.not_le.mpr c_3), ↓reduceIte] <;> rfl) | (simp [mflF, mneD, c_1, c_2, c_3]; done), rfl⟩
      · skip
        refine v_iconst (n := 60) (v := 1) C dX12_floats_59 rfl (by decide) ?_
        refine v_goto (t := 64) C dX12_floats_60 (by decide) ?_
        exact v_iret C dX12_floats_64 rfl rfl ⟨by first | rfl | (simp only [mflF, mneD, if_pos c_1, if_neg c_2, if_neg c_3, if_pos (Int32.not_lt.mp c_3)]; done) | (simp only [mflF, mneD, eq_true c_1, eq_false c_2, eq_false c_3, eq_true (Int32.not_lt.mp c_3), ↓reduceIte]; done) | (simp only [mflF, mneD, eq_true c_1, eq_false c_2, eq_false c_3, eq_true (Int32.not_lt.mp c_3), ↓reduceIte] <;> rfl) | (simp [mflF, mneD, c_1, c_2, c_3]; done), rfl⟩
  · skip
    refine v_iload (n := 28) C dX12_floats_26 rfl rfl ?_
    refine v_iconst (n := 29) (v := 4) C dX12_floats_28 rfl (by decide) ?_
    refine v_icmp_ne (t := 36) (n := 32) C dX12_floats_29 (by decide) rfl (fun c_4 => ?_) (fun c_4 => ?_)
    · skip
      refine v_iconst (n := 37) (v := 0) C dX12_floats_36 rfl (by decide) ?_
      refine v_isub (n := 38) C dX12_floats_37 rfl ?_
      refine v_istore (n := 40) (lv' := [(6, .int (((ar 30) (4 * k + 1)) - 0)), (5, .int ((ar 30) (4 * k + 0))), (0, .ref (b + 27)), (1, .int (nI k)), (2, .int x), (3, .int h), (4, .int rp)]) C dX12_floats_38 rfl (Nat.le_of_ble_eq_true rfl) rfl ?_
      refine v_iload (n := 42) C dX12_floats_40 rfl rfl ?_
      refine v_iconst (n := 43) (v := 3) C dX12_floats_42 rfl (by decide) ?_
      refine v_icmp_eq (t := 59) (n := 46) C dX12_floats_43 (by decide) rfl (fun c_5 => ?_) (fun c_5 => ?_)
      · skip
        refine v_iconst (n := 60) (v := 1) C dX12_floats_59 rfl (by decide) ?_
        refine v_goto (t := 64) C dX12_floats_60 (by decide) ?_
        exact v_iret C dX12_floats_64 rfl rfl ⟨by first | rfl | (simp only [mflF, mneD, if_neg c_1, if_neg c_4, if_pos c_5]; done) | (simp only [mflF, mneD, eq_false c_1, eq_false c_4, eq_true c_5, ↓reduceIte]; done) | (simp only [mflF, mneD, eq_false c_1, eq_false c_4, eq_true c_5, ↓reduceIte] <;> rfl) | (simp [mflF, mneD, c_1, c_4, c_5]; done), rfl⟩
      · skip
        refine v_aload_n (n := 47) C dX12_floats_46 rfl rfl rfl ?_
        refine v_iload_n (n := 48) C dX12_floats_47 rfl rfl rfl ?_
        refine v_iload_n (n := 49) C dX12_floats_48 rfl rfl rfl ?_
        refine v_iload (n := 51) C dX12_floats_49 rfl rfl ?_
        refine v_go (n := 54) C (vRun_V (As := [.int x, .int h, .int rp]) (rest := []) C wl_c27 rfl lk_X12_93 im_X12_highAt se_X12_highAt dX12_floats_51 (m_highAt l D b sc ar hn mh G x h rp hx) wm_X12_highAt rfl rfl ⟨Nat.le_of_ble_eq_true rfl, Nat.le_of_ble_eq_true rfl⟩ ⟨Nat.le_of_ble_eq_true rfl, Nat.le_of_ble_eq_true rfl⟩ (Nat.le_of_ble_eq_true rfl)) rfl ?_
        rintro _ _ ⟨rfl, rfl⟩ -
        refine v_iload (n := 56) C dX12_floats_54 rfl rfl ?_
        refine v_icmp_lt (t := 63) (n := 59) C dX12_floats_56 (by decide) rfl (fun c_6 => ?_) (fun c_6 => ?_)
        · skip
          refine v_iconst (n := 64) (v := 0) C dX12_floats_63 rfl (by decide) ?_
          exact v_iret C dX12_floats_64 rfl rfl ⟨by first | rfl | (simp only [mflF, mneD, if_neg c_1, if_neg c_4, if_neg c_5, if_pos c_6, if_neg (Int32.not_le.mpr c_6)]; done) | (simp only [mflF, mneD, eq_false c_1, eq_false c_4, eq_false c_5, eq_true c_6, eq_false (Int32.not_le.mpr c_6), ↓reduceIte]; done) | (simp only [mflF, mneD, eq_false c_1, eq_false c_4, eq_false c_5, eq_true c_6, eq_false (Int32.not_le.mpr c_6), ↓reduceIte] <;> rfl) | (simp [mflF, mneD, c_1, c_4, c_5, c_6]; done), rfl⟩
        · skip
          refine v_iconst (n := 60) (v := 1) C dX12_floats_59 rfl (by decide) ?_
          refine v_goto (t := 64) C dX12_floats_60 (by decide) ?_
          exact v_iret C dX12_floats_64 rfl rfl ⟨by first | rfl | (simp only [mflF, mneD, if_neg c_1, if_neg c_4, if_neg c_5, if_neg c_6, if_pos (Int32.not_lt.mp c_6)]; done) | (simp only [mflF, mneD, eq_false c_1, eq_false c_4, eq_false c_5, eq_false c_6, eq_true (Int32.not_lt.mp c_6), ↓reduceIte]; done) | (simp only [mflF, mneD, eq_false c_1, eq_false c_4, eq_false c_5, eq_false c_6, eq_true (Int32.not_lt.mp c_6), ↓reduceIte] <;> rfl) | (simp [mflF, mneD, c_1, c_4, c_5, c_6]; done), rfl⟩
    · skip
      refine v_iconst (n := 33) (v := 1) C dX12_floats_32 rfl (by decide) ?_
      refine v_goto (t := 37) C dX12_floats_33 (by decide) ?_
      refine v_isub (n := 38) C dX12_floats_37 rfl ?_
      refine v_istore (n := 40) (lv' := [(6, .int (((ar 30) (4 * k + 1)) - 1)), (5, .int ((ar 30) (4 * k + 0))), (0, .ref (b + 27)), (1, .int (nI k)), (2, .int x), (3, .int h), (4, .int rp)]) C dX12_floats_38 rfl (Nat.le_of_ble_eq_true rfl) rfl ?_
      refine v_iload (n := 42) C dX12_floats_40 rfl rfl ?_
      refine v_iconst (n := 43) (v := 3) C dX12_floats_42 rfl (by decide) ?_
      refine v_icmp_eq (t := 59) (n := 46) C dX12_floats_43 (by decide) rfl (fun c_7 => ?_) (fun c_7 => ?_)
      · skip
        refine v_iconst (n := 60) (v := 1) C dX12_floats_59 rfl (by decide) ?_
        refine v_goto (t := 64) C dX12_floats_60 (by decide) ?_
        exact v_iret C dX12_floats_64 rfl rfl ⟨by first | rfl | (simp only [mflF, mneD, if_neg c_1, if_pos c_4, if_pos c_7]; done) | (simp only [mflF, mneD, eq_false c_1, eq_true c_4, eq_true c_7, ↓reduceIte]; done) | (simp only [mflF, mneD, eq_false c_1, eq_true c_4, eq_true c_7, ↓reduceIte] <;> rfl) | (simp [mflF, mneD, c_1, c_4, c_7]; done), rfl⟩
      · skip
        refine v_aload_n (n := 47) C dX12_floats_46 rfl rfl rfl ?_
        refine v_iload_n (n := 48) C dX12_floats_47 rfl rfl rfl ?_
        refine v_iload_n (n := 49) C dX12_floats_48 rfl rfl rfl ?_
        refine v_iload (n := 51) C dX12_floats_49 rfl rfl ?_
        refine v_go (n := 54) C (vRun_V (As := [.int x, .int h, .int rp]) (rest := []) C wl_c27 rfl lk_X12_93 im_X12_highAt se_X12_highAt dX12_floats_51 (m_highAt l D b sc ar hn mh G x h rp hx) wm_X12_highAt rfl rfl ⟨Nat.le_of_ble_eq_true rfl, Nat.le_of_ble_eq_true rfl⟩ ⟨Nat.le_of_ble_eq_true rfl, Nat.le_of_ble_eq_true rfl⟩ (Nat.le_of_ble_eq_true rfl)) rfl ?_
        rintro _ _ ⟨rfl, rfl⟩ -
        refine v_iload (n := 56) C dX12_floats_54 rfl rfl ?_
        refine v_icmp_lt (t := 63) (n := 59) C dX12_floats_56 (by decide) rfl (fun c_8 => ?_) (fun c_8 => ?_)
        · skip
          refine v_iconst (n := 64) (v := 0) C dX12_floats_63 rfl (by decide) ?_
          exact v_iret C dX12_floats_64 rfl rfl ⟨by first | rfl | (simp only [mflF, mneD, if_neg c_1, if_pos c_4, if_neg c_7, if_pos c_8, if_neg (Int32.not_le.mpr c_8)]; done) | (simp only [mflF, mneD, eq_false c_1, eq_true c_4, eq_false c_7, eq_true c_8, eq_false (Int32.not_le.mpr c_8), ↓reduceIte]; done) | (simp only [mflF, mneD, eq_false c_1, eq_true c_4, eq_false c_7, eq_true c_8, eq_false (Int32.not_le.mpr c_8), ↓reduceIte] <;> rfl) | (simp [mflF, mneD, c_1, c_4, c_7, c_8]; done), rfl⟩
        · skip
          refine v_iconst (n := 60) (v := 1) C dX12_floats_59 rfl (by decide) ?_
          refine v_goto (t := 64) C dX12_floats_60 (by decide) ?_
          exact v_iret C dX12_floats_64 rfl rfl ⟨by first | rfl | (simp only [mflF, mneD, if_neg c_1, if_pos c_4, if_neg c_7, if_neg c_8, if_pos (Int32.not_lt.mp c_8)]; done) | (simp only [mflF, mneD, eq_false c_1, eq_true c_4, eq_false c_7, eq_false c_8, eq_true (Int32.not_lt.mp c_8), ↓reduceIte]; done) | (simp only [mflF, mneD, eq_false c_1, eq_true c_4, eq_false c_7, eq_false c_8, eq_true (Int32.not_lt.mp c_8), ↓reduceIte] <;> rfl) | (simp [mflF, mneD, c_1, c_4, c_7, c_8]; done), rfl⟩
set_option maxHeartbeats 4000000 in
set_option maxRecDepth 100000 in
theorem m_hoursOf (l : Launch) (D : va_G) (b : Nat) (sc : Nat → Int32) (ar : Nat → Nat → Int32) (hn : Nat → Option Nat) (mh : Int64) (G : List va_E) (k : Nat) (hk3 : k < 3) (x h w wd rp : Int32) (hx : vp_in x 12) : Con l yX12_hoursOf cX12_hoursOf 10 (some .int) 2 49 D b 0 0 (wl D b sc ar hn mh G) [.ref (b + 27), .int (nI k), .int x, .int h, .int w, .int wd, .int rp] (fun r es' => r = some (.int (mhtF (ar 29) (ar 30) k x h w wd rp)) ∧ (wl D b sc ar hn mh G) = es') := by
  refine con_of (by decide) (Nat.le_of_ble_eq_true rfl) (fun p e s m args below meth c C hsz => ?_)
  have C : vC p s m args meth c cX12_hoursOf 10 RX12 "hoursOf" (some .int) D b := C
  change V p l e _ s m args below meth c D b 10 _ 0 0 (wl D b sc ar hn mh G) [(0, .ref (b + 27)), (1, .int (nI k)), (2, .int x), (3, .int h), (4, .int w), (5, .int wd), (6, .int rp)] [] 0
  refine v_iload_n (n := 1) C dX12_hoursOf_0 rfl rfl rfl ?_
  refine v_iload (n := 3) C dX12_hoursOf_1 rfl rfl ?_
  refine v_go (n := 6) C (vRun_S (As := [.int x, .int w]) (rest := []) C lk_X12_113 st_X12_beside dX12_hoursOf_3 (m_beside l D b (wl D b sc ar hn mh G) x w) wm_X12_beside rfl rfl ⟨Nat.le_of_ble_eq_true rfl, Nat.le_of_ble_eq_true rfl⟩ ⟨Nat.le_of_ble_eq_true rfl, Nat.le_of_ble_eq_true rfl⟩ (Nat.le_of_ble_eq_true rfl)) rfl ?_
  rintro _ _ ⟨rfl, rfl⟩ -
  refine v_istore (n := 8) (lv' := [(7, .int (mbeF x w)), (0, .ref (b + 27)), (1, .int (nI k)), (2, .int x), (3, .int h), (4, .int w), (5, .int wd), (6, .int rp)]) C dX12_hoursOf_6 rfl (Nat.le_of_ble_eq_true rfl) rfl ?_
  refine v_aload_n (n := 9) C dX12_hoursOf_8 rfl rfl rfl ?_
  refine v_get (n := 12) C dX12_hoursOf_9 rfl fl_X12_16_X12 wl_c27 rfl ?_
  refine v_iconst (n := 13) (v := 4) C dX12_hoursOf_12 rfl (by decide) ?_
  refine v_iload_n (n := 14) C dX12_hoursOf_13 rfl rfl rfl ?_
  refine v_imul (n := 15) C dX12_hoursOf_14 rfl ?_
  refine v_iald (n := 16) C dX12_hoursOf_15 rfl wl_c30 (rw_vp0 hk3) ?_
  refine v_stk (st' := .int ((ar 30) (4 * k + 0)) :: []) (congrArg (fun z : Nat => Value.int ((ar 30) z) :: []) (rw_c0 hk3)) ?_
  refine v_iload (n := 18) C dX12_hoursOf_16 rfl rfl ?_
  refine v_iload (n := 20) C dX12_hoursOf_18 rfl rfl ?_
  refine v_go (n := 23) C (vRun_S (As := [.int ((ar 30) (4 * k + 0)), .int w, .int wd]) (rest := []) C lk_X12_116 st_X12_needs dX12_hoursOf_20 (m_needs l D b (wl D b sc ar hn mh G) ((ar 30) (4 * k + 0)) w wd) wm_X12_needs rfl rfl ⟨Nat.le_of_ble_eq_true rfl, Nat.le_of_ble_eq_true rfl⟩ ⟨Nat.le_of_ble_eq_true rfl, Nat.le_of_ble_eq_true rfl⟩ (Nat.le_of_ble_eq_true rfl)) rfl ?_
  rintro _ _ ⟨rfl, rfl⟩ -
  refine v_istore (n := 25) (lv' := [(8, .int (mneF ((ar 30) (4 * k + 0)) w wd)), (7, .int (mbeF x w)), (0, .ref (b + 27)), (1, .int (nI k)), (2, .int x), (3, .int h), (4, .int w), (5, .int wd), (6, .int rp)]) C dX12_hoursOf_23 rfl (Nat.le_of_ble_eq_true rfl) rfl ?_
  refine v_iload (n := 27) C dX12_hoursOf_25 rfl rfl ?_
  refine v_iconst (n := 28) (v := -1) C dX12_hoursOf_27 rfl (by decide) ?_
  refine v_icmp_eq (t := 53) (n := 31) C dX12_hoursOf_28 (by decide) rfl (fun c_1 => ?_) (fun c_1 => ?_)
  · skip
    refine v_iconst (n := 54) (v := 0) C dX12_hoursOf_53 rfl (by decide) ?_
    refine v_istore (n := 56) (lv' := [(9, .int 0), (8, .int (mneF ((ar 30) (4 * k + 0)) w wd)), (7, .int (mbeF x w)), (0, .ref (b + 27)), (1, .int (nI k)), (2, .int x), (3, .int h), (4, .int w), (5, .int wd), (6, .int rp)]) C dX12_hoursOf_54 rfl (Nat.le_of_ble_eq_true rfl) rfl ?_
    refine v_iload (n := 58) C dX12_hoursOf_56 rfl rfl ?_
    refine v_if_eq (t := 82) (n := 61) C dX12_hoursOf_58 (by decide) rfl (fun c_2 => ?_) (fun c_2 => ?_)
    · skip
      refine v_iconst (n := 83) (v := -1) C dX12_hoursOf_82 rfl (by decide) ?_
      exact v_iret C dX12_hoursOf_83 rfl rfl ⟨by first | rfl | (simp only [mhtF, if_pos c_1, if_pos c_2]; done) | (simp only [mhtF, eq_true c_1, eq_true c_2, ↓reduceIte]; done) | (simp only [mhtF, eq_true c_1, eq_true c_2, ↓reduceIte] <;> rfl) | (simp [mhtF, c_1, c_2]; done), rfl⟩
    · exact absurd c_2 (by decide)
  · skip
    refine v_iload (n := 33) C dX12_hoursOf_31 rfl rfl ?_
    refine v_iconst (n := 34) (v := -1) C dX12_hoursOf_33 rfl (by decide) ?_
    refine v_icmp_eq (t := 53) (n := 37) C dX12_hoursOf_34 (by decide) rfl (fun c_3 => ?_) (fun c_3 => ?_)
    · skip
      refine v_iconst (n := 54) (v := 0) C dX12_hoursOf_53 rfl (by decide) ?_
      refine v_istore (n := 56) (lv' := [(9, .int 0), (8, .int (mneF ((ar 30) (4 * k + 0)) w wd)), (7, .int (mbeF x w)), (0, .ref (b + 27)), (1, .int (nI k)), (2, .int x), (3, .int h), (4, .int w), (5, .int wd), (6, .int rp)]) C dX12_hoursOf_54 rfl (Nat.le_of_ble_eq_true rfl) rfl ?_
      refine v_iload (n := 58) C dX12_hoursOf_56 rfl rfl ?_
      refine v_if_eq (t := 82) (n := 61) C dX12_hoursOf_58 (by decide) rfl (fun c_4 => ?_) (fun c_4 => ?_)
      · skip
        refine v_iconst (n := 83) (v := -1) C dX12_hoursOf_82 rfl (by decide) ?_
        exact v_iret C dX12_hoursOf_83 rfl rfl ⟨by first | rfl | (simp only [mhtF, if_neg c_1, if_pos c_3, if_pos c_4]; done) | (simp only [mhtF, eq_false c_1, eq_true c_3, eq_true c_4, ↓reduceIte]; done) | (simp only [mhtF, eq_false c_1, eq_true c_3, eq_true c_4, ↓reduceIte] <;> rfl) | (simp [mhtF, c_1, c_3, c_4]; done), rfl⟩
      · exact absurd c_4 (by decide)
    · skip
      refine v_aload_n (n := 38) C dX12_hoursOf_37 rfl rfl rfl ?_
      refine v_iload_n (n := 39) C dX12_hoursOf_38 rfl rfl rfl ?_
      refine v_iload_n (n := 40) C dX12_hoursOf_39 rfl rfl rfl ?_
      refine v_iload_n (n := 41) C dX12_hoursOf_40 rfl rfl rfl ?_
      refine v_iload (n := 43) C dX12_hoursOf_41 rfl rfl ?_
      refine v_go (n := 46) C (vRun_V (As := [.int (nI k), .int x, .int h, .int rp]) (rest := []) C wl_c27 rfl lk_X12_119 im_X12_floats se_X12_floats dX12_hoursOf_43 (m_floats l D b sc ar hn mh G k hk3 x h rp hx) wm_X12_floats rfl rfl ⟨Nat.le_of_ble_eq_true rfl, Nat.le_of_ble_eq_true rfl⟩ ⟨Nat.le_of_ble_eq_true rfl, Nat.le_of_ble_eq_true rfl⟩ (Nat.le_of_ble_eq_true rfl)) rfl ?_
      rintro _ _ ⟨rfl, rfl⟩ -
      refine v_if_eq (t := 53) (n := 49) C dX12_hoursOf_46 (by decide) rfl (fun c_5 => ?_) (fun c_5 => ?_)
      · skip
        refine v_iconst (n := 54) (v := 0) C dX12_hoursOf_53 rfl (by decide) ?_
        refine v_istore (n := 56) (lv' := [(9, .int 0), (8, .int (mneF ((ar 30) (4 * k + 0)) w wd)), (7, .int (mbeF x w)), (0, .ref (b + 27)), (1, .int (nI k)), (2, .int x), (3, .int h), (4, .int w), (5, .int wd), (6, .int rp)]) C dX12_hoursOf_54 rfl (Nat.le_of_ble_eq_true rfl) rfl ?_
        refine v_iload (n := 58) C dX12_hoursOf_56 rfl rfl ?_
        refine v_if_eq (t := 82) (n := 61) C dX12_hoursOf_58 (by decide) rfl (fun c_6 => ?_) (fun c_6 => ?_)
        · skip
          refine v_iconst (n := 83) (v := -1) C dX12_hoursOf_82 rfl (by decide) ?_
          exact v_iret C dX12_hoursOf_83 rfl rfl ⟨by first | rfl | (simp only [mhtF, if_neg c_1, if_neg c_3, if_pos c_5, if_pos c_6]; done) | (simp only [mhtF, eq_false c_1, eq_false c_3, eq_true c_5, eq_true c_6, ↓reduceIte]; done) | (simp only [mhtF, eq_false c_1, eq_false c_3, eq_true c_5, eq_true c_6, ↓reduceIte] <;> rfl) | (simp [mhtF, c_1, c_3, c_5, c_6]; done), rfl⟩
        · exact absurd c_6 (by decide)
      · skip
        refine v_iconst (n := 50) (v := 1) C dX12_hoursOf_49 rfl (by decide) ?_
        refine v_goto (t := 54) C dX12_hoursOf_50 (by decide) ?_
        refine v_istore (n := 56) (lv' := [(9, .int 1), (8, .int (mneF ((ar 30) (4 * k + 0)) w wd)), (7, .int (mbeF x w)), (0, .ref (b + 27)), (1, .int (nI k)), (2, .int x), (3, .int h), (4, .int w), (5, .int wd), (6, .int rp)]) C dX12_hoursOf_54 rfl (Nat.le_of_ble_eq_true rfl) rfl ?_
        refine v_iload (n := 58) C dX12_hoursOf_56 rfl rfl ?_
        refine v_if_eq (t := 82) (n := 61) C dX12_hoursOf_58 (by decide) rfl (fun c_7 => ?_) (fun c_7 => ?_)
        · exact absurd c_7 (by decide)
        · skip
          refine v_aload_n (n := 62) C dX12_hoursOf_61 rfl rfl rfl ?_
          refine v_iload_n (n := 63) C dX12_hoursOf_62 rfl rfl rfl ?_
          refine v_iload (n := 65) C dX12_hoursOf_63 rfl rfl ?_
          refine v_iload_n (n := 66) C dX12_hoursOf_65 rfl rfl rfl ?_
          refine v_iload (n := 68) C dX12_hoursOf_66 rfl rfl ?_
          refine v_iadd (n := 69) C dX12_hoursOf_68 rfl ?_
          refine v_iload (n := 71) C dX12_hoursOf_69 rfl rfl ?_
          refine v_go (n := 74) C (vRun_V (As := [.int (nI k), .int (mbeF x w), .int (h + (mneF ((ar 30) (4 * k + 0)) w wd)), .int rp]) (rest := []) C wl_c27 rfl lk_X12_119 im_X12_floats se_X12_floats dX12_hoursOf_71 (m_floats l D b sc ar hn mh G k hk3 (mbeF x w) (h + (mneF ((ar 30) (4 * k + 0)) w wd)) rp (mbe_vp hx c_1)) wm_X12_floats rfl rfl ⟨Nat.le_of_ble_eq_true rfl, Nat.le_of_ble_eq_true rfl⟩ ⟨Nat.le_of_ble_eq_true rfl, Nat.le_of_ble_eq_true rfl⟩ (Nat.le_of_ble_eq_true rfl)) rfl ?_
          rintro _ _ ⟨rfl, rfl⟩ -
          refine v_if_eq (t := 82) (n := 77) C dX12_hoursOf_74 (by decide) rfl (fun c_8 => ?_) (fun c_8 => ?_)
          · skip
            refine v_iconst (n := 83) (v := -1) C dX12_hoursOf_82 rfl (by decide) ?_
            exact v_iret C dX12_hoursOf_83 rfl rfl ⟨by first | rfl | (simp only [mhtF, if_neg c_1, if_neg c_3, if_neg c_5, if_neg c_7, if_pos c_8]; done) | (simp only [mhtF, eq_false c_1, eq_false c_3, eq_false c_5, eq_false c_7, eq_true c_8, ↓reduceIte]; done) | (simp only [mhtF, eq_false c_1, eq_false c_3, eq_false c_5, eq_false c_7, eq_true c_8, ↓reduceIte] <;> rfl) | (simp [mhtF, c_1, c_3, c_5, c_7, c_8]; done), rfl⟩
          · skip
            refine v_iload (n := 79) C dX12_hoursOf_77 rfl rfl ?_
            refine v_goto (t := 83) C dX12_hoursOf_79 (by decide) ?_
            exact v_iret C dX12_hoursOf_83 rfl rfl ⟨by first | rfl | (simp only [mhtF, if_neg c_1, if_neg c_3, if_neg c_5, if_neg c_7, if_neg c_8]; done) | (simp only [mhtF, eq_false c_1, eq_false c_3, eq_false c_5, eq_false c_7, eq_false c_8, ↓reduceIte]; done) | (simp only [mhtF, eq_false c_1, eq_false c_3, eq_false c_5, eq_false c_7, eq_false c_8, ↓reduceIte] <;> rfl) | (simp [mhtF, c_1, c_3, c_5, c_7, c_8]; done), rfl⟩
theorem h3_le {cnt : Int32} (h : cnt ≤ 3) : cnt ≤ nI 3 := h
