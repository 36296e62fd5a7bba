/-- the reference's scratch -/
def scrM : List Nat := [26, 27, 29]
def scrN : List Nat := [31, 32, 33, 34, 36, 37]
def PerM (sc : Nat → Int32) (ar : Nat → Nat → Int32) (sc' : Nat → Int32) (ar' : Nat → Nat → Int32) : Prop := (∀ i, i ∉ scrM → sc' i = sc i) ∧ (∀ k, k ∉ scrN → ar' k = ar k)
theorem PerM_rf {sc : Nat → Int32} {ar : Nat → Nat → Int32} : PerM sc ar sc ar := ⟨fun _ _ => rfl, fun _ _ => rfl⟩
theorem PerM_s {sc sc' : Nat → Int32} {ar ar' : Nat → Nat → Int32} {i : Nat} {v : Int32} (hi : i ∈ scrM) (h : PerM sc ar sc' ar') : PerM sc ar (va_up sc' i v) ar' := ⟨fun j hj => by
  rw [va_up, if_neg (fun (q : j = i) => hj (by rw [q]; exact hi))]; exact h.1 j hj, h.2⟩
theorem PerM_a {sc sc' : Nat → Int32} {ar ar' : Nat → Nat → Int32} {k : Nat} {g : Nat → Int32} (hk : k ∈ scrN) (h : PerM sc ar sc' ar') : PerM sc ar sc' (va_up ar' k g) := ⟨h.1, fun j hj => by
  rw [va_up, if_neg (fun (q : j = k) => hj (by rw [q]; exact hk))]; exact h.2 j hj⟩
def mvoF (sc : Nat → Int32) (hi kk dd FF : Nat → Nat) (R H W : Nat) (x y w : Int32) : Int32 := if x < 0 then -101 else if sc 25 - 1 < x then -101 else if y < 0 then -101 else if 11 < y then -101 else if sc 21 = 0 then -101 else if w < 0 then -102 else if 1 < w then -102 else
  if w = 0 then (vyQ hi R W (kk x.toNatClampNeg) (dd x.toNatClampNeg) (FF x.toNatClampNeg) H).1 y.toNatClampNeg else (vyQ hi R W (kk x.toNatClampNeg) (dd x.toNatClampNeg) (FF x.toNatClampNeg) H).2 y.toNatClampNeg
/-- the first r from 1 on at which there is a voyage -/
def mlaN (g : Nat → Int32) : Nat → Int32
  | 0 => -1
  | n + 1 => if mlaN g n = -1 then (if g (n + 1) = -1 then -1 else nI (n + 1)) else mlaN g n
def mlaX (sc : Nat → Int32) (hi kk dd FF : Nat → Nat) (H W : Nat) (x y : Int32) : Int32 := if x < 0 then -101 else if sc 25 - 1 < x then -101 else if y < 0 then -101 else if 11 < y then -101 else if sc 21 = 0 then -101 else
  mlaN (fun r => (vyQ hi r W (kk x.toNatClampNeg) (dd x.toNatClampNeg) (FF x.toNatClampNeg) H).1 y.toNatClampNeg) 9
theorem mlaN_no {g : Nat → Int32} : ∀ n, (∀ j, j < n → g (j + 1) = -1) → mlaN g n = -1 := by
  intro n
  induction n with
  | zero => intro _; rfl
  | succ n ih => intro h; rw [mlaN, ih (fun j hj => h j (by omega)), if_pos rfl, h n (by omega), if_pos rfl]
theorem mlaN_at {g : Nat → Int32} {i : Nat} (hi : i < 9) (h : ∀ j, j < i → g (j + 1) = -1) (h0 : ¬ g (i + 1) = -1) : mlaN g 9 = nI (i + 1) := by
  have k : ∀ n, i + 1 + n ≤ 9 → mlaN g (i + 1 + n) = nI (i + 1) := by
    intro n
    induction n with
    | zero => intro _; rw [Nat.add_zero, mlaN, mlaN_no i h, if_pos rfl, if_neg h0]
    | succ n ih =>
      intro hn
      rw [← Nat.add_assoc, mlaN, ih (by omega), if_neg (z_neg (by omega))]
  have := k (8 - i) (by omega)
  rwa [show i + 1 + (8 - i) = 9 by omega] at this
def mbwN (g : Nat → Int32) : Nat → Int32 × Int32
  | 0 => (-1, 100000)
  | w + 1 => if g w = -1 then mbwN g w else if g w < (mbwN g w).2 then (nI w, g w) else mbwN g w
def mbwF (sc : Nat → Int32) (hi kk dd FF : Nat → Nat) (R H : Nat) (x y : Int32) : Int32 := if x < 0 then -101 else if sc 25 - 1 < x then -101 else if y < 0 then -101 else if 11 < y then -101 else if sc 21 = 0 then -101 else
  (mbwN (fun w => (vyQ hi R w (kk x.toNatClampNeg) (dd x.toNatClampNeg) (FF x.toNatClampNeg) H).1 y.toNatClampNeg) 5).1
set_option maxHeartbeats 4000000 in
set_option maxRecDepth 100000 in
theorem m_hourBy (l : Launch) (D : va_G) (b : Nat) (sc : Nat → Int32) (ar : Nat → Nat → Int32) (hn : Nat → Option Nat) (mh : Int64) (G : List va_E) (k : Nat) (hk3 : k < 3) (hi : Nat → Nat) (R W kk d F H : Nat) (Z : zM ar k hi kk d F) (hR : R ≤ 9) (hW : W < 5) (hH : H < 90000) (c0 : Nat) (hc : c0 < 12) : Con l yX12_hourBy cX12_hourBy 6 (some .int) 4 111 D b 0 0 (wl D b sc ar hn mh G) [.ref (b + 27), .int (nI k), .int (nI c0), .int (nI H), .int (nI W), .int (nI R)] (fun r es' => ∃ q : HF, lvG hi R W kk d F H q ∧ r = some (.int ((vyQ hi R W kk d F H).1 c0)) ∧ wl D b sc (va_up (va_up ar 31 q.1) 32 q.2) hn mh G = es') := by
  refine con_of (by decide) (Nat.le_of_ble_eq_true rfl) (fun p e s m args below meth c C hsz => ?_)
  have C : vC p s m args meth c cX12_hourBy 6 RX12 "hourBy" (some .int) D b := C
  change V p l e _ s m args below meth c D b 6 _ 0 0 (wl D b sc ar hn mh G) [(0, .ref (b + 27)), (1, .int (nI k)), (2, .int (nI c0)), (3, .int (nI H)), (4, .int (nI W)), (5, .int (nI R))] [] 0
  refine v_aload_n (n := 1) C dX12_hourBy_0 rfl rfl rfl ?_
  refine v_iload_n (n := 2) C dX12_hourBy_1 rfl rfl rfl ?_
  refine v_iload_n (n := 3) C dX12_hourBy_2 rfl rfl rfl ?_
  refine v_iload (n := 5) C dX12_hourBy_3 rfl rfl ?_
  refine v_iload (n := 7) C dX12_hourBy_5 rfl rfl ?_
  refine v_go (n := 10) C (vRun_V (As := [.int (nI k), .int (nI H), .int (nI W), .int (nI R)]) (rest := []) C wl_c27 rfl lk_X12_143 im_X12_layVoyage se_X12_layVoyage dX12_hourBy_7 (m_layVoyage l D b sc ar hn mh G k hk3 hi R W kk d F H Z hR hW hH) wm_X12_layVoyage rfl rfl ⟨Nat.le_of_ble_eq_true rfl, Nat.le_of_ble_eq_true rfl⟩ ⟨Nat.le_of_ble_eq_true rfl, Nat.le_of_ble_eq_true rfl⟩ (Nat.le_of_ble_eq_true rfl)) rfl ?_
  rintro _ _ ⟨rfl, q1, hq1, rfl⟩ -
  refine v_aload_n (n := 11) C dX12_hourBy_10 rfl rfl rfl ?_
  refine v_get (n := 14) C dX12_hourBy_11 rfl fl_X12_19_X12 wl_c27 rfl ?_
  refine v_iload_n (n := 15) C dX12_hourBy_14 rfl rfl rfl ?_
  refine v_iald (n := 16) C dX12_hourBy_15 rfl (show (wl D b sc (va_up (va_up ar 31 q1.1) 32 q1.2) hn mh G)[31]? = some (.inl (D.1 13, 12, .inl q1.1)) from wl_c31) (vp_in_nI hc (by decide)) ?_
  refine v_stk (st' := .int (q1.1 c0) :: []) (congrArg (fun z : Nat => Value.int (q1.1 z) :: []) (nI_clamp (show c0 < 2 ^ 31 by omega))) ?_
  refine v_ldc (n := 18) C dX12_hourBy_16 rfl ki_X12_142 ?_
  refine v_icmp_ne (t := 25) (n := 21) C dX12_hourBy_18 (by decide) rfl (fun c_2 => ?_) (fun c_2 => ?_)
  · skip
    refine v_aload_n (n := 26) C dX12_hourBy_25 rfl rfl rfl ?_
    refine v_get (n := 29) C dX12_hourBy_26 rfl fl_X12_19_X12 wl_c27 rfl ?_
    refine v_iload_n (n := 30) C dX12_hourBy_29 rfl rfl rfl ?_
    refine v_iald (n := 31) C dX12_hourBy_30 rfl (show (wl D b sc (va_up (va_up ar 31 q1.1) 32 q1.2) hn mh G)[31]? = some (.inl (D.1 13, 12, .inl q1.1)) from wl_c31) (vp_in_nI hc (by decide)) ?_
    refine v_stk (st' := .int (q1.1 c0) :: []) (congrArg (fun z : Nat => Value.int (q1.1 z) :: []) (nI_clamp (show c0 < 2 ^ 31 by omega))) ?_
    exact v_iret C dX12_hourBy_31 rfl rfl ⟨q1, hq1, congrArg (fun z : Int32 => some (Value.int z)) ((if_neg c_2).symm.trans (hq1 c0 hc).1), rfl⟩
  · skip
    refine v_iconst (n := 22) (v := -1) C dX12_hourBy_21 rfl (by decide) ?_
    refine v_goto (t := 31) C dX12_hourBy_22 (by decide) ?_
    exact v_iret C dX12_hourBy_31 rfl rfl ⟨q1, hq1, congrArg (fun z : Int32 => some (Value.int z)) ((if_pos c_2).symm.trans (hq1 c0 hc).1), rfl⟩
set_option maxHeartbeats 4000000 in
set_option maxRecDepth 100000 in
theorem m_voyage (l : Launch) (D : va_G) (b : Nat) (sc : Nat → Int32) (ar : Nat → Nat → Int32) (hn : Nat → Option Nat) (mh : Int64) (G : List va_E) (x y w : Int32) (hi kk dd FF : Nat → Nat) (R H W : Nat) (h21 : sc 21 = nI R) (hR : R ≤ 9) (h22 : sc 22 = nI H) (hHb : H ≤ 999) (h23 : sc 23 = nI W) (hW : W < 5) (Hn : Nat) (hH : sc 25 = nI Hn) (hH3 : Hn ≤ 3) (hZ : ∀ k, k < Hn → zM ar k hi (kk k) (dd k) (FF k)) : Con l yX12_voyage cX12_voyage 5 (some .int) 5 136 D b 0 0 (wl D b sc ar hn mh G) [.ref (b + 27), .int x, .int y, .int w] (fun r es' => r = some (.int (mvoF sc hi kk dd FF R H W x y w)) ∧ ∃ sc' ar', PerM sc ar sc' ar' ∧ wl D b sc' ar' hn mh G = es') := by
  refine con_of (by decide) (Nat.le_of_ble_eq_true rfl) (fun p e s m args below meth c C hsz => ?_)
  have C : vC p s m args meth c cX12_voyage 5 RX12 "voyage" (some .int) D b := C
  change V p l e _ s m args below meth c D b 5 _ 0 0 (wl D b sc ar hn mh G) [(0, .ref (b + 27)), (1, .int x), (2, .int y), (3, .int w)] [] 0
  refine v_aload_n (n := 1) C dX12_voyage_0 rfl rfl rfl ?_
  refine v_iload_n (n := 2) C dX12_voyage_1 rfl rfl rfl ?_
  refine v_go (n := 5) C (vRun_V (As := [.int x]) (rest := []) C wl_c27 rfl lk_X12_134 im_X12_isHull se_X12_isHull dX12_voyage_2 (m_isHull l D b sc ar hn mh G x) wm_X12_isHull rfl rfl ⟨Nat.le_of_ble_eq_true rfl, Nat.le_of_ble_eq_true rfl⟩ ⟨Nat.le_of_ble_eq_true rfl, Nat.le_of_ble_eq_true rfl⟩ (Nat.le_of_ble_eq_true rfl)) rfl ?_
  rintro _ _ ⟨rfl, rfl⟩ -
  by_cases p_1 : x < 0
  · skip
    refine v_stk (st' := .int 0 :: []) (congrArg (fun z : Int32 => Value.int z :: []) (show mihF (sc 25) x = 0 by simp only [mihF, if_pos p_1])) ?_
    refine v_if_eq (t := 16) (n := 8) C dX12_voyage_5 (by decide) rfl (fun c_2 => ?_) (fun c_2 => ?_)
    · skip
      refine v_bipush (n := 18) (v := -101) C dX12_voyage_16 rfl (by decide) ?_
      exact v_iret C dX12_voyage_18 rfl rfl ⟨by first | rfl | (simp only [mvoF, if_pos p_1, if_neg (Int32.not_le.mpr p_1), if_pos c_2]; done) | (simp only [mvoF, eq_true p_1, eq_false (Int32.not_le.mpr p_1), eq_true c_2, ↓reduceIte]; done) | (simp only [mvoF, eq_true p_1, eq_false (Int32.not_le.mpr p_1), eq_true c_2, ↓reduceIte] <;> rfl) | (simp [mvoF, p_1, c_2]; done), sc, ar, PerM_rf, rfl⟩
    · exact absurd c_2 (by decide)
  by_cases p_3 : (sc 25) - 1 < x
  · skip
    refine v_stk (st' := .int 0 :: []) (congrArg (fun z : Int32 => Value.int z :: []) (show mihF (sc 25) x = 0 by simp only [mihF, if_neg p_1, if_pos p_3])) ?_
    refine v_if_eq (t := 16) (n := 8) C dX12_voyage_5 (by decide) rfl (fun c_4 => ?_) (fun c_4 => ?_)
    · skip
      refine v_bipush (n := 18) (v := -101) C dX12_voyage_16 rfl (by decide) ?_
      exact v_iret C dX12_voyage_18 rfl rfl ⟨by first | rfl | (simp only [mvoF, if_neg p_1, if_pos (Int32.not_lt.mp p_1), if_pos p_3, if_neg (Int32.not_le.mpr p_3), if_pos c_4]; done) | (simp only [mvoF, eq_false p_1, eq_true (Int32.not_lt.mp p_1), eq_true p_3, eq_false (Int32.not_le.mpr p_3), eq_true c_4, ↓reduceIte]; done) | (simp only [mvoF, eq_false p_1, eq_true (Int32.not_lt.mp p_1), eq_true p_3, eq_false (Int32.not_le.mpr p_3), eq_true c_4, ↓reduceIte] <;> rfl) | (simp [mvoF, p_1, p_3, c_4]; done), sc, ar, PerM_rf, rfl⟩
    · exact absurd c_4 (by decide)
  refine v_stk (st' := .int 1 :: []) (congrArg (fun z : Int32 => Value.int z :: []) (show mihF (sc 25) x = 1 by simp only [mihF, if_neg p_1, if_neg p_3])) ?_
  obtain ⟨kN, hkN, rfl⟩ := ih_k hH hH3 p_1 p_3
  have hkc : (nI kN).toNatClampNeg = kN := nI_clamp (by omega)
  refine v_if_eq (t := 16) (n := 8) C dX12_voyage_5 (by decide) rfl (fun c_5 => ?_) (fun c_5 => ?_)
  · exact absurd c_5 (by decide)
  · skip
    refine v_aload_n (n := 9) C dX12_voyage_8 rfl rfl rfl ?_
    refine v_iload_n (n := 10) C dX12_voyage_9 rfl rfl rfl ?_
    refine v_go (n := 13) C (vRun_V (As := [.int y]) (rest := []) C wl_c27 rfl lk_X12_101 im_X12_isCell se_X12_isCell dX12_voyage_10 (m_isCell l D b sc ar hn mh G y) wm_X12_isCell rfl rfl ⟨Nat.le_of_ble_eq_true rfl, Nat.le_of_ble_eq_true rfl⟩ ⟨Nat.le_of_ble_eq_true rfl, Nat.le_of_ble_eq_true rfl⟩ (Nat.le_of_ble_eq_true rfl)) rfl ?_
    rintro _ _ ⟨rfl, rfl⟩ -
    by_cases p_6 : y < 0
    · skip
      refine v_stk (st' := .int 0 :: []) (congrArg (fun z : Int32 => Value.int z :: []) (show micF (sc 21) y = 0 by simp only [micF, if_pos p_6])) ?_
      refine v_if_ne (t := 19) (n := 16) C dX12_voyage_13 (by decide) rfl (fun c_7 => ?_) (fun c_7 => ?_)
      · exact absurd c_7 (by decide)
      · skip
        refine v_bipush (n := 18) (v := -101) C dX12_voyage_16 rfl (by decide) ?_
        exact v_iret C dX12_voyage_18 rfl rfl ⟨by first | rfl | (simp only [mvoF, if_neg p_1, if_pos (Int32.not_lt.mp p_1), if_neg p_3, if_pos (Int32.not_lt.mp p_3), hkc, if_neg c_5, if_pos p_6, if_neg (Int32.not_le.mpr p_6), if_pos c_7]; done) | (simp only [mvoF, eq_false p_1, eq_true (Int32.not_lt.mp p_1), eq_false p_3, eq_true (Int32.not_lt.mp p_3), hkc, eq_false c_5, eq_true p_6, eq_false (Int32.not_le.mpr p_6), eq_true c_7, ↓reduceIte]; done) | (simp only [mvoF, eq_false p_1, eq_true (Int32.not_lt.mp p_1), eq_false p_3, eq_true (Int32.not_lt.mp p_3), hkc, eq_false c_5, eq_true p_6, eq_false (Int32.not_le.mpr p_6), eq_true c_7, ↓reduceIte] <;> rfl) | (simp [mvoF, p_1, p_3, hkc, c_5, p_6, c_7]; done), sc, ar, PerM_rf, rfl⟩
    by_cases p_8 : 11 < y
    · skip
      refine v_stk (st' := .int 0 :: []) (congrArg (fun z : Int32 => Value.int z :: []) (show micF (sc 21) y = 0 by simp only [micF, if_neg p_6, if_pos p_8])) ?_
      refine v_if_ne (t := 19) (n := 16) C dX12_voyage_13 (by decide) rfl (fun c_9 => ?_) (fun c_9 => ?_)
      · exact absurd c_9 (by decide)
      · skip
        refine v_bipush (n := 18) (v := -101) C dX12_voyage_16 rfl (by decide) ?_
        exact v_iret C dX12_voyage_18 rfl rfl ⟨by first | rfl | (simp only [mvoF, if_neg p_1, if_pos (Int32.not_lt.mp p_1), if_neg p_3, if_pos (Int32.not_lt.mp p_3), hkc, if_neg c_5, if_neg p_6, if_pos (Int32.not_lt.mp p_6), if_pos p_8, if_neg (Int32.not_le.mpr p_8), if_pos c_9]; done) | (simp only [mvoF, eq_false p_1, eq_true (Int32.not_lt.mp p_1), eq_false p_3, eq_true (Int32.not_lt.mp p_3), hkc, eq_false c_5, eq_false p_6, eq_true (Int32.not_lt.mp p_6), eq_true p_8, eq_false (Int32.not_le.mpr p_8), eq_true c_9, ↓reduceIte]; done) | (simp only [mvoF, eq_false p_1, eq_true (Int32.not_lt.mp p_1), eq_false p_3, eq_true (Int32.not_lt.mp p_3), hkc, eq_false c_5, eq_false p_6, eq_true (Int32.not_lt.mp p_6), eq_true p_8, eq_false (Int32.not_le.mpr p_8), eq_true c_9, ↓reduceIte] <;> rfl) | (simp [mvoF, p_1, p_3, hkc, c_5, p_6, p_8, c_9]; done), sc, ar, PerM_rf, rfl⟩
    by_cases p_10 : (sc 21) = 0
    · skip
      refine v_stk (st' := .int 0 :: []) (congrArg (fun z : Int32 => Value.int z :: []) (show micF (sc 21) y = 0 by simp only [micF, if_neg p_6, if_neg p_8, if_pos p_10])) ?_
      refine v_if_ne (t := 19) (n := 16) C dX12_voyage_13 (by decide) rfl (fun c_11 => ?_) (fun c_11 => ?_)
      · exact absurd c_11 (by decide)
      · skip
        refine v_bipush (n := 18) (v := -101) C dX12_voyage_16 rfl (by decide) ?_
        exact v_iret C dX12_voyage_18 rfl rfl ⟨by first | rfl | (simp only [mvoF, if_neg p_1, if_pos (Int32.not_lt.mp p_1), if_neg p_3, if_pos (Int32.not_lt.mp p_3), hkc, if_neg c_5, if_neg p_6, if_pos (Int32.not_lt.mp p_6), if_neg p_8, if_pos (Int32.not_lt.mp p_8), if_pos p_10, if_pos c_11]; done) | (simp only [mvoF, eq_false p_1, eq_true (Int32.not_lt.mp p_1), eq_false p_3, eq_true (Int32.not_lt.mp p_3), hkc, eq_false c_5, eq_false p_6, eq_true (Int32.not_lt.mp p_6), eq_false p_8, eq_true (Int32.not_lt.mp p_8), eq_true p_10, eq_true c_11, ↓reduceIte]; done) | (simp only [mvoF, eq_false p_1, eq_true (Int32.not_lt.mp p_1), eq_false p_3, eq_true (Int32.not_lt.mp p_3), hkc, eq_false c_5, eq_false p_6, eq_true (Int32.not_lt.mp p_6), eq_false p_8, eq_true (Int32.not_lt.mp p_8), eq_true p_10, eq_true c_11, ↓reduceIte] <;> rfl) | (simp [mvoF, p_1, p_3, hkc, c_5, p_6, p_8, p_10, c_11]; done), sc, ar, PerM_rf, rfl⟩
    refine v_stk (st' := .int 1 :: []) (congrArg (fun z : Int32 => Value.int z :: []) (show micF (sc 21) y = 1 by simp only [micF, if_neg p_6, if_neg p_8, if_neg p_10])) ?_
    obtain ⟨cN, hcN, rfl⟩ := vp_nat (ic_vp p_6 p_8)
    have hcc : (nI cN).toNatClampNeg = cN := nI_clamp (by omega)
    refine v_if_ne (t := 19) (n := 16) C dX12_voyage_13 (by decide) rfl (fun c_12 => ?_) (fun c_12 => ?_)
    · skip
      refine v_iload_n (n := 20) C dX12_voyage_19 rfl rfl rfl ?_
      refine v_i2l (n := 21) C dX12_voyage_20 rfl ?_
      refine v_lconst (n := 22) (v := 0) C dX12_voyage_21 rfl (by decide) ?_
      refine v_lconst (n := 23) (v := 1) C dX12_voyage_22 rfl (by decide) ?_
      refine v_stk (st' := [.long (Int32.toInt64 1), .long (Int32.toInt64 0), .long (Int32.toInt64 w)]) rfl ?_
      refine v_go (n := 26) C (vRun_S (As := [.long (Int32.toInt64 w), .long (Int32.toInt64 0), .long (Int32.toInt64 1)]) (rest := []) C lk_X12_55 st_X12_in dX12_voyage_23 (c_in l D b (wl D b sc ar hn mh G) w 0 1) wm_X12_in rfl rfl ⟨Nat.le_of_ble_eq_true rfl, Nat.le_of_ble_eq_true rfl⟩ ⟨Nat.le_of_ble_eq_true rfl, Nat.le_of_ble_eq_true rfl⟩ (Nat.le_of_ble_eq_true rfl)) rfl ?_
      rintro _ _ ⟨rfl, rfl⟩ -
      by_cases p_13 : w < 0
      · skip
        refine v_stk (st' := .int 0 :: []) (congrArg (fun z : Int32 => Value.int z :: []) (show niF w 0 1 = 0 by simp only [niF, if_pos p_13])) ?_
        refine v_if_ne (t := 32) (n := 29) C dX12_voyage_26 (by decide) rfl (fun c_14 => ?_) (fun c_14 => ?_)
        · exact absurd c_14 (by decide)
        · skip
          refine v_bipush (n := 31) (v := -102) C dX12_voyage_29 rfl (by decide) ?_
          exact v_iret C dX12_voyage_31 rfl rfl ⟨by first | rfl | (simp only [mvoF, if_neg p_1, if_pos (Int32.not_lt.mp p_1), if_neg p_3, if_pos (Int32.not_lt.mp p_3), hkc, if_neg c_5, if_neg p_6, if_pos (Int32.not_lt.mp p_6), if_neg p_8, if_pos (Int32.not_lt.mp p_8), if_neg p_10, hcc, if_neg c_12, if_pos p_13, if_neg (Int32.not_le.mpr p_13), if_pos c_14]; done) | (simp only [mvoF, eq_false p_1, eq_true (Int32.not_lt.mp p_1), eq_false p_3, eq_true (Int32.not_lt.mp p_3), hkc, eq_false c_5, eq_false p_6, eq_true (Int32.not_lt.mp p_6), eq_false p_8, eq_true (Int32.not_lt.mp p_8), eq_false p_10, hcc, eq_false c_12, eq_true p_13, eq_false (Int32.not_le.mpr p_13), eq_true c_14, ↓reduceIte]; done) | (simp only [mvoF, eq_false p_1, eq_true (Int32.not_lt.mp p_1), eq_false p_3, eq_true (Int32.not_lt.mp p_3), hkc, eq_false c_5, eq_false p_6, eq_true (Int32.not_lt.mp p_6), eq_false p_8, eq_true (Int32.not_lt.mp p_8), eq_false p_10, hcc, eq_false c_12, eq_true p_13, eq_false (Int32.not_le.mpr p_13), eq_true c_14, ↓reduceIte] <;> rfl) | (simp [mvoF, p_1, p_3, hkc, c_5, p_6, p_8, p_10, hcc, c_12, p_13, c_14]; done), sc, ar, PerM_rf, rfl⟩
      by_cases p_15 : 1 < w
      · skip
        refine v_stk (st' := .int 0 :: []) (congrArg (fun z : Int32 => Value.int z :: []) (show niF w 0 1 = 0 by simp only [niF, if_neg p_13, if_pos p_15])) ?_
        refine v_if_ne (t := 32) (n := 29) C dX12_voyage_26 (by decide) rfl (fun c_16 => ?_) (fun c_16 => ?_)
        · exact absurd c_16 (by decide)
        · skip
          refine v_bipush (n := 31) (v := -102) C dX12_voyage_29 rfl (by decide) ?_
          exact v_iret C dX12_voyage_31 rfl rfl ⟨by first | rfl | (simp only [mvoF, if_neg p_1, if_pos (Int32.not_lt.mp p_1), if_neg p_3, if_pos (Int32.not_lt.mp p_3), hkc, if_neg c_5, if_neg p_6, if_pos (Int32.not_lt.mp p_6), if_neg p_8, if_pos (Int32.not_lt.mp p_8), if_neg p_10, hcc, if_neg c_12, if_neg p_13, if_pos (Int32.not_lt.mp p_13), if_pos p_15, if_neg (Int32.not_le.mpr p_15), if_pos c_16]; done) | (simp only [mvoF, eq_false p_1, eq_true (Int32.not_lt.mp p_1), eq_false p_3, eq_true (Int32.not_lt.mp p_3), hkc, eq_false c_5, eq_false p_6, eq_true (Int32.not_lt.mp p_6), eq_false p_8, eq_true (Int32.not_lt.mp p_8), eq_false p_10, hcc, eq_false c_12, eq_false p_13, eq_true (Int32.not_lt.mp p_13), eq_true p_15, eq_false (Int32.not_le.mpr p_15), eq_true c_16, ↓reduceIte]; done) | (simp only [mvoF, eq_false p_1, eq_true (Int32.not_lt.mp p_1), eq_false p_3, eq_true (Int32.not_lt.mp p_3), hkc, eq_false c_5, eq_false p_6, eq_true (Int32.not_lt.mp p_6), eq_false p_8, eq_true (Int32.not_lt.mp p_8), eq_false p_10, hcc, eq_false c_12, eq_false p_13, eq_true (Int32.not_lt.mp p_13), eq_true p_15, eq_false (Int32.not_le.mpr p_15), eq_true c_16, ↓reduceIte] <;> rfl) | (simp [mvoF, p_1, p_3, hkc, c_5, p_6, p_8, p_10, hcc, c_12, p_13, p_15, c_16]; done), sc, ar, PerM_rf, rfl⟩
      refine v_stk (st' := .int 1 :: []) (congrArg (fun z : Int32 => Value.int z :: []) (show niF w 0 1 = 1 by simp only [niF, if_neg p_13, if_neg p_15])) ?_
      refine v_if_ne (t := 32) (n := 29) C dX12_voyage_26 (by decide) rfl (fun c_17 => ?_) (fun c_17 => ?_)
      · skip
        refine v_aload_n (n := 33) C dX12_voyage_32 rfl rfl rfl ?_
        refine v_iload_n (n := 34) C dX12_voyage_33 rfl rfl rfl ?_
        refine v_iload_n (n := 35) C dX12_voyage_34 rfl rfl rfl ?_
        refine v_aload_n (n := 36) C dX12_voyage_35 rfl rfl rfl ?_
        refine v_get (n := 39) C dX12_voyage_36 rfl fl_X12_75_X12 wl_c27 rfl ?_
        refine v_aload_n (n := 40) C dX12_voyage_39 rfl rfl rfl ?_
        refine v_get (n := 43) C dX12_voyage_40 rfl fl_X12_50_X12 wl_c27 rfl ?_
        refine v_aload_n (n := 44) C dX12_voyage_43 rfl rfl rfl ?_
        refine v_get (n := 47) C dX12_voyage_44 rfl fl_X12_72_X12 wl_c27 rfl ?_
        refine v_stk (st' := [.int (nI R), .int (nI W), .int (nI H), .int (nI cN), .int (nI kN), .ref (b + 27)]) (by rw [h21, h22, h23]) ?_
        refine v_go (n := 50) C (vRun_V (As := [.int (nI kN), .int (nI cN), .int (nI H), .int (nI W), .int (nI R)]) (rest := []) C wl_c27 rfl lk_X12_147 im_X12_hourBy se_X12_hourBy dX12_voyage_47 (m_hourBy l D b sc ar hn mh G kN (show kN < 3 by omega) hi R W (kk kN) (dd kN) (FF kN) H (hZ kN (by omega)) hR hW (by omega) cN hcN) wm_X12_hourBy rfl rfl ⟨Nat.le_of_ble_eq_true rfl, Nat.le_of_ble_eq_true rfl⟩ ⟨Nat.le_of_ble_eq_true rfl, Nat.le_of_ble_eq_true rfl⟩ (Nat.le_of_ble_eq_true rfl)) rfl ?_
        rintro _ _ ⟨q18, hq18, rfl, rfl⟩ -
        refine v_istore (n := 52) (lv' := [(4, .int ((vyQ hi R W (kk kN) (dd kN) (FF kN) H).1 cN)), (0, .ref (b + 27)), (1, .int (nI kN)), (2, .int (nI cN)), (3, .int w)]) C dX12_voyage_50 rfl (Nat.le_of_ble_eq_true rfl) rfl ?_
        refine v_iload_n (n := 53) C dX12_voyage_52 rfl rfl rfl ?_
        refine v_if_ne (t := 61) (n := 56) C dX12_voyage_53 (by decide) rfl (fun c_19 => ?_) (fun c_19 => ?_)
        · skip
          refine v_aload_n (n := 62) C dX12_voyage_61 rfl rfl rfl ?_
          refine v_get (n := 65) C dX12_voyage_62 rfl fl_X12_22_X12 wl_c27 rfl ?_
          refine v_iload_n (n := 66) C dX12_voyage_65 rfl rfl rfl ?_
          refine v_iald (n := 67) C dX12_voyage_66 rfl (show (wl D b sc (va_up (va_up ar 31 q18.1) 32 q18.2) hn mh G)[32]? = some (.inl (D.1 13, 12, .inl q18.2)) from wl_c32) (vp_in_nI hcN (by decide)) ?_
          refine v_stk (st' := .int (q18.2 cN) :: []) (congrArg (fun z : Nat => Value.int (q18.2 z) :: []) (nI_clamp (show cN < 2 ^ 31 by omega))) ?_
          exact v_iret C dX12_voyage_67 rfl rfl ⟨by rw [(hq18 cN hcN).2]; simp only [mvoF, eq_false p_1, eq_true (Int32.not_lt.mp p_1), eq_false p_3, eq_true (Int32.not_lt.mp p_3), hkc, eq_false c_5, eq_false p_6, eq_true (Int32.not_lt.mp p_6), eq_false p_8, eq_true (Int32.not_lt.mp p_8), eq_false p_10, hcc, eq_false c_12, eq_false p_13, eq_true (Int32.not_lt.mp p_13), eq_false p_15, eq_true (Int32.not_lt.mp p_15), eq_false c_17, eq_false c_19, ↓reduceIte], sc, (va_up (va_up ar 31 q18.1) 32 q18.2), (PerM_a (by decide) (PerM_a (by decide) PerM_rf)), rfl⟩
        · skip
          refine v_iload (n := 58) C dX12_voyage_56 rfl rfl ?_
          refine v_goto (t := 67) C dX12_voyage_58 (by decide) ?_
          exact v_iret C dX12_voyage_67 rfl rfl ⟨by first | rfl | (simp only [mvoF, if_neg p_1, if_pos (Int32.not_lt.mp p_1), if_neg p_3, if_pos (Int32.not_lt.mp p_3), hkc, if_neg c_5, if_neg p_6, if_pos (Int32.not_lt.mp p_6), if_neg p_8, if_pos (Int32.not_lt.mp p_8), if_neg p_10, hcc, if_neg c_12, if_neg p_13, if_pos (Int32.not_lt.mp p_13), if_neg p_15, if_pos (Int32.not_lt.mp p_15), if_neg c_17, if_pos c_19]; done) | (simp only [mvoF, eq_false p_1, eq_true (Int32.not_lt.mp p_1), eq_false p_3, eq_true (Int32.not_lt.mp p_3), hkc, eq_false c_5, eq_false p_6, eq_true (Int32.not_lt.mp p_6), eq_false p_8, eq_true (Int32.not_lt.mp p_8), eq_false p_10, hcc, eq_false c_12, eq_false p_13, eq_true (Int32.not_lt.mp p_13), eq_false p_15, eq_true (Int32.not_lt.mp p_15), eq_false c_17, eq_true c_19, ↓reduceIte]; done) | (simp only [mvoF, eq_false p_1, eq_true (Int32.not_lt.mp p_1), eq_false p_3, eq_true (Int32.not_lt.mp p_3), hkc, eq_false c_5, eq_false p_6, eq_true (Int32.not_lt.mp p_6), eq_false p_8, eq_true (Int32.not_lt.mp p_8), eq_false p_10, hcc, eq_false c_12, eq_false p_13, eq_true (Int32.not_lt.mp p_13), eq_false p_15, eq_true (Int32.not_lt.mp p_15), eq_false c_17, eq_true c_19, ↓reduceIte] <;> rfl) | (simp [mvoF, p_1, p_3, hkc, c_5, p_6, p_8, p_10, hcc, c_12, p_13, p_15, c_17, c_19]; done), sc, (va_up (va_up ar 31 q18.1) 32 q18.2), (PerM_a (by decide) (PerM_a (by decide) PerM_rf)), rfl⟩
      · exact absurd c_17 (by decide)
    · exact absurd c_12 (by decide)
set_option maxHeartbeats 4000000 in
set_option maxRecDepth 100000 in
theorem m_latest (l : Launch) (D : va_G) (b : Nat) (sc : Nat → Int32) (ar : Nat → Nat → Int32) (hn : Nat → Option Nat) (mh : Int64) (G : List va_E) (x y : Int32) (hi kk dd FF : Nat → Nat) (R H W : Nat) (h21 : sc 21 = nI R) (hR : R ≤ 9) (h22 : sc 22 = nI H) (hHb : H ≤ 999) (h23 : sc 23 = nI W) (hW : W < 5) (Hn : Nat) (hH : sc 25 = nI Hn) (hH3 : Hn ≤ 3) (hZ : ∀ k, k < Hn → zM ar k hi (kk k) (dd k) (FF k)) : Con l yX12_latest cX12_latest 4 (some .int) 5 136 D b 0 0 (wl D b sc ar hn mh G) [.ref (b + 27), .int x, .int y] (fun r es' => r = some (.int (mlaX sc hi kk dd FF H W x y)) ∧ ∃ sc' ar', PerM sc ar sc' ar' ∧ wl D b sc' ar' hn mh G = es') := by
  refine con_of (by decide) (Nat.le_of_ble_eq_true rfl) (fun p e s m args below meth c C hsz => ?_)
  have C : vC p s m args meth c cX12_latest 4 RX12 "latest" (some .int) D b := C
  change V p l e _ s m args below meth c D b 4 _ 0 0 (wl D b sc ar hn mh G) [(0, .ref (b + 27)), (1, .int x), (2, .int y)] [] 0
  refine v_aload_n (n := 1) C dX12_latest_0 rfl rfl rfl ?_
  refine v_iload_n (n := 2) C dX12_latest_1 rfl rfl rfl ?_
  refine v_go (n := 5) C (vRun_V (As := [.int x]) (rest := []) C wl_c27 rfl lk_X12_134 im_X12_isHull se_X12_isHull dX12_latest_2 (m_isHull l D b sc ar hn mh G x) wm_X12_isHull rfl rfl ⟨Nat.le_of_ble_eq_true rfl, Nat.le_of_ble_eq_true rfl⟩ ⟨Nat.le_of_ble_eq_true rfl, Nat.le_of_ble_eq_true rfl⟩ (Nat.le_of_ble_eq_true rfl)) rfl ?_
  rintro _ _ ⟨rfl, rfl⟩ -
  by_cases p_1 : x < 0
  · skip
    refine v_stk (st' := .int 0 :: []) (congrArg (fun z : Int32 => Value.int z :: []) (show mihF (sc 25) x = 0 by simp only [mihF, if_pos p_1])) ?_
    refine v_if_eq (t := 16) (n := 8) C dX12_latest_5 (by decide) rfl (fun c_2 => ?_) (fun c_2 => ?_)
    · skip
      refine v_bipush (n := 18) (v := -101) C dX12_latest_16 rfl (by decide) ?_
      exact v_iret C dX12_latest_18 rfl rfl ⟨by first | rfl | (simp only [mlaX, if_pos p_1, if_neg (Int32.not_le.mpr p_1), if_pos c_2]; done) | (simp only [mlaX, eq_true p_1, eq_false (Int32.not_le.mpr p_1), eq_true c_2, ↓reduceIte]; done) | (simp only [mlaX, eq_true p_1, eq_false (Int32.not_le.mpr p_1), eq_true c_2, ↓reduceIte] <;> rfl) | (simp [mlaX, p_1, c_2]; done), sc, ar, PerM_rf, rfl⟩
    · exact absurd c_2 (by decide)
  by_cases p_3 : (sc 25) - 1 < x
  · skip
    refine v_stk (st' := .int 0 :: []) (congrArg (fun z : Int32 => Value.int z :: []) (show mihF (sc 25) x = 0 by simp only [mihF, if_neg p_1, if_pos p_3])) ?_
    refine v_if_eq (t := 16) (n := 8) C dX12_latest_5 (by decide) rfl (fun c_4 => ?_) (fun c_4 => ?_)
    · skip
      refine v_bipush (n := 18) (v := -101) C dX12_latest_16 rfl (by decide) ?_
      exact v_iret C dX12_latest_18 rfl rfl ⟨by first | rfl | (simp only [mlaX, if_neg p_1, if_pos (Int32.not_lt.mp p_1), if_pos p_3, if_neg (Int32.not_le.mpr p_3), if_pos c_4]; done) | (simp only [mlaX, eq_false p_1, eq_true (Int32.not_lt.mp p_1), eq_true p_3, eq_false (Int32.not_le.mpr p_3), eq_true c_4, ↓reduceIte]; done) | (simp only [mlaX, eq_false p_1, eq_true (Int32.not_lt.mp p_1), eq_true p_3, eq_false (Int32.not_le.mpr p_3), eq_true c_4, ↓reduceIte] <;> rfl) | (simp [mlaX, p_1, p_3, c_4]; done), sc, ar, PerM_rf, rfl⟩
    · exact absurd c_4 (by decide)
  refine v_stk (st' := .int 1 :: []) (congrArg (fun z : Int32 => Value.int z :: []) (show mihF (sc 25) x = 1 by simp only [mihF, if_neg p_1, if_neg p_3])) ?_
  obtain ⟨kN, hkN, rfl⟩ := ih_k hH hH3 p_1 p_3
  have hkc : (nI kN).toNatClampNeg = kN := nI_clamp (by omega)
  refine v_if_eq (t := 16) (n := 8) C dX12_latest_5 (by decide) rfl (fun c_5 => ?_) (fun c_5 => ?_)
  · exact absurd c_5 (by decide)
  · skip
    refine v_aload_n (n := 9) C dX12_latest_8 rfl rfl rfl ?_
    refine v_iload_n (n := 10) C dX12_latest_9 rfl rfl rfl ?_
    refine v_go (n := 13) C (vRun_V (As := [.int y]) (rest := []) C wl_c27 rfl lk_X12_101 im_X12_isCell se_X12_isCell dX12_latest_10 (m_isCell l D b sc ar hn mh G y) wm_X12_isCell rfl rfl ⟨Nat.le_of_ble_eq_true rfl, Nat.le_of_ble_eq_true rfl⟩ ⟨Nat.le_of_ble_eq_true rfl, Nat.le_of_ble_eq_true rfl⟩ (Nat.le_of_ble_eq_true rfl)) rfl ?_
    rintro _ _ ⟨rfl, rfl⟩ -
    by_cases p_6 : y < 0
    · skip
      refine v_stk (st' := .int 0 :: []) (congrArg (fun z : Int32 => Value.int z :: []) (show micF (sc 21) y = 0 by simp only [micF, if_pos p_6])) ?_
      refine v_if_ne (t := 19) (n := 16) C dX12_latest_13 (by decide) rfl (fun c_7 => ?_) (fun c_7 => ?_)
      · exact absurd c_7 (by decide)
      · skip
        refine v_bipush (n := 18) (v := -101) C dX12_latest_16 rfl (by decide) ?_
        exact v_iret C dX12_latest_18 rfl rfl ⟨by first | rfl | (simp only [mlaX, if_neg p_1, if_pos (Int32.not_lt.mp p_1), if_neg p_3, if_pos (Int32.not_lt.mp p_3), hkc, if_neg c_5, if_pos p_6, if_neg (Int32.not_le.mpr p_6), if_pos c_7]; done) | (simp only [mlaX, eq_false p_1, eq_true (Int32.not_lt.mp p_1), eq_false p_3, eq_true (Int32.not_lt.mp p_3), hkc, eq_false c_5, eq_true p_6, eq_false (Int32.not_le.mpr p_6), eq_true c_7, ↓reduceIte]; done) | (simp only [mlaX, eq_false p_1, eq_true (Int32.not_lt.mp p_1), eq_false p_3, eq_true (Int32.not_lt.mp p_3), hkc, eq_false c_5, eq_true p_6, eq_false (Int32.not_le.mpr p_6), eq_true c_7, ↓reduceIte] <;> rfl) | (simp [mlaX, p_1, p_3, hkc, c_5, p_6, c_7]; done), sc, ar, PerM_rf, rfl⟩
    by_cases p_8 : 11 < y
    · skip
      refine v_stk (st' := .int 0 :: []) (congrArg (fun z : Int32 => Value.int z :: []) (show micF (sc 21) y = 0 by simp only [micF, if_neg p_6, if_pos p_8])) ?_
      refine v_if_ne (t := 19) (n := 16) C dX12_latest_13 (by decide) rfl (fun c_9 => ?_) (fun c_9 => ?_)
      · exact absurd c_9 (by decide)
      · skip
        refine v_bipush (n := 18) (v := -101) C dX12_latest_16 rfl (by decide) ?_
        exact v_iret C dX12_latest_18 rfl rfl ⟨by first | rfl | (simp only [mlaX, if_neg p_1, if_pos (Int32.not_lt.mp p_1), if_neg p_3, if_pos (Int32.not_lt.mp p_3), hkc, if_neg c_5, if_neg p_6, if_pos (Int32.not_lt.mp p_6), if_pos p_8, if_neg (Int32.not_le.mpr p_8), if_pos c_9]; done) | (simp only [mlaX, eq_false p_1, eq_true (Int32.not_lt.mp p_1), eq_false p_3, eq_true (Int32.not_lt.mp p_3), hkc, eq_false c_5, eq_false p_6, eq_true (Int32.not_lt.mp p_6), eq_true p_8, eq_false (Int32.not_le.mpr p_8), eq_true c_9, ↓reduceIte]; done) | (simp only [mlaX, eq_false p_1, eq_true (Int32.not_lt.mp p_1), eq_false p_3, eq_true (Int32.not_lt.mp p_3), hkc, eq_false c_5, eq_false p_6, eq_true (Int32.not_lt.mp p_6), eq_true p_8, eq_false (Int32.not_le.mpr p_8), eq_true c_9, ↓reduceIte] <;> rfl) | (simp [mlaX, p_1, p_3, hkc, c_5, p_6, p_8, c_9]; done), sc, ar, PerM_rf, rfl⟩
    by_cases p_10 : (sc 21) = 0
    · skip
      refine v_stk (st' := .int 0 :: []) (congrArg (fun z : Int32 => Value.int z :: []) (show micF (sc 21) y = 0 by simp only [micF, if_neg p_6, if_neg p_8, if_pos p_10])) ?_
      refine v_if_ne (t := 19) (n := 16) C dX12_latest_13 (by decide) rfl (fun c_11 => ?_) (fun c_11 => ?_)
      · exact absurd c_11 (by decide)
      · skip
        refine v_bipush (n := 18) (v := -101) C dX12_latest_16 rfl (by decide) ?_
        exact v_iret C dX12_latest_18 rfl rfl ⟨by first | rfl | (simp only [mlaX, if_neg p_1, if_pos (Int32.not_lt.mp p_1), if_neg p_3, if_pos (Int32.not_lt.mp p_3), hkc, if_neg c_5, if_neg p_6, if_pos (Int32.not_lt.mp p_6), if_neg p_8, if_pos (Int32.not_lt.mp p_8), if_pos p_10, if_pos c_11]; done) | (simp only [mlaX, eq_false p_1, eq_true (Int32.not_lt.mp p_1), eq_false p_3, eq_true (Int32.not_lt.mp p_3), hkc, eq_false c_5, eq_false p_6, eq_true (Int32.not_lt.mp p_6), eq_false p_8, eq_true (Int32.not_lt.mp p_8), eq_true p_10, eq_true c_11, ↓reduceIte]; done) | (simp only [mlaX, eq_false p_1, eq_true (Int32.not_lt.mp p_1), eq_false p_3, eq_true (Int32.not_lt.mp p_3), hkc, eq_false c_5, eq_false p_6, eq_true (Int32.not_lt.mp p_6), eq_false p_8, eq_true (Int32.not_lt.mp p_8), eq_true p_10, eq_true c_11, ↓reduceIte] <;> rfl) | (simp [mlaX, p_1, p_3, hkc, c_5, p_6, p_8, p_10, c_11]; done), sc, ar, PerM_rf, rfl⟩
    refine v_stk (st' := .int 1 :: []) (congrArg (fun z : Int32 => Value.int z :: []) (show micF (sc 21) y = 1 by simp only [micF, if_neg p_6, if_neg p_8, if_neg p_10])) ?_
    obtain ⟨cN, hcN, rfl⟩ := vp_nat (ic_vp p_6 p_8)
    have hcc : (nI cN).toNatClampNeg = cN := nI_clamp (by omega)
    refine v_if_ne (t := 19) (n := 16) C dX12_latest_13 (by decide) rfl (fun c_12 => ?_) (fun c_12 => ?_)
    · skip
      refine v_iconst (n := 20) (v := 1) C dX12_latest_19 rfl (by decide) ?_
      refine v_istore_n (n := 21) (lv' := [(3, .int 1), (0, .ref (b + 27)), (1, .int (nI kN)), (2, .int (nI cN))]) C dX12_latest_20 rfl rfl (Nat.le_of_ble_eq_true rfl) rfl ?_
      refine v_pick (lv' := [(3, .int 1), (0, .ref (b + 27)), (1, .int (nI kN)), (2, .int (nI cN))]) [0, 1, 2, 3] rfl ?_
      have e_13 : (1 : Int32) = (nI (0 + 1)) := rfl
      refine v_cong (es' := (wl D b sc (va_up (va_up ar 31 (ar 31)) 32 (ar 32)) hn mh G)) (lv' := [(3, .int 1), (0, .ref (b + 27)), (1, .int (nI kN)), (2, .int (nI cN))]) rfl rfl ?_
      have e_14 : ((ar 31) : Nat → Int32) = (ar 31, ar 32).1 := by first | rfl | (simp only [if_neg p_1, if_pos (Int32.not_lt.mp p_1), if_neg p_3, if_pos (Int32.not_lt.mp p_3), hkc, if_neg c_5, if_neg p_6, if_pos (Int32.not_lt.mp p_6), if_neg p_8, if_pos (Int32.not_lt.mp p_8), if_neg p_10, hcc, if_neg c_12]; done) | (simp only [eq_false p_1, eq_true (Int32.not_lt.mp p_1), eq_false p_3, eq_true (Int32.not_lt.mp p_3), hkc, eq_false c_5, eq_false p_6, eq_true (Int32.not_lt.mp p_6), eq_false p_8, eq_true (Int32.not_lt.mp p_8), eq_false p_10, hcc, eq_false c_12, ↓reduceIte]; done) | (simp only [eq_false p_1, eq_true (Int32.not_lt.mp p_1), eq_false p_3, eq_true (Int32.not_lt.mp p_3), hkc, eq_false c_5, eq_false p_6, eq_true (Int32.not_lt.mp p_6), eq_false p_8, eq_true (Int32.not_lt.mp p_8), eq_false p_10, hcc, eq_false c_12, ↓reduceIte] <;> rfl) | (simp [p_1, p_3, hkc, c_5, p_6, p_8, p_10, hcc, c_12]; done)
      have e_15 : ((ar 32) : Nat → Int32) = (ar 31, ar 32).2 := by first | rfl | (simp only [if_neg p_1, if_pos (Int32.not_lt.mp p_1), if_neg p_3, if_pos (Int32.not_lt.mp p_3), hkc, if_neg c_5, if_neg p_6, if_pos (Int32.not_lt.mp p_6), if_neg p_8, if_pos (Int32.not_lt.mp p_8), if_neg p_10, hcc, if_neg c_12]; done) | (simp only [eq_false p_1, eq_true (Int32.not_lt.mp p_1), eq_false p_3, eq_true (Int32.not_lt.mp p_3), hkc, eq_false c_5, eq_false p_6, eq_true (Int32.not_lt.mp p_6), eq_false p_8, eq_true (Int32.not_lt.mp p_8), eq_false p_10, hcc, eq_false c_12, ↓reduceIte]; done) | (simp only [eq_false p_1, eq_true (Int32.not_lt.mp p_1), eq_false p_3, eq_true (Int32.not_lt.mp p_3), hkc, eq_false c_5, eq_false p_6, eq_true (Int32.not_lt.mp p_6), eq_false p_8, eq_true (Int32.not_lt.mp p_8), eq_false p_10, hcc, eq_false c_12, ↓reduceIte] <;> rfl) | (simp [p_1, p_3, hkc, c_5, p_6, p_8, p_10, hcc, c_12]; done)
      refine v_cong (es' := (wl D b sc (va_up (va_up ar 31 (ar 31, ar 32).1) 32 (ar 31, ar 32).2) hn mh G)) (lv' := [(3, .int (nI (0 + 1))), (0, .ref (b + 27)), (1, .int (nI kN)), (2, .int (nI cN))]) (cg2 (fun (y0 : Nat → Int32) (y1 : Nat → Int32) => wl D b sc (va_up (va_up ar 31 y0) 32 y1) hn mh G) e_14 e_15) (cg1 (fun (z0 : Int32) => ([(3, .int z0), (0, .ref (b + 27)), (1, .int (nI kN)), (2, .int (nI cN))] : List (Nat × Value))) e_13) ?_
      refine loop_dn (P := fun i_21 => ∀ (q : HF), (∀ j, j < i_21 → (fun r => (vyQ hi r W (kk kN) (dd kN) (FF kN) H).1 cN) (j + 1) = -1) → V p l e { frames := 5, cells := 0, slots := 0, locals := 136 } s m args below meth c D b 4 (MQ below (cQ D b 0 (fun r es' => r = some (.int (mlaX sc hi kk dd FF H W (nI kN) (nI cN))) ∧ ∃ sc' ar', PerM sc ar sc' ar' ∧ wl D b sc' ar' hn mh G = es')) args s 0 0 (fun q => b ≤ q)) 0 0 (wl D b sc (va_up (va_up ar 31 q.1) 32 q.2) hn mh G) [(3, .int (nI (i_21 + 1))), (0, .ref (b + 27)), (1, .int (nI kN)), (2, .int (nI cN))] [] 21) 9 ?_ (fun i_21 hi_21 ih_21 => ?_) (ar 31, ar 32) (fun j h => absurd h (Nat.not_lt_zero j))
      · intro q hp_21
        have g_16 : (10 : Int32) ≤ (nI (9 + 1)) := by decide
        refine v_iload_n (n := 22) C dX12_latest_21 rfl rfl rfl ?_
        refine v_bipush (n := 24) (v := 10) C dX12_latest_22 rfl (by decide) ?_
        refine v_icmp_ge (t := 54) (n := 27) C dX12_latest_24 (by decide) rfl (fun c_17 => ?_) (fun c_17 => ?_)
        · skip
          refine v_iconst (n := 55) (v := -1) C dX12_latest_54 rfl (by decide) ?_
          exact v_iret C dX12_latest_55 rfl rfl ⟨by simp only [mlaX, eq_false p_1, eq_true (Int32.not_lt.mp p_1), eq_false p_3, eq_true (Int32.not_lt.mp p_3), hkc, eq_false c_5, eq_false p_6, eq_true (Int32.not_lt.mp p_6), eq_false p_8, eq_true (Int32.not_lt.mp p_8), eq_false p_10, hcc, eq_false c_12, eq_true g_16, eq_false (Int32.not_lt.mpr g_16), eq_true c_17, eq_false (Int32.not_lt.mpr c_17), ↓reduceIte]; exact congrArg (fun z : Int32 => some (Value.int z)) (mlaN_no (g := (fun r => (vyQ hi r W (kk kN) (dd kN) (FF kN) H).1 cN)) 9 hp_21).symm, sc, (va_up (va_up ar 31 q.1) 32 q.2), (PerM_a (by decide) (PerM_a (by decide) PerM_rf)), rfl⟩
        · first | exact absurd c_17 g_16 | exact absurd g_16 c_17 | exact absurd c_17 (Int32.not_le.mpr g_16) | exact absurd c_17 (Int32.not_lt.mpr g_16) | exact absurd (Int32.not_le.mp g_16) c_17 | exact absurd (Int32.not_lt.mp g_16) c_17 | exact absurd (Int32.not_le.mp g_16) (Int32.not_lt.mpr c_17) | exact absurd (Int32.not_lt.mp g_16) (Int32.not_le.mpr c_17) | exact absurd (Int32.not_lt.mp c_17) (Int32.not_le.mpr (Int32.not_le.mp g_16))
      · intro q hp_21
        have g_18 : ¬ (10 : Int32) ≤ (nI (i_21 + 1)) := nI_ge (a := i_21 + 1) (b := 10) (by omega) (by decide)
        refine v_iload_n (n := 22) C dX12_latest_21 rfl rfl rfl ?_
        refine v_bipush (n := 24) (v := 10) C dX12_latest_22 rfl (by decide) ?_
        refine v_icmp_ge (t := 54) (n := 27) C dX12_latest_24 (by decide) rfl (fun c_19 => ?_) (fun c_19 => ?_)
        · first | exact absurd c_19 g_18 | exact absurd g_18 c_19 | exact absurd c_19 (Int32.not_le.mpr g_18) | exact absurd c_19 (Int32.not_lt.mpr g_18) | exact absurd (Int32.not_le.mp g_18) c_19 | exact absurd (Int32.not_lt.mp g_18) c_19 | exact absurd (Int32.not_le.mp g_18) (Int32.not_lt.mpr c_19) | exact absurd (Int32.not_lt.mp g_18) (Int32.not_le.mpr c_19) | exact absurd (Int32.not_lt.mp c_19) (Int32.not_le.mpr (Int32.not_le.mp g_18))
        · skip
          refine v_aload_n (n := 28) C dX12_latest_27 rfl rfl rfl ?_
          refine v_iload_n (n := 29) C dX12_latest_28 rfl rfl rfl ?_
          refine v_iload_n (n := 30) C dX12_latest_29 rfl rfl rfl ?_
          refine v_aload_n (n := 31) C dX12_latest_30 rfl rfl rfl ?_
          refine v_get (n := 34) C dX12_latest_31 rfl fl_X12_75_X12 wl_c27 rfl ?_
          refine v_aload_n (n := 35) C dX12_latest_34 rfl rfl rfl ?_
          refine v_get (n := 38) C dX12_latest_35 rfl fl_X12_50_X12 wl_c27 rfl ?_
          refine v_iload_n (n := 39) C dX12_latest_38 rfl rfl rfl ?_
          refine v_stk (st' := [.int (nI (i_21 + 1)), .int (nI W), .int (nI H), .int (nI cN), .int (nI kN), .ref (b + 27)]) (by rw [h22, h23]) ?_
          refine v_go (n := 42) C (vRun_V (As := [.int (nI kN), .int (nI cN), .int (nI H), .int (nI W), .int (nI (i_21 + 1))]) (rest := []) C wl_c27 rfl lk_X12_147 im_X12_hourBy se_X12_hourBy dX12_latest_39 (m_hourBy l D b sc (va_up (va_up ar 31 q.1) 32 q.2) hn mh G kN (show kN < 3 by omega) hi (i_21 + 1) W (kk kN) (dd kN) (FF kN) H (hZ kN (by omega)) (by omega) hW (by omega) cN hcN) wm_X12_hourBy rfl rfl ⟨Nat.le_of_ble_eq_true rfl, Nat.le_of_ble_eq_true rfl⟩ ⟨Nat.le_of_ble_eq_true rfl, Nat.le_of_ble_eq_true rfl⟩ (Nat.le_of_ble_eq_true rfl)) rfl ?_
          rintro _ _ ⟨q20, hq20, rfl, rfl⟩ -
          refine v_cong (es' := (wl D b sc (va_up (va_up ar 31 q20.1) 32 q20.2) hn mh G)) (lv' := [(3, .int (nI (i_21 + 1))), (0, .ref (b + 27)), (1, .int (nI kN)), (2, .int (nI cN))]) rfl rfl ?_
          refine v_iconst (n := 43) (v := -1) C dX12_latest_42 rfl (by decide) ?_
          refine v_icmp_eq (t := 48) (n := 46) C dX12_latest_43 (by decide) rfl (fun c_21 => ?_) (fun c_21 => ?_)
          · skip
            refine v_iinc (n := 51) (v := ((nI (i_21 + 1)) + 1)) (lv' := [(3, .int ((nI (i_21 + 1)) + 1)), (0, .ref (b + 27)), (1, .int (nI kN)), (2, .int (nI cN))]) C dX12_latest_48 rfl rfl rfl (Nat.le_of_ble_eq_true rfl) rfl ?_
            refine v_goto (t := 21) C dX12_latest_51 (by decide) ?_
            refine v_pick (lv' := [(3, .int ((nI (i_21 + 1)) + 1)), (0, .ref (b + 27)), (1, .int (nI kN)), (2, .int (nI cN))]) [0, 1, 2, 3] rfl ?_
            have e_22 : (((nI (i_21 + 1)) + 1) : Int32) = (nI ((i_21 + 1) + 1)) := nI_1 _
            refine v_cong (es' := (wl D b sc (va_up (va_up ar 31 q20.1) 32 q20.2) hn mh G)) (lv' := [(3, .int (nI ((i_21 + 1) + 1))), (0, .ref (b + 27)), (1, .int (nI kN)), (2, .int (nI cN))]) rfl (cg1 (fun (z0 : Int32) => ([(3, .int z0), (0, .ref (b + 27)), (1, .int (nI kN)), (2, .int (nI cN))] : List (Nat × Value))) e_22) ?_
            exact ih_21 q20 (fun j h => (Nat.lt_or_eq_of_le (Nat.le_of_lt_succ h)).elim (hp_21 j) (fun q => by subst q; exact c_21))
          · skip
            refine v_iload_n (n := 47) C dX12_latest_46 rfl rfl rfl ?_
            exact v_iret C dX12_latest_47 rfl rfl ⟨by simp only [mlaX, eq_false p_1, eq_true (Int32.not_lt.mp p_1), eq_false p_3, eq_true (Int32.not_lt.mp p_3), hkc, eq_false c_5, eq_false p_6, eq_true (Int32.not_lt.mp p_6), eq_false p_8, eq_true (Int32.not_lt.mp p_8), eq_false p_10, hcc, eq_false c_12, eq_false g_18, eq_true (Int32.not_le.mp g_18), eq_false c_19, eq_true (Int32.not_le.mp c_19), eq_false c_21, ↓reduceIte]; exact congrArg (fun z : Int32 => some (Value.int z)) (mlaN_at (g := (fun r => (vyQ hi r W (kk kN) (dd kN) (FF kN) H).1 cN)) hi_21 hp_21 c_21).symm, sc, (va_up (va_up ar 31 q20.1) 32 q20.2), (PerM_a (by decide) (PerM_a (by decide) PerM_rf)), rfl⟩
    · exact absurd c_12 (by decide)
set_option maxHeartbeats 4000000 in
set_option maxRecDepth 100000 in
theorem m_bestWind (l : Launch) (D : va_G) (b : Nat) (sc : Nat → Int32) (ar : Nat → Nat → Int32) (hn : Nat → Option Nat) (mh : Int64) (G : List va_E) (x y : Int32) (hi kk dd FF : Nat → Nat) (R H W : Nat) (h21 : sc 21 = nI R) (hR : R ≤ 9) (h22 : sc 22 = nI H) (hHb : H ≤ 999) (h23 : sc 23 = nI W) (hW : W < 5) (Hn : Nat) (hH : sc 25 = nI Hn) (hH3 : Hn ≤ 3) (hZ : ∀ k, k < Hn → zM ar k hi (kk k) (dd k) (FF k)) : Con l yX12_bestWind cX12_bestWind 8 (some .int) 5 136 D b 0 0 (wl D b sc ar hn mh G) [.ref (b + 27), .int x, .int y] (fun r es' => r = some (.int (mbwF sc hi kk dd FF R H x y)) ∧ ∃ sc' ar', PerM sc ar sc' ar' ∧ wl D b sc' ar' hn mh G = es') := by
  refine con_of (by decide) (Nat.le_of_ble_eq_true rfl) (fun p e s m args below meth c C hsz => ?_)
  have C : vC p s m args meth c cX12_bestWind 8 RX12 "bestWind" (some .int) D b := C
  change V p l e _ s m args below meth c D b 8 _ 0 0 (wl D b sc ar hn mh G) [(0, .ref (b + 27)), (1, .int x), (2, .int y)] [] 0
  refine v_aload_n (n := 1) C dX12_bestWind_0 rfl rfl rfl ?_
  refine v_iload_n (n := 2) C dX12_bestWind_1 rfl rfl rfl ?_
  refine v_go (n := 5) C (vRun_V (As := [.int x]) (rest := []) C wl_c27 rfl lk_X12_134 im_X12_isHull se_X12_isHull dX12_bestWind_2 (m_isHull l D b sc ar hn mh G x) wm_X12_isHull rfl rfl ⟨Nat.le_of_ble_eq_true rfl, Nat.le_of_ble_eq_true rfl⟩ ⟨Nat.le_of_ble_eq_true rfl, Nat.le_of_ble_eq_true rfl⟩ (Nat.le_of_ble_eq_true rfl)) rfl ?_
  rintro _ _ ⟨rfl, rfl⟩ -
  by_cases p_1 : x < 0
  · skip
    refine v_stk (st' := .int 0 :: []) (congrArg (fun z : Int32 => Value.int z :: []) (show mihF (sc 25) x = 0 by simp only [mihF, if_pos p_1])) ?_
    refine v_if_eq (t := 16) (n := 8) C dX12_bestWind_5 (by decide) rfl (fun c_2 => ?_) (fun c_2 => ?_)
    · skip
      refine v_bipush (n := 18) (v := -101) C dX12_bestWind_16 rfl (by decide) ?_
      exact v_iret C dX12_bestWind_18 rfl rfl ⟨by first | rfl | (simp only [mbwF, if_pos p_1, if_neg (Int32.not_le.mpr p_1), if_pos c_2]; done) | (simp only [mbwF, eq_true p_1, eq_false (Int32.not_le.mpr p_1), eq_true c_2, ↓reduceIte]; done) | (simp only [mbwF, eq_true p_1, eq_false (Int32.not_le.mpr p_1), eq_true c_2, ↓reduceIte] <;> rfl) | (simp [mbwF, p_1, c_2]; done), sc, ar, PerM_rf, rfl⟩
    · exact absurd c_2 (by decide)
  by_cases p_3 : (sc 25) - 1 < x
  · skip
    refine v_stk (st' := .int 0 :: []) (congrArg (fun z : Int32 => Value.int z :: []) (show mihF (sc 25) x = 0 by simp only [mihF, if_neg p_1, if_pos p_3])) ?_
    refine v_if_eq (t := 16) (n := 8) C dX12_bestWind_5 (by decide) rfl (fun c_4 => ?_) (fun c_4 => ?_)
    · skip
      refine v_bipush (n := 18) (v := -101) C dX12_bestWind_16 rfl (by decide) ?_
      exact v_iret C dX12_bestWind_18 rfl rfl ⟨by first | rfl | (simp only [mbwF, if_neg p_1, if_pos (Int32.not_lt.mp p_1), if_pos p_3, if_neg (Int32.not_le.mpr p_3), if_pos c_4]; done) | (simp only [mbwF, eq_false p_1, eq_true (Int32.not_lt.mp p_1), eq_true p_3, eq_false (Int32.not_le.mpr p_3), eq_true c_4, ↓reduceIte]; done) | (simp only [mbwF, eq_false p_1, eq_true (Int32.not_lt.mp p_1), eq_true p_3, eq_false (Int32.not_le.mpr p_3), eq_true c_4, ↓reduceIte] <;> rfl) | (simp [mbwF, p_1, p_3, c_4]; done), sc, ar, PerM_rf, rfl⟩
    · exact absurd c_4 (by decide)
  refine v_stk (st' := .int 1 :: []) (congrArg (fun z : Int32 => Value.int z :: []) (show mihF (sc 25) x = 1 by simp only [mihF, if_neg p_1, if_neg p_3])) ?_
  obtain ⟨kN, hkN, rfl⟩ := ih_k hH hH3 p_1 p_3
  have hkc : (nI kN).toNatClampNeg = kN := nI_clamp (by omega)
  refine v_if_eq (t := 16) (n := 8) C dX12_bestWind_5 (by decide) rfl (fun c_5 => ?_) (fun c_5 => ?_)
  · exact absurd c_5 (by decide)
  · skip
    refine v_aload_n (n := 9) C dX12_bestWind_8 rfl rfl rfl ?_
    refine v_iload_n (n := 10) C dX12_bestWind_9 rfl rfl rfl ?_
    refine v_go (n := 13) C (vRun_V (As := [.int y]) (rest := []) C wl_c27 rfl lk_X12_101 im_X12_isCell se_X12_isCell dX12_bestWind_10 (m_isCell l D b sc ar hn mh G y) wm_X12_isCell rfl rfl ⟨Nat.le_of_ble_eq_true rfl, Nat.le_of_ble_eq_true rfl⟩ ⟨Nat.le_of_ble_eq_true rfl, Nat.le_of_ble_eq_true rfl⟩ (Nat.le_of_ble_eq_true rfl)) rfl ?_
    rintro _ _ ⟨rfl, rfl⟩ -
    by_cases p_6 : y < 0
    · skip
      refine v_stk (st' := .int 0 :: []) (congrArg (fun z : Int32 => Value.int z :: []) (show micF (sc 21) y = 0 by simp only [micF, if_pos p_6])) ?_
      refine v_if_ne (t := 19) (n := 16) C dX12_bestWind_13 (by decide) rfl (fun c_7 => ?_) (fun c_7 => ?_)
      · exact absurd c_7 (by decide)
      · skip
        refine v_bipush (n := 18) (v := -101) C dX12_bestWind_16 rfl (by decide) ?_
        exact v_iret C dX12_bestWind_18 rfl rfl ⟨by first | rfl | (simp only [mbwF, if_neg p_1, if_pos (Int32.not_lt.mp p_1), if_neg p_3, if_pos (Int32.not_lt.mp p_3), hkc, if_neg c_5, if_pos p_6, if_neg (Int32.not_le.mpr p_6), if_pos c_7]; done) | (simp only [mbwF, eq_false p_1, eq_true (Int32.not_lt.mp p_1), eq_false p_3, eq_true (Int32.not_lt.mp p_3), hkc, eq_false c_5, eq_true p_6, eq_false (Int32.not_le.mpr p_6), eq_true c_7, ↓reduceIte]; done) | (simp only [mbwF, eq_false p_1, eq_true (Int32.not_lt.mp p_1), eq_false p_3, eq_true (Int32.not_lt.mp p_3), hkc, eq_false c_5, eq_true p_6, eq_false (Int32.not_le.mpr p_6), eq_true c_7, ↓reduceIte] <;> rfl) | (simp [mbwF, p_1, p_3, hkc, c_5, p_6, c_7]; done), sc, ar, PerM_rf, rfl⟩
    by_cases p_8 : 11 < y
    · skip
      refine v_stk (st' := .int 0 :: []) (congrArg (fun z : Int32 => Value.int z :: []) (show micF (sc 21) y = 0 by simp only [micF, if_neg p_6, if_pos p_8])) ?_
      refine v_if_ne (t := 19) (n := 16) C dX12_bestWind_13 (by decide) rfl (fun c_9 => ?_) (fun c_9 => ?_)
      · exact absurd c_9 (by decide)
      · skip
        refine v_bipush (n := 18) (v := -101) C dX12_bestWind_16 rfl (by decide) ?_
        exact v_iret C dX12_bestWind_18 rfl rfl ⟨by first | rfl | (simp only [mbwF, if_neg p_1, if_pos (Int32.not_lt.mp p_1), if_neg p_3, if_pos (Int32.not_lt.mp p_3), hkc, if_neg c_5, if_neg p_6, if_pos (Int32.not_lt.mp p_6), if_pos p_8, if_neg (Int32.not_le.mpr p_8), if_pos c_9]; done) | (simp only [mbwF, eq_false p_1, eq_true (Int32.not_lt.mp p_1), eq_false p_3, eq_true (Int32.not_lt.mp p_3), hkc, eq_false c_5, eq_false p_6, eq_true (Int32.not_lt.mp p_6), eq_true p_8, eq_false (Int32.not_le.mpr p_8), eq_true c_9, ↓reduceIte]; done) | (simp only [mbwF, eq_false p_1, eq_true (Int32.not_lt.mp p_1), eq_false p_3, eq_true (Int32.not_lt.mp p_3), hkc, eq_false c_5, eq_false p_6, eq_true (Int32.not_lt.mp p_6), eq_true p_8, eq_false (Int32.not_le.mpr p_8), eq_true c_9, ↓reduceIte] <;> rfl) | (simp [mbwF, p_1, p_3, hkc, c_5, p_6, p_8, c_9]; done), sc, ar, PerM_rf, rfl⟩
    by_cases p_10 : (sc 21) = 0
    · skip
      refine v_stk (st' := .int 0 :: []) (congrArg (fun z : Int32 => Value.int z :: []) (show micF (sc 21) y = 0 by simp only [micF, if_neg p_6, if_neg p_8, if_pos p_10])) ?_
      refine v_if_ne (t := 19) (n := 16) C dX12_bestWind_13 (by decide) rfl (fun c_11 => ?_) (fun c_11 => ?_)
      · exact absurd c_11 (by decide)
      · skip
        refine v_bipush (n := 18) (v := -101) C dX12_bestWind_16 rfl (by decide) ?_
        exact v_iret C dX12_bestWind_18 rfl rfl ⟨by first | rfl | (simp only [mbwF, if_neg p_1, if_pos (Int32.not_lt.mp p_1), if_neg p_3, if_pos (Int32.not_lt.mp p_3), hkc, if_neg c_5, if_neg p_6, if_pos (Int32.not_lt.mp p_6), if_neg p_8, if_pos (Int32.not_lt.mp p_8), if_pos p_10, if_pos c_11]; done) | (simp only [mbwF, eq_false p_1, eq_true (Int32.not_lt.mp p_1), eq_false p_3, eq_true (Int32.not_lt.mp p_3), hkc, eq_false c_5, eq_false p_6, eq_true (Int32.not_lt.mp p_6), eq_false p_8, eq_true (Int32.not_lt.mp p_8), eq_true p_10, eq_true c_11, ↓reduceIte]; done) | (simp only [mbwF, eq_false p_1, eq_true (Int32.not_lt.mp p_1), eq_false p_3, eq_true (Int32.not_lt.mp p_3), hkc, eq_false c_5, eq_false p_6, eq_true (Int32.not_lt.mp p_6), eq_false p_8, eq_true (Int32.not_lt.mp p_8), eq_true p_10, eq_true c_11, ↓reduceIte] <;> rfl) | (simp [mbwF, p_1, p_3, hkc, c_5, p_6, p_8, p_10, c_11]; done), sc, ar, PerM_rf, rfl⟩
    refine v_stk (st' := .int 1 :: []) (congrArg (fun z : Int32 => Value.int z :: []) (show micF (sc 21) y = 1 by simp only [micF, if_neg p_6, if_neg p_8, if_neg p_10])) ?_
    obtain ⟨cN, hcN, rfl⟩ := vp_nat (ic_vp p_6 p_8)
    have hcc : (nI cN).toNatClampNeg = cN := nI_clamp (by omega)
    refine v_if_ne (t := 19) (n := 16) C dX12_bestWind_13 (by decide) rfl (fun c_12 => ?_) (fun c_12 => ?_)
    · skip
      refine v_iconst (n := 20) (v := -1) C dX12_bestWind_19 rfl (by decide) ?_
      refine v_istore_n (n := 21) (lv' := [(3, .int (-1)), (0, .ref (b + 27)), (1, .int (nI kN)), (2, .int (nI cN))]) C dX12_bestWind_20 rfl rfl (Nat.le_of_ble_eq_true rfl) rfl ?_
      refine v_ldc (n := 23) C dX12_bestWind_21 rfl ki_X12_142 ?_
      refine v_istore (n := 25) (lv' := [(4, .int 100000), (3, .int (-1)), (0, .ref (b + 27)), (1, .int (nI kN)), (2, .int (nI cN))]) C dX12_bestWind_23 rfl (Nat.le_of_ble_eq_true rfl) rfl ?_
      refine v_iconst (n := 26) (v := 0) C dX12_bestWind_25 rfl (by decide) ?_
      refine v_istore (n := 28) (lv' := [(5, .int 0), (4, .int 100000), (3, .int (-1)), (0, .ref (b + 27)), (1, .int (nI kN)), (2, .int (nI cN))]) C dX12_bestWind_26 rfl (Nat.le_of_ble_eq_true rfl) rfl ?_
      refine v_pick (lv' := [(5, .int 0), (0, .ref (b + 27)), (1, .int (nI kN)), (2, .int (nI cN)), (3, .int (-1)), (4, .int 100000)]) [0, 3, 4, 5, 2, 1] rfl ?_
      have e_13 : (0 : Int32) = (nI 0) := rfl
      have e_14 : ((-1) : Int32) = (mbwN (fun w => (vyQ hi R w (kk kN) (dd kN) (FF kN) H).1 cN) 0).1 := by first | rfl | (simp only [mbwN, if_neg p_1, if_pos (Int32.not_lt.mp p_1), if_neg p_3, if_pos (Int32.not_lt.mp p_3), hkc, if_neg c_5, if_neg p_6, if_pos (Int32.not_lt.mp p_6), if_neg p_8, if_pos (Int32.not_lt.mp p_8), if_neg p_10, hcc, if_neg c_12]; done) | (simp only [mbwN, eq_false p_1, eq_true (Int32.not_lt.mp p_1), eq_false p_3, eq_true (Int32.not_lt.mp p_3), hkc, eq_false c_5, eq_false p_6, eq_true (Int32.not_lt.mp p_6), eq_false p_8, eq_true (Int32.not_lt.mp p_8), eq_false p_10, hcc, eq_false c_12, ↓reduceIte]; done) | (simp only [mbwN, eq_false p_1, eq_true (Int32.not_lt.mp p_1), eq_false p_3, eq_true (Int32.not_lt.mp p_3), hkc, eq_false c_5, eq_false p_6, eq_true (Int32.not_lt.mp p_6), eq_false p_8, eq_true (Int32.not_lt.mp p_8), eq_false p_10, hcc, eq_false c_12, ↓reduceIte] <;> rfl) | (simp [mbwN, p_1, p_3, hkc, c_5, p_6, p_8, p_10, hcc, c_12]; done)
      have e_15 : (100000 : Int32) = (mbwN (fun w => (vyQ hi R w (kk kN) (dd kN) (FF kN) H).1 cN) 0).2 := by first | rfl | (simp only [mbwN, if_neg p_1, if_pos (Int32.not_lt.mp p_1), if_neg p_3, if_pos (Int32.not_lt.mp p_3), hkc, if_neg c_5, if_neg p_6, if_pos (Int32.not_lt.mp p_6), if_neg p_8, if_pos (Int32.not_lt.mp p_8), if_neg p_10, hcc, if_neg c_12]; done) | (simp only [mbwN, eq_false p_1, eq_true (Int32.not_lt.mp p_1), eq_false p_3, eq_true (Int32.not_lt.mp p_3), hkc, eq_false c_5, eq_false p_6, eq_true (Int32.not_lt.mp p_6), eq_false p_8, eq_true (Int32.not_lt.mp p_8), eq_false p_10, hcc, eq_false c_12, ↓reduceIte]; done) | (simp only [mbwN, eq_false p_1, eq_true (Int32.not_lt.mp p_1), eq_false p_3, eq_true (Int32.not_lt.mp p_3), hkc, eq_false c_5, eq_false p_6, eq_true (Int32.not_lt.mp p_6), eq_false p_8, eq_true (Int32.not_lt.mp p_8), eq_false p_10, hcc, eq_false c_12, ↓reduceIte] <;> rfl) | (simp [mbwN, p_1, p_3, hkc, c_5, p_6, p_8, p_10, hcc, c_12]; done)
      refine v_cong (es' := (wl D b sc (va_up (va_up ar 31 (ar 31)) 32 (ar 32)) hn mh G)) (lv' := [(5, .int 0), (0, .ref (b + 27)), (1, .int (nI kN)), (2, .int (nI cN)), (3, .int (-1)), (4, .int 100000)]) rfl rfl ?_
      have e_16 : ((ar 31) : Nat → Int32) = (ar 31, ar 32).1 := by first | rfl | (simp only [mbwN, if_neg p_1, if_pos (Int32.not_lt.mp p_1), if_neg p_3, if_pos (Int32.not_lt.mp p_3), hkc, if_neg c_5, if_neg p_6, if_pos (Int32.not_lt.mp p_6), if_neg p_8, if_pos (Int32.not_lt.mp p_8), if_neg p_10, hcc, if_neg c_12]; done) | (simp only [mbwN, eq_false p_1, eq_true (Int32.not_lt.mp p_1), eq_false p_3, eq_true (Int32.not_lt.mp p_3), hkc, eq_false c_5, eq_false p_6, eq_true (Int32.not_lt.mp p_6), eq_false p_8, eq_true (Int32.not_lt.mp p_8), eq_false p_10, hcc, eq_false c_12, ↓reduceIte]; done) | (simp only [mbwN, eq_false p_1, eq_true (Int32.not_lt.mp p_1), eq_false p_3, eq_true (Int32.not_lt.mp p_3), hkc, eq_false c_5, eq_false p_6, eq_true (Int32.not_lt.mp p_6), eq_false p_8, eq_true (Int32.not_lt.mp p_8), eq_false p_10, hcc, eq_false c_12, ↓reduceIte] <;> rfl) | (simp [mbwN, p_1, p_3, hkc, c_5, p_6, p_8, p_10, hcc, c_12]; done)
      have e_17 : ((ar 32) : Nat → Int32) = (ar 31, ar 32).2 := by first | rfl | (simp only [mbwN, if_neg p_1, if_pos (Int32.not_lt.mp p_1), if_neg p_3, if_pos (Int32.not_lt.mp p_3), hkc, if_neg c_5, if_neg p_6, if_pos (Int32.not_lt.mp p_6), if_neg p_8, if_pos (Int32.not_lt.mp p_8), if_neg p_10, hcc, if_neg c_12]; done) | (simp only [mbwN, eq_false p_1, eq_true (Int32.not_lt.mp p_1), eq_false p_3, eq_true (Int32.not_lt.mp p_3), hkc, eq_false c_5, eq_false p_6, eq_true (Int32.not_lt.mp p_6), eq_false p_8, eq_true (Int32.not_lt.mp p_8), eq_false p_10, hcc, eq_false c_12, ↓reduceIte]; done) | (simp only [mbwN, eq_false p_1, eq_true (Int32.not_lt.mp p_1), eq_false p_3, eq_true (Int32.not_lt.mp p_3), hkc, eq_false c_5, eq_false p_6, eq_true (Int32.not_lt.mp p_6), eq_false p_8, eq_true (Int32.not_lt.mp p_8), eq_false p_10, hcc, eq_false c_12, ↓reduceIte] <;> rfl) | (simp [mbwN, p_1, p_3, hkc, c_5, p_6, p_8, p_10, hcc, c_12]; done)
      refine v_cong (es' := (wl D b sc (va_up (va_up ar 31 (ar 31, ar 32).1) 32 (ar 31, ar 32).2) hn mh G)) (lv' := [(5, .int (nI 0)), (0, .ref (b + 27)), (1, .int (nI kN)), (2, .int (nI cN)), (3, .int (mbwN (fun w => (vyQ hi R w (kk kN) (dd kN) (FF kN) H).1 cN) 0).1), (4, .int (mbwN (fun w => (vyQ hi R w (kk kN) (dd kN) (FF kN) H).1 cN) 0).2)]) (cg2 (fun (y0 : Nat → Int32) (y1 : Nat → Int32) => wl D b sc (va_up (va_up ar 31 y0) 32 y1) hn mh G) e_16 e_17) (cg3 (fun (z0 : Int32) (z1 : Int32) (z2 : Int32) => ([(5, .int z0), (0, .ref (b + 27)), (1, .int (nI kN)), (2, .int (nI cN)), (3, .int z1), (4, .int z2)] : List (Nat × Value))) e_13 e_14 e_15) ?_
      refine loop_dn (P := fun i_28 => ∀ (q : HF), V p l e { frames := 5, cells := 0, slots := 0, locals := 136 } s m args below meth c D b 8 (MQ below (cQ D b 0 (fun r es' => r = some (.int (mbwF sc hi kk dd FF R H (nI kN) (nI cN))) ∧ ∃ sc' ar', PerM sc ar sc' ar' ∧ wl D b sc' ar' hn mh G = es')) args s 0 0 (fun q => b ≤ q)) 0 0 (wl D b sc (va_up (va_up ar 31 q.1) 32 q.2) hn mh G) [(5, .int (nI i_28)), (0, .ref (b + 27)), (1, .int (nI kN)), (2, .int (nI cN)), (3, .int (mbwN (fun w => (vyQ hi R w (kk kN) (dd kN) (FF kN) H).1 cN) i_28).1), (4, .int (mbwN (fun w => (vyQ hi R w (kk kN) (dd kN) (FF kN) H).1 cN) i_28).2)] [] 28) 5 ?_ (fun i_28 hi_28 ih_28 => ?_) (ar 31, ar 32)
      · intro q
        have g_18 : (5 : Int32) ≤ (nI 5) := by decide
        refine v_iload (n := 30) C dX12_bestWind_28 rfl rfl ?_
        refine v_iconst (n := 31) (v := 5) C dX12_bestWind_30 rfl (by decide) ?_
        refine v_icmp_ge (t := 104) (n := 34) C dX12_bestWind_31 (by decide) rfl (fun c_19 => ?_) (fun c_19 => ?_)
        · skip
          refine v_iload_n (n := 105) C dX12_bestWind_104 rfl rfl rfl ?_
          exact v_iret C dX12_bestWind_105 rfl rfl ⟨by first | rfl | (simp only [mbwF, if_neg p_1, if_pos (Int32.not_lt.mp p_1), if_neg p_3, if_pos (Int32.not_lt.mp p_3), hkc, if_neg c_5, if_neg p_6, if_pos (Int32.not_lt.mp p_6), if_neg p_8, if_pos (Int32.not_lt.mp p_8), if_neg p_10, hcc, if_neg c_12, if_pos g_18, if_neg (Int32.not_lt.mpr g_18), if_pos c_19, if_neg (Int32.not_lt.mpr c_19)]; done) | (simp only [mbwF, eq_false p_1, eq_true (Int32.not_lt.mp p_1), eq_false p_3, eq_true (Int32.not_lt.mp p_3), hkc, eq_false c_5, eq_false p_6, eq_true (Int32.not_lt.mp p_6), eq_false p_8, eq_true (Int32.not_lt.mp p_8), eq_false p_10, hcc, eq_false c_12, eq_true g_18, eq_false (Int32.not_lt.mpr g_18), eq_true c_19, eq_false (Int32.not_lt.mpr c_19), ↓reduceIte]; done) | (simp only [mbwF, eq_false p_1, eq_true (Int32.not_lt.mp p_1), eq_false p_3, eq_true (Int32.not_lt.mp p_3), hkc, eq_false c_5, eq_false p_6, eq_true (Int32.not_lt.mp p_6), eq_false p_8, eq_true (Int32.not_lt.mp p_8), eq_false p_10, hcc, eq_false c_12, eq_true g_18, eq_false (Int32.not_lt.mpr g_18), eq_true c_19, eq_false (Int32.not_lt.mpr c_19), ↓reduceIte] <;> rfl) | (simp [mbwF, p_1, p_3, hkc, c_5, p_6, p_8, p_10, hcc, c_12, g_18, c_19]; done), sc, (va_up (va_up ar 31 q.1) 32 q.2), (PerM_a (by decide) (PerM_a (by decide) PerM_rf)), rfl⟩
        · first | exact absurd c_19 g_18 | exact absurd g_18 c_19 | exact absurd c_19 (Int32.not_le.mpr g_18) | exact absurd c_19 (Int32.not_lt.mpr g_18) | exact absurd (Int32.not_le.mp g_18) c_19 | exact absurd (Int32.not_lt.mp g_18) c_19 | exact absurd (Int32.not_le.mp g_18) (Int32.not_lt.mpr c_19) | exact absurd (Int32.not_lt.mp g_18) (Int32.not_le.mpr c_19) | exact absurd (Int32.not_lt.mp c_19) (Int32.not_le.mpr (Int32.not_le.mp g_18))
      · intro q
        have g_20 : ¬ (5 : Int32) ≤ (nI i_28) := nI_ge (a := i_28 + 0) (b := 5) (by omega) (by decide)
        refine v_iload (n := 30) C dX12_bestWind_28 rfl rfl ?_
        refine v_iconst (n := 31) (v := 5) C dX12_bestWind_30 rfl (by decide) ?_
        refine v_icmp_ge (t := 104) (n := 34) C dX12_bestWind_31 (by decide) rfl (fun c_21 => ?_) (fun c_21 => ?_)
        · first | exact absurd c_21 g_20 | exact absurd g_20 c_21 | exact absurd c_21 (Int32.not_le.mpr g_20) | exact absurd c_21 (Int32.not_lt.mpr g_20) | exact absurd (Int32.not_le.mp g_20) c_21 | exact absurd (Int32.not_lt.mp g_20) c_21 | exact absurd (Int32.not_le.mp g_20) (Int32.not_lt.mpr c_21) | exact absurd (Int32.not_lt.mp g_20) (Int32.not_le.mpr c_21) | exact absurd (Int32.not_lt.mp c_21) (Int32.not_le.mpr (Int32.not_le.mp g_20))
        · skip
          refine v_aload_n (n := 35) C dX12_bestWind_34 rfl rfl rfl ?_
          refine v_iload_n (n := 36) C dX12_bestWind_35 rfl rfl rfl ?_
          refine v_iload_n (n := 37) C dX12_bestWind_36 rfl rfl rfl ?_
          refine v_aload_n (n := 38) C dX12_bestWind_37 rfl rfl rfl ?_
          refine v_get (n := 41) C dX12_bestWind_38 rfl fl_X12_75_X12 wl_c27 rfl ?_
          refine v_iload (n := 43) C dX12_bestWind_41 rfl rfl ?_
          refine v_aload_n (n := 44) C dX12_bestWind_43 rfl rfl rfl ?_
          refine v_get (n := 47) C dX12_bestWind_44 rfl fl_X12_72_X12 wl_c27 rfl ?_
          refine v_stk (st' := [.int (nI R), .int (nI i_28), .int (nI H), .int (nI cN), .int (nI kN), .ref (b + 27)]) (by rw [h21, h22]) ?_
          refine v_go (n := 50) C (vRun_V (As := [.int (nI kN), .int (nI cN), .int (nI H), .int (nI i_28), .int (nI R)]) (rest := []) C wl_c27 rfl lk_X12_147 im_X12_hourBy se_X12_hourBy dX12_bestWind_47 (m_hourBy l D b sc (va_up (va_up ar 31 q.1) 32 q.2) hn mh G kN (show kN < 3 by omega) hi R i_28 (kk kN) (dd kN) (FF kN) H (hZ kN (by omega)) hR (by omega) (by omega) cN hcN) wm_X12_hourBy rfl rfl ⟨Nat.le_of_ble_eq_true rfl, Nat.le_of_ble_eq_true rfl⟩ ⟨Nat.le_of_ble_eq_true rfl, Nat.le_of_ble_eq_true rfl⟩ (Nat.le_of_ble_eq_true rfl)) rfl ?_
          rintro _ _ ⟨q22, hq22, rfl, rfl⟩ -
          refine v_cong (es' := (wl D b sc (va_up (va_up ar 31 q22.1) 32 q22.2) hn mh G)) (lv' := [(5, .int (nI i_28)), (0, .ref (b + 27)), (1, .int (nI kN)), (2, .int (nI cN)), (3, .int (mbwN (fun w => (vyQ hi R w (kk kN) (dd kN) (FF kN) H).1 cN) i_28).1), (4, .int (mbwN (fun w => (vyQ hi R w (kk kN) (dd kN) (FF kN) H).1 cN) i_28).2)]) rfl rfl ?_
          refine v_istore (n := 52) (lv' := [(6, .int ((vyQ hi R i_28 (kk kN) (dd kN) (FF kN) H).1 cN)), (5, .int (nI i_28)), (0, .ref (b + 27)), (1, .int (nI kN)), (2, .int (nI cN)), (3, .int (mbwN (fun w => (vyQ hi R w (kk kN) (dd kN) (FF kN) H).1 cN) i_28).1), (4, .int (mbwN (fun w => (vyQ hi R w (kk kN) (dd kN) (FF kN) H).1 cN) i_28).2)]) C dX12_bestWind_50 rfl (Nat.le_of_ble_eq_true rfl) rfl ?_
          refine v_iload (n := 54) C dX12_bestWind_52 rfl rfl ?_
          refine v_iconst (n := 55) (v := -1) C dX12_bestWind_54 rfl (by decide) ?_
          refine v_icmp_eq (t := 69) (n := 58) C dX12_bestWind_55 (by decide) rfl (fun c_23 => ?_) (fun c_23 => ?_)
          · skip
            refine v_iconst (n := 70) (v := 0) C dX12_bestWind_69 rfl (by decide) ?_
            refine v_istore (n := 72) (lv' := [(7, .int 0), (6, .int ((vyQ hi R i_28 (kk kN) (dd kN) (FF kN) H).1 cN)), (5, .int (nI i_28)), (0, .ref (b + 27)), (1, .int (nI kN)), (2, .int (nI cN)), (3, .int (mbwN (fun w => (vyQ hi R w (kk kN) (dd kN) (FF kN) H).1 cN) i_28).1), (4, .int (mbwN (fun w => (vyQ hi R w (kk kN) (dd kN) (FF kN) H).1 cN) i_28).2)]) C dX12_bestWind_70 rfl (Nat.le_of_ble_eq_true rfl) rfl ?_
            refine v_iload (n := 74) C dX12_bestWind_72 rfl rfl ?_
            refine v_if_eq (t := 82) (n := 77) C dX12_bestWind_74 (by decide) rfl (fun c_24 => ?_) (fun c_24 => ?_)
            · skip
              refine v_iload_n (n := 83) C dX12_bestWind_82 rfl rfl rfl ?_
              refine v_istore_n (n := 84) (lv' := [(3, .int (mbwN (fun w => (vyQ hi R w (kk kN) (dd kN) (FF kN) H).1 cN) i_28).1), (7, .int 0), (6, .int ((vyQ hi R i_28 (kk kN) (dd kN) (FF kN) H).1 cN)), (5, .int (nI i_28)), (0, .ref (b + 27)), (1, .int (nI kN)), (2, .int (nI cN)), (4, .int (mbwN (fun w => (vyQ hi R w (kk kN) (dd kN) (FF kN) H).1 cN) i_28).2)]) C dX12_bestWind_83 rfl rfl (Nat.le_of_ble_eq_true rfl) rfl ?_
              refine v_iload (n := 86) C dX12_bestWind_84 rfl rfl ?_
              refine v_if_eq (t := 94) (n := 89) C dX12_bestWind_86 (by decide) rfl (fun c_25 => ?_) (fun c_25 => ?_)
              · skip
                refine v_iload (n := 96) C dX12_bestWind_94 rfl rfl ?_
                refine v_istore (n := 98) (lv' := [(4, .int (mbwN (fun w => (vyQ hi R w (kk kN) (dd kN) (FF kN) H).1 cN) i_28).2), (3, .int (mbwN (fun w => (vyQ hi R w (kk kN) (dd kN) (FF kN) H).1 cN) i_28).1), (7, .int 0), (6, .int ((vyQ hi R i_28 (kk kN) (dd kN) (FF kN) H).1 cN)), (5, .int (nI i_28)), (0, .ref (b + 27)), (1, .int (nI kN)), (2, .int (nI cN))]) C dX12_bestWind_96 rfl (Nat.le_of_ble_eq_true rfl) rfl ?_
                refine v_iinc (n := 101) (v := ((nI i_28) + 1)) (lv' := [(5, .int ((nI i_28) + 1)), (4, .int (mbwN (fun w => (vyQ hi R w (kk kN) (dd kN) (FF kN) H).1 cN) i_28).2), (3, .int (mbwN (fun w => (vyQ hi R w (kk kN) (dd kN) (FF kN) H).1 cN) i_28).1), (7, .int 0), (6, .int ((vyQ hi R i_28 (kk kN) (dd kN) (FF kN) H).1 cN)), (0, .ref (b + 27)), (1, .int (nI kN)), (2, .int (nI cN))]) C dX12_bestWind_98 rfl rfl rfl (Nat.le_of_ble_eq_true rfl) rfl ?_
                refine v_goto (t := 28) C dX12_bestWind_101 (by decide) ?_
                refine v_pick (lv' := [(5, .int ((nI i_28) + 1)), (0, .ref (b + 27)), (1, .int (nI kN)), (2, .int (nI cN)), (3, .int (mbwN (fun w => (vyQ hi R w (kk kN) (dd kN) (FF kN) H).1 cN) i_28).1), (4, .int (mbwN (fun w => (vyQ hi R w (kk kN) (dd kN) (FF kN) H).1 cN) i_28).2)]) [0, 5, 6, 7, 2, 1] rfl ?_
                have e_26 : (((nI i_28) + 1) : Int32) = (nI (i_28 + 1)) := nI_1 _
                have e_27 : ((mbwN (fun w => (vyQ hi R w (kk kN) (dd kN) (FF kN) H).1 cN) i_28).1 : Int32) = (mbwN (fun w => (vyQ hi R w (kk kN) (dd kN) (FF kN) H).1 cN) (i_28 + 1)).1 := by first | rfl | (simp only [mbwN, if_neg p_1, if_pos (Int32.not_lt.mp p_1), if_neg p_3, if_pos (Int32.not_lt.mp p_3), hkc, if_neg c_5, if_neg p_6, if_pos (Int32.not_lt.mp p_6), if_neg p_8, if_pos (Int32.not_lt.mp p_8), if_neg p_10, hcc, if_neg c_12, if_neg g_20, if_pos (Int32.not_le.mp g_20), if_neg c_21, if_pos (Int32.not_le.mp c_21), if_pos c_23, if_pos c_24, if_pos c_25]; done) | (simp only [mbwN, eq_false p_1, eq_true (Int32.not_lt.mp p_1), eq_false p_3, eq_true (Int32.not_lt.mp p_3), hkc, eq_false c_5, eq_false p_6, eq_true (Int32.not_lt.mp p_6), eq_false p_8, eq_true (Int32.not_lt.mp p_8), eq_false p_10, hcc, eq_false c_12, eq_false g_20, eq_true (Int32.not_le.mp g_20), eq_false c_21, eq_true (Int32.not_le.mp c_21), eq_true c_23, eq_true c_24, eq_true c_25, ↓reduceIte]; done) | (simp only [mbwN, eq_false p_1, eq_true (Int32.not_lt.mp p_1), eq_false p_3, eq_true (Int32.not_lt.mp p_3), hkc, eq_false c_5, eq_false p_6, eq_true (Int32.not_lt.mp p_6), eq_false p_8, eq_true (Int32.not_lt.mp p_8), eq_false p_10, hcc, eq_false c_12, eq_false g_20, eq_true (Int32.not_le.mp g_20), eq_false c_21, eq_true (Int32.not_le.mp c_21), eq_true c_23, eq_true c_24, eq_true c_25, ↓reduceIte] <;> rfl) | (simp [mbwN, p_1, p_3, hkc, c_5, p_6, p_8, p_10, hcc, c_12, g_20, c_21, c_23, c_24, c_25]; done)
                have e_28 : ((mbwN (fun w => (vyQ hi R w (kk kN) (dd kN) (FF kN) H).1 cN) i_28).2 : Int32) = (mbwN (fun w => (vyQ hi R w (kk kN) (dd kN) (FF kN) H).1 cN) (i_28 + 1)).2 := by first | rfl | (simp only [mbwN, if_neg p_1, if_pos (Int32.not_lt.mp p_1), if_neg p_3, if_pos (Int32.not_lt.mp p_3), hkc, if_neg c_5, if_neg p_6, if_pos (Int32.not_lt.mp p_6), if_neg p_8, if_pos (Int32.not_lt.mp p_8), if_neg p_10, hcc, if_neg c_12, if_neg g_20, if_pos (Int32.not_le.mp g_20), if_neg c_21, if_pos (Int32.not_le.mp c_21), if_pos c_23, if_pos c_24, if_pos c_25]; done) | (simp only [mbwN, eq_false p_1, eq_true (Int32.not_lt.mp p_1), eq_false p_3, eq_true (Int32.not_lt.mp p_3), hkc, eq_false c_5, eq_false p_6, eq_true (Int32.not_lt.mp p_6), eq_false p_8, eq_true (Int32.not_lt.mp p_8), eq_false p_10, hcc, eq_false c_12, eq_false g_20, eq_true (Int32.not_le.mp g_20), eq_false c_21, eq_true (Int32.not_le.mp c_21), eq_true c_23, eq_true c_24, eq_true c_25, ↓reduceIte]; done) | (simp only [mbwN, eq_false p_1, eq_true (Int32.not_lt.mp p_1), eq_false p_3, eq_true (Int32.not_lt.mp p_3), hkc, eq_false c_5, eq_false p_6, eq_true (Int32.not_lt.mp p_6), eq_false p_8, eq_true (Int32.not_lt.mp p_8), eq_false p_10, hcc, eq_false c_12, eq_false g_20, eq_true (Int32.not_le.mp g_20), eq_false c_21, eq_true (Int32.not_le.mp c_21), eq_true c_23, eq_true c_24, eq_true c_25, ↓reduceIte] <;> rfl) | (simp [mbwN, p_1, p_3, hkc, c_5, p_6, p_8, p_10, hcc, c_12, g_20, c_21, c_23, c_24, c_25]; done)
                refine v_cong (es' := (wl D b sc (va_up (va_up ar 31 q22.1) 32 q22.2) hn mh G)) (lv' := [(5, .int (nI (i_28 + 1))), (0, .ref (b + 27)), (1, .int (nI kN)), (2, .int (nI cN)), (3, .int (mbwN (fun w => (vyQ hi R w (kk kN) (dd kN) (FF kN) H).1 cN) (i_28 + 1)).1), (4, .int (mbwN (fun w => (vyQ hi R w (kk kN) (dd kN) (FF kN) H).1 cN) (i_28 + 1)).2)]) rfl (cg3 (fun (z0 : Int32) (z1 : Int32) (z2 : Int32) => ([(5, .int z0), (0, .ref (b + 27)), (1, .int (nI kN)), (2, .int (nI cN)), (3, .int z1), (4, .int z2)] : List (Nat × Value))) e_26 e_27 e_28) ?_
                exact ih_28 q22
              · exact absurd c_25 (by decide)
            · exact absurd c_24 (by decide)
          · skip
            refine v_iload (n := 60) C dX12_bestWind_58 rfl rfl ?_
            refine v_iload (n := 62) C dX12_bestWind_60 rfl rfl ?_
            refine v_icmp_ge (t := 69) (n := 65) C dX12_bestWind_62 (by decide) rfl (fun c_29 => ?_) (fun c_29 => ?_)
            · skip
              refine v_iconst (n := 70) (v := 0) C dX12_bestWind_69 rfl (by decide) ?_
              refine v_istore (n := 72) (lv' := [(7, .int 0), (6, .int ((vyQ hi R i_28 (kk kN) (dd kN) (FF kN) H).1 cN)), (5, .int (nI i_28)), (0, .ref (b + 27)), (1, .int (nI kN)), (2, .int (nI cN)), (3, .int (mbwN (fun w => (vyQ hi R w (kk kN) (dd kN) (FF kN) H).1 cN) i_28).1), (4, .int (mbwN (fun w => (vyQ hi R w (kk kN) (dd kN) (FF kN) H).1 cN) i_28).2)]) C dX12_bestWind_70 rfl (Nat.le_of_ble_eq_true rfl) rfl ?_
              refine v_iload (n := 74) C dX12_bestWind_72 rfl rfl ?_
              refine v_if_eq (t := 82) (n := 77) C dX12_bestWind_74 (by decide) rfl (fun c_30 => ?_) (fun c_30 => ?_)
              · skip
                refine v_iload_n (n := 83) C dX12_bestWind_82 rfl rfl rfl ?_
                refine v_istore_n (n := 84) (lv' := [(3, .int (mbwN (fun w => (vyQ hi R w (kk kN) (dd kN) (FF kN) H).1 cN) i_28).1), (7, .int 0), (6, .int ((vyQ hi R i_28 (kk kN) (dd kN) (FF kN) H).1 cN)), (5, .int (nI i_28)), (0, .ref (b + 27)), (1, .int (nI kN)), (2, .int (nI cN)), (4, .int (mbwN (fun w => (vyQ hi R w (kk kN) (dd kN) (FF kN) H).1 cN) i_28).2)]) C dX12_bestWind_83 rfl rfl (Nat.le_of_ble_eq_true rfl) rfl ?_
                refine v_iload (n := 86) C dX12_bestWind_84 rfl rfl ?_
                refine v_if_eq (t := 94) (n := 89) C dX12_bestWind_86 (by decide) rfl (fun c_31 => ?_) (fun c_31 => ?_)
                · skip
                  refine v_iload (n := 96) C dX12_bestWind_94 rfl rfl ?_
                  refine v_istore (n := 98) (lv' := [(4, .int (mbwN (fun w => (vyQ hi R w (kk kN) (dd kN) (FF kN) H).1 cN) i_28).2), (3, .int (mbwN (fun w => (vyQ hi R w (kk kN) (dd kN) (FF kN) H).1 cN) i_28).1), (7, .int 0), (6, .int ((vyQ hi R i_28 (kk kN) (dd kN) (FF kN) H).1 cN)), (5, .int (nI i_28)), (0, .ref (b + 27)), (1, .int (nI kN)), (2, .int (nI cN))]) C dX12_bestWind_96 rfl (Nat.le_of_ble_eq_true rfl) rfl ?_
                  refine v_iinc (n := 101) (v := ((nI i_28) + 1)) (lv' := [(5, .int ((nI i_28) + 1)), (4, .int (mbwN (fun w => (vyQ hi R w (kk kN) (dd kN) (FF kN) H).1 cN) i_28).2), (3, .int (mbwN (fun w => (vyQ hi R w (kk kN) (dd kN) (FF kN) H).1 cN) i_28).1), (7, .int 0), (6, .int ((vyQ hi R i_28 (kk kN) (dd kN) (FF kN) H).1 cN)), (0, .ref (b + 27)), (1, .int (nI kN)), (2, .int (nI cN))]) C dX12_bestWind_98 rfl rfl rfl (Nat.le_of_ble_eq_true rfl) rfl ?_
                  refine v_goto (t := 28) C dX12_bestWind_101 (by decide) ?_
                  refine v_pick (lv' := [(5, .int ((nI i_28) + 1)), (0, .ref (b + 27)), (1, .int (nI kN)), (2, .int (nI cN)), (3, .int (mbwN (fun w => (vyQ hi R w (kk kN) (dd kN) (FF kN) H).1 cN) i_28).1), (4, .int (mbwN (fun w => (vyQ hi R w (kk kN) (dd kN) (FF kN) H).1 cN) i_28).2)]) [0, 5, 6, 7, 2, 1] rfl ?_
                  have e_32 : (((nI i_28) + 1) : Int32) = (nI (i_28 + 1)) := nI_1 _
                  have e_33 : ((mbwN (fun w => (vyQ hi R w (kk kN) (dd kN) (FF kN) H).1 cN) i_28).1 : Int32) = (mbwN (fun w => (vyQ hi R w (kk kN) (dd kN) (FF kN) H).1 cN) (i_28 + 1)).1 := by first | rfl | (simp only [mbwN, if_neg p_1, if_pos (Int32.not_lt.mp p_1), if_neg p_3, if_pos (Int32.not_lt.mp p_3), hkc, if_neg c_5, if_neg p_6, if_pos (Int32.not_lt.mp p_6), if_neg p_8, if_pos (Int32.not_lt.mp p_8), if_neg p_10, hcc, if_neg c_12, if_neg g_20, if_pos (Int32.not_le.mp g_20), if_neg c_21, if_pos (Int32.not_le.mp c_21), if_neg c_23, if_pos c_29, if_neg (Int32.not_lt.mpr c_29), if_pos c_30, if_pos c_31]; done) | (simp only [mbwN, eq_false p_1, eq_true (Int32.not_lt.mp p_1), eq_false p_3, eq_true (Int32.not_lt.mp p_3), hkc, eq_false c_5, eq_false p_6, eq_true (Int32.not_lt.mp p_6), eq_false p_8, eq_true (Int32.not_lt.mp p_8), eq_false p_10, hcc, eq_false c_12, eq_false g_20, eq_true (Int32.not_le.mp g_20), eq_false c_21, eq_true (Int32.not_le.mp c_21), eq_false c_23, eq_true c_29, eq_false (Int32.not_lt.mpr c_29), eq_true c_30, eq_true c_31, ↓reduceIte]; done) | (simp only [mbwN, eq_false p_1, eq_true (Int32.not_lt.mp p_1), eq_false p_3, eq_true (Int32.not_lt.mp p_3), hkc, eq_false c_5, eq_false p_6, eq_true (Int32.not_lt.mp p_6), eq_false p_8, eq_true (Int32.not_lt.mp p_8), eq_false p_10, hcc, eq_false c_12, eq_false g_20, eq_true (Int32.not_le.mp g_20), eq_false c_21, eq_true (Int32.not_le.mp c_21), eq_false c_23, eq_true c_29, eq_false (Int32.not_lt.mpr c_29), eq_true c_30, eq_true c_31, ↓reduceIte] <;> rfl) | (simp [mbwN, p_1, p_3, hkc, c_5, p_6, p_8, p_10, hcc, c_12, g_20, c_21, c_23, c_29, c_30, c_31]; done)
                  have e_34 : ((mbwN (fun w => (vyQ hi R w (kk kN) (dd kN) (FF kN) H).1 cN) i_28).2 : Int32) = (mbwN (fun w => (vyQ hi R w (kk kN) (dd kN) (FF kN) H).1 cN) (i_28 + 1)).2 := by first | rfl | (simp only [mbwN, if_neg p_1, if_pos (Int32.not_lt.mp p_1), if_neg p_3, if_pos (Int32.not_lt.mp p_3), hkc, if_neg c_5, if_neg p_6, if_pos (Int32.not_lt.mp p_6), if_neg p_8, if_pos (Int32.not_lt.mp p_8), if_neg p_10, hcc, if_neg c_12, if_neg g_20, if_pos (Int32.not_le.mp g_20), if_neg c_21, if_pos (Int32.not_le.mp c_21), if_neg c_23, if_pos c_29, if_neg (Int32.not_lt.mpr c_29), if_pos c_30, if_pos c_31]; done) | (simp only [mbwN, eq_false p_1, eq_true (Int32.not_lt.mp p_1), eq_false p_3, eq_true (Int32.not_lt.mp p_3), hkc, eq_false c_5, eq_false p_6, eq_true (Int32.not_lt.mp p_6), eq_false p_8, eq_true (Int32.not_lt.mp p_8), eq_false p_10, hcc, eq_false c_12, eq_false g_20, eq_true (Int32.not_le.mp g_20), eq_false c_21, eq_true (Int32.not_le.mp c_21), eq_false c_23, eq_true c_29, eq_false (Int32.not_lt.mpr c_29), eq_true c_30, eq_true c_31, ↓reduceIte]; done) | (simp only [mbwN, eq_false p_1, eq_true (Int32.not_lt.mp p_1), eq_false p_3, eq_true (Int32.not_lt.mp p_3), hkc, eq_false c_5, eq_false p_6, eq_true (Int32.not_lt.mp p_6), eq_false p_8, eq_true (Int32.not_lt.mp p_8), eq_false p_10, hcc, eq_false c_12, eq_false g_20, eq_true (Int32.not_le.mp g_20), eq_false c_21, eq_true (Int32.not_le.mp c_21), eq_false c_23, eq_true c_29, eq_false (Int32.not_lt.mpr c_29), eq_true c_30, eq_true c_31, ↓reduceIte] <;> rfl) | (simp [mbwN, p_1, p_3, hkc, c_5, p_6, p_8, p_10, hcc, c_12, g_20, c_21, c_23, c_29, c_30, c_31]; done)
                  refine v_cong (es' := (wl D b sc (va_up (va_up ar 31 q22.1) 32 q22.2) hn mh G)) (lv' := [(5, .int (nI (i_28 + 1))), (0, .ref (b + 27)), (1, .int (nI kN)), (2, .int (nI cN)), (3, .int (mbwN (fun w => (vyQ hi R w (kk kN) (dd kN) (FF kN) H).1 cN) (i_28 + 1)).1), (4, .int (mbwN (fun w => (vyQ hi R w (kk kN) (dd kN) (FF kN) H).1 cN) (i_28 + 1)).2)]) rfl (cg3 (fun (z0 : Int32) (z1 : Int32) (z2 : Int32) => ([(5, .int z0), (0, .ref (b + 27)), (1, .int (nI kN)), (2, .int (nI cN)), (3, .int z1), (4, .int z2)] : List (Nat × Value))) e_32 e_33 e_34) ?_
                  exact ih_28 q22
                · exact absurd c_31 (by decide)
              · exact absurd c_30 (by decide)
            · skip
              refine v_iconst (n := 66) (v := 1) C dX12_bestWind_65 rfl (by decide) ?_
              refine v_goto (t := 70) C dX12_bestWind_66 (by decide) ?_
              refine v_istore (n := 72) (lv' := [(7, .int 1), (6, .int ((vyQ hi R i_28 (kk kN) (dd kN) (FF kN) H).1 cN)), (5, .int (nI i_28)), (0, .ref (b + 27)), (1, .int (nI kN)), (2, .int (nI cN)), (3, .int (mbwN (fun w => (vyQ hi R w (kk kN) (dd kN) (FF kN) H).1 cN) i_28).1), (4, .int (mbwN (fun w => (vyQ hi R w (kk kN) (dd kN) (FF kN) H).1 cN) i_28).2)]) C dX12_bestWind_70 rfl (Nat.le_of_ble_eq_true rfl) rfl ?_
              refine v_iload (n := 74) C dX12_bestWind_72 rfl rfl ?_
              refine v_if_eq (t := 82) (n := 77) C dX12_bestWind_74 (by decide) rfl (fun c_35 => ?_) (fun c_35 => ?_)
              · exact absurd c_35 (by decide)
              · skip
                refine v_iload (n := 79) C dX12_bestWind_77 rfl rfl ?_
                refine v_goto (t := 83) C dX12_bestWind_79 (by decide) ?_
                refine v_istore_n (n := 84) (lv' := [(3, .int (nI i_28)), (7, .int 1), (6, .int ((vyQ hi R i_28 (kk kN) (dd kN) (FF kN) H).1 cN)), (5, .int (nI i_28)), (0, .ref (b + 27)), (1, .int (nI kN)), (2, .int (nI cN)), (4, .int (mbwN (fun w => (vyQ hi R w (kk kN) (dd kN) (FF kN) H).1 cN) i_28).2)]) C dX12_bestWind_83 rfl rfl (Nat.le_of_ble_eq_true rfl) rfl ?_
                refine v_iload (n := 86) C dX12_bestWind_84 rfl rfl ?_
                refine v_if_eq (t := 94) (n := 89) C dX12_bestWind_86 (by decide) rfl (fun c_36 => ?_) (fun c_36 => ?_)
                · exact absurd c_36 (by decide)
                · skip
                  refine v_iload (n := 91) C dX12_bestWind_89 rfl rfl ?_
                  refine v_goto (t := 96) C dX12_bestWind_91 (by decide) ?_
                  refine v_istore (n := 98) (lv' := [(4, .int ((vyQ hi R i_28 (kk kN) (dd kN) (FF kN) H).1 cN)), (3, .int (nI i_28)), (7, .int 1), (6, .int ((vyQ hi R i_28 (kk kN) (dd kN) (FF kN) H).1 cN)), (5, .int (nI i_28)), (0, .ref (b + 27)), (1, .int (nI kN)), (2, .int (nI cN))]) C dX12_bestWind_96 rfl (Nat.le_of_ble_eq_true rfl) rfl ?_
                  refine v_iinc (n := 101) (v := ((nI i_28) + 1)) (lv' := [(5, .int ((nI i_28) + 1)), (4, .int ((vyQ hi R i_28 (kk kN) (dd kN) (FF kN) H).1 cN)), (3, .int (nI i_28)), (7, .int 1), (6, .int ((vyQ hi R i_28 (kk kN) (dd kN) (FF kN) H).1 cN)), (0, .ref (b + 27)), (1, .int (nI kN)), (2, .int (nI cN))]) C dX12_bestWind_98 rfl rfl rfl (Nat.le_of_ble_eq_true rfl) rfl ?_
                  refine v_goto (t := 28) C dX12_bestWind_101 (by decide) ?_
                  refine v_pick (lv' := [(5, .int ((nI i_28) + 1)), (0, .ref (b + 27)), (1, .int (nI kN)), (2, .int (nI cN)), (3, .int (nI i_28)), (4, .int ((vyQ hi R i_28 (kk kN) (dd kN) (FF kN) H).1 cN))]) [0, 5, 6, 7, 2, 1] rfl ?_
                  have e_37 : (((nI i_28) + 1) : Int32) = (nI (i_28 + 1)) := nI_1 _
                  have e_38 : ((nI i_28) : Int32) = (mbwN (fun w => (vyQ hi R w (kk kN) (dd kN) (FF kN) H).1 cN) (i_28 + 1)).1 := by first | rfl | (simp only [mbwN, if_neg p_1, if_pos (Int32.not_lt.mp p_1), if_neg p_3, if_pos (Int32.not_lt.mp p_3), hkc, if_neg c_5, if_neg p_6, if_pos (Int32.not_lt.mp p_6), if_neg p_8, if_pos (Int32.not_lt.mp p_8), if_neg p_10, hcc, if_neg c_12, if_neg g_20, if_pos (Int32.not_le.mp g_20), if_neg c_21, if_pos (Int32.not_le.mp c_21), if_neg c_23, if_neg c_29, if_pos (Int32.not_le.mp c_29), if_neg c_35, if_neg c_36]; done) | (simp only [mbwN, eq_false p_1, eq_true (Int32.not_lt.mp p_1), eq_false p_3, eq_true (Int32.not_lt.mp p_3), hkc, eq_false c_5, eq_false p_6, eq_true (Int32.not_lt.mp p_6), eq_false p_8, eq_true (Int32.not_lt.mp p_8), eq_false p_10, hcc, eq_false c_12, eq_false g_20, eq_true (Int32.not_le.mp g_20), eq_false c_21, eq_true (Int32.not_le.mp c_21), eq_false c_23, eq_false c_29, eq_true (Int32.not_le.mp c_29), eq_false c_35, eq_false c_36, ↓reduceIte]; done) | (simp only [mbwN, eq_false p_1, eq_true (Int32.not_lt.mp p_1), eq_false p_3, eq_true (Int32.not_lt.mp p_3), hkc, eq_false c_5, eq_false p_6, eq_true (Int32.not_lt.mp p_6), eq_false p_8, eq_true (Int32.not_lt.mp p_8), eq_false p_10, hcc, eq_false c_12, eq_false g_20, eq_true (Int32.not_le.mp g_20), eq_false c_21, eq_true (Int32.not_le.mp c_21), eq_false c_23, eq_false c_29, eq_true (Int32.not_le.mp c_29), eq_false c_35, eq_false c_36, ↓reduceIte] <;> rfl) | (simp [mbwN, p_1, p_3, hkc, c_5, p_6, p_8, p_10, hcc, c_12, g_20, c_21, c_23, c_29, c_35, c_36]; done)
                  have e_39 : (((vyQ hi R i_28 (kk kN) (dd kN) (FF kN) H).1 cN) : Int32) = (mbwN (fun w => (vyQ hi R w (kk kN) (dd kN) (FF kN) H).1 cN) (i_28 + 1)).2 := by first | rfl | (simp only [mbwN, if_neg p_1, if_pos (Int32.not_lt.mp p_1), if_neg p_3, if_pos (Int32.not_lt.mp p_3), hkc, if_neg c_5, if_neg p_6, if_pos (Int32.not_lt.mp p_6), if_neg p_8, if_pos (Int32.not_lt.mp p_8), if_neg p_10, hcc, if_neg c_12, if_neg g_20, if_pos (Int32.not_le.mp g_20), if_neg c_21, if_pos (Int32.not_le.mp c_21), if_neg c_23, if_neg c_29, if_pos (Int32.not_le.mp c_29), if_neg c_35, if_neg c_36]; done) | (simp only [mbwN, eq_false p_1, eq_true (Int32.not_lt.mp p_1), eq_false p_3, eq_true (Int32.not_lt.mp p_3), hkc, eq_false c_5, eq_false p_6, eq_true (Int32.not_lt.mp p_6), eq_false p_8, eq_true (Int32.not_lt.mp p_8), eq_false p_10, hcc, eq_false c_12, eq_false g_20, eq_true (Int32.not_le.mp g_20), eq_false c_21, eq_true (Int32.not_le.mp c_21), eq_false c_23, eq_false c_29, eq_true (Int32.not_le.mp c_29), eq_false c_35, eq_false c_36, ↓reduceIte]; done) | (simp only [mbwN, eq_false p_1, eq_true (Int32.not_lt.mp p_1), eq_false p_3, eq_true (Int32.not_lt.mp p_3), hkc, eq_false c_5, eq_false p_6, eq_true (Int32.not_lt.mp p_6), eq_false p_8, eq_true (Int32.not_lt.mp p_8), eq_false p_10, hcc, eq_false c_12, eq_false g_20, eq_true (Int32.not_le.mp g_20), eq_false c_21, eq_true (Int32.not_le.mp c_21), eq_false c_23, eq_false c_29, eq_true (Int32.not_le.mp c_29), eq_false c_35, eq_false c_36, ↓reduceIte] <;> rfl) | (simp [mbwN, p_1, p_3, hkc, c_5, p_6, p_8, p_10, hcc, c_12, g_20, c_21, c_23, c_29, c_35, c_36]; done)
                  refine v_cong (es' := (wl D b sc (va_up (va_up ar 31 q22.1) 32 q22.2) hn mh G)) (lv' := [(5, .int (nI (i_28 + 1))), (0, .ref (b + 27)), (1, .int (nI kN)), (2, .int (nI cN)), (3, .int (mbwN (fun w => (vyQ hi R w (kk kN) (dd kN) (FF kN) H).1 cN) (i_28 + 1)).1), (4, .int (mbwN (fun w => (vyQ hi R w (kk kN) (dd kN) (FF kN) H).1 cN) (i_28 + 1)).2)]) rfl (cg3 (fun (z0 : Int32) (z1 : Int32) (z2 : Int32) => ([(5, .int z0), (0, .ref (b + 27)), (1, .int (nI kN)), (2, .int (nI cN)), (3, .int z1), (4, .int z2)] : List (Nat × Value))) e_37 e_38 e_39) ?_
                  exact ih_28 q22
    · exact absurd c_12 (by decide)
