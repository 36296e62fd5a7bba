/-- Junes: how often not, the seed, the hour, the rows -/
def jrS (f : Nat → Int32) (rp : Int32) (k : Nat) (p : Int32 × Int32 × Int32 × (Nat → Int32)) : Int32 × Int32 × Int32 × (Nat → Int32) :=
  if mhtF f p.2.2.2 k (p.2.2.2 (4 * k + 2)) p.2.2.1 (mdrV (drS p.2.1) 4) (mdrV p.2.1 5) rp = -1 then (p.1 + 1, drS (drS p.2.1), p.2.2.1, p.2.2.2) else
    (p.1, drS (drS p.2.1), p.2.2.1 + mhtF f p.2.2.2 k (p.2.2.2 (4 * k + 2)) p.2.2.1 (mdrV (drS p.2.1) 4) (mdrV p.2.1 5) rp, upd p.2.2.2 (4 * k + 2) (mbeF (p.2.2.2 (4 * k + 2)) (mdrV (drS p.2.1) 4)))
def jrN (f : Nat → Int32) (rp : Int32) (Hn : Nat) (q : Int32 × Int32 × Int32 × (Nat → Int32)) : Nat → Int32 × Int32 × Int32 × (Nat → Int32)
  | 0 => q
  | i + 1 => jrS f rp (i % Hn) (jrN f rp Hn q i)
theorem jr_vp {f : Nat → Int32} {rp : Int32} {Hn : Nat} {n s h : Int32} {r : Nat → Int32} (hr : ∀ k, k < Hn → vp_in (r (4 * k + 2)) 12) : ∀ i k, k < Hn → vp_in ((jrN f rp Hn (n, s, h, r) i).2.2.2 (4 * k + 2)) 12 := by
  intro i
  induction i with
  | zero => exact hr
  | succ i ih =>
    intro k hk
    rw [jrN, jrS]
    split
    · exact ih k hk
    · rename_i c
      show vp_in (upd _ _ _ _) 12
      by_cases e : k = i % Hn
      · rw [← e] at c ⊢
        rw [upd_at]
        exact mbe_vp (ih k hk) (mht_ne c)
      · rw [upd_ne (by omega)]; exact ih k hk
def mjuF (sc : Nat → Int32) (ar : Nat → Nat → Int32) (Hn : Nat) (t s w : Int32) : Int32 → Prop := fun v => if t < 1 then v = -102 else if 20 < t then v = -102 else if s < 0 then v = -102 else if w < 0 then v = -102 else if 3 < w then v = -102 else if sc 21 = 0 then v = -103 else
  if w = 0 then v = (jrN (ar 29) (sc 21) Hn (0, s, sc 22, ar 30) (t.toNatClampNeg * Hn)).1 else if w = 1 then v = mstN (va_up sc 22 (jrN (ar 29) (sc 21) Hn (0, s, sc 22, ar 30) (t.toNatClampNeg * Hn)).2.2.1) (va_up ar 30 (jrN (ar 29) (sc 21) Hn (0, s, sc 22, ar 30) (t.toNatClampNeg * Hn)).2.2.2) Hn else
  if w = 2 then v = (jrN (ar 29) (sc 21) Hn (0, s, sc 22, ar 30) (t.toNatClampNeg * Hn)).2.2.1 else v = (jrN (ar 29) (sc 21) Hn (0, s, sc 22, ar 30) (t.toNatClampNeg * Hn)).2.1
/-- as PerM; the rows in their places -/
def PerJ (sc : Nat → Int32) (ar : Nat → Nat → Int32) (sc' : Nat → Int32) (ar' : Nat → Nat → Int32) : Prop := (∀ i, i ∉ scrM → sc' i = sc i) ∧ (∀ k, k ∉ scrN → ¬ k = 30 → ar' k = ar k) ∧ ∀ j, j < 12 → ar' 30 j = ar 30 j
theorem PerJ_of {sc sc' : Nat → Int32} {ar ar' : Nat → Nat → Int32} (h : PerM sc ar sc' ar') : PerJ sc ar sc' ar' := ⟨h.1, fun k hk _ => h.2 k hk, fun j _ => by rw [h.2 30 (by decide)]⟩
theorem ju_T {t : Int32} (h1 : ¬ t < 1) (h2 : ¬ 20 < t) : ∃ T, T ≤ 20 ∧ t = nI T := by
  rw [Int32.lt_iff_toInt_lt] at h1 h2
  have e0 : (1 : Int32).toInt = 1 := rfl
  have e1 : (20 : Int32).toInt = 20 := rfl
  have h3 : ¬ t < 0 := by
    rw [Int32.lt_iff_toInt_lt]
    have e2 : (0 : Int32).toInt = 0 := rfl
    omega
  obtain ⟨n, hn, e⟩ := nI_of h3
  subst e
  rw [nI_toInt hn] at h1 h2
  exact ⟨n, by omega, rfl⟩
theorem PerJ_ju {sc : Nat → Int32} {ar : Nat → Nat → Int32} {h s : Int32} {r : Nat → Int32} : PerJ sc ar (va_up (va_up sc 29 s) 22 (sc 22)) (va_up (va_up ar 37 (copN (ar 30) (ar 37) 12)) 30 (copN (copN (ar 30) (ar 37) 12) r 12)) := by
  refine ⟨fun i hi => ?_, fun k hk hk2 => ?_, fun j hj => ?_⟩
  · have h1 : ¬ i = 29 := fun q => hi (by rw [q]; decide)
    by_cases h2 : i = 22
    · subst h2; rfl
    · show va_up (va_up sc 29 s) 22 (sc 22) i = sc i
      rw [va_up, if_neg h2, va_up, if_neg h1]
  · have h1 : ¬ k = 37 := fun q => hk (by rw [q]; decide)
    show va_up (va_up ar 37 _) 30 _ k = ar k
    rw [va_up, if_neg hk2, va_up, if_neg h1]
  · show copN (copN (ar 30) (ar 37) 12) r 12 j = ar 30 j
    rw [cop_at 12 j hj, cop_at 12 j hj]
theorem mst_sc {sc sc' : Nat → Int32} {ar ar' : Nat → Nat → Int32} {n : Nat} (h1 : ar' 29 = ar 29) (h2 : ar' 30 = ar 30) (h3 : sc' 22 = sc 22) (h4 : sc' 21 = sc 21) : mstN sc' ar' n = mstN sc ar n := by
  rw [mst_cg h1 h2]
  induction n with
  | zero => rfl
  | succ n ih => rw [mstN, mstN, ih]; unfold mstF; rw [h3, h4]
set_option maxHeartbeats 4000000 in
set_option maxRecDepth 100000 in
theorem m_junes (l : Launch) (D : va_G) (b : Nat) (sc : Nat → Int32) (ar : Nat → Nat → Int32) (hn : Nat → Option Nat) (mh : Int64) (G : List va_E) (x y w : Int32) (Hn : Nat) (hH : sc 25 = nI Hn) (hH3 : Hn ≤ 3) (hrc : ∀ k, k < Hn → vp_in (ar 30 (4 * k + 2)) 12) : Con l yX12_junes cX12_junes 11 (some .int) 4 92 D b 0 0 (wl D b sc ar hn mh G) [.ref (b + 27), .int x, .int y, .int w] (fun r es' => ∃ v, r = some (.int v) ∧ mjuF sc ar Hn x y w v ∧ ∃ sc' ar', PerJ sc ar sc' ar' ∧ wl D b sc' ar' hn mh G = es') := by
  refine con_of (by decide) (Nat.le_of_ble_eq_true rfl) (fun p e s m args below meth c C hsz => ?_)
  have C : vC p s m args meth c cX12_junes 11 RX12 "junes" (some .int) D b := C
  change V p l e _ s m args below meth c D b 11 _ 0 0 (wl D b sc ar hn mh G) [(0, .ref (b + 27)), (1, .int x), (2, .int y), (3, .int w)] [] 0
  refine v_iload_n (n := 1) C dX12_junes_0 rfl rfl rfl ?_
  refine v_i2l (n := 2) C dX12_junes_1 rfl ?_
  refine v_lconst (n := 3) (v := 1) C dX12_junes_2 rfl (by decide) ?_
  refine v_ldc2 (n := 6) C dX12_junes_3 rfl kl_X12_195 ?_
  refine v_stk (st' := [.long (Int32.toInt64 20), .long (Int32.toInt64 1), .long (Int32.toInt64 x)]) rfl ?_
  refine v_go (n := 9) C (vRun_S (As := [.long (Int32.toInt64 x), .long (Int32.toInt64 1), .long (Int32.toInt64 20)]) (rest := []) C lk_X12_55 st_X12_in dX12_junes_6 (c_in l D b (wl D b sc ar hn mh G) x 1 20) wm_X12_in rfl rfl ⟨Nat.le_of_ble_eq_true rfl, Nat.le_of_ble_eq_true rfl⟩ ⟨Nat.le_of_ble_eq_true rfl, Nat.le_of_ble_eq_true rfl⟩ (Nat.le_of_ble_eq_true rfl)) rfl ?_
  rintro _ _ ⟨rfl, rfl⟩ -
  by_cases p_1 : x < 1
  · skip
    refine v_stk (st' := .int 0 :: []) (congrArg (fun z : Int32 => Value.int z :: []) (show niF x 1 20 = 0 by simp only [niF, if_pos p_1])) ?_
    refine v_if_eq (t := 28) (n := 12) C dX12_junes_9 (by decide) rfl (fun c_2 => ?_) (fun c_2 => ?_)
    · skip
      refine v_bipush (n := 30) (v := -102) C dX12_junes_28 rfl (by decide) ?_
      exact v_iret C dX12_junes_30 rfl rfl ⟨_, rfl, by simp only [mjuF, eq_true p_1, eq_false (Int32.not_le.mpr p_1), eq_true c_2, ↓reduceIte], sc, ar, PerJ_of PerM_rf, rfl⟩
    · exact absurd c_2 (by decide)
  by_cases p_3 : 20 < x
  · skip
    refine v_stk (st' := .int 0 :: []) (congrArg (fun z : Int32 => Value.int z :: []) (show niF x 1 20 = 0 by simp only [niF, if_neg p_1, if_pos p_3])) ?_
    refine v_if_eq (t := 28) (n := 12) C dX12_junes_9 (by decide) rfl (fun c_4 => ?_) (fun c_4 => ?_)
    · skip
      refine v_bipush (n := 30) (v := -102) C dX12_junes_28 rfl (by decide) ?_
      exact v_iret C dX12_junes_30 rfl rfl ⟨_, rfl, by simp only [mjuF, eq_false p_1, eq_true (Int32.not_lt.mp p_1), eq_true p_3, eq_false (Int32.not_le.mpr p_3), eq_true c_4, ↓reduceIte], sc, ar, PerJ_of PerM_rf, rfl⟩
    · exact absurd c_4 (by decide)
  refine v_stk (st' := .int 1 :: []) (congrArg (fun z : Int32 => Value.int z :: []) (show niF x 1 20 = 1 by simp only [niF, if_neg p_1, if_neg p_3])) ?_
  refine v_if_eq (t := 28) (n := 12) C dX12_junes_9 (by decide) rfl (fun c_5 => ?_) (fun c_5 => ?_)
  · exact absurd c_5 (by decide)
  · skip
    refine v_iload_n (n := 13) C dX12_junes_12 rfl rfl rfl ?_
    refine v_if_lt (t := 28) (n := 16) C dX12_junes_13 (by decide) rfl (fun c_6 => ?_) (fun c_6 => ?_)
    · skip
      refine v_bipush (n := 30) (v := -102) C dX12_junes_28 rfl (by decide) ?_
      exact v_iret C dX12_junes_30 rfl rfl ⟨_, rfl, by simp only [mjuF, eq_false p_1, eq_true (Int32.not_lt.mp p_1), eq_false p_3, eq_true (Int32.not_lt.mp p_3), eq_false c_5, eq_true c_6, eq_false (Int32.not_le.mpr c_6), ↓reduceIte], sc, ar, PerJ_of PerM_rf, rfl⟩
    · skip
      refine v_iload_n (n := 17) C dX12_junes_16 rfl rfl rfl ?_
      refine v_i2l (n := 18) C dX12_junes_17 rfl ?_
      refine v_lconst (n := 19) (v := 0) C dX12_junes_18 rfl (by decide) ?_
      refine v_ldc2 (n := 22) C dX12_junes_19 rfl kl_X12_140 ?_
      refine v_stk (st' := [.long (Int32.toInt64 3), .long (Int32.toInt64 0), .long (Int32.toInt64 w)]) rfl ?_
      refine v_go (n := 25) C (vRun_S (As := [.long (Int32.toInt64 w), .long (Int32.toInt64 0), .long (Int32.toInt64 3)]) (rest := []) C lk_X12_55 st_X12_in dX12_junes_22 (c_in l D b (wl D b sc ar hn mh G) w 0 3) wm_X12_in rfl rfl ⟨Nat.le_of_ble_eq_true rfl, Nat.le_of_ble_eq_true rfl⟩ ⟨Nat.le_of_ble_eq_true rfl, Nat.le_of_ble_eq_true rfl⟩ (Nat.le_of_ble_eq_true rfl)) rfl ?_
      rintro _ _ ⟨rfl, rfl⟩ -
      by_cases p_7 : w < 0
      · skip
        refine v_stk (st' := .int 0 :: []) (congrArg (fun z : Int32 => Value.int z :: []) (show niF w 0 3 = 0 by simp only [niF, if_pos p_7])) ?_
        refine v_if_ne (t := 31) (n := 28) C dX12_junes_25 (by decide) rfl (fun c_8 => ?_) (fun c_8 => ?_)
        · exact absurd c_8 (by decide)
        · skip
          refine v_bipush (n := 30) (v := -102) C dX12_junes_28 rfl (by decide) ?_
          exact v_iret C dX12_junes_30 rfl rfl ⟨_, rfl, by simp only [mjuF, eq_false p_1, eq_true (Int32.not_lt.mp p_1), eq_false p_3, eq_true (Int32.not_lt.mp p_3), eq_false c_5, eq_false c_6, eq_true (Int32.not_lt.mp c_6), eq_true p_7, eq_false (Int32.not_le.mpr p_7), eq_true c_8, ↓reduceIte], sc, ar, PerJ_of PerM_rf, rfl⟩
      by_cases p_9 : 3 < w
      · skip
        refine v_stk (st' := .int 0 :: []) (congrArg (fun z : Int32 => Value.int z :: []) (show niF w 0 3 = 0 by simp only [niF, if_neg p_7, if_pos p_9])) ?_
        refine v_if_ne (t := 31) (n := 28) C dX12_junes_25 (by decide) rfl (fun c_10 => ?_) (fun c_10 => ?_)
        · exact absurd c_10 (by decide)
        · skip
          refine v_bipush (n := 30) (v := -102) C dX12_junes_28 rfl (by decide) ?_
          exact v_iret C dX12_junes_30 rfl rfl ⟨_, rfl, by simp only [mjuF, eq_false p_1, eq_true (Int32.not_lt.mp p_1), eq_false p_3, eq_true (Int32.not_lt.mp p_3), eq_false c_5, eq_false c_6, eq_true (Int32.not_lt.mp c_6), eq_false p_7, eq_true (Int32.not_lt.mp p_7), eq_true p_9, eq_false (Int32.not_le.mpr p_9), eq_true c_10, ↓reduceIte], sc, ar, PerJ_of PerM_rf, rfl⟩
      refine v_stk (st' := .int 1 :: []) (congrArg (fun z : Int32 => Value.int z :: []) (show niF w 0 3 = 1 by simp only [niF, if_neg p_7, if_neg p_9])) ?_
      refine v_if_ne (t := 31) (n := 28) C dX12_junes_25 (by decide) rfl (fun c_11 => ?_) (fun c_11 => ?_)
      · skip
        refine v_aload_n (n := 32) C dX12_junes_31 rfl rfl rfl ?_
        refine v_go (n := 35) C (vRun_V (As := []) (rest := []) C wl_c27 rfl lk_X12_89 im_X12_lacks se_X12_lacks dX12_junes_32 (m_lacks l D b sc ar hn mh G) wm_X12_lacks rfl rfl ⟨Nat.le_of_ble_eq_true rfl, Nat.le_of_ble_eq_true rfl⟩ ⟨Nat.le_of_ble_eq_true rfl, Nat.le_of_ble_eq_true rfl⟩ (Nat.le_of_ble_eq_true rfl)) rfl ?_
        rintro _ _ ⟨rfl, rfl⟩ -
        by_cases p_12 : (sc 21) = 0
        · skip
          refine v_stk (st' := .int 1 :: []) (congrArg (fun z : Int32 => Value.int z :: []) (show mlaF (sc 21) = 1 by simp only [mlaF, if_pos p_12])) ?_
          refine v_if_eq (t := 41) (n := 38) C dX12_junes_35 (by decide) rfl (fun c_13 => ?_) (fun c_13 => ?_)
          · exact absurd c_13 (by decide)
          · skip
            refine v_bipush (n := 40) (v := -103) C dX12_junes_38 rfl (by decide) ?_
            exact v_iret C dX12_junes_40 rfl rfl ⟨_, rfl, by simp only [mjuF, eq_false p_1, eq_true (Int32.not_lt.mp p_1), eq_false p_3, eq_true (Int32.not_lt.mp p_3), eq_false c_5, eq_false c_6, eq_true (Int32.not_lt.mp c_6), eq_false p_7, eq_true (Int32.not_lt.mp p_7), eq_false p_9, eq_true (Int32.not_lt.mp p_9), eq_false c_11, eq_true p_12, eq_false c_13, ↓reduceIte], sc, ar, PerJ_of PerM_rf, rfl⟩
        refine v_stk (st' := .int 0 :: []) (congrArg (fun z : Int32 => Value.int z :: []) (show mlaF (sc 21) = 0 by simp only [mlaF, if_neg p_12])) ?_
        refine v_if_eq (t := 41) (n := 38) C dX12_junes_35 (by decide) rfl (fun c_14 => ?_) (fun c_14 => ?_)
        · skip
          obtain ⟨T, hT, rfl⟩ := ju_T p_1 p_3
          have hTc : (nI T).toNatClampNeg = T := nI_clamp (by omega)
          obtain ⟨TH, hTH⟩ : ∃ TH, T * Hn = TH := ⟨_, rfl⟩
          have hTH60 : TH ≤ 60 := by rw [← hTH]; exact Nat.mul_le_mul hT hH3
          refine v_aload_n (n := 42) C dX12_junes_41 rfl rfl rfl ?_
          refine v_get (n := 45) C dX12_junes_42 rfl fl_X12_16_X12 wl_c27 rfl ?_
          refine v_aload_n (n := 46) C dX12_junes_45 rfl rfl rfl ?_
          refine v_get (n := 49) C dX12_junes_46 rfl fl_X12_37_X12 wl_c27 rfl ?_
          refine v_go (n := 52) C (vRun_S (As := [.ref (b + 30), .ref (b + 37)]) (rest := []) C lk_X12_160 st_X12_copy dX12_junes_49 (m_copy_30_37 l D b sc ar hn mh G) wm_X12_copy rfl rfl ⟨Nat.le_of_ble_eq_true rfl, Nat.le_of_ble_eq_true rfl⟩ ⟨Nat.le_of_ble_eq_true rfl, Nat.le_of_ble_eq_true rfl⟩ (Nat.le_of_ble_eq_true rfl)) rfl ?_
          rintro _ _ ⟨rfl, rfl⟩ -
          refine v_aload_n (n := 53) C dX12_junes_52 rfl rfl rfl ?_
          refine v_get (n := 56) C dX12_junes_53 rfl fl_X12_75_X12 wl_c27 rfl ?_
          refine v_istore (n := 58) (lv' := [(4, .int (sc 22)), (0, .ref (b + 27)), (1, .int (nI T)), (2, .int y), (3, .int w)]) C dX12_junes_56 rfl (Nat.le_of_ble_eq_true rfl) rfl ?_
          refine v_aload_n (n := 59) C dX12_junes_58 rfl rfl rfl ?_
          refine v_iload_n (n := 60) C dX12_junes_59 rfl rfl rfl ?_
          refine v_put (n := 63) (es' := (wl D b (va_up sc 29 y) (va_up ar 37 (copN (ar 30) (ar 37) 12)) hn mh G)) C dX12_junes_60 rfl fl_X12_187_X12 (fp_any fp_X12_18) wl_c27 rfl rfl (Nat.le_of_ble_eq_true rfl) wl_p27_18 ?_
          refine v_iconst (n := 64) (v := 0) C dX12_junes_63 rfl (by decide) ?_
          refine v_istore (n := 66) (lv' := [(5, .int 0), (4, .int (sc 22)), (0, .ref (b + 27)), (1, .int (nI T)), (2, .int y), (3, .int w)]) C dX12_junes_64 rfl (Nat.le_of_ble_eq_true rfl) rfl ?_
          refine v_iconst (n := 67) (v := 0) C dX12_junes_66 rfl (by decide) ?_
          refine v_istore (n := 69) (lv' := [(6, .int 0), (5, .int 0), (4, .int (sc 22)), (0, .ref (b + 27)), (1, .int (nI T)), (2, .int y), (3, .int w)]) C dX12_junes_67 rfl (Nat.le_of_ble_eq_true rfl) rfl ?_
          refine v_pick (lv' := [(6, .int 0), (0, .ref (b + 27)), (1, .int (nI T)), (2, .int y), (3, .int w), (4, .int (sc 22)), (5, .int 0)]) [0, 3, 4, 5, 6, 2, 1] rfl ?_
          have e_15 : (0 : Int32) = (nI 0) := rfl
          refine v_cong (es' := (wl D b (va_up (va_up sc 29 y) 22 (sc 22)) (va_up (va_up ar 37 (copN (ar 30) (ar 37) 12)) 30 (ar 30)) hn mh G)) (lv' := [(6, .int 0), (0, .ref (b + 27)), (1, .int (nI T)), (2, .int y), (3, .int w), (4, .int (sc 22)), (5, .int 0)]) rfl rfl ?_
          refine v_cong (es' := (wl D b (va_up (va_up sc 29 y) 22 (sc 22)) (va_up (va_up ar 37 (copN (ar 30) (ar 37) 12)) 30 (ar 30)) hn mh G)) (lv' := [(6, .int (nI 0)), (0, .ref (b + 27)), (1, .int (nI T)), (2, .int y), (3, .int w), (4, .int (sc 22)), (5, .int 0)]) rfl (cg1 (fun (z0 : Int32) => ([(6, .int z0), (0, .ref (b + 27)), (1, .int (nI T)), (2, .int y), (3, .int w), (4, .int (sc 22)), (5, .int 0)] : List (Nat × Value))) e_15) ?_
          refine loop_dn (P := fun i_69 => ∀ (n0 : Int32) (s0 : Int32) (h0 : Int32) (r0 : Nat → Int32), (n0, s0, h0, r0) = (jrN (ar 29) (sc 21) Hn (0, y, (sc 22), (ar 30)) i_69) → V p l e { frames := 4, cells := 0, slots := 0, locals := 92 } s m args below meth c D b 11 (MQ below (cQ D b 0 (fun r es' => ∃ v, r = some (.int v) ∧ mjuF sc ar Hn (nI T) y w v ∧ ∃ sc' ar', PerJ sc ar sc' ar' ∧ wl D b sc' ar' hn mh G = es')) args s 0 0 (fun q => b ≤ q)) 0 0 (wl D b (va_up (va_up sc 29 s0) 22 h0) (va_up (va_up ar 37 (copN (ar 30) (ar 37) 12)) 30 r0) hn mh G) [(6, .int (nI i_69)), (0, .ref (b + 27)), (1, .int (nI T)), (2, .int y), (3, .int w), (4, .int (sc 22)), (5, .int n0)] [] 69) TH ?_ (fun i_69 hi_69 ih_69 => ?_) 0 y (sc 22) (ar 30) rfl
          · intro n0 s0 h0 r0 hp_69
            have g_16 : ((nI TH) : Int32) ≤ (nI TH) := Int32.le_refl _
            refine v_iload (n := 71) C dX12_junes_69 rfl rfl ?_
            refine v_iload_n (n := 72) C dX12_junes_71 rfl rfl rfl ?_
            refine v_aload_n (n := 73) C dX12_junes_72 rfl rfl rfl ?_
            refine v_get (n := 76) C dX12_junes_73 rfl fl_X12_78_X12 (show (wl D b (va_up (va_up sc 29 s0) 22 h0) (va_up (va_up ar 37 (copN (ar 30) (ar 37) 12)) 30 r0) hn mh G)[27]? = some (.inr (12, [.ref (b + 28), .int (sc 20), .int (sc 21), .int h0, .int (sc 23), .int (sc 24), .ref (b + 29), .int (sc 25), .ref (b + 30), .ref (b + 31), .ref (b + 32), .ref (b + 33), .ref (b + 34), .int (sc 26), .int (sc 27), .int (sc 28), .ref (b + 35), .ref (b + 36), .int s0, .ref (b + 37), .int (sc 30), .int (sc 31), .int (sc 32), .int (sc 33), .int (sc 34), .ref (b + 38), .ref (b + 39), .long mh])) from wl_c27) rfl ?_
            refine v_imul (n := 77) C dX12_junes_76 rfl ?_
            refine v_stk (st' := .int (nI TH) :: [.int (nI TH)]) (congrArg (fun z : Int32 => Value.int z :: [.int (nI TH)]) (by rw [hH, pk_mul, hTH])) ?_
            refine v_icmp_ge (t := 190) (n := 80) C dX12_junes_77 (by decide) rfl (fun c_17 => ?_) (fun c_17 => ?_)
            · skip
              refine v_aload_n (n := 191) C dX12_junes_190 rfl rfl rfl ?_
              refine v_go (n := 194) C (vRun_V (As := []) (rest := []) C (show (wl D b (va_up (va_up sc 29 s0) 22 h0) (va_up (va_up ar 37 (copN (ar 30) (ar 37) 12)) 30 r0) hn mh G)[27]? = some (.inr (12, [.ref (b + 28), .int (sc 20), .int (sc 21), .int h0, .int (sc 23), .int (sc 24), .ref (b + 29), .int (sc 25), .ref (b + 30), .ref (b + 31), .ref (b + 32), .ref (b + 33), .ref (b + 34), .int (sc 26), .int (sc 27), .int (sc 28), .ref (b + 35), .ref (b + 36), .int s0, .ref (b + 37), .int (sc 30), .int (sc 31), .int (sc 32), .int (sc 33), .int (sc 34), .ref (b + 38), .ref (b + 39), .long mh])) from wl_c27) rfl lk_X12_200 im_X12_strandedMany se_X12_strandedMany dX12_junes_191 (m_strandedMany l D b (va_up (va_up sc 29 s0) 22 h0) (va_up (va_up ar 37 (copN (ar 30) (ar 37) 12)) 30 r0) hn mh G Hn hH hH3 (fun k hk => by have hx := jr_vp (f := ar 29) (rp := sc 21) (n := 0) (s := y) (h := sc 22) hrc TH k hk; rw [← hp_69] at hx; exact hx)) wm_X12_strandedMany rfl rfl ⟨Nat.le_of_ble_eq_true rfl, Nat.le_of_ble_eq_true rfl⟩ ⟨Nat.le_of_ble_eq_true rfl, Nat.le_of_ble_eq_true rfl⟩ (Nat.le_of_ble_eq_true rfl)) rfl ?_
              rintro _ _ ⟨rfl, rfl⟩ -
              refine v_istore (n := 196) (lv' := [(6, .int (mstN (va_up (va_up sc 29 s0) 22 h0) (va_up (va_up ar 37 (copN (ar 30) (ar 37) 12)) 30 r0) Hn)), (0, .ref (b + 27)), (1, .int (nI T)), (2, .int y), (3, .int w), (4, .int (sc 22)), (5, .int n0)]) C dX12_junes_194 rfl (Nat.le_of_ble_eq_true rfl) rfl ?_
              refine v_aload_n (n := 197) C dX12_junes_196 rfl rfl rfl ?_
              refine v_get (n := 200) C dX12_junes_197 rfl fl_X12_75_X12 (show (wl D b (va_up (va_up sc 29 s0) 22 h0) (va_up (va_up ar 37 (copN (ar 30) (ar 37) 12)) 30 r0) hn mh G)[27]? = some (.inr (12, [.ref (b + 28), .int (sc 20), .int (sc 21), .int h0, .int (sc 23), .int (sc 24), .ref (b + 29), .int (sc 25), .ref (b + 30), .ref (b + 31), .ref (b + 32), .ref (b + 33), .ref (b + 34), .int (sc 26), .int (sc 27), .int (sc 28), .ref (b + 35), .ref (b + 36), .int s0, .ref (b + 37), .int (sc 30), .int (sc 31), .int (sc 32), .int (sc 33), .int (sc 34), .ref (b + 38), .ref (b + 39), .long mh])) from wl_c27) rfl ?_
              refine v_istore (n := 202) (lv' := [(7, .int h0), (6, .int (mstN (va_up (va_up sc 29 s0) 22 h0) (va_up (va_up ar 37 (copN (ar 30) (ar 37) 12)) 30 r0) Hn)), (0, .ref (b + 27)), (1, .int (nI T)), (2, .int y), (3, .int w), (4, .int (sc 22)), (5, .int n0)]) C dX12_junes_200 rfl (Nat.le_of_ble_eq_true rfl) rfl ?_
              refine v_aload_n (n := 203) C dX12_junes_202 rfl rfl rfl ?_
              refine v_get (n := 206) C dX12_junes_203 rfl fl_X12_37_X12 (show (wl D b (va_up (va_up sc 29 s0) 22 h0) (va_up (va_up ar 37 (copN (ar 30) (ar 37) 12)) 30 r0) hn mh G)[27]? = some (.inr (12, [.ref (b + 28), .int (sc 20), .int (sc 21), .int h0, .int (sc 23), .int (sc 24), .ref (b + 29), .int (sc 25), .ref (b + 30), .ref (b + 31), .ref (b + 32), .ref (b + 33), .ref (b + 34), .int (sc 26), .int (sc 27), .int (sc 28), .ref (b + 35), .ref (b + 36), .int s0, .ref (b + 37), .int (sc 30), .int (sc 31), .int (sc 32), .int (sc 33), .int (sc 34), .ref (b + 38), .ref (b + 39), .long mh])) from wl_c27) rfl ?_
              refine v_aload_n (n := 207) C dX12_junes_206 rfl rfl rfl ?_
              refine v_get (n := 210) C dX12_junes_207 rfl fl_X12_16_X12 (show (wl D b (va_up (va_up sc 29 s0) 22 h0) (va_up (va_up ar 37 (copN (ar 30) (ar 37) 12)) 30 r0) hn mh G)[27]? = some (.inr (12, [.ref (b + 28), .int (sc 20), .int (sc 21), .int h0, .int (sc 23), .int (sc 24), .ref (b + 29), .int (sc 25), .ref (b + 30), .ref (b + 31), .ref (b + 32), .ref (b + 33), .ref (b + 34), .int (sc 26), .int (sc 27), .int (sc 28), .ref (b + 35), .ref (b + 36), .int s0, .ref (b + 37), .int (sc 30), .int (sc 31), .int (sc 32), .int (sc 33), .int (sc 34), .ref (b + 38), .ref (b + 39), .long mh])) from wl_c27) rfl ?_
              refine v_go (n := 213) C (vRun_S (As := [.ref (b + 37), .ref (b + 30)]) (rest := []) C lk_X12_160 st_X12_copy dX12_junes_210 (m_copy_37_30 l D b (va_up (va_up sc 29 s0) 22 h0) (va_up (va_up ar 37 (copN (ar 30) (ar 37) 12)) 30 r0) hn mh G) wm_X12_copy rfl rfl ⟨Nat.le_of_ble_eq_true rfl, Nat.le_of_ble_eq_true rfl⟩ ⟨Nat.le_of_ble_eq_true rfl, Nat.le_of_ble_eq_true rfl⟩ (Nat.le_of_ble_eq_true rfl)) rfl ?_
              rintro _ _ ⟨rfl, rfl⟩ -
              refine v_cong (es' := (wl D b (va_up (va_up sc 29 s0) 22 h0) (va_up (va_up ar 37 (copN (ar 30) (ar 37) 12)) 30 (copN (copN (ar 30) (ar 37) 12) r0 12)) hn mh G)) (lv' := [(7, .int h0), (6, .int (mstN (va_up (va_up sc 29 s0) 22 h0) (va_up (va_up ar 37 (copN (ar 30) (ar 37) 12)) 30 r0) Hn)), (0, .ref (b + 27)), (1, .int (nI T)), (2, .int y), (3, .int w), (4, .int (sc 22)), (5, .int n0)]) rfl rfl ?_
              refine v_aload_n (n := 214) C dX12_junes_213 rfl rfl rfl ?_
              refine v_iload (n := 216) C dX12_junes_214 rfl rfl ?_
              refine v_put (n := 219) (es' := (wl D b (va_up (va_up sc 29 s0) 22 (sc 22)) (va_up (va_up ar 37 (copN (ar 30) (ar 37) 12)) 30 (copN (copN (ar 30) (ar 37) 12) r0 12)) hn mh G)) C dX12_junes_216 rfl fl_X12_75_X12 (fp_any fp_X12_3) (show (wl D b (va_up (va_up sc 29 s0) 22 h0) (va_up (va_up ar 37 (copN (ar 30) (ar 37) 12)) 30 (copN (copN (ar 30) (ar 37) 12) r0 12)) hn mh G)[27]? = some (.inr (12, [.ref (b + 28), .int (sc 20), .int (sc 21), .int h0, .int (sc 23), .int (sc 24), .ref (b + 29), .int (sc 25), .ref (b + 30), .ref (b + 31), .ref (b + 32), .ref (b + 33), .ref (b + 34), .int (sc 26), .int (sc 27), .int (sc 28), .ref (b + 35), .ref (b + 36), .int s0, .ref (b + 37), .int (sc 30), .int (sc 31), .int (sc 32), .int (sc 33), .int (sc 34), .ref (b + 38), .ref (b + 39), .long mh])) from wl_c27) rfl rfl (Nat.le_of_ble_eq_true rfl) rfl ?_
              refine v_iload_n (n := 220) C dX12_junes_219 rfl rfl rfl ?_
              refine v_if_ne (t := 228) (n := 223) C dX12_junes_220 (by decide) rfl (fun c_18 => ?_) (fun c_18 => ?_)
              · skip
                refine v_iload_n (n := 229) C dX12_junes_228 rfl rfl rfl ?_
                refine v_iconst (n := 230) (v := 1) C dX12_junes_229 rfl (by decide) ?_
                refine v_icmp_ne (t := 238) (n := 233) C dX12_junes_230 (by decide) rfl (fun c_19 => ?_) (fun c_19 => ?_)
                · skip
                  refine v_iload_n (n := 239) C dX12_junes_238 rfl rfl rfl ?_
                  refine v_iconst (n := 240) (v := 2) C dX12_junes_239 rfl (by decide) ?_
                  refine v_icmp_ne (t := 248) (n := 243) C dX12_junes_240 (by decide) rfl (fun c_20 => ?_) (fun c_20 => ?_)
                  · skip
                    refine v_aload_n (n := 249) C dX12_junes_248 rfl rfl rfl ?_
                    refine v_get (n := 252) C dX12_junes_249 rfl fl_X12_187_X12 (show (wl D b (va_up (va_up sc 29 s0) 22 (sc 22)) (va_up (va_up ar 37 (copN (ar 30) (ar 37) 12)) 30 (copN (copN (ar 30) (ar 37) 12) r0 12)) hn mh G)[27]? = some (.inr (12, [.ref (b + 28), .int (sc 20), .int (sc 21), .int (sc 22), .int (sc 23), .int (sc 24), .ref (b + 29), .int (sc 25), .ref (b + 30), .ref (b + 31), .ref (b + 32), .ref (b + 33), .ref (b + 34), .int (sc 26), .int (sc 27), .int (sc 28), .ref (b + 35), .ref (b + 36), .int s0, .ref (b + 37), .int (sc 30), .int (sc 31), .int (sc 32), .int (sc 33), .int (sc 34), .ref (b + 38), .ref (b + 39), .long mh])) from wl_c27) rfl ?_
                    exact v_iret C dX12_junes_252 rfl rfl ⟨_, rfl, by simp only [mjuF, eq_false p_1, eq_true (Int32.not_lt.mp p_1), eq_false p_3, eq_true (Int32.not_lt.mp p_3), eq_false c_5, eq_false c_6, eq_true (Int32.not_lt.mp c_6), eq_false p_7, eq_true (Int32.not_lt.mp p_7), eq_false p_9, eq_true (Int32.not_lt.mp p_9), eq_false c_11, eq_false p_12, eq_true c_14, hTc, hTH, eq_true g_16, eq_false (Int32.not_lt.mpr g_16), eq_true c_17, eq_false (Int32.not_lt.mpr c_17), eq_false c_18, eq_false c_19, eq_false c_20, ↓reduceIte]; rw [← hp_69], (va_up (va_up sc 29 s0) 22 (sc 22)), (va_up (va_up ar 37 (copN (ar 30) (ar 37) 12)) 30 (copN (copN (ar 30) (ar 37) 12) r0 12)), PerJ_ju (h := 0), rfl⟩
                  · skip
                    refine v_iload (n := 245) C dX12_junes_243 rfl rfl ?_
                    refine v_goto (t := 252) C dX12_junes_245 (by decide) ?_
                    exact v_iret C dX12_junes_252 rfl rfl ⟨_, rfl, by simp only [mjuF, eq_false p_1, eq_true (Int32.not_lt.mp p_1), eq_false p_3, eq_true (Int32.not_lt.mp p_3), eq_false c_5, eq_false c_6, eq_true (Int32.not_lt.mp c_6), eq_false p_7, eq_true (Int32.not_lt.mp p_7), eq_false p_9, eq_true (Int32.not_lt.mp p_9), eq_false c_11, eq_false p_12, eq_true c_14, hTc, hTH, eq_true g_16, eq_false (Int32.not_lt.mpr g_16), eq_true c_17, eq_false (Int32.not_lt.mpr c_17), eq_false c_18, eq_false c_19, eq_true c_20, ↓reduceIte]; rw [← hp_69], (va_up (va_up sc 29 s0) 22 (sc 22)), (va_up (va_up ar 37 (copN (ar 30) (ar 37) 12)) 30 (copN (copN (ar 30) (ar 37) 12) r0 12)), PerJ_ju (h := 0), rfl⟩
                · skip
                  refine v_iload (n := 235) C dX12_junes_233 rfl rfl ?_
                  refine v_goto (t := 252) C dX12_junes_235 (by decide) ?_
                  exact v_iret C dX12_junes_252 rfl rfl ⟨_, rfl, by simp only [mjuF, eq_false p_1, eq_true (Int32.not_lt.mp p_1), eq_false p_3, eq_true (Int32.not_lt.mp p_3), eq_false c_5, eq_false c_6, eq_true (Int32.not_lt.mp c_6), eq_false p_7, eq_true (Int32.not_lt.mp p_7), eq_false p_9, eq_true (Int32.not_lt.mp p_9), eq_false c_11, eq_false p_12, eq_true c_14, hTc, hTH, eq_true g_16, eq_false (Int32.not_lt.mpr g_16), eq_true c_17, eq_false (Int32.not_lt.mpr c_17), eq_false c_18, eq_true c_19, ↓reduceIte]; rw [← hp_69]; exact mst_sc rfl rfl rfl rfl, (va_up (va_up sc 29 s0) 22 (sc 22)), (va_up (va_up ar 37 (copN (ar 30) (ar 37) 12)) 30 (copN (copN (ar 30) (ar 37) 12) r0 12)), PerJ_ju (h := 0), rfl⟩
              · skip
                refine v_iload (n := 225) C dX12_junes_223 rfl rfl ?_
                refine v_goto (t := 252) C dX12_junes_225 (by decide) ?_
                exact v_iret C dX12_junes_252 rfl rfl ⟨_, rfl, by simp only [mjuF, eq_false p_1, eq_true (Int32.not_lt.mp p_1), eq_false p_3, eq_true (Int32.not_lt.mp p_3), eq_false c_5, eq_false c_6, eq_true (Int32.not_lt.mp c_6), eq_false p_7, eq_true (Int32.not_lt.mp p_7), eq_false p_9, eq_true (Int32.not_lt.mp p_9), eq_false c_11, eq_false p_12, eq_true c_14, hTc, hTH, eq_true g_16, eq_false (Int32.not_lt.mpr g_16), eq_true c_17, eq_false (Int32.not_lt.mpr c_17), eq_true c_18, ↓reduceIte]; rw [← hp_69], (va_up (va_up sc 29 s0) 22 (sc 22)), (va_up (va_up ar 37 (copN (ar 30) (ar 37) 12)) 30 (copN (copN (ar 30) (ar 37) 12) r0 12)), PerJ_ju (h := 0), rfl⟩
            · first | exact absurd c_17 g_16 | exact absurd g_16 c_17 | exact absurd c_17 (Int32.not_le.mpr g_16) | exact absurd c_17 (Int32.not_lt.mpr g_16) | exact absurd (Int32.not_le.mp g_16) c_17 | exact absurd (Int32.not_lt.mp g_16) c_17 | exact absurd (Int32.not_le.mp g_16) (Int32.not_lt.mpr c_17) | exact absurd (Int32.not_lt.mp g_16) (Int32.not_le.mpr c_17) | exact absurd (Int32.not_lt.mp c_17) (Int32.not_le.mpr (Int32.not_le.mp g_16))
          · intro n0 s0 h0 r0 hp_69
            have g_21 : ¬ ((nI TH) : Int32) ≤ (nI i_69) := nI_ge (a := i_69) (b := TH) (by omega) (by omega)
            refine v_iload (n := 71) C dX12_junes_69 rfl rfl ?_
            refine v_iload_n (n := 72) C dX12_junes_71 rfl rfl rfl ?_
            refine v_aload_n (n := 73) C dX12_junes_72 rfl rfl rfl ?_
            refine v_get (n := 76) C dX12_junes_73 rfl fl_X12_78_X12 (show (wl D b (va_up (va_up sc 29 s0) 22 h0) (va_up (va_up ar 37 (copN (ar 30) (ar 37) 12)) 30 r0) hn mh G)[27]? = some (.inr (12, [.ref (b + 28), .int (sc 20), .int (sc 21), .int h0, .int (sc 23), .int (sc 24), .ref (b + 29), .int (sc 25), .ref (b + 30), .ref (b + 31), .ref (b + 32), .ref (b + 33), .ref (b + 34), .int (sc 26), .int (sc 27), .int (sc 28), .ref (b + 35), .ref (b + 36), .int s0, .ref (b + 37), .int (sc 30), .int (sc 31), .int (sc 32), .int (sc 33), .int (sc 34), .ref (b + 38), .ref (b + 39), .long mh])) from wl_c27) rfl ?_
            refine v_imul (n := 77) C dX12_junes_76 rfl ?_
            refine v_stk (st' := .int (nI TH) :: [.int (nI i_69)]) (congrArg (fun z : Int32 => Value.int z :: [.int (nI i_69)]) (by rw [hH, pk_mul, hTH])) ?_
            refine v_icmp_ge (t := 190) (n := 80) C dX12_junes_77 (by decide) rfl (fun c_22 => ?_) (fun c_22 => ?_)
            · first | exact absurd c_22 g_21 | exact absurd g_21 c_22 | exact absurd c_22 (Int32.not_le.mpr g_21) | exact absurd c_22 (Int32.not_lt.mpr g_21) | exact absurd (Int32.not_le.mp g_21) c_22 | exact absurd (Int32.not_lt.mp g_21) c_22 | exact absurd (Int32.not_le.mp g_21) (Int32.not_lt.mpr c_22) | exact absurd (Int32.not_lt.mp g_21) (Int32.not_le.mpr c_22) | exact absurd (Int32.not_lt.mp c_22) (Int32.not_le.mpr (Int32.not_le.mp g_21))
            · skip
              refine v_iload (n := 82) C dX12_junes_80 rfl rfl ?_
              refine v_aload_n (n := 83) C dX12_junes_82 rfl rfl rfl ?_
              refine v_get (n := 86) C dX12_junes_83 rfl fl_X12_78_X12 (show (wl D b (va_up (va_up sc 29 s0) 22 h0) (va_up (va_up ar 37 (copN (ar 30) (ar 37) 12)) 30 r0) hn mh G)[27]? = some (.inr (12, [.ref (b + 28), .int (sc 20), .int (sc 21), .int h0, .int (sc 23), .int (sc 24), .ref (b + 29), .int (sc 25), .ref (b + 30), .ref (b + 31), .ref (b + 32), .ref (b + 33), .ref (b + 34), .int (sc 26), .int (sc 27), .int (sc 28), .ref (b + 35), .ref (b + 36), .int s0, .ref (b + 37), .int (sc 30), .int (sc 31), .int (sc 32), .int (sc 33), .int (sc 34), .ref (b + 38), .ref (b + 39), .long mh])) from wl_c27) rfl ?_
              have hHn : 0 < Hn := by rcases Nat.eq_zero_or_pos Hn with q | q; subst q; omega; exact q
              have hnz : ¬ (sc 25) = 0 := by rw [hH]; exact nI_ne0 hHn (by omega)
              refine v_irem (n := 87) C dX12_junes_86 rfl hnz ?_
              obtain ⟨kN, hkN⟩ : ∃ kN, i_69 % Hn = kN := ⟨_, rfl⟩
              have hk3 : kN < 3 := by have := Nat.mod_lt i_69 hHn; omega
              have hkH : kN < Hn := by have := Nat.mod_lt i_69 hHn; omega
              have hxr : vp_in (r0 (4 * kN + 2)) 12 := by have hx := jr_vp (f := ar 29) (rp := sc 21) (n := 0) (s := y) (h := sc 22) hrc i_69 kN hkH; rw [← hp_69] at hx; exact hx
              refine v_stk (st' := .int (nI kN) :: []) (congrArg (fun z : Int32 => Value.int z :: []) (by rw [hH]; exact (pk_rem (a := i_69) (d := Hn) (by omega) hHn (by omega)).trans (by rw [hkN]))) ?_
              refine v_istore (n := 89) (lv' := [(7, .int (nI kN)), (6, .int (nI i_69)), (0, .ref (b + 27)), (1, .int (nI T)), (2, .int y), (3, .int w), (4, .int (sc 22)), (5, .int n0)]) C dX12_junes_87 rfl (Nat.le_of_ble_eq_true rfl) rfl ?_
              refine v_aload_n (n := 90) C dX12_junes_89 rfl rfl rfl ?_
              refine v_iconst (n := 91) (v := 5) C dX12_junes_90 rfl (by decide) ?_
              refine v_go (n := 94) C (vRun_V (As := [.int 5]) (rest := []) C (show (wl D b (va_up (va_up sc 29 s0) 22 h0) (va_up (va_up ar 37 (copN (ar 30) (ar 37) 12)) 30 r0) hn mh G)[27]? = some (.inr (12, [.ref (b + 28), .int (sc 20), .int (sc 21), .int h0, .int (sc 23), .int (sc 24), .ref (b + 29), .int (sc 25), .ref (b + 30), .ref (b + 31), .ref (b + 32), .ref (b + 33), .ref (b + 34), .int (sc 26), .int (sc 27), .int (sc 28), .ref (b + 35), .ref (b + 36), .int s0, .ref (b + 37), .int (sc 30), .int (sc 31), .int (sc 32), .int (sc 33), .int (sc 34), .ref (b + 38), .ref (b + 39), .long mh])) from wl_c27) rfl lk_X12_197 im_X12_draw se_X12_draw dX12_junes_91 (m_draw l D b (va_up (va_up sc 29 s0) 22 h0) (va_up (va_up ar 37 (copN (ar 30) (ar 37) 12)) 30 r0) hn mh G 5 (by decide)) wm_X12_draw rfl rfl ⟨Nat.le_of_ble_eq_true rfl, Nat.le_of_ble_eq_true rfl⟩ ⟨Nat.le_of_ble_eq_true rfl, Nat.le_of_ble_eq_true rfl⟩ (Nat.le_of_ble_eq_true rfl)) rfl ?_
              rintro _ _ ⟨sd24, v24, hsd24, hv24, rfl, rfl⟩ -
              change sd24 = drS s0 at hsd24
              change v24 = mdrV s0 5 at hv24
              refine v_cong (es' := (wl D b (va_up (va_up sc 29 sd24) 22 h0) (va_up (va_up ar 37 (copN (ar 30) (ar 37) 12)) 30 r0) hn mh G)) (lv' := [(7, .int (nI kN)), (6, .int (nI i_69)), (0, .ref (b + 27)), (1, .int (nI T)), (2, .int y), (3, .int w), (4, .int (sc 22)), (5, .int n0)]) rfl rfl ?_
              refine v_istore (n := 96) (lv' := [(8, .int v24), (7, .int (nI kN)), (6, .int (nI i_69)), (0, .ref (b + 27)), (1, .int (nI T)), (2, .int y), (3, .int w), (4, .int (sc 22)), (5, .int n0)]) C dX12_junes_94 rfl (Nat.le_of_ble_eq_true rfl) rfl ?_
              refine v_aload_n (n := 97) C dX12_junes_96 rfl rfl rfl ?_
              refine v_iconst (n := 98) (v := 4) C dX12_junes_97 rfl (by decide) ?_
              refine v_go (n := 101) C (vRun_V (As := [.int 4]) (rest := []) C (show (wl D b (va_up (va_up sc 29 sd24) 22 h0) (va_up (va_up ar 37 (copN (ar 30) (ar 37) 12)) 30 r0) hn mh G)[27]? = some (.inr (12, [.ref (b + 28), .int (sc 20), .int (sc 21), .int h0, .int (sc 23), .int (sc 24), .ref (b + 29), .int (sc 25), .ref (b + 30), .ref (b + 31), .ref (b + 32), .ref (b + 33), .ref (b + 34), .int (sc 26), .int (sc 27), .int (sc 28), .ref (b + 35), .ref (b + 36), .int sd24, .ref (b + 37), .int (sc 30), .int (sc 31), .int (sc 32), .int (sc 33), .int (sc 34), .ref (b + 38), .ref (b + 39), .long mh])) from wl_c27) rfl lk_X12_197 im_X12_draw se_X12_draw dX12_junes_98 (m_draw l D b (va_up (va_up sc 29 sd24) 22 h0) (va_up (va_up ar 37 (copN (ar 30) (ar 37) 12)) 30 r0) hn mh G 4 (by decide)) wm_X12_draw rfl rfl ⟨Nat.le_of_ble_eq_true rfl, Nat.le_of_ble_eq_true rfl⟩ ⟨Nat.le_of_ble_eq_true rfl, Nat.le_of_ble_eq_true rfl⟩ (Nat.le_of_ble_eq_true rfl)) rfl ?_
              rintro _ _ ⟨sd25, v25, hsd25, hv25, rfl, rfl⟩ -
              change sd25 = drS sd24 at hsd25
              change v25 = mdrV sd24 4 at hv25
              refine v_cong (es' := (wl D b (va_up (va_up sc 29 sd25) 22 h0) (va_up (va_up ar 37 (copN (ar 30) (ar 37) 12)) 30 r0) hn mh G)) (lv' := [(8, .int v24), (7, .int (nI kN)), (6, .int (nI i_69)), (0, .ref (b + 27)), (1, .int (nI T)), (2, .int y), (3, .int w), (4, .int (sc 22)), (5, .int n0)]) rfl rfl ?_
              refine v_istore (n := 103) (lv' := [(9, .int v25), (8, .int v24), (7, .int (nI kN)), (6, .int (nI i_69)), (0, .ref (b + 27)), (1, .int (nI T)), (2, .int y), (3, .int w), (4, .int (sc 22)), (5, .int n0)]) C dX12_junes_101 rfl (Nat.le_of_ble_eq_true rfl) rfl ?_
              refine v_aload_n (n := 104) C dX12_junes_103 rfl rfl rfl ?_
              refine v_iload (n := 106) C dX12_junes_104 rfl rfl ?_
              refine v_aload_n (n := 107) C dX12_junes_106 rfl rfl rfl ?_
              refine v_get (n := 110) C dX12_junes_107 rfl fl_X12_16_X12 (show (wl D b (va_up (va_up sc 29 sd25) 22 h0) (va_up (va_up ar 37 (copN (ar 30) (ar 37) 12)) 30 r0) hn mh G)[27]? = some (.inr (12, [.ref (b + 28), .int (sc 20), .int (sc 21), .int h0, .int (sc 23), .int (sc 24), .ref (b + 29), .int (sc 25), .ref (b + 30), .ref (b + 31), .ref (b + 32), .ref (b + 33), .ref (b + 34), .int (sc 26), .int (sc 27), .int (sc 28), .ref (b + 35), .ref (b + 36), .int sd25, .ref (b + 37), .int (sc 30), .int (sc 31), .int (sc 32), .int (sc 33), .int (sc 34), .ref (b + 38), .ref (b + 39), .long mh])) from wl_c27) rfl ?_
              refine v_iconst (n := 111) (v := 4) C dX12_junes_110 rfl (by decide) ?_
              refine v_iload (n := 113) C dX12_junes_111 rfl rfl ?_
              refine v_imul (n := 114) C dX12_junes_113 rfl ?_
              refine v_iconst (n := 115) (v := 2) C dX12_junes_114 rfl (by decide) ?_
              refine v_iadd (n := 116) C dX12_junes_115 rfl ?_
              refine v_iald (n := 117) C dX12_junes_116 rfl (show (wl D b (va_up (va_up sc 29 sd25) 22 h0) (va_up (va_up ar 37 (copN (ar 30) (ar 37) 12)) 30 r0) hn mh G)[30]? = some (.inl (D.1 13, 12, .inl r0)) from wl_c30) (rw_vp (j := 2) hk3 (by decide)) ?_
              refine v_stk (st' := .int (r0 (4 * kN + 2)) :: [.int (nI kN), .ref (b + 27)]) (congrArg (fun z : Nat => Value.int (r0 z) :: [.int (nI kN), .ref (b + 27)]) (rw_c (j := 2) hk3 (by decide))) ?_
              refine v_aload_n (n := 118) C dX12_junes_117 rfl rfl rfl ?_
              refine v_get (n := 121) C dX12_junes_118 rfl fl_X12_75_X12 (show (wl D b (va_up (va_up sc 29 sd25) 22 h0) (va_up (va_up ar 37 (copN (ar 30) (ar 37) 12)) 30 r0) hn mh G)[27]? = some (.inr (12, [.ref (b + 28), .int (sc 20), .int (sc 21), .int h0, .int (sc 23), .int (sc 24), .ref (b + 29), .int (sc 25), .ref (b + 30), .ref (b + 31), .ref (b + 32), .ref (b + 33), .ref (b + 34), .int (sc 26), .int (sc 27), .int (sc 28), .ref (b + 35), .ref (b + 36), .int sd25, .ref (b + 37), .int (sc 30), .int (sc 31), .int (sc 32), .int (sc 33), .int (sc 34), .ref (b + 38), .ref (b + 39), .long mh])) from wl_c27) rfl ?_
              refine v_iload (n := 123) C dX12_junes_121 rfl rfl ?_
              refine v_iload (n := 125) C dX12_junes_123 rfl rfl ?_
              refine v_aload_n (n := 126) C dX12_junes_125 rfl rfl rfl ?_
              refine v_get (n := 129) C dX12_junes_126 rfl fl_X12_72_X12 (show (wl D b (va_up (va_up sc 29 sd25) 22 h0) (va_up (va_up ar 37 (copN (ar 30) (ar 37) 12)) 30 r0) hn mh G)[27]? = some (.inr (12, [.ref (b + 28), .int (sc 20), .int (sc 21), .int h0, .int (sc 23), .int (sc 24), .ref (b + 29), .int (sc 25), .ref (b + 30), .ref (b + 31), .ref (b + 32), .ref (b + 33), .ref (b + 34), .int (sc 26), .int (sc 27), .int (sc 28), .ref (b + 35), .ref (b + 36), .int sd25, .ref (b + 37), .int (sc 30), .int (sc 31), .int (sc 32), .int (sc 33), .int (sc 34), .ref (b + 38), .ref (b + 39), .long mh])) from wl_c27) rfl ?_
              refine v_go (n := 132) C (vRun_V (As := [.int (nI kN), .int (r0 (4 * kN + 2)), .int h0, .int v25, .int v24, .int (sc 21)]) (rest := []) C (show (wl D b (va_up (va_up sc 29 sd25) 22 h0) (va_up (va_up ar 37 (copN (ar 30) (ar 37) 12)) 30 r0) hn mh G)[27]? = some (.inr (12, [.ref (b + 28), .int (sc 20), .int (sc 21), .int h0, .int (sc 23), .int (sc 24), .ref (b + 29), .int (sc 25), .ref (b + 30), .ref (b + 31), .ref (b + 32), .ref (b + 33), .ref (b + 34), .int (sc 26), .int (sc 27), .int (sc 28), .ref (b + 35), .ref (b + 36), .int sd25, .ref (b + 37), .int (sc 30), .int (sc 31), .int (sc 32), .int (sc 33), .int (sc 34), .ref (b + 38), .ref (b + 39), .long mh])) from wl_c27) rfl lk_X12_127 im_X12_hoursOf se_X12_hoursOf dX12_junes_129 (m_hoursOf l D b (va_up (va_up sc 29 sd25) 22 h0) (va_up (va_up ar 37 (copN (ar 30) (ar 37) 12)) 30 r0) hn mh G kN (by omega) (r0 (4 * kN + 2)) h0 v25 v24 (sc 21) hxr) wm_X12_hoursOf rfl rfl ⟨Nat.le_of_ble_eq_true rfl, Nat.le_of_ble_eq_true rfl⟩ ⟨Nat.le_of_ble_eq_true rfl, Nat.le_of_ble_eq_true rfl⟩ (Nat.le_of_ble_eq_true rfl)) rfl ?_
              rintro _ _ ⟨rfl, rfl⟩ -
              refine v_istore (n := 134) (lv' := [(10, .int (mhtF (ar 29) r0 kN (r0 (4 * kN + 2)) h0 v25 v24 (sc 21))), (9, .int v25), (8, .int v24), (7, .int (nI kN)), (6, .int (nI i_69)), (0, .ref (b + 27)), (1, .int (nI T)), (2, .int y), (3, .int w), (4, .int (sc 22)), (5, .int n0)]) C dX12_junes_132 rfl (Nat.le_of_ble_eq_true rfl) rfl ?_
              refine v_iload (n := 136) C dX12_junes_134 rfl rfl ?_
              refine v_iconst (n := 137) (v := -1) C dX12_junes_136 rfl (by decide) ?_
              refine v_icmp_ne (t := 146) (n := 140) C dX12_junes_137 (by decide) rfl (fun c_26 => ?_) (fun c_26 => ?_)
              · skip
                refine v_aload_n (n := 147) C dX12_junes_146 rfl rfl rfl ?_
                refine v_get (n := 150) C dX12_junes_147 rfl fl_X12_16_X12 (show (wl D b (va_up (va_up sc 29 sd25) 22 h0) (va_up (va_up ar 37 (copN (ar 30) (ar 37) 12)) 30 r0) hn mh G)[27]? = some (.inr (12, [.ref (b + 28), .int (sc 20), .int (sc 21), .int h0, .int (sc 23), .int (sc 24), .ref (b + 29), .int (sc 25), .ref (b + 30), .ref (b + 31), .ref (b + 32), .ref (b + 33), .ref (b + 34), .int (sc 26), .int (sc 27), .int (sc 28), .ref (b + 35), .ref (b + 36), .int sd25, .ref (b + 37), .int (sc 30), .int (sc 31), .int (sc 32), .int (sc 33), .int (sc 34), .ref (b + 38), .ref (b + 39), .long mh])) from wl_c27) rfl ?_
                refine v_iconst (n := 151) (v := 4) C dX12_junes_150 rfl (by decide) ?_
                refine v_iload (n := 153) C dX12_junes_151 rfl rfl ?_
                refine v_imul (n := 154) C dX12_junes_153 rfl ?_
                refine v_iconst (n := 155) (v := 2) C dX12_junes_154 rfl (by decide) ?_
                refine v_iadd (n := 156) C dX12_junes_155 rfl ?_
                refine v_aload_n (n := 157) C dX12_junes_156 rfl rfl rfl ?_
                refine v_get (n := 160) C dX12_junes_157 rfl fl_X12_16_X12 (show (wl D b (va_up (va_up sc 29 sd25) 22 h0) (va_up (va_up ar 37 (copN (ar 30) (ar 37) 12)) 30 r0) hn mh G)[27]? = some (.inr (12, [.ref (b + 28), .int (sc 20), .int (sc 21), .int h0, .int (sc 23), .int (sc 24), .ref (b + 29), .int (sc 25), .ref (b + 30), .ref (b + 31), .ref (b + 32), .ref (b + 33), .ref (b + 34), .int (sc 26), .int (sc 27), .int (sc 28), .ref (b + 35), .ref (b + 36), .int sd25, .ref (b + 37), .int (sc 30), .int (sc 31), .int (sc 32), .int (sc 33), .int (sc 34), .ref (b + 38), .ref (b + 39), .long mh])) from wl_c27) rfl ?_
                refine v_iconst (n := 161) (v := 4) C dX12_junes_160 rfl (by decide) ?_
                refine v_iload (n := 163) C dX12_junes_161 rfl rfl ?_
                refine v_imul (n := 164) C dX12_junes_163 rfl ?_
                refine v_iconst (n := 165) (v := 2) C dX12_junes_164 rfl (by decide) ?_
                refine v_iadd (n := 166) C dX12_junes_165 rfl ?_
                refine v_iald (n := 167) C dX12_junes_166 rfl (show (wl D b (va_up (va_up sc 29 sd25) 22 h0) (va_up (va_up ar 37 (copN (ar 30) (ar 37) 12)) 30 r0) hn mh G)[30]? = some (.inl (D.1 13, 12, .inl r0)) from wl_c30) (rw_vp (j := 2) hk3 (by decide)) ?_
                refine v_stk (st' := .int (r0 (4 * kN + 2)) :: [.int ((4 * (nI kN)) + 2), .ref (b + 30)]) (congrArg (fun z : Nat => Value.int (r0 z) :: [.int ((4 * (nI kN)) + 2), .ref (b + 30)]) (rw_c (j := 2) hk3 (by decide))) ?_
                refine v_iload (n := 169) C dX12_junes_167 rfl rfl ?_
                refine v_go (n := 172) C (vRun_S (As := [.int (r0 (4 * kN + 2)), .int v25]) (rest := [.int ((4 * (nI kN)) + 2), .ref (b + 30)]) C lk_X12_113 st_X12_beside dX12_junes_169 (m_beside l D b (wl D b (va_up (va_up sc 29 sd25) 22 h0) (va_up (va_up ar 37 (copN (ar 30) (ar 37) 12)) 30 r0) hn mh G) (r0 (4 * kN + 2)) v25) wm_X12_beside rfl rfl ⟨Nat.le_of_ble_eq_true rfl, Nat.le_of_ble_eq_true rfl⟩ ⟨Nat.le_of_ble_eq_true rfl, Nat.le_of_ble_eq_true rfl⟩ (Nat.le_of_ble_eq_true rfl)) rfl ?_
                rintro _ _ ⟨rfl, rfl⟩ -
                refine v_iast (n := 173) (es' := (wl D b (va_up (va_up sc 29 sd25) 22 h0) (va_up (va_up ar 37 (copN (ar 30) (ar 37) 12)) 30 (upd r0 (4 * kN + 2) (mbeF (r0 (4 * kN + 2)) v25))) hn mh G)) C dX12_junes_172 rfl (show (wl D b (va_up (va_up sc 29 sd25) 22 h0) (va_up (va_up ar 37 (copN (ar 30) (ar 37) 12)) 30 r0) hn mh G)[30]? = some (.inl (D.1 13, 12, .inl r0)) from wl_c30) (rw_vp (j := 2) hk3 (by decide)) (by rw [show ((4 : Int32) * nI kN + 2).toNatClampNeg = 4 * kN + 2 from (rw_c (j := 2) hk3 (by decide))]; exact rfl) ?_
                refine v_aload_n (n := 174) C dX12_junes_173 rfl rfl rfl ?_
                refine v_dup (n := 175) C dX12_junes_174 rfl rfl ?_
                refine v_get (n := 178) C dX12_junes_175 rfl fl_X12_75_X12 (show (wl D b (va_up (va_up sc 29 sd25) 22 h0) (va_up (va_up ar 37 (copN (ar 30) (ar 37) 12)) 30 (upd r0 (4 * kN + 2) (mbeF (r0 (4 * kN + 2)) v25))) hn mh G)[27]? = some (.inr (12, [.ref (b + 28), .int (sc 20), .int (sc 21), .int h0, .int (sc 23), .int (sc 24), .ref (b + 29), .int (sc 25), .ref (b + 30), .ref (b + 31), .ref (b + 32), .ref (b + 33), .ref (b + 34), .int (sc 26), .int (sc 27), .int (sc 28), .ref (b + 35), .ref (b + 36), .int sd25, .ref (b + 37), .int (sc 30), .int (sc 31), .int (sc 32), .int (sc 33), .int (sc 34), .ref (b + 38), .ref (b + 39), .long mh])) from wl_c27) rfl ?_
                refine v_iload (n := 180) C dX12_junes_178 rfl rfl ?_
                refine v_iadd (n := 181) C dX12_junes_180 rfl ?_
                refine v_put (n := 184) (es' := (wl D b (va_up (va_up sc 29 sd25) 22 (h0 + (mhtF (ar 29) r0 kN (r0 (4 * kN + 2)) h0 v25 v24 (sc 21)))) (va_up (va_up ar 37 (copN (ar 30) (ar 37) 12)) 30 (upd r0 (4 * kN + 2) (mbeF (r0 (4 * kN + 2)) v25))) hn mh G)) C dX12_junes_181 rfl fl_X12_75_X12 (fp_any fp_X12_3) (show (wl D b (va_up (va_up sc 29 sd25) 22 h0) (va_up (va_up ar 37 (copN (ar 30) (ar 37) 12)) 30 (upd r0 (4 * kN + 2) (mbeF (r0 (4 * kN + 2)) v25))) hn mh G)[27]? = some (.inr (12, [.ref (b + 28), .int (sc 20), .int (sc 21), .int h0, .int (sc 23), .int (sc 24), .ref (b + 29), .int (sc 25), .ref (b + 30), .ref (b + 31), .ref (b + 32), .ref (b + 33), .ref (b + 34), .int (sc 26), .int (sc 27), .int (sc 28), .ref (b + 35), .ref (b + 36), .int sd25, .ref (b + 37), .int (sc 30), .int (sc 31), .int (sc 32), .int (sc 33), .int (sc 34), .ref (b + 38), .ref (b + 39), .long mh])) from wl_c27) rfl rfl (Nat.le_of_ble_eq_true rfl) rfl ?_
                refine v_iinc (n := 187) (v := ((nI i_69) + 1)) (lv' := [(6, .int ((nI i_69) + 1)), (10, .int (mhtF (ar 29) r0 kN (r0 (4 * kN + 2)) h0 v25 v24 (sc 21))), (9, .int v25), (8, .int v24), (7, .int (nI kN)), (0, .ref (b + 27)), (1, .int (nI T)), (2, .int y), (3, .int w), (4, .int (sc 22)), (5, .int n0)]) C dX12_junes_184 rfl rfl rfl (Nat.le_of_ble_eq_true rfl) rfl ?_
                refine v_goto (t := 69) C dX12_junes_187 (by decide) ?_
                refine v_pick (lv' := [(6, .int ((nI i_69) + 1)), (0, .ref (b + 27)), (1, .int (nI T)), (2, .int y), (3, .int w), (4, .int (sc 22)), (5, .int n0)]) [0, 5, 6, 7, 8, 9, 10] rfl ?_
                have e_27 : (((nI i_69) + 1) : Int32) = (nI (i_69 + 1)) := nI_1 _
                refine v_cong (es' := (wl D b (va_up (va_up sc 29 sd25) 22 (h0 + (mhtF (ar 29) r0 kN (r0 (4 * kN + 2)) h0 v25 v24 (sc 21)))) (va_up (va_up ar 37 (copN (ar 30) (ar 37) 12)) 30 (upd r0 (4 * kN + 2) (mbeF (r0 (4 * kN + 2)) v25))) hn mh G)) (lv' := [(6, .int (nI (i_69 + 1))), (0, .ref (b + 27)), (1, .int (nI T)), (2, .int y), (3, .int w), (4, .int (sc 22)), (5, .int n0)]) rfl (cg1 (fun (z0 : Int32) => ([(6, .int z0), (0, .ref (b + 27)), (1, .int (nI T)), (2, .int y), (3, .int w), (4, .int (sc 22)), (5, .int n0)] : List (Nat × Value))) e_27) ?_
                exact ih_69 n0 sd25 (h0 + (mhtF (ar 29) r0 kN (r0 (4 * kN + 2)) h0 v25 v24 (sc 21))) (upd r0 (4 * kN + 2) (mbeF (r0 (4 * kN + 2)) v25)) (by subst hv25 hsd25 hv24 hsd24; rw [jrN, ← hp_69, hkN]; simp only [jrS, eq_false p_1, eq_true (Int32.not_lt.mp p_1), eq_false p_3, eq_true (Int32.not_lt.mp p_3), eq_false c_5, eq_false c_6, eq_true (Int32.not_lt.mp c_6), eq_false p_7, eq_true (Int32.not_lt.mp p_7), eq_false p_9, eq_true (Int32.not_lt.mp p_9), eq_false c_11, eq_false p_12, eq_true c_14, hTc, hTH, eq_false g_21, eq_true (Int32.not_le.mp g_21), eq_false c_22, eq_true (Int32.not_le.mp c_22), hkN, eq_false c_26, ↓reduceIte])
              · skip
                refine v_iinc (n := 143) (v := (n0 + 1)) (lv' := [(5, .int (n0 + 1)), (10, .int (mhtF (ar 29) r0 kN (r0 (4 * kN + 2)) h0 v25 v24 (sc 21))), (9, .int v25), (8, .int v24), (7, .int (nI kN)), (6, .int (nI i_69)), (0, .ref (b + 27)), (1, .int (nI T)), (2, .int y), (3, .int w), (4, .int (sc 22))]) C dX12_junes_140 rfl rfl rfl (Nat.le_of_ble_eq_true rfl) rfl ?_
                refine v_goto (t := 184) C dX12_junes_143 (by decide) ?_
                refine v_iinc (n := 187) (v := ((nI i_69) + 1)) (lv' := [(6, .int ((nI i_69) + 1)), (5, .int (n0 + 1)), (10, .int (mhtF (ar 29) r0 kN (r0 (4 * kN + 2)) h0 v25 v24 (sc 21))), (9, .int v25), (8, .int v24), (7, .int (nI kN)), (0, .ref (b + 27)), (1, .int (nI T)), (2, .int y), (3, .int w), (4, .int (sc 22))]) C dX12_junes_184 rfl rfl rfl (Nat.le_of_ble_eq_true rfl) rfl ?_
                refine v_goto (t := 69) C dX12_junes_187 (by decide) ?_
                refine v_pick (lv' := [(6, .int ((nI i_69) + 1)), (0, .ref (b + 27)), (1, .int (nI T)), (2, .int y), (3, .int w), (4, .int (sc 22)), (5, .int (n0 + 1))]) [0, 6, 7, 8, 9, 10, 1] rfl ?_
                have e_28 : (((nI i_69) + 1) : Int32) = (nI (i_69 + 1)) := nI_1 _
                refine v_cong (es' := (wl D b (va_up (va_up sc 29 sd25) 22 h0) (va_up (va_up ar 37 (copN (ar 30) (ar 37) 12)) 30 r0) hn mh G)) (lv' := [(6, .int (nI (i_69 + 1))), (0, .ref (b + 27)), (1, .int (nI T)), (2, .int y), (3, .int w), (4, .int (sc 22)), (5, .int (n0 + 1))]) rfl (cg1 (fun (z0 : Int32) => ([(6, .int z0), (0, .ref (b + 27)), (1, .int (nI T)), (2, .int y), (3, .int w), (4, .int (sc 22)), (5, .int (n0 + 1))] : List (Nat × Value))) e_28) ?_
                exact ih_69 (n0 + 1) sd25 h0 r0 (by subst hv25 hsd25 hv24 hsd24; rw [jrN, ← hp_69, hkN]; simp only [jrS, eq_false p_1, eq_true (Int32.not_lt.mp p_1), eq_false p_3, eq_true (Int32.not_lt.mp p_3), eq_false c_5, eq_false c_6, eq_true (Int32.not_lt.mp c_6), eq_false p_7, eq_true (Int32.not_lt.mp p_7), eq_false p_9, eq_true (Int32.not_lt.mp p_9), eq_false c_11, eq_false p_12, eq_true c_14, hTc, hTH, eq_false g_21, eq_true (Int32.not_le.mp g_21), eq_false c_22, eq_true (Int32.not_le.mp c_22), hkN, eq_true c_26, ↓reduceIte])
        · exact absurd c_14 (by decide)
      · exact absurd c_11 (by decide)
