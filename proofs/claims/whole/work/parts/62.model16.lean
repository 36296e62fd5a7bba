/-- the digest -/
def mdI (sc : Nat → Int32) (ar : Nat → Nat → Int32) (Hn c : Nat) (h : Int64) : Nat → Int64
  | 0 => h
  | w + 1 => 31 * mdI sc ar Hn c h w + Int32.toInt64 (mtcF sc ar Hn (nI c) (nI w))
def mdC (sc : Nat → Int32) (ar : Nat → Nat → Int32) (Hn : Nat) : Nat → Int64
  | 0 => 863
  | c + 1 => if sc 21 = 0 then mdC sc ar Hn c else mdI sc ar Hn c (mdC sc ar Hn c) 4
theorem mdC_no {sc : Nat → Int32} {ar : Nat → Nat → Int32} {Hn : Nat} (h : sc 21 = 0) : ∀ n m, mdC sc ar Hn n = mdC sc ar Hn m := by
  have k : ∀ n, mdC sc ar Hn n = 863 := by
    intro n
    induction n with
    | zero => rfl
    | succ n ih => rw [mdC, if_pos h]; exact ih
  intro n m
  rw [k, k]
noncomputable def mdH (F : Nat → Int64 → Int64) (h : Int64) : Nat → Int64
  | 0 => h
  | k + 1 => F k (mdH F h k)
def mdP (f : Nat → Int32) (h : Int64) : Nat → Int64
  | 0 => h
  | i + 1 => 31 * mdP f h i + Int32.toInt64 (f i)
def mdK (sc : Nat → Int32) (ar : Nat → Nat → Int32) (Hn : Nat) (h : Int64) : Nat → Int64
  | 0 => h
  | w + 1 => 31 * mdK sc ar Hn h w + Int32.toInt64 (mctF sc ar Hn (nI w))
set_option maxHeartbeats 4000000 in
set_option maxRecDepth 100000 in
theorem m_digest (l : Launch) (D : va_G) (b : Nat) (sc : Nat → Int32) (ar : Nat → Nat → Int32) (hn : Nat → Option Nat) (mh : Int64) (G : List va_E) (hi kk dd FF : Nat → Nat) (R H W : Nat) (h21 : sc 21 = nI R) (hR : R ≤ 9) (h22 : sc 22 = nI H) (hHb : H ≤ 999) (h23 : sc 23 = nI W) (hW : W < 5) (Hn : Nat) (hH : sc 25 = nI Hn) (hH3 : Hn ≤ 3) (hZ : ∀ k, k < Hn → zM ar k hi (kk k) (dd k) (FF k)) (Sn : Nat) (hS : sc 28 = nI Sn) (hS6 : Sn ≤ 6) (hrc : ∀ k, k < Hn → vp_in (ar 30 (4 * k + 2)) 12) (Pn : Nat) (hP : sc 20 = nI Pn) (hP18 : Pn ≤ 18) : Con l yX12_digest cX12_digest 3 (some .long) 6 158 D b 0 0 (wl D b sc ar hn mh G) [.ref (b + 27)] (fun r es' => r = some (.long (mdK sc ar Hn (mdP (ar 28) (mdH (fun k h => mshF sc ar k (fun c => (vyQ hi R W (kk k) (dd k) (FF k) H).1 c) (fun c => stQ hi R W (kk k) (dd k) (ar 35) (nI k) Sn c) h) (mdC sc ar Hn 12) Hn) Pn) 9)) ∧ ∃ sc' ar' mh', PerM sc ar sc' ar' ∧ wl D b sc' ar' hn mh' G = es') := by
  refine con_of (by decide) (Nat.le_of_ble_eq_true rfl) (fun p e s m args below meth c C hsz => ?_)
  have C : vC p s m args meth c cX12_digest 3 RX12 "digest" (some .long) D b := C
  change V p l e _ s m args below meth c D b 3 _ 0 0 (wl D b sc ar hn mh G) [(0, .ref (b + 27))] [] 0
  refine v_aload_n (n := 1) C dX12_digest_0 rfl rfl rfl ?_
  refine v_ldc2 (n := 4) C dX12_digest_1 rfl kl_X12_231 ?_
  refine v_put (n := 7) (es' := (wl D b sc ar hn 863 G)) C dX12_digest_4 rfl fl_X12_223_X12 (fp_any fp_X12_27) wl_c27 rfl rfl (Nat.le_of_ble_eq_true rfl) wl_p27_27 ?_
  refine v_iconst (n := 8) (v := 0) C dX12_digest_7 rfl (by decide) ?_
  refine v_istore_n (n := 9) (lv' := [(1, .int 0), (0, .ref (b + 27))]) C dX12_digest_8 rfl rfl (Nat.le_of_ble_eq_true rfl) rfl ?_
  refine v_pick (lv' := [(1, .int 0), (0, .ref (b + 27))]) [0, 1] rfl ?_
  have e_1 : (0 : Int32) = (nI 0) := rfl
  have e_2 : (863 : Int64) = (mdC sc ar Hn 0) := by first | rfl | (simp only [mdC, mdI, ↓reduceIte]; done)
  refine v_cong (es' := (wl D b sc ar hn (mdC sc ar Hn 0) G)) (lv' := [(1, .int (nI 0)), (0, .ref (b + 27))]) (cg1 (fun (y0 : Int64) => wl D b sc ar hn y0 G) e_2) (cg1 (fun (z0 : Int32) => ([(1, .int z0), (0, .ref (b + 27))] : List (Nat × Value))) e_1) ?_
  refine loop_dn (P := fun i_9 => V p l e { frames := 6, cells := 0, slots := 0, locals := 158 } s m args below meth c D b 3 (MQ below (cQ D b 0 (fun r es' => r = some (.long (mdK sc ar Hn (mdP (ar 28) (mdH (fun k h => mshF sc ar k (fun c => (vyQ hi R W (kk k) (dd k) (FF k) H).1 c) (fun c => stQ hi R W (kk k) (dd k) (ar 35) (nI k) Sn c) h) (mdC sc ar Hn 12) Hn) Pn) 9)) ∧ ∃ sc' ar' mh', PerM sc ar sc' ar' ∧ wl D b sc' ar' hn mh' G = es')) args s 0 0 (fun q => b ≤ q)) 0 0 (wl D b sc ar hn (mdC sc ar Hn i_9) G) [(1, .int (nI i_9)), (0, .ref (b + 27))] [] 9) 12 ?_ (fun i_9 hi_9 ih_9 => ?_)
  · skip
    have g_3 : (12 : Int32) ≤ (nI 12) := by decide
    refine v_iload_n (n := 10) C dX12_digest_9 rfl rfl rfl ?_
    refine v_bipush (n := 12) (v := 12) C dX12_digest_10 rfl (by decide) ?_
    refine v_icmp_ge (t := 52) (n := 15) C dX12_digest_12 (by decide) rfl (fun c_4 => ?_) (fun c_4 => ?_)
    · skip
      refine v_iconst (n := 53) (v := 0) C dX12_digest_52 rfl (by decide) ?_
      refine v_istore_n (n := 54) (lv' := [(1, .int 0), (0, .ref (b + 27))]) C dX12_digest_53 rfl rfl (Nat.le_of_ble_eq_true rfl) rfl ?_
      refine v_pick (lv' := [(1, .int 0), (0, .ref (b + 27))]) [0, 1] rfl ?_
      have e_5 : (0 : Int32) = (nI 0) := rfl
      refine v_cong (es' := (wl D b sc (va_up (va_up (va_up ar 31 (ar 31)) 32 (ar 32)) 36 (ar 36)) hn (mdC sc ar Hn 12) G)) (lv' := [(1, .int 0), (0, .ref (b + 27))]) rfl rfl ?_
      have e_6 : ((ar 31) : Nat → Int32) = (ar 31, ar 32).1 := rfl
      have e_7 : ((ar 32) : Nat → Int32) = (ar 31, ar 32).2 := rfl
      have e_8 : ((mdC sc ar Hn 12) : Int64) = (mdH (fun k h => mshF sc ar k (fun c => (vyQ hi R W (kk k) (dd k) (FF k) H).1 c) (fun c => stQ hi R W (kk k) (dd k) (ar 35) (nI k) Sn c) h) (mdC sc ar Hn 12) 0) := rfl
      refine v_cong (es' := (wl D b sc (va_up (va_up (va_up ar 31 (ar 31, ar 32).1) 32 (ar 31, ar 32).2) 36 (ar 36)) hn (mdH (fun k h => mshF sc ar k (fun c => (vyQ hi R W (kk k) (dd k) (FF k) H).1 c) (fun c => stQ hi R W (kk k) (dd k) (ar 35) (nI k) Sn c) h) (mdC sc ar Hn 12) 0) G)) (lv' := [(1, .int (nI 0)), (0, .ref (b + 27))]) (cg3 (fun (y0 : Nat → Int32) (y1 : Nat → Int32) (y2 : Int64) => wl D b sc (va_up (va_up (va_up ar 31 y0) 32 y1) 36 (ar 36)) hn y2 G) e_6 e_7 e_8) (cg1 (fun (z0 : Int32) => ([(1, .int z0), (0, .ref (b + 27))] : List (Nat × Value))) e_5) ?_
      refine loop_dn (P := fun i_54 => ∀ (q : HF) (L : Nat → Int32), V p l e { frames := 6, cells := 0, slots := 0, locals := 158 } s m args below meth c D b 3 (MQ below (cQ D b 0 (fun r es' => r = some (.long (mdK sc ar Hn (mdP (ar 28) (mdH (fun k h => mshF sc ar k (fun c => (vyQ hi R W (kk k) (dd k) (FF k) H).1 c) (fun c => stQ hi R W (kk k) (dd k) (ar 35) (nI k) Sn c) h) (mdC sc ar Hn 12) Hn) Pn) 9)) ∧ ∃ sc' ar' mh', PerM sc ar sc' ar' ∧ wl D b sc' ar' hn mh' G = es')) args s 0 0 (fun q => b ≤ q)) 0 0 (wl D b sc (va_up (va_up (va_up ar 31 q.1) 32 q.2) 36 L) hn (mdH (fun k h => mshF sc ar k (fun c => (vyQ hi R W (kk k) (dd k) (FF k) H).1 c) (fun c => stQ hi R W (kk k) (dd k) (ar 35) (nI k) Sn c) h) (mdC sc ar Hn 12) i_54) G) [(1, .int (nI i_54)), (0, .ref (b + 27))] [] 54) Hn ?_ (fun i_54 hi_54 ih_54 => ?_) (ar 31, ar 32) (ar 36)
      · intro q L
        have g_9 : ((sc 25) : Int32) ≤ (nI Hn) := by rw [hH]; exact Int32.le_refl _
        refine v_iload_n (n := 55) C dX12_digest_54 rfl rfl rfl ?_
        refine v_aload_n (n := 56) C dX12_digest_55 rfl rfl rfl ?_
        refine v_get (n := 59) C dX12_digest_56 rfl fl_X12_78_X12 wl_c27 rfl ?_
        refine v_icmp_ge (t := 73) (n := 62) C dX12_digest_59 (by decide) rfl (fun c_10 => ?_) (fun c_10 => ?_)
        · skip
          refine v_iconst (n := 74) (v := 0) C dX12_digest_73 rfl (by decide) ?_
          refine v_istore_n (n := 75) (lv' := [(1, .int 0), (0, .ref (b + 27))]) C dX12_digest_74 rfl rfl (Nat.le_of_ble_eq_true rfl) rfl ?_
          refine v_pick (lv' := [(1, .int 0), (0, .ref (b + 27))]) [0, 1] rfl ?_
          have e_11 : (0 : Int32) = (nI 0) := rfl
          have e_12 : ((mdH (fun k h => mshF sc ar k (fun c => (vyQ hi R W (kk k) (dd k) (FF k) H).1 c) (fun c => stQ hi R W (kk k) (dd k) (ar 35) (nI k) Sn c) h) (mdC sc ar Hn 12) Hn) : Int64) = (mdP (ar 28) (mdH (fun k h => mshF sc ar k (fun c => (vyQ hi R W (kk k) (dd k) (FF k) H).1 c) (fun c => stQ hi R W (kk k) (dd k) (ar 35) (nI k) Sn c) h) (mdC sc ar Hn 12) Hn) 0) := rfl
          refine v_cong (es' := (wl D b sc (va_up (va_up (va_up ar 31 q.1) 32 q.2) 36 L) hn (mdP (ar 28) (mdH (fun k h => mshF sc ar k (fun c => (vyQ hi R W (kk k) (dd k) (FF k) H).1 c) (fun c => stQ hi R W (kk k) (dd k) (ar 35) (nI k) Sn c) h) (mdC sc ar Hn 12) Hn) 0) G)) (lv' := [(1, .int (nI 0)), (0, .ref (b + 27))]) (cg1 (fun (y0 : Int64) => wl D b sc (va_up (va_up (va_up ar 31 q.1) 32 q.2) 36 L) hn y0 G) e_12) (cg1 (fun (z0 : Int32) => ([(1, .int z0), (0, .ref (b + 27))] : List (Nat × Value))) e_11) ?_
          refine loop_dn (P := fun i_75 => ∀ (q : HF) (L : Nat → Int32), V p l e { frames := 6, cells := 0, slots := 0, locals := 158 } s m args below meth c D b 3 (MQ below (cQ D b 0 (fun r es' => r = some (.long (mdK sc ar Hn (mdP (ar 28) (mdH (fun k h => mshF sc ar k (fun c => (vyQ hi R W (kk k) (dd k) (FF k) H).1 c) (fun c => stQ hi R W (kk k) (dd k) (ar 35) (nI k) Sn c) h) (mdC sc ar Hn 12) Hn) Pn) 9)) ∧ ∃ sc' ar' mh', PerM sc ar sc' ar' ∧ wl D b sc' ar' hn mh' G = es')) args s 0 0 (fun q => b ≤ q)) 0 0 (wl D b sc (va_up (va_up (va_up ar 31 q.1) 32 q.2) 36 L) hn (mdP (ar 28) (mdH (fun k h => mshF sc ar k (fun c => (vyQ hi R W (kk k) (dd k) (FF k) H).1 c) (fun c => stQ hi R W (kk k) (dd k) (ar 35) (nI k) Sn c) h) (mdC sc ar Hn 12) Hn) i_75) G) [(1, .int (nI i_75)), (0, .ref (b + 27))] [] 75) Pn ?_ (fun i_75 hi_75 ih_75 => ?_) q L
          · intro q L
            have g_13 : ((sc 20) : Int32) ≤ (nI Pn) := by rw [hP]; exact Int32.le_refl _
            refine v_iload_n (n := 76) C dX12_digest_75 rfl rfl rfl ?_
            refine v_aload_n (n := 77) C dX12_digest_76 rfl rfl rfl ?_
            refine v_get (n := 80) C dX12_digest_77 rfl fl_X12_59_X12 wl_c27 rfl ?_
            refine v_icmp_ge (t := 100) (n := 83) C dX12_digest_80 (by decide) rfl (fun c_14 => ?_) (fun c_14 => ?_)
            · skip
              refine v_iconst (n := 101) (v := 0) C dX12_digest_100 rfl (by decide) ?_
              refine v_istore_n (n := 102) (lv' := [(1, .int 0), (0, .ref (b + 27))]) C dX12_digest_101 rfl rfl (Nat.le_of_ble_eq_true rfl) rfl ?_
              refine v_pick (lv' := [(1, .int 0), (0, .ref (b + 27))]) [0, 1] rfl ?_
              have e_15 : (0 : Int32) = (nI 0) := rfl
              have e_16 : ((mdP (ar 28) (mdH (fun k h => mshF sc ar k (fun c => (vyQ hi R W (kk k) (dd k) (FF k) H).1 c) (fun c => stQ hi R W (kk k) (dd k) (ar 35) (nI k) Sn c) h) (mdC sc ar Hn 12) Hn) Pn) : Int64) = (mdK sc ar Hn (mdP (ar 28) (mdH (fun k h => mshF sc ar k (fun c => (vyQ hi R W (kk k) (dd k) (FF k) H).1 c) (fun c => stQ hi R W (kk k) (dd k) (ar 35) (nI k) Sn c) h) (mdC sc ar Hn 12) Hn) Pn) 0) := rfl
              refine v_cong (es' := (wl D b sc (va_up (va_up (va_up ar 31 q.1) 32 q.2) 36 L) hn (mdK sc ar Hn (mdP (ar 28) (mdH (fun k h => mshF sc ar k (fun c => (vyQ hi R W (kk k) (dd k) (FF k) H).1 c) (fun c => stQ hi R W (kk k) (dd k) (ar 35) (nI k) Sn c) h) (mdC sc ar Hn 12) Hn) Pn) 0) G)) (lv' := [(1, .int (nI 0)), (0, .ref (b + 27))]) (cg1 (fun (y0 : Int64) => wl D b sc (va_up (va_up (va_up ar 31 q.1) 32 q.2) 36 L) hn y0 G) e_16) (cg1 (fun (z0 : Int32) => ([(1, .int z0), (0, .ref (b + 27))] : List (Nat × Value))) e_15) ?_
              refine loop_dn (P := fun i_102 => ∀ (q : HF) (L : Nat → Int32), V p l e { frames := 6, cells := 0, slots := 0, locals := 158 } s m args below meth c D b 3 (MQ below (cQ D b 0 (fun r es' => r = some (.long (mdK sc ar Hn (mdP (ar 28) (mdH (fun k h => mshF sc ar k (fun c => (vyQ hi R W (kk k) (dd k) (FF k) H).1 c) (fun c => stQ hi R W (kk k) (dd k) (ar 35) (nI k) Sn c) h) (mdC sc ar Hn 12) Hn) Pn) 9)) ∧ ∃ sc' ar' mh', PerM sc ar sc' ar' ∧ wl D b sc' ar' hn mh' G = es')) args s 0 0 (fun q => b ≤ q)) 0 0 (wl D b sc (va_up (va_up (va_up ar 31 q.1) 32 q.2) 36 L) hn (mdK sc ar Hn (mdP (ar 28) (mdH (fun k h => mshF sc ar k (fun c => (vyQ hi R W (kk k) (dd k) (FF k) H).1 c) (fun c => stQ hi R W (kk k) (dd k) (ar 35) (nI k) Sn c) h) (mdC sc ar Hn 12) Hn) Pn) i_102) G) [(1, .int (nI i_102)), (0, .ref (b + 27))] [] 102) 9 ?_ (fun i_102 hi_102 ih_102 => ?_) q L
              · intro q L
                have g_17 : (9 : Int32) ≤ (nI 9) := by decide
                refine v_iload_n (n := 103) C dX12_digest_102 rfl rfl rfl ?_
                refine v_bipush (n := 105) (v := 9) C dX12_digest_103 rfl (by decide) ?_
                refine v_icmp_ge (t := 124) (n := 108) C dX12_digest_105 (by decide) rfl (fun c_18 => ?_) (fun c_18 => ?_)
                · skip
                  refine v_aload_n (n := 125) C dX12_digest_124 rfl rfl rfl ?_
                  refine v_get (n := 128) C dX12_digest_125 rfl fl_X12_223_X12 wl_c27 rfl ?_
                  exact v_lret C dX12_digest_128 rfl ⟨rfl, sc, (va_up (va_up (va_up ar 31 q.1) 32 q.2) 36 L), (mdK sc ar Hn (mdP (ar 28) (mdH (fun k h => mshF sc ar k (fun c => (vyQ hi R W (kk k) (dd k) (FF k) H).1 c) (fun c => stQ hi R W (kk k) (dd k) (ar 35) (nI k) Sn c) h) (mdC sc ar Hn 12) Hn) Pn) 9), (PerM_a (by decide) (PerM_a (by decide) (PerM_a (by decide) PerM_rf))), rfl⟩
                · first | exact absurd c_18 g_17 | exact absurd g_17 c_18 | exact absurd c_18 (Int32.not_le.mpr g_17) | exact absurd c_18 (Int32.not_lt.mpr g_17) | exact absurd (Int32.not_le.mp g_17) c_18 | exact absurd (Int32.not_lt.mp g_17) c_18 | exact absurd (Int32.not_le.mp g_17) (Int32.not_lt.mpr c_18) | exact absurd (Int32.not_lt.mp g_17) (Int32.not_le.mpr c_18) | exact absurd (Int32.not_lt.mp c_18) (Int32.not_le.mpr (Int32.not_le.mp g_17))
              · intro q L
                have g_19 : ¬ (9 : Int32) ≤ (nI i_102) := nI_ge (a := i_102 + 0) (b := 9) (by omega) (by decide)
                refine v_iload_n (n := 103) C dX12_digest_102 rfl rfl rfl ?_
                refine v_bipush (n := 105) (v := 9) C dX12_digest_103 rfl (by decide) ?_
                refine v_icmp_ge (t := 124) (n := 108) C dX12_digest_105 (by decide) rfl (fun c_20 => ?_) (fun c_20 => ?_)
                · first | exact absurd c_20 g_19 | exact absurd g_19 c_20 | exact absurd c_20 (Int32.not_le.mpr g_19) | exact absurd c_20 (Int32.not_lt.mpr g_19) | exact absurd (Int32.not_le.mp g_19) c_20 | exact absurd (Int32.not_lt.mp g_19) c_20 | exact absurd (Int32.not_le.mp g_19) (Int32.not_lt.mpr c_20) | exact absurd (Int32.not_lt.mp g_19) (Int32.not_le.mpr c_20) | exact absurd (Int32.not_lt.mp c_20) (Int32.not_le.mpr (Int32.not_le.mp g_19))
                · skip
                  refine v_aload_n (n := 109) C dX12_digest_108 rfl rfl rfl ?_
                  refine v_aload_n (n := 110) C dX12_digest_109 rfl rfl rfl ?_
                  refine v_iload_n (n := 111) C dX12_digest_110 rfl rfl rfl ?_
                  refine v_go (n := 114) C (vRun_V (As := [.int (nI i_102)]) (rest := [.ref (b + 27)]) C wl_c27 rfl lk_X12_218 im_X12_countOf se_X12_countOf dX12_digest_111 (m_countOf l D b sc (va_up (va_up (va_up ar 31 q.1) 32 q.2) 36 L) hn (mdK sc ar Hn (mdP (ar 28) (mdH (fun k h => mshF sc ar k (fun c => (vyQ hi R W (kk k) (dd k) (FF k) H).1 c) (fun c => stQ hi R W (kk k) (dd k) (ar 35) (nI k) Sn c) h) (mdC sc ar Hn 12) Hn) Pn) i_102) G (nI i_102) Hn hH hH3 hrc) wm_X12_countOf rfl rfl ⟨Nat.le_of_ble_eq_true rfl, Nat.le_of_ble_eq_true rfl⟩ ⟨Nat.le_of_ble_eq_true rfl, Nat.le_of_ble_eq_true rfl⟩ (Nat.le_of_ble_eq_true rfl)) rfl ?_
                  rintro _ _ ⟨rfl, rfl⟩ -
                  refine v_stk (st' := .int (mctF sc ar Hn (nI i_102)) :: [.ref (b + 27)]) (congrArg (fun z : Int32 => Value.int z :: [.ref (b + 27)]) (mct_cg rfl rfl)) ?_
                  refine v_i2l (n := 115) C dX12_digest_114 rfl ?_
                  refine v_go (n := 118) C (vRun_V (As := [.long (Int32.toInt64 (mctF sc ar Hn (nI i_102)))]) (rest := []) C wl_c27 rfl lk_X12_227 im_X12_say se_X12_say dX12_digest_115 (m_say l D b sc (va_up (va_up (va_up ar 31 q.1) 32 q.2) 36 L) hn (mdK sc ar Hn (mdP (ar 28) (mdH (fun k h => mshF sc ar k (fun c => (vyQ hi R W (kk k) (dd k) (FF k) H).1 c) (fun c => stQ hi R W (kk k) (dd k) (ar 35) (nI k) Sn c) h) (mdC sc ar Hn 12) Hn) Pn) i_102) G (Int32.toInt64 (mctF sc ar Hn (nI i_102)))) wm_X12_say rfl rfl ⟨Nat.le_of_ble_eq_true rfl, Nat.le_of_ble_eq_true rfl⟩ ⟨Nat.le_of_ble_eq_true rfl, Nat.le_of_ble_eq_true rfl⟩ (Nat.le_of_ble_eq_true rfl)) rfl ?_
                  rintro _ _ ⟨rfl, rfl⟩ -
                  refine v_iinc (n := 121) (v := ((nI i_102) + 1)) (lv' := [(1, .int ((nI i_102) + 1)), (0, .ref (b + 27))]) C dX12_digest_118 rfl rfl rfl (Nat.le_of_ble_eq_true rfl) rfl ?_
                  refine v_goto (t := 102) C dX12_digest_121 (by decide) ?_
                  refine v_pick (lv' := [(1, .int ((nI i_102) + 1)), (0, .ref (b + 27))]) [0, 1] rfl ?_
                  have e_21 : (((nI i_102) + 1) : Int32) = (nI (i_102 + 1)) := nI_1 _
                  have e_22 : ((31 * (mdK sc ar Hn (mdP (ar 28) (mdH (fun k h => mshF sc ar k (fun c => (vyQ hi R W (kk k) (dd k) (FF k) H).1 c) (fun c => stQ hi R W (kk k) (dd k) (ar 35) (nI k) Sn c) h) (mdC sc ar Hn 12) Hn) Pn) i_102) + (Int32.toInt64 (mctF sc ar Hn (nI i_102)))) : Int64) = (mdK sc ar Hn (mdP (ar 28) (mdH (fun k h => mshF sc ar k (fun c => (vyQ hi R W (kk k) (dd k) (FF k) H).1 c) (fun c => stQ hi R W (kk k) (dd k) (ar 35) (nI k) Sn c) h) (mdC sc ar Hn 12) Hn) Pn) (i_102 + 1)) := rfl
                  refine v_cong (es' := (wl D b sc (va_up (va_up (va_up ar 31 q.1) 32 q.2) 36 L) hn (mdK sc ar Hn (mdP (ar 28) (mdH (fun k h => mshF sc ar k (fun c => (vyQ hi R W (kk k) (dd k) (FF k) H).1 c) (fun c => stQ hi R W (kk k) (dd k) (ar 35) (nI k) Sn c) h) (mdC sc ar Hn 12) Hn) Pn) (i_102 + 1)) G)) (lv' := [(1, .int (nI (i_102 + 1))), (0, .ref (b + 27))]) (cg1 (fun (y0 : Int64) => wl D b sc (va_up (va_up (va_up ar 31 q.1) 32 q.2) 36 L) hn y0 G) e_22) (cg1 (fun (z0 : Int32) => ([(1, .int z0), (0, .ref (b + 27))] : List (Nat × Value))) e_21) ?_
                  exact ih_102 q L
            · first | exact absurd c_14 g_13 | exact absurd g_13 c_14 | exact absurd c_14 (Int32.not_le.mpr g_13) | exact absurd c_14 (Int32.not_lt.mpr g_13) | exact absurd (Int32.not_le.mp g_13) c_14 | exact absurd (Int32.not_lt.mp g_13) c_14 | exact absurd (Int32.not_le.mp g_13) (Int32.not_lt.mpr c_14) | exact absurd (Int32.not_lt.mp g_13) (Int32.not_le.mpr c_14) | exact absurd (Int32.not_lt.mp c_14) (Int32.not_le.mpr (Int32.not_le.mp g_13))
          · intro q L
            have g_23 : ¬ ((sc 20) : Int32) ≤ (nI i_75) := by rw [hP]; exact nI_ge hi_75 (by omega)
            refine v_iload_n (n := 76) C dX12_digest_75 rfl rfl rfl ?_
            refine v_aload_n (n := 77) C dX12_digest_76 rfl rfl rfl ?_
            refine v_get (n := 80) C dX12_digest_77 rfl fl_X12_59_X12 wl_c27 rfl ?_
            refine v_icmp_ge (t := 100) (n := 83) C dX12_digest_80 (by decide) rfl (fun c_24 => ?_) (fun c_24 => ?_)
            · first | exact absurd c_24 g_23 | exact absurd g_23 c_24 | exact absurd c_24 (Int32.not_le.mpr g_23) | exact absurd c_24 (Int32.not_lt.mpr g_23) | exact absurd (Int32.not_le.mp g_23) c_24 | exact absurd (Int32.not_lt.mp g_23) c_24 | exact absurd (Int32.not_le.mp g_23) (Int32.not_lt.mpr c_24) | exact absurd (Int32.not_lt.mp g_23) (Int32.not_le.mpr c_24) | exact absurd (Int32.not_lt.mp c_24) (Int32.not_le.mpr (Int32.not_le.mp g_23))
            · skip
              refine v_aload_n (n := 84) C dX12_digest_83 rfl rfl rfl ?_
              refine v_aload_n (n := 85) C dX12_digest_84 rfl rfl rfl ?_
              refine v_get (n := 88) C dX12_digest_85 rfl fl_X12_7_X12 wl_c27 rfl ?_
              refine v_iload_n (n := 89) C dX12_digest_88 rfl rfl rfl ?_
              refine v_iald (n := 90) C dX12_digest_89 rfl (show (wl D b sc (va_up (va_up (va_up ar 31 q.1) 32 q.2) 36 L) hn (mdP (ar 28) (mdH (fun k h => mshF sc ar k (fun c => (vyQ hi R W (kk k) (dd k) (FF k) H).1 c) (fun c => stQ hi R W (kk k) (dd k) (ar 35) (nI k) Sn c) h) (mdC sc ar Hn 12) Hn) i_75) G)[28]? = some (.inl (D.1 13, 18, .inl (ar 28))) from wl_c28) (vp_in_nI (by omega) (by decide)) ?_
              refine v_stk (st' := .int ((ar 28) i_75) :: [.ref (b + 27)]) (congrArg (fun z : Nat => Value.int ((ar 28) z) :: [.ref (b + 27)]) (nI_clamp (show i_75 < 2 ^ 31 by omega))) ?_
              refine v_i2l (n := 91) C dX12_digest_90 rfl ?_
              refine v_go (n := 94) C (vRun_V (As := [.long (Int32.toInt64 ((ar 28) i_75))]) (rest := []) C wl_c27 rfl lk_X12_227 im_X12_say se_X12_say dX12_digest_91 (m_say l D b sc (va_up (va_up (va_up ar 31 q.1) 32 q.2) 36 L) hn (mdP (ar 28) (mdH (fun k h => mshF sc ar k (fun c => (vyQ hi R W (kk k) (dd k) (FF k) H).1 c) (fun c => stQ hi R W (kk k) (dd k) (ar 35) (nI k) Sn c) h) (mdC sc ar Hn 12) Hn) i_75) G (Int32.toInt64 ((ar 28) i_75))) wm_X12_say rfl rfl ⟨Nat.le_of_ble_eq_true rfl, Nat.le_of_ble_eq_true rfl⟩ ⟨Nat.le_of_ble_eq_true rfl, Nat.le_of_ble_eq_true rfl⟩ (Nat.le_of_ble_eq_true rfl)) rfl ?_
              rintro _ _ ⟨rfl, rfl⟩ -
              refine v_iinc (n := 97) (v := ((nI i_75) + 1)) (lv' := [(1, .int ((nI i_75) + 1)), (0, .ref (b + 27))]) C dX12_digest_94 rfl rfl rfl (Nat.le_of_ble_eq_true rfl) rfl ?_
              refine v_goto (t := 75) C dX12_digest_97 (by decide) ?_
              refine v_pick (lv' := [(1, .int ((nI i_75) + 1)), (0, .ref (b + 27))]) [0, 1] rfl ?_
              have e_25 : (((nI i_75) + 1) : Int32) = (nI (i_75 + 1)) := nI_1 _
              have e_26 : ((31 * (mdP (ar 28) (mdH (fun k h => mshF sc ar k (fun c => (vyQ hi R W (kk k) (dd k) (FF k) H).1 c) (fun c => stQ hi R W (kk k) (dd k) (ar 35) (nI k) Sn c) h) (mdC sc ar Hn 12) Hn) i_75) + (Int32.toInt64 ((ar 28) i_75))) : Int64) = (mdP (ar 28) (mdH (fun k h => mshF sc ar k (fun c => (vyQ hi R W (kk k) (dd k) (FF k) H).1 c) (fun c => stQ hi R W (kk k) (dd k) (ar 35) (nI k) Sn c) h) (mdC sc ar Hn 12) Hn) (i_75 + 1)) := rfl
              refine v_cong (es' := (wl D b sc (va_up (va_up (va_up ar 31 q.1) 32 q.2) 36 L) hn (mdP (ar 28) (mdH (fun k h => mshF sc ar k (fun c => (vyQ hi R W (kk k) (dd k) (FF k) H).1 c) (fun c => stQ hi R W (kk k) (dd k) (ar 35) (nI k) Sn c) h) (mdC sc ar Hn 12) Hn) (i_75 + 1)) G)) (lv' := [(1, .int (nI (i_75 + 1))), (0, .ref (b + 27))]) (cg1 (fun (y0 : Int64) => wl D b sc (va_up (va_up (va_up ar 31 q.1) 32 q.2) 36 L) hn y0 G) e_26) (cg1 (fun (z0 : Int32) => ([(1, .int z0), (0, .ref (b + 27))] : List (Nat × Value))) e_25) ?_
              exact ih_75 q L
        · first | exact absurd c_10 g_9 | exact absurd g_9 c_10 | exact absurd c_10 (Int32.not_le.mpr g_9) | exact absurd c_10 (Int32.not_lt.mpr g_9) | exact absurd (Int32.not_le.mp g_9) c_10 | exact absurd (Int32.not_lt.mp g_9) c_10 | exact absurd (Int32.not_le.mp g_9) (Int32.not_lt.mpr c_10) | exact absurd (Int32.not_lt.mp g_9) (Int32.not_le.mpr c_10) | exact absurd (Int32.not_lt.mp c_10) (Int32.not_le.mpr (Int32.not_le.mp g_9))
      · intro q L
        have g_27 : ¬ ((sc 25) : Int32) ≤ (nI i_54) := by rw [hH]; exact nI_ge hi_54 (by omega)
        refine v_iload_n (n := 55) C dX12_digest_54 rfl rfl rfl ?_
        refine v_aload_n (n := 56) C dX12_digest_55 rfl rfl rfl ?_
        refine v_get (n := 59) C dX12_digest_56 rfl fl_X12_78_X12 wl_c27 rfl ?_
        refine v_icmp_ge (t := 73) (n := 62) C dX12_digest_59 (by decide) rfl (fun c_28 => ?_) (fun c_28 => ?_)
        · first | exact absurd c_28 g_27 | exact absurd g_27 c_28 | exact absurd c_28 (Int32.not_le.mpr g_27) | exact absurd c_28 (Int32.not_lt.mpr g_27) | exact absurd (Int32.not_le.mp g_27) c_28 | exact absurd (Int32.not_lt.mp g_27) c_28 | exact absurd (Int32.not_le.mp g_27) (Int32.not_lt.mpr c_28) | exact absurd (Int32.not_lt.mp g_27) (Int32.not_le.mpr c_28) | exact absurd (Int32.not_lt.mp c_28) (Int32.not_le.mpr (Int32.not_le.mp g_27))
        · skip
          refine v_aload_n (n := 63) C dX12_digest_62 rfl rfl rfl ?_
          refine v_iload_n (n := 64) C dX12_digest_63 rfl rfl rfl ?_
          refine v_go (n := 67) C (vRun_V (As := [.int (nI i_54)]) (rest := []) C wl_c27 rfl lk_X12_233 im_X12_sayHull se_X12_sayHull dX12_digest_64 (m_sayHull l D b sc (va_up (va_up (va_up ar 31 q.1) 32 q.2) 36 L) hn (mdH (fun k h => mshF sc ar k (fun c => (vyQ hi R W (kk k) (dd k) (FF k) H).1 c) (fun c => stQ hi R W (kk k) (dd k) (ar 35) (nI k) Sn c) h) (mdC sc ar Hn 12) i_54) G i_54 (show i_54 < 3 by omega) hi R W (kk i_54) (dd i_54) (FF i_54) (hZ i_54 (by omega)) h21 hR h23 hW Sn hS hS6 H h22 hHb (hrc i_54 (by omega))) wm_X12_sayHull rfl rfl ⟨Nat.le_of_ble_eq_true rfl, Nat.le_of_ble_eq_true rfl⟩ ⟨Nat.le_of_ble_eq_true rfl, Nat.le_of_ble_eq_true rfl⟩ (Nat.le_of_ble_eq_true rfl)) rfl ?_
          rintro _ _ ⟨rfl, q29, L29, rfl⟩ -
          refine v_cong (es' := wl D b sc (va_up (va_up (va_up ar 31 q29.1) 32 q29.2) 36 L29) hn (mshF sc (va_up (va_up (va_up ar 31 q.1) 32 q.2) 36 L) i_54 (fun c => (vyQ hi R W (kk i_54) (dd i_54) (FF i_54) H).1 c) (fun c => stQ hi R W (kk i_54) (dd i_54) ((va_up (va_up (va_up ar 31 q.1) 32 q.2) 36 L) 35) (nI i_54) Sn c) (mdH (fun k h => mshF sc ar k (fun c => (vyQ hi R W (kk k) (dd k) (FF k) H).1 c) (fun c => stQ hi R W (kk k) (dd k) (ar 35) (nI k) Sn c) h) (mdC sc ar Hn 12) i_54)) G) (lv' := [(1, .int (nI i_54)), (0, .ref (b + 27))]) rfl rfl ?_
          have e_30 : mshF sc (va_up (va_up (va_up ar 31 q.1) 32 q.2) 36 L) i_54 (fun c => (vyQ hi R W (kk i_54) (dd i_54) (FF i_54) H).1 c) (fun c => stQ hi R W (kk i_54) (dd i_54) ((va_up (va_up (va_up ar 31 q.1) 32 q.2) 36 L) 35) (nI i_54) Sn c) (mdH (fun k h => mshF sc ar k (fun c => (vyQ hi R W (kk k) (dd k) (FF k) H).1 c) (fun c => stQ hi R W (kk k) (dd k) (ar 35) (nI k) Sn c) h) (mdC sc ar Hn 12) i_54) = mshF sc ar i_54 (fun c => (vyQ hi R W (kk i_54) (dd i_54) (FF i_54) H).1 c) (fun c => stQ hi R W (kk i_54) (dd i_54) (ar 35) (nI i_54) Sn c) (mdH (fun k h => mshF sc ar k (fun c => (vyQ hi R W (kk k) (dd k) (FF k) H).1 c) (fun c => stQ hi R W (kk k) (dd k) (ar 35) (nI k) Sn c) h) (mdC sc ar Hn 12) i_54) := msh_cg rfl rfl
          refine v_cong (es' := (wl D b sc (va_up (va_up (va_up ar 31 q29.1) 32 q29.2) 36 L29) hn (mshF sc ar i_54 (fun c => (vyQ hi R W (kk i_54) (dd i_54) (FF i_54) H).1 c) (fun c => stQ hi R W (kk i_54) (dd i_54) (ar 35) (nI i_54) Sn c) (mdH (fun k h => mshF sc ar k (fun c => (vyQ hi R W (kk k) (dd k) (FF k) H).1 c) (fun c => stQ hi R W (kk k) (dd k) (ar 35) (nI k) Sn c) h) (mdC sc ar Hn 12) i_54)) G)) (lv' := [(1, .int (nI i_54)), (0, .ref (b + 27))]) (cg1 (fun (y0 : Int64) => wl D b sc (va_up (va_up (va_up ar 31 q29.1) 32 q29.2) 36 L29) hn y0 G) e_30) rfl ?_
          refine v_iinc (n := 70) (v := ((nI i_54) + 1)) (lv' := [(1, .int ((nI i_54) + 1)), (0, .ref (b + 27))]) C dX12_digest_67 rfl rfl rfl (Nat.le_of_ble_eq_true rfl) rfl ?_
          refine v_goto (t := 54) C dX12_digest_70 (by decide) ?_
          refine v_pick (lv' := [(1, .int ((nI i_54) + 1)), (0, .ref (b + 27))]) [0, 1] rfl ?_
          have e_31 : (((nI i_54) + 1) : Int32) = (nI (i_54 + 1)) := nI_1 _
          have e_32 : ((mshF sc ar i_54 (fun c => (vyQ hi R W (kk i_54) (dd i_54) (FF i_54) H).1 c) (fun c => stQ hi R W (kk i_54) (dd i_54) (ar 35) (nI i_54) Sn c) (mdH (fun k h => mshF sc ar k (fun c => (vyQ hi R W (kk k) (dd k) (FF k) H).1 c) (fun c => stQ hi R W (kk k) (dd k) (ar 35) (nI k) Sn c) h) (mdC sc ar Hn 12) i_54)) : Int64) = (mdH (fun k h => mshF sc ar k (fun c => (vyQ hi R W (kk k) (dd k) (FF k) H).1 c) (fun c => stQ hi R W (kk k) (dd k) (ar 35) (nI k) Sn c) h) (mdC sc ar Hn 12) (i_54 + 1)) := rfl
          refine v_cong (es' := (wl D b sc (va_up (va_up (va_up ar 31 q29.1) 32 q29.2) 36 L29) hn (mdH (fun k h => mshF sc ar k (fun c => (vyQ hi R W (kk k) (dd k) (FF k) H).1 c) (fun c => stQ hi R W (kk k) (dd k) (ar 35) (nI k) Sn c) h) (mdC sc ar Hn 12) (i_54 + 1)) G)) (lv' := [(1, .int (nI (i_54 + 1))), (0, .ref (b + 27))]) (cg1 (fun (y0 : Int64) => wl D b sc (va_up (va_up (va_up ar 31 q29.1) 32 q29.2) 36 L29) hn y0 G) e_32) (cg1 (fun (z0 : Int32) => ([(1, .int z0), (0, .ref (b + 27))] : List (Nat × Value))) e_31) ?_
          exact ih_54 q29 L29
    · first | exact absurd c_4 g_3 | exact absurd g_3 c_4 | exact absurd c_4 (Int32.not_le.mpr g_3) | exact absurd c_4 (Int32.not_lt.mpr g_3) | exact absurd (Int32.not_le.mp g_3) c_4 | exact absurd (Int32.not_lt.mp g_3) c_4 | exact absurd (Int32.not_le.mp g_3) (Int32.not_lt.mpr c_4) | exact absurd (Int32.not_lt.mp g_3) (Int32.not_le.mpr c_4) | exact absurd (Int32.not_lt.mp c_4) (Int32.not_le.mpr (Int32.not_le.mp g_3))
  · skip
    have g_33 : ¬ (12 : Int32) ≤ (nI i_9) := nI_ge (a := i_9 + 0) (b := 12) (by omega) (by decide)
    refine v_iload_n (n := 10) C dX12_digest_9 rfl rfl rfl ?_
    refine v_bipush (n := 12) (v := 12) C dX12_digest_10 rfl (by decide) ?_
    refine v_icmp_ge (t := 52) (n := 15) C dX12_digest_12 (by decide) rfl (fun c_34 => ?_) (fun c_34 => ?_)
    · first | exact absurd c_34 g_33 | exact absurd g_33 c_34 | exact absurd c_34 (Int32.not_le.mpr g_33) | exact absurd c_34 (Int32.not_lt.mpr g_33) | exact absurd (Int32.not_le.mp g_33) c_34 | exact absurd (Int32.not_lt.mp g_33) c_34 | exact absurd (Int32.not_le.mp g_33) (Int32.not_lt.mpr c_34) | exact absurd (Int32.not_lt.mp g_33) (Int32.not_le.mpr c_34) | exact absurd (Int32.not_lt.mp c_34) (Int32.not_le.mpr (Int32.not_le.mp g_33))
    · skip
      refine v_aload_n (n := 16) C dX12_digest_15 rfl rfl rfl ?_
      refine v_go (n := 19) C (vRun_V (As := []) (rest := []) C wl_c27 rfl lk_X12_89 im_X12_lacks se_X12_lacks dX12_digest_16 (m_lacks l D b sc ar hn (mdC sc ar Hn i_9) G) wm_X12_lacks rfl rfl ⟨Nat.le_of_ble_eq_true rfl, Nat.le_of_ble_eq_true rfl⟩ ⟨Nat.le_of_ble_eq_true rfl, Nat.le_of_ble_eq_true rfl⟩ (Nat.le_of_ble_eq_true rfl)) rfl ?_
      rintro _ _ ⟨rfl, rfl⟩ -
      by_cases p_35 : (sc 21) = 0
      · skip
        refine v_stk (st' := .int 1 :: []) (congrArg (fun z : Int32 => Value.int z :: []) (show mlaF (sc 21) = 1 by simp only [mlaF, if_pos p_35])) ?_
        refine v_if_ne (t := 52) (n := 22) C dX12_digest_19 (by decide) rfl (fun c_36 => ?_) (fun c_36 => ?_)
        · skip
          have e_37 : ((mdC sc ar Hn i_9) : Int64) = (mdC sc ar Hn 12) := mdC_no p_35 _ _
          refine v_cong (es' := (wl D b sc ar hn (mdC sc ar Hn 12) G)) (lv' := [(1, .int (nI i_9)), (0, .ref (b + 27))]) (cg1 (fun (y0 : Int64) => wl D b sc ar hn y0 G) e_37) rfl ?_
          refine v_iconst (n := 53) (v := 0) C dX12_digest_52 rfl (by decide) ?_
          refine v_istore_n (n := 54) (lv' := [(1, .int 0), (0, .ref (b + 27))]) C dX12_digest_53 rfl rfl (Nat.le_of_ble_eq_true rfl) rfl ?_
          refine v_pick (lv' := [(1, .int 0), (0, .ref (b + 27))]) [0, 1] rfl ?_
          have e_38 : (0 : Int32) = (nI 0) := rfl
          refine v_cong (es' := (wl D b sc (va_up (va_up (va_up ar 31 (ar 31)) 32 (ar 32)) 36 (ar 36)) hn (mdC sc ar Hn 12) G)) (lv' := [(1, .int 0), (0, .ref (b + 27))]) rfl rfl ?_
          have e_39 : ((ar 31) : Nat → Int32) = (ar 31, ar 32).1 := rfl
          have e_40 : ((ar 32) : Nat → Int32) = (ar 31, ar 32).2 := rfl
          have e_41 : ((mdC sc ar Hn 12) : Int64) = (mdH (fun k h => mshF sc ar k (fun c => (vyQ hi R W (kk k) (dd k) (FF k) H).1 c) (fun c => stQ hi R W (kk k) (dd k) (ar 35) (nI k) Sn c) h) (mdC sc ar Hn 12) 0) := rfl
          refine v_cong (es' := (wl D b sc (va_up (va_up (va_up ar 31 (ar 31, ar 32).1) 32 (ar 31, ar 32).2) 36 (ar 36)) hn (mdH (fun k h => mshF sc ar k (fun c => (vyQ hi R W (kk k) (dd k) (FF k) H).1 c) (fun c => stQ hi R W (kk k) (dd k) (ar 35) (nI k) Sn c) h) (mdC sc ar Hn 12) 0) G)) (lv' := [(1, .int (nI 0)), (0, .ref (b + 27))]) (cg3 (fun (y0 : Nat → Int32) (y1 : Nat → Int32) (y2 : Int64) => wl D b sc (va_up (va_up (va_up ar 31 y0) 32 y1) 36 (ar 36)) hn y2 G) e_39 e_40 e_41) (cg1 (fun (z0 : Int32) => ([(1, .int z0), (0, .ref (b + 27))] : List (Nat × Value))) e_38) ?_
          refine loop_dn (P := fun i_54 => ∀ (q : HF) (L : Nat → Int32), V p l e { frames := 6, cells := 0, slots := 0, locals := 158 } s m args below meth c D b 3 (MQ below (cQ D b 0 (fun r es' => r = some (.long (mdK sc ar Hn (mdP (ar 28) (mdH (fun k h => mshF sc ar k (fun c => (vyQ hi R W (kk k) (dd k) (FF k) H).1 c) (fun c => stQ hi R W (kk k) (dd k) (ar 35) (nI k) Sn c) h) (mdC sc ar Hn 12) Hn) Pn) 9)) ∧ ∃ sc' ar' mh', PerM sc ar sc' ar' ∧ wl D b sc' ar' hn mh' G = es')) args s 0 0 (fun q => b ≤ q)) 0 0 (wl D b sc (va_up (va_up (va_up ar 31 q.1) 32 q.2) 36 L) hn (mdH (fun k h => mshF sc ar k (fun c => (vyQ hi R W (kk k) (dd k) (FF k) H).1 c) (fun c => stQ hi R W (kk k) (dd k) (ar 35) (nI k) Sn c) h) (mdC sc ar Hn 12) i_54) G) [(1, .int (nI i_54)), (0, .ref (b + 27))] [] 54) Hn ?_ (fun i_54 hi_54 ih_54 => ?_) (ar 31, ar 32) (ar 36)
          · intro q L
            have g_42 : ((sc 25) : Int32) ≤ (nI Hn) := by rw [hH]; exact Int32.le_refl _
            refine v_iload_n (n := 55) C dX12_digest_54 rfl rfl rfl ?_
            refine v_aload_n (n := 56) C dX12_digest_55 rfl rfl rfl ?_
            refine v_get (n := 59) C dX12_digest_56 rfl fl_X12_78_X12 wl_c27 rfl ?_
            refine v_icmp_ge (t := 73) (n := 62) C dX12_digest_59 (by decide) rfl (fun c_43 => ?_) (fun c_43 => ?_)
            · skip
              refine v_iconst (n := 74) (v := 0) C dX12_digest_73 rfl (by decide) ?_
              refine v_istore_n (n := 75) (lv' := [(1, .int 0), (0, .ref (b + 27))]) C dX12_digest_74 rfl rfl (Nat.le_of_ble_eq_true rfl) rfl ?_
              refine v_pick (lv' := [(1, .int 0), (0, .ref (b + 27))]) [0, 1] rfl ?_
              have e_44 : (0 : Int32) = (nI 0) := rfl
              have e_45 : ((mdH (fun k h => mshF sc ar k (fun c => (vyQ hi R W (kk k) (dd k) (FF k) H).1 c) (fun c => stQ hi R W (kk k) (dd k) (ar 35) (nI k) Sn c) h) (mdC sc ar Hn 12) Hn) : Int64) = (mdP (ar 28) (mdH (fun k h => mshF sc ar k (fun c => (vyQ hi R W (kk k) (dd k) (FF k) H).1 c) (fun c => stQ hi R W (kk k) (dd k) (ar 35) (nI k) Sn c) h) (mdC sc ar Hn 12) Hn) 0) := rfl
              refine v_cong (es' := (wl D b sc (va_up (va_up (va_up ar 31 q.1) 32 q.2) 36 L) hn (mdP (ar 28) (mdH (fun k h => mshF sc ar k (fun c => (vyQ hi R W (kk k) (dd k) (FF k) H).1 c) (fun c => stQ hi R W (kk k) (dd k) (ar 35) (nI k) Sn c) h) (mdC sc ar Hn 12) Hn) 0) G)) (lv' := [(1, .int (nI 0)), (0, .ref (b + 27))]) (cg1 (fun (y0 : Int64) => wl D b sc (va_up (va_up (va_up ar 31 q.1) 32 q.2) 36 L) hn y0 G) e_45) (cg1 (fun (z0 : Int32) => ([(1, .int z0), (0, .ref (b + 27))] : List (Nat × Value))) e_44) ?_
              refine loop_dn (P := fun i_75 => ∀ (q : HF) (L : Nat → Int32), V p l e { frames := 6, cells := 0, slots := 0, locals := 158 } s m args below meth c D b 3 (MQ below (cQ D b 0 (fun r es' => r = some (.long (mdK sc ar Hn (mdP (ar 28) (mdH (fun k h => mshF sc ar k (fun c => (vyQ hi R W (kk k) (dd k) (FF k) H).1 c) (fun c => stQ hi R W (kk k) (dd k) (ar 35) (nI k) Sn c) h) (mdC sc ar Hn 12) Hn) Pn) 9)) ∧ ∃ sc' ar' mh', PerM sc ar sc' ar' ∧ wl D b sc' ar' hn mh' G = es')) args s 0 0 (fun q => b ≤ q)) 0 0 (wl D b sc (va_up (va_up (va_up ar 31 q.1) 32 q.2) 36 L) hn (mdP (ar 28) (mdH (fun k h => mshF sc ar k (fun c => (vyQ hi R W (kk k) (dd k) (FF k) H).1 c) (fun c => stQ hi R W (kk k) (dd k) (ar 35) (nI k) Sn c) h) (mdC sc ar Hn 12) Hn) i_75) G) [(1, .int (nI i_75)), (0, .ref (b + 27))] [] 75) Pn ?_ (fun i_75 hi_75 ih_75 => ?_) q L
              · intro q L
                have g_46 : ((sc 20) : Int32) ≤ (nI Pn) := by rw [hP]; exact Int32.le_refl _
                refine v_iload_n (n := 76) C dX12_digest_75 rfl rfl rfl ?_
                refine v_aload_n (n := 77) C dX12_digest_76 rfl rfl rfl ?_
                refine v_get (n := 80) C dX12_digest_77 rfl fl_X12_59_X12 wl_c27 rfl ?_
                refine v_icmp_ge (t := 100) (n := 83) C dX12_digest_80 (by decide) rfl (fun c_47 => ?_) (fun c_47 => ?_)
                · skip
                  refine v_iconst (n := 101) (v := 0) C dX12_digest_100 rfl (by decide) ?_
                  refine v_istore_n (n := 102) (lv' := [(1, .int 0), (0, .ref (b + 27))]) C dX12_digest_101 rfl rfl (Nat.le_of_ble_eq_true rfl) rfl ?_
                  refine v_pick (lv' := [(1, .int 0), (0, .ref (b + 27))]) [0, 1] rfl ?_
                  have e_48 : (0 : Int32) = (nI 0) := rfl
                  have e_49 : ((mdP (ar 28) (mdH (fun k h => mshF sc ar k (fun c => (vyQ hi R W (kk k) (dd k) (FF k) H).1 c) (fun c => stQ hi R W (kk k) (dd k) (ar 35) (nI k) Sn c) h) (mdC sc ar Hn 12) Hn) Pn) : Int64) = (mdK sc ar Hn (mdP (ar 28) (mdH (fun k h => mshF sc ar k (fun c => (vyQ hi R W (kk k) (dd k) (FF k) H).1 c) (fun c => stQ hi R W (kk k) (dd k) (ar 35) (nI k) Sn c) h) (mdC sc ar Hn 12) Hn) Pn) 0) := rfl
                  refine v_cong (es' := (wl D b sc (va_up (va_up (va_up ar 31 q.1) 32 q.2) 36 L) hn (mdK sc ar Hn (mdP (ar 28) (mdH (fun k h => mshF sc ar k (fun c => (vyQ hi R W (kk k) (dd k) (FF k) H).1 c) (fun c => stQ hi R W (kk k) (dd k) (ar 35) (nI k) Sn c) h) (mdC sc ar Hn 12) Hn) Pn) 0) G)) (lv' := [(1, .int (nI 0)), (0, .ref (b + 27))]) (cg1 (fun (y0 : Int64) => wl D b sc (va_up (va_up (va_up ar 31 q.1) 32 q.2) 36 L) hn y0 G) e_49) (cg1 (fun (z0 : Int32) => ([(1, .int z0), (0, .ref (b + 27))] : List (Nat × Value))) e_48) ?_
                  refine loop_dn (P := fun i_102 => ∀ (q : HF) (L : Nat → Int32), V p l e { frames := 6, cells := 0, slots := 0, locals := 158 } s m args below meth c D b 3 (MQ below (cQ D b 0 (fun r es' => r = some (.long (mdK sc ar Hn (mdP (ar 28) (mdH (fun k h => mshF sc ar k (fun c => (vyQ hi R W (kk k) (dd k) (FF k) H).1 c) (fun c => stQ hi R W (kk k) (dd k) (ar 35) (nI k) Sn c) h) (mdC sc ar Hn 12) Hn) Pn) 9)) ∧ ∃ sc' ar' mh', PerM sc ar sc' ar' ∧ wl D b sc' ar' hn mh' G = es')) args s 0 0 (fun q => b ≤ q)) 0 0 (wl D b sc (va_up (va_up (va_up ar 31 q.1) 32 q.2) 36 L) hn (mdK sc ar Hn (mdP (ar 28) (mdH (fun k h => mshF sc ar k (fun c => (vyQ hi R W (kk k) (dd k) (FF k) H).1 c) (fun c => stQ hi R W (kk k) (dd k) (ar 35) (nI k) Sn c) h) (mdC sc ar Hn 12) Hn) Pn) i_102) G) [(1, .int (nI i_102)), (0, .ref (b + 27))] [] 102) 9 ?_ (fun i_102 hi_102 ih_102 => ?_) q L
                  · intro q L
                    have g_50 : (9 : Int32) ≤ (nI 9) := by decide
                    refine v_iload_n (n := 103) C dX12_digest_102 rfl rfl rfl ?_
                    refine v_bipush (n := 105) (v := 9) C dX12_digest_103 rfl (by decide) ?_
                    refine v_icmp_ge (t := 124) (n := 108) C dX12_digest_105 (by decide) rfl (fun c_51 => ?_) (fun c_51 => ?_)
                    · skip
                      refine v_aload_n (n := 125) C dX12_digest_124 rfl rfl rfl ?_
                      refine v_get (n := 128) C dX12_digest_125 rfl fl_X12_223_X12 wl_c27 rfl ?_
                      exact v_lret C dX12_digest_128 rfl ⟨rfl, sc, (va_up (va_up (va_up ar 31 q.1) 32 q.2) 36 L), (mdK sc ar Hn (mdP (ar 28) (mdH (fun k h => mshF sc ar k (fun c => (vyQ hi R W (kk k) (dd k) (FF k) H).1 c) (fun c => stQ hi R W (kk k) (dd k) (ar 35) (nI k) Sn c) h) (mdC sc ar Hn 12) Hn) Pn) 9), (PerM_a (by decide) (PerM_a (by decide) (PerM_a (by decide) PerM_rf))), rfl⟩
                    · first | exact absurd c_51 g_50 | exact absurd g_50 c_51 | exact absurd c_51 (Int32.not_le.mpr g_50) | exact absurd c_51 (Int32.not_lt.mpr g_50) | exact absurd (Int32.not_le.mp g_50) c_51 | exact absurd (Int32.not_lt.mp g_50) c_51 | exact absurd (Int32.not_le.mp g_50) (Int32.not_lt.mpr c_51) | exact absurd (Int32.not_lt.mp g_50) (Int32.not_le.mpr c_51) | exact absurd (Int32.not_lt.mp c_51) (Int32.not_le.mpr (Int32.not_le.mp g_50))
                  · intro q L
                    have g_52 : ¬ (9 : Int32) ≤ (nI i_102) := nI_ge (a := i_102 + 0) (b := 9) (by omega) (by decide)
                    refine v_iload_n (n := 103) C dX12_digest_102 rfl rfl rfl ?_
                    refine v_bipush (n := 105) (v := 9) C dX12_digest_103 rfl (by decide) ?_
                    refine v_icmp_ge (t := 124) (n := 108) C dX12_digest_105 (by decide) rfl (fun c_53 => ?_) (fun c_53 => ?_)
                    · first | exact absurd c_53 g_52 | exact absurd g_52 c_53 | exact absurd c_53 (Int32.not_le.mpr g_52) | exact absurd c_53 (Int32.not_lt.mpr g_52) | exact absurd (Int32.not_le.mp g_52) c_53 | exact absurd (Int32.not_lt.mp g_52) c_53 | exact absurd (Int32.not_le.mp g_52) (Int32.not_lt.mpr c_53) | exact absurd (Int32.not_lt.mp g_52) (Int32.not_le.mpr c_53) | exact absurd (Int32.not_lt.mp c_53) (Int32.not_le.mpr (Int32.not_le.mp g_52))
                    · skip
                      refine v_aload_n (n := 109) C dX12_digest_108 rfl rfl rfl ?_
                      refine v_aload_n (n := 110) C dX12_digest_109 rfl rfl rfl ?_
                      refine v_iload_n (n := 111) C dX12_digest_110 rfl rfl rfl ?_
                      refine v_go (n := 114) C (vRun_V (As := [.int (nI i_102)]) (rest := [.ref (b + 27)]) C wl_c27 rfl lk_X12_218 im_X12_countOf se_X12_countOf dX12_digest_111 (m_countOf l D b sc (va_up (va_up (va_up ar 31 q.1) 32 q.2) 36 L) hn (mdK sc ar Hn (mdP (ar 28) (mdH (fun k h => mshF sc ar k (fun c => (vyQ hi R W (kk k) (dd k) (FF k) H).1 c) (fun c => stQ hi R W (kk k) (dd k) (ar 35) (nI k) Sn c) h) (mdC sc ar Hn 12) Hn) Pn) i_102) G (nI i_102) Hn hH hH3 hrc) wm_X12_countOf rfl rfl ⟨Nat.le_of_ble_eq_true rfl, Nat.le_of_ble_eq_true rfl⟩ ⟨Nat.le_of_ble_eq_true rfl, Nat.le_of_ble_eq_true rfl⟩ (Nat.le_of_ble_eq_true rfl)) rfl ?_
                      rintro _ _ ⟨rfl, rfl⟩ -
                      refine v_stk (st' := .int (mctF sc ar Hn (nI i_102)) :: [.ref (b + 27)]) (congrArg (fun z : Int32 => Value.int z :: [.ref (b + 27)]) (mct_cg rfl rfl)) ?_
                      refine v_i2l (n := 115) C dX12_digest_114 rfl ?_
                      refine v_go (n := 118) C (vRun_V (As := [.long (Int32.toInt64 (mctF sc ar Hn (nI i_102)))]) (rest := []) C wl_c27 rfl lk_X12_227 im_X12_say se_X12_say dX12_digest_115 (m_say l D b sc (va_up (va_up (va_up ar 31 q.1) 32 q.2) 36 L) hn (mdK sc ar Hn (mdP (ar 28) (mdH (fun k h => mshF sc ar k (fun c => (vyQ hi R W (kk k) (dd k) (FF k) H).1 c) (fun c => stQ hi R W (kk k) (dd k) (ar 35) (nI k) Sn c) h) (mdC sc ar Hn 12) Hn) Pn) i_102) G (Int32.toInt64 (mctF sc ar Hn (nI i_102)))) wm_X12_say rfl rfl ⟨Nat.le_of_ble_eq_true rfl, Nat.le_of_ble_eq_true rfl⟩ ⟨Nat.le_of_ble_eq_true rfl, Nat.le_of_ble_eq_true rfl⟩ (Nat.le_of_ble_eq_true rfl)) rfl ?_
                      rintro _ _ ⟨rfl, rfl⟩ -
                      refine v_iinc (n := 121) (v := ((nI i_102) + 1)) (lv' := [(1, .int ((nI i_102) + 1)), (0, .ref (b + 27))]) C dX12_digest_118 rfl rfl rfl (Nat.le_of_ble_eq_true rfl) rfl ?_
                      refine v_goto (t := 102) C dX12_digest_121 (by decide) ?_
                      refine v_pick (lv' := [(1, .int ((nI i_102) + 1)), (0, .ref (b + 27))]) [0, 1] rfl ?_
                      have e_54 : (((nI i_102) + 1) : Int32) = (nI (i_102 + 1)) := nI_1 _
                      have e_55 : ((31 * (mdK sc ar Hn (mdP (ar 28) (mdH (fun k h => mshF sc ar k (fun c => (vyQ hi R W (kk k) (dd k) (FF k) H).1 c) (fun c => stQ hi R W (kk k) (dd k) (ar 35) (nI k) Sn c) h) (mdC sc ar Hn 12) Hn) Pn) i_102) + (Int32.toInt64 (mctF sc ar Hn (nI i_102)))) : Int64) = (mdK sc ar Hn (mdP (ar 28) (mdH (fun k h => mshF sc ar k (fun c => (vyQ hi R W (kk k) (dd k) (FF k) H).1 c) (fun c => stQ hi R W (kk k) (dd k) (ar 35) (nI k) Sn c) h) (mdC sc ar Hn 12) Hn) Pn) (i_102 + 1)) := rfl
                      refine v_cong (es' := (wl D b sc (va_up (va_up (va_up ar 31 q.1) 32 q.2) 36 L) hn (mdK sc ar Hn (mdP (ar 28) (mdH (fun k h => mshF sc ar k (fun c => (vyQ hi R W (kk k) (dd k) (FF k) H).1 c) (fun c => stQ hi R W (kk k) (dd k) (ar 35) (nI k) Sn c) h) (mdC sc ar Hn 12) Hn) Pn) (i_102 + 1)) G)) (lv' := [(1, .int (nI (i_102 + 1))), (0, .ref (b + 27))]) (cg1 (fun (y0 : Int64) => wl D b sc (va_up (va_up (va_up ar 31 q.1) 32 q.2) 36 L) hn y0 G) e_55) (cg1 (fun (z0 : Int32) => ([(1, .int z0), (0, .ref (b + 27))] : List (Nat × Value))) e_54) ?_
                      exact ih_102 q L
                · first | exact absurd c_47 g_46 | exact absurd g_46 c_47 | exact absurd c_47 (Int32.not_le.mpr g_46) | exact absurd c_47 (Int32.not_lt.mpr g_46) | exact absurd (Int32.not_le.mp g_46) c_47 | exact absurd (Int32.not_lt.mp g_46) c_47 | exact absurd (Int32.not_le.mp g_46) (Int32.not_lt.mpr c_47) | exact absurd (Int32.not_lt.mp g_46) (Int32.not_le.mpr c_47) | exact absurd (Int32.not_lt.mp c_47) (Int32.not_le.mpr (Int32.not_le.mp g_46))
              · intro q L
                have g_56 : ¬ ((sc 20) : Int32) ≤ (nI i_75) := by rw [hP]; exact nI_ge hi_75 (by omega)
                refine v_iload_n (n := 76) C dX12_digest_75 rfl rfl rfl ?_
                refine v_aload_n (n := 77) C dX12_digest_76 rfl rfl rfl ?_
                refine v_get (n := 80) C dX12_digest_77 rfl fl_X12_59_X12 wl_c27 rfl ?_
                refine v_icmp_ge (t := 100) (n := 83) C dX12_digest_80 (by decide) rfl (fun c_57 => ?_) (fun c_57 => ?_)
                · first | exact absurd c_57 g_56 | exact absurd g_56 c_57 | exact absurd c_57 (Int32.not_le.mpr g_56) | exact absurd c_57 (Int32.not_lt.mpr g_56) | exact absurd (Int32.not_le.mp g_56) c_57 | exact absurd (Int32.not_lt.mp g_56) c_57 | exact absurd (Int32.not_le.mp g_56) (Int32.not_lt.mpr c_57) | exact absurd (Int32.not_lt.mp g_56) (Int32.not_le.mpr c_57) | exact absurd (Int32.not_lt.mp c_57) (Int32.not_le.mpr (Int32.not_le.mp g_56))
                · skip
                  refine v_aload_n (n := 84) C dX12_digest_83 rfl rfl rfl ?_
                  refine v_aload_n (n := 85) C dX12_digest_84 rfl rfl rfl ?_
                  refine v_get (n := 88) C dX12_digest_85 rfl fl_X12_7_X12 wl_c27 rfl ?_
                  refine v_iload_n (n := 89) C dX12_digest_88 rfl rfl rfl ?_
                  refine v_iald (n := 90) C dX12_digest_89 rfl (show (wl D b sc (va_up (va_up (va_up ar 31 q.1) 32 q.2) 36 L) hn (mdP (ar 28) (mdH (fun k h => mshF sc ar k (fun c => (vyQ hi R W (kk k) (dd k) (FF k) H).1 c) (fun c => stQ hi R W (kk k) (dd k) (ar 35) (nI k) Sn c) h) (mdC sc ar Hn 12) Hn) i_75) G)[28]? = some (.inl (D.1 13, 18, .inl (ar 28))) from wl_c28) (vp_in_nI (by omega) (by decide)) ?_
                  refine v_stk (st' := .int ((ar 28) i_75) :: [.ref (b + 27)]) (congrArg (fun z : Nat => Value.int ((ar 28) z) :: [.ref (b + 27)]) (nI_clamp (show i_75 < 2 ^ 31 by omega))) ?_
                  refine v_i2l (n := 91) C dX12_digest_90 rfl ?_
                  refine v_go (n := 94) C (vRun_V (As := [.long (Int32.toInt64 ((ar 28) i_75))]) (rest := []) C wl_c27 rfl lk_X12_227 im_X12_say se_X12_say dX12_digest_91 (m_say l D b sc (va_up (va_up (va_up ar 31 q.1) 32 q.2) 36 L) hn (mdP (ar 28) (mdH (fun k h => mshF sc ar k (fun c => (vyQ hi R W (kk k) (dd k) (FF k) H).1 c) (fun c => stQ hi R W (kk k) (dd k) (ar 35) (nI k) Sn c) h) (mdC sc ar Hn 12) Hn) i_75) G (Int32.toInt64 ((ar 28) i_75))) wm_X12_say rfl rfl ⟨Nat.le_of_ble_eq_true rfl, Nat.le_of_ble_eq_true rfl⟩ ⟨Nat.le_of_ble_eq_true rfl, Nat.le_of_ble_eq_true rfl⟩ (Nat.le_of_ble_eq_true rfl)) rfl ?_
                  rintro _ _ ⟨rfl, rfl⟩ -
                  refine v_iinc (n := 97) (v := ((nI i_75) + 1)) (lv' := [(1, .int ((nI i_75) + 1)), (0, .ref (b + 27))]) C dX12_digest_94 rfl rfl rfl (Nat.le_of_ble_eq_true rfl) rfl ?_
                  refine v_goto (t := 75) C dX12_digest_97 (by decide) ?_
                  refine v_pick (lv' := [(1, .int ((nI i_75) + 1)), (0, .ref (b + 27))]) [0, 1] rfl ?_
                  have e_58 : (((nI i_75) + 1) : Int32) = (nI (i_75 + 1)) := nI_1 _
                  have e_59 : ((31 * (mdP (ar 28) (mdH (fun k h => mshF sc ar k (fun c => (vyQ hi R W (kk k) (dd k) (FF k) H).1 c) (fun c => stQ hi R W (kk k) (dd k) (ar 35) (nI k) Sn c) h) (mdC sc ar Hn 12) Hn) i_75) + (Int32.toInt64 ((ar 28) i_75))) : Int64) = (mdP (ar 28) (mdH (fun k h => mshF sc ar k (fun c => (vyQ hi R W (kk k) (dd k) (FF k) H).1 c) (fun c => stQ hi R W (kk k) (dd k) (ar 35) (nI k) Sn c) h) (mdC sc ar Hn 12) Hn) (i_75 + 1)) := rfl
                  refine v_cong (es' := (wl D b sc (va_up (va_up (va_up ar 31 q.1) 32 q.2) 36 L) hn (mdP (ar 28) (mdH (fun k h => mshF sc ar k (fun c => (vyQ hi R W (kk k) (dd k) (FF k) H).1 c) (fun c => stQ hi R W (kk k) (dd k) (ar 35) (nI k) Sn c) h) (mdC sc ar Hn 12) Hn) (i_75 + 1)) G)) (lv' := [(1, .int (nI (i_75 + 1))), (0, .ref (b + 27))]) (cg1 (fun (y0 : Int64) => wl D b sc (va_up (va_up (va_up ar 31 q.1) 32 q.2) 36 L) hn y0 G) e_59) (cg1 (fun (z0 : Int32) => ([(1, .int z0), (0, .ref (b + 27))] : List (Nat × Value))) e_58) ?_
                  exact ih_75 q L
            · first | exact absurd c_43 g_42 | exact absurd g_42 c_43 | exact absurd c_43 (Int32.not_le.mpr g_42) | exact absurd c_43 (Int32.not_lt.mpr g_42) | exact absurd (Int32.not_le.mp g_42) c_43 | exact absurd (Int32.not_lt.mp g_42) c_43 | exact absurd (Int32.not_le.mp g_42) (Int32.not_lt.mpr c_43) | exact absurd (Int32.not_lt.mp g_42) (Int32.not_le.mpr c_43) | exact absurd (Int32.not_lt.mp c_43) (Int32.not_le.mpr (Int32.not_le.mp g_42))
          · intro q L
            have g_60 : ¬ ((sc 25) : Int32) ≤ (nI i_54) := by rw [hH]; exact nI_ge hi_54 (by omega)
            refine v_iload_n (n := 55) C dX12_digest_54 rfl rfl rfl ?_
            refine v_aload_n (n := 56) C dX12_digest_55 rfl rfl rfl ?_
            refine v_get (n := 59) C dX12_digest_56 rfl fl_X12_78_X12 wl_c27 rfl ?_
            refine v_icmp_ge (t := 73) (n := 62) C dX12_digest_59 (by decide) rfl (fun c_61 => ?_) (fun c_61 => ?_)
            · first | exact absurd c_61 g_60 | exact absurd g_60 c_61 | exact absurd c_61 (Int32.not_le.mpr g_60) | exact absurd c_61 (Int32.not_lt.mpr g_60) | exact absurd (Int32.not_le.mp g_60) c_61 | exact absurd (Int32.not_lt.mp g_60) c_61 | exact absurd (Int32.not_le.mp g_60) (Int32.not_lt.mpr c_61) | exact absurd (Int32.not_lt.mp g_60) (Int32.not_le.mpr c_61) | exact absurd (Int32.not_lt.mp c_61) (Int32.not_le.mpr (Int32.not_le.mp g_60))
            · skip
              refine v_aload_n (n := 63) C dX12_digest_62 rfl rfl rfl ?_
              refine v_iload_n (n := 64) C dX12_digest_63 rfl rfl rfl ?_
              refine v_go (n := 67) C (vRun_V (As := [.int (nI i_54)]) (rest := []) C wl_c27 rfl lk_X12_233 im_X12_sayHull se_X12_sayHull dX12_digest_64 (m_sayHull l D b sc (va_up (va_up (va_up ar 31 q.1) 32 q.2) 36 L) hn (mdH (fun k h => mshF sc ar k (fun c => (vyQ hi R W (kk k) (dd k) (FF k) H).1 c) (fun c => stQ hi R W (kk k) (dd k) (ar 35) (nI k) Sn c) h) (mdC sc ar Hn 12) i_54) G i_54 (show i_54 < 3 by omega) hi R W (kk i_54) (dd i_54) (FF i_54) (hZ i_54 (by omega)) h21 hR h23 hW Sn hS hS6 H h22 hHb (hrc i_54 (by omega))) wm_X12_sayHull rfl rfl ⟨Nat.le_of_ble_eq_true rfl, Nat.le_of_ble_eq_true rfl⟩ ⟨Nat.le_of_ble_eq_true rfl, Nat.le_of_ble_eq_true rfl⟩ (Nat.le_of_ble_eq_true rfl)) rfl ?_
              rintro _ _ ⟨rfl, q62, L62, rfl⟩ -
              refine v_cong (es' := wl D b sc (va_up (va_up (va_up ar 31 q62.1) 32 q62.2) 36 L62) hn (mshF sc (va_up (va_up (va_up ar 31 q.1) 32 q.2) 36 L) i_54 (fun c => (vyQ hi R W (kk i_54) (dd i_54) (FF i_54) H).1 c) (fun c => stQ hi R W (kk i_54) (dd i_54) ((va_up (va_up (va_up ar 31 q.1) 32 q.2) 36 L) 35) (nI i_54) Sn c) (mdH (fun k h => mshF sc ar k (fun c => (vyQ hi R W (kk k) (dd k) (FF k) H).1 c) (fun c => stQ hi R W (kk k) (dd k) (ar 35) (nI k) Sn c) h) (mdC sc ar Hn 12) i_54)) G) (lv' := [(1, .int (nI i_54)), (0, .ref (b + 27))]) rfl rfl ?_
              have e_63 : mshF sc (va_up (va_up (va_up ar 31 q.1) 32 q.2) 36 L) i_54 (fun c => (vyQ hi R W (kk i_54) (dd i_54) (FF i_54) H).1 c) (fun c => stQ hi R W (kk i_54) (dd i_54) ((va_up (va_up (va_up ar 31 q.1) 32 q.2) 36 L) 35) (nI i_54) Sn c) (mdH (fun k h => mshF sc ar k (fun c => (vyQ hi R W (kk k) (dd k) (FF k) H).1 c) (fun c => stQ hi R W (kk k) (dd k) (ar 35) (nI k) Sn c) h) (mdC sc ar Hn 12) i_54) = mshF sc ar i_54 (fun c => (vyQ hi R W (kk i_54) (dd i_54) (FF i_54) H).1 c) (fun c => stQ hi R W (kk i_54) (dd i_54) (ar 35) (nI i_54) Sn c) (mdH (fun k h => mshF sc ar k (fun c => (vyQ hi R W (kk k) (dd k) (FF k) H).1 c) (fun c => stQ hi R W (kk k) (dd k) (ar 35) (nI k) Sn c) h) (mdC sc ar Hn 12) i_54) := msh_cg rfl rfl
              refine v_cong (es' := (wl D b sc (va_up (va_up (va_up ar 31 q62.1) 32 q62.2) 36 L62) hn (mshF sc ar i_54 (fun c => (vyQ hi R W (kk i_54) (dd i_54) (FF i_54) H).1 c) (fun c => stQ hi R W (kk i_54) (dd i_54) (ar 35) (nI i_54) Sn c) (mdH (fun k h => mshF sc ar k (fun c => (vyQ hi R W (kk k) (dd k) (FF k) H).1 c) (fun c => stQ hi R W (kk k) (dd k) (ar 35) (nI k) Sn c) h) (mdC sc ar Hn 12) i_54)) G)) (lv' := [(1, .int (nI i_54)), (0, .ref (b + 27))]) (cg1 (fun (y0 : Int64) => wl D b sc (va_up (va_up (va_up ar 31 q62.1) 32 q62.2) 36 L62) hn y0 G) e_63) rfl ?_
              refine v_iinc (n := 70) (v := ((nI i_54) + 1)) (lv' := [(1, .int ((nI i_54) + 1)), (0, .ref (b + 27))]) C dX12_digest_67 rfl rfl rfl (Nat.le_of_ble_eq_true rfl) rfl ?_
              refine v_goto (t := 54) C dX12_digest_70 (by decide) ?_
              refine v_pick (lv' := [(1, .int ((nI i_54) + 1)), (0, .ref (b + 27))]) [0, 1] rfl ?_
              have e_64 : (((nI i_54) + 1) : Int32) = (nI (i_54 + 1)) := nI_1 _
              have e_65 : ((mshF sc ar i_54 (fun c => (vyQ hi R W (kk i_54) (dd i_54) (FF i_54) H).1 c) (fun c => stQ hi R W (kk i_54) (dd i_54) (ar 35) (nI i_54) Sn c) (mdH (fun k h => mshF sc ar k (fun c => (vyQ hi R W (kk k) (dd k) (FF k) H).1 c) (fun c => stQ hi R W (kk k) (dd k) (ar 35) (nI k) Sn c) h) (mdC sc ar Hn 12) i_54)) : Int64) = (mdH (fun k h => mshF sc ar k (fun c => (vyQ hi R W (kk k) (dd k) (FF k) H).1 c) (fun c => stQ hi R W (kk k) (dd k) (ar 35) (nI k) Sn c) h) (mdC sc ar Hn 12) (i_54 + 1)) := rfl
              refine v_cong (es' := (wl D b sc (va_up (va_up (va_up ar 31 q62.1) 32 q62.2) 36 L62) hn (mdH (fun k h => mshF sc ar k (fun c => (vyQ hi R W (kk k) (dd k) (FF k) H).1 c) (fun c => stQ hi R W (kk k) (dd k) (ar 35) (nI k) Sn c) h) (mdC sc ar Hn 12) (i_54 + 1)) G)) (lv' := [(1, .int (nI (i_54 + 1))), (0, .ref (b + 27))]) (cg1 (fun (y0 : Int64) => wl D b sc (va_up (va_up (va_up ar 31 q62.1) 32 q62.2) 36 L62) hn y0 G) e_65) (cg1 (fun (z0 : Int32) => ([(1, .int z0), (0, .ref (b + 27))] : List (Nat × Value))) e_64) ?_
              exact ih_54 q62 L62
        · exact absurd c_36 (by decide)
      refine v_stk (st' := .int 0 :: []) (congrArg (fun z : Int32 => Value.int z :: []) (show mlaF (sc 21) = 0 by simp only [mlaF, if_neg p_35])) ?_
      refine v_if_ne (t := 52) (n := 22) C dX12_digest_19 (by decide) rfl (fun c_66 => ?_) (fun c_66 => ?_)
      · exact absurd c_66 (by decide)
      · skip
        refine v_iconst (n := 23) (v := 0) C dX12_digest_22 rfl (by decide) ?_
        refine v_istore_n (n := 24) (lv' := [(2, .int 0), (1, .int (nI i_9)), (0, .ref (b + 27))]) C dX12_digest_23 rfl rfl (Nat.le_of_ble_eq_true rfl) rfl ?_
        refine v_pick (lv' := [(2, .int 0), (0, .ref (b + 27)), (1, .int (nI i_9))]) [0, 2, 1] rfl ?_
        have e_67 : (0 : Int32) = (nI 0) := rfl
        have e_68 : ((mdC sc ar Hn i_9) : Int64) = (mdI sc ar Hn i_9 (mdC sc ar Hn i_9) 0) := rfl
        refine v_cong (es' := (wl D b sc ar hn (mdI sc ar Hn i_9 (mdC sc ar Hn i_9) 0) G)) (lv' := [(2, .int (nI 0)), (0, .ref (b + 27)), (1, .int (nI i_9))]) (cg1 (fun (y0 : Int64) => wl D b sc ar hn y0 G) e_68) (cg1 (fun (z0 : Int32) => ([(2, .int z0), (0, .ref (b + 27)), (1, .int (nI i_9))] : List (Nat × Value))) e_67) ?_
        refine loop_dn (P := fun i_24 => V p l e { frames := 6, cells := 0, slots := 0, locals := 158 } s m args below meth c D b 3 (MQ below (cQ D b 0 (fun r es' => r = some (.long (mdK sc ar Hn (mdP (ar 28) (mdH (fun k h => mshF sc ar k (fun c => (vyQ hi R W (kk k) (dd k) (FF k) H).1 c) (fun c => stQ hi R W (kk k) (dd k) (ar 35) (nI k) Sn c) h) (mdC sc ar Hn 12) Hn) Pn) 9)) ∧ ∃ sc' ar' mh', PerM sc ar sc' ar' ∧ wl D b sc' ar' hn mh' G = es')) args s 0 0 (fun q => b ≤ q)) 0 0 (wl D b sc ar hn (mdI sc ar Hn i_9 (mdC sc ar Hn i_9) i_24) G) [(2, .int (nI i_24)), (0, .ref (b + 27)), (1, .int (nI i_9))] [] 24) 4 ?_ (fun i_24 hi_24 ih_24 => ?_)
        · skip
          have g_69 : (4 : Int32) ≤ (nI 4) := by decide
          refine v_iload_n (n := 25) C dX12_digest_24 rfl rfl rfl ?_
          refine v_iconst (n := 26) (v := 4) C dX12_digest_25 rfl (by decide) ?_
          refine v_icmp_ge (t := 46) (n := 29) C dX12_digest_26 (by decide) rfl (fun c_70 => ?_) (fun c_70 => ?_)
          · skip
            refine v_iinc (n := 49) (v := ((nI i_9) + 1)) (lv' := [(1, .int ((nI i_9) + 1)), (2, .int (nI 4)), (0, .ref (b + 27))]) C dX12_digest_46 rfl rfl rfl (Nat.le_of_ble_eq_true rfl) rfl ?_
            refine v_goto (t := 9) C dX12_digest_49 (by decide) ?_
            refine v_pick (lv' := [(1, .int ((nI i_9) + 1)), (0, .ref (b + 27))]) [0, 2] rfl ?_
            have e_71 : ((nI i_9) + 1) = (nI (i_9 + 1)) := nI_1 _
            have e_72 : ((mdI sc ar Hn i_9 (mdC sc ar Hn i_9) 4) : Int64) = (mdC sc ar Hn (i_9 + 1)) := by first | rfl | (simp only [mdC, mdI, eq_false g_33, eq_true (Int32.not_le.mp g_33), eq_false c_34, eq_true (Int32.not_le.mp c_34), eq_false p_35, eq_true c_66, eq_true g_69, eq_false (Int32.not_lt.mpr g_69), eq_true c_70, eq_false (Int32.not_lt.mpr c_70), ↓reduceIte]; done)
            refine v_cong (es' := (wl D b sc ar hn (mdC sc ar Hn (i_9 + 1)) G)) (lv' := [(1, .int (nI (i_9 + 1))), (0, .ref (b + 27))]) (cg1 (fun (y0 : Int64) => wl D b sc ar hn y0 G) e_72) (cg1 (fun (z0 : Int32) => ([(1, .int z0), (0, .ref (b + 27))] : List (Nat × Value))) e_71) ?_
            exact ih_9
          · first | exact absurd c_70 g_69 | exact absurd g_69 c_70 | exact absurd c_70 (Int32.not_le.mpr g_69) | exact absurd c_70 (Int32.not_lt.mpr g_69) | exact absurd (Int32.not_le.mp g_69) c_70 | exact absurd (Int32.not_lt.mp g_69) c_70 | exact absurd (Int32.not_le.mp g_69) (Int32.not_lt.mpr c_70) | exact absurd (Int32.not_lt.mp g_69) (Int32.not_le.mpr c_70) | exact absurd (Int32.not_lt.mp c_70) (Int32.not_le.mpr (Int32.not_le.mp g_69))
        · skip
          have g_73 : ¬ (4 : Int32) ≤ (nI i_24) := nI_ge (a := i_24 + 0) (b := 4) (by omega) (by decide)
          refine v_iload_n (n := 25) C dX12_digest_24 rfl rfl rfl ?_
          refine v_iconst (n := 26) (v := 4) C dX12_digest_25 rfl (by decide) ?_
          refine v_icmp_ge (t := 46) (n := 29) C dX12_digest_26 (by decide) rfl (fun c_74 => ?_) (fun c_74 => ?_)
          · first | exact absurd c_74 g_73 | exact absurd g_73 c_74 | exact absurd c_74 (Int32.not_le.mpr g_73) | exact absurd c_74 (Int32.not_lt.mpr g_73) | exact absurd (Int32.not_le.mp g_73) c_74 | exact absurd (Int32.not_lt.mp g_73) c_74 | exact absurd (Int32.not_le.mp g_73) (Int32.not_lt.mpr c_74) | exact absurd (Int32.not_lt.mp g_73) (Int32.not_le.mpr c_74) | exact absurd (Int32.not_lt.mp c_74) (Int32.not_le.mpr (Int32.not_le.mp g_73))
          · skip
            refine v_aload_n (n := 30) C dX12_digest_29 rfl rfl rfl ?_
            refine v_aload_n (n := 31) C dX12_digest_30 rfl rfl rfl ?_
            refine v_iload_n (n := 32) C dX12_digest_31 rfl rfl rfl ?_
            refine v_iload_n (n := 33) C dX12_digest_32 rfl rfl rfl ?_
            refine v_go (n := 36) C (vRun_V (As := [.int (nI i_9), .int (nI i_24)]) (rest := [.ref (b + 27)]) C wl_c27 rfl lk_X12_105 im_X12_tellCell se_X12_tellCell dX12_digest_33 (m_tellCell l D b sc ar hn (mdI sc ar Hn i_9 (mdC sc ar Hn i_9) i_24) G (nI i_9) (nI i_24) (vp_in_nI (by omega) (by decide)) Hn hH hH3) wm_X12_tellCell rfl rfl ⟨Nat.le_of_ble_eq_true rfl, Nat.le_of_ble_eq_true rfl⟩ ⟨Nat.le_of_ble_eq_true rfl, Nat.le_of_ble_eq_true rfl⟩ (Nat.le_of_ble_eq_true rfl)) rfl ?_
            rintro _ _ ⟨rfl, rfl⟩ -
            refine v_i2l (n := 37) C dX12_digest_36 rfl ?_
            refine v_go (n := 40) C (vRun_V (As := [.long (Int32.toInt64 (mtcF sc ar Hn (nI i_9) (nI i_24)))]) (rest := []) C wl_c27 rfl lk_X12_227 im_X12_say se_X12_say dX12_digest_37 (m_say l D b sc ar hn (mdI sc ar Hn i_9 (mdC sc ar Hn i_9) i_24) G (Int32.toInt64 (mtcF sc ar Hn (nI i_9) (nI i_24)))) wm_X12_say rfl rfl ⟨Nat.le_of_ble_eq_true rfl, Nat.le_of_ble_eq_true rfl⟩ ⟨Nat.le_of_ble_eq_true rfl, Nat.le_of_ble_eq_true rfl⟩ (Nat.le_of_ble_eq_true rfl)) rfl ?_
            rintro _ _ ⟨rfl, rfl⟩ -
            refine v_iinc (n := 43) (v := ((nI i_24) + 1)) (lv' := [(2, .int ((nI i_24) + 1)), (0, .ref (b + 27)), (1, .int (nI i_9))]) C dX12_digest_40 rfl rfl rfl (Nat.le_of_ble_eq_true rfl) rfl ?_
            refine v_goto (t := 24) C dX12_digest_43 (by decide) ?_
            refine v_pick (lv' := [(2, .int ((nI i_24) + 1)), (0, .ref (b + 27)), (1, .int (nI i_9))]) [0, 1, 2] rfl ?_
            have e_75 : ((nI i_24) + 1) = (nI (i_24 + 1)) := nI_1 _
            have e_76 : ((31 * (mdI sc ar Hn i_9 (mdC sc ar Hn i_9) i_24) + (Int32.toInt64 (mtcF sc ar Hn (nI i_9) (nI i_24)))) : Int64) = (mdI sc ar Hn i_9 (mdC sc ar Hn i_9) (i_24 + 1)) := rfl
            refine v_cong (es' := (wl D b sc ar hn (mdI sc ar Hn i_9 (mdC sc ar Hn i_9) (i_24 + 1)) G)) (lv' := [(2, .int (nI (i_24 + 1))), (0, .ref (b + 27)), (1, .int (nI i_9))]) (cg1 (fun (y0 : Int64) => wl D b sc ar hn y0 G) e_76) (cg1 (fun (z0 : Int32) => ([(2, .int z0), (0, .ref (b + 27)), (1, .int (nI i_9))] : List (Nat × Value))) e_75) ?_
            exact ih_24
