theorem lk_nat (ar : Nat → Nat → Int32) (mn x : Int32) (my : Nat → Int32) : ∀ i, ∃ L, L ≤ 40 ∧ (lkN ar mn x my i).1 = nI L := by
  intro i
  induction i with
  | zero => exact ⟨0, by omega, rfl⟩
  | succ i ih =>
    rw [lkN]
    split
    · exact ih
    · split
      · split
        · exact ih
        · rename_i h1 h2 h3
          split
          · exact ih
          · rename_i h4
            dsimp only
            split
            · have h5 : ar 6 i ≤ 40 := by
                rw [Int32.le_iff_toInt_le] at h4 ⊢
                have e1 : (41 : Int32).toInt = 41 := rfl
                have e2 : (40 : Int32).toInt = 40 := rfl
                omega
              obtain ⟨j, hj, e⟩ := nI_of2 (n := 40) (M := 40) rfl h3 h5
              exact ⟨j, hj, e⟩
            · exact ih
      · exact ih
noncomputable def ciN (f : Nat → Int32) (rp wd : Int32) (k : Nat) (dr : Int32) (my : Nat → Int32) (L h : Nat) (cn : Nat → Int32) : Nat → (Nat → Int32)
  | 0 => upd cn h 0
  | i + 1 => @ite _ ((my h >>> (nI i &&& 31)) &&& 1 = 1 ∧ (h = L ∨ goP f rp wd k dr my (ciN f rp wd k dr my L h cn i) (nI i) h (nI L))) (Classical.propDecidable _) (upd (ciN f rp wd k dr my L h cn i) h ((ciN f rp wd k dr my L h cn i) h ||| ((1 : Int32) <<< (nI i &&& 31)))) (ciN f rp wd k dr my L h cn i)
noncomputable def csD (f : Nat → Int32) (rp wd : Int32) (k : Nat) (dr : Int32) (my : Nat → Int32) (L : Nat) (cn : Nat → Int32) : Nat → (Nat → Int32)
  | 0 => cn
  | d + 1 => ciN f rp wd k dr my L (L - d) (csD f rp wd k dr my L cn d) 12
theorem csD_step {f : Nat → Int32} {rp wd : Int32} {k : Nat} {dr : Int32} {my : Nat → Int32} {L : Nat} {cn : Nat → Int32} {n : Nat} (h : n < L + 1) : csD f rp wd k dr my L cn (L + 1 - n) = ciN f rp wd k dr my L n (csD f rp wd k dr my L cn (L + 1 - (n + 1))) 12 := by
  rw [show L + 1 - n = (L - n) + 1 by omega, csD, show L - (L - n) = n by omega, show L + 1 - (n + 1) = L - n by omega]
def hrV : Nat → Int32
  | 0 => -1
  | n + 1 => nI n
theorem hrV_dec (n : Nat) : nI n + (-1) = hrV n := by
  cases n with
  | zero => rfl
  | succ n => show nI (n + 1) + (-1) = nI n; rw [← nI_pred n, Int32.sub_eq_add_neg]
theorem loop_up {P : Nat → Prop} (N : Nat) (h0 : P 0) (hs : ∀ n, n < N → P n → P (n + 1)) : P N := by
  have h : ∀ n, n ≤ N → P n := by
    intro n
    induction n with
    | zero => intro _; exact h0
    | succ n ih => intro hn; exact hs n (by omega) (ih (by omega))
  exact h N (Nat.le_refl N)
theorem ite_pos' {α : Type} {P : Prop} {d : Decidable P} {x y : α} (h : P) : @ite α P d x y = x := if_pos h
theorem ite_neg' {α : Type} {P : Prop} {d : Decidable P} {x y : α} (h : ¬ P) : @ite α P d x y = y := if_neg h
set_option maxHeartbeats 4000000 in
set_option maxRecDepth 100000 in
theorem c_startsOf (l : Launch) (D : va_G) (b : Nat) (sc : Nat → Int32) (ar : Nat → Nat → Int32) (hn : Nat → Option Nat) (mh : Int64) (G : List va_E) (qs : Nat) (rp wd : Int32) (hs : ∀ ar, (wl D b sc ar hn mh G)[qs]? = some (.inr (7, [.ref (b + 24), .int rp, .int wd]))) (u k : Nat) (dr ce sa : Int32) (hk : k < 5) (hg : G[u]? = some (hcl k dr ce sa)) (x : Int32) : Con l yX8_startsOf cX8_startsOf 8 (some .int) 4 98 D b 0 0 (wl D b sc ar hn mh G) [.ref (b + 3), .ref (b + qs), .ref (b + (u + 40)), .int x] (fun r es' => ∃ L, L ≤ 40 ∧ (lkN ar (sc 4) x (fillN 4095 (ar 7) 41) 6).1 = nI L ∧ r = some (.int ((csD (ar 24) rp wd k dr (lkN ar (sc 4) x (fillN 4095 (ar 7) 41) 6).2 L (ar 8) (L + 1)) 0)) ∧ wl D b sc (va_up (va_up ar 7 (lkN ar (sc 4) x (fillN 4095 (ar 7) 41) 6).2) 8 (csD (ar 24) rp wd k dr (lkN ar (sc 4) x (fillN 4095 (ar 7) 41) 6).2 L (ar 8) (L + 1))) hn mh G = es') := by
  refine con_of (by decide) (Nat.le_of_ble_eq_true rfl) (fun p e s m args below meth c C hsz => ?_)
  have C : vC p s m args meth c cX8_startsOf 8 RX8 "startsOf" (some .int) D b := C
  change V p l e _ s m args below meth c D b 8 _ 0 0 (wl D b sc ar hn mh G) [(0, .ref (b + 3)), (1, .ref (b + qs)), (2, .ref (b + (u + 40))), (3, .int x)] [] 0
  refine v_aload_n (n := 1) C dX8_startsOf_0 rfl rfl rfl ?_
  refine v_iload_n (n := 2) C dX8_startsOf_1 rfl rfl rfl ?_
  refine v_go (n := 5) C (vRun_V (As := [.int x]) (rest := []) C wl_c3 rfl lk_X8_31 im_X8_lookUp se_X8_lookUp dX8_startsOf_2 (c_lookUp l D b sc ar hn mh G x) wm_X8_lookUp rfl rfl ⟨Nat.le_of_ble_eq_true rfl, Nat.le_of_ble_eq_true rfl⟩ ⟨Nat.le_of_ble_eq_true rfl, Nat.le_of_ble_eq_true rfl⟩ (Nat.le_of_ble_eq_true rfl)) rfl ?_
  rintro _ _ ⟨rfl, rfl⟩ -
  obtain ⟨L, hL, eL⟩ := lk_nat ar (sc 4) x (fillN 4095 (ar 7) 41) 6
  refine v_stk (st' := .int (nI L) :: []) (congrArg (fun z : Int32 => Value.int z :: []) eL) ?_
  refine v_istore (n := 7) (lv' := [(4, .int (nI L)), (0, .ref (b + 3)), (1, .ref (b + qs)), (2, .ref (b + (u + 40))), (3, .int x)]) C dX8_startsOf_5 rfl (Nat.le_of_ble_eq_true rfl) rfl ?_
  refine v_iload (n := 9) C dX8_startsOf_7 rfl rfl ?_
  refine v_istore (n := 11) (lv' := [(5, .int (nI L)), (4, .int (nI L)), (0, .ref (b + 3)), (1, .ref (b + qs)), (2, .ref (b + (u + 40))), (3, .int x)]) C dX8_startsOf_9 rfl (Nat.le_of_ble_eq_true rfl) rfl ?_
  refine v_pick (lv' := [(5, .int (nI L)), (0, .ref (b + 3)), (1, .ref (b + qs)), (2, .ref (b + (u + 40))), (3, .int x), (4, .int (nI L))]) [0, 2, 3, 4, 5, 1] rfl ?_
  refine v_cong (es' := (wl D b sc (va_up (va_up ar 7 (lkN ar (sc 4) x (fillN 4095 (ar 7) 41) 6).2) 8 (csD (ar 24) rp wd k dr (lkN ar (sc 4) x (fillN 4095 (ar 7) 41) 6).2 L (ar 8) (L + 1 - (L + 1)))) hn mh G)) (lv' := [(5, .int (hrV (L + 1))), (0, .ref (b + 3)), (1, .ref (b + qs)), (2, .ref (b + (u + 40))), (3, .int x), (4, .int (nI L))]) (cg1 (fun (y0 : Nat → Int32) => wl D b sc (va_up (va_up ar 7 (lkN ar (sc 4) x (fillN 4095 (ar 7) 41) 6).2) 8 y0) hn mh G) (show ar 8 = (csD (ar 24) rp wd k dr (lkN ar (sc 4) x (fillN 4095 (ar 7) 41) 6).2 L (ar 8) (L + 1 - (L + 1))) by rw [Nat.sub_self]; rfl)) rfl ?_
  refine loop_up (P := fun n => V p l e { frames := 4, cells := 0, slots := 0, locals := 98 } s m args below meth c D b 8 (MQ below (cQ D b 0 (fun r es' => ∃ L, L ≤ 40 ∧ (lkN ar (sc 4) x (fillN 4095 (ar 7) 41) 6).1 = nI L ∧ r = some (.int ((csD (ar 24) rp wd k dr (lkN ar (sc 4) x (fillN 4095 (ar 7) 41) 6).2 L (ar 8) (L + 1)) 0)) ∧ wl D b sc (va_up (va_up ar 7 (lkN ar (sc 4) x (fillN 4095 (ar 7) 41) 6).2) 8 (csD (ar 24) rp wd k dr (lkN ar (sc 4) x (fillN 4095 (ar 7) 41) 6).2 L (ar 8) (L + 1))) hn mh G = es')) args s 0 0 (fun q => b ≤ q)) 0 0 (wl D b sc (va_up (va_up ar 7 (lkN ar (sc 4) x (fillN 4095 (ar 7) 41) 6).2) 8 (csD (ar 24) rp wd k dr (lkN ar (sc 4) x (fillN 4095 (ar 7) 41) 6).2 L (ar 8) (L + 1 - n))) hn mh G) [(5, .int (hrV n)), (0, .ref (b + 3)), (1, .ref (b + qs)), (2, .ref (b + (u + 40))), (3, .int x), (4, .int (nI L))] [] 11) (L + 1) ?_ (fun n hnL ih => ?_)
  · skip
    refine v_cong (es' := (wl D b sc (va_up (va_up ar 7 (lkN ar (sc 4) x (fillN 4095 (ar 7) 41) 6).2) 8 (csD (ar 24) rp wd k dr (lkN ar (sc 4) x (fillN 4095 (ar 7) 41) 6).2 L (ar 8) (L + 1 - 0))) hn mh G)) (lv' := [(5, .int (-1)), (0, .ref (b + 3)), (1, .ref (b + qs)), (2, .ref (b + (u + 40))), (3, .int x), (4, .int (nI L))]) rfl rfl ?_
    refine v_iload (n := 13) C dX8_startsOf_11 rfl rfl ?_
    refine v_if_lt (t := 110) (n := 16) C dX8_startsOf_13 (by decide) rfl (fun c_1 => ?_) (fun c_1 => ?_)
    · skip
      refine v_aload_n (n := 111) C dX8_startsOf_110 rfl rfl rfl ?_
      refine v_get (n := 114) C dX8_startsOf_111 rfl fl_X8_24_X8 wl_c3 rfl ?_
      refine v_iconst (n := 115) (v := 0) C dX8_startsOf_114 rfl (by decide) ?_
      refine v_iald (n := 116) C dX8_startsOf_115 rfl (show (wl D b sc (va_up (va_up ar 7 (lkN ar (sc 4) x (fillN 4095 (ar 7) 41) 6).2) 8 (csD (ar 24) rp wd k dr (lkN ar (sc 4) x (fillN 4095 (ar 7) 41) 6).2 L (ar 8) (L + 1 - 0))) hn mh G)[8]? = some (.inl (D.1 13, 41, .inl (csD (ar 24) rp wd k dr (lkN ar (sc 4) x (fillN 4095 (ar 7) 41) 6).2 L (ar 8) (L + 1 - 0)))) from wl_c8) (vp_lit (by decide) (by decide)) ?_
      exact v_iret C dX8_startsOf_116 rfl rfl ⟨L, hL, eL, rfl, rfl⟩
    · exact absurd c_1 (by decide)
  · skip
    refine v_cong (es' := (wl D b sc (va_up (va_up ar 7 (lkN ar (sc 4) x (fillN 4095 (ar 7) 41) 6).2) 8 (csD (ar 24) rp wd k dr (lkN ar (sc 4) x (fillN 4095 (ar 7) 41) 6).2 L (ar 8) (L + 1 - (n + 1)))) hn mh G)) (lv' := [(5, .int (nI n)), (0, .ref (b + 3)), (1, .ref (b + qs)), (2, .ref (b + (u + 40))), (3, .int x), (4, .int (nI L))]) rfl rfl ?_
    have xn : ¬ nI n < 0 := nI_pos (by omega)
    refine v_iload (n := 13) C dX8_startsOf_11 rfl rfl ?_
    refine v_if_lt (t := 110) (n := 16) C dX8_startsOf_13 (by decide) rfl (fun c_2 => ?_) (fun c_2 => ?_)
    · first | exact absurd c_2 xn | exact absurd xn c_2 | exact absurd c_2 (Int32.not_le.mpr xn) | exact absurd c_2 (Int32.not_lt.mpr xn) | exact absurd (Int32.not_le.mp xn) c_2 | exact absurd (Int32.not_lt.mp xn) c_2 | exact absurd (Int32.not_le.mp xn) (Int32.not_lt.mpr c_2) | exact absurd (Int32.not_lt.mp xn) (Int32.not_le.mpr c_2) | exact absurd (Int32.not_lt.mp c_2) (Int32.not_le.mpr (Int32.not_le.mp xn))
    · skip
      refine v_aload_n (n := 17) C dX8_startsOf_16 rfl rfl rfl ?_
      refine v_get (n := 20) C dX8_startsOf_17 rfl fl_X8_24_X8 wl_c3 rfl ?_
      refine v_iload (n := 22) C dX8_startsOf_20 rfl rfl ?_
      refine v_iconst (n := 23) (v := 0) C dX8_startsOf_22 rfl (by decide) ?_
      refine v_iast (n := 24) (es' := (wl D b sc (va_up (va_up ar 7 (lkN ar (sc 4) x (fillN 4095 (ar 7) 41) 6).2) 8 (upd (csD (ar 24) rp wd k dr (lkN ar (sc 4) x (fillN 4095 (ar 7) 41) 6).2 L (ar 8) (L + 1 - (n + 1))) n 0)) hn mh G)) C dX8_startsOf_23 rfl (show (wl D b sc (va_up (va_up ar 7 (lkN ar (sc 4) x (fillN 4095 (ar 7) 41) 6).2) 8 (csD (ar 24) rp wd k dr (lkN ar (sc 4) x (fillN 4095 (ar 7) 41) 6).2 L (ar 8) (L + 1 - (n + 1)))) hn mh G)[8]? = some (.inl (D.1 13, 41, .inl (csD (ar 24) rp wd k dr (lkN ar (sc 4) x (fillN 4095 (ar 7) 41) 6).2 L (ar 8) (L + 1 - (n + 1))))) from wl_c8) (vp_in_nI (by omega) (by decide)) (by rw [nI_clamp (show n < 2 ^ 31 by omega)]; exact rfl) ?_
      refine v_iconst (n := 25) (v := 0) C dX8_startsOf_24 rfl (by decide) ?_
      refine v_istore (n := 27) (lv' := [(6, .int 0), (5, .int (nI n)), (0, .ref (b + 3)), (1, .ref (b + qs)), (2, .ref (b + (u + 40))), (3, .int x), (4, .int (nI L))]) C dX8_startsOf_25 rfl (Nat.le_of_ble_eq_true rfl) rfl ?_
      refine v_pick (lv' := [(6, .int 0), (0, .ref (b + 3)), (1, .ref (b + qs)), (2, .ref (b + (u + 40))), (3, .int x), (4, .int (nI L)), (5, .int (nI n))]) [0, 2, 3, 4, 5, 6, 1] rfl ?_
      have e_3 : (0 : Int32) = (nI 0) := rfl
      have e_4 : ((upd (csD (ar 24) rp wd k dr (lkN ar (sc 4) x (fillN 4095 (ar 7) 41) 6).2 L (ar 8) (L + 1 - (n + 1))) n 0) : Nat → Int32) = (ciN (ar 24) rp wd k dr (lkN ar (sc 4) x (fillN 4095 (ar 7) 41) 6).2 L n (csD (ar 24) rp wd k dr (lkN ar (sc 4) x (fillN 4095 (ar 7) 41) 6).2 L (ar 8) (L + 1 - (n + 1))) 0) := rfl
      refine v_cong (es' := (wl D b sc (va_up (va_up ar 7 (lkN ar (sc 4) x (fillN 4095 (ar 7) 41) 6).2) 8 (ciN (ar 24) rp wd k dr (lkN ar (sc 4) x (fillN 4095 (ar 7) 41) 6).2 L n (csD (ar 24) rp wd k dr (lkN ar (sc 4) x (fillN 4095 (ar 7) 41) 6).2 L (ar 8) (L + 1 - (n + 1))) 0)) hn mh G)) (lv' := [(6, .int (nI 0)), (0, .ref (b + 3)), (1, .ref (b + qs)), (2, .ref (b + (u + 40))), (3, .int x), (4, .int (nI L)), (5, .int (nI n))]) (cg1 (fun (y0 : Nat → Int32) => wl D b sc (va_up (va_up ar 7 (lkN ar (sc 4) x (fillN 4095 (ar 7) 41) 6).2) 8 y0) hn mh G) e_4) (cg1 (fun (z0 : Int32) => ([(6, .int z0), (0, .ref (b + 3)), (1, .ref (b + qs)), (2, .ref (b + (u + 40))), (3, .int x), (4, .int (nI L)), (5, .int (nI n))] : List (Nat × Value))) e_3) ?_
      refine loop_dn (P := fun i_27 => V p l e { frames := 4, cells := 0, slots := 0, locals := 98 } s m args below meth c D b 8 (MQ below (cQ D b 0 (fun r es' => ∃ L, L ≤ 40 ∧ (lkN ar (sc 4) x (fillN 4095 (ar 7) 41) 6).1 = nI L ∧ r = some (.int ((csD (ar 24) rp wd k dr (lkN ar (sc 4) x (fillN 4095 (ar 7) 41) 6).2 L (ar 8) (L + 1)) 0)) ∧ wl D b sc (va_up (va_up ar 7 (lkN ar (sc 4) x (fillN 4095 (ar 7) 41) 6).2) 8 (csD (ar 24) rp wd k dr (lkN ar (sc 4) x (fillN 4095 (ar 7) 41) 6).2 L (ar 8) (L + 1))) hn mh G = es')) args s 0 0 (fun q => b ≤ q)) 0 0 (wl D b sc (va_up (va_up ar 7 (lkN ar (sc 4) x (fillN 4095 (ar 7) 41) 6).2) 8 (ciN (ar 24) rp wd k dr (lkN ar (sc 4) x (fillN 4095 (ar 7) 41) 6).2 L n (csD (ar 24) rp wd k dr (lkN ar (sc 4) x (fillN 4095 (ar 7) 41) 6).2 L (ar 8) (L + 1 - (n + 1))) i_27)) hn mh G) [(6, .int (nI i_27)), (0, .ref (b + 3)), (1, .ref (b + qs)), (2, .ref (b + (u + 40))), (3, .int x), (4, .int (nI L)), (5, .int (nI n))] [] 27) 12 ?_ (fun i_27 hi_27 ih_27 => ?_)
      · skip
        have g_5 : (12 : Int32) ≤ (nI 12) := by decide
        refine v_iload (n := 29) C dX8_startsOf_27 rfl rfl ?_
        refine v_bipush (n := 31) (v := 12) C dX8_startsOf_29 rfl (by decide) ?_
        refine v_icmp_ge (t := 104) (n := 34) C dX8_startsOf_31 (by decide) rfl (fun c_6 => ?_) (fun c_6 => ?_)
        · skip
          refine v_iinc (n := 107) (v := ((nI n) + (-1))) (lv' := [(5, .int ((nI n) + (-1))), (6, .int (nI 12)), (0, .ref (b + 3)), (1, .ref (b + qs)), (2, .ref (b + (u + 40))), (3, .int x), (4, .int (nI L))]) C dX8_startsOf_104 rfl rfl rfl (Nat.le_of_ble_eq_true rfl) rfl ?_
          refine v_goto (t := 11) C dX8_startsOf_107 (by decide) ?_
          refine v_pick (lv' := [(5, .int ((nI n) + (-1))), (0, .ref (b + 3)), (1, .ref (b + qs)), (2, .ref (b + (u + 40))), (3, .int x), (4, .int (nI L))]) [0, 2, 3, 4, 5, 6] rfl ?_
          refine v_cong (es' := (wl D b sc (va_up (va_up ar 7 (lkN ar (sc 4) x (fillN 4095 (ar 7) 41) 6).2) 8 (csD (ar 24) rp wd k dr (lkN ar (sc 4) x (fillN 4095 (ar 7) 41) 6).2 L (ar 8) (L + 1 - n))) hn mh G)) (lv' := [(5, .int (hrV n)), (0, .ref (b + 3)), (1, .ref (b + qs)), (2, .ref (b + (u + 40))), (3, .int x), (4, .int (nI L))]) (cg1 (fun (y0 : Nat → Int32) => wl D b sc (va_up (va_up ar 7 (lkN ar (sc 4) x (fillN 4095 (ar 7) 41) 6).2) 8 y0) hn mh G) (csD_step hnL).symm) (cg1 (fun (z0 : Int32) => ([(5, .int z0), (0, .ref (b + 3)), (1, .ref (b + qs)), (2, .ref (b + (u + 40))), (3, .int x), (4, .int (nI L))] : List (Nat × Value))) (hrV_dec n)) ?_
          exact ih
        · first | exact absurd c_6 g_5 | exact absurd g_5 c_6 | exact absurd c_6 (Int32.not_le.mpr g_5) | exact absurd c_6 (Int32.not_lt.mpr g_5) | exact absurd (Int32.not_le.mp g_5) c_6 | exact absurd (Int32.not_lt.mp g_5) c_6 | exact absurd (Int32.not_le.mp g_5) (Int32.not_lt.mpr c_6) | exact absurd (Int32.not_lt.mp g_5) (Int32.not_le.mpr c_6) | exact absurd (Int32.not_lt.mp c_6) (Int32.not_le.mpr (Int32.not_le.mp g_5))
      · skip
        have g_7 : ¬ (12 : Int32) ≤ (nI i_27) := nI_ge (a := i_27 + 0) (b := 12) (by omega) (by decide)
        refine v_iload (n := 29) C dX8_startsOf_27 rfl rfl ?_
        refine v_bipush (n := 31) (v := 12) C dX8_startsOf_29 rfl (by decide) ?_
        refine v_icmp_ge (t := 104) (n := 34) C dX8_startsOf_31 (by decide) rfl (fun c_8 => ?_) (fun c_8 => ?_)
        · first | exact absurd c_8 g_7 | exact absurd g_7 c_8 | exact absurd c_8 (Int32.not_le.mpr g_7) | exact absurd c_8 (Int32.not_lt.mpr g_7) | exact absurd (Int32.not_le.mp g_7) c_8 | exact absurd (Int32.not_lt.mp g_7) c_8 | exact absurd (Int32.not_le.mp g_7) (Int32.not_lt.mpr c_8) | exact absurd (Int32.not_lt.mp g_7) (Int32.not_le.mpr c_8) | exact absurd (Int32.not_lt.mp c_8) (Int32.not_le.mpr (Int32.not_le.mp g_7))
        · skip
          refine v_aload_n (n := 35) C dX8_startsOf_34 rfl rfl rfl ?_
          refine v_get (n := 38) C dX8_startsOf_35 rfl fl_X8_21_X8 wl_c3 rfl ?_
          refine v_iload (n := 40) C dX8_startsOf_38 rfl rfl ?_
          refine v_iald (n := 41) C dX8_startsOf_40 rfl (show (wl D b sc (va_up (va_up ar 7 (lkN ar (sc 4) x (fillN 4095 (ar 7) 41) 6).2) 8 (ciN (ar 24) rp wd k dr (lkN ar (sc 4) x (fillN 4095 (ar 7) 41) 6).2 L n (csD (ar 24) rp wd k dr (lkN ar (sc 4) x (fillN 4095 (ar 7) 41) 6).2 L (ar 8) (L + 1 - (n + 1))) i_27)) hn mh G)[7]? = some (.inl (D.1 13, 41, .inl (lkN ar (sc 4) x (fillN 4095 (ar 7) 41) 6).2)) from wl_c7) (vp_in_nI (by omega) (by decide)) ?_
          refine v_stk (st' := .int ((lkN ar (sc 4) x (fillN 4095 (ar 7) 41) 6).2 n) :: []) (congrArg (fun z : Nat => Value.int ((lkN ar (sc 4) x (fillN 4095 (ar 7) 41) 6).2 z) :: []) (nI_clamp (show n < 2 ^ 31 by omega))) ?_
          refine v_iload (n := 43) C dX8_startsOf_41 rfl rfl ?_
          refine v_ishr (n := 44) C dX8_startsOf_43 rfl ?_
          refine v_iconst (n := 45) (v := 1) C dX8_startsOf_44 rfl (by decide) ?_
          refine v_iand (n := 46) C dX8_startsOf_45 rfl ?_
          refine v_iconst (n := 47) (v := 1) C dX8_startsOf_46 rfl (by decide) ?_
          refine v_icmp_ne (t := 54) (n := 50) C dX8_startsOf_47 (by decide) rfl (fun c_9 => ?_) (fun c_9 => ?_)
          · skip
            refine v_iconst (n := 55) (v := 0) C dX8_startsOf_54 rfl (by decide) ?_
            refine v_istore (n := 57) (lv' := [(7, .int 0), (6, .int (nI i_27)), (0, .ref (b + 3)), (1, .ref (b + qs)), (2, .ref (b + (u + 40))), (3, .int x), (4, .int (nI L)), (5, .int (nI n))]) C dX8_startsOf_55 rfl (Nat.le_of_ble_eq_true rfl) rfl ?_
            refine v_iload (n := 59) C dX8_startsOf_57 rfl rfl ?_
            refine v_if_eq (t := 98) (n := 62) C dX8_startsOf_59 (by decide) rfl (fun c_10 => ?_) (fun c_10 => ?_)
            · skip
              refine v_iinc (n := 101) (v := ((nI i_27) + 1)) (lv' := [(6, .int ((nI i_27) + 1)), (7, .int 0), (0, .ref (b + 3)), (1, .ref (b + qs)), (2, .ref (b + (u + 40))), (3, .int x), (4, .int (nI L)), (5, .int (nI n))]) C dX8_startsOf_98 rfl rfl rfl (Nat.le_of_ble_eq_true rfl) rfl ?_
              refine v_goto (t := 27) C dX8_startsOf_101 (by decide) ?_
              refine v_pick (lv' := [(6, .int ((nI i_27) + 1)), (0, .ref (b + 3)), (1, .ref (b + qs)), (2, .ref (b + (u + 40))), (3, .int x), (4, .int (nI L)), (5, .int (nI n))]) [0, 2, 3, 4, 5, 6, 7] rfl ?_
              have e_11 : ((nI i_27) + 1) = (nI (i_27 + 1)) := nI_1 _
              have e_12 : ((ciN (ar 24) rp wd k dr (lkN ar (sc 4) x (fillN 4095 (ar 7) 41) 6).2 L n (csD (ar 24) rp wd k dr (lkN ar (sc 4) x (fillN 4095 (ar 7) 41) 6).2 L (ar 8) (L + 1 - (n + 1))) i_27) : Nat → Int32) = (ciN (ar 24) rp wd k dr (lkN ar (sc 4) x (fillN 4095 (ar 7) 41) 6).2 L n (csD (ar 24) rp wd k dr (lkN ar (sc 4) x (fillN 4095 (ar 7) 41) 6).2 L (ar 8) (L + 1 - (n + 1))) (i_27 + 1)) := by rw [ciN]; exact (ite_neg' (fun q => c_9 q.1)).symm
              refine v_cong (es' := (wl D b sc (va_up (va_up ar 7 (lkN ar (sc 4) x (fillN 4095 (ar 7) 41) 6).2) 8 (ciN (ar 24) rp wd k dr (lkN ar (sc 4) x (fillN 4095 (ar 7) 41) 6).2 L n (csD (ar 24) rp wd k dr (lkN ar (sc 4) x (fillN 4095 (ar 7) 41) 6).2 L (ar 8) (L + 1 - (n + 1))) (i_27 + 1))) hn mh G)) (lv' := [(6, .int (nI (i_27 + 1))), (0, .ref (b + 3)), (1, .ref (b + qs)), (2, .ref (b + (u + 40))), (3, .int x), (4, .int (nI L)), (5, .int (nI n))]) (cg1 (fun (y0 : Nat → Int32) => wl D b sc (va_up (va_up ar 7 (lkN ar (sc 4) x (fillN 4095 (ar 7) 41) 6).2) 8 y0) hn mh G) e_12) (cg1 (fun (z0 : Int32) => ([(6, .int z0), (0, .ref (b + 3)), (1, .ref (b + qs)), (2, .ref (b + (u + 40))), (3, .int x), (4, .int (nI L)), (5, .int (nI n))] : List (Nat × Value))) e_11) ?_
              exact ih_27
            · exact absurd c_10 (by decide)
          · skip
            refine v_iconst (n := 51) (v := 1) C dX8_startsOf_50 rfl (by decide) ?_
            refine v_goto (t := 55) C dX8_startsOf_51 (by decide) ?_
            refine v_istore (n := 57) (lv' := [(7, .int 1), (6, .int (nI i_27)), (0, .ref (b + 3)), (1, .ref (b + qs)), (2, .ref (b + (u + 40))), (3, .int x), (4, .int (nI L)), (5, .int (nI n))]) C dX8_startsOf_55 rfl (Nat.le_of_ble_eq_true rfl) rfl ?_
            refine v_iload (n := 59) C dX8_startsOf_57 rfl rfl ?_
            refine v_if_eq (t := 98) (n := 62) C dX8_startsOf_59 (by decide) rfl (fun c_13 => ?_) (fun c_13 => ?_)
            · exact absurd c_13 (by decide)
            · skip
              refine v_iload (n := 64) C dX8_startsOf_62 rfl rfl ?_
              refine v_iload (n := 66) C dX8_startsOf_64 rfl rfl ?_
              refine v_icmp_eq (t := 84) (n := 69) C dX8_startsOf_66 (by decide) rfl (fun c_14 => ?_) (fun c_14 => ?_)
              · skip
                refine v_aload_n (n := 85) C dX8_startsOf_84 rfl rfl rfl ?_
                refine v_get (n := 88) C dX8_startsOf_85 rfl fl_X8_24_X8 wl_c3 rfl ?_
                refine v_iload (n := 90) C dX8_startsOf_88 rfl rfl ?_
                refine v_dup2 (n := 91) C dX8_startsOf_90 rfl rfl rfl ?_
                refine v_iald (n := 92) C dX8_startsOf_91 rfl (show (wl D b sc (va_up (va_up ar 7 (lkN ar (sc 4) x (fillN 4095 (ar 7) 41) 6).2) 8 (ciN (ar 24) rp wd k dr (lkN ar (sc 4) x (fillN 4095 (ar 7) 41) 6).2 L n (csD (ar 24) rp wd k dr (lkN ar (sc 4) x (fillN 4095 (ar 7) 41) 6).2 L (ar 8) (L + 1 - (n + 1))) i_27)) hn mh G)[8]? = some (.inl (D.1 13, 41, .inl (ciN (ar 24) rp wd k dr (lkN ar (sc 4) x (fillN 4095 (ar 7) 41) 6).2 L n (csD (ar 24) rp wd k dr (lkN ar (sc 4) x (fillN 4095 (ar 7) 41) 6).2 L (ar 8) (L + 1 - (n + 1))) i_27))) from wl_c8) (vp_in_nI (by omega) (by decide)) ?_
                refine v_stk (st' := .int ((ciN (ar 24) rp wd k dr (lkN ar (sc 4) x (fillN 4095 (ar 7) 41) 6).2 L n (csD (ar 24) rp wd k dr (lkN ar (sc 4) x (fillN 4095 (ar 7) 41) 6).2 L (ar 8) (L + 1 - (n + 1))) i_27) n) :: [.int (nI n), .ref (b + 8)]) (congrArg (fun z : Nat => Value.int ((ciN (ar 24) rp wd k dr (lkN ar (sc 4) x (fillN 4095 (ar 7) 41) 6).2 L n (csD (ar 24) rp wd k dr (lkN ar (sc 4) x (fillN 4095 (ar 7) 41) 6).2 L (ar 8) (L + 1 - (n + 1))) i_27) z) :: [.int (nI n), .ref (b + 8)]) (nI_clamp (show n < 2 ^ 31 by omega))) ?_
                refine v_iconst (n := 93) (v := 1) C dX8_startsOf_92 rfl (by decide) ?_
                refine v_iload (n := 95) C dX8_startsOf_93 rfl rfl ?_
                refine v_ishl (n := 96) C dX8_startsOf_95 rfl ?_
                refine v_ior (n := 97) C dX8_startsOf_96 rfl ?_
                refine v_iast (n := 98) (es' := (wl D b sc (va_up (va_up ar 7 (lkN ar (sc 4) x (fillN 4095 (ar 7) 41) 6).2) 8 (upd (ciN (ar 24) rp wd k dr (lkN ar (sc 4) x (fillN 4095 (ar 7) 41) 6).2 L n (csD (ar 24) rp wd k dr (lkN ar (sc 4) x (fillN 4095 (ar 7) 41) 6).2 L (ar 8) (L + 1 - (n + 1))) i_27) n (((ciN (ar 24) rp wd k dr (lkN ar (sc 4) x (fillN 4095 (ar 7) 41) 6).2 L n (csD (ar 24) rp wd k dr (lkN ar (sc 4) x (fillN 4095 (ar 7) 41) 6).2 L (ar 8) (L + 1 - (n + 1))) i_27) n) ||| (1 <<< ((nI i_27) &&& 31))))) hn mh G)) C dX8_startsOf_97 rfl (show (wl D b sc (va_up (va_up ar 7 (lkN ar (sc 4) x (fillN 4095 (ar 7) 41) 6).2) 8 (ciN (ar 24) rp wd k dr (lkN ar (sc 4) x (fillN 4095 (ar 7) 41) 6).2 L n (csD (ar 24) rp wd k dr (lkN ar (sc 4) x (fillN 4095 (ar 7) 41) 6).2 L (ar 8) (L + 1 - (n + 1))) i_27)) hn mh G)[8]? = some (.inl (D.1 13, 41, .inl (ciN (ar 24) rp wd k dr (lkN ar (sc 4) x (fillN 4095 (ar 7) 41) 6).2 L n (csD (ar 24) rp wd k dr (lkN ar (sc 4) x (fillN 4095 (ar 7) 41) 6).2 L (ar 8) (L + 1 - (n + 1))) i_27))) from wl_c8) (vp_in_nI (by omega) (by decide)) (by rw [nI_clamp (show n < 2 ^ 31 by omega)]; exact rfl) ?_
                refine v_iinc (n := 101) (v := ((nI i_27) + 1)) (lv' := [(6, .int ((nI i_27) + 1)), (7, .int 1), (0, .ref (b + 3)), (1, .ref (b + qs)), (2, .ref (b + (u + 40))), (3, .int x), (4, .int (nI L)), (5, .int (nI n))]) C dX8_startsOf_98 rfl rfl rfl (Nat.le_of_ble_eq_true rfl) rfl ?_
                refine v_goto (t := 27) C dX8_startsOf_101 (by decide) ?_
                refine v_pick (lv' := [(6, .int ((nI i_27) + 1)), (0, .ref (b + 3)), (1, .ref (b + qs)), (2, .ref (b + (u + 40))), (3, .int x), (4, .int (nI L)), (5, .int (nI n))]) [0, 2, 3, 4, 5, 6, 7] rfl ?_
                have e_15 : ((nI i_27) + 1) = (nI (i_27 + 1)) := nI_1 _
                have e_16 : ((upd (ciN (ar 24) rp wd k dr (lkN ar (sc 4) x (fillN 4095 (ar 7) 41) 6).2 L n (csD (ar 24) rp wd k dr (lkN ar (sc 4) x (fillN 4095 (ar 7) 41) 6).2 L (ar 8) (L + 1 - (n + 1))) i_27) n (((ciN (ar 24) rp wd k dr (lkN ar (sc 4) x (fillN 4095 (ar 7) 41) 6).2 L n (csD (ar 24) rp wd k dr (lkN ar (sc 4) x (fillN 4095 (ar 7) 41) 6).2 L (ar 8) (L + 1 - (n + 1))) i_27) n) ||| (1 <<< ((nI i_27) &&& 31)))) : Nat → Int32) = (ciN (ar 24) rp wd k dr (lkN ar (sc 4) x (fillN 4095 (ar 7) 41) 6).2 L n (csD (ar 24) rp wd k dr (lkN ar (sc 4) x (fillN 4095 (ar 7) 41) 6).2 L (ar 8) (L + 1 - (n + 1))) (i_27 + 1)) := by rw [ciN]; exact (ite_pos' ⟨c_9, Or.inl ((nI_eq (by omega) (by omega)).mp c_14)⟩).symm
                refine v_cong (es' := (wl D b sc (va_up (va_up ar 7 (lkN ar (sc 4) x (fillN 4095 (ar 7) 41) 6).2) 8 (ciN (ar 24) rp wd k dr (lkN ar (sc 4) x (fillN 4095 (ar 7) 41) 6).2 L n (csD (ar 24) rp wd k dr (lkN ar (sc 4) x (fillN 4095 (ar 7) 41) 6).2 L (ar 8) (L + 1 - (n + 1))) (i_27 + 1))) hn mh G)) (lv' := [(6, .int (nI (i_27 + 1))), (0, .ref (b + 3)), (1, .ref (b + qs)), (2, .ref (b + (u + 40))), (3, .int x), (4, .int (nI L)), (5, .int (nI n))]) (cg1 (fun (y0 : Nat → Int32) => wl D b sc (va_up (va_up ar 7 (lkN ar (sc 4) x (fillN 4095 (ar 7) 41) 6).2) 8 y0) hn mh G) e_16) (cg1 (fun (z0 : Int32) => ([(6, .int z0), (0, .ref (b + 3)), (1, .ref (b + qs)), (2, .ref (b + (u + 40))), (3, .int x), (4, .int (nI L)), (5, .int (nI n))] : List (Nat × Value))) e_15) ?_
                exact ih_27
              · skip
                refine v_aload_n (n := 70) C dX8_startsOf_69 rfl rfl rfl ?_
                refine v_aload_n (n := 71) C dX8_startsOf_70 rfl rfl rfl ?_
                refine v_aload_n (n := 72) C dX8_startsOf_71 rfl rfl rfl ?_
                refine v_iload (n := 74) C dX8_startsOf_72 rfl rfl ?_
                refine v_iload (n := 76) C dX8_startsOf_74 rfl rfl ?_
                refine v_iload (n := 78) C dX8_startsOf_76 rfl rfl ?_
                refine v_go (n := 81) C (vRun_V (As := [.ref (b + qs), .ref (b + (u + 40)), .int (nI i_27), .int (nI n), .int (nI L)]) (rest := []) C wl_c3 rfl lk_X8_35 im_X8_goesOn se_X8_goesOn dX8_startsOf_78 (c_goesOn l D b sc (va_up (va_up ar 7 (lkN ar (sc 4) x (fillN 4095 (ar 7) 41) 6).2) 8 (ciN (ar 24) rp wd k dr (lkN ar (sc 4) x (fillN 4095 (ar 7) 41) 6).2 L n (csD (ar 24) rp wd k dr (lkN ar (sc 4) x (fillN 4095 (ar 7) 41) 6).2 L (ar 8) (L + 1 - (n + 1))) i_27)) hn mh G qs rp wd hs u k dr ce sa hk hg (nI i_27) (nI L) n (by omega)) wm_X8_goesOn rfl rfl ⟨Nat.le_of_ble_eq_true rfl, Nat.le_of_ble_eq_true rfl⟩ ⟨Nat.le_of_ble_eq_true rfl, Nat.le_of_ble_eq_true rfl⟩ (Nat.le_of_ble_eq_true rfl)) rfl ?_
                rintro _ _ ⟨⟨rfl, hg_17⟩ | ⟨rfl, hg_17⟩, rfl⟩ -
                · skip
                  refine v_if_eq (t := 98) (n := 84) C dX8_startsOf_81 (by decide) rfl (fun c_18 => ?_) (fun c_18 => ?_)
                  · exact absurd c_18 (by decide)
                  · skip
                    refine v_aload_n (n := 85) C dX8_startsOf_84 rfl rfl rfl ?_
                    refine v_get (n := 88) C dX8_startsOf_85 rfl fl_X8_24_X8 wl_c3 rfl ?_
                    refine v_iload (n := 90) C dX8_startsOf_88 rfl rfl ?_
                    refine v_dup2 (n := 91) C dX8_startsOf_90 rfl rfl rfl ?_
                    refine v_iald (n := 92) C dX8_startsOf_91 rfl (show (wl D b sc (va_up (va_up ar 7 (lkN ar (sc 4) x (fillN 4095 (ar 7) 41) 6).2) 8 (ciN (ar 24) rp wd k dr (lkN ar (sc 4) x (fillN 4095 (ar 7) 41) 6).2 L n (csD (ar 24) rp wd k dr (lkN ar (sc 4) x (fillN 4095 (ar 7) 41) 6).2 L (ar 8) (L + 1 - (n + 1))) i_27)) hn mh G)[8]? = some (.inl (D.1 13, 41, .inl (ciN (ar 24) rp wd k dr (lkN ar (sc 4) x (fillN 4095 (ar 7) 41) 6).2 L n (csD (ar 24) rp wd k dr (lkN ar (sc 4) x (fillN 4095 (ar 7) 41) 6).2 L (ar 8) (L + 1 - (n + 1))) i_27))) from wl_c8) (vp_in_nI (by omega) (by decide)) ?_
                    refine v_stk (st' := .int ((ciN (ar 24) rp wd k dr (lkN ar (sc 4) x (fillN 4095 (ar 7) 41) 6).2 L n (csD (ar 24) rp wd k dr (lkN ar (sc 4) x (fillN 4095 (ar 7) 41) 6).2 L (ar 8) (L + 1 - (n + 1))) i_27) n) :: [.int (nI n), .ref (b + 8)]) (congrArg (fun z : Nat => Value.int ((ciN (ar 24) rp wd k dr (lkN ar (sc 4) x (fillN 4095 (ar 7) 41) 6).2 L n (csD (ar 24) rp wd k dr (lkN ar (sc 4) x (fillN 4095 (ar 7) 41) 6).2 L (ar 8) (L + 1 - (n + 1))) i_27) z) :: [.int (nI n), .ref (b + 8)]) (nI_clamp (show n < 2 ^ 31 by omega))) ?_
                    refine v_iconst (n := 93) (v := 1) C dX8_startsOf_92 rfl (by decide) ?_
                    refine v_iload (n := 95) C dX8_startsOf_93 rfl rfl ?_
                    refine v_ishl (n := 96) C dX8_startsOf_95 rfl ?_
                    refine v_ior (n := 97) C dX8_startsOf_96 rfl ?_
                    refine v_iast (n := 98) (es' := (wl D b sc (va_up (va_up ar 7 (lkN ar (sc 4) x (fillN 4095 (ar 7) 41) 6).2) 8 (upd (ciN (ar 24) rp wd k dr (lkN ar (sc 4) x (fillN 4095 (ar 7) 41) 6).2 L n (csD (ar 24) rp wd k dr (lkN ar (sc 4) x (fillN 4095 (ar 7) 41) 6).2 L (ar 8) (L + 1 - (n + 1))) i_27) n (((ciN (ar 24) rp wd k dr (lkN ar (sc 4) x (fillN 4095 (ar 7) 41) 6).2 L n (csD (ar 24) rp wd k dr (lkN ar (sc 4) x (fillN 4095 (ar 7) 41) 6).2 L (ar 8) (L + 1 - (n + 1))) i_27) n) ||| (1 <<< ((nI i_27) &&& 31))))) hn mh G)) C dX8_startsOf_97 rfl (show (wl D b sc (va_up (va_up ar 7 (lkN ar (sc 4) x (fillN 4095 (ar 7) 41) 6).2) 8 (ciN (ar 24) rp wd k dr (lkN ar (sc 4) x (fillN 4095 (ar 7) 41) 6).2 L n (csD (ar 24) rp wd k dr (lkN ar (sc 4) x (fillN 4095 (ar 7) 41) 6).2 L (ar 8) (L + 1 - (n + 1))) i_27)) hn mh G)[8]? = some (.inl (D.1 13, 41, .inl (ciN (ar 24) rp wd k dr (lkN ar (sc 4) x (fillN 4095 (ar 7) 41) 6).2 L n (csD (ar 24) rp wd k dr (lkN ar (sc 4) x (fillN 4095 (ar 7) 41) 6).2 L (ar 8) (L + 1 - (n + 1))) i_27))) from wl_c8) (vp_in_nI (by omega) (by decide)) (by rw [nI_clamp (show n < 2 ^ 31 by omega)]; exact rfl) ?_
                    refine v_iinc (n := 101) (v := ((nI i_27) + 1)) (lv' := [(6, .int ((nI i_27) + 1)), (7, .int 1), (0, .ref (b + 3)), (1, .ref (b + qs)), (2, .ref (b + (u + 40))), (3, .int x), (4, .int (nI L)), (5, .int (nI n))]) C dX8_startsOf_98 rfl rfl rfl (Nat.le_of_ble_eq_true rfl) rfl ?_
                    refine v_goto (t := 27) C dX8_startsOf_101 (by decide) ?_
                    refine v_pick (lv' := [(6, .int ((nI i_27) + 1)), (0, .ref (b + 3)), (1, .ref (b + qs)), (2, .ref (b + (u + 40))), (3, .int x), (4, .int (nI L)), (5, .int (nI n))]) [0, 2, 3, 4, 5, 6, 7] rfl ?_
                    have e_19 : ((nI i_27) + 1) = (nI (i_27 + 1)) := nI_1 _
                    have e_20 : ((upd (ciN (ar 24) rp wd k dr (lkN ar (sc 4) x (fillN 4095 (ar 7) 41) 6).2 L n (csD (ar 24) rp wd k dr (lkN ar (sc 4) x (fillN 4095 (ar 7) 41) 6).2 L (ar 8) (L + 1 - (n + 1))) i_27) n (((ciN (ar 24) rp wd k dr (lkN ar (sc 4) x (fillN 4095 (ar 7) 41) 6).2 L n (csD (ar 24) rp wd k dr (lkN ar (sc 4) x (fillN 4095 (ar 7) 41) 6).2 L (ar 8) (L + 1 - (n + 1))) i_27) n) ||| (1 <<< ((nI i_27) &&& 31)))) : Nat → Int32) = (ciN (ar 24) rp wd k dr (lkN ar (sc 4) x (fillN 4095 (ar 7) 41) 6).2 L n (csD (ar 24) rp wd k dr (lkN ar (sc 4) x (fillN 4095 (ar 7) 41) 6).2 L (ar 8) (L + 1 - (n + 1))) (i_27 + 1)) := by rw [ciN]; exact (ite_pos' ⟨c_9, Or.inr hg_17⟩).symm
                    refine v_cong (es' := (wl D b sc (va_up (va_up ar 7 (lkN ar (sc 4) x (fillN 4095 (ar 7) 41) 6).2) 8 (ciN (ar 24) rp wd k dr (lkN ar (sc 4) x (fillN 4095 (ar 7) 41) 6).2 L n (csD (ar 24) rp wd k dr (lkN ar (sc 4) x (fillN 4095 (ar 7) 41) 6).2 L (ar 8) (L + 1 - (n + 1))) (i_27 + 1))) hn mh G)) (lv' := [(6, .int (nI (i_27 + 1))), (0, .ref (b + 3)), (1, .ref (b + qs)), (2, .ref (b + (u + 40))), (3, .int x), (4, .int (nI L)), (5, .int (nI n))]) (cg1 (fun (y0 : Nat → Int32) => wl D b sc (va_up (va_up ar 7 (lkN ar (sc 4) x (fillN 4095 (ar 7) 41) 6).2) 8 y0) hn mh G) e_20) (cg1 (fun (z0 : Int32) => ([(6, .int z0), (0, .ref (b + 3)), (1, .ref (b + qs)), (2, .ref (b + (u + 40))), (3, .int x), (4, .int (nI L)), (5, .int (nI n))] : List (Nat × Value))) e_19) ?_
                    exact ih_27
                · skip
                  refine v_if_eq (t := 98) (n := 84) C dX8_startsOf_81 (by decide) rfl (fun c_21 => ?_) (fun c_21 => ?_)
                  · skip
                    refine v_iinc (n := 101) (v := ((nI i_27) + 1)) (lv' := [(6, .int ((nI i_27) + 1)), (7, .int 1), (0, .ref (b + 3)), (1, .ref (b + qs)), (2, .ref (b + (u + 40))), (3, .int x), (4, .int (nI L)), (5, .int (nI n))]) C dX8_startsOf_98 rfl rfl rfl (Nat.le_of_ble_eq_true rfl) rfl ?_
                    refine v_goto (t := 27) C dX8_startsOf_101 (by decide) ?_
                    refine v_pick (lv' := [(6, .int ((nI i_27) + 1)), (0, .ref (b + 3)), (1, .ref (b + qs)), (2, .ref (b + (u + 40))), (3, .int x), (4, .int (nI L)), (5, .int (nI n))]) [0, 2, 3, 4, 5, 6, 7] rfl ?_
                    have e_22 : ((nI i_27) + 1) = (nI (i_27 + 1)) := nI_1 _
                    have e_23 : ((ciN (ar 24) rp wd k dr (lkN ar (sc 4) x (fillN 4095 (ar 7) 41) 6).2 L n (csD (ar 24) rp wd k dr (lkN ar (sc 4) x (fillN 4095 (ar 7) 41) 6).2 L (ar 8) (L + 1 - (n + 1))) i_27) : Nat → Int32) = (ciN (ar 24) rp wd k dr (lkN ar (sc 4) x (fillN 4095 (ar 7) 41) 6).2 L n (csD (ar 24) rp wd k dr (lkN ar (sc 4) x (fillN 4095 (ar 7) 41) 6).2 L (ar 8) (L + 1 - (n + 1))) (i_27 + 1)) := by rw [ciN]; exact (ite_neg' (fun q => q.2.elim (fun h => c_14 ((nI_eq (by omega) (by omega)).mpr h)) hg_17)).symm
                    refine v_cong (es' := (wl D b sc (va_up (va_up ar 7 (lkN ar (sc 4) x (fillN 4095 (ar 7) 41) 6).2) 8 (ciN (ar 24) rp wd k dr (lkN ar (sc 4) x (fillN 4095 (ar 7) 41) 6).2 L n (csD (ar 24) rp wd k dr (lkN ar (sc 4) x (fillN 4095 (ar 7) 41) 6).2 L (ar 8) (L + 1 - (n + 1))) (i_27 + 1))) hn mh G)) (lv' := [(6, .int (nI (i_27 + 1))), (0, .ref (b + 3)), (1, .ref (b + qs)), (2, .ref (b + (u + 40))), (3, .int x), (4, .int (nI L)), (5, .int (nI n))]) (cg1 (fun (y0 : Nat → Int32) => wl D b sc (va_up (va_up ar 7 (lkN ar (sc 4) x (fillN 4095 (ar 7) 41) 6).2) 8 y0) hn mh G) e_23) (cg1 (fun (z0 : Int32) => ([(6, .int z0), (0, .ref (b + 3)), (1, .ref (b + qs)), (2, .ref (b + (u + 40))), (3, .int x), (4, .int (nI L)), (5, .int (nI n))] : List (Nat × Value))) e_22) ?_
                    exact ih_27
                  · exact absurd c_21 (by decide)
