theorem gset_self {G : List va_E} {u : Nat} {e e0 : va_E} (h : G[u]? = some e0) : (G.set u e)[u]? = some e := List.getElem?_set_self (List.getElem?_eq_some_iff.mp h).1
theorem HVr_set {hn : Nat → Option Nat} {G : List va_E} {hv : HV} {i u k : Nat} {dr ce sa : Int32} {e0 : va_E} (h : HVr hn G hv) (hi : hn i = some (u + 40)) (hk : k < 5) (hg : G[u]? = some e0) : HVr hn (G.set u (hcl k dr ce sa)) (va_up hv i (some (k, dr, ce, sa))) := by
  refine ⟨fun j hj => ?_, fun j k' dr' ce' sa' hj => ?_, h.2.2⟩
  · rw [va_up] at hj
    by_cases hji : j = i
    · rw [if_pos hji] at hj; cases hj
    · rw [if_neg hji] at hj; exact h.1 j hj
  · rw [va_up] at hj
    by_cases hji : j = i
    · rw [if_pos hji] at hj
      cases hj
      exact ⟨u, hji ▸ hi, hk, gset_self hg⟩
    · rw [if_neg hji] at hj
      obtain ⟨u', a1, a2, a3⟩ := h.2.1 _ _ _ _ _ hj
      refine ⟨u', a1, a2, ?_⟩
      have hne : u ≠ u' := fun q => by
        subst q
        exact hji (h.2.2 _ _ _ a1 hi)
      rw [List.getElem?_set_ne hne]
      exact a3
def voF (sc : Nat → Int32) (ar : Nat → Nat → Int32) (hv : HV) (x c w : Int32) : Int32 := match hvF (sc 2) hv x with
  | none => -101
  | some q => if sc 16 ≤ 0 then -101 else if c < 0 then -101 else if 12 ≤ c then -101 else if w < 0 then -102 else if 1 < w then -102 else
    if w = 0 then atF (plF (ar 24) (sc 16) (sc 17) q.1 q.2.1 (ar 19, ar 20) q.2.2.1 (sc 3)).1 c else atF (plF (ar 24) (sc 16) (sc 17) q.1 q.2.1 (ar 19, ar 20) q.2.2.1 (sc 3)).2 c
def laQ (f : Nat → Int32) (wd : Int32) (k : Nat) (dr : Int32) (q : HF) (ce h : Int32) : Nat → HF
  | 0 => q
  | i + 1 => plF f (nI (i + 1)) wd k dr (laQ f wd k dr q ce h i) ce h
def laR (sc : Nat → Int32) : Nat → Int32
  | 0 => sc 18
  | i + 1 => nI (i + 1)
def laP (sc : Nat → Int32) (ar : Nat → Nat → Int32) (hv : HV) (x c v : Int32) : Prop := match hvF (sc 2) hv x with
  | none => v = -101
  | some q => if sc 16 ≤ 0 then v = -101 else if c < 0 then v = -101 else if 12 ≤ c then v = -101 else
    (∃ i : Nat, i < 9 ∧ v = nI (i + 1) ∧ ¬ atF (laQ (ar 24) (sc 17) q.1 q.2.1 (ar 19, ar 20) q.2.2.1 (sc 3) (i + 1)).1 c = -1 ∧ ∀ j, j < i → atF (laQ (ar 24) (sc 17) q.1 q.2.1 (ar 19, ar 20) q.2.2.1 (sc 3) (j + 1)).1 c = -1) ∨ (v = -1 ∧ ∀ j, j < 9 → atF (laQ (ar 24) (sc 17) q.1 q.2.1 (ar 19, ar 20) q.2.2.1 (sc 3) (j + 1)).1 c = -1)
def bwQ (f : Nat → Int32) (rp : Int32) (k : Nat) (dr : Int32) (q : HF) (ce h : Int32) : Nat → HF
  | 0 => q
  | i + 1 => plF f rp (nI i) k dr (bwQ f rp k dr q ce h i) ce h
def bwN (f : Nat → Int32) (rp : Int32) (k : Nat) (dr : Int32) (q : HF) (ce h c : Int32) : Nat → Int32 × Int32
  | 0 => (-1, -1)
  | i + 1 => if atF (bwQ f rp k dr q ce h (i + 1)).1 c = -1 then bwN f rp k dr q ce h c i else if (bwN f rp k dr q ce h c i).1 = -1 then (nI i, atF (bwQ f rp k dr q ce h (i + 1)).1 c) else
    if atF (bwQ f rp k dr q ce h (i + 1)).1 c < (bwN f rp k dr q ce h c i).2 then (nI i, atF (bwQ f rp k dr q ce h (i + 1)).1 c) else bwN f rp k dr q ce h c i
def bwR (sc : Nat → Int32) : Nat → Int32
  | 0 => sc 19
  | i + 1 => nI i
def bwF (sc : Nat → Int32) (ar : Nat → Nat → Int32) (hv : HV) (x c : Int32) : Int32 := match hvF (sc 2) hv x with
  | none => -101
  | some q => if sc 16 ≤ 0 then -101 else if c < 0 then -101 else if 12 ≤ c then -101 else (bwN (ar 24) (sc 16) q.1 q.2.1 (ar 19, ar 20) q.2.2.1 (sc 3) c 5).1
def saS (sc : Nat → Int32) (ar : Nat → Nat → Int32) (hv : HV) (x w : Int32) : Int32 × (Nat → Int32) × HV := match hvF (sc 2) hv x with
  | none => (-101, sc, hv)
  | some q => if w < 0 then (-102, sc, hv) else if 4 ≤ w then (-102, sc, hv) else if htF (ar 24) (sc 16) (sc 17) q.1 q.2.1 q.2.2.1 w (sc 3) = -1 then (-103, sc, hv) else
    if 999 < sc 3 + htF (ar 24) (sc 16) (sc 17) q.1 q.2.1 q.2.2.1 w (sc 3) then (-103, sc, hv) else
    (sc 3 + htF (ar 24) (sc 16) (sc 17) q.1 q.2.1 q.2.2.1 w (sc 3), va_up sc 3 (sc 3 + htF (ar 24) (sc 16) (sc 17) q.1 q.2.1 q.2.2.1 w (sc 3)), va_up hv x.toNatClampNeg (some (q.1, q.2.1, beF q.2.2.1 w, q.2.2.2 + htF (ar 24) (sc 16) (sc 17) q.1 q.2.1 q.2.2.1 w (sc 3))))
set_option maxHeartbeats 4000000 in
set_option maxRecDepth 100000 in
theorem c_voyage (l : Launch) (D : va_G) (b : Nat) (sc : Nat → Int32) (ar : Nat → Nat → Int32) (hn : Nat → Option Nat) (mh : Int64) (G : List va_E) (x c0 w : Int32) (hv : HV) (hr : HVr hn G hv) : Con l yX11_voyage cX11_voyage 5 (some .int) 5 124 D b 0 0 (wl D b sc ar hn mh G) [.ref (b + 0), .int x, .int c0, .int w] (fun r es' => r = some (.int (voF sc ar hv x c0 w)) ∧ ∃ sc' ar', Per sc ar sc' ar' ∧ wl D b sc' ar' hn mh G = es') := by
  refine con_of (by decide) (Nat.le_of_ble_eq_true rfl) (fun p e s m args below meth c C hsz => ?_)
  have C : vC p s m args meth c cX11_voyage 5 RX11 "voyage" (some .int) D b := C
  change V p l e _ s m args below meth c D b 5 _ 0 0 (wl D b sc ar hn mh G) [(0, .ref (b + 0)), (1, .int x), (2, .int c0), (3, .int w)] [] 0
  refine v_aload_n (n := 1) C dX11_voyage_0 rfl rfl rfl ?_
  refine v_iload_n (n := 2) C dX11_voyage_1 rfl rfl rfl ?_
  refine v_go (n := 5) C (vRun_V (As := [.int x]) (rest := []) C wl_c0 rfl lk_X11_133 im_X11_hullNumbered se_X11_hullNumbered dX11_voyage_2 (c_hullNumbered l D b sc ar hn mh G x hv hr) wm_X11_hullNumbered rfl rfl ⟨Nat.le_of_ble_eq_true rfl, Nat.le_of_ble_eq_true rfl⟩ ⟨Nat.le_of_ble_eq_true rfl, Nat.le_of_ble_eq_true rfl⟩ (Nat.le_of_ble_eq_true rfl)) rfl ?_
  rintro _ _ ⟨⟨hq_1, rfl⟩ | ⟨k1, dr1, ce1, sa1, u1, hq_1, hu1, hk1, hg1, rfl⟩, rfl⟩ -
  · skip
    refine v_astoreN (n := 7) (lv' := [(4, .null), (0, .ref (b + 0)), (1, .int x), (2, .int c0), (3, .int w)]) C dX11_voyage_5 rfl (Nat.le_of_ble_eq_true rfl) rfl ?_
    refine v_aloadN (n := 9) C dX11_voyage_7 rfl rfl ?_
    refine v_ifnullN (t := 20) C dX11_voyage_9 (by decide) ?_
    refine v_bipush (n := 22) (v := -101) C dX11_voyage_20 rfl (by decide) ?_
    exact v_iret C dX11_voyage_22 rfl rfl ⟨by first | rfl | (simp only [voF, hq_1]; done) | (simp only [voF, hq_1, ↓reduceIte]; done) | (simp only [voF, hq_1, ↓reduceIte] <;> rfl) | (simp [voF, hq_1]; done), sc, ar, Per_rf, rfl⟩
  · skip
    refine v_astore (n := 7) (lv' := [(4, .ref (b + (u1 + 40))), (0, .ref (b + 0)), (1, .int x), (2, .int c0), (3, .int w)]) C dX11_voyage_5 rfl (Nat.le_of_ble_eq_true rfl) rfl ?_
    refine v_aload (n := 9) C dX11_voyage_7 rfl rfl ?_
    refine v_ifnull (n := 12) C dX11_voyage_9 rfl ?_
    refine v_aload_n (n := 13) C dX11_voyage_12 rfl rfl rfl ?_
    refine v_iload_n (n := 14) C dX11_voyage_13 rfl rfl rfl ?_
    refine v_go (n := 17) C (vRun_V (As := [.int c0]) (rest := []) C wl_c0 rfl lk_X11_102 im_X11_isThere se_X11_isThere dX11_voyage_14 (c_isThere l D b sc ar hn mh G c0) wm_X11_isThere rfl rfl ⟨Nat.le_of_ble_eq_true rfl, Nat.le_of_ble_eq_true rfl⟩ ⟨Nat.le_of_ble_eq_true rfl, Nat.le_of_ble_eq_true rfl⟩ (Nat.le_of_ble_eq_true rfl)) rfl ?_
    rintro _ _ ⟨rfl, rfl⟩ -
    by_cases p_2 : (sc 16) ≤ 0
    · skip
      refine v_stk (st' := .int 0 :: []) (congrArg (fun z : Int32 => Value.int z :: []) (show thF (sc 16) c0 = 0 by simp only [thF, icF, if_pos p_2])) ?_
      refine v_if_ne (t := 23) (n := 20) C dX11_voyage_17 (by decide) rfl (fun c_3 => ?_) (fun c_3 => ?_)
      · exact absurd c_3 (by decide)
      · skip
        refine v_bipush (n := 22) (v := -101) C dX11_voyage_20 rfl (by decide) ?_
        exact v_iret C dX11_voyage_22 rfl rfl ⟨by first | rfl | (simp only [voF, hq_1, if_pos p_2, if_neg (Int32.not_lt.mpr p_2), if_pos c_3]; done) | (simp only [voF, hq_1, eq_true p_2, eq_false (Int32.not_lt.mpr p_2), eq_true c_3, ↓reduceIte]; done) | (simp only [voF, hq_1, eq_true p_2, eq_false (Int32.not_lt.mpr p_2), eq_true c_3, ↓reduceIte] <;> rfl) | (simp [voF, hq_1, p_2, c_3]; done), sc, ar, Per_rf, rfl⟩
    by_cases p_4 : c0 < 0
    · skip
      refine v_stk (st' := .int 0 :: []) (congrArg (fun z : Int32 => Value.int z :: []) (show thF (sc 16) c0 = 0 by simp only [thF, icF, if_neg p_2, if_pos p_4])) ?_
      refine v_if_ne (t := 23) (n := 20) C dX11_voyage_17 (by decide) rfl (fun c_5 => ?_) (fun c_5 => ?_)
      · exact absurd c_5 (by decide)
      · skip
        refine v_bipush (n := 22) (v := -101) C dX11_voyage_20 rfl (by decide) ?_
        exact v_iret C dX11_voyage_22 rfl rfl ⟨by first | rfl | (simp only [voF, hq_1, if_neg p_2, if_pos (Int32.not_le.mp p_2), if_pos p_4, if_neg (Int32.not_le.mpr p_4), if_pos c_5]; done) | (simp only [voF, hq_1, eq_false p_2, eq_true (Int32.not_le.mp p_2), eq_true p_4, eq_false (Int32.not_le.mpr p_4), eq_true c_5, ↓reduceIte]; done) | (simp only [voF, hq_1, eq_false p_2, eq_true (Int32.not_le.mp p_2), eq_true p_4, eq_false (Int32.not_le.mpr p_4), eq_true c_5, ↓reduceIte] <;> rfl) | (simp [voF, hq_1, p_2, p_4, c_5]; done), sc, ar, Per_rf, rfl⟩
    by_cases p_6 : 12 ≤ c0
    · skip
      refine v_stk (st' := .int 0 :: []) (congrArg (fun z : Int32 => Value.int z :: []) (show thF (sc 16) c0 = 0 by simp only [thF, icF, if_neg p_2, if_neg p_4, if_pos p_6])) ?_
      refine v_if_ne (t := 23) (n := 20) C dX11_voyage_17 (by decide) rfl (fun c_7 => ?_) (fun c_7 => ?_)
      · exact absurd c_7 (by decide)
      · skip
        refine v_bipush (n := 22) (v := -101) C dX11_voyage_20 rfl (by decide) ?_
        exact v_iret C dX11_voyage_22 rfl rfl ⟨by first | rfl | (simp only [voF, hq_1, if_neg p_2, if_pos (Int32.not_le.mp p_2), if_neg p_4, if_pos (Int32.not_lt.mp p_4), if_pos p_6, if_neg (Int32.not_lt.mpr p_6), if_pos c_7]; done) | (simp only [voF, hq_1, eq_false p_2, eq_true (Int32.not_le.mp p_2), eq_false p_4, eq_true (Int32.not_lt.mp p_4), eq_true p_6, eq_false (Int32.not_lt.mpr p_6), eq_true c_7, ↓reduceIte]; done) | (simp only [voF, hq_1, eq_false p_2, eq_true (Int32.not_le.mp p_2), eq_false p_4, eq_true (Int32.not_lt.mp p_4), eq_true p_6, eq_false (Int32.not_lt.mpr p_6), eq_true c_7, ↓reduceIte] <;> rfl) | (simp [voF, hq_1, p_2, p_4, p_6, c_7]; done), sc, ar, Per_rf, rfl⟩
    refine v_stk (st' := .int 1 :: []) (congrArg (fun z : Int32 => Value.int z :: []) (show thF (sc 16) c0 = 1 by simp only [thF, icF, if_neg p_2, if_neg p_4, if_neg p_6])) ?_
    refine v_if_ne (t := 23) (n := 20) C dX11_voyage_17 (by decide) rfl (fun c_8 => ?_) (fun c_8 => ?_)
    · skip
      refine v_iload_n (n := 24) C dX11_voyage_23 rfl rfl rfl ?_
      refine v_if_lt (t := 32) (n := 27) C dX11_voyage_24 (by decide) rfl (fun c_9 => ?_) (fun c_9 => ?_)
      · skip
        refine v_bipush (n := 34) (v := -102) C dX11_voyage_32 rfl (by decide) ?_
        exact v_iret C dX11_voyage_34 rfl rfl ⟨by first | rfl | (simp only [voF, hq_1, if_neg p_2, if_pos (Int32.not_le.mp p_2), if_neg p_4, if_pos (Int32.not_lt.mp p_4), if_neg p_6, if_pos (Int32.not_le.mp p_6), if_neg c_8, if_pos c_9, if_neg (Int32.not_le.mpr c_9)]; done) | (simp only [voF, hq_1, eq_false p_2, eq_true (Int32.not_le.mp p_2), eq_false p_4, eq_true (Int32.not_lt.mp p_4), eq_false p_6, eq_true (Int32.not_le.mp p_6), eq_false c_8, eq_true c_9, eq_false (Int32.not_le.mpr c_9), ↓reduceIte]; done) | (simp only [voF, hq_1, eq_false p_2, eq_true (Int32.not_le.mp p_2), eq_false p_4, eq_true (Int32.not_lt.mp p_4), eq_false p_6, eq_true (Int32.not_le.mp p_6), eq_false c_8, eq_true c_9, eq_false (Int32.not_le.mpr c_9), ↓reduceIte] <;> rfl) | (simp [voF, hq_1, p_2, p_4, p_6, c_8, c_9]; done), sc, ar, Per_rf, rfl⟩
      · skip
        refine v_iload_n (n := 28) C dX11_voyage_27 rfl rfl rfl ?_
        refine v_iconst (n := 29) (v := 1) C dX11_voyage_28 rfl (by decide) ?_
        refine v_icmp_le (t := 35) (n := 32) C dX11_voyage_29 (by decide) rfl (fun c_10 => ?_) (fun c_10 => ?_)
        · skip
          refine v_aload_n (n := 36) C dX11_voyage_35 rfl rfl rfl ?_
          refine v_get (n := 39) C dX11_voyage_36 rfl fl_X11_36_X11 wl_c0 rfl ?_
          refine v_aload_n (n := 40) C dX11_voyage_39 rfl rfl rfl ?_
          refine v_get (n := 43) C dX11_voyage_40 rfl fl_X11_59_X11 wl_c0 rfl ?_
          refine v_aload (n := 45) C dX11_voyage_43 rfl rfl ?_
          refine v_aload (n := 47) C dX11_voyage_45 rfl rfl ?_
          refine v_get (n := 50) C dX11_voyage_47 rfl (flk_X11_143 hk1) (wl_tail hg1) rfl ?_
          refine v_aload_n (n := 51) C dX11_voyage_50 rfl rfl rfl ?_
          refine v_get (n := 54) C dX11_voyage_51 rfl fl_X11_106_X11 wl_c0 rfl ?_
          refine v_go (n := 57) C (vRun_V (As := [.ref (b + 25), .ref (b + (u1 + 40)), .int ce1, .int (sc 3)]) (rest := []) C wl_c18 rfl lk_X11_164 im_X0_plot se_X0_plot dX11_voyage_54 (c_plot l D b sc ar hn mh G 25 (sc 16) (sc 17) (fun _ => wl_c25) u1 k1 dr1 ce1 sa1 hk1 hg1 ce1 (sc 3)) wm_X0_plot rfl rfl ⟨Nat.le_of_ble_eq_true rfl, Nat.le_of_ble_eq_true rfl⟩ ⟨Nat.le_of_ble_eq_true rfl, Nat.le_of_ble_eq_true rfl⟩ (Nat.le_of_ble_eq_true rfl)) rfl ?_
          rintro _ _ ⟨rfl, rfl⟩ -
          refine v_cong (es' := (wl D b sc (va_up (va_up ar 19 (plF (ar 24) (sc 16) (sc 17) k1 dr1 ((ar 19), (ar 20)) ce1 (sc 3)).1) 20 (plF (ar 24) (sc 16) (sc 17) k1 dr1 ((ar 19), (ar 20)) ce1 (sc 3)).2) hn mh G)) (lv' := [(4, .ref (b + (u1 + 40))), (0, .ref (b + 0)), (1, .int x), (2, .int c0), (3, .int w)]) rfl rfl ?_
          refine v_iload_n (n := 58) C dX11_voyage_57 rfl rfl rfl ?_
          refine v_if_ne (t := 72) (n := 61) C dX11_voyage_58 (by decide) rfl (fun c_11 => ?_) (fun c_11 => ?_)
          · skip
            refine v_aload_n (n := 73) C dX11_voyage_72 rfl rfl rfl ?_
            refine v_get (n := 76) C dX11_voyage_73 rfl fl_X11_36_X11 wl_c0 rfl ?_
            refine v_iload_n (n := 77) C dX11_voyage_76 rfl rfl rfl ?_
            refine v_go (n := 80) C (vRun_V (As := [.int c0]) (rest := []) C wl_c18 rfl lk_X11_171 im_X0_firstWayTo se_X0_firstWayTo dX11_voyage_77 (c_firstWayTo l D b sc (va_up (va_up ar 19 (plF (ar 24) (sc 16) (sc 17) k1 dr1 ((ar 19), (ar 20)) ce1 (sc 3)).1) 20 (plF (ar 24) (sc 16) (sc 17) k1 dr1 ((ar 19), (ar 20)) ce1 (sc 3)).2) hn mh G c0) wm_X0_firstWayTo rfl rfl ⟨Nat.le_of_ble_eq_true rfl, Nat.le_of_ble_eq_true rfl⟩ ⟨Nat.le_of_ble_eq_true rfl, Nat.le_of_ble_eq_true rfl⟩ (Nat.le_of_ble_eq_true rfl)) rfl ?_
            rintro _ _ ⟨rfl, rfl⟩ -
            exact v_iret C dX11_voyage_80 rfl rfl ⟨by first | rfl | (simp only [voF, hq_1, if_neg p_2, if_pos (Int32.not_le.mp p_2), if_neg p_4, if_pos (Int32.not_lt.mp p_4), if_neg p_6, if_pos (Int32.not_le.mp p_6), if_neg c_8, if_neg c_9, if_pos (Int32.not_lt.mp c_9), if_pos c_10, if_neg (Int32.not_lt.mpr c_10), if_neg c_11]; done) | (simp only [voF, hq_1, eq_false p_2, eq_true (Int32.not_le.mp p_2), eq_false p_4, eq_true (Int32.not_lt.mp p_4), eq_false p_6, eq_true (Int32.not_le.mp p_6), eq_false c_8, eq_false c_9, eq_true (Int32.not_lt.mp c_9), eq_true c_10, eq_false (Int32.not_lt.mpr c_10), eq_false c_11, ↓reduceIte]; done) | (simp only [voF, hq_1, eq_false p_2, eq_true (Int32.not_le.mp p_2), eq_false p_4, eq_true (Int32.not_lt.mp p_4), eq_false p_6, eq_true (Int32.not_le.mp p_6), eq_false c_8, eq_false c_9, eq_true (Int32.not_lt.mp c_9), eq_true c_10, eq_false (Int32.not_lt.mpr c_10), eq_false c_11, ↓reduceIte] <;> rfl) | (simp [voF, hq_1, p_2, p_4, p_6, c_8, c_9, c_10, c_11]; done), sc, (va_up (va_up ar 19 (plF (ar 24) (sc 16) (sc 17) k1 dr1 ((ar 19), (ar 20)) ce1 (sc 3)).1) 20 (plF (ar 24) (sc 16) (sc 17) k1 dr1 ((ar 19), (ar 20)) ce1 (sc 3)).2), (Per_a (by decide) (Per_a (by decide) Per_rf)), rfl⟩
          · skip
            refine v_aload_n (n := 62) C dX11_voyage_61 rfl rfl rfl ?_
            refine v_get (n := 65) C dX11_voyage_62 rfl fl_X11_36_X11 wl_c0 rfl ?_
            refine v_iload_n (n := 66) C dX11_voyage_65 rfl rfl rfl ?_
            refine v_go (n := 69) C (vRun_V (As := [.int c0]) (rest := []) C wl_c18 rfl lk_X11_168 im_X0_hourAt se_X0_hourAt dX11_voyage_66 (c_hourAt l D b sc (va_up (va_up ar 19 (plF (ar 24) (sc 16) (sc 17) k1 dr1 ((ar 19), (ar 20)) ce1 (sc 3)).1) 20 (plF (ar 24) (sc 16) (sc 17) k1 dr1 ((ar 19), (ar 20)) ce1 (sc 3)).2) hn mh G c0) wm_X0_hourAt rfl rfl ⟨Nat.le_of_ble_eq_true rfl, Nat.le_of_ble_eq_true rfl⟩ ⟨Nat.le_of_ble_eq_true rfl, Nat.le_of_ble_eq_true rfl⟩ (Nat.le_of_ble_eq_true rfl)) rfl ?_
            rintro _ _ ⟨rfl, rfl⟩ -
            refine v_goto (t := 80) C dX11_voyage_69 (by decide) ?_
            exact v_iret C dX11_voyage_80 rfl rfl ⟨by first | rfl | (simp only [voF, hq_1, if_neg p_2, if_pos (Int32.not_le.mp p_2), if_neg p_4, if_pos (Int32.not_lt.mp p_4), if_neg p_6, if_pos (Int32.not_le.mp p_6), if_neg c_8, if_neg c_9, if_pos (Int32.not_lt.mp c_9), if_pos c_10, if_neg (Int32.not_lt.mpr c_10), if_pos c_11]; done) | (simp only [voF, hq_1, eq_false p_2, eq_true (Int32.not_le.mp p_2), eq_false p_4, eq_true (Int32.not_lt.mp p_4), eq_false p_6, eq_true (Int32.not_le.mp p_6), eq_false c_8, eq_false c_9, eq_true (Int32.not_lt.mp c_9), eq_true c_10, eq_false (Int32.not_lt.mpr c_10), eq_true c_11, ↓reduceIte]; done) | (simp only [voF, hq_1, eq_false p_2, eq_true (Int32.not_le.mp p_2), eq_false p_4, eq_true (Int32.not_lt.mp p_4), eq_false p_6, eq_true (Int32.not_le.mp p_6), eq_false c_8, eq_false c_9, eq_true (Int32.not_lt.mp c_9), eq_true c_10, eq_false (Int32.not_lt.mpr c_10), eq_true c_11, ↓reduceIte] <;> rfl) | (simp [voF, hq_1, p_2, p_4, p_6, c_8, c_9, c_10, c_11]; done), sc, (va_up (va_up ar 19 (plF (ar 24) (sc 16) (sc 17) k1 dr1 ((ar 19), (ar 20)) ce1 (sc 3)).1) 20 (plF (ar 24) (sc 16) (sc 17) k1 dr1 ((ar 19), (ar 20)) ce1 (sc 3)).2), (Per_a (by decide) (Per_a (by decide) Per_rf)), rfl⟩
        · skip
          refine v_bipush (n := 34) (v := -102) C dX11_voyage_32 rfl (by decide) ?_
          exact v_iret C dX11_voyage_34 rfl rfl ⟨by first | rfl | (simp only [voF, hq_1, if_neg p_2, if_pos (Int32.not_le.mp p_2), if_neg p_4, if_pos (Int32.not_lt.mp p_4), if_neg p_6, if_pos (Int32.not_le.mp p_6), if_neg c_8, if_neg c_9, if_pos (Int32.not_lt.mp c_9), if_neg c_10, if_pos (Int32.not_le.mp c_10)]; done) | (simp only [voF, hq_1, eq_false p_2, eq_true (Int32.not_le.mp p_2), eq_false p_4, eq_true (Int32.not_lt.mp p_4), eq_false p_6, eq_true (Int32.not_le.mp p_6), eq_false c_8, eq_false c_9, eq_true (Int32.not_lt.mp c_9), eq_false c_10, eq_true (Int32.not_le.mp c_10), ↓reduceIte]; done) | (simp only [voF, hq_1, eq_false p_2, eq_true (Int32.not_le.mp p_2), eq_false p_4, eq_true (Int32.not_lt.mp p_4), eq_false p_6, eq_true (Int32.not_le.mp p_6), eq_false c_8, eq_false c_9, eq_true (Int32.not_lt.mp c_9), eq_false c_10, eq_true (Int32.not_le.mp c_10), ↓reduceIte] <;> rfl) | (simp [voF, hq_1, p_2, p_4, p_6, c_8, c_9, c_10]; done), sc, ar, Per_rf, rfl⟩
    · exact absurd c_8 (by decide)
set_option maxHeartbeats 4000000 in
set_option maxRecDepth 100000 in
theorem c_latest (l : Launch) (D : va_G) (b : Nat) (sc : Nat → Int32) (ar : Nat → Nat → Int32) (hn : Nat → Option Nat) (mh : Int64) (G : List va_E) (x c0 : Int32) (hv : HV) (hr : HVr hn G hv) : Con l yX11_latest cX11_latest 5 (some .int) 5 124 D b 0 0 (wl D b sc ar hn mh G) [.ref (b + 0), .int x, .int c0] (fun r es' => (∃ v, r = some (.int v) ∧ laP sc ar hv x c0 v) ∧ ∃ sc' ar', Per sc ar sc' ar' ∧ wl D b sc' ar' hn mh G = es') := by
  refine con_of (by decide) (Nat.le_of_ble_eq_true rfl) (fun p e s m args below meth c C hsz => ?_)
  have C : vC p s m args meth c cX11_latest 5 RX11 "latest" (some .int) D b := C
  change V p l e _ s m args below meth c D b 5 _ 0 0 (wl D b sc ar hn mh G) [(0, .ref (b + 0)), (1, .int x), (2, .int c0)] [] 0
  refine v_aload_n (n := 1) C dX11_latest_0 rfl rfl rfl ?_
  refine v_iload_n (n := 2) C dX11_latest_1 rfl rfl rfl ?_
  refine v_go (n := 5) C (vRun_V (As := [.int x]) (rest := []) C wl_c0 rfl lk_X11_133 im_X11_hullNumbered se_X11_hullNumbered dX11_latest_2 (c_hullNumbered l D b sc ar hn mh G x hv hr) wm_X11_hullNumbered rfl rfl ⟨Nat.le_of_ble_eq_true rfl, Nat.le_of_ble_eq_true rfl⟩ ⟨Nat.le_of_ble_eq_true rfl, Nat.le_of_ble_eq_true rfl⟩ (Nat.le_of_ble_eq_true rfl)) rfl ?_
  rintro _ _ ⟨⟨hq_1, rfl⟩ | ⟨k1, dr1, ce1, sa1, u1, hq_1, hu1, hk1, hg1, rfl⟩, rfl⟩ -
  · skip
    refine v_astore_nN (n := 6) (lv' := [(3, .null), (0, .ref (b + 0)), (1, .int x), (2, .int c0)]) C dX11_latest_5 rfl rfl (Nat.le_of_ble_eq_true rfl) rfl ?_
    refine v_aload_nN (n := 7) C dX11_latest_6 rfl rfl rfl ?_
    refine v_ifnullN (t := 18) C dX11_latest_7 (by decide) ?_
    refine v_bipush (n := 20) (v := -101) C dX11_latest_18 rfl (by decide) ?_
    exact v_iret C dX11_latest_20 rfl rfl ⟨⟨_, rfl, by simp only [laP, hq_1, ↓reduceIte]⟩, sc, ar, Per_rf, rfl⟩
  · skip
    refine v_astore_n (n := 6) (lv' := [(3, .ref (b + (u1 + 40))), (0, .ref (b + 0)), (1, .int x), (2, .int c0)]) C dX11_latest_5 rfl rfl (Nat.le_of_ble_eq_true rfl) rfl ?_
    refine v_aload_n (n := 7) C dX11_latest_6 rfl rfl rfl ?_
    refine v_ifnull (n := 10) C dX11_latest_7 rfl ?_
    refine v_aload_n (n := 11) C dX11_latest_10 rfl rfl rfl ?_
    refine v_iload_n (n := 12) C dX11_latest_11 rfl rfl rfl ?_
    refine v_go (n := 15) C (vRun_V (As := [.int c0]) (rest := []) C wl_c0 rfl lk_X11_102 im_X11_isThere se_X11_isThere dX11_latest_12 (c_isThere l D b sc ar hn mh G c0) wm_X11_isThere rfl rfl ⟨Nat.le_of_ble_eq_true rfl, Nat.le_of_ble_eq_true rfl⟩ ⟨Nat.le_of_ble_eq_true rfl, Nat.le_of_ble_eq_true rfl⟩ (Nat.le_of_ble_eq_true rfl)) rfl ?_
    rintro _ _ ⟨rfl, rfl⟩ -
    by_cases p_2 : (sc 16) ≤ 0
    · skip
      refine v_stk (st' := .int 0 :: []) (congrArg (fun z : Int32 => Value.int z :: []) (show thF (sc 16) c0 = 0 by simp only [thF, icF, if_pos p_2])) ?_
      refine v_if_ne (t := 21) (n := 18) C dX11_latest_15 (by decide) rfl (fun c_3 => ?_) (fun c_3 => ?_)
      · exact absurd c_3 (by decide)
      · skip
        refine v_bipush (n := 20) (v := -101) C dX11_latest_18 rfl (by decide) ?_
        exact v_iret C dX11_latest_20 rfl rfl ⟨⟨_, rfl, by simp only [laP, hq_1, eq_true p_2, eq_false (Int32.not_lt.mpr p_2), eq_true c_3, ↓reduceIte]⟩, sc, ar, Per_rf, rfl⟩
    by_cases p_4 : c0 < 0
    · skip
      refine v_stk (st' := .int 0 :: []) (congrArg (fun z : Int32 => Value.int z :: []) (show thF (sc 16) c0 = 0 by simp only [thF, icF, if_neg p_2, if_pos p_4])) ?_
      refine v_if_ne (t := 21) (n := 18) C dX11_latest_15 (by decide) rfl (fun c_5 => ?_) (fun c_5 => ?_)
      · exact absurd c_5 (by decide)
      · skip
        refine v_bipush (n := 20) (v := -101) C dX11_latest_18 rfl (by decide) ?_
        exact v_iret C dX11_latest_20 rfl rfl ⟨⟨_, rfl, by simp only [laP, hq_1, eq_false p_2, eq_true (Int32.not_le.mp p_2), eq_true p_4, eq_false (Int32.not_le.mpr p_4), eq_true c_5, ↓reduceIte]⟩, sc, ar, Per_rf, rfl⟩
    by_cases p_6 : 12 ≤ c0
    · skip
      refine v_stk (st' := .int 0 :: []) (congrArg (fun z : Int32 => Value.int z :: []) (show thF (sc 16) c0 = 0 by simp only [thF, icF, if_neg p_2, if_neg p_4, if_pos p_6])) ?_
      refine v_if_ne (t := 21) (n := 18) C dX11_latest_15 (by decide) rfl (fun c_7 => ?_) (fun c_7 => ?_)
      · exact absurd c_7 (by decide)
      · skip
        refine v_bipush (n := 20) (v := -101) C dX11_latest_18 rfl (by decide) ?_
        exact v_iret C dX11_latest_20 rfl rfl ⟨⟨_, rfl, by simp only [laP, hq_1, eq_false p_2, eq_true (Int32.not_le.mp p_2), eq_false p_4, eq_true (Int32.not_lt.mp p_4), eq_true p_6, eq_false (Int32.not_lt.mpr p_6), eq_true c_7, ↓reduceIte]⟩, sc, ar, Per_rf, rfl⟩
    refine v_stk (st' := .int 1 :: []) (congrArg (fun z : Int32 => Value.int z :: []) (show thF (sc 16) c0 = 1 by simp only [thF, icF, if_neg p_2, if_neg p_4, if_neg p_6])) ?_
    refine v_if_ne (t := 21) (n := 18) C dX11_latest_15 (by decide) rfl (fun c_8 => ?_) (fun c_8 => ?_)
    · skip
      refine v_aload_n (n := 22) C dX11_latest_21 rfl rfl rfl ?_
      refine v_get (n := 25) C dX11_latest_22 rfl fl_X11_63_X11 wl_c0 rfl ?_
      refine v_aload_n (n := 26) C dX11_latest_25 rfl rfl rfl ?_
      refine v_get (n := 29) C dX11_latest_26 rfl fl_X11_59_X11 wl_c0 rfl ?_
      refine v_get (n := 32) C dX11_latest_29 rfl fl_X11_123_X7 wl_c25 rfl ?_
      refine v_put (n := 35) (es' := (wl D b (va_up sc 19 (sc 17)) ar hn mh G)) C dX11_latest_32 rfl fl_X11_123_X7 (fp_any fp_X7_2) wl_c26 rfl rfl (Nat.le_of_ble_eq_true rfl) wl_p26_2 ?_
      refine v_iconst (n := 36) (v := 1) C dX11_latest_35 rfl (by decide) ?_
      refine v_istore (n := 38) (lv' := [(4, .int 1), (3, .ref (b + (u1 + 40))), (0, .ref (b + 0)), (1, .int x), (2, .int c0)]) C dX11_latest_36 rfl (Nat.le_of_ble_eq_true rfl) rfl ?_
      refine v_pick (lv' := [(4, .int 1), (0, .ref (b + 0)), (1, .int x), (2, .int c0), (3, .ref (b + (u1 + 40)))]) [0, 2, 3, 4, 1] rfl ?_
      have e_9 : (1 : Int32) = (nI (0 + 1)) := rfl
      have w_10 : (wl D b (va_up sc 19 (sc 17)) ar hn mh G) = (wl D b (va_up (va_up sc 19 (sc 17)) 18 (laR sc 0)) (va_up (va_up ar 19 ((laQ (ar 24) (sc 17) k1 dr1 (ar 19, ar 20) ce1 (sc 3) 0)).1) 20 ((laQ (ar 24) (sc 17) k1 dr1 (ar 19, ar 20) ce1 (sc 3) 0)).2) hn mh G) := by first | rfl | (simp only [laQ, laR, hq_1, if_neg p_2, if_pos (Int32.not_le.mp p_2), if_neg p_4, if_pos (Int32.not_lt.mp p_4), if_neg p_6, if_pos (Int32.not_le.mp p_6), if_neg c_8]; done) | (simp only [laQ, laR, hq_1, eq_false p_2, eq_true (Int32.not_le.mp p_2), eq_false p_4, eq_true (Int32.not_lt.mp p_4), eq_false p_6, eq_true (Int32.not_le.mp p_6), eq_false c_8, ↓reduceIte]; done) | (simp only [laQ, laR, hq_1, eq_false p_2, eq_true (Int32.not_le.mp p_2), eq_false p_4, eq_true (Int32.not_lt.mp p_4), eq_false p_6, eq_true (Int32.not_le.mp p_6), eq_false c_8, ↓reduceIte] <;> rfl) | (simp [laQ, laR, hq_1, p_2, p_4, p_6, c_8]; done)
      refine v_cong (es' := (wl D b (va_up (va_up sc 19 (sc 17)) 18 (laR sc 0)) (va_up (va_up ar 19 ((laQ (ar 24) (sc 17) k1 dr1 (ar 19, ar 20) ce1 (sc 3) 0)).1) 20 ((laQ (ar 24) (sc 17) k1 dr1 (ar 19, ar 20) ce1 (sc 3) 0)).2) hn mh G)) (lv' := [(4, .int (nI (0 + 1))), (0, .ref (b + 0)), (1, .int x), (2, .int c0), (3, .ref (b + (u1 + 40)))]) w_10 (cg1 (fun (z0 : Int32) => ([(4, .int z0), (0, .ref (b + 0)), (1, .int x), (2, .int c0), (3, .ref (b + (u1 + 40)))] : List (Nat × Value))) e_9) ?_
      refine loop_dn (P := fun i_38 => (∀ j, j < i_38 → atF ((laQ (ar 24) (sc 17) k1 dr1 (ar 19, ar 20) ce1 (sc 3) (j + 1))).1 c0 = -1) → V p l e { frames := 5, cells := 0, slots := 0, locals := 124 } s m args below meth c D b 5 (MQ below (cQ D b 0 (fun r es' => (∃ v, r = some (.int v) ∧ laP sc ar hv x c0 v) ∧ ∃ sc' ar', Per sc ar sc' ar' ∧ wl D b sc' ar' hn mh G = es')) args s 0 0 (fun q => b ≤ q)) 0 0 (wl D b (va_up (va_up sc 19 (sc 17)) 18 (laR sc i_38)) (va_up (va_up ar 19 ((laQ (ar 24) (sc 17) k1 dr1 (ar 19, ar 20) ce1 (sc 3) i_38)).1) 20 ((laQ (ar 24) (sc 17) k1 dr1 (ar 19, ar 20) ce1 (sc 3) i_38)).2) hn mh G) [(4, .int (nI (i_38 + 1))), (0, .ref (b + 0)), (1, .int x), (2, .int c0), (3, .ref (b + (u1 + 40)))] [] 38) 9 ?_ (fun i_38 hi_38 ih_38 => ?_) (fun j h => absurd h (Nat.not_lt_zero j))
      · skip
        intro hp_38
        have g_11 : (9 : Int32) < (nI (9 + 1)) := by decide
        refine v_iload (n := 40) C dX11_latest_38 rfl rfl ?_
        refine v_bipush (n := 42) (v := 9) C dX11_latest_40 rfl (by decide) ?_
        refine v_icmp_gt (t := 95) (n := 45) C dX11_latest_42 (by decide) rfl (fun c_12 => ?_) (fun c_12 => ?_)
        · skip
          refine v_iconst (n := 96) (v := -1) C dX11_latest_95 rfl (by decide) ?_
          exact v_iret C dX11_latest_96 rfl rfl ⟨⟨_, rfl, by simp only [laP, hq_1, eq_false p_2, eq_true (Int32.not_le.mp p_2), eq_false p_4, eq_true (Int32.not_lt.mp p_4), eq_false p_6, eq_true (Int32.not_le.mp p_6), eq_false c_8, eq_true g_11, eq_false (Int32.not_le.mpr g_11), eq_true c_12, eq_false (Int32.not_le.mpr c_12), ↓reduceIte]; exact Or.inr ⟨by first | rfl | trivial, hp_38⟩⟩, (va_up (va_up sc 19 (sc 17)) 18 (laR sc 9)), (va_up (va_up ar 19 ((laQ (ar 24) (sc 17) k1 dr1 (ar 19, ar 20) ce1 (sc 3) 9)).1) 20 ((laQ (ar 24) (sc 17) k1 dr1 (ar 19, ar 20) ce1 (sc 3) 9)).2), (Per_a (by decide) (Per_a (by decide) (Per_s (by decide) (Per_s (by decide) Per_rf)))), rfl⟩
        · first | exact absurd c_12 g_11 | exact absurd g_11 c_12 | exact absurd c_12 (Int32.not_le.mpr g_11) | exact absurd c_12 (Int32.not_lt.mpr g_11) | exact absurd (Int32.not_le.mp g_11) c_12 | exact absurd (Int32.not_lt.mp g_11) c_12 | exact absurd (Int32.not_le.mp g_11) (Int32.not_lt.mpr c_12) | exact absurd (Int32.not_lt.mp g_11) (Int32.not_le.mpr c_12) | exact absurd (Int32.not_lt.mp c_12) (Int32.not_le.mpr (Int32.not_le.mp g_11))
      · skip
        intro hp_38
        have g_13 : ¬ (9 : Int32) < (nI (i_38 + 1)) := nI_nlt (a := 9) (b := i_38 + 1) (by omega) (by decide)
        refine v_iload (n := 40) C dX11_latest_38 rfl rfl ?_
        refine v_bipush (n := 42) (v := 9) C dX11_latest_40 rfl (by decide) ?_
        refine v_icmp_gt (t := 95) (n := 45) C dX11_latest_42 (by decide) rfl (fun c_14 => ?_) (fun c_14 => ?_)
        · first | exact absurd c_14 g_13 | exact absurd g_13 c_14 | exact absurd c_14 (Int32.not_le.mpr g_13) | exact absurd c_14 (Int32.not_lt.mpr g_13) | exact absurd (Int32.not_le.mp g_13) c_14 | exact absurd (Int32.not_lt.mp g_13) c_14 | exact absurd (Int32.not_le.mp g_13) (Int32.not_lt.mpr c_14) | exact absurd (Int32.not_lt.mp g_13) (Int32.not_le.mpr c_14) | exact absurd (Int32.not_lt.mp c_14) (Int32.not_le.mpr (Int32.not_le.mp g_13))
        · skip
          refine v_aload_n (n := 46) C dX11_latest_45 rfl rfl rfl ?_
          refine v_get (n := 49) C dX11_latest_46 rfl fl_X11_63_X11 (show (wl D b (va_up (va_up sc 19 (sc 17)) 18 (laR sc i_38)) (va_up (va_up ar 19 ((laQ (ar 24) (sc 17) k1 dr1 (ar 19, ar 20) ce1 (sc 3) i_38)).1) 20 ((laQ (ar 24) (sc 17) k1 dr1 (ar 19, ar 20) ce1 (sc 3) i_38)).2) hn mh G)[0]? = some (.inr (11, [.ref (b + 1), .int (sc 0), .int (sc 1), .ref (b + 25), .ref (b + 26), .ref (b + 2), .int (sc 2), .int (sc 3), .ref (b + 3), .ref (b + 9), .ref (b + 18), .ref (b + 21), .ref (b + 22)])) from wl_c0) rfl ?_
          refine v_iload (n := 51) C dX11_latest_49 rfl rfl ?_
          refine v_put (n := 54) (es' := (wl D b (va_up (va_up sc 19 (sc 17)) 18 (nI (i_38 + 1))) (va_up (va_up ar 19 ((laQ (ar 24) (sc 17) k1 dr1 (ar 19, ar 20) ce1 (sc 3) i_38)).1) 20 ((laQ (ar 24) (sc 17) k1 dr1 (ar 19, ar 20) ce1 (sc 3) i_38)).2) hn mh G)) C dX11_latest_51 rfl fl_X11_96_X7 (fp_any fp_X7_1) (show (wl D b (va_up (va_up sc 19 (sc 17)) 18 (laR sc i_38)) (va_up (va_up ar 19 ((laQ (ar 24) (sc 17) k1 dr1 (ar 19, ar 20) ce1 (sc 3) i_38)).1) 20 ((laQ (ar 24) (sc 17) k1 dr1 (ar 19, ar 20) ce1 (sc 3) i_38)).2) hn mh G)[26]? = some (.inr (7, [.ref (b + 24), .int (laR sc i_38), .int (sc 17)])) from wl_c26) rfl rfl (Nat.le_of_ble_eq_true rfl) rfl ?_
          refine v_aload_n (n := 55) C dX11_latest_54 rfl rfl rfl ?_
          refine v_get (n := 58) C dX11_latest_55 rfl fl_X11_36_X11 (show (wl D b (va_up (va_up sc 19 (sc 17)) 18 (nI (i_38 + 1))) (va_up (va_up ar 19 ((laQ (ar 24) (sc 17) k1 dr1 (ar 19, ar 20) ce1 (sc 3) i_38)).1) 20 ((laQ (ar 24) (sc 17) k1 dr1 (ar 19, ar 20) ce1 (sc 3) i_38)).2) hn mh G)[0]? = some (.inr (11, [.ref (b + 1), .int (sc 0), .int (sc 1), .ref (b + 25), .ref (b + 26), .ref (b + 2), .int (sc 2), .int (sc 3), .ref (b + 3), .ref (b + 9), .ref (b + 18), .ref (b + 21), .ref (b + 22)])) from wl_c0) rfl ?_
          refine v_aload_n (n := 59) C dX11_latest_58 rfl rfl rfl ?_
          refine v_get (n := 62) C dX11_latest_59 rfl fl_X11_63_X11 (show (wl D b (va_up (va_up sc 19 (sc 17)) 18 (nI (i_38 + 1))) (va_up (va_up ar 19 ((laQ (ar 24) (sc 17) k1 dr1 (ar 19, ar 20) ce1 (sc 3) i_38)).1) 20 ((laQ (ar 24) (sc 17) k1 dr1 (ar 19, ar 20) ce1 (sc 3) i_38)).2) hn mh G)[0]? = some (.inr (11, [.ref (b + 1), .int (sc 0), .int (sc 1), .ref (b + 25), .ref (b + 26), .ref (b + 2), .int (sc 2), .int (sc 3), .ref (b + 3), .ref (b + 9), .ref (b + 18), .ref (b + 21), .ref (b + 22)])) from wl_c0) rfl ?_
          refine v_aload_n (n := 63) C dX11_latest_62 rfl rfl rfl ?_
          refine v_aload_n (n := 64) C dX11_latest_63 rfl rfl rfl ?_
          refine v_get (n := 67) C dX11_latest_64 rfl (flk_X11_143 hk1) (wl_tail hg1) rfl ?_
          refine v_aload_n (n := 68) C dX11_latest_67 rfl rfl rfl ?_
          refine v_get (n := 71) C dX11_latest_68 rfl fl_X11_106_X11 (show (wl D b (va_up (va_up sc 19 (sc 17)) 18 (nI (i_38 + 1))) (va_up (va_up ar 19 ((laQ (ar 24) (sc 17) k1 dr1 (ar 19, ar 20) ce1 (sc 3) i_38)).1) 20 ((laQ (ar 24) (sc 17) k1 dr1 (ar 19, ar 20) ce1 (sc 3) i_38)).2) hn mh G)[0]? = some (.inr (11, [.ref (b + 1), .int (sc 0), .int (sc 1), .ref (b + 25), .ref (b + 26), .ref (b + 2), .int (sc 2), .int (sc 3), .ref (b + 3), .ref (b + 9), .ref (b + 18), .ref (b + 21), .ref (b + 22)])) from wl_c0) rfl ?_
          refine v_go (n := 74) C (vRun_V (As := [.ref (b + 26), .ref (b + (u1 + 40)), .int ce1, .int (sc 3)]) (rest := []) C wl_c18 rfl lk_X11_164 im_X0_plot se_X0_plot dX11_latest_71 (c_plot l D b (va_up (va_up sc 19 (sc 17)) 18 (nI (i_38 + 1))) (va_up (va_up ar 19 ((laQ (ar 24) (sc 17) k1 dr1 (ar 19, ar 20) ce1 (sc 3) i_38)).1) 20 ((laQ (ar 24) (sc 17) k1 dr1 (ar 19, ar 20) ce1 (sc 3) i_38)).2) hn mh G 26 (nI (i_38 + 1)) (sc 17) (fun _ => wl_c26) u1 k1 dr1 ce1 sa1 hk1 hg1 ce1 (sc 3)) wm_X0_plot rfl rfl ⟨Nat.le_of_ble_eq_true rfl, Nat.le_of_ble_eq_true rfl⟩ ⟨Nat.le_of_ble_eq_true rfl, Nat.le_of_ble_eq_true rfl⟩ (Nat.le_of_ble_eq_true rfl)) rfl ?_
          rintro _ _ ⟨rfl, rfl⟩ -
          refine v_cong (es' := (wl D b (va_up (va_up sc 19 (sc 17)) 18 (nI (i_38 + 1))) (va_up (va_up ar 19 (plF (ar 24) (nI (i_38 + 1)) (sc 17) k1 dr1 ((laQ (ar 24) (sc 17) k1 dr1 (ar 19, ar 20) ce1 (sc 3) i_38)) ce1 (sc 3)).1) 20 (plF (ar 24) (nI (i_38 + 1)) (sc 17) k1 dr1 ((laQ (ar 24) (sc 17) k1 dr1 (ar 19, ar 20) ce1 (sc 3) i_38)) ce1 (sc 3)).2) hn mh G)) (lv' := [(4, .int (nI (i_38 + 1))), (0, .ref (b + 0)), (1, .int x), (2, .int c0), (3, .ref (b + (u1 + 40)))]) rfl rfl ?_
          refine v_aload_n (n := 75) C dX11_latest_74 rfl rfl rfl ?_
          refine v_get (n := 78) C dX11_latest_75 rfl fl_X11_36_X11 (show (wl D b (va_up (va_up sc 19 (sc 17)) 18 (nI (i_38 + 1))) (va_up (va_up ar 19 (plF (ar 24) (nI (i_38 + 1)) (sc 17) k1 dr1 ((laQ (ar 24) (sc 17) k1 dr1 (ar 19, ar 20) ce1 (sc 3) i_38)) ce1 (sc 3)).1) 20 (plF (ar 24) (nI (i_38 + 1)) (sc 17) k1 dr1 ((laQ (ar 24) (sc 17) k1 dr1 (ar 19, ar 20) ce1 (sc 3) i_38)) ce1 (sc 3)).2) hn mh G)[0]? = some (.inr (11, [.ref (b + 1), .int (sc 0), .int (sc 1), .ref (b + 25), .ref (b + 26), .ref (b + 2), .int (sc 2), .int (sc 3), .ref (b + 3), .ref (b + 9), .ref (b + 18), .ref (b + 21), .ref (b + 22)])) from wl_c0) rfl ?_
          refine v_iload_n (n := 79) C dX11_latest_78 rfl rfl rfl ?_
          refine v_go (n := 82) C (vRun_V (As := [.int c0]) (rest := []) C wl_c18 rfl lk_X11_168 im_X0_hourAt se_X0_hourAt dX11_latest_79 (c_hourAt l D b (va_up (va_up sc 19 (sc 17)) 18 (nI (i_38 + 1))) (va_up (va_up ar 19 (plF (ar 24) (nI (i_38 + 1)) (sc 17) k1 dr1 ((laQ (ar 24) (sc 17) k1 dr1 (ar 19, ar 20) ce1 (sc 3) i_38)) ce1 (sc 3)).1) 20 (plF (ar 24) (nI (i_38 + 1)) (sc 17) k1 dr1 ((laQ (ar 24) (sc 17) k1 dr1 (ar 19, ar 20) ce1 (sc 3) i_38)) ce1 (sc 3)).2) hn mh G c0) wm_X0_hourAt rfl rfl ⟨Nat.le_of_ble_eq_true rfl, Nat.le_of_ble_eq_true rfl⟩ ⟨Nat.le_of_ble_eq_true rfl, Nat.le_of_ble_eq_true rfl⟩ (Nat.le_of_ble_eq_true rfl)) rfl ?_
          rintro _ _ ⟨rfl, rfl⟩ -
          refine v_iconst (n := 83) (v := -1) C dX11_latest_82 rfl (by decide) ?_
          refine v_icmp_eq (t := 89) (n := 86) C dX11_latest_83 (by decide) rfl (fun c_15 => ?_) (fun c_15 => ?_)
          · skip
            refine v_iinc (n := 92) (v := ((nI (i_38 + 1)) + 1)) (lv' := [(4, .int ((nI (i_38 + 1)) + 1)), (0, .ref (b + 0)), (1, .int x), (2, .int c0), (3, .ref (b + (u1 + 40)))]) C dX11_latest_89 rfl rfl rfl (Nat.le_of_ble_eq_true rfl) rfl ?_
            refine v_goto (t := 38) C dX11_latest_92 (by decide) ?_
            refine v_pick (lv' := [(4, .int ((nI (i_38 + 1)) + 1)), (0, .ref (b + 0)), (1, .int x), (2, .int c0), (3, .ref (b + (u1 + 40)))]) [0, 1, 2, 3, 4] rfl ?_
            have e_16 : ((nI (i_38 + 1)) + 1) = (nI ((i_38 + 1) + 1)) := nI_1 _
            have w_17 : (wl D b (va_up (va_up sc 19 (sc 17)) 18 (nI (i_38 + 1))) (va_up (va_up ar 19 (plF (ar 24) (nI (i_38 + 1)) (sc 17) k1 dr1 ((laQ (ar 24) (sc 17) k1 dr1 (ar 19, ar 20) ce1 (sc 3) i_38)) ce1 (sc 3)).1) 20 (plF (ar 24) (nI (i_38 + 1)) (sc 17) k1 dr1 ((laQ (ar 24) (sc 17) k1 dr1 (ar 19, ar 20) ce1 (sc 3) i_38)) ce1 (sc 3)).2) hn mh G) = (wl D b (va_up (va_up sc 19 (sc 17)) 18 (laR sc (i_38 + 1))) (va_up (va_up ar 19 ((laQ (ar 24) (sc 17) k1 dr1 (ar 19, ar 20) ce1 (sc 3) (i_38 + 1))).1) 20 ((laQ (ar 24) (sc 17) k1 dr1 (ar 19, ar 20) ce1 (sc 3) (i_38 + 1))).2) hn mh G) := by first | rfl | (simp only [laQ, laR, hq_1, if_neg p_2, if_pos (Int32.not_le.mp p_2), if_neg p_4, if_pos (Int32.not_lt.mp p_4), if_neg p_6, if_pos (Int32.not_le.mp p_6), if_neg c_8, if_neg g_13, if_pos (Int32.not_lt.mp g_13), if_neg c_14, if_pos (Int32.not_lt.mp c_14), if_pos c_15]; done) | (simp only [laQ, laR, hq_1, eq_false p_2, eq_true (Int32.not_le.mp p_2), eq_false p_4, eq_true (Int32.not_lt.mp p_4), eq_false p_6, eq_true (Int32.not_le.mp p_6), eq_false c_8, eq_false g_13, eq_true (Int32.not_lt.mp g_13), eq_false c_14, eq_true (Int32.not_lt.mp c_14), eq_true c_15, ↓reduceIte]; done) | (simp only [laQ, laR, hq_1, eq_false p_2, eq_true (Int32.not_le.mp p_2), eq_false p_4, eq_true (Int32.not_lt.mp p_4), eq_false p_6, eq_true (Int32.not_le.mp p_6), eq_false c_8, eq_false g_13, eq_true (Int32.not_lt.mp g_13), eq_false c_14, eq_true (Int32.not_lt.mp c_14), eq_true c_15, ↓reduceIte] <;> rfl) | (simp [laQ, laR, hq_1, p_2, p_4, p_6, c_8, g_13, c_14, c_15]; done)
            refine v_cong (es' := (wl D b (va_up (va_up sc 19 (sc 17)) 18 (laR sc (i_38 + 1))) (va_up (va_up ar 19 ((laQ (ar 24) (sc 17) k1 dr1 (ar 19, ar 20) ce1 (sc 3) (i_38 + 1))).1) 20 ((laQ (ar 24) (sc 17) k1 dr1 (ar 19, ar 20) ce1 (sc 3) (i_38 + 1))).2) hn mh G)) (lv' := [(4, .int (nI ((i_38 + 1) + 1))), (0, .ref (b + 0)), (1, .int x), (2, .int c0), (3, .ref (b + (u1 + 40)))]) w_17 (cg1 (fun (z0 : Int32) => ([(4, .int z0), (0, .ref (b + 0)), (1, .int x), (2, .int c0), (3, .ref (b + (u1 + 40)))] : List (Nat × Value))) e_16) ?_
            exact ih_38 (fun j h => (Nat.lt_or_eq_of_le (Nat.le_of_lt_succ h)).elim (hp_38 j) (fun q => by subst q; exact c_15))
          · skip
            refine v_iload (n := 88) C dX11_latest_86 rfl rfl ?_
            exact v_iret C dX11_latest_88 rfl rfl ⟨⟨_, rfl, by simp only [laP, hq_1, eq_false p_2, eq_true (Int32.not_le.mp p_2), eq_false p_4, eq_true (Int32.not_lt.mp p_4), eq_false p_6, eq_true (Int32.not_le.mp p_6), eq_false c_8, eq_false g_13, eq_true (Int32.not_lt.mp g_13), eq_false c_14, eq_true (Int32.not_lt.mp c_14), eq_false c_15, ↓reduceIte]; exact Or.inl ⟨i_38, hi_38, rfl, c_15, hp_38⟩⟩, (va_up (va_up sc 19 (sc 17)) 18 (nI (i_38 + 1))), (va_up (va_up ar 19 (plF (ar 24) (nI (i_38 + 1)) (sc 17) k1 dr1 ((laQ (ar 24) (sc 17) k1 dr1 (ar 19, ar 20) ce1 (sc 3) i_38)) ce1 (sc 3)).1) 20 (plF (ar 24) (nI (i_38 + 1)) (sc 17) k1 dr1 ((laQ (ar 24) (sc 17) k1 dr1 (ar 19, ar 20) ce1 (sc 3) i_38)) ce1 (sc 3)).2), (Per_a (by decide) (Per_a (by decide) (Per_s (by decide) (Per_s (by decide) Per_rf)))), rfl⟩
    · exact absurd c_8 (by decide)
set_option maxHeartbeats 4000000 in
set_option maxRecDepth 100000 in
theorem c_bestWind (l : Launch) (D : va_G) (b : Nat) (sc : Nat → Int32) (ar : Nat → Nat → Int32) (hn : Nat → Option Nat) (mh : Int64) (G : List va_E) (x c0 : Int32) (hv : HV) (hr : HVr hn G hv) : Con l yX11_bestWind cX11_bestWind 8 (some .int) 5 124 D b 0 0 (wl D b sc ar hn mh G) [.ref (b + 0), .int x, .int c0] (fun r es' => r = some (.int (bwF sc ar hv x c0)) ∧ ∃ sc' ar', Per sc ar sc' ar' ∧ wl D b sc' ar' hn mh G = es') := by
  refine con_of (by decide) (Nat.le_of_ble_eq_true rfl) (fun p e s m args below meth c C hsz => ?_)
  have C : vC p s m args meth c cX11_bestWind 8 RX11 "bestWind" (some .int) D b := C
  change V p l e _ s m args below meth c D b 8 _ 0 0 (wl D b sc ar hn mh G) [(0, .ref (b + 0)), (1, .int x), (2, .int c0)] [] 0
  refine v_aload_n (n := 1) C dX11_bestWind_0 rfl rfl rfl ?_
  refine v_iload_n (n := 2) C dX11_bestWind_1 rfl rfl rfl ?_
  refine v_go (n := 5) C (vRun_V (As := [.int x]) (rest := []) C wl_c0 rfl lk_X11_133 im_X11_hullNumbered se_X11_hullNumbered dX11_bestWind_2 (c_hullNumbered l D b sc ar hn mh G x hv hr) wm_X11_hullNumbered rfl rfl ⟨Nat.le_of_ble_eq_true rfl, Nat.le_of_ble_eq_true rfl⟩ ⟨Nat.le_of_ble_eq_true rfl, Nat.le_of_ble_eq_true rfl⟩ (Nat.le_of_ble_eq_true rfl)) rfl ?_
  rintro _ _ ⟨⟨hq_1, rfl⟩ | ⟨k1, dr1, ce1, sa1, u1, hq_1, hu1, hk1, hg1, rfl⟩, rfl⟩ -
  · skip
    refine v_astore_nN (n := 6) (lv' := [(3, .null), (0, .ref (b + 0)), (1, .int x), (2, .int c0)]) C dX11_bestWind_5 rfl rfl (Nat.le_of_ble_eq_true rfl) rfl ?_
    refine v_aload_nN (n := 7) C dX11_bestWind_6 rfl rfl rfl ?_
    refine v_ifnullN (t := 18) C dX11_bestWind_7 (by decide) ?_
    refine v_bipush (n := 20) (v := -101) C dX11_bestWind_18 rfl (by decide) ?_
    exact v_iret C dX11_bestWind_20 rfl rfl ⟨by first | rfl | (simp only [bwF, hq_1]; done) | (simp only [bwF, hq_1, ↓reduceIte]; done) | (simp only [bwF, hq_1, ↓reduceIte] <;> rfl) | (simp [bwF, hq_1]; done), sc, ar, Per_rf, rfl⟩
  · skip
    refine v_astore_n (n := 6) (lv' := [(3, .ref (b + (u1 + 40))), (0, .ref (b + 0)), (1, .int x), (2, .int c0)]) C dX11_bestWind_5 rfl rfl (Nat.le_of_ble_eq_true rfl) rfl ?_
    refine v_aload_n (n := 7) C dX11_bestWind_6 rfl rfl rfl ?_
    refine v_ifnull (n := 10) C dX11_bestWind_7 rfl ?_
    refine v_aload_n (n := 11) C dX11_bestWind_10 rfl rfl rfl ?_
    refine v_iload_n (n := 12) C dX11_bestWind_11 rfl rfl rfl ?_
    refine v_go (n := 15) C (vRun_V (As := [.int c0]) (rest := []) C wl_c0 rfl lk_X11_102 im_X11_isThere se_X11_isThere dX11_bestWind_12 (c_isThere l D b sc ar hn mh G c0) wm_X11_isThere rfl rfl ⟨Nat.le_of_ble_eq_true rfl, Nat.le_of_ble_eq_true rfl⟩ ⟨Nat.le_of_ble_eq_true rfl, Nat.le_of_ble_eq_true rfl⟩ (Nat.le_of_ble_eq_true rfl)) rfl ?_
    rintro _ _ ⟨rfl, rfl⟩ -
    by_cases p_2 : (sc 16) ≤ 0
    · skip
      refine v_stk (st' := .int 0 :: []) (congrArg (fun z : Int32 => Value.int z :: []) (show thF (sc 16) c0 = 0 by simp only [thF, icF, if_pos p_2])) ?_
      refine v_if_ne (t := 21) (n := 18) C dX11_bestWind_15 (by decide) rfl (fun c_3 => ?_) (fun c_3 => ?_)
      · exact absurd c_3 (by decide)
      · skip
        refine v_bipush (n := 20) (v := -101) C dX11_bestWind_18 rfl (by decide) ?_
        exact v_iret C dX11_bestWind_20 rfl rfl ⟨by first | rfl | (simp only [bwF, hq_1, if_pos p_2, if_neg (Int32.not_lt.mpr p_2), if_pos c_3]; done) | (simp only [bwF, hq_1, eq_true p_2, eq_false (Int32.not_lt.mpr p_2), eq_true c_3, ↓reduceIte]; done) | (simp only [bwF, hq_1, eq_true p_2, eq_false (Int32.not_lt.mpr p_2), eq_true c_3, ↓reduceIte] <;> rfl) | (simp [bwF, hq_1, p_2, c_3]; done), sc, ar, Per_rf, rfl⟩
    by_cases p_4 : c0 < 0
    · skip
      refine v_stk (st' := .int 0 :: []) (congrArg (fun z : Int32 => Value.int z :: []) (show thF (sc 16) c0 = 0 by simp only [thF, icF, if_neg p_2, if_pos p_4])) ?_
      refine v_if_ne (t := 21) (n := 18) C dX11_bestWind_15 (by decide) rfl (fun c_5 => ?_) (fun c_5 => ?_)
      · exact absurd c_5 (by decide)
      · skip
        refine v_bipush (n := 20) (v := -101) C dX11_bestWind_18 rfl (by decide) ?_
        exact v_iret C dX11_bestWind_20 rfl rfl ⟨by first | rfl | (simp only [bwF, hq_1, if_neg p_2, if_pos (Int32.not_le.mp p_2), if_pos p_4, if_neg (Int32.not_le.mpr p_4), if_pos c_5]; done) | (simp only [bwF, hq_1, eq_false p_2, eq_true (Int32.not_le.mp p_2), eq_true p_4, eq_false (Int32.not_le.mpr p_4), eq_true c_5, ↓reduceIte]; done) | (simp only [bwF, hq_1, eq_false p_2, eq_true (Int32.not_le.mp p_2), eq_true p_4, eq_false (Int32.not_le.mpr p_4), eq_true c_5, ↓reduceIte] <;> rfl) | (simp [bwF, hq_1, p_2, p_4, c_5]; done), sc, ar, Per_rf, rfl⟩
    by_cases p_6 : 12 ≤ c0
    · skip
      refine v_stk (st' := .int 0 :: []) (congrArg (fun z : Int32 => Value.int z :: []) (show thF (sc 16) c0 = 0 by simp only [thF, icF, if_neg p_2, if_neg p_4, if_pos p_6])) ?_
      refine v_if_ne (t := 21) (n := 18) C dX11_bestWind_15 (by decide) rfl (fun c_7 => ?_) (fun c_7 => ?_)
      · exact absurd c_7 (by decide)
      · skip
        refine v_bipush (n := 20) (v := -101) C dX11_bestWind_18 rfl (by decide) ?_
        exact v_iret C dX11_bestWind_20 rfl rfl ⟨by first | rfl | (simp only [bwF, hq_1, if_neg p_2, if_pos (Int32.not_le.mp p_2), if_neg p_4, if_pos (Int32.not_lt.mp p_4), if_pos p_6, if_neg (Int32.not_lt.mpr p_6), if_pos c_7]; done) | (simp only [bwF, hq_1, eq_false p_2, eq_true (Int32.not_le.mp p_2), eq_false p_4, eq_true (Int32.not_lt.mp p_4), eq_true p_6, eq_false (Int32.not_lt.mpr p_6), eq_true c_7, ↓reduceIte]; done) | (simp only [bwF, hq_1, eq_false p_2, eq_true (Int32.not_le.mp p_2), eq_false p_4, eq_true (Int32.not_lt.mp p_4), eq_true p_6, eq_false (Int32.not_lt.mpr p_6), eq_true c_7, ↓reduceIte] <;> rfl) | (simp [bwF, hq_1, p_2, p_4, p_6, c_7]; done), sc, ar, Per_rf, rfl⟩
    refine v_stk (st' := .int 1 :: []) (congrArg (fun z : Int32 => Value.int z :: []) (show thF (sc 16) c0 = 1 by simp only [thF, icF, if_neg p_2, if_neg p_4, if_neg p_6])) ?_
    refine v_if_ne (t := 21) (n := 18) C dX11_bestWind_15 (by decide) rfl (fun c_8 => ?_) (fun c_8 => ?_)
    · skip
      refine v_aload_n (n := 22) C dX11_bestWind_21 rfl rfl rfl ?_
      refine v_get (n := 25) C dX11_bestWind_22 rfl fl_X11_63_X11 wl_c0 rfl ?_
      refine v_aload_n (n := 26) C dX11_bestWind_25 rfl rfl rfl ?_
      refine v_get (n := 29) C dX11_bestWind_26 rfl fl_X11_59_X11 wl_c0 rfl ?_
      refine v_get (n := 32) C dX11_bestWind_29 rfl fl_X11_96_X7 wl_c25 rfl ?_
      refine v_put (n := 35) (es' := (wl D b (va_up sc 18 (sc 16)) ar hn mh G)) C dX11_bestWind_32 rfl fl_X11_96_X7 (fp_any fp_X7_1) wl_c26 rfl rfl (Nat.le_of_ble_eq_true rfl) wl_p26_1 ?_
      refine v_iconst (n := 36) (v := -1) C dX11_bestWind_35 rfl (by decide) ?_
      refine v_istore (n := 38) (lv' := [(4, .int (-1)), (3, .ref (b + (u1 + 40))), (0, .ref (b + 0)), (1, .int x), (2, .int c0)]) C dX11_bestWind_36 rfl (Nat.le_of_ble_eq_true rfl) rfl ?_
      refine v_iconst (n := 39) (v := -1) C dX11_bestWind_38 rfl (by decide) ?_
      refine v_istore (n := 41) (lv' := [(5, .int (-1)), (4, .int (-1)), (3, .ref (b + (u1 + 40))), (0, .ref (b + 0)), (1, .int x), (2, .int c0)]) C dX11_bestWind_39 rfl (Nat.le_of_ble_eq_true rfl) rfl ?_
      refine v_iconst (n := 42) (v := 0) C dX11_bestWind_41 rfl (by decide) ?_
      refine v_istore (n := 44) (lv' := [(6, .int 0), (5, .int (-1)), (4, .int (-1)), (3, .ref (b + (u1 + 40))), (0, .ref (b + 0)), (1, .int x), (2, .int c0)]) C dX11_bestWind_42 rfl (Nat.le_of_ble_eq_true rfl) rfl ?_
      refine v_pick (lv' := [(6, .int 0), (0, .ref (b + 0)), (1, .int x), (2, .int c0), (3, .ref (b + (u1 + 40))), (4, .int (-1)), (5, .int (-1))]) [0, 4, 5, 6, 3, 2, 1] rfl ?_
      have e_9 : (0 : Int32) = (nI 0) := rfl
      have e_10 : ((-1) : Int32) = (bwN (ar 24) (sc 16) k1 dr1 (ar 19, ar 20) ce1 (sc 3) c0 0).1 := by first | rfl | (rw [bwN]; simp only [bwQ, hq_1, if_neg p_2, if_pos (Int32.not_le.mp p_2), if_neg p_4, if_pos (Int32.not_lt.mp p_4), if_neg p_6, if_pos (Int32.not_le.mp p_6), if_neg c_8]; done) | (rw [bwN]; simp only [bwQ, hq_1, eq_false p_2, eq_true (Int32.not_le.mp p_2), eq_false p_4, eq_true (Int32.not_lt.mp p_4), eq_false p_6, eq_true (Int32.not_le.mp p_6), eq_false c_8, ↓reduceIte]; done) | (rw [bwN]; simp only [bwQ, hq_1, eq_false p_2, eq_true (Int32.not_le.mp p_2), eq_false p_4, eq_true (Int32.not_lt.mp p_4), eq_false p_6, eq_true (Int32.not_le.mp p_6), eq_false c_8, ↓reduceIte] <;> rfl) | (rw [bwN]; simp [bwQ, hq_1, p_2, p_4, p_6, c_8]; done)
      have e_11 : ((-1) : Int32) = (bwN (ar 24) (sc 16) k1 dr1 (ar 19, ar 20) ce1 (sc 3) c0 0).2 := by first | rfl | (rw [bwN]; simp only [bwQ, hq_1, if_neg p_2, if_pos (Int32.not_le.mp p_2), if_neg p_4, if_pos (Int32.not_lt.mp p_4), if_neg p_6, if_pos (Int32.not_le.mp p_6), if_neg c_8]; done) | (rw [bwN]; simp only [bwQ, hq_1, eq_false p_2, eq_true (Int32.not_le.mp p_2), eq_false p_4, eq_true (Int32.not_lt.mp p_4), eq_false p_6, eq_true (Int32.not_le.mp p_6), eq_false c_8, ↓reduceIte]; done) | (rw [bwN]; simp only [bwQ, hq_1, eq_false p_2, eq_true (Int32.not_le.mp p_2), eq_false p_4, eq_true (Int32.not_lt.mp p_4), eq_false p_6, eq_true (Int32.not_le.mp p_6), eq_false c_8, ↓reduceIte] <;> rfl) | (rw [bwN]; simp [bwQ, hq_1, p_2, p_4, p_6, c_8]; done)
      have w_12 : (wl D b (va_up sc 18 (sc 16)) ar hn mh G) = (wl D b (va_up (va_up sc 18 (sc 16)) 19 (bwR sc 0)) (va_up (va_up ar 19 ((bwQ (ar 24) (sc 16) k1 dr1 (ar 19, ar 20) ce1 (sc 3) 0)).1) 20 ((bwQ (ar 24) (sc 16) k1 dr1 (ar 19, ar 20) ce1 (sc 3) 0)).2) hn mh G) := by first | rfl | (rw [bwN]; simp only [bwQ, hq_1, if_neg p_2, if_pos (Int32.not_le.mp p_2), if_neg p_4, if_pos (Int32.not_lt.mp p_4), if_neg p_6, if_pos (Int32.not_le.mp p_6), if_neg c_8]; done) | (rw [bwN]; simp only [bwQ, hq_1, eq_false p_2, eq_true (Int32.not_le.mp p_2), eq_false p_4, eq_true (Int32.not_lt.mp p_4), eq_false p_6, eq_true (Int32.not_le.mp p_6), eq_false c_8, ↓reduceIte]; done) | (rw [bwN]; simp only [bwQ, hq_1, eq_false p_2, eq_true (Int32.not_le.mp p_2), eq_false p_4, eq_true (Int32.not_lt.mp p_4), eq_false p_6, eq_true (Int32.not_le.mp p_6), eq_false c_8, ↓reduceIte] <;> rfl) | (rw [bwN]; simp [bwQ, hq_1, p_2, p_4, p_6, c_8]; done)
      refine v_cong (es' := (wl D b (va_up (va_up sc 18 (sc 16)) 19 (bwR sc 0)) (va_up (va_up ar 19 ((bwQ (ar 24) (sc 16) k1 dr1 (ar 19, ar 20) ce1 (sc 3) 0)).1) 20 ((bwQ (ar 24) (sc 16) k1 dr1 (ar 19, ar 20) ce1 (sc 3) 0)).2) hn mh G)) (lv' := [(6, .int (nI 0)), (0, .ref (b + 0)), (1, .int x), (2, .int c0), (3, .ref (b + (u1 + 40))), (4, .int (bwN (ar 24) (sc 16) k1 dr1 (ar 19, ar 20) ce1 (sc 3) c0 0).1), (5, .int (bwN (ar 24) (sc 16) k1 dr1 (ar 19, ar 20) ce1 (sc 3) c0 0).2)]) w_12 (cg3 (fun (z0 : Int32) (z1 : Int32) (z2 : Int32) => ([(6, .int z0), (0, .ref (b + 0)), (1, .int x), (2, .int c0), (3, .ref (b + (u1 + 40))), (4, .int z1), (5, .int z2)] : List (Nat × Value))) e_9 e_10 e_11) ?_
      refine loop_dn (P := fun i_44 => V p l e { frames := 5, cells := 0, slots := 0, locals := 124 } s m args below meth c D b 8 (MQ below (cQ D b 0 (fun r es' => r = some (.int (bwF sc ar hv x c0)) ∧ ∃ sc' ar', Per sc ar sc' ar' ∧ wl D b sc' ar' hn mh G = es')) args s 0 0 (fun q => b ≤ q)) 0 0 (wl D b (va_up (va_up sc 18 (sc 16)) 19 (bwR sc i_44)) (va_up (va_up ar 19 ((bwQ (ar 24) (sc 16) k1 dr1 (ar 19, ar 20) ce1 (sc 3) i_44)).1) 20 ((bwQ (ar 24) (sc 16) k1 dr1 (ar 19, ar 20) ce1 (sc 3) i_44)).2) hn mh G) [(6, .int (nI i_44)), (0, .ref (b + 0)), (1, .int x), (2, .int c0), (3, .ref (b + (u1 + 40))), (4, .int (bwN (ar 24) (sc 16) k1 dr1 (ar 19, ar 20) ce1 (sc 3) c0 i_44).1), (5, .int (bwN (ar 24) (sc 16) k1 dr1 (ar 19, ar 20) ce1 (sc 3) c0 i_44).2)] [] 44) 5 ?_ (fun i_44 hi_44 ih_44 => ?_)
      · skip
        have g_13 : (4 : Int32) < (nI 5) := by decide
        refine v_iload (n := 46) C dX11_bestWind_44 rfl rfl ?_
        refine v_iconst (n := 47) (v := 4) C dX11_bestWind_46 rfl (by decide) ?_
        refine v_icmp_gt (t := 122) (n := 50) C dX11_bestWind_47 (by decide) rfl (fun c_14 => ?_) (fun c_14 => ?_)
        · skip
          refine v_iload (n := 124) C dX11_bestWind_122 rfl rfl ?_
          exact v_iret C dX11_bestWind_124 rfl rfl ⟨by first | rfl | (simp only [bwF, hq_1, if_neg p_2, if_pos (Int32.not_le.mp p_2), if_neg p_4, if_pos (Int32.not_lt.mp p_4), if_neg p_6, if_pos (Int32.not_le.mp p_6), if_neg c_8, if_pos g_13, if_neg (Int32.not_le.mpr g_13), if_pos c_14, if_neg (Int32.not_le.mpr c_14)]; done) | (simp only [bwF, hq_1, eq_false p_2, eq_true (Int32.not_le.mp p_2), eq_false p_4, eq_true (Int32.not_lt.mp p_4), eq_false p_6, eq_true (Int32.not_le.mp p_6), eq_false c_8, eq_true g_13, eq_false (Int32.not_le.mpr g_13), eq_true c_14, eq_false (Int32.not_le.mpr c_14), ↓reduceIte]; done) | (simp only [bwF, hq_1, eq_false p_2, eq_true (Int32.not_le.mp p_2), eq_false p_4, eq_true (Int32.not_lt.mp p_4), eq_false p_6, eq_true (Int32.not_le.mp p_6), eq_false c_8, eq_true g_13, eq_false (Int32.not_le.mpr g_13), eq_true c_14, eq_false (Int32.not_le.mpr c_14), ↓reduceIte] <;> rfl) | (simp [bwF, hq_1, p_2, p_4, p_6, c_8, g_13, c_14]; done), (va_up (va_up sc 18 (sc 16)) 19 (bwR sc 5)), (va_up (va_up ar 19 ((bwQ (ar 24) (sc 16) k1 dr1 (ar 19, ar 20) ce1 (sc 3) 5)).1) 20 ((bwQ (ar 24) (sc 16) k1 dr1 (ar 19, ar 20) ce1 (sc 3) 5)).2), (Per_a (by decide) (Per_a (by decide) (Per_s (by decide) (Per_s (by decide) Per_rf)))), rfl⟩
        · first | exact absurd c_14 g_13 | exact absurd g_13 c_14 | exact absurd c_14 (Int32.not_le.mpr g_13) | exact absurd c_14 (Int32.not_lt.mpr g_13) | exact absurd (Int32.not_le.mp g_13) c_14 | exact absurd (Int32.not_lt.mp g_13) c_14 | exact absurd (Int32.not_le.mp g_13) (Int32.not_lt.mpr c_14) | exact absurd (Int32.not_lt.mp g_13) (Int32.not_le.mpr c_14) | exact absurd (Int32.not_lt.mp c_14) (Int32.not_le.mpr (Int32.not_le.mp g_13))
      · skip
        have g_15 : ¬ (4 : Int32) < (nI i_44) := nI_nlt (a := 4) (b := i_44 + 0) (by omega) (by decide)
        refine v_iload (n := 46) C dX11_bestWind_44 rfl rfl ?_
        refine v_iconst (n := 47) (v := 4) C dX11_bestWind_46 rfl (by decide) ?_
        refine v_icmp_gt (t := 122) (n := 50) C dX11_bestWind_47 (by decide) rfl (fun c_16 => ?_) (fun c_16 => ?_)
        · first | exact absurd c_16 g_15 | exact absurd g_15 c_16 | exact absurd c_16 (Int32.not_le.mpr g_15) | exact absurd c_16 (Int32.not_lt.mpr g_15) | exact absurd (Int32.not_le.mp g_15) c_16 | exact absurd (Int32.not_lt.mp g_15) c_16 | exact absurd (Int32.not_le.mp g_15) (Int32.not_lt.mpr c_16) | exact absurd (Int32.not_lt.mp g_15) (Int32.not_le.mpr c_16) | exact absurd (Int32.not_lt.mp c_16) (Int32.not_le.mpr (Int32.not_le.mp g_15))
        · skip
          refine v_aload_n (n := 51) C dX11_bestWind_50 rfl rfl rfl ?_
          refine v_get (n := 54) C dX11_bestWind_51 rfl fl_X11_63_X11 (show (wl D b (va_up (va_up sc 18 (sc 16)) 19 (bwR sc i_44)) (va_up (va_up ar 19 ((bwQ (ar 24) (sc 16) k1 dr1 (ar 19, ar 20) ce1 (sc 3) i_44)).1) 20 ((bwQ (ar 24) (sc 16) k1 dr1 (ar 19, ar 20) ce1 (sc 3) i_44)).2) hn mh G)[0]? = some (.inr (11, [.ref (b + 1), .int (sc 0), .int (sc 1), .ref (b + 25), .ref (b + 26), .ref (b + 2), .int (sc 2), .int (sc 3), .ref (b + 3), .ref (b + 9), .ref (b + 18), .ref (b + 21), .ref (b + 22)])) from wl_c0) rfl ?_
          refine v_iload (n := 56) C dX11_bestWind_54 rfl rfl ?_
          refine v_put (n := 59) (es' := (wl D b (va_up (va_up sc 18 (sc 16)) 19 (nI i_44)) (va_up (va_up ar 19 ((bwQ (ar 24) (sc 16) k1 dr1 (ar 19, ar 20) ce1 (sc 3) i_44)).1) 20 ((bwQ (ar 24) (sc 16) k1 dr1 (ar 19, ar 20) ce1 (sc 3) i_44)).2) hn mh G)) C dX11_bestWind_56 rfl fl_X11_123_X7 (fp_any fp_X7_2) (show (wl D b (va_up (va_up sc 18 (sc 16)) 19 (bwR sc i_44)) (va_up (va_up ar 19 ((bwQ (ar 24) (sc 16) k1 dr1 (ar 19, ar 20) ce1 (sc 3) i_44)).1) 20 ((bwQ (ar 24) (sc 16) k1 dr1 (ar 19, ar 20) ce1 (sc 3) i_44)).2) hn mh G)[26]? = some (.inr (7, [.ref (b + 24), .int (sc 16), .int (bwR sc i_44)])) from wl_c26) rfl rfl (Nat.le_of_ble_eq_true rfl) rfl ?_
          refine v_aload_n (n := 60) C dX11_bestWind_59 rfl rfl rfl ?_
          refine v_get (n := 63) C dX11_bestWind_60 rfl fl_X11_36_X11 (show (wl D b (va_up (va_up sc 18 (sc 16)) 19 (nI i_44)) (va_up (va_up ar 19 ((bwQ (ar 24) (sc 16) k1 dr1 (ar 19, ar 20) ce1 (sc 3) i_44)).1) 20 ((bwQ (ar 24) (sc 16) k1 dr1 (ar 19, ar 20) ce1 (sc 3) i_44)).2) hn mh G)[0]? = some (.inr (11, [.ref (b + 1), .int (sc 0), .int (sc 1), .ref (b + 25), .ref (b + 26), .ref (b + 2), .int (sc 2), .int (sc 3), .ref (b + 3), .ref (b + 9), .ref (b + 18), .ref (b + 21), .ref (b + 22)])) from wl_c0) rfl ?_
          refine v_aload_n (n := 64) C dX11_bestWind_63 rfl rfl rfl ?_
          refine v_get (n := 67) C dX11_bestWind_64 rfl fl_X11_63_X11 (show (wl D b (va_up (va_up sc 18 (sc 16)) 19 (nI i_44)) (va_up (va_up ar 19 ((bwQ (ar 24) (sc 16) k1 dr1 (ar 19, ar 20) ce1 (sc 3) i_44)).1) 20 ((bwQ (ar 24) (sc 16) k1 dr1 (ar 19, ar 20) ce1 (sc 3) i_44)).2) hn mh G)[0]? = some (.inr (11, [.ref (b + 1), .int (sc 0), .int (sc 1), .ref (b + 25), .ref (b + 26), .ref (b + 2), .int (sc 2), .int (sc 3), .ref (b + 3), .ref (b + 9), .ref (b + 18), .ref (b + 21), .ref (b + 22)])) from wl_c0) rfl ?_
          refine v_aload_n (n := 68) C dX11_bestWind_67 rfl rfl rfl ?_
          refine v_aload_n (n := 69) C dX11_bestWind_68 rfl rfl rfl ?_
          refine v_get (n := 72) C dX11_bestWind_69 rfl (flk_X11_143 hk1) (wl_tail hg1) rfl ?_
          refine v_aload_n (n := 73) C dX11_bestWind_72 rfl rfl rfl ?_
          refine v_get (n := 76) C dX11_bestWind_73 rfl fl_X11_106_X11 (show (wl D b (va_up (va_up sc 18 (sc 16)) 19 (nI i_44)) (va_up (va_up ar 19 ((bwQ (ar 24) (sc 16) k1 dr1 (ar 19, ar 20) ce1 (sc 3) i_44)).1) 20 ((bwQ (ar 24) (sc 16) k1 dr1 (ar 19, ar 20) ce1 (sc 3) i_44)).2) hn mh G)[0]? = some (.inr (11, [.ref (b + 1), .int (sc 0), .int (sc 1), .ref (b + 25), .ref (b + 26), .ref (b + 2), .int (sc 2), .int (sc 3), .ref (b + 3), .ref (b + 9), .ref (b + 18), .ref (b + 21), .ref (b + 22)])) from wl_c0) rfl ?_
          refine v_go (n := 79) C (vRun_V (As := [.ref (b + 26), .ref (b + (u1 + 40)), .int ce1, .int (sc 3)]) (rest := []) C wl_c18 rfl lk_X11_164 im_X0_plot se_X0_plot dX11_bestWind_76 (c_plot l D b (va_up (va_up sc 18 (sc 16)) 19 (nI i_44)) (va_up (va_up ar 19 ((bwQ (ar 24) (sc 16) k1 dr1 (ar 19, ar 20) ce1 (sc 3) i_44)).1) 20 ((bwQ (ar 24) (sc 16) k1 dr1 (ar 19, ar 20) ce1 (sc 3) i_44)).2) hn mh G 26 (sc 16) (nI i_44) (fun _ => wl_c26) u1 k1 dr1 ce1 sa1 hk1 hg1 ce1 (sc 3)) wm_X0_plot rfl rfl ⟨Nat.le_of_ble_eq_true rfl, Nat.le_of_ble_eq_true rfl⟩ ⟨Nat.le_of_ble_eq_true rfl, Nat.le_of_ble_eq_true rfl⟩ (Nat.le_of_ble_eq_true rfl)) rfl ?_
          rintro _ _ ⟨rfl, rfl⟩ -
          refine v_cong (es' := (wl D b (va_up (va_up sc 18 (sc 16)) 19 (nI i_44)) (va_up (va_up ar 19 (plF (ar 24) (sc 16) (nI i_44) k1 dr1 ((bwQ (ar 24) (sc 16) k1 dr1 (ar 19, ar 20) ce1 (sc 3) i_44)) ce1 (sc 3)).1) 20 (plF (ar 24) (sc 16) (nI i_44) k1 dr1 ((bwQ (ar 24) (sc 16) k1 dr1 (ar 19, ar 20) ce1 (sc 3) i_44)) ce1 (sc 3)).2) hn mh G)) (lv' := [(6, .int (nI i_44)), (0, .ref (b + 0)), (1, .int x), (2, .int c0), (3, .ref (b + (u1 + 40))), (4, .int (bwN (ar 24) (sc 16) k1 dr1 (ar 19, ar 20) ce1 (sc 3) c0 i_44).1), (5, .int (bwN (ar 24) (sc 16) k1 dr1 (ar 19, ar 20) ce1 (sc 3) c0 i_44).2)]) rfl rfl ?_
          refine v_aload_n (n := 80) C dX11_bestWind_79 rfl rfl rfl ?_
          refine v_get (n := 83) C dX11_bestWind_80 rfl fl_X11_36_X11 (show (wl D b (va_up (va_up sc 18 (sc 16)) 19 (nI i_44)) (va_up (va_up ar 19 (plF (ar 24) (sc 16) (nI i_44) k1 dr1 ((bwQ (ar 24) (sc 16) k1 dr1 (ar 19, ar 20) ce1 (sc 3) i_44)) ce1 (sc 3)).1) 20 (plF (ar 24) (sc 16) (nI i_44) k1 dr1 ((bwQ (ar 24) (sc 16) k1 dr1 (ar 19, ar 20) ce1 (sc 3) i_44)) ce1 (sc 3)).2) hn mh G)[0]? = some (.inr (11, [.ref (b + 1), .int (sc 0), .int (sc 1), .ref (b + 25), .ref (b + 26), .ref (b + 2), .int (sc 2), .int (sc 3), .ref (b + 3), .ref (b + 9), .ref (b + 18), .ref (b + 21), .ref (b + 22)])) from wl_c0) rfl ?_
          refine v_iload_n (n := 84) C dX11_bestWind_83 rfl rfl rfl ?_
          refine v_go (n := 87) C (vRun_V (As := [.int c0]) (rest := []) C wl_c18 rfl lk_X11_168 im_X0_hourAt se_X0_hourAt dX11_bestWind_84 (c_hourAt l D b (va_up (va_up sc 18 (sc 16)) 19 (nI i_44)) (va_up (va_up ar 19 (plF (ar 24) (sc 16) (nI i_44) k1 dr1 ((bwQ (ar 24) (sc 16) k1 dr1 (ar 19, ar 20) ce1 (sc 3) i_44)) ce1 (sc 3)).1) 20 (plF (ar 24) (sc 16) (nI i_44) k1 dr1 ((bwQ (ar 24) (sc 16) k1 dr1 (ar 19, ar 20) ce1 (sc 3) i_44)) ce1 (sc 3)).2) hn mh G c0) wm_X0_hourAt rfl rfl ⟨Nat.le_of_ble_eq_true rfl, Nat.le_of_ble_eq_true rfl⟩ ⟨Nat.le_of_ble_eq_true rfl, Nat.le_of_ble_eq_true rfl⟩ (Nat.le_of_ble_eq_true rfl)) rfl ?_
          rintro _ _ ⟨rfl, rfl⟩ -
          refine v_istore (n := 89) (lv' := [(7, .int (atF (plF (ar 24) (sc 16) (nI i_44) k1 dr1 ((bwQ (ar 24) (sc 16) k1 dr1 (ar 19, ar 20) ce1 (sc 3) i_44)) ce1 (sc 3)).1 c0)), (6, .int (nI i_44)), (0, .ref (b + 0)), (1, .int x), (2, .int c0), (3, .ref (b + (u1 + 40))), (4, .int (bwN (ar 24) (sc 16) k1 dr1 (ar 19, ar 20) ce1 (sc 3) c0 i_44).1), (5, .int (bwN (ar 24) (sc 16) k1 dr1 (ar 19, ar 20) ce1 (sc 3) c0 i_44).2)]) C dX11_bestWind_87 rfl (Nat.le_of_ble_eq_true rfl) rfl ?_
          refine v_iload (n := 91) C dX11_bestWind_89 rfl rfl ?_
          refine v_iconst (n := 92) (v := -1) C dX11_bestWind_91 rfl (by decide) ?_
          refine v_icmp_eq (t := 116) (n := 95) C dX11_bestWind_92 (by decide) rfl (fun c_17 => ?_) (fun c_17 => ?_)
          · skip
            refine v_iinc (n := 119) (v := ((nI i_44) + 1)) (lv' := [(6, .int ((nI i_44) + 1)), (7, .int (atF (plF (ar 24) (sc 16) (nI i_44) k1 dr1 ((bwQ (ar 24) (sc 16) k1 dr1 (ar 19, ar 20) ce1 (sc 3) i_44)) ce1 (sc 3)).1 c0)), (0, .ref (b + 0)), (1, .int x), (2, .int c0), (3, .ref (b + (u1 + 40))), (4, .int (bwN (ar 24) (sc 16) k1 dr1 (ar 19, ar 20) ce1 (sc 3) c0 i_44).1), (5, .int (bwN (ar 24) (sc 16) k1 dr1 (ar 19, ar 20) ce1 (sc 3) c0 i_44).2)]) C dX11_bestWind_116 rfl rfl rfl (Nat.le_of_ble_eq_true rfl) rfl ?_
            refine v_goto (t := 44) C dX11_bestWind_119 (by decide) ?_
            refine v_pick (lv' := [(6, .int ((nI i_44) + 1)), (0, .ref (b + 0)), (1, .int x), (2, .int c0), (3, .ref (b + (u1 + 40))), (4, .int (bwN (ar 24) (sc 16) k1 dr1 (ar 19, ar 20) ce1 (sc 3) c0 i_44).1), (5, .int (bwN (ar 24) (sc 16) k1 dr1 (ar 19, ar 20) ce1 (sc 3) c0 i_44).2)]) [0, 2, 3, 4, 5, 6, 7] rfl ?_
            have e_18 : ((nI i_44) + 1) = (nI (i_44 + 1)) := nI_1 _
            have e_19 : ((bwN (ar 24) (sc 16) k1 dr1 (ar 19, ar 20) ce1 (sc 3) c0 i_44).1 : Int32) = (bwN (ar 24) (sc 16) k1 dr1 (ar 19, ar 20) ce1 (sc 3) c0 (i_44 + 1)).1 := by first | rfl | (rw [bwN]; simp only [bwQ, hq_1, if_neg p_2, if_pos (Int32.not_le.mp p_2), if_neg p_4, if_pos (Int32.not_lt.mp p_4), if_neg p_6, if_pos (Int32.not_le.mp p_6), if_neg c_8, if_neg g_15, if_pos (Int32.not_lt.mp g_15), if_neg c_16, if_pos (Int32.not_lt.mp c_16), if_pos c_17]; done) | (rw [bwN]; simp only [bwQ, hq_1, eq_false p_2, eq_true (Int32.not_le.mp p_2), eq_false p_4, eq_true (Int32.not_lt.mp p_4), eq_false p_6, eq_true (Int32.not_le.mp p_6), eq_false c_8, eq_false g_15, eq_true (Int32.not_lt.mp g_15), eq_false c_16, eq_true (Int32.not_lt.mp c_16), eq_true c_17, ↓reduceIte]; done) | (rw [bwN]; simp only [bwQ, hq_1, eq_false p_2, eq_true (Int32.not_le.mp p_2), eq_false p_4, eq_true (Int32.not_lt.mp p_4), eq_false p_6, eq_true (Int32.not_le.mp p_6), eq_false c_8, eq_false g_15, eq_true (Int32.not_lt.mp g_15), eq_false c_16, eq_true (Int32.not_lt.mp c_16), eq_true c_17, ↓reduceIte] <;> rfl) | (rw [bwN]; simp [bwQ, hq_1, p_2, p_4, p_6, c_8, g_15, c_16, c_17]; done)
            have e_20 : ((bwN (ar 24) (sc 16) k1 dr1 (ar 19, ar 20) ce1 (sc 3) c0 i_44).2 : Int32) = (bwN (ar 24) (sc 16) k1 dr1 (ar 19, ar 20) ce1 (sc 3) c0 (i_44 + 1)).2 := by first | rfl | (rw [bwN]; simp only [bwQ, hq_1, if_neg p_2, if_pos (Int32.not_le.mp p_2), if_neg p_4, if_pos (Int32.not_lt.mp p_4), if_neg p_6, if_pos (Int32.not_le.mp p_6), if_neg c_8, if_neg g_15, if_pos (Int32.not_lt.mp g_15), if_neg c_16, if_pos (Int32.not_lt.mp c_16), if_pos c_17]; done) | (rw [bwN]; simp only [bwQ, hq_1, eq_false p_2, eq_true (Int32.not_le.mp p_2), eq_false p_4, eq_true (Int32.not_lt.mp p_4), eq_false p_6, eq_true (Int32.not_le.mp p_6), eq_false c_8, eq_false g_15, eq_true (Int32.not_lt.mp g_15), eq_false c_16, eq_true (Int32.not_lt.mp c_16), eq_true c_17, ↓reduceIte]; done) | (rw [bwN]; simp only [bwQ, hq_1, eq_false p_2, eq_true (Int32.not_le.mp p_2), eq_false p_4, eq_true (Int32.not_lt.mp p_4), eq_false p_6, eq_true (Int32.not_le.mp p_6), eq_false c_8, eq_false g_15, eq_true (Int32.not_lt.mp g_15), eq_false c_16, eq_true (Int32.not_lt.mp c_16), eq_true c_17, ↓reduceIte] <;> rfl) | (rw [bwN]; simp [bwQ, hq_1, p_2, p_4, p_6, c_8, g_15, c_16, c_17]; done)
            have w_21 : (wl D b (va_up (va_up sc 18 (sc 16)) 19 (nI i_44)) (va_up (va_up ar 19 (plF (ar 24) (sc 16) (nI i_44) k1 dr1 ((bwQ (ar 24) (sc 16) k1 dr1 (ar 19, ar 20) ce1 (sc 3) i_44)) ce1 (sc 3)).1) 20 (plF (ar 24) (sc 16) (nI i_44) k1 dr1 ((bwQ (ar 24) (sc 16) k1 dr1 (ar 19, ar 20) ce1 (sc 3) i_44)) ce1 (sc 3)).2) hn mh G) = (wl D b (va_up (va_up sc 18 (sc 16)) 19 (bwR sc (i_44 + 1))) (va_up (va_up ar 19 ((bwQ (ar 24) (sc 16) k1 dr1 (ar 19, ar 20) ce1 (sc 3) (i_44 + 1))).1) 20 ((bwQ (ar 24) (sc 16) k1 dr1 (ar 19, ar 20) ce1 (sc 3) (i_44 + 1))).2) hn mh G) := by first | rfl | (rw [bwN]; simp only [bwQ, hq_1, if_neg p_2, if_pos (Int32.not_le.mp p_2), if_neg p_4, if_pos (Int32.not_lt.mp p_4), if_neg p_6, if_pos (Int32.not_le.mp p_6), if_neg c_8, if_neg g_15, if_pos (Int32.not_lt.mp g_15), if_neg c_16, if_pos (Int32.not_lt.mp c_16), if_pos c_17]; done) | (rw [bwN]; simp only [bwQ, hq_1, eq_false p_2, eq_true (Int32.not_le.mp p_2), eq_false p_4, eq_true (Int32.not_lt.mp p_4), eq_false p_6, eq_true (Int32.not_le.mp p_6), eq_false c_8, eq_false g_15, eq_true (Int32.not_lt.mp g_15), eq_false c_16, eq_true (Int32.not_lt.mp c_16), eq_true c_17, ↓reduceIte]; done) | (rw [bwN]; simp only [bwQ, hq_1, eq_false p_2, eq_true (Int32.not_le.mp p_2), eq_false p_4, eq_true (Int32.not_lt.mp p_4), eq_false p_6, eq_true (Int32.not_le.mp p_6), eq_false c_8, eq_false g_15, eq_true (Int32.not_lt.mp g_15), eq_false c_16, eq_true (Int32.not_lt.mp c_16), eq_true c_17, ↓reduceIte] <;> rfl) | (rw [bwN]; simp [bwQ, hq_1, p_2, p_4, p_6, c_8, g_15, c_16, c_17]; done)
            refine v_cong (es' := (wl D b (va_up (va_up sc 18 (sc 16)) 19 (bwR sc (i_44 + 1))) (va_up (va_up ar 19 ((bwQ (ar 24) (sc 16) k1 dr1 (ar 19, ar 20) ce1 (sc 3) (i_44 + 1))).1) 20 ((bwQ (ar 24) (sc 16) k1 dr1 (ar 19, ar 20) ce1 (sc 3) (i_44 + 1))).2) hn mh G)) (lv' := [(6, .int (nI (i_44 + 1))), (0, .ref (b + 0)), (1, .int x), (2, .int c0), (3, .ref (b + (u1 + 40))), (4, .int (bwN (ar 24) (sc 16) k1 dr1 (ar 19, ar 20) ce1 (sc 3) c0 (i_44 + 1)).1), (5, .int (bwN (ar 24) (sc 16) k1 dr1 (ar 19, ar 20) ce1 (sc 3) c0 (i_44 + 1)).2)]) w_21 (cg3 (fun (z0 : Int32) (z1 : Int32) (z2 : Int32) => ([(6, .int z0), (0, .ref (b + 0)), (1, .int x), (2, .int c0), (3, .ref (b + (u1 + 40))), (4, .int z1), (5, .int z2)] : List (Nat × Value))) e_18 e_19 e_20) ?_
            exact ih_44
          · skip
            refine v_iload (n := 97) C dX11_bestWind_95 rfl rfl ?_
            refine v_iconst (n := 98) (v := -1) C dX11_bestWind_97 rfl (by decide) ?_
            refine v_icmp_eq (t := 108) (n := 101) C dX11_bestWind_98 (by decide) rfl (fun c_22 => ?_) (fun c_22 => ?_)
            · skip
              refine v_iload (n := 110) C dX11_bestWind_108 rfl rfl ?_
              refine v_istore (n := 112) (lv' := [(4, .int (nI i_44)), (7, .int (atF (plF (ar 24) (sc 16) (nI i_44) k1 dr1 ((bwQ (ar 24) (sc 16) k1 dr1 (ar 19, ar 20) ce1 (sc 3) i_44)) ce1 (sc 3)).1 c0)), (6, .int (nI i_44)), (0, .ref (b + 0)), (1, .int x), (2, .int c0), (3, .ref (b + (u1 + 40))), (5, .int (bwN (ar 24) (sc 16) k1 dr1 (ar 19, ar 20) ce1 (sc 3) c0 i_44).2)]) C dX11_bestWind_110 rfl (Nat.le_of_ble_eq_true rfl) rfl ?_
              refine v_iload (n := 114) C dX11_bestWind_112 rfl rfl ?_
              refine v_istore (n := 116) (lv' := [(5, .int (atF (plF (ar 24) (sc 16) (nI i_44) k1 dr1 ((bwQ (ar 24) (sc 16) k1 dr1 (ar 19, ar 20) ce1 (sc 3) i_44)) ce1 (sc 3)).1 c0)), (4, .int (nI i_44)), (7, .int (atF (plF (ar 24) (sc 16) (nI i_44) k1 dr1 ((bwQ (ar 24) (sc 16) k1 dr1 (ar 19, ar 20) ce1 (sc 3) i_44)) ce1 (sc 3)).1 c0)), (6, .int (nI i_44)), (0, .ref (b + 0)), (1, .int x), (2, .int c0), (3, .ref (b + (u1 + 40)))]) C dX11_bestWind_114 rfl (Nat.le_of_ble_eq_true rfl) rfl ?_
              refine v_iinc (n := 119) (v := ((nI i_44) + 1)) (lv' := [(6, .int ((nI i_44) + 1)), (5, .int (atF (plF (ar 24) (sc 16) (nI i_44) k1 dr1 ((bwQ (ar 24) (sc 16) k1 dr1 (ar 19, ar 20) ce1 (sc 3) i_44)) ce1 (sc 3)).1 c0)), (4, .int (nI i_44)), (7, .int (atF (plF (ar 24) (sc 16) (nI i_44) k1 dr1 ((bwQ (ar 24) (sc 16) k1 dr1 (ar 19, ar 20) ce1 (sc 3) i_44)) ce1 (sc 3)).1 c0)), (0, .ref (b + 0)), (1, .int x), (2, .int c0), (3, .ref (b + (u1 + 40)))]) C dX11_bestWind_116 rfl rfl rfl (Nat.le_of_ble_eq_true rfl) rfl ?_
              refine v_goto (t := 44) C dX11_bestWind_119 (by decide) ?_
              refine v_pick (lv' := [(6, .int ((nI i_44) + 1)), (0, .ref (b + 0)), (1, .int x), (2, .int c0), (3, .ref (b + (u1 + 40))), (4, .int (nI i_44)), (5, .int (atF (plF (ar 24) (sc 16) (nI i_44) k1 dr1 ((bwQ (ar 24) (sc 16) k1 dr1 (ar 19, ar 20) ce1 (sc 3) i_44)) ce1 (sc 3)).1 c0))]) [0, 4, 5, 6, 7, 2, 1] rfl ?_
              have e_23 : ((nI i_44) + 1) = (nI (i_44 + 1)) := nI_1 _
              have e_24 : ((nI i_44) : Int32) = (bwN (ar 24) (sc 16) k1 dr1 (ar 19, ar 20) ce1 (sc 3) c0 (i_44 + 1)).1 := by first | rfl | (rw [bwN]; simp only [bwQ, hq_1, if_neg p_2, if_pos (Int32.not_le.mp p_2), if_neg p_4, if_pos (Int32.not_lt.mp p_4), if_neg p_6, if_pos (Int32.not_le.mp p_6), if_neg c_8, if_neg g_15, if_pos (Int32.not_lt.mp g_15), if_neg c_16, if_pos (Int32.not_lt.mp c_16), if_neg c_17, if_pos c_22]; done) | (rw [bwN]; simp only [bwQ, hq_1, eq_false p_2, eq_true (Int32.not_le.mp p_2), eq_false p_4, eq_true (Int32.not_lt.mp p_4), eq_false p_6, eq_true (Int32.not_le.mp p_6), eq_false c_8, eq_false g_15, eq_true (Int32.not_lt.mp g_15), eq_false c_16, eq_true (Int32.not_lt.mp c_16), eq_false c_17, eq_true c_22, ↓reduceIte]; done) | (rw [bwN]; simp only [bwQ, hq_1, eq_false p_2, eq_true (Int32.not_le.mp p_2), eq_false p_4, eq_true (Int32.not_lt.mp p_4), eq_false p_6, eq_true (Int32.not_le.mp p_6), eq_false c_8, eq_false g_15, eq_true (Int32.not_lt.mp g_15), eq_false c_16, eq_true (Int32.not_lt.mp c_16), eq_false c_17, eq_true c_22, ↓reduceIte] <;> rfl) | (rw [bwN]; simp [bwQ, hq_1, p_2, p_4, p_6, c_8, g_15, c_16, c_17, c_22]; done)
              have e_25 : ((atF (plF (ar 24) (sc 16) (nI i_44) k1 dr1 ((bwQ (ar 24) (sc 16) k1 dr1 (ar 19, ar 20) ce1 (sc 3) i_44)) ce1 (sc 3)).1 c0) : Int32) = (bwN (ar 24) (sc 16) k1 dr1 (ar 19, ar 20) ce1 (sc 3) c0 (i_44 + 1)).2 := by first | rfl | (rw [bwN]; simp only [bwQ, hq_1, if_neg p_2, if_pos (Int32.not_le.mp p_2), if_neg p_4, if_pos (Int32.not_lt.mp p_4), if_neg p_6, if_pos (Int32.not_le.mp p_6), if_neg c_8, if_neg g_15, if_pos (Int32.not_lt.mp g_15), if_neg c_16, if_pos (Int32.not_lt.mp c_16), if_neg c_17, if_pos c_22]; done) | (rw [bwN]; simp only [bwQ, hq_1, eq_false p_2, eq_true (Int32.not_le.mp p_2), eq_false p_4, eq_true (Int32.not_lt.mp p_4), eq_false p_6, eq_true (Int32.not_le.mp p_6), eq_false c_8, eq_false g_15, eq_true (Int32.not_lt.mp g_15), eq_false c_16, eq_true (Int32.not_lt.mp c_16), eq_false c_17, eq_true c_22, ↓reduceIte]; done) | (rw [bwN]; simp only [bwQ, hq_1, eq_false p_2, eq_true (Int32.not_le.mp p_2), eq_false p_4, eq_true (Int32.not_lt.mp p_4), eq_false p_6, eq_true (Int32.not_le.mp p_6), eq_false c_8, eq_false g_15, eq_true (Int32.not_lt.mp g_15), eq_false c_16, eq_true (Int32.not_lt.mp c_16), eq_false c_17, eq_true c_22, ↓reduceIte] <;> rfl) | (rw [bwN]; simp [bwQ, hq_1, p_2, p_4, p_6, c_8, g_15, c_16, c_17, c_22]; done)
              have w_26 : (wl D b (va_up (va_up sc 18 (sc 16)) 19 (nI i_44)) (va_up (va_up ar 19 (plF (ar 24) (sc 16) (nI i_44) k1 dr1 ((bwQ (ar 24) (sc 16) k1 dr1 (ar 19, ar 20) ce1 (sc 3) i_44)) ce1 (sc 3)).1) 20 (plF (ar 24) (sc 16) (nI i_44) k1 dr1 ((bwQ (ar 24) (sc 16) k1 dr1 (ar 19, ar 20) ce1 (sc 3) i_44)) ce1 (sc 3)).2) hn mh G) = (wl D b (va_up (va_up sc 18 (sc 16)) 19 (bwR sc (i_44 + 1))) (va_up (va_up ar 19 ((bwQ (ar 24) (sc 16) k1 dr1 (ar 19, ar 20) ce1 (sc 3) (i_44 + 1))).1) 20 ((bwQ (ar 24) (sc 16) k1 dr1 (ar 19, ar 20) ce1 (sc 3) (i_44 + 1))).2) hn mh G) := by first | rfl | (rw [bwN]; simp only [bwQ, hq_1, if_neg p_2, if_pos (Int32.not_le.mp p_2), if_neg p_4, if_pos (Int32.not_lt.mp p_4), if_neg p_6, if_pos (Int32.not_le.mp p_6), if_neg c_8, if_neg g_15, if_pos (Int32.not_lt.mp g_15), if_neg c_16, if_pos (Int32.not_lt.mp c_16), if_neg c_17, if_pos c_22]; done) | (rw [bwN]; simp only [bwQ, hq_1, eq_false p_2, eq_true (Int32.not_le.mp p_2), eq_false p_4, eq_true (Int32.not_lt.mp p_4), eq_false p_6, eq_true (Int32.not_le.mp p_6), eq_false c_8, eq_false g_15, eq_true (Int32.not_lt.mp g_15), eq_false c_16, eq_true (Int32.not_lt.mp c_16), eq_false c_17, eq_true c_22, ↓reduceIte]; done) | (rw [bwN]; simp only [bwQ, hq_1, eq_false p_2, eq_true (Int32.not_le.mp p_2), eq_false p_4, eq_true (Int32.not_lt.mp p_4), eq_false p_6, eq_true (Int32.not_le.mp p_6), eq_false c_8, eq_false g_15, eq_true (Int32.not_lt.mp g_15), eq_false c_16, eq_true (Int32.not_lt.mp c_16), eq_false c_17, eq_true c_22, ↓reduceIte] <;> rfl) | (rw [bwN]; simp [bwQ, hq_1, p_2, p_4, p_6, c_8, g_15, c_16, c_17, c_22]; done)
              refine v_cong (es' := (wl D b (va_up (va_up sc 18 (sc 16)) 19 (bwR sc (i_44 + 1))) (va_up (va_up ar 19 ((bwQ (ar 24) (sc 16) k1 dr1 (ar 19, ar 20) ce1 (sc 3) (i_44 + 1))).1) 20 ((bwQ (ar 24) (sc 16) k1 dr1 (ar 19, ar 20) ce1 (sc 3) (i_44 + 1))).2) hn mh G)) (lv' := [(6, .int (nI (i_44 + 1))), (0, .ref (b + 0)), (1, .int x), (2, .int c0), (3, .ref (b + (u1 + 40))), (4, .int (bwN (ar 24) (sc 16) k1 dr1 (ar 19, ar 20) ce1 (sc 3) c0 (i_44 + 1)).1), (5, .int (bwN (ar 24) (sc 16) k1 dr1 (ar 19, ar 20) ce1 (sc 3) c0 (i_44 + 1)).2)]) w_26 (cg3 (fun (z0 : Int32) (z1 : Int32) (z2 : Int32) => ([(6, .int z0), (0, .ref (b + 0)), (1, .int x), (2, .int c0), (3, .ref (b + (u1 + 40))), (4, .int z1), (5, .int z2)] : List (Nat × Value))) e_23 e_24 e_25) ?_
              exact ih_44
            · skip
              refine v_iload (n := 103) C dX11_bestWind_101 rfl rfl ?_
              refine v_iload (n := 105) C dX11_bestWind_103 rfl rfl ?_
              refine v_icmp_ge (t := 116) (n := 108) C dX11_bestWind_105 (by decide) rfl (fun c_27 => ?_) (fun c_27 => ?_)
              · skip
                refine v_iinc (n := 119) (v := ((nI i_44) + 1)) (lv' := [(6, .int ((nI i_44) + 1)), (7, .int (atF (plF (ar 24) (sc 16) (nI i_44) k1 dr1 ((bwQ (ar 24) (sc 16) k1 dr1 (ar 19, ar 20) ce1 (sc 3) i_44)) ce1 (sc 3)).1 c0)), (0, .ref (b + 0)), (1, .int x), (2, .int c0), (3, .ref (b + (u1 + 40))), (4, .int (bwN (ar 24) (sc 16) k1 dr1 (ar 19, ar 20) ce1 (sc 3) c0 i_44).1), (5, .int (bwN (ar 24) (sc 16) k1 dr1 (ar 19, ar 20) ce1 (sc 3) c0 i_44).2)]) C dX11_bestWind_116 rfl rfl rfl (Nat.le_of_ble_eq_true rfl) rfl ?_
                refine v_goto (t := 44) C dX11_bestWind_119 (by decide) ?_
                refine v_pick (lv' := [(6, .int ((nI i_44) + 1)), (0, .ref (b + 0)), (1, .int x), (2, .int c0), (3, .ref (b + (u1 + 40))), (4, .int (bwN (ar 24) (sc 16) k1 dr1 (ar 19, ar 20) ce1 (sc 3) c0 i_44).1), (5, .int (bwN (ar 24) (sc 16) k1 dr1 (ar 19, ar 20) ce1 (sc 3) c0 i_44).2)]) [0, 2, 3, 4, 5, 6, 7] rfl ?_
                have e_28 : ((nI i_44) + 1) = (nI (i_44 + 1)) := nI_1 _
                have e_29 : ((bwN (ar 24) (sc 16) k1 dr1 (ar 19, ar 20) ce1 (sc 3) c0 i_44).1 : Int32) = (bwN (ar 24) (sc 16) k1 dr1 (ar 19, ar 20) ce1 (sc 3) c0 (i_44 + 1)).1 := by first | rfl | (rw [bwN]; simp only [bwQ, hq_1, if_neg p_2, if_pos (Int32.not_le.mp p_2), if_neg p_4, if_pos (Int32.not_lt.mp p_4), if_neg p_6, if_pos (Int32.not_le.mp p_6), if_neg c_8, if_neg g_15, if_pos (Int32.not_lt.mp g_15), if_neg c_16, if_pos (Int32.not_lt.mp c_16), if_neg c_17, if_neg c_22, if_pos c_27, if_neg (Int32.not_lt.mpr c_27)]; done) | (rw [bwN]; simp only [bwQ, hq_1, eq_false p_2, eq_true (Int32.not_le.mp p_2), eq_false p_4, eq_true (Int32.not_lt.mp p_4), eq_false p_6, eq_true (Int32.not_le.mp p_6), eq_false c_8, eq_false g_15, eq_true (Int32.not_lt.mp g_15), eq_false c_16, eq_true (Int32.not_lt.mp c_16), eq_false c_17, eq_false c_22, eq_true c_27, eq_false (Int32.not_lt.mpr c_27), ↓reduceIte]; done) | (rw [bwN]; simp only [bwQ, hq_1, eq_false p_2, eq_true (Int32.not_le.mp p_2), eq_false p_4, eq_true (Int32.not_lt.mp p_4), eq_false p_6, eq_true (Int32.not_le.mp p_6), eq_false c_8, eq_false g_15, eq_true (Int32.not_lt.mp g_15), eq_false c_16, eq_true (Int32.not_lt.mp c_16), eq_false c_17, eq_false c_22, eq_true c_27, eq_false (Int32.not_lt.mpr c_27), ↓reduceIte] <;> rfl) | (rw [bwN]; simp [bwQ, hq_1, p_2, p_4, p_6, c_8, g_15, c_16, c_17, c_22, c_27]; done)
                have e_30 : ((bwN (ar 24) (sc 16) k1 dr1 (ar 19, ar 20) ce1 (sc 3) c0 i_44).2 : Int32) = (bwN (ar 24) (sc 16) k1 dr1 (ar 19, ar 20) ce1 (sc 3) c0 (i_44 + 1)).2 := by first | rfl | (rw [bwN]; simp only [bwQ, hq_1, if_neg p_2, if_pos (Int32.not_le.mp p_2), if_neg p_4, if_pos (Int32.not_lt.mp p_4), if_neg p_6, if_pos (Int32.not_le.mp p_6), if_neg c_8, if_neg g_15, if_pos (Int32.not_lt.mp g_15), if_neg c_16, if_pos (Int32.not_lt.mp c_16), if_neg c_17, if_neg c_22, if_pos c_27, if_neg (Int32.not_lt.mpr c_27)]; done) | (rw [bwN]; simp only [bwQ, hq_1, eq_false p_2, eq_true (Int32.not_le.mp p_2), eq_false p_4, eq_true (Int32.not_lt.mp p_4), eq_false p_6, eq_true (Int32.not_le.mp p_6), eq_false c_8, eq_false g_15, eq_true (Int32.not_lt.mp g_15), eq_false c_16, eq_true (Int32.not_lt.mp c_16), eq_false c_17, eq_false c_22, eq_true c_27, eq_false (Int32.not_lt.mpr c_27), ↓reduceIte]; done) | (rw [bwN]; simp only [bwQ, hq_1, eq_false p_2, eq_true (Int32.not_le.mp p_2), eq_false p_4, eq_true (Int32.not_lt.mp p_4), eq_false p_6, eq_true (Int32.not_le.mp p_6), eq_false c_8, eq_false g_15, eq_true (Int32.not_lt.mp g_15), eq_false c_16, eq_true (Int32.not_lt.mp c_16), eq_false c_17, eq_false c_22, eq_true c_27, eq_false (Int32.not_lt.mpr c_27), ↓reduceIte] <;> rfl) | (rw [bwN]; simp [bwQ, hq_1, p_2, p_4, p_6, c_8, g_15, c_16, c_17, c_22, c_27]; done)
                have w_31 : (wl D b (va_up (va_up sc 18 (sc 16)) 19 (nI i_44)) (va_up (va_up ar 19 (plF (ar 24) (sc 16) (nI i_44) k1 dr1 ((bwQ (ar 24) (sc 16) k1 dr1 (ar 19, ar 20) ce1 (sc 3) i_44)) ce1 (sc 3)).1) 20 (plF (ar 24) (sc 16) (nI i_44) k1 dr1 ((bwQ (ar 24) (sc 16) k1 dr1 (ar 19, ar 20) ce1 (sc 3) i_44)) ce1 (sc 3)).2) hn mh G) = (wl D b (va_up (va_up sc 18 (sc 16)) 19 (bwR sc (i_44 + 1))) (va_up (va_up ar 19 ((bwQ (ar 24) (sc 16) k1 dr1 (ar 19, ar 20) ce1 (sc 3) (i_44 + 1))).1) 20 ((bwQ (ar 24) (sc 16) k1 dr1 (ar 19, ar 20) ce1 (sc 3) (i_44 + 1))).2) hn mh G) := by first | rfl | (rw [bwN]; simp only [bwQ, hq_1, if_neg p_2, if_pos (Int32.not_le.mp p_2), if_neg p_4, if_pos (Int32.not_lt.mp p_4), if_neg p_6, if_pos (Int32.not_le.mp p_6), if_neg c_8, if_neg g_15, if_pos (Int32.not_lt.mp g_15), if_neg c_16, if_pos (Int32.not_lt.mp c_16), if_neg c_17, if_neg c_22, if_pos c_27, if_neg (Int32.not_lt.mpr c_27)]; done) | (rw [bwN]; simp only [bwQ, hq_1, eq_false p_2, eq_true (Int32.not_le.mp p_2), eq_false p_4, eq_true (Int32.not_lt.mp p_4), eq_false p_6, eq_true (Int32.not_le.mp p_6), eq_false c_8, eq_false g_15, eq_true (Int32.not_lt.mp g_15), eq_false c_16, eq_true (Int32.not_lt.mp c_16), eq_false c_17, eq_false c_22, eq_true c_27, eq_false (Int32.not_lt.mpr c_27), ↓reduceIte]; done) | (rw [bwN]; simp only [bwQ, hq_1, eq_false p_2, eq_true (Int32.not_le.mp p_2), eq_false p_4, eq_true (Int32.not_lt.mp p_4), eq_false p_6, eq_true (Int32.not_le.mp p_6), eq_false c_8, eq_false g_15, eq_true (Int32.not_lt.mp g_15), eq_false c_16, eq_true (Int32.not_lt.mp c_16), eq_false c_17, eq_false c_22, eq_true c_27, eq_false (Int32.not_lt.mpr c_27), ↓reduceIte] <;> rfl) | (rw [bwN]; simp [bwQ, hq_1, p_2, p_4, p_6, c_8, g_15, c_16, c_17, c_22, c_27]; done)
                refine v_cong (es' := (wl D b (va_up (va_up sc 18 (sc 16)) 19 (bwR sc (i_44 + 1))) (va_up (va_up ar 19 ((bwQ (ar 24) (sc 16) k1 dr1 (ar 19, ar 20) ce1 (sc 3) (i_44 + 1))).1) 20 ((bwQ (ar 24) (sc 16) k1 dr1 (ar 19, ar 20) ce1 (sc 3) (i_44 + 1))).2) hn mh G)) (lv' := [(6, .int (nI (i_44 + 1))), (0, .ref (b + 0)), (1, .int x), (2, .int c0), (3, .ref (b + (u1 + 40))), (4, .int (bwN (ar 24) (sc 16) k1 dr1 (ar 19, ar 20) ce1 (sc 3) c0 (i_44 + 1)).1), (5, .int (bwN (ar 24) (sc 16) k1 dr1 (ar 19, ar 20) ce1 (sc 3) c0 (i_44 + 1)).2)]) w_31 (cg3 (fun (z0 : Int32) (z1 : Int32) (z2 : Int32) => ([(6, .int z0), (0, .ref (b + 0)), (1, .int x), (2, .int c0), (3, .ref (b + (u1 + 40))), (4, .int z1), (5, .int z2)] : List (Nat × Value))) e_28 e_29 e_30) ?_
                exact ih_44
              · skip
                refine v_iload (n := 110) C dX11_bestWind_108 rfl rfl ?_
                refine v_istore (n := 112) (lv' := [(4, .int (nI i_44)), (7, .int (atF (plF (ar 24) (sc 16) (nI i_44) k1 dr1 ((bwQ (ar 24) (sc 16) k1 dr1 (ar 19, ar 20) ce1 (sc 3) i_44)) ce1 (sc 3)).1 c0)), (6, .int (nI i_44)), (0, .ref (b + 0)), (1, .int x), (2, .int c0), (3, .ref (b + (u1 + 40))), (5, .int (bwN (ar 24) (sc 16) k1 dr1 (ar 19, ar 20) ce1 (sc 3) c0 i_44).2)]) C dX11_bestWind_110 rfl (Nat.le_of_ble_eq_true rfl) rfl ?_
                refine v_iload (n := 114) C dX11_bestWind_112 rfl rfl ?_
                refine v_istore (n := 116) (lv' := [(5, .int (atF (plF (ar 24) (sc 16) (nI i_44) k1 dr1 ((bwQ (ar 24) (sc 16) k1 dr1 (ar 19, ar 20) ce1 (sc 3) i_44)) ce1 (sc 3)).1 c0)), (4, .int (nI i_44)), (7, .int (atF (plF (ar 24) (sc 16) (nI i_44) k1 dr1 ((bwQ (ar 24) (sc 16) k1 dr1 (ar 19, ar 20) ce1 (sc 3) i_44)) ce1 (sc 3)).1 c0)), (6, .int (nI i_44)), (0, .ref (b + 0)), (1, .int x), (2, .int c0), (3, .ref (b + (u1 + 40)))]) C dX11_bestWind_114 rfl (Nat.le_of_ble_eq_true rfl) rfl ?_
                refine v_iinc (n := 119) (v := ((nI i_44) + 1)) (lv' := [(6, .int ((nI i_44) + 1)), (5, .int (atF (plF (ar 24) (sc 16) (nI i_44) k1 dr1 ((bwQ (ar 24) (sc 16) k1 dr1 (ar 19, ar 20) ce1 (sc 3) i_44)) ce1 (sc 3)).1 c0)), (4, .int (nI i_44)), (7, .int (atF (plF (ar 24) (sc 16) (nI i_44) k1 dr1 ((bwQ (ar 24) (sc 16) k1 dr1 (ar 19, ar 20) ce1 (sc 3) i_44)) ce1 (sc 3)).1 c0)), (0, .ref (b + 0)), (1, .int x), (2, .int c0), (3, .ref (b + (u1 + 40)))]) C dX11_bestWind_116 rfl rfl rfl (Nat.le_of_ble_eq_true rfl) rfl ?_
                refine v_goto (t := 44) C dX11_bestWind_119 (by decide) ?_
                refine v_pick (lv' := [(6, .int ((nI i_44) + 1)), (0, .ref (b + 0)), (1, .int x), (2, .int c0), (3, .ref (b + (u1 + 40))), (4, .int (nI i_44)), (5, .int (atF (plF (ar 24) (sc 16) (nI i_44) k1 dr1 ((bwQ (ar 24) (sc 16) k1 dr1 (ar 19, ar 20) ce1 (sc 3) i_44)) ce1 (sc 3)).1 c0))]) [0, 4, 5, 6, 7, 2, 1] rfl ?_
                have e_32 : ((nI i_44) + 1) = (nI (i_44 + 1)) := nI_1 _
                have e_33 : ((nI i_44) : Int32) = (bwN (ar 24) (sc 16) k1 dr1 (ar 19, ar 20) ce1 (sc 3) c0 (i_44 + 1)).1 := by first | rfl | (rw [bwN]; simp only [bwQ, hq_1, if_neg p_2, if_pos (Int32.not_le.mp p_2), if_neg p_4, if_pos (Int32.not_lt.mp p_4), if_neg p_6, if_pos (Int32.not_le.mp p_6), if_neg c_8, if_neg g_15, if_pos (Int32.not_lt.mp g_15), if_neg c_16, if_pos (Int32.not_lt.mp c_16), if_neg c_17, if_neg c_22, if_neg c_27, if_pos (Int32.not_le.mp c_27)]; done) | (rw [bwN]; simp only [bwQ, hq_1, eq_false p_2, eq_true (Int32.not_le.mp p_2), eq_false p_4, eq_true (Int32.not_lt.mp p_4), eq_false p_6, eq_true (Int32.not_le.mp p_6), eq_false c_8, eq_false g_15, eq_true (Int32.not_lt.mp g_15), eq_false c_16, eq_true (Int32.not_lt.mp c_16), eq_false c_17, eq_false c_22, eq_false c_27, eq_true (Int32.not_le.mp c_27), ↓reduceIte]; done) | (rw [bwN]; simp only [bwQ, hq_1, eq_false p_2, eq_true (Int32.not_le.mp p_2), eq_false p_4, eq_true (Int32.not_lt.mp p_4), eq_false p_6, eq_true (Int32.not_le.mp p_6), eq_false c_8, eq_false g_15, eq_true (Int32.not_lt.mp g_15), eq_false c_16, eq_true (Int32.not_lt.mp c_16), eq_false c_17, eq_false c_22, eq_false c_27, eq_true (Int32.not_le.mp c_27), ↓reduceIte] <;> rfl) | (rw [bwN]; simp [bwQ, hq_1, p_2, p_4, p_6, c_8, g_15, c_16, c_17, c_22, c_27]; done)
                have e_34 : ((atF (plF (ar 24) (sc 16) (nI i_44) k1 dr1 ((bwQ (ar 24) (sc 16) k1 dr1 (ar 19, ar 20) ce1 (sc 3) i_44)) ce1 (sc 3)).1 c0) : Int32) = (bwN (ar 24) (sc 16) k1 dr1 (ar 19, ar 20) ce1 (sc 3) c0 (i_44 + 1)).2 := by first | rfl | (rw [bwN]; simp only [bwQ, hq_1, if_neg p_2, if_pos (Int32.not_le.mp p_2), if_neg p_4, if_pos (Int32.not_lt.mp p_4), if_neg p_6, if_pos (Int32.not_le.mp p_6), if_neg c_8, if_neg g_15, if_pos (Int32.not_lt.mp g_15), if_neg c_16, if_pos (Int32.not_lt.mp c_16), if_neg c_17, if_neg c_22, if_neg c_27, if_pos (Int32.not_le.mp c_27)]; done) | (rw [bwN]; simp only [bwQ, hq_1, eq_false p_2, eq_true (Int32.not_le.mp p_2), eq_false p_4, eq_true (Int32.not_lt.mp p_4), eq_false p_6, eq_true (Int32.not_le.mp p_6), eq_false c_8, eq_false g_15, eq_true (Int32.not_lt.mp g_15), eq_false c_16, eq_true (Int32.not_lt.mp c_16), eq_false c_17, eq_false c_22, eq_false c_27, eq_true (Int32.not_le.mp c_27), ↓reduceIte]; done) | (rw [bwN]; simp only [bwQ, hq_1, eq_false p_2, eq_true (Int32.not_le.mp p_2), eq_false p_4, eq_true (Int32.not_lt.mp p_4), eq_false p_6, eq_true (Int32.not_le.mp p_6), eq_false c_8, eq_false g_15, eq_true (Int32.not_lt.mp g_15), eq_false c_16, eq_true (Int32.not_lt.mp c_16), eq_false c_17, eq_false c_22, eq_false c_27, eq_true (Int32.not_le.mp c_27), ↓reduceIte] <;> rfl) | (rw [bwN]; simp [bwQ, hq_1, p_2, p_4, p_6, c_8, g_15, c_16, c_17, c_22, c_27]; done)
                have w_35 : (wl D b (va_up (va_up sc 18 (sc 16)) 19 (nI i_44)) (va_up (va_up ar 19 (plF (ar 24) (sc 16) (nI i_44) k1 dr1 ((bwQ (ar 24) (sc 16) k1 dr1 (ar 19, ar 20) ce1 (sc 3) i_44)) ce1 (sc 3)).1) 20 (plF (ar 24) (sc 16) (nI i_44) k1 dr1 ((bwQ (ar 24) (sc 16) k1 dr1 (ar 19, ar 20) ce1 (sc 3) i_44)) ce1 (sc 3)).2) hn mh G) = (wl D b (va_up (va_up sc 18 (sc 16)) 19 (bwR sc (i_44 + 1))) (va_up (va_up ar 19 ((bwQ (ar 24) (sc 16) k1 dr1 (ar 19, ar 20) ce1 (sc 3) (i_44 + 1))).1) 20 ((bwQ (ar 24) (sc 16) k1 dr1 (ar 19, ar 20) ce1 (sc 3) (i_44 + 1))).2) hn mh G) := by first | rfl | (rw [bwN]; simp only [bwQ, hq_1, if_neg p_2, if_pos (Int32.not_le.mp p_2), if_neg p_4, if_pos (Int32.not_lt.mp p_4), if_neg p_6, if_pos (Int32.not_le.mp p_6), if_neg c_8, if_neg g_15, if_pos (Int32.not_lt.mp g_15), if_neg c_16, if_pos (Int32.not_lt.mp c_16), if_neg c_17, if_neg c_22, if_neg c_27, if_pos (Int32.not_le.mp c_27)]; done) | (rw [bwN]; simp only [bwQ, hq_1, eq_false p_2, eq_true (Int32.not_le.mp p_2), eq_false p_4, eq_true (Int32.not_lt.mp p_4), eq_false p_6, eq_true (Int32.not_le.mp p_6), eq_false c_8, eq_false g_15, eq_true (Int32.not_lt.mp g_15), eq_false c_16, eq_true (Int32.not_lt.mp c_16), eq_false c_17, eq_false c_22, eq_false c_27, eq_true (Int32.not_le.mp c_27), ↓reduceIte]; done) | (rw [bwN]; simp only [bwQ, hq_1, eq_false p_2, eq_true (Int32.not_le.mp p_2), eq_false p_4, eq_true (Int32.not_lt.mp p_4), eq_false p_6, eq_true (Int32.not_le.mp p_6), eq_false c_8, eq_false g_15, eq_true (Int32.not_lt.mp g_15), eq_false c_16, eq_true (Int32.not_lt.mp c_16), eq_false c_17, eq_false c_22, eq_false c_27, eq_true (Int32.not_le.mp c_27), ↓reduceIte] <;> rfl) | (rw [bwN]; simp [bwQ, hq_1, p_2, p_4, p_6, c_8, g_15, c_16, c_17, c_22, c_27]; done)
                refine v_cong (es' := (wl D b (va_up (va_up sc 18 (sc 16)) 19 (bwR sc (i_44 + 1))) (va_up (va_up ar 19 ((bwQ (ar 24) (sc 16) k1 dr1 (ar 19, ar 20) ce1 (sc 3) (i_44 + 1))).1) 20 ((bwQ (ar 24) (sc 16) k1 dr1 (ar 19, ar 20) ce1 (sc 3) (i_44 + 1))).2) hn mh G)) (lv' := [(6, .int (nI (i_44 + 1))), (0, .ref (b + 0)), (1, .int x), (2, .int c0), (3, .ref (b + (u1 + 40))), (4, .int (bwN (ar 24) (sc 16) k1 dr1 (ar 19, ar 20) ce1 (sc 3) c0 (i_44 + 1)).1), (5, .int (bwN (ar 24) (sc 16) k1 dr1 (ar 19, ar 20) ce1 (sc 3) c0 (i_44 + 1)).2)]) w_35 (cg3 (fun (z0 : Int32) (z1 : Int32) (z2 : Int32) => ([(6, .int z0), (0, .ref (b + 0)), (1, .int x), (2, .int c0), (3, .ref (b + (u1 + 40))), (4, .int z1), (5, .int z2)] : List (Nat × Value))) e_32 e_33 e_34) ?_
                exact ih_44
    · exact absurd c_8 (by decide)
set_option maxHeartbeats 4000000 in
set_option maxRecDepth 100000 in
theorem c_sail (l : Launch) (D : va_G) (b : Nat) (sc : Nat → Int32) (ar : Nat → Nat → Int32) (hn : Nat → Option Nat) (mh : Int64) (G : List va_E) (x w : Int32) (hv : HV) (hr : HVr hn G hv) : Con l yX11_sail cX11_sail 5 (some .int) 3 71 D b 0 0 (wl D b sc ar hn mh G) [.ref (b + 0), .int x, .int w] (fun r es' => r = some (.int (saS sc ar hv x w).1) ∧ ∃ G', HVr hn G' (saS sc ar hv x w).2.2 ∧ wl D b (saS sc ar hv x w).2.1 ar hn mh G' = es') := by
  refine con_of (by decide) (Nat.le_of_ble_eq_true rfl) (fun p e s m args below meth c C hsz => ?_)
  have C : vC p s m args meth c cX11_sail 5 RX11 "sail" (some .int) D b := C
  change V p l e _ s m args below meth c D b 5 _ 0 0 (wl D b sc ar hn mh G) [(0, .ref (b + 0)), (1, .int x), (2, .int w)] [] 0
  refine v_aload_n (n := 1) C dX11_sail_0 rfl rfl rfl ?_
  refine v_iload_n (n := 2) C dX11_sail_1 rfl rfl rfl ?_
  refine v_go (n := 5) C (vRun_V (As := [.int x]) (rest := []) C wl_c0 rfl lk_X11_133 im_X11_hullNumbered se_X11_hullNumbered dX11_sail_2 (c_hullNumbered l D b sc ar hn mh G x hv hr) wm_X11_hullNumbered rfl rfl ⟨Nat.le_of_ble_eq_true rfl, Nat.le_of_ble_eq_true rfl⟩ ⟨Nat.le_of_ble_eq_true rfl, Nat.le_of_ble_eq_true rfl⟩ (Nat.le_of_ble_eq_true rfl)) rfl ?_
  rintro _ _ ⟨⟨hq_1, rfl⟩ | ⟨k1, dr1, ce1, sa1, u1, hq_1, hu1, hk1, hg1, rfl⟩, rfl⟩ -
  · skip
    refine v_astore_nN (n := 6) (lv' := [(3, .null), (0, .ref (b + 0)), (1, .int x), (2, .int w)]) C dX11_sail_5 rfl rfl (Nat.le_of_ble_eq_true rfl) rfl ?_
    refine v_aload_nN (n := 7) C dX11_sail_6 rfl rfl rfl ?_
    refine v_ifnonnullN (n := 10) C dX11_sail_7 rfl ?_
    refine v_bipush (n := 12) (v := -101) C dX11_sail_10 rfl (by decide) ?_
    exact v_iret C dX11_sail_12 rfl rfl ⟨by first | rfl | (simp only [saS, hq_1]; done) | (simp only [saS, hq_1, ↓reduceIte]; done) | (simp only [saS, hq_1, ↓reduceIte] <;> rfl) | (simp [saS, hq_1]; done), G, by simp only [saS, hq_1, ↓reduceIte]; exact hr, by simp only [saS, hq_1, ↓reduceIte]⟩
  · skip
    refine v_astore_n (n := 6) (lv' := [(3, .ref (b + (u1 + 40))), (0, .ref (b + 0)), (1, .int x), (2, .int w)]) C dX11_sail_5 rfl rfl (Nat.le_of_ble_eq_true rfl) rfl ?_
    refine v_aload_n (n := 7) C dX11_sail_6 rfl rfl rfl ?_
    refine v_ifnonnull (t := 13) C dX11_sail_7 (by decide) ?_
    refine v_iload_n (n := 14) C dX11_sail_13 rfl rfl rfl ?_
    refine v_if_lt (t := 22) (n := 17) C dX11_sail_14 (by decide) rfl (fun c_2 => ?_) (fun c_2 => ?_)
    · skip
      refine v_bipush (n := 24) (v := -102) C dX11_sail_22 rfl (by decide) ?_
      exact v_iret C dX11_sail_24 rfl rfl ⟨by first | rfl | (simp only [saS, hq_1, if_pos c_2, if_neg (Int32.not_le.mpr c_2)]; done) | (simp only [saS, hq_1, eq_true c_2, eq_false (Int32.not_le.mpr c_2), ↓reduceIte]; done) | (simp only [saS, hq_1, eq_true c_2, eq_false (Int32.not_le.mpr c_2), ↓reduceIte] <;> rfl) | (simp [saS, hq_1, c_2]; done), G, by simp only [saS, hq_1, eq_true c_2, eq_false (Int32.not_le.mpr c_2), ↓reduceIte]; exact hr, by simp only [saS, hq_1, eq_true c_2, eq_false (Int32.not_le.mpr c_2), ↓reduceIte]⟩
    · skip
      refine v_iload_n (n := 18) C dX11_sail_17 rfl rfl rfl ?_
      refine v_iconst (n := 19) (v := 4) C dX11_sail_18 rfl (by decide) ?_
      refine v_icmp_lt (t := 25) (n := 22) C dX11_sail_19 (by decide) rfl (fun c_3 => ?_) (fun c_3 => ?_)
      · skip
        refine v_aload_n (n := 26) C dX11_sail_25 rfl rfl rfl ?_
        refine v_get (n := 29) C dX11_sail_26 rfl fl_X11_59_X11 wl_c0 rfl ?_
        refine v_aload_n (n := 30) C dX11_sail_29 rfl rfl rfl ?_
        refine v_aload_n (n := 31) C dX11_sail_30 rfl rfl rfl ?_
        refine v_get (n := 34) C dX11_sail_31 rfl (flk_X11_143 hk1) (wl_tail hg1) rfl ?_
        refine v_iload_n (n := 35) C dX11_sail_34 rfl rfl rfl ?_
        refine v_aload_n (n := 36) C dX11_sail_35 rfl rfl rfl ?_
        refine v_get (n := 39) C dX11_sail_36 rfl fl_X11_106_X11 wl_c0 rfl ?_
        refine v_go (n := 42) C (vRun_V (As := [.ref (b + (u1 + 40)), .int ce1, .int w, .int (sc 3)]) (rest := []) C wl_c25 rfl lk_X11_153 im_X7_hoursToSail se_X7_hoursToSail dX11_sail_39 (c_hoursToSail l D b (wl D b sc ar hn mh G) 25 24 (ar 24) (sc 16) (sc 17) wl_c25 wl_c24 (u1 + 40) k1 dr1 ce1 sa1 hk1 (wl_tail hg1) ce1 w (sc 3)) wm_X7_hoursToSail rfl rfl ⟨Nat.le_of_ble_eq_true rfl, Nat.le_of_ble_eq_true rfl⟩ ⟨Nat.le_of_ble_eq_true rfl, Nat.le_of_ble_eq_true rfl⟩ (Nat.le_of_ble_eq_true rfl)) rfl ?_
        rintro _ _ ⟨rfl, rfl⟩ -
        refine v_istore (n := 44) (lv' := [(4, .int (htF (ar 24) (sc 16) (sc 17) k1 dr1 ce1 w (sc 3))), (3, .ref (b + (u1 + 40))), (0, .ref (b + 0)), (1, .int x), (2, .int w)]) C dX11_sail_42 rfl (Nat.le_of_ble_eq_true rfl) rfl ?_
        refine v_iload (n := 46) C dX11_sail_44 rfl rfl ?_
        refine v_iconst (n := 47) (v := -1) C dX11_sail_46 rfl (by decide) ?_
        refine v_icmp_eq (t := 63) (n := 50) C dX11_sail_47 (by decide) rfl (fun c_4 => ?_) (fun c_4 => ?_)
        · skip
          refine v_bipush (n := 65) (v := -103) C dX11_sail_63 rfl (by decide) ?_
          exact v_iret C dX11_sail_65 rfl rfl ⟨by first | rfl | (simp only [saS, hq_1, if_neg c_2, if_pos (Int32.not_lt.mp c_2), if_pos c_3, if_neg (Int32.not_le.mpr c_3), if_pos c_4]; done) | (simp only [saS, hq_1, eq_false c_2, eq_true (Int32.not_lt.mp c_2), eq_true c_3, eq_false (Int32.not_le.mpr c_3), eq_true c_4, ↓reduceIte]; done) | (simp only [saS, hq_1, eq_false c_2, eq_true (Int32.not_lt.mp c_2), eq_true c_3, eq_false (Int32.not_le.mpr c_3), eq_true c_4, ↓reduceIte] <;> rfl) | (simp [saS, hq_1, c_2, c_3, c_4]; done), G, by simp only [saS, hq_1, eq_false c_2, eq_true (Int32.not_lt.mp c_2), eq_true c_3, eq_false (Int32.not_le.mpr c_3), eq_true c_4, ↓reduceIte]; exact hr, by simp only [saS, hq_1, eq_false c_2, eq_true (Int32.not_lt.mp c_2), eq_true c_3, eq_false (Int32.not_le.mpr c_3), eq_true c_4, ↓reduceIte]⟩
        · skip
          refine v_aload_n (n := 51) C dX11_sail_50 rfl rfl rfl ?_
          refine v_get (n := 54) C dX11_sail_51 rfl fl_X11_106_X11 wl_c0 rfl ?_
          refine v_iload (n := 56) C dX11_sail_54 rfl rfl ?_
          refine v_iadd (n := 57) C dX11_sail_56 rfl ?_
          refine v_sipush (n := 60) (v := 999) C dX11_sail_57 rfl (by decide) ?_
          refine v_icmp_le (t := 66) (n := 63) C dX11_sail_60 (by decide) rfl (fun c_5 => ?_) (fun c_5 => ?_)
          · skip
            refine v_aload_n (n := 67) C dX11_sail_66 rfl rfl rfl ?_
            refine v_aload_n (n := 68) C dX11_sail_67 rfl rfl rfl ?_
            refine v_get (n := 71) C dX11_sail_68 rfl (flk_X11_143 hk1) (wl_tail hg1) rfl ?_
            refine v_iload_n (n := 72) C dX11_sail_71 rfl rfl rfl ?_
            refine v_go (n := 75) C (vRun_S (As := [.int ce1, .int w]) (rest := [.ref (b + (u1 + 40))]) C lk_X11_161 st_X11_beside dX11_sail_72 (c_beside l D b (wl D b sc ar hn mh G) ce1 w) wm_X11_beside rfl rfl ⟨Nat.le_of_ble_eq_true rfl, Nat.le_of_ble_eq_true rfl⟩ ⟨Nat.le_of_ble_eq_true rfl, Nat.le_of_ble_eq_true rfl⟩ (Nat.le_of_ble_eq_true rfl)) rfl ?_
            rintro _ _ ⟨rfl, rfl⟩ -
            refine v_put (n := 78) (es' := (wl D b sc ar hn mh (List.set G u1 (hcl k1 dr1 (beF ce1 w) sa1)))) C dX11_sail_75 rfl (flk_X11_143 hk1) (fp_any (fpk_1 hk1)) (wl_tail hg1) rfl rfl (Nat.le_of_ble_eq_true rfl) wl_t ?_
            refine v_aload_n (n := 79) C dX11_sail_78 rfl rfl rfl ?_
            refine v_dup (n := 80) C dX11_sail_79 rfl rfl ?_
            refine v_get (n := 83) C dX11_sail_80 rfl (flk_X11_150 hk1) (wl_tail (gset_self hg1)) rfl ?_
            refine v_iload (n := 85) C dX11_sail_83 rfl rfl ?_
            refine v_iadd (n := 86) C dX11_sail_85 rfl ?_
            refine v_put (n := 89) (es' := (wl D b sc ar hn mh (List.set (List.set G u1 (hcl k1 dr1 (beF ce1 w) sa1)) u1 (hcl k1 dr1 (beF ce1 w) (sa1 + (htF (ar 24) (sc 16) (sc 17) k1 dr1 ce1 w (sc 3))))))) C dX11_sail_86 rfl (flk_X11_150 hk1) (fp_any (fpk_2 hk1)) (wl_tail (gset_self hg1)) rfl rfl (Nat.le_of_ble_eq_true rfl) wl_t ?_
            refine v_aload_n (n := 90) C dX11_sail_89 rfl rfl rfl ?_
            refine v_dup (n := 91) C dX11_sail_90 rfl rfl ?_
            refine v_get (n := 94) C dX11_sail_91 rfl fl_X11_106_X11 wl_c0 rfl ?_
            refine v_iload (n := 96) C dX11_sail_94 rfl rfl ?_
            refine v_iadd (n := 97) C dX11_sail_96 rfl ?_
            refine v_put (n := 100) (es' := (wl D b (va_up sc 3 ((sc 3) + (htF (ar 24) (sc 16) (sc 17) k1 dr1 ce1 w (sc 3)))) ar hn mh (List.set (List.set G u1 (hcl k1 dr1 (beF ce1 w) sa1)) u1 (hcl k1 dr1 (beF ce1 w) (sa1 + (htF (ar 24) (sc 16) (sc 17) k1 dr1 ce1 w (sc 3))))))) C dX11_sail_97 rfl fl_X11_106_X11 (fp_any fp_X11_7) wl_c0 rfl rfl (Nat.le_of_ble_eq_true rfl) wl_p0_7 ?_
            refine v_aload_n (n := 101) C dX11_sail_100 rfl rfl rfl ?_
            refine v_get (n := 104) C dX11_sail_101 rfl fl_X11_106_X11 (show (wl D b (va_up sc 3 ((sc 3) + (htF (ar 24) (sc 16) (sc 17) k1 dr1 ce1 w (sc 3)))) ar hn mh (List.set (List.set G u1 (hcl k1 dr1 (beF ce1 w) sa1)) u1 (hcl k1 dr1 (beF ce1 w) (sa1 + (htF (ar 24) (sc 16) (sc 17) k1 dr1 ce1 w (sc 3))))))[0]? = some (.inr (11, [.ref (b + 1), .int (sc 0), .int (sc 1), .ref (b + 25), .ref (b + 26), .ref (b + 2), .int (sc 2), .int ((sc 3) + (htF (ar 24) (sc 16) (sc 17) k1 dr1 ce1 w (sc 3))), .ref (b + 3), .ref (b + 9), .ref (b + 18), .ref (b + 21), .ref (b + 22)])) from wl_c0) rfl ?_
            exact v_iret C dX11_sail_104 rfl rfl ⟨by first | rfl | (simp only [saS, hq_1, if_neg c_2, if_pos (Int32.not_lt.mp c_2), if_pos c_3, if_neg (Int32.not_le.mpr c_3), if_neg c_4, if_pos c_5, if_neg (Int32.not_lt.mpr c_5)]; done) | (simp only [saS, hq_1, eq_false c_2, eq_true (Int32.not_lt.mp c_2), eq_true c_3, eq_false (Int32.not_le.mpr c_3), eq_false c_4, eq_true c_5, eq_false (Int32.not_lt.mpr c_5), ↓reduceIte]; done) | (simp only [saS, hq_1, eq_false c_2, eq_true (Int32.not_lt.mp c_2), eq_true c_3, eq_false (Int32.not_le.mpr c_3), eq_false c_4, eq_true c_5, eq_false (Int32.not_lt.mpr c_5), ↓reduceIte] <;> rfl) | (simp [saS, hq_1, c_2, c_3, c_4, c_5]; done), (List.set (List.set G u1 (hcl k1 dr1 (beF ce1 w) sa1)) u1 (hcl k1 dr1 (beF ce1 w) (sa1 + (htF (ar 24) (sc 16) (sc 17) k1 dr1 ce1 w (sc 3))))), by simp only [saS, hq_1, eq_false c_2, eq_true (Int32.not_lt.mp c_2), eq_true c_3, eq_false (Int32.not_le.mpr c_3), eq_false c_4, eq_true c_5, eq_false (Int32.not_lt.mpr c_5), ↓reduceIte, List.set_set]; exact HVr_set hr hu1 hk1 hg1, by simp only [saS, hq_1, eq_false c_2, eq_true (Int32.not_lt.mp c_2), eq_true c_3, eq_false (Int32.not_le.mpr c_3), eq_false c_4, eq_true c_5, eq_false (Int32.not_lt.mpr c_5), ↓reduceIte]⟩
          · skip
            refine v_bipush (n := 65) (v := -103) C dX11_sail_63 rfl (by decide) ?_
            exact v_iret C dX11_sail_65 rfl rfl ⟨by first | rfl | (simp only [saS, hq_1, if_neg c_2, if_pos (Int32.not_lt.mp c_2), if_pos c_3, if_neg (Int32.not_le.mpr c_3), if_neg c_4, if_neg c_5, if_pos (Int32.not_le.mp c_5)]; done) | (simp only [saS, hq_1, eq_false c_2, eq_true (Int32.not_lt.mp c_2), eq_true c_3, eq_false (Int32.not_le.mpr c_3), eq_false c_4, eq_false c_5, eq_true (Int32.not_le.mp c_5), ↓reduceIte]; done) | (simp only [saS, hq_1, eq_false c_2, eq_true (Int32.not_lt.mp c_2), eq_true c_3, eq_false (Int32.not_le.mpr c_3), eq_false c_4, eq_false c_5, eq_true (Int32.not_le.mp c_5), ↓reduceIte] <;> rfl) | (simp [saS, hq_1, c_2, c_3, c_4, c_5]; done), G, by simp only [saS, hq_1, eq_false c_2, eq_true (Int32.not_lt.mp c_2), eq_true c_3, eq_false (Int32.not_le.mpr c_3), eq_false c_4, eq_false c_5, eq_true (Int32.not_le.mp c_5), ↓reduceIte]; exact hr, by simp only [saS, hq_1, eq_false c_2, eq_true (Int32.not_lt.mp c_2), eq_true c_3, eq_false (Int32.not_le.mpr c_3), eq_false c_4, eq_false c_5, eq_true (Int32.not_le.mp c_5), ↓reduceIte]⟩
      · skip
        refine v_bipush (n := 24) (v := -102) C dX11_sail_22 rfl (by decide) ?_
        exact v_iret C dX11_sail_24 rfl rfl ⟨by first | rfl | (simp only [saS, hq_1, if_neg c_2, if_pos (Int32.not_lt.mp c_2), if_neg c_3, if_pos (Int32.not_lt.mp c_3)]; done) | (simp only [saS, hq_1, eq_false c_2, eq_true (Int32.not_lt.mp c_2), eq_false c_3, eq_true (Int32.not_lt.mp c_3), ↓reduceIte]; done) | (simp only [saS, hq_1, eq_false c_2, eq_true (Int32.not_lt.mp c_2), eq_false c_3, eq_true (Int32.not_lt.mp c_3), ↓reduceIte] <;> rfl) | (simp [saS, hq_1, c_2, c_3]; done), G, by simp only [saS, hq_1, eq_false c_2, eq_true (Int32.not_lt.mp c_2), eq_false c_3, eq_true (Int32.not_lt.mp c_3), ↓reduceIte]; exact hr, by simp only [saS, hq_1, eq_false c_2, eq_true (Int32.not_lt.mp c_2), eq_false c_3, eq_true (Int32.not_lt.mp c_3), ↓reduceIte]⟩
