theorem eset_self {es : List va_E} {j : Nat} {e e0 : va_E} (h : es[j]? = some e0) : (es.set j e)[j]? = some e := List.getElem?_set_self (List.getElem?_eq_some_iff.mp h).1
theorem lset2 {es : List va_E} {j : Nat} {a b : va_E} : (es.set j a).set j b = es.set j b := List.set_set _
set_option maxHeartbeats 4000000 in
set_option maxRecDepth 100000 in
theorem c_Hull_init (l : Launch) (D : va_G) (b : Nat) (es : List va_E) (j k : Nat) (d0 c0 s0 x y : Int32) (hk : k < 5) (he : es[j]? = some (hcl k d0 c0 s0)) : Con l yX4_init cX4_init 3 none 1 20 D b 0 0 es [.ref (b + j), .int x, .int y] (fun r es' => r = none ∧ es.set j (hcl k x y s0) = es') := by
  refine con_of (by decide) (Nat.le_of_ble_eq_true rfl) (fun p e s m args below meth c C hsz => ?_)
  have C : vC p s m args meth c cX4_init 3 RX4 "<init>" none D b := C
  change V p l e _ s m args below meth c D b 3 _ 0 0 es [(0, .ref (b + j)), (1, .int x), (2, .int y)] [] 0
  refine v_aload_n (n := 1) C dX4_init_0 rfl rfl rfl ?_
  refine v_oinit (n := 4) C dX4_init_1 rfl lk_X4_3 im_objectInit wc_objectInit (Nat.le_of_ble_eq_true rfl) (Nat.le_of_ble_eq_true rfl) ?_
  refine v_aload_n (n := 5) C dX4_init_4 rfl rfl rfl ?_
  refine v_iload_n (n := 6) C dX4_init_5 rfl rfl rfl ?_
  refine v_putF (n := 9) (es' := (List.set es j (hcl k x c0 s0))) C rfl dX4_init_6 rfl (flk_X4_9 hk) (fpk_0 hk) he rfl rfl (Nat.le_of_ble_eq_true rfl) rfl ?_
  refine v_aload_n (n := 10) C dX4_init_9 rfl rfl rfl ?_
  refine v_iload_n (n := 11) C dX4_init_10 rfl rfl rfl ?_
  refine v_put (n := 14) (es' := (List.set (List.set es j (hcl k x c0 s0)) j (hcl k x y s0))) C dX4_init_11 rfl (flk_X4_15 hk) (fp_any (fpk_1 hk)) (eset_self he) rfl rfl (Nat.le_of_ble_eq_true rfl) rfl ?_
  exact v_vret C dX4_init_14 rfl ⟨rfl, by first | rfl | exact lset2.symm⟩
set_option maxHeartbeats 4000000 in
set_option maxRecDepth 100000 in
theorem c_Sloop_init (l : Launch) (D : va_G) (b : Nat) (es : List va_E) (j k : Nat) (d0 c0 s0 x y : Int32) (hk : k < 5) (he : es[j]? = some (hcl k d0 c0 s0)) : Con l yX10_init cX10_init 3 none 2 42 D b 0 0 es [.ref (b + j), .int x, .int y] (fun r es' => r = none ∧ es.set j (hcl k x y s0) = es') := by
  refine con_of (by decide) (Nat.le_of_ble_eq_true rfl) (fun p e s m args below meth c C hsz => ?_)
  have C : vC p s m args meth c cX10_init 3 RX10 "<init>" none D b := C
  change V p l e _ s m args below meth c D b 3 _ 0 0 es [(0, .ref (b + j)), (1, .int x), (2, .int y)] [] 0
  refine v_aload_n (n := 1) C dX10_init_0 rfl rfl rfl ?_
  refine v_iload_n (n := 2) C dX10_init_1 rfl rfl rfl ?_
  refine v_iload_n (n := 3) C dX10_init_2 rfl rfl rfl ?_
  refine v_go (n := 6) C (vRun_I (As := [.int x, .int y]) (rest := []) C rfl lk_X10_1 im_X4_init dX10_init_3 (c_Hull_init l D b es j k d0 c0 s0 x y hk he) wm_X4_init rfl rfl ⟨Nat.le_of_ble_eq_true rfl, Nat.le_of_ble_eq_true rfl⟩ ⟨Nat.le_of_ble_eq_true rfl, Nat.le_of_ble_eq_true rfl⟩ (Nat.le_of_ble_eq_true rfl)) rfl ?_
  rintro _ _ ⟨rfl, rfl⟩ -
  exact v_vret C dX10_init_6 rfl ⟨rfl, by first | rfl | exact lset2.symm⟩
set_option maxHeartbeats 4000000 in
set_option maxRecDepth 100000 in
theorem c_Galley_init (l : Launch) (D : va_G) (b : Nat) (es : List va_E) (j k : Nat) (d0 c0 s0 x y : Int32) (hk : k < 5) (he : es[j]? = some (hcl k d0 c0 s0)) : Con l yX2_init cX2_init 3 none 2 42 D b 0 0 es [.ref (b + j), .int x, .int y] (fun r es' => r = none ∧ es.set j (hcl k x y s0) = es') := by
  refine con_of (by decide) (Nat.le_of_ble_eq_true rfl) (fun p e s m args below meth c C hsz => ?_)
  have C : vC p s m args meth c cX2_init 3 RX2 "<init>" none D b := C
  change V p l e _ s m args below meth c D b 3 _ 0 0 es [(0, .ref (b + j)), (1, .int x), (2, .int y)] [] 0
  refine v_aload_n (n := 1) C dX2_init_0 rfl rfl rfl ?_
  refine v_iload_n (n := 2) C dX2_init_1 rfl rfl rfl ?_
  refine v_iload_n (n := 3) C dX2_init_2 rfl rfl rfl ?_
  refine v_go (n := 6) C (vRun_I (As := [.int x, .int y]) (rest := []) C rfl lk_X2_1 im_X4_init dX2_init_3 (c_Hull_init l D b es j k d0 c0 s0 x y hk he) wm_X4_init rfl rfl ⟨Nat.le_of_ble_eq_true rfl, Nat.le_of_ble_eq_true rfl⟩ ⟨Nat.le_of_ble_eq_true rfl, Nat.le_of_ble_eq_true rfl⟩ (Nat.le_of_ble_eq_true rfl)) rfl ?_
  rintro _ _ ⟨rfl, rfl⟩ -
  exact v_vret C dX2_init_6 rfl ⟨rfl, by first | rfl | exact lset2.symm⟩
set_option maxHeartbeats 4000000 in
set_option maxRecDepth 100000 in
theorem c_Sled_init (l : Launch) (D : va_G) (b : Nat) (es : List va_E) (j k : Nat) (d0 c0 s0 x y : Int32) (hk : k < 5) (he : es[j]? = some (hcl k d0 c0 s0)) : Con l yX9_init cX9_init 3 none 2 42 D b 0 0 es [.ref (b + j), .int x, .int y] (fun r es' => r = none ∧ es.set j (hcl k x y s0) = es') := by
  refine con_of (by decide) (Nat.le_of_ble_eq_true rfl) (fun p e s m args below meth c C hsz => ?_)
  have C : vC p s m args meth c cX9_init 3 RX9 "<init>" none D b := C
  change V p l e _ s m args below meth c D b 3 _ 0 0 es [(0, .ref (b + j)), (1, .int x), (2, .int y)] [] 0
  refine v_aload_n (n := 1) C dX9_init_0 rfl rfl rfl ?_
  refine v_iload_n (n := 2) C dX9_init_1 rfl rfl rfl ?_
  refine v_iload_n (n := 3) C dX9_init_2 rfl rfl rfl ?_
  refine v_go (n := 6) C (vRun_I (As := [.int x, .int y]) (rest := []) C rfl lk_X9_1 im_X4_init dX9_init_3 (c_Hull_init l D b es j k d0 c0 s0 x y hk he) wm_X4_init rfl rfl ⟨Nat.le_of_ble_eq_true rfl, Nat.le_of_ble_eq_true rfl⟩ ⟨Nat.le_of_ble_eq_true rfl, Nat.le_of_ble_eq_true rfl⟩ (Nat.le_of_ble_eq_true rfl)) rfl ?_
  rintro _ _ ⟨rfl, rfl⟩ -
  exact v_vret C dX9_init_6 rfl ⟨rfl, by first | rfl | exact lset2.symm⟩
set_option maxHeartbeats 4000000 in
set_option maxRecDepth 100000 in
theorem c_Cutter_init (l : Launch) (D : va_G) (b : Nat) (es : List va_E) (j k : Nat) (d0 c0 s0 x y : Int32) (hk : k < 5) (he : es[j]? = some (hcl k d0 c0 s0)) : Con l yX1_init cX1_init 3 none 3 64 D b 0 0 es [.ref (b + j), .int x, .int y] (fun r es' => r = none ∧ es.set j (hcl k x y s0) = es') := by
  refine con_of (by decide) (Nat.le_of_ble_eq_true rfl) (fun p e s m args below meth c C hsz => ?_)
  have C : vC p s m args meth c cX1_init 3 RX1 "<init>" none D b := C
  change V p l e _ s m args below meth c D b 3 _ 0 0 es [(0, .ref (b + j)), (1, .int x), (2, .int y)] [] 0
  refine v_aload_n (n := 1) C dX1_init_0 rfl rfl rfl ?_
  refine v_iload_n (n := 2) C dX1_init_1 rfl rfl rfl ?_
  refine v_iload_n (n := 3) C dX1_init_2 rfl rfl rfl ?_
  refine v_go (n := 6) C (vRun_I (As := [.int x, .int y]) (rest := []) C rfl lk_X1_1 im_X10_init dX1_init_3 (c_Sloop_init l D b es j k d0 c0 s0 x y hk he) wm_X10_init rfl rfl ⟨Nat.le_of_ble_eq_true rfl, Nat.le_of_ble_eq_true rfl⟩ ⟨Nat.le_of_ble_eq_true rfl, Nat.le_of_ble_eq_true rfl⟩ (Nat.le_of_ble_eq_true rfl)) rfl ?_
  rintro _ _ ⟨rfl, rfl⟩ -
  exact v_vret C dX1_init_6 rfl ⟨rfl, by first | rfl | exact lset2.symm⟩
theorem gpush {G : List va_E} {e : va_E} : (G ++ [e])[G.length]? = some e := by simp
theorem wl_new {D : va_G} {b : Nat} {sc : Nat → Int32} {ar : Nat → Nat → Int32} {hn : Nat → Option Nat} {mh : Int64} {G : List va_E} {e e' : va_E} : (wl D b sc ar hn mh (G ++ [e])).set (G.length + 40) e' = wl D b sc ar hn mh (G ++ [e']) := by
  rw [wl_t]
  congr 1
  simp
def buK (w : Int32) : Nat := if w = 1 then 1 else if w = 2 then 2 else if w = 3 then 3 else if w = 4 then 4 else 0
set_option maxHeartbeats 4000000 in
set_option maxRecDepth 100000 in
theorem c_built (l : Launch) (D : va_G) (b : Nat) (sc : Nat → Int32) (ar : Nat → Nat → Int32) (hn : Nat → Option Nat) (mh : Int64) (G : List va_E) (w x y : Int32) : Con l yX11_built cX11_built 3 (some (.object "WheatSea$Hull")) 4 86 D b 1 3 (wl D b sc ar hn mh G) [.int w, .int x, .int y] (fun r es' => r = some (.ref (b + (G.length + 40))) ∧ wl D b sc ar hn mh (G ++ [hcl (buK w) x y 0]) = es') := by
  refine con_of (by decide) (Nat.le_of_ble_eq_true rfl) (fun p e s m args below meth c C hsz => ?_)
  have C : vC p s m args meth c cX11_built 3 RX11 "built" (some (.object "WheatSea$Hull")) D b := C
  change V p l e _ s m args below meth c D b 3 _ 0 0 (wl D b sc ar hn mh G) [(0, .int w), (1, .int x), (2, .int y)] [] 0
  refine v_iload_n (n := 1) C dX11_built_0 rfl rfl rfl ?_
  by_cases c_5 : w = 1
  · refine v_tableIn (t := 32) C dX11_built_1 (by rw [c_5]; decide) (by rw [c_5]; decide) (by rw [c_5]; rfl) (by decide) ?_
    refine v_new (n := 35) (es' := wl D b sc ar hn mh (G ++ [hcl 1 0 0 0])) C dX11_built_32 rfl nw_X11_266 ⟨Nat.le_of_ble_eq_true rfl, Nat.le_of_ble_eq_true rfl⟩ rfl ?_
    refine v_stk (st' := .ref (b + (G.length + 40)) :: []) rfl ?_
    refine v_dup (n := 36) C dX11_built_35 rfl rfl ?_
    refine v_iload_n (n := 37) C dX11_built_36 rfl rfl rfl ?_
    refine v_iload_n (n := 38) C dX11_built_37 rfl rfl rfl ?_
    refine v_go (n := 41) C (vRun_I (As := [.int x, .int y]) (rest := [.ref (b + (G.length + 40))]) C rfl lk_X11_268 im_X10_init dX11_built_38 (c_Sloop_init l D b (wl D b sc ar hn mh (G ++ [hcl 1 0 0 0])) (G.length + 40) 1 0 0 0 x y (by decide) (wl_tail gpush)) wm_X10_init rfl rfl ⟨Nat.le_of_ble_eq_true rfl, Nat.le_of_ble_eq_true rfl⟩ ⟨Nat.le_of_ble_eq_true rfl, Nat.le_of_ble_eq_true rfl⟩ (Nat.le_of_ble_eq_true rfl)) rfl ?_
    rintro _ _ ⟨rfl, rfl⟩ -
    refine v_cong (es' := wl D b sc ar hn mh (G ++ [hcl 1 x y 0])) (lv' := [(0, .int w), (1, .int x), (2, .int y)]) wl_new rfl ?_
    exact v_aret C dX11_built_41 rfl (Or.inl ⟨_, rfl⟩) (Or.inr ⟨_, rfl⟩) ⟨rfl, by first | (simp only [buK, eq_true c_5, ↓reduceIte]; done) | (simp only [buK, eq_true c_5, ↓reduceIte] <;> rfl)⟩
  by_cases c_6 : w = 2
  · refine v_tableIn (t := 42) C dX11_built_1 (by rw [c_6]; decide) (by rw [c_6]; decide) (by rw [c_6]; rfl) (by decide) ?_
    refine v_new (n := 45) (es' := wl D b sc ar hn mh (G ++ [hcl 2 0 0 0])) C dX11_built_42 rfl nw_X11_270 ⟨Nat.le_of_ble_eq_true rfl, Nat.le_of_ble_eq_true rfl⟩ rfl ?_
    refine v_stk (st' := .ref (b + (G.length + 40)) :: []) rfl ?_
    refine v_dup (n := 46) C dX11_built_45 rfl rfl ?_
    refine v_iload_n (n := 47) C dX11_built_46 rfl rfl rfl ?_
    refine v_iload_n (n := 48) C dX11_built_47 rfl rfl rfl ?_
    refine v_go (n := 51) C (vRun_I (As := [.int x, .int y]) (rest := [.ref (b + (G.length + 40))]) C rfl lk_X11_272 im_X2_init dX11_built_48 (c_Galley_init l D b (wl D b sc ar hn mh (G ++ [hcl 2 0 0 0])) (G.length + 40) 2 0 0 0 x y (by decide) (wl_tail gpush)) wm_X2_init rfl rfl ⟨Nat.le_of_ble_eq_true rfl, Nat.le_of_ble_eq_true rfl⟩ ⟨Nat.le_of_ble_eq_true rfl, Nat.le_of_ble_eq_true rfl⟩ (Nat.le_of_ble_eq_true rfl)) rfl ?_
    rintro _ _ ⟨rfl, rfl⟩ -
    refine v_cong (es' := wl D b sc ar hn mh (G ++ [hcl 2 x y 0])) (lv' := [(0, .int w), (1, .int x), (2, .int y)]) wl_new rfl ?_
    exact v_aret C dX11_built_51 rfl (Or.inl ⟨_, rfl⟩) (Or.inr ⟨_, rfl⟩) ⟨rfl, by first | (simp only [buK, eq_false c_5, eq_true c_6, ↓reduceIte]; done) | (simp only [buK, eq_false c_5, eq_true c_6, ↓reduceIte] <;> rfl)⟩
  by_cases c_7 : w = 3
  · refine v_tableIn (t := 52) C dX11_built_1 (by rw [c_7]; decide) (by rw [c_7]; decide) (by rw [c_7]; rfl) (by decide) ?_
    refine v_new (n := 55) (es' := wl D b sc ar hn mh (G ++ [hcl 3 0 0 0])) C dX11_built_52 rfl nw_X11_273 ⟨Nat.le_of_ble_eq_true rfl, Nat.le_of_ble_eq_true rfl⟩ rfl ?_
    refine v_stk (st' := .ref (b + (G.length + 40)) :: []) rfl ?_
    refine v_dup (n := 56) C dX11_built_55 rfl rfl ?_
    refine v_iload_n (n := 57) C dX11_built_56 rfl rfl rfl ?_
    refine v_iload_n (n := 58) C dX11_built_57 rfl rfl rfl ?_
    refine v_go (n := 61) C (vRun_I (As := [.int x, .int y]) (rest := [.ref (b + (G.length + 40))]) C rfl lk_X11_275 im_X9_init dX11_built_58 (c_Sled_init l D b (wl D b sc ar hn mh (G ++ [hcl 3 0 0 0])) (G.length + 40) 3 0 0 0 x y (by decide) (wl_tail gpush)) wm_X9_init rfl rfl ⟨Nat.le_of_ble_eq_true rfl, Nat.le_of_ble_eq_true rfl⟩ ⟨Nat.le_of_ble_eq_true rfl, Nat.le_of_ble_eq_true rfl⟩ (Nat.le_of_ble_eq_true rfl)) rfl ?_
    rintro _ _ ⟨rfl, rfl⟩ -
    refine v_cong (es' := wl D b sc ar hn mh (G ++ [hcl 3 x y 0])) (lv' := [(0, .int w), (1, .int x), (2, .int y)]) wl_new rfl ?_
    exact v_aret C dX11_built_61 rfl (Or.inl ⟨_, rfl⟩) (Or.inr ⟨_, rfl⟩) ⟨rfl, by first | (simp only [buK, eq_false c_5, eq_false c_6, eq_true c_7, ↓reduceIte]; done) | (simp only [buK, eq_false c_5, eq_false c_6, eq_true c_7, ↓reduceIte] <;> rfl)⟩
  by_cases c_8 : w = 4
  · refine v_tableIn (t := 62) C dX11_built_1 (by rw [c_8]; decide) (by rw [c_8]; decide) (by rw [c_8]; rfl) (by decide) ?_
    refine v_new (n := 65) (es' := wl D b sc ar hn mh (G ++ [hcl 4 0 0 0])) C dX11_built_62 rfl nw_X11_276 ⟨Nat.le_of_ble_eq_true rfl, Nat.le_of_ble_eq_true rfl⟩ rfl ?_
    refine v_stk (st' := .ref (b + (G.length + 40)) :: []) rfl ?_
    refine v_dup (n := 66) C dX11_built_65 rfl rfl ?_
    refine v_iload_n (n := 67) C dX11_built_66 rfl rfl rfl ?_
    refine v_iload_n (n := 68) C dX11_built_67 rfl rfl rfl ?_
    refine v_go (n := 71) C (vRun_I (As := [.int x, .int y]) (rest := [.ref (b + (G.length + 40))]) C rfl lk_X11_278 im_X1_init dX11_built_68 (c_Cutter_init l D b (wl D b sc ar hn mh (G ++ [hcl 4 0 0 0])) (G.length + 40) 4 0 0 0 x y (by decide) (wl_tail gpush)) wm_X1_init rfl rfl ⟨Nat.le_of_ble_eq_true rfl, Nat.le_of_ble_eq_true rfl⟩ ⟨Nat.le_of_ble_eq_true rfl, Nat.le_of_ble_eq_true rfl⟩ (Nat.le_of_ble_eq_true rfl)) rfl ?_
    rintro _ _ ⟨rfl, rfl⟩ -
    refine v_cong (es' := wl D b sc ar hn mh (G ++ [hcl 4 x y 0])) (lv' := [(0, .int w), (1, .int x), (2, .int y)]) wl_new rfl ?_
    exact v_aret C dX11_built_71 rfl (Or.inl ⟨_, rfl⟩) (Or.inr ⟨_, rfl⟩) ⟨rfl, by first | (simp only [buK, eq_false c_5, eq_false c_6, eq_false c_7, eq_true c_8, ↓reduceIte]; done) | (simp only [buK, eq_false c_5, eq_false c_6, eq_false c_7, eq_true c_8, ↓reduceIte] <;> rfl)⟩
  refine v_tableOut (t := 72) C dX11_built_1 (sw_o14 c_5 c_6 c_7 c_8) (by decide) ?_
  refine v_new (n := 75) (es' := wl D b sc ar hn mh (G ++ [hcl 0 0 0 0])) C dX11_built_72 rfl nw_X11_13 ⟨Nat.le_of_ble_eq_true rfl, Nat.le_of_ble_eq_true rfl⟩ rfl ?_
  refine v_stk (st' := .ref (b + (G.length + 40)) :: []) rfl ?_
  refine v_dup (n := 76) C dX11_built_75 rfl rfl ?_
  refine v_iload_n (n := 77) C dX11_built_76 rfl rfl rfl ?_
  refine v_iload_n (n := 78) C dX11_built_77 rfl rfl rfl ?_
  refine v_go (n := 81) C (vRun_I (As := [.int x, .int y]) (rest := [.ref (b + (G.length + 40))]) C rfl lk_X11_279 im_X4_init dX11_built_78 (c_Hull_init l D b (wl D b sc ar hn mh (G ++ [hcl 0 0 0 0])) (G.length + 40) 0 0 0 0 x y (by decide) (wl_tail gpush)) wm_X4_init rfl rfl ⟨Nat.le_of_ble_eq_true rfl, Nat.le_of_ble_eq_true rfl⟩ ⟨Nat.le_of_ble_eq_true rfl, Nat.le_of_ble_eq_true rfl⟩ (Nat.le_of_ble_eq_true rfl)) rfl ?_
  rintro _ _ ⟨rfl, rfl⟩ -
  refine v_cong (es' := wl D b sc ar hn mh (G ++ [hcl 0 x y 0])) (lv' := [(0, .int w), (1, .int x), (2, .int y)]) wl_new rfl ?_
  exact v_aret C dX11_built_81 rfl (Or.inl ⟨_, rfl⟩) (Or.inr ⟨_, rfl⟩) ⟨rfl, by first | (simp only [buK, eq_false c_5, eq_false c_6, eq_false c_7, eq_false c_8, ↓reduceIte]; done) | (simp only [buK, eq_false c_5, eq_false c_6, eq_false c_7, eq_false c_8, ↓reduceIte] <;> rfl)⟩
