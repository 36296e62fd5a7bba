/-- what later calls can see: all but the scratch numbers and rows -/
def scrS : List Nat := [10, 11, 12, 13, 14, 15, 18, 19]
def scrA : List Nat := [7, 8, 14, 15, 19, 20, 23]
def Per (sc : Nat → Int32) (ar : Nat → Nat → Int32) (sc' : Nat → Int32) (ar' : Nat → Nat → Int32) : Prop := (∀ i, i ∉ scrS → sc' i = sc i) ∧ (∀ k, k ∉ scrA → ar' k = ar k)
theorem Per_rf {sc : Nat → Int32} {ar : Nat → Nat → Int32} : Per sc ar sc ar := ⟨fun _ _ => rfl, fun _ _ => rfl⟩
theorem Per_s {sc sc' : Nat → Int32} {ar ar' : Nat → Nat → Int32} {i : Nat} {v : Int32} (hi : i ∈ scrS) (h : Per sc ar sc' ar') : Per sc ar (va_up sc' i v) ar' := ⟨fun j hj => by
  rw [va_up, if_neg (fun (q : j = i) => hj (by rw [q]; exact hi))]; exact h.1 j hj, h.2⟩
theorem Per_a {sc sc' : Nat → Int32} {ar ar' : Nat → Nat → Int32} {k : Nat} {g : Nat → Int32} (hk : k ∈ scrA) (h : Per sc ar sc' ar') : Per sc ar sc' (va_up ar' k g) := ⟨h.1, fun j hj => by
  rw [va_up, if_neg (fun (q : j = k) => hj (by rw [q]; exact hk))]; exact h.2 j hj⟩
def leS (sc : Nat → Int32) (ar : Nat → Nat → Int32) (c : Int32) : Int32 × (Nat → Int32) × (Nat → Nat → Int32) :=
  if c < 1 then (-102, sc, ar) else if 126 < c then (-102, sc, ar) else if sc 0 < 0 then (-104, sc, ar) else if 18 ≤ sc 0 then (-104, sc, ar) else
  (sc 0 + 1, va_up sc 0 (sc 0 + 1), va_up ar 1 (upd (ar 1) (sc 0).toNatClampNeg c))
def wiS (sc : Nat → Int32) (w : Int32) : Int32 × (Nat → Int32) := if w < 0 then (-102, sc) else if 4 < w then (-102, sc) else if sc 16 ≤ 0 then (-103, sc) else (sc 17, va_up sc 17 w)
def paS (sc : Nat → Int32) (h : Int32) : Int32 × (Nat → Int32) := if h < 1 then (-102, sc) else if 30 < h then (-102, sc) else if sc 16 ≤ 0 then (-103, sc) else if 999 < sc 3 + h then (-103, sc) else (sc 3 + h, va_up sc 3 (sc 3 + h))
def ceF (sc : Nat → Int32) (ar : Nat → Nat → Int32) (hv : HV) (c w : Int32) : Int32 := if sc 16 ≤ 0 then -101 else if c < 0 then -101 else if 12 ≤ c then -101 else
  if w = 0 then hiF (ar 24) (sc 16) c (sc 3) else if w = 1 then hiF (ar 24) (sc 16) c 0 else if w = 2 then sc 16 * (c + 1) else if w = 3 then hoN hv c 3 else -102
def abF (sc : Nat → Int32) (ar : Nat → Nat → Int32) (k : Nat) (dr ce sa : Int32) (w : Int32) : Int32 :=
  if w = 0 then kiN k else if w = 1 then dr else if w = 2 then ce else if w = 3 then (if flP (ar 24) (sc 16) k dr ce (sc 3) then 0 else 1) else if w = 4 then sa else
  if w = 10 then htF (ar 24) (sc 16) (sc 17) k dr ce (w - 10) (sc 3) else if w = 11 then htF (ar 24) (sc 16) (sc 17) k dr ce (w - 10) (sc 3) else
  if w = 12 then htF (ar 24) (sc 16) (sc 17) k dr ce (w - 10) (sc 3) else if w = 13 then htF (ar 24) (sc 16) (sc 17) k dr ce (w - 10) (sc 3) else -102
def aboF (sc : Nat → Int32) (ar : Nat → Nat → Int32) (hv : HV) (x w : Int32) : Int32 := match hvF (sc 2) hv x with
  | none => -101
  | some q => abF sc ar q.1 q.2.1 q.2.2.1 q.2.2.2 w
theorem sw_out14 {x : Int32} (h0 : ¬ x = 0) (h1 : ¬ x = 1) (h2 : ¬ x = 2) (h3 : ¬ x = 3) (h4 : ¬ x = 4) (h5 : ¬ x = 5) (h6 : ¬ x = 6) (h7 : ¬ x = 7) (h8 : ¬ x = 8) (h9 : ¬ x = 9) (h10 : ¬ x = 10) (h11 : ¬ x = 11) (h12 : ¬ x = 12) (h13 : ¬ x = 13) : x.toInt < 0 ∨ 13 < x.toInt := by
  have := sw_out5 h0 h1 h2 h3 h4
  have a5 := ti_ne h5
  have a6 := ti_ne h6
  have a7 := ti_ne h7
  have a8 := ti_ne h8
  have a9 := ti_ne h9
  have a10 := ti_ne h10
  have a11 := ti_ne h11
  have a12 := ti_ne h12
  have a13 := ti_ne h13
  have e5 : (5 : Int32).toInt = 5 := rfl
  have e6 : (6 : Int32).toInt = 6 := rfl
  have e7 : (7 : Int32).toInt = 7 := rfl
  have e8 : (8 : Int32).toInt = 8 := rfl
  have e9 : (9 : Int32).toInt = 9 := rfl
  have e10 : (10 : Int32).toInt = 10 := rfl
  have e11 : (11 : Int32).toInt = 11 := rfl
  have e12 : (12 : Int32).toInt = 12 := rfl
  have e13 : (13 : Int32).toInt = 13 := rfl
  omega
set_option maxHeartbeats 4000000 in
set_option maxRecDepth 100000 in
theorem c_letter (l : Launch) (D : va_G) (b : Nat) (sc : Nat → Int32) (ar : Nat → Nat → Int32) (hn : Nat → Option Nat) (mh : Int64) (G : List va_E) (x : Int32) : Con l yX11_letter cX11_letter 2 (some .int) 0 0 D b 0 0 (wl D b sc ar hn mh G) [.ref (b + 0), .int x] (fun r es' => r = some (.int (leS sc ar x).1) ∧ wl D b (leS sc ar x).2.1 (leS sc ar x).2.2 hn mh G = es') := by
  refine con_of (by decide) (Nat.le_of_ble_eq_true rfl) (fun p e s m args below meth c C hsz => ?_)
  have C : vC p s m args meth c cX11_letter 2 RX11 "letter" (some .int) D b := C
  change V p l e _ s m args below meth c D b 2 _ 0 0 (wl D b sc ar hn mh G) [(0, .ref (b + 0)), (1, .int x)] [] 0
  refine v_iload_n (n := 1) C dX11_letter_0 rfl rfl rfl ?_
  refine v_iconst (n := 2) (v := 1) C dX11_letter_1 rfl (by decide) ?_
  refine v_icmp_lt (t := 11) (n := 5) C dX11_letter_2 (by decide) rfl (fun c_1 => ?_) (fun c_1 => ?_)
  · skip
    refine v_bipush (n := 13) (v := -102) C dX11_letter_11 rfl (by decide) ?_
    exact v_iret C dX11_letter_13 rfl rfl ⟨by first | rfl | (simp only [leS, if_pos c_1, if_neg (Int32.not_le.mpr c_1)]; done) | (simp only [leS, eq_true c_1, eq_false (Int32.not_le.mpr c_1), ↓reduceIte]; done) | (simp only [leS, eq_true c_1, eq_false (Int32.not_le.mpr c_1), ↓reduceIte] <;> rfl) | (simp [leS, c_1]; done), by first | rfl | (simp only [leS, if_pos c_1, if_neg (Int32.not_le.mpr c_1)]; done) | (simp only [leS, eq_true c_1, eq_false (Int32.not_le.mpr c_1), ↓reduceIte]; done) | (simp only [leS, eq_true c_1, eq_false (Int32.not_le.mpr c_1), ↓reduceIte] <;> rfl) | (simp [leS, c_1]; done)⟩
  · skip
    refine v_iload_n (n := 6) C dX11_letter_5 rfl rfl rfl ?_
    refine v_bipush (n := 8) (v := 126) C dX11_letter_6 rfl (by decide) ?_
    refine v_icmp_le (t := 14) (n := 11) C dX11_letter_8 (by decide) rfl (fun c_2 => ?_) (fun c_2 => ?_)
    · skip
      refine v_aload_n (n := 15) C dX11_letter_14 rfl rfl rfl ?_
      refine v_get (n := 18) C dX11_letter_15 rfl fl_X11_66_X11 wl_c0 rfl ?_
      refine v_if_lt (t := 33) (n := 21) C dX11_letter_18 (by decide) rfl (fun c_3 => ?_) (fun c_3 => ?_)
      · skip
        refine v_bipush (n := 35) (v := -104) C dX11_letter_33 rfl (by decide) ?_
        exact v_iret C dX11_letter_35 rfl rfl ⟨by first | rfl | (simp only [leS, if_neg c_1, if_pos (Int32.not_lt.mp c_1), if_pos c_2, if_neg (Int32.not_lt.mpr c_2), if_pos c_3, if_neg (Int32.not_le.mpr c_3)]; done) | (simp only [leS, eq_false c_1, eq_true (Int32.not_lt.mp c_1), eq_true c_2, eq_false (Int32.not_lt.mpr c_2), eq_true c_3, eq_false (Int32.not_le.mpr c_3), ↓reduceIte]; done) | (simp only [leS, eq_false c_1, eq_true (Int32.not_lt.mp c_1), eq_true c_2, eq_false (Int32.not_lt.mpr c_2), eq_true c_3, eq_false (Int32.not_le.mpr c_3), ↓reduceIte] <;> rfl) | (simp [leS, c_1, c_2, c_3]; done), by first | rfl | (simp only [leS, if_neg c_1, if_pos (Int32.not_lt.mp c_1), if_pos c_2, if_neg (Int32.not_lt.mpr c_2), if_pos c_3, if_neg (Int32.not_le.mpr c_3)]; done) | (simp only [leS, eq_false c_1, eq_true (Int32.not_lt.mp c_1), eq_true c_2, eq_false (Int32.not_lt.mpr c_2), eq_true c_3, eq_false (Int32.not_le.mpr c_3), ↓reduceIte]; done) | (simp only [leS, eq_false c_1, eq_true (Int32.not_lt.mp c_1), eq_true c_2, eq_false (Int32.not_lt.mpr c_2), eq_true c_3, eq_false (Int32.not_le.mpr c_3), ↓reduceIte] <;> rfl) | (simp [leS, c_1, c_2, c_3]; done)⟩
      · skip
        refine v_aload_n (n := 22) C dX11_letter_21 rfl rfl rfl ?_
        refine v_get (n := 25) C dX11_letter_22 rfl fl_X11_66_X11 wl_c0 rfl ?_
        refine v_aload_n (n := 26) C dX11_letter_25 rfl rfl rfl ?_
        refine v_get (n := 29) C dX11_letter_26 rfl fl_X11_9_X11 wl_c0 rfl ?_
        refine v_alen (n := 30) (v := 18) C dX11_letter_29 rfl wl_c1 rfl ?_
        refine v_icmp_lt (t := 36) (n := 33) C dX11_letter_30 (by decide) rfl (fun c_4 => ?_) (fun c_4 => ?_)
        · skip
          refine v_aload_n (n := 37) C dX11_letter_36 rfl rfl rfl ?_
          refine v_get (n := 40) C dX11_letter_37 rfl fl_X11_9_X11 wl_c0 rfl ?_
          refine v_aload_n (n := 41) C dX11_letter_40 rfl rfl rfl ?_
          refine v_get (n := 44) C dX11_letter_41 rfl fl_X11_66_X11 wl_c0 rfl ?_
          refine v_iload_n (n := 45) C dX11_letter_44 rfl rfl rfl ?_
          refine v_iast (n := 46) (es' := (wl D b sc (va_up ar 1 (upd (ar 1) (Int32.toNatClampNeg (sc 0)) x)) hn mh G)) C dX11_letter_45 rfl wl_c1 (vp_b (Int32.not_lt.mp c_3) c_4 (by decide)) (wl_a1 _) ?_
          refine v_aload_n (n := 47) C dX11_letter_46 rfl rfl rfl ?_
          refine v_dup (n := 48) C dX11_letter_47 rfl rfl ?_
          refine v_get (n := 51) C dX11_letter_48 rfl fl_X11_66_X11 wl_c0 rfl ?_
          refine v_iconst (n := 52) (v := 1) C dX11_letter_51 rfl (by decide) ?_
          refine v_iadd (n := 53) C dX11_letter_52 rfl ?_
          refine v_put (n := 56) (es' := (wl D b (va_up sc 0 ((sc 0) + 1)) (va_up ar 1 (upd (ar 1) (Int32.toNatClampNeg (sc 0)) x)) hn mh G)) C dX11_letter_53 rfl fl_X11_66_X11 (fp_any fp_X11_1) wl_c0 rfl rfl (Nat.le_of_ble_eq_true rfl) wl_p0_1 ?_
          refine v_aload_n (n := 57) C dX11_letter_56 rfl rfl rfl ?_
          refine v_get (n := 60) C dX11_letter_57 rfl fl_X11_66_X11 (show (wl D b (va_up sc 0 ((sc 0) + 1)) (va_up ar 1 (upd (ar 1) (Int32.toNatClampNeg (sc 0)) x)) hn mh G)[0]? = some (.inr (11, [.ref (b + 1), .int ((sc 0) + 1), .int (sc 1), .ref (b + 25), .ref (b + 26), .ref (b + 2), .int (sc 2), .int (sc 3), .ref (b + 3), .ref (b + 9), .ref (b + 18), .ref (b + 21), .ref (b + 22)])) from wl_c0) rfl ?_
          exact v_iret C dX11_letter_60 rfl rfl ⟨by first | rfl | (simp only [leS, if_neg c_1, if_pos (Int32.not_lt.mp c_1), if_pos c_2, if_neg (Int32.not_lt.mpr c_2), if_neg c_3, if_pos (Int32.not_lt.mp c_3), if_pos c_4, if_neg (Int32.not_le.mpr c_4)]; done) | (simp only [leS, eq_false c_1, eq_true (Int32.not_lt.mp c_1), eq_true c_2, eq_false (Int32.not_lt.mpr c_2), eq_false c_3, eq_true (Int32.not_lt.mp c_3), eq_true c_4, eq_false (Int32.not_le.mpr c_4), ↓reduceIte]; done) | (simp only [leS, eq_false c_1, eq_true (Int32.not_lt.mp c_1), eq_true c_2, eq_false (Int32.not_lt.mpr c_2), eq_false c_3, eq_true (Int32.not_lt.mp c_3), eq_true c_4, eq_false (Int32.not_le.mpr c_4), ↓reduceIte] <;> rfl) | (simp [leS, c_1, c_2, c_3, c_4]; done), by first | rfl | (simp only [leS, if_neg c_1, if_pos (Int32.not_lt.mp c_1), if_pos c_2, if_neg (Int32.not_lt.mpr c_2), if_neg c_3, if_pos (Int32.not_lt.mp c_3), if_pos c_4, if_neg (Int32.not_le.mpr c_4)]; done) | (simp only [leS, eq_false c_1, eq_true (Int32.not_lt.mp c_1), eq_true c_2, eq_false (Int32.not_lt.mpr c_2), eq_false c_3, eq_true (Int32.not_lt.mp c_3), eq_true c_4, eq_false (Int32.not_le.mpr c_4), ↓reduceIte]; done) | (simp only [leS, eq_false c_1, eq_true (Int32.not_lt.mp c_1), eq_true c_2, eq_false (Int32.not_lt.mpr c_2), eq_false c_3, eq_true (Int32.not_lt.mp c_3), eq_true c_4, eq_false (Int32.not_le.mpr c_4), ↓reduceIte] <;> rfl) | (simp [leS, c_1, c_2, c_3, c_4]; done)⟩
        · skip
          refine v_bipush (n := 35) (v := -104) C dX11_letter_33 rfl (by decide) ?_
          exact v_iret C dX11_letter_35 rfl rfl ⟨by first | rfl | (simp only [leS, if_neg c_1, if_pos (Int32.not_lt.mp c_1), if_pos c_2, if_neg (Int32.not_lt.mpr c_2), if_neg c_3, if_pos (Int32.not_lt.mp c_3), if_neg c_4, if_pos (Int32.not_lt.mp c_4)]; done) | (simp only [leS, eq_false c_1, eq_true (Int32.not_lt.mp c_1), eq_true c_2, eq_false (Int32.not_lt.mpr c_2), eq_false c_3, eq_true (Int32.not_lt.mp c_3), eq_false c_4, eq_true (Int32.not_lt.mp c_4), ↓reduceIte]; done) | (simp only [leS, eq_false c_1, eq_true (Int32.not_lt.mp c_1), eq_true c_2, eq_false (Int32.not_lt.mpr c_2), eq_false c_3, eq_true (Int32.not_lt.mp c_3), eq_false c_4, eq_true (Int32.not_lt.mp c_4), ↓reduceIte] <;> rfl) | (simp [leS, c_1, c_2, c_3, c_4]; done), by first | rfl | (simp only [leS, if_neg c_1, if_pos (Int32.not_lt.mp c_1), if_pos c_2, if_neg (Int32.not_lt.mpr c_2), if_neg c_3, if_pos (Int32.not_lt.mp c_3), if_neg c_4, if_pos (Int32.not_lt.mp c_4)]; done) | (simp only [leS, eq_false c_1, eq_true (Int32.not_lt.mp c_1), eq_true c_2, eq_false (Int32.not_lt.mpr c_2), eq_false c_3, eq_true (Int32.not_lt.mp c_3), eq_false c_4, eq_true (Int32.not_lt.mp c_4), ↓reduceIte]; done) | (simp only [leS, eq_false c_1, eq_true (Int32.not_lt.mp c_1), eq_true c_2, eq_false (Int32.not_lt.mpr c_2), eq_false c_3, eq_true (Int32.not_lt.mp c_3), eq_false c_4, eq_true (Int32.not_lt.mp c_4), ↓reduceIte] <;> rfl) | (simp [leS, c_1, c_2, c_3, c_4]; done)⟩
    · skip
      refine v_bipush (n := 13) (v := -102) C dX11_letter_11 rfl (by decide) ?_
      exact v_iret C dX11_letter_13 rfl rfl ⟨by first | rfl | (simp only [leS, if_neg c_1, if_pos (Int32.not_lt.mp c_1), if_neg c_2, if_pos (Int32.not_le.mp c_2)]; done) | (simp only [leS, eq_false c_1, eq_true (Int32.not_lt.mp c_1), eq_false c_2, eq_true (Int32.not_le.mp c_2), ↓reduceIte]; done) | (simp only [leS, eq_false c_1, eq_true (Int32.not_lt.mp c_1), eq_false c_2, eq_true (Int32.not_le.mp c_2), ↓reduceIte] <;> rfl) | (simp [leS, c_1, c_2]; done), by first | rfl | (simp only [leS, if_neg c_1, if_pos (Int32.not_lt.mp c_1), if_neg c_2, if_pos (Int32.not_le.mp c_2)]; done) | (simp only [leS, eq_false c_1, eq_true (Int32.not_lt.mp c_1), eq_false c_2, eq_true (Int32.not_le.mp c_2), ↓reduceIte]; done) | (simp only [leS, eq_false c_1, eq_true (Int32.not_lt.mp c_1), eq_false c_2, eq_true (Int32.not_le.mp c_2), ↓reduceIte] <;> rfl) | (simp [leS, c_1, c_2]; done)⟩
set_option maxHeartbeats 4000000 in
set_option maxRecDepth 100000 in
theorem c_blank (l : Launch) (D : va_G) (b : Nat) (sc : Nat → Int32) (ar : Nat → Nat → Int32) (hn : Nat → Option Nat) (mh : Int64) (G : List va_E)  : Con l yX11_blank cX11_blank 2 (some .int) 0 0 D b 0 0 (wl D b sc ar hn mh G) [.ref (b + 0)] (fun r es' => r = some (.int (sc 0)) ∧ wl D b (va_up sc 0 0) ar hn mh G = es') := by
  refine con_of (by decide) (Nat.le_of_ble_eq_true rfl) (fun p e s m args below meth c C hsz => ?_)
  have C : vC p s m args meth c cX11_blank 2 RX11 "blank" (some .int) D b := C
  change V p l e _ s m args below meth c D b 2 _ 0 0 (wl D b sc ar hn mh G) [(0, .ref (b + 0))] [] 0
  refine v_aload_n (n := 1) C dX11_blank_0 rfl rfl rfl ?_
  refine v_get (n := 4) C dX11_blank_1 rfl fl_X11_66_X11 wl_c0 rfl ?_
  refine v_istore_n (n := 5) (lv' := [(1, .int (sc 0)), (0, .ref (b + 0))]) C dX11_blank_4 rfl rfl (Nat.le_of_ble_eq_true rfl) rfl ?_
  refine v_aload_n (n := 6) C dX11_blank_5 rfl rfl rfl ?_
  refine v_iconst (n := 7) (v := 0) C dX11_blank_6 rfl (by decide) ?_
  refine v_put (n := 10) (es' := (wl D b (va_up sc 0 0) ar hn mh G)) C dX11_blank_7 rfl fl_X11_66_X11 (fp_any fp_X11_1) wl_c0 rfl rfl (Nat.le_of_ble_eq_true rfl) wl_p0_1 ?_
  refine v_iload_n (n := 11) C dX11_blank_10 rfl rfl rfl ?_
  exact v_iret C dX11_blank_11 rfl rfl ⟨by first | rfl | (simp only []; done) | (simp only [↓reduceIte]; done) | (simp only [↓reduceIte] <;> rfl) | (simp []; done), by first | rfl | (simp only []; done) | (simp only [↓reduceIte]; done) | (simp only [↓reduceIte] <;> rfl) | (simp []; done)⟩
set_option maxHeartbeats 4000000 in
set_option maxRecDepth 100000 in
theorem c_wind (l : Launch) (D : va_G) (b : Nat) (sc : Nat → Int32) (ar : Nat → Nat → Int32) (hn : Nat → Option Nat) (mh : Int64) (G : List va_E) (x : Int32) : Con l yX11_wind cX11_wind 3 (some .int) 1 20 D b 0 0 (wl D b sc ar hn mh G) [.ref (b + 0), .int x] (fun r es' => r = some (.int (wiS sc x).1) ∧ wl D b (wiS sc x).2 ar hn mh G = es') := by
  refine con_of (by decide) (Nat.le_of_ble_eq_true rfl) (fun p e s m args below meth c C hsz => ?_)
  have C : vC p s m args meth c cX11_wind 3 RX11 "wind" (some .int) D b := C
  change V p l e _ s m args below meth c D b 3 _ 0 0 (wl D b sc ar hn mh G) [(0, .ref (b + 0)), (1, .int x)] [] 0
  refine v_iload_n (n := 1) C dX11_wind_0 rfl rfl rfl ?_
  refine v_if_lt (t := 9) (n := 4) C dX11_wind_1 (by decide) rfl (fun c_1 => ?_) (fun c_1 => ?_)
  · skip
    refine v_bipush (n := 11) (v := -102) C dX11_wind_9 rfl (by decide) ?_
    exact v_iret C dX11_wind_11 rfl rfl ⟨by first | rfl | (simp only [wiS, if_pos c_1, if_neg (Int32.not_le.mpr c_1)]; done) | (simp only [wiS, eq_true c_1, eq_false (Int32.not_le.mpr c_1), ↓reduceIte]; done) | (simp only [wiS, eq_true c_1, eq_false (Int32.not_le.mpr c_1), ↓reduceIte] <;> rfl) | (simp [wiS, c_1]; done), by first | rfl | (simp only [wiS, if_pos c_1, if_neg (Int32.not_le.mpr c_1)]; done) | (simp only [wiS, eq_true c_1, eq_false (Int32.not_le.mpr c_1), ↓reduceIte]; done) | (simp only [wiS, eq_true c_1, eq_false (Int32.not_le.mpr c_1), ↓reduceIte] <;> rfl) | (simp [wiS, c_1]; done)⟩
  · skip
    refine v_iload_n (n := 5) C dX11_wind_4 rfl rfl rfl ?_
    refine v_iconst (n := 6) (v := 4) C dX11_wind_5 rfl (by decide) ?_
    refine v_icmp_le (t := 12) (n := 9) C dX11_wind_6 (by decide) rfl (fun c_2 => ?_) (fun c_2 => ?_)
    · skip
      refine v_aload_n (n := 13) C dX11_wind_12 rfl rfl rfl ?_
      refine v_go (n := 16) C (vRun_V (As := []) (rest := []) C wl_c0 rfl lk_X11_119 im_X11_hasPlain se_X11_hasPlain dX11_wind_13 (c_hasPlain l D b sc ar hn mh G) wm_X11_hasPlain rfl rfl ⟨Nat.le_of_ble_eq_true rfl, Nat.le_of_ble_eq_true rfl⟩ ⟨Nat.le_of_ble_eq_true rfl, Nat.le_of_ble_eq_true rfl⟩ (Nat.le_of_ble_eq_true rfl)) rfl ?_
      rintro _ _ ⟨rfl, rfl⟩ -
      by_cases p_3 : (sc 16) ≤ 0
      · skip
        refine v_stk (st' := .int 0 :: []) (congrArg (fun z : Int32 => Value.int z :: []) (show hpF (sc 16) = 0 by simp only [hpF, if_pos p_3])) ?_
        refine v_if_ne (t := 22) (n := 19) C dX11_wind_16 (by decide) rfl (fun c_4 => ?_) (fun c_4 => ?_)
        · exact absurd c_4 (by decide)
        · skip
          refine v_bipush (n := 21) (v := -103) C dX11_wind_19 rfl (by decide) ?_
          exact v_iret C dX11_wind_21 rfl rfl ⟨by first | rfl | (simp only [wiS, if_neg c_1, if_pos (Int32.not_lt.mp c_1), if_pos c_2, if_neg (Int32.not_lt.mpr c_2), if_pos p_3, if_neg (Int32.not_lt.mpr p_3), if_pos c_4]; done) | (simp only [wiS, eq_false c_1, eq_true (Int32.not_lt.mp c_1), eq_true c_2, eq_false (Int32.not_lt.mpr c_2), eq_true p_3, eq_false (Int32.not_lt.mpr p_3), eq_true c_4, ↓reduceIte]; done) | (simp only [wiS, eq_false c_1, eq_true (Int32.not_lt.mp c_1), eq_true c_2, eq_false (Int32.not_lt.mpr c_2), eq_true p_3, eq_false (Int32.not_lt.mpr p_3), eq_true c_4, ↓reduceIte] <;> rfl) | (simp [wiS, c_1, c_2, p_3, c_4]; done), by first | rfl | (simp only [wiS, if_neg c_1, if_pos (Int32.not_lt.mp c_1), if_pos c_2, if_neg (Int32.not_lt.mpr c_2), if_pos p_3, if_neg (Int32.not_lt.mpr p_3), if_pos c_4]; done) | (simp only [wiS, eq_false c_1, eq_true (Int32.not_lt.mp c_1), eq_true c_2, eq_false (Int32.not_lt.mpr c_2), eq_true p_3, eq_false (Int32.not_lt.mpr p_3), eq_true c_4, ↓reduceIte]; done) | (simp only [wiS, eq_false c_1, eq_true (Int32.not_lt.mp c_1), eq_true c_2, eq_false (Int32.not_lt.mpr c_2), eq_true p_3, eq_false (Int32.not_lt.mpr p_3), eq_true c_4, ↓reduceIte] <;> rfl) | (simp [wiS, c_1, c_2, p_3, c_4]; done)⟩
      refine v_stk (st' := .int 1 :: []) (congrArg (fun z : Int32 => Value.int z :: []) (show hpF (sc 16) = 1 by simp only [hpF, if_neg p_3])) ?_
      refine v_if_ne (t := 22) (n := 19) C dX11_wind_16 (by decide) rfl (fun c_5 => ?_) (fun c_5 => ?_)
      · skip
        refine v_aload_n (n := 23) C dX11_wind_22 rfl rfl rfl ?_
        refine v_get (n := 26) C dX11_wind_23 rfl fl_X11_59_X11 wl_c0 rfl ?_
        refine v_get (n := 29) C dX11_wind_26 rfl fl_X11_123_X7 wl_c25 rfl ?_
        refine v_istore_n (n := 30) (lv' := [(2, .int (sc 17)), (0, .ref (b + 0)), (1, .int x)]) C dX11_wind_29 rfl rfl (Nat.le_of_ble_eq_true rfl) rfl ?_
        refine v_aload_n (n := 31) C dX11_wind_30 rfl rfl rfl ?_
        refine v_get (n := 34) C dX11_wind_31 rfl fl_X11_59_X11 wl_c0 rfl ?_
        refine v_iload_n (n := 35) C dX11_wind_34 rfl rfl rfl ?_
        refine v_put (n := 38) (es' := (wl D b (va_up sc 17 x) ar hn mh G)) C dX11_wind_35 rfl fl_X11_123_X7 (fp_any fp_X7_2) wl_c25 rfl rfl (Nat.le_of_ble_eq_true rfl) wl_p25_2 ?_
        refine v_iload_n (n := 39) C dX11_wind_38 rfl rfl rfl ?_
        exact v_iret C dX11_wind_39 rfl rfl ⟨by first | rfl | (simp only [wiS, if_neg c_1, if_pos (Int32.not_lt.mp c_1), if_pos c_2, if_neg (Int32.not_lt.mpr c_2), if_neg p_3, if_pos (Int32.not_le.mp p_3), if_neg c_5]; done) | (simp only [wiS, eq_false c_1, eq_true (Int32.not_lt.mp c_1), eq_true c_2, eq_false (Int32.not_lt.mpr c_2), eq_false p_3, eq_true (Int32.not_le.mp p_3), eq_false c_5, ↓reduceIte]; done) | (simp only [wiS, eq_false c_1, eq_true (Int32.not_lt.mp c_1), eq_true c_2, eq_false (Int32.not_lt.mpr c_2), eq_false p_3, eq_true (Int32.not_le.mp p_3), eq_false c_5, ↓reduceIte] <;> rfl) | (simp [wiS, c_1, c_2, p_3, c_5]; done), by first | rfl | (simp only [wiS, if_neg c_1, if_pos (Int32.not_lt.mp c_1), if_pos c_2, if_neg (Int32.not_lt.mpr c_2), if_neg p_3, if_pos (Int32.not_le.mp p_3), if_neg c_5]; done) | (simp only [wiS, eq_false c_1, eq_true (Int32.not_lt.mp c_1), eq_true c_2, eq_false (Int32.not_lt.mpr c_2), eq_false p_3, eq_true (Int32.not_le.mp p_3), eq_false c_5, ↓reduceIte]; done) | (simp only [wiS, eq_false c_1, eq_true (Int32.not_lt.mp c_1), eq_true c_2, eq_false (Int32.not_lt.mpr c_2), eq_false p_3, eq_true (Int32.not_le.mp p_3), eq_false c_5, ↓reduceIte] <;> rfl) | (simp [wiS, c_1, c_2, p_3, c_5]; done)⟩
      · exact absurd c_5 (by decide)
    · skip
      refine v_bipush (n := 11) (v := -102) C dX11_wind_9 rfl (by decide) ?_
      exact v_iret C dX11_wind_11 rfl rfl ⟨by first | rfl | (simp only [wiS, if_neg c_1, if_pos (Int32.not_lt.mp c_1), if_neg c_2, if_pos (Int32.not_le.mp c_2)]; done) | (simp only [wiS, eq_false c_1, eq_true (Int32.not_lt.mp c_1), eq_false c_2, eq_true (Int32.not_le.mp c_2), ↓reduceIte]; done) | (simp only [wiS, eq_false c_1, eq_true (Int32.not_lt.mp c_1), eq_false c_2, eq_true (Int32.not_le.mp c_2), ↓reduceIte] <;> rfl) | (simp [wiS, c_1, c_2]; done), by first | rfl | (simp only [wiS, if_neg c_1, if_pos (Int32.not_lt.mp c_1), if_neg c_2, if_pos (Int32.not_le.mp c_2)]; done) | (simp only [wiS, eq_false c_1, eq_true (Int32.not_lt.mp c_1), eq_false c_2, eq_true (Int32.not_le.mp c_2), ↓reduceIte]; done) | (simp only [wiS, eq_false c_1, eq_true (Int32.not_lt.mp c_1), eq_false c_2, eq_true (Int32.not_le.mp c_2), ↓reduceIte] <;> rfl) | (simp [wiS, c_1, c_2]; done)⟩
set_option maxHeartbeats 4000000 in
set_option maxRecDepth 100000 in
theorem c_pass (l : Launch) (D : va_G) (b : Nat) (sc : Nat → Int32) (ar : Nat → Nat → Int32) (hn : Nat → Option Nat) (mh : Int64) (G : List va_E) (x : Int32) : Con l yX11_pass cX11_pass 2 (some .int) 1 20 D b 0 0 (wl D b sc ar hn mh G) [.ref (b + 0), .int x] (fun r es' => r = some (.int (paS sc x).1) ∧ wl D b (paS sc x).2 ar hn mh G = es') := by
  refine con_of (by decide) (Nat.le_of_ble_eq_true rfl) (fun p e s m args below meth c C hsz => ?_)
  have C : vC p s m args meth c cX11_pass 2 RX11 "pass" (some .int) D b := C
  change V p l e _ s m args below meth c D b 2 _ 0 0 (wl D b sc ar hn mh G) [(0, .ref (b + 0)), (1, .int x)] [] 0
  refine v_iload_n (n := 1) C dX11_pass_0 rfl rfl rfl ?_
  refine v_iconst (n := 2) (v := 1) C dX11_pass_1 rfl (by decide) ?_
  refine v_icmp_lt (t := 11) (n := 5) C dX11_pass_2 (by decide) rfl (fun c_1 => ?_) (fun c_1 => ?_)
  · skip
    refine v_bipush (n := 13) (v := -102) C dX11_pass_11 rfl (by decide) ?_
    exact v_iret C dX11_pass_13 rfl rfl ⟨by first | rfl | (simp only [paS, if_pos c_1, if_neg (Int32.not_le.mpr c_1)]; done) | (simp only [paS, eq_true c_1, eq_false (Int32.not_le.mpr c_1), ↓reduceIte]; done) | (simp only [paS, eq_true c_1, eq_false (Int32.not_le.mpr c_1), ↓reduceIte] <;> rfl) | (simp [paS, c_1]; done), by first | rfl | (simp only [paS, if_pos c_1, if_neg (Int32.not_le.mpr c_1)]; done) | (simp only [paS, eq_true c_1, eq_false (Int32.not_le.mpr c_1), ↓reduceIte]; done) | (simp only [paS, eq_true c_1, eq_false (Int32.not_le.mpr c_1), ↓reduceIte] <;> rfl) | (simp [paS, c_1]; done)⟩
  · skip
    refine v_iload_n (n := 6) C dX11_pass_5 rfl rfl rfl ?_
    refine v_bipush (n := 8) (v := 30) C dX11_pass_6 rfl (by decide) ?_
    refine v_icmp_le (t := 14) (n := 11) C dX11_pass_8 (by decide) rfl (fun c_2 => ?_) (fun c_2 => ?_)
    · skip
      refine v_aload_n (n := 15) C dX11_pass_14 rfl rfl rfl ?_
      refine v_go (n := 18) C (vRun_V (As := []) (rest := []) C wl_c0 rfl lk_X11_119 im_X11_hasPlain se_X11_hasPlain dX11_pass_15 (c_hasPlain l D b sc ar hn mh G) wm_X11_hasPlain rfl rfl ⟨Nat.le_of_ble_eq_true rfl, Nat.le_of_ble_eq_true rfl⟩ ⟨Nat.le_of_ble_eq_true rfl, Nat.le_of_ble_eq_true rfl⟩ (Nat.le_of_ble_eq_true rfl)) rfl ?_
      rintro _ _ ⟨rfl, rfl⟩ -
      by_cases p_3 : (sc 16) ≤ 0
      · skip
        refine v_stk (st' := .int 0 :: []) (congrArg (fun z : Int32 => Value.int z :: []) (show hpF (sc 16) = 0 by simp only [hpF, if_pos p_3])) ?_
        refine v_if_eq (t := 33) (n := 21) C dX11_pass_18 (by decide) rfl (fun c_4 => ?_) (fun c_4 => ?_)
        · skip
          refine v_bipush (n := 35) (v := -103) C dX11_pass_33 rfl (by decide) ?_
          exact v_iret C dX11_pass_35 rfl rfl ⟨by first | rfl | (simp only [paS, if_neg c_1, if_pos (Int32.not_lt.mp c_1), if_pos c_2, if_neg (Int32.not_lt.mpr c_2), if_pos p_3, if_neg (Int32.not_lt.mpr p_3), if_pos c_4]; done) | (simp only [paS, eq_false c_1, eq_true (Int32.not_lt.mp c_1), eq_true c_2, eq_false (Int32.not_lt.mpr c_2), eq_true p_3, eq_false (Int32.not_lt.mpr p_3), eq_true c_4, ↓reduceIte]; done) | (simp only [paS, eq_false c_1, eq_true (Int32.not_lt.mp c_1), eq_true c_2, eq_false (Int32.not_lt.mpr c_2), eq_true p_3, eq_false (Int32.not_lt.mpr p_3), eq_true c_4, ↓reduceIte] <;> rfl) | (simp [paS, c_1, c_2, p_3, c_4]; done), by first | rfl | (simp only [paS, if_neg c_1, if_pos (Int32.not_lt.mp c_1), if_pos c_2, if_neg (Int32.not_lt.mpr c_2), if_pos p_3, if_neg (Int32.not_lt.mpr p_3), if_pos c_4]; done) | (simp only [paS, eq_false c_1, eq_true (Int32.not_lt.mp c_1), eq_true c_2, eq_false (Int32.not_lt.mpr c_2), eq_true p_3, eq_false (Int32.not_lt.mpr p_3), eq_true c_4, ↓reduceIte]; done) | (simp only [paS, eq_false c_1, eq_true (Int32.not_lt.mp c_1), eq_true c_2, eq_false (Int32.not_lt.mpr c_2), eq_true p_3, eq_false (Int32.not_lt.mpr p_3), eq_true c_4, ↓reduceIte] <;> rfl) | (simp [paS, c_1, c_2, p_3, c_4]; done)⟩
        · exact absurd c_4 (by decide)
      refine v_stk (st' := .int 1 :: []) (congrArg (fun z : Int32 => Value.int z :: []) (show hpF (sc 16) = 1 by simp only [hpF, if_neg p_3])) ?_
      refine v_if_eq (t := 33) (n := 21) C dX11_pass_18 (by decide) rfl (fun c_5 => ?_) (fun c_5 => ?_)
      · exact absurd c_5 (by decide)
      · skip
        refine v_aload_n (n := 22) C dX11_pass_21 rfl rfl rfl ?_
        refine v_get (n := 25) C dX11_pass_22 rfl fl_X11_106_X11 wl_c0 rfl ?_
        refine v_iload_n (n := 26) C dX11_pass_25 rfl rfl rfl ?_
        refine v_iadd (n := 27) C dX11_pass_26 rfl ?_
        refine v_sipush (n := 30) (v := 999) C dX11_pass_27 rfl (by decide) ?_
        refine v_icmp_le (t := 36) (n := 33) C dX11_pass_30 (by decide) rfl (fun c_6 => ?_) (fun c_6 => ?_)
        · skip
          refine v_aload_n (n := 37) C dX11_pass_36 rfl rfl rfl ?_
          refine v_dup (n := 38) C dX11_pass_37 rfl rfl ?_
          refine v_get (n := 41) C dX11_pass_38 rfl fl_X11_106_X11 wl_c0 rfl ?_
          refine v_iload_n (n := 42) C dX11_pass_41 rfl rfl rfl ?_
          refine v_iadd (n := 43) C dX11_pass_42 rfl ?_
          refine v_put (n := 46) (es' := (wl D b (va_up sc 3 ((sc 3) + x)) ar hn mh G)) C dX11_pass_43 rfl fl_X11_106_X11 (fp_any fp_X11_7) wl_c0 rfl rfl (Nat.le_of_ble_eq_true rfl) wl_p0_7 ?_
          refine v_aload_n (n := 47) C dX11_pass_46 rfl rfl rfl ?_
          refine v_get (n := 50) C dX11_pass_47 rfl fl_X11_106_X11 (show (wl D b (va_up sc 3 ((sc 3) + x)) ar hn mh G)[0]? = some (.inr (11, [.ref (b + 1), .int (sc 0), .int (sc 1), .ref (b + 25), .ref (b + 26), .ref (b + 2), .int (sc 2), .int ((sc 3) + x), .ref (b + 3), .ref (b + 9), .ref (b + 18), .ref (b + 21), .ref (b + 22)])) from wl_c0) rfl ?_
          exact v_iret C dX11_pass_50 rfl rfl ⟨by first | rfl | (simp only [paS, if_neg c_1, if_pos (Int32.not_lt.mp c_1), if_pos c_2, if_neg (Int32.not_lt.mpr c_2), if_neg p_3, if_pos (Int32.not_le.mp p_3), if_neg c_5, if_pos c_6, if_neg (Int32.not_lt.mpr c_6)]; done) | (simp only [paS, eq_false c_1, eq_true (Int32.not_lt.mp c_1), eq_true c_2, eq_false (Int32.not_lt.mpr c_2), eq_false p_3, eq_true (Int32.not_le.mp p_3), eq_false c_5, eq_true c_6, eq_false (Int32.not_lt.mpr c_6), ↓reduceIte]; done) | (simp only [paS, eq_false c_1, eq_true (Int32.not_lt.mp c_1), eq_true c_2, eq_false (Int32.not_lt.mpr c_2), eq_false p_3, eq_true (Int32.not_le.mp p_3), eq_false c_5, eq_true c_6, eq_false (Int32.not_lt.mpr c_6), ↓reduceIte] <;> rfl) | (simp [paS, c_1, c_2, p_3, c_5, c_6]; done), by first | rfl | (simp only [paS, if_neg c_1, if_pos (Int32.not_lt.mp c_1), if_pos c_2, if_neg (Int32.not_lt.mpr c_2), if_neg p_3, if_pos (Int32.not_le.mp p_3), if_neg c_5, if_pos c_6, if_neg (Int32.not_lt.mpr c_6)]; done) | (simp only [paS, eq_false c_1, eq_true (Int32.not_lt.mp c_1), eq_true c_2, eq_false (Int32.not_lt.mpr c_2), eq_false p_3, eq_true (Int32.not_le.mp p_3), eq_false c_5, eq_true c_6, eq_false (Int32.not_lt.mpr c_6), ↓reduceIte]; done) | (simp only [paS, eq_false c_1, eq_true (Int32.not_lt.mp c_1), eq_true c_2, eq_false (Int32.not_lt.mpr c_2), eq_false p_3, eq_true (Int32.not_le.mp p_3), eq_false c_5, eq_true c_6, eq_false (Int32.not_lt.mpr c_6), ↓reduceIte] <;> rfl) | (simp [paS, c_1, c_2, p_3, c_5, c_6]; done)⟩
        · skip
          refine v_bipush (n := 35) (v := -103) C dX11_pass_33 rfl (by decide) ?_
          exact v_iret C dX11_pass_35 rfl rfl ⟨by first | rfl | (simp only [paS, if_neg c_1, if_pos (Int32.not_lt.mp c_1), if_pos c_2, if_neg (Int32.not_lt.mpr c_2), if_neg p_3, if_pos (Int32.not_le.mp p_3), if_neg c_5, if_neg c_6, if_pos (Int32.not_le.mp c_6)]; done) | (simp only [paS, eq_false c_1, eq_true (Int32.not_lt.mp c_1), eq_true c_2, eq_false (Int32.not_lt.mpr c_2), eq_false p_3, eq_true (Int32.not_le.mp p_3), eq_false c_5, eq_false c_6, eq_true (Int32.not_le.mp c_6), ↓reduceIte]; done) | (simp only [paS, eq_false c_1, eq_true (Int32.not_lt.mp c_1), eq_true c_2, eq_false (Int32.not_lt.mpr c_2), eq_false p_3, eq_true (Int32.not_le.mp p_3), eq_false c_5, eq_false c_6, eq_true (Int32.not_le.mp c_6), ↓reduceIte] <;> rfl) | (simp [paS, c_1, c_2, p_3, c_5, c_6]; done), by first | rfl | (simp only [paS, if_neg c_1, if_pos (Int32.not_lt.mp c_1), if_pos c_2, if_neg (Int32.not_lt.mpr c_2), if_neg p_3, if_pos (Int32.not_le.mp p_3), if_neg c_5, if_neg c_6, if_pos (Int32.not_le.mp c_6)]; done) | (simp only [paS, eq_false c_1, eq_true (Int32.not_lt.mp c_1), eq_true c_2, eq_false (Int32.not_lt.mpr c_2), eq_false p_3, eq_true (Int32.not_le.mp p_3), eq_false c_5, eq_false c_6, eq_true (Int32.not_le.mp c_6), ↓reduceIte]; done) | (simp only [paS, eq_false c_1, eq_true (Int32.not_lt.mp c_1), eq_true c_2, eq_false (Int32.not_lt.mpr c_2), eq_false p_3, eq_true (Int32.not_le.mp p_3), eq_false c_5, eq_false c_6, eq_true (Int32.not_le.mp c_6), ↓reduceIte] <;> rfl) | (simp [paS, c_1, c_2, p_3, c_5, c_6]; done)⟩
    · skip
      refine v_bipush (n := 13) (v := -102) C dX11_pass_11 rfl (by decide) ?_
      exact v_iret C dX11_pass_13 rfl rfl ⟨by first | rfl | (simp only [paS, if_neg c_1, if_pos (Int32.not_lt.mp c_1), if_neg c_2, if_pos (Int32.not_le.mp c_2)]; done) | (simp only [paS, eq_false c_1, eq_true (Int32.not_lt.mp c_1), eq_false c_2, eq_true (Int32.not_le.mp c_2), ↓reduceIte]; done) | (simp only [paS, eq_false c_1, eq_true (Int32.not_lt.mp c_1), eq_false c_2, eq_true (Int32.not_le.mp c_2), ↓reduceIte] <;> rfl) | (simp [paS, c_1, c_2]; done), by first | rfl | (simp only [paS, if_neg c_1, if_pos (Int32.not_lt.mp c_1), if_neg c_2, if_pos (Int32.not_le.mp c_2)]; done) | (simp only [paS, eq_false c_1, eq_true (Int32.not_lt.mp c_1), eq_false c_2, eq_true (Int32.not_le.mp c_2), ↓reduceIte]; done) | (simp only [paS, eq_false c_1, eq_true (Int32.not_lt.mp c_1), eq_false c_2, eq_true (Int32.not_le.mp c_2), ↓reduceIte] <;> rfl) | (simp [paS, c_1, c_2]; done)⟩
set_option maxHeartbeats 4000000 in
set_option maxRecDepth 100000 in
theorem c_forget (l : Launch) (D : va_G) (b : Nat) (sc : Nat → Int32) (ar : Nat → Nat → Int32) (hn : Nat → Option Nat) (mh : Int64) (G : List va_E)  : Con l yX11_forget cX11_forget 2 (some .int) 0 0 D b 0 0 (wl D b sc ar hn mh G) [.ref (b + 0)] (fun r es' => r = some (.int (sc 4)) ∧ wl D b (va_up sc 4 0) ar hn mh G = es') := by
  refine con_of (by decide) (Nat.le_of_ble_eq_true rfl) (fun p e s m args below meth c C hsz => ?_)
  have C : vC p s m args meth c cX11_forget 2 RX11 "forget" (some .int) D b := C
  change V p l e _ s m args below meth c D b 2 _ 0 0 (wl D b sc ar hn mh G) [(0, .ref (b + 0))] [] 0
  refine v_aload_n (n := 1) C dX11_forget_0 rfl rfl rfl ?_
  refine v_get (n := 4) C dX11_forget_1 rfl fl_X11_22_X11 wl_c0 rfl ?_
  refine v_get (n := 7) C dX11_forget_4 rfl fl_X11_189_X8 wl_c3 rfl ?_
  refine v_istore_n (n := 8) (lv' := [(1, .int (sc 4)), (0, .ref (b + 0))]) C dX11_forget_7 rfl rfl (Nat.le_of_ble_eq_true rfl) rfl ?_
  refine v_aload_n (n := 9) C dX11_forget_8 rfl rfl rfl ?_
  refine v_get (n := 12) C dX11_forget_9 rfl fl_X11_22_X11 wl_c0 rfl ?_
  refine v_iconst (n := 13) (v := 0) C dX11_forget_12 rfl (by decide) ?_
  refine v_put (n := 16) (es' := (wl D b (va_up sc 4 0) ar hn mh G)) C dX11_forget_13 rfl fl_X11_189_X8 (fp_any fp_X8_0) wl_c3 rfl rfl (Nat.le_of_ble_eq_true rfl) wl_p3_0 ?_
  refine v_iload_n (n := 17) C dX11_forget_16 rfl rfl rfl ?_
  exact v_iret C dX11_forget_17 rfl rfl ⟨by first | rfl | (simp only []; done) | (simp only [↓reduceIte]; done) | (simp only [↓reduceIte] <;> rfl) | (simp []; done), by first | rfl | (simp only []; done) | (simp only [↓reduceIte]; done) | (simp only [↓reduceIte] <;> rfl) | (simp []; done)⟩
set_option maxHeartbeats 4000000 in
set_option maxRecDepth 100000 in
theorem c_cell (l : Launch) (D : va_G) (b : Nat) (sc : Nat → Int32) (ar : Nat → Nat → Int32) (hn : Nat → Option Nat) (mh : Int64) (G : List va_E) (x w : Int32) (hv : HV) (hr : HVr hn G hv) : Con l yX11_cell cX11_cell 3 (some .int) 2 41 D b 0 0 (wl D b sc ar hn mh G) [.ref (b + 0), .int x, .int w] (fun r es' => r = some (.int (ceF sc ar hv x w)) ∧ (wl D b sc ar hn mh G) = es') := by
  refine con_of (by decide) (Nat.le_of_ble_eq_true rfl) (fun p e s m args below meth c C hsz => ?_)
  have C : vC p s m args meth c cX11_cell 3 RX11 "cell" (some .int) D b := C
  change V p l e _ s m args below meth c D b 3 _ 0 0 (wl D b sc ar hn mh G) [(0, .ref (b + 0)), (1, .int x), (2, .int w)] [] 0
  refine v_aload_n (n := 1) C dX11_cell_0 rfl rfl rfl ?_
  refine v_iload_n (n := 2) C dX11_cell_1 rfl rfl rfl ?_
  refine v_go (n := 5) C (vRun_V (As := [.int x]) (rest := []) C wl_c0 rfl lk_X11_102 im_X11_isThere se_X11_isThere dX11_cell_2 (c_isThere l D b sc ar hn mh G x) wm_X11_isThere rfl rfl ⟨Nat.le_of_ble_eq_true rfl, Nat.le_of_ble_eq_true rfl⟩ ⟨Nat.le_of_ble_eq_true rfl, Nat.le_of_ble_eq_true rfl⟩ (Nat.le_of_ble_eq_true rfl)) rfl ?_
  rintro _ _ ⟨rfl, rfl⟩ -
  by_cases p_1 : (sc 16) ≤ 0
  · skip
    refine v_stk (st' := .int 0 :: []) (congrArg (fun z : Int32 => Value.int z :: []) (show thF (sc 16) x = 0 by simp only [thF, icF, if_pos p_1])) ?_
    refine v_if_ne (t := 11) (n := 8) C dX11_cell_5 (by decide) rfl (fun c_2 => ?_) (fun c_2 => ?_)
    · exact absurd c_2 (by decide)
    · skip
      refine v_bipush (n := 10) (v := -101) C dX11_cell_8 rfl (by decide) ?_
      exact v_iret C dX11_cell_10 rfl rfl ⟨by first | rfl | (simp only [ceF, if_pos p_1, if_neg (Int32.not_lt.mpr p_1), if_pos c_2]; done) | (simp only [ceF, eq_true p_1, eq_false (Int32.not_lt.mpr p_1), eq_true c_2, ↓reduceIte]; done) | (simp only [ceF, eq_true p_1, eq_false (Int32.not_lt.mpr p_1), eq_true c_2, ↓reduceIte] <;> rfl) | (simp [ceF, p_1, c_2]; done), rfl⟩
  by_cases p_3 : x < 0
  · skip
    refine v_stk (st' := .int 0 :: []) (congrArg (fun z : Int32 => Value.int z :: []) (show thF (sc 16) x = 0 by simp only [thF, icF, if_neg p_1, if_pos p_3])) ?_
    refine v_if_ne (t := 11) (n := 8) C dX11_cell_5 (by decide) rfl (fun c_4 => ?_) (fun c_4 => ?_)
    · exact absurd c_4 (by decide)
    · skip
      refine v_bipush (n := 10) (v := -101) C dX11_cell_8 rfl (by decide) ?_
      exact v_iret C dX11_cell_10 rfl rfl ⟨by first | rfl | (simp only [ceF, if_neg p_1, if_pos (Int32.not_le.mp p_1), if_pos p_3, if_neg (Int32.not_le.mpr p_3), if_pos c_4]; done) | (simp only [ceF, eq_false p_1, eq_true (Int32.not_le.mp p_1), eq_true p_3, eq_false (Int32.not_le.mpr p_3), eq_true c_4, ↓reduceIte]; done) | (simp only [ceF, eq_false p_1, eq_true (Int32.not_le.mp p_1), eq_true p_3, eq_false (Int32.not_le.mpr p_3), eq_true c_4, ↓reduceIte] <;> rfl) | (simp [ceF, p_1, p_3, c_4]; done), rfl⟩
  by_cases p_5 : 12 ≤ x
  · skip
    refine v_stk (st' := .int 0 :: []) (congrArg (fun z : Int32 => Value.int z :: []) (show thF (sc 16) x = 0 by simp only [thF, icF, if_neg p_1, if_neg p_3, if_pos p_5])) ?_
    refine v_if_ne (t := 11) (n := 8) C dX11_cell_5 (by decide) rfl (fun c_6 => ?_) (fun c_6 => ?_)
    · exact absurd c_6 (by decide)
    · skip
      refine v_bipush (n := 10) (v := -101) C dX11_cell_8 rfl (by decide) ?_
      exact v_iret C dX11_cell_10 rfl rfl ⟨by first | rfl | (simp only [ceF, if_neg p_1, if_pos (Int32.not_le.mp p_1), if_neg p_3, if_pos (Int32.not_lt.mp p_3), if_pos p_5, if_neg (Int32.not_lt.mpr p_5), if_pos c_6]; done) | (simp only [ceF, eq_false p_1, eq_true (Int32.not_le.mp p_1), eq_false p_3, eq_true (Int32.not_lt.mp p_3), eq_true p_5, eq_false (Int32.not_lt.mpr p_5), eq_true c_6, ↓reduceIte]; done) | (simp only [ceF, eq_false p_1, eq_true (Int32.not_le.mp p_1), eq_false p_3, eq_true (Int32.not_lt.mp p_3), eq_true p_5, eq_false (Int32.not_lt.mpr p_5), eq_true c_6, ↓reduceIte] <;> rfl) | (simp [ceF, p_1, p_3, p_5, c_6]; done), rfl⟩
  refine v_stk (st' := .int 1 :: []) (congrArg (fun z : Int32 => Value.int z :: []) (show thF (sc 16) x = 1 by simp only [thF, icF, if_neg p_1, if_neg p_3, if_neg p_5])) ?_
  refine v_if_ne (t := 11) (n := 8) C dX11_cell_5 (by decide) rfl (fun c_7 => ?_) (fun c_7 => ?_)
  · skip
    refine v_iload_n (n := 12) C dX11_cell_11 rfl rfl rfl ?_
    by_cases c_12 : w = 0
    · refine v_tableIn (t := 44) C dX11_cell_12 (by rw [c_12]; decide) (by rw [c_12]; decide) (by rw [c_12]; rfl) (by decide) ?_
      refine v_aload_n (n := 45) C dX11_cell_44 rfl rfl rfl ?_
      refine v_get (n := 48) C dX11_cell_45 rfl fl_X11_59_X11 wl_c0 rfl ?_
      refine v_iload_n (n := 49) C dX11_cell_48 rfl rfl rfl ?_
      refine v_aload_n (n := 50) C dX11_cell_49 rfl rfl rfl ?_
      refine v_get (n := 53) C dX11_cell_50 rfl fl_X11_106_X11 wl_c0 rfl ?_
      refine v_go (n := 56) C (vRun_V (As := [.int x, .int (sc 3)]) (rest := []) C wl_c25 rfl lk_X11_109 im_X7_highAt se_X7_highAt dX11_cell_53 (c_highAt l D b (wl D b sc ar hn mh G) 25 24 (ar 24) (sc 16) (sc 17) wl_c25 wl_c24 x (sc 3)) wm_X7_highAt rfl rfl ⟨Nat.le_of_ble_eq_true rfl, Nat.le_of_ble_eq_true rfl⟩ ⟨Nat.le_of_ble_eq_true rfl, Nat.le_of_ble_eq_true rfl⟩ (Nat.le_of_ble_eq_true rfl)) rfl ?_
      rintro _ _ ⟨rfl, rfl⟩ -
      exact v_iret C dX11_cell_56 rfl rfl ⟨by first | rfl | (simp only [ceF, if_neg p_1, if_pos (Int32.not_le.mp p_1), if_neg p_3, if_pos (Int32.not_lt.mp p_3), if_neg p_5, if_pos (Int32.not_le.mp p_5), if_neg c_7, if_pos c_12]; done) | (simp only [ceF, eq_false p_1, eq_true (Int32.not_le.mp p_1), eq_false p_3, eq_true (Int32.not_lt.mp p_3), eq_false p_5, eq_true (Int32.not_le.mp p_5), eq_false c_7, eq_true c_12, ↓reduceIte]; done) | (simp only [ceF, eq_false p_1, eq_true (Int32.not_le.mp p_1), eq_false p_3, eq_true (Int32.not_lt.mp p_3), eq_false p_5, eq_true (Int32.not_le.mp p_5), eq_false c_7, eq_true c_12, ↓reduceIte] <;> rfl) | (simp [ceF, p_1, p_3, p_5, c_7, c_12]; done), rfl⟩
    by_cases c_13 : w = 1
    · refine v_tableIn (t := 57) C dX11_cell_12 (by rw [c_13]; decide) (by rw [c_13]; decide) (by rw [c_13]; rfl) (by decide) ?_
      refine v_aload_n (n := 58) C dX11_cell_57 rfl rfl rfl ?_
      refine v_get (n := 61) C dX11_cell_58 rfl fl_X11_59_X11 wl_c0 rfl ?_
      refine v_iload_n (n := 62) C dX11_cell_61 rfl rfl rfl ?_
      refine v_iconst (n := 63) (v := 0) C dX11_cell_62 rfl (by decide) ?_
      refine v_go (n := 66) C (vRun_V (As := [.int x, .int 0]) (rest := []) C wl_c25 rfl lk_X11_109 im_X7_highAt se_X7_highAt dX11_cell_63 (c_highAt l D b (wl D b sc ar hn mh G) 25 24 (ar 24) (sc 16) (sc 17) wl_c25 wl_c24 x 0) wm_X7_highAt rfl rfl ⟨Nat.le_of_ble_eq_true rfl, Nat.le_of_ble_eq_true rfl⟩ ⟨Nat.le_of_ble_eq_true rfl, Nat.le_of_ble_eq_true rfl⟩ (Nat.le_of_ble_eq_true rfl)) rfl ?_
      rintro _ _ ⟨rfl, rfl⟩ -
      exact v_iret C dX11_cell_66 rfl rfl ⟨by first | rfl | (simp only [ceF, if_neg p_1, if_pos (Int32.not_le.mp p_1), if_neg p_3, if_pos (Int32.not_lt.mp p_3), if_neg p_5, if_pos (Int32.not_le.mp p_5), if_neg c_7, if_neg c_12, if_pos c_13]; done) | (simp only [ceF, eq_false p_1, eq_true (Int32.not_le.mp p_1), eq_false p_3, eq_true (Int32.not_lt.mp p_3), eq_false p_5, eq_true (Int32.not_le.mp p_5), eq_false c_7, eq_false c_12, eq_true c_13, ↓reduceIte]; done) | (simp only [ceF, eq_false p_1, eq_true (Int32.not_le.mp p_1), eq_false p_3, eq_true (Int32.not_lt.mp p_3), eq_false p_5, eq_true (Int32.not_le.mp p_5), eq_false c_7, eq_false c_12, eq_true c_13, ↓reduceIte] <;> rfl) | (simp [ceF, p_1, p_3, p_5, c_7, c_12, c_13]; done), rfl⟩
    by_cases c_14 : w = 2
    · refine v_tableIn (t := 67) C dX11_cell_12 (by rw [c_14]; decide) (by rw [c_14]; decide) (by rw [c_14]; rfl) (by decide) ?_
      refine v_aload_n (n := 68) C dX11_cell_67 rfl rfl rfl ?_
      refine v_get (n := 71) C dX11_cell_68 rfl fl_X11_59_X11 wl_c0 rfl ?_
      refine v_iload_n (n := 72) C dX11_cell_71 rfl rfl rfl ?_
      refine v_go (n := 75) C (vRun_V (As := [.int x]) (rest := []) C wl_c25 rfl lk_X11_113 im_X7_cutHour se_X7_cutHour dX11_cell_72 (c_cutHour l D b (wl D b sc ar hn mh G) 25 24 (ar 24) (sc 16) (sc 17) wl_c25 wl_c24 x) wm_X7_cutHour rfl rfl ⟨Nat.le_of_ble_eq_true rfl, Nat.le_of_ble_eq_true rfl⟩ ⟨Nat.le_of_ble_eq_true rfl, Nat.le_of_ble_eq_true rfl⟩ (Nat.le_of_ble_eq_true rfl)) rfl ?_
      rintro _ _ ⟨rfl, rfl⟩ -
      exact v_iret C dX11_cell_75 rfl rfl ⟨by first | rfl | (simp only [ceF, if_neg p_1, if_pos (Int32.not_le.mp p_1), if_neg p_3, if_pos (Int32.not_lt.mp p_3), if_neg p_5, if_pos (Int32.not_le.mp p_5), if_neg c_7, if_neg c_12, if_neg c_13, if_pos c_14]; done) | (simp only [ceF, eq_false p_1, eq_true (Int32.not_le.mp p_1), eq_false p_3, eq_true (Int32.not_lt.mp p_3), eq_false p_5, eq_true (Int32.not_le.mp p_5), eq_false c_7, eq_false c_12, eq_false c_13, eq_true c_14, ↓reduceIte]; done) | (simp only [ceF, eq_false p_1, eq_true (Int32.not_le.mp p_1), eq_false p_3, eq_true (Int32.not_lt.mp p_3), eq_false p_5, eq_true (Int32.not_le.mp p_5), eq_false c_7, eq_false c_12, eq_false c_13, eq_true c_14, ↓reduceIte] <;> rfl) | (simp [ceF, p_1, p_3, p_5, c_7, c_12, c_13, c_14]; done), rfl⟩
    by_cases c_15 : w = 3
    · refine v_tableIn (t := 76) C dX11_cell_12 (by rw [c_15]; decide) (by rw [c_15]; decide) (by rw [c_15]; rfl) (by decide) ?_
      refine v_aload_n (n := 77) C dX11_cell_76 rfl rfl rfl ?_
      refine v_iload_n (n := 78) C dX11_cell_77 rfl rfl rfl ?_
      refine v_go (n := 81) C (vRun_V (As := [.int x]) (rest := []) C wl_c0 rfl lk_X11_116 im_X11_hullsOn se_X11_hullsOn dX11_cell_78 (c_hullsOn l D b sc ar hn mh G x hv hr) wm_X11_hullsOn rfl rfl ⟨Nat.le_of_ble_eq_true rfl, Nat.le_of_ble_eq_true rfl⟩ ⟨Nat.le_of_ble_eq_true rfl, Nat.le_of_ble_eq_true rfl⟩ (Nat.le_of_ble_eq_true rfl)) rfl ?_
      rintro _ _ ⟨rfl, rfl⟩ -
      exact v_iret C dX11_cell_81 rfl rfl ⟨by first | rfl | (simp only [ceF, if_neg p_1, if_pos (Int32.not_le.mp p_1), if_neg p_3, if_pos (Int32.not_lt.mp p_3), if_neg p_5, if_pos (Int32.not_le.mp p_5), if_neg c_7, if_neg c_12, if_neg c_13, if_neg c_14, if_pos c_15]; done) | (simp only [ceF, eq_false p_1, eq_true (Int32.not_le.mp p_1), eq_false p_3, eq_true (Int32.not_lt.mp p_3), eq_false p_5, eq_true (Int32.not_le.mp p_5), eq_false c_7, eq_false c_12, eq_false c_13, eq_false c_14, eq_true c_15, ↓reduceIte]; done) | (simp only [ceF, eq_false p_1, eq_true (Int32.not_le.mp p_1), eq_false p_3, eq_true (Int32.not_lt.mp p_3), eq_false p_5, eq_true (Int32.not_le.mp p_5), eq_false c_7, eq_false c_12, eq_false c_13, eq_false c_14, eq_true c_15, ↓reduceIte] <;> rfl) | (simp [ceF, p_1, p_3, p_5, c_7, c_12, c_13, c_14, c_15]; done), rfl⟩
    refine v_tableOut (t := 82) C dX11_cell_12 (sw_out4 c_12 c_13 c_14 c_15) (by decide) ?_
    refine v_bipush (n := 84) (v := -102) C dX11_cell_82 rfl (by decide) ?_
    exact v_iret C dX11_cell_84 rfl rfl ⟨by first | rfl | (simp only [ceF, if_neg p_1, if_pos (Int32.not_le.mp p_1), if_neg p_3, if_pos (Int32.not_lt.mp p_3), if_neg p_5, if_pos (Int32.not_le.mp p_5), if_neg c_7, if_neg c_12, if_neg c_13, if_neg c_14, if_neg c_15]; done) | (simp only [ceF, eq_false p_1, eq_true (Int32.not_le.mp p_1), eq_false p_3, eq_true (Int32.not_lt.mp p_3), eq_false p_5, eq_true (Int32.not_le.mp p_5), eq_false c_7, eq_false c_12, eq_false c_13, eq_false c_14, eq_false c_15, ↓reduceIte]; done) | (simp only [ceF, eq_false p_1, eq_true (Int32.not_le.mp p_1), eq_false p_3, eq_true (Int32.not_lt.mp p_3), eq_false p_5, eq_true (Int32.not_le.mp p_5), eq_false c_7, eq_false c_12, eq_false c_13, eq_false c_14, eq_false c_15, ↓reduceIte] <;> rfl) | (simp [ceF, p_1, p_3, p_5, c_7, c_12, c_13, c_14, c_15]; done), rfl⟩
  · exact absurd c_7 (by decide)
set_option maxHeartbeats 4000000 in
set_option maxRecDepth 100000 in
theorem c_about (l : Launch) (D : va_G) (b : Nat) (sc : Nat → Int32) (ar : Nat → Nat → Int32) (hn : Nat → Option Nat) (mh : Int64) (G : List va_E) (x w : Int32) (hv : HV) (hr : HVr hn G hv) : Con l yX11_about cX11_about 4 (some .int) 3 71 D b 0 0 (wl D b sc ar hn mh G) [.ref (b + 0), .int x, .int w] (fun r es' => r = some (.int (aboF sc ar hv x w)) ∧ (wl D b sc ar hn mh G) = es') := by
  refine con_of (by decide) (Nat.le_of_ble_eq_true rfl) (fun p e s m args below meth c C hsz => ?_)
  have C : vC p s m args meth c cX11_about 4 RX11 "about" (some .int) D b := C
  change V p l e _ s m args below meth c D b 4 _ 0 0 (wl D b sc ar hn mh G) [(0, .ref (b + 0)), (1, .int x), (2, .int w)] [] 0
  refine v_aload_n (n := 1) C dX11_about_0 rfl rfl rfl ?_
  refine v_iload_n (n := 2) C dX11_about_1 rfl rfl rfl ?_
  refine v_go (n := 5) C (vRun_V (As := [.int x]) (rest := []) C wl_c0 rfl lk_X11_133 im_X11_hullNumbered se_X11_hullNumbered dX11_about_2 (c_hullNumbered l D b sc ar hn mh G x hv hr) wm_X11_hullNumbered rfl rfl ⟨Nat.le_of_ble_eq_true rfl, Nat.le_of_ble_eq_true rfl⟩ ⟨Nat.le_of_ble_eq_true rfl, Nat.le_of_ble_eq_true rfl⟩ (Nat.le_of_ble_eq_true rfl)) rfl ?_
  rintro _ _ ⟨⟨hq_1, rfl⟩ | ⟨k1, dr1, ce1, sa1, u1, hq_1, hu1, hk1, hg1, rfl⟩, rfl⟩ -
  · skip
    refine v_astore_nN (n := 6) (lv' := [(3, .null), (0, .ref (b + 0)), (1, .int x), (2, .int w)]) C dX11_about_5 rfl rfl (Nat.le_of_ble_eq_true rfl) rfl ?_
    refine v_aload_nN (n := 7) C dX11_about_6 rfl rfl rfl ?_
    refine v_ifnonnullN (n := 10) C dX11_about_7 rfl ?_
    refine v_bipush (n := 12) (v := -101) C dX11_about_10 rfl (by decide) ?_
    exact v_iret C dX11_about_12 rfl rfl ⟨by first | rfl | (simp only [aboF, abF, hq_1]; done) | (simp only [aboF, abF, hq_1, ↓reduceIte]; done) | (simp only [aboF, abF, hq_1, ↓reduceIte] <;> rfl) | (simp [aboF, abF, hq_1]; done), rfl⟩
  · skip
    refine v_astore_n (n := 6) (lv' := [(3, .ref (b + (u1 + 40))), (0, .ref (b + 0)), (1, .int x), (2, .int w)]) C dX11_about_5 rfl rfl (Nat.le_of_ble_eq_true rfl) rfl ?_
    refine v_aload_n (n := 7) C dX11_about_6 rfl rfl rfl ?_
    refine v_ifnonnull (t := 13) C dX11_about_7 (by decide) ?_
    refine v_iload_n (n := 14) C dX11_about_13 rfl rfl rfl ?_
    by_cases c_16 : w = 0
    · refine v_tableIn (t := 84) C dX11_about_14 (by rw [c_16]; decide) (by rw [c_16]; decide) (by rw [c_16]; rfl) (by decide) ?_
      refine v_aload_n (n := 85) C dX11_about_84 rfl rfl rfl ?_
      refine v_go (n := 88) C (vr_X11_137 (rest := []) C hk1 (wl_tail hg1) dX11_about_85 ⟨Nat.le_of_ble_eq_true rfl, Nat.le_of_ble_eq_true rfl⟩ ⟨Nat.le_of_ble_eq_true rfl, Nat.le_of_ble_eq_true rfl⟩ (Nat.le_of_ble_eq_true rfl)) rfl ?_
      rintro _ _ ⟨rfl, rfl⟩ -
      exact v_iret C dX11_about_88 rfl rfl ⟨by first | rfl | (simp only [aboF, abF, hq_1, if_pos c_16]; done) | (simp only [aboF, abF, hq_1, eq_true c_16, ↓reduceIte]; done) | (simp only [aboF, abF, hq_1, eq_true c_16, ↓reduceIte] <;> rfl) | (simp [aboF, abF, hq_1, c_16]; done), rfl⟩
    by_cases c_17 : w = 1
    · refine v_tableIn (t := 89) C dX11_about_14 (by rw [c_17]; decide) (by rw [c_17]; decide) (by rw [c_17]; rfl) (by decide) ?_
      refine v_aload_n (n := 90) C dX11_about_89 rfl rfl rfl ?_
      refine v_get (n := 93) C dX11_about_90 rfl (flk_X11_140 hk1) (wl_tail hg1) rfl ?_
      exact v_iret C dX11_about_93 rfl rfl ⟨by first | rfl | (simp only [aboF, abF, hq_1, if_neg c_16, if_pos c_17]; done) | (simp only [aboF, abF, hq_1, eq_false c_16, eq_true c_17, ↓reduceIte]; done) | (simp only [aboF, abF, hq_1, eq_false c_16, eq_true c_17, ↓reduceIte] <;> rfl) | (simp [aboF, abF, hq_1, c_16, c_17]; done), rfl⟩
    by_cases c_18 : w = 2
    · refine v_tableIn (t := 94) C dX11_about_14 (by rw [c_18]; decide) (by rw [c_18]; decide) (by rw [c_18]; rfl) (by decide) ?_
      refine v_aload_n (n := 95) C dX11_about_94 rfl rfl rfl ?_
      refine v_get (n := 98) C dX11_about_95 rfl (flk_X11_143 hk1) (wl_tail hg1) rfl ?_
      exact v_iret C dX11_about_98 rfl rfl ⟨by first | rfl | (simp only [aboF, abF, hq_1, if_neg c_16, if_neg c_17, if_pos c_18]; done) | (simp only [aboF, abF, hq_1, eq_false c_16, eq_false c_17, eq_true c_18, ↓reduceIte]; done) | (simp only [aboF, abF, hq_1, eq_false c_16, eq_false c_17, eq_true c_18, ↓reduceIte] <;> rfl) | (simp [aboF, abF, hq_1, c_16, c_17, c_18]; done), rfl⟩
    by_cases c_19 : w = 3
    · refine v_tableIn (t := 99) C dX11_about_14 (by rw [c_19]; decide) (by rw [c_19]; decide) (by rw [c_19]; rfl) (by decide) ?_
      refine v_aload_n (n := 100) C dX11_about_99 rfl rfl rfl ?_
      refine v_get (n := 103) C dX11_about_100 rfl fl_X11_59_X11 wl_c0 rfl ?_
      refine v_aload_n (n := 104) C dX11_about_103 rfl rfl rfl ?_
      refine v_aload_n (n := 105) C dX11_about_104 rfl rfl rfl ?_
      refine v_get (n := 108) C dX11_about_105 rfl (flk_X11_143 hk1) (wl_tail hg1) rfl ?_
      refine v_aload_n (n := 109) C dX11_about_108 rfl rfl rfl ?_
      refine v_get (n := 112) C dX11_about_109 rfl fl_X11_106_X11 wl_c0 rfl ?_
      refine v_go (n := 115) C (vRun_V (As := [.ref (b + (u1 + 40)), .int ce1, .int (sc 3)]) (rest := []) C wl_c25 rfl lk_X11_146 im_X7_floats se_X7_floats dX11_about_112 (c_floats l D b (wl D b sc ar hn mh G) 25 24 (ar 24) (sc 16) (sc 17) wl_c25 wl_c24 (u1 + 40) k1 dr1 ce1 sa1 hk1 (wl_tail hg1) ce1 (sc 3)) wm_X7_floats rfl rfl ⟨Nat.le_of_ble_eq_true rfl, Nat.le_of_ble_eq_true rfl⟩ ⟨Nat.le_of_ble_eq_true rfl, Nat.le_of_ble_eq_true rfl⟩ (Nat.le_of_ble_eq_true rfl)) rfl ?_
      rintro _ _ ⟨rfl, rfl⟩ -
      by_cases p_20 : flP (ar 24) (sc 16) k1 dr1 ce1 (sc 3)
      · skip
        refine v_stk (st' := .int 1 :: []) (congrArg (fun z : Int32 => Value.int z :: []) (if_pos p_20 : (if flP (ar 24) (sc 16) k1 dr1 ce1 (sc 3) then (1 : Int32) else 0) = 1)) ?_
        refine v_if_eq (t := 122) (n := 118) C dX11_about_115 (by decide) rfl (fun c_21 => ?_) (fun c_21 => ?_)
        · exact absurd c_21 (by decide)
        · skip
          refine v_iconst (n := 119) (v := 0) C dX11_about_118 rfl (by decide) ?_
          refine v_goto (t := 123) C dX11_about_119 (by decide) ?_
          exact v_iret C dX11_about_123 rfl rfl ⟨by first | rfl | (simp only [aboF, abF, hq_1, if_neg c_16, if_neg c_17, if_neg c_18, if_pos c_19, if_pos p_20, if_neg c_21]; done) | (simp only [aboF, abF, hq_1, eq_false c_16, eq_false c_17, eq_false c_18, eq_true c_19, eq_true p_20, eq_false c_21, ↓reduceIte]; done) | (simp only [aboF, abF, hq_1, eq_false c_16, eq_false c_17, eq_false c_18, eq_true c_19, eq_true p_20, eq_false c_21, ↓reduceIte] <;> rfl) | (simp [aboF, abF, hq_1, c_16, c_17, c_18, c_19, p_20, c_21]; done), rfl⟩
      · skip
        refine v_stk (st' := .int 0 :: []) (congrArg (fun z : Int32 => Value.int z :: []) (if_neg p_20 : (if flP (ar 24) (sc 16) k1 dr1 ce1 (sc 3) then (1 : Int32) else 0) = 0)) ?_
        refine v_if_eq (t := 122) (n := 118) C dX11_about_115 (by decide) rfl (fun c_22 => ?_) (fun c_22 => ?_)
        · skip
          refine v_iconst (n := 123) (v := 1) C dX11_about_122 rfl (by decide) ?_
          exact v_iret C dX11_about_123 rfl rfl ⟨by first | rfl | (simp only [aboF, abF, hq_1, if_neg c_16, if_neg c_17, if_neg c_18, if_pos c_19, if_neg p_20, if_pos c_22]; done) | (simp only [aboF, abF, hq_1, eq_false c_16, eq_false c_17, eq_false c_18, eq_true c_19, eq_false p_20, eq_true c_22, ↓reduceIte]; done) | (simp only [aboF, abF, hq_1, eq_false c_16, eq_false c_17, eq_false c_18, eq_true c_19, eq_false p_20, eq_true c_22, ↓reduceIte] <;> rfl) | (simp [aboF, abF, hq_1, c_16, c_17, c_18, c_19, p_20, c_22]; done), rfl⟩
        · exact absurd c_22 (by decide)
    by_cases c_23 : w = 4
    · refine v_tableIn (t := 124) C dX11_about_14 (by rw [c_23]; decide) (by rw [c_23]; decide) (by rw [c_23]; rfl) (by decide) ?_
      refine v_aload_n (n := 125) C dX11_about_124 rfl rfl rfl ?_
      refine v_get (n := 128) C dX11_about_125 rfl (flk_X11_150 hk1) (wl_tail hg1) rfl ?_
      exact v_iret C dX11_about_128 rfl rfl ⟨by first | rfl | (simp only [aboF, abF, hq_1, if_neg c_16, if_neg c_17, if_neg c_18, if_neg c_19, if_pos c_23]; done) | (simp only [aboF, abF, hq_1, eq_false c_16, eq_false c_17, eq_false c_18, eq_false c_19, eq_true c_23, ↓reduceIte]; done) | (simp only [aboF, abF, hq_1, eq_false c_16, eq_false c_17, eq_false c_18, eq_false c_19, eq_true c_23, ↓reduceIte] <;> rfl) | (simp [aboF, abF, hq_1, c_16, c_17, c_18, c_19, c_23]; done), rfl⟩
    by_cases c_24 : w = 5
    · refine v_tableIn (t := 150) C dX11_about_14 (by rw [c_24]; decide) (by rw [c_24]; decide) (by rw [c_24]; rfl) (by decide) ?_
      refine v_bipush (n := 152) (v := -102) C dX11_about_150 rfl (by decide) ?_
      exact v_iret C dX11_about_152 rfl rfl ⟨by first | rfl | (simp only [aboF, abF, hq_1, if_neg c_16, if_neg c_17, if_neg c_18, if_neg c_19, if_neg c_23, if_pos c_24]; done) | (simp only [aboF, abF, hq_1, eq_false c_16, eq_false c_17, eq_false c_18, eq_false c_19, eq_false c_23, eq_true c_24, ↓reduceIte]; done) | (simp only [aboF, abF, hq_1, eq_false c_16, eq_false c_17, eq_false c_18, eq_false c_19, eq_false c_23, eq_true c_24, ↓reduceIte] <;> rfl) | (simp [aboF, abF, hq_1, c_16, c_17, c_18, c_19, c_23, c_24]; done), rfl⟩
    by_cases c_25 : w = 6
    · refine v_tableIn (t := 150) C dX11_about_14 (by rw [c_25]; decide) (by rw [c_25]; decide) (by rw [c_25]; rfl) (by decide) ?_
      refine v_bipush (n := 152) (v := -102) C dX11_about_150 rfl (by decide) ?_
      exact v_iret C dX11_about_152 rfl rfl ⟨by first | rfl | (simp only [aboF, abF, hq_1, if_neg c_16, if_neg c_17, if_neg c_18, if_neg c_19, if_neg c_23, if_neg c_24, if_pos c_25]; done) | (simp only [aboF, abF, hq_1, eq_false c_16, eq_false c_17, eq_false c_18, eq_false c_19, eq_false c_23, eq_false c_24, eq_true c_25, ↓reduceIte]; done) | (simp only [aboF, abF, hq_1, eq_false c_16, eq_false c_17, eq_false c_18, eq_false c_19, eq_false c_23, eq_false c_24, eq_true c_25, ↓reduceIte] <;> rfl) | (simp [aboF, abF, hq_1, c_16, c_17, c_18, c_19, c_23, c_24, c_25]; done), rfl⟩
    by_cases c_26 : w = 7
    · refine v_tableIn (t := 150) C dX11_about_14 (by rw [c_26]; decide) (by rw [c_26]; decide) (by rw [c_26]; rfl) (by decide) ?_
      refine v_bipush (n := 152) (v := -102) C dX11_about_150 rfl (by decide) ?_
      exact v_iret C dX11_about_152 rfl rfl ⟨by first | rfl | (simp only [aboF, abF, hq_1, if_neg c_16, if_neg c_17, if_neg c_18, if_neg c_19, if_neg c_23, if_neg c_24, if_neg c_25, if_pos c_26]; done) | (simp only [aboF, abF, hq_1, eq_false c_16, eq_false c_17, eq_false c_18, eq_false c_19, eq_false c_23, eq_false c_24, eq_false c_25, eq_true c_26, ↓reduceIte]; done) | (simp only [aboF, abF, hq_1, eq_false c_16, eq_false c_17, eq_false c_18, eq_false c_19, eq_false c_23, eq_false c_24, eq_false c_25, eq_true c_26, ↓reduceIte] <;> rfl) | (simp [aboF, abF, hq_1, c_16, c_17, c_18, c_19, c_23, c_24, c_25, c_26]; done), rfl⟩
    by_cases c_27 : w = 8
    · refine v_tableIn (t := 150) C dX11_about_14 (by rw [c_27]; decide) (by rw [c_27]; decide) (by rw [c_27]; rfl) (by decide) ?_
      refine v_bipush (n := 152) (v := -102) C dX11_about_150 rfl (by decide) ?_
      exact v_iret C dX11_about_152 rfl rfl ⟨by first | rfl | (simp only [aboF, abF, hq_1, if_neg c_16, if_neg c_17, if_neg c_18, if_neg c_19, if_neg c_23, if_neg c_24, if_neg c_25, if_neg c_26, if_pos c_27]; done) | (simp only [aboF, abF, hq_1, eq_false c_16, eq_false c_17, eq_false c_18, eq_false c_19, eq_false c_23, eq_false c_24, eq_false c_25, eq_false c_26, eq_true c_27, ↓reduceIte]; done) | (simp only [aboF, abF, hq_1, eq_false c_16, eq_false c_17, eq_false c_18, eq_false c_19, eq_false c_23, eq_false c_24, eq_false c_25, eq_false c_26, eq_true c_27, ↓reduceIte] <;> rfl) | (simp [aboF, abF, hq_1, c_16, c_17, c_18, c_19, c_23, c_24, c_25, c_26, c_27]; done), rfl⟩
    by_cases c_28 : w = 9
    · refine v_tableIn (t := 150) C dX11_about_14 (by rw [c_28]; decide) (by rw [c_28]; decide) (by rw [c_28]; rfl) (by decide) ?_
      refine v_bipush (n := 152) (v := -102) C dX11_about_150 rfl (by decide) ?_
      exact v_iret C dX11_about_152 rfl rfl ⟨by first | rfl | (simp only [aboF, abF, hq_1, if_neg c_16, if_neg c_17, if_neg c_18, if_neg c_19, if_neg c_23, if_neg c_24, if_neg c_25, if_neg c_26, if_neg c_27, if_pos c_28]; done) | (simp only [aboF, abF, hq_1, eq_false c_16, eq_false c_17, eq_false c_18, eq_false c_19, eq_false c_23, eq_false c_24, eq_false c_25, eq_false c_26, eq_false c_27, eq_true c_28, ↓reduceIte]; done) | (simp only [aboF, abF, hq_1, eq_false c_16, eq_false c_17, eq_false c_18, eq_false c_19, eq_false c_23, eq_false c_24, eq_false c_25, eq_false c_26, eq_false c_27, eq_true c_28, ↓reduceIte] <;> rfl) | (simp [aboF, abF, hq_1, c_16, c_17, c_18, c_19, c_23, c_24, c_25, c_26, c_27, c_28]; done), rfl⟩
    by_cases c_29 : w = 10
    · refine v_tableIn (t := 129) C dX11_about_14 (by rw [c_29]; decide) (by rw [c_29]; decide) (by rw [c_29]; rfl) (by decide) ?_
      refine v_aload_n (n := 130) C dX11_about_129 rfl rfl rfl ?_
      refine v_get (n := 133) C dX11_about_130 rfl fl_X11_59_X11 wl_c0 rfl ?_
      refine v_aload_n (n := 134) C dX11_about_133 rfl rfl rfl ?_
      refine v_aload_n (n := 135) C dX11_about_134 rfl rfl rfl ?_
      refine v_get (n := 138) C dX11_about_135 rfl (flk_X11_143 hk1) (wl_tail hg1) rfl ?_
      refine v_iload_n (n := 139) C dX11_about_138 rfl rfl rfl ?_
      refine v_bipush (n := 141) (v := 10) C dX11_about_139 rfl (by decide) ?_
      refine v_isub (n := 142) C dX11_about_141 rfl ?_
      refine v_aload_n (n := 143) C dX11_about_142 rfl rfl rfl ?_
      refine v_get (n := 146) C dX11_about_143 rfl fl_X11_106_X11 wl_c0 rfl ?_
      refine v_go (n := 149) C (vRun_V (As := [.ref (b + (u1 + 40)), .int ce1, .int (w - 10), .int (sc 3)]) (rest := []) C wl_c25 rfl lk_X11_153 im_X7_hoursToSail se_X7_hoursToSail dX11_about_146 (c_hoursToSail l D b (wl D b sc ar hn mh G) 25 24 (ar 24) (sc 16) (sc 17) wl_c25 wl_c24 (u1 + 40) k1 dr1 ce1 sa1 hk1 (wl_tail hg1) ce1 (w - 10) (sc 3)) wm_X7_hoursToSail rfl rfl ⟨Nat.le_of_ble_eq_true rfl, Nat.le_of_ble_eq_true rfl⟩ ⟨Nat.le_of_ble_eq_true rfl, Nat.le_of_ble_eq_true rfl⟩ (Nat.le_of_ble_eq_true rfl)) rfl ?_
      rintro _ _ ⟨rfl, rfl⟩ -
      exact v_iret C dX11_about_149 rfl rfl ⟨by first | rfl | (simp only [aboF, abF, hq_1, if_neg c_16, if_neg c_17, if_neg c_18, if_neg c_19, if_neg c_23, if_neg c_24, if_neg c_25, if_neg c_26, if_neg c_27, if_neg c_28, if_pos c_29]; done) | (simp only [aboF, abF, hq_1, eq_false c_16, eq_false c_17, eq_false c_18, eq_false c_19, eq_false c_23, eq_false c_24, eq_false c_25, eq_false c_26, eq_false c_27, eq_false c_28, eq_true c_29, ↓reduceIte]; done) | (simp only [aboF, abF, hq_1, eq_false c_16, eq_false c_17, eq_false c_18, eq_false c_19, eq_false c_23, eq_false c_24, eq_false c_25, eq_false c_26, eq_false c_27, eq_false c_28, eq_true c_29, ↓reduceIte] <;> rfl) | (simp [aboF, abF, hq_1, c_16, c_17, c_18, c_19, c_23, c_24, c_25, c_26, c_27, c_28, c_29]; done), rfl⟩
    by_cases c_30 : w = 11
    · refine v_tableIn (t := 129) C dX11_about_14 (by rw [c_30]; decide) (by rw [c_30]; decide) (by rw [c_30]; rfl) (by decide) ?_
      refine v_aload_n (n := 130) C dX11_about_129 rfl rfl rfl ?_
      refine v_get (n := 133) C dX11_about_130 rfl fl_X11_59_X11 wl_c0 rfl ?_
      refine v_aload_n (n := 134) C dX11_about_133 rfl rfl rfl ?_
      refine v_aload_n (n := 135) C dX11_about_134 rfl rfl rfl ?_
      refine v_get (n := 138) C dX11_about_135 rfl (flk_X11_143 hk1) (wl_tail hg1) rfl ?_
      refine v_iload_n (n := 139) C dX11_about_138 rfl rfl rfl ?_
      refine v_bipush (n := 141) (v := 10) C dX11_about_139 rfl (by decide) ?_
      refine v_isub (n := 142) C dX11_about_141 rfl ?_
      refine v_aload_n (n := 143) C dX11_about_142 rfl rfl rfl ?_
      refine v_get (n := 146) C dX11_about_143 rfl fl_X11_106_X11 wl_c0 rfl ?_
      refine v_go (n := 149) C (vRun_V (As := [.ref (b + (u1 + 40)), .int ce1, .int (w - 10), .int (sc 3)]) (rest := []) C wl_c25 rfl lk_X11_153 im_X7_hoursToSail se_X7_hoursToSail dX11_about_146 (c_hoursToSail l D b (wl D b sc ar hn mh G) 25 24 (ar 24) (sc 16) (sc 17) wl_c25 wl_c24 (u1 + 40) k1 dr1 ce1 sa1 hk1 (wl_tail hg1) ce1 (w - 10) (sc 3)) wm_X7_hoursToSail rfl rfl ⟨Nat.le_of_ble_eq_true rfl, Nat.le_of_ble_eq_true rfl⟩ ⟨Nat.le_of_ble_eq_true rfl, Nat.le_of_ble_eq_true rfl⟩ (Nat.le_of_ble_eq_true rfl)) rfl ?_
      rintro _ _ ⟨rfl, rfl⟩ -
      exact v_iret C dX11_about_149 rfl rfl ⟨by first | rfl | (simp only [aboF, abF, hq_1, if_neg c_16, if_neg c_17, if_neg c_18, if_neg c_19, if_neg c_23, if_neg c_24, if_neg c_25, if_neg c_26, if_neg c_27, if_neg c_28, if_neg c_29, if_pos c_30]; done) | (simp only [aboF, abF, hq_1, eq_false c_16, eq_false c_17, eq_false c_18, eq_false c_19, eq_false c_23, eq_false c_24, eq_false c_25, eq_false c_26, eq_false c_27, eq_false c_28, eq_false c_29, eq_true c_30, ↓reduceIte]; done) | (simp only [aboF, abF, hq_1, eq_false c_16, eq_false c_17, eq_false c_18, eq_false c_19, eq_false c_23, eq_false c_24, eq_false c_25, eq_false c_26, eq_false c_27, eq_false c_28, eq_false c_29, eq_true c_30, ↓reduceIte] <;> rfl) | (simp [aboF, abF, hq_1, c_16, c_17, c_18, c_19, c_23, c_24, c_25, c_26, c_27, c_28, c_29, c_30]; done), rfl⟩
    by_cases c_31 : w = 12
    · refine v_tableIn (t := 129) C dX11_about_14 (by rw [c_31]; decide) (by rw [c_31]; decide) (by rw [c_31]; rfl) (by decide) ?_
      refine v_aload_n (n := 130) C dX11_about_129 rfl rfl rfl ?_
      refine v_get (n := 133) C dX11_about_130 rfl fl_X11_59_X11 wl_c0 rfl ?_
      refine v_aload_n (n := 134) C dX11_about_133 rfl rfl rfl ?_
      refine v_aload_n (n := 135) C dX11_about_134 rfl rfl rfl ?_
      refine v_get (n := 138) C dX11_about_135 rfl (flk_X11_143 hk1) (wl_tail hg1) rfl ?_
      refine v_iload_n (n := 139) C dX11_about_138 rfl rfl rfl ?_
      refine v_bipush (n := 141) (v := 10) C dX11_about_139 rfl (by decide) ?_
      refine v_isub (n := 142) C dX11_about_141 rfl ?_
      refine v_aload_n (n := 143) C dX11_about_142 rfl rfl rfl ?_
      refine v_get (n := 146) C dX11_about_143 rfl fl_X11_106_X11 wl_c0 rfl ?_
      refine v_go (n := 149) C (vRun_V (As := [.ref (b + (u1 + 40)), .int ce1, .int (w - 10), .int (sc 3)]) (rest := []) C wl_c25 rfl lk_X11_153 im_X7_hoursToSail se_X7_hoursToSail dX11_about_146 (c_hoursToSail l D b (wl D b sc ar hn mh G) 25 24 (ar 24) (sc 16) (sc 17) wl_c25 wl_c24 (u1 + 40) k1 dr1 ce1 sa1 hk1 (wl_tail hg1) ce1 (w - 10) (sc 3)) wm_X7_hoursToSail rfl rfl ⟨Nat.le_of_ble_eq_true rfl, Nat.le_of_ble_eq_true rfl⟩ ⟨Nat.le_of_ble_eq_true rfl, Nat.le_of_ble_eq_true rfl⟩ (Nat.le_of_ble_eq_true rfl)) rfl ?_
      rintro _ _ ⟨rfl, rfl⟩ -
      exact v_iret C dX11_about_149 rfl rfl ⟨by first | rfl | (simp only [aboF, abF, hq_1, if_neg c_16, if_neg c_17, if_neg c_18, if_neg c_19, if_neg c_23, if_neg c_24, if_neg c_25, if_neg c_26, if_neg c_27, if_neg c_28, if_neg c_29, if_neg c_30, if_pos c_31]; done) | (simp only [aboF, abF, hq_1, eq_false c_16, eq_false c_17, eq_false c_18, eq_false c_19, eq_false c_23, eq_false c_24, eq_false c_25, eq_false c_26, eq_false c_27, eq_false c_28, eq_false c_29, eq_false c_30, eq_true c_31, ↓reduceIte]; done) | (simp only [aboF, abF, hq_1, eq_false c_16, eq_false c_17, eq_false c_18, eq_false c_19, eq_false c_23, eq_false c_24, eq_false c_25, eq_false c_26, eq_false c_27, eq_false c_28, eq_false c_29, eq_false c_30, eq_true c_31, ↓reduceIte] <;> rfl) | (simp [aboF, abF, hq_1, c_16, c_17, c_18, c_19, c_23, c_24, c_25, c_26, c_27, c_28, c_29, c_30, c_31]; done), rfl⟩
    by_cases c_32 : w = 13
    · refine v_tableIn (t := 129) C dX11_about_14 (by rw [c_32]; decide) (by rw [c_32]; decide) (by rw [c_32]; rfl) (by decide) ?_
      refine v_aload_n (n := 130) C dX11_about_129 rfl rfl rfl ?_
      refine v_get (n := 133) C dX11_about_130 rfl fl_X11_59_X11 wl_c0 rfl ?_
      refine v_aload_n (n := 134) C dX11_about_133 rfl rfl rfl ?_
      refine v_aload_n (n := 135) C dX11_about_134 rfl rfl rfl ?_
      refine v_get (n := 138) C dX11_about_135 rfl (flk_X11_143 hk1) (wl_tail hg1) rfl ?_
      refine v_iload_n (n := 139) C dX11_about_138 rfl rfl rfl ?_
      refine v_bipush (n := 141) (v := 10) C dX11_about_139 rfl (by decide) ?_
      refine v_isub (n := 142) C dX11_about_141 rfl ?_
      refine v_aload_n (n := 143) C dX11_about_142 rfl rfl rfl ?_
      refine v_get (n := 146) C dX11_about_143 rfl fl_X11_106_X11 wl_c0 rfl ?_
      refine v_go (n := 149) C (vRun_V (As := [.ref (b + (u1 + 40)), .int ce1, .int (w - 10), .int (sc 3)]) (rest := []) C wl_c25 rfl lk_X11_153 im_X7_hoursToSail se_X7_hoursToSail dX11_about_146 (c_hoursToSail l D b (wl D b sc ar hn mh G) 25 24 (ar 24) (sc 16) (sc 17) wl_c25 wl_c24 (u1 + 40) k1 dr1 ce1 sa1 hk1 (wl_tail hg1) ce1 (w - 10) (sc 3)) wm_X7_hoursToSail rfl rfl ⟨Nat.le_of_ble_eq_true rfl, Nat.le_of_ble_eq_true rfl⟩ ⟨Nat.le_of_ble_eq_true rfl, Nat.le_of_ble_eq_true rfl⟩ (Nat.le_of_ble_eq_true rfl)) rfl ?_
      rintro _ _ ⟨rfl, rfl⟩ -
      exact v_iret C dX11_about_149 rfl rfl ⟨by first | rfl | (simp only [aboF, abF, hq_1, if_neg c_16, if_neg c_17, if_neg c_18, if_neg c_19, if_neg c_23, if_neg c_24, if_neg c_25, if_neg c_26, if_neg c_27, if_neg c_28, if_neg c_29, if_neg c_30, if_neg c_31, if_pos c_32]; done) | (simp only [aboF, abF, hq_1, eq_false c_16, eq_false c_17, eq_false c_18, eq_false c_19, eq_false c_23, eq_false c_24, eq_false c_25, eq_false c_26, eq_false c_27, eq_false c_28, eq_false c_29, eq_false c_30, eq_false c_31, eq_true c_32, ↓reduceIte]; done) | (simp only [aboF, abF, hq_1, eq_false c_16, eq_false c_17, eq_false c_18, eq_false c_19, eq_false c_23, eq_false c_24, eq_false c_25, eq_false c_26, eq_false c_27, eq_false c_28, eq_false c_29, eq_false c_30, eq_false c_31, eq_true c_32, ↓reduceIte] <;> rfl) | (simp [aboF, abF, hq_1, c_16, c_17, c_18, c_19, c_23, c_24, c_25, c_26, c_27, c_28, c_29, c_30, c_31, c_32]; done), rfl⟩
    refine v_tableOut (t := 150) C dX11_about_14 (sw_out14 c_16 c_17 c_18 c_19 c_23 c_24 c_25 c_26 c_27 c_28 c_29 c_30 c_31 c_32) (by decide) ?_
    refine v_bipush (n := 152) (v := -102) C dX11_about_150 rfl (by decide) ?_
    exact v_iret C dX11_about_152 rfl rfl ⟨by first | rfl | (simp only [aboF, abF, hq_1, if_neg c_16, if_neg c_17, if_neg c_18, if_neg c_19, if_neg c_23, if_neg c_24, if_neg c_25, if_neg c_26, if_neg c_27, if_neg c_28, if_neg c_29, if_neg c_30, if_neg c_31, if_neg c_32]; done) | (simp only [aboF, abF, hq_1, eq_false c_16, eq_false c_17, eq_false c_18, eq_false c_19, eq_false c_23, eq_false c_24, eq_false c_25, eq_false c_26, eq_false c_27, eq_false c_28, eq_false c_29, eq_false c_30, eq_false c_31, eq_false c_32, ↓reduceIte]; done) | (simp only [aboF, abF, hq_1, eq_false c_16, eq_false c_17, eq_false c_18, eq_false c_19, eq_false c_23, eq_false c_24, eq_false c_25, eq_false c_26, eq_false c_27, eq_false c_28, eq_false c_29, eq_false c_30, eq_false c_31, eq_false c_32, ↓reduceIte] <;> rfl) | (simp [aboF, abF, hq_1, c_16, c_17, c_18, c_19, c_23, c_24, c_25, c_26, c_27, c_28, c_29, c_30, c_31, c_32]; done), rfl⟩
