theorem law_more {i L : Nat} (hi : i ≤ 65) (hL : L ≤ 256) (h : ¬ nI L - 4 < nI (4 * i)) : 4 * i + 4 ≤ L := by
  rw [Int32.lt_iff_toInt_lt, show (4 : Int32) = nI 4 from rfl, pk_sub_toInt (by omega) (by decide), nI_toInt (by omega)] at h
  omega
set_option maxHeartbeats 4000000 in
set_option maxRecDepth 100000 in
theorem law_head {p : Program} {l : Launch} {e : Env} {s : State} {m : MethodId} {below : List Frame} {meth : Method} {c : Code} {D : va_G} {b bb L : Nat} {xs : Nat → Int32} {rt : Option FieldType} {nm : String} (C : vC p s m #[.ref bb] meth c cL_law 4 RL nm rt D b) (X : va_X bb L xs s s.heap) (hbl : bb < s.heap.size) (hge : s.heap.size ≤ b) (hL : L ≤ 256) (hr : meth.sig.returnType = ret) {i : Nat} (hi65 : i ≤ 65) {sc : Nat → Int32} {ar : Nat → Nat → Int32} {hn : Nat → Option Nat} {mh : Int64} {G : List va_E} {cells slots : Nat} (hc : cells ≤ 100 + i) (hs : slots ≤ 1000 + 3 * i) (K : 4 * i + 4 ≤ L → V p l e room_1 s m #[.ref bb] below meth c D b 4 (lw_Z below #[.ref bb] s) cells slots (wl D b sc ar hn mh G) [(3, .int (nI (4 * i))), (2, .ref (b + 27)), (1, .ref (b + 0)), (0, .ref bb)] [] 26) : V p l e room_1 s m #[.ref bb] below meth c D b 4 (lw_Z below #[.ref bb] s) cells slots (wl D b sc ar hn mh G) [(3, .int (nI (4 * i))), (2, .ref (b + 27)), (1, .ref (b + 0)), (0, .ref bb)] [] 18 := by
  refine v_iload_n (n := 19) C dL_law_18 rfl rfl rfl ?_
  refine v_aload_n (n := 20) C dL_law_19 rfl rfl rfl ?_
  refine y_slen (n := 21) C X hbl hge dL_law_20 rfl ?_
  refine v_iconst (n := 22) (v := 4) C dL_law_21 rfl (by decide) ?_
  refine v_isub (n := 23) C dL_law_22 rfl ?_
  refine v_icmp_gt (t := 756) (n := 26) C dL_law_23 (by decide) rfl (fun c_1 => ?_) (fun c_1 => ?_)
  · skip
    refine v_iconst (n := 757) (v := 1) C dL_law_756 rfl (by decide) ?_
    exact y_end C hge hr dL_law_757 (by omega) (by omega)
  · skip
    exact K (law_more hi65 hL c_1)
set_option maxHeartbeats 4000000 in
set_option maxRecDepth 100000 in
theorem law_body {p : Program} {l : Launch} {e : Env} {s : State} {m : MethodId} {below : List Frame} {meth : Method} {c : Code} {D : va_G} {b bb L : Nat} {xs : Nat → Int32} {rt : Option FieldType} {nm : String} (C : vC p s m #[.ref bb] meth c cL_law 4 RL nm rt D b) (X : va_X bb L xs s s.heap) (hbl : bb < s.heap.size) (hge : s.heap.size ≤ b) (hL : L ≤ 256) {i : Nat} (hi65 : i < 65) (hiL : 4 * i + 4 ≤ L) (ih : LW p l e s m below meth c D b bb (i + 1)) {sc : Nat → Int32} {ar : Nat → Nat → Int32} {hn : Nat → Option Nat} {mh : Int64} {G : List va_E} {hv : HV} {cells slots : Nat} (hall : zAll sc ar hv i) (hvr : HVr hn G hv) (hc : cells ≤ 100 + i) (hs : slots ≤ 1000 + 3 * i) : V p l e room_1 s m #[.ref bb] below meth c D b 4 (lw_Z below #[.ref bb] s) cells slots (wl D b sc ar hn mh G) [(3, .int (nI (4 * i))), (2, .ref (b + 27)), (1, .ref (b + 0)), (0, .ref bb)] [] 26 := by
  refine v_aload_n (n := 27) C dL_law_26 rfl rfl rfl ?_
  refine v_iload_n (n := 28) C dL_law_27 rfl rfl rfl ?_
  refine y_sld (n := 29) (j := (4 * i)) C X hbl hge dL_law_28 rfl rfl (by omega) hL ?_
  refine v_bipush (n := 31) (v := 31) C dL_law_29 rfl (by decide) ?_
  refine v_iand (n := 32) C dL_law_31 rfl ?_
  by_cases c_24 : ((xs (4 * i)) &&& 31) = 0
  · refine v_tableIn (t := 140) C dL_law_32 (by rw [c_24]; decide) (by rw [c_24]; decide) (by rw [c_24]; rfl) (by decide) ?_
    exact law_0 C X hbl hge hL hi65 hiL ih hall hvr hc hs
  by_cases c_25 : ((xs (4 * i)) &&& 31) = 1
  · refine v_tableIn (t := 163) C dL_law_32 (by rw [c_25]; decide) (by rw [c_25]; decide) (by rw [c_25]; rfl) (by decide) ?_
    exact law_1 C X hbl hge hL hi65 hiL ih hall hvr hc hs
  by_cases c_26 : ((xs (4 * i)) &&& 31) = 2
  · refine v_tableIn (t := 176) C dL_law_32 (by rw [c_26]; decide) (by rw [c_26]; decide) (by rw [c_26]; rfl) (by decide) ?_
    exact law_2 C X hbl hge hL hi65 hiL ih hall hvr hc hs
  by_cases c_27 : ((xs (4 * i)) &&& 31) = 3
  · refine v_tableIn (t := 189) C dL_law_32 (by rw [c_27]; decide) (by rw [c_27]; decide) (by rw [c_27]; rfl) (by decide) ?_
    exact law_3 C X hbl hge hL hi65 hiL ih hall hvr hc hs
  by_cases c_28 : ((xs (4 * i)) &&& 31) = 4
  · refine v_tableIn (t := 202) C dL_law_32 (by rw [c_28]; decide) (by rw [c_28]; decide) (by rw [c_28]; rfl) (by decide) ?_
    exact law_4 C X hbl hge hL hi65 hiL ih hall hvr hc hs
  by_cases c_29 : ((xs (4 * i)) &&& 31) = 5
  · refine v_tableIn (t := 235) C dL_law_32 (by rw [c_29]; decide) (by rw [c_29]; decide) (by rw [c_29]; rfl) (by decide) ?_
    exact law_5 C X hbl hge hL hi65 hiL ih hall hvr hc hs
  by_cases c_30 : ((xs (4 * i)) &&& 31) = 6
  · refine v_tableIn (t := 258) C dL_law_32 (by rw [c_30]; decide) (by rw [c_30]; decide) (by rw [c_30]; rfl) (by decide) ?_
    exact law_6 C X hbl hge hL hi65 hiL ih hall hvr hc hs
  by_cases c_31 : ((xs (4 * i)) &&& 31) = 7
  · refine v_tableIn (t := 281) C dL_law_32 (by rw [c_31]; decide) (by rw [c_31]; decide) (by rw [c_31]; rfl) (by decide) ?_
    exact law_7 C X hbl hge hL hi65 hiL ih hall hvr hc hs
  by_cases c_32 : ((xs (4 * i)) &&& 31) = 8
  · refine v_tableIn (t := 324) C dL_law_32 (by rw [c_32]; decide) (by rw [c_32]; decide) (by rw [c_32]; rfl) (by decide) ?_
    exact law_8 C X hbl hge hL hi65 hiL ih hall hvr hc hs
  by_cases c_33 : ((xs (4 * i)) &&& 31) = 9
  · refine v_tableIn (t := 357) C dL_law_32 (by rw [c_33]; decide) (by rw [c_33]; decide) (by rw [c_33]; rfl) (by decide) ?_
    exact law_9 C X hbl hge hL hi65 hiL ih hall hvr hc hs
  by_cases c_34 : ((xs (4 * i)) &&& 31) = 10
  · refine v_tableIn (t := 390) C dL_law_32 (by rw [c_34]; decide) (by rw [c_34]; decide) (by rw [c_34]; rfl) (by decide) ?_
    exact law_10 C X hbl hge hL hi65 hiL ih hall hvr hc hs
  by_cases c_35 : ((xs (4 * i)) &&& 31) = 11
  · refine v_tableIn (t := 423) C dL_law_32 (by rw [c_35]; decide) (by rw [c_35]; decide) (by rw [c_35]; rfl) (by decide) ?_
    exact law_11 C X hbl hge hL hi65 hiL ih hall hvr hc hs
  by_cases c_36 : ((xs (4 * i)) &&& 31) = 12
  · refine v_tableIn (t := 466) C dL_law_32 (by rw [c_36]; decide) (by rw [c_36]; decide) (by rw [c_36]; rfl) (by decide) ?_
    exact law_12 C X hbl hge hL hi65 hiL ih hall hvr hc hs
  by_cases c_37 : ((xs (4 * i)) &&& 31) = 13
  · refine v_tableIn (t := 499) C dL_law_32 (by rw [c_37]; decide) (by rw [c_37]; decide) (by rw [c_37]; rfl) (by decide) ?_
    exact law_13 C X hbl hge hL hi65 hiL ih hall hvr hc hs
  by_cases c_38 : ((xs (4 * i)) &&& 31) = 14
  · refine v_tableIn (t := 532) C dL_law_32 (by rw [c_38]; decide) (by rw [c_38]; decide) (by rw [c_38]; rfl) (by decide) ?_
    exact law_14 C X hbl hge hL hi65 hiL ih hall hvr hc hs
  by_cases c_39 : ((xs (4 * i)) &&& 31) = 15
  · refine v_tableIn (t := 565) C dL_law_32 (by rw [c_39]; decide) (by rw [c_39]; decide) (by rw [c_39]; rfl) (by decide) ?_
    exact law_15 C X hbl hge hL hi65 hiL ih hall hvr hc hs
  by_cases c_40 : ((xs (4 * i)) &&& 31) = 16
  · refine v_tableIn (t := 608) C dL_law_32 (by rw [c_40]; decide) (by rw [c_40]; decide) (by rw [c_40]; rfl) (by decide) ?_
    exact law_16 C X hbl hge hL hi65 hiL ih hall hvr hc hs
  by_cases c_41 : ((xs (4 * i)) &&& 31) = 17
  · refine v_tableIn (t := 621) C dL_law_32 (by rw [c_41]; decide) (by rw [c_41]; decide) (by rw [c_41]; rfl) (by decide) ?_
    exact law_17 C X hbl hge hL hi65 hiL ih hall hvr hc hs
  by_cases c_42 : ((xs (4 * i)) &&& 31) = 18
  · refine v_tableIn (t := 644) C dL_law_32 (by rw [c_42]; decide) (by rw [c_42]; decide) (by rw [c_42]; rfl) (by decide) ?_
    exact law_18 C X hbl hge hL hi65 hiL ih hall hvr hc hs
  by_cases c_43 : ((xs (4 * i)) &&& 31) = 19
  · refine v_tableIn (t := 687) C dL_law_32 (by rw [c_43]; decide) (by rw [c_43]; decide) (by rw [c_43]; rfl) (by decide) ?_
    exact law_19 C X hbl hge hL hi65 hiL ih hall hvr hc hs
  by_cases c_44 : ((xs (4 * i)) &&& 31) = 20
  · refine v_tableIn (t := 700) C dL_law_32 (by rw [c_44]; decide) (by rw [c_44]; decide) (by rw [c_44]; rfl) (by decide) ?_
    exact law_20 C X hbl hge hL hi65 hiL ih hall hvr hc hs
  by_cases c_45 : ((xs (4 * i)) &&& 31) = 21
  · refine v_tableIn (t := 713) C dL_law_32 (by rw [c_45]; decide) (by rw [c_45]; decide) (by rw [c_45]; rfl) (by decide) ?_
    exact law_21 C X hbl hge hL hi65 hiL ih hall hvr hc hs
  by_cases c_46 : ((xs (4 * i)) &&& 31) = 22
  · refine v_tableIn (t := 736) C dL_law_32 (by rw [c_46]; decide) (by rw [c_46]; decide) (by rw [c_46]; rfl) (by decide) ?_
    exact law_22 C X hbl hge hL hi65 hiL ih hall hvr hc hs
  refine v_tableOut (t := 750) C dL_law_32 (sw_out23 c_24 c_25 c_26 c_27 c_28 c_29 c_30 c_31 c_32 c_33 c_34 c_35 c_36 c_37 c_38 c_39 c_40 c_41 c_42 c_43 c_44 c_45 c_46) (by decide) ?_
  exact law_next C ih (all_N hall) hvr (by omega) (by omega)
theorem law_loop {p : Program} {l : Launch} {e : Env} {s : State} {m : MethodId} {below : List Frame} {meth : Method} {c : Code} {D : va_G} {b bb L : Nat} {xs : Nat → Int32} {rt : Option FieldType} {nm : String} (C : vC p s m #[.ref bb] meth c cL_law 4 RL nm rt D b) (X : va_X bb L xs s s.heap) (hbl : bb < s.heap.size) (hge : s.heap.size ≤ b) (hL : L ≤ 256) (hr : meth.sig.returnType = ret) : LW p l e s m below meth c D b bb 0 := by
  refine loop_dn (P := fun i => LW p l e s m below meth c D b bb i) 65 ?_ ?_
  · intro sc ar hn mh G hv cells slots hall hvr hc hs
    exact law_head C X hbl hge hL hr (Nat.le_refl _) hc hs (fun h => absurd h (by omega))
  · intro i hi ih sc ar hn mh G hv cells slots hall hvr hc hs
    exact law_head C X hbl hge hL hr (Nat.le_of_lt hi) hc hs (fun h => law_body C X hbl hge hL hi h ih hall hvr hc hs)
set_option maxHeartbeats 4000000 in
set_option maxRecDepth 100000 in
theorem law_start {p : Program} {l : Launch} {e : Env} {s : State} {m : MethodId} {below : List Frame} {meth : Method} {c : Code} {D : va_G} {b bb L : Nat} {xs : Nat → Int32} {rt : Option FieldType} {nm : String} (C : vC p s m #[.ref bb] meth c cL_law 4 RL nm rt D b) (X : va_X bb L xs s s.heap) (hbl : bb < s.heap.size) (hge : s.heap.size ≤ b) (hL : L ≤ 256) (hr : meth.sig.returnType = ret) : V p l e room_1 s m #[.ref bb] below meth c D b 4 (lw_Z below #[.ref bb] s) 0 0 [] [(0, .ref bb)] [] 0 := by
  refine v_new (n := 3) (es' := ([.inr (11, [.null, .int 0, .int 0, .null, .null, .null, .int 0, .int 0, .null, .null, .null, .null, .null])] : List va_E)) C dL_law_0 rfl nw_L_7 ⟨Nat.le_of_ble_eq_true rfl, Nat.le_of_ble_eq_true rfl⟩ rfl ?_
  refine v_stk (st' := .ref (b + 0) :: []) (congrArg (fun z : Nat => Value.ref (b + z) :: []) rfl) ?_
  refine v_dup (n := 4) C dL_law_3 rfl rfl ?_
  refine v_go (n := 7) C (vRun_I (As := []) (rest := [.ref (b + 0)]) C rfl lk_L_9 im_X11_init dL_law_4 (c_WheatSea_init l D b) wm_X11_init rfl rfl ⟨Nat.le_of_ble_eq_true rfl, Nat.le_of_ble_eq_true rfl⟩ ⟨Nat.le_of_ble_eq_true rfl, Nat.le_of_ble_eq_true rfl⟩ (Nat.le_of_ble_eq_true rfl)) rfl ?_
  rintro _ _ ⟨rfl, rfl⟩ -
  refine v_astore_n (n := 8) (lv' := [(1, .ref (b + 0)), (0, .ref bb)]) C dL_law_7 rfl rfl (Nat.le_of_ble_eq_true rfl) rfl ?_
  refine v_new (n := 11) (es' := ([.inr (11, [.ref (b + 1), .int 0, .int 0, .ref (b + 25), .ref (b + 26), .ref (b + 2), .int 0, .int 0, .ref (b + 3), .ref (b + 9), .ref (b + 18), .ref (b + 21), .ref (b + 22)]), .inl (D.1 13, 18, .inl (fun _ => 0)), .inl (D.1 14, 3, .inr (.inr (.inr (.inr (fun _ => none))))), .inr (8, [.int 0, .ref (b + 4), .ref (b + 5), .ref (b + 6), .ref (b + 7), .ref (b + 8)]), .inl (D.1 13, 6, .inl (fun _ => 0)), .inl (D.1 13, 6, .inl (fun _ => 0)), .inl (D.1 13, 6, .inl (fun _ => 0)), .inl (D.1 13, 41, .inl (fun _ => 0)), .inl (D.1 13, 41, .inl (fun _ => 0)), .inr (5, [.int 0, .int 0, .int 0, .int 0, .ref (b + 10), .ref (b + 16), .ref (b + 17)]), .inr (8, [.int 0, .ref (b + 11), .ref (b + 12), .ref (b + 13), .ref (b + 14), .ref (b + 15)]), .inl (D.1 13, 6, .inl (fun _ => 0)), .inl (D.1 13, 6, .inl (fun _ => 0)), .inl (D.1 13, 6, .inl (fun _ => 0)), .inl (D.1 13, 41, .inl (fun _ => 0)), .inl (D.1 13, 41, .inl (fun _ => 0)), .inl (D.1 13, 3, .inl (fun _ => 0)), .inl (D.1 13, 3, .inl (fun _ => 0)), .inr (0, [.ref (b + 19), .ref (b + 20)]), .inl (D.1 13, 12, .inl (fun _ => 0)), .inl (D.1 13, 12, .inl (fun _ => 0)), .inr (3, [.int 0, .int 0, .int 0]), .inr (6, [.ref (b + 23), .int 0, .int 0, .int 0]), .inl (D.1 13, 3, .inl (fun _ => 0)), .inl (D.1 13, 12, .inl (fun _ => 0)), .inr (7, [.ref (b + 24), .int 0, .int 4]), .inr (7, [.ref (b + 24), .int 0, .int 4]), .inr (12, [.null, .int 0, .int 0, .int 0, .int 0, .int 0, .null, .int 0, .null, .null, .null, .null, .null, .int 0, .int 0, .int 0, .null, .null, .int 0, .null, .int 0, .int 0, .int 0, .int 0, .int 0, .null, .null, .long 0])] : List va_E)) C dL_law_8 rfl nw_L_10 ⟨Nat.le_of_ble_eq_true rfl, Nat.le_of_ble_eq_true rfl⟩ rfl ?_
  refine v_stk (st' := .ref (b + 27) :: []) (congrArg (fun z : Nat => Value.ref (b + z) :: []) rfl) ?_
  refine v_cong (es' := (([.inr (11, [.ref (b + 1), .int 0, .int 0, .ref (b + 25), .ref (b + 26), .ref (b + 2), .int 0, .int 0, .ref (b + 3), .ref (b + 9), .ref (b + 18), .ref (b + 21), .ref (b + 22)]), .inl (D.1 13, 18, .inl (fun _ => 0)), .inl (D.1 14, 3, .inr (.inr (.inr (.inr (fun _ => none))))), .inr (8, [.int 0, .ref (b + 4), .ref (b + 5), .ref (b + 6), .ref (b + 7), .ref (b + 8)]), .inl (D.1 13, 6, .inl (fun _ => 0)), .inl (D.1 13, 6, .inl (fun _ => 0)), .inl (D.1 13, 6, .inl (fun _ => 0)), .inl (D.1 13, 41, .inl (fun _ => 0)), .inl (D.1 13, 41, .inl (fun _ => 0)), .inr (5, [.int 0, .int 0, .int 0, .int 0, .ref (b + 10), .ref (b + 16), .ref (b + 17)]), .inr (8, [.int 0, .ref (b + 11), .ref (b + 12), .ref (b + 13), .ref (b + 14), .ref (b + 15)]), .inl (D.1 13, 6, .inl (fun _ => 0)), .inl (D.1 13, 6, .inl (fun _ => 0)), .inl (D.1 13, 6, .inl (fun _ => 0)), .inl (D.1 13, 41, .inl (fun _ => 0)), .inl (D.1 13, 41, .inl (fun _ => 0)), .inl (D.1 13, 3, .inl (fun _ => 0)), .inl (D.1 13, 3, .inl (fun _ => 0)), .inr (0, [.ref (b + 19), .ref (b + 20)]), .inl (D.1 13, 12, .inl (fun _ => 0)), .inl (D.1 13, 12, .inl (fun _ => 0)), .inr (3, [.int 0, .int 0, .int 0]), .inr (6, [.ref (b + 23), .int 0, .int 0, .int 0]), .inl (D.1 13, 3, .inl (fun _ => 0)), .inl (D.1 13, 12, .inl (fun _ => 0)), .inr (7, [.ref (b + 24), .int 0, .int 4]), .inr (7, [.ref (b + 24), .int 0, .int 4])] : List va_E) ++ [.inr (12, [.null, .int 0, .int 0, .int 0, .int 0, .int 0, .null, .int 0, .null, .null, .null, .null, .null, .int 0, .int 0, .int 0, .null, .null, .int 0, .null, .int 0, .int 0, .int 0, .int 0, .int 0, .null, .null, .long 0])] : List va_E)) (lv' := [(1, .ref (b + 0)), (0, .ref bb)]) rfl rfl ?_
  refine v_dup (n := 12) C dL_law_11 rfl rfl ?_
  refine v_go (n := 15) C (vRun_I (As := []) (rest := [.ref (b + 27)]) C rfl lk_L_12 im_X12_init dL_law_12 (m_init l D b ([.inr (11, [.ref (b + 1), .int 0, .int 0, .ref (b + 25), .ref (b + 26), .ref (b + 2), .int 0, .int 0, .ref (b + 3), .ref (b + 9), .ref (b + 18), .ref (b + 21), .ref (b + 22)]), .inl (D.1 13, 18, .inl (fun _ => 0)), .inl (D.1 14, 3, .inr (.inr (.inr (.inr (fun _ => none))))), .inr (8, [.int 0, .ref (b + 4), .ref (b + 5), .ref (b + 6), .ref (b + 7), .ref (b + 8)]), .inl (D.1 13, 6, .inl (fun _ => 0)), .inl (D.1 13, 6, .inl (fun _ => 0)), .inl (D.1 13, 6, .inl (fun _ => 0)), .inl (D.1 13, 41, .inl (fun _ => 0)), .inl (D.1 13, 41, .inl (fun _ => 0)), .inr (5, [.int 0, .int 0, .int 0, .int 0, .ref (b + 10), .ref (b + 16), .ref (b + 17)]), .inr (8, [.int 0, .ref (b + 11), .ref (b + 12), .ref (b + 13), .ref (b + 14), .ref (b + 15)]), .inl (D.1 13, 6, .inl (fun _ => 0)), .inl (D.1 13, 6, .inl (fun _ => 0)), .inl (D.1 13, 6, .inl (fun _ => 0)), .inl (D.1 13, 41, .inl (fun _ => 0)), .inl (D.1 13, 41, .inl (fun _ => 0)), .inl (D.1 13, 3, .inl (fun _ => 0)), .inl (D.1 13, 3, .inl (fun _ => 0)), .inr (0, [.ref (b + 19), .ref (b + 20)]), .inl (D.1 13, 12, .inl (fun _ => 0)), .inl (D.1 13, 12, .inl (fun _ => 0)), .inr (3, [.int 0, .int 0, .int 0]), .inr (6, [.ref (b + 23), .int 0, .int 0, .int 0]), .inl (D.1 13, 3, .inl (fun _ => 0)), .inl (D.1 13, 12, .inl (fun _ => 0)), .inr (7, [.ref (b + 24), .int 0, .int 4]), .inr (7, [.ref (b + 24), .int 0, .int 4])] : List va_E) rfl) wm_X12_init rfl rfl ⟨Nat.le_of_ble_eq_true rfl, Nat.le_of_ble_eq_true rfl⟩ ⟨Nat.le_of_ble_eq_true rfl, Nat.le_of_ble_eq_true rfl⟩ (Nat.le_of_ble_eq_true rfl)) rfl ?_
  rintro _ _ ⟨rfl, rfl⟩ -
  refine v_astore_n (n := 16) (lv' := [(2, .ref (b + 27)), (1, .ref (b + 0)), (0, .ref bb)]) C dL_law_15 rfl rfl (Nat.le_of_ble_eq_true rfl) rfl ?_
  refine v_iconst (n := 17) (v := 0) C dL_law_16 rfl (by decide) ?_
  refine v_istore_n (n := 18) (lv' := [(3, .int 0), (2, .ref (b + 27)), (1, .ref (b + 0)), (0, .ref bb)]) C dL_law_17 rfl rfl (Nat.le_of_ble_eq_true rfl) rfl ?_
  refine v_cong (es' := wl D b sc0 ar0 (fun _ => none) 0 []) (lv' := [(3, .int (nI (4 * 0))), (2, .ref (b + 27)), (1, .ref (b + 0)), (0, .ref bb)]) rfl rfl ?_
  exact law_loop C X hbl hge hL hr sc0 ar0 (fun _ => none) 0 [] (fun _ => none) _ _ all_0 hvr_0 (Nat.le_of_ble_eq_true rfl) (Nat.le_of_ble_eq_true rfl)
