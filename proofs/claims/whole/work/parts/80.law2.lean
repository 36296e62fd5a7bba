set_option maxHeartbeats 4000000 in
set_option maxRecDepth 100000 in
theorem law_0 {p : Program} {l : Launch} {e : Env} {s : State} {m : MethodId} {below : List Frame} {meth : Method} {c : Code} {D : va_G} {b bb L : Nat} {xs : Nat → Int32} {rt : Option FieldType} {nm : String} (C : vC p s m #[.ref bb] meth c cL_law 4 RL nm rt D b) (X : va_X bb L xs s s.heap) (hbl : bb < s.heap.size) (hge : s.heap.size ≤ b) (hL : L ≤ 256) {i : Nat} (hi65 : i < 65) (hiL : 4 * i + 4 ≤ L) (ih : LW p l e s m below meth c D b bb (i + 1)) {sc : Nat → Int32} {ar : Nat → Nat → Int32} {hn : Nat → Option Nat} {mh : Int64} {G : List va_E} {hv : HV} {cells slots : Nat} (hall : zAll sc ar hv i) (hvr : HVr hn G hv) (hc : cells ≤ 100 + i) (hs : slots ≤ 1000 + 3 * i) : V p l e room_1 s m #[.ref bb] below meth c D b 4 (lw_Z below #[.ref bb] s) cells slots (wl D b sc ar hn mh G) [(3, .int (nI (4 * i))), (2, .ref (b + 27)), (1, .ref (b + 0)), (0, .ref bb)] [] 140 := by
  refine v_aload_n (n := 141) C dL_law_140 rfl rfl rfl ?_
  refine v_aload_n (n := 142) C dL_law_141 rfl rfl rfl ?_
  refine v_iload_n (n := 143) C dL_law_142 rfl rfl rfl ?_
  refine v_iconst (n := 144) (v := 1) C dL_law_143 rfl (by decide) ?_
  refine v_iadd (n := 145) C dL_law_144 rfl ?_
  refine y_sld (n := 146) (j := (4 * i + 1)) C X hbl hge dL_law_145 rfl (sl_e 1) (by omega) hL ?_
  refine v_go (n := 149) C (vRun_V (As := [.int (xs (4 * i + 1))]) (rest := []) C wl_c0 rfl lk_L_13 im_X11_letter se_X11_letter dL_law_146 (c_letter l D b sc ar hn mh G (xs (4 * i + 1))) wm_X11_letter rfl rfl ⟨Nat.le_of_ble_eq_true rfl, Nat.le_of_ble_eq_true rfl⟩ ⟨show _ ≤ 600000 by omega, show _ ≤ 7302250 by omega⟩ (Nat.le_of_ble_eq_true rfl)) rfl ?_
  rintro _ _ ⟨rfl, rfl⟩ -
  refine v_aload_n (n := 150) C dL_law_149 rfl rfl rfl ?_
  refine v_aload_n (n := 151) C dL_law_150 rfl rfl rfl ?_
  refine v_iload_n (n := 152) C dL_law_151 rfl rfl rfl ?_
  refine v_iconst (n := 153) (v := 1) C dL_law_152 rfl (by decide) ?_
  refine v_iadd (n := 154) C dL_law_153 rfl ?_
  refine y_sld (n := 155) (j := (4 * i + 1)) C X hbl hge dL_law_154 rfl (sl_e 1) (by omega) hL ?_
  refine v_go (n := 158) C (vRun_V (As := [.int (xs (4 * i + 1))]) (rest := [.int (leS sc ar (xs (4 * i + 1))).1]) C wl_c27 rfl lk_L_17 im_X12_letter se_X12_letter dL_law_155 (m_letter l D b (leS sc ar (xs (4 * i + 1))).2.1 (leS sc ar (xs (4 * i + 1))).2.2 hn mh G (xs (4 * i + 1)) (go_letter hall (xs (4 * i + 1))).1 (go_letter hall (xs (4 * i + 1))).2.1) wm_X12_letter rfl rfl ⟨Nat.le_of_ble_eq_true rfl, Nat.le_of_ble_eq_true rfl⟩ ⟨show _ ≤ 600000 by omega, show _ ≤ 7302250 by omega⟩ (Nat.le_of_ble_eq_true rfl)) rfl ?_
  rintro _ _ ⟨rfl, rfl⟩ -
  have heq : (leS sc ar (xs (4 * i + 1))).1 = (mleS (leS sc ar (xs (4 * i + 1))).2.1 (leS sc ar (xs (4 * i + 1))).2.2 (xs (4 * i + 1))).1 := (go_letter hall (xs (4 * i + 1))).2.2.1
  refine v_icmp_eq (t := 750) (n := 161) C dL_law_158 (by decide) rfl (fun c_1 => ?_) (fun c_1 => ?_)
  · skip
    exact law_next C ih (all_N (go_letter hall (xs (4 * i + 1))).2.2.2) hvr (by omega) (by omega)
  · first | exact absurd c_1 heq | exact absurd heq c_1 | exact absurd c_1 (Int32.not_le.mpr heq) | exact absurd c_1 (Int32.not_lt.mpr heq) | exact absurd (Int32.not_le.mp heq) c_1 | exact absurd (Int32.not_lt.mp heq) c_1 | exact absurd (Int32.not_le.mp heq) (Int32.not_lt.mpr c_1) | exact absurd (Int32.not_lt.mp heq) (Int32.not_le.mpr c_1) | exact absurd (Int32.not_lt.mp c_1) (Int32.not_le.mpr (Int32.not_le.mp heq))
set_option maxHeartbeats 4000000 in
set_option maxRecDepth 100000 in
theorem law_1 {p : Program} {l : Launch} {e : Env} {s : State} {m : MethodId} {below : List Frame} {meth : Method} {c : Code} {D : va_G} {b bb L : Nat} {xs : Nat → Int32} {rt : Option FieldType} {nm : String} (C : vC p s m #[.ref bb] meth c cL_law 4 RL nm rt D b) (X : va_X bb L xs s s.heap) (hbl : bb < s.heap.size) (hge : s.heap.size ≤ b) (hL : L ≤ 256) {i : Nat} (hi65 : i < 65) (hiL : 4 * i + 4 ≤ L) (ih : LW p l e s m below meth c D b bb (i + 1)) {sc : Nat → Int32} {ar : Nat → Nat → Int32} {hn : Nat → Option Nat} {mh : Int64} {G : List va_E} {hv : HV} {cells slots : Nat} (hall : zAll sc ar hv i) (hvr : HVr hn G hv) (hc : cells ≤ 100 + i) (hs : slots ≤ 1000 + 3 * i) : V p l e room_1 s m #[.ref bb] below meth c D b 4 (lw_Z below #[.ref bb] s) cells slots (wl D b sc ar hn mh G) [(3, .int (nI (4 * i))), (2, .ref (b + 27)), (1, .ref (b + 0)), (0, .ref bb)] [] 163 := by
  refine v_aload_n (n := 164) C dL_law_163 rfl rfl rfl ?_
  refine v_go (n := 167) C (vRun_V (As := []) (rest := []) C wl_c0 rfl lk_L_18 im_X11_blank se_X11_blank dL_law_164 (c_blank l D b sc ar hn mh G) wm_X11_blank rfl rfl ⟨Nat.le_of_ble_eq_true rfl, Nat.le_of_ble_eq_true rfl⟩ ⟨show _ ≤ 600000 by omega, show _ ≤ 7302250 by omega⟩ (Nat.le_of_ble_eq_true rfl)) rfl ?_
  rintro _ _ ⟨rfl, rfl⟩ -
  refine v_aload_n (n := 168) C dL_law_167 rfl rfl rfl ?_
  refine v_go (n := 171) C (vRun_V (As := []) (rest := [.int (sc 0)]) C wl_c27 rfl lk_L_22 im_X12_blank se_X12_blank dL_law_168 (m_blank l D b (va_up sc 0 0) ar hn mh G) wm_X12_blank rfl rfl ⟨Nat.le_of_ble_eq_true rfl, Nat.le_of_ble_eq_true rfl⟩ ⟨show _ ≤ 600000 by omega, show _ ≤ 7302250 by omega⟩ (Nat.le_of_ble_eq_true rfl)) rfl ?_
  rintro _ _ ⟨rfl, rfl⟩ -
  have heq : (sc 0) = (va_up sc 0 0 20) := (go_blank hall).1
  refine v_icmp_eq (t := 750) (n := 174) C dL_law_171 (by decide) rfl (fun c_1 => ?_) (fun c_1 => ?_)
  · skip
    exact law_next C ih (all_N (go_blank hall).2) hvr (by omega) (by omega)
  · first | exact absurd c_1 heq | exact absurd heq c_1 | exact absurd c_1 (Int32.not_le.mpr heq) | exact absurd c_1 (Int32.not_lt.mpr heq) | exact absurd (Int32.not_le.mp heq) c_1 | exact absurd (Int32.not_lt.mp heq) c_1 | exact absurd (Int32.not_le.mp heq) (Int32.not_lt.mpr c_1) | exact absurd (Int32.not_lt.mp heq) (Int32.not_le.mpr c_1) | exact absurd (Int32.not_lt.mp c_1) (Int32.not_le.mpr (Int32.not_le.mp heq))
set_option maxHeartbeats 4000000 in
set_option maxRecDepth 100000 in
theorem law_2 {p : Program} {l : Launch} {e : Env} {s : State} {m : MethodId} {below : List Frame} {meth : Method} {c : Code} {D : va_G} {b bb L : Nat} {xs : Nat → Int32} {rt : Option FieldType} {nm : String} (C : vC p s m #[.ref bb] meth c cL_law 4 RL nm rt D b) (X : va_X bb L xs s s.heap) (hbl : bb < s.heap.size) (hge : s.heap.size ≤ b) (hL : L ≤ 256) {i : Nat} (hi65 : i < 65) (hiL : 4 * i + 4 ≤ L) (ih : LW p l e s m below meth c D b bb (i + 1)) {sc : Nat → Int32} {ar : Nat → Nat → Int32} {hn : Nat → Option Nat} {mh : Int64} {G : List va_E} {hv : HV} {cells slots : Nat} (hall : zAll sc ar hv i) (hvr : HVr hn G hv) (hc : cells ≤ 100 + i) (hs : slots ≤ 1000 + 3 * i) : V p l e room_1 s m #[.ref bb] below meth c D b 4 (lw_Z below #[.ref bb] s) cells slots (wl D b sc ar hn mh G) [(3, .int (nI (4 * i))), (2, .ref (b + 27)), (1, .ref (b + 0)), (0, .ref bb)] [] 176 := by
  refine v_aload_n (n := 177) C dL_law_176 rfl rfl rfl ?_
  refine v_go (n := 180) C (vRun_V (As := []) (rest := []) C wl_c0 rfl lk_L_23 im_X11_fault se_X11_fault dL_law_177 (c_fault l D b sc ar hn mh G) wm_X11_fault rfl rfl ⟨Nat.le_of_ble_eq_true rfl, Nat.le_of_ble_eq_true rfl⟩ ⟨show _ ≤ 600000 by omega, show _ ≤ 7302250 by omega⟩ (Nat.le_of_ble_eq_true rfl)) rfl ?_
  rintro _ _ ⟨v1, rfl, hf1, rfl⟩ -
  obtain ⟨Pn, hq1, hq2, hq3⟩ := go_fault hall
  refine v_aload_n (n := 181) C dL_law_180 rfl rfl rfl ?_
  refine v_go (n := 184) C (vRun_V (As := []) (rest := [.int v1]) C wl_c27 rfl lk_L_26 im_X12_fault se_X12_fault dL_law_181 (m_fault l D b sc ar hn mh G Pn hq1 hq2) wm_X12_fault rfl rfl ⟨Nat.le_of_ble_eq_true rfl, Nat.le_of_ble_eq_true rfl⟩ ⟨show _ ≤ 600000 by omega, show _ ≤ 7302250 by omega⟩ (Nat.le_of_ble_eq_true rfl)) rfl ?_
  rintro _ _ ⟨v2, rfl, hf2, rfl⟩ -
  have heq : v1 = v2 := hq3 _ _ hf1 hf2
  refine v_icmp_eq (t := 750) (n := 187) C dL_law_184 (by decide) rfl (fun c_1 => ?_) (fun c_1 => ?_)
  · skip
    exact law_next C ih (all_N hall) hvr (by omega) (by omega)
  · first | exact absurd c_1 heq | exact absurd heq c_1 | exact absurd c_1 (Int32.not_le.mpr heq) | exact absurd c_1 (Int32.not_lt.mpr heq) | exact absurd (Int32.not_le.mp heq) c_1 | exact absurd (Int32.not_lt.mp heq) c_1 | exact absurd (Int32.not_le.mp heq) (Int32.not_lt.mpr c_1) | exact absurd (Int32.not_lt.mp heq) (Int32.not_le.mpr c_1) | exact absurd (Int32.not_lt.mp c_1) (Int32.not_le.mpr (Int32.not_le.mp heq))
set_option maxHeartbeats 4000000 in
set_option maxRecDepth 100000 in
theorem law_3 {p : Program} {l : Launch} {e : Env} {s : State} {m : MethodId} {below : List Frame} {meth : Method} {c : Code} {D : va_G} {b bb L : Nat} {xs : Nat → Int32} {rt : Option FieldType} {nm : String} (C : vC p s m #[.ref bb] meth c cL_law 4 RL nm rt D b) (X : va_X bb L xs s s.heap) (hbl : bb < s.heap.size) (hge : s.heap.size ≤ b) (hL : L ≤ 256) {i : Nat} (hi65 : i < 65) (hiL : 4 * i + 4 ≤ L) (ih : LW p l e s m below meth c D b bb (i + 1)) {sc : Nat → Int32} {ar : Nat → Nat → Int32} {hn : Nat → Option Nat} {mh : Int64} {G : List va_E} {hv : HV} {cells slots : Nat} (hall : zAll sc ar hv i) (hvr : HVr hn G hv) (hc : cells ≤ 100 + i) (hs : slots ≤ 1000 + 3 * i) : V p l e room_1 s m #[.ref bb] below meth c D b 4 (lw_Z below #[.ref bb] s) cells slots (wl D b sc ar hn mh G) [(3, .int (nI (4 * i))), (2, .ref (b + 27)), (1, .ref (b + 0)), (0, .ref bb)] [] 189 := by
  refine v_aload_n (n := 190) C dL_law_189 rfl rfl rfl ?_
  refine v_go (n := 193) C (vRun_V (As := []) (rest := []) C wl_c0 rfl lk_L_27 im_X11_plain se_X11_plain dL_law_190 (c_plain l D b sc ar hn mh G) wm_X11_plain rfl rfl ⟨Nat.le_of_ble_eq_true rfl, Nat.le_of_ble_eq_true rfl⟩ ⟨show _ ≤ 600000 by omega, show _ ≤ 7302250 by omega⟩ (Nat.le_of_ble_eq_true rfl)) rfl ?_
  rintro _ _ (⟨rfl, hno, rfl⟩ | ⟨rfl, he, hf, rfl⟩) -
  · skip
    obtain ⟨Pn, hq1, hq2, hq3⟩ := go_plain_no hall hno
    refine v_aload_n (n := 194) C dL_law_193 rfl rfl rfl ?_
    refine v_go (n := 197) C (vRun_V (As := []) (rest := [.int (-103)]) C wl_c27 rfl lk_L_30 im_X12_plain se_X12_plain dL_law_194 (m_plain l D b sc ar hn mh G Pn hq1 hq2) wm_X12_plain rfl rfl ⟨Nat.le_of_ble_eq_true rfl, Nat.le_of_ble_eq_true rfl⟩ ⟨show _ ≤ 600000 by omega, show _ ≤ 7302250 by omega⟩ (Nat.le_of_ble_eq_true rfl)) rfl ?_
    rintro _ _ (⟨rfl, hq6, rfl⟩ | ⟨rfl, hq6, hq7, rfl⟩) -
    · skip
      have heq : (-103) = (-103) := rfl
      refine v_icmp_eq (t := 750) (n := 200) C dL_law_197 (by decide) rfl (fun c_1 => ?_) (fun c_1 => ?_)
      · skip
        exact law_next C ih (all_N hall) hvr (by omega) (by omega)
      · exact absurd c_1 (by decide)
    · exact absurd ⟨hq6, hq7⟩ hq3
  · skip
    obtain ⟨Pn, hq1, hq2, hq3, hq4, hq5⟩ := go_plain_ok hall (by omega) he hf
    refine v_aload_n (n := 194) C dL_law_193 rfl rfl rfl ?_
    refine v_go (n := 197) C (vRun_V (As := []) (rest := [.int (smN ar 12)]) C wl_c27 rfl lk_L_30 im_X12_plain se_X12_plain dL_law_194 (m_plain l D b (plSc sc ar) (va_up ar 24 (hgN ar 12)) (va_up (va_up (va_up hn 0 none) 1 none) 2 none) mh G Pn hq1 hq2) wm_X12_plain rfl rfl ⟨Nat.le_of_ble_eq_true rfl, Nat.le_of_ble_eq_true rfl⟩ ⟨show _ ≤ 600000 by omega, show _ ≤ 7302250 by omega⟩ (Nat.le_of_ble_eq_true rfl)) rfl ?_
    rintro _ _ (⟨rfl, hq6, rfl⟩ | ⟨rfl, hq6, hq7, rfl⟩) -
    · exact absurd hq6 hq3
    · skip
      have heq : (smN ar 12) = (msmN (va_up ar 24 (hgN ar 12)) 12) := hq4
      refine v_icmp_eq (t := 750) (n := 200) C dL_law_197 (by decide) rfl (fun c_2 => ?_) (fun c_2 => ?_)
      · skip
        exact law_next C ih hq5 (HVr_none (HVr_none (HVr_none hvr))) (by omega) (by omega)
      · first | exact absurd c_2 heq | exact absurd heq c_2 | exact absurd c_2 (Int32.not_le.mpr heq) | exact absurd c_2 (Int32.not_lt.mpr heq) | exact absurd (Int32.not_le.mp heq) c_2 | exact absurd (Int32.not_lt.mp heq) c_2 | exact absurd (Int32.not_le.mp heq) (Int32.not_lt.mpr c_2) | exact absurd (Int32.not_lt.mp heq) (Int32.not_le.mpr c_2) | exact absurd (Int32.not_lt.mp c_2) (Int32.not_le.mpr (Int32.not_le.mp heq))
set_option maxHeartbeats 4000000 in
set_option maxRecDepth 100000 in
theorem law_4 {p : Program} {l : Launch} {e : Env} {s : State} {m : MethodId} {below : List Frame} {meth : Method} {c : Code} {D : va_G} {b bb L : Nat} {xs : Nat → Int32} {rt : Option FieldType} {nm : String} (C : vC p s m #[.ref bb] meth c cL_law 4 RL nm rt D b) (X : va_X bb L xs s s.heap) (hbl : bb < s.heap.size) (hge : s.heap.size ≤ b) (hL : L ≤ 256) {i : Nat} (hi65 : i < 65) (hiL : 4 * i + 4 ≤ L) (ih : LW p l e s m below meth c D b bb (i + 1)) {sc : Nat → Int32} {ar : Nat → Nat → Int32} {hn : Nat → Option Nat} {mh : Int64} {G : List va_E} {hv : HV} {cells slots : Nat} (hall : zAll sc ar hv i) (hvr : HVr hn G hv) (hc : cells ≤ 100 + i) (hs : slots ≤ 1000 + 3 * i) : V p l e room_1 s m #[.ref bb] below meth c D b 4 (lw_Z below #[.ref bb] s) cells slots (wl D b sc ar hn mh G) [(3, .int (nI (4 * i))), (2, .ref (b + 27)), (1, .ref (b + 0)), (0, .ref bb)] [] 202 := by
  obtain ⟨hi, kk, dd, FF, cc, hh, R, H, W, Hn, Sn, Pn, rl, hkp⟩ := id hall
  refine v_aload_n (n := 203) C dL_law_202 rfl rfl rfl ?_
  refine v_aload_n (n := 204) C dL_law_203 rfl rfl rfl ?_
  refine v_iload_n (n := 205) C dL_law_204 rfl rfl rfl ?_
  refine v_iconst (n := 206) (v := 1) C dL_law_205 rfl (by decide) ?_
  refine v_iadd (n := 207) C dL_law_206 rfl ?_
  refine y_sld (n := 208) (j := (4 * i + 1)) C X hbl hge dL_law_207 rfl (sl_e 1) (by omega) hL ?_
  refine v_aload_n (n := 209) C dL_law_208 rfl rfl rfl ?_
  refine v_iload_n (n := 210) C dL_law_209 rfl rfl rfl ?_
  refine v_iconst (n := 211) (v := 2) C dL_law_210 rfl (by decide) ?_
  refine v_iadd (n := 212) C dL_law_211 rfl ?_
  refine y_sld (n := 213) (j := (4 * i + 2)) C X hbl hge dL_law_212 rfl (sl_e 2) (by omega) hL ?_
  refine v_go (n := 216) C (vRun_V (As := [.int (xs (4 * i + 1)), .int (xs (4 * i + 2))]) (rest := []) C wl_c0 rfl lk_L_31 im_X11_cell se_X11_cell dL_law_213 (c_cell l D b sc ar hn mh G (xs (4 * i + 1)) (xs (4 * i + 2)) hv hvr) wm_X11_cell rfl rfl ⟨Nat.le_of_ble_eq_true rfl, Nat.le_of_ble_eq_true rfl⟩ ⟨show _ ≤ 600000 by omega, show _ ≤ 7302250 by omega⟩ (Nat.le_of_ble_eq_true rfl)) rfl ?_
  rintro _ _ ⟨rfl, rfl⟩ -
  refine v_aload_n (n := 217) C dL_law_216 rfl rfl rfl ?_
  refine v_aload_n (n := 218) C dL_law_217 rfl rfl rfl ?_
  refine v_iload_n (n := 219) C dL_law_218 rfl rfl rfl ?_
  refine v_iconst (n := 220) (v := 1) C dL_law_219 rfl (by decide) ?_
  refine v_iadd (n := 221) C dL_law_220 rfl ?_
  refine y_sld (n := 222) (j := (4 * i + 1)) C X hbl hge dL_law_221 rfl (sl_e 1) (by omega) hL ?_
  refine v_aload_n (n := 223) C dL_law_222 rfl rfl rfl ?_
  refine v_iload_n (n := 224) C dL_law_223 rfl rfl rfl ?_
  refine v_iconst (n := 225) (v := 2) C dL_law_224 rfl (by decide) ?_
  refine v_iadd (n := 226) C dL_law_225 rfl ?_
  refine y_sld (n := 227) (j := (4 * i + 2)) C X hbl hge dL_law_226 rfl (sl_e 2) (by omega) hL ?_
  refine v_go (n := 230) C (vRun_V (As := [.int (xs (4 * i + 1)), .int (xs (4 * i + 2))]) (rest := [.int (ceF sc ar hv (xs (4 * i + 1)) (xs (4 * i + 2)))]) C wl_c27 rfl lk_L_35 im_X12_cell se_X12_cell dL_law_227 (m_cell l D b sc ar hn mh G (xs (4 * i + 1)) (xs (4 * i + 2)) Hn rl.2.2.2.1.2.1 rl.2.2.2.1.2.2) wm_X12_cell rfl rfl ⟨Nat.le_of_ble_eq_true rfl, Nat.le_of_ble_eq_true rfl⟩ ⟨show _ ≤ 600000 by omega, show _ ≤ 7302250 by omega⟩ (Nat.le_of_ble_eq_true rfl)) rfl ?_
  rintro _ _ ⟨rfl, rfl⟩ -
  have heq : (ceF sc ar hv (xs (4 * i + 1)) (xs (4 * i + 2))) = (mceF sc ar Hn (xs (4 * i + 1)) (xs (4 * i + 2))) := eq_cell rl (xs (4 * i + 1)) (xs (4 * i + 2))
  refine v_icmp_eq (t := 750) (n := 233) C dL_law_230 (by decide) rfl (fun c_1 => ?_) (fun c_1 => ?_)
  · skip
    exact law_next C ih (all_N hall) hvr (by omega) (by omega)
  · first | exact absurd c_1 heq | exact absurd heq c_1 | exact absurd c_1 (Int32.not_le.mpr heq) | exact absurd c_1 (Int32.not_lt.mpr heq) | exact absurd (Int32.not_le.mp heq) c_1 | exact absurd (Int32.not_lt.mp heq) c_1 | exact absurd (Int32.not_le.mp heq) (Int32.not_lt.mpr c_1) | exact absurd (Int32.not_lt.mp heq) (Int32.not_le.mpr c_1) | exact absurd (Int32.not_lt.mp c_1) (Int32.not_le.mpr (Int32.not_le.mp heq))
set_option maxHeartbeats 4000000 in
set_option maxRecDepth 100000 in
theorem law_5 {p : Program} {l : Launch} {e : Env} {s : State} {m : MethodId} {below : List Frame} {meth : Method} {c : Code} {D : va_G} {b bb L : Nat} {xs : Nat → Int32} {rt : Option FieldType} {nm : String} (C : vC p s m #[.ref bb] meth c cL_law 4 RL nm rt D b) (X : va_X bb L xs s s.heap) (hbl : bb < s.heap.size) (hge : s.heap.size ≤ b) (hL : L ≤ 256) {i : Nat} (hi65 : i < 65) (hiL : 4 * i + 4 ≤ L) (ih : LW p l e s m below meth c D b bb (i + 1)) {sc : Nat → Int32} {ar : Nat → Nat → Int32} {hn : Nat → Option Nat} {mh : Int64} {G : List va_E} {hv : HV} {cells slots : Nat} (hall : zAll sc ar hv i) (hvr : HVr hn G hv) (hc : cells ≤ 100 + i) (hs : slots ≤ 1000 + 3 * i) : V p l e room_1 s m #[.ref bb] below meth c D b 4 (lw_Z below #[.ref bb] s) cells slots (wl D b sc ar hn mh G) [(3, .int (nI (4 * i))), (2, .ref (b + 27)), (1, .ref (b + 0)), (0, .ref bb)] [] 235 := by
  refine v_aload_n (n := 236) C dL_law_235 rfl rfl rfl ?_
  refine v_aload_n (n := 237) C dL_law_236 rfl rfl rfl ?_
  refine v_iload_n (n := 238) C dL_law_237 rfl rfl rfl ?_
  refine v_iconst (n := 239) (v := 1) C dL_law_238 rfl (by decide) ?_
  refine v_iadd (n := 240) C dL_law_239 rfl ?_
  refine y_sld (n := 241) (j := (4 * i + 1)) C X hbl hge dL_law_240 rfl (sl_e 1) (by omega) hL ?_
  refine v_go (n := 244) C (vRun_V (As := [.int (xs (4 * i + 1))]) (rest := []) C wl_c0 rfl lk_L_36 im_X11_wind se_X11_wind dL_law_241 (c_wind l D b sc ar hn mh G (xs (4 * i + 1))) wm_X11_wind rfl rfl ⟨Nat.le_of_ble_eq_true rfl, Nat.le_of_ble_eq_true rfl⟩ ⟨show _ ≤ 600000 by omega, show _ ≤ 7302250 by omega⟩ (Nat.le_of_ble_eq_true rfl)) rfl ?_
  rintro _ _ ⟨rfl, rfl⟩ -
  refine v_aload_n (n := 245) C dL_law_244 rfl rfl rfl ?_
  refine v_aload_n (n := 246) C dL_law_245 rfl rfl rfl ?_
  refine v_iload_n (n := 247) C dL_law_246 rfl rfl rfl ?_
  refine v_iconst (n := 248) (v := 1) C dL_law_247 rfl (by decide) ?_
  refine v_iadd (n := 249) C dL_law_248 rfl ?_
  refine y_sld (n := 250) (j := (4 * i + 1)) C X hbl hge dL_law_249 rfl (sl_e 1) (by omega) hL ?_
  refine v_go (n := 253) C (vRun_V (As := [.int (xs (4 * i + 1))]) (rest := [.int (wiS sc (xs (4 * i + 1))).1]) C wl_c27 rfl lk_L_39 im_X12_wind se_X12_wind dL_law_250 (m_wind l D b (wiS sc (xs (4 * i + 1))).2 ar hn mh G (xs (4 * i + 1))) wm_X12_wind rfl rfl ⟨Nat.le_of_ble_eq_true rfl, Nat.le_of_ble_eq_true rfl⟩ ⟨show _ ≤ 600000 by omega, show _ ≤ 7302250 by omega⟩ (Nat.le_of_ble_eq_true rfl)) rfl ?_
  rintro _ _ ⟨rfl, rfl⟩ -
  have heq : (wiS sc (xs (4 * i + 1))).1 = (mwiS (wiS sc (xs (4 * i + 1))).2 (xs (4 * i + 1))).1 := (go_wind hall (xs (4 * i + 1))).1
  refine v_icmp_eq (t := 750) (n := 256) C dL_law_253 (by decide) rfl (fun c_1 => ?_) (fun c_1 => ?_)
  · skip
    exact law_next C ih (all_N (go_wind hall (xs (4 * i + 1))).2) hvr (by omega) (by omega)
  · first | exact absurd c_1 heq | exact absurd heq c_1 | exact absurd c_1 (Int32.not_le.mpr heq) | exact absurd c_1 (Int32.not_lt.mpr heq) | exact absurd (Int32.not_le.mp heq) c_1 | exact absurd (Int32.not_lt.mp heq) c_1 | exact absurd (Int32.not_le.mp heq) (Int32.not_lt.mpr c_1) | exact absurd (Int32.not_lt.mp heq) (Int32.not_le.mpr c_1) | exact absurd (Int32.not_lt.mp c_1) (Int32.not_le.mpr (Int32.not_le.mp heq))
set_option maxHeartbeats 4000000 in
set_option maxRecDepth 100000 in
theorem law_6 {p : Program} {l : Launch} {e : Env} {s : State} {m : MethodId} {below : List Frame} {meth : Method} {c : Code} {D : va_G} {b bb L : Nat} {xs : Nat → Int32} {rt : Option FieldType} {nm : String} (C : vC p s m #[.ref bb] meth c cL_law 4 RL nm rt D b) (X : va_X bb L xs s s.heap) (hbl : bb < s.heap.size) (hge : s.heap.size ≤ b) (hL : L ≤ 256) {i : Nat} (hi65 : i < 65) (hiL : 4 * i + 4 ≤ L) (ih : LW p l e s m below meth c D b bb (i + 1)) {sc : Nat → Int32} {ar : Nat → Nat → Int32} {hn : Nat → Option Nat} {mh : Int64} {G : List va_E} {hv : HV} {cells slots : Nat} (hall : zAll sc ar hv i) (hvr : HVr hn G hv) (hc : cells ≤ 100 + i) (hs : slots ≤ 1000 + 3 * i) : V p l e room_1 s m #[.ref bb] below meth c D b 4 (lw_Z below #[.ref bb] s) cells slots (wl D b sc ar hn mh G) [(3, .int (nI (4 * i))), (2, .ref (b + 27)), (1, .ref (b + 0)), (0, .ref bb)] [] 258 := by
  refine v_aload_n (n := 259) C dL_law_258 rfl rfl rfl ?_
  refine v_aload_n (n := 260) C dL_law_259 rfl rfl rfl ?_
  refine v_iload_n (n := 261) C dL_law_260 rfl rfl rfl ?_
  refine v_iconst (n := 262) (v := 1) C dL_law_261 rfl (by decide) ?_
  refine v_iadd (n := 263) C dL_law_262 rfl ?_
  refine y_sld (n := 264) (j := (4 * i + 1)) C X hbl hge dL_law_263 rfl (sl_e 1) (by omega) hL ?_
  refine v_go (n := 267) C (vRun_V (As := [.int (xs (4 * i + 1))]) (rest := []) C wl_c0 rfl lk_L_40 im_X11_pass se_X11_pass dL_law_264 (c_pass l D b sc ar hn mh G (xs (4 * i + 1))) wm_X11_pass rfl rfl ⟨Nat.le_of_ble_eq_true rfl, Nat.le_of_ble_eq_true rfl⟩ ⟨show _ ≤ 600000 by omega, show _ ≤ 7302250 by omega⟩ (Nat.le_of_ble_eq_true rfl)) rfl ?_
  rintro _ _ ⟨rfl, rfl⟩ -
  refine v_aload_n (n := 268) C dL_law_267 rfl rfl rfl ?_
  refine v_aload_n (n := 269) C dL_law_268 rfl rfl rfl ?_
  refine v_iload_n (n := 270) C dL_law_269 rfl rfl rfl ?_
  refine v_iconst (n := 271) (v := 1) C dL_law_270 rfl (by decide) ?_
  refine v_iadd (n := 272) C dL_law_271 rfl ?_
  refine y_sld (n := 273) (j := (4 * i + 1)) C X hbl hge dL_law_272 rfl (sl_e 1) (by omega) hL ?_
  refine v_go (n := 276) C (vRun_V (As := [.int (xs (4 * i + 1))]) (rest := [.int (paS sc (xs (4 * i + 1))).1]) C wl_c27 rfl lk_L_43 im_X12_pass se_X12_pass dL_law_273 (m_pass l D b (paS sc (xs (4 * i + 1))).2 ar hn mh G (xs (4 * i + 1))) wm_X12_pass rfl rfl ⟨Nat.le_of_ble_eq_true rfl, Nat.le_of_ble_eq_true rfl⟩ ⟨show _ ≤ 600000 by omega, show _ ≤ 7302250 by omega⟩ (Nat.le_of_ble_eq_true rfl)) rfl ?_
  rintro _ _ ⟨rfl, rfl⟩ -
  have heq : (paS sc (xs (4 * i + 1))).1 = (mpaS (paS sc (xs (4 * i + 1))).2 (xs (4 * i + 1))).1 := (go_pass hall (xs (4 * i + 1))).1
  refine v_icmp_eq (t := 750) (n := 279) C dL_law_276 (by decide) rfl (fun c_1 => ?_) (fun c_1 => ?_)
  · skip
    exact law_next C ih (all_N (go_pass hall (xs (4 * i + 1))).2) hvr (by omega) (by omega)
  · first | exact absurd c_1 heq | exact absurd heq c_1 | exact absurd c_1 (Int32.not_le.mpr heq) | exact absurd c_1 (Int32.not_lt.mpr heq) | exact absurd (Int32.not_le.mp heq) c_1 | exact absurd (Int32.not_lt.mp heq) c_1 | exact absurd (Int32.not_le.mp heq) (Int32.not_lt.mpr c_1) | exact absurd (Int32.not_lt.mp heq) (Int32.not_le.mpr c_1) | exact absurd (Int32.not_lt.mp c_1) (Int32.not_le.mpr (Int32.not_le.mp heq))
set_option maxHeartbeats 4000000 in
set_option maxRecDepth 100000 in
theorem law_7 {p : Program} {l : Launch} {e : Env} {s : State} {m : MethodId} {below : List Frame} {meth : Method} {c : Code} {D : va_G} {b bb L : Nat} {xs : Nat → Int32} {rt : Option FieldType} {nm : String} (C : vC p s m #[.ref bb] meth c cL_law 4 RL nm rt D b) (X : va_X bb L xs s s.heap) (hbl : bb < s.heap.size) (hge : s.heap.size ≤ b) (hL : L ≤ 256) {i : Nat} (hi65 : i < 65) (hiL : 4 * i + 4 ≤ L) (ih : LW p l e s m below meth c D b bb (i + 1)) {sc : Nat → Int32} {ar : Nat → Nat → Int32} {hn : Nat → Option Nat} {mh : Int64} {G : List va_E} {hv : HV} {cells slots : Nat} (hall : zAll sc ar hv i) (hvr : HVr hn G hv) (hc : cells ≤ 100 + i) (hs : slots ≤ 1000 + 3 * i) : V p l e room_1 s m #[.ref bb] below meth c D b 4 (lw_Z below #[.ref bb] s) cells slots (wl D b sc ar hn mh G) [(3, .int (nI (4 * i))), (2, .ref (b + 27)), (1, .ref (b + 0)), (0, .ref bb)] [] 281 := by
  refine v_aload_n (n := 282) C dL_law_281 rfl rfl rfl ?_
  refine v_aload_n (n := 283) C dL_law_282 rfl rfl rfl ?_
  refine v_iload_n (n := 284) C dL_law_283 rfl rfl rfl ?_
  refine v_iconst (n := 285) (v := 1) C dL_law_284 rfl (by decide) ?_
  refine v_iadd (n := 286) C dL_law_285 rfl ?_
  refine y_sld (n := 287) (j := (4 * i + 1)) C X hbl hge dL_law_286 rfl (sl_e 1) (by omega) hL ?_
  refine v_aload_n (n := 288) C dL_law_287 rfl rfl rfl ?_
  refine v_iload_n (n := 289) C dL_law_288 rfl rfl rfl ?_
  refine v_iconst (n := 290) (v := 2) C dL_law_289 rfl (by decide) ?_
  refine v_iadd (n := 291) C dL_law_290 rfl ?_
  refine y_sld (n := 292) (j := (4 * i + 2)) C X hbl hge dL_law_291 rfl (sl_e 2) (by omega) hL ?_
  refine v_aload_n (n := 293) C dL_law_292 rfl rfl rfl ?_
  refine v_iload_n (n := 294) C dL_law_293 rfl rfl rfl ?_
  refine v_iconst (n := 295) (v := 3) C dL_law_294 rfl (by decide) ?_
  refine v_iadd (n := 296) C dL_law_295 rfl ?_
  refine y_sld (n := 297) (j := (4 * i + 3)) C X hbl hge dL_law_296 rfl (sl_e 3) (by omega) hL ?_
  by_cases hok : huOK sc (xs (4 * i + 1)) (xs (4 * i + 2)) (xs (4 * i + 3))
  · skip
    refine v_go (n := 300) C (vRun_V (As := [.int (xs (4 * i + 1)), .int (xs (4 * i + 2)), .int (xs (4 * i + 3))]) (rest := []) C wl_c0 rfl lk_L_44 im_X11_hull se_X11_hull dL_law_297 (c_hull_ok l D b sc ar hn mh G (xs (4 * i + 1)) (xs (4 * i + 2)) (xs (4 * i + 3)) hv hvr hok) wm_X11_hull rfl rfl ⟨Nat.le_of_ble_eq_true rfl, Nat.le_of_ble_eq_true rfl⟩ ⟨show _ ≤ 600000 by omega, show _ ≤ 7302250 by omega⟩ (Nat.le_of_ble_eq_true rfl)) rfl ?_
    rintro _ _ ⟨rfl, hn1, G1, hr1, hG1, rfl⟩ -
    obtain ⟨Hn, hq1, hq2, hq3, hq4⟩ := go_hull_ok hall hok
    refine v_aload_n (n := 301) C dL_law_300 rfl rfl rfl ?_
    refine v_aload_n (n := 302) C dL_law_301 rfl rfl rfl ?_
    refine v_iload_n (n := 303) C dL_law_302 rfl rfl rfl ?_
    refine v_iconst (n := 304) (v := 1) C dL_law_303 rfl (by decide) ?_
    refine v_iadd (n := 305) C dL_law_304 rfl ?_
    refine y_sld (n := 306) (j := (4 * i + 1)) C X hbl hge dL_law_305 rfl (sl_e 1) (by omega) hL ?_
    refine v_aload_n (n := 307) C dL_law_306 rfl rfl rfl ?_
    refine v_iload_n (n := 308) C dL_law_307 rfl rfl rfl ?_
    refine v_iconst (n := 309) (v := 2) C dL_law_308 rfl (by decide) ?_
    refine v_iadd (n := 310) C dL_law_309 rfl ?_
    refine y_sld (n := 311) (j := (4 * i + 2)) C X hbl hge dL_law_310 rfl (sl_e 2) (by omega) hL ?_
    refine v_aload_n (n := 312) C dL_law_311 rfl rfl rfl ?_
    refine v_iload_n (n := 313) C dL_law_312 rfl rfl rfl ?_
    refine v_iconst (n := 314) (v := 3) C dL_law_313 rfl (by decide) ?_
    refine v_iadd (n := 315) C dL_law_314 rfl ?_
    refine y_sld (n := 316) (j := (4 * i + 3)) C X hbl hge dL_law_315 rfl (sl_e 3) (by omega) hL ?_
    refine v_go (n := 319) C (vRun_V (As := [.int (xs (4 * i + 1)), .int (xs (4 * i + 2)), .int (xs (4 * i + 3))]) (rest := [.int (sc 2 + 1 - 1)]) C wl_c27 rfl lk_L_48 im_X12_hull se_X12_hull dL_law_316 (m_hull l D b (va_up sc 2 (sc 2 + 1)) ar hn1 mh G1 (xs (4 * i + 1)) (xs (4 * i + 2)) (xs (4 * i + 3)) Hn hq1 hq2) wm_X12_hull rfl rfl ⟨Nat.le_of_ble_eq_true rfl, Nat.le_of_ble_eq_true rfl⟩ ⟨show _ ≤ 600000 by omega, show _ ≤ 7302250 by omega⟩ (Nat.le_of_ble_eq_true rfl)) rfl ?_
    rintro _ _ ⟨rfl, rfl⟩ -
    have heq : (sc 2 + 1 - 1) = (mhuT (va_up sc 2 (sc 2 + 1)) ar Hn (xs (4 * i + 1)) (xs (4 * i + 2)) (xs (4 * i + 3))).1 := hq3
    refine v_icmp_eq (t := 750) (n := 322) C dL_law_319 (by decide) rfl (fun c_1 => ?_) (fun c_1 => ?_)
    · skip
      exact law_next C ih (all_N hq4) hr1 (by omega) (by omega)
    · first | exact absurd c_1 heq | exact absurd heq c_1 | exact absurd c_1 (Int32.not_le.mpr heq) | exact absurd c_1 (Int32.not_lt.mpr heq) | exact absurd (Int32.not_le.mp heq) c_1 | exact absurd (Int32.not_lt.mp heq) c_1 | exact absurd (Int32.not_le.mp heq) (Int32.not_lt.mpr c_1) | exact absurd (Int32.not_lt.mp heq) (Int32.not_le.mpr c_1) | exact absurd (Int32.not_lt.mp c_1) (Int32.not_le.mpr (Int32.not_le.mp heq))
  · skip
    refine v_go (n := 300) C (vRun_V (As := [.int (xs (4 * i + 1)), .int (xs (4 * i + 2)), .int (xs (4 * i + 3))]) (rest := []) C wl_c0 rfl lk_L_44 im_X11_hull se_X11_hull dL_law_297 (c_hull_no l D b sc ar hn mh G (xs (4 * i + 1)) (xs (4 * i + 2)) (xs (4 * i + 3)) hok) wm_X11_hull rfl rfl ⟨Nat.le_of_ble_eq_true rfl, Nat.le_of_ble_eq_true rfl⟩ ⟨show _ ≤ 600000 by omega, show _ ≤ 7302250 by omega⟩ (Nat.le_of_ble_eq_true rfl)) rfl ?_
    rintro _ _ ⟨rfl, rfl⟩ -
    obtain ⟨Hn, hq1, hq2, hq3, hq4⟩ := go_hull_no hall hok
    refine v_aload_n (n := 301) C dL_law_300 rfl rfl rfl ?_
    refine v_aload_n (n := 302) C dL_law_301 rfl rfl rfl ?_
    refine v_iload_n (n := 303) C dL_law_302 rfl rfl rfl ?_
    refine v_iconst (n := 304) (v := 1) C dL_law_303 rfl (by decide) ?_
    refine v_iadd (n := 305) C dL_law_304 rfl ?_
    refine y_sld (n := 306) (j := (4 * i + 1)) C X hbl hge dL_law_305 rfl (sl_e 1) (by omega) hL ?_
    refine v_aload_n (n := 307) C dL_law_306 rfl rfl rfl ?_
    refine v_iload_n (n := 308) C dL_law_307 rfl rfl rfl ?_
    refine v_iconst (n := 309) (v := 2) C dL_law_308 rfl (by decide) ?_
    refine v_iadd (n := 310) C dL_law_309 rfl ?_
    refine y_sld (n := 311) (j := (4 * i + 2)) C X hbl hge dL_law_310 rfl (sl_e 2) (by omega) hL ?_
    refine v_aload_n (n := 312) C dL_law_311 rfl rfl rfl ?_
    refine v_iload_n (n := 313) C dL_law_312 rfl rfl rfl ?_
    refine v_iconst (n := 314) (v := 3) C dL_law_313 rfl (by decide) ?_
    refine v_iadd (n := 315) C dL_law_314 rfl ?_
    refine y_sld (n := 316) (j := (4 * i + 3)) C X hbl hge dL_law_315 rfl (sl_e 3) (by omega) hL ?_
    refine v_go (n := 319) C (vRun_V (As := [.int (xs (4 * i + 1)), .int (xs (4 * i + 2)), .int (xs (4 * i + 3))]) (rest := [.int (huF sc (xs (4 * i + 1)) (xs (4 * i + 2)) (xs (4 * i + 3)))]) C wl_c27 rfl lk_L_48 im_X12_hull se_X12_hull dL_law_316 (m_hull l D b sc ar hn mh G (xs (4 * i + 1)) (xs (4 * i + 2)) (xs (4 * i + 3)) Hn hq1 hq2) wm_X12_hull rfl rfl ⟨Nat.le_of_ble_eq_true rfl, Nat.le_of_ble_eq_true rfl⟩ ⟨show _ ≤ 600000 by omega, show _ ≤ 7302250 by omega⟩ (Nat.le_of_ble_eq_true rfl)) rfl ?_
    rintro _ _ ⟨rfl, rfl⟩ -
    have heq : (huF sc (xs (4 * i + 1)) (xs (4 * i + 2)) (xs (4 * i + 3))) = (mhuT sc ar Hn (xs (4 * i + 1)) (xs (4 * i + 2)) (xs (4 * i + 3))).1 := hq3
    refine v_icmp_eq (t := 750) (n := 322) C dL_law_319 (by decide) rfl (fun c_2 => ?_) (fun c_2 => ?_)
    · skip
      exact law_next C ih (all_N hq4) hvr (by omega) (by omega)
    · first | exact absurd c_2 heq | exact absurd heq c_2 | exact absurd c_2 (Int32.not_le.mpr heq) | exact absurd c_2 (Int32.not_lt.mpr heq) | exact absurd (Int32.not_le.mp heq) c_2 | exact absurd (Int32.not_lt.mp heq) c_2 | exact absurd (Int32.not_le.mp heq) (Int32.not_lt.mpr c_2) | exact absurd (Int32.not_lt.mp heq) (Int32.not_le.mpr c_2) | exact absurd (Int32.not_lt.mp c_2) (Int32.not_le.mpr (Int32.not_le.mp heq))
set_option maxHeartbeats 4000000 in
set_option maxRecDepth 100000 in
theorem law_8 {p : Program} {l : Launch} {e : Env} {s : State} {m : MethodId} {below : List Frame} {meth : Method} {c : Code} {D : va_G} {b bb L : Nat} {xs : Nat → Int32} {rt : Option FieldType} {nm : String} (C : vC p s m #[.ref bb] meth c cL_law 4 RL nm rt D b) (X : va_X bb L xs s s.heap) (hbl : bb < s.heap.size) (hge : s.heap.size ≤ b) (hL : L ≤ 256) {i : Nat} (hi65 : i < 65) (hiL : 4 * i + 4 ≤ L) (ih : LW p l e s m below meth c D b bb (i + 1)) {sc : Nat → Int32} {ar : Nat → Nat → Int32} {hn : Nat → Option Nat} {mh : Int64} {G : List va_E} {hv : HV} {cells slots : Nat} (hall : zAll sc ar hv i) (hvr : HVr hn G hv) (hc : cells ≤ 100 + i) (hs : slots ≤ 1000 + 3 * i) : V p l e room_1 s m #[.ref bb] below meth c D b 4 (lw_Z below #[.ref bb] s) cells slots (wl D b sc ar hn mh G) [(3, .int (nI (4 * i))), (2, .ref (b + 27)), (1, .ref (b + 0)), (0, .ref bb)] [] 324 := by
  obtain ⟨hi, kk, dd, FF, cc, hh, R, H, W, Hn, Sn, Pn, rl, hkp⟩ := id hall
  refine v_aload_n (n := 325) C dL_law_324 rfl rfl rfl ?_
  refine v_aload_n (n := 326) C dL_law_325 rfl rfl rfl ?_
  refine v_iload_n (n := 327) C dL_law_326 rfl rfl rfl ?_
  refine v_iconst (n := 328) (v := 1) C dL_law_327 rfl (by decide) ?_
  refine v_iadd (n := 329) C dL_law_328 rfl ?_
  refine y_sld (n := 330) (j := (4 * i + 1)) C X hbl hge dL_law_329 rfl (sl_e 1) (by omega) hL ?_
  refine v_aload_n (n := 331) C dL_law_330 rfl rfl rfl ?_
  refine v_iload_n (n := 332) C dL_law_331 rfl rfl rfl ?_
  refine v_iconst (n := 333) (v := 2) C dL_law_332 rfl (by decide) ?_
  refine v_iadd (n := 334) C dL_law_333 rfl ?_
  refine y_sld (n := 335) (j := (4 * i + 2)) C X hbl hge dL_law_334 rfl (sl_e 2) (by omega) hL ?_
  refine v_go (n := 338) C (vRun_V (As := [.int (xs (4 * i + 1)), .int (xs (4 * i + 2))]) (rest := []) C wl_c0 rfl lk_L_49 im_X11_about se_X11_about dL_law_335 (c_about l D b sc ar hn mh G (xs (4 * i + 1)) (xs (4 * i + 2)) hv hvr) wm_X11_about rfl rfl ⟨Nat.le_of_ble_eq_true rfl, Nat.le_of_ble_eq_true rfl⟩ ⟨show _ ≤ 600000 by omega, show _ ≤ 7302250 by omega⟩ (Nat.le_of_ble_eq_true rfl)) rfl ?_
  rintro _ _ ⟨rfl, rfl⟩ -
  refine v_aload_n (n := 339) C dL_law_338 rfl rfl rfl ?_
  refine v_aload_n (n := 340) C dL_law_339 rfl rfl rfl ?_
  refine v_iload_n (n := 341) C dL_law_340 rfl rfl rfl ?_
  refine v_iconst (n := 342) (v := 1) C dL_law_341 rfl (by decide) ?_
  refine v_iadd (n := 343) C dL_law_342 rfl ?_
  refine y_sld (n := 344) (j := (4 * i + 1)) C X hbl hge dL_law_343 rfl (sl_e 1) (by omega) hL ?_
  refine v_aload_n (n := 345) C dL_law_344 rfl rfl rfl ?_
  refine v_iload_n (n := 346) C dL_law_345 rfl rfl rfl ?_
  refine v_iconst (n := 347) (v := 2) C dL_law_346 rfl (by decide) ?_
  refine v_iadd (n := 348) C dL_law_347 rfl ?_
  refine y_sld (n := 349) (j := (4 * i + 2)) C X hbl hge dL_law_348 rfl (sl_e 2) (by omega) hL ?_
  refine v_go (n := 352) C (vRun_V (As := [.int (xs (4 * i + 1)), .int (xs (4 * i + 2))]) (rest := [.int (aboF sc ar hv (xs (4 * i + 1)) (xs (4 * i + 2)))]) C wl_c27 rfl lk_L_52 im_X12_about se_X12_about dL_law_349 (m_about l D b sc ar hn mh G (xs (4 * i + 1)) (xs (4 * i + 2)) Hn rl.2.2.2.1.2.1 rl.2.2.2.1.2.2 (rl_rc rl)) wm_X12_about rfl rfl ⟨Nat.le_of_ble_eq_true rfl, Nat.le_of_ble_eq_true rfl⟩ ⟨show _ ≤ 600000 by omega, show _ ≤ 7302250 by omega⟩ (Nat.le_of_ble_eq_true rfl)) rfl ?_
  rintro _ _ ⟨rfl, rfl⟩ -
  have heq : (aboF sc ar hv (xs (4 * i + 1)) (xs (4 * i + 2))) = (mabF sc ar (xs (4 * i + 1)) (xs (4 * i + 2))) := eq_about rl (xs (4 * i + 1)) (xs (4 * i + 2))
  refine v_icmp_eq (t := 750) (n := 355) C dL_law_352 (by decide) rfl (fun c_1 => ?_) (fun c_1 => ?_)
  · skip
    exact law_next C ih (all_N hall) hvr (by omega) (by omega)
  · first | exact absurd c_1 heq | exact absurd heq c_1 | exact absurd c_1 (Int32.not_le.mpr heq) | exact absurd c_1 (Int32.not_lt.mpr heq) | exact absurd (Int32.not_le.mp heq) c_1 | exact absurd (Int32.not_lt.mp heq) c_1 | exact absurd (Int32.not_le.mp heq) (Int32.not_lt.mpr c_1) | exact absurd (Int32.not_lt.mp heq) (Int32.not_le.mpr c_1) | exact absurd (Int32.not_lt.mp c_1) (Int32.not_le.mpr (Int32.not_le.mp heq))
set_option maxHeartbeats 4000000 in
set_option maxRecDepth 100000 in
theorem law_9 {p : Program} {l : Launch} {e : Env} {s : State} {m : MethodId} {below : List Frame} {meth : Method} {c : Code} {D : va_G} {b bb L : Nat} {xs : Nat → Int32} {rt : Option FieldType} {nm : String} (C : vC p s m #[.ref bb] meth c cL_law 4 RL nm rt D b) (X : va_X bb L xs s s.heap) (hbl : bb < s.heap.size) (hge : s.heap.size ≤ b) (hL : L ≤ 256) {i : Nat} (hi65 : i < 65) (hiL : 4 * i + 4 ≤ L) (ih : LW p l e s m below meth c D b bb (i + 1)) {sc : Nat → Int32} {ar : Nat → Nat → Int32} {hn : Nat → Option Nat} {mh : Int64} {G : List va_E} {hv : HV} {cells slots : Nat} (hall : zAll sc ar hv i) (hvr : HVr hn G hv) (hc : cells ≤ 100 + i) (hs : slots ≤ 1000 + 3 * i) : V p l e room_1 s m #[.ref bb] below meth c D b 4 (lw_Z below #[.ref bb] s) cells slots (wl D b sc ar hn mh G) [(3, .int (nI (4 * i))), (2, .ref (b + 27)), (1, .ref (b + 0)), (0, .ref bb)] [] 357 := by
  obtain ⟨hi, kk, dd, FF, cc, hh, R, H, W, Hn, Sn, Pn, rl, hkp⟩ := id hall
  refine v_aload_n (n := 358) C dL_law_357 rfl rfl rfl ?_
  refine v_aload_n (n := 359) C dL_law_358 rfl rfl rfl ?_
  refine v_iload_n (n := 360) C dL_law_359 rfl rfl rfl ?_
  refine v_iconst (n := 361) (v := 1) C dL_law_360 rfl (by decide) ?_
  refine v_iadd (n := 362) C dL_law_361 rfl ?_
  refine y_sld (n := 363) (j := (4 * i + 1)) C X hbl hge dL_law_362 rfl (sl_e 1) (by omega) hL ?_
  refine v_aload_n (n := 364) C dL_law_363 rfl rfl rfl ?_
  refine v_iload_n (n := 365) C dL_law_364 rfl rfl rfl ?_
  refine v_iconst (n := 366) (v := 2) C dL_law_365 rfl (by decide) ?_
  refine v_iadd (n := 367) C dL_law_366 rfl ?_
  refine y_sld (n := 368) (j := (4 * i + 2)) C X hbl hge dL_law_367 rfl (sl_e 2) (by omega) hL ?_
  refine v_go (n := 371) C (vRun_V (As := [.int (xs (4 * i + 1)), .int (xs (4 * i + 2))]) (rest := []) C wl_c0 rfl lk_L_53 im_X11_as se_X11_as dL_law_368 (c_as l D b sc ar hn mh G (xs (4 * i + 1)) (xs (4 * i + 2)) hv hvr) wm_X11_as rfl rfl ⟨Nat.le_of_ble_eq_true rfl, Nat.le_of_ble_eq_true rfl⟩ ⟨show _ ≤ 600000 by omega, show _ ≤ 7302250 by omega⟩ (Nat.le_of_ble_eq_true rfl)) rfl ?_
  rintro _ _ ⟨rfl, rfl⟩ -
  refine v_aload_n (n := 372) C dL_law_371 rfl rfl rfl ?_
  refine v_aload_n (n := 373) C dL_law_372 rfl rfl rfl ?_
  refine v_iload_n (n := 374) C dL_law_373 rfl rfl rfl ?_
  refine v_iconst (n := 375) (v := 1) C dL_law_374 rfl (by decide) ?_
  refine v_iadd (n := 376) C dL_law_375 rfl ?_
  refine y_sld (n := 377) (j := (4 * i + 1)) C X hbl hge dL_law_376 rfl (sl_e 1) (by omega) hL ?_
  refine v_aload_n (n := 378) C dL_law_377 rfl rfl rfl ?_
  refine v_iload_n (n := 379) C dL_law_378 rfl rfl rfl ?_
  refine v_iconst (n := 380) (v := 2) C dL_law_379 rfl (by decide) ?_
  refine v_iadd (n := 381) C dL_law_380 rfl ?_
  refine y_sld (n := 382) (j := (4 * i + 2)) C X hbl hge dL_law_381 rfl (sl_e 2) (by omega) hL ?_
  refine v_go (n := 385) C (vRun_V (As := [.int (xs (4 * i + 1)), .int (xs (4 * i + 2))]) (rest := [.int (asF sc hv (xs (4 * i + 1)) (xs (4 * i + 2)))]) C wl_c27 rfl lk_L_56 im_X12_as se_X12_as dL_law_382 (m_as l D b sc ar hn mh G (xs (4 * i + 1)) (xs (4 * i + 2)) Hn rl.2.2.2.1.2.1 rl.2.2.2.1.2.2) wm_X12_as rfl rfl ⟨Nat.le_of_ble_eq_true rfl, Nat.le_of_ble_eq_true rfl⟩ ⟨show _ ≤ 600000 by omega, show _ ≤ 7302250 by omega⟩ (Nat.le_of_ble_eq_true rfl)) rfl ?_
  rintro _ _ ⟨rfl, rfl⟩ -
  have heq : (asF sc hv (xs (4 * i + 1)) (xs (4 * i + 2))) = (masF sc ar (xs (4 * i + 1)) (xs (4 * i + 2))) := eq_as rl (xs (4 * i + 1)) (xs (4 * i + 2))
  refine v_icmp_eq (t := 750) (n := 388) C dL_law_385 (by decide) rfl (fun c_1 => ?_) (fun c_1 => ?_)
  · skip
    exact law_next C ih (all_N hall) hvr (by omega) (by omega)
  · first | exact absurd c_1 heq | exact absurd heq c_1 | exact absurd c_1 (Int32.not_le.mpr heq) | exact absurd c_1 (Int32.not_lt.mpr heq) | exact absurd (Int32.not_le.mp heq) c_1 | exact absurd (Int32.not_lt.mp heq) c_1 | exact absurd (Int32.not_le.mp heq) (Int32.not_lt.mpr c_1) | exact absurd (Int32.not_lt.mp heq) (Int32.not_le.mpr c_1) | exact absurd (Int32.not_lt.mp c_1) (Int32.not_le.mpr (Int32.not_le.mp heq))
set_option maxHeartbeats 4000000 in
set_option maxRecDepth 100000 in
theorem law_10 {p : Program} {l : Launch} {e : Env} {s : State} {m : MethodId} {below : List Frame} {meth : Method} {c : Code} {D : va_G} {b bb L : Nat} {xs : Nat → Int32} {rt : Option FieldType} {nm : String} (C : vC p s m #[.ref bb] meth c cL_law 4 RL nm rt D b) (X : va_X bb L xs s s.heap) (hbl : bb < s.heap.size) (hge : s.heap.size ≤ b) (hL : L ≤ 256) {i : Nat} (hi65 : i < 65) (hiL : 4 * i + 4 ≤ L) (ih : LW p l e s m below meth c D b bb (i + 1)) {sc : Nat → Int32} {ar : Nat → Nat → Int32} {hn : Nat → Option Nat} {mh : Int64} {G : List va_E} {hv : HV} {cells slots : Nat} (hall : zAll sc ar hv i) (hvr : HVr hn G hv) (hc : cells ≤ 100 + i) (hs : slots ≤ 1000 + 3 * i) : V p l e room_1 s m #[.ref bb] below meth c D b 4 (lw_Z below #[.ref bb] s) cells slots (wl D b sc ar hn mh G) [(3, .int (nI (4 * i))), (2, .ref (b + 27)), (1, .ref (b + 0)), (0, .ref bb)] [] 390 := by
  refine v_aload_n (n := 391) C dL_law_390 rfl rfl rfl ?_
  refine v_aload_n (n := 392) C dL_law_391 rfl rfl rfl ?_
  refine v_iload_n (n := 393) C dL_law_392 rfl rfl rfl ?_
  refine v_iconst (n := 394) (v := 1) C dL_law_393 rfl (by decide) ?_
  refine v_iadd (n := 395) C dL_law_394 rfl ?_
  refine y_sld (n := 396) (j := (4 * i + 1)) C X hbl hge dL_law_395 rfl (sl_e 1) (by omega) hL ?_
  refine v_aload_n (n := 397) C dL_law_396 rfl rfl rfl ?_
  refine v_iload_n (n := 398) C dL_law_397 rfl rfl rfl ?_
  refine v_iconst (n := 399) (v := 2) C dL_law_398 rfl (by decide) ?_
  refine v_iadd (n := 400) C dL_law_399 rfl ?_
  refine y_sld (n := 401) (j := (4 * i + 2)) C X hbl hge dL_law_400 rfl (sl_e 2) (by omega) hL ?_
  refine v_go (n := 404) C (vRun_V (As := [.int (xs (4 * i + 1)), .int (xs (4 * i + 2))]) (rest := []) C wl_c0 rfl lk_L_57 im_X11_sail se_X11_sail dL_law_401 (c_sail l D b sc ar hn mh G (xs (4 * i + 1)) (xs (4 * i + 2)) hv hvr) wm_X11_sail rfl rfl ⟨Nat.le_of_ble_eq_true rfl, Nat.le_of_ble_eq_true rfl⟩ ⟨show _ ≤ 600000 by omega, show _ ≤ 7302250 by omega⟩ (Nat.le_of_ble_eq_true rfl)) rfl ?_
  rintro _ _ ⟨rfl, G1, hr1, rfl⟩ -
  obtain ⟨Hn, hq1, hq2, hq3, hq4, hq5⟩ := go_sail hall (xs (4 * i + 1)) (xs (4 * i + 2))
  refine v_aload_n (n := 405) C dL_law_404 rfl rfl rfl ?_
  refine v_aload_n (n := 406) C dL_law_405 rfl rfl rfl ?_
  refine v_iload_n (n := 407) C dL_law_406 rfl rfl rfl ?_
  refine v_iconst (n := 408) (v := 1) C dL_law_407 rfl (by decide) ?_
  refine v_iadd (n := 409) C dL_law_408 rfl ?_
  refine y_sld (n := 410) (j := (4 * i + 1)) C X hbl hge dL_law_409 rfl (sl_e 1) (by omega) hL ?_
  refine v_aload_n (n := 411) C dL_law_410 rfl rfl rfl ?_
  refine v_iload_n (n := 412) C dL_law_411 rfl rfl rfl ?_
  refine v_iconst (n := 413) (v := 2) C dL_law_412 rfl (by decide) ?_
  refine v_iadd (n := 414) C dL_law_413 rfl ?_
  refine y_sld (n := 415) (j := (4 * i + 2)) C X hbl hge dL_law_414 rfl (sl_e 2) (by omega) hL ?_
  refine v_go (n := 418) C (vRun_V (As := [.int (xs (4 * i + 1)), .int (xs (4 * i + 2))]) (rest := [.int (saS sc ar hv (xs (4 * i + 1)) (xs (4 * i + 2))).1]) C wl_c27 rfl lk_L_60 im_X12_sail se_X12_sail dL_law_415 (m_sail l D b (saS sc ar hv (xs (4 * i + 1)) (xs (4 * i + 2))).2.1 ar hn mh G1 (xs (4 * i + 1)) (xs (4 * i + 2)) Hn hq1 hq2 hq3) wm_X12_sail rfl rfl ⟨Nat.le_of_ble_eq_true rfl, Nat.le_of_ble_eq_true rfl⟩ ⟨show _ ≤ 600000 by omega, show _ ≤ 7302250 by omega⟩ (Nat.le_of_ble_eq_true rfl)) rfl ?_
  rintro _ _ ⟨rfl, rfl⟩ -
  have heq : (saS sc ar hv (xs (4 * i + 1)) (xs (4 * i + 2))).1 = (msaS (saS sc ar hv (xs (4 * i + 1)) (xs (4 * i + 2))).2.1 ar (xs (4 * i + 1)) (xs (4 * i + 2))).1 := hq4
  refine v_icmp_eq (t := 750) (n := 421) C dL_law_418 (by decide) rfl (fun c_1 => ?_) (fun c_1 => ?_)
  · skip
    exact law_next C ih (all_N hq5) hr1 (by omega) (by omega)
  · first | exact absurd c_1 heq | exact absurd heq c_1 | exact absurd c_1 (Int32.not_le.mpr heq) | exact absurd c_1 (Int32.not_lt.mpr heq) | exact absurd (Int32.not_le.mp heq) c_1 | exact absurd (Int32.not_lt.mp heq) c_1 | exact absurd (Int32.not_le.mp heq) (Int32.not_lt.mpr c_1) | exact absurd (Int32.not_lt.mp heq) (Int32.not_le.mpr c_1) | exact absurd (Int32.not_lt.mp c_1) (Int32.not_le.mpr (Int32.not_le.mp heq))
set_option maxHeartbeats 4000000 in
set_option maxRecDepth 100000 in
theorem law_11 {p : Program} {l : Launch} {e : Env} {s : State} {m : MethodId} {below : List Frame} {meth : Method} {c : Code} {D : va_G} {b bb L : Nat} {xs : Nat → Int32} {rt : Option FieldType} {nm : String} (C : vC p s m #[.ref bb] meth c cL_law 4 RL nm rt D b) (X : va_X bb L xs s s.heap) (hbl : bb < s.heap.size) (hge : s.heap.size ≤ b) (hL : L ≤ 256) {i : Nat} (hi65 : i < 65) (hiL : 4 * i + 4 ≤ L) (ih : LW p l e s m below meth c D b bb (i + 1)) {sc : Nat → Int32} {ar : Nat → Nat → Int32} {hn : Nat → Option Nat} {mh : Int64} {G : List va_E} {hv : HV} {cells slots : Nat} (hall : zAll sc ar hv i) (hvr : HVr hn G hv) (hc : cells ≤ 100 + i) (hs : slots ≤ 1000 + 3 * i) : V p l e room_1 s m #[.ref bb] below meth c D b 4 (lw_Z below #[.ref bb] s) cells slots (wl D b sc ar hn mh G) [(3, .int (nI (4 * i))), (2, .ref (b + 27)), (1, .ref (b + 0)), (0, .ref bb)] [] 423 := by
  obtain ⟨hi, kk, dd, FF, cc, hh, R, H, W, Hn, Sn, Pn, rl, hkp⟩ := id hall
  refine v_aload_n (n := 424) C dL_law_423 rfl rfl rfl ?_
  refine v_aload_n (n := 425) C dL_law_424 rfl rfl rfl ?_
  refine v_iload_n (n := 426) C dL_law_425 rfl rfl rfl ?_
  refine v_iconst (n := 427) (v := 1) C dL_law_426 rfl (by decide) ?_
  refine v_iadd (n := 428) C dL_law_427 rfl ?_
  refine y_sld (n := 429) (j := (4 * i + 1)) C X hbl hge dL_law_428 rfl (sl_e 1) (by omega) hL ?_
  refine v_aload_n (n := 430) C dL_law_429 rfl rfl rfl ?_
  refine v_iload_n (n := 431) C dL_law_430 rfl rfl rfl ?_
  refine v_iconst (n := 432) (v := 2) C dL_law_431 rfl (by decide) ?_
  refine v_iadd (n := 433) C dL_law_432 rfl ?_
  refine y_sld (n := 434) (j := (4 * i + 2)) C X hbl hge dL_law_433 rfl (sl_e 2) (by omega) hL ?_
  refine v_aload_n (n := 435) C dL_law_434 rfl rfl rfl ?_
  refine v_iload_n (n := 436) C dL_law_435 rfl rfl rfl ?_
  refine v_iconst (n := 437) (v := 3) C dL_law_436 rfl (by decide) ?_
  refine v_iadd (n := 438) C dL_law_437 rfl ?_
  refine y_sld (n := 439) (j := (4 * i + 3)) C X hbl hge dL_law_438 rfl (sl_e 3) (by omega) hL ?_
  refine v_go (n := 442) C (vRun_V (As := [.int (xs (4 * i + 1)), .int (xs (4 * i + 2)), .int (xs (4 * i + 3))]) (rest := []) C wl_c0 rfl lk_L_61 im_X11_voyage se_X11_voyage dL_law_439 (c_voyage l D b sc ar hn mh G (xs (4 * i + 1)) (xs (4 * i + 2)) (xs (4 * i + 3)) hv hvr) wm_X11_voyage rfl rfl ⟨Nat.le_of_ble_eq_true rfl, Nat.le_of_ble_eq_true rfl⟩ ⟨show _ ≤ 600000 by omega, show _ ≤ 7302250 by omega⟩ (Nat.le_of_ble_eq_true rfl)) rfl ?_
  rintro _ _ ⟨rfl, sc1, ar1, hp1, rfl⟩ -
  have rl1 := rl_per rl hp1
  refine v_aload_n (n := 443) C dL_law_442 rfl rfl rfl ?_
  refine v_aload_n (n := 444) C dL_law_443 rfl rfl rfl ?_
  refine v_iload_n (n := 445) C dL_law_444 rfl rfl rfl ?_
  refine v_iconst (n := 446) (v := 1) C dL_law_445 rfl (by decide) ?_
  refine v_iadd (n := 447) C dL_law_446 rfl ?_
  refine y_sld (n := 448) (j := (4 * i + 1)) C X hbl hge dL_law_447 rfl (sl_e 1) (by omega) hL ?_
  refine v_aload_n (n := 449) C dL_law_448 rfl rfl rfl ?_
  refine v_iload_n (n := 450) C dL_law_449 rfl rfl rfl ?_
  refine v_iconst (n := 451) (v := 2) C dL_law_450 rfl (by decide) ?_
  refine v_iadd (n := 452) C dL_law_451 rfl ?_
  refine y_sld (n := 453) (j := (4 * i + 2)) C X hbl hge dL_law_452 rfl (sl_e 2) (by omega) hL ?_
  refine v_aload_n (n := 454) C dL_law_453 rfl rfl rfl ?_
  refine v_iload_n (n := 455) C dL_law_454 rfl rfl rfl ?_
  refine v_iconst (n := 456) (v := 3) C dL_law_455 rfl (by decide) ?_
  refine v_iadd (n := 457) C dL_law_456 rfl ?_
  refine y_sld (n := 458) (j := (4 * i + 3)) C X hbl hge dL_law_457 rfl (sl_e 3) (by omega) hL ?_
  refine v_go (n := 461) C (vRun_V (As := [.int (xs (4 * i + 1)), .int (xs (4 * i + 2)), .int (xs (4 * i + 3))]) (rest := [.int (voF sc ar hv (xs (4 * i + 1)) (xs (4 * i + 2)) (xs (4 * i + 3)))]) C wl_c27 rfl lk_L_64 im_X12_voyage se_X12_voyage dL_law_458 (m_voyage l D b sc1 ar1 hn mh G (xs (4 * i + 1)) (xs (4 * i + 2)) (xs (4 * i + 3)) hi kk dd FF R H W rl1.1.2.1 rl1.1.2.2 rl1.2.1.2.1 rl1.2.1.2.2 rl1.2.2.1.2.1 rl1.2.2.1.2.2 Hn rl1.2.2.2.1.2.1 rl1.2.2.2.1.2.2 (rl_Z rl1)) wm_X12_voyage rfl rfl ⟨Nat.le_of_ble_eq_true rfl, Nat.le_of_ble_eq_true rfl⟩ ⟨show _ ≤ 600000 by omega, show _ ≤ 7302250 by omega⟩ (Nat.le_of_ble_eq_true rfl)) rfl ?_
  rintro _ _ ⟨rfl, sc2, ar2, hp2, rfl⟩ -
  have heq : (voF sc ar hv (xs (4 * i + 1)) (xs (4 * i + 2)) (xs (4 * i + 3))) = (mvoF sc1 hi kk dd FF R H W (xs (4 * i + 1)) (xs (4 * i + 2)) (xs (4 * i + 3))) := (eq_voyage rl (xs (4 * i + 1)) (xs (4 * i + 2)) (xs (4 * i + 3))).trans (by unfold mvoF; rw [hp1.1 25 (by decide), hp1.1 21 (by decide)])
  refine v_icmp_eq (t := 750) (n := 464) C dL_law_461 (by decide) rfl (fun c_1 => ?_) (fun c_1 => ?_)
  · skip
    exact law_next C ih (all_N (all_perJ (all_per hall hp1) (PerJ_of hp2))) hvr (by omega) (by omega)
  · first | exact absurd c_1 heq | exact absurd heq c_1 | exact absurd c_1 (Int32.not_le.mpr heq) | exact absurd c_1 (Int32.not_lt.mpr heq) | exact absurd (Int32.not_le.mp heq) c_1 | exact absurd (Int32.not_lt.mp heq) c_1 | exact absurd (Int32.not_le.mp heq) (Int32.not_lt.mpr c_1) | exact absurd (Int32.not_lt.mp heq) (Int32.not_le.mpr c_1) | exact absurd (Int32.not_lt.mp c_1) (Int32.not_le.mpr (Int32.not_le.mp heq))
set_option maxHeartbeats 4000000 in
set_option maxRecDepth 100000 in
theorem law_12 {p : Program} {l : Launch} {e : Env} {s : State} {m : MethodId} {below : List Frame} {meth : Method} {c : Code} {D : va_G} {b bb L : Nat} {xs : Nat → Int32} {rt : Option FieldType} {nm : String} (C : vC p s m #[.ref bb] meth c cL_law 4 RL nm rt D b) (X : va_X bb L xs s s.heap) (hbl : bb < s.heap.size) (hge : s.heap.size ≤ b) (hL : L ≤ 256) {i : Nat} (hi65 : i < 65) (hiL : 4 * i + 4 ≤ L) (ih : LW p l e s m below meth c D b bb (i + 1)) {sc : Nat → Int32} {ar : Nat → Nat → Int32} {hn : Nat → Option Nat} {mh : Int64} {G : List va_E} {hv : HV} {cells slots : Nat} (hall : zAll sc ar hv i) (hvr : HVr hn G hv) (hc : cells ≤ 100 + i) (hs : slots ≤ 1000 + 3 * i) : V p l e room_1 s m #[.ref bb] below meth c D b 4 (lw_Z below #[.ref bb] s) cells slots (wl D b sc ar hn mh G) [(3, .int (nI (4 * i))), (2, .ref (b + 27)), (1, .ref (b + 0)), (0, .ref bb)] [] 466 := by
  obtain ⟨hi, kk, dd, FF, cc, hh, R, H, W, Hn, Sn, Pn, rl, hkp⟩ := id hall
  refine v_aload_n (n := 467) C dL_law_466 rfl rfl rfl ?_
  refine v_aload_n (n := 468) C dL_law_467 rfl rfl rfl ?_
  refine v_iload_n (n := 469) C dL_law_468 rfl rfl rfl ?_
  refine v_iconst (n := 470) (v := 1) C dL_law_469 rfl (by decide) ?_
  refine v_iadd (n := 471) C dL_law_470 rfl ?_
  refine y_sld (n := 472) (j := (4 * i + 1)) C X hbl hge dL_law_471 rfl (sl_e 1) (by omega) hL ?_
  refine v_aload_n (n := 473) C dL_law_472 rfl rfl rfl ?_
  refine v_iload_n (n := 474) C dL_law_473 rfl rfl rfl ?_
  refine v_iconst (n := 475) (v := 2) C dL_law_474 rfl (by decide) ?_
  refine v_iadd (n := 476) C dL_law_475 rfl ?_
  refine y_sld (n := 477) (j := (4 * i + 2)) C X hbl hge dL_law_476 rfl (sl_e 2) (by omega) hL ?_
  refine v_go (n := 480) C (vRun_V (As := [.int (xs (4 * i + 1)), .int (xs (4 * i + 2))]) (rest := []) C wl_c0 rfl lk_L_65 im_X11_latest se_X11_latest dL_law_477 (c_latest l D b sc ar hn mh G (xs (4 * i + 1)) (xs (4 * i + 2)) hv hvr) wm_X11_latest rfl rfl ⟨Nat.le_of_ble_eq_true rfl, Nat.le_of_ble_eq_true rfl⟩ ⟨show _ ≤ 600000 by omega, show _ ≤ 7302250 by omega⟩ (Nat.le_of_ble_eq_true rfl)) rfl ?_
  rintro _ _ ⟨⟨v1, rfl, hl1⟩, sc1, ar1, hp1, rfl⟩ -
  have rl1 := rl_per rl hp1
  refine v_aload_n (n := 481) C dL_law_480 rfl rfl rfl ?_
  refine v_aload_n (n := 482) C dL_law_481 rfl rfl rfl ?_
  refine v_iload_n (n := 483) C dL_law_482 rfl rfl rfl ?_
  refine v_iconst (n := 484) (v := 1) C dL_law_483 rfl (by decide) ?_
  refine v_iadd (n := 485) C dL_law_484 rfl ?_
  refine y_sld (n := 486) (j := (4 * i + 1)) C X hbl hge dL_law_485 rfl (sl_e 1) (by omega) hL ?_
  refine v_aload_n (n := 487) C dL_law_486 rfl rfl rfl ?_
  refine v_iload_n (n := 488) C dL_law_487 rfl rfl rfl ?_
  refine v_iconst (n := 489) (v := 2) C dL_law_488 rfl (by decide) ?_
  refine v_iadd (n := 490) C dL_law_489 rfl ?_
  refine y_sld (n := 491) (j := (4 * i + 2)) C X hbl hge dL_law_490 rfl (sl_e 2) (by omega) hL ?_
  refine v_go (n := 494) C (vRun_V (As := [.int (xs (4 * i + 1)), .int (xs (4 * i + 2))]) (rest := [.int v1]) C wl_c27 rfl lk_L_68 im_X12_latest se_X12_latest dL_law_491 (m_latest l D b sc1 ar1 hn mh G (xs (4 * i + 1)) (xs (4 * i + 2)) hi kk dd FF R H W rl1.1.2.1 rl1.1.2.2 rl1.2.1.2.1 rl1.2.1.2.2 rl1.2.2.1.2.1 rl1.2.2.1.2.2 Hn rl1.2.2.2.1.2.1 rl1.2.2.2.1.2.2 (rl_Z rl1)) wm_X12_latest rfl rfl ⟨Nat.le_of_ble_eq_true rfl, Nat.le_of_ble_eq_true rfl⟩ ⟨show _ ≤ 600000 by omega, show _ ≤ 7302250 by omega⟩ (Nat.le_of_ble_eq_true rfl)) rfl ?_
  rintro _ _ ⟨rfl, sc2, ar2, hp2, rfl⟩ -
  have heq : v1 = (mlaX sc1 hi kk dd FF H W (xs (4 * i + 1)) (xs (4 * i + 2))) := (eq_latest rl hl1).trans (by unfold mlaX; rw [hp1.1 25 (by decide), hp1.1 21 (by decide)])
  refine v_icmp_eq (t := 750) (n := 497) C dL_law_494 (by decide) rfl (fun c_1 => ?_) (fun c_1 => ?_)
  · skip
    exact law_next C ih (all_N (all_perJ (all_per hall hp1) (PerJ_of hp2))) hvr (by omega) (by omega)
  · first | exact absurd c_1 heq | exact absurd heq c_1 | exact absurd c_1 (Int32.not_le.mpr heq) | exact absurd c_1 (Int32.not_lt.mpr heq) | exact absurd (Int32.not_le.mp heq) c_1 | exact absurd (Int32.not_lt.mp heq) c_1 | exact absurd (Int32.not_le.mp heq) (Int32.not_lt.mpr c_1) | exact absurd (Int32.not_lt.mp heq) (Int32.not_le.mpr c_1) | exact absurd (Int32.not_lt.mp c_1) (Int32.not_le.mpr (Int32.not_le.mp heq))
set_option maxHeartbeats 4000000 in
set_option maxRecDepth 100000 in
theorem law_13 {p : Program} {l : Launch} {e : Env} {s : State} {m : MethodId} {below : List Frame} {meth : Method} {c : Code} {D : va_G} {b bb L : Nat} {xs : Nat → Int32} {rt : Option FieldType} {nm : String} (C : vC p s m #[.ref bb] meth c cL_law 4 RL nm rt D b) (X : va_X bb L xs s s.heap) (hbl : bb < s.heap.size) (hge : s.heap.size ≤ b) (hL : L ≤ 256) {i : Nat} (hi65 : i < 65) (hiL : 4 * i + 4 ≤ L) (ih : LW p l e s m below meth c D b bb (i + 1)) {sc : Nat → Int32} {ar : Nat → Nat → Int32} {hn : Nat → Option Nat} {mh : Int64} {G : List va_E} {hv : HV} {cells slots : Nat} (hall : zAll sc ar hv i) (hvr : HVr hn G hv) (hc : cells ≤ 100 + i) (hs : slots ≤ 1000 + 3 * i) : V p l e room_1 s m #[.ref bb] below meth c D b 4 (lw_Z below #[.ref bb] s) cells slots (wl D b sc ar hn mh G) [(3, .int (nI (4 * i))), (2, .ref (b + 27)), (1, .ref (b + 0)), (0, .ref bb)] [] 499 := by
  obtain ⟨hi, kk, dd, FF, cc, hh, R, H, W, Hn, Sn, Pn, rl, hkp⟩ := id hall
  refine v_aload_n (n := 500) C dL_law_499 rfl rfl rfl ?_
  refine v_aload_n (n := 501) C dL_law_500 rfl rfl rfl ?_
  refine v_iload_n (n := 502) C dL_law_501 rfl rfl rfl ?_
  refine v_iconst (n := 503) (v := 1) C dL_law_502 rfl (by decide) ?_
  refine v_iadd (n := 504) C dL_law_503 rfl ?_
  refine y_sld (n := 505) (j := (4 * i + 1)) C X hbl hge dL_law_504 rfl (sl_e 1) (by omega) hL ?_
  refine v_aload_n (n := 506) C dL_law_505 rfl rfl rfl ?_
  refine v_iload_n (n := 507) C dL_law_506 rfl rfl rfl ?_
  refine v_iconst (n := 508) (v := 2) C dL_law_507 rfl (by decide) ?_
  refine v_iadd (n := 509) C dL_law_508 rfl ?_
  refine y_sld (n := 510) (j := (4 * i + 2)) C X hbl hge dL_law_509 rfl (sl_e 2) (by omega) hL ?_
  refine v_go (n := 513) C (vRun_V (As := [.int (xs (4 * i + 1)), .int (xs (4 * i + 2))]) (rest := []) C wl_c0 rfl lk_L_69 im_X11_home se_X11_home dL_law_510 (c_home l D b sc ar hn mh G (xs (4 * i + 1)) (xs (4 * i + 2)) hv hvr) wm_X11_home rfl rfl ⟨Nat.le_of_ble_eq_true rfl, Nat.le_of_ble_eq_true rfl⟩ ⟨show _ ≤ 600000 by omega, show _ ≤ 7302250 by omega⟩ (Nat.le_of_ble_eq_true rfl)) rfl ?_
  rintro _ _ ⟨rfl, sc1, ar1, hp1, rfl⟩ -
  have rl1 := rl_per rl hp1
  refine v_aload_n (n := 514) C dL_law_513 rfl rfl rfl ?_
  refine v_aload_n (n := 515) C dL_law_514 rfl rfl rfl ?_
  refine v_iload_n (n := 516) C dL_law_515 rfl rfl rfl ?_
  refine v_iconst (n := 517) (v := 1) C dL_law_516 rfl (by decide) ?_
  refine v_iadd (n := 518) C dL_law_517 rfl ?_
  refine y_sld (n := 519) (j := (4 * i + 1)) C X hbl hge dL_law_518 rfl (sl_e 1) (by omega) hL ?_
  refine v_aload_n (n := 520) C dL_law_519 rfl rfl rfl ?_
  refine v_iload_n (n := 521) C dL_law_520 rfl rfl rfl ?_
  refine v_iconst (n := 522) (v := 2) C dL_law_521 rfl (by decide) ?_
  refine v_iadd (n := 523) C dL_law_522 rfl ?_
  refine y_sld (n := 524) (j := (4 * i + 2)) C X hbl hge dL_law_523 rfl (sl_e 2) (by omega) hL ?_
  refine v_go (n := 527) C (vRun_V (As := [.int (xs (4 * i + 1)), .int (xs (4 * i + 2))]) (rest := [.int (homF sc ar hv (xs (4 * i + 1)) (xs (4 * i + 2)))]) C wl_c27 rfl lk_L_72 im_X12_home se_X12_home dL_law_524 (m_home l D b sc1 ar1 hn mh G (xs (4 * i + 1)) (xs (4 * i + 2)) hi kk dd FF R H W rl1.1.2.1 rl1.1.2.2 rl1.2.1.2.1 rl1.2.1.2.2 rl1.2.2.1.2.1 rl1.2.2.1.2.2 Hn rl1.2.2.2.1.2.1 rl1.2.2.2.1.2.2 (rl_Z rl1) (cds Hn) rfl) wm_X12_home rfl rfl ⟨Nat.le_of_ble_eq_true rfl, Nat.le_of_ble_eq_true rfl⟩ ⟨show _ ≤ 600000 by omega, show _ ≤ 7302250 by omega⟩ (Nat.le_of_ble_eq_true rfl)) rfl ?_
  rintro _ _ ⟨rfl, sc2, ar2, hp2, rfl⟩ -
  have heq : (homF sc ar hv (xs (4 * i + 1)) (xs (4 * i + 2))) = (mhoF sc1 (fun c => vyg hi R W kk dd FF c) H Hn (cds Hn) (xs (4 * i + 1)) (xs (4 * i + 2))) := (eq_home rl (xs (4 * i + 1)) (xs (4 * i + 2))).trans (by unfold mhoF; rw [hp1.1 25 (by decide), hp1.1 21 (by decide)])
  refine v_icmp_eq (t := 750) (n := 530) C dL_law_527 (by decide) rfl (fun c_1 => ?_) (fun c_1 => ?_)
  · skip
    exact law_next C ih (all_N (all_perJ (all_per hall hp1) (PerJ_of hp2))) hvr (by omega) (by omega)
  · first | exact absurd c_1 heq | exact absurd heq c_1 | exact absurd c_1 (Int32.not_le.mpr heq) | exact absurd c_1 (Int32.not_lt.mpr heq) | exact absurd (Int32.not_le.mp heq) c_1 | exact absurd (Int32.not_lt.mp heq) c_1 | exact absurd (Int32.not_le.mp heq) (Int32.not_lt.mpr c_1) | exact absurd (Int32.not_lt.mp heq) (Int32.not_le.mpr c_1) | exact absurd (Int32.not_lt.mp c_1) (Int32.not_le.mpr (Int32.not_le.mp heq))
set_option maxHeartbeats 4000000 in
set_option maxRecDepth 100000 in
theorem law_14 {p : Program} {l : Launch} {e : Env} {s : State} {m : MethodId} {below : List Frame} {meth : Method} {c : Code} {D : va_G} {b bb L : Nat} {xs : Nat → Int32} {rt : Option FieldType} {nm : String} (C : vC p s m #[.ref bb] meth c cL_law 4 RL nm rt D b) (X : va_X bb L xs s s.heap) (hbl : bb < s.heap.size) (hge : s.heap.size ≤ b) (hL : L ≤ 256) {i : Nat} (hi65 : i < 65) (hiL : 4 * i + 4 ≤ L) (ih : LW p l e s m below meth c D b bb (i + 1)) {sc : Nat → Int32} {ar : Nat → Nat → Int32} {hn : Nat → Option Nat} {mh : Int64} {G : List va_E} {hv : HV} {cells slots : Nat} (hall : zAll sc ar hv i) (hvr : HVr hn G hv) (hc : cells ≤ 100 + i) (hs : slots ≤ 1000 + 3 * i) : V p l e room_1 s m #[.ref bb] below meth c D b 4 (lw_Z below #[.ref bb] s) cells slots (wl D b sc ar hn mh G) [(3, .int (nI (4 * i))), (2, .ref (b + 27)), (1, .ref (b + 0)), (0, .ref bb)] [] 532 := by
  obtain ⟨hi, kk, dd, FF, cc, hh, R, H, W, Hn, Sn, Pn, rl, hkp⟩ := id hall
  refine v_aload_n (n := 533) C dL_law_532 rfl rfl rfl ?_
  refine v_aload_n (n := 534) C dL_law_533 rfl rfl rfl ?_
  refine v_iload_n (n := 535) C dL_law_534 rfl rfl rfl ?_
  refine v_iconst (n := 536) (v := 1) C dL_law_535 rfl (by decide) ?_
  refine v_iadd (n := 537) C dL_law_536 rfl ?_
  refine y_sld (n := 538) (j := (4 * i + 1)) C X hbl hge dL_law_537 rfl (sl_e 1) (by omega) hL ?_
  refine v_aload_n (n := 539) C dL_law_538 rfl rfl rfl ?_
  refine v_iload_n (n := 540) C dL_law_539 rfl rfl rfl ?_
  refine v_iconst (n := 541) (v := 2) C dL_law_540 rfl (by decide) ?_
  refine v_iadd (n := 542) C dL_law_541 rfl ?_
  refine y_sld (n := 543) (j := (4 * i + 2)) C X hbl hge dL_law_542 rfl (sl_e 2) (by omega) hL ?_
  refine v_go (n := 546) C (vRun_V (As := [.int (xs (4 * i + 1)), .int (xs (4 * i + 2))]) (rest := []) C wl_c0 rfl lk_L_73 im_X11_bestWind se_X11_bestWind dL_law_543 (c_bestWind l D b sc ar hn mh G (xs (4 * i + 1)) (xs (4 * i + 2)) hv hvr) wm_X11_bestWind rfl rfl ⟨Nat.le_of_ble_eq_true rfl, Nat.le_of_ble_eq_true rfl⟩ ⟨show _ ≤ 600000 by omega, show _ ≤ 7302250 by omega⟩ (Nat.le_of_ble_eq_true rfl)) rfl ?_
  rintro _ _ ⟨rfl, sc1, ar1, hp1, rfl⟩ -
  have rl1 := rl_per rl hp1
  refine v_aload_n (n := 547) C dL_law_546 rfl rfl rfl ?_
  refine v_aload_n (n := 548) C dL_law_547 rfl rfl rfl ?_
  refine v_iload_n (n := 549) C dL_law_548 rfl rfl rfl ?_
  refine v_iconst (n := 550) (v := 1) C dL_law_549 rfl (by decide) ?_
  refine v_iadd (n := 551) C dL_law_550 rfl ?_
  refine y_sld (n := 552) (j := (4 * i + 1)) C X hbl hge dL_law_551 rfl (sl_e 1) (by omega) hL ?_
  refine v_aload_n (n := 553) C dL_law_552 rfl rfl rfl ?_
  refine v_iload_n (n := 554) C dL_law_553 rfl rfl rfl ?_
  refine v_iconst (n := 555) (v := 2) C dL_law_554 rfl (by decide) ?_
  refine v_iadd (n := 556) C dL_law_555 rfl ?_
  refine y_sld (n := 557) (j := (4 * i + 2)) C X hbl hge dL_law_556 rfl (sl_e 2) (by omega) hL ?_
  refine v_go (n := 560) C (vRun_V (As := [.int (xs (4 * i + 1)), .int (xs (4 * i + 2))]) (rest := [.int (bwF sc ar hv (xs (4 * i + 1)) (xs (4 * i + 2)))]) C wl_c27 rfl lk_L_76 im_X12_bestWind se_X12_bestWind dL_law_557 (m_bestWind l D b sc1 ar1 hn mh G (xs (4 * i + 1)) (xs (4 * i + 2)) hi kk dd FF R H W rl1.1.2.1 rl1.1.2.2 rl1.2.1.2.1 rl1.2.1.2.2 rl1.2.2.1.2.1 rl1.2.2.1.2.2 Hn rl1.2.2.2.1.2.1 rl1.2.2.2.1.2.2 (rl_Z rl1)) wm_X12_bestWind rfl rfl ⟨Nat.le_of_ble_eq_true rfl, Nat.le_of_ble_eq_true rfl⟩ ⟨show _ ≤ 600000 by omega, show _ ≤ 7302250 by omega⟩ (Nat.le_of_ble_eq_true rfl)) rfl ?_
  rintro _ _ ⟨rfl, sc2, ar2, hp2, rfl⟩ -
  have heq : (bwF sc ar hv (xs (4 * i + 1)) (xs (4 * i + 2))) = (mbwF sc1 hi kk dd FF R H (xs (4 * i + 1)) (xs (4 * i + 2))) := (eq_bestWind rl (xs (4 * i + 1)) (xs (4 * i + 2))).trans (by unfold mbwF; rw [hp1.1 25 (by decide), hp1.1 21 (by decide)])
  refine v_icmp_eq (t := 750) (n := 563) C dL_law_560 (by decide) rfl (fun c_1 => ?_) (fun c_1 => ?_)
  · skip
    exact law_next C ih (all_N (all_perJ (all_per hall hp1) (PerJ_of hp2))) hvr (by omega) (by omega)
  · first | exact absurd c_1 heq | exact absurd heq c_1 | exact absurd c_1 (Int32.not_le.mpr heq) | exact absurd c_1 (Int32.not_lt.mpr heq) | exact absurd (Int32.not_le.mp heq) c_1 | exact absurd (Int32.not_lt.mp heq) c_1 | exact absurd (Int32.not_le.mp heq) (Int32.not_lt.mpr c_1) | exact absurd (Int32.not_lt.mp heq) (Int32.not_le.mpr c_1) | exact absurd (Int32.not_lt.mp c_1) (Int32.not_le.mpr (Int32.not_le.mp heq))
set_option maxHeartbeats 4000000 in
set_option maxRecDepth 100000 in
theorem law_15 {p : Program} {l : Launch} {e : Env} {s : State} {m : MethodId} {below : List Frame} {meth : Method} {c : Code} {D : va_G} {b bb L : Nat} {xs : Nat → Int32} {rt : Option FieldType} {nm : String} (C : vC p s m #[.ref bb] meth c cL_law 4 RL nm rt D b) (X : va_X bb L xs s s.heap) (hbl : bb < s.heap.size) (hge : s.heap.size ≤ b) (hL : L ≤ 256) {i : Nat} (hi65 : i < 65) (hiL : 4 * i + 4 ≤ L) (ih : LW p l e s m below meth c D b bb (i + 1)) {sc : Nat → Int32} {ar : Nat → Nat → Int32} {hn : Nat → Option Nat} {mh : Int64} {G : List va_E} {hv : HV} {cells slots : Nat} (hall : zAll sc ar hv i) (hvr : HVr hn G hv) (hc : cells ≤ 100 + i) (hs : slots ≤ 1000 + 3 * i) : V p l e room_1 s m #[.ref bb] below meth c D b 4 (lw_Z below #[.ref bb] s) cells slots (wl D b sc ar hn mh G) [(3, .int (nI (4 * i))), (2, .ref (b + 27)), (1, .ref (b + 0)), (0, .ref bb)] [] 565 := by
  refine v_aload_n (n := 566) C dL_law_565 rfl rfl rfl ?_
  refine v_aload_n (n := 567) C dL_law_566 rfl rfl rfl ?_
  refine v_iload_n (n := 568) C dL_law_567 rfl rfl rfl ?_
  refine v_iconst (n := 569) (v := 1) C dL_law_568 rfl (by decide) ?_
  refine v_iadd (n := 570) C dL_law_569 rfl ?_
  refine y_sld (n := 571) (j := (4 * i + 1)) C X hbl hge dL_law_570 rfl (sl_e 1) (by omega) hL ?_
  refine v_aload_n (n := 572) C dL_law_571 rfl rfl rfl ?_
  refine v_iload_n (n := 573) C dL_law_572 rfl rfl rfl ?_
  refine v_iconst (n := 574) (v := 2) C dL_law_573 rfl (by decide) ?_
  refine v_iadd (n := 575) C dL_law_574 rfl ?_
  refine y_sld (n := 576) (j := (4 * i + 2)) C X hbl hge dL_law_575 rfl (sl_e 2) (by omega) hL ?_
  refine v_aload_n (n := 577) C dL_law_576 rfl rfl rfl ?_
  refine v_iload_n (n := 578) C dL_law_577 rfl rfl rfl ?_
  refine v_iconst (n := 579) (v := 3) C dL_law_578 rfl (by decide) ?_
  refine v_iadd (n := 580) C dL_law_579 rfl ?_
  refine y_sld (n := 581) (j := (4 * i + 3)) C X hbl hge dL_law_580 rfl (sl_e 3) (by omega) hL ?_
  refine v_go (n := 584) C (vRun_V (As := [.int (xs (4 * i + 1)), .int (xs (4 * i + 2)), .int (xs (4 * i + 3))]) (rest := []) C wl_c0 rfl lk_L_77 im_X11_see se_X11_see dL_law_581 (c_see l D b sc ar hn mh G (xs (4 * i + 1)) (xs (4 * i + 2)) (xs (4 * i + 3)) hv hvr) wm_X11_see rfl rfl ⟨Nat.le_of_ble_eq_true rfl, Nat.le_of_ble_eq_true rfl⟩ ⟨show _ ≤ 600000 by omega, show _ ≤ 7302250 by omega⟩ (Nat.le_of_ble_eq_true rfl)) rfl ?_
  rintro _ _ ⟨rfl, rfl⟩ -
  obtain ⟨Hn, Sn, hq1, hq2, hq3, hq4, hq5, hq6⟩ := go_see hall (xs (4 * i + 1)) (xs (4 * i + 2)) (xs (4 * i + 3))
  refine v_aload_n (n := 585) C dL_law_584 rfl rfl rfl ?_
  refine v_aload_n (n := 586) C dL_law_585 rfl rfl rfl ?_
  refine v_iload_n (n := 587) C dL_law_586 rfl rfl rfl ?_
  refine v_iconst (n := 588) (v := 1) C dL_law_587 rfl (by decide) ?_
  refine v_iadd (n := 589) C dL_law_588 rfl ?_
  refine y_sld (n := 590) (j := (4 * i + 1)) C X hbl hge dL_law_589 rfl (sl_e 1) (by omega) hL ?_
  refine v_aload_n (n := 591) C dL_law_590 rfl rfl rfl ?_
  refine v_iload_n (n := 592) C dL_law_591 rfl rfl rfl ?_
  refine v_iconst (n := 593) (v := 2) C dL_law_592 rfl (by decide) ?_
  refine v_iadd (n := 594) C dL_law_593 rfl ?_
  refine y_sld (n := 595) (j := (4 * i + 2)) C X hbl hge dL_law_594 rfl (sl_e 2) (by omega) hL ?_
  refine v_aload_n (n := 596) C dL_law_595 rfl rfl rfl ?_
  refine v_iload_n (n := 597) C dL_law_596 rfl rfl rfl ?_
  refine v_iconst (n := 598) (v := 3) C dL_law_597 rfl (by decide) ?_
  refine v_iadd (n := 599) C dL_law_598 rfl ?_
  refine y_sld (n := 600) (j := (4 * i + 3)) C X hbl hge dL_law_599 rfl (sl_e 3) (by omega) hL ?_
  refine v_go (n := 603) C (vRun_V (As := [.int (xs (4 * i + 1)), .int (xs (4 * i + 2)), .int (xs (4 * i + 3))]) (rest := [.int (seS sc ar hv (xs (4 * i + 1)) (xs (4 * i + 2)) (xs (4 * i + 3))).1]) C wl_c27 rfl lk_L_80 im_X12_see se_X12_see dL_law_600 (m_see l D b (seS sc ar hv (xs (4 * i + 1)) (xs (4 * i + 2)) (xs (4 * i + 3))).2.1 (seS sc ar hv (xs (4 * i + 1)) (xs (4 * i + 2)) (xs (4 * i + 3))).2.2 hn mh G (xs (4 * i + 1)) (xs (4 * i + 2)) (xs (4 * i + 3)) Hn hq1 hq2 Sn hq3 hq4) wm_X12_see rfl rfl ⟨Nat.le_of_ble_eq_true rfl, Nat.le_of_ble_eq_true rfl⟩ ⟨show _ ≤ 600000 by omega, show _ ≤ 7302250 by omega⟩ (Nat.le_of_ble_eq_true rfl)) rfl ?_
  rintro _ _ ⟨rfl, rfl⟩ -
  have heq : (seS sc ar hv (xs (4 * i + 1)) (xs (4 * i + 2)) (xs (4 * i + 3))).1 = (mseT (seS sc ar hv (xs (4 * i + 1)) (xs (4 * i + 2)) (xs (4 * i + 3))).2.1 (seS sc ar hv (xs (4 * i + 1)) (xs (4 * i + 2)) (xs (4 * i + 3))).2.2 Sn (xs (4 * i + 1)) (xs (4 * i + 2)) (xs (4 * i + 3))).1 := hq5
  refine v_icmp_eq (t := 750) (n := 606) C dL_law_603 (by decide) rfl (fun c_1 => ?_) (fun c_1 => ?_)
  · skip
    exact law_next C ih (all_N hq6) hvr (by omega) (by omega)
  · first | exact absurd c_1 heq | exact absurd heq c_1 | exact absurd c_1 (Int32.not_le.mpr heq) | exact absurd c_1 (Int32.not_lt.mpr heq) | exact absurd (Int32.not_le.mp heq) c_1 | exact absurd (Int32.not_lt.mp heq) c_1 | exact absurd (Int32.not_le.mp heq) (Int32.not_lt.mpr c_1) | exact absurd (Int32.not_lt.mp heq) (Int32.not_le.mpr c_1) | exact absurd (Int32.not_lt.mp c_1) (Int32.not_le.mpr (Int32.not_le.mp heq))
set_option maxHeartbeats 4000000 in
set_option maxRecDepth 100000 in
theorem law_16 {p : Program} {l : Launch} {e : Env} {s : State} {m : MethodId} {below : List Frame} {meth : Method} {c : Code} {D : va_G} {b bb L : Nat} {xs : Nat → Int32} {rt : Option FieldType} {nm : String} (C : vC p s m #[.ref bb] meth c cL_law 4 RL nm rt D b) (X : va_X bb L xs s s.heap) (hbl : bb < s.heap.size) (hge : s.heap.size ≤ b) (hL : L ≤ 256) {i : Nat} (hi65 : i < 65) (hiL : 4 * i + 4 ≤ L) (ih : LW p l e s m below meth c D b bb (i + 1)) {sc : Nat → Int32} {ar : Nat → Nat → Int32} {hn : Nat → Option Nat} {mh : Int64} {G : List va_E} {hv : HV} {cells slots : Nat} (hall : zAll sc ar hv i) (hvr : HVr hn G hv) (hc : cells ≤ 100 + i) (hs : slots ≤ 1000 + 3 * i) : V p l e room_1 s m #[.ref bb] below meth c D b 4 (lw_Z below #[.ref bb] s) cells slots (wl D b sc ar hn mh G) [(3, .int (nI (4 * i))), (2, .ref (b + 27)), (1, .ref (b + 0)), (0, .ref bb)] [] 608 := by
  refine v_aload_n (n := 609) C dL_law_608 rfl rfl rfl ?_
  refine v_go (n := 612) C (vRun_V (As := []) (rest := []) C wl_c0 rfl lk_L_81 im_X11_forget se_X11_forget dL_law_609 (c_forget l D b sc ar hn mh G) wm_X11_forget rfl rfl ⟨Nat.le_of_ble_eq_true rfl, Nat.le_of_ble_eq_true rfl⟩ ⟨show _ ≤ 600000 by omega, show _ ≤ 7302250 by omega⟩ (Nat.le_of_ble_eq_true rfl)) rfl ?_
  rintro _ _ ⟨rfl, rfl⟩ -
  refine v_aload_n (n := 613) C dL_law_612 rfl rfl rfl ?_
  refine v_go (n := 616) C (vRun_V (As := []) (rest := [.int (sc 4)]) C wl_c27 rfl lk_L_84 im_X12_forget se_X12_forget dL_law_613 (m_forget l D b (va_up sc 4 0) ar hn mh G) wm_X12_forget rfl rfl ⟨Nat.le_of_ble_eq_true rfl, Nat.le_of_ble_eq_true rfl⟩ ⟨show _ ≤ 600000 by omega, show _ ≤ 7302250 by omega⟩ (Nat.le_of_ble_eq_true rfl)) rfl ?_
  rintro _ _ ⟨rfl, rfl⟩ -
  have heq : (sc 4) = (va_up sc 4 0 28) := (go_forget hall).1
  refine v_icmp_eq (t := 750) (n := 619) C dL_law_616 (by decide) rfl (fun c_1 => ?_) (fun c_1 => ?_)
  · skip
    exact law_next C ih (all_N (go_forget hall).2) hvr (by omega) (by omega)
  · first | exact absurd c_1 heq | exact absurd heq c_1 | exact absurd c_1 (Int32.not_le.mpr heq) | exact absurd c_1 (Int32.not_lt.mpr heq) | exact absurd (Int32.not_le.mp heq) c_1 | exact absurd (Int32.not_lt.mp heq) c_1 | exact absurd (Int32.not_le.mp heq) (Int32.not_lt.mpr c_1) | exact absurd (Int32.not_lt.mp heq) (Int32.not_le.mpr c_1) | exact absurd (Int32.not_lt.mp c_1) (Int32.not_le.mpr (Int32.not_le.mp heq))
set_option maxHeartbeats 4000000 in
set_option maxRecDepth 100000 in
theorem law_17 {p : Program} {l : Launch} {e : Env} {s : State} {m : MethodId} {below : List Frame} {meth : Method} {c : Code} {D : va_G} {b bb L : Nat} {xs : Nat → Int32} {rt : Option FieldType} {nm : String} (C : vC p s m #[.ref bb] meth c cL_law 4 RL nm rt D b) (X : va_X bb L xs s s.heap) (hbl : bb < s.heap.size) (hge : s.heap.size ≤ b) (hL : L ≤ 256) {i : Nat} (hi65 : i < 65) (hiL : 4 * i + 4 ≤ L) (ih : LW p l e s m below meth c D b bb (i + 1)) {sc : Nat → Int32} {ar : Nat → Nat → Int32} {hn : Nat → Option Nat} {mh : Int64} {G : List va_E} {hv : HV} {cells slots : Nat} (hall : zAll sc ar hv i) (hvr : HVr hn G hv) (hc : cells ≤ 100 + i) (hs : slots ≤ 1000 + 3 * i) : V p l e room_1 s m #[.ref bb] below meth c D b 4 (lw_Z below #[.ref bb] s) cells slots (wl D b sc ar hn mh G) [(3, .int (nI (4 * i))), (2, .ref (b + 27)), (1, .ref (b + 0)), (0, .ref bb)] [] 621 := by
  obtain ⟨hi, kk, dd, FF, cc, hh, R, H, W, Hn, Sn, Pn, rl, hkp⟩ := id hall
  refine v_aload_n (n := 622) C dL_law_621 rfl rfl rfl ?_
  refine v_aload_n (n := 623) C dL_law_622 rfl rfl rfl ?_
  refine v_iload_n (n := 624) C dL_law_623 rfl rfl rfl ?_
  refine v_iconst (n := 625) (v := 1) C dL_law_624 rfl (by decide) ?_
  refine v_iadd (n := 626) C dL_law_625 rfl ?_
  refine y_sld (n := 627) (j := (4 * i + 1)) C X hbl hge dL_law_626 rfl (sl_e 1) (by omega) hL ?_
  refine v_go (n := 630) C (vRun_V (As := [.int (xs (4 * i + 1))]) (rest := []) C wl_c0 rfl lk_L_85 im_X11_start se_X11_start dL_law_627 (c_start l D b sc ar hn mh G (xs (4 * i + 1)) hv hvr) wm_X11_start rfl rfl ⟨Nat.le_of_ble_eq_true rfl, Nat.le_of_ble_eq_true rfl⟩ ⟨show _ ≤ 600000 by omega, show _ ≤ 7302250 by omega⟩ (Nat.le_of_ble_eq_true rfl)) rfl ?_
  rintro _ _ ⟨v1, rfl, hl1, sc1, ar1, hp1, rfl⟩ -
  have rl1 := rl_per rl hp1
  refine v_aload_n (n := 631) C dL_law_630 rfl rfl rfl ?_
  refine v_aload_n (n := 632) C dL_law_631 rfl rfl rfl ?_
  refine v_iload_n (n := 633) C dL_law_632 rfl rfl rfl ?_
  refine v_iconst (n := 634) (v := 1) C dL_law_633 rfl (by decide) ?_
  refine v_iadd (n := 635) C dL_law_634 rfl ?_
  refine y_sld (n := 636) (j := (4 * i + 1)) C X hbl hge dL_law_635 rfl (sl_e 1) (by omega) hL ?_
  refine v_go (n := 639) C (vRun_V (As := [.int (xs (4 * i + 1))]) (rest := [.int v1]) C wl_c27 rfl lk_L_88 im_X12_start se_X12_start dL_law_636 (m_start l D b sc1 ar1 hn mh G (xs (4 * i + 1)) hi kk dd FF R H W rl1.1.2.1 rl1.1.2.2 rl1.2.1.2.1 rl1.2.1.2.2 rl1.2.2.1.2.1 rl1.2.2.1.2.2 Hn rl1.2.2.2.1.2.1 rl1.2.2.2.1.2.2 (rl_Z rl1) Sn rl1.2.2.2.2.1.2.1 rl1.2.2.2.2.1.2.2) wm_X12_start rfl rfl ⟨Nat.le_of_ble_eq_true rfl, Nat.le_of_ble_eq_true rfl⟩ ⟨show _ ≤ 600000 by omega, show _ ≤ 7302250 by omega⟩ (Nat.le_of_ble_eq_true rfl)) rfl ?_
  rintro _ _ ⟨v2, rfl, hl2, sc2, ar2, hp2, rfl⟩ -
  have heq : v1 = v2 := msta_u (eq_start rl hl1) (by unfold mstaF at hl2 ⊢; rw [hp1.1 25 (by decide), hp1.2 35 (by decide)] at hl2; exact hl2)
  refine v_icmp_eq (t := 750) (n := 642) C dL_law_639 (by decide) rfl (fun c_1 => ?_) (fun c_1 => ?_)
  · skip
    exact law_next C ih (all_N (all_perJ (all_per hall hp1) (PerJ_of hp2))) hvr (by omega) (by omega)
  · first | exact absurd c_1 heq | exact absurd heq c_1 | exact absurd c_1 (Int32.not_le.mpr heq) | exact absurd c_1 (Int32.not_lt.mpr heq) | exact absurd (Int32.not_le.mp heq) c_1 | exact absurd (Int32.not_lt.mp heq) c_1 | exact absurd (Int32.not_le.mp heq) (Int32.not_lt.mpr c_1) | exact absurd (Int32.not_lt.mp heq) (Int32.not_le.mpr c_1) | exact absurd (Int32.not_lt.mp c_1) (Int32.not_le.mpr (Int32.not_le.mp heq))
set_option maxHeartbeats 4000000 in
set_option maxRecDepth 100000 in
theorem law_18 {p : Program} {l : Launch} {e : Env} {s : State} {m : MethodId} {below : List Frame} {meth : Method} {c : Code} {D : va_G} {b bb L : Nat} {xs : Nat → Int32} {rt : Option FieldType} {nm : String} (C : vC p s m #[.ref bb] meth c cL_law 4 RL nm rt D b) (X : va_X bb L xs s s.heap) (hbl : bb < s.heap.size) (hge : s.heap.size ≤ b) (hL : L ≤ 256) {i : Nat} (hi65 : i < 65) (hiL : 4 * i + 4 ≤ L) (ih : LW p l e s m below meth c D b bb (i + 1)) {sc : Nat → Int32} {ar : Nat → Nat → Int32} {hn : Nat → Option Nat} {mh : Int64} {G : List va_E} {hv : HV} {cells slots : Nat} (hall : zAll sc ar hv i) (hvr : HVr hn G hv) (hc : cells ≤ 100 + i) (hs : slots ≤ 1000 + 3 * i) : V p l e room_1 s m #[.ref bb] below meth c D b 4 (lw_Z below #[.ref bb] s) cells slots (wl D b sc ar hn mh G) [(3, .int (nI (4 * i))), (2, .ref (b + 27)), (1, .ref (b + 0)), (0, .ref bb)] [] 644 := by
  obtain ⟨hi, kk, dd, FF, cc, hh, R, H, W, Hn, Sn, Pn, rl, hkp⟩ := id hall
  refine v_aload_n (n := 645) C dL_law_644 rfl rfl rfl ?_
  refine v_aload_n (n := 646) C dL_law_645 rfl rfl rfl ?_
  refine v_iload_n (n := 647) C dL_law_646 rfl rfl rfl ?_
  refine v_iconst (n := 648) (v := 1) C dL_law_647 rfl (by decide) ?_
  refine v_iadd (n := 649) C dL_law_648 rfl ?_
  refine y_sld (n := 650) (j := (4 * i + 1)) C X hbl hge dL_law_649 rfl (sl_e 1) (by omega) hL ?_
  refine v_aload_n (n := 651) C dL_law_650 rfl rfl rfl ?_
  refine v_iload_n (n := 652) C dL_law_651 rfl rfl rfl ?_
  refine v_iconst (n := 653) (v := 2) C dL_law_652 rfl (by decide) ?_
  refine v_iadd (n := 654) C dL_law_653 rfl ?_
  refine y_sld (n := 655) (j := (4 * i + 2)) C X hbl hge dL_law_654 rfl (sl_e 2) (by omega) hL ?_
  refine v_aload_n (n := 656) C dL_law_655 rfl rfl rfl ?_
  refine v_iload_n (n := 657) C dL_law_656 rfl rfl rfl ?_
  refine v_iconst (n := 658) (v := 3) C dL_law_657 rfl (by decide) ?_
  refine v_iadd (n := 659) C dL_law_658 rfl ?_
  refine y_sld (n := 660) (j := (4 * i + 3)) C X hbl hge dL_law_659 rfl (sl_e 3) (by omega) hL ?_
  refine v_go (n := 663) C (vRun_V (As := [.int (xs (4 * i + 1)), .int (xs (4 * i + 2)), .int (xs (4 * i + 3))]) (rest := []) C wl_c0 rfl lk_L_89 im_X11_junes se_X11_junes dL_law_660 (c_junes l D b sc ar hn mh G (xs (4 * i + 1)) (xs (4 * i + 2)) (xs (4 * i + 3)) hv hvr) wm_X11_junes rfl rfl ⟨Nat.le_of_ble_eq_true rfl, Nat.le_of_ble_eq_true rfl⟩ ⟨show _ ≤ 600000 by omega, show _ ≤ 7302250 by omega⟩ (Nat.le_of_ble_eq_true rfl)) rfl ?_
  rintro _ _ ⟨rfl, sc1, ar1, hp1, rfl⟩ -
  have rl1 := rl_per rl hp1
  refine v_aload_n (n := 664) C dL_law_663 rfl rfl rfl ?_
  refine v_aload_n (n := 665) C dL_law_664 rfl rfl rfl ?_
  refine v_iload_n (n := 666) C dL_law_665 rfl rfl rfl ?_
  refine v_iconst (n := 667) (v := 1) C dL_law_666 rfl (by decide) ?_
  refine v_iadd (n := 668) C dL_law_667 rfl ?_
  refine y_sld (n := 669) (j := (4 * i + 1)) C X hbl hge dL_law_668 rfl (sl_e 1) (by omega) hL ?_
  refine v_aload_n (n := 670) C dL_law_669 rfl rfl rfl ?_
  refine v_iload_n (n := 671) C dL_law_670 rfl rfl rfl ?_
  refine v_iconst (n := 672) (v := 2) C dL_law_671 rfl (by decide) ?_
  refine v_iadd (n := 673) C dL_law_672 rfl ?_
  refine y_sld (n := 674) (j := (4 * i + 2)) C X hbl hge dL_law_673 rfl (sl_e 2) (by omega) hL ?_
  refine v_aload_n (n := 675) C dL_law_674 rfl rfl rfl ?_
  refine v_iload_n (n := 676) C dL_law_675 rfl rfl rfl ?_
  refine v_iconst (n := 677) (v := 3) C dL_law_676 rfl (by decide) ?_
  refine v_iadd (n := 678) C dL_law_677 rfl ?_
  refine y_sld (n := 679) (j := (4 * i + 3)) C X hbl hge dL_law_678 rfl (sl_e 3) (by omega) hL ?_
  refine v_go (n := 682) C (vRun_V (As := [.int (xs (4 * i + 1)), .int (xs (4 * i + 2)), .int (xs (4 * i + 3))]) (rest := [.int (jnF sc ar hv (xs (4 * i + 1)) (xs (4 * i + 2)) (xs (4 * i + 3)))]) C wl_c27 rfl lk_L_92 im_X12_junes se_X12_junes dL_law_679 (m_junes l D b sc1 ar1 hn mh G (xs (4 * i + 1)) (xs (4 * i + 2)) (xs (4 * i + 3)) Hn rl1.2.2.2.1.2.1 rl1.2.2.2.1.2.2 (rl_rc rl1)) wm_X12_junes rfl rfl ⟨Nat.le_of_ble_eq_true rfl, Nat.le_of_ble_eq_true rfl⟩ ⟨show _ ≤ 600000 by omega, show _ ≤ 7302250 by omega⟩ (Nat.le_of_ble_eq_true rfl)) rfl ?_
  rintro _ _ ⟨v2, rfl, hl2, sc2, ar2, hp2, rfl⟩ -
  have heq : (jnF sc ar hv (xs (4 * i + 1)) (xs (4 * i + 2)) (xs (4 * i + 3))) = v2 := mju_u (eq_junes rl (xs (4 * i + 1)) (xs (4 * i + 2)) (xs (4 * i + 3))) (mju_cg hp1 hl2)
  refine v_icmp_eq (t := 750) (n := 685) C dL_law_682 (by decide) rfl (fun c_1 => ?_) (fun c_1 => ?_)
  · skip
    exact law_next C ih (all_N (all_perJ (all_per hall hp1) hp2)) hvr (by omega) (by omega)
  · first | exact absurd c_1 heq | exact absurd heq c_1 | exact absurd c_1 (Int32.not_le.mpr heq) | exact absurd c_1 (Int32.not_lt.mpr heq) | exact absurd (Int32.not_le.mp heq) c_1 | exact absurd (Int32.not_lt.mp heq) c_1 | exact absurd (Int32.not_le.mp heq) (Int32.not_lt.mpr c_1) | exact absurd (Int32.not_lt.mp heq) (Int32.not_le.mpr c_1) | exact absurd (Int32.not_lt.mp c_1) (Int32.not_le.mpr (Int32.not_le.mp heq))
set_option maxHeartbeats 4000000 in
set_option maxRecDepth 100000 in
theorem law_19 {p : Program} {l : Launch} {e : Env} {s : State} {m : MethodId} {below : List Frame} {meth : Method} {c : Code} {D : va_G} {b bb L : Nat} {xs : Nat → Int32} {rt : Option FieldType} {nm : String} (C : vC p s m #[.ref bb] meth c cL_law 4 RL nm rt D b) (X : va_X bb L xs s s.heap) (hbl : bb < s.heap.size) (hge : s.heap.size ≤ b) (hL : L ≤ 256) {i : Nat} (hi65 : i < 65) (hiL : 4 * i + 4 ≤ L) (ih : LW p l e s m below meth c D b bb (i + 1)) {sc : Nat → Int32} {ar : Nat → Nat → Int32} {hn : Nat → Option Nat} {mh : Int64} {G : List va_E} {hv : HV} {cells slots : Nat} (hall : zAll sc ar hv i) (hvr : HVr hn G hv) (hc : cells ≤ 100 + i) (hs : slots ≤ 1000 + 3 * i) : V p l e room_1 s m #[.ref bb] below meth c D b 4 (lw_Z below #[.ref bb] s) cells slots (wl D b sc ar hn mh G) [(3, .int (nI (4 * i))), (2, .ref (b + 27)), (1, .ref (b + 0)), (0, .ref bb)] [] 687 := by
  refine v_aload_n (n := 688) C dL_law_687 rfl rfl rfl ?_
  refine v_go (n := 691) C (vRun_V (As := []) (rest := []) C wl_c0 rfl lk_L_93 im_X11_image se_X11_image dL_law_688 (c_image l D b sc ar hn mh G hv hvr) wm_X11_image rfl rfl ⟨Nat.le_of_ble_eq_true rfl, Nat.le_of_ble_eq_true rfl⟩ ⟨show _ ≤ 600000 by omega, show _ ≤ 7302250 by omega⟩ (Nat.le_of_ble_eq_true rfl)) rfl ?_
  rintro _ _ ⟨rfl, rfl⟩ -
  refine v_aload_n (n := 692) C dL_law_691 rfl rfl rfl ?_
  refine v_go (n := 695) C (vRun_V (As := []) (rest := [.int (imgS sc ar hv).1]) C wl_c27 rfl lk_L_96 im_X12_image se_X12_image dL_law_692 (m_image l D b (imgS sc ar hv).2.1 (imgS sc ar hv).2.2 hn mh G) wm_X12_image rfl rfl ⟨Nat.le_of_ble_eq_true rfl, Nat.le_of_ble_eq_true rfl⟩ ⟨show _ ≤ 600000 by omega, show _ ≤ 7302250 by omega⟩ (Nat.le_of_ble_eq_true rfl)) rfl ?_
  rintro _ _ ⟨rfl, rfl⟩ -
  have heq : (imgS sc ar hv).1 = (mimS (imgS sc ar hv).2.1 (imgS sc ar hv).2.2).1 := (go_image hall).1
  refine v_icmp_eq (t := 750) (n := 698) C dL_law_695 (by decide) rfl (fun c_1 => ?_) (fun c_1 => ?_)
  · skip
    exact law_next C ih (all_N (go_image hall).2) hvr (by omega) (by omega)
  · first | exact absurd c_1 heq | exact absurd heq c_1 | exact absurd c_1 (Int32.not_le.mpr heq) | exact absurd c_1 (Int32.not_lt.mpr heq) | exact absurd (Int32.not_le.mp heq) c_1 | exact absurd (Int32.not_lt.mp heq) c_1 | exact absurd (Int32.not_le.mp heq) (Int32.not_lt.mpr c_1) | exact absurd (Int32.not_lt.mp heq) (Int32.not_le.mpr c_1) | exact absurd (Int32.not_lt.mp c_1) (Int32.not_le.mpr (Int32.not_le.mp heq))
set_option maxHeartbeats 4000000 in
set_option maxRecDepth 100000 in
theorem law_20 {p : Program} {l : Launch} {e : Env} {s : State} {m : MethodId} {below : List Frame} {meth : Method} {c : Code} {D : va_G} {b bb L : Nat} {xs : Nat → Int32} {rt : Option FieldType} {nm : String} (C : vC p s m #[.ref bb] meth c cL_law 4 RL nm rt D b) (X : va_X bb L xs s s.heap) (hbl : bb < s.heap.size) (hge : s.heap.size ≤ b) (hL : L ≤ 256) {i : Nat} (hi65 : i < 65) (hiL : 4 * i + 4 ≤ L) (ih : LW p l e s m below meth c D b bb (i + 1)) {sc : Nat → Int32} {ar : Nat → Nat → Int32} {hn : Nat → Option Nat} {mh : Int64} {G : List va_E} {hv : HV} {cells slots : Nat} (hall : zAll sc ar hv i) (hvr : HVr hn G hv) (hc : cells ≤ 100 + i) (hs : slots ≤ 1000 + 3 * i) : V p l e room_1 s m #[.ref bb] below meth c D b 4 (lw_Z below #[.ref bb] s) cells slots (wl D b sc ar hn mh G) [(3, .int (nI (4 * i))), (2, .ref (b + 27)), (1, .ref (b + 0)), (0, .ref bb)] [] 700 := by
  refine v_aload_n (n := 701) C dL_law_700 rfl rfl rfl ?_
  refine v_go (n := 704) C (vRun_V (As := []) (rest := []) C wl_c0 rfl lk_L_97 im_X11_restore se_X11_restore dL_law_701 (c_restore l D b sc ar hn mh G hv hvr) wm_X11_restore rfl rfl ⟨Nat.le_of_ble_eq_true rfl, Nat.le_of_ble_eq_true rfl⟩ ⟨show _ ≤ 600000 by omega, show _ ≤ 7302250 by omega⟩ (Nat.le_of_ble_eq_true rfl)) rfl ?_
  rintro _ _ ⟨rfl, hn1, G1, hr1, rfl⟩ -
  refine v_aload_n (n := 705) C dL_law_704 rfl rfl rfl ?_
  refine v_go (n := 708) C (vRun_V (As := []) (rest := [.int (resS sc ar hv).1]) C wl_c27 rfl lk_L_100 im_X12_restore se_X12_restore dL_law_705 (m_restore l D b (resS sc ar hv).2.1 (resS sc ar hv).2.2.1 hn1 mh G1) wm_X12_restore rfl rfl ⟨Nat.le_of_ble_eq_true rfl, Nat.le_of_ble_eq_true rfl⟩ ⟨show _ ≤ 600000 by omega, show _ ≤ 7302250 by omega⟩ (Nat.le_of_ble_eq_true rfl)) rfl ?_
  rintro _ _ ⟨rfl, rfl⟩ -
  have heq : (resS sc ar hv).1 = (mreS (resS sc ar hv).2.1 (resS sc ar hv).2.2.1).1 := (go_restore hall).1
  refine v_icmp_eq (t := 750) (n := 711) C dL_law_708 (by decide) rfl (fun c_1 => ?_) (fun c_1 => ?_)
  · skip
    exact law_next C ih (all_N (go_restore hall).2) hr1 (by omega) (by omega)
  · first | exact absurd c_1 heq | exact absurd heq c_1 | exact absurd c_1 (Int32.not_le.mpr heq) | exact absurd c_1 (Int32.not_lt.mpr heq) | exact absurd (Int32.not_le.mp heq) c_1 | exact absurd (Int32.not_lt.mp heq) c_1 | exact absurd (Int32.not_le.mp heq) (Int32.not_lt.mpr c_1) | exact absurd (Int32.not_lt.mp heq) (Int32.not_le.mpr c_1) | exact absurd (Int32.not_lt.mp c_1) (Int32.not_le.mpr (Int32.not_le.mp heq))
set_option maxHeartbeats 4000000 in
set_option maxRecDepth 100000 in
theorem law_21 {p : Program} {l : Launch} {e : Env} {s : State} {m : MethodId} {below : List Frame} {meth : Method} {c : Code} {D : va_G} {b bb L : Nat} {xs : Nat → Int32} {rt : Option FieldType} {nm : String} (C : vC p s m #[.ref bb] meth c cL_law 4 RL nm rt D b) (X : va_X bb L xs s s.heap) (hbl : bb < s.heap.size) (hge : s.heap.size ≤ b) (hL : L ≤ 256) {i : Nat} (hi65 : i < 65) (hiL : 4 * i + 4 ≤ L) (ih : LW p l e s m below meth c D b bb (i + 1)) {sc : Nat → Int32} {ar : Nat → Nat → Int32} {hn : Nat → Option Nat} {mh : Int64} {G : List va_E} {hv : HV} {cells slots : Nat} (hall : zAll sc ar hv i) (hvr : HVr hn G hv) (hc : cells ≤ 100 + i) (hs : slots ≤ 1000 + 3 * i) : V p l e room_1 s m #[.ref bb] below meth c D b 4 (lw_Z below #[.ref bb] s) cells slots (wl D b sc ar hn mh G) [(3, .int (nI (4 * i))), (2, .ref (b + 27)), (1, .ref (b + 0)), (0, .ref bb)] [] 713 := by
  obtain ⟨hi, kk, dd, FF, cc, hh, R, H, W, Hn, Sn, Pn, rl, hkp⟩ := id hall
  refine v_aload_n (n := 714) C dL_law_713 rfl rfl rfl ?_
  refine v_aload_n (n := 715) C dL_law_714 rfl rfl rfl ?_
  refine v_iload_n (n := 716) C dL_law_715 rfl rfl rfl ?_
  refine v_iconst (n := 717) (v := 1) C dL_law_716 rfl (by decide) ?_
  refine v_iadd (n := 718) C dL_law_717 rfl ?_
  refine y_sld (n := 719) (j := (4 * i + 1)) C X hbl hge dL_law_718 rfl (sl_e 1) (by omega) hL ?_
  refine v_go (n := 722) C (vRun_V (As := [.int (xs (4 * i + 1))]) (rest := []) C wl_c0 rfl lk_L_101 im_X11_count se_X11_count dL_law_719 (c_count l D b sc ar hn mh G (xs (4 * i + 1)) hv hvr) wm_X11_count rfl rfl ⟨Nat.le_of_ble_eq_true rfl, Nat.le_of_ble_eq_true rfl⟩ ⟨show _ ≤ 600000 by omega, show _ ≤ 7302250 by omega⟩ (Nat.le_of_ble_eq_true rfl)) rfl ?_
  rintro _ _ ⟨rfl, rfl⟩ -
  refine v_aload_n (n := 723) C dL_law_722 rfl rfl rfl ?_
  refine v_aload_n (n := 724) C dL_law_723 rfl rfl rfl ?_
  refine v_iload_n (n := 725) C dL_law_724 rfl rfl rfl ?_
  refine v_iconst (n := 726) (v := 1) C dL_law_725 rfl (by decide) ?_
  refine v_iadd (n := 727) C dL_law_726 rfl ?_
  refine y_sld (n := 728) (j := (4 * i + 1)) C X hbl hge dL_law_727 rfl (sl_e 1) (by omega) hL ?_
  refine v_go (n := 731) C (vRun_V (As := [.int (xs (4 * i + 1))]) (rest := [.int (coF sc ar hv (xs (4 * i + 1)))]) C wl_c27 rfl lk_L_104 im_X12_count se_X12_count dL_law_728 (m_count l D b sc ar hn mh G (xs (4 * i + 1)) Hn rl.2.2.2.1.2.1 rl.2.2.2.1.2.2 (rl_rc rl)) wm_X12_count rfl rfl ⟨Nat.le_of_ble_eq_true rfl, Nat.le_of_ble_eq_true rfl⟩ ⟨show _ ≤ 600000 by omega, show _ ≤ 7302250 by omega⟩ (Nat.le_of_ble_eq_true rfl)) rfl ?_
  rintro _ _ ⟨rfl, rfl⟩ -
  have heq : (coF sc ar hv (xs (4 * i + 1))) = (mctF sc ar Hn (xs (4 * i + 1))) := eq_count rl (xs (4 * i + 1))
  refine v_icmp_eq (t := 750) (n := 734) C dL_law_731 (by decide) rfl (fun c_1 => ?_) (fun c_1 => ?_)
  · skip
    exact law_next C ih (all_N hall) hvr (by omega) (by omega)
  · first | exact absurd c_1 heq | exact absurd heq c_1 | exact absurd c_1 (Int32.not_le.mpr heq) | exact absurd c_1 (Int32.not_lt.mpr heq) | exact absurd (Int32.not_le.mp heq) c_1 | exact absurd (Int32.not_lt.mp heq) c_1 | exact absurd (Int32.not_le.mp heq) (Int32.not_lt.mpr c_1) | exact absurd (Int32.not_lt.mp heq) (Int32.not_le.mpr c_1) | exact absurd (Int32.not_lt.mp c_1) (Int32.not_le.mpr (Int32.not_le.mp heq))
set_option maxHeartbeats 4000000 in
set_option maxRecDepth 100000 in
theorem law_22 {p : Program} {l : Launch} {e : Env} {s : State} {m : MethodId} {below : List Frame} {meth : Method} {c : Code} {D : va_G} {b bb L : Nat} {xs : Nat → Int32} {rt : Option FieldType} {nm : String} (C : vC p s m #[.ref bb] meth c cL_law 4 RL nm rt D b) (X : va_X bb L xs s s.heap) (hbl : bb < s.heap.size) (hge : s.heap.size ≤ b) (hL : L ≤ 256) {i : Nat} (hi65 : i < 65) (hiL : 4 * i + 4 ≤ L) (ih : LW p l e s m below meth c D b bb (i + 1)) {sc : Nat → Int32} {ar : Nat → Nat → Int32} {hn : Nat → Option Nat} {mh : Int64} {G : List va_E} {hv : HV} {cells slots : Nat} (hall : zAll sc ar hv i) (hvr : HVr hn G hv) (hc : cells ≤ 100 + i) (hs : slots ≤ 1000 + 3 * i) : V p l e room_1 s m #[.ref bb] below meth c D b 4 (lw_Z below #[.ref bb] s) cells slots (wl D b sc ar hn mh G) [(3, .int (nI (4 * i))), (2, .ref (b + 27)), (1, .ref (b + 0)), (0, .ref bb)] [] 736 := by
  obtain ⟨hi, kk, dd, FF, cc, hh, R, H, W, Hn, Sn, Pn, rl, hkp⟩ := id hall
  refine v_aload_n (n := 737) C dL_law_736 rfl rfl rfl ?_
  refine v_go (n := 740) C (vRun_V (As := []) (rest := []) C wl_c0 rfl lk_L_105 im_X11_digest se_X11_digest dL_law_737 (c_digest l D b sc ar hn mh G hv hvr hi kk dd FF cc hh R H W Hn Sn Pn rl) wm_X11_digest rfl rfl ⟨Nat.le_of_ble_eq_true rfl, Nat.le_of_ble_eq_true rfl⟩ ⟨show _ ≤ 600000 by omega, show _ ≤ 7302250 by omega⟩ (Nat.le_of_ble_eq_true rfl)) rfl ?_
  rintro _ _ ⟨sc1, ar1, hp1, rfl, rfl⟩ -
  have rl1 := rl_per rl hp1
  refine v_aload_n (n := 741) C dL_law_740 rfl rfl rfl ?_
  refine v_go (n := 744) C (vRun_V (As := []) (rest := [.long (dkN sc1 ar1 hv (mdP (ar1 1) (dgH (fun k h => mshF sc ar k (fun c => (vyQ hi R W (kk k) (dd k) (FF k) H).1 c) (fun c => stQ hi R W (kk k) (dd k) (ar 35) (nI k) Sn c) h) Hn (dgC sc ar hv) 3) Pn) 9)]) C wl_c27 rfl lk_L_109 im_X12_digest se_X12_digest dL_law_741 (m_digest l D b sc1 ar1 hn mh G hi kk dd FF R H W rl1.1.2.1 rl1.1.2.2 rl1.2.1.2.1 rl1.2.1.2.2 rl1.2.2.1.2.1 rl1.2.2.1.2.2 Hn rl1.2.2.2.1.2.1 rl1.2.2.2.1.2.2 (rl_Z rl1) Sn rl1.2.2.2.2.1.2.1 rl1.2.2.2.2.1.2.2 (rl_rc rl1) Pn rl1.2.2.2.2.2.1.2.1 rl1.2.2.2.2.2.1.2.2) wm_X12_digest rfl rfl ⟨Nat.le_of_ble_eq_true rfl, Nat.le_of_ble_eq_true rfl⟩ ⟨show _ ≤ 600000 by omega, show _ ≤ 7302250 by omega⟩ (Nat.le_of_ble_eq_true rfl)) rfl ?_
  rintro _ _ ⟨rfl, sc2, ar2, mh2, hp2, rfl⟩ -
  have heq : (dkN sc1 ar1 hv (mdP (ar1 1) (dgH (fun k h => mshF sc ar k (fun c => (vyQ hi R W (kk k) (dd k) (FF k) H).1 c) (fun c => stQ hi R W (kk k) (dd k) (ar 35) (nI k) Sn c) h) Hn (dgC sc ar hv) 3) Pn) 9) = (mdK sc1 ar1 Hn (mdP (ar1 28) (mdH (fun k h => mshF sc1 ar1 k (fun c => (vyQ hi R W (kk k) (dd k) (FF k) H).1 c) (fun c => stQ hi R W (kk k) (dd k) (ar1 35) (nI k) Sn c) h) (mdC sc1 ar1 Hn 12) Hn) Pn) 9) := eq_digest rl hp1
  have hlc := lg_same heq
  refine v_lcmp (n := 745) C dL_law_744 rfl ?_
  refine v_if_eq (t := 750) (n := 748) C dL_law_745 (by decide) rfl (fun c_1 => ?_) (fun c_1 => ?_)
  · skip
    exact law_next C ih (all_N (all_perJ (all_per hall hp1) (PerJ_of hp2))) hvr (by omega) (by omega)
  · first | exact absurd c_1 hlc | exact absurd hlc c_1 | exact absurd c_1 (Int32.not_le.mpr hlc) | exact absurd c_1 (Int32.not_lt.mpr hlc) | exact absurd (Int32.not_le.mp hlc) c_1 | exact absurd (Int32.not_lt.mp hlc) c_1 | exact absurd (Int32.not_le.mp hlc) (Int32.not_lt.mpr c_1) | exact absurd (Int32.not_lt.mp hlc) (Int32.not_le.mpr c_1) | exact absurd (Int32.not_lt.mp c_1) (Int32.not_le.mpr (Int32.not_le.mp hlc))
