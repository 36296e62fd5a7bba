theorem sf_9 : Cond.fieldLink RJ0 9 "java/lang/String" "value" "[B" ∈ lw_g := gmi 1060 (by decide +kernel) (by decide +kernel)
theorem sf_15 : Cond.fieldLink RJ0 15 "java/lang/String" "coder" "B" ∈ lw_g := gmi 1061 (by decide +kernel) (by decide +kernel)
theorem sf_38 : Cond.fieldLink RJ0 38 "java/lang/String" "COMPACT_STRINGS" "Z" ∈ lw_g := gmi 271 (by decide +kernel) (by decide +kernel)
theorem sf_1053 : Cond.fieldLink RJ0 1053 "jdk/internal/util/Preconditions" "SIOOBE_FORMATTER" "Ljava/util/function/BiFunction;" ∈ lw_g := gmi 287 (by decide +kernel) (by decide +kernel)
def sbF (j : Nat) : Int32 := (vSbyt.getD 0 []).getD j 0
section VSX
variable {p : Program} {l : Launch} {e : Env} {R : Room} {s : State} {m : MethodId} {args : Array Value} {below : List Frame} {meth : Method} {c : Code} {D : va_G} {b nL : Nat} {Q : State → Prop} {cells slots : Nat} {es : List va_E} {lv : List (Nat × Value)} {rest st0 : List Value} {pc n : Nat} {cc : ByteArray} {own nm : String} {ret : Option FieldType}
variable {y : MethodName} {bytes : ByteArray} {maxL fr lo mc ms k idx : Nat} {rt : Option FieldType} {As : List Value} {Post : Option Value → List va_E → Prop}
theorem v_ldcS (C : vC p s m args meth c cc nL own nm ret D b) (ho : own = "WheatSea") (hdg : decode cc pc = .ok (.ldc 74, 2)) (hn : pc + 2 = n) (K : V p l e R s m args below meth c D b nL Q cells slots es lv (.ref (D.2 99 0) :: rest) n) : V p l e R s m args below meth c D b nL Q cells slots es lv (rest) pc := by
  subst hn
  subst ho
  intro H locs ls hz hP hS hl
  exact va_ldcS C.1 C.2.1 C.2.2.2.1 (C.2.2.2.2.2.2.2.2.2.2.2.2.2.2.1.2) hdg (K H locs ls hz hP hS hl)
theorem v_svalue (C : vC p s m args meth c cc nL own nm ret D b) (ho : own = RJ0) (hdg : decode cc pc = .ok (.getfield 9, 3)) (hn : pc + 3 = n) (K : V p l e R s m args below meth c D b nL Q cells slots es lv (.ref (D.2 98 0) :: rest) n) : V p l e R s m args below meth c D b nL Q cells slots es lv (.ref (D.2 99 0) :: rest) pc := by
  subst hn
  subst ho
  intro H locs ls hz hP hS hl
  exact vk_getf C.1 C.2.1 (C.2.2.2.2.2.2.2.2.2.2.2.2.2.2.1.1.1 0 (by decide)).2.2.1 hS C.2.2.2.1 (C.2.2.2.2.1 _ sf_9) (fun x hx => hx) hdg (K H locs ls hz hP hS hl)
theorem v_scoder (C : vC p s m args meth c cc nL own nm ret D b) (ho : own = RJ0) (hdg : decode cc pc = .ok (.getfield 15, 3)) (hn : pc + 3 = n) (K : V p l e R s m args below meth c D b nL Q cells slots es lv (.int 0 :: rest) n) : V p l e R s m args below meth c D b nL Q cells slots es lv (.ref (D.2 99 0) :: rest) pc := by
  subst hn
  subst ho
  intro H locs ls hz hP hS hl
  exact vk_getf C.1 C.2.1 (C.2.2.2.2.2.2.2.2.2.2.2.2.2.2.1.1.1 0 (by decide)).2.1 hS C.2.2.2.1 (C.2.2.2.2.1 _ sf_15) (fun x hx => hx) hdg (K H locs ls hz hP hS hl)
theorem v_scomp (C : vC p s m args meth c cc nL own nm ret D b) (ho : own = RJ0) (hdg : decode cc pc = .ok (.getstatic 38, 3)) (hn : pc + 3 = n) (K : V p l e R s m args below meth c D b nL Q cells slots es lv (.int 1 :: rest) n) : V p l e R s m args below meth c D b nL Q cells slots es lv (rest) pc := by
  subst hn
  subst ho
  intro H locs ls hz hP hS hl
  exact va_gets C.1 C.2.1 C.2.2.2.2.2.2.2.2.2.2.2.2.2.2.2.1 hS C.2.2.2.1 (C.2.2.2.2.1 _ sf_38) (fun x hx => hx) hdg (K H locs ls hz hP hS hl)
theorem v_sform (C : vC p s m args meth c cc nL own nm ret D b) (ho : own = RJ0) (hdg : decode cc pc = .ok (.getstatic 1053, 3)) (hn : pc + 3 = n) (K0 : V p l e R s m args below meth c D b nL Q cells slots es lv (.null :: rest) n) (K1 : ∀ t : Nat, V p l e R s m args below meth c D b nL Q cells slots es lv (.ref t :: rest) n) : V p l e R s m args below meth c D b nL Q cells slots es lv (rest) pc := by
  subst hn
  subst ho
  intro H locs ls hz hP hS hl
  rcases C.2.2.2.2.2.2.2.2.2.2.2.2.2.2.2.2.1 with hZ | ⟨t, hZ⟩
  · exact va_gets C.1 C.2.1 hZ hS C.2.2.2.1 (C.2.2.2.2.1 _ sf_1053) (fun x hx => hx) hdg (K0 H locs ls hz hP hS hl)
  · exact va_gets C.1 C.2.1 hZ hS C.2.2.2.1 (C.2.2.2.2.1 _ sf_1053) (fun x hx => hx) hdg (K1 t H locs ls hz hP hS hl)
theorem v_slen (C : vC p s m args meth c cc nL own nm ret D b) (hdg : decode cc pc = .ok (.arraylength, 1)) (hn : pc + 1 = n) (K : V p l e R s m args below meth c D b nL Q cells slots es lv (.int 16 :: rest) n) : V p l e R s m args below meth c D b nL Q cells slots es lv (.ref (D.2 98 0) :: rest) pc := by
  subst hn
  intro H locs ls hz hP hS hl
  exact va_tlen C.1 C.2.1 (C.2.2.2.2.2.2.2.2.2.2.2.2.2.2.1.1.1 0 (by decide)).2.2.2 hS (by decide) hdg (K H locs ls hz hP hS hl)
theorem v_sld (C : vC p s m args meth c cc nL own nm ret D b) {i : Int32} (hdg : decode cc pc = .ok (.baload, 1)) (hn : pc + 1 = n) (hin : vp_in i 16) (K : V p l e R s m args below meth c D b nL Q cells slots es lv (.int (sbF i.toNatClampNeg) :: rest) n) : V p l e R s m args below meth c D b nL Q cells slots es lv (.int i :: .ref (D.2 98 0) :: rest) pc := by
  subst hn
  intro H locs ls hz hP hS hl
  exact va_tb C.1 C.2.1 (C.2.2.2.2.2.2.2.2.2.2.2.2.2.2.1.1.1 0 (by decide)).2.2.2 hS hin rfl hdg (K H locs ls hz hP hS hl)
theorem v_i2c (C : vC p s m args meth c cc nL own nm ret D b) {x : Int32} (hdg : decode cc pc = .ok (.i2c, 1)) (hn : pc + 1 = n) (K : V p l e R s m args below meth c D b nL Q cells slots es lv (.int (x.toUInt32 % 65536).toInt32 :: rest) n) : V p l e R s m args below meth c D b nL Q cells slots es lv (.int x :: rest) pc := by
  subst hn
  intro H locs ls hz hP hS hl
  exact lv_i2c C.1 C.2.1 hdg rfl (K H locs ls hz hP hS hl)
theorem vRun_VS (C : vC p s m args meth c cc nL own nm ret D b) (hlink : Cond.methodLink own idx y ∈ lw_g) (hinst : Cond.instanceMethod y ∈ lw_g) (hsel : Cond.selects "java/lang/String" y y ∈ lw_g) (hdg : decode cc pc = .ok (.invokevirtual idx, 3)) (hM : Con l y bytes maxL rt fr lo D b mc ms es (.ref (D.2 99 0) :: As) Post) (hw1 : WM y bytes maxL rt k) (hk : As.length = k) (hst : st0 = As.reverse ++ .ref (D.2 99 0) :: rest) (hR : fr + 1 ≤ R.frames ∧ 8 + (maxL + 11) + lo ≤ R.locals) (hf : cells + mc ≤ R.cells ∧ slots + ms ≤ R.slots) (hW : (rest.map fun v => v.category).sum ≤ 8) : vRun p l e R s m args below meth c D b nL cells slots es rest st0 pc mc ms Post := by
  subst hst
  intro H locs ls hz hP hS hls T hT X
  exact va_runV ⟨C.1, C.2.1, C.2.2.1, C.2.2.2.1, C.2.2.2.2.1⟩ hM ⟨(callB_of k C.2.2.2.2.1 (gdc hw1) rfl rfl rfl (C.2.2.2.2.1 _ hw1.2.1) (C.2.2.2.2.1 _ hlink) hw1.2.2 hR), C.2.2.2.2.1 _ hinst, C.2.2.2.2.1 _ hsel⟩ ⟨vU_blind, vk_recv C.2.2.2.2.2.2.2.2.2.2.2.2.2.2.1.1 (by decide) hS, vU_pre C X hT hz hP hS⟩ rfl hk hls rfl (lv_room hW) hdg hf T hT X
end VSX
set_option maxHeartbeats 4000000 in
set_option maxRecDepth 100000 in
theorem c_Scoder (l : Launch) (D : va_G) (b : Nat) (es : List va_E)  : Con l yJ0_coder_7d493 cJ0_coder_7d493 1 (some .byte) 0 0 D b 0 0 es [.ref (D.2 99 0)] (fun r es' => r = some (.int (0)) ∧ es = es') := by
  refine con_of (by decide) (Nat.le_of_ble_eq_true rfl) (fun p e s m args below meth c C hsz => ?_)
  have C : vC p s m args meth c cJ0_coder_7d493 1 RJ0 "coder" (some .byte) D b := C
  change V p l e _ s m args below meth c D b 1 _ 0 0 es [(0, .ref (D.2 99 0))] [] 0
  refine v_scomp (n := 3) C rfl dJ0_coder_7d493_0 rfl ?_
  refine v_if_eq (t := 13) (n := 6) C dJ0_coder_7d493_3 (by decide) rfl (fun c_1 => ?_) (fun c_1 => ?_)
  · exact absurd c_1 (by decide)
  · skip
    refine v_aload_n (n := 7) C dJ0_coder_7d493_6 rfl rfl rfl ?_
    refine v_scoder (n := 10) C rfl dJ0_coder_7d493_7 rfl ?_
    refine v_goto (t := 14) C dJ0_coder_7d493_10 (by decide) ?_
    exact v_iret C dJ0_coder_7d493_14 rfl rfl ⟨by first | rfl | (simp only [if_neg c_1]; done) | simp [c_1] , rfl⟩
set_option maxHeartbeats 4000000 in
set_option maxRecDepth 100000 in
theorem c_Slength (l : Launch) (D : va_G) (b : Nat) (es : List va_E)  : Con l yJ0_length_8abf5 cJ0_length_8abf5 1 (some .int) 1 20 D b 0 0 es [.ref (D.2 99 0)] (fun r es' => r = some (.int (16)) ∧ es = es') := by
  refine con_of (by decide) (Nat.le_of_ble_eq_true rfl) (fun p e s m args below meth c C hsz => ?_)
  have C : vC p s m args meth c cJ0_length_8abf5 1 RJ0 "length" (some .int) D b := C
  change V p l e _ s m args below meth c D b 1 _ 0 0 es [(0, .ref (D.2 99 0))] [] 0
  refine v_aload_n (n := 1) C dJ0_length_8abf5_0 rfl rfl rfl ?_
  refine v_svalue (n := 4) C rfl dJ0_length_8abf5_1 rfl ?_
  refine v_slen (n := 5) C dJ0_length_8abf5_4 rfl ?_
  refine v_aload_n (n := 6) C dJ0_length_8abf5_5 rfl rfl rfl ?_
  refine v_go (n := 9) C (vRun_VS (As := []) (rest := [.int 16]) C lk_J0_335 im_J0_coder_7d493 se_J0_coder_7d493 dJ0_length_8abf5_6 (c_Scoder l D b es) wm_J0_coder_7d493 rfl rfl ⟨Nat.le_of_ble_eq_true rfl, Nat.le_of_ble_eq_true rfl⟩ ⟨Nat.le_of_ble_eq_true rfl, Nat.le_of_ble_eq_true rfl⟩ (Nat.le_of_ble_eq_true rfl)) rfl ?_
  rintro _ _ ⟨rfl, rfl⟩ -
  refine v_ishr (n := 10) C dJ0_length_8abf5_9 rfl ?_
  exact v_iret C dJ0_length_8abf5_10 rfl rfl ⟨by first | rfl | (simp only []; done) | simp [] , rfl⟩
set_option maxHeartbeats 4000000 in
set_option maxRecDepth 100000 in
theorem c_Slatin (l : Launch) (D : va_G) (b : Nat) (es : List va_E)  : Con l yJ0_isLatin1_aae02 cJ0_isLatin1_aae02 1 (some .boolean) 0 0 D b 0 0 es [.ref (D.2 99 0)] (fun r es' => r = some (.int (1)) ∧ es = es') := by
  refine con_of (by decide) (Nat.le_of_ble_eq_true rfl) (fun p e s m args below meth c C hsz => ?_)
  have C : vC p s m args meth c cJ0_isLatin1_aae02 1 RJ0 "isLatin1" (some .boolean) D b := C
  change V p l e _ s m args below meth c D b 1 _ 0 0 es [(0, .ref (D.2 99 0))] [] 0
  refine v_scomp (n := 3) C rfl dJ0_isLatin1_aae02_0 rfl ?_
  refine v_if_eq (t := 17) (n := 6) C dJ0_isLatin1_aae02_3 (by decide) rfl (fun c_1 => ?_) (fun c_1 => ?_)
  · exact absurd c_1 (by decide)
  · skip
    refine v_aload_n (n := 7) C dJ0_isLatin1_aae02_6 rfl rfl rfl ?_
    refine v_scoder (n := 10) C rfl dJ0_isLatin1_aae02_7 rfl ?_
    refine v_if_ne (t := 17) (n := 13) C dJ0_isLatin1_aae02_10 (by decide) rfl (fun c_2 => ?_) (fun c_2 => ?_)
    · exact absurd c_2 (by decide)
    · skip
      refine v_iconst (n := 14) (v := 1) C dJ0_isLatin1_aae02_13 rfl (by decide) ?_
      refine v_goto (t := 18) C dJ0_isLatin1_aae02_14 (by decide) ?_
      exact v_iret C dJ0_isLatin1_aae02_18 rfl rfl ⟨by first | rfl | (simp only [if_neg c_1, if_pos c_2]; done) | simp [c_1, c_2] , rfl⟩
set_option maxHeartbeats 4000000 in
set_option maxRecDepth 100000 in
theorem c_Pcheck0 (l : Launch) (D : va_G) (b : Nat) (es : List va_E) (x : Int32) (h0 : ¬ x < 0) (h1 : x < 16) : Con l yJ3_checkIndex_8e157 cJ3_checkIndex_8e157 3 (some .int) 0 0 D b 0 0 es [.int x, .int 16, .null] (fun r es' => r = some (.int x) ∧ es = es') := by
  refine con_of (by decide) (Nat.le_of_ble_eq_true rfl) (fun p e s m args below meth c C hsz => ?_)
  have C : vC p s m args meth c cJ3_checkIndex_8e157 3 RJ3 "checkIndex" (some .int) D b := C
  change V p l e _ s m args below meth c D b 3 _ 0 0 es [(0, .int x), (1, .int 16), (2, .null)] [] 0
  refine v_iload_n (n := 1) C dJ3_checkIndex_8e157_0 rfl rfl rfl ?_
  refine v_if_lt (t := 9) (n := 4) C dJ3_checkIndex_8e157_1 (by decide) rfl (fun c_1 => ?_) (fun c_1 => ?_)
  · first | exact absurd c_1 h0 | exact absurd h0 c_1 | exact absurd c_1 (Int32.not_le.mpr h0) | exact absurd c_1 (Int32.not_lt.mpr h0) | exact absurd (Int32.not_le.mp h0) c_1 | exact absurd (Int32.not_lt.mp h0) c_1 | exact absurd (Int32.not_le.mp h0) (Int32.not_lt.mpr c_1) | exact absurd (Int32.not_lt.mp h0) (Int32.not_le.mpr c_1) | exact absurd (Int32.not_lt.mp c_1) (Int32.not_le.mpr (Int32.not_le.mp h0))
  · skip
    refine v_iload_n (n := 5) C dJ3_checkIndex_8e157_4 rfl rfl rfl ?_
    refine v_iload_n (n := 6) C dJ3_checkIndex_8e157_5 rfl rfl rfl ?_
    refine v_icmp_lt (t := 16) (n := 9) C dJ3_checkIndex_8e157_6 (by decide) rfl (fun c_2 => ?_) (fun c_2 => ?_)
    · skip
      refine v_iload_n (n := 17) C dJ3_checkIndex_8e157_16 rfl rfl rfl ?_
      exact v_iret C dJ3_checkIndex_8e157_17 rfl rfl ⟨by first | rfl | (simp only [if_neg h0, if_pos (Int32.not_lt.mp h0), if_pos h1, if_neg (Int32.not_le.mpr h1), if_neg c_1, if_pos (Int32.not_lt.mp c_1), if_pos c_2, if_neg (Int32.not_le.mpr c_2)]; done) | simp [h0, h1, c_1, c_2] , rfl⟩
    · first | exact absurd c_2 h1 | exact absurd h1 c_2 | exact absurd c_2 (Int32.not_le.mpr h1) | exact absurd c_2 (Int32.not_lt.mpr h1) | exact absurd (Int32.not_le.mp h1) c_2 | exact absurd (Int32.not_lt.mp h1) c_2 | exact absurd (Int32.not_le.mp h1) (Int32.not_lt.mpr c_2) | exact absurd (Int32.not_lt.mp h1) (Int32.not_le.mpr c_2) | exact absurd (Int32.not_lt.mp c_2) (Int32.not_le.mpr (Int32.not_le.mp h1))
set_option maxHeartbeats 4000000 in
set_option maxRecDepth 100000 in
theorem c_Pcheck1 (l : Launch) (D : va_G) (b : Nat) (es : List va_E) (t : Nat) (x : Int32) (h0 : ¬ x < 0) (h1 : x < 16) : Con l yJ3_checkIndex_8e157 cJ3_checkIndex_8e157 3 (some .int) 0 0 D b 0 0 es [.int x, .int 16, .ref t] (fun r es' => r = some (.int x) ∧ es = es') := by
  refine con_of (by decide) (Nat.le_of_ble_eq_true rfl) (fun p e s m args below meth c C hsz => ?_)
  have C : vC p s m args meth c cJ3_checkIndex_8e157 3 RJ3 "checkIndex" (some .int) D b := C
  change V p l e _ s m args below meth c D b 3 _ 0 0 es [(0, .int x), (1, .int 16), (2, .ref t)] [] 0
  refine v_iload_n (n := 1) C dJ3_checkIndex_8e157_0 rfl rfl rfl ?_
  refine v_if_lt (t := 9) (n := 4) C dJ3_checkIndex_8e157_1 (by decide) rfl (fun c_1 => ?_) (fun c_1 => ?_)
  · first | exact absurd c_1 h0 | exact absurd h0 c_1 | exact absurd c_1 (Int32.not_le.mpr h0) | exact absurd c_1 (Int32.not_lt.mpr h0) | exact absurd (Int32.not_le.mp h0) c_1 | exact absurd (Int32.not_lt.mp h0) c_1 | exact absurd (Int32.not_le.mp h0) (Int32.not_lt.mpr c_1) | exact absurd (Int32.not_lt.mp h0) (Int32.not_le.mpr c_1) | exact absurd (Int32.not_lt.mp c_1) (Int32.not_le.mpr (Int32.not_le.mp h0))
  · skip
    refine v_iload_n (n := 5) C dJ3_checkIndex_8e157_4 rfl rfl rfl ?_
    refine v_iload_n (n := 6) C dJ3_checkIndex_8e157_5 rfl rfl rfl ?_
    refine v_icmp_lt (t := 16) (n := 9) C dJ3_checkIndex_8e157_6 (by decide) rfl (fun c_2 => ?_) (fun c_2 => ?_)
    · skip
      refine v_iload_n (n := 17) C dJ3_checkIndex_8e157_16 rfl rfl rfl ?_
      exact v_iret C dJ3_checkIndex_8e157_17 rfl rfl ⟨by first | rfl | (simp only [if_neg h0, if_pos (Int32.not_lt.mp h0), if_pos h1, if_neg (Int32.not_le.mpr h1), if_neg c_1, if_pos (Int32.not_lt.mp c_1), if_pos c_2, if_neg (Int32.not_le.mpr c_2)]; done) | simp [h0, h1, c_1, c_2] , rfl⟩
    · first | exact absurd c_2 h1 | exact absurd h1 c_2 | exact absurd c_2 (Int32.not_le.mpr h1) | exact absurd c_2 (Int32.not_lt.mpr h1) | exact absurd (Int32.not_le.mp h1) c_2 | exact absurd (Int32.not_lt.mp h1) c_2 | exact absurd (Int32.not_le.mp h1) (Int32.not_lt.mpr c_2) | exact absurd (Int32.not_lt.mp h1) (Int32.not_le.mpr c_2) | exact absurd (Int32.not_lt.mp c_2) (Int32.not_le.mpr (Int32.not_le.mp h1))
set_option maxHeartbeats 4000000 in
set_option maxRecDepth 100000 in
theorem c_Scheck (l : Launch) (D : va_G) (b : Nat) (es : List va_E) (x : Int32) (h0 : ¬ x < 0) (h1 : x < 16) : Con l yJ0_checkIndex_df160 cJ0_checkIndex_df160 2 none 1 22 D b 0 0 es [.int x, .int 16] (fun r es' => r = none ∧ es = es') := by
  refine con_of (by decide) (Nat.le_of_ble_eq_true rfl) (fun p e s m args below meth c C hsz => ?_)
  have C : vC p s m args meth c cJ0_checkIndex_df160 2 RJ0 "checkIndex" none D b := C
  change V p l e _ s m args below meth c D b 2 _ 0 0 es [(0, .int x), (1, .int 16)] [] 0
  refine v_iload_n (n := 1) C dJ0_checkIndex_df160_0 rfl rfl rfl ?_
  refine v_iload_n (n := 2) C dJ0_checkIndex_df160_1 rfl rfl rfl ?_
  refine v_sform (n := 5) C rfl dJ0_checkIndex_df160_2 rfl ?_ (fun t => ?_)
  · skip
    refine v_go (n := 8) C (vRun_S (As := [.int x, .int 16, .null]) (rest := []) C lk_J0_1059 st_J3_checkIndex_8e157 dJ0_checkIndex_df160_5 (c_Pcheck0 l D b es x h0 h1) wm_J3_checkIndex_8e157 rfl rfl ⟨Nat.le_of_ble_eq_true rfl, Nat.le_of_ble_eq_true rfl⟩ ⟨Nat.le_of_ble_eq_true rfl, Nat.le_of_ble_eq_true rfl⟩ (Nat.le_of_ble_eq_true rfl)) rfl ?_
    rintro _ _ ⟨rfl, rfl⟩ -
    refine v_pop (n := 9) C dJ0_checkIndex_df160_8 rfl rfl ?_
    exact v_vret C dJ0_checkIndex_df160_9 rfl ⟨rfl, rfl⟩
  · skip
    refine v_go (n := 8) C (vRun_S (As := [.int x, .int 16, .ref t]) (rest := []) C lk_J0_1059 st_J3_checkIndex_8e157 dJ0_checkIndex_df160_5 (c_Pcheck1 l D b es t x h0 h1) wm_J3_checkIndex_8e157 rfl rfl ⟨Nat.le_of_ble_eq_true rfl, Nat.le_of_ble_eq_true rfl⟩ ⟨Nat.le_of_ble_eq_true rfl, Nat.le_of_ble_eq_true rfl⟩ (Nat.le_of_ble_eq_true rfl)) rfl ?_
    rintro _ _ ⟨rfl, rfl⟩ -
    refine v_pop (n := 9) C dJ0_checkIndex_df160_8 rfl rfl ?_
    exact v_vret C dJ0_checkIndex_df160_9 rfl ⟨rfl, rfl⟩
theorem sb_c : ∀ j, j < 16 → (UInt32.toInt32 ((Int32.toUInt32 (sbF j &&& 255)) % 65536)) = sbF j ∧ narrow .char (.int (sbF j)) = .int (sbF j) := by decide +kernel
theorem sb_x {x : Int32} (h0 : ¬ x < 0) (h1 : x < 16) : x.toNatClampNeg < 16 := by
  obtain ⟨j, hj, e⟩ := nI_of h0
  rw [e, nI_clamp hj]
  rw [e, show (16 : Int32) = nI 16 from rfl, nI_ltI hj (by decide)] at h1
  exact h1
set_option maxHeartbeats 4000000 in
set_option maxRecDepth 100000 in
theorem c_L1charAt (l : Launch) (D : va_G) (b : Nat) (es : List va_E) (x : Int32) (h0 : ¬ x < 0) (h1 : x < 16) : Con l yJ1_charAt_3b067 cJ1_charAt_3b067 2 (some .char) 2 43 D b 0 0 es [.ref (D.2 98 0), .int x] (fun r es' => r = some (.int (sbF (Int32.toNatClampNeg x))) ∧ es = es') := by
  refine con_of (by decide) (Nat.le_of_ble_eq_true rfl) (fun p e s m args below meth c C hsz => ?_)
  have C : vC p s m args meth c cJ1_charAt_3b067 2 RJ1 "charAt" (some .char) D b := C
  change V p l e _ s m args below meth c D b 2 _ 0 0 es [(0, .ref (D.2 98 0)), (1, .int x)] [] 0
  refine v_iload_n (n := 1) C dJ1_charAt_3b067_0 rfl rfl rfl ?_
  refine v_aload_n (n := 2) C dJ1_charAt_3b067_1 rfl rfl rfl ?_
  refine v_slen (n := 3) C dJ1_charAt_3b067_2 rfl ?_
  refine v_go (n := 6) C (vRun_S (As := [.int x, .int 16]) (rest := []) C lk_J1_9 st_J0_checkIndex_df160 dJ1_charAt_3b067_3 (c_Scheck l D b es x h0 h1) wm_J0_checkIndex_df160 rfl rfl ⟨Nat.le_of_ble_eq_true rfl, Nat.le_of_ble_eq_true rfl⟩ ⟨Nat.le_of_ble_eq_true rfl, Nat.le_of_ble_eq_true rfl⟩ (Nat.le_of_ble_eq_true rfl)) rfl ?_
  rintro _ _ ⟨rfl, rfl⟩ -
  refine v_aload_n (n := 7) C dJ1_charAt_3b067_6 rfl rfl rfl ?_
  refine v_iload_n (n := 8) C dJ1_charAt_3b067_7 rfl rfl rfl ?_
  refine v_sld (n := 9) C dJ1_charAt_3b067_8 rfl (vp_b (Int32.not_lt.mp h0) h1 (by decide)) ?_
  refine v_sipush (n := 12) (v := 255) C dJ1_charAt_3b067_9 rfl (by decide) ?_
  refine v_iand (n := 13) C dJ1_charAt_3b067_12 rfl ?_
  refine v_i2c (n := 14) C dJ1_charAt_3b067_13 rfl ?_
  refine v_stk (st' := .int (sbF (Int32.toNatClampNeg x)) :: []) (congrArg (fun z : Int32 => Value.int z :: []) (sb_c _ (sb_x h0 h1)).1) ?_
  exact v_iret C dJ1_charAt_3b067_14 rfl (sb_c _ (sb_x h0 h1)).2 ⟨rfl, rfl⟩
set_option maxHeartbeats 4000000 in
set_option maxRecDepth 100000 in
theorem c_ScharAt (l : Launch) (D : va_G) (b : Nat) (es : List va_E) (x : Int32) (h0 : ¬ x < 0) (h1 : x < 16) : Con l yJ0_charAt_5068e cJ0_charAt_5068e 2 (some .char) 3 64 D b 0 0 es [.ref (D.2 99 0), .int x] (fun r es' => r = some (.int (sbF (Int32.toNatClampNeg x))) ∧ es = es') := by
  refine con_of (by decide) (Nat.le_of_ble_eq_true rfl) (fun p e s m args below meth c C hsz => ?_)
  have C : vC p s m args meth c cJ0_charAt_5068e 2 RJ0 "charAt" (some .char) D b := C
  change V p l e _ s m args below meth c D b 2 _ 0 0 es [(0, .ref (D.2 99 0)), (1, .int x)] [] 0
  refine v_aload_n (n := 1) C dJ0_charAt_5068e_0 rfl rfl rfl ?_
  refine v_go (n := 4) C (vRun_VS (As := []) (rest := []) C lk_J0_492 im_J0_isLatin1_aae02 se_J0_isLatin1_aae02 dJ0_charAt_5068e_1 (c_Slatin l D b es) wm_J0_isLatin1_aae02 rfl rfl ⟨Nat.le_of_ble_eq_true rfl, Nat.le_of_ble_eq_true rfl⟩ ⟨Nat.le_of_ble_eq_true rfl, Nat.le_of_ble_eq_true rfl⟩ (Nat.le_of_ble_eq_true rfl)) rfl ?_
  rintro _ _ ⟨rfl, rfl⟩ -
  refine v_if_eq (t := 16) (n := 7) C dJ0_charAt_5068e_4 (by decide) rfl (fun c_1 => ?_) (fun c_1 => ?_)
  · exact absurd c_1 (by decide)
  · skip
    refine v_aload_n (n := 8) C dJ0_charAt_5068e_7 rfl rfl rfl ?_
    refine v_svalue (n := 11) C rfl dJ0_charAt_5068e_8 rfl ?_
    refine v_iload_n (n := 12) C dJ0_charAt_5068e_11 rfl rfl rfl ?_
    refine v_go (n := 15) C (vRun_S (As := [.ref (D.2 98 0), .int x]) (rest := []) C lk_J0_495 st_J1_charAt_3b067 dJ0_charAt_5068e_12 (c_L1charAt l D b es x h0 h1) wm_J1_charAt_3b067 rfl rfl ⟨Nat.le_of_ble_eq_true rfl, Nat.le_of_ble_eq_true rfl⟩ ⟨Nat.le_of_ble_eq_true rfl, Nat.le_of_ble_eq_true rfl⟩ (Nat.le_of_ble_eq_true rfl)) rfl ?_
    rintro _ _ ⟨rfl, rfl⟩ -
    exact v_iret C dJ0_charAt_5068e_15 rfl (sb_c _ (sb_x h0 h1)).2 ⟨rfl, rfl⟩
def ftR (d c : Int32) : Int32 := if c < d then 0 else if 57 < c then 0 else 1
def ftF (x c : Int32) : Int32 := if x < 0 then 0 else if x < 16 then (if sbF x.toNatClampNeg = 48 then ftR (sbF x.toNatClampNeg) c else if sbF x.toNatClampNeg = 49 then ftR (sbF x.toNatClampNeg) c else if c = sbF x.toNatClampNeg then 1 else 0) else 0
set_option maxHeartbeats 4000000 in
set_option maxRecDepth 100000 in
theorem c_fits (l : Launch) (D : va_G) (b : Nat) (es : List va_E) (x c0 : Int32) : Con l yX11_fits cX11_fits 3 (some .boolean) 4 85 D b 0 0 es [.int x, .int c0] (fun r es' => r = some (.int (ftF x c0)) ∧ es = es') := by
  refine con_of (by decide) (Nat.le_of_ble_eq_true rfl) (fun p e s m args below meth c C hsz => ?_)
  have C : vC p s m args meth c cX11_fits 3 RX11 "fits" (some .boolean) D b := C
  change V p l e _ s m args below meth c D b 3 _ 0 0 es [(0, .int x), (1, .int c0)] [] 0
  refine v_iload_n (n := 1) C dX11_fits_0 rfl rfl rfl ?_
  refine v_if_lt (t := 13) (n := 4) C dX11_fits_1 (by decide) rfl (fun c_1 => ?_) (fun c_1 => ?_)
  · skip
    refine v_iconst (n := 14) (v := 0) C dX11_fits_13 rfl (by decide) ?_
    exact v_iret C dX11_fits_14 rfl rfl ⟨by first | rfl | (simp only [ftF, ftR, if_pos c_1, if_neg (Int32.not_le.mpr c_1)]; done) | simp [ftF, ftR, c_1] , rfl⟩
  · skip
    refine v_iload_n (n := 5) C dX11_fits_4 rfl rfl rfl ?_
    refine v_ldcS (n := 7) C rfl dX11_fits_5 rfl ?_
    refine v_go (n := 10) C (vRun_VS (As := []) (rest := [.int x]) C lk_X11_76 im_J0_length_8abf5 se_J0_length_8abf5 dX11_fits_7 (c_Slength l D b es) wm_J0_length_8abf5 rfl rfl ⟨Nat.le_of_ble_eq_true rfl, Nat.le_of_ble_eq_true rfl⟩ ⟨Nat.le_of_ble_eq_true rfl, Nat.le_of_ble_eq_true rfl⟩ (Nat.le_of_ble_eq_true rfl)) rfl ?_
    rintro _ _ ⟨rfl, rfl⟩ -
    refine v_icmp_lt (t := 15) (n := 13) C dX11_fits_10 (by decide) rfl (fun c_2 => ?_) (fun c_2 => ?_)
    · skip
      refine v_ldcS (n := 17) C rfl dX11_fits_15 rfl ?_
      refine v_iload_n (n := 18) C dX11_fits_17 rfl rfl rfl ?_
      refine v_go (n := 21) C (vRun_VS (As := [.int x]) (rest := []) C lk_X11_262 im_J0_charAt_5068e se_J0_charAt_5068e dX11_fits_18 (c_ScharAt l D b es x c_1 c_2) wm_J0_charAt_5068e rfl rfl ⟨Nat.le_of_ble_eq_true rfl, Nat.le_of_ble_eq_true rfl⟩ ⟨Nat.le_of_ble_eq_true rfl, Nat.le_of_ble_eq_true rfl⟩ (Nat.le_of_ble_eq_true rfl)) rfl ?_
      rintro _ _ ⟨rfl, rfl⟩ -
      refine v_istore_n (n := 22) (lv' := [(2, .int (sbF (Int32.toNatClampNeg x))), (0, .int x), (1, .int c0)]) C dX11_fits_21 rfl rfl (Nat.le_of_ble_eq_true rfl) rfl ?_
      refine v_iload_n (n := 23) C dX11_fits_22 rfl rfl rfl ?_
      refine v_bipush (n := 25) (v := 48) C dX11_fits_23 rfl (by decide) ?_
      refine v_icmp_eq (t := 34) (n := 28) C dX11_fits_25 (by decide) rfl (fun c_3 => ?_) (fun c_3 => ?_)
      · skip
        refine v_iload_n (n := 35) C dX11_fits_34 rfl rfl rfl ?_
        refine v_iload_n (n := 36) C dX11_fits_35 rfl rfl rfl ?_
        refine v_icmp_lt (t := 49) (n := 39) C dX11_fits_36 (by decide) rfl (fun c_4 => ?_) (fun c_4 => ?_)
        · skip
          refine v_iconst (n := 50) (v := 0) C dX11_fits_49 rfl (by decide) ?_
          exact v_iret C dX11_fits_50 rfl rfl ⟨by first | rfl | (simp only [ftF, ftR, if_neg c_1, if_pos (Int32.not_lt.mp c_1), if_pos c_2, if_neg (Int32.not_le.mpr c_2), if_pos c_3, if_pos c_4, if_neg (Int32.not_le.mpr c_4)]; done) | simp [ftF, ftR, c_1, c_2, c_3, c_4] , rfl⟩
        · skip
          refine v_iload_n (n := 40) C dX11_fits_39 rfl rfl rfl ?_
          refine v_bipush (n := 42) (v := 57) C dX11_fits_40 rfl (by decide) ?_
          refine v_icmp_gt (t := 49) (n := 45) C dX11_fits_42 (by decide) rfl (fun c_5 => ?_) (fun c_5 => ?_)
          · skip
            refine v_iconst (n := 50) (v := 0) C dX11_fits_49 rfl (by decide) ?_
            exact v_iret C dX11_fits_50 rfl rfl ⟨by first | rfl | (simp only [ftF, ftR, if_neg c_1, if_pos (Int32.not_lt.mp c_1), if_pos c_2, if_neg (Int32.not_le.mpr c_2), if_pos c_3, if_neg c_4, if_pos (Int32.not_lt.mp c_4), if_pos c_5, if_neg (Int32.not_le.mpr c_5)]; done) | simp [ftF, ftR, c_1, c_2, c_3, c_4, c_5] , rfl⟩
          · skip
            refine v_iconst (n := 46) (v := 1) C dX11_fits_45 rfl (by decide) ?_
            refine v_goto (t := 50) C dX11_fits_46 (by decide) ?_
            exact v_iret C dX11_fits_50 rfl rfl ⟨by first | rfl | (simp only [ftF, ftR, if_neg c_1, if_pos (Int32.not_lt.mp c_1), if_pos c_2, if_neg (Int32.not_le.mpr c_2), if_pos c_3, if_neg c_4, if_pos (Int32.not_lt.mp c_4), if_neg c_5, if_pos (Int32.not_lt.mp c_5)]; done) | simp [ftF, ftR, c_1, c_2, c_3, c_4, c_5] , rfl⟩
      · skip
        refine v_iload_n (n := 29) C dX11_fits_28 rfl rfl rfl ?_
        refine v_bipush (n := 31) (v := 49) C dX11_fits_29 rfl (by decide) ?_
        refine v_icmp_ne (t := 51) (n := 34) C dX11_fits_31 (by decide) rfl (fun c_6 => ?_) (fun c_6 => ?_)
        · skip
          refine v_iload_n (n := 52) C dX11_fits_51 rfl rfl rfl ?_
          refine v_iload_n (n := 53) C dX11_fits_52 rfl rfl rfl ?_
          refine v_icmp_ne (t := 60) (n := 56) C dX11_fits_53 (by decide) rfl (fun c_7 => ?_) (fun c_7 => ?_)
          · skip
            refine v_iconst (n := 61) (v := 0) C dX11_fits_60 rfl (by decide) ?_
            exact v_iret C dX11_fits_61 rfl rfl ⟨by first | rfl | (simp only [ftF, ftR, if_neg c_1, if_pos (Int32.not_lt.mp c_1), if_pos c_2, if_neg (Int32.not_le.mpr c_2), if_neg c_3, if_neg c_6, if_neg c_7, if_neg (fun h => c_7 (Eq.symm h))]; done) | simp [ftF, ftR, c_1, c_2, c_3, c_6, c_7] , rfl⟩
          · skip
            refine v_iconst (n := 57) (v := 1) C dX11_fits_56 rfl (by decide) ?_
            refine v_goto (t := 61) C dX11_fits_57 (by decide) ?_
            exact v_iret C dX11_fits_61 rfl rfl ⟨by first | rfl | (simp only [ftF, ftR, if_neg c_1, if_pos (Int32.not_lt.mp c_1), if_pos c_2, if_neg (Int32.not_le.mpr c_2), if_neg c_3, if_neg c_6, if_pos c_7, if_pos (Eq.symm c_7)]; done) | simp [ftF, ftR, c_1, c_2, c_3, c_6, c_7] , rfl⟩
        · skip
          refine v_iload_n (n := 35) C dX11_fits_34 rfl rfl rfl ?_
          refine v_iload_n (n := 36) C dX11_fits_35 rfl rfl rfl ?_
          refine v_icmp_lt (t := 49) (n := 39) C dX11_fits_36 (by decide) rfl (fun c_8 => ?_) (fun c_8 => ?_)
          · skip
            refine v_iconst (n := 50) (v := 0) C dX11_fits_49 rfl (by decide) ?_
            exact v_iret C dX11_fits_50 rfl rfl ⟨by first | rfl | (simp only [ftF, ftR, if_neg c_1, if_pos (Int32.not_lt.mp c_1), if_pos c_2, if_neg (Int32.not_le.mpr c_2), if_neg c_3, if_pos c_6, if_pos c_8, if_neg (Int32.not_le.mpr c_8)]; done) | simp [ftF, ftR, c_1, c_2, c_3, c_6, c_8] , rfl⟩
          · skip
            refine v_iload_n (n := 40) C dX11_fits_39 rfl rfl rfl ?_
            refine v_bipush (n := 42) (v := 57) C dX11_fits_40 rfl (by decide) ?_
            refine v_icmp_gt (t := 49) (n := 45) C dX11_fits_42 (by decide) rfl (fun c_9 => ?_) (fun c_9 => ?_)
            · skip
              refine v_iconst (n := 50) (v := 0) C dX11_fits_49 rfl (by decide) ?_
              exact v_iret C dX11_fits_50 rfl rfl ⟨by first | rfl | (simp only [ftF, ftR, if_neg c_1, if_pos (Int32.not_lt.mp c_1), if_pos c_2, if_neg (Int32.not_le.mpr c_2), if_neg c_3, if_pos c_6, if_neg c_8, if_pos (Int32.not_lt.mp c_8), if_pos c_9, if_neg (Int32.not_le.mpr c_9)]; done) | simp [ftF, ftR, c_1, c_2, c_3, c_6, c_8, c_9] , rfl⟩
            · skip
              refine v_iconst (n := 46) (v := 1) C dX11_fits_45 rfl (by decide) ?_
              refine v_goto (t := 50) C dX11_fits_46 (by decide) ?_
              exact v_iret C dX11_fits_50 rfl rfl ⟨by first | rfl | (simp only [ftF, ftR, if_neg c_1, if_pos (Int32.not_lt.mp c_1), if_pos c_2, if_neg (Int32.not_le.mpr c_2), if_neg c_3, if_pos c_6, if_neg c_8, if_pos (Int32.not_lt.mp c_8), if_neg c_9, if_pos (Int32.not_lt.mp c_9)]; done) | simp [ftF, ftR, c_1, c_2, c_3, c_6, c_8, c_9] , rfl⟩
    · skip
      refine v_iconst (n := 14) (v := 0) C dX11_fits_13 rfl (by decide) ?_
      exact v_iret C dX11_fits_14 rfl rfl ⟨by first | rfl | (simp only [ftF, ftR, if_neg c_1, if_pos (Int32.not_lt.mp c_1), if_neg c_2, if_pos (Int32.not_lt.mp c_2)]; done) | simp [ftF, ftR, c_1, c_2] , rfl⟩
