theorem asg1 {s : State} {args : Array Value} {Cn : String} {T : u_T} {N : Nat} (hts : ∀ w ∈ lw_g, w.before args s = true) (hin : ∀ w ∈ u_ws Cn T N, w ∈ lw_g) (hN : 0 < N) (hT : T 0 = ("WheatSea$Hull", "draught", "I", true)) (comp c0 : ClassId) (h1 : s.vm.findClass "WheatSea$Hull" = some comp) (h2 : s.vm.findClass Cn = some c0) : s.vm.assignable c0 comp = true := by
  have h := hts _ (hin _ (u_in_lay hN))
  unfold u_lay at h
  rw [hT] at h
  have h : (Cond.laysFinal Cn "WheatSea$Hull" "draught" "I").before args s = true := h
  obtain ⟨c, k, cf', kf', fi', fd', r1, r2, hi', hst, -, hcast, hown2, hty, -⟩ := Cond.laysFinal_spec h
  cases h2.symm.trans r1
  cases h1.symm.trans hown2
  exact hcast
theorem h_any {p : Program} {s : State} {m : MethodId} {args : Array Value} {meth : Method} {c : Code} {cc : ByteArray} {nL : Nat} {own nm : String} {ret : Option FieldType} {D : va_G} {b : Nat} {es : List va_E} (C : vC p s m args meth c cc nL own nm ret D b) {j k : Nat} {dr ce sa : Int32} (hk : k < 5) (he : es[j]? = some (hcl k dr ce sa)) (H : Heap) (hP : va_P D vwCl (hw b es) H) : va_Any "WheatSea$Hull" s H (b + j) := by
  match k, hk, he with
  | 0, _, he => exact va_rAny C.2.2.2.2.2.1 hP (hw_get he) rfl (asg1 C.2.2.2.2.1 inTX4 (by decide) rfl)
  | 1, _, he => exact va_rAny C.2.2.2.2.2.1 hP (hw_get he) rfl (asg1 C.2.2.2.2.1 inTX10 (by decide) rfl)
  | 2, _, he => exact va_rAny C.2.2.2.2.2.1 hP (hw_get he) rfl (asg1 C.2.2.2.2.1 inTX2 (by decide) rfl)
  | 3, _, he => exact va_rAny C.2.2.2.2.2.1 hP (hw_get he) rfl (asg1 C.2.2.2.2.1 inTX9 (by decide) rfl)
  | 4, _, he => exact va_rAny C.2.2.2.2.2.1 hP (hw_get he) rfl (asg1 C.2.2.2.2.1 inTX1 (by decide) rfl)
theorem buK5 (w : Int32) : buK w < 5 := by
  unfold buK
  split
  · decide
  · split
    · decide
    · split
      · decide
      · split <;> decide
theorem HVr_new {hn : Nat → Option Nat} {G : List va_E} {hv : HV} {i k : Nat} {dr ce sa : Int32} (h : HVr hn G hv) (hk : k < 5) : HVr (va_up hn i (some (G.length + 40))) (G ++ [hcl k dr ce sa]) (va_up hv i (some (k, dr, ce, sa))) := by
  have hlt : ∀ j t, hn j = some t → t < G.length + 40 := by
    intro j t hj
    cases hv' : hv j with
    | none => rw [h.1 j hv'] at hj; cases hj
    | some q =>
      obtain ⟨k', dr', ce', sa'⟩ := q
      obtain ⟨u, a1, -, a3⟩ := h.2.1 _ _ _ _ _ hv'
      rw [a1] at hj
      cases hj
      have := (List.getElem?_eq_some_iff.mp a3).1
      omega
  refine ⟨fun j hj => ?_, fun j k' dr' ce' sa' hj => ?_, fun a c t h1 h2 => ?_⟩
  · rw [va_up] at hj ⊢
    by_cases hji : j = i
    · rw [if_pos hji] at hj; cases hj
    · rw [if_neg hji] at hj ⊢; exact h.1 j hj
  · rw [va_up] at hj
    by_cases hji : j = i
    · rw [if_pos hji] at hj
      cases hj
      exact ⟨G.length, by rw [va_up, if_pos hji], hk, gpush⟩
    · rw [if_neg hji] at hj
      obtain ⟨u, a1, a2, a3⟩ := h.2.1 _ _ _ _ _ hj
      refine ⟨u, by rw [va_up, if_neg hji]; exact a1, a2, ?_⟩
      rw [List.getElem?_append_left (List.getElem?_eq_some_iff.mp a3).1]
      exact a3
  · rw [va_up] at h1 h2
    by_cases hai : a = i
    · by_cases hci : c = i
      · rw [hai, hci]
      · rw [if_pos hai] at h1
        rw [if_neg hci] at h2
        cases h1
        exact absurd (hlt _ _ h2) (by omega)
    · by_cases hci : c = i
      · rw [if_neg hai] at h1
        rw [if_pos hci] at h2
        cases h2
        exact absurd (hlt _ _ h1) (by omega)
      · rw [if_neg hai] at h1; rw [if_neg hci] at h2; exact h.2.2 _ _ _ h1 h2
/-- a hull comes -/
def huOK (sc : Nat → Int32) (w x c : Int32) : Prop := ¬ w < 0 ∧ ¬ 5 ≤ w ∧ ¬ x < 1 ∧ ¬ 9 < x ∧ ¬ sc 16 ≤ 0 ∧ ¬ c < 0 ∧ ¬ 12 ≤ c ∧ ¬ sc 2 < 0 ∧ sc 2 < 3
def huF (sc : Nat → Int32) (w x c : Int32) : Int32 := if w < 0 then -102 else if 5 ≤ w then -102 else if x < 1 then -102 else if 9 < x then -102 else if sc 16 ≤ 0 then -101 else if c < 0 then -101 else if 12 ≤ c then -101 else -104
set_option maxHeartbeats 4000000 in
set_option maxRecDepth 100000 in
theorem c_hull_no (l : Launch) (D : va_G) (b : Nat) (sc : Nat → Int32) (ar : Nat → Nat → Int32) (hn : Nat → Option Nat) (mh : Int64) (G : List va_E) (w x c0 : Int32) (hno : ¬ huOK sc w x c0) : Con l yX11_hull cX11_hull 4 (some .int) 2 41 D b 0 0 (wl D b sc ar hn mh G) [.ref (b + 0), .int w, .int x, .int c0] (fun r es' => r = some (.int (huF sc w x c0)) ∧ (wl D b sc ar hn mh G) = es') := by
  refine con_of (by decide) (Nat.le_of_ble_eq_true rfl) (fun p e s m args below meth c C hsz => ?_)
  have C : vC p s m args meth c cX11_hull 4 RX11 "hull" (some .int) D b := C
  change V p l e _ s m args below meth c D b 4 _ 0 0 (wl D b sc ar hn mh G) [(0, .ref (b + 0)), (1, .int w), (2, .int x), (3, .int c0)] [] 0
  refine v_iload_n (n := 1) C dX11_hull_0 rfl rfl rfl ?_
  refine v_if_lt (t := 20) (n := 4) C dX11_hull_1 (by decide) rfl (fun c_1 => ?_) (fun c_1 => ?_)
  · skip
    refine v_bipush (n := 22) (v := -102) C dX11_hull_20 rfl (by decide) ?_
    exact v_iret C dX11_hull_22 rfl rfl ⟨by first | rfl | (simp only [huF, if_pos c_1, if_neg (Int32.not_le.mpr c_1)]; done) | (simp only [huF, eq_true c_1, eq_false (Int32.not_le.mpr c_1), ↓reduceIte]; done) | (simp only [huF, eq_true c_1, eq_false (Int32.not_le.mpr c_1), ↓reduceIte] <;> rfl) | (simp [huF, c_1]; done), rfl⟩
  · skip
    refine v_iload_n (n := 5) C dX11_hull_4 rfl rfl rfl ?_
    refine v_iconst (n := 6) (v := 5) C dX11_hull_5 rfl (by decide) ?_
    refine v_icmp_ge (t := 20) (n := 9) C dX11_hull_6 (by decide) rfl (fun c_2 => ?_) (fun c_2 => ?_)
    · skip
      refine v_bipush (n := 22) (v := -102) C dX11_hull_20 rfl (by decide) ?_
      exact v_iret C dX11_hull_22 rfl rfl ⟨by first | rfl | (simp only [huF, if_neg c_1, if_pos (Int32.not_lt.mp c_1), if_pos c_2, if_neg (Int32.not_lt.mpr c_2)]; done) | (simp only [huF, eq_false c_1, eq_true (Int32.not_lt.mp c_1), eq_true c_2, eq_false (Int32.not_lt.mpr c_2), ↓reduceIte]; done) | (simp only [huF, eq_false c_1, eq_true (Int32.not_lt.mp c_1), eq_true c_2, eq_false (Int32.not_lt.mpr c_2), ↓reduceIte] <;> rfl) | (simp [huF, c_1, c_2]; done), rfl⟩
    · skip
      refine v_iload_n (n := 10) C dX11_hull_9 rfl rfl rfl ?_
      refine v_iconst (n := 11) (v := 1) C dX11_hull_10 rfl (by decide) ?_
      refine v_icmp_lt (t := 20) (n := 14) C dX11_hull_11 (by decide) rfl (fun c_3 => ?_) (fun c_3 => ?_)
      · skip
        refine v_bipush (n := 22) (v := -102) C dX11_hull_20 rfl (by decide) ?_
        exact v_iret C dX11_hull_22 rfl rfl ⟨by first | rfl | (simp only [huF, if_neg c_1, if_pos (Int32.not_lt.mp c_1), if_neg c_2, if_pos (Int32.not_le.mp c_2), if_pos c_3, if_neg (Int32.not_le.mpr c_3)]; done) | (simp only [huF, eq_false c_1, eq_true (Int32.not_lt.mp c_1), eq_false c_2, eq_true (Int32.not_le.mp c_2), eq_true c_3, eq_false (Int32.not_le.mpr c_3), ↓reduceIte]; done) | (simp only [huF, eq_false c_1, eq_true (Int32.not_lt.mp c_1), eq_false c_2, eq_true (Int32.not_le.mp c_2), eq_true c_3, eq_false (Int32.not_le.mpr c_3), ↓reduceIte] <;> rfl) | (simp [huF, c_1, c_2, c_3]; done), rfl⟩
      · skip
        refine v_iload_n (n := 15) C dX11_hull_14 rfl rfl rfl ?_
        refine v_bipush (n := 17) (v := 9) C dX11_hull_15 rfl (by decide) ?_
        refine v_icmp_le (t := 23) (n := 20) C dX11_hull_17 (by decide) rfl (fun c_4 => ?_) (fun c_4 => ?_)
        · skip
          refine v_aload_n (n := 24) C dX11_hull_23 rfl rfl rfl ?_
          refine v_iload_n (n := 25) C dX11_hull_24 rfl rfl rfl ?_
          refine v_go (n := 28) C (vRun_V (As := [.int c0]) (rest := []) C wl_c0 rfl lk_X11_102 im_X11_isThere se_X11_isThere dX11_hull_25 (c_isThere l D b sc ar hn mh G c0) wm_X11_isThere rfl rfl ⟨Nat.le_of_ble_eq_true rfl, Nat.le_of_ble_eq_true rfl⟩ ⟨Nat.le_of_ble_eq_true rfl, Nat.le_of_ble_eq_true rfl⟩ (Nat.le_of_ble_eq_true rfl)) rfl ?_
          rintro _ _ ⟨rfl, rfl⟩ -
          by_cases p_5 : (sc 16) ≤ 0
          · skip
            refine v_stk (st' := .int 0 :: []) (congrArg (fun z : Int32 => Value.int z :: []) (show thF (sc 16) c0 = 0 by simp only [thF, icF, if_pos p_5])) ?_
            refine v_if_ne (t := 34) (n := 31) C dX11_hull_28 (by decide) rfl (fun c_6 => ?_) (fun c_6 => ?_)
            · exact absurd c_6 (by decide)
            · skip
              refine v_bipush (n := 33) (v := -101) C dX11_hull_31 rfl (by decide) ?_
              exact v_iret C dX11_hull_33 rfl rfl ⟨by first | rfl | (simp only [huF, if_neg c_1, if_pos (Int32.not_lt.mp c_1), if_neg c_2, if_pos (Int32.not_le.mp c_2), if_neg c_3, if_pos (Int32.not_lt.mp c_3), if_pos c_4, if_neg (Int32.not_lt.mpr c_4), if_pos p_5, if_neg (Int32.not_lt.mpr p_5), if_pos c_6]; done) | (simp only [huF, eq_false c_1, eq_true (Int32.not_lt.mp c_1), eq_false c_2, eq_true (Int32.not_le.mp c_2), eq_false c_3, eq_true (Int32.not_lt.mp c_3), eq_true c_4, eq_false (Int32.not_lt.mpr c_4), eq_true p_5, eq_false (Int32.not_lt.mpr p_5), eq_true c_6, ↓reduceIte]; done) | (simp only [huF, eq_false c_1, eq_true (Int32.not_lt.mp c_1), eq_false c_2, eq_true (Int32.not_le.mp c_2), eq_false c_3, eq_true (Int32.not_lt.mp c_3), eq_true c_4, eq_false (Int32.not_lt.mpr c_4), eq_true p_5, eq_false (Int32.not_lt.mpr p_5), eq_true c_6, ↓reduceIte] <;> rfl) | (simp [huF, c_1, c_2, c_3, c_4, p_5, c_6]; done), rfl⟩
          by_cases p_7 : c0 < 0
          · skip
            refine v_stk (st' := .int 0 :: []) (congrArg (fun z : Int32 => Value.int z :: []) (show thF (sc 16) c0 = 0 by simp only [thF, icF, if_neg p_5, if_pos p_7])) ?_
            refine v_if_ne (t := 34) (n := 31) C dX11_hull_28 (by decide) rfl (fun c_8 => ?_) (fun c_8 => ?_)
            · exact absurd c_8 (by decide)
            · skip
              refine v_bipush (n := 33) (v := -101) C dX11_hull_31 rfl (by decide) ?_
              exact v_iret C dX11_hull_33 rfl rfl ⟨by first | rfl | (simp only [huF, if_neg c_1, if_pos (Int32.not_lt.mp c_1), if_neg c_2, if_pos (Int32.not_le.mp c_2), if_neg c_3, if_pos (Int32.not_lt.mp c_3), if_pos c_4, if_neg (Int32.not_lt.mpr c_4), if_neg p_5, if_pos (Int32.not_le.mp p_5), if_pos p_7, if_neg (Int32.not_le.mpr p_7), if_pos c_8]; done) | (simp only [huF, eq_false c_1, eq_true (Int32.not_lt.mp c_1), eq_false c_2, eq_true (Int32.not_le.mp c_2), eq_false c_3, eq_true (Int32.not_lt.mp c_3), eq_true c_4, eq_false (Int32.not_lt.mpr c_4), eq_false p_5, eq_true (Int32.not_le.mp p_5), eq_true p_7, eq_false (Int32.not_le.mpr p_7), eq_true c_8, ↓reduceIte]; done) | (simp only [huF, eq_false c_1, eq_true (Int32.not_lt.mp c_1), eq_false c_2, eq_true (Int32.not_le.mp c_2), eq_false c_3, eq_true (Int32.not_lt.mp c_3), eq_true c_4, eq_false (Int32.not_lt.mpr c_4), eq_false p_5, eq_true (Int32.not_le.mp p_5), eq_true p_7, eq_false (Int32.not_le.mpr p_7), eq_true c_8, ↓reduceIte] <;> rfl) | (simp [huF, c_1, c_2, c_3, c_4, p_5, p_7, c_8]; done), rfl⟩
          by_cases p_9 : 12 ≤ c0
          · skip
            refine v_stk (st' := .int 0 :: []) (congrArg (fun z : Int32 => Value.int z :: []) (show thF (sc 16) c0 = 0 by simp only [thF, icF, if_neg p_5, if_neg p_7, if_pos p_9])) ?_
            refine v_if_ne (t := 34) (n := 31) C dX11_hull_28 (by decide) rfl (fun c_10 => ?_) (fun c_10 => ?_)
            · exact absurd c_10 (by decide)
            · skip
              refine v_bipush (n := 33) (v := -101) C dX11_hull_31 rfl (by decide) ?_
              exact v_iret C dX11_hull_33 rfl rfl ⟨by first | rfl | (simp only [huF, if_neg c_1, if_pos (Int32.not_lt.mp c_1), if_neg c_2, if_pos (Int32.not_le.mp c_2), if_neg c_3, if_pos (Int32.not_lt.mp c_3), if_pos c_4, if_neg (Int32.not_lt.mpr c_4), if_neg p_5, if_pos (Int32.not_le.mp p_5), if_neg p_7, if_pos (Int32.not_lt.mp p_7), if_pos p_9, if_neg (Int32.not_lt.mpr p_9), if_pos c_10]; done) | (simp only [huF, eq_false c_1, eq_true (Int32.not_lt.mp c_1), eq_false c_2, eq_true (Int32.not_le.mp c_2), eq_false c_3, eq_true (Int32.not_lt.mp c_3), eq_true c_4, eq_false (Int32.not_lt.mpr c_4), eq_false p_5, eq_true (Int32.not_le.mp p_5), eq_false p_7, eq_true (Int32.not_lt.mp p_7), eq_true p_9, eq_false (Int32.not_lt.mpr p_9), eq_true c_10, ↓reduceIte]; done) | (simp only [huF, eq_false c_1, eq_true (Int32.not_lt.mp c_1), eq_false c_2, eq_true (Int32.not_le.mp c_2), eq_false c_3, eq_true (Int32.not_lt.mp c_3), eq_true c_4, eq_false (Int32.not_lt.mpr c_4), eq_false p_5, eq_true (Int32.not_le.mp p_5), eq_false p_7, eq_true (Int32.not_lt.mp p_7), eq_true p_9, eq_false (Int32.not_lt.mpr p_9), eq_true c_10, ↓reduceIte] <;> rfl) | (simp [huF, c_1, c_2, c_3, c_4, p_5, p_7, p_9, c_10]; done), rfl⟩
          refine v_stk (st' := .int 1 :: []) (congrArg (fun z : Int32 => Value.int z :: []) (show thF (sc 16) c0 = 1 by simp only [thF, icF, if_neg p_5, if_neg p_7, if_neg p_9])) ?_
          refine v_if_ne (t := 34) (n := 31) C dX11_hull_28 (by decide) rfl (fun c_11 => ?_) (fun c_11 => ?_)
          · skip
            refine v_aload_n (n := 35) C dX11_hull_34 rfl rfl rfl ?_
            refine v_get (n := 38) C dX11_hull_35 rfl fl_X11_126_X11 wl_c0 rfl ?_
            refine v_if_lt (t := 53) (n := 41) C dX11_hull_38 (by decide) rfl (fun c_12 => ?_) (fun c_12 => ?_)
            · skip
              refine v_bipush (n := 55) (v := -104) C dX11_hull_53 rfl (by decide) ?_
              exact v_iret C dX11_hull_55 rfl rfl ⟨by first | rfl | (simp only [huF, if_neg c_1, if_pos (Int32.not_lt.mp c_1), if_neg c_2, if_pos (Int32.not_le.mp c_2), if_neg c_3, if_pos (Int32.not_lt.mp c_3), if_pos c_4, if_neg (Int32.not_lt.mpr c_4), if_neg p_5, if_pos (Int32.not_le.mp p_5), if_neg p_7, if_pos (Int32.not_lt.mp p_7), if_neg p_9, if_pos (Int32.not_le.mp p_9), if_neg c_11, if_pos c_12, if_neg (Int32.not_le.mpr c_12)]; done) | (simp only [huF, eq_false c_1, eq_true (Int32.not_lt.mp c_1), eq_false c_2, eq_true (Int32.not_le.mp c_2), eq_false c_3, eq_true (Int32.not_lt.mp c_3), eq_true c_4, eq_false (Int32.not_lt.mpr c_4), eq_false p_5, eq_true (Int32.not_le.mp p_5), eq_false p_7, eq_true (Int32.not_lt.mp p_7), eq_false p_9, eq_true (Int32.not_le.mp p_9), eq_false c_11, eq_true c_12, eq_false (Int32.not_le.mpr c_12), ↓reduceIte]; done) | (simp only [huF, eq_false c_1, eq_true (Int32.not_lt.mp c_1), eq_false c_2, eq_true (Int32.not_le.mp c_2), eq_false c_3, eq_true (Int32.not_lt.mp c_3), eq_true c_4, eq_false (Int32.not_lt.mpr c_4), eq_false p_5, eq_true (Int32.not_le.mp p_5), eq_false p_7, eq_true (Int32.not_lt.mp p_7), eq_false p_9, eq_true (Int32.not_le.mp p_9), eq_false c_11, eq_true c_12, eq_false (Int32.not_le.mpr c_12), ↓reduceIte] <;> rfl) | (simp [huF, c_1, c_2, c_3, c_4, p_5, p_7, p_9, c_11, c_12]; done), rfl⟩
            · skip
              refine v_aload_n (n := 42) C dX11_hull_41 rfl rfl rfl ?_
              refine v_get (n := 45) C dX11_hull_42 rfl fl_X11_126_X11 wl_c0 rfl ?_
              refine v_aload_n (n := 46) C dX11_hull_45 rfl rfl rfl ?_
              refine v_get (n := 49) C dX11_hull_46 rfl fl_X11_15_X11 wl_c0 rfl ?_
              refine v_alenQ (n := 50) (v := 3) C dX11_hull_49 rfl wl_c2 rfl ?_
              refine v_icmp_lt (t := 56) (n := 53) C dX11_hull_50 (by decide) rfl (fun c_13 => ?_) (fun c_13 => ?_)
              · skip
                exact absurd ⟨c_1, c_2, c_3, (Int32.not_lt.mpr c_4), p_5, p_7, p_9, c_12, c_13⟩ hno
              · skip
                refine v_bipush (n := 55) (v := -104) C dX11_hull_53 rfl (by decide) ?_
                exact v_iret C dX11_hull_55 rfl rfl ⟨by first | rfl | (simp only [huF, if_neg c_1, if_pos (Int32.not_lt.mp c_1), if_neg c_2, if_pos (Int32.not_le.mp c_2), if_neg c_3, if_pos (Int32.not_lt.mp c_3), if_pos c_4, if_neg (Int32.not_lt.mpr c_4), if_neg p_5, if_pos (Int32.not_le.mp p_5), if_neg p_7, if_pos (Int32.not_lt.mp p_7), if_neg p_9, if_pos (Int32.not_le.mp p_9), if_neg c_11, if_neg c_12, if_pos (Int32.not_lt.mp c_12), if_neg c_13, if_pos (Int32.not_lt.mp c_13)]; done) | (simp only [huF, eq_false c_1, eq_true (Int32.not_lt.mp c_1), eq_false c_2, eq_true (Int32.not_le.mp c_2), eq_false c_3, eq_true (Int32.not_lt.mp c_3), eq_true c_4, eq_false (Int32.not_lt.mpr c_4), eq_false p_5, eq_true (Int32.not_le.mp p_5), eq_false p_7, eq_true (Int32.not_lt.mp p_7), eq_false p_9, eq_true (Int32.not_le.mp p_9), eq_false c_11, eq_false c_12, eq_true (Int32.not_lt.mp c_12), eq_false c_13, eq_true (Int32.not_lt.mp c_13), ↓reduceIte]; done) | (simp only [huF, eq_false c_1, eq_true (Int32.not_lt.mp c_1), eq_false c_2, eq_true (Int32.not_le.mp c_2), eq_false c_3, eq_true (Int32.not_lt.mp c_3), eq_true c_4, eq_false (Int32.not_lt.mpr c_4), eq_false p_5, eq_true (Int32.not_le.mp p_5), eq_false p_7, eq_true (Int32.not_lt.mp p_7), eq_false p_9, eq_true (Int32.not_le.mp p_9), eq_false c_11, eq_false c_12, eq_true (Int32.not_lt.mp c_12), eq_false c_13, eq_true (Int32.not_lt.mp c_13), ↓reduceIte] <;> rfl) | (simp [huF, c_1, c_2, c_3, c_4, p_5, p_7, p_9, c_11, c_12, c_13]; done), rfl⟩
          · exact absurd c_11 (by decide)
        · skip
          refine v_bipush (n := 22) (v := -102) C dX11_hull_20 rfl (by decide) ?_
          exact v_iret C dX11_hull_22 rfl rfl ⟨by first | rfl | (simp only [huF, if_neg c_1, if_pos (Int32.not_lt.mp c_1), if_neg c_2, if_pos (Int32.not_le.mp c_2), if_neg c_3, if_pos (Int32.not_lt.mp c_3), if_neg c_4, if_pos (Int32.not_le.mp c_4)]; done) | (simp only [huF, eq_false c_1, eq_true (Int32.not_lt.mp c_1), eq_false c_2, eq_true (Int32.not_le.mp c_2), eq_false c_3, eq_true (Int32.not_lt.mp c_3), eq_false c_4, eq_true (Int32.not_le.mp c_4), ↓reduceIte]; done) | (simp only [huF, eq_false c_1, eq_true (Int32.not_lt.mp c_1), eq_false c_2, eq_true (Int32.not_le.mp c_2), eq_false c_3, eq_true (Int32.not_lt.mp c_3), eq_false c_4, eq_true (Int32.not_le.mp c_4), ↓reduceIte] <;> rfl) | (simp [huF, c_1, c_2, c_3, c_4]; done), rfl⟩
set_option maxHeartbeats 4000000 in
set_option maxRecDepth 100000 in
theorem c_hull_ok (l : Launch) (D : va_G) (b : Nat) (sc : Nat → Int32) (ar : Nat → Nat → Int32) (hn : Nat → Option Nat) (mh : Int64) (G : List va_E) (w x c0 : Int32) (hv : HV) (hr : HVr hn G hv) (ok : huOK sc w x c0) : Con l yX11_hull cX11_hull 4 (some .int) 5 108 D b 1 3 (wl D b sc ar hn mh G) [.ref (b + 0), .int w, .int x, .int c0] (fun r es' => r = some (.int (sc 2 + 1 - 1)) ∧ ∃ hn' G', HVr hn' G' (va_up hv (sc 2).toNatClampNeg (some (buK w, x, c0, 0))) ∧ G'.length = G.length + 1 ∧ wl D b (va_up sc 2 (sc 2 + 1)) ar hn' mh G' = es') := by
  refine con_of (by decide) (Nat.le_of_ble_eq_true rfl) (fun p e s m args below meth c C hsz => ?_)
  have C : vC p s m args meth c cX11_hull 4 RX11 "hull" (some .int) D b := C
  change V p l e _ s m args below meth c D b 4 _ 0 0 (wl D b sc ar hn mh G) [(0, .ref (b + 0)), (1, .int w), (2, .int x), (3, .int c0)] [] 0
  refine v_iload_n (n := 1) C dX11_hull_0 rfl rfl rfl ?_
  refine v_if_lt (t := 20) (n := 4) C dX11_hull_1 (by decide) rfl (fun c_1 => ?_) (fun c_1 => ?_)
  · first | exact absurd c_1 ok.1 | exact absurd ok.1 c_1 | exact absurd c_1 (Int32.not_le.mpr ok.1) | exact absurd c_1 (Int32.not_lt.mpr ok.1) | exact absurd (Int32.not_le.mp ok.1) c_1 | exact absurd (Int32.not_lt.mp ok.1) c_1 | exact absurd (Int32.not_le.mp ok.1) (Int32.not_lt.mpr c_1) | exact absurd (Int32.not_lt.mp ok.1) (Int32.not_le.mpr c_1) | exact absurd (Int32.not_lt.mp c_1) (Int32.not_le.mpr (Int32.not_le.mp ok.1))
  · skip
    refine v_iload_n (n := 5) C dX11_hull_4 rfl rfl rfl ?_
    refine v_iconst (n := 6) (v := 5) C dX11_hull_5 rfl (by decide) ?_
    refine v_icmp_ge (t := 20) (n := 9) C dX11_hull_6 (by decide) rfl (fun c_2 => ?_) (fun c_2 => ?_)
    · first | exact absurd c_2 ok.2.1 | exact absurd ok.2.1 c_2 | exact absurd c_2 (Int32.not_le.mpr ok.2.1) | exact absurd c_2 (Int32.not_lt.mpr ok.2.1) | exact absurd (Int32.not_le.mp ok.2.1) c_2 | exact absurd (Int32.not_lt.mp ok.2.1) c_2 | exact absurd (Int32.not_le.mp ok.2.1) (Int32.not_lt.mpr c_2) | exact absurd (Int32.not_lt.mp ok.2.1) (Int32.not_le.mpr c_2) | exact absurd (Int32.not_lt.mp c_2) (Int32.not_le.mpr (Int32.not_le.mp ok.2.1))
    · skip
      refine v_iload_n (n := 10) C dX11_hull_9 rfl rfl rfl ?_
      refine v_iconst (n := 11) (v := 1) C dX11_hull_10 rfl (by decide) ?_
      refine v_icmp_lt (t := 20) (n := 14) C dX11_hull_11 (by decide) rfl (fun c_3 => ?_) (fun c_3 => ?_)
      · first | exact absurd c_3 ok.2.2.1 | exact absurd ok.2.2.1 c_3 | exact absurd c_3 (Int32.not_le.mpr ok.2.2.1) | exact absurd c_3 (Int32.not_lt.mpr ok.2.2.1) | exact absurd (Int32.not_le.mp ok.2.2.1) c_3 | exact absurd (Int32.not_lt.mp ok.2.2.1) c_3 | exact absurd (Int32.not_le.mp ok.2.2.1) (Int32.not_lt.mpr c_3) | exact absurd (Int32.not_lt.mp ok.2.2.1) (Int32.not_le.mpr c_3) | exact absurd (Int32.not_lt.mp c_3) (Int32.not_le.mpr (Int32.not_le.mp ok.2.2.1))
      · skip
        refine v_iload_n (n := 15) C dX11_hull_14 rfl rfl rfl ?_
        refine v_bipush (n := 17) (v := 9) C dX11_hull_15 rfl (by decide) ?_
        refine v_icmp_le (t := 23) (n := 20) C dX11_hull_17 (by decide) rfl (fun c_4 => ?_) (fun c_4 => ?_)
        · skip
          refine v_aload_n (n := 24) C dX11_hull_23 rfl rfl rfl ?_
          refine v_iload_n (n := 25) C dX11_hull_24 rfl rfl rfl ?_
          refine v_go (n := 28) C (vRun_V (As := [.int c0]) (rest := []) C wl_c0 rfl lk_X11_102 im_X11_isThere se_X11_isThere dX11_hull_25 (c_isThere l D b sc ar hn mh G c0) wm_X11_isThere rfl rfl ⟨Nat.le_of_ble_eq_true rfl, Nat.le_of_ble_eq_true rfl⟩ ⟨Nat.le_of_ble_eq_true rfl, Nat.le_of_ble_eq_true rfl⟩ (Nat.le_of_ble_eq_true rfl)) rfl ?_
          rintro _ _ ⟨rfl, rfl⟩ -
          refine v_stk (st' := .int 1 :: []) (congrArg (fun z : Int32 => Value.int z :: []) (show thF (sc 16) c0 = 1 by simp only [thF, icF, if_neg ok.2.2.2.2.1, if_neg ok.2.2.2.2.2.1, if_neg ok.2.2.2.2.2.2.1])) ?_
          refine v_if_ne (t := 34) (n := 31) C dX11_hull_28 (by decide) rfl (fun c_8 => ?_) (fun c_8 => ?_)
          · skip
            refine v_aload_n (n := 35) C dX11_hull_34 rfl rfl rfl ?_
            refine v_get (n := 38) C dX11_hull_35 rfl fl_X11_126_X11 wl_c0 rfl ?_
            refine v_if_lt (t := 53) (n := 41) C dX11_hull_38 (by decide) rfl (fun c_9 => ?_) (fun c_9 => ?_)
            · first | exact absurd c_9 ok.2.2.2.2.2.2.2.1 | exact absurd ok.2.2.2.2.2.2.2.1 c_9 | exact absurd c_9 (Int32.not_le.mpr ok.2.2.2.2.2.2.2.1) | exact absurd c_9 (Int32.not_lt.mpr ok.2.2.2.2.2.2.2.1) | exact absurd (Int32.not_le.mp ok.2.2.2.2.2.2.2.1) c_9 | exact absurd (Int32.not_lt.mp ok.2.2.2.2.2.2.2.1) c_9 | exact absurd (Int32.not_le.mp ok.2.2.2.2.2.2.2.1) (Int32.not_lt.mpr c_9) | exact absurd (Int32.not_lt.mp ok.2.2.2.2.2.2.2.1) (Int32.not_le.mpr c_9) | exact absurd (Int32.not_lt.mp c_9) (Int32.not_le.mpr (Int32.not_le.mp ok.2.2.2.2.2.2.2.1))
            · skip
              refine v_aload_n (n := 42) C dX11_hull_41 rfl rfl rfl ?_
              refine v_get (n := 45) C dX11_hull_42 rfl fl_X11_126_X11 wl_c0 rfl ?_
              refine v_aload_n (n := 46) C dX11_hull_45 rfl rfl rfl ?_
              refine v_get (n := 49) C dX11_hull_46 rfl fl_X11_15_X11 wl_c0 rfl ?_
              refine v_alenQ (n := 50) (v := 3) C dX11_hull_49 rfl wl_c2 rfl ?_
              refine v_icmp_lt (t := 56) (n := 53) C dX11_hull_50 (by decide) rfl (fun c_10 => ?_) (fun c_10 => ?_)
              · skip
                refine v_aload_n (n := 57) C dX11_hull_56 rfl rfl rfl ?_
                refine v_get (n := 60) C dX11_hull_57 rfl fl_X11_15_X11 wl_c0 rfl ?_
                refine v_aload_n (n := 61) C dX11_hull_60 rfl rfl rfl ?_
                refine v_get (n := 64) C dX11_hull_61 rfl fl_X11_126_X11 wl_c0 rfl ?_
                refine v_iload_n (n := 65) C dX11_hull_64 rfl rfl rfl ?_
                refine v_iload_n (n := 66) C dX11_hull_65 rfl rfl rfl ?_
                refine v_iload_n (n := 67) C dX11_hull_66 rfl rfl rfl ?_
                refine v_go (n := 70) C (vRun_S (As := [.int w, .int x, .int c0]) (rest := [.int (sc 2), .ref (b + 2)]) C lk_X11_129 st_X11_built dX11_hull_67 (c_built l D b sc ar hn mh G w x c0) wm_X11_built rfl rfl ⟨Nat.le_of_ble_eq_true rfl, Nat.le_of_ble_eq_true rfl⟩ ⟨Nat.le_of_ble_eq_true rfl, Nat.le_of_ble_eq_true rfl⟩ (Nat.le_of_ble_eq_true rfl)) rfl ?_
                rintro _ _ ⟨rfl, rfl⟩ -
                refine v_aast (n := 71) (es' := (wl D b sc ar (va_up hn (Int32.toNatClampNeg (sc 2)) (some (G.length + 40))) mh (G ++ [hcl (buK w) x c0 0]))) (k := G.length + 40) C dX11_hull_70 rfl wl_c2 (vp_b (Int32.not_lt.mp ok.2.2.2.2.2.2.2.1) ok.2.2.2.2.2.2.2.2 (by decide)) (h_any C (buK5 w) (wl_tail gpush)) (wl_h (i := (Int32.toNatClampNeg (sc 2))) (v := some (G.length + 40))) ?_
                refine v_aload_n (n := 72) C dX11_hull_71 rfl rfl rfl ?_
                refine v_dup (n := 73) C dX11_hull_72 rfl rfl ?_
                refine v_get (n := 76) C dX11_hull_73 rfl fl_X11_126_X11 wl_c0 rfl ?_
                refine v_iconst (n := 77) (v := 1) C dX11_hull_76 rfl (by decide) ?_
                refine v_iadd (n := 78) C dX11_hull_77 rfl ?_
                refine v_put (n := 81) (es' := (wl D b (va_up sc 2 ((sc 2) + 1)) ar (va_up hn (Int32.toNatClampNeg (sc 2)) (some (G.length + 40))) mh (G ++ [hcl (buK w) x c0 0]))) C dX11_hull_78 rfl fl_X11_126_X11 (fp_any fp_X11_6) wl_c0 rfl rfl (Nat.le_of_ble_eq_true rfl) wl_p0_6 ?_
                refine v_aload_n (n := 82) C dX11_hull_81 rfl rfl rfl ?_
                refine v_get (n := 85) C dX11_hull_82 rfl fl_X11_126_X11 (show (wl D b (va_up sc 2 ((sc 2) + 1)) ar (va_up hn (Int32.toNatClampNeg (sc 2)) (some (G.length + 40))) mh (G ++ [hcl (buK w) x c0 0]))[0]? = some (.inr (11, [.ref (b + 1), .int (sc 0), .int (sc 1), .ref (b + 25), .ref (b + 26), .ref (b + 2), .int ((sc 2) + 1), .int (sc 3), .ref (b + 3), .ref (b + 9), .ref (b + 18), .ref (b + 21), .ref (b + 22)])) from wl_c0) rfl ?_
                refine v_iconst (n := 86) (v := 1) C dX11_hull_85 rfl (by decide) ?_
                refine v_isub (n := 87) C dX11_hull_86 rfl ?_
                exact v_iret C dX11_hull_87 rfl rfl ⟨rfl, _, _, HVr_new hr (buK5 w), by simp, rfl⟩
              · first | exact absurd c_10 ok.2.2.2.2.2.2.2.2 | exact absurd ok.2.2.2.2.2.2.2.2 c_10 | exact absurd c_10 (Int32.not_le.mpr ok.2.2.2.2.2.2.2.2) | exact absurd c_10 (Int32.not_lt.mpr ok.2.2.2.2.2.2.2.2) | exact absurd (Int32.not_le.mp ok.2.2.2.2.2.2.2.2) c_10 | exact absurd (Int32.not_lt.mp ok.2.2.2.2.2.2.2.2) c_10 | exact absurd (Int32.not_le.mp ok.2.2.2.2.2.2.2.2) (Int32.not_lt.mpr c_10) | exact absurd (Int32.not_lt.mp ok.2.2.2.2.2.2.2.2) (Int32.not_le.mpr c_10) | exact absurd (Int32.not_lt.mp c_10) (Int32.not_le.mpr (Int32.not_le.mp ok.2.2.2.2.2.2.2.2))
          · exact absurd c_8 (by decide)
        · first | exact absurd c_4 ok.2.2.2.1 | exact absurd ok.2.2.2.1 c_4 | exact absurd c_4 (Int32.not_le.mpr ok.2.2.2.1) | exact absurd c_4 (Int32.not_lt.mpr ok.2.2.2.1) | exact absurd (Int32.not_le.mp ok.2.2.2.1) c_4 | exact absurd (Int32.not_lt.mp ok.2.2.2.1) c_4 | exact absurd (Int32.not_le.mp ok.2.2.2.1) (Int32.not_lt.mpr c_4) | exact absurd (Int32.not_lt.mp ok.2.2.2.1) (Int32.not_le.mpr c_4) | exact absurd (Int32.not_lt.mp c_4) (Int32.not_le.mpr (Int32.not_le.mp ok.2.2.2.1))
