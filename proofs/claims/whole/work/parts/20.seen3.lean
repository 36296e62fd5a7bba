theorem hf_vals (k : Nat) (w wd : Int32) : hfF k w wd = -1 ∨ hfF k w wd = 1 ∨ hfF k w wd = 2 ∨ hfF k w wd = 3 ∨ hfF k w wd = 4 := by
  have h1 : becN k = 2 ∨ becN k = 3 ∨ becN k = 4 := by unfold becN; split <;> simp
  have h2 : withN k = 1 ∨ withN k = 2 := by unfold withN; split <;> simp
  have h3 : agN k = -1 ∨ agN k = 3 ∨ agN k = 4 := by unfold agN; split <;> simp
  have h4 : acrN k = 2 ∨ acrN k = 3 := by unfold acrN; split <;> simp
  unfold hfF
  split
  · rcases h1 with h | h | h <;> simp [h]
  · split
    · rcases h2 with h | h <;> simp [h]
    · split
      · rcases h3 with h | h | h <;> simp [h]
      · split
        · rcases h3 with h | h | h <;> simp [h]
        · rcases h4 with h | h <;> simp [h]
theorem ht_vals (f : Nat → Int32) (rp wd : Int32) (k : Nat) (dr c w h : Int32) : htF f rp wd k dr c w h = -1 ∨ htF f rp wd k dr c w h = 1 ∨ htF f rp wd k dr c w h = 2 ∨ htF f rp wd k dr c w h = 3 ∨ htF f rp wd k dr c w h = 4 := by
  have hv := hf_vals k w wd
  unfold htF
  split
  · exact Or.inl rfl
  · split
    · split
      · exact Or.inl rfl
      · split
        · exact hv
        · exact Or.inl rfl
    · exact Or.inl rfl
theorem ht_nat {f : Nat → Int32} {rp wd : Int32} {k : Nat} {dr c w h : Int32} (hne : ¬ htF f rp wd k dr c w h = -1) : ∃ n, n < 4 ∧ htF f rp wd k dr c w h = nI (n + 1) := by
  rcases ht_vals f rp wd k dr c w h with e | e | e | e | e
  · exact absurd e hne
  · exact ⟨0, by omega, e⟩
  · exact ⟨1, by omega, e⟩
  · exact ⟨2, by omega, e⟩
  · exact ⟨3, by omega, e⟩
theorem ht_un {f : Nat → Int32} {rp wd : Int32} {k : Nat} {dr c w h : Int32} (hne : ¬ htF f rp wd k dr c w h = -1) (o : Nat) : (htF f rp wd k dr c w h).toNatClampNeg - 1 ≤ 8 ∧ nI o + htF f rp wd k dr c w h = nI (o + 1 + ((htF f rp wd k dr c w h).toNatClampNeg - 1)) := by
  obtain ⟨n, hn, e⟩ := ht_nat hne
  rw [e, nI_clamp (by omega), nI_add]
  exact ⟨by omega, by rw [show o + (n + 1) = o + 1 + (n + 1 - 1) by omega]⟩
def goI (f : Nat → Int32) (rp wd : Int32) (k : Nat) (dr : Int32) (my cn : Nat → Int32) (x : Int32) (o : Nat) (y : Int32) (i : Nat) : Prop :=
  ¬ htF f rp wd k dr x (nI i) (nI o) = -1 ∧ unA my o ((htF f rp wd k dr x (nI i) (nI o)).toNatClampNeg - 1) ∧ ¬ cbF cn (beF x (nI i)) (nI o + htF f rp wd k dr x (nI i) (nI o)) y = 0
def goP (f : Nat → Int32) (rp wd : Int32) (k : Nat) (dr : Int32) (my cn : Nat → Int32) (x : Int32) (o : Nat) (y : Int32) : Prop := ¬ cbF cn x (nI o + 1) y = 0 ∨ ∃ i, i < 4 ∧ goI f rp wd k dr my cn x o y i
set_option maxHeartbeats 4000000 in
set_option maxRecDepth 100000 in
theorem c_goesOn (l : Launch) (D : va_G) (b : Nat) (sc : Nat → Int32) (ar : Nat → Nat → Int32) (hn : Nat → Option Nat) (mh : Int64) (G : List va_E) (qs : Nat) (rp wd : Int32) (hs : ∀ ar, (wl D b sc ar hn mh G)[qs]? = some (.inr (7, [.ref (b + 24), .int rp, .int wd]))) (u k : Nat) (dr ce sa : Int32) (hk : k < 5) (hg : G[u]? = some (hcl k dr ce sa)) (x y : Int32) (o : Nat) (ho : o ≤ 40) : Con l yX8_goesOn cX8_goesOn 8 (some .boolean) 3 71 D b 0 0 (wl D b sc ar hn mh G) [.ref (b + 3), .ref (b + qs), .ref (b + (u + 40)), .int x, .int (nI o), .int y] (fun r es' => ((r = some (.int 1) ∧ goP (ar 24) rp wd k dr (ar 7) (ar 8) x o y) ∨ (r = some (.int 0) ∧ ¬ goP (ar 24) rp wd k dr (ar 7) (ar 8) x o y)) ∧ wl D b sc ar hn mh G = es') := by
  refine con_of (by decide) (Nat.le_of_ble_eq_true rfl) (fun p e s m args below meth c C hsz => ?_)
  have C : vC p s m args meth c cX8_goesOn 8 RX8 "goesOn" (some .boolean) D b := C
  change V p l e _ s m args below meth c D b 8 _ 0 0 (wl D b sc ar hn mh G) [(0, .ref (b + 3)), (1, .ref (b + qs)), (2, .ref (b + (u + 40))), (3, .int x), (4, .int (nI o)), (5, .int y)] [] 0
  refine v_aload_n (n := 1) C dX8_goesOn_0 rfl rfl rfl ?_
  refine v_iload_n (n := 2) C dX8_goesOn_1 rfl rfl rfl ?_
  refine v_iload (n := 4) C dX8_goesOn_2 rfl rfl ?_
  refine v_iconst (n := 5) (v := 1) C dX8_goesOn_4 rfl (by decide) ?_
  refine v_iadd (n := 6) C dX8_goesOn_5 rfl ?_
  refine v_iload (n := 8) C dX8_goesOn_6 rfl rfl ?_
  refine v_go (n := 11) C (vRun_V (As := [.int x, .int ((nI o) + 1), .int y]) (rest := []) C wl_c3 rfl lk_X8_45 im_X8_canBe se_X8_canBe dX8_goesOn_8 (c_canBe l D b sc ar hn mh G x ((nI o) + 1) y) wm_X8_canBe rfl rfl ⟨Nat.le_of_ble_eq_true rfl, Nat.le_of_ble_eq_true rfl⟩ ⟨Nat.le_of_ble_eq_true rfl, Nat.le_of_ble_eq_true rfl⟩ (Nat.le_of_ble_eq_true rfl)) rfl ?_
  rintro _ _ ⟨rfl, rfl⟩ -
  refine v_if_eq (t := 16) (n := 14) C dX8_goesOn_11 (by decide) rfl (fun c_1 => ?_) (fun c_1 => ?_)
  · skip
    refine v_iconst (n := 17) (v := 0) C dX8_goesOn_16 rfl (by decide) ?_
    refine v_istore (n := 19) (lv' := [(6, .int 0), (0, .ref (b + 3)), (1, .ref (b + qs)), (2, .ref (b + (u + 40))), (3, .int x), (4, .int (nI o)), (5, .int y)]) C dX8_goesOn_17 rfl (Nat.le_of_ble_eq_true rfl) rfl ?_
    refine v_pick (lv' := [(6, .int 0), (0, .ref (b + 3)), (1, .ref (b + qs)), (2, .ref (b + (u + 40))), (3, .int x), (4, .int (nI o)), (5, .int y)]) [0, 1, 2, 3, 4, 5, 6] rfl ?_
    have e_2 : (0 : Int32) = (nI 0) := rfl
    refine v_cong (es' := (wl D b sc ar hn mh G)) (lv' := [(6, .int (nI 0)), (0, .ref (b + 3)), (1, .ref (b + qs)), (2, .ref (b + (u + 40))), (3, .int x), (4, .int (nI o)), (5, .int y)]) rfl (cg1 (fun (z0 : Int32) => ([(6, .int z0), (0, .ref (b + 3)), (1, .ref (b + qs)), (2, .ref (b + (u + 40))), (3, .int x), (4, .int (nI o)), (5, .int y)] : List (Nat × Value))) e_2) ?_
    refine loop_dn (P := fun i_19 => (∀ j, j < i_19 → ¬ goI (ar 24) rp wd k dr (ar 7) (ar 8) x o y j) → V p l e { frames := 3, cells := 0, slots := 0, locals := 71 } s m args below meth c D b 8 (MQ below (cQ D b 0 (fun r es' => ((r = some (.int 1) ∧ goP (ar 24) rp wd k dr (ar 7) (ar 8) x o y) ∨ (r = some (.int 0) ∧ ¬ goP (ar 24) rp wd k dr (ar 7) (ar 8) x o y)) ∧ wl D b sc ar hn mh G = es')) args s 0 0 (fun q => b ≤ q)) 0 0 (wl D b sc ar hn mh G) [(6, .int (nI i_19)), (0, .ref (b + 3)), (1, .ref (b + qs)), (2, .ref (b + (u + 40))), (3, .int x), (4, .int (nI o)), (5, .int y)] [] 19) 4 ?_ (fun i_19 hi_19 ih_19 => ?_) (fun j h => absurd h (Nat.not_lt_zero j))
    · skip
      intro hp_19
      have g_3 : (4 : Int32) ≤ (nI 4) := by decide
      refine v_iload (n := 21) C dX8_goesOn_19 rfl rfl ?_
      refine v_iconst (n := 22) (v := 4) C dX8_goesOn_21 rfl (by decide) ?_
      refine v_icmp_ge (t := 85) (n := 25) C dX8_goesOn_22 (by decide) rfl (fun c_4 => ?_) (fun c_4 => ?_)
      · skip
        refine v_iconst (n := 86) (v := 0) C dX8_goesOn_85 rfl (by decide) ?_
        exact v_iret C dX8_goesOn_86 rfl rfl ⟨Or.inr ⟨rfl, fun q => q.elim (fun h => h c_1) (fun ⟨i, hi, hg⟩ => hp_19 i hi hg)⟩, rfl⟩
      · first | exact absurd c_4 g_3 | exact absurd g_3 c_4 | exact absurd c_4 (Int32.not_le.mpr g_3) | exact absurd c_4 (Int32.not_lt.mpr g_3) | exact absurd (Int32.not_le.mp g_3) c_4 | exact absurd (Int32.not_lt.mp g_3) c_4 | exact absurd (Int32.not_le.mp g_3) (Int32.not_lt.mpr c_4) | exact absurd (Int32.not_lt.mp g_3) (Int32.not_le.mpr c_4) | exact absurd (Int32.not_lt.mp c_4) (Int32.not_le.mpr (Int32.not_le.mp g_3))
    · skip
      intro hp_19
      have g_5 : ¬ (4 : Int32) ≤ (nI i_19) := nI_ge (a := i_19 + 0) (b := 4) (by omega) (by decide)
      refine v_iload (n := 21) C dX8_goesOn_19 rfl rfl ?_
      refine v_iconst (n := 22) (v := 4) C dX8_goesOn_21 rfl (by decide) ?_
      refine v_icmp_ge (t := 85) (n := 25) C dX8_goesOn_22 (by decide) rfl (fun c_6 => ?_) (fun c_6 => ?_)
      · first | exact absurd c_6 g_5 | exact absurd g_5 c_6 | exact absurd c_6 (Int32.not_le.mpr g_5) | exact absurd c_6 (Int32.not_lt.mpr g_5) | exact absurd (Int32.not_le.mp g_5) c_6 | exact absurd (Int32.not_lt.mp g_5) c_6 | exact absurd (Int32.not_le.mp g_5) (Int32.not_lt.mpr c_6) | exact absurd (Int32.not_lt.mp g_5) (Int32.not_le.mpr c_6) | exact absurd (Int32.not_lt.mp c_6) (Int32.not_le.mpr (Int32.not_le.mp g_5))
      · skip
        refine v_aload_n (n := 26) C dX8_goesOn_25 rfl rfl rfl ?_
        refine v_aload_n (n := 27) C dX8_goesOn_26 rfl rfl rfl ?_
        refine v_iload_n (n := 28) C dX8_goesOn_27 rfl rfl rfl ?_
        refine v_iload (n := 30) C dX8_goesOn_28 rfl rfl ?_
        refine v_iload (n := 32) C dX8_goesOn_30 rfl rfl ?_
        refine v_go (n := 35) C (vRun_V (As := [.ref (b + (u + 40)), .int x, .int (nI i_19), .int (nI o)]) (rest := []) C (hs _) rfl lk_X8_49 im_X7_hoursToSail se_X7_hoursToSail dX8_goesOn_32 (c_hoursToSail l D b (wl D b sc ar hn mh G) qs 24 (ar 24) rp wd (hs _) wl_c24 (u + 40) k dr ce sa hk (wl_tail hg) x (nI i_19) (nI o)) wm_X7_hoursToSail rfl rfl ⟨Nat.le_of_ble_eq_true rfl, Nat.le_of_ble_eq_true rfl⟩ ⟨Nat.le_of_ble_eq_true rfl, Nat.le_of_ble_eq_true rfl⟩ (Nat.le_of_ble_eq_true rfl)) rfl ?_
        rintro _ _ ⟨rfl, rfl⟩ -
        refine v_istore (n := 37) (lv' := [(7, .int (htF (ar 24) rp wd k dr x (nI i_19) (nI o))), (6, .int (nI i_19)), (0, .ref (b + 3)), (1, .ref (b + qs)), (2, .ref (b + (u + 40))), (3, .int x), (4, .int (nI o)), (5, .int y)]) C dX8_goesOn_35 rfl (Nat.le_of_ble_eq_true rfl) rfl ?_
        refine v_iload (n := 39) C dX8_goesOn_37 rfl rfl ?_
        refine v_iconst (n := 40) (v := -1) C dX8_goesOn_39 rfl (by decide) ?_
        refine v_icmp_eq (t := 79) (n := 43) C dX8_goesOn_40 (by decide) rfl (fun c_7 => ?_) (fun c_7 => ?_)
        · skip
          refine v_iinc (n := 82) (v := ((nI i_19) + 1)) (lv' := [(6, .int ((nI i_19) + 1)), (7, .int (htF (ar 24) rp wd k dr x (nI i_19) (nI o))), (0, .ref (b + 3)), (1, .ref (b + qs)), (2, .ref (b + (u + 40))), (3, .int x), (4, .int (nI o)), (5, .int y)]) C dX8_goesOn_79 rfl rfl rfl (Nat.le_of_ble_eq_true rfl) rfl ?_
          refine v_goto (t := 19) C dX8_goesOn_82 (by decide) ?_
          refine v_pick (lv' := [(6, .int ((nI i_19) + 1)), (0, .ref (b + 3)), (1, .ref (b + qs)), (2, .ref (b + (u + 40))), (3, .int x), (4, .int (nI o)), (5, .int y)]) [0, 2, 3, 4, 5, 6, 7] rfl ?_
          have e_8 : ((nI i_19) + 1) = (nI (i_19 + 1)) := nI_1 _
          refine v_cong (es' := (wl D b sc ar hn mh G)) (lv' := [(6, .int (nI (i_19 + 1))), (0, .ref (b + 3)), (1, .ref (b + qs)), (2, .ref (b + (u + 40))), (3, .int x), (4, .int (nI o)), (5, .int y)]) rfl (cg1 (fun (z0 : Int32) => ([(6, .int z0), (0, .ref (b + 3)), (1, .ref (b + qs)), (2, .ref (b + (u + 40))), (3, .int x), (4, .int (nI o)), (5, .int y)] : List (Nat × Value))) e_8) ?_
          exact ih_19 (fun j hj => (Nat.lt_or_eq_of_le (Nat.le_of_lt_succ hj)).elim (fun q => hp_19 j q) (fun q => by subst q; exact fun h => h.1 c_7))
        · skip
          refine v_aload_n (n := 44) C dX8_goesOn_43 rfl rfl rfl ?_
          refine v_iload (n := 46) C dX8_goesOn_44 rfl rfl ?_
          refine v_iload (n := 48) C dX8_goesOn_46 rfl rfl ?_
          refine v_iload (n := 50) C dX8_goesOn_48 rfl rfl ?_
          refine v_iadd (n := 51) C dX8_goesOn_50 rfl ?_
          obtain ⟨hn_9, hl_9⟩ := ht_un c_7 o
          refine v_stk (st' := .int (nI (o + 1 + ((Int32.toNatClampNeg (htF (ar 24) rp wd k dr x (nI i_19) (nI o))) - 1))) :: [.int (nI o), .ref (b + 3)]) (congrArg (fun z : Int32 => Value.int z :: [.int (nI o), .ref (b + 3)]) hl_9) ?_
          refine v_go (n := 54) C (vRun_V (As := [.int (nI o), .int (nI (o + 1 + ((Int32.toNatClampNeg (htF (ar 24) rp wd k dr x (nI i_19) (nI o))) - 1)))]) (rest := []) C wl_c3 rfl lk_X8_55 im_X8_unseenBetween se_X8_unseenBetween dX8_goesOn_51 (c_unseenBetween l D b sc ar hn mh G o ((Int32.toNatClampNeg (htF (ar 24) rp wd k dr x (nI i_19) (nI o))) - 1) ho hn_9) wm_X8_unseenBetween rfl rfl ⟨Nat.le_of_ble_eq_true rfl, Nat.le_of_ble_eq_true rfl⟩ ⟨Nat.le_of_ble_eq_true rfl, Nat.le_of_ble_eq_true rfl⟩ (Nat.le_of_ble_eq_true rfl)) rfl ?_
          rintro _ _ ⟨⟨rfl, hu_10⟩ | ⟨rfl, hu_10⟩, rfl⟩ -
          · skip
            refine v_if_eq (t := 79) (n := 57) C dX8_goesOn_54 (by decide) rfl (fun c_11 => ?_) (fun c_11 => ?_)
            · exact absurd c_11 (by decide)
            · skip
              refine v_aload_n (n := 58) C dX8_goesOn_57 rfl rfl rfl ?_
              refine v_iload_n (n := 59) C dX8_goesOn_58 rfl rfl rfl ?_
              refine v_iload (n := 61) C dX8_goesOn_59 rfl rfl ?_
              refine v_go (n := 64) C (vRun_SN (As := [.int x, .int (nI i_19)]) (rest := [.ref (b + 3)]) C lk_X8_59 st_X11_beside dX8_goesOn_61 (c_beside l D b (wl D b sc ar hn mh G) x (nI i_19)) wm_X11_beside rfl rfl ⟨Nat.le_of_ble_eq_true rfl, Nat.le_of_ble_eq_true rfl⟩ ⟨Nat.le_of_ble_eq_true rfl, Nat.le_of_ble_eq_true rfl⟩ (Nat.le_of_ble_eq_true rfl)) rfl ?_
              rintro _ _ ⟨rfl, rfl⟩ -
              refine v_iload (n := 66) C dX8_goesOn_64 rfl rfl ?_
              refine v_iload (n := 68) C dX8_goesOn_66 rfl rfl ?_
              refine v_iadd (n := 69) C dX8_goesOn_68 rfl ?_
              refine v_iload (n := 71) C dX8_goesOn_69 rfl rfl ?_
              refine v_go (n := 74) C (vRun_V (As := [.int (beF x (nI i_19)), .int ((nI o) + (htF (ar 24) rp wd k dr x (nI i_19) (nI o))), .int y]) (rest := []) C wl_c3 rfl lk_X8_45 im_X8_canBe se_X8_canBe dX8_goesOn_71 (c_canBe l D b sc ar hn mh G (beF x (nI i_19)) ((nI o) + (htF (ar 24) rp wd k dr x (nI i_19) (nI o))) y) wm_X8_canBe rfl rfl ⟨Nat.le_of_ble_eq_true rfl, Nat.le_of_ble_eq_true rfl⟩ ⟨Nat.le_of_ble_eq_true rfl, Nat.le_of_ble_eq_true rfl⟩ (Nat.le_of_ble_eq_true rfl)) rfl ?_
              rintro _ _ ⟨rfl, rfl⟩ -
              refine v_if_eq (t := 79) (n := 77) C dX8_goesOn_74 (by decide) rfl (fun c_12 => ?_) (fun c_12 => ?_)
              · skip
                refine v_iinc (n := 82) (v := ((nI i_19) + 1)) (lv' := [(6, .int ((nI i_19) + 1)), (7, .int (htF (ar 24) rp wd k dr x (nI i_19) (nI o))), (0, .ref (b + 3)), (1, .ref (b + qs)), (2, .ref (b + (u + 40))), (3, .int x), (4, .int (nI o)), (5, .int y)]) C dX8_goesOn_79 rfl rfl rfl (Nat.le_of_ble_eq_true rfl) rfl ?_
                refine v_goto (t := 19) C dX8_goesOn_82 (by decide) ?_
                refine v_pick (lv' := [(6, .int ((nI i_19) + 1)), (0, .ref (b + 3)), (1, .ref (b + qs)), (2, .ref (b + (u + 40))), (3, .int x), (4, .int (nI o)), (5, .int y)]) [0, 2, 3, 4, 5, 6, 7] rfl ?_
                have e_13 : ((nI i_19) + 1) = (nI (i_19 + 1)) := nI_1 _
                refine v_cong (es' := (wl D b sc ar hn mh G)) (lv' := [(6, .int (nI (i_19 + 1))), (0, .ref (b + 3)), (1, .ref (b + qs)), (2, .ref (b + (u + 40))), (3, .int x), (4, .int (nI o)), (5, .int y)]) rfl (cg1 (fun (z0 : Int32) => ([(6, .int z0), (0, .ref (b + 3)), (1, .ref (b + qs)), (2, .ref (b + (u + 40))), (3, .int x), (4, .int (nI o)), (5, .int y)] : List (Nat × Value))) e_13) ?_
                exact ih_19 (fun j hj => (Nat.lt_or_eq_of_le (Nat.le_of_lt_succ hj)).elim (fun q => hp_19 j q) (fun q => by subst q; exact fun h => h.2.2 c_12))
              · skip
                refine v_iconst (n := 78) (v := 1) C dX8_goesOn_77 rfl (by decide) ?_
                exact v_iret C dX8_goesOn_78 rfl rfl ⟨Or.inl ⟨rfl, Or.inr ⟨i_19, hi_19, c_7, hu_10, c_12⟩⟩, rfl⟩
          · skip
            refine v_if_eq (t := 79) (n := 57) C dX8_goesOn_54 (by decide) rfl (fun c_14 => ?_) (fun c_14 => ?_)
            · skip
              refine v_iinc (n := 82) (v := ((nI i_19) + 1)) (lv' := [(6, .int ((nI i_19) + 1)), (7, .int (htF (ar 24) rp wd k dr x (nI i_19) (nI o))), (0, .ref (b + 3)), (1, .ref (b + qs)), (2, .ref (b + (u + 40))), (3, .int x), (4, .int (nI o)), (5, .int y)]) C dX8_goesOn_79 rfl rfl rfl (Nat.le_of_ble_eq_true rfl) rfl ?_
              refine v_goto (t := 19) C dX8_goesOn_82 (by decide) ?_
              refine v_pick (lv' := [(6, .int ((nI i_19) + 1)), (0, .ref (b + 3)), (1, .ref (b + qs)), (2, .ref (b + (u + 40))), (3, .int x), (4, .int (nI o)), (5, .int y)]) [0, 2, 3, 4, 5, 6, 7] rfl ?_
              have e_15 : ((nI i_19) + 1) = (nI (i_19 + 1)) := nI_1 _
              refine v_cong (es' := (wl D b sc ar hn mh G)) (lv' := [(6, .int (nI (i_19 + 1))), (0, .ref (b + 3)), (1, .ref (b + qs)), (2, .ref (b + (u + 40))), (3, .int x), (4, .int (nI o)), (5, .int y)]) rfl (cg1 (fun (z0 : Int32) => ([(6, .int z0), (0, .ref (b + 3)), (1, .ref (b + qs)), (2, .ref (b + (u + 40))), (3, .int x), (4, .int (nI o)), (5, .int y)] : List (Nat × Value))) e_15) ?_
              exact ih_19 (fun j hj => (Nat.lt_or_eq_of_le (Nat.le_of_lt_succ hj)).elim (fun q => hp_19 j q) (fun q => by subst q; exact fun h => hu_10 h.2.1))
            · exact absurd c_14 (by decide)
  · skip
    refine v_iconst (n := 15) (v := 1) C dX8_goesOn_14 rfl (by decide) ?_
    exact v_iret C dX8_goesOn_15 rfl rfl ⟨Or.inl ⟨rfl, Or.inl c_1⟩, rfl⟩
