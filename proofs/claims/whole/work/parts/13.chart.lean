/-- a chart: hours and first ways -/
abbrev HF : Type := (Nat → Int32) × (Nat → Int32)
def arS (q : HF) (c w fi : Int32) : HF := if c < 0 then q else if 12 ≤ c then q else
  if q.1 c.toNatClampNeg = -1 then (upd q.1 c.toNatClampNeg w, upd q.2 c.toNatClampNeg fi) else
  if w < q.1 c.toNatClampNeg then (upd q.1 c.toNatClampNeg w, upd q.2 c.toNatClampNeg fi) else
  if w = q.1 c.toNatClampNeg then (if fi < q.2 c.toNatClampNeg then (upd q.1 c.toNatClampNeg w, upd q.2 c.toNatClampNeg fi) else q) else q
def soN (f : Nat → Int32) (rp wd : Int32) (k : Nat) (dr c : Int32) (q : HF) : Nat → HF
  | 0 => q
  | i + 1 => if htF f rp wd k dr c (nI i) ((soN f rp wd k dr c q i).1 c.toNatClampNeg) = -1 then soN f rp wd k dr c q i else
    arS (soN f rp wd k dr c q i) (beF c (nI i)) ((soN f rp wd k dr c q i).1 c.toNatClampNeg + htF f rp wd k dr c (nI i) ((soN f rp wd k dr c q i).1 c.toNatClampNeg)) (if (soN f rp wd k dr c q i).2 c.toNatClampNeg = -1 then nI i else (soN f rp wd k dr c q i).2 c.toNatClampNeg)
def soF (f : Nat → Int32) (rp wd : Int32) (k : Nat) (dr c : Int32) (q : HF) : HF := if c < 0 then q else if 12 ≤ c then q else soN f rp wd k dr c q 4
/-- the soonest open cell -/
def spN (h : Nat → Int32) (sd : Int32) : Nat → Int32
  | 0 => -1
  | i + 1 => if (sd >>> (nI i &&& 31)) &&& 1 = 0 then (if h i = -1 then spN h sd i else if spN h sd i = -1 then nI i else if h i < h (spN h sd i).toNatClampNeg then nI i else spN h sd i) else spN h sd i
theorem spN_bd (h : Nat → Int32) (sd : Int32) : ∀ i, i ≤ 12 → spN h sd i = -1 ∨ ∃ j, j < i ∧ spN h sd i = nI j := by
  intro i
  induction i with
  | zero => intro _; exact Or.inl rfl
  | succ i ih =>
    intro hi
    have ih := ih (by omega)
    have hw : spN h sd i = -1 ∨ ∃ j, j < i + 1 ∧ spN h sd i = nI j := by
      rcases ih with ih | ⟨j, hj, e⟩
      · exact Or.inl ih
      · exact Or.inr ⟨j, by omega, e⟩
    rw [spN]
    split
    · split
      · exact hw
      · split
        · exact Or.inr ⟨i, by omega, rfl⟩
        · split
          · exact Or.inr ⟨i, by omega, rfl⟩
          · exact hw
    · exact hw
theorem spN_vp {h : Nat → Int32} {sd : Int32} {i : Nat} (hi : i < 12) (hne : ¬ spN h sd i = -1) : vp_in (spN h sd i) 12 := by
  rcases spN_bd h sd i (by omega) with e | ⟨j, hj, e⟩
  · exact absurd e hne
  · rw [e]; exact vp_in_nI (by omega) (by decide)
/-- the plot: chart, settled, next -/
def fillN (x : Int32) (f : Nat → Int32) : Nat → Nat → Int32
  | 0 => f
  | i + 1 => upd (fillN x f i) i x
def plN (f : Nat → Int32) (rp wd : Int32) (k : Nat) (dr : Int32) (q : HF) (fr : Int32) : Nat → HF × Int32 × Int32
  | 0 => (q, 0, fr)
  | i + 1 => if (plN f rp wd k dr q fr i).2.2 = -1 then plN f rp wd k dr q fr i else
    (soF f rp wd k dr (plN f rp wd k dr q fr i).2.2 (plN f rp wd k dr q fr i).1, (plN f rp wd k dr q fr i).2.1 ||| ((1 : Int32) <<< ((plN f rp wd k dr q fr i).2.2 &&& 31)), spN (soF f rp wd k dr (plN f rp wd k dr q fr i).2.2 (plN f rp wd k dr q fr i).1).1 ((plN f rp wd k dr q fr i).2.1 ||| ((1 : Int32) <<< ((plN f rp wd k dr q fr i).2.2 &&& 31))) 12)
def plF (f : Nat → Int32) (rp wd : Int32) (k : Nat) (dr : Int32) (q : HF) (fr now : Int32) : HF := if fr < 0 then (fillN (-1) q.1 12, fillN (-1) q.2 12) else if 12 ≤ fr then (fillN (-1) q.1 12, fillN (-1) q.2 12) else (plN f rp wd k dr (upd (fillN (-1) q.1 12) fr.toNatClampNeg now, fillN (-1) q.2 12) fr 12).1
theorem plN_stop {f : Nat → Int32} {rp wd : Int32} {k : Nat} {dr : Int32} {q : HF} {fr : Int32} {i : Nat} (h : (plN f rp wd k dr q fr i).2.2 = -1) : ∀ n, plN f rp wd k dr q fr (i + n) = plN f rp wd k dr q fr i := by
  intro n
  induction n with
  | zero => rfl
  | succ n ih => rw [← Nat.add_assoc, plN, ih, if_pos h]
theorem plN_end {f : Nat → Int32} {rp wd : Int32} {k : Nat} {dr : Int32} {q : HF} {fr : Int32} {i : Nat} (hi : i < 12) (h : (plN f rp wd k dr q fr i).2.2 = -1) : plN f rp wd k dr q fr 12 = plN f rp wd k dr q fr i := by
  have := plN_stop h (12 - i)
  rwa [show i + (12 - i) = 12 by omega] at this
def atF (f : Nat → Int32) (x : Int32) : Int32 := if x < 0 then -1 else if 12 ≤ x then -1 else f x.toNatClampNeg
set_option maxHeartbeats 4000000 in
set_option maxRecDepth 100000 in
theorem c_hourAt (l : Launch) (D : va_G) (b : Nat) (sc : Nat → Int32) (ar : Nat → Nat → Int32) (hn : Nat → Option Nat) (mh : Int64) (G : List va_E) (x : Int32) : Con l yX0_hourAt cX0_hourAt 2 (some .int) 1 20 D b 0 0 (wl D b sc ar hn mh G) [.ref (b + 18), .int x] (fun r es' => r = some (.int (atF (ar 19) x)) ∧ (wl D b sc ar hn mh G) = es') := by
  refine con_of (by decide) (Nat.le_of_ble_eq_true rfl) (fun p e s m args below meth c C hsz => ?_)
  have C : vC p s m args meth c cX0_hourAt 2 RX0 "hourAt" (some .int) D b := C
  change V p l e _ s m args below meth c D b 2 _ 0 0 (wl D b sc ar hn mh G) [(0, .ref (b + 18)), (1, .int x)] [] 0
  refine v_iload_n (n := 1) C dX0_hourAt_0 rfl rfl rfl ?_
  refine v_go (n := 4) C (vRun_SN (As := [.int x]) (rest := []) C lk_X0_18 st_X11_isCell dX0_hourAt_1 (c_isCell l D b (wl D b sc ar hn mh G) x) wm_X11_isCell rfl rfl ⟨Nat.le_of_ble_eq_true rfl, Nat.le_of_ble_eq_true rfl⟩ ⟨Nat.le_of_ble_eq_true rfl, Nat.le_of_ble_eq_true rfl⟩ (Nat.le_of_ble_eq_true rfl)) rfl ?_
  rintro _ _ ⟨rfl, rfl⟩ -
  by_cases p_1 : x < 0
  · skip
    refine v_stk (st' := .int 0 :: []) (congrArg (fun z : Int32 => Value.int z :: []) (show icF x = 0 by simp only [icF, if_pos p_1])) ?_
    refine v_if_eq (t := 16) (n := 7) C dX0_hourAt_4 (by decide) rfl (fun c_2 => ?_) (fun c_2 => ?_)
    · skip
      refine v_iconst (n := 17) (v := -1) C dX0_hourAt_16 rfl (by decide) ?_
      exact v_iret C dX0_hourAt_17 rfl rfl ⟨by first | rfl | (simp only [atF, if_pos p_1, if_neg (Int32.not_le.mpr p_1), if_pos c_2]; done) | (simp only [atF, eq_true p_1, eq_false (Int32.not_le.mpr p_1), eq_true c_2, ↓reduceIte]; done) | (simp only [atF, eq_true p_1, eq_false (Int32.not_le.mpr p_1), eq_true c_2, ↓reduceIte] <;> rfl) | (simp [atF, p_1, c_2]; done), rfl⟩
    · exact absurd c_2 (by decide)
  by_cases p_3 : 12 ≤ x
  · skip
    refine v_stk (st' := .int 0 :: []) (congrArg (fun z : Int32 => Value.int z :: []) (show icF x = 0 by simp only [icF, if_neg p_1, if_pos p_3])) ?_
    refine v_if_eq (t := 16) (n := 7) C dX0_hourAt_4 (by decide) rfl (fun c_4 => ?_) (fun c_4 => ?_)
    · skip
      refine v_iconst (n := 17) (v := -1) C dX0_hourAt_16 rfl (by decide) ?_
      exact v_iret C dX0_hourAt_17 rfl rfl ⟨by first | rfl | (simp only [atF, if_neg p_1, if_pos (Int32.not_lt.mp p_1), if_pos p_3, if_neg (Int32.not_lt.mpr p_3), if_pos c_4]; done) | (simp only [atF, eq_false p_1, eq_true (Int32.not_lt.mp p_1), eq_true p_3, eq_false (Int32.not_lt.mpr p_3), eq_true c_4, ↓reduceIte]; done) | (simp only [atF, eq_false p_1, eq_true (Int32.not_lt.mp p_1), eq_true p_3, eq_false (Int32.not_lt.mpr p_3), eq_true c_4, ↓reduceIte] <;> rfl) | (simp [atF, p_1, p_3, c_4]; done), rfl⟩
    · exact absurd c_4 (by decide)
  refine v_stk (st' := .int 1 :: []) (congrArg (fun z : Int32 => Value.int z :: []) (show icF x = 1 by simp only [icF, if_neg p_1, if_neg p_3])) ?_
  refine v_if_eq (t := 16) (n := 7) C dX0_hourAt_4 (by decide) rfl (fun c_5 => ?_) (fun c_5 => ?_)
  · exact absurd c_5 (by decide)
  · skip
    refine v_aload_n (n := 8) C dX0_hourAt_7 rfl rfl rfl ?_
    refine v_get (n := 11) C dX0_hourAt_8 rfl fl_X0_9_X0 wl_c18 rfl ?_
    refine v_iload_n (n := 12) C dX0_hourAt_11 rfl rfl rfl ?_
    refine v_iald (n := 13) C dX0_hourAt_12 rfl wl_c19 (vp_b (Int32.not_lt.mp p_1) (Int32.not_le.mp p_3) (by decide)) ?_
    refine v_goto (t := 17) C dX0_hourAt_13 (by decide) ?_
    exact v_iret C dX0_hourAt_17 rfl rfl ⟨by first | rfl | (simp only [atF, if_neg p_1, if_pos (Int32.not_lt.mp p_1), if_neg p_3, if_pos (Int32.not_le.mp p_3), if_neg c_5]; done) | (simp only [atF, eq_false p_1, eq_true (Int32.not_lt.mp p_1), eq_false p_3, eq_true (Int32.not_le.mp p_3), eq_false c_5, ↓reduceIte]; done) | (simp only [atF, eq_false p_1, eq_true (Int32.not_lt.mp p_1), eq_false p_3, eq_true (Int32.not_le.mp p_3), eq_false c_5, ↓reduceIte] <;> rfl) | (simp [atF, p_1, p_3, c_5]; done), rfl⟩
set_option maxHeartbeats 4000000 in
set_option maxRecDepth 100000 in
theorem c_firstWayTo (l : Launch) (D : va_G) (b : Nat) (sc : Nat → Int32) (ar : Nat → Nat → Int32) (hn : Nat → Option Nat) (mh : Int64) (G : List va_E) (x : Int32) : Con l yX0_firstWayTo cX0_firstWayTo 2 (some .int) 1 20 D b 0 0 (wl D b sc ar hn mh G) [.ref (b + 18), .int x] (fun r es' => r = some (.int (atF (ar 20) x)) ∧ (wl D b sc ar hn mh G) = es') := by
  refine con_of (by decide) (Nat.le_of_ble_eq_true rfl) (fun p e s m args below meth c C hsz => ?_)
  have C : vC p s m args meth c cX0_firstWayTo 2 RX0 "firstWayTo" (some .int) D b := C
  change V p l e _ s m args below meth c D b 2 _ 0 0 (wl D b sc ar hn mh G) [(0, .ref (b + 18)), (1, .int x)] [] 0
  refine v_iload_n (n := 1) C dX0_firstWayTo_0 rfl rfl rfl ?_
  refine v_go (n := 4) C (vRun_SN (As := [.int x]) (rest := []) C lk_X0_18 st_X11_isCell dX0_firstWayTo_1 (c_isCell l D b (wl D b sc ar hn mh G) x) wm_X11_isCell rfl rfl ⟨Nat.le_of_ble_eq_true rfl, Nat.le_of_ble_eq_true rfl⟩ ⟨Nat.le_of_ble_eq_true rfl, Nat.le_of_ble_eq_true rfl⟩ (Nat.le_of_ble_eq_true rfl)) rfl ?_
  rintro _ _ ⟨rfl, rfl⟩ -
  by_cases p_1 : x < 0
  · skip
    refine v_stk (st' := .int 0 :: []) (congrArg (fun z : Int32 => Value.int z :: []) (show icF x = 0 by simp only [icF, if_pos p_1])) ?_
    refine v_if_eq (t := 16) (n := 7) C dX0_firstWayTo_4 (by decide) rfl (fun c_2 => ?_) (fun c_2 => ?_)
    · skip
      refine v_iconst (n := 17) (v := -1) C dX0_firstWayTo_16 rfl (by decide) ?_
      exact v_iret C dX0_firstWayTo_17 rfl rfl ⟨by first | rfl | (simp only [atF, if_pos p_1, if_neg (Int32.not_le.mpr p_1), if_pos c_2]; done) | (simp only [atF, eq_true p_1, eq_false (Int32.not_le.mpr p_1), eq_true c_2, ↓reduceIte]; done) | (simp only [atF, eq_true p_1, eq_false (Int32.not_le.mpr p_1), eq_true c_2, ↓reduceIte] <;> rfl) | (simp [atF, p_1, c_2]; done), rfl⟩
    · exact absurd c_2 (by decide)
  by_cases p_3 : 12 ≤ x
  · skip
    refine v_stk (st' := .int 0 :: []) (congrArg (fun z : Int32 => Value.int z :: []) (show icF x = 0 by simp only [icF, if_neg p_1, if_pos p_3])) ?_
    refine v_if_eq (t := 16) (n := 7) C dX0_firstWayTo_4 (by decide) rfl (fun c_4 => ?_) (fun c_4 => ?_)
    · skip
      refine v_iconst (n := 17) (v := -1) C dX0_firstWayTo_16 rfl (by decide) ?_
      exact v_iret C dX0_firstWayTo_17 rfl rfl ⟨by first | rfl | (simp only [atF, if_neg p_1, if_pos (Int32.not_lt.mp p_1), if_pos p_3, if_neg (Int32.not_lt.mpr p_3), if_pos c_4]; done) | (simp only [atF, eq_false p_1, eq_true (Int32.not_lt.mp p_1), eq_true p_3, eq_false (Int32.not_lt.mpr p_3), eq_true c_4, ↓reduceIte]; done) | (simp only [atF, eq_false p_1, eq_true (Int32.not_lt.mp p_1), eq_true p_3, eq_false (Int32.not_lt.mpr p_3), eq_true c_4, ↓reduceIte] <;> rfl) | (simp [atF, p_1, p_3, c_4]; done), rfl⟩
    · exact absurd c_4 (by decide)
  refine v_stk (st' := .int 1 :: []) (congrArg (fun z : Int32 => Value.int z :: []) (show icF x = 1 by simp only [icF, if_neg p_1, if_neg p_3])) ?_
  refine v_if_eq (t := 16) (n := 7) C dX0_firstWayTo_4 (by decide) rfl (fun c_5 => ?_) (fun c_5 => ?_)
  · exact absurd c_5 (by decide)
  · skip
    refine v_aload_n (n := 8) C dX0_firstWayTo_7 rfl rfl rfl ?_
    refine v_get (n := 11) C dX0_firstWayTo_8 rfl fl_X0_15_X0 wl_c18 rfl ?_
    refine v_iload_n (n := 12) C dX0_firstWayTo_11 rfl rfl rfl ?_
    refine v_iald (n := 13) C dX0_firstWayTo_12 rfl wl_c20 (vp_b (Int32.not_lt.mp p_1) (Int32.not_le.mp p_3) (by decide)) ?_
    refine v_goto (t := 17) C dX0_firstWayTo_13 (by decide) ?_
    exact v_iret C dX0_firstWayTo_17 rfl rfl ⟨by first | rfl | (simp only [atF, if_neg p_1, if_pos (Int32.not_lt.mp p_1), if_neg p_3, if_pos (Int32.not_le.mp p_3), if_neg c_5]; done) | (simp only [atF, eq_false p_1, eq_true (Int32.not_lt.mp p_1), eq_false p_3, eq_true (Int32.not_le.mp p_3), eq_false c_5, ↓reduceIte]; done) | (simp only [atF, eq_false p_1, eq_true (Int32.not_lt.mp p_1), eq_false p_3, eq_true (Int32.not_le.mp p_3), eq_false c_5, ↓reduceIte] <;> rfl) | (simp [atF, p_1, p_3, c_5]; done), rfl⟩
set_option maxHeartbeats 4000000 in
set_option maxRecDepth 100000 in
theorem c_arrive (l : Launch) (D : va_G) (b : Nat) (sc : Nat → Int32) (ar : Nat → Nat → Int32) (hn : Nat → Option Nat) (mh : Int64) (G : List va_E) (q : HF) (x w fi : Int32) : Con l yX0_arrive cX0_arrive 5 none 1 20 D b 0 0 (wl D b sc (va_up (va_up ar 19 (q).1) 20 (q).2) hn mh G) [.ref (b + 18), .int x, .int w, .int fi] (fun r es' => r = none ∧ wl D b sc (va_up (va_up ar 19 (arS q x w fi).1) 20 (arS q x w fi).2) hn mh G = es') := by
  refine con_of (by decide) (Nat.le_of_ble_eq_true rfl) (fun p e s m args below meth c C hsz => ?_)
  have C : vC p s m args meth c cX0_arrive 5 RX0 "arrive" none D b := C
  change V p l e _ s m args below meth c D b 5 _ 0 0 (wl D b sc (va_up (va_up ar 19 (q).1) 20 (q).2) hn mh G) [(0, .ref (b + 18)), (1, .int x), (2, .int w), (3, .int fi)] [] 0
  refine v_iload_n (n := 1) C dX0_arrive_0 rfl rfl rfl ?_
  refine v_go (n := 4) C (vRun_SN (As := [.int x]) (rest := []) C lk_X0_18 st_X11_isCell dX0_arrive_1 (c_isCell l D b (wl D b sc (va_up (va_up ar 19 (q).1) 20 (q).2) hn mh G) x) wm_X11_isCell rfl rfl ⟨Nat.le_of_ble_eq_true rfl, Nat.le_of_ble_eq_true rfl⟩ ⟨Nat.le_of_ble_eq_true rfl, Nat.le_of_ble_eq_true rfl⟩ (Nat.le_of_ble_eq_true rfl)) rfl ?_
  rintro _ _ ⟨rfl, rfl⟩ -
  by_cases p_1 : x < 0
  · skip
    refine v_stk (st' := .int 0 :: []) (congrArg (fun z : Int32 => Value.int z :: []) (show icF x = 0 by simp only [icF, if_pos p_1])) ?_
    refine v_if_ne (t := 8) (n := 7) C dX0_arrive_4 (by decide) rfl (fun c_2 => ?_) (fun c_2 => ?_)
    · exact absurd c_2 (by decide)
    · skip
      exact v_vret C dX0_arrive_7 rfl ⟨rfl, by first | rfl | (simp only [arS, if_pos p_1, if_neg (Int32.not_le.mpr p_1), if_pos c_2]; done) | (simp only [arS, eq_true p_1, eq_false (Int32.not_le.mpr p_1), eq_true c_2, ↓reduceIte]; done) | (simp only [arS, eq_true p_1, eq_false (Int32.not_le.mpr p_1), eq_true c_2, ↓reduceIte] <;> rfl) | (simp [arS, p_1, c_2]; done)⟩
  by_cases p_3 : 12 ≤ x
  · skip
    refine v_stk (st' := .int 0 :: []) (congrArg (fun z : Int32 => Value.int z :: []) (show icF x = 0 by simp only [icF, if_neg p_1, if_pos p_3])) ?_
    refine v_if_ne (t := 8) (n := 7) C dX0_arrive_4 (by decide) rfl (fun c_4 => ?_) (fun c_4 => ?_)
    · exact absurd c_4 (by decide)
    · skip
      exact v_vret C dX0_arrive_7 rfl ⟨rfl, by first | rfl | (simp only [arS, if_neg p_1, if_pos (Int32.not_lt.mp p_1), if_pos p_3, if_neg (Int32.not_lt.mpr p_3), if_pos c_4]; done) | (simp only [arS, eq_false p_1, eq_true (Int32.not_lt.mp p_1), eq_true p_3, eq_false (Int32.not_lt.mpr p_3), eq_true c_4, ↓reduceIte]; done) | (simp only [arS, eq_false p_1, eq_true (Int32.not_lt.mp p_1), eq_true p_3, eq_false (Int32.not_lt.mpr p_3), eq_true c_4, ↓reduceIte] <;> rfl) | (simp [arS, p_1, p_3, c_4]; done)⟩
  refine v_stk (st' := .int 1 :: []) (congrArg (fun z : Int32 => Value.int z :: []) (show icF x = 1 by simp only [icF, if_neg p_1, if_neg p_3])) ?_
  refine v_if_ne (t := 8) (n := 7) C dX0_arrive_4 (by decide) rfl (fun c_5 => ?_) (fun c_5 => ?_)
  · skip
    refine v_aload_n (n := 9) C dX0_arrive_8 rfl rfl rfl ?_
    refine v_get (n := 12) C dX0_arrive_9 rfl fl_X0_9_X0 wl_c18 rfl ?_
    refine v_iload_n (n := 13) C dX0_arrive_12 rfl rfl rfl ?_
    refine v_iald (n := 14) C dX0_arrive_13 rfl (show (wl D b sc (va_up (va_up ar 19 (q).1) 20 (q).2) hn mh G)[19]? = some (.inl (D.1 13, 12, .inl (q).1)) from wl_c19) (vp_b (Int32.not_lt.mp p_1) (Int32.not_le.mp p_3) (by decide)) ?_
    refine v_iconst (n := 15) (v := -1) C dX0_arrive_14 rfl (by decide) ?_
    refine v_icmp_eq (t := 28) (n := 18) C dX0_arrive_15 (by decide) rfl (fun c_6 => ?_) (fun c_6 => ?_)
    · skip
      refine v_iconst (n := 29) (v := 1) C dX0_arrive_28 rfl (by decide) ?_
      refine v_goto (t := 33) C dX0_arrive_29 (by decide) ?_
      refine v_istore (n := 35) (lv' := [(4, .int 1), (0, .ref (b + 18)), (1, .int x), (2, .int w), (3, .int fi)]) C dX0_arrive_33 rfl (Nat.le_of_ble_eq_true rfl) rfl ?_
      refine v_iload (n := 37) C dX0_arrive_35 rfl rfl ?_
      refine v_if_ne (t := 60) (n := 40) C dX0_arrive_37 (by decide) rfl (fun c_7 => ?_) (fun c_7 => ?_)
      · skip
        refine v_aload_n (n := 61) C dX0_arrive_60 rfl rfl rfl ?_
        refine v_get (n := 64) C dX0_arrive_61 rfl fl_X0_9_X0 wl_c18 rfl ?_
        refine v_iload_n (n := 65) C dX0_arrive_64 rfl rfl rfl ?_
        refine v_iload_n (n := 66) C dX0_arrive_65 rfl rfl rfl ?_
        refine v_iast (n := 67) (es' := (wl D b sc (va_up (va_up ar 19 (upd (q).1 (Int32.toNatClampNeg x) w)) 20 (q).2) hn mh G)) C dX0_arrive_66 rfl (show (wl D b sc (va_up (va_up ar 19 (q).1) 20 (q).2) hn mh G)[19]? = some (.inl (D.1 13, 12, .inl (q).1)) from wl_c19) (vp_b (Int32.not_lt.mp p_1) (Int32.not_le.mp p_3) (by decide)) rfl ?_
        refine v_aload_n (n := 68) C dX0_arrive_67 rfl rfl rfl ?_
        refine v_get (n := 71) C dX0_arrive_68 rfl fl_X0_15_X0 wl_c18 rfl ?_
        refine v_iload_n (n := 72) C dX0_arrive_71 rfl rfl rfl ?_
        refine v_iload_n (n := 73) C dX0_arrive_72 rfl rfl rfl ?_
        refine v_iast (n := 74) (es' := (wl D b sc (va_up (va_up ar 19 (upd (q).1 (Int32.toNatClampNeg x) w)) 20 (upd (q).2 (Int32.toNatClampNeg x) fi)) hn mh G)) C dX0_arrive_73 rfl (show (wl D b sc (va_up (va_up ar 19 (upd (q).1 (Int32.toNatClampNeg x) w)) 20 (q).2) hn mh G)[20]? = some (.inl (D.1 13, 12, .inl (q).2)) from wl_c20) (vp_b (Int32.not_lt.mp p_1) (Int32.not_le.mp p_3) (by decide)) rfl ?_
        exact v_vret C dX0_arrive_74 rfl ⟨rfl, by first | rfl | (simp only [arS, if_neg p_1, if_pos (Int32.not_lt.mp p_1), if_neg p_3, if_pos (Int32.not_le.mp p_3), if_neg c_5, if_pos c_6, if_neg c_7]; done) | (simp only [arS, eq_false p_1, eq_true (Int32.not_lt.mp p_1), eq_false p_3, eq_true (Int32.not_le.mp p_3), eq_false c_5, eq_true c_6, eq_false c_7, ↓reduceIte]; done) | (simp only [arS, eq_false p_1, eq_true (Int32.not_lt.mp p_1), eq_false p_3, eq_true (Int32.not_le.mp p_3), eq_false c_5, eq_true c_6, eq_false c_7, ↓reduceIte] <;> rfl) | (simp [arS, p_1, p_3, c_5, c_6, c_7]; done)⟩
      · exact absurd c_7 (by decide)
    · skip
      refine v_iload_n (n := 19) C dX0_arrive_18 rfl rfl rfl ?_
      refine v_aload_n (n := 20) C dX0_arrive_19 rfl rfl rfl ?_
      refine v_get (n := 23) C dX0_arrive_20 rfl fl_X0_9_X0 wl_c18 rfl ?_
      refine v_iload_n (n := 24) C dX0_arrive_23 rfl rfl rfl ?_
      refine v_iald (n := 25) C dX0_arrive_24 rfl (show (wl D b sc (va_up (va_up ar 19 (q).1) 20 (q).2) hn mh G)[19]? = some (.inl (D.1 13, 12, .inl (q).1)) from wl_c19) (vp_b (Int32.not_lt.mp p_1) (Int32.not_le.mp p_3) (by decide)) ?_
      refine v_icmp_ge (t := 32) (n := 28) C dX0_arrive_25 (by decide) rfl (fun c_8 => ?_) (fun c_8 => ?_)
      · skip
        refine v_iconst (n := 33) (v := 0) C dX0_arrive_32 rfl (by decide) ?_
        refine v_istore (n := 35) (lv' := [(4, .int 0), (0, .ref (b + 18)), (1, .int x), (2, .int w), (3, .int fi)]) C dX0_arrive_33 rfl (Nat.le_of_ble_eq_true rfl) rfl ?_
        refine v_iload (n := 37) C dX0_arrive_35 rfl rfl ?_
        refine v_if_ne (t := 60) (n := 40) C dX0_arrive_37 (by decide) rfl (fun c_9 => ?_) (fun c_9 => ?_)
        · exact absurd c_9 (by decide)
        · skip
          refine v_iload_n (n := 41) C dX0_arrive_40 rfl rfl rfl ?_
          refine v_aload_n (n := 42) C dX0_arrive_41 rfl rfl rfl ?_
          refine v_get (n := 45) C dX0_arrive_42 rfl fl_X0_9_X0 wl_c18 rfl ?_
          refine v_iload_n (n := 46) C dX0_arrive_45 rfl rfl rfl ?_
          refine v_iald (n := 47) C dX0_arrive_46 rfl (show (wl D b sc (va_up (va_up ar 19 (q).1) 20 (q).2) hn mh G)[19]? = some (.inl (D.1 13, 12, .inl (q).1)) from wl_c19) (vp_b (Int32.not_lt.mp p_1) (Int32.not_le.mp p_3) (by decide)) ?_
          refine v_icmp_ne (t := 74) (n := 50) C dX0_arrive_47 (by decide) rfl (fun c_10 => ?_) (fun c_10 => ?_)
          · skip
            exact v_vret C dX0_arrive_74 rfl ⟨rfl, by first | rfl | (simp only [arS, if_neg p_1, if_pos (Int32.not_lt.mp p_1), if_neg p_3, if_pos (Int32.not_le.mp p_3), if_neg c_5, if_neg c_6, if_pos c_8, if_neg (Int32.not_lt.mpr c_8), if_pos c_9, if_neg c_10, if_neg (fun h => c_10 (Eq.symm h))]; done) | (simp only [arS, eq_false p_1, eq_true (Int32.not_lt.mp p_1), eq_false p_3, eq_true (Int32.not_le.mp p_3), eq_false c_5, eq_false c_6, eq_true c_8, eq_false (Int32.not_lt.mpr c_8), eq_true c_9, eq_false c_10, eq_false (fun h => c_10 (Eq.symm h)), ↓reduceIte]; done) | (simp only [arS, eq_false p_1, eq_true (Int32.not_lt.mp p_1), eq_false p_3, eq_true (Int32.not_le.mp p_3), eq_false c_5, eq_false c_6, eq_true c_8, eq_false (Int32.not_lt.mpr c_8), eq_true c_9, eq_false c_10, eq_false (fun h => c_10 (Eq.symm h)), ↓reduceIte] <;> rfl) | (simp [arS, p_1, p_3, c_5, c_6, c_8, c_9, c_10]; done)⟩
          · skip
            refine v_iload_n (n := 51) C dX0_arrive_50 rfl rfl rfl ?_
            refine v_aload_n (n := 52) C dX0_arrive_51 rfl rfl rfl ?_
            refine v_get (n := 55) C dX0_arrive_52 rfl fl_X0_15_X0 wl_c18 rfl ?_
            refine v_iload_n (n := 56) C dX0_arrive_55 rfl rfl rfl ?_
            refine v_iald (n := 57) C dX0_arrive_56 rfl (show (wl D b sc (va_up (va_up ar 19 (q).1) 20 (q).2) hn mh G)[20]? = some (.inl (D.1 13, 12, .inl (q).2)) from wl_c20) (vp_b (Int32.not_lt.mp p_1) (Int32.not_le.mp p_3) (by decide)) ?_
            refine v_icmp_ge (t := 74) (n := 60) C dX0_arrive_57 (by decide) rfl (fun c_11 => ?_) (fun c_11 => ?_)
            · skip
              exact v_vret C dX0_arrive_74 rfl ⟨rfl, by first | rfl | (simp only [arS, if_neg p_1, if_pos (Int32.not_lt.mp p_1), if_neg p_3, if_pos (Int32.not_le.mp p_3), if_neg c_5, if_neg c_6, if_pos c_8, if_neg (Int32.not_lt.mpr c_8), if_pos c_9, if_pos c_10, if_pos (Eq.symm c_10), if_pos c_11, if_neg (Int32.not_lt.mpr c_11)]; done) | (simp only [arS, eq_false p_1, eq_true (Int32.not_lt.mp p_1), eq_false p_3, eq_true (Int32.not_le.mp p_3), eq_false c_5, eq_false c_6, eq_true c_8, eq_false (Int32.not_lt.mpr c_8), eq_true c_9, eq_true c_10, eq_true (Eq.symm c_10), eq_true c_11, eq_false (Int32.not_lt.mpr c_11), ↓reduceIte]; done) | (simp only [arS, eq_false p_1, eq_true (Int32.not_lt.mp p_1), eq_false p_3, eq_true (Int32.not_le.mp p_3), eq_false c_5, eq_false c_6, eq_true c_8, eq_false (Int32.not_lt.mpr c_8), eq_true c_9, eq_true c_10, eq_true (Eq.symm c_10), eq_true c_11, eq_false (Int32.not_lt.mpr c_11), ↓reduceIte] <;> rfl) | (simp [arS, p_1, p_3, c_5, c_6, c_8, c_9, c_10, c_11]; done)⟩
            · skip
              refine v_aload_n (n := 61) C dX0_arrive_60 rfl rfl rfl ?_
              refine v_get (n := 64) C dX0_arrive_61 rfl fl_X0_9_X0 wl_c18 rfl ?_
              refine v_iload_n (n := 65) C dX0_arrive_64 rfl rfl rfl ?_
              refine v_iload_n (n := 66) C dX0_arrive_65 rfl rfl rfl ?_
              refine v_iast (n := 67) (es' := (wl D b sc (va_up (va_up ar 19 (upd (q).1 (Int32.toNatClampNeg x) w)) 20 (q).2) hn mh G)) C dX0_arrive_66 rfl (show (wl D b sc (va_up (va_up ar 19 (q).1) 20 (q).2) hn mh G)[19]? = some (.inl (D.1 13, 12, .inl (q).1)) from wl_c19) (vp_b (Int32.not_lt.mp p_1) (Int32.not_le.mp p_3) (by decide)) rfl ?_
              refine v_aload_n (n := 68) C dX0_arrive_67 rfl rfl rfl ?_
              refine v_get (n := 71) C dX0_arrive_68 rfl fl_X0_15_X0 wl_c18 rfl ?_
              refine v_iload_n (n := 72) C dX0_arrive_71 rfl rfl rfl ?_
              refine v_iload_n (n := 73) C dX0_arrive_72 rfl rfl rfl ?_
              refine v_iast (n := 74) (es' := (wl D b sc (va_up (va_up ar 19 (upd (q).1 (Int32.toNatClampNeg x) w)) 20 (upd (q).2 (Int32.toNatClampNeg x) fi)) hn mh G)) C dX0_arrive_73 rfl (show (wl D b sc (va_up (va_up ar 19 (upd (q).1 (Int32.toNatClampNeg x) w)) 20 (q).2) hn mh G)[20]? = some (.inl (D.1 13, 12, .inl (q).2)) from wl_c20) (vp_b (Int32.not_lt.mp p_1) (Int32.not_le.mp p_3) (by decide)) rfl ?_
              exact v_vret C dX0_arrive_74 rfl ⟨rfl, by first | rfl | (simp only [arS, if_neg p_1, if_pos (Int32.not_lt.mp p_1), if_neg p_3, if_pos (Int32.not_le.mp p_3), if_neg c_5, if_neg c_6, if_pos c_8, if_neg (Int32.not_lt.mpr c_8), if_pos c_9, if_pos c_10, if_pos (Eq.symm c_10), if_neg c_11, if_pos (Int32.not_le.mp c_11)]; done) | (simp only [arS, eq_false p_1, eq_true (Int32.not_lt.mp p_1), eq_false p_3, eq_true (Int32.not_le.mp p_3), eq_false c_5, eq_false c_6, eq_true c_8, eq_false (Int32.not_lt.mpr c_8), eq_true c_9, eq_true c_10, eq_true (Eq.symm c_10), eq_false c_11, eq_true (Int32.not_le.mp c_11), ↓reduceIte]; done) | (simp only [arS, eq_false p_1, eq_true (Int32.not_lt.mp p_1), eq_false p_3, eq_true (Int32.not_le.mp p_3), eq_false c_5, eq_false c_6, eq_true c_8, eq_false (Int32.not_lt.mpr c_8), eq_true c_9, eq_true c_10, eq_true (Eq.symm c_10), eq_false c_11, eq_true (Int32.not_le.mp c_11), ↓reduceIte] <;> rfl) | (simp [arS, p_1, p_3, c_5, c_6, c_8, c_9, c_10, c_11]; done)⟩
      · skip
        refine v_iconst (n := 29) (v := 1) C dX0_arrive_28 rfl (by decide) ?_
        refine v_goto (t := 33) C dX0_arrive_29 (by decide) ?_
        refine v_istore (n := 35) (lv' := [(4, .int 1), (0, .ref (b + 18)), (1, .int x), (2, .int w), (3, .int fi)]) C dX0_arrive_33 rfl (Nat.le_of_ble_eq_true rfl) rfl ?_
        refine v_iload (n := 37) C dX0_arrive_35 rfl rfl ?_
        refine v_if_ne (t := 60) (n := 40) C dX0_arrive_37 (by decide) rfl (fun c_12 => ?_) (fun c_12 => ?_)
        · skip
          refine v_aload_n (n := 61) C dX0_arrive_60 rfl rfl rfl ?_
          refine v_get (n := 64) C dX0_arrive_61 rfl fl_X0_9_X0 wl_c18 rfl ?_
          refine v_iload_n (n := 65) C dX0_arrive_64 rfl rfl rfl ?_
          refine v_iload_n (n := 66) C dX0_arrive_65 rfl rfl rfl ?_
          refine v_iast (n := 67) (es' := (wl D b sc (va_up (va_up ar 19 (upd (q).1 (Int32.toNatClampNeg x) w)) 20 (q).2) hn mh G)) C dX0_arrive_66 rfl (show (wl D b sc (va_up (va_up ar 19 (q).1) 20 (q).2) hn mh G)[19]? = some (.inl (D.1 13, 12, .inl (q).1)) from wl_c19) (vp_b (Int32.not_lt.mp p_1) (Int32.not_le.mp p_3) (by decide)) rfl ?_
          refine v_aload_n (n := 68) C dX0_arrive_67 rfl rfl rfl ?_
          refine v_get (n := 71) C dX0_arrive_68 rfl fl_X0_15_X0 wl_c18 rfl ?_
          refine v_iload_n (n := 72) C dX0_arrive_71 rfl rfl rfl ?_
          refine v_iload_n (n := 73) C dX0_arrive_72 rfl rfl rfl ?_
          refine v_iast (n := 74) (es' := (wl D b sc (va_up (va_up ar 19 (upd (q).1 (Int32.toNatClampNeg x) w)) 20 (upd (q).2 (Int32.toNatClampNeg x) fi)) hn mh G)) C dX0_arrive_73 rfl (show (wl D b sc (va_up (va_up ar 19 (upd (q).1 (Int32.toNatClampNeg x) w)) 20 (q).2) hn mh G)[20]? = some (.inl (D.1 13, 12, .inl (q).2)) from wl_c20) (vp_b (Int32.not_lt.mp p_1) (Int32.not_le.mp p_3) (by decide)) rfl ?_
          exact v_vret C dX0_arrive_74 rfl ⟨rfl, by first | rfl | (simp only [arS, if_neg p_1, if_pos (Int32.not_lt.mp p_1), if_neg p_3, if_pos (Int32.not_le.mp p_3), if_neg c_5, if_neg c_6, if_neg c_8, if_pos (Int32.not_le.mp c_8), if_neg c_12]; done) | (simp only [arS, eq_false p_1, eq_true (Int32.not_lt.mp p_1), eq_false p_3, eq_true (Int32.not_le.mp p_3), eq_false c_5, eq_false c_6, eq_false c_8, eq_true (Int32.not_le.mp c_8), eq_false c_12, ↓reduceIte]; done) | (simp only [arS, eq_false p_1, eq_true (Int32.not_lt.mp p_1), eq_false p_3, eq_true (Int32.not_le.mp p_3), eq_false c_5, eq_false c_6, eq_false c_8, eq_true (Int32.not_le.mp c_8), eq_false c_12, ↓reduceIte] <;> rfl) | (simp [arS, p_1, p_3, c_5, c_6, c_8, c_12]; done)⟩
        · exact absurd c_12 (by decide)
  · exact absurd c_5 (by decide)
set_option maxHeartbeats 4000000 in
set_option maxRecDepth 100000 in
theorem c_sailOnFrom (l : Launch) (D : va_G) (b : Nat) (sc : Nat → Int32) (ar : Nat → Nat → Int32) (hn : Nat → Option Nat) (mh : Int64) (G : List va_E) (q : HF) (qs : Nat) (rp wd : Int32) (hs : ∀ ar, (wl D b sc ar hn mh G)[qs]? = some (.inr (7, [.ref (b + 24), .int rp, .int wd]))) (u k : Nat) (dr ce sa : Int32) (hk : k < 5) (hg : G[u]? = some (hcl k dr ce sa)) (x : Int32) : Con l yX0_sailOnFrom cX0_sailOnFrom 7 none 3 71 D b 0 0 (wl D b sc (va_up (va_up ar 19 (q).1) 20 (q).2) hn mh G) [.ref (b + 18), .ref (b + qs), .ref (b + (u + 40)), .int x] (fun r es' => r = none ∧ wl D b sc (va_up (va_up ar 19 (soF (ar 24) rp wd k dr x q).1) 20 (soF (ar 24) rp wd k dr x q).2) hn mh G = es') := by
  refine con_of (by decide) (Nat.le_of_ble_eq_true rfl) (fun p e s m args below meth c C hsz => ?_)
  have C : vC p s m args meth c cX0_sailOnFrom 7 RX0 "sailOnFrom" none D b := C
  change V p l e _ s m args below meth c D b 7 _ 0 0 (wl D b sc (va_up (va_up ar 19 (q).1) 20 (q).2) hn mh G) [(0, .ref (b + 18)), (1, .ref (b + qs)), (2, .ref (b + (u + 40))), (3, .int x)] [] 0
  refine v_iload_n (n := 1) C dX0_sailOnFrom_0 rfl rfl rfl ?_
  refine v_go (n := 4) C (vRun_SN (As := [.int x]) (rest := []) C lk_X0_18 st_X11_isCell dX0_sailOnFrom_1 (c_isCell l D b (wl D b sc (va_up (va_up ar 19 (q).1) 20 (q).2) hn mh G) x) wm_X11_isCell rfl rfl ⟨Nat.le_of_ble_eq_true rfl, Nat.le_of_ble_eq_true rfl⟩ ⟨Nat.le_of_ble_eq_true rfl, Nat.le_of_ble_eq_true rfl⟩ (Nat.le_of_ble_eq_true rfl)) rfl ?_
  rintro _ _ ⟨rfl, rfl⟩ -
  by_cases p_1 : x < 0
  · skip
    refine v_stk (st' := .int 0 :: []) (congrArg (fun z : Int32 => Value.int z :: []) (show icF x = 0 by simp only [icF, if_pos p_1])) ?_
    refine v_if_ne (t := 8) (n := 7) C dX0_sailOnFrom_4 (by decide) rfl (fun c_2 => ?_) (fun c_2 => ?_)
    · exact absurd c_2 (by decide)
    · skip
      exact v_vret C dX0_sailOnFrom_7 rfl ⟨rfl, by first | rfl | (simp only [soF, if_pos p_1, if_neg (Int32.not_le.mpr p_1), if_pos c_2]; done) | (simp only [soF, eq_true p_1, eq_false (Int32.not_le.mpr p_1), eq_true c_2, ↓reduceIte]; done) | (simp only [soF, eq_true p_1, eq_false (Int32.not_le.mpr p_1), eq_true c_2, ↓reduceIte] <;> rfl) | (simp [soF, p_1, c_2]; done)⟩
  by_cases p_3 : 12 ≤ x
  · skip
    refine v_stk (st' := .int 0 :: []) (congrArg (fun z : Int32 => Value.int z :: []) (show icF x = 0 by simp only [icF, if_neg p_1, if_pos p_3])) ?_
    refine v_if_ne (t := 8) (n := 7) C dX0_sailOnFrom_4 (by decide) rfl (fun c_4 => ?_) (fun c_4 => ?_)
    · exact absurd c_4 (by decide)
    · skip
      exact v_vret C dX0_sailOnFrom_7 rfl ⟨rfl, by first | rfl | (simp only [soF, if_neg p_1, if_pos (Int32.not_lt.mp p_1), if_pos p_3, if_neg (Int32.not_lt.mpr p_3), if_pos c_4]; done) | (simp only [soF, eq_false p_1, eq_true (Int32.not_lt.mp p_1), eq_true p_3, eq_false (Int32.not_lt.mpr p_3), eq_true c_4, ↓reduceIte]; done) | (simp only [soF, eq_false p_1, eq_true (Int32.not_lt.mp p_1), eq_true p_3, eq_false (Int32.not_lt.mpr p_3), eq_true c_4, ↓reduceIte] <;> rfl) | (simp [soF, p_1, p_3, c_4]; done)⟩
  refine v_stk (st' := .int 1 :: []) (congrArg (fun z : Int32 => Value.int z :: []) (show icF x = 1 by simp only [icF, if_neg p_1, if_neg p_3])) ?_
  refine v_if_ne (t := 8) (n := 7) C dX0_sailOnFrom_4 (by decide) rfl (fun c_5 => ?_) (fun c_5 => ?_)
  · skip
    refine v_iconst (n := 9) (v := 0) C dX0_sailOnFrom_8 rfl (by decide) ?_
    refine v_istore (n := 11) (lv' := [(4, .int 0), (0, .ref (b + 18)), (1, .ref (b + qs)), (2, .ref (b + (u + 40))), (3, .int x)]) C dX0_sailOnFrom_9 rfl (Nat.le_of_ble_eq_true rfl) rfl ?_
    refine v_pick (lv' := [(4, .int 0), (0, .ref (b + 18)), (1, .ref (b + qs)), (2, .ref (b + (u + 40))), (3, .int x)]) [0, 1, 2, 3, 4] rfl ?_
    have e_6 : (0 : Int32) = (nI 0) := rfl
    have e_7 : ((q).1 : Nat → Int32) = (soN (ar 24) rp wd k dr x q 0).1 := by first | rfl | (simp only [soN, if_neg p_1, if_pos (Int32.not_lt.mp p_1), if_neg p_3, if_pos (Int32.not_le.mp p_3), if_neg c_5]; done) | (simp only [soN, eq_false p_1, eq_true (Int32.not_lt.mp p_1), eq_false p_3, eq_true (Int32.not_le.mp p_3), eq_false c_5, ↓reduceIte]; done) | (simp only [soN, eq_false p_1, eq_true (Int32.not_lt.mp p_1), eq_false p_3, eq_true (Int32.not_le.mp p_3), eq_false c_5, ↓reduceIte] <;> rfl) | (simp [soN, p_1, p_3, c_5]; done)
    have e_8 : ((q).2 : Nat → Int32) = (soN (ar 24) rp wd k dr x q 0).2 := by first | rfl | (simp only [soN, if_neg p_1, if_pos (Int32.not_lt.mp p_1), if_neg p_3, if_pos (Int32.not_le.mp p_3), if_neg c_5]; done) | (simp only [soN, eq_false p_1, eq_true (Int32.not_lt.mp p_1), eq_false p_3, eq_true (Int32.not_le.mp p_3), eq_false c_5, ↓reduceIte]; done) | (simp only [soN, eq_false p_1, eq_true (Int32.not_lt.mp p_1), eq_false p_3, eq_true (Int32.not_le.mp p_3), eq_false c_5, ↓reduceIte] <;> rfl) | (simp [soN, p_1, p_3, c_5]; done)
    refine v_cong (es' := (wl D b sc (va_up (va_up ar 19 (soN (ar 24) rp wd k dr x q 0).1) 20 (soN (ar 24) rp wd k dr x q 0).2) hn mh G)) (lv' := [(4, .int (nI 0)), (0, .ref (b + 18)), (1, .ref (b + qs)), (2, .ref (b + (u + 40))), (3, .int x)]) (cg2 (fun (y0 : Nat → Int32) (y1 : Nat → Int32) => wl D b sc (va_up (va_up ar 19 y0) 20 y1) hn mh G) e_7 e_8) (cg1 (fun (z0 : Int32) => ([(4, .int z0), (0, .ref (b + 18)), (1, .ref (b + qs)), (2, .ref (b + (u + 40))), (3, .int x)] : List (Nat × Value))) e_6) ?_
    refine loop_dn (P := fun i_11 => V p l e { frames := 3, cells := 0, slots := 0, locals := 71 } s m args below meth c D b 7 (MQ below (cQ D b 0 (fun r es' => r = none ∧ wl D b sc (va_up (va_up ar 19 (soF (ar 24) rp wd k dr x q).1) 20 (soF (ar 24) rp wd k dr x q).2) hn mh G = es')) args s 0 0 (fun q => b ≤ q)) 0 0 (wl D b sc (va_up (va_up ar 19 (soN (ar 24) rp wd k dr x q i_11).1) 20 (soN (ar 24) rp wd k dr x q i_11).2) hn mh G) [(4, .int (nI i_11)), (0, .ref (b + 18)), (1, .ref (b + qs)), (2, .ref (b + (u + 40))), (3, .int x)] [] 11) 4 ?_ (fun i_11 hi_11 ih_11 => ?_)
    · skip
      have g_9 : (4 : Int32) ≤ (nI 4) := by decide
      refine v_iload (n := 13) C dX0_sailOnFrom_11 rfl rfl ?_
      refine v_iconst (n := 14) (v := 4) C dX0_sailOnFrom_13 rfl (by decide) ?_
      refine v_icmp_ge (t := 89) (n := 17) C dX0_sailOnFrom_14 (by decide) rfl (fun c_10 => ?_) (fun c_10 => ?_)
      · skip
        exact v_vret C dX0_sailOnFrom_89 rfl ⟨rfl, by first | rfl | (simp only [soF, if_neg p_1, if_pos (Int32.not_lt.mp p_1), if_neg p_3, if_pos (Int32.not_le.mp p_3), if_neg c_5, if_pos g_9, if_neg (Int32.not_lt.mpr g_9), if_pos c_10, if_neg (Int32.not_lt.mpr c_10)]; done) | (simp only [soF, eq_false p_1, eq_true (Int32.not_lt.mp p_1), eq_false p_3, eq_true (Int32.not_le.mp p_3), eq_false c_5, eq_true g_9, eq_false (Int32.not_lt.mpr g_9), eq_true c_10, eq_false (Int32.not_lt.mpr c_10), ↓reduceIte]; done) | (simp only [soF, eq_false p_1, eq_true (Int32.not_lt.mp p_1), eq_false p_3, eq_true (Int32.not_le.mp p_3), eq_false c_5, eq_true g_9, eq_false (Int32.not_lt.mpr g_9), eq_true c_10, eq_false (Int32.not_lt.mpr c_10), ↓reduceIte] <;> rfl) | (simp [soF, p_1, p_3, c_5, g_9, c_10]; done)⟩
      · first | exact absurd c_10 g_9 | exact absurd g_9 c_10 | exact absurd c_10 (Int32.not_le.mpr g_9) | exact absurd c_10 (Int32.not_lt.mpr g_9) | exact absurd (Int32.not_le.mp g_9) c_10 | exact absurd (Int32.not_lt.mp g_9) c_10 | exact absurd (Int32.not_le.mp g_9) (Int32.not_lt.mpr c_10) | exact absurd (Int32.not_lt.mp g_9) (Int32.not_le.mpr c_10) | exact absurd (Int32.not_lt.mp c_10) (Int32.not_le.mpr (Int32.not_le.mp g_9))
    · skip
      have g_11 : ¬ (4 : Int32) ≤ (nI i_11) := nI_ge (a := i_11 + 0) (b := 4) (by omega) (by decide)
      refine v_iload (n := 13) C dX0_sailOnFrom_11 rfl rfl ?_
      refine v_iconst (n := 14) (v := 4) C dX0_sailOnFrom_13 rfl (by decide) ?_
      refine v_icmp_ge (t := 89) (n := 17) C dX0_sailOnFrom_14 (by decide) rfl (fun c_12 => ?_) (fun c_12 => ?_)
      · first | exact absurd c_12 g_11 | exact absurd g_11 c_12 | exact absurd c_12 (Int32.not_le.mpr g_11) | exact absurd c_12 (Int32.not_lt.mpr g_11) | exact absurd (Int32.not_le.mp g_11) c_12 | exact absurd (Int32.not_lt.mp g_11) c_12 | exact absurd (Int32.not_le.mp g_11) (Int32.not_lt.mpr c_12) | exact absurd (Int32.not_lt.mp g_11) (Int32.not_le.mpr c_12) | exact absurd (Int32.not_lt.mp c_12) (Int32.not_le.mpr (Int32.not_le.mp g_11))
      · skip
        refine v_aload_n (n := 18) C dX0_sailOnFrom_17 rfl rfl rfl ?_
        refine v_aload_n (n := 19) C dX0_sailOnFrom_18 rfl rfl rfl ?_
        refine v_iload_n (n := 20) C dX0_sailOnFrom_19 rfl rfl rfl ?_
        refine v_iload (n := 22) C dX0_sailOnFrom_20 rfl rfl ?_
        refine v_aload_n (n := 23) C dX0_sailOnFrom_22 rfl rfl rfl ?_
        refine v_get (n := 26) C dX0_sailOnFrom_23 rfl fl_X0_9_X0 wl_c18 rfl ?_
        refine v_iload_n (n := 27) C dX0_sailOnFrom_26 rfl rfl rfl ?_
        refine v_iald (n := 28) C dX0_sailOnFrom_27 rfl (show (wl D b sc (va_up (va_up ar 19 (soN (ar 24) rp wd k dr x q i_11).1) 20 (soN (ar 24) rp wd k dr x q i_11).2) hn mh G)[19]? = some (.inl (D.1 13, 12, .inl (soN (ar 24) rp wd k dr x q i_11).1)) from wl_c19) (vp_b (Int32.not_lt.mp p_1) (Int32.not_le.mp p_3) (by decide)) ?_
        refine v_go (n := 31) C (vRun_V (As := [.ref (b + (u + 40)), .int x, .int (nI i_11), .int ((soN (ar 24) rp wd k dr x q i_11).1 (Int32.toNatClampNeg x))]) (rest := []) C (hs _) rfl lk_X0_30 im_X7_hoursToSail se_X7_hoursToSail dX0_sailOnFrom_28 (c_hoursToSail l D b (wl D b sc (va_up (va_up ar 19 (soN (ar 24) rp wd k dr x q i_11).1) 20 (soN (ar 24) rp wd k dr x q i_11).2) hn mh G) qs 24 (ar 24) rp wd (hs _) (show (wl D b sc (va_up (va_up ar 19 (soN (ar 24) rp wd k dr x q i_11).1) 20 (soN (ar 24) rp wd k dr x q i_11).2) hn mh G)[24]? = some (.inl (D.1 13, 12, .inl (ar 24))) from wl_c24) (u + 40) k dr ce sa hk (wl_tail hg) x (nI i_11) ((soN (ar 24) rp wd k dr x q i_11).1 (Int32.toNatClampNeg x))) wm_X7_hoursToSail rfl rfl ⟨Nat.le_of_ble_eq_true rfl, Nat.le_of_ble_eq_true rfl⟩ ⟨Nat.le_of_ble_eq_true rfl, Nat.le_of_ble_eq_true rfl⟩ (Nat.le_of_ble_eq_true rfl)) rfl ?_
        rintro _ _ ⟨rfl, rfl⟩ -
        refine v_istore (n := 33) (lv' := [(5, .int (htF (ar 24) rp wd k dr x (nI i_11) ((soN (ar 24) rp wd k dr x q i_11).1 (Int32.toNatClampNeg x)))), (4, .int (nI i_11)), (0, .ref (b + 18)), (1, .ref (b + qs)), (2, .ref (b + (u + 40))), (3, .int x)]) C dX0_sailOnFrom_31 rfl (Nat.le_of_ble_eq_true rfl) rfl ?_
        refine v_iload (n := 35) C dX0_sailOnFrom_33 rfl rfl ?_
        refine v_iconst (n := 36) (v := -1) C dX0_sailOnFrom_35 rfl (by decide) ?_
        refine v_icmp_eq (t := 83) (n := 39) C dX0_sailOnFrom_36 (by decide) rfl (fun c_13 => ?_) (fun c_13 => ?_)
        · skip
          refine v_iinc (n := 86) (v := ((nI i_11) + 1)) (lv' := [(4, .int ((nI i_11) + 1)), (5, .int (htF (ar 24) rp wd k dr x (nI i_11) ((soN (ar 24) rp wd k dr x q i_11).1 (Int32.toNatClampNeg x)))), (0, .ref (b + 18)), (1, .ref (b + qs)), (2, .ref (b + (u + 40))), (3, .int x)]) C dX0_sailOnFrom_83 rfl rfl rfl (Nat.le_of_ble_eq_true rfl) rfl ?_
          refine v_goto (t := 11) C dX0_sailOnFrom_86 (by decide) ?_
          refine v_pick (lv' := [(4, .int ((nI i_11) + 1)), (0, .ref (b + 18)), (1, .ref (b + qs)), (2, .ref (b + (u + 40))), (3, .int x)]) [0, 2, 3, 4, 5] rfl ?_
          have e_14 : ((nI i_11) + 1) = (nI (i_11 + 1)) := nI_1 _
          have e_15 : ((soN (ar 24) rp wd k dr x q i_11).1 : Nat → Int32) = (soN (ar 24) rp wd k dr x q (i_11 + 1)).1 := by first | rfl | (simp only [soN, if_neg p_1, if_pos (Int32.not_lt.mp p_1), if_neg p_3, if_pos (Int32.not_le.mp p_3), if_neg c_5, if_neg g_11, if_pos (Int32.not_le.mp g_11), if_neg c_12, if_pos (Int32.not_le.mp c_12), if_pos c_13]; done) | (simp only [soN, eq_false p_1, eq_true (Int32.not_lt.mp p_1), eq_false p_3, eq_true (Int32.not_le.mp p_3), eq_false c_5, eq_false g_11, eq_true (Int32.not_le.mp g_11), eq_false c_12, eq_true (Int32.not_le.mp c_12), eq_true c_13, ↓reduceIte]; done) | (simp only [soN, eq_false p_1, eq_true (Int32.not_lt.mp p_1), eq_false p_3, eq_true (Int32.not_le.mp p_3), eq_false c_5, eq_false g_11, eq_true (Int32.not_le.mp g_11), eq_false c_12, eq_true (Int32.not_le.mp c_12), eq_true c_13, ↓reduceIte] <;> rfl) | (simp [soN, p_1, p_3, c_5, g_11, c_12, c_13]; done)
          have e_16 : ((soN (ar 24) rp wd k dr x q i_11).2 : Nat → Int32) = (soN (ar 24) rp wd k dr x q (i_11 + 1)).2 := by first | rfl | (simp only [soN, if_neg p_1, if_pos (Int32.not_lt.mp p_1), if_neg p_3, if_pos (Int32.not_le.mp p_3), if_neg c_5, if_neg g_11, if_pos (Int32.not_le.mp g_11), if_neg c_12, if_pos (Int32.not_le.mp c_12), if_pos c_13]; done) | (simp only [soN, eq_false p_1, eq_true (Int32.not_lt.mp p_1), eq_false p_3, eq_true (Int32.not_le.mp p_3), eq_false c_5, eq_false g_11, eq_true (Int32.not_le.mp g_11), eq_false c_12, eq_true (Int32.not_le.mp c_12), eq_true c_13, ↓reduceIte]; done) | (simp only [soN, eq_false p_1, eq_true (Int32.not_lt.mp p_1), eq_false p_3, eq_true (Int32.not_le.mp p_3), eq_false c_5, eq_false g_11, eq_true (Int32.not_le.mp g_11), eq_false c_12, eq_true (Int32.not_le.mp c_12), eq_true c_13, ↓reduceIte] <;> rfl) | (simp [soN, p_1, p_3, c_5, g_11, c_12, c_13]; done)
          refine v_cong (es' := (wl D b sc (va_up (va_up ar 19 (soN (ar 24) rp wd k dr x q (i_11 + 1)).1) 20 (soN (ar 24) rp wd k dr x q (i_11 + 1)).2) hn mh G)) (lv' := [(4, .int (nI (i_11 + 1))), (0, .ref (b + 18)), (1, .ref (b + qs)), (2, .ref (b + (u + 40))), (3, .int x)]) (cg2 (fun (y0 : Nat → Int32) (y1 : Nat → Int32) => wl D b sc (va_up (va_up ar 19 y0) 20 y1) hn mh G) e_15 e_16) (cg1 (fun (z0 : Int32) => ([(4, .int z0), (0, .ref (b + 18)), (1, .ref (b + qs)), (2, .ref (b + (u + 40))), (3, .int x)] : List (Nat × Value))) e_14) ?_
          exact ih_11
        · skip
          refine v_aload_n (n := 40) C dX0_sailOnFrom_39 rfl rfl rfl ?_
          refine v_get (n := 43) C dX0_sailOnFrom_40 rfl fl_X0_15_X0 wl_c18 rfl ?_
          refine v_iload_n (n := 44) C dX0_sailOnFrom_43 rfl rfl rfl ?_
          refine v_iald (n := 45) C dX0_sailOnFrom_44 rfl (show (wl D b sc (va_up (va_up ar 19 (soN (ar 24) rp wd k dr x q i_11).1) 20 (soN (ar 24) rp wd k dr x q i_11).2) hn mh G)[20]? = some (.inl (D.1 13, 12, .inl (soN (ar 24) rp wd k dr x q i_11).2)) from wl_c20) (vp_b (Int32.not_lt.mp p_1) (Int32.not_le.mp p_3) (by decide)) ?_
          refine v_iconst (n := 46) (v := -1) C dX0_sailOnFrom_45 rfl (by decide) ?_
          refine v_icmp_ne (t := 54) (n := 49) C dX0_sailOnFrom_46 (by decide) rfl (fun c_17 => ?_) (fun c_17 => ?_)
          · skip
            refine v_aload_n (n := 55) C dX0_sailOnFrom_54 rfl rfl rfl ?_
            refine v_get (n := 58) C dX0_sailOnFrom_55 rfl fl_X0_15_X0 wl_c18 rfl ?_
            refine v_iload_n (n := 59) C dX0_sailOnFrom_58 rfl rfl rfl ?_
            refine v_iald (n := 60) C dX0_sailOnFrom_59 rfl (show (wl D b sc (va_up (va_up ar 19 (soN (ar 24) rp wd k dr x q i_11).1) 20 (soN (ar 24) rp wd k dr x q i_11).2) hn mh G)[20]? = some (.inl (D.1 13, 12, .inl (soN (ar 24) rp wd k dr x q i_11).2)) from wl_c20) (vp_b (Int32.not_lt.mp p_1) (Int32.not_le.mp p_3) (by decide)) ?_
            refine v_istore (n := 62) (lv' := [(6, .int ((soN (ar 24) rp wd k dr x q i_11).2 (Int32.toNatClampNeg x))), (5, .int (htF (ar 24) rp wd k dr x (nI i_11) ((soN (ar 24) rp wd k dr x q i_11).1 (Int32.toNatClampNeg x)))), (4, .int (nI i_11)), (0, .ref (b + 18)), (1, .ref (b + qs)), (2, .ref (b + (u + 40))), (3, .int x)]) C dX0_sailOnFrom_60 rfl (Nat.le_of_ble_eq_true rfl) rfl ?_
            refine v_aload_n (n := 63) C dX0_sailOnFrom_62 rfl rfl rfl ?_
            refine v_iload_n (n := 64) C dX0_sailOnFrom_63 rfl rfl rfl ?_
            refine v_iload (n := 66) C dX0_sailOnFrom_64 rfl rfl ?_
            refine v_go (n := 69) C (vRun_SN (As := [.int x, .int (nI i_11)]) (rest := [.ref (b + 18)]) C lk_X0_36 st_X11_beside dX0_sailOnFrom_66 (c_beside l D b (wl D b sc (va_up (va_up ar 19 (soN (ar 24) rp wd k dr x q i_11).1) 20 (soN (ar 24) rp wd k dr x q i_11).2) hn mh G) x (nI i_11)) wm_X11_beside rfl rfl ⟨Nat.le_of_ble_eq_true rfl, Nat.le_of_ble_eq_true rfl⟩ ⟨Nat.le_of_ble_eq_true rfl, Nat.le_of_ble_eq_true rfl⟩ (Nat.le_of_ble_eq_true rfl)) rfl ?_
            rintro _ _ ⟨rfl, rfl⟩ -
            refine v_aload_n (n := 70) C dX0_sailOnFrom_69 rfl rfl rfl ?_
            refine v_get (n := 73) C dX0_sailOnFrom_70 rfl fl_X0_9_X0 wl_c18 rfl ?_
            refine v_iload_n (n := 74) C dX0_sailOnFrom_73 rfl rfl rfl ?_
            refine v_iald (n := 75) C dX0_sailOnFrom_74 rfl (show (wl D b sc (va_up (va_up ar 19 (soN (ar 24) rp wd k dr x q i_11).1) 20 (soN (ar 24) rp wd k dr x q i_11).2) hn mh G)[19]? = some (.inl (D.1 13, 12, .inl (soN (ar 24) rp wd k dr x q i_11).1)) from wl_c19) (vp_b (Int32.not_lt.mp p_1) (Int32.not_le.mp p_3) (by decide)) ?_
            refine v_iload (n := 77) C dX0_sailOnFrom_75 rfl rfl ?_
            refine v_iadd (n := 78) C dX0_sailOnFrom_77 rfl ?_
            refine v_iload (n := 80) C dX0_sailOnFrom_78 rfl rfl ?_
            refine v_go (n := 83) C (vRun_V (As := [.int (beF x (nI i_11)), .int (((soN (ar 24) rp wd k dr x q i_11).1 (Int32.toNatClampNeg x)) + (htF (ar 24) rp wd k dr x (nI i_11) ((soN (ar 24) rp wd k dr x q i_11).1 (Int32.toNatClampNeg x)))), .int ((soN (ar 24) rp wd k dr x q i_11).2 (Int32.toNatClampNeg x))]) (rest := []) C wl_c18 rfl lk_X0_40 im_X0_arrive se_X0_arrive dX0_sailOnFrom_80 (c_arrive l D b sc ar hn mh G (soN (ar 24) rp wd k dr x q i_11) (beF x (nI i_11)) (((soN (ar 24) rp wd k dr x q i_11).1 (Int32.toNatClampNeg x)) + (htF (ar 24) rp wd k dr x (nI i_11) ((soN (ar 24) rp wd k dr x q i_11).1 (Int32.toNatClampNeg x)))) ((soN (ar 24) rp wd k dr x q i_11).2 (Int32.toNatClampNeg x))) wm_X0_arrive rfl rfl ⟨Nat.le_of_ble_eq_true rfl, Nat.le_of_ble_eq_true rfl⟩ ⟨Nat.le_of_ble_eq_true rfl, Nat.le_of_ble_eq_true rfl⟩ (Nat.le_of_ble_eq_true rfl)) rfl ?_
            rintro _ _ ⟨rfl, rfl⟩ -
            refine v_iinc (n := 86) (v := ((nI i_11) + 1)) (lv' := [(4, .int ((nI i_11) + 1)), (6, .int ((soN (ar 24) rp wd k dr x q i_11).2 (Int32.toNatClampNeg x))), (5, .int (htF (ar 24) rp wd k dr x (nI i_11) ((soN (ar 24) rp wd k dr x q i_11).1 (Int32.toNatClampNeg x)))), (0, .ref (b + 18)), (1, .ref (b + qs)), (2, .ref (b + (u + 40))), (3, .int x)]) C dX0_sailOnFrom_83 rfl rfl rfl (Nat.le_of_ble_eq_true rfl) rfl ?_
            refine v_goto (t := 11) C dX0_sailOnFrom_86 (by decide) ?_
            refine v_pick (lv' := [(4, .int ((nI i_11) + 1)), (0, .ref (b + 18)), (1, .ref (b + qs)), (2, .ref (b + (u + 40))), (3, .int x)]) [0, 3, 4, 5, 6] rfl ?_
            have e_18 : ((nI i_11) + 1) = (nI (i_11 + 1)) := nI_1 _
            have e_19 : ((arS (soN (ar 24) rp wd k dr x q i_11) (beF x (nI i_11)) (((soN (ar 24) rp wd k dr x q i_11).1 (Int32.toNatClampNeg x)) + (htF (ar 24) rp wd k dr x (nI i_11) ((soN (ar 24) rp wd k dr x q i_11).1 (Int32.toNatClampNeg x)))) ((soN (ar 24) rp wd k dr x q i_11).2 (Int32.toNatClampNeg x))).1 : Nat → Int32) = (soN (ar 24) rp wd k dr x q (i_11 + 1)).1 := by first | rfl | (simp only [soN, if_neg p_1, if_pos (Int32.not_lt.mp p_1), if_neg p_3, if_pos (Int32.not_le.mp p_3), if_neg c_5, if_neg g_11, if_pos (Int32.not_le.mp g_11), if_neg c_12, if_pos (Int32.not_le.mp c_12), if_neg c_13, if_neg c_17]; done) | (simp only [soN, eq_false p_1, eq_true (Int32.not_lt.mp p_1), eq_false p_3, eq_true (Int32.not_le.mp p_3), eq_false c_5, eq_false g_11, eq_true (Int32.not_le.mp g_11), eq_false c_12, eq_true (Int32.not_le.mp c_12), eq_false c_13, eq_false c_17, ↓reduceIte]; done) | (simp only [soN, eq_false p_1, eq_true (Int32.not_lt.mp p_1), eq_false p_3, eq_true (Int32.not_le.mp p_3), eq_false c_5, eq_false g_11, eq_true (Int32.not_le.mp g_11), eq_false c_12, eq_true (Int32.not_le.mp c_12), eq_false c_13, eq_false c_17, ↓reduceIte] <;> rfl) | (simp [soN, p_1, p_3, c_5, g_11, c_12, c_13, c_17]; done)
            have e_20 : ((arS (soN (ar 24) rp wd k dr x q i_11) (beF x (nI i_11)) (((soN (ar 24) rp wd k dr x q i_11).1 (Int32.toNatClampNeg x)) + (htF (ar 24) rp wd k dr x (nI i_11) ((soN (ar 24) rp wd k dr x q i_11).1 (Int32.toNatClampNeg x)))) ((soN (ar 24) rp wd k dr x q i_11).2 (Int32.toNatClampNeg x))).2 : Nat → Int32) = (soN (ar 24) rp wd k dr x q (i_11 + 1)).2 := by first | rfl | (simp only [soN, if_neg p_1, if_pos (Int32.not_lt.mp p_1), if_neg p_3, if_pos (Int32.not_le.mp p_3), if_neg c_5, if_neg g_11, if_pos (Int32.not_le.mp g_11), if_neg c_12, if_pos (Int32.not_le.mp c_12), if_neg c_13, if_neg c_17]; done) | (simp only [soN, eq_false p_1, eq_true (Int32.not_lt.mp p_1), eq_false p_3, eq_true (Int32.not_le.mp p_3), eq_false c_5, eq_false g_11, eq_true (Int32.not_le.mp g_11), eq_false c_12, eq_true (Int32.not_le.mp c_12), eq_false c_13, eq_false c_17, ↓reduceIte]; done) | (simp only [soN, eq_false p_1, eq_true (Int32.not_lt.mp p_1), eq_false p_3, eq_true (Int32.not_le.mp p_3), eq_false c_5, eq_false g_11, eq_true (Int32.not_le.mp g_11), eq_false c_12, eq_true (Int32.not_le.mp c_12), eq_false c_13, eq_false c_17, ↓reduceIte] <;> rfl) | (simp [soN, p_1, p_3, c_5, g_11, c_12, c_13, c_17]; done)
            refine v_cong (es' := (wl D b sc (va_up (va_up ar 19 (soN (ar 24) rp wd k dr x q (i_11 + 1)).1) 20 (soN (ar 24) rp wd k dr x q (i_11 + 1)).2) hn mh G)) (lv' := [(4, .int (nI (i_11 + 1))), (0, .ref (b + 18)), (1, .ref (b + qs)), (2, .ref (b + (u + 40))), (3, .int x)]) (cg2 (fun (y0 : Nat → Int32) (y1 : Nat → Int32) => wl D b sc (va_up (va_up ar 19 y0) 20 y1) hn mh G) e_19 e_20) (cg1 (fun (z0 : Int32) => ([(4, .int z0), (0, .ref (b + 18)), (1, .ref (b + qs)), (2, .ref (b + (u + 40))), (3, .int x)] : List (Nat × Value))) e_18) ?_
            exact ih_11
          · skip
            refine v_iload (n := 51) C dX0_sailOnFrom_49 rfl rfl ?_
            refine v_goto (t := 60) C dX0_sailOnFrom_51 (by decide) ?_
            refine v_istore (n := 62) (lv' := [(6, .int (nI i_11)), (5, .int (htF (ar 24) rp wd k dr x (nI i_11) ((soN (ar 24) rp wd k dr x q i_11).1 (Int32.toNatClampNeg x)))), (4, .int (nI i_11)), (0, .ref (b + 18)), (1, .ref (b + qs)), (2, .ref (b + (u + 40))), (3, .int x)]) C dX0_sailOnFrom_60 rfl (Nat.le_of_ble_eq_true rfl) rfl ?_
            refine v_aload_n (n := 63) C dX0_sailOnFrom_62 rfl rfl rfl ?_
            refine v_iload_n (n := 64) C dX0_sailOnFrom_63 rfl rfl rfl ?_
            refine v_iload (n := 66) C dX0_sailOnFrom_64 rfl rfl ?_
            refine v_go (n := 69) C (vRun_SN (As := [.int x, .int (nI i_11)]) (rest := [.ref (b + 18)]) C lk_X0_36 st_X11_beside dX0_sailOnFrom_66 (c_beside l D b (wl D b sc (va_up (va_up ar 19 (soN (ar 24) rp wd k dr x q i_11).1) 20 (soN (ar 24) rp wd k dr x q i_11).2) hn mh G) x (nI i_11)) wm_X11_beside rfl rfl ⟨Nat.le_of_ble_eq_true rfl, Nat.le_of_ble_eq_true rfl⟩ ⟨Nat.le_of_ble_eq_true rfl, Nat.le_of_ble_eq_true rfl⟩ (Nat.le_of_ble_eq_true rfl)) rfl ?_
            rintro _ _ ⟨rfl, rfl⟩ -
            refine v_aload_n (n := 70) C dX0_sailOnFrom_69 rfl rfl rfl ?_
            refine v_get (n := 73) C dX0_sailOnFrom_70 rfl fl_X0_9_X0 wl_c18 rfl ?_
            refine v_iload_n (n := 74) C dX0_sailOnFrom_73 rfl rfl rfl ?_
            refine v_iald (n := 75) C dX0_sailOnFrom_74 rfl (show (wl D b sc (va_up (va_up ar 19 (soN (ar 24) rp wd k dr x q i_11).1) 20 (soN (ar 24) rp wd k dr x q i_11).2) hn mh G)[19]? = some (.inl (D.1 13, 12, .inl (soN (ar 24) rp wd k dr x q i_11).1)) from wl_c19) (vp_b (Int32.not_lt.mp p_1) (Int32.not_le.mp p_3) (by decide)) ?_
            refine v_iload (n := 77) C dX0_sailOnFrom_75 rfl rfl ?_
            refine v_iadd (n := 78) C dX0_sailOnFrom_77 rfl ?_
            refine v_iload (n := 80) C dX0_sailOnFrom_78 rfl rfl ?_
            refine v_go (n := 83) C (vRun_V (As := [.int (beF x (nI i_11)), .int (((soN (ar 24) rp wd k dr x q i_11).1 (Int32.toNatClampNeg x)) + (htF (ar 24) rp wd k dr x (nI i_11) ((soN (ar 24) rp wd k dr x q i_11).1 (Int32.toNatClampNeg x)))), .int (nI i_11)]) (rest := []) C wl_c18 rfl lk_X0_40 im_X0_arrive se_X0_arrive dX0_sailOnFrom_80 (c_arrive l D b sc ar hn mh G (soN (ar 24) rp wd k dr x q i_11) (beF x (nI i_11)) (((soN (ar 24) rp wd k dr x q i_11).1 (Int32.toNatClampNeg x)) + (htF (ar 24) rp wd k dr x (nI i_11) ((soN (ar 24) rp wd k dr x q i_11).1 (Int32.toNatClampNeg x)))) (nI i_11)) wm_X0_arrive rfl rfl ⟨Nat.le_of_ble_eq_true rfl, Nat.le_of_ble_eq_true rfl⟩ ⟨Nat.le_of_ble_eq_true rfl, Nat.le_of_ble_eq_true rfl⟩ (Nat.le_of_ble_eq_true rfl)) rfl ?_
            rintro _ _ ⟨rfl, rfl⟩ -
            refine v_iinc (n := 86) (v := ((nI i_11) + 1)) (lv' := [(4, .int ((nI i_11) + 1)), (6, .int (nI i_11)), (5, .int (htF (ar 24) rp wd k dr x (nI i_11) ((soN (ar 24) rp wd k dr x q i_11).1 (Int32.toNatClampNeg x)))), (0, .ref (b + 18)), (1, .ref (b + qs)), (2, .ref (b + (u + 40))), (3, .int x)]) C dX0_sailOnFrom_83 rfl rfl rfl (Nat.le_of_ble_eq_true rfl) rfl ?_
            refine v_goto (t := 11) C dX0_sailOnFrom_86 (by decide) ?_
            refine v_pick (lv' := [(4, .int ((nI i_11) + 1)), (0, .ref (b + 18)), (1, .ref (b + qs)), (2, .ref (b + (u + 40))), (3, .int x)]) [0, 3, 4, 5, 6] rfl ?_
            have e_21 : ((nI i_11) + 1) = (nI (i_11 + 1)) := nI_1 _
            have e_22 : ((arS (soN (ar 24) rp wd k dr x q i_11) (beF x (nI i_11)) (((soN (ar 24) rp wd k dr x q i_11).1 (Int32.toNatClampNeg x)) + (htF (ar 24) rp wd k dr x (nI i_11) ((soN (ar 24) rp wd k dr x q i_11).1 (Int32.toNatClampNeg x)))) (nI i_11)).1 : Nat → Int32) = (soN (ar 24) rp wd k dr x q (i_11 + 1)).1 := by first | rfl | (simp only [soN, if_neg p_1, if_pos (Int32.not_lt.mp p_1), if_neg p_3, if_pos (Int32.not_le.mp p_3), if_neg c_5, if_neg g_11, if_pos (Int32.not_le.mp g_11), if_neg c_12, if_pos (Int32.not_le.mp c_12), if_neg c_13, if_pos c_17]; done) | (simp only [soN, eq_false p_1, eq_true (Int32.not_lt.mp p_1), eq_false p_3, eq_true (Int32.not_le.mp p_3), eq_false c_5, eq_false g_11, eq_true (Int32.not_le.mp g_11), eq_false c_12, eq_true (Int32.not_le.mp c_12), eq_false c_13, eq_true c_17, ↓reduceIte]; done) | (simp only [soN, eq_false p_1, eq_true (Int32.not_lt.mp p_1), eq_false p_3, eq_true (Int32.not_le.mp p_3), eq_false c_5, eq_false g_11, eq_true (Int32.not_le.mp g_11), eq_false c_12, eq_true (Int32.not_le.mp c_12), eq_false c_13, eq_true c_17, ↓reduceIte] <;> rfl) | (simp [soN, p_1, p_3, c_5, g_11, c_12, c_13, c_17]; done)
            have e_23 : ((arS (soN (ar 24) rp wd k dr x q i_11) (beF x (nI i_11)) (((soN (ar 24) rp wd k dr x q i_11).1 (Int32.toNatClampNeg x)) + (htF (ar 24) rp wd k dr x (nI i_11) ((soN (ar 24) rp wd k dr x q i_11).1 (Int32.toNatClampNeg x)))) (nI i_11)).2 : Nat → Int32) = (soN (ar 24) rp wd k dr x q (i_11 + 1)).2 := by first | rfl | (simp only [soN, if_neg p_1, if_pos (Int32.not_lt.mp p_1), if_neg p_3, if_pos (Int32.not_le.mp p_3), if_neg c_5, if_neg g_11, if_pos (Int32.not_le.mp g_11), if_neg c_12, if_pos (Int32.not_le.mp c_12), if_neg c_13, if_pos c_17]; done) | (simp only [soN, eq_false p_1, eq_true (Int32.not_lt.mp p_1), eq_false p_3, eq_true (Int32.not_le.mp p_3), eq_false c_5, eq_false g_11, eq_true (Int32.not_le.mp g_11), eq_false c_12, eq_true (Int32.not_le.mp c_12), eq_false c_13, eq_true c_17, ↓reduceIte]; done) | (simp only [soN, eq_false p_1, eq_true (Int32.not_lt.mp p_1), eq_false p_3, eq_true (Int32.not_le.mp p_3), eq_false c_5, eq_false g_11, eq_true (Int32.not_le.mp g_11), eq_false c_12, eq_true (Int32.not_le.mp c_12), eq_false c_13, eq_true c_17, ↓reduceIte] <;> rfl) | (simp [soN, p_1, p_3, c_5, g_11, c_12, c_13, c_17]; done)
            refine v_cong (es' := (wl D b sc (va_up (va_up ar 19 (soN (ar 24) rp wd k dr x q (i_11 + 1)).1) 20 (soN (ar 24) rp wd k dr x q (i_11 + 1)).2) hn mh G)) (lv' := [(4, .int (nI (i_11 + 1))), (0, .ref (b + 18)), (1, .ref (b + qs)), (2, .ref (b + (u + 40))), (3, .int x)]) (cg2 (fun (y0 : Nat → Int32) (y1 : Nat → Int32) => wl D b sc (va_up (va_up ar 19 y0) 20 y1) hn mh G) e_22 e_23) (cg1 (fun (z0 : Int32) => ([(4, .int z0), (0, .ref (b + 18)), (1, .ref (b + qs)), (2, .ref (b + (u + 40))), (3, .int x)] : List (Nat × Value))) e_21) ?_
            exact ih_11
  · exact absurd c_5 (by decide)
set_option maxHeartbeats 4000000 in
set_option maxRecDepth 100000 in
theorem c_soonestOpen (l : Launch) (D : va_G) (b : Nat) (sc : Nat → Int32) (ar : Nat → Nat → Int32) (hn : Nat → Option Nat) (mh : Int64) (G : List va_E) (sd : Int32) : Con l yX0_soonestOpen cX0_soonestOpen 5 (some .int) 0 0 D b 0 0 (wl D b sc ar hn mh G) [.ref (b + 18), .int sd] (fun r es' => r = some (.int (spN (ar 19) sd 12)) ∧ (wl D b sc ar hn mh G) = es') := by
  refine con_of (by decide) (Nat.le_of_ble_eq_true rfl) (fun p e s m args below meth c C hsz => ?_)
  have C : vC p s m args meth c cX0_soonestOpen 5 RX0 "soonestOpen" (some .int) D b := C
  change V p l e _ s m args below meth c D b 5 _ 0 0 (wl D b sc ar hn mh G) [(0, .ref (b + 18)), (1, .int sd)] [] 0
  refine v_iconst (n := 1) (v := -1) C dX0_soonestOpen_0 rfl (by decide) ?_
  refine v_istore_n (n := 2) (lv' := [(2, .int (-1)), (0, .ref (b + 18)), (1, .int sd)]) C dX0_soonestOpen_1 rfl rfl (Nat.le_of_ble_eq_true rfl) rfl ?_
  refine v_iconst (n := 3) (v := 0) C dX0_soonestOpen_2 rfl (by decide) ?_
  refine v_istore_n (n := 4) (lv' := [(3, .int 0), (2, .int (-1)), (0, .ref (b + 18)), (1, .int sd)]) C dX0_soonestOpen_3 rfl rfl (Nat.le_of_ble_eq_true rfl) rfl ?_
  refine v_pick (lv' := [(3, .int 0), (0, .ref (b + 18)), (1, .int sd), (2, .int (-1))]) [0, 2, 3, 1] rfl ?_
  have e_1 : (0 : Int32) = (nI 0) := rfl
  have e_2 : ((-1) : Int32) = (spN (ar 19) sd 0) := by first | rfl | (simp only [spN]; done) | (simp only [spN, ↓reduceIte]; done) | (simp only [spN, ↓reduceIte] <;> rfl) | (simp [spN]; done)
  refine v_cong (es' := (wl D b sc ar hn mh G)) (lv' := [(3, .int (nI 0)), (0, .ref (b + 18)), (1, .int sd), (2, .int (spN (ar 19) sd 0))]) rfl (cg2 (fun (z0 : Int32) (z1 : Int32) => ([(3, .int z0), (0, .ref (b + 18)), (1, .int sd), (2, .int z1)] : List (Nat × Value))) e_1 e_2) ?_
  refine loop_dn (P := fun i_4 => V p l e { frames := 0, cells := 0, slots := 0, locals := 0 } s m args below meth c D b 5 (MQ below (cQ D b 0 (fun r es' => r = some (.int (spN (ar 19) sd 12)) ∧ (wl D b sc ar hn mh G) = es')) args s 0 0 (fun q => b ≤ q)) 0 0 (wl D b sc ar hn mh G) [(3, .int (nI i_4)), (0, .ref (b + 18)), (1, .int sd), (2, .int (spN (ar 19) sd i_4))] [] 4) 12 ?_ (fun i_4 hi_4 ih_4 => ?_)
  · skip
    have g_3 : (12 : Int32) ≤ (nI 12) := by decide
    refine v_iload_n (n := 5) C dX0_soonestOpen_4 rfl rfl rfl ?_
    refine v_bipush (n := 7) (v := 12) C dX0_soonestOpen_5 rfl (by decide) ?_
    refine v_icmp_ge (t := 68) (n := 10) C dX0_soonestOpen_7 (by decide) rfl (fun c_4 => ?_) (fun c_4 => ?_)
    · skip
      refine v_iload_n (n := 69) C dX0_soonestOpen_68 rfl rfl rfl ?_
      exact v_iret C dX0_soonestOpen_69 rfl rfl ⟨by first | rfl | (simp only [spN, if_pos g_3, if_neg (Int32.not_lt.mpr g_3), if_pos c_4, if_neg (Int32.not_lt.mpr c_4)]; done) | (simp only [spN, eq_true g_3, eq_false (Int32.not_lt.mpr g_3), eq_true c_4, eq_false (Int32.not_lt.mpr c_4), ↓reduceIte]; done) | (simp only [spN, eq_true g_3, eq_false (Int32.not_lt.mpr g_3), eq_true c_4, eq_false (Int32.not_lt.mpr c_4), ↓reduceIte] <;> rfl) | (simp [spN, g_3, c_4]; done), rfl⟩
    · first | exact absurd c_4 g_3 | exact absurd g_3 c_4 | exact absurd c_4 (Int32.not_le.mpr g_3) | exact absurd c_4 (Int32.not_lt.mpr g_3) | exact absurd (Int32.not_le.mp g_3) c_4 | exact absurd (Int32.not_lt.mp g_3) c_4 | exact absurd (Int32.not_le.mp g_3) (Int32.not_lt.mpr c_4) | exact absurd (Int32.not_lt.mp g_3) (Int32.not_le.mpr c_4) | exact absurd (Int32.not_lt.mp c_4) (Int32.not_le.mpr (Int32.not_le.mp g_3))
  · skip
    have g_5 : ¬ (12 : Int32) ≤ (nI i_4) := nI_ge (a := i_4 + 0) (b := 12) (by omega) (by decide)
    refine v_iload_n (n := 5) C dX0_soonestOpen_4 rfl rfl rfl ?_
    refine v_bipush (n := 7) (v := 12) C dX0_soonestOpen_5 rfl (by decide) ?_
    refine v_icmp_ge (t := 68) (n := 10) C dX0_soonestOpen_7 (by decide) rfl (fun c_6 => ?_) (fun c_6 => ?_)
    · first | exact absurd c_6 g_5 | exact absurd g_5 c_6 | exact absurd c_6 (Int32.not_le.mpr g_5) | exact absurd c_6 (Int32.not_lt.mpr g_5) | exact absurd (Int32.not_le.mp g_5) c_6 | exact absurd (Int32.not_lt.mp g_5) c_6 | exact absurd (Int32.not_le.mp g_5) (Int32.not_lt.mpr c_6) | exact absurd (Int32.not_lt.mp g_5) (Int32.not_le.mpr c_6) | exact absurd (Int32.not_lt.mp c_6) (Int32.not_le.mpr (Int32.not_le.mp g_5))
    · skip
      refine v_iload_n (n := 11) C dX0_soonestOpen_10 rfl rfl rfl ?_
      refine v_iload_n (n := 12) C dX0_soonestOpen_11 rfl rfl rfl ?_
      refine v_ishr (n := 13) C dX0_soonestOpen_12 rfl ?_
      refine v_iconst (n := 14) (v := 1) C dX0_soonestOpen_13 rfl (by decide) ?_
      refine v_iand (n := 15) C dX0_soonestOpen_14 rfl ?_
      refine v_if_ne (t := 32) (n := 18) C dX0_soonestOpen_15 (by decide) rfl (fun c_7 => ?_) (fun c_7 => ?_)
      · skip
        refine v_iconst (n := 33) (v := 0) C dX0_soonestOpen_32 rfl (by decide) ?_
        refine v_istore (n := 35) (lv' := [(4, .int 0), (3, .int (nI i_4)), (0, .ref (b + 18)), (1, .int sd), (2, .int (spN (ar 19) sd i_4))]) C dX0_soonestOpen_33 rfl (Nat.le_of_ble_eq_true rfl) rfl ?_
        refine v_iload (n := 37) C dX0_soonestOpen_35 rfl rfl ?_
        refine v_if_eq (t := 62) (n := 40) C dX0_soonestOpen_37 (by decide) rfl (fun c_8 => ?_) (fun c_8 => ?_)
        · skip
          refine v_iinc (n := 65) (v := ((nI i_4) + 1)) (lv' := [(3, .int ((nI i_4) + 1)), (4, .int 0), (0, .ref (b + 18)), (1, .int sd), (2, .int (spN (ar 19) sd i_4))]) C dX0_soonestOpen_62 rfl rfl rfl (Nat.le_of_ble_eq_true rfl) rfl ?_
          refine v_goto (t := 4) C dX0_soonestOpen_65 (by decide) ?_
          refine v_pick (lv' := [(3, .int ((nI i_4) + 1)), (0, .ref (b + 18)), (1, .int sd), (2, .int (spN (ar 19) sd i_4))]) [0, 2, 3, 4] rfl ?_
          have e_9 : ((nI i_4) + 1) = (nI (i_4 + 1)) := nI_1 _
          have e_10 : ((spN (ar 19) sd i_4) : Int32) = (spN (ar 19) sd (i_4 + 1)) := by first | rfl | (simp only [spN, if_neg g_5, if_pos (Int32.not_le.mp g_5), if_neg c_6, if_pos (Int32.not_le.mp c_6), if_neg c_7, if_pos c_8]; done) | (simp only [spN, eq_false g_5, eq_true (Int32.not_le.mp g_5), eq_false c_6, eq_true (Int32.not_le.mp c_6), eq_false c_7, eq_true c_8, ↓reduceIte]; done) | (simp only [spN, eq_false g_5, eq_true (Int32.not_le.mp g_5), eq_false c_6, eq_true (Int32.not_le.mp c_6), eq_false c_7, eq_true c_8, ↓reduceIte] <;> rfl) | (simp [spN, g_5, c_6, c_7, c_8]; done)
          refine v_cong (es' := (wl D b sc ar hn mh G)) (lv' := [(3, .int (nI (i_4 + 1))), (0, .ref (b + 18)), (1, .int sd), (2, .int (spN (ar 19) sd (i_4 + 1)))]) rfl (cg2 (fun (z0 : Int32) (z1 : Int32) => ([(3, .int z0), (0, .ref (b + 18)), (1, .int sd), (2, .int z1)] : List (Nat × Value))) e_9 e_10) ?_
          exact ih_4
        · exact absurd c_8 (by decide)
      · skip
        refine v_aload_n (n := 19) C dX0_soonestOpen_18 rfl rfl rfl ?_
        refine v_get (n := 22) C dX0_soonestOpen_19 rfl fl_X0_9_X0 wl_c18 rfl ?_
        refine v_iload_n (n := 23) C dX0_soonestOpen_22 rfl rfl rfl ?_
        refine v_iald (n := 24) C dX0_soonestOpen_23 rfl wl_c19 (nI_vp hi_4 (by decide) (by decide)) ?_
        refine v_stk (st' := .int ((ar 19) i_4) :: []) (congrArg (fun z : Nat => Value.int ((ar 19) z) :: []) (nI_clamp (show i_4 < 2 ^ 31 by omega))) ?_
        refine v_iconst (n := 25) (v := -1) C dX0_soonestOpen_24 rfl (by decide) ?_
        refine v_icmp_eq (t := 32) (n := 28) C dX0_soonestOpen_25 (by decide) rfl (fun c_11 => ?_) (fun c_11 => ?_)
        · skip
          refine v_iconst (n := 33) (v := 0) C dX0_soonestOpen_32 rfl (by decide) ?_
          refine v_istore (n := 35) (lv' := [(4, .int 0), (3, .int (nI i_4)), (0, .ref (b + 18)), (1, .int sd), (2, .int (spN (ar 19) sd i_4))]) C dX0_soonestOpen_33 rfl (Nat.le_of_ble_eq_true rfl) rfl ?_
          refine v_iload (n := 37) C dX0_soonestOpen_35 rfl rfl ?_
          refine v_if_eq (t := 62) (n := 40) C dX0_soonestOpen_37 (by decide) rfl (fun c_12 => ?_) (fun c_12 => ?_)
          · skip
            refine v_iinc (n := 65) (v := ((nI i_4) + 1)) (lv' := [(3, .int ((nI i_4) + 1)), (4, .int 0), (0, .ref (b + 18)), (1, .int sd), (2, .int (spN (ar 19) sd i_4))]) C dX0_soonestOpen_62 rfl rfl rfl (Nat.le_of_ble_eq_true rfl) rfl ?_
            refine v_goto (t := 4) C dX0_soonestOpen_65 (by decide) ?_
            refine v_pick (lv' := [(3, .int ((nI i_4) + 1)), (0, .ref (b + 18)), (1, .int sd), (2, .int (spN (ar 19) sd i_4))]) [0, 2, 3, 4] rfl ?_
            have e_13 : ((nI i_4) + 1) = (nI (i_4 + 1)) := nI_1 _
            have e_14 : ((spN (ar 19) sd i_4) : Int32) = (spN (ar 19) sd (i_4 + 1)) := by first | rfl | (simp only [spN, if_neg g_5, if_pos (Int32.not_le.mp g_5), if_neg c_6, if_pos (Int32.not_le.mp c_6), if_pos c_7, if_pos c_11, if_pos c_12]; done) | (simp only [spN, eq_false g_5, eq_true (Int32.not_le.mp g_5), eq_false c_6, eq_true (Int32.not_le.mp c_6), eq_true c_7, eq_true c_11, eq_true c_12, ↓reduceIte]; done) | (simp only [spN, eq_false g_5, eq_true (Int32.not_le.mp g_5), eq_false c_6, eq_true (Int32.not_le.mp c_6), eq_true c_7, eq_true c_11, eq_true c_12, ↓reduceIte] <;> rfl) | (simp [spN, g_5, c_6, c_7, c_11, c_12]; done)
            refine v_cong (es' := (wl D b sc ar hn mh G)) (lv' := [(3, .int (nI (i_4 + 1))), (0, .ref (b + 18)), (1, .int sd), (2, .int (spN (ar 19) sd (i_4 + 1)))]) rfl (cg2 (fun (z0 : Int32) (z1 : Int32) => ([(3, .int z0), (0, .ref (b + 18)), (1, .int sd), (2, .int z1)] : List (Nat × Value))) e_13 e_14) ?_
            exact ih_4
          · exact absurd c_12 (by decide)
        · skip
          refine v_iconst (n := 29) (v := 1) C dX0_soonestOpen_28 rfl (by decide) ?_
          refine v_goto (t := 33) C dX0_soonestOpen_29 (by decide) ?_
          refine v_istore (n := 35) (lv' := [(4, .int 1), (3, .int (nI i_4)), (0, .ref (b + 18)), (1, .int sd), (2, .int (spN (ar 19) sd i_4))]) C dX0_soonestOpen_33 rfl (Nat.le_of_ble_eq_true rfl) rfl ?_
          refine v_iload (n := 37) C dX0_soonestOpen_35 rfl rfl ?_
          refine v_if_eq (t := 62) (n := 40) C dX0_soonestOpen_37 (by decide) rfl (fun c_15 => ?_) (fun c_15 => ?_)
          · exact absurd c_15 (by decide)
          · skip
            refine v_iload_n (n := 41) C dX0_soonestOpen_40 rfl rfl rfl ?_
            refine v_iconst (n := 42) (v := -1) C dX0_soonestOpen_41 rfl (by decide) ?_
            refine v_icmp_eq (t := 60) (n := 45) C dX0_soonestOpen_42 (by decide) rfl (fun c_16 => ?_) (fun c_16 => ?_)
            · skip
              refine v_iload_n (n := 61) C dX0_soonestOpen_60 rfl rfl rfl ?_
              refine v_istore_n (n := 62) (lv' := [(2, .int (nI i_4)), (4, .int 1), (3, .int (nI i_4)), (0, .ref (b + 18)), (1, .int sd)]) C dX0_soonestOpen_61 rfl rfl (Nat.le_of_ble_eq_true rfl) rfl ?_
              refine v_iinc (n := 65) (v := ((nI i_4) + 1)) (lv' := [(3, .int ((nI i_4) + 1)), (2, .int (nI i_4)), (4, .int 1), (0, .ref (b + 18)), (1, .int sd)]) C dX0_soonestOpen_62 rfl rfl rfl (Nat.le_of_ble_eq_true rfl) rfl ?_
              refine v_goto (t := 4) C dX0_soonestOpen_65 (by decide) ?_
              refine v_pick (lv' := [(3, .int ((nI i_4) + 1)), (0, .ref (b + 18)), (1, .int sd), (2, .int (nI i_4))]) [0, 3, 4, 1] rfl ?_
              have e_17 : ((nI i_4) + 1) = (nI (i_4 + 1)) := nI_1 _
              have e_18 : ((nI i_4) : Int32) = (spN (ar 19) sd (i_4 + 1)) := by first | rfl | (simp only [spN, if_neg g_5, if_pos (Int32.not_le.mp g_5), if_neg c_6, if_pos (Int32.not_le.mp c_6), if_pos c_7, if_neg c_11, if_neg c_15, if_pos c_16]; done) | (simp only [spN, eq_false g_5, eq_true (Int32.not_le.mp g_5), eq_false c_6, eq_true (Int32.not_le.mp c_6), eq_true c_7, eq_false c_11, eq_false c_15, eq_true c_16, ↓reduceIte]; done) | (simp only [spN, eq_false g_5, eq_true (Int32.not_le.mp g_5), eq_false c_6, eq_true (Int32.not_le.mp c_6), eq_true c_7, eq_false c_11, eq_false c_15, eq_true c_16, ↓reduceIte] <;> rfl) | (simp [spN, g_5, c_6, c_7, c_11, c_15, c_16]; done)
              refine v_cong (es' := (wl D b sc ar hn mh G)) (lv' := [(3, .int (nI (i_4 + 1))), (0, .ref (b + 18)), (1, .int sd), (2, .int (spN (ar 19) sd (i_4 + 1)))]) rfl (cg2 (fun (z0 : Int32) (z1 : Int32) => ([(3, .int z0), (0, .ref (b + 18)), (1, .int sd), (2, .int z1)] : List (Nat × Value))) e_17 e_18) ?_
              exact ih_4
            · skip
              refine v_aload_n (n := 46) C dX0_soonestOpen_45 rfl rfl rfl ?_
              refine v_get (n := 49) C dX0_soonestOpen_46 rfl fl_X0_9_X0 wl_c18 rfl ?_
              refine v_iload_n (n := 50) C dX0_soonestOpen_49 rfl rfl rfl ?_
              refine v_iald (n := 51) C dX0_soonestOpen_50 rfl wl_c19 (nI_vp hi_4 (by decide) (by decide)) ?_
              refine v_stk (st' := .int ((ar 19) i_4) :: []) (congrArg (fun z : Nat => Value.int ((ar 19) z) :: []) (nI_clamp (show i_4 < 2 ^ 31 by omega))) ?_
              refine v_aload_n (n := 52) C dX0_soonestOpen_51 rfl rfl rfl ?_
              refine v_get (n := 55) C dX0_soonestOpen_52 rfl fl_X0_9_X0 wl_c18 rfl ?_
              refine v_iload_n (n := 56) C dX0_soonestOpen_55 rfl rfl rfl ?_
              refine v_iald (n := 57) C dX0_soonestOpen_56 rfl wl_c19 (spN_vp hi_4 c_16) ?_
              refine v_icmp_ge (t := 62) (n := 60) C dX0_soonestOpen_57 (by decide) rfl (fun c_19 => ?_) (fun c_19 => ?_)
              · skip
                refine v_iinc (n := 65) (v := ((nI i_4) + 1)) (lv' := [(3, .int ((nI i_4) + 1)), (4, .int 1), (0, .ref (b + 18)), (1, .int sd), (2, .int (spN (ar 19) sd i_4))]) C dX0_soonestOpen_62 rfl rfl rfl (Nat.le_of_ble_eq_true rfl) rfl ?_
                refine v_goto (t := 4) C dX0_soonestOpen_65 (by decide) ?_
                refine v_pick (lv' := [(3, .int ((nI i_4) + 1)), (0, .ref (b + 18)), (1, .int sd), (2, .int (spN (ar 19) sd i_4))]) [0, 2, 3, 4] rfl ?_
                have e_20 : ((nI i_4) + 1) = (nI (i_4 + 1)) := nI_1 _
                have e_21 : ((spN (ar 19) sd i_4) : Int32) = (spN (ar 19) sd (i_4 + 1)) := by first | rfl | (simp only [spN, if_neg g_5, if_pos (Int32.not_le.mp g_5), if_neg c_6, if_pos (Int32.not_le.mp c_6), if_pos c_7, if_neg c_11, if_neg c_15, if_neg c_16, if_pos c_19, if_neg (Int32.not_lt.mpr c_19)]; done) | (simp only [spN, eq_false g_5, eq_true (Int32.not_le.mp g_5), eq_false c_6, eq_true (Int32.not_le.mp c_6), eq_true c_7, eq_false c_11, eq_false c_15, eq_false c_16, eq_true c_19, eq_false (Int32.not_lt.mpr c_19), ↓reduceIte]; done) | (simp only [spN, eq_false g_5, eq_true (Int32.not_le.mp g_5), eq_false c_6, eq_true (Int32.not_le.mp c_6), eq_true c_7, eq_false c_11, eq_false c_15, eq_false c_16, eq_true c_19, eq_false (Int32.not_lt.mpr c_19), ↓reduceIte] <;> rfl) | (simp [spN, g_5, c_6, c_7, c_11, c_15, c_16, c_19]; done)
                refine v_cong (es' := (wl D b sc ar hn mh G)) (lv' := [(3, .int (nI (i_4 + 1))), (0, .ref (b + 18)), (1, .int sd), (2, .int (spN (ar 19) sd (i_4 + 1)))]) rfl (cg2 (fun (z0 : Int32) (z1 : Int32) => ([(3, .int z0), (0, .ref (b + 18)), (1, .int sd), (2, .int z1)] : List (Nat × Value))) e_20 e_21) ?_
                exact ih_4
              · skip
                refine v_iload_n (n := 61) C dX0_soonestOpen_60 rfl rfl rfl ?_
                refine v_istore_n (n := 62) (lv' := [(2, .int (nI i_4)), (4, .int 1), (3, .int (nI i_4)), (0, .ref (b + 18)), (1, .int sd)]) C dX0_soonestOpen_61 rfl rfl (Nat.le_of_ble_eq_true rfl) rfl ?_
                refine v_iinc (n := 65) (v := ((nI i_4) + 1)) (lv' := [(3, .int ((nI i_4) + 1)), (2, .int (nI i_4)), (4, .int 1), (0, .ref (b + 18)), (1, .int sd)]) C dX0_soonestOpen_62 rfl rfl rfl (Nat.le_of_ble_eq_true rfl) rfl ?_
                refine v_goto (t := 4) C dX0_soonestOpen_65 (by decide) ?_
                refine v_pick (lv' := [(3, .int ((nI i_4) + 1)), (0, .ref (b + 18)), (1, .int sd), (2, .int (nI i_4))]) [0, 3, 4, 1] rfl ?_
                have e_22 : ((nI i_4) + 1) = (nI (i_4 + 1)) := nI_1 _
                have e_23 : ((nI i_4) : Int32) = (spN (ar 19) sd (i_4 + 1)) := by first | rfl | (simp only [spN, if_neg g_5, if_pos (Int32.not_le.mp g_5), if_neg c_6, if_pos (Int32.not_le.mp c_6), if_pos c_7, if_neg c_11, if_neg c_15, if_neg c_16, if_neg c_19, if_pos (Int32.not_le.mp c_19)]; done) | (simp only [spN, eq_false g_5, eq_true (Int32.not_le.mp g_5), eq_false c_6, eq_true (Int32.not_le.mp c_6), eq_true c_7, eq_false c_11, eq_false c_15, eq_false c_16, eq_false c_19, eq_true (Int32.not_le.mp c_19), ↓reduceIte]; done) | (simp only [spN, eq_false g_5, eq_true (Int32.not_le.mp g_5), eq_false c_6, eq_true (Int32.not_le.mp c_6), eq_true c_7, eq_false c_11, eq_false c_15, eq_false c_16, eq_false c_19, eq_true (Int32.not_le.mp c_19), ↓reduceIte] <;> rfl) | (simp [spN, g_5, c_6, c_7, c_11, c_15, c_16, c_19]; done)
                refine v_cong (es' := (wl D b sc ar hn mh G)) (lv' := [(3, .int (nI (i_4 + 1))), (0, .ref (b + 18)), (1, .int sd), (2, .int (spN (ar 19) sd (i_4 + 1)))]) rfl (cg2 (fun (z0 : Int32) (z1 : Int32) => ([(3, .int z0), (0, .ref (b + 18)), (1, .int sd), (2, .int z1)] : List (Nat × Value))) e_22 e_23) ?_
                exact ih_4
