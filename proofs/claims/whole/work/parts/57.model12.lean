/-- the orders of the reference: the j-th hull of the code c, n hulls -/
def od (n c j : Nat) : Nat := c / n ^ (n - 1 - j) % n
def ioB (n c : Nat) : Bool := (List.range n).all (fun v => (List.range n).any (fun j => od n c j == v))
theorem od_lt {n c j : Nat} (h : 0 < n) : od n c j < n := Nat.mod_lt _ h
theorem cop_at {g f : Nat → Int32} : ∀ n j, j < n → copN g f n j = g j := by
  intro n
  induction n with
  | zero => intro j hj; exact absurd hj (Nat.not_lt_zero j)
  | succ n ih =>
    intro j hj
    rw [copN]
    by_cases h : j = n
    · subst h; exact upd_at
    · rw [upd_ne h]; exact ih j (by omega)
def vyg (hi : Nat → Nat) (R W : Nat) (kk dd FF : Nat → Nat) (c k h : Nat) : Int32 := (vyQ hi R W (kk k) (dd k) (FF k) h).1 c
/-- how many come, the hour then: one behind the other -/
def mhpN (g : Nat → Nat → Int32) (o : Nat → Nat) (H : Nat) : Nat → Int32 × Nat
  | 0 => (0, H)
  | j + 1 => if g (o j) (mhpN g o H j).2 = -1 then ((mhpN g o H j).1 + 0, (mhpN g o H j).2) else ((mhpN g o H j).1 + 1, (g (o j) (mhpN g o H j).2).toNatClampNeg)
def mlhN (n : Nat) (g : Nat → Nat → Int32) (H : Nat) : Nat → Int32 × Int32 × Nat
  | 0 => (-1, 0, 0)
  | t + 1 => if ioB n t = true then (if (mlhN n g H t).1 < (mhpN g (od n t) H n).1 then ((mhpN g (od n t) H n).1, nI (mhpN g (od n t) H n).2, t) else
      if (mhpN g (od n t) H n).1 = (mlhN n g H t).1 then (if nI (mhpN g (od n t) H n).2 < (mlhN n g H t).2.1 then ((mhpN g (od n t) H n).1, nI (mhpN g (od n t) H n).2, t) else mlhN n g H t) else mlhN n g H t) else mlhN n g H t
def vgB (g : Nat → Nat → Int32) (n : Nat) : Prop := ∀ k h, k < n → h < 90000 → g k h = -1 ∨ ∃ h', h ≤ h' ∧ h' ≤ h + 48 ∧ g k h = nI h'
theorem mhp_bd {g : Nat → Nat → Int32} {o : Nat → Nat} {n H : Nat} (hg : vgB g n) (ho : ∀ j, o j < n) (hH : H ≤ 999) : ∀ j, j ≤ 3 → H ≤ (mhpN g o H j).2 ∧ (mhpN g o H j).2 ≤ H + 48 * j ∧ ∃ m, m ≤ j ∧ (mhpN g o H j).1 = nI m := by
  intro j
  induction j with
  | zero => intro _; exact ⟨Nat.le_refl _, by show H ≤ H + 48 * 0; omega, 0, Nat.le_refl _, rfl⟩
  | succ j ih =>
    intro hj
    obtain ⟨a, b, m, hm, e⟩ := ih (by omega)
    rw [mhpN]
    by_cases h : g (o j) (mhpN g o H j).2 = -1
    · rw [if_pos h]
      exact ⟨a, by show (mhpN g o H j).2 ≤ _; omega, m, by omega, by show (mhpN g o H j).1 + 0 = _; rw [e]; exact Int32.add_zero _⟩
    · rw [if_neg h]
      rcases hg (o j) (mhpN g o H j).2 (ho j) (by omega) with q | ⟨h', h1, h2, q⟩
      · exact absurd q h
      · have eh : (g (o j) (mhpN g o H j).2).toNatClampNeg = h' := by rw [q]; exact nI_clamp (by omega)
        exact ⟨by show H ≤ (g (o j) (mhpN g o H j).2).toNatClampNeg; omega, by show (g (o j) (mhpN g o H j).2).toNatClampNeg ≤ _; omega, m + 1, by omega, by show (mhpN g o H j).1 + 1 = _; rw [e]; exact nI_1 m⟩
theorem vg_nI {g : Nat → Nat → Int32} {n k h : Nat} (hg : vgB g n) (hk : k < n) (hh : h < 90000) (h0 : ¬ g k h = -1) : g k h = nI (g k h).toNatClampNeg := by
  rcases hg k h hk hh with q | ⟨h', h1, h2, q⟩
  · exact absurd q h0
  · rw [q, nI_clamp (by omega)]
theorem vyg_B {ar : Nat → Nat → Int32} {hi kk dd FF : Nat → Nat} {R W n c : Nat} (hR : R ≤ 9) (hW : W < 5) (hZ : ∀ k, k < n → zM ar k hi (kk k) (dd k) (FF k)) (hc : c < 12) : vgB (vyg hi R W kk dd FF c) n := by
  intro k h hk hh
  obtain ⟨hp, h5, hd, hd9, hF, -⟩ := hZ k hk
  exact vy_bd hp hR hW h5 hd hd9 hF hh hc
theorem mlh_c {n : Nat} {g : Nat → Nat → Int32} {H : Nat} (hg : vgB g n) (hn : n ≤ 3) (hH : H ≤ 999) : ∀ t, ((mlhN n g H t).1 = -1 ∧ ∀ u, u < t → ioB n u = false) ∨ ∃ m, m ≤ n ∧ (mlhN n g H t).1 = nI m := by
  intro t
  induction t with
  | zero => exact Or.inl ⟨rfl, fun u hu => absurd hu (Nat.not_lt_zero u)⟩
  | succ t ih =>
    rw [mlhN]
    by_cases hb : ioB n t = true
    · rw [if_pos hb]
      have h0 : ∃ m, m ≤ n ∧ (mhpN g (od n t) H n).1 = nI m := by
        rcases Nat.eq_zero_or_pos n with q | q
        · subst q; exact ⟨0, Nat.le_refl _, rfl⟩
        · exact (mhp_bd hg (fun j => od_lt q) hH n hn).2.2
      obtain ⟨m, hm, e⟩ := h0
      right
      by_cases h1 : (mlhN n g H t).1 < (mhpN g (od n t) H n).1
      · rw [if_pos h1]; exact ⟨m, hm, e⟩
      · rw [if_neg h1]
        have hold : ∃ m, m ≤ n ∧ (mlhN n g H t).1 = nI m := by
          rcases ih with ⟨a, -⟩ | a
          · exact absurd (show (mlhN n g H t).1 < (mhpN g (od n t) H n).1 by
              rw [a, e, Int32.lt_iff_toInt_lt, nI_toInt (show m < 2 ^ 31 by omega)]
              have : ((-1 : Int32)).toInt = -1 := rfl
              omega) h1
          · exact a
        split
        · split
          · exact ⟨m, hm, e⟩
          · exact hold
        · exact hold
    · rw [if_neg hb]
      rcases ih with ⟨a, b⟩ | a
      · refine Or.inl ⟨a, fun u hu => ?_⟩
        rcases Nat.lt_or_eq_of_le (Nat.le_of_lt_succ hu) with h | h
        · exact b u h
        · rw [h]; simpa using hb
      · exact Or.inr a
def cds (n : Nat) : Nat := if n = 0 then 1 else if n = 1 then 1 else if n = 2 then 4 else 27
theorem io_one : ∀ n, n < 4 → ∃ u, u < cds n ∧ ioB n u = true := by
  intro n hn
  match n, hn with
  | 0, _ => exact ⟨0, by decide, by decide⟩
  | 1, _ => exact ⟨0, by decide, by decide⟩
  | 2, _ => exact ⟨1, by decide, by decide⟩
  | 3, _ => exact ⟨5, by decide, by decide +kernel⟩
theorem mlh_ne {n : Nat} {g : Nat → Nat → Int32} {H : Nat} (hg : vgB g n) (hn : n ≤ 3) (hH : H ≤ 999) : ¬ (mlhN n g H (cds n)).1 = -1 := by
  obtain ⟨u, hu, hb⟩ := io_one n (by omega)
  rcases mlh_c hg hn hH (cds n) with ⟨-, b⟩ | ⟨m, hm, e⟩
  · rw [b u hu] at hb; exact absurd hb (by decide)
  · rw [e]; exact z_neg (by omega)
theorem io0 : ∀ c0, c0 < 1 → (0 = (((1 : Int32) <<< ((0 : Int32) &&& 31)) - 1) ↔ ioB 0 c0 = true) := by decide +kernel
set_option maxHeartbeats 4000000 in
set_option maxRecDepth 100000 in
theorem m_isOrder0 (l : Launch) (D : va_G) (b : Nat) (sc : Nat → Int32) (ar : Nat → Nat → Int32) (hn : Nat → Option Nat) (mh : Int64) (G : List va_E) (c0 : Nat) (hc : c0 < 1) (h25 : sc 25 = 0) : Con l yX12_isOrder cX12_isOrder 5 (some .boolean) 0 0 D b 0 0 (wl D b sc ar hn mh G) [.ref (b + 27), .int (nI c0)] (fun r es' => ∃ o' : Nat → Int32, r = some (.int (if ioB 0 c0 = true then 1 else 0)) ∧ (∀ j, j < 0 → o' j = nI (od 0 c0 j)) ∧ wl D b sc (va_up ar 33 o') hn mh G = es') := by
  refine con_of (by decide) (Nat.le_of_ble_eq_true rfl) (fun p e s m args below meth c C hsz => ?_)
  have C : vC p s m args meth c cX12_isOrder 5 RX12 "isOrder" (some .boolean) D b := C
  change V p l e _ s m args below meth c D b 5 _ 0 0 (wl D b sc ar hn mh G) [(0, .ref (b + 27)), (1, .int (nI c0))] [] 0
  refine v_iload_n (n := 1) C dX12_isOrder_0 rfl rfl rfl ?_
  refine v_istore_n (n := 2) (lv' := [(2, .int (nI c0)), (0, .ref (b + 27)), (1, .int (nI c0))]) C dX12_isOrder_1 rfl rfl (Nat.le_of_ble_eq_true rfl) rfl ?_
  refine v_iconst (n := 3) (v := 0) C dX12_isOrder_2 rfl (by decide) ?_
  refine v_istore_n (n := 4) (lv' := [(3, .int 0), (2, .int (nI c0)), (0, .ref (b + 27)), (1, .int (nI c0))]) C dX12_isOrder_3 rfl rfl (Nat.le_of_ble_eq_true rfl) rfl ?_
  refine v_aload_n (n := 5) C dX12_isOrder_4 rfl rfl rfl ?_
  refine v_get (n := 8) C dX12_isOrder_5 rfl fl_X12_78_X12 wl_c27 rfl ?_
  refine v_stk (st' := .int 0 :: []) (congrArg (fun z : Int32 => Value.int z :: []) h25) ?_
  refine v_iconst (n := 9) (v := 1) C dX12_isOrder_8 rfl (by decide) ?_
  refine v_isub (n := 10) C dX12_isOrder_9 rfl ?_
  refine v_stk (st' := .int (-1) :: []) (congrArg (fun z : Int32 => Value.int z :: []) rfl) ?_
  refine v_istore (n := 12) (lv' := [(4, .int (-1)), (3, .int 0), (2, .int (nI c0)), (0, .ref (b + 27)), (1, .int (nI c0))]) C dX12_isOrder_10 rfl (Nat.le_of_ble_eq_true rfl) rfl ?_
  refine v_iload (n := 14) C dX12_isOrder_12 rfl rfl ?_
  refine v_if_lt (t := 55) (n := 17) C dX12_isOrder_14 (by decide) rfl (fun c_1 => ?_) (fun c_1 => ?_)
  · skip
    refine v_iload_n (n := 56) C dX12_isOrder_55 rfl rfl rfl ?_
    refine v_iconst (n := 57) (v := 1) C dX12_isOrder_56 rfl (by decide) ?_
    refine v_aload_n (n := 58) C dX12_isOrder_57 rfl rfl rfl ?_
    refine v_get (n := 61) C dX12_isOrder_58 rfl fl_X12_78_X12 wl_c27 rfl ?_
    refine v_stk (st' := .int 0 :: [.int 1, .int 0]) (congrArg (fun z : Int32 => Value.int z :: [.int 1, .int 0]) h25) ?_
    refine v_ishl (n := 62) C dX12_isOrder_61 rfl ?_
    refine v_iconst (n := 63) (v := 1) C dX12_isOrder_62 rfl (by decide) ?_
    refine v_isub (n := 64) C dX12_isOrder_63 rfl ?_
    refine v_icmp_ne (t := 71) (n := 67) C dX12_isOrder_64 (by decide) rfl (fun c_2 => ?_) (fun c_2 => ?_)
    · skip
      refine v_iconst (n := 72) (v := 0) C dX12_isOrder_71 rfl (by decide) ?_
      exact v_iret C dX12_isOrder_72 rfl rfl ⟨(ar 33), congrArg (fun z : Int32 => some (Value.int z)) ((if_neg (fun q => c_2 ((io0 c0 hc).mpr q))).symm), fun j hj => absurd hj (Nat.not_lt_zero j), rfl⟩
    · skip
      refine v_iconst (n := 68) (v := 1) C dX12_isOrder_67 rfl (by decide) ?_
      refine v_goto (t := 72) C dX12_isOrder_68 (by decide) ?_
      exact v_iret C dX12_isOrder_72 rfl rfl ⟨(ar 33), congrArg (fun z : Int32 => some (Value.int z)) ((if_pos ((io0 c0 hc).mp c_2)).symm), fun j hj => absurd hj (Nat.not_lt_zero j), rfl⟩
  · exact absurd c_1 (by decide)
theorem od1 : ∀ c, c < 1 → od 1 c 0 = c % 1 := by decide +kernel
theorem io1 : ∀ c0, c0 < 1 → (((0 : Int32) ||| ((1 : Int32) <<< ((nI (c0 % 1)) &&& 31))) = (((1 : Int32) <<< ((1 : Int32) &&& 31)) - 1) ↔ ioB 1 c0 = true) := by decide +kernel
set_option maxHeartbeats 4000000 in
set_option maxRecDepth 100000 in
theorem m_isOrder1 (l : Launch) (D : va_G) (b : Nat) (sc : Nat → Int32) (ar : Nat → Nat → Int32) (hn : Nat → Option Nat) (mh : Int64) (G : List va_E) (c0 : Nat) (hc : c0 < 1) (h25 : sc 25 = 1) : Con l yX12_isOrder cX12_isOrder 5 (some .boolean) 0 0 D b 0 0 (wl D b sc ar hn mh G) [.ref (b + 27), .int (nI c0)] (fun r es' => ∃ o' : Nat → Int32, r = some (.int (if ioB 1 c0 = true then 1 else 0)) ∧ (∀ j, j < 1 → o' j = nI (od 1 c0 j)) ∧ wl D b sc (va_up ar 33 o') hn mh G = es') := by
  refine con_of (by decide) (Nat.le_of_ble_eq_true rfl) (fun p e s m args below meth c C hsz => ?_)
  have C : vC p s m args meth c cX12_isOrder 5 RX12 "isOrder" (some .boolean) D b := C
  change V p l e _ s m args below meth c D b 5 _ 0 0 (wl D b sc ar hn mh G) [(0, .ref (b + 27)), (1, .int (nI c0))] [] 0
  refine v_iload_n (n := 1) C dX12_isOrder_0 rfl rfl rfl ?_
  refine v_istore_n (n := 2) (lv' := [(2, .int (nI c0)), (0, .ref (b + 27)), (1, .int (nI c0))]) C dX12_isOrder_1 rfl rfl (Nat.le_of_ble_eq_true rfl) rfl ?_
  refine v_iconst (n := 3) (v := 0) C dX12_isOrder_2 rfl (by decide) ?_
  refine v_istore_n (n := 4) (lv' := [(3, .int 0), (2, .int (nI c0)), (0, .ref (b + 27)), (1, .int (nI c0))]) C dX12_isOrder_3 rfl rfl (Nat.le_of_ble_eq_true rfl) rfl ?_
  refine v_aload_n (n := 5) C dX12_isOrder_4 rfl rfl rfl ?_
  refine v_get (n := 8) C dX12_isOrder_5 rfl fl_X12_78_X12 wl_c27 rfl ?_
  refine v_stk (st' := .int 1 :: []) (congrArg (fun z : Int32 => Value.int z :: []) h25) ?_
  refine v_iconst (n := 9) (v := 1) C dX12_isOrder_8 rfl (by decide) ?_
  refine v_isub (n := 10) C dX12_isOrder_9 rfl ?_
  refine v_stk (st' := .int 0 :: []) (congrArg (fun z : Int32 => Value.int z :: []) rfl) ?_
  refine v_istore (n := 12) (lv' := [(4, .int 0), (3, .int 0), (2, .int (nI c0)), (0, .ref (b + 27)), (1, .int (nI c0))]) C dX12_isOrder_10 rfl (Nat.le_of_ble_eq_true rfl) rfl ?_
  refine v_iload (n := 14) C dX12_isOrder_12 rfl rfl ?_
  refine v_if_lt (t := 55) (n := 17) C dX12_isOrder_14 (by decide) rfl (fun c_1 => ?_) (fun c_1 => ?_)
  · exact absurd c_1 (by decide)
  · skip
    refine v_aload_n (n := 18) C dX12_isOrder_17 rfl rfl rfl ?_
    refine v_get (n := 21) C dX12_isOrder_18 rfl fl_X12_25_X12 wl_c27 rfl ?_
    refine v_iload (n := 23) C dX12_isOrder_21 rfl rfl ?_
    refine v_iload_n (n := 24) C dX12_isOrder_23 rfl rfl rfl ?_
    refine v_aload_n (n := 25) C dX12_isOrder_24 rfl rfl rfl ?_
    refine v_get (n := 28) C dX12_isOrder_25 rfl fl_X12_78_X12 wl_c27 rfl ?_
    refine v_stk (st' := .int 1 :: [.int (nI c0), .int 0, .ref (b + 33)]) (congrArg (fun z : Int32 => Value.int z :: [.int (nI c0), .int 0, .ref (b + 33)]) h25) ?_
    refine v_irem (n := 29) C dX12_isOrder_28 rfl (by decide) ?_
    refine v_stk (st' := .int (nI (c0 % 1)) :: [.int 0, .ref (b + 33)]) (congrArg (fun z : Int32 => Value.int z :: [.int 0, .ref (b + 33)]) (pk_rem (a := c0) (d := 1) (show c0 < 2 ^ 31 by omega) (by decide) (by decide))) ?_
    refine v_iast (n := 30) (es' := (wl D b sc (va_up ar 33 (upd (ar 33) (Int32.toNatClampNeg 0) (nI (c0 % 1)))) hn mh G)) C dX12_isOrder_29 rfl wl_c33 (vp_lit (by decide) (by decide)) (wl_a33 _) ?_
    refine v_iload_n (n := 31) C dX12_isOrder_30 rfl rfl rfl ?_
    refine v_iconst (n := 32) (v := 1) C dX12_isOrder_31 rfl (by decide) ?_
    refine v_aload_n (n := 33) C dX12_isOrder_32 rfl rfl rfl ?_
    refine v_get (n := 36) C dX12_isOrder_33 rfl fl_X12_25_X12 wl_c27 rfl ?_
    refine v_iload (n := 38) C dX12_isOrder_36 rfl rfl ?_
    refine v_iald (n := 39) C dX12_isOrder_38 rfl (show (wl D b sc (va_up ar 33 (upd (ar 33) (Int32.toNatClampNeg 0) (nI (c0 % 1)))) hn mh G)[33]? = some (.inl (D.1 13, 3, .inl (upd (ar 33) (Int32.toNatClampNeg 0) (nI (c0 % 1))))) from wl_c33) (vp_lit (by decide) (by decide)) ?_
    refine v_stk (st' := .int (nI (c0 % 1)) :: [.int 1, .int 0]) (congrArg (fun z : Int32 => Value.int z :: [.int 1, .int 0]) upd_at) ?_
    refine v_ishl (n := 40) C dX12_isOrder_39 rfl ?_
    refine v_ior (n := 41) C dX12_isOrder_40 rfl ?_
    refine v_istore_n (n := 42) (lv' := [(3, .int ((0 : Int32) ||| ((1 : Int32) <<< ((nI (c0 % 1)) &&& 31)))), (4, .int 0), (2, .int (nI c0)), (0, .ref (b + 27)), (1, .int (nI c0))]) C dX12_isOrder_41 rfl rfl (Nat.le_of_ble_eq_true rfl) rfl ?_
    refine v_iload_n (n := 43) C dX12_isOrder_42 rfl rfl rfl ?_
    refine v_aload_n (n := 44) C dX12_isOrder_43 rfl rfl rfl ?_
    refine v_get (n := 47) C dX12_isOrder_44 rfl fl_X12_78_X12 wl_c27 rfl ?_
    refine v_stk (st' := .int 1 :: [.int (nI c0)]) (congrArg (fun z : Int32 => Value.int z :: [.int (nI c0)]) h25) ?_
    refine v_idiv (n := 48) C dX12_isOrder_47 rfl (by decide) ?_
    refine v_stk (st' := .int (nI (c0 / 1)) :: []) (congrArg (fun z : Int32 => Value.int z :: []) (pk_div (a := c0) (d := 1) (show c0 < 2 ^ 31 by omega) (by decide) (by decide))) ?_
    refine v_istore_n (n := 49) (lv' := [(2, .int (nI (c0 / 1))), (3, .int ((0 : Int32) ||| ((1 : Int32) <<< ((nI (c0 % 1)) &&& 31)))), (4, .int 0), (0, .ref (b + 27)), (1, .int (nI c0))]) C dX12_isOrder_48 rfl rfl (Nat.le_of_ble_eq_true rfl) rfl ?_
    refine v_iinc (n := 52) (v := (-1)) (lv' := [(4, .int (-1)), (2, .int (nI (c0 / 1))), (3, .int ((0 : Int32) ||| ((1 : Int32) <<< ((nI (c0 % 1)) &&& 31)))), (0, .ref (b + 27)), (1, .int (nI c0))]) C dX12_isOrder_49 rfl rfl rfl (Nat.le_of_ble_eq_true rfl) rfl ?_
    refine v_goto (t := 12) C dX12_isOrder_52 (by decide) ?_
    refine v_iload (n := 14) C dX12_isOrder_12 rfl rfl ?_
    refine v_if_lt (t := 55) (n := 17) C dX12_isOrder_14 (by decide) rfl (fun c_2 => ?_) (fun c_2 => ?_)
    · skip
      refine v_iload_n (n := 56) C dX12_isOrder_55 rfl rfl rfl ?_
      refine v_iconst (n := 57) (v := 1) C dX12_isOrder_56 rfl (by decide) ?_
      refine v_aload_n (n := 58) C dX12_isOrder_57 rfl rfl rfl ?_
      refine v_get (n := 61) C dX12_isOrder_58 rfl fl_X12_78_X12 wl_c27 rfl ?_
      refine v_stk (st' := .int 1 :: [.int 1, .int ((0 : Int32) ||| ((1 : Int32) <<< ((nI (c0 % 1)) &&& 31)))]) (congrArg (fun z : Int32 => Value.int z :: [.int 1, .int ((0 : Int32) ||| ((1 : Int32) <<< ((nI (c0 % 1)) &&& 31)))]) h25) ?_
      refine v_ishl (n := 62) C dX12_isOrder_61 rfl ?_
      refine v_iconst (n := 63) (v := 1) C dX12_isOrder_62 rfl (by decide) ?_
      refine v_isub (n := 64) C dX12_isOrder_63 rfl ?_
      refine v_icmp_ne (t := 71) (n := 67) C dX12_isOrder_64 (by decide) rfl (fun c_3 => ?_) (fun c_3 => ?_)
      · skip
        refine v_iconst (n := 72) (v := 0) C dX12_isOrder_71 rfl (by decide) ?_
        exact v_iret C dX12_isOrder_72 rfl rfl ⟨(upd (ar 33) (Int32.toNatClampNeg 0) (nI (c0 % 1))), congrArg (fun z : Int32 => some (Value.int z)) ((if_neg (fun q => c_3 ((io1 c0 hc).mpr q))).symm), fun j hj => match j, hj with | 0, _ => congrArg nI (od1 c0 hc).symm, rfl⟩
      · skip
        refine v_iconst (n := 68) (v := 1) C dX12_isOrder_67 rfl (by decide) ?_
        refine v_goto (t := 72) C dX12_isOrder_68 (by decide) ?_
        exact v_iret C dX12_isOrder_72 rfl rfl ⟨(upd (ar 33) (Int32.toNatClampNeg 0) (nI (c0 % 1))), congrArg (fun z : Int32 => some (Value.int z)) ((if_pos ((io1 c0 hc).mp c_3)).symm), fun j hj => match j, hj with | 0, _ => congrArg nI (od1 c0 hc).symm, rfl⟩
    · exact absurd c_2 (by decide)
theorem od2 : ∀ c, c < 4 → od 2 c 0 = c / 2 % 2 ∧ od 2 c 1 = c % 2 := by decide +kernel
theorem io2 : ∀ c0, c0 < 4 → ((((0 : Int32) ||| ((1 : Int32) <<< ((nI (c0 % 2)) &&& 31))) ||| ((1 : Int32) <<< ((nI ((c0 / 2) % 2)) &&& 31))) = (((1 : Int32) <<< ((2 : Int32) &&& 31)) - 1) ↔ ioB 2 c0 = true) := by decide +kernel
set_option maxHeartbeats 4000000 in
set_option maxRecDepth 100000 in
theorem m_isOrder2 (l : Launch) (D : va_G) (b : Nat) (sc : Nat → Int32) (ar : Nat → Nat → Int32) (hn : Nat → Option Nat) (mh : Int64) (G : List va_E) (c0 : Nat) (hc : c0 < 4) (h25 : sc 25 = 2) : Con l yX12_isOrder cX12_isOrder 5 (some .boolean) 0 0 D b 0 0 (wl D b sc ar hn mh G) [.ref (b + 27), .int (nI c0)] (fun r es' => ∃ o' : Nat → Int32, r = some (.int (if ioB 2 c0 = true then 1 else 0)) ∧ (∀ j, j < 2 → o' j = nI (od 2 c0 j)) ∧ wl D b sc (va_up ar 33 o') hn mh G = es') := by
  refine con_of (by decide) (Nat.le_of_ble_eq_true rfl) (fun p e s m args below meth c C hsz => ?_)
  have C : vC p s m args meth c cX12_isOrder 5 RX12 "isOrder" (some .boolean) D b := C
  change V p l e _ s m args below meth c D b 5 _ 0 0 (wl D b sc ar hn mh G) [(0, .ref (b + 27)), (1, .int (nI c0))] [] 0
  refine v_iload_n (n := 1) C dX12_isOrder_0 rfl rfl rfl ?_
  refine v_istore_n (n := 2) (lv' := [(2, .int (nI c0)), (0, .ref (b + 27)), (1, .int (nI c0))]) C dX12_isOrder_1 rfl rfl (Nat.le_of_ble_eq_true rfl) rfl ?_
  refine v_iconst (n := 3) (v := 0) C dX12_isOrder_2 rfl (by decide) ?_
  refine v_istore_n (n := 4) (lv' := [(3, .int 0), (2, .int (nI c0)), (0, .ref (b + 27)), (1, .int (nI c0))]) C dX12_isOrder_3 rfl rfl (Nat.le_of_ble_eq_true rfl) rfl ?_
  refine v_aload_n (n := 5) C dX12_isOrder_4 rfl rfl rfl ?_
  refine v_get (n := 8) C dX12_isOrder_5 rfl fl_X12_78_X12 wl_c27 rfl ?_
  refine v_stk (st' := .int 2 :: []) (congrArg (fun z : Int32 => Value.int z :: []) h25) ?_
  refine v_iconst (n := 9) (v := 1) C dX12_isOrder_8 rfl (by decide) ?_
  refine v_isub (n := 10) C dX12_isOrder_9 rfl ?_
  refine v_stk (st' := .int 1 :: []) (congrArg (fun z : Int32 => Value.int z :: []) rfl) ?_
  refine v_istore (n := 12) (lv' := [(4, .int 1), (3, .int 0), (2, .int (nI c0)), (0, .ref (b + 27)), (1, .int (nI c0))]) C dX12_isOrder_10 rfl (Nat.le_of_ble_eq_true rfl) rfl ?_
  refine v_iload (n := 14) C dX12_isOrder_12 rfl rfl ?_
  refine v_if_lt (t := 55) (n := 17) C dX12_isOrder_14 (by decide) rfl (fun c_1 => ?_) (fun c_1 => ?_)
  · exact absurd c_1 (by decide)
  · skip
    refine v_aload_n (n := 18) C dX12_isOrder_17 rfl rfl rfl ?_
    refine v_get (n := 21) C dX12_isOrder_18 rfl fl_X12_25_X12 wl_c27 rfl ?_
    refine v_iload (n := 23) C dX12_isOrder_21 rfl rfl ?_
    refine v_iload_n (n := 24) C dX12_isOrder_23 rfl rfl rfl ?_
    refine v_aload_n (n := 25) C dX12_isOrder_24 rfl rfl rfl ?_
    refine v_get (n := 28) C dX12_isOrder_25 rfl fl_X12_78_X12 wl_c27 rfl ?_
    refine v_stk (st' := .int 2 :: [.int (nI c0), .int 1, .ref (b + 33)]) (congrArg (fun z : Int32 => Value.int z :: [.int (nI c0), .int 1, .ref (b + 33)]) h25) ?_
    refine v_irem (n := 29) C dX12_isOrder_28 rfl (by decide) ?_
    refine v_stk (st' := .int (nI (c0 % 2)) :: [.int 1, .ref (b + 33)]) (congrArg (fun z : Int32 => Value.int z :: [.int 1, .ref (b + 33)]) (pk_rem (a := c0) (d := 2) (show c0 < 2 ^ 31 by omega) (by decide) (by decide))) ?_
    refine v_iast (n := 30) (es' := (wl D b sc (va_up ar 33 (upd (ar 33) (Int32.toNatClampNeg 1) (nI (c0 % 2)))) hn mh G)) C dX12_isOrder_29 rfl wl_c33 (vp_lit (by decide) (by decide)) (wl_a33 _) ?_
    refine v_iload_n (n := 31) C dX12_isOrder_30 rfl rfl rfl ?_
    refine v_iconst (n := 32) (v := 1) C dX12_isOrder_31 rfl (by decide) ?_
    refine v_aload_n (n := 33) C dX12_isOrder_32 rfl rfl rfl ?_
    refine v_get (n := 36) C dX12_isOrder_33 rfl fl_X12_25_X12 wl_c27 rfl ?_
    refine v_iload (n := 38) C dX12_isOrder_36 rfl rfl ?_
    refine v_iald (n := 39) C dX12_isOrder_38 rfl (show (wl D b sc (va_up ar 33 (upd (ar 33) (Int32.toNatClampNeg 1) (nI (c0 % 2)))) hn mh G)[33]? = some (.inl (D.1 13, 3, .inl (upd (ar 33) (Int32.toNatClampNeg 1) (nI (c0 % 2))))) from wl_c33) (vp_lit (by decide) (by decide)) ?_
    refine v_stk (st' := .int (nI (c0 % 2)) :: [.int 1, .int 0]) (congrArg (fun z : Int32 => Value.int z :: [.int 1, .int 0]) upd_at) ?_
    refine v_ishl (n := 40) C dX12_isOrder_39 rfl ?_
    refine v_ior (n := 41) C dX12_isOrder_40 rfl ?_
    refine v_istore_n (n := 42) (lv' := [(3, .int ((0 : Int32) ||| ((1 : Int32) <<< ((nI (c0 % 2)) &&& 31)))), (4, .int 1), (2, .int (nI c0)), (0, .ref (b + 27)), (1, .int (nI c0))]) C dX12_isOrder_41 rfl rfl (Nat.le_of_ble_eq_true rfl) rfl ?_
    refine v_iload_n (n := 43) C dX12_isOrder_42 rfl rfl rfl ?_
    refine v_aload_n (n := 44) C dX12_isOrder_43 rfl rfl rfl ?_
    refine v_get (n := 47) C dX12_isOrder_44 rfl fl_X12_78_X12 wl_c27 rfl ?_
    refine v_stk (st' := .int 2 :: [.int (nI c0)]) (congrArg (fun z : Int32 => Value.int z :: [.int (nI c0)]) h25) ?_
    refine v_idiv (n := 48) C dX12_isOrder_47 rfl (by decide) ?_
    refine v_stk (st' := .int (nI (c0 / 2)) :: []) (congrArg (fun z : Int32 => Value.int z :: []) (pk_div (a := c0) (d := 2) (show c0 < 2 ^ 31 by omega) (by decide) (by decide))) ?_
    refine v_istore_n (n := 49) (lv' := [(2, .int (nI (c0 / 2))), (3, .int ((0 : Int32) ||| ((1 : Int32) <<< ((nI (c0 % 2)) &&& 31)))), (4, .int 1), (0, .ref (b + 27)), (1, .int (nI c0))]) C dX12_isOrder_48 rfl rfl (Nat.le_of_ble_eq_true rfl) rfl ?_
    refine v_iinc (n := 52) (v := 0) (lv' := [(4, .int 0), (2, .int (nI (c0 / 2))), (3, .int ((0 : Int32) ||| ((1 : Int32) <<< ((nI (c0 % 2)) &&& 31)))), (0, .ref (b + 27)), (1, .int (nI c0))]) C dX12_isOrder_49 rfl rfl rfl (Nat.le_of_ble_eq_true rfl) rfl ?_
    refine v_goto (t := 12) C dX12_isOrder_52 (by decide) ?_
    refine v_iload (n := 14) C dX12_isOrder_12 rfl rfl ?_
    refine v_if_lt (t := 55) (n := 17) C dX12_isOrder_14 (by decide) rfl (fun c_2 => ?_) (fun c_2 => ?_)
    · exact absurd c_2 (by decide)
    · skip
      refine v_aload_n (n := 18) C dX12_isOrder_17 rfl rfl rfl ?_
      refine v_get (n := 21) C dX12_isOrder_18 rfl fl_X12_25_X12 wl_c27 rfl ?_
      refine v_iload (n := 23) C dX12_isOrder_21 rfl rfl ?_
      refine v_iload_n (n := 24) C dX12_isOrder_23 rfl rfl rfl ?_
      refine v_aload_n (n := 25) C dX12_isOrder_24 rfl rfl rfl ?_
      refine v_get (n := 28) C dX12_isOrder_25 rfl fl_X12_78_X12 wl_c27 rfl ?_
      refine v_stk (st' := .int 2 :: [.int (nI (c0 / 2)), .int 0, .ref (b + 33)]) (congrArg (fun z : Int32 => Value.int z :: [.int (nI (c0 / 2)), .int 0, .ref (b + 33)]) h25) ?_
      refine v_irem (n := 29) C dX12_isOrder_28 rfl (by decide) ?_
      refine v_stk (st' := .int (nI ((c0 / 2) % 2)) :: [.int 0, .ref (b + 33)]) (congrArg (fun z : Int32 => Value.int z :: [.int 0, .ref (b + 33)]) (pk_rem (a := (c0 / 2)) (d := 2) (show (c0 / 2) < 2 ^ 31 by omega) (by decide) (by decide))) ?_
      refine v_iast (n := 30) (es' := (wl D b sc (va_up ar 33 (upd (upd (ar 33) (Int32.toNatClampNeg 1) (nI (c0 % 2))) (Int32.toNatClampNeg 0) (nI ((c0 / 2) % 2)))) hn mh G)) C dX12_isOrder_29 rfl (show (wl D b sc (va_up ar 33 (upd (ar 33) (Int32.toNatClampNeg 1) (nI (c0 % 2)))) hn mh G)[33]? = some (.inl (D.1 13, 3, .inl (upd (ar 33) (Int32.toNatClampNeg 1) (nI (c0 % 2))))) from wl_c33) (vp_lit (by decide) (by decide)) rfl ?_
      refine v_iload_n (n := 31) C dX12_isOrder_30 rfl rfl rfl ?_
      refine v_iconst (n := 32) (v := 1) C dX12_isOrder_31 rfl (by decide) ?_
      refine v_aload_n (n := 33) C dX12_isOrder_32 rfl rfl rfl ?_
      refine v_get (n := 36) C dX12_isOrder_33 rfl fl_X12_25_X12 wl_c27 rfl ?_
      refine v_iload (n := 38) C dX12_isOrder_36 rfl rfl ?_
      refine v_iald (n := 39) C dX12_isOrder_38 rfl (show (wl D b sc (va_up ar 33 (upd (upd (ar 33) (Int32.toNatClampNeg 1) (nI (c0 % 2))) (Int32.toNatClampNeg 0) (nI ((c0 / 2) % 2)))) hn mh G)[33]? = some (.inl (D.1 13, 3, .inl (upd (upd (ar 33) (Int32.toNatClampNeg 1) (nI (c0 % 2))) (Int32.toNatClampNeg 0) (nI ((c0 / 2) % 2))))) from wl_c33) (vp_lit (by decide) (by decide)) ?_
      refine v_stk (st' := .int (nI ((c0 / 2) % 2)) :: [.int 1, .int ((0 : Int32) ||| ((1 : Int32) <<< ((nI (c0 % 2)) &&& 31)))]) (congrArg (fun z : Int32 => Value.int z :: [.int 1, .int ((0 : Int32) ||| ((1 : Int32) <<< ((nI (c0 % 2)) &&& 31)))]) upd_at) ?_
      refine v_ishl (n := 40) C dX12_isOrder_39 rfl ?_
      refine v_ior (n := 41) C dX12_isOrder_40 rfl ?_
      refine v_istore_n (n := 42) (lv' := [(3, .int (((0 : Int32) ||| ((1 : Int32) <<< ((nI (c0 % 2)) &&& 31))) ||| ((1 : Int32) <<< ((nI ((c0 / 2) % 2)) &&& 31)))), (4, .int 0), (2, .int (nI (c0 / 2))), (0, .ref (b + 27)), (1, .int (nI c0))]) C dX12_isOrder_41 rfl rfl (Nat.le_of_ble_eq_true rfl) rfl ?_
      refine v_iload_n (n := 43) C dX12_isOrder_42 rfl rfl rfl ?_
      refine v_aload_n (n := 44) C dX12_isOrder_43 rfl rfl rfl ?_
      refine v_get (n := 47) C dX12_isOrder_44 rfl fl_X12_78_X12 wl_c27 rfl ?_
      refine v_stk (st' := .int 2 :: [.int (nI (c0 / 2))]) (congrArg (fun z : Int32 => Value.int z :: [.int (nI (c0 / 2))]) h25) ?_
      refine v_idiv (n := 48) C dX12_isOrder_47 rfl (by decide) ?_
      refine v_stk (st' := .int (nI ((c0 / 2) / 2)) :: []) (congrArg (fun z : Int32 => Value.int z :: []) (pk_div (a := (c0 / 2)) (d := 2) (show (c0 / 2) < 2 ^ 31 by omega) (by decide) (by decide))) ?_
      refine v_istore_n (n := 49) (lv' := [(2, .int (nI ((c0 / 2) / 2))), (3, .int (((0 : Int32) ||| ((1 : Int32) <<< ((nI (c0 % 2)) &&& 31))) ||| ((1 : Int32) <<< ((nI ((c0 / 2) % 2)) &&& 31)))), (4, .int 0), (0, .ref (b + 27)), (1, .int (nI c0))]) C dX12_isOrder_48 rfl rfl (Nat.le_of_ble_eq_true rfl) rfl ?_
      refine v_iinc (n := 52) (v := (-1)) (lv' := [(4, .int (-1)), (2, .int (nI ((c0 / 2) / 2))), (3, .int (((0 : Int32) ||| ((1 : Int32) <<< ((nI (c0 % 2)) &&& 31))) ||| ((1 : Int32) <<< ((nI ((c0 / 2) % 2)) &&& 31)))), (0, .ref (b + 27)), (1, .int (nI c0))]) C dX12_isOrder_49 rfl rfl rfl (Nat.le_of_ble_eq_true rfl) rfl ?_
      refine v_goto (t := 12) C dX12_isOrder_52 (by decide) ?_
      refine v_iload (n := 14) C dX12_isOrder_12 rfl rfl ?_
      refine v_if_lt (t := 55) (n := 17) C dX12_isOrder_14 (by decide) rfl (fun c_3 => ?_) (fun c_3 => ?_)
      · skip
        refine v_iload_n (n := 56) C dX12_isOrder_55 rfl rfl rfl ?_
        refine v_iconst (n := 57) (v := 1) C dX12_isOrder_56 rfl (by decide) ?_
        refine v_aload_n (n := 58) C dX12_isOrder_57 rfl rfl rfl ?_
        refine v_get (n := 61) C dX12_isOrder_58 rfl fl_X12_78_X12 wl_c27 rfl ?_
        refine v_stk (st' := .int 2 :: [.int 1, .int (((0 : Int32) ||| ((1 : Int32) <<< ((nI (c0 % 2)) &&& 31))) ||| ((1 : Int32) <<< ((nI ((c0 / 2) % 2)) &&& 31)))]) (congrArg (fun z : Int32 => Value.int z :: [.int 1, .int (((0 : Int32) ||| ((1 : Int32) <<< ((nI (c0 % 2)) &&& 31))) ||| ((1 : Int32) <<< ((nI ((c0 / 2) % 2)) &&& 31)))]) h25) ?_
        refine v_ishl (n := 62) C dX12_isOrder_61 rfl ?_
        refine v_iconst (n := 63) (v := 1) C dX12_isOrder_62 rfl (by decide) ?_
        refine v_isub (n := 64) C dX12_isOrder_63 rfl ?_
        refine v_icmp_ne (t := 71) (n := 67) C dX12_isOrder_64 (by decide) rfl (fun c_4 => ?_) (fun c_4 => ?_)
        · skip
          refine v_iconst (n := 72) (v := 0) C dX12_isOrder_71 rfl (by decide) ?_
          exact v_iret C dX12_isOrder_72 rfl rfl ⟨(upd (upd (ar 33) (Int32.toNatClampNeg 1) (nI (c0 % 2))) (Int32.toNatClampNeg 0) (nI ((c0 / 2) % 2))), congrArg (fun z : Int32 => some (Value.int z)) ((if_neg (fun q => c_4 ((io2 c0 hc).mpr q))).symm), fun j hj => match j, hj with | 0, _ => congrArg nI (od2 c0 hc).1.symm | 1, _ => congrArg nI (od2 c0 hc).2.symm, rfl⟩
        · skip
          refine v_iconst (n := 68) (v := 1) C dX12_isOrder_67 rfl (by decide) ?_
          refine v_goto (t := 72) C dX12_isOrder_68 (by decide) ?_
          exact v_iret C dX12_isOrder_72 rfl rfl ⟨(upd (upd (ar 33) (Int32.toNatClampNeg 1) (nI (c0 % 2))) (Int32.toNatClampNeg 0) (nI ((c0 / 2) % 2))), congrArg (fun z : Int32 => some (Value.int z)) ((if_pos ((io2 c0 hc).mp c_4)).symm), fun j hj => match j, hj with | 0, _ => congrArg nI (od2 c0 hc).1.symm | 1, _ => congrArg nI (od2 c0 hc).2.symm, rfl⟩
      · exact absurd c_3 (by decide)
theorem od3 : ∀ c, c < 27 → od 3 c 0 = c / 3 / 3 % 3 ∧ od 3 c 1 = c / 3 % 3 ∧ od 3 c 2 = c % 3 := by decide +kernel
theorem io3 : ∀ c0, c0 < 27 → (((((0 : Int32) ||| ((1 : Int32) <<< ((nI (c0 % 3)) &&& 31))) ||| ((1 : Int32) <<< ((nI ((c0 / 3) % 3)) &&& 31))) ||| ((1 : Int32) <<< ((nI (((c0 / 3) / 3) % 3)) &&& 31))) = (((1 : Int32) <<< ((3 : Int32) &&& 31)) - 1) ↔ ioB 3 c0 = true) := by decide +kernel
set_option maxHeartbeats 4000000 in
set_option maxRecDepth 100000 in
theorem m_isOrder3 (l : Launch) (D : va_G) (b : Nat) (sc : Nat → Int32) (ar : Nat → Nat → Int32) (hn : Nat → Option Nat) (mh : Int64) (G : List va_E) (c0 : Nat) (hc : c0 < 27) (h25 : sc 25 = 3) : Con l yX12_isOrder cX12_isOrder 5 (some .boolean) 0 0 D b 0 0 (wl D b sc ar hn mh G) [.ref (b + 27), .int (nI c0)] (fun r es' => ∃ o' : Nat → Int32, r = some (.int (if ioB 3 c0 = true then 1 else 0)) ∧ (∀ j, j < 3 → o' j = nI (od 3 c0 j)) ∧ wl D b sc (va_up ar 33 o') hn mh G = es') := by
  refine con_of (by decide) (Nat.le_of_ble_eq_true rfl) (fun p e s m args below meth c C hsz => ?_)
  have C : vC p s m args meth c cX12_isOrder 5 RX12 "isOrder" (some .boolean) D b := C
  change V p l e _ s m args below meth c D b 5 _ 0 0 (wl D b sc ar hn mh G) [(0, .ref (b + 27)), (1, .int (nI c0))] [] 0
  refine v_iload_n (n := 1) C dX12_isOrder_0 rfl rfl rfl ?_
  refine v_istore_n (n := 2) (lv' := [(2, .int (nI c0)), (0, .ref (b + 27)), (1, .int (nI c0))]) C dX12_isOrder_1 rfl rfl (Nat.le_of_ble_eq_true rfl) rfl ?_
  refine v_iconst (n := 3) (v := 0) C dX12_isOrder_2 rfl (by decide) ?_
  refine v_istore_n (n := 4) (lv' := [(3, .int 0), (2, .int (nI c0)), (0, .ref (b + 27)), (1, .int (nI c0))]) C dX12_isOrder_3 rfl rfl (Nat.le_of_ble_eq_true rfl) rfl ?_
  refine v_aload_n (n := 5) C dX12_isOrder_4 rfl rfl rfl ?_
  refine v_get (n := 8) C dX12_isOrder_5 rfl fl_X12_78_X12 wl_c27 rfl ?_
  refine v_stk (st' := .int 3 :: []) (congrArg (fun z : Int32 => Value.int z :: []) h25) ?_
  refine v_iconst (n := 9) (v := 1) C dX12_isOrder_8 rfl (by decide) ?_
  refine v_isub (n := 10) C dX12_isOrder_9 rfl ?_
  refine v_stk (st' := .int 2 :: []) (congrArg (fun z : Int32 => Value.int z :: []) rfl) ?_
  refine v_istore (n := 12) (lv' := [(4, .int 2), (3, .int 0), (2, .int (nI c0)), (0, .ref (b + 27)), (1, .int (nI c0))]) C dX12_isOrder_10 rfl (Nat.le_of_ble_eq_true rfl) rfl ?_
  refine v_iload (n := 14) C dX12_isOrder_12 rfl rfl ?_
  refine v_if_lt (t := 55) (n := 17) C dX12_isOrder_14 (by decide) rfl (fun c_1 => ?_) (fun c_1 => ?_)
  · exact absurd c_1 (by decide)
  · skip
    refine v_aload_n (n := 18) C dX12_isOrder_17 rfl rfl rfl ?_
    refine v_get (n := 21) C dX12_isOrder_18 rfl fl_X12_25_X12 wl_c27 rfl ?_
    refine v_iload (n := 23) C dX12_isOrder_21 rfl rfl ?_
    refine v_iload_n (n := 24) C dX12_isOrder_23 rfl rfl rfl ?_
    refine v_aload_n (n := 25) C dX12_isOrder_24 rfl rfl rfl ?_
    refine v_get (n := 28) C dX12_isOrder_25 rfl fl_X12_78_X12 wl_c27 rfl ?_
    refine v_stk (st' := .int 3 :: [.int (nI c0), .int 2, .ref (b + 33)]) (congrArg (fun z : Int32 => Value.int z :: [.int (nI c0), .int 2, .ref (b + 33)]) h25) ?_
    refine v_irem (n := 29) C dX12_isOrder_28 rfl (by decide) ?_
    refine v_stk (st' := .int (nI (c0 % 3)) :: [.int 2, .ref (b + 33)]) (congrArg (fun z : Int32 => Value.int z :: [.int 2, .ref (b + 33)]) (pk_rem (a := c0) (d := 3) (show c0 < 2 ^ 31 by omega) (by decide) (by decide))) ?_
    refine v_iast (n := 30) (es' := (wl D b sc (va_up ar 33 (upd (ar 33) (Int32.toNatClampNeg 2) (nI (c0 % 3)))) hn mh G)) C dX12_isOrder_29 rfl wl_c33 (vp_lit (by decide) (by decide)) (wl_a33 _) ?_
    refine v_iload_n (n := 31) C dX12_isOrder_30 rfl rfl rfl ?_
    refine v_iconst (n := 32) (v := 1) C dX12_isOrder_31 rfl (by decide) ?_
    refine v_aload_n (n := 33) C dX12_isOrder_32 rfl rfl rfl ?_
    refine v_get (n := 36) C dX12_isOrder_33 rfl fl_X12_25_X12 wl_c27 rfl ?_
    refine v_iload (n := 38) C dX12_isOrder_36 rfl rfl ?_
    refine v_iald (n := 39) C dX12_isOrder_38 rfl (show (wl D b sc (va_up ar 33 (upd (ar 33) (Int32.toNatClampNeg 2) (nI (c0 % 3)))) hn mh G)[33]? = some (.inl (D.1 13, 3, .inl (upd (ar 33) (Int32.toNatClampNeg 2) (nI (c0 % 3))))) from wl_c33) (vp_lit (by decide) (by decide)) ?_
    refine v_stk (st' := .int (nI (c0 % 3)) :: [.int 1, .int 0]) (congrArg (fun z : Int32 => Value.int z :: [.int 1, .int 0]) upd_at) ?_
    refine v_ishl (n := 40) C dX12_isOrder_39 rfl ?_
    refine v_ior (n := 41) C dX12_isOrder_40 rfl ?_
    refine v_istore_n (n := 42) (lv' := [(3, .int ((0 : Int32) ||| ((1 : Int32) <<< ((nI (c0 % 3)) &&& 31)))), (4, .int 2), (2, .int (nI c0)), (0, .ref (b + 27)), (1, .int (nI c0))]) C dX12_isOrder_41 rfl rfl (Nat.le_of_ble_eq_true rfl) rfl ?_
    refine v_iload_n (n := 43) C dX12_isOrder_42 rfl rfl rfl ?_
    refine v_aload_n (n := 44) C dX12_isOrder_43 rfl rfl rfl ?_
    refine v_get (n := 47) C dX12_isOrder_44 rfl fl_X12_78_X12 wl_c27 rfl ?_
    refine v_stk (st' := .int 3 :: [.int (nI c0)]) (congrArg (fun z : Int32 => Value.int z :: [.int (nI c0)]) h25) ?_
    refine v_idiv (n := 48) C dX12_isOrder_47 rfl (by decide) ?_
    refine v_stk (st' := .int (nI (c0 / 3)) :: []) (congrArg (fun z : Int32 => Value.int z :: []) (pk_div (a := c0) (d := 3) (show c0 < 2 ^ 31 by omega) (by decide) (by decide))) ?_
    refine v_istore_n (n := 49) (lv' := [(2, .int (nI (c0 / 3))), (3, .int ((0 : Int32) ||| ((1 : Int32) <<< ((nI (c0 % 3)) &&& 31)))), (4, .int 2), (0, .ref (b + 27)), (1, .int (nI c0))]) C dX12_isOrder_48 rfl rfl (Nat.le_of_ble_eq_true rfl) rfl ?_
    refine v_iinc (n := 52) (v := 1) (lv' := [(4, .int 1), (2, .int (nI (c0 / 3))), (3, .int ((0 : Int32) ||| ((1 : Int32) <<< ((nI (c0 % 3)) &&& 31)))), (0, .ref (b + 27)), (1, .int (nI c0))]) C dX12_isOrder_49 rfl rfl rfl (Nat.le_of_ble_eq_true rfl) rfl ?_
    refine v_goto (t := 12) C dX12_isOrder_52 (by decide) ?_
    refine v_iload (n := 14) C dX12_isOrder_12 rfl rfl ?_
    refine v_if_lt (t := 55) (n := 17) C dX12_isOrder_14 (by decide) rfl (fun c_2 => ?_) (fun c_2 => ?_)
    · exact absurd c_2 (by decide)
    · skip
      refine v_aload_n (n := 18) C dX12_isOrder_17 rfl rfl rfl ?_
      refine v_get (n := 21) C dX12_isOrder_18 rfl fl_X12_25_X12 wl_c27 rfl ?_
      refine v_iload (n := 23) C dX12_isOrder_21 rfl rfl ?_
      refine v_iload_n (n := 24) C dX12_isOrder_23 rfl rfl rfl ?_
      refine v_aload_n (n := 25) C dX12_isOrder_24 rfl rfl rfl ?_
      refine v_get (n := 28) C dX12_isOrder_25 rfl fl_X12_78_X12 wl_c27 rfl ?_
      refine v_stk (st' := .int 3 :: [.int (nI (c0 / 3)), .int 1, .ref (b + 33)]) (congrArg (fun z : Int32 => Value.int z :: [.int (nI (c0 / 3)), .int 1, .ref (b + 33)]) h25) ?_
      refine v_irem (n := 29) C dX12_isOrder_28 rfl (by decide) ?_
      refine v_stk (st' := .int (nI ((c0 / 3) % 3)) :: [.int 1, .ref (b + 33)]) (congrArg (fun z : Int32 => Value.int z :: [.int 1, .ref (b + 33)]) (pk_rem (a := (c0 / 3)) (d := 3) (show (c0 / 3) < 2 ^ 31 by omega) (by decide) (by decide))) ?_
      refine v_iast (n := 30) (es' := (wl D b sc (va_up ar 33 (upd (upd (ar 33) (Int32.toNatClampNeg 2) (nI (c0 % 3))) (Int32.toNatClampNeg 1) (nI ((c0 / 3) % 3)))) hn mh G)) C dX12_isOrder_29 rfl (show (wl D b sc (va_up ar 33 (upd (ar 33) (Int32.toNatClampNeg 2) (nI (c0 % 3)))) hn mh G)[33]? = some (.inl (D.1 13, 3, .inl (upd (ar 33) (Int32.toNatClampNeg 2) (nI (c0 % 3))))) from wl_c33) (vp_lit (by decide) (by decide)) rfl ?_
      refine v_iload_n (n := 31) C dX12_isOrder_30 rfl rfl rfl ?_
      refine v_iconst (n := 32) (v := 1) C dX12_isOrder_31 rfl (by decide) ?_
      refine v_aload_n (n := 33) C dX12_isOrder_32 rfl rfl rfl ?_
      refine v_get (n := 36) C dX12_isOrder_33 rfl fl_X12_25_X12 wl_c27 rfl ?_
      refine v_iload (n := 38) C dX12_isOrder_36 rfl rfl ?_
      refine v_iald (n := 39) C dX12_isOrder_38 rfl (show (wl D b sc (va_up ar 33 (upd (upd (ar 33) (Int32.toNatClampNeg 2) (nI (c0 % 3))) (Int32.toNatClampNeg 1) (nI ((c0 / 3) % 3)))) hn mh G)[33]? = some (.inl (D.1 13, 3, .inl (upd (upd (ar 33) (Int32.toNatClampNeg 2) (nI (c0 % 3))) (Int32.toNatClampNeg 1) (nI ((c0 / 3) % 3))))) from wl_c33) (vp_lit (by decide) (by decide)) ?_
      refine v_stk (st' := .int (nI ((c0 / 3) % 3)) :: [.int 1, .int ((0 : Int32) ||| ((1 : Int32) <<< ((nI (c0 % 3)) &&& 31)))]) (congrArg (fun z : Int32 => Value.int z :: [.int 1, .int ((0 : Int32) ||| ((1 : Int32) <<< ((nI (c0 % 3)) &&& 31)))]) upd_at) ?_
      refine v_ishl (n := 40) C dX12_isOrder_39 rfl ?_
      refine v_ior (n := 41) C dX12_isOrder_40 rfl ?_
      refine v_istore_n (n := 42) (lv' := [(3, .int (((0 : Int32) ||| ((1 : Int32) <<< ((nI (c0 % 3)) &&& 31))) ||| ((1 : Int32) <<< ((nI ((c0 / 3) % 3)) &&& 31)))), (4, .int 1), (2, .int (nI (c0 / 3))), (0, .ref (b + 27)), (1, .int (nI c0))]) C dX12_isOrder_41 rfl rfl (Nat.le_of_ble_eq_true rfl) rfl ?_
      refine v_iload_n (n := 43) C dX12_isOrder_42 rfl rfl rfl ?_
      refine v_aload_n (n := 44) C dX12_isOrder_43 rfl rfl rfl ?_
      refine v_get (n := 47) C dX12_isOrder_44 rfl fl_X12_78_X12 wl_c27 rfl ?_
      refine v_stk (st' := .int 3 :: [.int (nI (c0 / 3))]) (congrArg (fun z : Int32 => Value.int z :: [.int (nI (c0 / 3))]) h25) ?_
      refine v_idiv (n := 48) C dX12_isOrder_47 rfl (by decide) ?_
      refine v_stk (st' := .int (nI ((c0 / 3) / 3)) :: []) (congrArg (fun z : Int32 => Value.int z :: []) (pk_div (a := (c0 / 3)) (d := 3) (show (c0 / 3) < 2 ^ 31 by omega) (by decide) (by decide))) ?_
      refine v_istore_n (n := 49) (lv' := [(2, .int (nI ((c0 / 3) / 3))), (3, .int (((0 : Int32) ||| ((1 : Int32) <<< ((nI (c0 % 3)) &&& 31))) ||| ((1 : Int32) <<< ((nI ((c0 / 3) % 3)) &&& 31)))), (4, .int 1), (0, .ref (b + 27)), (1, .int (nI c0))]) C dX12_isOrder_48 rfl rfl (Nat.le_of_ble_eq_true rfl) rfl ?_
      refine v_iinc (n := 52) (v := 0) (lv' := [(4, .int 0), (2, .int (nI ((c0 / 3) / 3))), (3, .int (((0 : Int32) ||| ((1 : Int32) <<< ((nI (c0 % 3)) &&& 31))) ||| ((1 : Int32) <<< ((nI ((c0 / 3) % 3)) &&& 31)))), (0, .ref (b + 27)), (1, .int (nI c0))]) C dX12_isOrder_49 rfl rfl rfl (Nat.le_of_ble_eq_true rfl) rfl ?_
      refine v_goto (t := 12) C dX12_isOrder_52 (by decide) ?_
      refine v_iload (n := 14) C dX12_isOrder_12 rfl rfl ?_
      refine v_if_lt (t := 55) (n := 17) C dX12_isOrder_14 (by decide) rfl (fun c_3 => ?_) (fun c_3 => ?_)
      · exact absurd c_3 (by decide)
      · skip
        refine v_aload_n (n := 18) C dX12_isOrder_17 rfl rfl rfl ?_
        refine v_get (n := 21) C dX12_isOrder_18 rfl fl_X12_25_X12 wl_c27 rfl ?_
        refine v_iload (n := 23) C dX12_isOrder_21 rfl rfl ?_
        refine v_iload_n (n := 24) C dX12_isOrder_23 rfl rfl rfl ?_
        refine v_aload_n (n := 25) C dX12_isOrder_24 rfl rfl rfl ?_
        refine v_get (n := 28) C dX12_isOrder_25 rfl fl_X12_78_X12 wl_c27 rfl ?_
        refine v_stk (st' := .int 3 :: [.int (nI ((c0 / 3) / 3)), .int 0, .ref (b + 33)]) (congrArg (fun z : Int32 => Value.int z :: [.int (nI ((c0 / 3) / 3)), .int 0, .ref (b + 33)]) h25) ?_
        refine v_irem (n := 29) C dX12_isOrder_28 rfl (by decide) ?_
        refine v_stk (st' := .int (nI (((c0 / 3) / 3) % 3)) :: [.int 0, .ref (b + 33)]) (congrArg (fun z : Int32 => Value.int z :: [.int 0, .ref (b + 33)]) (pk_rem (a := ((c0 / 3) / 3)) (d := 3) (show ((c0 / 3) / 3) < 2 ^ 31 by omega) (by decide) (by decide))) ?_
        refine v_iast (n := 30) (es' := (wl D b sc (va_up ar 33 (upd (upd (upd (ar 33) (Int32.toNatClampNeg 2) (nI (c0 % 3))) (Int32.toNatClampNeg 1) (nI ((c0 / 3) % 3))) (Int32.toNatClampNeg 0) (nI (((c0 / 3) / 3) % 3)))) hn mh G)) C dX12_isOrder_29 rfl (show (wl D b sc (va_up ar 33 (upd (upd (ar 33) (Int32.toNatClampNeg 2) (nI (c0 % 3))) (Int32.toNatClampNeg 1) (nI ((c0 / 3) % 3)))) hn mh G)[33]? = some (.inl (D.1 13, 3, .inl (upd (upd (ar 33) (Int32.toNatClampNeg 2) (nI (c0 % 3))) (Int32.toNatClampNeg 1) (nI ((c0 / 3) % 3))))) from wl_c33) (vp_lit (by decide) (by decide)) rfl ?_
        refine v_iload_n (n := 31) C dX12_isOrder_30 rfl rfl rfl ?_
        refine v_iconst (n := 32) (v := 1) C dX12_isOrder_31 rfl (by decide) ?_
        refine v_aload_n (n := 33) C dX12_isOrder_32 rfl rfl rfl ?_
        refine v_get (n := 36) C dX12_isOrder_33 rfl fl_X12_25_X12 wl_c27 rfl ?_
        refine v_iload (n := 38) C dX12_isOrder_36 rfl rfl ?_
        refine v_iald (n := 39) C dX12_isOrder_38 rfl (show (wl D b sc (va_up ar 33 (upd (upd (upd (ar 33) (Int32.toNatClampNeg 2) (nI (c0 % 3))) (Int32.toNatClampNeg 1) (nI ((c0 / 3) % 3))) (Int32.toNatClampNeg 0) (nI (((c0 / 3) / 3) % 3)))) hn mh G)[33]? = some (.inl (D.1 13, 3, .inl (upd (upd (upd (ar 33) (Int32.toNatClampNeg 2) (nI (c0 % 3))) (Int32.toNatClampNeg 1) (nI ((c0 / 3) % 3))) (Int32.toNatClampNeg 0) (nI (((c0 / 3) / 3) % 3))))) from wl_c33) (vp_lit (by decide) (by decide)) ?_
        refine v_stk (st' := .int (nI (((c0 / 3) / 3) % 3)) :: [.int 1, .int (((0 : Int32) ||| ((1 : Int32) <<< ((nI (c0 % 3)) &&& 31))) ||| ((1 : Int32) <<< ((nI ((c0 / 3) % 3)) &&& 31)))]) (congrArg (fun z : Int32 => Value.int z :: [.int 1, .int (((0 : Int32) ||| ((1 : Int32) <<< ((nI (c0 % 3)) &&& 31))) ||| ((1 : Int32) <<< ((nI ((c0 / 3) % 3)) &&& 31)))]) upd_at) ?_
        refine v_ishl (n := 40) C dX12_isOrder_39 rfl ?_
        refine v_ior (n := 41) C dX12_isOrder_40 rfl ?_
        refine v_istore_n (n := 42) (lv' := [(3, .int ((((0 : Int32) ||| ((1 : Int32) <<< ((nI (c0 % 3)) &&& 31))) ||| ((1 : Int32) <<< ((nI ((c0 / 3) % 3)) &&& 31))) ||| ((1 : Int32) <<< ((nI (((c0 / 3) / 3) % 3)) &&& 31)))), (4, .int 0), (2, .int (nI ((c0 / 3) / 3))), (0, .ref (b + 27)), (1, .int (nI c0))]) C dX12_isOrder_41 rfl rfl (Nat.le_of_ble_eq_true rfl) rfl ?_
        refine v_iload_n (n := 43) C dX12_isOrder_42 rfl rfl rfl ?_
        refine v_aload_n (n := 44) C dX12_isOrder_43 rfl rfl rfl ?_
        refine v_get (n := 47) C dX12_isOrder_44 rfl fl_X12_78_X12 wl_c27 rfl ?_
        refine v_stk (st' := .int 3 :: [.int (nI ((c0 / 3) / 3))]) (congrArg (fun z : Int32 => Value.int z :: [.int (nI ((c0 / 3) / 3))]) h25) ?_
        refine v_idiv (n := 48) C dX12_isOrder_47 rfl (by decide) ?_
        refine v_stk (st' := .int (nI (((c0 / 3) / 3) / 3)) :: []) (congrArg (fun z : Int32 => Value.int z :: []) (pk_div (a := ((c0 / 3) / 3)) (d := 3) (show ((c0 / 3) / 3) < 2 ^ 31 by omega) (by decide) (by decide))) ?_
        refine v_istore_n (n := 49) (lv' := [(2, .int (nI (((c0 / 3) / 3) / 3))), (3, .int ((((0 : Int32) ||| ((1 : Int32) <<< ((nI (c0 % 3)) &&& 31))) ||| ((1 : Int32) <<< ((nI ((c0 / 3) % 3)) &&& 31))) ||| ((1 : Int32) <<< ((nI (((c0 / 3) / 3) % 3)) &&& 31)))), (4, .int 0), (0, .ref (b + 27)), (1, .int (nI c0))]) C dX12_isOrder_48 rfl rfl (Nat.le_of_ble_eq_true rfl) rfl ?_
        refine v_iinc (n := 52) (v := (-1)) (lv' := [(4, .int (-1)), (2, .int (nI (((c0 / 3) / 3) / 3))), (3, .int ((((0 : Int32) ||| ((1 : Int32) <<< ((nI (c0 % 3)) &&& 31))) ||| ((1 : Int32) <<< ((nI ((c0 / 3) % 3)) &&& 31))) ||| ((1 : Int32) <<< ((nI (((c0 / 3) / 3) % 3)) &&& 31)))), (0, .ref (b + 27)), (1, .int (nI c0))]) C dX12_isOrder_49 rfl rfl rfl (Nat.le_of_ble_eq_true rfl) rfl ?_
        refine v_goto (t := 12) C dX12_isOrder_52 (by decide) ?_
        refine v_iload (n := 14) C dX12_isOrder_12 rfl rfl ?_
        refine v_if_lt (t := 55) (n := 17) C dX12_isOrder_14 (by decide) rfl (fun c_4 => ?_) (fun c_4 => ?_)
        · skip
          refine v_iload_n (n := 56) C dX12_isOrder_55 rfl rfl rfl ?_
          refine v_iconst (n := 57) (v := 1) C dX12_isOrder_56 rfl (by decide) ?_
          refine v_aload_n (n := 58) C dX12_isOrder_57 rfl rfl rfl ?_
          refine v_get (n := 61) C dX12_isOrder_58 rfl fl_X12_78_X12 wl_c27 rfl ?_
          refine v_stk (st' := .int 3 :: [.int 1, .int ((((0 : Int32) ||| ((1 : Int32) <<< ((nI (c0 % 3)) &&& 31))) ||| ((1 : Int32) <<< ((nI ((c0 / 3) % 3)) &&& 31))) ||| ((1 : Int32) <<< ((nI (((c0 / 3) / 3) % 3)) &&& 31)))]) (congrArg (fun z : Int32 => Value.int z :: [.int 1, .int ((((0 : Int32) ||| ((1 : Int32) <<< ((nI (c0 % 3)) &&& 31))) ||| ((1 : Int32) <<< ((nI ((c0 / 3) % 3)) &&& 31))) ||| ((1 : Int32) <<< ((nI (((c0 / 3) / 3) % 3)) &&& 31)))]) h25) ?_
          refine v_ishl (n := 62) C dX12_isOrder_61 rfl ?_
          refine v_iconst (n := 63) (v := 1) C dX12_isOrder_62 rfl (by decide) ?_
          refine v_isub (n := 64) C dX12_isOrder_63 rfl ?_
          refine v_icmp_ne (t := 71) (n := 67) C dX12_isOrder_64 (by decide) rfl (fun c_5 => ?_) (fun c_5 => ?_)
          · skip
            refine v_iconst (n := 72) (v := 0) C dX12_isOrder_71 rfl (by decide) ?_
            exact v_iret C dX12_isOrder_72 rfl rfl ⟨(upd (upd (upd (ar 33) (Int32.toNatClampNeg 2) (nI (c0 % 3))) (Int32.toNatClampNeg 1) (nI ((c0 / 3) % 3))) (Int32.toNatClampNeg 0) (nI (((c0 / 3) / 3) % 3))), congrArg (fun z : Int32 => some (Value.int z)) ((if_neg (fun q => c_5 ((io3 c0 hc).mpr q))).symm), fun j hj => match j, hj with | 0, _ => congrArg nI (od3 c0 hc).1.symm | 1, _ => congrArg nI (od3 c0 hc).2.1.symm | 2, _ => congrArg nI (od3 c0 hc).2.2.symm, rfl⟩
          · skip
            refine v_iconst (n := 68) (v := 1) C dX12_isOrder_67 rfl (by decide) ?_
            refine v_goto (t := 72) C dX12_isOrder_68 (by decide) ?_
            exact v_iret C dX12_isOrder_72 rfl rfl ⟨(upd (upd (upd (ar 33) (Int32.toNatClampNeg 2) (nI (c0 % 3))) (Int32.toNatClampNeg 1) (nI ((c0 / 3) % 3))) (Int32.toNatClampNeg 0) (nI (((c0 / 3) / 3) % 3))), congrArg (fun z : Int32 => some (Value.int z)) ((if_pos ((io3 c0 hc).mp c_5)).symm), fun j hj => match j, hj with | 0, _ => congrArg nI (od3 c0 hc).1.symm | 1, _ => congrArg nI (od3 c0 hc).2.1.symm | 2, _ => congrArg nI (od3 c0 hc).2.2.symm, rfl⟩
        · exact absurd c_4 (by decide)
