theorem vp_b {i K : Int32} {N : Nat} (hl : 0 ≤ i) (hu : i < K) (hK : K.toInt ≤ (N : Int)) : vp_in i N := by
  rw [Int32.le_iff_toInt_le] at hl
  rw [Int32.lt_iff_toInt_lt] at hu
  have h0 : (0 : Int32).toInt = 0 := rfl
  exact vp_lit (by omega) (by omega)
theorem ti_ne {x y : Int32} (h : ¬ x = y) : ¬ x.toInt = y.toInt := fun q => h (Int32.toInt_inj.mp q)
theorem sw_out3 {x : Int32} (h0 : ¬ x = 0) (h1 : ¬ x = 1) (h2 : ¬ x = 2) : x.toInt < 0 ∨ 2 < x.toInt := by
  have a0 := ti_ne h0
  have a1 := ti_ne h1
  have a2 := ti_ne h2
  have e0 : (0 : Int32).toInt = 0 := rfl
  have e1 : (1 : Int32).toInt = 1 := rfl
  have e2 : (2 : Int32).toInt = 2 := rfl
  omega
theorem sw_out4 {x : Int32} (h0 : ¬ x = 0) (h1 : ¬ x = 1) (h2 : ¬ x = 2) (h3 : ¬ x = 3) : x.toInt < 0 ∨ 3 < x.toInt := by
  have a3 := ti_ne h3
  have e3 : (3 : Int32).toInt = 3 := rfl
  have := sw_out3 h0 h1 h2
  omega
theorem sw_out5 {x : Int32} (h0 : ¬ x = 0) (h1 : ¬ x = 1) (h2 : ¬ x = 2) (h3 : ¬ x = 3) (h4 : ¬ x = 4) : x.toInt < 0 ∨ 4 < x.toInt := by
  have a3 := ti_ne h4
  have e3 : (4 : Int32).toInt = 4 := rfl
  have := sw_out4 h0 h1 h2 h3
  omega
theorem sw_o14 {x : Int32} (h1 : ¬ x = 1) (h2 : ¬ x = 2) (h3 : ¬ x = 3) (h4 : ¬ x = 4) : x.toInt < 1 ∨ 4 < x.toInt := by
  have a1 := ti_ne h1
  have a2 := ti_ne h2
  have a3 := ti_ne h3
  have a4 := ti_ne h4
  have e1 : (1 : Int32).toInt = 1 := rfl
  have e2 : (2 : Int32).toInt = 2 := rfl
  have e3 : (3 : Int32).toInt = 3 := rfl
  have e4 : (4 : Int32).toInt = 4 := rfl
  omega
section VP
variable {p : Program} {l : Launch} {e : Env} {R : Room} {s : State} {m : MethodId} {args : Array Value} {below : List Frame} {meth : Method} {c : Code} {D : va_G} {b nL : Nat} {Q : State → Prop} {cells slots : Nat} {es : List va_E} {lv : List (Nat × Value)} {rest st : List Value} {pc n : Nat} {cc : ByteArray} {own nm : String} {ret : Option FieldType}
theorem v_pick {lv' : List (Nat × Value)} (ks : List Nat) (h : lv_pick lv ks = lv') (K : V p l e R s m args below meth c D b nL Q cells slots es lv' st pc) : V p l e R s m args below meth c D b nL Q cells slots es lv st pc := fun H locs ls hz hP hS hl => K H locs ls hz hP hS (lv_sub hl ks h)
end VP
