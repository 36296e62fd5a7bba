theorem vp_b {i K : Int32} {N : Nat} (hl : 0 ≤ i) (hu : i < K) (hK : K.toInt ≤ (N : Int)) : vp_in i N := by
  rw [Int32.le_iff_toInt_le] at hl
  rw [Int32.lt_iff_toInt_lt] at hu
  have h0 : (0 : Int32).toInt = 0 := rfl
  exact vp_lit (by omega) (by omega)
theorem ti_ne {x y : Int32} (h : ¬ x = y) : ¬ x.toInt = y.toInt := fun q => h (Int32.toInt_inj.mp q)
theorem sw_out3 {x : Int32} (h0 : ¬ x = 0) (h1 : ¬ x = 1) (h2 : ¬ x = 2) : x.toInt < 0 ∨ 2 < x.toInt := by
  have a0 := ti_ne h0
  have a1 := ti_ne h1
  have a2 := ti_ne h2
  have e0 : (0 : Int32).toInt = 0 := rfl
  have e1 : (1 : Int32).toInt = 1 := rfl
  have e2 : (2 : Int32).toInt = 2 := rfl
  omega
theorem sw_out4 {x : Int32} (h0 : ¬ x = 0) (h1 : ¬ x = 1) (h2 : ¬ x = 2) (h3 : ¬ x = 3) : x.toInt < 0 ∨ 3 < x.toInt := by
  have a3 := ti_ne h3
  have e3 : (3 : Int32).toInt = 3 := rfl
  have := sw_out3 h0 h1 h2
  omega
theorem sw_out5 {x : Int32} (h0 : ¬ x = 0) (h1 : ¬ x = 1) (h2 : ¬ x = 2) (h3 : ¬ x = 3) (h4 : ¬ x = 4) : x.toInt < 0 ∨ 4 < x.toInt := by
  have a3 := ti_ne h4
  have e3 : (4 : Int32).toInt = 4 := rfl
  have := sw_out4 h0 h1 h2 h3
  omega
theorem sw_o14 {x : Int32} (h1 : ¬ x = 1) (h2 : ¬ x = 2) (h3 : ¬ x = 3) (h4 : ¬ x = 4) : x.toInt < 1 ∨ 4 < x.toInt := by
  have a1 := ti_ne h1
  have a2 := ti_ne h2
  have a3 := ti_ne h3
  have a4 := ti_ne h4
  have e1 : (1 : Int32).toInt = 1 := rfl
  have e2 : (2 : Int32).toInt = 2 := rfl
  have e3 : (3 : Int32).toInt = 3 := rfl
  have e4 : (4 : Int32).toInt = 4 := rfl
  omega
section VP
variable {p : Program} {l : Launch} {e : Env} {R : Room} {s : State} {m : MethodId} {args : Array Value} {below : List Frame} {meth : Method} {c : Code} {D : va_G} {b nL : Nat} {Q : State → Prop} {cells slots : Nat} {es : List va_E} {lv : List (Nat × Value)} {rest st : List Value} {pc n : Nat} {cc : ByteArray} {own nm : String} {ret : Option FieldType}
theorem v_pick {lv' : List (Nat × Value)} (ks : List Nat) (h : lv_pick lv ks = lv') (K : V p l e R s m args below meth c D b nL Q cells slots es lv' st pc) : V p l e R s m args below meth c D b nL Q cells slots es lv st pc := fun H locs ls hz hP hS hl => K H locs ls hz hP hS (lv_sub hl ks h)
end VP
theorem loop_dn {P : Nat → Prop} (N : Nat) (hN : P N) (hs : ∀ i, i < N → P (i + 1) → P i) : P 0 := by
  have h : ∀ n i, i + n = N → P i := by
    intro n
    induction n with
    | zero => intro i hi; rw [show i = N by omega]; exact hN
    | succ n ih => intro i hi; exact hs i (by omega) (ih (i + 1) (by omega))
  exact h N 0 (by omega)
section VQ
variable {p : Program} {l : Launch} {e : Env} {R : Room} {s : State} {m : MethodId} {args : Array Value} {below : List Frame} {meth : Method} {c : Code} {D : va_G} {b nL : Nat} {Q : State → Prop} {cells slots : Nat} {es es' : List va_E} {lv lv' : List (Nat × Value)} {st st' : List Value} {pc n : Nat}
theorem v_cong (h1 : es = es') (h2 : lv = lv') (K : V p l e R s m args below meth c D b nL Q cells slots es' lv' st pc) : V p l e R s m args below meth c D b nL Q cells slots es lv st pc := by
  rw [h1, h2]
  exact K
theorem v_stk (h1 : st = st') (K : V p l e R s m args below meth c D b nL Q cells slots es lv st' pc) : V p l e R s m args below meth c D b nL Q cells slots es lv st pc := by
  rw [h1]
  exact K
end VQ
theorem nI_n12 {i : Nat} {N : Nat} (h : i < N) (hN : N < 2 ^ 31) : ¬ Int32.ofNat N ≤ nI i := nI_ge h hN
theorem nI_g12 {N : Nat} : Int32.ofNat N ≤ nI N := Int32.le_refl _
theorem nI_vp {i N M : Nat} (h : i < N) (hM : N ≤ M) (hN : M < 2 ^ 31) : vp_in (nI i) M := vp_in_nI (Nat.lt_of_lt_of_le h hM) hN
theorem cg1 {α γ : Type} (f : α → γ) {a a' : α} (h1 : a = a') : f a = f a' := by rw [h1]
theorem cg2 {α β γ : Type} (f : α → β → γ) {a a' : α} {b b' : β} (h1 : a = a') (h2 : b = b') : f a b = f a' b' := by rw [h1, h2]
theorem cg3 {α β γ δ : Type} (f : α → β → γ → δ) {a a' : α} {b b' : β} {c c' : γ} (h1 : a = a') (h2 : b = b') (h3 : c = c') : f a b c = f a' b' c' := by rw [h1, h2, h3]
theorem cg4 {α β γ δ ε : Type} (f : α → β → γ → δ → ε) {a a' : α} {b b' : β} {c c' : γ} {d d' : δ} (h1 : a = a') (h2 : b = b') (h3 : c = c') (h4 : d = d') : f a b c d = f a' b' c' d' := by rw [h1, h2, h3, h4]
theorem cg5 {α β γ δ ε ζ : Type} (f : α → β → γ → δ → ε → ζ) {a a' : α} {b b' : β} {c c' : γ} {d d' : δ} {e e' : ε} (h1 : a = a') (h2 : b = b') (h3 : c = c') (h4 : d = d') (h5 : e = e') : f a b c d e = f a' b' c' d' e' := by rw [h1, h2, h3, h4, h5]
theorem cg6 {α β γ δ ε ζ η : Type} (f : α → β → γ → δ → ε → ζ → η) {a a' : α} {b b' : β} {c c' : γ} {d d' : δ} {e e' : ε} {g g' : ζ} (h1 : a = a') (h2 : b = b') (h3 : c = c') (h4 : d = d') (h5 : e = e') (h6 : g = g') : f a b c d e g = f a' b' c' d' e' g' := by rw [h1, h2, h3, h4, h5, h6]
