def R_law : String := "WheatSeaLaw"
def lw_P (b : Addr) (xs : List Int32) (args : Array Value) (s : State) : Prop := args = #[.ref b] ∧ s.IntsAt b xs ∧ xs.length ≤ 256 ∧ (Jvm.Cond.and given_1 narrow_1).before args s = true
def lw_Q (_ : Array Value) (s : State) (o : Outcome) (t : State) : Prop := o = .returned (some (.int 1)) ∧ Framed s o t [] 600000 7302250
def lw_Z (below : List Frame) (a : Array Value) (s : State) : State → Prop := fun t => ∃ o, t.status = .running ∧ Ended t below o ∧ lw_Q a s o t
/-- the law's own end, with 1 on the stack, nothing written that was there before, its room as the claim has it -/
theorem lw_ret {p : Program} {l : Launch} {e : Env} {s : State} {m : MethodId} {below : List Frame} {meth : Method} {c : Code} {b : Nat} (hx : p.tables.exec = Jvm.exec) (hb : c.code = code) (hr : meth.sig.returnType = ret) (hlocks : meth.locks = false) {pc : Nat} {H : Heap} {ls : Array Slot} (hdg : decode code pc = .ok (.ireturn, 1)) : W p l e room_1 s m #[Value.ref b] below meth c H [] 600000 7302250 (lw_Z below #[Value.ref b] s) (F0 m pc ls [.int 1]) := by
  intro T hT X
  obtain ⟨fs, hret, hrun, hended, hW, hframe⟩ := X.leave (v := some (.int 1)) (hlocks := hlocks) (fun h => by rw [hr] at h; cases h)
  have hmeth' : T.vm.method? m = some meth := X.method'
  refine ⟨T.setFrames fs, ?_, .returned (some (.int 1)), hrun, hended, rfl, ⟨_, rfl⟩, hW, hframe⟩
  jvm_step X.here [X.here.top, hx, hb, hdg, hmeth', hr, ret, narrow_b1]
  (try refine ⟨rfl, ?_⟩); (try refine ⟨rfl, ?_⟩)
  first | (intro acts; rw [hret _ acts rfl rfl rfl]) | rw [hret _ _ rfl rfl rfl]
  exact Steps.refl _
/-- what holds at the law's entry: the machine, the code, the tables' words (any of lw_tbl by 'hts w (by decide +kernel)'), the script of L ints xs at the cell b, what the Statement gives of the start (any of its parts by flat_of_before) -/
def lw_At (p : Program) (s : State) (m : MethodId) (meth : Method) (c : Code) (b L : Nat) (xs : Nat → Int32) : Prop :=
  p.tables.exec = Jvm.exec ∧ c.code = code ∧ meth.sig.returnType = ret ∧ c.maxLocals = 4 ∧ s.vm.findClass R_law = some m.cls ∧ (∀ w ∈ lw_tbl, w.before #[Value.ref b] s = true) ∧ va_X b L xs s s.heap ∧ b < s.heap.size ∧ meth.locks = false ∧ (Jvm.Cond.and given_1 narrow_1).before #[Value.ref b] s = true
theorem sw_out23 {x : Int32} (h0 : ¬ x = 0) (h1 : ¬ x = 1) (h2 : ¬ x = 2) (h3 : ¬ x = 3) (h4 : ¬ x = 4) (h5 : ¬ x = 5) (h6 : ¬ x = 6) (h7 : ¬ x = 7) (h8 : ¬ x = 8) (h9 : ¬ x = 9) (h10 : ¬ x = 10) (h11 : ¬ x = 11) (h12 : ¬ x = 12) (h13 : ¬ x = 13) (h14 : ¬ x = 14) (h15 : ¬ x = 15) (h16 : ¬ x = 16) (h17 : ¬ x = 17) (h18 : ¬ x = 18) (h19 : ¬ x = 19) (h20 : ¬ x = 20) (h21 : ¬ x = 21) (h22 : ¬ x = 22) : x.toInt < 0 ∨ 22 < x.toInt := by
  have := sw_out14 h0 h1 h2 h3 h4 h5 h6 h7 h8 h9 h10 h11 h12 h13
  have a14 := ti_ne h14
  have a15 := ti_ne h15
  have a16 := ti_ne h16
  have a17 := ti_ne h17
  have a18 := ti_ne h18
  have a19 := ti_ne h19
  have a20 := ti_ne h20
  have a21 := ti_ne h21
  have a22 := ti_ne h22
  have e14 : (14 : Int32).toInt = 14 := rfl
  have e15 : (15 : Int32).toInt = 15 := rfl
  have e16 : (16 : Int32).toInt = 16 := rfl
  have e17 : (17 : Int32).toInt = 17 := rfl
  have e18 : (18 : Int32).toInt = 18 := rfl
  have e19 : (19 : Int32).toInt = 19 := rfl
  have e20 : (20 : Int32).toInt = 20 := rfl
  have e21 : (21 : Int32).toInt = 21 := rfl
  have e22 : (22 : Int32).toInt = 22 := rfl
  omega
theorem lg_same {x y : Int64} (h : x = y) : lg_cmp x y = 0 := by
  subst h
  unfold lg_cmp
  rw [if_neg (Int64.lt_irrefl), if_pos rfl]
theorem sl_e {i : Nat} (j : Nat) : nI (4 * i) + nI j = nI (4 * i + j) := nI_add _ _
section LAW
variable {p : Program} {l : Launch} {e : Env} {s : State} {m : MethodId} {below : List Frame} {meth : Method} {c : Code} {D : va_G} {b bb L : Nat} {xs : Nat → Int32} {rt : Option FieldType} {nm : String} {cells slots : Nat} {es : List va_E} {lv : List (Nat × Value)} {rest : List Value} {pc n : Nat}
/-- the script's length -/
theorem y_slen (C : vC p s m #[.ref bb] meth c cL_law 4 RL nm rt D b) (X : va_X bb L xs s s.heap) (hbl : bb < s.heap.size) (hge : s.heap.size ≤ b) (hdg : decode cL_law pc = .ok (.arraylength, 1)) (hn : pc + 1 = n) (K : V p l e room_1 s m #[.ref bb] below meth c D b 4 (lw_Z below #[.ref bb] s) cells slots es lv (.int (nI L) :: rest) n) : V p l e room_1 s m #[.ref bb] below meth c D b 4 (lw_Z below #[.ref bb] s) cells slots es lv (.ref bb :: rest) pc := by
  subst hn
  intro H locs ls hz hP hS hl
  exact va_slen C.1 C.2.1 X hbl (Nat.not_le.mpr (Nat.lt_of_lt_of_le hbl hge)) hS hdg (K H locs ls hz hP hS hl)
/-- the script's int at a place -/
theorem y_sld (C : vC p s m #[.ref bb] meth c cL_law 4 RL nm rt D b) (X : va_X bb L xs s s.heap) (hbl : bb < s.heap.size) (hge : s.heap.size ≤ b) (hdg : decode cL_law pc = .ok (.iaload, 1)) (hn : pc + 1 = n) {v : Int32} {j : Nat} (hv : v = nI j) (hj : j < L) (hL : L ≤ 256) (K : V p l e room_1 s m #[.ref bb] below meth c D b 4 (lw_Z below #[.ref bb] s) cells slots es lv (.int (xs j) :: rest) n) : V p l e room_1 s m #[.ref bb] below meth c D b 4 (lw_Z below #[.ref bb] s) cells slots es lv (.int v :: .ref bb :: rest) pc := by
  subst hn
  subst hv
  intro H locs ls hz hP hS hl
  refine va_sld C.1 C.2.1 X hbl (Nat.not_le.mpr (Nat.lt_of_lt_of_le hbl hge)) hS (vp_in_nI hj (by omega)) hdg ?_
  rw [nI_clamp (show j < 2 ^ 31 by omega)]
  exact K H locs ls hz hP hS hl
/-- the law's end -/
theorem y_end (C : vC p s m #[.ref bb] meth c cL_law 4 RL nm rt D b) (hge : s.heap.size ≤ b) (hr : meth.sig.returnType = ret) (hdg : decode cL_law pc = .ok (.ireturn, 1)) (h1 : cells ≤ 600000) (h2 : slots ≤ 7302250) : V p l e room_1 s m #[.ref bb] below meth c D b 4 (lw_Z below #[.ref bb] s) cells slots es lv [.int 1] pc := by
  intro H locs ls hz hP hS hl
  exact va_forget (fun q hq => Nat.le_trans hge (hS.2.2 q hq)) (W.widen h1 h2 (lw_ret C.1 C.2.1 hr C.2.2.2.2.2.2.1 hdg))
/-- from the head of the loop, with N steps done, whatever the two objects hold so long as they are alike -/
def LW (p : Program) (l : Launch) (e : Env) (s : State) (m : MethodId) (below : List Frame) (meth : Method) (c : Code) (D : va_G) (b bb : Nat) (N : Nat) : Prop := ∀ (sc : Nat → Int32) (ar : Nat → Nat → Int32) (hn : Nat → Option Nat) (mh : Int64) (G : List va_E) (hv : HV) (cells slots : Nat), zAll sc ar hv N → HVr hn G hv → cells ≤ 100 + N → slots ≤ 1000 + 3 * N → V p l e room_1 s m #[.ref bb] below meth c D b 4 (lw_Z below #[.ref bb] s) cells slots (wl D b sc ar hn mh G) [(3, .int (nI (4 * N))), (2, .ref (b + 27)), (1, .ref (b + 0)), (0, .ref bb)] [] 18
theorem law_next (C : vC p s m #[.ref bb] meth c cL_law 4 RL nm rt D b) {i : Nat} (ih : LW p l e s m below meth c D b bb (i + 1)) {sc : Nat → Int32} {ar : Nat → Nat → Int32} {hn : Nat → Option Nat} {mh : Int64} {G : List va_E} {hv : HV} (hall : zAll sc ar hv (i + 1)) (hvr : HVr hn G hv) (hc : cells ≤ 100 + (i + 1)) (hs : slots ≤ 1000 + 3 * (i + 1)) : V p l e room_1 s m #[.ref bb] below meth c D b 4 (lw_Z below #[.ref bb] s) cells slots (wl D b sc ar hn mh G) [(3, .int (nI (4 * i))), (2, .ref (b + 27)), (1, .ref (b + 0)), (0, .ref bb)] [] 750 := by
  refine v_iinc (n := 753) (v := nI (4 * i) + 4) (lv' := [(3, .int (nI (4 * i) + 4)), (2, .ref (b + 27)), (1, .ref (b + 0)), (0, .ref bb)]) C dL_law_750 rfl rfl rfl (Nat.le_of_ble_eq_true rfl) rfl ?_
  refine v_goto (t := 18) C dL_law_753 (by decide) ?_
  have e4 : nI (4 * i) + 4 = nI (4 * (i + 1)) := sl_e (i := i) 4
  rw [e4]
  exact ih sc ar hn mh G hv cells slots hall hvr hc hs
end LAW
