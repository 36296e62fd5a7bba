set_option maxHeartbeats 4000000 in
set_option maxRecDepth 100000 in
theorem c_Sea_init (l : Launch) (D : va_G) (b : Nat) (es : List va_E) (j qh : Nat) (he : es[j]? = some (.inr (7, [.null, .int 0, .int 0]))) : Con l yX7_init cX7_init 2 none 1 20 D b 0 0 es [.ref (b + j), .ref (b + qh)] (fun r es' => r = none ∧ es.set j (.inr (7, [.ref (b + qh), .int 0, .int 4])) = es') := by
  refine con_of (by decide) (Nat.le_of_ble_eq_true rfl) (fun p e s m args below meth c C hsz => ?_)
  have C : vC p s m args meth c cX7_init 2 RX7 "<init>" none D b := C
  change V p l e _ s m args below meth c D b 2 _ 0 0 es [(0, .ref (b + j)), (1, .ref (b + qh))] [] 0
  refine v_aload_n (n := 1) C dX7_init_0 rfl rfl rfl ?_
  refine v_oinit (n := 4) C dX7_init_1 rfl lk_X7_3 im_objectInit wc_objectInit (Nat.le_of_ble_eq_true rfl) (Nat.le_of_ble_eq_true rfl) ?_
  refine v_aload_n (n := 5) C dX7_init_4 rfl rfl rfl ?_
  refine v_iconst (n := 6) (v := 4) C dX7_init_5 rfl (by decide) ?_
  refine v_put (n := 9) (es' := (List.set es j (.inr (7, [.null, .int 0, .int 4])))) C dX7_init_6 rfl fl_X7_9_X7 (fp_any fp_X7_2) he rfl rfl (Nat.le_of_ble_eq_true rfl) rfl ?_
  refine v_aload_n (n := 10) C dX7_init_9 rfl rfl rfl ?_
  refine v_aload_n (n := 11) C dX7_init_10 rfl rfl rfl ?_
  refine v_putF (n := 14) (es' := (List.set (List.set es j (.inr (7, [.null, .int 0, .int 4]))) j (.inr (7, [.ref (b + qh), .int 0, .int 4])))) C rfl dX7_init_11 rfl fl_X7_15_X7 fp_X7_0 (eset_self he) rfl rfl (Nat.le_of_ble_eq_true rfl) rfl ?_
  exact v_vret C dX7_init_14 rfl ⟨rfl, by first | rfl | exact lset2.symm⟩
set_option maxHeartbeats 4000000 in
set_option maxRecDepth 100000 in
theorem c_Home_init (l : Launch) (D : va_G) (b : Nat) (es : List va_E) (j : Nat) : Con l yX3_init cX3_init 1 none 1 20 D b 0 0 es [.ref (b + j)] (fun r es' => r = none ∧ es = es') := by
  refine con_of (by decide) (Nat.le_of_ble_eq_true rfl) (fun p e s m args below meth c C hsz => ?_)
  have C : vC p s m args meth c cX3_init 1 RX3 "<init>" none D b := C
  change V p l e _ s m args below meth c D b 1 _ 0 0 es [(0, .ref (b + j))] [] 0
  refine v_aload_n (n := 1) C dX3_init_0 rfl rfl rfl ?_
  refine v_oinit (n := 4) C dX3_init_1 rfl lk_X3_3 im_objectInit wc_objectInit (Nat.le_of_ble_eq_true rfl) (Nat.le_of_ble_eq_true rfl) ?_
  exact v_vret C dX3_init_4 rfl ⟨rfl, rfl⟩
