theorem gd_code {y : MethodName} {cc : ByteArray} {maxL : Nat} {ret : Option FieldType} (h : Cond.code y cc maxL ret ∈ lw_g) : GoodIn lw_g (Cond.code y cc maxL ret :: lw_g) := gd (fun w hw => by
  rcases List.mem_cons.mp hw with rfl | hw
  · exact h
  · exact hw)
section V2
variable {p : Program} {l : Launch} {e : Env} {R : Room} {s : State} {m : MethodId} {args : Array Value} {below : List Frame} {meth : Method} {c : Code} {D : va_G} {b nL : Nat} {Q : State → Prop} {cells slots : Nat} {es : List va_E} {lv : List (Nat × Value)} {rest : List Value} {pc n : Nat} {cc : ByteArray} {own nm : String} {ret : Option FieldType}
theorem hw_size {H : Heap} {locs : List Loc} {T : State} (X : Stand p l e R s m args below meth c T locs cells slots) (hT : T.heap = H) (hz : s.heap.size + cells = b + es.length) (hP : va_P D vwCl (hw b es) H) (hS : va_S (fun q => b ≤ q) s.heap H locs) (hb : b ≤ s.heap.size) : H.size = b + es.length := by
  have h1 := X.heapSize
  rw [hT] at h1
  have h2 := hS.1
  rcases Nat.eq_zero_or_pos es.length with h0 | h0
  · omega
  · have h3 : es[es.length - 1]? = some es[es.length - 1] := List.getElem?_eq_getElem (by omega)
    have h4 := (hP _ _ (hw_get (b := b) h3)).lt
    have h5 : b + (es.length - 1) < H.size := h4
    omega
theorem vU_blind {av : List Value} : FrameBlind (va_Pc av (vU D b es)) := fun _ U _ _ ⟨h1, hz, hP, hK, hT⟩ => ⟨h1, hz, hP, va_K.moved (u := U) (Vm.Alike.refl U.vm) hK, vT_same rfl rfl hT⟩
theorem con_of {y : MethodName} {maxL fr lo mc ms : Nat} {av : List Value} {Post : Option Value → List va_E → Prop} (hy : plainName y.cls = true) (hlen : (lg_sl av).length ≤ maxL)
    (body : ∀ (p : Program) (e : Env) (s : State) (m : MethodId) (args : Array Value) (below : List Frame) (meth : Method) (c : Code), vC p s m args meth c cc maxL y.cls y.name ret D b → s.heap.size = b + es.length →
      V p l e { frames := fr, cells := mc, slots := ms, locals := lo } s m args below meth c D b maxL (MQ below (cQ D b mc Post) args s mc ms (fun q => b ≤ q)) 0 0 es (lv_args 0 av) [] 0) : Con l y cc maxL ret fr lo D b mc ms es av Post := by
  refine Met.ofW (cc := cc) (maxL := maxL) (ret := ret) hy rfl ?_
  intro p e s m args below meth c s₁ B hml hv
  obtain ⟨rfl, hsz, hP, hK, hT⟩ := hv
  have hts := atoms_spec (ws := Cond.code y cc maxL ret :: lw_g) B.pre
  have hl := lv_entry av (n := maxL) hlen
  rw [lg_entry_eq]
  exact body p e s m _ below meth c ⟨B.exec, B.bytes, hml, findClass_of_methodNamed B.named, fun w hw => hts w (List.mem_cons_of_mem _ hw), hK, B.notSynchronized, B.returns, (name_of_methodNamed B.named B.method).1, by omega, hT⟩ hsz s.heap [] _ (by omega) hP va_S.rf hl

theorem v_iret (C : vC p s m args meth c cc nL own nm ret D b) {v : Int32} {ty : FieldType} {Post : Option Value → List va_E → Prop} (hdg : decode cc pc = .ok (.ireturn, 1)) (hret : ret = some ty) (hnar : narrow ty (.int v) = .int v) (hp : Post (some (.int v)) es) : V p l e R s m args below meth c D b nL (MQ below (cQ D b cells Post) args s cells slots (fun q => b ≤ q)) cells slots es lv ([.int v]) pc := by
  intro H locs ls hz hP hS hl
  intro T hT X
  have hzH := hw_size X hT hz hP hS C.2.2.2.2.2.2.2.2.2.1
  exact W.zret C.1 C.2.1 (C.2.2.2.2.2.2.2.1.trans hret) hnar (fun t ht hW => ⟨⟨_, es, rfl, hp, by rw [ht]; exact hzH, by rw [ht]; exact hP⟩, by rw [ht]; omega, hS.F ht⟩) hS.2.2 hdg C.2.2.2.2.2.2.1 T hT X
theorem v_lret (C : vC p s m args meth c cc nL own nm ret D b) {v : Int64} {Post : Option Value → List va_E → Prop} (hdg : decode cc pc = .ok (.lreturn, 1)) (hret : ret = some .long) (hp : Post (some (.long v)) es) : V p l e R s m args below meth c D b nL (MQ below (cQ D b cells Post) args s cells slots (fun q => b ≤ q)) cells slots es lv ([.long v]) pc := by
  intro H locs ls hz hP hS hl
  intro T hT X
  have hzH := hw_size X hT hz hP hS C.2.2.2.2.2.2.2.2.2.1
  exact W.lret C.1 C.2.1 (C.2.2.2.2.2.2.2.1.trans hret) (fun t ht hW => ⟨⟨_, es, rfl, hp, by rw [ht]; exact hzH, by rw [ht]; exact hP⟩, by rw [ht]; omega, hS.F ht⟩) hS.2.2 hdg C.2.2.2.2.2.2.1 T hT X
theorem v_vret (C : vC p s m args meth c cc nL own nm ret D b) {Post : Option Value → List va_E → Prop} (hdg : decode cc pc = .ok (.return_, 1)) (hret : ret = none) (hp : Post none es) : V p l e R s m args below meth c D b nL (MQ below (cQ D b cells Post) args s cells slots (fun q => b ≤ q)) cells slots es lv ([]) pc := by
  intro H locs ls hz hP hS hl
  intro T hT X
  have hzH := hw_size X hT hz hP hS C.2.2.2.2.2.2.2.2.2.1
  exact W.vret C.1 C.2.1 (C.2.2.2.2.2.2.2.1.trans hret) (fun t ht hW => ⟨⟨_, es, rfl, hp, by rw [ht]; exact hzH, by rw [ht]; exact hP⟩, by rw [ht]; omega, hS.F ht⟩) hS.2.2 hdg C.2.2.2.2.2.2.1 T hT X
theorem v_aret (C : vC p s m args meth c cc nL own nm ret D b) {v : Value} {ty : FieldType} {Post : Option Value → List va_E → Prop} (hdg : decode cc pc = .ok (.areturn, 1)) (hret : ret = some ty) (hty : (∃ n, ty = .object n) ∨ ∃ t, ty = .array t) (hv : v = .null ∨ ∃ a, v = .ref a) (hp : Post (some v) es) : V p l e R s m args below meth c D b nL (MQ below (cQ D b cells Post) args s cells slots (fun q => b ≤ q)) cells slots es lv ([v]) pc := by
  intro H locs ls hz hP hS hl
  intro T hT X
  have hzH := hw_size X hT hz hP hS C.2.2.2.2.2.2.2.2.2.1
  exact W.aret C.1 C.2.1 (C.2.2.2.2.2.2.2.1.trans hret) hty hv (fun t ht hW => ⟨⟨_, es, rfl, hp, by rw [ht]; exact hzH, by rw [ht]; exact hP⟩, by rw [ht]; omega, hS.F ht⟩) hS.2.2 hdg C.2.2.2.2.2.2.1 T hT X
theorem v_alen (C : vC p s m args meth c cc nL own nm ret D b) {j N : Nat} {f : Nat → Int32} {v : Int32} (hdg : decode cc pc = .ok (.arraylength, 1)) (hn : pc + 1 = n) (he : es[j]? = some (.inl (D.1 13, N, .inl f))) (hv : Int32.ofNat N = v) (K : V p l e R s m args below meth c D b nL Q cells slots es lv (.int v :: rest) n) : V p l e R s m args below meth c D b nL Q cells slots es lv (.ref (b + j) :: rest) pc := by
  subst hn
  intro H locs ls hz hP hS hl
  exact va_alen C.1 C.2.1 C.2.2.2.2.2.1 hP j 0 (hw_get he) (ty := .int) rfl hv hdg (K H locs ls hz hP hS hl)
theorem v_alenQ (C : vC p s m args meth c cc nL own nm ret D b) {j N : Nat} {f : Nat → Option Nat} {v : Int32} (hdg : decode cc pc = .ok (.arraylength, 1)) (hn : pc + 1 = n) (he : es[j]? = some (.inl (D.1 14, N, .inr (.inr (.inr (.inr f)))))) (hv : Int32.ofNat N = v) (K : V p l e R s m args below meth c D b nL Q cells slots es lv (.int v :: rest) n) : V p l e R s m args below meth c D b nL Q cells slots es lv (.ref (b + j) :: rest) pc := by
  subst hn
  intro H locs ls hz hP hS hl
  exact va_alen C.1 C.2.1 C.2.2.2.2.2.1 hP j 1 (hw_get he) (ty := .object "WheatSea$Hull") rfl hv hdg (K H locs ls hz hP hS hl)
theorem v_iald (C : vC p s m args meth c cc nL own nm ret D b) {j N : Nat} {f : Nat → Int32} {i : Int32} (hdg : decode cc pc = .ok (.iaload, 1)) (hn : pc + 1 = n) (he : es[j]? = some (.inl (D.1 13, N, .inl f))) (hin : vp_in i N) (K : V p l e R s m args below meth c D b nL Q cells slots es lv (.int (f i.toNatClampNeg) :: rest) n) : V p l e R s m args below meth c D b nL Q cells slots es lv (.int i :: .ref (b + j) :: rest) pc := by
  subst hn
  intro H locs ls hz hP hS hl
  exact va_iald C.1 C.2.1 C.2.2.2.2.2.1 hP j 0 (hw_get he) rfl hin hdg (K H locs ls hz hP hS hl)
theorem v_aald (C : vC p s m args meth c cc nL own nm ret D b) {j N : Nat} {f : Nat → Option Nat} {i : Int32} (hdg : decode cc pc = .ok (.aaload, 1)) (hn : pc + 1 = n) (he : es[j]? = some (.inl (D.1 14, N, .inr (.inr (.inr (.inr f)))))) (hin : vp_in i N) (K : V p l e R s m args below meth c D b nL Q cells slots es lv (va_rf (f i.toNatClampNeg) :: rest) n) : V p l e R s m args below meth c D b nL Q cells slots es lv (.int i :: .ref (b + j) :: rest) pc := by
  subst hn
  intro H locs ls hz hP hS hl
  exact va_aldq C.1 C.2.1 C.2.2.2.2.2.1 hP j 1 (hw_get he) rfl hin hdg (K H locs ls hz hP hS hl)
theorem v_iast (C : vC p s m args meth c cc nL own nm ret D b) {j N : Nat} {f : Nat → Int32} {i x : Int32} {es' : List va_E} (hdg : decode cc pc = .ok (.iastore, 1)) (hn : pc + 1 = n) (he : es[j]? = some (.inl (D.1 13, N, .inl f))) (hin : vp_in i N) (hs : es.set j (.inl (D.1 13, N, .inl (upd f i.toNatClampNeg x))) = es') (K : V p l e R s m args below meth c D b nL Q cells slots es' lv (rest) n) : V p l e R s m args below meth c D b nL Q cells slots es lv (.int x :: .int i :: .ref (b + j) :: rest) pc := by
  subst hn
  subst hs
  intro H locs ls hz hP hS hl
  refine va_iast C.1 C.2.1 C.2.2.2.2.2.1 hP (hw_D b es) hS j 0 (hw_get he) rfl hin hdg (fun H1 locs1 hP1 _ hS1 => ?_)
  rw [hw_set] at hP1
  exact K H1 locs1 ls (by rw [List.length_set]; exact hz) hP1 hS1 hl
theorem v_aastN (C : vC p s m args meth c cc nL own nm ret D b) {j N : Nat} {f : Nat → Option Nat} {i : Int32} {es' : List va_E} (hdg : decode cc pc = .ok (.aastore, 1)) (hn : pc + 1 = n) (he : es[j]? = some (.inl (D.1 14, N, .inr (.inr (.inr (.inr f)))))) (hin : vp_in i N) (hs : es.set j (.inl (D.1 14, N, .inr (.inr (.inr (.inr (va_up f i.toNatClampNeg none)))))) = es') (K : V p l e R s m args below meth c D b nL Q cells slots es' lv (rest) n) : V p l e R s m args below meth c D b nL Q cells slots es lv (.null :: .int i :: .ref (b + j) :: rest) pc := by
  subst hn
  subst hs
  intro H locs ls hz hP hS hl
  refine va_astqN C.1 C.2.1 C.2.2.2.2.2.1 hP (hw_D b es) hS j 1 (hw_get he) rfl hin hdg (fun H1 locs1 hP1 _ hS1 => ?_)
  rw [hw_set] at hP1
  exact K H1 locs1 ls (by rw [List.length_set]; exact hz) hP1 hS1 hl
theorem v_aast (C : vC p s m args meth c cc nL own nm ret D b) {j N k : Nat} {f : Nat → Option Nat} {i : Int32} {es' : List va_E} (hdg : decode cc pc = .ok (.aastore, 1)) (hn : pc + 1 = n) (he : es[j]? = some (.inl (D.1 14, N, .inr (.inr (.inr (.inr f)))))) (hin : vp_in i N) (hany : ∀ H : Heap, va_P D vwCl (hw b es) H → va_Any "WheatSea$Hull" s H (b + k)) (hs : es.set j (.inl (D.1 14, N, .inr (.inr (.inr (.inr (va_up f i.toNatClampNeg (some (b + k)))))))) = es') (K : V p l e R s m args below meth c D b nL Q cells slots es' lv (rest) n) : V p l e R s m args below meth c D b nL Q cells slots es lv (.ref (b + k) :: .int i :: .ref (b + j) :: rest) pc := by
  subst hn
  subst hs
  intro H locs ls hz hP hS hl
  refine va_astqM C.1 C.2.1 C.2.2.2.2.2.1 hP (hw_D b es) hS j 1 (hw_get he) rfl (hany H hP) hin hdg (fun H1 locs1 hP1 _ hS1 => ?_)
  rw [hw_set] at hP1
  exact K H1 locs1 ls (by rw [List.length_set]; exact hz) hP1 hS1 hl
theorem v_putF (C : vC p s m args meth c cc nL own nm ret D b) {idx ci k j : Nat} {fs : List Value} {v : Value} {ty : FieldType} {es' : List va_E} (hin2 : nm = "<init>") (hdg : decode cc pc = .ok (.putfield idx, 3)) (hn : pc + 3 = n) (F : FL own idx ci k) (G : FP own ci k true ty) (he : es[j]? = some (.inr (ci, fs))) (hnr : narrow ty v = v) (hfit : fits ty v = true) (hlen : k < fs.length) (hs : es.set j (.inr (ci, fs.set k v)) = es') (K : V p l e R s m args below meth c D b nL Q cells slots es' lv (rest) n) : V p l e R s m args below meth c D b nL Q cells slots es lv (v :: .ref (b + j) :: rest) pc := by
  subst hn
  subst hs
  intro H locs ls hz hP hS hl
  obtain ⟨C', T, N, ref, ty0, hc, hin, hk, hlink, hsame, hty, hnm⟩ := F
  obtain ⟨hd, hfin, hdecl⟩ := G _ _ _ hc
  refine va_putF (ref := ref) C.1 C.2.1 C.2.2.2.2.1 hin ty0 hty hnm C.2.2.2.1 C.2.2.2.2.2.1 hP (hw_D b es) hS j (hw_get he) hc k hk (C.2.2.2.2.1 _ hlink) (fun x hx => ?_) hfin (C.2.2.2.2.2.2.2.2.1.trans hin2) (hdecl rfl) hd hnr hfit hlen hdg (fun H1 locs1 hP1 hD1 hS1 => ?_)
  · rcases hsame with h | h
    · subst h; exact hx
    · exact u_same (C.2.2.2.2.1 _ h) x hx
  · rw [hw_set] at hP1
    exact K H1 locs1 ls (by rw [List.length_set]; exact hz) hP1 hS1 hl
/-- a class that own's entry idx makes: number ci, its fields at the start -/
def NW (own : String) (idx ci : Nat) (fs : List Value) : Prop := ∃ (C : String) (T : u_T) (N : Nat) (ty0 : Nat → FieldType), vwCl[ci]? = some (C, T, N) ∧ (∀ w ∈ u_ws C T N, w ∈ lw_g) ∧ (∀ k, k < N → parseFieldDescriptor (T k).2.2.1 = some (ty0 k)) ∧ Cond.classLink own idx C ∈ lw_g ∧ Cond.instantiable C N ∈ lw_g ∧ Cond.initialized C ∈ lw_g ∧ (∀ j, j < N → defaultValue (ty0 j) = vp_V fs j) ∧ fs.length = N
theorem hw_new {e1 : va_E} {q : Nat} {H1 : Heap} {T : State} {locs : List Loc} (X : Stand p l e R s m args below meth c T locs (cells + 1) slots) (hT : T.heap = H1) (hz : s.heap.size + cells = b + es.length) (hP : va_P D vwCl (hw b es ++ [(q, e1)]) H1) (hD : va_D (fun q => b ≤ q) (hw b es ++ [(q, e1)])) : q = b + es.length := by
  have h1 := X.heapSize
  rw [hT] at h1
  have hlen : (hw b es).length = es.length := by rw [hw, List.length_mapIdx]
  have hq : (hw b es ++ [(q, e1)])[es.length]? = some (q, e1) := by rw [List.getElem?_append_right (by omega), hlen, Nat.sub_self]; rfl
  have h2 : q < H1.size := (hP _ _ hq).lt
  have h3 : b ≤ q := hD.2 _ _ hq
  rcases Nat.lt_or_ge q (b + es.length) with h | h
  · exfalso
    have hk : es[q - b]? = some (es[q - b]'(by omega)) := List.getElem?_eq_getElem (by omega)
    have h4 : (hw b es ++ [(q, e1)])[q - b]? = some (b + (q - b), es[q - b]'(by omega)) := by rw [List.getElem?_append_left (by omega)]; exact hw_get hk
    have h5 := hD.1 _ _ _ _ h4 hq (by show b + (q - b) = q; omega)
    omega
  · omega
theorem v_new (C : vC p s m args meth c cc nL own nm ret D b) {idx ci : Nat} {fs : List Value} {es' : List va_E} (hdg : decode cc pc = .ok (.new idx, 3)) (hn : pc + 3 = n) (F : NW own idx ci fs) (hr : cells + 1 ≤ R.cells ∧ slots + fs.length ≤ R.slots) (hs : es ++ [.inr (ci, fs)] = es') (K : V p l e R s m args below meth c D b nL Q (cells + 1) (slots + fs.length) es' lv (.ref (b + es.length) :: rest) n) : V p l e R s m args below meth c D b nL Q cells slots es lv (rest) pc := by
  subst hn
  subst hs
  intro H locs ls hz hP hS hl
  obtain ⟨C', T, N, ty0, hc, hin, hty, hcl, hinst, hini, hfs, hlen⟩ := F
  subst hlen
  refine va_new C.1 C.2.1 C.2.2.2.2.1 hin ty0 hty C.2.2.2.1 (C.2.2.2.2.1 _ hcl) (C.2.2.2.2.1 _ hinst) (C.2.2.2.2.1 _ hini) C.2.2.2.2.2.1 hP (hw_D b es) hS (fun q h => Nat.le_trans C.2.2.2.2.2.2.2.2.2.1 h) hc hfs hr.1 hr.2 hdg (fun q H1 hP1 hD1 hS1 => fun T1 hT1 X1 => ?_)
  have hq := hw_new X1 hT1 hz hP1 hD1
  subst hq
  rw [hw_push] at hP1
  exact K H1 locs ls (by rw [List.length_append]; show s.heap.size + (cells + 1) = b + (es.length + 1); omega) hP1 hS1 hl T1 hT1 X1
theorem v_newi (C : vC p s m args meth c cc nL own nm ret D b) {k : Int32} {N : Nat} {es' : List va_E} (hdg : decode cc pc = .ok (.newarray .int, 2)) (hn : pc + 2 = n) (hw1 : Cond.arrayClass .int ∈ lw_g) (h0 : ¬ k < 0) (hN : k.toNatClampNeg = N) (hb4 : N * 4 ≤ 536870912) (hr : cells + 1 ≤ R.cells ∧ slots + N ≤ R.slots) (hs : es ++ [.inl (D.1 13, N, .inl (fun _ => 0))] = es') (K : V p l e R s m args below meth c D b nL Q (cells + 1) (slots + N) es' lv (.ref (b + es.length) :: rest) n) : V p l e R s m args below meth c D b nL Q cells slots es lv (.int k :: rest) pc := by
  subst hn
  subst hs
  intro H locs ls hz hP hS hl
  refine va_newa (atype := .int) C.1 C.2.1 (C.2.2.2.2.1 _ hw1) (ty := .int) rfl C.2.2.2.2.2.1 hP (hw_D b es) hS (fun q h => Nat.le_trans C.2.2.2.2.2.2.2.2.2.1 h) (a0 := (N, .inl (fun _ => 0))) (fun cA => rfl) h0 hN hb4 hr.1 hr.2 hdg (fun q cA H1 hK1 hP1 hD1 hS1 => fun T1 hT1 X1 => ?_)
  have hq := hw_new X1 hT1 hz hP1 hD1
  subst hq
  have e1 := (hK1.2 0 _ rfl).2
  have e2 := (hK1.2 2 _ rfl).2
  have e3 : cA = D.1 13 := Option.some.inj (Eq.trans (Eq.symm e2) e1)
  subst e3
  rw [hw_push] at hP1
  exact K H1 locs ls (by rw [List.length_append]; show s.heap.size + (cells + 1) = b + (es.length + 1); omega) hP1 hS1 hl T1 hT1 X1
theorem v_newq (C : vC p s m args meth c cc nL own nm ret D b) {k : Int32} {N idx : Nat} {es' : List va_E} (hdg : decode cc pc = .ok (.anewarray idx, 3)) (hn : pc + 3 = n) (hcl : Cond.classLink own idx "WheatSea$Hull" ∈ lw_g) (h0 : ¬ k < 0) (hN : k.toNatClampNeg = N) (hb4 : N * 4 ≤ 536870912) (hr : cells + 1 ≤ R.cells ∧ slots + N ≤ R.slots) (hs : es ++ [.inl (D.1 14, N, .inr (.inr (.inr (.inr (fun _ => none)))))] = es') (K : V p l e R s m args below meth c D b nL Q (cells + 1) (slots + N) es' lv (.ref (b + es.length) :: rest) n) : V p l e R s m args below meth c D b nL Q cells slots es lv (.int k :: rest) pc := by
  subst hn
  subst hs
  intro H locs ls hz hP hS hl
  refine va_newq C.1 C.2.1 C.2.2.2.1 (C.2.2.2.2.1 _ hcl) C.2.2.2.2.2.2.2.2.2.2.2.1 C.2.2.2.2.2.1 hP (hw_D b es) hS (fun q h => Nat.le_trans C.2.2.2.2.2.2.2.2.2.1 h) h0 hN hb4 hr.1 hr.2 hdg (fun q cA H1 hK1 hP1 hD1 hS1 => fun T1 hT1 X1 => ?_)
  have hq := hw_new X1 hT1 hz hP1 hD1
  subst hq
  obtain ⟨_, _, -, -, -, e1⟩ := (hK1.2 1 _ rfl).2
  obtain ⟨_, _, -, -, -, e2⟩ := (hK1.2 2 _ rfl).2
  have e3 : cA = D.1 14 := Option.some.inj (Eq.trans (Eq.symm e2) e1)
  subst e3
  rw [hw_push] at hP1
  exact K H1 locs ls (by rw [List.length_append]; show s.heap.size + (cells + 1) = b + (es.length + 1); omega) hP1 hS1 hl T1 hT1 X1
/-- Object's constructor -/
theorem v_oinit (C : vC p s m args meth c cc nL own nm ret D b) {x idx : Nat} (hdg : decode cc pc = .ok (.invokespecial idx, 3)) (hn : pc + 3 = n) (h1 : Cond.methodLink own idx objectInit ∈ lw_g) (h2 : Cond.instanceMethod objectInit ∈ lw_g) (h3 : Cond.code objectInit ⟨#[0xb1]⟩ 1 none ∈ lw_g) (hr : 1 ≤ R.frames) (hlo : (rest.map fun v => v.category).sum + 12 ≤ R.locals) (K : V p l e R s m args below meth c D b nL Q cells slots es lv (rest) n) : V p l e R s m args below meth c D b nL Q cells slots es lv (.ref x :: rest) pc := by
  subst hn
  intro H locs ls hz hP hS hl
  refine W.objInit C.1 C.2.1 C.2.2.2.1 (C.2.2.2.2.1 _ h1) (C.2.2.2.2.1 _ h2) (C.2.2.2.2.1 _ h3) rfl (by rw [C.2.2.1]; exact hl.1) rfl hdg hr ?_ (K H locs ls hz hP hS hl)
  show 2 * 0 + _ + 12 ≤ _
  omega

/-! calls -/
def vRun (p : Program) (l : Launch) (e : Env) (R : Room) (s : State) (m : MethodId) (args : Array Value) (below : List Frame) (meth : Method) (c : Code) (D : va_G) (b nL cells slots : Nat) (es : List va_E) (rest st0 : List Value) (pc mc ms : Nat) (Post : Option Value → List va_E → Prop) : Prop :=
  ∀ (H : Heap) (locs : List Loc) (ls : Array Slot), s.heap.size + cells = b + es.length → va_P D vwCl (hw b es) H → va_S (fun q => b ≤ q) s.heap H locs → ls.size = nL → va_Run p l e R s m args below meth c H locs cells slots mc ms (F0 m pc ls st0) rest (cQ D b mc Post #[]) (fun q => b ≤ q)
theorem v_go (C : vC p s m args meth c cc nL own nm ret D b) {st0 : List Value} {mc ms : Nat} {Post : Option Value → List va_E → Prop} (hr : vRun p l e R s m args below meth c D b nL cells slots es rest st0 pc mc ms Post) (hn : pc + 3 = n) (K : ∀ (r : Option Value) (es' : List va_E), Post r es' → es'.length = es.length + mc → V p l e R s m args below meth c D b nL Q (cells + mc) (slots + ms) es' lv (r.toList ++ rest) n) : V p l e R s m args below meth c D b nL Q cells slots es lv (st0) pc := by
  subst hn
  intro H locs ls hz hP hS hl T hT X
  obtain ⟨v, st₀, t, T', L, h0, X', hL, e1, e2, ⟨⟨r, es', hv, hp, hUz, hUP⟩, hF0, hF1, hF2⟩, st⟩ := hr H locs ls hz hP hS hl.1 T hT X
  cases hv
  rw [h0] at hF0 hF1 hF2
  have hzH := hw_size X hT hz hP hS C.2.2.2.2.2.2.2.2.2.1
  have hS' : va_S (fun q => b ≤ q) s.heap T'.heap (locs ++ L) := ⟨Nat.le_trans hS.1 (by rw [e1]; exact hF1), fun q h1 h2 => by rw [e1, hF2 q (Nat.lt_of_lt_of_le h1 hS.1) h2]; exact hS.2.1 q h1 h2, fun q hq => by
    rcases List.mem_append.mp hq with h | h
    · exact hS.2.2 q h
    · exact hL q h⟩
  have hz' : es'.length = es.length + mc := by omega
  obtain ⟨t2, a1, b1⟩ := K v es' hp hz' T'.heap (locs ++ L) ls (by omega) (by rw [e1]; exact hUP) hS' hl T' rfl X'
  exact ⟨t2, st t2 a1, b1⟩
end V2
