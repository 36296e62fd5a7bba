/-- the tables' words that a callee may be handed on -/
def lw_g : List Cond := lw_tbl.filter goodWord
theorem gm {w : Cond} (h : w ∈ lw_tbl) (hg : goodWord w = true) : w ∈ lw_g := List.mem_filter.mpr ⟨h, hg⟩
theorem gmi {w : Cond} (i : Nat) (h : lw_tbl[i]? = some w) (hg : goodWord w = true) : w ∈ lw_g := gm (List.mem_of_getElem? h) hg
theorem gd {ws : List Cond} (h : ∀ w ∈ ws, w ∈ lw_g) : GoodIn lw_g ws := fun w hw => ⟨h w hw, good_of_word (List.mem_filter.mp (h w hw)).2⟩
/-! the whole heap of the law's objects in places: the k-th cell lies at b + k -/
def hw (b : Nat) (es : List va_E) : va_W := es.mapIdx (fun i e => (b + i, e))
theorem hw_get {b k : Nat} {es : List va_E} {e : va_E} (h : es[k]? = some e) : (hw b es)[k]? = some (b + k, e) := by
  simp [hw, List.getElem?_mapIdx, h]
theorem hw_inv {b k : Nat} {es : List va_E} {q : Nat × va_E} (h : (hw b es)[k]? = some q) : ∃ e, es[k]? = some e ∧ q = (b + k, e) := by
  rw [hw, List.getElem?_mapIdx] at h
  cases he : es[k]? with
  | none => rw [he] at h; cases h
  | some e => rw [he] at h; exact ⟨e, rfl, (Option.some.inj h).symm⟩
theorem hw_ext {b : Nat} {ws : va_W} {es : List va_E} (h : ∀ k : Nat, ws[k]? = es[k]?.map (fun e => (b + k, e))) : ws = hw b es := by
  apply List.ext_getElem?
  intro k
  rw [h k, hw, List.getElem?_mapIdx]
theorem hw_set {b k : Nat} {es : List va_E} {e : va_E} : (hw b es).set k (b + k, e) = hw b (es.set k e) := by
  apply hw_ext
  intro j
  rw [List.getElem?_set, List.getElem?_set, hw, List.getElem?_mapIdx, List.length_mapIdx]
  by_cases hkj : k = j
  · subst hkj
    simp only [if_true]
    by_cases hl : k < es.length
    · rw [if_pos hl, if_pos hl]; rfl
    · rw [if_neg hl, if_neg hl]; rfl
  · rw [if_neg hkj, if_neg hkj]
theorem hw_push {b : Nat} {es : List va_E} {e : va_E} : hw b es ++ [(b + es.length, e)] = hw b (es ++ [e]) := by
  apply hw_ext
  intro j
  have hlen : (hw b es).length = es.length := by rw [hw, List.length_mapIdx]
  by_cases hl : j < es.length
  · rw [List.getElem?_append_left (by rw [hlen]; exact hl), List.getElem?_append_left hl, hw, List.getElem?_mapIdx]
  · rw [List.getElem?_append_right (by rw [hlen]; omega), List.getElem?_append_right (by omega), hlen]
    by_cases h0 : j - es.length = 0
    · have : j = es.length := by omega
      subst this
      simp
    · rw [List.getElem?_eq_none (by simp; omega), List.getElem?_eq_none (by simp; omega)]; rfl
theorem hw_D (b : Nat) (es : List va_E) : va_D (fun q => b ≤ q) (hw b es) := by
  refine ⟨fun i j p q hi hj hpq => ?_, fun k q hk => ?_⟩
  · obtain ⟨e1, -, rfl⟩ := hw_inv hi
    obtain ⟨e2, -, rfl⟩ := hw_inv hj
    have h : b + i = b + j := hpq
    omega
  · obtain ⟨e, -, rfl⟩ := hw_inv hk
    exact Nat.le_add_right _ _
/-! locals by their numbers -/
def lget : List (Nat × Value) → Nat → Option Value
  | [], _ => none
  | (j, v) :: r, i => if j == i then some v else lget r i
def lset (i : Nat) (v : Value) (lv : List (Nat × Value)) : List (Nat × Value) := (i, v) :: lv.filter (fun q => !(q.1 == i) && !(q.1 + 1 == i && q.2.category == 2))
def lsetL (i : Nat) (v : Value) (lv : List (Nat × Value)) : List (Nat × Value) := (i, v) :: lv.filter (fun q => !(q.1 == i) && (!(q.1 == i + 1) && !(q.1 + 1 == i && q.2.category == 2)))
theorem lget_mem : ∀ {lv : List (Nat × Value)} {i : Nat} {v : Value}, lget lv i = some v → (i, v) ∈ lv
  | [], i, v, h => by cases h
  | (j, u) :: r, i, v, h => by
    unfold lget at h
    by_cases hj : (j == i) = true
    · rw [if_pos hj] at h
      have := beq_iff_eq.mp hj
      subst this
      cases h
      exact List.mem_cons_self
    · rw [if_neg hj] at h
      exact List.mem_cons_of_mem _ (lget_mem h)
theorem lget_has {ls : Array Slot} {nL : Nat} {lv : List (Nat × Value)} {i : Nat} {v : Value} (hl : lv_has ls nL lv) (h : lget lv i = some v) : ls[i]? = some (.val v) := hl.2.2 (i, v) (lget_mem h)
theorem lget_at : ∀ {lv : List (Nat × Value)} {i : Nat} {v : Value}, lget lv i = some v → ∃ k : Nat, lv[k]? = some (i, v) := fun h => List.getElem?_of_mem (lget_mem h)
/-- fewer locals -/
def lsub (lv' lv : List (Nat × Value)) : Prop := ∀ q ∈ lv', q ∈ lv
theorem lsub_has {ls : Array Slot} {nL : Nat} {lv lv' : List (Nat × Value)} (hl : lv_has ls nL lv) (h : ∀ q ∈ lv', q ∈ lv) : lv_has ls nL lv' := ⟨hl.1, hl.2.1, fun q hq => hl.2.2 q (h q hq)⟩
/-! what stays the same below b all the time: the one static row, the one text -/
def vSlen : List Nat := [16]
def vSbyt : List (List Int32) := [[48, 48, 48, 48, 44, 48, 48, 48, 48, 44, 48, 48, 48, 48, 59, 49]]
def ordF (j : Nat) : Int32 := ([0, 1, 2, 0, 2, 1, 1, 0, 2, 1, 2, 0, 2, 0, 1, 2, 1, 0] : List Int32).getD j 0
def ncK : List (String × String) := [("WheatSea$Hull", "WheatSea$Cutter"), ("WheatSea$Hull", "WheatSea$Galley"), ("WheatSea$Hull", "WheatSea$Sled"), ("WheatSea$Hull", "WheatSea$Sloop"), ("WheatSea$Sloop", "WheatSea$Cutter"), ("WheatSea$Sloop", "WheatSea$Galley"), ("WheatSea$Sloop", "WheatSea$Sled"), ("WheatSea$Galley", "WheatSea$Cutter"), ("WheatSea$Galley", "WheatSea$Sled"), ("WheatSea$Galley", "WheatSea$Sloop"), ("WheatSea$Sled", "WheatSea$Cutter"), ("WheatSea$Sled", "WheatSea$Galley"), ("WheatSea$Sled", "WheatSea$Sloop"), ("WheatSea$Cutter", "WheatSea$Galley"), ("WheatSea$Cutter", "WheatSea$Sled")]
def nestK : List (String × Nat × MethodName) := [("WheatSea", 21, ⟨"WheatSea$Seen", "<init>", "()V"⟩), ("WheatSea", 28, ⟨"WheatSea$Image", "<init>", "()V"⟩), ("WheatSea$Image", 11, ⟨"WheatSea$Seen", "<init>", "()V"⟩), ("WheatSea", 35, ⟨"WheatSea$Chart", "<init>", "()V"⟩), ("WheatSea", 42, ⟨"WheatSea$Homecoming", "<init>", "()V"⟩), ("WheatSea", 49, ⟨"WheatSea$June", "<init>", "()V"⟩), ("WheatSea$Sea", 32, ⟨"WheatSea", "beside", "(II)I"⟩), ("WheatSea$Chart", 18, ⟨"WheatSea", "isCell", "(I)Z"⟩), ("WheatSea$Chart", 36, ⟨"WheatSea", "beside", "(II)I"⟩), ("WheatSea$Seen", 62, ⟨"WheatSea", "isCell", "(I)Z"⟩), ("WheatSea$Seen", 59, ⟨"WheatSea", "beside", "(II)I"⟩), ("WheatSea$June", 51, ⟨"WheatSea", "beside", "(II)I"⟩)]
def vT (D : va_G) (b : Nat) (U : State) : Prop :=
  (∀ q ∈ ncK, va_Nc q.1 q.2 U) ∧ va_AO "WheatSea$Hull" U ∧ (∀ q ∈ nestK, va_Nw (.methodLinkNest q.1 q.2.1 q.2.2 "WheatSea") U) ∧
  (∃ t, va_Z "WheatSea$Homecoming" "ORDERS" "[I" (.ref t) (fun q => b ≤ q) U U.heap ∧ va_T .int t 18 (fun j => .int (ordF j)) (fun q => b ≤ q) U U.heap) ∧
  (vk_S 1 vSlen vSbyt (D.2 99) (D.2 98) (fun q => b ≤ q) U U.heap ∧ vk_R "WheatSea" 74 "0000,0000,0000;1" (D.2 99 0) U) ∧
  va_Z "java/lang/String" "COMPACT_STRINGS" "Z" (.int 1) (fun q => b ≤ q) U U.heap ∧
  va_Zq "jdk/internal/util/Preconditions" "SIOOBE_FORMATTER" "Ljava/util/function/BiFunction;" (fun q => b ≤ q) U U.heap ∧ va_Nw (.castable "WheatSea$Cutter" "WheatSea$Sloop") U
theorem vT_to {D : va_G} {b : Nat} {s U : State} (hW : s.WarmedH U.vm) (hq : ∀ a : Nat, a < s.heap.size → ¬ b ≤ a → U.heap[a]? = s.heap[a]?) (h : vT D b s) : vT D b U := by
  obtain ⟨h0, hao, hnw, ⟨t, h1, h2⟩, ⟨h3, h4⟩, h5, h6, h7⟩ := h
  exact ⟨fun q hq => (h0 q hq).moved hW.alike, hao.moved hW.alike, fun q hq => va_Nw.warmM hW (hnw q hq), ⟨t, (va_Z.moved hW.alike h1).kept hq, (va_T.moved hW.alike h2).kept hq⟩, ⟨vk_S.kept (vk_S.moved hW.alike h3) hq, vk_R.warm hW h4⟩, (va_Z.moved hW.alike h5).kept hq, (va_Zq.moved hW.alike h6).kept hq, va_Nw.warmC hW h7⟩
theorem vT_same {D : va_G} {b : Nat} {u U : State} (hv : U.vm = u.vm) (hh : U.heap = u.heap) (h : vT D b u) : vT D b U := by
  obtain ⟨h0, hao, hnw, ⟨t, h1, h2⟩, ⟨h3, h4⟩, h5, h6, h7⟩ := h
  have ha : u.vm.Alike U.vm := by rw [hv]; exact Vm.Alike.refl _
  rw [vT, hh]
  exact ⟨fun q hq => (h0 q hq).moved ha, hao.moved ha, fun q hq => va_Nw.same rfl hv.symm (hnw q hq), ⟨t, va_Z.moved ha h1, va_T.moved ha h2⟩, ⟨vk_S.moved ha h3, vk_R.same hv h4⟩, va_Z.moved ha h5, va_Zq.moved ha h6, va_Nw.same rfl hv.symm h7⟩
abbrev tyD (D : va_G) : List (ClassId × FieldType) := [(D.1 13, .int), (D.1 14, .object "WheatSea$Hull")]
/-- a method's start: the whole heap is es -/
def vU (D : va_G) (b : Nat) (es : List va_E) (U : State) : Prop := U.heap.size = b + es.length ∧ va_P D vwCl (hw b es) U.heap ∧ va_K D vwCl (tyD D) U ∧ vT D b U
/-- a method's end -/
def cQ (D : va_G) (b mc : Nat) (Post : Option Value → List va_E → Prop) : Array Value → State → Outcome → State → Prop := fun _ st oc t =>
  (∃ (r : Option Value) (es' : List va_E), oc = .returned r ∧ Post r es' ∧ t.heap.size = b + es'.length ∧ va_P D vwCl (hw b es') t.heap) ∧ t.heap.size = st.heap.size + mc ∧ va_F (fun q => b ≤ q) st t
/-- a method's contract: called with these arguments on the heap es it returns r on the heap es', as Post says -/
def Con (l : Launch) (y : MethodName) (cc : ByteArray) (maxL : Nat) (ret : Option FieldType) (fr lo : Nat) (D : va_G) (b mc ms : Nat) (es : List va_E) (av : List Value) (Post : Option Value → List va_E → Prop) : Prop :=
  Met l y (Cond.code y cc maxL ret :: lw_g) { frames := fr, cells := mc, slots := ms, locals := lo } (va_Pc av (vU D b es)) (cQ D b mc Post) mc ms (fun q => b ≤ q)
/-- what a body knows -/
abbrev vC (p : Program) (s : State) (m : MethodId) (args : Array Value) (meth : Method) (c : Code) (cc : ByteArray) (nL : Nat) (own nm : String) (ret : Option FieldType) (D : va_G) (b : Nat) : Prop :=
  p.tables.exec = Jvm.exec ∧ c.code = cc ∧ c.maxLocals = nL ∧ s.vm.findClass own = some m.cls ∧ (∀ w ∈ lw_g, w.before args s = true) ∧ va_K D vwCl (tyD D) s ∧ meth.locks = false ∧ meth.sig.returnType = ret ∧ meth.name = nm ∧ b ≤ s.heap.size ∧ vT D b s
/-- the judgement: from here, with the heap es, the locals lv, the stack st, the machine comes to Q -/
def V (p : Program) (l : Launch) (e : Env) (R : Room) (s : State) (m : MethodId) (args : Array Value) (below : List Frame) (meth : Method) (c : Code) (D : va_G) (b nL : Nat) (Q : State → Prop) (cells slots : Nat) (es : List va_E) (lv : List (Nat × Value)) (st : List Value) (pc : Nat) : Prop :=
  ∀ (H : Heap) (locs : List Loc) (ls : Array Slot), s.heap.size + cells = b + es.length → va_P D vwCl (hw b es) H → va_S (fun q => b ≤ q) s.heap H locs → lv_has ls nL lv → W p l e R s m args below meth c H locs cells slots Q (F0 m pc ls st)
section VV
variable {p : Program} {l : Launch} {e : Env} {R : Room} {s : State} {m : MethodId} {args : Array Value} {below : List Frame} {meth : Method} {c : Code} {D : va_G} {b nL : Nat} {Q : State → Prop} {cells slots : Nat} {es : List va_E} {lv : List (Nat × Value)} {rest : List Value} {pc n : Nat} {cc : ByteArray} {own nm : String} {ret : Option FieldType}
theorem v_sub {lv' : List (Nat × Value)} {st : List Value} (h : ∀ q ∈ lv', q ∈ lv) (K : V p l e R s m args below meth c D b nL Q cells slots es lv' st pc) : V p l e R s m args below meth c D b nL Q cells slots es lv st pc :=
  fun H locs ls hz hP hS hl => K H locs ls hz hP hS (lsub_has hl h)

theorem v_iload (C : vC p s m args meth c cc nL own nm ret D b) {i : Nat} {x : Int32} (hdg : decode cc pc = .ok (.iload i, 2)) (hn : pc + 2 = n) (h : lget lv i = some (.int x)) (K : V p l e R s m args below meth c D b nL Q cells slots es lv (.int x :: rest) n) : V p l e R s m args below meth c D b nL Q cells slots es lv (rest) pc := by
  subst hn
  intro H locs ls hz hP hS hl
  exact lv_iload C.1 C.2.1 hdg (lget_has hl h) (K H locs ls hz hP hS hl)
theorem v_iload_n (C : vC p s m args meth c cc nL own nm ret D b) {k : Fin 4} {i : Nat} {x : Int32} (hdg : decode cc pc = .ok (.iload_n k, 1)) (hn : pc + 1 = n) (hi : (k : Nat) = i) (h : lget lv i = some (.int x)) (K : V p l e R s m args below meth c D b nL Q cells slots es lv (.int x :: rest) n) : V p l e R s m args below meth c D b nL Q cells slots es lv (rest) pc := by
  subst hn
  intro H locs ls hz hP hS hl
  exact lv_iload_n C.1 C.2.1 hdg hi (lget_has hl h) (K H locs ls hz hP hS hl)
theorem v_lload (C : vC p s m args meth c cc nL own nm ret D b) {i : Nat} {x : Int64} (hdg : decode cc pc = .ok (.lload i, 2)) (hn : pc + 2 = n) (h : lget lv i = some (.long x)) (K : V p l e R s m args below meth c D b nL Q cells slots es lv (.long x :: rest) n) : V p l e R s m args below meth c D b nL Q cells slots es lv (rest) pc := by
  subst hn
  intro H locs ls hz hP hS hl
  exact lv_lload C.1 C.2.1 hdg (lget_has hl h) (K H locs ls hz hP hS hl)
theorem v_lload_n (C : vC p s m args meth c cc nL own nm ret D b) {k : Fin 4} {i : Nat} {x : Int64} (hdg : decode cc pc = .ok (.lload_n k, 1)) (hn : pc + 1 = n) (hi : (k : Nat) = i) (h : lget lv i = some (.long x)) (K : V p l e R s m args below meth c D b nL Q cells slots es lv (.long x :: rest) n) : V p l e R s m args below meth c D b nL Q cells slots es lv (rest) pc := by
  subst hn
  intro H locs ls hz hP hS hl
  exact lv_lload_n C.1 C.2.1 hdg hi (lget_has hl h) (K H locs ls hz hP hS hl)
theorem v_aload (C : vC p s m args meth c cc nL own nm ret D b) {i x : Nat} (hdg : decode cc pc = .ok (.aload i, 2)) (hn : pc + 2 = n) (h : lget lv i = some (.ref x)) (K : V p l e R s m args below meth c D b nL Q cells slots es lv (.ref x :: rest) n) : V p l e R s m args below meth c D b nL Q cells slots es lv (rest) pc := by
  subst hn
  intro H locs ls hz hP hS hl
  exact lv_aload C.1 C.2.1 hdg (lget_has hl h) (K H locs ls hz hP hS hl)
theorem v_aload_n (C : vC p s m args meth c cc nL own nm ret D b) {k : Fin 4} {i x : Nat} (hdg : decode cc pc = .ok (.aload_n k, 1)) (hn : pc + 1 = n) (hi : (k : Nat) = i) (h : lget lv i = some (.ref x)) (K : V p l e R s m args below meth c D b nL Q cells slots es lv (.ref x :: rest) n) : V p l e R s m args below meth c D b nL Q cells slots es lv (rest) pc := by
  subst hn
  intro H locs ls hz hP hS hl
  exact lv_aload_n C.1 C.2.1 hdg hi (lget_has hl h) (K H locs ls hz hP hS hl)
theorem v_aloadN (C : vC p s m args meth c cc nL own nm ret D b) {i : Nat} (hdg : decode cc pc = .ok (.aload i, 2)) (hn : pc + 2 = n) (h : lget lv i = some .null) (K : V p l e R s m args below meth c D b nL Q cells slots es lv (.null :: rest) n) : V p l e R s m args below meth c D b nL Q cells slots es lv (rest) pc := by
  subst hn
  intro H locs ls hz hP hS hl
  exact lv_aloadN C.1 C.2.1 hdg (lget_has hl h) (K H locs ls hz hP hS hl)
theorem v_aload_nN (C : vC p s m args meth c cc nL own nm ret D b) {k : Fin 4} {i : Nat} (hdg : decode cc pc = .ok (.aload_n k, 1)) (hn : pc + 1 = n) (hi : (k : Nat) = i) (h : lget lv i = some .null) (K : V p l e R s m args below meth c D b nL Q cells slots es lv (.null :: rest) n) : V p l e R s m args below meth c D b nL Q cells slots es lv (rest) pc := by
  subst hn
  intro H locs ls hz hP hS hl
  exact lv_aload_nN C.1 C.2.1 hdg hi (lget_has hl h) (K H locs ls hz hP hS hl)
theorem v_iconst (C : vC p s m args meth c cc nL own nm ret D b) {k : Int} {v : Int32} (hdg : decode cc pc = .ok (.iconst k, 1)) (hn : pc + 1 = n) (hv : Int32.ofInt k = v) (K : V p l e R s m args below meth c D b nL Q cells slots es lv (.int v :: rest) n) : V p l e R s m args below meth c D b nL Q cells slots es lv (rest) pc := by
  subst hn
  intro H locs ls hz hP hS hl
  exact lv_iconst C.1 C.2.1 hdg hv (K H locs ls hz hP hS hl)
theorem v_bipush (C : vC p s m args meth c cc nL own nm ret D b) {k : Int} {v : Int32} (hdg : decode cc pc = .ok (.bipush k, 2)) (hn : pc + 2 = n) (hv : (Int8.ofInt k).toInt32 = v) (K : V p l e R s m args below meth c D b nL Q cells slots es lv (.int v :: rest) n) : V p l e R s m args below meth c D b nL Q cells slots es lv (rest) pc := by
  subst hn
  intro H locs ls hz hP hS hl
  exact lv_bipush C.1 C.2.1 hdg hv (K H locs ls hz hP hS hl)
theorem v_sipush (C : vC p s m args meth c cc nL own nm ret D b) {k : Int} {v : Int32} (hdg : decode cc pc = .ok (.sipush k, 3)) (hn : pc + 3 = n) (hv : (Int16.ofInt k).toInt32 = v) (K : V p l e R s m args below meth c D b nL Q cells slots es lv (.int v :: rest) n) : V p l e R s m args below meth c D b nL Q cells slots es lv (rest) pc := by
  subst hn
  intro H locs ls hz hP hS hl
  exact lv_sipush C.1 C.2.1 hdg hv (K H locs ls hz hP hS hl)
theorem v_lconst (C : vC p s m args meth c cc nL own nm ret D b) {k : Fin 2} {v : Int64} (hdg : decode cc pc = .ok (.lconst k, 1)) (hn : pc + 1 = n) (hv : Int64.ofNat (k : Nat) = v) (K : V p l e R s m args below meth c D b nL Q cells slots es lv (.long v :: rest) n) : V p l e R s m args below meth c D b nL Q cells slots es lv (rest) pc := by
  subst hn
  intro H locs ls hz hP hS hl
  exact lv_lconst C.1 C.2.1 hdg hv (K H locs ls hz hP hS hl)
theorem v_null (C : vC p s m args meth c cc nL own nm ret D b) (hdg : decode cc pc = .ok (.aconst_null, 1)) (hn : pc + 1 = n) (K : V p l e R s m args below meth c D b nL Q cells slots es lv (.null :: rest) n) : V p l e R s m args below meth c D b nL Q cells slots es lv (rest) pc := by
  subst hn
  intro H locs ls hz hP hS hl
  exact lv_null C.1 C.2.1 hdg  (K H locs ls hz hP hS hl)
theorem v_iadd (C : vC p s m args meth c cc nL own nm ret D b) {x y : Int32} (hdg : decode cc pc = .ok (.iadd, 1)) (hn : pc + 1 = n) (K : V p l e R s m args below meth c D b nL Q cells slots es lv (.int (x + y) :: rest) n) : V p l e R s m args below meth c D b nL Q cells slots es lv (.int y :: .int x :: rest) pc := by
  subst hn
  intro H locs ls hz hP hS hl
  exact lv_iadd C.1 C.2.1 hdg  (K H locs ls hz hP hS hl)
theorem v_isub (C : vC p s m args meth c cc nL own nm ret D b) {x y : Int32} (hdg : decode cc pc = .ok (.isub, 1)) (hn : pc + 1 = n) (K : V p l e R s m args below meth c D b nL Q cells slots es lv (.int (x - y) :: rest) n) : V p l e R s m args below meth c D b nL Q cells slots es lv (.int y :: .int x :: rest) pc := by
  subst hn
  intro H locs ls hz hP hS hl
  exact lv_isub C.1 C.2.1 hdg  (K H locs ls hz hP hS hl)
theorem v_imul (C : vC p s m args meth c cc nL own nm ret D b) {x y : Int32} (hdg : decode cc pc = .ok (.imul, 1)) (hn : pc + 1 = n) (K : V p l e R s m args below meth c D b nL Q cells slots es lv (.int (x * y) :: rest) n) : V p l e R s m args below meth c D b nL Q cells slots es lv (.int y :: .int x :: rest) pc := by
  subst hn
  intro H locs ls hz hP hS hl
  exact lv_imul C.1 C.2.1 hdg  (K H locs ls hz hP hS hl)
theorem v_iand (C : vC p s m args meth c cc nL own nm ret D b) {x y : Int32} (hdg : decode cc pc = .ok (.iand, 1)) (hn : pc + 1 = n) (K : V p l e R s m args below meth c D b nL Q cells slots es lv (.int (x &&& y) :: rest) n) : V p l e R s m args below meth c D b nL Q cells slots es lv (.int y :: .int x :: rest) pc := by
  subst hn
  intro H locs ls hz hP hS hl
  exact lv_iand C.1 C.2.1 hdg  (K H locs ls hz hP hS hl)
theorem v_ior (C : vC p s m args meth c cc nL own nm ret D b) {x y : Int32} (hdg : decode cc pc = .ok (.ior, 1)) (hn : pc + 1 = n) (K : V p l e R s m args below meth c D b nL Q cells slots es lv (.int (x ||| y) :: rest) n) : V p l e R s m args below meth c D b nL Q cells slots es lv (.int y :: .int x :: rest) pc := by
  subst hn
  intro H locs ls hz hP hS hl
  exact lv_ior C.1 C.2.1 hdg  (K H locs ls hz hP hS hl)
theorem v_idiv (C : vC p s m args meth c cc nL own nm ret D b) {x y : Int32} (hdg : decode cc pc = .ok (.idiv, 1)) (hn : pc + 1 = n) (hne : ¬ y = 0) (K : V p l e R s m args below meth c D b nL Q cells slots es lv (.int (x / y) :: rest) n) : V p l e R s m args below meth c D b nL Q cells slots es lv (.int y :: .int x :: rest) pc := by
  subst hn
  intro H locs ls hz hP hS hl
  exact lv_idiv C.1 C.2.1 hdg hne (K H locs ls hz hP hS hl)
theorem v_irem (C : vC p s m args meth c cc nL own nm ret D b) {x y : Int32} (hdg : decode cc pc = .ok (.irem, 1)) (hn : pc + 1 = n) (hne : ¬ y = 0) (K : V p l e R s m args below meth c D b nL Q cells slots es lv (.int (x - x / y * y) :: rest) n) : V p l e R s m args below meth c D b nL Q cells slots es lv (.int y :: .int x :: rest) pc := by
  subst hn
  intro H locs ls hz hP hS hl
  exact lv_irem C.1 C.2.1 hdg hne (K H locs ls hz hP hS hl)
theorem v_ladd (C : vC p s m args meth c cc nL own nm ret D b) {x y : Int64} (hdg : decode cc pc = .ok (.ladd, 1)) (hn : pc + 1 = n) (K : V p l e R s m args below meth c D b nL Q cells slots es lv (.long (x + y) :: rest) n) : V p l e R s m args below meth c D b nL Q cells slots es lv (.long y :: .long x :: rest) pc := by
  subst hn
  intro H locs ls hz hP hS hl
  exact lv_ladd C.1 C.2.1 hdg  (K H locs ls hz hP hS hl)
theorem v_lmul (C : vC p s m args meth c cc nL own nm ret D b) {x y : Int64} (hdg : decode cc pc = .ok (.lmul, 1)) (hn : pc + 1 = n) (K : V p l e R s m args below meth c D b nL Q cells slots es lv (.long (x * y) :: rest) n) : V p l e R s m args below meth c D b nL Q cells slots es lv (.long y :: .long x :: rest) pc := by
  subst hn
  intro H locs ls hz hP hS hl
  exact lv_lmul C.1 C.2.1 hdg  (K H locs ls hz hP hS hl)
theorem v_land (C : vC p s m args meth c cc nL own nm ret D b) {x y : Int64} (hdg : decode cc pc = .ok (.land, 1)) (hn : pc + 1 = n) (K : V p l e R s m args below meth c D b nL Q cells slots es lv (.long (x &&& y) :: rest) n) : V p l e R s m args below meth c D b nL Q cells slots es lv (.long y :: .long x :: rest) pc := by
  subst hn
  intro H locs ls hz hP hS hl
  exact lv_land C.1 C.2.1 hdg  (K H locs ls hz hP hS hl)
theorem v_ishl (C : vC p s m args meth c cc nL own nm ret D b) {x y : Int32} (hdg : decode cc pc = .ok (.ishl, 1)) (hn : pc + 1 = n) (K : V p l e R s m args below meth c D b nL Q cells slots es lv (.int (x <<< (y &&& 31)) :: rest) n) : V p l e R s m args below meth c D b nL Q cells slots es lv (.int y :: .int x :: rest) pc := by
  subst hn
  intro H locs ls hz hP hS hl
  exact lv_ishl C.1 C.2.1 hdg  (K H locs ls hz hP hS hl)
theorem v_ishr (C : vC p s m args meth c cc nL own nm ret D b) {x y : Int32} (hdg : decode cc pc = .ok (.ishr, 1)) (hn : pc + 1 = n) (K : V p l e R s m args below meth c D b nL Q cells slots es lv (.int (x >>> (y &&& 31)) :: rest) n) : V p l e R s m args below meth c D b nL Q cells slots es lv (.int y :: .int x :: rest) pc := by
  subst hn
  intro H locs ls hz hP hS hl
  exact lv_ishr C.1 C.2.1 hdg  (K H locs ls hz hP hS hl)
theorem v_lcmp (C : vC p s m args meth c cc nL own nm ret D b) {x y : Int64} (hdg : decode cc pc = .ok (.lcmp, 1)) (hn : pc + 1 = n) (K : V p l e R s m args below meth c D b nL Q cells slots es lv (.int (lg_cmp x y) :: rest) n) : V p l e R s m args below meth c D b nL Q cells slots es lv (.long y :: .long x :: rest) pc := by
  subst hn
  intro H locs ls hz hP hS hl
  exact W.lcmp C.1 C.2.1 hdg  (K H locs ls hz hP hS hl)
theorem v_i2l (C : vC p s m args meth c cc nL own nm ret D b) {x : Int32} (hdg : decode cc pc = .ok (.i2l, 1)) (hn : pc + 1 = n) (K : V p l e R s m args below meth c D b nL Q cells slots es lv (.long x.toInt64 :: rest) n) : V p l e R s m args below meth c D b nL Q cells slots es lv (.int x :: rest) pc := by
  subst hn
  intro H locs ls hz hP hS hl
  exact lv_i2l C.1 C.2.1 hdg rfl (K H locs ls hz hP hS hl)
theorem v_l2i (C : vC p s m args meth c cc nL own nm ret D b) {x : Int64} (hdg : decode cc pc = .ok (.l2i, 1)) (hn : pc + 1 = n) (K : V p l e R s m args below meth c D b nL Q cells slots es lv (.int x.toInt32 :: rest) n) : V p l e R s m args below meth c D b nL Q cells slots es lv (.long x :: rest) pc := by
  subst hn
  intro H locs ls hz hP hS hl
  exact lv_l2i C.1 C.2.1 hdg rfl (K H locs ls hz hP hS hl)
theorem v_dup (C : vC p s m args meth c cc nL own nm ret D b) {va : Value} (hdg : decode cc pc = .ok (.dup, 1)) (hn : pc + 1 = n) (hva : va.category = 1) (K : V p l e R s m args below meth c D b nL Q cells slots es lv (va :: va :: rest) n) : V p l e R s m args below meth c D b nL Q cells slots es lv (va :: rest) pc := by
  subst hn
  intro H locs ls hz hP hS hl
  exact lv_dup C.1 C.2.1 hdg hva (K H locs ls hz hP hS hl)
theorem v_dup2 (C : vC p s m args meth c cc nL own nm ret D b) {va vb : Value} (hdg : decode cc pc = .ok (.dup2, 1)) (hn : pc + 1 = n) (hva : va.category = 1) (hvb : vb.category = 1) (K : V p l e R s m args below meth c D b nL Q cells slots es lv (va :: vb :: va :: vb :: rest) n) : V p l e R s m args below meth c D b nL Q cells slots es lv (va :: vb :: rest) pc := by
  subst hn
  intro H locs ls hz hP hS hl
  exact lv_dup2_11 C.1 C.2.1 hdg hva hvb (K H locs ls hz hP hS hl)
theorem v_pop (C : vC p s m args meth c cc nL own nm ret D b) {va : Value} (hdg : decode cc pc = .ok (.pop, 1)) (hn : pc + 1 = n) (hva : va.category = 1) (K : V p l e R s m args below meth c D b nL Q cells slots es lv (rest) n) : V p l e R s m args below meth c D b nL Q cells slots es lv (va :: rest) pc := by
  subst hn
  intro H locs ls hz hP hS hl
  exact lv_pop C.1 C.2.1 hdg hva (K H locs ls hz hP hS hl)
theorem v_istore (C : vC p s m args meth c cc nL own nm ret D b) {i : Nat} {x : Int32} {lv' : List (Nat × Value)} (hdg : decode cc pc = .ok (.istore i, 2)) (hn : pc + 2 = n) (hb : i < nL) (hs : lset i (.int x) lv = lv') (K : V p l e R s m args below meth c D b nL Q cells slots es lv' (rest) n) : V p l e R s m args below meth c D b nL Q cells slots es lv (.int x :: rest) pc := by
  subst hn
  intro H locs ls hz hP hS hl
  exact lv_istore C.1 C.2.1 hdg  hl hb hs (fun ls' hl' => K H locs ls' hz hP hS hl')
theorem v_istore_n (C : vC p s m args meth c cc nL own nm ret D b) {k : Fin 4} {i : Nat} {x : Int32} {lv' : List (Nat × Value)} (hdg : decode cc pc = .ok (.istore_n k, 1)) (hn : pc + 1 = n) (hi : (k : Nat) = i) (hb : i < nL) (hs : lset i (.int x) lv = lv') (K : V p l e R s m args below meth c D b nL Q cells slots es lv' (rest) n) : V p l e R s m args below meth c D b nL Q cells slots es lv (.int x :: rest) pc := by
  subst hn
  intro H locs ls hz hP hS hl
  exact lv_istore_n C.1 C.2.1 hdg hi hl hb hs (fun ls' hl' => K H locs ls' hz hP hS hl')
theorem v_lstore (C : vC p s m args meth c cc nL own nm ret D b) {i : Nat} {x : Int64} {lv' : List (Nat × Value)} (hdg : decode cc pc = .ok (.lstore i, 2)) (hn : pc + 2 = n) (hb : i + 1 < nL) (hs : lsetL i (.long x) lv = lv') (K : V p l e R s m args below meth c D b nL Q cells slots es lv' (rest) n) : V p l e R s m args below meth c D b nL Q cells slots es lv (.long x :: rest) pc := by
  subst hn
  intro H locs ls hz hP hS hl
  exact lv_lstore C.1 C.2.1 hdg  hl hb hs (fun ls' hl' => K H locs ls' hz hP hS hl')
theorem v_lstore_n (C : vC p s m args meth c cc nL own nm ret D b) {k : Fin 4} {i : Nat} {x : Int64} {lv' : List (Nat × Value)} (hdg : decode cc pc = .ok (.lstore_n k, 1)) (hn : pc + 1 = n) (hi : (k : Nat) = i) (hb : i + 1 < nL) (hs : lsetL i (.long x) lv = lv') (K : V p l e R s m args below meth c D b nL Q cells slots es lv' (rest) n) : V p l e R s m args below meth c D b nL Q cells slots es lv (.long x :: rest) pc := by
  subst hn
  intro H locs ls hz hP hS hl
  exact lv_lstore_n C.1 C.2.1 hdg hi hl hb hs (fun ls' hl' => K H locs ls' hz hP hS hl')
theorem v_astore (C : vC p s m args meth c cc nL own nm ret D b) {i x : Nat} {lv' : List (Nat × Value)} (hdg : decode cc pc = .ok (.astore i, 2)) (hn : pc + 2 = n) (hb : i < nL) (hs : lset i (.ref x) lv = lv') (K : V p l e R s m args below meth c D b nL Q cells slots es lv' (rest) n) : V p l e R s m args below meth c D b nL Q cells slots es lv (.ref x :: rest) pc := by
  subst hn
  intro H locs ls hz hP hS hl
  exact lv_astore C.1 C.2.1 hdg  hl hb hs (fun ls' hl' => K H locs ls' hz hP hS hl')
theorem v_astore_n (C : vC p s m args meth c cc nL own nm ret D b) {k : Fin 4} {i x : Nat} {lv' : List (Nat × Value)} (hdg : decode cc pc = .ok (.astore_n k, 1)) (hn : pc + 1 = n) (hi : (k : Nat) = i) (hb : i < nL) (hs : lset i (.ref x) lv = lv') (K : V p l e R s m args below meth c D b nL Q cells slots es lv' (rest) n) : V p l e R s m args below meth c D b nL Q cells slots es lv (.ref x :: rest) pc := by
  subst hn
  intro H locs ls hz hP hS hl
  exact lv_astore_n C.1 C.2.1 hdg hi hl hb hs (fun ls' hl' => K H locs ls' hz hP hS hl')
theorem v_astoreN (C : vC p s m args meth c cc nL own nm ret D b) {i : Nat} {lv' : List (Nat × Value)} (hdg : decode cc pc = .ok (.astore i, 2)) (hn : pc + 2 = n) (hb : i < nL) (hs : lset i (.null) lv = lv') (K : V p l e R s m args below meth c D b nL Q cells slots es lv' (rest) n) : V p l e R s m args below meth c D b nL Q cells slots es lv (.null :: rest) pc := by
  subst hn
  intro H locs ls hz hP hS hl
  exact lv_astoreN C.1 C.2.1 hdg  hl hb hs (fun ls' hl' => K H locs ls' hz hP hS hl')
theorem v_astore_nN (C : vC p s m args meth c cc nL own nm ret D b) {k : Fin 4} {i : Nat} {lv' : List (Nat × Value)} (hdg : decode cc pc = .ok (.astore_n k, 1)) (hn : pc + 1 = n) (hi : (k : Nat) = i) (hb : i < nL) (hs : lset i (.null) lv = lv') (K : V p l e R s m args below meth c D b nL Q cells slots es lv' (rest) n) : V p l e R s m args below meth c D b nL Q cells slots es lv (.null :: rest) pc := by
  subst hn
  intro H locs ls hz hP hS hl
  exact lv_astore_nN C.1 C.2.1 hdg hi hl hb hs (fun ls' hl' => K H locs ls' hz hP hS hl')
theorem v_iinc (C : vC p s m args meth c cc nL own nm ret D b) {i : Nat} {k : Int} {x v : Int32} {lv' : List (Nat × Value)} (hdg : decode cc pc = .ok (.iinc i k, 3)) (hn : pc + 3 = n) (h : lget lv i = some (.int x)) (hv : x + Int32.ofInt k = v) (hb : i < nL) (hs : lset i (.int v) lv = lv') (K : V p l e R s m args below meth c D b nL Q cells slots es lv' (rest) n) : V p l e R s m args below meth c D b nL Q cells slots es lv (rest) pc := by
  subst hn
  intro H locs ls hz hP hS hl
  obtain ⟨j, hj⟩ := lget_at h
  exact lv_iinc C.1 C.2.1 hdg hl hj hv hb hs (fun ls' hl' => K H locs ls' hz hP hS hl')
theorem v_icmp_eq (C : vC p s m args meth c cc nL own nm ret D b) {x y : Int32} {off : Int} {t : Nat} (hdg : decode cc pc = .ok (.if_icmp .eq off, 3)) (ht : (pc : Int) + off = (t : Int)) (hn : pc + 3 = n) (kt : x = y → V p l e R s m args below meth c D b nL Q cells slots es lv (rest) t) (kf : ¬ x = y → V p l e R s m args below meth c D b nL Q cells slots es lv (rest) n) : V p l e R s m args below meth c D b nL Q cells slots es lv (.int y :: .int x :: rest) pc := by
  subst hn
  intro H locs ls hz hP hS hl
  exact lv_icmp_eq C.1 C.2.1 hdg ht (fun h => kt h H locs ls hz hP hS hl) (fun h => kf h H locs ls hz hP hS hl)
theorem v_icmp_ne (C : vC p s m args meth c cc nL own nm ret D b) {x y : Int32} {off : Int} {t : Nat} (hdg : decode cc pc = .ok (.if_icmp .ne off, 3)) (ht : (pc : Int) + off = (t : Int)) (hn : pc + 3 = n) (kt : ¬ x = y → V p l e R s m args below meth c D b nL Q cells slots es lv (rest) t) (kf : x = y → V p l e R s m args below meth c D b nL Q cells slots es lv (rest) n) : V p l e R s m args below meth c D b nL Q cells slots es lv (.int y :: .int x :: rest) pc := by
  subst hn
  intro H locs ls hz hP hS hl
  exact lv_icmp_ne C.1 C.2.1 hdg ht (fun h => kt h H locs ls hz hP hS hl) (fun h => kf h H locs ls hz hP hS hl)
theorem v_icmp_lt (C : vC p s m args meth c cc nL own nm ret D b) {x y : Int32} {off : Int} {t : Nat} (hdg : decode cc pc = .ok (.if_icmp .lt off, 3)) (ht : (pc : Int) + off = (t : Int)) (hn : pc + 3 = n) (kt : x < y → V p l e R s m args below meth c D b nL Q cells slots es lv (rest) t) (kf : ¬ x < y → V p l e R s m args below meth c D b nL Q cells slots es lv (rest) n) : V p l e R s m args below meth c D b nL Q cells slots es lv (.int y :: .int x :: rest) pc := by
  subst hn
  intro H locs ls hz hP hS hl
  exact lv_icmp_lt C.1 C.2.1 hdg ht (fun h => kt h H locs ls hz hP hS hl) (fun h => kf h H locs ls hz hP hS hl)
theorem v_icmp_ge (C : vC p s m args meth c cc nL own nm ret D b) {x y : Int32} {off : Int} {t : Nat} (hdg : decode cc pc = .ok (.if_icmp .ge off, 3)) (ht : (pc : Int) + off = (t : Int)) (hn : pc + 3 = n) (kt : y ≤ x → V p l e R s m args below meth c D b nL Q cells slots es lv (rest) t) (kf : ¬ y ≤ x → V p l e R s m args below meth c D b nL Q cells slots es lv (rest) n) : V p l e R s m args below meth c D b nL Q cells slots es lv (.int y :: .int x :: rest) pc := by
  subst hn
  intro H locs ls hz hP hS hl
  exact lv_icmp_ge C.1 C.2.1 hdg ht (fun h => kt h H locs ls hz hP hS hl) (fun h => kf h H locs ls hz hP hS hl)
theorem v_icmp_gt (C : vC p s m args meth c cc nL own nm ret D b) {x y : Int32} {off : Int} {t : Nat} (hdg : decode cc pc = .ok (.if_icmp .gt off, 3)) (ht : (pc : Int) + off = (t : Int)) (hn : pc + 3 = n) (kt : y < x → V p l e R s m args below meth c D b nL Q cells slots es lv (rest) t) (kf : ¬ y < x → V p l e R s m args below meth c D b nL Q cells slots es lv (rest) n) : V p l e R s m args below meth c D b nL Q cells slots es lv (.int y :: .int x :: rest) pc := by
  subst hn
  intro H locs ls hz hP hS hl
  exact lv_icmp_gt C.1 C.2.1 hdg ht (fun h => kt h H locs ls hz hP hS hl) (fun h => kf h H locs ls hz hP hS hl)
theorem v_icmp_le (C : vC p s m args meth c cc nL own nm ret D b) {x y : Int32} {off : Int} {t : Nat} (hdg : decode cc pc = .ok (.if_icmp .le off, 3)) (ht : (pc : Int) + off = (t : Int)) (hn : pc + 3 = n) (kt : x ≤ y → V p l e R s m args below meth c D b nL Q cells slots es lv (rest) t) (kf : ¬ x ≤ y → V p l e R s m args below meth c D b nL Q cells slots es lv (rest) n) : V p l e R s m args below meth c D b nL Q cells slots es lv (.int y :: .int x :: rest) pc := by
  subst hn
  intro H locs ls hz hP hS hl
  exact lv_icmp_le C.1 C.2.1 hdg ht (fun h => kt h H locs ls hz hP hS hl) (fun h => kf h H locs ls hz hP hS hl)
theorem v_if_eq (C : vC p s m args meth c cc nL own nm ret D b) {x : Int32} {off : Int} {t : Nat} (hdg : decode cc pc = .ok (.ifCond .eq off, 3)) (ht : (pc : Int) + off = (t : Int)) (hn : pc + 3 = n) (kt : x = 0 → V p l e R s m args below meth c D b nL Q cells slots es lv (rest) t) (kf : ¬ x = 0 → V p l e R s m args below meth c D b nL Q cells slots es lv (rest) n) : V p l e R s m args below meth c D b nL Q cells slots es lv (.int x :: rest) pc := by
  subst hn
  intro H locs ls hz hP hS hl
  exact lv_if_eq C.1 C.2.1 hdg ht (fun h => kt h H locs ls hz hP hS hl) (fun h => kf h H locs ls hz hP hS hl)
theorem v_if_ne (C : vC p s m args meth c cc nL own nm ret D b) {x : Int32} {off : Int} {t : Nat} (hdg : decode cc pc = .ok (.ifCond .ne off, 3)) (ht : (pc : Int) + off = (t : Int)) (hn : pc + 3 = n) (kt : ¬ x = 0 → V p l e R s m args below meth c D b nL Q cells slots es lv (rest) t) (kf : x = 0 → V p l e R s m args below meth c D b nL Q cells slots es lv (rest) n) : V p l e R s m args below meth c D b nL Q cells slots es lv (.int x :: rest) pc := by
  subst hn
  intro H locs ls hz hP hS hl
  exact lv_if_ne C.1 C.2.1 hdg ht (fun h => kt h H locs ls hz hP hS hl) (fun h => kf h H locs ls hz hP hS hl)
theorem v_if_lt (C : vC p s m args meth c cc nL own nm ret D b) {x : Int32} {off : Int} {t : Nat} (hdg : decode cc pc = .ok (.ifCond .lt off, 3)) (ht : (pc : Int) + off = (t : Int)) (hn : pc + 3 = n) (kt : x < 0 → V p l e R s m args below meth c D b nL Q cells slots es lv (rest) t) (kf : ¬ x < 0 → V p l e R s m args below meth c D b nL Q cells slots es lv (rest) n) : V p l e R s m args below meth c D b nL Q cells slots es lv (.int x :: rest) pc := by
  subst hn
  intro H locs ls hz hP hS hl
  exact lv_if_lt C.1 C.2.1 hdg ht (fun h => kt h H locs ls hz hP hS hl) (fun h => kf h H locs ls hz hP hS hl)
theorem v_if_ge (C : vC p s m args meth c cc nL own nm ret D b) {x : Int32} {off : Int} {t : Nat} (hdg : decode cc pc = .ok (.ifCond .ge off, 3)) (ht : (pc : Int) + off = (t : Int)) (hn : pc + 3 = n) (kt : 0 ≤ x → V p l e R s m args below meth c D b nL Q cells slots es lv (rest) t) (kf : ¬ 0 ≤ x → V p l e R s m args below meth c D b nL Q cells slots es lv (rest) n) : V p l e R s m args below meth c D b nL Q cells slots es lv (.int x :: rest) pc := by
  subst hn
  intro H locs ls hz hP hS hl
  exact lv_if_ge C.1 C.2.1 hdg ht (fun h => kt h H locs ls hz hP hS hl) (fun h => kf h H locs ls hz hP hS hl)
theorem v_if_gt (C : vC p s m args meth c cc nL own nm ret D b) {x : Int32} {off : Int} {t : Nat} (hdg : decode cc pc = .ok (.ifCond .gt off, 3)) (ht : (pc : Int) + off = (t : Int)) (hn : pc + 3 = n) (kt : 0 < x → V p l e R s m args below meth c D b nL Q cells slots es lv (rest) t) (kf : ¬ 0 < x → V p l e R s m args below meth c D b nL Q cells slots es lv (rest) n) : V p l e R s m args below meth c D b nL Q cells slots es lv (.int x :: rest) pc := by
  subst hn
  intro H locs ls hz hP hS hl
  exact lv_if_gt C.1 C.2.1 hdg ht (fun h => kt h H locs ls hz hP hS hl) (fun h => kf h H locs ls hz hP hS hl)
theorem v_if_le (C : vC p s m args meth c cc nL own nm ret D b) {x : Int32} {off : Int} {t : Nat} (hdg : decode cc pc = .ok (.ifCond .le off, 3)) (ht : (pc : Int) + off = (t : Int)) (hn : pc + 3 = n) (kt : x ≤ 0 → V p l e R s m args below meth c D b nL Q cells slots es lv (rest) t) (kf : ¬ x ≤ 0 → V p l e R s m args below meth c D b nL Q cells slots es lv (rest) n) : V p l e R s m args below meth c D b nL Q cells slots es lv (.int x :: rest) pc := by
  subst hn
  intro H locs ls hz hP hS hl
  exact lv_if_le C.1 C.2.1 hdg ht (fun h => kt h H locs ls hz hP hS hl) (fun h => kf h H locs ls hz hP hS hl)
theorem v_goto (C : vC p s m args meth c cc nL own nm ret D b) {off : Int} {t : Nat} {st : List Value} (hdg : decode cc pc = .ok (.goto off, 3)) (ht : (pc : Int) + off = (t : Int)) (K : V p l e R s m args below meth c D b nL Q cells slots es lv (st) t) : V p l e R s m args below meth c D b nL Q cells slots es lv (st) pc := by
  intro H locs ls hz hP hS hl
  exact lv_goto C.1 C.2.1 hdg ht (K H locs ls hz hP hS hl)
theorem v_ifnull (C : vC p s m args meth c cc nL own nm ret D b) {x : Nat} {off : Int} (hdg : decode cc pc = .ok (.ifnull off, 3)) (hn : pc + 3 = n) (K : V p l e R s m args below meth c D b nL Q cells slots es lv (rest) n) : V p l e R s m args below meth c D b nL Q cells slots es lv (.ref x :: rest) pc := by
  subst hn
  intro H locs ls hz hP hS hl
  exact lv_ifnull C.1 C.2.1 hdg (K H locs ls hz hP hS hl)
theorem v_ifnonnull (C : vC p s m args meth c cc nL own nm ret D b) {x t : Nat} {off : Int} (hdg : decode cc pc = .ok (.ifnonnull off, 3)) (ht : (pc : Int) + off = (t : Int)) (K : V p l e R s m args below meth c D b nL Q cells slots es lv (rest) t) : V p l e R s m args below meth c D b nL Q cells slots es lv (.ref x :: rest) pc := by
  intro H locs ls hz hP hS hl
  exact lv_ifnonnull C.1 C.2.1 hdg ht (K H locs ls hz hP hS hl)
theorem v_ifnullN (C : vC p s m args meth c cc nL own nm ret D b) {t : Nat} {off : Int} (hdg : decode cc pc = .ok (.ifnull off, 3)) (ht : (pc : Int) + off = (t : Int)) (K : V p l e R s m args below meth c D b nL Q cells slots es lv (rest) t) : V p l e R s m args below meth c D b nL Q cells slots es lv (.null :: rest) pc := by
  intro H locs ls hz hP hS hl
  exact lv_ifnullN C.1 C.2.1 hdg ht (K H locs ls hz hP hS hl)
theorem v_ifnonnullN (C : vC p s m args meth c cc nL own nm ret D b) {off : Int} (hdg : decode cc pc = .ok (.ifnonnull off, 3)) (hn : pc + 3 = n) (K : V p l e R s m args below meth c D b nL Q cells slots es lv (rest) n) : V p l e R s m args below meth c D b nL Q cells slots es lv (.null :: rest) pc := by
  subst hn
  intro H locs ls hz hP hS hl
  exact lv_ifnonnullN C.1 C.2.1 hdg (K H locs ls hz hP hS hl)
theorem v_tableIn (C : vC p s m args meth c cc nL own nm ret D b) {dflt lo hi : Int} {offs : Array Int} {len t : Nat} {x : Int32} {off : Int} (hdg : decode cc pc = .ok (.tableswitch dflt lo hi offs, len)) (h1 : ¬ x.toInt < lo) (h2 : ¬ hi < x.toInt) (ho : offs[(x.toInt - lo).toNat]? = some off) (ht : (pc : Int) + off = (t : Int)) (K : V p l e R s m args below meth c D b nL Q cells slots es lv (rest) t) : V p l e R s m args below meth c D b nL Q cells slots es lv (.int x :: rest) pc := by
  intro H locs ls hz hP hS hl
  exact lv_tableIn C.1 C.2.1 hdg h1 h2 ho ht (K H locs ls hz hP hS hl)
theorem v_tableOut (C : vC p s m args meth c cc nL own nm ret D b) {dflt lo hi : Int} {offs : Array Int} {len t : Nat} {x : Int32} (hdg : decode cc pc = .ok (.tableswitch dflt lo hi offs, len)) (h : x.toInt < lo ∨ hi < x.toInt) (ht : (pc : Int) + dflt = (t : Int)) (K : V p l e R s m args below meth c D b nL Q cells slots es lv (rest) t) : V p l e R s m args below meth c D b nL Q cells slots es lv (.int x :: rest) pc := by
  intro H locs ls hz hP hS hl
  exact lv_tableOut C.1 C.2.1 hdg h ht (K H locs ls hz hP hS hl)
theorem v_ldc (C : vC p s m args meth c cc nL own nm ret D b) {k : Nat} {v : Int32} (hdg : decode cc pc = .ok (.ldc k, 2)) (hn : pc + 2 = n) (hw : Cond.constant own k v ∈ lw_g) (K : V p l e R s m args below meth c D b nL Q cells slots es lv (.int v :: rest) n) : V p l e R s m args below meth c D b nL Q cells slots es lv (rest) pc := by
  subst hn
  intro H locs ls hz hP hS hl
  exact lv_ldc C.1 C.2.1 C.2.2.2.1 (C.2.2.2.2.1 _ hw) hdg (K H locs ls hz hP hS hl)
theorem v_ldc2 (C : vC p s m args meth c cc nL own nm ret D b) {k : Nat} {v : Int64} (hdg : decode cc pc = .ok (.ldc2_w k, 3)) (hn : pc + 3 = n) (hw : Cond.constantLong own k v ∈ lw_g) (K : V p l e R s m args below meth c D b nL Q cells slots es lv (.long v :: rest) n) : V p l e R s m args below meth c D b nL Q cells slots es lv (rest) pc := by
  subst hn
  intro H locs ls hz hP hS hl
  exact lv_ldc2 C.1 C.2.1 C.2.2.2.1 (C.2.2.2.2.1 _ hw) hdg (K H locs ls hz hP hS hl)
/-- a field of the k-th slot of the class number ci, as own's entry idx names it -/
def FL (own : String) (idx ci k : Nat) : Prop := ∃ (C : String) (T : u_T) (N : Nat) (ref : String) (ty0 : Nat → FieldType), vwCl[ci]? = some (C, T, N) ∧ (∀ w ∈ u_ws C T N, w ∈ lw_g) ∧ k < N ∧ Cond.fieldLink own idx ref (T k).2.1 (T k).2.2.1 ∈ lw_g ∧ (ref = (T k).1 ∨ Cond.sameField ref (T k).1 (T k).2.1 (T k).2.2.1 ∈ lw_g) ∧ (∀ k, k < N → parseFieldDescriptor (T k).2.2.1 = some (ty0 k)) ∧ (∀ a, a < N → ∀ b, b < N → a ≠ b → (T a).2.1 ≠ (T b).2.1)
/-- it may be written: with values of the type ty -/
def FP (own : String) (ci k : Nat) (fin : Bool) (ty : FieldType) : Prop := ∀ (C : String) (T : u_T) (N : Nat), vwCl[ci]? = some (C, T, N) → parseFieldDescriptor (T k).2.2.1 = some ty ∧ (T k).2.2.2 = fin ∧ (fin = true → (T k).1 = own)
theorem v_get (C : vC p s m args meth c cc nL own nm ret D b) {idx ci k j : Nat} {fs : List Value} {v : Value} (hdg : decode cc pc = .ok (.getfield idx, 3)) (hn : pc + 3 = n) (F : FL own idx ci k) (he : es[j]? = some (.inr (ci, fs))) (hv : fs[k]? = some v) (K : V p l e R s m args below meth c D b nL Q cells slots es lv (v :: rest) n) : V p l e R s m args below meth c D b nL Q cells slots es lv (.ref (b + j) :: rest) pc := by
  subst hn
  intro H locs ls hz hP hS hl
  obtain ⟨C', T, N, ref, ty0, hc, hin, hk, hlink, hsame, hty, hnm⟩ := F
  refine va_get (ref := ref) C.1 C.2.1 C.2.2.2.2.1 hin C.2.2.2.1 C.2.2.2.2.2.1 hP j (hw_get he) hc k hk (C.2.2.2.2.1 _ hlink) (fun x hx => ?_) hv hdg (K H locs ls hz hP hS hl)
  rcases hsame with h | h
  · subst h; exact hx
  · exact u_same (C.2.2.2.2.1 _ h) x hx
theorem v_put (C : vC p s m args meth c cc nL own nm ret D b) {idx ci k j : Nat} {fs : List Value} {v : Value} {ty : FieldType} {es' : List va_E} (hdg : decode cc pc = .ok (.putfield idx, 3)) (hn : pc + 3 = n) (F : FL own idx ci k) (G : FP own ci k false ty) (he : es[j]? = some (.inr (ci, fs))) (hnr : narrow ty v = v) (hfit : fits ty v = true) (hlen : k < fs.length) (hs : es.set j (.inr (ci, fs.set k v)) = es') (K : V p l e R s m args below meth c D b nL Q cells slots es' lv (rest) n) : V p l e R s m args below meth c D b nL Q cells slots es lv (v :: .ref (b + j) :: rest) pc := by
  subst hn
  subst hs
  intro H locs ls hz hP hS hl
  obtain ⟨C', T, N, ref, ty0, hc, hin, hk, hlink, hsame, hty, hnm⟩ := F
  obtain ⟨hd, hfin, -⟩ := G _ _ _ hc
  refine va_put (ref := ref) C.1 C.2.1 C.2.2.2.2.1 hin ty0 hty hnm C.2.2.2.1 C.2.2.2.2.2.1 hP (hw_D b es) hS j (hw_get he) hc k hk (C.2.2.2.2.1 _ hlink) (fun x hx => ?_) hfin hd hnr hfit hlen hdg (fun H1 locs1 hP1 hD1 hS1 => ?_)
  · rcases hsame with h | h
    · subst h; exact hx
    · exact u_same (C.2.2.2.2.1 _ h) x hx
  · rw [hw_set] at hP1
    exact K H1 locs1 ls (by rw [List.length_set]; exact hz) hP1 hS1 hl

end VV
