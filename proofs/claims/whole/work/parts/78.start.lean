/-! the start: classes' numbers, the one static row, the text, as the tables have them -/
theorem nw_kn {args : Array Value} {s : State} {own : String} {idx ci : Nat} {fs : List Value} (hts : ∀ w ∈ lw_g, w.before args s = true) (F : NW own idx ci fs) : ∃ (cC : ClassId) (iS : Nat → Nat), ∀ q : vw_C, vwCl[ci]? = some q → u_Kn s q.1 q.2.1 q.2.2 cC iS := by
  obtain ⟨C', T, N, ty0, hc, hin, hty, hcl, hinst, hini, hfs, hlen⟩ := F
  obtain ⟨cC, iS, hk⟩ := u_known hts hin (hts _ hinst)
  refine ⟨cC, iS, fun q hq => ?_⟩
  rw [hc] at hq
  cases hq
  exact hk
theorem st_cls {args : Array Value} {s : State} (hts : ∀ w ∈ lw_g, w.before args s = true) : ∀ k : Nat, ∃ (x : ClassId × (Nat → Nat)), ∀ q : vw_C, vwCl[k]? = some q → u_Kn s q.1 q.2.1 q.2.2 x.1 x.2 := by
  intro k
  have mk : (∃ (cC : ClassId) (iS : Nat → Nat), ∀ q : vw_C, vwCl[k]? = some q → u_Kn s q.1 q.2.1 q.2.2 cC iS) → ∃ (x : ClassId × (Nat → Nat)), ∀ q : vw_C, vwCl[k]? = some q → u_Kn s q.1 q.2.1 q.2.2 x.1 x.2 := fun ⟨a, b, h⟩ => ⟨(a, b), h⟩
  match k with
  | 0 => exact mk (nw_kn hts nw_X11_33)
  | 1 => exact mk (nw_kn hts nw_X11_276)
  | 2 => exact mk (nw_kn hts nw_X11_270)
  | 3 => exact mk (nw_kn hts nw_X11_40)
  | 4 => exact mk (nw_kn hts nw_X11_13)
  | 5 => exact mk (nw_kn hts nw_X11_26)
  | 6 => exact mk (nw_kn hts nw_X11_47)
  | 7 => exact mk (nw_kn hts nw_X11_54)
  | 8 => exact mk (nw_kn hts nw_X11_19)
  | 9 => exact mk (nw_kn hts nw_X11_273)
  | 10 => exact mk (nw_kn hts nw_X11_266)
  | 11 => exact mk (nw_kn hts nw_L_7)
  | 12 => exact mk (nw_kn hts nw_L_10)
  | n + 13 => exact ⟨(default, fun _ => 0), fun q hq => absurd hq (by rw [List.getElem?_eq_none (by show 13 ≤ n + 13; omega)]; exact fun h => by cases h)⟩
theorem tb_mem {w : Cond} (i : Nat) (h : lw_tbl[i]? = some w) : w ∈ lw_tbl := List.mem_of_getElem? h
theorem st_nest : ∀ q ∈ nestK, Cond.methodLinkNest q.1 q.2.1 q.2.2 "WheatSea" ∈ lw_tbl := by decide +kernel
theorem st_ao : Cond.arrayOver (.object "WheatSea$Hull") ∈ lw_tbl := by decide +kernel
theorem st_cast : Cond.castable "WheatSea$Cutter" "WheatSea$Sloop" ∈ lw_tbl := by decide +kernel
theorem st_sref : Cond.stringRef "WheatSea" 74 "0000,0000,0000;1" ∈ lw_tbl := by decide +kernel
theorem st_l1 : Cond.laysStatic "WheatSea$Homecoming" "ORDERS" "[I" ∈ lw_tbl := by decide +kernel
theorem st_l2 : Cond.laysStatic "java/lang/String" "COMPACT_STRINGS" "Z" ∈ lw_tbl := by decide +kernel
theorem st_l3 : Cond.laysStatic "jdk/internal/util/Preconditions" "SIOOBE_FORMATTER" "Ljava/util/function/BiFunction;" ∈ lw_tbl := by decide +kernel
theorem st_i1 : Cond.initialized "WheatSea$Homecoming" ∈ lw_tbl := by decide +kernel
theorem st_i2 : Cond.initialized "java/lang/String" ∈ lw_tbl := by decide +kernel
theorem st_i3 : Cond.initialized "jdk/internal/util/Preconditions" ∈ lw_tbl := by decide +kernel
section ST
variable {s : State} {bb : Nat}
theorem st_nc (hgv : (Jvm.Cond.and given_1 narrow_1).before #[Value.ref bb] s = true) : ∀ q ∈ ncK, va_Nc q.1 q.2 s := by
  have hs := flat_of_before _ hgv
  intro q hq
  exact va_Nc.of (hs _ ((by decide +kernel : ∀ q ∈ ncK, Cond.not (.castable q.1 q.2) ∈ flatC (Jvm.Cond.and given_1 narrow_1)) q hq))
abbrev nG : List Cond := flatC (Jvm.Cond.and given_1 narrow_1)
abbrev tmO : Term := .static "WheatSea$Homecoming" "ORDERS" "[I"
abbrev tmS : Term := .string "WheatSea" 74
theorem g_o1 : Cond.arrayOf tmO .int ∈ nG := by decide +kernel
theorem g_o2 : Cond.eq (.length tmO) (.int 18) ∈ nG := by decide +kernel
theorem g_o3 : ∀ j, j < 18 → Cond.eq (.elem tmO (.int (Int32.ofNat j))) (.int (ordF j)) ∈ nG := by decide +kernel
theorem g_s1 : Cond.exactly tmS "java/lang/String" ∈ nG := by decide +kernel
theorem g_s2 : Cond.eq (.field tmS "java/lang/String" "coder" "B") (.int 0) ∈ nG := by decide +kernel
theorem g_s3 : Cond.arrayOf (.field tmS "java/lang/String" "value" "[B") .byte ∈ nG := by decide +kernel
theorem g_s4 : Cond.eq (.length (.field tmS "java/lang/String" "value" "[B")) (.int (Int32.ofNat (vSlen.getD 0 0))) ∈ nG := by decide +kernel
theorem g_s5 : ∀ j, j < vSlen.getD 0 0 → Cond.eq (.elem (.field tmS "java/lang/String" "value" "[B") (.int (Int32.ofNat j))) (.int ((vSbyt.getD 0 []).getD j 0)) ∈ nG := by decide +kernel
theorem g_c : Cond.eq (.static "java/lang/String" "COMPACT_STRINGS" "Z") (.int 1) ∈ nG := by decide +kernel
theorem g_f : Cond.isRef (.static "jdk/internal/util/Preconditions" "SIOOBE_FORMATTER" "Ljava/util/function/BiFunction;") ∈ nG := by decide +kernel
theorem st_D (hts : ∀ w ∈ lw_tbl, w.before #[Value.ref bb] s = true) (hgv : (Jvm.Cond.and given_1 narrow_1).before #[Value.ref bb] s = true) : ∃ D : va_G, va_K D vwCl (tyD D) s ∧ vT D s.heap.size s := by
  have htg : ∀ w ∈ lw_g, w.before #[Value.ref bb] s = true := fun w hw => hts w (List.mem_filter.mp hw).1
  have hs := flat_of_before _ hgv
  have hA : ∀ a : Nat, a < s.heap.size → ¬ (fun q => s.heap.size ≤ q) a := fun a ha => Nat.not_le.mpr ha
  obtain ⟨cI, kI, compI, i1, i2, i3⟩ := Cond.arrayClass_spec (htg _ ac_int)
  obtain ⟨compH, cH, kH, h1, -, h2, h3, h4⟩ := Cond.arrayOver_spec (hts _ st_ao)
  obtain ⟨adK, adV, hSt, hev⟩ := vk_Sof (args := #[Value.ref bb]) (s := s) (N := 1) (tm := fun _ => tmS) (len := vSlen) (byt := vSbyt) (A := fun q => s.heap.size ≤ q)
    (fun i hi => by rw [show i = 0 by omega]; decide) (fun i hi => hs _ g_s1) (fun i hi => hs _ g_s2) (fun i hi => hs _ g_s3) (fun i hi => by rw [show i = 0 by omega]; exact hs _ g_s4) (fun i hi j hj => by rw [show i = 0 by omega] at hj ⊢; exact hs _ (g_s5 j hj)) (fun i j hi hj hij => absurd (show i = j by omega) hij) hA
  have hcl := fun k => (Classical.choose_spec (st_cls htg k))
  refine ⟨(fun k => if k = 13 then cI else if k = 14 then cH else (Classical.choose (st_cls htg k)).1, fun k => if k = 99 then adK else if k = 98 then adV else (Classical.choose (st_cls htg k)).2), ⟨fun k q hq => ?_, fun k q hq => ?_⟩, ?_⟩
  · have hk : k < 13 := (List.getElem?_eq_some_iff.mp hq).1
    show u_Kn s q.1 q.2.1 q.2.2 (if k = 13 then cI else if k = 14 then cH else (Classical.choose (st_cls htg k)).1) (if k = 99 then adK else if k = 98 then adV else (Classical.choose (st_cls htg k)).2)
    rw [if_neg (by omega), if_neg (by omega), if_neg (by omega), if_neg (by omega)]
    exact hcl k q hq
  · have hk : k < 2 := (List.getElem?_eq_some_iff.mp hq).1
    rcases (show k = 0 ∨ k = 1 by omega) with e | e <;> subst e <;> cases hq
    · exact ⟨fun n z => ⟨(fun k h => by cases h), kI, i2, compI, i3⟩, i1⟩
    · exact ⟨fun n z => ⟨(fun k h => by cases h), kH, h2, compH, h3⟩, kH, compH, h2, h3, h1, h4⟩
  · obtain ⟨t, e1, e2⟩ := va_Tof (args := #[Value.ref bb]) (s := s) (tm := tmO) (ty := .int) (N := 18) (f := fun j => .int (ordF j)) (A := fun q => s.heap.size ≤ q) (by decide) (hs _ g_o1) (va_eqt (hs _ g_o2)) (fun j hj => va_eqt (hs _ (g_o3 j hj))) hA
    refine ⟨st_nc hgv, va_AO.of (hts _ st_ao), fun q hq => va_Nw.of rfl (hts _ (st_nest q hq)), ⟨t, va_Zof (hts _ st_l1) (hts _ st_i1) e1 hA, e2⟩, ⟨hSt, vk_R.of (hts _ st_sref) (hev 0 (by decide))⟩, va_Zof (hts _ st_l2) (hts _ st_i2) (va_eqt (hs _ g_c)) hA, va_Zqof (hts _ st_l3) (hts _ st_i3) (hs _ g_f) hA, va_Nw.of rfl (hts _ st_cast)⟩
end ST
