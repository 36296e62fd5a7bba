/-! the start: classes' numbers, the one static row, the text, as the tables have them -/
theorem nw_kn {args : Array Value} {s : State} {own : String} {idx ci : Nat} {fs : List Value} (hts : ∀ w ∈ lw_g, w.before args s = true) (F : NW own idx ci fs) : ∃ (cC : ClassId) (iS : Nat → Nat), ∀ q : vw_C, vwCl[ci]? = some q → u_Kn s q.1 q.2.1 q.2.2 cC iS := by
  obtain ⟨C', T, N, ty0, hc, hin, hty, hcl, hinst, hini, hfs, hlen⟩ := F
  obtain ⟨cC, iS, hk⟩ := u_known hts hin (hts _ hinst)
  refine ⟨cC, iS, fun q hq => ?_⟩
  rw [hc] at hq
  cases hq
  exact hk
theorem st_cls {args : Array Value} {s : State} (hts : ∀ w ∈ lw_g, w.before args s = true) : ∀ k : Nat, ∃ (x : ClassId × (Nat → Nat)), ∀ q : vw_C, vwCl[k]? = some q → u_Kn s q.1 q.2.1 q.2.2 x.1 x.2 := by
  intro k
  have mk : (∃ (cC : ClassId) (iS : Nat → Nat), ∀ q : vw_C, vwCl[k]? = some q → u_Kn s q.1 q.2.1 q.2.2 cC iS) → ∃ (x : ClassId × (Nat → Nat)), ∀ q : vw_C, vwCl[k]? = some q → u_Kn s q.1 q.2.1 q.2.2 x.1 x.2 := fun ⟨a, b, h⟩ => ⟨(a, b), h⟩
  match k with
  | 0 => exact mk (nw_kn hts nw_X11_33)
  | 1 => exact mk (nw_kn hts nw_X11_276)
  | 2 => exact mk (nw_kn hts nw_X11_270)
  | 3 => exact mk (nw_kn hts nw_X11_40)
  | 4 => exact mk (nw_kn hts nw_X11_13)
  | 5 => exact mk (nw_kn hts nw_X11_26)
  | 6 => exact mk (nw_kn hts nw_X11_47)
  | 7 => exact mk (nw_kn hts nw_X11_54)
  | 8 => exact mk (nw_kn hts nw_X11_19)
  | 9 => exact mk (nw_kn hts nw_X11_273)
  | 10 => exact mk (nw_kn hts nw_X11_266)
  | 11 => exact mk (nw_kn hts nw_L_7)
  | 12 => exact mk (nw_kn hts nw_L_10)
  | n + 13 => exact ⟨(default, fun _ => 0), fun q hq => absurd hq (by rw [List.getElem?_eq_none (by show 13 ≤ n + 13; omega)]; exact fun h => by cases h)⟩
theorem tb_mem {w : Cond} (i : Nat) (h : lw_tbl[i]? = some w) : w ∈ lw_tbl := List.mem_of_getElem? h
theorem st_nest : ∀ q ∈ nestK, Cond.methodLinkNest q.1 q.2.1 q.2.2 "WheatSea" ∈ lw_tbl := by decide +kernel
theorem st_ao : Cond.arrayOver (.object "WheatSea$Hull") ∈ lw_tbl := by decide +kernel
theorem st_cast : Cond.castable "WheatSea$Cutter" "WheatSea$Sloop" ∈ lw_tbl := by decide +kernel
theorem st_sref : Cond.stringRef "WheatSea" 74 "0000,0000,0000;1" ∈ lw_tbl := by decide +kernel
theorem st_l1 : Cond.laysStatic "WheatSea$Homecoming" "ORDERS" "[I" ∈ lw_tbl := by decide +kernel
theorem st_l2 : Cond.laysStatic "java/lang/String" "COMPACT_STRINGS" "Z" ∈ lw_tbl := by decide +kernel
theorem st_l3 : Cond.laysStatic "jdk/internal/util/Preconditions" "SIOOBE_FORMATTER" "Ljava/util/function/BiFunction;" ∈ lw_tbl := by decide +kernel
theorem st_i1 : Cond.initialized "WheatSea$Homecoming" ∈ lw_tbl := by decide +kernel
theorem st_i2 : Cond.initialized "java/lang/String" ∈ lw_tbl := by decide +kernel
theorem st_i3 : Cond.initialized "jdk/internal/util/Preconditions" ∈ lw_tbl := by decide +kernel
section ST
variable {s : State} {bb : Nat}
theorem st_nc (hgv : (Jvm.Cond.and given_1 narrow_1).before #[Value.ref bb] s = true) : ∀ q ∈ ncK, va_Nc q.1 q.2 s := by
  have hs := flat_of_before _ hgv
  intro q hq
  exact va_Nc.of (hs _ ((by decide +kernel : ∀ q ∈ ncK, Cond.not (.castable q.1 q.2) ∈ flatC (Jvm.Cond.and given_1 narrow_1)) q hq))
end ST
