/-! home: one order after another -/
def evS (g : Nat → Nat → Int32) (p : Int32 × Nat) (k : Nat) : Int32 × Nat := if g k p.2 = -1 then (p.1 + 0, p.2) else (p.1 + 1, (g k p.2).toNatClampNeg)
def evF (g : Nat → Nat → Int32) (H : Nat) (ks : List Nat) : Int32 × Nat := ks.foldl (evS g) (0, H)
def ordN (o j : Nat) : Nat := ([0, 1, 2, 0, 2, 1, 1, 0, 2, 1, 2, 0, 2, 0, 1, 2, 1, 0] : List Nat).getD (3 * o + j) 0
def LL (n o j : Nat) : List Nat := ((List.range j).map (ordN o)).filter (fun k => decide (k < n))
def pkS (q : Int32 × Int32 × Nat) (a : Int32 × Nat) (o : Nat) : Int32 × Int32 × Nat := if q.1 < a.1 then (a.1, nI a.2, o) else if a.1 = q.1 then (if nI a.2 < q.2.1 then (a.1, nI a.2, o) else q) else q
def cfN (g : Nat → Nat → Int32) (H n : Nat) : Nat → Int32 × Int32 × Nat
  | 0 => (-1, nI H, 0)
  | i + 1 => pkS (cfN g H n i) (evF g H (LL n i 3)) i
theorem nu_all : ∀ o, o < 6 → ∀ j, j < 3 → nuF (nI o) (nI j) = nI (ordN o j) ∧ ordN o j < 3 := by decide +kernel
theorem LL_s (n o j : Nat) : LL n o (j + 1) = LL n o j ++ (if ordN o j < n then [ordN o j] else []) := by
  unfold LL
  rw [List.range_succ, List.map_append, List.filter_append]
  congr 1
  by_cases h : ordN o j < n
  · rw [if_pos h]; simp [h]
  · rw [if_neg h]; simp [h]
theorem evF_s (g : Nat → Nat → Int32) (H : Nat) (ks : List Nat) (k : Nat) : evF g H (ks ++ [k]) = evS g (evF g H ks) k := by unfold evF; rw [List.foldl_append]; rfl
theorem pk_at {q : Int32 × Int32 × Nat} {a : Int32 × Nat} {o : Nat} {m : Nat} (h : q.1 = -1) (hm : a.1 = nI m) (hm3 : m ≤ 3) : pkS q a o = (a.1, nI a.2, o) := by
  unfold pkS
  rw [if_pos]
  rw [h, hm, Int32.lt_iff_toInt_lt, nI_toInt (by omega)]
  have : ((-1 : Int32)).toInt = -1 := rfl
  omega
theorem pk_self {a : Int32 × Nat} {o o' : Nat} : pkS (a.1, nI a.2, o) a o' = (a.1, nI a.2, o) := by
  unfold pkS
  rw [if_neg Int32.lt_irrefl, if_pos rfl, if_neg Int32.lt_irrefl]
/-- the better of two stays, whichever comes again -/
theorem pk_two {a b : Int32 × Nat} {o1 o2 o3 : Nat} : (pkS (a.1, nI a.2, o1) b o2 = (b.1, nI b.2, o2) ∧ pkS (b.1, nI b.2, o2) a o3 = (b.1, nI b.2, o2)) ∨ (pkS (a.1, nI a.2, o1) b o2 = (a.1, nI a.2, o1) ∧ ∀ o, pkS (a.1, nI a.2, o1) b o = (a.1, nI a.2, o1)) := by
  unfold pkS
  by_cases h1 : a.1 < b.1
  · left
    rw [if_pos h1, if_neg (Int32.lt_asymm h1), if_neg (show ¬ a.1 = b.1 from fun q => by rw [q] at h1; exact Int32.lt_irrefl h1)]
    exact ⟨rfl, rfl⟩
  · rw [if_neg h1]
    by_cases h2 : b.1 = a.1
    · rw [if_pos h2]
      by_cases h3 : nI b.2 < nI a.2
      · left
        rw [if_pos h3, if_neg (by rw [h2]; exact Int32.lt_irrefl), if_pos h2.symm, if_neg (Int32.lt_asymm h3)]
        exact ⟨rfl, rfl⟩
      · right
        rw [if_neg h3]
        exact ⟨rfl, fun o => by rw [if_neg h1, if_pos h2, if_neg h3]⟩
    · right
      rw [if_neg h2]
      exact ⟨rfl, fun o => by rw [if_neg h1, if_neg h2]⟩
theorem pk_lab {q : Int32 × Int32 × Nat} {a : Int32 × Nat} {o : Nat} (f : Nat → Nat) : pkS (q.1, q.2.1, f q.2.2) a (f o) = ((pkS q a o).1, (pkS q a o).2.1, f (pkS q a o).2.2) := by
  unfold pkS
  by_cases h1 : q.1 < a.1
  · rw [if_pos h1, if_pos h1]
  · rw [if_neg h1, if_neg h1]
    by_cases h2 : a.1 = q.1
    · rw [if_pos h2, if_pos h2]
      by_cases h3 : nI a.2 < q.2.1
      · rw [if_pos h3, if_pos h3]
      · rw [if_neg h3, if_neg h3]
    · rw [if_neg h2, if_neg h2]
section R3
variable {g : Nat → Nat → Int32} {n H : Nat}
theorem mlh_skip : ∀ d a, (∀ v, v < d → ioB n (a + v) = false) → mlhN n g H (a + d) = mlhN n g H a := by
  intro d
  induction d with
  | zero => intro a _; rfl
  | succ d ih =>
    intro a h
    rw [← Nat.add_assoc, mlhN, if_neg (by rw [h d (by omega)]; decide)]
    exact ih a (fun v h1 => h v (by omega))
theorem mlh_take {t : Nat} (h : ioB n t = true) : mlhN n g H (t + 1) = pkS (mlhN n g H t) (mhpN g (od n t) H n) t := by rw [mlhN, if_pos h]; rfl
theorem ev_bd (hg : vgB g n) (hH : H ≤ 999) (o : Nat) : ∀ j, j ≤ 3 → H ≤ (evF g H (LL n o j)).2 ∧ (evF g H (LL n o j)).2 ≤ H + 48 * j ∧ ∃ m, m ≤ j ∧ (evF g H (LL n o j)).1 = nI m := by
  intro j
  induction j with
  | zero => intro _; exact ⟨Nat.le_refl _, by show H ≤ H + 48 * 0; omega, 0, Nat.le_refl _, rfl⟩
  | succ j ih =>
    intro hj
    obtain ⟨a, b, m, hm, e⟩ := ih (by omega)
    rw [LL_s]
    by_cases hk : ordN o j < n
    · rw [if_pos hk, evF_s, evS]
      generalize evF g H (LL n o j) = p at a b e ⊢
      by_cases h : g (ordN o j) p.2 = -1
      · rw [if_pos h]
        exact ⟨a, by show p.2 ≤ _; omega, m, by omega, by show p.1 + 0 = _; rw [e]; exact Int32.add_zero _⟩
      · rw [if_neg h]
        rcases hg (ordN o j) p.2 hk (by omega) with q | ⟨h', h1, h2, q⟩
        · exact absurd q h
        · have eh : (g (ordN o j) p.2).toNatClampNeg = h' := by rw [q]; exact nI_clamp (by omega)
          exact ⟨by show H ≤ (g (ordN o j) p.2).toNatClampNeg; omega, by show (g (ordN o j) p.2).toNatClampNeg ≤ _; omega, m + 1, by omega, by show p.1 + 1 = _; rw [e]; exact nI_1 m⟩
    · rw [if_neg hk, List.append_nil]
      exact ⟨a, by omega, m, by omega, e⟩
theorem mhp_ev {o : Nat → Nat} : ∀ j, mhpN g o H j = evF g H ((List.range j).map o) := by
  intro j
  induction j with
  | zero => rfl
  | succ j ih =>
    rw [List.range_succ, List.map_append, mhpN, ih]
    exact (evF_s g H _ (o j)).symm
/-- the codes of the reference that are orders, by the class's numbers of orders -/
def cod (n o : Nat) : Nat := if n = 3 then ([5, 7, 11, 15, 19, 21] : List Nat).getD o 0 else if n = 2 then ([1, 1, 2, 2, 1, 2] : List Nat).getD o 0 else 0
theorem io3_no : ∀ u, u < 27 → ioB 3 u = true ∨ ioB 3 u = false := by decide +kernel
theorem cod_od : ∀ n, n < 4 → ∀ o, o < 6 → (List.range n).map (od n (cod n o)) = LL n o 3 := by decide +kernel
abbrev okO (n o : Nat) : Prop := o < 6 ∧ ∀ j, j < n → od n (cod n o) j = ordN o j
theorem home_eq (hg : vgB g n) (hn : n ≤ 3) (hH : H ≤ 999) : (mlhN n g H (cds n)).1 = (cfN g H n 6).1 ∧ (mlhN n g H (cds n)).2.1 = (cfN g H n 6).2.1 ∧ (mlhN n g H (cds n)).2.2 = cod n (cfN g H n 6).2.2 ∧ okO n (cfN g H n 6).2.2 := by
  have eb : ∀ o, ∃ m, (evF g H (LL n o 3)).1 = nI m ∧ m ≤ 3 := fun o => by
    obtain ⟨-, -, m, hm, e⟩ := ev_bd hg hH o 3 (Nat.le_refl _)
    exact ⟨m, e, hm⟩
  have hmp : ∀ o, o < 6 → mhpN g (od n (cod n o)) H n = evF g H (LL n o 3) := fun o ho => by rw [mhp_ev, cod_od n (by omega) o ho]
  have c1 : ∀ {m}, (evF g H (LL n 0 3)).1 = nI m → m ≤ 3 → cfN g H n 1 = ((evF g H (LL n 0 3)).1, nI (evF g H (LL n 0 3)).2, 0) := fun e hm => pk_at rfl e hm
  obtain ⟨m, hm, hm3⟩ := eb 0
  have c1 := c1 hm hm3
  rcases (show n = 0 ∨ n = 1 ∨ n = 2 ∨ n = 3 by omega) with q | q | q | q <;> subst q
  · have L : ∀ o, o < 6 → LL 0 o 3 = LL 0 0 3 := by decide
    have cs : ∀ i, i ≤ 5 → cfN g H 0 (i + 1) = ((evF g H (LL 0 0 3)).1, nI (evF g H (LL 0 0 3)).2, 0) := by
      intro i
      induction i with
      | zero => intro _; exact c1
      | succ i ih => intro hi; rw [cfN, ih (by omega), L (i + 1) (by omega)]; exact pk_self
    have m1 : mlhN 0 g H (cds 0) = ((evF g H (LL 0 0 3)).1, nI (evF g H (LL 0 0 3)).2, 0) := by
      show mlhN 0 g H (0 + 1) = _
      rw [mlh_take (by decide), ← hmp 0 (by decide)]
      rw [← hmp 0 (by decide)] at hm
      exact pk_at rfl hm hm3
    rw [m1, cs 5 (by decide)]
    exact ⟨rfl, rfl, rfl, (by decide : okO 0 0)⟩
  · have L : ∀ o, o < 6 → LL 1 o 3 = LL 1 0 3 := by decide
    have cs : ∀ i, i ≤ 5 → cfN g H 1 (i + 1) = ((evF g H (LL 1 0 3)).1, nI (evF g H (LL 1 0 3)).2, 0) := by
      intro i
      induction i with
      | zero => intro _; exact c1
      | succ i ih => intro hi; rw [cfN, ih (by omega), L (i + 1) (by omega)]; exact pk_self
    have m1 : mlhN 1 g H (cds 1) = ((evF g H (LL 1 0 3)).1, nI (evF g H (LL 1 0 3)).2, 0) := by
      show mlhN 1 g H (0 + 1) = _
      rw [mlh_take (by decide), ← hmp 0 (by decide)]
      rw [← hmp 0 (by decide)] at hm
      exact pk_at rfl hm hm3
    rw [m1, cs 5 (by decide)]
    exact ⟨rfl, rfl, rfl, (by decide : okO 1 0)⟩
  · have m2 : mlhN 2 g H (1 + 1) = ((evF g H (LL 2 0 3)).1, nI (evF g H (LL 2 0 3)).2, 1) := by
      rw [mlh_take (by decide)]
      have h0 : mlhN 2 g H 1 = (-1, 0, 0) := mlh_skip (n := 2) (g := g) (H := H) 1 0 (by decide)
      rw [h0, show mhpN g (od 2 1) H 2 = evF g H (LL 2 0 3) from hmp 0 (by decide)]
      exact pk_at rfl hm hm3
    have m3 : mlhN 2 g H (cds 2) = pkS ((evF g H (LL 2 0 3)).1, nI (evF g H (LL 2 0 3)).2, 1) (evF g H (LL 2 2 3)) 2 := by
      have h0 : mlhN 2 g H (3 + 1) = mlhN 2 g H 3 := mlh_skip (n := 2) (g := g) (H := H) 1 3 (by decide)
      show mlhN 2 g H (3 + 1) = _
      rw [h0, show (3 : Nat) = 2 + 1 from rfl, mlh_take (by decide), show mhpN g (od 2 2) H 2 = evF g H (LL 2 2 3) from hmp 2 (by decide), show (2 : Nat) = 1 + 1 from rfl, m2]
    have c2 : cfN g H 2 2 = ((evF g H (LL 2 0 3)).1, nI (evF g H (LL 2 0 3)).2, 0) := by
      rw [cfN, c1, show LL 2 1 3 = LL 2 0 3 by decide]; exact pk_self
    have lab := pk_lab (q := ((evF g H (LL 2 0 3)).1, nI (evF g H (LL 2 0 3)).2, 0)) (a := evF g H (LL 2 2 3)) (o := 2) (cod 2)
    rw [m3, show pkS ((evF g H (LL 2 0 3)).1, nI (evF g H (LL 2 0 3)).2, 1) (evF g H (LL 2 2 3)) 2 = _ from lab]
    have c3 : cfN g H 2 3 = pkS ((evF g H (LL 2 0 3)).1, nI (evF g H (LL 2 0 3)).2, 0) (evF g H (LL 2 2 3)) 2 := by rw [cfN, c2]
    have e3 : LL 2 3 3 = LL 2 2 3 := by decide
    have e4 : LL 2 4 3 = LL 2 0 3 := by decide
    have e5 : LL 2 5 3 = LL 2 2 3 := by decide
    have c6 : cfN g H 2 6 = pkS (pkS (pkS (cfN g H 2 3) (evF g H (LL 2 2 3)) 3) (evF g H (LL 2 0 3)) 4) (evF g H (LL 2 2 3)) 5 := by
      rw [cfN, cfN, cfN, e3, e4, e5]
    have fin : cfN g H 2 6 = pkS ((evF g H (LL 2 0 3)).1, nI (evF g H (LL 2 0 3)).2, 0) (evF g H (LL 2 2 3)) 2 := by
      rw [c6, c3]
      rcases pk_two (a := evF g H (LL 2 0 3)) (b := evF g H (LL 2 2 3)) (o1 := 0) (o2 := 2) (o3 := 4) with ⟨h1, h2⟩ | ⟨h1, h2⟩
      · rw [h1, pk_self, h2, pk_self]
      · rw [h1, h2, pk_self, h2]
    rw [fin]
    refine ⟨rfl, rfl, rfl, ?_⟩
    rcases pk_two (a := evF g H (LL 2 0 3)) (b := evF g H (LL 2 2 3)) (o1 := 0) (o2 := 2) (o3 := 4) with ⟨h1, -⟩ | ⟨h1, -⟩
    · rw [h1]; exact (by decide : okO 2 2)
    · rw [h1]; exact (by decide : okO 2 0)
  · have go : ∀ i, i ≤ 5 → ∀ t, mlhN 3 g H t = ((cfN g H 3 i).1, (cfN g H 3 i).2.1, cod 3 (cfN g H 3 i).2.2) → t ≤ cod 3 i → (∀ v, v < cod 3 i - t → ioB 3 (t + v) = false) → ioB 3 (cod 3 i) = true → mlhN 3 g H (cod 3 i + 1) = ((cfN g H 3 (i + 1)).1, (cfN g H 3 (i + 1)).2.1, cod 3 (cfN g H 3 (i + 1)).2.2) := by
      intro i hi t ht hle hno hyes
      have hs := mlh_skip (n := 3) (g := g) (H := H) (cod 3 i - t) t hno
      rw [show t + (cod 3 i - t) = cod 3 i by omega] at hs
      rw [mlh_take hyes, hs, ht, hmp i (by omega), cfN]
      exact pk_lab (q := cfN g H 3 i) (a := evF g H (LL 3 i 3)) (o := i) (cod 3)
    have s1 : mlhN 3 g H (cod 3 0 + 1) = ((cfN g H 3 1).1, (cfN g H 3 1).2.1, cod 3 (cfN g H 3 1).2.2) := by
      have hs := mlh_skip (n := 3) (g := g) (H := H) 5 0 (by decide +kernel)
      rw [show (0 : Nat) + 5 = cod 3 0 by decide] at hs
      rw [mlh_take (by decide +kernel), hs, hmp 0 (by decide), c1]
      exact pk_at rfl hm hm3
    have s2 := go 1 (by decide) _ s1 (by decide) (by decide +kernel) (by decide +kernel)
    have s3 := go 2 (by decide) _ s2 (by decide) (by decide +kernel) (by decide +kernel)
    have s4 := go 3 (by decide) _ s3 (by decide) (by decide +kernel) (by decide +kernel)
    have s5 := go 4 (by decide) _ s4 (by decide) (by decide +kernel) (by decide +kernel)
    have s6 := go 5 (by decide) _ s5 (by decide) (by decide +kernel) (by decide +kernel)
    have hs := mlh_skip (n := 3) (g := g) (H := H) 5 22 (by decide +kernel)
    have e : mlhN 3 g H (cds 3) = ((cfN g H 3 6).1, (cfN g H 3 6).2.1, cod 3 (cfN g H 3 6).2.2) := by
      rw [show cds 3 = 22 + 5 by decide, hs, show (22 : Nat) = cod 3 5 + 1 by decide]
      exact s6
    rw [e]
    refine ⟨rfl, rfl, rfl, ?_⟩
    have lt : ∀ i, (cfN g H 3 (i + 1)).2.2 ≤ i := by
      intro i
      induction i with
      | zero => rw [c1]; exact Nat.le_refl _
      | succ i ih =>
        rw [cfN]
        unfold pkS
        split
        · exact Nat.le_refl _
        · split
          · split
            · exact Nat.le_refl _
            · omega
          · omega
    exact (by decide +kernel : ∀ o, o < 6 → okO 3 o) _ (Nat.lt_succ_of_le (lt 5))
end R3
