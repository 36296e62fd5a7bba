section R10
variable {sc sc1 : Nat → Int32} {ar ar1 : Nat → Nat → Int32} {hv : HV} {hi kk dd FF cc hh : Nat → Nat} {R H W Hn Sn Pn : Nat}
theorem dg_C (h : zRL sc ar hv hi kk dd FF cc hh R H W Hn Sn Pn) : dgC sc ar hv = mdC sc ar Hn 12 := by
  have ec := fun c w => eq_cell h c w
  obtain ⟨⟨a16, a21, hR⟩, -⟩ := h
  unfold dgC
  by_cases r0 : R = 0
  · rw [if_pos (by rw [a16]; exact (z_le0 hR).mpr r0)]
    exact (mdC_no (by rw [a21]; exact (z_eq0 hR).mpr r0) 12 0).symm
  · have r21 : ¬ sc 21 = 0 := by rw [a21]; exact fun q => r0 ((z_eq0 hR).mp q)
    rw [if_neg (by rw [a16]; exact fun q => r0 ((z_le0 hR).mp q))]
    have inn : ∀ c, c < 12 → ∀ g w, dcI sc ar hv c g w = mdI sc ar Hn c g w := by
      intro c hc g w
      induction w with
      | zero => rfl
      | succ w ih =>
        rw [dcI, mdI, ih, ec]
        unfold mceF
        rw [if_neg (nI_pos (by omega)), if_neg (show ¬ (11 : Int32) < nI c from nI_nlt (a := 11) (by omega) (by decide)), if_neg r21]
    have out : ∀ n, n ≤ 12 → dcC sc ar hv 863 n = mdC sc ar Hn n := by
      intro n
      induction n with
      | zero => intro _; rfl
      | succ n ih => intro hn; rw [dcC, mdC, if_neg r21, ih (by omega), inn n (by omega)]
    exact out 12 (Nat.le_refl _)
theorem md_cg (h : zRL sc ar hv hi kk dd FF cc hh R H W Hn Sn Pn) (p : Per sc ar sc1 ar1) : mdC sc1 ar1 Hn 12 = mdC sc ar Hn 12 := by
  have et : ∀ c w, mtcF sc1 ar1 Hn c w = mtcF sc ar Hn c w := fun c w => by
    unfold mtcF
    rw [p.1 21 (by decide), p.1 22 (by decide), p.2 29 (by decide), p.2 30 (by decide)]
  have inn : ∀ c g w, mdI sc1 ar1 Hn c g w = mdI sc ar Hn c g w := by
    intro c g w
    induction w with
    | zero => rfl
    | succ w ih => rw [mdI, mdI, ih, et]
  have out : ∀ n, mdC sc1 ar1 Hn n = mdC sc ar Hn n := by
    intro n
    induction n with
    | zero => rfl
    | succ n ih => rw [mdC, mdC, p.1 21 (by decide), ih, inn]
  exact out 12
theorem msh_per (p : Per sc ar sc1 ar1) {k : Nat} {g : Nat → Int32} {P : Nat → Prop} {h : Int64} : mshF sc1 ar1 k g P h = mshF sc ar k g P h := by
  have et : ∀ w, mteF sc1 ar1 k w = mteF sc ar k w := fun w => by
    unfold mteF mstF
    rw [p.1 21 (by decide), p.1 22 (by decide), p.1 23 (by decide), p.2 29 (by decide), p.2 30 (by decide)]
  have eT : ∀ n, mhT sc1 ar1 k h n = mhT sc ar k h n := by
    intro n
    induction n with
    | zero => rfl
    | succ n ih => rw [mhT, mhT, ih, et]
  unfold mshF
  rw [eT]
theorem dgH_eq {F F' : Nat → Int64 → Int64} (e : ∀ k h, F' k h = F k h) {h : Int64} (hH3 : Hn ≤ 3) : dgH F Hn h 3 = mdH F' h Hn := by
  have up : ∀ n, n ≤ Hn → dgH F Hn h n = mdH F' h n := by
    intro n
    induction n with
    | zero => intro _; rfl
    | succ n ih => intro hn; rw [dgH, mdH, if_pos (by omega), ih (by omega), e]
  have st : ∀ n, dgH F Hn h (Hn + n) = dgH F Hn h Hn := by
    intro n
    induction n with
    | zero => rfl
    | succ n ih => rw [← Nat.add_assoc, dgH, if_neg (by omega)]; exact ih
  have := st (3 - Hn)
  rw [show Hn + (3 - Hn) = 3 by omega] at this
  rw [this, up Hn (Nat.le_refl _)]
theorem eq_digest (h : zRL sc ar hv hi kk dd FF cc hh R H W Hn Sn Pn) (p : Per sc ar sc1 ar1) : dkN sc1 ar1 hv (mdP (ar1 1) (dgH (fun k h => mshF sc ar k (fun c => (vyQ hi R W (kk k) (dd k) (FF k) H).1 c) (fun c => stQ hi R W (kk k) (dd k) (ar 35) (nI k) Sn c) h) Hn (dgC sc ar hv) 3) Pn) 9 =
    mdK sc1 ar1 Hn (mdP (ar1 28) (mdH (fun k h => mshF sc1 ar1 k (fun c => (vyQ hi R W (kk k) (dd k) (FF k) H).1 c) (fun c => stQ hi R W (kk k) (dd k) (ar1 35) (nI k) Sn c) h) (mdC sc1 ar1 Hn 12) Hn) Pn) 9 := by
  have h1 := rl_per h p
  have hH3 : Hn ≤ 3 := h.2.2.2.1.2.2
  have e1 : dgH (fun k h => mshF sc ar k (fun c => (vyQ hi R W (kk k) (dd k) (FF k) H).1 c) (fun c => stQ hi R W (kk k) (dd k) (ar 35) (nI k) Sn c) h) Hn (dgC sc ar hv) 3 = mdH (fun k h => mshF sc1 ar1 k (fun c => (vyQ hi R W (kk k) (dd k) (FF k) H).1 c) (fun c => stQ hi R W (kk k) (dd k) (ar1 35) (nI k) Sn c) h) (mdC sc1 ar1 Hn 12) Hn := by
    rw [dg_C h, md_cg h p]
    exact dgH_eq (fun k g => by rw [msh_per p, p.2 35 (by decide)]) hH3
  rw [e1]
  generalize mdH (fun k h => mshF sc1 ar1 k (fun c => (vyQ hi R W (kk k) (dd k) (FF k) H).1 c) (fun c => stQ hi R W (kk k) (dd k) (ar1 35) (nI k) Sn c) h) (mdC sc1 ar1 Hn 12) Hn = g
  have e2 : ∀ n, n ≤ Pn → mdP (ar1 1) g n = mdP (ar1 28) g n := by
    obtain ⟨-, -, -, -, -, -, -, -, hl, -⟩ := h1
    intro n
    induction n with
    | zero => intro _; rfl
    | succ n ih => intro hn; rw [mdP, mdP, ih (by omega), (hl n (by omega)).1]
  rw [e2 Pn (Nat.le_refl _)]
  have e3 : ∀ n g, dkN sc1 ar1 hv g n = mdK sc1 ar1 Hn g n := by
    intro n g
    induction n with
    | zero => rfl
    | succ n ih => rw [dkN, mdK, ih, eq_count h1]
  exact e3 9 _
theorem msta_u {P : Nat → Nat → Prop} {x v v' : Int32} (a : mstaF sc P x v) (b : mstaF sc P x v') : v = v' := by
  unfold mstaF at a b
  by_cases h1 : x < 0
  · rw [if_pos h1] at a b; exact a.trans b.symm
  · rw [if_neg h1] at a b
    by_cases h2 : sc 25 - 1 < x
    · rw [if_pos h2] at a b; exact a.trans b.symm
    · rw [if_neg h2] at a b; exact a.trans b.symm
theorem mju_cg {t s w v : Int32} (p : Per sc ar sc1 ar1) (h : mjuF sc1 ar1 Hn t s w v) : mjuF sc ar Hn t s w v := by
  have em : ∀ a b, mstN (va_up sc1 22 a) (va_up ar1 30 b) Hn = mstN (va_up sc 22 a) (va_up ar 30 b) Hn := fun a b => mst_sc (sc := va_up sc 22 a) (sc' := va_up sc1 22 a) (ar := va_up ar 30 b) (ar' := va_up ar1 30 b) (p.2 29 (by decide)) rfl rfl (p.1 21 (by decide))
  unfold mjuF at h ⊢
  rw [p.1 21 (by decide), p.1 22 (by decide), p.2 29 (by decide), p.2 30 (by decide), em] at h
  exact h
theorem mju_u {t s w v v' : Int32} (a : mjuF sc ar Hn t s w v) (b : mjuF sc ar Hn t s w v') : v = v' := by
  unfold mjuF at a b
  by_cases h1 : t < 1
  · rw [if_pos h1] at a b; exact a.trans b.symm
  rw [if_neg h1] at a b
  by_cases h2 : 20 < t
  · rw [if_pos h2] at a b; exact a.trans b.symm
  rw [if_neg h2] at a b
  by_cases h3 : s < 0
  · rw [if_pos h3] at a b; exact a.trans b.symm
  rw [if_neg h3] at a b
  by_cases h4 : w < 0
  · rw [if_pos h4] at a b; exact a.trans b.symm
  rw [if_neg h4] at a b
  by_cases h5 : 3 < w
  · rw [if_pos h5] at a b; exact a.trans b.symm
  rw [if_neg h5] at a b
  by_cases h6 : sc 21 = 0
  · rw [if_pos h6] at a b; exact a.trans b.symm
  rw [if_neg h6] at a b
  by_cases e0 : w = 0
  · rw [if_pos e0] at a b; exact a.trans b.symm
  rw [if_neg e0] at a b
  by_cases e1 : w = 1
  · rw [if_pos e1] at a b; exact a.trans b.symm
  rw [if_neg e1] at a b
  by_cases e2 : w = 2
  · rw [if_pos e2] at a b; exact a.trans b.symm
  rw [if_neg e2] at a b; exact a.trans b.symm
end R10
def sc0 : Nat → Int32 := fun i => if i = 17 then 4 else if i = 19 then 4 else if i = 23 then 4 else if i = 30 then -1 else 0
def ar0 : Nat → Nat → Int32 := fun _ _ => 0
theorem all_0 : zAll sc0 ar0 (fun _ => none) 0 := by
  refine ⟨fun _ => 0, fun _ => 0, fun _ => 0, fun _ => 0, fun _ => 0, fun _ => 0, 0, 0, 4, 0, 0, 0, ⟨⟨rfl, rfl, by decide⟩, ⟨rfl, rfl, by decide⟩, ⟨rfl, rfl, by decide⟩, ⟨rfl, rfl, by decide⟩, ⟨rfl, rfl, by decide⟩, ⟨rfl, rfl, by decide⟩, rfl, ⟨fun c _ => ⟨rfl, Nat.zero_le _⟩, fun c _ => ⟨rfl, Nat.zero_le _⟩⟩, fun i hi => absurd hi (Nat.not_lt_zero i), fun k hk => absurd hk (Nat.not_lt_zero k), fun k _ _ => rfl, fun i hi => absurd hi (Nat.not_lt_zero i)⟩, 0, rfl, Nat.le_refl _, Or.inl ⟨rfl, by decide, Or.inl rfl⟩⟩
theorem hvr_0 : HVr (fun _ => none) [] (fun _ => none) := by
  refine ⟨fun _ _ => rfl, fun i k dr ce sa h => ?_, fun i j t h _ => ?_⟩
  · change (none : Option (Nat × Int32 × Int32 × Int32)) = some (k, dr, ce, sa) at h
    cases h
  · change (none : Option Nat) = some t at h
    cases h
