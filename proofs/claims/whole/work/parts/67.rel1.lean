/-! the class and the reference side by side -/
def zRL (sc : Nat → Int32) (ar : Nat → Nat → Int32) (hv : HV) (hi kk dd FF cc hh : Nat → Nat) (R H W Hn Sn Pn : Nat) : Prop :=
  (sc 16 = nI R ∧ sc 21 = nI R ∧ R ≤ 9) ∧ (sc 3 = nI H ∧ sc 22 = nI H ∧ H ≤ 999) ∧ (sc 17 = nI W ∧ sc 23 = nI W ∧ W < 5) ∧ (sc 2 = nI Hn ∧ sc 25 = nI Hn ∧ Hn ≤ 3) ∧ (sc 4 = nI Sn ∧ sc 28 = nI Sn ∧ Sn ≤ 6) ∧ (sc 0 = nI Pn ∧ sc 20 = nI Pn ∧ Pn ≤ 18) ∧ sc 1 = sc 24 ∧ (zP (ar 24) hi ∧ zP (ar 29) hi) ∧ (∀ i, i < Pn → ar 1 i = ar 28 i ∧ ∃ m, m < 127 ∧ ar 28 i = nI m) ∧
  (∀ k, k < Hn → (kk k < 5 ∧ 1 ≤ dd k ∧ dd k ≤ 9 ∧ FF k < 12) ∧ ar 30 (4 * k + 0) = nI (kk k) ∧ ar 30 (4 * k + 1) = nI (dd k) ∧ ar 30 (4 * k + 2) = nI (FF k) ∧ hv k = some (kk k, nI (dd k), nI (FF k), ar 30 (4 * k + 3))) ∧ (∀ k, Hn ≤ k → k < 3 → hv k = none) ∧ zSe ar Sn cc hh
theorem rl_cg {sc sc' : Nat → Int32} {ar ar' : Nat → Nat → Int32} {hv : HV} {hi kk dd FF cc hh : Nat → Nat} {R H W Hn Sn Pn : Nat} (h : zRL sc ar hv hi kk dd FF cc hh R H W Hn Sn Pn) (h1 : ∀ i, i ∈ [0, 1, 2, 3, 4, 16, 17, 20, 21, 22, 23, 24, 25, 28] → sc' i = sc i) (h2 : ∀ k, k ∈ [1, 4, 5, 6, 24, 28, 29, 35] → ar' k = ar k) (h3 : ∀ j, j < 12 → ar' 30 j = ar 30 j) : zRL sc' ar' hv hi kk dd FF cc hh R H W Hn Sn Pn := by
  unfold zRL zSe at h ⊢
  rw [h1 16 (by decide), h1 21 (by decide), h1 3 (by decide), h1 22 (by decide), h1 17 (by decide), h1 23 (by decide), h1 2 (by decide), h1 25 (by decide), h1 4 (by decide), h1 28 (by decide), h1 0 (by decide), h1 20 (by decide), h1 1 (by decide), h1 24 (by decide), h2 24 (by decide), h2 29 (by decide), h2 1 (by decide), h2 28 (by decide), h2 35 (by decide), h2 4 (by decide), h2 5 (by decide), h2 6 (by decide)]
  obtain ⟨a1, a2, a3, a4, a5, a6, a7, a8, a9, a10, a11⟩ := h
  refine ⟨a1, a2, a3, a4, a5, a6, a7, a8, a9, fun k hk => ?_, a11⟩
  have hk3 := a4.2.2
  rw [h3 _ (by omega), h3 _ (by omega), h3 _ (by omega), h3 _ (by omega)]
  exact a10 k hk
theorem rl_per {sc sc' : Nat → Int32} {ar ar' : Nat → Nat → Int32} {hv : HV} {hi kk dd FF cc hh : Nat → Nat} {R H W Hn Sn Pn : Nat} (h : zRL sc ar hv hi kk dd FF cc hh R H W Hn Sn Pn) (p : Per sc ar sc' ar') : zRL sc' ar' hv hi kk dd FF cc hh R H W Hn Sn Pn :=
  rl_cg h (fun i hi => p.1 i ((by decide : ∀ i, i ∈ [0, 1, 2, 3, 4, 16, 17, 20, 21, 22, 23, 24, 25, 28] → i ∉ scrS) i hi)) (fun k hk => p.2 k ((by decide : ∀ k, k ∈ [1, 4, 5, 6, 24, 28, 29, 35] → k ∉ scrA) k hk)) (fun j _ => by rw [p.2 30 (by decide)])
theorem rl_perJ {sc sc' : Nat → Int32} {ar ar' : Nat → Nat → Int32} {hv : HV} {hi kk dd FF cc hh : Nat → Nat} {R H W Hn Sn Pn : Nat} (h : zRL sc ar hv hi kk dd FF cc hh R H W Hn Sn Pn) (p : PerJ sc ar sc' ar') : zRL sc' ar' hv hi kk dd FF cc hh R H W Hn Sn Pn :=
  rl_cg h (fun i hi => p.1 i ((by decide : ∀ i, i ∈ [0, 1, 2, 3, 4, 16, 17, 20, 21, 22, 23, 24, 25, 28] → i ∉ scrM) i hi)) (fun k hk => p.2.1 k ((by decide : ∀ k, k ∈ [1, 4, 5, 6, 24, 28, 29, 35] → k ∉ scrN) k hk) ((by decide : ∀ k, k ∈ [1, 4, 5, 6, 24, 28, 29, 35] → ¬ k = 30) k hk)) p.2.2
section RL
variable {sc : Nat → Int32} {ar : Nat → Nat → Int32} {hv : HV} {hi kk dd FF cc hh : Nat → Nat} {R H W Hn Sn Pn : Nat}
theorem rl_Z (h : zRL sc ar hv hi kk dd FF cc hh R H W Hn Sn Pn) : ∀ k, k < Hn → zM ar k hi (kk k) (dd k) (FF k) := by
  intro k hk
  obtain ⟨-, -, -, -, -, -, -, ⟨-, hp⟩, -, hrow, -⟩ := h
  obtain ⟨⟨a, b, c, d⟩, e1, e2, e3, -⟩ := hrow k hk
  exact ⟨hp, a, b, c, d, e1, e2, e3⟩
theorem rl_rc (h : zRL sc ar hv hi kk dd FF cc hh R H W Hn Sn Pn) : ∀ k, k < Hn → vp_in (ar 30 (4 * k + 2)) 12 := by
  intro k hk
  obtain ⟨-, -, -, -, hF, -, -, e⟩ := rl_Z h k hk
  rw [e]
  exact vp_in_nI hF (by decide)
theorem c_cs (c : Int32) : c < 0 ∨ (¬ c < 0 ∧ 12 ≤ c ∧ 11 < c) ∨ ∃ n, n < 12 ∧ c = nI n ∧ ¬ nI n < 0 ∧ ¬ (12 : Int32) ≤ nI n ∧ ¬ (11 : Int32) < nI n ∧ (nI n).toNatClampNeg = n := by
  by_cases h : c < 0
  · exact Or.inl h
  · obtain ⟨n, hn, e⟩ := nI_of h
    subst e
    by_cases h2 : n < 12
    · exact Or.inr (Or.inr ⟨n, h2, rfl, nI_pos hn, nI_ge (b := 12) h2 (by decide), nI_nlt (a := 11) (by omega) (by decide), nI_clamp hn⟩)
    · exact Or.inr (Or.inl ⟨h, nI_le (a := 12) (by omega) hn, nI_lt (a := 11) (by omega) hn⟩)
theorem z_le0 {R : Nat} (h : R ≤ 9) : nI R ≤ 0 ↔ R = 0 := by
  constructor
  · intro q
    exact Classical.byContradiction (fun n => nI_nle (by omega) (by omega) q)
  · intro q; subst q; exact Int32.le_refl _
theorem z_eq0 {R : Nat} (h : R ≤ 9) : nI R = 0 ↔ R = 0 := ⟨fun q => (nI_eq (b := 0) (by omega) (by decide)).mp q, fun q => by rw [q]; rfl⟩
theorem rl_hv (h : zRL sc ar hv hi kk dd FF cc hh R H W Hn Sn Pn) (x : Int32) : (hvF (sc 2) hv x = none ∧ (x < 0 ∨ (¬ x < 0 ∧ sc 25 - 1 < x))) ∨ ∃ n, n < Hn ∧ x = nI n ∧ hvF (sc 2) hv x = some (kk n, nI (dd n), nI (FF n), ar 30 (4 * n + 3)) ∧ ¬ nI n < 0 ∧ ¬ sc 25 - 1 < nI n ∧ (nI n).toNatClampNeg = n := by
  obtain ⟨-, -, -, ⟨a2, a25, hH3⟩, -, -, -, -, -, hrow, -⟩ := h
  rw [a2, a25]
  unfold hvF
  by_cases h0 : x < 0
  · exact Or.inl ⟨by rw [if_pos h0], Or.inl h0⟩
  · rw [if_neg h0]
    obtain ⟨n, hn, e⟩ := nI_of h0
    subst e
    have hsub : (nI Hn - 1).toInt = (Hn : Int) - 1 := by
      rcases (show Hn = 0 ∨ Hn = 1 ∨ Hn = 2 ∨ Hn = 3 by omega) with q | q | q | q <;> subst q <;> decide
    by_cases h1 : n < Hn
    · right
      refine ⟨n, h1, rfl, ?_, nI_pos hn, ?_, nI_clamp hn⟩
      · rw [if_neg (nI_ge h1 (by omega)), if_pos (show nI n < 3 from nI_lt (b := 3) (by omega) (by decide)), nI_clamp hn]
        exact (hrow n h1).2.2.2.2
      · rw [Int32.lt_iff_toInt_lt, hsub, nI_toInt hn]; omega
    · left
      refine ⟨by rw [if_pos (nI_le (by omega) hn)], Or.inr ⟨h0, ?_⟩⟩
      rw [Int32.lt_iff_toInt_lt, hsub, nI_toInt hn]; omega
theorem eq_ho (h : zRL sc ar hv hi kk dd FF cc hh R H W Hn Sn Pn) (x : Int32) : hoN hv x 3 = mhN (ar 30) x Hn := by
  obtain ⟨-, -, -, ⟨-, -, hH3⟩, -, -, -, -, -, hrow, hno, -⟩ := h
  have up : ∀ n, n ≤ Hn → hoN hv x n = mhN (ar 30) x n := by
    intro n
    induction n with
    | zero => intro _; rfl
    | succ n ih =>
      intro hn
      obtain ⟨-, -, -, e, eh⟩ := hrow n (by omega)
      rw [hoN, mhN, eh, ih (by omega), e]
      dsimp only
      split
      · rfl
      · exact (Int32.add_zero _).symm
  have st : ∀ n, Hn + n ≤ 3 → hoN hv x (Hn + n) = hoN hv x Hn := by
    intro n
    induction n with
    | zero => intro _; rfl
    | succ n ih =>
      intro hn
      rw [← Nat.add_assoc, hoN, hno (Hn + n) (by omega) (by omega)]
      exact ih (by omega)
  have := st (3 - Hn) (by omega)
  rw [show Hn + (3 - Hn) = 3 by omega] at this
  rw [this, up Hn (Nat.le_refl _)]
theorem eq_cell (h : zRL sc ar hv hi kk dd FF cc hh R H W Hn Sn Pn) (c w : Int32) : ceF sc ar hv c w = mceF sc ar Hn c w := by
  have eho := eq_ho h c
  obtain ⟨⟨a16, a21, hR⟩, ⟨a3, a22, hH⟩, -, -, -, -, -, ⟨hp, hp'⟩, -⟩ := h
  unfold ceF mceF mtcF
  rw [a16, a21, a3, a22, eho]
  by_cases r0 : R = 0
  · rw [if_pos ((z_le0 hR).mpr r0), if_pos ((z_eq0 hR).mpr r0)]
    split
    · rfl
    · split <;> rfl
  · rw [if_neg (fun q => r0 ((z_le0 hR).mp q)), if_neg (fun q => r0 ((z_eq0 hR).mp q))]
    rcases c_cs c with q | ⟨q1, q2, q3⟩ | ⟨n, hn, rfl, q1, q2, q3, q4⟩
    · rw [if_pos q, if_pos q]
    · rw [if_neg q1, if_pos q2, if_neg q1, if_pos q3]
    · rw [if_neg q1, if_neg q2, if_neg q1, if_neg q3, z_hi hp hR hn (by omega), z_mhi hp' hR hn (by omega), q4, show (0 : Int32) = nI 0 from rfl, z_hi hp hR hn (by omega), (hp' n hn).1]
      have e : zH hi R n 0 = hi n := by
        unfold zH
        rw [if_pos]
        exact Nat.mul_pos (by omega) (by omega)
      rw [e]
theorem eq_fl (h : zRL sc ar hv hi kk dd FF cc hh R H W Hn Sn Pn) {n : Nat} (hn : n < Hn) {c g : Nat} (hc : c < 12) (hg : g < 2 ^ 30) : (if flP (ar 24) (nI R) (kk n) (nI (dd n)) (nI c) (nI g) then (1 : Int32) else 0) = mflF (ar 29) (ar 30) n (nI c) (nI g) (nI R) := by
  obtain ⟨⟨-, -, hR⟩, -, -, -, -, -, -, ⟨hp, hp'⟩, -, hrow, -⟩ := h
  obtain ⟨⟨a, b, d, -⟩, e1, e2, -⟩ := hrow n hn
  rw [z_mfl e1 e2 hp' hR a b d hc (by omega)]
  by_cases q : zF hi R (zC (kk n) (dd n)) c g
  · rw [if_pos q, if_pos ((z_fl hp hR a b d hc (by omega)).mpr q)]
  · rw [if_neg q, if_neg (fun w => q ((z_fl hp hR a b d hc (by omega)).mp w))]
theorem eq_ht (h : zRL sc ar hv hi kk dd FF cc hh R H W Hn Sn Pn) {n : Nat} (hn : n < Hn) {c g i wd : Nat} (hc : c < 12) (hg : g < 2 ^ 30) (hi4 : i < 4) (hwd : wd < 5) : htF (ar 24) (nI R) (nI wd) (kk n) (nI (dd n)) (nI c) (nI i) (nI g) = mhtF (ar 29) (ar 30) n (nI c) (nI g) (nI i) (nI wd) (nI R) := by
  obtain ⟨⟨-, -, hR⟩, -, -, -, -, -, -, ⟨hp, hp'⟩, -, hrow, -⟩ := h
  obtain ⟨⟨a, b, d, -⟩, e1, e2, -⟩ := hrow n hn
  rw [z_mht e1 e2 hp' hR hwd a b d hc hi4 hg, z_ht hp hR hwd a b d hc hi4 hg]
theorem w_1013 {w : Int32} (h0 : ¬ w < 10) (h1 : ¬ 13 < w) : w = 10 ∨ w = 11 ∨ w = 12 ∨ w = 13 := by
  rw [Int32.lt_iff_toInt_lt] at h0 h1
  have e0 : (10 : Int32).toInt = 10 := rfl
  have e1 : (13 : Int32).toInt = 13 := rfl
  have h2 : ¬ w < 0 := by
    rw [Int32.lt_iff_toInt_lt]
    have e2 : (0 : Int32).toInt = 0 := rfl
    omega
  obtain ⟨n, hn, e⟩ := nI_of h2
  subst e
  rw [nI_toInt hn] at h0 h1
  rcases (show n = 10 ∨ n = 11 ∨ n = 12 ∨ n = 13 by omega) with q | q | q | q <;> subst q
  · exact Or.inl rfl
  · exact Or.inr (Or.inl rfl)
  · exact Or.inr (Or.inr (Or.inl rfl))
  · exact Or.inr (Or.inr (Or.inr rfl))
theorem eq_tell (h : zRL sc ar hv hi kk dd FF cc hh R H W Hn Sn Pn) {n : Nat} (hn : n < Hn) (w : Int32) : abF sc ar (kk n) (nI (dd n)) (nI (FF n)) (ar 30 (4 * n + 3)) w = mteF sc ar n w := by
  have hf := fun c g hc hg => eq_fl h hn (c := c) (g := g) hc hg
  have ht := fun c g i wd hc hg hi4 hwd => eq_ht h hn (c := c) (g := g) (i := i) (wd := wd) hc hg hi4 hwd
  obtain ⟨⟨a16, a21, hR⟩, ⟨a3, a22, hH⟩, ⟨a17, a23, hW⟩, -, -, -, -, -, -, hrow, -⟩ := h
  obtain ⟨⟨a, b, d, hF⟩, e1, e2, e3, -⟩ := hrow n hn
  unfold abF mteF mstF
  rw [a16, a21, a3, a22, a17, a23, e1, e2, e3, z_ki _ a, ← hf _ _ hF (by omega)]
  have kw : ∀ i, i < 4 → htF (ar 24) (nI R) (nI W) (kk n) (nI (dd n)) (nI (FF n)) (nI i) (nI H) = mhtF (ar 29) (ar 30) n (nI (FF n)) (nI H) (nI i) (nI W) (nI R) := fun i hi4 => ht _ _ i _ hF (by omega) hi4 hW
  by_cases h10 : w = 10
  · subst h10
    rw [if_neg (show ¬ niF 10 10 13 = 0 by decide), if_neg (show ¬ (10 : Int32) = 0 by decide), if_neg (show ¬ (10 : Int32) = 1 by decide), if_neg (show ¬ (10 : Int32) = 2 by decide), if_neg (show ¬ (10 : Int32) = 3 by decide), if_neg (show ¬ (10 : Int32) = 4 by decide), if_pos (show (10 : Int32) = 10 from rfl), show (10 : Int32) - 10 = nI 0 by decide]
    exact kw 0 (by decide)
  by_cases h11 : w = 11
  · subst h11
    rw [if_neg (show ¬ niF 11 10 13 = 0 by decide), if_neg (show ¬ (11 : Int32) = 0 by decide), if_neg (show ¬ (11 : Int32) = 1 by decide), if_neg (show ¬ (11 : Int32) = 2 by decide), if_neg (show ¬ (11 : Int32) = 3 by decide), if_neg (show ¬ (11 : Int32) = 4 by decide), if_neg (show ¬ (11 : Int32) = 10 by decide), if_pos (show (11 : Int32) = 11 from rfl), show (11 : Int32) - 10 = nI 1 by decide]
    exact kw 1 (by decide)
  by_cases h12 : w = 12
  · subst h12
    rw [if_neg (show ¬ niF 12 10 13 = 0 by decide), if_neg (show ¬ (12 : Int32) = 0 by decide), if_neg (show ¬ (12 : Int32) = 1 by decide), if_neg (show ¬ (12 : Int32) = 2 by decide), if_neg (show ¬ (12 : Int32) = 3 by decide), if_neg (show ¬ (12 : Int32) = 4 by decide), if_neg (show ¬ (12 : Int32) = 10 by decide), if_neg (show ¬ (12 : Int32) = 11 by decide), if_pos (show (12 : Int32) = 12 from rfl), show (12 : Int32) - 10 = nI 2 by decide]
    exact kw 2 (by decide)
  by_cases h13 : w = 13
  · subst h13
    rw [if_neg (show ¬ niF 13 10 13 = 0 by decide), if_neg (show ¬ (13 : Int32) = 0 by decide), if_neg (show ¬ (13 : Int32) = 1 by decide), if_neg (show ¬ (13 : Int32) = 2 by decide), if_neg (show ¬ (13 : Int32) = 3 by decide), if_neg (show ¬ (13 : Int32) = 4 by decide), if_neg (show ¬ (13 : Int32) = 10 by decide), if_neg (show ¬ (13 : Int32) = 11 by decide), if_neg (show ¬ (13 : Int32) = 12 by decide), if_pos (show (13 : Int32) = 13 from rfl), show (13 : Int32) - 10 = nI 3 by decide]
    exact kw 3 (by decide)
  have hni : niF w 10 13 = 0 := by
    unfold niF
    by_cases q1 : w < 10
    · rw [if_pos q1]
    · rw [if_neg q1]
      by_cases q2 : 13 < w
      · rw [if_pos q2]
      · rcases w_1013 q1 q2 with q | q | q | q
        · exact absurd q h10
        · exact absurd q h11
        · exact absurd q h12
        · exact absurd q h13
  rw [if_pos hni, if_neg h10, if_neg h11, if_neg h12, if_neg h13]
  by_cases q : flP (ar 24) (nI R) (kk n) (nI (dd n)) (nI (FF n)) (nI H)
  · rw [if_pos q, if_pos q, if_neg (show ¬ (1 : Int32) = 0 by decide), if_pos (show (0 : Int32) = 0 from rfl)]
  · rw [if_neg q, if_neg q, if_pos (show (0 : Int32) = 0 from rfl), if_neg (show ¬ (1 : Int32) = 0 by decide)]
theorem eq_about (h : zRL sc ar hv hi kk dd FF cc hh R H W Hn Sn Pn) (x w : Int32) : aboF sc ar hv x w = mabF sc ar x w := by
  unfold aboF mabF
  rcases rl_hv h x with ⟨e, q | ⟨q1, q2⟩⟩ | ⟨n, hn, rfl, e, q1, q2, q3⟩
  · rw [e, if_pos q]
  · rw [e, if_neg q1, if_pos q2]
  · rw [e, if_neg q1, if_neg q2, q3]
    exact eq_tell h hn w
theorem z_ik : ∀ k, k < 5 → ∀ m, m < 5 → ((ikF k (nI m) = 0) ↔ ¬ (m = 0 ∨ m = k ∨ (m = 1 ∧ k = 4))) := by decide +kernel
theorem eq_as (h : zRL sc ar hv hi kk dd FF cc hh R H W Hn Sn Pn) (x w : Int32) : asF sc hv x w = masF sc ar x w := by
  unfold asF masF
  rcases rl_hv h x with ⟨e, q | ⟨q1, q2⟩⟩ | ⟨n, hn, rfl, e, q1, q2, q3⟩
  · rw [e, if_pos q]
  · rw [e, if_neg q1, if_pos q2]
  · rw [e, if_neg q1, if_neg q2, q3]
    dsimp only
    obtain ⟨-, -, -, -, -, -, -, -, -, hrow, -⟩ := h
    obtain ⟨⟨a, -⟩, e1, -⟩ := hrow n hn
    rw [e1]
    by_cases w0 : w < 0
    · rw [if_pos w0, if_pos w0]
    · rw [if_neg w0, if_neg w0]
      obtain ⟨m, hm, rfl⟩ := nI_of w0
      by_cases w5 : m < 5
      · rw [if_neg (show ¬ (5 : Int32) ≤ nI m from nI_ge (b := 5) w5 (by decide)), if_neg (show ¬ (4 : Int32) < nI m from nI_nlt (a := 4) (by omega) (by decide))]
        have zi := z_ik _ a m w5
        have f0 : (nI m = 0) ↔ m = 0 := nI_eq (b := 0) hm (by decide)
        have f1 : (nI m = 1) ↔ m = 1 := nI_eq (b := 1) hm (by decide)
        have fk : (nI m = nI (kk n)) ↔ m = kk n := nI_eq hm (by omega)
        have f4 : (nI (kk n) = 4) ↔ kk n = 4 := nI_eq (b := 4) (by omega) (by decide)
        by_cases m0 : m = 0
        · rw [if_neg (fun q => zi.mp q (Or.inl m0)), if_pos (f0.mpr m0)]
        · rw [if_neg (fun q => m0 (f0.mp q))]
          by_cases mk : m = kk n
          · rw [if_neg (fun q => zi.mp q (Or.inr (Or.inl mk))), if_pos (fk.mpr mk)]
          · rw [if_neg (fun q => mk (fk.mp q))]
            by_cases m1 : m = 1
            · rw [if_pos (f1.mpr m1)]
              by_cases k4 : kk n = 4
              · rw [if_neg (fun q => zi.mp q (Or.inr (Or.inr ⟨m1, k4⟩))), if_pos (f4.mpr k4)]
              · rw [if_pos (zi.mpr (fun q => by rcases q with q | q | q; exact m0 q; exact mk q; exact k4 q.2)), if_neg (fun q => k4 (f4.mp q))]
            · rw [if_neg (fun q => m1 (f1.mp q)), if_pos (zi.mpr (fun q => by rcases q with q | q | q; exact m0 q; exact mk q; exact m1 q.1))]
      · rw [if_pos (show (5 : Int32) ≤ nI m from nI_le (a := 5) (by omega) hm), if_pos (show (4 : Int32) < nI m from nI_lt (a := 4) (by omega) hm)]
theorem eq_st (h : zRL sc ar hv hi kk dd FF cc hh R H W Hn Sn Pn) : stN (ar 24) (sc 16) (sc 3) hv 3 = mstN sc ar Hn := by
  have hf := fun n hn c g hc hg => eq_fl h (n := n) hn (c := c) (g := g) hc hg
  obtain ⟨⟨a16, a21, hR⟩, ⟨a3, a22, hH⟩, -, ⟨-, -, hH3⟩, -, -, -, -, -, hrow, hno, -⟩ := h
  rw [a16, a3]
  have up : ∀ n, n ≤ Hn → stN (ar 24) (nI R) (nI H) hv n = mstN sc ar n := by
    intro n
    induction n with
    | zero => intro _; rfl
    | succ n ih =>
      intro hn
      obtain ⟨⟨-, -, -, hF⟩, -, -, e, eh⟩ := hrow n (by omega)
      rw [stN, mstN, eh, ih (by omega)]
      unfold mstF
      rw [e, a22, a21, ← hf n (by omega) _ _ hF (by omega)]
      dsimp only
      by_cases q : flP (ar 24) (nI R) (kk n) (nI (dd n)) (nI (FF n)) (nI H)
      · rw [if_pos q, if_pos q, if_neg (show ¬ (1 : Int32) = 0 by decide), if_pos (show (0 : Int32) = 0 from rfl)]; exact (Int32.add_zero _).symm
      · rw [if_neg q, if_neg q, if_pos (show (0 : Int32) = 0 from rfl), if_neg (show ¬ (1 : Int32) = 0 by decide)]
  have st : ∀ n, Hn + n ≤ 3 → stN (ar 24) (nI R) (nI H) hv (Hn + n) = stN (ar 24) (nI R) (nI H) hv Hn := by
    intro n
    induction n with
    | zero => intro _; rfl
    | succ n ih =>
      intro hn
      rw [← Nat.add_assoc, stN, hno (Hn + n) (by omega) (by omega)]
      exact ih (by omega)
  have := st (3 - Hn) (by omega)
  rw [show Hn + (3 - Hn) = 3 by omega] at this
  rw [this, up Hn (Nat.le_refl _)]
theorem eq_cu : ∀ n, cuN (nI R) (nI H) n = mcoN (nI R) (nI H) n := by
  intro n
  induction n with
  | zero => rfl
  | succ n ih =>
    rw [cuN, mcoN, ih]
    split
    · exact (Int32.add_zero _).symm
    · rfl
theorem eq_count (h : zRL sc ar hv hi kk dd FF cc hh R H W Hn Sn Pn) (w : Int32) : coF sc ar hv w = mctF sc ar Hn w := by
  have es := eq_st h
  obtain ⟨⟨a16, a21, hR⟩, ⟨a3, a22, hH⟩, ⟨a17, a23, hW⟩, ⟨a2, a25, hH3⟩, ⟨a4, a28, hS6⟩, ⟨a0, a20, hP18⟩, a1, -⟩ := h
  have ec : cuF (sc 16) (sc 3) = mcutF sc := by
    unfold cuF mcutF
    rw [a16, a3, a21, a22, eq_cu]
    by_cases r0 : R = 0
    · rw [if_pos ((z_le0 hR).mpr r0), if_pos ((z_eq0 hR).mpr r0)]
    · rw [if_neg (fun q => r0 ((z_le0 hR).mp q)), if_neg (fun q => r0 ((z_eq0 hR).mp q))]
  unfold coF mctF
  rw [es, ec, a16, a21, a2, a25, a3, a22, a17, a23, a4, a28, a0, a20, a1]
end RL
