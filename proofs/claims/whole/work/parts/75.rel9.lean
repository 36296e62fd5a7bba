theorem ft_ig : ∀ i, i < 18 → ∀ m, m < 127 → (ftF (nI i) (nI m) = 0 ↔ igF (nI i) (nI m) = 0) := by decide +kernel
theorem ig_dig : ∀ c, c < 12 → ∀ m, m < 127 → ¬ igF (nI (c + c / 4)) (nI m) = 0 → 48 ≤ m ∧ m ≤ 57 := by decide +kernel
theorem ig_15 : ∀ m, m < 127 → ¬ igF (nI 15) (nI m) = 0 → 49 ≤ m ∧ m ≤ 57 := by decide +kernel
theorem mfu_u {ar : Nat → Nat → Int32} {Pn : Nat} {v v' : Int32} (hP : Pn ≤ 18) (a : mfu2 ar Pn v) (b : mfu2 ar Pn v') : v = v' := by
  rcases a with ⟨i, hi, rfl, h1, h2⟩ | ⟨rfl, h2⟩ <;> rcases b with ⟨j, hj, rfl, g1, g2⟩ | ⟨rfl, g2⟩
  · rcases Nat.lt_trichotomy i j with q | q | q
    · exact absurd h1 (g2 i q)
    · rw [q]
    · exact absurd g1 (h2 j q)
  · exact absurd h1 (g2 i hi)
  · exact absurd g1 (h2 j hj)
  · rfl
section R9
variable {sc : Nat → Int32} {ar : Nat → Nat → Int32} {hv : HV} {N : Nat}
theorem fu_m {Pn : Nat} {v : Int32} (a0 : sc 0 = nI Pn) (hP : Pn ≤ 18) (hL : ∀ i, i < Pn → ar 1 i = ar 28 i ∧ ∃ m, m < 127 ∧ ar 28 i = nI m) (a : fuP sc ar v) : mfu2 ar Pn v := by
  have eq : ∀ i, i < Pn → (ftF (nI i) (ar 1 i) = 0 ↔ igF (nI i) (ar 28 i) = 0) := fun i hi => by
    obtain ⟨e, m, hm, q⟩ := hL i hi
    rw [e, q]; exact ft_ig i (by omega) m hm
  have lt : ∀ j, j < 18 → (¬ sc 0 ≤ nI j ↔ j < Pn) := fun j hj => by
    rw [a0, nI_leI (by omega) (by omega)]; omega
  rcases a with ⟨i, hi, h1, rfl, h2, h3⟩ | ⟨rfl, ⟨i, hi, h1, h2⟩ | h2⟩
  · have hiP := (lt i hi).mp h1
    exact Or.inl ⟨i, hiP, rfl, (eq i hiP).mp h2, fun j hj => fun q => (h3 j hj).2 ((eq j (by omega)).mpr q)⟩
  · refine Or.inr ⟨a0, fun j hj => ?_⟩
    have hPi : Pn ≤ i := Nat.le_of_not_lt (fun q => (lt i hi).mpr q h1)
    exact fun q => (h2 j (by omega)).2 ((eq j hj).mpr q)
  · exact Or.inr ⟨a0, fun j hj => fun q => (h2 j (by omega)).2 ((eq j hj).mpr q)⟩
theorem go_fault (h : zAll sc ar hv N) : ∃ Pn, sc 20 = nI Pn ∧ Pn ≤ 18 ∧ ∀ v v', fuP sc ar v → mfu2 ar Pn v' → v = v' := by
  obtain ⟨hi, kk, dd, FF, cc, hh, R, H, W, Hn, Sn, Pn, ⟨b1, b2, b3, b4, b5, ⟨a0, a20, hP⟩, b7, b8, b9, b10⟩, k⟩ := h
  exact ⟨Pn, a20, hP, fun v v' a b => mfu_u hP (fu_m a0 hP b9 a) b⟩
theorem go_plain_no (h : zAll sc ar hv N) (c : ¬ sc 0 = 16 ∨ ∃ v, fuP sc ar v ∧ ¬ v = sc 0) : ∃ Pn, sc 20 = nI Pn ∧ Pn ≤ 18 ∧ ¬ (sc 20 = 16 ∧ ∃ v, mfu2 ar Pn v ∧ ¬ v < 16) := by
  obtain ⟨hi, kk, dd, FF, cc, hh, R, H, W, Hn, Sn, Pn, ⟨b1, b2, b3, b4, b5, ⟨a0, a20, hP⟩, b7, b8, b9, b10⟩, k⟩ := h
  refine ⟨Pn, a20, hP, fun ⟨e, v, f, g⟩ => ?_⟩
  have h16 : Pn = 16 := (nI_eq (b := 16) (by omega) (by decide)).mp (a20.symm.trans e)
  rcases c with c | ⟨v', f', g'⟩
  · exact c (by rw [a0, h16]; rfl)
  · have := mfu_u hP (fu_m a0 hP b9 f') f
    subst this
    rcases f with ⟨i, hi', rfl, -⟩ | ⟨rfl, -⟩
    · exact g (nI_lt (b := 16) (by omega) (by decide))
    · exact g' a0.symm
theorem so_eq {f : Nat → Int32} {i : Nat} {v : Int32} (hi : i < 12) : soS f (nI i) v = upd f i v := by
  unfold soS
  rw [if_neg (nI_pos (by omega)), if_pos (show nI i < 12 from nI_lt (b := 12) hi (by decide)), nI_clamp (by omega)]
theorem pl_ix {i : Nat} (hi : i < 12) : nI i + nI i / 4 = nI (i + i / 4) := by
  rw [show nI i / 4 = nI (i / 4) from pk_div (a := i) (d := 4) (by omega) (by decide) (by decide), nI_add]
theorem go_plain_ok (h : zAll sc ar hv N) (hN : N < 1000) (e : sc 0 = 16) (f : fuP sc ar (sc 0)) : ∃ Pn, plSc sc ar 20 = nI Pn ∧ Pn ≤ 18 ∧ ¬ (¬ plSc sc ar 20 = 16 ∨ ∃ v, mfu2 (va_up ar 24 (hgN ar 12)) Pn v ∧ v < 16) ∧ smN ar 12 = msmN (va_up ar 24 (hgN ar 12)) 12 ∧
    zAll (mplSc (plSc sc ar) (va_up ar 24 (hgN ar 12))) (va_up (va_up ar 24 (hgN ar 12)) 29 (mhgN (va_up ar 24 (hgN ar 12)) 12)) (va_up (va_up (va_up hv 0 none) 1 none) 2 none) (N + 1) := by
  obtain ⟨hi, kk, dd, FF, cc, hh, R, H, W, Hn, Sn, Pn, ⟨b1, b2, b3, b4, b5, ⟨a0, a20, hP⟩, b7, b8, b9, b10⟩, Q, e1, e2, e3⟩ := h
  have h16 : Pn = 16 := (nI_eq (b := 16) (by omega) (by decide)).mp (a0.symm.trans e)
  subst h16
  have fm : mfu2 ar 16 (nI 16) := by have := fu_m a0 hP b9 f; rwa [a0] at this
  have good : ∀ j, j < 16 → ¬ igF (nI j) (ar 28 j) = 0 := by
    rcases fm with ⟨i, hi', q, -⟩ | ⟨-, w⟩
    · have := (nI_eq (by omega) (by omega)).mp q; omega
    · exact w
  -- the digits
  have dig : ∀ c, c < 12 → ∃ m, 48 ≤ m ∧ m ≤ 57 ∧ ar 1 (c + c / 4) = nI m ∧ ar 28 (c + c / 4) = nI m := fun c hc => by
    obtain ⟨q, m, hm, w⟩ := b9 (c + c / 4) (by omega)
    have g := good (c + c / 4) (by omega)
    rw [w] at g
    obtain ⟨l1, l2⟩ := ig_dig c hc m hm g
    exact ⟨m, l1, l2, q.trans w, w⟩
  have sub48 : ∀ m, 48 ≤ m → nI m - 48 = nI (m - 48) := fun m hm => pk_sub (a := m) (b := 48) hm
  have dg : ∀ c, c < 12 → dgF ar c = nI ((ar 28 (c + c / 4)).toNatClampNeg - 48) ∧ (ar 28 (c + c / 4)).toNatClampNeg - 48 ≤ 9 := fun c hc => by
    obtain ⟨m, l1, l2, w1, w2⟩ := dig c hc
    unfold dgF diF
    rw [pl_ix hc, if_neg (nI_pos (by omega)), if_neg (show ¬ (18 : Int32) ≤ nI (c + c / 4) from nI_ge (b := 18) (by omega) (by decide)), nI_clamp (show c + c / 4 < 2 ^ 31 by omega), w1, w2, nI_clamp (show m < 2 ^ 31 by omega), sub48 m l1]
    exact ⟨rfl, by omega⟩
  have hg : ∀ n, n ≤ 12 → ∀ c, c < n → hgN ar n c = dgF ar c := by
    intro n
    induction n with
    | zero => intro _ c hc; exact absurd hc (Nat.not_lt_zero c)
    | succ n ih =>
      intro hn c hc
      rw [hgN, so_eq (by omega)]
      by_cases q : c = n
      · subst q; exact upd_at
      · rw [upd_ne q]; exact ih (by omega) c (by omega)
  have mg : ∀ n, n ≤ 12 → ∀ c, c < n → mhgN (va_up ar 24 (hgN ar 12)) n c = dgF ar c := by
    intro n
    induction n with
    | zero => intro _ c hc; exact absurd hc (Nat.not_lt_zero c)
    | succ n ih =>
      intro hn c hc
      rw [mhgN]
      by_cases q : c = n
      · subst q
        rw [upd_at]
        show ar 28 (nI c + nI c / 4).toNatClampNeg - 48 = _
        obtain ⟨m, l1, l2, w1, w2⟩ := dig c (by omega)
        rw [(dg c (by omega)).1, pl_ix (by omega), nI_clamp (show c + c / 4 < 2 ^ 31 by omega), w2, nI_clamp (show m < 2 ^ 31 by omega), sub48 m l1]
      · rw [upd_ne q]; exact ih (by omega) c (by omega)
  have sm : ∀ n, n ≤ 12 → smN ar n = msmN (va_up ar 24 (hgN ar 12)) n := by
    intro n
    induction n with
    | zero => intro _; rfl
    | succ n ih =>
      intro hn
      rw [smN, msmN, ih (by omega), mg (n + 1) hn n (by omega)]
  obtain ⟨r1, m15, hm15, r2⟩ := b9 15 (by decide)
  have g15 := good 15 (by decide)
  rw [r2] at g15
  obtain ⟨l1, l2⟩ := ig_15 m15 hm15 g15
  refine ⟨16, a20, by decide, ?_, sm 12 (Nat.le_refl _), ?_⟩
  · rintro (q | ⟨v, q1, q2⟩)
    · exact q a20
    · have : v = nI 16 := mfu_u (by decide) (show mfu2 ar 16 v from q1) fm
      rw [this] at q2
      exact absurd q2 (by decide)
  · refine ⟨fun c => (ar 28 (c + c / 4)).toNatClampNeg - 48, kk, dd, FF, cc, hh, m15 - 48, 0, 4, 0, 0, 0, ⟨⟨?_, ?_, by omega⟩, ⟨rfl, rfl, by decide⟩, ⟨rfl, rfl, by decide⟩, ⟨rfl, rfl, by decide⟩, ⟨rfl, rfl, by decide⟩, ⟨rfl, rfl, by decide⟩, ?_, ⟨fun c hc => ?_, fun c hc => ?_⟩, fun i hi' => absurd hi' (Nat.not_lt_zero i), fun k hk => absurd hk (Nat.not_lt_zero k), fun k _ hk => ?_, fun i hi' => absurd hi' (Nat.not_lt_zero i)⟩, Q + 1, ?_, by omega, Or.inl ⟨rfl, ?_, ?_⟩⟩
    · show diF (ar 1) 15 = nI (m15 - 48)
      unfold diF
      rw [if_neg (by decide), if_neg (by decide), show ((15 : Int32).toNatClampNeg) = 15 by decide, r1, r2, sub48 m15 (by omega)]
    · show ar 28 15 - 48 = nI (m15 - 48)
      rw [r2, sub48 m15 (by omega)]
    · show sc 1 + 1 = sc 24 + 1
      rw [b7]
    · show hgN ar 12 c = _ ∧ _
      rw [hg 12 (Nat.le_refl _) c hc]; exact dg c hc
    · show mhgN (va_up ar 24 (hgN ar 12)) 12 c = _ ∧ _
      rw [mg 12 (Nat.le_refl _) c hc]; exact dg c hc
    · rcases (show k = 0 ∨ k = 1 ∨ k = 2 by omega) with q | q | q <;> subst q <;> rfl
    · show sc 24 + 1 = nI (Q + 1)
      rw [e1]; exact nI_1 Q
    · show ¬ sc 30 = nI (Q + 1)
      rcases e3 with ⟨-, -, q | ⟨m, hm, q⟩⟩ | ⟨-, q, -⟩
      · rw [q]; exact fun w => z_neg (n := Q + 1) (by omega) w.symm
      · rw [q]; exact fun w => by have := (nI_eq (by omega) (by omega)).mp w; omega
      · rw [q]; exact fun w => by have := (nI_eq (by omega) (by omega)).mp w; omega
    · show sc 30 = -1 ∨ ∃ m, m ≤ Q + 1 ∧ sc 30 = nI m
      rcases e3 with ⟨-, -, q | ⟨m, hm, q⟩⟩ | ⟨-, q, -⟩
      · exact Or.inl q
      · exact Or.inr ⟨m, by omega, q⟩
      · exact Or.inr ⟨Q, by omega, q⟩
end R9
