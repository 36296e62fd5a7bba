/-- what is kept, on both sides -/
def zKd (sc : Nat → Int32) (ar : Nat → Nat → Int32) (kk dd : Nat → Nat) (Hn kH kW kHn kSn : Nat) (fF kc kh : Nat → Nat) : Prop :=
  kHn ≤ Hn ∧ (sc 7 = nI kHn ∧ sc 31 = nI kHn) ∧ (sc 8 = nI kH ∧ sc 32 = nI kH ∧ kH ≤ 999) ∧ (sc 9 = nI kW ∧ sc 33 = nI kW ∧ kW < 5) ∧ (sc 5 = nI kSn ∧ sc 34 = nI kSn ∧ kSn ≤ 6) ∧
  (∀ k, k < kHn → ar 38 (4 * k + 0) = nI (kk k) ∧ ar 38 (4 * k + 1) = nI (dd k) ∧ ar 38 (4 * k + 2) = nI (fF k) ∧ fF k < 12 ∧ ar 16 k = nI (fF k) ∧ ar 17 k = ar 38 (4 * k + 3)) ∧
  (∀ i, i < kSn → ar 39 (3 * i + 0) = ar 11 i ∧ ar 39 (3 * i + 1) = ar 12 i ∧ ar 39 (3 * i + 2) = ar 13 i ∧ ar 12 i = nI (kc i) ∧ kc i < 12 ∧ ar 13 i = nI (kh i) ∧ kh i ≤ 40)
def zKp (sc : Nat → Int32) (ar : Nat → Nat → Int32) (kk dd : Nat → Nat) (Hn N : Nat) : Prop := ∃ Q, sc 24 = nI Q ∧ Q ≤ N ∧
  ((sc 6 = 0 ∧ ¬ sc 30 = nI Q ∧ (sc 30 = -1 ∨ ∃ m, m ≤ Q ∧ sc 30 = nI m)) ∨ (¬ sc 6 = 0 ∧ sc 30 = nI Q ∧ ∃ kH kW kHn kSn fF kc kh, zKd sc ar kk dd Hn kH kW kHn kSn fF kc kh))
def zAll (sc : Nat → Int32) (ar : Nat → Nat → Int32) (hv : HV) (N : Nat) : Prop := ∃ hi kk dd FF cc hh : Nat → Nat, ∃ R H W Hn Sn Pn : Nat, zRL sc ar hv hi kk dd FF cc hh R H W Hn Sn Pn ∧ zKp sc ar kk dd Hn N
theorem kp_cg {sc sc' : Nat → Int32} {ar ar' : Nat → Nat → Int32} {kk dd : Nat → Nat} {Hn N : Nat} (h : zKp sc ar kk dd Hn N) (h1 : ∀ i, i ∈ [5, 6, 7, 8, 9, 24, 30, 31, 32, 33, 34] → sc' i = sc i) (h2 : ∀ k, k ∈ [11, 12, 13, 16, 17, 38, 39] → ar' k = ar k) : zKp sc' ar' kk dd Hn N := by
  unfold zKp zKd at h ⊢
  rw [h1 5 (by decide), h1 6 (by decide), h1 7 (by decide), h1 8 (by decide), h1 9 (by decide), h1 24 (by decide), h1 30 (by decide), h1 31 (by decide), h1 32 (by decide), h1 33 (by decide), h1 34 (by decide), h2 11 (by decide), h2 12 (by decide), h2 13 (by decide), h2 16 (by decide), h2 17 (by decide), h2 38 (by decide), h2 39 (by decide)]
  exact h
theorem kp_N {sc : Nat → Int32} {ar : Nat → Nat → Int32} {kk dd : Nat → Nat} {Hn N : Nat} (h : zKp sc ar kk dd Hn N) : zKp sc ar kk dd Hn (N + 1) := by
  obtain ⟨Q, a, b, c⟩ := h
  exact ⟨Q, a, by omega, c⟩
theorem all_N {sc : Nat → Int32} {ar : Nat → Nat → Int32} {hv : HV} {N : Nat} (h : zAll sc ar hv N) : zAll sc ar hv (N + 1) := by
  obtain ⟨hi, kk, dd, FF, cc, hh, R, H, W, Hn, Sn, Pn, a, b⟩ := h
  exact ⟨hi, kk, dd, FF, cc, hh, R, H, W, Hn, Sn, Pn, a, kp_N b⟩
theorem all_per {sc sc' : Nat → Int32} {ar ar' : Nat → Nat → Int32} {hv : HV} {N : Nat} (h : zAll sc ar hv N) (p : Per sc ar sc' ar') : zAll sc' ar' hv N := by
  obtain ⟨hi, kk, dd, FF, cc, hh, R, H, W, Hn, Sn, Pn, a, b⟩ := h
  exact ⟨hi, kk, dd, FF, cc, hh, R, H, W, Hn, Sn, Pn, rl_per a p, kp_cg b (fun i hi => p.1 i ((by decide : ∀ i, i ∈ [5, 6, 7, 8, 9, 24, 30, 31, 32, 33, 34] → i ∉ scrS) i hi)) (fun k hk => p.2 k ((by decide : ∀ k, k ∈ [11, 12, 13, 16, 17, 38, 39] → k ∉ scrA) k hk))⟩
theorem all_perJ {sc sc' : Nat → Int32} {ar ar' : Nat → Nat → Int32} {hv : HV} {N : Nat} (h : zAll sc ar hv N) (p : PerJ sc ar sc' ar') : zAll sc' ar' hv N := by
  obtain ⟨hi, kk, dd, FF, cc, hh, R, H, W, Hn, Sn, Pn, a, b⟩ := h
  exact ⟨hi, kk, dd, FF, cc, hh, R, H, W, Hn, Sn, Pn, rl_perJ a p, kp_cg b (fun i hi => p.1 i ((by decide : ∀ i, i ∈ [5, 6, 7, 8, 9, 24, 30, 31, 32, 33, 34] → i ∉ scrM) i hi)) (fun k hk => p.2.1 k ((by decide : ∀ k, k ∈ [11, 12, 13, 16, 17, 38, 39] → k ∉ scrN) k hk) ((by decide : ∀ k, k ∈ [11, 12, 13, 16, 17, 38, 39] → ¬ k = 30) k hk))⟩
section R6
variable {sc : Nat → Int32} {ar : Nat → Nat → Int32} {hv : HV} {N : Nat}
theorem go_letter (h : zAll sc ar hv N) (x : Int32) : ¬ (leS sc ar x).2.1 20 < 0 ∧ (leS sc ar x).2.1 20 ≤ 18 ∧ (leS sc ar x).1 = (mleS (leS sc ar x).2.1 (leS sc ar x).2.2 x).1 ∧ zAll (mleS (leS sc ar x).2.1 (leS sc ar x).2.2 x).2.1 (mleS (leS sc ar x).2.1 (leS sc ar x).2.2 x).2.2 hv N := by
  have h' := h
  obtain ⟨hi, kk, dd, FF, cc, hh, R, H, W, Hn, Sn, Pn, ⟨b1, b2, b3, b4, b5, ⟨a0, a20, hP⟩, b7, b8, b9, b10, b11, b12⟩, k⟩ := h
  have p0 : ¬ sc 20 < 0 := by rw [a20]; exact nI_pos (by omega)
  have p1 : sc 20 ≤ 18 := by rw [a20]; exact nI_le (b := 18) hP (by decide)
  unfold leS
  by_cases x1 : x < 1
  · rw [if_pos x1]
    unfold mleS
    rw [if_pos x1]; exact ⟨p0, p1, rfl, h'⟩
  · rw [if_neg x1]
    by_cases x2 : 126 < x
    · rw [if_pos x2]
      unfold mleS
      rw [if_neg x1, if_pos x2]; exact ⟨p0, p1, rfl, h'⟩
    · rw [if_neg x2, if_neg (show ¬ sc 0 < 0 by rw [a0]; exact nI_pos (by omega))]
      by_cases hP8 : Pn < 18
      · rw [if_neg (show ¬ (18 : Int32) ≤ sc 0 by rw [a0]; exact nI_ge (b := 18) hP8 (by decide))]
        refine ⟨p0, p1, ?_⟩
        unfold mleS
        rw [if_neg x1, if_neg x2, if_neg (show ¬ va_up sc 0 (sc 0 + 1) 20 = 18 by show ¬ sc 20 = 18; rw [a20]; exact fun q => by have := (nI_eq (b := 18) (by omega) (by decide)).mp q; omega)]
        refine ⟨by show sc 0 + 1 = sc 20 + 1; rw [a0, a20], hi, kk, dd, FF, cc, hh, R, H, W, Hn, Sn, Pn + 1, ⟨b1, b2, b3, b4, b5, ⟨by show sc 0 + 1 = _; rw [a0]; exact nI_1 Pn, by show sc 20 + 1 = _; rw [a20]; exact nI_1 Pn, hP8⟩, b7, b8, fun i hi' => ?_, b10, b11, b12⟩, kp_cg k (fun i hi => ?_) (fun j hj => ?_)⟩
        · show upd (ar 1) (sc 0).toNatClampNeg x i = upd (ar 28) (sc 20).toNatClampNeg x i ∧ ∃ m, m < 127 ∧ upd (ar 28) (sc 20).toNatClampNeg x i = nI m
          rw [a0, a20, nI_clamp (show Pn < 2 ^ 31 by omega)]
          by_cases e : i = Pn
          · subst e
            rw [upd_at, upd_at]
            refine ⟨rfl, ?_⟩
            rw [Int32.lt_iff_toInt_lt] at x1 x2
            have e0 : (1 : Int32).toInt = 1 := rfl
            have e1 : (126 : Int32).toInt = 126 := rfl
            have x0 : ¬ x < 0 := by
              rw [Int32.lt_iff_toInt_lt]
              have e2 : (0 : Int32).toInt = 0 := rfl
              omega
            obtain ⟨m, hm, q⟩ := nI_of x0
            subst q
            rw [nI_toInt hm] at x1 x2
            exact ⟨m, by omega, rfl⟩
          · rw [upd_ne e, upd_ne e]; exact b9 i (by omega)
        · exact (by decide : ∀ i, i ∈ [5, 6, 7, 8, 9, 24, 30, 31, 32, 33, 34] → ¬ i = 0 ∧ ¬ i = 20) i hi |>.elim (fun q1 q2 => by show va_up (va_up sc 0 (sc 0 + 1)) 20 _ i = sc i; rw [va_up, if_neg q2, va_up, if_neg q1])
        · exact (by decide : ∀ k, k ∈ [11, 12, 13, 16, 17, 38, 39] → ¬ k = 1 ∧ ¬ k = 28) j hj |>.elim (fun q1 q2 => by show va_up (va_up ar 1 _) 28 _ j = ar j; rw [va_up, if_neg q2, va_up, if_neg q1])
      · rw [if_pos (show (18 : Int32) ≤ sc 0 by rw [a0]; exact nI_le (a := 18) (by omega) (by omega))]
        refine ⟨p0, p1, ?_⟩
        unfold mleS
        rw [if_neg x1, if_neg x2, if_pos (show sc 20 = 18 by rw [a20, show Pn = 18 by omega]; rfl)]
        exact ⟨rfl, h'⟩
theorem up_s {f : Nat → Int32} {i j : Nat} {v : Int32} (h : ¬ j = i) : va_up f i v j = f j := by rw [va_up, if_neg h]
theorem up_a {f : Nat → Nat → Int32} {i j : Nat} {v : Nat → Int32} (h : ¬ j = i) : va_up f i v j = f j := by rw [va_up, if_neg h]
theorem go_blank (h : zAll sc ar hv N) : sc 0 = va_up sc 0 0 20 ∧ zAll (va_up (va_up sc 0 0) 20 0) ar hv N := by
  obtain ⟨hi, kk, dd, FF, cc, hh, R, H, W, Hn, Sn, Pn, ⟨b1, b2, b3, b4, b5, ⟨a0, a20, hP⟩, b7, b8, b9, b10, b11, b12⟩, k⟩ := h
  refine ⟨a0.trans a20.symm, hi, kk, dd, FF, cc, hh, R, H, W, Hn, Sn, 0, ⟨b1, b2, b3, b4, b5, ⟨rfl, rfl, by omega⟩, b7, b8, fun i hi => absurd hi (Nat.not_lt_zero i), b10, b11, b12⟩, kp_cg k (fun i hi => ?_) (fun j hj => rfl)⟩
  have q := (by decide : ∀ i, i ∈ [5, 6, 7, 8, 9, 24, 30, 31, 32, 33, 34] → ¬ i = 0 ∧ ¬ i = 20) i hi
  rw [up_s q.2, up_s q.1]
theorem go_wind (h : zAll sc ar hv N) (x : Int32) : (wiS sc x).1 = (mwiS (wiS sc x).2 x).1 ∧ zAll (mwiS (wiS sc x).2 x).2 ar hv N := by
  have h' := h
  obtain ⟨hi, kk, dd, FF, cc, hh, R, H, W, Hn, Sn, Pn, ⟨⟨a16, a21, hR⟩, b2, ⟨a17, a23, hW⟩, b4, b5, b6, b7, b8, b9, b10, b11, b12⟩, k⟩ := h
  unfold wiS
  by_cases x1 : x < 0
  · rw [if_pos x1]; unfold mwiS; rw [if_pos x1]; exact ⟨rfl, h'⟩
  rw [if_neg x1]
  by_cases x2 : 4 < x
  · rw [if_pos x2]; unfold mwiS; rw [if_neg x1, if_pos x2]; exact ⟨rfl, h'⟩
  rw [if_neg x2]
  by_cases r0 : R = 0
  · rw [if_pos (by rw [a16]; exact (z_le0 hR).mpr r0)]; unfold mwiS; rw [if_neg x1, if_neg x2, if_pos (show sc 21 = 0 by rw [a21]; exact (z_eq0 hR).mpr r0)]; exact ⟨rfl, h'⟩
  rw [if_neg (by rw [a16]; exact fun q => r0 ((z_le0 hR).mp q))]
  unfold mwiS
  rw [if_neg x1, if_neg x2, if_neg (show ¬ va_up sc 17 x 21 = 0 from fun q => r0 ((z_eq0 hR).mp (by rw [← a21]; exact q)))]
  obtain ⟨m, hm, q⟩ := nI_of x1
  subst q
  have hm5 : m < 5 := by
    rw [Int32.lt_iff_toInt_lt, nI_toInt hm] at x2
    have e1 : (4 : Int32).toInt = 4 := rfl
    omega
  refine ⟨a17.trans a23.symm, hi, kk, dd, FF, cc, hh, R, H, m, Hn, Sn, Pn, ⟨⟨a16, a21, hR⟩, b2, ⟨rfl, rfl, hm5⟩, b4, b5, b6, b7, b8, b9, b10, b11, b12⟩, kp_cg k (fun i hi => ?_) (fun j hj => rfl)⟩
  have q := (by decide : ∀ i, i ∈ [5, 6, 7, 8, 9, 24, 30, 31, 32, 33, 34] → ¬ i = 17 ∧ ¬ i = 23) i hi
  show va_up (va_up sc 17 (nI m)) 23 (nI m) i = sc i
  rw [up_s q.2, up_s q.1]
theorem go_pass (h : zAll sc ar hv N) (x : Int32) : (paS sc x).1 = (mpaS (paS sc x).2 x).1 ∧ zAll (mpaS (paS sc x).2 x).2 ar hv N := by
  have h' := h
  obtain ⟨hi, kk, dd, FF, cc, hh, R, H, W, Hn, Sn, Pn, ⟨⟨a16, a21, hR⟩, ⟨a3, a22, hH⟩, b3, b4, b5, b6, b7, b8, b9, b10, b11, b12⟩, k⟩ := h
  unfold paS
  by_cases x1 : x < 1
  · rw [if_pos x1]; unfold mpaS; rw [if_pos x1]; exact ⟨rfl, h'⟩
  rw [if_neg x1]
  by_cases x2 : 30 < x
  · rw [if_pos x2]; unfold mpaS; rw [if_neg x1, if_pos x2]; exact ⟨rfl, h'⟩
  rw [if_neg x2]
  by_cases r0 : R = 0
  · rw [if_pos (by rw [a16]; exact (z_le0 hR).mpr r0)]; unfold mpaS; rw [if_neg x1, if_neg x2, if_pos (show sc 21 = 0 by rw [a21]; exact (z_eq0 hR).mpr r0)]; exact ⟨rfl, h'⟩
  rw [if_neg (by rw [a16]; exact fun q => r0 ((z_le0 hR).mp q))]
  by_cases x3 : 999 < sc 3 + x
  · rw [if_pos x3]; unfold mpaS; rw [if_neg x1, if_neg x2, if_neg (show ¬ sc 21 = 0 by rw [a21]; exact fun q => r0 ((z_eq0 hR).mp q)), if_pos (show 999 < sc 22 + x by rw [a22, ← a3]; exact x3)]; exact ⟨rfl, h'⟩
  rw [if_neg x3]
  unfold mpaS
  rw [if_neg x1, if_neg x2, if_neg (show ¬ va_up sc 3 (sc 3 + x) 21 = 0 from fun q => r0 ((z_eq0 hR).mp (by rw [← a21]; exact q))), if_neg (show ¬ 999 < va_up sc 3 (sc 3 + x) 22 + x by show ¬ 999 < sc 22 + x; rw [a22, ← a3]; exact x3)]
  have x0 : ¬ x < 0 := by
    rw [Int32.lt_iff_toInt_lt] at x1 ⊢
    have e0 : (1 : Int32).toInt = 1 := rfl
    have e1 : (0 : Int32).toInt = 0 := rfl
    omega
  obtain ⟨m, hm, q⟩ := nI_of x0
  subst q
  have hm30 : m ≤ 30 := by
    rw [Int32.lt_iff_toInt_lt, nI_toInt hm] at x2
    have e1 : (30 : Int32).toInt = 30 := rfl
    omega
  have hsum : H + m ≤ 999 := by
    rw [a3, nI_add, Int32.lt_iff_toInt_lt, nI_toInt (by omega)] at x3
    have e1 : (999 : Int32).toInt = 999 := rfl
    omega
  refine ⟨by show sc 3 + nI m = sc 22 + nI m; rw [a3, a22], hi, kk, dd, FF, cc, hh, R, H + m, W, Hn, Sn, Pn, ⟨⟨a16, a21, hR⟩, ⟨by show sc 3 + nI m = _; rw [a3]; exact nI_add _ _, by show sc 22 + nI m = _; rw [a22]; exact nI_add _ _, hsum⟩, b3, b4, b5, b6, b7, b8, b9, b10, b11, b12⟩, kp_cg k (fun i hi => ?_) (fun j hj => rfl)⟩
  have q := (by decide : ∀ i, i ∈ [5, 6, 7, 8, 9, 24, 30, 31, 32, 33, 34] → ¬ i = 3 ∧ ¬ i = 22) i hi
  show va_up (va_up sc 3 _) 22 _ i = sc i
  rw [up_s q.2, up_s q.1]
theorem go_forget (h : zAll sc ar hv N) : sc 4 = va_up sc 4 0 28 ∧ zAll (va_up (va_up sc 4 0) 28 0) ar hv N := by
  obtain ⟨hi, kk, dd, FF, cc, hh, R, H, W, Hn, Sn, Pn, ⟨b1, b2, b3, b4, ⟨a4, a28, hS6⟩, b6, b7, b8, b9, b10, b11, b12⟩, k⟩ := h
  refine ⟨a4.trans a28.symm, hi, kk, dd, FF, cc, hh, R, H, W, Hn, 0, Pn, ⟨b1, b2, b3, b4, ⟨rfl, rfl, by omega⟩, b6, b7, b8, b9, b10, b11, fun i hi => absurd hi (Nat.not_lt_zero i)⟩, kp_cg k (fun i hi => ?_) (fun j hj => rfl)⟩
  have q := (by decide : ∀ i, i ∈ [5, 6, 7, 8, 9, 24, 30, 31, 32, 33, 34] → ¬ i = 4 ∧ ¬ i = 28) i hi
  rw [up_s q.2, up_s q.1]
end R6
