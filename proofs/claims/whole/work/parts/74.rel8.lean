section R8
variable {sc : Nat → Int32} {ar : Nat → Nat → Int32} {hv : HV} {N : Nat}
theorem go_sail (h : zAll sc ar hv N) (x w : Int32) : ∃ Hn, (saS sc ar hv x w).2.1 25 = nI Hn ∧ Hn ≤ 3 ∧ (∀ k, k < Hn → vp_in (ar 30 (4 * k + 2)) 12) ∧ (saS sc ar hv x w).1 = (msaS (saS sc ar hv x w).2.1 ar x w).1 ∧ zAll (msaS (saS sc ar hv x w).2.1 ar x w).2.1 (msaS (saS sc ar hv x w).2.1 ar x w).2.2 (saS sc ar hv x w).2.2 N := by
  have h' := h
  obtain ⟨hi, kk, dd, FF, cc, hh, R, H, W, Hn, Sn, Pn, rl, k⟩ := h
  have rh := rl_hv rl x
  have rc := rl_rc rl
  obtain ⟨⟨a16, a21, hR⟩, ⟨a3, a22, hH⟩, ⟨a17, a23, hW⟩, ⟨a2, a25, hH3⟩, b5, b6, b7, ⟨hp, hp'⟩, b9, b10, b11, b12⟩ := rl
  unfold saS
  rcases rh with ⟨e, q | ⟨q1, q2⟩⟩ | ⟨n, hn, rfl, e, q1, q2, q3⟩
  · rw [e]; exact ⟨Hn, a25, hH3, rc, by unfold msaS; rw [if_pos q], by unfold msaS; rw [if_pos q]; exact h'⟩
  · rw [e]; exact ⟨Hn, a25, hH3, rc, by unfold msaS; rw [if_neg q1, if_pos q2], by unfold msaS; rw [if_neg q1, if_pos q2]; exact h'⟩
  · rw [e]
    dsimp only
    obtain ⟨⟨k5, d1, d9, hF⟩, r0, r1, r2, -⟩ := b10 n hn
    by_cases w1 : w < 0
    · rw [if_pos w1]; exact ⟨Hn, a25, hH3, rc, by unfold msaS; rw [if_neg q1, if_neg q2, if_pos w1], by unfold msaS; rw [if_neg q1, if_neg q2, if_pos w1]; exact h'⟩
    rw [if_neg w1]
    by_cases w2 : (4 : Int32) ≤ w
    · have w3 : 3 < w := by
        rw [Int32.le_iff_toInt_le] at w2
        rw [Int32.lt_iff_toInt_lt]
        have e0 : (3 : Int32).toInt = 3 := rfl
        have e1 : (4 : Int32).toInt = 4 := rfl
        omega
      rw [if_pos w2]; exact ⟨Hn, a25, hH3, rc, by unfold msaS; rw [if_neg q1, if_neg q2, if_neg w1, if_pos w3], by unfold msaS; rw [if_neg q1, if_neg q2, if_neg w1, if_pos w3]; exact h'⟩
    rw [if_neg w2]
    have w3 : ¬ 3 < w := by
      rw [Int32.le_iff_toInt_le] at w2
      rw [Int32.lt_iff_toInt_lt]
      have e0 : (3 : Int32).toInt = 3 := rfl
      have e1 : (4 : Int32).toInt = 4 := rfl
      omega
    obtain ⟨i, hi3, rfl⟩ := w_nat (m := 3) (M := 3) rfl w1 w3
    have hi4 : i < 4 := by omega
    have hS4 := z_S4 (hi := hi) (R := R) (d := dd n) (c := FF n) (h := H) k5 hi4 hW
    rw [a16, a17, a3, z_ht hp hR hW k5 d1 d9 hF hi4 (show H < 2 ^ 30 by omega)]
    have mht : mhtF (ar 29) (ar 30) n (ar 30 (4 * n + 2)) (sc 22) (nI i) (sc 23) (sc 21) = zO (zS hi R W (kk n) (dd n) (FF n) i H) := by
      rw [r2, a22, a23, a21]; exact z_mht r0 r1 hp' hR hW k5 d1 d9 hF hi4 (by omega)
    by_cases s0 : zS hi R W (kk n) (dd n) (FF n) i H = 0
    · rw [if_pos ((z_O (by omega)).mpr s0)]
      have mt : msaS sc ar (nI n) (nI i) = (-103, sc, ar) := by
        unfold msaS
        rw [if_neg q1, if_neg q2, if_neg w1, if_neg w3, q3, mht, if_pos ((z_O (by omega)).mpr s0)]
      exact ⟨Hn, a25, hH3, rc, by rw [mt], by rw [mt]; exact h'⟩
    rw [if_neg (fun q => s0 ((z_O (by omega)).mp q))]
    have zo' : zO (zS hi R W (kk n) (dd n) (FF n) i H) = nI (zS hi R W (kk n) (dd n) (FF n) i H) := if_neg s0
    rw [zo'] at mht ⊢
    have hB := zB_lt hF hi4 s0
    have nz : ¬ nI (zS hi R W (kk n) (dd n) (FF n) i H) = -1 := z_neg (by omega)
    rw [nI_add]
    by_cases g9 : 999 < nI (H + zS hi R W (kk n) (dd n) (FF n) i H)
    · rw [if_pos g9]
      have mt : msaS sc ar (nI n) (nI i) = (-103, sc, ar) := by
        unfold msaS
        rw [if_neg q1, if_neg q2, if_neg w1, if_neg w3, q3, mht, if_neg nz, if_pos (by rw [a22, nI_add]; exact g9)]
      exact ⟨Hn, a25, hH3, rc, by rw [mt], by rw [mt]; exact h'⟩
    rw [if_neg g9]
    dsimp only
    have hsum : H + zS hi R W (kk n) (dd n) (FF n) i H ≤ 999 := by
      rw [Int32.lt_iff_toInt_lt, nI_toInt (by omega)] at g9
      have e1 : (999 : Int32).toInt = 999 := rfl
      omega
    have mbe : mbeF (ar 30 (4 * n + 2)) (nI i) = nI (zB (FF n) i) := by rw [r2, z_mbe _ hF i hi4]; exact if_neg (by omega)
    have cbe : beF (nI (FF n)) (nI i) = nI (zB (FF n) i) := by rw [z_be _ hF i hi4]; exact if_neg (by omega)
    have mt : msaS (va_up sc 3 (nI (H + zS hi R W (kk n) (dd n) (FF n) i H))) ar (nI n) (nI i) = (nI (H + zS hi R W (kk n) (dd n) (FF n) i H), va_up (va_up sc 3 (nI (H + zS hi R W (kk n) (dd n) (FF n) i H))) 22 (nI (H + zS hi R W (kk n) (dd n) (FF n) i H)), va_up ar 30 (upd (upd (ar 30) (4 * n + 2) (nI (zB (FF n) i))) (4 * n + 3) (ar 30 (4 * n + 3) + nI (zS hi R W (kk n) (dd n) (FF n) i H)))) := by
      unfold msaS
      rw [q3, show va_up sc 3 (nI (H + zS hi R W (kk n) (dd n) (FF n) i H)) 22 = sc 22 from rfl, show va_up sc 3 (nI (H + zS hi R W (kk n) (dd n) (FF n) i H)) 23 = sc 23 from rfl, show va_up sc 3 (nI (H + zS hi R W (kk n) (dd n) (FF n) i H)) 21 = sc 21 from rfl, mht, a22, nI_add, mbe]
      rw [if_neg q1, if_neg (show ¬ va_up sc 3 (nI (H + zS hi R W (kk n) (dd n) (FF n) i H)) 25 - 1 < nI n from q2), if_neg w1, if_neg w3, if_neg nz, if_neg g9, upd_ne (show ¬ 4 * n + 3 = 4 * n + 2 by omega)]
    refine ⟨Hn, a25, hH3, rc, by rw [mt], ?_⟩
    rw [mt, cbe, q3]
    refine ⟨hi, kk, dd, fun k => if k = n then zB (FF n) i else FF k, cc, hh, R, H + zS hi R W (kk n) (dd n) (FF n) i H, W, Hn, Sn, Pn, ⟨⟨a16, a21, hR⟩, ⟨rfl, rfl, hsum⟩, ⟨a17, a23, hW⟩, ⟨a2, a25, hH3⟩, b5, b6, b7, ⟨hp, hp'⟩, b9, fun j hj => ?_, fun k hk hk3 => ?_, b12⟩, kp_cg k (fun i hi => ?_) (fun j hj => up_a ((by decide : ∀ k, k ∈ [11, 12, 13, 16, 17, 38, 39] → ¬ k = 30) j hj))⟩
    · show (kk j < 5 ∧ 1 ≤ dd j ∧ dd j ≤ 9 ∧ (if j = n then zB (FF n) i else FF j) < 12) ∧ upd (upd (ar 30) (4 * n + 2) (nI (zB (FF n) i))) (4 * n + 3) (ar 30 (4 * n + 3) + nI (zS hi R W (kk n) (dd n) (FF n) i H)) (4 * j + 0) = nI (kk j) ∧ upd (upd (ar 30) (4 * n + 2) (nI (zB (FF n) i))) (4 * n + 3) (ar 30 (4 * n + 3) + nI (zS hi R W (kk n) (dd n) (FF n) i H)) (4 * j + 1) = nI (dd j) ∧ upd (upd (ar 30) (4 * n + 2) (nI (zB (FF n) i))) (4 * n + 3) (ar 30 (4 * n + 3) + nI (zS hi R W (kk n) (dd n) (FF n) i H)) (4 * j + 2) = nI (if j = n then zB (FF n) i else FF j) ∧ va_up hv n (some (kk n, nI (dd n), nI (zB (FF n) i), ar 30 (4 * n + 3) + nI (zS hi R W (kk n) (dd n) (FF n) i H))) j = some (kk j, nI (dd j), nI (if j = n then zB (FF n) i else FF j), upd (upd (ar 30) (4 * n + 2) (nI (zB (FF n) i))) (4 * n + 3) (ar 30 (4 * n + 3) + nI (zS hi R W (kk n) (dd n) (FF n) i H)) (4 * j + 3))
      obtain ⟨⟨t1, t2, t3, t4⟩, t5, t6, t7, t8⟩ := b10 j hj
      rw [upd_ne (show ¬ 4 * j + 0 = 4 * n + 3 by omega), upd_ne (show ¬ 4 * j + 0 = 4 * n + 2 by omega), upd_ne (show ¬ 4 * j + 1 = 4 * n + 3 by omega), upd_ne (show ¬ 4 * j + 1 = 4 * n + 2 by omega), upd_ne (show ¬ 4 * j + 2 = 4 * n + 3 by omega)]
      by_cases e : j = n
      · rw [e] at t1 t2 t3 t4 t5 t6 t7 t8 ⊢
        rw [if_pos rfl, upd_at, upd_at, hv_at]
        exact ⟨⟨t1, t2, t3, hB⟩, t5, t6, rfl, rfl⟩
      · rw [if_neg e, upd_ne (show ¬ 4 * j + 2 = 4 * n + 2 by omega), upd_ne (show ¬ 4 * j + 3 = 4 * n + 3 by omega), upd_ne (show ¬ 4 * j + 3 = 4 * n + 2 by omega), hv_ne e]
        exact ⟨⟨t1, t2, t3, t4⟩, t5, t6, t7, t8⟩
    · rw [hv_ne (by omega)]; exact b11 k hk hk3
    · have q := (by decide : ∀ i, i ∈ [5, 6, 7, 8, 9, 24, 30, 31, 32, 33, 34] → ¬ i = 3 ∧ ¬ i = 22) i hi
      show va_up (va_up sc 3 _) 22 _ i = sc i
      rw [up_s q.2, up_s q.1]
theorem kp_at {hv : HV} {c s : Nat → Int32} {k : Nat} {kd : Nat} {dr ce sa : Int32} (hk : hv k = some (kd, dr, ce, sa)) : ∀ n, k < n → (kpN hv c s n).1 k = ce ∧ (kpN hv c s n).2 k = sa := by
  intro n
  induction n with
  | zero => intro q; omega
  | succ n ih =>
    intro hkn
    rw [kpN]
    by_cases e : k = n
    · subst e; rw [hk]; exact ⟨upd_at, upd_at⟩
    · rcases hv n with _ | q
      · exact ih (by omega)
      · show upd (kpN hv c s n).1 n q.2.2.1 k = _ ∧ upd (kpN hv c s n).2 n q.2.2.2 k = _
        rw [upd_ne e, upd_ne e]; exact ih (by omega)
theorem go_image (h : zAll sc ar hv N) : (imgS sc ar hv).1 = (mimS (imgS sc ar hv).2.1 (imgS sc ar hv).2.2).1 ∧ zAll (mimS (imgS sc ar hv).2.1 (imgS sc ar hv).2.2).2.1 (mimS (imgS sc ar hv).2.1 (imgS sc ar hv).2.2).2.2 hv N := by
  have h' := h
  obtain ⟨hi, kk, dd, FF, cc, hh, R, H, W, Hn, Sn, Pn, ⟨⟨a16, a21, hR⟩, ⟨a3, a22, hH⟩, ⟨a17, a23, hW⟩, ⟨a2, a25, hH3⟩, ⟨a4, a28, hS6⟩, b6, b7, b8, b9, b10, b11, b12⟩, Q, e1, e2, e3⟩ := h
  unfold imgS
  by_cases r0 : R = 0
  · rw [if_pos (show sc 16 ≤ 0 by rw [a16]; exact (z_le0 hR).mpr r0)]
    unfold mimS
    rw [if_pos (show sc 21 = 0 by rw [a21]; exact (z_eq0 hR).mpr r0)]
    exact ⟨rfl, h'⟩
  have r21 : ¬ sc 21 = 0 := by rw [a21]; exact fun q => r0 ((z_eq0 hR).mp q)
  rw [if_neg (show ¬ sc 16 ≤ 0 by rw [a16]; exact fun q => r0 ((z_le0 hR).mp q))]
  unfold mimS
  dsimp only
  rw [if_neg (show ¬ va_up (va_up (va_up (va_up (va_up sc 6 1) 7 (sc 2)) 8 (sc 3)) 9 (sc 17)) 5 (sc 4) 21 = 0 from r21)]
  refine ⟨a3.trans a22.symm, hi, kk, dd, FF, cc, hh, R, H, W, Hn, Sn, Pn, ⟨⟨a16, a21, hR⟩, ⟨a3, a22, hH⟩, ⟨a17, a23, hW⟩, ⟨a2, a25, hH3⟩, ⟨a4, a28, hS6⟩, b6, b7, b8, b9, b10, b11, b12⟩, Q, e1, e2, Or.inr ⟨show ¬ (1 : Int32) = 0 by decide, e1, H, W, Hn, Sn, FF, cc, hh, Nat.le_refl _, ⟨a2, a25⟩, ⟨a3, a22, hH⟩, ⟨a17, a23, hW⟩, ⟨a4, a28, hS6⟩, fun j hj => ?_, fun i hi => ?_⟩⟩
  · show copN (ar 30) (ar 38) 12 (4 * j + 0) = nI (kk j) ∧ copN (ar 30) (ar 38) 12 (4 * j + 1) = nI (dd j) ∧ copN (ar 30) (ar 38) 12 (4 * j + 2) = nI (FF j) ∧ FF j < 12 ∧ (kpN hv (ar 16) (ar 17) 3).1 j = nI (FF j) ∧ (kpN hv (ar 16) (ar 17) 3).2 j = copN (ar 30) (ar 38) 12 (4 * j + 3)
    obtain ⟨⟨t1, t2, t3, t4⟩, t5, t6, t7, t8⟩ := b10 j hj
    obtain ⟨k1, k2⟩ := kp_at (c := ar 16) (s := ar 17) t8 3 (by omega)
    rw [cop_at 12 _ (by omega), cop_at 12 _ (by omega), cop_at 12 _ (by omega), cop_at 12 _ (by omega)]
    exact ⟨t5, t6, t7, t4, k1, k2⟩
  · show copN (ar 35) (ar 39) 18 (3 * i + 0) = copN (ar 4) (ar 11) 6 i ∧ copN (ar 35) (ar 39) 18 (3 * i + 1) = copN (ar 5) (ar 12) 6 i ∧ copN (ar 35) (ar 39) 18 (3 * i + 2) = copN (ar 6) (ar 13) 6 i ∧ copN (ar 5) (ar 12) 6 i = nI (cc i) ∧ cc i < 12 ∧ copN (ar 6) (ar 13) 6 i = nI (hh i) ∧ hh i ≤ 40
    rw [cop_at 18 _ (by omega), cop_at 18 _ (by omega), cop_at 18 _ (by omega), cop_at 6 _ (by omega), cop_at 6 _ (by omega), cop_at 6 _ (by omega)]
    exact b12 i hi
theorem go_restore (h : zAll sc ar hv N) : (resS sc ar hv).1 = (mreS (resS sc ar hv).2.1 (resS sc ar hv).2.2.1).1 ∧ zAll (mreS (resS sc ar hv).2.1 (resS sc ar hv).2.2.1).2.1 (mreS (resS sc ar hv).2.1 (resS sc ar hv).2.2.1).2.2 (resS sc ar hv).2.2.2 N := by
  have h' := h
  obtain ⟨hi, kk, dd, FF, cc, hh, R, H, W, Hn, Sn, Pn, ⟨⟨a16, a21, hR⟩, ⟨a3, a22, hH⟩, ⟨a17, a23, hW⟩, ⟨a2, a25, hH3⟩, ⟨a4, a28, hS6⟩, b6, b7, b8, b9, b10, b11, b12⟩, Q, e1, e2, e3⟩ := h
  unfold resS
  rcases e3 with ⟨f1, f2, -⟩ | ⟨f1, f2, kH, kW, kHn, kSn, fF, kc, kh, g1, ⟨g2, g3⟩, ⟨g4, g5, g6⟩, ⟨g7, g8, g9⟩, ⟨g10, g11, g12⟩, g13, g14⟩
  · rw [if_pos f1]
    unfold mreS
    rw [if_neg (show ¬ sc 30 = sc 24 by rw [e1]; exact f2)]
    exact ⟨rfl, h'⟩
  · rw [if_neg f1]
    unfold mreS
    dsimp only
    rw [if_pos (show va_up (va_up (va_up (va_up sc 2 (sc 7)) 3 (sc 8)) 17 (sc 9)) 4 (sc 5) 30 = va_up (va_up (va_up (va_up sc 2 (sc 7)) 3 (sc 8)) 17 (sc 9)) 4 (sc 5) 24 from f2.trans e1.symm)]
    refine ⟨g4.trans g5.symm, hi, kk, dd, fF, kc, kh, R, kH, kW, kHn, kSn, Pn, ⟨⟨a16, a21, hR⟩, ⟨g4, g5, g6⟩, ⟨g7, g8, g9⟩, ⟨g2, g3, by omega⟩, ⟨g10, g11, g12⟩, b6, b7, b8, b9, fun j hj => ?_, fun j hj hj3 => ?_, fun i hi => ?_⟩, Q, e1, e2, Or.inr ⟨f1, f2, kH, kW, kHn, kSn, fF, kc, kh, Nat.le_refl _, ⟨g2, g3⟩, ⟨g4, g5, g6⟩, ⟨g7, g8, g9⟩, ⟨g10, g11, g12⟩, g13, g14⟩⟩
    · show (kk j < 5 ∧ 1 ≤ dd j ∧ dd j ≤ 9 ∧ fF j < 12) ∧ copN (ar 38) (ar 30) 12 (4 * j + 0) = nI (kk j) ∧ copN (ar 38) (ar 30) 12 (4 * j + 1) = nI (dd j) ∧ copN (ar 38) (ar 30) 12 (4 * j + 2) = nI (fF j) ∧ gbF (sc 7) (ar 16) (ar 17) hv j = some (kk j, nI (dd j), nI (fF j), copN (ar 38) (ar 30) 12 (4 * j + 3))
      obtain ⟨⟨t1, t2, t3, -⟩, -, -, -, t8⟩ := b10 j (by omega)
      obtain ⟨u1, u2, u3, u4, u5, u6⟩ := g13 j hj
      rw [cop_at 12 _ (by omega), cop_at 12 _ (by omega), cop_at 12 _ (by omega), cop_at 12 _ (by omega)]
      refine ⟨⟨t1, t2, t3, u4⟩, u1, u2, u3, ?_⟩
      unfold gbF
      rw [if_pos (show j < 3 by omega), g2, if_pos (nI_lt hj (by omega)), t8]
      show some (kk j, nI (dd j), ar 16 j, ar 17 j) = _
      rw [u5, u6]
    · show gbF (sc 7) (ar 16) (ar 17) hv j = none
      unfold gbF
      rw [if_pos hj3, g2, if_neg (nI_nlt hj (by omega))]
    · show copN (ar 39) (ar 35) 18 (3 * i + 0) = copN (ar 11) (ar 4) 6 i ∧ copN (ar 39) (ar 35) 18 (3 * i + 1) = copN (ar 12) (ar 5) 6 i ∧ copN (ar 39) (ar 35) 18 (3 * i + 2) = copN (ar 13) (ar 6) 6 i ∧ copN (ar 12) (ar 5) 6 i = nI (kc i) ∧ kc i < 12 ∧ copN (ar 13) (ar 6) 6 i = nI (kh i) ∧ kh i ≤ 40
      rw [cop_at 18 _ (by omega), cop_at 18 _ (by omega), cop_at 18 _ (by omega), cop_at 6 _ (by omega), cop_at 6 _ (by omega), cop_at 6 _ (by omega)]
      exact g14 i hi
end R8
