section R7
variable {sc : Nat → Int32} {ar : Nat → Nat → Int32} {hv : HV} {N : Nat}
theorem go_see (h : zAll sc ar hv N) (x c g : Int32) : ∃ Hn Sn, (seS sc ar hv x c g).2.1 25 = nI Hn ∧ Hn ≤ 3 ∧ (seS sc ar hv x c g).2.1 28 = nI Sn ∧ Sn ≤ 6 ∧ (seS sc ar hv x c g).1 = (mseT (seS sc ar hv x c g).2.1 (seS sc ar hv x c g).2.2 Sn x c g).1 ∧ zAll (mseT (seS sc ar hv x c g).2.1 (seS sc ar hv x c g).2.2 Sn x c g).2.1 (mseT (seS sc ar hv x c g).2.1 (seS sc ar hv x c g).2.2 Sn x c g).2.2 hv N := by
  have h' := h
  obtain ⟨hi, kk, dd, FF, cc, hh, R, H, W, Hn, Sn, Pn, rl, k⟩ := h
  have rh := rl_hv rl x
  obtain ⟨⟨a16, a21, hR⟩, b2, b3, ⟨a2, a25, hH3⟩, ⟨a4, a28, hS6⟩, b6, b7, b8, b9, b10, b11, b12⟩ := rl
  unfold seS
  rcases rh with ⟨e, q | ⟨q1, q2⟩⟩ | ⟨n, hn, rfl, e, q1, q2, q3⟩
  · rw [e]; exact ⟨Hn, Sn, a25, hH3, a28, hS6, by unfold mseT; rw [if_pos q], by unfold mseT; rw [if_pos q]; exact h'⟩
  · rw [e]; exact ⟨Hn, Sn, a25, hH3, a28, hS6, by unfold mseT; rw [if_neg q1, if_pos q2], by unfold mseT; rw [if_neg q1, if_pos q2]; exact h'⟩
  · rw [e]
    dsimp only
    by_cases r0 : R = 0
    · have m : mseT sc ar Sn (nI n) c g = (-101, sc, ar) := by
        unfold mseT
        rw [if_neg q1, if_neg q2, if_pos (show sc 21 = 0 by rw [a21]; exact (z_eq0 hR).mpr r0)]
        split
        · rfl
        · split <;> rfl
      rw [if_pos (show sc 16 ≤ 0 by rw [a16]; exact (z_le0 hR).mpr r0)]
      exact ⟨Hn, Sn, a25, hH3, a28, hS6, by rw [m], by rw [m]; exact h'⟩
    have r16 : ¬ sc 16 ≤ 0 := by rw [a16]; exact fun q => r0 ((z_le0 hR).mp q)
    have r21 : ¬ sc 21 = 0 := by rw [a21]; exact fun q => r0 ((z_eq0 hR).mp q)
    rw [if_neg r16]
    rcases c_cs c with q | ⟨p1, p2, p3⟩ | ⟨m, hm, rfl, p1, p2, p3, p4⟩
    · rw [if_pos q]; exact ⟨Hn, Sn, a25, hH3, a28, hS6, by unfold mseT; rw [if_neg q1, if_neg q2, if_pos q], by unfold mseT; rw [if_neg q1, if_neg q2, if_pos q]; exact h'⟩
    · rw [if_neg p1, if_pos p2]; exact ⟨Hn, Sn, a25, hH3, a28, hS6, by unfold mseT; rw [if_neg q1, if_neg q2, if_neg p1, if_pos p3], by unfold mseT; rw [if_neg q1, if_neg q2, if_neg p1, if_pos p3]; exact h'⟩
    · rw [if_neg p1, if_neg p2]
      by_cases g1 : g < 0
      · rw [if_pos g1]; exact ⟨Hn, Sn, a25, hH3, a28, hS6, by unfold mseT; rw [if_neg q1, if_neg q2, if_neg p1, if_neg p3, if_neg r21, if_pos g1], by unfold mseT; rw [if_neg q1, if_neg q2, if_neg p1, if_neg p3, if_neg r21, if_pos g1]; exact h'⟩
      rw [if_neg g1]
      by_cases g2 : 40 < g
      · rw [if_pos g2]; exact ⟨Hn, Sn, a25, hH3, a28, hS6, by unfold mseT; rw [if_neg q1, if_neg q2, if_neg p1, if_neg p3, if_neg r21, if_neg g1, if_pos g2], by unfold mseT; rw [if_neg q1, if_neg q2, if_neg p1, if_neg p3, if_neg r21, if_neg g1, if_pos g2]; exact h'⟩
      rw [if_neg g2]
      have s0 : ¬ sc 4 < 0 := by rw [a4]; exact nI_pos (by omega)
      by_cases s6 : Sn = 6
      · have ad : adS sc ar (nI n) (nI m) g = (0, sc, ar) := by
          unfold adS
          rw [if_neg s0, if_pos (show (6 : Int32) ≤ sc 4 by rw [a4, s6]; decide)]
        have mt : mseT sc ar Sn (nI n) (nI m) g = (-104, sc, ar) := by
          unfold mseT
          rw [if_neg q1, if_neg q2, if_neg p1, if_neg p3, if_neg r21, if_neg g1, if_neg g2, if_pos (show sc 28 = 6 by rw [a28, s6]; rfl)]
        rw [ad, if_pos rfl]
        exact ⟨Hn, Sn, a25, hH3, a28, hS6, by rw [mt], by rw [mt]; exact h'⟩
      · have ad : adS sc ar (nI n) (nI m) g = (1, va_up sc 4 (sc 4 + 1), va_up (va_up (va_up ar 4 (upd (ar 4) Sn (nI n))) 5 (upd (ar 5) Sn (nI m))) 6 (upd (ar 6) Sn g)) := by
          unfold adS
          rw [if_neg s0, if_neg (show ¬ (6 : Int32) ≤ sc 4 by rw [a4]; exact nI_ge (b := 6) (by omega) (by decide)), a4, nI_clamp (show Sn < 2 ^ 31 by omega)]
        rw [ad, if_neg (show ¬ (1 : Int32) = 0 by decide)]
        dsimp only
        have mt : mseT (va_up sc 4 (sc 4 + 1)) (va_up (va_up (va_up ar 4 (upd (ar 4) Sn (nI n))) 5 (upd (ar 5) Sn (nI m))) 6 (upd (ar 6) Sn g)) Sn (nI n) (nI m) g = (sc 28 + 1, va_up (va_up sc 4 (sc 4 + 1)) 28 (sc 28 + 1), va_up (va_up (va_up (va_up ar 4 (upd (ar 4) Sn (nI n))) 5 (upd (ar 5) Sn (nI m))) 6 (upd (ar 6) Sn g)) 35 (upd (upd (upd (ar 35) (3 * Sn + 0) (nI n)) (3 * Sn + 1) (nI m)) (3 * Sn + 2) g)) := by
          unfold mseT
          rw [if_neg q1, if_neg (show ¬ va_up sc 4 (sc 4 + 1) 25 - 1 < nI n from q2), if_neg p1, if_neg p3, if_neg (show ¬ va_up sc 4 (sc 4 + 1) 21 = 0 from r21), if_neg g1, if_neg g2, if_neg (show ¬ va_up sc 4 (sc 4 + 1) 28 = 6 from fun q => s6 ((nI_eq (b := 6) (by omega) (by decide)).mp (by rw [← a28]; exact q)))]
          rfl
        obtain ⟨gn, hgn, rfl⟩ := nI_of g1
        have hg40 : gn ≤ 40 := by
          rw [Int32.lt_iff_toInt_lt, nI_toInt hgn] at g2
          have e1 : (40 : Int32).toInt = 40 := rfl
          omega
        refine ⟨Hn, Sn, a25, hH3, a28, hS6, by rw [mt]; show sc 4 + 1 = sc 28 + 1; rw [a4, a28], ?_⟩
        rw [mt]
        refine ⟨hi, kk, dd, FF, fun i => if i = Sn then m else cc i, fun i => if i = Sn then gn else hh i, R, H, W, Hn, Sn + 1, Pn, ⟨⟨a16, a21, hR⟩, b2, b3, ⟨a2, a25, hH3⟩, ⟨by show sc 4 + 1 = _; rw [a4]; exact nI_1 _, by show sc 28 + 1 = _; rw [a28]; exact nI_1 _, by omega⟩, b6, b7, b8, b9, b10, b11, fun i hi' => ?_⟩, kp_cg k (fun i hi => ?_) (fun j hj => ?_)⟩
        · show upd (upd (upd (ar 35) (3 * Sn + 0) (nI n)) (3 * Sn + 1) (nI m)) (3 * Sn + 2) (nI gn) (3 * i + 0) = upd (ar 4) Sn (nI n) i ∧ upd (upd (upd (ar 35) (3 * Sn + 0) (nI n)) (3 * Sn + 1) (nI m)) (3 * Sn + 2) (nI gn) (3 * i + 1) = upd (ar 5) Sn (nI m) i ∧ upd (upd (upd (ar 35) (3 * Sn + 0) (nI n)) (3 * Sn + 1) (nI m)) (3 * Sn + 2) (nI gn) (3 * i + 2) = upd (ar 6) Sn (nI gn) i ∧ upd (ar 5) Sn (nI m) i = nI (if i = Sn then m else cc i) ∧ (if i = Sn then m else cc i) < 12 ∧ upd (ar 6) Sn (nI gn) i = nI (if i = Sn then gn else hh i) ∧ (if i = Sn then gn else hh i) ≤ 40
          by_cases ei : i = Sn
          · subst ei
            rw [if_pos rfl, if_pos rfl, upd_ne (show ¬ 3 * i + 0 = 3 * i + 2 by omega), upd_ne (show ¬ 3 * i + 0 = 3 * i + 1 by omega), upd_at, upd_ne (show ¬ 3 * i + 1 = 3 * i + 2 by omega), upd_at, upd_at, upd_at, upd_at, upd_at]
            exact ⟨rfl, rfl, rfl, rfl, hm, rfl, hg40⟩
          · rw [if_neg ei, if_neg ei, upd_ne (show ¬ 3 * i + 0 = 3 * Sn + 2 by omega), upd_ne (show ¬ 3 * i + 0 = 3 * Sn + 1 by omega), upd_ne (show ¬ 3 * i + 0 = 3 * Sn + 0 by omega), upd_ne (show ¬ 3 * i + 1 = 3 * Sn + 2 by omega), upd_ne (show ¬ 3 * i + 1 = 3 * Sn + 1 by omega), upd_ne (show ¬ 3 * i + 1 = 3 * Sn + 0 by omega), upd_ne (show ¬ 3 * i + 2 = 3 * Sn + 2 by omega), upd_ne (show ¬ 3 * i + 2 = 3 * Sn + 1 by omega), upd_ne (show ¬ 3 * i + 2 = 3 * Sn + 0 by omega), upd_ne ei, upd_ne ei, upd_ne ei]
            exact b12 i (by omega)
        · have q := (by decide : ∀ i, i ∈ [5, 6, 7, 8, 9, 24, 30, 31, 32, 33, 34] → ¬ i = 4 ∧ ¬ i = 28) i hi
          show va_up (va_up sc 4 _) 28 _ i = sc i
          rw [up_s q.2, up_s q.1]
        · have q := (by decide : ∀ k, k ∈ [11, 12, 13, 16, 17, 38, 39] → ¬ k = 4 ∧ ¬ k = 5 ∧ ¬ k = 6 ∧ ¬ k = 35) j hj
          show va_up (va_up (va_up (va_up ar 4 _) 5 _) 6 _) 35 _ j = ar j
          rw [up_a q.2.2.2, up_a q.2.2.1, up_a q.2.1, up_a q.1]
theorem w_nat {w : Int32} {m : Nat} {M : Int32} (hM : M.toInt = m) (h0 : ¬ w < 0) (h1 : ¬ M < w) : ∃ n, n ≤ m ∧ w = nI n := by
  obtain ⟨n, hn, e⟩ := nI_of h0
  subst e
  rw [Int32.lt_iff_toInt_lt, nI_toInt hn, hM] at h1
  exact ⟨n, by omega, rfl⟩
theorem z_buK : ∀ n, n < 5 → buK (nI n) = n := by decide +kernel
theorem five_four {w : Int32} : (5 : Int32) ≤ w ↔ (4 : Int32) < w := by
  rw [Int32.le_iff_toInt_le, Int32.lt_iff_toInt_lt]
  have e0 : (5 : Int32).toInt = 5 := rfl
  have e1 : (4 : Int32).toInt = 4 := rfl
  omega
theorem twelve_11 {w : Int32} : (12 : Int32) ≤ w ↔ (11 : Int32) < w := by
  rw [Int32.le_iff_toInt_le, Int32.lt_iff_toInt_lt]
  have e0 : (12 : Int32).toInt = 12 := rfl
  have e1 : (11 : Int32).toInt = 11 := rfl
  omega
theorem go_hull_no (h : zAll sc ar hv N) {w x c : Int32} (hno : ¬ huOK sc w x c) : ∃ Hn, sc 25 = nI Hn ∧ Hn ≤ 3 ∧ huF sc w x c = (mhuT sc ar Hn w x c).1 ∧ zAll (mhuT sc ar Hn w x c).2.1 (mhuT sc ar Hn w x c).2.2 hv N := by
  have h' := h
  obtain ⟨hi, kk, dd, FF, cc, hh, R, H, W, Hn, Sn, Pn, ⟨⟨a16, a21, hR⟩, b2, b3, ⟨a2, a25, hH3⟩, -⟩, k⟩ := h
  refine ⟨Hn, a25, hH3, ?_⟩
  unfold huOK at hno
  unfold huF mhuT
  by_cases w1 : w < 0
  · rw [if_pos w1, if_pos w1]; exact ⟨rfl, h'⟩
  rw [if_neg w1, if_neg w1]
  by_cases w2 : (5 : Int32) ≤ w
  · rw [if_pos w2, if_pos (five_four.mp w2)]; exact ⟨rfl, h'⟩
  rw [if_neg w2, if_neg (fun q => w2 (five_four.mpr q))]
  by_cases x1 : x < 1
  · rw [if_pos x1, if_pos x1]; exact ⟨rfl, h'⟩
  rw [if_neg x1, if_neg x1]
  by_cases x2 : 9 < x
  · rw [if_pos x2, if_pos x2]; exact ⟨rfl, h'⟩
  rw [if_neg x2, if_neg x2]
  by_cases r0 : R = 0
  · rw [if_pos (show sc 16 ≤ 0 by rw [a16]; exact (z_le0 hR).mpr r0), if_pos (show sc 21 = 0 by rw [a21]; exact (z_eq0 hR).mpr r0)]
    by_cases c1 : c < 0
    · rw [if_pos c1]; exact ⟨rfl, h'⟩
    · rw [if_neg c1]
      by_cases c2 : 11 < c
      · rw [if_pos c2]; exact ⟨rfl, h'⟩
      · rw [if_neg c2]; exact ⟨rfl, h'⟩
  have r16 : ¬ sc 16 ≤ 0 := by rw [a16]; exact fun q => r0 ((z_le0 hR).mp q)
  rw [if_neg r16, if_neg (show ¬ sc 21 = 0 by rw [a21]; exact fun q => r0 ((z_eq0 hR).mp q))]
  by_cases c1 : c < 0
  · rw [if_pos c1, if_pos c1]; exact ⟨rfl, h'⟩
  rw [if_neg c1, if_neg c1]
  by_cases c2 : (12 : Int32) ≤ c
  · rw [if_pos c2, if_pos (twelve_11.mp c2)]; exact ⟨rfl, h'⟩
  rw [if_neg c2, if_neg (fun q => c2 (twelve_11.mpr q))]
  have h3 : Hn = 3 := by
    apply Classical.byContradiction
    intro q
    exact hno ⟨w1, w2, x1, x2, r16, c1, c2, by rw [a2]; exact nI_pos (by omega), by rw [a2]; exact nI_lt (b := 3) (by omega) (by decide)⟩
  rw [if_pos (show sc 25 = 3 by rw [a25, h3]; rfl)]
  exact ⟨rfl, h'⟩
theorem hv_at {hv : HV} {n : Nat} {v : Option (Nat × Int32 × Int32 × Int32)} : va_up hv n v n = v := by rw [va_up, if_pos rfl]
theorem hv_ne {hv : HV} {n m : Nat} {v : Option (Nat × Int32 × Int32 × Int32)} (h : ¬ m = n) : va_up hv n v m = hv m := by rw [va_up, if_neg h]
theorem go_hull_ok (h : zAll sc ar hv N) {w x c : Int32} (ok : huOK sc w x c) : ∃ Hn, va_up sc 2 (sc 2 + 1) 25 = nI Hn ∧ Hn ≤ 3 ∧ sc 2 + 1 - 1 = (mhuT (va_up sc 2 (sc 2 + 1)) ar Hn w x c).1 ∧ zAll (mhuT (va_up sc 2 (sc 2 + 1)) ar Hn w x c).2.1 (mhuT (va_up sc 2 (sc 2 + 1)) ar Hn w x c).2.2 (va_up hv (sc 2).toNatClampNeg (some (buK w, x, c, 0))) N := by
  obtain ⟨hi, kk, dd, FF, cc, hh, R, H, W, Hn, Sn, Pn, ⟨⟨a16, a21, hR⟩, b2, b3, ⟨a2, a25, hH3⟩, b5, b6, b7, b8, b9, b10, b11, b12⟩, k⟩ := h
  obtain ⟨w1, w2, x1, x2, r16, c1, c2, -, s3⟩ := ok
  have hH2 : Hn < 3 := by
    rw [a2, Int32.lt_iff_toInt_lt, nI_toInt (by omega)] at s3
    have e1 : (3 : Int32).toInt = 3 := rfl
    omega
  have r21 : ¬ sc 21 = 0 := by rw [a21]; exact fun q => r16 (by rw [a16]; exact (z_le0 hR).mpr ((z_eq0 hR).mp q))
  have mt : mhuT (va_up sc 2 (sc 2 + 1)) ar Hn w x c = (sc 25 + 1 - 1, va_up (va_up sc 2 (sc 2 + 1)) 25 (sc 25 + 1), va_up ar 30 (upd (upd (upd (upd (ar 30) (4 * Hn + 0) w) (4 * Hn + 1) x) (4 * Hn + 2) c) (4 * Hn + 3) 0)) := by
    unfold mhuT
    rw [if_neg w1, if_neg (fun q => w2 (five_four.mpr q)), if_neg x1, if_neg x2, if_neg c1, if_neg (fun q => c2 (twelve_11.mpr q)), if_neg (show ¬ va_up sc 2 (sc 2 + 1) 21 = 0 from r21), if_neg (show ¬ va_up sc 2 (sc 2 + 1) 25 = 3 from fun q => by have := (nI_eq (b := 3) (by omega) (by decide)).mp (a25.symm.trans q); omega)]
    rfl
  obtain ⟨wn, hw, rfl⟩ := w_nat (m := 4) (M := 4) rfl w1 (fun q => w2 (five_four.mpr q))
  obtain ⟨cn, hc, rfl⟩ := w_nat (m := 11) (M := 11) rfl c1 (fun q => c2 (twelve_11.mpr q))
  have x0 : ¬ x < 0 := by
    rw [Int32.lt_iff_toInt_lt] at x1 ⊢
    have e0 : (1 : Int32).toInt = 1 := rfl
    have e1 : (0 : Int32).toInt = 0 := rfl
    omega
  obtain ⟨xn, hx9, rfl⟩ := w_nat (m := 9) (M := 9) rfl x0 x2
  have hx1 : 1 ≤ xn := by
    rw [Int32.lt_iff_toInt_lt, nI_toInt (by omega)] at x1
    have e0 : (1 : Int32).toInt = 1 := rfl
    omega
  refine ⟨Hn, a25, hH3, by rw [mt, a2, a25], ?_⟩
  rw [mt, a2, nI_clamp (show Hn < 2 ^ 31 by omega), z_buK wn (by omega)]
  refine ⟨hi, fun k => if k = Hn then wn else kk k, fun k => if k = Hn then xn else dd k, fun k => if k = Hn then cn else FF k, cc, hh, R, H, W, Hn + 1, Sn, Pn, ⟨⟨a16, a21, hR⟩, b2, b3, ⟨by show nI Hn + 1 = _; exact nI_1 _, by show sc 25 + 1 = _; rw [a25]; exact nI_1 _, hH2⟩, b5, b6, b7, b8, b9, fun j hj => ?_, fun k hk hk3 => ?_, b12⟩, ?_⟩
  · show ((if j = Hn then wn else kk j) < 5 ∧ 1 ≤ (if j = Hn then xn else dd j) ∧ (if j = Hn then xn else dd j) ≤ 9 ∧ (if j = Hn then cn else FF j) < 12) ∧ upd (upd (upd (upd (ar 30) (4 * Hn + 0) (nI wn)) (4 * Hn + 1) (nI xn)) (4 * Hn + 2) (nI cn)) (4 * Hn + 3) 0 (4 * j + 0) = nI (if j = Hn then wn else kk j) ∧ upd (upd (upd (upd (ar 30) (4 * Hn + 0) (nI wn)) (4 * Hn + 1) (nI xn)) (4 * Hn + 2) (nI cn)) (4 * Hn + 3) 0 (4 * j + 1) = nI (if j = Hn then xn else dd j) ∧ upd (upd (upd (upd (ar 30) (4 * Hn + 0) (nI wn)) (4 * Hn + 1) (nI xn)) (4 * Hn + 2) (nI cn)) (4 * Hn + 3) 0 (4 * j + 2) = nI (if j = Hn then cn else FF j) ∧ va_up hv Hn (some (wn, nI xn, nI cn, 0)) j = some (if j = Hn then wn else kk j, nI (if j = Hn then xn else dd j), nI (if j = Hn then cn else FF j), upd (upd (upd (upd (ar 30) (4 * Hn + 0) (nI wn)) (4 * Hn + 1) (nI xn)) (4 * Hn + 2) (nI cn)) (4 * Hn + 3) 0 (4 * j + 3))
    by_cases e : j = Hn
    · subst e
      rw [if_pos rfl, if_pos rfl, if_pos rfl, upd_ne (show ¬ 4 * j + 0 = 4 * j + 3 by omega), upd_ne (show ¬ 4 * j + 0 = 4 * j + 2 by omega), upd_ne (show ¬ 4 * j + 0 = 4 * j + 1 by omega), upd_at, upd_ne (show ¬ 4 * j + 1 = 4 * j + 3 by omega), upd_ne (show ¬ 4 * j + 1 = 4 * j + 2 by omega), upd_at, upd_ne (show ¬ 4 * j + 2 = 4 * j + 3 by omega), upd_at, upd_at, hv_at]
      exact ⟨⟨by omega, hx1, hx9, by omega⟩, rfl, rfl, rfl, rfl⟩
    · rw [if_neg e, if_neg e, if_neg e, upd_ne (show ¬ 4 * j + 0 = 4 * Hn + 3 by omega), upd_ne (show ¬ 4 * j + 0 = 4 * Hn + 2 by omega), upd_ne (show ¬ 4 * j + 0 = 4 * Hn + 1 by omega), upd_ne (show ¬ 4 * j + 0 = 4 * Hn + 0 by omega), upd_ne (show ¬ 4 * j + 1 = 4 * Hn + 3 by omega), upd_ne (show ¬ 4 * j + 1 = 4 * Hn + 2 by omega), upd_ne (show ¬ 4 * j + 1 = 4 * Hn + 1 by omega), upd_ne (show ¬ 4 * j + 1 = 4 * Hn + 0 by omega), upd_ne (show ¬ 4 * j + 2 = 4 * Hn + 3 by omega), upd_ne (show ¬ 4 * j + 2 = 4 * Hn + 2 by omega), upd_ne (show ¬ 4 * j + 2 = 4 * Hn + 1 by omega), upd_ne (show ¬ 4 * j + 2 = 4 * Hn + 0 by omega), upd_ne (show ¬ 4 * j + 3 = 4 * Hn + 3 by omega), upd_ne (show ¬ 4 * j + 3 = 4 * Hn + 2 by omega), upd_ne (show ¬ 4 * j + 3 = 4 * Hn + 1 by omega), upd_ne (show ¬ 4 * j + 3 = 4 * Hn + 0 by omega), hv_ne e]
      exact b10 j (by omega)
  · rw [hv_ne (by omega)]; exact b11 k (by omega) hk3
  · obtain ⟨Q, e1, e2, e3⟩ := kp_cg k (sc' := va_up (va_up sc 2 (nI Hn + 1)) 25 (sc 25 + 1)) (ar' := va_up ar 30 (upd (upd (upd (upd (ar 30) (4 * Hn + 0) (nI wn)) (4 * Hn + 1) (nI xn)) (4 * Hn + 2) (nI cn)) (4 * Hn + 3) 0)) (fun i hi => by
      have q := (by decide : ∀ i, i ∈ [5, 6, 7, 8, 9, 24, 30, 31, 32, 33, 34] → ¬ i = 2 ∧ ¬ i = 25) i hi
      rw [up_s q.2, up_s q.1]) (fun j hj => up_a ((by decide : ∀ k, k ∈ [11, 12, 13, 16, 17, 38, 39] → ¬ k = 30) j hj))
    refine ⟨Q, e1, e2, e3.imp id (fun ⟨f1, f2, kH, kW, kHn, kSn, fF, kc, kh, g1, g2, g3, g4, g5, g6, g7⟩ => ⟨f1, f2, kH, kW, kHn, kSn, fF, kc, kh, by omega, g2, g3, g4, g5, fun k hk => ?_, g7⟩)⟩
    have ne : ¬ k = Hn := by omega
    show _ = nI (if k = Hn then wn else kk k) ∧ _ = nI (if k = Hn then xn else dd k) ∧ _
    rw [if_neg ne, if_neg ne]
    exact g6 k hk
end R7
