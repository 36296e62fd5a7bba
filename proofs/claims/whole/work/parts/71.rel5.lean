/-! Junes -/
theorem drS_nat (s : Int32) : ∃ n, n < 2 ^ 31 ∧ drS s = nI n := by
  have hb : (drS s).toBitVec.msb = false := by
    rw [BitVec.msb_eq_getLsbD_last]
    unfold drS
    generalize (((1103515245 : Int64) * Int32.toInt64 s) + 12345) = y
    rw [Int64.toBitVec_toInt32, BitVec.getLsbD_signExtend, if_pos (by decide), Int64.toBitVec_and, BitVec.getLsbD_and, show ((2147483647 : Int64).toBitVec).getLsbD (32 - 1) = false by decide]
    simp
  have h0 : ¬ drS s < 0 := by
    rw [Int32.lt_iff_toInt_lt]
    have e : (drS s).toInt = ((drS s).toBitVec.toNat : Int) := BitVec.toInt_eq_toNat_of_msb hb
    rw [e]
    have e0 : (0 : Int32).toInt = 0 := rfl
    omega
  exact nI_of h0
theorem mdr_nat (s : Int32) {m : Nat} (h0 : 0 < m) (hm : m ≤ 5) : ∃ i, i < m ∧ mdrV s (nI m) = nI i ∧ drV s (nI m) = nI i := by
  obtain ⟨n, hn, e⟩ := drS_nat s
  have e1 : drS s / 65536 = nI (n / 65536) := by rw [e]; exact pk_div (a := n) (d := 65536) hn (by decide) (by decide)
  have e2 : drS s / 65536 - drS s / 65536 / nI m * nI m = nI (n / 65536 % m) := by rw [e1]; exact pk_rem (by omega) h0 (by omega)
  refine ⟨n / 65536 % m, Nat.mod_lt _ h0, e2, ?_⟩
  unfold drV
  rw [if_neg (nI_nle h0 (by omega))]
  exact e2
def juR (kk dd : Nat → Nat) (Hn b : Nat) (q : JS) (p : Int32 × Int32 × Int32 × (Nat → Int32)) : Prop := q.2.2.1 = p.1 ∧ q.2.1 = p.2.1 ∧ (∃ h, h ≤ b ∧ q.1 = nI h ∧ p.2.2.1 = nI h) ∧ ∀ k, k < Hn → p.2.2.2 (4 * k + 0) = nI (kk k) ∧ p.2.2.2 (4 * k + 1) = nI (dd k) ∧ ∃ F, F < 12 ∧ p.2.2.2 (4 * k + 2) = nI F ∧ q.2.2.2.2 k = nI F
section R5
variable {sc : Nat → Int32} {ar : Nat → Nat → Int32} {hv : HV} {hi kk dd FF cc hh : Nat → Nat} {R H W Hn Sn Pn : Nat}
theorem ju_step (h : zRL sc ar hv hi kk dd FF cc hh R H W Hn Sn Pn) {b j : Nat} {q : JS} {p : Int32 × Int32 × Int32 × (Nat → Int32)} (hb : b ≤ 2000) (hj : j < Hn) (a : juR kk dd Hn b q p) : juR kk dd Hn (b + 4) (juH (ar 24) (nI R) (kk j) (nI (dd j)) j q) (jrS (ar 29) (nI R) j p) := by
  obtain ⟨⟨-, -, hR⟩, -, -, ⟨-, -, hH3⟩, -, -, -, ⟨hp, hp'⟩, -, hrow, -⟩ := h
  obtain ⟨⟨k5, d1, d9, -⟩, -⟩ := hrow j hj
  obtain ⟨a1, a2, ⟨h, hh', a3, a4⟩, a5⟩ := a
  obtain ⟨r0, r1, F, hF, r2, c2⟩ := a5 j hj
  obtain ⟨wd, hwd, m1, m2⟩ := mdr_nat p.2.1 (m := 5) (by decide) (by decide)
  obtain ⟨wy, hwy, m3, m4⟩ := mdr_nat (drS p.2.1) (m := 4) (by decide) (by decide)
  have m1' : mdrV p.2.1 5 = nI wd := m1
  have m2' : drV p.2.1 5 = nI wd := m2
  have m3' : mdrV (drS p.2.1) 4 = nI wy := m3
  have m4' : drV (drS p.2.1) 4 = nI wy := m4
  have hS4 := z_S4 (hi := hi) (R := R) (d := dd j) (c := F) (h := h) k5 hwy hwd
  unfold juH jrS
  rw [a2, m1', m2', m3', m4', a3, a4, c2, r2, z_ht hp hR hwd k5 d1 d9 hF hwy (show h < 2 ^ 30 by omega), z_mht r0 r1 hp' hR hwd k5 d1 d9 hF hwy (show h < 2 ^ 30 by omega)]
  by_cases s0 : zS hi R wd (kk j) (dd j) F wy h = 0
  · rw [if_pos ((z_O (by omega)).mpr s0), if_pos ((z_O (by omega)).mpr s0)]
    refine ⟨by show q.2.2.1 + 1 = p.1 + 1; rw [a1], rfl, ⟨h, by omega, rfl, rfl⟩, fun k hk => ?_⟩
    obtain ⟨t0, t1, F', hF', t2, t3⟩ := a5 k hk
    refine ⟨t0, t1, F', hF', t2, ?_⟩
    show upd q.2.2.2.2 j (nI F) k = nI F'
    by_cases e : k = j
    · subst e; rw [upd_at, ← c2, t3]
    · rw [upd_ne e]; exact t3
  · rw [if_neg (fun q => s0 ((z_O (by omega)).mp q)), if_neg (fun q => s0 ((z_O (by omega)).mp q)), show zO (zS hi R wd (kk j) (dd j) F wy h) = nI (zS hi R wd (kk j) (dd j) F wy h) from if_neg s0, z_be F hF wy hwy, z_mbe F hF wy hwy]
    have hB := zB_lt hF hwy s0
    rw [show zI (zB F wy) = nI (zB F wy) from if_neg (by omega)]
    refine ⟨a1, rfl, ⟨h + zS hi R wd (kk j) (dd j) F wy h, by omega, nI_add _ _, nI_add _ _⟩, fun k hk => ?_⟩
    obtain ⟨t0, t1, F', hF', t2, t3⟩ := a5 k hk
    show upd p.2.2.2 (4 * j + 2) (nI (zB F wy)) (4 * k + 0) = _ ∧ upd p.2.2.2 (4 * j + 2) (nI (zB F wy)) (4 * k + 1) = _ ∧ ∃ F', F' < 12 ∧ upd p.2.2.2 (4 * j + 2) (nI (zB F wy)) (4 * k + 2) = nI F' ∧ upd q.2.2.2.2 j (nI (zB F wy)) k = nI F'
    rw [upd_ne (by omega), upd_ne (by omega)]
    by_cases e : k = j
    · subst e
      rw [upd_at, upd_at]
      exact ⟨t0, t1, _, hB, rfl, rfl⟩
    · rw [upd_ne (by omega), upd_ne e]
      exact ⟨t0, t1, F', hF', t2, t3⟩
theorem ju_in (h : zRL sc ar hv hi kk dd FF cc hh R H W Hn Sn Pn) {b T : Nat} {q q0 : JS} {p0 : Int32 × Int32 × Int32 × (Nat → Int32)} (hb : b + 12 ≤ 2000) (a : juR kk dd Hn b q (jrN (ar 29) (nI R) Hn p0 (T * Hn))) : juR kk dd Hn (b + 12) (juI (ar 24) (nI R) hv q 3) (jrN (ar 29) (nI R) Hn p0 ((T + 1) * Hn)) := by
  have st := fun b j q p hb hj a => ju_step h (b := b) (j := j) (q := q) (p := p) hb hj a
  obtain ⟨-, -, -, ⟨-, -, hH3⟩, -, -, -, -, -, hrow, hno, -⟩ := h
  have up : ∀ j, j ≤ Hn → juR kk dd Hn (b + 4 * j) (juI (ar 24) (nI R) hv q j) (jrN (ar 29) (nI R) Hn p0 (T * Hn + j)) := by
    intro j
    induction j with
    | zero => intro _; exact a
    | succ j ih =>
      intro hj
      rw [juI, (hrow j (by omega)).2.2.2.2, ← Nat.add_assoc, jrN, Nat.mul_comm T Hn, Nat.mul_add_mod, Nat.mod_eq_of_lt (by omega), ← Nat.mul_comm T Hn]
      exact st (b + 4 * j) j _ _ (by omega) (by omega) (ih (by omega))
  have sty : ∀ n, Hn + n ≤ 3 → juI (ar 24) (nI R) hv q (Hn + n) = juI (ar 24) (nI R) hv q Hn := by
    intro n
    induction n with
    | zero => intro _; rfl
    | succ n ih =>
      intro hn
      rw [← Nat.add_assoc, juI, hno (Hn + n) (by omega) (by omega)]
      exact ih (by omega)
  have e := sty (3 - Hn) (by omega)
  rw [show Hn + (3 - Hn) = 3 by omega] at e
  rw [e, show (T + 1) * Hn = T * Hn + Hn by rw [Nat.add_mul, Nat.one_mul]]
  obtain ⟨u1, u2, ⟨g, u3, u4⟩, u5⟩ := up Hn (Nat.le_refl _)
  exact ⟨u1, u2, ⟨g, by omega, u4⟩, u5⟩
theorem ju_run (h : zRL sc ar hv hi kk dd FF cc hh R H W Hn Sn Pn) (s w0 : Int32) : ∀ T, T ≤ 20 → juR kk dd Hn (999 + 12 * T) (juT (ar 24) (nI R) hv (nI H, s, 0, w0, jbN hv (ar 23) 3) T) (jrN (ar 29) (nI R) Hn (0, s, nI H, ar 30) (T * Hn)) := by
  intro T
  induction T with
  | zero =>
    intro _
    obtain ⟨-, ⟨-, -, hH⟩, -, ⟨-, -, hH3⟩, -, -, -, -, -, hrow, hno, -⟩ := h
    rw [Nat.zero_mul]
    refine ⟨rfl, rfl, ⟨H, by omega, rfl, rfl⟩, fun k hk => ?_⟩
    obtain ⟨⟨-, -, -, hF⟩, e0, e1, e2, eh⟩ := hrow k hk
    refine ⟨e0, e1, FF k, hF, e2, ?_⟩
    show jbN hv (ar 23) 3 k = nI (FF k)
    have jb : ∀ n, k < n → n ≤ 3 → jbN hv (ar 23) n k = nI (FF k) := by
      intro n
      induction n with
      | zero => intro q; omega
      | succ n ih =>
        intro hkn hn3
        by_cases e : k = n
        · subst e; rw [jbN, eh]; exact upd_at
        · rw [jbN]
          rcases hv n with _ | q
          · show upd (jbN hv (ar 23) n) n (-1) k = _
            rw [upd_ne e]; exact ih (by omega) (by omega)
          · show upd (jbN hv (ar 23) n) n q.2.2.1 k = _
            rw [upd_ne e]; exact ih (by omega) (by omega)
    exact jb 3 (by omega) (by decide)
  | succ T ih =>
    intro hT
    rw [juT]
    exact ju_in h (b := 999 + 12 * T) (q0 := (nI H, s, 0, w0, jbN hv (ar 23) 3)) (by omega) (ih (by omega))
theorem ju_st (h : zRL sc ar hv hi kk dd FF cc hh R H W Hn Sn Pn) {b : Nat} {q : JS} {p : Int32 × Int32 × Int32 × (Nat → Int32)} (hb : b ≤ 2000) (a : juR kk dd Hn b q p) : jsN (ar 24) (nI R) q.1 hv q.2.2.2.2 3 = mstN (va_up sc 22 p.2.2.1) (va_up ar 30 p.2.2.2) Hn := by
  obtain ⟨⟨a16, a21, hR⟩, -, -, ⟨-, -, hH3⟩, -, -, -, ⟨hp, hp'⟩, -, hrow, hno, -⟩ := h
  obtain ⟨-, -, ⟨g, hg, a3, a4⟩, a5⟩ := a
  rw [a3, a4]
  have up : ∀ n, n ≤ Hn → jsN (ar 24) (nI R) (nI g) hv q.2.2.2.2 n = mstN (va_up sc 22 (nI g)) (va_up ar 30 p.2.2.2) n := by
    intro n
    induction n with
    | zero => intro _; rfl
    | succ n ih =>
      intro hn
      obtain ⟨⟨k5, d1, d9, -⟩, -, -, -, eh⟩ := hrow n (by omega)
      obtain ⟨t0, t1, F, hF, t2, t3⟩ := a5 n (by omega)
      rw [jsN, mstN, eh, ih (by omega)]
      unfold mstF
      show (if flP (ar 24) (nI R) (kk n) (nI (dd n)) (q.2.2.2.2 n) (nI g) then mstN (va_up sc 22 (nI g)) (va_up ar 30 p.2.2.2) n else mstN (va_up sc 22 (nI g)) (va_up ar 30 p.2.2.2) n + 1) = mstN (va_up sc 22 (nI g)) (va_up ar 30 p.2.2.2) n + if (if mflF (ar 29) p.2.2.2 n (p.2.2.2 (4 * n + 2)) (nI g) (sc 21) = 0 then (1 : Int32) else 0) = 0 then 0 else 1
      rw [t3, t2, a21, z_mfl t0 t1 hp' hR k5 d1 d9 hF (show g < 2 ^ 31 by omega)]
      by_cases z : zF hi R (zC (kk n) (dd n)) F g
      · rw [if_pos ((z_fl hp hR k5 d1 d9 hF (by omega)).mpr z), if_pos z, if_neg (show ¬ (1 : Int32) = 0 by decide), if_pos (show (0 : Int32) = 0 from rfl)]; exact (Int32.add_zero _).symm
      · rw [if_neg (fun w => z ((z_fl hp hR k5 d1 d9 hF (by omega)).mp w)), if_neg z, if_pos (show (0 : Int32) = 0 from rfl), if_neg (show ¬ (1 : Int32) = 0 by decide)]
  have sty : ∀ n, Hn + n ≤ 3 → jsN (ar 24) (nI R) (nI g) hv q.2.2.2.2 (Hn + n) = jsN (ar 24) (nI R) (nI g) hv q.2.2.2.2 Hn := by
    intro n
    induction n with
    | zero => intro _; rfl
    | succ n ih =>
      intro hn
      rw [← Nat.add_assoc, jsN, hno (Hn + n) (by omega) (by omega)]
      exact ih (by omega)
  have e := sty (3 - Hn) (by omega)
  rw [show Hn + (3 - Hn) = 3 by omega] at e
  rw [e, up Hn (Nat.le_refl _)]
theorem eq_junes (h : zRL sc ar hv hi kk dd FF cc hh R H W Hn Sn Pn) (t s w : Int32) : mjuF sc ar Hn t s w (jnF sc ar hv t s w) := by
  have hrun := fun s w0 T hT => ju_run h s w0 T hT
  have hst := fun b q p hb a => ju_st h (b := b) (q := q) (p := p) hb a
  obtain ⟨⟨a16, a21, hR⟩, ⟨a3, a22, hH⟩, -⟩ := h
  unfold mjuF jnF
  by_cases t1 : t < 1
  · rw [if_pos t1, if_pos t1]
  rw [if_neg t1, if_neg t1]
  by_cases t2 : 20 < t
  · rw [if_pos t2, if_pos t2]
  rw [if_neg t2, if_neg t2]
  by_cases s1 : s < 0
  · rw [if_pos s1, if_pos s1]
  rw [if_neg s1, if_neg s1]
  by_cases w1 : w < 0
  · rw [if_pos w1, if_pos w1]
  rw [if_neg w1, if_neg w1]
  by_cases w2 : 3 < w
  · rw [if_pos w2, if_pos w2]
  rw [if_neg w2, if_neg w2, a16, a21]
  by_cases r0 : R = 0
  · rw [if_pos ((z_le0 hR).mpr r0), if_pos ((z_eq0 hR).mpr r0)]
  rw [if_neg (fun q => r0 ((z_le0 hR).mp q)), if_neg (fun q => r0 ((z_eq0 hR).mp q))]
  obtain ⟨T, hT, rfl⟩ := ju_T t1 t2
  have r := hrun s (sc 19) T hT
  unfold jnQ
  rw [a16, a3, a22, nI_clamp (show T < 2 ^ 31 by omega)]
  have j1 := hst _ _ _ (show 999 + 12 * T ≤ 2000 by omega) r
  generalize juT (ar 24) (nI R) hv (nI H, s, 0, sc 19, jbN hv (ar 23) 3) T = q at r j1 ⊢
  generalize jrN (ar 29) (nI R) Hn (0, s, nI H, ar 30) (T * Hn) = p at r j1 ⊢
  obtain ⟨b1, b2, ⟨g, -, b3, b4⟩, -⟩ := r
  by_cases e0 : w = 0
  · rw [if_pos e0, if_pos e0]; exact b1
  rw [if_neg e0, if_neg e0]
  by_cases e1 : w = 1
  · rw [if_pos e1, if_pos e1]; exact j1
  rw [if_neg e1, if_neg e1]
  by_cases e2 : w = 2
  · rw [if_pos e2, if_pos e2]; exact b3.trans b4.symm
  rw [if_neg e2, if_neg e2]; exact b2
end R5
