/-- what was seen, on both sides -/
def zSe (ar : Nat → Nat → Int32) (Sn : Nat) (cc hh : Nat → Nat) : Prop := ∀ i, i < Sn → ar 35 (3 * i + 0) = ar 4 i ∧ ar 35 (3 * i + 1) = ar 5 i ∧ ar 35 (3 * i + 2) = ar 6 i ∧ ar 5 i = nI (cc i) ∧ cc i < 12 ∧ ar 6 i = nI (hh i) ∧ hh i ≤ 40
theorem ms_4095 {r : Nat → Int32} {x h : Int32} {n : Nat} : msaN r x h n &&& 4095 = msaN r x h n := by
  apply b_ext
  intro i hi
  rw [b_and, b_4095]
  by_cases q : i < 12
  · rw [decide_eq_true q, Bool.and_true]
  · rw [ms_hi (by omega), Bool.false_and]
theorem mib_0 {r : Nat → Int32} {x a z : Int32} : ∀ n, mibN r x a z n = 0 ↔ ∀ i, i < n → ¬ (r (3 * i + 0) = x ∧ a < r (3 * i + 2) ∧ r (3 * i + 2) < z) := by
  intro n
  induction n with
  | zero => exact ⟨fun _ i hi => absurd hi (Nat.not_lt_zero i), fun _ => rfl⟩
  | succ n ih =>
    rw [mibN]
    by_cases h0 : mibN r x a z n = 0
    · rw [if_pos h0]
      have ih := ih.mp h0
      have key : (if r (3 * n + 0) = x then (if a < r (3 * n + 2) then (if r (3 * n + 2) < z then (1 : Int32) else 0) else 0) else 0) = 0 ↔ ¬ (r (3 * n + 0) = x ∧ a < r (3 * n + 2) ∧ r (3 * n + 2) < z) := by
        by_cases q1 : r (3 * n + 0) = x
        · rw [if_pos q1]
          by_cases q2 : a < r (3 * n + 2)
          · rw [if_pos q2]
            by_cases q3 : r (3 * n + 2) < z
            · rw [if_pos q3]; exact ⟨fun w => absurd w (by decide), fun w => absurd ⟨q1, q2, q3⟩ w⟩
            · rw [if_neg q3]; exact ⟨fun _ w => q3 w.2.2, fun _ => rfl⟩
          · rw [if_neg q2]; exact ⟨fun _ w => q2 w.2.1, fun _ => rfl⟩
        · rw [if_neg q1]; exact ⟨fun _ w => q1 w.1, fun _ => rfl⟩
      rw [key]
      constructor
      · intro w i hi
        rcases Nat.lt_or_eq_of_le (Nat.le_of_lt_succ hi) with q | q
        · exact ih i q
        · subst q; exact w
      · intro w; exact w n (Nat.lt_succ_self n)
    · rw [if_neg h0]
      exact ⟨fun w => absurd w (by decide), fun w => absurd (ih.mpr (fun i hi => w i (by omega))) h0⟩
section SE
variable {ar : Nat → Nat → Int32} {Sn : Nat} {cc hh : Nat → Nat} {x : Int32}
theorem ms_full (Z : zSe ar Sn cc hh) {j : Nat} (hj : j ≤ 40) : ∀ n, n ≤ Sn → (msaN (ar 35) x (nI j) n = 4095 ↔ ∀ i, i < n → ¬ (ar 4 i = x ∧ hh i = j)) := by
  intro n
  induction n with
  | zero => intro _; exact ⟨fun _ i hi => absurd hi (Nat.not_lt_zero i), fun _ => rfl⟩
  | succ n ih =>
    intro hn
    obtain ⟨z0, z1, z2, z3, z4, z5, z6⟩ := Z n (by omega)
    have ih := ih (by omega)
    rw [msaN, z0, z1, z2, z3, z5]
    have e : (nI (hh n) = nI j) ↔ hh n = j := nI_eq (by omega) (by omega)
    by_cases q1 : ar 4 n = x
    · rw [if_pos q1]
      by_cases q2 : hh n = j
      · rw [if_pos (e.mpr q2)]
        constructor
        · intro w
          exfalso
          have hb : ∀ c, c < 12 → bt ((1 : Int32) <<< (nI (cc n) &&& 31)) c = true := fun c hc => by
            have h1 : bt (msaN (ar 35) x (nI j) n &&& ((1 : Int32) <<< (nI (cc n) &&& 31))) c = true := by rw [w, b_4095]; exact decide_eq_true hc
            rw [b_and] at h1
            exact (Bool.and_eq_true_iff.mp h1).2
          have h0 := hb 0 (by omega)
          have h1 := hb 1 (by omega)
          rw [z_one (by omega) (by omega)] at h0 h1
          have := of_decide_eq_true h0
          have := of_decide_eq_true h1
          omega
        · intro w; exact absurd ⟨q1, q2⟩ (w n (Nat.lt_succ_self n))
      · rw [if_neg (fun w => q2 (e.mp w)), ms_4095, ih]
        exact ⟨fun w i hi => (Nat.lt_or_eq_of_le (Nat.le_of_lt_succ hi)).elim (w i) (fun q => by rw [q]; exact fun v => q2 v.2), fun w i hi => w i (by omega)⟩
    · rw [if_neg q1, ms_4095, ih]
      exact ⟨fun w i hi => (Nat.lt_or_eq_of_le (Nat.le_of_lt_succ hi)).elim (w i) (fun q => by rw [q]; exact fun v => q1 v.1), fun w i hi => w i (by omega)⟩
theorem lk_N (Z : zSe ar Sn cc hh) (hS6 : Sn ≤ 6) {my : Nat → Int32} (hmy : ∀ h, h < 41 → my h = 4095) : ∀ n, n ≤ Sn →
    (∀ h, h < 41 → (lkN ar (nI Sn) x my n).2 h = msaN (ar 35) x (nI h) n) ∧ ∃ L, L ≤ 40 ∧ (lkN ar (nI Sn) x my n).1 = nI L ∧ (∀ i, i < n → ar 4 i = x → hh i ≤ L) ∧ (L = 0 ∨ ∃ i, i < n ∧ ar 4 i = x ∧ hh i = L) := by
  intro n
  induction n with
  | zero => intro _; exact ⟨hmy, 0, by omega, rfl, fun i hi => absurd hi (Nat.not_lt_zero i), Or.inl rfl⟩
  | succ n ih =>
    intro hn
    obtain ⟨z0, z1, z2, z3, z4, z5, z6⟩ := Z n (by omega)
    obtain ⟨a1, L, hL, e1, a2, a3⟩ := ih (by omega)
    rw [lkN, if_neg (nI_ge (show n < Sn by omega) (by omega))]
    generalize lkN ar (nI Sn) x my n = A at a1 e1 ⊢
    by_cases q1 : ar 4 n = x
    · rw [if_pos q1, z5, if_neg (nI_pos (by omega)), if_neg (show ¬ (41 : Int32) ≤ nI (hh n) from nI_ge (b := 41) (by omega) (by decide)), nI_clamp (show hh n < 2 ^ 31 by omega), e1]
      refine ⟨fun h hh' => ?_, ?_⟩
      · show upd A.2 (hh n) (A.2 (hh n) &&& ((1 : Int32) <<< (ar 5 n &&& 31))) h = _
        rw [msaN, z0, if_pos q1, z2, z5, z1]
        by_cases q2 : h = hh n
        · subst q2
          rw [upd_at, if_pos rfl, a1 _ hh']
        · rw [upd_ne q2, if_neg (fun w => q2 ((nI_eq (by omega) (by omega)).mp w).symm), ms_4095, a1 h hh']
      · show ∃ L', L' ≤ 40 ∧ (if nI L ≤ nI (hh n) then nI (hh n) else nI L) = nI L' ∧ _ ∧ _
        by_cases q2 : L ≤ hh n
        · rw [if_pos (nI_le q2 (by omega))]
          refine ⟨hh n, z6, rfl, fun i hi hx => ?_, Or.inr ⟨n, by omega, q1, rfl⟩⟩
          rcases Nat.lt_or_eq_of_le (Nat.le_of_lt_succ hi) with q | q
          · exact Nat.le_trans (a2 i q hx) q2
          · rw [q]; exact Nat.le_refl _
        · rw [if_neg (nI_ge (by omega) (by omega))]
          refine ⟨L, hL, rfl, fun i hi hx => ?_, a3.elim Or.inl (fun ⟨i, hi, w⟩ => Or.inr ⟨i, by omega, w⟩)⟩
          rcases Nat.lt_or_eq_of_le (Nat.le_of_lt_succ hi) with q | q
          · exact a2 i q hx
          · rw [q]; omega
    · rw [if_neg q1]
      refine ⟨fun h hh' => ?_, L, hL, e1, fun i hi hx => ?_, a3.elim Or.inl (fun ⟨i, hi, w⟩ => Or.inr ⟨i, by omega, w⟩)⟩
      · rw [msaN, z0, if_neg q1, ms_4095]; exact a1 h hh'
      · rcases Nat.lt_or_eq_of_le (Nat.le_of_lt_succ hi) with q | q
        · exact a2 i q hx
        · rw [q] at hx; exact absurd hx q1
theorem lk_6 {my : Nat → Int32} (hS6 : Sn ≤ 6) : lkN ar (nI Sn) x my 6 = lkN ar (nI Sn) x my Sn := by
  rcases Nat.lt_or_ge Sn 6 with h | h
  · exact lkN_stop h (Int32.le_refl _)
  · rw [show Sn = 6 by omega]
theorem st_eq {hi : Nat → Nat} {R W k d L : Nat} {cn a7 : Nat → Int32} (Z : zSe ar Sn cc hh) (hS6 : Sn ≤ 6) (hp : zP (ar 24) hi) (hR : R ≤ 9) (hW : W < 5) (hk : k < 5) (hd : 1 ≤ d) (hd9 : d ≤ 9) (hL : L ≤ 40) (eL : (lkN ar (nI Sn) x (fillN 4095 a7 41) 6).1 = nI L) :
    csD (ar 24) (nI R) (nI W) k (nI d) (lkN ar (nI Sn) x (fillN 4095 a7 41) 6).2 L cn (L + 1) 0 = stB (fun c => stQ hi R W k d (ar 35) x Sn c) 12 := by
  rw [lk_6 hS6] at eL ⊢
  obtain ⟨m1, L', hL', e', m2, m3⟩ := lk_N (x := x) Z hS6 (my := fillN 4095 a7 41) (fun h hh' => z_fill 4095 a7 41 h hh') Sn (Nat.le_refl _)
  have : L = L' := (nI_eq (by omega) (by omega)).mp (eL.symm.trans e')
  subst this
  generalize (lkN ar (nI Sn) x (fillN 4095 a7 41) Sn).2 = my at m1 ⊢
  have un : ∀ h s, 1 ≤ s → h + s ≤ L → (unA my h (s - 1) ↔ ¬ msB (ar 35) x Sn h (h + s)) := by
    intro h s hs hle
    unfold unA msB
    rw [Classical.not_not, mib_0]
    constructor
    · intro w i hi q
      obtain ⟨z0, z1, z2, z3, z4, z5, z6⟩ := Z i hi
      rw [z0, z2, z5] at q
      have q2 := (nI_ltI (by omega) (by omega)).mp q.2.1
      have q3 := (nI_ltI (by omega) (by omega)).mp q.2.2
      have := w (hh i - h - 1) (by omega) (by omega)
      rw [show h + 1 + (hh i - h - 1) = hh i by omega, m1 _ (by omega)] at this
      exact (ms_full Z (by omega) Sn (Nat.le_refl _)).mp this i hi ⟨q.1, rfl⟩
    · intro w i hi h41
      rw [m1 _ h41]
      refine (ms_full Z (by omega) Sn (Nat.le_refl _)).mpr (fun j hj q => w j hj ?_)
      obtain ⟨z0, z1, z2, z3, z4, z5, z6⟩ := Z j hj
      rw [z0, z2, z5, q.2]
      exact ⟨q.1, nI_lt (by omega) (by omega), nI_lt (by omega) (by omega)⟩
  apply b_ext
  intro c hc
  by_cases h12 : c < 12
  · have K := st_iff (M := msM (ar 35) x Sn) (B := msB (ar 35) x Sn) (g := fun c i h => zS hi R W k d c i h) (c0 := c) (K := fun h c => bt (csD (ar 24) (nI R) (nI W) k (nI d) my L cn (L + 1) h) c = true) hL (fun c i h hc hi4 h0 => zB_lt hc hi4 h0) (fun h c hh' hc => by
      show (bt (csD (ar 24) (nI R) (nI W) k (nI d) my L cn (L + 1) h) c = true ↔ _)
      rw [cs_iff hp hR hW hk hd hd9 hL hh' hc, m1 h (by omega)]
      have x2 : ∀ i, (¬ zS hi R W k d c i h = 0 ∧ unA my h (zS hi R W k d c i h - 1) ∧ h + zS hi R W k d c i h ≤ L ∧ bt (csD (ar 24) (nI R) (nI W) k (nI d) my L cn (L + 1) (h + zS hi R W k d c i h)) (zB c i) = true) ↔ (¬ zS hi R W k d c i h = 0 ∧ ¬ msB (ar 35) x Sn h (h + zS hi R W k d c i h) ∧ h + zS hi R W k d c i h ≤ L ∧ bt (csD (ar 24) (nI R) (nI W) k (nI d) my L cn (L + 1) (h + zS hi R W k d c i h)) (zB c i) = true) := fun i => by
        by_cases s0 : zS hi R W k d c i h = 0
        · exact ⟨fun q => absurd s0 q.1, fun q => absurd s0 q.1⟩
        · by_cases q : h + zS hi R W k d c i h ≤ L
          · rw [un h _ (by omega) q]
          · exact ⟨fun w => absurd w.2.2.1 q, fun w => absurd w.2.2.1 q⟩
      constructor
      · rintro ⟨a, b | b | ⟨i, hi4, b⟩⟩
        · exact ⟨a, Or.inl b⟩
        · exact ⟨a, Or.inr (Or.inl b)⟩
        · exact ⟨a, Or.inr (Or.inr ⟨i, hi4, (x2 i).mp b⟩)⟩
      · rintro ⟨a, b | b | ⟨i, hi4, b⟩⟩
        · exact ⟨a, Or.inl b⟩
        · exact ⟨a, Or.inr (Or.inl b)⟩
        · exact ⟨a, Or.inr (Or.inr ⟨i, hi4, (x2 i).mpr b⟩)⟩) (fun h c h1 h2 hc => by
      show bt (msaN (ar 35) x (nI h) Sn) c = true
      rw [(ms_full Z h2 Sn (Nat.le_refl _)).mpr (fun i hi q => by have := m2 i hi q.1; omega), b_4095]
      exact decide_eq_true hc) (by
      rcases m3 with q | ⟨i, hi, q1, q2⟩
      · exact Or.inl q
      · refine Or.inr (fun a z h1 h2 h3 w => ?_)
        obtain ⟨z0, z1, z2, z3, z4, z5, z6⟩ := Z i hi
        refine (mib_0 Sn).mp w i hi ?_
        rw [z0, z2, z5, q2]
        exact ⟨q1, nI_lt h1 (by omega), nI_lt h2 (by omega)⟩) h12
    have S := stB_bt (P := fun c => stQ hi R W k d (ar 35) x Sn c) 12 c (by omega) hc
    have : bt (csD (ar 24) (nI R) (nI W) k (nI d) my L cn (L + 1) 0) c = true ↔ bt (stB (fun c => stQ hi R W k d (ar 35) x Sn c) 12) c = true := by
      rw [S]
      exact ⟨fun w => ⟨h12, K.mp w⟩, fun w => K.mpr w.2⟩
    cases h1 : bt (csD (ar 24) (nI R) (nI W) k (nI d) my L cn (L + 1) 0) c with
    | true => exact (this.mp h1).symm
    | false =>
      cases h2 : bt (stB (fun c => stQ hi R W k d (ar 35) x Sn c) 12) c with
      | false => rfl
      | true => rw [this.mpr h2] at h1; exact absurd h1 (by decide)
  · rw [cs_big hp hR hW hk hd hd9 hL hc (by omega)]
    cases h2 : bt (stB (fun c => stQ hi R W k d (ar 35) x Sn c) 12) c with
    | false => rfl
    | true => exact absurd ((stB_bt 12 c (by omega) hc).mp h2).1 h12
end SE
