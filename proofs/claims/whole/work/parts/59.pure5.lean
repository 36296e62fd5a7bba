/-! where one can have set out: the reference's rows by the hour, as bits -/
def csP (r : Nat → Int32) (x : Int32) (Sn h : Nat) (L : Nat → Int32) : Nat → Int32 := upd (upd L h (L h &&& msaN r x (nI h) Sn)) (h + 1) ((upd L h (L h &&& msaN r x (nI h) Sn)) (h + 1) ||| (upd L h (L h &&& msaN r x (nI h) Sn)) h)
def csE (r : Nat → Int32) (x : Int32) (Sn : Nat) (g : Nat → Nat → Nat → Nat) (h : Nat) (L : Nat → Int32) : Nat → (Nat → Int32)
  | 0 => L
  | i + 1 => if (csE r x Sn g h L i h >>> (nI (i / 4) &&& 31)) &&& 1 = 1 then (if g (i / 4) (i % 4) h = 0 then csE r x Sn g h L i else if mibN r x (nI h) (nI (h + g (i / 4) (i % 4) h)) Sn = 0 then
      upd (csE r x Sn g h L i) (h + g (i / 4) (i % 4) h) (csE r x Sn g h L i (h + g (i / 4) (i % 4) h) ||| ((1 : Int32) <<< (nI (zB (i / 4) (i % 4)) &&& 31))) else csE r x Sn g h L i) else csE r x Sn g h L i
def csS (r : Nat → Int32) (x : Int32) (Sn : Nat) (g : Nat → Nat → Nat → Nat) (Ni : Nat) (L : Nat → Int32) : Nat → (Nat → Int32)
  | 0 => L
  | h + 1 => csE r x Sn g h (csP r x Sn h (csS r x Sn g Ni L h)) Ni
def fwN (M : Nat → Nat → Prop) (B : Nat → Nat → Prop) (g : Nat → Nat → Nat → Nat) (c0 : Nat) : Nat → Nat → Nat → Prop
  | 0 => fun j c => j = 0 ∧ c = c0
  | n + 1 => fun j c => if j ≤ n then (fwN M B g c0 n j c ∧ (j = n → M n c)) else
      fwN M B g c0 n j c ∨ (j = n + 1 ∧ fwN M B g c0 n n c ∧ M n c) ∨ ∃ c' i, c' < 12 ∧ i < 4 ∧ fwN M B g c0 n n c' ∧ M n c' ∧ ¬ g c' i n = 0 ∧ n + g c' i n = j ∧ zB c' i = c ∧ ¬ B n j
theorem fwN_s {M B : Nat → Nat → Prop} {g : Nat → Nat → Nat → Nat} {c0 n j c : Nat} : fwN M B g c0 (n + 1) j c = if j ≤ n then (fwN M B g c0 n j c ∧ (j = n → M n c)) else
      fwN M B g c0 n j c ∨ (j = n + 1 ∧ fwN M B g c0 n n c ∧ M n c) ∨ ∃ c' i, c' < 12 ∧ i < 4 ∧ fwN M B g c0 n n c' ∧ M n c' ∧ ¬ g c' i n = 0 ∧ n + g c' i n = j ∧ zB c' i = c ∧ ¬ B n j := rfl
def msM (r : Nat → Int32) (x : Int32) (Sn : Nat) (h c : Nat) : Prop := bt (msaN r x (nI h) Sn) c = true
def msB (r : Nat → Int32) (x : Int32) (Sn : Nat) (a z : Nat) : Prop := ¬ mibN r x (nI a) (nI z) Sn = 0
theorem b_4095 (i : Nat) : bt 4095 i = decide (i < 12) := by
  rcases Nat.lt_or_ge i 32 with h | h
  · exact (by decide +kernel : ∀ i, i < 32 → bt 4095 i = decide (i < 12)) i h
  · rw [b_big h, decide_eq_false (by omega)]
theorem ms_hi {r : Nat → Int32} {x h : Int32} {c : Nat} (hc : 12 ≤ c) : ∀ n, bt (msaN r x h n) c = false := by
  intro n
  induction n with
  | zero => rw [msaN, b_4095, decide_eq_false (by omega)]
  | succ n ih => rw [msaN, b_and, ih, Bool.false_and]
section CS
variable {r : Nat → Int32} {x : Int32} {Sn : Nat} {g : Nat → Nat → Nat → Nat}
theorem cs_E (hg4 : ∀ c i h, c < 12 → i < 4 → g c i h ≤ 4) (hgB : ∀ c i h, c < 12 → i < 4 → ¬ g c i h = 0 → zB c i < 12) {h : Nat} (hh : h ≤ 40) {L : Nat → Int32} : ∀ i, i ≤ 48 →
    (∀ j, j ≤ h → csE r x Sn g h L i j = L j) ∧ ∀ j c, h < j → c < 12 → (bt (csE r x Sn g h L i j) c = true ↔ bt (L j) c = true ∨ ∃ e, e < i ∧ bt (L h) (e / 4) = true ∧ ¬ g (e / 4) (e % 4) h = 0 ∧ h + g (e / 4) (e % 4) h = j ∧ zB (e / 4) (e % 4) = c ∧ ¬ msB r x Sn h j) := by
  intro i
  induction i with
  | zero => intro _; exact ⟨fun _ _ => rfl, fun j c _ _ => ⟨fun q => Or.inl q, fun q => q.elim id (fun ⟨e, he, _⟩ => absurd he (Nat.not_lt_zero e))⟩⟩
  | succ i ih =>
    intro hi
    obtain ⟨a1, a2⟩ := ih (by omega)
    have eh := a1 h (Nat.le_refl _)
    have hc : i / 4 < 12 := by omega
    have hw : i % 4 < 4 := Nat.mod_lt _ (by decide)
    rw [csE]
    generalize csE r x Sn g h L i = A at a1 a2 eh ⊢
    rw [eh]
    -- nothing new at i
    have same : (¬ (bt (L h) (i / 4) = true ∧ ¬ g (i / 4) (i % 4) h = 0 ∧ ¬ msB r x Sn h (h + g (i / 4) (i % 4) h))) → ((∀ j, j ≤ h → A j = L j) ∧ ∀ j c, h < j → c < 12 → (bt (A j) c = true ↔ bt (L j) c = true ∨ ∃ e, e < i + 1 ∧ bt (L h) (e / 4) = true ∧ ¬ g (e / 4) (e % 4) h = 0 ∧ h + g (e / 4) (e % 4) h = j ∧ zB (e / 4) (e % 4) = c ∧ ¬ msB r x Sn h j)) := by
      intro hn
      refine ⟨a1, fun j c hj hc => ?_⟩
      rw [a2 j c hj hc]
      refine ⟨fun q => q.elim Or.inl (fun ⟨e, he, w⟩ => Or.inr ⟨e, by omega, w⟩), fun q => q.elim Or.inl (fun ⟨e, he, w1, w2, w3, w4, w5⟩ => ?_)⟩
      rcases Nat.lt_or_eq_of_le (Nat.le_of_lt_succ he) with h1 | h1
      · exact Or.inr ⟨e, h1, w1, w2, w3, w4, w5⟩
      · subst h1
        exact absurd ⟨w1, w2, by rw [w3]; exact w5⟩ hn
    by_cases q1 : bt (L h) (i / 4) = true
    · rw [if_pos ((z_bit1 (by omega)).mpr q1)]
      by_cases q2 : g (i / 4) (i % 4) h = 0
      · rw [if_pos q2]; exact same (fun w => w.2.1 q2)
      · rw [if_neg q2]
        by_cases q3 : mibN r x (nI h) (nI (h + g (i / 4) (i % 4) h)) Sn = 0
        · rw [if_pos q3]
          have hB := hgB _ _ h hc hw q2
          have h4 := hg4 (i / 4) (i % 4) h hc hw
          refine ⟨fun j hj => by rw [upd_ne (by omega)]; exact a1 j hj, fun j c hj hc' => ?_⟩
          have nb : ¬ msB r x Sn h (h + g (i / 4) (i % 4) h) := fun w => w q3
          by_cases ej : j = h + g (i / 4) (i % 4) h
          · subst ej
            rw [upd_at, b_or, z_one (by omega) (by omega)]
            have := a2 _ c hj hc'
            constructor
            · intro q
              rcases Bool.or_eq_true_iff.mp q with q | q
              · rcases this.mp q with w | ⟨e, he, w⟩
                · exact Or.inl w
                · exact Or.inr ⟨e, by omega, w⟩
              · exact Or.inr ⟨i, by omega, q1, q2, rfl, (of_decide_eq_true q).symm, nb⟩
            · intro q
              apply Bool.or_eq_true_iff.mpr
              rcases q with w | ⟨e, he, w1, w2, w3, w4, w5⟩
              · exact Or.inl (this.mpr (Or.inl w))
              · rcases Nat.lt_or_eq_of_le (Nat.le_of_lt_succ he) with h1 | h1
                · exact Or.inl (this.mpr (Or.inr ⟨e, h1, w1, w2, w3, w4, w5⟩))
                · subst h1; exact Or.inr (decide_eq_true w4.symm)
          · rw [upd_ne ej, a2 j c hj hc']
            refine ⟨fun q => q.elim Or.inl (fun ⟨e, he, w⟩ => Or.inr ⟨e, by omega, w⟩), fun q => q.elim Or.inl (fun ⟨e, he, w1, w2, w3, w4, w5⟩ => ?_)⟩
            rcases Nat.lt_or_eq_of_le (Nat.le_of_lt_succ he) with h1 | h1
            · exact Or.inr ⟨e, h1, w1, w2, w3, w4, w5⟩
            · subst h1; exact absurd w3.symm ej
        · rw [if_neg q3]; exact same (fun w => w.2.2 q3)
    · rw [if_neg (fun w => q1 ((z_bit1 (by omega)).mp w))]
      exact same (fun w => q1 w.1)
theorem cs_P {L : Nat → Int32} {h : Nat} : csP r x Sn h L h = L h &&& msaN r x (nI h) Sn ∧ csP r x Sn h L (h + 1) = L (h + 1) ||| (L h &&& msaN r x (nI h) Sn) ∧ ∀ j, ¬ j = h → ¬ j = h + 1 → csP r x Sn h L j = L j := by
  unfold csP
  refine ⟨?_, ?_, fun j h1 h2 => ?_⟩
  · rw [upd_ne (by omega), upd_at]
  · rw [upd_at, upd_ne (show ¬ h + 1 = h by omega), upd_at]
  · rw [upd_ne h2, upd_ne h1]
theorem cs_S (hg4 : ∀ c i h, c < 12 → i < 4 → g c i h ≤ 4) (hgB : ∀ c i h, c < 12 → i < 4 → ¬ g c i h = 0 → zB c i < 12) {c0 Ni : Nat} (hNi : Ni = 48) {L : Nat → Int32} (hL : ∀ j c, j < 48 → c < 12 → (bt (L j) c = true ↔ j = 0 ∧ c = c0)) : ∀ n, n ≤ 41 → ∀ j c, j < 48 → c < 12 →
    (bt (csS r x Sn g Ni L n j) c = true ↔ fwN (msM r x Sn) (msB r x Sn) g c0 n j c) := by
  intro n
  induction n with
  | zero => intro _ j c hj hc; exact hL j c hj hc
  | succ n ih =>
    intro hn j c hj hc
    have ih := ih (by omega)
    rw [csS, fwN_s]
    generalize csS r x Sn g Ni L n = A at ih ⊢
    obtain ⟨p1, p2, p3⟩ := cs_P (r := r) (x := x) (Sn := Sn) (L := A) (h := n)
    obtain ⟨e1, e2⟩ := cs_E (r := r) (x := x) (Sn := Sn) hg4 hgB (h := n) (by omega) (L := csP r x Sn n A) Ni (by omega)
    by_cases h1 : j ≤ n
    · rw [if_pos h1, e1 j h1]
      by_cases h2 : j = n
      · subst h2
        rw [p1, b_and, Bool.and_eq_true_iff, ih j c hj hc]
        exact ⟨fun ⟨a, b⟩ => ⟨a, fun _ => b⟩, fun ⟨a, b⟩ => ⟨a, b rfl⟩⟩
      · rw [p3 j h2 (by omega), ih j c hj hc]
        exact ⟨fun a => ⟨a, fun q => absurd q h2⟩, fun a => a.1⟩
    · rw [if_neg h1, e2 j c (by omega) hc]
      have hA : bt (csP r x Sn n A j) c = true ↔ fwN (msM r x Sn) (msB r x Sn) g c0 n j c ∨ (j = n + 1 ∧ fwN (msM r x Sn) (msB r x Sn) g c0 n n c ∧ msM r x Sn n c) := by
        by_cases h2 : j = n + 1
        · subst h2
          rw [p2, b_or, b_and, Bool.or_eq_true_iff, Bool.and_eq_true_iff, ih _ c hj hc, ih n c (by omega) hc]
          exact ⟨fun a => a.elim Or.inl (fun b => Or.inr ⟨rfl, b⟩), fun a => a.elim Or.inl (fun b => Or.inr b.2)⟩
        · rw [p3 j (by omega) h2, ih j c hj hc]
          exact ⟨Or.inl, fun a => a.elim id (fun b => absurd b.1 h2)⟩
      have hN : ∀ c', c' < 12 → (bt (csP r x Sn n A n) c' = true ↔ fwN (msM r x Sn) (msB r x Sn) g c0 n n c' ∧ msM r x Sn n c') := fun c' hc' => by
        rw [p1, b_and, Bool.and_eq_true_iff, ih n c' (by omega) hc']; rfl
      rw [hA]
      constructor
      · rintro ((a | a) | ⟨e, he, w1, w2, w3, w4, w5⟩)
        · exact Or.inl a
        · exact Or.inr (Or.inl a)
        · have := (hN (e / 4) (by omega)).mp w1
          exact Or.inr (Or.inr ⟨e / 4, e % 4, by omega, Nat.mod_lt _ (by decide), this.1, this.2, w2, w3, w4, w5⟩)
      · rintro (a | a | ⟨c', i, hc', hi4, w1, w2, w3, w4, w5, w6⟩)
        · exact Or.inl (Or.inl a)
        · exact Or.inl (Or.inr a)
        · refine Or.inr ⟨4 * c' + i, by omega, ?_⟩
          rw [show (4 * c' + i) / 4 = c' by omega, show (4 * c' + i) % 4 = i by omega]
          exact ⟨(hN c' hc').mpr ⟨w1, w2⟩, w3, w4, w5, w6⟩
theorem cs_40 (hg4 : ∀ c i h, c < 12 → i < 4 → g c i h ≤ 4) (hgB : ∀ c i h, c < 12 → i < 4 → ¬ g c i h = 0 → zB c i < 12) {c0 Ni Nh : Nat} (hNi : Ni = 48) (hNh : Nh = 41) {L : Nat → Int32} (hL : ∀ j c, j < 48 → c < 12 → (bt (L j) c = true ↔ j = 0 ∧ c = c0)) :
    ¬ csS r x Sn g Ni L Nh 40 = 0 ↔ ∃ c, c < 12 ∧ fwN (msM r x Sn) (msB r x Sn) g c0 41 40 c := by
  subst hNh
  have k := cs_S (r := r) (x := x) (Sn := Sn) hg4 hgB hNi hL 41 (Nat.le_refl _) 40
  have e : csS r x Sn g Ni L 41 40 = csS r x Sn g Ni L 40 40 &&& msaN r x (nI 40) Sn := by
    rw [csS]
    obtain ⟨e1, -⟩ := cs_E (r := r) (x := x) (Sn := Sn) hg4 hgB (h := 40) (by omega) (L := csP r x Sn 40 (csS r x Sn g Ni L 40)) Ni (by omega)
    rw [e1 40 (Nat.le_refl _)]
    exact cs_P.1
  constructor
  · intro h
    apply Classical.byContradiction
    intro hn
    apply h
    apply b_ext
    intro i hi
    rw [b_0]
    by_cases hc : i < 12
    · cases hb : bt (csS r x Sn g Ni L 41 40) i with
      | false => rfl
      | true => exact absurd ⟨i, hc, (k i (by omega) hc).mp hb⟩ hn
    · rw [e, b_and, ms_hi (by omega), Bool.and_false]
  · intro ⟨c, hc, hf⟩ h
    have := (k c (by omega) hc).mpr hf
    rw [h, b_0] at this
    exact absurd this (by decide)
end CS
