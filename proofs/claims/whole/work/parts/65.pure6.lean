/-! where one can have set out: backward as the class does it, forward as the reference does it -/
section FW
variable {M B : Nat → Nat → Prop} {g : Nat → Nat → Nat → Nat} {c0 : Nat}
theorem fw_at : ∀ n j c, n ≤ j → (fwN M B g c0 n j c ↔ (j = 0 ∧ c = c0) ∨ (∃ m, m < n ∧ m + 1 = j ∧ fwN M B g c0 m m c ∧ M m c) ∨ ∃ m c' i, m < n ∧ c' < 12 ∧ i < 4 ∧ fwN M B g c0 m m c' ∧ M m c' ∧ ¬ g c' i m = 0 ∧ m + g c' i m = j ∧ zB c' i = c ∧ ¬ B m j) := by
  intro n
  induction n with
  | zero =>
    intro j c _
    refine ⟨fun h => Or.inl h, fun h => ?_⟩
    rcases h with h | ⟨m, hm, -⟩ | ⟨m, c', i, hm, -⟩
    · exact h
    · exact absurd hm (Nat.not_lt_zero m)
    · exact absurd hm (Nat.not_lt_zero m)
  | succ n ih =>
    intro j c hj
    rw [fwN_s, if_neg (by omega), ih j c (by omega)]
    constructor
    · rintro ((h | ⟨m, hm, h⟩ | ⟨m, c', i, hm, h⟩) | ⟨h1, h2, h3⟩ | ⟨c', i, h⟩)
      · exact Or.inl h
      · exact Or.inr (Or.inl ⟨m, by omega, h⟩)
      · exact Or.inr (Or.inr ⟨m, c', i, by omega, h⟩)
      · exact Or.inr (Or.inl ⟨n, by omega, h1.symm, h2, h3⟩)
      · exact Or.inr (Or.inr ⟨n, c', i, by omega, h⟩)
    · rintro (h | ⟨m, hm, h⟩ | ⟨m, c', i, hm, h⟩)
      · exact Or.inl (Or.inl h)
      · rcases Nat.lt_or_eq_of_le (Nat.le_of_lt_succ hm) with q | q
        · exact Or.inl (Or.inr (Or.inl ⟨m, q, h⟩))
        · subst q; exact Or.inr (Or.inl ⟨h.1.symm, h.2⟩)
      · rcases Nat.lt_or_eq_of_le (Nat.le_of_lt_succ hm) with q | q
        · exact Or.inl (Or.inr (Or.inr ⟨m, c', i, q, h⟩))
        · subst q; exact Or.inr (Or.inr ⟨c', i, h⟩)
theorem fw_step {h c : Nat} (a : fwN M B g c0 h h c ∧ M h c) : fwN M B g c0 (h + 1) (h + 1) c := (fw_at (h + 1) (h + 1) c (Nat.le_refl _)).mpr (Or.inr (Or.inl ⟨h, by omega, rfl, a⟩))
theorem fw_sail {h c i : Nat} (hc : c < 12) (hi : i < 4) (a : fwN M B g c0 h h c ∧ M h c) (h0 : ¬ g c i h = 0) (hb : ¬ B h (h + g c i h)) : fwN M B g c0 (h + g c i h) (h + g c i h) (zB c i) := (fw_at _ _ _ (Nat.le_refl _)).mpr (Or.inr (Or.inr ⟨h, c, i, by omega, hc, hi, a.1, a.2, h0, rfl, rfl, hb⟩))
theorem st_iff {K : Nat → Nat → Prop} {L : Nat} (hL : L ≤ 40) (hgB : ∀ c i h, c < 12 → i < 4 → ¬ g c i h = 0 → zB c i < 12)
    (hK : ∀ h c, h ≤ L → c < 12 → (K h c ↔ M h c ∧ (h = L ∨ (h + 1 ≤ L ∧ K (h + 1) c) ∨ ∃ i, i < 4 ∧ ¬ g c i h = 0 ∧ ¬ B h (h + g c i h) ∧ h + g c i h ≤ L ∧ K (h + g c i h) (zB c i))))
    (hL1 : ∀ h c, L < h → h ≤ 40 → c < 12 → M h c) (hL2 : L = 0 ∨ ∀ a z, a < L → L < z → z ≤ 40 → B a z) (hc0 : c0 < 12) : K 0 c0 ↔ ∃ c, c < 12 ∧ fwN M B g c0 41 40 c := by
  have e40 : ∀ c, fwN M B g c0 41 40 c = (fwN M B g c0 40 40 c ∧ M 40 c) := fun c => by
    rw [fwN_s, if_pos (Nat.le_refl _)]
    exact propext ⟨fun h => ⟨h.1, h.2 rfl⟩, fun h => ⟨h.1, fun _ => h.2⟩⟩
  constructor
  · intro h0
    have fwd : ∀ n h c, h + n = L → c < 12 → fwN M B g c0 h h c → K h c → ∃ c', c' < 12 ∧ fwN M B g c0 L L c' ∧ M L c' := by
      intro n
      induction n using Nat.strongRecOn with
      | ind n ih =>
        intro h c hn hc hf hk
        obtain ⟨hm, hk⟩ := (hK h c (by omega) hc).mp hk
        rcases hk with e | ⟨e, hk⟩ | ⟨i, hi, g0, hb, hle, hk⟩
        · subst e; exact ⟨c, hc, hf, hm⟩
        · exact ih (n - 1) (by omega) (h + 1) c (by omega) hc (fw_step ⟨hf, hm⟩) hk
        · exact ih (n - g c i h) (by omega) (h + g c i h) (zB c i) (by omega) (hgB c i h hc hi g0) (fw_sail hc hi ⟨hf, hm⟩ g0 hb) hk
    obtain ⟨c', hc', hf, hm⟩ := fwd L 0 c0 (by omega) hc0 ⟨rfl, rfl⟩ h0
    have wait : ∀ n, L + n ≤ 40 → fwN M B g c0 (L + n) (L + n) c' ∧ M (L + n) c' := by
      intro n
      induction n with
      | zero => intro _; exact ⟨hf, hm⟩
      | succ n ih => intro hn; exact ⟨fw_step (ih (by omega)), hL1 _ _ (by omega) hn hc'⟩
    have := wait (40 - L) (by omega)
    rw [show L + (40 - L) = 40 by omega] at this
    exact ⟨c', hc', by rw [e40]; exact this⟩
  · rintro ⟨c, hc, hf⟩
    rw [e40] at hf
    have back : ∀ n h c, h = L + n → h ≤ 40 → c < 12 → fwN M B g c0 h h c → M h c → ∃ c', c' < 12 ∧ fwN M B g c0 L L c' ∧ M L c' := by
      intro n
      induction n using Nat.strongRecOn with
      | ind n ih =>
        intro h c hn h40 hc hf hm
        by_cases e : n = 0
        · subst e; rw [Nat.add_zero] at hn; subst hn; exact ⟨c, hc, hf, hm⟩
        · rcases (fw_at h h c (Nat.le_refl _)).mp hf with ⟨q, -⟩ | ⟨m, hm1, hm2, hm3, hm4⟩ | ⟨m, c', i, hm1, hc', hi, hm3, hm4, g0, e1, e2, hb⟩
          · omega
          · exact ih (m - L) (by omega) m c (by omega) (by omega) hc hm3 hm4
          · rcases Nat.lt_or_ge m L with q | q
            · rcases hL2 with w | w
              · omega
              · exact absurd (w m h q (by omega) h40) hb
            · exact ih (m - L) (by omega) m c' (by omega) (by omega) hc' hm3 hm4
    obtain ⟨c', hc', hf', hm'⟩ := back (40 - L) 40 c (by omega) (Nat.le_refl _) hc hf.1 hf.2
    have down : ∀ h, ∀ c, h ≤ L → c < 12 → fwN M B g c0 h h c → K h c → K 0 c0 := by
      intro h
      induction h using Nat.strongRecOn with
      | ind h ih =>
        intro c hh hc hf hk
        rcases (fw_at h h c (Nat.le_refl _)).mp hf with ⟨q1, q2⟩ | ⟨m, hm1, hm2, hm3, hm4⟩ | ⟨m, c', i, hm1, hc', hi, hm3, hm4, g0, e1, e2, hb⟩
        · subst q1; subst q2; exact hk
        · exact ih m hm1 c (by omega) hc hm3 ((hK m c (by omega) hc).mpr ⟨hm4, Or.inr (Or.inl ⟨by omega, by rw [hm2]; exact hk⟩)⟩)
        · exact ih m hm1 c' (by omega) hc' hm3 ((hK m c' (by omega) hc').mpr ⟨hm4, Or.inr (Or.inr ⟨i, hi, g0, by rw [e1]; exact hb, by omega, by rw [e1, e2]; exact hk⟩)⟩)
    exact down L c' (Nat.le_refl _) hc' hf' ((hK L c' (Nat.le_refl _) hc').mpr ⟨hm', Or.inl rfl⟩)
end FW
section CI
variable {f : Nat → Int32} {hi : Nat → Nat} {R W k d L : Nat} {my : Nat → Int32}
theorem cb_iff {cn : Nat → Int32} {c h : Nat} (hc : c < 12) (hL : L ≤ 40) (hh : h < 1000) : ¬ cbF cn (nI c) (nI h) (nI L) = 0 ↔ h ≤ L ∧ bt (cn h) c = true := by
  unfold cbF
  rw [if_neg (nI_pos (by omega)), if_neg (show ¬ (12 : Int32) ≤ nI c from nI_ge (b := 12) hc (by decide)), if_neg (nI_pos (by omega)), nI_clamp (show h < 2 ^ 31 by omega)]
  by_cases h1 : h ≤ L
  · rw [if_neg (nI_nlt h1 (by omega)), if_neg (show ¬ (41 : Int32) ≤ nI h from nI_ge (b := 41) (by omega) (by decide))]
    by_cases h2 : bt (cn h) c = true
    · rw [if_pos ((z_bit1 (by omega)).mpr h2)]; exact ⟨fun _ => ⟨h1, h2⟩, fun _ => by decide⟩
    · rw [if_neg (fun q => h2 ((z_bit1 (by omega)).mp q))]; exact ⟨fun q => absurd rfl q, fun q => absurd q.2 h2⟩
  · rw [if_pos (nI_lt (by omega) (by omega))]; exact ⟨fun q => absurd rfl q, fun q => absurd q.1 h1⟩
theorem go_iff (hp : zP f hi) (hR : R ≤ 9) (hW : W < 5) (hk : k < 5) (hd : 1 ≤ d) (hd9 : d ≤ 9) {cn : Nat → Int32} {c h : Nat} (hc : c < 12) (hL : L ≤ 40) (hh : h ≤ 40) :
    goP f (nI R) (nI W) k (nI d) my cn (nI c) h (nI L) ↔ (h + 1 ≤ L ∧ bt (cn (h + 1)) c = true) ∨ ∃ i, i < 4 ∧ ¬ zS hi R W k d c i h = 0 ∧ unA my h (zS hi R W k d c i h - 1) ∧ h + zS hi R W k d c i h ≤ L ∧ bt (cn (h + zS hi R W k d c i h)) (zB c i) = true := by
  unfold goP
  rw [nI_1, cb_iff hc hL (show h + 1 < 1000 by omega)]
  have each : ∀ i, i < 4 → (goI f (nI R) (nI W) k (nI d) my cn (nI c) h (nI L) i ↔ ¬ zS hi R W k d c i h = 0 ∧ unA my h (zS hi R W k d c i h - 1) ∧ h + zS hi R W k d c i h ≤ L ∧ bt (cn (h + zS hi R W k d c i h)) (zB c i) = true) := by
    intro i hi4
    have h4 := z_S4 (hi := hi) (R := R) (d := d) (c := c) (h := h) hk hi4 hW
    unfold goI
    rw [z_ht hp hR hW hk hd hd9 hc hi4 (show h < 2 ^ 30 by omega), z_O (by omega)]
    by_cases s0 : zS hi R W k d c i h = 0
    · exact ⟨fun q => absurd s0 q.1, fun q => absurd s0 q.1⟩
    · have ht := zB_lt hc hi4 s0
      rw [show zO (zS hi R W k d c i h) = nI (zS hi R W k d c i h) from if_neg s0, nI_clamp (show zS hi R W k d c i h < 2 ^ 31 by omega), z_be c hc i hi4, show zI (zB c i) = nI (zB c i) from if_neg (by omega), nI_add, cb_iff ht hL (by omega)]
  constructor
  · rintro (a | ⟨i, hi4, a⟩)
    · exact Or.inl a
    · exact Or.inr ⟨i, hi4, (each i hi4).mp a⟩
  · rintro (a | ⟨i, hi4, a⟩)
    · exact Or.inl a
    · exact Or.inr ⟨i, hi4, (each i hi4).mpr a⟩
theorem go_cg (hp : zP f hi) (hR : R ≤ 9) (hW : W < 5) (hk : k < 5) (hd : 1 ≤ d) (hd9 : d ≤ 9) {cn cn' : Nat → Int32} {c h : Nat} (hc : c < 12) (hL : L ≤ 40) (hh : h ≤ 40) (e : ∀ j, ¬ j = h → cn' j = cn j) :
    goP f (nI R) (nI W) k (nI d) my cn' (nI c) h (nI L) ↔ goP f (nI R) (nI W) k (nI d) my cn (nI c) h (nI L) := by
  rw [go_iff hp hR hW hk hd hd9 hc hL hh, go_iff hp hR hW hk hd hd9 hc hL hh, e (h + 1) (by omega)]
  have x : ∀ i, (¬ zS hi R W k d c i h = 0 ∧ unA my h (zS hi R W k d c i h - 1) ∧ h + zS hi R W k d c i h ≤ L ∧ bt (cn' (h + zS hi R W k d c i h)) (zB c i) = true) ↔ (¬ zS hi R W k d c i h = 0 ∧ unA my h (zS hi R W k d c i h - 1) ∧ h + zS hi R W k d c i h ≤ L ∧ bt (cn (h + zS hi R W k d c i h)) (zB c i) = true) := fun i => by
    by_cases s0 : zS hi R W k d c i h = 0
    · exact ⟨fun q => absurd s0 q.1, fun q => absurd s0 q.1⟩
    · rw [e _ (by omega)]
  constructor
  · rintro (a | ⟨i, hi4, a⟩)
    · exact Or.inl a
    · exact Or.inr ⟨i, hi4, (x i).mp a⟩
  · rintro (a | ⟨i, hi4, a⟩)
    · exact Or.inl a
    · exact Or.inr ⟨i, hi4, (x i).mpr a⟩
theorem ci_N (hp : zP f hi) (hR : R ≤ 9) (hW : W < 5) (hk : k < 5) (hd : 1 ≤ d) (hd9 : d ≤ 9) {cn : Nat → Int32} {h : Nat} (hL : L ≤ 40) (hh : h ≤ 40) : ∀ i, i ≤ 12 →
    (∀ j, ¬ j = h → ciN f (nI R) (nI W) k (nI d) my L h cn i j = cn j) ∧ ∀ c, c < 32 → (bt (ciN f (nI R) (nI W) k (nI d) my L h cn i h) c = true ↔ c < i ∧ bt (my h) c = true ∧ (h = L ∨ goP f (nI R) (nI W) k (nI d) my cn (nI c) h (nI L))) := by
  intro i
  induction i with
  | zero => intro _; exact ⟨fun j hj => upd_ne hj, fun c _ => by show bt (upd cn h 0 h) c = true ↔ _; rw [upd_at, b_0]; exact ⟨fun q => absurd q (by decide), fun q => absurd q.1 (Nat.not_lt_zero c)⟩⟩
  | succ i ih =>
    intro hi12
    obtain ⟨a1, a2⟩ := ih (by omega)
    rw [ciN]
    generalize ciN f (nI R) (nI W) k (nI d) my L h cn i = A at a1 a2 ⊢
    have eg := go_cg (my := my) hp hR hW hk hd hd9 (c := i) (h := h) (L := L) (by omega) hL hh a1
    by_cases q : (my h >>> (nI i &&& 31)) &&& 1 = 1 ∧ (h = L ∨ goP f (nI R) (nI W) k (nI d) my A (nI i) h (nI L))
    · rw [ite_pos' q]
      rw [z_bit1 (by omega), eg] at q
      refine ⟨fun j hj => by rw [upd_ne hj]; exact a1 j hj, fun c hc => ?_⟩
      rw [upd_at, b_or, z_one (by omega) hc, Bool.or_eq_true_iff, a2 c hc]
      constructor
      · rintro (⟨b1, b2⟩ | b)
        · exact ⟨by omega, b2⟩
        · have := of_decide_eq_true b
          subst this
          exact ⟨by omega, q⟩
      · rintro ⟨b1, b2⟩
        rcases Nat.lt_or_eq_of_le (Nat.le_of_lt_succ b1) with w | w
        · exact Or.inl ⟨w, b2⟩
        · exact Or.inr (decide_eq_true w)
    · rw [ite_neg' q]
      rw [z_bit1 (by omega), eg] at q
      refine ⟨a1, fun c hc => ?_⟩
      rw [a2 c hc]
      constructor
      · rintro ⟨b1, b2⟩; exact ⟨by omega, b2⟩
      · rintro ⟨b1, b2⟩
        rcases Nat.lt_or_eq_of_le (Nat.le_of_lt_succ b1) with w | w
        · exact ⟨w, b2⟩
        · subst w; exact absurd b2 q
theorem cs_stay (hp : zP f hi) (hR : R ≤ 9) (hW : W < 5) (hk : k < 5) (hd : 1 ≤ d) (hd9 : d ≤ 9) {cn : Nat → Int32} (hL : L ≤ 40) {h : Nat} (hh : h ≤ L) : ∀ n, L - h + 1 + n ≤ L + 1 → csD f (nI R) (nI W) k (nI d) my L cn (L - h + 1 + n) h = csD f (nI R) (nI W) k (nI d) my L cn (L - h + 1) h := by
  intro n
  induction n with
  | zero => intro _; rfl
  | succ n ih =>
    intro hn
    rw [← Nat.add_assoc, csD, (ci_N hp hR hW hk hd hd9 hL (show L - (L - h + 1 + n) ≤ 40 by omega) 12 (Nat.le_refl _)).1 h (by omega)]
    exact ih (by omega)
/-- the class's rows, back from the last hour -/
theorem cs_iff (hp : zP f hi) (hR : R ≤ 9) (hW : W < 5) (hk : k < 5) (hd : 1 ≤ d) (hd9 : d ≤ 9) {cn : Nat → Int32} (hL : L ≤ 40) {h c : Nat} (hh : h ≤ L) (hc : c < 12) :
    (bt (csD f (nI R) (nI W) k (nI d) my L cn (L + 1) h) c = true ↔ bt (my h) c = true ∧ (h = L ∨ (h + 1 ≤ L ∧ bt (csD f (nI R) (nI W) k (nI d) my L cn (L + 1) (h + 1)) c = true) ∨ ∃ i, i < 4 ∧ ¬ zS hi R W k d c i h = 0 ∧ unA my h (zS hi R W k d c i h - 1) ∧ h + zS hi R W k d c i h ≤ L ∧ bt (csD f (nI R) (nI W) k (nI d) my L cn (L + 1) (h + zS hi R W k d c i h)) (zB c i) = true)) := by
  have stay : ∀ j, j ≤ L → csD f (nI R) (nI W) k (nI d) my L cn (L + 1) j = csD f (nI R) (nI W) k (nI d) my L cn (L - j + 1) j := fun j hj => by
    have := cs_stay (my := my) hp hR hW hk hd hd9 (cn := cn) hL hj j (by omega)
    rwa [show L - j + 1 + j = L + 1 by omega] at this
  have later : ∀ j, h < j → j ≤ L → csD f (nI R) (nI W) k (nI d) my L cn (L - h) j = csD f (nI R) (nI W) k (nI d) my L cn (L + 1) j := fun j h1 h2 => by
    rw [stay j h2]
    have := cs_stay (my := my) hp hR hW hk hd hd9 (cn := cn) hL h2 (j - h - 1) (by omega)
    rwa [show L - j + 1 + (j - h - 1) = L - h by omega] at this
  rw [stay h hh, csD, show L - (L - h) = h by omega, (ci_N hp hR hW hk hd hd9 hL (show h ≤ 40 by omega) 12 (Nat.le_refl _)).2 c (by omega), go_iff hp hR hW hk hd hd9 hc hL (by omega)]
  have x1 : (h + 1 ≤ L ∧ bt (csD f (nI R) (nI W) k (nI d) my L cn (L - h) (h + 1)) c = true) ↔ (h + 1 ≤ L ∧ bt (csD f (nI R) (nI W) k (nI d) my L cn (L + 1) (h + 1)) c = true) := by
    by_cases q : h + 1 ≤ L
    · rw [later (h + 1) (by omega) q]
    · exact ⟨fun w => absurd w.1 q, fun w => absurd w.1 q⟩
  have x2 : ∀ i, (¬ zS hi R W k d c i h = 0 ∧ unA my h (zS hi R W k d c i h - 1) ∧ h + zS hi R W k d c i h ≤ L ∧ bt (csD f (nI R) (nI W) k (nI d) my L cn (L - h) (h + zS hi R W k d c i h)) (zB c i) = true) ↔ (¬ zS hi R W k d c i h = 0 ∧ unA my h (zS hi R W k d c i h - 1) ∧ h + zS hi R W k d c i h ≤ L ∧ bt (csD f (nI R) (nI W) k (nI d) my L cn (L + 1) (h + zS hi R W k d c i h)) (zB c i) = true) := fun i => by
    by_cases s0 : zS hi R W k d c i h = 0
    · exact ⟨fun q => absurd s0 q.1, fun q => absurd s0 q.1⟩
    · by_cases q : h + zS hi R W k d c i h ≤ L
      · rw [later _ (by omega) q]
      · exact ⟨fun w => absurd w.2.2.1 q, fun w => absurd w.2.2.1 q⟩
  rw [x1]
  constructor
  · rintro ⟨-, a, b | b | ⟨i, hi4, b⟩⟩
    · exact ⟨a, Or.inl b⟩
    · exact ⟨a, Or.inr (Or.inl b)⟩
    · exact ⟨a, Or.inr (Or.inr ⟨i, hi4, (x2 i).mp b⟩)⟩
  · rintro ⟨a, b | b | ⟨i, hi4, b⟩⟩
    · exact ⟨hc, a, Or.inl b⟩
    · exact ⟨hc, a, Or.inr (Or.inl b)⟩
    · exact ⟨hc, a, Or.inr (Or.inr ⟨i, hi4, (x2 i).mpr b⟩)⟩
theorem cs_big (hp : zP f hi) (hR : R ≤ 9) (hW : W < 5) (hk : k < 5) (hd : 1 ≤ d) (hd9 : d ≤ 9) {cn : Nat → Int32} (hL : L ≤ 40) {c : Nat} (hc : c < 32) (h12 : 12 ≤ c) : bt (csD f (nI R) (nI W) k (nI d) my L cn (L + 1) 0) c = false := by
  rw [csD, Nat.sub_self]
  cases hb : bt (ciN f (nI R) (nI W) k (nI d) my L 0 (csD f (nI R) (nI W) k (nI d) my L cn L) 12 0) c with
  | false => rfl
  | true =>
    have := ((ci_N hp hR hW hk hd hd9 hL (show 0 ≤ 40 by omega) 12 (Nat.le_refl _)).2 c hc).mp hb
    omega
theorem stB_bt {P : Nat → Prop} : ∀ n c, n ≤ 32 → c < 32 → (bt (stB P n) c = true ↔ c < n ∧ P c) := by
  intro n
  induction n with
  | zero => intro c _ _; rw [stB, b_0]; exact ⟨fun q => absurd q (by decide), fun q => absurd q.1 (Nat.not_lt_zero c)⟩
  | succ n ih =>
    intro c hn hc
    rw [stB, b_or, Bool.or_eq_true_iff, ih c (by omega) hc]
    by_cases h : P n
    · rw [ite_pos' h, z_one (by omega) hc]
      constructor
      · rintro (a | a)
        · exact ⟨by omega, a.2⟩
        · have := of_decide_eq_true a; subst this; exact ⟨by omega, h⟩
      · rintro ⟨a, b⟩
        rcases Nat.lt_or_eq_of_le (Nat.le_of_lt_succ a) with w | w
        · exact Or.inl ⟨w, b⟩
        · exact Or.inr (decide_eq_true w)
    · rw [ite_neg' h, b_0]
      constructor
      · rintro (a | a)
        · exact ⟨by omega, a.2⟩
        · exact absurd a (by decide)
      · rintro ⟨a, b⟩
        rcases Nat.lt_or_eq_of_le (Nat.le_of_lt_succ a) with w | w
        · exact Or.inl ⟨w, b⟩
        · subst w; exact absurd b h
end CI
