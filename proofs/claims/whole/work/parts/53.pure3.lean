/-! the class's chart is such a table -/
def zo (q : HF) (c : Nat) : Prop := ¬ q.1 c = -1
def zh (q : HF) (c : Nat) : Nat := (q.1 c).toNatClampNeg
def zD (hi : Nat → Nat) (R W k d F H : Nat) (q : HF) (m : Nat) : Prop := (zo q F ∧ zh q F = H ∧ q.2 F = -1) ∧ (∀ c, c < 12 → zo q c → q.1 c = nI (zh q c) ∧ zh q c ≤ H + m ∧ zR hi R W k d F H c (zh q c) (q.2 c) ∧ (¬ c = F → ¬ q.2 c = -1)) ∧ ∀ c, c < 12 → ¬ zo q c → q.2 c = -1
def zE (hi : Nat → Nat) (R W k d F : Nat) (q0 q : HF) (x i : Nat) : Prop := (∀ j, j < i → ¬ zS hi R W k d x j (zh q0 x) = 0 → zo q (zB x j) ∧ zL (zh q (zB x j)) (q.2 (zB x j)) (zh q0 x + zS hi R W k d x j (zh q0 x)) (if x = F then nI j else q0.2 x))
def zQ (hi : Nat → Nat) (R W k d F H : Nat) (q0 q : HF) (x i m : Nat) : Prop := zD hi R W k d F H q (m + 4) ∧ (q.1 x = q0.1 x ∧ q.2 x = q0.2 x) ∧
  (∀ c, c < 12 → (q.1 c = q0.1 c ∧ q.2 c = q0.2 c) ∨ (zo q c ∧ zh q0 x + 1 ≤ zh q c ∧ (zo q0 c → zL (zh q c) (q.2 c) (zh q0 c) (q0.2 c)))) ∧ zE hi R W k d F q0 q x i
theorem z_lt31 (q : HF) (c : Nat) : zh q c < 2 ^ 31 := Int32.toNatClampNeg_lt _
theorem zL_h {h1 h2 : Nat} {f1 f2 : Int32} (a : zL h1 f1 h2 f2) : h1 ≤ h2 := by rcases a with a | a <;> omega
theorem zL_rf {h : Nat} {f : Int32} : zL h f h f := Or.inr ⟨rfl, Int32.le_refl _⟩
theorem upd_at {f : Nat → Int32} {i : Nat} {v : Int32} : upd f i v i = v := by simp [upd]
theorem upd_ne {f : Nat → Int32} {i j : Nat} {v : Int32} (h : ¬ j = i) : upd f i v j = f j := by simp [upd, h]
theorem z_arr {q : HF} {t w : Nat} {fi : Int32} (ht : t < 12) (hw : w < 2 ^ 31) (hb : zo q t → q.1 t = nI (zh q t)) :
    (arS q (nI t) (nI w) fi = (upd q.1 t (nI w), upd q.2 t fi) ∧ (zo q t → zL w fi (zh q t) (q.2 t))) ∨ (arS q (nI t) (nI w) fi = q ∧ zo q t ∧ zL (zh q t) (q.2 t) w fi) := by
  unfold arS
  rw [if_neg (nI_pos (by omega)), if_neg (show ¬ (12 : Int32) ≤ nI t from nI_ge (b := 12) ht (by decide)), nI_clamp (show t < 2 ^ 31 by omega)]
  by_cases h1 : q.1 t = -1
  · rw [if_pos h1]; exact Or.inl ⟨rfl, fun h => absurd h1 h⟩
  · rw [if_neg h1]
    have e := hb h1
    have l := z_lt31 q t
    by_cases h2 : w < zh q t
    · rw [if_pos (by rw [e]; exact (nI_ltI hw l).mpr h2)]; exact Or.inl ⟨rfl, fun _ => Or.inl h2⟩
    · rw [if_neg (by rw [e]; exact fun x => h2 ((nI_ltI hw l).mp x))]
      by_cases h3 : w = zh q t
      · rw [if_pos (by rw [e, h3])]
        by_cases h4 : fi < q.2 t
        · rw [if_pos h4]; exact Or.inl ⟨rfl, fun _ => Or.inr ⟨h3, Int32.le_of_lt h4⟩⟩
        · rw [if_neg h4]; exact Or.inr ⟨rfl, h1, Or.inr ⟨h3.symm, Int32.not_lt.mp h4⟩⟩
      · rw [if_neg (by rw [e]; exact fun x => h3 ((nI_eq hw l).mp x))]; exact Or.inr ⟨rfl, h1, Or.inl (by omega)⟩
section ZD
variable {f : Nat → Int32} {hi : Nat → Nat} {R W k d F H : Nat}
theorem zR_H {c h : Nat} {g : Int32} (a : zR hi R W k d F H c h g) : H ≤ h := a (fun _ h _ => H ≤ h) (Nat.le_refl _) (fun _ _ _ _ _ _ h _ => Nat.le_trans h (Nat.le_add_right _ _))
theorem z_so (hp : zP f hi) (hR : R ≤ 9) (hW : W < 5) (hk : k < 5) (hd : 1 ≤ d) (hd9 : d ≤ 9) (hF : F < 12) {q0 q : HF} {x i m : Nat} (hx : x < 12) (hi4 : i < 4) (hm : H + m < 2 ^ 29) (hx0 : zo q0 x) (hxm : zh q0 x ≤ H + m)
    (a : zQ hi R W k d F H q0 q x i m) :
    zQ hi R W k d F H q0 (if htF f (nI R) (nI W) k (nI d) (nI x) (nI i) (q.1 (nI x).toNatClampNeg) = -1 then q else arS q (beF (nI x) (nI i)) (q.1 (nI x).toNatClampNeg + htF f (nI R) (nI W) k (nI d) (nI x) (nI i) (q.1 (nI x).toNatClampNeg)) (if q.2 (nI x).toNatClampNeg = -1 then nI i else q.2 (nI x).toNatClampNeg)) x (i + 1) m := by
  obtain ⟨⟨⟨F1, F2, F3⟩, aD, aU⟩, ⟨ax1, ax2⟩, aC, aE⟩ := a
  have hzx : zh q x = zh q0 x := by unfold zh; rw [ax1]
  have hox : zo q x := by unfold zo; rw [ax1]; exact hx0
  obtain ⟨ex, -, rx, nx⟩ := aD x hx hox
  rw [hzx] at ex rx
  have hS4 := z_S4 (hi := hi) (R := R) (d := d) (c := x) (h := zh q0 x) hk hi4 hW
  rw [nI_clamp (show x < 2 ^ 31 by omega), ex, z_ht hp hR hW hk hd hd9 hx hi4 (by omega)]
  by_cases s0 : zS hi R W k d x i (zh q0 x) = 0
  · rw [if_pos ((z_O (by omega)).mpr s0)]
    refine ⟨⟨⟨F1, F2, F3⟩, aD, aU⟩, ⟨ax1, ax2⟩, aC, ?_⟩
    intro j hj h0
    rcases Nat.lt_or_eq_of_le (Nat.le_of_lt_succ hj) with hj | hj
    · exact aE j hj h0
    · rw [hj] at h0; exact absurd s0 h0
  · have ht : zB x i < 12 := zB_lt hx hi4 s0
    rw [if_neg (fun h => s0 ((z_O (by omega)).mp h)), z_be x hx i hi4, show zI (zB x i) = nI (zB x i) from if_neg (by omega), show zO (zS hi R W k d x i (zh q0 x)) = nI (zS hi R W k d x i (zh q0 x)) from if_neg s0, nI_add]
    have efi : (if q.2 x = -1 then nI i else q.2 x) = if x = F then nI i else q0.2 x := by
      by_cases hxF : x = F
      · rw [if_pos hxF, if_pos (by rw [hxF]; exact F3)]
      · rw [if_neg hxF, if_neg (nx hxF), ax2]
    rw [efi]
    have hHx : H ≤ zh q0 x := zR_H rx
    have hR2 := zR_s hx hi4 rx s0
    rw [ax2] at hR2
    generalize hg : (if x = F then nI i else q0.2 x) = fi at *
    have hfi : ¬ fi = -1 := by
      rw [← hg]
      by_cases hxF : x = F
      · rw [if_pos hxF]; exact z_neg (by omega)
      · rw [if_neg hxF, ← ax2]; exact nx hxF
    generalize hs : zS hi R W k d x i (zh q0 x) = s at *
    generalize htt : zB x i = t at *
    rcases z_arr (q := q) (w := zh q0 x + s) (fi := fi) ht (by omega) (fun h => (aD t ht h).1) with ⟨e, hl⟩ | ⟨e, ho, hl⟩
    · rw [e]
      have tx : ¬ x = t := fun q1 => by
        have := zL_h (hl (by rw [← q1]; exact hox))
        rw [← q1, hzx] at this; omega
      have tF : ¬ F = t := fun q1 => by
        have := zL_h (hl (by rw [← q1]; exact F1))
        rw [← q1, F2] at this; omega
      have o1 : ∀ c, ¬ c = t → (upd q.1 t (nI (zh q0 x + s)) c = q.1 c) := fun c h => upd_ne h
      have o2 : ∀ c, ¬ c = t → (upd q.2 t fi c = q.2 c) := fun c h => upd_ne h
      generalize hq : ((upd q.1 t (nI (zh q0 x + s)), upd q.2 t fi) : HF) = q'
      have p1 : ∀ c, ¬ c = t → q'.1 c = q.1 c := by rw [← hq]; exact o1
      have p2 : ∀ c, ¬ c = t → q'.2 c = q.2 c := by rw [← hq]; exact o2
      have t1 : q'.1 t = nI (zh q0 x + s) := by rw [← hq]; exact upd_at
      have t2 : q'.2 t = fi := by rw [← hq]; exact upd_at
      have zt : zh q' t = zh q0 x + s := by unfold zh; rw [t1]; exact nI_clamp (by omega)
      have zot : zo q' t := by unfold zo; rw [t1]; exact z_neg (by omega)
      have zc : ∀ c, ¬ c = t → zh q' c = zh q c := fun c h => by unfold zh; rw [p1 c h]
      have zoc : ∀ c, ¬ c = t → (zo q' c ↔ zo q c) := fun c h => by unfold zo; rw [p1 c h]
      refine ⟨⟨⟨(zoc F tF).mpr F1, by rw [zc F tF]; exact F2, by rw [p2 F tF]; exact F3⟩, ?_, fun c hc ho => ?_⟩, ⟨by rw [p1 x tx]; exact ax1, by rw [p2 x tx]; exact ax2⟩, ?_, ?_⟩
      · intro c hc hoc
        by_cases hct : c = t
        · subst hct
          rw [zt, t1, t2]
          exact ⟨rfl, by omega, hR2, fun _ => hfi⟩
        · rw [zc c hct, p1 c hct, p2 c hct]
          exact aD c hc ((zoc c hct).mp hoc)
      · by_cases hct : c = t
        · subst hct; exact absurd zot ho
        · rw [p2 c hct]; exact aU c hc (fun h => ho ((zoc c hct).mpr h))
      · intro c hc
        by_cases hct : c = t
        · subst hct
          refine Or.inr ⟨zot, by rw [zt]; omega, fun hq0 => ?_⟩
          rw [zt, t2]
          rcases aC c hc with ⟨b1, b2⟩ | ⟨b1, b2, b3⟩
          · have hqc : zo q c := by unfold zo; rw [b1]; exact hq0
            have := hl hqc
            have hh : zh q c = zh q0 c := by unfold zh; rw [b1]
            rw [hh, b2] at this
            exact this
          · exact zL_trans (hl b1) (b3 hq0)
        · rw [zc c hct, p1 c hct, p2 c hct]
          rcases aC c hc with b1 | ⟨b1, b2, b3⟩
          · exact Or.inl b1
          · exact Or.inr ⟨(zoc c hct).mpr b1, b2, b3⟩
      · intro j hj h0
        rcases Nat.lt_or_eq_of_le (Nat.le_of_lt_succ hj) with hj | hj
        · obtain ⟨b1, b2⟩ := aE j hj h0
          by_cases hct : zB x j = t
          · rw [hct] at b1 b2 ⊢
            exact ⟨zot, by rw [zt, t2]; exact zL_trans (hl b1) b2⟩
          · rw [zc _ hct, p2 _ hct]
            exact ⟨(zoc _ hct).mpr b1, b2⟩
        · subst hj
          rw [htt, zt, t2, hs, hg]
          exact ⟨zot, zL_rf⟩
    · rw [e]
      refine ⟨⟨⟨F1, F2, F3⟩, aD, aU⟩, ⟨ax1, ax2⟩, aC, ?_⟩
      intro j hj h0
      rcases Nat.lt_or_eq_of_le (Nat.le_of_lt_succ hj) with hj | hj
      · exact aE j hj h0
      · subst hj
        rw [htt, hs, hg]
        exact ⟨ho, hl⟩
theorem z_soN (hp : zP f hi) (hR : R ≤ 9) (hW : W < 5) (hk : k < 5) (hd : 1 ≤ d) (hd9 : d ≤ 9) (hF : F < 12) {q0 : HF} {x m : Nat} (hx : x < 12) (hm : H + m < 2 ^ 29) (hx0 : zo q0 x) (a : zD hi R W k d F H q0 m) :
    ∀ i, i ≤ 4 → zQ hi R W k d F H q0 (soN f (nI R) (nI W) k (nI d) (nI x) q0 i) x i m := by
  intro i
  induction i with
  | zero =>
    intro _
    refine ⟨⟨a.1, fun c hc ho => ?_, a.2.2⟩, ⟨rfl, rfl⟩, fun c _ => Or.inl ⟨rfl, rfl⟩, fun j hj => absurd hj (Nat.not_lt_zero j)⟩
    obtain ⟨b1, b2, b3, b4⟩ := a.2.1 c hc ho
    exact ⟨b1, Nat.le_trans b2 (by omega), b3, b4⟩
  | succ i ih =>
    intro hi4
    exact z_so hp hR hW hk hd hd9 hF hx (by omega) hm hx0 (a.2.1 x hx hx0).2.1 (ih (by omega))
def zc (sd : Int32) : Nat → Nat
  | 0 => 0
  | i + 1 => zc sd i + if bt sd i = true then 1 else 0
theorem zc_le (sd : Int32) : ∀ i, zc sd i ≤ i := by
  intro i
  induction i with
  | zero => exact Nat.le_refl _
  | succ i ih => unfold zc; split <;> omega
theorem zc_lt (sd : Int32) {x : Nat} (h : bt sd x = false) : ∀ i, x < i → zc sd i < i := by
  intro i
  induction i with
  | zero => intro q; omega
  | succ i ih =>
    intro q
    unfold zc
    have := zc_le sd i
    by_cases hx : x = i
    · subst hx; rw [h, if_neg (by decide)]; omega
    · have := ih (by omega); split <;> omega
theorem zc_same {sd sd' : Int32} : ∀ i, (∀ c, c < i → bt sd' c = bt sd c) → zc sd' i = zc sd i := by
  intro i
  induction i with
  | zero => intro _; rfl
  | succ i ih => intro h; unfold zc; rw [ih (fun c hc => h c (by omega)), h i (by omega)]
theorem zc_put {sd sd' : Int32} {x : Nat} (h0 : bt sd x = false) : ∀ i, x < i → (∀ c, c < i → bt sd' c = (bt sd c || decide (c = x))) → zc sd' i = zc sd i + 1 := by
  intro i
  induction i with
  | zero => intro q; omega
  | succ i ih =>
    intro q h
    unfold zc
    rw [h i (by omega)]
    by_cases hx : x = i
    · subst hx
      rw [zc_same (sd := sd) (sd' := sd') x (fun c hc => by rw [h c (by omega), decide_eq_false (by omega), Bool.or_false]), h0]
      simp
    · rw [ih (by omega) (fun c hc => h c (by omega)), decide_eq_false (fun e => hx e.symm), Bool.or_false]
      omega
theorem z_sp {h : Nat → Int32} {sd : Int32} (hn : ∀ c, c < 12 → ¬ h c = -1 → h c = nI (h c).toNatClampNeg) : ∀ i, i ≤ 12 → (spN h sd i = -1 ∧ ∀ c, c < i → bt sd c = false → h c = -1) ∨ ∃ j, j < i ∧ spN h sd i = nI j ∧ bt sd j = false ∧ ¬ h j = -1 ∧ ∀ c, c < i → bt sd c = false → ¬ h c = -1 → (h j).toNatClampNeg ≤ (h c).toNatClampNeg := by
  intro i
  induction i with
  | zero => intro _; exact Or.inl ⟨rfl, fun c hc => absurd hc (Nat.not_lt_zero c)⟩
  | succ i ih =>
    intro hi
    have ih := ih (by omega)
    rw [spN]
    have cs : ∀ c, c < i + 1 → c < i ∨ c = i := fun c hc => by omega
    by_cases q1 : bt sd i = false
    · rw [if_pos ((z_bit0 (by omega)).mpr q1)]
      by_cases q2 : h i = -1
      · rw [if_pos q2]
        rcases ih with ⟨a1, a2⟩ | ⟨j, a1, a2, a3, a4, a5⟩
        · refine Or.inl ⟨a1, fun c hc hb => ?_⟩
          rcases cs c hc with e | e
          · exact a2 c e hb
          · rw [e]; exact q2
        · refine Or.inr ⟨j, by omega, a2, a3, a4, fun c hc hb h0 => ?_⟩
          rcases cs c hc with e | e
          · exact a5 c e hb h0
          · rw [e] at h0; exact absurd q2 h0
      · rw [if_neg q2]
        rcases ih with ⟨a1, a2⟩ | ⟨j, a1, a2, a3, a4, a5⟩
        · rw [if_pos a1]
          refine Or.inr ⟨i, by omega, rfl, q1, q2, fun c hc hb h0 => ?_⟩
          rcases cs c hc with e | e
          · exact absurd (a2 c e hb) h0
          · rw [e]; exact Nat.le_refl _
        · rw [if_neg (by rw [a2]; exact z_neg (by omega)), a2, nI_clamp (show j < 2 ^ 31 by omega)]
          have ei := hn i (by omega) q2
          have ej := hn j (by omega) a4
          have li : (h i).toNatClampNeg < 2 ^ 31 := Int32.toNatClampNeg_lt _
          have lj : (h j).toNatClampNeg < 2 ^ 31 := Int32.toNatClampNeg_lt _
          by_cases q3 : (h i).toNatClampNeg < (h j).toNatClampNeg
          · rw [if_pos (by rw [ei, ej]; exact (nI_ltI li lj).mpr q3)]
            refine Or.inr ⟨i, by omega, rfl, q1, q2, fun c hc hb h0 => ?_⟩
            rcases cs c hc with e | e
            · have := a5 c e hb h0; omega
            · rw [e]; exact Nat.le_refl _
          · rw [if_neg (by rw [ei, ej]; exact fun x => q3 ((nI_ltI li lj).mp x))]
            refine Or.inr ⟨j, by omega, rfl, a3, a4, fun c hc hb h0 => ?_⟩
            rcases cs c hc with e | e
            · exact a5 c e hb h0
            · rw [e]; omega
    · rw [if_neg (fun x => q1 ((z_bit0 (by omega)).mp x))]
      rcases ih with ⟨a1, a2⟩ | ⟨j, a1, a2, a3, a4, a5⟩
      · refine Or.inl ⟨a1, fun c hc hb => ?_⟩
        rcases cs c hc with e | e
        · exact a2 c e hb
        · rw [e] at hb; exact absurd hb q1
      · refine Or.inr ⟨j, by omega, a2, a3, a4, fun c hc hb h0 => ?_⟩
        rcases cs c hc with e | e
        · exact a5 c e hb h0
        · rw [e] at hb; exact absurd hb q1
def zV (hi : Nat → Nat) (R W k d F H n : Nat) (q : HF) (sd nx : Int32) : Prop := zD hi R W k d F H q (4 * n) ∧
  (∀ c, c < 12 → bt sd c = true → zo q c ∧ zE hi R W k d F q q c 4 ∧ ∀ c', c' < 12 → bt sd c' = false → zo q c' → zh q c ≤ zh q c') ∧
  ((nx = -1 ∧ ∀ c, c < 12 → bt sd c = false → ¬ zo q c) ∨ ∃ x, x < 12 ∧ nx = nI x ∧ bt sd x = false ∧ zo q x ∧ (∀ c, c < 12 → bt sd c = false → zo q c → zh q x ≤ zh q c) ∧ zc sd 12 = n)
theorem z_pl (hp : zP f hi) (hR : R ≤ 9) (hW : W < 5) (hk : k < 5) (hd : 1 ≤ d) (hd9 : d ≤ 9) (hF : F < 12) {n : Nat} {q : HF} {sd : Int32} {x : Nat} (hx : x < 12) (hm : H + 4 * n < 2 ^ 29) (a : zV hi R W k d F H n q sd (nI x)) :
    zV hi R W k d F H (n + 1) (soF f (nI R) (nI W) k (nI d) (nI x) q) (sd ||| ((1 : Int32) <<< (nI x &&& 31))) (spN (soF f (nI R) (nI W) k (nI d) (nI x) q).1 (sd ||| ((1 : Int32) <<< (nI x &&& 31))) 12) := by
  obtain ⟨aD, aS, aN⟩ := a
  rcases aN with ⟨a1, -⟩ | ⟨y, hy, ey, a1, a2, a3, a4⟩
  · exact absurd a1 (z_neg (by omega))
  · have := (nI_eq (by omega) (by omega)).mp ey
    subst this
    have eso : soF f (nI R) (nI W) k (nI d) (nI x) q = soN f (nI R) (nI W) k (nI d) (nI x) q 4 := by
      unfold soF
      rw [if_neg (nI_pos (by omega)), if_neg (show ¬ (12 : Int32) ≤ nI x from nI_ge (b := 12) hx (by decide))]
    rw [eso]
    have b := z_soN hp hR hW hk hd hd9 hF hx hm a2 aD 4 (Nat.le_refl _)
    generalize soN f (nI R) (nI W) k (nI d) (nI x) q 4 = q' at b ⊢
    have bits : ∀ c, c < 12 → bt (sd ||| ((1 : Int32) <<< (nI x &&& 31))) c = (bt sd c || decide (c = x)) := fun c hc => by rw [b_or, z_one (by omega) (by omega)]
    generalize (sd ||| ((1 : Int32) <<< (nI x &&& 31))) = sd' at bits ⊢
    obtain ⟨bD, ⟨bx1, bx2⟩, bC, bE⟩ := b
    have hzx : zh q' x = zh q x := by unfold zh; rw [bx1]
    have hox : zo q' x := by unfold zo; rw [bx1]; exact a2
    have opn : ∀ c, c < 12 → bt sd' c = false → bt sd c = false := fun c hc h => by
      rw [bits c hc] at h; exact (Bool.or_eq_false_iff.mp h).1
    -- what isn't settled lies behind x
    have beh : ∀ c, c < 12 → bt sd c = false → zo q' c → zh q x ≤ zh q' c := fun c hc h0 ho => by
      rcases bC c hc with ⟨e1, e2⟩ | ⟨-, e2, -⟩
      · have h1 : zh q' c = zh q c := by unfold zh; rw [e1]
        rw [h1]
        exact a3 c hc h0 (by unfold zo at ho ⊢; rw [← e1]; exact ho)
      · omega
    have less : ∀ c, c < 12 → zo q c → zo q' c ∧ zL (zh q' c) (q'.2 c) (zh q c) (q.2 c) := fun c hc ho => by
      rcases bC c hc with ⟨e1, e2⟩ | ⟨e1, -, e3⟩
      · have h1 : zh q' c = zh q c := by unfold zh; rw [e1]
        rw [h1, e2]
        exact ⟨by unfold zo; rw [e1]; exact ho, zL_rf⟩
      · exact ⟨e1, e3 ho⟩
    refine ⟨bD, ?_, ?_⟩
    · intro c hc hb
      by_cases hcx : c = x
      · subst hcx
        refine ⟨hox, fun j hj h0 => ?_, fun c' hc' hb' ho' => ?_⟩
        · rw [hzx] at h0 ⊢
          rw [bx2]
          exact bE j hj h0
        · rw [hzx]; exact beh c' hc' (opn c' hc' hb') ho'
      · have hb1 : bt sd c = true := by
          rw [bits c hc, decide_eq_false hcx, Bool.or_false] at hb; exact hb
        obtain ⟨s1, s2, s3⟩ := aS c hc hb1
        have hle := s3 x hx a1 a2
        have same : q'.1 c = q.1 c ∧ q'.2 c = q.2 c := by
          rcases bC c hc with e | ⟨-, e2, e3⟩
          · exact e
          · have := zL_h (e3 s1); omega
        have hzc : zh q' c = zh q c := by unfold zh; rw [same.1]
        refine ⟨by unfold zo; rw [same.1]; exact s1, fun j hj h0 => ?_, fun c' hc' hb' ho' => ?_⟩
        · rw [hzc] at h0 ⊢
          rw [same.2]
          obtain ⟨u1, u2⟩ := s2 j hj h0
          obtain ⟨v1, v2⟩ := less _ (zB_lt hc hj h0) u1
          exact ⟨v1, zL_trans v2 u2⟩
        · rw [hzc]
          exact Nat.le_trans hle (beh c' hc' (opn c' hc' hb') ho')
    · have hcnt : zc sd' 12 = n + 1 := by rw [zc_put a1 12 hx bits, a4]
      rcases z_sp (h := q'.1) (sd := sd') (fun c hc h0 => (bD.2.1 c hc h0).1) 12 (Nat.le_refl _) with ⟨e1, e2⟩ | ⟨j, e1, e2, e3, e4, e5⟩
      · exact Or.inl ⟨e1, fun c hc hb ho => ho (e2 c hc hb)⟩
      · exact Or.inr ⟨j, e1, e2, e3, e4, e5, hcnt⟩
theorem z_plN (hp : zP f hi) (hR : R ≤ 9) (hW : W < 5) (hk : k < 5) (hd : 1 ≤ d) (hd9 : d ≤ 9) (hF : F < 12) (hH : H < 2 ^ 28) {q : HF} (a : zV hi R W k d F H 0 q 0 (nI F)) :
    ∀ n, n ≤ 12 → zV hi R W k d F H n (plN f (nI R) (nI W) k (nI d) q (nI F) n).1 (plN f (nI R) (nI W) k (nI d) q (nI F) n).2.1 (plN f (nI R) (nI W) k (nI d) q (nI F) n).2.2 := by
  intro n
  induction n with
  | zero => intro _; exact a
  | succ n ih =>
    intro hn
    have ih := ih (by omega)
    rw [plN]
    generalize plN f (nI R) (nI W) k (nI d) q (nI F) n = p at ih ⊢
    by_cases h : p.2.2 = -1
    · rw [if_pos h]
      obtain ⟨aD, aS, aN⟩ := ih
      refine ⟨⟨aD.1, fun c hc ho => ?_, aD.2.2⟩, aS, ?_⟩
      · obtain ⟨b1, b2, b3⟩ := aD.2.1 c hc ho
        exact ⟨b1, by omega, b3⟩
      · rcases aN with e | ⟨x, hx, e, -⟩
        · exact Or.inl e
        · rw [e] at h; exact absurd h (z_neg (by omega))
    · rw [if_neg h]
      obtain ⟨x, hx, e⟩ : ∃ x, x < 12 ∧ p.2.2 = nI x := by
        rcases ih.2.2 with ⟨e, -⟩ | ⟨x, hx, e, -⟩
        · exact absurd e h
        · exact ⟨x, hx, e⟩
      rw [e] at ih ⊢
      exact z_pl hp hR hW hk hd hd9 hF hx (by omega) ih
theorem z_fill (x : Int32) (g : Nat → Int32) : ∀ n c, c < n → fillN x g n c = x := by
  intro n
  induction n with
  | zero => intro c hc; exact absurd hc (Nat.not_lt_zero c)
  | succ n ih =>
    intro c hc
    rw [fillN]
    by_cases h : c = n
    · subst h; exact upd_at
    · rw [upd_ne h]; exact ih c (by omega)
/-- the class's chart: a table that is closed and reached -/
theorem z_plF (hp : zP f hi) (hR : R ≤ 9) (hW : W < 5) (hk : k < 5) (hd : 1 ≤ d) (hd9 : d ≤ 9) (hF : F < 12) (hH : H < 2 ^ 28) (q : HF) :
    zD hi R W k d F H (plF f (nI R) (nI W) k (nI d) q (nI F) (nI H)) 48 ∧ zT hi R W k d F H (zo (plF f (nI R) (nI W) k (nI d) q (nI F) (nI H))) (zh (plF f (nI R) (nI W) k (nI d) q (nI F) (nI H))) (plF f (nI R) (nI W) k (nI d) q (nI F) (nI H)).2 := by
  have e : plF f (nI R) (nI W) k (nI d) q (nI F) (nI H) = (plN f (nI R) (nI W) k (nI d) (upd (fillN (-1) q.1 12) F (nI H), fillN (-1) q.2 12) (nI F) 12).1 := by
    unfold plF
    rw [if_neg (nI_pos (by omega)), if_neg (show ¬ (12 : Int32) ≤ nI F from nI_ge (b := 12) hF (by decide)), nI_clamp (show F < 2 ^ 31 by omega)]
  rw [e]
  have st : zV hi R W k d F H 0 (upd (fillN (-1) q.1 12) F (nI H), fillN (-1) q.2 12) 0 (nI F) := by
    have u1 : ∀ c, c < 12 → ¬ c = F → upd (fillN (-1) q.1 12) F (nI H) c = -1 := fun c hc h => by rw [upd_ne h]; exact z_fill _ _ 12 c hc
    have u2 : ∀ c, c < 12 → fillN (-1) q.2 12 c = -1 := fun c hc => z_fill _ _ 12 c hc
    generalize hq : ((upd (fillN (-1) q.1 12) F (nI H), fillN (-1) q.2 12) : HF) = q0
    have w1 : ∀ c, c < 12 → ¬ c = F → q0.1 c = -1 := by rw [← hq]; exact u1
    have w2 : ∀ c, c < 12 → q0.2 c = -1 := by rw [← hq]; exact u2
    have w0 : q0.1 F = nI H := by rw [← hq]; exact upd_at
    have z0 : zh q0 F = H := by unfold zh; rw [w0]; exact nI_clamp (by omega)
    have o0 : zo q0 F := by unfold zo; rw [w0]; exact z_neg (by omega)
    have oF : ∀ c, c < 12 → zo q0 c → c = F := fun c hc h => Classical.byContradiction (fun n => h (w1 c hc n))
    refine ⟨⟨⟨o0, z0, w2 F hF⟩, fun c hc ho => ?_, fun c hc _ => w2 c hc⟩, fun c hc hb => ?_, Or.inr ⟨F, hF, rfl, b_0 _, o0, fun c hc _ ho => ?_, rfl⟩⟩
    · have := oF c hc ho
      subst this
      rw [z0, w0, w2 c hc]
      exact ⟨rfl, by omega, zR_0, fun h => absurd rfl h⟩
    · rw [b_0] at hb; exact absurd hb (by decide)
    · rw [oF c hc ho]; exact Nat.le_refl _
  have v := z_plN hp hR hW hk hd hd9 hF hH st 12 (Nat.le_refl _)
  generalize plN f (nI R) (nI W) k (nI d) (upd (fillN (-1) q.1 12) F (nI H), fillN (-1) q.2 12) (nI F) 12 = p at v ⊢
  obtain ⟨vD, vS, vN⟩ := v
  refine ⟨vD, vD.1, fun c hc ho => (vD.2.1 c hc ho).2.2.1, fun c i hc hi4 ho h0 => ?_⟩
  have hb : bt p.2.1 c = true := by
    rcases vN with ⟨-, e2⟩ | ⟨x, hx, -, e2, -, -, e3⟩
    · cases hb : bt p.2.1 c with
      | true => rfl
      | false => exact absurd ho (e2 c hc hb)
    · have := zc_lt p.2.1 e2 12 hx; omega
  exact (vS c hc hb).2.1 i hi4 h0
end ZD
