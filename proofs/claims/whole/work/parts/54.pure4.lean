/-! the reference's table: what one pass over the 48 edges does -/
def lvU (p : HF × Int32) (t : Nat) (v fi : Int32) : HF × Int32 := if v < p.1.1 t then ((upd p.1.1 t v, upd p.1.2 t fi), 1) else
  if v = p.1.1 t then (if fi < p.1.2 t then ((upd p.1.1 t v, upd p.1.2 t fi), 1) else ((upd p.1.1 t (p.1.1 t), upd p.1.2 t (p.1.2 t)), if p.2 = 0 then 0 else 1)) else ((upd p.1.1 t (p.1.1 t), upd p.1.2 t (p.1.2 t)), if p.2 = 0 then 0 else 1)
def lvS (f r : Nat → Int32) (k : Nat) (wd rp fr : Int32) (p : HF × Int32) (i : Nat) : HF × Int32 := if p.1.1 (i / 4) = 100000 then p else
  if mhtF f r k (nI (i / 4)) (p.1.1 (i / 4)) (nI (i % 4)) wd rp = -1 then p else
  lvU p (mbeF (nI (i / 4)) (nI (i % 4))).toNatClampNeg (p.1.1 (i / 4) + mhtF f r k (nI (i / 4)) (p.1.1 (i / 4)) (nI (i % 4)) wd rp) (if nI (i / 4) = fr then nI (i % 4) else p.1.2 (i / 4))
def lvN (f r : Nat → Int32) (k : Nat) (wd rp fr : Int32) (q : HF) : Nat → HF × Int32
  | 0 => (q, 0)
  | i + 1 => lvS f r k wd rp fr (lvN f r k wd rp fr q i) i
def lvZ (fr h : Int32) (q : HF) : Nat → HF
  | 0 => q
  | i + 1 => (upd (lvZ fr h q i).1 i (if nI i = fr then h else 100000), upd (lvZ fr h q i).2 i (-1))
def lvC (q : HF) : Nat → Nat
  | 0 => 0
  | i + 1 => lvC q i + if q.1 i = 100000 then 0 else 1
def lvI (hi : Nat → Nat) (R W kk d F H : Nat) (q : HF) : Prop := (q.1 F = nI H ∧ q.2 F = -1) ∧ ∀ c, c < 12 → (q.1 c = 100000 ∧ q.2 c = -1) ∨ ∃ h, h ≤ H + 4 * lvC q 12 ∧ q.1 c = nI h ∧ zR hi R W kk d F H c h (q.2 c) ∧ (q.2 c = -1 ∨ ∃ g, g < 4 ∧ q.2 c = nI g)
def lvV (q : HF) (c : Nat) : Nat := 8 * zh q c + (q.2 c + 1).toNatClampNeg
def lvM (q : HF) : Nat → Nat
  | 0 => 0
  | i + 1 => lvM q i + lvV q i
def lvE (hi : Nat → Nat) (R W kk d F : Nat) (q : HF) (i : Nat) : Prop := ¬ q.1 (i / 4) = 100000 → ¬ zS hi R W kk d (i / 4) (i % 4) (zh q (i / 4)) = 0 →
  ¬ q.1 (zB (i / 4) (i % 4)) = 100000 ∧ zL (zh q (zB (i / 4) (i % 4))) (q.2 (zB (i / 4) (i % 4))) (zh q (i / 4) + zS hi R W kk d (i / 4) (i % 4) (zh q (i / 4))) (if i / 4 = F then nI (i % 4) else q.2 (i / 4))
theorem upd_self {f : Nat → Int32} {i : Nat} : upd f i (f i) = f := by
  funext j
  by_cases h : j = i
  · subst h; exact upd_at
  · exact upd_ne h
theorem lvM_same {q q' : HF} : ∀ n, (∀ c, c < n → lvV q' c = lvV q c) → lvM q' n = lvM q n := by
  intro n
  induction n with
  | zero => intro _; rfl
  | succ n ih => intro h; unfold lvM; rw [ih (fun c hc => h c (by omega)), h n (by omega)]
theorem lvM_lt {q q' : HF} {t : Nat} (h0 : lvV q' t < lvV q t) : ∀ n, t < n → (∀ c, c < n → ¬ c = t → lvV q' c = lvV q c) → lvM q' n < lvM q n := by
  intro n
  induction n with
  | zero => intro h; omega
  | succ n ih =>
    intro h hs
    unfold lvM
    by_cases e : t = n
    · subst e
      rw [lvM_same (q := q) (q' := q') t (fun c hc => hs c (by omega) (by omega))]
      omega
    · have := ih (by omega) (fun c hc => hs c (by omega))
      rw [hs n (by omega) (fun x => e x.symm)]
      omega
theorem lvC_le (q : HF) : ∀ n, lvC q n ≤ n := by
  intro n
  induction n with
  | zero => exact Nat.le_refl _
  | succ n ih => unfold lvC; split <;> omega
theorem lvC_mono {q q' : HF} : ∀ n, (∀ c, c < n → ¬ q.1 c = 100000 → ¬ q'.1 c = 100000) → lvC q n ≤ lvC q' n := by
  intro n
  induction n with
  | zero => intro _; exact Nat.le_refl _
  | succ n ih =>
    intro h
    have := ih (fun c hc => h c (by omega))
    unfold lvC
    by_cases a : q.1 n = 100000
    · rw [if_pos a]; omega
    · rw [if_neg a, if_neg (h n (by omega) a)]; omega
theorem lvC_put {q q' : HF} {t : Nat} (h0 : q.1 t = 100000) (h1 : ¬ q'.1 t = 100000) : ∀ n, t < n → (∀ c, c < n → ¬ q.1 c = 100000 → ¬ q'.1 c = 100000) → lvC q n + 1 ≤ lvC q' n := by
  intro n
  induction n with
  | zero => intro h; omega
  | succ n ih =>
    intro h hs
    unfold lvC
    by_cases e : t = n
    · subst e
      have := lvC_mono (q := q) (q' := q') t (fun c hc => hs c (by omega))
      rw [if_pos h0, if_neg h1]; omega
    · have := ih (by omega) (fun c hc => hs c (by omega))
      by_cases a : q.1 n = 100000
      · rw [if_pos a]; omega
      · rw [if_neg a, if_neg (hs n (by omega) a)]; omega
theorem z_m1 : ∀ g, g < 4 → ((nI g + 1).toNatClampNeg = g + 1) := by decide +kernel
theorem z_far {n : Nat} (h : n < 100000) : ¬ nI n = 100000 := fun q => by
  have := (nI_eq (a := n) (b := 100000) (by omega) (by decide)).mp q
  omega
theorem z_lgt {g : Nat} (h : g < 4) : ¬ (nI g : Int32) < -1 := by
  rw [Int32.lt_iff_toInt_lt, nI_toInt (by omega)]
  have : ((-1 : Int32)).toInt = -1 := rfl
  omega
section LV
variable {f r : Nat → Int32} {hi : Nat → Nat} {k R W kk d F H : Nat}
theorem lv_s (hr0 : r (4 * k + 0) = nI kk) (hr1 : r (4 * k + 1) = nI d) (hp : zP f hi) (hR : R ≤ 9) (hW : W < 5) (hk : kk < 5) (hd : 1 ≤ d) (hd9 : d ≤ 9) (hF : F < 12) (hH : H < 90000)
    {p : HF × Int32} {i : Nat} (hi48 : i < 48) (a : lvI hi R W kk d F H p.1) (g : p.2 = 0 ∨ p.2 = 1) :
    lvI hi R W kk d F H (lvS f r k (nI W) (nI R) (nI F) p i).1 ∧ (((lvS f r k (nI W) (nI R) (nI F) p i).1 = p.1 ∧ (lvS f r k (nI W) (nI R) (nI F) p i).2 = p.2 ∧ lvE hi R W kk d F p.1 i) ∨ ((lvS f r k (nI W) (nI R) (nI F) p i).2 = 1 ∧ lvM (lvS f r k (nI W) (nI R) (nI F) p i).1 12 < lvM p.1 12)) := by
  have hc : i / 4 < 12 := by omega
  have hw : i % 4 < 4 := Nat.mod_lt _ (by decide)
  unfold lvS
  by_cases h1 : p.1.1 (i / 4) = 100000
  · rw [if_pos h1]; exact ⟨a, Or.inl ⟨rfl, rfl, fun h => absurd h1 h⟩⟩
  · rw [if_neg h1]
    obtain ⟨h, hh, e1, e2, e3⟩ : ∃ h, h ≤ H + 4 * lvC p.1 12 ∧ p.1.1 (i / 4) = nI h ∧ zR hi R W kk d F H (i / 4) h (p.1.2 (i / 4)) ∧ (p.1.2 (i / 4) = -1 ∨ ∃ g, g < 4 ∧ p.1.2 (i / 4) = nI g) := by
      rcases a.2 (i / 4) hc with q | q
      · exact absurd q.1 h1
      · exact q
    have hcc := lvC_le p.1 12
    have ezh : zh p.1 (i / 4) = h := by unfold zh; rw [e1]; exact nI_clamp (by omega)
    have hS4 := z_S4 (hi := hi) (R := R) (d := d) (c := i / 4) (h := h) hk hw hW
    rw [e1, z_mht hr0 hr1 hp hR hW hk hd hd9 hc hw (show h < 2 ^ 30 by omega)]
    by_cases s0 : zS hi R W kk d (i / 4) (i % 4) h = 0
    · rw [if_pos ((z_O (by omega)).mpr s0)]
      exact ⟨a, Or.inl ⟨rfl, rfl, fun _ h0 => absurd (by rw [ezh]; exact s0) h0⟩⟩
    · have ht : zB (i / 4) (i % 4) < 12 := zB_lt hc hw s0
      rw [if_neg (fun h => s0 ((z_O (by omega)).mp h)), z_mbe _ hc _ hw, show zI (zB (i / 4) (i % 4)) = nI (zB (i / 4) (i % 4)) from if_neg (by omega), nI_clamp (show zB (i / 4) (i % 4) < 2 ^ 31 by omega), show zO (zS hi R W kk d (i / 4) (i % 4) h) = nI (zS hi R W kk d (i / 4) (i % 4) h) from if_neg s0, nI_add]
      have efi : (if nI (i / 4) = nI F then nI (i % 4) else p.1.2 (i / 4)) = if i / 4 = F then nI (i % 4) else p.1.2 (i / 4) := by
        by_cases q : i / 4 = F
        · rw [if_pos q, if_pos (by rw [q])]
        · rw [if_neg q, if_neg (fun x => q ((nI_eq (by omega) (by omega)).mp x))]
      rw [efi]
      have hR2 := zR_s hc hw e2 s0
      have hHh : H ≤ h := zR_H e2
      have hE : lvE hi R W kk d F p.1 i = (¬ p.1.1 (i / 4) = 100000 → ¬ zS hi R W kk d (i / 4) (i % 4) h = 0 → ¬ p.1.1 (zB (i / 4) (i % 4)) = 100000 ∧ zL (zh p.1 (zB (i / 4) (i % 4))) (p.1.2 (zB (i / 4) (i % 4))) (h + zS hi R W kk d (i / 4) (i % 4) h) (if i / 4 = F then nI (i % 4) else p.1.2 (i / 4))) := by
        unfold lvE; rw [ezh]
      rw [hE]
      have hfi : (if i / 4 = F then nI (i % 4) else p.1.2 (i / 4)) = -1 ∨ ∃ g, g < 4 ∧ (if i / 4 = F then nI (i % 4) else p.1.2 (i / 4)) = nI g := by
        by_cases q : i / 4 = F
        · rw [if_pos q]; exact Or.inr ⟨_, hw, rfl⟩
        · rw [if_neg q]; exact e3
      generalize (if i / 4 = F then nI (i % 4) else p.1.2 (i / 4)) = fi at *
      generalize zS hi R W kk d (i / 4) (i % 4) h = s at *
      generalize zB (i / 4) (i % 4) = t at *
      clear hE
      -- what stands at t
      have hnu : ∀ {x : Int32}, ((upd p.1.1 t (p.1.1 t), upd p.1.2 t (p.1.2 t)) : HF) = p.1 := by intro _; rw [upd_self, upd_self]
      have hg2 : (if p.2 = 0 then (0 : Int32) else 1) = p.2 := by rcases g with g | g <;> rw [g] <;> rfl
      have mono0 : ∀ c, c < 12 → ¬ p.1.1 c = 100000 → ¬ ((upd p.1.1 t (nI (h + s)), upd p.1.2 t fi) : HF).1 c = 100000 := fun c hc hn => by
        show ¬ upd p.1.1 t (nI (h + s)) c = 100000
        by_cases hct : c = t
        · subst hct; rw [upd_at]; exact z_far (by omega)
        · rw [upd_ne hct]; exact hn
      have mono := lvC_mono 12 mono0
      have hcc' := lvC_le (upd p.1.1 t (nI (h + s)), upd p.1.2 t fi) 12
      have better : zh p.1 t < 2 ^ 31 → (¬ p.1.1 t = 100000 → p.1.1 t = nI (zh p.1 t)) → lvV (upd p.1.1 t (nI (h + s)), upd p.1.2 t fi) t < lvV p.1 t → ¬ t = F → h + s ≤ H + 4 * lvC (upd p.1.1 t (nI (h + s)), upd p.1.2 t fi) 12 → 
          lvI hi R W kk d F H (upd p.1.1 t (nI (h + s)), upd p.1.2 t fi) ∧ lvM (upd p.1.1 t (nI (h + s)), upd p.1.2 t fi) 12 < lvM p.1 12 := by
        intro _ _ hv htF hlt
        have hcm : lvC p.1 12 ≤ lvC (upd p.1.1 t (nI (h + s)), upd p.1.2 t fi) 12 := mono
        refine ⟨⟨⟨?_, ?_⟩, fun c hc => ?_⟩, lvM_lt hv 12 ht (fun c _ hct => ?_)⟩
        · show upd p.1.1 t (nI (h + s)) F = nI H
          rw [upd_ne (fun x => htF x.symm)]; exact a.1.1
        · show upd p.1.2 t fi F = -1
          rw [upd_ne (fun x => htF x.symm)]; exact a.1.2
        · by_cases hct : c = t
          · subst hct
            refine Or.inr ⟨h + s, hlt, upd_at, ?_, ?_⟩
            · show zR hi R W kk d F H c (h + s) (upd p.1.2 c fi c)
              rw [upd_at]; exact hR2
            · show (upd p.1.2 c fi c = -1 ∨ ∃ g, g < 4 ∧ upd p.1.2 c fi c = nI g)
              rw [upd_at]; exact hfi
          · show (upd p.1.1 t (nI (h + s)) c = 100000 ∧ upd p.1.2 t fi c = -1) ∨ ∃ h', h' ≤ H + 4 * lvC (upd p.1.1 t (nI (h + s)), upd p.1.2 t fi) 12 ∧ upd p.1.1 t (nI (h + s)) c = nI h' ∧ zR hi R W kk d F H c h' (upd p.1.2 t fi c) ∧ (upd p.1.2 t fi c = -1 ∨ ∃ g, g < 4 ∧ upd p.1.2 t fi c = nI g)
            rw [upd_ne hct, upd_ne hct]
            rcases a.2 c hc with q | ⟨h', q1, q2⟩
            · exact Or.inl q
            · exact Or.inr ⟨h', by omega, q2⟩
        · unfold lvV zh
          show 8 * (upd p.1.1 t (nI (h + s)) c).toNatClampNeg + (upd p.1.2 t fi c + 1).toNatClampNeg = _
          rw [upd_ne hct, upd_ne hct]
      have eV : lvV (upd p.1.1 t (nI (h + s)), upd p.1.2 t fi) t = 8 * (h + s) + (fi + 1).toNatClampNeg := by
        unfold lvV zh
        show 8 * (upd p.1.1 t (nI (h + s)) t).toNatClampNeg + (upd p.1.2 t fi t + 1).toNatClampNeg = _
        rw [upd_at, upd_at, nI_clamp (by omega)]
      have hfi5 : (fi + 1).toNatClampNeg ≤ 4 := by
        rcases hfi with q | ⟨g, hg, q⟩
        · rw [q]; decide
        · rw [q, z_m1 g hg]; omega
      unfold lvU
      rcases a.2 t ht with ⟨b1, b2⟩ | ⟨ht', b0, b1, b2, b3⟩
      · -- far
        have zt : zh p.1 t = 100000 := by unfold zh; rw [b1]; rfl
        have vt : lvV p.1 t = 800000 := by unfold lvV; rw [zt, b2]; rfl
        have tF : ¬ t = F := fun q => by rw [q, a.1.1] at b1; exact z_far (by omega) b1
        have hv : h + s < 100000 := by omega
        rw [if_pos (by rw [b1]; exact (nI_ltI (b := 100000) (by omega) (by decide)).mpr hv)]
        have hput := lvC_put (q := p.1) (q' := (upd p.1.1 t (nI (h + s)), upd p.1.2 t fi)) b1 (by show ¬ upd p.1.1 t (nI (h + s)) t = 100000; rw [upd_at]; exact z_far hv) 12 ht mono0
        obtain ⟨c1, c2⟩ := better (z_lt31 _ _) (fun h => absurd b1 h) (by rw [eV, vt]; omega) tF (by omega)
        exact ⟨c1, Or.inr ⟨rfl, c2⟩⟩
      · have zt : zh p.1 t = ht' := by unfold zh; rw [b1]; exact nI_clamp (by omega)
        have vt : lvV p.1 t = 8 * ht' + (p.1.2 t + 1).toNatClampNeg := by unfold lvV; rw [zt]
        have nf : ¬ p.1.1 t = 100000 := by rw [b1]; exact z_far (by omega)
        have tF : h + s ≤ ht' → ¬ t = F := fun hle q => by
          subst q
          rw [a.1.1] at b1
          have := (nI_eq (by omega) (by omega)).mp b1
          omega
        rw [b1]
        by_cases hv : h + s < ht'
        · rw [if_pos ((nI_ltI (by omega) (by omega)).mpr hv)]
          obtain ⟨c1, c2⟩ := better (z_lt31 _ _) (fun _ => by rw [zt]; exact b1) (by rw [eV, vt]; omega) (tF (by omega)) (by omega)
          exact ⟨c1, Or.inr ⟨rfl, c2⟩⟩
        · rw [if_neg (fun x => hv ((nI_ltI (by omega) (by omega)).mp x))]
          rw [← b1]
          by_cases hv2 : h + s = ht'
          · rw [if_pos (by rw [b1, hv2])]
            by_cases hv3 : fi < p.1.2 t
            · rw [if_pos hv3]
              obtain ⟨c1, c2⟩ := better (z_lt31 _ _) (fun _ => by rw [zt]; exact b1) (by
                rw [eV, vt, hv2]
                have : (fi + 1).toNatClampNeg < (p.1.2 t + 1).toNatClampNeg := by
                  rcases b3 with q | ⟨g2, hg2, q⟩
                  · rw [q] at hv3
                    rcases hfi with q2 | ⟨g1, hg1, q2⟩
                    · rw [q2] at hv3; exact absurd hv3 (by decide)
                    · rw [q2] at hv3; exact absurd hv3 (z_lgt hg1)
                  · rw [q, z_m1 g2 hg2]
                    rcases hfi with q2 | ⟨g1, hg1, q2⟩
                    · rw [q2]; exact Nat.succ_pos _
                    · rw [q2, z_m1 g1 hg1]
                      rw [q, q2] at hv3
                      have := (nI_ltI (by omega) (by omega)).mp hv3
                      omega
                omega) (tF (by omega)) (by omega)
              exact ⟨c1, Or.inr ⟨rfl, c2⟩⟩
            · rw [if_neg hv3, hnu (x := 0), hg2]
              exact ⟨a, Or.inl ⟨rfl, rfl, fun _ _ => ⟨nf, by rw [zt]; exact Or.inr ⟨hv2.symm, Int32.not_lt.mp hv3⟩⟩⟩⟩
          · rw [if_neg (by rw [b1]; exact fun x => hv2 ((nI_eq (by omega) (by omega)).mp x)), hnu (x := 0), hg2]
            exact ⟨a, Or.inl ⟨rfl, rfl, fun _ _ => ⟨nf, by rw [zt]; exact Or.inl (by omega)⟩⟩⟩
theorem lv_N (hr0 : r (4 * k + 0) = nI kk) (hr1 : r (4 * k + 1) = nI d) (hp : zP f hi) (hR : R ≤ 9) (hW : W < 5) (hk : kk < 5) (hd : 1 ≤ d) (hd9 : d ≤ 9) (hF : F < 12) (hH : H < 90000) {q : HF} (a : lvI hi R W kk d F H q) : ∀ n, n ≤ 48 →
    lvI hi R W kk d F H (lvN f r k (nI W) (nI R) (nI F) q n).1 ∧ (((lvN f r k (nI W) (nI R) (nI F) q n).2 = 0 ∧ (lvN f r k (nI W) (nI R) (nI F) q n).1 = q ∧ ∀ j, j < n → lvE hi R W kk d F q j) ∨ ((lvN f r k (nI W) (nI R) (nI F) q n).2 = 1 ∧ lvM (lvN f r k (nI W) (nI R) (nI F) q n).1 12 < lvM q 12)) := by
  intro n
  induction n with
  | zero => intro _; exact ⟨a, Or.inl ⟨rfl, rfl, fun j hj => absurd hj (Nat.not_lt_zero j)⟩⟩
  | succ n ih =>
    intro hn
    obtain ⟨b1, b2⟩ := ih (by omega)
    rw [lvN]
    have st := lv_s hr0 hr1 hp hR hW hk hd hd9 hF hH (p := lvN f r k (nI W) (nI R) (nI F) q n) (i := n) (by omega) b1 (by rcases b2 with b2 | b2; exact Or.inl b2.1; exact Or.inr b2.1)
    generalize lvN f r k (nI W) (nI R) (nI F) q n = p at b1 b2 st ⊢
    refine ⟨st.1, ?_⟩
    rcases b2 with ⟨g, e, c⟩ | ⟨g, c⟩
    · rcases st.2 with ⟨e1, e2, e3⟩ | ⟨e1, e2⟩
      · refine Or.inl ⟨e2.trans g, e1.trans e, fun j hj => ?_⟩
        rcases Nat.lt_or_eq_of_le (Nat.le_of_lt_succ hj) with hj | hj
        · exact c j hj
        · rw [hj, ← e]; exact e3
      · exact Or.inr ⟨e1, by rw [← e]; exact e2⟩
    · rcases st.2 with ⟨e1, e2, e3⟩ | ⟨e1, e2⟩
      · exact Or.inr ⟨e2.trans g, by rw [e1]; exact c⟩
      · exact Or.inr ⟨e1, by omega⟩
/-- no edge betters it: a table that is closed and reached -/
theorem lv_T (hF : F < 12) {q : HF} (hH : H < 90000) (a : lvI hi R W kk d F H q) (e : ∀ j, j < 48 → lvE hi R W kk d F q j) : zT hi R W kk d F H (fun c => ¬ q.1 c = 100000) (zh q) q.2 := by
  have hcc := lvC_le q 12
  refine ⟨⟨by show ¬ q.1 F = 100000; rw [a.1.1]; exact z_far (by omega), by unfold zh; rw [a.1.1]; exact nI_clamp (by omega), a.1.2⟩, fun c hc ho => ?_, fun c i hc hi4 ho h0 => ?_⟩
  · rcases a.2 c hc with b | ⟨h, hh, e1, e2, -⟩
    · exact absurd b.1 ho
    · have : zh q c = h := by unfold zh; rw [e1]; exact nI_clamp (by omega)
      rw [this]; exact e2
  · have := e (4 * c + i) (by omega)
    unfold lvE at this
    rw [show (4 * c + i) / 4 = c by omega, show (4 * c + i) % 4 = i by omega] at this
    exact this ho h0
theorem lv_Z (hF : F < 12) (q : HF) (hH : H < 90000) : lvI hi R W kk d F H (lvZ (nI F) (nI H) q 12) := by
  have hz : ∀ n, n ≤ 12 → ∀ c, c < n → (lvZ (nI F) (nI H) q n).1 c = (if nI c = nI F then nI H else 100000) ∧ (lvZ (nI F) (nI H) q n).2 c = -1 := by
    intro n
    induction n with
    | zero => intro _ c hc; exact absurd hc (Nat.not_lt_zero c)
    | succ n ih =>
      intro hn c hc
      rw [lvZ]
      by_cases h : c = n
      · subst h; exact ⟨upd_at, upd_at⟩
      · obtain ⟨a, b⟩ := ih (by omega) c (by omega)
        exact ⟨(upd_ne h).trans a, (upd_ne h).trans b⟩
  have hz := hz 12 (Nat.le_refl _)
  have hF1 := hz F hF
  rw [if_pos rfl] at hF1
  refine ⟨hF1, fun c hc => ?_⟩
  have h1 := hz c hc
  by_cases e : c = F
  · rw [if_pos (by rw [e])] at h1
    refine Or.inr ⟨H, by omega, h1.1, ?_, Or.inl h1.2⟩
    rw [e] at h1 ⊢
    rw [h1.2]; exact zR_0
  · rw [if_neg (fun x => e ((nI_eq (by omega) (by omega)).mp x))] at h1
    exact Or.inl h1
end LV
/-- when, by which way first: as the class's chart tells it -/
def vyQ (hi : Nat → Nat) (R W k d F H : Nat) : HF := plF (fun c => nI (hi c)) (nI R) (nI W) k (nI d) (fun _ => 0, fun _ => 0) (nI F) (nI H)
def lvG (hi : Nat → Nat) (R W kk d F H : Nat) (q : HF) : Prop := ∀ c, c < 12 → (if q.1 c = 100000 then -1 else q.1 c) = (vyQ hi R W kk d F H).1 c ∧ q.2 c = (vyQ hi R W kk d F H).2 c
section LG
variable {f : Nat → Int32} {hi : Nat → Nat} {k R W d F H : Nat}
theorem z_pN (hp : zP f hi) : zP (fun c => nI (hi c)) hi := fun c hc => ⟨rfl, (hp c hc).2⟩
theorem vy_cls (hp : zP f hi) (hR : R ≤ 9) (hW : W < 5) (hk : k < 5) (hd : 1 ≤ d) (hd9 : d ≤ 9) (hF : F < 12) (hH : H < 90000) (q : HF) {c : Nat} (hc : c < 12) :
    (plF f (nI R) (nI W) k (nI d) q (nI F) (nI H)).1 c = (vyQ hi R W k d F H).1 c ∧ (plF f (nI R) (nI W) k (nI d) q (nI F) (nI H)).2 c = (vyQ hi R W k d F H).2 c := by
  obtain ⟨d1, t1⟩ := z_plF hp hR hW hk hd hd9 hF (show H < 2 ^ 28 by omega) q
  obtain ⟨d2, t2⟩ := z_plF (z_pN hp) hR hW hk hd hd9 hF (show H < 2 ^ 28 by omega) ((fun _ => 0, fun _ => 0) : HF)
  change zD hi R W k d F H (vyQ hi R W k d F H) 48 at d2
  change zT hi R W k d F H (zo (vyQ hi R W k d F H)) (zh (vyQ hi R W k d F H)) (vyQ hi R W k d F H).2 at t2
  generalize plF f (nI R) (nI W) k (nI d) q (nI F) (nI H) = q1 at d1 t1 ⊢
  generalize vyQ hi R W k d F H = q2 at d2 t2 ⊢
  by_cases h : zo q1 c
  · obtain ⟨o2, e1, e2⟩ := zT_uniq hF t1 t2 hc h
    exact ⟨by rw [(d1.2.1 c hc h).1, (d2.2.1 c hc o2).1, e1], e2⟩
  · have h2 : ¬ zo q2 c := fun o => h (zT_uniq hF t2 t1 hc o).1
    refine ⟨?_, by rw [d1.2.2 c hc h, d2.2.2 c hc h2]⟩
    unfold zo at h h2
    rw [Classical.not_not.mp h, Classical.not_not.mp h2]
theorem vy_bd (hp : zP f hi) (hR : R ≤ 9) (hW : W < 5) (hk : k < 5) (hd : 1 ≤ d) (hd9 : d ≤ 9) (hF : F < 12) (hH : H < 90000) {c : Nat} (hc : c < 12) :
    (vyQ hi R W k d F H).1 c = -1 ∨ ∃ h, H ≤ h ∧ h ≤ H + 48 ∧ (vyQ hi R W k d F H).1 c = nI h := by
  obtain ⟨d2, t2⟩ := z_plF (z_pN hp) hR hW hk hd hd9 hF (show H < 2 ^ 28 by omega) ((fun _ => 0, fun _ => 0) : HF)
  change zD hi R W k d F H (vyQ hi R W k d F H) 48 at d2
  by_cases h : (vyQ hi R W k d F H).1 c = -1
  · exact Or.inl h
  · obtain ⟨a, b, e, -⟩ := d2.2.1 c hc h
    exact Or.inr ⟨_, zR_H e, b, a⟩
theorem vy_ref (hp : zP f hi) (hR : R ≤ 9) (hW : W < 5) (hk : k < 5) (hd : 1 ≤ d) (hd9 : d ≤ 9) (hF : F < 12) (hH : H < 90000) {q : HF} (a : lvI hi R W k d F H q) (e : ∀ j, j < 48 → lvE hi R W k d F q j) : lvG hi R W k d F H q := by
  intro c hc
  have t1 := lv_T hF hH a e
  obtain ⟨d2, t2⟩ := z_plF (z_pN hp) hR hW hk hd hd9 hF (show H < 2 ^ 28 by omega) ((fun _ => 0, fun _ => 0) : HF)
  change zD hi R W k d F H (vyQ hi R W k d F H) 48 at d2
  change zT hi R W k d F H (zo (vyQ hi R W k d F H)) (zh (vyQ hi R W k d F H)) (vyQ hi R W k d F H).2 at t2
  generalize vyQ hi R W k d F H = q2 at d2 t2 ⊢
  have hcc := lvC_le q 12
  by_cases h : q.1 c = 100000
  · have h2 : ¬ zo q2 c := fun o => (zT_uniq hF t2 t1 hc o).1 h
    rw [if_pos h, d2.2.2 c hc h2]
    refine ⟨(Classical.not_not.mp h2).symm, ?_⟩
    rcases a.2 c hc with b | ⟨h', hh, e1, -⟩
    · exact b.2
    · rw [e1] at h; exact absurd h (z_far (by omega))
  · rw [if_neg h]
    obtain ⟨o2, e1, e2⟩ := zT_uniq hF t1 t2 hc h
    refine ⟨?_, e2⟩
    rw [(d2.2.1 c hc o2).1, ← e1]
    rcases a.2 c hc with b | ⟨h', hh, b1, -⟩
    · exact absurd b.1 h
    · rw [b1]; unfold zh; rw [b1, nI_clamp (by omega)]
end LG
