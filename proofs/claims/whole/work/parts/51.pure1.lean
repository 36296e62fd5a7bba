/-! the numbers behind: cells, ways, hours, heights as Nat -/
def zB (c i : Nat) : Nat := if i = 0 then (if c % 4 < 3 then c + 1 else 12) else if i = 1 then (if c < 8 then c + 4 else 12) else if i = 2 then (if 0 < c % 4 then c - 1 else 12) else if 3 < c then c - 4 else 12
def zN (k i w : Nat) : Nat := if w = 4 then (if k = 4 then 2 else if k = 3 then 4 else 3) else if i = w then (if k = 3 then 2 else 1) else if i = (w + 2) % 4 then (if k = 2 then 4 else if k = 4 then 3 else 0) else (if k = 3 then 3 else 2)
def zC (k d : Nat) : Nat := if k = 3 then 0 else if k = 1 then d - 1 else if k = 4 then d - 1 else d
def zO (n : Nat) : Int32 := if n = 0 then -1 else nI n
def zI (n : Nat) : Int32 := if n = 12 then -1 else nI n
theorem z_be : ∀ c, c < 12 → ∀ i, i < 4 → beF (nI c) (nI i) = zI (zB c i) := by decide +kernel
theorem z_mbe : ∀ c, c < 12 → ∀ i, i < 4 → mbeF (nI c) (nI i) = zI (zB c i) := by decide +kernel
theorem z_B12 : ∀ c, c < 12 → ∀ i, i < 4 → zB c i ≤ 12 := by decide +kernel
theorem z_hf : ∀ k, k < 5 → ∀ i, i < 4 → ∀ w, w < 5 → hfF k (nI i) (nI w) = zO (zN k i w) := by decide +kernel
theorem z_mne : ∀ k, k < 5 → ∀ i, i < 4 → ∀ w, w < 5 → mneF (nI k) (nI i) (nI w) = zO (zN k i w) := by decide +kernel
theorem z_N4 : ∀ k, k < 5 → ∀ i, i < 4 → ∀ w, w < 5 → zN k i w ≤ 4 := by decide +kernel
theorem z_ki : ∀ k, k < 5 → kiN k = nI k := by decide +kernel
def zH (hi : Nat → Nat) (R c h : Nat) : Nat := if h < R * (c + 1) then hi c else 0
abbrev zF (hi : Nat → Nat) (R n c h : Nat) : Prop := n ≤ zH hi R c h
def zS (hi : Nat → Nat) (R W k d c i h : Nat) : Nat := if zB c i = 12 then 0 else if zN k i W = 0 then 0 else if zF hi R (zC k d) c h ∧ zF hi R (zC k d) (zB c i) (h + zN k i W) then zN k i W else 0
def zP (f : Nat → Int32) (hi : Nat → Nat) : Prop := ∀ c, c < 12 → f c = nI (hi c) ∧ hi c ≤ 9
theorem z_neg {n : Nat} (h : n < 2 ^ 31) : ¬ nI n = -1 := by
  intro q
  have h1 := nI_toInt h
  rw [q] at h1
  have h2 : ((-1 : Int32)).toInt = -1 := rfl
  omega
theorem z_O {n : Nat} (h : n < 2 ^ 31) : zO n = -1 ↔ n = 0 := by
  unfold zO
  by_cases h0 : n = 0
  · rw [if_pos h0]; exact ⟨fun _ => h0, fun _ => rfl⟩
  · rw [if_neg h0]; exact ⟨fun q => absurd q (z_neg h), fun q => absurd q h0⟩
theorem z_I {n : Nat} (h : n < 2 ^ 31) : zI n = -1 ↔ n = 12 := by
  unfold zI
  by_cases h0 : n = 12
  · rw [if_pos h0]; exact ⟨fun _ => h0, fun _ => rfl⟩
  · rw [if_neg h0]; exact ⟨fun q => absurd q (z_neg h), fun q => absurd q h0⟩
section ZB
variable {f : Nat → Int32} {hi : Nat → Nat} {R W k d c i h : Nat}
theorem z_rp : nI R * (nI c + 1) = nI (R * (c + 1)) := by rw [nI_1, pk_mul]
theorem z_small (hR : R ≤ 9) (hc : c < 12) : R * (c + 1) < 2 ^ 31 := by
  have : R * (c + 1) ≤ 9 * 12 := Nat.mul_le_mul hR (by omega)
  omega
theorem z_hi (hp : zP f hi) (hR : R ≤ 9) (hc : c < 12) (hh : h < 2 ^ 31) : hiF f (nI R) (nI c) (nI h) = nI (zH hi R c h) := by
  unfold hiF zH
  rw [if_neg (nI_pos (by omega)), if_neg (show ¬ (12 : Int32) ≤ nI c from nI_ge (b := 12) hc (by decide)), z_rp, nI_clamp (show c < 2 ^ 31 by omega), (hp c hc).1]
  by_cases q : h < R * (c + 1)
  · rw [if_pos q, if_pos ((nI_ltI hh (z_small hR hc)).mpr q)]
  · rw [if_neg q, if_neg (fun x => q ((nI_ltI hh (z_small hR hc)).mp x))]; rfl
theorem z_mhi (hp : zP f hi) (hR : R ≤ 9) (hc : c < 12) (hh : h < 2 ^ 31) : mhiF f (nI c) (nI h) (nI R) = nI (zH hi R c h) := by
  unfold mhiF zH
  rw [z_rp, nI_clamp (show c < 2 ^ 31 by omega), (hp c hc).1]
  by_cases q : h < R * (c + 1)
  · rw [if_pos q, if_pos ((nI_ltI hh (z_small hR hc)).mpr q)]
  · rw [if_neg q, if_neg (fun x => q ((nI_ltI hh (z_small hR hc)).mp x))]; rfl
theorem z_H9 (hp : zP f hi) (hc : c < 12) : zH hi R c h ≤ 9 := by
  unfold zH
  have := (hp c hc).2
  split <;> omega
theorem z_corn (hk : k < 5) (hd : 1 ≤ d) : cornN k (nI d) = nI (zC k d) := by
  have e : nI d - 1 = nI (d - 1) := pk_sub (a := d) (b := 1) hd
  match k, hk with
  | 0, _ => rfl
  | 1, _ => exact e
  | 2, _ => rfl
  | 3, _ => rfl
  | 4, _ => exact e
theorem z_C9 (hd : d ≤ 9) : zC k d ≤ 9 := by
  unfold zC
  split
  · omega
  · split
    · omega
    · split <;> omega
theorem z_fl (hp : zP f hi) (hR : R ≤ 9) (hk : k < 5) (hd : 1 ≤ d) (hd9 : d ≤ 9) (hc : c < 12) (hh : h < 2 ^ 31) : flP f (nI R) k (nI d) (nI c) (nI h) ↔ zF hi R (zC k d) c h := by
  unfold flP zF
  rw [z_hi hp hR hc hh, z_corn hk hd]
  have a := z_H9 (R := R) (h := h) hp hc
  have b := z_C9 (k := k) hd9
  rw [nI_ltI (by omega) (by omega)]
  omega
theorem z_mfl {r : Nat → Int32} {n : Nat} (hr0 : r (4 * n + 0) = nI k) (hr1 : r (4 * n + 1) = nI d) (hp : zP f hi) (hR : R ≤ 9) (hk : k < 5) (hd : 1 ≤ d) (hd9 : d ≤ 9) (hc : c < 12) (hh : h < 2 ^ 31) : mflF f r n (nI c) (nI h) (nI R) = if zF hi R (zC k d) c h then 1 else 0 := by
  unfold mflF
  rw [z_mhi hp hR hc hh]
  have a := z_H9 (R := R) (h := h) hp hc
  have b := z_C9 (k := k) hd9
  by_cases k3 : k = 3
  · subst k3
    rw [if_pos (by rw [hr0]; rfl), if_pos (show zF hi R (zC 3 d) c h from Nat.zero_le _)]
  · have n3 : ¬ r (4 * n + 0) = 3 := by
      rw [hr0]
      exact fun q => k3 ((nI_eq (b := 3) (by omega) (by decide)).mp q)
    have e : mneD r n = nI (zC k d) := by
      unfold mneD zC
      rw [hr0, hr1, if_neg k3]
      match k, hk with
      | 0, _ => exact Int32.sub_zero _
      | 1, _ => exact pk_sub (a := d) (b := 1) hd
      | 2, _ => exact Int32.sub_zero _
      | 4, _ => exact pk_sub (a := d) (b := 1) hd
    rw [if_neg n3, e]
    by_cases q : zF hi R (zC k d) c h
    · rw [if_pos q, if_neg (fun x => by have := (nI_ltI (by omega) (by omega)).mp x; unfold zF at q; omega)]
    · rw [if_neg q, if_pos ((nI_ltI (by omega) (by omega)).mpr (by unfold zF at q; omega))]
theorem z_S4 (hk : k < 5) (hi4 : i < 4) (hW : W < 5) : zS hi R W k d c i h ≤ 4 := by
  have := z_N4 k hk i hi4 W hW
  unfold zS
  split
  · omega
  · split
    · omega
    · split <;> omega
theorem z_SB (h0 : ¬ zS hi R W k d c i h = 0) : ¬ zB c i = 12 := by
  intro q
  exact h0 (by unfold zS; rw [if_pos q])
theorem z_SN (h0 : ¬ zS hi R W k d c i h = 0) : zS hi R W k d c i h = zN k i W := by
  unfold zS at h0 ⊢
  split
  · rename_i q; rw [if_pos q] at h0; exact absurd rfl h0
  · rename_i q
    rw [if_neg q] at h0
    split
    · rename_i q2; exact q2.symm
    · rename_i q2
      rw [if_neg q2] at h0
      split
      · rfl
      · rename_i q3; rw [if_neg q3] at h0; exact absurd rfl h0
theorem z_ht (hp : zP f hi) (hR : R ≤ 9) (hW : W < 5) (hk : k < 5) (hd : 1 ≤ d) (hd9 : d ≤ 9) (hc : c < 12) (hi4 : i < 4) (hh : h < 2 ^ 30) : htF f (nI R) (nI W) k (nI d) (nI c) (nI i) (nI h) = zO (zS hi R W k d c i h) := by
  have hN := z_N4 k hk i hi4 W hW
  have hB := z_B12 c hc i hi4
  unfold htF zS
  rw [z_be c hc i hi4, z_hf k hk i hi4 W hW]
  by_cases q1 : zB c i = 12
  · rw [if_pos q1, if_pos ((z_I (by omega)).mpr q1)]; rfl
  · rw [if_neg q1, if_neg (fun x => q1 ((z_I (by omega)).mp x))]
    by_cases q2 : zN k i W = 0
    · rw [if_pos q2, if_pos ((z_O (by omega)).mpr q2)]
      by_cases q3 : flP f (nI R) k (nI d) (nI c) (nI h)
      · rw [if_pos q3]; rfl
      · rw [if_neg q3]; rfl
    · rw [if_neg q2, if_neg (fun x => q2 ((z_O (by omega)).mp x)), show zI (zB c i) = nI (zB c i) from if_neg q1, show zO (zN k i W) = nI (zN k i W) from if_neg q2, nI_add]
      have e1 := z_fl (h := h) hp hR hk hd hd9 hc (by omega)
      have e2 := z_fl (c := zB c i) (h := h + zN k i W) hp hR hk hd hd9 (by omega) (by omega)
      by_cases q3 : zF hi R (zC k d) c h
      · rw [if_pos (e1.mpr q3)]
        by_cases q4 : zF hi R (zC k d) (zB c i) (h + zN k i W)
        · rw [if_pos (e2.mpr q4), if_pos ⟨q3, q4⟩]; exact (if_neg q2).symm
        · rw [if_neg (fun x => q4 (e2.mp x)), if_neg (fun x => q4 x.2)]; rfl
      · rw [if_neg (fun x => q3 (e1.mp x)), if_neg (fun x => q3 x.1)]; rfl
theorem z_mht {r : Nat → Int32} {n : Nat} (hr0 : r (4 * n + 0) = nI k) (hr1 : r (4 * n + 1) = nI d) (hp : zP f hi) (hR : R ≤ 9) (hW : W < 5) (hk : k < 5) (hd : 1 ≤ d) (hd9 : d ≤ 9) (hc : c < 12) (hi4 : i < 4) (hh : h < 2 ^ 30) : mhtF f r n (nI c) (nI h) (nI i) (nI W) (nI R) = zO (zS hi R W k d c i h) := by
  have hN := z_N4 k hk i hi4 W hW
  have hB := z_B12 c hc i hi4
  unfold mhtF zS
  rw [z_mbe c hc i hi4, hr0, z_mne k hk i hi4 W hW]
  by_cases q1 : zB c i = 12
  · rw [if_pos q1, if_pos ((z_I (by omega)).mpr q1)]; rfl
  · rw [if_neg q1, if_neg (fun x => q1 ((z_I (by omega)).mp x))]
    by_cases q2 : zN k i W = 0
    · rw [if_pos q2, if_pos ((z_O (by omega)).mpr q2)]; rfl
    · rw [if_neg q2, if_neg (fun x => q2 ((z_O (by omega)).mp x)), show zI (zB c i) = nI (zB c i) from if_neg q1, show zO (zN k i W) = nI (zN k i W) from if_neg q2, nI_add]
      rw [z_mfl hr0 hr1 hp hR hk hd hd9 hc (show h < 2 ^ 31 by omega), z_mfl hr0 hr1 hp hR hk hd hd9 (show zB c i < 12 by omega) (show h + zN k i W < 2 ^ 31 by omega)]
      by_cases q3 : zF hi R (zC k d) c h
      · rw [if_pos q3, if_neg (by decide)]
        by_cases q4 : zF hi R (zC k d) (zB c i) (h + zN k i W)
        · rw [if_pos q4, if_neg (by decide), if_pos ⟨q3, q4⟩]; exact (if_neg q2).symm
        · rw [if_neg q4, if_pos rfl, if_neg (fun x => q4 x.2)]; rfl
      · rw [if_neg q3, if_pos rfl, if_neg (fun x => q3 x.1)]; rfl
/-- the corn only falls -/
theorem z_mono {h' : Nat} (hle : h' ≤ h) (h0 : ¬ zS hi R W k d c i h = 0) : zS hi R W k d c i h' = zS hi R W k d c i h := by
  have H : ∀ c a b n, a ≤ b → zF hi R n c b → zF hi R n c a := by
    intro c a b n hab q
    unfold zF zH at q ⊢
    split at q
    · rw [if_pos (by omega)]; exact q
    · omega
  have e := z_SN h0
  unfold zS at h0 ⊢
  by_cases q1 : zB c i = 12
  · rw [if_pos q1] at h0; exact absurd rfl h0
  · rw [if_neg q1] at h0 ⊢
    by_cases q2 : zN k i W = 0
    · rw [if_pos q2] at h0; exact absurd rfl h0
    · rw [if_neg q2] at h0 ⊢
      by_cases q3 : zF hi R (zC k d) c h ∧ zF hi R (zC k d) (zB c i) (h + zN k i W)
      · rw [if_neg q1, if_neg q2, if_pos q3, if_pos ⟨H _ _ _ _ hle q3.1, H _ _ _ _ (by omega) q3.2⟩]
      · rw [if_neg q3] at h0; exact absurd rfl h0
end ZB
/-! bits: out of the kit's BITS.to-paste -/
def bt (x : Int32) (i : Nat) : Bool := x.toBitVec.getLsbD i
theorem b_ext {x y : Int32} (h : ∀ i, i < 32 → bt x i = bt y i) : x = y := Int32.toBitVec_inj.mp (BitVec.eq_of_getLsbD_eq (fun i hi => h i hi))
theorem b_or (x y : Int32) (i : Nat) : bt (x ||| y) i = (bt x i || bt y i) := by unfold bt; rw [Int32.toBitVec_or, BitVec.getLsbD_or]
theorem b_and (x y : Int32) (i : Nat) : bt (x &&& y) i = (bt x i && bt y i) := by unfold bt; rw [Int32.toBitVec_and, BitVec.getLsbD_and]
theorem b_big {x : Int32} {i : Nat} (h : 32 ≤ i) : bt x i = false := BitVec.getLsbD_of_ge _ _ h
theorem b_0 (i : Nat) : bt 0 i = false := BitVec.getLsbD_zero
theorem s_l : ∀ n, n < 32 → ((nI n &&& 31).toBitVec.smod 32).toNat = n := by decide +kernel
theorem b_shl (n : Nat) (hn : n < 32) (x : Int32) {i : Nat} (hi : i < 32) : bt (x <<< (nI n &&& 31)) i = (decide (n ≤ i) && bt x (i - n)) := by
  unfold bt
  rw [Int32.toBitVec_shiftLeft]
  show (x.toBitVec <<< ((nI n &&& 31).toBitVec.smod 32).toNat).getLsbD i = _
  rw [s_l n hn, BitVec.getLsbD_shiftLeft]
  rcases Nat.lt_or_ge i n with h | h
  · simp [h, Nat.not_le.mpr h]
  · simp [hi, h, Nat.not_lt.mpr h]
theorem b_sshr (n : Nat) (hn : n < 32) (x : Int32) {i : Nat} (hi : i < 32) : bt (x >>> (nI n &&& 31)) i = if n + i < 32 then bt x (n + i) else bt x 31 := by
  unfold bt
  rw [Int32.toBitVec_shiftRight]
  show (x.toBitVec.sshiftRight ((nI n &&& 31).toBitVec.smod 32).toNat).getLsbD i = _
  rw [s_l n hn, BitVec.getLsbD_sshiftRight, BitVec.msb_eq_getLsbD_last]
  simp [hi]
theorem z_b1 (i : Nat) : bt 1 i = decide (i = 0) := by
  rcases Nat.lt_or_ge i 32 with h | h
  · exact (by decide +kernel : ∀ i, i < 32 → bt 1 i = decide (i = 0)) i h
  · rw [b_big h, decide_eq_false (by omega)]
theorem z_one {c i : Nat} (hc : c < 32) (hi : i < 32) : bt ((1 : Int32) <<< (nI c &&& 31)) i = decide (i = c) := by
  rw [b_shl c hc 1 hi, z_b1]
  by_cases h : i = c
  · subst h; simp
  · rw [decide_eq_false h]
    by_cases h2 : c ≤ i
    · rw [decide_eq_false (show ¬ i - c = 0 by omega), Bool.and_false]
    · rw [decide_eq_false h2, Bool.false_and]
theorem z_bit {x : Int32} {c : Nat} (hc : c < 32) : (x >>> (nI c &&& 31)) &&& 1 = if bt x c = true then 1 else 0 := by
  apply b_ext
  intro i hi
  rw [b_and, z_b1, b_sshr c hc x hi]
  by_cases h : i = 0
  · subst h
    rw [Nat.add_zero, if_pos hc, decide_eq_true rfl, Bool.and_true]
    by_cases q : bt x c = true
    · rw [if_pos q, q]; rfl
    · rw [if_neg q, b_0]; simpa using q
  · rw [decide_eq_false h, Bool.and_false]
    by_cases q : bt x c = true
    · rw [if_pos q, z_b1, decide_eq_false h]
    · rw [if_neg q, b_0]
theorem z_bit0 {x : Int32} {c : Nat} (hc : c < 32) : (x >>> (nI c &&& 31)) &&& 1 = 0 ↔ bt x c = false := by
  rw [z_bit hc]
  by_cases q : bt x c = true
  · rw [if_pos q, q]; exact ⟨fun h => absurd h (by decide), fun h => absurd h (by decide)⟩
  · rw [if_neg q]; exact ⟨fun _ => by simpa using q, fun _ => rfl⟩
theorem z_bit1 {x : Int32} {c : Nat} (hc : c < 32) : (x >>> (nI c &&& 31)) &&& 1 = 1 ↔ bt x c = true := by
  rw [z_bit hc]
  by_cases q : bt x c = true
  · rw [if_pos q]; exact ⟨fun _ => q, fun _ => rfl⟩
  · rw [if_neg q]; exact ⟨fun h => absurd h (by decide), fun h => absurd h q⟩
