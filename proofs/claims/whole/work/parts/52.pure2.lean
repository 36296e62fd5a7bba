/-! voyages: labels (hour, first way), what is reached, a table that is closed -/
def zL (h : Nat) (f : Int32) (h' : Nat) (f' : Int32) : Prop := h < h' ∨ (h = h' ∧ f ≤ f')
def zR (hi : Nat → Nat) (R W k d fr now : Nat) (c h : Nat) (f : Int32) : Prop := ∀ P : Nat → Nat → Int32 → Prop, P fr now (-1) → (∀ c h f i, c < 12 → i < 4 → P c h f → ¬ zS hi R W k d c i h = 0 → P (zB c i) (h + zS hi R W k d c i h) (if c = fr then nI i else f)) → P c h f
def zT (hi : Nat → Nat) (R W k d fr now : Nat) (ok : Nat → Prop) (hr : Nat → Nat) (fw : Nat → Int32) : Prop :=
  (ok fr ∧ hr fr = now ∧ fw fr = -1) ∧ (∀ c, c < 12 → ok c → zR hi R W k d fr now c (hr c) (fw c)) ∧
  (∀ c i, c < 12 → i < 4 → ok c → ¬ zS hi R W k d c i (hr c) = 0 → ok (zB c i) ∧ zL (hr (zB c i)) (fw (zB c i)) (hr c + zS hi R W k d c i (hr c)) (if c = fr then nI i else fw c))
theorem zL_trans {h1 h2 h3 : Nat} {f1 f2 f3 : Int32} (a : zL h1 f1 h2 f2) (b : zL h2 f2 h3 f3) : zL h1 f1 h3 f3 := by
  rcases a with a | ⟨a, a'⟩ <;> rcases b with b | ⟨b, b'⟩
  · exact Or.inl (by omega)
  · exact Or.inl (by omega)
  · exact Or.inl (by omega)
  · exact Or.inr ⟨by omega, Int32.le_trans a' b'⟩
theorem zL_anti {h1 h2 : Nat} {f1 f2 : Int32} (a : zL h1 f1 h2 f2) (b : zL h2 f2 h1 f1) : h1 = h2 ∧ f1 = f2 := by
  rcases a with a | ⟨a, a'⟩ <;> rcases b with b | ⟨b, b'⟩
  · omega
  · omega
  · omega
  · exact ⟨a, Int32.le_antisymm a' b'⟩
section ZT
variable {hi : Nat → Nat} {R W k d fr now : Nat}
theorem zR_0 : zR hi R W k d fr now fr now (-1) := fun _ h _ => h
theorem zR_s {c h i : Nat} {f : Int32} (hc : c < 12) (hi4 : i < 4) (a : zR hi R W k d fr now c h f) (h0 : ¬ zS hi R W k d c i h = 0) : zR hi R W k d fr now (zB c i) (h + zS hi R W k d c i h) (if c = fr then nI i else f) :=
  fun P p0 ps => ps c h f i hc hi4 (a P p0 ps) h0
theorem zB_lt {c i h : Nat} (hc : c < 12) (hi4 : i < 4) (h0 : ¬ zS hi R W k d c i h = 0) : zB c i < 12 := by
  have h1 := z_SB h0
  have h2 := z_B12 c hc i hi4
  omega
theorem zT_le {ok : Nat → Prop} {hr : Nat → Nat} {fw : Nat → Int32} (hf : fr < 12) (t : zT hi R W k d fr now ok hr fw) {c h : Nat} {f : Int32} (a : zR hi R W k d fr now c h f) : c < 12 ∧ ok c ∧ zL (hr c) (fw c) h f := by
  refine a (fun c h f => c < 12 ∧ ok c ∧ zL (hr c) (fw c) h f) ⟨hf, t.1.1, Or.inr ⟨t.1.2.1, by rw [t.1.2.2]; exact Int32.le_refl _⟩⟩ ?_
  intro c h f i hc hi4 ⟨_, hok, hl⟩ h0
  have hle : hr c ≤ h := by rcases hl with q | q <;> omega
  have e := z_mono hle h0
  obtain ⟨o1, l1⟩ := t.2.2 c i hc hi4 hok (by rw [e]; exact h0)
  refine ⟨zB_lt hc hi4 h0, o1, zL_trans l1 ?_⟩
  rw [e]
  rcases hl with q | ⟨q, q'⟩
  · exact Or.inl (by omega)
  · refine Or.inr ⟨by omega, ?_⟩
    by_cases hcf : c = fr
    · rw [if_pos hcf, if_pos hcf]; exact Int32.le_refl _
    · rw [if_neg hcf, if_neg hcf]; exact q'
theorem zT_uniq {ok1 ok2 : Nat → Prop} {hr1 hr2 : Nat → Nat} {fw1 fw2 : Nat → Int32} (hf : fr < 12) (t1 : zT hi R W k d fr now ok1 hr1 fw1) (t2 : zT hi R W k d fr now ok2 hr2 fw2) {c : Nat} (hc : c < 12) (h : ok1 c) : ok2 c ∧ hr1 c = hr2 c ∧ fw1 c = fw2 c := by
  obtain ⟨-, o2, l2⟩ := zT_le hf t2 (t1.2.1 c hc h)
  obtain ⟨-, -, l1⟩ := zT_le hf t1 (t2.2.1 c hc o2)
  have := zL_anti l1 l2
  exact ⟨o2, this⟩
end ZT
