section R2
variable {sc : Nat → Int32} {ar : Nat → Nat → Int32} {hv : HV} {hi kk dd FF cc hh : Nat → Nat} {R H W Hn Sn Pn : Nat}
theorem at_nI {f : Nat → Int32} {n : Nat} (hn : n < 12) : atF f (nI n) = f n := by
  unfold atF
  rw [if_neg (nI_pos (by omega)), if_neg (show ¬ (12 : Int32) ≤ nI n from nI_ge (b := 12) hn (by decide)), nI_clamp (show n < 2 ^ 31 by omega)]
theorem at_vy (h : zRL sc ar hv hi kk dd FF cc hh R H W Hn Sn Pn) {n c r wd g : Nat} (hn : n < Hn) (hc : c < 12) (hr : r ≤ 9) (hwd : wd < 5) (hg : g < 90000) (q : HF) :
    atF (plF (ar 24) (nI r) (nI wd) (kk n) (nI (dd n)) q (nI (FF n)) (nI g)).1 (nI c) = (vyQ hi r wd (kk n) (dd n) (FF n) g).1 c ∧ atF (plF (ar 24) (nI r) (nI wd) (kk n) (nI (dd n)) q (nI (FF n)) (nI g)).2 (nI c) = (vyQ hi r wd (kk n) (dd n) (FF n) g).2 c := by
  obtain ⟨-, -, -, -, -, -, -, ⟨hp, -⟩, -, hrow, -⟩ := h
  obtain ⟨⟨a, b, d, hF⟩, -⟩ := hrow n hn
  rw [at_nI hc, at_nI hc]
  exact vy_cls hp hr hwd a b d hF hg q hc
theorem vy_b2 (h : zRL sc ar hv hi kk dd FF cc hh R H W Hn Sn Pn) {n c r wd g : Nat} (hn : n < Hn) (hc : c < 12) (hr : r ≤ 9) (hwd : wd < 5) (hg : g < 90000) : (vyQ hi r wd (kk n) (dd n) (FF n) g).1 c = -1 ∨ ∃ h, g ≤ h ∧ h ≤ g + 48 ∧ (vyQ hi r wd (kk n) (dd n) (FF n) g).1 c = nI h := by
  obtain ⟨-, -, -, -, -, -, -, ⟨hp, -⟩, -, hrow, -⟩ := h
  obtain ⟨⟨a, b, d, hF⟩, -⟩ := hrow n hn
  exact vy_bd hp hr hwd a b d hF hg hc
theorem eq_voyage (h : zRL sc ar hv hi kk dd FF cc hh R H W Hn Sn Pn) (x c w : Int32) : voF sc ar hv x c w = mvoF sc hi kk dd FF R H W x c w := by
  unfold voF mvoF
  rcases rl_hv h x with ⟨e, q | ⟨q1, q2⟩⟩ | ⟨n, hn, rfl, e, q1, q2, q3⟩
  · rw [e, if_pos q]
  · rw [e, if_neg q1, if_pos q2]
  · rw [e, if_neg q1, if_neg q2, q3]
    dsimp only
    have hvy := fun m (hm : m < 12) => at_vy h hn hm (r := R) (wd := W) (g := H)
    obtain ⟨⟨a16, a21, hR⟩, ⟨a3, a22, hH⟩, ⟨a17, a23, hW⟩, -⟩ := h
    rw [a16, a21, a17, a3]
    rcases c_cs c with q | ⟨p1, p2, p3⟩ | ⟨m, hm, rfl, p1, p2, p3, p4⟩
    · rw [if_pos q, if_pos q]; split <;> rfl
    · rw [if_neg p1, if_pos p2, if_neg p1, if_pos p3]; split <;> rfl
    · rw [if_neg p1, if_neg p2, if_neg p1, if_neg p3, p4]
      by_cases r0 : R = 0
      · rw [if_pos ((z_le0 hR).mpr r0), if_pos ((z_eq0 hR).mpr r0)]
      · rw [if_neg (fun q => r0 ((z_le0 hR).mp q)), if_neg (fun q => r0 ((z_eq0 hR).mp q)), (hvy m hm hR hW (by omega) _).1, (hvy m hm hR hW (by omega) _).2]
theorem eq_latest (h : zRL sc ar hv hi kk dd FF cc hh R H W Hn Sn Pn) {x c v : Int32} (hl : laP sc ar hv x c v) : v = mlaX sc hi kk dd FF H W x c := by
  unfold laP at hl
  unfold mlaX
  rcases rl_hv h x with ⟨e, q | ⟨q1, q2⟩⟩ | ⟨n, hn, rfl, e, q1, q2, q3⟩
  · rw [e] at hl; rw [if_pos q]; exact hl
  · rw [e] at hl; rw [if_neg q1, if_pos q2]; exact hl
  · rw [e] at hl
    rw [if_neg q1, if_neg q2, q3]
    dsimp only at hl
    have hvy := fun m (hm : m < 12) r (hr : r ≤ 9) => at_vy h hn hm (r := r) hr (wd := W) (g := H)
    obtain ⟨⟨a16, a21, hR⟩, ⟨a3, a22, hH⟩, ⟨a17, a23, hW⟩, -⟩ := h
    rw [a16, a17, a3] at hl
    rw [a21]
    rcases c_cs c with q | ⟨p1, p2, p3⟩ | ⟨m, hm, rfl, p1, p2, p3, p4⟩
    · rw [if_pos q] at hl ⊢
      split at hl <;> exact hl
    · rw [if_neg p1, if_pos p2] at hl
      rw [if_neg p1, if_pos p3]
      split at hl <;> exact hl
    · rw [if_neg p1, if_neg p2] at hl
      rw [if_neg p1, if_neg p3, p4]
      by_cases r0 : R = 0
      · rw [if_pos ((z_le0 hR).mpr r0)] at hl
        rw [if_pos ((z_eq0 hR).mpr r0)]
        exact hl
      · rw [if_neg (fun q => r0 ((z_le0 hR).mp q))] at hl
        rw [if_neg (fun q => r0 ((z_eq0 hR).mp q))]
        have key : ∀ i, i < 9 → atF (laQ (ar 24) (nI W) (kk n) (nI (dd n)) (ar 19, ar 20) (nI (FF n)) (nI H) (i + 1)).1 (nI m) = (vyQ hi (i + 1) W (kk n) (dd n) (FF n) H).1 m := fun i hi => by
          rw [laQ]
          exact (hvy m hm (i + 1) (by omega) hW (by omega) _).1
        rcases hl with ⟨i, hi9, rfl, h1, h2⟩ | ⟨rfl, h2⟩
        · exact (mlaN_at (g := fun r => (vyQ hi r W (kk n) (dd n) (FF n) H).1 m) hi9 (fun j hj => (key j (by omega)).symm.trans (h2 j hj)) (fun q => h1 ((key i hi9).trans q))).symm
        · exact (mlaN_no (g := fun r => (vyQ hi r W (kk n) (dd n) (FF n) H).1 m) 9 (fun j hj => (key j hj).symm.trans (h2 j hj))).symm
theorem eq_bestWind (h : zRL sc ar hv hi kk dd FF cc hh R H W Hn Sn Pn) (x c : Int32) : bwF sc ar hv x c = mbwF sc hi kk dd FF R H x c := by
  unfold bwF mbwF
  rcases rl_hv h x with ⟨e, q | ⟨q1, q2⟩⟩ | ⟨n, hn, rfl, e, q1, q2, q3⟩
  · rw [e, if_pos q]
  · rw [e, if_neg q1, if_pos q2]
  · rw [e, if_neg q1, if_neg q2, q3]
    dsimp only
    have hvy := fun m (hm : m < 12) (hR : R ≤ 9) wd (hwd : wd < 5) => at_vy h hn hm (r := R) hR (wd := wd) hwd (g := H)
    have hvb := fun m (hm : m < 12) (hR : R ≤ 9) wd (hwd : wd < 5) => vy_b2 h hn hm (r := R) hR (wd := wd) hwd (g := H)
    obtain ⟨⟨a16, a21, hR⟩, ⟨a3, a22, hH⟩, -⟩ := h
    rw [a16, a21, a3]
    rcases c_cs c with q | ⟨p1, p2, p3⟩ | ⟨m, hm, rfl, p1, p2, p3, p4⟩
    · rw [if_pos q, if_pos q]; split <;> rfl
    · rw [if_neg p1, if_pos p2, if_neg p1, if_pos p3]; split <;> rfl
    · rw [if_neg p1, if_neg p2, if_neg p1, if_neg p3, p4]
      by_cases r0 : R = 0
      · rw [if_pos ((z_le0 hR).mpr r0), if_pos ((z_eq0 hR).mpr r0)]
      · rw [if_neg (fun q => r0 ((z_le0 hR).mp q)), if_neg (fun q => r0 ((z_eq0 hR).mp q))]
        have key : ∀ i, i < 5 → atF (bwQ (ar 24) (nI R) (kk n) (nI (dd n)) (ar 19, ar 20) (nI (FF n)) (nI H) (i + 1)).1 (nI m) = (vyQ hi R i (kk n) (dd n) (FF n) H).1 m := fun i hi => by
          rw [bwQ]
          exact (hvy m hm hR i hi (by omega) _).1
        have inv : ∀ i, i ≤ 5 → ((bwN (ar 24) (nI R) (kk n) (nI (dd n)) (ar 19, ar 20) (nI (FF n)) (nI H) (nI m) i).1 = -1 ∧ mbwN (fun w => (vyQ hi R w (kk n) (dd n) (FF n) H).1 m) i = (-1, 100000)) ∨ (¬ (bwN (ar 24) (nI R) (kk n) (nI (dd n)) (ar 19, ar 20) (nI (FF n)) (nI H) (nI m) i).1 = -1 ∧ mbwN (fun w => (vyQ hi R w (kk n) (dd n) (FF n) H).1 m) i = bwN (ar 24) (nI R) (kk n) (nI (dd n)) (ar 19, ar 20) (nI (FF n)) (nI H) (nI m) i) := by
          intro i
          induction i with
          | zero => intro _; exact Or.inl ⟨rfl, rfl⟩
          | succ i ih =>
            intro hi5
            have ih := ih (by omega)
            rw [bwN, mbwN, key i (by omega)]
            generalize bwN (ar 24) (nI R) (kk n) (nI (dd n)) (ar 19, ar 20) (nI (FF n)) (nI H) (nI m) i = A at ih ⊢
            by_cases g0 : (vyQ hi R i (kk n) (dd n) (FF n) H).1 m = -1
            · rw [if_pos g0, if_pos g0]; exact ih
            · rw [if_neg g0, if_neg g0]
              rcases ih with ⟨b1, b2⟩ | ⟨b1, b2⟩
              · rw [if_pos b1, b2]
                have hlt : (vyQ hi R i (kk n) (dd n) (FF n) H).1 m < 100000 := by
                  rcases hvb m hm hR i (by omega) (by omega) with w | ⟨h', w1, w2, w3⟩
                  · exact absurd w g0
                  · rw [w3]; exact nI_lt (b := 100000) (by omega) (by decide)
                rw [if_pos hlt]
                exact Or.inr ⟨z_neg (by omega), rfl⟩
              · rw [if_neg b1, b2]
                split
                · exact Or.inr ⟨z_neg (by omega), rfl⟩
                · exact Or.inr ⟨b1, rfl⟩
        rcases inv 5 (Nat.le_refl _) with ⟨b1, b2⟩ | ⟨b1, b2⟩
        · rw [b1, b2]
        · rw [b2]
theorem eq_start (h : zRL sc ar hv hi kk dd FF cc hh R H W Hn Sn Pn) {x v : Int32} (hl : stP sc ar hv x v) : mstaF sc (fun k c => stQ hi R W (kk k) (dd k) (ar 35) (nI k) Sn c) x v := by
  unfold stP at hl
  unfold mstaF
  rcases rl_hv h x with ⟨e, q | ⟨q1, q2⟩⟩ | ⟨n, hn, rfl, e, q1, q2, q3⟩
  · rw [e] at hl; rw [if_pos q]; exact hl
  · rw [e] at hl; rw [if_neg q1, if_pos q2]; exact hl
  · rw [e] at hl
    rw [if_neg q1, if_neg q2, q3]
    obtain ⟨⟨a16, -, hR⟩, -, ⟨a17, -, hW⟩, -, ⟨a4, -, hS6⟩, -, -, ⟨hp, -⟩, -, hrow, -, hse⟩ := h
    obtain ⟨⟨a, b, d, -⟩, -⟩ := hrow n hn
    dsimp only at hl
    obtain ⟨L, hL, eL, hv'⟩ := hl
    rw [a4] at eL hv'
    rw [hv', a16, a17]
    exact st_eq hse hS6 hp hR hW a b d hL eL
end R2
