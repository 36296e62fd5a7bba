section R4
variable {sc : Nat → Int32} {ar : Nat → Nat → Int32} {hv : HV} {hi kk dd FF cc hh : Nat → Nat} {R H W Hn Sn Pn : Nat}
theorem hiv_eq (h : zRL sc ar hv hi kk dd FF cc hh R H W Hn Sn Pn) {o j : Nat} (ho : o < 6) (hj : j < 3) : hiV hv (nI o) (nI j) = if ordN o j < Hn then some (kk (ordN o j), nI (dd (ordN o j)), nI (FF (ordN o j)), ar 30 (4 * ordN o j + 3)) else none := by
  obtain ⟨-, -, -, -, -, -, -, -, -, hrow, hno, -⟩ := h
  obtain ⟨e, hl⟩ := nu_all o ho j hj
  unfold hiV
  rw [e, if_neg (nI_pos (by omega)), if_pos (show nI (ordN o j) < 3 from nI_lt (b := 3) hl (by decide)), nI_clamp (show ordN o j < 2 ^ 31 by omega)]
  by_cases q : ordN o j < Hn
  · rw [if_pos q]; exact (hrow _ q).2.2.2.2
  · rw [if_neg q]; exact hno _ (by omega) hl
theorem run_eq (h : zRL sc ar hv hi kk dd FF cc hh R H W Hn Sn Pn) {o c : Nat} (ho : o < 6) (hc : c < 12) (q : HF) : ∀ j, j ≤ 3 → (hmP (ar 24) (nI R) (nI W) hv (nI c) o (0, nI H, q) j).1 = (evF (vyg hi R W kk dd FF c) H (LL Hn o j)).1 ∧ (hmP (ar 24) (nI R) (nI W) hv (nI c) o (0, nI H, q) j).2.1 = nI (evF (vyg hi R W kk dd FF c) H (LL Hn o j)).2 := by
  have hR : R ≤ 9 := h.1.2.2
  have hH : H ≤ 999 := h.2.1.2.2
  have hW : W < 5 := h.2.2.1.2.2
  have hg : vgB (vyg hi R W kk dd FF c) Hn := vyg_B hR hW (rl_Z h) hc
  intro j
  induction j with
  | zero => intro _; exact ⟨rfl, rfl⟩
  | succ j ih =>
    intro hj
    obtain ⟨e1, e2⟩ := ih (by omega)
    have bd := ev_bd hg hH o j (by omega)
    rw [LL_s, hmP, hiv_eq h ho (show j < 3 by omega)]
    generalize hmP (ar 24) (nI R) (nI W) hv (nI c) o (0, nI H, q) j = A at e1 e2 ⊢
    by_cases hk : ordN o j < Hn
    · rw [if_pos hk, if_pos hk, evF_s]
      generalize evF (vyg hi R W kk dd FF c) H (LL Hn o j) = p at e1 e2 bd ⊢
      dsimp only
      rw [e1, e2, (at_vy h hk hc hR hW (show p.2 < 90000 by omega) A.2.2).1]
      unfold evS
      have eg : vyg hi R W kk dd FF c (ordN o j) p.2 = (vyQ hi R W (kk (ordN o j)) (dd (ordN o j)) (FF (ordN o j)) p.2).1 c := rfl
      rw [eg]
      have hb := vy_b2 h hk hc hR hW (show p.2 < 90000 by omega)
      generalize (vyQ hi R W (kk (ordN o j)) (dd (ordN o j)) (FF (ordN o j)) p.2).1 c = v at hb ⊢
      by_cases g0 : v = -1
      · rw [if_pos g0, if_pos g0, if_pos g0]
        exact ⟨rfl, rfl⟩
      · rw [if_neg g0, if_neg g0, if_neg g0]
        refine ⟨rfl, ?_⟩
        rcases hb with w | ⟨h', w1, w2, w3⟩
        · exact absurd w g0
        · show v = nI v.toNatClampNeg
          rw [w3, nI_clamp (by omega)]
    · rw [if_neg hk, if_neg hk, List.append_nil]
      exact ⟨e1, e2⟩
theorem hm_eq (h : zRL sc ar hv hi kk dd FF cc hh R H W Hn Sn Pn) {c : Nat} (hc : c < 12) (q : HF) : ∀ i, i ≤ 6 → (hmN (ar 24) (nI R) (nI W) hv (nI c) (nI H) q i).1 = (cfN (vyg hi R W kk dd FF c) H Hn i).1 ∧ (hmN (ar 24) (nI R) (nI W) hv (nI c) (nI H) q i).2.1 = (cfN (vyg hi R W kk dd FF c) H Hn i).2.1 ∧ (hmN (ar 24) (nI R) (nI W) hv (nI c) (nI H) q i).2.2.1 = nI (cfN (vyg hi R W kk dd FF c) H Hn i).2.2 := by
  intro i
  induction i with
  | zero => intro _; exact ⟨rfl, rfl, rfl⟩
  | succ i ih =>
    intro hi6
    obtain ⟨a1, a2, a3⟩ := ih (by omega)
    rw [hmN, cfN]
    generalize hmN (ar 24) (nI R) (nI W) hv (nI c) (nI H) q i = A at a1 a2 a3 ⊢
    obtain ⟨b1, b2⟩ := run_eq h (show i < 6 by omega) hc A.2.2.2 3 (Nat.le_refl _)
    generalize hmP (ar 24) (nI R) (nI W) hv (nI c) i (0, nI H, A.2.2.2) 3 = B at b1 b2 ⊢
    generalize cfN (vyg hi R W kk dd FF c) H Hn i = q' at a1 a2 a3 ⊢
    generalize evF (vyg hi R W kk dd FF c) H (LL Hn i 3) = p at b1 b2 ⊢
    unfold hmS pkS
    rw [a1, b1, a2, b2]
    by_cases h1 : q'.1 < p.1
    · rw [if_pos h1, if_pos h1]; exact ⟨rfl, rfl, rfl⟩
    · rw [if_neg h1, if_neg h1]
      by_cases h2 : p.1 = q'.1
      · rw [if_pos h2, if_pos h2]
        by_cases h3 : nI p.2 < q'.2.1
        · rw [if_pos h3, if_pos h3]; exact ⟨rfl, rfl, rfl⟩
        · rw [if_neg h3, if_neg h3]; exact ⟨rfl, rfl, a3⟩
      · rw [if_neg h2, if_neg h2]; exact ⟨rfl, rfl, a3⟩
theorem w_out01 {w : Int32} (h0 : ¬ w = 0) (h1 : ¬ w = 1) : niF w 0 1 = 0 := by
  unfold niF
  by_cases q1 : w < 0
  · rw [if_pos q1]
  · rw [if_neg q1]
    by_cases q2 : 1 < w
    · rw [if_pos q2]
    · exact (w01 q1 q2 h0 h1).elim
theorem eq_home (h : zRL sc ar hv hi kk dd FF cc hh R H W Hn Sn Pn) (x w : Int32) : homF sc ar hv x w = mhoF sc (fun c => vyg hi R W kk dd FF c) H Hn (cds Hn) x w := by
  have hme := fun c (hc : c < 12) q => hm_eq h hc q 6 (Nat.le_refl _)
  have hz := rl_Z h
  obtain ⟨⟨a16, a21, hR⟩, ⟨a3, a22, hH⟩, ⟨a17, a23, hW⟩, ⟨a2, a25, hH3⟩, -⟩ := h
  unfold homF mhoF
  rw [a16, a21, a3, a17, a25]
  rcases c_cs x with q | ⟨q1, q2, q3⟩ | ⟨n, hn, rfl, q1, q2, q3, q4⟩
  · rw [if_pos q, if_pos q]; split <;> rfl
  · rw [if_neg q1, if_pos q2, if_neg q1, if_pos q3]; split <;> rfl
  · rw [if_neg q1, if_neg q2, if_neg q1, if_neg q3, q4]
    by_cases r0 : R = 0
    · rw [if_pos ((z_le0 hR).mpr r0), if_pos ((z_eq0 hR).mpr r0)]
    · rw [if_neg (fun q => r0 ((z_le0 hR).mp q)), if_neg (fun q => r0 ((z_eq0 hR).mp q))]
      have hg : vgB (vyg hi R W kk dd FF n) Hn := vyg_B hR hW hz hn
      obtain ⟨c1, c2, c3, c4, c5⟩ := home_eq hg hH3 hH
      obtain ⟨d1, d2, d3⟩ := hme n hn (ar 19, ar 20)
      generalize hmN (ar 24) (nI R) (nI W) hv (nI n) (nI H) (ar 19, ar 20) 6 = A at d1 d2 d3 ⊢
      rw [← c1] at d1
      rw [← c2] at d2
      generalize cfN (vyg hi R W kk dd FF n) H Hn 6 = Q at c3 c4 c5 d3
      generalize hM : mlhN Hn (vyg hi R W kk dd FF n) H (cds Hn) = M at c3 d1 d2 ⊢
      by_cases w0 : w = 0
      · subst w0
        rw [if_pos rfl, if_neg (show ¬ niF 0 0 1 = 0 by decide)]
        unfold hmR mhoR
        rw [if_pos (show hmA 0 = 0 by decide), if_pos rfl, if_pos rfl]
        exact d1
      · by_cases w1 : w = 1
        · subst w1
          rw [if_neg w0, if_pos rfl, if_neg (show ¬ niF 1 0 1 = 0 by decide)]
          unfold hmR mhoR
          rw [if_pos (show hmA 1 = 0 by decide), if_neg w0, if_neg w0, if_pos rfl]
          exact d2
        · rw [if_neg w0, if_neg w1, if_pos (w_out01 w0 w1)]
          by_cases b1 : w < 10
          · rw [if_pos (show hmA w = 0 by unfold hmA; rw [if_pos b1]), if_pos (show niF w 10 12 = 0 by unfold niF; rw [if_pos b1])]
          · by_cases b2 : 12 < w
            · have b3 : ¬ w < 13 := by
                rw [Int32.lt_iff_toInt_lt] at b2 ⊢
                have e0 : (12 : Int32).toInt = 12 := rfl
                have e1 : (13 : Int32).toInt = 13 := rfl
                omega
              rw [if_pos (show hmA w = 0 by unfold hmA; rw [if_neg b1, if_neg b3]), if_pos (show niF w 10 12 = 0 by unfold niF; rw [if_neg b1, if_pos b2])]
            · have b3 : w < 13 := by
                rw [Int32.lt_iff_toInt_lt] at b2 ⊢
                have e0 : (12 : Int32).toInt = 12 := rfl
                have e1 : (13 : Int32).toInt = 13 := rfl
                omega
              have ea : hmA w = 1 := by unfold hmA; rw [if_neg b1, if_pos b3]
              rw [if_neg (show ¬ hmA w = 0 by rw [ea]; decide), if_neg (show ¬ niF w 10 12 = 0 by unfold niF; rw [if_neg b1, if_neg b2]; decide)]
              unfold hmR mhoR
              rw [if_neg (show ¬ hmA w = 0 by rw [ea]; decide), if_neg w0, if_neg w1, a2, d3]
              obtain ⟨j, hj, ej⟩ := w1012 b1 b2
              rw [ej, nI_clamp (show j < 2 ^ 31 by omega)]
              by_cases hjn : j < Hn
              · rw [if_pos (nI_lt hjn (by omega)), if_neg (nI_ge hjn (by omega)), (nu_all _ c4 j hj).1, c3, c5 j hjn]
              · rw [if_neg (nI_nlt (by omega) (by omega)), if_pos (nI_le (by omega) (by omega))]
end R4
