/-! ===== show, pass, shift ===== -/
set_option maxRecDepth 100000 in
theorem imax0' {x : Int32} (h : 0 ≤ x) : imax 0 x = x := by
  unfold imax
  by_cases c : 0 < x
  · rw [if_pos c]
  · rw [if_neg c]; exact Int32.le_antisymm h (Int32.not_lt.mp c)
section
variable {f : Nat} {c m : Mm} {q : Option Nat} {s k : Nat}
set_option maxRecDepth 100000 in
theorem c_answer (hB : JB f c m) (hs : s < 2) (hk : k < 8) : mI c 5 (2 * k + s) = mI m 47 (51 + 2 * k + s) := by
  have := hB.2.2.2.2.2.2.2.2.2.1 (2 * k + s) (by omega)
  rw [this]; congr 1; omega
set_option maxRecDepth 100000 in
theorem rl_ans : ∀ k, k < 8 → ∀ s, s < 2 → rlh (51 + 2 * k + s) = (-1, 7) := by decide +kernel
set_option maxRecDepth 100000 in
theorem sgn_cases {x : Int32} (h : rg x (-1) 7) : x = -1 ∨ ∃ k, k < 8 ∧ x = nI k := by
  unfold rg at h
  by_cases z : x.toInt = -1
  · left
    exact Int32.toInt_inj.mp (z.trans (by decide))
  · right
    obtain ⟨k, hk, e⟩ := rg_nI (x := x) (M := 7) ⟨by omega, h.2⟩ (by decide)
    exact ⟨k, by omega, e⟩
set_option maxRecDepth 100000 in
theorem J_showgo (N M : Nat) : ∀ (r n : Nat) (g : Int32) (s : Nat) (c m : Mm), n + r = 16 → s < 2 → (g = -1 ∨ ∃ k, k < 8 ∧ g = nI k) → JB f c m → JL c m q → JQ c q → ∃ w c' m', w ≤ 16 ∧ rX7_doShow_25 (N + r + 1) c 13 f (nI n) g (nI s) = some (nI w, c') ∧ rX9_showIt_8 (M + r + 1) m 45 (nI n) g (nI s) = some (nI w, m') ∧ AF f c c' ∧ AM m m' ∧ JB f c' m' ∧ mI m' 47 4 = mI m 47 4 := by
  intro r
  induction r with
  | zero =>
    intro n g s c m hn hs hg hB hL hQ
    have e : n = 16 := by omega
    subst e
    refine ⟨16, c, m, Nat.le_refl _, ?_, ?_, AF_rfl, AM_rfl, hB, rfl⟩
    · show bX7_doShow_25 _ c 13 f (nI 16) g (nI s) = _
      unfold bX7_doShow_25
      rw [if_pos (by decide)]
    · show bX9_showIt_8 _ m 45 (nI 16) g (nI s) = _
      unfold bX9_showIt_8
      by_cases z : g = -1
      · rw [if_pos z]
      · rw [if_neg z, if_pos (by decide)]
  | succ r ih =>
    intro n g s c m hn hs hg hB hL hQ
    have h1 := hB.1
    have h2 := hB.2.1
    have hF := hB.2.2.1
    show ∃ w c' m', w ≤ 16 ∧ bX7_doShow_25 (rX7_doShow_25 (N + r + 1)) c 13 f (nI n) g (nI s) = _ ∧ bX9_showIt_8 (rX9_showIt_8 (M + r + 1)) m 45 (nI n) g (nI s) = _ ∧ _
    unfold bX7_doShow_25 bX9_showIt_8
    rw [if_neg (show ¬ (16 : Int32) ≤ nI n from nI_ge (b := 16) (by omega) (by decide))]
    rcases hg with hg | ⟨k, hk, hg⟩
    · refine ⟨n, c, m, by omega, ?_, ?_, AF_rfl, AM_rfl, hB, rfl⟩
      · rw [c_isSign, oB_of, hg, if_neg (show ¬ ((0 : Int32) ≤ -1 ∧ (-1 : Int32) ≤ 7) by decide), if_pos rfl]
      · rw [if_pos hg]
    · subst hg
      have gk : (0 ≤ nI k ∧ nI k ≤ 7) := ⟨nI_pos' (by omega), nI_le (b := 7) (by omega) (by decide)⟩
      have nk : ¬ nI k = -1 := (by decide +kernel : ∀ k, k < 8 → ¬ nI k = -1) k hk
      have e33 : (33 : Int32) + nI s = nI (33 + s) := nI_add 33 s
      have e51 : (51 : Int32) + 2 * nI k + nI s = nI (51 + 2 * k + s) := by rw [show (51 : Int32) = nI 51 from rfl]; exact ixp
      obtain ⟨v, c1, m1, a1, a2, a3, a4, a5⟩ := J_read hB hL hQ hs hk
      have hB1 := JB_fr hB a3 a4
      have hL1 := JL_fr hL a3 a4
      have hQ1 := JQ_fr hQ a3
      have hF1 := hB1.2.2.1
      have hc1 := hB1.1
      have hm1 := hB1.2.1
      have er := a4.2.2.2.1 47 (by decide)
      have et := JB_tem hB hs
      have hR : Rrg (mI m 47) := hB.2.2.2.2.2.2.2.2.2.2
      have hFR : FR (mI c1 (f + 1)) (mI m 47) := by
        have := JB_FR hB1
        rw [er] at this
        exact this
      have hput : JB f (wI c1 (f + 1) (upd (mI c1 (f + 1)) (26 + s) (imax 0 (imin (mI m 47 (33 + s) + v) 99)))) (wI m1 47 (upd (mI m 47) (33 + s) (imax 0 (imin (mI m 47 (33 + s) + v) 99)))) := by
        refine JB_put hB1 ?_ (fun i hi => by rw [er]; exact pk_un (fun e => hi (e ▸ (by unfold fP; omega)))) (Rrg_up hR (by unfold fP; omega) (by rw [rl_tem s hs]; exact clampR rfl rfl (by decide)))
        have := FR_upd (p := 26 + s) (x := imax 0 (imin (mI m 47 (33 + s) + v) 99)) hFR (by omega)
        rw [show 7 + (26 + s) = 33 + s by omega] at this
        exact this
      have hf : f = 2 ∨ f = 40 := hB.2.2.2.1
      have af1 : AF f c (wI c1 (f + 1) (upd (mI c1 (f + 1)) (26 + s) (imax 0 (imin (mI m 47 (33 + s) + v) 99)))) := AF_trans (AF_CsF a3) AF_w
      have am1 : AM m (wI m1 47 (upd (mI m 47) (33 + s) (imax 0 (imin (mI m 47 (33 + s) + v) 99)))) := AM_trans (AM_MF a4) (AM_w (fun i hi => by rw [er]; exact pk_un (fun e => hi (e ▸ (by unfold fP; omega)))))
      have ha := sgn_cases (x := mI m 47 (51 + 2 * k + s)) (by
        have := rr hR (i := 51 + 2 * k + s) (by omega) (rl_ans k hk s hs)
        exact this)
      obtain ⟨w, c', m', w1, w2, w3, w4, w5, w6, w7⟩ := ih (n + 1) (mI m 47 (51 + 2 * k + s)) (1 - s) _ _ (by omega) (by omega) ha hput (JL_act hf hL af1 am1) (JQ_act hf hQ af1)
      refine ⟨w, c', m', w1, ?_, ?_, AF_trans af1 w4, AM_trans am1 w5, w6, w7.trans (pk_un (by omega))⟩
      · rw [c_isSign, oB_of, if_pos gk, if_neg (by decide), oR_of hF.1, c_temperOf hF hs, oB_of, oR_of (sh13 h1), a1, oB_of, oR_of hF1.1, c_setTemper hF1 hs, oB_of, et]
        have h3 := hput.1
        rw [oK_of (sh13 h3), rf13_0 h3, oNn_of, oK_of (sh1 h3), rf1_2 h3, oNn_of]
        unfold fX8_pair
        rw [oB_of, ixq, oA_k (sh5 h3) (by omega) (by decide), oI_of, clm (by omega), oI_of, nI_1, i1s hs]
        have e5 : mI (wI c1 (f + 1) (upd (mI c1 (f + 1)) (26 + s) (imax 0 (imin (mI m 47 (33 + s) + v) 99)))) 5 (2 * k + s) = mI m 47 (51 + 2 * k + s) := by
          rw [mI_wI, if_neg (by omega), c_answer hB1 hs hk, er]
        rw [e5]
        exact w2
      · rw [if_neg nk, if_neg (show ¬ (16 : Int32) ≤ nI n from nI_ge (b := 16) (by omega) (by decide)), oK_of (sh45 h2), rf45_3 h2, oNn_of, oK_of (sh45 h2), oNn_of, e33, oA_k (sh47 h2) (by omega) (by decide), oI_of, clm (by omega), oR_of (sh45 h2), a2, oB_of, m_within (fit32 _) (by decide), oB_of, Int32.toInt32_toInt64, oA_k (sh47 hm1) (by omega) (by decide), oU_of, er]
        have h3 := hput.2.1
        rw [oK_of (sh45 h3), rf45_3 h3, oNn_of, e51, oA_k (sh47 h3) (by omega) (by decide), oI_of, clm (by omega), oI_of, nI_1, i1s hs]
        have e5 : mI (wI m1 47 (upd (mI m 47) (33 + s) (imax 0 (imin (mI m 47 (33 + s) + v) 99)))) 47 (51 + 2 * k + s) = mI m 47 (51 + 2 * k + s) := by
          show upd (mI m 47) (33 + s) _ _ = _
          rw [pk_un (by omega)]
        rw [e5]
        exact w3
set_option maxRecDepth 100000 in
/-- a sign is shown by both -/
theorem J_show (hB : JB f c m) (hL : JL c m q) (hQ : JQ c q) (hs : s < 2) (hk : k < 8) : ∃ w c' m', w ≤ 16 ∧ fX7_doShow c 13 f (nI k) (nI s) = some (nI w, c') ∧ fX9_showIt m 45 (nI k) (nI s) = some (nI w, m') ∧ AF f c c' ∧ AM m m' ∧ JB f c' m' ∧ mI m' 47 4 = mI m 47 4 := by
  obtain ⟨w, c', m', w1, w2, w3, w4, w5, w6, w7⟩ := J_showgo (q := q) (f := f) 999983 999983 16 0 (nI k) s c m (by decide) hs (Or.inr ⟨k, hk, rfl⟩) hB hL hQ
  refine ⟨w, c', m', w1, ?_, w3, w4, w5, w6, w7⟩
  unfold fX7_doShow
  rw [c_isSign, oB_of, if_pos (show 0 ≤ nI k ∧ nI k ≤ 7 from ⟨nI_pos' (by omega), nI_le (b := 7) (by omega) (by decide)⟩), if_neg (by decide), c_isSide, oB_of, if_pos (show 0 ≤ nI s ∧ nI s ≤ 1 from ⟨nI_pos' (by omega), nI_le (b := 1) (by omega) (by decide)⟩), if_neg (by decide)]
  exact w2
set_option maxRecDepth 100000 in
/-- a day of both -/
theorem J_pass (hB : JB f c m) (hL : JL c m q) (hQ : JQ c q) {d : Nat} (hd : d < 999) (ed : mI m 47 4 = nI d) : ∃ c' m', fX7_doPass c 13 f = some (nI (d + 1), c') ∧ fX9_passIt m 45 = some ((), m') ∧ AF f c c' ∧ AM m m' ∧ JB f c' m' ∧ mI m' 47 4 = nI (d + 1) := by
  have h1 := hB.1
  have h2 := hB.2.1
  have hF := hB.2.2.1
  have hR : Rrg (mI m 47) := hB.2.2.2.2.2.2.2.2.2.2
  obtain ⟨v, c1, m1, a1, a2, a3, a4, a5⟩ := J_feed (s := 0) hB hL hQ (by decide)
  have hB1 := JB_fr hB a3 a4
  obtain ⟨w, c2, m2, b1, b2, b3, b4, b5⟩ := J_feed (s := 1) hB1 (JL_fr hL a3 a4) (JQ_fr hQ a3) (by decide)
  have hB2 := JB_fr hB1 b3 b4
  have hF1 := hB1.2.2.1
  have hF2 := hB2.2.2.1
  have hc1 := hB1.1
  have hc2 := hB2.1
  have hm1 := hB1.2.1
  have hm2 := hB2.2.1
  have er : mI m2 47 = mI m 47 := (b4.2.2.2.1 47 (by decide)).trans (a4.2.2.2.1 47 (by decide))
  have hFR : FR (mI c2 (f + 1)) (mI m 47) := by
    have := JB_FR hB2
    rw [er] at this
    exact this
  have g24 : mI c2 (f + 1) 24 = mI m 47 31 := hFR.1 24 (by decide)
  have g25 : mI c2 (f + 1) 25 = mI m 47 32 := hFR.1 25 (by decide)
  have g28 : mI c2 (f + 1) 28 = mI m 47 4 := hFR.2
  have ed1 : mI c (f + 1) 28 = nI d := by rw [JB_day hB, ed]
  have lt : nI d < 999 := Int32.not_le.mp (show ¬ (999 : Int32) ≤ nI d from nI_ge (b := 999) hd (by decide))
  have r31 := rr hR (i := 31) (by decide) (rl_sup 0 (by decide))
  have r32 := rr hR (i := 32) (by decide) (rl_sup 1 (by decide))
  unfold rg at a5 b5
  have sc : ∀ (x y : Int32), 0 ≤ x.toInt → x.toInt ≤ 999 → 0 ≤ y.toInt → y.toInt ≤ 99 → imax 0 (imin (x + y) 999) = imin (x + y) 999 ∧ rg (imin (x + y) 999) 0 999 := by
    intro x y x1 x2 y1 y2
    have e := addI2 (x := x) (y := y) (by omega) (by omega)
    have k9 : (999 : Int32).toInt = 999 := by decide
    have k0 : (0 : Int32).toInt = 0 := by decide
    have : rg (imin (x + y) 999) 0 999 := by
      unfold imin rg
      by_cases z : 999 < x + y
      · rw [if_pos z]; omega
      · rw [if_neg z]
        have := Int32.le_iff_toInt_le.mp (Int32.not_lt.mp z)
        omega
    refine ⟨imax0' ?_, this⟩
    rw [Int32.le_iff_toInt_le, k0]
    exact this.1
  obtain ⟨s1, s2⟩ := sc _ v r31.1 r31.2 a5.1 a5.2
  obtain ⟨t1, t2⟩ := sc _ w r32.1 r32.2 b5.1 b5.2
  have e2 : ∀ g, mI (wI c2 (f + 1) g) (f + 1) = g := fun g => by rw [mI_wI, if_pos rfl]
  have w1 : ∀ g, Fr (wI c2 (f + 1) g) f := fun _ => hF2
  have x1 : ∀ g, hSh (wI m2 47 g) := fun _ => hm2
  refine ⟨wI c2 (f + 1) (upd (upd (upd (mI c2 (f + 1)) 24 (imin (mI m 47 31 + v) 999)) 25 (imin (mI m 47 32 + w) 999)) 28 (nI (d + 1))), wI m2 47 (upd (upd (upd (mI m 47) 31 (imin (mI m 47 31 + v) 999)) 32 (imin (mI m 47 32 + w) 999)) 4 (nI (d + 1))), ?_, ?_, AF_trans (AF_trans (AF_CsF a3) (AF_CsF b3)) AF_w, AM_trans (AM_trans (AM_MF a4) (AM_MF b4)) (AM_w ?_), JB_put hB2 (FR_day (FR_upd (FR_upd hFR (by decide)) (by decide))) ?_ ?_, rfl⟩
  · unfold fX7_doPass
    rw [oR_of hF.1, c_day hF, oB_of, ed1, if_pos lt, oR_of (sh13 h1), show (0 : Int32) = nI 0 from rfl, a1, oB_of, oR_of (sh13 hc1), show (1 : Int32) = nI 1 from rfl, b1, oB_of, oR_of hF2.1, c_supplyOf hF2 (by decide), oB_of, oR_of hF2.1, c_setSupply hF2 (by decide), oB_of, oR_of (w1 _).1, c_supplyOf (w1 _) (by decide), oB_of, oR_of (w1 _).1, c_setSupply (w1 _) (by decide), oB_of, wI_s, oR_of (w1 _).1, c_day (w1 _), oB_of, oR_of (w1 _).1, c_setDay (w1 _), oB_of, wI_s, oR_of (w1 _).1, c_day (w1 _), oB_of, e2, e2, e2]
    rw [show upd (mI c2 (f + 1)) (24 + 0) (imin (mI c2 (f + 1) (24 + 0) + v) 999) (24 + 1) = mI c2 (f + 1) 25 from rfl, show mI c2 (f + 1) (24 + 0) = mI c2 (f + 1) 24 from rfl, g24, g25]
    rw [show ∀ x y, upd (upd (mI c2 (f + 1)) (24 + 0) x) (24 + 1) y 28 = mI c2 (f + 1) 28 from fun _ _ => rfl, g28, ed, show nI d + nI 1 = nI (d + 1) from nI_add d 1]
    rfl
  · unfold fX9_passIt
    rw [oR_of (sh45 h2), show (0 : Int32) = nI 0 from rfl, a2, oB_of, oR_of (sh45 hm1), show (1 : Int32) = nI 1 from rfl, b2, oB_of, oK_of (sh45 hm2), rf45_3 hm2, oNn_of, oK_of (sh45 hm2), oNn_of, oA_of (sh47 hm2) (by decide) (by decide), oI_of, er, m_within (fit32 _) (by decide), oB_of, Int32.toInt32_toInt64, oA_of (sh47 hm2) (by decide) (by decide), oU_of]
    rw [oK_of (sh45 (x1 _)), rf45_3 (x1 _), oNn_of, oK_of (sh45 (x1 _)), oNn_of, oA_of (sh47 (x1 _)) (by decide) (by decide), oI_of, m_within (fit32 _) (by decide), oB_of, Int32.toInt32_toInt64, oA_of (sh47 (x1 _)) (by decide) (by decide), oU_of, wI_s]
    rw [oK_of (sh45 (x1 _)), rf45_3 (x1 _), oNn_of, oA_of (sh47 (x1 _)) (by decide) (by decide), oI_of, oA_of (sh47 (x1 _)) (by decide) (by decide), oU_of, wI_s]
    show some ((), wI m2 47 (upd (upd (upd (mI m2 47) 31 (imax 0 (imin (mI m 47 31 + v) 999))) 32 (imax 0 (imin (mI m2 47 32 + w) 999))) 4 (mI m2 47 4 + 1))) = _
    rw [er, s1, t1, ed, nI_1]
  · intro i hi
    rw [er]
    exact up_nf (by unfold fP; omega) (up_nf (by unfold fP; omega) (up_nf (by unfold fP; omega) (fun _ _ => rfl))) i hi
  · intro i hi
    rw [er]
    exact up_nf (by unfold fP; omega) (up_nf (by unfold fP; omega) (up_nf (by unfold fP; omega) (fun _ _ => rfl))) i hi
  · refine Rrg_up (Rrg_up (Rrg_up hR (by unfold fP; omega) s2) (by unfold fP; omega) t2) (by unfold fP; omega) ?_
    exact nI_rg (M := 999) (by omega) (by decide)
end
